/-- the class's numbers of the sorts -/
def cS (s : Nat) : Nat := if s = 1 then 0 else if s = 2 then 1 else if s = 3 then 2 else if s = 4 then 3 else 4
/-- behind the reading of one TOKEN, whose blanks are skipped -/
def rdT (ad : Nat → Nat) (l s t k : Int) (x : Int64) (a : Int) (B : Nat → Int) (K : Nat → Nat) (V : Nat → Int64) (n p i : Nat) (h : ssH) (h' : ssH) : Prop := ∃ (nx : Nat) (V' : Nat → Int64), h' (ad 2) = some (.inr (5, obR ad l s t k x ↑nx ↑n a)) ∧ h' (ad 6) = some (ar 901 (fun j => if j = i then (if kS B n p = 2 then keyOf (kV B n p) else 0) else K j)) ∧ h' (ad 7) = some (arJ 901 V') ∧ nx ≤ n ∧ (2 ≤ kS B n p → nx = kN B n p) ∧ (∀ j, j ≠ i → V' j = V j) ∧ (kS B n p = 2 ∨ kS B n p = 3 → V' i = zL ↑(kV B n p)) ∧ ∀ b, b ≠ ad 2 → b ≠ ad 6 → b ≠ ad 7 → h' b = h b
theorem kP_kP {T : Nat → Int} {n p : Nat} : kP T n (kP T n p) = kP T n p := scn_mid _ _ rfl
theorem updL_ne {V : Nat → Int64} {i j : Nat} {y : Int64} (h : j ≠ i) : vp_updL V i y j = V j := by simp [vp_updL, h]
theorem updL_eq {V : Nat → Int64} {i : Nat} {y : Int64} : vp_updL V i y i = y := by simp [vp_updL]
set_option maxRecDepth 100000 in
set_option maxHeartbeats 400000 in
theorem r_readToken (G : ssG) (h : ssH) {ad : Nat → Nat} {l s t k : Int} {x : Int64} {a : Int} {B : Nat → Int} {S P K : Nat → Nat} {V : Nat → Int64} {p n i : Nat} (hA : ∀ k l, ad k = ad l → k = l) (hr : h (ad 2) = some (.inr (5, obR ad l s t k x (↑(kP B n p)) ↑n a))) (ha : RdA h ad B S P K V) (hB : ∀ k, -128 ≤ B k ∧ B k ≤ 127) (hp : kP B n p ≤ n) (hn : n ≤ 900) (hi : i ≤ 900) (hK : K i = 0) (hk : h (ad 149) = some (arJ 22 kR)) : ssC G mX5_readToken 6 0 0 [.ref (ad 2), .int (zI ↑i)] h (fun r h' => r = some (.int (zI ↑(cS (kS B n p)))) ∧ rdT ad l s t k x a B K V n p i h h') := by
  refine c_of_v okX5_readToken (by decide +kernel) (ls := [some (.ref (ad 2)), some (.int (zI ↑i)), none]) rfl (Nat.le_of_ble_eq_true rfl) ?_
  refine v_run 1 (pc' := 1) (ls' := [some (.ref (ad 2)), some (.int (zI ↑i)), none]) (st' := [.ref (ad 2)]) rfl ?_
  refine v_get rfl hr rfl ?_
  refine v_run 1 (pc' := 5) (ls' := [some (.ref (ad 2)), some (.int (zI ↑i)), none]) (st' := [.ref (ad 2), .int (zI ↑(kP B n p))]) rfl ?_
  refine v_get rfl hr rfl ?_
  refine v_run 0 (pc' := 8) (ls' := [some (.ref (ad 2)), some (.int (zI ↑i)), none]) (st' := [.int (zI ↑n), .int (zI ↑(kP B n p))]) rfl ?_
  refine v_icmp_lt rfl (fun c8 => ?_) (fun c8 => ?_)
  · simp (disch := omega) only [zI_lt, zI_le, zI_eq, zI_lt0, zI_le0, zI_0lt, zI_0le, zI_eq0] at c8
    refine v_run 1 (pc' := 14) (ls' := [some (.ref (ad 2)), some (.int (zI ↑i)), none]) (st' := [.ref (ad 2)]) rfl ?_
    refine v_get rfl hr rfl ?_
    refine v_run 1 (pc' := 18) (ls' := [some (.ref (ad 2)), some (.int (zI ↑i)), none]) (st' := [.ref (ad 2), .ref (ad 3)]) rfl ?_
    refine v_get rfl hr rfl ?_
    refine v_run 0 (pc' := 21) (ls' := [some (.ref (ad 2)), some (.int (zI ↑i)), none]) (st' := [.int (zI ↑(kP B n p)), .ref (ad 3)]) rfl ?_
    refine v_baload' rfl ha.1 (i := (kP B n p)) rfl (by omega) ?_
    refine v_run 2 (pc' := 24) (ls' := [some (.ref (ad 2)), some (.int (zI ↑i)), some (.int (zI (B (kP B n p))))]) (st' := [.int (zI (B (kP B n p)))]) rfl ?_
    refine v_callS (My := mX5_isLetter) (As := [.int (zI (B (kP B n p)))]) (rest := []) (mc := 0) (ms := 0) rfl caX5_isLetter rfl rfl (r_isLetter G _ (B (kP B n p)) (by have := hB (kP B n p); omega)) rfl rfl (Nat.le_of_ble_eq_true rfl) (by omega) ?_
    rintro _ _ ⟨rfl, rfl⟩
    refine v_run 0 (pc' := 27) (ls' := [some (.ref (ad 2)), some (.int (zI ↑i)), some (.int (zI (B (kP B n p))))]) (st' := [.int (zb (lB (B (kP B n p))))]) rfl ?_
    refine v_if_eq rfl (fun c27 => ?_) (fun c27 => ?_)
    · rw [zb_n] at c27
      refine v_run 1 (pc' := 37) (ls' := [some (.ref (ad 2)), some (.int (zI ↑i)), some (.int (zI (B (kP B n p))))]) (st' := [.int (zI (B (kP B n p)))]) rfl ?_
      refine v_callS (My := mX5_isDigit) (As := [.int (zI (B (kP B n p)))]) (rest := []) (mc := 0) (ms := 0) rfl caX5_isDigit rfl rfl (r_isDigit G _ (B (kP B n p)) (by have := hB (kP B n p); omega)) rfl rfl (Nat.le_of_ble_eq_true rfl) (by omega) ?_
      rintro _ _ ⟨rfl, rfl⟩
      refine v_run 0 (pc' := 40) (ls' := [some (.ref (ad 2)), some (.int (zI ↑i)), some (.int (zI (B (kP B n p))))]) (st' := [.int (zb (dB (B (kP B n p))))]) rfl ?_
      refine v_if_eq rfl (fun c40 => ?_) (fun c40 => ?_)
      · rw [zb_n] at c40
        refine v_run 2 (pc' := 51) (ls' := [some (.ref (ad 2)), some (.int (zI ↑i)), some (.int (zI (B (kP B n p))))]) (st' := [.ref (ad 2), .ref (ad 2)]) rfl ?_
        refine v_get rfl hr rfl ?_
        refine v_run 2 (pc' := 56) (ls' := [some (.ref (ad 2)), some (.int (zI ↑i)), some (.int (zI (B (kP B n p))))]) (st' := [.int ((zI ↑(kP B n p)) + (zI 1)), .ref (ad 2)]) rfl ?_
        rw [show ((zI ↑(kP B n p)) + (zI 1) : Int32) = zI ↑(kP B n p + 1) from zI_s1 _]
        refine v_put rfl hr rfl rfl (Nat.le_of_ble_eq_true rfl) ?_
        generalize e1 : hset h (ad 2) _ = h1
        refine v_run 2 (pc' := 62) (ls' := [some (.ref (ad 2)), some (.int (zI ↑i)), some (.int (zI (B (kP B n p))))]) (st' := [.int (zI 59), .int (zI (B (kP B n p)))]) rfl ?_
        refine v_icmp_ne rfl (fun c62 => ?_) (fun c62 => ?_)
        · have hb := hB (kP B n p)
          simp (disch := omega) only [zI_lt, zI_le, zI_eq, zI_lt0, zI_le0, zI_0lt, zI_0le, zI_eq0] at c62
          have hs : kS B n p = 0 := by unfold kS; rw [if_neg (by omega), if_neg (by rw [c27]; decide), if_neg (by rw [c40]; decide), if_neg (by omega)]
          have hK2 : (fun j => if j = i then (if kS B n p = 2 then keyOf (kV B n p) else 0) else K j) = K := by funext j; by_cases e : j = i; (simp [e, hs, hK]); (simp [e])
          refine v_run 1 (pc' := 70) (ls' := [some (.ref (ad 2)), some (.int (zI ↑i)), some (.int (zI (B (kP B n p))))]) (st' := [.int (zI 4)]) rfl ?_
          exact v_iret rfl rfl rfl ⟨by rw [hs]; rfl, kP B n p + 1, V, by rw [← e1, hset_self]; rfl, by rw [← e1, hK2]; exact ((hset_ne _ _ (ad_ne hA (by decide))).trans ha.2.2.2.1), by rw [← e1]; exact ((hset_ne _ _ (ad_ne hA (by decide))).trans ha.2.2.2.2), by omega, fun z => absurd z (by omega), fun _ _ => rfl, fun z => absurd z (by omega), fun b b1 _ _ => by rw [← e1, hset_ne _ _ b1]⟩
        · have hb := hB (kP B n p)
          simp (disch := omega) only [zI_lt, zI_le, zI_eq, zI_lt0, zI_le0, zI_0lt, zI_0le, zI_eq0] at c62
          have hs : kS B n p = 4 := by unfold kS; rw [if_neg (by omega), if_neg (by rw [c27]; decide), if_neg (by rw [c40]; decide), if_pos (by omega)]
          have hnx : kN B n p = kP B n p + 1 := by unfold kN; rw [if_neg (by omega), if_neg (by rw [c27]; decide), if_neg (by rw [c40]; decide), if_pos (by omega)]
          have hK2 : (fun j => if j = i then (if kS B n p = 2 then keyOf (kV B n p) else 0) else K j) = K := by funext j; by_cases e : j = i; (simp [e, hs, hK]); (simp [e])
          refine v_run 2 (pc' := 70) (ls' := [some (.ref (ad 2)), some (.int (zI ↑i)), some (.int (zI (B (kP B n p))))]) (st' := [.int (zI 3)]) rfl ?_
          exact v_iret rfl rfl rfl ⟨by rw [hs]; rfl, kP B n p + 1, V, by rw [← e1, hset_self]; rfl, by rw [← e1, hK2]; exact ((hset_ne _ _ (ad_ne hA (by decide))).trans ha.2.2.2.1), by rw [← e1]; exact ((hset_ne _ _ (ad_ne hA (by decide))).trans ha.2.2.2.2), by omega, fun _ => hnx.symm, fun _ _ => rfl, fun z => absurd z (by omega), fun b b1 _ _ => by rw [← e1, hset_ne _ _ b1]⟩
      · rw [zb_n, Bool.not_eq_false] at c40
        have hs : kS B n p = if scn B n dB (kP B n p) - kP B n p ≤ 3 then 3 else 0 := by unfold kS; rw [if_neg (by omega), if_neg (by rw [c27]; decide), if_pos c40]
        have hv : kV B n p = pkF (dF B (kP B n p)) 10 (scn B n dB (kP B n p) - kP B n p) := by unfold kV; rw [if_neg (by rw [c27]; decide)]
        have hnx : kN B n p = scn B n dB (kP B n p) := by unfold kN; rw [if_neg (by omega), if_neg (by rw [c27]; decide), if_pos c40]
        have hle := scn_le (T := B) (c := dB) (n := n) _ (kP B n p) rfl (by omega)
        refine v_run 2 (pc' := 45) (ls' := [some (.ref (ad 2)), some (.int (zI ↑i)), some (.int (zI (B (kP B n p))))]) (st' := [.int (zI ↑i), .ref (ad 2)]) rfl ?_
        refine v_callV (My := mX5_readWhole) (As := [.int (zI ↑i)]) (rest := []) (mc := 0) (ms := 0) rfl caX5_readWhole rfl rfl rfl hr rfl rfl (r_readWhole G _ hA hr ha hB (by omega) hn hi) rfl rfl (Nat.le_of_ble_eq_true rfl) (by omega) ?_
        rintro _ h1 ⟨y, hy, rfl, e1⟩
        refine v_run 0 (pc' := 48) (ls' := [some (.ref (ad 2)), some (.int (zI ↑i)), some (.int (zI (B (kP B n p))))]) (st' := [.int (zI (if scn B n dB (kP B n p) - kP B n p ≤ 3 then 2 else 4))]) rfl ?_
        have hs2 : ¬ kS B n p = 2 := by rw [hs]; split <;> omega
        have hK2 : (fun j => if j = i then (if kS B n p = 2 then keyOf (kV B n p) else 0) else K j) = K := by funext j; by_cases e : j = i; (simp [e, hs2, hK]); (simp [e])
        refine v_iret rfl rfl rfl ⟨by rw [hs]; by_cases e : scn B n dB (kP B n p) - kP B n p ≤ 3; (rw [if_pos e, if_pos e]; rfl); (rw [if_neg e, if_neg e]; rfl), scn B n dB (kP B n p), vp_updL V i y, ?_, ?_, ?_, hle, fun _ => hnx.symm, fun j hj => updL_ne hj, fun z => ?_, fun b b1 b2 b3 => ?_⟩
        · rw [← e1]; exact ((hset_ne _ _ (ad_ne hA (by decide))).trans (hset_self _ _ _))
        · rw [← e1, hK2]; exact ((hset_ne _ _ (ad_ne hA (by decide))).trans ((hset_ne _ _ (ad_ne hA (by decide))).trans ha.2.2.2.1))
        · rw [← e1, hset_self]
        · rw [updL_eq, hv]; apply hy; by_cases e8 : scn B n dB (kP B n p) - kP B n p ≤ 3
          · exact e8
          · rw [hs, if_neg e8] at z; omega
        · rw [← e1, hset_ne _ _ b3, hset_ne _ _ b1]
    · rw [zb_n, Bool.not_eq_false] at c27
      have hs : kS B n p = if scn B n lB (kP B n p) - kP B n p ≤ 8 then 2 else 0 := by unfold kS; rw [if_neg (by omega), if_pos c27]
      have hv : kV B n p = pkF (wF B (kP B n p)) 32 (scn B n lB (kP B n p) - kP B n p) := by unfold kV; rw [if_pos c27]
      have hnx : kN B n p = scn B n lB (kP B n p) := by unfold kN; rw [if_neg (by omega), if_pos c27]
      have hle := scn_le (T := B) (c := lB) (n := n) _ (kP B n p) rfl (by omega)
      have hin : ∀ j, j < scn B n lB (kP B n p) - kP B n p → lB (B (kP B n p + j)) = true := fun j hj => scn_in (n := n) _ (kP B n p) rfl _ (by omega) (by omega)
      refine v_run 2 (pc' := 32) (ls' := [some (.ref (ad 2)), some (.int (zI ↑i)), some (.int (zI (B (kP B n p))))]) (st' := [.int (zI ↑i), .ref (ad 2)]) rfl ?_
      refine v_callV (My := mX5_readWord) (As := [.int (zI ↑i)]) (rest := []) (mc := 0) (ms := 0) rfl caX5_readWord rfl rfl rfl hr rfl rfl (r_readWord G _ hA hr ha hB (by omega) hn hi hK hk) rfl rfl (Nat.le_of_ble_eq_true rfl) (by omega) ?_
      rintro _ h1 ⟨y, hy, rfl, e1⟩
      refine v_run 0 (pc' := 35) (ls' := [some (.ref (ad 2)), some (.int (zI ↑i)), some (.int (zI (B (kP B n p))))]) (st' := [.int (zI (if scn B n lB (kP B n p) - kP B n p ≤ 8 then 1 else 4))]) rfl ?_
      refine v_iret rfl rfl rfl ⟨by rw [hs]; by_cases e : scn B n lB (kP B n p) - kP B n p ≤ 8; (rw [if_pos e, if_pos e]; rfl); (rw [if_neg e, if_neg e]; rfl), scn B n lB (kP B n p), vp_updL V i y, ?_, ?_, ?_, hle, fun _ => hnx.symm, fun j hj => updL_ne hj, fun z => ?_, fun b b1 b2 b3 => ?_⟩
      · rw [← e1]; exact ((hset_ne _ _ (ad_ne hA (by decide))).trans ((hset_ne _ _ (ad_ne hA (by decide))).trans (hset_self _ _ _)))
      · rw [← e1, hset_self]; congr 2; funext j; by_cases e : j = i
        · rw [if_pos e, if_pos e, hs, hv]
          by_cases e8 : scn B n lB (kP B n p) - kP B n p ≤ 8
          · rw [if_pos e8, if_pos rfl]
          · rw [if_neg e8, if_neg (by decide), long_key hin (by omega)]
        · rw [if_neg e, if_neg e]
      · rw [← e1]; exact ((hset_ne _ _ (ad_ne hA (by decide))).trans (hset_self _ _ _))
      · rw [updL_eq, hv]; apply hy; by_cases e8 : scn B n lB (kP B n p) - kP B n p ≤ 8
        · exact e8
        · rw [hs, if_neg e8] at z; omega
      · rw [← e1, hset_ne _ _ b2, hset_ne _ _ b3, hset_ne _ _ b1]
  · simp (disch := omega) only [zI_lt, zI_le, zI_eq, zI_lt0, zI_le0, zI_0lt, zI_0le, zI_eq0] at c8
    have hs : kS B n p = 1 := by unfold kS; rw [if_pos (by omega)]
    have hK2 : (fun j => if j = i then (if kS B n p = 2 then keyOf (kV B n p) else 0) else K j) = K := by funext j; by_cases e : j = i; (simp [e, hs, hK]); (simp [e])
    refine v_run 1 (pc' := 12) (ls' := [some (.ref (ad 2)), some (.int (zI ↑i)), none]) (st' := [.int (zI 0)]) rfl ?_
    exact v_iret rfl rfl rfl ⟨by rw [hs]; rfl, kP B n p, V, hr, by rw [hK2]; exact ha.2.2.2.1, ha.2.2.2.2, by omega, fun z => absurd z (by omega), fun _ _ => rfl, fun z => absurd z (by omega), fun _ _ _ _ => rfl⟩

/-- the rows tell the TOKENS up to the last -/
def TkI (B : Nat → Int) (n i : Nat) (S P K : Nat → Nat) (V : Nat → Int64) : Prop := ∀ j, j < i → liv B n j → S j = cS (tS B n j) ∧ P j = tP B n j ∧ K j = tK B n j ∧ (tS B n j = 2 ∨ tS B n j = 3 → V j = zL ↑(tV B n j))
def frR (ad : Nat → Nat) (h h' : ssH) : Prop := ∀ b, b ≠ ad 2 → b ≠ ad 4 → b ≠ ad 5 → b ≠ ad 6 → b ≠ ad 7 → h' b = h b
theorem liv_dn {T : Nat → Int} {n i j : Nat} (h : liv T n j) (hi : i ≤ j) : liv T n i := fun q hq => h q (by omega)
set_option maxRecDepth 100000 in
set_option maxHeartbeats 400000 in
theorem r_split (G : ssG) (h : ssH) {ad : Nat → Nat} {l s t k : Int} {x : Int64} {a : Int} {B : Nat → Int} {S P K : Nat → Nat} {V : Nat → Int64} {nx en : Int} {n : Nat} (hA : ∀ k l, ad k = ad l → k = l) (hr : h (ad 2) = some (.inr (5, obR ad l s t k x nx en a))) (ha : RdA h ad B S P K V) (hB : ∀ k, -128 ≤ B k ∧ B k ≤ 127) (hn : n ≤ 900) (hk : h (ad 149) = some (arJ 22 kR)) : ssC G mX5_split 7 0 0 [.ref (ad 2), .int (zI ↑n)] h (fun r h' => r = none ∧ ∃ (nx : Nat) (S P K : Nat → Nat) (V : Nat → Int64), RdA h' ad B S P K V ∧ TkI B n 901 S P K V ∧ h' (ad 2) = some (.inr (5, obR ad l (↑(S 0)) (↑(P 0)) (↑(K 0)) (V 0) ↑nx ↑n 0)) ∧ frR ad h h') := by
  refine c_of_v okX5_split (by decide +kernel) (ls := [some (.ref (ad 2)), some (.int (zI ↑n)), none, none]) rfl (Nat.le_of_ble_eq_true rfl) ?_
  refine v_run 3 (pc' := 5) (ls' := [some (.ref (ad 2)), some (.int (zI ↑n)), none, none]) (st' := [.int (zI 900), .int (zI ↑n), .ref (ad 2)]) rfl ?_
  refine v_min rfl rfl (by omega) (Nat.le_of_ble_eq_true rfl) ?_
  rw [show ((if (zI 900) < (zI ↑n) then (zI 900) else (zI ↑n)) : Int32) = zI ↑n from by split; (rename_i c; simp (disch := omega) only [zI_lt] at c; omega); rfl]
  refine v_put rfl hr rfl rfl (Nat.le_of_ble_eq_true rfl) ?_
  refine v_run 2 (pc' := 13) (ls' := [some (.ref (ad 2)), some (.int (zI ↑n)), none, none]) (st' := [.int (zI 0), .ref (ad 2)]) rfl ?_
  refine v_put rfl (hset_self _ _ _) rfl rfl (Nat.le_of_ble_eq_true rfl) ?_
  rw [hset_hset]
  refine v_run 4 (pc' := 20) (ls' := [some (.ref (ad 2)), some (.int (zI ↑n)), some (.int (zI 1)), some (.int (zI 0))]) (st' := []) rfl ?_
  generalize e1 : hset h (ad 2) _ = h1
  have hr1 : h1 (ad 2) = some (.inr (5, obR ad l s t k x ↑0 ↑n a)) := by rw [← e1, hset_self]; rfl
  have ha1 : RdA h1 ad B S P K V := by rw [← e1]; exact ⟨((hset_ne _ _ (ad_ne hA (by decide))).trans ha.1), ((hset_ne _ _ (ad_ne hA (by decide))).trans ha.2.1), ((hset_ne _ _ (ad_ne hA (by decide))).trans ha.2.2.1), ((hset_ne _ _ (ad_ne hA (by decide))).trans ha.2.2.2.1), ((hset_ne _ _ (ad_ne hA (by decide))).trans ha.2.2.2.2)⟩
  have hf1 : frR ad h h1 := fun b b2 _ _ _ _ => by rw [← e1, hset_ne _ _ b2]
  clear e1
  refine v_drop 1 rfl ?_
  have lp : ∀ (f : Nat) (i nx : Nat) (S P K : Nat → Nat) (V : Nat → Int64) (mr : Bool) (h1 : ssH), RdA h1 ad B S P K V ∧ h1 (ad 2) = some (.inr (5, obR ad l s t k x ↑nx ↑n a)) ∧ frR ad h h1 ∧ i ≤ 901 ∧ TkI B n i S P K V ∧ (mr = true → liv B n i ∧ nx = pos B n i) ∧ (mr = false → ¬ liv B n i) ∧ nx ≤ n → 901 + 1 ≤ i + f → ssV G mX5_split 7 0 0 (fun r h' => r = none ∧ ∃ (nx : Nat) (S P K : Nat → Nat) (V : Nat → Int64), RdA h' ad B S P K V ∧ TkI B n 901 S P K V ∧ h' (ad 2) = some (.inr (5, obR ad l (↑(S 0)) (↑(P 0)) (↑(K 0)) (V 0) ↑nx ↑n 0)) ∧ frR ad h h') 20 [some (.ref (ad 2)), none, some (.int (zb mr)), some (.int (zI ↑i))] [] (h1) := by
    intro f
    induction f with
    | zero => intro i nx S P K V mr h1 hs1 hs2; obtain ⟨ha, hr, hf, hi, hT, hm1, hm2, hnx⟩ := hs1; exact absurd hs2 (by omega)
    | succ f ihlp =>
      intro i nx S P K V mr h1 hs1 hs2
      obtain ⟨ha, hr, hf, hi, hT, hm1, hm2, hnx⟩ := hs1
      refine v_run 2 (pc' := 24) (ls' := [some (.ref (ad 2)), none, some (.int (zb mr)), some (.int (zI ↑i))]) (st' := [.int (zI 900), .int (zI ↑i)]) rfl ?_
      refine v_icmp_gt rfl (fun c24 => ?_) (fun c24 => ?_)
      · simp (disch := omega) only [zI_lt, zI_le, zI_eq, zI_lt0, zI_le0, zI_0lt, zI_0le, zI_eq0] at c24
        have hno : ¬ liv B n i := fun z => by have := liv_le z; omega
        refine v_run 2 (pc' := 137) (ls' := [some (.ref (ad 2)), none, some (.int (zb mr)), some (.int (zI ↑i))]) (st' := [.int (zI (-1)), .ref (ad 2)]) rfl ?_
        refine v_put rfl hr rfl rfl (Nat.le_of_ble_eq_true rfl) ?_
        generalize e2 : hset h1 (ad 2) _ = h2
        have hr2 : h2 (ad 2) = some (.inr (5, obR ad l s t k x ↑nx ↑n (↑0 - 1))) := by rw [← e2, hset_self]; rfl
        have ha2 : RdA h2 ad B S P K V := by rw [← e2]; exact ⟨((hset_ne _ _ (ad_ne hA (by decide))).trans ha.1), ((hset_ne _ _ (ad_ne hA (by decide))).trans ha.2.1), ((hset_ne _ _ (ad_ne hA (by decide))).trans ha.2.2.1), ((hset_ne _ _ (ad_ne hA (by decide))).trans ha.2.2.2.1), ((hset_ne _ _ (ad_ne hA (by decide))).trans ha.2.2.2.2)⟩
        refine v_run 1 (pc' := 141) (ls' := [some (.ref (ad 2)), none, some (.int (zb mr)), some (.int (zI ↑i))]) (st' := [.ref (ad 2)]) rfl ?_
        refine v_callV (My := mX5_advance) (As := []) (rest := []) (mc := 0) (ms := 0) rfl caX5_advance rfl rfl rfl hr2 rfl rfl (r_advance G _ (i := 0) hA hr2 ha2 (by omega)) rfl rfl (Nat.le_of_ble_eq_true rfl) (by omega) ?_
        rintro _ h3 ⟨rfl, e3⟩
        refine v_run 0 (pc' := 144) (ls' := [some (.ref (ad 2)), none, some (.int (zb mr)), some (.int (zI ↑i))]) (st' := []) rfl ?_
        exact v_vret rfl rfl ⟨rfl, nx, S, P, K, V, by rw [← e3]; exact ⟨((hset_ne _ _ (ad_ne hA (by decide))).trans ha2.1), ((hset_ne _ _ (ad_ne hA (by decide))).trans ha2.2.1), ((hset_ne _ _ (ad_ne hA (by decide))).trans ha2.2.2.1), ((hset_ne _ _ (ad_ne hA (by decide))).trans ha2.2.2.2.1), ((hset_ne _ _ (ad_ne hA (by decide))).trans ha2.2.2.2.2)⟩, fun j hj hl => hT j (Nat.lt_of_not_le fun q => hno (liv_dn hl q)) hl, by rw [← e3, hset_self]; rfl, fun b b2 b4 b5 b6 b7 => by rw [← e3, hset_ne _ _ b2, ← e2, hset_ne _ _ b2]; exact hf b b2 b4 b5 b6 b7⟩
      · simp (disch := omega) only [zI_lt, zI_le, zI_eq, zI_lt0, zI_le0, zI_0lt, zI_0le, zI_eq0] at c24
        refine v_run 1 (pc' := 28) (ls' := [some (.ref (ad 2)), none, some (.int (zb mr)), some (.int (zI ↑i))]) (st' := [.int (zb mr)]) rfl ?_
        refine v_if_eq rfl (fun c28 => ?_) (fun c28 => ?_)
        · rw [zb_n] at c28
          have hno : ¬ liv B n i := hm2 c28
          refine v_run 2 (pc' := 137) (ls' := [some (.ref (ad 2)), none, some (.int (zb mr)), some (.int (zI ↑i))]) (st' := [.int (zI (-1)), .ref (ad 2)]) rfl ?_
          refine v_put rfl hr rfl rfl (Nat.le_of_ble_eq_true rfl) ?_
          generalize e2 : hset h1 (ad 2) _ = h2
          have hr2 : h2 (ad 2) = some (.inr (5, obR ad l s t k x ↑nx ↑n (↑0 - 1))) := by rw [← e2, hset_self]; rfl
          have ha2 : RdA h2 ad B S P K V := by rw [← e2]; exact ⟨((hset_ne _ _ (ad_ne hA (by decide))).trans ha.1), ((hset_ne _ _ (ad_ne hA (by decide))).trans ha.2.1), ((hset_ne _ _ (ad_ne hA (by decide))).trans ha.2.2.1), ((hset_ne _ _ (ad_ne hA (by decide))).trans ha.2.2.2.1), ((hset_ne _ _ (ad_ne hA (by decide))).trans ha.2.2.2.2)⟩
          refine v_run 1 (pc' := 141) (ls' := [some (.ref (ad 2)), none, some (.int (zb mr)), some (.int (zI ↑i))]) (st' := [.ref (ad 2)]) rfl ?_
          refine v_callV (My := mX5_advance) (As := []) (rest := []) (mc := 0) (ms := 0) rfl caX5_advance rfl rfl rfl hr2 rfl rfl (r_advance G _ (i := 0) hA hr2 ha2 (by omega)) rfl rfl (Nat.le_of_ble_eq_true rfl) (by omega) ?_
          rintro _ h3 ⟨rfl, e3⟩
          refine v_run 0 (pc' := 144) (ls' := [some (.ref (ad 2)), none, some (.int (zb mr)), some (.int (zI ↑i))]) (st' := []) rfl ?_
          exact v_vret rfl rfl ⟨rfl, nx, S, P, K, V, by rw [← e3]; exact ⟨((hset_ne _ _ (ad_ne hA (by decide))).trans ha2.1), ((hset_ne _ _ (ad_ne hA (by decide))).trans ha2.2.1), ((hset_ne _ _ (ad_ne hA (by decide))).trans ha2.2.2.1), ((hset_ne _ _ (ad_ne hA (by decide))).trans ha2.2.2.2.1), ((hset_ne _ _ (ad_ne hA (by decide))).trans ha2.2.2.2.2)⟩, fun j hj hl => hT j (Nat.lt_of_not_le fun q => hno (liv_dn hl q)) hl, by rw [← e3, hset_self]; rfl, fun b b2 b4 b5 b6 b7 => by rw [← e3, hset_ne _ _ b2, ← e2, hset_ne _ _ b2]; exact hf b b2 b4 b5 b6 b7⟩
        · rw [zb_n, Bool.not_eq_false] at c28
          obtain ⟨hl, hp⟩ := hm1 c28
          subst hp
          have lq : ∀ (f2 : Nat) (m : Nat) (h1 : ssH), (RdA h1 ad B S P K V ∧ h1 (ad 2) = some (.inr (5, obR ad l s t k x (↑(pos B n i + m)) ↑n a)) ∧ frR ad h h1 ∧ pos B n i + m ≤ n ∧ kP B n (pos B n i) = scn B n bB (pos B n i + m)) → n + 1 ≤ pos B n i + m + f2 → ssV G mX5_split 7 0 0 (fun r h' => r = none ∧ ∃ (nx : Nat) (S P K : Nat → Nat) (V : Nat → Int64), RdA h' ad B S P K V ∧ TkI B n 901 S P K V ∧ h' (ad 2) = some (.inr (5, obR ad l (↑(S 0)) (↑(P 0)) (↑(K 0)) (V 0) ↑nx ↑n 0)) ∧ frR ad h h') 31 [some (.ref (ad 2)), none, some (.int (zb mr)), some (.int (zI ↑i))] [] (h1) := by
            intro f2
            induction f2 with
            | zero => intro m h1 hs1 hs2; obtain ⟨ha, hr, hf, g1, g2⟩ := hs1; exact absurd hs2 (by omega)
            | succ f2 ihlq =>
              intro m h1 hs1 hs2
              obtain ⟨ha, hr, hf, g1, g2⟩ := hs1
              refine v_run 1 (pc' := 32) (ls' := [some (.ref (ad 2)), none, some (.int (zb mr)), some (.int (zI ↑i))]) (st' := [.ref (ad 2)]) rfl ?_
              refine v_get rfl hr rfl ?_
              refine v_run 1 (pc' := 36) (ls' := [some (.ref (ad 2)), none, some (.int (zb mr)), some (.int (zI ↑i))]) (st' := [.ref (ad 2), .int (zI ↑(pos B n i + m))]) rfl ?_
              refine v_get rfl hr rfl ?_
              refine v_run 0 (pc' := 39) (ls' := [some (.ref (ad 2)), none, some (.int (zb mr)), some (.int (zI ↑i))]) (st' := [.int (zI ↑n), .int (zI ↑(pos B n i + m))]) rfl ?_
              refine v_icmp_ge rfl (fun c39 => ?_) (fun c39 => ?_)
              · simp (disch := omega) only [zI_lt, zI_le, zI_eq, zI_lt0, zI_le0, zI_0lt, zI_0le, zI_eq0] at c39
                have e1 : pos B n i + m = kP B n (pos B n i) := by rw [g2]; exact (scn_stop (by omega)).symm
                rw [e1] at hr
                refine v_run 1 (pc' := 70) (ls' := [some (.ref (ad 2)), none, some (.int (zb mr)), some (.int (zI ↑i))]) (st' := [.ref (ad 2)]) rfl ?_
                refine v_get rfl hr rfl ?_
                refine v_run 2 (pc' := 75) (ls' := [some (.ref (ad 2)), none, some (.int (zb mr)), some (.int (zI ↑i))]) (st' := [.ref (ad 2), .int (zI ↑i), .ref (ad 5)]) rfl ?_
                refine v_get rfl hr rfl ?_
                refine v_run 0 (pc' := 78) (ls' := [some (.ref (ad 2)), none, some (.int (zb mr)), some (.int (zI ↑i))]) (st' := [.int (zI ↑(kP B n (pos B n i))), .int (zI ↑i), .ref (ad 5)]) rfl ?_
                have hk1 : h1 (ad 149) = some (arJ 22 kR) := (hf _ (ad_ne hA (by decide)) (ad_ne hA (by decide)) (ad_ne hA (by decide)) (ad_ne hA (by decide)) (ad_ne hA (by decide))).trans hk
                refine v_iastore' rfl ha.2.2.1 (i := i) rfl (by omega) ?_
                rw [ar_upd]
                generalize e5 : hset h1 (ad 5) _ = h5
                have hk5 : h5 (ad 149) = some (arJ 22 kR) := by rw [← e5]; exact ((hset_ne _ _ (ad_ne hA (by decide))).trans hk1)
                have hr5 : h5 (ad 2) = some (.inr (5, obR ad l s t k x (↑(kP B n (pos B n i))) ↑n a)) := by rw [← e5]; exact ((hset_ne _ _ (ad_ne hA (by decide))).trans hr)
                have ha5 : RdA h5 ad B S (fun j => if j = i then kP B n (pos B n i) else P j) K V := by rw [← e5]; exact ⟨((hset_ne _ _ (ad_ne hA (by decide))).trans ha.1), ((hset_ne _ _ (ad_ne hA (by decide))).trans ha.2.1), hset_self _ _ _, ((hset_ne _ _ (ad_ne hA (by decide))).trans ha.2.2.2.1), ((hset_ne _ _ (ad_ne hA (by decide))).trans ha.2.2.2.2)⟩
                refine v_run 1 (pc' := 80) (ls' := [some (.ref (ad 2)), none, some (.int (zb mr)), some (.int (zI ↑i))]) (st' := [.ref (ad 2)]) rfl ?_
                refine v_get rfl hr5 rfl ?_
                refine v_run 2 (pc' := 85) (ls' := [some (.ref (ad 2)), none, some (.int (zb mr)), some (.int (zI ↑i))]) (st' := [.int (zI 0), .int (zI ↑i), .ref (ad 6)]) rfl ?_
                refine v_iastore' rfl ha5.2.2.2.1 (i := i) rfl (by omega) ?_
                rw [show (zI 0 : Int32) = zI ↑(0 : Nat) from rfl, ar_upd]
                generalize e6 : hset h5 (ad 6) _ = h6
                have hk6 : h6 (ad 149) = some (arJ 22 kR) := by rw [← e6]; exact ((hset_ne _ _ (ad_ne hA (by decide))).trans hk5)
                have hr6 : h6 (ad 2) = some (.inr (5, obR ad l s t k x (↑(kP B n (pos B n i))) ↑n a)) := by rw [← e6]; exact ((hset_ne _ _ (ad_ne hA (by decide))).trans hr5)
                have ha6 : RdA h6 ad B S (fun j => if j = i then kP B n (pos B n i) else P j) (fun j => if j = i then 0 else K j) V := by rw [← e6]; exact ⟨((hset_ne _ _ (ad_ne hA (by decide))).trans ha5.1), ((hset_ne _ _ (ad_ne hA (by decide))).trans ha5.2.1), ((hset_ne _ _ (ad_ne hA (by decide))).trans ha5.2.2.1), hset_self _ _ _, ((hset_ne _ _ (ad_ne hA (by decide))).trans ha5.2.2.2.2)⟩
                refine v_run 1 (pc' := 87) (ls' := [some (.ref (ad 2)), none, some (.int (zb mr)), some (.int (zI ↑i))]) (st' := [.ref (ad 2)]) rfl ?_
                refine v_get rfl hr6 rfl ?_
                refine v_run 2 (pc' := 92) (ls' := [some (.ref (ad 2)), none, some (.int (zb mr)), some (.int (zI ↑i))]) (st' := [.long (zL 0), .int (zI ↑i), .ref (ad 7)]) rfl ?_
                refine v_lastore' rfl ha6.2.2.2.2 (i := i) rfl (by omega) ?_
                generalize e7 : hset h6 (ad 7) _ = h7
                have hk7 : h7 (ad 149) = some (arJ 22 kR) := by rw [← e7]; exact ((hset_ne _ _ (ad_ne hA (by decide))).trans hk6)
                have hr7 : h7 (ad 2) = some (.inr (5, obR ad l s t k x (↑(kP B n (pos B n i))) ↑n a)) := by rw [← e7]; exact ((hset_ne _ _ (ad_ne hA (by decide))).trans hr6)
                have ha7 : RdA h7 ad B S (fun j => if j = i then kP B n (pos B n i) else P j) (fun j => if j = i then 0 else K j) (vp_updL V i (zL 0)) := by rw [← e7]; exact ⟨((hset_ne _ _ (ad_ne hA (by decide))).trans ha6.1), ((hset_ne _ _ (ad_ne hA (by decide))).trans ha6.2.1), ((hset_ne _ _ (ad_ne hA (by decide))).trans ha6.2.2.1), ((hset_ne _ _ (ad_ne hA (by decide))).trans ha6.2.2.2.1), hset_self _ _ _⟩
                refine v_run 1 (pc' := 94) (ls' := [some (.ref (ad 2)), none, some (.int (zb mr)), some (.int (zI ↑i))]) (st' := [.ref (ad 2)]) rfl ?_
                refine v_get rfl hr7 rfl ?_
                refine v_run 3 (pc' := 100) (ls' := [some (.ref (ad 2)), none, some (.int (zb mr)), some (.int (zI ↑i))]) (st' := [.int (zI ↑i), .ref (ad 2), .int (zI ↑i), .ref (ad 4)]) rfl ?_
                refine v_callV (My := mX5_readToken) (As := [.int (zI ↑i)]) (rest := [.int (zI ↑i), .ref (ad 4)]) (mc := 0) (ms := 0) rfl caX5_readToken rfl rfl rfl hr7 rfl rfl (r_readToken G _ (p := pos B n i) (i := i) hA hr7 ha7 hB (by omega) hn (by omega) (if_pos rfl) hk7) rfl rfl (Nat.le_of_ble_eq_true rfl) (by omega) ?_
                rintro _ h8 ⟨rfl, nx, V2, t1, t2, t3, t4, t5, t6, t7, t8⟩
                refine v_run 0 (pc' := 103) (ls' := [some (.ref (ad 2)), none, some (.int (zb mr)), some (.int (zI ↑i))]) (st' := [.int (zI ↑(cS (kS B n (pos B n i)))), .int (zI ↑i), .ref (ad 4)]) rfl ?_
                have ha8 : RdA h8 ad B S (fun j => if j = i then kP B n (pos B n i) else P j) (fun j => if j = i then (if kS B n (pos B n i) = 2 then keyOf (kV B n (pos B n i)) else 0) else (fun j => if j = i then 0 else K j) j) V2 := ⟨(t8 _ (ad_ne hA (by decide)) (ad_ne hA (by decide)) (ad_ne hA (by decide))).trans ha7.1, (t8 _ (ad_ne hA (by decide)) (ad_ne hA (by decide)) (ad_ne hA (by decide))).trans ha7.2.1, (t8 _ (ad_ne hA (by decide)) (ad_ne hA (by decide)) (ad_ne hA (by decide))).trans ha7.2.2.1, t2, t3⟩
                refine v_iastore' rfl ha8.2.1 (i := i) rfl (by omega) ?_
                rw [ar_upd]
                generalize e9 : hset h8 (ad 4) _ = h9
                have hr9 : h9 (ad 2) = some (.inr (5, obR ad l s t k x ↑nx ↑n a)) := by rw [← e9]; exact ((hset_ne _ _ (ad_ne hA (by decide))).trans t1)
                have ha9 : RdA h9 ad B (fun j => if j = i then cS (kS B n (pos B n i)) else S j) (fun j => if j = i then kP B n (pos B n i) else P j) (fun j => if j = i then (if kS B n (pos B n i) = 2 then keyOf (kV B n (pos B n i)) else 0) else (fun j => if j = i then 0 else K j) j) V2 := by rw [← e9]; exact ⟨((hset_ne _ _ (ad_ne hA (by decide))).trans ha8.1), hset_self _ _ _, ((hset_ne _ _ (ad_ne hA (by decide))).trans ha8.2.2.1), ((hset_ne _ _ (ad_ne hA (by decide))).trans ha8.2.2.2.1), ((hset_ne _ _ (ad_ne hA (by decide))).trans ha8.2.2.2.2)⟩
                have hf9 : frR ad h h9 := fun b b2 b4 b5 b6 b7 => by rw [← e9, hset_ne _ _ b4, t8 b b2 b6 b7, ← e7, hset_ne _ _ b7, ← e6, hset_ne _ _ b6, ← e5, hset_ne _ _ b5]; exact hf b b2 b4 b5 b6 b7
                have hT9 : TkI B n (i + 1) (fun j => if j = i then cS (kS B n (pos B n i)) else S j) (fun j => if j = i then kP B n (pos B n i) else P j) (fun j => if j = i then (if kS B n (pos B n i) = 2 then keyOf (kV B n (pos B n i)) else 0) else (fun j => if j = i then 0 else K j) j) V2 := by
                    intro j hj hlj
                    by_cases e : j = i
                    · rw [e]
                      refine ⟨if_pos rfl, if_pos rfl, ?_, t7⟩
                      show (if i = i then (if kS B n (pos B n i) = 2 then keyOf (kV B n (pos B n i)) else 0) else _) = _
                      rw [if_pos rfl]; rfl
                    · obtain ⟨w1, w2, w3, w4⟩ := hT j (by omega) hlj
                      refine ⟨?_, ?_, ?_, fun z => ?_⟩
                      · show (if j = i then _ else S j) = _
                        rw [if_neg e]; exact w1
                      · show (if j = i then _ else P j) = _
                        rw [if_neg e]; exact w2
                      · show (if j = i then _ else if j = i then 0 else K j) = _
                        rw [if_neg e, if_neg e]; exact w3
                      · rw [t6 j e, updL_ne e]; exact w4 z
                have hcs : kS B n (pos B n i) ≤ 4 := kS_le _
                refine v_run 1 (pc' := 105) (ls' := [some (.ref (ad 2)), none, some (.int (zb mr)), some (.int (zI ↑i))]) (st' := [.ref (ad 2)]) rfl ?_
                refine v_get rfl hr9 rfl ?_
                refine v_run 1 (pc' := 109) (ls' := [some (.ref (ad 2)), none, some (.int (zb mr)), some (.int (zI ↑i))]) (st' := [.int (zI ↑i), .ref (ad 4)]) rfl ?_
                refine v_iaload' rfl ha9.2.1 (i := i) rfl (by omega) ?_
                refine v_run 0 (pc' := 110) (ls' := [some (.ref (ad 2)), none, some (.int (zb mr)), some (.int (zI ↑i))]) (st' := [.int (zI ↑((fun j => if j = i then cS (kS B n (pos B n i)) else S j) i))]) rfl ?_
                rw [show (fun j => if j = i then cS (kS B n (pos B n i)) else S j) i = cS (kS B n (pos B n i)) from if_pos rfl]
                refine v_if_eq rfl (fun c110 => ?_) (fun c110 => ?_)
                · have hq : ¬ 2 ≤ kS B n (pos B n i) := by
                      rcases (show kS B n (pos B n i) = 0 ∨ kS B n (pos B n i) = 1 ∨ kS B n (pos B n i) = 2 ∨ kS B n (pos B n i) = 3 ∨ kS B n (pos B n i) = 4 by omega) with e | e | e | e | e <;> rw [e] at c110 ⊢ <;> first | omega | exact absurd c110 (by decide)
                  refine v_run 4 (pc' := 20) (ls' := [some (.ref (ad 2)), none, some (.int (zI 0)), some (.int ((zI ↑i) + zI 1))]) (st' := []) rfl ?_
                  rw [zI_s1]
                  exact ihlp (i + 1) nx _ _ _ _ false h9 ⟨ha9, hr9, hf9, by omega, hT9, (fun q => by cases q), fun _ q => by have q2 := q i (by omega); unfold tS at q2; omega, t4⟩ (by omega)
                · refine v_run 1 (pc' := 114) (ls' := [some (.ref (ad 2)), none, some (.int (zb mr)), some (.int (zI ↑i))]) (st' := [.ref (ad 2)]) rfl ?_
                  refine v_get rfl hr9 rfl ?_
                  refine v_run 1 (pc' := 118) (ls' := [some (.ref (ad 2)), none, some (.int (zb mr)), some (.int (zI ↑i))]) (st' := [.int (zI ↑i), .ref (ad 4)]) rfl ?_
                  refine v_iaload' rfl ha9.2.1 (i := i) rfl (by omega) ?_
                  refine v_run 1 (pc' := 120) (ls' := [some (.ref (ad 2)), none, some (.int (zb mr)), some (.int (zI ↑i))]) (st' := [.int (zI 4), .int (zI ↑((fun j => if j = i then cS (kS B n (pos B n i)) else S j) i))]) rfl ?_
                  rw [show (fun j => if j = i then cS (kS B n (pos B n i)) else S j) i = cS (kS B n (pos B n i)) from if_pos rfl]
                  refine v_icmp_eq rfl (fun c120 => ?_) (fun c120 => ?_)
                  · have hq : ¬ 2 ≤ kS B n (pos B n i) := by
                        rcases (show kS B n (pos B n i) = 0 ∨ kS B n (pos B n i) = 1 ∨ kS B n (pos B n i) = 2 ∨ kS B n (pos B n i) = 3 ∨ kS B n (pos B n i) = 4 by omega) with e | e | e | e | e <;> rw [e] at c120 ⊢ <;> first | omega | exact absurd c120 (by decide)
                    refine v_run 4 (pc' := 20) (ls' := [some (.ref (ad 2)), none, some (.int (zI 0)), some (.int ((zI ↑i) + zI 1))]) (st' := []) rfl ?_
                    rw [zI_s1]
                    exact ihlp (i + 1) nx _ _ _ _ false h9 ⟨ha9, hr9, hf9, by omega, hT9, (fun q => by cases q), fun _ q => by have q2 := q i (by omega); unfold tS at q2; omega, t4⟩ (by omega)
                  · have hq : 2 ≤ kS B n (pos B n i) := by
                        rcases (show kS B n (pos B n i) = 0 ∨ kS B n (pos B n i) = 1 ∨ kS B n (pos B n i) = 2 ∨ kS B n (pos B n i) = 3 ∨ kS B n (pos B n i) = 4 by omega) with e | e | e | e | e <;> rw [e] at c110 c120 ⊢ <;> first | omega | exact absurd rfl c110 | exact absurd rfl c120
                    refine v_run 5 (pc' := 20) (ls' := [some (.ref (ad 2)), none, some (.int (zI 1)), some (.int ((zI ↑i) + zI 1))]) (st' := []) rfl ?_
                    rw [zI_s1]
                    exact ihlp (i + 1) nx _ _ _ _ true h9 ⟨ha9, hr9, hf9, by omega, hT9, fun _ => ⟨liv_s hl hq, t5 hq⟩, (fun q => by cases q), t4⟩ (by omega)
              · simp (disch := omega) only [zI_lt, zI_le, zI_eq, zI_lt0, zI_le0, zI_0lt, zI_0le, zI_eq0] at c39
                refine v_run 1 (pc' := 43) (ls' := [some (.ref (ad 2)), none, some (.int (zb mr)), some (.int (zI ↑i))]) (st' := [.ref (ad 2)]) rfl ?_
                refine v_get rfl hr rfl ?_
                refine v_run 1 (pc' := 47) (ls' := [some (.ref (ad 2)), none, some (.int (zb mr)), some (.int (zI ↑i))]) (st' := [.ref (ad 2), .ref (ad 3)]) rfl ?_
                refine v_get rfl hr rfl ?_
                refine v_run 0 (pc' := 50) (ls' := [some (.ref (ad 2)), none, some (.int (zb mr)), some (.int (zI ↑i))]) (st' := [.int (zI ↑(pos B n i + m)), .ref (ad 3)]) rfl ?_
                refine v_baload' rfl ha.1 (i := (pos B n i + m)) rfl (by omega) ?_
                refine v_run 1 (pc' := 53) (ls' := [some (.ref (ad 2)), none, some (.int (zb mr)), some (.int (zI ↑i))]) (st' := [.int (zI 32), .int (zI (B (pos B n i + m)))]) rfl ?_
                have hb := hB (pos B n i + m)
                refine v_icmp_ne rfl (fun c53 => ?_) (fun c53 => ?_)
                · simp (disch := omega) only [zI_lt, zI_le, zI_eq, zI_lt0, zI_le0, zI_0lt, zI_0le, zI_eq0] at c53
                  have e1 : pos B n i + m = kP B n (pos B n i) := by rw [g2]; exact (scn_end (by omega) (by simp [bB]; omega)).symm
                  rw [e1] at hr
                  refine v_run 1 (pc' := 70) (ls' := [some (.ref (ad 2)), none, some (.int (zb mr)), some (.int (zI ↑i))]) (st' := [.ref (ad 2)]) rfl ?_
                  refine v_get rfl hr rfl ?_
                  refine v_run 2 (pc' := 75) (ls' := [some (.ref (ad 2)), none, some (.int (zb mr)), some (.int (zI ↑i))]) (st' := [.ref (ad 2), .int (zI ↑i), .ref (ad 5)]) rfl ?_
                  refine v_get rfl hr rfl ?_
                  refine v_run 0 (pc' := 78) (ls' := [some (.ref (ad 2)), none, some (.int (zb mr)), some (.int (zI ↑i))]) (st' := [.int (zI ↑(kP B n (pos B n i))), .int (zI ↑i), .ref (ad 5)]) rfl ?_
                  have hk1 : h1 (ad 149) = some (arJ 22 kR) := (hf _ (ad_ne hA (by decide)) (ad_ne hA (by decide)) (ad_ne hA (by decide)) (ad_ne hA (by decide)) (ad_ne hA (by decide))).trans hk
                  refine v_iastore' rfl ha.2.2.1 (i := i) rfl (by omega) ?_
                  rw [ar_upd]
                  generalize e5 : hset h1 (ad 5) _ = h5
                  have hk5 : h5 (ad 149) = some (arJ 22 kR) := by rw [← e5]; exact ((hset_ne _ _ (ad_ne hA (by decide))).trans hk1)
                  have hr5 : h5 (ad 2) = some (.inr (5, obR ad l s t k x (↑(kP B n (pos B n i))) ↑n a)) := by rw [← e5]; exact ((hset_ne _ _ (ad_ne hA (by decide))).trans hr)
                  have ha5 : RdA h5 ad B S (fun j => if j = i then kP B n (pos B n i) else P j) K V := by rw [← e5]; exact ⟨((hset_ne _ _ (ad_ne hA (by decide))).trans ha.1), ((hset_ne _ _ (ad_ne hA (by decide))).trans ha.2.1), hset_self _ _ _, ((hset_ne _ _ (ad_ne hA (by decide))).trans ha.2.2.2.1), ((hset_ne _ _ (ad_ne hA (by decide))).trans ha.2.2.2.2)⟩
                  refine v_run 1 (pc' := 80) (ls' := [some (.ref (ad 2)), none, some (.int (zb mr)), some (.int (zI ↑i))]) (st' := [.ref (ad 2)]) rfl ?_
                  refine v_get rfl hr5 rfl ?_
                  refine v_run 2 (pc' := 85) (ls' := [some (.ref (ad 2)), none, some (.int (zb mr)), some (.int (zI ↑i))]) (st' := [.int (zI 0), .int (zI ↑i), .ref (ad 6)]) rfl ?_
                  refine v_iastore' rfl ha5.2.2.2.1 (i := i) rfl (by omega) ?_
                  rw [show (zI 0 : Int32) = zI ↑(0 : Nat) from rfl, ar_upd]
                  generalize e6 : hset h5 (ad 6) _ = h6
                  have hk6 : h6 (ad 149) = some (arJ 22 kR) := by rw [← e6]; exact ((hset_ne _ _ (ad_ne hA (by decide))).trans hk5)
                  have hr6 : h6 (ad 2) = some (.inr (5, obR ad l s t k x (↑(kP B n (pos B n i))) ↑n a)) := by rw [← e6]; exact ((hset_ne _ _ (ad_ne hA (by decide))).trans hr5)
                  have ha6 : RdA h6 ad B S (fun j => if j = i then kP B n (pos B n i) else P j) (fun j => if j = i then 0 else K j) V := by rw [← e6]; exact ⟨((hset_ne _ _ (ad_ne hA (by decide))).trans ha5.1), ((hset_ne _ _ (ad_ne hA (by decide))).trans ha5.2.1), ((hset_ne _ _ (ad_ne hA (by decide))).trans ha5.2.2.1), hset_self _ _ _, ((hset_ne _ _ (ad_ne hA (by decide))).trans ha5.2.2.2.2)⟩
                  refine v_run 1 (pc' := 87) (ls' := [some (.ref (ad 2)), none, some (.int (zb mr)), some (.int (zI ↑i))]) (st' := [.ref (ad 2)]) rfl ?_
                  refine v_get rfl hr6 rfl ?_
                  refine v_run 2 (pc' := 92) (ls' := [some (.ref (ad 2)), none, some (.int (zb mr)), some (.int (zI ↑i))]) (st' := [.long (zL 0), .int (zI ↑i), .ref (ad 7)]) rfl ?_
                  refine v_lastore' rfl ha6.2.2.2.2 (i := i) rfl (by omega) ?_
                  generalize e7 : hset h6 (ad 7) _ = h7
                  have hk7 : h7 (ad 149) = some (arJ 22 kR) := by rw [← e7]; exact ((hset_ne _ _ (ad_ne hA (by decide))).trans hk6)
                  have hr7 : h7 (ad 2) = some (.inr (5, obR ad l s t k x (↑(kP B n (pos B n i))) ↑n a)) := by rw [← e7]; exact ((hset_ne _ _ (ad_ne hA (by decide))).trans hr6)
                  have ha7 : RdA h7 ad B S (fun j => if j = i then kP B n (pos B n i) else P j) (fun j => if j = i then 0 else K j) (vp_updL V i (zL 0)) := by rw [← e7]; exact ⟨((hset_ne _ _ (ad_ne hA (by decide))).trans ha6.1), ((hset_ne _ _ (ad_ne hA (by decide))).trans ha6.2.1), ((hset_ne _ _ (ad_ne hA (by decide))).trans ha6.2.2.1), ((hset_ne _ _ (ad_ne hA (by decide))).trans ha6.2.2.2.1), hset_self _ _ _⟩
                  refine v_run 1 (pc' := 94) (ls' := [some (.ref (ad 2)), none, some (.int (zb mr)), some (.int (zI ↑i))]) (st' := [.ref (ad 2)]) rfl ?_
                  refine v_get rfl hr7 rfl ?_
                  refine v_run 3 (pc' := 100) (ls' := [some (.ref (ad 2)), none, some (.int (zb mr)), some (.int (zI ↑i))]) (st' := [.int (zI ↑i), .ref (ad 2), .int (zI ↑i), .ref (ad 4)]) rfl ?_
                  refine v_callV (My := mX5_readToken) (As := [.int (zI ↑i)]) (rest := [.int (zI ↑i), .ref (ad 4)]) (mc := 0) (ms := 0) rfl caX5_readToken rfl rfl rfl hr7 rfl rfl (r_readToken G _ (p := pos B n i) (i := i) hA hr7 ha7 hB (by omega) hn (by omega) (if_pos rfl) hk7) rfl rfl (Nat.le_of_ble_eq_true rfl) (by omega) ?_
                  rintro _ h8 ⟨rfl, nx, V2, t1, t2, t3, t4, t5, t6, t7, t8⟩
                  refine v_run 0 (pc' := 103) (ls' := [some (.ref (ad 2)), none, some (.int (zb mr)), some (.int (zI ↑i))]) (st' := [.int (zI ↑(cS (kS B n (pos B n i)))), .int (zI ↑i), .ref (ad 4)]) rfl ?_
                  have ha8 : RdA h8 ad B S (fun j => if j = i then kP B n (pos B n i) else P j) (fun j => if j = i then (if kS B n (pos B n i) = 2 then keyOf (kV B n (pos B n i)) else 0) else (fun j => if j = i then 0 else K j) j) V2 := ⟨(t8 _ (ad_ne hA (by decide)) (ad_ne hA (by decide)) (ad_ne hA (by decide))).trans ha7.1, (t8 _ (ad_ne hA (by decide)) (ad_ne hA (by decide)) (ad_ne hA (by decide))).trans ha7.2.1, (t8 _ (ad_ne hA (by decide)) (ad_ne hA (by decide)) (ad_ne hA (by decide))).trans ha7.2.2.1, t2, t3⟩
                  refine v_iastore' rfl ha8.2.1 (i := i) rfl (by omega) ?_
                  rw [ar_upd]
                  generalize e9 : hset h8 (ad 4) _ = h9
                  have hr9 : h9 (ad 2) = some (.inr (5, obR ad l s t k x ↑nx ↑n a)) := by rw [← e9]; exact ((hset_ne _ _ (ad_ne hA (by decide))).trans t1)
                  have ha9 : RdA h9 ad B (fun j => if j = i then cS (kS B n (pos B n i)) else S j) (fun j => if j = i then kP B n (pos B n i) else P j) (fun j => if j = i then (if kS B n (pos B n i) = 2 then keyOf (kV B n (pos B n i)) else 0) else (fun j => if j = i then 0 else K j) j) V2 := by rw [← e9]; exact ⟨((hset_ne _ _ (ad_ne hA (by decide))).trans ha8.1), hset_self _ _ _, ((hset_ne _ _ (ad_ne hA (by decide))).trans ha8.2.2.1), ((hset_ne _ _ (ad_ne hA (by decide))).trans ha8.2.2.2.1), ((hset_ne _ _ (ad_ne hA (by decide))).trans ha8.2.2.2.2)⟩
                  have hf9 : frR ad h h9 := fun b b2 b4 b5 b6 b7 => by rw [← e9, hset_ne _ _ b4, t8 b b2 b6 b7, ← e7, hset_ne _ _ b7, ← e6, hset_ne _ _ b6, ← e5, hset_ne _ _ b5]; exact hf b b2 b4 b5 b6 b7
                  have hT9 : TkI B n (i + 1) (fun j => if j = i then cS (kS B n (pos B n i)) else S j) (fun j => if j = i then kP B n (pos B n i) else P j) (fun j => if j = i then (if kS B n (pos B n i) = 2 then keyOf (kV B n (pos B n i)) else 0) else (fun j => if j = i then 0 else K j) j) V2 := by
                      intro j hj hlj
                      by_cases e : j = i
                      · rw [e]
                        refine ⟨if_pos rfl, if_pos rfl, ?_, t7⟩
                        show (if i = i then (if kS B n (pos B n i) = 2 then keyOf (kV B n (pos B n i)) else 0) else _) = _
                        rw [if_pos rfl]; rfl
                      · obtain ⟨w1, w2, w3, w4⟩ := hT j (by omega) hlj
                        refine ⟨?_, ?_, ?_, fun z => ?_⟩
                        · show (if j = i then _ else S j) = _
                          rw [if_neg e]; exact w1
                        · show (if j = i then _ else P j) = _
                          rw [if_neg e]; exact w2
                        · show (if j = i then _ else if j = i then 0 else K j) = _
                          rw [if_neg e, if_neg e]; exact w3
                        · rw [t6 j e, updL_ne e]; exact w4 z
                  have hcs : kS B n (pos B n i) ≤ 4 := kS_le _
                  refine v_run 1 (pc' := 105) (ls' := [some (.ref (ad 2)), none, some (.int (zb mr)), some (.int (zI ↑i))]) (st' := [.ref (ad 2)]) rfl ?_
                  refine v_get rfl hr9 rfl ?_
                  refine v_run 1 (pc' := 109) (ls' := [some (.ref (ad 2)), none, some (.int (zb mr)), some (.int (zI ↑i))]) (st' := [.int (zI ↑i), .ref (ad 4)]) rfl ?_
                  refine v_iaload' rfl ha9.2.1 (i := i) rfl (by omega) ?_
                  refine v_run 0 (pc' := 110) (ls' := [some (.ref (ad 2)), none, some (.int (zb mr)), some (.int (zI ↑i))]) (st' := [.int (zI ↑((fun j => if j = i then cS (kS B n (pos B n i)) else S j) i))]) rfl ?_
                  rw [show (fun j => if j = i then cS (kS B n (pos B n i)) else S j) i = cS (kS B n (pos B n i)) from if_pos rfl]
                  refine v_if_eq rfl (fun c110 => ?_) (fun c110 => ?_)
                  · have hq : ¬ 2 ≤ kS B n (pos B n i) := by
                        rcases (show kS B n (pos B n i) = 0 ∨ kS B n (pos B n i) = 1 ∨ kS B n (pos B n i) = 2 ∨ kS B n (pos B n i) = 3 ∨ kS B n (pos B n i) = 4 by omega) with e | e | e | e | e <;> rw [e] at c110 ⊢ <;> first | omega | exact absurd c110 (by decide)
                    refine v_run 4 (pc' := 20) (ls' := [some (.ref (ad 2)), none, some (.int (zI 0)), some (.int ((zI ↑i) + zI 1))]) (st' := []) rfl ?_
                    rw [zI_s1]
                    exact ihlp (i + 1) nx _ _ _ _ false h9 ⟨ha9, hr9, hf9, by omega, hT9, (fun q => by cases q), fun _ q => by have q2 := q i (by omega); unfold tS at q2; omega, t4⟩ (by omega)
                  · refine v_run 1 (pc' := 114) (ls' := [some (.ref (ad 2)), none, some (.int (zb mr)), some (.int (zI ↑i))]) (st' := [.ref (ad 2)]) rfl ?_
                    refine v_get rfl hr9 rfl ?_
                    refine v_run 1 (pc' := 118) (ls' := [some (.ref (ad 2)), none, some (.int (zb mr)), some (.int (zI ↑i))]) (st' := [.int (zI ↑i), .ref (ad 4)]) rfl ?_
                    refine v_iaload' rfl ha9.2.1 (i := i) rfl (by omega) ?_
                    refine v_run 1 (pc' := 120) (ls' := [some (.ref (ad 2)), none, some (.int (zb mr)), some (.int (zI ↑i))]) (st' := [.int (zI 4), .int (zI ↑((fun j => if j = i then cS (kS B n (pos B n i)) else S j) i))]) rfl ?_
                    rw [show (fun j => if j = i then cS (kS B n (pos B n i)) else S j) i = cS (kS B n (pos B n i)) from if_pos rfl]
                    refine v_icmp_eq rfl (fun c120 => ?_) (fun c120 => ?_)
                    · have hq : ¬ 2 ≤ kS B n (pos B n i) := by
                          rcases (show kS B n (pos B n i) = 0 ∨ kS B n (pos B n i) = 1 ∨ kS B n (pos B n i) = 2 ∨ kS B n (pos B n i) = 3 ∨ kS B n (pos B n i) = 4 by omega) with e | e | e | e | e <;> rw [e] at c120 ⊢ <;> first | omega | exact absurd c120 (by decide)
                      refine v_run 4 (pc' := 20) (ls' := [some (.ref (ad 2)), none, some (.int (zI 0)), some (.int ((zI ↑i) + zI 1))]) (st' := []) rfl ?_
                      rw [zI_s1]
                      exact ihlp (i + 1) nx _ _ _ _ false h9 ⟨ha9, hr9, hf9, by omega, hT9, (fun q => by cases q), fun _ q => by have q2 := q i (by omega); unfold tS at q2; omega, t4⟩ (by omega)
                    · have hq : 2 ≤ kS B n (pos B n i) := by
                          rcases (show kS B n (pos B n i) = 0 ∨ kS B n (pos B n i) = 1 ∨ kS B n (pos B n i) = 2 ∨ kS B n (pos B n i) = 3 ∨ kS B n (pos B n i) = 4 by omega) with e | e | e | e | e <;> rw [e] at c110 c120 ⊢ <;> first | omega | exact absurd rfl c110 | exact absurd rfl c120
                      refine v_run 5 (pc' := 20) (ls' := [some (.ref (ad 2)), none, some (.int (zI 1)), some (.int ((zI ↑i) + zI 1))]) (st' := []) rfl ?_
                      rw [zI_s1]
                      exact ihlp (i + 1) nx _ _ _ _ true h9 ⟨ha9, hr9, hf9, by omega, hT9, fun _ => ⟨liv_s hl hq, t5 hq⟩, (fun q => by cases q), t4⟩ (by omega)
                · simp (disch := omega) only [zI_lt, zI_le, zI_eq, zI_lt0, zI_le0, zI_0lt, zI_0le, zI_eq0] at c53
                  refine v_run 2 (pc' := 58) (ls' := [some (.ref (ad 2)), none, some (.int (zb mr)), some (.int (zI ↑i))]) (st' := [.ref (ad 2), .ref (ad 2)]) rfl ?_
                  refine v_get rfl hr rfl ?_
                  refine v_run 2 (pc' := 63) (ls' := [some (.ref (ad 2)), none, some (.int (zb mr)), some (.int (zI ↑i))]) (st' := [.int ((zI ↑(pos B n i + m)) + (zI 1)), .ref (ad 2)]) rfl ?_
                  rw [show ((zI ↑(pos B n i + m)) + (zI 1) : Int32) = zI ↑(pos B n i + m + 1) from zI_s1 _]
                  refine v_put rfl hr rfl rfl (Nat.le_of_ble_eq_true rfl) ?_
                  generalize e2 : hset h1 (ad 2) _ = h2
                  refine v_run 1 (pc' := 31) (ls' := [some (.ref (ad 2)), none, some (.int (zb mr)), some (.int (zI ↑i))]) (st' := []) rfl ?_
                  exact ihlq (m + 1) h2 ⟨by rw [← e2]; exact ⟨((hset_ne _ _ (ad_ne hA (by decide))).trans ha.1), ((hset_ne _ _ (ad_ne hA (by decide))).trans ha.2.1), ((hset_ne _ _ (ad_ne hA (by decide))).trans ha.2.2.1), ((hset_ne _ _ (ad_ne hA (by decide))).trans ha.2.2.2.1), ((hset_ne _ _ (ad_ne hA (by decide))).trans ha.2.2.2.2)⟩, by rw [← e2, hset_self]; rfl, fun b b2 b4 b5 b6 b7 => by rw [← e2, hset_ne _ _ b2]; exact hf b b2 b4 b5 b6 b7, by omega, by rw [g2]; exact scn_go (by omega) (by simp [bB]; omega)⟩ (by omega)
          exact lq (n + 1) 0 h1 ⟨ha, hr, hf, hnx, rfl⟩ (by omega)
  exact lp 902 0 0 S P K V true h1 ⟨ha1, hr1, hf1, by omega, fun j hj => absurd hj (by omega), fun _ => ⟨fun j hj => absurd hj (by omega), rfl⟩, (fun q => by cases q), by omega⟩ (by omega)

