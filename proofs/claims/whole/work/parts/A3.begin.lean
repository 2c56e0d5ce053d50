/-! ===== the law's beginning ===== -/
abbrev d8 : List Value := [.null, .null, .null, .null, .null, .int (zI 0), .int (zI 0), .int (zI 0), .int (zI 0), .null, .null, .null]
abbrev d10 : List Value := [.int (zI 0), .int (zI 0), .int (zI 0), .null, .null, .null, .int (zI 0), .int (zI 0), .int (zI 0), .int (zI 0), .int (zI 0), .int (zI 0), .int (zI 0), .int (zI 0), .long (zL 0), .null, .null, .null, .null, .int (zI 0), .int (zI 0), .null, .int (zI 0), .null, .int (zI 0), .null, .long (zL 0), .long (zL 0), .long (zL 0)]
theorem df8 : ∀ j, j < 12 → defaultValue (tyOf 8 j) = vp_V d8 j := fun j hj => by
  rcases (show j = 0 ∨ j = 1 ∨ j = 2 ∨ j = 3 ∨ j = 4 ∨ j = 5 ∨ j = 6 ∨ j = 7 ∨ j = 8 ∨ j = 9 ∨ j = 10 ∨ j = 11 by omega) with rfl | rfl | rfl | rfl | rfl | rfl | rfl | rfl | rfl | rfl | rfl | rfl <;> rfl
theorem fin_bd (f : Nat → Nat) : ∀ n, ∃ B, ∀ k, k < n → f k < B
  | 0 => ⟨0, fun k hk => absurd hk (by omega)⟩
  | n + 1 => by
    obtain ⟨B, hB⟩ := fin_bd f n
    refine ⟨B + f n + 1, fun k hk => ?_⟩
    by_cases e : k = n
    · subst e; omega
    · have := hB k (by omega)
      omega
theorem ext_inj (f : Nat → Nat) (P : Nat → Bool) (hP : ∀ k, P k = true → k < 300) (hf : ∀ k l, P k = true → P l = true → f k = f l → k = l) : ∃ ad : Nat → Nat, (∀ k l, ad k = ad l → k = l) ∧ ∀ k, P k = true → ad k = f k := by
  obtain ⟨B, hB⟩ := fin_bd f 300
  refine ⟨fun k => if P k = true then f k else B + k, fun k l e => ?_, fun k hk => if_pos hk⟩
  try simp only at e
  by_cases h1 : P k = true
  · by_cases h2 : P l = true
    · rw [if_pos h1, if_pos h2] at e
      exact hf k l h1 h2 e
    · rw [if_pos h1, if_neg h2] at e
      have := hB k (hP k h1)
      omega
  · by_cases h2 : P l = true
    · rw [if_neg h1, if_pos h2] at e
      have := hB l (hP l h2)
      omega
    · rw [if_neg h1, if_neg h2] at e
      omega
theorem s0_ok : sOk s0 := by
  refine ⟨⟨?_, ?_, ?_, ?_, ?_, ?_, fun k => ?_, fun k => ?_, fun k => ?_, fun k => ?_, fun k => ?_, ?_, ?_, ?_, ?_⟩, ?_, fun o ho => ⟨?_, ?_, ?_, fun k => ?_, fun k => ?_, fun k => ?_, fun k => ?_⟩⟩ <;> simp [fI, s0]
theorem s0_z : sZ s0 := fun _ _ _ _ _ => rfl
def m00 : Nat → Int := fun k => if k = 2 then -1 else 0
theorem law_init {h1 h2 h4 : ssH} {a am ao : Nat} {x1 x5 x9 x13 xi x19 x23 x27 : Nat} {r3 r7 r11 r15 r21 r25 r29 q q' : Nat → Nat} {C : Nat → ssE} (hI : LpI h1 a 8 (sxF x1 r3 x5 r7 x9 r11 x13 r15 xi x19 r21 x23 r25 x27 r29) 134 120 3 (sxQ x1 r3 x5 r7 x9 r11 x13 r15 xi x19 r21 x23 r25 x27 r29) (sxC x1 r3 x5 r7 x9 r11 x13 r15 xi x19 r21 x23 r25 x27 r29) 3 q C h2) (n2 : h2 am = none)
    (hC : Ctor (hset h2 am (.inr (10, d10))) am 10 [.int (zI 0), .int (zI 0), .int (zI (-1)), .null, .null, .ref (q' 0), .int (zI 0), .int (zI 0), .int (zI 0), .int (zI 0), .int (zI 0), .int (zI 0), .int (zI 0), .int (zI 0), .long (zL 0), .ref (q' 1), .ref (q' 2), .ref (q' 3), .ref (q' 4), .int (zI 0), .int (zI 0), .ref (q' 5), .int (zI 0), .ref (q' 6), .int (zI 0), .ref (q' 7), .long (zL 0), .long (zL 0), .long (zL 0)] 8 q' (cC10 q') h4) (n4' : h4 ao = none) : LI a am ao (hset h4 ao (.inl (2, 1, .inr (.inl (fun j => zL ↑((fun _ => 0 : Nat → Nat) j)))))) := by
  obtain ⟨cw, pw, kr⟩ := init_st hI
  obtain ⟨⟨ha, hq, hqi, -⟩, -⟩ := hI
  obtain ⟨hm, hq', hqi', hfr⟩ := hC
  have lv2 : ∀ k, k < 150 → h2 (ad0 a q k) ≠ none := fun k hk => by
    by_cases e : k = 149
    · rw [e, kr]; simp
    · exact cw_live cw pw (by decide) (by omega)
  have q2 : ∀ k, k < 8 → h2 (q' k) = none := fun k hk => by
    have := (hq' k hk).1
    rwa [hset_ne _ _ (hq' k hk).2.1] at this
  have h42 : ∀ k, k < 150 → h4 (ad0 a q k) = h2 (ad0 a q k) := fun k hk => by
    have e1 : ad0 a q k ≠ am := fun z => lv2 k hk (by rw [z]; exact n2)
    rw [hfr _ e1 (fun l hl z => lv2 k hk (by rw [z]; exact q2 l hl)), hset_ne _ _ e1]
  have a0 : ∀ k l, k < 150 → l < 150 → ad0 a q k = ad0 a q l → k = l := fun k l hk hl e => by
    unfold ad0 at e
    by_cases k0 : k = 0
    · by_cases l0 : l = 0
      · omega
      · rw [if_pos k0, if_neg l0] at e
        exact absurd e.symm (hq (piN l) (by have := piN_lt hl; omega)).2.1
    · by_cases l0 : l = 0
      · rw [if_neg k0, if_pos l0] at e
        exact absurd e (hq (piN k) (by have := piN_lt hk; omega)).2.1
      · rw [if_neg k0, if_neg l0] at e
        exact piN_inj (by omega) (by omega) (hqi _ _ (by have := piN_lt hk; omega) (by have := piN_lt hl; omega) e)
  have ne1 : ∀ k, k < 150 → ad0 a q k ≠ am := fun k hk z => lv2 k hk (by rw [z]; exact n2)
  have ne2 : ∀ k l, k < 150 → l < 8 → ad0 a q k ≠ q' l := fun k l hk hl z => lv2 k hk (by rw [z]; exact q2 l hl)
  have ne3 : ∀ k, k < 150 → ad0 a q k ≠ ao := fun k hk z => lv2 k hk (by rw [← h42 k hk, z]; exact n4')
  have ne4 : ∀ l, l < 8 → q' l ≠ am := fun l hl => (hq' l hl).2.1
  have ne5 : ∀ l, l < 8 → q' l ≠ ao := fun l hl z => by
    have := (hq' l hl).2.2
    rw [z, n4'] at this
    cases this
  have ne6 : am ≠ ao := fun z => by
    rw [z, n4'] at hm
    cases hm
  obtain ⟨ad, hA, hd⟩ := ext_inj (fun k => if k < 150 then ad0 a q k else if k = 200 then am else if k < 209 then q' (k - 201) else ao) (fun k => decide (k < 150 ∨ (200 ≤ k ∧ k < 210))) (fun k hk => by have := of_decide_eq_true hk; omega) (fun k l hk hl e => by
    have b1 := of_decide_eq_true hk
    have b2 := of_decide_eq_true hl
    try simp only at e
    by_cases c1 : k < 150
    · rw [if_pos c1] at e
      by_cases c2 : l < 150
      · rw [if_pos c2] at e; exact a0 k l c1 c2 e
      · rw [if_neg c2] at e
        by_cases c3 : l = 200
        · rw [if_pos c3] at e; exact absurd e (ne1 k c1)
        · rw [if_neg c3] at e
          by_cases c4 : l < 209
          · rw [if_pos c4] at e; exact absurd e (ne2 k _ c1 (by omega))
          · rw [if_neg c4] at e; exact absurd e (ne3 k c1)
    · rw [if_neg c1] at e
      by_cases c2 : l < 150
      · rw [if_pos c2] at e
        by_cases c3 : k = 200
        · rw [if_pos c3] at e; exact absurd e.symm (ne1 l c2)
        · rw [if_neg c3] at e
          by_cases c4 : k < 209
          · rw [if_pos c4] at e; exact absurd e.symm (ne2 l _ c2 (by omega))
          · rw [if_neg c4] at e; exact absurd e.symm (ne3 l c2)
      · rw [if_neg c2] at e
        by_cases c3 : k = 200
        · rw [if_pos c3] at e
          by_cases c4 : l = 200
          · omega
          · rw [if_neg c4] at e
            by_cases c5 : l < 209
            · rw [if_pos c5] at e; exact absurd e.symm (ne4 _ (by omega))
            · rw [if_neg c5] at e; exact absurd e ne6
        · rw [if_neg c3] at e
          by_cases c5 : k < 209
          · rw [if_pos c5] at e
            by_cases c4 : l = 200
            · rw [if_pos c4] at e; exact absurd e (ne4 _ (by omega))
            · rw [if_neg c4] at e
              by_cases c6 : l < 209
              · rw [if_pos c6] at e
                have := hqi' _ _ (by omega) (by omega) e
                omega
              · rw [if_neg c6] at e; exact absurd e (ne5 _ (by omega))
          · rw [if_neg c5] at e
            by_cases c4 : l = 200
            · rw [if_pos c4] at e; exact absurd e.symm ne6
            · rw [if_neg c4] at e
              by_cases c6 : l < 209
              · rw [if_pos c6] at e; exact absurd e.symm (ne5 _ (by omega))
              · omega)
  have dC : ∀ k, k < 150 → ad k = ad0 a q k := fun k hk => (hd k (by simp [hk])).trans (if_pos hk)
  have dm : ad 200 = am := hd 200 (by decide)
  have do' : ad 209 = ao := hd 209 (by decide)
  have dr : ∀ j, j < 8 → ad (201 + j) = q' j := fun j hj => by
    rw [hd (201 + j) (decide_eq_true (Or.inr (by omega))), if_neg (by omega), if_neg (by omega), if_pos (by omega), show 201 + j - 201 = j by omega]
  have d1 := dr 0 (by decide)
  have d2 := dr 1 (by decide)
  have d3 := dr 2 (by decide)
  have d4 := dr 3 (by decide)
  have d5 := dr 4 (by decide)
  have d6 := dr 5 (by decide)
  have d7 := dr 6 (by decide)
  have d8' := dr 7 (by decide)
  have kp : ∀ j, j < 8 → hset h4 ao (.inl (2, 1, .inr (.inl (fun j => zL ↑((fun _ => 0 : Nat → Nat) j))))) (ad (201 + j)) = some (cC10 q' j) := fun j hj => by
    rw [dr j hj, hset_ne _ _ (ne5 j hj)]
    exact (hq' j hj).2.2
  have L0 : LC (hset h4 ao (.inl (2, 1, .inr (.inl (fun j => zL ↑((fun _ => 0 : Nat → Nat) j)))))) (ad0 a q) 11 s0 E00 s0 0 0 := by
    have ag : ∀ k, k < 150 → hset h4 ao (.inl (2, 1, .inr (.inl (fun j => zL ↑((fun _ => 0 : Nat → Nat) j))))) (ad0 a q k) = h2 (ad0 a q k) := fun k hk => (hset_ne _ _ (ne3 k hk)).trans (h42 k hk)
    exact ⟨cw.ag (fun k hk => ag k (by omega)), pw.ag (fun k hk => ag k (by omega)), fun _ _ _ _ => Nat.zero_le _, fun _ _ _ _ => Nat.zero_le _, rfl, by decide, fun _ => ⟨(by decide : (-128 : Int) ≤ 0), (by decide : (0 : Int) ≤ 127)⟩, (ag 149 (by decide)).trans kr⟩
  refine ⟨ad, 11, s0, E00, s0, 0, 0, .null, .null, m00, fun _ _ => 0, hA, ⟨dC 0 (by decide), dm, do'⟩, ⟨_, hset_self _ _ _⟩, L0.at_ dC, ⟨?_, kp 0 (by decide), ⟨kp 2 (by decide), kp 1 (by decide), kp 3 (by decide), kp 4 (by decide), kp 5 (by decide), kp 6 (by decide), kp 7 (by decide)⟩, ?_, fun _ _ => rfl, rfl⟩, ⟨rfl, rfl, rfl, by decide⟩, Or.inr ⟨rfl, UT.s0, s0_ok, s0_z⟩⟩
  · rw [dm, hset_ne _ _ ne6, hm]
    show _ = (some (.inr (10, [.int (zI 0), .int (zI 0), .int (zI (-1)), .null, .null, .ref (ad 201), .int (zI 0), .int (zI 0), .int (zI 0), .int (zI 0), .int (zI 0), .int (zI 0), .int (zI 0), .int (zI 0), .long (zL 0), .ref (ad 202), .ref (ad 203), .ref (ad 204), .ref (ad 205), .int (zI 0), .int (zI 0), .ref (ad 206), .int (zI 0), .ref (ad 207), .int (zI 0), .ref (ad 208), .long (zL 0), .long (zL 0), .long (zL 0)])) : Option ssE)
    rw [d1, d2, d3, d4, d5, d6, d7, d8']
  · exact ⟨fun _ _ => (by decide : 0 < 6), fun _ _ => (by decide : 0 ≤ 2), fun _ _ => (by decide : 0 ≤ 99), fun _ _ => (by decide : 0 < 64), (by decide : 0 ≤ 9), (by decide : 0 ≤ 65536), fun _ _ => rfl⟩
set_option maxRecDepth 100000 in
set_option maxHeartbeats 1000000 in
theorem law_go {G : ssG} (hst : (gL G).stackTraces = false) {Q : Option Value → ssH → Prop} (hQ : ∀ h, Q (some (.int (zI 1))) h) (hb : gV G 24 ≤ 3072) : ssV G mL_law 13 6816 71835 Q 0 [some (.ref (gV G 23)), none, none, none, none, none, none] [] (fun _ => none) := by
  refine v_new (mc := 6815) (ms := 71823) (ci := 8) (r := (RX8, TX8, 12)) (fs := d8) rfl rfl df8 (fun a na ga => ?_)
  refine v_run 1 (pc' := 4) (ls' := [some (.ref (gV G 23)), none, none, none, none, none, none]) (st' := [.ref a, .ref a]) rfl ?_
  refine v_callI (My := mX8_init) (b := a) (As := []) (rest := [.ref a]) (mc := 6666) (ms := 65493) rfl caX8_init rfl rfl rfl rfl (k_i8 G _ (a := a) (hset_self _ _ _)) rfl rfl (Nat.le_of_ble_eq_true rfl) (by decide) (fun r h2 q2 => ?_)
  obtain ⟨rfl, x1, r3, x5, r7, x9, r11, x13, r15, xi, x19, r21, x23, r25, x27, r29, q, C, hI⟩ := q2
  refine v_run 1 (pc' := 8) (ls' := [some (.ref (gV G 23)), some (.ref a), none, none, none, none, none]) (st' := []) rfl ?_
  refine v_new (mc := 6665) (ms := 65464) (ci := 10) (r := (RX10, TX10, 29)) (fs := d10) rfl rfl df10 (fun am nm gm => ?_)
  refine v_run 1 (pc' := 12) (ls' := [some (.ref (gV G 23)), some (.ref a), none, none, none, none, none]) (st' := [.ref am, .ref am]) rfl ?_
  refine v_callI (My := mX10_init) (b := am) (As := []) (rest := [.ref am]) (mc := 6657) (ms := 64001) rfl caX10_init rfl rfl rfl rfl (k_i10 G _ (a := am) (hset_self _ _ _)) rfl rfl (Nat.le_of_ble_eq_true rfl) (by decide) (fun r h4 q4 => ?_)
  obtain ⟨rfl, q', hC⟩ := q4
  refine v_run 2 (pc' := 17) (ls' := [some (.ref (gV G 23)), some (.ref a), some (.ref am), none, none, none, none]) (st' := [.int (zI 1)]) rfl ?_
  refine v_newarr (mc := 6656) (ms := 64000) (a0 := (1, .inr (.inl (fun j => zL ↑((fun _ => 0 : Nat → Nat) j))))) (N' := 1) rfl (fun _ => rfl) (by decide) (by decide) (by decide) (fun ao no go => ?_)
  refine v_run 3 (pc' := 23) (ls' := lL G a am ao 0) (st' := []) rfl ?_
  exact law_loop hst hQ hb 512 0 _ (by decide) (by omega) (law_init hI nm hC no)
