theorem Ctor.setc {h h' : ssH} {a ci c : Nat} {fs : List Value} {q : Nat → Nat} {C : Nat → ssE} (hc : Ctor h a ci fs c q C h') {k : Nat} (hk : k < c) (e : ssE) : Ctor h a ci fs c q (upN C k e) (hset h' (q k) e) := by
  refine ⟨(hset_ne _ _ (Ne.symm (hc.2.1 k hk).2.1)).trans hc.1, fun j hj => ⟨(hc.2.1 j hj).1, (hc.2.1 j hj).2.1, ?_⟩, hc.2.2.1, fun b b1 b2 => (hset_ne _ _ (b2 k hk)).trans (hc.2.2.2 b b1 b2)⟩
  by_cases g : j = k
  · subst g
    rw [show upN C j e j = e from if_pos rfl]
    exact hset_self _ _ _
  · rw [show upN C k e j = C j from if_neg g]
    exact (hset_ne _ _ (fun z => g (hc.2.2.1 j k hj hk z))).trans (hc.2.1 j hj).2.2
/-! the row of the keywords' letters, as the constructor of Reader makes it out of one text -/
def kC (i : Nat) : Nat := (((ssSb.getD 21 []).getD i 0).toInt - 96).toNat
def kSt : Nat → Nat × List Nat
  | 0 => (1, List.replicate 22 0)
  | i + 1 => if kC i = 0 then ((kSt i).1 + 1, (kSt i).2) else ((kSt i).1, (kSt i).2.set (kSt i).1 (32 * (kSt i).2.getD (kSt i).1 0 + kC i))
def kOk (i : Nat) : Bool := (match kSt i with | (a, l) => Nat.ble 1 a && Nat.ble a 21 && Nat.beq l.length 22 && l.all (fun x => Nat.ble x 34359738367)) && (Nat.ble 114 i || (bif Nat.beq (kC i) 0 then decide ((ssSb.getD 21 []).getD i 0 = zI 32) else Nat.ble (kC i) 31 && decide ((ssSb.getD 21 []).getD i 0 = zI (↑(kC i) + 96))))
set_option maxRecDepth 100000 in
theorem kOk_all : (List.range 115).all kOk = true := by decide +kernel
set_option maxRecDepth 100000 in
theorem kSt_end : (List.range 22).all (fun k => Nat.beq ((kSt 114).2.getD k 0) (if 1 ≤ k ∧ k < 22 then kw k else 0)) = true := by decide +kernel
theorem kOk_f {i : Nat} (h : i < 115) : 1 ≤ (kSt i).1 ∧ (kSt i).1 ≤ 21 ∧ (kSt i).2.length = 22 ∧ (∀ k, (kSt i).2.getD k 0 < 34359738368) ∧ (i < 114 → (kC i = 0 → (ssSb.getD 21 []).getD i 0 = zI 32) ∧ (kC i ≠ 0 → kC i < 32 ∧ (ssSb.getD 21 []).getD i 0 = zI (↑(kC i) + 96))) := by
  have h1 := List.all_eq_true.mp kOk_all i (List.mem_range.mpr h)
  unfold kOk at h1
  rw [Bool.and_eq_true] at h1
  obtain ⟨h1, h2⟩ := h1
  have h1 : (Nat.ble 1 (kSt i).1 && Nat.ble (kSt i).1 21 && Nat.beq (kSt i).2.length 22 && (kSt i).2.all (fun x => Nat.ble x 34359738367)) = true := h1
  simp only [Bool.and_eq_true] at h1
  obtain ⟨⟨⟨a1, a2⟩, a3⟩, a4⟩ := h1
  refine ⟨Nat.le_of_ble_eq_true a1, Nat.le_of_ble_eq_true a2, Nat.eq_of_beq_eq_true a3, fun k => ?_, fun hi => ⟨fun e => ?_, fun e => ?_⟩⟩
  · by_cases hk : k < (kSt i).2.length
    · have e : (kSt i).2.getD k 0 = (kSt i).2[k] := by simp [List.getD_eq_getElem?_getD, hk]
      rw [e]
      have := Nat.le_of_ble_eq_true (List.all_eq_true.mp a4 _ (List.getElem_mem hk))
      omega
    · have e : (kSt i).2.getD k 0 = 0 := by rw [List.getD_eq_getElem?_getD, List.getElem?_eq_none (by omega)]; rfl
      rw [e]; decide
  · rw [show Nat.ble 114 i = false from by cases q : Nat.ble 114 i with | false => rfl | true => have := Nat.le_of_ble_eq_true q; omega, e] at h2
    exact of_decide_eq_true h2
  · rw [show Nat.ble 114 i = false from by cases q : Nat.ble 114 i with | false => rfl | true => have := Nat.le_of_ble_eq_true q; omega, show Nat.beq (kC i) 0 = false from by cases q : Nat.beq (kC i) 0 with | false => rfl | true => exact absurd (Nat.eq_of_beq_eq_true q) e] at h2
    have h2 : (Nat.ble (kC i) 31 && decide ((ssSb.getD 21 []).getD i 0 = zI (↑(kC i) + 96))) = true := h2
    rw [Bool.and_eq_true] at h2
    exact ⟨Nat.lt_succ_of_le (Nat.le_of_ble_eq_true h2.1), of_decide_eq_true h2.2⟩
def kRw (i : Nat) : Nat → Int64 := fun j => zL ↑((kSt i).2.getD j 0)
theorem kRw_0 : kRw 0 = fun j => zL ↑((fun _ => 0 : Nat → Nat) j) := by
  funext j
  unfold kRw
  congr 2
  by_cases h : j < 22
  · rw [show (kSt 0).2 = List.replicate 22 0 from rfl, List.getD_eq_getElem?_getD, List.getElem?_replicate_of_lt h]; rfl
  · rw [show (kSt 0).2 = List.replicate 22 0 from rfl, List.getD_eq_getElem?_getD, List.getElem?_eq_none (by simp; omega)]; rfl
theorem kRw_end : kRw 114 = kR := by
  funext j
  unfold kRw kR
  by_cases h : j < 22
  · have e := Nat.eq_of_beq_eq_true (List.all_eq_true.mp kSt_end j (List.mem_range.mpr h))
    rw [e]
    by_cases h1 : 1 ≤ j ∧ j < 22
    · rw [if_pos h1, if_pos h1]
    · rw [if_neg h1, if_neg h1]; rfl
  · rw [if_neg (by omega), List.getD_eq_getElem?_getD, List.getElem?_eq_none (by rw [(kOk_f (i := 114) (by omega)).2.2.1]; omega)]
    rfl
theorem kRw_b {i : Nat} (h : kC i = 0) : (kSt (i + 1)).1 = (kSt i).1 + 1 ∧ kRw (i + 1) = kRw i := by
  have e : kSt (i + 1) = ((kSt i).1 + 1, (kSt i).2) := by rw [kSt, if_pos h]
  unfold kRw
  rw [e]
  exact ⟨rfl, rfl⟩
theorem kRw_s {i : Nat} (hi : i < 115) (h : ¬ kC i = 0) : (kSt (i + 1)).1 = (kSt i).1 ∧ kRw (i + 1) = vp_updL (kRw i) (kSt i).1 (zL ↑(32 * (kSt i).2.getD (kSt i).1 0 + kC i)) := by
  have e : kSt (i + 1) = ((kSt i).1, (kSt i).2.set (kSt i).1 (32 * (kSt i).2.getD (kSt i).1 0 + kC i)) := by rw [kSt, if_neg h]
  obtain ⟨f1, f2, f3, -⟩ := kOk_f hi
  refine ⟨by rw [e], ?_⟩
  funext j
  unfold kRw
  rw [e]
  by_cases hj : j = (kSt i).1
  · rw [hj, updL_eq]
    show zL ↑(((kSt i).2.set (kSt i).1 (32 * (kSt i).2.getD (kSt i).1 0 + kC i)).getD (kSt i).1 0) = _
    rw [List.getD_eq_getElem?_getD, List.getElem?_set_self (by omega)]
    rfl
  · rw [updL_ne hj]
    show zL ↑(((kSt i).2.set (kSt i).1 (32 * (kSt i).2.getD (kSt i).1 0 + kC i)).getD j 0) = _
    rw [List.getD_eq_getElem?_getD, List.getElem?_set_ne (fun z => hj z.symm), ← List.getD_eq_getElem?_getD]
theorem kRw_1 {i : Nat} (hi : i < 114) (h : ¬ kC i = 0) : ((kRw i (kSt i).1 <<< ((zI 5).toInt64 &&& 63)) ||| (((ssSb.getD 21 []).getD i 0 - zI 97) + zI 1).toInt64) = zL ↑(32 * (kSt i).2.getD (kSt i).1 0 + kC i) := by
  obtain ⟨-, -, -, f4, f5⟩ := kOk_f (show i < 115 by omega)
  obtain ⟨g1, g2⟩ := (f5 hi).2 h
  have := f4 (kSt i).1
  rw [g2, zI_sub, zI_add, show (↑(kC i) + 96 - 97 + 1 : Int) = ↑(kC i) by omega, zI_l (a := ↑(kC i)) (by omega) (by omega)]
  exact zL_or5 (a := (kSt i).2.getD (kSt i).1 0) (y := kC i) (by omega) (by omega)
theorem Ctor.cg {h h' : ssH} {a ci c : Nat} {fs : List Value} {q : Nat → Nat} {C C' : Nat → ssE} (hc : Ctor h a ci fs c q C h') (e : ∀ k, k < c → C k = C' k) : Ctor h a ci fs c q C' h' := ⟨hc.1, fun k hk => ⟨(hc.2.1 k hk).1, (hc.2.1 k hk).2.1, (hc.2.1 k hk).2.2.trans (congrArg some (e k hk))⟩, hc.2.2.1, hc.2.2.2⟩
theorem df6 : ∀ j, j < 1 → defaultValue (tyOf 6 j) = vp_V [.null] j := fun j hj => by
  rcases (show j = 0 from by omega) with rfl <;> rfl
def cC6 (q : Nat → Nat) : Nat → ssE := fun k => ([ar 6 (fun _ => 0)] : List ssE).getD k (.inr (0, []))
set_option maxRecDepth 100000 in
set_option maxHeartbeats 400000 in
theorem k_i6 (G : ssG) (h : ssH) {a : Nat} (ha : h a = some (.inr (6, [.null]))) : ssC G mX6_init 1 1 6 [.ref a] h (fun r h' => r = none ∧ ∃ q, Ctor h a 6 [.ref (q 0)] 1 q (cC6 q) h') := by
  refine c_of_v okX6_init (by decide +kernel) (ls := [some (.ref a)]) rfl (Nat.le_of_ble_eq_true rfl) ?_
  have hc0 : Ctor h a 6 [.null] 0 (fun _ => 0) (fun _ => .inr (0, [])) (h) := Ctor.nil h ha _ _
  refine v_run 1 (pc' := 1) (ls' := [some (.ref a)]) (st' := [.ref a]) rfl ?_
  refine v_objInit rfl rfl (by omega) (Nat.le_of_ble_eq_true rfl) ?_
  refine v_run 2 (pc' := 7) (ls' := [some (.ref a)]) (st' := [.int (zI 6), .ref a]) rfl ?_
  refine v_newarr (mc := 0) (ms := 0) (a0 := (6, .inl (fun j => zI ↑((fun _ => 0 : Nat → Nat) j)))) (N' := 6) rfl (fun _ => rfl) (by decide) (by decide) (by decide) ?_
  intro x1 hx1 _
  have hc2 : Ctor h a 6 [.null] 1 (upN (fun _ => 0) 0 x1) (upN (fun _ => .inr (0, [])) 0 (ar 6 (fun _ => 0))) (hset h x1 (ar 6 (fun _ => 0))) := hc0.push hx1 _
  generalize e2 : hset h x1 (ar 6 (fun _ => 0)) = h2 at hc2 ⊢
  clear e2
  refine v_run 0 (pc' := 9) (ls' := [some (.ref a)]) (st' := [.ref x1, .ref a]) rfl ?_
  refine v_put rfl hc2.1 rfl rfl (Nat.le_of_ble_eq_true rfl) ?_
  rw [show ([.null] : List Value).set 0 (.ref x1) = [.ref x1] from rfl]
  have hc3 : Ctor h a 6 [.ref x1] 1 (upN (fun _ => 0) 0 x1) (upN (fun _ => .inr (0, [])) 0 (ar 6 (fun _ => 0))) (hset h2 a (.inr (6, [.ref x1]))) := hc2.put _
  generalize e3 : hset h2 a (.inr (6, [.ref x1])) = h3 at hc3 ⊢
  clear e3
  refine v_run 0 (pc' := 12) (ls' := [some (.ref a)]) (st' := []) rfl ?_
  exact v_vret rfl rfl ⟨rfl, (upN (fun _ => 0) 0 x1), Ctor.cg (C' := cC6 (upN (fun _ => 0) 0 x1)) hc3 (fun k hk => by rcases (show k = 0 from by omega) with rfl <;> rfl)⟩

theorem df2 : ∀ j, j < 7 → defaultValue (tyOf 2 j) = vp_V [.int (zI 0), .int (zI 0), .int (zI 0), .null, .null, .null, .null] j := fun j hj => by
  rcases (show j = 0 ∨ j = 1 ∨ j = 2 ∨ j = 3 ∨ j = 4 ∨ j = 5 ∨ j = 6 from by omega) with rfl | rfl | rfl | rfl | rfl | rfl | rfl <;> rfl
def cC2 (q : Nat → Nat) : Nat → ssE := fun k => ([ar 6 (fun _ => 0), ar 6 (fun _ => 0), ar 6 (fun _ => 0), ar 41 (fun _ => 0)] : List ssE).getD k (.inr (0, []))
set_option maxRecDepth 100000 in
set_option maxHeartbeats 400000 in
theorem k_i2 (G : ssG) (h : ssH) {a : Nat} (ha : h a = some (.inr (2, [.int (zI 0), .int (zI 0), .int (zI 0), .null, .null, .null, .null]))) : ssC G mX2_init 1 4 59 [.ref a] h (fun r h' => r = none ∧ ∃ q, Ctor h a 2 [.int (zI 0), .int (zI 0), .int (zI 0), .ref (q 0), .ref (q 1), .ref (q 2), .ref (q 3)] 4 q (cC2 q) h') := by
  refine c_of_v okX2_init (by decide +kernel) (ls := [some (.ref a)]) rfl (Nat.le_of_ble_eq_true rfl) ?_
  have hc0 : Ctor h a 2 [.int (zI 0), .int (zI 0), .int (zI 0), .null, .null, .null, .null] 0 (fun _ => 0) (fun _ => .inr (0, [])) (h) := Ctor.nil h ha _ _
  refine v_run 1 (pc' := 1) (ls' := [some (.ref a)]) (st' := [.ref a]) rfl ?_
  refine v_objInit rfl rfl (by omega) (Nat.le_of_ble_eq_true rfl) ?_
  refine v_run 2 (pc' := 7) (ls' := [some (.ref a)]) (st' := [.int (zI 6), .ref a]) rfl ?_
  refine v_newarr (mc := 3) (ms := 53) (a0 := (6, .inl (fun j => zI ↑((fun _ => 0 : Nat → Nat) j)))) (N' := 6) rfl (fun _ => rfl) (by decide) (by decide) (by decide) ?_
  intro x1 hx1 _
  have hc2 : Ctor h a 2 [.int (zI 0), .int (zI 0), .int (zI 0), .null, .null, .null, .null] 1 (upN (fun _ => 0) 0 x1) (upN (fun _ => .inr (0, [])) 0 (ar 6 (fun _ => 0))) (hset h x1 (ar 6 (fun _ => 0))) := hc0.push hx1 _
  generalize e2 : hset h x1 (ar 6 (fun _ => 0)) = h2 at hc2 ⊢
  clear e2
  refine v_run 0 (pc' := 9) (ls' := [some (.ref a)]) (st' := [.ref x1, .ref a]) rfl ?_
  refine v_put rfl hc2.1 rfl rfl (Nat.le_of_ble_eq_true rfl) ?_
  rw [show ([.int (zI 0), .int (zI 0), .int (zI 0), .null, .null, .null, .null] : List Value).set 3 (.ref x1) = [.int (zI 0), .int (zI 0), .int (zI 0), .ref x1, .null, .null, .null] from rfl]
  have hc3 : Ctor h a 2 [.int (zI 0), .int (zI 0), .int (zI 0), .ref x1, .null, .null, .null] 1 (upN (fun _ => 0) 0 x1) (upN (fun _ => .inr (0, [])) 0 (ar 6 (fun _ => 0))) (hset h2 a (.inr (2, [.int (zI 0), .int (zI 0), .int (zI 0), .ref x1, .null, .null, .null]))) := hc2.put _
  generalize e3 : hset h2 a (.inr (2, [.int (zI 0), .int (zI 0), .int (zI 0), .ref x1, .null, .null, .null])) = h3 at hc3 ⊢
  clear e3
  refine v_run 2 (pc' := 15) (ls' := [some (.ref a)]) (st' := [.int (zI 6), .ref a]) rfl ?_
  refine v_newarr (mc := 2) (ms := 47) (a0 := (6, .inl (fun j => zI ↑((fun _ => 0 : Nat → Nat) j)))) (N' := 6) rfl (fun _ => rfl) (by decide) (by decide) (by decide) ?_
  intro x4 hx4 _
  have hc5 : Ctor h a 2 [.int (zI 0), .int (zI 0), .int (zI 0), .ref x1, .null, .null, .null] 2 (upN (upN (fun _ => 0) 0 x1) 1 x4) (upN (upN (fun _ => .inr (0, [])) 0 (ar 6 (fun _ => 0))) 1 (ar 6 (fun _ => 0))) (hset h3 x4 (ar 6 (fun _ => 0))) := hc3.push hx4 _
  generalize e5 : hset h3 x4 (ar 6 (fun _ => 0)) = h5 at hc5 ⊢
  clear e5
  refine v_run 0 (pc' := 17) (ls' := [some (.ref a)]) (st' := [.ref x4, .ref a]) rfl ?_
  refine v_put rfl hc5.1 rfl rfl (Nat.le_of_ble_eq_true rfl) ?_
  rw [show ([.int (zI 0), .int (zI 0), .int (zI 0), .ref x1, .null, .null, .null] : List Value).set 4 (.ref x4) = [.int (zI 0), .int (zI 0), .int (zI 0), .ref x1, .ref x4, .null, .null] from rfl]
  have hc6 : Ctor h a 2 [.int (zI 0), .int (zI 0), .int (zI 0), .ref x1, .ref x4, .null, .null] 2 (upN (upN (fun _ => 0) 0 x1) 1 x4) (upN (upN (fun _ => .inr (0, [])) 0 (ar 6 (fun _ => 0))) 1 (ar 6 (fun _ => 0))) (hset h5 a (.inr (2, [.int (zI 0), .int (zI 0), .int (zI 0), .ref x1, .ref x4, .null, .null]))) := hc5.put _
  generalize e6 : hset h5 a (.inr (2, [.int (zI 0), .int (zI 0), .int (zI 0), .ref x1, .ref x4, .null, .null])) = h6 at hc6 ⊢
  clear e6
  refine v_run 2 (pc' := 23) (ls' := [some (.ref a)]) (st' := [.int (zI 6), .ref a]) rfl ?_
  refine v_newarr (mc := 1) (ms := 41) (a0 := (6, .inl (fun j => zI ↑((fun _ => 0 : Nat → Nat) j)))) (N' := 6) rfl (fun _ => rfl) (by decide) (by decide) (by decide) ?_
  intro x7 hx7 _
  have hc8 : Ctor h a 2 [.int (zI 0), .int (zI 0), .int (zI 0), .ref x1, .ref x4, .null, .null] 3 (upN (upN (upN (fun _ => 0) 0 x1) 1 x4) 2 x7) (upN (upN (upN (fun _ => .inr (0, [])) 0 (ar 6 (fun _ => 0))) 1 (ar 6 (fun _ => 0))) 2 (ar 6 (fun _ => 0))) (hset h6 x7 (ar 6 (fun _ => 0))) := hc6.push hx7 _
  generalize e8 : hset h6 x7 (ar 6 (fun _ => 0)) = h8 at hc8 ⊢
  clear e8
  refine v_run 0 (pc' := 25) (ls' := [some (.ref a)]) (st' := [.ref x7, .ref a]) rfl ?_
  refine v_put rfl hc8.1 rfl rfl (Nat.le_of_ble_eq_true rfl) ?_
  rw [show ([.int (zI 0), .int (zI 0), .int (zI 0), .ref x1, .ref x4, .null, .null] : List Value).set 5 (.ref x7) = [.int (zI 0), .int (zI 0), .int (zI 0), .ref x1, .ref x4, .ref x7, .null] from rfl]
  have hc9 : Ctor h a 2 [.int (zI 0), .int (zI 0), .int (zI 0), .ref x1, .ref x4, .ref x7, .null] 3 (upN (upN (upN (fun _ => 0) 0 x1) 1 x4) 2 x7) (upN (upN (upN (fun _ => .inr (0, [])) 0 (ar 6 (fun _ => 0))) 1 (ar 6 (fun _ => 0))) 2 (ar 6 (fun _ => 0))) (hset h8 a (.inr (2, [.int (zI 0), .int (zI 0), .int (zI 0), .ref x1, .ref x4, .ref x7, .null]))) := hc8.put _
  generalize e9 : hset h8 a (.inr (2, [.int (zI 0), .int (zI 0), .int (zI 0), .ref x1, .ref x4, .ref x7, .null])) = h9 at hc9 ⊢
  clear e9
  refine v_run 2 (pc' := 31) (ls' := [some (.ref a)]) (st' := [.int (zI 41), .ref a]) rfl ?_
  refine v_newarr (mc := 0) (ms := 0) (a0 := (41, .inl (fun j => zI ↑((fun _ => 0 : Nat → Nat) j)))) (N' := 41) rfl (fun _ => rfl) (by decide) (by decide) (by decide) ?_
  intro x10 hx10 _
  have hc11 : Ctor h a 2 [.int (zI 0), .int (zI 0), .int (zI 0), .ref x1, .ref x4, .ref x7, .null] 4 (upN (upN (upN (upN (fun _ => 0) 0 x1) 1 x4) 2 x7) 3 x10) (upN (upN (upN (upN (fun _ => .inr (0, [])) 0 (ar 6 (fun _ => 0))) 1 (ar 6 (fun _ => 0))) 2 (ar 6 (fun _ => 0))) 3 (ar 41 (fun _ => 0))) (hset h9 x10 (ar 41 (fun _ => 0))) := hc9.push hx10 _
  generalize e11 : hset h9 x10 (ar 41 (fun _ => 0)) = h11 at hc11 ⊢
  clear e11
  refine v_run 0 (pc' := 33) (ls' := [some (.ref a)]) (st' := [.ref x10, .ref a]) rfl ?_
  refine v_put rfl hc11.1 rfl rfl (Nat.le_of_ble_eq_true rfl) ?_
  rw [show ([.int (zI 0), .int (zI 0), .int (zI 0), .ref x1, .ref x4, .ref x7, .null] : List Value).set 6 (.ref x10) = [.int (zI 0), .int (zI 0), .int (zI 0), .ref x1, .ref x4, .ref x7, .ref x10] from rfl]
  have hc12 : Ctor h a 2 [.int (zI 0), .int (zI 0), .int (zI 0), .ref x1, .ref x4, .ref x7, .ref x10] 4 (upN (upN (upN (upN (fun _ => 0) 0 x1) 1 x4) 2 x7) 3 x10) (upN (upN (upN (upN (fun _ => .inr (0, [])) 0 (ar 6 (fun _ => 0))) 1 (ar 6 (fun _ => 0))) 2 (ar 6 (fun _ => 0))) 3 (ar 41 (fun _ => 0))) (hset h11 a (.inr (2, [.int (zI 0), .int (zI 0), .int (zI 0), .ref x1, .ref x4, .ref x7, .ref x10]))) := hc11.put _
  generalize e12 : hset h11 a (.inr (2, [.int (zI 0), .int (zI 0), .int (zI 0), .ref x1, .ref x4, .ref x7, .ref x10])) = h12 at hc12 ⊢
  clear e12
  refine v_run 0 (pc' := 36) (ls' := [some (.ref a)]) (st' := []) rfl ?_
  exact v_vret rfl rfl ⟨rfl, (upN (upN (upN (upN (fun _ => 0) 0 x1) 1 x4) 2 x7) 3 x10), Ctor.cg (C' := cC2 (upN (upN (upN (upN (fun _ => 0) 0 x1) 1 x4) 2 x7) 3 x10)) hc12 (fun k hk => by rcases (show k = 0 ∨ k = 1 ∨ k = 2 ∨ k = 3 from by omega) with rfl | rfl | rfl | rfl <;> rfl)⟩

theorem df5 : ∀ j, j < 14 → defaultValue (tyOf 5 j) = vp_V [.int (zI 0), .int (zI 0), .int (zI 0), .int (zI 0), .long (zL 0), .null, .null, .null, .null, .null, .null, .int (zI 0), .int (zI 0), .int (zI 0)] j := fun j hj => by
  rcases (show j = 0 ∨ j = 1 ∨ j = 2 ∨ j = 3 ∨ j = 4 ∨ j = 5 ∨ j = 6 ∨ j = 7 ∨ j = 8 ∨ j = 9 ∨ j = 10 ∨ j = 11 ∨ j = 12 ∨ j = 13 from by omega) with rfl | rfl | rfl | rfl | rfl | rfl | rfl | rfl | rfl | rfl | rfl | rfl | rfl | rfl <;> rfl
def cC5 (q : Nat → Nat) : Nat → ssE := fun k => ([arB 900 (fun _ => 0), ar 901 (fun _ => 0), ar 901 (fun _ => 0), ar 901 (fun _ => 0), arL 901 (fun _ => 0), arJ 22 kR] : List ssE).getD k (.inr (0, []))
set_option maxRecDepth 100000 in
set_option maxHeartbeats 400000 in
theorem k_i5 (G : ssG) (h : ssH) {a : Nat} (ha : h a = some (.inr (5, [.int (zI 0), .int (zI 0), .int (zI 0), .int (zI 0), .long (zL 0), .null, .null, .null, .null, .null, .null, .int (zI 0), .int (zI 0), .int (zI 0)]))) : ssC G mX5_init 4 6 4526 [.ref a] h (fun r h' => r = none ∧ ∃ q, Ctor h a 5 [.int (zI 0), .int (zI 0), .int (zI 0), .int (zI 0), .long (zL 0), .ref (q 0), .ref (q 1), .ref (q 2), .ref (q 3), .ref (q 4), .ref (q 5), .int (zI 0), .int (zI 0), .int (zI 0)] 6 q (cC5 q) h') := by
  refine c_of_v okX5_init (by decide +kernel) (ls := [some (.ref a), none, none, none]) rfl (Nat.le_of_ble_eq_true rfl) ?_
  have hc0 : Ctor h a 5 [.int (zI 0), .int (zI 0), .int (zI 0), .int (zI 0), .long (zL 0), .null, .null, .null, .null, .null, .null, .int (zI 0), .int (zI 0), .int (zI 0)] 0 (fun _ => 0) (fun _ => .inr (0, [])) (h) := Ctor.nil h ha _ _
  refine v_run 1 (pc' := 1) (ls' := [some (.ref a), none, none, none]) (st' := [.ref a]) rfl ?_
  refine v_objInit rfl rfl (by omega) (Nat.le_of_ble_eq_true rfl) ?_
  refine v_run 2 (pc' := 8) (ls' := [some (.ref a), none, none, none]) (st' := [.int (zI 900), .ref a]) rfl ?_
  refine v_newarr (mc := 5) (ms := 3626) (a0 := (900, .inl (fun j => zI ((fun _ => 0 : Nat → Int) j)))) (N' := 900) rfl (fun _ => rfl) (by decide) (by decide) (by decide) ?_
  intro x1 hx1 _
  have hc2 : Ctor h a 5 [.int (zI 0), .int (zI 0), .int (zI 0), .int (zI 0), .long (zL 0), .null, .null, .null, .null, .null, .null, .int (zI 0), .int (zI 0), .int (zI 0)] 1 (upN (fun _ => 0) 0 x1) (upN (fun _ => .inr (0, [])) 0 (arB 900 (fun _ => 0))) (hset h x1 (arB 900 (fun _ => 0))) := hc0.push hx1 _
  generalize e2 : hset h x1 (arB 900 (fun _ => 0)) = h2 at hc2 ⊢
  clear e2
  refine v_run 0 (pc' := 10) (ls' := [some (.ref a), none, none, none]) (st' := [.ref x1, .ref a]) rfl ?_
  refine v_put rfl hc2.1 rfl rfl (Nat.le_of_ble_eq_true rfl) ?_
  rw [show ([.int (zI 0), .int (zI 0), .int (zI 0), .int (zI 0), .long (zL 0), .null, .null, .null, .null, .null, .null, .int (zI 0), .int (zI 0), .int (zI 0)] : List Value).set 5 (.ref x1) = [.int (zI 0), .int (zI 0), .int (zI 0), .int (zI 0), .long (zL 0), .ref x1, .null, .null, .null, .null, .null, .int (zI 0), .int (zI 0), .int (zI 0)] from rfl]
  have hc3 : Ctor h a 5 [.int (zI 0), .int (zI 0), .int (zI 0), .int (zI 0), .long (zL 0), .ref x1, .null, .null, .null, .null, .null, .int (zI 0), .int (zI 0), .int (zI 0)] 1 (upN (fun _ => 0) 0 x1) (upN (fun _ => .inr (0, [])) 0 (arB 900 (fun _ => 0))) (hset h2 a (.inr (5, [.int (zI 0), .int (zI 0), .int (zI 0), .int (zI 0), .long (zL 0), .ref x1, .null, .null, .null, .null, .null, .int (zI 0), .int (zI 0), .int (zI 0)]))) := hc2.put _
  generalize e3 : hset h2 a (.inr (5, [.int (zI 0), .int (zI 0), .int (zI 0), .int (zI 0), .long (zL 0), .ref x1, .null, .null, .null, .null, .null, .int (zI 0), .int (zI 0), .int (zI 0)])) = h3 at hc3 ⊢
  clear e3
  refine v_run 2 (pc' := 17) (ls' := [some (.ref a), none, none, none]) (st' := [.int (zI 901), .ref a]) rfl ?_
  refine v_newarr (mc := 4) (ms := 2725) (a0 := (901, .inl (fun j => zI ↑((fun _ => 0 : Nat → Nat) j)))) (N' := 901) rfl (fun _ => rfl) (by decide) (by decide) (by decide) ?_
  intro x4 hx4 _
  have hc5 : Ctor h a 5 [.int (zI 0), .int (zI 0), .int (zI 0), .int (zI 0), .long (zL 0), .ref x1, .null, .null, .null, .null, .null, .int (zI 0), .int (zI 0), .int (zI 0)] 2 (upN (upN (fun _ => 0) 0 x1) 1 x4) (upN (upN (fun _ => .inr (0, [])) 0 (arB 900 (fun _ => 0))) 1 (ar 901 (fun _ => 0))) (hset h3 x4 (ar 901 (fun _ => 0))) := hc3.push hx4 _
  generalize e5 : hset h3 x4 (ar 901 (fun _ => 0)) = h5 at hc5 ⊢
  clear e5
  refine v_run 0 (pc' := 19) (ls' := [some (.ref a), none, none, none]) (st' := [.ref x4, .ref a]) rfl ?_
  refine v_put rfl hc5.1 rfl rfl (Nat.le_of_ble_eq_true rfl) ?_
  rw [show ([.int (zI 0), .int (zI 0), .int (zI 0), .int (zI 0), .long (zL 0), .ref x1, .null, .null, .null, .null, .null, .int (zI 0), .int (zI 0), .int (zI 0)] : List Value).set 6 (.ref x4) = [.int (zI 0), .int (zI 0), .int (zI 0), .int (zI 0), .long (zL 0), .ref x1, .ref x4, .null, .null, .null, .null, .int (zI 0), .int (zI 0), .int (zI 0)] from rfl]
  have hc6 : Ctor h a 5 [.int (zI 0), .int (zI 0), .int (zI 0), .int (zI 0), .long (zL 0), .ref x1, .ref x4, .null, .null, .null, .null, .int (zI 0), .int (zI 0), .int (zI 0)] 2 (upN (upN (fun _ => 0) 0 x1) 1 x4) (upN (upN (fun _ => .inr (0, [])) 0 (arB 900 (fun _ => 0))) 1 (ar 901 (fun _ => 0))) (hset h5 a (.inr (5, [.int (zI 0), .int (zI 0), .int (zI 0), .int (zI 0), .long (zL 0), .ref x1, .ref x4, .null, .null, .null, .null, .int (zI 0), .int (zI 0), .int (zI 0)]))) := hc5.put _
  generalize e6 : hset h5 a (.inr (5, [.int (zI 0), .int (zI 0), .int (zI 0), .int (zI 0), .long (zL 0), .ref x1, .ref x4, .null, .null, .null, .null, .int (zI 0), .int (zI 0), .int (zI 0)])) = h6 at hc6 ⊢
  clear e6
  refine v_run 2 (pc' := 26) (ls' := [some (.ref a), none, none, none]) (st' := [.int (zI 901), .ref a]) rfl ?_
  refine v_newarr (mc := 3) (ms := 1824) (a0 := (901, .inl (fun j => zI ↑((fun _ => 0 : Nat → Nat) j)))) (N' := 901) rfl (fun _ => rfl) (by decide) (by decide) (by decide) ?_
  intro x7 hx7 _
  have hc8 : Ctor h a 5 [.int (zI 0), .int (zI 0), .int (zI 0), .int (zI 0), .long (zL 0), .ref x1, .ref x4, .null, .null, .null, .null, .int (zI 0), .int (zI 0), .int (zI 0)] 3 (upN (upN (upN (fun _ => 0) 0 x1) 1 x4) 2 x7) (upN (upN (upN (fun _ => .inr (0, [])) 0 (arB 900 (fun _ => 0))) 1 (ar 901 (fun _ => 0))) 2 (ar 901 (fun _ => 0))) (hset h6 x7 (ar 901 (fun _ => 0))) := hc6.push hx7 _
  generalize e8 : hset h6 x7 (ar 901 (fun _ => 0)) = h8 at hc8 ⊢
  clear e8
  refine v_run 0 (pc' := 28) (ls' := [some (.ref a), none, none, none]) (st' := [.ref x7, .ref a]) rfl ?_
  refine v_put rfl hc8.1 rfl rfl (Nat.le_of_ble_eq_true rfl) ?_
  rw [show ([.int (zI 0), .int (zI 0), .int (zI 0), .int (zI 0), .long (zL 0), .ref x1, .ref x4, .null, .null, .null, .null, .int (zI 0), .int (zI 0), .int (zI 0)] : List Value).set 7 (.ref x7) = [.int (zI 0), .int (zI 0), .int (zI 0), .int (zI 0), .long (zL 0), .ref x1, .ref x4, .ref x7, .null, .null, .null, .int (zI 0), .int (zI 0), .int (zI 0)] from rfl]
  have hc9 : Ctor h a 5 [.int (zI 0), .int (zI 0), .int (zI 0), .int (zI 0), .long (zL 0), .ref x1, .ref x4, .ref x7, .null, .null, .null, .int (zI 0), .int (zI 0), .int (zI 0)] 3 (upN (upN (upN (fun _ => 0) 0 x1) 1 x4) 2 x7) (upN (upN (upN (fun _ => .inr (0, [])) 0 (arB 900 (fun _ => 0))) 1 (ar 901 (fun _ => 0))) 2 (ar 901 (fun _ => 0))) (hset h8 a (.inr (5, [.int (zI 0), .int (zI 0), .int (zI 0), .int (zI 0), .long (zL 0), .ref x1, .ref x4, .ref x7, .null, .null, .null, .int (zI 0), .int (zI 0), .int (zI 0)]))) := hc8.put _
  generalize e9 : hset h8 a (.inr (5, [.int (zI 0), .int (zI 0), .int (zI 0), .int (zI 0), .long (zL 0), .ref x1, .ref x4, .ref x7, .null, .null, .null, .int (zI 0), .int (zI 0), .int (zI 0)])) = h9 at hc9 ⊢
  clear e9
  refine v_run 2 (pc' := 35) (ls' := [some (.ref a), none, none, none]) (st' := [.int (zI 901), .ref a]) rfl ?_
  refine v_newarr (mc := 2) (ms := 923) (a0 := (901, .inl (fun j => zI ↑((fun _ => 0 : Nat → Nat) j)))) (N' := 901) rfl (fun _ => rfl) (by decide) (by decide) (by decide) ?_
  intro x10 hx10 _
  have hc11 : Ctor h a 5 [.int (zI 0), .int (zI 0), .int (zI 0), .int (zI 0), .long (zL 0), .ref x1, .ref x4, .ref x7, .null, .null, .null, .int (zI 0), .int (zI 0), .int (zI 0)] 4 (upN (upN (upN (upN (fun _ => 0) 0 x1) 1 x4) 2 x7) 3 x10) (upN (upN (upN (upN (fun _ => .inr (0, [])) 0 (arB 900 (fun _ => 0))) 1 (ar 901 (fun _ => 0))) 2 (ar 901 (fun _ => 0))) 3 (ar 901 (fun _ => 0))) (hset h9 x10 (ar 901 (fun _ => 0))) := hc9.push hx10 _
  generalize e11 : hset h9 x10 (ar 901 (fun _ => 0)) = h11 at hc11 ⊢
  clear e11
  refine v_run 0 (pc' := 37) (ls' := [some (.ref a), none, none, none]) (st' := [.ref x10, .ref a]) rfl ?_
  refine v_put rfl hc11.1 rfl rfl (Nat.le_of_ble_eq_true rfl) ?_
  rw [show ([.int (zI 0), .int (zI 0), .int (zI 0), .int (zI 0), .long (zL 0), .ref x1, .ref x4, .ref x7, .null, .null, .null, .int (zI 0), .int (zI 0), .int (zI 0)] : List Value).set 8 (.ref x10) = [.int (zI 0), .int (zI 0), .int (zI 0), .int (zI 0), .long (zL 0), .ref x1, .ref x4, .ref x7, .ref x10, .null, .null, .int (zI 0), .int (zI 0), .int (zI 0)] from rfl]
  have hc12 : Ctor h a 5 [.int (zI 0), .int (zI 0), .int (zI 0), .int (zI 0), .long (zL 0), .ref x1, .ref x4, .ref x7, .ref x10, .null, .null, .int (zI 0), .int (zI 0), .int (zI 0)] 4 (upN (upN (upN (upN (fun _ => 0) 0 x1) 1 x4) 2 x7) 3 x10) (upN (upN (upN (upN (fun _ => .inr (0, [])) 0 (arB 900 (fun _ => 0))) 1 (ar 901 (fun _ => 0))) 2 (ar 901 (fun _ => 0))) 3 (ar 901 (fun _ => 0))) (hset h11 a (.inr (5, [.int (zI 0), .int (zI 0), .int (zI 0), .int (zI 0), .long (zL 0), .ref x1, .ref x4, .ref x7, .ref x10, .null, .null, .int (zI 0), .int (zI 0), .int (zI 0)]))) := hc11.put _
  generalize e12 : hset h11 a (.inr (5, [.int (zI 0), .int (zI 0), .int (zI 0), .int (zI 0), .long (zL 0), .ref x1, .ref x4, .ref x7, .ref x10, .null, .null, .int (zI 0), .int (zI 0), .int (zI 0)])) = h12 at hc12 ⊢
  clear e12
  refine v_run 2 (pc' := 44) (ls' := [some (.ref a), none, none, none]) (st' := [.int (zI 901), .ref a]) rfl ?_
  refine v_newarr (mc := 1) (ms := 22) (a0 := (901, .inr (.inl (fun j => zL ↑((fun _ => 0 : Nat → Nat) j))))) (N' := 901) rfl (fun _ => rfl) (by decide) (by decide) (by decide) ?_
  intro x13 hx13 _
  have hc14 : Ctor h a 5 [.int (zI 0), .int (zI 0), .int (zI 0), .int (zI 0), .long (zL 0), .ref x1, .ref x4, .ref x7, .ref x10, .null, .null, .int (zI 0), .int (zI 0), .int (zI 0)] 5 (upN (upN (upN (upN (upN (fun _ => 0) 0 x1) 1 x4) 2 x7) 3 x10) 4 x13) (upN (upN (upN (upN (upN (fun _ => .inr (0, [])) 0 (arB 900 (fun _ => 0))) 1 (ar 901 (fun _ => 0))) 2 (ar 901 (fun _ => 0))) 3 (ar 901 (fun _ => 0))) 4 (arL 901 (fun _ => 0))) (hset h12 x13 (arL 901 (fun _ => 0))) := hc12.push hx13 _
  generalize e14 : hset h12 x13 (arL 901 (fun _ => 0)) = h14 at hc14 ⊢
  clear e14
  refine v_run 0 (pc' := 46) (ls' := [some (.ref a), none, none, none]) (st' := [.ref x13, .ref a]) rfl ?_
  refine v_put rfl hc14.1 rfl rfl (Nat.le_of_ble_eq_true rfl) ?_
  rw [show ([.int (zI 0), .int (zI 0), .int (zI 0), .int (zI 0), .long (zL 0), .ref x1, .ref x4, .ref x7, .ref x10, .null, .null, .int (zI 0), .int (zI 0), .int (zI 0)] : List Value).set 9 (.ref x13) = [.int (zI 0), .int (zI 0), .int (zI 0), .int (zI 0), .long (zL 0), .ref x1, .ref x4, .ref x7, .ref x10, .ref x13, .null, .int (zI 0), .int (zI 0), .int (zI 0)] from rfl]
  have hc15 : Ctor h a 5 [.int (zI 0), .int (zI 0), .int (zI 0), .int (zI 0), .long (zL 0), .ref x1, .ref x4, .ref x7, .ref x10, .ref x13, .null, .int (zI 0), .int (zI 0), .int (zI 0)] 5 (upN (upN (upN (upN (upN (fun _ => 0) 0 x1) 1 x4) 2 x7) 3 x10) 4 x13) (upN (upN (upN (upN (upN (fun _ => .inr (0, [])) 0 (arB 900 (fun _ => 0))) 1 (ar 901 (fun _ => 0))) 2 (ar 901 (fun _ => 0))) 3 (ar 901 (fun _ => 0))) 4 (arL 901 (fun _ => 0))) (hset h14 a (.inr (5, [.int (zI 0), .int (zI 0), .int (zI 0), .int (zI 0), .long (zL 0), .ref x1, .ref x4, .ref x7, .ref x10, .ref x13, .null, .int (zI 0), .int (zI 0), .int (zI 0)]))) := hc14.put _
  generalize e15 : hset h14 a (.inr (5, [.int (zI 0), .int (zI 0), .int (zI 0), .int (zI 0), .long (zL 0), .ref x1, .ref x4, .ref x7, .ref x10, .ref x13, .null, .int (zI 0), .int (zI 0), .int (zI 0)])) = h15 at hc15 ⊢
  clear e15
  refine v_run 2 (pc' := 52) (ls' := [some (.ref a), none, none, none]) (st' := [.int (zI 22), .ref a]) rfl ?_
  refine v_newarr (mc := 0) (ms := 0) (a0 := (22, .inr (.inl (fun j => zL ↑((fun _ => 0 : Nat → Nat) j))))) (N' := 22) rfl (fun _ => rfl) (by decide) (by decide) (by decide) ?_
  intro x16 hx16 _
  have hc17 : Ctor h a 5 [.int (zI 0), .int (zI 0), .int (zI 0), .int (zI 0), .long (zL 0), .ref x1, .ref x4, .ref x7, .ref x10, .ref x13, .null, .int (zI 0), .int (zI 0), .int (zI 0)] 6 (upN (upN (upN (upN (upN (upN (fun _ => 0) 0 x1) 1 x4) 2 x7) 3 x10) 4 x13) 5 x16) (upN (upN (upN (upN (upN (upN (fun _ => .inr (0, [])) 0 (arB 900 (fun _ => 0))) 1 (ar 901 (fun _ => 0))) 2 (ar 901 (fun _ => 0))) 3 (ar 901 (fun _ => 0))) 4 (arL 901 (fun _ => 0))) 5 (arL 22 (fun _ => 0))) (hset h15 x16 (arL 22 (fun _ => 0))) := hc15.push hx16 _
  generalize e17 : hset h15 x16 (arL 22 (fun _ => 0)) = h17 at hc17 ⊢
  clear e17
  refine v_run 0 (pc' := 54) (ls' := [some (.ref a), none, none, none]) (st' := [.ref x16, .ref a]) rfl ?_
  refine v_put rfl hc17.1 rfl rfl (Nat.le_of_ble_eq_true rfl) ?_
  rw [show ([.int (zI 0), .int (zI 0), .int (zI 0), .int (zI 0), .long (zL 0), .ref x1, .ref x4, .ref x7, .ref x10, .ref x13, .null, .int (zI 0), .int (zI 0), .int (zI 0)] : List Value).set 10 (.ref x16) = [.int (zI 0), .int (zI 0), .int (zI 0), .int (zI 0), .long (zL 0), .ref x1, .ref x4, .ref x7, .ref x10, .ref x13, .ref x16, .int (zI 0), .int (zI 0), .int (zI 0)] from rfl]
  have hc18 : Ctor h a 5 [.int (zI 0), .int (zI 0), .int (zI 0), .int (zI 0), .long (zL 0), .ref x1, .ref x4, .ref x7, .ref x10, .ref x13, .ref x16, .int (zI 0), .int (zI 0), .int (zI 0)] 6 (upN (upN (upN (upN (upN (upN (fun _ => 0) 0 x1) 1 x4) 2 x7) 3 x10) 4 x13) 5 x16) (upN (upN (upN (upN (upN (upN (fun _ => .inr (0, [])) 0 (arB 900 (fun _ => 0))) 1 (ar 901 (fun _ => 0))) 2 (ar 901 (fun _ => 0))) 3 (ar 901 (fun _ => 0))) 4 (arL 901 (fun _ => 0))) 5 (arL 22 (fun _ => 0))) (hset h17 a (.inr (5, [.int (zI 0), .int (zI 0), .int (zI 0), .int (zI 0), .long (zL 0), .ref x1, .ref x4, .ref x7, .ref x10, .ref x13, .ref x16, .int (zI 0), .int (zI 0), .int (zI 0)]))) := hc17.put _
  generalize e18 : hset h17 a (.inr (5, [.int (zI 0), .int (zI 0), .int (zI 0), .int (zI 0), .long (zL 0), .ref x1, .ref x4, .ref x7, .ref x10, .ref x13, .ref x16, .int (zI 0), .int (zI 0), .int (zI 0)])) = h18 at hc18 ⊢
  clear e18
  refine v_run 4 (pc' := 61) (ls' := [some (.ref a), some (.int (zI 1)), some (.int (zI 0)), none]) (st' := []) rfl ?_
  have hI0 : Ctor h a 5 [.int (zI 0), .int (zI 0), .int (zI 0), .int (zI 0), .long (zL 0), .ref x1, .ref x4, .ref x7, .ref x10, .ref x13, .ref x16, .int (zI 0), .int (zI 0), .int (zI 0)] 6 (upN (upN (upN (upN (upN (upN (fun _ => 0) 0 x1) 1 x4) 2 x7) 3 x10) 4 x13) 5 x16) (upN (upN (upN (upN (upN (upN (upN (fun _ => .inr (0, [])) 0 (arB 900 (fun _ => 0))) 1 (ar 901 (fun _ => 0))) 2 (ar 901 (fun _ => 0))) 3 (ar 901 (fun _ => 0))) 4 (arL 901 (fun _ => 0))) 5 (arL 22 (fun _ => 0))) 5 (arJ 22 (kRw 0))) h18 := by
    rw [kRw_0]
    exact Ctor.cg hc18 (fun k hk => by rcases (show k = 0 ∨ k = 1 ∨ k = 2 ∨ k = 3 ∨ k = 4 ∨ k = 5 from by omega) with rfl | rfl | rfl | rfl | rfl | rfl <;> rfl)
  have lp : ∀ (f : Nat) (i : Nat) (h1 : ssH), (i ≤ 114 ∧ Ctor h a 5 [.int (zI 0), .int (zI 0), .int (zI 0), .int (zI 0), .long (zL 0), .ref x1, .ref x4, .ref x7, .ref x10, .ref x13, .ref x16, .int (zI 0), .int (zI 0), .int (zI 0)] 6 (upN (upN (upN (upN (upN (upN (fun _ => 0) 0 x1) 1 x4) 2 x7) 3 x10) 4 x13) 5 x16) (upN (upN (upN (upN (upN (upN (upN (fun _ => .inr (0, [])) 0 (arB 900 (fun _ => 0))) 1 (ar 901 (fun _ => 0))) 2 (ar 901 (fun _ => 0))) 3 (ar 901 (fun _ => 0))) 4 (arL 901 (fun _ => 0))) 5 (arL 22 (fun _ => 0))) 5 (arJ 22 (kRw i))) h1) → 114 + 1 ≤ i + f → ssV G mX5_init 4 0 0 (fun r h' => r = none ∧ ∃ q, Ctor h a 5 [.int (zI 0), .int (zI 0), .int (zI 0), .int (zI 0), .long (zL 0), .ref (q 0), .ref (q 1), .ref (q 2), .ref (q 3), .ref (q 4), .ref (q 5), .int (zI 0), .int (zI 0), .int (zI 0)] 6 q (cC5 q) h') 61 [some (.ref a), some (.int (zI ↑((kSt i).1))), some (.int (zI ↑i)), none] [] (h1) := by
    intro f
    induction f with
    | zero => intro i h1 hs1 hs2; obtain ⟨q1, hI⟩ := hs1; exact absurd hs2 (by omega)
    | succ f ihlp =>
      intro i h1 hs1 hs2
      obtain ⟨q1, hI⟩ := hs1
      have hx : h1 x16 = some (arJ 22 (kRw i)) := (hI.2.1 5 (by decide)).2.2
      obtain ⟨f1, f2, f3, f4, f5⟩ := kOk_f (i := i) (by omega)
      refine v_run 1 (pc' := 62) (ls' := [some (.ref a), some (.int (zI ↑((kSt i).1))), some (.int (zI ↑i)), none]) (st' := [.int (zI ↑i)]) rfl ?_
      refine v_ldcS rfl ?_
      refine v_run 0 (pc' := 64) (ls' := [some (.ref a), some (.int (zI ↑((kSt i).1))), some (.int (zI ↑i)), none]) (st' := [.ref (gK G 21), .int (zI ↑i)]) rfl ?_
      refine v_callT (My := mJ0_length_8abf5) (As := []) (rest := [.int (zI ↑i)]) (mc := 0) (ms := 0) (show 21 < 22 by decide) rfl caJ0_length_8abf5 rfl rfl rfl rfl (s_length G _ (show 21 < 22 by decide)) rfl rfl (Nat.le_of_ble_eq_true rfl) (by omega) ?_
      rintro _ _ ⟨rfl, rfl⟩
      refine v_run 0 (pc' := 67) (ls' := [some (.ref a), some (.int (zI ↑((kSt i).1))), some (.int (zI ↑i)), none]) (st' := [.int (zI 114), .int (zI ↑i)]) rfl ?_
      refine v_icmp_ge rfl (fun c67 => ?_) (fun c67 => ?_)
      · simp (disch := omega) only [zI_lt, zI_le, zI_eq, zI_lt0, zI_le0, zI_0lt, zI_0le, zI_eq0] at c67
        have ei : i = 114 := by omega
        rw [ei, kRw_end] at hI
        exact v_vret rfl rfl ⟨rfl, (upN (upN (upN (upN (upN (upN (fun _ => 0) 0 x1) 1 x4) 2 x7) 3 x10) 4 x13) 5 x16), Ctor.cg (C' := cC5 (upN (upN (upN (upN (upN (upN (fun _ => 0) 0 x1) 1 x4) 2 x7) 3 x10) 4 x13) 5 x16)) hI (fun k hk => by rcases (show k = 0 ∨ k = 1 ∨ k = 2 ∨ k = 3 ∨ k = 4 ∨ k = 5 from by omega) with rfl | rfl | rfl | rfl | rfl | rfl <;> rfl)⟩
      · simp (disch := omega) only [zI_lt, zI_le, zI_eq, zI_lt0, zI_le0, zI_0lt, zI_0le, zI_eq0] at c67
        refine v_run 2 (pc' := 73) (ls' := [some (.ref a), some (.int (zI ↑((kSt i).1))), some (.int (zI ↑i)), none]) (st' := [.int (zI 21), .int (zI ↑((kSt i).1))]) rfl ?_
        refine v_icmp_gt rfl (fun c73 => ?_) (fun c73 => ?_)
        · exfalso; revert c73; simp (disch := omega) only [zI_lt, zI_le, zI_eq, zI_lt0, zI_le0, zI_0lt, zI_0le, zI_eq0] <;> omega
        · simp (disch := omega) only [zI_lt, zI_le, zI_eq, zI_lt0, zI_le0, zI_0lt, zI_0le, zI_eq0] at c73
          refine v_ldcS rfl ?_
          refine v_run 1 (pc' := 79) (ls' := [some (.ref a), some (.int (zI ↑((kSt i).1))), some (.int (zI ↑i)), none]) (st' := [.int (zI ↑i), .ref (gK G 21)]) rfl ?_
          refine v_callT (My := mJ0_charAt_5068e) (As := [.int (zI ↑i)]) (rest := []) (mc := 0) (ms := 0) (show 21 < 22 by decide) rfl caJ0_charAt_5068e rfl rfl rfl rfl (s_charAt G _ (j := 21) (k := i) (show 21 < 22 by decide) (show i < 114 by omega)) rfl rfl (Nat.le_of_ble_eq_true rfl) (by omega) ?_
          rintro _ _ ⟨rfl, rfl⟩
          refine v_run 0 (pc' := 82) (ls' := [some (.ref a), some (.int (zI ↑((kSt i).1))), some (.int (zI ↑i)), none]) (st' := [.int ((ssSb.getD 21 []).getD i 0)]) rfl ?_
          have f6 := f5 (by omega)
          refine v_run 3 (pc' := 86) (ls' := [some (.ref a), some (.int (zI ↑((kSt i).1))), some (.int (zI ↑i)), some (.int ((ssSb.getD 21 []).getD i 0))]) (st' := [.int (zI 32), .int ((ssSb.getD 21 []).getD i 0)]) rfl ?_
          refine v_icmp_ne rfl (fun c86 => ?_) (fun c86 => ?_)
          · have e0 : ¬ kC i = 0 := fun e => c86 (f6.1 e)
            obtain ⟨e1, e2⟩ := kRw_s (i := i) (by omega) e0
            have e3 := kRw_1 (i := i) (by omega) e0
            refine v_run 1 (pc' := 96) (ls' := [some (.ref a), some (.int (zI ↑((kSt i).1))), some (.int (zI ↑i)), some (.int ((ssSb.getD 21 []).getD i 0))]) (st' := [.ref a]) rfl ?_
            refine v_get rfl hI.1 rfl ?_
            refine v_run 2 (pc' := 101) (ls' := [some (.ref a), some (.int (zI ↑((kSt i).1))), some (.int (zI ↑i)), some (.int ((ssSb.getD 21 []).getD i 0))]) (st' := [.ref a, .int (zI ↑((kSt i).1)), .ref x16]) rfl ?_
            refine v_get rfl hI.1 rfl ?_
            refine v_run 1 (pc' := 105) (ls' := [some (.ref a), some (.int (zI ↑((kSt i).1))), some (.int (zI ↑i)), some (.int ((ssSb.getD 21 []).getD i 0))]) (st' := [.int (zI ↑((kSt i).1)), .ref x16, .int (zI ↑((kSt i).1)), .ref x16]) rfl ?_
            refine v_laload' rfl hx (i := ((kSt i).1)) rfl (by omega) ?_
            refine v_run 1 (pc' := 107) (ls' := [some (.ref a), some (.int (zI ↑((kSt i).1))), some (.int (zI ↑i)), some (.int ((ssSb.getD 21 []).getD i 0))]) (st' := [.int ((ssSb.getD 21 []).getD i 0), .long (kRw i ((kSt i).1)), .int (zI ↑((kSt i).1)), .ref x16]) rfl ?_
            refine v_callS (My := mX5_withLetter) (As := [.long (kRw i ((kSt i).1)), .int ((ssSb.getD 21 []).getD i 0)]) (rest := [.int (zI ↑((kSt i).1)), .ref x16]) (mc := 0) (ms := 0) rfl caX5_withLetter rfl rfl (r_withLetter G _ (kRw i (kSt i).1) ((ssSb.getD 21 []).getD i 0)) rfl rfl (Nat.le_of_ble_eq_true rfl) (by omega) ?_
            rintro _ _ ⟨rfl, rfl⟩
            refine v_run 0 (pc' := 110) (ls' := [some (.ref a), some (.int (zI ↑((kSt i).1))), some (.int (zI ↑i)), some (.int ((ssSb.getD 21 []).getD i 0))]) (st' := [.long ((kRw i (kSt i).1 <<< ((zI 5).toInt64 &&& 63)) ||| (((ssSb.getD 21 []).getD i 0 - zI 97) + zI 1).toInt64), .int (zI ↑((kSt i).1)), .ref x16]) rfl ?_
            rw [e3]
            refine v_lastore' rfl hx (i := (kSt i).1) rfl (by omega) ?_
            have hs := hI.setc (k := 5) (by decide) (arJ 22 (vp_updL (kRw i) (kSt i).1 (zL ↑(32 * (kSt i).2.getD (kSt i).1 0 + kC i))))
            rw [← e2] at hs ⊢
            refine v_run 2 (pc' := 61) (ls' := [some (.ref a), some (.int (zI ↑((kSt i).1))), some (.int ((zI ↑i) + zI 1)), some (.int ((ssSb.getD 21 []).getD i 0))]) (st' := []) rfl ?_
            refine v_drop 3 (ls' := [some (.ref a), some (.int (zI ↑((kSt i).1))), some (.int ((zI ↑i) + zI 1)), none]) rfl ?_
            rw [zI_s1, ← e1]
            exact ihlp (i + 1) _ ⟨by omega, hs.cg (fun k hk => by rcases (show k = 0 ∨ k = 1 ∨ k = 2 ∨ k = 3 ∨ k = 4 ∨ k = 5 from by omega) with rfl | rfl | rfl | rfl | rfl | rfl <;> rfl)⟩ (by omega)
          · have e0 : kC i = 0 := by
                rcases Nat.eq_zero_or_pos (kC i) with e | e
                · exact e
                · obtain ⟨g1, g2⟩ := f6.2 (by omega)
                  rw [g2, zI_eq (by omega) (by omega) (by omega) (by omega)] at c86
                  omega
            obtain ⟨e1, e2⟩ := kRw_b e0
            refine v_run 4 (pc' := 61) (ls' := [some (.ref a), some (.int ((zI ↑((kSt i).1)) + zI 1)), some (.int ((zI ↑i) + zI 1)), some (.int ((ssSb.getD 21 []).getD i 0))]) (st' := []) rfl ?_
            refine v_drop 3 (ls' := [some (.ref a), some (.int ((zI ↑((kSt i).1)) + zI 1)), some (.int ((zI ↑i) + zI 1)), none]) rfl ?_
            rw [zI_s1, zI_s1, ← e1]
            rw [← e2] at hI
            exact ihlp (i + 1) h1 ⟨by omega, hI⟩ (by omega)
  exact lp 115 0 _ ⟨by omega, hI0⟩ (by omega)

theorem df4 : ∀ j, j < 17 → defaultValue (tyOf 4 j) = vp_V [.int (zI 0), .int (zI 0), .int (zI 0), .int (zI 0), .null, .int (zI 0), .null, .int (zI 0), .null, .null, .null, .int (zI 0), .int (zI 0), .int (zI 0), .int (zI 0), .int (zI 0), .null] j := fun j hj => by
  rcases (show j = 0 ∨ j = 1 ∨ j = 2 ∨ j = 3 ∨ j = 4 ∨ j = 5 ∨ j = 6 ∨ j = 7 ∨ j = 8 ∨ j = 9 ∨ j = 10 ∨ j = 11 ∨ j = 12 ∨ j = 13 ∨ j = 14 ∨ j = 15 ∨ j = 16 from by omega) with rfl | rfl | rfl | rfl | rfl | rfl | rfl | rfl | rfl | rfl | rfl | rfl | rfl | rfl | rfl | rfl | rfl <;> rfl
def cC4 (q : Nat → Nat) : Nat → ssE := fun k => ([ar 6 (fun _ => 0), ar 6 (fun _ => 0), ar 5 (fun _ => 0), ar 5 (fun _ => 0), ar 5 (fun _ => 0), .inr (2, [.int (zI 0), .int (zI 0), .int (zI 0), .ref (q 6), .ref (q 7), .ref (q 8), .ref (q 9)]), ar 6 (fun _ => 0), ar 6 (fun _ => 0), ar 6 (fun _ => 0), ar 41 (fun _ => 0)] : List ssE).getD k (.inr (0, []))
set_option maxRecDepth 100000 in
set_option maxHeartbeats 400000 in
theorem k_i4 (G : ssG) (h : ssH) {a : Nat} (ha : h a = some (.inr (4, [.int (zI 0), .int (zI 0), .int (zI 0), .int (zI 0), .null, .int (zI 0), .null, .int (zI 0), .null, .null, .null, .int (zI 0), .int (zI 0), .int (zI 0), .int (zI 0), .int (zI 0), .null]))) : ssC G mX4_init 2 10 93 [.ref a] h (fun r h' => r = none ∧ ∃ q, Ctor h a 4 [.int (zI 0), .int (zI 0), .int (zI 0), .int (zI 0), .ref (q 0), .int (zI 0), .ref (q 1), .int (zI 0), .ref (q 2), .ref (q 3), .ref (q 4), .int (zI 0), .int (zI 0), .int (zI (-1)), .int (zI 0), .int (zI 0), .ref (q 5)] 10 q (cC4 q) h') := by
  refine c_of_v okX4_init (by decide +kernel) (ls := [some (.ref a)]) rfl (Nat.le_of_ble_eq_true rfl) ?_
  have hc0 : Ctor h a 4 [.int (zI 0), .int (zI 0), .int (zI 0), .int (zI 0), .null, .int (zI 0), .null, .int (zI 0), .null, .null, .null, .int (zI 0), .int (zI 0), .int (zI 0), .int (zI 0), .int (zI 0), .null] 0 (fun _ => 0) (fun _ => .inr (0, [])) (h) := Ctor.nil h ha _ _
  refine v_run 1 (pc' := 1) (ls' := [some (.ref a)]) (st' := [.ref a]) rfl ?_
  refine v_objInit rfl rfl (by omega) (Nat.le_of_ble_eq_true rfl) ?_
  refine v_run 2 (pc' := 7) (ls' := [some (.ref a)]) (st' := [.int (zI 6), .ref a]) rfl ?_
  refine v_newarr (mc := 9) (ms := 87) (a0 := (6, .inl (fun j => zI ↑((fun _ => 0 : Nat → Nat) j)))) (N' := 6) rfl (fun _ => rfl) (by decide) (by decide) (by decide) ?_
  intro x1 hx1 _
  have hc2 : Ctor h a 4 [.int (zI 0), .int (zI 0), .int (zI 0), .int (zI 0), .null, .int (zI 0), .null, .int (zI 0), .null, .null, .null, .int (zI 0), .int (zI 0), .int (zI 0), .int (zI 0), .int (zI 0), .null] 1 (upN (fun _ => 0) 0 x1) (upN (fun _ => .inr (0, [])) 0 (ar 6 (fun _ => 0))) (hset h x1 (ar 6 (fun _ => 0))) := hc0.push hx1 _
  generalize e2 : hset h x1 (ar 6 (fun _ => 0)) = h2 at hc2 ⊢
  clear e2
  refine v_run 0 (pc' := 9) (ls' := [some (.ref a)]) (st' := [.ref x1, .ref a]) rfl ?_
  refine v_put rfl hc2.1 rfl rfl (Nat.le_of_ble_eq_true rfl) ?_
  rw [show ([.int (zI 0), .int (zI 0), .int (zI 0), .int (zI 0), .null, .int (zI 0), .null, .int (zI 0), .null, .null, .null, .int (zI 0), .int (zI 0), .int (zI 0), .int (zI 0), .int (zI 0), .null] : List Value).set 4 (.ref x1) = [.int (zI 0), .int (zI 0), .int (zI 0), .int (zI 0), .ref x1, .int (zI 0), .null, .int (zI 0), .null, .null, .null, .int (zI 0), .int (zI 0), .int (zI 0), .int (zI 0), .int (zI 0), .null] from rfl]
  have hc3 : Ctor h a 4 [.int (zI 0), .int (zI 0), .int (zI 0), .int (zI 0), .ref x1, .int (zI 0), .null, .int (zI 0), .null, .null, .null, .int (zI 0), .int (zI 0), .int (zI 0), .int (zI 0), .int (zI 0), .null] 1 (upN (fun _ => 0) 0 x1) (upN (fun _ => .inr (0, [])) 0 (ar 6 (fun _ => 0))) (hset h2 a (.inr (4, [.int (zI 0), .int (zI 0), .int (zI 0), .int (zI 0), .ref x1, .int (zI 0), .null, .int (zI 0), .null, .null, .null, .int (zI 0), .int (zI 0), .int (zI 0), .int (zI 0), .int (zI 0), .null]))) := hc2.put _
  generalize e3 : hset h2 a (.inr (4, [.int (zI 0), .int (zI 0), .int (zI 0), .int (zI 0), .ref x1, .int (zI 0), .null, .int (zI 0), .null, .null, .null, .int (zI 0), .int (zI 0), .int (zI 0), .int (zI 0), .int (zI 0), .null])) = h3 at hc3 ⊢
  clear e3
  refine v_run 2 (pc' := 15) (ls' := [some (.ref a)]) (st' := [.int (zI 6), .ref a]) rfl ?_
  refine v_newarr (mc := 8) (ms := 81) (a0 := (6, .inl (fun j => zI ↑((fun _ => 0 : Nat → Nat) j)))) (N' := 6) rfl (fun _ => rfl) (by decide) (by decide) (by decide) ?_
  intro x4 hx4 _
  have hc5 : Ctor h a 4 [.int (zI 0), .int (zI 0), .int (zI 0), .int (zI 0), .ref x1, .int (zI 0), .null, .int (zI 0), .null, .null, .null, .int (zI 0), .int (zI 0), .int (zI 0), .int (zI 0), .int (zI 0), .null] 2 (upN (upN (fun _ => 0) 0 x1) 1 x4) (upN (upN (fun _ => .inr (0, [])) 0 (ar 6 (fun _ => 0))) 1 (ar 6 (fun _ => 0))) (hset h3 x4 (ar 6 (fun _ => 0))) := hc3.push hx4 _
  generalize e5 : hset h3 x4 (ar 6 (fun _ => 0)) = h5 at hc5 ⊢
  clear e5
  refine v_run 0 (pc' := 17) (ls' := [some (.ref a)]) (st' := [.ref x4, .ref a]) rfl ?_
  refine v_put rfl hc5.1 rfl rfl (Nat.le_of_ble_eq_true rfl) ?_
  rw [show ([.int (zI 0), .int (zI 0), .int (zI 0), .int (zI 0), .ref x1, .int (zI 0), .null, .int (zI 0), .null, .null, .null, .int (zI 0), .int (zI 0), .int (zI 0), .int (zI 0), .int (zI 0), .null] : List Value).set 6 (.ref x4) = [.int (zI 0), .int (zI 0), .int (zI 0), .int (zI 0), .ref x1, .int (zI 0), .ref x4, .int (zI 0), .null, .null, .null, .int (zI 0), .int (zI 0), .int (zI 0), .int (zI 0), .int (zI 0), .null] from rfl]
  have hc6 : Ctor h a 4 [.int (zI 0), .int (zI 0), .int (zI 0), .int (zI 0), .ref x1, .int (zI 0), .ref x4, .int (zI 0), .null, .null, .null, .int (zI 0), .int (zI 0), .int (zI 0), .int (zI 0), .int (zI 0), .null] 2 (upN (upN (fun _ => 0) 0 x1) 1 x4) (upN (upN (fun _ => .inr (0, [])) 0 (ar 6 (fun _ => 0))) 1 (ar 6 (fun _ => 0))) (hset h5 a (.inr (4, [.int (zI 0), .int (zI 0), .int (zI 0), .int (zI 0), .ref x1, .int (zI 0), .ref x4, .int (zI 0), .null, .null, .null, .int (zI 0), .int (zI 0), .int (zI 0), .int (zI 0), .int (zI 0), .null]))) := hc5.put _
  generalize e6 : hset h5 a (.inr (4, [.int (zI 0), .int (zI 0), .int (zI 0), .int (zI 0), .ref x1, .int (zI 0), .ref x4, .int (zI 0), .null, .null, .null, .int (zI 0), .int (zI 0), .int (zI 0), .int (zI 0), .int (zI 0), .null])) = h6 at hc6 ⊢
  clear e6
  refine v_run 2 (pc' := 22) (ls' := [some (.ref a)]) (st' := [.int (zI 5), .ref a]) rfl ?_
  refine v_newarr (mc := 7) (ms := 76) (a0 := (5, .inl (fun j => zI ↑((fun _ => 0 : Nat → Nat) j)))) (N' := 5) rfl (fun _ => rfl) (by decide) (by decide) (by decide) ?_
  intro x7 hx7 _
  have hc8 : Ctor h a 4 [.int (zI 0), .int (zI 0), .int (zI 0), .int (zI 0), .ref x1, .int (zI 0), .ref x4, .int (zI 0), .null, .null, .null, .int (zI 0), .int (zI 0), .int (zI 0), .int (zI 0), .int (zI 0), .null] 3 (upN (upN (upN (fun _ => 0) 0 x1) 1 x4) 2 x7) (upN (upN (upN (fun _ => .inr (0, [])) 0 (ar 6 (fun _ => 0))) 1 (ar 6 (fun _ => 0))) 2 (ar 5 (fun _ => 0))) (hset h6 x7 (ar 5 (fun _ => 0))) := hc6.push hx7 _
  generalize e8 : hset h6 x7 (ar 5 (fun _ => 0)) = h8 at hc8 ⊢
  clear e8
  refine v_run 0 (pc' := 24) (ls' := [some (.ref a)]) (st' := [.ref x7, .ref a]) rfl ?_
  refine v_put rfl hc8.1 rfl rfl (Nat.le_of_ble_eq_true rfl) ?_
  rw [show ([.int (zI 0), .int (zI 0), .int (zI 0), .int (zI 0), .ref x1, .int (zI 0), .ref x4, .int (zI 0), .null, .null, .null, .int (zI 0), .int (zI 0), .int (zI 0), .int (zI 0), .int (zI 0), .null] : List Value).set 8 (.ref x7) = [.int (zI 0), .int (zI 0), .int (zI 0), .int (zI 0), .ref x1, .int (zI 0), .ref x4, .int (zI 0), .ref x7, .null, .null, .int (zI 0), .int (zI 0), .int (zI 0), .int (zI 0), .int (zI 0), .null] from rfl]
  have hc9 : Ctor h a 4 [.int (zI 0), .int (zI 0), .int (zI 0), .int (zI 0), .ref x1, .int (zI 0), .ref x4, .int (zI 0), .ref x7, .null, .null, .int (zI 0), .int (zI 0), .int (zI 0), .int (zI 0), .int (zI 0), .null] 3 (upN (upN (upN (fun _ => 0) 0 x1) 1 x4) 2 x7) (upN (upN (upN (fun _ => .inr (0, [])) 0 (ar 6 (fun _ => 0))) 1 (ar 6 (fun _ => 0))) 2 (ar 5 (fun _ => 0))) (hset h8 a (.inr (4, [.int (zI 0), .int (zI 0), .int (zI 0), .int (zI 0), .ref x1, .int (zI 0), .ref x4, .int (zI 0), .ref x7, .null, .null, .int (zI 0), .int (zI 0), .int (zI 0), .int (zI 0), .int (zI 0), .null]))) := hc8.put _
  generalize e9 : hset h8 a (.inr (4, [.int (zI 0), .int (zI 0), .int (zI 0), .int (zI 0), .ref x1, .int (zI 0), .ref x4, .int (zI 0), .ref x7, .null, .null, .int (zI 0), .int (zI 0), .int (zI 0), .int (zI 0), .int (zI 0), .null])) = h9 at hc9 ⊢
  clear e9
  refine v_run 2 (pc' := 29) (ls' := [some (.ref a)]) (st' := [.int (zI 5), .ref a]) rfl ?_
  refine v_newarr (mc := 6) (ms := 71) (a0 := (5, .inl (fun j => zI ↑((fun _ => 0 : Nat → Nat) j)))) (N' := 5) rfl (fun _ => rfl) (by decide) (by decide) (by decide) ?_
  intro x10 hx10 _
  have hc11 : Ctor h a 4 [.int (zI 0), .int (zI 0), .int (zI 0), .int (zI 0), .ref x1, .int (zI 0), .ref x4, .int (zI 0), .ref x7, .null, .null, .int (zI 0), .int (zI 0), .int (zI 0), .int (zI 0), .int (zI 0), .null] 4 (upN (upN (upN (upN (fun _ => 0) 0 x1) 1 x4) 2 x7) 3 x10) (upN (upN (upN (upN (fun _ => .inr (0, [])) 0 (ar 6 (fun _ => 0))) 1 (ar 6 (fun _ => 0))) 2 (ar 5 (fun _ => 0))) 3 (ar 5 (fun _ => 0))) (hset h9 x10 (ar 5 (fun _ => 0))) := hc9.push hx10 _
  generalize e11 : hset h9 x10 (ar 5 (fun _ => 0)) = h11 at hc11 ⊢
  clear e11
  refine v_run 0 (pc' := 31) (ls' := [some (.ref a)]) (st' := [.ref x10, .ref a]) rfl ?_
  refine v_put rfl hc11.1 rfl rfl (Nat.le_of_ble_eq_true rfl) ?_
  rw [show ([.int (zI 0), .int (zI 0), .int (zI 0), .int (zI 0), .ref x1, .int (zI 0), .ref x4, .int (zI 0), .ref x7, .null, .null, .int (zI 0), .int (zI 0), .int (zI 0), .int (zI 0), .int (zI 0), .null] : List Value).set 9 (.ref x10) = [.int (zI 0), .int (zI 0), .int (zI 0), .int (zI 0), .ref x1, .int (zI 0), .ref x4, .int (zI 0), .ref x7, .ref x10, .null, .int (zI 0), .int (zI 0), .int (zI 0), .int (zI 0), .int (zI 0), .null] from rfl]
  have hc12 : Ctor h a 4 [.int (zI 0), .int (zI 0), .int (zI 0), .int (zI 0), .ref x1, .int (zI 0), .ref x4, .int (zI 0), .ref x7, .ref x10, .null, .int (zI 0), .int (zI 0), .int (zI 0), .int (zI 0), .int (zI 0), .null] 4 (upN (upN (upN (upN (fun _ => 0) 0 x1) 1 x4) 2 x7) 3 x10) (upN (upN (upN (upN (fun _ => .inr (0, [])) 0 (ar 6 (fun _ => 0))) 1 (ar 6 (fun _ => 0))) 2 (ar 5 (fun _ => 0))) 3 (ar 5 (fun _ => 0))) (hset h11 a (.inr (4, [.int (zI 0), .int (zI 0), .int (zI 0), .int (zI 0), .ref x1, .int (zI 0), .ref x4, .int (zI 0), .ref x7, .ref x10, .null, .int (zI 0), .int (zI 0), .int (zI 0), .int (zI 0), .int (zI 0), .null]))) := hc11.put _
  generalize e12 : hset h11 a (.inr (4, [.int (zI 0), .int (zI 0), .int (zI 0), .int (zI 0), .ref x1, .int (zI 0), .ref x4, .int (zI 0), .ref x7, .ref x10, .null, .int (zI 0), .int (zI 0), .int (zI 0), .int (zI 0), .int (zI 0), .null])) = h12 at hc12 ⊢
  clear e12
  refine v_run 2 (pc' := 36) (ls' := [some (.ref a)]) (st' := [.int (zI 5), .ref a]) rfl ?_
  refine v_newarr (mc := 5) (ms := 66) (a0 := (5, .inl (fun j => zI ↑((fun _ => 0 : Nat → Nat) j)))) (N' := 5) rfl (fun _ => rfl) (by decide) (by decide) (by decide) ?_
  intro x13 hx13 _
  have hc14 : Ctor h a 4 [.int (zI 0), .int (zI 0), .int (zI 0), .int (zI 0), .ref x1, .int (zI 0), .ref x4, .int (zI 0), .ref x7, .ref x10, .null, .int (zI 0), .int (zI 0), .int (zI 0), .int (zI 0), .int (zI 0), .null] 5 (upN (upN (upN (upN (upN (fun _ => 0) 0 x1) 1 x4) 2 x7) 3 x10) 4 x13) (upN (upN (upN (upN (upN (fun _ => .inr (0, [])) 0 (ar 6 (fun _ => 0))) 1 (ar 6 (fun _ => 0))) 2 (ar 5 (fun _ => 0))) 3 (ar 5 (fun _ => 0))) 4 (ar 5 (fun _ => 0))) (hset h12 x13 (ar 5 (fun _ => 0))) := hc12.push hx13 _
  generalize e14 : hset h12 x13 (ar 5 (fun _ => 0)) = h14 at hc14 ⊢
  clear e14
  refine v_run 0 (pc' := 38) (ls' := [some (.ref a)]) (st' := [.ref x13, .ref a]) rfl ?_
  refine v_put rfl hc14.1 rfl rfl (Nat.le_of_ble_eq_true rfl) ?_
  rw [show ([.int (zI 0), .int (zI 0), .int (zI 0), .int (zI 0), .ref x1, .int (zI 0), .ref x4, .int (zI 0), .ref x7, .ref x10, .null, .int (zI 0), .int (zI 0), .int (zI 0), .int (zI 0), .int (zI 0), .null] : List Value).set 10 (.ref x13) = [.int (zI 0), .int (zI 0), .int (zI 0), .int (zI 0), .ref x1, .int (zI 0), .ref x4, .int (zI 0), .ref x7, .ref x10, .ref x13, .int (zI 0), .int (zI 0), .int (zI 0), .int (zI 0), .int (zI 0), .null] from rfl]
  have hc15 : Ctor h a 4 [.int (zI 0), .int (zI 0), .int (zI 0), .int (zI 0), .ref x1, .int (zI 0), .ref x4, .int (zI 0), .ref x7, .ref x10, .ref x13, .int (zI 0), .int (zI 0), .int (zI 0), .int (zI 0), .int (zI 0), .null] 5 (upN (upN (upN (upN (upN (fun _ => 0) 0 x1) 1 x4) 2 x7) 3 x10) 4 x13) (upN (upN (upN (upN (upN (fun _ => .inr (0, [])) 0 (ar 6 (fun _ => 0))) 1 (ar 6 (fun _ => 0))) 2 (ar 5 (fun _ => 0))) 3 (ar 5 (fun _ => 0))) 4 (ar 5 (fun _ => 0))) (hset h14 a (.inr (4, [.int (zI 0), .int (zI 0), .int (zI 0), .int (zI 0), .ref x1, .int (zI 0), .ref x4, .int (zI 0), .ref x7, .ref x10, .ref x13, .int (zI 0), .int (zI 0), .int (zI 0), .int (zI 0), .int (zI 0), .null]))) := hc14.put _
  generalize e15 : hset h14 a (.inr (4, [.int (zI 0), .int (zI 0), .int (zI 0), .int (zI 0), .ref x1, .int (zI 0), .ref x4, .int (zI 0), .ref x7, .ref x10, .ref x13, .int (zI 0), .int (zI 0), .int (zI 0), .int (zI 0), .int (zI 0), .null])) = h15 at hc15 ⊢
  clear e15
  refine v_run 2 (pc' := 43) (ls' := [some (.ref a)]) (st' := [.int (zI (-1)), .ref a]) rfl ?_
  refine v_put rfl hc15.1 rfl rfl (Nat.le_of_ble_eq_true rfl) ?_
  rw [show ([.int (zI 0), .int (zI 0), .int (zI 0), .int (zI 0), .ref x1, .int (zI 0), .ref x4, .int (zI 0), .ref x7, .ref x10, .ref x13, .int (zI 0), .int (zI 0), .int (zI 0), .int (zI 0), .int (zI 0), .null] : List Value).set 13 (.int (zI (-1))) = [.int (zI 0), .int (zI 0), .int (zI 0), .int (zI 0), .ref x1, .int (zI 0), .ref x4, .int (zI 0), .ref x7, .ref x10, .ref x13, .int (zI 0), .int (zI 0), .int (zI (-1)), .int (zI 0), .int (zI 0), .null] from rfl]
  have hc16 : Ctor h a 4 [.int (zI 0), .int (zI 0), .int (zI 0), .int (zI 0), .ref x1, .int (zI 0), .ref x4, .int (zI 0), .ref x7, .ref x10, .ref x13, .int (zI 0), .int (zI 0), .int (zI (-1)), .int (zI 0), .int (zI 0), .null] 5 (upN (upN (upN (upN (upN (fun _ => 0) 0 x1) 1 x4) 2 x7) 3 x10) 4 x13) (upN (upN (upN (upN (upN (fun _ => .inr (0, [])) 0 (ar 6 (fun _ => 0))) 1 (ar 6 (fun _ => 0))) 2 (ar 5 (fun _ => 0))) 3 (ar 5 (fun _ => 0))) 4 (ar 5 (fun _ => 0))) (hset h15 a (.inr (4, [.int (zI 0), .int (zI 0), .int (zI 0), .int (zI 0), .ref x1, .int (zI 0), .ref x4, .int (zI 0), .ref x7, .ref x10, .ref x13, .int (zI 0), .int (zI 0), .int (zI (-1)), .int (zI 0), .int (zI 0), .null]))) := hc15.put _
  generalize e16 : hset h15 a (.inr (4, [.int (zI 0), .int (zI 0), .int (zI 0), .int (zI 0), .ref x1, .int (zI 0), .ref x4, .int (zI 0), .ref x7, .ref x10, .ref x13, .int (zI 0), .int (zI 0), .int (zI (-1)), .int (zI 0), .int (zI 0), .null])) = h16 at hc16 ⊢
  clear e16
  refine v_run 1 (pc' := 47) (ls' := [some (.ref a)]) (st' := [.ref a]) rfl ?_
  refine v_new (mc := 4) (ms := 59) (ci := 2) (r := (RX2, TX2, 7)) (fs := [.int (zI 0), .int (zI 0), .int (zI 0), .null, .null, .null, .null]) rfl rfl df2 ?_
  intro x17 hx17 _
  have hc18 : Ctor h a 4 [.int (zI 0), .int (zI 0), .int (zI 0), .int (zI 0), .ref x1, .int (zI 0), .ref x4, .int (zI 0), .ref x7, .ref x10, .ref x13, .int (zI 0), .int (zI 0), .int (zI (-1)), .int (zI 0), .int (zI 0), .null] 6 (upN (upN (upN (upN (upN (upN (fun _ => 0) 0 x1) 1 x4) 2 x7) 3 x10) 4 x13) 5 x17) (upN (upN (upN (upN (upN (upN (fun _ => .inr (0, [])) 0 (ar 6 (fun _ => 0))) 1 (ar 6 (fun _ => 0))) 2 (ar 5 (fun _ => 0))) 3 (ar 5 (fun _ => 0))) 4 (ar 5 (fun _ => 0))) 5 (.inr (2, [.int (zI 0), .int (zI 0), .int (zI 0), .null, .null, .null, .null]))) (hset h16 x17 (.inr (2, [.int (zI 0), .int (zI 0), .int (zI 0), .null, .null, .null, .null]))) := hc16.push hx17 _
  generalize e18 : hset h16 x17 (.inr (2, [.int (zI 0), .int (zI 0), .int (zI 0), .null, .null, .null, .null])) = h18 at hc18 ⊢
  clear e18
  refine v_run 1 (pc' := 51) (ls' := [some (.ref a)]) (st' := [.ref x17, .ref x17, .ref a]) rfl ?_
  refine v_callI (My := mX2_init) (b := x17) (As := []) (rest := [.ref x17, .ref a]) (mc := 0) (ms := 0) rfl caX2_init rfl rfl rfl rfl (k_i2 G _ (a := x17) (hc18.2.1 5 (by decide)).2.2) rfl rfl (Nat.le_of_ble_eq_true rfl) (by omega) ?_
  rintro _ h19 ⟨rfl, r19, hd19⟩
  refine v_run 0 (pc' := 54) (ls' := [some (.ref a)]) (st' := [.ref x17, .ref a]) rfl ?_
  have hc19 : Ctor h a 4 [.int (zI 0), .int (zI 0), .int (zI 0), .int (zI 0), .ref x1, .int (zI 0), .ref x4, .int (zI 0), .ref x7, .ref x10, .ref x13, .int (zI 0), .int (zI 0), .int (zI (-1)), .int (zI 0), .int (zI 0), .null] 10 (apN (upN (upN (upN (upN (upN (upN (fun _ => 0) 0 x1) 1 x4) 2 x7) 3 x10) 4 x13) 5 x17) 6 r19) (apN (upN (upN (upN (upN (upN (upN (upN (fun _ => .inr (0, [])) 0 (ar 6 (fun _ => 0))) 1 (ar 6 (fun _ => 0))) 2 (ar 5 (fun _ => 0))) 3 (ar 5 (fun _ => 0))) 4 (ar 5 (fun _ => 0))) 5 (.inr (2, [.int (zI 0), .int (zI 0), .int (zI 0), .null, .null, .null, .null]))) 5 (.inr (2, [.int (zI 0), .int (zI 0), .int (zI 0), .ref (r19 0), .ref (r19 1), .ref (r19 2), .ref (r19 3)]))) 6 (cC2 r19)) (h19) := Ctor.app hc18 hd19
  refine v_run 0 (pc' := 54) (ls' := [some (.ref a)]) (st' := [.ref x17, .ref a]) rfl ?_
  refine v_put rfl hc19.1 rfl rfl (Nat.le_of_ble_eq_true rfl) ?_
  rw [show ([.int (zI 0), .int (zI 0), .int (zI 0), .int (zI 0), .ref x1, .int (zI 0), .ref x4, .int (zI 0), .ref x7, .ref x10, .ref x13, .int (zI 0), .int (zI 0), .int (zI (-1)), .int (zI 0), .int (zI 0), .null] : List Value).set 16 (.ref x17) = [.int (zI 0), .int (zI 0), .int (zI 0), .int (zI 0), .ref x1, .int (zI 0), .ref x4, .int (zI 0), .ref x7, .ref x10, .ref x13, .int (zI 0), .int (zI 0), .int (zI (-1)), .int (zI 0), .int (zI 0), .ref x17] from rfl]
  have hc20 : Ctor h a 4 [.int (zI 0), .int (zI 0), .int (zI 0), .int (zI 0), .ref x1, .int (zI 0), .ref x4, .int (zI 0), .ref x7, .ref x10, .ref x13, .int (zI 0), .int (zI 0), .int (zI (-1)), .int (zI 0), .int (zI 0), .ref x17] 10 (apN (upN (upN (upN (upN (upN (upN (fun _ => 0) 0 x1) 1 x4) 2 x7) 3 x10) 4 x13) 5 x17) 6 r19) (apN (upN (upN (upN (upN (upN (upN (upN (fun _ => .inr (0, [])) 0 (ar 6 (fun _ => 0))) 1 (ar 6 (fun _ => 0))) 2 (ar 5 (fun _ => 0))) 3 (ar 5 (fun _ => 0))) 4 (ar 5 (fun _ => 0))) 5 (.inr (2, [.int (zI 0), .int (zI 0), .int (zI 0), .null, .null, .null, .null]))) 5 (.inr (2, [.int (zI 0), .int (zI 0), .int (zI 0), .ref (r19 0), .ref (r19 1), .ref (r19 2), .ref (r19 3)]))) 6 (cC2 r19)) (hset h19 a (.inr (4, [.int (zI 0), .int (zI 0), .int (zI 0), .int (zI 0), .ref x1, .int (zI 0), .ref x4, .int (zI 0), .ref x7, .ref x10, .ref x13, .int (zI 0), .int (zI 0), .int (zI (-1)), .int (zI 0), .int (zI 0), .ref x17]))) := hc19.put _
  generalize e20 : hset h19 a (.inr (4, [.int (zI 0), .int (zI 0), .int (zI 0), .int (zI 0), .ref x1, .int (zI 0), .ref x4, .int (zI 0), .ref x7, .ref x10, .ref x13, .int (zI 0), .int (zI 0), .int (zI (-1)), .int (zI 0), .int (zI 0), .ref x17])) = h20 at hc20 ⊢
  clear e20
  refine v_run 0 (pc' := 57) (ls' := [some (.ref a)]) (st' := []) rfl ?_
  exact v_vret rfl rfl ⟨rfl, (apN (upN (upN (upN (upN (upN (upN (fun _ => 0) 0 x1) 1 x4) 2 x7) 3 x10) 4 x13) 5 x17) 6 r19), Ctor.cg (C' := cC4 (apN (upN (upN (upN (upN (upN (upN (fun _ => 0) 0 x1) 1 x4) 2 x7) 3 x10) 4 x13) 5 x17) 6 r19)) hc20 (fun k hk => by rcases (show k = 0 ∨ k = 1 ∨ k = 2 ∨ k = 3 ∨ k = 4 ∨ k = 5 ∨ k = 6 ∨ k = 7 ∨ k = 8 ∨ k = 9 from by omega) with rfl | rfl | rfl | rfl | rfl | rfl | rfl | rfl | rfl | rfl <;> rfl)⟩

theorem df0 : ∀ j, j < 4 → defaultValue (tyOf 0 j) = vp_V [.int (zI 0), .null, .null, .null] j := fun j hj => by
  rcases (show j = 0 ∨ j = 1 ∨ j = 2 ∨ j = 3 from by omega) with rfl | rfl | rfl | rfl <;> rfl
def cC0 (q : Nat → Nat) : Nat → ssE := fun k => ([ar 42 (fun _ => 0), ar 42 (fun _ => 0), .inr (6, [.ref (q 3)]), ar 6 (fun _ => 0)] : List ssE).getD k (.inr (0, []))
set_option maxRecDepth 100000 in
set_option maxHeartbeats 400000 in
theorem k_i0 (G : ssG) (h : ssH) {a : Nat} (ha : h a = some (.inr (0, [.int (zI 0), .null, .null, .null]))) : ssC G mX0_init 2 4 91 [.ref a] h (fun r h' => r = none ∧ ∃ q, Ctor h a 0 [.int (zI 0), .ref (q 0), .ref (q 1), .ref (q 2)] 4 q (cC0 q) h') := by
  refine c_of_v okX0_init (by decide +kernel) (ls := [some (.ref a)]) rfl (Nat.le_of_ble_eq_true rfl) ?_
  have hc0 : Ctor h a 0 [.int (zI 0), .null, .null, .null] 0 (fun _ => 0) (fun _ => .inr (0, [])) (h) := Ctor.nil h ha _ _
  refine v_run 1 (pc' := 1) (ls' := [some (.ref a)]) (st' := [.ref a]) rfl ?_
  refine v_objInit rfl rfl (by omega) (Nat.le_of_ble_eq_true rfl) ?_
  refine v_run 2 (pc' := 7) (ls' := [some (.ref a)]) (st' := [.int (zI 42), .ref a]) rfl ?_
  refine v_newarr (mc := 3) (ms := 49) (a0 := (42, .inl (fun j => zI ↑((fun _ => 0 : Nat → Nat) j)))) (N' := 42) rfl (fun _ => rfl) (by decide) (by decide) (by decide) ?_
  intro x1 hx1 _
  have hc2 : Ctor h a 0 [.int (zI 0), .null, .null, .null] 1 (upN (fun _ => 0) 0 x1) (upN (fun _ => .inr (0, [])) 0 (ar 42 (fun _ => 0))) (hset h x1 (ar 42 (fun _ => 0))) := hc0.push hx1 _
  generalize e2 : hset h x1 (ar 42 (fun _ => 0)) = h2 at hc2 ⊢
  clear e2
  refine v_run 0 (pc' := 9) (ls' := [some (.ref a)]) (st' := [.ref x1, .ref a]) rfl ?_
  refine v_put rfl hc2.1 rfl rfl (Nat.le_of_ble_eq_true rfl) ?_
  rw [show ([.int (zI 0), .null, .null, .null] : List Value).set 1 (.ref x1) = [.int (zI 0), .ref x1, .null, .null] from rfl]
  have hc3 : Ctor h a 0 [.int (zI 0), .ref x1, .null, .null] 1 (upN (fun _ => 0) 0 x1) (upN (fun _ => .inr (0, [])) 0 (ar 42 (fun _ => 0))) (hset h2 a (.inr (0, [.int (zI 0), .ref x1, .null, .null]))) := hc2.put _
  generalize e3 : hset h2 a (.inr (0, [.int (zI 0), .ref x1, .null, .null])) = h3 at hc3 ⊢
  clear e3
  refine v_run 2 (pc' := 15) (ls' := [some (.ref a)]) (st' := [.int (zI 42), .ref a]) rfl ?_
  refine v_newarr (mc := 2) (ms := 7) (a0 := (42, .inl (fun j => zI ↑((fun _ => 0 : Nat → Nat) j)))) (N' := 42) rfl (fun _ => rfl) (by decide) (by decide) (by decide) ?_
  intro x4 hx4 _
  have hc5 : Ctor h a 0 [.int (zI 0), .ref x1, .null, .null] 2 (upN (upN (fun _ => 0) 0 x1) 1 x4) (upN (upN (fun _ => .inr (0, [])) 0 (ar 42 (fun _ => 0))) 1 (ar 42 (fun _ => 0))) (hset h3 x4 (ar 42 (fun _ => 0))) := hc3.push hx4 _
  generalize e5 : hset h3 x4 (ar 42 (fun _ => 0)) = h5 at hc5 ⊢
  clear e5
  refine v_run 0 (pc' := 17) (ls' := [some (.ref a)]) (st' := [.ref x4, .ref a]) rfl ?_
  refine v_put rfl hc5.1 rfl rfl (Nat.le_of_ble_eq_true rfl) ?_
  rw [show ([.int (zI 0), .ref x1, .null, .null] : List Value).set 2 (.ref x4) = [.int (zI 0), .ref x1, .ref x4, .null] from rfl]
  have hc6 : Ctor h a 0 [.int (zI 0), .ref x1, .ref x4, .null] 2 (upN (upN (fun _ => 0) 0 x1) 1 x4) (upN (upN (fun _ => .inr (0, [])) 0 (ar 42 (fun _ => 0))) 1 (ar 42 (fun _ => 0))) (hset h5 a (.inr (0, [.int (zI 0), .ref x1, .ref x4, .null]))) := hc5.put _
  generalize e6 : hset h5 a (.inr (0, [.int (zI 0), .ref x1, .ref x4, .null])) = h6 at hc6 ⊢
  clear e6
  refine v_run 1 (pc' := 21) (ls' := [some (.ref a)]) (st' := [.ref a]) rfl ?_
  refine v_new (mc := 1) (ms := 6) (ci := 6) (r := (RX6, TX6, 1)) (fs := [.null]) rfl rfl df6 ?_
  intro x7 hx7 _
  have hc8 : Ctor h a 0 [.int (zI 0), .ref x1, .ref x4, .null] 3 (upN (upN (upN (fun _ => 0) 0 x1) 1 x4) 2 x7) (upN (upN (upN (fun _ => .inr (0, [])) 0 (ar 42 (fun _ => 0))) 1 (ar 42 (fun _ => 0))) 2 (.inr (6, [.null]))) (hset h6 x7 (.inr (6, [.null]))) := hc6.push hx7 _
  generalize e8 : hset h6 x7 (.inr (6, [.null])) = h8 at hc8 ⊢
  clear e8
  refine v_run 1 (pc' := 25) (ls' := [some (.ref a)]) (st' := [.ref x7, .ref x7, .ref a]) rfl ?_
  refine v_callI (My := mX6_init) (b := x7) (As := []) (rest := [.ref x7, .ref a]) (mc := 0) (ms := 0) rfl caX6_init rfl rfl rfl rfl (k_i6 G _ (a := x7) (hc8.2.1 2 (by decide)).2.2) rfl rfl (Nat.le_of_ble_eq_true rfl) (by omega) ?_
  rintro _ h9 ⟨rfl, r9, hd9⟩
  refine v_run 0 (pc' := 28) (ls' := [some (.ref a)]) (st' := [.ref x7, .ref a]) rfl ?_
  have hc9 : Ctor h a 0 [.int (zI 0), .ref x1, .ref x4, .null] 4 (apN (upN (upN (upN (fun _ => 0) 0 x1) 1 x4) 2 x7) 3 r9) (apN (upN (upN (upN (upN (fun _ => .inr (0, [])) 0 (ar 42 (fun _ => 0))) 1 (ar 42 (fun _ => 0))) 2 (.inr (6, [.null]))) 2 (.inr (6, [.ref (r9 0)]))) 3 (cC6 r9)) (h9) := Ctor.app hc8 hd9
  refine v_run 0 (pc' := 28) (ls' := [some (.ref a)]) (st' := [.ref x7, .ref a]) rfl ?_
  refine v_put rfl hc9.1 rfl rfl (Nat.le_of_ble_eq_true rfl) ?_
  rw [show ([.int (zI 0), .ref x1, .ref x4, .null] : List Value).set 3 (.ref x7) = [.int (zI 0), .ref x1, .ref x4, .ref x7] from rfl]
  have hc10 : Ctor h a 0 [.int (zI 0), .ref x1, .ref x4, .ref x7] 4 (apN (upN (upN (upN (fun _ => 0) 0 x1) 1 x4) 2 x7) 3 r9) (apN (upN (upN (upN (upN (fun _ => .inr (0, [])) 0 (ar 42 (fun _ => 0))) 1 (ar 42 (fun _ => 0))) 2 (.inr (6, [.null]))) 2 (.inr (6, [.ref (r9 0)]))) 3 (cC6 r9)) (hset h9 a (.inr (0, [.int (zI 0), .ref x1, .ref x4, .ref x7]))) := hc9.put _
  generalize e10 : hset h9 a (.inr (0, [.int (zI 0), .ref x1, .ref x4, .ref x7])) = h10 at hc10 ⊢
  clear e10
  refine v_run 0 (pc' := 31) (ls' := [some (.ref a)]) (st' := []) rfl ?_
  exact v_vret rfl rfl ⟨rfl, (apN (upN (upN (upN (fun _ => 0) 0 x1) 1 x4) 2 x7) 3 r9), Ctor.cg (C' := cC0 (apN (upN (upN (upN (fun _ => 0) 0 x1) 1 x4) 2 x7) 3 r9)) hc10 (fun k hk => by rcases (show k = 0 ∨ k = 1 ∨ k = 2 ∨ k = 3 from by omega) with rfl | rfl | rfl | rfl <;> rfl)⟩

theorem df1 : ∀ j, j < 9 → defaultValue (tyOf 1 j) = vp_V [.int (zI 0), .null, .null, .null, .null, .int (zI 0), .int (zI 0), .int (zI 0), .int (zI 0)] j := fun j hj => by
  rcases (show j = 0 ∨ j = 1 ∨ j = 2 ∨ j = 3 ∨ j = 4 ∨ j = 5 ∨ j = 6 ∨ j = 7 ∨ j = 8 from by omega) with rfl | rfl | rfl | rfl | rfl | rfl | rfl | rfl | rfl <;> rfl
def cC1 (q : Nat → Nat) : Nat → ssE := fun k => ([ar 6 (fun _ => 0), ar 6 (fun _ => 0), ar 36 (fun _ => 0), .inr (6, [.ref (q 4)]), ar 6 (fun _ => 0)] : List ssE).getD k (.inr (0, []))
set_option maxRecDepth 100000 in
set_option maxHeartbeats 400000 in
theorem k_i1 (G : ssG) (h : ssH) {a : Nat} (ha : h a = some (.inr (1, [.int (zI 0), .null, .null, .null, .null, .int (zI 0), .int (zI 0), .int (zI 0), .int (zI 0)]))) : ssC G mX1_init 2 5 55 [.ref a] h (fun r h' => r = none ∧ ∃ q, Ctor h a 1 [.int (zI 0), .ref (q 0), .ref (q 1), .ref (q 2), .ref (q 3), .int (zI 0), .int (zI 0), .int (zI 0), .int (zI 0)] 5 q (cC1 q) h') := by
  refine c_of_v okX1_init (by decide +kernel) (ls := [some (.ref a)]) rfl (Nat.le_of_ble_eq_true rfl) ?_
  have hc0 : Ctor h a 1 [.int (zI 0), .null, .null, .null, .null, .int (zI 0), .int (zI 0), .int (zI 0), .int (zI 0)] 0 (fun _ => 0) (fun _ => .inr (0, [])) (h) := Ctor.nil h ha _ _
  refine v_run 1 (pc' := 1) (ls' := [some (.ref a)]) (st' := [.ref a]) rfl ?_
  refine v_objInit rfl rfl (by omega) (Nat.le_of_ble_eq_true rfl) ?_
  refine v_run 2 (pc' := 7) (ls' := [some (.ref a)]) (st' := [.int (zI 6), .ref a]) rfl ?_
  refine v_newarr (mc := 4) (ms := 49) (a0 := (6, .inl (fun j => zI ↑((fun _ => 0 : Nat → Nat) j)))) (N' := 6) rfl (fun _ => rfl) (by decide) (by decide) (by decide) ?_
  intro x1 hx1 _
  have hc2 : Ctor h a 1 [.int (zI 0), .null, .null, .null, .null, .int (zI 0), .int (zI 0), .int (zI 0), .int (zI 0)] 1 (upN (fun _ => 0) 0 x1) (upN (fun _ => .inr (0, [])) 0 (ar 6 (fun _ => 0))) (hset h x1 (ar 6 (fun _ => 0))) := hc0.push hx1 _
  generalize e2 : hset h x1 (ar 6 (fun _ => 0)) = h2 at hc2 ⊢
  clear e2
  refine v_run 0 (pc' := 9) (ls' := [some (.ref a)]) (st' := [.ref x1, .ref a]) rfl ?_
  refine v_put rfl hc2.1 rfl rfl (Nat.le_of_ble_eq_true rfl) ?_
  rw [show ([.int (zI 0), .null, .null, .null, .null, .int (zI 0), .int (zI 0), .int (zI 0), .int (zI 0)] : List Value).set 1 (.ref x1) = [.int (zI 0), .ref x1, .null, .null, .null, .int (zI 0), .int (zI 0), .int (zI 0), .int (zI 0)] from rfl]
  have hc3 : Ctor h a 1 [.int (zI 0), .ref x1, .null, .null, .null, .int (zI 0), .int (zI 0), .int (zI 0), .int (zI 0)] 1 (upN (fun _ => 0) 0 x1) (upN (fun _ => .inr (0, [])) 0 (ar 6 (fun _ => 0))) (hset h2 a (.inr (1, [.int (zI 0), .ref x1, .null, .null, .null, .int (zI 0), .int (zI 0), .int (zI 0), .int (zI 0)]))) := hc2.put _
  generalize e3 : hset h2 a (.inr (1, [.int (zI 0), .ref x1, .null, .null, .null, .int (zI 0), .int (zI 0), .int (zI 0), .int (zI 0)])) = h3 at hc3 ⊢
  clear e3
  refine v_run 2 (pc' := 15) (ls' := [some (.ref a)]) (st' := [.int (zI 6), .ref a]) rfl ?_
  refine v_newarr (mc := 3) (ms := 43) (a0 := (6, .inl (fun j => zI ↑((fun _ => 0 : Nat → Nat) j)))) (N' := 6) rfl (fun _ => rfl) (by decide) (by decide) (by decide) ?_
  intro x4 hx4 _
  have hc5 : Ctor h a 1 [.int (zI 0), .ref x1, .null, .null, .null, .int (zI 0), .int (zI 0), .int (zI 0), .int (zI 0)] 2 (upN (upN (fun _ => 0) 0 x1) 1 x4) (upN (upN (fun _ => .inr (0, [])) 0 (ar 6 (fun _ => 0))) 1 (ar 6 (fun _ => 0))) (hset h3 x4 (ar 6 (fun _ => 0))) := hc3.push hx4 _
  generalize e5 : hset h3 x4 (ar 6 (fun _ => 0)) = h5 at hc5 ⊢
  clear e5
  refine v_run 0 (pc' := 17) (ls' := [some (.ref a)]) (st' := [.ref x4, .ref a]) rfl ?_
  refine v_put rfl hc5.1 rfl rfl (Nat.le_of_ble_eq_true rfl) ?_
  rw [show ([.int (zI 0), .ref x1, .null, .null, .null, .int (zI 0), .int (zI 0), .int (zI 0), .int (zI 0)] : List Value).set 2 (.ref x4) = [.int (zI 0), .ref x1, .ref x4, .null, .null, .int (zI 0), .int (zI 0), .int (zI 0), .int (zI 0)] from rfl]
  have hc6 : Ctor h a 1 [.int (zI 0), .ref x1, .ref x4, .null, .null, .int (zI 0), .int (zI 0), .int (zI 0), .int (zI 0)] 2 (upN (upN (fun _ => 0) 0 x1) 1 x4) (upN (upN (fun _ => .inr (0, [])) 0 (ar 6 (fun _ => 0))) 1 (ar 6 (fun _ => 0))) (hset h5 a (.inr (1, [.int (zI 0), .ref x1, .ref x4, .null, .null, .int (zI 0), .int (zI 0), .int (zI 0), .int (zI 0)]))) := hc5.put _
  generalize e6 : hset h5 a (.inr (1, [.int (zI 0), .ref x1, .ref x4, .null, .null, .int (zI 0), .int (zI 0), .int (zI 0), .int (zI 0)])) = h6 at hc6 ⊢
  clear e6
  refine v_run 2 (pc' := 23) (ls' := [some (.ref a)]) (st' := [.int (zI 36), .ref a]) rfl ?_
  refine v_newarr (mc := 2) (ms := 7) (a0 := (36, .inl (fun j => zI ↑((fun _ => 0 : Nat → Nat) j)))) (N' := 36) rfl (fun _ => rfl) (by decide) (by decide) (by decide) ?_
  intro x7 hx7 _
  have hc8 : Ctor h a 1 [.int (zI 0), .ref x1, .ref x4, .null, .null, .int (zI 0), .int (zI 0), .int (zI 0), .int (zI 0)] 3 (upN (upN (upN (fun _ => 0) 0 x1) 1 x4) 2 x7) (upN (upN (upN (fun _ => .inr (0, [])) 0 (ar 6 (fun _ => 0))) 1 (ar 6 (fun _ => 0))) 2 (ar 36 (fun _ => 0))) (hset h6 x7 (ar 36 (fun _ => 0))) := hc6.push hx7 _
  generalize e8 : hset h6 x7 (ar 36 (fun _ => 0)) = h8 at hc8 ⊢
  clear e8
  refine v_run 0 (pc' := 25) (ls' := [some (.ref a)]) (st' := [.ref x7, .ref a]) rfl ?_
  refine v_put rfl hc8.1 rfl rfl (Nat.le_of_ble_eq_true rfl) ?_
  rw [show ([.int (zI 0), .ref x1, .ref x4, .null, .null, .int (zI 0), .int (zI 0), .int (zI 0), .int (zI 0)] : List Value).set 3 (.ref x7) = [.int (zI 0), .ref x1, .ref x4, .ref x7, .null, .int (zI 0), .int (zI 0), .int (zI 0), .int (zI 0)] from rfl]
  have hc9 : Ctor h a 1 [.int (zI 0), .ref x1, .ref x4, .ref x7, .null, .int (zI 0), .int (zI 0), .int (zI 0), .int (zI 0)] 3 (upN (upN (upN (fun _ => 0) 0 x1) 1 x4) 2 x7) (upN (upN (upN (fun _ => .inr (0, [])) 0 (ar 6 (fun _ => 0))) 1 (ar 6 (fun _ => 0))) 2 (ar 36 (fun _ => 0))) (hset h8 a (.inr (1, [.int (zI 0), .ref x1, .ref x4, .ref x7, .null, .int (zI 0), .int (zI 0), .int (zI 0), .int (zI 0)]))) := hc8.put _
  generalize e9 : hset h8 a (.inr (1, [.int (zI 0), .ref x1, .ref x4, .ref x7, .null, .int (zI 0), .int (zI 0), .int (zI 0), .int (zI 0)])) = h9 at hc9 ⊢
  clear e9
  refine v_run 1 (pc' := 29) (ls' := [some (.ref a)]) (st' := [.ref a]) rfl ?_
  refine v_new (mc := 1) (ms := 6) (ci := 6) (r := (RX6, TX6, 1)) (fs := [.null]) rfl rfl df6 ?_
  intro x10 hx10 _
  have hc11 : Ctor h a 1 [.int (zI 0), .ref x1, .ref x4, .ref x7, .null, .int (zI 0), .int (zI 0), .int (zI 0), .int (zI 0)] 4 (upN (upN (upN (upN (fun _ => 0) 0 x1) 1 x4) 2 x7) 3 x10) (upN (upN (upN (upN (fun _ => .inr (0, [])) 0 (ar 6 (fun _ => 0))) 1 (ar 6 (fun _ => 0))) 2 (ar 36 (fun _ => 0))) 3 (.inr (6, [.null]))) (hset h9 x10 (.inr (6, [.null]))) := hc9.push hx10 _
  generalize e11 : hset h9 x10 (.inr (6, [.null])) = h11 at hc11 ⊢
  clear e11
  refine v_run 1 (pc' := 33) (ls' := [some (.ref a)]) (st' := [.ref x10, .ref x10, .ref a]) rfl ?_
  refine v_callI (My := mX6_init) (b := x10) (As := []) (rest := [.ref x10, .ref a]) (mc := 0) (ms := 0) rfl caX6_init rfl rfl rfl rfl (k_i6 G _ (a := x10) (hc11.2.1 3 (by decide)).2.2) rfl rfl (Nat.le_of_ble_eq_true rfl) (by omega) ?_
  rintro _ h12 ⟨rfl, r12, hd12⟩
  refine v_run 0 (pc' := 36) (ls' := [some (.ref a)]) (st' := [.ref x10, .ref a]) rfl ?_
  have hc12 : Ctor h a 1 [.int (zI 0), .ref x1, .ref x4, .ref x7, .null, .int (zI 0), .int (zI 0), .int (zI 0), .int (zI 0)] 5 (apN (upN (upN (upN (upN (fun _ => 0) 0 x1) 1 x4) 2 x7) 3 x10) 4 r12) (apN (upN (upN (upN (upN (upN (fun _ => .inr (0, [])) 0 (ar 6 (fun _ => 0))) 1 (ar 6 (fun _ => 0))) 2 (ar 36 (fun _ => 0))) 3 (.inr (6, [.null]))) 3 (.inr (6, [.ref (r12 0)]))) 4 (cC6 r12)) (h12) := Ctor.app hc11 hd12
  refine v_run 0 (pc' := 36) (ls' := [some (.ref a)]) (st' := [.ref x10, .ref a]) rfl ?_
  refine v_put rfl hc12.1 rfl rfl (Nat.le_of_ble_eq_true rfl) ?_
  rw [show ([.int (zI 0), .ref x1, .ref x4, .ref x7, .null, .int (zI 0), .int (zI 0), .int (zI 0), .int (zI 0)] : List Value).set 4 (.ref x10) = [.int (zI 0), .ref x1, .ref x4, .ref x7, .ref x10, .int (zI 0), .int (zI 0), .int (zI 0), .int (zI 0)] from rfl]
  have hc13 : Ctor h a 1 [.int (zI 0), .ref x1, .ref x4, .ref x7, .ref x10, .int (zI 0), .int (zI 0), .int (zI 0), .int (zI 0)] 5 (apN (upN (upN (upN (upN (fun _ => 0) 0 x1) 1 x4) 2 x7) 3 x10) 4 r12) (apN (upN (upN (upN (upN (upN (fun _ => .inr (0, [])) 0 (ar 6 (fun _ => 0))) 1 (ar 6 (fun _ => 0))) 2 (ar 36 (fun _ => 0))) 3 (.inr (6, [.null]))) 3 (.inr (6, [.ref (r12 0)]))) 4 (cC6 r12)) (hset h12 a (.inr (1, [.int (zI 0), .ref x1, .ref x4, .ref x7, .ref x10, .int (zI 0), .int (zI 0), .int (zI 0), .int (zI 0)]))) := hc12.put _
  generalize e13 : hset h12 a (.inr (1, [.int (zI 0), .ref x1, .ref x4, .ref x7, .ref x10, .int (zI 0), .int (zI 0), .int (zI 0), .int (zI 0)])) = h13 at hc13 ⊢
  clear e13
  refine v_run 0 (pc' := 39) (ls' := [some (.ref a)]) (st' := []) rfl ?_
  exact v_vret rfl rfl ⟨rfl, (apN (upN (upN (upN (upN (fun _ => 0) 0 x1) 1 x4) 2 x7) 3 x10) 4 r12), Ctor.cg (C' := cC1 (apN (upN (upN (upN (upN (fun _ => 0) 0 x1) 1 x4) 2 x7) 3 x10) 4 r12)) hc13 (fun k hk => by rcases (show k = 0 ∨ k = 1 ∨ k = 2 ∨ k = 3 ∨ k = 4 from by omega) with rfl | rfl | rfl | rfl | rfl <;> rfl)⟩

theorem df3 : ∀ j, j < 11 → defaultValue (tyOf 3 j) = vp_V [.null, .int (zI 0), .int (zI 0), .null, .int (zI 0), .int (zI 0), .int (zI 0), .int (zI 0), .null, .null, .null] j := fun j hj => by
  rcases (show j = 0 ∨ j = 1 ∨ j = 2 ∨ j = 3 ∨ j = 4 ∨ j = 5 ∨ j = 6 ∨ j = 7 ∨ j = 8 ∨ j = 9 ∨ j = 10 from by omega) with rfl | rfl | rfl | rfl | rfl | rfl | rfl | rfl | rfl | rfl | rfl <;> rfl
def cC3 (q : Nat → Nat) : Nat → ssE := fun k => ([.inr (5, [.int (zI 0), .int (zI 0), .int (zI 0), .int (zI 0), .long (zL 0), .ref (q 1), .ref (q 2), .ref (q 3), .ref (q 4), .ref (q 5), .ref (q 6), .int (zI 0), .int (zI 0), .int (zI 0)]), arB 900 (fun _ => 0), ar 901 (fun _ => 0), ar 901 (fun _ => 0), ar 901 (fun _ => 0), arL 901 (fun _ => 0), arJ 22 kR, .inr (4, [.int (zI 0), .int (zI 0), .int (zI 0), .int (zI 0), .ref (q 8), .int (zI 0), .ref (q 9), .int (zI 0), .ref (q 10), .ref (q 11), .ref (q 12), .int (zI 0), .int (zI 0), .int (zI (-1)), .int (zI 0), .int (zI 0), .ref (q 13)]), ar 6 (fun _ => 0), ar 6 (fun _ => 0), ar 5 (fun _ => 0), ar 5 (fun _ => 0), ar 5 (fun _ => 0), .inr (2, [.int (zI 0), .int (zI 0), .int (zI 0), .ref (q 14), .ref (q 15), .ref (q 16), .ref (q 17)]), ar 6 (fun _ => 0), ar 6 (fun _ => 0), ar 6 (fun _ => 0), ar 41 (fun _ => 0), arL 17 (fun _ => 0), ar 17 (fun _ => 0), ar 17 (fun _ => 0)] : List ssE).getD k (.inr (0, []))
set_option maxRecDepth 100000 in
set_option maxHeartbeats 400000 in
theorem k_i3 (G : ssG) (h : ssH) {a : Nat} (ha : h a = some (.inr (3, [.null, .int (zI 0), .int (zI 0), .null, .int (zI 0), .int (zI 0), .int (zI 0), .int (zI 0), .null, .null, .null]))) : ssC G mX3_init 5 21 4701 [.ref a] h (fun r h' => r = none ∧ ∃ q, Ctor h a 3 [.ref (q 0), .int (zI 0), .int (zI 0), .ref (q 7), .int (zI 0), .int (zI 0), .int (zI 0), .int (zI 0), .ref (q 18), .ref (q 19), .ref (q 20)] 21 q (cC3 q) h') := by
  refine c_of_v okX3_init (by decide +kernel) (ls := [some (.ref a)]) rfl (Nat.le_of_ble_eq_true rfl) ?_
  have hc0 : Ctor h a 3 [.null, .int (zI 0), .int (zI 0), .null, .int (zI 0), .int (zI 0), .int (zI 0), .int (zI 0), .null, .null, .null] 0 (fun _ => 0) (fun _ => .inr (0, [])) (h) := Ctor.nil h ha _ _
  refine v_run 1 (pc' := 1) (ls' := [some (.ref a)]) (st' := [.ref a]) rfl ?_
  refine v_objInit rfl rfl (by omega) (Nat.le_of_ble_eq_true rfl) ?_
  refine v_run 1 (pc' := 5) (ls' := [some (.ref a)]) (st' := [.ref a]) rfl ?_
  refine v_new (mc := 20) (ms := 4687) (ci := 5) (r := (RX5, TX5, 14)) (fs := [.int (zI 0), .int (zI 0), .int (zI 0), .int (zI 0), .long (zL 0), .null, .null, .null, .null, .null, .null, .int (zI 0), .int (zI 0), .int (zI 0)]) rfl rfl df5 ?_
  intro x1 hx1 _
  have hc2 : Ctor h a 3 [.null, .int (zI 0), .int (zI 0), .null, .int (zI 0), .int (zI 0), .int (zI 0), .int (zI 0), .null, .null, .null] 1 (upN (fun _ => 0) 0 x1) (upN (fun _ => .inr (0, [])) 0 (.inr (5, [.int (zI 0), .int (zI 0), .int (zI 0), .int (zI 0), .long (zL 0), .null, .null, .null, .null, .null, .null, .int (zI 0), .int (zI 0), .int (zI 0)]))) (hset h x1 (.inr (5, [.int (zI 0), .int (zI 0), .int (zI 0), .int (zI 0), .long (zL 0), .null, .null, .null, .null, .null, .null, .int (zI 0), .int (zI 0), .int (zI 0)]))) := hc0.push hx1 _
  generalize e2 : hset h x1 (.inr (5, [.int (zI 0), .int (zI 0), .int (zI 0), .int (zI 0), .long (zL 0), .null, .null, .null, .null, .null, .null, .int (zI 0), .int (zI 0), .int (zI 0)])) = h2 at hc2 ⊢
  clear e2
  refine v_run 1 (pc' := 9) (ls' := [some (.ref a)]) (st' := [.ref x1, .ref x1, .ref a]) rfl ?_
  refine v_callI (My := mX5_init) (b := x1) (As := []) (rest := [.ref x1, .ref a]) (mc := 14) (ms := 161) rfl caX5_init rfl rfl rfl rfl (k_i5 G _ (a := x1) (hc2.2.1 0 (by decide)).2.2) rfl rfl (Nat.le_of_ble_eq_true rfl) (by omega) ?_
  rintro _ h3 ⟨rfl, r3, hd3⟩
  refine v_run 0 (pc' := 12) (ls' := [some (.ref a)]) (st' := [.ref x1, .ref a]) rfl ?_
  have hc3 : Ctor h a 3 [.null, .int (zI 0), .int (zI 0), .null, .int (zI 0), .int (zI 0), .int (zI 0), .int (zI 0), .null, .null, .null] 7 (apN (upN (fun _ => 0) 0 x1) 1 r3) (apN (upN (upN (fun _ => .inr (0, [])) 0 (.inr (5, [.int (zI 0), .int (zI 0), .int (zI 0), .int (zI 0), .long (zL 0), .null, .null, .null, .null, .null, .null, .int (zI 0), .int (zI 0), .int (zI 0)]))) 0 (.inr (5, [.int (zI 0), .int (zI 0), .int (zI 0), .int (zI 0), .long (zL 0), .ref (r3 0), .ref (r3 1), .ref (r3 2), .ref (r3 3), .ref (r3 4), .ref (r3 5), .int (zI 0), .int (zI 0), .int (zI 0)]))) 1 (cC5 r3)) (h3) := Ctor.app hc2 hd3
  refine v_run 0 (pc' := 12) (ls' := [some (.ref a)]) (st' := [.ref x1, .ref a]) rfl ?_
  refine v_put rfl hc3.1 rfl rfl (Nat.le_of_ble_eq_true rfl) ?_
  rw [show ([.null, .int (zI 0), .int (zI 0), .null, .int (zI 0), .int (zI 0), .int (zI 0), .int (zI 0), .null, .null, .null] : List Value).set 0 (.ref x1) = [.ref x1, .int (zI 0), .int (zI 0), .null, .int (zI 0), .int (zI 0), .int (zI 0), .int (zI 0), .null, .null, .null] from rfl]
  have hc4 : Ctor h a 3 [.ref x1, .int (zI 0), .int (zI 0), .null, .int (zI 0), .int (zI 0), .int (zI 0), .int (zI 0), .null, .null, .null] 7 (apN (upN (fun _ => 0) 0 x1) 1 r3) (apN (upN (upN (fun _ => .inr (0, [])) 0 (.inr (5, [.int (zI 0), .int (zI 0), .int (zI 0), .int (zI 0), .long (zL 0), .null, .null, .null, .null, .null, .null, .int (zI 0), .int (zI 0), .int (zI 0)]))) 0 (.inr (5, [.int (zI 0), .int (zI 0), .int (zI 0), .int (zI 0), .long (zL 0), .ref (r3 0), .ref (r3 1), .ref (r3 2), .ref (r3 3), .ref (r3 4), .ref (r3 5), .int (zI 0), .int (zI 0), .int (zI 0)]))) 1 (cC5 r3)) (hset h3 a (.inr (3, [.ref x1, .int (zI 0), .int (zI 0), .null, .int (zI 0), .int (zI 0), .int (zI 0), .int (zI 0), .null, .null, .null]))) := hc3.put _
  generalize e4 : hset h3 a (.inr (3, [.ref x1, .int (zI 0), .int (zI 0), .null, .int (zI 0), .int (zI 0), .int (zI 0), .int (zI 0), .null, .null, .null])) = h4 at hc4 ⊢
  clear e4
  refine v_run 1 (pc' := 16) (ls' := [some (.ref a)]) (st' := [.ref a]) rfl ?_
  refine v_new (mc := 13) (ms := 144) (ci := 4) (r := (RX4, TX4, 17)) (fs := [.int (zI 0), .int (zI 0), .int (zI 0), .int (zI 0), .null, .int (zI 0), .null, .int (zI 0), .null, .null, .null, .int (zI 0), .int (zI 0), .int (zI 0), .int (zI 0), .int (zI 0), .null]) rfl rfl df4 ?_
  intro x5 hx5 _
  have hc6 : Ctor h a 3 [.ref x1, .int (zI 0), .int (zI 0), .null, .int (zI 0), .int (zI 0), .int (zI 0), .int (zI 0), .null, .null, .null] 8 (upN (apN (upN (fun _ => 0) 0 x1) 1 r3) 7 x5) (upN (apN (upN (upN (fun _ => .inr (0, [])) 0 (.inr (5, [.int (zI 0), .int (zI 0), .int (zI 0), .int (zI 0), .long (zL 0), .null, .null, .null, .null, .null, .null, .int (zI 0), .int (zI 0), .int (zI 0)]))) 0 (.inr (5, [.int (zI 0), .int (zI 0), .int (zI 0), .int (zI 0), .long (zL 0), .ref (r3 0), .ref (r3 1), .ref (r3 2), .ref (r3 3), .ref (r3 4), .ref (r3 5), .int (zI 0), .int (zI 0), .int (zI 0)]))) 1 (cC5 r3)) 7 (.inr (4, [.int (zI 0), .int (zI 0), .int (zI 0), .int (zI 0), .null, .int (zI 0), .null, .int (zI 0), .null, .null, .null, .int (zI 0), .int (zI 0), .int (zI 0), .int (zI 0), .int (zI 0), .null]))) (hset h4 x5 (.inr (4, [.int (zI 0), .int (zI 0), .int (zI 0), .int (zI 0), .null, .int (zI 0), .null, .int (zI 0), .null, .null, .null, .int (zI 0), .int (zI 0), .int (zI 0), .int (zI 0), .int (zI 0), .null]))) := hc4.push hx5 _
  generalize e6 : hset h4 x5 (.inr (4, [.int (zI 0), .int (zI 0), .int (zI 0), .int (zI 0), .null, .int (zI 0), .null, .int (zI 0), .null, .null, .null, .int (zI 0), .int (zI 0), .int (zI 0), .int (zI 0), .int (zI 0), .null])) = h6 at hc6 ⊢
  clear e6
  refine v_run 1 (pc' := 20) (ls' := [some (.ref a)]) (st' := [.ref x5, .ref x5, .ref a]) rfl ?_
  refine v_callI (My := mX4_init) (b := x5) (As := []) (rest := [.ref x5, .ref a]) (mc := 3) (ms := 51) rfl caX4_init rfl rfl rfl rfl (k_i4 G _ (a := x5) (hc6.2.1 7 (by decide)).2.2) rfl rfl (Nat.le_of_ble_eq_true rfl) (by omega) ?_
  rintro _ h7 ⟨rfl, r7, hd7⟩
  refine v_run 0 (pc' := 23) (ls' := [some (.ref a)]) (st' := [.ref x5, .ref a]) rfl ?_
  have hc7 : Ctor h a 3 [.ref x1, .int (zI 0), .int (zI 0), .null, .int (zI 0), .int (zI 0), .int (zI 0), .int (zI 0), .null, .null, .null] 18 (apN (upN (apN (upN (fun _ => 0) 0 x1) 1 r3) 7 x5) 8 r7) (apN (upN (upN (apN (upN (upN (fun _ => .inr (0, [])) 0 (.inr (5, [.int (zI 0), .int (zI 0), .int (zI 0), .int (zI 0), .long (zL 0), .null, .null, .null, .null, .null, .null, .int (zI 0), .int (zI 0), .int (zI 0)]))) 0 (.inr (5, [.int (zI 0), .int (zI 0), .int (zI 0), .int (zI 0), .long (zL 0), .ref (r3 0), .ref (r3 1), .ref (r3 2), .ref (r3 3), .ref (r3 4), .ref (r3 5), .int (zI 0), .int (zI 0), .int (zI 0)]))) 1 (cC5 r3)) 7 (.inr (4, [.int (zI 0), .int (zI 0), .int (zI 0), .int (zI 0), .null, .int (zI 0), .null, .int (zI 0), .null, .null, .null, .int (zI 0), .int (zI 0), .int (zI 0), .int (zI 0), .int (zI 0), .null]))) 7 (.inr (4, [.int (zI 0), .int (zI 0), .int (zI 0), .int (zI 0), .ref (r7 0), .int (zI 0), .ref (r7 1), .int (zI 0), .ref (r7 2), .ref (r7 3), .ref (r7 4), .int (zI 0), .int (zI 0), .int (zI (-1)), .int (zI 0), .int (zI 0), .ref (r7 5)]))) 8 (cC4 r7)) (h7) := Ctor.app hc6 hd7
  refine v_run 0 (pc' := 23) (ls' := [some (.ref a)]) (st' := [.ref x5, .ref a]) rfl ?_
  refine v_put rfl hc7.1 rfl rfl (Nat.le_of_ble_eq_true rfl) ?_
  rw [show ([.ref x1, .int (zI 0), .int (zI 0), .null, .int (zI 0), .int (zI 0), .int (zI 0), .int (zI 0), .null, .null, .null] : List Value).set 3 (.ref x5) = [.ref x1, .int (zI 0), .int (zI 0), .ref x5, .int (zI 0), .int (zI 0), .int (zI 0), .int (zI 0), .null, .null, .null] from rfl]
  have hc8 : Ctor h a 3 [.ref x1, .int (zI 0), .int (zI 0), .ref x5, .int (zI 0), .int (zI 0), .int (zI 0), .int (zI 0), .null, .null, .null] 18 (apN (upN (apN (upN (fun _ => 0) 0 x1) 1 r3) 7 x5) 8 r7) (apN (upN (upN (apN (upN (upN (fun _ => .inr (0, [])) 0 (.inr (5, [.int (zI 0), .int (zI 0), .int (zI 0), .int (zI 0), .long (zL 0), .null, .null, .null, .null, .null, .null, .int (zI 0), .int (zI 0), .int (zI 0)]))) 0 (.inr (5, [.int (zI 0), .int (zI 0), .int (zI 0), .int (zI 0), .long (zL 0), .ref (r3 0), .ref (r3 1), .ref (r3 2), .ref (r3 3), .ref (r3 4), .ref (r3 5), .int (zI 0), .int (zI 0), .int (zI 0)]))) 1 (cC5 r3)) 7 (.inr (4, [.int (zI 0), .int (zI 0), .int (zI 0), .int (zI 0), .null, .int (zI 0), .null, .int (zI 0), .null, .null, .null, .int (zI 0), .int (zI 0), .int (zI 0), .int (zI 0), .int (zI 0), .null]))) 7 (.inr (4, [.int (zI 0), .int (zI 0), .int (zI 0), .int (zI 0), .ref (r7 0), .int (zI 0), .ref (r7 1), .int (zI 0), .ref (r7 2), .ref (r7 3), .ref (r7 4), .int (zI 0), .int (zI 0), .int (zI (-1)), .int (zI 0), .int (zI 0), .ref (r7 5)]))) 8 (cC4 r7)) (hset h7 a (.inr (3, [.ref x1, .int (zI 0), .int (zI 0), .ref x5, .int (zI 0), .int (zI 0), .int (zI 0), .int (zI 0), .null, .null, .null]))) := hc7.put _
  generalize e8 : hset h7 a (.inr (3, [.ref x1, .int (zI 0), .int (zI 0), .ref x5, .int (zI 0), .int (zI 0), .int (zI 0), .int (zI 0), .null, .null, .null])) = h8 at hc8 ⊢
  clear e8
  refine v_run 2 (pc' := 29) (ls' := [some (.ref a)]) (st' := [.int (zI 17), .ref a]) rfl ?_
  refine v_newarr (mc := 2) (ms := 34) (a0 := (17, .inr (.inl (fun j => zL ↑((fun _ => 0 : Nat → Nat) j))))) (N' := 17) rfl (fun _ => rfl) (by decide) (by decide) (by decide) ?_
  intro x9 hx9 _
  have hc10 : Ctor h a 3 [.ref x1, .int (zI 0), .int (zI 0), .ref x5, .int (zI 0), .int (zI 0), .int (zI 0), .int (zI 0), .null, .null, .null] 19 (upN (apN (upN (apN (upN (fun _ => 0) 0 x1) 1 r3) 7 x5) 8 r7) 18 x9) (upN (apN (upN (upN (apN (upN (upN (fun _ => .inr (0, [])) 0 (.inr (5, [.int (zI 0), .int (zI 0), .int (zI 0), .int (zI 0), .long (zL 0), .null, .null, .null, .null, .null, .null, .int (zI 0), .int (zI 0), .int (zI 0)]))) 0 (.inr (5, [.int (zI 0), .int (zI 0), .int (zI 0), .int (zI 0), .long (zL 0), .ref (r3 0), .ref (r3 1), .ref (r3 2), .ref (r3 3), .ref (r3 4), .ref (r3 5), .int (zI 0), .int (zI 0), .int (zI 0)]))) 1 (cC5 r3)) 7 (.inr (4, [.int (zI 0), .int (zI 0), .int (zI 0), .int (zI 0), .null, .int (zI 0), .null, .int (zI 0), .null, .null, .null, .int (zI 0), .int (zI 0), .int (zI 0), .int (zI 0), .int (zI 0), .null]))) 7 (.inr (4, [.int (zI 0), .int (zI 0), .int (zI 0), .int (zI 0), .ref (r7 0), .int (zI 0), .ref (r7 1), .int (zI 0), .ref (r7 2), .ref (r7 3), .ref (r7 4), .int (zI 0), .int (zI 0), .int (zI (-1)), .int (zI 0), .int (zI 0), .ref (r7 5)]))) 8 (cC4 r7)) 18 (arL 17 (fun _ => 0))) (hset h8 x9 (arL 17 (fun _ => 0))) := hc8.push hx9 _
  generalize e10 : hset h8 x9 (arL 17 (fun _ => 0)) = h10 at hc10 ⊢
  clear e10
  refine v_run 0 (pc' := 31) (ls' := [some (.ref a)]) (st' := [.ref x9, .ref a]) rfl ?_
  refine v_put rfl hc10.1 rfl rfl (Nat.le_of_ble_eq_true rfl) ?_
  rw [show ([.ref x1, .int (zI 0), .int (zI 0), .ref x5, .int (zI 0), .int (zI 0), .int (zI 0), .int (zI 0), .null, .null, .null] : List Value).set 8 (.ref x9) = [.ref x1, .int (zI 0), .int (zI 0), .ref x5, .int (zI 0), .int (zI 0), .int (zI 0), .int (zI 0), .ref x9, .null, .null] from rfl]
  have hc11 : Ctor h a 3 [.ref x1, .int (zI 0), .int (zI 0), .ref x5, .int (zI 0), .int (zI 0), .int (zI 0), .int (zI 0), .ref x9, .null, .null] 19 (upN (apN (upN (apN (upN (fun _ => 0) 0 x1) 1 r3) 7 x5) 8 r7) 18 x9) (upN (apN (upN (upN (apN (upN (upN (fun _ => .inr (0, [])) 0 (.inr (5, [.int (zI 0), .int (zI 0), .int (zI 0), .int (zI 0), .long (zL 0), .null, .null, .null, .null, .null, .null, .int (zI 0), .int (zI 0), .int (zI 0)]))) 0 (.inr (5, [.int (zI 0), .int (zI 0), .int (zI 0), .int (zI 0), .long (zL 0), .ref (r3 0), .ref (r3 1), .ref (r3 2), .ref (r3 3), .ref (r3 4), .ref (r3 5), .int (zI 0), .int (zI 0), .int (zI 0)]))) 1 (cC5 r3)) 7 (.inr (4, [.int (zI 0), .int (zI 0), .int (zI 0), .int (zI 0), .null, .int (zI 0), .null, .int (zI 0), .null, .null, .null, .int (zI 0), .int (zI 0), .int (zI 0), .int (zI 0), .int (zI 0), .null]))) 7 (.inr (4, [.int (zI 0), .int (zI 0), .int (zI 0), .int (zI 0), .ref (r7 0), .int (zI 0), .ref (r7 1), .int (zI 0), .ref (r7 2), .ref (r7 3), .ref (r7 4), .int (zI 0), .int (zI 0), .int (zI (-1)), .int (zI 0), .int (zI 0), .ref (r7 5)]))) 8 (cC4 r7)) 18 (arL 17 (fun _ => 0))) (hset h10 a (.inr (3, [.ref x1, .int (zI 0), .int (zI 0), .ref x5, .int (zI 0), .int (zI 0), .int (zI 0), .int (zI 0), .ref x9, .null, .null]))) := hc10.put _
  generalize e11 : hset h10 a (.inr (3, [.ref x1, .int (zI 0), .int (zI 0), .ref x5, .int (zI 0), .int (zI 0), .int (zI 0), .int (zI 0), .ref x9, .null, .null])) = h11 at hc11 ⊢
  clear e11
  refine v_run 2 (pc' := 37) (ls' := [some (.ref a)]) (st' := [.int (zI 17), .ref a]) rfl ?_
  refine v_newarr (mc := 1) (ms := 17) (a0 := (17, .inl (fun j => zI ↑((fun _ => 0 : Nat → Nat) j)))) (N' := 17) rfl (fun _ => rfl) (by decide) (by decide) (by decide) ?_
  intro x12 hx12 _
  have hc13 : Ctor h a 3 [.ref x1, .int (zI 0), .int (zI 0), .ref x5, .int (zI 0), .int (zI 0), .int (zI 0), .int (zI 0), .ref x9, .null, .null] 20 (upN (upN (apN (upN (apN (upN (fun _ => 0) 0 x1) 1 r3) 7 x5) 8 r7) 18 x9) 19 x12) (upN (upN (apN (upN (upN (apN (upN (upN (fun _ => .inr (0, [])) 0 (.inr (5, [.int (zI 0), .int (zI 0), .int (zI 0), .int (zI 0), .long (zL 0), .null, .null, .null, .null, .null, .null, .int (zI 0), .int (zI 0), .int (zI 0)]))) 0 (.inr (5, [.int (zI 0), .int (zI 0), .int (zI 0), .int (zI 0), .long (zL 0), .ref (r3 0), .ref (r3 1), .ref (r3 2), .ref (r3 3), .ref (r3 4), .ref (r3 5), .int (zI 0), .int (zI 0), .int (zI 0)]))) 1 (cC5 r3)) 7 (.inr (4, [.int (zI 0), .int (zI 0), .int (zI 0), .int (zI 0), .null, .int (zI 0), .null, .int (zI 0), .null, .null, .null, .int (zI 0), .int (zI 0), .int (zI 0), .int (zI 0), .int (zI 0), .null]))) 7 (.inr (4, [.int (zI 0), .int (zI 0), .int (zI 0), .int (zI 0), .ref (r7 0), .int (zI 0), .ref (r7 1), .int (zI 0), .ref (r7 2), .ref (r7 3), .ref (r7 4), .int (zI 0), .int (zI 0), .int (zI (-1)), .int (zI 0), .int (zI 0), .ref (r7 5)]))) 8 (cC4 r7)) 18 (arL 17 (fun _ => 0))) 19 (ar 17 (fun _ => 0))) (hset h11 x12 (ar 17 (fun _ => 0))) := hc11.push hx12 _
  generalize e13 : hset h11 x12 (ar 17 (fun _ => 0)) = h13 at hc13 ⊢
  clear e13
  refine v_run 0 (pc' := 39) (ls' := [some (.ref a)]) (st' := [.ref x12, .ref a]) rfl ?_
  refine v_put rfl hc13.1 rfl rfl (Nat.le_of_ble_eq_true rfl) ?_
  rw [show ([.ref x1, .int (zI 0), .int (zI 0), .ref x5, .int (zI 0), .int (zI 0), .int (zI 0), .int (zI 0), .ref x9, .null, .null] : List Value).set 9 (.ref x12) = [.ref x1, .int (zI 0), .int (zI 0), .ref x5, .int (zI 0), .int (zI 0), .int (zI 0), .int (zI 0), .ref x9, .ref x12, .null] from rfl]
  have hc14 : Ctor h a 3 [.ref x1, .int (zI 0), .int (zI 0), .ref x5, .int (zI 0), .int (zI 0), .int (zI 0), .int (zI 0), .ref x9, .ref x12, .null] 20 (upN (upN (apN (upN (apN (upN (fun _ => 0) 0 x1) 1 r3) 7 x5) 8 r7) 18 x9) 19 x12) (upN (upN (apN (upN (upN (apN (upN (upN (fun _ => .inr (0, [])) 0 (.inr (5, [.int (zI 0), .int (zI 0), .int (zI 0), .int (zI 0), .long (zL 0), .null, .null, .null, .null, .null, .null, .int (zI 0), .int (zI 0), .int (zI 0)]))) 0 (.inr (5, [.int (zI 0), .int (zI 0), .int (zI 0), .int (zI 0), .long (zL 0), .ref (r3 0), .ref (r3 1), .ref (r3 2), .ref (r3 3), .ref (r3 4), .ref (r3 5), .int (zI 0), .int (zI 0), .int (zI 0)]))) 1 (cC5 r3)) 7 (.inr (4, [.int (zI 0), .int (zI 0), .int (zI 0), .int (zI 0), .null, .int (zI 0), .null, .int (zI 0), .null, .null, .null, .int (zI 0), .int (zI 0), .int (zI 0), .int (zI 0), .int (zI 0), .null]))) 7 (.inr (4, [.int (zI 0), .int (zI 0), .int (zI 0), .int (zI 0), .ref (r7 0), .int (zI 0), .ref (r7 1), .int (zI 0), .ref (r7 2), .ref (r7 3), .ref (r7 4), .int (zI 0), .int (zI 0), .int (zI (-1)), .int (zI 0), .int (zI 0), .ref (r7 5)]))) 8 (cC4 r7)) 18 (arL 17 (fun _ => 0))) 19 (ar 17 (fun _ => 0))) (hset h13 a (.inr (3, [.ref x1, .int (zI 0), .int (zI 0), .ref x5, .int (zI 0), .int (zI 0), .int (zI 0), .int (zI 0), .ref x9, .ref x12, .null]))) := hc13.put _
  generalize e14 : hset h13 a (.inr (3, [.ref x1, .int (zI 0), .int (zI 0), .ref x5, .int (zI 0), .int (zI 0), .int (zI 0), .int (zI 0), .ref x9, .ref x12, .null])) = h14 at hc14 ⊢
  clear e14
  refine v_run 2 (pc' := 45) (ls' := [some (.ref a)]) (st' := [.int (zI 17), .ref a]) rfl ?_
  refine v_newarr (mc := 0) (ms := 0) (a0 := (17, .inl (fun j => zI ↑((fun _ => 0 : Nat → Nat) j)))) (N' := 17) rfl (fun _ => rfl) (by decide) (by decide) (by decide) ?_
  intro x15 hx15 _
  have hc16 : Ctor h a 3 [.ref x1, .int (zI 0), .int (zI 0), .ref x5, .int (zI 0), .int (zI 0), .int (zI 0), .int (zI 0), .ref x9, .ref x12, .null] 21 (upN (upN (upN (apN (upN (apN (upN (fun _ => 0) 0 x1) 1 r3) 7 x5) 8 r7) 18 x9) 19 x12) 20 x15) (upN (upN (upN (apN (upN (upN (apN (upN (upN (fun _ => .inr (0, [])) 0 (.inr (5, [.int (zI 0), .int (zI 0), .int (zI 0), .int (zI 0), .long (zL 0), .null, .null, .null, .null, .null, .null, .int (zI 0), .int (zI 0), .int (zI 0)]))) 0 (.inr (5, [.int (zI 0), .int (zI 0), .int (zI 0), .int (zI 0), .long (zL 0), .ref (r3 0), .ref (r3 1), .ref (r3 2), .ref (r3 3), .ref (r3 4), .ref (r3 5), .int (zI 0), .int (zI 0), .int (zI 0)]))) 1 (cC5 r3)) 7 (.inr (4, [.int (zI 0), .int (zI 0), .int (zI 0), .int (zI 0), .null, .int (zI 0), .null, .int (zI 0), .null, .null, .null, .int (zI 0), .int (zI 0), .int (zI 0), .int (zI 0), .int (zI 0), .null]))) 7 (.inr (4, [.int (zI 0), .int (zI 0), .int (zI 0), .int (zI 0), .ref (r7 0), .int (zI 0), .ref (r7 1), .int (zI 0), .ref (r7 2), .ref (r7 3), .ref (r7 4), .int (zI 0), .int (zI 0), .int (zI (-1)), .int (zI 0), .int (zI 0), .ref (r7 5)]))) 8 (cC4 r7)) 18 (arL 17 (fun _ => 0))) 19 (ar 17 (fun _ => 0))) 20 (ar 17 (fun _ => 0))) (hset h14 x15 (ar 17 (fun _ => 0))) := hc14.push hx15 _
  generalize e16 : hset h14 x15 (ar 17 (fun _ => 0)) = h16 at hc16 ⊢
  clear e16
  refine v_run 0 (pc' := 47) (ls' := [some (.ref a)]) (st' := [.ref x15, .ref a]) rfl ?_
  refine v_put rfl hc16.1 rfl rfl (Nat.le_of_ble_eq_true rfl) ?_
  rw [show ([.ref x1, .int (zI 0), .int (zI 0), .ref x5, .int (zI 0), .int (zI 0), .int (zI 0), .int (zI 0), .ref x9, .ref x12, .null] : List Value).set 10 (.ref x15) = [.ref x1, .int (zI 0), .int (zI 0), .ref x5, .int (zI 0), .int (zI 0), .int (zI 0), .int (zI 0), .ref x9, .ref x12, .ref x15] from rfl]
  have hc17 : Ctor h a 3 [.ref x1, .int (zI 0), .int (zI 0), .ref x5, .int (zI 0), .int (zI 0), .int (zI 0), .int (zI 0), .ref x9, .ref x12, .ref x15] 21 (upN (upN (upN (apN (upN (apN (upN (fun _ => 0) 0 x1) 1 r3) 7 x5) 8 r7) 18 x9) 19 x12) 20 x15) (upN (upN (upN (apN (upN (upN (apN (upN (upN (fun _ => .inr (0, [])) 0 (.inr (5, [.int (zI 0), .int (zI 0), .int (zI 0), .int (zI 0), .long (zL 0), .null, .null, .null, .null, .null, .null, .int (zI 0), .int (zI 0), .int (zI 0)]))) 0 (.inr (5, [.int (zI 0), .int (zI 0), .int (zI 0), .int (zI 0), .long (zL 0), .ref (r3 0), .ref (r3 1), .ref (r3 2), .ref (r3 3), .ref (r3 4), .ref (r3 5), .int (zI 0), .int (zI 0), .int (zI 0)]))) 1 (cC5 r3)) 7 (.inr (4, [.int (zI 0), .int (zI 0), .int (zI 0), .int (zI 0), .null, .int (zI 0), .null, .int (zI 0), .null, .null, .null, .int (zI 0), .int (zI 0), .int (zI 0), .int (zI 0), .int (zI 0), .null]))) 7 (.inr (4, [.int (zI 0), .int (zI 0), .int (zI 0), .int (zI 0), .ref (r7 0), .int (zI 0), .ref (r7 1), .int (zI 0), .ref (r7 2), .ref (r7 3), .ref (r7 4), .int (zI 0), .int (zI 0), .int (zI (-1)), .int (zI 0), .int (zI 0), .ref (r7 5)]))) 8 (cC4 r7)) 18 (arL 17 (fun _ => 0))) 19 (ar 17 (fun _ => 0))) 20 (ar 17 (fun _ => 0))) (hset h16 a (.inr (3, [.ref x1, .int (zI 0), .int (zI 0), .ref x5, .int (zI 0), .int (zI 0), .int (zI 0), .int (zI 0), .ref x9, .ref x12, .ref x15]))) := hc16.put _
  generalize e17 : hset h16 a (.inr (3, [.ref x1, .int (zI 0), .int (zI 0), .ref x5, .int (zI 0), .int (zI 0), .int (zI 0), .int (zI 0), .ref x9, .ref x12, .ref x15])) = h17 at hc17 ⊢
  clear e17
  refine v_run 0 (pc' := 50) (ls' := [some (.ref a)]) (st' := []) rfl ?_
  exact v_vret rfl rfl ⟨rfl, (upN (upN (upN (apN (upN (apN (upN (fun _ => 0) 0 x1) 1 r3) 7 x5) 8 r7) 18 x9) 19 x12) 20 x15), Ctor.cg (C' := cC3 (upN (upN (upN (apN (upN (apN (upN (fun _ => 0) 0 x1) 1 r3) 7 x5) 8 r7) 18 x9) 19 x12) 20 x15)) hc17 (fun k hk => by rcases (show k = 0 ∨ k = 1 ∨ k = 2 ∨ k = 3 ∨ k = 4 ∨ k = 5 ∨ k = 6 ∨ k = 7 ∨ k = 8 ∨ k = 9 ∨ k = 10 ∨ k = 11 ∨ k = 12 ∨ k = 13 ∨ k = 14 ∨ k = 15 ∨ k = 16 ∨ k = 17 ∨ k = 18 ∨ k = 19 ∨ k = 20 from by omega) with rfl | rfl | rfl | rfl | rfl | rfl | rfl | rfl | rfl | rfl | rfl | rfl | rfl | rfl | rfl | rfl | rfl | rfl | rfl | rfl | rfl <;> rfl)⟩

