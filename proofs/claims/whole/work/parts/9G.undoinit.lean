theorem rfs_0 (N : Nat) (f : Nat → Nat) : (.inl (3, N, .inr (.inr (.inr (.inr (fun _ => none))))) : ssE) = rfs N 0 f := by
  have : (fun _ => none : Nat → Option Nat) = (fun i => if i < 0 then some (f i) else none) := by
    funext i
    rw [if_neg (by omega)]
  unfold rfs
  rw [this]
def uC (q : Nat → Nat) : Nat → ssE := fun k => if k = 0 then rfs 16 16 (fun i => q (1 + 5 * i)) else moC (fun t => q (k - (k - 1) % 5 + t)) ((k - 1) % 5)
theorem LpI.fin7 {h h1 : ssH} {a : Nat} {q0 q : Nat → Nat} {C0 C : Nat → ssE} (hI : LpI h a 7 [.int (zI 0), .int (zI 0), .ref (q0 0)] 1 0 16 q0 C0 16 q C h1) : Ctor h a 7 [.int (zI 0), .int (zI 0), .ref (q 0)] 81 q (uC q) h1 := by
  obtain ⟨hc, hq, -, hr, hm⟩ := hI
  rw [← hq 0 (by omega)] at hc
  refine Ctor.cg hc (fun k hk => ?_)
  by_cases e0 : k = 0
  · subst e0
    exact hr
  · have e := hm ((k - 1) / 5) ((k - 1) % 5) (by omega) (by omega)
    rw [show 1 + 5 * ((k - 1) / 5) + (k - 1) % 5 = k by omega] at e
    rw [e, show uC q k = moC (fun t => q (k - (k - 1) % 5 + t)) ((k - 1) % 5) from if_neg e0, show k - (k - 1) % 5 = 1 + 5 * ((k - 1) / 5) by omega]
theorem df7 : ∀ j, j < 3 → defaultValue (tyOf 7 j) = vp_V [.int (zI 0), .int (zI 0), .null] j := fun j hj => by
  rcases (show j = 0 ∨ j = 1 ∨ j = 2 from by omega) with rfl | rfl | rfl <;> rfl
set_option maxRecDepth 100000 in
set_option maxRecDepth 100000 in
set_option maxHeartbeats 400000 in
theorem k_i7 (G : ssG) (h : ssH) {a : Nat} (ha : h a = some (.inr (7, [.int (zI 0), .int (zI 0), .null]))) : ssC G mX7_init 2 81 1072 [.ref a] h (fun r h' => r = none ∧ ∃ q, Ctor h a 7 [.int (zI 0), .int (zI 0), .ref (q 0)] 81 q (uC q) h') := by
  refine c_of_v okX7_init (by decide +kernel) (ls := [some (.ref a), none]) rfl (Nat.le_of_ble_eq_true rfl) ?_
  have hc0 : Ctor h a 7 [.int (zI 0), .int (zI 0), .null] 0 (fun _ => 0) (fun _ => .inr (0, [])) (h) := Ctor.nil h ha _ _
  refine v_run 1 (pc' := 1) (ls' := [some (.ref a), none]) (st' := [.ref a]) rfl ?_
  refine v_objInit rfl rfl (by omega) (Nat.le_of_ble_eq_true rfl) ?_
  refine v_run 2 (pc' := 7) (ls' := [some (.ref a), none]) (st' := [.int (zI 16), .ref a]) rfl ?_
  refine v_anew (mc := 80) (ms := 1056) (N' := 16) rfl (by decide) (by decide) (by decide) ?_
  intro x hx _
  rw [rfs_0 16 (fun _ => 0)]
  have hc1 : Ctor h a 7 [.int (zI 0), .int (zI 0), .null] 1 (upN (fun _ => 0) 0 x) (upN (fun _ => .inr (0, [])) 0 (rfs 16 0 (fun _ => 0))) (hset h x (rfs 16 0 (fun _ => 0))) := hc0.push hx _
  generalize e1 : hset h x (rfs 16 0 (fun _ => 0)) = h1 at hc1 ⊢
  clear e1
  refine v_run 0 (pc' := 10) (ls' := [some (.ref a), none]) (st' := [.ref x, .ref a]) rfl ?_
  refine v_put rfl hc1.1 rfl rfl (Nat.le_of_ble_eq_true rfl) ?_
  rw [show ([.int (zI 0), .int (zI 0), .null] : List Value).set 2 (.ref x) = [.int (zI 0), .int (zI 0), .ref x] from rfl]
  have hc2 : Ctor h a 7 [.int (zI 0), .int (zI 0), .ref x] 1 (upN (fun _ => 0) 0 x) (upN (fun _ => .inr (0, [])) 0 (rfs 16 0 (fun _ => 0))) (hset h1 a (.inr (7, [.int (zI 0), .int (zI 0), .ref x]))) := hc1.put _
  generalize e2 : hset h1 a (.inr (7, [.int (zI 0), .int (zI 0), .ref x])) = h2 at hc2 ⊢
  clear e2
  refine v_run 2 (pc' := 15) (ls' := [some (.ref a), some (.int (zI 0))]) (st' := []) rfl ?_
  have hI0 : LpI h a 7 [.int (zI 0), .int (zI 0), .ref x] 1 0 16 (upN (fun _ => 0) 0 x) (upN (fun _ => .inr (0, [])) 0 (rfs 16 0 (fun _ => 0))) 0 (upN (fun _ => 0) 0 x) (upN (fun _ => .inr (0, [])) 0 (rfs 16 0 (fun _ => 0))) h2 := ⟨hc2, fun _ _ => rfl, fun _ _ _ => rfl, (rfs_0 16 _).symm.trans (rfs_0 16 _), fun i j hi => absurd hi (by omega)⟩
  have lp : ∀ (f : Nat) (m : Nat) (q : Nat → Nat) (C : Nat → ssE) (h1 : ssH), (m ≤ 16 ∧ LpI h a 7 [.int (zI 0), .int (zI 0), .ref x] 1 0 16 (upN (fun _ => 0) 0 x) (upN (fun _ => .inr (0, [])) 0 (rfs 16 0 (fun _ => 0))) m q C h1) → 16 + 1 ≤ m + f → ssV G mX7_init 2 (5 * (16 - m)) (66 * (16 - m)) (fun r h' => r = none ∧ ∃ q, Ctor h a 7 [.int (zI 0), .int (zI 0), .ref (q 0)] 81 q (uC q) h') 15 [some (.ref a), some (.int (zI ↑m))] [] (h1) := by
    intro f
    induction f with
    | zero => intro m q C h1 hs1 hs2; obtain ⟨q1, hI⟩ := hs1; exact absurd hs2 (by omega)
    | succ f ihlp =>
      intro m q C h1 hs1 hs2
      obtain ⟨q1, hI⟩ := hs1
      refine v_run 2 (pc' := 18) (ls' := [some (.ref a), some (.int (zI ↑m))]) (st' := [.int (zI 16), .int (zI ↑m)]) rfl ?_
      refine v_icmp_ge rfl (fun c18 => ?_) (fun c18 => ?_)
      · simp (disch := omega) only [zI_lt, zI_le, zI_eq, zI_lt0, zI_le0, zI_0lt, zI_0le, zI_eq0] at c18
        have em : m = 16 := by omega
        rw [em] at hI
        exact v_vret rfl rfl ⟨rfl, q, LpI.fin7 (q0 := upN (fun _ => 0) 0 x) hI⟩
      · simp (disch := omega) only [zI_lt, zI_le, zI_eq, zI_lt0, zI_le0, zI_0lt, zI_0le, zI_eq0] at c18
        refine v_run 1 (pc' := 22) (ls' := [some (.ref a), some (.int (zI ↑m))]) (st' := [.ref a]) rfl ?_
        refine v_get rfl hI.1.1 rfl ?_
        refine v_run 1 (pc' := 26) (ls' := [some (.ref a), some (.int (zI ↑m))]) (st' := [.int (zI ↑m), .ref x]) rfl ?_
        rw [show 5 * (16 - m) = (4 + 5 * (16 - (m + 1))) + 1 by omega, show 66 * (16 - m) = (59 + 66 * (16 - (m + 1))) + 7 by omega]
        refine v_new (mc := 4 + 5 * (16 - (m + 1))) (ms := 59 + 66 * (16 - (m + 1))) (ci := 2) (r := (RX2, TX2, 7)) (fs := [.int (zI 0), .int (zI 0), .int (zI 0), .null, .null, .null, .null]) rfl rfl df2 ?_
        intro x2 hx2 _
        refine v_run 1 (pc' := 30) (ls' := [some (.ref a), some (.int (zI ↑m))]) (st' := [.ref x2, .ref x2, .int (zI ↑m), .ref x]) rfl ?_
        refine v_callI (My := mX2_init) (b := x2) (As := []) (rest := [.ref x2, .int (zI ↑m), .ref x]) (mc := (5 * (16 - (m + 1)))) (ms := (66 * (16 - (m + 1)))) rfl caX2_init rfl rfl rfl rfl (k_i2 G _ (a := x2) (hset_self _ _ _)) rfl rfl (Nat.le_of_ble_eq_true rfl) (by omega) ?_
        rintro _ h3 ⟨rfl, r, hd⟩
        refine v_run 0 (pc' := 33) (ls' := [some (.ref a), some (.int (zI ↑m))]) (st' := [.ref x2, .int (zI ↑m), .ref x]) rfl ?_
        have hs := hI.step (by decide) hx2 hd
        have hs1 : h3 x = some (.inl (3, 16, .inr (.inr (.inr (.inr (fun i => if i < m then some (q (1 + 5 * i)) else none)))))) := hs.1
        have hs2 := hs.2
        refine v_aastore rfl hs1 hd.1 (zI_in (show m < 16 by omega) (by decide)) ?_
        rw [zI_clamp (by omega)]
        refine v_run 2 (pc' := 15) (ls' := [some (.ref a), some (.int ((zI ↑m) + zI 1))]) (st' := []) rfl ?_
        rw [zI_s1]
        exact ihlp (m + 1) _ _ _ ⟨by omega, hs2⟩ (by omega)
  exact lp 17 0 _ _ _ ⟨by omega, hI0⟩ (by omega)

theorem df10 : ∀ j, j < 29 → defaultValue (tyOf 10 j) = vp_V [.int (zI 0), .int (zI 0), .int (zI 0), .null, .null, .null, .int (zI 0), .int (zI 0), .int (zI 0), .int (zI 0), .int (zI 0), .int (zI 0), .int (zI 0), .int (zI 0), .long (zL 0), .null, .null, .null, .null, .int (zI 0), .int (zI 0), .null, .int (zI 0), .null, .int (zI 0), .null, .long (zL 0), .long (zL 0), .long (zL 0)] j := fun j hj => by
  rcases (show j = 0 ∨ j = 1 ∨ j = 2 ∨ j = 3 ∨ j = 4 ∨ j = 5 ∨ j = 6 ∨ j = 7 ∨ j = 8 ∨ j = 9 ∨ j = 10 ∨ j = 11 ∨ j = 12 ∨ j = 13 ∨ j = 14 ∨ j = 15 ∨ j = 16 ∨ j = 17 ∨ j = 18 ∨ j = 19 ∨ j = 20 ∨ j = 21 ∨ j = 22 ∨ j = 23 ∨ j = 24 ∨ j = 25 ∨ j = 26 ∨ j = 27 ∨ j = 28 from by omega) with rfl | rfl | rfl | rfl | rfl | rfl | rfl | rfl | rfl | rfl | rfl | rfl | rfl | rfl | rfl | rfl | rfl | rfl | rfl | rfl | rfl | rfl | rfl | rfl | rfl | rfl | rfl | rfl | rfl <;> rfl
def cC10 (q : Nat → Nat) : Nat → ssE := fun k => ([arB 900 (fun _ => 0), ar 26 (fun _ => 0), ar 26 (fun _ => 0), ar 416 (fun _ => 0), ar 78 (fun _ => 0), ar 6 (fun _ => 0), ar 5 (fun _ => 0), arL 6 (fun _ => 0)] : List ssE).getD k (.inr (0, []))
set_option maxRecDepth 100000 in
set_option maxHeartbeats 400000 in
theorem k_i10 (G : ssG) (h : ssH) {a : Nat} (ha : h a = some (.inr (10, [.int (zI 0), .int (zI 0), .int (zI 0), .null, .null, .null, .int (zI 0), .int (zI 0), .int (zI 0), .int (zI 0), .int (zI 0), .int (zI 0), .int (zI 0), .int (zI 0), .long (zL 0), .null, .null, .null, .null, .int (zI 0), .int (zI 0), .null, .int (zI 0), .null, .int (zI 0), .null, .long (zL 0), .long (zL 0), .long (zL 0)]))) : ssC G mX10_init 1 8 1463 [.ref a] h (fun r h' => r = none ∧ ∃ q, Ctor h a 10 [.int (zI 0), .int (zI 0), .int (zI (-1)), .null, .null, .ref (q 0), .int (zI 0), .int (zI 0), .int (zI 0), .int (zI 0), .int (zI 0), .int (zI 0), .int (zI 0), .int (zI 0), .long (zL 0), .ref (q 1), .ref (q 2), .ref (q 3), .ref (q 4), .int (zI 0), .int (zI 0), .ref (q 5), .int (zI 0), .ref (q 6), .int (zI 0), .ref (q 7), .long (zL 0), .long (zL 0), .long (zL 0)] 8 q (cC10 q) h') := by
  refine c_of_v okX10_init (by decide +kernel) (ls := [some (.ref a)]) rfl (Nat.le_of_ble_eq_true rfl) ?_
  have hc0 : Ctor h a 10 [.int (zI 0), .int (zI 0), .int (zI 0), .null, .null, .null, .int (zI 0), .int (zI 0), .int (zI 0), .int (zI 0), .int (zI 0), .int (zI 0), .int (zI 0), .int (zI 0), .long (zL 0), .null, .null, .null, .null, .int (zI 0), .int (zI 0), .null, .int (zI 0), .null, .int (zI 0), .null, .long (zL 0), .long (zL 0), .long (zL 0)] 0 (fun _ => 0) (fun _ => .inr (0, [])) (h) := Ctor.nil h ha _ _
  refine v_run 1 (pc' := 1) (ls' := [some (.ref a)]) (st' := [.ref a]) rfl ?_
  refine v_objInit rfl rfl (by omega) (Nat.le_of_ble_eq_true rfl) ?_
  refine v_run 2 (pc' := 6) (ls' := [some (.ref a)]) (st' := [.int (zI (-1)), .ref a]) rfl ?_
  refine v_put rfl hc0.1 rfl rfl (Nat.le_of_ble_eq_true rfl) ?_
  rw [show ([.int (zI 0), .int (zI 0), .int (zI 0), .null, .null, .null, .int (zI 0), .int (zI 0), .int (zI 0), .int (zI 0), .int (zI 0), .int (zI 0), .int (zI 0), .int (zI 0), .long (zL 0), .null, .null, .null, .null, .int (zI 0), .int (zI 0), .null, .int (zI 0), .null, .int (zI 0), .null, .long (zL 0), .long (zL 0), .long (zL 0)] : List Value).set 2 (.int (zI (-1))) = [.int (zI 0), .int (zI 0), .int (zI (-1)), .null, .null, .null, .int (zI 0), .int (zI 0), .int (zI 0), .int (zI 0), .int (zI 0), .int (zI 0), .int (zI 0), .int (zI 0), .long (zL 0), .null, .null, .null, .null, .int (zI 0), .int (zI 0), .null, .int (zI 0), .null, .int (zI 0), .null, .long (zL 0), .long (zL 0), .long (zL 0)] from rfl]
  have hc1 : Ctor h a 10 [.int (zI 0), .int (zI 0), .int (zI (-1)), .null, .null, .null, .int (zI 0), .int (zI 0), .int (zI 0), .int (zI 0), .int (zI 0), .int (zI 0), .int (zI 0), .int (zI 0), .long (zL 0), .null, .null, .null, .null, .int (zI 0), .int (zI 0), .null, .int (zI 0), .null, .int (zI 0), .null, .long (zL 0), .long (zL 0), .long (zL 0)] 0 (fun _ => 0) (fun _ => .inr (0, [])) (hset h a (.inr (10, [.int (zI 0), .int (zI 0), .int (zI (-1)), .null, .null, .null, .int (zI 0), .int (zI 0), .int (zI 0), .int (zI 0), .int (zI 0), .int (zI 0), .int (zI 0), .int (zI 0), .long (zL 0), .null, .null, .null, .null, .int (zI 0), .int (zI 0), .null, .int (zI 0), .null, .int (zI 0), .null, .long (zL 0), .long (zL 0), .long (zL 0)]))) := hc0.put _
  generalize e1 : hset h a (.inr (10, [.int (zI 0), .int (zI 0), .int (zI (-1)), .null, .null, .null, .int (zI 0), .int (zI 0), .int (zI 0), .int (zI 0), .int (zI 0), .int (zI 0), .int (zI 0), .int (zI 0), .long (zL 0), .null, .null, .null, .null, .int (zI 0), .int (zI 0), .null, .int (zI 0), .null, .int (zI 0), .null, .long (zL 0), .long (zL 0), .long (zL 0)])) = h1 at hc1 ⊢
  clear e1
  refine v_run 2 (pc' := 13) (ls' := [some (.ref a)]) (st' := [.int (zI 900), .ref a]) rfl ?_
  refine v_newarr (mc := 7) (ms := 563) (a0 := (900, .inl (fun j => zI ((fun _ => 0 : Nat → Int) j)))) (N' := 900) rfl (fun _ => rfl) (by decide) (by decide) (by decide) ?_
  intro x2 hx2 _
  have hc3 : Ctor h a 10 [.int (zI 0), .int (zI 0), .int (zI (-1)), .null, .null, .null, .int (zI 0), .int (zI 0), .int (zI 0), .int (zI 0), .int (zI 0), .int (zI 0), .int (zI 0), .int (zI 0), .long (zL 0), .null, .null, .null, .null, .int (zI 0), .int (zI 0), .null, .int (zI 0), .null, .int (zI 0), .null, .long (zL 0), .long (zL 0), .long (zL 0)] 1 (upN (fun _ => 0) 0 x2) (upN (fun _ => .inr (0, [])) 0 (arB 900 (fun _ => 0))) (hset h1 x2 (arB 900 (fun _ => 0))) := hc1.push hx2 _
  generalize e3 : hset h1 x2 (arB 900 (fun _ => 0)) = h3 at hc3 ⊢
  clear e3
  refine v_run 0 (pc' := 15) (ls' := [some (.ref a)]) (st' := [.ref x2, .ref a]) rfl ?_
  refine v_put rfl hc3.1 rfl rfl (Nat.le_of_ble_eq_true rfl) ?_
  rw [show ([.int (zI 0), .int (zI 0), .int (zI (-1)), .null, .null, .null, .int (zI 0), .int (zI 0), .int (zI 0), .int (zI 0), .int (zI 0), .int (zI 0), .int (zI 0), .int (zI 0), .long (zL 0), .null, .null, .null, .null, .int (zI 0), .int (zI 0), .null, .int (zI 0), .null, .int (zI 0), .null, .long (zL 0), .long (zL 0), .long (zL 0)] : List Value).set 5 (.ref x2) = [.int (zI 0), .int (zI 0), .int (zI (-1)), .null, .null, .ref x2, .int (zI 0), .int (zI 0), .int (zI 0), .int (zI 0), .int (zI 0), .int (zI 0), .int (zI 0), .int (zI 0), .long (zL 0), .null, .null, .null, .null, .int (zI 0), .int (zI 0), .null, .int (zI 0), .null, .int (zI 0), .null, .long (zL 0), .long (zL 0), .long (zL 0)] from rfl]
  have hc4 : Ctor h a 10 [.int (zI 0), .int (zI 0), .int (zI (-1)), .null, .null, .ref x2, .int (zI 0), .int (zI 0), .int (zI 0), .int (zI 0), .int (zI 0), .int (zI 0), .int (zI 0), .int (zI 0), .long (zL 0), .null, .null, .null, .null, .int (zI 0), .int (zI 0), .null, .int (zI 0), .null, .int (zI 0), .null, .long (zL 0), .long (zL 0), .long (zL 0)] 1 (upN (fun _ => 0) 0 x2) (upN (fun _ => .inr (0, [])) 0 (arB 900 (fun _ => 0))) (hset h3 a (.inr (10, [.int (zI 0), .int (zI 0), .int (zI (-1)), .null, .null, .ref x2, .int (zI 0), .int (zI 0), .int (zI 0), .int (zI 0), .int (zI 0), .int (zI 0), .int (zI 0), .int (zI 0), .long (zL 0), .null, .null, .null, .null, .int (zI 0), .int (zI 0), .null, .int (zI 0), .null, .int (zI 0), .null, .long (zL 0), .long (zL 0), .long (zL 0)]))) := hc3.put _
  generalize e4 : hset h3 a (.inr (10, [.int (zI 0), .int (zI 0), .int (zI (-1)), .null, .null, .ref x2, .int (zI 0), .int (zI 0), .int (zI 0), .int (zI 0), .int (zI 0), .int (zI 0), .int (zI 0), .int (zI 0), .long (zL 0), .null, .null, .null, .null, .int (zI 0), .int (zI 0), .null, .int (zI 0), .null, .int (zI 0), .null, .long (zL 0), .long (zL 0), .long (zL 0)])) = h4 at hc4 ⊢
  clear e4
  refine v_run 2 (pc' := 21) (ls' := [some (.ref a)]) (st' := [.int (zI 26), .ref a]) rfl ?_
  refine v_newarr (mc := 6) (ms := 537) (a0 := (26, .inl (fun j => zI ↑((fun _ => 0 : Nat → Nat) j)))) (N' := 26) rfl (fun _ => rfl) (by decide) (by decide) (by decide) ?_
  intro x5 hx5 _
  have hc6 : Ctor h a 10 [.int (zI 0), .int (zI 0), .int (zI (-1)), .null, .null, .ref x2, .int (zI 0), .int (zI 0), .int (zI 0), .int (zI 0), .int (zI 0), .int (zI 0), .int (zI 0), .int (zI 0), .long (zL 0), .null, .null, .null, .null, .int (zI 0), .int (zI 0), .null, .int (zI 0), .null, .int (zI 0), .null, .long (zL 0), .long (zL 0), .long (zL 0)] 2 (upN (upN (fun _ => 0) 0 x2) 1 x5) (upN (upN (fun _ => .inr (0, [])) 0 (arB 900 (fun _ => 0))) 1 (ar 26 (fun _ => 0))) (hset h4 x5 (ar 26 (fun _ => 0))) := hc4.push hx5 _
  generalize e6 : hset h4 x5 (ar 26 (fun _ => 0)) = h6 at hc6 ⊢
  clear e6
  refine v_run 0 (pc' := 23) (ls' := [some (.ref a)]) (st' := [.ref x5, .ref a]) rfl ?_
  refine v_put rfl hc6.1 rfl rfl (Nat.le_of_ble_eq_true rfl) ?_
  rw [show ([.int (zI 0), .int (zI 0), .int (zI (-1)), .null, .null, .ref x2, .int (zI 0), .int (zI 0), .int (zI 0), .int (zI 0), .int (zI 0), .int (zI 0), .int (zI 0), .int (zI 0), .long (zL 0), .null, .null, .null, .null, .int (zI 0), .int (zI 0), .null, .int (zI 0), .null, .int (zI 0), .null, .long (zL 0), .long (zL 0), .long (zL 0)] : List Value).set 15 (.ref x5) = [.int (zI 0), .int (zI 0), .int (zI (-1)), .null, .null, .ref x2, .int (zI 0), .int (zI 0), .int (zI 0), .int (zI 0), .int (zI 0), .int (zI 0), .int (zI 0), .int (zI 0), .long (zL 0), .ref x5, .null, .null, .null, .int (zI 0), .int (zI 0), .null, .int (zI 0), .null, .int (zI 0), .null, .long (zL 0), .long (zL 0), .long (zL 0)] from rfl]
  have hc7 : Ctor h a 10 [.int (zI 0), .int (zI 0), .int (zI (-1)), .null, .null, .ref x2, .int (zI 0), .int (zI 0), .int (zI 0), .int (zI 0), .int (zI 0), .int (zI 0), .int (zI 0), .int (zI 0), .long (zL 0), .ref x5, .null, .null, .null, .int (zI 0), .int (zI 0), .null, .int (zI 0), .null, .int (zI 0), .null, .long (zL 0), .long (zL 0), .long (zL 0)] 2 (upN (upN (fun _ => 0) 0 x2) 1 x5) (upN (upN (fun _ => .inr (0, [])) 0 (arB 900 (fun _ => 0))) 1 (ar 26 (fun _ => 0))) (hset h6 a (.inr (10, [.int (zI 0), .int (zI 0), .int (zI (-1)), .null, .null, .ref x2, .int (zI 0), .int (zI 0), .int (zI 0), .int (zI 0), .int (zI 0), .int (zI 0), .int (zI 0), .int (zI 0), .long (zL 0), .ref x5, .null, .null, .null, .int (zI 0), .int (zI 0), .null, .int (zI 0), .null, .int (zI 0), .null, .long (zL 0), .long (zL 0), .long (zL 0)]))) := hc6.put _
  generalize e7 : hset h6 a (.inr (10, [.int (zI 0), .int (zI 0), .int (zI (-1)), .null, .null, .ref x2, .int (zI 0), .int (zI 0), .int (zI 0), .int (zI 0), .int (zI 0), .int (zI 0), .int (zI 0), .int (zI 0), .long (zL 0), .ref x5, .null, .null, .null, .int (zI 0), .int (zI 0), .null, .int (zI 0), .null, .int (zI 0), .null, .long (zL 0), .long (zL 0), .long (zL 0)])) = h7 at hc7 ⊢
  clear e7
  refine v_run 2 (pc' := 29) (ls' := [some (.ref a)]) (st' := [.int (zI 26), .ref a]) rfl ?_
  refine v_newarr (mc := 5) (ms := 511) (a0 := (26, .inl (fun j => zI ↑((fun _ => 0 : Nat → Nat) j)))) (N' := 26) rfl (fun _ => rfl) (by decide) (by decide) (by decide) ?_
  intro x8 hx8 _
  have hc9 : Ctor h a 10 [.int (zI 0), .int (zI 0), .int (zI (-1)), .null, .null, .ref x2, .int (zI 0), .int (zI 0), .int (zI 0), .int (zI 0), .int (zI 0), .int (zI 0), .int (zI 0), .int (zI 0), .long (zL 0), .ref x5, .null, .null, .null, .int (zI 0), .int (zI 0), .null, .int (zI 0), .null, .int (zI 0), .null, .long (zL 0), .long (zL 0), .long (zL 0)] 3 (upN (upN (upN (fun _ => 0) 0 x2) 1 x5) 2 x8) (upN (upN (upN (fun _ => .inr (0, [])) 0 (arB 900 (fun _ => 0))) 1 (ar 26 (fun _ => 0))) 2 (ar 26 (fun _ => 0))) (hset h7 x8 (ar 26 (fun _ => 0))) := hc7.push hx8 _
  generalize e9 : hset h7 x8 (ar 26 (fun _ => 0)) = h9 at hc9 ⊢
  clear e9
  refine v_run 0 (pc' := 31) (ls' := [some (.ref a)]) (st' := [.ref x8, .ref a]) rfl ?_
  refine v_put rfl hc9.1 rfl rfl (Nat.le_of_ble_eq_true rfl) ?_
  rw [show ([.int (zI 0), .int (zI 0), .int (zI (-1)), .null, .null, .ref x2, .int (zI 0), .int (zI 0), .int (zI 0), .int (zI 0), .int (zI 0), .int (zI 0), .int (zI 0), .int (zI 0), .long (zL 0), .ref x5, .null, .null, .null, .int (zI 0), .int (zI 0), .null, .int (zI 0), .null, .int (zI 0), .null, .long (zL 0), .long (zL 0), .long (zL 0)] : List Value).set 16 (.ref x8) = [.int (zI 0), .int (zI 0), .int (zI (-1)), .null, .null, .ref x2, .int (zI 0), .int (zI 0), .int (zI 0), .int (zI 0), .int (zI 0), .int (zI 0), .int (zI 0), .int (zI 0), .long (zL 0), .ref x5, .ref x8, .null, .null, .int (zI 0), .int (zI 0), .null, .int (zI 0), .null, .int (zI 0), .null, .long (zL 0), .long (zL 0), .long (zL 0)] from rfl]
  have hc10 : Ctor h a 10 [.int (zI 0), .int (zI 0), .int (zI (-1)), .null, .null, .ref x2, .int (zI 0), .int (zI 0), .int (zI 0), .int (zI 0), .int (zI 0), .int (zI 0), .int (zI 0), .int (zI 0), .long (zL 0), .ref x5, .ref x8, .null, .null, .int (zI 0), .int (zI 0), .null, .int (zI 0), .null, .int (zI 0), .null, .long (zL 0), .long (zL 0), .long (zL 0)] 3 (upN (upN (upN (fun _ => 0) 0 x2) 1 x5) 2 x8) (upN (upN (upN (fun _ => .inr (0, [])) 0 (arB 900 (fun _ => 0))) 1 (ar 26 (fun _ => 0))) 2 (ar 26 (fun _ => 0))) (hset h9 a (.inr (10, [.int (zI 0), .int (zI 0), .int (zI (-1)), .null, .null, .ref x2, .int (zI 0), .int (zI 0), .int (zI 0), .int (zI 0), .int (zI 0), .int (zI 0), .int (zI 0), .int (zI 0), .long (zL 0), .ref x5, .ref x8, .null, .null, .int (zI 0), .int (zI 0), .null, .int (zI 0), .null, .int (zI 0), .null, .long (zL 0), .long (zL 0), .long (zL 0)]))) := hc9.put _
  generalize e10 : hset h9 a (.inr (10, [.int (zI 0), .int (zI 0), .int (zI (-1)), .null, .null, .ref x2, .int (zI 0), .int (zI 0), .int (zI 0), .int (zI 0), .int (zI 0), .int (zI 0), .int (zI 0), .int (zI 0), .long (zL 0), .ref x5, .ref x8, .null, .null, .int (zI 0), .int (zI 0), .null, .int (zI 0), .null, .int (zI 0), .null, .long (zL 0), .long (zL 0), .long (zL 0)])) = h10 at hc10 ⊢
  clear e10
  refine v_run 2 (pc' := 38) (ls' := [some (.ref a)]) (st' := [.int (zI 416), .ref a]) rfl ?_
  refine v_newarr (mc := 4) (ms := 95) (a0 := (416, .inl (fun j => zI ↑((fun _ => 0 : Nat → Nat) j)))) (N' := 416) rfl (fun _ => rfl) (by decide) (by decide) (by decide) ?_
  intro x11 hx11 _
  have hc12 : Ctor h a 10 [.int (zI 0), .int (zI 0), .int (zI (-1)), .null, .null, .ref x2, .int (zI 0), .int (zI 0), .int (zI 0), .int (zI 0), .int (zI 0), .int (zI 0), .int (zI 0), .int (zI 0), .long (zL 0), .ref x5, .ref x8, .null, .null, .int (zI 0), .int (zI 0), .null, .int (zI 0), .null, .int (zI 0), .null, .long (zL 0), .long (zL 0), .long (zL 0)] 4 (upN (upN (upN (upN (fun _ => 0) 0 x2) 1 x5) 2 x8) 3 x11) (upN (upN (upN (upN (fun _ => .inr (0, [])) 0 (arB 900 (fun _ => 0))) 1 (ar 26 (fun _ => 0))) 2 (ar 26 (fun _ => 0))) 3 (ar 416 (fun _ => 0))) (hset h10 x11 (ar 416 (fun _ => 0))) := hc10.push hx11 _
  generalize e12 : hset h10 x11 (ar 416 (fun _ => 0)) = h12 at hc12 ⊢
  clear e12
  refine v_run 0 (pc' := 40) (ls' := [some (.ref a)]) (st' := [.ref x11, .ref a]) rfl ?_
  refine v_put rfl hc12.1 rfl rfl (Nat.le_of_ble_eq_true rfl) ?_
  rw [show ([.int (zI 0), .int (zI 0), .int (zI (-1)), .null, .null, .ref x2, .int (zI 0), .int (zI 0), .int (zI 0), .int (zI 0), .int (zI 0), .int (zI 0), .int (zI 0), .int (zI 0), .long (zL 0), .ref x5, .ref x8, .null, .null, .int (zI 0), .int (zI 0), .null, .int (zI 0), .null, .int (zI 0), .null, .long (zL 0), .long (zL 0), .long (zL 0)] : List Value).set 17 (.ref x11) = [.int (zI 0), .int (zI 0), .int (zI (-1)), .null, .null, .ref x2, .int (zI 0), .int (zI 0), .int (zI 0), .int (zI 0), .int (zI 0), .int (zI 0), .int (zI 0), .int (zI 0), .long (zL 0), .ref x5, .ref x8, .ref x11, .null, .int (zI 0), .int (zI 0), .null, .int (zI 0), .null, .int (zI 0), .null, .long (zL 0), .long (zL 0), .long (zL 0)] from rfl]
  have hc13 : Ctor h a 10 [.int (zI 0), .int (zI 0), .int (zI (-1)), .null, .null, .ref x2, .int (zI 0), .int (zI 0), .int (zI 0), .int (zI 0), .int (zI 0), .int (zI 0), .int (zI 0), .int (zI 0), .long (zL 0), .ref x5, .ref x8, .ref x11, .null, .int (zI 0), .int (zI 0), .null, .int (zI 0), .null, .int (zI 0), .null, .long (zL 0), .long (zL 0), .long (zL 0)] 4 (upN (upN (upN (upN (fun _ => 0) 0 x2) 1 x5) 2 x8) 3 x11) (upN (upN (upN (upN (fun _ => .inr (0, [])) 0 (arB 900 (fun _ => 0))) 1 (ar 26 (fun _ => 0))) 2 (ar 26 (fun _ => 0))) 3 (ar 416 (fun _ => 0))) (hset h12 a (.inr (10, [.int (zI 0), .int (zI 0), .int (zI (-1)), .null, .null, .ref x2, .int (zI 0), .int (zI 0), .int (zI 0), .int (zI 0), .int (zI 0), .int (zI 0), .int (zI 0), .int (zI 0), .long (zL 0), .ref x5, .ref x8, .ref x11, .null, .int (zI 0), .int (zI 0), .null, .int (zI 0), .null, .int (zI 0), .null, .long (zL 0), .long (zL 0), .long (zL 0)]))) := hc12.put _
  generalize e13 : hset h12 a (.inr (10, [.int (zI 0), .int (zI 0), .int (zI (-1)), .null, .null, .ref x2, .int (zI 0), .int (zI 0), .int (zI 0), .int (zI 0), .int (zI 0), .int (zI 0), .int (zI 0), .int (zI 0), .long (zL 0), .ref x5, .ref x8, .ref x11, .null, .int (zI 0), .int (zI 0), .null, .int (zI 0), .null, .int (zI 0), .null, .long (zL 0), .long (zL 0), .long (zL 0)])) = h13 at hc13 ⊢
  clear e13
  refine v_run 2 (pc' := 46) (ls' := [some (.ref a)]) (st' := [.int (zI 78), .ref a]) rfl ?_
  refine v_newarr (mc := 3) (ms := 17) (a0 := (78, .inl (fun j => zI ↑((fun _ => 0 : Nat → Nat) j)))) (N' := 78) rfl (fun _ => rfl) (by decide) (by decide) (by decide) ?_
  intro x14 hx14 _
  have hc15 : Ctor h a 10 [.int (zI 0), .int (zI 0), .int (zI (-1)), .null, .null, .ref x2, .int (zI 0), .int (zI 0), .int (zI 0), .int (zI 0), .int (zI 0), .int (zI 0), .int (zI 0), .int (zI 0), .long (zL 0), .ref x5, .ref x8, .ref x11, .null, .int (zI 0), .int (zI 0), .null, .int (zI 0), .null, .int (zI 0), .null, .long (zL 0), .long (zL 0), .long (zL 0)] 5 (upN (upN (upN (upN (upN (fun _ => 0) 0 x2) 1 x5) 2 x8) 3 x11) 4 x14) (upN (upN (upN (upN (upN (fun _ => .inr (0, [])) 0 (arB 900 (fun _ => 0))) 1 (ar 26 (fun _ => 0))) 2 (ar 26 (fun _ => 0))) 3 (ar 416 (fun _ => 0))) 4 (ar 78 (fun _ => 0))) (hset h13 x14 (ar 78 (fun _ => 0))) := hc13.push hx14 _
  generalize e15 : hset h13 x14 (ar 78 (fun _ => 0)) = h15 at hc15 ⊢
  clear e15
  refine v_run 0 (pc' := 48) (ls' := [some (.ref a)]) (st' := [.ref x14, .ref a]) rfl ?_
  refine v_put rfl hc15.1 rfl rfl (Nat.le_of_ble_eq_true rfl) ?_
  rw [show ([.int (zI 0), .int (zI 0), .int (zI (-1)), .null, .null, .ref x2, .int (zI 0), .int (zI 0), .int (zI 0), .int (zI 0), .int (zI 0), .int (zI 0), .int (zI 0), .int (zI 0), .long (zL 0), .ref x5, .ref x8, .ref x11, .null, .int (zI 0), .int (zI 0), .null, .int (zI 0), .null, .int (zI 0), .null, .long (zL 0), .long (zL 0), .long (zL 0)] : List Value).set 18 (.ref x14) = [.int (zI 0), .int (zI 0), .int (zI (-1)), .null, .null, .ref x2, .int (zI 0), .int (zI 0), .int (zI 0), .int (zI 0), .int (zI 0), .int (zI 0), .int (zI 0), .int (zI 0), .long (zL 0), .ref x5, .ref x8, .ref x11, .ref x14, .int (zI 0), .int (zI 0), .null, .int (zI 0), .null, .int (zI 0), .null, .long (zL 0), .long (zL 0), .long (zL 0)] from rfl]
  have hc16 : Ctor h a 10 [.int (zI 0), .int (zI 0), .int (zI (-1)), .null, .null, .ref x2, .int (zI 0), .int (zI 0), .int (zI 0), .int (zI 0), .int (zI 0), .int (zI 0), .int (zI 0), .int (zI 0), .long (zL 0), .ref x5, .ref x8, .ref x11, .ref x14, .int (zI 0), .int (zI 0), .null, .int (zI 0), .null, .int (zI 0), .null, .long (zL 0), .long (zL 0), .long (zL 0)] 5 (upN (upN (upN (upN (upN (fun _ => 0) 0 x2) 1 x5) 2 x8) 3 x11) 4 x14) (upN (upN (upN (upN (upN (fun _ => .inr (0, [])) 0 (arB 900 (fun _ => 0))) 1 (ar 26 (fun _ => 0))) 2 (ar 26 (fun _ => 0))) 3 (ar 416 (fun _ => 0))) 4 (ar 78 (fun _ => 0))) (hset h15 a (.inr (10, [.int (zI 0), .int (zI 0), .int (zI (-1)), .null, .null, .ref x2, .int (zI 0), .int (zI 0), .int (zI 0), .int (zI 0), .int (zI 0), .int (zI 0), .int (zI 0), .int (zI 0), .long (zL 0), .ref x5, .ref x8, .ref x11, .ref x14, .int (zI 0), .int (zI 0), .null, .int (zI 0), .null, .int (zI 0), .null, .long (zL 0), .long (zL 0), .long (zL 0)]))) := hc15.put _
  generalize e16 : hset h15 a (.inr (10, [.int (zI 0), .int (zI 0), .int (zI (-1)), .null, .null, .ref x2, .int (zI 0), .int (zI 0), .int (zI 0), .int (zI 0), .int (zI 0), .int (zI 0), .int (zI 0), .int (zI 0), .long (zL 0), .ref x5, .ref x8, .ref x11, .ref x14, .int (zI 0), .int (zI 0), .null, .int (zI 0), .null, .int (zI 0), .null, .long (zL 0), .long (zL 0), .long (zL 0)])) = h16 at hc16 ⊢
  clear e16
  refine v_run 2 (pc' := 54) (ls' := [some (.ref a)]) (st' := [.int (zI 6), .ref a]) rfl ?_
  refine v_newarr (mc := 2) (ms := 11) (a0 := (6, .inl (fun j => zI ↑((fun _ => 0 : Nat → Nat) j)))) (N' := 6) rfl (fun _ => rfl) (by decide) (by decide) (by decide) ?_
  intro x17 hx17 _
  have hc18 : Ctor h a 10 [.int (zI 0), .int (zI 0), .int (zI (-1)), .null, .null, .ref x2, .int (zI 0), .int (zI 0), .int (zI 0), .int (zI 0), .int (zI 0), .int (zI 0), .int (zI 0), .int (zI 0), .long (zL 0), .ref x5, .ref x8, .ref x11, .ref x14, .int (zI 0), .int (zI 0), .null, .int (zI 0), .null, .int (zI 0), .null, .long (zL 0), .long (zL 0), .long (zL 0)] 6 (upN (upN (upN (upN (upN (upN (fun _ => 0) 0 x2) 1 x5) 2 x8) 3 x11) 4 x14) 5 x17) (upN (upN (upN (upN (upN (upN (fun _ => .inr (0, [])) 0 (arB 900 (fun _ => 0))) 1 (ar 26 (fun _ => 0))) 2 (ar 26 (fun _ => 0))) 3 (ar 416 (fun _ => 0))) 4 (ar 78 (fun _ => 0))) 5 (ar 6 (fun _ => 0))) (hset h16 x17 (ar 6 (fun _ => 0))) := hc16.push hx17 _
  generalize e18 : hset h16 x17 (ar 6 (fun _ => 0)) = h18 at hc18 ⊢
  clear e18
  refine v_run 0 (pc' := 56) (ls' := [some (.ref a)]) (st' := [.ref x17, .ref a]) rfl ?_
  refine v_put rfl hc18.1 rfl rfl (Nat.le_of_ble_eq_true rfl) ?_
  rw [show ([.int (zI 0), .int (zI 0), .int (zI (-1)), .null, .null, .ref x2, .int (zI 0), .int (zI 0), .int (zI 0), .int (zI 0), .int (zI 0), .int (zI 0), .int (zI 0), .int (zI 0), .long (zL 0), .ref x5, .ref x8, .ref x11, .ref x14, .int (zI 0), .int (zI 0), .null, .int (zI 0), .null, .int (zI 0), .null, .long (zL 0), .long (zL 0), .long (zL 0)] : List Value).set 21 (.ref x17) = [.int (zI 0), .int (zI 0), .int (zI (-1)), .null, .null, .ref x2, .int (zI 0), .int (zI 0), .int (zI 0), .int (zI 0), .int (zI 0), .int (zI 0), .int (zI 0), .int (zI 0), .long (zL 0), .ref x5, .ref x8, .ref x11, .ref x14, .int (zI 0), .int (zI 0), .ref x17, .int (zI 0), .null, .int (zI 0), .null, .long (zL 0), .long (zL 0), .long (zL 0)] from rfl]
  have hc19 : Ctor h a 10 [.int (zI 0), .int (zI 0), .int (zI (-1)), .null, .null, .ref x2, .int (zI 0), .int (zI 0), .int (zI 0), .int (zI 0), .int (zI 0), .int (zI 0), .int (zI 0), .int (zI 0), .long (zL 0), .ref x5, .ref x8, .ref x11, .ref x14, .int (zI 0), .int (zI 0), .ref x17, .int (zI 0), .null, .int (zI 0), .null, .long (zL 0), .long (zL 0), .long (zL 0)] 6 (upN (upN (upN (upN (upN (upN (fun _ => 0) 0 x2) 1 x5) 2 x8) 3 x11) 4 x14) 5 x17) (upN (upN (upN (upN (upN (upN (fun _ => .inr (0, [])) 0 (arB 900 (fun _ => 0))) 1 (ar 26 (fun _ => 0))) 2 (ar 26 (fun _ => 0))) 3 (ar 416 (fun _ => 0))) 4 (ar 78 (fun _ => 0))) 5 (ar 6 (fun _ => 0))) (hset h18 a (.inr (10, [.int (zI 0), .int (zI 0), .int (zI (-1)), .null, .null, .ref x2, .int (zI 0), .int (zI 0), .int (zI 0), .int (zI 0), .int (zI 0), .int (zI 0), .int (zI 0), .int (zI 0), .long (zL 0), .ref x5, .ref x8, .ref x11, .ref x14, .int (zI 0), .int (zI 0), .ref x17, .int (zI 0), .null, .int (zI 0), .null, .long (zL 0), .long (zL 0), .long (zL 0)]))) := hc18.put _
  generalize e19 : hset h18 a (.inr (10, [.int (zI 0), .int (zI 0), .int (zI (-1)), .null, .null, .ref x2, .int (zI 0), .int (zI 0), .int (zI 0), .int (zI 0), .int (zI 0), .int (zI 0), .int (zI 0), .int (zI 0), .long (zL 0), .ref x5, .ref x8, .ref x11, .ref x14, .int (zI 0), .int (zI 0), .ref x17, .int (zI 0), .null, .int (zI 0), .null, .long (zL 0), .long (zL 0), .long (zL 0)])) = h19 at hc19 ⊢
  clear e19
  refine v_run 2 (pc' := 61) (ls' := [some (.ref a)]) (st' := [.int (zI 5), .ref a]) rfl ?_
  refine v_newarr (mc := 1) (ms := 6) (a0 := (5, .inl (fun j => zI ↑((fun _ => 0 : Nat → Nat) j)))) (N' := 5) rfl (fun _ => rfl) (by decide) (by decide) (by decide) ?_
  intro x20 hx20 _
  have hc21 : Ctor h a 10 [.int (zI 0), .int (zI 0), .int (zI (-1)), .null, .null, .ref x2, .int (zI 0), .int (zI 0), .int (zI 0), .int (zI 0), .int (zI 0), .int (zI 0), .int (zI 0), .int (zI 0), .long (zL 0), .ref x5, .ref x8, .ref x11, .ref x14, .int (zI 0), .int (zI 0), .ref x17, .int (zI 0), .null, .int (zI 0), .null, .long (zL 0), .long (zL 0), .long (zL 0)] 7 (upN (upN (upN (upN (upN (upN (upN (fun _ => 0) 0 x2) 1 x5) 2 x8) 3 x11) 4 x14) 5 x17) 6 x20) (upN (upN (upN (upN (upN (upN (upN (fun _ => .inr (0, [])) 0 (arB 900 (fun _ => 0))) 1 (ar 26 (fun _ => 0))) 2 (ar 26 (fun _ => 0))) 3 (ar 416 (fun _ => 0))) 4 (ar 78 (fun _ => 0))) 5 (ar 6 (fun _ => 0))) 6 (ar 5 (fun _ => 0))) (hset h19 x20 (ar 5 (fun _ => 0))) := hc19.push hx20 _
  generalize e21 : hset h19 x20 (ar 5 (fun _ => 0)) = h21 at hc21 ⊢
  clear e21
  refine v_run 0 (pc' := 63) (ls' := [some (.ref a)]) (st' := [.ref x20, .ref a]) rfl ?_
  refine v_put rfl hc21.1 rfl rfl (Nat.le_of_ble_eq_true rfl) ?_
  rw [show ([.int (zI 0), .int (zI 0), .int (zI (-1)), .null, .null, .ref x2, .int (zI 0), .int (zI 0), .int (zI 0), .int (zI 0), .int (zI 0), .int (zI 0), .int (zI 0), .int (zI 0), .long (zL 0), .ref x5, .ref x8, .ref x11, .ref x14, .int (zI 0), .int (zI 0), .ref x17, .int (zI 0), .null, .int (zI 0), .null, .long (zL 0), .long (zL 0), .long (zL 0)] : List Value).set 23 (.ref x20) = [.int (zI 0), .int (zI 0), .int (zI (-1)), .null, .null, .ref x2, .int (zI 0), .int (zI 0), .int (zI 0), .int (zI 0), .int (zI 0), .int (zI 0), .int (zI 0), .int (zI 0), .long (zL 0), .ref x5, .ref x8, .ref x11, .ref x14, .int (zI 0), .int (zI 0), .ref x17, .int (zI 0), .ref x20, .int (zI 0), .null, .long (zL 0), .long (zL 0), .long (zL 0)] from rfl]
  have hc22 : Ctor h a 10 [.int (zI 0), .int (zI 0), .int (zI (-1)), .null, .null, .ref x2, .int (zI 0), .int (zI 0), .int (zI 0), .int (zI 0), .int (zI 0), .int (zI 0), .int (zI 0), .int (zI 0), .long (zL 0), .ref x5, .ref x8, .ref x11, .ref x14, .int (zI 0), .int (zI 0), .ref x17, .int (zI 0), .ref x20, .int (zI 0), .null, .long (zL 0), .long (zL 0), .long (zL 0)] 7 (upN (upN (upN (upN (upN (upN (upN (fun _ => 0) 0 x2) 1 x5) 2 x8) 3 x11) 4 x14) 5 x17) 6 x20) (upN (upN (upN (upN (upN (upN (upN (fun _ => .inr (0, [])) 0 (arB 900 (fun _ => 0))) 1 (ar 26 (fun _ => 0))) 2 (ar 26 (fun _ => 0))) 3 (ar 416 (fun _ => 0))) 4 (ar 78 (fun _ => 0))) 5 (ar 6 (fun _ => 0))) 6 (ar 5 (fun _ => 0))) (hset h21 a (.inr (10, [.int (zI 0), .int (zI 0), .int (zI (-1)), .null, .null, .ref x2, .int (zI 0), .int (zI 0), .int (zI 0), .int (zI 0), .int (zI 0), .int (zI 0), .int (zI 0), .int (zI 0), .long (zL 0), .ref x5, .ref x8, .ref x11, .ref x14, .int (zI 0), .int (zI 0), .ref x17, .int (zI 0), .ref x20, .int (zI 0), .null, .long (zL 0), .long (zL 0), .long (zL 0)]))) := hc21.put _
  generalize e22 : hset h21 a (.inr (10, [.int (zI 0), .int (zI 0), .int (zI (-1)), .null, .null, .ref x2, .int (zI 0), .int (zI 0), .int (zI 0), .int (zI 0), .int (zI 0), .int (zI 0), .int (zI 0), .int (zI 0), .long (zL 0), .ref x5, .ref x8, .ref x11, .ref x14, .int (zI 0), .int (zI 0), .ref x17, .int (zI 0), .ref x20, .int (zI 0), .null, .long (zL 0), .long (zL 0), .long (zL 0)])) = h22 at hc22 ⊢
  clear e22
  refine v_run 2 (pc' := 69) (ls' := [some (.ref a)]) (st' := [.int (zI 6), .ref a]) rfl ?_
  refine v_newarr (mc := 0) (ms := 0) (a0 := (6, .inr (.inl (fun j => zL ↑((fun _ => 0 : Nat → Nat) j))))) (N' := 6) rfl (fun _ => rfl) (by decide) (by decide) (by decide) ?_
  intro x23 hx23 _
  have hc24 : Ctor h a 10 [.int (zI 0), .int (zI 0), .int (zI (-1)), .null, .null, .ref x2, .int (zI 0), .int (zI 0), .int (zI 0), .int (zI 0), .int (zI 0), .int (zI 0), .int (zI 0), .int (zI 0), .long (zL 0), .ref x5, .ref x8, .ref x11, .ref x14, .int (zI 0), .int (zI 0), .ref x17, .int (zI 0), .ref x20, .int (zI 0), .null, .long (zL 0), .long (zL 0), .long (zL 0)] 8 (upN (upN (upN (upN (upN (upN (upN (upN (fun _ => 0) 0 x2) 1 x5) 2 x8) 3 x11) 4 x14) 5 x17) 6 x20) 7 x23) (upN (upN (upN (upN (upN (upN (upN (upN (fun _ => .inr (0, [])) 0 (arB 900 (fun _ => 0))) 1 (ar 26 (fun _ => 0))) 2 (ar 26 (fun _ => 0))) 3 (ar 416 (fun _ => 0))) 4 (ar 78 (fun _ => 0))) 5 (ar 6 (fun _ => 0))) 6 (ar 5 (fun _ => 0))) 7 (arL 6 (fun _ => 0))) (hset h22 x23 (arL 6 (fun _ => 0))) := hc22.push hx23 _
  generalize e24 : hset h22 x23 (arL 6 (fun _ => 0)) = h24 at hc24 ⊢
  clear e24
  refine v_run 0 (pc' := 71) (ls' := [some (.ref a)]) (st' := [.ref x23, .ref a]) rfl ?_
  refine v_put rfl hc24.1 rfl rfl (Nat.le_of_ble_eq_true rfl) ?_
  rw [show ([.int (zI 0), .int (zI 0), .int (zI (-1)), .null, .null, .ref x2, .int (zI 0), .int (zI 0), .int (zI 0), .int (zI 0), .int (zI 0), .int (zI 0), .int (zI 0), .int (zI 0), .long (zL 0), .ref x5, .ref x8, .ref x11, .ref x14, .int (zI 0), .int (zI 0), .ref x17, .int (zI 0), .ref x20, .int (zI 0), .null, .long (zL 0), .long (zL 0), .long (zL 0)] : List Value).set 25 (.ref x23) = [.int (zI 0), .int (zI 0), .int (zI (-1)), .null, .null, .ref x2, .int (zI 0), .int (zI 0), .int (zI 0), .int (zI 0), .int (zI 0), .int (zI 0), .int (zI 0), .int (zI 0), .long (zL 0), .ref x5, .ref x8, .ref x11, .ref x14, .int (zI 0), .int (zI 0), .ref x17, .int (zI 0), .ref x20, .int (zI 0), .ref x23, .long (zL 0), .long (zL 0), .long (zL 0)] from rfl]
  have hc25 : Ctor h a 10 [.int (zI 0), .int (zI 0), .int (zI (-1)), .null, .null, .ref x2, .int (zI 0), .int (zI 0), .int (zI 0), .int (zI 0), .int (zI 0), .int (zI 0), .int (zI 0), .int (zI 0), .long (zL 0), .ref x5, .ref x8, .ref x11, .ref x14, .int (zI 0), .int (zI 0), .ref x17, .int (zI 0), .ref x20, .int (zI 0), .ref x23, .long (zL 0), .long (zL 0), .long (zL 0)] 8 (upN (upN (upN (upN (upN (upN (upN (upN (fun _ => 0) 0 x2) 1 x5) 2 x8) 3 x11) 4 x14) 5 x17) 6 x20) 7 x23) (upN (upN (upN (upN (upN (upN (upN (upN (fun _ => .inr (0, [])) 0 (arB 900 (fun _ => 0))) 1 (ar 26 (fun _ => 0))) 2 (ar 26 (fun _ => 0))) 3 (ar 416 (fun _ => 0))) 4 (ar 78 (fun _ => 0))) 5 (ar 6 (fun _ => 0))) 6 (ar 5 (fun _ => 0))) 7 (arL 6 (fun _ => 0))) (hset h24 a (.inr (10, [.int (zI 0), .int (zI 0), .int (zI (-1)), .null, .null, .ref x2, .int (zI 0), .int (zI 0), .int (zI 0), .int (zI 0), .int (zI 0), .int (zI 0), .int (zI 0), .int (zI 0), .long (zL 0), .ref x5, .ref x8, .ref x11, .ref x14, .int (zI 0), .int (zI 0), .ref x17, .int (zI 0), .ref x20, .int (zI 0), .ref x23, .long (zL 0), .long (zL 0), .long (zL 0)]))) := hc24.put _
  generalize e25 : hset h24 a (.inr (10, [.int (zI 0), .int (zI 0), .int (zI (-1)), .null, .null, .ref x2, .int (zI 0), .int (zI 0), .int (zI 0), .int (zI 0), .int (zI 0), .int (zI 0), .int (zI 0), .int (zI 0), .long (zL 0), .ref x5, .ref x8, .ref x11, .ref x14, .int (zI 0), .int (zI 0), .ref x17, .int (zI 0), .ref x20, .int (zI 0), .ref x23, .long (zL 0), .long (zL 0), .long (zL 0)])) = h25 at hc25 ⊢
  clear e25
  refine v_run 0 (pc' := 74) (ls' := [some (.ref a)]) (st' := []) rfl ?_
  exact v_vret rfl rfl ⟨rfl, (upN (upN (upN (upN (upN (upN (upN (upN (fun _ => 0) 0 x2) 1 x5) 2 x8) 3 x11) 4 x14) 5 x17) 6 x20) 7 x23), Ctor.cg (C' := cC10 (upN (upN (upN (upN (upN (upN (upN (upN (fun _ => 0) 0 x2) 1 x5) 2 x8) 3 x11) 4 x14) 5 x17) 6 x20) 7 x23)) hc25 (fun k hk => by rcases (show k = 0 ∨ k = 1 ∨ k = 2 ∨ k = 3 ∨ k = 4 ∨ k = 5 ∨ k = 6 ∨ k = 7 from by omega) with rfl | rfl | rfl | rfl | rfl | rfl | rfl | rfl <;> rfl)⟩

