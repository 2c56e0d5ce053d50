def upN {α : Type} (f : Nat → α) (c : Nat) (x : α) : Nat → α := fun k => if k = c then x else f k
def apN {α : Type} (f : Nat → α) (c : Nat) (g : Nat → α) : Nat → α := fun k => if k < c then f k else g (k - c)
/-- what an <init> leaves: the object at a, new cells q 0 .. q (c - 1), nothing else touched -/
def Ctor (h : ssH) (a ci : Nat) (fs : List Value) (c : Nat) (q : Nat → Nat) (C : Nat → ssE) (h' : ssH) : Prop := h' a = some (.inr (ci, fs)) ∧ (∀ k, k < c → h (q k) = none ∧ q k ≠ a ∧ h' (q k) = some (C k)) ∧ (∀ k l, k < c → l < c → q k = q l → k = l) ∧ ∀ b, b ≠ a → (∀ k, k < c → b ≠ q k) → h' b = h b
section CTOR
variable {h h' h2 : ssH} {a ci c : Nat} {fs : List Value} {q : Nat → Nat} {C : Nat → ssE}
theorem Ctor.nil (h : ssH) {a ci : Nat} {fs : List Value} (ha : h a = some (.inr (ci, fs))) (q : Nat → Nat) (C : Nat → ssE) : Ctor h a ci fs 0 q C h := ⟨ha, fun k hk => absurd hk (by omega), fun k l hk => absurd hk (by omega), fun _ _ _ => rfl⟩
theorem Ctor.put (hc : Ctor h a ci fs c q C h') (gs : List Value) : Ctor h a ci gs c q C (hset h' a (.inr (ci, gs))) :=
  ⟨hset_self _ _ _, fun k hk => ⟨(hc.2.1 k hk).1, (hc.2.1 k hk).2.1, (hset_ne _ _ (hc.2.1 k hk).2.1).trans (hc.2.1 k hk).2.2⟩, hc.2.2.1, fun b b1 b2 => (hset_ne _ _ b1).trans (hc.2.2.2 b b1 b2)⟩
theorem Ctor.push (hc : Ctor h a ci fs c q C h') {x : Nat} (hx : h' x = none) (e : ssE) : Ctor h a ci fs (c + 1) (upN q c x) (upN C c e) (hset h' x e) := by
  have xa : x ≠ a := fun z => by rw [z, hc.1] at hx; cases hx
  have xq : ∀ k, k < c → x ≠ q k := fun k hk z => by rw [z, (hc.2.1 k hk).2.2] at hx; cases hx
  have lo : ∀ k, k < c → upN q c x k = q k ∧ upN C c e k = C k := fun k hk => ⟨if_neg (by omega), if_neg (by omega)⟩
  have hi : upN q c x c = x ∧ upN C c e c = e := ⟨if_pos rfl, if_pos rfl⟩
  refine ⟨(hset_ne _ _ (Ne.symm xa)).trans hc.1, fun k hk => ?_, fun k l hk hl he => ?_, fun b b1 b2 => ?_⟩
  · by_cases g : k = c
    · subst g
      rw [hi.1, hi.2]
      exact ⟨(hc.2.2.2 x xa xq).symm.trans hx, xa, hset_self _ _ _⟩
    · have hk : k < c := by omega
      rw [(lo k hk).1, (lo k hk).2]
      exact ⟨(hc.2.1 k hk).1, (hc.2.1 k hk).2.1, (hset_ne _ _ (Ne.symm (xq k hk))).trans (hc.2.1 k hk).2.2⟩
  · by_cases g1 : k = c
    · by_cases g2 : l = c
      · omega
      · rw [g1, hi.1, (lo l (by omega)).1] at he
        exact absurd he (xq l (by omega))
    · by_cases g2 : l = c
      · rw [g2, hi.1, (lo k (by omega)).1] at he
        exact absurd he.symm (xq k (by omega))
      · rw [(lo k (by omega)).1, (lo l (by omega)).1] at he
        exact hc.2.2.1 k l (by omega) (by omega) he
  · have bx : b ≠ x := fun z => b2 c (by omega) (by rw [hi.1]; exact z)
    exact (hset_ne _ _ bx).trans (hc.2.2.2 b b1 (fun k hk z => b2 k (by omega) (by rw [(lo k hk).1]; exact z)))
/-- an inner object's <init> -/
theorem Ctor.app {cj d : Nat} {gs : List Value} {r : Nat → Nat} {C2 : Nat → ssE} (hc : Ctor h a ci fs (c + 1) q C h') (hd : Ctor h' (q c) cj gs d r C2 h2) : Ctor h a ci fs (c + 1 + d) (apN q (c + 1) r) (apN (upN C c (.inr (cj, gs))) (c + 1) C2) h2 := by
  have nn : ∀ k, k < d → r k ≠ a ∧ (∀ l, l < c + 1 → r k ≠ q l) ∧ h (r k) = none := fun k hk => by
    have r0 := (hd.2.1 k hk).1
    have ra : r k ≠ a := fun z => by rw [z, hc.1] at r0; cases r0
    have rq : ∀ l, l < c + 1 → r k ≠ q l := fun l hl z => by rw [z, (hc.2.1 l hl).2.2] at r0; cases r0
    exact ⟨ra, rq, (hc.2.2.2 _ ra rq).symm.trans r0⟩
  have lo : ∀ k, k < c + 1 → apN q (c + 1) r k = q k := fun k hk => if_pos hk
  have hi : ∀ k, ¬ k < c + 1 → apN q (c + 1) r k = r (k - (c + 1)) := fun k hk => if_neg hk
  refine ⟨(hd.2.2.2 a (fun z => (hc.2.1 c (by omega)).2.1 z.symm) (fun k hk z => (nn k hk).1 z.symm)).trans hc.1, fun k hk => ?_, fun k l hk hl he => ?_, fun b b1 b2 => ?_⟩
  · by_cases g : k < c + 1
    · rw [lo k g]
      obtain ⟨p1, p2, p3⟩ := hc.2.1 k g
      refine ⟨p1, p2, ?_⟩
      rw [show apN (upN C c (.inr (cj, gs))) (c + 1) C2 k = upN C c (.inr (cj, gs)) k from if_pos g]
      by_cases g2 : k = c
      · subst g2
        rw [show upN C k (.inr (cj, gs)) k = .inr (cj, gs) from if_pos rfl]
        exact hd.1
      · rw [show upN C c (.inr (cj, gs)) k = C k from if_neg g2]
        exact (hd.2.2.2 _ (fun z => g2 (hc.2.2.1 k c g (by omega) z)) (fun l hl z => (nn l hl).2.1 k g z.symm)).trans p3
    · rw [hi k g, show apN (upN C c (.inr (cj, gs))) (c + 1) C2 k = C2 (k - (c + 1)) from if_neg g]
      exact ⟨(nn _ (by omega)).2.2, (nn _ (by omega)).1, (hd.2.1 _ (by omega)).2.2⟩
  · by_cases g1 : k < c + 1
    · by_cases g2 : l < c + 1
      · rw [lo k g1, lo l g2] at he
        exact hc.2.2.1 k l g1 g2 he
      · rw [lo k g1, hi l g2] at he
        exact absurd he.symm ((nn _ (by omega)).2.1 k g1)
    · by_cases g2 : l < c + 1
      · rw [hi k g1, lo l g2] at he
        exact absurd he ((nn _ (by omega)).2.1 l g2)
      · rw [hi k g1, hi l g2] at he
        have := hd.2.2.1 _ _ (by omega) (by omega) he
        omega
  · refine (hd.2.2.2 b (fun z => b2 c (by omega) (by rw [lo c (by omega)]; exact z)) (fun k hk z => b2 (c + 1 + k) (by omega) (by rw [hi _ (by omega), show c + 1 + k - (c + 1) = k by omega]; exact z))).trans ?_
    exact hc.2.2.2 b b1 (fun k hk z => b2 k (by omega) (by rw [lo k hk]; exact z))
end CTOR
def sfC : Nat → ssE := (upN (upN (upN (upN (upN (upN (upN (upN (upN (upN (upN (upN (fun _ => .inr (0, [])) 0 (ar 6 (fun _ => 0))) 1 (ar 6 (fun _ => 0))) 2 (ar 6 (fun _ => 0))) 3 (ar 6 (fun _ => 0))) 4 (ar 6 (fun _ => 0))) 5 (ar 5 (fun _ => 0))) 6 (ar 5 (fun _ => 0))) 7 (ar 5 (fun _ => 0))) 8 (ar 5 (fun _ => 0))) 9 (arL 17 (fun _ => 0))) 10 (ar 17 (fun _ => 0))) 11 (ar 17 (fun _ => 0)))
def sfF (q : Nat → Nat) : List Value := [.int (zI 0), .int (zI 0), .int (zI 0), .int (zI 0), .int (zI 0), .int (zI 0), .int (zI 0), .int (zI 0), .int (zI 0), .int (zI (-1)), .int (zI 0), .int (zI 0), .ref (q 0), .ref (q 1), .ref (q 2), .ref (q 3), .ref (q 4), .ref (q 5), .ref (q 6), .ref (q 7), .ref (q 8), .ref (q 9), .ref (q 10), .ref (q 11)]
set_option maxRecDepth 100000 in
set_option maxHeartbeats 400000 in
theorem g_safeInit (G : ssG) (h : ssH) {a : Nat} (ha : h a = some (.inr (9, [.int (zI 0), .int (zI 0), .int (zI 0), .int (zI 0), .int (zI 0), .int (zI 0), .int (zI 0), .int (zI 0), .int (zI 0), .int (zI 0), .int (zI 0), .int (zI 0), .null, .null, .null, .null, .null, .null, .null, .null, .null, .null, .null, .null]))) : ssC G mX9_init 1 12 101 [.ref a] h (fun r h' => r = none ∧ ∃ q, Ctor h a 9 (sfF q) 12 q sfC h') := by
  refine c_of_v okX9_init (by decide +kernel) (ls := [some (.ref a)]) rfl (Nat.le_of_ble_eq_true rfl) ?_
  have hc0 : Ctor h a 9 [.int (zI 0), .int (zI 0), .int (zI 0), .int (zI 0), .int (zI 0), .int (zI 0), .int (zI 0), .int (zI 0), .int (zI 0), .int (zI 0), .int (zI 0), .int (zI 0), .null, .null, .null, .null, .null, .null, .null, .null, .null, .null, .null, .null] 0 (fun _ => 0) (fun _ => .inr (0, [])) (h) := Ctor.nil h ha _ _
  refine v_run 1 (pc' := 1) (ls' := [some (.ref a)]) (st' := [.ref a]) rfl ?_
  refine v_objInit rfl rfl (by omega) (Nat.le_of_ble_eq_true rfl) ?_
  refine v_run 2 (pc' := 6) (ls' := [some (.ref a)]) (st' := [.int (zI (-1)), .ref a]) rfl ?_
  refine v_put rfl hc0.1 rfl rfl (Nat.le_of_ble_eq_true rfl) ?_
  rw [show ([.int (zI 0), .int (zI 0), .int (zI 0), .int (zI 0), .int (zI 0), .int (zI 0), .int (zI 0), .int (zI 0), .int (zI 0), .int (zI 0), .int (zI 0), .int (zI 0), .null, .null, .null, .null, .null, .null, .null, .null, .null, .null, .null, .null] : List Value).set 9 (.int (zI (-1))) = [.int (zI 0), .int (zI 0), .int (zI 0), .int (zI 0), .int (zI 0), .int (zI 0), .int (zI 0), .int (zI 0), .int (zI 0), .int (zI (-1)), .int (zI 0), .int (zI 0), .null, .null, .null, .null, .null, .null, .null, .null, .null, .null, .null, .null] from rfl]
  have hc1 : Ctor h a 9 [.int (zI 0), .int (zI 0), .int (zI 0), .int (zI 0), .int (zI 0), .int (zI 0), .int (zI 0), .int (zI 0), .int (zI 0), .int (zI (-1)), .int (zI 0), .int (zI 0), .null, .null, .null, .null, .null, .null, .null, .null, .null, .null, .null, .null] 0 (fun _ => 0) (fun _ => .inr (0, [])) (hset h a (.inr (9, [.int (zI 0), .int (zI 0), .int (zI 0), .int (zI 0), .int (zI 0), .int (zI 0), .int (zI 0), .int (zI 0), .int (zI 0), .int (zI (-1)), .int (zI 0), .int (zI 0), .null, .null, .null, .null, .null, .null, .null, .null, .null, .null, .null, .null]))) := hc0.put _
  generalize e1 : hset h a (.inr (9, [.int (zI 0), .int (zI 0), .int (zI 0), .int (zI 0), .int (zI 0), .int (zI 0), .int (zI 0), .int (zI 0), .int (zI 0), .int (zI (-1)), .int (zI 0), .int (zI 0), .null, .null, .null, .null, .null, .null, .null, .null, .null, .null, .null, .null])) = h1 at hc1 ⊢
  clear e1
  refine v_run 2 (pc' := 12) (ls' := [some (.ref a)]) (st' := [.int (zI 6), .ref a]) rfl ?_
  refine v_newarr (mc := 11) (ms := 95) (a0 := (6, .inl (fun j => zI ↑((fun _ => 0 : Nat → Nat) j)))) (N' := 6) rfl (fun _ => rfl) (by decide) (by decide) (by decide) ?_
  intro x2 hx2 _
  have hc3 : Ctor h a 9 [.int (zI 0), .int (zI 0), .int (zI 0), .int (zI 0), .int (zI 0), .int (zI 0), .int (zI 0), .int (zI 0), .int (zI 0), .int (zI (-1)), .int (zI 0), .int (zI 0), .null, .null, .null, .null, .null, .null, .null, .null, .null, .null, .null, .null] 1 (upN (fun _ => 0) 0 x2) (upN (fun _ => .inr (0, [])) 0 (ar 6 (fun _ => 0))) (hset h1 x2 (ar 6 (fun _ => 0))) := hc1.push hx2 _
  generalize e3 : hset h1 x2 (ar 6 (fun _ => 0)) = h3 at hc3 ⊢
  clear e3
  refine v_run 0 (pc' := 14) (ls' := [some (.ref a)]) (st' := [.ref x2, .ref a]) rfl ?_
  refine v_put rfl hc3.1 rfl rfl (Nat.le_of_ble_eq_true rfl) ?_
  rw [show ([.int (zI 0), .int (zI 0), .int (zI 0), .int (zI 0), .int (zI 0), .int (zI 0), .int (zI 0), .int (zI 0), .int (zI 0), .int (zI (-1)), .int (zI 0), .int (zI 0), .null, .null, .null, .null, .null, .null, .null, .null, .null, .null, .null, .null] : List Value).set 12 (.ref x2) = [.int (zI 0), .int (zI 0), .int (zI 0), .int (zI 0), .int (zI 0), .int (zI 0), .int (zI 0), .int (zI 0), .int (zI 0), .int (zI (-1)), .int (zI 0), .int (zI 0), .ref x2, .null, .null, .null, .null, .null, .null, .null, .null, .null, .null, .null] from rfl]
  have hc4 : Ctor h a 9 [.int (zI 0), .int (zI 0), .int (zI 0), .int (zI 0), .int (zI 0), .int (zI 0), .int (zI 0), .int (zI 0), .int (zI 0), .int (zI (-1)), .int (zI 0), .int (zI 0), .ref x2, .null, .null, .null, .null, .null, .null, .null, .null, .null, .null, .null] 1 (upN (fun _ => 0) 0 x2) (upN (fun _ => .inr (0, [])) 0 (ar 6 (fun _ => 0))) (hset h3 a (.inr (9, [.int (zI 0), .int (zI 0), .int (zI 0), .int (zI 0), .int (zI 0), .int (zI 0), .int (zI 0), .int (zI 0), .int (zI 0), .int (zI (-1)), .int (zI 0), .int (zI 0), .ref x2, .null, .null, .null, .null, .null, .null, .null, .null, .null, .null, .null]))) := hc3.put _
  generalize e4 : hset h3 a (.inr (9, [.int (zI 0), .int (zI 0), .int (zI 0), .int (zI 0), .int (zI 0), .int (zI 0), .int (zI 0), .int (zI 0), .int (zI 0), .int (zI (-1)), .int (zI 0), .int (zI 0), .ref x2, .null, .null, .null, .null, .null, .null, .null, .null, .null, .null, .null])) = h4 at hc4 ⊢
  clear e4
  refine v_run 2 (pc' := 20) (ls' := [some (.ref a)]) (st' := [.int (zI 6), .ref a]) rfl ?_
  refine v_newarr (mc := 10) (ms := 89) (a0 := (6, .inl (fun j => zI ↑((fun _ => 0 : Nat → Nat) j)))) (N' := 6) rfl (fun _ => rfl) (by decide) (by decide) (by decide) ?_
  intro x5 hx5 _
  have hc6 : Ctor h a 9 [.int (zI 0), .int (zI 0), .int (zI 0), .int (zI 0), .int (zI 0), .int (zI 0), .int (zI 0), .int (zI 0), .int (zI 0), .int (zI (-1)), .int (zI 0), .int (zI 0), .ref x2, .null, .null, .null, .null, .null, .null, .null, .null, .null, .null, .null] 2 (upN (upN (fun _ => 0) 0 x2) 1 x5) (upN (upN (fun _ => .inr (0, [])) 0 (ar 6 (fun _ => 0))) 1 (ar 6 (fun _ => 0))) (hset h4 x5 (ar 6 (fun _ => 0))) := hc4.push hx5 _
  generalize e6 : hset h4 x5 (ar 6 (fun _ => 0)) = h6 at hc6 ⊢
  clear e6
  refine v_run 0 (pc' := 22) (ls' := [some (.ref a)]) (st' := [.ref x5, .ref a]) rfl ?_
  refine v_put rfl hc6.1 rfl rfl (Nat.le_of_ble_eq_true rfl) ?_
  rw [show ([.int (zI 0), .int (zI 0), .int (zI 0), .int (zI 0), .int (zI 0), .int (zI 0), .int (zI 0), .int (zI 0), .int (zI 0), .int (zI (-1)), .int (zI 0), .int (zI 0), .ref x2, .null, .null, .null, .null, .null, .null, .null, .null, .null, .null, .null] : List Value).set 13 (.ref x5) = [.int (zI 0), .int (zI 0), .int (zI 0), .int (zI 0), .int (zI 0), .int (zI 0), .int (zI 0), .int (zI 0), .int (zI 0), .int (zI (-1)), .int (zI 0), .int (zI 0), .ref x2, .ref x5, .null, .null, .null, .null, .null, .null, .null, .null, .null, .null] from rfl]
  have hc7 : Ctor h a 9 [.int (zI 0), .int (zI 0), .int (zI 0), .int (zI 0), .int (zI 0), .int (zI 0), .int (zI 0), .int (zI 0), .int (zI 0), .int (zI (-1)), .int (zI 0), .int (zI 0), .ref x2, .ref x5, .null, .null, .null, .null, .null, .null, .null, .null, .null, .null] 2 (upN (upN (fun _ => 0) 0 x2) 1 x5) (upN (upN (fun _ => .inr (0, [])) 0 (ar 6 (fun _ => 0))) 1 (ar 6 (fun _ => 0))) (hset h6 a (.inr (9, [.int (zI 0), .int (zI 0), .int (zI 0), .int (zI 0), .int (zI 0), .int (zI 0), .int (zI 0), .int (zI 0), .int (zI 0), .int (zI (-1)), .int (zI 0), .int (zI 0), .ref x2, .ref x5, .null, .null, .null, .null, .null, .null, .null, .null, .null, .null]))) := hc6.put _
  generalize e7 : hset h6 a (.inr (9, [.int (zI 0), .int (zI 0), .int (zI 0), .int (zI 0), .int (zI 0), .int (zI 0), .int (zI 0), .int (zI 0), .int (zI 0), .int (zI (-1)), .int (zI 0), .int (zI 0), .ref x2, .ref x5, .null, .null, .null, .null, .null, .null, .null, .null, .null, .null])) = h7 at hc7 ⊢
  clear e7
  refine v_run 2 (pc' := 28) (ls' := [some (.ref a)]) (st' := [.int (zI 6), .ref a]) rfl ?_
  refine v_newarr (mc := 9) (ms := 83) (a0 := (6, .inl (fun j => zI ↑((fun _ => 0 : Nat → Nat) j)))) (N' := 6) rfl (fun _ => rfl) (by decide) (by decide) (by decide) ?_
  intro x8 hx8 _
  have hc9 : Ctor h a 9 [.int (zI 0), .int (zI 0), .int (zI 0), .int (zI 0), .int (zI 0), .int (zI 0), .int (zI 0), .int (zI 0), .int (zI 0), .int (zI (-1)), .int (zI 0), .int (zI 0), .ref x2, .ref x5, .null, .null, .null, .null, .null, .null, .null, .null, .null, .null] 3 (upN (upN (upN (fun _ => 0) 0 x2) 1 x5) 2 x8) (upN (upN (upN (fun _ => .inr (0, [])) 0 (ar 6 (fun _ => 0))) 1 (ar 6 (fun _ => 0))) 2 (ar 6 (fun _ => 0))) (hset h7 x8 (ar 6 (fun _ => 0))) := hc7.push hx8 _
  generalize e9 : hset h7 x8 (ar 6 (fun _ => 0)) = h9 at hc9 ⊢
  clear e9
  refine v_run 0 (pc' := 30) (ls' := [some (.ref a)]) (st' := [.ref x8, .ref a]) rfl ?_
  refine v_put rfl hc9.1 rfl rfl (Nat.le_of_ble_eq_true rfl) ?_
  rw [show ([.int (zI 0), .int (zI 0), .int (zI 0), .int (zI 0), .int (zI 0), .int (zI 0), .int (zI 0), .int (zI 0), .int (zI 0), .int (zI (-1)), .int (zI 0), .int (zI 0), .ref x2, .ref x5, .null, .null, .null, .null, .null, .null, .null, .null, .null, .null] : List Value).set 14 (.ref x8) = [.int (zI 0), .int (zI 0), .int (zI 0), .int (zI 0), .int (zI 0), .int (zI 0), .int (zI 0), .int (zI 0), .int (zI 0), .int (zI (-1)), .int (zI 0), .int (zI 0), .ref x2, .ref x5, .ref x8, .null, .null, .null, .null, .null, .null, .null, .null, .null] from rfl]
  have hc10 : Ctor h a 9 [.int (zI 0), .int (zI 0), .int (zI 0), .int (zI 0), .int (zI 0), .int (zI 0), .int (zI 0), .int (zI 0), .int (zI 0), .int (zI (-1)), .int (zI 0), .int (zI 0), .ref x2, .ref x5, .ref x8, .null, .null, .null, .null, .null, .null, .null, .null, .null] 3 (upN (upN (upN (fun _ => 0) 0 x2) 1 x5) 2 x8) (upN (upN (upN (fun _ => .inr (0, [])) 0 (ar 6 (fun _ => 0))) 1 (ar 6 (fun _ => 0))) 2 (ar 6 (fun _ => 0))) (hset h9 a (.inr (9, [.int (zI 0), .int (zI 0), .int (zI 0), .int (zI 0), .int (zI 0), .int (zI 0), .int (zI 0), .int (zI 0), .int (zI 0), .int (zI (-1)), .int (zI 0), .int (zI 0), .ref x2, .ref x5, .ref x8, .null, .null, .null, .null, .null, .null, .null, .null, .null]))) := hc9.put _
  generalize e10 : hset h9 a (.inr (9, [.int (zI 0), .int (zI 0), .int (zI 0), .int (zI 0), .int (zI 0), .int (zI 0), .int (zI 0), .int (zI 0), .int (zI 0), .int (zI (-1)), .int (zI 0), .int (zI 0), .ref x2, .ref x5, .ref x8, .null, .null, .null, .null, .null, .null, .null, .null, .null])) = h10 at hc10 ⊢
  clear e10
  refine v_run 2 (pc' := 36) (ls' := [some (.ref a)]) (st' := [.int (zI 6), .ref a]) rfl ?_
  refine v_newarr (mc := 8) (ms := 77) (a0 := (6, .inl (fun j => zI ↑((fun _ => 0 : Nat → Nat) j)))) (N' := 6) rfl (fun _ => rfl) (by decide) (by decide) (by decide) ?_
  intro x11 hx11 _
  have hc12 : Ctor h a 9 [.int (zI 0), .int (zI 0), .int (zI 0), .int (zI 0), .int (zI 0), .int (zI 0), .int (zI 0), .int (zI 0), .int (zI 0), .int (zI (-1)), .int (zI 0), .int (zI 0), .ref x2, .ref x5, .ref x8, .null, .null, .null, .null, .null, .null, .null, .null, .null] 4 (upN (upN (upN (upN (fun _ => 0) 0 x2) 1 x5) 2 x8) 3 x11) (upN (upN (upN (upN (fun _ => .inr (0, [])) 0 (ar 6 (fun _ => 0))) 1 (ar 6 (fun _ => 0))) 2 (ar 6 (fun _ => 0))) 3 (ar 6 (fun _ => 0))) (hset h10 x11 (ar 6 (fun _ => 0))) := hc10.push hx11 _
  generalize e12 : hset h10 x11 (ar 6 (fun _ => 0)) = h12 at hc12 ⊢
  clear e12
  refine v_run 0 (pc' := 38) (ls' := [some (.ref a)]) (st' := [.ref x11, .ref a]) rfl ?_
  refine v_put rfl hc12.1 rfl rfl (Nat.le_of_ble_eq_true rfl) ?_
  rw [show ([.int (zI 0), .int (zI 0), .int (zI 0), .int (zI 0), .int (zI 0), .int (zI 0), .int (zI 0), .int (zI 0), .int (zI 0), .int (zI (-1)), .int (zI 0), .int (zI 0), .ref x2, .ref x5, .ref x8, .null, .null, .null, .null, .null, .null, .null, .null, .null] : List Value).set 15 (.ref x11) = [.int (zI 0), .int (zI 0), .int (zI 0), .int (zI 0), .int (zI 0), .int (zI 0), .int (zI 0), .int (zI 0), .int (zI 0), .int (zI (-1)), .int (zI 0), .int (zI 0), .ref x2, .ref x5, .ref x8, .ref x11, .null, .null, .null, .null, .null, .null, .null, .null] from rfl]
  have hc13 : Ctor h a 9 [.int (zI 0), .int (zI 0), .int (zI 0), .int (zI 0), .int (zI 0), .int (zI 0), .int (zI 0), .int (zI 0), .int (zI 0), .int (zI (-1)), .int (zI 0), .int (zI 0), .ref x2, .ref x5, .ref x8, .ref x11, .null, .null, .null, .null, .null, .null, .null, .null] 4 (upN (upN (upN (upN (fun _ => 0) 0 x2) 1 x5) 2 x8) 3 x11) (upN (upN (upN (upN (fun _ => .inr (0, [])) 0 (ar 6 (fun _ => 0))) 1 (ar 6 (fun _ => 0))) 2 (ar 6 (fun _ => 0))) 3 (ar 6 (fun _ => 0))) (hset h12 a (.inr (9, [.int (zI 0), .int (zI 0), .int (zI 0), .int (zI 0), .int (zI 0), .int (zI 0), .int (zI 0), .int (zI 0), .int (zI 0), .int (zI (-1)), .int (zI 0), .int (zI 0), .ref x2, .ref x5, .ref x8, .ref x11, .null, .null, .null, .null, .null, .null, .null, .null]))) := hc12.put _
  generalize e13 : hset h12 a (.inr (9, [.int (zI 0), .int (zI 0), .int (zI 0), .int (zI 0), .int (zI 0), .int (zI 0), .int (zI 0), .int (zI 0), .int (zI 0), .int (zI (-1)), .int (zI 0), .int (zI 0), .ref x2, .ref x5, .ref x8, .ref x11, .null, .null, .null, .null, .null, .null, .null, .null])) = h13 at hc13 ⊢
  clear e13
  refine v_run 2 (pc' := 44) (ls' := [some (.ref a)]) (st' := [.int (zI 6), .ref a]) rfl ?_
  refine v_newarr (mc := 7) (ms := 71) (a0 := (6, .inl (fun j => zI ↑((fun _ => 0 : Nat → Nat) j)))) (N' := 6) rfl (fun _ => rfl) (by decide) (by decide) (by decide) ?_
  intro x14 hx14 _
  have hc15 : Ctor h a 9 [.int (zI 0), .int (zI 0), .int (zI 0), .int (zI 0), .int (zI 0), .int (zI 0), .int (zI 0), .int (zI 0), .int (zI 0), .int (zI (-1)), .int (zI 0), .int (zI 0), .ref x2, .ref x5, .ref x8, .ref x11, .null, .null, .null, .null, .null, .null, .null, .null] 5 (upN (upN (upN (upN (upN (fun _ => 0) 0 x2) 1 x5) 2 x8) 3 x11) 4 x14) (upN (upN (upN (upN (upN (fun _ => .inr (0, [])) 0 (ar 6 (fun _ => 0))) 1 (ar 6 (fun _ => 0))) 2 (ar 6 (fun _ => 0))) 3 (ar 6 (fun _ => 0))) 4 (ar 6 (fun _ => 0))) (hset h13 x14 (ar 6 (fun _ => 0))) := hc13.push hx14 _
  generalize e15 : hset h13 x14 (ar 6 (fun _ => 0)) = h15 at hc15 ⊢
  clear e15
  refine v_run 0 (pc' := 46) (ls' := [some (.ref a)]) (st' := [.ref x14, .ref a]) rfl ?_
  refine v_put rfl hc15.1 rfl rfl (Nat.le_of_ble_eq_true rfl) ?_
  rw [show ([.int (zI 0), .int (zI 0), .int (zI 0), .int (zI 0), .int (zI 0), .int (zI 0), .int (zI 0), .int (zI 0), .int (zI 0), .int (zI (-1)), .int (zI 0), .int (zI 0), .ref x2, .ref x5, .ref x8, .ref x11, .null, .null, .null, .null, .null, .null, .null, .null] : List Value).set 16 (.ref x14) = [.int (zI 0), .int (zI 0), .int (zI 0), .int (zI 0), .int (zI 0), .int (zI 0), .int (zI 0), .int (zI 0), .int (zI 0), .int (zI (-1)), .int (zI 0), .int (zI 0), .ref x2, .ref x5, .ref x8, .ref x11, .ref x14, .null, .null, .null, .null, .null, .null, .null] from rfl]
  have hc16 : Ctor h a 9 [.int (zI 0), .int (zI 0), .int (zI 0), .int (zI 0), .int (zI 0), .int (zI 0), .int (zI 0), .int (zI 0), .int (zI 0), .int (zI (-1)), .int (zI 0), .int (zI 0), .ref x2, .ref x5, .ref x8, .ref x11, .ref x14, .null, .null, .null, .null, .null, .null, .null] 5 (upN (upN (upN (upN (upN (fun _ => 0) 0 x2) 1 x5) 2 x8) 3 x11) 4 x14) (upN (upN (upN (upN (upN (fun _ => .inr (0, [])) 0 (ar 6 (fun _ => 0))) 1 (ar 6 (fun _ => 0))) 2 (ar 6 (fun _ => 0))) 3 (ar 6 (fun _ => 0))) 4 (ar 6 (fun _ => 0))) (hset h15 a (.inr (9, [.int (zI 0), .int (zI 0), .int (zI 0), .int (zI 0), .int (zI 0), .int (zI 0), .int (zI 0), .int (zI 0), .int (zI 0), .int (zI (-1)), .int (zI 0), .int (zI 0), .ref x2, .ref x5, .ref x8, .ref x11, .ref x14, .null, .null, .null, .null, .null, .null, .null]))) := hc15.put _
  generalize e16 : hset h15 a (.inr (9, [.int (zI 0), .int (zI 0), .int (zI 0), .int (zI 0), .int (zI 0), .int (zI 0), .int (zI 0), .int (zI 0), .int (zI 0), .int (zI (-1)), .int (zI 0), .int (zI 0), .ref x2, .ref x5, .ref x8, .ref x11, .ref x14, .null, .null, .null, .null, .null, .null, .null])) = h16 at hc16 ⊢
  clear e16
  refine v_run 2 (pc' := 51) (ls' := [some (.ref a)]) (st' := [.int (zI 5), .ref a]) rfl ?_
  refine v_newarr (mc := 6) (ms := 66) (a0 := (5, .inl (fun j => zI ↑((fun _ => 0 : Nat → Nat) j)))) (N' := 5) rfl (fun _ => rfl) (by decide) (by decide) (by decide) ?_
  intro x17 hx17 _
  have hc18 : Ctor h a 9 [.int (zI 0), .int (zI 0), .int (zI 0), .int (zI 0), .int (zI 0), .int (zI 0), .int (zI 0), .int (zI 0), .int (zI 0), .int (zI (-1)), .int (zI 0), .int (zI 0), .ref x2, .ref x5, .ref x8, .ref x11, .ref x14, .null, .null, .null, .null, .null, .null, .null] 6 (upN (upN (upN (upN (upN (upN (fun _ => 0) 0 x2) 1 x5) 2 x8) 3 x11) 4 x14) 5 x17) (upN (upN (upN (upN (upN (upN (fun _ => .inr (0, [])) 0 (ar 6 (fun _ => 0))) 1 (ar 6 (fun _ => 0))) 2 (ar 6 (fun _ => 0))) 3 (ar 6 (fun _ => 0))) 4 (ar 6 (fun _ => 0))) 5 (ar 5 (fun _ => 0))) (hset h16 x17 (ar 5 (fun _ => 0))) := hc16.push hx17 _
  generalize e18 : hset h16 x17 (ar 5 (fun _ => 0)) = h18 at hc18 ⊢
  clear e18
  refine v_run 0 (pc' := 53) (ls' := [some (.ref a)]) (st' := [.ref x17, .ref a]) rfl ?_
  refine v_put rfl hc18.1 rfl rfl (Nat.le_of_ble_eq_true rfl) ?_
  rw [show ([.int (zI 0), .int (zI 0), .int (zI 0), .int (zI 0), .int (zI 0), .int (zI 0), .int (zI 0), .int (zI 0), .int (zI 0), .int (zI (-1)), .int (zI 0), .int (zI 0), .ref x2, .ref x5, .ref x8, .ref x11, .ref x14, .null, .null, .null, .null, .null, .null, .null] : List Value).set 17 (.ref x17) = [.int (zI 0), .int (zI 0), .int (zI 0), .int (zI 0), .int (zI 0), .int (zI 0), .int (zI 0), .int (zI 0), .int (zI 0), .int (zI (-1)), .int (zI 0), .int (zI 0), .ref x2, .ref x5, .ref x8, .ref x11, .ref x14, .ref x17, .null, .null, .null, .null, .null, .null] from rfl]
  have hc19 : Ctor h a 9 [.int (zI 0), .int (zI 0), .int (zI 0), .int (zI 0), .int (zI 0), .int (zI 0), .int (zI 0), .int (zI 0), .int (zI 0), .int (zI (-1)), .int (zI 0), .int (zI 0), .ref x2, .ref x5, .ref x8, .ref x11, .ref x14, .ref x17, .null, .null, .null, .null, .null, .null] 6 (upN (upN (upN (upN (upN (upN (fun _ => 0) 0 x2) 1 x5) 2 x8) 3 x11) 4 x14) 5 x17) (upN (upN (upN (upN (upN (upN (fun _ => .inr (0, [])) 0 (ar 6 (fun _ => 0))) 1 (ar 6 (fun _ => 0))) 2 (ar 6 (fun _ => 0))) 3 (ar 6 (fun _ => 0))) 4 (ar 6 (fun _ => 0))) 5 (ar 5 (fun _ => 0))) (hset h18 a (.inr (9, [.int (zI 0), .int (zI 0), .int (zI 0), .int (zI 0), .int (zI 0), .int (zI 0), .int (zI 0), .int (zI 0), .int (zI 0), .int (zI (-1)), .int (zI 0), .int (zI 0), .ref x2, .ref x5, .ref x8, .ref x11, .ref x14, .ref x17, .null, .null, .null, .null, .null, .null]))) := hc18.put _
  generalize e19 : hset h18 a (.inr (9, [.int (zI 0), .int (zI 0), .int (zI 0), .int (zI 0), .int (zI 0), .int (zI 0), .int (zI 0), .int (zI 0), .int (zI 0), .int (zI (-1)), .int (zI 0), .int (zI 0), .ref x2, .ref x5, .ref x8, .ref x11, .ref x14, .ref x17, .null, .null, .null, .null, .null, .null])) = h19 at hc19 ⊢
  clear e19
  refine v_run 2 (pc' := 58) (ls' := [some (.ref a)]) (st' := [.int (zI 5), .ref a]) rfl ?_
  refine v_newarr (mc := 5) (ms := 61) (a0 := (5, .inl (fun j => zI ↑((fun _ => 0 : Nat → Nat) j)))) (N' := 5) rfl (fun _ => rfl) (by decide) (by decide) (by decide) ?_
  intro x20 hx20 _
  have hc21 : Ctor h a 9 [.int (zI 0), .int (zI 0), .int (zI 0), .int (zI 0), .int (zI 0), .int (zI 0), .int (zI 0), .int (zI 0), .int (zI 0), .int (zI (-1)), .int (zI 0), .int (zI 0), .ref x2, .ref x5, .ref x8, .ref x11, .ref x14, .ref x17, .null, .null, .null, .null, .null, .null] 7 (upN (upN (upN (upN (upN (upN (upN (fun _ => 0) 0 x2) 1 x5) 2 x8) 3 x11) 4 x14) 5 x17) 6 x20) (upN (upN (upN (upN (upN (upN (upN (fun _ => .inr (0, [])) 0 (ar 6 (fun _ => 0))) 1 (ar 6 (fun _ => 0))) 2 (ar 6 (fun _ => 0))) 3 (ar 6 (fun _ => 0))) 4 (ar 6 (fun _ => 0))) 5 (ar 5 (fun _ => 0))) 6 (ar 5 (fun _ => 0))) (hset h19 x20 (ar 5 (fun _ => 0))) := hc19.push hx20 _
  generalize e21 : hset h19 x20 (ar 5 (fun _ => 0)) = h21 at hc21 ⊢
  clear e21
  refine v_run 0 (pc' := 60) (ls' := [some (.ref a)]) (st' := [.ref x20, .ref a]) rfl ?_
  refine v_put rfl hc21.1 rfl rfl (Nat.le_of_ble_eq_true rfl) ?_
  rw [show ([.int (zI 0), .int (zI 0), .int (zI 0), .int (zI 0), .int (zI 0), .int (zI 0), .int (zI 0), .int (zI 0), .int (zI 0), .int (zI (-1)), .int (zI 0), .int (zI 0), .ref x2, .ref x5, .ref x8, .ref x11, .ref x14, .ref x17, .null, .null, .null, .null, .null, .null] : List Value).set 18 (.ref x20) = [.int (zI 0), .int (zI 0), .int (zI 0), .int (zI 0), .int (zI 0), .int (zI 0), .int (zI 0), .int (zI 0), .int (zI 0), .int (zI (-1)), .int (zI 0), .int (zI 0), .ref x2, .ref x5, .ref x8, .ref x11, .ref x14, .ref x17, .ref x20, .null, .null, .null, .null, .null] from rfl]
  have hc22 : Ctor h a 9 [.int (zI 0), .int (zI 0), .int (zI 0), .int (zI 0), .int (zI 0), .int (zI 0), .int (zI 0), .int (zI 0), .int (zI 0), .int (zI (-1)), .int (zI 0), .int (zI 0), .ref x2, .ref x5, .ref x8, .ref x11, .ref x14, .ref x17, .ref x20, .null, .null, .null, .null, .null] 7 (upN (upN (upN (upN (upN (upN (upN (fun _ => 0) 0 x2) 1 x5) 2 x8) 3 x11) 4 x14) 5 x17) 6 x20) (upN (upN (upN (upN (upN (upN (upN (fun _ => .inr (0, [])) 0 (ar 6 (fun _ => 0))) 1 (ar 6 (fun _ => 0))) 2 (ar 6 (fun _ => 0))) 3 (ar 6 (fun _ => 0))) 4 (ar 6 (fun _ => 0))) 5 (ar 5 (fun _ => 0))) 6 (ar 5 (fun _ => 0))) (hset h21 a (.inr (9, [.int (zI 0), .int (zI 0), .int (zI 0), .int (zI 0), .int (zI 0), .int (zI 0), .int (zI 0), .int (zI 0), .int (zI 0), .int (zI (-1)), .int (zI 0), .int (zI 0), .ref x2, .ref x5, .ref x8, .ref x11, .ref x14, .ref x17, .ref x20, .null, .null, .null, .null, .null]))) := hc21.put _
  generalize e22 : hset h21 a (.inr (9, [.int (zI 0), .int (zI 0), .int (zI 0), .int (zI 0), .int (zI 0), .int (zI 0), .int (zI 0), .int (zI 0), .int (zI 0), .int (zI (-1)), .int (zI 0), .int (zI 0), .ref x2, .ref x5, .ref x8, .ref x11, .ref x14, .ref x17, .ref x20, .null, .null, .null, .null, .null])) = h22 at hc22 ⊢
  clear e22
  refine v_run 2 (pc' := 65) (ls' := [some (.ref a)]) (st' := [.int (zI 5), .ref a]) rfl ?_
  refine v_newarr (mc := 4) (ms := 56) (a0 := (5, .inl (fun j => zI ↑((fun _ => 0 : Nat → Nat) j)))) (N' := 5) rfl (fun _ => rfl) (by decide) (by decide) (by decide) ?_
  intro x23 hx23 _
  have hc24 : Ctor h a 9 [.int (zI 0), .int (zI 0), .int (zI 0), .int (zI 0), .int (zI 0), .int (zI 0), .int (zI 0), .int (zI 0), .int (zI 0), .int (zI (-1)), .int (zI 0), .int (zI 0), .ref x2, .ref x5, .ref x8, .ref x11, .ref x14, .ref x17, .ref x20, .null, .null, .null, .null, .null] 8 (upN (upN (upN (upN (upN (upN (upN (upN (fun _ => 0) 0 x2) 1 x5) 2 x8) 3 x11) 4 x14) 5 x17) 6 x20) 7 x23) (upN (upN (upN (upN (upN (upN (upN (upN (fun _ => .inr (0, [])) 0 (ar 6 (fun _ => 0))) 1 (ar 6 (fun _ => 0))) 2 (ar 6 (fun _ => 0))) 3 (ar 6 (fun _ => 0))) 4 (ar 6 (fun _ => 0))) 5 (ar 5 (fun _ => 0))) 6 (ar 5 (fun _ => 0))) 7 (ar 5 (fun _ => 0))) (hset h22 x23 (ar 5 (fun _ => 0))) := hc22.push hx23 _
  generalize e24 : hset h22 x23 (ar 5 (fun _ => 0)) = h24 at hc24 ⊢
  clear e24
  refine v_run 0 (pc' := 67) (ls' := [some (.ref a)]) (st' := [.ref x23, .ref a]) rfl ?_
  refine v_put rfl hc24.1 rfl rfl (Nat.le_of_ble_eq_true rfl) ?_
  rw [show ([.int (zI 0), .int (zI 0), .int (zI 0), .int (zI 0), .int (zI 0), .int (zI 0), .int (zI 0), .int (zI 0), .int (zI 0), .int (zI (-1)), .int (zI 0), .int (zI 0), .ref x2, .ref x5, .ref x8, .ref x11, .ref x14, .ref x17, .ref x20, .null, .null, .null, .null, .null] : List Value).set 19 (.ref x23) = [.int (zI 0), .int (zI 0), .int (zI 0), .int (zI 0), .int (zI 0), .int (zI 0), .int (zI 0), .int (zI 0), .int (zI 0), .int (zI (-1)), .int (zI 0), .int (zI 0), .ref x2, .ref x5, .ref x8, .ref x11, .ref x14, .ref x17, .ref x20, .ref x23, .null, .null, .null, .null] from rfl]
  have hc25 : Ctor h a 9 [.int (zI 0), .int (zI 0), .int (zI 0), .int (zI 0), .int (zI 0), .int (zI 0), .int (zI 0), .int (zI 0), .int (zI 0), .int (zI (-1)), .int (zI 0), .int (zI 0), .ref x2, .ref x5, .ref x8, .ref x11, .ref x14, .ref x17, .ref x20, .ref x23, .null, .null, .null, .null] 8 (upN (upN (upN (upN (upN (upN (upN (upN (fun _ => 0) 0 x2) 1 x5) 2 x8) 3 x11) 4 x14) 5 x17) 6 x20) 7 x23) (upN (upN (upN (upN (upN (upN (upN (upN (fun _ => .inr (0, [])) 0 (ar 6 (fun _ => 0))) 1 (ar 6 (fun _ => 0))) 2 (ar 6 (fun _ => 0))) 3 (ar 6 (fun _ => 0))) 4 (ar 6 (fun _ => 0))) 5 (ar 5 (fun _ => 0))) 6 (ar 5 (fun _ => 0))) 7 (ar 5 (fun _ => 0))) (hset h24 a (.inr (9, [.int (zI 0), .int (zI 0), .int (zI 0), .int (zI 0), .int (zI 0), .int (zI 0), .int (zI 0), .int (zI 0), .int (zI 0), .int (zI (-1)), .int (zI 0), .int (zI 0), .ref x2, .ref x5, .ref x8, .ref x11, .ref x14, .ref x17, .ref x20, .ref x23, .null, .null, .null, .null]))) := hc24.put _
  generalize e25 : hset h24 a (.inr (9, [.int (zI 0), .int (zI 0), .int (zI 0), .int (zI 0), .int (zI 0), .int (zI 0), .int (zI 0), .int (zI 0), .int (zI 0), .int (zI (-1)), .int (zI 0), .int (zI 0), .ref x2, .ref x5, .ref x8, .ref x11, .ref x14, .ref x17, .ref x20, .ref x23, .null, .null, .null, .null])) = h25 at hc25 ⊢
  clear e25
  refine v_run 2 (pc' := 72) (ls' := [some (.ref a)]) (st' := [.int (zI 5), .ref a]) rfl ?_
  refine v_newarr (mc := 3) (ms := 51) (a0 := (5, .inl (fun j => zI ↑((fun _ => 0 : Nat → Nat) j)))) (N' := 5) rfl (fun _ => rfl) (by decide) (by decide) (by decide) ?_
  intro x26 hx26 _
  have hc27 : Ctor h a 9 [.int (zI 0), .int (zI 0), .int (zI 0), .int (zI 0), .int (zI 0), .int (zI 0), .int (zI 0), .int (zI 0), .int (zI 0), .int (zI (-1)), .int (zI 0), .int (zI 0), .ref x2, .ref x5, .ref x8, .ref x11, .ref x14, .ref x17, .ref x20, .ref x23, .null, .null, .null, .null] 9 (upN (upN (upN (upN (upN (upN (upN (upN (upN (fun _ => 0) 0 x2) 1 x5) 2 x8) 3 x11) 4 x14) 5 x17) 6 x20) 7 x23) 8 x26) (upN (upN (upN (upN (upN (upN (upN (upN (upN (fun _ => .inr (0, [])) 0 (ar 6 (fun _ => 0))) 1 (ar 6 (fun _ => 0))) 2 (ar 6 (fun _ => 0))) 3 (ar 6 (fun _ => 0))) 4 (ar 6 (fun _ => 0))) 5 (ar 5 (fun _ => 0))) 6 (ar 5 (fun _ => 0))) 7 (ar 5 (fun _ => 0))) 8 (ar 5 (fun _ => 0))) (hset h25 x26 (ar 5 (fun _ => 0))) := hc25.push hx26 _
  generalize e27 : hset h25 x26 (ar 5 (fun _ => 0)) = h27 at hc27 ⊢
  clear e27
  refine v_run 0 (pc' := 74) (ls' := [some (.ref a)]) (st' := [.ref x26, .ref a]) rfl ?_
  refine v_put rfl hc27.1 rfl rfl (Nat.le_of_ble_eq_true rfl) ?_
  rw [show ([.int (zI 0), .int (zI 0), .int (zI 0), .int (zI 0), .int (zI 0), .int (zI 0), .int (zI 0), .int (zI 0), .int (zI 0), .int (zI (-1)), .int (zI 0), .int (zI 0), .ref x2, .ref x5, .ref x8, .ref x11, .ref x14, .ref x17, .ref x20, .ref x23, .null, .null, .null, .null] : List Value).set 20 (.ref x26) = [.int (zI 0), .int (zI 0), .int (zI 0), .int (zI 0), .int (zI 0), .int (zI 0), .int (zI 0), .int (zI 0), .int (zI 0), .int (zI (-1)), .int (zI 0), .int (zI 0), .ref x2, .ref x5, .ref x8, .ref x11, .ref x14, .ref x17, .ref x20, .ref x23, .ref x26, .null, .null, .null] from rfl]
  have hc28 : Ctor h a 9 [.int (zI 0), .int (zI 0), .int (zI 0), .int (zI 0), .int (zI 0), .int (zI 0), .int (zI 0), .int (zI 0), .int (zI 0), .int (zI (-1)), .int (zI 0), .int (zI 0), .ref x2, .ref x5, .ref x8, .ref x11, .ref x14, .ref x17, .ref x20, .ref x23, .ref x26, .null, .null, .null] 9 (upN (upN (upN (upN (upN (upN (upN (upN (upN (fun _ => 0) 0 x2) 1 x5) 2 x8) 3 x11) 4 x14) 5 x17) 6 x20) 7 x23) 8 x26) (upN (upN (upN (upN (upN (upN (upN (upN (upN (fun _ => .inr (0, [])) 0 (ar 6 (fun _ => 0))) 1 (ar 6 (fun _ => 0))) 2 (ar 6 (fun _ => 0))) 3 (ar 6 (fun _ => 0))) 4 (ar 6 (fun _ => 0))) 5 (ar 5 (fun _ => 0))) 6 (ar 5 (fun _ => 0))) 7 (ar 5 (fun _ => 0))) 8 (ar 5 (fun _ => 0))) (hset h27 a (.inr (9, [.int (zI 0), .int (zI 0), .int (zI 0), .int (zI 0), .int (zI 0), .int (zI 0), .int (zI 0), .int (zI 0), .int (zI 0), .int (zI (-1)), .int (zI 0), .int (zI 0), .ref x2, .ref x5, .ref x8, .ref x11, .ref x14, .ref x17, .ref x20, .ref x23, .ref x26, .null, .null, .null]))) := hc27.put _
  generalize e28 : hset h27 a (.inr (9, [.int (zI 0), .int (zI 0), .int (zI 0), .int (zI 0), .int (zI 0), .int (zI 0), .int (zI 0), .int (zI 0), .int (zI 0), .int (zI (-1)), .int (zI 0), .int (zI 0), .ref x2, .ref x5, .ref x8, .ref x11, .ref x14, .ref x17, .ref x20, .ref x23, .ref x26, .null, .null, .null])) = h28 at hc28 ⊢
  clear e28
  refine v_run 2 (pc' := 80) (ls' := [some (.ref a)]) (st' := [.int (zI 17), .ref a]) rfl ?_
  refine v_newarr (mc := 2) (ms := 34) (a0 := (17, .inr (.inl (fun j => zL ↑((fun _ => 0 : Nat → Nat) j))))) (N' := 17) rfl (fun _ => rfl) (by decide) (by decide) (by decide) ?_
  intro x29 hx29 _
  have hc30 : Ctor h a 9 [.int (zI 0), .int (zI 0), .int (zI 0), .int (zI 0), .int (zI 0), .int (zI 0), .int (zI 0), .int (zI 0), .int (zI 0), .int (zI (-1)), .int (zI 0), .int (zI 0), .ref x2, .ref x5, .ref x8, .ref x11, .ref x14, .ref x17, .ref x20, .ref x23, .ref x26, .null, .null, .null] 10 (upN (upN (upN (upN (upN (upN (upN (upN (upN (upN (fun _ => 0) 0 x2) 1 x5) 2 x8) 3 x11) 4 x14) 5 x17) 6 x20) 7 x23) 8 x26) 9 x29) (upN (upN (upN (upN (upN (upN (upN (upN (upN (upN (fun _ => .inr (0, [])) 0 (ar 6 (fun _ => 0))) 1 (ar 6 (fun _ => 0))) 2 (ar 6 (fun _ => 0))) 3 (ar 6 (fun _ => 0))) 4 (ar 6 (fun _ => 0))) 5 (ar 5 (fun _ => 0))) 6 (ar 5 (fun _ => 0))) 7 (ar 5 (fun _ => 0))) 8 (ar 5 (fun _ => 0))) 9 (arL 17 (fun _ => 0))) (hset h28 x29 (arL 17 (fun _ => 0))) := hc28.push hx29 _
  generalize e30 : hset h28 x29 (arL 17 (fun _ => 0)) = h30 at hc30 ⊢
  clear e30
  refine v_run 0 (pc' := 82) (ls' := [some (.ref a)]) (st' := [.ref x29, .ref a]) rfl ?_
  refine v_put rfl hc30.1 rfl rfl (Nat.le_of_ble_eq_true rfl) ?_
  rw [show ([.int (zI 0), .int (zI 0), .int (zI 0), .int (zI 0), .int (zI 0), .int (zI 0), .int (zI 0), .int (zI 0), .int (zI 0), .int (zI (-1)), .int (zI 0), .int (zI 0), .ref x2, .ref x5, .ref x8, .ref x11, .ref x14, .ref x17, .ref x20, .ref x23, .ref x26, .null, .null, .null] : List Value).set 21 (.ref x29) = [.int (zI 0), .int (zI 0), .int (zI 0), .int (zI 0), .int (zI 0), .int (zI 0), .int (zI 0), .int (zI 0), .int (zI 0), .int (zI (-1)), .int (zI 0), .int (zI 0), .ref x2, .ref x5, .ref x8, .ref x11, .ref x14, .ref x17, .ref x20, .ref x23, .ref x26, .ref x29, .null, .null] from rfl]
  have hc31 : Ctor h a 9 [.int (zI 0), .int (zI 0), .int (zI 0), .int (zI 0), .int (zI 0), .int (zI 0), .int (zI 0), .int (zI 0), .int (zI 0), .int (zI (-1)), .int (zI 0), .int (zI 0), .ref x2, .ref x5, .ref x8, .ref x11, .ref x14, .ref x17, .ref x20, .ref x23, .ref x26, .ref x29, .null, .null] 10 (upN (upN (upN (upN (upN (upN (upN (upN (upN (upN (fun _ => 0) 0 x2) 1 x5) 2 x8) 3 x11) 4 x14) 5 x17) 6 x20) 7 x23) 8 x26) 9 x29) (upN (upN (upN (upN (upN (upN (upN (upN (upN (upN (fun _ => .inr (0, [])) 0 (ar 6 (fun _ => 0))) 1 (ar 6 (fun _ => 0))) 2 (ar 6 (fun _ => 0))) 3 (ar 6 (fun _ => 0))) 4 (ar 6 (fun _ => 0))) 5 (ar 5 (fun _ => 0))) 6 (ar 5 (fun _ => 0))) 7 (ar 5 (fun _ => 0))) 8 (ar 5 (fun _ => 0))) 9 (arL 17 (fun _ => 0))) (hset h30 a (.inr (9, [.int (zI 0), .int (zI 0), .int (zI 0), .int (zI 0), .int (zI 0), .int (zI 0), .int (zI 0), .int (zI 0), .int (zI 0), .int (zI (-1)), .int (zI 0), .int (zI 0), .ref x2, .ref x5, .ref x8, .ref x11, .ref x14, .ref x17, .ref x20, .ref x23, .ref x26, .ref x29, .null, .null]))) := hc30.put _
  generalize e31 : hset h30 a (.inr (9, [.int (zI 0), .int (zI 0), .int (zI 0), .int (zI 0), .int (zI 0), .int (zI 0), .int (zI 0), .int (zI 0), .int (zI 0), .int (zI (-1)), .int (zI 0), .int (zI 0), .ref x2, .ref x5, .ref x8, .ref x11, .ref x14, .ref x17, .ref x20, .ref x23, .ref x26, .ref x29, .null, .null])) = h31 at hc31 ⊢
  clear e31
  refine v_run 2 (pc' := 88) (ls' := [some (.ref a)]) (st' := [.int (zI 17), .ref a]) rfl ?_
  refine v_newarr (mc := 1) (ms := 17) (a0 := (17, .inl (fun j => zI ↑((fun _ => 0 : Nat → Nat) j)))) (N' := 17) rfl (fun _ => rfl) (by decide) (by decide) (by decide) ?_
  intro x32 hx32 _
  have hc33 : Ctor h a 9 [.int (zI 0), .int (zI 0), .int (zI 0), .int (zI 0), .int (zI 0), .int (zI 0), .int (zI 0), .int (zI 0), .int (zI 0), .int (zI (-1)), .int (zI 0), .int (zI 0), .ref x2, .ref x5, .ref x8, .ref x11, .ref x14, .ref x17, .ref x20, .ref x23, .ref x26, .ref x29, .null, .null] 11 (upN (upN (upN (upN (upN (upN (upN (upN (upN (upN (upN (fun _ => 0) 0 x2) 1 x5) 2 x8) 3 x11) 4 x14) 5 x17) 6 x20) 7 x23) 8 x26) 9 x29) 10 x32) (upN (upN (upN (upN (upN (upN (upN (upN (upN (upN (upN (fun _ => .inr (0, [])) 0 (ar 6 (fun _ => 0))) 1 (ar 6 (fun _ => 0))) 2 (ar 6 (fun _ => 0))) 3 (ar 6 (fun _ => 0))) 4 (ar 6 (fun _ => 0))) 5 (ar 5 (fun _ => 0))) 6 (ar 5 (fun _ => 0))) 7 (ar 5 (fun _ => 0))) 8 (ar 5 (fun _ => 0))) 9 (arL 17 (fun _ => 0))) 10 (ar 17 (fun _ => 0))) (hset h31 x32 (ar 17 (fun _ => 0))) := hc31.push hx32 _
  generalize e33 : hset h31 x32 (ar 17 (fun _ => 0)) = h33 at hc33 ⊢
  clear e33
  refine v_run 0 (pc' := 90) (ls' := [some (.ref a)]) (st' := [.ref x32, .ref a]) rfl ?_
  refine v_put rfl hc33.1 rfl rfl (Nat.le_of_ble_eq_true rfl) ?_
  rw [show ([.int (zI 0), .int (zI 0), .int (zI 0), .int (zI 0), .int (zI 0), .int (zI 0), .int (zI 0), .int (zI 0), .int (zI 0), .int (zI (-1)), .int (zI 0), .int (zI 0), .ref x2, .ref x5, .ref x8, .ref x11, .ref x14, .ref x17, .ref x20, .ref x23, .ref x26, .ref x29, .null, .null] : List Value).set 22 (.ref x32) = [.int (zI 0), .int (zI 0), .int (zI 0), .int (zI 0), .int (zI 0), .int (zI 0), .int (zI 0), .int (zI 0), .int (zI 0), .int (zI (-1)), .int (zI 0), .int (zI 0), .ref x2, .ref x5, .ref x8, .ref x11, .ref x14, .ref x17, .ref x20, .ref x23, .ref x26, .ref x29, .ref x32, .null] from rfl]
  have hc34 : Ctor h a 9 [.int (zI 0), .int (zI 0), .int (zI 0), .int (zI 0), .int (zI 0), .int (zI 0), .int (zI 0), .int (zI 0), .int (zI 0), .int (zI (-1)), .int (zI 0), .int (zI 0), .ref x2, .ref x5, .ref x8, .ref x11, .ref x14, .ref x17, .ref x20, .ref x23, .ref x26, .ref x29, .ref x32, .null] 11 (upN (upN (upN (upN (upN (upN (upN (upN (upN (upN (upN (fun _ => 0) 0 x2) 1 x5) 2 x8) 3 x11) 4 x14) 5 x17) 6 x20) 7 x23) 8 x26) 9 x29) 10 x32) (upN (upN (upN (upN (upN (upN (upN (upN (upN (upN (upN (fun _ => .inr (0, [])) 0 (ar 6 (fun _ => 0))) 1 (ar 6 (fun _ => 0))) 2 (ar 6 (fun _ => 0))) 3 (ar 6 (fun _ => 0))) 4 (ar 6 (fun _ => 0))) 5 (ar 5 (fun _ => 0))) 6 (ar 5 (fun _ => 0))) 7 (ar 5 (fun _ => 0))) 8 (ar 5 (fun _ => 0))) 9 (arL 17 (fun _ => 0))) 10 (ar 17 (fun _ => 0))) (hset h33 a (.inr (9, [.int (zI 0), .int (zI 0), .int (zI 0), .int (zI 0), .int (zI 0), .int (zI 0), .int (zI 0), .int (zI 0), .int (zI 0), .int (zI (-1)), .int (zI 0), .int (zI 0), .ref x2, .ref x5, .ref x8, .ref x11, .ref x14, .ref x17, .ref x20, .ref x23, .ref x26, .ref x29, .ref x32, .null]))) := hc33.put _
  generalize e34 : hset h33 a (.inr (9, [.int (zI 0), .int (zI 0), .int (zI 0), .int (zI 0), .int (zI 0), .int (zI 0), .int (zI 0), .int (zI 0), .int (zI 0), .int (zI (-1)), .int (zI 0), .int (zI 0), .ref x2, .ref x5, .ref x8, .ref x11, .ref x14, .ref x17, .ref x20, .ref x23, .ref x26, .ref x29, .ref x32, .null])) = h34 at hc34 ⊢
  clear e34
  refine v_run 2 (pc' := 96) (ls' := [some (.ref a)]) (st' := [.int (zI 17), .ref a]) rfl ?_
  refine v_newarr (mc := 0) (ms := 0) (a0 := (17, .inl (fun j => zI ↑((fun _ => 0 : Nat → Nat) j)))) (N' := 17) rfl (fun _ => rfl) (by decide) (by decide) (by decide) ?_
  intro x35 hx35 _
  have hc36 : Ctor h a 9 [.int (zI 0), .int (zI 0), .int (zI 0), .int (zI 0), .int (zI 0), .int (zI 0), .int (zI 0), .int (zI 0), .int (zI 0), .int (zI (-1)), .int (zI 0), .int (zI 0), .ref x2, .ref x5, .ref x8, .ref x11, .ref x14, .ref x17, .ref x20, .ref x23, .ref x26, .ref x29, .ref x32, .null] 12 (upN (upN (upN (upN (upN (upN (upN (upN (upN (upN (upN (upN (fun _ => 0) 0 x2) 1 x5) 2 x8) 3 x11) 4 x14) 5 x17) 6 x20) 7 x23) 8 x26) 9 x29) 10 x32) 11 x35) (upN (upN (upN (upN (upN (upN (upN (upN (upN (upN (upN (upN (fun _ => .inr (0, [])) 0 (ar 6 (fun _ => 0))) 1 (ar 6 (fun _ => 0))) 2 (ar 6 (fun _ => 0))) 3 (ar 6 (fun _ => 0))) 4 (ar 6 (fun _ => 0))) 5 (ar 5 (fun _ => 0))) 6 (ar 5 (fun _ => 0))) 7 (ar 5 (fun _ => 0))) 8 (ar 5 (fun _ => 0))) 9 (arL 17 (fun _ => 0))) 10 (ar 17 (fun _ => 0))) 11 (ar 17 (fun _ => 0))) (hset h34 x35 (ar 17 (fun _ => 0))) := hc34.push hx35 _
  generalize e36 : hset h34 x35 (ar 17 (fun _ => 0)) = h36 at hc36 ⊢
  clear e36
  refine v_run 0 (pc' := 98) (ls' := [some (.ref a)]) (st' := [.ref x35, .ref a]) rfl ?_
  refine v_put rfl hc36.1 rfl rfl (Nat.le_of_ble_eq_true rfl) ?_
  rw [show ([.int (zI 0), .int (zI 0), .int (zI 0), .int (zI 0), .int (zI 0), .int (zI 0), .int (zI 0), .int (zI 0), .int (zI 0), .int (zI (-1)), .int (zI 0), .int (zI 0), .ref x2, .ref x5, .ref x8, .ref x11, .ref x14, .ref x17, .ref x20, .ref x23, .ref x26, .ref x29, .ref x32, .null] : List Value).set 23 (.ref x35) = [.int (zI 0), .int (zI 0), .int (zI 0), .int (zI 0), .int (zI 0), .int (zI 0), .int (zI 0), .int (zI 0), .int (zI 0), .int (zI (-1)), .int (zI 0), .int (zI 0), .ref x2, .ref x5, .ref x8, .ref x11, .ref x14, .ref x17, .ref x20, .ref x23, .ref x26, .ref x29, .ref x32, .ref x35] from rfl]
  have hc37 : Ctor h a 9 [.int (zI 0), .int (zI 0), .int (zI 0), .int (zI 0), .int (zI 0), .int (zI 0), .int (zI 0), .int (zI 0), .int (zI 0), .int (zI (-1)), .int (zI 0), .int (zI 0), .ref x2, .ref x5, .ref x8, .ref x11, .ref x14, .ref x17, .ref x20, .ref x23, .ref x26, .ref x29, .ref x32, .ref x35] 12 (upN (upN (upN (upN (upN (upN (upN (upN (upN (upN (upN (upN (fun _ => 0) 0 x2) 1 x5) 2 x8) 3 x11) 4 x14) 5 x17) 6 x20) 7 x23) 8 x26) 9 x29) 10 x32) 11 x35) (upN (upN (upN (upN (upN (upN (upN (upN (upN (upN (upN (upN (fun _ => .inr (0, [])) 0 (ar 6 (fun _ => 0))) 1 (ar 6 (fun _ => 0))) 2 (ar 6 (fun _ => 0))) 3 (ar 6 (fun _ => 0))) 4 (ar 6 (fun _ => 0))) 5 (ar 5 (fun _ => 0))) 6 (ar 5 (fun _ => 0))) 7 (ar 5 (fun _ => 0))) 8 (ar 5 (fun _ => 0))) 9 (arL 17 (fun _ => 0))) 10 (ar 17 (fun _ => 0))) 11 (ar 17 (fun _ => 0))) (hset h36 a (.inr (9, [.int (zI 0), .int (zI 0), .int (zI 0), .int (zI 0), .int (zI 0), .int (zI 0), .int (zI 0), .int (zI 0), .int (zI 0), .int (zI (-1)), .int (zI 0), .int (zI 0), .ref x2, .ref x5, .ref x8, .ref x11, .ref x14, .ref x17, .ref x20, .ref x23, .ref x26, .ref x29, .ref x32, .ref x35]))) := hc36.put _
  generalize e37 : hset h36 a (.inr (9, [.int (zI 0), .int (zI 0), .int (zI 0), .int (zI 0), .int (zI 0), .int (zI 0), .int (zI 0), .int (zI 0), .int (zI 0), .int (zI (-1)), .int (zI 0), .int (zI 0), .ref x2, .ref x5, .ref x8, .ref x11, .ref x14, .ref x17, .ref x20, .ref x23, .ref x26, .ref x29, .ref x32, .ref x35])) = h37 at hc37 ⊢
  clear e37
  refine v_run 0 (pc' := 101) (ls' := [some (.ref a)]) (st' := []) rfl ?_
  exact v_vret rfl rfl ⟨rfl, (upN (upN (upN (upN (upN (upN (upN (upN (upN (upN (upN (upN (fun _ => 0) 0 x2) 1 x5) 2 x8) 3 x11) 4 x14) 5 x17) 6 x20) 7 x23) 8 x26) 9 x29) 10 x32) 11 x35), hc37⟩

