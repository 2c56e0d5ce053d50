theorem cLoss_le {heat air kd dy n : Nat} (hh : heat ≤ 9) : cLoss heat air kd dy n ≤ 9 * n + 1 := by
  unfold cLoss
  split
  · split <;> omega
  · have h1 : (if kd = 2 then max 1 (heat - air) / 2 else max 1 (heat - air)) ≤ 9 := by split <;> omega
    have := Nat.mul_le_mul_left n h1
    omega
theorem mn_z {a b : Nat} (ha : a < 2147483648) (hb : b < 2147483648) : (if zI ↑b < zI ↑a then zI ↑b else zI ↑a : Int32) = zI ↑(min a b) := by
  split
  · rename_i c
    rw [zI_lt (by omega) (by omega) (by omega) (by omega)] at c
    congr 1; omega
  · rename_i c
    rw [zI_lt (by omega) (by omega) (by omega) (by omega)] at c
    congr 1; omega
theorem popN_le (m : Nat) : popN m ≤ 6 := sumN_le (c := 1) (fun k => bitN_le m k) 6
def cGood (heat air kd dy left : Nat) : Nat := fstN (fun n => decide (left ≤ cLoss heat air kd dy n)) 99 0
/-- how long a quorum lasts, by the days of each -/
def cQD (E : Nat → Nat) (sc qr : Nat) : Nat → Nat
  | 0 => 0
  | s + 1 => if qr ≤ popN (setN (fun t => decide ((↑(E s) - 1 : Int) < ↑(E t))) sc) ∧ cQD E sc qr s < E s then E s else cQD E sc qr s
theorem cQD_le {E : Nat → Nat} (hE : ∀ k, E k ≤ 99) (sc qr : Nat) : ∀ s, cQD E sc qr s ≤ 99
  | 0 => by simp [cQD]
  | s + 1 => by
    have := cQD_le hE sc qr s
    have := hE s
    simp only [cQD]; split <;> assumption
theorem cQD_t (E : Nat → Nat) (sc qr s : Nat) (h1 : qr ≤ popN (setN (fun t => decide ((↑(E s) - 1 : Int) < ↑(E t))) sc)) (h2 : cQD E sc qr s < E s) : cQD E sc qr (s + 1) = E s := by simp only [cQD]; rw [if_pos ⟨h1, h2⟩]
theorem cQD_f (E : Nat → Nat) (sc qr s : Nat) (h1 : ¬ (qr ≤ popN (setN (fun t => decide ((↑(E s) - 1 : Int) < ↑(E t))) sc) ∧ cQD E sc qr s < E s)) : cQD E sc qr (s + 1) = cQD E sc qr s := by simp only [cQD]; rw [if_neg h1]
set_option maxRecDepth 100000 in
set_option maxHeartbeats 400000 in
theorem k_bitCount (G : ssG) (h : ssH) (m : Nat) (hm : m < 64) : ssC G mJ6_bitCount_0f7a4 0 0 0 [.int (zI ↑m)] h (rI (zI ↑(popN m)) h) := by
  refine c_of_v okJ6_bitCount_0f7a4 (by decide +kernel) (ls := [some (.int (zI ↑m))]) rfl (Nat.le_of_ble_eq_true rfl) ?_
  refine v_run 41 (pc' := 52) (ls' := [some (.int ((((((((zI ↑m) - ((((zI ↑m).toUInt32 >>> ((zI 1).toUInt32 &&& Int32.toUInt32 31)).toInt32) &&& (zI 1431655765))) &&& (zI 858993459)) + (((((zI ↑m) - ((((zI ↑m).toUInt32 >>> ((zI 1).toUInt32 &&& Int32.toUInt32 31)).toInt32) &&& (zI 1431655765))).toUInt32 >>> ((zI 2).toUInt32 &&& Int32.toUInt32 31)).toInt32) &&& (zI 858993459))) + ((((((zI ↑m) - ((((zI ↑m).toUInt32 >>> ((zI 1).toUInt32 &&& Int32.toUInt32 31)).toInt32) &&& (zI 1431655765))) &&& (zI 858993459)) + (((((zI ↑m) - ((((zI ↑m).toUInt32 >>> ((zI 1).toUInt32 &&& Int32.toUInt32 31)).toInt32) &&& (zI 1431655765))).toUInt32 >>> ((zI 2).toUInt32 &&& Int32.toUInt32 31)).toInt32) &&& (zI 858993459))).toUInt32 >>> ((zI 4).toUInt32 &&& Int32.toUInt32 31)).toInt32)) &&& (zI 252645135)) + ((((((((zI ↑m) - ((((zI ↑m).toUInt32 >>> ((zI 1).toUInt32 &&& Int32.toUInt32 31)).toInt32) &&& (zI 1431655765))) &&& (zI 858993459)) + (((((zI ↑m) - ((((zI ↑m).toUInt32 >>> ((zI 1).toUInt32 &&& Int32.toUInt32 31)).toInt32) &&& (zI 1431655765))).toUInt32 >>> ((zI 2).toUInt32 &&& Int32.toUInt32 31)).toInt32) &&& (zI 858993459))) + ((((((zI ↑m) - ((((zI ↑m).toUInt32 >>> ((zI 1).toUInt32 &&& Int32.toUInt32 31)).toInt32) &&& (zI 1431655765))) &&& (zI 858993459)) + (((((zI ↑m) - ((((zI ↑m).toUInt32 >>> ((zI 1).toUInt32 &&& Int32.toUInt32 31)).toInt32) &&& (zI 1431655765))).toUInt32 >>> ((zI 2).toUInt32 &&& Int32.toUInt32 31)).toInt32) &&& (zI 858993459))).toUInt32 >>> ((zI 4).toUInt32 &&& Int32.toUInt32 31)).toInt32)) &&& (zI 252645135)).toUInt32 >>> ((zI 8).toUInt32 &&& Int32.toUInt32 31)).toInt32)) + (((((((((zI ↑m) - ((((zI ↑m).toUInt32 >>> ((zI 1).toUInt32 &&& Int32.toUInt32 31)).toInt32) &&& (zI 1431655765))) &&& (zI 858993459)) + (((((zI ↑m) - ((((zI ↑m).toUInt32 >>> ((zI 1).toUInt32 &&& Int32.toUInt32 31)).toInt32) &&& (zI 1431655765))).toUInt32 >>> ((zI 2).toUInt32 &&& Int32.toUInt32 31)).toInt32) &&& (zI 858993459))) + ((((((zI ↑m) - ((((zI ↑m).toUInt32 >>> ((zI 1).toUInt32 &&& Int32.toUInt32 31)).toInt32) &&& (zI 1431655765))) &&& (zI 858993459)) + (((((zI ↑m) - ((((zI ↑m).toUInt32 >>> ((zI 1).toUInt32 &&& Int32.toUInt32 31)).toInt32) &&& (zI 1431655765))).toUInt32 >>> ((zI 2).toUInt32 &&& Int32.toUInt32 31)).toInt32) &&& (zI 858993459))).toUInt32 >>> ((zI 4).toUInt32 &&& Int32.toUInt32 31)).toInt32)) &&& (zI 252645135)) + ((((((((zI ↑m) - ((((zI ↑m).toUInt32 >>> ((zI 1).toUInt32 &&& Int32.toUInt32 31)).toInt32) &&& (zI 1431655765))) &&& (zI 858993459)) + (((((zI ↑m) - ((((zI ↑m).toUInt32 >>> ((zI 1).toUInt32 &&& Int32.toUInt32 31)).toInt32) &&& (zI 1431655765))).toUInt32 >>> ((zI 2).toUInt32 &&& Int32.toUInt32 31)).toInt32) &&& (zI 858993459))) + ((((((zI ↑m) - ((((zI ↑m).toUInt32 >>> ((zI 1).toUInt32 &&& Int32.toUInt32 31)).toInt32) &&& (zI 1431655765))) &&& (zI 858993459)) + (((((zI ↑m) - ((((zI ↑m).toUInt32 >>> ((zI 1).toUInt32 &&& Int32.toUInt32 31)).toInt32) &&& (zI 1431655765))).toUInt32 >>> ((zI 2).toUInt32 &&& Int32.toUInt32 31)).toInt32) &&& (zI 858993459))).toUInt32 >>> ((zI 4).toUInt32 &&& Int32.toUInt32 31)).toInt32)) &&& (zI 252645135)).toUInt32 >>> ((zI 8).toUInt32 &&& Int32.toUInt32 31)).toInt32)).toUInt32 >>> ((zI 16).toUInt32 &&& Int32.toUInt32 31)).toInt32)))]) (st' := [.int (((((((((zI ↑m) - ((((zI ↑m).toUInt32 >>> ((zI 1).toUInt32 &&& Int32.toUInt32 31)).toInt32) &&& (zI 1431655765))) &&& (zI 858993459)) + (((((zI ↑m) - ((((zI ↑m).toUInt32 >>> ((zI 1).toUInt32 &&& Int32.toUInt32 31)).toInt32) &&& (zI 1431655765))).toUInt32 >>> ((zI 2).toUInt32 &&& Int32.toUInt32 31)).toInt32) &&& (zI 858993459))) + ((((((zI ↑m) - ((((zI ↑m).toUInt32 >>> ((zI 1).toUInt32 &&& Int32.toUInt32 31)).toInt32) &&& (zI 1431655765))) &&& (zI 858993459)) + (((((zI ↑m) - ((((zI ↑m).toUInt32 >>> ((zI 1).toUInt32 &&& Int32.toUInt32 31)).toInt32) &&& (zI 1431655765))).toUInt32 >>> ((zI 2).toUInt32 &&& Int32.toUInt32 31)).toInt32) &&& (zI 858993459))).toUInt32 >>> ((zI 4).toUInt32 &&& Int32.toUInt32 31)).toInt32)) &&& (zI 252645135)) + ((((((((zI ↑m) - ((((zI ↑m).toUInt32 >>> ((zI 1).toUInt32 &&& Int32.toUInt32 31)).toInt32) &&& (zI 1431655765))) &&& (zI 858993459)) + (((((zI ↑m) - ((((zI ↑m).toUInt32 >>> ((zI 1).toUInt32 &&& Int32.toUInt32 31)).toInt32) &&& (zI 1431655765))).toUInt32 >>> ((zI 2).toUInt32 &&& Int32.toUInt32 31)).toInt32) &&& (zI 858993459))) + ((((((zI ↑m) - ((((zI ↑m).toUInt32 >>> ((zI 1).toUInt32 &&& Int32.toUInt32 31)).toInt32) &&& (zI 1431655765))) &&& (zI 858993459)) + (((((zI ↑m) - ((((zI ↑m).toUInt32 >>> ((zI 1).toUInt32 &&& Int32.toUInt32 31)).toInt32) &&& (zI 1431655765))).toUInt32 >>> ((zI 2).toUInt32 &&& Int32.toUInt32 31)).toInt32) &&& (zI 858993459))).toUInt32 >>> ((zI 4).toUInt32 &&& Int32.toUInt32 31)).toInt32)) &&& (zI 252645135)).toUInt32 >>> ((zI 8).toUInt32 &&& Int32.toUInt32 31)).toInt32)) + (((((((((zI ↑m) - ((((zI ↑m).toUInt32 >>> ((zI 1).toUInt32 &&& Int32.toUInt32 31)).toInt32) &&& (zI 1431655765))) &&& (zI 858993459)) + (((((zI ↑m) - ((((zI ↑m).toUInt32 >>> ((zI 1).toUInt32 &&& Int32.toUInt32 31)).toInt32) &&& (zI 1431655765))).toUInt32 >>> ((zI 2).toUInt32 &&& Int32.toUInt32 31)).toInt32) &&& (zI 858993459))) + ((((((zI ↑m) - ((((zI ↑m).toUInt32 >>> ((zI 1).toUInt32 &&& Int32.toUInt32 31)).toInt32) &&& (zI 1431655765))) &&& (zI 858993459)) + (((((zI ↑m) - ((((zI ↑m).toUInt32 >>> ((zI 1).toUInt32 &&& Int32.toUInt32 31)).toInt32) &&& (zI 1431655765))).toUInt32 >>> ((zI 2).toUInt32 &&& Int32.toUInt32 31)).toInt32) &&& (zI 858993459))).toUInt32 >>> ((zI 4).toUInt32 &&& Int32.toUInt32 31)).toInt32)) &&& (zI 252645135)) + ((((((((zI ↑m) - ((((zI ↑m).toUInt32 >>> ((zI 1).toUInt32 &&& Int32.toUInt32 31)).toInt32) &&& (zI 1431655765))) &&& (zI 858993459)) + (((((zI ↑m) - ((((zI ↑m).toUInt32 >>> ((zI 1).toUInt32 &&& Int32.toUInt32 31)).toInt32) &&& (zI 1431655765))).toUInt32 >>> ((zI 2).toUInt32 &&& Int32.toUInt32 31)).toInt32) &&& (zI 858993459))) + ((((((zI ↑m) - ((((zI ↑m).toUInt32 >>> ((zI 1).toUInt32 &&& Int32.toUInt32 31)).toInt32) &&& (zI 1431655765))) &&& (zI 858993459)) + (((((zI ↑m) - ((((zI ↑m).toUInt32 >>> ((zI 1).toUInt32 &&& Int32.toUInt32 31)).toInt32) &&& (zI 1431655765))).toUInt32 >>> ((zI 2).toUInt32 &&& Int32.toUInt32 31)).toInt32) &&& (zI 858993459))).toUInt32 >>> ((zI 4).toUInt32 &&& Int32.toUInt32 31)).toInt32)) &&& (zI 252645135)).toUInt32 >>> ((zI 8).toUInt32 &&& Int32.toUInt32 31)).toInt32)).toUInt32 >>> ((zI 16).toUInt32 &&& Int32.toUInt32 31)).toInt32)) &&& (zI 63))]) rfl ?_
  exact v_iret rfl rfl rfl ⟨congrArg (fun x => some (Value.int x)) (zI_pop hm (fun (x : Int32) => (((((((((x) - ((((x).toUInt32 >>> ((zI 1).toUInt32 &&& Int32.toUInt32 31)).toInt32) &&& (zI 1431655765))) &&& (zI 858993459)) + (((((x) - ((((x).toUInt32 >>> ((zI 1).toUInt32 &&& Int32.toUInt32 31)).toInt32) &&& (zI 1431655765))).toUInt32 >>> ((zI 2).toUInt32 &&& Int32.toUInt32 31)).toInt32) &&& (zI 858993459))) + ((((((x) - ((((x).toUInt32 >>> ((zI 1).toUInt32 &&& Int32.toUInt32 31)).toInt32) &&& (zI 1431655765))) &&& (zI 858993459)) + (((((x) - ((((x).toUInt32 >>> ((zI 1).toUInt32 &&& Int32.toUInt32 31)).toInt32) &&& (zI 1431655765))).toUInt32 >>> ((zI 2).toUInt32 &&& Int32.toUInt32 31)).toInt32) &&& (zI 858993459))).toUInt32 >>> ((zI 4).toUInt32 &&& Int32.toUInt32 31)).toInt32)) &&& (zI 252645135)) + ((((((((x) - ((((x).toUInt32 >>> ((zI 1).toUInt32 &&& Int32.toUInt32 31)).toInt32) &&& (zI 1431655765))) &&& (zI 858993459)) + (((((x) - ((((x).toUInt32 >>> ((zI 1).toUInt32 &&& Int32.toUInt32 31)).toInt32) &&& (zI 1431655765))).toUInt32 >>> ((zI 2).toUInt32 &&& Int32.toUInt32 31)).toInt32) &&& (zI 858993459))) + ((((((x) - ((((x).toUInt32 >>> ((zI 1).toUInt32 &&& Int32.toUInt32 31)).toInt32) &&& (zI 1431655765))) &&& (zI 858993459)) + (((((x) - ((((x).toUInt32 >>> ((zI 1).toUInt32 &&& Int32.toUInt32 31)).toInt32) &&& (zI 1431655765))).toUInt32 >>> ((zI 2).toUInt32 &&& Int32.toUInt32 31)).toInt32) &&& (zI 858993459))).toUInt32 >>> ((zI 4).toUInt32 &&& Int32.toUInt32 31)).toInt32)) &&& (zI 252645135)).toUInt32 >>> ((zI 8).toUInt32 &&& Int32.toUInt32 31)).toInt32)) + (((((((((x) - ((((x).toUInt32 >>> ((zI 1).toUInt32 &&& Int32.toUInt32 31)).toInt32) &&& (zI 1431655765))) &&& (zI 858993459)) + (((((x) - ((((x).toUInt32 >>> ((zI 1).toUInt32 &&& Int32.toUInt32 31)).toInt32) &&& (zI 1431655765))).toUInt32 >>> ((zI 2).toUInt32 &&& Int32.toUInt32 31)).toInt32) &&& (zI 858993459))) + ((((((x) - ((((x).toUInt32 >>> ((zI 1).toUInt32 &&& Int32.toUInt32 31)).toInt32) &&& (zI 1431655765))) &&& (zI 858993459)) + (((((x) - ((((x).toUInt32 >>> ((zI 1).toUInt32 &&& Int32.toUInt32 31)).toInt32) &&& (zI 1431655765))).toUInt32 >>> ((zI 2).toUInt32 &&& Int32.toUInt32 31)).toInt32) &&& (zI 858993459))).toUInt32 >>> ((zI 4).toUInt32 &&& Int32.toUInt32 31)).toInt32)) &&& (zI 252645135)) + ((((((((x) - ((((x).toUInt32 >>> ((zI 1).toUInt32 &&& Int32.toUInt32 31)).toInt32) &&& (zI 1431655765))) &&& (zI 858993459)) + (((((x) - ((((x).toUInt32 >>> ((zI 1).toUInt32 &&& Int32.toUInt32 31)).toInt32) &&& (zI 1431655765))).toUInt32 >>> ((zI 2).toUInt32 &&& Int32.toUInt32 31)).toInt32) &&& (zI 858993459))) + ((((((x) - ((((x).toUInt32 >>> ((zI 1).toUInt32 &&& Int32.toUInt32 31)).toInt32) &&& (zI 1431655765))) &&& (zI 858993459)) + (((((x) - ((((x).toUInt32 >>> ((zI 1).toUInt32 &&& Int32.toUInt32 31)).toInt32) &&& (zI 1431655765))).toUInt32 >>> ((zI 2).toUInt32 &&& Int32.toUInt32 31)).toInt32) &&& (zI 858993459))).toUInt32 >>> ((zI 4).toUInt32 &&& Int32.toUInt32 31)).toInt32)) &&& (zI 252645135)).toUInt32 >>> ((zI 8).toUInt32 &&& Int32.toUInt32 31)).toInt32)).toUInt32 >>> ((zI 16).toUInt32 &&& Int32.toUInt32 31)).toInt32)) &&& (zI 63))) (by decide +kernel)), rfl⟩

set_option maxRecDepth 100000 in
set_option maxHeartbeats 400000 in
theorem k_lossBehind (G : ssG) (h : ssH) {p : Nat} {i R : Nat → Nat} {d : Int} {A : Nat → Nat → Nat} {q : Nat} {j S : Nat → Nat} {B : Nat → Nat → Nat} (s n : Nat) (hp : PlanAt h p i R d A) (hi : PlanOk i A) (hq : MomAt h q j S B) (hj : MomOk j B) (hs : s < 6) (hn : n ≤ 1000) : ssC G mX4_lossBehind 2 0 0 [.ref p, .ref q, .int (zI ↑s), .int (zI ↑n)] h (rI (zI ↑(min (B 5 s) (cLoss (i 1) (A 4 (B 4 s)) (B 3 s) (j 0) n))) h) := by
  refine c_of_v okX4_lossBehind (by decide +kernel) (ls := [some (.ref p), some (.ref q), some (.int (zI ↑s)), some (.int (zI ↑n))]) rfl (Nat.le_of_ble_eq_true rfl) ?_
  obtain ⟨i0, i1, i2, i3, i5, i7, a4, a6, a8, a9, a10, i11, i12, i14, i15⟩ := id hi
  obtain ⟨j0, j1, j2, b3, b4, b5, b6⟩ := id hj
  refine v_run 1 (pc' := 1) (ls' := [some (.ref p), some (.ref q), some (.int (zI ↑s)), some (.int (zI ↑n))]) (st' := [.ref q]) rfl ?_
  refine v_get rfl hq.1 rfl ?_
  refine v_run 1 (pc' := 5) (ls' := [some (.ref p), some (.ref q), some (.int (zI ↑s)), some (.int (zI ↑n))]) (st' := [.int (zI ↑s), .ref (S 5)]) rfl ?_
  refine v_iaload' rfl hq.2.2.2.1 (i := s) rfl (by omega) ?_
  refine v_run 2 (pc' := 8) (ls' := [some (.ref p), some (.ref q), some (.int (zI ↑s)), some (.int (zI ↑n))]) (st' := [.ref q, .ref p, .int ((fun k => zI ↑(B 5 k)) s)]) rfl ?_
  refine v_get rfl hq.1 rfl ?_
  refine v_run 1 (pc' := 12) (ls' := [some (.ref p), some (.ref q), some (.int (zI ↑s)), some (.int (zI ↑n))]) (st' := [.int (zI ↑s), .ref (S 3), .ref p, .int ((fun k => zI ↑(B 5 k)) s)]) rfl ?_
  refine v_iaload' rfl hq.2.1 (i := s) rfl (by omega) ?_
  refine v_run 1 (pc' := 14) (ls' := [some (.ref p), some (.ref q), some (.int (zI ↑s)), some (.int (zI ↑n))]) (st' := [.ref q, .int ((fun k => zI ↑(B 3 k)) s), .ref p, .int ((fun k => zI ↑(B 5 k)) s)]) rfl ?_
  refine v_get rfl hq.1 rfl ?_
  refine v_run 1 (pc' := 18) (ls' := [some (.ref p), some (.ref q), some (.int (zI ↑s)), some (.int (zI ↑n))]) (st' := [.int (zI ↑s), .ref (S 4), .int ((fun k => zI ↑(B 3 k)) s), .ref p, .int ((fun k => zI ↑(B 5 k)) s)]) rfl ?_
  refine v_iaload' rfl hq.2.2.1 (i := s) rfl (by omega) ?_
  refine v_run 1 (pc' := 20) (ls' := [some (.ref p), some (.ref q), some (.int (zI ↑s)), some (.int (zI ↑n))]) (st' := [.ref q, .int ((fun k => zI ↑(B 4 k)) s), .int ((fun k => zI ↑(B 3 k)) s), .ref p, .int ((fun k => zI ↑(B 5 k)) s)]) rfl ?_
  refine v_get rfl hq.1 rfl ?_
  refine v_run 1 (pc' := 24) (ls' := [some (.ref p), some (.ref q), some (.int (zI ↑s)), some (.int (zI ↑n))]) (st' := [.int (zI ↑n), .int (zI ↑(j 0)), .int ((fun k => zI ↑(B 4 k)) s), .int ((fun k => zI ↑(B 3 k)) s), .ref p, .int ((fun k => zI ↑(B 5 k)) s)]) rfl ?_
  refine v_callV (My := mX4_lossOver) (As := [.int ((fun k => zI ↑(B 3 k)) s), .int ((fun k => zI ↑(B 4 k)) s), .int (zI ↑(j 0)), .int (zI ↑n)]) (rest := [.int ((fun k => zI ↑(B 5 k)) s)]) (mc := 0) (ms := 0) rfl caX4_lossOver rfl rfl rfl hp.1 rfl rfl (k_lossOver G h (B 3 s) (B 4 s) (j 0) n hp hi (b4 s) (b3 s) (by omega) (by omega)) rfl rfl (Nat.le_of_ble_eq_true rfl) (by omega) ?_
  rintro _ _ ⟨rfl, rfl⟩
  refine v_run 0 (pc' := 27) (ls' := [some (.ref p), some (.ref q), some (.int (zI ↑s)), some (.int (zI ↑n))]) (st' := [.int (zI ↑(cLoss (i 1) (A 4 (B 4 s)) (B 3 s) (j 0) n)), .int ((fun k => zI ↑(B 5 k)) s)]) rfl ?_
  refine v_min rfl rfl (by omega) (Nat.le_of_ble_eq_true rfl) ?_
  rw [show ((if (zI ↑(cLoss (i 1) (A 4 (B 4 s)) (B 3 s) (j 0) n)) < ((fun k => zI ↑(B 5 k)) s) then (zI ↑(cLoss (i 1) (A 4 (B 4 s)) (B 3 s) (j 0) n)) else ((fun k => zI ↑(B 5 k)) s)) : Int32) = zI ↑(min (B 5 s) (cLoss (i 1) (A 4 (B 4 s)) (B 3 s) (j 0) n)) from (mn_z (by have := b5 s; omega) (by have := cLoss_le (heat := i 1) (air := A 4 (B 4 s)) (kd := B 3 s) (dy := j 0) (n := n) i1; omega))]
  exact v_iret rfl rfl rfl ⟨rfl, rfl⟩

set_option maxRecDepth 100000 in
set_option maxHeartbeats 400000 in
theorem k_goodDays (G : ssG) (h : ssH) {p : Nat} {i R : Nat → Nat} {d : Int} {A : Nat → Nat → Nat} {q : Nat} {j S : Nat → Nat} {B : Nat → Nat → Nat} (s kd k : Nat) (hp : PlanAt h p i R d A) (hi : PlanOk i A) (hq : MomAt h q j S B) (hj : MomOk j B) (hs : s < 6) (hk : k < 6) (hkd : kd ≤ 2) : ssC G mX4_goodDays 2 0 0 [.ref p, .ref q, .int (zI ↑s), .int (zI ↑kd), .int (zI ↑k)] h (rI (zI ↑(cGood (i 1) (A 4 k) kd (j 0) (B 5 s))) h) := by
  refine c_of_v okX4_goodDays (by decide +kernel) (ls := [some (.ref p), some (.ref q), some (.int (zI ↑s)), some (.int (zI ↑kd)), some (.int (zI ↑k)), none]) rfl (Nat.le_of_ble_eq_true rfl) ?_
  obtain ⟨i0, i1, i2, i3, i5, i7, a4, a6, a8, a9, a10, i11, i12, i14, i15⟩ := id hi
  obtain ⟨j0, j1, j2, b3, b4, b5, b6⟩ := id hj
  refine v_run 2 (pc' := 3) (ls' := [some (.ref p), some (.ref q), some (.int (zI ↑s)), some (.int (zI ↑kd)), some (.int (zI ↑k)), some (.int (zI 0))]) (st' := []) rfl ?_
  have lp : ∀ (n t : Nat), t ≤ 99 ∧ fstN (fun n => decide (B 5 s ≤ cLoss (i 1) (A 4 k) kd (j 0) n)) (99 - t) t = cGood (i 1) (A 4 k) kd (j 0) (B 5 s) → 99 + 1 ≤ t + n → ssV G mX4_goodDays 2 0 0 (rI (zI ↑(cGood (i 1) (A 4 k) kd (j 0) (B 5 s))) h) 3 [some (.ref p), some (.ref q), some (.int (zI ↑s)), some (.int (zI ↑kd)), some (.int (zI ↑k)), some (.int (zI ↑t))] [] h := by
    intro n
    induction n with
    | zero => intro t hs1 hs2; exact absurd hs2 (by omega)
    | succ n ih =>
      intro t hs1 hs2
      obtain ⟨hs1, hs3⟩ := hs1
      refine v_run 2 (pc' := 7) (ls' := [some (.ref p), some (.ref q), some (.int (zI ↑s)), some (.int (zI ↑kd)), some (.int (zI ↑k)), some (.int (zI ↑t))]) (st' := [.int (zI 99), .int (zI ↑t)]) rfl ?_
      refine v_icmp_ge rfl (fun c7 => ?_) (fun c7 => ?_)
      · simp (disch := omega) only [zI_lt, zI_le, zI_eq, zI_lt0, zI_le0, zI_0lt, zI_0le, zI_eq0] at c7
        refine v_run 1 (pc' := 43) (ls' := [some (.ref p), some (.ref q), some (.int (zI ↑s)), some (.int (zI ↑kd)), some (.int (zI ↑k)), some (.int (zI ↑t))]) (st' := [.int (zI 99)]) rfl ?_
        have ht : t = 99 := by omega
        subst ht
        exact v_iret rfl rfl rfl ⟨by rw [← hs3]; rfl, rfl⟩
      · simp (disch := omega) only [zI_lt, zI_le, zI_eq, zI_lt0, zI_le0, zI_0lt, zI_0le, zI_eq0] at c7
        refine v_run 1 (pc' := 11) (ls' := [some (.ref p), some (.ref q), some (.int (zI ↑s)), some (.int (zI ↑kd)), some (.int (zI ↑k)), some (.int (zI ↑t))]) (st' := [.ref q]) rfl ?_
        refine v_get rfl hq.1 rfl ?_
        refine v_run 1 (pc' := 15) (ls' := [some (.ref p), some (.ref q), some (.int (zI ↑s)), some (.int (zI ↑kd)), some (.int (zI ↑k)), some (.int (zI ↑t))]) (st' := [.int (zI ↑s), .ref (S 5)]) rfl ?_
        refine v_iaload' rfl hq.2.2.2.1 (i := s) rfl (by omega) ?_
        refine v_run 4 (pc' := 21) (ls' := [some (.ref p), some (.ref q), some (.int (zI ↑s)), some (.int (zI ↑kd)), some (.int (zI ↑k)), some (.int (zI ↑t))]) (st' := [.ref q, .int (zI ↑k), .int (zI ↑kd), .ref p, .int ((fun k => zI ↑(B 5 k)) s)]) rfl ?_
        refine v_get rfl hq.1 rfl ?_
        refine v_run 1 (pc' := 26) (ls' := [some (.ref p), some (.ref q), some (.int (zI ↑s)), some (.int (zI ↑kd)), some (.int (zI ↑k)), some (.int (zI ↑t))]) (st' := [.int (zI ↑t), .int (zI ↑(j 0)), .int (zI ↑k), .int (zI ↑kd), .ref p, .int ((fun k => zI ↑(B 5 k)) s)]) rfl ?_
        refine v_callV (My := mX4_lossOver) (As := [.int (zI ↑kd), .int (zI ↑k), .int (zI ↑(j 0)), .int (zI ↑t)]) (rest := [.int ((fun k => zI ↑(B 5 k)) s)]) (mc := 0) (ms := 0) rfl caX4_lossOver rfl rfl rfl hp.1 rfl rfl (k_lossOver G h kd k (j 0) t hp hi hk hkd (by omega) (by omega)) rfl rfl (Nat.le_of_ble_eq_true rfl) (by omega) ?_
        rintro _ _ ⟨rfl, rfl⟩
        refine v_run 0 (pc' := 29) (ls' := [some (.ref p), some (.ref q), some (.int (zI ↑s)), some (.int (zI ↑kd)), some (.int (zI ↑k)), some (.int (zI ↑t))]) (st' := [.int (zI ↑(cLoss (i 1) (A 4 k) kd (j 0) t)), .int ((fun k => zI ↑(B 5 k)) s)]) rfl ?_
        have q1 := cLoss_le (heat := i 1) (air := A 4 k) (kd := kd) (dy := j 0) (n := t) i1
        have q2 := b5 s
        rw [show 99 - t = (99 - (t + 1)) + 1 by omega] at hs3
        simp only [fstN] at hs3
        refine v_icmp_gt rfl (fun c29 => ?_) (fun c29 => ?_)
        · simp (disch := omega) only [zI_lt, zI_le, zI_eq, zI_lt0, zI_le0, zI_0lt, zI_0le, zI_eq0] at c29
          rw [if_neg (by simp; omega)] at hs3
          refine v_run 2 (pc' := 3) (ls' := [some (.ref p), some (.ref q), some (.int (zI ↑s)), some (.int (zI ↑kd)), some (.int (zI ↑k)), some (.int ((zI ↑t) + zI 1))]) (st' := []) rfl ?_
          rw [zI_s1]
          exact ih (t + 1) ⟨by omega, hs3⟩ (by omega)
        · simp (disch := omega) only [zI_lt, zI_le, zI_eq, zI_lt0, zI_le0, zI_0lt, zI_0le, zI_eq0] at c29
          rw [if_pos (by simp; omega)] at hs3
          refine v_run 1 (pc' := 34) (ls' := [some (.ref p), some (.ref q), some (.int (zI ↑s)), some (.int (zI ↑kd)), some (.int (zI ↑k)), some (.int (zI ↑t))]) (st' := [.int (zI ↑t)]) rfl ?_
          exact v_iret rfl rfl rfl ⟨by rw [← hs3], rfl⟩
  exact lp (99 + 1) 0 ⟨by omega, rfl⟩ (by omega)

set_option maxRecDepth 100000 in
set_option maxHeartbeats 400000 in
theorem k_spGoodAfter (G : ssG) (h : ssH) {u T : Nat} {E : Nat → Nat} (n0 : Int) (sc : Nat) (hu : SpanAt h u T E) (hE : ∀ k, E k ≤ 99) (hn0 : -200 ≤ n0 ∧ n0 ≤ 200) (hsc : sc ≤ 6) : ssC G mX6_goodAfter 0 0 0 [.ref u, .int (zI n0), .int (zI ↑sc)] h (rI (zI ↑(setN (fun s => decide (n0 < E s)) sc)) h) := by
  refine c_of_v okX6_goodAfter (by decide +kernel) (ls := [some (.ref u), some (.int (zI n0)), some (.int (zI ↑sc)), none, none]) rfl (Nat.le_of_ble_eq_true rfl) ?_
  refine v_run 4 (pc' := 5) (ls' := [some (.ref u), some (.int (zI n0)), some (.int (zI ↑sc)), some (.int (zI 0)), some (.int (zI 0))]) (st' := []) rfl ?_
  have lp : ∀ (n s : Nat), s ≤ sc → sc + 1 ≤ s + n → ssV G mX6_goodAfter 0 0 0 (rI (zI ↑(setN (fun s => decide (n0 < E s)) sc)) h) 5 [some (.ref u), some (.int (zI n0)), some (.int (zI ↑sc)), some (.int (zI ↑(setN (fun s => decide (n0 < E s)) s))), some (.int (zI ↑s))] [] h := by
    intro n
    induction n with
    | zero => intro s hs1 hs2; exact absurd hs2 (by omega)
    | succ n ih =>
      intro s hs1 hs2
      refine v_run 2 (pc' := 8) (ls' := [some (.ref u), some (.int (zI n0)), some (.int (zI ↑sc)), some (.int (zI ↑(setN (fun s => decide (n0 < E s)) s))), some (.int (zI ↑s))]) (st' := [.int (zI ↑sc), .int (zI ↑s)]) rfl ?_
      refine v_icmp_ge rfl (fun c8 => ?_) (fun c8 => ?_)
      · simp (disch := omega) only [zI_lt, zI_le, zI_eq, zI_lt0, zI_le0, zI_0lt, zI_0le, zI_eq0] at c8
        refine v_run 1 (pc' := 43) (ls' := [some (.ref u), some (.int (zI n0)), some (.int (zI ↑sc)), some (.int (zI ↑(setN (fun s => decide (n0 < E s)) s))), some (.int (zI ↑s))]) (st' := [.int (zI ↑(setN (fun s => decide (n0 < E s)) s))]) rfl ?_
        exact v_iret rfl rfl rfl ⟨by rw [show s = sc by omega], rfl⟩
      · simp (disch := omega) only [zI_lt, zI_le, zI_eq, zI_lt0, zI_le0, zI_0lt, zI_0le, zI_eq0] at c8
        refine v_run 2 (pc' := 15) (ls' := [some (.ref u), some (.int (zI n0)), some (.int (zI ↑sc)), some (.int (zI ↑(setN (fun s => decide (n0 < E s)) s))), some (.int (zI ↑s))]) (st' := [.int (zI 6), .int (zI ↑s)]) rfl ?_
        refine v_icmp_ge rfl (fun c15 => ?_) (fun c15 => ?_)
        · exfalso; revert c15; simp (disch := omega) only [zI_lt, zI_le, zI_eq, zI_lt0, zI_le0, zI_0lt, zI_0le, zI_eq0] <;> omega
        · refine v_run 1 (pc' := 19) (ls' := [some (.ref u), some (.int (zI n0)), some (.int (zI ↑sc)), some (.int (zI ↑(setN (fun s => decide (n0 < E s)) s))), some (.int (zI ↑s))]) (st' := [.ref u]) rfl ?_
          refine v_get rfl hu.1 rfl ?_
          refine v_run 1 (pc' := 24) (ls' := [some (.ref u), some (.int (zI n0)), some (.int (zI ↑sc)), some (.int (zI ↑(setN (fun s => decide (n0 < E s)) s))), some (.int (zI ↑s))]) (st' := [.int (zI ↑s), .ref T]) rfl ?_
          refine v_iaload' rfl hu.2 (i := s) rfl (by omega) ?_
          refine v_run 1 (pc' := 26) (ls' := [some (.ref u), some (.int (zI n0)), some (.int (zI ↑sc)), some (.int (zI ↑(setN (fun s => decide (n0 < E s)) s))), some (.int (zI ↑s))]) (st' := [.int (zI n0), .int ((fun j => zI ↑(E j)) s)]) rfl ?_
          have q1 := hE s
          refine v_icmp_le rfl (fun c26 => ?_) (fun c26 => ?_)
          · simp (disch := omega) only [zI_lt, zI_le, zI_eq, zI_lt0, zI_le0, zI_0lt, zI_0le, zI_eq0] at c26
            refine v_run 2 (pc' := 5) (ls' := [some (.ref u), some (.int (zI n0)), some (.int (zI ↑sc)), some (.int (zI ↑(setN (fun s => decide (n0 < E s)) s))), some (.int ((zI ↑s) + zI 1))]) (st' := []) rfl ?_
            rw [← setN_f (p := fun s => decide (n0 < E s)) (n := s) (decide_eq_false (by omega)), zI_s1]
            exact ih (s + 1) (by omega) (by omega)
          · simp (disch := omega) only [zI_lt, zI_le, zI_eq, zI_lt0, zI_le0, zI_0lt, zI_0le, zI_eq0] at c26
            refine v_run 8 (pc' := 5) (ls' := [some (.ref u), some (.int (zI n0)), some (.int (zI ↑sc)), some (.int ((zI ↑(setN (fun s => decide (n0 < E s)) s)) ||| ((zI 1) <<< ((zI ↑s) &&& 31)))), some (.int ((zI ↑s) + zI 1))]) (st' := []) rfl ?_
            rw [zI_put (by omega) (setN_lt _ _), ← setN_t (p := fun s => decide (n0 < E s)) (n := s) (decide_eq_true (by omega)), zI_s1]
            exact ih (s + 1) (by omega) (by omega)
  exact lp (sc + 1) 0 (by omega) (by omega)

set_option maxRecDepth 100000 in
set_option maxHeartbeats 400000 in
theorem k_spSum (G : ssG) (h : ssH) {u T : Nat} {E : Nat → Nat} (sc : Nat) (hu : SpanAt h u T E) (hsc : sc ≤ 6) : ssC G mX6_sum 0 0 0 [.ref u, .int (zI ↑sc)] h (rI (zI ↑(sumN E sc)) h) := by
  refine c_of_v okX6_sum (by decide +kernel) (ls := [some (.ref u), some (.int (zI ↑sc)), none, none]) rfl (Nat.le_of_ble_eq_true rfl) ?_
  refine v_run 4 (pc' := 4) (ls' := [some (.ref u), some (.int (zI ↑sc)), some (.int (zI 0)), some (.int (zI 0))]) (st' := []) rfl ?_
  have lp : ∀ (n s : Nat), s ≤ sc → sc + 1 ≤ s + n → ssV G mX6_sum 0 0 0 (rI (zI ↑(sumN E sc)) h) 4 [some (.ref u), some (.int (zI ↑sc)), some (.int (zI ↑(sumN E s))), some (.int (zI ↑s))] [] h := by
    intro n
    induction n with
    | zero => intro s hs1 hs2; exact absurd hs2 (by omega)
    | succ n ih =>
      intro s hs1 hs2
      refine v_run 2 (pc' := 6) (ls' := [some (.ref u), some (.int (zI ↑sc)), some (.int (zI ↑(sumN E s))), some (.int (zI ↑s))]) (st' := [.int (zI ↑sc), .int (zI ↑s)]) rfl ?_
      refine v_icmp_ge rfl (fun c6 => ?_) (fun c6 => ?_)
      · simp (disch := omega) only [zI_lt, zI_le, zI_eq, zI_lt0, zI_le0, zI_0lt, zI_0le, zI_eq0] at c6
        refine v_run 1 (pc' := 31) (ls' := [some (.ref u), some (.int (zI ↑sc)), some (.int (zI ↑(sumN E s))), some (.int (zI ↑s))]) (st' := [.int (zI ↑(sumN E s))]) rfl ?_
        exact v_iret rfl rfl rfl ⟨by rw [show s = sc by omega], rfl⟩
      · simp (disch := omega) only [zI_lt, zI_le, zI_eq, zI_lt0, zI_le0, zI_0lt, zI_0le, zI_eq0] at c6
        refine v_run 2 (pc' := 12) (ls' := [some (.ref u), some (.int (zI ↑sc)), some (.int (zI ↑(sumN E s))), some (.int (zI ↑s))]) (st' := [.int (zI 6), .int (zI ↑s)]) rfl ?_
        refine v_icmp_ge rfl (fun c12 => ?_) (fun c12 => ?_)
        · exfalso; revert c12; simp (disch := omega) only [zI_lt, zI_le, zI_eq, zI_lt0, zI_le0, zI_0lt, zI_0le, zI_eq0] <;> omega
        · refine v_run 2 (pc' := 17) (ls' := [some (.ref u), some (.int (zI ↑sc)), some (.int (zI ↑(sumN E s))), some (.int (zI ↑s))]) (st' := [.ref u, .int (zI ↑(sumN E s))]) rfl ?_
          refine v_get rfl hu.1 rfl ?_
          refine v_run 1 (pc' := 21) (ls' := [some (.ref u), some (.int (zI ↑sc)), some (.int (zI ↑(sumN E s))), some (.int (zI ↑s))]) (st' := [.int (zI ↑s), .ref T, .int (zI ↑(sumN E s))]) rfl ?_
          refine v_iaload' rfl hu.2 (i := s) rfl (by omega) ?_
          refine v_run 4 (pc' := 4) (ls' := [some (.ref u), some (.int (zI ↑sc)), some (.int ((zI ↑(sumN E s)) + ((fun j => zI ↑(E j)) s))), some (.int ((zI ↑s) + zI 1))]) (st' := []) rfl ?_
          rw [zN_add, zI_s1]
          exact ih (s + 1) (by omega) (by omega)
  exact lp (sc + 1) 0 (by omega) (by omega)

set_option maxRecDepth 100000 in
set_option maxHeartbeats 400000 in
theorem k_quorumDays (G : ssG) (h : ssH) {u T : Nat} {E : Nat → Nat} (sc qr : Nat) (hu : SpanAt h u T E) (hE : ∀ k, E k ≤ 99) (hsc : sc ≤ 6) (hqr : qr ≤ 6) : ssC G mX6_quorumDays 1 0 0 [.ref u, .int (zI ↑sc), .int (zI ↑qr)] h (rI (zI ↑(cQD E sc qr sc)) h) := by
  refine c_of_v okX6_quorumDays (by decide +kernel) (ls := [some (.ref u), some (.int (zI ↑sc)), some (.int (zI ↑qr)), none, none, none]) rfl (Nat.le_of_ble_eq_true rfl) ?_
  refine v_run 4 (pc' := 5) (ls' := [some (.ref u), some (.int (zI ↑sc)), some (.int (zI ↑qr)), some (.int (zI 0)), some (.int (zI 0)), none]) (st' := []) rfl ?_
  have lp : ∀ (n s : Nat), s ≤ sc → sc + 1 ≤ s + n → ssV G mX6_quorumDays 1 0 0 (rI (zI ↑(cQD E sc qr sc)) h) 5 [some (.ref u), some (.int (zI ↑sc)), some (.int (zI ↑qr)), some (.int (zI ↑(cQD E sc qr s))), some (.int (zI ↑s)), none] [] h := by
    intro n
    induction n with
    | zero => intro s hs1 hs2; exact absurd hs2 (by omega)
    | succ n ih =>
      intro s hs1 hs2
      have q0 := cQD_le hE sc qr s
      refine v_run 2 (pc' := 8) (ls' := [some (.ref u), some (.int (zI ↑sc)), some (.int (zI ↑qr)), some (.int (zI ↑(cQD E sc qr s))), some (.int (zI ↑s)), none]) (st' := [.int (zI ↑sc), .int (zI ↑s)]) rfl ?_
      refine v_icmp_ge rfl (fun c8 => ?_) (fun c8 => ?_)
      · simp (disch := omega) only [zI_lt, zI_le, zI_eq, zI_lt0, zI_le0, zI_0lt, zI_0le, zI_eq0] at c8
        refine v_run 1 (pc' := 69) (ls' := [some (.ref u), some (.int (zI ↑sc)), some (.int (zI ↑qr)), some (.int (zI ↑(cQD E sc qr s))), some (.int (zI ↑s)), none]) (st' := [.int (zI ↑(cQD E sc qr s))]) rfl ?_
        exact v_iret rfl rfl rfl ⟨by rw [show s = sc by omega], rfl⟩
      · simp (disch := omega) only [zI_lt, zI_le, zI_eq, zI_lt0, zI_le0, zI_0lt, zI_0le, zI_eq0] at c8
        refine v_run 2 (pc' := 15) (ls' := [some (.ref u), some (.int (zI ↑sc)), some (.int (zI ↑qr)), some (.int (zI ↑(cQD E sc qr s))), some (.int (zI ↑s)), none]) (st' := [.int (zI 6), .int (zI ↑s)]) rfl ?_
        refine v_icmp_ge rfl (fun c15 => ?_) (fun c15 => ?_)
        · exfalso; revert c15; simp (disch := omega) only [zI_lt, zI_le, zI_eq, zI_lt0, zI_le0, zI_0lt, zI_0le, zI_eq0] <;> omega
        · have q1 := hE s
          refine v_run 2 (pc' := 20) (ls' := [some (.ref u), some (.int (zI ↑sc)), some (.int (zI ↑qr)), some (.int (zI ↑(cQD E sc qr s))), some (.int (zI ↑s)), none]) (st' := [.ref u, .ref u]) rfl ?_
          refine v_get rfl hu.1 rfl ?_
          refine v_run 1 (pc' := 25) (ls' := [some (.ref u), some (.int (zI ↑sc)), some (.int (zI ↑qr)), some (.int (zI ↑(cQD E sc qr s))), some (.int (zI ↑s)), none]) (st' := [.int (zI ↑s), .ref T, .ref u]) rfl ?_
          refine v_iaload' rfl hu.2 (i := s) rfl (by omega) ?_
          refine v_run 3 (pc' := 29) (ls' := [some (.ref u), some (.int (zI ↑sc)), some (.int (zI ↑qr)), some (.int (zI ↑(cQD E sc qr s))), some (.int (zI ↑s)), none]) (st' := [.int (zI ↑sc), .int (((fun j => zI ↑(E j)) s) - (zI 1)), .ref u]) rfl ?_
          rw [show (((fun j => zI ↑(E j)) s) - (zI 1) : Int32) = zI (↑(E s) - 1) from zI_sub _ _]
          refine v_callV (My := mX6_goodAfter) (As := [.int (zI (↑(E s) - 1)), .int (zI ↑sc)]) (rest := []) (mc := 0) (ms := 0) rfl caX6_goodAfter rfl rfl rfl hu.1 rfl rfl (k_spGoodAfter G h (↑(E s) - 1) sc hu hE (by omega) hsc) rfl rfl (Nat.le_of_ble_eq_true rfl) (by omega) ?_
          rintro _ _ ⟨rfl, rfl⟩
          refine v_run 0 (pc' := 32) (ls' := [some (.ref u), some (.int (zI ↑sc)), some (.int (zI ↑qr)), some (.int (zI ↑(cQD E sc qr s))), some (.int (zI ↑s)), none]) (st' := [.int (zI ↑(setN (fun t => decide ((↑(E s) - 1 : Int) < ↑(E t))) sc))]) rfl ?_
          refine v_callS (My := mJ6_bitCount_0f7a4) (As := [.int (zI ↑(setN (fun t => decide ((↑(E s) - 1 : Int) < ↑(E t))) sc))]) (rest := []) (mc := 0) (ms := 0) rfl caJ6_bitCount_0f7a4 rfl rfl (k_bitCount G h (setN (fun t => decide ((↑(E s) - 1 : Int) < ↑(E t))) sc) (setN_lt64 _ hsc)) rfl rfl (Nat.le_of_ble_eq_true rfl) (by omega) ?_
          rintro _ _ ⟨rfl, rfl⟩
          refine v_run 0 (pc' := 35) (ls' := [some (.ref u), some (.int (zI ↑sc)), some (.int (zI ↑qr)), some (.int (zI ↑(cQD E sc qr s))), some (.int (zI ↑s)), none]) (st' := [.int (zI ↑(popN (setN (fun t => decide ((↑(E s) - 1 : Int) < ↑(E t))) sc)))]) rfl ?_
          refine v_run 3 (pc' := 40) (ls' := [some (.ref u), some (.int (zI ↑sc)), some (.int (zI ↑qr)), some (.int (zI ↑(cQD E sc qr s))), some (.int (zI ↑s)), some (.int (zI ↑(popN (setN (fun t => decide ((↑(E s) - 1 : Int) < ↑(E t))) sc))))]) (st' := [.int (zI ↑qr), .int (zI ↑(popN (setN (fun t => decide ((↑(E s) - 1 : Int) < ↑(E t))) sc)))]) rfl ?_
          have q2 := popN_le (setN (fun t => decide ((↑(E s) - 1 : Int) < ↑(E t))) sc)
          refine v_icmp_lt rfl (fun c40 => ?_) (fun c40 => ?_)
          · simp (disch := omega) only [zI_lt, zI_le, zI_eq, zI_lt0, zI_le0, zI_0lt, zI_0le, zI_eq0] at c40
            refine v_run 2 (pc' := 5) (ls' := [some (.ref u), some (.int (zI ↑sc)), some (.int (zI ↑qr)), some (.int (zI ↑(cQD E sc qr s))), some (.int ((zI ↑s) + zI 1)), some (.int (zI ↑(popN (setN (fun t => decide ((↑(E s) - 1 : Int) < ↑(E t))) sc))))]) (st' := []) rfl ?_
            refine v_drop 5 (ls' := [some (.ref u), some (.int (zI ↑sc)), some (.int (zI ↑qr)), some (.int (zI ↑(cQD E sc qr s))), some (.int ((zI ↑s) + zI 1)), none]) rfl ?_
            rw [← cQD_f E sc qr s (by omega), zI_s1]
            exact ih (s + 1) (by omega) (by omega)
          · simp (disch := omega) only [zI_lt, zI_le, zI_eq, zI_lt0, zI_le0, zI_0lt, zI_0le, zI_eq0] at c40
            refine v_run 1 (pc' := 44) (ls' := [some (.ref u), some (.int (zI ↑sc)), some (.int (zI ↑qr)), some (.int (zI ↑(cQD E sc qr s))), some (.int (zI ↑s)), some (.int (zI ↑(popN (setN (fun t => decide ((↑(E s) - 1 : Int) < ↑(E t))) sc))))]) (st' := [.ref u]) rfl ?_
            refine v_get rfl hu.1 rfl ?_
            refine v_run 1 (pc' := 49) (ls' := [some (.ref u), some (.int (zI ↑sc)), some (.int (zI ↑qr)), some (.int (zI ↑(cQD E sc qr s))), some (.int (zI ↑s)), some (.int (zI ↑(popN (setN (fun t => decide ((↑(E s) - 1 : Int) < ↑(E t))) sc))))]) (st' := [.int (zI ↑s), .ref T]) rfl ?_
            refine v_iaload' rfl hu.2 (i := s) rfl (by omega) ?_
            refine v_run 1 (pc' := 51) (ls' := [some (.ref u), some (.int (zI ↑sc)), some (.int (zI ↑qr)), some (.int (zI ↑(cQD E sc qr s))), some (.int (zI ↑s)), some (.int (zI ↑(popN (setN (fun t => decide ((↑(E s) - 1 : Int) < ↑(E t))) sc))))]) (st' := [.int (zI ↑(cQD E sc qr s)), .int ((fun j => zI ↑(E j)) s)]) rfl ?_
            refine v_icmp_le rfl (fun c51 => ?_) (fun c51 => ?_)
            · simp (disch := omega) only [zI_lt, zI_le, zI_eq, zI_lt0, zI_le0, zI_0lt, zI_0le, zI_eq0] at c51
              refine v_run 2 (pc' := 5) (ls' := [some (.ref u), some (.int (zI ↑sc)), some (.int (zI ↑qr)), some (.int (zI ↑(cQD E sc qr s))), some (.int ((zI ↑s) + zI 1)), some (.int (zI ↑(popN (setN (fun t => decide ((↑(E s) - 1 : Int) < ↑(E t))) sc))))]) (st' := []) rfl ?_
              refine v_drop 5 (ls' := [some (.ref u), some (.int (zI ↑sc)), some (.int (zI ↑qr)), some (.int (zI ↑(cQD E sc qr s))), some (.int ((zI ↑s) + zI 1)), none]) rfl ?_
              rw [← cQD_f E sc qr s (by omega), zI_s1]
              exact ih (s + 1) (by omega) (by omega)
            · simp (disch := omega) only [zI_lt, zI_le, zI_eq, zI_lt0, zI_le0, zI_0lt, zI_0le, zI_eq0] at c51
              refine v_run 1 (pc' := 55) (ls' := [some (.ref u), some (.int (zI ↑sc)), some (.int (zI ↑qr)), some (.int (zI ↑(cQD E sc qr s))), some (.int (zI ↑s)), some (.int (zI ↑(popN (setN (fun t => decide ((↑(E s) - 1 : Int) < ↑(E t))) sc))))]) (st' := [.ref u]) rfl ?_
              refine v_get rfl hu.1 rfl ?_
              refine v_run 1 (pc' := 60) (ls' := [some (.ref u), some (.int (zI ↑sc)), some (.int (zI ↑qr)), some (.int (zI ↑(cQD E sc qr s))), some (.int (zI ↑s)), some (.int (zI ↑(popN (setN (fun t => decide ((↑(E s) - 1 : Int) < ↑(E t))) sc))))]) (st' := [.int (zI ↑s), .ref T]) rfl ?_
              refine v_iaload' rfl hu.2 (i := s) rfl (by omega) ?_
              refine v_run 3 (pc' := 5) (ls' := [some (.ref u), some (.int (zI ↑sc)), some (.int (zI ↑qr)), some (.int ((fun j => zI ↑(E j)) s)), some (.int ((zI ↑s) + zI 1)), some (.int (zI ↑(popN (setN (fun t => decide ((↑(E s) - 1 : Int) < ↑(E t))) sc))))]) (st' := []) rfl ?_
              refine v_drop 5 (ls' := [some (.ref u), some (.int (zI ↑sc)), some (.int (zI ↑qr)), some (.int ((fun j => zI ↑(E j)) s)), some (.int ((zI ↑s) + zI 1)), none]) rfl ?_
              show ssV _ _ _ _ _ _ _ [_, _, _, some (.int (zI ↑(E s))), _, _] _ _
              rw [← cQD_t E sc qr s (by omega) (by omega), zI_s1]
              exact ih (s + 1) (by omega) (by omega)
  exact lp (sc + 1) 0 (by omega) (by omega)

set_option maxRecDepth 100000 in
set_option maxHeartbeats 400000 in
theorem k_goodBits (G : ssG) (h : ssH) {q : Nat} {j S : Nat → Nat} {B : Nat → Nat → Nat} (sc : Nat) (hq : MomAt h q j S B) (hj : MomOk j B) (hsc : sc ≤ 6) : ssC G mX2_goodBits 0 0 0 [.ref q, .int (zI ↑sc)] h (rI (zI ↑(setN (fun s => decide (0 < B 5 s)) sc)) h) := by
  refine c_of_v okX2_goodBits (by decide +kernel) (ls := [some (.ref q), some (.int (zI ↑sc)), none, none]) rfl (Nat.le_of_ble_eq_true rfl) ?_
  obtain ⟨j0, j1, j2, b3, b4, b5, b6⟩ := id hj
  refine v_run 4 (pc' := 4) (ls' := [some (.ref q), some (.int (zI ↑sc)), some (.int (zI 0)), some (.int (zI 0))]) (st' := []) rfl ?_
  have lp : ∀ (n s : Nat), s ≤ sc → sc + 1 ≤ s + n → ssV G mX2_goodBits 0 0 0 (rI (zI ↑(setN (fun s => decide (0 < B 5 s)) sc)) h) 4 [some (.ref q), some (.int (zI ↑sc)), some (.int (zI ↑(setN (fun s => decide (0 < B 5 s)) s))), some (.int (zI ↑s))] [] h := by
    intro n
    induction n with
    | zero => intro s hs1 hs2; exact absurd hs2 (by omega)
    | succ n ih =>
      intro s hs1 hs2
      refine v_run 2 (pc' := 6) (ls' := [some (.ref q), some (.int (zI ↑sc)), some (.int (zI ↑(setN (fun s => decide (0 < B 5 s)) s))), some (.int (zI ↑s))]) (st' := [.int (zI ↑sc), .int (zI ↑s)]) rfl ?_
      refine v_icmp_ge rfl (fun c6 => ?_) (fun c6 => ?_)
      · simp (disch := omega) only [zI_lt, zI_le, zI_eq, zI_lt0, zI_le0, zI_0lt, zI_0le, zI_eq0] at c6
        refine v_run 1 (pc' := 37) (ls' := [some (.ref q), some (.int (zI ↑sc)), some (.int (zI ↑(setN (fun s => decide (0 < B 5 s)) s))), some (.int (zI ↑s))]) (st' := [.int (zI ↑(setN (fun s => decide (0 < B 5 s)) s))]) rfl ?_
        exact v_iret rfl rfl rfl ⟨by rw [show s = sc by omega], rfl⟩
      · simp (disch := omega) only [zI_lt, zI_le, zI_eq, zI_lt0, zI_le0, zI_0lt, zI_0le, zI_eq0] at c6
        refine v_run 2 (pc' := 12) (ls' := [some (.ref q), some (.int (zI ↑sc)), some (.int (zI ↑(setN (fun s => decide (0 < B 5 s)) s))), some (.int (zI ↑s))]) (st' := [.int (zI 6), .int (zI ↑s)]) rfl ?_
        refine v_icmp_ge rfl (fun c12 => ?_) (fun c12 => ?_)
        · exfalso; revert c12; simp (disch := omega) only [zI_lt, zI_le, zI_eq, zI_lt0, zI_le0, zI_0lt, zI_0le, zI_eq0] <;> omega
        · refine v_run 1 (pc' := 16) (ls' := [some (.ref q), some (.int (zI ↑sc)), some (.int (zI ↑(setN (fun s => decide (0 < B 5 s)) s))), some (.int (zI ↑s))]) (st' := [.ref q]) rfl ?_
          refine v_get rfl hq.1 rfl ?_
          refine v_run 1 (pc' := 20) (ls' := [some (.ref q), some (.int (zI ↑sc)), some (.int (zI ↑(setN (fun s => decide (0 < B 5 s)) s))), some (.int (zI ↑s))]) (st' := [.int (zI ↑s), .ref (S 5)]) rfl ?_
          refine v_iaload' rfl hq.2.2.2.1 (i := s) rfl (by omega) ?_
          have q1 := b5 s
          refine v_if_le rfl (fun c21 => ?_) (fun c21 => ?_)
          · simp (disch := omega) only [zI_lt, zI_le, zI_eq, zI_lt0, zI_le0, zI_0lt, zI_0le, zI_eq0] at c21
            refine v_run 2 (pc' := 4) (ls' := [some (.ref q), some (.int (zI ↑sc)), some (.int (zI ↑(setN (fun s => decide (0 < B 5 s)) s))), some (.int ((zI ↑s) + zI 1))]) (st' := []) rfl ?_
            rw [← setN_f (p := fun s => decide (0 < B 5 s)) (n := s) (decide_eq_false (by omega)), zI_s1]
            exact ih (s + 1) (by omega) (by omega)
          · simp (disch := omega) only [zI_lt, zI_le, zI_eq, zI_lt0, zI_le0, zI_0lt, zI_0le, zI_eq0] at c21
            refine v_run 8 (pc' := 4) (ls' := [some (.ref q), some (.int (zI ↑sc)), some (.int ((zI ↑(setN (fun s => decide (0 < B 5 s)) s)) ||| ((zI 1) <<< ((zI ↑s) &&& 31)))), some (.int ((zI ↑s) + zI 1))]) (st' := []) rfl ?_
            rw [zI_put (by omega) (setN_lt _ _), ← setN_t (p := fun s => decide (0 < B 5 s)) (n := s) (decide_eq_true (by omega)), zI_s1]
            exact ih (s + 1) (by omega) (by omega)
  exact lp (sc + 1) 0 (by omega) (by omega)

