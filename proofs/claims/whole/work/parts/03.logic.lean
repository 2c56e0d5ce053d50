/-! ===== the judgement ssV: a method's walk over a heap of cells by their addresses ===== -/
abbrev ssE : Type := (Nat × vp_A) ⊕ (Nat × List Value)
abbrev ssH : Type := Nat → Option ssE
def hset (h : ssH) (a : Nat) (e : ssE) : ssH := fun b => if b = a then some e else h b
theorem hset_self (h : ssH) (a : Nat) (e : ssE) : hset h a e a = some e := by simp [hset]
theorem hset_ne (h : ssH) {a b : Nat} (e : ssE) (hb : b ≠ a) : hset h a e b = h b := by simp [hset, hb]
theorem hset_hset (h : ssH) (a : Nat) (e f : ssE) : hset (hset h a e) a f = hset h a f := by funext b; by_cases hb : b = a <;> simp [hset, hb]
theorem hset_comm (h : ssH) {a b : Nat} (e f : ssE) (hab : a ≠ b) : hset (hset h a e) b f = hset (hset h b f) a e := by
  funext c
  by_cases h1 : c = a
  · subst h1; simp [hset, hab]
  · by_cases h2 : c = b
    · subst h2; simp [hset, h1]
    · simp [hset, h1, h2]
theorem hset_same (h : ssH) {a : Nat} {e : ssE} (he : h a = some e) : hset h a e = h := by
  funext b
  by_cases hb : b = a
  · subst hb; simp [hset, he]
  · simp [hset, hb]
abbrev ssQq : Type := Nat × Instr × Nat × List Nat × Value
abbrev ssM : Type := Nat × MethodName × ByteArray × Nat × Option FieldType × List Nat × List ssQq
def ssY (M : ssM) : MethodName := M.2.1
def ssCC (M : ssM) : ByteArray := M.2.2.1
def ssML (M : ssM) : Nat := M.2.2.2.1
def ssRet (M : ssM) : Option FieldType := M.2.2.2.2.1
def ssPl (M : ssM) (k : Nat) : Nat := M.2.2.2.2.2.1.getD k 0
def ssTab (M : ssM) : List ssQq := M.2.2.2.2.2.2
def ssFind : List ssQq → Nat → Option (Instr × Nat × List Nat × Value)
  | [], _ => none
  | q :: t, pc => bif Nat.beq q.1 pc then some q.2 else ssFind t pc
def ssLk (M : ssM) (pc : Nat) : Option (Instr × Nat × List Nat × Value) := ssFind (ssTab M) pc
theorem ssFind_mem : ∀ (l : List ssQq) (pc : Nat) (x : Instr × Nat × List Nat × Value), ssFind l pc = some x → (pc, x) ∈ l
  | [], _, _, h => by simp [ssFind] at h
  | q :: t, pc, x, h => by
    simp only [ssFind] at h
    cases hb : Nat.beq q.1 pc with
    | true =>
      rw [hb] at h
      have h1 : q.1 = pc := Nat.eq_of_beq_eq_true hb
      have h2 : q.2 = x := by simpa using h
      have : q = (pc, x) := by rw [← h1, ← h2]
      rw [this]; exact List.mem_cons_self
    | false =>
      rw [hb] at h
      exact List.mem_cons_of_mem _ (ssFind_mem t pc x (by simpa using h))
def ssTbl : List Cond := lw_tbl.filter goodWord
def inT (pl : Nat) (w : Cond) : Bool := decide (lw_tbl[pl]? = some w) && goodWord w
theorem inT_mem {pl : Nat} {w : Cond} (h : inT pl w = true) : w ∈ ssTbl := by
  simp only [inT, Bool.and_eq_true, decide_eq_true_eq] at h
  exact List.mem_filter.mpr ⟨List.mem_of_getElem? h.1, h.2⟩
theorem ssTbl_good (big : List Cond) (h : ∀ w ∈ ssTbl, w ∈ big) : GoodIn big ssTbl := fun w hw => ⟨h w hw, good_of_word (List.mem_filter.mp hw).2⟩
def isNest : Cond → Bool
  | .fieldLinkNest .. => true
  | .methodLinkNest .. => true
  | .castable .. => true
  | .declares .. => true
  | _ => false
def ssNest : List Cond := lw_tbl.filter isNest
def inNs (pl : Nat) (w : Cond) : Bool := decide (lw_tbl[pl]? = some w) && isNest w
theorem inNs_mem {pl : Nat} {w : Cond} (h : inNs pl w = true) : w ∈ ssNest := by
  simp only [inNs, Bool.and_eq_true, decide_eq_true_eq] at h
  exact List.mem_filter.mpr ⟨List.mem_of_getElem? h.1, h.2⟩
def ssTy : Nat → FieldType
  | 0 => .int
  | 1 => .byte
  | 2 => .long
  | _ => .object "SafeSenate$Moment"
/-- what an entry of a method's list says beside its decoding -/
def chk2 (M : ssM) (q : ssQq) : Bool := match q.2.1, q.2.2.2.1, q.2.2.2.2 with
  | .iconst n, _, .int x => decide (Int32.ofInt n = x)
  | .bipush n, _, .int x => decide ((Int8.ofInt n).toInt32 = x)
  | .sipush n, _, .int x => decide ((Int16.ofInt n).toInt32 = x)
  | .lconst n, _, .long x => decide (Int64.ofNat (n : Nat) = x)
  | .ldc i, [pl], .int x => inT pl (.constant (ssY M).cls i x)
  | .ldc i, [j], .null => decide (((ssY M).cls, i, j) ∈ ssSR)
  | .ldc_w i, [pl], .int x => inT pl (.constant (ssY M).cls i x)
  | .ldc2_w i, [pl], .long x => inT pl (.constantLong (ssY M).cls i x)
  | .iinc _ n, _, .int x => decide (Int32.ofInt n = x)
  | .getfield i, [ci, k, pl, nst], _ => match vwCl[ci]? with
    | some r => decide (k < r.2.2) && (bif Nat.beq nst 1 then inNs pl (.fieldLinkNest (ssY M).cls i (r.2.1 k).1 (r.2.1 k).2.1 (r.2.1 k).2.2.1 "SafeSenateModel") else inT pl (.fieldLink (ssY M).cls i (r.2.1 k).1 (r.2.1 k).2.1 (r.2.1 k).2.2.1))
    | none => false
  | .putfield i, [ci, k, pl, nst], _ => match vwCl[ci]? with
    | some r => decide (k < r.2.2) && (bif Nat.beq nst 1 then (!(r.2.1 k).2.2.2) && inNs pl (.fieldLinkNest (ssY M).cls i (r.2.1 k).1 (r.2.1 k).2.1 (r.2.1 k).2.2.1 "SafeSenateModel") else ((!(r.2.1 k).2.2.2) || (decide ((ssY M).name = "<init>") && decide ((r.2.1 k).1 = (ssY M).cls))) && inT pl (.fieldLink (ssY M).cls i (r.2.1 k).1 (r.2.1 k).2.1 (r.2.1 k).2.2.1))
    | none => false
  | .new i, [ci, pl], _ => match vwCl[ci]? with
    | some r => inT pl (.classLink (ssY M).cls i r.1)
    | none => true
  | .anewarray i, [pl], _ => inT pl (.classLink (ssY M).cls i "SafeSenate$Moment")
  | .newarray a, [t], _ => decide (newarray.typeOf a = ssTy t) && decide (t < 3)
  | .invokevirtual i, [n, pl, _], _ => inT pl (.methodLink (ssY M).cls i (ssMN.getD n objectInit))
  | .invokestatic i, [n, pl, nst], _ => bif Nat.beq nst 1 then inNs pl (.methodLinkNest (ssY M).cls i (ssMN.getD n objectInit) "SafeSenate") else inT pl (.methodLink (ssY M).cls i (ssMN.getD n objectInit))
  | .invokespecial i, [n, pl, nst], _ => bif Nat.beq nst 1 then inNs pl (.methodLinkNest (ssY M).cls i (ssMN.getD n objectInit) "SafeSenateModel") else inT pl (.methodLink (ssY M).cls i (ssMN.getD n objectInit))
  | .if_icmp _ off, [t], _ => decide ((q.1 : Int) + off = (t : Int))
  | .ifCond _ off, [t], _ => decide ((q.1 : Int) + off = (t : Int))
  | .goto off, [t], _ => decide ((q.1 : Int) + off = (t : Int))
  | .ifnull off, [t], _ => decide ((q.1 : Int) + off = (t : Int))
  | .ifnonnull off, [t], _ => decide ((q.1 : Int) + off = (t : Int))
  | _, _, _ => true
def chk (M : ssM) (q : ssQq) : Bool := decide (decode (ssCC M) q.1 = .ok (q.2.1, q.2.2.1)) && chk2 M q
def ssOk (M : ssM) : Bool := (ssTab M).all (chk M)
/-- what a call of the method needs of the tables -/
def ssCa (M : ssM) : Bool := inT (ssPl M 0) (.code (ssY M) (ssCC M) (ssML M) (ssRet M)) && inT (ssPl M 3) (.initialized (ssY M).cls) && plainName (ssY M).cls && decide ((ssY M).cls ≠ "java/lang/invoke/MethodHandle") && decide ((ssY M).cls ≠ "java/lang/invoke/VarHandle") && decide (ssML M ≤ 40) && decide (ssMN[ssPl M 6]? = some (ssY M)) && decide ((parseMethodDescriptor (ssY M).desc).map (fun d => d.parameters.length) = some (ssPl M 5)) &&
  (bif Nat.beq (ssPl M 4) 1 then inT (ssPl M 1) (.static (ssY M)) else inT (ssPl M 1) (.instanceMethod (ssY M)) && (bif Nat.beq (ssPl M 7) 1 then decide ((ssY M).name = "<init>") else inT (ssPl M 2) (.selects (ssY M).cls (ssY M) (ssY M))))
theorem ssLk_ok {M : ssM} (hok : ssOk M = true) {pc n : Nat} {i : Instr} {r : List Nat} {v : Value} (h : ssLk M pc = some (i, n, r, v)) : decode (ssCC M) pc = .ok (i, n) ∧ chk2 M (pc, i, n, r, v) = true := by
  have h1 := List.all_eq_true.mp hok _ (ssFind_mem _ _ _ h)
  simp only [chk, Bool.and_eq_true, decide_eq_true_eq] at h1
  exact h1
/-! the locals -/
def prs : List (Option Value) → Nat → List (Nat × Value)
  | [], _ => []
  | some v :: t, k => (k, v) :: prs t (k + 1)
  | none :: t, k => prs t (k + 1)
theorem prs_mem : ∀ (ls : List (Option Value)) (k j : Nat) (w : Value), (j, w) ∈ prs ls k ↔ ∃ i, j = k + i ∧ ls[i]? = some (some w)
  | [], k, j, w => by simp [prs]
  | some v :: t, k, j, w => by
    simp only [prs, List.mem_cons, Prod.mk.injEq, prs_mem t (k + 1) j w]
    constructor
    · rintro (⟨rfl, rfl⟩ | ⟨i, rfl, hi⟩)
      · exact ⟨0, by omega, by simp⟩
      · exact ⟨i + 1, by omega, by simpa using hi⟩
    · rintro ⟨i, rfl, hi⟩
      cases i with
      | zero => left; simp at hi; exact ⟨by omega, hi.symm⟩
      | succ i => right; exact ⟨i, by omega, by simpa using hi⟩
  | none :: t, k, j, w => by
    simp only [prs, prs_mem t (k + 1) j w]
    constructor
    · rintro ⟨i, rfl, hi⟩
      exact ⟨i + 1, by omega, by simpa using hi⟩
    · rintro ⟨i, rfl, hi⟩
      cases i with
      | zero => simp at hi
      | succ i => exact ⟨i, by omega, by simpa using hi⟩
def ssL (la : Array Slot) (nL : Nat) (ls : List (Option Value)) : Prop := lv_has la nL (prs ls 0)
theorem ssL_get {la : Array Slot} {nL : Nat} {ls : List (Option Value)} (h : ssL la nL ls) {i : Nat} {v : Value} (hi : ls[i]? = some (some v)) : la[i]? = some (.val v) :=
  h.2.2 (i, v) ((prs_mem ls 0 i v).mpr ⟨i, by omega, hi⟩)
def kp1 : Option Value → Option Value
  | some (.long _) => none
  | some (.double _) => none
  | o => o
def st1 : List (Option Value) → Nat → Value → List (Option Value)
  | [], _, _ => []
  | _ :: t, 0, v => some v :: t
  | o :: t, 1, v => kp1 o :: st1 t 0 v
  | o :: t, n + 2, v => o :: st1 t (n + 1) v
def stN : List (Option Value) → Nat → List (Option Value)
  | [], _ => []
  | _ :: t, 0 => none :: t
  | o :: t, n + 1 => o :: stN t n
theorem kp1_some {o : Option Value} {w : Value} (h : kp1 o = some w) : o = some w ∧ ¬ w.category = 2 := by
  cases o with
  | none => simp [kp1] at h
  | some u => cases u <;> simp [kp1] at h <;> subst h <;> simp [Value.category]
theorem st1_get : ∀ (ls : List (Option Value)) (i : Nat) (v : Value) (j : Nat) (w : Value), (st1 ls i v)[j]? = some (some w) → (j = i ∧ w = v) ∨ (j ≠ i ∧ ls[j]? = some (some w) ∧ ¬ (j + 1 = i ∧ w.category = 2))
  | [], i, v, j, w, h => by simp [st1] at h
  | o :: t, 0, v, j, w, h => by
    simp only [st1] at h
    cases j with
    | zero => left; simp at h; exact ⟨rfl, h.symm⟩
    | succ j => right; exact ⟨by omega, by simpa using h, by omega⟩
  | o :: t, 1, v, j, w, h => by
    simp only [st1] at h
    cases j with
    | zero =>
      simp at h
      obtain ⟨h1, h2⟩ := kp1_some h
      right; exact ⟨by omega, by simpa using h1, fun q => h2 q.2⟩
    | succ j =>
      rcases st1_get t 0 v j w (by simpa using h) with ⟨h1, h2⟩ | ⟨h1, h2, h3⟩
      · left; exact ⟨by omega, h2⟩
      · right; exact ⟨by omega, by simpa using h2, by omega⟩
  | o :: t, n + 2, v, j, w, h => by
    simp only [st1] at h
    cases j with
    | zero => right; exact ⟨by omega, by simpa using h, by omega⟩
    | succ j =>
      rcases st1_get t (n + 1) v j w (by simpa using h) with ⟨h1, h2⟩ | ⟨h1, h2, h3⟩
      · left; exact ⟨by omega, h2⟩
      · right; exact ⟨by omega, by simpa using h2, by omega⟩
theorem stN_get : ∀ (ls : List (Option Value)) (i j : Nat) (w : Value), (stN ls i)[j]? = some (some w) → j ≠ i ∧ ls[j]? = some (some w)
  | [], i, j, w, h => by simp [stN] at h
  | o :: t, 0, j, w, h => by
    simp only [stN] at h
    cases j with
    | zero => simp at h
    | succ j => exact ⟨by omega, by simpa using h⟩
  | o :: t, n + 1, j, w, h => by
    simp only [stN] at h
    cases j with
    | zero => exact ⟨by omega, by simpa using h⟩
    | succ j =>
      obtain ⟨h1, h2⟩ := stN_get t n j w (by simpa using h)
      exact ⟨by omega, by simpa using h2⟩
theorem lv_fewer {la : Array Slot} {nL : Nat} {l l' : List (Nat × Value)} (h : lv_has la nL l) (hs : ∀ q ∈ l', q ∈ l) : lv_has la nL l' := ⟨h.1, h.2.1, fun q hq => h.2.2 q (hs q hq)⟩
theorem ssL_st1 {la : Array Slot} {nL i : Nat} {ls : List (Option Value)} {v : Value} (h : lv_has la nL ((i, v) :: (prs ls 0).filter (fun q => !(q.1 == i) && !(q.1 + 1 == i && q.2.category == 2)))) : ssL la nL (st1 ls i v) := by
  refine lv_fewer h ?_
  rintro ⟨j, w⟩ hq
  obtain ⟨k, rfl, hk⟩ := (prs_mem _ _ _ _).mp hq
  rcases st1_get _ _ _ _ _ hk with ⟨h1, h2⟩ | ⟨h1, h2, h3⟩
  · rw [h1, h2]; simp
  · refine List.mem_cons_of_mem _ (List.mem_filter.mpr ⟨(prs_mem _ _ _ _).mpr ⟨k, rfl, h2⟩, ?_⟩)
    simp only [Nat.zero_add, Bool.and_eq_true, Bool.not_eq_true', beq_eq_false_iff_ne, ne_eq, Bool.and_eq_false_iff]
    refine ⟨h1, ?_⟩
    by_cases h4 : k + 1 = i
    · right; exact fun q => h3 ⟨h4, q⟩
    · left; exact h4
theorem ssL_st2 {la : Array Slot} {nL i : Nat} {ls : List (Option Value)} {v : Value} (h : lv_has la nL ((i, v) :: (prs ls 0).filter (fun q => !(q.1 == i) && (!(q.1 == i + 1) && !(q.1 + 1 == i && q.2.category == 2))))) : ssL la nL (stN (st1 ls i v) (i + 1)) := by
  refine lv_fewer h ?_
  rintro ⟨j, w⟩ hq
  obtain ⟨k, rfl, hk⟩ := (prs_mem _ _ _ _).mp hq
  obtain ⟨h0, hk⟩ := stN_get _ _ _ _ hk
  rcases st1_get _ _ _ _ _ hk with ⟨h1, h2⟩ | ⟨h1, h2, h3⟩
  · rw [h1, h2]; simp
  · refine List.mem_cons_of_mem _ (List.mem_filter.mpr ⟨(prs_mem _ _ _ _).mpr ⟨k, rfl, h2⟩, ?_⟩)
    simp only [Nat.zero_add, Bool.and_eq_true, Bool.not_eq_true', beq_eq_false_iff_ne, ne_eq, Bool.and_eq_false_iff]
    refine ⟨h1, h0, ?_⟩
    by_cases h4 : k + 1 = i
    · right; exact fun q => h3 ⟨h4, q⟩
    · left; exact h4
/-! ===== the world: launch, class numbers, array classes, where the heap began, the constants' texts ===== -/
abbrev ssG : Type := Launch × va_G × (Nat → ClassId) × Nat × (Nat → Nat) × (Nat → Nat)
def gL (G : ssG) : Launch := G.1
def gD (G : ssG) : va_G := G.2.1
def gC (G : ssG) : Nat → ClassId := G.2.2.1
def gz (G : ssG) : Nat := G.2.2.2.1
def gK (G : ssG) : Nat → Nat := G.2.2.2.2.1
def gV (G : ssG) : Nat → Nat := G.2.2.2.2.2
def gA (G : ssG) : Nat → Prop := fun q => gz G ≤ q
def ssTys (G : ssG) : List (ClassId × FieldType) := [(gC G 0, .int), (gC G 1, .byte), (gC G 2, .long), (gC G 3, .object "SafeSenate$Moment")]
def ce (G : ssG) : ssE → va_E
  | .inl (t, x) => .inl (gC G t, x)
  | .inr o => .inr o
def ssWd (G : ssG) (h : ssH) (H : Heap) : Prop := ∃ ws : va_W, (∀ a e, h a = some e → ∃ i : Nat, ws[i]? = some (a, ce G e)) ∧ va_P (gD G) vwCl ws H ∧ va_D (gA G) ws
def ssZq (G : ssG) (U : State) (H : Heap) : Prop := va_Zq "jdk/internal/util/Preconditions" "SIOOBE_FORMATTER" "Ljava/util/function/BiFunction;" (gA G) U H ∧ vx_Zq Bundle.tN "UNASSIGNED_STACK" Bundle.steD (gA G) U H ∧ vx_Zq Bundle.tN "SUPPRESSED_SENTINEL" Bundle.listD (gA G) U H ∧ va_T .int (gV G 23) (gV G 24) (fun k => .int (zI ↑(gV G (30 + k)))) (gA G) U H
theorem ssZq.moved {G : ssG} {s U : State} {H : Heap} (hvm : s.vm.Alike U.vm) (h : ssZq G s H) : ssZq G U H := ⟨va_Zq.moved hvm h.1, vx_Zq.moved hvm h.2.1, vx_Zq.moved hvm h.2.2.1, va_T.moved hvm h.2.2.2⟩
theorem ssZq.kept {G : ssG} {U : State} {H H1 : Heap} (h : ssZq G U H) (hq : ∀ a : Nat, a < H.size → ¬ gA G a → H1[a]? = H[a]?) : ssZq G U H1 := ⟨va_Zq.kept h.1 hq, vx_Zq.kept h.2.1 hq, vx_Zq.kept h.2.2.1 hq, va_T.kept h.2.2.2 hq⟩
def ssX (G : ssG) (U : State) (H : Heap) : Prop := vk_S 22 ssSl ssSb (gK G) (gV G) (gA G) U H ∧ (∀ q ∈ ssSR, vk_R q.1 q.2.1 (ssTx.getD q.2.2 "") (gK G q.2.2) U) ∧ (va_Z "java/lang/String" "COMPACT_STRINGS" "Z" (.int 1) (gA G) U H ∧ ssZq G U H) ∧ va_AO "SafeSenate$Moment" U ∧ ∀ w ∈ ssNest, va_Nw w U
theorem nest_warm {w : Cond} (hw : isNest w = true) {s U : State} (hW : s.WarmedH U.vm) (h : va_Nw w s) : va_Nw w U := by
  cases w <;> first | exact va_Nw.warmF hW h | exact va_Nw.warmM hW h | exact va_Nw.warmC hW h | exact va_Nw.warmD hW h | (simp [isNest] at hw)
theorem ssX.warm {G : ssG} {s U : State} {H : Heap} (hW : s.WarmedH U.vm) (h : ssX G s H) : ssX G U H := ⟨vk_S.moved hW.alike h.1, fun q hq => vk_R.warm hW (h.2.1 q hq), ⟨va_Z.moved hW.alike h.2.2.1.1, ssZq.moved hW.alike h.2.2.1.2⟩, va_AO.moved hW.alike h.2.2.2.1, fun w hw => nest_warm (List.mem_filter.mp hw).2 hW (h.2.2.2.2 w hw)⟩
theorem ssX.kept {G : ssG} {U : State} {H H1 : Heap} (h : ssX G U H) (hq : ∀ a : Nat, a < H.size → ¬ gA G a → H1[a]? = H[a]?) : ssX G U H1 := ⟨h.1.kept hq, h.2.1, ⟨h.2.2.1.1.kept hq, h.2.2.1.2.kept hq⟩, h.2.2.2⟩
def ssP (G : ssG) (As : List Value) (h : ssH) : Array Value → State → Prop := va_Pc As (fun U => gz G ≤ U.heap.size ∧ ssWd G h U.heap ∧ va_K (gD G) vwCl (ssTys G) U ∧ ssX G U U.heap)
theorem ssP_blind (G : ssG) (As : List Value) (h : ssH) : FrameBlind (ssP G As h) := fun a U g mk q => by
  obtain ⟨q0, q1, q2, q3, q4⟩ := q
  exact ⟨q0, q1, q2, va_K.moved (u := U) (U := U.calling g mk a) (Vm.Alike.refl U.vm) q3, ssX.warm (s := U) (U := U.calling g mk a) (State.WarmedH.refl U) q4⟩
def ssQ (G : ssG) (Q : Option Value → ssH → Prop) : Array Value → State → Outcome → State → Prop := fun _ st o t => (∃ r h', o = .returned r ∧ Q r h' ∧ ssWd G h' t.heap) ∧ va_F (gA G) st t
def ssCx (G : ssG) (M : ssM) (p : Program) (s : State) (m : MethodId) (args : Array Value) (meth : Method) (c : Code) : Prop :=
  p.tables.exec = Jvm.exec ∧ c.code = ssCC M ∧ meth.sig.returnType = ssRet M ∧ c.maxLocals = ssML M ∧ s.vm.findClass (ssY M).cls = some m.cls ∧ (∀ w ∈ ssTbl, w.before args s = true) ∧ meth.locks = false ∧ meth.name = (ssY M).name ∧ va_K (gD G) vwCl (ssTys G) s ∧ ssX G s s.heap ∧ gz G ≤ s.heap.size ∧ ssOk M = true
def ssRm (D mc ms : Nat) : Room := { frames := D, cells := mc, slots := ms, locals := 64 * D }
/-- from here the method comes to its end, with Q of its answer and of the heap; D frames, mc cells and ms slots are left for it -/
def ssV (G : ssG) (M : ssM) (D mc ms : Nat) (Q : Option Value → ssH → Prop) (pc : Nat) (ls : List (Option Value)) (st : List Value) (h : ssH) : Prop :=
  ∀ (p : Program) (e : Env) (s : State) (m : MethodId) (args : Array Value) (below : List Frame) (meth : Method) (c : Code) (R : Room) (H : Heap) (locs : List Loc) (cells slots MC MS : Nat) (la : Array Slot),
    ssCx G M p s m args meth c → (D ≤ R.frames ∧ 64 * D ≤ R.locals ∧ cells + mc ≤ MC ∧ MC ≤ R.cells ∧ slots + ms ≤ MS ∧ MS ≤ R.slots) → ssWd G h H → va_S (gA G) s.heap H locs → ssL la (ssML M) ls →
    W p (gL G) e R s m args below meth c H locs cells slots (MQ below (ssQ G Q) args s MC MS (gA G)) (F0 m pc la st)
/-- a method's contract -/
def ssC (G : ssG) (M : ssM) (D mc ms : Nat) (As : List Value) (h : ssH) (Q : Option Value → ssH → Prop) : Prop :=
  Met (gL G) (ssY M) (Cond.code (ssY M) (ssCC M) (ssML M) (ssRet M) :: ssTbl) (ssRm D mc ms) (ssP G As h) (ssQ G Q) mc ms (gA G)
section SSA
variable {G : ssG} {M : ssM} {D mc ms : Nat} {Q : Option Value → ssH → Prop} {pc : Nat} {ls : List (Option Value)} {st : List Value} {h : ssH}
theorem c_of_v {As : List Value} (hok : ssOk M = true) (hpl : plainName (ssY M).cls = true) (hls : prs ls 0 = lv_args 0 As) (hn : (lg_sl As).length ≤ ssML M) (hv : ssV G M D mc ms Q 0 ls [] h) : ssC G M D mc ms As h Q := by
  refine Met.ofW (cc := ssCC M) (maxL := ssML M) (ret := ssRet M) hpl rfl ?_
  intro p e s m args below meth c s₁ B hml hv0
  obtain ⟨rfl, h1, h2, h3, h4⟩ := hv0
  rw [lg_entry_eq]
  have hts := atoms_spec (ws := Cond.code (ssY M) (ssCC M) (ssML M) (ssRet M) :: ssTbl) B.pre
  have hl := lv_entry As (n := ssML M) hn
  refine hv p e s m As.toArray below meth c (ssRm D mc ms) s.heap [] 0 0 mc ms _ ⟨B.exec, B.bytes, B.returns, hml, findClass_of_methodNamed B.named, fun w hw => hts w (List.mem_cons_of_mem _ hw), B.notSynchronized, (name_of_methodNamed B.named B.method).1, h3, h4, h1, hok⟩ ⟨Nat.le_refl _, Nat.le_refl _, by omega, Nat.le_refl _, by omega, Nat.le_refl _⟩ h2 va_S.rf ?_
  unfold ssL
  rw [hls]
  exact hl
theorem ssC.weak {As : List Value} {Q' : Option Value → ssH → Prop} (hc : ssC G M D mc ms As h Q) (hq : ∀ r h', Q r h' → Q' r h') : ssC G M D mc ms As h Q' := by
  intro p e ha hcc hk s m args below hf h1 h2 h3
  obtain ⟨t, o, a1, a2, a3, a4, a5⟩ := hc p e ha hcc hk s m args below hf h1 h2 h3
  obtain ⟨⟨r, h', b1, b2, b3⟩, b4⟩ := a4
  exact ⟨t, o, a1, a2, a3, ⟨⟨r, h', b1, hq r h' b2, b3⟩, b4⟩, a5⟩
/-- the steps that touch the locals and the operands alone -/
def sst (M : ssM) (pc : Nat) (ls : List (Option Value)) (st : List Value) : Option (Nat × List (Option Value) × List Value) :=
  match ssLk M pc with
  | none => none
  | some (i, n, r, v) => match i, n, st with
    | .iconst _, 1, st => match v with | .int x => some (pc + 1, ls, .int x :: st) | _ => none
    | .bipush _, 2, st => match v with | .int x => some (pc + 2, ls, .int x :: st) | _ => none
    | .sipush _, 3, st => match v with | .int x => some (pc + 3, ls, .int x :: st) | _ => none
    | .lconst _, 1, st => match v with | .long x => some (pc + 1, ls, .long x :: st) | _ => none
    | .aconst_null, 1, st => some (pc + 1, ls, .null :: st)
    | .iload k, 2, st => match ls[k]? with | some (some (.int x)) => some (pc + 2, ls, .int x :: st) | _ => none
    | .iload_n k, 1, st => match ls[k.val]? with | some (some (.int x)) => some (pc + 1, ls, .int x :: st) | _ => none
    | .lload k, 2, st => match ls[k]? with | some (some (.long x)) => some (pc + 2, ls, .long x :: st) | _ => none
    | .lload_n k, 1, st => match ls[k.val]? with | some (some (.long x)) => some (pc + 1, ls, .long x :: st) | _ => none
    | .aload k, 2, st => match ls[k]? with | some (some (.ref x)) => some (pc + 2, ls, .ref x :: st) | some (some .null) => some (pc + 2, ls, .null :: st) | _ => none
    | .aload_n k, 1, st => match ls[k.val]? with | some (some (.ref x)) => some (pc + 1, ls, .ref x :: st) | some (some .null) => some (pc + 1, ls, .null :: st) | _ => none
    | .istore k, 2, .int x :: st => if k < ssML M then some (pc + 2, st1 ls k (.int x), st) else none
    | .istore_n k, 1, .int x :: st => if k.val < ssML M then some (pc + 1, st1 ls k.val (.int x), st) else none
    | .lstore k, 2, .long x :: st => if (k + 1) < ssML M then some (pc + 2, stN (st1 ls k (.long x)) (k + 1), st) else none
    | .lstore_n k, 1, .long x :: st => if (k.val + 1) < ssML M then some (pc + 1, stN (st1 ls k.val (.long x)) (k.val + 1), st) else none
    | .astore k, 2, .ref x :: st => if k < ssML M then some (pc + 2, st1 ls k (.ref x), st) else none
    | .astore_n k, 1, .ref x :: st => if k.val < ssML M then some (pc + 1, st1 ls k.val (.ref x), st) else none
    | .iinc k _, 3, st => match v, ls[k]? with | .int y, some (some (.int x)) => if k < ssML M then some (pc + 3, st1 ls k (.int (x + y)), st) else none | _, _ => none
    | .iadd, 1, .int y :: .int x :: st => some (pc + 1, ls, .int (x + y) :: st)
    | .isub, 1, .int y :: .int x :: st => some (pc + 1, ls, .int (x - y) :: st)
    | .imul, 1, .int y :: .int x :: st => some (pc + 1, ls, .int (x * y) :: st)
    | .iand, 1, .int y :: .int x :: st => some (pc + 1, ls, .int (x &&& y) :: st)
    | .ior, 1, .int y :: .int x :: st => some (pc + 1, ls, .int (x ||| y) :: st)
    | .ixor, 1, .int y :: .int x :: st => some (pc + 1, ls, .int (x ^^^ y) :: st)
    | .ineg, 1, .int x :: st => some (pc + 1, ls, .int (-x) :: st)
    | .ishl, 1, .int y :: .int x :: st => some (pc + 1, ls, .int (x <<< (y &&& 31)) :: st)
    | .ishr, 1, .int y :: .int x :: st => some (pc + 1, ls, .int (x >>> (y &&& 31)) :: st)
    | .iushr, 1, .int y :: .int x :: st => some (pc + 1, ls, .int (x.toUInt32 >>> (y.toUInt32 &&& Int32.toUInt32 31)).toInt32 :: st)
    | .ladd, 1, .long y :: .long x :: st => some (pc + 1, ls, .long (x + y) :: st)
    | .lsub, 1, .long y :: .long x :: st => some (pc + 1, ls, .long (x - y) :: st)
    | .lmul, 1, .long y :: .long x :: st => some (pc + 1, ls, .long (x * y) :: st)
    | .lor, 1, .long y :: .long x :: st => some (pc + 1, ls, .long (x ||| y) :: st)
    | .lshl, 1, .int y :: .long x :: st => some (pc + 1, ls, .long (x <<< (y.toInt64 &&& 63)) :: st)
    | .lcmp, 1, .long y :: .long x :: st => some (pc + 1, ls, .int (lg_cmp x y) :: st)
    | .i2l, 1, .int x :: st => some (pc + 1, ls, .long x.toInt64 :: st)
    | .l2i, 1, .long x :: st => some (pc + 1, ls, .int x.toInt32 :: st)
    | .i2b, 1, .int x :: st => some (pc + 1, ls, .int x.toInt8.toInt32 :: st)
    | .dup, 1, .int x :: st => some (pc + 1, ls, .int x :: .int x :: st)
    | .dup, 1, .ref x :: st => some (pc + 1, ls, .ref x :: .ref x :: st)
    | .dup2, 1, .int y :: .ref x :: st => some (pc + 1, ls, .int y :: .ref x :: .int y :: .ref x :: st)
    | .pop, 1, .int _ :: st => some (pc + 1, ls, st)
    | .dup_x1, 1, .int y :: .ref x :: st => some (pc + 1, ls, .int y :: .ref x :: .int y :: st)
    | .dup_x2, 1, .int y :: .int z :: .ref x :: st => some (pc + 1, ls, .int y :: .int z :: .ref x :: .int y :: st)
    | .goto _, 3, st => match r with | [t] => some (t, ls, st) | _ => none
    | .ifnull _, 3, .ref _ :: st => some (pc + 3, ls, st)
    | .ifnull _, 3, .null :: st => match r with | [t] => some (t, ls, st) | _ => none
    | .ifnonnull _, 3, .null :: st => some (pc + 3, ls, st)
    | .ifnonnull _, 3, .ref _ :: st => match r with | [t] => some (t, ls, st) | _ => none
    | .ldc _, 2, st => match v, r with | .int x, [_] => some (pc + 2, ls, .int x :: st) | _, _ => none
    | .ldc_w _, 3, st => match v, r with | .int x, [_] => some (pc + 3, ls, .int x :: st) | _, _ => none
    | .ldc2_w _, 3, st => match v, r with | .long x, [_] => some (pc + 3, ls, .long x :: st) | _, _ => none
    | _, _, _ => none
end SSA
