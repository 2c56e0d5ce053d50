/-! ===== the world at the law's entry ===== -/
def nF : List Cond := flatC (Jvm.Cond.and given_1 narrow_1)
def inF (k : Nat) (w : Cond) : Bool := decide (nF[k]? = some w)
theorem inF_mem {k : Nat} {w : Cond} (h : inF k w = true) : w ∈ nF := List.mem_of_getElem? (of_decide_eq_true h)
def inL (k : Nat) (w : Cond) : Bool := decide (lw_tbl[k]? = some w)
theorem inL_mem {k : Nat} {w : Cond} (h : inL k w = true) : w ∈ lw_tbl := List.mem_of_getElem? (of_decide_eq_true h)
def ixS : List (String × Nat) := [("SafeSenateModel", 127), ("SafeSenateModel", 129), ("SafeSenateModel", 131), ("SafeSenateModel", 133), ("SafeSenateModel", 135), ("SafeSenateModel", 137), ("SafeSenateModel", 139), ("SafeSenateModel", 141), ("SafeSenateModel", 143), ("SafeSenateModel", 210), ("SafeSenateModel", 215), ("SafeSenateModel", 217), ("SafeSenateModel", 219), ("SafeSenateModel", 238), ("SafeSenateModel", 251), ("SafeSenateModel", 256), ("SafeSenateModel", 258), ("SafeSenateModel", 272), ("SafeSenateModel", 245), ("SafeSenateModel", 247), ("SafeSenateModel", 249), ("SafeSenate$Reader", 32)]
def tmS (i : Nat) : Term := .string (ixS.getD i ("", 0)).1 (ixS.getD i ("", 0)).2
def vlS (i : Nat) : Term := .field (tmS i) "java/lang/String" "value" "[B"
def plS : List (List Nat) := [[140, 141, 142, 143, 144, 145, 146, 147], [200, 201, 202, 203, 204, 205, 206, 207], [214, 215, 216, 217, 218, 219, 220, 221, 222, 223, 224], [232, 233, 234, 235, 236, 237, 238], [247, 248, 249, 250, 251, 252, 253], [263, 264, 265, 266, 267, 268, 269, 270, 271], [282, 283, 284, 285, 286, 287, 288, 289, 290, 291, 292], [304, 305, 306, 307, 308, 309, 310, 311], [324, 325, 326, 327, 328, 329, 330, 331], [149, 150, 151, 152, 153, 154, 155, 156, 157, 158], [161, 162, 163, 164, 165, 166, 167, 168], [172, 173, 174, 175, 176, 177, 178, 179, 180, 181, 182], [187, 188, 189, 190, 191, 192, 193, 194], [345, 346, 347, 348, 349, 350, 351], [441, 442, 443, 444, 445, 446], [465, 466, 467, 468, 469, 470, 471, 472], [492, 493, 494, 495, 496, 497, 498, 499, 500], [521, 522, 523, 524, 525, 526, 527], [366, 367, 368, 369, 370, 371, 372, 373, 374], [390, 391, 392, 393, 394, 395, 396, 397, 398, 399], [416, 417, 418, 419, 420, 421, 422, 423], [22, 23, 24, 25, 26, 27, 28, 29, 30, 31, 32, 33, 34, 35, 36, 37, 38, 39, 40, 41, 42, 43, 44, 45, 46, 47, 48, 49, 50, 51, 52, 53, 54, 55, 56, 57, 58, 59, 60, 61, 62, 63, 64, 65, 66, 67, 68, 69, 70, 71, 72, 73, 74, 75, 76, 77, 78, 79, 80, 81, 82, 83, 84, 85, 86, 87, 88, 89, 90, 91, 92, 93, 94, 95, 96, 97, 98, 99, 100, 101, 102, 103, 104, 105, 106, 107, 108, 109, 110, 111, 112, 113, 114, 115, 116, 117, 118, 119, 120, 121, 122, 123, 124, 125, 126, 127, 128, 129, 130, 131, 132, 133, 134, 135, 136, 137, 138, 139]]
def pS (i k : Nat) : Nat := (plS.getD i []).getD k 0
def wchS (i : Nat) : Bool := inF (pS i 0) (.exactly (tmS i) "java/lang/String") && inF (pS i 1) (.eq (.field (tmS i) "java/lang/String" "coder" "B") (.int 0)) && inF (pS i 2) (.arrayOf (vlS i) .byte) && inF (pS i 3) (.eq (.length (vlS i)) (.int (Int32.ofNat (ssSl.getD i 0)))) && (List.range (ssSl.getD i 0)).all (fun j => inF (pS i (4 + j)) (.eq (.elem (vlS i) (.int (Int32.ofNat j))) (.int ((ssSb.getD i []).getD j 0))))
set_option maxRecDepth 100000 in
theorem wchS_ok : (List.range 22).all wchS = true := by decide +kernel
set_option maxRecDepth 100000 in
theorem txt_inj : ∀ i, i < 22 → ∀ j, j < 22 → Int32.ofNat (ssSl.getD i 0) = Int32.ofNat (ssSl.getD j 0) → (∀ k, k < ssSl.getD i 0 → (ssSb.getD i []).getD k 0 = (ssSb.getD j []).getD k 0) → i = j := by decide +kernel
set_option maxRecDepth 100000 in
theorem txt_len : ∀ i, i < 22 → ssSl.getD i 0 < 2 ^ 31 := by decide +kernel
def plR : List Nat := [155, 1479, 1497, 1509, 1510, 1511, 1512, 1529, 1530, 1531, 1532, 1533, 1534, 1535, 1540, 1549, 1550, 1551, 1552, 1561, 1562, 1567]
def wchR (n : Nat) : Bool := match ssSR[n]?, plR[n]? with
  | some q, some p => inL p (.stringRef q.1 q.2.1 (ssTx.getD q.2.2 "")) && decide (q.2.2 < 22) && decide (q.1 = (ixS.getD q.2.2 ("", 0)).1) && decide (q.2.1 = (ixS.getD q.2.2 ("", 0)).2)
  | _, _ => false
set_option maxRecDepth 100000 in
theorem wchR_ok : (List.range 22).all wchR = true ∧ ssSR.length = 22 := by decide +kernel
set_option maxRecDepth 100000 in
theorem wchZ : (inF 4 (.eq (.static "java/lang/String" "COMPACT_STRINGS" "Z") (.int 1)) && inF 5 (.isRef (.static "jdk/internal/util/Preconditions" "SIOOBE_FORMATTER" "Ljava/util/function/BiFunction;")) && inF 9 (.isRef (.static Bundle.tN "UNASSIGNED_STACK" Bundle.steD)) && inF 10 (.isRef (.static Bundle.tN "SUPPRESSED_SENTINEL" Bundle.listD)) && inL 165 (.laysStatic "java/lang/String" "COMPACT_STRINGS" "Z") && inL 181 (.laysStatic "jdk/internal/util/Preconditions" "SIOOBE_FORMATTER" "Ljava/util/function/BiFunction;") && inL 1218 (.laysStatic Bundle.tN "UNASSIGNED_STACK" Bundle.steD) && inL 1220 (.laysStatic Bundle.tN "SUPPRESSED_SENTINEL" Bundle.listD) && inL 116 (.initialized "java/lang/String") && inL 118 (.initialized "jdk/internal/util/Preconditions") && inL 131 (.initialized Bundle.tN) && inL 455 (.arrayOver (.object "SafeSenate$Moment")) && ssNest.all (fun w => w.onTables)) = true := by decide +kernel
theorem eval_len {args : Array Value} {s : State} {t u : Term} (e : t.eval args s none [] s = u.eval args s none [] s) (o n d : String) : (Term.length (.field t o n d)).eval args s none [] s = (Term.length (.field u o n d)).eval args s none [] s := by simp only [Term.eval, e]
theorem eval_elem {args : Array Value} {s : State} {t u : Term} (e : t.eval args s none [] s = u.eval args s none [] s) (o n d : String) (z : Term) : (Term.elem (.field t o n d) z).eval args s none [] s = (Term.elem (.field u o n d) z).eval args s none [] s := by simp only [Term.eval, e]
theorem str_world {args : Array Value} {s : State} {A : Nat → Prop} (hF : ∀ w ∈ nF, w.before args s = true) (hA : ∀ a : Nat, a < s.heap.size → ¬ A a) : ∃ adK adV : Nat → Nat, vk_S 22 ssSl ssSb adK adV A s s.heap ∧ ∀ i : Nat, i < 22 → (tmS i).eval args s none [] s = some (.ref (adK i)) := by
  have hch : ∀ i, i < 22 → wchS i = true := fun i hi => List.all_eq_true.mp wchS_ok i (List.mem_range.mpr hi)
  have hw : ∀ i, i < 22 → (Cond.exactly (tmS i) "java/lang/String").before args s = true ∧ (Cond.eq (.field (tmS i) "java/lang/String" "coder" "B") (.int 0)).before args s = true ∧ (Cond.arrayOf (vlS i) .byte).before args s = true ∧ (Cond.eq (.length (vlS i)) (.int (Int32.ofNat (ssSl.getD i 0)))).before args s = true ∧ ∀ j, j < ssSl.getD i 0 → (Cond.eq (.elem (vlS i) (.int (Int32.ofNat j))) (.int ((ssSb.getD i []).getD j 0))).before args s = true := fun i hi => by
    have h := hch i hi
    simp only [wchS, Bool.and_eq_true] at h
    obtain ⟨⟨⟨⟨h1, h2⟩, h3⟩, h4⟩, h5⟩ := h
    exact ⟨hF _ (inF_mem h1), hF _ (inF_mem h2), hF _ (inF_mem h3), hF _ (inF_mem h4), fun j hj => hF _ (inF_mem (List.all_eq_true.mp h5 j (List.mem_range.mpr hj)))⟩
  have h0 : ∀ i : Nat, ∃ q : Nat × Nat, i < 22 → (tmS i).eval args s none [] s = some (.ref q.1) ∧ va_O "java/lang/String" q.1 A s s.heap ∧ va_OF "java/lang/String" "coder" "B" (.int 0) q.1 A s s.heap ∧ va_OF "java/lang/String" "value" "[B" (.ref q.2) q.1 A s s.heap ∧ va_T .byte q.2 (ssSl.getD i 0) (fun j => .int ((ssSb.getD i []).getD j 0)) A s s.heap := by
    intro i
    by_cases hi : i < 22
    · obtain ⟨w1, w2, w3, w4, w5⟩ := hw i hi
      obtain ⟨a, c, cA, kA, q1, q2, q3, q4, q5, q6, -⟩ := Cond.exactly_spec (args := args) (first := s) (o := none) (s := s) (idx := []) (t := tmS i) (cls := "java/lang/String") w1
      obtain ⟨t, ht, hT⟩ := va_Tof (f := fun j => .int ((ssSb.getD i []).getD j 0)) (A := A) (txt_len i hi) w3 (va_eqt w4) (fun j hj => va_eqt (w5 j hj)) hA
      exact ⟨(a, t), fun _ => ⟨q1, ⟨cA, q3, q5, by rw [q6]; exact q2, hA a (Array.getElem?_eq_some_iff.mp q3).1⟩, vk_OFof q1 (va_eqt w2) hA, vk_OFof q1 ht hA, hT⟩⟩
    · exact ⟨(0, 0), fun h => absurd h hi⟩
  obtain ⟨ad, had⟩ := Classical.axiomOfChoice h0
  refine ⟨fun i => (ad i).1, fun i => (ad i).2, ⟨fun i hi => (had i hi).2, fun i j hi hj e => ?_⟩, fun i hi => (had i hi).1⟩
  have ee : (tmS i).eval args s none [] s = (tmS j).eval args s none [] s := by rw [(had i hi).1, (had j hj).1]; simp only at e; rw [e]
  have l1 := va_eqt (hw i hi).2.2.2.1
  have l2 := va_eqt (hw j hj).2.2.2.1
  have l3 : Int32.ofNat (ssSl.getD i 0) = Int32.ofNat (ssSl.getD j 0) := by
    have := (l1.symm.trans (eval_len ee _ _ _)).trans l2
    simpa using this
  have l4 : ssSl.getD i 0 = ssSl.getD j 0 := by
    have a1 := txt_len i hi
    have a2 := txt_len j hj
    have := congrArg Int32.toInt l3
    rwa [Int32.toInt_ofNat_of_lt a1, Int32.toInt_ofNat_of_lt a2, Int.natCast_inj] at this
  refine txt_inj i hi j hj l3 (fun k hk => ?_)
  have b1 := va_eqt ((hw i hi).2.2.2.2 k hk)
  have b2 := va_eqt ((hw j hj).2.2.2.2 k (l4 ▸ hk))
  have := (b1.symm.trans (eval_elem ee _ _ _ _)).trans b2
  simpa using this
theorem cls_world {args : Array Value} {s : State} (hts : ∀ w ∈ lw_tbl, w.before args s = true) : ∃ (dC : Nat → ClassId) (dI : Nat → Nat → Nat), ∀ (k : Nat) (q : vw_C), vwCl[k]? = some q → u_Kn s q.1 q.2.1 q.2.2 (dC k) (dI k) := by
  have hT : ∀ w ∈ ssTbl, w.before args s = true := fun w hw => hts w (List.mem_filter.mp hw).1
  have h0 : ∀ k : Nat, ∃ p : ClassId × (Nat → Nat), ∀ q : vw_C, vwCl[k]? = some q → u_Kn s q.1 q.2.1 q.2.2 p.1 p.2 := by
    intro k
    cases hk : vwCl[k]? with
    | none => exact ⟨(default, fun _ => 0), fun q hq => by cases hq⟩
    | some r =>
      obtain ⟨c1, -, -, c4, -⟩ := ss_cls k r hk
      obtain ⟨cC, iS, hu⟩ := u_known hT c1 (hT _ c4)
      exact ⟨(cC, iS), fun q hq => by cases hq; exact hu⟩
  obtain ⟨f, hf⟩ := Classical.axiomOfChoice h0
  exact ⟨fun k => (f k).1, fun k => (f k).2, fun k q hq => hf k q hq⟩
theorem arr_world {args : Array Value} {s : State} (hts : ∀ w ∈ lw_tbl, w.before args s = true) (hao : (Cond.arrayOver (.object "SafeSenate$Moment")).before args s = true) : ∃ gc : Nat → ClassId, ∀ (k : Nat) (q : ClassId × FieldType), ([(gc 0, .int), (gc 1, .byte), (gc 2, .long), (gc 3, .object "SafeSenate$Moment")] : List (ClassId × FieldType))[k]? = some q → ArrOfT s q.1 q.2 ∧ va_RA s q.1 q.2 := by
  obtain ⟨c0, k0, p0, a1, a2, a3⟩ := Cond.arrayClass_spec (hts _ (List.mem_filter.mp (inT_mem inAI)).1)
  obtain ⟨c1, k1, p1, b1, b2, b3⟩ := Cond.arrayClass_spec (hts _ (List.mem_filter.mp (inT_mem inAB)).1)
  obtain ⟨c2, k2, p2, d1, d2, d3⟩ := Cond.arrayClass_spec (hts _ (List.mem_filter.mp (inT_mem inAJ)).1)
  obtain ⟨p3, c3, k3, e1, -, e3, e4, e5⟩ := Cond.arrayOver_spec hao
  refine ⟨fun k => if k = 0 then c0 else if k = 1 then c1 else if k = 2 then c2 else c3, fun k q hq => ?_⟩
  match k, hq with
  | 0, hq => cases hq; exact ⟨fun n z => ⟨fun k h => (by cases h), k0, a2, p0, a3⟩, a1⟩
  | 1, hq => cases hq; exact ⟨fun n z => ⟨fun k h => (by cases h), k1, b2, p1, b3⟩, b1⟩
  | 2, hq => cases hq; exact ⟨fun n z => ⟨fun k h => (by cases h), k2, d2, p2, d3⟩, d1⟩
  | 3, hq => cases hq; exact ⟨fun n z => ⟨fun k h => (by cases h), k3, e3, p3, e4⟩, ⟨k3, p3, e3, e4, e1, e5⟩⟩
  | n + 4, hq => simp at hq
theorem zI_bt (x : Int32) : zI ↑x.toBitVec.toNat = x := by
  apply Int32.toBitVec_inj.mp
  show (Int32.ofInt ↑x.toBitVec.toNat).toBitVec = _
  rw [Int32.toBitVec_ofInt, BitVec.ofInt_natCast, BitVec.ofNat_toNat, BitVec.setWidth_eq]

