/-! ===== the judgement for a method that may throw ===== -/
def ssVx (G : ssG) (M : ssM) (D mc ms : Nat) (Q : Option Value → ssH → Prop) (XC : String → State → State → Prop) (pc : Nat) (ls : List (Option Value)) (st : List Value) (h : ssH) : Prop :=
  ∀ (p : Program) (e : Env) (s : State) (m : MethodId) (args : Array Value) (below : List Frame) (meth : Method) (c : Code) (R : Room) (H : Heap) (locs : List Loc) (cells slots MC MS : Nat) (la : Array Slot),
    ssCx G M p s m args meth c → (D ≤ R.frames ∧ 64 * D ≤ R.locals ∧ cells + mc ≤ MC ∧ MC ≤ R.cells ∧ slots + ms ≤ MS ∧ MS ≤ R.slots ∧ ∀ x ∈ c.exceptionTable.toList, False) → ssWd G h H → va_S (gA G) s.heap H locs → ssL la (ssML M) ls →
    W p (gL G) e R s m args below meth c H locs cells slots (vx_MQ below (ssQ G Q) XC args s MC MS (gA G)) (F0 m pc la st)

section SSB
variable {G : ssG} {M : ssM} {D mc ms : Nat} {Q : Option Value → ssH → Prop} {XC : String → State → State → Prop} {pc pc' : Nat} {ls ls' : List (Option Value)} {st st' : List Value} {h : ssH}
theorem x_lift (row : ∀ (p : Program) (e : Env) (s : State) (m : MethodId) (args : Array Value) (below : List Frame) (meth : Method) (c : Code) (R : Room) (H : Heap) (locs : List Loc) (cells slots : Nat) (Q' : State → Prop) (la : Array Slot), p.tables.exec = Jvm.exec → c.code = ssCC M → s.vm.findClass (ssY M).cls = some m.cls → (∀ w ∈ ssTbl, w.before args s = true) → ssOk M = true → ssL la (ssML M) ls → W p (gL G) e R s m args below meth c H locs cells slots Q' (F0 m pc' la st') → W p (gL G) e R s m args below meth c H locs cells slots Q' (F0 m pc la st)) (kk : ssVx G M D mc ms Q XC pc' ls st' h) : ssVx G M D mc ms Q XC pc ls st h := by
  intro p e s m args below meth c R H locs cells slots MC MS la hC hR hW hS hL
  exact row p e s m args below meth c R H locs cells slots _ la hC.1 hC.2.1 hC.2.2.2.2.1 hC.2.2.2.2.2.1 hC.2.2.2.2.2.2.2.2.2.2.2 hL (kk p e s m args below meth c R H locs cells slots MC MS la hC hR hW hS hL)
theorem x_liftL (row : ∀ (p : Program) (e : Env) (s : State) (m : MethodId) (args : Array Value) (below : List Frame) (meth : Method) (c : Code) (R : Room) (H : Heap) (locs : List Loc) (cells slots : Nat) (Q' : State → Prop) (la : Array Slot), p.tables.exec = Jvm.exec → c.code = ssCC M → ssOk M = true → ssL la (ssML M) ls → (∀ la', ssL la' (ssML M) ls' → W p (gL G) e R s m args below meth c H locs cells slots Q' (F0 m pc' la' st')) → W p (gL G) e R s m args below meth c H locs cells slots Q' (F0 m pc la st)) (kk : ssVx G M D mc ms Q XC pc' ls' st' h) : ssVx G M D mc ms Q XC pc ls st h := by
  intro p e s m args below meth c R H locs cells slots MC MS la hC hR hW hS hL
  exact row p e s m args below meth c R H locs cells slots _ la hC.1 hC.2.1 hC.2.2.2.2.2.2.2.2.2.2.2 hL (fun la' hl' => kk p e s m args below meth c R H locs cells slots MC MS la' hC hR hW hS hl')
set_option maxHeartbeats 4000000 in
theorem sstx_ok (hs : sst M pc ls st = some (pc', ls', st')) (kk : ssVx G M D mc ms Q XC pc' ls' st' h) : ssVx G M D mc ms Q XC pc ls st h := by
  unfold sst at hs
  split at hs
  · cases hs
  · rename_i i n r v hl
    split at hs
    · split at hs <;> cases hs
      exact x_lift (fun p e s m args below meth c R H locs cells slots Q' la hx hb ho ht hok hL k => lv_iconst hx hb (ssLk_ok hok hl).1 (of_decide_eq_true (ssLk_ok hok hl).2) k) kk
    · split at hs <;> cases hs
      exact x_lift (fun p e s m args below meth c R H locs cells slots Q' la hx hb ho ht hok hL k => lv_bipush hx hb (ssLk_ok hok hl).1 (of_decide_eq_true (ssLk_ok hok hl).2) k) kk
    · split at hs <;> cases hs
      exact x_lift (fun p e s m args below meth c R H locs cells slots Q' la hx hb ho ht hok hL k => lv_sipush hx hb (ssLk_ok hok hl).1 (of_decide_eq_true (ssLk_ok hok hl).2) k) kk
    · split at hs <;> cases hs
      exact x_lift (fun p e s m args below meth c R H locs cells slots Q' la hx hb ho ht hok hL k => lv_lconst hx hb (ssLk_ok hok hl).1 (of_decide_eq_true (ssLk_ok hok hl).2) k) kk
    · cases hs
      exact x_lift (fun p e s m args below meth c R H locs cells slots Q' la hx hb ho ht hok hL k => lv_null hx hb (ssLk_ok hok hl).1 k) kk
    · split at hs <;> cases hs
      rename_i hg
      exact x_lift (fun p e s m args below meth c R H locs cells slots Q' la hx hb ho ht hok hL k => lv_iload hx hb (ssLk_ok hok hl).1 (ssL_get hL hg) k) kk
    · split at hs <;> cases hs
      rename_i hg
      exact x_lift (fun p e s m args below meth c R H locs cells slots Q' la hx hb ho ht hok hL k => lv_iload_n hx hb (ssLk_ok hok hl).1 rfl (ssL_get hL hg) k) kk
    · split at hs <;> cases hs
      rename_i hg
      exact x_lift (fun p e s m args below meth c R H locs cells slots Q' la hx hb ho ht hok hL k => lv_lload hx hb (ssLk_ok hok hl).1 (ssL_get hL hg) k) kk
    · split at hs <;> cases hs
      rename_i hg
      exact x_lift (fun p e s m args below meth c R H locs cells slots Q' la hx hb ho ht hok hL k => lv_lload_n hx hb (ssLk_ok hok hl).1 rfl (ssL_get hL hg) k) kk
    · split at hs <;> cases hs
      · rename_i hg
        exact x_lift (fun p e s m args below meth c R H locs cells slots Q' la hx hb ho ht hok hL k => lv_aload hx hb (ssLk_ok hok hl).1 (ssL_get hL hg) k) kk
      · rename_i hg
        exact x_lift (fun p e s m args below meth c R H locs cells slots Q' la hx hb ho ht hok hL k => lv_aloadN hx hb (ssLk_ok hok hl).1 (ssL_get hL hg) k) kk
    · split at hs <;> cases hs
      · rename_i hg
        exact x_lift (fun p e s m args below meth c R H locs cells slots Q' la hx hb ho ht hok hL k => lv_aload_n hx hb (ssLk_ok hok hl).1 rfl (ssL_get hL hg) k) kk
      · rename_i hg
        exact x_lift (fun p e s m args below meth c R H locs cells slots Q' la hx hb ho ht hok hL k => lv_aload_nN hx hb (ssLk_ok hok hl).1 rfl (ssL_get hL hg) k) kk
    · split at hs <;> cases hs
      rename_i hn
      exact x_liftL (fun p e s m args below meth c R H locs cells slots Q' la hx hb hok hL k => lv_istore hx hb (ssLk_ok hok hl).1 hL hn rfl (fun la' hl' => k la' (ssL_st1 hl'))) kk
    · split at hs <;> cases hs
      rename_i hn
      exact x_liftL (fun p e s m args below meth c R H locs cells slots Q' la hx hb hok hL k => lv_istore_n hx hb (ssLk_ok hok hl).1 rfl hL hn rfl (fun la' hl' => k la' (ssL_st1 hl'))) kk
    · split at hs <;> cases hs
      rename_i hn
      exact x_liftL (fun p e s m args below meth c R H locs cells slots Q' la hx hb hok hL k => lv_lstore hx hb (ssLk_ok hok hl).1 hL hn rfl (fun la' hl' => k la' (ssL_st2 hl'))) kk
    · split at hs <;> cases hs
      rename_i hn
      exact x_liftL (fun p e s m args below meth c R H locs cells slots Q' la hx hb hok hL k => lv_lstore_n hx hb (ssLk_ok hok hl).1 rfl hL hn rfl (fun la' hl' => k la' (ssL_st2 hl'))) kk
    · split at hs <;> cases hs
      rename_i hn
      exact x_liftL (fun p e s m args below meth c R H locs cells slots Q' la hx hb hok hL k => lv_astore hx hb (ssLk_ok hok hl).1 hL hn rfl (fun la' hl' => k la' (ssL_st1 hl'))) kk
    · split at hs <;> cases hs
      rename_i hn
      exact x_liftL (fun p e s m args below meth c R H locs cells slots Q' la hx hb hok hL k => lv_astore_n hx hb (ssLk_ok hok hl).1 rfl hL hn rfl (fun la' hl' => k la' (ssL_st1 hl'))) kk
    · split at hs
      · split at hs <;> cases hs
        rename_i x y hg hn
        exact x_liftL (fun p e s m args below meth c R H locs cells slots Q' la hx hb hok hL k => by
          obtain ⟨k0, hk0⟩ := List.getElem?_of_mem ((prs_mem ls 0 _ _).mpr ⟨_, (Nat.zero_add _).symm, hg⟩)
          exact lv_iinc hx hb (ssLk_ok hok hl).1 hL hk0 (by rw [of_decide_eq_true (ssLk_ok hok hl).2]) hn rfl (fun la' hl' => k la' (ssL_st1 hl'))) kk
      · cases hs
    · cases hs
      exact x_lift (fun p e s m args below meth c R H locs cells slots Q' la hx hb ho ht hok hL k => lv_iadd hx hb (ssLk_ok hok hl).1 k) kk
    · cases hs
      exact x_lift (fun p e s m args below meth c R H locs cells slots Q' la hx hb ho ht hok hL k => lv_isub hx hb (ssLk_ok hok hl).1 k) kk
    · cases hs
      exact x_lift (fun p e s m args below meth c R H locs cells slots Q' la hx hb ho ht hok hL k => lv_imul hx hb (ssLk_ok hok hl).1 k) kk
    · cases hs
      exact x_lift (fun p e s m args below meth c R H locs cells slots Q' la hx hb ho ht hok hL k => lv_iand hx hb (ssLk_ok hok hl).1 k) kk
    · cases hs
      exact x_lift (fun p e s m args below meth c R H locs cells slots Q' la hx hb ho ht hok hL k => lv_ior hx hb (ssLk_ok hok hl).1 k) kk
    · cases hs
      exact x_lift (fun p e s m args below meth c R H locs cells slots Q' la hx hb ho ht hok hL k => lv_ixor hx hb (ssLk_ok hok hl).1 k) kk
    · cases hs
      exact x_lift (fun p e s m args below meth c R H locs cells slots Q' la hx hb ho ht hok hL k => lv_ineg hx hb (ssLk_ok hok hl).1 k) kk
    · cases hs
      exact x_lift (fun p e s m args below meth c R H locs cells slots Q' la hx hb ho ht hok hL k => lv_ishl hx hb (ssLk_ok hok hl).1 k) kk
    · cases hs
      exact x_lift (fun p e s m args below meth c R H locs cells slots Q' la hx hb ho ht hok hL k => lv_ishr hx hb (ssLk_ok hok hl).1 k) kk
    · cases hs
      exact x_lift (fun p e s m args below meth c R H locs cells slots Q' la hx hb ho ht hok hL k => lv_iushr hx hb (ssLk_ok hok hl).1 rfl k) kk
    · cases hs
      exact x_lift (fun p e s m args below meth c R H locs cells slots Q' la hx hb ho ht hok hL k => lv_ladd hx hb (ssLk_ok hok hl).1 k) kk
    · cases hs
      exact x_lift (fun p e s m args below meth c R H locs cells slots Q' la hx hb ho ht hok hL k => lv_lsub hx hb (ssLk_ok hok hl).1 k) kk
    · cases hs
      exact x_lift (fun p e s m args below meth c R H locs cells slots Q' la hx hb ho ht hok hL k => lv_lmul hx hb (ssLk_ok hok hl).1 k) kk
    · cases hs
      exact x_lift (fun p e s m args below meth c R H locs cells slots Q' la hx hb ho ht hok hL k => lv_lor hx hb (ssLk_ok hok hl).1 k) kk
    · cases hs
      exact x_lift (fun p e s m args below meth c R H locs cells slots Q' la hx hb ho ht hok hL k => lv_lshl hx hb (ssLk_ok hok hl).1 rfl k) kk
    · cases hs
      exact x_lift (fun p e s m args below meth c R H locs cells slots Q' la hx hb ho ht hok hL k => W.lcmp hx hb (ssLk_ok hok hl).1 k) kk
    · cases hs
      exact x_lift (fun p e s m args below meth c R H locs cells slots Q' la hx hb ho ht hok hL k => lv_i2l hx hb (ssLk_ok hok hl).1 rfl k) kk
    · cases hs
      exact x_lift (fun p e s m args below meth c R H locs cells slots Q' la hx hb ho ht hok hL k => lv_l2i hx hb (ssLk_ok hok hl).1 rfl k) kk
    · cases hs
      exact x_lift (fun p e s m args below meth c R H locs cells slots Q' la hx hb ho ht hok hL k => lv_i2b hx hb (ssLk_ok hok hl).1 rfl k) kk
    · cases hs
      exact x_lift (fun p e s m args below meth c R H locs cells slots Q' la hx hb ho ht hok hL k => lv_dup hx hb (ssLk_ok hok hl).1 rfl k) kk
    · cases hs
      exact x_lift (fun p e s m args below meth c R H locs cells slots Q' la hx hb ho ht hok hL k => lv_dup hx hb (ssLk_ok hok hl).1 rfl k) kk
    · cases hs
      exact x_lift (fun p e s m args below meth c R H locs cells slots Q' la hx hb ho ht hok hL k => lv_dup2_11 hx hb (ssLk_ok hok hl).1 rfl rfl k) kk
    · cases hs
      exact x_lift (fun p e s m args below meth c R H locs cells slots Q' la hx hb ho ht hok hL k => lv_pop hx hb (ssLk_ok hok hl).1 rfl k) kk
    · cases hs
      exact x_lift (fun p e s m args below meth c R H locs cells slots Q' la hx hb ho ht hok hL k => lv_dup_x1 hx hb (ssLk_ok hok hl).1 rfl rfl k) kk
    · cases hs
      exact x_lift (fun p e s m args below meth c R H locs cells slots Q' la hx hb ho ht hok hL k => lv_dup_x2 hx hb (ssLk_ok hok hl).1 rfl rfl rfl k) kk
    · split at hs <;> cases hs
      exact x_lift (fun p e s m args below meth c R H locs cells slots Q' la hx hb ho ht hok hL k => lv_goto hx hb (ssLk_ok hok hl).1 (of_decide_eq_true (ssLk_ok hok hl).2) k) kk
    · cases hs
      exact x_lift (fun p e s m args below meth c R H locs cells slots Q' la hx hb ho ht hok hL k => lv_ifnull hx hb (ssLk_ok hok hl).1 k) kk
    · split at hs <;> cases hs
      exact x_lift (fun p e s m args below meth c R H locs cells slots Q' la hx hb ho ht hok hL k => lv_ifnullN hx hb (ssLk_ok hok hl).1 (of_decide_eq_true (ssLk_ok hok hl).2) k) kk
    · cases hs
      exact x_lift (fun p e s m args below meth c R H locs cells slots Q' la hx hb ho ht hok hL k => lv_ifnonnullN hx hb (ssLk_ok hok hl).1 k) kk
    · split at hs <;> cases hs
      exact x_lift (fun p e s m args below meth c R H locs cells slots Q' la hx hb ho ht hok hL k => lv_ifnonnull hx hb (ssLk_ok hok hl).1 (of_decide_eq_true (ssLk_ok hok hl).2) k) kk
    · split at hs <;> cases hs
      exact x_lift (fun p e s m args below meth c R H locs cells slots Q' la hx hb ho ht hok hL k => lv_ldc hx hb ho (ht _ (inT_mem (ssLk_ok hok hl).2)) (ssLk_ok hok hl).1 k) kk
    · split at hs <;> cases hs
      exact x_lift (fun p e s m args below meth c R H locs cells slots Q' la hx hb ho ht hok hL k => lv_ldcw hx hb ho (ht _ (inT_mem (ssLk_ok hok hl).2)) (ssLk_ok hok hl).1 k) kk
    · split at hs <;> cases hs
      exact x_lift (fun p e s m args below meth c R H locs cells slots Q' la hx hb ho ht hok hL k => lv_ldc2 hx hb ho (ht _ (inT_mem (ssLk_ok hok hl).2)) (ssLk_ok hok hl).1 k) kk
    · cases hs
end SSB

section SSC
variable {G : ssG} {M : ssM} {D mc ms : Nat} {Q : Option Value → ssH → Prop} {XC : String → State → State → Prop} {pc pc' : Nat} {ls ls' : List (Option Value)} {st st' : List Value} {h : ssH} {r0 : List Nat} {v0 : Value}
theorem x_run (n : Nat) (hs : srun M n pc ls st = some (pc', ls', st')) (kk : ssVx G M D mc ms Q XC pc' ls' st' h) : ssVx G M D mc ms Q XC pc ls st h := by
  induction n generalizing pc ls st with
  | zero => simp only [srun, Option.some.injEq, Prod.mk.injEq] at hs; obtain ⟨rfl, rfl, rfl⟩ := hs; exact kk
  | succ n ih =>
    simp only [srun] at hs
    split at hs
    · rename_i a b c hq
      exact sstx_ok hq (ih hs)
    · cases hs
theorem x_forget {ls2 : List (Option Value)} (hs : ∀ q ∈ prs ls2 0, q ∈ prs ls 0) (kk : ssVx G M D mc ms Q XC pc ls2 st h) : ssVx G M D mc ms Q XC pc ls st h := by
  intro p e s m args below meth c R H locs cells slots MC MS la hC hR hW hS hL
  exact kk p e s m args below meth c R H locs cells slots MC MS la hC hR hW hS (lv_fewer hL hs)
/-- the returns -/
theorem x_icmp_eq {x y : Int32} {off : Int} {t : Nat} (hl : ssLk M pc = some (.if_icmp .eq off, 3, [t], v0)) (kt : x = y → ssVx G M D mc ms Q XC t ls st h) (kf : ¬ x = y → ssVx G M D mc ms Q XC (pc + 3) ls st h) : ssVx G M D mc ms Q XC pc ls (.int y :: .int x :: st) h := by
  intro p e s m args below meth c R H locs cells slots MC MS la hC hR hW hS hL
  have hok := hC.2.2.2.2.2.2.2.2.2.2.2
  exact lv_icmp_eq hC.1 hC.2.1 (ssLk_ok hok hl).1 (of_decide_eq_true (ssLk_ok hok hl).2) (fun q => kt q p e s m args below meth c R H locs cells slots MC MS la hC hR hW hS hL) (fun q => kf q p e s m args below meth c R H locs cells slots MC MS la hC hR hW hS hL)
theorem x_if_eq {x : Int32} {off : Int} {t : Nat} (hl : ssLk M pc = some (.ifCond .eq off, 3, [t], v0)) (kt : x = 0 → ssVx G M D mc ms Q XC t ls st h) (kf : ¬ x = 0 → ssVx G M D mc ms Q XC (pc + 3) ls st h) : ssVx G M D mc ms Q XC pc ls (.int x :: st) h := by
  intro p e s m args below meth c R H locs cells slots MC MS la hC hR hW hS hL
  have hok := hC.2.2.2.2.2.2.2.2.2.2.2
  exact lv_if_eq hC.1 hC.2.1 (ssLk_ok hok hl).1 (of_decide_eq_true (ssLk_ok hok hl).2) (fun q => kt q p e s m args below meth c R H locs cells slots MC MS la hC hR hW hS hL) (fun q => kf q p e s m args below meth c R H locs cells slots MC MS la hC hR hW hS hL)
theorem x_icmp_ne {x y : Int32} {off : Int} {t : Nat} (hl : ssLk M pc = some (.if_icmp .ne off, 3, [t], v0)) (kt : ¬ x = y → ssVx G M D mc ms Q XC t ls st h) (kf : x = y → ssVx G M D mc ms Q XC (pc + 3) ls st h) : ssVx G M D mc ms Q XC pc ls (.int y :: .int x :: st) h := by
  intro p e s m args below meth c R H locs cells slots MC MS la hC hR hW hS hL
  have hok := hC.2.2.2.2.2.2.2.2.2.2.2
  exact lv_icmp_ne hC.1 hC.2.1 (ssLk_ok hok hl).1 (of_decide_eq_true (ssLk_ok hok hl).2) (fun q => kt q p e s m args below meth c R H locs cells slots MC MS la hC hR hW hS hL) (fun q => kf q p e s m args below meth c R H locs cells slots MC MS la hC hR hW hS hL)
theorem x_if_ne {x : Int32} {off : Int} {t : Nat} (hl : ssLk M pc = some (.ifCond .ne off, 3, [t], v0)) (kt : ¬ x = 0 → ssVx G M D mc ms Q XC t ls st h) (kf : x = 0 → ssVx G M D mc ms Q XC (pc + 3) ls st h) : ssVx G M D mc ms Q XC pc ls (.int x :: st) h := by
  intro p e s m args below meth c R H locs cells slots MC MS la hC hR hW hS hL
  have hok := hC.2.2.2.2.2.2.2.2.2.2.2
  exact lv_if_ne hC.1 hC.2.1 (ssLk_ok hok hl).1 (of_decide_eq_true (ssLk_ok hok hl).2) (fun q => kt q p e s m args below meth c R H locs cells slots MC MS la hC hR hW hS hL) (fun q => kf q p e s m args below meth c R H locs cells slots MC MS la hC hR hW hS hL)
theorem x_icmp_lt {x y : Int32} {off : Int} {t : Nat} (hl : ssLk M pc = some (.if_icmp .lt off, 3, [t], v0)) (kt : x < y → ssVx G M D mc ms Q XC t ls st h) (kf : ¬ x < y → ssVx G M D mc ms Q XC (pc + 3) ls st h) : ssVx G M D mc ms Q XC pc ls (.int y :: .int x :: st) h := by
  intro p e s m args below meth c R H locs cells slots MC MS la hC hR hW hS hL
  have hok := hC.2.2.2.2.2.2.2.2.2.2.2
  exact lv_icmp_lt hC.1 hC.2.1 (ssLk_ok hok hl).1 (of_decide_eq_true (ssLk_ok hok hl).2) (fun q => kt q p e s m args below meth c R H locs cells slots MC MS la hC hR hW hS hL) (fun q => kf q p e s m args below meth c R H locs cells slots MC MS la hC hR hW hS hL)
theorem x_if_lt {x : Int32} {off : Int} {t : Nat} (hl : ssLk M pc = some (.ifCond .lt off, 3, [t], v0)) (kt : x < 0 → ssVx G M D mc ms Q XC t ls st h) (kf : ¬ x < 0 → ssVx G M D mc ms Q XC (pc + 3) ls st h) : ssVx G M D mc ms Q XC pc ls (.int x :: st) h := by
  intro p e s m args below meth c R H locs cells slots MC MS la hC hR hW hS hL
  have hok := hC.2.2.2.2.2.2.2.2.2.2.2
  exact lv_if_lt hC.1 hC.2.1 (ssLk_ok hok hl).1 (of_decide_eq_true (ssLk_ok hok hl).2) (fun q => kt q p e s m args below meth c R H locs cells slots MC MS la hC hR hW hS hL) (fun q => kf q p e s m args below meth c R H locs cells slots MC MS la hC hR hW hS hL)
theorem x_icmp_ge {x y : Int32} {off : Int} {t : Nat} (hl : ssLk M pc = some (.if_icmp .ge off, 3, [t], v0)) (kt : y ≤ x → ssVx G M D mc ms Q XC t ls st h) (kf : ¬ y ≤ x → ssVx G M D mc ms Q XC (pc + 3) ls st h) : ssVx G M D mc ms Q XC pc ls (.int y :: .int x :: st) h := by
  intro p e s m args below meth c R H locs cells slots MC MS la hC hR hW hS hL
  have hok := hC.2.2.2.2.2.2.2.2.2.2.2
  exact lv_icmp_ge hC.1 hC.2.1 (ssLk_ok hok hl).1 (of_decide_eq_true (ssLk_ok hok hl).2) (fun q => kt q p e s m args below meth c R H locs cells slots MC MS la hC hR hW hS hL) (fun q => kf q p e s m args below meth c R H locs cells slots MC MS la hC hR hW hS hL)
theorem x_if_ge {x : Int32} {off : Int} {t : Nat} (hl : ssLk M pc = some (.ifCond .ge off, 3, [t], v0)) (kt : 0 ≤ x → ssVx G M D mc ms Q XC t ls st h) (kf : ¬ 0 ≤ x → ssVx G M D mc ms Q XC (pc + 3) ls st h) : ssVx G M D mc ms Q XC pc ls (.int x :: st) h := by
  intro p e s m args below meth c R H locs cells slots MC MS la hC hR hW hS hL
  have hok := hC.2.2.2.2.2.2.2.2.2.2.2
  exact lv_if_ge hC.1 hC.2.1 (ssLk_ok hok hl).1 (of_decide_eq_true (ssLk_ok hok hl).2) (fun q => kt q p e s m args below meth c R H locs cells slots MC MS la hC hR hW hS hL) (fun q => kf q p e s m args below meth c R H locs cells slots MC MS la hC hR hW hS hL)
theorem x_icmp_gt {x y : Int32} {off : Int} {t : Nat} (hl : ssLk M pc = some (.if_icmp .gt off, 3, [t], v0)) (kt : y < x → ssVx G M D mc ms Q XC t ls st h) (kf : ¬ y < x → ssVx G M D mc ms Q XC (pc + 3) ls st h) : ssVx G M D mc ms Q XC pc ls (.int y :: .int x :: st) h := by
  intro p e s m args below meth c R H locs cells slots MC MS la hC hR hW hS hL
  have hok := hC.2.2.2.2.2.2.2.2.2.2.2
  exact lv_icmp_gt hC.1 hC.2.1 (ssLk_ok hok hl).1 (of_decide_eq_true (ssLk_ok hok hl).2) (fun q => kt q p e s m args below meth c R H locs cells slots MC MS la hC hR hW hS hL) (fun q => kf q p e s m args below meth c R H locs cells slots MC MS la hC hR hW hS hL)
theorem x_if_gt {x : Int32} {off : Int} {t : Nat} (hl : ssLk M pc = some (.ifCond .gt off, 3, [t], v0)) (kt : 0 < x → ssVx G M D mc ms Q XC t ls st h) (kf : ¬ 0 < x → ssVx G M D mc ms Q XC (pc + 3) ls st h) : ssVx G M D mc ms Q XC pc ls (.int x :: st) h := by
  intro p e s m args below meth c R H locs cells slots MC MS la hC hR hW hS hL
  have hok := hC.2.2.2.2.2.2.2.2.2.2.2
  exact lv_if_gt hC.1 hC.2.1 (ssLk_ok hok hl).1 (of_decide_eq_true (ssLk_ok hok hl).2) (fun q => kt q p e s m args below meth c R H locs cells slots MC MS la hC hR hW hS hL) (fun q => kf q p e s m args below meth c R H locs cells slots MC MS la hC hR hW hS hL)
theorem x_icmp_le {x y : Int32} {off : Int} {t : Nat} (hl : ssLk M pc = some (.if_icmp .le off, 3, [t], v0)) (kt : x ≤ y → ssVx G M D mc ms Q XC t ls st h) (kf : ¬ x ≤ y → ssVx G M D mc ms Q XC (pc + 3) ls st h) : ssVx G M D mc ms Q XC pc ls (.int y :: .int x :: st) h := by
  intro p e s m args below meth c R H locs cells slots MC MS la hC hR hW hS hL
  have hok := hC.2.2.2.2.2.2.2.2.2.2.2
  exact lv_icmp_le hC.1 hC.2.1 (ssLk_ok hok hl).1 (of_decide_eq_true (ssLk_ok hok hl).2) (fun q => kt q p e s m args below meth c R H locs cells slots MC MS la hC hR hW hS hL) (fun q => kf q p e s m args below meth c R H locs cells slots MC MS la hC hR hW hS hL)
theorem x_if_le {x : Int32} {off : Int} {t : Nat} (hl : ssLk M pc = some (.ifCond .le off, 3, [t], v0)) (kt : x ≤ 0 → ssVx G M D mc ms Q XC t ls st h) (kf : ¬ x ≤ 0 → ssVx G M D mc ms Q XC (pc + 3) ls st h) : ssVx G M D mc ms Q XC pc ls (.int x :: st) h := by
  intro p e s m args below meth c R H locs cells slots MC MS la hC hR hW hS hL
  have hok := hC.2.2.2.2.2.2.2.2.2.2.2
  exact lv_if_le hC.1 hC.2.1 (ssLk_ok hok hl).1 (of_decide_eq_true (ssLk_ok hok hl).2) (fun q => kt q p e s m args below meth c R H locs cells slots MC MS la hC hR hW hS hL) (fun q => kf q p e s m args below meth c R H locs cells slots MC MS la hC hR hW hS hL)
/-- the heap's cells -/
theorem x_get {a i ci k pl nst : Nat} {fs : List Value} {v : Value} (hl : ssLk M pc = some (.getfield i, 3, [ci, k, pl, nst], v0)) (he : h a = some (.inr (ci, fs))) (hv : fs[k]? = some v) (kk : ssVx G M D mc ms Q XC (pc + 3) ls (v :: st) h) : ssVx G M D mc ms Q XC pc ls (.ref a :: st) h := by
  intro p e s m args below meth c R H locs cells slots MC MS la hC hR hW hS hL
  have hok := hC.2.2.2.2.2.2.2.2.2.2.2
  have hX := hC.2.2.2.2.2.2.2.2.2.1
  have hK := hC.2.2.2.2.2.2.2.2.1
  have hts := hC.2.2.2.2.2.1
  have kk' := kk p e s m args below meth c R H locs cells slots MC MS la hC hR hW hS hL
  obtain ⟨hd, h2⟩ := ssLk_ok hok hl
  obtain ⟨ws, hw, hP, hD⟩ := hW
  obtain ⟨j, hj⟩ := hw a _ he
  simp only [chk2] at h2
  split at h2
  · rename_i r hr
    obtain ⟨C, T, N⟩ := r
    rw [Bool.and_eq_true] at h2
    obtain ⟨h3, h4⟩ := h2
    cases hn : Nat.beq nst 1 with
    | true =>
      rw [hn] at h4
      exact va_getN (host := "SafeSenateModel") hC.1 hC.2.1 hts (ss_cls ci _ hr).1 hC.2.2.2.2.1 hK hP j hj hr k (of_decide_eq_true h3) (va_Nw.use rfl (hX.2.2.2.2 _ (inNs_mem h4))) (fun _ q => q) hv hd kk'
    | false =>
      rw [hn] at h4
      exact va_get hC.1 hC.2.1 hts (ss_cls ci _ hr).1 hC.2.2.2.2.1 hK hP j hj hr k (of_decide_eq_true h3) (hts _ (inT_mem h4)) (fun _ q => q) hv hd kk'
  · cases h2
end SSC

section XNS
variable {G : ssG} {M : ssM} {D mc ms : Nat} {Q : Option Value → ssH → Prop} {XC : String → State → State → Prop} {pc : Nat} {ls : List (Option Value)} {st : List Value} {h : ssH} {r0 : List Nat} {v0 : Value}
theorem x_iaload {a n : Nat} {f : Nat → Int32} {i : Int32} (hl : ssLk M pc = some (.iaload, 1, r0, v0)) (he : h a = some (.inl (0, n, .inl f))) (hin : vp_in i n) (kk : ssVx G M D mc ms Q XC (pc + 1) ls (.int (f i.toNatClampNeg) :: st) h) : ssVx G M D mc ms Q XC pc ls (.int i :: .ref a :: st) h := by
  intro p e s m args below meth c R H locs cells slots MC MS la hC hR hW hS hL
  have hok := hC.2.2.2.2.2.2.2.2.2.2.2
  have hK := hC.2.2.2.2.2.2.2.2.1
  have kk' := kk p e s m args below meth c R H locs cells slots MC MS la hC hR hW hS hL
  obtain ⟨ws, hw, hP, hD⟩ := hW
  obtain ⟨j, hj⟩ := hw a _ he
  exact va_iald hC.1 hC.2.1 hK hP j 0 hj rfl hin (ssLk_ok hok hl).1 kk'
theorem x_iaload' {a n : Nat} {f : Nat → Int32} {x : Int32} (hl : ssLk M pc = some (.iaload, 1, r0, v0)) (he : h a = some (.inl (0, n, .inl f))) (i : Nat) (hx : x = zI (i : Int)) (hi : i < n) (kk : ssVx G M D mc ms Q XC (pc + 1) ls (.int (f i) :: st) h) (hn : n < 2147483648 := by decide) : ssVx G M D mc ms Q XC pc ls (.int x :: .ref a :: st) h := by
  refine x_iaload hl he (by rw [hx]; exact zI_in hi hn) ?_
  rw [hx, zI_clamp (by omega)]
  exact kk
theorem ssVx.of (k : ssV G M D mc ms Q pc ls st h) : ssVx G M D mc ms Q XC pc ls st h := fun p e s m args below meth c R H locs cells slots MC MS la hC hR hW hS hL => vx_ret (k p e s m args below meth c R H locs cells slots MC MS la hC ⟨hR.1, hR.2.1, hR.2.2.1, hR.2.2.2.1, hR.2.2.2.2.1, hR.2.2.2.2.2.1⟩ hW hS hL)
end XNS
