section SSB
variable {G : ssG} {M : ssM} {D mc ms : Nat} {Q : Option Value → ssH → Prop} {pc pc' : Nat} {ls ls' : List (Option Value)} {st st' : List Value} {h : ssH}
theorem v_lift (row : ∀ (p : Program) (e : Env) (s : State) (m : MethodId) (args : Array Value) (below : List Frame) (meth : Method) (c : Code) (R : Room) (H : Heap) (locs : List Loc) (cells slots : Nat) (Q' : State → Prop) (la : Array Slot), p.tables.exec = Jvm.exec → c.code = ssCC M → s.vm.findClass (ssY M).cls = some m.cls → (∀ w ∈ ssTbl, w.before args s = true) → ssOk M = true → ssL la (ssML M) ls → W p (gL G) e R s m args below meth c H locs cells slots Q' (F0 m pc' la st') → W p (gL G) e R s m args below meth c H locs cells slots Q' (F0 m pc la st)) (kk : ssV G M D mc ms Q pc' ls st' h) : ssV G M D mc ms Q pc ls st h := by
  intro p e s m args below meth c R H locs cells slots MC MS la hC hR hW hS hL
  exact row p e s m args below meth c R H locs cells slots _ la hC.1 hC.2.1 hC.2.2.2.2.1 hC.2.2.2.2.2.1 hC.2.2.2.2.2.2.2.2.2.2.2 hL (kk p e s m args below meth c R H locs cells slots MC MS la hC hR hW hS hL)
theorem v_liftL (row : ∀ (p : Program) (e : Env) (s : State) (m : MethodId) (args : Array Value) (below : List Frame) (meth : Method) (c : Code) (R : Room) (H : Heap) (locs : List Loc) (cells slots : Nat) (Q' : State → Prop) (la : Array Slot), p.tables.exec = Jvm.exec → c.code = ssCC M → ssOk M = true → ssL la (ssML M) ls → (∀ la', ssL la' (ssML M) ls' → W p (gL G) e R s m args below meth c H locs cells slots Q' (F0 m pc' la' st')) → W p (gL G) e R s m args below meth c H locs cells slots Q' (F0 m pc la st)) (kk : ssV G M D mc ms Q pc' ls' st' h) : ssV G M D mc ms Q pc ls st h := by
  intro p e s m args below meth c R H locs cells slots MC MS la hC hR hW hS hL
  exact row p e s m args below meth c R H locs cells slots _ la hC.1 hC.2.1 hC.2.2.2.2.2.2.2.2.2.2.2 hL (fun la' hl' => kk p e s m args below meth c R H locs cells slots MC MS la' hC hR hW hS hl')
set_option maxHeartbeats 4000000 in
theorem sst_ok (hs : sst M pc ls st = some (pc', ls', st')) (kk : ssV G M D mc ms Q pc' ls' st' h) : ssV G M D mc ms Q pc ls st h := by
  unfold sst at hs
  split at hs
  · cases hs
  · rename_i i n r v hl
    split at hs
    · split at hs <;> cases hs
      exact v_lift (fun p e s m args below meth c R H locs cells slots Q' la hx hb ho ht hok hL k => lv_iconst hx hb (ssLk_ok hok hl).1 (of_decide_eq_true (ssLk_ok hok hl).2) k) kk
    · split at hs <;> cases hs
      exact v_lift (fun p e s m args below meth c R H locs cells slots Q' la hx hb ho ht hok hL k => lv_bipush hx hb (ssLk_ok hok hl).1 (of_decide_eq_true (ssLk_ok hok hl).2) k) kk
    · split at hs <;> cases hs
      exact v_lift (fun p e s m args below meth c R H locs cells slots Q' la hx hb ho ht hok hL k => lv_sipush hx hb (ssLk_ok hok hl).1 (of_decide_eq_true (ssLk_ok hok hl).2) k) kk
    · split at hs <;> cases hs
      exact v_lift (fun p e s m args below meth c R H locs cells slots Q' la hx hb ho ht hok hL k => lv_lconst hx hb (ssLk_ok hok hl).1 (of_decide_eq_true (ssLk_ok hok hl).2) k) kk
    · cases hs
      exact v_lift (fun p e s m args below meth c R H locs cells slots Q' la hx hb ho ht hok hL k => lv_null hx hb (ssLk_ok hok hl).1 k) kk
    · split at hs <;> cases hs
      rename_i hg
      exact v_lift (fun p e s m args below meth c R H locs cells slots Q' la hx hb ho ht hok hL k => lv_iload hx hb (ssLk_ok hok hl).1 (ssL_get hL hg) k) kk
    · split at hs <;> cases hs
      rename_i hg
      exact v_lift (fun p e s m args below meth c R H locs cells slots Q' la hx hb ho ht hok hL k => lv_iload_n hx hb (ssLk_ok hok hl).1 rfl (ssL_get hL hg) k) kk
    · split at hs <;> cases hs
      rename_i hg
      exact v_lift (fun p e s m args below meth c R H locs cells slots Q' la hx hb ho ht hok hL k => lv_lload hx hb (ssLk_ok hok hl).1 (ssL_get hL hg) k) kk
    · split at hs <;> cases hs
      rename_i hg
      exact v_lift (fun p e s m args below meth c R H locs cells slots Q' la hx hb ho ht hok hL k => lv_lload_n hx hb (ssLk_ok hok hl).1 rfl (ssL_get hL hg) k) kk
    · split at hs <;> cases hs
      · rename_i hg
        exact v_lift (fun p e s m args below meth c R H locs cells slots Q' la hx hb ho ht hok hL k => lv_aload hx hb (ssLk_ok hok hl).1 (ssL_get hL hg) k) kk
      · rename_i hg
        exact v_lift (fun p e s m args below meth c R H locs cells slots Q' la hx hb ho ht hok hL k => lv_aloadN hx hb (ssLk_ok hok hl).1 (ssL_get hL hg) k) kk
    · split at hs <;> cases hs
      · rename_i hg
        exact v_lift (fun p e s m args below meth c R H locs cells slots Q' la hx hb ho ht hok hL k => lv_aload_n hx hb (ssLk_ok hok hl).1 rfl (ssL_get hL hg) k) kk
      · rename_i hg
        exact v_lift (fun p e s m args below meth c R H locs cells slots Q' la hx hb ho ht hok hL k => lv_aload_nN hx hb (ssLk_ok hok hl).1 rfl (ssL_get hL hg) k) kk
    · split at hs <;> cases hs
      rename_i hn
      exact v_liftL (fun p e s m args below meth c R H locs cells slots Q' la hx hb hok hL k => lv_istore hx hb (ssLk_ok hok hl).1 hL hn rfl (fun la' hl' => k la' (ssL_st1 hl'))) kk
    · split at hs <;> cases hs
      rename_i hn
      exact v_liftL (fun p e s m args below meth c R H locs cells slots Q' la hx hb hok hL k => lv_istore_n hx hb (ssLk_ok hok hl).1 rfl hL hn rfl (fun la' hl' => k la' (ssL_st1 hl'))) kk
    · split at hs <;> cases hs
      rename_i hn
      exact v_liftL (fun p e s m args below meth c R H locs cells slots Q' la hx hb hok hL k => lv_lstore hx hb (ssLk_ok hok hl).1 hL hn rfl (fun la' hl' => k la' (ssL_st2 hl'))) kk
    · split at hs <;> cases hs
      rename_i hn
      exact v_liftL (fun p e s m args below meth c R H locs cells slots Q' la hx hb hok hL k => lv_lstore_n hx hb (ssLk_ok hok hl).1 rfl hL hn rfl (fun la' hl' => k la' (ssL_st2 hl'))) kk
    · split at hs <;> cases hs
      rename_i hn
      exact v_liftL (fun p e s m args below meth c R H locs cells slots Q' la hx hb hok hL k => lv_astore hx hb (ssLk_ok hok hl).1 hL hn rfl (fun la' hl' => k la' (ssL_st1 hl'))) kk
    · split at hs <;> cases hs
      rename_i hn
      exact v_liftL (fun p e s m args below meth c R H locs cells slots Q' la hx hb hok hL k => lv_astore_n hx hb (ssLk_ok hok hl).1 rfl hL hn rfl (fun la' hl' => k la' (ssL_st1 hl'))) kk
    · split at hs
      · split at hs <;> cases hs
        rename_i x y hg hn
        exact v_liftL (fun p e s m args below meth c R H locs cells slots Q' la hx hb hok hL k => by
          obtain ⟨k0, hk0⟩ := List.getElem?_of_mem ((prs_mem ls 0 _ _).mpr ⟨_, (Nat.zero_add _).symm, hg⟩)
          exact lv_iinc hx hb (ssLk_ok hok hl).1 hL hk0 (by rw [of_decide_eq_true (ssLk_ok hok hl).2]) hn rfl (fun la' hl' => k la' (ssL_st1 hl'))) kk
      · cases hs
    · cases hs
      exact v_lift (fun p e s m args below meth c R H locs cells slots Q' la hx hb ho ht hok hL k => lv_iadd hx hb (ssLk_ok hok hl).1 k) kk
    · cases hs
      exact v_lift (fun p e s m args below meth c R H locs cells slots Q' la hx hb ho ht hok hL k => lv_isub hx hb (ssLk_ok hok hl).1 k) kk
    · cases hs
      exact v_lift (fun p e s m args below meth c R H locs cells slots Q' la hx hb ho ht hok hL k => lv_imul hx hb (ssLk_ok hok hl).1 k) kk
    · cases hs
      exact v_lift (fun p e s m args below meth c R H locs cells slots Q' la hx hb ho ht hok hL k => lv_iand hx hb (ssLk_ok hok hl).1 k) kk
    · cases hs
      exact v_lift (fun p e s m args below meth c R H locs cells slots Q' la hx hb ho ht hok hL k => lv_ior hx hb (ssLk_ok hok hl).1 k) kk
    · cases hs
      exact v_lift (fun p e s m args below meth c R H locs cells slots Q' la hx hb ho ht hok hL k => lv_ixor hx hb (ssLk_ok hok hl).1 k) kk
    · cases hs
      exact v_lift (fun p e s m args below meth c R H locs cells slots Q' la hx hb ho ht hok hL k => lv_ineg hx hb (ssLk_ok hok hl).1 k) kk
    · cases hs
      exact v_lift (fun p e s m args below meth c R H locs cells slots Q' la hx hb ho ht hok hL k => lv_ishl hx hb (ssLk_ok hok hl).1 k) kk
    · cases hs
      exact v_lift (fun p e s m args below meth c R H locs cells slots Q' la hx hb ho ht hok hL k => lv_ishr hx hb (ssLk_ok hok hl).1 k) kk
    · cases hs
      exact v_lift (fun p e s m args below meth c R H locs cells slots Q' la hx hb ho ht hok hL k => lv_iushr hx hb (ssLk_ok hok hl).1 rfl k) kk
    · cases hs
      exact v_lift (fun p e s m args below meth c R H locs cells slots Q' la hx hb ho ht hok hL k => lv_ladd hx hb (ssLk_ok hok hl).1 k) kk
    · cases hs
      exact v_lift (fun p e s m args below meth c R H locs cells slots Q' la hx hb ho ht hok hL k => lv_lsub hx hb (ssLk_ok hok hl).1 k) kk
    · cases hs
      exact v_lift (fun p e s m args below meth c R H locs cells slots Q' la hx hb ho ht hok hL k => lv_lmul hx hb (ssLk_ok hok hl).1 k) kk
    · cases hs
      exact v_lift (fun p e s m args below meth c R H locs cells slots Q' la hx hb ho ht hok hL k => lv_lor hx hb (ssLk_ok hok hl).1 k) kk
    · cases hs
      exact v_lift (fun p e s m args below meth c R H locs cells slots Q' la hx hb ho ht hok hL k => lv_lshl hx hb (ssLk_ok hok hl).1 rfl k) kk
    · cases hs
      exact v_lift (fun p e s m args below meth c R H locs cells slots Q' la hx hb ho ht hok hL k => W.lcmp hx hb (ssLk_ok hok hl).1 k) kk
    · cases hs
      exact v_lift (fun p e s m args below meth c R H locs cells slots Q' la hx hb ho ht hok hL k => lv_i2l hx hb (ssLk_ok hok hl).1 rfl k) kk
    · cases hs
      exact v_lift (fun p e s m args below meth c R H locs cells slots Q' la hx hb ho ht hok hL k => lv_l2i hx hb (ssLk_ok hok hl).1 rfl k) kk
    · cases hs
      exact v_lift (fun p e s m args below meth c R H locs cells slots Q' la hx hb ho ht hok hL k => lv_i2b hx hb (ssLk_ok hok hl).1 rfl k) kk
    · cases hs
      exact v_lift (fun p e s m args below meth c R H locs cells slots Q' la hx hb ho ht hok hL k => lv_dup hx hb (ssLk_ok hok hl).1 rfl k) kk
    · cases hs
      exact v_lift (fun p e s m args below meth c R H locs cells slots Q' la hx hb ho ht hok hL k => lv_dup hx hb (ssLk_ok hok hl).1 rfl k) kk
    · cases hs
      exact v_lift (fun p e s m args below meth c R H locs cells slots Q' la hx hb ho ht hok hL k => lv_dup2_11 hx hb (ssLk_ok hok hl).1 rfl rfl k) kk
    · cases hs
      exact v_lift (fun p e s m args below meth c R H locs cells slots Q' la hx hb ho ht hok hL k => lv_pop hx hb (ssLk_ok hok hl).1 rfl k) kk
    · cases hs
      exact v_lift (fun p e s m args below meth c R H locs cells slots Q' la hx hb ho ht hok hL k => lv_dup_x1 hx hb (ssLk_ok hok hl).1 rfl rfl k) kk
    · cases hs
      exact v_lift (fun p e s m args below meth c R H locs cells slots Q' la hx hb ho ht hok hL k => lv_dup_x2 hx hb (ssLk_ok hok hl).1 rfl rfl rfl k) kk
    · split at hs <;> cases hs
      exact v_lift (fun p e s m args below meth c R H locs cells slots Q' la hx hb ho ht hok hL k => lv_goto hx hb (ssLk_ok hok hl).1 (of_decide_eq_true (ssLk_ok hok hl).2) k) kk
    · cases hs
      exact v_lift (fun p e s m args below meth c R H locs cells slots Q' la hx hb ho ht hok hL k => lv_ifnull hx hb (ssLk_ok hok hl).1 k) kk
    · split at hs <;> cases hs
      exact v_lift (fun p e s m args below meth c R H locs cells slots Q' la hx hb ho ht hok hL k => lv_ifnullN hx hb (ssLk_ok hok hl).1 (of_decide_eq_true (ssLk_ok hok hl).2) k) kk
    · cases hs
      exact v_lift (fun p e s m args below meth c R H locs cells slots Q' la hx hb ho ht hok hL k => lv_ifnonnullN hx hb (ssLk_ok hok hl).1 k) kk
    · split at hs <;> cases hs
      exact v_lift (fun p e s m args below meth c R H locs cells slots Q' la hx hb ho ht hok hL k => lv_ifnonnull hx hb (ssLk_ok hok hl).1 (of_decide_eq_true (ssLk_ok hok hl).2) k) kk
    · split at hs <;> cases hs
      exact v_lift (fun p e s m args below meth c R H locs cells slots Q' la hx hb ho ht hok hL k => lv_ldc hx hb ho (ht _ (inT_mem (ssLk_ok hok hl).2)) (ssLk_ok hok hl).1 k) kk
    · split at hs <;> cases hs
      exact v_lift (fun p e s m args below meth c R H locs cells slots Q' la hx hb ho ht hok hL k => lv_ldcw hx hb ho (ht _ (inT_mem (ssLk_ok hok hl).2)) (ssLk_ok hok hl).1 k) kk
    · split at hs <;> cases hs
      exact v_lift (fun p e s m args below meth c R H locs cells slots Q' la hx hb ho ht hok hL k => lv_ldc2 hx hb ho (ht _ (inT_mem (ssLk_ok hok hl).2)) (ssLk_ok hok hl).1 k) kk
    · cases hs
end SSB
