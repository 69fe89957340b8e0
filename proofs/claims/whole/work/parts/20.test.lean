theorem fv0 : ((0 : Fin 4) : Nat) = 0 := rfl
theorem fv1 : ((1 : Fin 4) : Nat) = 1 := rfl
theorem fv2 : ((2 : Fin 4) : Nat) = 2 := rfl
theorem fv3 : ((3 : Fin 4) : Nat) = 3 := rfl
/-- minus x -/
def mI (x : Nat) : Int32 := - nI x
theorem kI_0 (x : Nat) : kI 0 x = nI x := rfl
theorem kI_1 (x : Nat) : kI 1 x = mI x := rfl
theorem callW : True := trivial
def bI (c : Prop) [Decidable c] : Int32 := if c then nI 1 else nI 0
set_option maxHeartbeats 1000000 in
theorem ct_max (l : Launch) (G : Gx) : Ct l G mi_J9_max_7cf53 (fun as S E => match as with | [.int a, .int b] => E (some (.int (if a < b then b else a))) S | _ => False) := by
  refine Ct.ofV mo_J9_max_7cf53 (fun as S E h => ?_)
  split at h
  · refine ⟨by decide, ?_⟩
    refine wpN_ok (Γ := []) (fun _ h => absurd h List.not_mem_nil) so_J9_max_7cf53 3 _ _ _ _ _ _ ?_
    simp only [mi_J9_max_7cf53, mL, mR, mT, sgs_J9_max_7cf53, sg_J9_max_7cf53_0, sg_J9_max_7cf53_9, sg_J9_max_7cf53_10, wpN, wp, x_nop, x_goto, x_table, x_iinc, x_ldc, x_ldc2, x_getI, x_getR, x_putI, x_putC, x_putR, x_iaload, x_faload, x_baload, x_caload, x_aaload, x_iastore, x_fastore, x_bastore, x_castore, x_aastore, x_alen, x_gets, x_new, x_newa, x_anew, x_invs, x_invi, x_invv, x_ret, x_iret, x_lret, x_fret, x_aret, x_iconst, x_bipush, x_sipush, x_lconst, x_fconst0, x_fconst1, x_fconst2, x_dconst0, x_dconst1, x_null, x_iadd, x_isub, x_imul, x_iand, x_ior, x_idiv, x_irem, x_ineg, x_ishl, x_ishr, x_land, x_lor, x_lushr, x_lshl, x_lcmp, x_i2l, x_l2i, x_i2c, x_i2f, x_f2d, x_d2i, x_d2l, x_fadd, x_fsub, x_fmul, x_fdiv, x_dadd, x_dsub, x_dmul, x_ddiv, x_fcmp, x_dcmp, x_dupI, x_dupR, x_dup2, x_popI, x_popR, ldP_I, ldP_L, ldP_F, ldP_D, ldP_R, ldP_N, x_iload, x_iload_n, x_lload, x_lload_n, x_fload, x_fload_n, x_dload, x_dload_n, x_aload, x_aload_n, x_istore, x_istore_n, x_lstore, x_lstore_n, x_fstore, x_fstore_n, x_dstore, x_dstore_n, x_astore, x_astore_n, x_astoreN, x_astore_nN, x_icmp_eq, x_icmp_ne, x_icmp_lt, x_icmp_ge, x_icmp_gt, x_icmp_le, x_if_eq, x_if_ne, x_if_lt, x_if_ge, x_if_gt, x_if_le, x_ifnull, x_ifnullR, x_ifnn, x_ifnnR, x_call, fv0, fv1, fv2, fv3, kI_0, kI_1, stL, wipeL, entLn, entL, List.getElem?_cons_zero, List.getElem?_cons_succ, List.getElem?_nil, List.set_cons_zero, List.set_cons_succ, List.set_nil, List.length_cons, List.length_nil, List.cons_append, List.nil_append, List.replicate, EX, Nat.reduceAdd, Nat.reduceLeDiff, Nat.reduceSub, true_and, and_true, callW, List.take, List.drop, List.reverse_cons, List.reverse_nil, Option.toList, List.map_cons, List.map_nil, List.sum_cons, List.sum_nil, Value.category]
    trace_state
    sorry
  · exact h.elim
