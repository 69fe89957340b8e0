-- needs: 57.mchg 38.ask 40.rows
/-! what is asked of the reference -/
def P_X7_flag (as : List Value) (S : SS) (E : Option Value → SS → Prop) : Prop := match as with
  | [.int a] => (a = nI 0 → E (some (.int (nI 0))) S) ∧ (¬ a = nI 0 → E (some (.int (nI 1))) S)
  | _ => False
def Γ_X7_flag : List (MI × PT) := []
theorem hΓ_X7_flag (l : Launch) (G : Gx) : ∀ q ∈ Γ_X7_flag, Ct l G q.1 q.2 := fun _ h => absurd h List.not_mem_nil
set_option maxHeartbeats 1000000 in
theorem ct_X7_flag (l : Launch) (G : Gx) : Ct l G mi_X7_flag P_X7_flag := by
  refine Ct.ofV mo_X7_flag (fun as S E h => ?_)
  unfold P_X7_flag at h
  split at h
  case h_2 => exact h.elim
  rename_i a
  refine ⟨by simp [entL, mL_X7_flag], ?_⟩
  refine wpN_ok (Γ := Γ_X7_flag) (hΓ_X7_flag l G) so_X7_flag 4 _ _ _ _ _ _ ?_
  simp only [mL_X7_flag, mT_X7_flag, rc_X7_flag, rs_X7_flag, Γ_X7_flag, sg_X7_flag_0, sg_X7_flag_8, sg_X7_flag_9, wn_X7_flag_0, wn_X7_flag_8, wn_X7_flag_9, wp_c, ex_c, x_nop, x_goto, x_table, x_iinc, x_ldc, x_ldc2, x_iaload, x_faload, x_baload, x_caload, x_iastore, x_fastore, x_bastore, x_castore, x_aastore, x_alen, x_gets, x_new, x_newa, x_anew, x_invs, x_invi, x_invv, x_ret, x_iret, x_lret, x_fret, x_aret, x_lconst, x_fconst0, x_fconst1, x_fconst2, x_dconst0, x_dconst1, x_null, x_iadd, x_isub, x_imul, x_iand, x_ior, x_idiv, x_irem, x_ineg, x_ishl, x_ishr, x_land, x_lor, x_lushr, x_lshl, x_lcmp, x_i2l, x_l2i, x_i2c, x_i2f, x_f2d, x_d2i, x_d2l, x_fadd, x_fsub, x_fmul, x_fdiv, x_dadd, x_dsub, x_dmul, x_ddiv, x_fcmp, x_dcmp, x_dupI, x_dupR, x_dup2, x_popI, x_popR, ldP_I, ldP_L, ldP_F, ldP_D, ldP_R, ldP_N, x_iload, x_iload_n, x_lload, x_lload_n, x_fload, x_fload_n, x_dload, x_dload_n, x_aload, x_aload_n, x_istore, x_istore_n, x_lstore, x_lstore_n, x_fstore, x_fstore_n, x_dstore, x_dstore_n, x_astore, x_astore_n, x_astoreN, x_astore_nN, x_icmp_eq, x_icmp_ne, x_icmp_lt, x_icmp_ge, x_icmp_gt, x_icmp_le, x_if_eq, x_if_ne, x_if_lt, x_if_ge, x_if_gt, x_if_le, x_ifnull, x_ifnullR, x_ifnn, x_ifnnR, x_aaload2, x_cpI, x_cpF, x_bF, x_bD, x_oI, xk_bipush_120, xk_iconst_0, xk_bipush_m6, xk_iconst_1, xk_bipush_80, xk_bipush_48, xk_bipush_57, xk_bipush_10, xk_bipush_64, xk_bipush_46, xk_bipush_97, xk_bipush_122, xk_bipush_119, xk_bipush_61, xk_bipush_59, xk_bipush_8, xk_bipush_33, xk_bipush_126, xk_bipush_m2, xk_bipush_m4, xk_iconst_4, xk_bipush_6, xk_iconst_2, xk_bipush_40, xk_iconst_3, xk_iconst_5, xk_iconst_m1, xk_bipush_m5, xk_bipush_12, xk_bipush_100, xk_bipush_26, xk_sipush_9999, xk_sipush_500, xk_bipush_7, xk_bipush_m126, xk_bipush_127, xk_bipush_23, xk_sipush_m1022, xk_sipush_1023, xk_bipush_52, xk_bipush_m3, xk_sipush_9830, xk_sipush_4800, xk_sipush_983, xk_sipush_480, xk_bipush_13, xk_bipush_18, xk_bipush_9, xk_bipush_32, xg_0_0, xp_0_0, xg_0_1, xp_0_1, xg_0_2, xp_0_2, xg_0_3, xp_0_3, xg_0_4, xp_0_4, xg_0_5, xp_0_5, xg_0_6, xp_0_6, xg_0_7, xp_0_7, xg_0_8, xp_0_8, xg_1_0, xp_1_0, xg_1_1, xp_1_1, xg_1_2, xp_1_2, xg_1_3, xp_1_3, xg_2_0, xp_2_0, xg_2_1, xp_2_1, xg_2_2, xp_2_2, xg_3_0, xp_3_0, xg_3_1, xp_3_1, xg_3_2, xp_3_2, xg_3_3, xp_3_3, xg_3_4, xp_3_4, xg_3_5, xp_3_5, xg_3_6, xp_3_6, xg_3_7, xp_3_7, xg_3_8, xp_3_8, xg_3_9, xp_3_9, xg_3_10, xp_3_10, xg_3_11, xp_3_11, xg_4_0, xp_4_0, xg_4_1, xp_4_1, xg_5_0, xp_5_0, xg_5_1, xp_5_1, xg_6_0, xp_6_0, xg_6_1, xp_6_1, xg_6_2, xp_6_2, xg_6_3, xp_6_3, xg_6_4, xp_6_4, xg_6_5, xp_6_5, xg_7_0, xp_7_0, xg_7_1, xp_7_1, xg_7_2, xp_7_2, xg_7_3, xp_7_3, xg_7_4, xp_7_4, xg_7_5, xp_7_5, xg_7_6, xp_7_6, xg_7_7, xp_7_7, xg_7_8, xp_7_8, xg_7_9, xp_7_9, xg_7_10, xp_7_10, xg_7_11, xp_7_11, xg_7_12, xp_7_12, xg_7_13, xp_7_13, fv0, fv1, fv2, fv3, kI_0, kI_1, stL, wipeL, entLn, entL, List.getElem?_cons_zero, List.getElem?_cons_succ, List.getElem?_nil, List.set_cons_zero, List.set_cons_succ, List.set_nil, List.length_cons, List.length_nil, List.cons_append, List.nil_append, List.replicate, Nat.reduceAdd, Nat.reduceLeDiff, Nat.reduceSub, true_and, and_true, x_callS, x_callSN, x_callI, x_callIN, x_callV0, x_callV1, x_callV2, x_callV3, x_callV4, x_callV5, x_callV6, x_callV7, callP, List.take_succ_cons, List.take_zero, List.take_nil, List.drop_succ_cons, List.drop_zero, List.drop_nil, List.getLast?_singleton, List.getLast?_cons_cons, Option.some.injEq, Value.ref.injEq, exists_eq_left, exists_eq_left', Nat.zero_le, Nat.add_zero, ldcV_f, ldcV_fn, ldcV_l, ldcV_d, Nat.reduceMul, Nat.le_refl, List.reverse_cons, List.reverse_nil, Option.toList, List.map_cons, List.map_nil, List.sum_cons, List.sum_nil, Value.category, tblW_n, tblW_c, Int.cast_ofNat_Int, Int.reduceAdd, Int.reduceToNat, ofI_n]
  simp only [← nI_0, sK_stI, sR_stI, sK_stF, sR_stF, sK_stIA, sR_stIA, sK_stFA, sR_stFA, sI_stI, sI_stF, sI_stIA, sI_stFA, sF_stI, sF_stF, sF_stIA, sF_stFA, Nat.left_eq_add, Nat.add_eq_left, Nat.add_left_cancel_iff, Nat.reduceEqDiff, Nat.reduceEqDiff, Nat.succ_ne_self, false_and, and_false, if_false, if_true, nI_succ_sub, Option.some.injEq, Prod.mk.injEq, exists_eq_left', true_and, and_true, retI, retF, retV, retZ1, retZ0, retL, retA, retN, Nat.reduceAdd, Nat.reduceMul, Nat.reduceLT]
  exact h
/-- the bits that the library tells -/
def P_Jxf58ca_floatToIntBits_5c35a (as : List Value) (S : SS) (E : Option Value → SS → Prop) : Prop := match as with
  | [.float v] => bfOK v ∧ E (some (.int v.toInt32)) S
  | _ => False
def P_Jxf58ca_isNaN_12338 (as : List Value) (S : SS) (E : Option Value → SS → Prop) : Prop := match as with
  | [.float v] => bfOK v ∧ E (some (.int (nI 0))) S
  | _ => False
def Γ_Jxf58ca_isNaN_12338 : List (MI × PT) := []
theorem hΓ_Jxf58ca_isNaN_12338 (l : Launch) (G : Gx) : ∀ q ∈ Γ_Jxf58ca_isNaN_12338, Ct l G q.1 q.2 := fun _ h => absurd h List.not_mem_nil
set_option maxHeartbeats 1000000 in
theorem ct_Jxf58ca_isNaN_12338 (l : Launch) (G : Gx) : Ct l G mi_Jxf58ca_isNaN_12338 P_Jxf58ca_isNaN_12338 := by
  refine Ct.ofV mo_Jxf58ca_isNaN_12338 (fun as S E h => ?_)
  unfold P_Jxf58ca_isNaN_12338 at h
  split at h
  case h_2 => exact h.elim
  rename_i v
  refine ⟨by simp [entL, mL_Jxf58ca_isNaN_12338], ?_⟩
  refine wpN_ok (Γ := Γ_Jxf58ca_isNaN_12338) (hΓ_Jxf58ca_isNaN_12338 l G) so_Jxf58ca_isNaN_12338 4 _ _ _ _ _ _ ?_
  simp only [mL_Jxf58ca_isNaN_12338, mT_Jxf58ca_isNaN_12338, rc_Jxf58ca_isNaN_12338, rs_Jxf58ca_isNaN_12338, Γ_Jxf58ca_isNaN_12338, sg_Jxf58ca_isNaN_12338_0, sg_Jxf58ca_isNaN_12338_10, sg_Jxf58ca_isNaN_12338_11, wn_Jxf58ca_isNaN_12338_0, wn_Jxf58ca_isNaN_12338_10, wn_Jxf58ca_isNaN_12338_11, wp_c, ex_c, x_nop, x_goto, x_table, x_iinc, x_ldc, x_ldc2, x_iaload, x_faload, x_baload, x_caload, x_iastore, x_fastore, x_bastore, x_castore, x_aastore, x_alen, x_gets, x_new, x_newa, x_anew, x_invs, x_invi, x_invv, x_ret, x_iret, x_lret, x_fret, x_aret, x_lconst, x_fconst0, x_fconst1, x_fconst2, x_dconst0, x_dconst1, x_null, x_iadd, x_isub, x_imul, x_iand, x_ior, x_idiv, x_irem, x_ineg, x_ishl, x_ishr, x_land, x_lor, x_lushr, x_lshl, x_lcmp, x_i2l, x_l2i, x_i2c, x_i2f, x_f2d, x_d2i, x_d2l, x_fadd, x_fsub, x_fmul, x_fdiv, x_dadd, x_dsub, x_dmul, x_ddiv, x_fcmp, x_dcmp, x_dupI, x_dupR, x_dup2, x_popI, x_popR, ldP_I, ldP_L, ldP_F, ldP_D, ldP_R, ldP_N, x_iload, x_iload_n, x_lload, x_lload_n, x_fload, x_fload_n, x_dload, x_dload_n, x_aload, x_aload_n, x_istore, x_istore_n, x_lstore, x_lstore_n, x_fstore, x_fstore_n, x_dstore, x_dstore_n, x_astore, x_astore_n, x_astoreN, x_astore_nN, x_icmp_eq, x_icmp_ne, x_icmp_lt, x_icmp_ge, x_icmp_gt, x_icmp_le, x_if_eq, x_if_ne, x_if_lt, x_if_ge, x_if_gt, x_if_le, x_ifnull, x_ifnullR, x_ifnn, x_ifnnR, x_aaload2, x_cpI, x_cpF, x_bF, x_bD, x_oI, xk_bipush_120, xk_iconst_0, xk_bipush_m6, xk_iconst_1, xk_bipush_80, xk_bipush_48, xk_bipush_57, xk_bipush_10, xk_bipush_64, xk_bipush_46, xk_bipush_97, xk_bipush_122, xk_bipush_119, xk_bipush_61, xk_bipush_59, xk_bipush_8, xk_bipush_33, xk_bipush_126, xk_bipush_m2, xk_bipush_m4, xk_iconst_4, xk_bipush_6, xk_iconst_2, xk_bipush_40, xk_iconst_3, xk_iconst_5, xk_iconst_m1, xk_bipush_m5, xk_bipush_12, xk_bipush_100, xk_bipush_26, xk_sipush_9999, xk_sipush_500, xk_bipush_7, xk_bipush_m126, xk_bipush_127, xk_bipush_23, xk_sipush_m1022, xk_sipush_1023, xk_bipush_52, xk_bipush_m3, xk_sipush_9830, xk_sipush_4800, xk_sipush_983, xk_sipush_480, xk_bipush_13, xk_bipush_18, xk_bipush_9, xk_bipush_32, xg_0_0, xp_0_0, xg_0_1, xp_0_1, xg_0_2, xp_0_2, xg_0_3, xp_0_3, xg_0_4, xp_0_4, xg_0_5, xp_0_5, xg_0_6, xp_0_6, xg_0_7, xp_0_7, xg_0_8, xp_0_8, xg_1_0, xp_1_0, xg_1_1, xp_1_1, xg_1_2, xp_1_2, xg_1_3, xp_1_3, xg_2_0, xp_2_0, xg_2_1, xp_2_1, xg_2_2, xp_2_2, xg_3_0, xp_3_0, xg_3_1, xp_3_1, xg_3_2, xp_3_2, xg_3_3, xp_3_3, xg_3_4, xp_3_4, xg_3_5, xp_3_5, xg_3_6, xp_3_6, xg_3_7, xp_3_7, xg_3_8, xp_3_8, xg_3_9, xp_3_9, xg_3_10, xp_3_10, xg_3_11, xp_3_11, xg_4_0, xp_4_0, xg_4_1, xp_4_1, xg_5_0, xp_5_0, xg_5_1, xp_5_1, xg_6_0, xp_6_0, xg_6_1, xp_6_1, xg_6_2, xp_6_2, xg_6_3, xp_6_3, xg_6_4, xp_6_4, xg_6_5, xp_6_5, xg_7_0, xp_7_0, xg_7_1, xp_7_1, xg_7_2, xp_7_2, xg_7_3, xp_7_3, xg_7_4, xp_7_4, xg_7_5, xp_7_5, xg_7_6, xp_7_6, xg_7_7, xp_7_7, xg_7_8, xp_7_8, xg_7_9, xp_7_9, xg_7_10, xp_7_10, xg_7_11, xp_7_11, xg_7_12, xp_7_12, xg_7_13, xp_7_13, fv0, fv1, fv2, fv3, kI_0, kI_1, stL, wipeL, entLn, entL, List.getElem?_cons_zero, List.getElem?_cons_succ, List.getElem?_nil, List.set_cons_zero, List.set_cons_succ, List.set_nil, List.length_cons, List.length_nil, List.cons_append, List.nil_append, List.replicate, Nat.reduceAdd, Nat.reduceLeDiff, Nat.reduceSub, true_and, and_true, x_callS, x_callSN, x_callI, x_callIN, x_callV0, x_callV1, x_callV2, x_callV3, x_callV4, x_callV5, x_callV6, x_callV7, callP, List.take_succ_cons, List.take_zero, List.take_nil, List.drop_succ_cons, List.drop_zero, List.drop_nil, List.getLast?_singleton, List.getLast?_cons_cons, Option.some.injEq, Value.ref.injEq, exists_eq_left, exists_eq_left', Nat.zero_le, Nat.add_zero, ldcV_f, ldcV_fn, ldcV_l, ldcV_d, Nat.reduceMul, Nat.le_refl, List.reverse_cons, List.reverse_nil, Option.toList, List.map_cons, List.map_nil, List.sum_cons, List.sum_nil, Value.category, tblW_n, tblW_c, Int.cast_ofNat_Int, Int.reduceAdd, Int.reduceToNat, ofI_n]
  simp only [fl_self h.1, sK_stI, sR_stI, sK_stF, sR_stF, sK_stIA, sR_stIA, sK_stFA, sR_stFA, sI_stI, sI_stF, sI_stIA, sI_stFA, sF_stI, sF_stF, sF_stIA, sF_stFA, Nat.left_eq_add, Nat.add_eq_left, Nat.add_left_cancel_iff, Nat.reduceEqDiff, Nat.reduceEqDiff, Nat.succ_ne_self, false_and, and_false, if_false, if_true, nI_succ_sub, Option.some.injEq, Prod.mk.injEq, exists_eq_left', true_and, and_true, retI, retF, retV, retZ1, retZ0, retL, retA, retN, Nat.reduceAdd, Nat.reduceMul, Nat.reduceLT]
  exact ⟨fun _ => h.2, fun a => absurd trivial a⟩
def Γ_Jxf58ca_floatToIntBits_5c35a : List (MI × PT) := [(mi_Jxf58ca_isNaN_12338, P_Jxf58ca_isNaN_12338)]
theorem hΓ_Jxf58ca_floatToIntBits_5c35a (l : Launch) (G : Gx) : ∀ q ∈ Γ_Jxf58ca_floatToIntBits_5c35a, Ct l G q.1 q.2 := List.forall_mem_cons.mpr ⟨ct_Jxf58ca_isNaN_12338 l G, fun _ h => absurd h List.not_mem_nil⟩
set_option maxHeartbeats 1000000 in
theorem ct_Jxf58ca_floatToIntBits_5c35a (l : Launch) (G : Gx) : Ct l G mi_Jxf58ca_floatToIntBits_5c35a P_Jxf58ca_floatToIntBits_5c35a := by
  refine Ct.ofV mo_Jxf58ca_floatToIntBits_5c35a (fun as S E h => ?_)
  unfold P_Jxf58ca_floatToIntBits_5c35a at h
  split at h
  case h_2 => exact h.elim
  rename_i v
  refine ⟨by simp [entL, mL_Jxf58ca_floatToIntBits_5c35a], ?_⟩
  refine wpN_ok (Γ := Γ_Jxf58ca_floatToIntBits_5c35a) (hΓ_Jxf58ca_floatToIntBits_5c35a l G) so_Jxf58ca_floatToIntBits_5c35a 4 _ _ _ _ _ _ ?_
  simp only [mL_Jxf58ca_floatToIntBits_5c35a, mT_Jxf58ca_floatToIntBits_5c35a, rc_Jxf58ca_floatToIntBits_5c35a, rs_Jxf58ca_floatToIntBits_5c35a, Γ_Jxf58ca_floatToIntBits_5c35a, sg_Jxf58ca_floatToIntBits_5c35a_0, sg_Jxf58ca_floatToIntBits_5c35a_12, wn_Jxf58ca_floatToIntBits_5c35a_0, wn_Jxf58ca_floatToIntBits_5c35a_12, wp_c, ex_c, x_nop, x_goto, x_table, x_iinc, x_ldc, x_ldc2, x_iaload, x_faload, x_baload, x_caload, x_iastore, x_fastore, x_bastore, x_castore, x_aastore, x_alen, x_gets, x_new, x_newa, x_anew, x_invs, x_invi, x_invv, x_ret, x_iret, x_lret, x_fret, x_aret, x_lconst, x_fconst0, x_fconst1, x_fconst2, x_dconst0, x_dconst1, x_null, x_iadd, x_isub, x_imul, x_iand, x_ior, x_idiv, x_irem, x_ineg, x_ishl, x_ishr, x_land, x_lor, x_lushr, x_lshl, x_lcmp, x_i2l, x_l2i, x_i2c, x_i2f, x_f2d, x_d2i, x_d2l, x_fadd, x_fsub, x_fmul, x_fdiv, x_dadd, x_dsub, x_dmul, x_ddiv, x_fcmp, x_dcmp, x_dupI, x_dupR, x_dup2, x_popI, x_popR, ldP_I, ldP_L, ldP_F, ldP_D, ldP_R, ldP_N, x_iload, x_iload_n, x_lload, x_lload_n, x_fload, x_fload_n, x_dload, x_dload_n, x_aload, x_aload_n, x_istore, x_istore_n, x_lstore, x_lstore_n, x_fstore, x_fstore_n, x_dstore, x_dstore_n, x_astore, x_astore_n, x_astoreN, x_astore_nN, x_icmp_eq, x_icmp_ne, x_icmp_lt, x_icmp_ge, x_icmp_gt, x_icmp_le, x_if_eq, x_if_ne, x_if_lt, x_if_ge, x_if_gt, x_if_le, x_ifnull, x_ifnullR, x_ifnn, x_ifnnR, x_aaload2, x_cpI, x_cpF, x_bF, x_bD, x_oI, xk_bipush_120, xk_iconst_0, xk_bipush_m6, xk_iconst_1, xk_bipush_80, xk_bipush_48, xk_bipush_57, xk_bipush_10, xk_bipush_64, xk_bipush_46, xk_bipush_97, xk_bipush_122, xk_bipush_119, xk_bipush_61, xk_bipush_59, xk_bipush_8, xk_bipush_33, xk_bipush_126, xk_bipush_m2, xk_bipush_m4, xk_iconst_4, xk_bipush_6, xk_iconst_2, xk_bipush_40, xk_iconst_3, xk_iconst_5, xk_iconst_m1, xk_bipush_m5, xk_bipush_12, xk_bipush_100, xk_bipush_26, xk_sipush_9999, xk_sipush_500, xk_bipush_7, xk_bipush_m126, xk_bipush_127, xk_bipush_23, xk_sipush_m1022, xk_sipush_1023, xk_bipush_52, xk_bipush_m3, xk_sipush_9830, xk_sipush_4800, xk_sipush_983, xk_sipush_480, xk_bipush_13, xk_bipush_18, xk_bipush_9, xk_bipush_32, xg_0_0, xp_0_0, xg_0_1, xp_0_1, xg_0_2, xp_0_2, xg_0_3, xp_0_3, xg_0_4, xp_0_4, xg_0_5, xp_0_5, xg_0_6, xp_0_6, xg_0_7, xp_0_7, xg_0_8, xp_0_8, xg_1_0, xp_1_0, xg_1_1, xp_1_1, xg_1_2, xp_1_2, xg_1_3, xp_1_3, xg_2_0, xp_2_0, xg_2_1, xp_2_1, xg_2_2, xp_2_2, xg_3_0, xp_3_0, xg_3_1, xp_3_1, xg_3_2, xp_3_2, xg_3_3, xp_3_3, xg_3_4, xp_3_4, xg_3_5, xp_3_5, xg_3_6, xp_3_6, xg_3_7, xp_3_7, xg_3_8, xp_3_8, xg_3_9, xp_3_9, xg_3_10, xp_3_10, xg_3_11, xp_3_11, xg_4_0, xp_4_0, xg_4_1, xp_4_1, xg_5_0, xp_5_0, xg_5_1, xp_5_1, xg_6_0, xp_6_0, xg_6_1, xp_6_1, xg_6_2, xp_6_2, xg_6_3, xp_6_3, xg_6_4, xp_6_4, xg_6_5, xp_6_5, xg_7_0, xp_7_0, xg_7_1, xp_7_1, xg_7_2, xp_7_2, xg_7_3, xp_7_3, xg_7_4, xp_7_4, xg_7_5, xp_7_5, xg_7_6, xp_7_6, xg_7_7, xp_7_7, xg_7_8, xp_7_8, xg_7_9, xp_7_9, xg_7_10, xp_7_10, xg_7_11, xp_7_11, xg_7_12, xp_7_12, xg_7_13, xp_7_13, fv0, fv1, fv2, fv3, kI_0, kI_1, stL, wipeL, entLn, entL, List.getElem?_cons_zero, List.getElem?_cons_succ, List.getElem?_nil, List.set_cons_zero, List.set_cons_succ, List.set_nil, List.length_cons, List.length_nil, List.cons_append, List.nil_append, List.replicate, Nat.reduceAdd, Nat.reduceLeDiff, Nat.reduceSub, true_and, and_true, x_callS, x_callSN, x_callI, x_callIN, x_callV0, x_callV1, x_callV2, x_callV3, x_callV4, x_callV5, x_callV6, x_callV7, callP, List.take_succ_cons, List.take_zero, List.take_nil, List.drop_succ_cons, List.drop_zero, List.drop_nil, List.getLast?_singleton, List.getLast?_cons_cons, Option.some.injEq, Value.ref.injEq, exists_eq_left, exists_eq_left', Nat.zero_le, Nat.add_zero, ldcV_f, ldcV_fn, ldcV_l, ldcV_d, Nat.reduceMul, Nat.le_refl, List.reverse_cons, List.reverse_nil, Option.toList, List.map_cons, List.map_nil, List.sum_cons, List.sum_nil, Value.category, tblW_n, tblW_c, Int.cast_ofNat_Int, Int.reduceAdd, Int.reduceToNat, ofI_n, rc_Jxf58ca_isNaN_12338, rs_Jxf58ca_isNaN_12338, P_Jxf58ca_isNaN_12338]
  simp only [h.1, n00, sK_stI, sR_stI, sK_stF, sR_stF, sK_stIA, sR_stIA, sK_stFA, sR_stFA, sI_stI, sI_stF, sI_stIA, sI_stFA, sF_stI, sF_stF, sF_stIA, sF_stFA, Nat.left_eq_add, Nat.add_eq_left, Nat.add_left_cancel_iff, Nat.reduceEqDiff, Nat.reduceEqDiff, Nat.succ_ne_self, false_and, and_false, if_false, if_true, nI_succ_sub, Option.some.injEq, Prod.mk.injEq, exists_eq_left', true_and, and_true, retI, retF, retV, retZ1, retZ0, retL, retA, retN, Nat.reduceAdd, Nat.reduceMul, Nat.reduceLT]
  exact ⟨fun a => absurd trivial a, fun _ => h.2⟩
def P_X7_isSo (as : List Value) (S : SS) (E : Option Value → SS → Prop) : Prop := match as with
  | [.ref y, .int p, .int k, .int w] => vp_in p 4 ∧ vp_in k 120 ∧ PreM S y 0 p.toNatClampNeg ∧ E (some (.int (bI (isV (mV S y 0) (mG S y 0 p.toNatClampNeg) k.toNatClampNeg (wh w) = true)))) S
  | _ => False
def Γ_X7_isSo : List (MI × PT) := [(mi_X7_hasLetter, P_X7_hasLetter), (mi_X7_canRead, P_X7_canRead), (mi_X7_promisedTo, P_X7_promisedTo), (mi_X7_hasRoom, P_X7_hasRoom)]
theorem hΓ_X7_isSo (l : Launch) (G : Gx) : ∀ q ∈ Γ_X7_isSo, Ct l G q.1 q.2 := List.forall_mem_cons.mpr ⟨ct_X7_hasLetter l G, List.forall_mem_cons.mpr ⟨ct_X7_canRead l G, List.forall_mem_cons.mpr ⟨ct_X7_promisedTo l G, List.forall_mem_cons.mpr ⟨ct_X7_hasRoom l G, fun _ h => absurd h List.not_mem_nil⟩⟩⟩⟩
set_option maxHeartbeats 1000000 in
theorem ct_X7_isSo (l : Launch) (G : Gx) : Ct l G mi_X7_isSo P_X7_isSo := by
  refine Ct.ofV mo_X7_isSo (fun as S E h => ?_)
  unfold P_X7_isSo at h
  split at h
  case h_2 => exact h.elim
  rename_i y p k w
  refine ⟨by simp [entL, mL_X7_isSo], ?_⟩
  refine wpN_ok (Γ := Γ_X7_isSo) (hΓ_X7_isSo l G) so_X7_isSo 7 _ _ _ _ _ _ ?_
  simp only [mL_X7_isSo, mT_X7_isSo, rc_X7_isSo, rs_X7_isSo, Γ_X7_isSo, sg_X7_isSo_0, sg_X7_isSo_14, sg_X7_isSo_29, sg_X7_isSo_50, sg_X7_isSo_54, sg_X7_isSo_61, wn_X7_isSo_0, wn_X7_isSo_14, wn_X7_isSo_29, wn_X7_isSo_50, wn_X7_isSo_54, wn_X7_isSo_61, wp_c, ex_c, x_nop, x_goto, x_table, x_iinc, x_ldc, x_ldc2, x_iaload, x_faload, x_baload, x_caload, x_iastore, x_fastore, x_bastore, x_castore, x_aastore, x_alen, x_gets, x_new, x_newa, x_anew, x_invs, x_invi, x_invv, x_ret, x_iret, x_lret, x_fret, x_aret, x_lconst, x_fconst0, x_fconst1, x_fconst2, x_dconst0, x_dconst1, x_null, x_iadd, x_isub, x_imul, x_iand, x_ior, x_idiv, x_irem, x_ineg, x_ishl, x_ishr, x_land, x_lor, x_lushr, x_lshl, x_lcmp, x_i2l, x_l2i, x_i2c, x_i2f, x_f2d, x_d2i, x_d2l, x_fadd, x_fsub, x_fmul, x_fdiv, x_dadd, x_dsub, x_dmul, x_ddiv, x_fcmp, x_dcmp, x_dupI, x_dupR, x_dup2, x_popI, x_popR, ldP_I, ldP_L, ldP_F, ldP_D, ldP_R, ldP_N, x_iload, x_iload_n, x_lload, x_lload_n, x_fload, x_fload_n, x_dload, x_dload_n, x_aload, x_aload_n, x_istore, x_istore_n, x_lstore, x_lstore_n, x_fstore, x_fstore_n, x_dstore, x_dstore_n, x_astore, x_astore_n, x_astoreN, x_astore_nN, x_icmp_eq, x_icmp_ne, x_icmp_lt, x_icmp_ge, x_icmp_gt, x_icmp_le, x_if_eq, x_if_ne, x_if_lt, x_if_ge, x_if_gt, x_if_le, x_ifnull, x_ifnullR, x_ifnn, x_ifnnR, x_aaload2, x_cpI, x_cpF, x_bF, x_bD, x_oI, xk_bipush_120, xk_iconst_0, xk_bipush_m6, xk_iconst_1, xk_bipush_80, xk_bipush_48, xk_bipush_57, xk_bipush_10, xk_bipush_64, xk_bipush_46, xk_bipush_97, xk_bipush_122, xk_bipush_119, xk_bipush_61, xk_bipush_59, xk_bipush_8, xk_bipush_33, xk_bipush_126, xk_bipush_m2, xk_bipush_m4, xk_iconst_4, xk_bipush_6, xk_iconst_2, xk_bipush_40, xk_iconst_3, xk_iconst_5, xk_iconst_m1, xk_bipush_m5, xk_bipush_12, xk_bipush_100, xk_bipush_26, xk_sipush_9999, xk_sipush_500, xk_bipush_7, xk_bipush_m126, xk_bipush_127, xk_bipush_23, xk_sipush_m1022, xk_sipush_1023, xk_bipush_52, xk_bipush_m3, xk_sipush_9830, xk_sipush_4800, xk_sipush_983, xk_sipush_480, xk_bipush_13, xk_bipush_18, xk_bipush_9, xk_bipush_32, xg_0_0, xp_0_0, xg_0_1, xp_0_1, xg_0_2, xp_0_2, xg_0_3, xp_0_3, xg_0_4, xp_0_4, xg_0_5, xp_0_5, xg_0_6, xp_0_6, xg_0_7, xp_0_7, xg_0_8, xp_0_8, xg_1_0, xp_1_0, xg_1_1, xp_1_1, xg_1_2, xp_1_2, xg_1_3, xp_1_3, xg_2_0, xp_2_0, xg_2_1, xp_2_1, xg_2_2, xp_2_2, xg_3_0, xp_3_0, xg_3_1, xp_3_1, xg_3_2, xp_3_2, xg_3_3, xp_3_3, xg_3_4, xp_3_4, xg_3_5, xp_3_5, xg_3_6, xp_3_6, xg_3_7, xp_3_7, xg_3_8, xp_3_8, xg_3_9, xp_3_9, xg_3_10, xp_3_10, xg_3_11, xp_3_11, xg_4_0, xp_4_0, xg_4_1, xp_4_1, xg_5_0, xp_5_0, xg_5_1, xp_5_1, xg_6_0, xp_6_0, xg_6_1, xp_6_1, xg_6_2, xp_6_2, xg_6_3, xp_6_3, xg_6_4, xp_6_4, xg_6_5, xp_6_5, xg_7_0, xp_7_0, xg_7_1, xp_7_1, xg_7_2, xp_7_2, xg_7_3, xp_7_3, xg_7_4, xp_7_4, xg_7_5, xp_7_5, xg_7_6, xp_7_6, xg_7_7, xp_7_7, xg_7_8, xp_7_8, xg_7_9, xp_7_9, xg_7_10, xp_7_10, xg_7_11, xp_7_11, xg_7_12, xp_7_12, xg_7_13, xp_7_13, fv0, fv1, fv2, fv3, kI_0, kI_1, stL, wipeL, entLn, entL, List.getElem?_cons_zero, List.getElem?_cons_succ, List.getElem?_nil, List.set_cons_zero, List.set_cons_succ, List.set_nil, List.length_cons, List.length_nil, List.cons_append, List.nil_append, List.replicate, Nat.reduceAdd, Nat.reduceLeDiff, Nat.reduceSub, true_and, and_true, x_callS, x_callSN, x_callI, x_callIN, x_callV0, x_callV1, x_callV2, x_callV3, x_callV4, x_callV5, x_callV6, x_callV7, callP, List.take_succ_cons, List.take_zero, List.take_nil, List.drop_succ_cons, List.drop_zero, List.drop_nil, List.getLast?_singleton, List.getLast?_cons_cons, Option.some.injEq, Value.ref.injEq, exists_eq_left, exists_eq_left', Nat.zero_le, Nat.add_zero, ldcV_f, ldcV_fn, ldcV_l, ldcV_d, Nat.reduceMul, Nat.le_refl, List.reverse_cons, List.reverse_nil, Option.toList, List.map_cons, List.map_nil, List.sum_cons, List.sum_nil, Value.category, tblW_n, tblW_c, Int.cast_ofNat_Int, Int.reduceAdd, Int.reduceToNat, ofI_n, rc_X7_hasLetter, rs_X7_hasLetter, P_X7_hasLetter, rc_X7_canRead, rs_X7_canRead, P_X7_canRead, rc_X7_promisedTo, rs_X7_promisedTo, P_X7_promisedTo, rc_X7_hasRoom, rs_X7_hasRoom, P_X7_hasRoom]
  obtain ⟨h2, h3, hp, h⟩ := h
  obtain ⟨p, hp4, rfl⟩ := vp_in_of h2 (by decide)
  obtain ⟨k, hk, rfl⟩ := vp_in_of h3 (by decide)
  simp (disch := omega) only [nlt0, nge0, neq0, ngt0, nle0, nI_ltI, nI_leI, nI_eq, nI_cl, in_nI, false_implies, true_implies, not_false_eq_true, not_true_eq_false, and_true, true_and, nI_add, pk_mul, implies_true, not_lt0] at h hp
  simp only [hp.1.1, hp.1, bI_0, retZb, sK_stI, sR_stI, sK_stF, sR_stF, sK_stIA, sR_stIA, sK_stFA, sR_stFA, sI_stI, sI_stF, sI_stIA, sI_stFA, sF_stI, sF_stF, sF_stIA, sF_stFA, Nat.left_eq_add, Nat.add_eq_left, Nat.add_left_cancel_iff, Nat.reduceEqDiff, Nat.reduceEqDiff, Nat.succ_ne_self, false_and, and_false, if_false, if_true, nI_succ_sub, Option.some.injEq, Prod.mk.injEq, exists_eq_left', true_and, and_true, retI, retF, retV, retZ1, retZ0, retL, retA, retN, Nat.reduceAdd, Nat.reduceMul, Nat.reduceLT]
  simp (disch := omega) only [nlt0, nge0, neq0, ngt0, nle0, nI_ltI, nI_leI, nI_eq, nI_cl, in_nI, false_implies, true_implies, not_false_eq_true, not_true_eq_false, and_true, true_and, nI_add, pk_mul, implies_true, not_lt0, hp, retZb]
  by_cases w0 : w = 0
  · rw [w0, show wh 0 = 0 from rfl] at h
    have e : isV (mV S y 0) (mG S y 0 p) k 0 = !decide ((mG S y 0 p).t k = mI 6) := rfl
    rw [e] at h
    simp only [w0, not_true_eq_false, false_implies, true_and, not_false_eq_true, true_implies]
    refine ⟨by omega, hp4, hk, ?_⟩
    rwa [bI_congr (show ((!decide ((mG S y 0 p).t k = mI 6)) = true) ↔ ¬ (mG S y 0 p).t k = mI 6 by simp)] at h
  · by_cases w1 : w = nI 1
    · rw [w1, wh_1] at h
      simp only [w0, w1, not_true_eq_false, false_implies, true_and, not_false_eq_true, true_implies, and_true, n10]
      exact ⟨by omega, hp4, hk, h⟩
    · by_cases w2 : w = nI 2
      · rw [w2, wh_2] at h
        have e : isV (mV S y 0) (mG S y 0 p) k 2 = !decide ((mG S y 0 p).p k = mI 6) := rfl
        rw [e] at h
        simp only [w0, w1, w2, not_true_eq_false, false_implies, true_and, not_false_eq_true, true_implies, and_true]
        refine ⟨fun _ => ⟨fun _ => ⟨by omega, hp4, hk, fun c => ?_, fun c => ?_⟩, fun a => absurd a (by decide)⟩, fun a => absurd a (by decide)⟩
        · rwa [bI_f (by simp [c])] at h
        · rwa [bI_t (by simp [c])] at h
      · have e : wh w = 3 := by
          unfold wh
          rw [if_neg w0, if_neg w1, if_neg w2]
        rw [e] at h
        simp only [w0, w1, w2, not_true_eq_false, false_implies, true_and, not_false_eq_true, true_implies, and_true]
        exact ⟨by omega, hp4, hk, h⟩
def P_X7_longestWord (as : List Value) (S : SS) (E : Option Value → SS → Prop) : Prop := match as with
  | [.ref y, .int p, .int r] => vp_in p 4 ∧ vp_in r 10 ∧ PreM S y 0 p.toNatClampNeg ∧ E (some (.int (nI (runS (fun c => rdV (mV S y 0) (mG S y 0 p.toNatClampNeg) (r.toNatClampNeg * 12 + c)) 12).1))) S
  | _ => False
def Γ_X7_longestWord : List (MI × PT) := [(mi_X7_spotOf, P_X7_spotOf), (mi_X7_canRead, P_X7_canRead)]
theorem hΓ_X7_longestWord (l : Launch) (G : Gx) : ∀ q ∈ Γ_X7_longestWord, Ct l G q.1 q.2 := List.forall_mem_cons.mpr ⟨ct_X7_spotOf l G, List.forall_mem_cons.mpr ⟨ct_X7_canRead l G, fun _ h => absurd h List.not_mem_nil⟩⟩
set_option maxHeartbeats 1000000 in
theorem lp_X7_longestWord (l : Launch) (G : Gx) {S : SS} {y p r : Nat} {E : Option Value → SS → Prop} (hp : PreM S y 0 p) (hr : r < 10) (h : E (some (.int (nI (runS (fun c => rdV (mV S y 0) (mG S y 0 p) (r * 12 + c)) 12).1))) S) :
    ∀ c, c ≤ 12 → V l G mi_X7_longestWord E 8 [some (.ref y), some (.int (nI p)), some (.int (nI r)), some (.int (nI (runS (fun c => rdV (mV S y 0) (mG S y 0 p) (r * 12 + c)) c).1)), some (.int (nI (runS (fun c => rdV (mV S y 0) (mG S y 0 p) (r * 12 + c)) c).2)), some (.int (nI c))] [] S 0 0 := by
  refine loopUp 12 fun c hc ih => ?_
  refine (V.segN (Γ := Γ_X7_longestWord) (hΓ_X7_longestWord l G) so_X7_longestWord 7 (sg := sg_X7_longestWord_8) so_X7_longestWord_8 ?_ : V l G mi_X7_longestWord _ (segPc sg_X7_longestWord_8) _ _ _ _ _)
  simp only [mL_X7_longestWord, mT_X7_longestWord, rc_X7_longestWord, rs_X7_longestWord, Γ_X7_longestWord, sg_X7_longestWord_0, sg_X7_longestWord_8, sg_X7_longestWord_37, sg_X7_longestWord_38, sg_X7_longestWord_51, sg_X7_longestWord_52, sg_X7_longestWord_59, wn_X7_longestWord_0, wn_X7_longestWord_8, wn_X7_longestWord_37, wn_X7_longestWord_38, wn_X7_longestWord_51, wn_X7_longestWord_52, wn_X7_longestWord_59, wp_c, ex_c, x_nop, x_goto, x_table, x_iinc, x_ldc, x_ldc2, x_iaload, x_faload, x_baload, x_caload, x_iastore, x_fastore, x_bastore, x_castore, x_aastore, x_alen, x_gets, x_new, x_newa, x_anew, x_invs, x_invi, x_invv, x_ret, x_iret, x_lret, x_fret, x_aret, x_lconst, x_fconst0, x_fconst1, x_fconst2, x_dconst0, x_dconst1, x_null, x_iadd, x_isub, x_imul, x_iand, x_ior, x_idiv, x_irem, x_ineg, x_ishl, x_ishr, x_land, x_lor, x_lushr, x_lshl, x_lcmp, x_i2l, x_l2i, x_i2c, x_i2f, x_f2d, x_d2i, x_d2l, x_fadd, x_fsub, x_fmul, x_fdiv, x_dadd, x_dsub, x_dmul, x_ddiv, x_fcmp, x_dcmp, x_dupI, x_dupR, x_dup2, x_popI, x_popR, ldP_I, ldP_L, ldP_F, ldP_D, ldP_R, ldP_N, x_iload, x_iload_n, x_lload, x_lload_n, x_fload, x_fload_n, x_dload, x_dload_n, x_aload, x_aload_n, x_istore, x_istore_n, x_lstore, x_lstore_n, x_fstore, x_fstore_n, x_dstore, x_dstore_n, x_astore, x_astore_n, x_astoreN, x_astore_nN, x_icmp_eq, x_icmp_ne, x_icmp_lt, x_icmp_ge, x_icmp_gt, x_icmp_le, x_if_eq, x_if_ne, x_if_lt, x_if_ge, x_if_gt, x_if_le, x_ifnull, x_ifnullR, x_ifnn, x_ifnnR, x_aaload2, x_cpI, x_cpF, x_bF, x_bD, x_oI, xk_bipush_120, xk_iconst_0, xk_bipush_m6, xk_iconst_1, xk_bipush_80, xk_bipush_48, xk_bipush_57, xk_bipush_10, xk_bipush_64, xk_bipush_46, xk_bipush_97, xk_bipush_122, xk_bipush_119, xk_bipush_61, xk_bipush_59, xk_bipush_8, xk_bipush_33, xk_bipush_126, xk_bipush_m2, xk_bipush_m4, xk_iconst_4, xk_bipush_6, xk_iconst_2, xk_bipush_40, xk_iconst_3, xk_iconst_5, xk_iconst_m1, xk_bipush_m5, xk_bipush_12, xk_bipush_100, xk_bipush_26, xk_sipush_9999, xk_sipush_500, xk_bipush_7, xk_bipush_m126, xk_bipush_127, xk_bipush_23, xk_sipush_m1022, xk_sipush_1023, xk_bipush_52, xk_bipush_m3, xk_sipush_9830, xk_sipush_4800, xk_sipush_983, xk_sipush_480, xk_bipush_13, xk_bipush_18, xk_bipush_9, xk_bipush_32, xg_0_0, xp_0_0, xg_0_1, xp_0_1, xg_0_2, xp_0_2, xg_0_3, xp_0_3, xg_0_4, xp_0_4, xg_0_5, xp_0_5, xg_0_6, xp_0_6, xg_0_7, xp_0_7, xg_0_8, xp_0_8, xg_1_0, xp_1_0, xg_1_1, xp_1_1, xg_1_2, xp_1_2, xg_1_3, xp_1_3, xg_2_0, xp_2_0, xg_2_1, xp_2_1, xg_2_2, xp_2_2, xg_3_0, xp_3_0, xg_3_1, xp_3_1, xg_3_2, xp_3_2, xg_3_3, xp_3_3, xg_3_4, xp_3_4, xg_3_5, xp_3_5, xg_3_6, xp_3_6, xg_3_7, xp_3_7, xg_3_8, xp_3_8, xg_3_9, xp_3_9, xg_3_10, xp_3_10, xg_3_11, xp_3_11, xg_4_0, xp_4_0, xg_4_1, xp_4_1, xg_5_0, xp_5_0, xg_5_1, xp_5_1, xg_6_0, xp_6_0, xg_6_1, xp_6_1, xg_6_2, xp_6_2, xg_6_3, xp_6_3, xg_6_4, xp_6_4, xg_6_5, xp_6_5, xg_7_0, xp_7_0, xg_7_1, xp_7_1, xg_7_2, xp_7_2, xg_7_3, xp_7_3, xg_7_4, xp_7_4, xg_7_5, xp_7_5, xg_7_6, xp_7_6, xg_7_7, xp_7_7, xg_7_8, xp_7_8, xg_7_9, xp_7_9, xg_7_10, xp_7_10, xg_7_11, xp_7_11, xg_7_12, xp_7_12, xg_7_13, xp_7_13, fv0, fv1, fv2, fv3, kI_0, kI_1, stL, wipeL, entLn, entL, List.getElem?_cons_zero, List.getElem?_cons_succ, List.getElem?_nil, List.set_cons_zero, List.set_cons_succ, List.set_nil, List.length_cons, List.length_nil, List.cons_append, List.nil_append, List.replicate, Nat.reduceAdd, Nat.reduceLeDiff, Nat.reduceSub, true_and, and_true, x_callS, x_callSN, x_callI, x_callIN, x_callV0, x_callV1, x_callV2, x_callV3, x_callV4, x_callV5, x_callV6, x_callV7, callP, List.take_succ_cons, List.take_zero, List.take_nil, List.drop_succ_cons, List.drop_zero, List.drop_nil, List.getLast?_singleton, List.getLast?_cons_cons, Option.some.injEq, Value.ref.injEq, exists_eq_left, exists_eq_left', Nat.zero_le, Nat.add_zero, ldcV_f, ldcV_fn, ldcV_l, ldcV_d, Nat.reduceMul, Nat.le_refl, List.reverse_cons, List.reverse_nil, Option.toList, List.map_cons, List.map_nil, List.sum_cons, List.sum_nil, Value.category, tblW_n, tblW_c, Int.cast_ofNat_Int, Int.reduceAdd, Int.reduceToNat, ofI_n, rc_X7_spotOf, rs_X7_spotOf, P_X7_spotOf, rc_X7_canRead, rs_X7_canRead, P_X7_canRead]
  have hb := runS_le (fun c => rdV (mV S y 0) (mG S y 0 p) (r * 12 + c)) c
  simp only [hp.1.1, hp.1, bI_0, sK_stI, sR_stI, sK_stF, sR_stF, sK_stIA, sR_stIA, sK_stFA, sR_stFA, sI_stI, sI_stF, sI_stIA, sI_stFA, sF_stI, sF_stF, sF_stIA, sF_stFA, Nat.left_eq_add, Nat.add_eq_left, Nat.add_left_cancel_iff, Nat.reduceEqDiff, Nat.reduceEqDiff, Nat.succ_ne_self, false_and, and_false, if_false, if_true, nI_succ_sub, Option.some.injEq, Prod.mk.injEq, exists_eq_left', true_and, and_true, retI, retF, retV, retZ1, retZ0, retL, retA, retN, Nat.reduceAdd, Nat.reduceMul, Nat.reduceLT]
  refine ⟨fun q => ?_, fun q => ?_⟩
  · simp (disch := omega) only [nlt0, nge0, neq0, ngt0, nle0, nI_ltI, nI_leI, nI_eq, nI_cl, in_nI, false_implies, true_implies, not_false_eq_true, not_true_eq_false, and_true, true_and, nI_add, pk_mul, implies_true, not_lt0] at q
    have e : c = 12 := by omega
    subst e
    exact h
  · simp (disch := omega) only [nlt0, nge0, neq0, ngt0, nle0, nI_ltI, nI_leI, nI_eq, nI_cl, in_nI, false_implies, true_implies, not_false_eq_true, not_true_eq_false, and_true, true_and, nI_add, pk_mul, implies_true, not_lt0] at q
    have hPl : Pl (nI r) (nI c) := ⟨nI_pos' (by omega), nI_lt hr (by omega), nI_pos' (by omega), nI_lt (by omega) (by omega)⟩
    have ek : kP (nI r) (nI c) = r * 12 + c := kP_n hr (by omega)
    have hp4 := hp.2.2.1
    rw [ek]
    simp (disch := omega) only [nlt0, nge0, neq0, ngt0, nle0, nI_ltI, nI_leI, nI_eq, nI_cl, in_nI, false_implies, true_implies, not_false_eq_true, not_true_eq_false, and_true, true_and, nI_add, pk_mul, implies_true, not_lt0, hp]
    have ih := ih (by omega)
    rw [runS_s] at ih
    refine ⟨hPl, by omega, hp4, by omega, fun c2 => ⟨fun _ => ?_, fun a => absurd (Nat.zero_le _) a⟩, fun c2 => ?_⟩
    · rw [if_neg c2] at ih
      exact ih
    · rw [if_pos (Decidable.not_not.mp c2)] at ih
      refine ⟨fun c3 => ?_, fun c3 => ?_⟩
      · rw [Nat.max_eq_left c3] at ih
        exact ih
      · rw [Nat.max_eq_right (by omega)] at ih
        exact ih
set_option maxHeartbeats 1000000 in
theorem ct_X7_longestWord (l : Launch) (G : Gx) : Ct l G mi_X7_longestWord P_X7_longestWord := by
  refine Ct.ofV mo_X7_longestWord (fun as S E h => ?_)
  unfold P_X7_longestWord at h
  split at h
  case h_2 => exact h.elim
  rename_i y p r
  refine ⟨by simp [entL, mL_X7_longestWord], ?_⟩
  refine wpN_ok (Γ := Γ_X7_longestWord) (hΓ_X7_longestWord l G) so_X7_longestWord 7 _ _ _ _ _ _ ?_
  simp only [mL_X7_longestWord, mT_X7_longestWord, rc_X7_longestWord, rs_X7_longestWord, Γ_X7_longestWord, sg_X7_longestWord_0, sg_X7_longestWord_8, sg_X7_longestWord_37, sg_X7_longestWord_38, sg_X7_longestWord_51, sg_X7_longestWord_52, sg_X7_longestWord_59, wn_X7_longestWord_0, wn_X7_longestWord_8, wn_X7_longestWord_37, wn_X7_longestWord_38, wn_X7_longestWord_51, wn_X7_longestWord_52, wn_X7_longestWord_59, wp_c, ex_c, x_nop, x_goto, x_table, x_iinc, x_ldc, x_ldc2, x_iaload, x_faload, x_baload, x_caload, x_iastore, x_fastore, x_bastore, x_castore, x_aastore, x_alen, x_gets, x_new, x_newa, x_anew, x_invs, x_invi, x_invv, x_ret, x_iret, x_lret, x_fret, x_aret, x_lconst, x_fconst0, x_fconst1, x_fconst2, x_dconst0, x_dconst1, x_null, x_iadd, x_isub, x_imul, x_iand, x_ior, x_idiv, x_irem, x_ineg, x_ishl, x_ishr, x_land, x_lor, x_lushr, x_lshl, x_lcmp, x_i2l, x_l2i, x_i2c, x_i2f, x_f2d, x_d2i, x_d2l, x_fadd, x_fsub, x_fmul, x_fdiv, x_dadd, x_dsub, x_dmul, x_ddiv, x_fcmp, x_dcmp, x_dupI, x_dupR, x_dup2, x_popI, x_popR, ldP_I, ldP_L, ldP_F, ldP_D, ldP_R, ldP_N, x_iload, x_iload_n, x_lload, x_lload_n, x_fload, x_fload_n, x_dload, x_dload_n, x_aload, x_aload_n, x_istore, x_istore_n, x_lstore, x_lstore_n, x_fstore, x_fstore_n, x_dstore, x_dstore_n, x_astore, x_astore_n, x_astoreN, x_astore_nN, x_icmp_eq, x_icmp_ne, x_icmp_lt, x_icmp_ge, x_icmp_gt, x_icmp_le, x_if_eq, x_if_ne, x_if_lt, x_if_ge, x_if_gt, x_if_le, x_ifnull, x_ifnullR, x_ifnn, x_ifnnR, x_aaload2, x_cpI, x_cpF, x_bF, x_bD, x_oI, xk_bipush_120, xk_iconst_0, xk_bipush_m6, xk_iconst_1, xk_bipush_80, xk_bipush_48, xk_bipush_57, xk_bipush_10, xk_bipush_64, xk_bipush_46, xk_bipush_97, xk_bipush_122, xk_bipush_119, xk_bipush_61, xk_bipush_59, xk_bipush_8, xk_bipush_33, xk_bipush_126, xk_bipush_m2, xk_bipush_m4, xk_iconst_4, xk_bipush_6, xk_iconst_2, xk_bipush_40, xk_iconst_3, xk_iconst_5, xk_iconst_m1, xk_bipush_m5, xk_bipush_12, xk_bipush_100, xk_bipush_26, xk_sipush_9999, xk_sipush_500, xk_bipush_7, xk_bipush_m126, xk_bipush_127, xk_bipush_23, xk_sipush_m1022, xk_sipush_1023, xk_bipush_52, xk_bipush_m3, xk_sipush_9830, xk_sipush_4800, xk_sipush_983, xk_sipush_480, xk_bipush_13, xk_bipush_18, xk_bipush_9, xk_bipush_32, xg_0_0, xp_0_0, xg_0_1, xp_0_1, xg_0_2, xp_0_2, xg_0_3, xp_0_3, xg_0_4, xp_0_4, xg_0_5, xp_0_5, xg_0_6, xp_0_6, xg_0_7, xp_0_7, xg_0_8, xp_0_8, xg_1_0, xp_1_0, xg_1_1, xp_1_1, xg_1_2, xp_1_2, xg_1_3, xp_1_3, xg_2_0, xp_2_0, xg_2_1, xp_2_1, xg_2_2, xp_2_2, xg_3_0, xp_3_0, xg_3_1, xp_3_1, xg_3_2, xp_3_2, xg_3_3, xp_3_3, xg_3_4, xp_3_4, xg_3_5, xp_3_5, xg_3_6, xp_3_6, xg_3_7, xp_3_7, xg_3_8, xp_3_8, xg_3_9, xp_3_9, xg_3_10, xp_3_10, xg_3_11, xp_3_11, xg_4_0, xp_4_0, xg_4_1, xp_4_1, xg_5_0, xp_5_0, xg_5_1, xp_5_1, xg_6_0, xp_6_0, xg_6_1, xp_6_1, xg_6_2, xp_6_2, xg_6_3, xp_6_3, xg_6_4, xp_6_4, xg_6_5, xp_6_5, xg_7_0, xp_7_0, xg_7_1, xp_7_1, xg_7_2, xp_7_2, xg_7_3, xp_7_3, xg_7_4, xp_7_4, xg_7_5, xp_7_5, xg_7_6, xp_7_6, xg_7_7, xp_7_7, xg_7_8, xp_7_8, xg_7_9, xp_7_9, xg_7_10, xp_7_10, xg_7_11, xp_7_11, xg_7_12, xp_7_12, xg_7_13, xp_7_13, fv0, fv1, fv2, fv3, kI_0, kI_1, stL, wipeL, entLn, entL, List.getElem?_cons_zero, List.getElem?_cons_succ, List.getElem?_nil, List.set_cons_zero, List.set_cons_succ, List.set_nil, List.length_cons, List.length_nil, List.cons_append, List.nil_append, List.replicate, Nat.reduceAdd, Nat.reduceLeDiff, Nat.reduceSub, true_and, and_true, x_callS, x_callSN, x_callI, x_callIN, x_callV0, x_callV1, x_callV2, x_callV3, x_callV4, x_callV5, x_callV6, x_callV7, callP, List.take_succ_cons, List.take_zero, List.take_nil, List.drop_succ_cons, List.drop_zero, List.drop_nil, List.getLast?_singleton, List.getLast?_cons_cons, Option.some.injEq, Value.ref.injEq, exists_eq_left, exists_eq_left', Nat.zero_le, Nat.add_zero, ldcV_f, ldcV_fn, ldcV_l, ldcV_d, Nat.reduceMul, Nat.le_refl, List.reverse_cons, List.reverse_nil, Option.toList, List.map_cons, List.map_nil, List.sum_cons, List.sum_nil, Value.category, tblW_n, tblW_c, Int.cast_ofNat_Int, Int.reduceAdd, Int.reduceToNat, ofI_n, rc_X7_spotOf, rs_X7_spotOf, P_X7_spotOf, rc_X7_canRead, rs_X7_canRead, P_X7_canRead]
  obtain ⟨h1, h2, hp, h⟩ := h
  obtain ⟨p, hp4, rfl⟩ := vp_in_of h1 (by decide)
  obtain ⟨r, hr, rfl⟩ := vp_in_of h2 (by decide)
  simp (disch := omega) only [nlt0, nge0, neq0, ngt0, nle0, nI_ltI, nI_leI, nI_eq, nI_cl, in_nI, false_implies, true_implies, not_false_eq_true, not_true_eq_false, and_true, true_and, nI_add, pk_mul, implies_true, not_lt0] at h hp
  exact lp_X7_longestWord l G hp hr h 0 (by omega)
def P_X7_leastLight (as : List Value) (S : SS) (E : Option Value → SS → Prop) : Prop := match as with
  | [.ref y, .int p] => vp_in p 4 ∧ ModAt S y ∧ E (some (.float (leF (mG S y 0 p.toNatClampNeg).l 119))) S
  | _ => False
def Γ_X7_leastLight : List (MI × PT) := [(mi_X7_lightAt, P_X7_lightAt)]
theorem hΓ_X7_leastLight (l : Launch) (G : Gx) : ∀ q ∈ Γ_X7_leastLight, Ct l G q.1 q.2 := List.forall_mem_cons.mpr ⟨ct_X7_lightAt l G, fun _ h => absurd h List.not_mem_nil⟩
set_option maxHeartbeats 1000000 in
theorem lp_X7_leastLight (l : Launch) (G : Gx) {S : SS} {y p : Nat} {E : Option Value → SS → Prop} (hM : ModAt S y) (hp : p < 4) (h : E (some (.float (leF (mG S y 0 p).l 119))) S) :
    ∀ k, k ≤ 119 → ∀ x4, V l G mi_X7_leastLight E 14 [some (.ref y), some (.int (nI p)), some (.float (leF (mG S y 0 p).l k)), some (.int (nI (k + 1))), x4] [] S 0 0 := by
  refine loopUp 119 fun k hk ih x4 => ?_
  refine (V.segN (Γ := Γ_X7_leastLight) (hΓ_X7_leastLight l G) so_X7_leastLight 5 (sg := sg_X7_leastLight_14) so_X7_leastLight_14 ?_ : V l G mi_X7_leastLight _ (segPc sg_X7_leastLight_14) _ _ _ _ _)
  simp only [mL_X7_leastLight, mT_X7_leastLight, rc_X7_leastLight, rs_X7_leastLight, Γ_X7_leastLight, sg_X7_leastLight_0, sg_X7_leastLight_14, sg_X7_leastLight_45, sg_X7_leastLight_46, sg_X7_leastLight_53, wn_X7_leastLight_0, wn_X7_leastLight_14, wn_X7_leastLight_45, wn_X7_leastLight_46, wn_X7_leastLight_53, wp_c, ex_c, x_nop, x_goto, x_table, x_iinc, x_ldc, x_ldc2, x_iaload, x_faload, x_baload, x_caload, x_iastore, x_fastore, x_bastore, x_castore, x_aastore, x_alen, x_gets, x_new, x_newa, x_anew, x_invs, x_invi, x_invv, x_ret, x_iret, x_lret, x_fret, x_aret, x_lconst, x_fconst0, x_fconst1, x_fconst2, x_dconst0, x_dconst1, x_null, x_iadd, x_isub, x_imul, x_iand, x_ior, x_idiv, x_irem, x_ineg, x_ishl, x_ishr, x_land, x_lor, x_lushr, x_lshl, x_lcmp, x_i2l, x_l2i, x_i2c, x_i2f, x_f2d, x_d2i, x_d2l, x_fadd, x_fsub, x_fmul, x_fdiv, x_dadd, x_dsub, x_dmul, x_ddiv, x_fcmp, x_dcmp, x_dupI, x_dupR, x_dup2, x_popI, x_popR, ldP_I, ldP_L, ldP_F, ldP_D, ldP_R, ldP_N, x_iload, x_iload_n, x_lload, x_lload_n, x_fload, x_fload_n, x_dload, x_dload_n, x_aload, x_aload_n, x_istore, x_istore_n, x_lstore, x_lstore_n, x_fstore, x_fstore_n, x_dstore, x_dstore_n, x_astore, x_astore_n, x_astoreN, x_astore_nN, x_icmp_eq, x_icmp_ne, x_icmp_lt, x_icmp_ge, x_icmp_gt, x_icmp_le, x_if_eq, x_if_ne, x_if_lt, x_if_ge, x_if_gt, x_if_le, x_ifnull, x_ifnullR, x_ifnn, x_ifnnR, x_aaload2, x_cpI, x_cpF, x_bF, x_bD, x_oI, xk_bipush_120, xk_iconst_0, xk_bipush_m6, xk_iconst_1, xk_bipush_80, xk_bipush_48, xk_bipush_57, xk_bipush_10, xk_bipush_64, xk_bipush_46, xk_bipush_97, xk_bipush_122, xk_bipush_119, xk_bipush_61, xk_bipush_59, xk_bipush_8, xk_bipush_33, xk_bipush_126, xk_bipush_m2, xk_bipush_m4, xk_iconst_4, xk_bipush_6, xk_iconst_2, xk_bipush_40, xk_iconst_3, xk_iconst_5, xk_iconst_m1, xk_bipush_m5, xk_bipush_12, xk_bipush_100, xk_bipush_26, xk_sipush_9999, xk_sipush_500, xk_bipush_7, xk_bipush_m126, xk_bipush_127, xk_bipush_23, xk_sipush_m1022, xk_sipush_1023, xk_bipush_52, xk_bipush_m3, xk_sipush_9830, xk_sipush_4800, xk_sipush_983, xk_sipush_480, xk_bipush_13, xk_bipush_18, xk_bipush_9, xk_bipush_32, xg_0_0, xp_0_0, xg_0_1, xp_0_1, xg_0_2, xp_0_2, xg_0_3, xp_0_3, xg_0_4, xp_0_4, xg_0_5, xp_0_5, xg_0_6, xp_0_6, xg_0_7, xp_0_7, xg_0_8, xp_0_8, xg_1_0, xp_1_0, xg_1_1, xp_1_1, xg_1_2, xp_1_2, xg_1_3, xp_1_3, xg_2_0, xp_2_0, xg_2_1, xp_2_1, xg_2_2, xp_2_2, xg_3_0, xp_3_0, xg_3_1, xp_3_1, xg_3_2, xp_3_2, xg_3_3, xp_3_3, xg_3_4, xp_3_4, xg_3_5, xp_3_5, xg_3_6, xp_3_6, xg_3_7, xp_3_7, xg_3_8, xp_3_8, xg_3_9, xp_3_9, xg_3_10, xp_3_10, xg_3_11, xp_3_11, xg_4_0, xp_4_0, xg_4_1, xp_4_1, xg_5_0, xp_5_0, xg_5_1, xp_5_1, xg_6_0, xp_6_0, xg_6_1, xp_6_1, xg_6_2, xp_6_2, xg_6_3, xp_6_3, xg_6_4, xp_6_4, xg_6_5, xp_6_5, xg_7_0, xp_7_0, xg_7_1, xp_7_1, xg_7_2, xp_7_2, xg_7_3, xp_7_3, xg_7_4, xp_7_4, xg_7_5, xp_7_5, xg_7_6, xp_7_6, xg_7_7, xp_7_7, xg_7_8, xp_7_8, xg_7_9, xp_7_9, xg_7_10, xp_7_10, xg_7_11, xp_7_11, xg_7_12, xp_7_12, xg_7_13, xp_7_13, fv0, fv1, fv2, fv3, kI_0, kI_1, stL, wipeL, entLn, entL, List.getElem?_cons_zero, List.getElem?_cons_succ, List.getElem?_nil, List.set_cons_zero, List.set_cons_succ, List.set_nil, List.length_cons, List.length_nil, List.cons_append, List.nil_append, List.replicate, Nat.reduceAdd, Nat.reduceLeDiff, Nat.reduceSub, true_and, and_true, x_callS, x_callSN, x_callI, x_callIN, x_callV0, x_callV1, x_callV2, x_callV3, x_callV4, x_callV5, x_callV6, x_callV7, callP, List.take_succ_cons, List.take_zero, List.take_nil, List.drop_succ_cons, List.drop_zero, List.drop_nil, List.getLast?_singleton, List.getLast?_cons_cons, Option.some.injEq, Value.ref.injEq, exists_eq_left, exists_eq_left', Nat.zero_le, Nat.add_zero, ldcV_f, ldcV_fn, ldcV_l, ldcV_d, Nat.reduceMul, Nat.le_refl, List.reverse_cons, List.reverse_nil, Option.toList, List.map_cons, List.map_nil, List.sum_cons, List.sum_nil, Value.category, tblW_n, tblW_c, Int.cast_ofNat_Int, Int.reduceAdd, Int.reduceToNat, ofI_n, rc_X7_lightAt, rs_X7_lightAt, P_X7_lightAt]
  obtain ⟨m0, m1, m2, m3, m4, m5, m6, m7, m8, m9, m10⟩ := hM
  simp only [m0, m1, m2, m3, m4, m5, m6, m7, m8, m9, m10, sK_stI, sR_stI, sK_stF, sR_stF, sK_stIA, sR_stIA, sK_stFA, sR_stFA, sI_stI, sI_stF, sI_stIA, sI_stFA, sF_stI, sF_stF, sF_stIA, sF_stFA, Nat.left_eq_add, Nat.add_eq_left, Nat.add_left_cancel_iff, Nat.reduceEqDiff, Nat.reduceEqDiff, Nat.succ_ne_self, false_and, and_false, if_false, if_true, nI_succ_sub, Option.some.injEq, Prod.mk.injEq, exists_eq_left', true_and, and_true, retI, retF, retV, retZ1, retZ0, retL, retA, retN, Nat.reduceAdd, Nat.reduceMul, Nat.reduceLT]
  refine ⟨fun q => ?_, fun q => ?_⟩
  · simp (disch := omega) only [nlt0, nge0, neq0, ngt0, nle0, nI_ltI, nI_leI, nI_eq, nI_cl, in_nI, false_implies, true_implies, not_false_eq_true, not_true_eq_false, and_true, true_and, nI_add, pk_mul, implies_true, not_lt0] at q
    rw [show k = 119 by omega]
    exact h
  · simp (disch := omega) only [nlt0, nge0, neq0, ngt0, nle0, nI_ltI, nI_leI, nI_eq, nI_cl, in_nI, false_implies, true_implies, not_false_eq_true, not_true_eq_false, and_true, true_and, nI_add, pk_mul, implies_true, not_lt0] at q
    have hl := lK_lt (q := 0) (by omega) hp (show k + 1 < 120 by omega)
    have ih := ih (by omega)
    unfold leF at ih ⊢
    rw [fo_s] at ih
    unfold ltF at ih ⊢
    have el : (mG S y 0 p).l (k + 1) = sF S (y + 2) (lK 0 p (k + 1)) := rfl
    rw [el] at ih
    simp (disch := omega) only [nlt0, nge0, neq0, ngt0, nle0, nI_ltI, nI_leI, nI_eq, nI_cl, in_nI, false_implies, true_implies, not_false_eq_true, not_true_eq_false, and_true, true_and, nI_add, pk_mul, implies_true, not_lt0]
    refine ⟨by omega, hp, by omega, hl, fun c => ?_, fun c => ?_⟩
    · rw [if_neg (by simpa using c)] at ih
      exact ih _
    · rw [if_pos (by simpa using c)] at ih
      exact ih _
set_option maxHeartbeats 1000000 in
theorem ct_X7_leastLight (l : Launch) (G : Gx) : Ct l G mi_X7_leastLight P_X7_leastLight := by
  refine Ct.ofV mo_X7_leastLight (fun as S E h => ?_)
  unfold P_X7_leastLight at h
  split at h
  case h_2 => exact h.elim
  rename_i y p
  refine ⟨by simp [entL, mL_X7_leastLight], ?_⟩
  refine wpN_ok (Γ := Γ_X7_leastLight) (hΓ_X7_leastLight l G) so_X7_leastLight 7 _ _ _ _ _ _ ?_
  simp only [mL_X7_leastLight, mT_X7_leastLight, rc_X7_leastLight, rs_X7_leastLight, Γ_X7_leastLight, sg_X7_leastLight_0, sg_X7_leastLight_14, sg_X7_leastLight_45, sg_X7_leastLight_46, sg_X7_leastLight_53, wn_X7_leastLight_0, wn_X7_leastLight_14, wn_X7_leastLight_45, wn_X7_leastLight_46, wn_X7_leastLight_53, wp_c, ex_c, x_nop, x_goto, x_table, x_iinc, x_ldc, x_ldc2, x_iaload, x_faload, x_baload, x_caload, x_iastore, x_fastore, x_bastore, x_castore, x_aastore, x_alen, x_gets, x_new, x_newa, x_anew, x_invs, x_invi, x_invv, x_ret, x_iret, x_lret, x_fret, x_aret, x_lconst, x_fconst0, x_fconst1, x_fconst2, x_dconst0, x_dconst1, x_null, x_iadd, x_isub, x_imul, x_iand, x_ior, x_idiv, x_irem, x_ineg, x_ishl, x_ishr, x_land, x_lor, x_lushr, x_lshl, x_lcmp, x_i2l, x_l2i, x_i2c, x_i2f, x_f2d, x_d2i, x_d2l, x_fadd, x_fsub, x_fmul, x_fdiv, x_dadd, x_dsub, x_dmul, x_ddiv, x_fcmp, x_dcmp, x_dupI, x_dupR, x_dup2, x_popI, x_popR, ldP_I, ldP_L, ldP_F, ldP_D, ldP_R, ldP_N, x_iload, x_iload_n, x_lload, x_lload_n, x_fload, x_fload_n, x_dload, x_dload_n, x_aload, x_aload_n, x_istore, x_istore_n, x_lstore, x_lstore_n, x_fstore, x_fstore_n, x_dstore, x_dstore_n, x_astore, x_astore_n, x_astoreN, x_astore_nN, x_icmp_eq, x_icmp_ne, x_icmp_lt, x_icmp_ge, x_icmp_gt, x_icmp_le, x_if_eq, x_if_ne, x_if_lt, x_if_ge, x_if_gt, x_if_le, x_ifnull, x_ifnullR, x_ifnn, x_ifnnR, x_aaload2, x_cpI, x_cpF, x_bF, x_bD, x_oI, xk_bipush_120, xk_iconst_0, xk_bipush_m6, xk_iconst_1, xk_bipush_80, xk_bipush_48, xk_bipush_57, xk_bipush_10, xk_bipush_64, xk_bipush_46, xk_bipush_97, xk_bipush_122, xk_bipush_119, xk_bipush_61, xk_bipush_59, xk_bipush_8, xk_bipush_33, xk_bipush_126, xk_bipush_m2, xk_bipush_m4, xk_iconst_4, xk_bipush_6, xk_iconst_2, xk_bipush_40, xk_iconst_3, xk_iconst_5, xk_iconst_m1, xk_bipush_m5, xk_bipush_12, xk_bipush_100, xk_bipush_26, xk_sipush_9999, xk_sipush_500, xk_bipush_7, xk_bipush_m126, xk_bipush_127, xk_bipush_23, xk_sipush_m1022, xk_sipush_1023, xk_bipush_52, xk_bipush_m3, xk_sipush_9830, xk_sipush_4800, xk_sipush_983, xk_sipush_480, xk_bipush_13, xk_bipush_18, xk_bipush_9, xk_bipush_32, xg_0_0, xp_0_0, xg_0_1, xp_0_1, xg_0_2, xp_0_2, xg_0_3, xp_0_3, xg_0_4, xp_0_4, xg_0_5, xp_0_5, xg_0_6, xp_0_6, xg_0_7, xp_0_7, xg_0_8, xp_0_8, xg_1_0, xp_1_0, xg_1_1, xp_1_1, xg_1_2, xp_1_2, xg_1_3, xp_1_3, xg_2_0, xp_2_0, xg_2_1, xp_2_1, xg_2_2, xp_2_2, xg_3_0, xp_3_0, xg_3_1, xp_3_1, xg_3_2, xp_3_2, xg_3_3, xp_3_3, xg_3_4, xp_3_4, xg_3_5, xp_3_5, xg_3_6, xp_3_6, xg_3_7, xp_3_7, xg_3_8, xp_3_8, xg_3_9, xp_3_9, xg_3_10, xp_3_10, xg_3_11, xp_3_11, xg_4_0, xp_4_0, xg_4_1, xp_4_1, xg_5_0, xp_5_0, xg_5_1, xp_5_1, xg_6_0, xp_6_0, xg_6_1, xp_6_1, xg_6_2, xp_6_2, xg_6_3, xp_6_3, xg_6_4, xp_6_4, xg_6_5, xp_6_5, xg_7_0, xp_7_0, xg_7_1, xp_7_1, xg_7_2, xp_7_2, xg_7_3, xp_7_3, xg_7_4, xp_7_4, xg_7_5, xp_7_5, xg_7_6, xp_7_6, xg_7_7, xp_7_7, xg_7_8, xp_7_8, xg_7_9, xp_7_9, xg_7_10, xp_7_10, xg_7_11, xp_7_11, xg_7_12, xp_7_12, xg_7_13, xp_7_13, fv0, fv1, fv2, fv3, kI_0, kI_1, stL, wipeL, entLn, entL, List.getElem?_cons_zero, List.getElem?_cons_succ, List.getElem?_nil, List.set_cons_zero, List.set_cons_succ, List.set_nil, List.length_cons, List.length_nil, List.cons_append, List.nil_append, List.replicate, Nat.reduceAdd, Nat.reduceLeDiff, Nat.reduceSub, true_and, and_true, x_callS, x_callSN, x_callI, x_callIN, x_callV0, x_callV1, x_callV2, x_callV3, x_callV4, x_callV5, x_callV6, x_callV7, callP, List.take_succ_cons, List.take_zero, List.take_nil, List.drop_succ_cons, List.drop_zero, List.drop_nil, List.getLast?_singleton, List.getLast?_cons_cons, Option.some.injEq, Value.ref.injEq, exists_eq_left, exists_eq_left', Nat.zero_le, Nat.add_zero, ldcV_f, ldcV_fn, ldcV_l, ldcV_d, Nat.reduceMul, Nat.le_refl, List.reverse_cons, List.reverse_nil, Option.toList, List.map_cons, List.map_nil, List.sum_cons, List.sum_nil, Value.category, tblW_n, tblW_c, Int.cast_ofNat_Int, Int.reduceAdd, Int.reduceToNat, ofI_n, rc_X7_lightAt, rs_X7_lightAt, P_X7_lightAt]
  obtain ⟨h1, hM, h⟩ := h
  obtain ⟨p, hp4, rfl⟩ := vp_in_of h1 (by decide)
  simp (disch := omega) only [nlt0, nge0, neq0, ngt0, nle0, nI_ltI, nI_leI, nI_eq, nI_cl, in_nI, false_implies, true_implies, not_false_eq_true, not_true_eq_false, and_true, true_and, nI_add, pk_mul, implies_true, not_lt0] at h
  have hM0 := hM
  obtain ⟨m0, m1, m2, m3, m4, m5, m6, m7, m8, m9, m10⟩ := hM
  have hl := lK_lt (q := 0) (by omega) hp4 (show 0 < 120 by omega)
  simp only [m0, m1, m2, m3, m4, m5, m6, m7, m8, m9, m10, sK_stI, sR_stI, sK_stF, sR_stF, sK_stIA, sR_stIA, sK_stFA, sR_stFA, sI_stI, sI_stF, sI_stIA, sI_stFA, sF_stI, sF_stF, sF_stIA, sF_stFA, Nat.left_eq_add, Nat.add_eq_left, Nat.add_left_cancel_iff, Nat.reduceEqDiff, Nat.reduceEqDiff, Nat.succ_ne_self, false_and, and_false, if_false, if_true, nI_succ_sub, Option.some.injEq, Prod.mk.injEq, exists_eq_left', true_and, and_true, retI, retF, retV, retZ1, retZ0, retL, retA, retN, Nat.reduceAdd, Nat.reduceMul, Nat.reduceLT]
  simp (disch := omega) only [nlt0, nge0, neq0, ngt0, nle0, nI_ltI, nI_leI, nI_eq, nI_cl, in_nI, false_implies, true_implies, not_false_eq_true, not_true_eq_false, and_true, true_and, nI_add, pk_mul, implies_true, not_lt0]
  exact ⟨by omega, hp4, by omega, hl, lp_X7_leastLight l G hM0 hp4 h 0 (by omega) none⟩
def P_X7_allLight (as : List Value) (S : SS) (E : Option Value → SS → Prop) : Prop := match as with
  | [.ref y, .int p] => vp_in p 4 ∧ ModAt S y ∧ GOK (mG S y 0 p.toNatClampNeg) ∧ E (some (.float (suF (mG S y 0 p.toNatClampNeg).l 120))) S
  | _ => False
def Γ_X7_allLight : List (MI × PT) := [(mi_X7_lightAt, P_X7_lightAt)]
theorem hΓ_X7_allLight (l : Launch) (G : Gx) : ∀ q ∈ Γ_X7_allLight, Ct l G q.1 q.2 := List.forall_mem_cons.mpr ⟨ct_X7_lightAt l G, fun _ h => absurd h List.not_mem_nil⟩
set_option maxHeartbeats 1000000 in
theorem lp_X7_allLight (l : Launch) (G : Gx) {S : SS} {y p : Nat} {E : Option Value → SS → Prop} (hM : ModAt S y) (hp : p < 4) (hG : GOK (mG S y 0 p)) (h : E (some (.float (suF (mG S y 0 p).l 120))) S) :
    ∀ k, k ≤ 120 → V l G mi_X7_allLight E 4 [some (.ref y), some (.int (nI p)), some (.float (suF (mG S y 0 p).l k)), some (.int (nI k))] [] S 0 0 := by
  refine loopUp 120 fun k hk ih => ?_
  refine (V.segN (Γ := Γ_X7_allLight) (hΓ_X7_allLight l G) so_X7_allLight 5 (sg := sg_X7_allLight_4) so_X7_allLight_4 ?_ : V l G mi_X7_allLight _ (segPc sg_X7_allLight_4) _ _ _ _ _)
  simp only [mL_X7_allLight, mT_X7_allLight, rc_X7_allLight, rs_X7_allLight, Γ_X7_allLight, sg_X7_allLight_0, sg_X7_allLight_4, sg_X7_allLight_30, wn_X7_allLight_0, wn_X7_allLight_4, wn_X7_allLight_30, wp_c, ex_c, x_nop, x_goto, x_table, x_iinc, x_ldc, x_ldc2, x_iaload, x_faload, x_baload, x_caload, x_iastore, x_fastore, x_bastore, x_castore, x_aastore, x_alen, x_gets, x_new, x_newa, x_anew, x_invs, x_invi, x_invv, x_ret, x_iret, x_lret, x_fret, x_aret, x_lconst, x_fconst0, x_fconst1, x_fconst2, x_dconst0, x_dconst1, x_null, x_iadd, x_isub, x_imul, x_iand, x_ior, x_idiv, x_irem, x_ineg, x_ishl, x_ishr, x_land, x_lor, x_lushr, x_lshl, x_lcmp, x_i2l, x_l2i, x_i2c, x_i2f, x_f2d, x_d2i, x_d2l, x_fadd, x_fsub, x_fmul, x_fdiv, x_dadd, x_dsub, x_dmul, x_ddiv, x_fcmp, x_dcmp, x_dupI, x_dupR, x_dup2, x_popI, x_popR, ldP_I, ldP_L, ldP_F, ldP_D, ldP_R, ldP_N, x_iload, x_iload_n, x_lload, x_lload_n, x_fload, x_fload_n, x_dload, x_dload_n, x_aload, x_aload_n, x_istore, x_istore_n, x_lstore, x_lstore_n, x_fstore, x_fstore_n, x_dstore, x_dstore_n, x_astore, x_astore_n, x_astoreN, x_astore_nN, x_icmp_eq, x_icmp_ne, x_icmp_lt, x_icmp_ge, x_icmp_gt, x_icmp_le, x_if_eq, x_if_ne, x_if_lt, x_if_ge, x_if_gt, x_if_le, x_ifnull, x_ifnullR, x_ifnn, x_ifnnR, x_aaload2, x_cpI, x_cpF, x_bF, x_bD, x_oI, xk_bipush_120, xk_iconst_0, xk_bipush_m6, xk_iconst_1, xk_bipush_80, xk_bipush_48, xk_bipush_57, xk_bipush_10, xk_bipush_64, xk_bipush_46, xk_bipush_97, xk_bipush_122, xk_bipush_119, xk_bipush_61, xk_bipush_59, xk_bipush_8, xk_bipush_33, xk_bipush_126, xk_bipush_m2, xk_bipush_m4, xk_iconst_4, xk_bipush_6, xk_iconst_2, xk_bipush_40, xk_iconst_3, xk_iconst_5, xk_iconst_m1, xk_bipush_m5, xk_bipush_12, xk_bipush_100, xk_bipush_26, xk_sipush_9999, xk_sipush_500, xk_bipush_7, xk_bipush_m126, xk_bipush_127, xk_bipush_23, xk_sipush_m1022, xk_sipush_1023, xk_bipush_52, xk_bipush_m3, xk_sipush_9830, xk_sipush_4800, xk_sipush_983, xk_sipush_480, xk_bipush_13, xk_bipush_18, xk_bipush_9, xk_bipush_32, xg_0_0, xp_0_0, xg_0_1, xp_0_1, xg_0_2, xp_0_2, xg_0_3, xp_0_3, xg_0_4, xp_0_4, xg_0_5, xp_0_5, xg_0_6, xp_0_6, xg_0_7, xp_0_7, xg_0_8, xp_0_8, xg_1_0, xp_1_0, xg_1_1, xp_1_1, xg_1_2, xp_1_2, xg_1_3, xp_1_3, xg_2_0, xp_2_0, xg_2_1, xp_2_1, xg_2_2, xp_2_2, xg_3_0, xp_3_0, xg_3_1, xp_3_1, xg_3_2, xp_3_2, xg_3_3, xp_3_3, xg_3_4, xp_3_4, xg_3_5, xp_3_5, xg_3_6, xp_3_6, xg_3_7, xp_3_7, xg_3_8, xp_3_8, xg_3_9, xp_3_9, xg_3_10, xp_3_10, xg_3_11, xp_3_11, xg_4_0, xp_4_0, xg_4_1, xp_4_1, xg_5_0, xp_5_0, xg_5_1, xp_5_1, xg_6_0, xp_6_0, xg_6_1, xp_6_1, xg_6_2, xp_6_2, xg_6_3, xp_6_3, xg_6_4, xp_6_4, xg_6_5, xp_6_5, xg_7_0, xp_7_0, xg_7_1, xp_7_1, xg_7_2, xp_7_2, xg_7_3, xp_7_3, xg_7_4, xp_7_4, xg_7_5, xp_7_5, xg_7_6, xp_7_6, xg_7_7, xp_7_7, xg_7_8, xp_7_8, xg_7_9, xp_7_9, xg_7_10, xp_7_10, xg_7_11, xp_7_11, xg_7_12, xp_7_12, xg_7_13, xp_7_13, fv0, fv1, fv2, fv3, kI_0, kI_1, stL, wipeL, entLn, entL, List.getElem?_cons_zero, List.getElem?_cons_succ, List.getElem?_nil, List.set_cons_zero, List.set_cons_succ, List.set_nil, List.length_cons, List.length_nil, List.cons_append, List.nil_append, List.replicate, Nat.reduceAdd, Nat.reduceLeDiff, Nat.reduceSub, true_and, and_true, x_callS, x_callSN, x_callI, x_callIN, x_callV0, x_callV1, x_callV2, x_callV3, x_callV4, x_callV5, x_callV6, x_callV7, callP, List.take_succ_cons, List.take_zero, List.take_nil, List.drop_succ_cons, List.drop_zero, List.drop_nil, List.getLast?_singleton, List.getLast?_cons_cons, Option.some.injEq, Value.ref.injEq, exists_eq_left, exists_eq_left', Nat.zero_le, Nat.add_zero, ldcV_f, ldcV_fn, ldcV_l, ldcV_d, Nat.reduceMul, Nat.le_refl, List.reverse_cons, List.reverse_nil, Option.toList, List.map_cons, List.map_nil, List.sum_cons, List.sum_nil, Value.category, tblW_n, tblW_c, Int.cast_ofNat_Int, Int.reduceAdd, Int.reduceToNat, ofI_n, rc_X7_lightAt, rs_X7_lightAt, P_X7_lightAt]
  obtain ⟨m0, m1, m2, m3, m4, m5, m6, m7, m8, m9, m10⟩ := hM
  simp only [m0, m1, m2, m3, m4, m5, m6, m7, m8, m9, m10, sK_stI, sR_stI, sK_stF, sR_stF, sK_stIA, sR_stIA, sK_stFA, sR_stFA, sI_stI, sI_stF, sI_stIA, sI_stFA, sF_stI, sF_stF, sF_stIA, sF_stFA, Nat.left_eq_add, Nat.add_eq_left, Nat.add_left_cancel_iff, Nat.reduceEqDiff, Nat.reduceEqDiff, Nat.succ_ne_self, false_and, and_false, if_false, if_true, nI_succ_sub, Option.some.injEq, Prod.mk.injEq, exists_eq_left', true_and, and_true, retI, retF, retV, retZ1, retZ0, retL, retA, retN, Nat.reduceAdd, Nat.reduceMul, Nat.reduceLT]
  refine ⟨fun q => ?_, fun q => ?_⟩
  · simp (disch := omega) only [nlt0, nge0, neq0, ngt0, nle0, nI_ltI, nI_leI, nI_eq, nI_cl, in_nI, false_implies, true_implies, not_false_eq_true, not_true_eq_false, and_true, true_and, nI_add, pk_mul, implies_true, not_lt0] at q
    rw [show k = 120 by omega]
    exact h
  · simp (disch := omega) only [nlt0, nge0, neq0, ngt0, nle0, nI_ltI, nI_leI, nI_eq, nI_cl, in_nI, false_implies, true_implies, not_false_eq_true, not_true_eq_false, and_true, true_and, nI_add, pk_mul, implies_true, not_lt0] at q
    have hl := lK_lt (q := 0) (by omega) hp (show k < 120 by omega)
    simp (disch := omega) only [nlt0, nge0, neq0, ngt0, nle0, nI_ltI, nI_leI, nI_eq, nI_cl, in_nI, false_implies, true_implies, not_false_eq_true, not_true_eq_false, and_true, true_and, nI_add, pk_mul, implies_true, not_lt0]
    exact ⟨by omega, hp, by omega, hl, fl_su (f := (mG S y 0 p).l) (fun j hj => (hG j hj).1) (k + 1) (by omega), ih (by omega)⟩
set_option maxHeartbeats 1000000 in
theorem ct_X7_allLight (l : Launch) (G : Gx) : Ct l G mi_X7_allLight P_X7_allLight := by
  refine Ct.ofV mo_X7_allLight (fun as S E h => ?_)
  unfold P_X7_allLight at h
  split at h
  case h_2 => exact h.elim
  rename_i y p
  refine ⟨by simp [entL, mL_X7_allLight], ?_⟩
  refine wpN_ok (Γ := Γ_X7_allLight) (hΓ_X7_allLight l G) so_X7_allLight 7 _ _ _ _ _ _ ?_
  simp only [mL_X7_allLight, mT_X7_allLight, rc_X7_allLight, rs_X7_allLight, Γ_X7_allLight, sg_X7_allLight_0, sg_X7_allLight_4, sg_X7_allLight_30, wn_X7_allLight_0, wn_X7_allLight_4, wn_X7_allLight_30, wp_c, ex_c, x_nop, x_goto, x_table, x_iinc, x_ldc, x_ldc2, x_iaload, x_faload, x_baload, x_caload, x_iastore, x_fastore, x_bastore, x_castore, x_aastore, x_alen, x_gets, x_new, x_newa, x_anew, x_invs, x_invi, x_invv, x_ret, x_iret, x_lret, x_fret, x_aret, x_lconst, x_fconst0, x_fconst1, x_fconst2, x_dconst0, x_dconst1, x_null, x_iadd, x_isub, x_imul, x_iand, x_ior, x_idiv, x_irem, x_ineg, x_ishl, x_ishr, x_land, x_lor, x_lushr, x_lshl, x_lcmp, x_i2l, x_l2i, x_i2c, x_i2f, x_f2d, x_d2i, x_d2l, x_fadd, x_fsub, x_fmul, x_fdiv, x_dadd, x_dsub, x_dmul, x_ddiv, x_fcmp, x_dcmp, x_dupI, x_dupR, x_dup2, x_popI, x_popR, ldP_I, ldP_L, ldP_F, ldP_D, ldP_R, ldP_N, x_iload, x_iload_n, x_lload, x_lload_n, x_fload, x_fload_n, x_dload, x_dload_n, x_aload, x_aload_n, x_istore, x_istore_n, x_lstore, x_lstore_n, x_fstore, x_fstore_n, x_dstore, x_dstore_n, x_astore, x_astore_n, x_astoreN, x_astore_nN, x_icmp_eq, x_icmp_ne, x_icmp_lt, x_icmp_ge, x_icmp_gt, x_icmp_le, x_if_eq, x_if_ne, x_if_lt, x_if_ge, x_if_gt, x_if_le, x_ifnull, x_ifnullR, x_ifnn, x_ifnnR, x_aaload2, x_cpI, x_cpF, x_bF, x_bD, x_oI, xk_bipush_120, xk_iconst_0, xk_bipush_m6, xk_iconst_1, xk_bipush_80, xk_bipush_48, xk_bipush_57, xk_bipush_10, xk_bipush_64, xk_bipush_46, xk_bipush_97, xk_bipush_122, xk_bipush_119, xk_bipush_61, xk_bipush_59, xk_bipush_8, xk_bipush_33, xk_bipush_126, xk_bipush_m2, xk_bipush_m4, xk_iconst_4, xk_bipush_6, xk_iconst_2, xk_bipush_40, xk_iconst_3, xk_iconst_5, xk_iconst_m1, xk_bipush_m5, xk_bipush_12, xk_bipush_100, xk_bipush_26, xk_sipush_9999, xk_sipush_500, xk_bipush_7, xk_bipush_m126, xk_bipush_127, xk_bipush_23, xk_sipush_m1022, xk_sipush_1023, xk_bipush_52, xk_bipush_m3, xk_sipush_9830, xk_sipush_4800, xk_sipush_983, xk_sipush_480, xk_bipush_13, xk_bipush_18, xk_bipush_9, xk_bipush_32, xg_0_0, xp_0_0, xg_0_1, xp_0_1, xg_0_2, xp_0_2, xg_0_3, xp_0_3, xg_0_4, xp_0_4, xg_0_5, xp_0_5, xg_0_6, xp_0_6, xg_0_7, xp_0_7, xg_0_8, xp_0_8, xg_1_0, xp_1_0, xg_1_1, xp_1_1, xg_1_2, xp_1_2, xg_1_3, xp_1_3, xg_2_0, xp_2_0, xg_2_1, xp_2_1, xg_2_2, xp_2_2, xg_3_0, xp_3_0, xg_3_1, xp_3_1, xg_3_2, xp_3_2, xg_3_3, xp_3_3, xg_3_4, xp_3_4, xg_3_5, xp_3_5, xg_3_6, xp_3_6, xg_3_7, xp_3_7, xg_3_8, xp_3_8, xg_3_9, xp_3_9, xg_3_10, xp_3_10, xg_3_11, xp_3_11, xg_4_0, xp_4_0, xg_4_1, xp_4_1, xg_5_0, xp_5_0, xg_5_1, xp_5_1, xg_6_0, xp_6_0, xg_6_1, xp_6_1, xg_6_2, xp_6_2, xg_6_3, xp_6_3, xg_6_4, xp_6_4, xg_6_5, xp_6_5, xg_7_0, xp_7_0, xg_7_1, xp_7_1, xg_7_2, xp_7_2, xg_7_3, xp_7_3, xg_7_4, xp_7_4, xg_7_5, xp_7_5, xg_7_6, xp_7_6, xg_7_7, xp_7_7, xg_7_8, xp_7_8, xg_7_9, xp_7_9, xg_7_10, xp_7_10, xg_7_11, xp_7_11, xg_7_12, xp_7_12, xg_7_13, xp_7_13, fv0, fv1, fv2, fv3, kI_0, kI_1, stL, wipeL, entLn, entL, List.getElem?_cons_zero, List.getElem?_cons_succ, List.getElem?_nil, List.set_cons_zero, List.set_cons_succ, List.set_nil, List.length_cons, List.length_nil, List.cons_append, List.nil_append, List.replicate, Nat.reduceAdd, Nat.reduceLeDiff, Nat.reduceSub, true_and, and_true, x_callS, x_callSN, x_callI, x_callIN, x_callV0, x_callV1, x_callV2, x_callV3, x_callV4, x_callV5, x_callV6, x_callV7, callP, List.take_succ_cons, List.take_zero, List.take_nil, List.drop_succ_cons, List.drop_zero, List.drop_nil, List.getLast?_singleton, List.getLast?_cons_cons, Option.some.injEq, Value.ref.injEq, exists_eq_left, exists_eq_left', Nat.zero_le, Nat.add_zero, ldcV_f, ldcV_fn, ldcV_l, ldcV_d, Nat.reduceMul, Nat.le_refl, List.reverse_cons, List.reverse_nil, Option.toList, List.map_cons, List.map_nil, List.sum_cons, List.sum_nil, Value.category, tblW_n, tblW_c, Int.cast_ofNat_Int, Int.reduceAdd, Int.reduceToNat, ofI_n, rc_X7_lightAt, rs_X7_lightAt, P_X7_lightAt]
  obtain ⟨h1, hM, hG, h⟩ := h
  obtain ⟨p, hp4, rfl⟩ := vp_in_of h1 (by decide)
  simp (disch := omega) only [nlt0, nge0, neq0, ngt0, nle0, nI_ltI, nI_leI, nI_eq, nI_cl, in_nI, false_implies, true_implies, not_false_eq_true, not_true_eq_false, and_true, true_and, nI_add, pk_mul, implies_true, not_lt0] at h hG
  exact lp_X7_allLight l G hM hp4 hG h 0 (by omega)
def P_X7_counted (as : List Value) (S : SS) (E : Option Value → SS → Prop) : Prop := match as with
  | [.ref y, .int w, .int x] => ModAt S y ∧ DOK (mV S y 0) ∧ vp_in w 5 ∧ ∃ n q, n ≤ 4 ∧ (mV S y 0).pl = nI n ∧ 1 ≤ q ∧ q ≤ 3 ∧ x = nI q ∧ E (some (.int (nI (ofV (mV S y 0) w.toNatClampNeg q n)))) S
  | _ => False
def Γ_X7_counted : List (MI × PT) := [(mi_X7_hasLetter, P_X7_hasLetter), (mi_X7_inkAt, P_X7_inkAt), (mi_X7_canRead, P_X7_canRead), (mi_X7_promisedTo, P_X7_promisedTo), (mi_X7_flag, P_X7_flag)]
theorem hΓ_X7_counted (l : Launch) (G : Gx) : ∀ q ∈ Γ_X7_counted, Ct l G q.1 q.2 := List.forall_mem_cons.mpr ⟨ct_X7_hasLetter l G, List.forall_mem_cons.mpr ⟨ct_X7_inkAt l G, List.forall_mem_cons.mpr ⟨ct_X7_canRead l G, List.forall_mem_cons.mpr ⟨ct_X7_promisedTo l G, List.forall_mem_cons.mpr ⟨ct_X7_flag l G, fun _ h => absurd h List.not_mem_nil⟩⟩⟩⟩⟩
set_option maxHeartbeats 1000000 in
theorem lp2_X7_counted (l : Launch) (G : Gx) {S : SS} {y w n q p : Nat} {E : Option Value → SS → Prop} (hM : ModAt S y) (hD : DOK (mV S y 0)) (hw : w < 5) (hn : n ≤ 4) (en : (mV S y 0).pl = nI n) (h1 : 1 ≤ q) (h2 : q ≤ 3) (hp : p < n)
    (kk : ∀ x5 x6, V l G mi_X7_counted E 5 [some (.ref y), some (.int (nI w)), some (.int (nI q)), some (.int (nI (ofV (mV S y 0) w q (p + 1)))), some (.int (nI (p + 1))), x5, x6] [] S 0 0) :
    ∀ k, k ≤ 120 → ∀ x6, V l G mi_X7_counted E 19 [some (.ref y), some (.int (nI w)), some (.int (nI q)), some (.int (nI (ofG (mV S y 0) (mG S y 0 p) w q k (ofV (mV S y 0) w q p)))), some (.int (nI p)), some (.int (nI k)), x6] [] S 0 0 := by
  refine loopUp 120 fun k hk ih x6 => ?_
  refine (V.segN (Γ := Γ_X7_counted) (hΓ_X7_counted l G) so_X7_counted 12 (sg := sg_X7_counted_19) so_X7_counted_19 ?_ : V l G mi_X7_counted _ (segPc sg_X7_counted_19) _ _ _ _ _)
  simp only [mL_X7_counted, mT_X7_counted, rc_X7_counted, rs_X7_counted, Γ_X7_counted, sg_X7_counted_0, sg_X7_counted_5, sg_X7_counted_19, sg_X7_counted_62, sg_X7_counted_63, sg_X7_counted_76, sg_X7_counted_102, sg_X7_counted_106, sg_X7_counted_123, sg_X7_counted_124, sg_X7_counted_135, sg_X7_counted_141, wn_X7_counted_0, wn_X7_counted_5, wn_X7_counted_19, wn_X7_counted_62, wn_X7_counted_63, wn_X7_counted_76, wn_X7_counted_102, wn_X7_counted_106, wn_X7_counted_123, wn_X7_counted_124, wn_X7_counted_135, wn_X7_counted_141, wp_c, ex_c, x_nop, x_goto, x_table, x_iinc, x_ldc, x_ldc2, x_iaload, x_faload, x_baload, x_caload, x_iastore, x_fastore, x_bastore, x_castore, x_aastore, x_alen, x_gets, x_new, x_newa, x_anew, x_invs, x_invi, x_invv, x_ret, x_iret, x_lret, x_fret, x_aret, x_lconst, x_fconst0, x_fconst1, x_fconst2, x_dconst0, x_dconst1, x_null, x_iadd, x_isub, x_imul, x_iand, x_ior, x_idiv, x_irem, x_ineg, x_ishl, x_ishr, x_land, x_lor, x_lushr, x_lshl, x_lcmp, x_i2l, x_l2i, x_i2c, x_i2f, x_f2d, x_d2i, x_d2l, x_fadd, x_fsub, x_fmul, x_fdiv, x_dadd, x_dsub, x_dmul, x_ddiv, x_fcmp, x_dcmp, x_dupI, x_dupR, x_dup2, x_popI, x_popR, ldP_I, ldP_L, ldP_F, ldP_D, ldP_R, ldP_N, x_iload, x_iload_n, x_lload, x_lload_n, x_fload, x_fload_n, x_dload, x_dload_n, x_aload, x_aload_n, x_istore, x_istore_n, x_lstore, x_lstore_n, x_fstore, x_fstore_n, x_dstore, x_dstore_n, x_astore, x_astore_n, x_astoreN, x_astore_nN, x_icmp_eq, x_icmp_ne, x_icmp_lt, x_icmp_ge, x_icmp_gt, x_icmp_le, x_if_eq, x_if_ne, x_if_lt, x_if_ge, x_if_gt, x_if_le, x_ifnull, x_ifnullR, x_ifnn, x_ifnnR, x_aaload2, x_cpI, x_cpF, x_bF, x_bD, x_oI, xk_bipush_120, xk_iconst_0, xk_bipush_m6, xk_iconst_1, xk_bipush_80, xk_bipush_48, xk_bipush_57, xk_bipush_10, xk_bipush_64, xk_bipush_46, xk_bipush_97, xk_bipush_122, xk_bipush_119, xk_bipush_61, xk_bipush_59, xk_bipush_8, xk_bipush_33, xk_bipush_126, xk_bipush_m2, xk_bipush_m4, xk_iconst_4, xk_bipush_6, xk_iconst_2, xk_bipush_40, xk_iconst_3, xk_iconst_5, xk_iconst_m1, xk_bipush_m5, xk_bipush_12, xk_bipush_100, xk_bipush_26, xk_sipush_9999, xk_sipush_500, xk_bipush_7, xk_bipush_m126, xk_bipush_127, xk_bipush_23, xk_sipush_m1022, xk_sipush_1023, xk_bipush_52, xk_bipush_m3, xk_sipush_9830, xk_sipush_4800, xk_sipush_983, xk_sipush_480, xk_bipush_13, xk_bipush_18, xk_bipush_9, xk_bipush_32, xg_0_0, xp_0_0, xg_0_1, xp_0_1, xg_0_2, xp_0_2, xg_0_3, xp_0_3, xg_0_4, xp_0_4, xg_0_5, xp_0_5, xg_0_6, xp_0_6, xg_0_7, xp_0_7, xg_0_8, xp_0_8, xg_1_0, xp_1_0, xg_1_1, xp_1_1, xg_1_2, xp_1_2, xg_1_3, xp_1_3, xg_2_0, xp_2_0, xg_2_1, xp_2_1, xg_2_2, xp_2_2, xg_3_0, xp_3_0, xg_3_1, xp_3_1, xg_3_2, xp_3_2, xg_3_3, xp_3_3, xg_3_4, xp_3_4, xg_3_5, xp_3_5, xg_3_6, xp_3_6, xg_3_7, xp_3_7, xg_3_8, xp_3_8, xg_3_9, xp_3_9, xg_3_10, xp_3_10, xg_3_11, xp_3_11, xg_4_0, xp_4_0, xg_4_1, xp_4_1, xg_5_0, xp_5_0, xg_5_1, xp_5_1, xg_6_0, xp_6_0, xg_6_1, xp_6_1, xg_6_2, xp_6_2, xg_6_3, xp_6_3, xg_6_4, xp_6_4, xg_6_5, xp_6_5, xg_7_0, xp_7_0, xg_7_1, xp_7_1, xg_7_2, xp_7_2, xg_7_3, xp_7_3, xg_7_4, xp_7_4, xg_7_5, xp_7_5, xg_7_6, xp_7_6, xg_7_7, xp_7_7, xg_7_8, xp_7_8, xg_7_9, xp_7_9, xg_7_10, xp_7_10, xg_7_11, xp_7_11, xg_7_12, xp_7_12, xg_7_13, xp_7_13, fv0, fv1, fv2, fv3, kI_0, kI_1, stL, wipeL, entLn, entL, List.getElem?_cons_zero, List.getElem?_cons_succ, List.getElem?_nil, List.set_cons_zero, List.set_cons_succ, List.set_nil, List.length_cons, List.length_nil, List.cons_append, List.nil_append, List.replicate, Nat.reduceAdd, Nat.reduceLeDiff, Nat.reduceSub, true_and, and_true, x_callS, x_callSN, x_callI, x_callIN, x_callV0, x_callV1, x_callV2, x_callV3, x_callV4, x_callV5, x_callV6, x_callV7, callP, List.take_succ_cons, List.take_zero, List.take_nil, List.drop_succ_cons, List.drop_zero, List.drop_nil, List.getLast?_singleton, List.getLast?_cons_cons, Option.some.injEq, Value.ref.injEq, exists_eq_left, exists_eq_left', Nat.zero_le, Nat.add_zero, ldcV_f, ldcV_fn, ldcV_l, ldcV_d, Nat.reduceMul, Nat.le_refl, List.reverse_cons, List.reverse_nil, Option.toList, List.map_cons, List.map_nil, List.sum_cons, List.sum_nil, Value.category, tblW_n, tblW_c, Int.cast_ofNat_Int, Int.reduceAdd, Int.reduceToNat, ofI_n, rc_X7_hasLetter, rs_X7_hasLetter, P_X7_hasLetter, rc_X7_inkAt, rs_X7_inkAt, P_X7_inkAt, rc_X7_canRead, rs_X7_canRead, P_X7_canRead, rc_X7_promisedTo, rs_X7_promisedTo, P_X7_promisedTo, rc_X7_flag, rs_X7_flag, P_X7_flag]
  have hp' : PreM S y 0 p := ⟨hM, by omega, by omega, hD.1, hD.2.2.2.2 p (by rw [en]; exact nI_lt hp (by omega)) (by omega)⟩
  have hM0 := hM
  obtain ⟨m0, m1, m2, m3, m4, m5, m6, m7, m8, m9, m10⟩ := hM
  have hc := ofG_le (mV S y 0) (mG S y 0 p) w q (ofV (mV S y 0) w q p) k
  have hc2 := ofV_le (mV S y 0) w q p
  simp only [m0, m1, m2, m3, m4, m5, m6, m7, m8, m9, m10, hM0, bI_0, sK_stI, sR_stI, sK_stF, sR_stF, sK_stIA, sR_stIA, sK_stFA, sR_stFA, sI_stI, sI_stF, sI_stIA, sI_stFA, sF_stI, sF_stF, sF_stIA, sF_stFA, Nat.left_eq_add, Nat.add_eq_left, Nat.add_left_cancel_iff, Nat.reduceEqDiff, Nat.reduceEqDiff, Nat.succ_ne_self, false_and, and_false, if_false, if_true, nI_succ_sub, Option.some.injEq, Prod.mk.injEq, exists_eq_left', true_and, and_true, retI, retF, retV, retZ1, retZ0, retL, retA, retN, Nat.reduceAdd, Nat.reduceMul, Nat.reduceLT]
  refine ⟨fun c => ?_, fun c => ?_⟩
  · simp (disch := omega) only [nlt0, nge0, neq0, ngt0, nle0, nI_ltI, nI_leI, nI_eq, nI_cl, in_nI, false_implies, true_implies, not_false_eq_true, not_true_eq_false, and_true, true_and, nI_add, pk_mul, implies_true, not_lt0] at c
    have e : k = 120 := by omega
    subst e
    have := kk (some (.int (nI 120))) x6
    rw [ofV_s] at this
    rw [nI_add]
    exact this
  · simp (disch := omega) only [nlt0, nge0, neq0, ngt0, nle0, nI_ltI, nI_leI, nI_eq, nI_cl, in_nI, false_implies, true_implies, not_false_eq_true, not_true_eq_false, and_true, true_and, nI_add, pk_mul, implies_true, not_lt0] at c
    have hi := iK_lt (q := 0) (by omega) (show p < 4 by omega) (show k < 120 by omega)
    have c26 : ¬ nI 26 = 0 := by decide
    simp (disch := omega) only [nlt0, nge0, neq0, ngt0, nle0, nI_ltI, nI_leI, nI_eq, nI_cl, in_nI, false_implies, true_implies, not_false_eq_true, not_true_eq_false, and_true, true_and, nI_add, pk_mul, implies_true, not_lt0, hp', c26]
    have ih := ih (by omega)
    rw [ofG_s] at ih
    refine ⟨by omega, by omega, by omega, ?_⟩
    have whoW : ¬ q = 3 → whoV (mG S y 0 p) k q = (mG S y 0 p).w k := fun a => if_neg a
    have whoP : q = 3 → whoV (mG S y 0 p) k q = (mG S y 0 p).p k := fun a => if_pos a
    have i0 : isV (mV S y 0) (mG S y 0 p) k 0 = !decide ((mG S y 0 p).t k = mI 6) := rfl
    have i1 : isV (mV S y 0) (mG S y 0 p) k 1 = rdV (mV S y 0) (mG S y 0 p) k := rfl
    have i2 : isV (mV S y 0) (mG S y 0 p) k 2 = !decide ((mG S y 0 p).p k = mI 6) := rfl
    rcases ink_of (S := S) (y := y) (q := 0) (p := p) hp'.2.2.2.2 (show k < 120 by omega) with ei | ⟨a, b, ha, hb, ei, et, ew⟩
    · have et : (mG S y 0 p).t k = mI 6 := (mtI_6 _).mpr ei
      have rd : rdV (mV S y 0) (mG S y 0 p) k = false := by unfold rdV; simp [et]
      simp only [et, not_true_eq_false, not_false_eq_true, true_implies, false_implies, and_true, true_and]
      rcases (show q = 1 ∨ q = 2 ∨ q = 3 by omega) with rfl | rfl | rfl
      · rw [i0, et] at ih
        simp at ih
        simp
        exact ih _
      · rw [i1, rd] at ih
        simp at ih
        simp
        exact ih _
      · rw [whoP rfl, i2] at ih
        by_cases c3 : (mG S y 0 p).p k = nI w
        · have n6 : ¬ (mG S y 0 p).p k = mI 6 := by rw [c3]; exact nI_ne_mI (by omega) (by omega) (by omega)
          rw [if_pos ⟨c3, by simp [n6]⟩] at ih
          simp [c3, show p < 4 by omega, show k < 120 by omega]
          exact ih _
        · rw [if_neg (fun a => c3 a.1)] at ih
          simp [c3, show p < 4 by omega, show k < 120 by omega]
          exact ih _
    · have n6 : ¬ (mG S y 0 p).t k = mI 6 := by rw [et]; exact nI_ne_mI (by omega) (by omega) (by omega)
      have e26 : nI (26 * b + a) / nI 26 = nI ((26 * b + a) / 26) := pk_div (by omega) (by omega) (by omega)
      rw [ei, e26, show (26 * b + a) / 26 = b by omega]
      simp only [n6, not_true_eq_false, not_false_eq_true, true_implies, false_implies, and_true, true_and]
      rcases (show q = 1 ∨ q = 2 ∨ q = 3 by omega) with rfl | rfl | rfl
      · rw [whoW (by omega), ew, i0] at ih
        by_cases c3 : nI b = nI w
        · rw [if_pos ⟨c3, by simp [n6]⟩] at ih
          simp [c3, show p < 4 by omega, show k < 120 by omega, hi, show iK 0 p k < 9830 by omega]
          exact ih _
        · rw [if_neg (fun a => c3 a.1)] at ih
          simp [c3, show p < 4 by omega, show k < 120 by omega, hi, show iK 0 p k < 9830 by omega]
          exact ih _
      · rw [whoW (by omega), ew, i1] at ih
        by_cases c3 : nI b = nI w
        · by_cases c4 : rdV (mV S y 0) (mG S y 0 p) k = true
          · rw [if_pos ⟨c3, c4⟩] at ih
            simp [c3, c4, show p < 4 by omega, show k < 120 by omega, hi, show iK 0 p k < 9830 by omega]
            exact ih _
          · rw [if_neg (fun a => c4 a.2)] at ih
            simp [c3, c4, show p < 4 by omega, show k < 120 by omega, hi, show iK 0 p k < 9830 by omega]
            exact ih _
        · rw [if_neg (fun a => c3 a.1)] at ih
          simp [c3, show p < 4 by omega, show k < 120 by omega, hi, show iK 0 p k < 9830 by omega]
          exact ih _
      · rw [whoP rfl, i2] at ih
        by_cases c3 : (mG S y 0 p).p k = nI w
        · have m6 : ¬ (mG S y 0 p).p k = mI 6 := by rw [c3]; exact nI_ne_mI (by omega) (by omega) (by omega)
          rw [if_pos ⟨c3, by simp [m6]⟩] at ih
          simp [c3, show p < 4 by omega, show k < 120 by omega, hi, show iK 0 p k < 9830 by omega]
          exact ⟨fun _ => ih _, fun _ => ih _⟩
        · rw [if_neg (fun a => c3 a.1)] at ih
          simp [c3, show p < 4 by omega, show k < 120 by omega, hi, show iK 0 p k < 9830 by omega]
          exact ⟨fun _ => ih _, fun _ => ih _⟩
set_option maxHeartbeats 1000000 in
theorem lp_X7_counted (l : Launch) (G : Gx) {S : SS} {y w n q : Nat} {E : Option Value → SS → Prop} (hM : ModAt S y) (hD : DOK (mV S y 0)) (hw : w < 5) (hn : n ≤ 4) (en : (mV S y 0).pl = nI n) (h1 : 1 ≤ q) (h2 : q ≤ 3) (h : E (some (.int (nI (ofV (mV S y 0) w q n)))) S) :
    ∀ p, p ≤ n → ∀ x5 x6, V l G mi_X7_counted E 5 [some (.ref y), some (.int (nI w)), some (.int (nI q)), some (.int (nI (ofV (mV S y 0) w q p))), some (.int (nI p)), x5, x6] [] S 0 0 := by
  refine loopUp n fun p hp ih x5 x6 => ?_
  refine (V.segN (Γ := Γ_X7_counted) (hΓ_X7_counted l G) so_X7_counted 12 (sg := sg_X7_counted_5) so_X7_counted_5 ?_ : V l G mi_X7_counted _ (segPc sg_X7_counted_5) _ _ _ _ _)
  simp only [mL_X7_counted, mT_X7_counted, rc_X7_counted, rs_X7_counted, Γ_X7_counted, sg_X7_counted_0, sg_X7_counted_5, sg_X7_counted_19, sg_X7_counted_62, sg_X7_counted_63, sg_X7_counted_76, sg_X7_counted_102, sg_X7_counted_106, sg_X7_counted_123, sg_X7_counted_124, sg_X7_counted_135, sg_X7_counted_141, wn_X7_counted_0, wn_X7_counted_5, wn_X7_counted_19, wn_X7_counted_62, wn_X7_counted_63, wn_X7_counted_76, wn_X7_counted_102, wn_X7_counted_106, wn_X7_counted_123, wn_X7_counted_124, wn_X7_counted_135, wn_X7_counted_141, wp_c, ex_c, x_nop, x_goto, x_table, x_iinc, x_ldc, x_ldc2, x_iaload, x_faload, x_baload, x_caload, x_iastore, x_fastore, x_bastore, x_castore, x_aastore, x_alen, x_gets, x_new, x_newa, x_anew, x_invs, x_invi, x_invv, x_ret, x_iret, x_lret, x_fret, x_aret, x_lconst, x_fconst0, x_fconst1, x_fconst2, x_dconst0, x_dconst1, x_null, x_iadd, x_isub, x_imul, x_iand, x_ior, x_idiv, x_irem, x_ineg, x_ishl, x_ishr, x_land, x_lor, x_lushr, x_lshl, x_lcmp, x_i2l, x_l2i, x_i2c, x_i2f, x_f2d, x_d2i, x_d2l, x_fadd, x_fsub, x_fmul, x_fdiv, x_dadd, x_dsub, x_dmul, x_ddiv, x_fcmp, x_dcmp, x_dupI, x_dupR, x_dup2, x_popI, x_popR, ldP_I, ldP_L, ldP_F, ldP_D, ldP_R, ldP_N, x_iload, x_iload_n, x_lload, x_lload_n, x_fload, x_fload_n, x_dload, x_dload_n, x_aload, x_aload_n, x_istore, x_istore_n, x_lstore, x_lstore_n, x_fstore, x_fstore_n, x_dstore, x_dstore_n, x_astore, x_astore_n, x_astoreN, x_astore_nN, x_icmp_eq, x_icmp_ne, x_icmp_lt, x_icmp_ge, x_icmp_gt, x_icmp_le, x_if_eq, x_if_ne, x_if_lt, x_if_ge, x_if_gt, x_if_le, x_ifnull, x_ifnullR, x_ifnn, x_ifnnR, x_aaload2, x_cpI, x_cpF, x_bF, x_bD, x_oI, xk_bipush_120, xk_iconst_0, xk_bipush_m6, xk_iconst_1, xk_bipush_80, xk_bipush_48, xk_bipush_57, xk_bipush_10, xk_bipush_64, xk_bipush_46, xk_bipush_97, xk_bipush_122, xk_bipush_119, xk_bipush_61, xk_bipush_59, xk_bipush_8, xk_bipush_33, xk_bipush_126, xk_bipush_m2, xk_bipush_m4, xk_iconst_4, xk_bipush_6, xk_iconst_2, xk_bipush_40, xk_iconst_3, xk_iconst_5, xk_iconst_m1, xk_bipush_m5, xk_bipush_12, xk_bipush_100, xk_bipush_26, xk_sipush_9999, xk_sipush_500, xk_bipush_7, xk_bipush_m126, xk_bipush_127, xk_bipush_23, xk_sipush_m1022, xk_sipush_1023, xk_bipush_52, xk_bipush_m3, xk_sipush_9830, xk_sipush_4800, xk_sipush_983, xk_sipush_480, xk_bipush_13, xk_bipush_18, xk_bipush_9, xk_bipush_32, xg_0_0, xp_0_0, xg_0_1, xp_0_1, xg_0_2, xp_0_2, xg_0_3, xp_0_3, xg_0_4, xp_0_4, xg_0_5, xp_0_5, xg_0_6, xp_0_6, xg_0_7, xp_0_7, xg_0_8, xp_0_8, xg_1_0, xp_1_0, xg_1_1, xp_1_1, xg_1_2, xp_1_2, xg_1_3, xp_1_3, xg_2_0, xp_2_0, xg_2_1, xp_2_1, xg_2_2, xp_2_2, xg_3_0, xp_3_0, xg_3_1, xp_3_1, xg_3_2, xp_3_2, xg_3_3, xp_3_3, xg_3_4, xp_3_4, xg_3_5, xp_3_5, xg_3_6, xp_3_6, xg_3_7, xp_3_7, xg_3_8, xp_3_8, xg_3_9, xp_3_9, xg_3_10, xp_3_10, xg_3_11, xp_3_11, xg_4_0, xp_4_0, xg_4_1, xp_4_1, xg_5_0, xp_5_0, xg_5_1, xp_5_1, xg_6_0, xp_6_0, xg_6_1, xp_6_1, xg_6_2, xp_6_2, xg_6_3, xp_6_3, xg_6_4, xp_6_4, xg_6_5, xp_6_5, xg_7_0, xp_7_0, xg_7_1, xp_7_1, xg_7_2, xp_7_2, xg_7_3, xp_7_3, xg_7_4, xp_7_4, xg_7_5, xp_7_5, xg_7_6, xp_7_6, xg_7_7, xp_7_7, xg_7_8, xp_7_8, xg_7_9, xp_7_9, xg_7_10, xp_7_10, xg_7_11, xp_7_11, xg_7_12, xp_7_12, xg_7_13, xp_7_13, fv0, fv1, fv2, fv3, kI_0, kI_1, stL, wipeL, entLn, entL, List.getElem?_cons_zero, List.getElem?_cons_succ, List.getElem?_nil, List.set_cons_zero, List.set_cons_succ, List.set_nil, List.length_cons, List.length_nil, List.cons_append, List.nil_append, List.replicate, Nat.reduceAdd, Nat.reduceLeDiff, Nat.reduceSub, true_and, and_true, x_callS, x_callSN, x_callI, x_callIN, x_callV0, x_callV1, x_callV2, x_callV3, x_callV4, x_callV5, x_callV6, x_callV7, callP, List.take_succ_cons, List.take_zero, List.take_nil, List.drop_succ_cons, List.drop_zero, List.drop_nil, List.getLast?_singleton, List.getLast?_cons_cons, Option.some.injEq, Value.ref.injEq, exists_eq_left, exists_eq_left', Nat.zero_le, Nat.add_zero, ldcV_f, ldcV_fn, ldcV_l, ldcV_d, Nat.reduceMul, Nat.le_refl, List.reverse_cons, List.reverse_nil, Option.toList, List.map_cons, List.map_nil, List.sum_cons, List.sum_nil, Value.category, tblW_n, tblW_c, Int.cast_ofNat_Int, Int.reduceAdd, Int.reduceToNat, ofI_n, rc_X7_hasLetter, rs_X7_hasLetter, P_X7_hasLetter, rc_X7_inkAt, rs_X7_inkAt, P_X7_inkAt, rc_X7_canRead, rs_X7_canRead, P_X7_canRead, rc_X7_promisedTo, rs_X7_promisedTo, P_X7_promisedTo, rc_X7_flag, rs_X7_flag, P_X7_flag]
  have en' : sI S (y + 1) 5 = nI n := en
  have hM0 := hM
  obtain ⟨m0, m1, m2, m3, m4, m5, m6, m7, m8, m9, m10⟩ := hM
  simp only [m0, m1, m2, m3, m4, m5, m6, m7, m8, m9, m10, sK_stI, sR_stI, sK_stF, sR_stF, sK_stIA, sR_stIA, sK_stFA, sR_stFA, sI_stI, sI_stF, sI_stIA, sI_stFA, sF_stI, sF_stF, sF_stIA, sF_stFA, Nat.left_eq_add, Nat.add_eq_left, Nat.add_left_cancel_iff, Nat.reduceEqDiff, Nat.reduceEqDiff, Nat.succ_ne_self, false_and, and_false, if_false, if_true, nI_succ_sub, Option.some.injEq, Prod.mk.injEq, exists_eq_left', true_and, and_true, retI, retF, retV, retZ1, retZ0, retL, retA, retN, Nat.reduceAdd, Nat.reduceMul, Nat.reduceLT]
  simp (disch := omega) only [nlt0, nge0, neq0, ngt0, nle0, nI_ltI, nI_leI, nI_eq, nI_cl, in_nI, false_implies, true_implies, not_false_eq_true, not_true_eq_false, and_true, true_and, nI_add, pk_mul, implies_true, not_lt0, en']
  refine ⟨by omega, fun c => ?_, fun c => ?_⟩
  · have e : p = n := by omega
    subst e
    exact h
  · exact lp2_X7_counted l G hM0 hD hw hn en h1 h2 (by omega) (fun x5 x6 => ih (by omega) x5 x6) 0 (by omega) x6
set_option maxHeartbeats 1000000 in
theorem ct_X7_counted (l : Launch) (G : Gx) : Ct l G mi_X7_counted P_X7_counted := by
  refine Ct.ofV mo_X7_counted (fun as S E h => ?_)
  unfold P_X7_counted at h
  split at h
  case h_2 => exact h.elim
  rename_i y w x
  refine ⟨by simp [entL, mL_X7_counted], ?_⟩
  refine wpN_ok (Γ := Γ_X7_counted) (hΓ_X7_counted l G) so_X7_counted 12 _ _ _ _ _ _ ?_
  simp only [mL_X7_counted, mT_X7_counted, rc_X7_counted, rs_X7_counted, Γ_X7_counted, sg_X7_counted_0, sg_X7_counted_5, sg_X7_counted_19, sg_X7_counted_62, sg_X7_counted_63, sg_X7_counted_76, sg_X7_counted_102, sg_X7_counted_106, sg_X7_counted_123, sg_X7_counted_124, sg_X7_counted_135, sg_X7_counted_141, wn_X7_counted_0, wn_X7_counted_5, wn_X7_counted_19, wn_X7_counted_62, wn_X7_counted_63, wn_X7_counted_76, wn_X7_counted_102, wn_X7_counted_106, wn_X7_counted_123, wn_X7_counted_124, wn_X7_counted_135, wn_X7_counted_141, wp_c, ex_c, x_nop, x_goto, x_table, x_iinc, x_ldc, x_ldc2, x_iaload, x_faload, x_baload, x_caload, x_iastore, x_fastore, x_bastore, x_castore, x_aastore, x_alen, x_gets, x_new, x_newa, x_anew, x_invs, x_invi, x_invv, x_ret, x_iret, x_lret, x_fret, x_aret, x_lconst, x_fconst0, x_fconst1, x_fconst2, x_dconst0, x_dconst1, x_null, x_iadd, x_isub, x_imul, x_iand, x_ior, x_idiv, x_irem, x_ineg, x_ishl, x_ishr, x_land, x_lor, x_lushr, x_lshl, x_lcmp, x_i2l, x_l2i, x_i2c, x_i2f, x_f2d, x_d2i, x_d2l, x_fadd, x_fsub, x_fmul, x_fdiv, x_dadd, x_dsub, x_dmul, x_ddiv, x_fcmp, x_dcmp, x_dupI, x_dupR, x_dup2, x_popI, x_popR, ldP_I, ldP_L, ldP_F, ldP_D, ldP_R, ldP_N, x_iload, x_iload_n, x_lload, x_lload_n, x_fload, x_fload_n, x_dload, x_dload_n, x_aload, x_aload_n, x_istore, x_istore_n, x_lstore, x_lstore_n, x_fstore, x_fstore_n, x_dstore, x_dstore_n, x_astore, x_astore_n, x_astoreN, x_astore_nN, x_icmp_eq, x_icmp_ne, x_icmp_lt, x_icmp_ge, x_icmp_gt, x_icmp_le, x_if_eq, x_if_ne, x_if_lt, x_if_ge, x_if_gt, x_if_le, x_ifnull, x_ifnullR, x_ifnn, x_ifnnR, x_aaload2, x_cpI, x_cpF, x_bF, x_bD, x_oI, xk_bipush_120, xk_iconst_0, xk_bipush_m6, xk_iconst_1, xk_bipush_80, xk_bipush_48, xk_bipush_57, xk_bipush_10, xk_bipush_64, xk_bipush_46, xk_bipush_97, xk_bipush_122, xk_bipush_119, xk_bipush_61, xk_bipush_59, xk_bipush_8, xk_bipush_33, xk_bipush_126, xk_bipush_m2, xk_bipush_m4, xk_iconst_4, xk_bipush_6, xk_iconst_2, xk_bipush_40, xk_iconst_3, xk_iconst_5, xk_iconst_m1, xk_bipush_m5, xk_bipush_12, xk_bipush_100, xk_bipush_26, xk_sipush_9999, xk_sipush_500, xk_bipush_7, xk_bipush_m126, xk_bipush_127, xk_bipush_23, xk_sipush_m1022, xk_sipush_1023, xk_bipush_52, xk_bipush_m3, xk_sipush_9830, xk_sipush_4800, xk_sipush_983, xk_sipush_480, xk_bipush_13, xk_bipush_18, xk_bipush_9, xk_bipush_32, xg_0_0, xp_0_0, xg_0_1, xp_0_1, xg_0_2, xp_0_2, xg_0_3, xp_0_3, xg_0_4, xp_0_4, xg_0_5, xp_0_5, xg_0_6, xp_0_6, xg_0_7, xp_0_7, xg_0_8, xp_0_8, xg_1_0, xp_1_0, xg_1_1, xp_1_1, xg_1_2, xp_1_2, xg_1_3, xp_1_3, xg_2_0, xp_2_0, xg_2_1, xp_2_1, xg_2_2, xp_2_2, xg_3_0, xp_3_0, xg_3_1, xp_3_1, xg_3_2, xp_3_2, xg_3_3, xp_3_3, xg_3_4, xp_3_4, xg_3_5, xp_3_5, xg_3_6, xp_3_6, xg_3_7, xp_3_7, xg_3_8, xp_3_8, xg_3_9, xp_3_9, xg_3_10, xp_3_10, xg_3_11, xp_3_11, xg_4_0, xp_4_0, xg_4_1, xp_4_1, xg_5_0, xp_5_0, xg_5_1, xp_5_1, xg_6_0, xp_6_0, xg_6_1, xp_6_1, xg_6_2, xp_6_2, xg_6_3, xp_6_3, xg_6_4, xp_6_4, xg_6_5, xp_6_5, xg_7_0, xp_7_0, xg_7_1, xp_7_1, xg_7_2, xp_7_2, xg_7_3, xp_7_3, xg_7_4, xp_7_4, xg_7_5, xp_7_5, xg_7_6, xp_7_6, xg_7_7, xp_7_7, xg_7_8, xp_7_8, xg_7_9, xp_7_9, xg_7_10, xp_7_10, xg_7_11, xp_7_11, xg_7_12, xp_7_12, xg_7_13, xp_7_13, fv0, fv1, fv2, fv3, kI_0, kI_1, stL, wipeL, entLn, entL, List.getElem?_cons_zero, List.getElem?_cons_succ, List.getElem?_nil, List.set_cons_zero, List.set_cons_succ, List.set_nil, List.length_cons, List.length_nil, List.cons_append, List.nil_append, List.replicate, Nat.reduceAdd, Nat.reduceLeDiff, Nat.reduceSub, true_and, and_true, x_callS, x_callSN, x_callI, x_callIN, x_callV0, x_callV1, x_callV2, x_callV3, x_callV4, x_callV5, x_callV6, x_callV7, callP, List.take_succ_cons, List.take_zero, List.take_nil, List.drop_succ_cons, List.drop_zero, List.drop_nil, List.getLast?_singleton, List.getLast?_cons_cons, Option.some.injEq, Value.ref.injEq, exists_eq_left, exists_eq_left', Nat.zero_le, Nat.add_zero, ldcV_f, ldcV_fn, ldcV_l, ldcV_d, Nat.reduceMul, Nat.le_refl, List.reverse_cons, List.reverse_nil, Option.toList, List.map_cons, List.map_nil, List.sum_cons, List.sum_nil, Value.category, tblW_n, tblW_c, Int.cast_ofNat_Int, Int.reduceAdd, Int.reduceToNat, ofI_n, rc_X7_hasLetter, rs_X7_hasLetter, P_X7_hasLetter, rc_X7_inkAt, rs_X7_inkAt, P_X7_inkAt, rc_X7_canRead, rs_X7_canRead, P_X7_canRead, rc_X7_promisedTo, rs_X7_promisedTo, P_X7_promisedTo, rc_X7_flag, rs_X7_flag, P_X7_flag]
  obtain ⟨hM, hD, hw0, n, q, hn, en, h1, h2, rfl, h⟩ := h
  obtain ⟨w, hw, rfl⟩ := vp_in_of hw0 (by decide)
  rw [nI_cl (by omega)] at h
  exact lp_X7_counted l G hM hD hw hn en h1 h2 h 0 (by omega) none none

theorem bI_n0 {c : Prop} [Decidable c] : (bI c = nI 0) = ¬ c := by rw [nI_0]; exact bI_0
theorem ne_out {w : Int32} {n k : Nat} (h : w.toInt < 0 ∨ (n : Int) < w.toInt) (hk : k ≤ n) (hn : n < 2 ^ 31) : ¬ w = nI k := by
  intro e
  rw [e, nI_toInt (by omega)] at h
  omega
def P_X7_at (as : List Value) (S : SS) (E : Option Value → SS → Prop) : Prop := match as with
  | [.ref y, .int r, .int c, .int w] => ModAt S y ∧ DOK (mV S y 0) ∧ ((mV S y 0).dk = mI 6 ∨ ¬ Pl r c → E (some (.int (mI 1))) S) ∧ (∀ p a b, OnD (mV S y 0) p → a < 10 → b < 12 → r = nI a → c = nI b → E (some (.int (atV (mV S y 0) p (a * 12 + b) w))) S)
  | _ => False
def Γ_X7_at : List (MI × PT) := [(mi_X7_isThere, P_X7_isThere), (mi_X7_spotOf, P_X7_spotOf), (mi_X7_inkAt, P_X7_inkAt), (mi_X7_promisedTo, P_X7_promisedTo), (mi_X7_lightAt, P_X7_lightAt), (mi_Jxf58ca_floatToIntBits_5c35a, P_Jxf58ca_floatToIntBits_5c35a), (mi_X7_ahead, P_X7_ahead), (mi_X7_hasRoom, P_X7_hasRoom), (mi_X7_flag, P_X7_flag), (mi_X7_canRead, P_X7_canRead)]
theorem hΓ_X7_at (l : Launch) (G : Gx) : ∀ q ∈ Γ_X7_at, Ct l G q.1 q.2 := List.forall_mem_cons.mpr ⟨ct_X7_isThere l G, List.forall_mem_cons.mpr ⟨ct_X7_spotOf l G, List.forall_mem_cons.mpr ⟨ct_X7_inkAt l G, List.forall_mem_cons.mpr ⟨ct_X7_promisedTo l G, List.forall_mem_cons.mpr ⟨ct_X7_lightAt l G, List.forall_mem_cons.mpr ⟨ct_Jxf58ca_floatToIntBits_5c35a l G, List.forall_mem_cons.mpr ⟨ct_X7_ahead l G, List.forall_mem_cons.mpr ⟨ct_X7_hasRoom l G, List.forall_mem_cons.mpr ⟨ct_X7_flag l G, List.forall_mem_cons.mpr ⟨ct_X7_canRead l G, fun _ h => absurd h List.not_mem_nil⟩⟩⟩⟩⟩⟩⟩⟩⟩⟩
theorem okL_bf {x : UInt32} (h : okL x) : bfOK x := Nat.le_trans h (by decide)
set_option maxHeartbeats 2000000 in
theorem ct_X7_at (l : Launch) (G : Gx) : Ct l G mi_X7_at P_X7_at := by
  refine Ct.ofV mo_X7_at (fun as S E h => ?_)
  unfold P_X7_at at h
  split at h
  case h_2 => exact h.elim
  rename_i y r c w
  refine ⟨by simp [entL, mL_X7_at], ?_⟩
  refine wpN_ok (Γ := Γ_X7_at) (hΓ_X7_at l G) so_X7_at 12 _ _ _ _ _ _ ?_
  simp only [mL_X7_at, mT_X7_at, rc_X7_at, rs_X7_at, Γ_X7_at, sg_X7_at_0, sg_X7_at_11, sg_X7_at_84, sg_X7_at_96, sg_X7_at_101, sg_X7_at_102, sg_X7_at_114, sg_X7_at_119, sg_X7_at_120, sg_X7_at_130, sg_X7_at_147, sg_X7_at_160, sg_X7_at_173, sg_X7_at_186, wn_X7_at_0, wn_X7_at_11, wn_X7_at_84, wn_X7_at_96, wn_X7_at_101, wn_X7_at_102, wn_X7_at_114, wn_X7_at_119, wn_X7_at_120, wn_X7_at_130, wn_X7_at_147, wn_X7_at_160, wn_X7_at_173, wn_X7_at_186, wp_c, ex_c, x_nop, x_goto, x_table, x_iinc, x_ldc, x_ldc2, x_iaload, x_faload, x_baload, x_caload, x_iastore, x_fastore, x_bastore, x_castore, x_aastore, x_alen, x_gets, x_new, x_newa, x_anew, x_invs, x_invi, x_invv, x_ret, x_iret, x_lret, x_fret, x_aret, x_lconst, x_fconst0, x_fconst1, x_fconst2, x_dconst0, x_dconst1, x_null, x_iadd, x_isub, x_imul, x_iand, x_ior, x_idiv, x_irem, x_ineg, x_ishl, x_ishr, x_land, x_lor, x_lushr, x_lshl, x_lcmp, x_i2l, x_l2i, x_i2c, x_i2f, x_f2d, x_d2i, x_d2l, x_fadd, x_fsub, x_fmul, x_fdiv, x_dadd, x_dsub, x_dmul, x_ddiv, x_fcmp, x_dcmp, x_dupI, x_dupR, x_dup2, x_popI, x_popR, ldP_I, ldP_L, ldP_F, ldP_D, ldP_R, ldP_N, x_iload, x_iload_n, x_lload, x_lload_n, x_fload, x_fload_n, x_dload, x_dload_n, x_aload, x_aload_n, x_istore, x_istore_n, x_lstore, x_lstore_n, x_fstore, x_fstore_n, x_dstore, x_dstore_n, x_astore, x_astore_n, x_astoreN, x_astore_nN, x_icmp_eq, x_icmp_ne, x_icmp_lt, x_icmp_ge, x_icmp_gt, x_icmp_le, x_if_eq, x_if_ne, x_if_lt, x_if_ge, x_if_gt, x_if_le, x_ifnull, x_ifnullR, x_ifnn, x_ifnnR, x_aaload2, x_cpI, x_cpF, x_bF, x_bD, x_oI, xk_bipush_120, xk_iconst_0, xk_bipush_m6, xk_iconst_1, xk_bipush_80, xk_bipush_48, xk_bipush_57, xk_bipush_10, xk_bipush_64, xk_bipush_46, xk_bipush_97, xk_bipush_122, xk_bipush_119, xk_bipush_61, xk_bipush_59, xk_bipush_8, xk_bipush_33, xk_bipush_126, xk_bipush_m2, xk_bipush_m4, xk_iconst_4, xk_bipush_6, xk_iconst_2, xk_bipush_40, xk_iconst_3, xk_iconst_5, xk_iconst_m1, xk_bipush_m5, xk_bipush_12, xk_bipush_100, xk_bipush_26, xk_sipush_9999, xk_sipush_500, xk_bipush_7, xk_bipush_m126, xk_bipush_127, xk_bipush_23, xk_sipush_m1022, xk_sipush_1023, xk_bipush_52, xk_bipush_m3, xk_sipush_9830, xk_sipush_4800, xk_sipush_983, xk_sipush_480, xk_bipush_13, xk_bipush_18, xk_bipush_9, xk_bipush_32, xg_0_0, xp_0_0, xg_0_1, xp_0_1, xg_0_2, xp_0_2, xg_0_3, xp_0_3, xg_0_4, xp_0_4, xg_0_5, xp_0_5, xg_0_6, xp_0_6, xg_0_7, xp_0_7, xg_0_8, xp_0_8, xg_1_0, xp_1_0, xg_1_1, xp_1_1, xg_1_2, xp_1_2, xg_1_3, xp_1_3, xg_2_0, xp_2_0, xg_2_1, xp_2_1, xg_2_2, xp_2_2, xg_3_0, xp_3_0, xg_3_1, xp_3_1, xg_3_2, xp_3_2, xg_3_3, xp_3_3, xg_3_4, xp_3_4, xg_3_5, xp_3_5, xg_3_6, xp_3_6, xg_3_7, xp_3_7, xg_3_8, xp_3_8, xg_3_9, xp_3_9, xg_3_10, xp_3_10, xg_3_11, xp_3_11, xg_4_0, xp_4_0, xg_4_1, xp_4_1, xg_5_0, xp_5_0, xg_5_1, xp_5_1, xg_6_0, xp_6_0, xg_6_1, xp_6_1, xg_6_2, xp_6_2, xg_6_3, xp_6_3, xg_6_4, xp_6_4, xg_6_5, xp_6_5, xg_7_0, xp_7_0, xg_7_1, xp_7_1, xg_7_2, xp_7_2, xg_7_3, xp_7_3, xg_7_4, xp_7_4, xg_7_5, xp_7_5, xg_7_6, xp_7_6, xg_7_7, xp_7_7, xg_7_8, xp_7_8, xg_7_9, xp_7_9, xg_7_10, xp_7_10, xg_7_11, xp_7_11, xg_7_12, xp_7_12, xg_7_13, xp_7_13, fv0, fv1, fv2, fv3, kI_0, kI_1, stL, wipeL, entLn, entL, List.getElem?_cons_zero, List.getElem?_cons_succ, List.getElem?_nil, List.set_cons_zero, List.set_cons_succ, List.set_nil, List.length_cons, List.length_nil, List.cons_append, List.nil_append, List.replicate, Nat.reduceAdd, Nat.reduceLeDiff, Nat.reduceSub, true_and, and_true, x_callS, x_callSN, x_callI, x_callIN, x_callV0, x_callV1, x_callV2, x_callV3, x_callV4, x_callV5, x_callV6, x_callV7, callP, List.take_succ_cons, List.take_zero, List.take_nil, List.drop_succ_cons, List.drop_zero, List.drop_nil, List.getLast?_singleton, List.getLast?_cons_cons, Option.some.injEq, Value.ref.injEq, exists_eq_left, exists_eq_left', Nat.zero_le, Nat.add_zero, ldcV_f, ldcV_fn, ldcV_l, ldcV_d, Nat.reduceMul, Nat.le_refl, List.reverse_cons, List.reverse_nil, Option.toList, List.map_cons, List.map_nil, List.sum_cons, List.sum_nil, Value.category, tblW_n, tblW_c, Int.cast_ofNat_Int, Int.reduceAdd, Int.reduceToNat, ofI_n, rc_X7_isThere, rs_X7_isThere, P_X7_isThere, rc_X7_spotOf, rs_X7_spotOf, P_X7_spotOf, rc_X7_inkAt, rs_X7_inkAt, P_X7_inkAt, rc_X7_promisedTo, rs_X7_promisedTo, P_X7_promisedTo, rc_X7_lightAt, rs_X7_lightAt, P_X7_lightAt, rc_Jxf58ca_floatToIntBits_5c35a, rs_Jxf58ca_floatToIntBits_5c35a, P_Jxf58ca_floatToIntBits_5c35a, rc_X7_ahead, rs_X7_ahead, P_X7_ahead, rc_X7_hasRoom, rs_X7_hasRoom, P_X7_hasRoom, rc_X7_flag, rs_X7_flag, P_X7_flag, rc_X7_canRead, rs_X7_canRead, P_X7_canRead]
  obtain ⟨hM, hD, h1, h2⟩ := h
  have hM0 := hM
  obtain ⟨m0, m1, m2, m3, m4, m5, m6, m7, m8, m9, m10⟩ := hM
  simp only [m0, m1, m2, m3, m4, m5, m6, m7, m8, m9, m10, hM0, bI_0, bI_n0, ← nI_0, sK_stI, sR_stI, sK_stF, sR_stF, sK_stIA, sR_stIA, sK_stFA, sR_stFA, sI_stI, sI_stF, sI_stIA, sI_stFA, sF_stI, sF_stF, sF_stIA, sF_stFA, Nat.left_eq_add, Nat.add_eq_left, Nat.add_left_cancel_iff, Nat.reduceEqDiff, Nat.reduceEqDiff, Nat.succ_ne_self, false_and, and_false, if_false, if_true, nI_succ_sub, Option.some.injEq, Prod.mk.injEq, exists_eq_left', true_and, and_true, retI, retF, retV, retZ1, retZ0, retL, retA, retN, Nat.reduceAdd, Nat.reduceMul, Nat.reduceLT]
  by_cases c2 : ((mV S y 0).dk = mI 6 ∨ ¬ Pl r c)
  · simp only [c2, not_true_eq_false, not_false_eq_true, true_implies, false_implies, true_and, and_true]
    exact h1 c2
  · have c2' := c2
    rw [not_or, Decidable.not_not] at c2'
    obtain ⟨p, hp⟩ := (OnD_or hD).resolve_left c2'.1
    obtain ⟨a, b, ha, hb, rfl, rfl⟩ := Pl_of c2'.2
    have h2 := h2 p a b hp ha hb rfl rfl
    have hp4 := hp.2.1
    have edk := hp.1
    have hG := hD.2.2.2.2 p hp.2.2 hp4
    have ek : kP (nI a) (nI b) = a * 12 + b := kP_n ha hb
    have hPl : Pl (nI a) (nI b) := c2'.2
    have hk : a * 12 + b < 120 := by omega
    have hi := iK_lt (q := 0) (by omega) hp4 hk
    have hl := lK_lt (q := 0) (by omega) hp4 hk
    have hP : PreM S y 0 p := ⟨hM0, by omega, hp4, hD.1, hG⟩
    have c26 : ¬ nI 26 = 0 := by decide
    simp only [c2, c2'.2, ek, not_false_eq_true, not_true_eq_false, true_implies, false_implies, true_and, and_true]
    simp (disch := omega) only [nlt0, nge0, neq0, ngt0, nle0, nI_ltI, nI_leI, nI_eq, nI_cl, in_nI, false_implies, true_implies, not_false_eq_true, not_true_eq_false, and_true, true_and, nI_add, pk_mul, implies_true, not_lt0, mV_dk, edk, hP, c26]
    have eT : ∀ w', w = w' → E (some (.int (atV (mV S y 0) p (a * 12 + b) w'))) S := fun w' e => e ▸ h2
    refine ⟨by omega, hPl, by omega, hp4, hk, by omega, ⟨fun e => ?_, fun e => ?_, fun e => ?_, fun e => ?_, fun e => ?_, fun e => ?_, fun e => ?_⟩, fun e => ?_⟩
    · have h2 := eT _ e
      unfold atV at h2
      simp (disch := omega) only [nI_eq, Nat.reduceEqDiff, if_true, if_false, Nat.succ_ne_self, Nat.one_ne_zero, Nat.zero_ne_one, reduceIte] at h2
      rcases ink_of (S := S) (y := y) (q := 0) (p := p) hG hk with ei | ⟨a', b', ha', hb', ei, et, ew⟩
      · refine ⟨fun c => absurd ei c, fun _ => ?_⟩
        have et : ((mV S y 0).g p).t (a * 12 + b) = mI 6 := (mtI_6 _).mpr ei
        rwa [et] at h2
      · have n6 : ¬ sI S (y + 1) (iK 0 p (a * 12 + b)) = mI 6 := by rw [ei]; exact nI_ne_mI (by omega) (by omega) (by omega)
        refine ⟨fun _ => ⟨by omega, ?_⟩, fun c => absurd n6 c⟩
        have e2 : nI (26 * b' + a') - nI (26 * b' + a') / nI 26 * nI 26 = nI ((26 * b' + a') % 26) := pk_rem (by omega) (by omega) (by omega)
        have et' : ((mV S y 0).g p).t (a * 12 + b) = nI a' := et
        rw [ei, e2, show (26 * b' + a') % 26 = a' by omega]
        rwa [et'] at h2
    · have h2 := eT _ e
      unfold atV at h2
      simp (disch := omega) only [nI_eq, Nat.reduceEqDiff, if_true, if_false, Nat.succ_ne_self, Nat.one_ne_zero, Nat.zero_ne_one, reduceIte] at h2
      rcases ink_of (S := S) (y := y) (q := 0) (p := p) hG hk with ei | ⟨a', b', ha', hb', ei, et, ew⟩
      · refine ⟨fun c => absurd ei c, fun _ => ?_⟩
        have et : ((mV S y 0).g p).w (a * 12 + b) = mI 6 := by
          show mwI (sI S (y + 1) (iK 0 p (a * 12 + b))) = mI 6
          rw [ei, mwI_m]
        rwa [et] at h2
      · have n6 : ¬ sI S (y + 1) (iK 0 p (a * 12 + b)) = mI 6 := by rw [ei]; exact nI_ne_mI (by omega) (by omega) (by omega)
        refine ⟨fun _ => ⟨by omega, ?_⟩, fun c => absurd n6 c⟩
        have e2 : nI (26 * b' + a') / nI 26 = nI ((26 * b' + a') / 26) := pk_div (by omega) (by omega) (by omega)
        have ew' : ((mV S y 0).g p).w (a * 12 + b) = nI b' := ew
        rw [ei, e2, show (26 * b' + a') / 26 = b' by omega]
        rwa [ew'] at h2
    · have h2 := eT _ e
      unfold atV at h2
      simp (disch := omega) only [nI_eq, Nat.reduceEqDiff, if_true, if_false, Nat.succ_ne_self, Nat.one_ne_zero, Nat.zero_ne_one, reduceIte] at h2
      exact ⟨by omega, hp4, hk, h2⟩
    · have h2 := eT _ e
      unfold atV at h2
      simp (disch := omega) only [nI_eq, Nat.reduceEqDiff, if_true, if_false, Nat.succ_ne_self, Nat.one_ne_zero, Nat.zero_ne_one, reduceIte] at h2
      exact ⟨by omega, hp4, hk, hl, okL_bf (hG _ hk).1, h2⟩
    · have h2 := eT _ e
      unfold atV at h2
      simp (disch := omega) only [nI_eq, Nat.reduceEqDiff, if_true, if_false, Nat.succ_ne_self, Nat.one_ne_zero, Nat.zero_ne_one, reduceIte] at h2
      exact ⟨by omega, hp4, hk, okL_bf (okL_aheadV hD.1 hG (hG _ hk).1 120 (Nat.le_refl _)), h2⟩
    · have h2 := eT _ e
      unfold atV at h2
      simp (disch := omega) only [nI_eq, Nat.reduceEqDiff, if_true, if_false, Nat.succ_ne_self, Nat.one_ne_zero, Nat.zero_ne_one, reduceIte] at h2
      refine ⟨by omega, hp4, hk, fun c => ?_, fun c => ?_⟩
      · rw [bI_f (show ¬ roV (mV S y 0) ((mV S y 0).g p) (a * 12 + b) = true from c)] at h2
        exact h2
      · rw [bI_t (show roV (mV S y 0) ((mV S y 0).g p) (a * 12 + b) = true from Decidable.not_not.mp c)] at h2
        exact h2
    · have h2 := eT _ e
      unfold atV at h2
      simp (disch := omega) only [nI_eq, Nat.reduceEqDiff, if_true, if_false, Nat.succ_ne_self, Nat.one_ne_zero, Nat.zero_ne_one, reduceIte] at h2
      refine ⟨by omega, hp4, hk, fun c => ?_, fun c => ?_⟩
      · rw [bI_f (show ¬ rdV (mV S y 0) ((mV S y 0).g p) (a * 12 + b) = true from c)] at h2
        exact h2
      · rw [bI_t (show rdV (mV S y 0) ((mV S y 0).g p) (a * 12 + b) = true from Decidable.not_not.mp c)] at h2
        exact h2
    · unfold atV at h2
      rwa [if_neg (ne_out (n := 6) e (by omega) (by omega)), if_neg (ne_out (n := 6) e (by omega) (by omega)), if_neg (ne_out (n := 6) e (by omega) (by omega)), if_neg (ne_out (n := 6) e (by omega) (by omega)), if_neg (ne_out (n := 6) e (by omega) (by omega)), if_neg (ne_out (n := 6) e (by omega) (by omega)), if_neg (ne_out (n := 6) e (by omega) (by omega))] at h2
def P_X7_count (as : List Value) (S : SS) (E : Option Value → SS → Prop) : Prop := match as with
  | [.ref y, .int w] => ModAt S y ∧ E (some (.int (cntV (mV S y 0) w (sI S y 6) (sI S y 2)))) S
  | _ => False
def Γ_X7_count : List (MI × PT) := []
theorem hΓ_X7_count (l : Launch) (G : Gx) : ∀ q ∈ Γ_X7_count, Ct l G q.1 q.2 := fun _ h => absurd h List.not_mem_nil
set_option maxHeartbeats 1000000 in
theorem ct_X7_count (l : Launch) (G : Gx) : Ct l G mi_X7_count P_X7_count := by
  refine Ct.ofV mo_X7_count (fun as S E h => ?_)
  unfold P_X7_count at h
  split at h
  case h_2 => exact h.elim
  rename_i y w
  refine ⟨by simp [entL, mL_X7_count], ?_⟩
  refine wpN_ok (Γ := Γ_X7_count) (hΓ_X7_count l G) so_X7_count 9 _ _ _ _ _ _ ?_
  simp only [mL_X7_count, mT_X7_count, rc_X7_count, rs_X7_count, Γ_X7_count, sg_X7_count_0, sg_X7_count_56, sg_X7_count_63, sg_X7_count_70, sg_X7_count_78, sg_X7_count_86, sg_X7_count_95, sg_X7_count_100, sg_X7_count_105, wn_X7_count_0, wn_X7_count_56, wn_X7_count_63, wn_X7_count_70, wn_X7_count_78, wn_X7_count_86, wn_X7_count_95, wn_X7_count_100, wn_X7_count_105, wp_c, ex_c, x_nop, x_goto, x_table, x_iinc, x_ldc, x_ldc2, x_iaload, x_faload, x_baload, x_caload, x_iastore, x_fastore, x_bastore, x_castore, x_aastore, x_alen, x_gets, x_new, x_newa, x_anew, x_invs, x_invi, x_invv, x_ret, x_iret, x_lret, x_fret, x_aret, x_lconst, x_fconst0, x_fconst1, x_fconst2, x_dconst0, x_dconst1, x_null, x_iadd, x_isub, x_imul, x_iand, x_ior, x_idiv, x_irem, x_ineg, x_ishl, x_ishr, x_land, x_lor, x_lushr, x_lshl, x_lcmp, x_i2l, x_l2i, x_i2c, x_i2f, x_f2d, x_d2i, x_d2l, x_fadd, x_fsub, x_fmul, x_fdiv, x_dadd, x_dsub, x_dmul, x_ddiv, x_fcmp, x_dcmp, x_dupI, x_dupR, x_dup2, x_popI, x_popR, ldP_I, ldP_L, ldP_F, ldP_D, ldP_R, ldP_N, x_iload, x_iload_n, x_lload, x_lload_n, x_fload, x_fload_n, x_dload, x_dload_n, x_aload, x_aload_n, x_istore, x_istore_n, x_lstore, x_lstore_n, x_fstore, x_fstore_n, x_dstore, x_dstore_n, x_astore, x_astore_n, x_astoreN, x_astore_nN, x_icmp_eq, x_icmp_ne, x_icmp_lt, x_icmp_ge, x_icmp_gt, x_icmp_le, x_if_eq, x_if_ne, x_if_lt, x_if_ge, x_if_gt, x_if_le, x_ifnull, x_ifnullR, x_ifnn, x_ifnnR, x_aaload2, x_cpI, x_cpF, x_bF, x_bD, x_oI, xk_bipush_120, xk_iconst_0, xk_bipush_m6, xk_iconst_1, xk_bipush_80, xk_bipush_48, xk_bipush_57, xk_bipush_10, xk_bipush_64, xk_bipush_46, xk_bipush_97, xk_bipush_122, xk_bipush_119, xk_bipush_61, xk_bipush_59, xk_bipush_8, xk_bipush_33, xk_bipush_126, xk_bipush_m2, xk_bipush_m4, xk_iconst_4, xk_bipush_6, xk_iconst_2, xk_bipush_40, xk_iconst_3, xk_iconst_5, xk_iconst_m1, xk_bipush_m5, xk_bipush_12, xk_bipush_100, xk_bipush_26, xk_sipush_9999, xk_sipush_500, xk_bipush_7, xk_bipush_m126, xk_bipush_127, xk_bipush_23, xk_sipush_m1022, xk_sipush_1023, xk_bipush_52, xk_bipush_m3, xk_sipush_9830, xk_sipush_4800, xk_sipush_983, xk_sipush_480, xk_bipush_13, xk_bipush_18, xk_bipush_9, xk_bipush_32, xg_0_0, xp_0_0, xg_0_1, xp_0_1, xg_0_2, xp_0_2, xg_0_3, xp_0_3, xg_0_4, xp_0_4, xg_0_5, xp_0_5, xg_0_6, xp_0_6, xg_0_7, xp_0_7, xg_0_8, xp_0_8, xg_1_0, xp_1_0, xg_1_1, xp_1_1, xg_1_2, xp_1_2, xg_1_3, xp_1_3, xg_2_0, xp_2_0, xg_2_1, xp_2_1, xg_2_2, xp_2_2, xg_3_0, xp_3_0, xg_3_1, xp_3_1, xg_3_2, xp_3_2, xg_3_3, xp_3_3, xg_3_4, xp_3_4, xg_3_5, xp_3_5, xg_3_6, xp_3_6, xg_3_7, xp_3_7, xg_3_8, xp_3_8, xg_3_9, xp_3_9, xg_3_10, xp_3_10, xg_3_11, xp_3_11, xg_4_0, xp_4_0, xg_4_1, xp_4_1, xg_5_0, xp_5_0, xg_5_1, xp_5_1, xg_6_0, xp_6_0, xg_6_1, xp_6_1, xg_6_2, xp_6_2, xg_6_3, xp_6_3, xg_6_4, xp_6_4, xg_6_5, xp_6_5, xg_7_0, xp_7_0, xg_7_1, xp_7_1, xg_7_2, xp_7_2, xg_7_3, xp_7_3, xg_7_4, xp_7_4, xg_7_5, xp_7_5, xg_7_6, xp_7_6, xg_7_7, xp_7_7, xg_7_8, xp_7_8, xg_7_9, xp_7_9, xg_7_10, xp_7_10, xg_7_11, xp_7_11, xg_7_12, xp_7_12, xg_7_13, xp_7_13, fv0, fv1, fv2, fv3, kI_0, kI_1, stL, wipeL, entLn, entL, List.getElem?_cons_zero, List.getElem?_cons_succ, List.getElem?_nil, List.set_cons_zero, List.set_cons_succ, List.set_nil, List.length_cons, List.length_nil, List.cons_append, List.nil_append, List.replicate, Nat.reduceAdd, Nat.reduceLeDiff, Nat.reduceSub, true_and, and_true, x_callS, x_callSN, x_callI, x_callIN, x_callV0, x_callV1, x_callV2, x_callV3, x_callV4, x_callV5, x_callV6, x_callV7, callP, List.take_succ_cons, List.take_zero, List.take_nil, List.drop_succ_cons, List.drop_zero, List.drop_nil, List.getLast?_singleton, List.getLast?_cons_cons, Option.some.injEq, Value.ref.injEq, exists_eq_left, exists_eq_left', Nat.zero_le, Nat.add_zero, ldcV_f, ldcV_fn, ldcV_l, ldcV_d, Nat.reduceMul, Nat.le_refl, List.reverse_cons, List.reverse_nil, Option.toList, List.map_cons, List.map_nil, List.sum_cons, List.sum_nil, Value.category, tblW_n, tblW_c, Int.cast_ofNat_Int, Int.reduceAdd, Int.reduceToNat, ofI_n]
  obtain ⟨hM, h⟩ := h
  obtain ⟨m0, m1, m2, m3, m4, m5, m6, m7, m8, m9, m10⟩ := hM
  simp only [m0, m1, m2, m3, m4, m5, m6, m7, m8, m9, m10, sK_stI, sR_stI, sK_stF, sR_stF, sK_stIA, sR_stIA, sK_stFA, sR_stFA, sI_stI, sI_stF, sI_stIA, sI_stFA, sF_stI, sF_stF, sF_stIA, sF_stFA, Nat.left_eq_add, Nat.add_eq_left, Nat.add_left_cancel_iff, Nat.reduceEqDiff, Nat.reduceEqDiff, Nat.succ_ne_self, false_and, and_false, if_false, if_true, nI_succ_sub, Option.some.injEq, Prod.mk.injEq, exists_eq_left', true_and, and_true, retI, retF, retV, retZ1, retZ0, retL, retA, retN, Nat.reduceAdd, Nat.reduceMul, Nat.reduceLT]
  simp (disch := omega) only [nlt0, nge0, neq0, ngt0, nle0, nI_ltI, nI_leI, nI_eq, nI_cl, in_nI, false_implies, true_implies, not_false_eq_true, not_true_eq_false, and_true, true_and, nI_add, pk_mul, implies_true, not_lt0, mV_dk, mV_pl, mV_hr, mV_pp]
  have eT : ∀ w', w = w' → E (some (.int (cntV (mV S y 0) w' (sI S y 6) (sI S y 2)))) S := fun w' e => e ▸ h
  have hs : ∀ i, (mV S y 0).st i = sI S (y + 1) i := fun i => by show sI S (y + 1) (983 * 0 + i) = _; rw [show 983 * 0 + i = i by omega]
  have e4 : ∀ k, 4 ≤ k → k < 8 → w = nI k → vp_in (w - nI 4) 9830 ∧ sI S (y + 1) (w - nI 4).toNatClampNeg = (mV S y 0).st (k - 4) := fun k a b e => by
    rw [e, pk_sub a, nI_cl (by omega), hs]
    exact ⟨vp_in_nI (by omega) (by omega), rfl⟩
  refine ⟨⟨fun e => ?_, fun e => ?_, fun e => ?_, fun e => ?_, fun e => ?_, fun e => ?_, fun e => ?_, fun e => ?_, fun e => ?_, fun e => ?_⟩, fun e => ?_⟩
  · have h := eT _ e
    unfold cntV at h
    simp (disch := omega) only [nI_eq, Nat.reduceEqDiff, if_true, if_false, Nat.succ_ne_self, Nat.one_ne_zero, Nat.zero_ne_one, reduceIte] at h
    exact ⟨by omega, h⟩
  · have h := eT _ e
    unfold cntV at h
    simp (disch := omega) only [nI_eq, Nat.reduceEqDiff, if_true, if_false, Nat.succ_ne_self, Nat.one_ne_zero, Nat.zero_ne_one, reduceIte] at h
    exact ⟨by omega, h⟩
  · have h := eT _ e
    unfold cntV at h
    simp (disch := omega) only [nI_eq, Nat.reduceEqDiff, if_true, if_false, Nat.succ_ne_self, Nat.one_ne_zero, Nat.zero_ne_one, reduceIte] at h
    exact ⟨by omega, h⟩
  · have h := eT _ e
    unfold cntV at h
    simp (disch := omega) only [nI_eq, Nat.reduceEqDiff, if_true, if_false, Nat.succ_ne_self, Nat.one_ne_zero, Nat.zero_ne_one, reduceIte] at h
    exact ⟨by omega, h⟩
  · have h := eT _ e
    unfold cntV at h
    simp (disch := omega) only [nI_eq, Nat.reduceEqDiff, if_true, if_false, Nat.succ_ne_self, Nat.one_ne_zero, Nat.zero_ne_one, reduceIte] at h
    obtain ⟨q1, q2⟩ := e4 4 (by omega) (by omega) e
    exact ⟨q1, by rw [q2]; exact h⟩
  · have h := eT _ e
    unfold cntV at h
    simp (disch := omega) only [nI_eq, Nat.reduceEqDiff, if_true, if_false, Nat.succ_ne_self, Nat.one_ne_zero, Nat.zero_ne_one, reduceIte] at h
    obtain ⟨q1, q2⟩ := e4 5 (by omega) (by omega) e
    exact ⟨q1, by rw [q2]; exact h⟩
  · have h := eT _ e
    unfold cntV at h
    simp (disch := omega) only [nI_eq, Nat.reduceEqDiff, if_true, if_false, Nat.succ_ne_self, Nat.one_ne_zero, Nat.zero_ne_one, reduceIte] at h
    obtain ⟨q1, q2⟩ := e4 6 (by omega) (by omega) e
    exact ⟨q1, by rw [q2]; exact h⟩
  · have h := eT _ e
    unfold cntV at h
    simp (disch := omega) only [nI_eq, Nat.reduceEqDiff, if_true, if_false, Nat.succ_ne_self, Nat.one_ne_zero, Nat.zero_ne_one, reduceIte] at h
    obtain ⟨q1, q2⟩ := e4 7 (by omega) (by omega) e
    exact ⟨q1, by rw [q2]; exact h⟩
  · have h := eT _ e
    unfold cntV at h
    simp (disch := omega) only [nI_eq, Nat.reduceEqDiff, if_true, if_false, Nat.succ_ne_self, Nat.one_ne_zero, Nat.zero_ne_one, reduceIte] at h
    exact h
  · have h := eT _ e
    unfold cntV at h
    simp (disch := omega) only [nI_eq, Nat.reduceEqDiff, if_true, if_false, Nat.succ_ne_self, Nat.one_ne_zero, Nat.zero_ne_one, reduceIte] at h
    exact h
  · have no : ∀ k, k ≤ 9 → ¬ w = nI k := fun k hk => ne_out (n := 9) e hk (by omega)
    unfold cntV at h
    rwa [if_neg (no 0 (by omega)), if_neg (no 1 (by omega)), if_neg (no 2 (by omega)), if_neg (no 3 (by omega)), if_neg (no 4 (by omega)), if_neg (no 5 (by omega)), if_neg (no 6 (by omega)), if_neg (no 7 (by omega)), if_neg (no 8 (by omega)), if_neg (no 9 (by omega))] at h
def P_X7_of (as : List Value) (S : SS) (E : Option Value → SS → Prop) : Prop := match as with
  | [.ref y, .int w, .int q] => ModAt S y ∧ DOK (mV S y 0) ∧ (¬ (0 ≤ w ∧ w < (mV S y 0).pp) → E (some (.int (mI 1))) S) ∧ (∀ wn n, 0 ≤ w → w < (mV S y 0).pp → w = nI wn → wn < 5 → n ≤ 4 → (mV S y 0).pl = nI n → E (some (.int (if q = nI 0 then (mV S y 0).pr wn else if q = nI 1 then nI (ofV (mV S y 0) wn 1 n) else if q = nI 2 then nI (ofV (mV S y 0) wn 2 n) else if q = nI 3 then nI (ofV (mV S y 0) wn 3 n) else if q = nI 4 then (mV S y 0).wr wn else if q = nI 5 then (mV S y 0).sp wn else mI 2))) S)
  | _ => False
def Γ_X7_of : List (MI × PT) := [(mi_X7_isWriter, P_X7_isWriter), (mi_X7_counted, P_X7_counted)]
theorem hΓ_X7_of (l : Launch) (G : Gx) : ∀ q ∈ Γ_X7_of, Ct l G q.1 q.2 := List.forall_mem_cons.mpr ⟨ct_X7_isWriter l G, List.forall_mem_cons.mpr ⟨ct_X7_counted l G, fun _ h => absurd h List.not_mem_nil⟩⟩
set_option maxHeartbeats 1000000 in
theorem ct_X7_of (l : Launch) (G : Gx) : Ct l G mi_X7_of P_X7_of := by
  refine Ct.ofV mo_X7_of (fun as S E h => ?_)
  unfold P_X7_of at h
  split at h
  case h_2 => exact h.elim
  rename_i y w q
  refine ⟨by simp [entL, mL_X7_of], ?_⟩
  refine wpN_ok (Γ := Γ_X7_of) (hΓ_X7_of l G) so_X7_of 9 _ _ _ _ _ _ ?_
  simp only [mL_X7_of, mT_X7_of, rc_X7_of, rs_X7_of, Γ_X7_of, sg_X7_of_0, sg_X7_of_10, sg_X7_of_48, sg_X7_of_58, sg_X7_of_65, sg_X7_of_75, sg_X7_of_85, wn_X7_of_0, wn_X7_of_10, wn_X7_of_48, wn_X7_of_58, wn_X7_of_65, wn_X7_of_75, wn_X7_of_85, wp_c, ex_c, x_nop, x_goto, x_table, x_iinc, x_ldc, x_ldc2, x_iaload, x_faload, x_baload, x_caload, x_iastore, x_fastore, x_bastore, x_castore, x_aastore, x_alen, x_gets, x_new, x_newa, x_anew, x_invs, x_invi, x_invv, x_ret, x_iret, x_lret, x_fret, x_aret, x_lconst, x_fconst0, x_fconst1, x_fconst2, x_dconst0, x_dconst1, x_null, x_iadd, x_isub, x_imul, x_iand, x_ior, x_idiv, x_irem, x_ineg, x_ishl, x_ishr, x_land, x_lor, x_lushr, x_lshl, x_lcmp, x_i2l, x_l2i, x_i2c, x_i2f, x_f2d, x_d2i, x_d2l, x_fadd, x_fsub, x_fmul, x_fdiv, x_dadd, x_dsub, x_dmul, x_ddiv, x_fcmp, x_dcmp, x_dupI, x_dupR, x_dup2, x_popI, x_popR, ldP_I, ldP_L, ldP_F, ldP_D, ldP_R, ldP_N, x_iload, x_iload_n, x_lload, x_lload_n, x_fload, x_fload_n, x_dload, x_dload_n, x_aload, x_aload_n, x_istore, x_istore_n, x_lstore, x_lstore_n, x_fstore, x_fstore_n, x_dstore, x_dstore_n, x_astore, x_astore_n, x_astoreN, x_astore_nN, x_icmp_eq, x_icmp_ne, x_icmp_lt, x_icmp_ge, x_icmp_gt, x_icmp_le, x_if_eq, x_if_ne, x_if_lt, x_if_ge, x_if_gt, x_if_le, x_ifnull, x_ifnullR, x_ifnn, x_ifnnR, x_aaload2, x_cpI, x_cpF, x_bF, x_bD, x_oI, xk_bipush_120, xk_iconst_0, xk_bipush_m6, xk_iconst_1, xk_bipush_80, xk_bipush_48, xk_bipush_57, xk_bipush_10, xk_bipush_64, xk_bipush_46, xk_bipush_97, xk_bipush_122, xk_bipush_119, xk_bipush_61, xk_bipush_59, xk_bipush_8, xk_bipush_33, xk_bipush_126, xk_bipush_m2, xk_bipush_m4, xk_iconst_4, xk_bipush_6, xk_iconst_2, xk_bipush_40, xk_iconst_3, xk_iconst_5, xk_iconst_m1, xk_bipush_m5, xk_bipush_12, xk_bipush_100, xk_bipush_26, xk_sipush_9999, xk_sipush_500, xk_bipush_7, xk_bipush_m126, xk_bipush_127, xk_bipush_23, xk_sipush_m1022, xk_sipush_1023, xk_bipush_52, xk_bipush_m3, xk_sipush_9830, xk_sipush_4800, xk_sipush_983, xk_sipush_480, xk_bipush_13, xk_bipush_18, xk_bipush_9, xk_bipush_32, xg_0_0, xp_0_0, xg_0_1, xp_0_1, xg_0_2, xp_0_2, xg_0_3, xp_0_3, xg_0_4, xp_0_4, xg_0_5, xp_0_5, xg_0_6, xp_0_6, xg_0_7, xp_0_7, xg_0_8, xp_0_8, xg_1_0, xp_1_0, xg_1_1, xp_1_1, xg_1_2, xp_1_2, xg_1_3, xp_1_3, xg_2_0, xp_2_0, xg_2_1, xp_2_1, xg_2_2, xp_2_2, xg_3_0, xp_3_0, xg_3_1, xp_3_1, xg_3_2, xp_3_2, xg_3_3, xp_3_3, xg_3_4, xp_3_4, xg_3_5, xp_3_5, xg_3_6, xp_3_6, xg_3_7, xp_3_7, xg_3_8, xp_3_8, xg_3_9, xp_3_9, xg_3_10, xp_3_10, xg_3_11, xp_3_11, xg_4_0, xp_4_0, xg_4_1, xp_4_1, xg_5_0, xp_5_0, xg_5_1, xp_5_1, xg_6_0, xp_6_0, xg_6_1, xp_6_1, xg_6_2, xp_6_2, xg_6_3, xp_6_3, xg_6_4, xp_6_4, xg_6_5, xp_6_5, xg_7_0, xp_7_0, xg_7_1, xp_7_1, xg_7_2, xp_7_2, xg_7_3, xp_7_3, xg_7_4, xp_7_4, xg_7_5, xp_7_5, xg_7_6, xp_7_6, xg_7_7, xp_7_7, xg_7_8, xp_7_8, xg_7_9, xp_7_9, xg_7_10, xp_7_10, xg_7_11, xp_7_11, xg_7_12, xp_7_12, xg_7_13, xp_7_13, fv0, fv1, fv2, fv3, kI_0, kI_1, stL, wipeL, entLn, entL, List.getElem?_cons_zero, List.getElem?_cons_succ, List.getElem?_nil, List.set_cons_zero, List.set_cons_succ, List.set_nil, List.length_cons, List.length_nil, List.cons_append, List.nil_append, List.replicate, Nat.reduceAdd, Nat.reduceLeDiff, Nat.reduceSub, true_and, and_true, x_callS, x_callSN, x_callI, x_callIN, x_callV0, x_callV1, x_callV2, x_callV3, x_callV4, x_callV5, x_callV6, x_callV7, callP, List.take_succ_cons, List.take_zero, List.take_nil, List.drop_succ_cons, List.drop_zero, List.drop_nil, List.getLast?_singleton, List.getLast?_cons_cons, Option.some.injEq, Value.ref.injEq, exists_eq_left, exists_eq_left', Nat.zero_le, Nat.add_zero, ldcV_f, ldcV_fn, ldcV_l, ldcV_d, Nat.reduceMul, Nat.le_refl, List.reverse_cons, List.reverse_nil, Option.toList, List.map_cons, List.map_nil, List.sum_cons, List.sum_nil, Value.category, tblW_n, tblW_c, Int.cast_ofNat_Int, Int.reduceAdd, Int.reduceToNat, ofI_n, rc_X7_isWriter, rs_X7_isWriter, P_X7_isWriter, rc_X7_counted, rs_X7_counted, P_X7_counted]
  obtain ⟨hM, hD, h1, h2⟩ := h
  have hM0 := hM
  obtain ⟨m0, m1, m2, m3, m4, m5, m6, m7, m8, m9, m10⟩ := hM
  simp only [m0, m1, m2, m3, m4, m5, m6, m7, m8, m9, m10, hM0, hD.pp, hD, bI_0, sK_stI, sR_stI, sK_stF, sR_stF, sK_stIA, sR_stIA, sK_stFA, sR_stFA, sI_stI, sI_stF, sI_stIA, sI_stFA, sF_stI, sF_stF, sF_stIA, sF_stFA, Nat.left_eq_add, Nat.add_eq_left, Nat.add_left_cancel_iff, Nat.reduceEqDiff, Nat.reduceEqDiff, Nat.succ_ne_self, false_and, and_false, if_false, if_true, nI_succ_sub, Option.some.injEq, Prod.mk.injEq, exists_eq_left', true_and, and_true, retI, retF, retV, retZ1, retZ0, retL, retA, retN, Nat.reduceAdd, Nat.reduceMul, Nat.reduceLT]
  by_cases c1 : (0 ≤ w ∧ w < (mV S y 0).pp)
  · obtain ⟨n5, hn5, en5⟩ := hD.pp
    obtain ⟨n, hn, en⟩ := hD.pl
    obtain ⟨wn, hwn, rfl⟩ := vp_in_of ((in_cmp (by omega)).mpr (en5 ▸ c1)) (by omega)
    have h2 := h2 wn n c1.1 c1.2 rfl (by omega) hn en
    have hw5 : wn < 5 := by omega
    simp only [c1, not_true_eq_false, not_false_eq_true, true_implies, false_implies, true_and, and_true]
    simp (disch := omega) only [nlt0, nge0, neq0, ngt0, nle0, nI_ltI, nI_leI, nI_eq, nI_cl, in_nI, false_implies, true_implies, not_false_eq_true, not_true_eq_false, and_true, true_and, nI_add, pk_mul, implies_true, not_lt0]
    have hs : (mV S y 0).pr wn = sI S (y + 1) (8 + wn) := by show sI S (y + 1) (983 * 0 + 8 + wn) = _; rw [show 983 * 0 + 8 + wn = 8 + wn by omega]
    have hs2 : (mV S y 0).wr wn = sI S (y + 1) (13 + wn) := by show sI S (y + 1) (983 * 0 + 13 + wn) = _; rw [show 983 * 0 + 13 + wn = 13 + wn by omega]
    have hs3 : (mV S y 0).sp wn = sI S (y + 1) (18 + wn) := by show sI S (y + 1) (983 * 0 + 18 + wn) = _; rw [show 983 * 0 + 18 + wn = 18 + wn by omega]
    rw [hs, hs2, hs3] at h2
    refine ⟨⟨fun e => ?_, fun e => ?_, fun e => ?_, fun e => ?_, fun e => ?_, fun e => ?_⟩, fun e => ?_⟩
    · simp (disch := omega) only [e, nI_eq, Nat.reduceEqDiff, if_true, if_false, Nat.succ_ne_self, Nat.one_ne_zero, Nat.zero_ne_one, reduceIte] at h2
      exact ⟨by omega, h2⟩
    · simp (disch := omega) only [e, nI_eq, Nat.reduceEqDiff, if_true, if_false, Nat.succ_ne_self, Nat.one_ne_zero, Nat.zero_ne_one, reduceIte] at h2
      exact ⟨hw5, n, 1, hn, en, by omega, by omega, e, h2⟩
    · simp (disch := omega) only [e, nI_eq, Nat.reduceEqDiff, if_true, if_false, Nat.succ_ne_self, Nat.one_ne_zero, Nat.zero_ne_one, reduceIte] at h2
      exact ⟨hw5, n, 2, hn, en, by omega, by omega, e, h2⟩
    · simp (disch := omega) only [e, nI_eq, Nat.reduceEqDiff, if_true, if_false, Nat.succ_ne_self, Nat.one_ne_zero, Nat.zero_ne_one, reduceIte] at h2
      exact ⟨hw5, n, 3, hn, en, by omega, by omega, e, h2⟩
    · simp (disch := omega) only [e, nI_eq, Nat.reduceEqDiff, if_true, if_false, Nat.succ_ne_self, Nat.one_ne_zero, Nat.zero_ne_one, reduceIte] at h2
      exact ⟨by omega, h2⟩
    · simp (disch := omega) only [e, nI_eq, Nat.reduceEqDiff, if_true, if_false, Nat.succ_ne_self, Nat.one_ne_zero, Nat.zero_ne_one, reduceIte] at h2
      exact ⟨by omega, h2⟩
    · have no : ∀ k, k ≤ 5 → ¬ q = nI k := fun k hk => ne_out (n := 5) e hk (by omega)
      rwa [if_neg (no 0 (by omega)), if_neg (no 1 (by omega)), if_neg (no 2 (by omega)), if_neg (no 3 (by omega)), if_neg (no 4 (by omega)), if_neg (no 5 (by omega))] at h2
  · simp only [c1, not_true_eq_false, not_false_eq_true, true_implies, false_implies, true_and, and_true]
    exact h1 c1
def P_X7_ofPlate (as : List Value) (S : SS) (E : Option Value → SS → Prop) : Prop := match as with
  | [.ref y, .int p, .int q] => ModAt S y ∧ DOK (mV S y 0) ∧ (¬ (0 ≤ p ∧ p < (mV S y 0).pl) → E (some (.int (mI 1))) S) ∧ (∀ pn, p = nI pn → pn < 4 → nI pn < (mV S y 0).pl → E (some (.int (if q = nI 4 then (leF ((mV S y 0).g pn).l 119).toInt32 else if q = nI 5 then (suF ((mV S y 0).g pn).l 120).toInt32 else if q = nI 0 ∨ q = nI 1 ∨ q = nI 2 ∨ q = nI 3 then nI (cn (fun k => isV (mV S y 0) ((mV S y 0).g pn) k (wh q)) 120) else mI 2))) S)
  | _ => False
def Γ_X7_ofPlate : List (MI × PT) := [(mi_X7_isPlate, P_X7_isPlate), (mi_X7_in, P_X7_in), (mi_X7_leastLight, P_X7_leastLight), (mi_X7_allLight, P_X7_allLight), (mi_Jxf58ca_floatToIntBits_5c35a, P_Jxf58ca_floatToIntBits_5c35a), (mi_X7_isSo, P_X7_isSo), (mi_X7_flag, P_X7_flag)]
theorem hΓ_X7_ofPlate (l : Launch) (G : Gx) : ∀ q ∈ Γ_X7_ofPlate, Ct l G q.1 q.2 := List.forall_mem_cons.mpr ⟨ct_X7_isPlate l G, List.forall_mem_cons.mpr ⟨ct_X7_in l G, List.forall_mem_cons.mpr ⟨ct_X7_leastLight l G, List.forall_mem_cons.mpr ⟨ct_X7_allLight l G, List.forall_mem_cons.mpr ⟨ct_Jxf58ca_floatToIntBits_5c35a l G, List.forall_mem_cons.mpr ⟨ct_X7_isSo l G, List.forall_mem_cons.mpr ⟨ct_X7_flag l G, fun _ h => absurd h List.not_mem_nil⟩⟩⟩⟩⟩⟩⟩
theorem isn_s (D : DV) (G : GV) (q n : Nat) : cn (fun k => isV D G k q) (n + 1) = if isV D G n q = true then cn (fun k => isV D G k q) n + 1 else cn (fun k => isV D G k q) n := rfl
set_option maxHeartbeats 1000000 in
theorem lp_X7_ofPlate (l : Launch) (G : Gx) {S : SS} {y p : Nat} {q : Int32} {E : Option Value → SS → Prop} (hp : PreM S y 0 p) (h : E (some (.int (nI (cn (fun k => isV (mV S y 0) (mG S y 0 p) k (wh q)) 120)))) S) :
    ∀ j, j ≤ 120 → V l G mi_X7_ofPlate E 57 [some (.ref y), some (.int (nI p)), some (.int q), some (.int (nI (cn (fun k => isV (mV S y 0) (mG S y 0 p) k (wh q)) j))), some (.int (nI j))] [] S 0 0 := by
  refine loopUp 120 fun j hj ih => ?_
  refine (V.segN (Γ := Γ_X7_ofPlate) (hΓ_X7_ofPlate l G) so_X7_ofPlate 9 (sg := sg_X7_ofPlate_57) so_X7_ofPlate_57 ?_ : V l G mi_X7_ofPlate _ (segPc sg_X7_ofPlate_57) _ _ _ _ _)
  simp only [mL_X7_ofPlate, mT_X7_ofPlate, rc_X7_ofPlate, rs_X7_ofPlate, Γ_X7_ofPlate, sg_X7_ofPlate_0, sg_X7_ofPlate_10, sg_X7_ofPlate_25, sg_X7_ofPlate_43, sg_X7_ofPlate_48, sg_X7_ofPlate_52, sg_X7_ofPlate_57, sg_X7_ofPlate_84, wn_X7_ofPlate_0, wn_X7_ofPlate_10, wn_X7_ofPlate_25, wn_X7_ofPlate_43, wn_X7_ofPlate_48, wn_X7_ofPlate_52, wn_X7_ofPlate_57, wn_X7_ofPlate_84, wp_c, ex_c, x_nop, x_goto, x_table, x_iinc, x_ldc, x_ldc2, x_iaload, x_faload, x_baload, x_caload, x_iastore, x_fastore, x_bastore, x_castore, x_aastore, x_alen, x_gets, x_new, x_newa, x_anew, x_invs, x_invi, x_invv, x_ret, x_iret, x_lret, x_fret, x_aret, x_lconst, x_fconst0, x_fconst1, x_fconst2, x_dconst0, x_dconst1, x_null, x_iadd, x_isub, x_imul, x_iand, x_ior, x_idiv, x_irem, x_ineg, x_ishl, x_ishr, x_land, x_lor, x_lushr, x_lshl, x_lcmp, x_i2l, x_l2i, x_i2c, x_i2f, x_f2d, x_d2i, x_d2l, x_fadd, x_fsub, x_fmul, x_fdiv, x_dadd, x_dsub, x_dmul, x_ddiv, x_fcmp, x_dcmp, x_dupI, x_dupR, x_dup2, x_popI, x_popR, ldP_I, ldP_L, ldP_F, ldP_D, ldP_R, ldP_N, x_iload, x_iload_n, x_lload, x_lload_n, x_fload, x_fload_n, x_dload, x_dload_n, x_aload, x_aload_n, x_istore, x_istore_n, x_lstore, x_lstore_n, x_fstore, x_fstore_n, x_dstore, x_dstore_n, x_astore, x_astore_n, x_astoreN, x_astore_nN, x_icmp_eq, x_icmp_ne, x_icmp_lt, x_icmp_ge, x_icmp_gt, x_icmp_le, x_if_eq, x_if_ne, x_if_lt, x_if_ge, x_if_gt, x_if_le, x_ifnull, x_ifnullR, x_ifnn, x_ifnnR, x_aaload2, x_cpI, x_cpF, x_bF, x_bD, x_oI, xk_bipush_120, xk_iconst_0, xk_bipush_m6, xk_iconst_1, xk_bipush_80, xk_bipush_48, xk_bipush_57, xk_bipush_10, xk_bipush_64, xk_bipush_46, xk_bipush_97, xk_bipush_122, xk_bipush_119, xk_bipush_61, xk_bipush_59, xk_bipush_8, xk_bipush_33, xk_bipush_126, xk_bipush_m2, xk_bipush_m4, xk_iconst_4, xk_bipush_6, xk_iconst_2, xk_bipush_40, xk_iconst_3, xk_iconst_5, xk_iconst_m1, xk_bipush_m5, xk_bipush_12, xk_bipush_100, xk_bipush_26, xk_sipush_9999, xk_sipush_500, xk_bipush_7, xk_bipush_m126, xk_bipush_127, xk_bipush_23, xk_sipush_m1022, xk_sipush_1023, xk_bipush_52, xk_bipush_m3, xk_sipush_9830, xk_sipush_4800, xk_sipush_983, xk_sipush_480, xk_bipush_13, xk_bipush_18, xk_bipush_9, xk_bipush_32, xg_0_0, xp_0_0, xg_0_1, xp_0_1, xg_0_2, xp_0_2, xg_0_3, xp_0_3, xg_0_4, xp_0_4, xg_0_5, xp_0_5, xg_0_6, xp_0_6, xg_0_7, xp_0_7, xg_0_8, xp_0_8, xg_1_0, xp_1_0, xg_1_1, xp_1_1, xg_1_2, xp_1_2, xg_1_3, xp_1_3, xg_2_0, xp_2_0, xg_2_1, xp_2_1, xg_2_2, xp_2_2, xg_3_0, xp_3_0, xg_3_1, xp_3_1, xg_3_2, xp_3_2, xg_3_3, xp_3_3, xg_3_4, xp_3_4, xg_3_5, xp_3_5, xg_3_6, xp_3_6, xg_3_7, xp_3_7, xg_3_8, xp_3_8, xg_3_9, xp_3_9, xg_3_10, xp_3_10, xg_3_11, xp_3_11, xg_4_0, xp_4_0, xg_4_1, xp_4_1, xg_5_0, xp_5_0, xg_5_1, xp_5_1, xg_6_0, xp_6_0, xg_6_1, xp_6_1, xg_6_2, xp_6_2, xg_6_3, xp_6_3, xg_6_4, xp_6_4, xg_6_5, xp_6_5, xg_7_0, xp_7_0, xg_7_1, xp_7_1, xg_7_2, xp_7_2, xg_7_3, xp_7_3, xg_7_4, xp_7_4, xg_7_5, xp_7_5, xg_7_6, xp_7_6, xg_7_7, xp_7_7, xg_7_8, xp_7_8, xg_7_9, xp_7_9, xg_7_10, xp_7_10, xg_7_11, xp_7_11, xg_7_12, xp_7_12, xg_7_13, xp_7_13, fv0, fv1, fv2, fv3, kI_0, kI_1, stL, wipeL, entLn, entL, List.getElem?_cons_zero, List.getElem?_cons_succ, List.getElem?_nil, List.set_cons_zero, List.set_cons_succ, List.set_nil, List.length_cons, List.length_nil, List.cons_append, List.nil_append, List.replicate, Nat.reduceAdd, Nat.reduceLeDiff, Nat.reduceSub, true_and, and_true, x_callS, x_callSN, x_callI, x_callIN, x_callV0, x_callV1, x_callV2, x_callV3, x_callV4, x_callV5, x_callV6, x_callV7, callP, List.take_succ_cons, List.take_zero, List.take_nil, List.drop_succ_cons, List.drop_zero, List.drop_nil, List.getLast?_singleton, List.getLast?_cons_cons, Option.some.injEq, Value.ref.injEq, exists_eq_left, exists_eq_left', Nat.zero_le, Nat.add_zero, ldcV_f, ldcV_fn, ldcV_l, ldcV_d, Nat.reduceMul, Nat.le_refl, List.reverse_cons, List.reverse_nil, Option.toList, List.map_cons, List.map_nil, List.sum_cons, List.sum_nil, Value.category, tblW_n, tblW_c, Int.cast_ofNat_Int, Int.reduceAdd, Int.reduceToNat, ofI_n, rc_X7_isPlate, rs_X7_isPlate, P_X7_isPlate, rc_X7_in, rs_X7_in, P_X7_in, rc_X7_leastLight, rs_X7_leastLight, P_X7_leastLight, rc_X7_allLight, rs_X7_allLight, P_X7_allLight, rc_Jxf58ca_floatToIntBits_5c35a, rs_Jxf58ca_floatToIntBits_5c35a, P_Jxf58ca_floatToIntBits_5c35a, rc_X7_isSo, rs_X7_isSo, P_X7_isSo, rc_X7_flag, rs_X7_flag, P_X7_flag]
  have hc := cn_le (fun k => isV (mV S y 0) (mG S y 0 p) k (wh q)) j
  have hp4 := hp.2.2.1
  simp only [hp.1.1, hp.1, bI_0, ← nI_0, sK_stI, sR_stI, sK_stF, sR_stF, sK_stIA, sR_stIA, sK_stFA, sR_stFA, sI_stI, sI_stF, sI_stIA, sI_stFA, sF_stI, sF_stF, sF_stIA, sF_stFA, Nat.left_eq_add, Nat.add_eq_left, Nat.add_left_cancel_iff, Nat.reduceEqDiff, Nat.reduceEqDiff, Nat.succ_ne_self, false_and, and_false, if_false, if_true, nI_succ_sub, Option.some.injEq, Prod.mk.injEq, exists_eq_left', true_and, and_true, retI, retF, retV, retZ1, retZ0, retL, retA, retN, Nat.reduceAdd, Nat.reduceMul, Nat.reduceLT]
  simp (disch := omega) only [nlt0, nge0, neq0, ngt0, nle0, nI_ltI, nI_leI, nI_eq, nI_cl, in_nI, false_implies, true_implies, not_false_eq_true, not_true_eq_false, and_true, true_and, nI_add, pk_mul, implies_true, not_lt0, hp, bI_n0]
  ((repeat' (first | with_reducible apply And.intro | with_reducible intro _)) <;> first | omega | assumption | (have e120 : j = 120 := (by omega); subst e120; exact h) | (have ih2 := ih (by omega); rw [isn_s, if_pos (by simp_all)] at ih2; exact ih2) | (have ih2 := ih (by omega); rw [isn_s, if_neg (by simp_all)] at ih2; exact ih2))
set_option maxHeartbeats 2000000 in
theorem ct_X7_ofPlate (l : Launch) (G : Gx) : Ct l G mi_X7_ofPlate P_X7_ofPlate := by
  refine Ct.ofV mo_X7_ofPlate (fun as S E h => ?_)
  unfold P_X7_ofPlate at h
  split at h
  case h_2 => exact h.elim
  rename_i y p q
  refine ⟨by simp [entL, mL_X7_ofPlate], ?_⟩
  refine wpN_ok (Γ := Γ_X7_ofPlate) (hΓ_X7_ofPlate l G) so_X7_ofPlate 9 _ _ _ _ _ _ ?_
  simp only [mL_X7_ofPlate, mT_X7_ofPlate, rc_X7_ofPlate, rs_X7_ofPlate, Γ_X7_ofPlate, sg_X7_ofPlate_0, sg_X7_ofPlate_10, sg_X7_ofPlate_25, sg_X7_ofPlate_43, sg_X7_ofPlate_48, sg_X7_ofPlate_52, sg_X7_ofPlate_57, sg_X7_ofPlate_84, wn_X7_ofPlate_0, wn_X7_ofPlate_10, wn_X7_ofPlate_25, wn_X7_ofPlate_43, wn_X7_ofPlate_48, wn_X7_ofPlate_52, wn_X7_ofPlate_57, wn_X7_ofPlate_84, wp_c, ex_c, x_nop, x_goto, x_table, x_iinc, x_ldc, x_ldc2, x_iaload, x_faload, x_baload, x_caload, x_iastore, x_fastore, x_bastore, x_castore, x_aastore, x_alen, x_gets, x_new, x_newa, x_anew, x_invs, x_invi, x_invv, x_ret, x_iret, x_lret, x_fret, x_aret, x_lconst, x_fconst0, x_fconst1, x_fconst2, x_dconst0, x_dconst1, x_null, x_iadd, x_isub, x_imul, x_iand, x_ior, x_idiv, x_irem, x_ineg, x_ishl, x_ishr, x_land, x_lor, x_lushr, x_lshl, x_lcmp, x_i2l, x_l2i, x_i2c, x_i2f, x_f2d, x_d2i, x_d2l, x_fadd, x_fsub, x_fmul, x_fdiv, x_dadd, x_dsub, x_dmul, x_ddiv, x_fcmp, x_dcmp, x_dupI, x_dupR, x_dup2, x_popI, x_popR, ldP_I, ldP_L, ldP_F, ldP_D, ldP_R, ldP_N, x_iload, x_iload_n, x_lload, x_lload_n, x_fload, x_fload_n, x_dload, x_dload_n, x_aload, x_aload_n, x_istore, x_istore_n, x_lstore, x_lstore_n, x_fstore, x_fstore_n, x_dstore, x_dstore_n, x_astore, x_astore_n, x_astoreN, x_astore_nN, x_icmp_eq, x_icmp_ne, x_icmp_lt, x_icmp_ge, x_icmp_gt, x_icmp_le, x_if_eq, x_if_ne, x_if_lt, x_if_ge, x_if_gt, x_if_le, x_ifnull, x_ifnullR, x_ifnn, x_ifnnR, x_aaload2, x_cpI, x_cpF, x_bF, x_bD, x_oI, xk_bipush_120, xk_iconst_0, xk_bipush_m6, xk_iconst_1, xk_bipush_80, xk_bipush_48, xk_bipush_57, xk_bipush_10, xk_bipush_64, xk_bipush_46, xk_bipush_97, xk_bipush_122, xk_bipush_119, xk_bipush_61, xk_bipush_59, xk_bipush_8, xk_bipush_33, xk_bipush_126, xk_bipush_m2, xk_bipush_m4, xk_iconst_4, xk_bipush_6, xk_iconst_2, xk_bipush_40, xk_iconst_3, xk_iconst_5, xk_iconst_m1, xk_bipush_m5, xk_bipush_12, xk_bipush_100, xk_bipush_26, xk_sipush_9999, xk_sipush_500, xk_bipush_7, xk_bipush_m126, xk_bipush_127, xk_bipush_23, xk_sipush_m1022, xk_sipush_1023, xk_bipush_52, xk_bipush_m3, xk_sipush_9830, xk_sipush_4800, xk_sipush_983, xk_sipush_480, xk_bipush_13, xk_bipush_18, xk_bipush_9, xk_bipush_32, xg_0_0, xp_0_0, xg_0_1, xp_0_1, xg_0_2, xp_0_2, xg_0_3, xp_0_3, xg_0_4, xp_0_4, xg_0_5, xp_0_5, xg_0_6, xp_0_6, xg_0_7, xp_0_7, xg_0_8, xp_0_8, xg_1_0, xp_1_0, xg_1_1, xp_1_1, xg_1_2, xp_1_2, xg_1_3, xp_1_3, xg_2_0, xp_2_0, xg_2_1, xp_2_1, xg_2_2, xp_2_2, xg_3_0, xp_3_0, xg_3_1, xp_3_1, xg_3_2, xp_3_2, xg_3_3, xp_3_3, xg_3_4, xp_3_4, xg_3_5, xp_3_5, xg_3_6, xp_3_6, xg_3_7, xp_3_7, xg_3_8, xp_3_8, xg_3_9, xp_3_9, xg_3_10, xp_3_10, xg_3_11, xp_3_11, xg_4_0, xp_4_0, xg_4_1, xp_4_1, xg_5_0, xp_5_0, xg_5_1, xp_5_1, xg_6_0, xp_6_0, xg_6_1, xp_6_1, xg_6_2, xp_6_2, xg_6_3, xp_6_3, xg_6_4, xp_6_4, xg_6_5, xp_6_5, xg_7_0, xp_7_0, xg_7_1, xp_7_1, xg_7_2, xp_7_2, xg_7_3, xp_7_3, xg_7_4, xp_7_4, xg_7_5, xp_7_5, xg_7_6, xp_7_6, xg_7_7, xp_7_7, xg_7_8, xp_7_8, xg_7_9, xp_7_9, xg_7_10, xp_7_10, xg_7_11, xp_7_11, xg_7_12, xp_7_12, xg_7_13, xp_7_13, fv0, fv1, fv2, fv3, kI_0, kI_1, stL, wipeL, entLn, entL, List.getElem?_cons_zero, List.getElem?_cons_succ, List.getElem?_nil, List.set_cons_zero, List.set_cons_succ, List.set_nil, List.length_cons, List.length_nil, List.cons_append, List.nil_append, List.replicate, Nat.reduceAdd, Nat.reduceLeDiff, Nat.reduceSub, true_and, and_true, x_callS, x_callSN, x_callI, x_callIN, x_callV0, x_callV1, x_callV2, x_callV3, x_callV4, x_callV5, x_callV6, x_callV7, callP, List.take_succ_cons, List.take_zero, List.take_nil, List.drop_succ_cons, List.drop_zero, List.drop_nil, List.getLast?_singleton, List.getLast?_cons_cons, Option.some.injEq, Value.ref.injEq, exists_eq_left, exists_eq_left', Nat.zero_le, Nat.add_zero, ldcV_f, ldcV_fn, ldcV_l, ldcV_d, Nat.reduceMul, Nat.le_refl, List.reverse_cons, List.reverse_nil, Option.toList, List.map_cons, List.map_nil, List.sum_cons, List.sum_nil, Value.category, tblW_n, tblW_c, Int.cast_ofNat_Int, Int.reduceAdd, Int.reduceToNat, ofI_n, rc_X7_isPlate, rs_X7_isPlate, P_X7_isPlate, rc_X7_in, rs_X7_in, P_X7_in, rc_X7_leastLight, rs_X7_leastLight, P_X7_leastLight, rc_X7_allLight, rs_X7_allLight, P_X7_allLight, rc_Jxf58ca_floatToIntBits_5c35a, rs_Jxf58ca_floatToIntBits_5c35a, P_Jxf58ca_floatToIntBits_5c35a, rc_X7_isSo, rs_X7_isSo, P_X7_isSo, rc_X7_flag, rs_X7_flag, P_X7_flag]
  obtain ⟨hM, hD, h1, h2⟩ := h
  have hM0 := hM
  obtain ⟨m0, m1, m2, m3, m4, m5, m6, m7, m8, m9, m10⟩ := hM
  simp only [m0, m1, m2, m3, m4, m5, m6, m7, m8, m9, m10, hM0, hD.pl, hD, bI_0, sK_stI, sR_stI, sK_stF, sR_stF, sK_stIA, sR_stIA, sK_stFA, sR_stFA, sI_stI, sI_stF, sI_stIA, sI_stFA, sF_stI, sF_stF, sF_stIA, sF_stFA, Nat.left_eq_add, Nat.add_eq_left, Nat.add_left_cancel_iff, Nat.reduceEqDiff, Nat.reduceEqDiff, Nat.succ_ne_self, false_and, and_false, if_false, if_true, nI_succ_sub, Option.some.injEq, Prod.mk.injEq, exists_eq_left', true_and, and_true, retI, retF, retV, retZ1, retZ0, retL, retA, retN, Nat.reduceAdd, Nat.reduceMul, Nat.reduceLT]
  simp (disch := omega) only [lc0, lc1, n_i64le, i64n_le, i64le, le_9, le_11, le_25, nI0_le, retZb, true_and, and_true]
  by_cases c1 : (0 ≤ p ∧ p < (mV S y 0).pl)
  · obtain ⟨n, hn, en⟩ := hD.pl
    obtain ⟨pn, hpn, rfl⟩ := vp_in_of ((in_cmp (by omega)).mpr (en ▸ c1)) (by omega)
    have h2 := h2 pn rfl (by omega) c1.2
    have hG := hD.2.2.2.2 pn c1.2 (by omega)
    have hP : PreM S y 0 pn := ⟨hM0, by omega, by omega, hD.1, hG⟩
    have eg : (mV S y 0).g pn = mG S y 0 pn := rfl
    rw [eg] at h2 hG
    simp only [c1, not_true_eq_false, not_false_eq_true, true_implies, false_implies, true_and, and_true]
    simp (disch := omega) only [nlt0, nge0, neq0, ngt0, nle0, nI_ltI, nI_leI, nI_eq, nI_cl, in_nI, false_implies, true_implies, not_false_eq_true, not_true_eq_false, and_true, true_and, nI_add, pk_mul, implies_true, not_lt0, hG, true_and]
    by_cases c2 : (0 ≤ q ∧ q ≤ nI 5)
    · obtain ⟨qn, hq, rfl⟩ := vp_in_of ((in_cmp (n := 6) (by omega)).mpr ⟨c2.1, Int32.lt_of_le_of_lt c2.2 (by decide)⟩) (by omega)
      simp only [c2, not_true_eq_false, not_false_eq_true, true_implies, false_implies, true_and, and_true]
      simp (disch := omega) only [nlt0, nge0, neq0, ngt0, nle0, nI_ltI, nI_leI, nI_eq, nI_cl, in_nI, false_implies, true_implies, not_false_eq_true, not_true_eq_false, and_true, true_and, nI_add, pk_mul, implies_true, not_lt0]
      simp (disch := omega) only [nI_eq] at h2
      refine ⟨fun c3 => ?_, fun c3 => ⟨fun c4 => ⟨by omega, bf_su fun j hj => (hG j hj).1, ?_⟩, fun c4 => ⟨by omega, okL_bf (okL_leF (fun j hj => (hG j hj).1) 119 (Nat.le_refl _)), ?_⟩⟩⟩
      · rw [if_neg (by omega), if_neg (by omega), if_pos (by omega)] at h2
        exact lp_X7_ofPlate l G hP h2 0 (by omega)
      · rwa [if_neg (by omega), if_pos (by omega)] at h2
      · rwa [if_pos (by omega)] at h2
    · simp only [c2, not_true_eq_false, not_false_eq_true, true_implies, false_implies, true_and, and_true]
      have no : ∀ k, k ≤ 5 → ¬ q = nI k := fun k hk e => c2 (by rw [e]; exact ⟨nI_pos' (by omega), nI_le hk (by omega)⟩)
      rw [if_neg (no 4 (by omega)), if_neg (no 5 (by omega)), if_neg (fun a => a.elim (no 0 (by omega)) fun a => a.elim (no 1 (by omega)) fun a => a.elim (no 2 (by omega)) (no 3 (by omega)))] at h2
      exact h2
  · simp only [c1, not_true_eq_false, not_false_eq_true, true_implies, false_implies, true_and, and_true]
    exact h1 c1
def P_X7_row (as : List Value) (S : SS) (E : Option Value → SS → Prop) : Prop := match as with
  | [.ref y, .int r, .int q] => ModAt S y ∧ DOK (mV S y 0) ∧ ((mV S y 0).dk = mI 6 ∨ ¬ (0 ≤ r ∧ r < nI 10) → E (some (.int (mI 1))) S) ∧ (∀ p a, OnD (mV S y 0) p → a < 10 → r = nI a → E (some (.int (rowV (mV S y 0) ((mV S y 0).g p) a q))) S)
  | _ => False
def Γ_X7_row : List (MI × PT) := [(mi_X7_isRow, P_X7_isRow), (mi_X7_in, P_X7_in), (mi_X7_longestWord, P_X7_longestWord), (mi_X7_spotOf, P_X7_spotOf), (mi_X7_isSo, P_X7_isSo), (mi_X7_flag, P_X7_flag)]
theorem hΓ_X7_row (l : Launch) (G : Gx) : ∀ q ∈ Γ_X7_row, Ct l G q.1 q.2 := List.forall_mem_cons.mpr ⟨ct_X7_isRow l G, List.forall_mem_cons.mpr ⟨ct_X7_in l G, List.forall_mem_cons.mpr ⟨ct_X7_longestWord l G, List.forall_mem_cons.mpr ⟨ct_X7_spotOf l G, List.forall_mem_cons.mpr ⟨ct_X7_isSo l G, List.forall_mem_cons.mpr ⟨ct_X7_flag l G, fun _ h => absurd h List.not_mem_nil⟩⟩⟩⟩⟩⟩
set_option maxHeartbeats 1000000 in
theorem lp_X7_row (l : Launch) (G : Gx) {S : SS} {y p r : Nat} {q : Int32} {E : Option Value → SS → Prop} (hD : DOK (mV S y 0)) (hp : PreM S y 0 p) (hd : OnD (mV S y 0) p) (hr : r < 10) (h : E (some (.int (colV (mV S y 0) (mG S y 0 p) r (wh q) 12))) S) :
    ∀ c, c ≤ 12 → V l G mi_X7_row E 59 [some (.ref y), some (.int (nI r)), some (.int q), some (.int (colV (mV S y 0) (mG S y 0 p) r (wh q) c)), some (.int (nI c))] [] S 0 0 := by
  refine loopUp 12 fun c hc ih => ?_
  refine (V.segN (Γ := Γ_X7_row) (hΓ_X7_row l G) so_X7_row 9 (sg := sg_X7_row_59) so_X7_row_59 ?_ : V l G mi_X7_row _ (segPc sg_X7_row_59) _ _ _ _ _)
  simp only [mL_X7_row, mT_X7_row, rc_X7_row, rs_X7_row, Γ_X7_row, sg_X7_row_0, sg_X7_row_19, sg_X7_row_21, sg_X7_row_36, sg_X7_row_54, sg_X7_row_59, sg_X7_row_99, wn_X7_row_0, wn_X7_row_19, wn_X7_row_21, wn_X7_row_36, wn_X7_row_54, wn_X7_row_59, wn_X7_row_99, wp_c, ex_c, x_nop, x_goto, x_table, x_iinc, x_ldc, x_ldc2, x_iaload, x_faload, x_baload, x_caload, x_iastore, x_fastore, x_bastore, x_castore, x_aastore, x_alen, x_gets, x_new, x_newa, x_anew, x_invs, x_invi, x_invv, x_ret, x_iret, x_lret, x_fret, x_aret, x_lconst, x_fconst0, x_fconst1, x_fconst2, x_dconst0, x_dconst1, x_null, x_iadd, x_isub, x_imul, x_iand, x_ior, x_idiv, x_irem, x_ineg, x_ishl, x_ishr, x_land, x_lor, x_lushr, x_lshl, x_lcmp, x_i2l, x_l2i, x_i2c, x_i2f, x_f2d, x_d2i, x_d2l, x_fadd, x_fsub, x_fmul, x_fdiv, x_dadd, x_dsub, x_dmul, x_ddiv, x_fcmp, x_dcmp, x_dupI, x_dupR, x_dup2, x_popI, x_popR, ldP_I, ldP_L, ldP_F, ldP_D, ldP_R, ldP_N, x_iload, x_iload_n, x_lload, x_lload_n, x_fload, x_fload_n, x_dload, x_dload_n, x_aload, x_aload_n, x_istore, x_istore_n, x_lstore, x_lstore_n, x_fstore, x_fstore_n, x_dstore, x_dstore_n, x_astore, x_astore_n, x_astoreN, x_astore_nN, x_icmp_eq, x_icmp_ne, x_icmp_lt, x_icmp_ge, x_icmp_gt, x_icmp_le, x_if_eq, x_if_ne, x_if_lt, x_if_ge, x_if_gt, x_if_le, x_ifnull, x_ifnullR, x_ifnn, x_ifnnR, x_aaload2, x_cpI, x_cpF, x_bF, x_bD, x_oI, xk_bipush_120, xk_iconst_0, xk_bipush_m6, xk_iconst_1, xk_bipush_80, xk_bipush_48, xk_bipush_57, xk_bipush_10, xk_bipush_64, xk_bipush_46, xk_bipush_97, xk_bipush_122, xk_bipush_119, xk_bipush_61, xk_bipush_59, xk_bipush_8, xk_bipush_33, xk_bipush_126, xk_bipush_m2, xk_bipush_m4, xk_iconst_4, xk_bipush_6, xk_iconst_2, xk_bipush_40, xk_iconst_3, xk_iconst_5, xk_iconst_m1, xk_bipush_m5, xk_bipush_12, xk_bipush_100, xk_bipush_26, xk_sipush_9999, xk_sipush_500, xk_bipush_7, xk_bipush_m126, xk_bipush_127, xk_bipush_23, xk_sipush_m1022, xk_sipush_1023, xk_bipush_52, xk_bipush_m3, xk_sipush_9830, xk_sipush_4800, xk_sipush_983, xk_sipush_480, xk_bipush_13, xk_bipush_18, xk_bipush_9, xk_bipush_32, xg_0_0, xp_0_0, xg_0_1, xp_0_1, xg_0_2, xp_0_2, xg_0_3, xp_0_3, xg_0_4, xp_0_4, xg_0_5, xp_0_5, xg_0_6, xp_0_6, xg_0_7, xp_0_7, xg_0_8, xp_0_8, xg_1_0, xp_1_0, xg_1_1, xp_1_1, xg_1_2, xp_1_2, xg_1_3, xp_1_3, xg_2_0, xp_2_0, xg_2_1, xp_2_1, xg_2_2, xp_2_2, xg_3_0, xp_3_0, xg_3_1, xp_3_1, xg_3_2, xp_3_2, xg_3_3, xp_3_3, xg_3_4, xp_3_4, xg_3_5, xp_3_5, xg_3_6, xp_3_6, xg_3_7, xp_3_7, xg_3_8, xp_3_8, xg_3_9, xp_3_9, xg_3_10, xp_3_10, xg_3_11, xp_3_11, xg_4_0, xp_4_0, xg_4_1, xp_4_1, xg_5_0, xp_5_0, xg_5_1, xp_5_1, xg_6_0, xp_6_0, xg_6_1, xp_6_1, xg_6_2, xp_6_2, xg_6_3, xp_6_3, xg_6_4, xp_6_4, xg_6_5, xp_6_5, xg_7_0, xp_7_0, xg_7_1, xp_7_1, xg_7_2, xp_7_2, xg_7_3, xp_7_3, xg_7_4, xp_7_4, xg_7_5, xp_7_5, xg_7_6, xp_7_6, xg_7_7, xp_7_7, xg_7_8, xp_7_8, xg_7_9, xp_7_9, xg_7_10, xp_7_10, xg_7_11, xp_7_11, xg_7_12, xp_7_12, xg_7_13, xp_7_13, fv0, fv1, fv2, fv3, kI_0, kI_1, stL, wipeL, entLn, entL, List.getElem?_cons_zero, List.getElem?_cons_succ, List.getElem?_nil, List.set_cons_zero, List.set_cons_succ, List.set_nil, List.length_cons, List.length_nil, List.cons_append, List.nil_append, List.replicate, Nat.reduceAdd, Nat.reduceLeDiff, Nat.reduceSub, true_and, and_true, x_callS, x_callSN, x_callI, x_callIN, x_callV0, x_callV1, x_callV2, x_callV3, x_callV4, x_callV5, x_callV6, x_callV7, callP, List.take_succ_cons, List.take_zero, List.take_nil, List.drop_succ_cons, List.drop_zero, List.drop_nil, List.getLast?_singleton, List.getLast?_cons_cons, Option.some.injEq, Value.ref.injEq, exists_eq_left, exists_eq_left', Nat.zero_le, Nat.add_zero, ldcV_f, ldcV_fn, ldcV_l, ldcV_d, Nat.reduceMul, Nat.le_refl, List.reverse_cons, List.reverse_nil, Option.toList, List.map_cons, List.map_nil, List.sum_cons, List.sum_nil, Value.category, tblW_n, tblW_c, Int.cast_ofNat_Int, Int.reduceAdd, Int.reduceToNat, ofI_n, rc_X7_isRow, rs_X7_isRow, P_X7_isRow, rc_X7_in, rs_X7_in, P_X7_in, rc_X7_longestWord, rs_X7_longestWord, P_X7_longestWord, rc_X7_spotOf, rs_X7_spotOf, P_X7_spotOf, rc_X7_isSo, rs_X7_isSo, P_X7_isSo, rc_X7_flag, rs_X7_flag, P_X7_flag]
  have hp4 := hp.2.2.1
  have hM := hp.1
  have edk : sI S (y + 1) 6 = nI p := hd.1
  obtain ⟨m0, m1, m2, m3, m4, m5, m6, m7, m8, m9, m10⟩ := hM
  simp only [m0, m1, m2, m3, m4, m5, m6, m7, m8, m9, m10, bI_0, ← nI_0, sK_stI, sR_stI, sK_stF, sR_stF, sK_stIA, sR_stIA, sK_stFA, sR_stFA, sI_stI, sI_stF, sI_stIA, sI_stFA, sF_stI, sF_stF, sF_stIA, sF_stFA, Nat.left_eq_add, Nat.add_eq_left, Nat.add_left_cancel_iff, Nat.reduceEqDiff, Nat.reduceEqDiff, Nat.succ_ne_self, false_and, and_false, if_false, if_true, nI_succ_sub, Option.some.injEq, Prod.mk.injEq, exists_eq_left', true_and, and_true, retI, retF, retV, retZ1, retZ0, retL, retA, retN, Nat.reduceAdd, Nat.reduceMul, Nat.reduceLT]
  have ek : c < 12 → kP (nI r) (nI c) = r * 12 + c := fun a => kP_n hr a
  refine ⟨fun a => ?_, fun a => ?_⟩
  · simp (disch := omega) only [nlt0, nge0, neq0, ngt0, nle0, nI_ltI, nI_leI, nI_eq, nI_cl, in_nI, false_implies, true_implies, not_false_eq_true, not_true_eq_false, and_true, true_and, nI_add, pk_mul, implies_true, not_lt0] at a
    have e : c = 12 := by omega
    subst e
    exact h
  · simp (disch := omega) only [nlt0, nge0, neq0, ngt0, nle0, nI_ltI, nI_leI, nI_eq, nI_cl, in_nI, false_implies, true_implies, not_false_eq_true, not_true_eq_false, and_true, true_and, nI_add, pk_mul, implies_true, not_lt0] at a
    have ek := ek (by omega)
    rw [ek]
    simp (disch := omega) only [nlt0, nge0, neq0, ngt0, nle0, nI_ltI, nI_leI, nI_eq, nI_cl, in_nI, false_implies, true_implies, not_false_eq_true, not_true_eq_false, and_true, true_and, nI_add, pk_mul, implies_true, not_lt0, edk, hp, bI_n0]
    have ih := ih (by omega)
    unfold colV at ih ⊢
    rw [setB_s] at ih
    have hPl : Pl (nI r) (nI c) := ⟨nI_pos' (by omega), nI_lt hr (by omega), nI_pos' (by omega), nI_lt (by omega) (by omega)⟩
    refine ⟨by omega, hPl, hp4, by omega, fun c2 => ?_, fun c2 => ?_⟩
    · rw [if_neg c2] at ih
      have ez : ∀ x y : Int32, x ||| nI 0 <<< y = x := fun x y => by
        rw [nI_0]
        simp
      rw [ez]
      exact ih
    · rw [if_pos (Decidable.not_not.mp c2)] at ih
      exact ih
set_option maxHeartbeats 2000000 in
theorem ct_X7_row (l : Launch) (G : Gx) : Ct l G mi_X7_row P_X7_row := by
  refine Ct.ofV mo_X7_row (fun as S E h => ?_)
  unfold P_X7_row at h
  split at h
  case h_2 => exact h.elim
  rename_i y r q
  refine ⟨by simp [entL, mL_X7_row], ?_⟩
  refine wpN_ok (Γ := Γ_X7_row) (hΓ_X7_row l G) so_X7_row 9 _ _ _ _ _ _ ?_
  simp only [mL_X7_row, mT_X7_row, rc_X7_row, rs_X7_row, Γ_X7_row, sg_X7_row_0, sg_X7_row_19, sg_X7_row_21, sg_X7_row_36, sg_X7_row_54, sg_X7_row_59, sg_X7_row_99, wn_X7_row_0, wn_X7_row_19, wn_X7_row_21, wn_X7_row_36, wn_X7_row_54, wn_X7_row_59, wn_X7_row_99, wp_c, ex_c, x_nop, x_goto, x_table, x_iinc, x_ldc, x_ldc2, x_iaload, x_faload, x_baload, x_caload, x_iastore, x_fastore, x_bastore, x_castore, x_aastore, x_alen, x_gets, x_new, x_newa, x_anew, x_invs, x_invi, x_invv, x_ret, x_iret, x_lret, x_fret, x_aret, x_lconst, x_fconst0, x_fconst1, x_fconst2, x_dconst0, x_dconst1, x_null, x_iadd, x_isub, x_imul, x_iand, x_ior, x_idiv, x_irem, x_ineg, x_ishl, x_ishr, x_land, x_lor, x_lushr, x_lshl, x_lcmp, x_i2l, x_l2i, x_i2c, x_i2f, x_f2d, x_d2i, x_d2l, x_fadd, x_fsub, x_fmul, x_fdiv, x_dadd, x_dsub, x_dmul, x_ddiv, x_fcmp, x_dcmp, x_dupI, x_dupR, x_dup2, x_popI, x_popR, ldP_I, ldP_L, ldP_F, ldP_D, ldP_R, ldP_N, x_iload, x_iload_n, x_lload, x_lload_n, x_fload, x_fload_n, x_dload, x_dload_n, x_aload, x_aload_n, x_istore, x_istore_n, x_lstore, x_lstore_n, x_fstore, x_fstore_n, x_dstore, x_dstore_n, x_astore, x_astore_n, x_astoreN, x_astore_nN, x_icmp_eq, x_icmp_ne, x_icmp_lt, x_icmp_ge, x_icmp_gt, x_icmp_le, x_if_eq, x_if_ne, x_if_lt, x_if_ge, x_if_gt, x_if_le, x_ifnull, x_ifnullR, x_ifnn, x_ifnnR, x_aaload2, x_cpI, x_cpF, x_bF, x_bD, x_oI, xk_bipush_120, xk_iconst_0, xk_bipush_m6, xk_iconst_1, xk_bipush_80, xk_bipush_48, xk_bipush_57, xk_bipush_10, xk_bipush_64, xk_bipush_46, xk_bipush_97, xk_bipush_122, xk_bipush_119, xk_bipush_61, xk_bipush_59, xk_bipush_8, xk_bipush_33, xk_bipush_126, xk_bipush_m2, xk_bipush_m4, xk_iconst_4, xk_bipush_6, xk_iconst_2, xk_bipush_40, xk_iconst_3, xk_iconst_5, xk_iconst_m1, xk_bipush_m5, xk_bipush_12, xk_bipush_100, xk_bipush_26, xk_sipush_9999, xk_sipush_500, xk_bipush_7, xk_bipush_m126, xk_bipush_127, xk_bipush_23, xk_sipush_m1022, xk_sipush_1023, xk_bipush_52, xk_bipush_m3, xk_sipush_9830, xk_sipush_4800, xk_sipush_983, xk_sipush_480, xk_bipush_13, xk_bipush_18, xk_bipush_9, xk_bipush_32, xg_0_0, xp_0_0, xg_0_1, xp_0_1, xg_0_2, xp_0_2, xg_0_3, xp_0_3, xg_0_4, xp_0_4, xg_0_5, xp_0_5, xg_0_6, xp_0_6, xg_0_7, xp_0_7, xg_0_8, xp_0_8, xg_1_0, xp_1_0, xg_1_1, xp_1_1, xg_1_2, xp_1_2, xg_1_3, xp_1_3, xg_2_0, xp_2_0, xg_2_1, xp_2_1, xg_2_2, xp_2_2, xg_3_0, xp_3_0, xg_3_1, xp_3_1, xg_3_2, xp_3_2, xg_3_3, xp_3_3, xg_3_4, xp_3_4, xg_3_5, xp_3_5, xg_3_6, xp_3_6, xg_3_7, xp_3_7, xg_3_8, xp_3_8, xg_3_9, xp_3_9, xg_3_10, xp_3_10, xg_3_11, xp_3_11, xg_4_0, xp_4_0, xg_4_1, xp_4_1, xg_5_0, xp_5_0, xg_5_1, xp_5_1, xg_6_0, xp_6_0, xg_6_1, xp_6_1, xg_6_2, xp_6_2, xg_6_3, xp_6_3, xg_6_4, xp_6_4, xg_6_5, xp_6_5, xg_7_0, xp_7_0, xg_7_1, xp_7_1, xg_7_2, xp_7_2, xg_7_3, xp_7_3, xg_7_4, xp_7_4, xg_7_5, xp_7_5, xg_7_6, xp_7_6, xg_7_7, xp_7_7, xg_7_8, xp_7_8, xg_7_9, xp_7_9, xg_7_10, xp_7_10, xg_7_11, xp_7_11, xg_7_12, xp_7_12, xg_7_13, xp_7_13, fv0, fv1, fv2, fv3, kI_0, kI_1, stL, wipeL, entLn, entL, List.getElem?_cons_zero, List.getElem?_cons_succ, List.getElem?_nil, List.set_cons_zero, List.set_cons_succ, List.set_nil, List.length_cons, List.length_nil, List.cons_append, List.nil_append, List.replicate, Nat.reduceAdd, Nat.reduceLeDiff, Nat.reduceSub, true_and, and_true, x_callS, x_callSN, x_callI, x_callIN, x_callV0, x_callV1, x_callV2, x_callV3, x_callV4, x_callV5, x_callV6, x_callV7, callP, List.take_succ_cons, List.take_zero, List.take_nil, List.drop_succ_cons, List.drop_zero, List.drop_nil, List.getLast?_singleton, List.getLast?_cons_cons, Option.some.injEq, Value.ref.injEq, exists_eq_left, exists_eq_left', Nat.zero_le, Nat.add_zero, ldcV_f, ldcV_fn, ldcV_l, ldcV_d, Nat.reduceMul, Nat.le_refl, List.reverse_cons, List.reverse_nil, Option.toList, List.map_cons, List.map_nil, List.sum_cons, List.sum_nil, Value.category, tblW_n, tblW_c, Int.cast_ofNat_Int, Int.reduceAdd, Int.reduceToNat, ofI_n, rc_X7_isRow, rs_X7_isRow, P_X7_isRow, rc_X7_in, rs_X7_in, P_X7_in, rc_X7_longestWord, rs_X7_longestWord, P_X7_longestWord, rc_X7_spotOf, rs_X7_spotOf, P_X7_spotOf, rc_X7_isSo, rs_X7_isSo, P_X7_isSo, rc_X7_flag, rs_X7_flag, P_X7_flag]
  obtain ⟨hM, hD, h1, h2⟩ := h
  have hM0 := hM
  obtain ⟨m0, m1, m2, m3, m4, m5, m6, m7, m8, m9, m10⟩ := hM
  simp only [m0, m1, m2, m3, m4, m5, m6, m7, m8, m9, m10, hM0, bI_0, sK_stI, sR_stI, sK_stF, sR_stF, sK_stIA, sR_stIA, sK_stFA, sR_stFA, sI_stI, sI_stF, sI_stIA, sI_stFA, sF_stI, sF_stF, sF_stIA, sF_stFA, Nat.left_eq_add, Nat.add_eq_left, Nat.add_left_cancel_iff, Nat.reduceEqDiff, Nat.reduceEqDiff, Nat.succ_ne_self, false_and, and_false, if_false, if_true, nI_succ_sub, Option.some.injEq, Prod.mk.injEq, exists_eq_left', true_and, and_true, retI, retF, retV, retZ1, retZ0, retL, retA, retN, Nat.reduceAdd, Nat.reduceMul, Nat.reduceLT]
  simp (disch := omega) only [nlt0, nge0, neq0, ngt0, nle0, nI_ltI, nI_leI, nI_eq, nI_cl, in_nI, false_implies, true_implies, not_false_eq_true, not_true_eq_false, and_true, true_and, nI_add, pk_mul, implies_true, not_lt0, mV_dk, lc0, lc1, n_i64le, i64n_le, i64le, le_9, le_11, le_25, nI0_le, retZb, true_and, and_true]
  refine ⟨by omega, fun c => h1 (Or.inl c), fun c => ⟨fun c1 => ?_, fun c1 => h1 (Or.inr (Decidable.not_not.mp c1))⟩⟩
  have c1 := Decidable.not_not.mp c1
  obtain ⟨p, hp⟩ := (OnD_or hD).resolve_left c
  obtain ⟨rn, hr, rfl⟩ := vp_in_of ((in_cmp (n := 10) (by omega)).mpr c1) (by omega)
  have h2 := h2 p rn hp hr rfl
  have hp4 := hp.2.1
  have edk := hp.1
  have hG := hD.2.2.2.2 p hp.2.2 hp4
  have hP : PreM S y 0 p := ⟨hM0, by omega, hp4, hD.1, hG⟩
  have eg : (mV S y 0).g p = mG S y 0 p := rfl
  rw [eg] at h2
  simp only [edk]
  simp (disch := omega) only [nlt0, nge0, neq0, ngt0, nle0, nI_ltI, nI_leI, nI_eq, nI_cl, in_nI, false_implies, true_implies, not_false_eq_true, not_true_eq_false, and_true, true_and, nI_add, pk_mul, implies_true, not_lt0, hP]
  unfold rowV at h2
  by_cases c2 : (0 ≤ q ∧ q ≤ nI 4)
  · obtain ⟨qn, hq, rfl⟩ := vp_in_of ((in_cmp (n := 5) (by omega)).mpr ⟨c2.1, Int32.lt_of_le_of_lt c2.2 (by decide)⟩) (by omega)
    simp only [c2, not_true_eq_false, not_false_eq_true, true_implies, false_implies, true_and, and_true]
    simp (disch := omega) only [nlt0, nge0, neq0, ngt0, nle0, nI_ltI, nI_leI, nI_eq, nI_cl, in_nI, false_implies, true_implies, not_false_eq_true, not_true_eq_false, and_true, true_and, nI_add, pk_mul, implies_true, not_lt0]
    simp (disch := omega) only [nI_eq] at h2
    refine ⟨fun c3 => ?_, fun c3 => ⟨by omega, hp4, hr, ?_⟩⟩
    · rw [if_neg c3, if_pos (by omega)] at h2
      exact lp_X7_row l G hD hP hp hr h2 0 (by omega)
    · rw [if_pos (by omega)] at h2
      exact h2
  · simp only [c2, not_true_eq_false, not_false_eq_true, true_implies, false_implies, true_and, and_true]
    have no : ∀ k, k ≤ 4 → ¬ q = nI k := fun k hk e => c2 (by rw [e]; exact ⟨nI_pos' (by omega), nI_le hk (by omega)⟩)
    rw [if_neg (no 4 (by omega)), if_neg (fun a => a.elim (no 0 (by omega)) fun a => a.elim (no 1 (by omega)) fun a => a.elim (no 2 (by omega)) (no 3 (by omega)))] at h2
    exact h2
