/-! the law's small methods -/
def lowN (v : Int32) (k : Nat) : Nat := v.toUInt32.toNat % 2147483648 % k
theorem lowN_lt (v : Int32) {k : Nat} (h : 0 < k) : lowN v k < k := Nat.mod_lt _ h
theorem mask31 (v : Int32) : v &&& nI 2147483647 = nI (v.toUInt32.toNat % 2147483648) := by
  have e : nI 2147483647 = (2147483647 : UInt32).toInt32 := rfl
  have e2 : v = v.toUInt32.toInt32 := by simp
  rw [e]
  conv => lhs; rw [e2]
  rw [← UInt32.toInt32_and]
  have e3 : (v.toUInt32 &&& 2147483647) = UInt32.ofNat (v.toUInt32.toNat % 2147483648) := by
    rw [← UInt32.toNat_inj, UInt32.toNat_and, UInt32.toNat_ofNat_of_lt' (by have := Nat.mod_lt v.toUInt32.toNat (show 0 < 2147483648 by omega); show v.toUInt32.toNat % 2147483648 < 2 ^ 32; omega)]
    exact Nat.and_two_pow_sub_one_eq_mod v.toUInt32.toNat 31
  rw [e3]
  rfl
theorem ldcV_i (x : Nat) : ldcV x 0 = .int (nI x) := rfl
def P_L_low (as : List Value) (S : SS) (E : Option Value → SS → Prop) : Prop := match as with
  | [.int v, .int n] => 0 < n.toNatClampNeg ∧ n = nI n.toNatClampNeg ∧ E (some (.int (nI (lowN v n.toNatClampNeg)))) S
  | _ => False
def Γ_L_low : List (MI × PT) := []
theorem hΓ_L_low (l : Launch) (G : Gx) : ∀ q ∈ Γ_L_low, Ct l G q.1 q.2 := fun _ h => absurd h List.not_mem_nil
set_option maxHeartbeats 1000000 in
theorem ct_L_low (l : Launch) (G : Gx) : Ct l G mi_L_low P_L_low := by
  refine Ct.ofV mo_L_low (fun as S E h => ?_)
  unfold P_L_low at h
  split at h
  case h_2 => exact h.elim
  rename_i v n
  refine ⟨by simp [entL, mL_L_low], ?_⟩
  refine wpN_ok (Γ := Γ_L_low) (hΓ_L_low l G) so_L_low 3 _ _ _ _ _ _ ?_
  simp only [mL_L_low, mT_L_low, rc_L_low, rs_L_low, Γ_L_low, sg_L_low_0, wn_L_low_0, wp_c, ex_c, x_nop, x_goto, x_table, x_iinc, x_ldc, x_ldc2, x_iaload, x_faload, x_baload, x_caload, x_iastore, x_fastore, x_bastore, x_castore, x_aastore, x_alen, x_gets, x_new, x_newa, x_anew, x_invs, x_invi, x_invv, x_ret, x_iret, x_lret, x_fret, x_aret, x_lconst, x_fconst0, x_fconst1, x_fconst2, x_dconst0, x_dconst1, x_null, x_iadd, x_isub, x_imul, x_iand, x_ior, x_idiv, x_irem, x_ineg, x_ishl, x_ishr, x_land, x_ladd, x_lmul, x_lor, x_lushr, x_lshl, x_lcmp, x_i2l, x_l2i, x_i2c, x_i2f, x_f2d, x_d2i, x_d2l, x_fadd, x_fsub, x_fmul, x_fdiv, x_dadd, x_dsub, x_dmul, x_ddiv, x_fcmp, x_dcmp, x_dupI, x_dupR, x_dup2, x_popI, x_popR, ldP_I, ldP_L, ldP_F, ldP_D, ldP_R, ldP_N, x_iload, x_iload_n, x_lload, x_lload_n, x_fload, x_fload_n, x_dload, x_dload_n, x_aload, x_aload_n, x_istore, x_istore_n, x_lstore, x_lstore_n, x_fstore, x_fstore_n, x_dstore, x_dstore_n, x_astore, x_astore_n, x_astoreN, x_astore_nN, x_icmp_eq, x_icmp_ne, x_icmp_lt, x_icmp_ge, x_icmp_gt, x_icmp_le, x_if_eq, x_if_ne, x_if_lt, x_if_ge, x_if_gt, x_if_le, x_ifnull, x_ifnullR, x_ifnn, x_ifnnR, x_aaload2, x_cpI, x_cpF, x_oI, xk_bipush_120, xk_iconst_0, xk_bipush_m6, xk_iconst_1, xk_bipush_80, xk_iconst_4, xk_bipush_6, xk_iconst_2, xk_bipush_40, xk_iconst_3, xk_bipush_10, xk_iconst_5, xk_bipush_m2, xk_bipush_m4, xk_iconst_m1, xk_bipush_m5, xk_bipush_12, xk_bipush_100, xk_bipush_26, xk_bipush_48, xk_sipush_9999, xk_sipush_500, xk_bipush_7, xk_bipush_119, xk_bipush_m126, xk_bipush_127, xk_bipush_23, xk_sipush_m1022, xk_sipush_1023, xk_bipush_52, xg_0_0, xp_0_0, xg_0_1, xp_0_1, xg_0_2, xp_0_2, xg_0_3, xp_0_3, xg_0_4, xp_0_4, xg_0_5, xp_0_5, xg_0_6, xp_0_6, xg_0_7, xp_0_7, xg_0_8, xp_0_8, xg_1_0, xp_1_0, xg_1_1, xp_1_1, xg_1_2, xp_1_2, xg_1_3, xp_1_3, xg_2_0, xp_2_0, xg_2_1, xp_2_1, xg_2_2, xp_2_2, xg_3_0, xp_3_0, xg_3_1, xp_3_1, xg_3_2, xp_3_2, xg_3_3, xp_3_3, xg_3_4, xp_3_4, xg_3_5, xp_3_5, xg_3_6, xp_3_6, xg_3_7, xp_3_7, xg_3_8, xp_3_8, xg_3_9, xp_3_9, xg_3_10, xp_3_10, xg_3_11, xp_3_11, xg_4_0, xp_4_0, xg_4_1, xp_4_1, xg_5_0, xp_5_0, xg_5_1, xp_5_1, xg_6_0, xp_6_0, xg_6_1, xp_6_1, xg_6_2, xp_6_2, xg_6_3, xp_6_3, xg_6_4, xp_6_4, xg_6_5, xp_6_5, fv0, fv1, fv2, fv3, kI_0, kI_1, stL, wipeL, entLn, entL, List.getElem?_cons_zero, List.getElem?_cons_succ, List.getElem?_nil, List.set_cons_zero, List.set_cons_succ, List.set_nil, List.length_cons, List.length_nil, List.cons_append, List.nil_append, List.replicate, Nat.reduceAdd, Nat.reduceLeDiff, Nat.reduceSub, true_and, and_true, x_callS, x_callSN, x_callI, x_callIN, x_callV0, x_callV1, x_callV2, x_callV3, x_callV4, x_callV5, x_callV6, x_callV7, callP, List.take_succ_cons, List.take_zero, List.take_nil, List.drop_succ_cons, List.drop_zero, List.drop_nil, List.getLast?_singleton, List.getLast?_cons_cons, Option.some.injEq, Value.ref.injEq, exists_eq_left, exists_eq_left', Nat.zero_le, Nat.add_zero, ldcV_f, ldcV_fn, ldcV_l, ldcV_d, Nat.reduceMul, Nat.le_refl, List.reverse_cons, List.reverse_nil, Option.toList, List.map_cons, List.map_nil, List.sum_cons, List.sum_nil, Value.category, tblW_n, tblW_c, Int.cast_ofNat_Int, Int.reduceAdd, Int.reduceToNat, ofI_n, ldcV_i, xk_bipush_9, xk_bipush_11, xk_bipush_19, xk_bipush_99, xk_bipush_51, xk_bipush_8]
  obtain ⟨h0, en, h⟩ := h
  have hn : n.toNatClampNeg < 2 ^ 31 := Int32.toNatClampNeg_lt n
  obtain ⟨k, ek⟩ : ∃ k, k = n.toNatClampNeg := ⟨_, rfl⟩
  rw [← ek] at h0 en h hn
  subst en
  have hm := Nat.mod_lt v.toUInt32.toNat (show 0 < 2147483648 by omega)
  rw [mask31, pk_rem (by omega) h0 (by omega), retI]
  refine ⟨fun q => ?_, trivial, h⟩
  rw [neq0 (by omega)] at q
  omega
theorem low_eq {S : SS} {E : Option Value → SS → Prop} {k : Nat} (v : Int32) (h0 : 0 < k) (hk : k < 2 ^ 31) : P_L_low [.int v, .int (nI k)] S E = E (some (.int (nI (lowN v k)))) S := by
  unfold P_L_low
  simp only
  rw [nI_cl hk]
  simp only [h0, true_and]
def P_L_cell (as : List Value) (S : SS) (E : Option Value → SS → Prop) : Prop := match as with
  | [.ref b, .int k] => ∃ n j, sK S b = some (16, n) ∧ n ≤ 1000 ∧ j < 1000 ∧ k = nI j ∧ ∀ v, E (some (.int v)) S
  | _ => False
def Γ_L_cell : List (MI × PT) := []
theorem hΓ_L_cell (l : Launch) (G : Gx) : ∀ q ∈ Γ_L_cell, Ct l G q.1 q.2 := fun _ h => absurd h List.not_mem_nil
set_option maxHeartbeats 1000000 in
theorem ct_L_cell (l : Launch) (G : Gx) : Ct l G mi_L_cell P_L_cell := by
  refine Ct.ofV mo_L_cell (fun as S E h => ?_)
  unfold P_L_cell at h
  split at h
  case h_2 => exact h.elim
  rename_i b k
  refine ⟨by simp [entL, mL_L_cell], ?_⟩
  refine wpN_ok (Γ := Γ_L_cell) (hΓ_L_cell l G) so_L_cell 3 _ _ _ _ _ _ ?_
  simp only [mL_L_cell, mT_L_cell, rc_L_cell, rs_L_cell, Γ_L_cell, sg_L_cell_0, sg_L_cell_12, sg_L_cell_21, wn_L_cell_0, wn_L_cell_12, wn_L_cell_21, wp_c, ex_c, x_nop, x_goto, x_table, x_iinc, x_ldc, x_ldc2, x_iaload, x_faload, x_baload, x_caload, x_iastore, x_fastore, x_bastore, x_castore, x_aastore, x_alen, x_gets, x_new, x_newa, x_anew, x_invs, x_invi, x_invv, x_ret, x_iret, x_lret, x_fret, x_aret, x_lconst, x_fconst0, x_fconst1, x_fconst2, x_dconst0, x_dconst1, x_null, x_iadd, x_isub, x_imul, x_iand, x_ior, x_idiv, x_irem, x_ineg, x_ishl, x_ishr, x_land, x_ladd, x_lmul, x_lor, x_lushr, x_lshl, x_lcmp, x_i2l, x_l2i, x_i2c, x_i2f, x_f2d, x_d2i, x_d2l, x_fadd, x_fsub, x_fmul, x_fdiv, x_dadd, x_dsub, x_dmul, x_ddiv, x_fcmp, x_dcmp, x_dupI, x_dupR, x_dup2, x_popI, x_popR, ldP_I, ldP_L, ldP_F, ldP_D, ldP_R, ldP_N, x_iload, x_iload_n, x_lload, x_lload_n, x_fload, x_fload_n, x_dload, x_dload_n, x_aload, x_aload_n, x_istore, x_istore_n, x_lstore, x_lstore_n, x_fstore, x_fstore_n, x_dstore, x_dstore_n, x_astore, x_astore_n, x_astoreN, x_astore_nN, x_icmp_eq, x_icmp_ne, x_icmp_lt, x_icmp_ge, x_icmp_gt, x_icmp_le, x_if_eq, x_if_ne, x_if_lt, x_if_ge, x_if_gt, x_if_le, x_ifnull, x_ifnullR, x_ifnn, x_ifnnR, x_aaload2, x_cpI, x_cpF, x_oI, xk_bipush_120, xk_iconst_0, xk_bipush_m6, xk_iconst_1, xk_bipush_80, xk_iconst_4, xk_bipush_6, xk_iconst_2, xk_bipush_40, xk_iconst_3, xk_bipush_10, xk_iconst_5, xk_bipush_m2, xk_bipush_m4, xk_iconst_m1, xk_bipush_m5, xk_bipush_12, xk_bipush_100, xk_bipush_26, xk_bipush_48, xk_sipush_9999, xk_sipush_500, xk_bipush_7, xk_bipush_119, xk_bipush_m126, xk_bipush_127, xk_bipush_23, xk_sipush_m1022, xk_sipush_1023, xk_bipush_52, xg_0_0, xp_0_0, xg_0_1, xp_0_1, xg_0_2, xp_0_2, xg_0_3, xp_0_3, xg_0_4, xp_0_4, xg_0_5, xp_0_5, xg_0_6, xp_0_6, xg_0_7, xp_0_7, xg_0_8, xp_0_8, xg_1_0, xp_1_0, xg_1_1, xp_1_1, xg_1_2, xp_1_2, xg_1_3, xp_1_3, xg_2_0, xp_2_0, xg_2_1, xp_2_1, xg_2_2, xp_2_2, xg_3_0, xp_3_0, xg_3_1, xp_3_1, xg_3_2, xp_3_2, xg_3_3, xp_3_3, xg_3_4, xp_3_4, xg_3_5, xp_3_5, xg_3_6, xp_3_6, xg_3_7, xp_3_7, xg_3_8, xp_3_8, xg_3_9, xp_3_9, xg_3_10, xp_3_10, xg_3_11, xp_3_11, xg_4_0, xp_4_0, xg_4_1, xp_4_1, xg_5_0, xp_5_0, xg_5_1, xp_5_1, xg_6_0, xp_6_0, xg_6_1, xp_6_1, xg_6_2, xp_6_2, xg_6_3, xp_6_3, xg_6_4, xp_6_4, xg_6_5, xp_6_5, fv0, fv1, fv2, fv3, kI_0, kI_1, stL, wipeL, entLn, entL, List.getElem?_cons_zero, List.getElem?_cons_succ, List.getElem?_nil, List.set_cons_zero, List.set_cons_succ, List.set_nil, List.length_cons, List.length_nil, List.cons_append, List.nil_append, List.replicate, Nat.reduceAdd, Nat.reduceLeDiff, Nat.reduceSub, true_and, and_true, x_callS, x_callSN, x_callI, x_callIN, x_callV0, x_callV1, x_callV2, x_callV3, x_callV4, x_callV5, x_callV6, x_callV7, callP, List.take_succ_cons, List.take_zero, List.take_nil, List.drop_succ_cons, List.drop_zero, List.drop_nil, List.getLast?_singleton, List.getLast?_cons_cons, Option.some.injEq, Value.ref.injEq, exists_eq_left, exists_eq_left', Nat.zero_le, Nat.add_zero, ldcV_f, ldcV_fn, ldcV_l, ldcV_d, Nat.reduceMul, Nat.le_refl, List.reverse_cons, List.reverse_nil, Option.toList, List.map_cons, List.map_nil, List.sum_cons, List.sum_nil, Value.category, tblW_n, tblW_c, Int.cast_ofNat_Int, Int.reduceAdd, Int.reduceToNat, ofI_n, ldcV_i, xk_bipush_9, xk_bipush_11, xk_bipush_19, xk_bipush_99, xk_bipush_51, xk_bipush_8]
  obtain ⟨n, j, hb, hn, hj, rfl, h⟩ := h
  simp only [hb, retI, sK_stI, sR_stI, sK_stF, sR_stF, sK_stIA, sR_stIA, sK_stFA, sR_stFA, sI_stI, sI_stF, sI_stIA, sI_stFA, sF_stI, sF_stF, sF_stIA, sF_stFA, Nat.left_eq_add, Nat.add_eq_left, Nat.add_left_cancel_iff, Nat.reduceEqDiff, Nat.reduceEqDiff, Nat.succ_ne_self, false_and, and_false, if_false, if_true, nI_succ_sub, Option.some.injEq, Prod.mk.injEq, exists_eq_left', true_and, and_true, retI, retF, retV, retZ1, retZ0, retL, retA, retN, Nat.reduceAdd, Nat.reduceMul, Nat.reduceLT]
  simp (disch := omega) only [nlt0, nge0, neq0, ngt0, nle0, nI_ltI, nI_leI, nI_eq, nI_cl, in_nI, false_implies, true_implies, not_false_eq_true, not_true_eq_false, and_true, true_and, nI_add, pk_mul, implies_true, not_lt0]
  exact ⟨fun q => h _, fun q => ⟨by omega, h _⟩⟩
