-- needs: 66.mall 45.init
/-! the reference made -/
def New7 (S : SS) (y : Nat) : Prop := ModAt S y ∧ (∀ j, sI S y j = 0) ∧ (∀ j, sI S (y + 1) j = if j = 0 then nI 6 else if j = 1 then nI 2 else if j = 2 then nI 40 else if j = 3 then nI 10 else if j = 6 then mI 6 else 0) ∧ ∀ j, sI S (y + 3) j = 0
def P_X7_init (as : List Value) (S : SS) (E : Option Value → SS → Prop) : Prop := match as with
  | [.ref y] => sK S y = some (7, 0) ∧ sZ S = y + 1 ∧ (∀ j, sI S y j = 0) ∧ ∀ S', Gw S S' y (y + 6) → New7 S' y → E none S'
  | _ => False
def Γ_X7_init : List (MI × PT) := []
theorem hΓ_X7_init (l : Launch) (G : Gx) : ∀ q ∈ Γ_X7_init, Ct l G q.1 q.2 := fun _ h => absurd h List.not_mem_nil
set_option maxHeartbeats 1000000 in
theorem ct_X7_init (l : Launch) (G : Gx) : Ct l G mi_X7_init P_X7_init := by
  refine Ct.ofV mo_X7_init (fun as S E h => ?_)
  unfold P_X7_init at h
  split at h
  case h_2 => exact h.elim
  rename_i y
  refine ⟨by simp [entL, mL_X7_init], ?_⟩
  refine wpN_ok (Γ := Γ_X7_init) (hΓ_X7_init l G) so_X7_init 4 _ _ _ _ _ _ ?_
  simp only [mL_X7_init, mT_X7_init, rc_X7_init, rs_X7_init, Γ_X7_init, sg_X7_init_0, wn_X7_init_0, wp_c, ex_c, x_nop, x_goto, x_table, x_iinc, x_ldc, x_ldc2, x_iaload, x_faload, x_baload, x_caload, x_iastore, x_fastore, x_bastore, x_castore, x_aastore, x_alen, x_gets, x_new, x_newa, x_anew, x_invs, x_invi, x_invv, x_ret, x_iret, x_lret, x_fret, x_aret, x_lconst, x_fconst0, x_fconst1, x_fconst2, x_dconst0, x_dconst1, x_null, x_iadd, x_isub, x_imul, x_iand, x_ior, x_idiv, x_irem, x_ineg, x_ishl, x_ishr, x_land, x_lor, x_lushr, x_lshl, x_lcmp, x_i2l, x_l2i, x_i2c, x_i2f, x_f2d, x_d2i, x_d2l, x_fadd, x_fsub, x_fmul, x_fdiv, x_dadd, x_dsub, x_dmul, x_ddiv, x_fcmp, x_dcmp, x_dupI, x_dupR, x_dup2, x_popI, x_popR, ldP_I, ldP_L, ldP_F, ldP_D, ldP_R, ldP_N, x_iload, x_iload_n, x_lload, x_lload_n, x_fload, x_fload_n, x_dload, x_dload_n, x_aload, x_aload_n, x_istore, x_istore_n, x_lstore, x_lstore_n, x_fstore, x_fstore_n, x_dstore, x_dstore_n, x_astore, x_astore_n, x_astoreN, x_astore_nN, x_icmp_eq, x_icmp_ne, x_icmp_lt, x_icmp_ge, x_icmp_gt, x_icmp_le, x_if_eq, x_if_ne, x_if_lt, x_if_ge, x_if_gt, x_if_le, x_ifnull, x_ifnullR, x_ifnn, x_ifnnR, x_aaload2, x_cpI, x_cpF, x_bF, x_bD, x_oI, xk_bipush_120, xk_iconst_0, xk_bipush_m6, xk_iconst_1, xk_bipush_80, xk_bipush_48, xk_bipush_57, xk_bipush_10, xk_bipush_64, xk_bipush_46, xk_bipush_97, xk_bipush_122, xk_bipush_119, xk_bipush_61, xk_bipush_59, xk_bipush_8, xk_bipush_33, xk_bipush_126, xk_bipush_m2, xk_bipush_m4, xk_iconst_4, xk_bipush_6, xk_iconst_2, xk_bipush_40, xk_iconst_3, xk_iconst_5, xk_iconst_m1, xk_bipush_m5, xk_bipush_12, xk_bipush_100, xk_bipush_26, xk_sipush_9999, xk_sipush_500, xk_bipush_7, xk_bipush_m126, xk_bipush_127, xk_bipush_23, xk_sipush_m1022, xk_sipush_1023, xk_bipush_52, xk_bipush_m3, xk_sipush_9830, xk_sipush_4800, xk_sipush_983, xk_sipush_480, xk_bipush_13, xk_bipush_18, xk_bipush_9, xk_bipush_32, xg_0_0, xp_0_0, xg_0_1, xp_0_1, xg_0_2, xp_0_2, xg_0_3, xp_0_3, xg_0_4, xp_0_4, xg_0_5, xp_0_5, xg_0_6, xp_0_6, xg_0_7, xp_0_7, xg_0_8, xp_0_8, xg_1_0, xp_1_0, xg_1_1, xp_1_1, xg_1_2, xp_1_2, xg_1_3, xp_1_3, xg_2_0, xp_2_0, xg_2_1, xp_2_1, xg_2_2, xp_2_2, xg_3_0, xp_3_0, xg_3_1, xp_3_1, xg_3_2, xp_3_2, xg_3_3, xp_3_3, xg_3_4, xp_3_4, xg_3_5, xp_3_5, xg_3_6, xp_3_6, xg_3_7, xp_3_7, xg_3_8, xp_3_8, xg_3_9, xp_3_9, xg_3_10, xp_3_10, xg_3_11, xp_3_11, xg_4_0, xp_4_0, xg_4_1, xp_4_1, xg_5_0, xp_5_0, xg_5_1, xp_5_1, xg_6_0, xp_6_0, xg_6_1, xp_6_1, xg_6_2, xp_6_2, xg_6_3, xp_6_3, xg_6_4, xp_6_4, xg_6_5, xp_6_5, xg_7_0, xp_7_0, xg_7_1, xp_7_1, xg_7_2, xp_7_2, xg_7_3, xp_7_3, xg_7_4, xp_7_4, xg_7_5, xp_7_5, xg_7_6, xp_7_6, xg_7_7, xp_7_7, xg_7_8, xp_7_8, xg_7_9, xp_7_9, xg_7_10, xp_7_10, xg_7_11, xp_7_11, xg_7_12, xp_7_12, xg_7_13, xp_7_13, fv0, fv1, fv2, fv3, kI_0, kI_1, stL, wipeL, entLn, entL, List.getElem?_cons_zero, List.getElem?_cons_succ, List.getElem?_nil, List.set_cons_zero, List.set_cons_succ, List.set_nil, List.length_cons, List.length_nil, List.cons_append, List.nil_append, List.replicate, Nat.reduceAdd, Nat.reduceLeDiff, Nat.reduceSub, true_and, and_true, x_callS, x_callSN, x_callI, x_callIN, x_callV0, x_callV1, x_callV2, x_callV3, x_callV4, x_callV5, x_callV6, x_callV7, callP, List.take_succ_cons, List.take_zero, List.take_nil, List.drop_succ_cons, List.drop_zero, List.drop_nil, List.getLast?_singleton, List.getLast?_cons_cons, Option.some.injEq, Value.ref.injEq, exists_eq_left, exists_eq_left', Nat.zero_le, Nat.add_zero, ldcV_f, ldcV_fn, ldcV_l, ldcV_d, Nat.reduceMul, Nat.le_refl, List.reverse_cons, List.reverse_nil, Option.toList, List.map_cons, List.map_nil, List.sum_cons, List.sum_nil, Value.category, tblW_n, tblW_c, Int.cast_ofNat_Int, Int.reduceAdd, Int.reduceToNat, ofI_n]
  obtain ⟨h1, h2, h3, h⟩ := h
  simp only [h1, h2, sK_stI, sR_stI, sK_stF, sR_stF, sK_stIA, sR_stIA, sK_stFA, sR_stFA, sI_stI, sI_stF, sI_stIA, sI_stFA, sF_stI, sF_stF, sF_stIA, sF_stFA, Nat.left_eq_add, Nat.add_eq_left, Nat.add_left_cancel_iff, Nat.reduceEqDiff, Nat.reduceEqDiff, Nat.succ_ne_self, false_and, and_false, if_false, if_true, nI_succ_sub, Option.some.injEq, Prod.mk.injEq, exists_eq_left', true_and, and_true, retI, retF, retV, retZ1, retZ0, retL, retA, retN, Nat.reduceAdd, Nat.reduceMul, Nat.reduceLT]
  simp only [h1, h2, sK_stN, sR_stN, sI_stN, sF_stN, sZ_stN, sK_stR, sZ_stR, sI_stR, sF_stR, sR_stR, sK_stI, sR_stI, sI_stI, sF_stI, sZ_stI, Nat.add_assoc, Nat.reduceAdd, Nat.left_eq_add, Nat.add_eq_left, Nat.add_left_cancel_iff, Nat.reduceEqDiff, Nat.succ_ne_self, if_true, if_false, false_and, and_false, true_and, and_true, Option.some.injEq, Prod.mk.injEq, exists_eq_left']
  simp (disch := omega) only [nlt0, nge0, neq0, ngt0, nle0, nI_ltI, nI_leI, nI_eq, nI_cl, in_nI, false_implies, true_implies, not_false_eq_true, not_true_eq_false, and_true, true_and, nI_add, pk_mul, implies_true, not_lt0]
  refine ⟨by omega, by omega, by omega, by omega, by omega, by omega, by omega, by omega, by omega, by omega, by omega, by omega, by omega, by omega, by omega, h _ ?_ ?_, by omega⟩
  · have e : Gw S S y (y + 1) := ⟨h2, fun _ _ => ⟨rfl, rfl, rfl, rfl⟩⟩
    exact ((((((((((((((e.stN _ _ (by omega)).stR _ _ _ (by omega)).stN _ _ (by omega)).stR _ _ _ (by omega)).stN _ _ (by omega)).stR _ _ _ (by omega)).stN _ _ (by omega)).stR _ _ _ (by omega)).stN _ _ (by omega)).stR _ _ _ (by omega)).stI _ _ _ (by omega)).stI _ _ _ (by omega)).stI _ _ _ (by omega)).stI _ _ _ (by omega)).stI _ _ _ (by omega)
  · refine ⟨?_, fun j => ?_, fun j => ?_, fun j => ?_⟩
    · unfold ModAt
      simp only [h1, h2, sK_stN, sR_stN, sI_stN, sF_stN, sZ_stN, sK_stR, sZ_stR, sI_stR, sF_stR, sR_stR, sK_stI, sR_stI, sI_stI, sF_stI, sZ_stI, Nat.add_assoc, Nat.reduceAdd, Nat.left_eq_add, Nat.add_eq_left, Nat.add_left_cancel_iff, Nat.reduceEqDiff, Nat.succ_ne_self, if_true, if_false, false_and, and_false, true_and, and_true, Option.some.injEq, Prod.mk.injEq, exists_eq_left']
    · simp only [sI_stI, sI_stR, sI_stN_a, zN, zR, zI, h2]
      simp [h3]
    · simp only [sI_stI, sI_stR, sI_stN_a, zN, zR, zI, h2]
      by_cases c0 : j = 0
      · simp [c0]
      · by_cases c1 : j = 1
        · simp [c1]
        · by_cases c2 : j = 2
          · simp [c2]
          · by_cases c3 : j = 3
            · simp [c3]
            · by_cases c6 : j = 6
              · simp [c6]
              · simp [c0, c1, c2, c3, c6]
    · simp only [sI_stI, sI_stR, sI_stN_a, zN, zR, zI, h2]
      simp
