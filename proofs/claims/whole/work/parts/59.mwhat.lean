-- needs: 58.mask
/-! what if: the reference -/
def P_X7_bestPlace (as : List Value) (S : SS) (E : Option Value → SS → Prop) : Prop := match as with
  | [.ref y] => ModAt S y ∧ DOK (mV S y 0) ∧ ((mV S y 0).dk = mI 6 → E (some (.int (mI 1))) S) ∧ (∀ p, OnD (mV S y 0) p → E (some (.int (bestV (mV S y 0) ((mV S y 0).g p) 120).1)) S)
  | _ => False
def Γ_X7_bestPlace : List (MI × PT) := [(mi_X7_best, P_X7_best)]
theorem hΓ_X7_bestPlace (l : Launch) (G : Gx) : ∀ q ∈ Γ_X7_bestPlace, Ct l G q.1 q.2 := List.forall_mem_cons.mpr ⟨ct_X7_best l G, fun _ h => absurd h List.not_mem_nil⟩
set_option maxHeartbeats 1000000 in
theorem ct_X7_bestPlace (l : Launch) (G : Gx) : Ct l G mi_X7_bestPlace P_X7_bestPlace := by
  refine Ct.ofV mo_X7_bestPlace (fun as S E h => ?_)
  unfold P_X7_bestPlace at h
  split at h
  case h_2 => exact h.elim
  rename_i y
  refine ⟨by simp [entL, mL_X7_bestPlace], ?_⟩
  refine wpN_ok (Γ := Γ_X7_bestPlace) (hΓ_X7_bestPlace l G) so_X7_bestPlace 9 _ _ _ _ _ _ ?_
  simp only [mL_X7_bestPlace, mT_X7_bestPlace, rc_X7_bestPlace, rs_X7_bestPlace, Γ_X7_bestPlace, sg_X7_bestPlace_0, sg_X7_bestPlace_16, sg_X7_bestPlace_28, wn_X7_bestPlace_0, wn_X7_bestPlace_16, wn_X7_bestPlace_28, wp_c, ex_c, x_nop, x_goto, x_table, x_iinc, x_ldc, x_ldc2, x_iaload, x_faload, x_baload, x_caload, x_iastore, x_fastore, x_bastore, x_castore, x_aastore, x_alen, x_gets, x_new, x_newa, x_anew, x_invs, x_invi, x_invv, x_ret, x_iret, x_lret, x_fret, x_aret, x_lconst, x_fconst0, x_fconst1, x_fconst2, x_dconst0, x_dconst1, x_null, x_iadd, x_isub, x_imul, x_iand, x_ior, x_idiv, x_irem, x_ineg, x_ishl, x_ishr, x_land, x_lor, x_lushr, x_lshl, x_lcmp, x_i2l, x_l2i, x_i2c, x_i2f, x_f2d, x_d2i, x_d2l, x_fadd, x_fsub, x_fmul, x_fdiv, x_dadd, x_dsub, x_dmul, x_ddiv, x_fcmp, x_dcmp, x_dupI, x_dupR, x_dup2, x_popI, x_popR, ldP_I, ldP_L, ldP_F, ldP_D, ldP_R, ldP_N, x_iload, x_iload_n, x_lload, x_lload_n, x_fload, x_fload_n, x_dload, x_dload_n, x_aload, x_aload_n, x_istore, x_istore_n, x_lstore, x_lstore_n, x_fstore, x_fstore_n, x_dstore, x_dstore_n, x_astore, x_astore_n, x_astoreN, x_astore_nN, x_icmp_eq, x_icmp_ne, x_icmp_lt, x_icmp_ge, x_icmp_gt, x_icmp_le, x_if_eq, x_if_ne, x_if_lt, x_if_ge, x_if_gt, x_if_le, x_ifnull, x_ifnullR, x_ifnn, x_ifnnR, x_aaload2, x_cpI, x_cpF, x_bF, x_bD, x_oI, xk_bipush_120, xk_iconst_0, xk_bipush_m6, xk_iconst_1, xk_bipush_80, xk_bipush_48, xk_bipush_57, xk_bipush_10, xk_bipush_64, xk_bipush_46, xk_bipush_97, xk_bipush_122, xk_bipush_119, xk_bipush_61, xk_bipush_59, xk_bipush_8, xk_bipush_33, xk_bipush_126, xk_bipush_m2, xk_bipush_m4, xk_iconst_4, xk_bipush_6, xk_iconst_2, xk_bipush_40, xk_iconst_3, xk_iconst_5, xk_iconst_m1, xk_bipush_m5, xk_bipush_12, xk_bipush_100, xk_bipush_26, xk_sipush_9999, xk_sipush_500, xk_bipush_7, xk_bipush_m126, xk_bipush_127, xk_bipush_23, xk_sipush_m1022, xk_sipush_1023, xk_bipush_52, xk_bipush_m3, xk_sipush_9830, xk_sipush_4800, xk_sipush_983, xk_sipush_480, xk_bipush_13, xk_bipush_18, xk_bipush_9, xk_bipush_32, xg_0_0, xp_0_0, xg_0_1, xp_0_1, xg_0_2, xp_0_2, xg_0_3, xp_0_3, xg_0_4, xp_0_4, xg_0_5, xp_0_5, xg_0_6, xp_0_6, xg_0_7, xp_0_7, xg_0_8, xp_0_8, xg_1_0, xp_1_0, xg_1_1, xp_1_1, xg_1_2, xp_1_2, xg_1_3, xp_1_3, xg_2_0, xp_2_0, xg_2_1, xp_2_1, xg_2_2, xp_2_2, xg_3_0, xp_3_0, xg_3_1, xp_3_1, xg_3_2, xp_3_2, xg_3_3, xp_3_3, xg_3_4, xp_3_4, xg_3_5, xp_3_5, xg_3_6, xp_3_6, xg_3_7, xp_3_7, xg_3_8, xp_3_8, xg_3_9, xp_3_9, xg_3_10, xp_3_10, xg_3_11, xp_3_11, xg_4_0, xp_4_0, xg_4_1, xp_4_1, xg_5_0, xp_5_0, xg_5_1, xp_5_1, xg_6_0, xp_6_0, xg_6_1, xp_6_1, xg_6_2, xp_6_2, xg_6_3, xp_6_3, xg_6_4, xp_6_4, xg_6_5, xp_6_5, xg_7_0, xp_7_0, xg_7_1, xp_7_1, xg_7_2, xp_7_2, xg_7_3, xp_7_3, xg_7_4, xp_7_4, xg_7_5, xp_7_5, xg_7_6, xp_7_6, xg_7_7, xp_7_7, xg_7_8, xp_7_8, xg_7_9, xp_7_9, xg_7_10, xp_7_10, xg_7_11, xp_7_11, xg_7_12, xp_7_12, xg_7_13, xp_7_13, fv0, fv1, fv2, fv3, kI_0, kI_1, stL, wipeL, entLn, entL, List.getElem?_cons_zero, List.getElem?_cons_succ, List.getElem?_nil, List.set_cons_zero, List.set_cons_succ, List.set_nil, List.length_cons, List.length_nil, List.cons_append, List.nil_append, List.replicate, Nat.reduceAdd, Nat.reduceLeDiff, Nat.reduceSub, true_and, and_true, x_callS, x_callSN, x_callI, x_callIN, x_callV0, x_callV1, x_callV2, x_callV3, x_callV4, x_callV5, x_callV6, x_callV7, callP, List.take_succ_cons, List.take_zero, List.take_nil, List.drop_succ_cons, List.drop_zero, List.drop_nil, List.getLast?_singleton, List.getLast?_cons_cons, Option.some.injEq, Value.ref.injEq, exists_eq_left, exists_eq_left', Nat.zero_le, Nat.add_zero, ldcV_f, ldcV_fn, ldcV_l, ldcV_d, Nat.reduceMul, Nat.le_refl, List.reverse_cons, List.reverse_nil, Option.toList, List.map_cons, List.map_nil, List.sum_cons, List.sum_nil, Value.category, tblW_n, tblW_c, Int.cast_ofNat_Int, Int.reduceAdd, Int.reduceToNat, ofI_n, rc_X7_best, rs_X7_best, P_X7_best]
  obtain ⟨hM, hD, h1, h2⟩ := h
  have hM0 := hM
  obtain ⟨m0, m1, m2, m3, m4, m5, m6, m7, m8, m9, m10⟩ := hM
  simp only [m0, m1, m2, m3, m4, m5, m6, m7, m8, m9, m10, hM0, sK_stI, sR_stI, sK_stF, sR_stF, sK_stIA, sR_stIA, sK_stFA, sR_stFA, sI_stI, sI_stF, sI_stIA, sI_stFA, sF_stI, sF_stF, sF_stIA, sF_stFA, Nat.left_eq_add, Nat.add_eq_left, Nat.add_left_cancel_iff, Nat.reduceEqDiff, Nat.reduceEqDiff, Nat.succ_ne_self, false_and, and_false, if_false, if_true, nI_succ_sub, Option.some.injEq, Prod.mk.injEq, exists_eq_left', true_and, and_true, retI, retF, retV, retZ1, retZ0, retL, retA, retN, Nat.reduceAdd, Nat.reduceMul, Nat.reduceLT]
  simp (disch := omega) only [nlt0, nge0, neq0, ngt0, nle0, nI_ltI, nI_leI, nI_eq, nI_cl, in_nI, false_implies, true_implies, not_false_eq_true, not_true_eq_false, and_true, true_and, nI_add, pk_mul, implies_true, not_lt0, mV_dk]
  refine ⟨by omega, fun c => ?_, fun c => h1 (Decidable.not_not.mp c)⟩
  obtain ⟨p, hp⟩ := (OnD_or hD).resolve_left c
  have hP : PreM S y 0 p := ⟨hM0, by omega, hp.2.1, hD.1, hD.2.2.2.2 p hp.2.2 hp.2.1⟩
  have hp4 := hp.2.1
  simp only [hp.1]
  simp (disch := omega) only [nlt0, nge0, neq0, ngt0, nle0, nI_ltI, nI_leI, nI_eq, nI_cl, in_nI, false_implies, true_implies, not_false_eq_true, not_true_eq_false, and_true, true_and, nI_add, pk_mul, implies_true, not_lt0, hP]
  exact ⟨by omega, by omega, hp4, h2 p hp⟩
/-- state 9 is a copy; then a letter is written there -/
def tryI (S T : SS) (y : Nat) : Prop := Fr S T (y + 1) (y + 5) ∧ (∀ j, j < 8847 → sI T (y + 1) j = sI S (y + 1) j) ∧ (∀ j, j < 4320 → sF T (y + 2) j = sF S (y + 2) j) ∧ sI T (y + 3) = sI S (y + 3)
def P_X7_tooDark (as : List Value) (S : SS) (E : Option Value → SS → Prop) : Prop := match as with
  | [.ref y, .int p, .int b] => vp_in p 4 ∧ PreM S y 0 p.toNatClampNeg ∧ E (some (.int (nI (cn (fun j => !decide (nI j = b) && !decide ((mG S y 0 p.toNatClampNeg).p j = mI 6) && enV (mV S y 0) ((mG S y 0 p.toNatClampNeg).l j) && !enV (mV S y 0) ((mG S y 9 p.toNatClampNeg).l j)) 120)))) S
  | _ => False
def Γ_X7_tooDark : List (MI × PT) := [(mi_X7_promisedTo, P_X7_promisedTo), (mi_X7_lightAt, P_X7_lightAt), (mi_X7_isBright, P_X7_isBright), (mi_X7_flag, P_X7_flag)]
theorem hΓ_X7_tooDark (l : Launch) (G : Gx) : ∀ q ∈ Γ_X7_tooDark, Ct l G q.1 q.2 := List.forall_mem_cons.mpr ⟨ct_X7_promisedTo l G, List.forall_mem_cons.mpr ⟨ct_X7_lightAt l G, List.forall_mem_cons.mpr ⟨ct_X7_isBright l G, List.forall_mem_cons.mpr ⟨ct_X7_flag l G, fun _ h => absurd h List.not_mem_nil⟩⟩⟩⟩
def tdB (S : SS) (y p : Nat) (b : Int32) (j : Nat) : Bool := !decide (nI j = b) && !decide ((mG S y 0 p).p j = mI 6) && enV (mV S y 0) ((mG S y 0 p).l j) && !enV (mV S y 0) ((mG S y 9 p).l j)
theorem td_s (S : SS) (y p : Nat) (b : Int32) (n : Nat) : cn (tdB S y p b) (n + 1) = if (!decide (nI n = b) && !decide ((mG S y 0 p).p n = mI 6) && enV (mV S y 0) (sF S (y + 2) (lK 0 p n)) && !enV (mV S y 0) (sF S (y + 2) (lK 9 p n))) = true then cn (tdB S y p b) n + 1 else cn (tdB S y p b) n := rfl
set_option maxHeartbeats 1000000 in
theorem lp_X7_tooDark (l : Launch) (G : Gx) {S : SS} {y p : Nat} {b : Int32} {E : Option Value → SS → Prop} (hp : PreM S y 0 p) (h : E (some (.int (nI (cn (tdB S y p b) 120)))) S) :
    ∀ j, j ≤ 120 → ∀ x5, V l G mi_X7_tooDark E 5 [some (.ref y), some (.int (nI p)), some (.int b), some (.int (nI (cn (tdB S y p b) j))), some (.int (nI j)), x5] [] S 0 0 := by
  refine loopUp 120 fun j hj ih x5 => ?_
  refine (V.segN (Γ := Γ_X7_tooDark) (hΓ_X7_tooDark l G) so_X7_tooDark 9 (sg := sg_X7_tooDark_5) so_X7_tooDark_5 ?_ : V l G mi_X7_tooDark _ (segPc sg_X7_tooDark_5) _ _ _ _ _)
  simp only [mL_X7_tooDark, mT_X7_tooDark, rc_X7_tooDark, rs_X7_tooDark, Γ_X7_tooDark, sg_X7_tooDark_0, sg_X7_tooDark_5, sg_X7_tooDark_35, sg_X7_tooDark_36, sg_X7_tooDark_89, sg_X7_tooDark_90, sg_X7_tooDark_101, wn_X7_tooDark_0, wn_X7_tooDark_5, wn_X7_tooDark_35, wn_X7_tooDark_36, wn_X7_tooDark_89, wn_X7_tooDark_90, wn_X7_tooDark_101, wp_c, ex_c, x_nop, x_goto, x_table, x_iinc, x_ldc, x_ldc2, x_iaload, x_faload, x_baload, x_caload, x_iastore, x_fastore, x_bastore, x_castore, x_aastore, x_alen, x_gets, x_new, x_newa, x_anew, x_invs, x_invi, x_invv, x_ret, x_iret, x_lret, x_fret, x_aret, x_lconst, x_fconst0, x_fconst1, x_fconst2, x_dconst0, x_dconst1, x_null, x_iadd, x_isub, x_imul, x_iand, x_ior, x_idiv, x_irem, x_ineg, x_ishl, x_ishr, x_land, x_lor, x_lushr, x_lshl, x_lcmp, x_i2l, x_l2i, x_i2c, x_i2f, x_f2d, x_d2i, x_d2l, x_fadd, x_fsub, x_fmul, x_fdiv, x_dadd, x_dsub, x_dmul, x_ddiv, x_fcmp, x_dcmp, x_dupI, x_dupR, x_dup2, x_popI, x_popR, ldP_I, ldP_L, ldP_F, ldP_D, ldP_R, ldP_N, x_iload, x_iload_n, x_lload, x_lload_n, x_fload, x_fload_n, x_dload, x_dload_n, x_aload, x_aload_n, x_istore, x_istore_n, x_lstore, x_lstore_n, x_fstore, x_fstore_n, x_dstore, x_dstore_n, x_astore, x_astore_n, x_astoreN, x_astore_nN, x_icmp_eq, x_icmp_ne, x_icmp_lt, x_icmp_ge, x_icmp_gt, x_icmp_le, x_if_eq, x_if_ne, x_if_lt, x_if_ge, x_if_gt, x_if_le, x_ifnull, x_ifnullR, x_ifnn, x_ifnnR, x_aaload2, x_cpI, x_cpF, x_bF, x_bD, x_oI, xk_bipush_120, xk_iconst_0, xk_bipush_m6, xk_iconst_1, xk_bipush_80, xk_bipush_48, xk_bipush_57, xk_bipush_10, xk_bipush_64, xk_bipush_46, xk_bipush_97, xk_bipush_122, xk_bipush_119, xk_bipush_61, xk_bipush_59, xk_bipush_8, xk_bipush_33, xk_bipush_126, xk_bipush_m2, xk_bipush_m4, xk_iconst_4, xk_bipush_6, xk_iconst_2, xk_bipush_40, xk_iconst_3, xk_iconst_5, xk_iconst_m1, xk_bipush_m5, xk_bipush_12, xk_bipush_100, xk_bipush_26, xk_sipush_9999, xk_sipush_500, xk_bipush_7, xk_bipush_m126, xk_bipush_127, xk_bipush_23, xk_sipush_m1022, xk_sipush_1023, xk_bipush_52, xk_bipush_m3, xk_sipush_9830, xk_sipush_4800, xk_sipush_983, xk_sipush_480, xk_bipush_13, xk_bipush_18, xk_bipush_9, xk_bipush_32, xg_0_0, xp_0_0, xg_0_1, xp_0_1, xg_0_2, xp_0_2, xg_0_3, xp_0_3, xg_0_4, xp_0_4, xg_0_5, xp_0_5, xg_0_6, xp_0_6, xg_0_7, xp_0_7, xg_0_8, xp_0_8, xg_1_0, xp_1_0, xg_1_1, xp_1_1, xg_1_2, xp_1_2, xg_1_3, xp_1_3, xg_2_0, xp_2_0, xg_2_1, xp_2_1, xg_2_2, xp_2_2, xg_3_0, xp_3_0, xg_3_1, xp_3_1, xg_3_2, xp_3_2, xg_3_3, xp_3_3, xg_3_4, xp_3_4, xg_3_5, xp_3_5, xg_3_6, xp_3_6, xg_3_7, xp_3_7, xg_3_8, xp_3_8, xg_3_9, xp_3_9, xg_3_10, xp_3_10, xg_3_11, xp_3_11, xg_4_0, xp_4_0, xg_4_1, xp_4_1, xg_5_0, xp_5_0, xg_5_1, xp_5_1, xg_6_0, xp_6_0, xg_6_1, xp_6_1, xg_6_2, xp_6_2, xg_6_3, xp_6_3, xg_6_4, xp_6_4, xg_6_5, xp_6_5, xg_7_0, xp_7_0, xg_7_1, xp_7_1, xg_7_2, xp_7_2, xg_7_3, xp_7_3, xg_7_4, xp_7_4, xg_7_5, xp_7_5, xg_7_6, xp_7_6, xg_7_7, xp_7_7, xg_7_8, xp_7_8, xg_7_9, xp_7_9, xg_7_10, xp_7_10, xg_7_11, xp_7_11, xg_7_12, xp_7_12, xg_7_13, xp_7_13, fv0, fv1, fv2, fv3, kI_0, kI_1, stL, wipeL, entLn, entL, List.getElem?_cons_zero, List.getElem?_cons_succ, List.getElem?_nil, List.set_cons_zero, List.set_cons_succ, List.set_nil, List.length_cons, List.length_nil, List.cons_append, List.nil_append, List.replicate, Nat.reduceAdd, Nat.reduceLeDiff, Nat.reduceSub, true_and, and_true, x_callS, x_callSN, x_callI, x_callIN, x_callV0, x_callV1, x_callV2, x_callV3, x_callV4, x_callV5, x_callV6, x_callV7, callP, List.take_succ_cons, List.take_zero, List.take_nil, List.drop_succ_cons, List.drop_zero, List.drop_nil, List.getLast?_singleton, List.getLast?_cons_cons, Option.some.injEq, Value.ref.injEq, exists_eq_left, exists_eq_left', Nat.zero_le, Nat.add_zero, ldcV_f, ldcV_fn, ldcV_l, ldcV_d, Nat.reduceMul, Nat.le_refl, List.reverse_cons, List.reverse_nil, Option.toList, List.map_cons, List.map_nil, List.sum_cons, List.sum_nil, Value.category, tblW_n, tblW_c, Int.cast_ofNat_Int, Int.reduceAdd, Int.reduceToNat, ofI_n, rc_X7_promisedTo, rs_X7_promisedTo, P_X7_promisedTo, rc_X7_lightAt, rs_X7_lightAt, P_X7_lightAt, rc_X7_isBright, rs_X7_isBright, P_X7_isBright, rc_X7_flag, rs_X7_flag, P_X7_flag]
  have hc := cn_le (tdB S y p b) j
  obtain ⟨hM, -, hp4, hs, hG⟩ := hp
  have hM0 := hM
  obtain ⟨m0, m1, m2, m3, m4, m5, m6, m7, m8, m9, m10⟩ := hM
  simp only [m0, m1, m2, m3, m4, m5, m6, m7, m8, m9, m10, hM0, bI_0, ← nI_0, bI_n0, sK_stI, sR_stI, sK_stF, sR_stF, sK_stIA, sR_stIA, sK_stFA, sR_stFA, sI_stI, sI_stF, sI_stIA, sI_stFA, sF_stI, sF_stF, sF_stIA, sF_stFA, Nat.left_eq_add, Nat.add_eq_left, Nat.add_left_cancel_iff, Nat.reduceEqDiff, Nat.reduceEqDiff, Nat.succ_ne_self, false_and, and_false, if_false, if_true, nI_succ_sub, Option.some.injEq, Prod.mk.injEq, exists_eq_left', true_and, and_true, retI, retF, retV, retZ1, retZ0, retL, retA, retN, Nat.reduceAdd, Nat.reduceMul, Nat.reduceLT]
  refine ⟨fun c => ?_, fun c => ?_⟩
  · simp (disch := omega) only [nlt0, nge0, neq0, ngt0, nle0, nI_ltI, nI_leI, nI_eq, nI_cl, in_nI, false_implies, true_implies, not_false_eq_true, not_true_eq_false, and_true, true_and, nI_add, pk_mul, implies_true, not_lt0] at c
    have e : j = 120 := by omega
    subst e
    exact h
  · simp (disch := omega) only [nlt0, nge0, neq0, ngt0, nle0, nI_ltI, nI_leI, nI_eq, nI_cl, in_nI, false_implies, true_implies, not_false_eq_true, not_true_eq_false, and_true, true_and, nI_add, pk_mul, implies_true, not_lt0] at c
    have hl := lK_lt (q := 0) (by omega) hp4 (show j < 120 by omega)
    have hl9 := lK_lt (q := 9) (by omega) hp4 (show j < 120 by omega)
    simp (disch := omega) only [nlt0, nge0, neq0, ngt0, nle0, nI_ltI, nI_leI, nI_eq, nI_cl, in_nI, false_implies, true_implies, not_false_eq_true, not_true_eq_false, and_true, true_and, nI_add, pk_mul, implies_true, not_lt0, hs, bI_n0]
    ((repeat' (first | with_reducible apply And.intro | with_reducible intro _)) <;> first | omega | assumption | (have e120 : j = 120 := (by omega); subst e120; exact h) | (have ih2 := ih (by omega); rw [td_s, if_pos (by simp_all)] at ih2; exact ih2 _) | (have ih2 := ih (by omega); rw [td_s, if_neg (by simp_all)] at ih2; exact ih2 _))
set_option maxHeartbeats 1000000 in
theorem ct_X7_tooDark (l : Launch) (G : Gx) : Ct l G mi_X7_tooDark P_X7_tooDark := by
  refine Ct.ofV mo_X7_tooDark (fun as S E h => ?_)
  unfold P_X7_tooDark at h
  split at h
  case h_2 => exact h.elim
  rename_i y p b
  refine ⟨by simp [entL, mL_X7_tooDark], ?_⟩
  refine wpN_ok (Γ := Γ_X7_tooDark) (hΓ_X7_tooDark l G) so_X7_tooDark 9 _ _ _ _ _ _ ?_
  simp only [mL_X7_tooDark, mT_X7_tooDark, rc_X7_tooDark, rs_X7_tooDark, Γ_X7_tooDark, sg_X7_tooDark_0, sg_X7_tooDark_5, sg_X7_tooDark_35, sg_X7_tooDark_36, sg_X7_tooDark_89, sg_X7_tooDark_90, sg_X7_tooDark_101, wn_X7_tooDark_0, wn_X7_tooDark_5, wn_X7_tooDark_35, wn_X7_tooDark_36, wn_X7_tooDark_89, wn_X7_tooDark_90, wn_X7_tooDark_101, wp_c, ex_c, x_nop, x_goto, x_table, x_iinc, x_ldc, x_ldc2, x_iaload, x_faload, x_baload, x_caload, x_iastore, x_fastore, x_bastore, x_castore, x_aastore, x_alen, x_gets, x_new, x_newa, x_anew, x_invs, x_invi, x_invv, x_ret, x_iret, x_lret, x_fret, x_aret, x_lconst, x_fconst0, x_fconst1, x_fconst2, x_dconst0, x_dconst1, x_null, x_iadd, x_isub, x_imul, x_iand, x_ior, x_idiv, x_irem, x_ineg, x_ishl, x_ishr, x_land, x_lor, x_lushr, x_lshl, x_lcmp, x_i2l, x_l2i, x_i2c, x_i2f, x_f2d, x_d2i, x_d2l, x_fadd, x_fsub, x_fmul, x_fdiv, x_dadd, x_dsub, x_dmul, x_ddiv, x_fcmp, x_dcmp, x_dupI, x_dupR, x_dup2, x_popI, x_popR, ldP_I, ldP_L, ldP_F, ldP_D, ldP_R, ldP_N, x_iload, x_iload_n, x_lload, x_lload_n, x_fload, x_fload_n, x_dload, x_dload_n, x_aload, x_aload_n, x_istore, x_istore_n, x_lstore, x_lstore_n, x_fstore, x_fstore_n, x_dstore, x_dstore_n, x_astore, x_astore_n, x_astoreN, x_astore_nN, x_icmp_eq, x_icmp_ne, x_icmp_lt, x_icmp_ge, x_icmp_gt, x_icmp_le, x_if_eq, x_if_ne, x_if_lt, x_if_ge, x_if_gt, x_if_le, x_ifnull, x_ifnullR, x_ifnn, x_ifnnR, x_aaload2, x_cpI, x_cpF, x_bF, x_bD, x_oI, xk_bipush_120, xk_iconst_0, xk_bipush_m6, xk_iconst_1, xk_bipush_80, xk_bipush_48, xk_bipush_57, xk_bipush_10, xk_bipush_64, xk_bipush_46, xk_bipush_97, xk_bipush_122, xk_bipush_119, xk_bipush_61, xk_bipush_59, xk_bipush_8, xk_bipush_33, xk_bipush_126, xk_bipush_m2, xk_bipush_m4, xk_iconst_4, xk_bipush_6, xk_iconst_2, xk_bipush_40, xk_iconst_3, xk_iconst_5, xk_iconst_m1, xk_bipush_m5, xk_bipush_12, xk_bipush_100, xk_bipush_26, xk_sipush_9999, xk_sipush_500, xk_bipush_7, xk_bipush_m126, xk_bipush_127, xk_bipush_23, xk_sipush_m1022, xk_sipush_1023, xk_bipush_52, xk_bipush_m3, xk_sipush_9830, xk_sipush_4800, xk_sipush_983, xk_sipush_480, xk_bipush_13, xk_bipush_18, xk_bipush_9, xk_bipush_32, xg_0_0, xp_0_0, xg_0_1, xp_0_1, xg_0_2, xp_0_2, xg_0_3, xp_0_3, xg_0_4, xp_0_4, xg_0_5, xp_0_5, xg_0_6, xp_0_6, xg_0_7, xp_0_7, xg_0_8, xp_0_8, xg_1_0, xp_1_0, xg_1_1, xp_1_1, xg_1_2, xp_1_2, xg_1_3, xp_1_3, xg_2_0, xp_2_0, xg_2_1, xp_2_1, xg_2_2, xp_2_2, xg_3_0, xp_3_0, xg_3_1, xp_3_1, xg_3_2, xp_3_2, xg_3_3, xp_3_3, xg_3_4, xp_3_4, xg_3_5, xp_3_5, xg_3_6, xp_3_6, xg_3_7, xp_3_7, xg_3_8, xp_3_8, xg_3_9, xp_3_9, xg_3_10, xp_3_10, xg_3_11, xp_3_11, xg_4_0, xp_4_0, xg_4_1, xp_4_1, xg_5_0, xp_5_0, xg_5_1, xp_5_1, xg_6_0, xp_6_0, xg_6_1, xp_6_1, xg_6_2, xp_6_2, xg_6_3, xp_6_3, xg_6_4, xp_6_4, xg_6_5, xp_6_5, xg_7_0, xp_7_0, xg_7_1, xp_7_1, xg_7_2, xp_7_2, xg_7_3, xp_7_3, xg_7_4, xp_7_4, xg_7_5, xp_7_5, xg_7_6, xp_7_6, xg_7_7, xp_7_7, xg_7_8, xp_7_8, xg_7_9, xp_7_9, xg_7_10, xp_7_10, xg_7_11, xp_7_11, xg_7_12, xp_7_12, xg_7_13, xp_7_13, fv0, fv1, fv2, fv3, kI_0, kI_1, stL, wipeL, entLn, entL, List.getElem?_cons_zero, List.getElem?_cons_succ, List.getElem?_nil, List.set_cons_zero, List.set_cons_succ, List.set_nil, List.length_cons, List.length_nil, List.cons_append, List.nil_append, List.replicate, Nat.reduceAdd, Nat.reduceLeDiff, Nat.reduceSub, true_and, and_true, x_callS, x_callSN, x_callI, x_callIN, x_callV0, x_callV1, x_callV2, x_callV3, x_callV4, x_callV5, x_callV6, x_callV7, callP, List.take_succ_cons, List.take_zero, List.take_nil, List.drop_succ_cons, List.drop_zero, List.drop_nil, List.getLast?_singleton, List.getLast?_cons_cons, Option.some.injEq, Value.ref.injEq, exists_eq_left, exists_eq_left', Nat.zero_le, Nat.add_zero, ldcV_f, ldcV_fn, ldcV_l, ldcV_d, Nat.reduceMul, Nat.le_refl, List.reverse_cons, List.reverse_nil, Option.toList, List.map_cons, List.map_nil, List.sum_cons, List.sum_nil, Value.category, tblW_n, tblW_c, Int.cast_ofNat_Int, Int.reduceAdd, Int.reduceToNat, ofI_n, rc_X7_promisedTo, rs_X7_promisedTo, P_X7_promisedTo, rc_X7_lightAt, rs_X7_lightAt, P_X7_lightAt, rc_X7_isBright, rs_X7_isBright, P_X7_isBright, rc_X7_flag, rs_X7_flag, P_X7_flag]
  obtain ⟨h1, hp, h⟩ := h
  obtain ⟨p, hp4, rfl⟩ := vp_in_of h1 (by decide)
  simp (disch := omega) only [nlt0, nge0, neq0, ngt0, nle0, nI_ltI, nI_leI, nI_eq, nI_cl, in_nI, false_implies, true_implies, not_false_eq_true, not_true_eq_false, and_true, true_and, nI_add, pk_mul, implies_true, not_lt0] at h hp
  exact lp_X7_tooDark l G hp h 0 (by omega) none
def P_X7_leaves (as : List Value) (S : SS) (E : Option Value → SS → Prop) : Prop := match as with
  | [.ref y, .int w, .int k] => ModAt S y ∧ DOK (mV S y 0) ∧ vp_in w 5 ∧ vp_in k 120 ∧ ∃ p, OnD (mV S y 0) p ∧ E (some (.float (leftV (mV S y 0) ((mV S y 0).g p) w.toNatClampNeg k.toNatClampNeg 120))) S
  | _ => False
def Γ_X7_leaves : List (MI × PT) := [(mi_X7_hasLetter, P_X7_hasLetter), (mi_X7_inkAt, P_X7_inkAt), (mi_X7_clouded, P_X7_clouded)]
theorem hΓ_X7_leaves (l : Launch) (G : Gx) : ∀ q ∈ Γ_X7_leaves, Ct l G q.1 q.2 := List.forall_mem_cons.mpr ⟨ct_X7_hasLetter l G, List.forall_mem_cons.mpr ⟨ct_X7_inkAt l G, List.forall_mem_cons.mpr ⟨ct_X7_clouded l G, fun _ h => absurd h List.not_mem_nil⟩⟩⟩
theorem left_s (D : DV) (G : GV) (w k n : Nat) : leftV D G w k (n + 1) = if ¬ G.t n = mI 6 ∧ G.w n = nI w then dimV D (leftV D G w k n) w (dist k n) else leftV D G w k n := rfl
set_option maxHeartbeats 1000000 in
theorem lp_X7_leaves (l : Launch) (G : Gx) {S : SS} {y p w k : Nat} {E : Option Value → SS → Prop} (hP : PreM S y 0 p) (hd : OnD (mV S y 0) p) (hw : w < 5) (hk : k < 120) (h : E (some (.float (leftV (mV S y 0) (mG S y 0 p) w k 120))) S) :
    ∀ j, j ≤ 120 → V l G mi_X7_leaves E 5 [some (.ref y), some (.int (nI w)), some (.int (nI k)), some (.float (leftV (mV S y 0) (mG S y 0 p) w k j)), some (.int (nI j))] [] S 0 0 := by
  refine loopUp 120 fun j hj ih => ?_
  refine (V.segN (Γ := Γ_X7_leaves) (hΓ_X7_leaves l G) so_X7_leaves 9 (sg := sg_X7_leaves_5) so_X7_leaves_5 ?_ : V l G mi_X7_leaves _ (segPc sg_X7_leaves_5) _ _ _ _ _)
  simp only [mL_X7_leaves, mT_X7_leaves, rc_X7_leaves, rs_X7_leaves, Γ_X7_leaves, sg_X7_leaves_0, sg_X7_leaves_5, sg_X7_leaves_73, sg_X7_leaves_79, wn_X7_leaves_0, wn_X7_leaves_5, wn_X7_leaves_73, wn_X7_leaves_79, wp_c, ex_c, x_nop, x_goto, x_table, x_iinc, x_ldc, x_ldc2, x_iaload, x_faload, x_baload, x_caload, x_iastore, x_fastore, x_bastore, x_castore, x_aastore, x_alen, x_gets, x_new, x_newa, x_anew, x_invs, x_invi, x_invv, x_ret, x_iret, x_lret, x_fret, x_aret, x_lconst, x_fconst0, x_fconst1, x_fconst2, x_dconst0, x_dconst1, x_null, x_iadd, x_isub, x_imul, x_iand, x_ior, x_idiv, x_irem, x_ineg, x_ishl, x_ishr, x_land, x_lor, x_lushr, x_lshl, x_lcmp, x_i2l, x_l2i, x_i2c, x_i2f, x_f2d, x_d2i, x_d2l, x_fadd, x_fsub, x_fmul, x_fdiv, x_dadd, x_dsub, x_dmul, x_ddiv, x_fcmp, x_dcmp, x_dupI, x_dupR, x_dup2, x_popI, x_popR, ldP_I, ldP_L, ldP_F, ldP_D, ldP_R, ldP_N, x_iload, x_iload_n, x_lload, x_lload_n, x_fload, x_fload_n, x_dload, x_dload_n, x_aload, x_aload_n, x_istore, x_istore_n, x_lstore, x_lstore_n, x_fstore, x_fstore_n, x_dstore, x_dstore_n, x_astore, x_astore_n, x_astoreN, x_astore_nN, x_icmp_eq, x_icmp_ne, x_icmp_lt, x_icmp_ge, x_icmp_gt, x_icmp_le, x_if_eq, x_if_ne, x_if_lt, x_if_ge, x_if_gt, x_if_le, x_ifnull, x_ifnullR, x_ifnn, x_ifnnR, x_aaload2, x_cpI, x_cpF, x_bF, x_bD, x_oI, xk_bipush_120, xk_iconst_0, xk_bipush_m6, xk_iconst_1, xk_bipush_80, xk_bipush_48, xk_bipush_57, xk_bipush_10, xk_bipush_64, xk_bipush_46, xk_bipush_97, xk_bipush_122, xk_bipush_119, xk_bipush_61, xk_bipush_59, xk_bipush_8, xk_bipush_33, xk_bipush_126, xk_bipush_m2, xk_bipush_m4, xk_iconst_4, xk_bipush_6, xk_iconst_2, xk_bipush_40, xk_iconst_3, xk_iconst_5, xk_iconst_m1, xk_bipush_m5, xk_bipush_12, xk_bipush_100, xk_bipush_26, xk_sipush_9999, xk_sipush_500, xk_bipush_7, xk_bipush_m126, xk_bipush_127, xk_bipush_23, xk_sipush_m1022, xk_sipush_1023, xk_bipush_52, xk_bipush_m3, xk_sipush_9830, xk_sipush_4800, xk_sipush_983, xk_sipush_480, xk_bipush_13, xk_bipush_18, xk_bipush_9, xk_bipush_32, xg_0_0, xp_0_0, xg_0_1, xp_0_1, xg_0_2, xp_0_2, xg_0_3, xp_0_3, xg_0_4, xp_0_4, xg_0_5, xp_0_5, xg_0_6, xp_0_6, xg_0_7, xp_0_7, xg_0_8, xp_0_8, xg_1_0, xp_1_0, xg_1_1, xp_1_1, xg_1_2, xp_1_2, xg_1_3, xp_1_3, xg_2_0, xp_2_0, xg_2_1, xp_2_1, xg_2_2, xp_2_2, xg_3_0, xp_3_0, xg_3_1, xp_3_1, xg_3_2, xp_3_2, xg_3_3, xp_3_3, xg_3_4, xp_3_4, xg_3_5, xp_3_5, xg_3_6, xp_3_6, xg_3_7, xp_3_7, xg_3_8, xp_3_8, xg_3_9, xp_3_9, xg_3_10, xp_3_10, xg_3_11, xp_3_11, xg_4_0, xp_4_0, xg_4_1, xp_4_1, xg_5_0, xp_5_0, xg_5_1, xp_5_1, xg_6_0, xp_6_0, xg_6_1, xp_6_1, xg_6_2, xp_6_2, xg_6_3, xp_6_3, xg_6_4, xp_6_4, xg_6_5, xp_6_5, xg_7_0, xp_7_0, xg_7_1, xp_7_1, xg_7_2, xp_7_2, xg_7_3, xp_7_3, xg_7_4, xp_7_4, xg_7_5, xp_7_5, xg_7_6, xp_7_6, xg_7_7, xp_7_7, xg_7_8, xp_7_8, xg_7_9, xp_7_9, xg_7_10, xp_7_10, xg_7_11, xp_7_11, xg_7_12, xp_7_12, xg_7_13, xp_7_13, fv0, fv1, fv2, fv3, kI_0, kI_1, stL, wipeL, entLn, entL, List.getElem?_cons_zero, List.getElem?_cons_succ, List.getElem?_nil, List.set_cons_zero, List.set_cons_succ, List.set_nil, List.length_cons, List.length_nil, List.cons_append, List.nil_append, List.replicate, Nat.reduceAdd, Nat.reduceLeDiff, Nat.reduceSub, true_and, and_true, x_callS, x_callSN, x_callI, x_callIN, x_callV0, x_callV1, x_callV2, x_callV3, x_callV4, x_callV5, x_callV6, x_callV7, callP, List.take_succ_cons, List.take_zero, List.take_nil, List.drop_succ_cons, List.drop_zero, List.drop_nil, List.getLast?_singleton, List.getLast?_cons_cons, Option.some.injEq, Value.ref.injEq, exists_eq_left, exists_eq_left', Nat.zero_le, Nat.add_zero, ldcV_f, ldcV_fn, ldcV_l, ldcV_d, Nat.reduceMul, Nat.le_refl, List.reverse_cons, List.reverse_nil, Option.toList, List.map_cons, List.map_nil, List.sum_cons, List.sum_nil, Value.category, tblW_n, tblW_c, Int.cast_ofNat_Int, Int.reduceAdd, Int.reduceToNat, ofI_n, rc_X7_hasLetter, rs_X7_hasLetter, P_X7_hasLetter, rc_X7_inkAt, rs_X7_inkAt, P_X7_inkAt, rc_X7_clouded, rs_X7_clouded, P_X7_clouded]
  obtain ⟨hM, -, hp4, hs, hG⟩ := hP
  have edk : sI S (y + 1) 6 = nI p := hd.1
  have hM0 := hM
  obtain ⟨m0, m1, m2, m3, m4, m5, m6, m7, m8, m9, m10⟩ := hM
  simp only [m0, m1, m2, m3, m4, m5, m6, m7, m8, m9, m10, hM0, bI_0, sK_stI, sR_stI, sK_stF, sR_stF, sK_stIA, sR_stIA, sK_stFA, sR_stFA, sI_stI, sI_stF, sI_stIA, sI_stFA, sF_stI, sF_stF, sF_stIA, sF_stFA, Nat.left_eq_add, Nat.add_eq_left, Nat.add_left_cancel_iff, Nat.reduceEqDiff, Nat.reduceEqDiff, Nat.succ_ne_self, false_and, and_false, if_false, if_true, nI_succ_sub, Option.some.injEq, Prod.mk.injEq, exists_eq_left', true_and, and_true, retI, retF, retV, retZ1, retZ0, retL, retA, retN, Nat.reduceAdd, Nat.reduceMul, Nat.reduceLT]
  refine ⟨fun c => ?_, fun c => ?_⟩
  · simp (disch := omega) only [nlt0, nge0, neq0, ngt0, nle0, nI_ltI, nI_leI, nI_eq, nI_cl, in_nI, false_implies, true_implies, not_false_eq_true, not_true_eq_false, and_true, true_and, nI_add, pk_mul, implies_true, not_lt0] at c
    have e : j = 120 := by omega
    subst e
    exact h
  · simp (disch := omega) only [nlt0, nge0, neq0, ngt0, nle0, nI_ltI, nI_leI, nI_eq, nI_cl, in_nI, false_implies, true_implies, not_false_eq_true, not_true_eq_false, and_true, true_and, nI_add, pk_mul, implies_true, not_lt0] at c
    have hi := iK_lt (q := 0) (by omega) hp4 (show j < 120 by omega)
    have hx := okL_leftV (D := mV S y 0) (G := mG S y 0 p) (k := k) hs hw j
    have c26 : ¬ nI 26 = 0 := by decide
    simp (disch := omega) only [nlt0, nge0, neq0, ngt0, nle0, nI_ltI, nI_leI, nI_eq, nI_cl, in_nI, false_implies, true_implies, not_false_eq_true, not_true_eq_false, and_true, true_and, nI_add, pk_mul, implies_true, not_lt0, hs, edk, c26, hx]
    have ih := ih (by omega)
    rw [left_s] at ih
    have ep : sI S (y + 1) (8 + w) = (mV S y 0).pr w := by show _ = sI S (y + 1) (983 * 0 + 8 + w); rw [show 983 * 0 + 8 + w = 8 + w by omega]
    refine ⟨by omega, by omega, hp4, by omega, fun c1 => ?_, fun c1 => ⟨by omega, by omega, hp4, by omega, by omega, fun c2 => ?_, fun c2 => ⟨by omega, by omega, hk, by omega, w, hw, ep, ?_⟩⟩⟩
    · rw [if_neg (fun a => a.1 (Decidable.not_not.mp c1))] at ih
      exact ih
    · rcases ink_of (S := S) (y := y) (q := 0) (p := p) hG (show j < 120 by omega) with ei | ⟨a, b, ha, hb, ei, et, ew⟩
      · exact absurd ((mtI_6 _).mpr ei) (Decidable.not_not.mp c1)
      · have e26 : nI (26 * b + a) / nI 26 = nI ((26 * b + a) / 26) := pk_div (by omega) (by omega) (by omega)
        rw [ei, e26, show (26 * b + a) / 26 = b by omega] at c2
        rw [if_neg (fun a => c2 (ew ▸ a.2))] at ih
        exact ih
    · rcases ink_of (S := S) (y := y) (q := 0) (p := p) hG (show j < 120 by omega) with ei | ⟨a, b, ha, hb, ei, et, ew⟩
      · exact absurd ((mtI_6 _).mpr ei) (Decidable.not_not.mp c1)
      · have e26 : nI (26 * b + a) / nI 26 = nI ((26 * b + a) / 26) := pk_div (by omega) (by omega) (by omega)
        rw [ei, e26, show (26 * b + a) / 26 = b by omega] at c2
        rw [if_pos ⟨Decidable.not_not.mp c1, ew.trans (Decidable.not_not.mp c2)⟩] at ih
        exact ih
set_option maxHeartbeats 1000000 in
theorem ct_X7_leaves (l : Launch) (G : Gx) : Ct l G mi_X7_leaves P_X7_leaves := by
  refine Ct.ofV mo_X7_leaves (fun as S E h => ?_)
  unfold P_X7_leaves at h
  split at h
  case h_2 => exact h.elim
  rename_i y w k
  refine ⟨by simp [entL, mL_X7_leaves], ?_⟩
  refine wpN_ok (Γ := Γ_X7_leaves) (hΓ_X7_leaves l G) so_X7_leaves 9 _ _ _ _ _ _ ?_
  simp only [mL_X7_leaves, mT_X7_leaves, rc_X7_leaves, rs_X7_leaves, Γ_X7_leaves, sg_X7_leaves_0, sg_X7_leaves_5, sg_X7_leaves_73, sg_X7_leaves_79, wn_X7_leaves_0, wn_X7_leaves_5, wn_X7_leaves_73, wn_X7_leaves_79, wp_c, ex_c, x_nop, x_goto, x_table, x_iinc, x_ldc, x_ldc2, x_iaload, x_faload, x_baload, x_caload, x_iastore, x_fastore, x_bastore, x_castore, x_aastore, x_alen, x_gets, x_new, x_newa, x_anew, x_invs, x_invi, x_invv, x_ret, x_iret, x_lret, x_fret, x_aret, x_lconst, x_fconst0, x_fconst1, x_fconst2, x_dconst0, x_dconst1, x_null, x_iadd, x_isub, x_imul, x_iand, x_ior, x_idiv, x_irem, x_ineg, x_ishl, x_ishr, x_land, x_lor, x_lushr, x_lshl, x_lcmp, x_i2l, x_l2i, x_i2c, x_i2f, x_f2d, x_d2i, x_d2l, x_fadd, x_fsub, x_fmul, x_fdiv, x_dadd, x_dsub, x_dmul, x_ddiv, x_fcmp, x_dcmp, x_dupI, x_dupR, x_dup2, x_popI, x_popR, ldP_I, ldP_L, ldP_F, ldP_D, ldP_R, ldP_N, x_iload, x_iload_n, x_lload, x_lload_n, x_fload, x_fload_n, x_dload, x_dload_n, x_aload, x_aload_n, x_istore, x_istore_n, x_lstore, x_lstore_n, x_fstore, x_fstore_n, x_dstore, x_dstore_n, x_astore, x_astore_n, x_astoreN, x_astore_nN, x_icmp_eq, x_icmp_ne, x_icmp_lt, x_icmp_ge, x_icmp_gt, x_icmp_le, x_if_eq, x_if_ne, x_if_lt, x_if_ge, x_if_gt, x_if_le, x_ifnull, x_ifnullR, x_ifnn, x_ifnnR, x_aaload2, x_cpI, x_cpF, x_bF, x_bD, x_oI, xk_bipush_120, xk_iconst_0, xk_bipush_m6, xk_iconst_1, xk_bipush_80, xk_bipush_48, xk_bipush_57, xk_bipush_10, xk_bipush_64, xk_bipush_46, xk_bipush_97, xk_bipush_122, xk_bipush_119, xk_bipush_61, xk_bipush_59, xk_bipush_8, xk_bipush_33, xk_bipush_126, xk_bipush_m2, xk_bipush_m4, xk_iconst_4, xk_bipush_6, xk_iconst_2, xk_bipush_40, xk_iconst_3, xk_iconst_5, xk_iconst_m1, xk_bipush_m5, xk_bipush_12, xk_bipush_100, xk_bipush_26, xk_sipush_9999, xk_sipush_500, xk_bipush_7, xk_bipush_m126, xk_bipush_127, xk_bipush_23, xk_sipush_m1022, xk_sipush_1023, xk_bipush_52, xk_bipush_m3, xk_sipush_9830, xk_sipush_4800, xk_sipush_983, xk_sipush_480, xk_bipush_13, xk_bipush_18, xk_bipush_9, xk_bipush_32, xg_0_0, xp_0_0, xg_0_1, xp_0_1, xg_0_2, xp_0_2, xg_0_3, xp_0_3, xg_0_4, xp_0_4, xg_0_5, xp_0_5, xg_0_6, xp_0_6, xg_0_7, xp_0_7, xg_0_8, xp_0_8, xg_1_0, xp_1_0, xg_1_1, xp_1_1, xg_1_2, xp_1_2, xg_1_3, xp_1_3, xg_2_0, xp_2_0, xg_2_1, xp_2_1, xg_2_2, xp_2_2, xg_3_0, xp_3_0, xg_3_1, xp_3_1, xg_3_2, xp_3_2, xg_3_3, xp_3_3, xg_3_4, xp_3_4, xg_3_5, xp_3_5, xg_3_6, xp_3_6, xg_3_7, xp_3_7, xg_3_8, xp_3_8, xg_3_9, xp_3_9, xg_3_10, xp_3_10, xg_3_11, xp_3_11, xg_4_0, xp_4_0, xg_4_1, xp_4_1, xg_5_0, xp_5_0, xg_5_1, xp_5_1, xg_6_0, xp_6_0, xg_6_1, xp_6_1, xg_6_2, xp_6_2, xg_6_3, xp_6_3, xg_6_4, xp_6_4, xg_6_5, xp_6_5, xg_7_0, xp_7_0, xg_7_1, xp_7_1, xg_7_2, xp_7_2, xg_7_3, xp_7_3, xg_7_4, xp_7_4, xg_7_5, xp_7_5, xg_7_6, xp_7_6, xg_7_7, xp_7_7, xg_7_8, xp_7_8, xg_7_9, xp_7_9, xg_7_10, xp_7_10, xg_7_11, xp_7_11, xg_7_12, xp_7_12, xg_7_13, xp_7_13, fv0, fv1, fv2, fv3, kI_0, kI_1, stL, wipeL, entLn, entL, List.getElem?_cons_zero, List.getElem?_cons_succ, List.getElem?_nil, List.set_cons_zero, List.set_cons_succ, List.set_nil, List.length_cons, List.length_nil, List.cons_append, List.nil_append, List.replicate, Nat.reduceAdd, Nat.reduceLeDiff, Nat.reduceSub, true_and, and_true, x_callS, x_callSN, x_callI, x_callIN, x_callV0, x_callV1, x_callV2, x_callV3, x_callV4, x_callV5, x_callV6, x_callV7, callP, List.take_succ_cons, List.take_zero, List.take_nil, List.drop_succ_cons, List.drop_zero, List.drop_nil, List.getLast?_singleton, List.getLast?_cons_cons, Option.some.injEq, Value.ref.injEq, exists_eq_left, exists_eq_left', Nat.zero_le, Nat.add_zero, ldcV_f, ldcV_fn, ldcV_l, ldcV_d, Nat.reduceMul, Nat.le_refl, List.reverse_cons, List.reverse_nil, Option.toList, List.map_cons, List.map_nil, List.sum_cons, List.sum_nil, Value.category, tblW_n, tblW_c, Int.cast_ofNat_Int, Int.reduceAdd, Int.reduceToNat, ofI_n, rc_X7_hasLetter, rs_X7_hasLetter, P_X7_hasLetter, rc_X7_inkAt, rs_X7_inkAt, P_X7_inkAt, rc_X7_clouded, rs_X7_clouded, P_X7_clouded]
  obtain ⟨hM, hD, h1, h2, p, hp, h⟩ := h
  obtain ⟨w, hw, rfl⟩ := vp_in_of h1 (by decide)
  obtain ⟨k, hk, rfl⟩ := vp_in_of h2 (by decide)
  simp (disch := omega) only [nlt0, nge0, neq0, ngt0, nle0, nI_ltI, nI_leI, nI_eq, nI_cl, in_nI, false_implies, true_implies, not_false_eq_true, not_true_eq_false, and_true, true_and, nI_add, pk_mul, implies_true, not_lt0] at h
  exact lp_X7_leaves l G ⟨hM, by omega, hp.2.1, hD.1, hD.2.2.2.2 p hp.2.2 hp.2.1⟩ hp hw hk h 0 (by omega)
def arV (D : DV) (G : GV) (n : Nat) : Bool := fo (fun a j => a && (decide (G.t j = mI 6) || rdV D G j)) true n
theorem arV_s (D : DV) (G : GV) (n : Nat) : arV D G (n + 1) = (arV D G n && (decide (G.t n = mI 6) || rdV D G n)) := rfl
def P_X7_areRead (as : List Value) (S : SS) (E : Option Value → SS → Prop) : Prop := match as with
  | [.ref y, .int q, .int p] => vp_in q 10 ∧ vp_in p 4 ∧ PreM S y q.toNatClampNeg p.toNatClampNeg ∧ E (some (.int (bI (arV (mV S y q.toNatClampNeg) (mG S y q.toNatClampNeg p.toNatClampNeg) 120 = true)))) S
  | _ => False
def Γ_X7_areRead : List (MI × PT) := [(mi_X7_hasLetter, P_X7_hasLetter), (mi_X7_canRead, P_X7_canRead)]
theorem hΓ_X7_areRead (l : Launch) (G : Gx) : ∀ q ∈ Γ_X7_areRead, Ct l G q.1 q.2 := List.forall_mem_cons.mpr ⟨ct_X7_hasLetter l G, List.forall_mem_cons.mpr ⟨ct_X7_canRead l G, fun _ h => absurd h List.not_mem_nil⟩⟩
set_option maxHeartbeats 1000000 in
theorem lp_X7_areRead (l : Launch) (G : Gx) {S : SS} {y q p : Nat} {E : Option Value → SS → Prop} (hp : PreM S y q p) (h : E (some (.int (bI (arV (mV S y q) (mG S y q p) 120 = true)))) S) :
    ∀ j, j ≤ 120 → V l G mi_X7_areRead E 5 [some (.ref y), some (.int (nI q)), some (.int (nI p)), some (.int (bI (arV (mV S y q) (mG S y q p) j = true))), some (.int (nI j))] [] S 0 0 := by
  refine loopUp 120 fun j hj ih => ?_
  refine (V.segN (Γ := Γ_X7_areRead) (hΓ_X7_areRead l G) so_X7_areRead 9 (sg := sg_X7_areRead_5) so_X7_areRead_5 ?_ : V l G mi_X7_areRead _ (segPc sg_X7_areRead_5) _ _ _ _ _)
  simp only [mL_X7_areRead, mT_X7_areRead, rc_X7_areRead, rs_X7_areRead, Γ_X7_areRead, sg_X7_areRead_0, sg_X7_areRead_5, sg_X7_areRead_38, sg_X7_areRead_42, sg_X7_areRead_43, sg_X7_areRead_50, wn_X7_areRead_0, wn_X7_areRead_5, wn_X7_areRead_38, wn_X7_areRead_42, wn_X7_areRead_43, wn_X7_areRead_50, wp_c, ex_c, x_nop, x_goto, x_table, x_iinc, x_ldc, x_ldc2, x_iaload, x_faload, x_baload, x_caload, x_iastore, x_fastore, x_bastore, x_castore, x_aastore, x_alen, x_gets, x_new, x_newa, x_anew, x_invs, x_invi, x_invv, x_ret, x_iret, x_lret, x_fret, x_aret, x_lconst, x_fconst0, x_fconst1, x_fconst2, x_dconst0, x_dconst1, x_null, x_iadd, x_isub, x_imul, x_iand, x_ior, x_idiv, x_irem, x_ineg, x_ishl, x_ishr, x_land, x_lor, x_lushr, x_lshl, x_lcmp, x_i2l, x_l2i, x_i2c, x_i2f, x_f2d, x_d2i, x_d2l, x_fadd, x_fsub, x_fmul, x_fdiv, x_dadd, x_dsub, x_dmul, x_ddiv, x_fcmp, x_dcmp, x_dupI, x_dupR, x_dup2, x_popI, x_popR, ldP_I, ldP_L, ldP_F, ldP_D, ldP_R, ldP_N, x_iload, x_iload_n, x_lload, x_lload_n, x_fload, x_fload_n, x_dload, x_dload_n, x_aload, x_aload_n, x_istore, x_istore_n, x_lstore, x_lstore_n, x_fstore, x_fstore_n, x_dstore, x_dstore_n, x_astore, x_astore_n, x_astoreN, x_astore_nN, x_icmp_eq, x_icmp_ne, x_icmp_lt, x_icmp_ge, x_icmp_gt, x_icmp_le, x_if_eq, x_if_ne, x_if_lt, x_if_ge, x_if_gt, x_if_le, x_ifnull, x_ifnullR, x_ifnn, x_ifnnR, x_aaload2, x_cpI, x_cpF, x_bF, x_bD, x_oI, xk_bipush_120, xk_iconst_0, xk_bipush_m6, xk_iconst_1, xk_bipush_80, xk_bipush_48, xk_bipush_57, xk_bipush_10, xk_bipush_64, xk_bipush_46, xk_bipush_97, xk_bipush_122, xk_bipush_119, xk_bipush_61, xk_bipush_59, xk_bipush_8, xk_bipush_33, xk_bipush_126, xk_bipush_m2, xk_bipush_m4, xk_iconst_4, xk_bipush_6, xk_iconst_2, xk_bipush_40, xk_iconst_3, xk_iconst_5, xk_iconst_m1, xk_bipush_m5, xk_bipush_12, xk_bipush_100, xk_bipush_26, xk_sipush_9999, xk_sipush_500, xk_bipush_7, xk_bipush_m126, xk_bipush_127, xk_bipush_23, xk_sipush_m1022, xk_sipush_1023, xk_bipush_52, xk_bipush_m3, xk_sipush_9830, xk_sipush_4800, xk_sipush_983, xk_sipush_480, xk_bipush_13, xk_bipush_18, xk_bipush_9, xk_bipush_32, xg_0_0, xp_0_0, xg_0_1, xp_0_1, xg_0_2, xp_0_2, xg_0_3, xp_0_3, xg_0_4, xp_0_4, xg_0_5, xp_0_5, xg_0_6, xp_0_6, xg_0_7, xp_0_7, xg_0_8, xp_0_8, xg_1_0, xp_1_0, xg_1_1, xp_1_1, xg_1_2, xp_1_2, xg_1_3, xp_1_3, xg_2_0, xp_2_0, xg_2_1, xp_2_1, xg_2_2, xp_2_2, xg_3_0, xp_3_0, xg_3_1, xp_3_1, xg_3_2, xp_3_2, xg_3_3, xp_3_3, xg_3_4, xp_3_4, xg_3_5, xp_3_5, xg_3_6, xp_3_6, xg_3_7, xp_3_7, xg_3_8, xp_3_8, xg_3_9, xp_3_9, xg_3_10, xp_3_10, xg_3_11, xp_3_11, xg_4_0, xp_4_0, xg_4_1, xp_4_1, xg_5_0, xp_5_0, xg_5_1, xp_5_1, xg_6_0, xp_6_0, xg_6_1, xp_6_1, xg_6_2, xp_6_2, xg_6_3, xp_6_3, xg_6_4, xp_6_4, xg_6_5, xp_6_5, xg_7_0, xp_7_0, xg_7_1, xp_7_1, xg_7_2, xp_7_2, xg_7_3, xp_7_3, xg_7_4, xp_7_4, xg_7_5, xp_7_5, xg_7_6, xp_7_6, xg_7_7, xp_7_7, xg_7_8, xp_7_8, xg_7_9, xp_7_9, xg_7_10, xp_7_10, xg_7_11, xp_7_11, xg_7_12, xp_7_12, xg_7_13, xp_7_13, fv0, fv1, fv2, fv3, kI_0, kI_1, stL, wipeL, entLn, entL, List.getElem?_cons_zero, List.getElem?_cons_succ, List.getElem?_nil, List.set_cons_zero, List.set_cons_succ, List.set_nil, List.length_cons, List.length_nil, List.cons_append, List.nil_append, List.replicate, Nat.reduceAdd, Nat.reduceLeDiff, Nat.reduceSub, true_and, and_true, x_callS, x_callSN, x_callI, x_callIN, x_callV0, x_callV1, x_callV2, x_callV3, x_callV4, x_callV5, x_callV6, x_callV7, callP, List.take_succ_cons, List.take_zero, List.take_nil, List.drop_succ_cons, List.drop_zero, List.drop_nil, List.getLast?_singleton, List.getLast?_cons_cons, Option.some.injEq, Value.ref.injEq, exists_eq_left, exists_eq_left', Nat.zero_le, Nat.add_zero, ldcV_f, ldcV_fn, ldcV_l, ldcV_d, Nat.reduceMul, Nat.le_refl, List.reverse_cons, List.reverse_nil, Option.toList, List.map_cons, List.map_nil, List.sum_cons, List.sum_nil, Value.category, tblW_n, tblW_c, Int.cast_ofNat_Int, Int.reduceAdd, Int.reduceToNat, ofI_n, rc_X7_hasLetter, rs_X7_hasLetter, P_X7_hasLetter, rc_X7_canRead, rs_X7_canRead, P_X7_canRead]
  have hp0 := hp
  obtain ⟨hM, hq, hp4, hs, hG⟩ := hp
  simp only [hM.1, hM, bI_0, retZb, sK_stI, sR_stI, sK_stF, sR_stF, sK_stIA, sR_stIA, sK_stFA, sR_stFA, sI_stI, sI_stF, sI_stIA, sI_stFA, sF_stI, sF_stF, sF_stIA, sF_stFA, Nat.left_eq_add, Nat.add_eq_left, Nat.add_left_cancel_iff, Nat.reduceEqDiff, Nat.reduceEqDiff, Nat.succ_ne_self, false_and, and_false, if_false, if_true, nI_succ_sub, Option.some.injEq, Prod.mk.injEq, exists_eq_left', true_and, and_true, retI, retF, retV, retZ1, retZ0, retL, retA, retN, Nat.reduceAdd, Nat.reduceMul, Nat.reduceLT]
  refine ⟨fun c => ?_, fun c => ?_⟩
  · simp (disch := omega) only [nlt0, nge0, neq0, ngt0, nle0, nI_ltI, nI_leI, nI_eq, nI_cl, in_nI, false_implies, true_implies, not_false_eq_true, not_true_eq_false, and_true, true_and, nI_add, pk_mul, implies_true, not_lt0] at c
    have e : j = 120 := by omega
    subst e
    exact h
  · simp (disch := omega) only [nlt0, nge0, neq0, ngt0, nle0, nI_ltI, nI_leI, nI_eq, nI_cl, in_nI, false_implies, true_implies, not_false_eq_true, not_true_eq_false, and_true, true_and, nI_add, pk_mul, implies_true, not_lt0] at c
    simp (disch := omega) only [nlt0, nge0, neq0, ngt0, nle0, nI_ltI, nI_leI, nI_eq, nI_cl, in_nI, false_implies, true_implies, not_false_eq_true, not_true_eq_false, and_true, true_and, nI_add, pk_mul, implies_true, not_lt0, hp0]
    have ih := ih (by omega)
    rw [arV_s] at ih
    refine ⟨fun c1 => ?_, fun c1 => ⟨hq, hp4, by omega, fun c2 => ?_, fun c2 => ⟨hq, hp4, by omega, fun c3 => ?_, fun c3 => ?_⟩⟩⟩
    · rw [bI_f (by simp [c1])] at ih
      exact ih
    · rw [bI_t (by simp [Decidable.not_not.mp c1, Decidable.not_not.mp c2])] at ih
      exact ih
    · rw [bI_f (by simp [Decidable.not_not.mp c2, c3])] at ih
      exact ih
    · rw [bI_t (by simp [Decidable.not_not.mp c1, Decidable.not_not.mp c3])] at ih
      exact ih
set_option maxHeartbeats 1000000 in
theorem ct_X7_areRead (l : Launch) (G : Gx) : Ct l G mi_X7_areRead P_X7_areRead := by
  refine Ct.ofV mo_X7_areRead (fun as S E h => ?_)
  unfold P_X7_areRead at h
  split at h
  case h_2 => exact h.elim
  rename_i y q p
  refine ⟨by simp [entL, mL_X7_areRead], ?_⟩
  refine wpN_ok (Γ := Γ_X7_areRead) (hΓ_X7_areRead l G) so_X7_areRead 9 _ _ _ _ _ _ ?_
  simp only [mL_X7_areRead, mT_X7_areRead, rc_X7_areRead, rs_X7_areRead, Γ_X7_areRead, sg_X7_areRead_0, sg_X7_areRead_5, sg_X7_areRead_38, sg_X7_areRead_42, sg_X7_areRead_43, sg_X7_areRead_50, wn_X7_areRead_0, wn_X7_areRead_5, wn_X7_areRead_38, wn_X7_areRead_42, wn_X7_areRead_43, wn_X7_areRead_50, wp_c, ex_c, x_nop, x_goto, x_table, x_iinc, x_ldc, x_ldc2, x_iaload, x_faload, x_baload, x_caload, x_iastore, x_fastore, x_bastore, x_castore, x_aastore, x_alen, x_gets, x_new, x_newa, x_anew, x_invs, x_invi, x_invv, x_ret, x_iret, x_lret, x_fret, x_aret, x_lconst, x_fconst0, x_fconst1, x_fconst2, x_dconst0, x_dconst1, x_null, x_iadd, x_isub, x_imul, x_iand, x_ior, x_idiv, x_irem, x_ineg, x_ishl, x_ishr, x_land, x_lor, x_lushr, x_lshl, x_lcmp, x_i2l, x_l2i, x_i2c, x_i2f, x_f2d, x_d2i, x_d2l, x_fadd, x_fsub, x_fmul, x_fdiv, x_dadd, x_dsub, x_dmul, x_ddiv, x_fcmp, x_dcmp, x_dupI, x_dupR, x_dup2, x_popI, x_popR, ldP_I, ldP_L, ldP_F, ldP_D, ldP_R, ldP_N, x_iload, x_iload_n, x_lload, x_lload_n, x_fload, x_fload_n, x_dload, x_dload_n, x_aload, x_aload_n, x_istore, x_istore_n, x_lstore, x_lstore_n, x_fstore, x_fstore_n, x_dstore, x_dstore_n, x_astore, x_astore_n, x_astoreN, x_astore_nN, x_icmp_eq, x_icmp_ne, x_icmp_lt, x_icmp_ge, x_icmp_gt, x_icmp_le, x_if_eq, x_if_ne, x_if_lt, x_if_ge, x_if_gt, x_if_le, x_ifnull, x_ifnullR, x_ifnn, x_ifnnR, x_aaload2, x_cpI, x_cpF, x_bF, x_bD, x_oI, xk_bipush_120, xk_iconst_0, xk_bipush_m6, xk_iconst_1, xk_bipush_80, xk_bipush_48, xk_bipush_57, xk_bipush_10, xk_bipush_64, xk_bipush_46, xk_bipush_97, xk_bipush_122, xk_bipush_119, xk_bipush_61, xk_bipush_59, xk_bipush_8, xk_bipush_33, xk_bipush_126, xk_bipush_m2, xk_bipush_m4, xk_iconst_4, xk_bipush_6, xk_iconst_2, xk_bipush_40, xk_iconst_3, xk_iconst_5, xk_iconst_m1, xk_bipush_m5, xk_bipush_12, xk_bipush_100, xk_bipush_26, xk_sipush_9999, xk_sipush_500, xk_bipush_7, xk_bipush_m126, xk_bipush_127, xk_bipush_23, xk_sipush_m1022, xk_sipush_1023, xk_bipush_52, xk_bipush_m3, xk_sipush_9830, xk_sipush_4800, xk_sipush_983, xk_sipush_480, xk_bipush_13, xk_bipush_18, xk_bipush_9, xk_bipush_32, xg_0_0, xp_0_0, xg_0_1, xp_0_1, xg_0_2, xp_0_2, xg_0_3, xp_0_3, xg_0_4, xp_0_4, xg_0_5, xp_0_5, xg_0_6, xp_0_6, xg_0_7, xp_0_7, xg_0_8, xp_0_8, xg_1_0, xp_1_0, xg_1_1, xp_1_1, xg_1_2, xp_1_2, xg_1_3, xp_1_3, xg_2_0, xp_2_0, xg_2_1, xp_2_1, xg_2_2, xp_2_2, xg_3_0, xp_3_0, xg_3_1, xp_3_1, xg_3_2, xp_3_2, xg_3_3, xp_3_3, xg_3_4, xp_3_4, xg_3_5, xp_3_5, xg_3_6, xp_3_6, xg_3_7, xp_3_7, xg_3_8, xp_3_8, xg_3_9, xp_3_9, xg_3_10, xp_3_10, xg_3_11, xp_3_11, xg_4_0, xp_4_0, xg_4_1, xp_4_1, xg_5_0, xp_5_0, xg_5_1, xp_5_1, xg_6_0, xp_6_0, xg_6_1, xp_6_1, xg_6_2, xp_6_2, xg_6_3, xp_6_3, xg_6_4, xp_6_4, xg_6_5, xp_6_5, xg_7_0, xp_7_0, xg_7_1, xp_7_1, xg_7_2, xp_7_2, xg_7_3, xp_7_3, xg_7_4, xp_7_4, xg_7_5, xp_7_5, xg_7_6, xp_7_6, xg_7_7, xp_7_7, xg_7_8, xp_7_8, xg_7_9, xp_7_9, xg_7_10, xp_7_10, xg_7_11, xp_7_11, xg_7_12, xp_7_12, xg_7_13, xp_7_13, fv0, fv1, fv2, fv3, kI_0, kI_1, stL, wipeL, entLn, entL, List.getElem?_cons_zero, List.getElem?_cons_succ, List.getElem?_nil, List.set_cons_zero, List.set_cons_succ, List.set_nil, List.length_cons, List.length_nil, List.cons_append, List.nil_append, List.replicate, Nat.reduceAdd, Nat.reduceLeDiff, Nat.reduceSub, true_and, and_true, x_callS, x_callSN, x_callI, x_callIN, x_callV0, x_callV1, x_callV2, x_callV3, x_callV4, x_callV5, x_callV6, x_callV7, callP, List.take_succ_cons, List.take_zero, List.take_nil, List.drop_succ_cons, List.drop_zero, List.drop_nil, List.getLast?_singleton, List.getLast?_cons_cons, Option.some.injEq, Value.ref.injEq, exists_eq_left, exists_eq_left', Nat.zero_le, Nat.add_zero, ldcV_f, ldcV_fn, ldcV_l, ldcV_d, Nat.reduceMul, Nat.le_refl, List.reverse_cons, List.reverse_nil, Option.toList, List.map_cons, List.map_nil, List.sum_cons, List.sum_nil, Value.category, tblW_n, tblW_c, Int.cast_ofNat_Int, Int.reduceAdd, Int.reduceToNat, ofI_n, rc_X7_hasLetter, rs_X7_hasLetter, P_X7_hasLetter, rc_X7_canRead, rs_X7_canRead, P_X7_canRead]
  obtain ⟨h1, h2, hp, h⟩ := h
  obtain ⟨q, hq, rfl⟩ := vp_in_of h1 (by decide)
  obtain ⟨p, hp4, rfl⟩ := vp_in_of h2 (by decide)
  simp (disch := omega) only [nlt0, nge0, neq0, ngt0, nle0, nI_ltI, nI_leI, nI_eq, nI_cl, in_nI, false_implies, true_implies, not_false_eq_true, not_true_eq_false, and_true, true_and, nI_add, pk_mul, implies_true, not_lt0] at h hp
  exact lp_X7_areRead l G hp h 0 (by omega)
/-- states 0 to 8 as they were; the rows of what was saved and of the text too -/
theorem Fr9 {S T : SS} {y : Nat} (h : Fr S T (y + 1) (y + 3)) (k : ∀ q, ¬ q = 9 → Qs S T y q q) : ∀ q, q < 9 → Qs S T y q q := fun q hq => k q (by omega)
/-- nothing that counts has changed -/
def Sm (S T : SS) (y : Nat) : Prop := Fr S T (y + 1) (y + 5) ∧ sI T (y + 3) = sI S (y + 3) ∧ ∀ q, q < 9 → Qs S T y q q
theorem Sm.refl (S : SS) (y : Nat) : Sm S S y := ⟨Fr.refl _ _ _, rfl, fun _ _ => Qs.refl _ _ _⟩
theorem Sm.trans {S T U : SS} {y : Nat} (h : Sm S T y) (k : Sm T U y) : Sm S U y := ⟨h.1.trans k.1, k.2.1.trans h.2.1, fun q hq => (h.2.2 q hq).trans (k.2.2 q hq)⟩
theorem Sm.de {S T : SS} {y : Nat} (h : Sm S T y) : DE (mV T y 0) (mV S y 0) := (h.2.2 0 (by omega)).de
theorem sm_lk (S : SS) (y p n : Nat) : Sm S (lkS S y p n) y := by
  refine ⟨(Fr.refl _ _ _).stIA _ _ (by omega) (by omega), ?_, fun q _ => ⟨fun j _ => ?_, fun _ _ => rfl⟩⟩
  · unfold lkS
    rw [sI_stIA, if_neg (by omega)]
  · unfold lkS
    rw [sI_stIA, if_neg (by omega)]
theorem sm_wr {S : SS} {y p k w a : Nat} (hk : k < 120) (hp : p < 4) : Sm S (wrS S y 9 p k w a) y := by
  refine ⟨?_, ?_, fun q hq => ⟨fun j hj => ?_, fun j hj => ?_⟩⟩
  · exact ((((Fr.refl S (y + 1) (y + 5)).stFA _ _ (by omega) (by omega)).stI _ _ _ (by omega) (by omega)).stI _ _ _ (by omega) (by omega))
  · unfold wrS
    rw [sI_row, if_neg (by omega), sI_row, if_neg (by omega)]
    rfl
  · unfold wrS
    rw [mV_st0, mV_st0]
    unfold upV
    rw [if_neg (by unfold iK; omega), if_neg (by unfold iK; omega)]
    rfl
  · show sF (liS S y 9 p 120 _) (y + 2) _ = _
    unfold liS
    rw [sF_stFA, if_pos rfl]
    exact rng_out (by unfold lK; omega)
theorem sm_li {S : SS} {y p : Nat} {h : Nat → UInt32 → UInt32} (hp : p < 4) : Sm S (liS S y 9 p 120 h) y := by
  refine ⟨(Fr.refl _ _ _).stFA _ _ (by omega) (by omega), rfl, fun q hq => ⟨fun j hj => rfl, fun j hj => ?_⟩⟩
  unfold liS
  rw [sF_stFA, if_pos rfl]
  exact rng_out (by unfold lK; omega)
theorem sm_cp {S T : SS} {y : Nat} (h : Fr S T (y + 1) (y + 3)) (k : ∀ q, ¬ q = 9 → Qs S T y q q) : Sm S T y := ⟨h.mono (by omega) (by omega), h.i (by omega), fun q hq => k q (by omega)⟩
/-- what is so once a letter was tried on state 9 -/
theorem tried {S T : SS} {y p k w : Nat} (hP : PreM S y 0 p) (hk : k < 120) (hw : w < 5) (hT : Fr (lkS S y p 120) T (y + 1) (y + 3)) (q1 : Qs (lkS S y p 120) T y 9 0) (q2 : ∀ q, ¬ q = 9 → Qs (lkS S y p 120) T y q q) :
    PreM T y 9 p ∧ PreM (wrS T y 9 p k w 0) y 9 p ∧ PreM (wrS T y 9 p k w 0) y 0 p ∧ (∀ j, j < 120 → sI (wrS T y 9 p k w 0) (y + 4) j = bI (rdV (mV S y 0) (mG S y 0 p) j = true)) ∧ Sm S (wrS T y 9 p k w 0) y ∧
    DS (mV (wrS T y 9 p k w 0) y 9) (mV S y 0) ∧ GE (mG (wrS T y 9 p k w 0) y 9 p) (markV (mV S y 0) (mG S y 0 p) w k (nI 0)) ∧ GE (mG (wrS T y 9 p k w 0) y 0 p) (mG S y 0 p) := by
  obtain ⟨hM, -, hp4, hs, hG⟩ := hP
  have smT : Sm S T y := (sm_lk S y p 120).trans (sm_cp hT q2)
  have hMT : ModAt T y := smT.1.mod hM
  have e9 := q1.de
  rw [mV_lk] at e9
  have g9 : GE (mG T y 9 p) (mG S y 0 p) := by
    intro j hj
    have h1 := q1.1 (23 + 2 * (120 * p + j)) (by omega)
    have h2 := q1.1 (23 + 2 * (120 * p + j) + 1) (by omega)
    have h3 := q1.2 (120 * p + j) (by omega)
    simp only [← Nat.add_assoc] at h1 h2 h3
    have lk : sI (lkS S y p 120) (y + 1) = sI S (y + 1) := by
      unfold lkS
      rw [sI_stIA, if_neg (by omega)]
    rw [lk] at h1 h2
    exact ⟨h3, congrArg mtI h1, congrArg mwI h1, h2⟩
  have P9 : PreM T y 9 p := ⟨hMT, by omega, hp4, hs.ds e9.ds.symm, hG.congr g9.symm⟩
  have smW : Sm S (wrS T y 9 p k w 0) y := smT.trans (sm_wr hk hp4)
  have hMW : ModAt (wrS T y 9 p k w 0) y := smW.1.mod hM
  have dW : DS (mV (wrS T y 9 p k w 0) y 9) (mV T y 9) := by
    have r : ∀ j, j < 23 → sI (wrS T y 9 p k w 0) (y + 1) (983 * 9 + j) = sI T (y + 1) (983 * 9 + j) := fun j hj => by
      unfold wrS
      rw [mV_st0, mV_st0]
      unfold upV
      rw [if_neg (by unfold iK; omega), if_neg (by unfold iK; omega)]
      rfl
    refine ⟨fun i hi => r i (by omega), fun i hi => ?_⟩
    have := r (8 + i) (by omega)
    simp only [← Nat.add_assoc] at this
    exact this
  have dW2 := dW.trans e9.ds
  have gW := ge_wr (S := T) (y := y) (q := 9) (p := p) hk hw (show 0 < 26 by omega) p
  rw [if_pos rfl] at gW
  have gW2 := gW.trans (markV_ds e9.ds g9 hw k (nI 0))
  have g0 : GE (mG (wrS T y 9 p k w 0) y 0 p) (mG S y 0 p) := by
    intro j hj
    have q0 := smW.2.2 0 (by omega)
    have h1 := q0.1 (23 + 2 * (120 * p + j)) (by omega)
    have h2 := q0.1 (23 + 2 * (120 * p + j) + 1) (by omega)
    have h3 := q0.2 (120 * p + j) (by omega)
    simp only [← Nat.add_assoc] at h1 h2 h3
    exact ⟨h3, congrArg mtI h1, congrArg mwI h1, h2⟩
  refine ⟨P9, ⟨hMW, by omega, hp4, hs.ds dW2.symm, (GOK_mark hs hG hw (show 0 < 26 by omega)).congr gW2.symm⟩, ⟨hMW, by omega, hp4, hs.ds smW.de.ds.symm, hG.congr g0.symm⟩, fun j hj => ?_, smW, dW2, gW2, g0⟩
  unfold wrS
  rw [sI_row, if_neg (by omega), sI_row, if_neg (by omega)]
  show sI T (y + 4) j = _
  rw [hT.i (by omega)]
  unfold lkS
  rw [sI_stIA, if_pos rfl, if_pos hj]
theorem tried_room {D D2 : DV} {G G2 : GV} (h : DS D2 D) (k : GE G2 G) (hG : GOK G2) : cn (fun j => roV D2 G2 j) 120 = cn (fun j => roV D G j) 120 := cn_congr fun j hj => roV_ds h k hG hj
def P_X7_ifWritten (as : List Value) (S : SS) (E : Option Value → SS → Prop) : Prop := match as with
  | [.ref y, .int w, .int r, .int c, .int q] => ModAt S y ∧ DOK (mV S y 0) ∧ (¬ (0 ≤ w ∧ w < (mV S y 0).pp) ∨ (mV S y 0).dk = mI 6 ∨ ¬ Pl r c → E (some (.int (mI 1))) S) ∧ (∀ p a b wn, OnD (mV S y 0) p → a < 10 → b < 12 → r = nI a → c = nI b → 0 ≤ w → w < (mV S y 0).pp → w = nI wn → wn < 5 → ∀ T, Sm S T y → E (some (.int (iwV (mV S y 0) ((mV S y 0).g p) wn (a * 12 + b) q))) T)
  | _ => False
def Γ_X7_ifWritten : List (MI × PT) := [(mi_X7_isWriter, P_X7_isWriter), (mi_X7_isThere, P_X7_isThere), (mi_X7_in, P_X7_in), (mi_X7_spotOf, P_X7_spotOf), (mi_X7_looks, P_X7_looks), (mi_X7_copies, P_X7_copies), (mi_X7_writes, P_X7_writes), (mi_X7_spoilt, P_X7_spoilt), (mi_X7_tooDark, P_X7_tooDark), (mi_X7_rooms, P_X7_rooms)]
theorem hΓ_X7_ifWritten (l : Launch) (G : Gx) : ∀ q ∈ Γ_X7_ifWritten, Ct l G q.1 q.2 := List.forall_mem_cons.mpr ⟨ct_X7_isWriter l G, List.forall_mem_cons.mpr ⟨ct_X7_isThere l G, List.forall_mem_cons.mpr ⟨ct_X7_in l G, List.forall_mem_cons.mpr ⟨ct_X7_spotOf l G, List.forall_mem_cons.mpr ⟨ct_X7_looks l G, List.forall_mem_cons.mpr ⟨ct_X7_copies l G, List.forall_mem_cons.mpr ⟨ct_X7_writes l G, List.forall_mem_cons.mpr ⟨ct_X7_spoilt l G, List.forall_mem_cons.mpr ⟨ct_X7_tooDark l G, List.forall_mem_cons.mpr ⟨ct_X7_rooms l G, fun _ h => absurd h List.not_mem_nil⟩⟩⟩⟩⟩⟩⟩⟩⟩⟩
set_option maxHeartbeats 2000000 in
theorem ct_X7_ifWritten (l : Launch) (G : Gx) : Ct l G mi_X7_ifWritten P_X7_ifWritten := by
  refine Ct.ofV mo_X7_ifWritten (fun as S E h => ?_)
  unfold P_X7_ifWritten at h
  split at h
  case h_2 => exact h.elim
  rename_i y w r c q
  refine ⟨by simp [entL, mL_X7_ifWritten], ?_⟩
  refine wpN_ok (Γ := Γ_X7_ifWritten) (hΓ_X7_ifWritten l G) so_X7_ifWritten 9 _ _ _ _ _ _ ?_
  simp only [mL_X7_ifWritten, mT_X7_ifWritten, rc_X7_ifWritten, rs_X7_ifWritten, Γ_X7_ifWritten, sg_X7_ifWritten_0, sg_X7_ifWritten_17, sg_X7_ifWritten_19, sg_X7_ifWritten_35, sg_X7_ifWritten_94, sg_X7_ifWritten_111, sg_X7_ifWritten_119, wn_X7_ifWritten_0, wn_X7_ifWritten_17, wn_X7_ifWritten_19, wn_X7_ifWritten_35, wn_X7_ifWritten_94, wn_X7_ifWritten_111, wn_X7_ifWritten_119, wp_c, ex_c, x_nop, x_goto, x_table, x_iinc, x_ldc, x_ldc2, x_iaload, x_faload, x_baload, x_caload, x_iastore, x_fastore, x_bastore, x_castore, x_aastore, x_alen, x_gets, x_new, x_newa, x_anew, x_invs, x_invi, x_invv, x_ret, x_iret, x_lret, x_fret, x_aret, x_lconst, x_fconst0, x_fconst1, x_fconst2, x_dconst0, x_dconst1, x_null, x_iadd, x_isub, x_imul, x_iand, x_ior, x_idiv, x_irem, x_ineg, x_ishl, x_ishr, x_land, x_lor, x_lushr, x_lshl, x_lcmp, x_i2l, x_l2i, x_i2c, x_i2f, x_f2d, x_d2i, x_d2l, x_fadd, x_fsub, x_fmul, x_fdiv, x_dadd, x_dsub, x_dmul, x_ddiv, x_fcmp, x_dcmp, x_dupI, x_dupR, x_dup2, x_popI, x_popR, ldP_I, ldP_L, ldP_F, ldP_D, ldP_R, ldP_N, x_iload, x_iload_n, x_lload, x_lload_n, x_fload, x_fload_n, x_dload, x_dload_n, x_aload, x_aload_n, x_istore, x_istore_n, x_lstore, x_lstore_n, x_fstore, x_fstore_n, x_dstore, x_dstore_n, x_astore, x_astore_n, x_astoreN, x_astore_nN, x_icmp_eq, x_icmp_ne, x_icmp_lt, x_icmp_ge, x_icmp_gt, x_icmp_le, x_if_eq, x_if_ne, x_if_lt, x_if_ge, x_if_gt, x_if_le, x_ifnull, x_ifnullR, x_ifnn, x_ifnnR, x_aaload2, x_cpI, x_cpF, x_bF, x_bD, x_oI, xk_bipush_120, xk_iconst_0, xk_bipush_m6, xk_iconst_1, xk_bipush_80, xk_bipush_48, xk_bipush_57, xk_bipush_10, xk_bipush_64, xk_bipush_46, xk_bipush_97, xk_bipush_122, xk_bipush_119, xk_bipush_61, xk_bipush_59, xk_bipush_8, xk_bipush_33, xk_bipush_126, xk_bipush_m2, xk_bipush_m4, xk_iconst_4, xk_bipush_6, xk_iconst_2, xk_bipush_40, xk_iconst_3, xk_iconst_5, xk_iconst_m1, xk_bipush_m5, xk_bipush_12, xk_bipush_100, xk_bipush_26, xk_sipush_9999, xk_sipush_500, xk_bipush_7, xk_bipush_m126, xk_bipush_127, xk_bipush_23, xk_sipush_m1022, xk_sipush_1023, xk_bipush_52, xk_bipush_m3, xk_sipush_9830, xk_sipush_4800, xk_sipush_983, xk_sipush_480, xk_bipush_13, xk_bipush_18, xk_bipush_9, xk_bipush_32, xg_0_0, xp_0_0, xg_0_1, xp_0_1, xg_0_2, xp_0_2, xg_0_3, xp_0_3, xg_0_4, xp_0_4, xg_0_5, xp_0_5, xg_0_6, xp_0_6, xg_0_7, xp_0_7, xg_0_8, xp_0_8, xg_1_0, xp_1_0, xg_1_1, xp_1_1, xg_1_2, xp_1_2, xg_1_3, xp_1_3, xg_2_0, xp_2_0, xg_2_1, xp_2_1, xg_2_2, xp_2_2, xg_3_0, xp_3_0, xg_3_1, xp_3_1, xg_3_2, xp_3_2, xg_3_3, xp_3_3, xg_3_4, xp_3_4, xg_3_5, xp_3_5, xg_3_6, xp_3_6, xg_3_7, xp_3_7, xg_3_8, xp_3_8, xg_3_9, xp_3_9, xg_3_10, xp_3_10, xg_3_11, xp_3_11, xg_4_0, xp_4_0, xg_4_1, xp_4_1, xg_5_0, xp_5_0, xg_5_1, xp_5_1, xg_6_0, xp_6_0, xg_6_1, xp_6_1, xg_6_2, xp_6_2, xg_6_3, xp_6_3, xg_6_4, xp_6_4, xg_6_5, xp_6_5, xg_7_0, xp_7_0, xg_7_1, xp_7_1, xg_7_2, xp_7_2, xg_7_3, xp_7_3, xg_7_4, xp_7_4, xg_7_5, xp_7_5, xg_7_6, xp_7_6, xg_7_7, xp_7_7, xg_7_8, xp_7_8, xg_7_9, xp_7_9, xg_7_10, xp_7_10, xg_7_11, xp_7_11, xg_7_12, xp_7_12, xg_7_13, xp_7_13, fv0, fv1, fv2, fv3, kI_0, kI_1, stL, wipeL, entLn, entL, List.getElem?_cons_zero, List.getElem?_cons_succ, List.getElem?_nil, List.set_cons_zero, List.set_cons_succ, List.set_nil, List.length_cons, List.length_nil, List.cons_append, List.nil_append, List.replicate, Nat.reduceAdd, Nat.reduceLeDiff, Nat.reduceSub, true_and, and_true, x_callS, x_callSN, x_callI, x_callIN, x_callV0, x_callV1, x_callV2, x_callV3, x_callV4, x_callV5, x_callV6, x_callV7, callP, List.take_succ_cons, List.take_zero, List.take_nil, List.drop_succ_cons, List.drop_zero, List.drop_nil, List.getLast?_singleton, List.getLast?_cons_cons, Option.some.injEq, Value.ref.injEq, exists_eq_left, exists_eq_left', Nat.zero_le, Nat.add_zero, ldcV_f, ldcV_fn, ldcV_l, ldcV_d, Nat.reduceMul, Nat.le_refl, List.reverse_cons, List.reverse_nil, Option.toList, List.map_cons, List.map_nil, List.sum_cons, List.sum_nil, Value.category, tblW_n, tblW_c, Int.cast_ofNat_Int, Int.reduceAdd, Int.reduceToNat, ofI_n, rc_X7_isWriter, rs_X7_isWriter, P_X7_isWriter, rc_X7_isThere, rs_X7_isThere, P_X7_isThere, rc_X7_in, rs_X7_in, P_X7_in, rc_X7_spotOf, rs_X7_spotOf, P_X7_spotOf, rc_X7_looks, rs_X7_looks, P_X7_looks, rc_X7_copies, rs_X7_copies, P_X7_copies, rc_X7_writes, rs_X7_writes, P_X7_writes, rc_X7_spoilt, rs_X7_spoilt, P_X7_spoilt, rc_X7_tooDark, rs_X7_tooDark, P_X7_tooDark, rc_X7_rooms, rs_X7_rooms, P_X7_rooms]
  obtain ⟨hM, hD, h1, h2⟩ := h
  have hM0 := hM
  obtain ⟨m0, m1, m2, m3, m4, m5, m6, m7, m8, m9, m10⟩ := hM
  simp only [m0, m1, m2, m3, m4, m5, m6, m7, m8, m9, m10, hM0, hD.pp, bI_0, sK_stI, sR_stI, sK_stF, sR_stF, sK_stIA, sR_stIA, sK_stFA, sR_stFA, sI_stI, sI_stF, sI_stIA, sI_stFA, sF_stI, sF_stF, sF_stIA, sF_stFA, Nat.left_eq_add, Nat.add_eq_left, Nat.add_left_cancel_iff, Nat.reduceEqDiff, Nat.reduceEqDiff, Nat.succ_ne_self, false_and, and_false, if_false, if_true, nI_succ_sub, Option.some.injEq, Prod.mk.injEq, exists_eq_left', true_and, and_true, retI, retF, retV, retZ1, retZ0, retL, retA, retN, Nat.reduceAdd, Nat.reduceMul, Nat.reduceLT]
  by_cases c1 : (0 ≤ w ∧ w < (mV S y 0).pp)
  · by_cases c2 : ((mV S y 0).dk = mI 6 ∨ ¬ Pl r c)
    · simp only [c1, c2, not_true_eq_false, false_implies, true_and, not_false_eq_true, true_implies, and_true, and_self]
      exact h1 (Or.inr c2)
    · have c2' := c2
      rw [not_or, Decidable.not_not] at c2'
      obtain ⟨p, hp⟩ := (OnD_or hD).resolve_left c2'.1
      obtain ⟨a, b, ha, hb, rfl, rfl⟩ := Pl_of c2'.2
      obtain ⟨n, hn, en⟩ := hD.pp
      obtain ⟨wn, hwn, rfl⟩ := vp_in_of ((in_cmp (by omega)).mpr (en ▸ c1)) (by omega)
      have h2 := h2 p a b wn hp ha hb rfl rfl c1.1 c1.2 rfl (by omega)
      have hp4 := hp.2.1
      have edk := hp.1
      have hG := hD.2.2.2.2 p hp.2.2 hp4
      have hP : PreM S y 0 p := ⟨hM0, by omega, hp4, hD.1, hG⟩
      have ek : kP (nI a) (nI b) = a * 12 + b := kP_n ha hb
      have hk : a * 12 + b < 120 := by omega
      have hw : wn < 5 := by omega
      have eg : (mV S y 0).g p = mG S y 0 p := rfl
      rw [eg] at h2
      have hPl : Pl (nI a) (nI b) := c2'.2
      have h1M : ModAt (lkS S y p 120) y := hM0.mk' rfl rfl
      simp only [c1, c2, ek, not_true_eq_false, false_implies, true_and, not_false_eq_true, true_implies, and_true]
      simp (disch := omega) only [nlt0, nge0, neq0, ngt0, nle0, nI_ltI, nI_leI, nI_eq, nI_cl, in_nI, false_implies, true_implies, not_false_eq_true, not_true_eq_false, and_true, true_and, nI_add, pk_mul, implies_true, not_lt0, mV_dk, edk, hP, lc0, lc1, n_i64le, i64n_le, i64le, le_9, le_11, le_25, nI0_le, retZb, true_and, and_true]
      simp (disch := omega) only [nlt0, nge0, neq0, ngt0, nle0, nI_ltI, nI_leI, nI_eq, nI_cl, in_nI, false_implies, true_implies, not_false_eq_true, not_true_eq_false, and_true, true_and, nI_add, pk_mul, implies_true, not_lt0, h1M, h1M.1, true_and]
      unfold iwV at h2
      by_cases c3 : (0 ≤ q ∧ q ≤ nI 2)
      · obtain ⟨qn, hq, rfl⟩ := vp_in_of ((in_cmp (n := 3) (by omega)).mpr ⟨c3.1, Int32.lt_of_le_of_lt c3.2 (by decide)⟩) (by omega)
        simp only [c3, not_true_eq_false, false_implies, true_and, not_false_eq_true, true_implies, and_true]
        refine ⟨by omega, hPl, hp4, by omega, by omega, fun T hT q1 q2 => ?_⟩
        obtain ⟨t1, t2, t3, t4, t5, t6, t7, t8⟩ := tried hP hk hw hT q1 q2
        have hW := t5.1.mod hM0
        simp (disch := omega) only [nlt0, nge0, neq0, ngt0, nle0, nI_ltI, nI_leI, nI_eq, nI_cl, in_nI, false_implies, true_implies, not_false_eq_true, not_true_eq_false, and_true, true_and, nI_add, pk_mul, implies_true, not_lt0, t1, t2, t3, t1.1.1, hW.1]
        simp (disch := omega) only [nI_eq] at h2
        refine ⟨by omega, hp4, hk, hw, by omega, fun c4 => ⟨fun c5 => ⟨by omega, hp4, ?_⟩, fun c5 => ⟨hp4, ?_⟩⟩, fun c4 => ⟨by omega, hp4, fun j => rdV (mV S y 0) (mG S y 0 p) j, t4, ?_⟩⟩
        · rw [if_neg c4, if_neg c5, if_pos (by omega)] at h2
          rw [tried_room t6 t7 t2.2.2.2.2]
          exact h2 _ t5
        · rw [if_neg c4, if_pos (Decidable.not_not.mp c5)] at h2
          have e : cn (fun j => !decide (nI j = nI (a * 12 + b)) && !decide ((mG (wrS T y 9 p (a * 12 + b) wn 0) y 0 p).p j = mI 6) && enV (mV (wrS T y 9 p (a * 12 + b) wn 0) y 0) ((mG (wrS T y 9 p (a * 12 + b) wn 0) y 0 p).l j) && !enV (mV (wrS T y 9 p (a * 12 + b) wn 0) y 0) ((mG (wrS T y 9 p (a * 12 + b) wn 0) y 9 p).l j)) 120 = darkV (mV S y 0) (mG S y 0 p) wn (a * 12 + b) 120 := by
            unfold darkV
            refine cn_congr fun j hj => ?_
            have e1 : decide (nI j = nI (a * 12 + b)) = decide (j = a * 12 + b) := decide_eq_decide.mpr (nI_eq (by omega) (by omega))
            have e2 : (mG (wrS T y 9 p (a * 12 + b) wn 0) y 9 p).l j = dimV (mV S y 0) ((mG S y 0 p).l j) wn (dist (a * 12 + b) j) := (t7 j hj).1
            rw [e1, e2, (t8 j hj).1, (t8 j hj).2.2.2, enV_ds t5.de.ds, enV_ds t5.de.ds]
          rw [e]
          exact h2 _ t5
        · rw [if_pos (Decidable.not_not.mp c4)] at h2
          rw [spV_lost t6 t7 hw (show 0 < 26 by omega) (Or.inr rfl) hk]
          exact h2 _ t5
      · have no : ∀ k, k ≤ 2 → ¬ q = nI k := fun k hk e => c3 (by rw [e]; exact ⟨nI_pos' (by omega), nI_le hk (by omega)⟩)
        rw [if_neg (no 0 (by omega)), if_neg (no 1 (by omega)), if_neg (no 2 (by omega))] at h2
        simp only [c3, not_true_eq_false, false_implies, true_and, not_false_eq_true, true_implies, and_true]
        exact h2 S (Sm.refl S y)
  · simp only [c1, not_true_eq_false, false_implies, true_and, not_false_eq_true, true_implies, and_true]
    exact h1 (Or.inl c1)

def P_X7_whoDims (as : List Value) (S : SS) (E : Option Value → SS → Prop) : Prop := match as with
  | [.ref y, .int r, .int c] => ModAt S y ∧ DOK (mV S y 0) ∧ ((mV S y 0).dk = mI 6 ∨ ¬ Pl r c → E (some (.int (mI 1))) S) ∧ (∀ p a b n, OnD (mV S y 0) p → a < 10 → b < 12 → r = nI a → c = nI b → n ≤ 5 → (mV S y 0).pp = nI n → E (some (.int (whoS (mV S y 0) ((mV S y 0).g p) (a * 12 + b) n).1)) S)
  | _ => False
def Γ_X7_whoDims : List (MI × PT) := [(mi_X7_isThere, P_X7_isThere), (mi_X7_spotOf, P_X7_spotOf), (mi_X7_leaves, P_X7_leaves)]
theorem hΓ_X7_whoDims (l : Launch) (G : Gx) : ∀ q ∈ Γ_X7_whoDims, Ct l G q.1 q.2 := List.forall_mem_cons.mpr ⟨ct_X7_isThere l G, List.forall_mem_cons.mpr ⟨ct_X7_spotOf l G, List.forall_mem_cons.mpr ⟨ct_X7_leaves l G, fun _ h => absurd h List.not_mem_nil⟩⟩⟩
theorem whoS_s' (D : DV) (G : GV) (k n : Nat) : whoS D G k (n + 1) = if ltF (leftV D G n k 120) (whoS D G k n).2 = true then (nI n, leftV D G n k 120) else whoS D G k n := rfl
set_option maxHeartbeats 1000000 in
theorem lp_X7_whoDims (l : Launch) (G : Gx) {S : SS} {y p a b n : Nat} {E : Option Value → SS → Prop} (hM : ModAt S y) (hD : DOK (mV S y 0)) (hp : OnD (mV S y 0) p) (ha : a < 10) (hb : b < 12) (hn : n ≤ 5) (en : (mV S y 0).pp = nI n) (h : E (some (.int (whoS (mV S y 0) ((mV S y 0).g p) (a * 12 + b) n).1)) S) :
    ∀ w, w ≤ n → ∀ x6, V l G mi_X7_whoDims E 20 [some (.ref y), some (.int (nI a)), some (.int (nI b)), some (.int (whoS (mV S y 0) ((mV S y 0).g p) (a * 12 + b) w).1), some (.float (whoS (mV S y 0) ((mV S y 0).g p) (a * 12 + b) w).2), some (.int (nI w)), x6] [] S 0 0 := by
  refine loopUp n fun w hw ih x6 => ?_
  refine (V.segN (Γ := Γ_X7_whoDims) (hΓ_X7_whoDims l G) so_X7_whoDims 9 (sg := sg_X7_whoDims_20) so_X7_whoDims_20 ?_ : V l G mi_X7_whoDims _ (segPc sg_X7_whoDims_20) _ _ _ _ _)
  simp only [mL_X7_whoDims, mT_X7_whoDims, rc_X7_whoDims, rs_X7_whoDims, Γ_X7_whoDims, sg_X7_whoDims_0, sg_X7_whoDims_11, sg_X7_whoDims_20, sg_X7_whoDims_58, sg_X7_whoDims_59, sg_X7_whoDims_73, sg_X7_whoDims_75, sg_X7_whoDims_83, wn_X7_whoDims_0, wn_X7_whoDims_11, wn_X7_whoDims_20, wn_X7_whoDims_58, wn_X7_whoDims_59, wn_X7_whoDims_73, wn_X7_whoDims_75, wn_X7_whoDims_83, wp_c, ex_c, x_nop, x_goto, x_table, x_iinc, x_ldc, x_ldc2, x_iaload, x_faload, x_baload, x_caload, x_iastore, x_fastore, x_bastore, x_castore, x_aastore, x_alen, x_gets, x_new, x_newa, x_anew, x_invs, x_invi, x_invv, x_ret, x_iret, x_lret, x_fret, x_aret, x_lconst, x_fconst0, x_fconst1, x_fconst2, x_dconst0, x_dconst1, x_null, x_iadd, x_isub, x_imul, x_iand, x_ior, x_idiv, x_irem, x_ineg, x_ishl, x_ishr, x_land, x_lor, x_lushr, x_lshl, x_lcmp, x_i2l, x_l2i, x_i2c, x_i2f, x_f2d, x_d2i, x_d2l, x_fadd, x_fsub, x_fmul, x_fdiv, x_dadd, x_dsub, x_dmul, x_ddiv, x_fcmp, x_dcmp, x_dupI, x_dupR, x_dup2, x_popI, x_popR, ldP_I, ldP_L, ldP_F, ldP_D, ldP_R, ldP_N, x_iload, x_iload_n, x_lload, x_lload_n, x_fload, x_fload_n, x_dload, x_dload_n, x_aload, x_aload_n, x_istore, x_istore_n, x_lstore, x_lstore_n, x_fstore, x_fstore_n, x_dstore, x_dstore_n, x_astore, x_astore_n, x_astoreN, x_astore_nN, x_icmp_eq, x_icmp_ne, x_icmp_lt, x_icmp_ge, x_icmp_gt, x_icmp_le, x_if_eq, x_if_ne, x_if_lt, x_if_ge, x_if_gt, x_if_le, x_ifnull, x_ifnullR, x_ifnn, x_ifnnR, x_aaload2, x_cpI, x_cpF, x_bF, x_bD, x_oI, xk_bipush_120, xk_iconst_0, xk_bipush_m6, xk_iconst_1, xk_bipush_80, xk_bipush_48, xk_bipush_57, xk_bipush_10, xk_bipush_64, xk_bipush_46, xk_bipush_97, xk_bipush_122, xk_bipush_119, xk_bipush_61, xk_bipush_59, xk_bipush_8, xk_bipush_33, xk_bipush_126, xk_bipush_m2, xk_bipush_m4, xk_iconst_4, xk_bipush_6, xk_iconst_2, xk_bipush_40, xk_iconst_3, xk_iconst_5, xk_iconst_m1, xk_bipush_m5, xk_bipush_12, xk_bipush_100, xk_bipush_26, xk_sipush_9999, xk_sipush_500, xk_bipush_7, xk_bipush_m126, xk_bipush_127, xk_bipush_23, xk_sipush_m1022, xk_sipush_1023, xk_bipush_52, xk_bipush_m3, xk_sipush_9830, xk_sipush_4800, xk_sipush_983, xk_sipush_480, xk_bipush_13, xk_bipush_18, xk_bipush_9, xk_bipush_32, xg_0_0, xp_0_0, xg_0_1, xp_0_1, xg_0_2, xp_0_2, xg_0_3, xp_0_3, xg_0_4, xp_0_4, xg_0_5, xp_0_5, xg_0_6, xp_0_6, xg_0_7, xp_0_7, xg_0_8, xp_0_8, xg_1_0, xp_1_0, xg_1_1, xp_1_1, xg_1_2, xp_1_2, xg_1_3, xp_1_3, xg_2_0, xp_2_0, xg_2_1, xp_2_1, xg_2_2, xp_2_2, xg_3_0, xp_3_0, xg_3_1, xp_3_1, xg_3_2, xp_3_2, xg_3_3, xp_3_3, xg_3_4, xp_3_4, xg_3_5, xp_3_5, xg_3_6, xp_3_6, xg_3_7, xp_3_7, xg_3_8, xp_3_8, xg_3_9, xp_3_9, xg_3_10, xp_3_10, xg_3_11, xp_3_11, xg_4_0, xp_4_0, xg_4_1, xp_4_1, xg_5_0, xp_5_0, xg_5_1, xp_5_1, xg_6_0, xp_6_0, xg_6_1, xp_6_1, xg_6_2, xp_6_2, xg_6_3, xp_6_3, xg_6_4, xp_6_4, xg_6_5, xp_6_5, xg_7_0, xp_7_0, xg_7_1, xp_7_1, xg_7_2, xp_7_2, xg_7_3, xp_7_3, xg_7_4, xp_7_4, xg_7_5, xp_7_5, xg_7_6, xp_7_6, xg_7_7, xp_7_7, xg_7_8, xp_7_8, xg_7_9, xp_7_9, xg_7_10, xp_7_10, xg_7_11, xp_7_11, xg_7_12, xp_7_12, xg_7_13, xp_7_13, fv0, fv1, fv2, fv3, kI_0, kI_1, stL, wipeL, entLn, entL, List.getElem?_cons_zero, List.getElem?_cons_succ, List.getElem?_nil, List.set_cons_zero, List.set_cons_succ, List.set_nil, List.length_cons, List.length_nil, List.cons_append, List.nil_append, List.replicate, Nat.reduceAdd, Nat.reduceLeDiff, Nat.reduceSub, true_and, and_true, x_callS, x_callSN, x_callI, x_callIN, x_callV0, x_callV1, x_callV2, x_callV3, x_callV4, x_callV5, x_callV6, x_callV7, callP, List.take_succ_cons, List.take_zero, List.take_nil, List.drop_succ_cons, List.drop_zero, List.drop_nil, List.getLast?_singleton, List.getLast?_cons_cons, Option.some.injEq, Value.ref.injEq, exists_eq_left, exists_eq_left', Nat.zero_le, Nat.add_zero, ldcV_f, ldcV_fn, ldcV_l, ldcV_d, Nat.reduceMul, Nat.le_refl, List.reverse_cons, List.reverse_nil, Option.toList, List.map_cons, List.map_nil, List.sum_cons, List.sum_nil, Value.category, tblW_n, tblW_c, Int.cast_ofNat_Int, Int.reduceAdd, Int.reduceToNat, ofI_n, rc_X7_isThere, rs_X7_isThere, P_X7_isThere, rc_X7_spotOf, rs_X7_spotOf, P_X7_spotOf, rc_X7_leaves, rs_X7_leaves, P_X7_leaves]
  have en' : sI S (y + 1) 7 = nI n := en
  have hM0 := hM
  obtain ⟨m0, m1, m2, m3, m4, m5, m6, m7, m8, m9, m10⟩ := hM
  have ek : kP (nI a) (nI b) = a * 12 + b := kP_n ha hb
  have hPl : Pl (nI a) (nI b) := ⟨nI_pos' (by omega), nI_lt ha (by omega), nI_pos' (by omega), nI_lt hb (by omega)⟩
  simp only [m0, m1, m2, m3, m4, m5, m6, m7, m8, m9, m10, hM0, hD, ek, sK_stI, sR_stI, sK_stF, sR_stF, sK_stIA, sR_stIA, sK_stFA, sR_stFA, sI_stI, sI_stF, sI_stIA, sI_stFA, sF_stI, sF_stF, sF_stIA, sF_stFA, Nat.left_eq_add, Nat.add_eq_left, Nat.add_left_cancel_iff, Nat.reduceEqDiff, Nat.reduceEqDiff, Nat.succ_ne_self, false_and, and_false, if_false, if_true, nI_succ_sub, Option.some.injEq, Prod.mk.injEq, exists_eq_left', true_and, and_true, retI, retF, retV, retZ1, retZ0, retL, retA, retN, Nat.reduceAdd, Nat.reduceMul, Nat.reduceLT]
  simp (disch := omega) only [nlt0, nge0, neq0, ngt0, nle0, nI_ltI, nI_leI, nI_eq, nI_cl, in_nI, false_implies, true_implies, not_false_eq_true, not_true_eq_false, and_true, true_and, nI_add, pk_mul, implies_true, not_lt0, en']
  refine ⟨by omega, fun c => ?_, fun c => ⟨hPl, by omega, by omega, p, hp, fun c2 => ⟨fun _ => ?_, fun c3 => absurd c2 c3⟩, fun c2 => ⟨fun c3 => absurd c3 c2, fun _ => ?_⟩⟩⟩
  · have e : w = n := by omega
    subst e
    exact h
  · have ih := ih (by omega)
    rw [whoS_s'] at ih
    unfold ltF at ih
    rw [if_neg (by simpa using c2)] at ih
    exact ih _
  · have ih := ih (by omega)
    rw [whoS_s'] at ih
    unfold ltF at ih
    rw [if_pos (by simpa using c2)] at ih
    exact ih _
set_option maxHeartbeats 1000000 in
theorem ct_X7_whoDims (l : Launch) (G : Gx) : Ct l G mi_X7_whoDims P_X7_whoDims := by
  refine Ct.ofV mo_X7_whoDims (fun as S E h => ?_)
  unfold P_X7_whoDims at h
  split at h
  case h_2 => exact h.elim
  rename_i y r c
  refine ⟨by simp [entL, mL_X7_whoDims], ?_⟩
  refine wpN_ok (Γ := Γ_X7_whoDims) (hΓ_X7_whoDims l G) so_X7_whoDims 9 _ _ _ _ _ _ ?_
  simp only [mL_X7_whoDims, mT_X7_whoDims, rc_X7_whoDims, rs_X7_whoDims, Γ_X7_whoDims, sg_X7_whoDims_0, sg_X7_whoDims_11, sg_X7_whoDims_20, sg_X7_whoDims_58, sg_X7_whoDims_59, sg_X7_whoDims_73, sg_X7_whoDims_75, sg_X7_whoDims_83, wn_X7_whoDims_0, wn_X7_whoDims_11, wn_X7_whoDims_20, wn_X7_whoDims_58, wn_X7_whoDims_59, wn_X7_whoDims_73, wn_X7_whoDims_75, wn_X7_whoDims_83, wp_c, ex_c, x_nop, x_goto, x_table, x_iinc, x_ldc, x_ldc2, x_iaload, x_faload, x_baload, x_caload, x_iastore, x_fastore, x_bastore, x_castore, x_aastore, x_alen, x_gets, x_new, x_newa, x_anew, x_invs, x_invi, x_invv, x_ret, x_iret, x_lret, x_fret, x_aret, x_lconst, x_fconst0, x_fconst1, x_fconst2, x_dconst0, x_dconst1, x_null, x_iadd, x_isub, x_imul, x_iand, x_ior, x_idiv, x_irem, x_ineg, x_ishl, x_ishr, x_land, x_lor, x_lushr, x_lshl, x_lcmp, x_i2l, x_l2i, x_i2c, x_i2f, x_f2d, x_d2i, x_d2l, x_fadd, x_fsub, x_fmul, x_fdiv, x_dadd, x_dsub, x_dmul, x_ddiv, x_fcmp, x_dcmp, x_dupI, x_dupR, x_dup2, x_popI, x_popR, ldP_I, ldP_L, ldP_F, ldP_D, ldP_R, ldP_N, x_iload, x_iload_n, x_lload, x_lload_n, x_fload, x_fload_n, x_dload, x_dload_n, x_aload, x_aload_n, x_istore, x_istore_n, x_lstore, x_lstore_n, x_fstore, x_fstore_n, x_dstore, x_dstore_n, x_astore, x_astore_n, x_astoreN, x_astore_nN, x_icmp_eq, x_icmp_ne, x_icmp_lt, x_icmp_ge, x_icmp_gt, x_icmp_le, x_if_eq, x_if_ne, x_if_lt, x_if_ge, x_if_gt, x_if_le, x_ifnull, x_ifnullR, x_ifnn, x_ifnnR, x_aaload2, x_cpI, x_cpF, x_bF, x_bD, x_oI, xk_bipush_120, xk_iconst_0, xk_bipush_m6, xk_iconst_1, xk_bipush_80, xk_bipush_48, xk_bipush_57, xk_bipush_10, xk_bipush_64, xk_bipush_46, xk_bipush_97, xk_bipush_122, xk_bipush_119, xk_bipush_61, xk_bipush_59, xk_bipush_8, xk_bipush_33, xk_bipush_126, xk_bipush_m2, xk_bipush_m4, xk_iconst_4, xk_bipush_6, xk_iconst_2, xk_bipush_40, xk_iconst_3, xk_iconst_5, xk_iconst_m1, xk_bipush_m5, xk_bipush_12, xk_bipush_100, xk_bipush_26, xk_sipush_9999, xk_sipush_500, xk_bipush_7, xk_bipush_m126, xk_bipush_127, xk_bipush_23, xk_sipush_m1022, xk_sipush_1023, xk_bipush_52, xk_bipush_m3, xk_sipush_9830, xk_sipush_4800, xk_sipush_983, xk_sipush_480, xk_bipush_13, xk_bipush_18, xk_bipush_9, xk_bipush_32, xg_0_0, xp_0_0, xg_0_1, xp_0_1, xg_0_2, xp_0_2, xg_0_3, xp_0_3, xg_0_4, xp_0_4, xg_0_5, xp_0_5, xg_0_6, xp_0_6, xg_0_7, xp_0_7, xg_0_8, xp_0_8, xg_1_0, xp_1_0, xg_1_1, xp_1_1, xg_1_2, xp_1_2, xg_1_3, xp_1_3, xg_2_0, xp_2_0, xg_2_1, xp_2_1, xg_2_2, xp_2_2, xg_3_0, xp_3_0, xg_3_1, xp_3_1, xg_3_2, xp_3_2, xg_3_3, xp_3_3, xg_3_4, xp_3_4, xg_3_5, xp_3_5, xg_3_6, xp_3_6, xg_3_7, xp_3_7, xg_3_8, xp_3_8, xg_3_9, xp_3_9, xg_3_10, xp_3_10, xg_3_11, xp_3_11, xg_4_0, xp_4_0, xg_4_1, xp_4_1, xg_5_0, xp_5_0, xg_5_1, xp_5_1, xg_6_0, xp_6_0, xg_6_1, xp_6_1, xg_6_2, xp_6_2, xg_6_3, xp_6_3, xg_6_4, xp_6_4, xg_6_5, xp_6_5, xg_7_0, xp_7_0, xg_7_1, xp_7_1, xg_7_2, xp_7_2, xg_7_3, xp_7_3, xg_7_4, xp_7_4, xg_7_5, xp_7_5, xg_7_6, xp_7_6, xg_7_7, xp_7_7, xg_7_8, xp_7_8, xg_7_9, xp_7_9, xg_7_10, xp_7_10, xg_7_11, xp_7_11, xg_7_12, xp_7_12, xg_7_13, xp_7_13, fv0, fv1, fv2, fv3, kI_0, kI_1, stL, wipeL, entLn, entL, List.getElem?_cons_zero, List.getElem?_cons_succ, List.getElem?_nil, List.set_cons_zero, List.set_cons_succ, List.set_nil, List.length_cons, List.length_nil, List.cons_append, List.nil_append, List.replicate, Nat.reduceAdd, Nat.reduceLeDiff, Nat.reduceSub, true_and, and_true, x_callS, x_callSN, x_callI, x_callIN, x_callV0, x_callV1, x_callV2, x_callV3, x_callV4, x_callV5, x_callV6, x_callV7, callP, List.take_succ_cons, List.take_zero, List.take_nil, List.drop_succ_cons, List.drop_zero, List.drop_nil, List.getLast?_singleton, List.getLast?_cons_cons, Option.some.injEq, Value.ref.injEq, exists_eq_left, exists_eq_left', Nat.zero_le, Nat.add_zero, ldcV_f, ldcV_fn, ldcV_l, ldcV_d, Nat.reduceMul, Nat.le_refl, List.reverse_cons, List.reverse_nil, Option.toList, List.map_cons, List.map_nil, List.sum_cons, List.sum_nil, Value.category, tblW_n, tblW_c, Int.cast_ofNat_Int, Int.reduceAdd, Int.reduceToNat, ofI_n, rc_X7_isThere, rs_X7_isThere, P_X7_isThere, rc_X7_spotOf, rs_X7_spotOf, P_X7_spotOf, rc_X7_leaves, rs_X7_leaves, P_X7_leaves]
  obtain ⟨hM, hD, h1, h2⟩ := h
  simp only [hM.1, hM, bI_0, sK_stI, sR_stI, sK_stF, sR_stF, sK_stIA, sR_stIA, sK_stFA, sR_stFA, sI_stI, sI_stF, sI_stIA, sI_stFA, sF_stI, sF_stF, sF_stIA, sF_stFA, Nat.left_eq_add, Nat.add_eq_left, Nat.add_left_cancel_iff, Nat.reduceEqDiff, Nat.reduceEqDiff, Nat.succ_ne_self, false_and, and_false, if_false, if_true, nI_succ_sub, Option.some.injEq, Prod.mk.injEq, exists_eq_left', true_and, and_true, retI, retF, retV, retZ1, retZ0, retL, retA, retN, Nat.reduceAdd, Nat.reduceMul, Nat.reduceLT]
  by_cases c2 : ((mV S y 0).dk = mI 6 ∨ ¬ Pl r c)
  · simp only [c2, not_true_eq_false, false_implies, true_and, not_false_eq_true, true_implies, and_true]
    exact h1 c2
  · have c2' := c2
    rw [not_or, Decidable.not_not] at c2'
    obtain ⟨p, hp⟩ := (OnD_or hD).resolve_left c2'.1
    obtain ⟨a, b, ha, hb, rfl, rfl⟩ := Pl_of c2'.2
    obtain ⟨n, hn, en⟩ := hD.pp
    simp only [c2, not_true_eq_false, false_implies, true_and, not_false_eq_true, true_implies, and_true]
    exact lp_X7_whoDims l G hM hD hp ha hb hn en (h2 p a b n hp ha hb rfl rfl hn en) 0 (by omega) none
def P_X7_isSlot (as : List Value) (S : SS) (E : Option Value → SS → Prop) : Prop := match as with
  | [.int s] => E (some (.int (bI (s = nI 0 ∨ s = nI 1)))) S
  | _ => False
def Γ_X7_isSlot : List (MI × PT) := []
theorem hΓ_X7_isSlot (l : Launch) (G : Gx) : ∀ q ∈ Γ_X7_isSlot, Ct l G q.1 q.2 := fun _ h => absurd h List.not_mem_nil
set_option maxHeartbeats 1000000 in
theorem ct_X7_isSlot (l : Launch) (G : Gx) : Ct l G mi_X7_isSlot P_X7_isSlot := by
  refine Ct.ofV mo_X7_isSlot (fun as S E h => ?_)
  unfold P_X7_isSlot at h
  split at h
  case h_2 => exact h.elim
  rename_i s
  refine ⟨by simp [entL, mL_X7_isSlot], ?_⟩
  refine wpN_ok (Γ := Γ_X7_isSlot) (hΓ_X7_isSlot l G) so_X7_isSlot 6 _ _ _ _ _ _ ?_
  simp only [mL_X7_isSlot, mT_X7_isSlot, rc_X7_isSlot, rs_X7_isSlot, Γ_X7_isSlot, sg_X7_isSlot_0, sg_X7_isSlot_9, sg_X7_isSlot_13, sg_X7_isSlot_14, wn_X7_isSlot_0, wn_X7_isSlot_9, wn_X7_isSlot_13, wn_X7_isSlot_14, wp_c, ex_c, x_nop, x_goto, x_table, x_iinc, x_ldc, x_ldc2, x_iaload, x_faload, x_baload, x_caload, x_iastore, x_fastore, x_bastore, x_castore, x_aastore, x_alen, x_gets, x_new, x_newa, x_anew, x_invs, x_invi, x_invv, x_ret, x_iret, x_lret, x_fret, x_aret, x_lconst, x_fconst0, x_fconst1, x_fconst2, x_dconst0, x_dconst1, x_null, x_iadd, x_isub, x_imul, x_iand, x_ior, x_idiv, x_irem, x_ineg, x_ishl, x_ishr, x_land, x_lor, x_lushr, x_lshl, x_lcmp, x_i2l, x_l2i, x_i2c, x_i2f, x_f2d, x_d2i, x_d2l, x_fadd, x_fsub, x_fmul, x_fdiv, x_dadd, x_dsub, x_dmul, x_ddiv, x_fcmp, x_dcmp, x_dupI, x_dupR, x_dup2, x_popI, x_popR, ldP_I, ldP_L, ldP_F, ldP_D, ldP_R, ldP_N, x_iload, x_iload_n, x_lload, x_lload_n, x_fload, x_fload_n, x_dload, x_dload_n, x_aload, x_aload_n, x_istore, x_istore_n, x_lstore, x_lstore_n, x_fstore, x_fstore_n, x_dstore, x_dstore_n, x_astore, x_astore_n, x_astoreN, x_astore_nN, x_icmp_eq, x_icmp_ne, x_icmp_lt, x_icmp_ge, x_icmp_gt, x_icmp_le, x_if_eq, x_if_ne, x_if_lt, x_if_ge, x_if_gt, x_if_le, x_ifnull, x_ifnullR, x_ifnn, x_ifnnR, x_aaload2, x_cpI, x_cpF, x_bF, x_bD, x_oI, xk_bipush_120, xk_iconst_0, xk_bipush_m6, xk_iconst_1, xk_bipush_80, xk_bipush_48, xk_bipush_57, xk_bipush_10, xk_bipush_64, xk_bipush_46, xk_bipush_97, xk_bipush_122, xk_bipush_119, xk_bipush_61, xk_bipush_59, xk_bipush_8, xk_bipush_33, xk_bipush_126, xk_bipush_m2, xk_bipush_m4, xk_iconst_4, xk_bipush_6, xk_iconst_2, xk_bipush_40, xk_iconst_3, xk_iconst_5, xk_iconst_m1, xk_bipush_m5, xk_bipush_12, xk_bipush_100, xk_bipush_26, xk_sipush_9999, xk_sipush_500, xk_bipush_7, xk_bipush_m126, xk_bipush_127, xk_bipush_23, xk_sipush_m1022, xk_sipush_1023, xk_bipush_52, xk_bipush_m3, xk_sipush_9830, xk_sipush_4800, xk_sipush_983, xk_sipush_480, xk_bipush_13, xk_bipush_18, xk_bipush_9, xk_bipush_32, xg_0_0, xp_0_0, xg_0_1, xp_0_1, xg_0_2, xp_0_2, xg_0_3, xp_0_3, xg_0_4, xp_0_4, xg_0_5, xp_0_5, xg_0_6, xp_0_6, xg_0_7, xp_0_7, xg_0_8, xp_0_8, xg_1_0, xp_1_0, xg_1_1, xp_1_1, xg_1_2, xp_1_2, xg_1_3, xp_1_3, xg_2_0, xp_2_0, xg_2_1, xp_2_1, xg_2_2, xp_2_2, xg_3_0, xp_3_0, xg_3_1, xp_3_1, xg_3_2, xp_3_2, xg_3_3, xp_3_3, xg_3_4, xp_3_4, xg_3_5, xp_3_5, xg_3_6, xp_3_6, xg_3_7, xp_3_7, xg_3_8, xp_3_8, xg_3_9, xp_3_9, xg_3_10, xp_3_10, xg_3_11, xp_3_11, xg_4_0, xp_4_0, xg_4_1, xp_4_1, xg_5_0, xp_5_0, xg_5_1, xp_5_1, xg_6_0, xp_6_0, xg_6_1, xp_6_1, xg_6_2, xp_6_2, xg_6_3, xp_6_3, xg_6_4, xp_6_4, xg_6_5, xp_6_5, xg_7_0, xp_7_0, xg_7_1, xp_7_1, xg_7_2, xp_7_2, xg_7_3, xp_7_3, xg_7_4, xp_7_4, xg_7_5, xp_7_5, xg_7_6, xp_7_6, xg_7_7, xp_7_7, xg_7_8, xp_7_8, xg_7_9, xp_7_9, xg_7_10, xp_7_10, xg_7_11, xp_7_11, xg_7_12, xp_7_12, xg_7_13, xp_7_13, fv0, fv1, fv2, fv3, kI_0, kI_1, stL, wipeL, entLn, entL, List.getElem?_cons_zero, List.getElem?_cons_succ, List.getElem?_nil, List.set_cons_zero, List.set_cons_succ, List.set_nil, List.length_cons, List.length_nil, List.cons_append, List.nil_append, List.replicate, Nat.reduceAdd, Nat.reduceLeDiff, Nat.reduceSub, true_and, and_true, x_callS, x_callSN, x_callI, x_callIN, x_callV0, x_callV1, x_callV2, x_callV3, x_callV4, x_callV5, x_callV6, x_callV7, callP, List.take_succ_cons, List.take_zero, List.take_nil, List.drop_succ_cons, List.drop_zero, List.drop_nil, List.getLast?_singleton, List.getLast?_cons_cons, Option.some.injEq, Value.ref.injEq, exists_eq_left, exists_eq_left', Nat.zero_le, Nat.add_zero, ldcV_f, ldcV_fn, ldcV_l, ldcV_d, Nat.reduceMul, Nat.le_refl, List.reverse_cons, List.reverse_nil, Option.toList, List.map_cons, List.map_nil, List.sum_cons, List.sum_nil, Value.category, tblW_n, tblW_c, Int.cast_ofNat_Int, Int.reduceAdd, Int.reduceToNat, ofI_n]
  simp only [← nI_0, sK_stI, sR_stI, sK_stF, sR_stF, sK_stIA, sR_stIA, sK_stFA, sR_stFA, sI_stI, sI_stF, sI_stIA, sI_stFA, sF_stI, sF_stF, sF_stIA, sF_stFA, Nat.left_eq_add, Nat.add_eq_left, Nat.add_left_cancel_iff, Nat.reduceEqDiff, Nat.reduceEqDiff, Nat.succ_ne_self, false_and, and_false, if_false, if_true, nI_succ_sub, Option.some.injEq, Prod.mk.injEq, exists_eq_left', true_and, and_true, retI, retF, retV, retZ1, retZ0, retL, retA, retN, Nat.reduceAdd, Nat.reduceMul, Nat.reduceLT]
  unfold bI at h
  ((repeat' (first | with_reducible apply And.intro | with_reducible intro _)) <;> first | omega | assumption | (simp_all; done))
def P_X7_save (as : List Value) (S : SS) (E : Option Value → SS → Prop) : Prop := match as with
  | [.ref y, .int s] => ModAt S y ∧ (¬ (s = nI 0 ∨ s = nI 1) → E (some (.int (mI 2))) S) ∧ (∀ j, j < 2 → s = nI j → ∀ T, Fr S T (y + 1) (y + 3) → Qs S T y (7 + j) 0 → (∀ q, ¬ q = 7 + j → Qs S T y q q) → E (some (.int (mV S y 0).pl)) (stI T (y + 3) j (nI 1)))
  | _ => False
def Γ_X7_save : List (MI × PT) := [(mi_X7_isSlot, P_X7_isSlot), (mi_X7_copies, P_X7_copies)]
theorem hΓ_X7_save (l : Launch) (G : Gx) : ∀ q ∈ Γ_X7_save, Ct l G q.1 q.2 := List.forall_mem_cons.mpr ⟨ct_X7_isSlot l G, List.forall_mem_cons.mpr ⟨ct_X7_copies l G, fun _ h => absurd h List.not_mem_nil⟩⟩
set_option maxHeartbeats 1000000 in
theorem ct_X7_save (l : Launch) (G : Gx) : Ct l G mi_X7_save P_X7_save := by
  refine Ct.ofV mo_X7_save (fun as S E h => ?_)
  unfold P_X7_save at h
  split at h
  case h_2 => exact h.elim
  rename_i y s
  refine ⟨by simp [entL, mL_X7_save], ?_⟩
  refine wpN_ok (Γ := Γ_X7_save) (hΓ_X7_save l G) so_X7_save 6 _ _ _ _ _ _ ?_
  simp only [mL_X7_save, mT_X7_save, rc_X7_save, rs_X7_save, Γ_X7_save, sg_X7_save_0, sg_X7_save_10, wn_X7_save_0, wn_X7_save_10, wp_c, ex_c, x_nop, x_goto, x_table, x_iinc, x_ldc, x_ldc2, x_iaload, x_faload, x_baload, x_caload, x_iastore, x_fastore, x_bastore, x_castore, x_aastore, x_alen, x_gets, x_new, x_newa, x_anew, x_invs, x_invi, x_invv, x_ret, x_iret, x_lret, x_fret, x_aret, x_lconst, x_fconst0, x_fconst1, x_fconst2, x_dconst0, x_dconst1, x_null, x_iadd, x_isub, x_imul, x_iand, x_ior, x_idiv, x_irem, x_ineg, x_ishl, x_ishr, x_land, x_lor, x_lushr, x_lshl, x_lcmp, x_i2l, x_l2i, x_i2c, x_i2f, x_f2d, x_d2i, x_d2l, x_fadd, x_fsub, x_fmul, x_fdiv, x_dadd, x_dsub, x_dmul, x_ddiv, x_fcmp, x_dcmp, x_dupI, x_dupR, x_dup2, x_popI, x_popR, ldP_I, ldP_L, ldP_F, ldP_D, ldP_R, ldP_N, x_iload, x_iload_n, x_lload, x_lload_n, x_fload, x_fload_n, x_dload, x_dload_n, x_aload, x_aload_n, x_istore, x_istore_n, x_lstore, x_lstore_n, x_fstore, x_fstore_n, x_dstore, x_dstore_n, x_astore, x_astore_n, x_astoreN, x_astore_nN, x_icmp_eq, x_icmp_ne, x_icmp_lt, x_icmp_ge, x_icmp_gt, x_icmp_le, x_if_eq, x_if_ne, x_if_lt, x_if_ge, x_if_gt, x_if_le, x_ifnull, x_ifnullR, x_ifnn, x_ifnnR, x_aaload2, x_cpI, x_cpF, x_bF, x_bD, x_oI, xk_bipush_120, xk_iconst_0, xk_bipush_m6, xk_iconst_1, xk_bipush_80, xk_bipush_48, xk_bipush_57, xk_bipush_10, xk_bipush_64, xk_bipush_46, xk_bipush_97, xk_bipush_122, xk_bipush_119, xk_bipush_61, xk_bipush_59, xk_bipush_8, xk_bipush_33, xk_bipush_126, xk_bipush_m2, xk_bipush_m4, xk_iconst_4, xk_bipush_6, xk_iconst_2, xk_bipush_40, xk_iconst_3, xk_iconst_5, xk_iconst_m1, xk_bipush_m5, xk_bipush_12, xk_bipush_100, xk_bipush_26, xk_sipush_9999, xk_sipush_500, xk_bipush_7, xk_bipush_m126, xk_bipush_127, xk_bipush_23, xk_sipush_m1022, xk_sipush_1023, xk_bipush_52, xk_bipush_m3, xk_sipush_9830, xk_sipush_4800, xk_sipush_983, xk_sipush_480, xk_bipush_13, xk_bipush_18, xk_bipush_9, xk_bipush_32, xg_0_0, xp_0_0, xg_0_1, xp_0_1, xg_0_2, xp_0_2, xg_0_3, xp_0_3, xg_0_4, xp_0_4, xg_0_5, xp_0_5, xg_0_6, xp_0_6, xg_0_7, xp_0_7, xg_0_8, xp_0_8, xg_1_0, xp_1_0, xg_1_1, xp_1_1, xg_1_2, xp_1_2, xg_1_3, xp_1_3, xg_2_0, xp_2_0, xg_2_1, xp_2_1, xg_2_2, xp_2_2, xg_3_0, xp_3_0, xg_3_1, xp_3_1, xg_3_2, xp_3_2, xg_3_3, xp_3_3, xg_3_4, xp_3_4, xg_3_5, xp_3_5, xg_3_6, xp_3_6, xg_3_7, xp_3_7, xg_3_8, xp_3_8, xg_3_9, xp_3_9, xg_3_10, xp_3_10, xg_3_11, xp_3_11, xg_4_0, xp_4_0, xg_4_1, xp_4_1, xg_5_0, xp_5_0, xg_5_1, xp_5_1, xg_6_0, xp_6_0, xg_6_1, xp_6_1, xg_6_2, xp_6_2, xg_6_3, xp_6_3, xg_6_4, xp_6_4, xg_6_5, xp_6_5, xg_7_0, xp_7_0, xg_7_1, xp_7_1, xg_7_2, xp_7_2, xg_7_3, xp_7_3, xg_7_4, xp_7_4, xg_7_5, xp_7_5, xg_7_6, xp_7_6, xg_7_7, xp_7_7, xg_7_8, xp_7_8, xg_7_9, xp_7_9, xg_7_10, xp_7_10, xg_7_11, xp_7_11, xg_7_12, xp_7_12, xg_7_13, xp_7_13, fv0, fv1, fv2, fv3, kI_0, kI_1, stL, wipeL, entLn, entL, List.getElem?_cons_zero, List.getElem?_cons_succ, List.getElem?_nil, List.set_cons_zero, List.set_cons_succ, List.set_nil, List.length_cons, List.length_nil, List.cons_append, List.nil_append, List.replicate, Nat.reduceAdd, Nat.reduceLeDiff, Nat.reduceSub, true_and, and_true, x_callS, x_callSN, x_callI, x_callIN, x_callV0, x_callV1, x_callV2, x_callV3, x_callV4, x_callV5, x_callV6, x_callV7, callP, List.take_succ_cons, List.take_zero, List.take_nil, List.drop_succ_cons, List.drop_zero, List.drop_nil, List.getLast?_singleton, List.getLast?_cons_cons, Option.some.injEq, Value.ref.injEq, exists_eq_left, exists_eq_left', Nat.zero_le, Nat.add_zero, ldcV_f, ldcV_fn, ldcV_l, ldcV_d, Nat.reduceMul, Nat.le_refl, List.reverse_cons, List.reverse_nil, Option.toList, List.map_cons, List.map_nil, List.sum_cons, List.sum_nil, Value.category, tblW_n, tblW_c, Int.cast_ofNat_Int, Int.reduceAdd, Int.reduceToNat, ofI_n, rc_X7_isSlot, rs_X7_isSlot, P_X7_isSlot, rc_X7_copies, rs_X7_copies, P_X7_copies]
  obtain ⟨hM, h1, h2⟩ := h
  have hM0 := hM
  obtain ⟨m0, m1, m2, m3, m4, m5, m6, m7, m8, m9, m10⟩ := hM
  simp only [m0, m1, m2, m3, m4, m5, m6, m7, m8, m9, m10, hM0, bI_0, sK_stI, sR_stI, sK_stF, sR_stF, sK_stIA, sR_stIA, sK_stFA, sR_stFA, sI_stI, sI_stF, sI_stIA, sI_stFA, sF_stI, sF_stF, sF_stIA, sF_stFA, Nat.left_eq_add, Nat.add_eq_left, Nat.add_left_cancel_iff, Nat.reduceEqDiff, Nat.reduceEqDiff, Nat.succ_ne_self, false_and, and_false, if_false, if_true, nI_succ_sub, Option.some.injEq, Prod.mk.injEq, exists_eq_left', true_and, and_true, retI, retF, retV, retZ1, retZ0, retL, retA, retN, Nat.reduceAdd, Nat.reduceMul, Nat.reduceLT]
  refine ⟨fun c => ?_, fun c => h1 (Decidable.not_not.mp c)⟩
  have key : ∀ j, j < 2 → s = nI j → vp_in (nI 0) 10 ∧ vp_in (nI 7 + s) 10 ∧ ∀ T, Fr S T (y + 1) (y + 3) → Qs S T y (nI 7 + s).toNatClampNeg (nI 0).toNatClampNeg → (∀ q, ¬ q = (nI 7 + s).toNatClampNeg → Qs S T y q q) →
      sK T y = some (7, 0) ∧ ∃ r, sR T y 3 = some r ∧ ∃ n, sK T r = some (10, n) ∧ vp_in s n ∧ fitI FieldType.boolean (nI 1) ∧ sK T y = some (7, 0) ∧ ∃ r_1, sR T y 0 = some r_1 ∧ ∃ n, sK T r_1 = some (8, n) ∧ vp_in (nI 5) n ∧
        E (some (.int (if r_1 = r ∧ (nI 5).toNatClampNeg = s.toNatClampNeg then nI 1 else sI T r_1 (nI 5).toNatClampNeg))) (stI T r s.toNatClampNeg (nI 1)) := by
    intro j hj e
    rw [e]
    simp (disch := omega) only [nlt0, nge0, neq0, ngt0, nle0, nI_ltI, nI_leI, nI_eq, nI_cl, in_nI, false_implies, true_implies, not_false_eq_true, not_true_eq_false, and_true, true_and, nI_add, pk_mul, implies_true, not_lt0]
    refine ⟨by omega, by omega, fun T hT q1 q2 => ?_⟩
    obtain ⟨n0, n1, n2, n3, n4, n5, n6, n7, n8, n9, n10⟩ := hT.mod hM0
    refine ⟨n0, _, n3, 2, n8, vp_in_nI hj (by omega), by unfold fitI; decide, n0, _, n1, 9830, n6, vp_in_nI (by omega) (by omega), ?_⟩
    rw [if_neg (by omega)]
    have e5 : sI T (y + 1) 5 = (mV S y 0).pl := (q2 0 (by omega)).1 5 (by omega)
    rw [e5]
    exact h2 j hj e T hT q1 q2
  rcases Decidable.not_not.mp c with c | c
  · exact key 0 (by omega) c
  · exact key 1 (by omega) c
def P_X7_restore (as : List Value) (S : SS) (E : Option Value → SS → Prop) : Prop := match as with
  | [.ref y, .int s] => ∃ kc, MOK S y kc ∧ (∀ j, j < 2 → sI S (y + 3) j = nI 0 ∨ sI S (y + 3) j = nI 1) ∧ (¬ (s = nI 0 ∨ s = nI 1) → E (some (.int (mI 2))) S) ∧ (∀ j, j < 2 → s = nI j → (sI S (y + 3) j = nI 0 → E (some (.int (mI 5))) S) ∧ (sI S (y + 3) j = nI 1 → ∀ T, MChg S T y kc (mV S y (7 + j)) (sI S y 6) → E (some (.int (mV S y (7 + j)).pl)) T))
  | _ => False
def Γ_X7_restore : List (MI × PT) := [(mi_X7_isSlot, P_X7_isSlot), (mi_X7_changes, P_X7_changes), (mi_X7_copies, P_X7_copies)]
theorem hΓ_X7_restore (l : Launch) (G : Gx) : ∀ q ∈ Γ_X7_restore, Ct l G q.1 q.2 := List.forall_mem_cons.mpr ⟨ct_X7_isSlot l G, List.forall_mem_cons.mpr ⟨ct_X7_changes l G, List.forall_mem_cons.mpr ⟨ct_X7_copies l G, fun _ h => absurd h List.not_mem_nil⟩⟩⟩
set_option maxHeartbeats 1000000 in
theorem ct_X7_restore (l : Launch) (G : Gx) : Ct l G mi_X7_restore P_X7_restore := by
  refine Ct.ofV mo_X7_restore (fun as S E h => ?_)
  unfold P_X7_restore at h
  split at h
  case h_2 => exact h.elim
  rename_i y s
  refine ⟨by simp [entL, mL_X7_restore], ?_⟩
  refine wpN_ok (Γ := Γ_X7_restore) (hΓ_X7_restore l G) so_X7_restore 6 _ _ _ _ _ _ ?_
  simp only [mL_X7_restore, mT_X7_restore, rc_X7_restore, rs_X7_restore, Γ_X7_restore, sg_X7_restore_0, sg_X7_restore_10, sg_X7_restore_22, wn_X7_restore_0, wn_X7_restore_10, wn_X7_restore_22, wp_c, ex_c, x_nop, x_goto, x_table, x_iinc, x_ldc, x_ldc2, x_iaload, x_faload, x_baload, x_caload, x_iastore, x_fastore, x_bastore, x_castore, x_aastore, x_alen, x_gets, x_new, x_newa, x_anew, x_invs, x_invi, x_invv, x_ret, x_iret, x_lret, x_fret, x_aret, x_lconst, x_fconst0, x_fconst1, x_fconst2, x_dconst0, x_dconst1, x_null, x_iadd, x_isub, x_imul, x_iand, x_ior, x_idiv, x_irem, x_ineg, x_ishl, x_ishr, x_land, x_lor, x_lushr, x_lshl, x_lcmp, x_i2l, x_l2i, x_i2c, x_i2f, x_f2d, x_d2i, x_d2l, x_fadd, x_fsub, x_fmul, x_fdiv, x_dadd, x_dsub, x_dmul, x_ddiv, x_fcmp, x_dcmp, x_dupI, x_dupR, x_dup2, x_popI, x_popR, ldP_I, ldP_L, ldP_F, ldP_D, ldP_R, ldP_N, x_iload, x_iload_n, x_lload, x_lload_n, x_fload, x_fload_n, x_dload, x_dload_n, x_aload, x_aload_n, x_istore, x_istore_n, x_lstore, x_lstore_n, x_fstore, x_fstore_n, x_dstore, x_dstore_n, x_astore, x_astore_n, x_astoreN, x_astore_nN, x_icmp_eq, x_icmp_ne, x_icmp_lt, x_icmp_ge, x_icmp_gt, x_icmp_le, x_if_eq, x_if_ne, x_if_lt, x_if_ge, x_if_gt, x_if_le, x_ifnull, x_ifnullR, x_ifnn, x_ifnnR, x_aaload2, x_cpI, x_cpF, x_bF, x_bD, x_oI, xk_bipush_120, xk_iconst_0, xk_bipush_m6, xk_iconst_1, xk_bipush_80, xk_bipush_48, xk_bipush_57, xk_bipush_10, xk_bipush_64, xk_bipush_46, xk_bipush_97, xk_bipush_122, xk_bipush_119, xk_bipush_61, xk_bipush_59, xk_bipush_8, xk_bipush_33, xk_bipush_126, xk_bipush_m2, xk_bipush_m4, xk_iconst_4, xk_bipush_6, xk_iconst_2, xk_bipush_40, xk_iconst_3, xk_iconst_5, xk_iconst_m1, xk_bipush_m5, xk_bipush_12, xk_bipush_100, xk_bipush_26, xk_sipush_9999, xk_sipush_500, xk_bipush_7, xk_bipush_m126, xk_bipush_127, xk_bipush_23, xk_sipush_m1022, xk_sipush_1023, xk_bipush_52, xk_bipush_m3, xk_sipush_9830, xk_sipush_4800, xk_sipush_983, xk_sipush_480, xk_bipush_13, xk_bipush_18, xk_bipush_9, xk_bipush_32, xg_0_0, xp_0_0, xg_0_1, xp_0_1, xg_0_2, xp_0_2, xg_0_3, xp_0_3, xg_0_4, xp_0_4, xg_0_5, xp_0_5, xg_0_6, xp_0_6, xg_0_7, xp_0_7, xg_0_8, xp_0_8, xg_1_0, xp_1_0, xg_1_1, xp_1_1, xg_1_2, xp_1_2, xg_1_3, xp_1_3, xg_2_0, xp_2_0, xg_2_1, xp_2_1, xg_2_2, xp_2_2, xg_3_0, xp_3_0, xg_3_1, xp_3_1, xg_3_2, xp_3_2, xg_3_3, xp_3_3, xg_3_4, xp_3_4, xg_3_5, xp_3_5, xg_3_6, xp_3_6, xg_3_7, xp_3_7, xg_3_8, xp_3_8, xg_3_9, xp_3_9, xg_3_10, xp_3_10, xg_3_11, xp_3_11, xg_4_0, xp_4_0, xg_4_1, xp_4_1, xg_5_0, xp_5_0, xg_5_1, xp_5_1, xg_6_0, xp_6_0, xg_6_1, xp_6_1, xg_6_2, xp_6_2, xg_6_3, xp_6_3, xg_6_4, xp_6_4, xg_6_5, xp_6_5, xg_7_0, xp_7_0, xg_7_1, xp_7_1, xg_7_2, xp_7_2, xg_7_3, xp_7_3, xg_7_4, xp_7_4, xg_7_5, xp_7_5, xg_7_6, xp_7_6, xg_7_7, xp_7_7, xg_7_8, xp_7_8, xg_7_9, xp_7_9, xg_7_10, xp_7_10, xg_7_11, xp_7_11, xg_7_12, xp_7_12, xg_7_13, xp_7_13, fv0, fv1, fv2, fv3, kI_0, kI_1, stL, wipeL, entLn, entL, List.getElem?_cons_zero, List.getElem?_cons_succ, List.getElem?_nil, List.set_cons_zero, List.set_cons_succ, List.set_nil, List.length_cons, List.length_nil, List.cons_append, List.nil_append, List.replicate, Nat.reduceAdd, Nat.reduceLeDiff, Nat.reduceSub, true_and, and_true, x_callS, x_callSN, x_callI, x_callIN, x_callV0, x_callV1, x_callV2, x_callV3, x_callV4, x_callV5, x_callV6, x_callV7, callP, List.take_succ_cons, List.take_zero, List.take_nil, List.drop_succ_cons, List.drop_zero, List.drop_nil, List.getLast?_singleton, List.getLast?_cons_cons, Option.some.injEq, Value.ref.injEq, exists_eq_left, exists_eq_left', Nat.zero_le, Nat.add_zero, ldcV_f, ldcV_fn, ldcV_l, ldcV_d, Nat.reduceMul, Nat.le_refl, List.reverse_cons, List.reverse_nil, Option.toList, List.map_cons, List.map_nil, List.sum_cons, List.sum_nil, Value.category, tblW_n, tblW_c, Int.cast_ofNat_Int, Int.reduceAdd, Int.reduceToNat, ofI_n, rc_X7_isSlot, rs_X7_isSlot, P_X7_isSlot, rc_X7_changes, rs_X7_changes, P_X7_changes, rc_X7_copies, rs_X7_copies, P_X7_copies]
  obtain ⟨kc, hM, h0, h1, h2⟩ := h
  have hM0 := hM
  obtain ⟨hA, hD, hkc, ek⟩ := hM
  obtain ⟨m0, m1, m2, m3, m4, m5, m6, m7, m8, m9, m10⟩ := hA
  simp only [m0, m1, m2, m3, m4, m5, m6, m7, m8, m9, m10, hM0.1, bI_0, sK_stI, sR_stI, sK_stF, sR_stF, sK_stIA, sR_stIA, sK_stFA, sR_stFA, sI_stI, sI_stF, sI_stIA, sI_stFA, sF_stI, sF_stF, sF_stIA, sF_stFA, Nat.left_eq_add, Nat.add_eq_left, Nat.add_left_cancel_iff, Nat.reduceEqDiff, Nat.reduceEqDiff, Nat.succ_ne_self, false_and, and_false, if_false, if_true, nI_succ_sub, Option.some.injEq, Prod.mk.injEq, exists_eq_left', true_and, and_true, retI, retF, retV, retZ1, retZ0, retL, retA, retN, Nat.reduceAdd, Nat.reduceMul, Nat.reduceLT]
  refine ⟨fun c => ?_, fun c => h1 (Decidable.not_not.mp c)⟩
  obtain ⟨j, hj, e⟩ : ∃ j, j < 2 ∧ s = nI j := by
    rcases Decidable.not_not.mp c with c | c
    · exact ⟨0, by omega, c⟩
    · exact ⟨1, by omega, c⟩
  obtain ⟨h3, h4⟩ := h2 j hj e
  subst e
  simp (disch := omega) only [nlt0, nge0, neq0, ngt0, nle0, nI_ltI, nI_leI, nI_eq, nI_cl, in_nI, false_implies, true_implies, not_false_eq_true, not_true_eq_false, and_true, true_and, nI_add, pk_mul, implies_true, not_lt0, ← nI_0]
  refine ⟨hj, fun c1 => ?_, fun c1 => h3 (Decidable.not_not.mp c1)⟩
  have h4 := h4 ((h0 j hj).resolve_left c1)
  refine ⟨kc, hkc, ek, fun U a1 a2 a3 a4 a5 a6 => ?_⟩
  have N : Noted S U y kc := ⟨a1, a2, a3, a4, a5, a6⟩
  obtain ⟨u1, u2, u3⟩ := N.mok hM0
  refine ⟨u1.1, u1, by omega, by omega, fun T hT q1 q2 => ?_⟩
  obtain ⟨n0, n1, n2, n3, n4, n5, n6, n7, n8, n9, n10⟩ := hT.mod u1
  have e5 : sI T (y + 1) 5 = (mV S y (7 + j)).pl := (q1.1 5 (by omega)).trans ((a6 (7 + j) (by omega)).1 5 (by omega))
  refine ⟨n0, _, n1, 9830, n6, vp_in_nI (by omega) (by omega), ?_⟩
  rw [e5]
  refine h4 T (N.chg (D' := mV S y (7 + j)) ⟨hT.mono (by omega) (by omega), hT.i (by omega), q1.de.trans (a6 (7 + j) (by omega)).de, fun q a b => q2 q (by omega)⟩ (DE.refl _) hkc)
def P_X7_undo (as : List Value) (S : SS) (E : Option Value → SS → Prop) : Prop := match as with
  | [.ref y] => ∃ kc, ModAt S y ∧ kc ≤ 6 ∧ sI S y 2 = nI kc ∧ (kc = 0 → E (some (.int (mI 5))) S) ∧ (0 < kc → ∀ T, Fr S T y (y + 3) → sI T y = upV (sI S y) 2 (nI (kc - 1)) → Qs S T y 0 kc → (∀ q, ¬ q = 0 → Qs S T y q q) → E (some (.int (nI (kc - 1)))) T)
  | _ => False
def Γ_X7_undo : List (MI × PT) := [(mi_X7_copies, P_X7_copies)]
theorem hΓ_X7_undo (l : Launch) (G : Gx) : ∀ q ∈ Γ_X7_undo, Ct l G q.1 q.2 := List.forall_mem_cons.mpr ⟨ct_X7_copies l G, fun _ h => absurd h List.not_mem_nil⟩
set_option maxHeartbeats 1000000 in
theorem ct_X7_undo (l : Launch) (G : Gx) : Ct l G mi_X7_undo P_X7_undo := by
  refine Ct.ofV mo_X7_undo (fun as S E h => ?_)
  unfold P_X7_undo at h
  split at h
  case h_2 => exact h.elim
  rename_i y
  refine ⟨by simp [entL, mL_X7_undo], ?_⟩
  refine wpN_ok (Γ := Γ_X7_undo) (hΓ_X7_undo l G) so_X7_undo 6 _ _ _ _ _ _ ?_
  simp only [mL_X7_undo, mT_X7_undo, rc_X7_undo, rs_X7_undo, Γ_X7_undo, sg_X7_undo_0, sg_X7_undo_10, wn_X7_undo_0, wn_X7_undo_10, wp_c, ex_c, x_nop, x_goto, x_table, x_iinc, x_ldc, x_ldc2, x_iaload, x_faload, x_baload, x_caload, x_iastore, x_fastore, x_bastore, x_castore, x_aastore, x_alen, x_gets, x_new, x_newa, x_anew, x_invs, x_invi, x_invv, x_ret, x_iret, x_lret, x_fret, x_aret, x_lconst, x_fconst0, x_fconst1, x_fconst2, x_dconst0, x_dconst1, x_null, x_iadd, x_isub, x_imul, x_iand, x_ior, x_idiv, x_irem, x_ineg, x_ishl, x_ishr, x_land, x_lor, x_lushr, x_lshl, x_lcmp, x_i2l, x_l2i, x_i2c, x_i2f, x_f2d, x_d2i, x_d2l, x_fadd, x_fsub, x_fmul, x_fdiv, x_dadd, x_dsub, x_dmul, x_ddiv, x_fcmp, x_dcmp, x_dupI, x_dupR, x_dup2, x_popI, x_popR, ldP_I, ldP_L, ldP_F, ldP_D, ldP_R, ldP_N, x_iload, x_iload_n, x_lload, x_lload_n, x_fload, x_fload_n, x_dload, x_dload_n, x_aload, x_aload_n, x_istore, x_istore_n, x_lstore, x_lstore_n, x_fstore, x_fstore_n, x_dstore, x_dstore_n, x_astore, x_astore_n, x_astoreN, x_astore_nN, x_icmp_eq, x_icmp_ne, x_icmp_lt, x_icmp_ge, x_icmp_gt, x_icmp_le, x_if_eq, x_if_ne, x_if_lt, x_if_ge, x_if_gt, x_if_le, x_ifnull, x_ifnullR, x_ifnn, x_ifnnR, x_aaload2, x_cpI, x_cpF, x_bF, x_bD, x_oI, xk_bipush_120, xk_iconst_0, xk_bipush_m6, xk_iconst_1, xk_bipush_80, xk_bipush_48, xk_bipush_57, xk_bipush_10, xk_bipush_64, xk_bipush_46, xk_bipush_97, xk_bipush_122, xk_bipush_119, xk_bipush_61, xk_bipush_59, xk_bipush_8, xk_bipush_33, xk_bipush_126, xk_bipush_m2, xk_bipush_m4, xk_iconst_4, xk_bipush_6, xk_iconst_2, xk_bipush_40, xk_iconst_3, xk_iconst_5, xk_iconst_m1, xk_bipush_m5, xk_bipush_12, xk_bipush_100, xk_bipush_26, xk_sipush_9999, xk_sipush_500, xk_bipush_7, xk_bipush_m126, xk_bipush_127, xk_bipush_23, xk_sipush_m1022, xk_sipush_1023, xk_bipush_52, xk_bipush_m3, xk_sipush_9830, xk_sipush_4800, xk_sipush_983, xk_sipush_480, xk_bipush_13, xk_bipush_18, xk_bipush_9, xk_bipush_32, xg_0_0, xp_0_0, xg_0_1, xp_0_1, xg_0_2, xp_0_2, xg_0_3, xp_0_3, xg_0_4, xp_0_4, xg_0_5, xp_0_5, xg_0_6, xp_0_6, xg_0_7, xp_0_7, xg_0_8, xp_0_8, xg_1_0, xp_1_0, xg_1_1, xp_1_1, xg_1_2, xp_1_2, xg_1_3, xp_1_3, xg_2_0, xp_2_0, xg_2_1, xp_2_1, xg_2_2, xp_2_2, xg_3_0, xp_3_0, xg_3_1, xp_3_1, xg_3_2, xp_3_2, xg_3_3, xp_3_3, xg_3_4, xp_3_4, xg_3_5, xp_3_5, xg_3_6, xp_3_6, xg_3_7, xp_3_7, xg_3_8, xp_3_8, xg_3_9, xp_3_9, xg_3_10, xp_3_10, xg_3_11, xp_3_11, xg_4_0, xp_4_0, xg_4_1, xp_4_1, xg_5_0, xp_5_0, xg_5_1, xp_5_1, xg_6_0, xp_6_0, xg_6_1, xp_6_1, xg_6_2, xp_6_2, xg_6_3, xp_6_3, xg_6_4, xp_6_4, xg_6_5, xp_6_5, xg_7_0, xp_7_0, xg_7_1, xp_7_1, xg_7_2, xp_7_2, xg_7_3, xp_7_3, xg_7_4, xp_7_4, xg_7_5, xp_7_5, xg_7_6, xp_7_6, xg_7_7, xp_7_7, xg_7_8, xp_7_8, xg_7_9, xp_7_9, xg_7_10, xp_7_10, xg_7_11, xp_7_11, xg_7_12, xp_7_12, xg_7_13, xp_7_13, fv0, fv1, fv2, fv3, kI_0, kI_1, stL, wipeL, entLn, entL, List.getElem?_cons_zero, List.getElem?_cons_succ, List.getElem?_nil, List.set_cons_zero, List.set_cons_succ, List.set_nil, List.length_cons, List.length_nil, List.cons_append, List.nil_append, List.replicate, Nat.reduceAdd, Nat.reduceLeDiff, Nat.reduceSub, true_and, and_true, x_callS, x_callSN, x_callI, x_callIN, x_callV0, x_callV1, x_callV2, x_callV3, x_callV4, x_callV5, x_callV6, x_callV7, callP, List.take_succ_cons, List.take_zero, List.take_nil, List.drop_succ_cons, List.drop_zero, List.drop_nil, List.getLast?_singleton, List.getLast?_cons_cons, Option.some.injEq, Value.ref.injEq, exists_eq_left, exists_eq_left', Nat.zero_le, Nat.add_zero, ldcV_f, ldcV_fn, ldcV_l, ldcV_d, Nat.reduceMul, Nat.le_refl, List.reverse_cons, List.reverse_nil, Option.toList, List.map_cons, List.map_nil, List.sum_cons, List.sum_nil, Value.category, tblW_n, tblW_c, Int.cast_ofNat_Int, Int.reduceAdd, Int.reduceToNat, ofI_n, rc_X7_copies, rs_X7_copies, P_X7_copies]
  obtain ⟨kc, hM, hkc, ek, h1, h2⟩ := h
  have hM0 := hM
  obtain ⟨m0, m1, m2, m3, m4, m5, m6, m7, m8, m9, m10⟩ := hM
  simp only [m0, m1, m2, m3, m4, m5, m6, m7, m8, m9, m10, hM0, ek, sK_stI, sR_stI, sK_stF, sR_stF, sK_stIA, sR_stIA, sK_stFA, sR_stFA, sI_stI, sI_stF, sI_stIA, sI_stFA, sF_stI, sF_stF, sF_stIA, sF_stFA, Nat.left_eq_add, Nat.add_eq_left, Nat.add_left_cancel_iff, Nat.reduceEqDiff, Nat.reduceEqDiff, Nat.succ_ne_self, false_and, and_false, if_false, if_true, nI_succ_sub, Option.some.injEq, Prod.mk.injEq, exists_eq_left', true_and, and_true, retI, retF, retV, retZ1, retZ0, retL, retA, retN, Nat.reduceAdd, Nat.reduceMul, Nat.reduceLT]
  simp (disch := omega) only [nlt0, nge0, neq0, ngt0, nle0, nI_ltI, nI_leI, nI_eq, nI_cl, in_nI, false_implies, true_implies, not_false_eq_true, not_true_eq_false, and_true, true_and, nI_add, pk_mul, implies_true, not_lt0]
  refine ⟨fun c => ⟨by omega, by omega, fun T hT q1 q2 => ?_⟩, fun c => h1 (Decidable.not_not.mp c)⟩
  obtain ⟨n0, n1, n2, n3, n4, n5, n6, n7, n8, n9, n10⟩ := hT.mod hM0
  have e2 : sI T y 2 = nI kc := by rw [hT.i (by omega), ek]
  rw [e2, pk_sub (by omega)]
  refine ⟨n0, n0, n0, h2 (by omega) _ ((hT.mono (by omega) (by omega)).trans ((Fr.refl _ _ _).stI _ _ _ (Nat.le_refl _) (by omega))) ?_ ?_ (fun q a => ?_)⟩
  · rw [sI_row, if_pos rfl, hT.i (by omega)]
  · exact ⟨fun j hj => by rw [sI_stI, if_neg (by omega)]; exact q1.1 j hj, fun j hj => q1.2 j hj⟩
  · have q2 := q2 q a
    exact ⟨fun j hj => by rw [sI_stI, if_neg (by omega)]; exact q2.1 j hj, fun j hj => q2.2 j hj⟩
def P_X7_wipe (as : List Value) (S : SS) (E : Option Value → SS → Prop) : Prop := match as with
  | [.ref y] => ModAt S y ∧ E (some (.int (sI S y 6))) (stI S y 6 (nI 0))
  | _ => False
def Γ_X7_wipe : List (MI × PT) := []
theorem hΓ_X7_wipe (l : Launch) (G : Gx) : ∀ q ∈ Γ_X7_wipe, Ct l G q.1 q.2 := fun _ h => absurd h List.not_mem_nil
set_option maxHeartbeats 1000000 in
theorem ct_X7_wipe (l : Launch) (G : Gx) : Ct l G mi_X7_wipe P_X7_wipe := by
  refine Ct.ofV mo_X7_wipe (fun as S E h => ?_)
  unfold P_X7_wipe at h
  split at h
  case h_2 => exact h.elim
  rename_i y
  refine ⟨by simp [entL, mL_X7_wipe], ?_⟩
  refine wpN_ok (Γ := Γ_X7_wipe) (hΓ_X7_wipe l G) so_X7_wipe 6 _ _ _ _ _ _ ?_
  simp only [mL_X7_wipe, mT_X7_wipe, rc_X7_wipe, rs_X7_wipe, Γ_X7_wipe, sg_X7_wipe_0, wn_X7_wipe_0, wp_c, ex_c, x_nop, x_goto, x_table, x_iinc, x_ldc, x_ldc2, x_iaload, x_faload, x_baload, x_caload, x_iastore, x_fastore, x_bastore, x_castore, x_aastore, x_alen, x_gets, x_new, x_newa, x_anew, x_invs, x_invi, x_invv, x_ret, x_iret, x_lret, x_fret, x_aret, x_lconst, x_fconst0, x_fconst1, x_fconst2, x_dconst0, x_dconst1, x_null, x_iadd, x_isub, x_imul, x_iand, x_ior, x_idiv, x_irem, x_ineg, x_ishl, x_ishr, x_land, x_lor, x_lushr, x_lshl, x_lcmp, x_i2l, x_l2i, x_i2c, x_i2f, x_f2d, x_d2i, x_d2l, x_fadd, x_fsub, x_fmul, x_fdiv, x_dadd, x_dsub, x_dmul, x_ddiv, x_fcmp, x_dcmp, x_dupI, x_dupR, x_dup2, x_popI, x_popR, ldP_I, ldP_L, ldP_F, ldP_D, ldP_R, ldP_N, x_iload, x_iload_n, x_lload, x_lload_n, x_fload, x_fload_n, x_dload, x_dload_n, x_aload, x_aload_n, x_istore, x_istore_n, x_lstore, x_lstore_n, x_fstore, x_fstore_n, x_dstore, x_dstore_n, x_astore, x_astore_n, x_astoreN, x_astore_nN, x_icmp_eq, x_icmp_ne, x_icmp_lt, x_icmp_ge, x_icmp_gt, x_icmp_le, x_if_eq, x_if_ne, x_if_lt, x_if_ge, x_if_gt, x_if_le, x_ifnull, x_ifnullR, x_ifnn, x_ifnnR, x_aaload2, x_cpI, x_cpF, x_bF, x_bD, x_oI, xk_bipush_120, xk_iconst_0, xk_bipush_m6, xk_iconst_1, xk_bipush_80, xk_bipush_48, xk_bipush_57, xk_bipush_10, xk_bipush_64, xk_bipush_46, xk_bipush_97, xk_bipush_122, xk_bipush_119, xk_bipush_61, xk_bipush_59, xk_bipush_8, xk_bipush_33, xk_bipush_126, xk_bipush_m2, xk_bipush_m4, xk_iconst_4, xk_bipush_6, xk_iconst_2, xk_bipush_40, xk_iconst_3, xk_iconst_5, xk_iconst_m1, xk_bipush_m5, xk_bipush_12, xk_bipush_100, xk_bipush_26, xk_sipush_9999, xk_sipush_500, xk_bipush_7, xk_bipush_m126, xk_bipush_127, xk_bipush_23, xk_sipush_m1022, xk_sipush_1023, xk_bipush_52, xk_bipush_m3, xk_sipush_9830, xk_sipush_4800, xk_sipush_983, xk_sipush_480, xk_bipush_13, xk_bipush_18, xk_bipush_9, xk_bipush_32, xg_0_0, xp_0_0, xg_0_1, xp_0_1, xg_0_2, xp_0_2, xg_0_3, xp_0_3, xg_0_4, xp_0_4, xg_0_5, xp_0_5, xg_0_6, xp_0_6, xg_0_7, xp_0_7, xg_0_8, xp_0_8, xg_1_0, xp_1_0, xg_1_1, xp_1_1, xg_1_2, xp_1_2, xg_1_3, xp_1_3, xg_2_0, xp_2_0, xg_2_1, xp_2_1, xg_2_2, xp_2_2, xg_3_0, xp_3_0, xg_3_1, xp_3_1, xg_3_2, xp_3_2, xg_3_3, xp_3_3, xg_3_4, xp_3_4, xg_3_5, xp_3_5, xg_3_6, xp_3_6, xg_3_7, xp_3_7, xg_3_8, xp_3_8, xg_3_9, xp_3_9, xg_3_10, xp_3_10, xg_3_11, xp_3_11, xg_4_0, xp_4_0, xg_4_1, xp_4_1, xg_5_0, xp_5_0, xg_5_1, xp_5_1, xg_6_0, xp_6_0, xg_6_1, xp_6_1, xg_6_2, xp_6_2, xg_6_3, xp_6_3, xg_6_4, xp_6_4, xg_6_5, xp_6_5, xg_7_0, xp_7_0, xg_7_1, xp_7_1, xg_7_2, xp_7_2, xg_7_3, xp_7_3, xg_7_4, xp_7_4, xg_7_5, xp_7_5, xg_7_6, xp_7_6, xg_7_7, xp_7_7, xg_7_8, xp_7_8, xg_7_9, xp_7_9, xg_7_10, xp_7_10, xg_7_11, xp_7_11, xg_7_12, xp_7_12, xg_7_13, xp_7_13, fv0, fv1, fv2, fv3, kI_0, kI_1, stL, wipeL, entLn, entL, List.getElem?_cons_zero, List.getElem?_cons_succ, List.getElem?_nil, List.set_cons_zero, List.set_cons_succ, List.set_nil, List.length_cons, List.length_nil, List.cons_append, List.nil_append, List.replicate, Nat.reduceAdd, Nat.reduceLeDiff, Nat.reduceSub, true_and, and_true, x_callS, x_callSN, x_callI, x_callIN, x_callV0, x_callV1, x_callV2, x_callV3, x_callV4, x_callV5, x_callV6, x_callV7, callP, List.take_succ_cons, List.take_zero, List.take_nil, List.drop_succ_cons, List.drop_zero, List.drop_nil, List.getLast?_singleton, List.getLast?_cons_cons, Option.some.injEq, Value.ref.injEq, exists_eq_left, exists_eq_left', Nat.zero_le, Nat.add_zero, ldcV_f, ldcV_fn, ldcV_l, ldcV_d, Nat.reduceMul, Nat.le_refl, List.reverse_cons, List.reverse_nil, Option.toList, List.map_cons, List.map_nil, List.sum_cons, List.sum_nil, Value.category, tblW_n, tblW_c, Int.cast_ofNat_Int, Int.reduceAdd, Int.reduceToNat, ofI_n]
  obtain ⟨hM, h⟩ := h
  obtain ⟨m0, m1, m2, m3, m4, m5, m6, m7, m8, m9, m10⟩ := hM
  simp only [m0, m1, m2, m3, m4, m5, m6, m7, m8, m9, m10, sK_stI, sR_stI, sK_stF, sR_stF, sK_stIA, sR_stIA, sK_stFA, sR_stFA, sI_stI, sI_stF, sI_stIA, sI_stFA, sF_stI, sF_stF, sF_stIA, sF_stFA, Nat.left_eq_add, Nat.add_eq_left, Nat.add_left_cancel_iff, Nat.reduceEqDiff, Nat.reduceEqDiff, Nat.succ_ne_self, false_and, and_false, if_false, if_true, nI_succ_sub, Option.some.injEq, Prod.mk.injEq, exists_eq_left', true_and, and_true, retI, retF, retV, retZ1, retZ0, retL, retA, retN, Nat.reduceAdd, Nat.reduceMul, Nat.reduceLT]
  exact h
def P_X7_fills (as : List Value) (S : SS) (E : Option Value → SS → Prop) : Prop := match as with
  | [.ref y, .int w] => ModAt S y ∧ DOK (mV S y 0) ∧ (¬ (0 ≤ w ∧ w < (mV S y 0).pp) ∨ (mV S y 0).dk = mI 6 → E (some (.int (mI 1))) S) ∧ (∀ p wn, OnD (mV S y 0) p → 0 ≤ w → w < (mV S y 0).pp → w = nI wn → wn < 5 → ∀ T, Sm S T y → E (some (.int (nI (fiV (mV S y 0) wn ((mV S y 0).g p) 120).2))) T)
  | _ => False
def Γ_X7_fills : List (MI × PT) := [(mi_X7_isWriter, P_X7_isWriter), (mi_X7_copies, P_X7_copies), (mi_X7_best, P_X7_best), (mi_X7_writes, P_X7_writes)]
theorem hΓ_X7_fills (l : Launch) (G : Gx) : ∀ q ∈ Γ_X7_fills, Ct l G q.1 q.2 := List.forall_mem_cons.mpr ⟨ct_X7_isWriter l G, List.forall_mem_cons.mpr ⟨ct_X7_copies l G, List.forall_mem_cons.mpr ⟨ct_X7_best l G, List.forall_mem_cons.mpr ⟨ct_X7_writes l G, fun _ h => absurd h List.not_mem_nil⟩⟩⟩⟩
theorem try_step {S : SS} {y p k w : Nat} (hP : PreM S y 9 p) (hk : k < 120) (hw : w < 5) : Sm S (wrS S y 9 p k w 0) y ∧ DS (mV (wrS S y 9 p k w 0) y 9) (mV S y 9) ∧ GE (mG (wrS S y 9 p k w 0) y 9 p) (markV (mV S y 9) (mG S y 9 p) w k (nI 0)) ∧ ModAt (wrS S y 9 p k w 0) y := by
  have sm := sm_wr (S := S) (y := y) (p := p) (w := w) (a := 0) hk hP.2.2.1
  refine ⟨sm, ?_, ?_, sm.1.mod hP.1⟩
  · have r : ∀ j, j < 23 → sI (wrS S y 9 p k w 0) (y + 1) (983 * 9 + j) = sI S (y + 1) (983 * 9 + j) := fun j hj => by
      unfold wrS
      rw [mV_st0, mV_st0]
      unfold upV
      rw [if_neg (by unfold iK; omega), if_neg (by unfold iK; omega)]
      rfl
    refine ⟨fun i hi => r i (by omega), fun i hi => ?_⟩
    have := r (8 + i) (by omega)
    simp only [← Nat.add_assoc] at this
    exact this
  · have gW := ge_wr (S := S) (y := y) (q := 9) (p := p) hk hw (show 0 < 26 by omega) p
    rw [if_pos rfl] at gW
    exact gW
theorem cn_up {p q : Nat → Bool} {k : Nat} (h0 : p k = false) (h1 : q k = true) (he : ∀ j, ¬ j = k → q j = p j) : ∀ n, cn q n = if k < n then cn p n + 1 else cn p n
  | 0 => by rw [if_neg (by omega)]; rfl
  | n + 1 => by
    have ih := cn_up h0 h1 he n
    rw [cn_s, cn_s, ih]
    by_cases c : k = n
    · subst c
      simp [h0, h1]
    · rw [he n (fun a => c a.symm)]
      by_cases c2 : k < n
      · simp only [c2, if_true, show k < n + 1 from by omega]
        split <;> rfl
      · simp only [c2, if_false, show ¬ k < n + 1 from by omega]
theorem cn_full {p : Nat → Bool} : ∀ n, cn p n = n → ∀ j, j < n → p j = true
  | 0, _ => fun j hj => absurd hj (by omega)
  | n + 1, h => by
    intro j hj
    have hl := cn_le p n
    rw [cn_s] at h
    by_cases c : p n = true
    · rw [if_pos c] at h
      by_cases c2 : j = n
      · rw [c2]; exact c
      · exact cn_full n (by omega) j (by omega)
    · rw [if_neg c] at h
      omega
/-- as many letters as were written -/
theorem fiV_cnt (D : DV) {w : Nat} (H : GV) : ∀ n, (fiV D w H n).2 ≤ cn (fun j => !decide ((fiV D w H n).1.t j = mI 6)) 120
  | 0 => Nat.zero_le _
  | n + 1 => by
    have ih := fiV_cnt D (w := w) H n
    rw [fiV_s]
    by_cases c : (bestV D (fiV D w H n).1 120).1 = mI 6
    · rw [if_pos c]; exact ih
    · rw [if_neg c]
      obtain ⟨k, hk, ek, hf⟩ := (bestV_or D (fiV D w H n).1 120).resolve_left c
      have eT : ∀ j, (markV D (fiV D w H n).1 w (bestV D (fiV D w H n).1 120).1.toNatClampNeg (nI 0)).t j = if j = k then nI 0 else (fiV D w H n).1.t j := fun j => by
        show upV (fiV D w H n).1.t (bestV D (fiV D w H n).1 120).1.toNatClampNeg (nI 0) j = _
        rw [ek, nI_cl (by omega)]
        rfl
      have e := cn_up (p := fun j => !decide ((fiV D w H n).1.t j = mI 6)) (q := fun j => !decide ((markV D (fiV D w H n).1 w (bestV D (fiV D w H n).1 120).1.toNatClampNeg (nI 0)).t j = mI 6)) (k := k) (by simp [hf.1]) (by
        show (!decide ((markV D (fiV D w H n).1 w (bestV D (fiV D w H n).1 120).1.toNatClampNeg (nI 0)).t k = mI 6)) = true
        rw [eT, if_pos rfl]
        simp [nI_ne_mI (k := 0) (j := 6) (by omega) (by omega) (by omega)]) (fun j hj => by
        show (!decide ((markV D (fiV D w H n).1 w (bestV D (fiV D w H n).1 120).1.toNatClampNeg (nI 0)).t j = mI 6)) = _
        rw [eT, if_neg hj]) 120
      rw [if_pos hk] at e
      show (fiV D w H n).2 + 1 ≤ cn (fun j => !decide ((markV D (fiV D w H n).1 w (bestV D (fiV D w H n).1 120).1.toNatClampNeg (nI 0)).t j = mI 6)) 120
      rw [e]
      omega
theorem fiV_full {D : DV} {w : Nat} {H : GV} (h : (fiV D w H 120).2 = 120) : (bestV D (fiV D w H 120).1 120).1 = mI 6 := by
  have h1 := fiV_cnt D (w := w) H 120
  have h2 := cn_le (fun j => !decide ((fiV D w H 120).1.t j = mI 6)) 120
  have h3 := cn_full (p := fun j => !decide ((fiV D w H 120).1.t j = mI 6)) 120 (by omega)
  rcases bestV_or D (fiV D w H 120).1 120 with c | ⟨k, hk, ek, hf⟩
  · exact c
  · have := h3 k hk
    simp [hf.1] at this
set_option maxHeartbeats 1000000 in
theorem lp_X7_fills (l : Launch) (G : Gx) {S0 : SS} {y p w : Nat} {D : DV} {H : GV} {E : Option Value → SS → Prop} (hD0 : D = mV S0 y 0) (hH : H = mG S0 y 0 p) (hp : OnD D p) (hM : ModAt S0 y) (hs : StV D) (hw : w < 5) (h : ∀ T, Sm S0 T y → E (some (.int (nI (fiV D w H 120).2))) T) :
    ∀ n, n ≤ 120 → ∀ S, Sm S0 S y → DS (mV S y 9) D → GE (mG S y 9 p) (fiV D w H n).1 → GOK (mG S y 9 p) → (fiV D w H n).2 = n → V l G mi_X7_fills E 45 [some (.ref y), some (.int (nI w)), some (.int (nI n)), some (.int (bestV D (fiV D w H n).1 120).1)] [] S 0 0 := by
  refine loopUp 120 fun n hn ih S hF hD hE hG hc => ?_
  refine (V.segN (Γ := Γ_X7_fills) (hΓ_X7_fills l G) so_X7_fills 6 (sg := sg_X7_fills_45) so_X7_fills_45 ?_ : V l G mi_X7_fills _ (segPc sg_X7_fills_45) _ _ _ _ _)
  simp only [mL_X7_fills, mT_X7_fills, rc_X7_fills, rs_X7_fills, Γ_X7_fills, sg_X7_fills_0, sg_X7_fills_20, sg_X7_fills_22, sg_X7_fills_45, sg_X7_fills_87, wn_X7_fills_0, wn_X7_fills_20, wn_X7_fills_22, wn_X7_fills_45, wn_X7_fills_87, wp_c, ex_c, x_nop, x_goto, x_table, x_iinc, x_ldc, x_ldc2, x_iaload, x_faload, x_baload, x_caload, x_iastore, x_fastore, x_bastore, x_castore, x_aastore, x_alen, x_gets, x_new, x_newa, x_anew, x_invs, x_invi, x_invv, x_ret, x_iret, x_lret, x_fret, x_aret, x_lconst, x_fconst0, x_fconst1, x_fconst2, x_dconst0, x_dconst1, x_null, x_iadd, x_isub, x_imul, x_iand, x_ior, x_idiv, x_irem, x_ineg, x_ishl, x_ishr, x_land, x_lor, x_lushr, x_lshl, x_lcmp, x_i2l, x_l2i, x_i2c, x_i2f, x_f2d, x_d2i, x_d2l, x_fadd, x_fsub, x_fmul, x_fdiv, x_dadd, x_dsub, x_dmul, x_ddiv, x_fcmp, x_dcmp, x_dupI, x_dupR, x_dup2, x_popI, x_popR, ldP_I, ldP_L, ldP_F, ldP_D, ldP_R, ldP_N, x_iload, x_iload_n, x_lload, x_lload_n, x_fload, x_fload_n, x_dload, x_dload_n, x_aload, x_aload_n, x_istore, x_istore_n, x_lstore, x_lstore_n, x_fstore, x_fstore_n, x_dstore, x_dstore_n, x_astore, x_astore_n, x_astoreN, x_astore_nN, x_icmp_eq, x_icmp_ne, x_icmp_lt, x_icmp_ge, x_icmp_gt, x_icmp_le, x_if_eq, x_if_ne, x_if_lt, x_if_ge, x_if_gt, x_if_le, x_ifnull, x_ifnullR, x_ifnn, x_ifnnR, x_aaload2, x_cpI, x_cpF, x_bF, x_bD, x_oI, xk_bipush_120, xk_iconst_0, xk_bipush_m6, xk_iconst_1, xk_bipush_80, xk_bipush_48, xk_bipush_57, xk_bipush_10, xk_bipush_64, xk_bipush_46, xk_bipush_97, xk_bipush_122, xk_bipush_119, xk_bipush_61, xk_bipush_59, xk_bipush_8, xk_bipush_33, xk_bipush_126, xk_bipush_m2, xk_bipush_m4, xk_iconst_4, xk_bipush_6, xk_iconst_2, xk_bipush_40, xk_iconst_3, xk_iconst_5, xk_iconst_m1, xk_bipush_m5, xk_bipush_12, xk_bipush_100, xk_bipush_26, xk_sipush_9999, xk_sipush_500, xk_bipush_7, xk_bipush_m126, xk_bipush_127, xk_bipush_23, xk_sipush_m1022, xk_sipush_1023, xk_bipush_52, xk_bipush_m3, xk_sipush_9830, xk_sipush_4800, xk_sipush_983, xk_sipush_480, xk_bipush_13, xk_bipush_18, xk_bipush_9, xk_bipush_32, xg_0_0, xp_0_0, xg_0_1, xp_0_1, xg_0_2, xp_0_2, xg_0_3, xp_0_3, xg_0_4, xp_0_4, xg_0_5, xp_0_5, xg_0_6, xp_0_6, xg_0_7, xp_0_7, xg_0_8, xp_0_8, xg_1_0, xp_1_0, xg_1_1, xp_1_1, xg_1_2, xp_1_2, xg_1_3, xp_1_3, xg_2_0, xp_2_0, xg_2_1, xp_2_1, xg_2_2, xp_2_2, xg_3_0, xp_3_0, xg_3_1, xp_3_1, xg_3_2, xp_3_2, xg_3_3, xp_3_3, xg_3_4, xp_3_4, xg_3_5, xp_3_5, xg_3_6, xp_3_6, xg_3_7, xp_3_7, xg_3_8, xp_3_8, xg_3_9, xp_3_9, xg_3_10, xp_3_10, xg_3_11, xp_3_11, xg_4_0, xp_4_0, xg_4_1, xp_4_1, xg_5_0, xp_5_0, xg_5_1, xp_5_1, xg_6_0, xp_6_0, xg_6_1, xp_6_1, xg_6_2, xp_6_2, xg_6_3, xp_6_3, xg_6_4, xp_6_4, xg_6_5, xp_6_5, xg_7_0, xp_7_0, xg_7_1, xp_7_1, xg_7_2, xp_7_2, xg_7_3, xp_7_3, xg_7_4, xp_7_4, xg_7_5, xp_7_5, xg_7_6, xp_7_6, xg_7_7, xp_7_7, xg_7_8, xp_7_8, xg_7_9, xp_7_9, xg_7_10, xp_7_10, xg_7_11, xp_7_11, xg_7_12, xp_7_12, xg_7_13, xp_7_13, fv0, fv1, fv2, fv3, kI_0, kI_1, stL, wipeL, entLn, entL, List.getElem?_cons_zero, List.getElem?_cons_succ, List.getElem?_nil, List.set_cons_zero, List.set_cons_succ, List.set_nil, List.length_cons, List.length_nil, List.cons_append, List.nil_append, List.replicate, Nat.reduceAdd, Nat.reduceLeDiff, Nat.reduceSub, true_and, and_true, x_callS, x_callSN, x_callI, x_callIN, x_callV0, x_callV1, x_callV2, x_callV3, x_callV4, x_callV5, x_callV6, x_callV7, callP, List.take_succ_cons, List.take_zero, List.take_nil, List.drop_succ_cons, List.drop_zero, List.drop_nil, List.getLast?_singleton, List.getLast?_cons_cons, Option.some.injEq, Value.ref.injEq, exists_eq_left, exists_eq_left', Nat.zero_le, Nat.add_zero, ldcV_f, ldcV_fn, ldcV_l, ldcV_d, Nat.reduceMul, Nat.le_refl, List.reverse_cons, List.reverse_nil, Option.toList, List.map_cons, List.map_nil, List.sum_cons, List.sum_nil, Value.category, tblW_n, tblW_c, Int.cast_ofNat_Int, Int.reduceAdd, Int.reduceToNat, ofI_n, rc_X7_isWriter, rs_X7_isWriter, P_X7_isWriter, rc_X7_copies, rs_X7_copies, P_X7_copies, rc_X7_best, rs_X7_best, P_X7_best, rc_X7_writes, rs_X7_writes, P_X7_writes]
  have hMS := hF.1.mod hM
  have hp4 := hp.2.1
  have hP : PreM S y 9 p := ⟨hMS, by omega, hp4, hs.ds hD.symm, hG⟩
  have edk : sI S (y + 1) 6 = nI p := by
    have e1 : (mV S y 0).dk = (mV S0 y 0).dk := hF.de.dk'
    have e2 : (mV S y 0).dk = sI S (y + 1) 6 := rfl
    rw [← e2, e1, ← hD0]
    exact hp.1
  obtain ⟨m0, m1, m2, m3, m4, m5, m6, m7, m8, m9, m10⟩ := hMS
  simp only [m0, m1, m2, m3, m4, m5, m6, m7, m8, m9, m10, sK_stI, sR_stI, sK_stF, sR_stF, sK_stIA, sR_stIA, sK_stFA, sR_stFA, sI_stI, sI_stF, sI_stIA, sI_stFA, sF_stI, sF_stF, sF_stIA, sF_stFA, Nat.left_eq_add, Nat.add_eq_left, Nat.add_left_cancel_iff, Nat.reduceEqDiff, Nat.reduceEqDiff, Nat.succ_ne_self, false_and, and_false, if_false, if_true, nI_succ_sub, Option.some.injEq, Prod.mk.injEq, exists_eq_left', true_and, and_true, retI, retF, retV, retZ1, retZ0, retL, retA, retN, Nat.reduceAdd, Nat.reduceMul, Nat.reduceLT]
  simp (disch := omega) only [nlt0, nge0, neq0, ngt0, nle0, nI_ltI, nI_leI, nI_eq, nI_cl, in_nI, false_implies, true_implies, not_false_eq_true, not_true_eq_false, and_true, true_and, nI_add, pk_mul, implies_true, not_lt0, edk, hP]
  refine ⟨fun c => ?_, fun c => ?_⟩
  · have := h S hF
    rw [fiV_stop c 120 hn, hc] at this
    exact this
  · have hn2 : n < 120 := by
      apply Nat.lt_of_le_of_ne hn
      intro e
      subst e
      exact c (fiV_full hc)
    obtain ⟨k, hk, ek, hf⟩ := (bestV_or D (fiV D w H n).1 120).resolve_left c
    have efi : fiV D w H (n + 1) = (markV D (fiV D w H n).1 w k (nI 0), (fiV D w H n).2 + 1) := by
      rw [fiV_s, if_neg c, ek, nI_cl (by omega)]
    rw [ek, nI_cl (by omega)]
    obtain ⟨w1, w2, w3, w4⟩ := try_step (k := k) hP hk hw
    have gW : GE (mG (wrS S y 9 p k w 0) y 9 p) (markV D (fiV D w H n).1 w k (nI 0)) := w3.trans (markV_ds hD hE hw k (nI 0))
    have hGW : GOK (mG (wrS S y 9 p k w 0) y 9 p) := GOK.congr w3.symm (GOK_mark hP.2.2.2.1 hG hw (by omega))
    have dW : DS (mV (wrS S y 9 p k w 0) y 9) D := w2.trans hD
    have hPW : PreM (wrS S y 9 p k w 0) y 9 p := ⟨w4, by omega, hp4, hs.ds dW.symm, hGW⟩
    have edW : sI (wrS S y 9 p k w 0) (y + 1) 6 = nI p := ((w1.2.2 0 (by omega)).1 6 (by omega)).trans edk
    refine ⟨by omega, by omega, hp4, vp_in_nI hk (by omega), hw, by omega, w4.1, _, w4.2.1, 9830, w4.2.2.2.2.2.2.1, vp_in_nI (by omega) (by omega), w4.1, by omega, ?_⟩
    rw [edW, nI_cl (show p < 2 ^ 31 by omega)]
    refine ⟨vp_in_nI hp4 (by omega), hPW, ?_⟩
    rw [bestV_ds dW gW hGW 120 (Nat.le_refl _)]
    have ih := ih hn2 _ (hF.trans w1) dW (by rw [efi]; exact gW) hGW (by rw [efi]; show (fiV D w H n).2 + 1 = n + 1; rw [hc])
    rw [efi] at ih
    exact ih
set_option maxHeartbeats 1000000 in
theorem ct_X7_fills (l : Launch) (G : Gx) : Ct l G mi_X7_fills P_X7_fills := by
  refine Ct.ofV mo_X7_fills (fun as S E h => ?_)
  unfold P_X7_fills at h
  split at h
  case h_2 => exact h.elim
  rename_i y w
  refine ⟨by simp [entL, mL_X7_fills], ?_⟩
  refine wpN_ok (Γ := Γ_X7_fills) (hΓ_X7_fills l G) so_X7_fills 6 _ _ _ _ _ _ ?_
  simp only [mL_X7_fills, mT_X7_fills, rc_X7_fills, rs_X7_fills, Γ_X7_fills, sg_X7_fills_0, sg_X7_fills_20, sg_X7_fills_22, sg_X7_fills_45, sg_X7_fills_87, wn_X7_fills_0, wn_X7_fills_20, wn_X7_fills_22, wn_X7_fills_45, wn_X7_fills_87, wp_c, ex_c, x_nop, x_goto, x_table, x_iinc, x_ldc, x_ldc2, x_iaload, x_faload, x_baload, x_caload, x_iastore, x_fastore, x_bastore, x_castore, x_aastore, x_alen, x_gets, x_new, x_newa, x_anew, x_invs, x_invi, x_invv, x_ret, x_iret, x_lret, x_fret, x_aret, x_lconst, x_fconst0, x_fconst1, x_fconst2, x_dconst0, x_dconst1, x_null, x_iadd, x_isub, x_imul, x_iand, x_ior, x_idiv, x_irem, x_ineg, x_ishl, x_ishr, x_land, x_lor, x_lushr, x_lshl, x_lcmp, x_i2l, x_l2i, x_i2c, x_i2f, x_f2d, x_d2i, x_d2l, x_fadd, x_fsub, x_fmul, x_fdiv, x_dadd, x_dsub, x_dmul, x_ddiv, x_fcmp, x_dcmp, x_dupI, x_dupR, x_dup2, x_popI, x_popR, ldP_I, ldP_L, ldP_F, ldP_D, ldP_R, ldP_N, x_iload, x_iload_n, x_lload, x_lload_n, x_fload, x_fload_n, x_dload, x_dload_n, x_aload, x_aload_n, x_istore, x_istore_n, x_lstore, x_lstore_n, x_fstore, x_fstore_n, x_dstore, x_dstore_n, x_astore, x_astore_n, x_astoreN, x_astore_nN, x_icmp_eq, x_icmp_ne, x_icmp_lt, x_icmp_ge, x_icmp_gt, x_icmp_le, x_if_eq, x_if_ne, x_if_lt, x_if_ge, x_if_gt, x_if_le, x_ifnull, x_ifnullR, x_ifnn, x_ifnnR, x_aaload2, x_cpI, x_cpF, x_bF, x_bD, x_oI, xk_bipush_120, xk_iconst_0, xk_bipush_m6, xk_iconst_1, xk_bipush_80, xk_bipush_48, xk_bipush_57, xk_bipush_10, xk_bipush_64, xk_bipush_46, xk_bipush_97, xk_bipush_122, xk_bipush_119, xk_bipush_61, xk_bipush_59, xk_bipush_8, xk_bipush_33, xk_bipush_126, xk_bipush_m2, xk_bipush_m4, xk_iconst_4, xk_bipush_6, xk_iconst_2, xk_bipush_40, xk_iconst_3, xk_iconst_5, xk_iconst_m1, xk_bipush_m5, xk_bipush_12, xk_bipush_100, xk_bipush_26, xk_sipush_9999, xk_sipush_500, xk_bipush_7, xk_bipush_m126, xk_bipush_127, xk_bipush_23, xk_sipush_m1022, xk_sipush_1023, xk_bipush_52, xk_bipush_m3, xk_sipush_9830, xk_sipush_4800, xk_sipush_983, xk_sipush_480, xk_bipush_13, xk_bipush_18, xk_bipush_9, xk_bipush_32, xg_0_0, xp_0_0, xg_0_1, xp_0_1, xg_0_2, xp_0_2, xg_0_3, xp_0_3, xg_0_4, xp_0_4, xg_0_5, xp_0_5, xg_0_6, xp_0_6, xg_0_7, xp_0_7, xg_0_8, xp_0_8, xg_1_0, xp_1_0, xg_1_1, xp_1_1, xg_1_2, xp_1_2, xg_1_3, xp_1_3, xg_2_0, xp_2_0, xg_2_1, xp_2_1, xg_2_2, xp_2_2, xg_3_0, xp_3_0, xg_3_1, xp_3_1, xg_3_2, xp_3_2, xg_3_3, xp_3_3, xg_3_4, xp_3_4, xg_3_5, xp_3_5, xg_3_6, xp_3_6, xg_3_7, xp_3_7, xg_3_8, xp_3_8, xg_3_9, xp_3_9, xg_3_10, xp_3_10, xg_3_11, xp_3_11, xg_4_0, xp_4_0, xg_4_1, xp_4_1, xg_5_0, xp_5_0, xg_5_1, xp_5_1, xg_6_0, xp_6_0, xg_6_1, xp_6_1, xg_6_2, xp_6_2, xg_6_3, xp_6_3, xg_6_4, xp_6_4, xg_6_5, xp_6_5, xg_7_0, xp_7_0, xg_7_1, xp_7_1, xg_7_2, xp_7_2, xg_7_3, xp_7_3, xg_7_4, xp_7_4, xg_7_5, xp_7_5, xg_7_6, xp_7_6, xg_7_7, xp_7_7, xg_7_8, xp_7_8, xg_7_9, xp_7_9, xg_7_10, xp_7_10, xg_7_11, xp_7_11, xg_7_12, xp_7_12, xg_7_13, xp_7_13, fv0, fv1, fv2, fv3, kI_0, kI_1, stL, wipeL, entLn, entL, List.getElem?_cons_zero, List.getElem?_cons_succ, List.getElem?_nil, List.set_cons_zero, List.set_cons_succ, List.set_nil, List.length_cons, List.length_nil, List.cons_append, List.nil_append, List.replicate, Nat.reduceAdd, Nat.reduceLeDiff, Nat.reduceSub, true_and, and_true, x_callS, x_callSN, x_callI, x_callIN, x_callV0, x_callV1, x_callV2, x_callV3, x_callV4, x_callV5, x_callV6, x_callV7, callP, List.take_succ_cons, List.take_zero, List.take_nil, List.drop_succ_cons, List.drop_zero, List.drop_nil, List.getLast?_singleton, List.getLast?_cons_cons, Option.some.injEq, Value.ref.injEq, exists_eq_left, exists_eq_left', Nat.zero_le, Nat.add_zero, ldcV_f, ldcV_fn, ldcV_l, ldcV_d, Nat.reduceMul, Nat.le_refl, List.reverse_cons, List.reverse_nil, Option.toList, List.map_cons, List.map_nil, List.sum_cons, List.sum_nil, Value.category, tblW_n, tblW_c, Int.cast_ofNat_Int, Int.reduceAdd, Int.reduceToNat, ofI_n, rc_X7_isWriter, rs_X7_isWriter, P_X7_isWriter, rc_X7_copies, rs_X7_copies, P_X7_copies, rc_X7_best, rs_X7_best, P_X7_best, rc_X7_writes, rs_X7_writes, P_X7_writes]
  obtain ⟨hM, hD, h1, h2⟩ := h
  have hM0 := hM
  obtain ⟨m0, m1, m2, m3, m4, m5, m6, m7, m8, m9, m10⟩ := hM
  simp only [m0, m1, m2, m3, m4, m5, m6, m7, m8, m9, m10, hM0, hD.pp, bI_0, sK_stI, sR_stI, sK_stF, sR_stF, sK_stIA, sR_stIA, sK_stFA, sR_stFA, sI_stI, sI_stF, sI_stIA, sI_stFA, sF_stI, sF_stF, sF_stIA, sF_stFA, Nat.left_eq_add, Nat.add_eq_left, Nat.add_left_cancel_iff, Nat.reduceEqDiff, Nat.reduceEqDiff, Nat.succ_ne_self, false_and, and_false, if_false, if_true, nI_succ_sub, Option.some.injEq, Prod.mk.injEq, exists_eq_left', true_and, and_true, retI, retF, retV, retZ1, retZ0, retL, retA, retN, Nat.reduceAdd, Nat.reduceMul, Nat.reduceLT]
  simp (disch := omega) only [nlt0, nge0, neq0, ngt0, nle0, nI_ltI, nI_leI, nI_eq, nI_cl, in_nI, false_implies, true_implies, not_false_eq_true, not_true_eq_false, and_true, true_and, nI_add, pk_mul, implies_true, not_lt0, mV_dk]
  refine ⟨fun c => h1 (Or.inl c), fun c1 => ⟨by omega, fun c2 => ⟨by omega, by omega, fun T hT q1 q2 => ?_⟩, fun c2 => h1 (Or.inr (Decidable.not_not.mp c2))⟩⟩
  have c1 := Decidable.not_not.mp c1
  obtain ⟨p, hp⟩ := (OnD_or hD).resolve_left c2
  obtain ⟨n, hn, en⟩ := hD.pp
  obtain ⟨wn, hwn, rfl⟩ := vp_in_of ((in_cmp (by omega)).mpr (en ▸ c1)) (by omega)
  have h2 := h2 p wn hp c1.1 c1.2 rfl (by omega)
  have hp4 := hp.2.1
  have hG := hD.2.2.2.2 p hp.2.2 hp4
  have smT := sm_cp hT q2
  have hMT := smT.1.mod hM0
  have e9 := q1.de
  have g9 := e9.2.2.2.2.2.2 p (by rw [e9.pl']; exact hp.2.2) hp4
  have hG9 : GOK (mG T y 9 p) := hG.congr g9.symm
  have P9 : PreM T y 9 p := ⟨hMT, by omega, hp4, hD.1.ds e9.ds.symm, hG9⟩
  have edk : sI T (y + 1) 6 = nI p := ((q2 0 (by omega)).1 6 (by omega)).trans hp.1
  refine ⟨hMT.1, _, hMT.2.1, 9830, hMT.2.2.2.2.2.2.1, vp_in_nI (by omega) (by omega), hMT.1, by omega, ?_⟩
  rw [edk, nI_cl (by omega)]
  refine ⟨vp_in_nI hp4 (by omega), P9, ?_⟩
  have eb : bestV (mV T y 9) (mG T y 9 p) 120 = bestV (mV S y 0) (mG S y 0 p) 120 := bestV_ds e9.ds g9 hG9 120 (Nat.le_refl _)
  rw [eb]
  exact lp_X7_fills l G rfl rfl hp hM0 hD.1 (show wn < 5 by omega) h2 0 (by omega) T smT e9.ds g9 hG9 rfl
/-- light that is enough stays enough -/
theorem enV_mono {D : DV} {x : UInt32} (hs : StV D) (hx : okL x) {m : Nat} (h : enV D (itV D x m) = true) : ∀ n, m ≤ n → enV D (itV D x n) = true := by
  intro n
  induction n with
  | zero => intro hmn; rw [show m = 0 by omega] at h; exact h
  | succ n ih =>
    intro hmn
    by_cases c : m = n + 1
    · rw [← c]; exact h
    · have ih := ih (by omega)
      rw [itV_s]
      have hx2 := okL_itV hs hx n
      obtain ⟨-, -, ⟨r, ⟨r1, r2⟩, er⟩, ⟨q, hq, eq⟩, -⟩ := hs
      unfold enV at ih ⊢
      unfold clV
      rw [er] at ih ⊢
      rw [eq]
      exact fl_clmono hx2 hq r1 r2 ih
theorem hrN_first {D : DV} {x : UInt32} : ∀ n, hrN D x n = n ∨ ∃ j, j < n ∧ hrN D x j = j ∧ enV D (itV D x j) = true ∧ hrN D x n = j
  | 0 => Or.inl rfl
  | n + 1 => by
    rw [hrN_s]
    rcases hrN_first (D := D) (x := x) n with h | ⟨j, h1, h2, h3, h4⟩
    · by_cases c : enV D (itV D x n) = false
      · rw [if_pos ⟨h, c⟩]; exact Or.inl rfl
      · rw [if_neg (fun a => c a.2), h]
        exact Or.inr ⟨n, by omega, h, by simpa using c, rfl⟩
    · rw [if_neg (fun a => by omega)]
      exact Or.inr ⟨j, by omega, h2, h3, h4⟩
theorem hrN_iff {D : DV} {x : UInt32} (hs : StV D) (hx : okL x) {h : Nat} (hh : h < 501) : hrN D x 501 ≤ h ↔ enV D (itV D x h) = true := by
  constructor
  · intro a
    rcases hrN_first (D := D) (x := x) 501 with c | ⟨j, h1, h2, h3, h4⟩
    · omega
    · exact enV_mono hs hx h3 h (by omega)
  · intro a
    rcases hrN_first (D := D) (x := x) h with c | ⟨j, h1, h2, h3, h4⟩
    · rw [hrN_stop c a 501 (by omega)]
      exact Nat.le_refl _
    · rw [hrN_stop h2 h3 501 (by omega)]
      omega
theorem arV_iff (D : DV) (G : GV) : ∀ n, arV D G n = true ↔ ∀ j, j < n → G.t j = mI 6 ∨ rdV D G j = true
  | 0 => ⟨fun _ j hj => absurd hj (by omega), fun _ => rfl⟩
  | n + 1 => by
    rw [arV_s]
    have ih := arV_iff D G n
    constructor
    · intro h j hj
      simp at h
      by_cases c : j = n
      · rw [c]; exact h.2
      · exact ih.mp h.1 j (by omega)
    · intro h
      simp
      exact ⟨ih.mpr fun j hj => h j (by omega), h n (by omega)⟩
theorem mostV_iff (D : DV) (G : GV) (h : Nat) : ∀ n, mostV D G n ≤ h ↔ ∀ j, j < n → G.t j = mI 6 ∨ hrN D (G.l j) 501 ≤ h
  | 0 => ⟨fun _ j hj => absurd hj (by omega), fun _ => Nat.zero_le _⟩
  | n + 1 => by
    have ih := mostV_iff D G h n
    rw [mostV_s]
    constructor
    · intro a j hj
      by_cases c : j = n
      · subst c
        by_cases c2 : G.t j = mI 6
        · exact Or.inl c2
        · rw [if_neg c2] at a
          exact Or.inr (by omega)
      · refine ih.mp ?_ j (by omega)
        split at a <;> omega
    · intro a
      have a1 := ih.mpr fun j hj => a j (by omega)
      split
      · exact a1
      · rename_i c2
        have := (a n (by omega)).resolve_left c2
        omega
def P_X7_readableIn (as : List Value) (S : SS) (E : Option Value → SS → Prop) : Prop := match as with
  | [.ref y, .int p] => ModAt S y ∧ DOK (mV S y 0) ∧ (¬ (0 ≤ p ∧ p < (mV S y 0).pl) → E (some (.int (mI 1))) S) ∧ (∀ pn, p = nI pn → pn < 4 → nI pn < (mV S y 0).pl → ∀ T, Sm S T y → E (some (.int (if 500 < mostV (mV S y 0) ((mV S y 0).g pn) 120 then mI 6 else nI (mostV (mV S y 0) ((mV S y 0).g pn) 120)))) T)
  | _ => False
def Γ_X7_readableIn : List (MI × PT) := [(mi_X7_isPlate, P_X7_isPlate), (mi_X7_copies, P_X7_copies), (mi_X7_areRead, P_X7_areRead), (mi_X7_clears, P_X7_clears)]
theorem hΓ_X7_readableIn (l : Launch) (G : Gx) : ∀ q ∈ Γ_X7_readableIn, Ct l G q.1 q.2 := List.forall_mem_cons.mpr ⟨ct_X7_isPlate l G, List.forall_mem_cons.mpr ⟨ct_X7_copies l G, List.forall_mem_cons.mpr ⟨ct_X7_areRead l G, List.forall_mem_cons.mpr ⟨ct_X7_clears l G, fun _ h => absurd h List.not_mem_nil⟩⟩⟩⟩
/-- after h hours on state 9 -/
def rdI (S T : SS) (y p h : Nat) : Prop := Sm S T y ∧ DS (mV T y 9) (mV S y 0) ∧ GE (mG T y 9 p) (sf_l (mG S y 0 p) (fun j => itV (mV S y 0) ((mG S y 0 p).l j) h))
theorem rdI_ar {S T : SS} {y p h : Nat} (hT : rdI S T y p h) (hs : StV (mV S y 0)) (hG : GOK (mG S y 0 p)) (hh : h < 501) : arV (mV T y 9) (mG T y 9 p) 120 = true ↔ mostV (mV S y 0) (mG S y 0 p) 120 ≤ h := by
  obtain ⟨-, hD, hE⟩ := hT
  rw [arV_iff, mostV_iff]
  refine forall_congr' fun j => forall_congr' fun hj => ?_
  obtain ⟨e1, e2, -, -⟩ := hE j hj
  have e1' : (mG T y 9 p).l j = itV (mV S y 0) ((mG S y 0 p).l j) h := e1
  have e2' : (mG T y 9 p).t j = (mG S y 0 p).t j := e2
  by_cases c : (mG S y 0 p).t j = mI 6
  · exact iff_of_true (Or.inl (e2'.trans c)) (Or.inl c)
  · rw [hrN_iff hs (hG j hj).1 hh]
    unfold rdV
    rw [enV_ds hD, e1', e2']
    simp [c]
set_option maxHeartbeats 1000000 in
theorem lp_X7_readableIn (l : Launch) (G : Gx) {S : SS} {y p : Nat} {E : Option Value → SS → Prop} (hP : PreM S y 0 p) (h0 : ∀ T, Sm S T y → E (some (.int (if 500 < mostV (mV S y 0) (mG S y 0 p) 120 then mI 6 else nI (mostV (mV S y 0) (mG S y 0 p) 120)))) T) :
    ∀ h, h ≤ 501 → (∀ m, m < h → ¬ mostV (mV S y 0) (mG S y 0 p) 120 ≤ m) → ∀ T, rdI S T y p h → V l G mi_X7_readableIn E 19 [some (.ref y), some (.int (nI p)), some (.int (nI h))] [] T 0 0 := by
  refine loopUp 501 fun h hh ih hno T hT => ?_
  refine (V.segN (Γ := Γ_X7_readableIn) (hΓ_X7_readableIn l G) so_X7_readableIn 6 (sg := sg_X7_readableIn_19) so_X7_readableIn_19 ?_ : V l G mi_X7_readableIn _ (segPc sg_X7_readableIn_19) _ _ _ _ _)
  simp only [mL_X7_readableIn, mT_X7_readableIn, rc_X7_readableIn, rs_X7_readableIn, Γ_X7_readableIn, sg_X7_readableIn_0, sg_X7_readableIn_10, sg_X7_readableIn_19, sg_X7_readableIn_38, sg_X7_readableIn_51, wn_X7_readableIn_0, wn_X7_readableIn_10, wn_X7_readableIn_19, wn_X7_readableIn_38, wn_X7_readableIn_51, wp_c, ex_c, x_nop, x_goto, x_table, x_iinc, x_ldc, x_ldc2, x_iaload, x_faload, x_baload, x_caload, x_iastore, x_fastore, x_bastore, x_castore, x_aastore, x_alen, x_gets, x_new, x_newa, x_anew, x_invs, x_invi, x_invv, x_ret, x_iret, x_lret, x_fret, x_aret, x_lconst, x_fconst0, x_fconst1, x_fconst2, x_dconst0, x_dconst1, x_null, x_iadd, x_isub, x_imul, x_iand, x_ior, x_idiv, x_irem, x_ineg, x_ishl, x_ishr, x_land, x_lor, x_lushr, x_lshl, x_lcmp, x_i2l, x_l2i, x_i2c, x_i2f, x_f2d, x_d2i, x_d2l, x_fadd, x_fsub, x_fmul, x_fdiv, x_dadd, x_dsub, x_dmul, x_ddiv, x_fcmp, x_dcmp, x_dupI, x_dupR, x_dup2, x_popI, x_popR, ldP_I, ldP_L, ldP_F, ldP_D, ldP_R, ldP_N, x_iload, x_iload_n, x_lload, x_lload_n, x_fload, x_fload_n, x_dload, x_dload_n, x_aload, x_aload_n, x_istore, x_istore_n, x_lstore, x_lstore_n, x_fstore, x_fstore_n, x_dstore, x_dstore_n, x_astore, x_astore_n, x_astoreN, x_astore_nN, x_icmp_eq, x_icmp_ne, x_icmp_lt, x_icmp_ge, x_icmp_gt, x_icmp_le, x_if_eq, x_if_ne, x_if_lt, x_if_ge, x_if_gt, x_if_le, x_ifnull, x_ifnullR, x_ifnn, x_ifnnR, x_aaload2, x_cpI, x_cpF, x_bF, x_bD, x_oI, xk_bipush_120, xk_iconst_0, xk_bipush_m6, xk_iconst_1, xk_bipush_80, xk_bipush_48, xk_bipush_57, xk_bipush_10, xk_bipush_64, xk_bipush_46, xk_bipush_97, xk_bipush_122, xk_bipush_119, xk_bipush_61, xk_bipush_59, xk_bipush_8, xk_bipush_33, xk_bipush_126, xk_bipush_m2, xk_bipush_m4, xk_iconst_4, xk_bipush_6, xk_iconst_2, xk_bipush_40, xk_iconst_3, xk_iconst_5, xk_iconst_m1, xk_bipush_m5, xk_bipush_12, xk_bipush_100, xk_bipush_26, xk_sipush_9999, xk_sipush_500, xk_bipush_7, xk_bipush_m126, xk_bipush_127, xk_bipush_23, xk_sipush_m1022, xk_sipush_1023, xk_bipush_52, xk_bipush_m3, xk_sipush_9830, xk_sipush_4800, xk_sipush_983, xk_sipush_480, xk_bipush_13, xk_bipush_18, xk_bipush_9, xk_bipush_32, xg_0_0, xp_0_0, xg_0_1, xp_0_1, xg_0_2, xp_0_2, xg_0_3, xp_0_3, xg_0_4, xp_0_4, xg_0_5, xp_0_5, xg_0_6, xp_0_6, xg_0_7, xp_0_7, xg_0_8, xp_0_8, xg_1_0, xp_1_0, xg_1_1, xp_1_1, xg_1_2, xp_1_2, xg_1_3, xp_1_3, xg_2_0, xp_2_0, xg_2_1, xp_2_1, xg_2_2, xp_2_2, xg_3_0, xp_3_0, xg_3_1, xp_3_1, xg_3_2, xp_3_2, xg_3_3, xp_3_3, xg_3_4, xp_3_4, xg_3_5, xp_3_5, xg_3_6, xp_3_6, xg_3_7, xp_3_7, xg_3_8, xp_3_8, xg_3_9, xp_3_9, xg_3_10, xp_3_10, xg_3_11, xp_3_11, xg_4_0, xp_4_0, xg_4_1, xp_4_1, xg_5_0, xp_5_0, xg_5_1, xp_5_1, xg_6_0, xp_6_0, xg_6_1, xp_6_1, xg_6_2, xp_6_2, xg_6_3, xp_6_3, xg_6_4, xp_6_4, xg_6_5, xp_6_5, xg_7_0, xp_7_0, xg_7_1, xp_7_1, xg_7_2, xp_7_2, xg_7_3, xp_7_3, xg_7_4, xp_7_4, xg_7_5, xp_7_5, xg_7_6, xp_7_6, xg_7_7, xp_7_7, xg_7_8, xp_7_8, xg_7_9, xp_7_9, xg_7_10, xp_7_10, xg_7_11, xp_7_11, xg_7_12, xp_7_12, xg_7_13, xp_7_13, fv0, fv1, fv2, fv3, kI_0, kI_1, stL, wipeL, entLn, entL, List.getElem?_cons_zero, List.getElem?_cons_succ, List.getElem?_nil, List.set_cons_zero, List.set_cons_succ, List.set_nil, List.length_cons, List.length_nil, List.cons_append, List.nil_append, List.replicate, Nat.reduceAdd, Nat.reduceLeDiff, Nat.reduceSub, true_and, and_true, x_callS, x_callSN, x_callI, x_callIN, x_callV0, x_callV1, x_callV2, x_callV3, x_callV4, x_callV5, x_callV6, x_callV7, callP, List.take_succ_cons, List.take_zero, List.take_nil, List.drop_succ_cons, List.drop_zero, List.drop_nil, List.getLast?_singleton, List.getLast?_cons_cons, Option.some.injEq, Value.ref.injEq, exists_eq_left, exists_eq_left', Nat.zero_le, Nat.add_zero, ldcV_f, ldcV_fn, ldcV_l, ldcV_d, Nat.reduceMul, Nat.le_refl, List.reverse_cons, List.reverse_nil, Option.toList, List.map_cons, List.map_nil, List.sum_cons, List.sum_nil, Value.category, tblW_n, tblW_c, Int.cast_ofNat_Int, Int.reduceAdd, Int.reduceToNat, ofI_n, rc_X7_isPlate, rs_X7_isPlate, P_X7_isPlate, rc_X7_copies, rs_X7_copies, P_X7_copies, rc_X7_areRead, rs_X7_areRead, P_X7_areRead, rc_X7_clears, rs_X7_clears, P_X7_clears]
  have hT0 := hT
  obtain ⟨hF, hD, hE⟩ := hT
  obtain ⟨hM, -, hp4, hs, hG⟩ := hP
  have hMT := hF.1.mod hM
  have hGT : GOK (mG T y 9 p) := GOK.congr hE.symm fun j hj => ⟨okL_itV hs (hG j hj).1 _, (hG j hj).2⟩
  have hPT : PreM T y 9 p := ⟨hMT, by omega, hp4, hs.ds hD.symm, hGT⟩
  simp only [hMT.1, bI_0, sK_stI, sR_stI, sK_stF, sR_stF, sK_stIA, sR_stIA, sK_stFA, sR_stFA, sI_stI, sI_stF, sI_stIA, sI_stFA, sF_stI, sF_stF, sF_stIA, sF_stFA, Nat.left_eq_add, Nat.add_eq_left, Nat.add_left_cancel_iff, Nat.reduceEqDiff, Nat.reduceEqDiff, Nat.succ_ne_self, false_and, and_false, if_false, if_true, nI_succ_sub, Option.some.injEq, Prod.mk.injEq, exists_eq_left', true_and, and_true, retI, retF, retV, retZ1, retZ0, retL, retA, retN, Nat.reduceAdd, Nat.reduceMul, Nat.reduceLT]
  simp (disch := omega) only [nlt0, nge0, neq0, ngt0, nle0, nI_ltI, nI_leI, nI_eq, nI_cl, in_nI, false_implies, true_implies, not_false_eq_true, not_true_eq_false, and_true, true_and, nI_add, pk_mul, implies_true, not_lt0, hPT]
  have key := fun hh' => rdI_ar hT0 hs hG (show h < 501 from hh')
  refine ⟨fun c => ?_, fun c => ⟨by omega, hp4, fun c2 => ⟨by omega, hp4, ?_⟩, fun c2 => ?_⟩⟩
  · have := h0 T hF
    have hn := hno 500 (by omega)
    rwa [if_pos (by omega)] at this
  · have n2 : ¬ mostV (mV S y 0) (mG S y 0 p) 120 ≤ h := fun a => c2 ((key (by omega)).mpr a)
    refine ih (by omega) (fun m hm => ?_) _ ⟨hF.trans (sm_li hp4), hD, ?_⟩
    · by_cases e : m = h
      · rw [e]; exact n2
      · exact hno m (by omega)
    · have gl := ge_l (S := T) (y := y) (q := 9) (p := p) (h := fun _ z => clV (mV T y 9) z) p
      rw [if_pos rfl] at gl
      refine gl.trans fun j hj => ?_
      obtain ⟨e1, e2, e3, e4⟩ := hE j hj
      refine ⟨?_, e2, e3, e4⟩
      show clV (mV T y 9) ((mG T y 9 p).l j) = itV (mV S y 0) ((mG S y 0 p).l j) (h + 1)
      rw [itV_s, clV_ds hD, e1]
      rfl
  · have a := (key (by omega)).mp (Decidable.not_not.mp c2)
    have e : mostV (mV S y 0) (mG S y 0 p) 120 = h := by
      apply Nat.le_antisymm a
      apply Nat.le_of_not_lt
      intro b
      exact hno _ b (Nat.le_refl _)
    have := h0 T hF
    rwa [e, if_neg c] at this
set_option maxHeartbeats 1000000 in
theorem ct_X7_readableIn (l : Launch) (G : Gx) : Ct l G mi_X7_readableIn P_X7_readableIn := by
  refine Ct.ofV mo_X7_readableIn (fun as S E h => ?_)
  unfold P_X7_readableIn at h
  split at h
  case h_2 => exact h.elim
  rename_i y p
  refine ⟨by simp [entL, mL_X7_readableIn], ?_⟩
  refine wpN_ok (Γ := Γ_X7_readableIn) (hΓ_X7_readableIn l G) so_X7_readableIn 6 _ _ _ _ _ _ ?_
  simp only [mL_X7_readableIn, mT_X7_readableIn, rc_X7_readableIn, rs_X7_readableIn, Γ_X7_readableIn, sg_X7_readableIn_0, sg_X7_readableIn_10, sg_X7_readableIn_19, sg_X7_readableIn_38, sg_X7_readableIn_51, wn_X7_readableIn_0, wn_X7_readableIn_10, wn_X7_readableIn_19, wn_X7_readableIn_38, wn_X7_readableIn_51, wp_c, ex_c, x_nop, x_goto, x_table, x_iinc, x_ldc, x_ldc2, x_iaload, x_faload, x_baload, x_caload, x_iastore, x_fastore, x_bastore, x_castore, x_aastore, x_alen, x_gets, x_new, x_newa, x_anew, x_invs, x_invi, x_invv, x_ret, x_iret, x_lret, x_fret, x_aret, x_lconst, x_fconst0, x_fconst1, x_fconst2, x_dconst0, x_dconst1, x_null, x_iadd, x_isub, x_imul, x_iand, x_ior, x_idiv, x_irem, x_ineg, x_ishl, x_ishr, x_land, x_lor, x_lushr, x_lshl, x_lcmp, x_i2l, x_l2i, x_i2c, x_i2f, x_f2d, x_d2i, x_d2l, x_fadd, x_fsub, x_fmul, x_fdiv, x_dadd, x_dsub, x_dmul, x_ddiv, x_fcmp, x_dcmp, x_dupI, x_dupR, x_dup2, x_popI, x_popR, ldP_I, ldP_L, ldP_F, ldP_D, ldP_R, ldP_N, x_iload, x_iload_n, x_lload, x_lload_n, x_fload, x_fload_n, x_dload, x_dload_n, x_aload, x_aload_n, x_istore, x_istore_n, x_lstore, x_lstore_n, x_fstore, x_fstore_n, x_dstore, x_dstore_n, x_astore, x_astore_n, x_astoreN, x_astore_nN, x_icmp_eq, x_icmp_ne, x_icmp_lt, x_icmp_ge, x_icmp_gt, x_icmp_le, x_if_eq, x_if_ne, x_if_lt, x_if_ge, x_if_gt, x_if_le, x_ifnull, x_ifnullR, x_ifnn, x_ifnnR, x_aaload2, x_cpI, x_cpF, x_bF, x_bD, x_oI, xk_bipush_120, xk_iconst_0, xk_bipush_m6, xk_iconst_1, xk_bipush_80, xk_bipush_48, xk_bipush_57, xk_bipush_10, xk_bipush_64, xk_bipush_46, xk_bipush_97, xk_bipush_122, xk_bipush_119, xk_bipush_61, xk_bipush_59, xk_bipush_8, xk_bipush_33, xk_bipush_126, xk_bipush_m2, xk_bipush_m4, xk_iconst_4, xk_bipush_6, xk_iconst_2, xk_bipush_40, xk_iconst_3, xk_iconst_5, xk_iconst_m1, xk_bipush_m5, xk_bipush_12, xk_bipush_100, xk_bipush_26, xk_sipush_9999, xk_sipush_500, xk_bipush_7, xk_bipush_m126, xk_bipush_127, xk_bipush_23, xk_sipush_m1022, xk_sipush_1023, xk_bipush_52, xk_bipush_m3, xk_sipush_9830, xk_sipush_4800, xk_sipush_983, xk_sipush_480, xk_bipush_13, xk_bipush_18, xk_bipush_9, xk_bipush_32, xg_0_0, xp_0_0, xg_0_1, xp_0_1, xg_0_2, xp_0_2, xg_0_3, xp_0_3, xg_0_4, xp_0_4, xg_0_5, xp_0_5, xg_0_6, xp_0_6, xg_0_7, xp_0_7, xg_0_8, xp_0_8, xg_1_0, xp_1_0, xg_1_1, xp_1_1, xg_1_2, xp_1_2, xg_1_3, xp_1_3, xg_2_0, xp_2_0, xg_2_1, xp_2_1, xg_2_2, xp_2_2, xg_3_0, xp_3_0, xg_3_1, xp_3_1, xg_3_2, xp_3_2, xg_3_3, xp_3_3, xg_3_4, xp_3_4, xg_3_5, xp_3_5, xg_3_6, xp_3_6, xg_3_7, xp_3_7, xg_3_8, xp_3_8, xg_3_9, xp_3_9, xg_3_10, xp_3_10, xg_3_11, xp_3_11, xg_4_0, xp_4_0, xg_4_1, xp_4_1, xg_5_0, xp_5_0, xg_5_1, xp_5_1, xg_6_0, xp_6_0, xg_6_1, xp_6_1, xg_6_2, xp_6_2, xg_6_3, xp_6_3, xg_6_4, xp_6_4, xg_6_5, xp_6_5, xg_7_0, xp_7_0, xg_7_1, xp_7_1, xg_7_2, xp_7_2, xg_7_3, xp_7_3, xg_7_4, xp_7_4, xg_7_5, xp_7_5, xg_7_6, xp_7_6, xg_7_7, xp_7_7, xg_7_8, xp_7_8, xg_7_9, xp_7_9, xg_7_10, xp_7_10, xg_7_11, xp_7_11, xg_7_12, xp_7_12, xg_7_13, xp_7_13, fv0, fv1, fv2, fv3, kI_0, kI_1, stL, wipeL, entLn, entL, List.getElem?_cons_zero, List.getElem?_cons_succ, List.getElem?_nil, List.set_cons_zero, List.set_cons_succ, List.set_nil, List.length_cons, List.length_nil, List.cons_append, List.nil_append, List.replicate, Nat.reduceAdd, Nat.reduceLeDiff, Nat.reduceSub, true_and, and_true, x_callS, x_callSN, x_callI, x_callIN, x_callV0, x_callV1, x_callV2, x_callV3, x_callV4, x_callV5, x_callV6, x_callV7, callP, List.take_succ_cons, List.take_zero, List.take_nil, List.drop_succ_cons, List.drop_zero, List.drop_nil, List.getLast?_singleton, List.getLast?_cons_cons, Option.some.injEq, Value.ref.injEq, exists_eq_left, exists_eq_left', Nat.zero_le, Nat.add_zero, ldcV_f, ldcV_fn, ldcV_l, ldcV_d, Nat.reduceMul, Nat.le_refl, List.reverse_cons, List.reverse_nil, Option.toList, List.map_cons, List.map_nil, List.sum_cons, List.sum_nil, Value.category, tblW_n, tblW_c, Int.cast_ofNat_Int, Int.reduceAdd, Int.reduceToNat, ofI_n, rc_X7_isPlate, rs_X7_isPlate, P_X7_isPlate, rc_X7_copies, rs_X7_copies, P_X7_copies, rc_X7_areRead, rs_X7_areRead, P_X7_areRead, rc_X7_clears, rs_X7_clears, P_X7_clears]
  obtain ⟨hM, hD, h1, h2⟩ := h
  have hM0 := hM
  obtain ⟨m0, m1, m2, m3, m4, m5, m6, m7, m8, m9, m10⟩ := hM
  simp only [m0, m1, m2, m3, m4, m5, m6, m7, m8, m9, m10, hM0, hD.pl, bI_0, sK_stI, sR_stI, sK_stF, sR_stF, sK_stIA, sR_stIA, sK_stFA, sR_stFA, sI_stI, sI_stF, sI_stIA, sI_stFA, sF_stI, sF_stF, sF_stIA, sF_stFA, Nat.left_eq_add, Nat.add_eq_left, Nat.add_left_cancel_iff, Nat.reduceEqDiff, Nat.reduceEqDiff, Nat.succ_ne_self, false_and, and_false, if_false, if_true, nI_succ_sub, Option.some.injEq, Prod.mk.injEq, exists_eq_left', true_and, and_true, retI, retF, retV, retZ1, retZ0, retL, retA, retN, Nat.reduceAdd, Nat.reduceMul, Nat.reduceLT]
  refine ⟨fun c => ⟨vp_in_nI (by omega) (by omega), vp_in_nI (by omega) (by omega), fun T hT q1 q2 => ?_⟩, fun c => h1 (by simpa using c)⟩
  have c := Decidable.not_not.mp c
  obtain ⟨n, hn, en⟩ := hD.pl
  obtain ⟨pn, hpn, rfl⟩ := vp_in_of ((in_cmp (by omega)).mpr (en ▸ c)) (by omega)
  have hG := hD.2.2.2.2 pn c.2 (by omega)
  have e9 := Qs.de q1
  refine lp_X7_readableIn l G ⟨hM0, by omega, by omega, hD.1, hG⟩ (h2 pn rfl (by omega) c.2) 0 (by omega) (fun m hm => absurd hm (by omega)) T ⟨sm_cp hT q2, e9.ds, ?_⟩
  have g9 := e9.2.2.2.2.2.2 pn (by rw [e9.pl']; exact c.2) (by omega)
  exact g9.trans (fun j hj => ⟨rfl, rfl, rfl, rfl⟩)
