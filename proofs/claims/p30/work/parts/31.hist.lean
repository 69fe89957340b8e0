-- needs: 18.nums 19.proj 20.spec 21.shape 22.leaf 23.fl 23.view 24.loops 25.desk
/-! what was -/
def HistAt (S : SS) (h : Nat) : Prop := sK S h = some (2, 0) ∧ sR S h 0 = some (h + 1) ∧ sK S (h + 1) = some (12, 7) ∧ ∀ i, i < 7 → sR S (h + 1) i = some (h + 2 + 26 * i) ∧ DeskAt S (h + 2 + 26 * i)
theorem HistAt.mk' {S T : SS} {h : Nat} (a : HistAt S h) (hK : sK T = sK S) (hR : sR T = sR S) : HistAt T h := by
  obtain ⟨h1, h2, h3, h4⟩ := a
  refine ⟨by rw [hK]; exact h1, by rw [hR]; exact h2, by rw [hK]; exact h3, fun i hi => ⟨by rw [hR]; exact (h4 i hi).1, (h4 i hi).2.mk' hK hR⟩⟩
def P_X2_prepare (as : List Value) (S : SS) (E : Option Value → SS → Prop) : Prop := match as with
  | [.ref h, .ref d] => HistAt S h ∧ DeskAt S d ∧ Ap d 26 h 184 ∧ (∃ n, n ≤ 4 ∧ sI S d 6 = nI n) ∧ ∃ x, x < 7 ∧ sI S h 1 = nI x ∧ ∀ S', Fr S S' (h + 2 + 26 * x) (h + 2 + 26 * x + 26) → DE (dV S' (h + 2 + 26 * x)) (dV S d) → E none S'
  | _ => False
def Γ_X2_prepare : List (MI × PT) := [(mi_X0_copyFrom, P_X0_copyFrom)]
theorem hΓ_X2_prepare (l : Launch) (G : Gx) : ∀ q ∈ Γ_X2_prepare, Ct l G q.1 q.2 := List.forall_mem_cons.mpr ⟨ct_X0_copyFrom l G, fun _ h => absurd h List.not_mem_nil⟩
set_option maxHeartbeats 1000000 in
theorem ct_X2_prepare (l : Launch) (G : Gx) : Ct l G mi_X2_prepare P_X2_prepare := by
  refine Ct.ofV mo_X2_prepare (fun as S E h => ?_)
  unfold P_X2_prepare at h
  split at h
  case h_2 => exact h.elim
  rename_i h d
  refine ⟨by simp [entL, mL_X2_prepare], ?_⟩
  refine wpN_ok (Γ := Γ_X2_prepare) (hΓ_X2_prepare l G) so_X2_prepare 3 _ _ _ _ _ _ ?_
  simp only [mL_X2_prepare, mT_X2_prepare, rc_X2_prepare, rs_X2_prepare, Γ_X2_prepare, sg_X2_prepare_0, wn_X2_prepare_0, wp_c, ex_c, x_nop, x_goto, x_table, x_iinc, x_ldc, x_ldc2, x_iaload, x_faload, x_baload, x_caload, x_iastore, x_fastore, x_bastore, x_castore, x_aastore, x_alen, x_gets, x_new, x_newa, x_anew, x_invs, x_invi, x_invv, x_ret, x_iret, x_lret, x_fret, x_aret, x_lconst, x_fconst0, x_fconst1, x_fconst2, x_dconst0, x_dconst1, x_null, x_iadd, x_isub, x_imul, x_iand, x_ior, x_idiv, x_irem, x_ineg, x_ishl, x_ishr, x_land, x_ladd, x_lmul, x_lor, x_lushr, x_lshl, x_lcmp, x_i2l, x_l2i, x_i2c, x_i2f, x_f2d, x_d2i, x_d2l, x_fadd, x_fsub, x_fmul, x_fdiv, x_dadd, x_dsub, x_dmul, x_ddiv, x_fcmp, x_dcmp, x_dupI, x_dupR, x_dup2, x_popI, x_popR, ldP_I, ldP_L, ldP_F, ldP_D, ldP_R, ldP_N, x_iload, x_iload_n, x_lload, x_lload_n, x_fload, x_fload_n, x_dload, x_dload_n, x_aload, x_aload_n, x_istore, x_istore_n, x_lstore, x_lstore_n, x_fstore, x_fstore_n, x_dstore, x_dstore_n, x_astore, x_astore_n, x_astoreN, x_astore_nN, x_icmp_eq, x_icmp_ne, x_icmp_lt, x_icmp_ge, x_icmp_gt, x_icmp_le, x_if_eq, x_if_ne, x_if_lt, x_if_ge, x_if_gt, x_if_le, x_ifnull, x_ifnullR, x_ifnn, x_ifnnR, x_aaload2, x_cpI, x_cpF, x_oI, xk_bipush_120, xk_iconst_0, xk_bipush_m6, xk_iconst_1, xk_bipush_80, xk_iconst_4, xk_bipush_6, xk_iconst_2, xk_bipush_40, xk_iconst_3, xk_bipush_10, xk_iconst_5, xk_bipush_m2, xk_bipush_m4, xk_iconst_m1, xk_bipush_m5, xk_bipush_12, xk_bipush_100, xk_bipush_26, xk_bipush_48, xk_sipush_9999, xk_sipush_500, xk_bipush_7, xk_bipush_119, xk_bipush_m126, xk_bipush_127, xk_bipush_23, xk_sipush_m1022, xk_sipush_1023, xk_bipush_52, xg_0_0, xp_0_0, xg_0_1, xp_0_1, xg_0_2, xp_0_2, xg_0_3, xp_0_3, xg_0_4, xp_0_4, xg_0_5, xp_0_5, xg_0_6, xp_0_6, xg_0_7, xp_0_7, xg_0_8, xp_0_8, xg_1_0, xp_1_0, xg_1_1, xp_1_1, xg_1_2, xp_1_2, xg_1_3, xp_1_3, xg_2_0, xp_2_0, xg_2_1, xp_2_1, xg_2_2, xp_2_2, xg_3_0, xp_3_0, xg_3_1, xp_3_1, xg_3_2, xp_3_2, xg_3_3, xp_3_3, xg_3_4, xp_3_4, xg_3_5, xp_3_5, xg_3_6, xp_3_6, xg_3_7, xp_3_7, xg_3_8, xp_3_8, xg_3_9, xp_3_9, xg_3_10, xp_3_10, xg_3_11, xp_3_11, xg_4_0, xp_4_0, xg_4_1, xp_4_1, xg_5_0, xp_5_0, xg_5_1, xp_5_1, xg_6_0, xp_6_0, xg_6_1, xp_6_1, xg_6_2, xp_6_2, xg_6_3, xp_6_3, xg_6_4, xp_6_4, xg_6_5, xp_6_5, fv0, fv1, fv2, fv3, kI_0, kI_1, stL, wipeL, entLn, entL, List.getElem?_cons_zero, List.getElem?_cons_succ, List.getElem?_nil, List.set_cons_zero, List.set_cons_succ, List.set_nil, List.length_cons, List.length_nil, List.cons_append, List.nil_append, List.replicate, Nat.reduceAdd, Nat.reduceLeDiff, Nat.reduceSub, true_and, and_true, x_callS, x_callSN, x_callI, x_callIN, x_callV0, x_callV1, x_callV2, x_callV3, x_callV4, x_callV5, x_callV6, x_callV7, callP, List.take_succ_cons, List.take_zero, List.take_nil, List.drop_succ_cons, List.drop_zero, List.drop_nil, List.getLast?_singleton, List.getLast?_cons_cons, Option.some.injEq, Value.ref.injEq, exists_eq_left, exists_eq_left', Nat.zero_le, Nat.add_zero, ldcV_f, ldcV_fn, ldcV_l, ldcV_d, Nat.reduceMul, Nat.le_refl, List.reverse_cons, List.reverse_nil, Option.toList, List.map_cons, List.map_nil, List.sum_cons, List.sum_nil, Value.category, tblW_n, tblW_c, Int.cast_ofNat_Int, Int.reduceAdd, Int.reduceToNat, ofI_n, rc_X0_copyFrom, rs_X0_copyFrom, P_X0_copyFrom]
  obtain ⟨⟨h1, h2, h3, h4⟩, hd, hap, hn, x, hx, ex, h⟩ := h
  obtain ⟨h5, h6⟩ := h4 x hx
  simp only [h1, h2, h3, ex, sK_stI, sR_stI, sK_stF, sR_stF, sK_stIA, sR_stIA, sK_stFA, sR_stFA, sI_stI, sI_stF, sI_stIA, sI_stFA, sF_stI, sF_stF, sF_stIA, sF_stFA, Nat.left_eq_add, Nat.add_eq_left, Nat.add_left_cancel_iff, Nat.reduceEqDiff, Nat.reduceEqDiff, Nat.succ_ne_self, false_and, and_false, if_false, if_true, nI_succ_sub, Option.some.injEq, Prod.mk.injEq, exists_eq_left', true_and, and_true, retI, retF, retV, retZ1, retZ0, retL, retA, retN, Nat.reduceAdd, Nat.reduceMul, Nat.reduceLT]
  simp (disch := omega) only [nlt0, nge0, neq0, ngt0, nle0, nI_ltI, nI_leI, nI_eq, nI_cl, in_nI, false_implies, true_implies, not_false_eq_true, not_true_eq_false, and_true, true_and, nI_add, pk_mul, implies_true, not_lt0]
  refine ⟨hx, _, h5, h6.1, h6, hd, ?_, hn, h⟩
  unfold Ap at hap ⊢
  omega
def P_X2_keepUnlessError (as : List Value) (S : SS) (E : Option Value → SS → Prop) : Prop := match as with
  | [.ref h, .int a] => sK S h = some (2, 0) ∧ ∃ x c, x < 7 ∧ c ≤ 6 ∧ sI S h 1 = nI x ∧ sI S h 2 = nI c ∧ (0 ≤ a → E (some (.int a)) (stI (stI S h 1 (nI ((x + 1) % 7))) h 2 (nI (min (c + 1) 6)))) ∧ (¬ 0 ≤ a → E (some (.int a)) S)
  | _ => False
def Γ_X2_keepUnlessError : List (MI × PT) := [(mi_J9_min_7cf53, P_J9_min_7cf53)]
theorem hΓ_X2_keepUnlessError (l : Launch) (G : Gx) : ∀ q ∈ Γ_X2_keepUnlessError, Ct l G q.1 q.2 := List.forall_mem_cons.mpr ⟨ct_J9_min_7cf53 l G, fun _ h => absurd h List.not_mem_nil⟩
set_option maxHeartbeats 1000000 in
theorem ct_X2_keepUnlessError (l : Launch) (G : Gx) : Ct l G mi_X2_keepUnlessError P_X2_keepUnlessError := by
  refine Ct.ofV mo_X2_keepUnlessError (fun as S E h => ?_)
  unfold P_X2_keepUnlessError at h
  split at h
  case h_2 => exact h.elim
  rename_i h a
  refine ⟨by simp [entL, mL_X2_keepUnlessError], ?_⟩
  refine wpN_ok (Γ := Γ_X2_keepUnlessError) (hΓ_X2_keepUnlessError l G) so_X2_keepUnlessError 3 _ _ _ _ _ _ ?_
  simp only [mL_X2_keepUnlessError, mT_X2_keepUnlessError, rc_X2_keepUnlessError, rs_X2_keepUnlessError, Γ_X2_keepUnlessError, sg_X2_keepUnlessError_0, sg_X2_keepUnlessError_32, wn_X2_keepUnlessError_0, wn_X2_keepUnlessError_32, wp_c, ex_c, x_nop, x_goto, x_table, x_iinc, x_ldc, x_ldc2, x_iaload, x_faload, x_baload, x_caload, x_iastore, x_fastore, x_bastore, x_castore, x_aastore, x_alen, x_gets, x_new, x_newa, x_anew, x_invs, x_invi, x_invv, x_ret, x_iret, x_lret, x_fret, x_aret, x_lconst, x_fconst0, x_fconst1, x_fconst2, x_dconst0, x_dconst1, x_null, x_iadd, x_isub, x_imul, x_iand, x_ior, x_idiv, x_irem, x_ineg, x_ishl, x_ishr, x_land, x_ladd, x_lmul, x_lor, x_lushr, x_lshl, x_lcmp, x_i2l, x_l2i, x_i2c, x_i2f, x_f2d, x_d2i, x_d2l, x_fadd, x_fsub, x_fmul, x_fdiv, x_dadd, x_dsub, x_dmul, x_ddiv, x_fcmp, x_dcmp, x_dupI, x_dupR, x_dup2, x_popI, x_popR, ldP_I, ldP_L, ldP_F, ldP_D, ldP_R, ldP_N, x_iload, x_iload_n, x_lload, x_lload_n, x_fload, x_fload_n, x_dload, x_dload_n, x_aload, x_aload_n, x_istore, x_istore_n, x_lstore, x_lstore_n, x_fstore, x_fstore_n, x_dstore, x_dstore_n, x_astore, x_astore_n, x_astoreN, x_astore_nN, x_icmp_eq, x_icmp_ne, x_icmp_lt, x_icmp_ge, x_icmp_gt, x_icmp_le, x_if_eq, x_if_ne, x_if_lt, x_if_ge, x_if_gt, x_if_le, x_ifnull, x_ifnullR, x_ifnn, x_ifnnR, x_aaload2, x_cpI, x_cpF, x_oI, xk_bipush_120, xk_iconst_0, xk_bipush_m6, xk_iconst_1, xk_bipush_80, xk_iconst_4, xk_bipush_6, xk_iconst_2, xk_bipush_40, xk_iconst_3, xk_bipush_10, xk_iconst_5, xk_bipush_m2, xk_bipush_m4, xk_iconst_m1, xk_bipush_m5, xk_bipush_12, xk_bipush_100, xk_bipush_26, xk_bipush_48, xk_sipush_9999, xk_sipush_500, xk_bipush_7, xk_bipush_119, xk_bipush_m126, xk_bipush_127, xk_bipush_23, xk_sipush_m1022, xk_sipush_1023, xk_bipush_52, xg_0_0, xp_0_0, xg_0_1, xp_0_1, xg_0_2, xp_0_2, xg_0_3, xp_0_3, xg_0_4, xp_0_4, xg_0_5, xp_0_5, xg_0_6, xp_0_6, xg_0_7, xp_0_7, xg_0_8, xp_0_8, xg_1_0, xp_1_0, xg_1_1, xp_1_1, xg_1_2, xp_1_2, xg_1_3, xp_1_3, xg_2_0, xp_2_0, xg_2_1, xp_2_1, xg_2_2, xp_2_2, xg_3_0, xp_3_0, xg_3_1, xp_3_1, xg_3_2, xp_3_2, xg_3_3, xp_3_3, xg_3_4, xp_3_4, xg_3_5, xp_3_5, xg_3_6, xp_3_6, xg_3_7, xp_3_7, xg_3_8, xp_3_8, xg_3_9, xp_3_9, xg_3_10, xp_3_10, xg_3_11, xp_3_11, xg_4_0, xp_4_0, xg_4_1, xp_4_1, xg_5_0, xp_5_0, xg_5_1, xp_5_1, xg_6_0, xp_6_0, xg_6_1, xp_6_1, xg_6_2, xp_6_2, xg_6_3, xp_6_3, xg_6_4, xp_6_4, xg_6_5, xp_6_5, fv0, fv1, fv2, fv3, kI_0, kI_1, stL, wipeL, entLn, entL, List.getElem?_cons_zero, List.getElem?_cons_succ, List.getElem?_nil, List.set_cons_zero, List.set_cons_succ, List.set_nil, List.length_cons, List.length_nil, List.cons_append, List.nil_append, List.replicate, Nat.reduceAdd, Nat.reduceLeDiff, Nat.reduceSub, true_and, and_true, x_callS, x_callSN, x_callI, x_callIN, x_callV0, x_callV1, x_callV2, x_callV3, x_callV4, x_callV5, x_callV6, x_callV7, callP, List.take_succ_cons, List.take_zero, List.take_nil, List.drop_succ_cons, List.drop_zero, List.drop_nil, List.getLast?_singleton, List.getLast?_cons_cons, Option.some.injEq, Value.ref.injEq, exists_eq_left, exists_eq_left', Nat.zero_le, Nat.add_zero, ldcV_f, ldcV_fn, ldcV_l, ldcV_d, Nat.reduceMul, Nat.le_refl, List.reverse_cons, List.reverse_nil, Option.toList, List.map_cons, List.map_nil, List.sum_cons, List.sum_nil, Value.category, tblW_n, tblW_c, Int.cast_ofNat_Int, Int.reduceAdd, Int.reduceToNat, ofI_n, rc_J9_min_7cf53, rs_J9_min_7cf53, P_J9_min_7cf53]
  obtain ⟨h1, x, c, hx, hc, ex, ec, h2, h3⟩ := h
  have e7 : ¬ nI 7 = 0 := by decide
  have e1 : nI (x + 1) / nI 7 = nI ((x + 1) / 7) := pk_div (by omega) (by omega) (by omega)
  have e2 : nI (x + 1) - nI ((x + 1) / 7) * nI 7 = nI ((x + 1) % 7) := by rw [← e1]; exact pk_rem (by omega) (by omega) (by omega)
  have e3 : (if nI 6 < nI (c + 1) then nI 6 else nI (c + 1)) = nI (min (c + 1) 6) := by
    by_cases h : 6 < c + 1
    · rw [if_pos (nI_lt h (by omega)), Nat.min_eq_right (by omega)]
    · rw [if_neg (nI_nlt (by omega) (by omega)), Nat.min_eq_left (by omega)]
  simp only [h1, ex, ec, e7, e1, e2, nI_add, e3, sK_stI, sR_stI, sK_stF, sR_stF, sK_stIA, sR_stIA, sK_stFA, sR_stFA, sI_stI, sI_stF, sI_stIA, sI_stFA, sF_stI, sF_stF, sF_stIA, sF_stFA, Nat.left_eq_add, Nat.add_eq_left, Nat.add_left_cancel_iff, Nat.reduceEqDiff, Nat.reduceEqDiff, Nat.succ_ne_self, false_and, and_false, if_false, if_true, nI_succ_sub, Option.some.injEq, Prod.mk.injEq, exists_eq_left', true_and, and_true, retI, retF, retV, retZ1, retZ0, retL, retA, retN, Nat.reduceAdd, Nat.reduceMul, Nat.reduceLT]
  refine ⟨fun q => h3 (Int32.not_le.mpr q), fun q => ⟨not_false, h2 (Int32.not_lt.mp q)⟩⟩
def P_X2_takeBackInto (as : List Value) (S : SS) (E : Option Value → SS → Prop) : Prop := match as with
  | [.ref h, .ref d] => HistAt S h ∧ DeskAt S d ∧ Ap d 26 h 184 ∧ ∃ x c, x < 7 ∧ c ≤ 6 ∧ sI S h 1 = nI x ∧ sI S h 2 = nI c ∧ (0 < c → ∃ n, n ≤ 4 ∧ sI S (h + 2 + 26 * ((x + 6) % 7)) 6 = nI n) ∧ (c = 0 → E (some (.int (mI 5))) S) ∧
      (0 < c → ∀ S', Fr (stI (stI S h 1 (nI ((x + 6) % 7))) h 2 (nI (c - 1))) S' d (d + 26) → DE (dV S' d) (dV S (h + 2 + 26 * ((x + 6) % 7))) → E (some (.int (nI (c - 1)))) S')
  | _ => False
def Γ_X2_takeBackInto : List (MI × PT) := [(mi_X0_copyFrom, P_X0_copyFrom)]
theorem hΓ_X2_takeBackInto (l : Launch) (G : Gx) : ∀ q ∈ Γ_X2_takeBackInto, Ct l G q.1 q.2 := List.forall_mem_cons.mpr ⟨ct_X0_copyFrom l G, fun _ h => absurd h List.not_mem_nil⟩
set_option maxHeartbeats 1000000 in
theorem ct_X2_takeBackInto (l : Launch) (G : Gx) : Ct l G mi_X2_takeBackInto P_X2_takeBackInto := by
  refine Ct.ofV mo_X2_takeBackInto (fun as S E h => ?_)
  unfold P_X2_takeBackInto at h
  split at h
  case h_2 => exact h.elim
  rename_i h d
  refine ⟨by simp [entL, mL_X2_takeBackInto], ?_⟩
  refine wpN_ok (Γ := Γ_X2_takeBackInto) (hΓ_X2_takeBackInto l G) so_X2_takeBackInto 3 _ _ _ _ _ _ ?_
  simp only [mL_X2_takeBackInto, mT_X2_takeBackInto, rc_X2_takeBackInto, rs_X2_takeBackInto, Γ_X2_takeBackInto, sg_X2_takeBackInto_0, sg_X2_takeBackInto_10, wn_X2_takeBackInto_0, wn_X2_takeBackInto_10, wp_c, ex_c, x_nop, x_goto, x_table, x_iinc, x_ldc, x_ldc2, x_iaload, x_faload, x_baload, x_caload, x_iastore, x_fastore, x_bastore, x_castore, x_aastore, x_alen, x_gets, x_new, x_newa, x_anew, x_invs, x_invi, x_invv, x_ret, x_iret, x_lret, x_fret, x_aret, x_lconst, x_fconst0, x_fconst1, x_fconst2, x_dconst0, x_dconst1, x_null, x_iadd, x_isub, x_imul, x_iand, x_ior, x_idiv, x_irem, x_ineg, x_ishl, x_ishr, x_land, x_ladd, x_lmul, x_lor, x_lushr, x_lshl, x_lcmp, x_i2l, x_l2i, x_i2c, x_i2f, x_f2d, x_d2i, x_d2l, x_fadd, x_fsub, x_fmul, x_fdiv, x_dadd, x_dsub, x_dmul, x_ddiv, x_fcmp, x_dcmp, x_dupI, x_dupR, x_dup2, x_popI, x_popR, ldP_I, ldP_L, ldP_F, ldP_D, ldP_R, ldP_N, x_iload, x_iload_n, x_lload, x_lload_n, x_fload, x_fload_n, x_dload, x_dload_n, x_aload, x_aload_n, x_istore, x_istore_n, x_lstore, x_lstore_n, x_fstore, x_fstore_n, x_dstore, x_dstore_n, x_astore, x_astore_n, x_astoreN, x_astore_nN, x_icmp_eq, x_icmp_ne, x_icmp_lt, x_icmp_ge, x_icmp_gt, x_icmp_le, x_if_eq, x_if_ne, x_if_lt, x_if_ge, x_if_gt, x_if_le, x_ifnull, x_ifnullR, x_ifnn, x_ifnnR, x_aaload2, x_cpI, x_cpF, x_oI, xk_bipush_120, xk_iconst_0, xk_bipush_m6, xk_iconst_1, xk_bipush_80, xk_iconst_4, xk_bipush_6, xk_iconst_2, xk_bipush_40, xk_iconst_3, xk_bipush_10, xk_iconst_5, xk_bipush_m2, xk_bipush_m4, xk_iconst_m1, xk_bipush_m5, xk_bipush_12, xk_bipush_100, xk_bipush_26, xk_bipush_48, xk_sipush_9999, xk_sipush_500, xk_bipush_7, xk_bipush_119, xk_bipush_m126, xk_bipush_127, xk_bipush_23, xk_sipush_m1022, xk_sipush_1023, xk_bipush_52, xg_0_0, xp_0_0, xg_0_1, xp_0_1, xg_0_2, xp_0_2, xg_0_3, xp_0_3, xg_0_4, xp_0_4, xg_0_5, xp_0_5, xg_0_6, xp_0_6, xg_0_7, xp_0_7, xg_0_8, xp_0_8, xg_1_0, xp_1_0, xg_1_1, xp_1_1, xg_1_2, xp_1_2, xg_1_3, xp_1_3, xg_2_0, xp_2_0, xg_2_1, xp_2_1, xg_2_2, xp_2_2, xg_3_0, xp_3_0, xg_3_1, xp_3_1, xg_3_2, xp_3_2, xg_3_3, xp_3_3, xg_3_4, xp_3_4, xg_3_5, xp_3_5, xg_3_6, xp_3_6, xg_3_7, xp_3_7, xg_3_8, xp_3_8, xg_3_9, xp_3_9, xg_3_10, xp_3_10, xg_3_11, xp_3_11, xg_4_0, xp_4_0, xg_4_1, xp_4_1, xg_5_0, xp_5_0, xg_5_1, xp_5_1, xg_6_0, xp_6_0, xg_6_1, xp_6_1, xg_6_2, xp_6_2, xg_6_3, xp_6_3, xg_6_4, xp_6_4, xg_6_5, xp_6_5, fv0, fv1, fv2, fv3, kI_0, kI_1, stL, wipeL, entLn, entL, List.getElem?_cons_zero, List.getElem?_cons_succ, List.getElem?_nil, List.set_cons_zero, List.set_cons_succ, List.set_nil, List.length_cons, List.length_nil, List.cons_append, List.nil_append, List.replicate, Nat.reduceAdd, Nat.reduceLeDiff, Nat.reduceSub, true_and, and_true, x_callS, x_callSN, x_callI, x_callIN, x_callV0, x_callV1, x_callV2, x_callV3, x_callV4, x_callV5, x_callV6, x_callV7, callP, List.take_succ_cons, List.take_zero, List.take_nil, List.drop_succ_cons, List.drop_zero, List.drop_nil, List.getLast?_singleton, List.getLast?_cons_cons, Option.some.injEq, Value.ref.injEq, exists_eq_left, exists_eq_left', Nat.zero_le, Nat.add_zero, ldcV_f, ldcV_fn, ldcV_l, ldcV_d, Nat.reduceMul, Nat.le_refl, List.reverse_cons, List.reverse_nil, Option.toList, List.map_cons, List.map_nil, List.sum_cons, List.sum_nil, Value.category, tblW_n, tblW_c, Int.cast_ofNat_Int, Int.reduceAdd, Int.reduceToNat, ofI_n, rc_X0_copyFrom, rs_X0_copyFrom, P_X0_copyFrom]
  obtain ⟨hh, hd, hap, x, c, hx, hc, ex, ec, hn, h5, h6⟩ := h
  have hh0 := hh
  obtain ⟨h1, h2, h3, h4⟩ := hh
  have e7 : ¬ nI 7 = 0 := by decide
  have e0 : nI x + nI 7 - nI 1 = nI (x + 6) := by rw [nI_add, pk_sub (by omega)]; rfl
  have e1 : nI (x + 6) / nI 7 = nI ((x + 6) / 7) := pk_div (by omega) (by omega) (by omega)
  have e2 : nI (x + 6) - nI ((x + 6) / 7) * nI 7 = nI ((x + 6) % 7) := by rw [← e1]; exact pk_rem (by omega) (by omega) (by omega)
  simp only [h1, h2, h3, ex, ec, e7, e0, e1, e2, hd.1, sK_stI, sR_stI, sK_stF, sR_stF, sK_stIA, sR_stIA, sK_stFA, sR_stFA, sI_stI, sI_stF, sI_stIA, sI_stFA, sF_stI, sF_stF, sF_stIA, sF_stFA, Nat.left_eq_add, Nat.add_eq_left, Nat.add_left_cancel_iff, Nat.reduceEqDiff, Nat.reduceEqDiff, Nat.succ_ne_self, false_and, and_false, if_false, if_true, nI_succ_sub, Option.some.injEq, Prod.mk.injEq, exists_eq_left', true_and, and_true, retI, retF, retV, retZ1, retZ0, retL, retA, retN, Nat.reduceAdd, Nat.reduceMul, Nat.reduceLT]
  simp (disch := omega) only [nlt0, nge0, neq0, ngt0, nle0, nI_ltI, nI_leI, nI_eq, nI_cl, in_nI, false_implies, true_implies, not_false_eq_true, not_true_eq_false, and_true, true_and, nI_add, pk_mul, implies_true, not_lt0]
  refine ⟨fun q => ?_, fun q => h5 (Decidable.not_not.mp q)⟩
  obtain ⟨r1, r2⟩ := h4 ((x + 6) % 7) (by omega)
  have e3 : nI c - nI 1 = nI (c - 1) := pk_sub (by omega)
  have hap' := hap
  unfold Ap at hap'
  rw [e3]
  have hF : Fr S (stI (stI S h 1 (nI ((x + 6) % 7))) h 2 (nI (c - 1))) h (h + 1) := ((Fr.refl _ _ _).stI _ _ _ (Nat.le_refl _) (by omega)).stI _ _ _ (Nat.le_refl _) (by omega)
  refine ⟨by omega, _, r1, hF.desk hd, hF.desk r2, ?_, hn (by omega), fun T hT hE => ⟨?_, ?_⟩⟩
  · unfold Ap
    omega
  · rw [hT.1]
    exact h1
  · have e4 : sI T h 2 = nI (c - 1) := by
      rw [hT.i (by omega), sI_stI, if_pos ⟨rfl, rfl⟩]
    rw [e4]
    exact h6 (by omega) T hT (hE.trans (hF.dE (by omega)))
