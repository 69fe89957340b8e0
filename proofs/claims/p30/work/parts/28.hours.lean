-- needs: 18.nums 19.proj 20.spec 21.shape 22.leaf 23.fl 23.view 24.loops 26.near
/-! hours -/
def clV (D : DV) (x : UInt32) : UInt32 := clF (D.st 3) x
def itV (D : DV) (x : UInt32) (n : Nat) : UInt32 := fo (fun x _ => clV D x) x n
theorem itV_s (D : DV) (x : UInt32) (n : Nat) : itV D x (n + 1) = clV D (itV D x n) := rfl
theorem okL_clV {D : DV} {x : UInt32} (hs : StV D) (hx : okL x) : okL (clV D x) := by
  obtain ⟨-, -, -, ⟨c, hc, ec⟩, -⟩ := hs
  unfold clV
  rw [ec]
  exact (fl_cl hx hc).2.2.2.2
theorem okL_itV {D : DV} {x : UInt32} (hs : StV D) (hx : okL x) : ∀ n, okL (itV D x n)
  | 0 => hx
  | n + 1 => okL_clV hs (okL_itV hs hx n)
theorem itV_stop {D : DV} {x : UInt32} {m : Nat} (h : itV D x (m + 1) = itV D x m) : ∀ n, m ≤ n → itV D x n = itV D x m := by
  intro n
  induction n with
  | zero => intro h2; rw [show m = 0 by omega]
  | succ n ih =>
    intro h2
    by_cases h3 : m = n + 1
    · rw [h3]
    · rw [itV_s, ih (by omega), ← itV_s, h]
def P_X0_cleared (as : List Value) (S : SS) (E : Option Value → SS → Prop) : Prop := match as with
  | [.ref d, .float x] => DeskAt S d ∧ StV (dV S d) ∧ okL x ∧ E (some (.float (clV (dV S d) x))) S
  | _ => False
def Γ_X0_cleared : List (MI × PT) := []
theorem hΓ_X0_cleared (l : Launch) (G : Gx) : ∀ q ∈ Γ_X0_cleared, Ct l G q.1 q.2 := fun _ h => absurd h List.not_mem_nil
set_option maxHeartbeats 1000000 in
theorem ct_X0_cleared (l : Launch) (G : Gx) : Ct l G mi_X0_cleared P_X0_cleared := by
  refine Ct.ofV mo_X0_cleared (fun as S E h => ?_)
  unfold P_X0_cleared at h
  split at h
  case h_2 => exact h.elim
  rename_i d x
  refine ⟨by simp [entL, mL_X0_cleared], ?_⟩
  refine wpN_ok (Γ := Γ_X0_cleared) (hΓ_X0_cleared l G) so_X0_cleared 4 _ _ _ _ _ _ ?_
  simp only [mL_X0_cleared, mT_X0_cleared, rc_X0_cleared, rs_X0_cleared, Γ_X0_cleared, sg_X0_cleared_0, wn_X0_cleared_0, wp_c, ex_c, x_nop, x_goto, x_table, x_iinc, x_ldc, x_ldc2, x_iaload, x_faload, x_baload, x_caload, x_iastore, x_fastore, x_bastore, x_castore, x_aastore, x_alen, x_gets, x_new, x_newa, x_anew, x_invs, x_invi, x_invv, x_ret, x_iret, x_lret, x_fret, x_aret, x_lconst, x_fconst0, x_fconst1, x_fconst2, x_dconst0, x_dconst1, x_null, x_iadd, x_isub, x_imul, x_iand, x_ior, x_idiv, x_irem, x_ineg, x_ishl, x_ishr, x_land, x_ladd, x_lmul, x_lor, x_lushr, x_lshl, x_lcmp, x_i2l, x_l2i, x_i2c, x_i2f, x_f2d, x_d2i, x_d2l, x_fadd, x_fsub, x_fmul, x_fdiv, x_dadd, x_dsub, x_dmul, x_ddiv, x_fcmp, x_dcmp, x_dupI, x_dupR, x_dup2, x_popI, x_popR, ldP_I, ldP_L, ldP_F, ldP_D, ldP_R, ldP_N, x_iload, x_iload_n, x_lload, x_lload_n, x_fload, x_fload_n, x_dload, x_dload_n, x_aload, x_aload_n, x_istore, x_istore_n, x_lstore, x_lstore_n, x_fstore, x_fstore_n, x_dstore, x_dstore_n, x_astore, x_astore_n, x_astoreN, x_astore_nN, x_icmp_eq, x_icmp_ne, x_icmp_lt, x_icmp_ge, x_icmp_gt, x_icmp_le, x_if_eq, x_if_ne, x_if_lt, x_if_ge, x_if_gt, x_if_le, x_ifnull, x_ifnullR, x_ifnn, x_ifnnR, x_aaload2, x_cpI, x_cpF, x_oI, xk_bipush_120, xk_iconst_0, xk_bipush_m6, xk_iconst_1, xk_bipush_80, xk_iconst_4, xk_bipush_6, xk_iconst_2, xk_bipush_40, xk_iconst_3, xk_bipush_10, xk_iconst_5, xk_bipush_m2, xk_bipush_m4, xk_iconst_m1, xk_bipush_m5, xk_bipush_12, xk_bipush_100, xk_bipush_26, xk_bipush_48, xk_sipush_9999, xk_sipush_500, xk_bipush_7, xk_bipush_119, xk_bipush_m126, xk_bipush_127, xk_bipush_23, xk_sipush_m1022, xk_sipush_1023, xk_bipush_52, xg_0_0, xp_0_0, xg_0_1, xp_0_1, xg_0_2, xp_0_2, xg_0_3, xp_0_3, xg_0_4, xp_0_4, xg_0_5, xp_0_5, xg_0_6, xp_0_6, xg_0_7, xp_0_7, xg_0_8, xp_0_8, xg_1_0, xp_1_0, xg_1_1, xp_1_1, xg_1_2, xp_1_2, xg_1_3, xp_1_3, xg_2_0, xp_2_0, xg_2_1, xp_2_1, xg_2_2, xp_2_2, xg_3_0, xp_3_0, xg_3_1, xp_3_1, xg_3_2, xp_3_2, xg_3_3, xp_3_3, xg_3_4, xp_3_4, xg_3_5, xp_3_5, xg_3_6, xp_3_6, xg_3_7, xp_3_7, xg_3_8, xp_3_8, xg_3_9, xp_3_9, xg_3_10, xp_3_10, xg_3_11, xp_3_11, xg_4_0, xp_4_0, xg_4_1, xp_4_1, xg_5_0, xp_5_0, xg_5_1, xp_5_1, xg_6_0, xp_6_0, xg_6_1, xp_6_1, xg_6_2, xp_6_2, xg_6_3, xp_6_3, xg_6_4, xp_6_4, xg_6_5, xp_6_5, fv0, fv1, fv2, fv3, kI_0, kI_1, stL, wipeL, entLn, entL, List.getElem?_cons_zero, List.getElem?_cons_succ, List.getElem?_nil, List.set_cons_zero, List.set_cons_succ, List.set_nil, List.length_cons, List.length_nil, List.cons_append, List.nil_append, List.replicate, Nat.reduceAdd, Nat.reduceLeDiff, Nat.reduceSub, true_and, and_true, x_callS, x_callSN, x_callI, x_callIN, x_callV0, x_callV1, x_callV2, x_callV3, x_callV4, x_callV5, x_callV6, x_callV7, callP, List.take_succ_cons, List.take_zero, List.take_nil, List.drop_succ_cons, List.drop_zero, List.drop_nil, List.getLast?_singleton, List.getLast?_cons_cons, Option.some.injEq, Value.ref.injEq, exists_eq_left, exists_eq_left', Nat.zero_le, Nat.add_zero, ldcV_f, ldcV_fn, ldcV_l, ldcV_d, Nat.reduceMul, Nat.le_refl, List.reverse_cons, List.reverse_nil, Option.toList, List.map_cons, List.map_nil, List.sum_cons, List.sum_nil, Value.category, tblW_n, tblW_c, Int.cast_ofNat_Int, Int.reduceAdd, Int.reduceToNat, ofI_n]
  obtain ⟨⟨d0, d1, d2, d3, d4, d5, d6, d7, d8, d9, d10, d11⟩, ⟨-, -, -, ⟨c, hc, ec⟩, -⟩, hx, h⟩ := h
  obtain ⟨f1, f2, f3, f4, f5⟩ := fl_cl hx hc
  have ec' : sI S (d + 1) 3 = nI c := ec
  unfold clV clF at h
  rw [ec] at h
  simp only [d0, d1, d6, sK_stI, sR_stI, sK_stF, sR_stF, sK_stIA, sR_stIA, sK_stFA, sR_stFA, sI_stI, sI_stF, sI_stIA, sI_stFA, sF_stI, sF_stF, sF_stIA, sF_stFA, Nat.left_eq_add, Nat.add_eq_left, Nat.add_left_cancel_iff, Nat.reduceEqDiff, Nat.reduceEqDiff, Nat.succ_ne_self, false_and, and_false, if_false, if_true, nI_succ_sub, Option.some.injEq, Prod.mk.injEq, exists_eq_left', true_and, and_true, retI, retF, retV, retZ1, retZ0, retL, retA, retN, Nat.reduceAdd, Nat.reduceMul, Nat.reduceLT]
  simp (disch := omega) only [nlt0, nge0, neq0, ngt0, nle0, nI_ltI, nI_leI, nI_eq, nI_cl, in_nI, false_implies, true_implies, not_false_eq_true, not_true_eq_false, and_true, true_and, nI_add, pk_mul, implies_true, not_lt0, ec']
  exact ⟨f1, by omega, f2, f3, f4, h⟩
def P_X0_clearedFor (as : List Value) (S : SS) (E : Option Value → SS → Prop) : Prop := match as with
  | [.ref d, .float x, .int m] => DeskAt S d ∧ StV (dV S d) ∧ okL x ∧ vp_in m 100 ∧ E (some (.float (itV (dV S d) x m.toNatClampNeg))) S
  | _ => False
def Γ_X0_clearedFor : List (MI × PT) := [(mi_X0_cleared, P_X0_cleared)]
theorem hΓ_X0_clearedFor (l : Launch) (G : Gx) : ∀ q ∈ Γ_X0_clearedFor, Ct l G q.1 q.2 := List.forall_mem_cons.mpr ⟨ct_X0_cleared l G, fun _ h => absurd h List.not_mem_nil⟩
set_option maxHeartbeats 1000000 in
theorem lp_X0_clearedFor (l : Launch) (G : Gx) {S : SS} {d m : Nat} {x : UInt32} {E : Option Value → SS → Prop} (hd : DeskAt S d) (hs : StV (dV S d)) (hx : okL x) (hm : m < 100) (h : E (some (.float (itV (dV S d) x m))) S) :
    ∀ j, j ≤ m → ∀ x5, V l G mi_X0_clearedFor E 5 [some (.ref d), some (.float x), some (.int (nI m)), some (.float (itV (dV S d) x j)), some (.int (nI j)), x5] [] S 0 0 := by
  refine loopUp m fun j hj ih x5 => ?_
  refine (V.segN (Γ := Γ_X0_clearedFor) (hΓ_X0_clearedFor l G) so_X0_clearedFor 4 (sg := sg_X0_clearedFor_5) so_X0_clearedFor_5 ?_ : V l G mi_X0_clearedFor _ (segPc sg_X0_clearedFor_5) _ _ _ _ _)
  simp only [mL_X0_clearedFor, mT_X0_clearedFor, rc_X0_clearedFor, rs_X0_clearedFor, Γ_X0_clearedFor, sg_X0_clearedFor_0, sg_X0_clearedFor_5, sg_X0_clearedFor_27, sg_X0_clearedFor_36, wn_X0_clearedFor_0, wn_X0_clearedFor_5, wn_X0_clearedFor_27, wn_X0_clearedFor_36, wp_c, ex_c, x_nop, x_goto, x_table, x_iinc, x_ldc, x_ldc2, x_iaload, x_faload, x_baload, x_caload, x_iastore, x_fastore, x_bastore, x_castore, x_aastore, x_alen, x_gets, x_new, x_newa, x_anew, x_invs, x_invi, x_invv, x_ret, x_iret, x_lret, x_fret, x_aret, x_lconst, x_fconst0, x_fconst1, x_fconst2, x_dconst0, x_dconst1, x_null, x_iadd, x_isub, x_imul, x_iand, x_ior, x_idiv, x_irem, x_ineg, x_ishl, x_ishr, x_land, x_ladd, x_lmul, x_lor, x_lushr, x_lshl, x_lcmp, x_i2l, x_l2i, x_i2c, x_i2f, x_f2d, x_d2i, x_d2l, x_fadd, x_fsub, x_fmul, x_fdiv, x_dadd, x_dsub, x_dmul, x_ddiv, x_fcmp, x_dcmp, x_dupI, x_dupR, x_dup2, x_popI, x_popR, ldP_I, ldP_L, ldP_F, ldP_D, ldP_R, ldP_N, x_iload, x_iload_n, x_lload, x_lload_n, x_fload, x_fload_n, x_dload, x_dload_n, x_aload, x_aload_n, x_istore, x_istore_n, x_lstore, x_lstore_n, x_fstore, x_fstore_n, x_dstore, x_dstore_n, x_astore, x_astore_n, x_astoreN, x_astore_nN, x_icmp_eq, x_icmp_ne, x_icmp_lt, x_icmp_ge, x_icmp_gt, x_icmp_le, x_if_eq, x_if_ne, x_if_lt, x_if_ge, x_if_gt, x_if_le, x_ifnull, x_ifnullR, x_ifnn, x_ifnnR, x_aaload2, x_cpI, x_cpF, x_oI, xk_bipush_120, xk_iconst_0, xk_bipush_m6, xk_iconst_1, xk_bipush_80, xk_iconst_4, xk_bipush_6, xk_iconst_2, xk_bipush_40, xk_iconst_3, xk_bipush_10, xk_iconst_5, xk_bipush_m2, xk_bipush_m4, xk_iconst_m1, xk_bipush_m5, xk_bipush_12, xk_bipush_100, xk_bipush_26, xk_bipush_48, xk_sipush_9999, xk_sipush_500, xk_bipush_7, xk_bipush_119, xk_bipush_m126, xk_bipush_127, xk_bipush_23, xk_sipush_m1022, xk_sipush_1023, xk_bipush_52, xg_0_0, xp_0_0, xg_0_1, xp_0_1, xg_0_2, xp_0_2, xg_0_3, xp_0_3, xg_0_4, xp_0_4, xg_0_5, xp_0_5, xg_0_6, xp_0_6, xg_0_7, xp_0_7, xg_0_8, xp_0_8, xg_1_0, xp_1_0, xg_1_1, xp_1_1, xg_1_2, xp_1_2, xg_1_3, xp_1_3, xg_2_0, xp_2_0, xg_2_1, xp_2_1, xg_2_2, xp_2_2, xg_3_0, xp_3_0, xg_3_1, xp_3_1, xg_3_2, xp_3_2, xg_3_3, xp_3_3, xg_3_4, xp_3_4, xg_3_5, xp_3_5, xg_3_6, xp_3_6, xg_3_7, xp_3_7, xg_3_8, xp_3_8, xg_3_9, xp_3_9, xg_3_10, xp_3_10, xg_3_11, xp_3_11, xg_4_0, xp_4_0, xg_4_1, xp_4_1, xg_5_0, xp_5_0, xg_5_1, xp_5_1, xg_6_0, xp_6_0, xg_6_1, xp_6_1, xg_6_2, xp_6_2, xg_6_3, xp_6_3, xg_6_4, xp_6_4, xg_6_5, xp_6_5, fv0, fv1, fv2, fv3, kI_0, kI_1, stL, wipeL, entLn, entL, List.getElem?_cons_zero, List.getElem?_cons_succ, List.getElem?_nil, List.set_cons_zero, List.set_cons_succ, List.set_nil, List.length_cons, List.length_nil, List.cons_append, List.nil_append, List.replicate, Nat.reduceAdd, Nat.reduceLeDiff, Nat.reduceSub, true_and, and_true, x_callS, x_callSN, x_callI, x_callIN, x_callV0, x_callV1, x_callV2, x_callV3, x_callV4, x_callV5, x_callV6, x_callV7, callP, List.take_succ_cons, List.take_zero, List.take_nil, List.drop_succ_cons, List.drop_zero, List.drop_nil, List.getLast?_singleton, List.getLast?_cons_cons, Option.some.injEq, Value.ref.injEq, exists_eq_left, exists_eq_left', Nat.zero_le, Nat.add_zero, ldcV_f, ldcV_fn, ldcV_l, ldcV_d, Nat.reduceMul, Nat.le_refl, List.reverse_cons, List.reverse_nil, Option.toList, List.map_cons, List.map_nil, List.sum_cons, List.sum_nil, Value.category, tblW_n, tblW_c, Int.cast_ofNat_Int, Int.reduceAdd, Int.reduceToNat, ofI_n, rc_X0_cleared, rs_X0_cleared, P_X0_cleared]
  have hl := okL_itV hs hx j
  have hl2 := okL_itV hs hx (j + 1)
  simp only [hd.1, hd, hs, hl, sK_stI, sR_stI, sK_stF, sR_stF, sK_stIA, sR_stIA, sK_stFA, sR_stFA, sI_stI, sI_stF, sI_stIA, sI_stFA, sF_stI, sF_stF, sF_stIA, sF_stFA, Nat.left_eq_add, Nat.add_eq_left, Nat.add_left_cancel_iff, Nat.reduceEqDiff, Nat.reduceEqDiff, Nat.succ_ne_self, false_and, and_false, if_false, if_true, nI_succ_sub, Option.some.injEq, Prod.mk.injEq, exists_eq_left', true_and, and_true, retI, retF, retV, retZ1, retZ0, retL, retA, retN, Nat.reduceAdd, Nat.reduceMul, Nat.reduceLT]
  simp (disch := omega) only [nlt0, nge0, neq0, ngt0, nle0, nI_ltI, nI_leI, nI_eq, nI_cl, in_nI, false_implies, true_implies, not_false_eq_true, not_true_eq_false, and_true, true_and, nI_add, pk_mul, implies_true, not_lt0]
  refine ⟨fun q => ?_, fun q => ⟨fun c => ih (by omega) _, fun c => ?_⟩⟩
  · have e : j = m := by omega
    subst e
    exact h
  · have e := fl_eq (show okL (clV (dV S d) (itV (dV S d) x j)) from hl2) hl (Decidable.not_not.mp c)
    rw [itV_stop (show itV (dV S d) x (j + 1) = itV (dV S d) x j from e) m hj] at h
    exact h
set_option maxHeartbeats 1000000 in
theorem ct_X0_clearedFor (l : Launch) (G : Gx) : Ct l G mi_X0_clearedFor P_X0_clearedFor := by
  refine Ct.ofV mo_X0_clearedFor (fun as S E h => ?_)
  unfold P_X0_clearedFor at h
  split at h
  case h_2 => exact h.elim
  rename_i d x m
  refine ⟨by simp [entL, mL_X0_clearedFor], ?_⟩
  refine wpN_ok (Γ := Γ_X0_clearedFor) (hΓ_X0_clearedFor l G) so_X0_clearedFor 4 _ _ _ _ _ _ ?_
  simp only [mL_X0_clearedFor, mT_X0_clearedFor, rc_X0_clearedFor, rs_X0_clearedFor, Γ_X0_clearedFor, sg_X0_clearedFor_0, sg_X0_clearedFor_5, sg_X0_clearedFor_27, sg_X0_clearedFor_36, wn_X0_clearedFor_0, wn_X0_clearedFor_5, wn_X0_clearedFor_27, wn_X0_clearedFor_36, wp_c, ex_c, x_nop, x_goto, x_table, x_iinc, x_ldc, x_ldc2, x_iaload, x_faload, x_baload, x_caload, x_iastore, x_fastore, x_bastore, x_castore, x_aastore, x_alen, x_gets, x_new, x_newa, x_anew, x_invs, x_invi, x_invv, x_ret, x_iret, x_lret, x_fret, x_aret, x_lconst, x_fconst0, x_fconst1, x_fconst2, x_dconst0, x_dconst1, x_null, x_iadd, x_isub, x_imul, x_iand, x_ior, x_idiv, x_irem, x_ineg, x_ishl, x_ishr, x_land, x_ladd, x_lmul, x_lor, x_lushr, x_lshl, x_lcmp, x_i2l, x_l2i, x_i2c, x_i2f, x_f2d, x_d2i, x_d2l, x_fadd, x_fsub, x_fmul, x_fdiv, x_dadd, x_dsub, x_dmul, x_ddiv, x_fcmp, x_dcmp, x_dupI, x_dupR, x_dup2, x_popI, x_popR, ldP_I, ldP_L, ldP_F, ldP_D, ldP_R, ldP_N, x_iload, x_iload_n, x_lload, x_lload_n, x_fload, x_fload_n, x_dload, x_dload_n, x_aload, x_aload_n, x_istore, x_istore_n, x_lstore, x_lstore_n, x_fstore, x_fstore_n, x_dstore, x_dstore_n, x_astore, x_astore_n, x_astoreN, x_astore_nN, x_icmp_eq, x_icmp_ne, x_icmp_lt, x_icmp_ge, x_icmp_gt, x_icmp_le, x_if_eq, x_if_ne, x_if_lt, x_if_ge, x_if_gt, x_if_le, x_ifnull, x_ifnullR, x_ifnn, x_ifnnR, x_aaload2, x_cpI, x_cpF, x_oI, xk_bipush_120, xk_iconst_0, xk_bipush_m6, xk_iconst_1, xk_bipush_80, xk_iconst_4, xk_bipush_6, xk_iconst_2, xk_bipush_40, xk_iconst_3, xk_bipush_10, xk_iconst_5, xk_bipush_m2, xk_bipush_m4, xk_iconst_m1, xk_bipush_m5, xk_bipush_12, xk_bipush_100, xk_bipush_26, xk_bipush_48, xk_sipush_9999, xk_sipush_500, xk_bipush_7, xk_bipush_119, xk_bipush_m126, xk_bipush_127, xk_bipush_23, xk_sipush_m1022, xk_sipush_1023, xk_bipush_52, xg_0_0, xp_0_0, xg_0_1, xp_0_1, xg_0_2, xp_0_2, xg_0_3, xp_0_3, xg_0_4, xp_0_4, xg_0_5, xp_0_5, xg_0_6, xp_0_6, xg_0_7, xp_0_7, xg_0_8, xp_0_8, xg_1_0, xp_1_0, xg_1_1, xp_1_1, xg_1_2, xp_1_2, xg_1_3, xp_1_3, xg_2_0, xp_2_0, xg_2_1, xp_2_1, xg_2_2, xp_2_2, xg_3_0, xp_3_0, xg_3_1, xp_3_1, xg_3_2, xp_3_2, xg_3_3, xp_3_3, xg_3_4, xp_3_4, xg_3_5, xp_3_5, xg_3_6, xp_3_6, xg_3_7, xp_3_7, xg_3_8, xp_3_8, xg_3_9, xp_3_9, xg_3_10, xp_3_10, xg_3_11, xp_3_11, xg_4_0, xp_4_0, xg_4_1, xp_4_1, xg_5_0, xp_5_0, xg_5_1, xp_5_1, xg_6_0, xp_6_0, xg_6_1, xp_6_1, xg_6_2, xp_6_2, xg_6_3, xp_6_3, xg_6_4, xp_6_4, xg_6_5, xp_6_5, fv0, fv1, fv2, fv3, kI_0, kI_1, stL, wipeL, entLn, entL, List.getElem?_cons_zero, List.getElem?_cons_succ, List.getElem?_nil, List.set_cons_zero, List.set_cons_succ, List.set_nil, List.length_cons, List.length_nil, List.cons_append, List.nil_append, List.replicate, Nat.reduceAdd, Nat.reduceLeDiff, Nat.reduceSub, true_and, and_true, x_callS, x_callSN, x_callI, x_callIN, x_callV0, x_callV1, x_callV2, x_callV3, x_callV4, x_callV5, x_callV6, x_callV7, callP, List.take_succ_cons, List.take_zero, List.take_nil, List.drop_succ_cons, List.drop_zero, List.drop_nil, List.getLast?_singleton, List.getLast?_cons_cons, Option.some.injEq, Value.ref.injEq, exists_eq_left, exists_eq_left', Nat.zero_le, Nat.add_zero, ldcV_f, ldcV_fn, ldcV_l, ldcV_d, Nat.reduceMul, Nat.le_refl, List.reverse_cons, List.reverse_nil, Option.toList, List.map_cons, List.map_nil, List.sum_cons, List.sum_nil, Value.category, tblW_n, tblW_c, Int.cast_ofNat_Int, Int.reduceAdd, Int.reduceToNat, ofI_n, rc_X0_cleared, rs_X0_cleared, P_X0_cleared]
  obtain ⟨hd, hs, hx, hm0, h⟩ := h
  obtain ⟨m, hm, rfl⟩ := vp_in_of hm0 (by decide)
  rw [nI_cl (by omega)] at h
  exact lp_X0_clearedFor l G hd hs hx hm h 0 (by omega) none
def clG (D : DV) (G : GV) (m n : Nat) : Nat → UInt32 := fun j => if j < n then itV D (G.l j) m else G.l j
theorem clG_s (D : DV) (G : GV) (m n : Nat) : (fun j => if j = n then itV D (G.l n) m else clG D G m n j) = clG D G m (n + 1) := by
  funext j
  unfold clG
  by_cases h : j = n
  · rw [if_pos h, if_pos (by omega), h]
  · by_cases h2 : j < n
    · rw [if_neg h, if_pos h2, if_pos (by omega)]
    · rw [if_neg h, if_neg h2, if_neg (by omega)]
def P_X0_clearFor (as : List Value) (S : SS) (E : Option Value → SS → Prop) : Prop := match as with
  | [.ref d, .ref g, .int m] => DeskAt S d ∧ StV (dV S d) ∧ GlassAt S g ∧ (∀ k, k < 120 → okL ((gV S g).l k)) ∧ vp_in m 100 ∧ ∀ S', Fr S S' g (g + 5) → GE (gV S' g) (sf_l (gV S g) (fun j => itV (dV S d) ((gV S g).l j) m.toNatClampNeg)) → E none S'
  | _ => False
def Γ_X0_clearFor : List (MI × PT) := [(mi_X0_clearedFor, P_X0_clearedFor)]
theorem hΓ_X0_clearFor (l : Launch) (G : Gx) : ∀ q ∈ Γ_X0_clearFor, Ct l G q.1 q.2 := List.forall_mem_cons.mpr ⟨ct_X0_clearedFor l G, fun _ h => absurd h List.not_mem_nil⟩
set_option maxHeartbeats 1000000 in
theorem lp_X0_clearFor (l : Launch) (G : Gx) {S : SS} {d g m : Nat} {E : Option Value → SS → Prop} (hd : DeskAt S d) (hs : StV (dV S d)) (hg : GlassAt S g) (hG : ∀ k, k < 120 → okL ((gV S g).l k)) (hm : m < 100) (h : ∀ S', Fr S S' g (g + 5) → GE (gV S' g) (sf_l (gV S g) (fun j => itV (dV S d) ((gV S g).l j) m)) → E none S') :
    ∀ n, n ≤ 120 → V l G mi_X0_clearFor E 2 [some (.ref d), some (.ref g), some (.int (nI m)), some (.int (nI n))] [] (stFA S (g + 1) (clG (dV S d) (gV S g) m n)) 0 0 := by
  refine loopUp 120 fun n hn ih => ?_
  refine (V.segN (Γ := Γ_X0_clearFor) (hΓ_X0_clearFor l G) so_X0_clearFor 4 (sg := sg_X0_clearFor_2) so_X0_clearFor_2 ?_ : V l G mi_X0_clearFor _ (segPc sg_X0_clearFor_2) _ _ _ _ _)
  simp only [mL_X0_clearFor, mT_X0_clearFor, rc_X0_clearFor, rs_X0_clearFor, Γ_X0_clearFor, sg_X0_clearFor_0, sg_X0_clearFor_2, sg_X0_clearFor_31, wn_X0_clearFor_0, wn_X0_clearFor_2, wn_X0_clearFor_31, wp_c, ex_c, x_nop, x_goto, x_table, x_iinc, x_ldc, x_ldc2, x_iaload, x_faload, x_baload, x_caload, x_iastore, x_fastore, x_bastore, x_castore, x_aastore, x_alen, x_gets, x_new, x_newa, x_anew, x_invs, x_invi, x_invv, x_ret, x_iret, x_lret, x_fret, x_aret, x_lconst, x_fconst0, x_fconst1, x_fconst2, x_dconst0, x_dconst1, x_null, x_iadd, x_isub, x_imul, x_iand, x_ior, x_idiv, x_irem, x_ineg, x_ishl, x_ishr, x_land, x_ladd, x_lmul, x_lor, x_lushr, x_lshl, x_lcmp, x_i2l, x_l2i, x_i2c, x_i2f, x_f2d, x_d2i, x_d2l, x_fadd, x_fsub, x_fmul, x_fdiv, x_dadd, x_dsub, x_dmul, x_ddiv, x_fcmp, x_dcmp, x_dupI, x_dupR, x_dup2, x_popI, x_popR, ldP_I, ldP_L, ldP_F, ldP_D, ldP_R, ldP_N, x_iload, x_iload_n, x_lload, x_lload_n, x_fload, x_fload_n, x_dload, x_dload_n, x_aload, x_aload_n, x_istore, x_istore_n, x_lstore, x_lstore_n, x_fstore, x_fstore_n, x_dstore, x_dstore_n, x_astore, x_astore_n, x_astoreN, x_astore_nN, x_icmp_eq, x_icmp_ne, x_icmp_lt, x_icmp_ge, x_icmp_gt, x_icmp_le, x_if_eq, x_if_ne, x_if_lt, x_if_ge, x_if_gt, x_if_le, x_ifnull, x_ifnullR, x_ifnn, x_ifnnR, x_aaload2, x_cpI, x_cpF, x_oI, xk_bipush_120, xk_iconst_0, xk_bipush_m6, xk_iconst_1, xk_bipush_80, xk_iconst_4, xk_bipush_6, xk_iconst_2, xk_bipush_40, xk_iconst_3, xk_bipush_10, xk_iconst_5, xk_bipush_m2, xk_bipush_m4, xk_iconst_m1, xk_bipush_m5, xk_bipush_12, xk_bipush_100, xk_bipush_26, xk_bipush_48, xk_sipush_9999, xk_sipush_500, xk_bipush_7, xk_bipush_119, xk_bipush_m126, xk_bipush_127, xk_bipush_23, xk_sipush_m1022, xk_sipush_1023, xk_bipush_52, xg_0_0, xp_0_0, xg_0_1, xp_0_1, xg_0_2, xp_0_2, xg_0_3, xp_0_3, xg_0_4, xp_0_4, xg_0_5, xp_0_5, xg_0_6, xp_0_6, xg_0_7, xp_0_7, xg_0_8, xp_0_8, xg_1_0, xp_1_0, xg_1_1, xp_1_1, xg_1_2, xp_1_2, xg_1_3, xp_1_3, xg_2_0, xp_2_0, xg_2_1, xp_2_1, xg_2_2, xp_2_2, xg_3_0, xp_3_0, xg_3_1, xp_3_1, xg_3_2, xp_3_2, xg_3_3, xp_3_3, xg_3_4, xp_3_4, xg_3_5, xp_3_5, xg_3_6, xp_3_6, xg_3_7, xp_3_7, xg_3_8, xp_3_8, xg_3_9, xp_3_9, xg_3_10, xp_3_10, xg_3_11, xp_3_11, xg_4_0, xp_4_0, xg_4_1, xp_4_1, xg_5_0, xp_5_0, xg_5_1, xp_5_1, xg_6_0, xp_6_0, xg_6_1, xp_6_1, xg_6_2, xp_6_2, xg_6_3, xp_6_3, xg_6_4, xp_6_4, xg_6_5, xp_6_5, fv0, fv1, fv2, fv3, kI_0, kI_1, stL, wipeL, entLn, entL, List.getElem?_cons_zero, List.getElem?_cons_succ, List.getElem?_nil, List.set_cons_zero, List.set_cons_succ, List.set_nil, List.length_cons, List.length_nil, List.cons_append, List.nil_append, List.replicate, Nat.reduceAdd, Nat.reduceLeDiff, Nat.reduceSub, true_and, and_true, x_callS, x_callSN, x_callI, x_callIN, x_callV0, x_callV1, x_callV2, x_callV3, x_callV4, x_callV5, x_callV6, x_callV7, callP, List.take_succ_cons, List.take_zero, List.take_nil, List.drop_succ_cons, List.drop_zero, List.drop_nil, List.getLast?_singleton, List.getLast?_cons_cons, Option.some.injEq, Value.ref.injEq, exists_eq_left, exists_eq_left', Nat.zero_le, Nat.add_zero, ldcV_f, ldcV_fn, ldcV_l, ldcV_d, Nat.reduceMul, Nat.le_refl, List.reverse_cons, List.reverse_nil, Option.toList, List.map_cons, List.map_nil, List.sum_cons, List.sum_nil, Value.category, tblW_n, tblW_c, Int.cast_ofNat_Int, Int.reduceAdd, Int.reduceToNat, ofI_n, rc_X0_clearedFor, rs_X0_clearedFor, P_X0_clearedFor]
  have hF : Fr S (stFA S (g + 1) (clG (dV S d) (gV S g) m n)) g (g + 5) := (Fr.refl _ _ _).stFA _ _ (by omega) (by omega)
  have hdT := hF.desk hd
  have hsT : StV (dV (stFA S (g + 1) (clG (dV S d) (gV S g) m n)) d) := hs
  obtain ⟨g0, g1, g2, g3, g4, g5, g6, g7, g8⟩ := hg
  have hnn : clG (dV S d) (gV S g) m n n = (gV S g).l n := if_neg (Nat.lt_irrefl _)
  simp only [hd.1, hdT, hsT, g0, g1, g2, g3, g4, g5, g6, g7, g8, sK_stI, sR_stI, sK_stF, sR_stF, sK_stIA, sR_stIA, sK_stFA, sR_stFA, sI_stI, sI_stF, sI_stIA, sI_stFA, sF_stI, sF_stF, sF_stIA, sF_stFA, Nat.left_eq_add, Nat.add_eq_left, Nat.add_left_cancel_iff, Nat.reduceEqDiff, Nat.reduceEqDiff, Nat.succ_ne_self, false_and, and_false, if_false, if_true, nI_succ_sub, Option.some.injEq, Prod.mk.injEq, exists_eq_left', true_and, and_true, retI, retF, retV, retZ1, retZ0, retL, retA, retN, Nat.reduceAdd, Nat.reduceMul, Nat.reduceLT]
  simp (disch := omega) only [nlt0, nge0, neq0, ngt0, nle0, nI_ltI, nI_leI, nI_eq, nI_cl, in_nI, false_implies, true_implies, not_false_eq_true, not_true_eq_false, and_true, true_and, nI_add, pk_mul, implies_true, not_lt0]
  have eD : ∀ f, itV (dV (stFA S (g + 1) f) d) = itV (dV S d) := fun f => rfl
  refine ⟨fun q => ?_, fun q => ⟨by omega, ?_, by omega, by omega, ?_⟩⟩
  · have e : n = 120 := by omega
    subst e
    refine h _ hF ?_
    intro j hj
    simp [gV, clG, hj, sF_stFA, sI_stFA, GV.l, GV.t, GV.w, GV.p, DV.st, DV.pr, DV.wr, DV.sp, DV.hr, DV.pl, DV.dk, DV.pp, DV.g, sf_l, sf_t, sf_w, sf_p, sf_st, sf_pr, sf_wr, sf_sp, sf_hr, sf_pl, sf_dk, sf_pp, sf_g]
  · rw [hnn]
    exact hG n (by omega)
  · rw [hnn, eD, stF_stFA, clG_s]
    exact ih (by omega)
set_option maxHeartbeats 1000000 in
theorem ct_X0_clearFor (l : Launch) (G : Gx) : Ct l G mi_X0_clearFor P_X0_clearFor := by
  refine Ct.ofV mo_X0_clearFor (fun as S E h => ?_)
  unfold P_X0_clearFor at h
  split at h
  case h_2 => exact h.elim
  rename_i d g m
  refine ⟨by simp [entL, mL_X0_clearFor], ?_⟩
  refine wpN_ok (Γ := Γ_X0_clearFor) (hΓ_X0_clearFor l G) so_X0_clearFor 4 _ _ _ _ _ _ ?_
  simp only [mL_X0_clearFor, mT_X0_clearFor, rc_X0_clearFor, rs_X0_clearFor, Γ_X0_clearFor, sg_X0_clearFor_0, sg_X0_clearFor_2, sg_X0_clearFor_31, wn_X0_clearFor_0, wn_X0_clearFor_2, wn_X0_clearFor_31, wp_c, ex_c, x_nop, x_goto, x_table, x_iinc, x_ldc, x_ldc2, x_iaload, x_faload, x_baload, x_caload, x_iastore, x_fastore, x_bastore, x_castore, x_aastore, x_alen, x_gets, x_new, x_newa, x_anew, x_invs, x_invi, x_invv, x_ret, x_iret, x_lret, x_fret, x_aret, x_lconst, x_fconst0, x_fconst1, x_fconst2, x_dconst0, x_dconst1, x_null, x_iadd, x_isub, x_imul, x_iand, x_ior, x_idiv, x_irem, x_ineg, x_ishl, x_ishr, x_land, x_ladd, x_lmul, x_lor, x_lushr, x_lshl, x_lcmp, x_i2l, x_l2i, x_i2c, x_i2f, x_f2d, x_d2i, x_d2l, x_fadd, x_fsub, x_fmul, x_fdiv, x_dadd, x_dsub, x_dmul, x_ddiv, x_fcmp, x_dcmp, x_dupI, x_dupR, x_dup2, x_popI, x_popR, ldP_I, ldP_L, ldP_F, ldP_D, ldP_R, ldP_N, x_iload, x_iload_n, x_lload, x_lload_n, x_fload, x_fload_n, x_dload, x_dload_n, x_aload, x_aload_n, x_istore, x_istore_n, x_lstore, x_lstore_n, x_fstore, x_fstore_n, x_dstore, x_dstore_n, x_astore, x_astore_n, x_astoreN, x_astore_nN, x_icmp_eq, x_icmp_ne, x_icmp_lt, x_icmp_ge, x_icmp_gt, x_icmp_le, x_if_eq, x_if_ne, x_if_lt, x_if_ge, x_if_gt, x_if_le, x_ifnull, x_ifnullR, x_ifnn, x_ifnnR, x_aaload2, x_cpI, x_cpF, x_oI, xk_bipush_120, xk_iconst_0, xk_bipush_m6, xk_iconst_1, xk_bipush_80, xk_iconst_4, xk_bipush_6, xk_iconst_2, xk_bipush_40, xk_iconst_3, xk_bipush_10, xk_iconst_5, xk_bipush_m2, xk_bipush_m4, xk_iconst_m1, xk_bipush_m5, xk_bipush_12, xk_bipush_100, xk_bipush_26, xk_bipush_48, xk_sipush_9999, xk_sipush_500, xk_bipush_7, xk_bipush_119, xk_bipush_m126, xk_bipush_127, xk_bipush_23, xk_sipush_m1022, xk_sipush_1023, xk_bipush_52, xg_0_0, xp_0_0, xg_0_1, xp_0_1, xg_0_2, xp_0_2, xg_0_3, xp_0_3, xg_0_4, xp_0_4, xg_0_5, xp_0_5, xg_0_6, xp_0_6, xg_0_7, xp_0_7, xg_0_8, xp_0_8, xg_1_0, xp_1_0, xg_1_1, xp_1_1, xg_1_2, xp_1_2, xg_1_3, xp_1_3, xg_2_0, xp_2_0, xg_2_1, xp_2_1, xg_2_2, xp_2_2, xg_3_0, xp_3_0, xg_3_1, xp_3_1, xg_3_2, xp_3_2, xg_3_3, xp_3_3, xg_3_4, xp_3_4, xg_3_5, xp_3_5, xg_3_6, xp_3_6, xg_3_7, xp_3_7, xg_3_8, xp_3_8, xg_3_9, xp_3_9, xg_3_10, xp_3_10, xg_3_11, xp_3_11, xg_4_0, xp_4_0, xg_4_1, xp_4_1, xg_5_0, xp_5_0, xg_5_1, xp_5_1, xg_6_0, xp_6_0, xg_6_1, xp_6_1, xg_6_2, xp_6_2, xg_6_3, xp_6_3, xg_6_4, xp_6_4, xg_6_5, xp_6_5, fv0, fv1, fv2, fv3, kI_0, kI_1, stL, wipeL, entLn, entL, List.getElem?_cons_zero, List.getElem?_cons_succ, List.getElem?_nil, List.set_cons_zero, List.set_cons_succ, List.set_nil, List.length_cons, List.length_nil, List.cons_append, List.nil_append, List.replicate, Nat.reduceAdd, Nat.reduceLeDiff, Nat.reduceSub, true_and, and_true, x_callS, x_callSN, x_callI, x_callIN, x_callV0, x_callV1, x_callV2, x_callV3, x_callV4, x_callV5, x_callV6, x_callV7, callP, List.take_succ_cons, List.take_zero, List.take_nil, List.drop_succ_cons, List.drop_zero, List.drop_nil, List.getLast?_singleton, List.getLast?_cons_cons, Option.some.injEq, Value.ref.injEq, exists_eq_left, exists_eq_left', Nat.zero_le, Nat.add_zero, ldcV_f, ldcV_fn, ldcV_l, ldcV_d, Nat.reduceMul, Nat.le_refl, List.reverse_cons, List.reverse_nil, Option.toList, List.map_cons, List.map_nil, List.sum_cons, List.sum_nil, Value.category, tblW_n, tblW_c, Int.cast_ofNat_Int, Int.reduceAdd, Int.reduceToNat, ofI_n, rc_X0_clearedFor, rs_X0_clearedFor, P_X0_clearedFor]
  obtain ⟨hd, hs, hg, hG, hm0, h⟩ := h
  obtain ⟨m, hm, rfl⟩ := vp_in_of hm0 (by decide)
  rw [nI_cl (by omega)] at h
  have e := lp_X0_clearFor l G hd hs hg hG hm h 0 (by omega)
  have e2 : clG (dV S d) (gV S g) m 0 = sF S (g + 1) := by
    funext j
    unfold clG
    rw [if_neg (by omega)]
    rfl
  rw [e2, stFA_self] at e
  exact e
/-- in how many hours there is enough light, at most 501 -/
def hrN (D : DV) (x : UInt32) (n : Nat) : Nat := fo (fun h j => if h = j ∧ enV D (itV D x j) = false then j + 1 else h) 0 n
theorem hrN_s (D : DV) (x : UInt32) (n : Nat) : hrN D x (n + 1) = if hrN D x n = n ∧ enV D (itV D x n) = false then n + 1 else hrN D x n := rfl
theorem hrN_stop {D : DV} {x : UInt32} {j : Nat} (h : hrN D x j = j) (he : enV D (itV D x j) = true) : ∀ n, j ≤ n → hrN D x n = j := by
  intro n
  induction n with
  | zero => intro h2; rw [← h]; rw [show j = 0 by omega]
  | succ n ih =>
    intro h2
    by_cases h3 : j = n + 1
    · rw [← h3]; exact h
    · rw [hrN_s, ih (by omega), if_neg]
      intro ⟨a, b⟩
      rw [← a, he] at b
      exact absurd b (by decide)
theorem hrN_le (D : DV) (x : UInt32) : ∀ n, hrN D x n ≤ n
  | 0 => Nat.le_refl _
  | n + 1 => by
    have := hrN_le D x n
    rw [hrN_s]
    split <;> omega
def P_X0_hoursUntilEnough (as : List Value) (S : SS) (E : Option Value → SS → Prop) : Prop := match as with
  | [.ref d, .float x] => DeskAt S d ∧ StV (dV S d) ∧ okL x ∧ E (some (.int (nI (hrN (dV S d) x 501)))) S
  | _ => False
def Γ_X0_hoursUntilEnough : List (MI × PT) := [(mi_X0_isEnough, P_X0_isEnough), (mi_X0_cleared, P_X0_cleared)]
theorem hΓ_X0_hoursUntilEnough (l : Launch) (G : Gx) : ∀ q ∈ Γ_X0_hoursUntilEnough, Ct l G q.1 q.2 := List.forall_mem_cons.mpr ⟨ct_X0_isEnough l G, List.forall_mem_cons.mpr ⟨ct_X0_cleared l G, fun _ h => absurd h List.not_mem_nil⟩⟩
set_option maxHeartbeats 1000000 in
theorem lp_X0_hoursUntilEnough (l : Launch) (G : Gx) {S : SS} {d : Nat} {x : UInt32} {E : Option Value → SS → Prop} (hd : DeskAt S d) (hs : StV (dV S d)) (hx : okL x) (h : E (some (.int (nI (hrN (dV S d) x 501)))) S) :
    ∀ j, j ≤ 501 → hrN (dV S d) x j = j → V l G mi_X0_hoursUntilEnough E 4 [some (.ref d), some (.float x), some (.float (itV (dV S d) x j)), some (.int (nI j))] [] S 0 0 := by
  refine loopUp 501 fun j hj ih hh => ?_
  refine (V.segN (Γ := Γ_X0_hoursUntilEnough) (hΓ_X0_hoursUntilEnough l G) so_X0_hoursUntilEnough 4 (sg := sg_X0_hoursUntilEnough_4) so_X0_hoursUntilEnough_4 ?_ : V l G mi_X0_hoursUntilEnough _ (segPc sg_X0_hoursUntilEnough_4) _ _ _ _ _)
  simp only [mL_X0_hoursUntilEnough, mT_X0_hoursUntilEnough, rc_X0_hoursUntilEnough, rs_X0_hoursUntilEnough, Γ_X0_hoursUntilEnough, sg_X0_hoursUntilEnough_0, sg_X0_hoursUntilEnough_4, sg_X0_hoursUntilEnough_31, wn_X0_hoursUntilEnough_0, wn_X0_hoursUntilEnough_4, wn_X0_hoursUntilEnough_31, wp_c, ex_c, x_nop, x_goto, x_table, x_iinc, x_ldc, x_ldc2, x_iaload, x_faload, x_baload, x_caload, x_iastore, x_fastore, x_bastore, x_castore, x_aastore, x_alen, x_gets, x_new, x_newa, x_anew, x_invs, x_invi, x_invv, x_ret, x_iret, x_lret, x_fret, x_aret, x_lconst, x_fconst0, x_fconst1, x_fconst2, x_dconst0, x_dconst1, x_null, x_iadd, x_isub, x_imul, x_iand, x_ior, x_idiv, x_irem, x_ineg, x_ishl, x_ishr, x_land, x_ladd, x_lmul, x_lor, x_lushr, x_lshl, x_lcmp, x_i2l, x_l2i, x_i2c, x_i2f, x_f2d, x_d2i, x_d2l, x_fadd, x_fsub, x_fmul, x_fdiv, x_dadd, x_dsub, x_dmul, x_ddiv, x_fcmp, x_dcmp, x_dupI, x_dupR, x_dup2, x_popI, x_popR, ldP_I, ldP_L, ldP_F, ldP_D, ldP_R, ldP_N, x_iload, x_iload_n, x_lload, x_lload_n, x_fload, x_fload_n, x_dload, x_dload_n, x_aload, x_aload_n, x_istore, x_istore_n, x_lstore, x_lstore_n, x_fstore, x_fstore_n, x_dstore, x_dstore_n, x_astore, x_astore_n, x_astoreN, x_astore_nN, x_icmp_eq, x_icmp_ne, x_icmp_lt, x_icmp_ge, x_icmp_gt, x_icmp_le, x_if_eq, x_if_ne, x_if_lt, x_if_ge, x_if_gt, x_if_le, x_ifnull, x_ifnullR, x_ifnn, x_ifnnR, x_aaload2, x_cpI, x_cpF, x_oI, xk_bipush_120, xk_iconst_0, xk_bipush_m6, xk_iconst_1, xk_bipush_80, xk_iconst_4, xk_bipush_6, xk_iconst_2, xk_bipush_40, xk_iconst_3, xk_bipush_10, xk_iconst_5, xk_bipush_m2, xk_bipush_m4, xk_iconst_m1, xk_bipush_m5, xk_bipush_12, xk_bipush_100, xk_bipush_26, xk_bipush_48, xk_sipush_9999, xk_sipush_500, xk_bipush_7, xk_bipush_119, xk_bipush_m126, xk_bipush_127, xk_bipush_23, xk_sipush_m1022, xk_sipush_1023, xk_bipush_52, xg_0_0, xp_0_0, xg_0_1, xp_0_1, xg_0_2, xp_0_2, xg_0_3, xp_0_3, xg_0_4, xp_0_4, xg_0_5, xp_0_5, xg_0_6, xp_0_6, xg_0_7, xp_0_7, xg_0_8, xp_0_8, xg_1_0, xp_1_0, xg_1_1, xp_1_1, xg_1_2, xp_1_2, xg_1_3, xp_1_3, xg_2_0, xp_2_0, xg_2_1, xp_2_1, xg_2_2, xp_2_2, xg_3_0, xp_3_0, xg_3_1, xp_3_1, xg_3_2, xp_3_2, xg_3_3, xp_3_3, xg_3_4, xp_3_4, xg_3_5, xp_3_5, xg_3_6, xp_3_6, xg_3_7, xp_3_7, xg_3_8, xp_3_8, xg_3_9, xp_3_9, xg_3_10, xp_3_10, xg_3_11, xp_3_11, xg_4_0, xp_4_0, xg_4_1, xp_4_1, xg_5_0, xp_5_0, xg_5_1, xp_5_1, xg_6_0, xp_6_0, xg_6_1, xp_6_1, xg_6_2, xp_6_2, xg_6_3, xp_6_3, xg_6_4, xp_6_4, xg_6_5, xp_6_5, fv0, fv1, fv2, fv3, kI_0, kI_1, stL, wipeL, entLn, entL, List.getElem?_cons_zero, List.getElem?_cons_succ, List.getElem?_nil, List.set_cons_zero, List.set_cons_succ, List.set_nil, List.length_cons, List.length_nil, List.cons_append, List.nil_append, List.replicate, Nat.reduceAdd, Nat.reduceLeDiff, Nat.reduceSub, true_and, and_true, x_callS, x_callSN, x_callI, x_callIN, x_callV0, x_callV1, x_callV2, x_callV3, x_callV4, x_callV5, x_callV6, x_callV7, callP, List.take_succ_cons, List.take_zero, List.take_nil, List.drop_succ_cons, List.drop_zero, List.drop_nil, List.getLast?_singleton, List.getLast?_cons_cons, Option.some.injEq, Value.ref.injEq, exists_eq_left, exists_eq_left', Nat.zero_le, Nat.add_zero, ldcV_f, ldcV_fn, ldcV_l, ldcV_d, Nat.reduceMul, Nat.le_refl, List.reverse_cons, List.reverse_nil, Option.toList, List.map_cons, List.map_nil, List.sum_cons, List.sum_nil, Value.category, tblW_n, tblW_c, Int.cast_ofNat_Int, Int.reduceAdd, Int.reduceToNat, ofI_n, rc_X0_isEnough, rs_X0_isEnough, P_X0_isEnough, rc_X0_cleared, rs_X0_cleared, P_X0_cleared]
  have hl := okL_itV hs hx j
  simp only [hd.1, hd, hs, hs.set, hl, bI_0, sK_stI, sR_stI, sK_stF, sR_stF, sK_stIA, sR_stIA, sK_stFA, sR_stFA, sI_stI, sI_stF, sI_stIA, sI_stFA, sF_stI, sF_stF, sF_stIA, sF_stFA, Nat.left_eq_add, Nat.add_eq_left, Nat.add_left_cancel_iff, Nat.reduceEqDiff, Nat.reduceEqDiff, Nat.succ_ne_self, false_and, and_false, if_false, if_true, nI_succ_sub, Option.some.injEq, Prod.mk.injEq, exists_eq_left', true_and, and_true, retI, retF, retV, retZ1, retZ0, retL, retA, retN, Nat.reduceAdd, Nat.reduceMul, Nat.reduceLT]
  simp (disch := omega) only [nlt0, nge0, neq0, ngt0, nle0, nI_ltI, nI_leI, nI_eq, nI_cl, in_nI, false_implies, true_implies, not_false_eq_true, not_true_eq_false, and_true, true_and, nI_add, pk_mul, implies_true, not_lt0]
  have eE : enF (sI S (d + 1) 2) (itV (dV S d) x j) = enV (dV S d) (itV (dV S d) x j) := rfl
  rw [eE]
  refine ⟨fun q => ?_, fun q => ⟨fun c => ?_, fun c => ih (by omega) ?_⟩⟩
  · have e : j = 501 := by omega
    subst e
    rw [hh] at h
    exact h
  · rw [hrN_stop hh (Decidable.not_not.mp c) 501 hj] at h
    exact h
  · rw [hrN_s, if_pos ⟨hh, by simpa using c⟩]
set_option maxHeartbeats 1000000 in
theorem ct_X0_hoursUntilEnough (l : Launch) (G : Gx) : Ct l G mi_X0_hoursUntilEnough P_X0_hoursUntilEnough := by
  refine Ct.ofV mo_X0_hoursUntilEnough (fun as S E h => ?_)
  unfold P_X0_hoursUntilEnough at h
  split at h
  case h_2 => exact h.elim
  rename_i d x
  refine ⟨by simp [entL, mL_X0_hoursUntilEnough], ?_⟩
  refine wpN_ok (Γ := Γ_X0_hoursUntilEnough) (hΓ_X0_hoursUntilEnough l G) so_X0_hoursUntilEnough 4 _ _ _ _ _ _ ?_
  simp only [mL_X0_hoursUntilEnough, mT_X0_hoursUntilEnough, rc_X0_hoursUntilEnough, rs_X0_hoursUntilEnough, Γ_X0_hoursUntilEnough, sg_X0_hoursUntilEnough_0, sg_X0_hoursUntilEnough_4, sg_X0_hoursUntilEnough_31, wn_X0_hoursUntilEnough_0, wn_X0_hoursUntilEnough_4, wn_X0_hoursUntilEnough_31, wp_c, ex_c, x_nop, x_goto, x_table, x_iinc, x_ldc, x_ldc2, x_iaload, x_faload, x_baload, x_caload, x_iastore, x_fastore, x_bastore, x_castore, x_aastore, x_alen, x_gets, x_new, x_newa, x_anew, x_invs, x_invi, x_invv, x_ret, x_iret, x_lret, x_fret, x_aret, x_lconst, x_fconst0, x_fconst1, x_fconst2, x_dconst0, x_dconst1, x_null, x_iadd, x_isub, x_imul, x_iand, x_ior, x_idiv, x_irem, x_ineg, x_ishl, x_ishr, x_land, x_ladd, x_lmul, x_lor, x_lushr, x_lshl, x_lcmp, x_i2l, x_l2i, x_i2c, x_i2f, x_f2d, x_d2i, x_d2l, x_fadd, x_fsub, x_fmul, x_fdiv, x_dadd, x_dsub, x_dmul, x_ddiv, x_fcmp, x_dcmp, x_dupI, x_dupR, x_dup2, x_popI, x_popR, ldP_I, ldP_L, ldP_F, ldP_D, ldP_R, ldP_N, x_iload, x_iload_n, x_lload, x_lload_n, x_fload, x_fload_n, x_dload, x_dload_n, x_aload, x_aload_n, x_istore, x_istore_n, x_lstore, x_lstore_n, x_fstore, x_fstore_n, x_dstore, x_dstore_n, x_astore, x_astore_n, x_astoreN, x_astore_nN, x_icmp_eq, x_icmp_ne, x_icmp_lt, x_icmp_ge, x_icmp_gt, x_icmp_le, x_if_eq, x_if_ne, x_if_lt, x_if_ge, x_if_gt, x_if_le, x_ifnull, x_ifnullR, x_ifnn, x_ifnnR, x_aaload2, x_cpI, x_cpF, x_oI, xk_bipush_120, xk_iconst_0, xk_bipush_m6, xk_iconst_1, xk_bipush_80, xk_iconst_4, xk_bipush_6, xk_iconst_2, xk_bipush_40, xk_iconst_3, xk_bipush_10, xk_iconst_5, xk_bipush_m2, xk_bipush_m4, xk_iconst_m1, xk_bipush_m5, xk_bipush_12, xk_bipush_100, xk_bipush_26, xk_bipush_48, xk_sipush_9999, xk_sipush_500, xk_bipush_7, xk_bipush_119, xk_bipush_m126, xk_bipush_127, xk_bipush_23, xk_sipush_m1022, xk_sipush_1023, xk_bipush_52, xg_0_0, xp_0_0, xg_0_1, xp_0_1, xg_0_2, xp_0_2, xg_0_3, xp_0_3, xg_0_4, xp_0_4, xg_0_5, xp_0_5, xg_0_6, xp_0_6, xg_0_7, xp_0_7, xg_0_8, xp_0_8, xg_1_0, xp_1_0, xg_1_1, xp_1_1, xg_1_2, xp_1_2, xg_1_3, xp_1_3, xg_2_0, xp_2_0, xg_2_1, xp_2_1, xg_2_2, xp_2_2, xg_3_0, xp_3_0, xg_3_1, xp_3_1, xg_3_2, xp_3_2, xg_3_3, xp_3_3, xg_3_4, xp_3_4, xg_3_5, xp_3_5, xg_3_6, xp_3_6, xg_3_7, xp_3_7, xg_3_8, xp_3_8, xg_3_9, xp_3_9, xg_3_10, xp_3_10, xg_3_11, xp_3_11, xg_4_0, xp_4_0, xg_4_1, xp_4_1, xg_5_0, xp_5_0, xg_5_1, xp_5_1, xg_6_0, xp_6_0, xg_6_1, xp_6_1, xg_6_2, xp_6_2, xg_6_3, xp_6_3, xg_6_4, xp_6_4, xg_6_5, xp_6_5, fv0, fv1, fv2, fv3, kI_0, kI_1, stL, wipeL, entLn, entL, List.getElem?_cons_zero, List.getElem?_cons_succ, List.getElem?_nil, List.set_cons_zero, List.set_cons_succ, List.set_nil, List.length_cons, List.length_nil, List.cons_append, List.nil_append, List.replicate, Nat.reduceAdd, Nat.reduceLeDiff, Nat.reduceSub, true_and, and_true, x_callS, x_callSN, x_callI, x_callIN, x_callV0, x_callV1, x_callV2, x_callV3, x_callV4, x_callV5, x_callV6, x_callV7, callP, List.take_succ_cons, List.take_zero, List.take_nil, List.drop_succ_cons, List.drop_zero, List.drop_nil, List.getLast?_singleton, List.getLast?_cons_cons, Option.some.injEq, Value.ref.injEq, exists_eq_left, exists_eq_left', Nat.zero_le, Nat.add_zero, ldcV_f, ldcV_fn, ldcV_l, ldcV_d, Nat.reduceMul, Nat.le_refl, List.reverse_cons, List.reverse_nil, Option.toList, List.map_cons, List.map_nil, List.sum_cons, List.sum_nil, Value.category, tblW_n, tblW_c, Int.cast_ofNat_Int, Int.reduceAdd, Int.reduceToNat, ofI_n, rc_X0_isEnough, rs_X0_isEnough, P_X0_isEnough, rc_X0_cleared, rs_X0_cleared, P_X0_cleared]
  obtain ⟨hd, hs, hx, h⟩ := h
  exact lp_X0_hoursUntilEnough l G hd hs hx h 0 (by omega) rfl
def mostV (D : DV) (G : GV) (n : Nat) : Nat := fo (fun m k => if G.t k = mI 6 then m else max m (hrN D (G.l k) 501)) 0 n
theorem mostV_s (D : DV) (G : GV) (n : Nat) : mostV D G (n + 1) = if G.t n = mI 6 then mostV D G n else max (mostV D G n) (hrN D (G.l n) 501) := rfl
theorem mostV_le (D : DV) (G : GV) : ∀ n, mostV D G n ≤ 501
  | 0 => Nat.zero_le _
  | n + 1 => by
    have := mostV_le D G n
    have h2 := hrN_le D (G.l n) 501
    rw [mostV_s]
    split <;> omega
def P_X0_hoursUntilReadable (as : List Value) (S : SS) (E : Option Value → SS → Prop) : Prop := match as with
  | [.ref d, .ref g] => DeskAt S d ∧ StV (dV S d) ∧ GlassAt S g ∧ GOK (gV S g) ∧ E (some (.int (if 500 < mostV (dV S d) (gV S g) 120 then mI 6 else nI (mostV (dV S d) (gV S g) 120)))) S
  | _ => False
def Γ_X0_hoursUntilReadable : List (MI × PT) := [(mi_X0_hoursUntilEnough, P_X0_hoursUntilEnough), (mi_J9_max_7cf53, P_J9_max_7cf53)]
theorem hΓ_X0_hoursUntilReadable (l : Launch) (G : Gx) : ∀ q ∈ Γ_X0_hoursUntilReadable, Ct l G q.1 q.2 := List.forall_mem_cons.mpr ⟨ct_X0_hoursUntilEnough l G, List.forall_mem_cons.mpr ⟨ct_J9_max_7cf53 l G, fun _ h => absurd h List.not_mem_nil⟩⟩
set_option maxHeartbeats 1000000 in
theorem lp_X0_hoursUntilReadable (l : Launch) (G : Gx) {S : SS} {d g : Nat} {E : Option Value → SS → Prop} (hd : DeskAt S d) (hs : StV (dV S d)) (hg : GlassAt S g) (hG : GOK (gV S g)) (h : E (some (.int (if 500 < mostV (dV S d) (gV S g) 120 then mI 6 else nI (mostV (dV S d) (gV S g) 120)))) S) :
    ∀ j, j ≤ 120 → V l G mi_X0_hoursUntilReadable E 4 [some (.ref d), some (.ref g), some (.int (nI (mostV (dV S d) (gV S g) j))), some (.int (nI j))] [] S 0 0 := by
  refine loopUp 120 fun j hj ih => ?_
  refine (V.segN (Γ := Γ_X0_hoursUntilReadable) (hΓ_X0_hoursUntilReadable l G) so_X0_hoursUntilReadable 4 (sg := sg_X0_hoursUntilReadable_4) so_X0_hoursUntilReadable_4 ?_ : V l G mi_X0_hoursUntilReadable _ (segPc sg_X0_hoursUntilReadable_4) _ _ _ _ _)
  simp only [mL_X0_hoursUntilReadable, mT_X0_hoursUntilReadable, rc_X0_hoursUntilReadable, rs_X0_hoursUntilReadable, Γ_X0_hoursUntilReadable, sg_X0_hoursUntilReadable_0, sg_X0_hoursUntilReadable_4, sg_X0_hoursUntilReadable_36, sg_X0_hoursUntilReadable_42, sg_X0_hoursUntilReadable_54, sg_X0_hoursUntilReadable_55, wn_X0_hoursUntilReadable_0, wn_X0_hoursUntilReadable_4, wn_X0_hoursUntilReadable_36, wn_X0_hoursUntilReadable_42, wn_X0_hoursUntilReadable_54, wn_X0_hoursUntilReadable_55, wp_c, ex_c, x_nop, x_goto, x_table, x_iinc, x_ldc, x_ldc2, x_iaload, x_faload, x_baload, x_caload, x_iastore, x_fastore, x_bastore, x_castore, x_aastore, x_alen, x_gets, x_new, x_newa, x_anew, x_invs, x_invi, x_invv, x_ret, x_iret, x_lret, x_fret, x_aret, x_lconst, x_fconst0, x_fconst1, x_fconst2, x_dconst0, x_dconst1, x_null, x_iadd, x_isub, x_imul, x_iand, x_ior, x_idiv, x_irem, x_ineg, x_ishl, x_ishr, x_land, x_ladd, x_lmul, x_lor, x_lushr, x_lshl, x_lcmp, x_i2l, x_l2i, x_i2c, x_i2f, x_f2d, x_d2i, x_d2l, x_fadd, x_fsub, x_fmul, x_fdiv, x_dadd, x_dsub, x_dmul, x_ddiv, x_fcmp, x_dcmp, x_dupI, x_dupR, x_dup2, x_popI, x_popR, ldP_I, ldP_L, ldP_F, ldP_D, ldP_R, ldP_N, x_iload, x_iload_n, x_lload, x_lload_n, x_fload, x_fload_n, x_dload, x_dload_n, x_aload, x_aload_n, x_istore, x_istore_n, x_lstore, x_lstore_n, x_fstore, x_fstore_n, x_dstore, x_dstore_n, x_astore, x_astore_n, x_astoreN, x_astore_nN, x_icmp_eq, x_icmp_ne, x_icmp_lt, x_icmp_ge, x_icmp_gt, x_icmp_le, x_if_eq, x_if_ne, x_if_lt, x_if_ge, x_if_gt, x_if_le, x_ifnull, x_ifnullR, x_ifnn, x_ifnnR, x_aaload2, x_cpI, x_cpF, x_oI, xk_bipush_120, xk_iconst_0, xk_bipush_m6, xk_iconst_1, xk_bipush_80, xk_iconst_4, xk_bipush_6, xk_iconst_2, xk_bipush_40, xk_iconst_3, xk_bipush_10, xk_iconst_5, xk_bipush_m2, xk_bipush_m4, xk_iconst_m1, xk_bipush_m5, xk_bipush_12, xk_bipush_100, xk_bipush_26, xk_bipush_48, xk_sipush_9999, xk_sipush_500, xk_bipush_7, xk_bipush_119, xk_bipush_m126, xk_bipush_127, xk_bipush_23, xk_sipush_m1022, xk_sipush_1023, xk_bipush_52, xg_0_0, xp_0_0, xg_0_1, xp_0_1, xg_0_2, xp_0_2, xg_0_3, xp_0_3, xg_0_4, xp_0_4, xg_0_5, xp_0_5, xg_0_6, xp_0_6, xg_0_7, xp_0_7, xg_0_8, xp_0_8, xg_1_0, xp_1_0, xg_1_1, xp_1_1, xg_1_2, xp_1_2, xg_1_3, xp_1_3, xg_2_0, xp_2_0, xg_2_1, xp_2_1, xg_2_2, xp_2_2, xg_3_0, xp_3_0, xg_3_1, xp_3_1, xg_3_2, xp_3_2, xg_3_3, xp_3_3, xg_3_4, xp_3_4, xg_3_5, xp_3_5, xg_3_6, xp_3_6, xg_3_7, xp_3_7, xg_3_8, xp_3_8, xg_3_9, xp_3_9, xg_3_10, xp_3_10, xg_3_11, xp_3_11, xg_4_0, xp_4_0, xg_4_1, xp_4_1, xg_5_0, xp_5_0, xg_5_1, xp_5_1, xg_6_0, xp_6_0, xg_6_1, xp_6_1, xg_6_2, xp_6_2, xg_6_3, xp_6_3, xg_6_4, xp_6_4, xg_6_5, xp_6_5, fv0, fv1, fv2, fv3, kI_0, kI_1, stL, wipeL, entLn, entL, List.getElem?_cons_zero, List.getElem?_cons_succ, List.getElem?_nil, List.set_cons_zero, List.set_cons_succ, List.set_nil, List.length_cons, List.length_nil, List.cons_append, List.nil_append, List.replicate, Nat.reduceAdd, Nat.reduceLeDiff, Nat.reduceSub, true_and, and_true, x_callS, x_callSN, x_callI, x_callIN, x_callV0, x_callV1, x_callV2, x_callV3, x_callV4, x_callV5, x_callV6, x_callV7, callP, List.take_succ_cons, List.take_zero, List.take_nil, List.drop_succ_cons, List.drop_zero, List.drop_nil, List.getLast?_singleton, List.getLast?_cons_cons, Option.some.injEq, Value.ref.injEq, exists_eq_left, exists_eq_left', Nat.zero_le, Nat.add_zero, ldcV_f, ldcV_fn, ldcV_l, ldcV_d, Nat.reduceMul, Nat.le_refl, List.reverse_cons, List.reverse_nil, Option.toList, List.map_cons, List.map_nil, List.sum_cons, List.sum_nil, Value.category, tblW_n, tblW_c, Int.cast_ofNat_Int, Int.reduceAdd, Int.reduceToNat, ofI_n, rc_X0_hoursUntilEnough, rs_X0_hoursUntilEnough, P_X0_hoursUntilEnough, rc_J9_max_7cf53, rs_J9_max_7cf53, P_J9_max_7cf53]
  obtain ⟨g0, g1, g2, g3, g4, g5, g6, g7, g8⟩ := hg
  have hm := mostV_le (dV S d) (gV S g) j
  simp only [hd.1, hd, hs, hs.set, g0, g1, g2, g3, g4, g5, g6, g7, g8, bI_0, sK_stI, sR_stI, sK_stF, sR_stF, sK_stIA, sR_stIA, sK_stFA, sR_stFA, sI_stI, sI_stF, sI_stIA, sI_stFA, sF_stI, sF_stF, sF_stIA, sF_stFA, Nat.left_eq_add, Nat.add_eq_left, Nat.add_left_cancel_iff, Nat.reduceEqDiff, Nat.reduceEqDiff, Nat.succ_ne_self, false_and, and_false, if_false, if_true, nI_succ_sub, Option.some.injEq, Prod.mk.injEq, exists_eq_left', true_and, and_true, retI, retF, retV, retZ1, retZ0, retL, retA, retN, Nat.reduceAdd, Nat.reduceMul, Nat.reduceLT]
  simp (disch := omega) only [nlt0, nge0, neq0, ngt0, nle0, nI_ltI, nI_leI, nI_eq, nI_cl, in_nI, false_implies, true_implies, not_false_eq_true, not_true_eq_false, and_true, true_and, nI_add, pk_mul, implies_true, not_lt0]
  refine ⟨fun q => ?_, fun q => ?_⟩
  · have e : j = 120 := by omega
    subst e
    refine ⟨fun c => ?_, fun c => ?_⟩
    · rw [if_neg (by omega)] at h
      exact h
    · rw [if_pos (by omega)] at h
      exact h
  · have ih := ih (by omega)
    rw [mostV_s] at ih
    have h2 := hrN_le (dV S d) ((gV S g).l j) 501
    refine ⟨by omega, fun c => ?_, fun c => ⟨by omega, (hG j (by omega)).1, ?_⟩⟩
    · rw [if_pos (show (gV S g).t j = mI 6 from c)] at ih
      exact ih
    · rw [if_neg (show ¬ (gV S g).t j = mI 6 from c)] at ih
      have e := max_nI (a := mostV (dV S d) (gV S g) j) (b := hrN (dV S d) ((gV S g).l j) 501) (by omega) (by omega)
      rw [← e] at ih
      exact ih
set_option maxHeartbeats 1000000 in
theorem ct_X0_hoursUntilReadable (l : Launch) (G : Gx) : Ct l G mi_X0_hoursUntilReadable P_X0_hoursUntilReadable := by
  refine Ct.ofV mo_X0_hoursUntilReadable (fun as S E h => ?_)
  unfold P_X0_hoursUntilReadable at h
  split at h
  case h_2 => exact h.elim
  rename_i d g
  refine ⟨by simp [entL, mL_X0_hoursUntilReadable], ?_⟩
  refine wpN_ok (Γ := Γ_X0_hoursUntilReadable) (hΓ_X0_hoursUntilReadable l G) so_X0_hoursUntilReadable 4 _ _ _ _ _ _ ?_
  simp only [mL_X0_hoursUntilReadable, mT_X0_hoursUntilReadable, rc_X0_hoursUntilReadable, rs_X0_hoursUntilReadable, Γ_X0_hoursUntilReadable, sg_X0_hoursUntilReadable_0, sg_X0_hoursUntilReadable_4, sg_X0_hoursUntilReadable_36, sg_X0_hoursUntilReadable_42, sg_X0_hoursUntilReadable_54, sg_X0_hoursUntilReadable_55, wn_X0_hoursUntilReadable_0, wn_X0_hoursUntilReadable_4, wn_X0_hoursUntilReadable_36, wn_X0_hoursUntilReadable_42, wn_X0_hoursUntilReadable_54, wn_X0_hoursUntilReadable_55, wp_c, ex_c, x_nop, x_goto, x_table, x_iinc, x_ldc, x_ldc2, x_iaload, x_faload, x_baload, x_caload, x_iastore, x_fastore, x_bastore, x_castore, x_aastore, x_alen, x_gets, x_new, x_newa, x_anew, x_invs, x_invi, x_invv, x_ret, x_iret, x_lret, x_fret, x_aret, x_lconst, x_fconst0, x_fconst1, x_fconst2, x_dconst0, x_dconst1, x_null, x_iadd, x_isub, x_imul, x_iand, x_ior, x_idiv, x_irem, x_ineg, x_ishl, x_ishr, x_land, x_ladd, x_lmul, x_lor, x_lushr, x_lshl, x_lcmp, x_i2l, x_l2i, x_i2c, x_i2f, x_f2d, x_d2i, x_d2l, x_fadd, x_fsub, x_fmul, x_fdiv, x_dadd, x_dsub, x_dmul, x_ddiv, x_fcmp, x_dcmp, x_dupI, x_dupR, x_dup2, x_popI, x_popR, ldP_I, ldP_L, ldP_F, ldP_D, ldP_R, ldP_N, x_iload, x_iload_n, x_lload, x_lload_n, x_fload, x_fload_n, x_dload, x_dload_n, x_aload, x_aload_n, x_istore, x_istore_n, x_lstore, x_lstore_n, x_fstore, x_fstore_n, x_dstore, x_dstore_n, x_astore, x_astore_n, x_astoreN, x_astore_nN, x_icmp_eq, x_icmp_ne, x_icmp_lt, x_icmp_ge, x_icmp_gt, x_icmp_le, x_if_eq, x_if_ne, x_if_lt, x_if_ge, x_if_gt, x_if_le, x_ifnull, x_ifnullR, x_ifnn, x_ifnnR, x_aaload2, x_cpI, x_cpF, x_oI, xk_bipush_120, xk_iconst_0, xk_bipush_m6, xk_iconst_1, xk_bipush_80, xk_iconst_4, xk_bipush_6, xk_iconst_2, xk_bipush_40, xk_iconst_3, xk_bipush_10, xk_iconst_5, xk_bipush_m2, xk_bipush_m4, xk_iconst_m1, xk_bipush_m5, xk_bipush_12, xk_bipush_100, xk_bipush_26, xk_bipush_48, xk_sipush_9999, xk_sipush_500, xk_bipush_7, xk_bipush_119, xk_bipush_m126, xk_bipush_127, xk_bipush_23, xk_sipush_m1022, xk_sipush_1023, xk_bipush_52, xg_0_0, xp_0_0, xg_0_1, xp_0_1, xg_0_2, xp_0_2, xg_0_3, xp_0_3, xg_0_4, xp_0_4, xg_0_5, xp_0_5, xg_0_6, xp_0_6, xg_0_7, xp_0_7, xg_0_8, xp_0_8, xg_1_0, xp_1_0, xg_1_1, xp_1_1, xg_1_2, xp_1_2, xg_1_3, xp_1_3, xg_2_0, xp_2_0, xg_2_1, xp_2_1, xg_2_2, xp_2_2, xg_3_0, xp_3_0, xg_3_1, xp_3_1, xg_3_2, xp_3_2, xg_3_3, xp_3_3, xg_3_4, xp_3_4, xg_3_5, xp_3_5, xg_3_6, xp_3_6, xg_3_7, xp_3_7, xg_3_8, xp_3_8, xg_3_9, xp_3_9, xg_3_10, xp_3_10, xg_3_11, xp_3_11, xg_4_0, xp_4_0, xg_4_1, xp_4_1, xg_5_0, xp_5_0, xg_5_1, xp_5_1, xg_6_0, xp_6_0, xg_6_1, xp_6_1, xg_6_2, xp_6_2, xg_6_3, xp_6_3, xg_6_4, xp_6_4, xg_6_5, xp_6_5, fv0, fv1, fv2, fv3, kI_0, kI_1, stL, wipeL, entLn, entL, List.getElem?_cons_zero, List.getElem?_cons_succ, List.getElem?_nil, List.set_cons_zero, List.set_cons_succ, List.set_nil, List.length_cons, List.length_nil, List.cons_append, List.nil_append, List.replicate, Nat.reduceAdd, Nat.reduceLeDiff, Nat.reduceSub, true_and, and_true, x_callS, x_callSN, x_callI, x_callIN, x_callV0, x_callV1, x_callV2, x_callV3, x_callV4, x_callV5, x_callV6, x_callV7, callP, List.take_succ_cons, List.take_zero, List.take_nil, List.drop_succ_cons, List.drop_zero, List.drop_nil, List.getLast?_singleton, List.getLast?_cons_cons, Option.some.injEq, Value.ref.injEq, exists_eq_left, exists_eq_left', Nat.zero_le, Nat.add_zero, ldcV_f, ldcV_fn, ldcV_l, ldcV_d, Nat.reduceMul, Nat.le_refl, List.reverse_cons, List.reverse_nil, Option.toList, List.map_cons, List.map_nil, List.sum_cons, List.sum_nil, Value.category, tblW_n, tblW_c, Int.cast_ofNat_Int, Int.reduceAdd, Int.reduceToNat, ofI_n, rc_X0_hoursUntilEnough, rs_X0_hoursUntilEnough, P_X0_hoursUntilEnough, rc_J9_max_7cf53, rs_J9_max_7cf53, P_J9_max_7cf53]
  obtain ⟨hd, hs, hg, hG, h⟩ := h
  exact lp_X0_hoursUntilReadable l G hd hs hg hG h 0 (by omega)
/-- hours gone by, as far as plate n -/
def pasG (D : DV) (m n : Nat) : Nat → GV := fun p => if p < n ∧ ¬ D.dk = nI p then (sf_l (D.g p) (fun j => itV D ((D.g p).l j) m)) else D.g p
def P_X0_passHours (as : List Value) (S : SS) (E : Option Value → SS → Prop) : Prop := match as with
  | [.ref d, .int m] => DeskAt S d ∧ DOK (dV S d) ∧ (m < nI 1 ∨ nI 48 < m → E (some (.int (mI 2))) S) ∧ (∀ k h, 1 ≤ k → k ≤ 48 → m = nI k → sI S d 5 = nI h → h ≤ 9999 → (9999 < h + k → E (some (.int (mI 5))) S) ∧
      (h + k ≤ 9999 → ∀ S', Fr S S' d (d + 26) → DE (dV S' d) (sf_g (sf_hr (dV S d) (nI (h + k))) (pasG (dV S d) k 4)) → E (some (.int (nI (h + k)))) S'))
  | _ => False
def Γ_X0_passHours : List (MI × PT) := [(mi_X0_clearFor, P_X0_clearFor)]
theorem hΓ_X0_passHours (l : Launch) (G : Gx) : ∀ q ∈ Γ_X0_passHours, Ct l G q.1 q.2 := List.forall_mem_cons.mpr ⟨ct_X0_clearFor l G, fun _ h => absurd h List.not_mem_nil⟩
def paI (S T : SS) (d m n : Nat) : Prop := Fr S T d (d + 26) ∧ (dV T d).st = (dV S d).st ∧ (dV T d).pr = (dV S d).pr ∧ (dV T d).wr = (dV S d).wr ∧ (dV T d).sp = (dV S d).sp ∧ (dV T d).hr = (dV S d).hr ∧ (dV T d).pl = (dV S d).pl ∧ (dV T d).dk = (dV S d).dk ∧ (dV T d).pp = (dV S d).pp ∧ ∀ p, GE ((dV T d).g p) (pasG (dV S d) m n p)
theorem itV_st {A B : DV} (h : A.st = B.st) : itV A = itV B := by
  funext x n
  have e : clV A = clV B := by funext x; unfold clV; rw [h]
  unfold itV
  rw [e]
theorem StV.of {A B : DV} (h : A.st = B.st) (k : A.pr = B.pr) (hs : StV B) : StV A := by
  unfold StV at hs ⊢
  rw [h, k]
  exact hs
theorem pasG_s (D : DV) (m n p : Nat) : pasG D m (n + 1) p = if p = n ∧ ¬ D.dk = nI n then (sf_l (D.g n) (fun j => itV D ((D.g n).l j) m)) else pasG D m n p := by
  unfold pasG
  by_cases h : p = n
  · subst h
    by_cases h2 : D.dk = nI p
    · rw [if_neg (fun c => c.2 h2), if_neg (fun c => c.2 h2), if_neg (fun c => c.2 h2)]
    · rw [if_pos ⟨by omega, h2⟩, if_pos ⟨rfl, h2⟩]
  · rw [if_neg (show ¬ (p = n ∧ ¬ D.dk = nI n) from fun c => h c.1)]
    by_cases h2 : p < n ∧ ¬ D.dk = nI p
    · rw [if_pos ⟨by omega, h2.2⟩, if_pos h2]
    · rw [if_neg (fun c => h2 ⟨by omega, c.2⟩), if_neg h2]
theorem pasG_all {D : DV} {m n p : Nat} (h : p < n) (h4 : p < 4) : pasG D m 4 p = pasG D m n p := by
  unfold pasG
  by_cases c : D.dk = nI p
  · rw [if_neg (fun a => a.2 c), if_neg (fun a => a.2 c)]
  · rw [if_pos ⟨h4, c⟩, if_pos ⟨h, c⟩]
set_option maxHeartbeats 1000000 in
theorem lp_X0_passHours (l : Launch) (G : Gx) {S : SS} {d m hv n : Nat} {E : Option Value → SS → Prop} (hd : DeskAt S d) (hs : StV (dV S d)) (hG : ∀ p, p < n → GOK ((dV S d).g p)) (hm : m ≤ 48) (hh : hv ≤ 9999) (eh : sI S d 5 = nI hv) (hn : n ≤ 4) (en : sI S d 6 = nI n) (h : ∀ S', Fr S S' d (d + 26) → DE (dV S' d) (sf_g (sf_hr (dV S d) (nI (hv + m))) (pasG (dV S d) m 4)) → E (some (.int (nI (hv + m)))) S') :
    ∀ p, p ≤ n → ∀ T, paI S T d m p → V l G mi_X0_passHours E 31 [some (.ref d), some (.int (nI m)), some (.int (nI p))] [] T 0 0 := by
  refine loopUp n fun p hp ih T hT => ?_
  refine (V.segN (Γ := Γ_X0_passHours) (hΓ_X0_passHours l G) so_X0_passHours 4 (sg := sg_X0_passHours_31) so_X0_passHours_31 ?_ : V l G mi_X0_passHours _ (segPc sg_X0_passHours_31) _ _ _ _ _)
  simp only [mL_X0_passHours, mT_X0_passHours, rc_X0_passHours, rs_X0_passHours, Γ_X0_passHours, sg_X0_passHours_0, sg_X0_passHours_11, sg_X0_passHours_14, sg_X0_passHours_29, sg_X0_passHours_31, sg_X0_passHours_58, sg_X0_passHours_64, wn_X0_passHours_0, wn_X0_passHours_11, wn_X0_passHours_14, wn_X0_passHours_29, wn_X0_passHours_31, wn_X0_passHours_58, wn_X0_passHours_64, wp_c, ex_c, x_nop, x_goto, x_table, x_iinc, x_ldc, x_ldc2, x_iaload, x_faload, x_baload, x_caload, x_iastore, x_fastore, x_bastore, x_castore, x_aastore, x_alen, x_gets, x_new, x_newa, x_anew, x_invs, x_invi, x_invv, x_ret, x_iret, x_lret, x_fret, x_aret, x_lconst, x_fconst0, x_fconst1, x_fconst2, x_dconst0, x_dconst1, x_null, x_iadd, x_isub, x_imul, x_iand, x_ior, x_idiv, x_irem, x_ineg, x_ishl, x_ishr, x_land, x_ladd, x_lmul, x_lor, x_lushr, x_lshl, x_lcmp, x_i2l, x_l2i, x_i2c, x_i2f, x_f2d, x_d2i, x_d2l, x_fadd, x_fsub, x_fmul, x_fdiv, x_dadd, x_dsub, x_dmul, x_ddiv, x_fcmp, x_dcmp, x_dupI, x_dupR, x_dup2, x_popI, x_popR, ldP_I, ldP_L, ldP_F, ldP_D, ldP_R, ldP_N, x_iload, x_iload_n, x_lload, x_lload_n, x_fload, x_fload_n, x_dload, x_dload_n, x_aload, x_aload_n, x_istore, x_istore_n, x_lstore, x_lstore_n, x_fstore, x_fstore_n, x_dstore, x_dstore_n, x_astore, x_astore_n, x_astoreN, x_astore_nN, x_icmp_eq, x_icmp_ne, x_icmp_lt, x_icmp_ge, x_icmp_gt, x_icmp_le, x_if_eq, x_if_ne, x_if_lt, x_if_ge, x_if_gt, x_if_le, x_ifnull, x_ifnullR, x_ifnn, x_ifnnR, x_aaload2, x_cpI, x_cpF, x_oI, xk_bipush_120, xk_iconst_0, xk_bipush_m6, xk_iconst_1, xk_bipush_80, xk_iconst_4, xk_bipush_6, xk_iconst_2, xk_bipush_40, xk_iconst_3, xk_bipush_10, xk_iconst_5, xk_bipush_m2, xk_bipush_m4, xk_iconst_m1, xk_bipush_m5, xk_bipush_12, xk_bipush_100, xk_bipush_26, xk_bipush_48, xk_sipush_9999, xk_sipush_500, xk_bipush_7, xk_bipush_119, xk_bipush_m126, xk_bipush_127, xk_bipush_23, xk_sipush_m1022, xk_sipush_1023, xk_bipush_52, xg_0_0, xp_0_0, xg_0_1, xp_0_1, xg_0_2, xp_0_2, xg_0_3, xp_0_3, xg_0_4, xp_0_4, xg_0_5, xp_0_5, xg_0_6, xp_0_6, xg_0_7, xp_0_7, xg_0_8, xp_0_8, xg_1_0, xp_1_0, xg_1_1, xp_1_1, xg_1_2, xp_1_2, xg_1_3, xp_1_3, xg_2_0, xp_2_0, xg_2_1, xp_2_1, xg_2_2, xp_2_2, xg_3_0, xp_3_0, xg_3_1, xp_3_1, xg_3_2, xp_3_2, xg_3_3, xp_3_3, xg_3_4, xp_3_4, xg_3_5, xp_3_5, xg_3_6, xp_3_6, xg_3_7, xp_3_7, xg_3_8, xp_3_8, xg_3_9, xp_3_9, xg_3_10, xp_3_10, xg_3_11, xp_3_11, xg_4_0, xp_4_0, xg_4_1, xp_4_1, xg_5_0, xp_5_0, xg_5_1, xp_5_1, xg_6_0, xp_6_0, xg_6_1, xp_6_1, xg_6_2, xp_6_2, xg_6_3, xp_6_3, xg_6_4, xp_6_4, xg_6_5, xp_6_5, fv0, fv1, fv2, fv3, kI_0, kI_1, stL, wipeL, entLn, entL, List.getElem?_cons_zero, List.getElem?_cons_succ, List.getElem?_nil, List.set_cons_zero, List.set_cons_succ, List.set_nil, List.length_cons, List.length_nil, List.cons_append, List.nil_append, List.replicate, Nat.reduceAdd, Nat.reduceLeDiff, Nat.reduceSub, true_and, and_true, x_callS, x_callSN, x_callI, x_callIN, x_callV0, x_callV1, x_callV2, x_callV3, x_callV4, x_callV5, x_callV6, x_callV7, callP, List.take_succ_cons, List.take_zero, List.take_nil, List.drop_succ_cons, List.drop_zero, List.drop_nil, List.getLast?_singleton, List.getLast?_cons_cons, Option.some.injEq, Value.ref.injEq, exists_eq_left, exists_eq_left', Nat.zero_le, Nat.add_zero, ldcV_f, ldcV_fn, ldcV_l, ldcV_d, Nat.reduceMul, Nat.le_refl, List.reverse_cons, List.reverse_nil, Option.toList, List.map_cons, List.map_nil, List.sum_cons, List.sum_nil, Value.category, tblW_n, tblW_c, Int.cast_ofNat_Int, Int.reduceAdd, Int.reduceToNat, ofI_n, rc_X0_clearFor, rs_X0_clearFor, P_X0_clearFor]
  obtain ⟨hF, t1, t2, t3, t4, t5, t6, t7, t8, t9⟩ := hT
  have hdT := hF.desk hd
  obtain ⟨d0, d1, d2, d3, d4, d5, d6, d7, d8, d9, d10, d11⟩ := hF.desk hd
  have e5 : sI T d 5 = nI hv := t5.trans eh
  have e6 : sI T d 6 = nI n := t6.trans en
  have e7 : sI T d 7 = (dV S d).dk := t7
  have hsT := hs.of t1 t2
  simp only [d0, d1, d2, d3, d4, d5, d6, d7, d8, d9, d10, hdT, e5, e6, e7, hsT, sK_stI, sR_stI, sK_stF, sR_stF, sK_stIA, sR_stIA, sK_stFA, sR_stFA, sI_stI, sI_stF, sI_stIA, sI_stFA, sF_stI, sF_stF, sF_stIA, sF_stFA, Nat.left_eq_add, Nat.add_eq_left, Nat.add_left_cancel_iff, Nat.reduceEqDiff, Nat.reduceEqDiff, Nat.succ_ne_self, false_and, and_false, if_false, if_true, nI_succ_sub, Option.some.injEq, Prod.mk.injEq, exists_eq_left', true_and, and_true, retI, retF, retV, retZ1, retZ0, retL, retA, retN, Nat.reduceAdd, Nat.reduceMul, Nat.reduceLT]
  simp (disch := omega) only [nlt0, nge0, neq0, ngt0, nle0, nI_ltI, nI_leI, nI_eq, nI_cl, in_nI, false_implies, true_implies, not_false_eq_true, not_true_eq_false, and_true, true_and, nI_add, pk_mul, implies_true, not_lt0]
  refine ⟨fun q => ?_, fun q => ⟨fun c => ih (by omega) T ⟨hF, t1, t2, t3, t4, t5, t6, t7, t8, fun p' => ?_⟩, fun c => ⟨by omega, _, (d11 p (by omega)).1, (d11 p (by omega)).2, fun k hk => ?_, by omega, fun S' hS hE => ih (by omega) S' ?_⟩⟩⟩
  · have e : p = n := by omega
    subst e
    refine h _ (hF.stI _ _ _ (Nat.le_refl _) (by omega)) ?_
    rw [dV_hr]
    refine ⟨fun i _ => congrFun t1 i, fun i _ => ⟨congrFun t2 i, congrFun t3 i, congrFun t4 i⟩, rfl, t6, t7, t8, fun p' hp' _ => ?_⟩
    have hp2 : nI p' < nI p := by rw [← en, show sI S d 6 = (dV S d).pl from rfl, ← t6]; exact hp'
    rw [nI_ltI (by omega) (by omega)] at hp2
    show GE ((dV T d).g p') (pasG (dV S d) m 4 p')
    rw [pasG_all (n := p) (by omega) (by omega)]
    exact t9 p'
  · rw [pasG_s, if_neg (fun a => a.2 c.symm)]
    exact t9 p'
  · have := t9 p k hk
    unfold pasG at this
    rw [if_neg (fun a => absurd a.1 (by omega))] at this
    rw [show (gV T (d + 6 + 5 * p)).l k = ((dV S d).g p).l k from this.1]
    exact (hG p (by omega) k hk).1
  · have e := hS.putG
    unfold paI
    rw [e]
    refine ⟨hF.trans (hS.mono (by omega) (by omega)), t1, t2, t3, t4, t5, t6, t7, t8, fun p' => ?_⟩
    rw [pasG_s]
    show GE (upV (dV T d).g p (gV S' (d + 6 + 5 * p)) p') _
    unfold upV
    by_cases hpk : p' = p
    · rw [if_pos hpk, if_pos ⟨hpk, fun a => c a.symm⟩]
      refine hE.trans ?_
      intro k hk
      have := t9 p k hk
      unfold pasG at this
      rw [if_neg (fun a => absurd a.1 (by omega))] at this
      obtain ⟨a1, a2, a3, a4⟩ := this
      refine ⟨?_, a2, a3, a4⟩
      show itV (dV T d) (((dV T d).g p).l k) m = itV (dV S d) (((dV S d).g p).l k) m
      rw [a1, itV_st t1]
    · rw [if_neg hpk, if_neg (fun a => hpk a.1)]
      exact t9 p'
theorem nlt_le {x : Int32} {n : Nat} (hn : n < 2 ^ 31) (h : ¬ nI n < x) (h0 : ¬ x < nI 1) : ∃ k, 1 ≤ k ∧ k ≤ n ∧ x = nI k := by
  rw [Int32.lt_iff_toInt_lt, nI_toInt hn] at h
  rw [Int32.lt_iff_toInt_lt, nI_toInt (by omega)] at h0
  refine ⟨x.toInt.toNat, by omega, by omega, ?_⟩
  rw [← Int32.toInt_inj, nI_toInt (by omega)]
  omega
set_option maxHeartbeats 1000000 in
theorem ct_X0_passHours (l : Launch) (G : Gx) : Ct l G mi_X0_passHours P_X0_passHours := by
  refine Ct.ofV mo_X0_passHours (fun as S E h => ?_)
  unfold P_X0_passHours at h
  split at h
  case h_2 => exact h.elim
  rename_i d x
  refine ⟨by simp [entL, mL_X0_passHours], ?_⟩
  refine wpN_ok (Γ := Γ_X0_passHours) (hΓ_X0_passHours l G) so_X0_passHours 5 _ _ _ _ _ _ ?_
  simp only [mL_X0_passHours, mT_X0_passHours, rc_X0_passHours, rs_X0_passHours, Γ_X0_passHours, sg_X0_passHours_0, sg_X0_passHours_11, sg_X0_passHours_14, sg_X0_passHours_29, sg_X0_passHours_31, sg_X0_passHours_58, sg_X0_passHours_64, wn_X0_passHours_0, wn_X0_passHours_11, wn_X0_passHours_14, wn_X0_passHours_29, wn_X0_passHours_31, wn_X0_passHours_58, wn_X0_passHours_64, wp_c, ex_c, x_nop, x_goto, x_table, x_iinc, x_ldc, x_ldc2, x_iaload, x_faload, x_baload, x_caload, x_iastore, x_fastore, x_bastore, x_castore, x_aastore, x_alen, x_gets, x_new, x_newa, x_anew, x_invs, x_invi, x_invv, x_ret, x_iret, x_lret, x_fret, x_aret, x_lconst, x_fconst0, x_fconst1, x_fconst2, x_dconst0, x_dconst1, x_null, x_iadd, x_isub, x_imul, x_iand, x_ior, x_idiv, x_irem, x_ineg, x_ishl, x_ishr, x_land, x_ladd, x_lmul, x_lor, x_lushr, x_lshl, x_lcmp, x_i2l, x_l2i, x_i2c, x_i2f, x_f2d, x_d2i, x_d2l, x_fadd, x_fsub, x_fmul, x_fdiv, x_dadd, x_dsub, x_dmul, x_ddiv, x_fcmp, x_dcmp, x_dupI, x_dupR, x_dup2, x_popI, x_popR, ldP_I, ldP_L, ldP_F, ldP_D, ldP_R, ldP_N, x_iload, x_iload_n, x_lload, x_lload_n, x_fload, x_fload_n, x_dload, x_dload_n, x_aload, x_aload_n, x_istore, x_istore_n, x_lstore, x_lstore_n, x_fstore, x_fstore_n, x_dstore, x_dstore_n, x_astore, x_astore_n, x_astoreN, x_astore_nN, x_icmp_eq, x_icmp_ne, x_icmp_lt, x_icmp_ge, x_icmp_gt, x_icmp_le, x_if_eq, x_if_ne, x_if_lt, x_if_ge, x_if_gt, x_if_le, x_ifnull, x_ifnullR, x_ifnn, x_ifnnR, x_aaload2, x_cpI, x_cpF, x_oI, xk_bipush_120, xk_iconst_0, xk_bipush_m6, xk_iconst_1, xk_bipush_80, xk_iconst_4, xk_bipush_6, xk_iconst_2, xk_bipush_40, xk_iconst_3, xk_bipush_10, xk_iconst_5, xk_bipush_m2, xk_bipush_m4, xk_iconst_m1, xk_bipush_m5, xk_bipush_12, xk_bipush_100, xk_bipush_26, xk_bipush_48, xk_sipush_9999, xk_sipush_500, xk_bipush_7, xk_bipush_119, xk_bipush_m126, xk_bipush_127, xk_bipush_23, xk_sipush_m1022, xk_sipush_1023, xk_bipush_52, xg_0_0, xp_0_0, xg_0_1, xp_0_1, xg_0_2, xp_0_2, xg_0_3, xp_0_3, xg_0_4, xp_0_4, xg_0_5, xp_0_5, xg_0_6, xp_0_6, xg_0_7, xp_0_7, xg_0_8, xp_0_8, xg_1_0, xp_1_0, xg_1_1, xp_1_1, xg_1_2, xp_1_2, xg_1_3, xp_1_3, xg_2_0, xp_2_0, xg_2_1, xp_2_1, xg_2_2, xp_2_2, xg_3_0, xp_3_0, xg_3_1, xp_3_1, xg_3_2, xp_3_2, xg_3_3, xp_3_3, xg_3_4, xp_3_4, xg_3_5, xp_3_5, xg_3_6, xp_3_6, xg_3_7, xp_3_7, xg_3_8, xp_3_8, xg_3_9, xp_3_9, xg_3_10, xp_3_10, xg_3_11, xp_3_11, xg_4_0, xp_4_0, xg_4_1, xp_4_1, xg_5_0, xp_5_0, xg_5_1, xp_5_1, xg_6_0, xp_6_0, xg_6_1, xp_6_1, xg_6_2, xp_6_2, xg_6_3, xp_6_3, xg_6_4, xp_6_4, xg_6_5, xp_6_5, fv0, fv1, fv2, fv3, kI_0, kI_1, stL, wipeL, entLn, entL, List.getElem?_cons_zero, List.getElem?_cons_succ, List.getElem?_nil, List.set_cons_zero, List.set_cons_succ, List.set_nil, List.length_cons, List.length_nil, List.cons_append, List.nil_append, List.replicate, Nat.reduceAdd, Nat.reduceLeDiff, Nat.reduceSub, true_and, and_true, x_callS, x_callSN, x_callI, x_callIN, x_callV0, x_callV1, x_callV2, x_callV3, x_callV4, x_callV5, x_callV6, x_callV7, callP, List.take_succ_cons, List.take_zero, List.take_nil, List.drop_succ_cons, List.drop_zero, List.drop_nil, List.getLast?_singleton, List.getLast?_cons_cons, Option.some.injEq, Value.ref.injEq, exists_eq_left, exists_eq_left', Nat.zero_le, Nat.add_zero, ldcV_f, ldcV_fn, ldcV_l, ldcV_d, Nat.reduceMul, Nat.le_refl, List.reverse_cons, List.reverse_nil, Option.toList, List.map_cons, List.map_nil, List.sum_cons, List.sum_nil, Value.category, tblW_n, tblW_c, Int.cast_ofNat_Int, Int.reduceAdd, Int.reduceToNat, ofI_n, rc_X0_clearFor, rs_X0_clearFor, P_X0_clearFor]
  obtain ⟨hd, hD, h1, h2⟩ := h
  obtain ⟨hs, ⟨hv, hh, eh⟩, ⟨n, hn, en, -⟩, -, hG⟩ := hD
  have eh' : sI S d 5 = nI hv := eh
  have en' : sI S d 6 = nI n := en
  have hG' : ∀ p, p < n → GOK ((dV S d).g p) := fun p hp => hG p (by rw [en]; exact nI_lt hp (by omega)) (by omega)
  simp only [hd.1, eh', sK_stI, sR_stI, sK_stF, sR_stF, sK_stIA, sR_stIA, sK_stFA, sR_stFA, sI_stI, sI_stF, sI_stIA, sI_stFA, sF_stI, sF_stF, sF_stIA, sF_stFA, Nat.left_eq_add, Nat.add_eq_left, Nat.add_left_cancel_iff, Nat.reduceEqDiff, Nat.reduceEqDiff, Nat.succ_ne_self, false_and, and_false, if_false, if_true, nI_succ_sub, Option.some.injEq, Prod.mk.injEq, exists_eq_left', true_and, and_true, retI, retF, retV, retZ1, retZ0, retL, retA, retN, Nat.reduceAdd, Nat.reduceMul, Nat.reduceLT]
  refine ⟨fun c => h1 (Or.inl c), fun c => ⟨fun c2 => ?_, fun c2 => h1 (Or.inr (Int32.not_le.mp c2))⟩⟩
  obtain ⟨m, hm1, hm2, rfl⟩ := nlt_le (by omega) (Int32.not_lt.mpr c2) c
  simp (disch := omega) only [nlt0, nge0, neq0, ngt0, nle0, nI_ltI, nI_leI, nI_eq, nI_cl, in_nI, false_implies, true_implies, not_false_eq_true, not_true_eq_false, and_true, true_and, nI_add, pk_mul, implies_true, not_lt0]
  obtain ⟨h3, h4⟩ := h2 m hv hm1 hm2 rfl eh' hh
  refine ⟨fun c3 => ?_, fun c3 => h3 (by omega)⟩
  exact lp_X0_passHours l G hd hs hG' hm2 hh eh' hn en' (h4 (by omega)) 0 (by omega) S ⟨Fr.refl _ _ _, rfl, rfl, rfl, rfl, rfl, rfl, rfl, rfl, fun p => by unfold pasG; rw [if_neg (fun a => absurd a.1 (by omega))]; exact GE.refl _⟩
