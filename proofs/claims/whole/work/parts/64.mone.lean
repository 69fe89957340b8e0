-- needs: 63.dok
/-! the reference does an order -/
def EntW (S : SS) (y j : Nat) (e : Ent) : Prop := j < 80 ∧ ∃ q c i, sI S y 10 = nI e.r ∧ sI S y 11 = nI c ∧ sI S y 12 = nI q ∧ j = q + i ∧ e.c = c + i ∧ e.l < 100 ∧ sI S (y + 5) j = nI (97 + e.l)
def EntF (S : SS) (y j : Nat) (e : Ent) : Prop := j < 81 ∧ KE e ∧ sI S y 8 = nI e.k ∧ (¬ e.k = 110 ∧ ¬ e.k = 120 → sI S y 9 = nI e.a) ∧ (e.k = 112 ∨ e.k = 120 → sI S y 10 = nI e.r ∧ sI S y 11 = nI e.c) ∧
  (e.k = 119 → EntW S y j e)
def P_X7_orderError (as : List Value) (S : SS) (E : Option Value → SS → Prop) : Prop := match as with
  | [.ref y, .int k] => ModAt S y ∧ DOK (mV S y 0) ∧ ∃ j e, k = nI j ∧ EntF S y j e ∧ E (some (.int (erE (mV S y 0) e))) S
  | _ => False
def Γ_X7_orderError : List (MI × PT) := [(mi_X7_layError, P_X7_layError), (mi_X7_writerError, P_X7_writerError), (mi_X7_writeError, P_X7_writeError), (mi_X7_promiseError, P_X7_promiseError), (mi_X7_rubError, P_X7_rubError), (mi_X7_passError, P_X7_passError)]
theorem hΓ_X7_orderError (l : Launch) (G : Gx) : ∀ q ∈ Γ_X7_orderError, Ct l G q.1 q.2 := List.forall_mem_cons.mpr ⟨ct_X7_layError l G, List.forall_mem_cons.mpr ⟨ct_X7_writerError l G, List.forall_mem_cons.mpr ⟨ct_X7_writeError l G, List.forall_mem_cons.mpr ⟨ct_X7_promiseError l G, List.forall_mem_cons.mpr ⟨ct_X7_rubError l G, List.forall_mem_cons.mpr ⟨ct_X7_passError l G, fun _ h => absurd h List.not_mem_nil⟩⟩⟩⟩⟩⟩
theorem wr_col {c q i : Nat} : nI c + nI (q + i) - nI q = nI (c + i) := by
  rw [nI_add, pk_sub (by omega)]
  congr 1
  omega
theorem wr_let {l : Nat} : nI (97 + l) - nI 97 = nI l := by
  rw [pk_sub (by omega)]
  congr 1
  omega
set_option maxHeartbeats 1000000 in
theorem ct_X7_orderError (l : Launch) (G : Gx) : Ct l G mi_X7_orderError P_X7_orderError := by
  refine Ct.ofV mo_X7_orderError (fun as S E h => ?_)
  unfold P_X7_orderError at h
  split at h
  case h_2 => exact h.elim
  rename_i y k
  refine ⟨by simp [entL, mL_X7_orderError], ?_⟩
  refine wpN_ok (Γ := Γ_X7_orderError) (hΓ_X7_orderError l G) so_X7_orderError 5 _ _ _ _ _ _ ?_
  simp only [mL_X7_orderError, mT_X7_orderError, rc_X7_orderError, rs_X7_orderError, Γ_X7_orderError, sg_X7_orderError_0, sg_X7_orderError_76, sg_X7_orderError_91, sg_X7_orderError_92, sg_X7_orderError_93, sg_X7_orderError_102, sg_X7_orderError_111, sg_X7_orderError_144, sg_X7_orderError_161, sg_X7_orderError_174, wn_X7_orderError_0, wn_X7_orderError_76, wn_X7_orderError_91, wn_X7_orderError_92, wn_X7_orderError_93, wn_X7_orderError_102, wn_X7_orderError_111, wn_X7_orderError_144, wn_X7_orderError_161, wn_X7_orderError_174, wp_c, ex_c, x_nop, x_goto, x_table, x_iinc, x_ldc, x_ldc2, x_iaload, x_faload, x_baload, x_caload, x_iastore, x_fastore, x_bastore, x_castore, x_aastore, x_alen, x_gets, x_new, x_newa, x_anew, x_invs, x_invi, x_invv, x_ret, x_iret, x_lret, x_fret, x_aret, x_lconst, x_fconst0, x_fconst1, x_fconst2, x_dconst0, x_dconst1, x_null, x_iadd, x_isub, x_imul, x_iand, x_ior, x_idiv, x_irem, x_ineg, x_ishl, x_ishr, x_land, x_lor, x_lushr, x_lshl, x_lcmp, x_i2l, x_l2i, x_i2c, x_i2f, x_f2d, x_d2i, x_d2l, x_fadd, x_fsub, x_fmul, x_fdiv, x_dadd, x_dsub, x_dmul, x_ddiv, x_fcmp, x_dcmp, x_dupI, x_dupR, x_dup2, x_popI, x_popR, ldP_I, ldP_L, ldP_F, ldP_D, ldP_R, ldP_N, x_iload, x_iload_n, x_lload, x_lload_n, x_fload, x_fload_n, x_dload, x_dload_n, x_aload, x_aload_n, x_istore, x_istore_n, x_lstore, x_lstore_n, x_fstore, x_fstore_n, x_dstore, x_dstore_n, x_astore, x_astore_n, x_astoreN, x_astore_nN, x_icmp_eq, x_icmp_ne, x_icmp_lt, x_icmp_ge, x_icmp_gt, x_icmp_le, x_if_eq, x_if_ne, x_if_lt, x_if_ge, x_if_gt, x_if_le, x_ifnull, x_ifnullR, x_ifnn, x_ifnnR, x_aaload2, x_cpI, x_cpF, x_bF, x_bD, x_oI, xk_bipush_120, xk_iconst_0, xk_bipush_m6, xk_iconst_1, xk_bipush_80, xk_bipush_48, xk_bipush_57, xk_bipush_10, xk_bipush_64, xk_bipush_46, xk_bipush_97, xk_bipush_122, xk_bipush_119, xk_bipush_61, xk_bipush_59, xk_bipush_8, xk_bipush_33, xk_bipush_126, xk_bipush_m2, xk_bipush_m4, xk_iconst_4, xk_bipush_6, xk_iconst_2, xk_bipush_40, xk_iconst_3, xk_iconst_5, xk_iconst_m1, xk_bipush_m5, xk_bipush_12, xk_bipush_100, xk_bipush_26, xk_sipush_9999, xk_sipush_500, xk_bipush_7, xk_bipush_m126, xk_bipush_127, xk_bipush_23, xk_sipush_m1022, xk_sipush_1023, xk_bipush_52, xk_bipush_m3, xk_sipush_9830, xk_sipush_4800, xk_sipush_983, xk_sipush_480, xk_bipush_13, xk_bipush_18, xk_bipush_9, xk_bipush_32, xg_0_0, xp_0_0, xg_0_1, xp_0_1, xg_0_2, xp_0_2, xg_0_3, xp_0_3, xg_0_4, xp_0_4, xg_0_5, xp_0_5, xg_0_6, xp_0_6, xg_0_7, xp_0_7, xg_0_8, xp_0_8, xg_1_0, xp_1_0, xg_1_1, xp_1_1, xg_1_2, xp_1_2, xg_1_3, xp_1_3, xg_2_0, xp_2_0, xg_2_1, xp_2_1, xg_2_2, xp_2_2, xg_3_0, xp_3_0, xg_3_1, xp_3_1, xg_3_2, xp_3_2, xg_3_3, xp_3_3, xg_3_4, xp_3_4, xg_3_5, xp_3_5, xg_3_6, xp_3_6, xg_3_7, xp_3_7, xg_3_8, xp_3_8, xg_3_9, xp_3_9, xg_3_10, xp_3_10, xg_3_11, xp_3_11, xg_4_0, xp_4_0, xg_4_1, xp_4_1, xg_5_0, xp_5_0, xg_5_1, xp_5_1, xg_6_0, xp_6_0, xg_6_1, xp_6_1, xg_6_2, xp_6_2, xg_6_3, xp_6_3, xg_6_4, xp_6_4, xg_6_5, xp_6_5, xg_7_0, xp_7_0, xg_7_1, xp_7_1, xg_7_2, xp_7_2, xg_7_3, xp_7_3, xg_7_4, xp_7_4, xg_7_5, xp_7_5, xg_7_6, xp_7_6, xg_7_7, xp_7_7, xg_7_8, xp_7_8, xg_7_9, xp_7_9, xg_7_10, xp_7_10, xg_7_11, xp_7_11, xg_7_12, xp_7_12, xg_7_13, xp_7_13, fv0, fv1, fv2, fv3, kI_0, kI_1, stL, wipeL, entLn, entL, List.getElem?_cons_zero, List.getElem?_cons_succ, List.getElem?_nil, List.set_cons_zero, List.set_cons_succ, List.set_nil, List.length_cons, List.length_nil, List.cons_append, List.nil_append, List.replicate, Nat.reduceAdd, Nat.reduceLeDiff, Nat.reduceSub, true_and, and_true, x_callS, x_callSN, x_callI, x_callIN, x_callV0, x_callV1, x_callV2, x_callV3, x_callV4, x_callV5, x_callV6, x_callV7, callP, List.take_succ_cons, List.take_zero, List.take_nil, List.drop_succ_cons, List.drop_zero, List.drop_nil, List.getLast?_singleton, List.getLast?_cons_cons, Option.some.injEq, Value.ref.injEq, exists_eq_left, exists_eq_left', Nat.zero_le, Nat.add_zero, ldcV_f, ldcV_fn, ldcV_l, ldcV_d, Nat.reduceMul, Nat.le_refl, List.reverse_cons, List.reverse_nil, Option.toList, List.map_cons, List.map_nil, List.sum_cons, List.sum_nil, Value.category, tblW_n, tblW_c, Int.cast_ofNat_Int, Int.reduceAdd, Int.reduceToNat, ofI_n, rc_X7_layError, rs_X7_layError, P_X7_layError, rc_X7_writerError, rs_X7_writerError, P_X7_writerError, rc_X7_writeError, rs_X7_writeError, P_X7_writeError, rc_X7_promiseError, rs_X7_promiseError, P_X7_promiseError, rc_X7_rubError, rs_X7_rubError, P_X7_rubError, rc_X7_passError, rs_X7_passError, P_X7_passError]
  obtain ⟨hM, hD, j, e, rfl, ⟨hj, hk, e8, x1, x2, x3⟩, h⟩ := h
  have hM0 := hM
  obtain ⟨m0, m1, m2, m3, m4, m5, m6, m7, m8, m9, m10⟩ := hM
  obtain ⟨n, hn, en⟩ := hD.pl
  simp only [m0, m1, m2, m3, m4, m5, m6, m7, m8, m9, m10, e8, hM0, hD, sK_stI, sR_stI, sK_stF, sR_stF, sK_stIA, sR_stIA, sK_stFA, sR_stFA, sI_stI, sI_stF, sI_stIA, sI_stFA, sF_stI, sF_stF, sF_stIA, sF_stFA, Nat.left_eq_add, Nat.add_eq_left, Nat.add_left_cancel_iff, Nat.reduceEqDiff, Nat.reduceEqDiff, Nat.succ_ne_self, false_and, and_false, if_false, if_true, nI_succ_sub, Option.some.injEq, Prod.mk.injEq, exists_eq_left', true_and, and_true, retI, retF, retV, retZ1, retZ0, retL, retA, retN, Nat.reduceAdd, Nat.reduceMul, Nat.reduceLT]
  simp (disch := omega) only [nlt0, nge0, neq0, ngt0, nle0, nI_ltI, nI_leI, nI_eq, nI_cl, in_nI, false_implies, true_implies, not_false_eq_true, not_true_eq_false, and_true, true_and, nI_add, pk_mul, implies_true, not_lt0]
  unfold erE at h
  unfold KE at hk
  have ek : ∀ n, n < 1000 → nI e.k = nI n → e.k = n := fun n hn a => (nI_eq (by omega) (by omega)).mp a
  have no : ∀ {n : Nat} {P : Prop}, n < 1000 → ¬ (n = 110 ∨ n = 111 ∨ n = 107 ∨ n = 119 ∨ n = 112 ∨ n = 120 ∨ n = 104) → nI e.k = nI n → P := fun {n} {P} hn h1 a => absurd (ek n hn a ▸ hk) h1
  refine ⟨⟨fun q => ?_, no (by omega) (by omega), no (by omega) (by omega), fun q => ?_, fun q => ?_, fun q => ?_, no (by omega) (by omega), no (by omega) (by omega), no (by omega) (by omega), no (by omega) (by omega), no (by omega) (by omega), no (by omega) (by omega), fun q => ?_, fun q => ?_⟩, fun q => ?_⟩
  · have q := ek _ (by omega) q
    rw [if_neg (by omega), if_neg (by omega), if_pos q] at h
    rwa [x1 (by omega)]
  · have q := ek _ (by omega) q
    rw [if_pos q] at h
    unfold erCome at h
    rw [← mV_pl] at h
    refine ⟨by omega, fun c => ?_, fun c => ?_⟩
    · rwa [if_neg c] at h
    · rwa [if_pos (Decidable.not_not.mp c)] at h
  · have q := ek _ (by omega) q
    rw [if_neg (by omega), if_pos q] at h
    rwa [x1 (by omega)]
  · have q := ek _ (by omega) q
    rw [if_neg (by omega), if_neg (by omega), if_neg (by omega), if_neg (by omega), if_pos q] at h
    rwa [x1 (by omega), (x2 (by omega)).1, (x2 (by omega)).2]
  · have q := ek _ (by omega) q
    rw [if_neg (by omega), if_neg (by omega), if_neg (by omega), if_pos q] at h
    obtain ⟨hj8, q0, c, i, z1, z2, z3, z4, z5, z6, z7⟩ := x3 q
    refine ⟨hj8, ?_⟩
    rwa [x1 (by omega), z1, z2, z3, z7, z4, wr_col, wr_let, ← z5]
  · have q := ek _ (by omega) q
    rw [if_neg (by omega), if_neg (by omega), if_neg (by omega), if_neg (by omega), if_neg (by omega), if_pos q] at h
    rwa [(x2 (by omega)).1, (x2 (by omega)).2]
  · rw [nI_toInt (by omega)] at q
    have q : e.k = 104 := by omega
    rw [if_neg (by omega), if_neg (by omega), if_neg (by omega), if_neg (by omega), if_neg (by omega), if_neg (by omega)] at h
    rwa [x1 (by omega)]
def P_X7_does (as : List Value) (S : SS) (E : Option Value → SS → Prop) : Prop := match as with
  | [.ref y, .int k] => ModAt S y ∧ DOK (mV S y 0) ∧ ∃ j e, k = nI j ∧ EntF S y j e ∧ erE (mV S y 0) e = nI 0 ∧ ∀ (v : Int32) T, OpS S T y (neE (mV S y 0) e) → E (some (.int v)) T
  | _ => False
def Γ_X7_does : List (MI × PT) := [(mi_X7_comes, P_X7_comes), (mi_X7_lays, P_X7_lays), (mi_X7_joins, P_X7_joins), (mi_X7_spotOf, P_X7_spotOf), (mi_X7_pens, P_X7_pens), (mi_X7_promises, P_X7_promises), (mi_X7_rubs, P_X7_rubs), (mi_X7_goesOn, P_X7_goesOn)]
theorem hΓ_X7_does (l : Launch) (G : Gx) : ∀ q ∈ Γ_X7_does, Ct l G q.1 q.2 := List.forall_mem_cons.mpr ⟨ct_X7_comes l G, List.forall_mem_cons.mpr ⟨ct_X7_lays l G, List.forall_mem_cons.mpr ⟨ct_X7_joins l G, List.forall_mem_cons.mpr ⟨ct_X7_spotOf l G, List.forall_mem_cons.mpr ⟨ct_X7_pens l G, List.forall_mem_cons.mpr ⟨ct_X7_promises l G, List.forall_mem_cons.mpr ⟨ct_X7_rubs l G, List.forall_mem_cons.mpr ⟨ct_X7_goesOn l G, fun _ h => absurd h List.not_mem_nil⟩⟩⟩⟩⟩⟩⟩⟩
set_option maxHeartbeats 1000000 in
theorem ct_X7_does (l : Launch) (G : Gx) : Ct l G mi_X7_does P_X7_does := by
  refine Ct.ofV mo_X7_does (fun as S E h => ?_)
  unfold P_X7_does at h
  split at h
  case h_2 => exact h.elim
  rename_i y k
  refine ⟨by simp [entL, mL_X7_does], ?_⟩
  refine wpN_ok (Γ := Γ_X7_does) (hΓ_X7_does l G) so_X7_does 5 _ _ _ _ _ _ ?_
  simp only [mL_X7_does, mT_X7_does, rc_X7_does, rs_X7_does, Γ_X7_does, sg_X7_does_0, sg_X7_does_76, sg_X7_does_81, sg_X7_does_90, sg_X7_does_99, sg_X7_does_135, sg_X7_does_155, sg_X7_does_171, wn_X7_does_0, wn_X7_does_76, wn_X7_does_81, wn_X7_does_90, wn_X7_does_99, wn_X7_does_135, wn_X7_does_155, wn_X7_does_171, wp_c, ex_c, x_nop, x_goto, x_table, x_iinc, x_ldc, x_ldc2, x_iaload, x_faload, x_baload, x_caload, x_iastore, x_fastore, x_bastore, x_castore, x_aastore, x_alen, x_gets, x_new, x_newa, x_anew, x_invs, x_invi, x_invv, x_ret, x_iret, x_lret, x_fret, x_aret, x_lconst, x_fconst0, x_fconst1, x_fconst2, x_dconst0, x_dconst1, x_null, x_iadd, x_isub, x_imul, x_iand, x_ior, x_idiv, x_irem, x_ineg, x_ishl, x_ishr, x_land, x_lor, x_lushr, x_lshl, x_lcmp, x_i2l, x_l2i, x_i2c, x_i2f, x_f2d, x_d2i, x_d2l, x_fadd, x_fsub, x_fmul, x_fdiv, x_dadd, x_dsub, x_dmul, x_ddiv, x_fcmp, x_dcmp, x_dupI, x_dupR, x_dup2, x_popI, x_popR, ldP_I, ldP_L, ldP_F, ldP_D, ldP_R, ldP_N, x_iload, x_iload_n, x_lload, x_lload_n, x_fload, x_fload_n, x_dload, x_dload_n, x_aload, x_aload_n, x_istore, x_istore_n, x_lstore, x_lstore_n, x_fstore, x_fstore_n, x_dstore, x_dstore_n, x_astore, x_astore_n, x_astoreN, x_astore_nN, x_icmp_eq, x_icmp_ne, x_icmp_lt, x_icmp_ge, x_icmp_gt, x_icmp_le, x_if_eq, x_if_ne, x_if_lt, x_if_ge, x_if_gt, x_if_le, x_ifnull, x_ifnullR, x_ifnn, x_ifnnR, x_aaload2, x_cpI, x_cpF, x_bF, x_bD, x_oI, xk_bipush_120, xk_iconst_0, xk_bipush_m6, xk_iconst_1, xk_bipush_80, xk_bipush_48, xk_bipush_57, xk_bipush_10, xk_bipush_64, xk_bipush_46, xk_bipush_97, xk_bipush_122, xk_bipush_119, xk_bipush_61, xk_bipush_59, xk_bipush_8, xk_bipush_33, xk_bipush_126, xk_bipush_m2, xk_bipush_m4, xk_iconst_4, xk_bipush_6, xk_iconst_2, xk_bipush_40, xk_iconst_3, xk_iconst_5, xk_iconst_m1, xk_bipush_m5, xk_bipush_12, xk_bipush_100, xk_bipush_26, xk_sipush_9999, xk_sipush_500, xk_bipush_7, xk_bipush_m126, xk_bipush_127, xk_bipush_23, xk_sipush_m1022, xk_sipush_1023, xk_bipush_52, xk_bipush_m3, xk_sipush_9830, xk_sipush_4800, xk_sipush_983, xk_sipush_480, xk_bipush_13, xk_bipush_18, xk_bipush_9, xk_bipush_32, xg_0_0, xp_0_0, xg_0_1, xp_0_1, xg_0_2, xp_0_2, xg_0_3, xp_0_3, xg_0_4, xp_0_4, xg_0_5, xp_0_5, xg_0_6, xp_0_6, xg_0_7, xp_0_7, xg_0_8, xp_0_8, xg_1_0, xp_1_0, xg_1_1, xp_1_1, xg_1_2, xp_1_2, xg_1_3, xp_1_3, xg_2_0, xp_2_0, xg_2_1, xp_2_1, xg_2_2, xp_2_2, xg_3_0, xp_3_0, xg_3_1, xp_3_1, xg_3_2, xp_3_2, xg_3_3, xp_3_3, xg_3_4, xp_3_4, xg_3_5, xp_3_5, xg_3_6, xp_3_6, xg_3_7, xp_3_7, xg_3_8, xp_3_8, xg_3_9, xp_3_9, xg_3_10, xp_3_10, xg_3_11, xp_3_11, xg_4_0, xp_4_0, xg_4_1, xp_4_1, xg_5_0, xp_5_0, xg_5_1, xp_5_1, xg_6_0, xp_6_0, xg_6_1, xp_6_1, xg_6_2, xp_6_2, xg_6_3, xp_6_3, xg_6_4, xp_6_4, xg_6_5, xp_6_5, xg_7_0, xp_7_0, xg_7_1, xp_7_1, xg_7_2, xp_7_2, xg_7_3, xp_7_3, xg_7_4, xp_7_4, xg_7_5, xp_7_5, xg_7_6, xp_7_6, xg_7_7, xp_7_7, xg_7_8, xp_7_8, xg_7_9, xp_7_9, xg_7_10, xp_7_10, xg_7_11, xp_7_11, xg_7_12, xp_7_12, xg_7_13, xp_7_13, fv0, fv1, fv2, fv3, kI_0, kI_1, stL, wipeL, entLn, entL, List.getElem?_cons_zero, List.getElem?_cons_succ, List.getElem?_nil, List.set_cons_zero, List.set_cons_succ, List.set_nil, List.length_cons, List.length_nil, List.cons_append, List.nil_append, List.replicate, Nat.reduceAdd, Nat.reduceLeDiff, Nat.reduceSub, true_and, and_true, x_callS, x_callSN, x_callI, x_callIN, x_callV0, x_callV1, x_callV2, x_callV3, x_callV4, x_callV5, x_callV6, x_callV7, callP, List.take_succ_cons, List.take_zero, List.take_nil, List.drop_succ_cons, List.drop_zero, List.drop_nil, List.getLast?_singleton, List.getLast?_cons_cons, Option.some.injEq, Value.ref.injEq, exists_eq_left, exists_eq_left', Nat.zero_le, Nat.add_zero, ldcV_f, ldcV_fn, ldcV_l, ldcV_d, Nat.reduceMul, Nat.le_refl, List.reverse_cons, List.reverse_nil, Option.toList, List.map_cons, List.map_nil, List.sum_cons, List.sum_nil, Value.category, tblW_n, tblW_c, Int.cast_ofNat_Int, Int.reduceAdd, Int.reduceToNat, ofI_n, rc_X7_comes, rs_X7_comes, P_X7_comes, rc_X7_lays, rs_X7_lays, P_X7_lays, rc_X7_joins, rs_X7_joins, P_X7_joins, rc_X7_spotOf, rs_X7_spotOf, P_X7_spotOf, rc_X7_pens, rs_X7_pens, P_X7_pens, rc_X7_promises, rs_X7_promises, P_X7_promises, rc_X7_rubs, rs_X7_rubs, P_X7_rubs, rc_X7_goesOn, rs_X7_goesOn, P_X7_goesOn]
  obtain ⟨hM, hD, j, e, rfl, ⟨hj, hk, e8, x1, x2, x3⟩, h0, h⟩ := h
  have hM0 := hM
  obtain ⟨m0, m1, m2, m3, m4, m5, m6, m7, m8, m9, m10⟩ := hM
  obtain ⟨n, hn, en⟩ := hD.pl
  unfold erE at h0
  unfold neE at h
  unfold KE at hk
  simp only [m0, m1, m2, m3, m4, m5, m6, m7, m8, m9, m10, e8, hM0, hD, sK_stI, sR_stI, sK_stF, sR_stF, sK_stIA, sR_stIA, sK_stFA, sR_stFA, sI_stI, sI_stF, sI_stIA, sI_stFA, sF_stI, sF_stF, sF_stIA, sF_stFA, Nat.left_eq_add, Nat.add_eq_left, Nat.add_left_cancel_iff, Nat.reduceEqDiff, Nat.reduceEqDiff, Nat.succ_ne_self, false_and, and_false, if_false, if_true, nI_succ_sub, Option.some.injEq, Prod.mk.injEq, exists_eq_left', true_and, and_true, retI, retF, retV, retZ1, retZ0, retL, retA, retN, Nat.reduceAdd, Nat.reduceMul, Nat.reduceLT]
  simp (disch := omega) only [nlt0, nge0, neq0, ngt0, nle0, nI_ltI, nI_leI, nI_eq, nI_cl, in_nI, false_implies, true_implies, not_false_eq_true, not_true_eq_false, and_true, true_and, nI_add, pk_mul, implies_true, not_lt0]
  have no : ∀ {n : Nat} {P : Prop}, ¬ (n = 110 ∨ n = 111 ∨ n = 107 ∨ n = 119 ∨ n = 112 ∨ n = 120 ∨ n = 104) → e.k = n → P := fun {n} {P} h1 a => absurd (a ▸ hk) h1
  refine ⟨⟨fun q => ?_, no (by omega), no (by omega), fun q => ?_, fun q => ?_, fun q => ?_, no (by omega), no (by omega), no (by omega), no (by omega), no (by omega), no (by omega), fun q => ?_, fun q => ?_⟩, fun q => ?_⟩
  · rw [if_neg (by omega), if_neg (by omega), if_pos q] at h0
    rw [if_neg (by omega), if_neg (by omega), if_pos q] at h
    obtain ⟨-, c2⟩ := erJoin_0 h0
    obtain ⟨m, hm, em⟩ := hD.pp
    rw [x1 (by omega)]
    refine ⟨m, ?_, em, fun T hT => h _ T hT⟩
    apply Nat.lt_of_le_of_ne hm
    intro a
    exact c2 (by rw [em, a])
  · rw [if_pos q] at h0 h
    obtain ⟨m, hm, em⟩ := erCome_0 hD h0
    exact ⟨m, hm, em, fun T hT => h _ T hT⟩
  · rw [if_neg (by omega), if_pos q] at h
    rw [x1 (by omega)]
    exact fun T hT => h _ T hT
  · rw [if_neg (by omega), if_neg (by omega), if_neg (by omega), if_neg (by omega), if_pos q] at h0
    rw [if_neg (by omega), if_neg (by omega), if_neg (by omega), if_neg (by omega), if_pos q] at h
    obtain ⟨c1, c2, c3⟩ := erProm_0 h0
    rw [x1 (by omega), (x2 (by omega)).1, (x2 (by omega)).2]
    obtain ⟨p, hp⟩ := (OnD_or hD).resolve_left c2
    obtain ⟨wn, hwn, ew⟩ := hD.wr c1.1 c1.2
    refine ⟨c3, p, kP (nI e.r) (nI e.c), wn, hp, kP_lt c3, rfl, hwn, ew, fun T hT => h _ T ?_⟩
    unfold neProm
    rw [hp.dk, hp.on]
    exact hT
  · rw [if_neg (by omega), if_neg (by omega), if_neg (by omega), if_pos q] at h0
    rw [if_neg (by omega), if_neg (by omega), if_neg (by omega), if_pos q] at h
    obtain ⟨hj8, q0, c, i, z1, z2, z3, z4, z5, z6, z7⟩ := x3 q
    rw [x1 (by omega), z1, z2, z3, z7, z4, wr_col, wr_let, ← z5, ← z4]
    obtain ⟨c1, c2, c3, c4, -⟩ := erWrite_0 h0
    obtain ⟨p, hp⟩ := (OnD_or hD).resolve_left c2
    obtain ⟨wn, hwn, ew⟩ := hD.wr c1.1 c1.2
    obtain ⟨an, han, ea⟩ := vp_in_of ((in_cmp (by omega)).mpr c4) (by omega)
    refine ⟨c3, hj8, p, kP (nI e.r) (nI e.c), wn, an, hp, kP_lt c3, rfl, hwn, ew, han, ea, fun T hT => h _ T ?_⟩
    unfold neWrite
    rw [hp.dk, ew, nI_cl (by omega)]
    exact hT
  · rw [if_neg (by omega), if_neg (by omega), if_neg (by omega), if_neg (by omega), if_neg (by omega), if_pos q] at h0
    rw [if_neg (by omega), if_neg (by omega), if_neg (by omega), if_neg (by omega), if_neg (by omega), if_pos q] at h
    rw [(x2 (by omega)).1, (x2 (by omega)).2]
    obtain ⟨c1, c2, c3⟩ := erRub_0 h0
    obtain ⟨p, hp⟩ := (OnD_or hD).resolve_left c1
    refine ⟨c2, p, kP (nI e.r) (nI e.c), hp, kP_lt c2, rfl, ?_, fun T hT => h _ T ?_⟩
    · unfold vaRub at c3
      rw [hp.on] at c3
      exact c3
    · unfold neRub
      rw [hp.dk, hp.on]
      exact hT
  · rw [nI_toInt (by omega)] at q
    have q : e.k = 104 := by omega
    rw [if_neg (by omega), if_neg (by omega), if_neg (by omega), if_neg (by omega), if_neg (by omega), if_neg (by omega)] at h0
    rw [if_neg (by omega), if_neg (by omega), if_neg (by omega), if_neg (by omega), if_neg (by omega), if_neg (by omega)] at h
    rw [x1 (by omega)]
    obtain ⟨k, k1, k2, ekk⟩ := erPass_0 h0
    obtain ⟨v, hv, ev⟩ := hD.2.1
    refine ⟨k, v, k2, ekk, ev, hv, fun T hT => h _ T ?_⟩
    unfold nePass
    rw [ekk, nI_cl (by omega), ev, nI_add]
    exact hT
