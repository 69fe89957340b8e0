-- needs: 18.nums 19.proj 20.spec 21.shape 22.leaf 23.fl 23.view 24.loops 32.pad
/-! orders: the text read -/
def OrdAt (S : SS) (o : Nat) : Prop := sK S o = some (3, 0) ∧ sR S o 0 = some (o + 1) ∧ sR S o 1 = some (o + 3) ∧ sR S o 2 = some (o + 4) ∧ sR S o 3 = some (o + 5) ∧ sR S o 4 = some (o + 6) ∧ sR S o 5 = some (o + 7) ∧
  sK S (o + 1) = some (4, 0) ∧ sR S (o + 1) 0 = some (o + 2) ∧ sK S (o + 2) = some (11, 80) ∧ sK S (o + 3) = some (11, 80) ∧ sK S (o + 4) = some (8, 80) ∧ sK S (o + 5) = some (8, 80) ∧ sK S (o + 6) = some (8, 80) ∧ sK S (o + 7) = some (8, 80)
theorem OrdAt.mk' {S T : SS} {o : Nat} (h : OrdAt S o) (hK : sK T = sK S) (hR : sR T = sR S) : OrdAt T o := by
  unfold OrdAt at h ⊢
  rw [hK, hR]
  exact h
/-- the text that stands on the pad -/
def TxAt (S : SS) (o : Nat) (T : Nat → Nat) (n : Nat) : Prop := n ≤ 80 ∧ sI S (o + 1) 1 = nI n ∧ ∀ j, j < n → T j < 256 ∧ sI S (o + 2) j = nI (T j)
def PO (S : SS) (o : Nat) (T : Nat → Nat) (n : Nat) : Prop := OrdAt S o ∧ TxAt S o T n
theorem PO.st {S : SS} {o : Nat} {T : Nat → Nat} {n : Nat} (h : PO S o T n) (g : Nat → Int32) : PO (stIA S o g) o T n := by
  obtain ⟨h1, h2, h3, h4⟩ := h
  refine ⟨h1.mk' rfl rfl, h2, ?_, fun j hj => ⟨(h4 j hj).1, ?_⟩⟩
  · rw [sI_stIA, if_neg (by omega)]
    exact h3
  · rw [sI_stIA, if_neg (by omega)]
    exact (h4 j hj).2
def chP (T : Nat → Nat) (n i : Nat) : Nat := if i < n then T i else 0
theorem chP_lt {S : SS} {o : Nat} {T : Nat → Nat} {n : Nat} (h : PO S o T n) (i : Nat) : chP T n i < 256 := by
  unfold chP
  split
  · exact (h.2.2.2 i (by assumption)).1
  · omega
theorem retC {n : Nat} (h : n < 256) : retOK .ireturn (some .char) (some (.int (nI n))) = True := by
  simp only [retOK, eq_iff_iff, iff_true]
  exact ⟨.char, rfl, (fit16 n h).1⟩
def P_X3_look (as : List Value) (S : SS) (E : Option Value → SS → Prop) : Prop := match as with
  | [.ref o] => ∃ T n i, PO S o T n ∧ i ≤ n ∧ sI S o 7 = nI i ∧ E (some (.int (nI (chP T n i)))) S
  | _ => False
def Γ_X3_look : List (MI × PT) := []
theorem hΓ_X3_look (l : Launch) (G : Gx) : ∀ q ∈ Γ_X3_look, Ct l G q.1 q.2 := fun _ h => absurd h List.not_mem_nil
set_option maxHeartbeats 1000000 in
theorem ct_X3_look (l : Launch) (G : Gx) : Ct l G mi_X3_look P_X3_look := by
  refine Ct.ofV mo_X3_look (fun as S E h => ?_)
  unfold P_X3_look at h
  split at h
  case h_2 => exact h.elim
  rename_i o
  refine ⟨by simp [entL, mL_X3_look], ?_⟩
  refine wpN_ok (Γ := Γ_X3_look) (hΓ_X3_look l G) so_X3_look 4 _ _ _ _ _ _ ?_
  simp only [mL_X3_look, mT_X3_look, rc_X3_look, rs_X3_look, Γ_X3_look, sg_X3_look_0, sg_X3_look_29, sg_X3_look_30, wn_X3_look_0, wn_X3_look_29, wn_X3_look_30, wp_c, ex_c, x_nop, x_goto, x_table, x_iinc, x_ldc, x_ldc2, x_iaload, x_faload, x_baload, x_caload, x_iastore, x_fastore, x_bastore, x_castore, x_aastore, x_alen, x_gets, x_new, x_newa, x_anew, x_invs, x_invi, x_invv, x_ret, x_iret, x_lret, x_fret, x_aret, x_lconst, x_fconst0, x_fconst1, x_fconst2, x_dconst0, x_dconst1, x_null, x_iadd, x_isub, x_imul, x_iand, x_ior, x_idiv, x_irem, x_ineg, x_ishl, x_ishr, x_land, x_lor, x_lushr, x_lshl, x_lcmp, x_i2l, x_l2i, x_i2c, x_i2f, x_f2d, x_d2i, x_d2l, x_fadd, x_fsub, x_fmul, x_fdiv, x_dadd, x_dsub, x_dmul, x_ddiv, x_fcmp, x_dcmp, x_dupI, x_dupR, x_dup2, x_popI, x_popR, ldP_I, ldP_L, ldP_F, ldP_D, ldP_R, ldP_N, x_iload, x_iload_n, x_lload, x_lload_n, x_fload, x_fload_n, x_dload, x_dload_n, x_aload, x_aload_n, x_istore, x_istore_n, x_lstore, x_lstore_n, x_fstore, x_fstore_n, x_dstore, x_dstore_n, x_astore, x_astore_n, x_astoreN, x_astore_nN, x_icmp_eq, x_icmp_ne, x_icmp_lt, x_icmp_ge, x_icmp_gt, x_icmp_le, x_if_eq, x_if_ne, x_if_lt, x_if_ge, x_if_gt, x_if_le, x_ifnull, x_ifnullR, x_ifnn, x_ifnnR, x_aaload2, x_cpI, x_cpF, x_bF, x_bD, x_oI, xk_bipush_120, xk_iconst_0, xk_bipush_m6, xk_iconst_1, xk_bipush_80, xk_bipush_48, xk_bipush_57, xk_bipush_10, xk_bipush_64, xk_bipush_46, xk_bipush_97, xk_bipush_122, xk_bipush_119, xk_bipush_61, xk_bipush_59, xk_bipush_8, xk_bipush_33, xk_bipush_126, xk_bipush_m2, xk_bipush_m4, xk_iconst_4, xk_bipush_6, xk_iconst_2, xk_bipush_40, xk_iconst_3, xk_iconst_5, xk_iconst_m1, xk_bipush_m5, xk_bipush_12, xk_bipush_100, xk_bipush_26, xk_sipush_9999, xk_sipush_500, xk_bipush_7, xk_bipush_m126, xk_bipush_127, xk_bipush_23, xk_sipush_m1022, xk_sipush_1023, xk_bipush_52, xk_bipush_m3, xk_sipush_9830, xk_sipush_4800, xk_sipush_983, xk_sipush_480, xk_bipush_13, xk_bipush_18, xk_bipush_9, xk_bipush_32, xg_0_0, xp_0_0, xg_0_1, xp_0_1, xg_0_2, xp_0_2, xg_0_3, xp_0_3, xg_0_4, xp_0_4, xg_0_5, xp_0_5, xg_0_6, xp_0_6, xg_0_7, xp_0_7, xg_0_8, xp_0_8, xg_1_0, xp_1_0, xg_1_1, xp_1_1, xg_1_2, xp_1_2, xg_1_3, xp_1_3, xg_2_0, xp_2_0, xg_2_1, xp_2_1, xg_2_2, xp_2_2, xg_3_0, xp_3_0, xg_3_1, xp_3_1, xg_3_2, xp_3_2, xg_3_3, xp_3_3, xg_3_4, xp_3_4, xg_3_5, xp_3_5, xg_3_6, xp_3_6, xg_3_7, xp_3_7, xg_3_8, xp_3_8, xg_3_9, xp_3_9, xg_3_10, xp_3_10, xg_3_11, xp_3_11, xg_4_0, xp_4_0, xg_4_1, xp_4_1, xg_5_0, xp_5_0, xg_5_1, xp_5_1, xg_6_0, xp_6_0, xg_6_1, xp_6_1, xg_6_2, xp_6_2, xg_6_3, xp_6_3, xg_6_4, xp_6_4, xg_6_5, xp_6_5, xg_7_0, xp_7_0, xg_7_1, xp_7_1, xg_7_2, xp_7_2, xg_7_3, xp_7_3, xg_7_4, xp_7_4, xg_7_5, xp_7_5, xg_7_6, xp_7_6, xg_7_7, xp_7_7, xg_7_8, xp_7_8, xg_7_9, xp_7_9, xg_7_10, xp_7_10, xg_7_11, xp_7_11, xg_7_12, xp_7_12, xg_7_13, xp_7_13, fv0, fv1, fv2, fv3, kI_0, kI_1, stL, wipeL, entLn, entL, List.getElem?_cons_zero, List.getElem?_cons_succ, List.getElem?_nil, List.set_cons_zero, List.set_cons_succ, List.set_nil, List.length_cons, List.length_nil, List.cons_append, List.nil_append, List.replicate, Nat.reduceAdd, Nat.reduceLeDiff, Nat.reduceSub, true_and, and_true, x_callS, x_callSN, x_callI, x_callIN, x_callV0, x_callV1, x_callV2, x_callV3, x_callV4, x_callV5, x_callV6, x_callV7, callP, List.take_succ_cons, List.take_zero, List.take_nil, List.drop_succ_cons, List.drop_zero, List.drop_nil, List.getLast?_singleton, List.getLast?_cons_cons, Option.some.injEq, Value.ref.injEq, exists_eq_left, exists_eq_left', Nat.zero_le, Nat.add_zero, ldcV_f, ldcV_fn, ldcV_l, ldcV_d, Nat.reduceMul, Nat.le_refl, List.reverse_cons, List.reverse_nil, Option.toList, List.map_cons, List.map_nil, List.sum_cons, List.sum_nil, Value.category, tblW_n, tblW_c, Int.cast_ofNat_Int, Int.reduceAdd, Int.reduceToNat, ofI_n]
  obtain ⟨T, n, i, hP, hi, ei, h⟩ := h
  have hr := retC (chP_lt hP i)
  obtain ⟨⟨o0, o1, o2, o3, o4, o5, o6, o7, o8, o9, o10, o11, o12, o13, o14⟩, t1, t2, t3⟩ := hP
  simp only [o0, o1, o7, o8, o9, ei, t2, sK_stI, sR_stI, sK_stF, sR_stF, sK_stIA, sR_stIA, sK_stFA, sR_stFA, sI_stI, sI_stF, sI_stIA, sI_stFA, sF_stI, sF_stF, sF_stIA, sF_stFA, Nat.left_eq_add, Nat.add_eq_left, Nat.add_left_cancel_iff, Nat.reduceEqDiff, Nat.reduceEqDiff, Nat.succ_ne_self, false_and, and_false, if_false, if_true, nI_succ_sub, Option.some.injEq, Prod.mk.injEq, exists_eq_left', true_and, and_true, retI, retF, retV, retZ1, retZ0, retL, retA, retN, Nat.reduceAdd, Nat.reduceMul, Nat.reduceLT]
  simp (disch := omega) only [nlt0, nge0, neq0, ngt0, nle0, nI_ltI, nI_leI, nI_eq, nI_cl, in_nI, false_implies, true_implies, not_false_eq_true, not_true_eq_false, and_true, true_and, nI_add, pk_mul, implies_true, not_lt0]
  unfold chP at h hr
  refine ⟨fun q => ?_, fun q => ⟨by omega, ?_⟩⟩
  · rw [if_neg (by omega)] at h hr
    exact ⟨of_eq_true hr, h⟩
  · rw [if_pos (by omega)] at h hr
    rw [(t3 i (by omega)).2]
    exact ⟨of_eq_true hr, h⟩
def P_X3_reads (as : List Value) (S : SS) (E : Option Value → SS → Prop) : Prop := match as with
  | [.ref o, .int s] => ∃ T n i, PO S o T n ∧ i ≤ n ∧ sI S o 7 = nI i ∧ (s = nI (chP T n i) → E (some (.int (nI 1))) (stIA S o (upV (sI S o) 7 (nI (i + 1))))) ∧ (¬ s = nI (chP T n i) → E (some (.int (nI 0))) S)
  | _ => False
def Γ_X3_reads : List (MI × PT) := [(mi_X3_look, P_X3_look)]
theorem hΓ_X3_reads (l : Launch) (G : Gx) : ∀ q ∈ Γ_X3_reads, Ct l G q.1 q.2 := List.forall_mem_cons.mpr ⟨ct_X3_look l G, fun _ h => absurd h List.not_mem_nil⟩
theorem stI_up (S : SS) (a k : Nat) (v : Int32) : stI S a k v = stIA S a (upV (sI S a) k v) := stI_row' S a k v
set_option maxHeartbeats 1000000 in
theorem ct_X3_reads (l : Launch) (G : Gx) : Ct l G mi_X3_reads P_X3_reads := by
  refine Ct.ofV mo_X3_reads (fun as S E h => ?_)
  unfold P_X3_reads at h
  split at h
  case h_2 => exact h.elim
  rename_i o s
  refine ⟨by simp [entL, mL_X3_reads], ?_⟩
  refine wpN_ok (Γ := Γ_X3_reads) (hΓ_X3_reads l G) so_X3_reads 4 _ _ _ _ _ _ ?_
  simp only [mL_X3_reads, mT_X3_reads, rc_X3_reads, rs_X3_reads, Γ_X3_reads, sg_X3_reads_0, sg_X3_reads_10, wn_X3_reads_0, wn_X3_reads_10, wp_c, ex_c, x_nop, x_goto, x_table, x_iinc, x_ldc, x_ldc2, x_iaload, x_faload, x_baload, x_caload, x_iastore, x_fastore, x_bastore, x_castore, x_aastore, x_alen, x_gets, x_new, x_newa, x_anew, x_invs, x_invi, x_invv, x_ret, x_iret, x_lret, x_fret, x_aret, x_lconst, x_fconst0, x_fconst1, x_fconst2, x_dconst0, x_dconst1, x_null, x_iadd, x_isub, x_imul, x_iand, x_ior, x_idiv, x_irem, x_ineg, x_ishl, x_ishr, x_land, x_lor, x_lushr, x_lshl, x_lcmp, x_i2l, x_l2i, x_i2c, x_i2f, x_f2d, x_d2i, x_d2l, x_fadd, x_fsub, x_fmul, x_fdiv, x_dadd, x_dsub, x_dmul, x_ddiv, x_fcmp, x_dcmp, x_dupI, x_dupR, x_dup2, x_popI, x_popR, ldP_I, ldP_L, ldP_F, ldP_D, ldP_R, ldP_N, x_iload, x_iload_n, x_lload, x_lload_n, x_fload, x_fload_n, x_dload, x_dload_n, x_aload, x_aload_n, x_istore, x_istore_n, x_lstore, x_lstore_n, x_fstore, x_fstore_n, x_dstore, x_dstore_n, x_astore, x_astore_n, x_astoreN, x_astore_nN, x_icmp_eq, x_icmp_ne, x_icmp_lt, x_icmp_ge, x_icmp_gt, x_icmp_le, x_if_eq, x_if_ne, x_if_lt, x_if_ge, x_if_gt, x_if_le, x_ifnull, x_ifnullR, x_ifnn, x_ifnnR, x_aaload2, x_cpI, x_cpF, x_bF, x_bD, x_oI, xk_bipush_120, xk_iconst_0, xk_bipush_m6, xk_iconst_1, xk_bipush_80, xk_bipush_48, xk_bipush_57, xk_bipush_10, xk_bipush_64, xk_bipush_46, xk_bipush_97, xk_bipush_122, xk_bipush_119, xk_bipush_61, xk_bipush_59, xk_bipush_8, xk_bipush_33, xk_bipush_126, xk_bipush_m2, xk_bipush_m4, xk_iconst_4, xk_bipush_6, xk_iconst_2, xk_bipush_40, xk_iconst_3, xk_iconst_5, xk_iconst_m1, xk_bipush_m5, xk_bipush_12, xk_bipush_100, xk_bipush_26, xk_sipush_9999, xk_sipush_500, xk_bipush_7, xk_bipush_m126, xk_bipush_127, xk_bipush_23, xk_sipush_m1022, xk_sipush_1023, xk_bipush_52, xk_bipush_m3, xk_sipush_9830, xk_sipush_4800, xk_sipush_983, xk_sipush_480, xk_bipush_13, xk_bipush_18, xk_bipush_9, xk_bipush_32, xg_0_0, xp_0_0, xg_0_1, xp_0_1, xg_0_2, xp_0_2, xg_0_3, xp_0_3, xg_0_4, xp_0_4, xg_0_5, xp_0_5, xg_0_6, xp_0_6, xg_0_7, xp_0_7, xg_0_8, xp_0_8, xg_1_0, xp_1_0, xg_1_1, xp_1_1, xg_1_2, xp_1_2, xg_1_3, xp_1_3, xg_2_0, xp_2_0, xg_2_1, xp_2_1, xg_2_2, xp_2_2, xg_3_0, xp_3_0, xg_3_1, xp_3_1, xg_3_2, xp_3_2, xg_3_3, xp_3_3, xg_3_4, xp_3_4, xg_3_5, xp_3_5, xg_3_6, xp_3_6, xg_3_7, xp_3_7, xg_3_8, xp_3_8, xg_3_9, xp_3_9, xg_3_10, xp_3_10, xg_3_11, xp_3_11, xg_4_0, xp_4_0, xg_4_1, xp_4_1, xg_5_0, xp_5_0, xg_5_1, xp_5_1, xg_6_0, xp_6_0, xg_6_1, xp_6_1, xg_6_2, xp_6_2, xg_6_3, xp_6_3, xg_6_4, xp_6_4, xg_6_5, xp_6_5, xg_7_0, xp_7_0, xg_7_1, xp_7_1, xg_7_2, xp_7_2, xg_7_3, xp_7_3, xg_7_4, xp_7_4, xg_7_5, xp_7_5, xg_7_6, xp_7_6, xg_7_7, xp_7_7, xg_7_8, xp_7_8, xg_7_9, xp_7_9, xg_7_10, xp_7_10, xg_7_11, xp_7_11, xg_7_12, xp_7_12, xg_7_13, xp_7_13, fv0, fv1, fv2, fv3, kI_0, kI_1, stL, wipeL, entLn, entL, List.getElem?_cons_zero, List.getElem?_cons_succ, List.getElem?_nil, List.set_cons_zero, List.set_cons_succ, List.set_nil, List.length_cons, List.length_nil, List.cons_append, List.nil_append, List.replicate, Nat.reduceAdd, Nat.reduceLeDiff, Nat.reduceSub, true_and, and_true, x_callS, x_callSN, x_callI, x_callIN, x_callV0, x_callV1, x_callV2, x_callV3, x_callV4, x_callV5, x_callV6, x_callV7, callP, List.take_succ_cons, List.take_zero, List.take_nil, List.drop_succ_cons, List.drop_zero, List.drop_nil, List.getLast?_singleton, List.getLast?_cons_cons, Option.some.injEq, Value.ref.injEq, exists_eq_left, exists_eq_left', Nat.zero_le, Nat.add_zero, ldcV_f, ldcV_fn, ldcV_l, ldcV_d, Nat.reduceMul, Nat.le_refl, List.reverse_cons, List.reverse_nil, Option.toList, List.map_cons, List.map_nil, List.sum_cons, List.sum_nil, Value.category, tblW_n, tblW_c, Int.cast_ofNat_Int, Int.reduceAdd, Int.reduceToNat, ofI_n, rc_X3_look, rs_X3_look, P_X3_look]
  obtain ⟨T, n, i, hP, hi, ei, h1, h2⟩ := h
  have o0 := hP.1.1
  simp only [o0, ei, sK_stI, sR_stI, sK_stF, sR_stF, sK_stIA, sR_stIA, sK_stFA, sR_stFA, sI_stI, sI_stF, sI_stIA, sI_stFA, sF_stI, sF_stF, sF_stIA, sF_stFA, Nat.left_eq_add, Nat.add_eq_left, Nat.add_left_cancel_iff, Nat.reduceEqDiff, Nat.reduceEqDiff, Nat.succ_ne_self, false_and, and_false, if_false, if_true, nI_succ_sub, Option.some.injEq, Prod.mk.injEq, exists_eq_left', true_and, and_true, retI, retF, retV, retZ1, retZ0, retL, retA, retN, Nat.reduceAdd, Nat.reduceMul, Nat.reduceLT]
  refine ⟨T, n, i, hP, hi, rfl, fun q => ?_, fun q => h2 (fun a => q a.symm)⟩
  have h1 := h1 q.symm
  rw [nI_add, stI_up]
  exact h1
def P_X3_isDigit (as : List Value) (S : SS) (E : Option Value → SS → Prop) : Prop := match as with
  | [.int s] => E (some (.int (bI (nI 48 ≤ s ∧ s ≤ nI 57)))) S
  | _ => False
def Γ_X3_isDigit : List (MI × PT) := []
theorem hΓ_X3_isDigit (l : Launch) (G : Gx) : ∀ q ∈ Γ_X3_isDigit, Ct l G q.1 q.2 := fun _ h => absurd h List.not_mem_nil
set_option maxHeartbeats 1000000 in
theorem ct_X3_isDigit (l : Launch) (G : Gx) : Ct l G mi_X3_isDigit P_X3_isDigit := by
  refine Ct.ofV mo_X3_isDigit (fun as S E h => ?_)
  unfold P_X3_isDigit at h
  split at h
  case h_2 => exact h.elim
  rename_i s
  refine ⟨by simp [entL, mL_X3_isDigit], ?_⟩
  refine wpN_ok (Γ := Γ_X3_isDigit) (hΓ_X3_isDigit l G) so_X3_isDigit 4 _ _ _ _ _ _ ?_
  simp only [mL_X3_isDigit, mT_X3_isDigit, rc_X3_isDigit, rs_X3_isDigit, Γ_X3_isDigit, sg_X3_isDigit_0, sg_X3_isDigit_16, sg_X3_isDigit_17, wn_X3_isDigit_0, wn_X3_isDigit_16, wn_X3_isDigit_17, wp_c, ex_c, x_nop, x_goto, x_table, x_iinc, x_ldc, x_ldc2, x_iaload, x_faload, x_baload, x_caload, x_iastore, x_fastore, x_bastore, x_castore, x_aastore, x_alen, x_gets, x_new, x_newa, x_anew, x_invs, x_invi, x_invv, x_ret, x_iret, x_lret, x_fret, x_aret, x_lconst, x_fconst0, x_fconst1, x_fconst2, x_dconst0, x_dconst1, x_null, x_iadd, x_isub, x_imul, x_iand, x_ior, x_idiv, x_irem, x_ineg, x_ishl, x_ishr, x_land, x_lor, x_lushr, x_lshl, x_lcmp, x_i2l, x_l2i, x_i2c, x_i2f, x_f2d, x_d2i, x_d2l, x_fadd, x_fsub, x_fmul, x_fdiv, x_dadd, x_dsub, x_dmul, x_ddiv, x_fcmp, x_dcmp, x_dupI, x_dupR, x_dup2, x_popI, x_popR, ldP_I, ldP_L, ldP_F, ldP_D, ldP_R, ldP_N, x_iload, x_iload_n, x_lload, x_lload_n, x_fload, x_fload_n, x_dload, x_dload_n, x_aload, x_aload_n, x_istore, x_istore_n, x_lstore, x_lstore_n, x_fstore, x_fstore_n, x_dstore, x_dstore_n, x_astore, x_astore_n, x_astoreN, x_astore_nN, x_icmp_eq, x_icmp_ne, x_icmp_lt, x_icmp_ge, x_icmp_gt, x_icmp_le, x_if_eq, x_if_ne, x_if_lt, x_if_ge, x_if_gt, x_if_le, x_ifnull, x_ifnullR, x_ifnn, x_ifnnR, x_aaload2, x_cpI, x_cpF, x_bF, x_bD, x_oI, xk_bipush_120, xk_iconst_0, xk_bipush_m6, xk_iconst_1, xk_bipush_80, xk_bipush_48, xk_bipush_57, xk_bipush_10, xk_bipush_64, xk_bipush_46, xk_bipush_97, xk_bipush_122, xk_bipush_119, xk_bipush_61, xk_bipush_59, xk_bipush_8, xk_bipush_33, xk_bipush_126, xk_bipush_m2, xk_bipush_m4, xk_iconst_4, xk_bipush_6, xk_iconst_2, xk_bipush_40, xk_iconst_3, xk_iconst_5, xk_iconst_m1, xk_bipush_m5, xk_bipush_12, xk_bipush_100, xk_bipush_26, xk_sipush_9999, xk_sipush_500, xk_bipush_7, xk_bipush_m126, xk_bipush_127, xk_bipush_23, xk_sipush_m1022, xk_sipush_1023, xk_bipush_52, xk_bipush_m3, xk_sipush_9830, xk_sipush_4800, xk_sipush_983, xk_sipush_480, xk_bipush_13, xk_bipush_18, xk_bipush_9, xk_bipush_32, xg_0_0, xp_0_0, xg_0_1, xp_0_1, xg_0_2, xp_0_2, xg_0_3, xp_0_3, xg_0_4, xp_0_4, xg_0_5, xp_0_5, xg_0_6, xp_0_6, xg_0_7, xp_0_7, xg_0_8, xp_0_8, xg_1_0, xp_1_0, xg_1_1, xp_1_1, xg_1_2, xp_1_2, xg_1_3, xp_1_3, xg_2_0, xp_2_0, xg_2_1, xp_2_1, xg_2_2, xp_2_2, xg_3_0, xp_3_0, xg_3_1, xp_3_1, xg_3_2, xp_3_2, xg_3_3, xp_3_3, xg_3_4, xp_3_4, xg_3_5, xp_3_5, xg_3_6, xp_3_6, xg_3_7, xp_3_7, xg_3_8, xp_3_8, xg_3_9, xp_3_9, xg_3_10, xp_3_10, xg_3_11, xp_3_11, xg_4_0, xp_4_0, xg_4_1, xp_4_1, xg_5_0, xp_5_0, xg_5_1, xp_5_1, xg_6_0, xp_6_0, xg_6_1, xp_6_1, xg_6_2, xp_6_2, xg_6_3, xp_6_3, xg_6_4, xp_6_4, xg_6_5, xp_6_5, xg_7_0, xp_7_0, xg_7_1, xp_7_1, xg_7_2, xp_7_2, xg_7_3, xp_7_3, xg_7_4, xp_7_4, xg_7_5, xp_7_5, xg_7_6, xp_7_6, xg_7_7, xp_7_7, xg_7_8, xp_7_8, xg_7_9, xp_7_9, xg_7_10, xp_7_10, xg_7_11, xp_7_11, xg_7_12, xp_7_12, xg_7_13, xp_7_13, fv0, fv1, fv2, fv3, kI_0, kI_1, stL, wipeL, entLn, entL, List.getElem?_cons_zero, List.getElem?_cons_succ, List.getElem?_nil, List.set_cons_zero, List.set_cons_succ, List.set_nil, List.length_cons, List.length_nil, List.cons_append, List.nil_append, List.replicate, Nat.reduceAdd, Nat.reduceLeDiff, Nat.reduceSub, true_and, and_true, x_callS, x_callSN, x_callI, x_callIN, x_callV0, x_callV1, x_callV2, x_callV3, x_callV4, x_callV5, x_callV6, x_callV7, callP, List.take_succ_cons, List.take_zero, List.take_nil, List.drop_succ_cons, List.drop_zero, List.drop_nil, List.getLast?_singleton, List.getLast?_cons_cons, Option.some.injEq, Value.ref.injEq, exists_eq_left, exists_eq_left', Nat.zero_le, Nat.add_zero, ldcV_f, ldcV_fn, ldcV_l, ldcV_d, Nat.reduceMul, Nat.le_refl, List.reverse_cons, List.reverse_nil, Option.toList, List.map_cons, List.map_nil, List.sum_cons, List.sum_nil, Value.category, tblW_n, tblW_c, Int.cast_ofNat_Int, Int.reduceAdd, Int.reduceToNat, ofI_n]
  simp only [sK_stI, sR_stI, sK_stF, sR_stF, sK_stIA, sR_stIA, sK_stFA, sR_stFA, sI_stI, sI_stF, sI_stIA, sI_stFA, sF_stI, sF_stF, sF_stIA, sF_stFA, Nat.left_eq_add, Nat.add_eq_left, Nat.add_left_cancel_iff, Nat.reduceEqDiff, Nat.reduceEqDiff, Nat.succ_ne_self, false_and, and_false, if_false, if_true, nI_succ_sub, Option.some.injEq, Prod.mk.injEq, exists_eq_left', true_and, and_true, retI, retF, retV, retZ1, retZ0, retL, retA, retN, Nat.reduceAdd, Nat.reduceMul, Nat.reduceLT, Int32.not_lt, Int32.not_le]
  unfold bI at h
  grind
def P_X3_isLetter (as : List Value) (S : SS) (E : Option Value → SS → Prop) : Prop := match as with
  | [.int s] => E (some (.int (bI (nI 97 ≤ s ∧ s ≤ nI 122)))) S
  | _ => False
def Γ_X3_isLetter : List (MI × PT) := []
theorem hΓ_X3_isLetter (l : Launch) (G : Gx) : ∀ q ∈ Γ_X3_isLetter, Ct l G q.1 q.2 := fun _ h => absurd h List.not_mem_nil
set_option maxHeartbeats 1000000 in
theorem ct_X3_isLetter (l : Launch) (G : Gx) : Ct l G mi_X3_isLetter P_X3_isLetter := by
  refine Ct.ofV mo_X3_isLetter (fun as S E h => ?_)
  unfold P_X3_isLetter at h
  split at h
  case h_2 => exact h.elim
  rename_i s
  refine ⟨by simp [entL, mL_X3_isLetter], ?_⟩
  refine wpN_ok (Γ := Γ_X3_isLetter) (hΓ_X3_isLetter l G) so_X3_isLetter 4 _ _ _ _ _ _ ?_
  simp only [mL_X3_isLetter, mT_X3_isLetter, rc_X3_isLetter, rs_X3_isLetter, Γ_X3_isLetter, sg_X3_isLetter_0, sg_X3_isLetter_16, sg_X3_isLetter_17, wn_X3_isLetter_0, wn_X3_isLetter_16, wn_X3_isLetter_17, wp_c, ex_c, x_nop, x_goto, x_table, x_iinc, x_ldc, x_ldc2, x_iaload, x_faload, x_baload, x_caload, x_iastore, x_fastore, x_bastore, x_castore, x_aastore, x_alen, x_gets, x_new, x_newa, x_anew, x_invs, x_invi, x_invv, x_ret, x_iret, x_lret, x_fret, x_aret, x_lconst, x_fconst0, x_fconst1, x_fconst2, x_dconst0, x_dconst1, x_null, x_iadd, x_isub, x_imul, x_iand, x_ior, x_idiv, x_irem, x_ineg, x_ishl, x_ishr, x_land, x_lor, x_lushr, x_lshl, x_lcmp, x_i2l, x_l2i, x_i2c, x_i2f, x_f2d, x_d2i, x_d2l, x_fadd, x_fsub, x_fmul, x_fdiv, x_dadd, x_dsub, x_dmul, x_ddiv, x_fcmp, x_dcmp, x_dupI, x_dupR, x_dup2, x_popI, x_popR, ldP_I, ldP_L, ldP_F, ldP_D, ldP_R, ldP_N, x_iload, x_iload_n, x_lload, x_lload_n, x_fload, x_fload_n, x_dload, x_dload_n, x_aload, x_aload_n, x_istore, x_istore_n, x_lstore, x_lstore_n, x_fstore, x_fstore_n, x_dstore, x_dstore_n, x_astore, x_astore_n, x_astoreN, x_astore_nN, x_icmp_eq, x_icmp_ne, x_icmp_lt, x_icmp_ge, x_icmp_gt, x_icmp_le, x_if_eq, x_if_ne, x_if_lt, x_if_ge, x_if_gt, x_if_le, x_ifnull, x_ifnullR, x_ifnn, x_ifnnR, x_aaload2, x_cpI, x_cpF, x_bF, x_bD, x_oI, xk_bipush_120, xk_iconst_0, xk_bipush_m6, xk_iconst_1, xk_bipush_80, xk_bipush_48, xk_bipush_57, xk_bipush_10, xk_bipush_64, xk_bipush_46, xk_bipush_97, xk_bipush_122, xk_bipush_119, xk_bipush_61, xk_bipush_59, xk_bipush_8, xk_bipush_33, xk_bipush_126, xk_bipush_m2, xk_bipush_m4, xk_iconst_4, xk_bipush_6, xk_iconst_2, xk_bipush_40, xk_iconst_3, xk_iconst_5, xk_iconst_m1, xk_bipush_m5, xk_bipush_12, xk_bipush_100, xk_bipush_26, xk_sipush_9999, xk_sipush_500, xk_bipush_7, xk_bipush_m126, xk_bipush_127, xk_bipush_23, xk_sipush_m1022, xk_sipush_1023, xk_bipush_52, xk_bipush_m3, xk_sipush_9830, xk_sipush_4800, xk_sipush_983, xk_sipush_480, xk_bipush_13, xk_bipush_18, xk_bipush_9, xk_bipush_32, xg_0_0, xp_0_0, xg_0_1, xp_0_1, xg_0_2, xp_0_2, xg_0_3, xp_0_3, xg_0_4, xp_0_4, xg_0_5, xp_0_5, xg_0_6, xp_0_6, xg_0_7, xp_0_7, xg_0_8, xp_0_8, xg_1_0, xp_1_0, xg_1_1, xp_1_1, xg_1_2, xp_1_2, xg_1_3, xp_1_3, xg_2_0, xp_2_0, xg_2_1, xp_2_1, xg_2_2, xp_2_2, xg_3_0, xp_3_0, xg_3_1, xp_3_1, xg_3_2, xp_3_2, xg_3_3, xp_3_3, xg_3_4, xp_3_4, xg_3_5, xp_3_5, xg_3_6, xp_3_6, xg_3_7, xp_3_7, xg_3_8, xp_3_8, xg_3_9, xp_3_9, xg_3_10, xp_3_10, xg_3_11, xp_3_11, xg_4_0, xp_4_0, xg_4_1, xp_4_1, xg_5_0, xp_5_0, xg_5_1, xp_5_1, xg_6_0, xp_6_0, xg_6_1, xp_6_1, xg_6_2, xp_6_2, xg_6_3, xp_6_3, xg_6_4, xp_6_4, xg_6_5, xp_6_5, xg_7_0, xp_7_0, xg_7_1, xp_7_1, xg_7_2, xp_7_2, xg_7_3, xp_7_3, xg_7_4, xp_7_4, xg_7_5, xp_7_5, xg_7_6, xp_7_6, xg_7_7, xp_7_7, xg_7_8, xp_7_8, xg_7_9, xp_7_9, xg_7_10, xp_7_10, xg_7_11, xp_7_11, xg_7_12, xp_7_12, xg_7_13, xp_7_13, fv0, fv1, fv2, fv3, kI_0, kI_1, stL, wipeL, entLn, entL, List.getElem?_cons_zero, List.getElem?_cons_succ, List.getElem?_nil, List.set_cons_zero, List.set_cons_succ, List.set_nil, List.length_cons, List.length_nil, List.cons_append, List.nil_append, List.replicate, Nat.reduceAdd, Nat.reduceLeDiff, Nat.reduceSub, true_and, and_true, x_callS, x_callSN, x_callI, x_callIN, x_callV0, x_callV1, x_callV2, x_callV3, x_callV4, x_callV5, x_callV6, x_callV7, callP, List.take_succ_cons, List.take_zero, List.take_nil, List.drop_succ_cons, List.drop_zero, List.drop_nil, List.getLast?_singleton, List.getLast?_cons_cons, Option.some.injEq, Value.ref.injEq, exists_eq_left, exists_eq_left', Nat.zero_le, Nat.add_zero, ldcV_f, ldcV_fn, ldcV_l, ldcV_d, Nat.reduceMul, Nat.le_refl, List.reverse_cons, List.reverse_nil, Option.toList, List.map_cons, List.map_nil, List.sum_cons, List.sum_nil, Value.category, tblW_n, tblW_c, Int.cast_ofNat_Int, Int.reduceAdd, Int.reduceToNat, ofI_n]
  simp only [sK_stI, sR_stI, sK_stF, sR_stF, sK_stIA, sR_stIA, sK_stFA, sR_stFA, sI_stI, sI_stF, sI_stIA, sI_stFA, sF_stI, sF_stF, sF_stIA, sF_stFA, Nat.left_eq_add, Nat.add_eq_left, Nat.add_left_cancel_iff, Nat.reduceEqDiff, Nat.reduceEqDiff, Nat.succ_ne_self, false_and, and_false, if_false, if_true, nI_succ_sub, Option.some.injEq, Prod.mk.injEq, exists_eq_left', true_and, and_true, retI, retF, retV, retZ1, retZ0, retL, retA, retN, Nat.reduceAdd, Nat.reduceMul, Nat.reduceLT, Int32.not_lt, Int32.not_le]
  unfold bI at h
  grind
abbrev dgP (T : Nat → Nat) (n i : Nat) : Prop := 48 ≤ chP T n i ∧ chP T n i ≤ 57
abbrev ltP (T : Nat → Nat) (n i : Nat) : Prop := 97 ≤ chP T n i ∧ chP T n i ≤ 122
theorem dgP_lt {T : Nat → Nat} {n i : Nat} (h : dgP T n i) : i < n := by
  unfold dgP chP at h
  split at h <;> omega
theorem ltP_lt {T : Nat → Nat} {n i : Nat} (h : ltP T n i) : i < n := by
  unfold ltP chP at h
  split at h <;> omega
def P_X3_readFirstDigit (as : List Value) (S : SS) (E : Option Value → SS → Prop) : Prop := match as with
  | [.ref o] => ∃ T n i, PO S o T n ∧ i ≤ n ∧ sI S o 7 = nI i ∧ (dgP T n i → E (some (.int (nI 1))) (stIA S o (upV (upV (sI S o) 9 (nI (chP T n i - 48))) 7 (nI (i + 1))))) ∧ (¬ dgP T n i → E (some (.int (nI 0))) S)
  | _ => False
def Γ_X3_readFirstDigit : List (MI × PT) := [(mi_X3_look, P_X3_look), (mi_X3_isDigit, P_X3_isDigit)]
theorem hΓ_X3_readFirstDigit (l : Launch) (G : Gx) : ∀ q ∈ Γ_X3_readFirstDigit, Ct l G q.1 q.2 := List.forall_mem_cons.mpr ⟨ct_X3_look l G, List.forall_mem_cons.mpr ⟨ct_X3_isDigit l G, fun _ h => absurd h List.not_mem_nil⟩⟩
set_option maxHeartbeats 1000000 in
theorem ct_X3_readFirstDigit (l : Launch) (G : Gx) : Ct l G mi_X3_readFirstDigit P_X3_readFirstDigit := by
  refine Ct.ofV mo_X3_readFirstDigit (fun as S E h => ?_)
  unfold P_X3_readFirstDigit at h
  split at h
  case h_2 => exact h.elim
  rename_i o
  refine ⟨by simp [entL, mL_X3_readFirstDigit], ?_⟩
  refine wpN_ok (Γ := Γ_X3_readFirstDigit) (hΓ_X3_readFirstDigit l G) so_X3_readFirstDigit 4 _ _ _ _ _ _ ?_
  simp only [mL_X3_readFirstDigit, mT_X3_readFirstDigit, rc_X3_readFirstDigit, rs_X3_readFirstDigit, Γ_X3_readFirstDigit, sg_X3_readFirstDigit_0, sg_X3_readFirstDigit_12, wn_X3_readFirstDigit_0, wn_X3_readFirstDigit_12, wp_c, ex_c, x_nop, x_goto, x_table, x_iinc, x_ldc, x_ldc2, x_iaload, x_faload, x_baload, x_caload, x_iastore, x_fastore, x_bastore, x_castore, x_aastore, x_alen, x_gets, x_new, x_newa, x_anew, x_invs, x_invi, x_invv, x_ret, x_iret, x_lret, x_fret, x_aret, x_lconst, x_fconst0, x_fconst1, x_fconst2, x_dconst0, x_dconst1, x_null, x_iadd, x_isub, x_imul, x_iand, x_ior, x_idiv, x_irem, x_ineg, x_ishl, x_ishr, x_land, x_lor, x_lushr, x_lshl, x_lcmp, x_i2l, x_l2i, x_i2c, x_i2f, x_f2d, x_d2i, x_d2l, x_fadd, x_fsub, x_fmul, x_fdiv, x_dadd, x_dsub, x_dmul, x_ddiv, x_fcmp, x_dcmp, x_dupI, x_dupR, x_dup2, x_popI, x_popR, ldP_I, ldP_L, ldP_F, ldP_D, ldP_R, ldP_N, x_iload, x_iload_n, x_lload, x_lload_n, x_fload, x_fload_n, x_dload, x_dload_n, x_aload, x_aload_n, x_istore, x_istore_n, x_lstore, x_lstore_n, x_fstore, x_fstore_n, x_dstore, x_dstore_n, x_astore, x_astore_n, x_astoreN, x_astore_nN, x_icmp_eq, x_icmp_ne, x_icmp_lt, x_icmp_ge, x_icmp_gt, x_icmp_le, x_if_eq, x_if_ne, x_if_lt, x_if_ge, x_if_gt, x_if_le, x_ifnull, x_ifnullR, x_ifnn, x_ifnnR, x_aaload2, x_cpI, x_cpF, x_bF, x_bD, x_oI, xk_bipush_120, xk_iconst_0, xk_bipush_m6, xk_iconst_1, xk_bipush_80, xk_bipush_48, xk_bipush_57, xk_bipush_10, xk_bipush_64, xk_bipush_46, xk_bipush_97, xk_bipush_122, xk_bipush_119, xk_bipush_61, xk_bipush_59, xk_bipush_8, xk_bipush_33, xk_bipush_126, xk_bipush_m2, xk_bipush_m4, xk_iconst_4, xk_bipush_6, xk_iconst_2, xk_bipush_40, xk_iconst_3, xk_iconst_5, xk_iconst_m1, xk_bipush_m5, xk_bipush_12, xk_bipush_100, xk_bipush_26, xk_sipush_9999, xk_sipush_500, xk_bipush_7, xk_bipush_m126, xk_bipush_127, xk_bipush_23, xk_sipush_m1022, xk_sipush_1023, xk_bipush_52, xk_bipush_m3, xk_sipush_9830, xk_sipush_4800, xk_sipush_983, xk_sipush_480, xk_bipush_13, xk_bipush_18, xk_bipush_9, xk_bipush_32, xg_0_0, xp_0_0, xg_0_1, xp_0_1, xg_0_2, xp_0_2, xg_0_3, xp_0_3, xg_0_4, xp_0_4, xg_0_5, xp_0_5, xg_0_6, xp_0_6, xg_0_7, xp_0_7, xg_0_8, xp_0_8, xg_1_0, xp_1_0, xg_1_1, xp_1_1, xg_1_2, xp_1_2, xg_1_3, xp_1_3, xg_2_0, xp_2_0, xg_2_1, xp_2_1, xg_2_2, xp_2_2, xg_3_0, xp_3_0, xg_3_1, xp_3_1, xg_3_2, xp_3_2, xg_3_3, xp_3_3, xg_3_4, xp_3_4, xg_3_5, xp_3_5, xg_3_6, xp_3_6, xg_3_7, xp_3_7, xg_3_8, xp_3_8, xg_3_9, xp_3_9, xg_3_10, xp_3_10, xg_3_11, xp_3_11, xg_4_0, xp_4_0, xg_4_1, xp_4_1, xg_5_0, xp_5_0, xg_5_1, xp_5_1, xg_6_0, xp_6_0, xg_6_1, xp_6_1, xg_6_2, xp_6_2, xg_6_3, xp_6_3, xg_6_4, xp_6_4, xg_6_5, xp_6_5, xg_7_0, xp_7_0, xg_7_1, xp_7_1, xg_7_2, xp_7_2, xg_7_3, xp_7_3, xg_7_4, xp_7_4, xg_7_5, xp_7_5, xg_7_6, xp_7_6, xg_7_7, xp_7_7, xg_7_8, xp_7_8, xg_7_9, xp_7_9, xg_7_10, xp_7_10, xg_7_11, xp_7_11, xg_7_12, xp_7_12, xg_7_13, xp_7_13, fv0, fv1, fv2, fv3, kI_0, kI_1, stL, wipeL, entLn, entL, List.getElem?_cons_zero, List.getElem?_cons_succ, List.getElem?_nil, List.set_cons_zero, List.set_cons_succ, List.set_nil, List.length_cons, List.length_nil, List.cons_append, List.nil_append, List.replicate, Nat.reduceAdd, Nat.reduceLeDiff, Nat.reduceSub, true_and, and_true, x_callS, x_callSN, x_callI, x_callIN, x_callV0, x_callV1, x_callV2, x_callV3, x_callV4, x_callV5, x_callV6, x_callV7, callP, List.take_succ_cons, List.take_zero, List.take_nil, List.drop_succ_cons, List.drop_zero, List.drop_nil, List.getLast?_singleton, List.getLast?_cons_cons, Option.some.injEq, Value.ref.injEq, exists_eq_left, exists_eq_left', Nat.zero_le, Nat.add_zero, ldcV_f, ldcV_fn, ldcV_l, ldcV_d, Nat.reduceMul, Nat.le_refl, List.reverse_cons, List.reverse_nil, Option.toList, List.map_cons, List.map_nil, List.sum_cons, List.sum_nil, Value.category, tblW_n, tblW_c, Int.cast_ofNat_Int, Int.reduceAdd, Int.reduceToNat, ofI_n, rc_X3_look, rs_X3_look, P_X3_look, rc_X3_isDigit, rs_X3_isDigit, P_X3_isDigit]
  obtain ⟨T, n, i, hP, hi, ei, h1, h2⟩ := h
  have o0 := hP.1.1
  have hc := chP_lt hP i
  simp only [o0, ei, bI_0, sK_stI, sR_stI, sK_stF, sR_stF, sK_stIA, sR_stIA, sK_stFA, sR_stFA, sI_stI, sI_stF, sI_stIA, sI_stFA, sF_stI, sF_stF, sF_stIA, sF_stFA, Nat.left_eq_add, Nat.add_eq_left, Nat.add_left_cancel_iff, Nat.reduceEqDiff, Nat.reduceEqDiff, Nat.succ_ne_self, false_and, and_false, if_false, if_true, nI_succ_sub, Option.some.injEq, Prod.mk.injEq, exists_eq_left', true_and, and_true, retI, retF, retV, retZ1, retZ0, retL, retA, retN, Nat.reduceAdd, Nat.reduceMul, Nat.reduceLT]
  refine ⟨T, n, i, hP, hi, rfl, ?_⟩
  simp (disch := omega) only [nlt0, nge0, neq0, ngt0, nle0, nI_ltI, nI_leI, nI_eq, nI_cl, in_nI, false_implies, true_implies, not_false_eq_true, not_true_eq_false, and_true, true_and, nI_add, pk_mul, implies_true, not_lt0]
  refine ⟨fun q => ⟨T, n, i, hP, hi, rfl, ?_⟩, fun q => h2 (fun a => q (fun b => b a))⟩
  have q : dgP T n i := Decidable.not_not.mp q
  have h1 := h1 q
  simp only [pk_sub q.1, stI_up, stIA_stIA, sI_stIA, if_true]
  exact h1
theorem upAt (f : Nat → Int32) (k : Nat) (v : Int32) (j : Nat) : upV f k v j = if j = k then v else f j := rfl
theorem up4 (f : Nat → Int32) (a b c d : Int32) : upV (upV (upV (upV f 8 a) 7 b) 8 c) 7 d = upV (upV f 8 c) 7 d := by
  funext j
  unfold upV
  by_cases h7 : j = 7
  · simp [h7]
  · by_cases h8 : j = 8
    · simp [h8]
    · simp [h7, h8]
/-- a number: whether there is one, its value, where it ends -/
def nmP (T : Nat → Nat) (n i : Nat) : Bool × Nat × Nat := if dgP T n i then (if 48 < chP T n i ∧ dgP T n (i + 1) then (true, 10 * (chP T n i - 48) + (chP T n (i + 1) - 48), i + 2) else (true, chP T n i - 48, i + 1)) else (false, 0, i)
def P_X3_readNumber (as : List Value) (S : SS) (E : Option Value → SS → Prop) : Prop := match as with
  | [.ref o] => ∃ T n i, PO S o T n ∧ i ≤ n ∧ sI S o 7 = nI i ∧ ((nmP T n i).1 = true → E (some (.int (nI 1))) (stIA S o (upV (upV (sI S o) 8 (nI (nmP T n i).2.1)) 7 (nI (nmP T n i).2.2)))) ∧ ((nmP T n i).1 = false → E (some (.int (nI 0))) S)
  | _ => False
def Γ_X3_readNumber : List (MI × PT) := [(mi_X3_look, P_X3_look), (mi_X3_isDigit, P_X3_isDigit)]
theorem hΓ_X3_readNumber (l : Launch) (G : Gx) : ∀ q ∈ Γ_X3_readNumber, Ct l G q.1 q.2 := List.forall_mem_cons.mpr ⟨ct_X3_look l G, List.forall_mem_cons.mpr ⟨ct_X3_isDigit l G, fun _ h => absurd h List.not_mem_nil⟩⟩
set_option maxHeartbeats 1000000 in
theorem ct_X3_readNumber (l : Launch) (G : Gx) : Ct l G mi_X3_readNumber P_X3_readNumber := by
  refine Ct.ofV mo_X3_readNumber (fun as S E h => ?_)
  unfold P_X3_readNumber at h
  split at h
  case h_2 => exact h.elim
  rename_i o
  refine ⟨by simp [entL, mL_X3_readNumber], ?_⟩
  refine wpN_ok (Γ := Γ_X3_readNumber) (hΓ_X3_readNumber l G) so_X3_readNumber 5 _ _ _ _ _ _ ?_
  simp only [mL_X3_readNumber, mT_X3_readNumber, rc_X3_readNumber, rs_X3_readNumber, Γ_X3_readNumber, sg_X3_readNumber_0, sg_X3_readNumber_12, sg_X3_readNumber_79, wn_X3_readNumber_0, wn_X3_readNumber_12, wn_X3_readNumber_79, wp_c, ex_c, x_nop, x_goto, x_table, x_iinc, x_ldc, x_ldc2, x_iaload, x_faload, x_baload, x_caload, x_iastore, x_fastore, x_bastore, x_castore, x_aastore, x_alen, x_gets, x_new, x_newa, x_anew, x_invs, x_invi, x_invv, x_ret, x_iret, x_lret, x_fret, x_aret, x_lconst, x_fconst0, x_fconst1, x_fconst2, x_dconst0, x_dconst1, x_null, x_iadd, x_isub, x_imul, x_iand, x_ior, x_idiv, x_irem, x_ineg, x_ishl, x_ishr, x_land, x_lor, x_lushr, x_lshl, x_lcmp, x_i2l, x_l2i, x_i2c, x_i2f, x_f2d, x_d2i, x_d2l, x_fadd, x_fsub, x_fmul, x_fdiv, x_dadd, x_dsub, x_dmul, x_ddiv, x_fcmp, x_dcmp, x_dupI, x_dupR, x_dup2, x_popI, x_popR, ldP_I, ldP_L, ldP_F, ldP_D, ldP_R, ldP_N, x_iload, x_iload_n, x_lload, x_lload_n, x_fload, x_fload_n, x_dload, x_dload_n, x_aload, x_aload_n, x_istore, x_istore_n, x_lstore, x_lstore_n, x_fstore, x_fstore_n, x_dstore, x_dstore_n, x_astore, x_astore_n, x_astoreN, x_astore_nN, x_icmp_eq, x_icmp_ne, x_icmp_lt, x_icmp_ge, x_icmp_gt, x_icmp_le, x_if_eq, x_if_ne, x_if_lt, x_if_ge, x_if_gt, x_if_le, x_ifnull, x_ifnullR, x_ifnn, x_ifnnR, x_aaload2, x_cpI, x_cpF, x_bF, x_bD, x_oI, xk_bipush_120, xk_iconst_0, xk_bipush_m6, xk_iconst_1, xk_bipush_80, xk_bipush_48, xk_bipush_57, xk_bipush_10, xk_bipush_64, xk_bipush_46, xk_bipush_97, xk_bipush_122, xk_bipush_119, xk_bipush_61, xk_bipush_59, xk_bipush_8, xk_bipush_33, xk_bipush_126, xk_bipush_m2, xk_bipush_m4, xk_iconst_4, xk_bipush_6, xk_iconst_2, xk_bipush_40, xk_iconst_3, xk_iconst_5, xk_iconst_m1, xk_bipush_m5, xk_bipush_12, xk_bipush_100, xk_bipush_26, xk_sipush_9999, xk_sipush_500, xk_bipush_7, xk_bipush_m126, xk_bipush_127, xk_bipush_23, xk_sipush_m1022, xk_sipush_1023, xk_bipush_52, xk_bipush_m3, xk_sipush_9830, xk_sipush_4800, xk_sipush_983, xk_sipush_480, xk_bipush_13, xk_bipush_18, xk_bipush_9, xk_bipush_32, xg_0_0, xp_0_0, xg_0_1, xp_0_1, xg_0_2, xp_0_2, xg_0_3, xp_0_3, xg_0_4, xp_0_4, xg_0_5, xp_0_5, xg_0_6, xp_0_6, xg_0_7, xp_0_7, xg_0_8, xp_0_8, xg_1_0, xp_1_0, xg_1_1, xp_1_1, xg_1_2, xp_1_2, xg_1_3, xp_1_3, xg_2_0, xp_2_0, xg_2_1, xp_2_1, xg_2_2, xp_2_2, xg_3_0, xp_3_0, xg_3_1, xp_3_1, xg_3_2, xp_3_2, xg_3_3, xp_3_3, xg_3_4, xp_3_4, xg_3_5, xp_3_5, xg_3_6, xp_3_6, xg_3_7, xp_3_7, xg_3_8, xp_3_8, xg_3_9, xp_3_9, xg_3_10, xp_3_10, xg_3_11, xp_3_11, xg_4_0, xp_4_0, xg_4_1, xp_4_1, xg_5_0, xp_5_0, xg_5_1, xp_5_1, xg_6_0, xp_6_0, xg_6_1, xp_6_1, xg_6_2, xp_6_2, xg_6_3, xp_6_3, xg_6_4, xp_6_4, xg_6_5, xp_6_5, xg_7_0, xp_7_0, xg_7_1, xp_7_1, xg_7_2, xp_7_2, xg_7_3, xp_7_3, xg_7_4, xp_7_4, xg_7_5, xp_7_5, xg_7_6, xp_7_6, xg_7_7, xp_7_7, xg_7_8, xp_7_8, xg_7_9, xp_7_9, xg_7_10, xp_7_10, xg_7_11, xp_7_11, xg_7_12, xp_7_12, xg_7_13, xp_7_13, fv0, fv1, fv2, fv3, kI_0, kI_1, stL, wipeL, entLn, entL, List.getElem?_cons_zero, List.getElem?_cons_succ, List.getElem?_nil, List.set_cons_zero, List.set_cons_succ, List.set_nil, List.length_cons, List.length_nil, List.cons_append, List.nil_append, List.replicate, Nat.reduceAdd, Nat.reduceLeDiff, Nat.reduceSub, true_and, and_true, x_callS, x_callSN, x_callI, x_callIN, x_callV0, x_callV1, x_callV2, x_callV3, x_callV4, x_callV5, x_callV6, x_callV7, callP, List.take_succ_cons, List.take_zero, List.take_nil, List.drop_succ_cons, List.drop_zero, List.drop_nil, List.getLast?_singleton, List.getLast?_cons_cons, Option.some.injEq, Value.ref.injEq, exists_eq_left, exists_eq_left', Nat.zero_le, Nat.add_zero, ldcV_f, ldcV_fn, ldcV_l, ldcV_d, Nat.reduceMul, Nat.le_refl, List.reverse_cons, List.reverse_nil, Option.toList, List.map_cons, List.map_nil, List.sum_cons, List.sum_nil, Value.category, tblW_n, tblW_c, Int.cast_ofNat_Int, Int.reduceAdd, Int.reduceToNat, ofI_n, rc_X3_look, rs_X3_look, P_X3_look, rc_X3_isDigit, rs_X3_isDigit, P_X3_isDigit]
  obtain ⟨T, n, i, hP, hi, ei, h1, h2⟩ := h
  have o0 := hP.1.1
  have hc := chP_lt hP i
  have hc2 := chP_lt hP (i + 1)
  simp only [o0, ei, bI_0, sK_stI, sR_stI, sK_stF, sR_stF, sK_stIA, sR_stIA, sK_stFA, sR_stFA, sI_stI, sI_stF, sI_stIA, sI_stFA, sF_stI, sF_stF, sF_stIA, sF_stFA, Nat.left_eq_add, Nat.add_eq_left, Nat.add_left_cancel_iff, Nat.reduceEqDiff, Nat.reduceEqDiff, Nat.succ_ne_self, false_and, and_false, if_false, if_true, nI_succ_sub, Option.some.injEq, Prod.mk.injEq, exists_eq_left', true_and, and_true, retI, retF, retV, retZ1, retZ0, retL, retA, retN, Nat.reduceAdd, Nat.reduceMul, Nat.reduceLT]
  refine ⟨T, n, i, hP, hi, rfl, ?_⟩
  simp (disch := omega) only [nlt0, nge0, neq0, ngt0, nle0, nI_ltI, nI_leI, nI_eq, nI_cl, in_nI, false_implies, true_implies, not_false_eq_true, not_true_eq_false, and_true, true_and, nI_add, pk_mul, implies_true, not_lt0]
  refine ⟨fun q => ⟨T, n, i, hP, hi, rfl, ?_⟩, fun q => h2 (by unfold nmP; rw [if_neg (show ¬ dgP T n i from fun a => q (fun b => b a))])⟩
  have q : dgP T n i := Decidable.not_not.mp q
  have hin := dgP_lt q
  rw [pk_sub q.1]
  simp (disch := omega) only [nlt0, nge0, neq0, ngt0, nle0, nI_ltI, nI_leI, nI_eq, nI_cl, in_nI, false_implies, true_implies, not_false_eq_true, not_true_eq_false, and_true, true_and, nI_add, pk_mul, implies_true, not_lt0, stI_up, stIA_stIA, sI_stIA, if_true]
  refine ⟨fun c => ?_, fun c => ⟨T, n, i + 1, hP.st _, by omega, rfl, ?_⟩⟩
  · have e : nmP T n i = (true, chP T n i - 48, i + 1) := by
      unfold nmP
      rw [if_pos q, if_neg (by omega)]
    rw [e] at h1
    exact h1 rfl
  simp (disch := omega) only [nlt0, nge0, neq0, ngt0, nle0, nI_ltI, nI_leI, nI_eq, nI_cl, in_nI, false_implies, true_implies, not_false_eq_true, not_true_eq_false, and_true, true_and, nI_add, pk_mul, implies_true, not_lt0]
  refine ⟨fun c2 => ?_, fun c2 => ⟨T, n, i + 1, hP.st _, by omega, rfl, ?_⟩⟩
  · have e : nmP T n i = (true, chP T n i - 48, i + 1) := by
      unfold nmP
      rw [if_pos q, if_neg (fun a => c2 a.2)]
    rw [e] at h1
    exact h1 rfl
  · have c2 : dgP T n (i + 1) := Decidable.not_not.mp c2
    have c1 := c2.1
    have e : nmP T n i = (true, 10 * (chP T n i - 48) + (chP T n (i + 1) - 48), i + 2) := by
      unfold nmP
      rw [if_pos q, if_pos ⟨by omega, c2⟩]
    rw [e] at h1
    rw [pk_sub (by omega), up4, show 10 * (chP T n i - 48) + chP T n (i + 1) - 48 = 10 * (chP T n i - 48) + (chP T n (i + 1) - 48) by omega]
    exact h1 rfl
def P_X3_readFirstNumber (as : List Value) (S : SS) (E : Option Value → SS → Prop) : Prop := match as with
  | [.ref o] => ∃ T n i, PO S o T n ∧ i ≤ n ∧ sI S o 7 = nI i ∧ ((nmP T n i).1 = true → E (some (.int (nI 1))) (stIA S o (upV (upV (upV (sI S o) 8 (nI (nmP T n i).2.1)) 7 (nI (nmP T n i).2.2)) 9 (nI (nmP T n i).2.1)))) ∧ ((nmP T n i).1 = false → ∀ v, E (some (.int (nI 0))) (stIA S o (upV (sI S o) 9 v)))
  | _ => False
def Γ_X3_readFirstNumber : List (MI × PT) := [(mi_X3_readNumber, P_X3_readNumber)]
theorem hΓ_X3_readFirstNumber (l : Launch) (G : Gx) : ∀ q ∈ Γ_X3_readFirstNumber, Ct l G q.1 q.2 := List.forall_mem_cons.mpr ⟨ct_X3_readNumber l G, fun _ h => absurd h List.not_mem_nil⟩
set_option maxHeartbeats 1000000 in
theorem ct_X3_readFirstNumber (l : Launch) (G : Gx) : Ct l G mi_X3_readFirstNumber P_X3_readFirstNumber := by
  refine Ct.ofV mo_X3_readFirstNumber (fun as S E h => ?_)
  unfold P_X3_readFirstNumber at h
  split at h
  case h_2 => exact h.elim
  rename_i o
  refine ⟨by simp [entL, mL_X3_readFirstNumber], ?_⟩
  refine wpN_ok (Γ := Γ_X3_readFirstNumber) (hΓ_X3_readFirstNumber l G) so_X3_readFirstNumber 5 _ _ _ _ _ _ ?_
  simp only [mL_X3_readFirstNumber, mT_X3_readFirstNumber, rc_X3_readFirstNumber, rs_X3_readFirstNumber, Γ_X3_readFirstNumber, sg_X3_readFirstNumber_0, wn_X3_readFirstNumber_0, wp_c, ex_c, x_nop, x_goto, x_table, x_iinc, x_ldc, x_ldc2, x_iaload, x_faload, x_baload, x_caload, x_iastore, x_fastore, x_bastore, x_castore, x_aastore, x_alen, x_gets, x_new, x_newa, x_anew, x_invs, x_invi, x_invv, x_ret, x_iret, x_lret, x_fret, x_aret, x_lconst, x_fconst0, x_fconst1, x_fconst2, x_dconst0, x_dconst1, x_null, x_iadd, x_isub, x_imul, x_iand, x_ior, x_idiv, x_irem, x_ineg, x_ishl, x_ishr, x_land, x_lor, x_lushr, x_lshl, x_lcmp, x_i2l, x_l2i, x_i2c, x_i2f, x_f2d, x_d2i, x_d2l, x_fadd, x_fsub, x_fmul, x_fdiv, x_dadd, x_dsub, x_dmul, x_ddiv, x_fcmp, x_dcmp, x_dupI, x_dupR, x_dup2, x_popI, x_popR, ldP_I, ldP_L, ldP_F, ldP_D, ldP_R, ldP_N, x_iload, x_iload_n, x_lload, x_lload_n, x_fload, x_fload_n, x_dload, x_dload_n, x_aload, x_aload_n, x_istore, x_istore_n, x_lstore, x_lstore_n, x_fstore, x_fstore_n, x_dstore, x_dstore_n, x_astore, x_astore_n, x_astoreN, x_astore_nN, x_icmp_eq, x_icmp_ne, x_icmp_lt, x_icmp_ge, x_icmp_gt, x_icmp_le, x_if_eq, x_if_ne, x_if_lt, x_if_ge, x_if_gt, x_if_le, x_ifnull, x_ifnullR, x_ifnn, x_ifnnR, x_aaload2, x_cpI, x_cpF, x_bF, x_bD, x_oI, xk_bipush_120, xk_iconst_0, xk_bipush_m6, xk_iconst_1, xk_bipush_80, xk_bipush_48, xk_bipush_57, xk_bipush_10, xk_bipush_64, xk_bipush_46, xk_bipush_97, xk_bipush_122, xk_bipush_119, xk_bipush_61, xk_bipush_59, xk_bipush_8, xk_bipush_33, xk_bipush_126, xk_bipush_m2, xk_bipush_m4, xk_iconst_4, xk_bipush_6, xk_iconst_2, xk_bipush_40, xk_iconst_3, xk_iconst_5, xk_iconst_m1, xk_bipush_m5, xk_bipush_12, xk_bipush_100, xk_bipush_26, xk_sipush_9999, xk_sipush_500, xk_bipush_7, xk_bipush_m126, xk_bipush_127, xk_bipush_23, xk_sipush_m1022, xk_sipush_1023, xk_bipush_52, xk_bipush_m3, xk_sipush_9830, xk_sipush_4800, xk_sipush_983, xk_sipush_480, xk_bipush_13, xk_bipush_18, xk_bipush_9, xk_bipush_32, xg_0_0, xp_0_0, xg_0_1, xp_0_1, xg_0_2, xp_0_2, xg_0_3, xp_0_3, xg_0_4, xp_0_4, xg_0_5, xp_0_5, xg_0_6, xp_0_6, xg_0_7, xp_0_7, xg_0_8, xp_0_8, xg_1_0, xp_1_0, xg_1_1, xp_1_1, xg_1_2, xp_1_2, xg_1_3, xp_1_3, xg_2_0, xp_2_0, xg_2_1, xp_2_1, xg_2_2, xp_2_2, xg_3_0, xp_3_0, xg_3_1, xp_3_1, xg_3_2, xp_3_2, xg_3_3, xp_3_3, xg_3_4, xp_3_4, xg_3_5, xp_3_5, xg_3_6, xp_3_6, xg_3_7, xp_3_7, xg_3_8, xp_3_8, xg_3_9, xp_3_9, xg_3_10, xp_3_10, xg_3_11, xp_3_11, xg_4_0, xp_4_0, xg_4_1, xp_4_1, xg_5_0, xp_5_0, xg_5_1, xp_5_1, xg_6_0, xp_6_0, xg_6_1, xp_6_1, xg_6_2, xp_6_2, xg_6_3, xp_6_3, xg_6_4, xp_6_4, xg_6_5, xp_6_5, xg_7_0, xp_7_0, xg_7_1, xp_7_1, xg_7_2, xp_7_2, xg_7_3, xp_7_3, xg_7_4, xp_7_4, xg_7_5, xp_7_5, xg_7_6, xp_7_6, xg_7_7, xp_7_7, xg_7_8, xp_7_8, xg_7_9, xp_7_9, xg_7_10, xp_7_10, xg_7_11, xp_7_11, xg_7_12, xp_7_12, xg_7_13, xp_7_13, fv0, fv1, fv2, fv3, kI_0, kI_1, stL, wipeL, entLn, entL, List.getElem?_cons_zero, List.getElem?_cons_succ, List.getElem?_nil, List.set_cons_zero, List.set_cons_succ, List.set_nil, List.length_cons, List.length_nil, List.cons_append, List.nil_append, List.replicate, Nat.reduceAdd, Nat.reduceLeDiff, Nat.reduceSub, true_and, and_true, x_callS, x_callSN, x_callI, x_callIN, x_callV0, x_callV1, x_callV2, x_callV3, x_callV4, x_callV5, x_callV6, x_callV7, callP, List.take_succ_cons, List.take_zero, List.take_nil, List.drop_succ_cons, List.drop_zero, List.drop_nil, List.getLast?_singleton, List.getLast?_cons_cons, Option.some.injEq, Value.ref.injEq, exists_eq_left, exists_eq_left', Nat.zero_le, Nat.add_zero, ldcV_f, ldcV_fn, ldcV_l, ldcV_d, Nat.reduceMul, Nat.le_refl, List.reverse_cons, List.reverse_nil, Option.toList, List.map_cons, List.map_nil, List.sum_cons, List.sum_nil, Value.category, tblW_n, tblW_c, Int.cast_ofNat_Int, Int.reduceAdd, Int.reduceToNat, ofI_n, rc_X3_readNumber, rs_X3_readNumber, P_X3_readNumber]
  obtain ⟨T, n, i, hP, hi, ei, h1, h2⟩ := h
  have o0 := hP.1.1
  simp only [o0, ei, bI_0, sK_stI, sR_stI, sK_stF, sR_stF, sK_stIA, sR_stIA, sK_stFA, sR_stFA, sI_stI, sI_stF, sI_stIA, sI_stFA, sF_stI, sF_stF, sF_stIA, sF_stFA, Nat.left_eq_add, Nat.add_eq_left, Nat.add_left_cancel_iff, Nat.reduceEqDiff, Nat.reduceEqDiff, Nat.succ_ne_self, false_and, and_false, if_false, if_true, nI_succ_sub, Option.some.injEq, Prod.mk.injEq, exists_eq_left', true_and, and_true, retI, retF, retV, retZ1, retZ0, retL, retA, retN, Nat.reduceAdd, Nat.reduceMul, Nat.reduceLT]
  refine ⟨T, n, i, hP, hi, rfl, fun q => ?_, fun q => ?_⟩
  · have h1 := h1 q
    simp only [stI_up, stIA_stIA, sI_stIA, if_true]
    exact h1
  · simp only [stI_up]
    exact h2 q _
/-- a place: whether there is one, row, column, where it ends -/
def plP (T : Nat → Nat) (n i : Nat) : Bool × Nat × Nat × Nat :=
  if chP T n i = 64 then (if (nmP T n (i + 1)).1 = true then (if chP T n (nmP T n (i + 1)).2.2 = 46 then ((nmP T n ((nmP T n (i + 1)).2.2 + 1)).1, (nmP T n (i + 1)).2.1, (nmP T n ((nmP T n (i + 1)).2.2 + 1)).2.1, (nmP T n ((nmP T n (i + 1)).2.2 + 1)).2.2) else (false, 0, 0, (nmP T n (i + 1)).2.2)) else (false, 0, 0, i + 1)) else (false, 0, 0, i)
theorem nmP_le {T : Nat → Nat} {n i : Nat} (hi : i ≤ n) : i ≤ (nmP T n i).2.2 ∧ (nmP T n i).2.2 ≤ n ∧ ((nmP T n i).1 = false → (nmP T n i).2.2 = i) ∧ ((nmP T n i).1 = true → i < (nmP T n i).2.2) ∧ (nmP T n i).2.1 ≤ 99 := by
  unfold nmP
  split
  · rename_i h
    have h2 := dgP_lt h
    unfold dgP at h
    split
    · rename_i h3
      have h4 := dgP_lt h3.2
      have h5 := h3.2
      unfold dgP at h5
      exact ⟨by simp, by show i + 2 ≤ n; omega, fun a => by simp at a, fun _ => by simp, by show 10 * (chP T n i - 48) + (chP T n (i + 1) - 48) ≤ 99; omega⟩
    · exact ⟨by simp, by show i + 1 ≤ n; omega, fun a => by simp at a, fun _ => by simp, by show chP T n i - 48 ≤ 99; omega⟩
  · exact ⟨Nat.le_refl _, hi, fun _ => rfl, fun a => by simp at a, by show 0 ≤ 99; omega⟩
/-- reading keeps all but numbers of the reader -/
def OF (f g : Nat → Int32) : Prop := ∀ k, ¬ (7 ≤ k ∧ k ≤ 11) → g k = f k
def P_X3_readPlace (as : List Value) (S : SS) (E : Option Value → SS → Prop) : Prop := match as with
  | [.ref o] => ∃ T n i, PO S o T n ∧ i ≤ n ∧ sI S o 7 = nI i ∧ ((plP T n i).1 = true → ∀ g, OF (sI S o) g → g 7 = nI (plP T n i).2.2.2 → g 9 = sI S o 9 → g 10 = nI (plP T n i).2.1 → g 11 = nI (plP T n i).2.2.1 → E (some (.int (nI 1))) (stIA S o g)) ∧ ((plP T n i).1 = false → ∀ g, OF (sI S o) g → g 7 = nI (plP T n i).2.2.2 → E (some (.int (nI 0))) (stIA S o g))
  | _ => False
def Γ_X3_readPlace : List (MI × PT) := [(mi_X3_reads, P_X3_reads), (mi_X3_readNumber, P_X3_readNumber)]
theorem hΓ_X3_readPlace (l : Launch) (G : Gx) : ∀ q ∈ Γ_X3_readPlace, Ct l G q.1 q.2 := List.forall_mem_cons.mpr ⟨ct_X3_reads l G, List.forall_mem_cons.mpr ⟨ct_X3_readNumber l G, fun _ h => absurd h List.not_mem_nil⟩⟩
set_option maxHeartbeats 1000000 in
theorem ct_X3_readPlace (l : Launch) (G : Gx) : Ct l G mi_X3_readPlace P_X3_readPlace := by
  refine Ct.ofV mo_X3_readPlace (fun as S E h => ?_)
  unfold P_X3_readPlace at h
  split at h
  case h_2 => exact h.elim
  rename_i o
  refine ⟨by simp [entL, mL_X3_readPlace], ?_⟩
  refine wpN_ok (Γ := Γ_X3_readPlace) (hΓ_X3_readPlace l G) so_X3_readPlace 6 _ _ _ _ _ _ ?_
  simp only [mL_X3_readPlace, mT_X3_readPlace, rc_X3_readPlace, rs_X3_readPlace, Γ_X3_readPlace, sg_X3_readPlace_0, sg_X3_readPlace_16, sg_X3_readPlace_18, sg_X3_readPlace_42, sg_X3_readPlace_44, wn_X3_readPlace_0, wn_X3_readPlace_16, wn_X3_readPlace_18, wn_X3_readPlace_42, wn_X3_readPlace_44, wp_c, ex_c, x_nop, x_goto, x_table, x_iinc, x_ldc, x_ldc2, x_iaload, x_faload, x_baload, x_caload, x_iastore, x_fastore, x_bastore, x_castore, x_aastore, x_alen, x_gets, x_new, x_newa, x_anew, x_invs, x_invi, x_invv, x_ret, x_iret, x_lret, x_fret, x_aret, x_lconst, x_fconst0, x_fconst1, x_fconst2, x_dconst0, x_dconst1, x_null, x_iadd, x_isub, x_imul, x_iand, x_ior, x_idiv, x_irem, x_ineg, x_ishl, x_ishr, x_land, x_lor, x_lushr, x_lshl, x_lcmp, x_i2l, x_l2i, x_i2c, x_i2f, x_f2d, x_d2i, x_d2l, x_fadd, x_fsub, x_fmul, x_fdiv, x_dadd, x_dsub, x_dmul, x_ddiv, x_fcmp, x_dcmp, x_dupI, x_dupR, x_dup2, x_popI, x_popR, ldP_I, ldP_L, ldP_F, ldP_D, ldP_R, ldP_N, x_iload, x_iload_n, x_lload, x_lload_n, x_fload, x_fload_n, x_dload, x_dload_n, x_aload, x_aload_n, x_istore, x_istore_n, x_lstore, x_lstore_n, x_fstore, x_fstore_n, x_dstore, x_dstore_n, x_astore, x_astore_n, x_astoreN, x_astore_nN, x_icmp_eq, x_icmp_ne, x_icmp_lt, x_icmp_ge, x_icmp_gt, x_icmp_le, x_if_eq, x_if_ne, x_if_lt, x_if_ge, x_if_gt, x_if_le, x_ifnull, x_ifnullR, x_ifnn, x_ifnnR, x_aaload2, x_cpI, x_cpF, x_bF, x_bD, x_oI, xk_bipush_120, xk_iconst_0, xk_bipush_m6, xk_iconst_1, xk_bipush_80, xk_bipush_48, xk_bipush_57, xk_bipush_10, xk_bipush_64, xk_bipush_46, xk_bipush_97, xk_bipush_122, xk_bipush_119, xk_bipush_61, xk_bipush_59, xk_bipush_8, xk_bipush_33, xk_bipush_126, xk_bipush_m2, xk_bipush_m4, xk_iconst_4, xk_bipush_6, xk_iconst_2, xk_bipush_40, xk_iconst_3, xk_iconst_5, xk_iconst_m1, xk_bipush_m5, xk_bipush_12, xk_bipush_100, xk_bipush_26, xk_sipush_9999, xk_sipush_500, xk_bipush_7, xk_bipush_m126, xk_bipush_127, xk_bipush_23, xk_sipush_m1022, xk_sipush_1023, xk_bipush_52, xk_bipush_m3, xk_sipush_9830, xk_sipush_4800, xk_sipush_983, xk_sipush_480, xk_bipush_13, xk_bipush_18, xk_bipush_9, xk_bipush_32, xg_0_0, xp_0_0, xg_0_1, xp_0_1, xg_0_2, xp_0_2, xg_0_3, xp_0_3, xg_0_4, xp_0_4, xg_0_5, xp_0_5, xg_0_6, xp_0_6, xg_0_7, xp_0_7, xg_0_8, xp_0_8, xg_1_0, xp_1_0, xg_1_1, xp_1_1, xg_1_2, xp_1_2, xg_1_3, xp_1_3, xg_2_0, xp_2_0, xg_2_1, xp_2_1, xg_2_2, xp_2_2, xg_3_0, xp_3_0, xg_3_1, xp_3_1, xg_3_2, xp_3_2, xg_3_3, xp_3_3, xg_3_4, xp_3_4, xg_3_5, xp_3_5, xg_3_6, xp_3_6, xg_3_7, xp_3_7, xg_3_8, xp_3_8, xg_3_9, xp_3_9, xg_3_10, xp_3_10, xg_3_11, xp_3_11, xg_4_0, xp_4_0, xg_4_1, xp_4_1, xg_5_0, xp_5_0, xg_5_1, xp_5_1, xg_6_0, xp_6_0, xg_6_1, xp_6_1, xg_6_2, xp_6_2, xg_6_3, xp_6_3, xg_6_4, xp_6_4, xg_6_5, xp_6_5, xg_7_0, xp_7_0, xg_7_1, xp_7_1, xg_7_2, xp_7_2, xg_7_3, xp_7_3, xg_7_4, xp_7_4, xg_7_5, xp_7_5, xg_7_6, xp_7_6, xg_7_7, xp_7_7, xg_7_8, xp_7_8, xg_7_9, xp_7_9, xg_7_10, xp_7_10, xg_7_11, xp_7_11, xg_7_12, xp_7_12, xg_7_13, xp_7_13, fv0, fv1, fv2, fv3, kI_0, kI_1, stL, wipeL, entLn, entL, List.getElem?_cons_zero, List.getElem?_cons_succ, List.getElem?_nil, List.set_cons_zero, List.set_cons_succ, List.set_nil, List.length_cons, List.length_nil, List.cons_append, List.nil_append, List.replicate, Nat.reduceAdd, Nat.reduceLeDiff, Nat.reduceSub, true_and, and_true, x_callS, x_callSN, x_callI, x_callIN, x_callV0, x_callV1, x_callV2, x_callV3, x_callV4, x_callV5, x_callV6, x_callV7, callP, List.take_succ_cons, List.take_zero, List.take_nil, List.drop_succ_cons, List.drop_zero, List.drop_nil, List.getLast?_singleton, List.getLast?_cons_cons, Option.some.injEq, Value.ref.injEq, exists_eq_left, exists_eq_left', Nat.zero_le, Nat.add_zero, ldcV_f, ldcV_fn, ldcV_l, ldcV_d, Nat.reduceMul, Nat.le_refl, List.reverse_cons, List.reverse_nil, Option.toList, List.map_cons, List.map_nil, List.sum_cons, List.sum_nil, Value.category, tblW_n, tblW_c, Int.cast_ofNat_Int, Int.reduceAdd, Int.reduceToNat, ofI_n, rc_X3_reads, rs_X3_reads, P_X3_reads, rc_X3_readNumber, rs_X3_readNumber, P_X3_readNumber]
  obtain ⟨T, n, i, hP, hi, ei, h1, h2⟩ := h
  have o0 := hP.1.1
  simp only [o0, ei, bI_0, sK_stI, sR_stI, sK_stF, sR_stF, sK_stIA, sR_stIA, sK_stFA, sR_stFA, sI_stI, sI_stF, sI_stIA, sI_stFA, sF_stI, sF_stF, sF_stIA, sF_stFA, Nat.left_eq_add, Nat.add_eq_left, Nat.add_left_cancel_iff, Nat.reduceEqDiff, Nat.reduceEqDiff, Nat.succ_ne_self, false_and, and_false, if_false, if_true, nI_succ_sub, Option.some.injEq, Prod.mk.injEq, exists_eq_left', true_and, and_true, retI, retF, retV, retZ1, retZ0, retL, retA, retN, Nat.reduceAdd, Nat.reduceMul, Nat.reduceLT]
  have hnI : ∀ j, chP T n j < 256 := chP_lt hP
  refine ⟨T, n, i, hP, hi, rfl, fun q => ?_, fun q => ?_⟩
  · rw [nI_eq (by omega) (by have := hnI i; omega)] at q
    have hin : i < n := by
      apply Nat.lt_of_not_le
      intro a
      unfold chP at q
      rw [if_neg (by omega)] at q
      exact absurd q (by omega)
    simp only [n10, n00, not_true_eq_false, not_false_eq_true, false_implies, true_implies, and_true, true_and, stI_up, stIA_stIA, sI_stIA, if_true, if_false, upAt, Nat.reduceEqDiff, sK_stIA, sR_stIA]
    obtain ⟨m1, m2, m3, m4, m5⟩ := nmP_le (T := T) (n := n) (i := i + 1) (by omega)
    refine ⟨T, n, i + 1, hP.st _, by omega, rfl, fun q2 => ?_, fun q2 => ?_⟩
    · refine ⟨T, n, (nmP T n (i + 1)).2.2, hP.st _, m2, rfl, fun q3 => ?_, fun q3 => ?_⟩
      · rw [nI_eq (by omega) (by have := hnI (nmP T n (i + 1)).2.2; omega)] at q3
        have hin2 : (nmP T n (i + 1)).2.2 < n := by
          apply Nat.lt_of_not_le
          intro a
          unfold chP at q3
          rw [if_neg (by omega)] at q3
          exact absurd q3 (by omega)
        have e : plP T n i = ((nmP T n ((nmP T n (i + 1)).2.2 + 1)).1, (nmP T n (i + 1)).2.1, (nmP T n ((nmP T n (i + 1)).2.2 + 1)).2.1, (nmP T n ((nmP T n (i + 1)).2.2 + 1)).2.2) := by
          unfold plP
          rw [if_pos q.symm, if_pos q2, if_pos q3.symm]
        rw [e] at h1 h2
        try simp only [n10, n00, not_true_eq_false, not_false_eq_true, false_implies, true_implies, and_true, true_and, stI_up, stIA_stIA, sI_stIA, if_true, if_false, upAt, Nat.reduceEqDiff, sK_stIA, sR_stIA]
        refine ⟨T, n, (nmP T n (i + 1)).2.2 + 1, hP.st _, by omega, rfl, fun q4 => ?_, fun q4 => ?_⟩
        · try simp only [n10, n00, not_true_eq_false, not_false_eq_true, false_implies, true_implies, and_true, true_and, stI_up, stIA_stIA, sI_stIA, if_true, if_false, upAt, Nat.reduceEqDiff, sK_stIA, sR_stIA]
          refine h1 q4 _ ?_ rfl rfl rfl rfl
          intro k hk
          unfold upV
          simp only [show ¬ k = 7 by omega, show ¬ k = 8 by omega, show ¬ k = 10 by omega, show ¬ k = 11 by omega, if_false]
        · try simp only [n10, n00, not_true_eq_false, not_false_eq_true, false_implies, true_implies, and_true, true_and, stI_up, stIA_stIA, sI_stIA, if_true, if_false, upAt, Nat.reduceEqDiff, sK_stIA, sR_stIA]
          refine h2 q4 _ ?_ ?_
          · intro k hk
            unfold upV
            simp only [show ¬ k = 7 by omega, show ¬ k = 8 by omega, show ¬ k = 10 by omega, show ¬ k = 11 by omega, if_false]
          · rw [(nmP_le (T := T) (n := n) (i := (nmP T n (i + 1)).2.2 + 1) (by omega)).2.2.1 q4]
            rfl
      · have e : plP T n i = (false, 0, 0, (nmP T n (i + 1)).2.2) := by
          unfold plP
          rw [if_pos q.symm, if_pos q2, if_neg (fun a => q3 (by rw [a]))]
        rw [e] at h2
        try simp only [n10, n00, not_true_eq_false, not_false_eq_true, false_implies, true_implies, and_true, true_and, stI_up, stIA_stIA, sI_stIA, if_true, if_false, upAt, Nat.reduceEqDiff, sK_stIA, sR_stIA]
        refine h2 rfl _ ?_ rfl
        intro k hk
        unfold upV
        simp only [show ¬ k = 7 by omega, show ¬ k = 8 by omega, show ¬ k = 10 by omega, show ¬ k = 11 by omega, if_false]
    · have e : plP T n i = (false, 0, 0, i + 1) := by
        unfold plP
        rw [if_pos q.symm, if_neg (by rw [q2]; decide)]
      rw [e] at h2
      refine h2 rfl _ ?_ rfl
      intro k hk
      unfold upV
      simp only [show ¬ k = 7 by omega, show ¬ k = 8 by omega, show ¬ k = 10 by omega, show ¬ k = 11 by omega, if_false]
  · have e : plP T n i = (false, 0, 0, i) := by
      unfold plP
      rw [if_neg (fun a => q (by rw [a]))]
    rw [e] at h2
    simp only [n10, n00, not_true_eq_false, not_false_eq_true, false_implies, true_implies, and_true, true_and, stI_up, stIA_stIA, sI_stIA, if_true, if_false, upAt, Nat.reduceEqDiff, sK_stIA, sR_stIA]
    have := h2 rfl (sI S o) (fun _ _ => rfl) ei
    rw [stIA_self] at this
    exact this
