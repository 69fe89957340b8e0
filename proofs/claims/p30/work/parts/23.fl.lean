/-! light: the words -/
/-- settings and how hard is pressed, in their ranges -/
def SetV (S : SS) (d : Nat) : Prop := (∃ a, a ≤ 18 ∧ sI S (d + 1) 0 = nI a) ∧ (∃ a, a ≤ 9 ∧ sI S (d + 1) 1 = nI a) ∧ (∃ a, (1 ≤ a ∧ a ≤ 99) ∧ sI S (d + 1) 2 = nI a) ∧ (∃ a, a ≤ 50 ∧ sI S (d + 1) 3 = nI a) ∧ ∀ i, i < 5 → ∃ a, a ≤ 5 ∧ sI S (d + 2) i = nI a
def adiff (a b : Nat) : Nat := if b ≤ a then a - b else b - a
def dist (k j : Nat) : Nat := max (adiff (k / 12) (j / 12)) (adiff (k % 12) (j % 12))
theorem abs_nI {a b : Nat} (ha : a < 2 ^ 20) (hb : b < 2 ^ 20) : (if 0 ≤ nI a - nI b then nI a - nI b else -(nI a - nI b)) = nI (adiff a b) := by
  unfold adiff
  by_cases h : b ≤ a
  · rw [pk_sub h, if_pos (nI_pos' (by omega)), if_pos h]
  · rw [if_neg (Int32.not_le.mpr (pk_sneg (by omega) (by omega))), if_neg h]
    have h1 : (nI a - nI b).toInt = (a : Int) - b := pk_sub_toInt (by omega) (by omega)
    rw [← Int32.toInt_inj, Int32.toInt_neg, h1, nI_toInt (by omega)]
    have : -((a : Int) - b) = ((b - a : Nat) : Int) := by omega
    rw [this]
    simp only [Int.bmod]
    omega
theorem max_nI {a b : Nat} (ha : a < 2 ^ 20) (hb : b < 2 ^ 20) : (if nI a < nI b then nI b else nI a) = nI (max a b) := by
  by_cases h : a < b
  · rw [if_pos (nI_lt h (by omega)), Nat.max_eq_right (by omega)]
  · rw [if_neg (nI_nlt (by omega) (by omega)), Nat.max_eq_left (by omega)]
def P_X0_isPlate (as : List Value) (S : SS) (E : Option Value → SS → Prop) : Prop := match as with
  | [.ref d, .int p] => sK S d = some (0, 0) ∧ E (some (.int (bI (0 ≤ p ∧ p < sI S d 6)))) S
  | _ => False
def Γ_X0_isPlate : List (MI × PT) := []
theorem hΓ_X0_isPlate (l : Launch) (G : Gx) : ∀ q ∈ Γ_X0_isPlate, Ct l G q.1 q.2 := fun _ h => absurd h List.not_mem_nil
set_option maxHeartbeats 1000000 in
theorem ct_X0_isPlate (l : Launch) (G : Gx) : Ct l G mi_X0_isPlate P_X0_isPlate := by
  refine Ct.ofV mo_X0_isPlate (fun as S E h => ?_)
  unfold P_X0_isPlate at h
  split at h
  case h_2 => exact h.elim
  refine ⟨by simp [entL, mL_X0_isPlate], ?_⟩
  refine wpN_ok (Γ := Γ_X0_isPlate) (hΓ_X0_isPlate l G) so_X0_isPlate 3 _ _ _ _ _ _ ?_
  simp only [mL_X0_isPlate, mT_X0_isPlate, rc_X0_isPlate, rs_X0_isPlate, Γ_X0_isPlate, sg_X0_isPlate_0, sg_X0_isPlate_16, sg_X0_isPlate_17, wn_X0_isPlate_0, wn_X0_isPlate_16, wn_X0_isPlate_17, wp_c, ex_c, x_nop, x_goto, x_table, x_iinc, x_ldc, x_ldc2, x_iaload, x_faload, x_baload, x_caload, x_iastore, x_fastore, x_bastore, x_castore, x_aastore, x_alen, x_gets, x_new, x_newa, x_anew, x_invs, x_invi, x_invv, x_ret, x_iret, x_lret, x_fret, x_aret, x_lconst, x_fconst0, x_fconst1, x_fconst2, x_dconst0, x_dconst1, x_null, x_iadd, x_isub, x_imul, x_iand, x_ior, x_idiv, x_irem, x_ineg, x_ishl, x_ishr, x_land, x_ladd, x_lmul, x_lor, x_lushr, x_lshl, x_lcmp, x_i2l, x_l2i, x_i2c, x_i2f, x_f2d, x_d2i, x_d2l, x_fadd, x_fsub, x_fmul, x_fdiv, x_dadd, x_dsub, x_dmul, x_ddiv, x_fcmp, x_dcmp, x_dupI, x_dupR, x_dup2, x_popI, x_popR, ldP_I, ldP_L, ldP_F, ldP_D, ldP_R, ldP_N, x_iload, x_iload_n, x_lload, x_lload_n, x_fload, x_fload_n, x_dload, x_dload_n, x_aload, x_aload_n, x_istore, x_istore_n, x_lstore, x_lstore_n, x_fstore, x_fstore_n, x_dstore, x_dstore_n, x_astore, x_astore_n, x_astoreN, x_astore_nN, x_icmp_eq, x_icmp_ne, x_icmp_lt, x_icmp_ge, x_icmp_gt, x_icmp_le, x_if_eq, x_if_ne, x_if_lt, x_if_ge, x_if_gt, x_if_le, x_ifnull, x_ifnullR, x_ifnn, x_ifnnR, x_aaload2, x_cpI, x_cpF, x_oI, xk_bipush_120, xk_iconst_0, xk_bipush_m6, xk_iconst_1, xk_bipush_80, xk_iconst_4, xk_bipush_6, xk_iconst_2, xk_bipush_40, xk_iconst_3, xk_bipush_10, xk_iconst_5, xk_bipush_m2, xk_bipush_m4, xk_iconst_m1, xk_bipush_m5, xk_bipush_12, xk_bipush_100, xk_bipush_26, xk_bipush_48, xk_sipush_9999, xk_sipush_500, xk_bipush_7, xk_bipush_119, xk_bipush_m126, xk_bipush_127, xk_bipush_23, xk_sipush_m1022, xk_sipush_1023, xk_bipush_52, xg_0_0, xp_0_0, xg_0_1, xp_0_1, xg_0_2, xp_0_2, xg_0_3, xp_0_3, xg_0_4, xp_0_4, xg_0_5, xp_0_5, xg_0_6, xp_0_6, xg_0_7, xp_0_7, xg_0_8, xp_0_8, xg_1_0, xp_1_0, xg_1_1, xp_1_1, xg_1_2, xp_1_2, xg_1_3, xp_1_3, xg_2_0, xp_2_0, xg_2_1, xp_2_1, xg_2_2, xp_2_2, xg_3_0, xp_3_0, xg_3_1, xp_3_1, xg_3_2, xp_3_2, xg_3_3, xp_3_3, xg_3_4, xp_3_4, xg_3_5, xp_3_5, xg_3_6, xp_3_6, xg_3_7, xp_3_7, xg_3_8, xp_3_8, xg_3_9, xp_3_9, xg_3_10, xp_3_10, xg_3_11, xp_3_11, xg_4_0, xp_4_0, xg_4_1, xp_4_1, xg_5_0, xp_5_0, xg_5_1, xp_5_1, xg_6_0, xp_6_0, xg_6_1, xp_6_1, xg_6_2, xp_6_2, xg_6_3, xp_6_3, xg_6_4, xp_6_4, xg_6_5, xp_6_5, fv0, fv1, fv2, fv3, kI_0, kI_1, stL, wipeL, entLn, entL, List.getElem?_cons_zero, List.getElem?_cons_succ, List.getElem?_nil, List.set_cons_zero, List.set_cons_succ, List.set_nil, List.length_cons, List.length_nil, List.cons_append, List.nil_append, List.replicate, Nat.reduceAdd, Nat.reduceLeDiff, Nat.reduceSub, true_and, and_true, x_callS, x_callSN, x_callI, x_callIN, x_callV0, x_callV1, x_callV2, x_callV3, x_callV4, x_callV5, x_callV6, x_callV7, callP, List.take_succ_cons, List.take_zero, List.take_nil, List.drop_succ_cons, List.drop_zero, List.drop_nil, List.getLast?_singleton, List.getLast?_cons_cons, Option.some.injEq, Value.ref.injEq, exists_eq_left, exists_eq_left', Nat.zero_le, Nat.add_zero, ldcV_f, ldcV_fn, ldcV_l, ldcV_d, Nat.reduceMul, Nat.le_refl, List.reverse_cons, List.reverse_nil, Option.toList, List.map_cons, List.map_nil, List.sum_cons, List.sum_nil, Value.category, tblW_n, tblW_c, Int.cast_ofNat_Int, Int.reduceAdd, Int.reduceToNat, ofI_n]
  simp only [h.1, retZ1, retZ0, true_and, Int32.not_lt, Int32.not_le]
  unfold bI at h
  grind
def P_X0_isWriter (as : List Value) (S : SS) (E : Option Value → SS → Prop) : Prop := match as with
  | [.ref d, .int p] => sK S d = some (0, 0) ∧ E (some (.int (bI (0 ≤ p ∧ p < sI S d 8)))) S
  | _ => False
def Γ_X0_isWriter : List (MI × PT) := []
theorem hΓ_X0_isWriter (l : Launch) (G : Gx) : ∀ q ∈ Γ_X0_isWriter, Ct l G q.1 q.2 := fun _ h => absurd h List.not_mem_nil
set_option maxHeartbeats 1000000 in
theorem ct_X0_isWriter (l : Launch) (G : Gx) : Ct l G mi_X0_isWriter P_X0_isWriter := by
  refine Ct.ofV mo_X0_isWriter (fun as S E h => ?_)
  unfold P_X0_isWriter at h
  split at h
  case h_2 => exact h.elim
  refine ⟨by simp [entL, mL_X0_isWriter], ?_⟩
  refine wpN_ok (Γ := Γ_X0_isWriter) (hΓ_X0_isWriter l G) so_X0_isWriter 3 _ _ _ _ _ _ ?_
  simp only [mL_X0_isWriter, mT_X0_isWriter, rc_X0_isWriter, rs_X0_isWriter, Γ_X0_isWriter, sg_X0_isWriter_0, sg_X0_isWriter_16, sg_X0_isWriter_17, wn_X0_isWriter_0, wn_X0_isWriter_16, wn_X0_isWriter_17, wp_c, ex_c, x_nop, x_goto, x_table, x_iinc, x_ldc, x_ldc2, x_iaload, x_faload, x_baload, x_caload, x_iastore, x_fastore, x_bastore, x_castore, x_aastore, x_alen, x_gets, x_new, x_newa, x_anew, x_invs, x_invi, x_invv, x_ret, x_iret, x_lret, x_fret, x_aret, x_lconst, x_fconst0, x_fconst1, x_fconst2, x_dconst0, x_dconst1, x_null, x_iadd, x_isub, x_imul, x_iand, x_ior, x_idiv, x_irem, x_ineg, x_ishl, x_ishr, x_land, x_ladd, x_lmul, x_lor, x_lushr, x_lshl, x_lcmp, x_i2l, x_l2i, x_i2c, x_i2f, x_f2d, x_d2i, x_d2l, x_fadd, x_fsub, x_fmul, x_fdiv, x_dadd, x_dsub, x_dmul, x_ddiv, x_fcmp, x_dcmp, x_dupI, x_dupR, x_dup2, x_popI, x_popR, ldP_I, ldP_L, ldP_F, ldP_D, ldP_R, ldP_N, x_iload, x_iload_n, x_lload, x_lload_n, x_fload, x_fload_n, x_dload, x_dload_n, x_aload, x_aload_n, x_istore, x_istore_n, x_lstore, x_lstore_n, x_fstore, x_fstore_n, x_dstore, x_dstore_n, x_astore, x_astore_n, x_astoreN, x_astore_nN, x_icmp_eq, x_icmp_ne, x_icmp_lt, x_icmp_ge, x_icmp_gt, x_icmp_le, x_if_eq, x_if_ne, x_if_lt, x_if_ge, x_if_gt, x_if_le, x_ifnull, x_ifnullR, x_ifnn, x_ifnnR, x_aaload2, x_cpI, x_cpF, x_oI, xk_bipush_120, xk_iconst_0, xk_bipush_m6, xk_iconst_1, xk_bipush_80, xk_iconst_4, xk_bipush_6, xk_iconst_2, xk_bipush_40, xk_iconst_3, xk_bipush_10, xk_iconst_5, xk_bipush_m2, xk_bipush_m4, xk_iconst_m1, xk_bipush_m5, xk_bipush_12, xk_bipush_100, xk_bipush_26, xk_bipush_48, xk_sipush_9999, xk_sipush_500, xk_bipush_7, xk_bipush_119, xk_bipush_m126, xk_bipush_127, xk_bipush_23, xk_sipush_m1022, xk_sipush_1023, xk_bipush_52, xg_0_0, xp_0_0, xg_0_1, xp_0_1, xg_0_2, xp_0_2, xg_0_3, xp_0_3, xg_0_4, xp_0_4, xg_0_5, xp_0_5, xg_0_6, xp_0_6, xg_0_7, xp_0_7, xg_0_8, xp_0_8, xg_1_0, xp_1_0, xg_1_1, xp_1_1, xg_1_2, xp_1_2, xg_1_3, xp_1_3, xg_2_0, xp_2_0, xg_2_1, xp_2_1, xg_2_2, xp_2_2, xg_3_0, xp_3_0, xg_3_1, xp_3_1, xg_3_2, xp_3_2, xg_3_3, xp_3_3, xg_3_4, xp_3_4, xg_3_5, xp_3_5, xg_3_6, xp_3_6, xg_3_7, xp_3_7, xg_3_8, xp_3_8, xg_3_9, xp_3_9, xg_3_10, xp_3_10, xg_3_11, xp_3_11, xg_4_0, xp_4_0, xg_4_1, xp_4_1, xg_5_0, xp_5_0, xg_5_1, xp_5_1, xg_6_0, xp_6_0, xg_6_1, xp_6_1, xg_6_2, xp_6_2, xg_6_3, xp_6_3, xg_6_4, xp_6_4, xg_6_5, xp_6_5, fv0, fv1, fv2, fv3, kI_0, kI_1, stL, wipeL, entLn, entL, List.getElem?_cons_zero, List.getElem?_cons_succ, List.getElem?_nil, List.set_cons_zero, List.set_cons_succ, List.set_nil, List.length_cons, List.length_nil, List.cons_append, List.nil_append, List.replicate, Nat.reduceAdd, Nat.reduceLeDiff, Nat.reduceSub, true_and, and_true, x_callS, x_callSN, x_callI, x_callIN, x_callV0, x_callV1, x_callV2, x_callV3, x_callV4, x_callV5, x_callV6, x_callV7, callP, List.take_succ_cons, List.take_zero, List.take_nil, List.drop_succ_cons, List.drop_zero, List.drop_nil, List.getLast?_singleton, List.getLast?_cons_cons, Option.some.injEq, Value.ref.injEq, exists_eq_left, exists_eq_left', Nat.zero_le, Nat.add_zero, ldcV_f, ldcV_fn, ldcV_l, ldcV_d, Nat.reduceMul, Nat.le_refl, List.reverse_cons, List.reverse_nil, Option.toList, List.map_cons, List.map_nil, List.sum_cons, List.sum_nil, Value.category, tblW_n, tblW_c, Int.cast_ofNat_Int, Int.reduceAdd, Int.reduceToNat, ofI_n]
  simp only [h.1, retZ1, retZ0, true_and, Int32.not_lt, Int32.not_le]
  unfold bI at h
  grind
/-- the plate on the desk, if there is one -/
def gOn (S : SS) (d : Nat) : Option Nat := if 0 ≤ sI S d 7 ∧ sI S d 7 < sI S d 6 then some (d + 6 + 5 * (sI S d 7).toNatClampNeg) else none
def P_X0_glassOnDesk (as : List Value) (S : SS) (E : Option Value → SS → Prop) : Prop := match as with
  | [.ref d] => DeskAt S d ∧ (0 ≤ sI S d 7 ∧ sI S d 7 < sI S d 6 → vp_in (sI S d 7) 4) ∧ E (some (va_rf (gOn S d))) S
  | _ => False
def Γ_X0_glassOnDesk : List (MI × PT) := [(mi_X0_isPlate, P_X0_isPlate)]
theorem hΓ_X0_glassOnDesk (l : Launch) (G : Gx) : ∀ q ∈ Γ_X0_glassOnDesk, Ct l G q.1 q.2 := List.forall_mem_cons.mpr ⟨ct_X0_isPlate l G, fun _ h => absurd h List.not_mem_nil⟩
set_option maxHeartbeats 1000000 in
theorem ct_X0_glassOnDesk (l : Launch) (G : Gx) : Ct l G mi_X0_glassOnDesk P_X0_glassOnDesk := by
  refine Ct.ofV mo_X0_glassOnDesk (fun as S E h => ?_)
  unfold P_X0_glassOnDesk at h
  split at h
  case h_2 => exact h.elim
  refine ⟨by simp [entL, mL_X0_glassOnDesk], ?_⟩
  refine wpN_ok (Γ := Γ_X0_glassOnDesk) (hΓ_X0_glassOnDesk l G) so_X0_glassOnDesk 3 _ _ _ _ _ _ ?_
  simp only [mL_X0_glassOnDesk, mT_X0_glassOnDesk, rc_X0_glassOnDesk, rs_X0_glassOnDesk, Γ_X0_glassOnDesk, sg_X0_glassOnDesk_0, sg_X0_glassOnDesk_23, sg_X0_glassOnDesk_24, wn_X0_glassOnDesk_0, wn_X0_glassOnDesk_23, wn_X0_glassOnDesk_24, wp_c, ex_c, x_nop, x_goto, x_table, x_iinc, x_ldc, x_ldc2, x_iaload, x_faload, x_baload, x_caload, x_iastore, x_fastore, x_bastore, x_castore, x_aastore, x_alen, x_gets, x_new, x_newa, x_anew, x_invs, x_invi, x_invv, x_ret, x_iret, x_lret, x_fret, x_aret, x_lconst, x_fconst0, x_fconst1, x_fconst2, x_dconst0, x_dconst1, x_null, x_iadd, x_isub, x_imul, x_iand, x_ior, x_idiv, x_irem, x_ineg, x_ishl, x_ishr, x_land, x_ladd, x_lmul, x_lor, x_lushr, x_lshl, x_lcmp, x_i2l, x_l2i, x_i2c, x_i2f, x_f2d, x_d2i, x_d2l, x_fadd, x_fsub, x_fmul, x_fdiv, x_dadd, x_dsub, x_dmul, x_ddiv, x_fcmp, x_dcmp, x_dupI, x_dupR, x_dup2, x_popI, x_popR, ldP_I, ldP_L, ldP_F, ldP_D, ldP_R, ldP_N, x_iload, x_iload_n, x_lload, x_lload_n, x_fload, x_fload_n, x_dload, x_dload_n, x_aload, x_aload_n, x_istore, x_istore_n, x_lstore, x_lstore_n, x_fstore, x_fstore_n, x_dstore, x_dstore_n, x_astore, x_astore_n, x_astoreN, x_astore_nN, x_icmp_eq, x_icmp_ne, x_icmp_lt, x_icmp_ge, x_icmp_gt, x_icmp_le, x_if_eq, x_if_ne, x_if_lt, x_if_ge, x_if_gt, x_if_le, x_ifnull, x_ifnullR, x_ifnn, x_ifnnR, x_aaload2, x_cpI, x_cpF, x_oI, xk_bipush_120, xk_iconst_0, xk_bipush_m6, xk_iconst_1, xk_bipush_80, xk_iconst_4, xk_bipush_6, xk_iconst_2, xk_bipush_40, xk_iconst_3, xk_bipush_10, xk_iconst_5, xk_bipush_m2, xk_bipush_m4, xk_iconst_m1, xk_bipush_m5, xk_bipush_12, xk_bipush_100, xk_bipush_26, xk_bipush_48, xk_sipush_9999, xk_sipush_500, xk_bipush_7, xk_bipush_119, xk_bipush_m126, xk_bipush_127, xk_bipush_23, xk_sipush_m1022, xk_sipush_1023, xk_bipush_52, xg_0_0, xp_0_0, xg_0_1, xp_0_1, xg_0_2, xp_0_2, xg_0_3, xp_0_3, xg_0_4, xp_0_4, xg_0_5, xp_0_5, xg_0_6, xp_0_6, xg_0_7, xp_0_7, xg_0_8, xp_0_8, xg_1_0, xp_1_0, xg_1_1, xp_1_1, xg_1_2, xp_1_2, xg_1_3, xp_1_3, xg_2_0, xp_2_0, xg_2_1, xp_2_1, xg_2_2, xp_2_2, xg_3_0, xp_3_0, xg_3_1, xp_3_1, xg_3_2, xp_3_2, xg_3_3, xp_3_3, xg_3_4, xp_3_4, xg_3_5, xp_3_5, xg_3_6, xp_3_6, xg_3_7, xp_3_7, xg_3_8, xp_3_8, xg_3_9, xp_3_9, xg_3_10, xp_3_10, xg_3_11, xp_3_11, xg_4_0, xp_4_0, xg_4_1, xp_4_1, xg_5_0, xp_5_0, xg_5_1, xp_5_1, xg_6_0, xp_6_0, xg_6_1, xp_6_1, xg_6_2, xp_6_2, xg_6_3, xp_6_3, xg_6_4, xp_6_4, xg_6_5, xp_6_5, fv0, fv1, fv2, fv3, kI_0, kI_1, stL, wipeL, entLn, entL, List.getElem?_cons_zero, List.getElem?_cons_succ, List.getElem?_nil, List.set_cons_zero, List.set_cons_succ, List.set_nil, List.length_cons, List.length_nil, List.cons_append, List.nil_append, List.replicate, Nat.reduceAdd, Nat.reduceLeDiff, Nat.reduceSub, true_and, and_true, x_callS, x_callSN, x_callI, x_callIN, x_callV0, x_callV1, x_callV2, x_callV3, x_callV4, x_callV5, x_callV6, x_callV7, callP, List.take_succ_cons, List.take_zero, List.take_nil, List.drop_succ_cons, List.drop_zero, List.drop_nil, List.getLast?_singleton, List.getLast?_cons_cons, Option.some.injEq, Value.ref.injEq, exists_eq_left, exists_eq_left', Nat.zero_le, Nat.add_zero, ldcV_f, ldcV_fn, ldcV_l, ldcV_d, Nat.reduceMul, Nat.le_refl, List.reverse_cons, List.reverse_nil, Option.toList, List.map_cons, List.map_nil, List.sum_cons, List.sum_nil, Value.category, tblW_n, tblW_c, Int.cast_ofNat_Int, Int.reduceAdd, Int.reduceToNat, ofI_n, rc_X0_isPlate, rs_X0_isPlate, P_X0_isPlate]
  obtain ⟨⟨d0, d1, d2, d3, d4, d5, d6, d7, d8, d9, d10, d11⟩, hin, h⟩ := h
  simp only [d0, d5, d10, Option.some.injEq, Prod.mk.injEq, exists_eq_left', true_and, Option.some.injEq, bI_0, retA, retN]
  refine ⟨fun q => ?_, fun q => ?_⟩
  · unfold gOn at h
    rw [if_neg q] at h
    exact h
  · have q := Decidable.not_not.mp q
    obtain ⟨k, hk, e⟩ := vp_in_of (hin q) (by decide)
    unfold gOn at h
    rw [if_pos q] at h
    rw [e, nI_cl (by omega)] at h ⊢
    exact ⟨vp_in_nI hk (by omega), _, (d11 k hk).1, h⟩
def P_X0_isEnough (as : List Value) (S : SS) (E : Option Value → SS → Prop) : Prop := match as with
  | [.ref d, .float x] => DeskAt S d ∧ SetV S d ∧ E (some (.int (bI (enF (sI S (d + 1) 2) x = true)))) S
  | _ => False
def Γ_X0_isEnough : List (MI × PT) := []
theorem hΓ_X0_isEnough (l : Launch) (G : Gx) : ∀ q ∈ Γ_X0_isEnough, Ct l G q.1 q.2 := fun _ h => absurd h List.not_mem_nil
set_option maxHeartbeats 1000000 in
theorem ct_X0_isEnough (l : Launch) (G : Gx) : Ct l G mi_X0_isEnough P_X0_isEnough := by
  refine Ct.ofV mo_X0_isEnough (fun as S E h => ?_)
  unfold P_X0_isEnough at h
  split at h
  case h_2 => exact h.elim
  refine ⟨by simp [entL, mL_X0_isEnough], ?_⟩
  refine wpN_ok (Γ := Γ_X0_isEnough) (hΓ_X0_isEnough l G) so_X0_isEnough 3 _ _ _ _ _ _ ?_
  simp only [mL_X0_isEnough, mT_X0_isEnough, rc_X0_isEnough, rs_X0_isEnough, Γ_X0_isEnough, sg_X0_isEnough_0, sg_X0_isEnough_19, sg_X0_isEnough_20, wn_X0_isEnough_0, wn_X0_isEnough_19, wn_X0_isEnough_20, wp_c, ex_c, x_nop, x_goto, x_table, x_iinc, x_ldc, x_ldc2, x_iaload, x_faload, x_baload, x_caload, x_iastore, x_fastore, x_bastore, x_castore, x_aastore, x_alen, x_gets, x_new, x_newa, x_anew, x_invs, x_invi, x_invv, x_ret, x_iret, x_lret, x_fret, x_aret, x_lconst, x_fconst0, x_fconst1, x_fconst2, x_dconst0, x_dconst1, x_null, x_iadd, x_isub, x_imul, x_iand, x_ior, x_idiv, x_irem, x_ineg, x_ishl, x_ishr, x_land, x_ladd, x_lmul, x_lor, x_lushr, x_lshl, x_lcmp, x_i2l, x_l2i, x_i2c, x_i2f, x_f2d, x_d2i, x_d2l, x_fadd, x_fsub, x_fmul, x_fdiv, x_dadd, x_dsub, x_dmul, x_ddiv, x_fcmp, x_dcmp, x_dupI, x_dupR, x_dup2, x_popI, x_popR, ldP_I, ldP_L, ldP_F, ldP_D, ldP_R, ldP_N, x_iload, x_iload_n, x_lload, x_lload_n, x_fload, x_fload_n, x_dload, x_dload_n, x_aload, x_aload_n, x_istore, x_istore_n, x_lstore, x_lstore_n, x_fstore, x_fstore_n, x_dstore, x_dstore_n, x_astore, x_astore_n, x_astoreN, x_astore_nN, x_icmp_eq, x_icmp_ne, x_icmp_lt, x_icmp_ge, x_icmp_gt, x_icmp_le, x_if_eq, x_if_ne, x_if_lt, x_if_ge, x_if_gt, x_if_le, x_ifnull, x_ifnullR, x_ifnn, x_ifnnR, x_aaload2, x_cpI, x_cpF, x_oI, xk_bipush_120, xk_iconst_0, xk_bipush_m6, xk_iconst_1, xk_bipush_80, xk_iconst_4, xk_bipush_6, xk_iconst_2, xk_bipush_40, xk_iconst_3, xk_bipush_10, xk_iconst_5, xk_bipush_m2, xk_bipush_m4, xk_iconst_m1, xk_bipush_m5, xk_bipush_12, xk_bipush_100, xk_bipush_26, xk_bipush_48, xk_sipush_9999, xk_sipush_500, xk_bipush_7, xk_bipush_119, xk_bipush_m126, xk_bipush_127, xk_bipush_23, xk_sipush_m1022, xk_sipush_1023, xk_bipush_52, xg_0_0, xp_0_0, xg_0_1, xp_0_1, xg_0_2, xp_0_2, xg_0_3, xp_0_3, xg_0_4, xp_0_4, xg_0_5, xp_0_5, xg_0_6, xp_0_6, xg_0_7, xp_0_7, xg_0_8, xp_0_8, xg_1_0, xp_1_0, xg_1_1, xp_1_1, xg_1_2, xp_1_2, xg_1_3, xp_1_3, xg_2_0, xp_2_0, xg_2_1, xp_2_1, xg_2_2, xp_2_2, xg_3_0, xp_3_0, xg_3_1, xp_3_1, xg_3_2, xp_3_2, xg_3_3, xp_3_3, xg_3_4, xp_3_4, xg_3_5, xp_3_5, xg_3_6, xp_3_6, xg_3_7, xp_3_7, xg_3_8, xp_3_8, xg_3_9, xp_3_9, xg_3_10, xp_3_10, xg_3_11, xp_3_11, xg_4_0, xp_4_0, xg_4_1, xp_4_1, xg_5_0, xp_5_0, xg_5_1, xp_5_1, xg_6_0, xp_6_0, xg_6_1, xp_6_1, xg_6_2, xp_6_2, xg_6_3, xp_6_3, xg_6_4, xp_6_4, xg_6_5, xp_6_5, fv0, fv1, fv2, fv3, kI_0, kI_1, stL, wipeL, entLn, entL, List.getElem?_cons_zero, List.getElem?_cons_succ, List.getElem?_nil, List.set_cons_zero, List.set_cons_succ, List.set_nil, List.length_cons, List.length_nil, List.cons_append, List.nil_append, List.replicate, Nat.reduceAdd, Nat.reduceLeDiff, Nat.reduceSub, true_and, and_true, x_callS, x_callSN, x_callI, x_callIN, x_callV0, x_callV1, x_callV2, x_callV3, x_callV4, x_callV5, x_callV6, x_callV7, callP, List.take_succ_cons, List.take_zero, List.take_nil, List.drop_succ_cons, List.drop_zero, List.drop_nil, List.getLast?_singleton, List.getLast?_cons_cons, Option.some.injEq, Value.ref.injEq, exists_eq_left, exists_eq_left', Nat.zero_le, Nat.add_zero, ldcV_f, ldcV_fn, ldcV_l, ldcV_d, Nat.reduceMul, Nat.le_refl, List.reverse_cons, List.reverse_nil, Option.toList, List.map_cons, List.map_nil, List.sum_cons, List.sum_nil, Value.category, tblW_n, tblW_c, Int.cast_ofNat_Int, Int.reduceAdd, Int.reduceToNat, ofI_n]
  obtain ⟨⟨d0, d1, d2, d3, d4, d5, d6, d7, d8, d9, d10, d11⟩, ⟨-, -, ⟨a, ⟨ha1, ha2⟩, ea⟩, -⟩, h⟩ := h
  simp only [d0, d1, d6, Option.some.injEq, Prod.mk.injEq, exists_eq_left', true_and, retZ1, retZ0]
  refine ⟨vp_in_nI (by omega) (by omega), ?_⟩
  rw [nI_cl (by omega), ea]
  unfold enF bI at h
  rw [ea] at h
  refine ⟨fl_rd ha1 ha2, fun q => ?_, fun q => ?_⟩
  · rwa [if_neg (by simp [q])] at h
  · rwa [if_pos (by simp [q])] at h
def P_X0_canBeRead (as : List Value) (S : SS) (E : Option Value → SS → Prop) : Prop := match as with
  | [.ref d, .ref g, .int k] => DeskAt S d ∧ SetV S d ∧ GlassAt S g ∧ vp_in k 120 ∧ E (some (.int (bI (¬ sI S (g + 2) k.toNatClampNeg = mI 6 ∧ enF (sI S (d + 1) 2) (sF S (g + 1) k.toNatClampNeg) = true)))) S
  | _ => False
def Γ_X0_canBeRead : List (MI × PT) := [(mi_X0_isEnough, P_X0_isEnough)]
theorem hΓ_X0_canBeRead (l : Launch) (G : Gx) : ∀ q ∈ Γ_X0_canBeRead, Ct l G q.1 q.2 := List.forall_mem_cons.mpr ⟨ct_X0_isEnough l G, fun _ h => absurd h List.not_mem_nil⟩
set_option maxHeartbeats 1000000 in
theorem ct_X0_canBeRead (l : Launch) (G : Gx) : Ct l G mi_X0_canBeRead P_X0_canBeRead := by
  refine Ct.ofV mo_X0_canBeRead (fun as S E h => ?_)
  unfold P_X0_canBeRead at h
  split at h
  case h_2 => exact h.elim
  refine ⟨by simp [entL, mL_X0_canBeRead], ?_⟩
  refine wpN_ok (Γ := Γ_X0_canBeRead) (hΓ_X0_canBeRead l G) so_X0_canBeRead 3 _ _ _ _ _ _ ?_
  simp only [mL_X0_canBeRead, mT_X0_canBeRead, rc_X0_canBeRead, rs_X0_canBeRead, Γ_X0_canBeRead, sg_X0_canBeRead_0, sg_X0_canBeRead_28, sg_X0_canBeRead_29, wn_X0_canBeRead_0, wn_X0_canBeRead_28, wn_X0_canBeRead_29, wp_c, ex_c, x_nop, x_goto, x_table, x_iinc, x_ldc, x_ldc2, x_iaload, x_faload, x_baload, x_caload, x_iastore, x_fastore, x_bastore, x_castore, x_aastore, x_alen, x_gets, x_new, x_newa, x_anew, x_invs, x_invi, x_invv, x_ret, x_iret, x_lret, x_fret, x_aret, x_lconst, x_fconst0, x_fconst1, x_fconst2, x_dconst0, x_dconst1, x_null, x_iadd, x_isub, x_imul, x_iand, x_ior, x_idiv, x_irem, x_ineg, x_ishl, x_ishr, x_land, x_ladd, x_lmul, x_lor, x_lushr, x_lshl, x_lcmp, x_i2l, x_l2i, x_i2c, x_i2f, x_f2d, x_d2i, x_d2l, x_fadd, x_fsub, x_fmul, x_fdiv, x_dadd, x_dsub, x_dmul, x_ddiv, x_fcmp, x_dcmp, x_dupI, x_dupR, x_dup2, x_popI, x_popR, ldP_I, ldP_L, ldP_F, ldP_D, ldP_R, ldP_N, x_iload, x_iload_n, x_lload, x_lload_n, x_fload, x_fload_n, x_dload, x_dload_n, x_aload, x_aload_n, x_istore, x_istore_n, x_lstore, x_lstore_n, x_fstore, x_fstore_n, x_dstore, x_dstore_n, x_astore, x_astore_n, x_astoreN, x_astore_nN, x_icmp_eq, x_icmp_ne, x_icmp_lt, x_icmp_ge, x_icmp_gt, x_icmp_le, x_if_eq, x_if_ne, x_if_lt, x_if_ge, x_if_gt, x_if_le, x_ifnull, x_ifnullR, x_ifnn, x_ifnnR, x_aaload2, x_cpI, x_cpF, x_oI, xk_bipush_120, xk_iconst_0, xk_bipush_m6, xk_iconst_1, xk_bipush_80, xk_iconst_4, xk_bipush_6, xk_iconst_2, xk_bipush_40, xk_iconst_3, xk_bipush_10, xk_iconst_5, xk_bipush_m2, xk_bipush_m4, xk_iconst_m1, xk_bipush_m5, xk_bipush_12, xk_bipush_100, xk_bipush_26, xk_bipush_48, xk_sipush_9999, xk_sipush_500, xk_bipush_7, xk_bipush_119, xk_bipush_m126, xk_bipush_127, xk_bipush_23, xk_sipush_m1022, xk_sipush_1023, xk_bipush_52, xg_0_0, xp_0_0, xg_0_1, xp_0_1, xg_0_2, xp_0_2, xg_0_3, xp_0_3, xg_0_4, xp_0_4, xg_0_5, xp_0_5, xg_0_6, xp_0_6, xg_0_7, xp_0_7, xg_0_8, xp_0_8, xg_1_0, xp_1_0, xg_1_1, xp_1_1, xg_1_2, xp_1_2, xg_1_3, xp_1_3, xg_2_0, xp_2_0, xg_2_1, xp_2_1, xg_2_2, xp_2_2, xg_3_0, xp_3_0, xg_3_1, xp_3_1, xg_3_2, xp_3_2, xg_3_3, xp_3_3, xg_3_4, xp_3_4, xg_3_5, xp_3_5, xg_3_6, xp_3_6, xg_3_7, xp_3_7, xg_3_8, xp_3_8, xg_3_9, xp_3_9, xg_3_10, xp_3_10, xg_3_11, xp_3_11, xg_4_0, xp_4_0, xg_4_1, xp_4_1, xg_5_0, xp_5_0, xg_5_1, xp_5_1, xg_6_0, xp_6_0, xg_6_1, xp_6_1, xg_6_2, xp_6_2, xg_6_3, xp_6_3, xg_6_4, xp_6_4, xg_6_5, xp_6_5, fv0, fv1, fv2, fv3, kI_0, kI_1, stL, wipeL, entLn, entL, List.getElem?_cons_zero, List.getElem?_cons_succ, List.getElem?_nil, List.set_cons_zero, List.set_cons_succ, List.set_nil, List.length_cons, List.length_nil, List.cons_append, List.nil_append, List.replicate, Nat.reduceAdd, Nat.reduceLeDiff, Nat.reduceSub, true_and, and_true, x_callS, x_callSN, x_callI, x_callIN, x_callV0, x_callV1, x_callV2, x_callV3, x_callV4, x_callV5, x_callV6, x_callV7, callP, List.take_succ_cons, List.take_zero, List.take_nil, List.drop_succ_cons, List.drop_zero, List.drop_nil, List.getLast?_singleton, List.getLast?_cons_cons, Option.some.injEq, Value.ref.injEq, exists_eq_left, exists_eq_left', Nat.zero_le, Nat.add_zero, ldcV_f, ldcV_fn, ldcV_l, ldcV_d, Nat.reduceMul, Nat.le_refl, List.reverse_cons, List.reverse_nil, Option.toList, List.map_cons, List.map_nil, List.sum_cons, List.sum_nil, Value.category, tblW_n, tblW_c, Int.cast_ofNat_Int, Int.reduceAdd, Int.reduceToNat, ofI_n, rc_X0_isEnough, rs_X0_isEnough, P_X0_isEnough]
  obtain ⟨hd, hs, ⟨g0, g1, g2, g3, g4, g5, g6, g7, g8⟩, hin, h⟩ := h
  simp only [hd, hd.1, hs, g0, g1, g2, g3, g4, g5, g6, g7, g8, hin, Option.some.injEq, Prod.mk.injEq, exists_eq_left', true_and, retZ1, retZ0, bI_0]
  unfold bI at h
  grind
def P_X0_distance (as : List Value) (S : SS) (E : Option Value → SS → Prop) : Prop := match as with
  | [.int k, .int j] => vp_in k 120 ∧ vp_in j 120 ∧ E (some (.int (nI (dist k.toNatClampNeg j.toNatClampNeg)))) S
  | _ => False
def Γ_X0_distance : List (MI × PT) := [(mi_J9_abs_0f7a4, P_J9_abs_0f7a4), (mi_J9_max_7cf53, P_J9_max_7cf53)]
theorem hΓ_X0_distance (l : Launch) (G : Gx) : ∀ q ∈ Γ_X0_distance, Ct l G q.1 q.2 := List.forall_mem_cons.mpr ⟨ct_J9_abs_0f7a4 l G, List.forall_mem_cons.mpr ⟨ct_J9_max_7cf53 l G, fun _ h => absurd h List.not_mem_nil⟩⟩
set_option maxHeartbeats 1000000 in
theorem ct_X0_distance (l : Launch) (G : Gx) : Ct l G mi_X0_distance P_X0_distance := by
  refine Ct.ofV mo_X0_distance (fun as S E h => ?_)
  unfold P_X0_distance at h
  split at h
  case h_2 => exact h.elim
  refine ⟨by simp [entL, mL_X0_distance], ?_⟩
  refine wpN_ok (Γ := Γ_X0_distance) (hΓ_X0_distance l G) so_X0_distance 3 _ _ _ _ _ _ ?_
  simp only [mL_X0_distance, mT_X0_distance, rc_X0_distance, rs_X0_distance, Γ_X0_distance, sg_X0_distance_0, wn_X0_distance_0, wp_c, ex_c, x_nop, x_goto, x_table, x_iinc, x_ldc, x_ldc2, x_iaload, x_faload, x_baload, x_caload, x_iastore, x_fastore, x_bastore, x_castore, x_aastore, x_alen, x_gets, x_new, x_newa, x_anew, x_invs, x_invi, x_invv, x_ret, x_iret, x_lret, x_fret, x_aret, x_lconst, x_fconst0, x_fconst1, x_fconst2, x_dconst0, x_dconst1, x_null, x_iadd, x_isub, x_imul, x_iand, x_ior, x_idiv, x_irem, x_ineg, x_ishl, x_ishr, x_land, x_ladd, x_lmul, x_lor, x_lushr, x_lshl, x_lcmp, x_i2l, x_l2i, x_i2c, x_i2f, x_f2d, x_d2i, x_d2l, x_fadd, x_fsub, x_fmul, x_fdiv, x_dadd, x_dsub, x_dmul, x_ddiv, x_fcmp, x_dcmp, x_dupI, x_dupR, x_dup2, x_popI, x_popR, ldP_I, ldP_L, ldP_F, ldP_D, ldP_R, ldP_N, x_iload, x_iload_n, x_lload, x_lload_n, x_fload, x_fload_n, x_dload, x_dload_n, x_aload, x_aload_n, x_istore, x_istore_n, x_lstore, x_lstore_n, x_fstore, x_fstore_n, x_dstore, x_dstore_n, x_astore, x_astore_n, x_astoreN, x_astore_nN, x_icmp_eq, x_icmp_ne, x_icmp_lt, x_icmp_ge, x_icmp_gt, x_icmp_le, x_if_eq, x_if_ne, x_if_lt, x_if_ge, x_if_gt, x_if_le, x_ifnull, x_ifnullR, x_ifnn, x_ifnnR, x_aaload2, x_cpI, x_cpF, x_oI, xk_bipush_120, xk_iconst_0, xk_bipush_m6, xk_iconst_1, xk_bipush_80, xk_iconst_4, xk_bipush_6, xk_iconst_2, xk_bipush_40, xk_iconst_3, xk_bipush_10, xk_iconst_5, xk_bipush_m2, xk_bipush_m4, xk_iconst_m1, xk_bipush_m5, xk_bipush_12, xk_bipush_100, xk_bipush_26, xk_bipush_48, xk_sipush_9999, xk_sipush_500, xk_bipush_7, xk_bipush_119, xk_bipush_m126, xk_bipush_127, xk_bipush_23, xk_sipush_m1022, xk_sipush_1023, xk_bipush_52, xg_0_0, xp_0_0, xg_0_1, xp_0_1, xg_0_2, xp_0_2, xg_0_3, xp_0_3, xg_0_4, xp_0_4, xg_0_5, xp_0_5, xg_0_6, xp_0_6, xg_0_7, xp_0_7, xg_0_8, xp_0_8, xg_1_0, xp_1_0, xg_1_1, xp_1_1, xg_1_2, xp_1_2, xg_1_3, xp_1_3, xg_2_0, xp_2_0, xg_2_1, xp_2_1, xg_2_2, xp_2_2, xg_3_0, xp_3_0, xg_3_1, xp_3_1, xg_3_2, xp_3_2, xg_3_3, xp_3_3, xg_3_4, xp_3_4, xg_3_5, xp_3_5, xg_3_6, xp_3_6, xg_3_7, xp_3_7, xg_3_8, xp_3_8, xg_3_9, xp_3_9, xg_3_10, xp_3_10, xg_3_11, xp_3_11, xg_4_0, xp_4_0, xg_4_1, xp_4_1, xg_5_0, xp_5_0, xg_5_1, xp_5_1, xg_6_0, xp_6_0, xg_6_1, xp_6_1, xg_6_2, xp_6_2, xg_6_3, xp_6_3, xg_6_4, xp_6_4, xg_6_5, xp_6_5, fv0, fv1, fv2, fv3, kI_0, kI_1, stL, wipeL, entLn, entL, List.getElem?_cons_zero, List.getElem?_cons_succ, List.getElem?_nil, List.set_cons_zero, List.set_cons_succ, List.set_nil, List.length_cons, List.length_nil, List.cons_append, List.nil_append, List.replicate, Nat.reduceAdd, Nat.reduceLeDiff, Nat.reduceSub, true_and, and_true, x_callS, x_callSN, x_callI, x_callIN, x_callV0, x_callV1, x_callV2, x_callV3, x_callV4, x_callV5, x_callV6, x_callV7, callP, List.take_succ_cons, List.take_zero, List.take_nil, List.drop_succ_cons, List.drop_zero, List.drop_nil, List.getLast?_singleton, List.getLast?_cons_cons, Option.some.injEq, Value.ref.injEq, exists_eq_left, exists_eq_left', Nat.zero_le, Nat.add_zero, ldcV_f, ldcV_fn, ldcV_l, ldcV_d, Nat.reduceMul, Nat.le_refl, List.reverse_cons, List.reverse_nil, Option.toList, List.map_cons, List.map_nil, List.sum_cons, List.sum_nil, Value.category, tblW_n, tblW_c, Int.cast_ofNat_Int, Int.reduceAdd, Int.reduceToNat, ofI_n, rc_J9_abs_0f7a4, rs_J9_abs_0f7a4, P_J9_abs_0f7a4, rc_J9_max_7cf53, rs_J9_max_7cf53, P_J9_max_7cf53]
  obtain ⟨hk0, hj0, h⟩ := h
  obtain ⟨k, hk, rfl⟩ := vp_in_of hk0 (by decide)
  obtain ⟨j, hj, rfl⟩ := vp_in_of hj0 (by decide)
  rw [nI_cl (by omega), nI_cl (by omega)] at h
  have h12 : ¬ nI 12 = 0 := by decide
  have ad : ∀ a b, adiff a b ≤ a + b := by intro a b; unfold adiff; split <;> omega
  simp only [h12, retI, true_and, not_false_eq_true]
  have e1 : ∀ a, a < 120 → nI a / nI 12 = nI (a / 12) := fun a ha => pk_div (by omega) (by omega) (by omega)
  have e2 : ∀ a, a < 120 → nI a - nI (a / 12) * nI 12 = nI (a % 12) := fun a ha => by rw [← e1 a ha]; exact pk_rem (by omega) (by omega) (by omega)
  rw [e1 k hk, e1 j hj, e2 k hk, e2 j hj, abs_nI (by omega) (by omega), abs_nI (by omega) (by omega), max_nI (Nat.lt_of_le_of_lt (ad _ _) (by omega)) (Nat.lt_of_le_of_lt (ad _ _) (by omega))]
  exact h
theorem fl_loss {S : SS} {d w : Nat} (hs : SetV S d) (hw : w < 5) (r : Nat) (hr : r < 2) : ∃ m, 10 ≤ m ∧ m ≤ 100 ∧ nI 100 - sI S (d + 1) r * sI S (d + 2) w = nI m := by
  obtain ⟨⟨a, ha, ea⟩, ⟨b, hb, eb⟩, -, -, hp⟩ := hs
  obtain ⟨q, hq, eq⟩ := hp w hw
  match r, hr with
  | 0, _ =>
    have := Nat.mul_le_mul ha hq
    exact ⟨100 - a * q, by omega, by omega, by rw [ea, eq, pk_mul, pk_sub (by omega)]⟩
  | 1, _ =>
    have := Nat.mul_le_mul hb hq
    exact ⟨100 - b * q, by omega, by omega, by rw [eb, eq, pk_mul, pk_sub (by omega)]⟩
theorem fl_dmS {S : SS} {d w : Nat} {x : UInt32} (hs : SetV S d) (hx : okL x) (hw : w < 5) (r : Nat) (hr : r < 2) : vf_n32 (FP.fmul x (FP.i2f (nI 100 - sI S (d + 1) r * sI S (d + 2) w))) ∧ vf_n32 (dmF (sI S (d + 1) r * sI S (d + 2) w) x) ∧ okL (dmF (sI S (d + 1) r * sI S (d + 2) w) x) := by
  obtain ⟨m, h1, h2, e⟩ := fl_loss hs hw r hr
  unfold dmF
  rw [e]
  exact fl_dm hx h1 h2
/-- how dim a place at some distance becomes -/
def dimD (S : SS) (d : Nat) (x : UInt32) (w : Nat) (t : Nat) : UInt32 := if t = 1 then dmF (sI S (d + 1) 0 * sI S (d + 2) w) x else if t = 2 then dmF (sI S (d + 1) 1 * sI S (d + 2) w) x else x
def P_X0_dimmed (as : List Value) (S : SS) (E : Option Value → SS → Prop) : Prop := match as with
  | [.ref d, .float x, .int w, .int t] => DeskAt S d ∧ SetV S d ∧ okL x ∧ vp_in w 5 ∧ vp_in t 100 ∧ E (some (.float (dimD S d x w.toNatClampNeg t.toNatClampNeg))) S
  | _ => False
def Γ_X0_dimmed : List (MI × PT) := []
theorem hΓ_X0_dimmed (l : Launch) (G : Gx) : ∀ q ∈ Γ_X0_dimmed, Ct l G q.1 q.2 := fun _ h => absurd h List.not_mem_nil
set_option maxHeartbeats 1000000 in
theorem ct_X0_dimmed (l : Launch) (G : Gx) : Ct l G mi_X0_dimmed P_X0_dimmed := by
  refine Ct.ofV mo_X0_dimmed (fun as S E h => ?_)
  unfold P_X0_dimmed at h
  split at h
  case h_2 => exact h.elim
  refine ⟨by simp [entL, mL_X0_dimmed], ?_⟩
  refine wpN_ok (Γ := Γ_X0_dimmed) (hΓ_X0_dimmed l G) so_X0_dimmed 6 _ _ _ _ _ _ ?_
  simp only [mL_X0_dimmed, mT_X0_dimmed, rc_X0_dimmed, rs_X0_dimmed, Γ_X0_dimmed, sg_X0_dimmed_0, sg_X0_dimmed_19, sg_X0_dimmed_21, sg_X0_dimmed_34, sg_X0_dimmed_35, wn_X0_dimmed_0, wn_X0_dimmed_19, wn_X0_dimmed_21, wn_X0_dimmed_34, wn_X0_dimmed_35, wp_c, ex_c, x_nop, x_goto, x_table, x_iinc, x_ldc, x_ldc2, x_iaload, x_faload, x_baload, x_caload, x_iastore, x_fastore, x_bastore, x_castore, x_aastore, x_alen, x_gets, x_new, x_newa, x_anew, x_invs, x_invi, x_invv, x_ret, x_iret, x_lret, x_fret, x_aret, x_lconst, x_fconst0, x_fconst1, x_fconst2, x_dconst0, x_dconst1, x_null, x_iadd, x_isub, x_imul, x_iand, x_ior, x_idiv, x_irem, x_ineg, x_ishl, x_ishr, x_land, x_ladd, x_lmul, x_lor, x_lushr, x_lshl, x_lcmp, x_i2l, x_l2i, x_i2c, x_i2f, x_f2d, x_d2i, x_d2l, x_fadd, x_fsub, x_fmul, x_fdiv, x_dadd, x_dsub, x_dmul, x_ddiv, x_fcmp, x_dcmp, x_dupI, x_dupR, x_dup2, x_popI, x_popR, ldP_I, ldP_L, ldP_F, ldP_D, ldP_R, ldP_N, x_iload, x_iload_n, x_lload, x_lload_n, x_fload, x_fload_n, x_dload, x_dload_n, x_aload, x_aload_n, x_istore, x_istore_n, x_lstore, x_lstore_n, x_fstore, x_fstore_n, x_dstore, x_dstore_n, x_astore, x_astore_n, x_astoreN, x_astore_nN, x_icmp_eq, x_icmp_ne, x_icmp_lt, x_icmp_ge, x_icmp_gt, x_icmp_le, x_if_eq, x_if_ne, x_if_lt, x_if_ge, x_if_gt, x_if_le, x_ifnull, x_ifnullR, x_ifnn, x_ifnnR, x_aaload2, x_cpI, x_cpF, x_oI, xk_bipush_120, xk_iconst_0, xk_bipush_m6, xk_iconst_1, xk_bipush_80, xk_iconst_4, xk_bipush_6, xk_iconst_2, xk_bipush_40, xk_iconst_3, xk_bipush_10, xk_iconst_5, xk_bipush_m2, xk_bipush_m4, xk_iconst_m1, xk_bipush_m5, xk_bipush_12, xk_bipush_100, xk_bipush_26, xk_bipush_48, xk_sipush_9999, xk_sipush_500, xk_bipush_7, xk_bipush_119, xk_bipush_m126, xk_bipush_127, xk_bipush_23, xk_sipush_m1022, xk_sipush_1023, xk_bipush_52, xg_0_0, xp_0_0, xg_0_1, xp_0_1, xg_0_2, xp_0_2, xg_0_3, xp_0_3, xg_0_4, xp_0_4, xg_0_5, xp_0_5, xg_0_6, xp_0_6, xg_0_7, xp_0_7, xg_0_8, xp_0_8, xg_1_0, xp_1_0, xg_1_1, xp_1_1, xg_1_2, xp_1_2, xg_1_3, xp_1_3, xg_2_0, xp_2_0, xg_2_1, xp_2_1, xg_2_2, xp_2_2, xg_3_0, xp_3_0, xg_3_1, xp_3_1, xg_3_2, xp_3_2, xg_3_3, xp_3_3, xg_3_4, xp_3_4, xg_3_5, xp_3_5, xg_3_6, xp_3_6, xg_3_7, xp_3_7, xg_3_8, xp_3_8, xg_3_9, xp_3_9, xg_3_10, xp_3_10, xg_3_11, xp_3_11, xg_4_0, xp_4_0, xg_4_1, xp_4_1, xg_5_0, xp_5_0, xg_5_1, xp_5_1, xg_6_0, xp_6_0, xg_6_1, xp_6_1, xg_6_2, xp_6_2, xg_6_3, xp_6_3, xg_6_4, xp_6_4, xg_6_5, xp_6_5, fv0, fv1, fv2, fv3, kI_0, kI_1, stL, wipeL, entLn, entL, List.getElem?_cons_zero, List.getElem?_cons_succ, List.getElem?_nil, List.set_cons_zero, List.set_cons_succ, List.set_nil, List.length_cons, List.length_nil, List.cons_append, List.nil_append, List.replicate, Nat.reduceAdd, Nat.reduceLeDiff, Nat.reduceSub, true_and, and_true, x_callS, x_callSN, x_callI, x_callIN, x_callV0, x_callV1, x_callV2, x_callV3, x_callV4, x_callV5, x_callV6, x_callV7, callP, List.take_succ_cons, List.take_zero, List.take_nil, List.drop_succ_cons, List.drop_zero, List.drop_nil, List.getLast?_singleton, List.getLast?_cons_cons, Option.some.injEq, Value.ref.injEq, exists_eq_left, exists_eq_left', Nat.zero_le, Nat.add_zero, ldcV_f, ldcV_fn, ldcV_l, ldcV_d, Nat.reduceMul, Nat.le_refl, List.reverse_cons, List.reverse_nil, Option.toList, List.map_cons, List.map_nil, List.sum_cons, List.sum_nil, Value.category, tblW_n, tblW_c, Int.cast_ofNat_Int, Int.reduceAdd, Int.reduceToNat, ofI_n]
  obtain ⟨⟨d0, d1, d2, d3, d4, d5, d6, d7, d8, d9, d10, d11⟩, hs, hx, hw0, ht0, h⟩ := h
  obtain ⟨w, hw, rfl⟩ := vp_in_of hw0 (by decide)
  obtain ⟨t, ht, rfl⟩ := vp_in_of ht0 (by decide)
  rw [nI_cl (by omega), nI_cl (by omega)] at h
  simp only [d0, d1, d2, d6, d7, Option.some.injEq, Prod.mk.injEq, exists_eq_left', true_and, retF]
  simp (disch := omega) only [nlt0, nge0, neq0, ngt0, nle0, nI_ltI, nI_leI, nI_eq, nI_cl, in_nI, false_implies, true_implies, not_false_eq_true, not_true_eq_false, and_true, true_and, nI_add, pk_mul, implies_true, not_lt0]
  obtain ⟨a1, a2, a3⟩ := fl_dmS hs hx hw 0 (by omega)
  obtain ⟨b1, b2, b3⟩ := fl_dmS hs hx hw 1 (by omega)
  unfold dimD at h
  refine ⟨fun q => absurd q (by omega), fun _ => ⟨fun q => ?_, fun q => ⟨fun q2 => ⟨fun q3 => ?_, fun q3 => ?_⟩, fun q2 => ?_⟩⟩⟩
  · rwa [if_neg (by omega), if_neg (by omega)] at h
  · rw [if_neg (by omega), if_pos (by omega)] at h
    exact ⟨by omega, hw, b1, b2, h⟩
  · rw [if_pos (by omega)] at h
    exact ⟨by omega, hw, a1, a2, h⟩
  · rwa [if_neg (by omega), if_neg (by omega)] at h
theorem okL_dim {S : SS} {d w t : Nat} {x : UInt32} (hs : SetV S d) (hx : okL x) (hw : w < 5) : okL (dimD S d x w t) := by
  unfold dimD
  split
  · exact (fl_dmS hs hx hw 0 (by omega)).2.2
  · split
    · exact (fl_dmS hs hx hw 1 (by omega)).2.2
    · exact hx
