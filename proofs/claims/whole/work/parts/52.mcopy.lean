-- needs: 51.mlook
/-! the reference copies states -/
/-- state q now is what state r was -/
def Qs (S T : SS) (y q r : Nat) : Prop := (∀ j, j < 983 → sI T (y + 1) (983 * q + j) = sI S (y + 1) (983 * r + j)) ∧ ∀ j, j < 480 → sF T (y + 2) (480 * q + j) = sF S (y + 2) (480 * r + j)
theorem Qs.refl (S : SS) (y q : Nat) : Qs S S y q q := ⟨fun _ _ => rfl, fun _ _ => rfl⟩
theorem Qs.trans {S T U : SS} {y q r t : Nat} (h : Qs S T y r t) (k : Qs T U y q r) : Qs S U y q t := ⟨fun j hj => (k.1 j hj).trans (h.1 j hj), fun j hj => (k.2 j hj).trans (h.2 j hj)⟩
theorem Qs.de {S T : SS} {y q r : Nat} (h : Qs S T y q r) : DE (mV T y q) (mV S y r) := by
  obtain ⟨h1, h2⟩ := h
  refine ⟨fun i hi => h1 i (by omega), fun i hi => ⟨?_, ?_, ?_⟩, h1 4 (by omega), h1 5 (by omega), h1 6 (by omega), h1 7 (by omega), fun p _ hp k hk => ⟨?_, ?_, ?_, ?_⟩⟩
  · have := h1 (8 + i) (by omega)
    simp only [← Nat.add_assoc] at this
    exact this
  · have := h1 (13 + i) (by omega)
    simp only [← Nat.add_assoc] at this
    exact this
  · have := h1 (18 + i) (by omega)
    simp only [← Nat.add_assoc] at this
    exact this
  · have := h2 (120 * p + k) (by omega)
    simp only [← Nat.add_assoc] at this
    exact this
  · have := h1 (23 + 2 * (120 * p + k)) (by omega)
    simp only [← Nat.add_assoc] at this
    exact congrArg mtI this
  · have := h1 (23 + 2 * (120 * p + k)) (by omega)
    simp only [← Nat.add_assoc] at this
    exact congrArg mwI this
  · have := h1 (23 + 2 * (120 * p + k) + 1) (by omega)
    simp only [← Nat.add_assoc] at this
    exact this
def P_X7_copies (as : List Value) (S : SS) (E : Option Value → SS → Prop) : Prop := match as with
  | [.ref y, .int a, .int b] => ModAt S y ∧ vp_in a 10 ∧ vp_in b 10 ∧ ∀ T, Fr S T (y + 1) (y + 3) → Qs S T y b.toNatClampNeg a.toNatClampNeg → (∀ q, ¬ q = b.toNatClampNeg → Qs S T y q q) → E none T
  | _ => False
def Γ_X7_copies : List (MI × PT) := []
theorem hΓ_X7_copies (l : Launch) (G : Gx) : ∀ q ∈ Γ_X7_copies, Ct l G q.1 q.2 := fun _ h => absurd h List.not_mem_nil
def cI (S : SS) (y a b m : Nat) : SS := stIA S (y + 1) (rng (sI S (y + 1)) (983 * b) m (fun j _ => sI S (y + 1) (983 * a + j)))
def cF (S : SS) (y a b m : Nat) : SS := stFA (cI S y a b 983) (y + 2) (rng (sF S (y + 2)) (480 * b) m (fun j _ => sF S (y + 2) (480 * a + j)))
theorem cI_0 (S : SS) (y a b : Nat) : cI S y a b 0 = S := by
  unfold cI
  rw [rng_0, stIA_self]
theorem cI_s {S : SS} {y a b m : Nat} (hm : m < 983) : stI (cI S y a b m) (y + 1) (983 * b + m) (sI (cI S y a b m) (y + 1) (983 * a + m)) = cI S y a b (m + 1) := by
  unfold cI
  rw [stI_stIA, sI_stIA, if_pos rfl, ← rng_s]
  have e : rng (sI S (y + 1)) (983 * b) m (fun j _ => sI S (y + 1) (983 * a + j)) (983 * a + m) = sI S (y + 1) (983 * a + m) := by
    by_cases c : a = b
    · rw [c, rng_at, if_neg (by omega)]
    · exact rng_out (by omega)
  rw [e]
theorem cF_0 (S : SS) (y a b : Nat) : cF S y a b 0 = cI S y a b 983 := by
  unfold cF
  rw [rng_0]
  have e : sF S (y + 2) = sF (cI S y a b 983) (y + 2) := rfl
  rw [e, stFA_self]
theorem cF_s {S : SS} {y a b m : Nat} (hm : m < 480) : stF (cF S y a b m) (y + 2) (480 * b + m) (sF (cF S y a b m) (y + 2) (480 * a + m)) = cF S y a b (m + 1) := by
  unfold cF
  rw [stF_stFA, sF_stFA, if_pos rfl, ← rng_s]
  have e : rng (sF S (y + 2)) (480 * b) m (fun j _ => sF S (y + 2) (480 * a + j)) (480 * a + m) = sF S (y + 2) (480 * a + m) := by
    by_cases c : a = b
    · rw [c, rng_at, if_neg (by omega)]
    · exact rng_out (by omega)
  rw [e]
theorem cF_fr (S : SS) (y a b : Nat) : Fr S (cF S y a b 480) (y + 1) (y + 3) := ((Fr.refl _ _ _).stIA _ _ (by omega) (by omega)).stFA _ _ (by omega) (by omega)
theorem cF_to (S : SS) (y a b : Nat) : Qs S (cF S y a b 480) y b a := by
  refine ⟨fun j hj => ?_, fun j hj => ?_⟩
  · show sI (cI S y a b 983) (y + 1) (983 * b + j) = _
    unfold cI
    rw [sI_stIA, if_pos rfl, rng_at, if_pos hj]
  · unfold cF
    rw [sF_stFA, if_pos rfl, rng_at, if_pos hj]
theorem cF_else {S : SS} {y a b q : Nat} (h : ¬ q = b) : Qs S (cF S y a b 480) y q q := by
  refine ⟨fun j hj => ?_, fun j hj => ?_⟩
  · show sI (cI S y a b 983) (y + 1) (983 * q + j) = _
    unfold cI
    rw [sI_stIA, if_pos rfl, rng_out (by omega)]
  · unfold cF
    rw [sF_stFA, if_pos rfl, rng_out (by omega)]
theorem ModAt.cI {S : SS} {y a b m : Nat} (k : ModAt S y) : ModAt (cI S y a b m) y := k.mk' rfl rfl
theorem ModAt.cF {S : SS} {y a b m : Nat} (k : ModAt S y) : ModAt (cF S y a b m) y := k.mk' rfl rfl
set_option maxHeartbeats 1000000 in
theorem lp2_X7_copies (l : Launch) (G : Gx) {S : SS} {y a b : Nat} {E : Option Value → SS → Prop} (hM : ModAt S y) (ha : a < 10) (hb : b < 10) (h : E none (cF S y a b 480)) :
    ∀ k, k ≤ 480 → V l G mi_X7_copies E 41 [some (.ref y), some (.int (nI a)), some (.int (nI b)), some (.int (nI k))] [] (cF S y a b k) 0 0 := by
  refine loopUp 480 fun k hk ih => ?_
  refine (V.segN (Γ := Γ_X7_copies) (hΓ_X7_copies l G) so_X7_copies 5 (sg := sg_X7_copies_41) so_X7_copies_41 ?_ : V l G mi_X7_copies _ (segPc sg_X7_copies_41) _ _ _ _ _)
  simp only [mL_X7_copies, mT_X7_copies, rc_X7_copies, rs_X7_copies, Γ_X7_copies, sg_X7_copies_0, sg_X7_copies_2, sg_X7_copies_39, sg_X7_copies_41, sg_X7_copies_78, wn_X7_copies_0, wn_X7_copies_2, wn_X7_copies_39, wn_X7_copies_41, wn_X7_copies_78, wp_c, ex_c, x_nop, x_goto, x_table, x_iinc, x_ldc, x_ldc2, x_iaload, x_faload, x_baload, x_caload, x_iastore, x_fastore, x_bastore, x_castore, x_aastore, x_alen, x_gets, x_new, x_newa, x_anew, x_invs, x_invi, x_invv, x_ret, x_iret, x_lret, x_fret, x_aret, x_lconst, x_fconst0, x_fconst1, x_fconst2, x_dconst0, x_dconst1, x_null, x_iadd, x_isub, x_imul, x_iand, x_ior, x_idiv, x_irem, x_ineg, x_ishl, x_ishr, x_land, x_lor, x_lushr, x_lshl, x_lcmp, x_i2l, x_l2i, x_i2c, x_i2f, x_f2d, x_d2i, x_d2l, x_fadd, x_fsub, x_fmul, x_fdiv, x_dadd, x_dsub, x_dmul, x_ddiv, x_fcmp, x_dcmp, x_dupI, x_dupR, x_dup2, x_popI, x_popR, ldP_I, ldP_L, ldP_F, ldP_D, ldP_R, ldP_N, x_iload, x_iload_n, x_lload, x_lload_n, x_fload, x_fload_n, x_dload, x_dload_n, x_aload, x_aload_n, x_istore, x_istore_n, x_lstore, x_lstore_n, x_fstore, x_fstore_n, x_dstore, x_dstore_n, x_astore, x_astore_n, x_astoreN, x_astore_nN, x_icmp_eq, x_icmp_ne, x_icmp_lt, x_icmp_ge, x_icmp_gt, x_icmp_le, x_if_eq, x_if_ne, x_if_lt, x_if_ge, x_if_gt, x_if_le, x_ifnull, x_ifnullR, x_ifnn, x_ifnnR, x_aaload2, x_cpI, x_cpF, x_bF, x_bD, x_oI, xk_bipush_120, xk_iconst_0, xk_bipush_m6, xk_iconst_1, xk_bipush_80, xk_bipush_48, xk_bipush_57, xk_bipush_10, xk_bipush_64, xk_bipush_46, xk_bipush_97, xk_bipush_122, xk_bipush_119, xk_bipush_61, xk_bipush_59, xk_bipush_8, xk_bipush_33, xk_bipush_126, xk_bipush_m2, xk_bipush_m4, xk_iconst_4, xk_bipush_6, xk_iconst_2, xk_bipush_40, xk_iconst_3, xk_iconst_5, xk_iconst_m1, xk_bipush_m5, xk_bipush_12, xk_bipush_100, xk_bipush_26, xk_sipush_9999, xk_sipush_500, xk_bipush_7, xk_bipush_m126, xk_bipush_127, xk_bipush_23, xk_sipush_m1022, xk_sipush_1023, xk_bipush_52, xk_bipush_m3, xk_sipush_9830, xk_sipush_4800, xk_sipush_983, xk_sipush_480, xk_bipush_13, xk_bipush_18, xk_bipush_9, xk_bipush_32, xg_0_0, xp_0_0, xg_0_1, xp_0_1, xg_0_2, xp_0_2, xg_0_3, xp_0_3, xg_0_4, xp_0_4, xg_0_5, xp_0_5, xg_0_6, xp_0_6, xg_0_7, xp_0_7, xg_0_8, xp_0_8, xg_1_0, xp_1_0, xg_1_1, xp_1_1, xg_1_2, xp_1_2, xg_1_3, xp_1_3, xg_2_0, xp_2_0, xg_2_1, xp_2_1, xg_2_2, xp_2_2, xg_3_0, xp_3_0, xg_3_1, xp_3_1, xg_3_2, xp_3_2, xg_3_3, xp_3_3, xg_3_4, xp_3_4, xg_3_5, xp_3_5, xg_3_6, xp_3_6, xg_3_7, xp_3_7, xg_3_8, xp_3_8, xg_3_9, xp_3_9, xg_3_10, xp_3_10, xg_3_11, xp_3_11, xg_4_0, xp_4_0, xg_4_1, xp_4_1, xg_5_0, xp_5_0, xg_5_1, xp_5_1, xg_6_0, xp_6_0, xg_6_1, xp_6_1, xg_6_2, xp_6_2, xg_6_3, xp_6_3, xg_6_4, xp_6_4, xg_6_5, xp_6_5, xg_7_0, xp_7_0, xg_7_1, xp_7_1, xg_7_2, xp_7_2, xg_7_3, xp_7_3, xg_7_4, xp_7_4, xg_7_5, xp_7_5, xg_7_6, xp_7_6, xg_7_7, xp_7_7, xg_7_8, xp_7_8, xg_7_9, xp_7_9, xg_7_10, xp_7_10, xg_7_11, xp_7_11, xg_7_12, xp_7_12, xg_7_13, xp_7_13, fv0, fv1, fv2, fv3, kI_0, kI_1, stL, wipeL, entLn, entL, List.getElem?_cons_zero, List.getElem?_cons_succ, List.getElem?_nil, List.set_cons_zero, List.set_cons_succ, List.set_nil, List.length_cons, List.length_nil, List.cons_append, List.nil_append, List.replicate, Nat.reduceAdd, Nat.reduceLeDiff, Nat.reduceSub, true_and, and_true, x_callS, x_callSN, x_callI, x_callIN, x_callV0, x_callV1, x_callV2, x_callV3, x_callV4, x_callV5, x_callV6, x_callV7, callP, List.take_succ_cons, List.take_zero, List.take_nil, List.drop_succ_cons, List.drop_zero, List.drop_nil, List.getLast?_singleton, List.getLast?_cons_cons, Option.some.injEq, Value.ref.injEq, exists_eq_left, exists_eq_left', Nat.zero_le, Nat.add_zero, ldcV_f, ldcV_fn, ldcV_l, ldcV_d, Nat.reduceMul, Nat.le_refl, List.reverse_cons, List.reverse_nil, Option.toList, List.map_cons, List.map_nil, List.sum_cons, List.sum_nil, Value.category, tblW_n, tblW_c, Int.cast_ofNat_Int, Int.reduceAdd, Int.reduceToNat, ofI_n]
  obtain ⟨m0, m1, m2, m3, m4, m5, m6, m7, m8, m9, m10⟩ := hM.cF (a := a) (b := b) (m := k)
  simp only [m0, m1, m2, m3, m4, m5, m6, m7, m8, m9, m10, sK_stI, sR_stI, sK_stF, sR_stF, sK_stIA, sR_stIA, sK_stFA, sR_stFA, sI_stI, sI_stF, sI_stIA, sI_stFA, sF_stI, sF_stF, sF_stIA, sF_stFA, Nat.left_eq_add, Nat.add_eq_left, Nat.add_left_cancel_iff, Nat.reduceEqDiff, Nat.reduceEqDiff, Nat.succ_ne_self, false_and, and_false, if_false, if_true, nI_succ_sub, Option.some.injEq, Prod.mk.injEq, exists_eq_left', true_and, and_true, retI, retF, retV, retZ1, retZ0, retL, retA, retN, Nat.reduceAdd, Nat.reduceMul, Nat.reduceLT]
  simp (disch := omega) only [nlt0, nge0, neq0, ngt0, nle0, nI_ltI, nI_leI, nI_eq, nI_cl, in_nI, false_implies, true_implies, not_false_eq_true, not_true_eq_false, and_true, true_and, nI_add, pk_mul, implies_true, not_lt0]
  refine ⟨fun c => ?_, fun c => ⟨by omega, by omega, ?_⟩⟩
  · have e : k = 480 := by omega
    subst e
    exact h
  · rw [cF_s (by omega)]
    exact ih (by omega)
set_option maxHeartbeats 1000000 in
theorem lp_X7_copies (l : Launch) (G : Gx) {S : SS} {y a b : Nat} {E : Option Value → SS → Prop} (hM : ModAt S y) (ha : a < 10) (hb : b < 10) (h : E none (cF S y a b 480)) :
    ∀ k, k ≤ 983 → V l G mi_X7_copies E 2 [some (.ref y), some (.int (nI a)), some (.int (nI b)), some (.int (nI k))] [] (cI S y a b k) 0 0 := by
  refine loopUp 983 fun k hk ih => ?_
  refine (V.segN (Γ := Γ_X7_copies) (hΓ_X7_copies l G) so_X7_copies 5 (sg := sg_X7_copies_2) so_X7_copies_2 ?_ : V l G mi_X7_copies _ (segPc sg_X7_copies_2) _ _ _ _ _)
  simp only [mL_X7_copies, mT_X7_copies, rc_X7_copies, rs_X7_copies, Γ_X7_copies, sg_X7_copies_0, sg_X7_copies_2, sg_X7_copies_39, sg_X7_copies_41, sg_X7_copies_78, wn_X7_copies_0, wn_X7_copies_2, wn_X7_copies_39, wn_X7_copies_41, wn_X7_copies_78, wp_c, ex_c, x_nop, x_goto, x_table, x_iinc, x_ldc, x_ldc2, x_iaload, x_faload, x_baload, x_caload, x_iastore, x_fastore, x_bastore, x_castore, x_aastore, x_alen, x_gets, x_new, x_newa, x_anew, x_invs, x_invi, x_invv, x_ret, x_iret, x_lret, x_fret, x_aret, x_lconst, x_fconst0, x_fconst1, x_fconst2, x_dconst0, x_dconst1, x_null, x_iadd, x_isub, x_imul, x_iand, x_ior, x_idiv, x_irem, x_ineg, x_ishl, x_ishr, x_land, x_lor, x_lushr, x_lshl, x_lcmp, x_i2l, x_l2i, x_i2c, x_i2f, x_f2d, x_d2i, x_d2l, x_fadd, x_fsub, x_fmul, x_fdiv, x_dadd, x_dsub, x_dmul, x_ddiv, x_fcmp, x_dcmp, x_dupI, x_dupR, x_dup2, x_popI, x_popR, ldP_I, ldP_L, ldP_F, ldP_D, ldP_R, ldP_N, x_iload, x_iload_n, x_lload, x_lload_n, x_fload, x_fload_n, x_dload, x_dload_n, x_aload, x_aload_n, x_istore, x_istore_n, x_lstore, x_lstore_n, x_fstore, x_fstore_n, x_dstore, x_dstore_n, x_astore, x_astore_n, x_astoreN, x_astore_nN, x_icmp_eq, x_icmp_ne, x_icmp_lt, x_icmp_ge, x_icmp_gt, x_icmp_le, x_if_eq, x_if_ne, x_if_lt, x_if_ge, x_if_gt, x_if_le, x_ifnull, x_ifnullR, x_ifnn, x_ifnnR, x_aaload2, x_cpI, x_cpF, x_bF, x_bD, x_oI, xk_bipush_120, xk_iconst_0, xk_bipush_m6, xk_iconst_1, xk_bipush_80, xk_bipush_48, xk_bipush_57, xk_bipush_10, xk_bipush_64, xk_bipush_46, xk_bipush_97, xk_bipush_122, xk_bipush_119, xk_bipush_61, xk_bipush_59, xk_bipush_8, xk_bipush_33, xk_bipush_126, xk_bipush_m2, xk_bipush_m4, xk_iconst_4, xk_bipush_6, xk_iconst_2, xk_bipush_40, xk_iconst_3, xk_iconst_5, xk_iconst_m1, xk_bipush_m5, xk_bipush_12, xk_bipush_100, xk_bipush_26, xk_sipush_9999, xk_sipush_500, xk_bipush_7, xk_bipush_m126, xk_bipush_127, xk_bipush_23, xk_sipush_m1022, xk_sipush_1023, xk_bipush_52, xk_bipush_m3, xk_sipush_9830, xk_sipush_4800, xk_sipush_983, xk_sipush_480, xk_bipush_13, xk_bipush_18, xk_bipush_9, xk_bipush_32, xg_0_0, xp_0_0, xg_0_1, xp_0_1, xg_0_2, xp_0_2, xg_0_3, xp_0_3, xg_0_4, xp_0_4, xg_0_5, xp_0_5, xg_0_6, xp_0_6, xg_0_7, xp_0_7, xg_0_8, xp_0_8, xg_1_0, xp_1_0, xg_1_1, xp_1_1, xg_1_2, xp_1_2, xg_1_3, xp_1_3, xg_2_0, xp_2_0, xg_2_1, xp_2_1, xg_2_2, xp_2_2, xg_3_0, xp_3_0, xg_3_1, xp_3_1, xg_3_2, xp_3_2, xg_3_3, xp_3_3, xg_3_4, xp_3_4, xg_3_5, xp_3_5, xg_3_6, xp_3_6, xg_3_7, xp_3_7, xg_3_8, xp_3_8, xg_3_9, xp_3_9, xg_3_10, xp_3_10, xg_3_11, xp_3_11, xg_4_0, xp_4_0, xg_4_1, xp_4_1, xg_5_0, xp_5_0, xg_5_1, xp_5_1, xg_6_0, xp_6_0, xg_6_1, xp_6_1, xg_6_2, xp_6_2, xg_6_3, xp_6_3, xg_6_4, xp_6_4, xg_6_5, xp_6_5, xg_7_0, xp_7_0, xg_7_1, xp_7_1, xg_7_2, xp_7_2, xg_7_3, xp_7_3, xg_7_4, xp_7_4, xg_7_5, xp_7_5, xg_7_6, xp_7_6, xg_7_7, xp_7_7, xg_7_8, xp_7_8, xg_7_9, xp_7_9, xg_7_10, xp_7_10, xg_7_11, xp_7_11, xg_7_12, xp_7_12, xg_7_13, xp_7_13, fv0, fv1, fv2, fv3, kI_0, kI_1, stL, wipeL, entLn, entL, List.getElem?_cons_zero, List.getElem?_cons_succ, List.getElem?_nil, List.set_cons_zero, List.set_cons_succ, List.set_nil, List.length_cons, List.length_nil, List.cons_append, List.nil_append, List.replicate, Nat.reduceAdd, Nat.reduceLeDiff, Nat.reduceSub, true_and, and_true, x_callS, x_callSN, x_callI, x_callIN, x_callV0, x_callV1, x_callV2, x_callV3, x_callV4, x_callV5, x_callV6, x_callV7, callP, List.take_succ_cons, List.take_zero, List.take_nil, List.drop_succ_cons, List.drop_zero, List.drop_nil, List.getLast?_singleton, List.getLast?_cons_cons, Option.some.injEq, Value.ref.injEq, exists_eq_left, exists_eq_left', Nat.zero_le, Nat.add_zero, ldcV_f, ldcV_fn, ldcV_l, ldcV_d, Nat.reduceMul, Nat.le_refl, List.reverse_cons, List.reverse_nil, Option.toList, List.map_cons, List.map_nil, List.sum_cons, List.sum_nil, Value.category, tblW_n, tblW_c, Int.cast_ofNat_Int, Int.reduceAdd, Int.reduceToNat, ofI_n]
  obtain ⟨m0, m1, m2, m3, m4, m5, m6, m7, m8, m9, m10⟩ := hM.cI (a := a) (b := b) (m := k)
  simp only [m0, m1, m2, m3, m4, m5, m6, m7, m8, m9, m10, sK_stI, sR_stI, sK_stF, sR_stF, sK_stIA, sR_stIA, sK_stFA, sR_stFA, sI_stI, sI_stF, sI_stIA, sI_stFA, sF_stI, sF_stF, sF_stIA, sF_stFA, Nat.left_eq_add, Nat.add_eq_left, Nat.add_left_cancel_iff, Nat.reduceEqDiff, Nat.reduceEqDiff, Nat.succ_ne_self, false_and, and_false, if_false, if_true, nI_succ_sub, Option.some.injEq, Prod.mk.injEq, exists_eq_left', true_and, and_true, retI, retF, retV, retZ1, retZ0, retL, retA, retN, Nat.reduceAdd, Nat.reduceMul, Nat.reduceLT]
  simp (disch := omega) only [nlt0, nge0, neq0, ngt0, nle0, nI_ltI, nI_leI, nI_eq, nI_cl, in_nI, false_implies, true_implies, not_false_eq_true, not_true_eq_false, and_true, true_and, nI_add, pk_mul, implies_true, not_lt0]
  refine ⟨fun c => ?_, fun c => ⟨by omega, by omega, ?_⟩⟩
  · have e : k = 983 := by omega
    subst e
    have e := lp2_X7_copies l G hM ha hb h 0 (by omega)
    rw [cF_0] at e
    exact e
  · rw [cI_s (by omega)]
    exact ih (by omega)
set_option maxHeartbeats 1000000 in
theorem ct_X7_copies (l : Launch) (G : Gx) : Ct l G mi_X7_copies P_X7_copies := by
  refine Ct.ofV mo_X7_copies (fun as S E h => ?_)
  unfold P_X7_copies at h
  split at h
  case h_2 => exact h.elim
  rename_i y a b
  refine ⟨by simp [entL, mL_X7_copies], ?_⟩
  refine wpN_ok (Γ := Γ_X7_copies) (hΓ_X7_copies l G) so_X7_copies 5 _ _ _ _ _ _ ?_
  simp only [mL_X7_copies, mT_X7_copies, rc_X7_copies, rs_X7_copies, Γ_X7_copies, sg_X7_copies_0, sg_X7_copies_2, sg_X7_copies_39, sg_X7_copies_41, sg_X7_copies_78, wn_X7_copies_0, wn_X7_copies_2, wn_X7_copies_39, wn_X7_copies_41, wn_X7_copies_78, wp_c, ex_c, x_nop, x_goto, x_table, x_iinc, x_ldc, x_ldc2, x_iaload, x_faload, x_baload, x_caload, x_iastore, x_fastore, x_bastore, x_castore, x_aastore, x_alen, x_gets, x_new, x_newa, x_anew, x_invs, x_invi, x_invv, x_ret, x_iret, x_lret, x_fret, x_aret, x_lconst, x_fconst0, x_fconst1, x_fconst2, x_dconst0, x_dconst1, x_null, x_iadd, x_isub, x_imul, x_iand, x_ior, x_idiv, x_irem, x_ineg, x_ishl, x_ishr, x_land, x_lor, x_lushr, x_lshl, x_lcmp, x_i2l, x_l2i, x_i2c, x_i2f, x_f2d, x_d2i, x_d2l, x_fadd, x_fsub, x_fmul, x_fdiv, x_dadd, x_dsub, x_dmul, x_ddiv, x_fcmp, x_dcmp, x_dupI, x_dupR, x_dup2, x_popI, x_popR, ldP_I, ldP_L, ldP_F, ldP_D, ldP_R, ldP_N, x_iload, x_iload_n, x_lload, x_lload_n, x_fload, x_fload_n, x_dload, x_dload_n, x_aload, x_aload_n, x_istore, x_istore_n, x_lstore, x_lstore_n, x_fstore, x_fstore_n, x_dstore, x_dstore_n, x_astore, x_astore_n, x_astoreN, x_astore_nN, x_icmp_eq, x_icmp_ne, x_icmp_lt, x_icmp_ge, x_icmp_gt, x_icmp_le, x_if_eq, x_if_ne, x_if_lt, x_if_ge, x_if_gt, x_if_le, x_ifnull, x_ifnullR, x_ifnn, x_ifnnR, x_aaload2, x_cpI, x_cpF, x_bF, x_bD, x_oI, xk_bipush_120, xk_iconst_0, xk_bipush_m6, xk_iconst_1, xk_bipush_80, xk_bipush_48, xk_bipush_57, xk_bipush_10, xk_bipush_64, xk_bipush_46, xk_bipush_97, xk_bipush_122, xk_bipush_119, xk_bipush_61, xk_bipush_59, xk_bipush_8, xk_bipush_33, xk_bipush_126, xk_bipush_m2, xk_bipush_m4, xk_iconst_4, xk_bipush_6, xk_iconst_2, xk_bipush_40, xk_iconst_3, xk_iconst_5, xk_iconst_m1, xk_bipush_m5, xk_bipush_12, xk_bipush_100, xk_bipush_26, xk_sipush_9999, xk_sipush_500, xk_bipush_7, xk_bipush_m126, xk_bipush_127, xk_bipush_23, xk_sipush_m1022, xk_sipush_1023, xk_bipush_52, xk_bipush_m3, xk_sipush_9830, xk_sipush_4800, xk_sipush_983, xk_sipush_480, xk_bipush_13, xk_bipush_18, xk_bipush_9, xk_bipush_32, xg_0_0, xp_0_0, xg_0_1, xp_0_1, xg_0_2, xp_0_2, xg_0_3, xp_0_3, xg_0_4, xp_0_4, xg_0_5, xp_0_5, xg_0_6, xp_0_6, xg_0_7, xp_0_7, xg_0_8, xp_0_8, xg_1_0, xp_1_0, xg_1_1, xp_1_1, xg_1_2, xp_1_2, xg_1_3, xp_1_3, xg_2_0, xp_2_0, xg_2_1, xp_2_1, xg_2_2, xp_2_2, xg_3_0, xp_3_0, xg_3_1, xp_3_1, xg_3_2, xp_3_2, xg_3_3, xp_3_3, xg_3_4, xp_3_4, xg_3_5, xp_3_5, xg_3_6, xp_3_6, xg_3_7, xp_3_7, xg_3_8, xp_3_8, xg_3_9, xp_3_9, xg_3_10, xp_3_10, xg_3_11, xp_3_11, xg_4_0, xp_4_0, xg_4_1, xp_4_1, xg_5_0, xp_5_0, xg_5_1, xp_5_1, xg_6_0, xp_6_0, xg_6_1, xp_6_1, xg_6_2, xp_6_2, xg_6_3, xp_6_3, xg_6_4, xp_6_4, xg_6_5, xp_6_5, xg_7_0, xp_7_0, xg_7_1, xp_7_1, xg_7_2, xp_7_2, xg_7_3, xp_7_3, xg_7_4, xp_7_4, xg_7_5, xp_7_5, xg_7_6, xp_7_6, xg_7_7, xp_7_7, xg_7_8, xp_7_8, xg_7_9, xp_7_9, xg_7_10, xp_7_10, xg_7_11, xp_7_11, xg_7_12, xp_7_12, xg_7_13, xp_7_13, fv0, fv1, fv2, fv3, kI_0, kI_1, stL, wipeL, entLn, entL, List.getElem?_cons_zero, List.getElem?_cons_succ, List.getElem?_nil, List.set_cons_zero, List.set_cons_succ, List.set_nil, List.length_cons, List.length_nil, List.cons_append, List.nil_append, List.replicate, Nat.reduceAdd, Nat.reduceLeDiff, Nat.reduceSub, true_and, and_true, x_callS, x_callSN, x_callI, x_callIN, x_callV0, x_callV1, x_callV2, x_callV3, x_callV4, x_callV5, x_callV6, x_callV7, callP, List.take_succ_cons, List.take_zero, List.take_nil, List.drop_succ_cons, List.drop_zero, List.drop_nil, List.getLast?_singleton, List.getLast?_cons_cons, Option.some.injEq, Value.ref.injEq, exists_eq_left, exists_eq_left', Nat.zero_le, Nat.add_zero, ldcV_f, ldcV_fn, ldcV_l, ldcV_d, Nat.reduceMul, Nat.le_refl, List.reverse_cons, List.reverse_nil, Option.toList, List.map_cons, List.map_nil, List.sum_cons, List.sum_nil, Value.category, tblW_n, tblW_c, Int.cast_ofNat_Int, Int.reduceAdd, Int.reduceToNat, ofI_n]
  obtain ⟨hM, h1, h2, h⟩ := h
  obtain ⟨a, ha, rfl⟩ := vp_in_of h1 (by decide)
  obtain ⟨b, hb, rfl⟩ := vp_in_of h2 (by decide)
  simp (disch := omega) only [nlt0, nge0, neq0, ngt0, nle0, nI_ltI, nI_leI, nI_eq, nI_cl, in_nI, false_implies, true_implies, not_false_eq_true, not_true_eq_false, and_true, true_and, nI_add, pk_mul, implies_true, not_lt0] at h
  have e := lp_X7_copies l G hM ha hb (h _ (cF_fr S y a b) (cF_to S y a b) (fun q hq => cF_else hq)) 0 (by omega)
  rw [cI_0] at e
  exact e
theorem Qs.sti {S T : SS} {y k q r : Nat} {v : Int32} (h : Qs (stI S y k v) T y q r) : Qs S T y q r := ⟨fun j hj => by
    have := h.1 j hj
    rwa [sI_stI, if_neg (by omega)] at this, h.2⟩
def P_X7_changes (as : List Value) (S : SS) (E : Option Value → SS → Prop) : Prop := match as with
  | [.ref y] => ModAt S y ∧ ∃ kc, kc ≤ 6 ∧ sI S y 2 = nI kc ∧ ∀ T, Fr S T y (y + 3) → sI T y = upV (sI S y) 2 (nI (min (kc + 1) 6)) → Qs S T y (min (kc + 1) 6) 0 → (∀ q, 1 ≤ q → q < min (kc + 1) 6 → Qs S T y q (if kc = 6 then q + 1 else q)) → Qs S T y 0 0 → (∀ q, 7 ≤ q → Qs S T y q q) → E none T
  | _ => False
def Γ_X7_changes : List (MI × PT) := [(mi_X7_copies, P_X7_copies)]
theorem hΓ_X7_changes (l : Launch) (G : Gx) : ∀ q ∈ Γ_X7_changes, Ct l G q.1 q.2 := List.forall_mem_cons.mpr ⟨ct_X7_copies l G, fun _ h => absurd h List.not_mem_nil⟩
def chI (S T : SS) (y k : Nat) : Prop := Fr S T (y + 1) (y + 3) ∧ (∀ q, 1 ≤ q → q < k → Qs S T y q (q + 1)) ∧ ∀ q, q = 0 ∨ k ≤ q → Qs S T y q q
set_option maxHeartbeats 1000000 in
theorem lp_X7_changes (l : Launch) (G : Gx) {S : SS} {y : Nat} {E : Option Value → SS → Prop} (hM : ModAt S y) (hk6 : sI S y 2 = nI 6) (h : ∀ T, Fr S T y (y + 3) → sI T y = upV (sI S y) 2 (nI 6) → Qs S T y 6 0 → (∀ q, 1 ≤ q → q < 6 → Qs S T y q (q + 1)) → Qs S T y 0 0 → (∀ q, 7 ≤ q → Qs S T y q q) → E none T) :
    ∀ k, k ≤ 5 → ∀ T, chI S T y (k + 1) → V l G mi_X7_changes E 11 [some (.ref y), some (.int (nI (k + 1)))] [] T 0 0 := by
  refine loopUp 5 fun k hk ih T hT => ?_
  refine (V.segN (Γ := Γ_X7_changes) (hΓ_X7_changes l G) so_X7_changes 5 (sg := sg_X7_changes_11) so_X7_changes_11 ?_ : V l G mi_X7_changes _ (segPc sg_X7_changes_11) _ _ _ _ _)
  simp only [mL_X7_changes, mT_X7_changes, rc_X7_changes, rs_X7_changes, Γ_X7_changes, sg_X7_changes_0, sg_X7_changes_11, sg_X7_changes_31, sg_X7_changes_41, wn_X7_changes_0, wn_X7_changes_11, wn_X7_changes_31, wn_X7_changes_41, wp_c, ex_c, x_nop, x_goto, x_table, x_iinc, x_ldc, x_ldc2, x_iaload, x_faload, x_baload, x_caload, x_iastore, x_fastore, x_bastore, x_castore, x_aastore, x_alen, x_gets, x_new, x_newa, x_anew, x_invs, x_invi, x_invv, x_ret, x_iret, x_lret, x_fret, x_aret, x_lconst, x_fconst0, x_fconst1, x_fconst2, x_dconst0, x_dconst1, x_null, x_iadd, x_isub, x_imul, x_iand, x_ior, x_idiv, x_irem, x_ineg, x_ishl, x_ishr, x_land, x_lor, x_lushr, x_lshl, x_lcmp, x_i2l, x_l2i, x_i2c, x_i2f, x_f2d, x_d2i, x_d2l, x_fadd, x_fsub, x_fmul, x_fdiv, x_dadd, x_dsub, x_dmul, x_ddiv, x_fcmp, x_dcmp, x_dupI, x_dupR, x_dup2, x_popI, x_popR, ldP_I, ldP_L, ldP_F, ldP_D, ldP_R, ldP_N, x_iload, x_iload_n, x_lload, x_lload_n, x_fload, x_fload_n, x_dload, x_dload_n, x_aload, x_aload_n, x_istore, x_istore_n, x_lstore, x_lstore_n, x_fstore, x_fstore_n, x_dstore, x_dstore_n, x_astore, x_astore_n, x_astoreN, x_astore_nN, x_icmp_eq, x_icmp_ne, x_icmp_lt, x_icmp_ge, x_icmp_gt, x_icmp_le, x_if_eq, x_if_ne, x_if_lt, x_if_ge, x_if_gt, x_if_le, x_ifnull, x_ifnullR, x_ifnn, x_ifnnR, x_aaload2, x_cpI, x_cpF, x_bF, x_bD, x_oI, xk_bipush_120, xk_iconst_0, xk_bipush_m6, xk_iconst_1, xk_bipush_80, xk_bipush_48, xk_bipush_57, xk_bipush_10, xk_bipush_64, xk_bipush_46, xk_bipush_97, xk_bipush_122, xk_bipush_119, xk_bipush_61, xk_bipush_59, xk_bipush_8, xk_bipush_33, xk_bipush_126, xk_bipush_m2, xk_bipush_m4, xk_iconst_4, xk_bipush_6, xk_iconst_2, xk_bipush_40, xk_iconst_3, xk_iconst_5, xk_iconst_m1, xk_bipush_m5, xk_bipush_12, xk_bipush_100, xk_bipush_26, xk_sipush_9999, xk_sipush_500, xk_bipush_7, xk_bipush_m126, xk_bipush_127, xk_bipush_23, xk_sipush_m1022, xk_sipush_1023, xk_bipush_52, xk_bipush_m3, xk_sipush_9830, xk_sipush_4800, xk_sipush_983, xk_sipush_480, xk_bipush_13, xk_bipush_18, xk_bipush_9, xk_bipush_32, xg_0_0, xp_0_0, xg_0_1, xp_0_1, xg_0_2, xp_0_2, xg_0_3, xp_0_3, xg_0_4, xp_0_4, xg_0_5, xp_0_5, xg_0_6, xp_0_6, xg_0_7, xp_0_7, xg_0_8, xp_0_8, xg_1_0, xp_1_0, xg_1_1, xp_1_1, xg_1_2, xp_1_2, xg_1_3, xp_1_3, xg_2_0, xp_2_0, xg_2_1, xp_2_1, xg_2_2, xp_2_2, xg_3_0, xp_3_0, xg_3_1, xp_3_1, xg_3_2, xp_3_2, xg_3_3, xp_3_3, xg_3_4, xp_3_4, xg_3_5, xp_3_5, xg_3_6, xp_3_6, xg_3_7, xp_3_7, xg_3_8, xp_3_8, xg_3_9, xp_3_9, xg_3_10, xp_3_10, xg_3_11, xp_3_11, xg_4_0, xp_4_0, xg_4_1, xp_4_1, xg_5_0, xp_5_0, xg_5_1, xp_5_1, xg_6_0, xp_6_0, xg_6_1, xp_6_1, xg_6_2, xp_6_2, xg_6_3, xp_6_3, xg_6_4, xp_6_4, xg_6_5, xp_6_5, xg_7_0, xp_7_0, xg_7_1, xp_7_1, xg_7_2, xp_7_2, xg_7_3, xp_7_3, xg_7_4, xp_7_4, xg_7_5, xp_7_5, xg_7_6, xp_7_6, xg_7_7, xp_7_7, xg_7_8, xp_7_8, xg_7_9, xp_7_9, xg_7_10, xp_7_10, xg_7_11, xp_7_11, xg_7_12, xp_7_12, xg_7_13, xp_7_13, fv0, fv1, fv2, fv3, kI_0, kI_1, stL, wipeL, entLn, entL, List.getElem?_cons_zero, List.getElem?_cons_succ, List.getElem?_nil, List.set_cons_zero, List.set_cons_succ, List.set_nil, List.length_cons, List.length_nil, List.cons_append, List.nil_append, List.replicate, Nat.reduceAdd, Nat.reduceLeDiff, Nat.reduceSub, true_and, and_true, x_callS, x_callSN, x_callI, x_callIN, x_callV0, x_callV1, x_callV2, x_callV3, x_callV4, x_callV5, x_callV6, x_callV7, callP, List.take_succ_cons, List.take_zero, List.take_nil, List.drop_succ_cons, List.drop_zero, List.drop_nil, List.getLast?_singleton, List.getLast?_cons_cons, Option.some.injEq, Value.ref.injEq, exists_eq_left, exists_eq_left', Nat.zero_le, Nat.add_zero, ldcV_f, ldcV_fn, ldcV_l, ldcV_d, Nat.reduceMul, Nat.le_refl, List.reverse_cons, List.reverse_nil, Option.toList, List.map_cons, List.map_nil, List.sum_cons, List.sum_nil, Value.category, tblW_n, tblW_c, Int.cast_ofNat_Int, Int.reduceAdd, Int.reduceToNat, ofI_n, rc_X7_copies, rs_X7_copies, P_X7_copies]
  obtain ⟨hF, hA, hB⟩ := hT
  have hM0 := hF.mod hM
  obtain ⟨m0, m1, m2, m3, m4, m5, m6, m7, m8, m9, m10⟩ := hM0
  have ey : sI T y = sI S y := hF.i (by omega)
  simp only [m0, m1, m2, m3, m4, m5, m6, m7, m8, m9, m10, ey, hk6, hF.mod hM, sK_stI, sR_stI, sK_stF, sR_stF, sK_stIA, sR_stIA, sK_stFA, sR_stFA, sI_stI, sI_stF, sI_stIA, sI_stFA, sF_stI, sF_stF, sF_stIA, sF_stFA, Nat.left_eq_add, Nat.add_eq_left, Nat.add_left_cancel_iff, Nat.reduceEqDiff, Nat.reduceEqDiff, Nat.succ_ne_self, false_and, and_false, if_false, if_true, nI_succ_sub, Option.some.injEq, Prod.mk.injEq, exists_eq_left', true_and, and_true, retI, retF, retV, retZ1, retZ0, retL, retA, retN, Nat.reduceAdd, Nat.reduceMul, Nat.reduceLT]
  simp (disch := omega) only [nlt0, nge0, neq0, ngt0, nle0, nI_ltI, nI_leI, nI_eq, nI_cl, in_nI, false_implies, true_implies, not_false_eq_true, not_true_eq_false, and_true, true_and, nI_add, pk_mul, implies_true, not_lt0]
  have hT : chI S T y (k + 1) := ⟨hF, hA, hB⟩
  refine ⟨fun c => ⟨(hF.mod hM).mk' rfl rfl, by omega, by omega, fun U hU q1 q2 => ?_⟩, fun c => ⟨by omega, by omega, fun U hU q1 q2 => ih (by omega) U ⟨hF.trans hU, fun q a b => ?_, fun q a => ?_⟩⟩⟩
  · have e : k = 5 := by omega
    subst e
    have q1 := q1.sti.sti
    have q2 : ∀ q, ¬ q = 6 → Qs T U y q q := fun q a => (q2 q a).sti.sti
    refine h U ((hF.mono (by omega) (by omega)).trans ((((Fr.refl T y (y + 3)).stI y 2 (nI 5) (by omega) (by omega)).stI y 2 (nI (5 + 1)) (by omega) (by omega)).trans (hU.mono (by omega) (by omega)))) ?_ ?_ (fun q a b => ?_) ?_ (fun q a => ?_)
    · rw [hU.i (by omega), sI_row, if_pos rfl, sI_row, if_pos rfl, ey]
      funext j
      unfold upV
      by_cases c : j = 2 <;> simp [c]
    · exact (hB 0 (Or.inl rfl)).trans q1
    · exact (hA q a (by omega)).trans (q2 q (by omega))
    · exact (hB 0 (Or.inl rfl)).trans (q2 0 (by omega))
    · exact (hB q (Or.inr (by omega))).trans (q2 q (by omega))
  · by_cases c2 : q = k + 1
    · subst c2
      exact (hB _ (Or.inr (by omega))).trans q1
    · exact (hA q a (by omega)).trans (q2 q c2)
  · exact (hB q (by omega)).trans (q2 q (by omega))
set_option maxHeartbeats 1000000 in
theorem ct_X7_changes (l : Launch) (G : Gx) : Ct l G mi_X7_changes P_X7_changes := by
  refine Ct.ofV mo_X7_changes (fun as S E h => ?_)
  unfold P_X7_changes at h
  split at h
  case h_2 => exact h.elim
  rename_i y
  refine ⟨by simp [entL, mL_X7_changes], ?_⟩
  refine wpN_ok (Γ := Γ_X7_changes) (hΓ_X7_changes l G) so_X7_changes 5 _ _ _ _ _ _ ?_
  simp only [mL_X7_changes, mT_X7_changes, rc_X7_changes, rs_X7_changes, Γ_X7_changes, sg_X7_changes_0, sg_X7_changes_11, sg_X7_changes_31, sg_X7_changes_41, wn_X7_changes_0, wn_X7_changes_11, wn_X7_changes_31, wn_X7_changes_41, wp_c, ex_c, x_nop, x_goto, x_table, x_iinc, x_ldc, x_ldc2, x_iaload, x_faload, x_baload, x_caload, x_iastore, x_fastore, x_bastore, x_castore, x_aastore, x_alen, x_gets, x_new, x_newa, x_anew, x_invs, x_invi, x_invv, x_ret, x_iret, x_lret, x_fret, x_aret, x_lconst, x_fconst0, x_fconst1, x_fconst2, x_dconst0, x_dconst1, x_null, x_iadd, x_isub, x_imul, x_iand, x_ior, x_idiv, x_irem, x_ineg, x_ishl, x_ishr, x_land, x_lor, x_lushr, x_lshl, x_lcmp, x_i2l, x_l2i, x_i2c, x_i2f, x_f2d, x_d2i, x_d2l, x_fadd, x_fsub, x_fmul, x_fdiv, x_dadd, x_dsub, x_dmul, x_ddiv, x_fcmp, x_dcmp, x_dupI, x_dupR, x_dup2, x_popI, x_popR, ldP_I, ldP_L, ldP_F, ldP_D, ldP_R, ldP_N, x_iload, x_iload_n, x_lload, x_lload_n, x_fload, x_fload_n, x_dload, x_dload_n, x_aload, x_aload_n, x_istore, x_istore_n, x_lstore, x_lstore_n, x_fstore, x_fstore_n, x_dstore, x_dstore_n, x_astore, x_astore_n, x_astoreN, x_astore_nN, x_icmp_eq, x_icmp_ne, x_icmp_lt, x_icmp_ge, x_icmp_gt, x_icmp_le, x_if_eq, x_if_ne, x_if_lt, x_if_ge, x_if_gt, x_if_le, x_ifnull, x_ifnullR, x_ifnn, x_ifnnR, x_aaload2, x_cpI, x_cpF, x_bF, x_bD, x_oI, xk_bipush_120, xk_iconst_0, xk_bipush_m6, xk_iconst_1, xk_bipush_80, xk_bipush_48, xk_bipush_57, xk_bipush_10, xk_bipush_64, xk_bipush_46, xk_bipush_97, xk_bipush_122, xk_bipush_119, xk_bipush_61, xk_bipush_59, xk_bipush_8, xk_bipush_33, xk_bipush_126, xk_bipush_m2, xk_bipush_m4, xk_iconst_4, xk_bipush_6, xk_iconst_2, xk_bipush_40, xk_iconst_3, xk_iconst_5, xk_iconst_m1, xk_bipush_m5, xk_bipush_12, xk_bipush_100, xk_bipush_26, xk_sipush_9999, xk_sipush_500, xk_bipush_7, xk_bipush_m126, xk_bipush_127, xk_bipush_23, xk_sipush_m1022, xk_sipush_1023, xk_bipush_52, xk_bipush_m3, xk_sipush_9830, xk_sipush_4800, xk_sipush_983, xk_sipush_480, xk_bipush_13, xk_bipush_18, xk_bipush_9, xk_bipush_32, xg_0_0, xp_0_0, xg_0_1, xp_0_1, xg_0_2, xp_0_2, xg_0_3, xp_0_3, xg_0_4, xp_0_4, xg_0_5, xp_0_5, xg_0_6, xp_0_6, xg_0_7, xp_0_7, xg_0_8, xp_0_8, xg_1_0, xp_1_0, xg_1_1, xp_1_1, xg_1_2, xp_1_2, xg_1_3, xp_1_3, xg_2_0, xp_2_0, xg_2_1, xp_2_1, xg_2_2, xp_2_2, xg_3_0, xp_3_0, xg_3_1, xp_3_1, xg_3_2, xp_3_2, xg_3_3, xp_3_3, xg_3_4, xp_3_4, xg_3_5, xp_3_5, xg_3_6, xp_3_6, xg_3_7, xp_3_7, xg_3_8, xp_3_8, xg_3_9, xp_3_9, xg_3_10, xp_3_10, xg_3_11, xp_3_11, xg_4_0, xp_4_0, xg_4_1, xp_4_1, xg_5_0, xp_5_0, xg_5_1, xp_5_1, xg_6_0, xp_6_0, xg_6_1, xp_6_1, xg_6_2, xp_6_2, xg_6_3, xp_6_3, xg_6_4, xp_6_4, xg_6_5, xp_6_5, xg_7_0, xp_7_0, xg_7_1, xp_7_1, xg_7_2, xp_7_2, xg_7_3, xp_7_3, xg_7_4, xp_7_4, xg_7_5, xp_7_5, xg_7_6, xp_7_6, xg_7_7, xp_7_7, xg_7_8, xp_7_8, xg_7_9, xp_7_9, xg_7_10, xp_7_10, xg_7_11, xp_7_11, xg_7_12, xp_7_12, xg_7_13, xp_7_13, fv0, fv1, fv2, fv3, kI_0, kI_1, stL, wipeL, entLn, entL, List.getElem?_cons_zero, List.getElem?_cons_succ, List.getElem?_nil, List.set_cons_zero, List.set_cons_succ, List.set_nil, List.length_cons, List.length_nil, List.cons_append, List.nil_append, List.replicate, Nat.reduceAdd, Nat.reduceLeDiff, Nat.reduceSub, true_and, and_true, x_callS, x_callSN, x_callI, x_callIN, x_callV0, x_callV1, x_callV2, x_callV3, x_callV4, x_callV5, x_callV6, x_callV7, callP, List.take_succ_cons, List.take_zero, List.take_nil, List.drop_succ_cons, List.drop_zero, List.drop_nil, List.getLast?_singleton, List.getLast?_cons_cons, Option.some.injEq, Value.ref.injEq, exists_eq_left, exists_eq_left', Nat.zero_le, Nat.add_zero, ldcV_f, ldcV_fn, ldcV_l, ldcV_d, Nat.reduceMul, Nat.le_refl, List.reverse_cons, List.reverse_nil, Option.toList, List.map_cons, List.map_nil, List.sum_cons, List.sum_nil, Value.category, tblW_n, tblW_c, Int.cast_ofNat_Int, Int.reduceAdd, Int.reduceToNat, ofI_n, rc_X7_copies, rs_X7_copies, P_X7_copies]
  obtain ⟨hM, kc, hkc, ek, h⟩ := h
  have hM0 := hM
  obtain ⟨m0, m1, m2, m3, m4, m5, m6, m7, m8, m9, m10⟩ := hM
  simp only [m0, m1, m2, m3, m4, m5, m6, m7, m8, m9, m10, ek, hM0, sK_stI, sR_stI, sK_stF, sR_stF, sK_stIA, sR_stIA, sK_stFA, sR_stFA, sI_stI, sI_stF, sI_stIA, sI_stFA, sF_stI, sF_stF, sF_stIA, sF_stFA, Nat.left_eq_add, Nat.add_eq_left, Nat.add_left_cancel_iff, Nat.reduceEqDiff, Nat.reduceEqDiff, Nat.succ_ne_self, false_and, and_false, if_false, if_true, nI_succ_sub, Option.some.injEq, Prod.mk.injEq, exists_eq_left', true_and, and_true, retI, retF, retV, retZ1, retZ0, retL, retA, retN, Nat.reduceAdd, Nat.reduceMul, Nat.reduceLT]
  simp (disch := omega) only [nlt0, nge0, neq0, ngt0, nle0, nI_ltI, nI_leI, nI_eq, nI_cl, in_nI, false_implies, true_implies, not_false_eq_true, not_true_eq_false, and_true, true_and, nI_add, pk_mul, implies_true, not_lt0]
  refine ⟨fun c => ⟨hM0.mk' rfl rfl, by omega, by omega, fun T hT q1 q2 => ?_⟩, fun c => ?_⟩
  · have q1 := q1.sti
    have q2 : ∀ q, ¬ q = kc + 1 → Qs S T y q q := fun q a => (q2 q a).sti
    have e : min (kc + 1) 6 = kc + 1 := by omega
    rw [e] at h
    refine h T (Fr.trans ((Fr.refl S y (y + 3)).stI y 2 (nI (kc + 1)) (Nat.le_refl _) (by omega)) (hT.mono (by omega) (by omega))) ?_ q1 (fun q a b => ?_) (q2 0 (by omega)) (fun q a => q2 q (by omega))
    · rw [hT.i (by omega), sI_row, if_pos rfl]
    · rw [if_neg c]
      exact q2 q (by omega)
  · have c := Decidable.not_not.mp c
    subst c
    refine lp_X7_changes l G hM0 ek (fun T a1 a2 a3 a4 a5 a6 => h T a1 a2 a3 (fun q b1 b2 => ?_) a5 a6) 0 (by omega) S ⟨Fr.refl _ _ _, fun q a b => absurd a (by omega), fun q _ => Qs.refl _ _ _⟩
    rw [if_pos rfl]
    exact a4 q b1 b2
