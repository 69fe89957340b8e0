-- needs: 60.mtext 35.text
/-! the reference reads texts -/
def TM (S : SS) (y : Nat) (T : Nat → Nat) (n : Nat) : Prop := n ≤ 80 ∧ sI S y 6 = nI n ∧ ∀ j, j < n → T j < 256 ∧ sI S (y + 5) j = nI (T j)
theorem TM.up {S : SS} {y : Nat} {T : Nat → Nat} {n : Nat} (h : TM S y T n) {g : Nat → Int32} (k : g 6 = sI S y 6) : TM (stIA S y g) y T n := by
  obtain ⟨h1, h2, h3⟩ := h
  refine ⟨h1, ?_, fun j hj => ?_⟩
  · rw [sI_stIA, if_pos rfl, k, h2]
  · rw [sI_stIA, if_neg (by omega)]
    exact h3 j hj
theorem ModAt.up {S : SS} {y a : Nat} {g : Nat → Int32} (h : ModAt S y) : ModAt (stIA S a g) y := h.mk' rfl rfl
theorem TM.ch {S : SS} {y : Nat} {T : Nat → Nat} {n i : Nat} (h : TM S y T n) : chP T n i < 256 := by
  unfold chP
  split
  · rename_i c; exact (h.2.2 i c).1
  · omega
def P_X7_isHere (as : List Value) (S : SS) (E : Option Value → SS → Prop) : Prop := match as with
  | [.ref y, .int lo, .int hi] => ∃ T n i a b, ModAt S y ∧ TM S y T n ∧ i < 100 ∧ sI S y 7 = nI i ∧ lo = nI a ∧ hi = nI b ∧ 1 ≤ a ∧ a < 256 ∧ b < 256 ∧ E (some (.int (bI (a ≤ chP T n i ∧ chP T n i ≤ b)))) S
  | _ => False
def Γ_X7_isHere : List (MI × PT) := [(mi_X7_in, P_X7_in)]
theorem hΓ_X7_isHere (l : Launch) (G : Gx) : ∀ q ∈ Γ_X7_isHere, Ct l G q.1 q.2 := List.forall_mem_cons.mpr ⟨ct_X7_in l G, fun _ h => absurd h List.not_mem_nil⟩
set_option maxHeartbeats 1000000 in
theorem ct_X7_isHere (l : Launch) (G : Gx) : Ct l G mi_X7_isHere P_X7_isHere := by
  refine Ct.ofV mo_X7_isHere (fun as S E h => ?_)
  unfold P_X7_isHere at h
  split at h
  case h_2 => exact h.elim
  rename_i y lo hi
  refine ⟨by simp [entL, mL_X7_isHere], ?_⟩
  refine wpN_ok (Γ := Γ_X7_isHere) (hΓ_X7_isHere l G) so_X7_isHere 5 _ _ _ _ _ _ ?_
  simp only [mL_X7_isHere, mT_X7_isHere, rc_X7_isHere, rs_X7_isHere, Γ_X7_isHere, sg_X7_isHere_0, sg_X7_isHere_35, sg_X7_isHere_36, wn_X7_isHere_0, wn_X7_isHere_35, wn_X7_isHere_36, wp_c, ex_c, x_nop, x_goto, x_table, x_iinc, x_ldc, x_ldc2, x_iaload, x_faload, x_baload, x_caload, x_iastore, x_fastore, x_bastore, x_castore, x_aastore, x_alen, x_gets, x_new, x_newa, x_anew, x_invs, x_invi, x_invv, x_ret, x_iret, x_lret, x_fret, x_aret, x_lconst, x_fconst0, x_fconst1, x_fconst2, x_dconst0, x_dconst1, x_null, x_iadd, x_isub, x_imul, x_iand, x_ior, x_idiv, x_irem, x_ineg, x_ishl, x_ishr, x_land, x_lor, x_lushr, x_lshl, x_lcmp, x_i2l, x_l2i, x_i2c, x_i2f, x_f2d, x_d2i, x_d2l, x_fadd, x_fsub, x_fmul, x_fdiv, x_dadd, x_dsub, x_dmul, x_ddiv, x_fcmp, x_dcmp, x_dupI, x_dupR, x_dup2, x_popI, x_popR, ldP_I, ldP_L, ldP_F, ldP_D, ldP_R, ldP_N, x_iload, x_iload_n, x_lload, x_lload_n, x_fload, x_fload_n, x_dload, x_dload_n, x_aload, x_aload_n, x_istore, x_istore_n, x_lstore, x_lstore_n, x_fstore, x_fstore_n, x_dstore, x_dstore_n, x_astore, x_astore_n, x_astoreN, x_astore_nN, x_icmp_eq, x_icmp_ne, x_icmp_lt, x_icmp_ge, x_icmp_gt, x_icmp_le, x_if_eq, x_if_ne, x_if_lt, x_if_ge, x_if_gt, x_if_le, x_ifnull, x_ifnullR, x_ifnn, x_ifnnR, x_aaload2, x_cpI, x_cpF, x_bF, x_bD, x_oI, xk_bipush_120, xk_iconst_0, xk_bipush_m6, xk_iconst_1, xk_bipush_80, xk_bipush_48, xk_bipush_57, xk_bipush_10, xk_bipush_64, xk_bipush_46, xk_bipush_97, xk_bipush_122, xk_bipush_119, xk_bipush_61, xk_bipush_59, xk_bipush_8, xk_bipush_33, xk_bipush_126, xk_bipush_m2, xk_bipush_m4, xk_iconst_4, xk_bipush_6, xk_iconst_2, xk_bipush_40, xk_iconst_3, xk_iconst_5, xk_iconst_m1, xk_bipush_m5, xk_bipush_12, xk_bipush_100, xk_bipush_26, xk_sipush_9999, xk_sipush_500, xk_bipush_7, xk_bipush_m126, xk_bipush_127, xk_bipush_23, xk_sipush_m1022, xk_sipush_1023, xk_bipush_52, xk_bipush_m3, xk_sipush_9830, xk_sipush_4800, xk_sipush_983, xk_sipush_480, xk_bipush_13, xk_bipush_18, xk_bipush_9, xk_bipush_32, xg_0_0, xp_0_0, xg_0_1, xp_0_1, xg_0_2, xp_0_2, xg_0_3, xp_0_3, xg_0_4, xp_0_4, xg_0_5, xp_0_5, xg_0_6, xp_0_6, xg_0_7, xp_0_7, xg_0_8, xp_0_8, xg_1_0, xp_1_0, xg_1_1, xp_1_1, xg_1_2, xp_1_2, xg_1_3, xp_1_3, xg_2_0, xp_2_0, xg_2_1, xp_2_1, xg_2_2, xp_2_2, xg_3_0, xp_3_0, xg_3_1, xp_3_1, xg_3_2, xp_3_2, xg_3_3, xp_3_3, xg_3_4, xp_3_4, xg_3_5, xp_3_5, xg_3_6, xp_3_6, xg_3_7, xp_3_7, xg_3_8, xp_3_8, xg_3_9, xp_3_9, xg_3_10, xp_3_10, xg_3_11, xp_3_11, xg_4_0, xp_4_0, xg_4_1, xp_4_1, xg_5_0, xp_5_0, xg_5_1, xp_5_1, xg_6_0, xp_6_0, xg_6_1, xp_6_1, xg_6_2, xp_6_2, xg_6_3, xp_6_3, xg_6_4, xp_6_4, xg_6_5, xp_6_5, xg_7_0, xp_7_0, xg_7_1, xp_7_1, xg_7_2, xp_7_2, xg_7_3, xp_7_3, xg_7_4, xp_7_4, xg_7_5, xp_7_5, xg_7_6, xp_7_6, xg_7_7, xp_7_7, xg_7_8, xp_7_8, xg_7_9, xp_7_9, xg_7_10, xp_7_10, xg_7_11, xp_7_11, xg_7_12, xp_7_12, xg_7_13, xp_7_13, fv0, fv1, fv2, fv3, kI_0, kI_1, stL, wipeL, entLn, entL, List.getElem?_cons_zero, List.getElem?_cons_succ, List.getElem?_nil, List.set_cons_zero, List.set_cons_succ, List.set_nil, List.length_cons, List.length_nil, List.cons_append, List.nil_append, List.replicate, Nat.reduceAdd, Nat.reduceLeDiff, Nat.reduceSub, true_and, and_true, x_callS, x_callSN, x_callI, x_callIN, x_callV0, x_callV1, x_callV2, x_callV3, x_callV4, x_callV5, x_callV6, x_callV7, callP, List.take_succ_cons, List.take_zero, List.take_nil, List.drop_succ_cons, List.drop_zero, List.drop_nil, List.getLast?_singleton, List.getLast?_cons_cons, Option.some.injEq, Value.ref.injEq, exists_eq_left, exists_eq_left', Nat.zero_le, Nat.add_zero, ldcV_f, ldcV_fn, ldcV_l, ldcV_d, Nat.reduceMul, Nat.le_refl, List.reverse_cons, List.reverse_nil, Option.toList, List.map_cons, List.map_nil, List.sum_cons, List.sum_nil, Value.category, tblW_n, tblW_c, Int.cast_ofNat_Int, Int.reduceAdd, Int.reduceToNat, ofI_n, rc_X7_in, rs_X7_in, P_X7_in]
  obtain ⟨T, n, i, a, b, hM, ⟨t1, t2, t3⟩, hi, e7, rfl, rfl, ha, ha2, hb, h⟩ := h
  obtain ⟨m0, m1, m2, m3, m4, m5, m6, m7, m8, m9, m10⟩ := hM
  simp only [m0, m1, m2, m3, m4, m5, m6, m7, m8, m9, m10, e7, t2, bI_0, sK_stI, sR_stI, sK_stF, sR_stF, sK_stIA, sR_stIA, sK_stFA, sR_stFA, sI_stI, sI_stF, sI_stIA, sI_stFA, sF_stI, sF_stF, sF_stIA, sF_stFA, Nat.left_eq_add, Nat.add_eq_left, Nat.add_left_cancel_iff, Nat.reduceEqDiff, Nat.reduceEqDiff, Nat.succ_ne_self, false_and, and_false, if_false, if_true, nI_succ_sub, Option.some.injEq, Prod.mk.injEq, exists_eq_left', true_and, and_true, retI, retF, retV, retZ1, retZ0, retL, retA, retN, Nat.reduceAdd, Nat.reduceMul, Nat.reduceLT]
  refine ⟨fun c => ?_, fun c => ?_⟩
  · simp (disch := omega) only [nlt0, nge0, neq0, ngt0, nle0, nI_ltI, nI_leI, nI_eq, nI_cl, in_nI, false_implies, true_implies, not_false_eq_true, not_true_eq_false, and_true, true_and, nI_add, pk_mul, implies_true, not_lt0] at c
    have e : chP T n i = 0 := if_neg (by omega)
    rw [e] at h
    rwa [bI_f (by omega)] at h
  · simp (disch := omega) only [nlt0, nge0, neq0, ngt0, nle0, nI_ltI, nI_leI, nI_eq, nI_cl, in_nI, false_implies, true_implies, not_false_eq_true, not_true_eq_false, and_true, true_and, nI_add, pk_mul, implies_true, not_lt0] at c
    have e : chP T n i = T i := if_pos (by omega)
    obtain ⟨q1, q2⟩ := t3 i (by omega)
    rw [e] at h
    simp (disch := omega) only [nlt0, nge0, neq0, ngt0, nle0, nI_ltI, nI_leI, nI_eq, nI_cl, in_nI, false_implies, true_implies, not_false_eq_true, not_true_eq_false, and_true, true_and, nI_add, pk_mul, implies_true, not_lt0, q2, i64le]
    refine ⟨by omega, fun c2 => ?_, fun c2 => ?_⟩
    · rwa [bI_f c2] at h
    · rwa [bI_t (Decidable.not_not.mp c2)] at h
def P_X7_takes (as : List Value) (S : SS) (E : Option Value → SS → Prop) : Prop := match as with
  | [.ref y, .int s] => ∃ T n i c, ModAt S y ∧ TM S y T n ∧ i < 100 ∧ sI S y 7 = nI i ∧ s = nI c ∧ 1 ≤ c ∧ c < 256 ∧ (chP T n i = c → E (some (.int (nI 1))) (stIA S y (upV (sI S y) 7 (nI (i + 1))))) ∧ (¬ chP T n i = c → E (some (.int (nI 0))) S)
  | _ => False
def Γ_X7_takes : List (MI × PT) := [(mi_X7_isHere, P_X7_isHere)]
theorem hΓ_X7_takes (l : Launch) (G : Gx) : ∀ q ∈ Γ_X7_takes, Ct l G q.1 q.2 := List.forall_mem_cons.mpr ⟨ct_X7_isHere l G, fun _ h => absurd h List.not_mem_nil⟩
theorem up_self {f : Nat → Int32} {k : Nat} {v : Int32} (h : f k = v) : upV f k v = f := by
  funext j
  unfold upV
  by_cases c : j = k
  · rw [if_pos c, c, h]
  · rw [if_neg c]
theorem st_self {S : SS} {a k : Nat} {v : Int32} (h : sI S a k = v) : stI S a k v = S := by
  rw [stI_row']
  have e : (fun j => if j = k then v else sI S a j) = sI S a := up_self h
  rw [e, stIA_self]
theorem st_up (S : SS) (a k : Nat) (v : Int32) : stI S a k v = stIA S a (upV (sI S a) k v) := stI_row' S a k v
set_option maxHeartbeats 1000000 in
theorem ct_X7_takes (l : Launch) (G : Gx) : Ct l G mi_X7_takes P_X7_takes := by
  refine Ct.ofV mo_X7_takes (fun as S E h => ?_)
  unfold P_X7_takes at h
  split at h
  case h_2 => exact h.elim
  rename_i y s
  refine ⟨by simp [entL, mL_X7_takes], ?_⟩
  refine wpN_ok (Γ := Γ_X7_takes) (hΓ_X7_takes l G) so_X7_takes 5 _ _ _ _ _ _ ?_
  simp only [mL_X7_takes, mT_X7_takes, rc_X7_takes, rs_X7_takes, Γ_X7_takes, sg_X7_takes_0, sg_X7_takes_20, sg_X7_takes_21, wn_X7_takes_0, wn_X7_takes_20, wn_X7_takes_21, wp_c, ex_c, x_nop, x_goto, x_table, x_iinc, x_ldc, x_ldc2, x_iaload, x_faload, x_baload, x_caload, x_iastore, x_fastore, x_bastore, x_castore, x_aastore, x_alen, x_gets, x_new, x_newa, x_anew, x_invs, x_invi, x_invv, x_ret, x_iret, x_lret, x_fret, x_aret, x_lconst, x_fconst0, x_fconst1, x_fconst2, x_dconst0, x_dconst1, x_null, x_iadd, x_isub, x_imul, x_iand, x_ior, x_idiv, x_irem, x_ineg, x_ishl, x_ishr, x_land, x_lor, x_lushr, x_lshl, x_lcmp, x_i2l, x_l2i, x_i2c, x_i2f, x_f2d, x_d2i, x_d2l, x_fadd, x_fsub, x_fmul, x_fdiv, x_dadd, x_dsub, x_dmul, x_ddiv, x_fcmp, x_dcmp, x_dupI, x_dupR, x_dup2, x_popI, x_popR, ldP_I, ldP_L, ldP_F, ldP_D, ldP_R, ldP_N, x_iload, x_iload_n, x_lload, x_lload_n, x_fload, x_fload_n, x_dload, x_dload_n, x_aload, x_aload_n, x_istore, x_istore_n, x_lstore, x_lstore_n, x_fstore, x_fstore_n, x_dstore, x_dstore_n, x_astore, x_astore_n, x_astoreN, x_astore_nN, x_icmp_eq, x_icmp_ne, x_icmp_lt, x_icmp_ge, x_icmp_gt, x_icmp_le, x_if_eq, x_if_ne, x_if_lt, x_if_ge, x_if_gt, x_if_le, x_ifnull, x_ifnullR, x_ifnn, x_ifnnR, x_aaload2, x_cpI, x_cpF, x_bF, x_bD, x_oI, xk_bipush_120, xk_iconst_0, xk_bipush_m6, xk_iconst_1, xk_bipush_80, xk_bipush_48, xk_bipush_57, xk_bipush_10, xk_bipush_64, xk_bipush_46, xk_bipush_97, xk_bipush_122, xk_bipush_119, xk_bipush_61, xk_bipush_59, xk_bipush_8, xk_bipush_33, xk_bipush_126, xk_bipush_m2, xk_bipush_m4, xk_iconst_4, xk_bipush_6, xk_iconst_2, xk_bipush_40, xk_iconst_3, xk_iconst_5, xk_iconst_m1, xk_bipush_m5, xk_bipush_12, xk_bipush_100, xk_bipush_26, xk_sipush_9999, xk_sipush_500, xk_bipush_7, xk_bipush_m126, xk_bipush_127, xk_bipush_23, xk_sipush_m1022, xk_sipush_1023, xk_bipush_52, xk_bipush_m3, xk_sipush_9830, xk_sipush_4800, xk_sipush_983, xk_sipush_480, xk_bipush_13, xk_bipush_18, xk_bipush_9, xk_bipush_32, xg_0_0, xp_0_0, xg_0_1, xp_0_1, xg_0_2, xp_0_2, xg_0_3, xp_0_3, xg_0_4, xp_0_4, xg_0_5, xp_0_5, xg_0_6, xp_0_6, xg_0_7, xp_0_7, xg_0_8, xp_0_8, xg_1_0, xp_1_0, xg_1_1, xp_1_1, xg_1_2, xp_1_2, xg_1_3, xp_1_3, xg_2_0, xp_2_0, xg_2_1, xp_2_1, xg_2_2, xp_2_2, xg_3_0, xp_3_0, xg_3_1, xp_3_1, xg_3_2, xp_3_2, xg_3_3, xp_3_3, xg_3_4, xp_3_4, xg_3_5, xp_3_5, xg_3_6, xp_3_6, xg_3_7, xp_3_7, xg_3_8, xp_3_8, xg_3_9, xp_3_9, xg_3_10, xp_3_10, xg_3_11, xp_3_11, xg_4_0, xp_4_0, xg_4_1, xp_4_1, xg_5_0, xp_5_0, xg_5_1, xp_5_1, xg_6_0, xp_6_0, xg_6_1, xp_6_1, xg_6_2, xp_6_2, xg_6_3, xp_6_3, xg_6_4, xp_6_4, xg_6_5, xp_6_5, xg_7_0, xp_7_0, xg_7_1, xp_7_1, xg_7_2, xp_7_2, xg_7_3, xp_7_3, xg_7_4, xp_7_4, xg_7_5, xp_7_5, xg_7_6, xp_7_6, xg_7_7, xp_7_7, xg_7_8, xp_7_8, xg_7_9, xp_7_9, xg_7_10, xp_7_10, xg_7_11, xp_7_11, xg_7_12, xp_7_12, xg_7_13, xp_7_13, fv0, fv1, fv2, fv3, kI_0, kI_1, stL, wipeL, entLn, entL, List.getElem?_cons_zero, List.getElem?_cons_succ, List.getElem?_nil, List.set_cons_zero, List.set_cons_succ, List.set_nil, List.length_cons, List.length_nil, List.cons_append, List.nil_append, List.replicate, Nat.reduceAdd, Nat.reduceLeDiff, Nat.reduceSub, true_and, and_true, x_callS, x_callSN, x_callI, x_callIN, x_callV0, x_callV1, x_callV2, x_callV3, x_callV4, x_callV5, x_callV6, x_callV7, callP, List.take_succ_cons, List.take_zero, List.take_nil, List.drop_succ_cons, List.drop_zero, List.drop_nil, List.getLast?_singleton, List.getLast?_cons_cons, Option.some.injEq, Value.ref.injEq, exists_eq_left, exists_eq_left', Nat.zero_le, Nat.add_zero, ldcV_f, ldcV_fn, ldcV_l, ldcV_d, Nat.reduceMul, Nat.le_refl, List.reverse_cons, List.reverse_nil, Option.toList, List.map_cons, List.map_nil, List.sum_cons, List.sum_nil, Value.category, tblW_n, tblW_c, Int.cast_ofNat_Int, Int.reduceAdd, Int.reduceToNat, ofI_n, rc_X7_isHere, rs_X7_isHere, P_X7_isHere]
  obtain ⟨T, n, i, c, hM, hT, hi, e7, rfl, hc, hc2, h1, h2⟩ := h
  simp only [hM.1, bI_0, retZb, sK_stI, sR_stI, sK_stF, sR_stF, sK_stIA, sR_stIA, sK_stFA, sR_stFA, sI_stI, sI_stF, sI_stIA, sI_stFA, sF_stI, sF_stF, sF_stIA, sF_stFA, Nat.left_eq_add, Nat.add_eq_left, Nat.add_left_cancel_iff, Nat.reduceEqDiff, Nat.reduceEqDiff, Nat.succ_ne_self, false_and, and_false, if_false, if_true, nI_succ_sub, Option.some.injEq, Prod.mk.injEq, exists_eq_left', true_and, and_true, retI, retF, retV, retZ1, retZ0, retL, retA, retN, Nat.reduceAdd, Nat.reduceMul, Nat.reduceLT]
  refine ⟨T, n, i, c, c, hM, hT, hi, e7, rfl, rfl, hc, hc2, hc2, fun c1 => ?_, fun c1 => ?_⟩
  · have n1 : ¬ chP T n i = c := fun a => c1 ⟨by omega, by omega⟩
    rw [bI_f c1, e7, nI_add, st_self (by rw [e7, Nat.add_zero])]
    exact h2 n1
  · have n1 : chP T n i = c := by omega
    rw [bI_t (by omega), e7, nI_add, st_up]
    exact h1 n1
def P_X7_digit (as : List Value) (S : SS) (E : Option Value → SS → Prop) : Prop := match as with
  | [.ref y] => ∃ T n i, ModAt S y ∧ TM S y T n ∧ i < 100 ∧ sI S y 7 = nI i ∧ (dgP T n i → E (some (.int (nI (chP T n i - 48)))) (stIA S y (upV (sI S y) 7 (nI (i + 1))))) ∧ (¬ dgP T n i → E (some (.int (mI 6))) S)
  | _ => False
def Γ_X7_digit : List (MI × PT) := [(mi_X7_isHere, P_X7_isHere)]
theorem hΓ_X7_digit (l : Launch) (G : Gx) : ∀ q ∈ Γ_X7_digit, Ct l G q.1 q.2 := List.forall_mem_cons.mpr ⟨ct_X7_isHere l G, fun _ h => absurd h List.not_mem_nil⟩
set_option maxHeartbeats 1000000 in
theorem ct_X7_digit (l : Launch) (G : Gx) : Ct l G mi_X7_digit P_X7_digit := by
  refine Ct.ofV mo_X7_digit (fun as S E h => ?_)
  unfold P_X7_digit at h
  split at h
  case h_2 => exact h.elim
  rename_i y
  refine ⟨by simp [entL, mL_X7_digit], ?_⟩
  refine wpN_ok (Γ := Γ_X7_digit) (hΓ_X7_digit l G) so_X7_digit 6 _ _ _ _ _ _ ?_
  simp only [mL_X7_digit, mT_X7_digit, rc_X7_digit, rs_X7_digit, Γ_X7_digit, sg_X7_digit_0, sg_X7_digit_26, sg_X7_digit_28, sg_X7_digit_44, sg_X7_digit_45, wn_X7_digit_0, wn_X7_digit_26, wn_X7_digit_28, wn_X7_digit_44, wn_X7_digit_45, wp_c, ex_c, x_nop, x_goto, x_table, x_iinc, x_ldc, x_ldc2, x_iaload, x_faload, x_baload, x_caload, x_iastore, x_fastore, x_bastore, x_castore, x_aastore, x_alen, x_gets, x_new, x_newa, x_anew, x_invs, x_invi, x_invv, x_ret, x_iret, x_lret, x_fret, x_aret, x_lconst, x_fconst0, x_fconst1, x_fconst2, x_dconst0, x_dconst1, x_null, x_iadd, x_isub, x_imul, x_iand, x_ior, x_idiv, x_irem, x_ineg, x_ishl, x_ishr, x_land, x_lor, x_lushr, x_lshl, x_lcmp, x_i2l, x_l2i, x_i2c, x_i2f, x_f2d, x_d2i, x_d2l, x_fadd, x_fsub, x_fmul, x_fdiv, x_dadd, x_dsub, x_dmul, x_ddiv, x_fcmp, x_dcmp, x_dupI, x_dupR, x_dup2, x_popI, x_popR, ldP_I, ldP_L, ldP_F, ldP_D, ldP_R, ldP_N, x_iload, x_iload_n, x_lload, x_lload_n, x_fload, x_fload_n, x_dload, x_dload_n, x_aload, x_aload_n, x_istore, x_istore_n, x_lstore, x_lstore_n, x_fstore, x_fstore_n, x_dstore, x_dstore_n, x_astore, x_astore_n, x_astoreN, x_astore_nN, x_icmp_eq, x_icmp_ne, x_icmp_lt, x_icmp_ge, x_icmp_gt, x_icmp_le, x_if_eq, x_if_ne, x_if_lt, x_if_ge, x_if_gt, x_if_le, x_ifnull, x_ifnullR, x_ifnn, x_ifnnR, x_aaload2, x_cpI, x_cpF, x_bF, x_bD, x_oI, xk_bipush_120, xk_iconst_0, xk_bipush_m6, xk_iconst_1, xk_bipush_80, xk_bipush_48, xk_bipush_57, xk_bipush_10, xk_bipush_64, xk_bipush_46, xk_bipush_97, xk_bipush_122, xk_bipush_119, xk_bipush_61, xk_bipush_59, xk_bipush_8, xk_bipush_33, xk_bipush_126, xk_bipush_m2, xk_bipush_m4, xk_iconst_4, xk_bipush_6, xk_iconst_2, xk_bipush_40, xk_iconst_3, xk_iconst_5, xk_iconst_m1, xk_bipush_m5, xk_bipush_12, xk_bipush_100, xk_bipush_26, xk_sipush_9999, xk_sipush_500, xk_bipush_7, xk_bipush_m126, xk_bipush_127, xk_bipush_23, xk_sipush_m1022, xk_sipush_1023, xk_bipush_52, xk_bipush_m3, xk_sipush_9830, xk_sipush_4800, xk_sipush_983, xk_sipush_480, xk_bipush_13, xk_bipush_18, xk_bipush_9, xk_bipush_32, xg_0_0, xp_0_0, xg_0_1, xp_0_1, xg_0_2, xp_0_2, xg_0_3, xp_0_3, xg_0_4, xp_0_4, xg_0_5, xp_0_5, xg_0_6, xp_0_6, xg_0_7, xp_0_7, xg_0_8, xp_0_8, xg_1_0, xp_1_0, xg_1_1, xp_1_1, xg_1_2, xp_1_2, xg_1_3, xp_1_3, xg_2_0, xp_2_0, xg_2_1, xp_2_1, xg_2_2, xp_2_2, xg_3_0, xp_3_0, xg_3_1, xp_3_1, xg_3_2, xp_3_2, xg_3_3, xp_3_3, xg_3_4, xp_3_4, xg_3_5, xp_3_5, xg_3_6, xp_3_6, xg_3_7, xp_3_7, xg_3_8, xp_3_8, xg_3_9, xp_3_9, xg_3_10, xp_3_10, xg_3_11, xp_3_11, xg_4_0, xp_4_0, xg_4_1, xp_4_1, xg_5_0, xp_5_0, xg_5_1, xp_5_1, xg_6_0, xp_6_0, xg_6_1, xp_6_1, xg_6_2, xp_6_2, xg_6_3, xp_6_3, xg_6_4, xp_6_4, xg_6_5, xp_6_5, xg_7_0, xp_7_0, xg_7_1, xp_7_1, xg_7_2, xp_7_2, xg_7_3, xp_7_3, xg_7_4, xp_7_4, xg_7_5, xp_7_5, xg_7_6, xp_7_6, xg_7_7, xp_7_7, xg_7_8, xp_7_8, xg_7_9, xp_7_9, xg_7_10, xp_7_10, xg_7_11, xp_7_11, xg_7_12, xp_7_12, xg_7_13, xp_7_13, fv0, fv1, fv2, fv3, kI_0, kI_1, stL, wipeL, entLn, entL, List.getElem?_cons_zero, List.getElem?_cons_succ, List.getElem?_nil, List.set_cons_zero, List.set_cons_succ, List.set_nil, List.length_cons, List.length_nil, List.cons_append, List.nil_append, List.replicate, Nat.reduceAdd, Nat.reduceLeDiff, Nat.reduceSub, true_and, and_true, x_callS, x_callSN, x_callI, x_callIN, x_callV0, x_callV1, x_callV2, x_callV3, x_callV4, x_callV5, x_callV6, x_callV7, callP, List.take_succ_cons, List.take_zero, List.take_nil, List.drop_succ_cons, List.drop_zero, List.drop_nil, List.getLast?_singleton, List.getLast?_cons_cons, Option.some.injEq, Value.ref.injEq, exists_eq_left, exists_eq_left', Nat.zero_le, Nat.add_zero, ldcV_f, ldcV_fn, ldcV_l, ldcV_d, Nat.reduceMul, Nat.le_refl, List.reverse_cons, List.reverse_nil, Option.toList, List.map_cons, List.map_nil, List.sum_cons, List.sum_nil, Value.category, tblW_n, tblW_c, Int.cast_ofNat_Int, Int.reduceAdd, Int.reduceToNat, ofI_n, rc_X7_isHere, rs_X7_isHere, P_X7_isHere]
  obtain ⟨T, n, i, hM, hT, hi, e7, h1, h2⟩ := h
  have hM0 := hM
  obtain ⟨m0, m1, m2, m3, m4, m5, m6, m7, m8, m9, m10⟩ := hM
  simp only [m0, m1, m2, m3, m4, m5, m6, m7, m8, m9, m10, bI_0, e7, sK_stI, sR_stI, sK_stF, sR_stF, sK_stIA, sR_stIA, sK_stFA, sR_stFA, sI_stI, sI_stF, sI_stIA, sI_stFA, sF_stI, sF_stF, sF_stIA, sF_stFA, Nat.left_eq_add, Nat.add_eq_left, Nat.add_left_cancel_iff, Nat.reduceEqDiff, Nat.reduceEqDiff, Nat.succ_ne_self, false_and, and_false, if_false, if_true, nI_succ_sub, Option.some.injEq, Prod.mk.injEq, exists_eq_left', true_and, and_true, retI, retF, retV, retZ1, retZ0, retL, retA, retN, Nat.reduceAdd, Nat.reduceMul, Nat.reduceLT]
  refine ⟨T, n, i, 48, 57, hM0, hT, hi, rfl, rfl, rfl, by omega, by omega, by omega, fun c1 => ⟨fun a => absurd trivial a, fun _ => ?_⟩, fun c1 => ?_⟩
  · rw [nI_add, st_self (by rw [e7, Nat.add_zero])]
    exact h2 c1
  · have d : dgP T n i := Decidable.not_not.mp c1
    have hin := dgP_lt d
    have e : chP T n i = T i := if_pos hin
    obtain ⟨q1, q2⟩ := hT.2.2 i hin
    have d1 := d.1
    rw [e] at d1
    have n6 : ¬ nI (T i - 48) = mI 6 := nI_ne_mI (by omega) (by omega) (by omega)
    have h1 := h1 d
    rw [e] at h1
    simp (disch := omega) only [nlt0, nge0, neq0, ngt0, nle0, nI_ltI, nI_leI, nI_eq, nI_cl, in_nI, false_implies, true_implies, not_false_eq_true, not_true_eq_false, and_true, true_and, nI_add, pk_mul, implies_true, not_lt0, q2, pk_sub, n6]
    rw [st_up]
    exact ⟨by have := hT.1; omega, h1⟩
def P_X7_number (as : List Value) (S : SS) (E : Option Value → SS → Prop) : Prop := match as with
  | [.ref y] => ∃ T n i, ModAt S y ∧ TM S y T n ∧ i < 99 ∧ sI S y 7 = nI i ∧ E (some (.int (if (nmP T n i).1 = true then nI (nmP T n i).2.1 else mI 6))) (stIA S y (upV (sI S y) 7 (nI (nmP T n i).2.2)))
  | _ => False
def Γ_X7_number : List (MI × PT) := [(mi_X7_digit, P_X7_digit), (mi_X7_isHere, P_X7_isHere)]
theorem hΓ_X7_number (l : Launch) (G : Gx) : ∀ q ∈ Γ_X7_number, Ct l G q.1 q.2 := List.forall_mem_cons.mpr ⟨ct_X7_digit l G, List.forall_mem_cons.mpr ⟨ct_X7_isHere l G, fun _ h => absurd h List.not_mem_nil⟩⟩
set_option maxHeartbeats 1000000 in
theorem ct_X7_number (l : Launch) (G : Gx) : Ct l G mi_X7_number P_X7_number := by
  refine Ct.ofV mo_X7_number (fun as S E h => ?_)
  unfold P_X7_number at h
  split at h
  case h_2 => exact h.elim
  rename_i y
  refine ⟨by simp [entL, mL_X7_number], ?_⟩
  refine wpN_ok (Γ := Γ_X7_number) (hΓ_X7_number l G) so_X7_number 6 _ _ _ _ _ _ ?_
  simp only [mL_X7_number, mT_X7_number, rc_X7_number, rs_X7_number, Γ_X7_number, sg_X7_number_0, sg_X7_number_48, wn_X7_number_0, wn_X7_number_48, wp_c, ex_c, x_nop, x_goto, x_table, x_iinc, x_ldc, x_ldc2, x_iaload, x_faload, x_baload, x_caload, x_iastore, x_fastore, x_bastore, x_castore, x_aastore, x_alen, x_gets, x_new, x_newa, x_anew, x_invs, x_invi, x_invv, x_ret, x_iret, x_lret, x_fret, x_aret, x_lconst, x_fconst0, x_fconst1, x_fconst2, x_dconst0, x_dconst1, x_null, x_iadd, x_isub, x_imul, x_iand, x_ior, x_idiv, x_irem, x_ineg, x_ishl, x_ishr, x_land, x_lor, x_lushr, x_lshl, x_lcmp, x_i2l, x_l2i, x_i2c, x_i2f, x_f2d, x_d2i, x_d2l, x_fadd, x_fsub, x_fmul, x_fdiv, x_dadd, x_dsub, x_dmul, x_ddiv, x_fcmp, x_dcmp, x_dupI, x_dupR, x_dup2, x_popI, x_popR, ldP_I, ldP_L, ldP_F, ldP_D, ldP_R, ldP_N, x_iload, x_iload_n, x_lload, x_lload_n, x_fload, x_fload_n, x_dload, x_dload_n, x_aload, x_aload_n, x_istore, x_istore_n, x_lstore, x_lstore_n, x_fstore, x_fstore_n, x_dstore, x_dstore_n, x_astore, x_astore_n, x_astoreN, x_astore_nN, x_icmp_eq, x_icmp_ne, x_icmp_lt, x_icmp_ge, x_icmp_gt, x_icmp_le, x_if_eq, x_if_ne, x_if_lt, x_if_ge, x_if_gt, x_if_le, x_ifnull, x_ifnullR, x_ifnn, x_ifnnR, x_aaload2, x_cpI, x_cpF, x_bF, x_bD, x_oI, xk_bipush_120, xk_iconst_0, xk_bipush_m6, xk_iconst_1, xk_bipush_80, xk_bipush_48, xk_bipush_57, xk_bipush_10, xk_bipush_64, xk_bipush_46, xk_bipush_97, xk_bipush_122, xk_bipush_119, xk_bipush_61, xk_bipush_59, xk_bipush_8, xk_bipush_33, xk_bipush_126, xk_bipush_m2, xk_bipush_m4, xk_iconst_4, xk_bipush_6, xk_iconst_2, xk_bipush_40, xk_iconst_3, xk_iconst_5, xk_iconst_m1, xk_bipush_m5, xk_bipush_12, xk_bipush_100, xk_bipush_26, xk_sipush_9999, xk_sipush_500, xk_bipush_7, xk_bipush_m126, xk_bipush_127, xk_bipush_23, xk_sipush_m1022, xk_sipush_1023, xk_bipush_52, xk_bipush_m3, xk_sipush_9830, xk_sipush_4800, xk_sipush_983, xk_sipush_480, xk_bipush_13, xk_bipush_18, xk_bipush_9, xk_bipush_32, xg_0_0, xp_0_0, xg_0_1, xp_0_1, xg_0_2, xp_0_2, xg_0_3, xp_0_3, xg_0_4, xp_0_4, xg_0_5, xp_0_5, xg_0_6, xp_0_6, xg_0_7, xp_0_7, xg_0_8, xp_0_8, xg_1_0, xp_1_0, xg_1_1, xp_1_1, xg_1_2, xp_1_2, xg_1_3, xp_1_3, xg_2_0, xp_2_0, xg_2_1, xp_2_1, xg_2_2, xp_2_2, xg_3_0, xp_3_0, xg_3_1, xp_3_1, xg_3_2, xp_3_2, xg_3_3, xp_3_3, xg_3_4, xp_3_4, xg_3_5, xp_3_5, xg_3_6, xp_3_6, xg_3_7, xp_3_7, xg_3_8, xp_3_8, xg_3_9, xp_3_9, xg_3_10, xp_3_10, xg_3_11, xp_3_11, xg_4_0, xp_4_0, xg_4_1, xp_4_1, xg_5_0, xp_5_0, xg_5_1, xp_5_1, xg_6_0, xp_6_0, xg_6_1, xp_6_1, xg_6_2, xp_6_2, xg_6_3, xp_6_3, xg_6_4, xp_6_4, xg_6_5, xp_6_5, xg_7_0, xp_7_0, xg_7_1, xp_7_1, xg_7_2, xp_7_2, xg_7_3, xp_7_3, xg_7_4, xp_7_4, xg_7_5, xp_7_5, xg_7_6, xp_7_6, xg_7_7, xp_7_7, xg_7_8, xp_7_8, xg_7_9, xp_7_9, xg_7_10, xp_7_10, xg_7_11, xp_7_11, xg_7_12, xp_7_12, xg_7_13, xp_7_13, fv0, fv1, fv2, fv3, kI_0, kI_1, stL, wipeL, entLn, entL, List.getElem?_cons_zero, List.getElem?_cons_succ, List.getElem?_nil, List.set_cons_zero, List.set_cons_succ, List.set_nil, List.length_cons, List.length_nil, List.cons_append, List.nil_append, List.replicate, Nat.reduceAdd, Nat.reduceLeDiff, Nat.reduceSub, true_and, and_true, x_callS, x_callSN, x_callI, x_callIN, x_callV0, x_callV1, x_callV2, x_callV3, x_callV4, x_callV5, x_callV6, x_callV7, callP, List.take_succ_cons, List.take_zero, List.take_nil, List.drop_succ_cons, List.drop_zero, List.drop_nil, List.getLast?_singleton, List.getLast?_cons_cons, Option.some.injEq, Value.ref.injEq, exists_eq_left, exists_eq_left', Nat.zero_le, Nat.add_zero, ldcV_f, ldcV_fn, ldcV_l, ldcV_d, Nat.reduceMul, Nat.le_refl, List.reverse_cons, List.reverse_nil, Option.toList, List.map_cons, List.map_nil, List.sum_cons, List.sum_nil, Value.category, tblW_n, tblW_c, Int.cast_ofNat_Int, Int.reduceAdd, Int.reduceToNat, ofI_n, rc_X7_digit, rs_X7_digit, P_X7_digit, rc_X7_isHere, rs_X7_isHere, P_X7_isHere]
  obtain ⟨T, n, i, hM, hT, hi, e7, h⟩ := h
  simp only [hM.1, bI_0, sK_stI, sR_stI, sK_stF, sR_stF, sK_stIA, sR_stIA, sK_stFA, sR_stFA, sI_stI, sI_stF, sI_stIA, sI_stFA, sF_stI, sF_stF, sF_stIA, sF_stFA, Nat.left_eq_add, Nat.add_eq_left, Nat.add_left_cancel_iff, Nat.reduceEqDiff, Nat.reduceEqDiff, Nat.succ_ne_self, false_and, and_false, if_false, if_true, nI_succ_sub, Option.some.injEq, Prod.mk.injEq, exists_eq_left', true_and, and_true, retI, retF, retV, retZ1, retZ0, retL, retA, retN, Nat.reduceAdd, Nat.reduceMul, Nat.reduceLT]
  refine ⟨T, n, i, hM, hT, by omega, e7, fun d => ?_, fun d => ?_⟩
  · have hin := dgP_lt d
    have hc := hT.ch (i := i)
    unfold nmP at h
    rw [if_pos d] at h
    have hM2 : ModAt (stIA S y (upV (sI S y) 7 (nI (i + 1)))) y := hM.up
    have hM2' := hM2
    have hT2 : TM (stIA S y (upV (sI S y) 7 (nI (i + 1)))) y T n := hT.up rfl
    obtain ⟨m0, m1, m2, m3, m4, m5, m6, m7, m8, m9, m10⟩ := hM2
    simp (disch := omega) only [nlt0, nge0, neq0, ngt0, nle0, nI_ltI, nI_leI, nI_eq, nI_cl, in_nI, false_implies, true_implies, not_false_eq_true, not_true_eq_false, and_true, true_and, nI_add, pk_mul, implies_true, not_lt0]
    have d1 := d.1
    have r5 := hM.2.2.2.2.2.1
    have k5 := hM.2.2.2.2.2.2.2.2.2.2
    have e8 : upV (sI S y) 7 (nI (i + 1)) 7 = nI (i + 1) := if_pos rfl
    have q : ¬ (48 < chP T n i ∧ dgP T n (i + 1)) → E (some (.int (nI (chP T n i - 48)))) (stIA S y (upV (sI S y) 7 (nI (i + 1)))) := fun a => by
      rw [if_neg a] at h
      simpa using h
    refine ⟨fun c => q (fun a => by omega), fun c => ⟨T, n, i + 1, 48, 57, hM2', hT2, by omega, e8, rfl, rfl, by omega, by omega, by omega, fun c2 => q (fun a => c2 a.2), fun c2 => ?_⟩⟩
    have d2 : dgP T n (i + 1) := Decidable.not_not.mp c2
    have hin2 := dgP_lt d2
    have e2 : chP T n (i + 1) = T (i + 1) := if_pos hin2
    obtain ⟨q1, q2⟩ := hT.2.2 (i + 1) hin2
    have d21 := d2.1
    have hn := hT.1
    have c48 : 48 < chP T n i ∧ dgP T n (i + 1) := ⟨by omega, d2⟩
    refine ⟨_, r5, 80, k5, by rw [e8]; exact vp_in_nI (by omega) (by omega), ?_⟩
    rw [e8, if_neg (by omega), nI_cl (by omega), q2, nI_add, pk_sub (by omega), nI_add, st_up, sI_stIA, if_pos rfl, stIA_stIA]
    have eu : upV (upV (sI S y) 7 (nI (i + 1))) 7 (nI (i + 1 + 1)) = upV (sI S y) 7 (nI (i + 2)) := by
      funext j
      unfold upV
      by_cases c : j = 7 <;> simp [c]
    rw [eu, show 10 * (chP T n i - 48) + T (i + 1) - 48 = 10 * (chP T n i - 48) + (chP T n (i + 1) - 48) by omega]
    have en : (if 48 < chP T n i ∧ dgP T n (i + 1) then (true, 10 * (chP T n i - 48) + (chP T n (i + 1) - 48), i + 2) else (true, chP T n i - 48, i + 1)) = (true, 10 * (chP T n i - 48) + (chP T n (i + 1) - 48), i + 2) := if_pos c48
    rw [en] at h
    exact h
  · unfold nmP at h
    rw [if_neg d] at h
    have e : stIA S y (upV (sI S y) 7 (nI i)) = S := by rw [up_self e7, stIA_self]
    have h : E (some (.int (mI 6))) S := by
      simp only [Bool.false_eq_true, if_false] at h
      rw [e] at h
      exact h
    exact ⟨fun _ => h, fun a => absurd (by decide) a⟩
/-- only what a reading writes has changed -/
def OR3 (f g : Nat → Int32) : Prop := ∀ k, ¬ (k = 7 ∨ k = 10 ∨ k = 11) → g k = f k
theorem OR3.refl (f : Nat → Int32) : OR3 f f := fun _ _ => rfl
theorem n00' : (nI 0 = 0) = True := eq_true n00
theorem n10' : (nI 1 = 0) = False := eq_false n10
theorem OR3.up {f g : Nat → Int32} (h : OR3 f g) (k : Nat) (v : Int32) (hk : k = 7 ∨ k = 10 ∨ k = 11) : OR3 f (upV g k v) := fun j hj => by
  unfold upV
  rw [if_neg (fun a => hj (by rw [a]; exact hk))]
  exact h j hj
def P_X7_readsPlace (as : List Value) (S : SS) (E : Option Value → SS → Prop) : Prop := match as with
  | [.ref y] => ∃ T n i, ModAt S y ∧ TM S y T n ∧ i ≤ n ∧ sI S y 7 = nI i ∧ ∀ g, OR3 (sI S y) g → g 7 = nI (plP T n i).2.2.2 → ((plP T n i).1 = true → g 10 = nI (plP T n i).2.1 ∧ g 11 = nI (plP T n i).2.2.1) → E (some (.int (bI ((plP T n i).1 = true)))) (stIA S y g)
  | _ => False
def Γ_X7_readsPlace : List (MI × PT) := [(mi_X7_takes, P_X7_takes), (mi_X7_number, P_X7_number)]
theorem hΓ_X7_readsPlace (l : Launch) (G : Gx) : ∀ q ∈ Γ_X7_readsPlace, Ct l G q.1 q.2 := List.forall_mem_cons.mpr ⟨ct_X7_takes l G, List.forall_mem_cons.mpr ⟨ct_X7_number l G, fun _ h => absurd h List.not_mem_nil⟩⟩
set_option maxHeartbeats 2000000 in
theorem ct_X7_readsPlace (l : Launch) (G : Gx) : Ct l G mi_X7_readsPlace P_X7_readsPlace := by
  refine Ct.ofV mo_X7_readsPlace (fun as S E h => ?_)
  unfold P_X7_readsPlace at h
  split at h
  case h_2 => exact h.elim
  rename_i y
  refine ⟨by simp [entL, mL_X7_readsPlace], ?_⟩
  refine wpN_ok (Γ := Γ_X7_readsPlace) (hΓ_X7_readsPlace l G) so_X7_readsPlace 9 _ _ _ _ _ _ ?_
  simp only [mL_X7_readsPlace, mT_X7_readsPlace, rc_X7_readsPlace, rs_X7_readsPlace, Γ_X7_readsPlace, sg_X7_readsPlace_0, sg_X7_readsPlace_17, sg_X7_readsPlace_19, sg_X7_readsPlace_48, sg_X7_readsPlace_50, sg_X7_readsPlace_66, sg_X7_readsPlace_67, wn_X7_readsPlace_0, wn_X7_readsPlace_17, wn_X7_readsPlace_19, wn_X7_readsPlace_48, wn_X7_readsPlace_50, wn_X7_readsPlace_66, wn_X7_readsPlace_67, wp_c, ex_c, x_nop, x_goto, x_table, x_iinc, x_ldc, x_ldc2, x_iaload, x_faload, x_baload, x_caload, x_iastore, x_fastore, x_bastore, x_castore, x_aastore, x_alen, x_gets, x_new, x_newa, x_anew, x_invs, x_invi, x_invv, x_ret, x_iret, x_lret, x_fret, x_aret, x_lconst, x_fconst0, x_fconst1, x_fconst2, x_dconst0, x_dconst1, x_null, x_iadd, x_isub, x_imul, x_iand, x_ior, x_idiv, x_irem, x_ineg, x_ishl, x_ishr, x_land, x_lor, x_lushr, x_lshl, x_lcmp, x_i2l, x_l2i, x_i2c, x_i2f, x_f2d, x_d2i, x_d2l, x_fadd, x_fsub, x_fmul, x_fdiv, x_dadd, x_dsub, x_dmul, x_ddiv, x_fcmp, x_dcmp, x_dupI, x_dupR, x_dup2, x_popI, x_popR, ldP_I, ldP_L, ldP_F, ldP_D, ldP_R, ldP_N, x_iload, x_iload_n, x_lload, x_lload_n, x_fload, x_fload_n, x_dload, x_dload_n, x_aload, x_aload_n, x_istore, x_istore_n, x_lstore, x_lstore_n, x_fstore, x_fstore_n, x_dstore, x_dstore_n, x_astore, x_astore_n, x_astoreN, x_astore_nN, x_icmp_eq, x_icmp_ne, x_icmp_lt, x_icmp_ge, x_icmp_gt, x_icmp_le, x_if_eq, x_if_ne, x_if_lt, x_if_ge, x_if_gt, x_if_le, x_ifnull, x_ifnullR, x_ifnn, x_ifnnR, x_aaload2, x_cpI, x_cpF, x_bF, x_bD, x_oI, xk_bipush_120, xk_iconst_0, xk_bipush_m6, xk_iconst_1, xk_bipush_80, xk_bipush_48, xk_bipush_57, xk_bipush_10, xk_bipush_64, xk_bipush_46, xk_bipush_97, xk_bipush_122, xk_bipush_119, xk_bipush_61, xk_bipush_59, xk_bipush_8, xk_bipush_33, xk_bipush_126, xk_bipush_m2, xk_bipush_m4, xk_iconst_4, xk_bipush_6, xk_iconst_2, xk_bipush_40, xk_iconst_3, xk_iconst_5, xk_iconst_m1, xk_bipush_m5, xk_bipush_12, xk_bipush_100, xk_bipush_26, xk_sipush_9999, xk_sipush_500, xk_bipush_7, xk_bipush_m126, xk_bipush_127, xk_bipush_23, xk_sipush_m1022, xk_sipush_1023, xk_bipush_52, xk_bipush_m3, xk_sipush_9830, xk_sipush_4800, xk_sipush_983, xk_sipush_480, xk_bipush_13, xk_bipush_18, xk_bipush_9, xk_bipush_32, xg_0_0, xp_0_0, xg_0_1, xp_0_1, xg_0_2, xp_0_2, xg_0_3, xp_0_3, xg_0_4, xp_0_4, xg_0_5, xp_0_5, xg_0_6, xp_0_6, xg_0_7, xp_0_7, xg_0_8, xp_0_8, xg_1_0, xp_1_0, xg_1_1, xp_1_1, xg_1_2, xp_1_2, xg_1_3, xp_1_3, xg_2_0, xp_2_0, xg_2_1, xp_2_1, xg_2_2, xp_2_2, xg_3_0, xp_3_0, xg_3_1, xp_3_1, xg_3_2, xp_3_2, xg_3_3, xp_3_3, xg_3_4, xp_3_4, xg_3_5, xp_3_5, xg_3_6, xp_3_6, xg_3_7, xp_3_7, xg_3_8, xp_3_8, xg_3_9, xp_3_9, xg_3_10, xp_3_10, xg_3_11, xp_3_11, xg_4_0, xp_4_0, xg_4_1, xp_4_1, xg_5_0, xp_5_0, xg_5_1, xp_5_1, xg_6_0, xp_6_0, xg_6_1, xp_6_1, xg_6_2, xp_6_2, xg_6_3, xp_6_3, xg_6_4, xp_6_4, xg_6_5, xp_6_5, xg_7_0, xp_7_0, xg_7_1, xp_7_1, xg_7_2, xp_7_2, xg_7_3, xp_7_3, xg_7_4, xp_7_4, xg_7_5, xp_7_5, xg_7_6, xp_7_6, xg_7_7, xp_7_7, xg_7_8, xp_7_8, xg_7_9, xp_7_9, xg_7_10, xp_7_10, xg_7_11, xp_7_11, xg_7_12, xp_7_12, xg_7_13, xp_7_13, fv0, fv1, fv2, fv3, kI_0, kI_1, stL, wipeL, entLn, entL, List.getElem?_cons_zero, List.getElem?_cons_succ, List.getElem?_nil, List.set_cons_zero, List.set_cons_succ, List.set_nil, List.length_cons, List.length_nil, List.cons_append, List.nil_append, List.replicate, Nat.reduceAdd, Nat.reduceLeDiff, Nat.reduceSub, true_and, and_true, x_callS, x_callSN, x_callI, x_callIN, x_callV0, x_callV1, x_callV2, x_callV3, x_callV4, x_callV5, x_callV6, x_callV7, callP, List.take_succ_cons, List.take_zero, List.take_nil, List.drop_succ_cons, List.drop_zero, List.drop_nil, List.getLast?_singleton, List.getLast?_cons_cons, Option.some.injEq, Value.ref.injEq, exists_eq_left, exists_eq_left', Nat.zero_le, Nat.add_zero, ldcV_f, ldcV_fn, ldcV_l, ldcV_d, Nat.reduceMul, Nat.le_refl, List.reverse_cons, List.reverse_nil, Option.toList, List.map_cons, List.map_nil, List.sum_cons, List.sum_nil, Value.category, tblW_n, tblW_c, Int.cast_ofNat_Int, Int.reduceAdd, Int.reduceToNat, ofI_n, rc_X7_takes, rs_X7_takes, P_X7_takes, rc_X7_number, rs_X7_number, P_X7_number]
  obtain ⟨T, n, i, hM, hT, hi, e7, h⟩ := h
  have hn := hT.1
  simp only [hM.1, bI_0, sK_stI, sR_stI, sK_stF, sR_stF, sK_stIA, sR_stIA, sK_stFA, sR_stFA, sI_stI, sI_stF, sI_stIA, sI_stFA, sF_stI, sF_stF, sF_stIA, sF_stFA, Nat.left_eq_add, Nat.add_eq_left, Nat.add_left_cancel_iff, Nat.reduceEqDiff, Nat.reduceEqDiff, Nat.succ_ne_self, false_and, and_false, if_false, if_true, nI_succ_sub, Option.some.injEq, Prod.mk.injEq, exists_eq_left', true_and, and_true, retI, retF, retV, retZ1, retZ0, retL, retA, retN, Nat.reduceAdd, Nat.reduceMul, Nat.reduceLT]
  simp only [st_up, stIA_stIA, sI_stIA, if_true, n10', n00', not_true_eq_false, not_false_eq_true, true_implies, false_implies, true_and, and_true]
  have hc : ∀ j, chP T n j < 256 := fun j => hT.ch
  have nm6 : ∀ j, ((if (nmP T n j).1 = true then nI (nmP T n j).2.1 else mI 6) = mI 6) ↔ (nmP T n j).1 = false := fun j => by
    by_cases a : (nmP T n j).1 = true
    · rw [if_pos a]
      refine iff_of_false (nI_ne_mI ?_ (by omega) (by omega)) (by simp [a])
      unfold nmP
      have := hc j
      have := hc (j + 1)
      split
      · split <;> (dsimp only; omega)
      · dsimp only; omega
    · rw [if_neg a]
      exact iff_of_true rfl (by simpa using a)
  have fin : ∀ (ok : Bool) (r c k : Nat) (g : Nat → Int32), plP T n i = (ok, r, c, k) → OR3 (sI S y) g → g 7 = nI k → (ok = true → g 10 = nI r ∧ g 11 = nI c) → E (some (.int (bI (ok = true)))) (stIA S y g) := fun ok r c k g ep hg h7 h10 => by
    have := h g hg (by rw [ep]; exact h7) (by rw [ep]; exact h10)
    rw [ep] at this
    exact this
  have f0 : ∀ (r c k : Nat) (g : Nat → Int32), plP T n i = (false, r, c, k) → OR3 (sI S y) g → g 7 = nI k → E (some (.int (nI 0))) (stIA S y g) := fun r c k g ep hg h7 => by
    have := fin false r c k g ep hg h7 (fun a => absurd a (by decide))
    rwa [bI_f (by decide)] at this
  have f1 : ∀ (r c k : Nat) (g : Nat → Int32), plP T n i = (true, r, c, k) → OR3 (sI S y) g → g 7 = nI k → g 10 = nI r → g 11 = nI c → E (some (.int (nI 1))) (stIA S y g) := fun r c k g ep hg h7 h10 h11 => by
    have := fin true r c k g ep hg h7 (fun _ => ⟨h10, h11⟩)
    rwa [bI_t rfl] at this
  refine ⟨T, n, i, 64, hM, hT, by omega, e7, rfl, by omega, by omega, fun c1 => ?_, fun c1 => ?_⟩
  · have hin := ch_lt c1 (by omega)
    obtain ⟨l1, l2, l3, l4, l5⟩ := nmP_le (T := T) (n := n) (i := i + 1) (by omega)
    refine ⟨T, n, i + 1, hM.up, hT.up rfl, by omega, if_pos rfl, fun c2 => ?_, fun c2 => ?_⟩
    · have c2 := (nm6 _).mp c2
      refine f0 0 0 (i + 1) _ ?_ (((((OR3.refl _).up 7 _ (by omega)).up 7 _ (by omega)).up 10 _ (by omega)).up 11 _ (by omega)) ?_
      · unfold plP
        rw [if_pos c1, if_neg (by rw [c2]; decide)]
      · simp only [upAt]
        simp [l3 c2]
    · have c2 : (nmP T n (i + 1)).1 = true := by
        cases e : (nmP T n (i + 1)).1
        · exact absurd ((nm6 _).mpr e) c2
        · rfl
      rw [if_pos c2]
      refine ⟨T, n, (nmP T n (i + 1)).2.2, 46, hM.up, hT.up rfl, by omega, by simp [upAt], rfl, by omega, by omega, fun c3 => ?_, fun c3 => ?_⟩
      · have hin3 := ch_lt c3 (by omega)
        refine ⟨T, n, (nmP T n (i + 1)).2.2 + 1, hM.up, hT.up rfl, by omega, by simp [upAt], fun c4 => ?_, fun c4 => ?_⟩
        · have c4 := (nm6 _).mp c4
          refine f0 (nmP T n (i + 1)).2.1 (nmP T n ((nmP T n (i + 1)).2.2 + 1)).2.1 (nmP T n ((nmP T n (i + 1)).2.2 + 1)).2.2 _ ?_ (((((((OR3.refl _).up 7 _ (by omega)).up 7 _ (by omega)).up 10 _ (by omega)).up 7 _ (by omega)).up 7 _ (by omega)).up 11 _ (by omega)) ?_
          · unfold plP
            rw [if_pos c1, if_pos c2, if_pos c3, c4]
          · simp [upAt]
        · have c4 : (nmP T n ((nmP T n (i + 1)).2.2 + 1)).1 = true := by
            cases e : (nmP T n ((nmP T n (i + 1)).2.2 + 1)).1
            · exact absurd ((nm6 _).mpr e) c4
            · rfl
          rw [if_pos c4]
          refine f1 (nmP T n (i + 1)).2.1 (nmP T n ((nmP T n (i + 1)).2.2 + 1)).2.1 (nmP T n ((nmP T n (i + 1)).2.2 + 1)).2.2 _ ?_ (((((((OR3.refl _).up 7 _ (by omega)).up 7 _ (by omega)).up 10 _ (by omega)).up 7 _ (by omega)).up 7 _ (by omega)).up 11 _ (by omega)) ?_ ?_ ?_
          · unfold plP
            rw [if_pos c1, if_pos c2, if_pos c3, c4]
          · simp [upAt]
          · simp [upAt]
          · simp [upAt]
      · refine f0 0 0 (nmP T n (i + 1)).2.2 _ ?_ (((((OR3.refl _).up 7 _ (by omega)).up 7 _ (by omega)).up 10 _ (by omega)).up 11 _ (by omega)) ?_
        · unfold plP
          rw [if_pos c1, if_pos c2, if_neg c3]
        · simp [upAt]
  · refine f0 0 0 i _ ?_ (((OR3.refl _).up 10 _ (by omega)).up 11 _ (by omega)) ?_
    · unfold plP
      rw [if_neg c1]
    · simp [upAt, e7]
def P_X7_readsLetters (as : List Value) (S : SS) (E : Option Value → SS → Prop) : Prop := match as with
  | [.ref y] => ∃ T n q, ModAt S y ∧ TM S y T n ∧ q ≤ n ∧ sI S y 7 = nI q ∧ ∀ g, (∀ k, ¬ (k = 7 ∨ k = 12 ∨ k = 13) → g k = sI S y k) → g 7 = nI (q + enP T n q) → g 12 = nI q → g 13 = nI (q + enP T n q) → E (some (.int (bI (0 < enP T n q)))) (stIA S y g)
  | _ => False
def Γ_X7_readsLetters : List (MI × PT) := [(mi_X7_isHere, P_X7_isHere)]
theorem hΓ_X7_readsLetters (l : Launch) (G : Gx) : ∀ q ∈ Γ_X7_readsLetters, Ct l G q.1 q.2 := List.forall_mem_cons.mpr ⟨ct_X7_isHere l G, fun _ h => absurd h List.not_mem_nil⟩
set_option maxHeartbeats 1000000 in
theorem lp_X7_readsLetters (l : Launch) (G : Gx) {S : SS} {y n q : Nat} {T : Nat → Nat} {E : Option Value → SS → Prop} (hM : ModAt S y) (hT : TM S y T n) (hq : q ≤ n) (h : ∀ g, (∀ k, ¬ (k = 7 ∨ k = 12 ∨ k = 13) → g k = sI S y k) → g 7 = nI (q + enP T n q) → g 12 = nI q → g 13 = nI (q + enP T n q) → E (some (.int (bI (0 < enP T n q)))) (stIA S y g)) :
    ∀ m, m ≤ n - q → ∀ g, (∀ k, ¬ (k = 7 ∨ k = 12 ∨ k = 13) → g k = sI S y k) → g 7 = nI (q + m) → g 12 = nI q → lcP T n q m = m → V l G mi_X7_readsLetters E 8 [some (.ref y)] [] (stIA S y g) 0 0 := by
  refine loopUp (n - q) fun m hm ih g hg g7 g12 hl => ?_
  refine (V.segN (Γ := Γ_X7_readsLetters) (hΓ_X7_readsLetters l G) so_X7_readsLetters 6 (sg := sg_X7_readsLetters_8) so_X7_readsLetters_8 ?_ : V l G mi_X7_readsLetters _ (segPc sg_X7_readsLetters_8) _ _ _ _ _)
  simp only [mL_X7_readsLetters, mT_X7_readsLetters, rc_X7_readsLetters, rs_X7_readsLetters, Γ_X7_readsLetters, sg_X7_readsLetters_0, sg_X7_readsLetters_8, sg_X7_readsLetters_32, sg_X7_readsLetters_55, sg_X7_readsLetters_56, wn_X7_readsLetters_0, wn_X7_readsLetters_8, wn_X7_readsLetters_32, wn_X7_readsLetters_55, wn_X7_readsLetters_56, wp_c, ex_c, x_nop, x_goto, x_table, x_iinc, x_ldc, x_ldc2, x_iaload, x_faload, x_baload, x_caload, x_iastore, x_fastore, x_bastore, x_castore, x_aastore, x_alen, x_gets, x_new, x_newa, x_anew, x_invs, x_invi, x_invv, x_ret, x_iret, x_lret, x_fret, x_aret, x_lconst, x_fconst0, x_fconst1, x_fconst2, x_dconst0, x_dconst1, x_null, x_iadd, x_isub, x_imul, x_iand, x_ior, x_idiv, x_irem, x_ineg, x_ishl, x_ishr, x_land, x_lor, x_lushr, x_lshl, x_lcmp, x_i2l, x_l2i, x_i2c, x_i2f, x_f2d, x_d2i, x_d2l, x_fadd, x_fsub, x_fmul, x_fdiv, x_dadd, x_dsub, x_dmul, x_ddiv, x_fcmp, x_dcmp, x_dupI, x_dupR, x_dup2, x_popI, x_popR, ldP_I, ldP_L, ldP_F, ldP_D, ldP_R, ldP_N, x_iload, x_iload_n, x_lload, x_lload_n, x_fload, x_fload_n, x_dload, x_dload_n, x_aload, x_aload_n, x_istore, x_istore_n, x_lstore, x_lstore_n, x_fstore, x_fstore_n, x_dstore, x_dstore_n, x_astore, x_astore_n, x_astoreN, x_astore_nN, x_icmp_eq, x_icmp_ne, x_icmp_lt, x_icmp_ge, x_icmp_gt, x_icmp_le, x_if_eq, x_if_ne, x_if_lt, x_if_ge, x_if_gt, x_if_le, x_ifnull, x_ifnullR, x_ifnn, x_ifnnR, x_aaload2, x_cpI, x_cpF, x_bF, x_bD, x_oI, xk_bipush_120, xk_iconst_0, xk_bipush_m6, xk_iconst_1, xk_bipush_80, xk_bipush_48, xk_bipush_57, xk_bipush_10, xk_bipush_64, xk_bipush_46, xk_bipush_97, xk_bipush_122, xk_bipush_119, xk_bipush_61, xk_bipush_59, xk_bipush_8, xk_bipush_33, xk_bipush_126, xk_bipush_m2, xk_bipush_m4, xk_iconst_4, xk_bipush_6, xk_iconst_2, xk_bipush_40, xk_iconst_3, xk_iconst_5, xk_iconst_m1, xk_bipush_m5, xk_bipush_12, xk_bipush_100, xk_bipush_26, xk_sipush_9999, xk_sipush_500, xk_bipush_7, xk_bipush_m126, xk_bipush_127, xk_bipush_23, xk_sipush_m1022, xk_sipush_1023, xk_bipush_52, xk_bipush_m3, xk_sipush_9830, xk_sipush_4800, xk_sipush_983, xk_sipush_480, xk_bipush_13, xk_bipush_18, xk_bipush_9, xk_bipush_32, xg_0_0, xp_0_0, xg_0_1, xp_0_1, xg_0_2, xp_0_2, xg_0_3, xp_0_3, xg_0_4, xp_0_4, xg_0_5, xp_0_5, xg_0_6, xp_0_6, xg_0_7, xp_0_7, xg_0_8, xp_0_8, xg_1_0, xp_1_0, xg_1_1, xp_1_1, xg_1_2, xp_1_2, xg_1_3, xp_1_3, xg_2_0, xp_2_0, xg_2_1, xp_2_1, xg_2_2, xp_2_2, xg_3_0, xp_3_0, xg_3_1, xp_3_1, xg_3_2, xp_3_2, xg_3_3, xp_3_3, xg_3_4, xp_3_4, xg_3_5, xp_3_5, xg_3_6, xp_3_6, xg_3_7, xp_3_7, xg_3_8, xp_3_8, xg_3_9, xp_3_9, xg_3_10, xp_3_10, xg_3_11, xp_3_11, xg_4_0, xp_4_0, xg_4_1, xp_4_1, xg_5_0, xp_5_0, xg_5_1, xp_5_1, xg_6_0, xp_6_0, xg_6_1, xp_6_1, xg_6_2, xp_6_2, xg_6_3, xp_6_3, xg_6_4, xp_6_4, xg_6_5, xp_6_5, xg_7_0, xp_7_0, xg_7_1, xp_7_1, xg_7_2, xp_7_2, xg_7_3, xp_7_3, xg_7_4, xp_7_4, xg_7_5, xp_7_5, xg_7_6, xp_7_6, xg_7_7, xp_7_7, xg_7_8, xp_7_8, xg_7_9, xp_7_9, xg_7_10, xp_7_10, xg_7_11, xp_7_11, xg_7_12, xp_7_12, xg_7_13, xp_7_13, fv0, fv1, fv2, fv3, kI_0, kI_1, stL, wipeL, entLn, entL, List.getElem?_cons_zero, List.getElem?_cons_succ, List.getElem?_nil, List.set_cons_zero, List.set_cons_succ, List.set_nil, List.length_cons, List.length_nil, List.cons_append, List.nil_append, List.replicate, Nat.reduceAdd, Nat.reduceLeDiff, Nat.reduceSub, true_and, and_true, x_callS, x_callSN, x_callI, x_callIN, x_callV0, x_callV1, x_callV2, x_callV3, x_callV4, x_callV5, x_callV6, x_callV7, callP, List.take_succ_cons, List.take_zero, List.take_nil, List.drop_succ_cons, List.drop_zero, List.drop_nil, List.getLast?_singleton, List.getLast?_cons_cons, Option.some.injEq, Value.ref.injEq, exists_eq_left, exists_eq_left', Nat.zero_le, Nat.add_zero, ldcV_f, ldcV_fn, ldcV_l, ldcV_d, Nat.reduceMul, Nat.le_refl, List.reverse_cons, List.reverse_nil, Option.toList, List.map_cons, List.map_nil, List.sum_cons, List.sum_nil, Value.category, tblW_n, tblW_c, Int.cast_ofNat_Int, Int.reduceAdd, Int.reduceToNat, ofI_n, rc_X7_isHere, rs_X7_isHere, P_X7_isHere]
  have hn := hT.1
  have hM2 : ModAt (stIA S y g) y := hM.up
  have hT2 : TM (stIA S y g) y T n := hT.up (hg 6 (by omega))
  simp only [hM2.1, hM.1, bI_0, sK_stI, sR_stI, sK_stF, sR_stF, sK_stIA, sR_stIA, sK_stFA, sR_stFA, sI_stI, sI_stF, sI_stIA, sI_stFA, sF_stI, sF_stF, sF_stIA, sF_stFA, Nat.left_eq_add, Nat.add_eq_left, Nat.add_left_cancel_iff, Nat.reduceEqDiff, Nat.reduceEqDiff, Nat.succ_ne_self, false_and, and_false, if_false, if_true, nI_succ_sub, Option.some.injEq, Prod.mk.injEq, exists_eq_left', true_and, and_true, retI, retF, retV, retZ1, retZ0, retL, retA, retN, Nat.reduceAdd, Nat.reduceMul, Nat.reduceLT]
  simp only [st_up, stIA_stIA, sI_stIA, if_true, g7, g12]
  refine ⟨T, n, q + m, 97, 122, hM2, hT2, by omega, rfl, rfl, rfl, by omega, by omega, by omega, fun c => ?_, fun c => ?_⟩
  · have e : enP T n q = m := (enP_eq T n q).trans (lcP_stop hl c 81 (by omega))
    rw [e] at h
    have h := h (upV g 13 (nI (q + m))) (fun k hk => by
      unfold upV
      rw [if_neg (by omega)]
      exact hg k hk) (by simp [upAt, g7]) (by simp [upAt, g12]) (by simp [upAt])
    refine ⟨fun a => ?_, fun a => ?_⟩
    · simp (disch := omega) only [nlt0, nge0, neq0, ngt0, nle0, nI_ltI, nI_leI, nI_eq, nI_cl, in_nI, false_implies, true_implies, not_false_eq_true, not_true_eq_false, and_true, true_and, nI_add, pk_mul, implies_true, not_lt0] at a
      rwa [bI_f (by omega)] at h
    · simp (disch := omega) only [nlt0, nge0, neq0, ngt0, nle0, nI_ltI, nI_leI, nI_eq, nI_cl, in_nI, false_implies, true_implies, not_false_eq_true, not_true_eq_false, and_true, true_and, nI_add, pk_mul, implies_true, not_lt0] at a
      rwa [bI_t (by omega)] at h
  · have c : ltP T n (q + m) := Decidable.not_not.mp c
    have hin := ltP_lt c
    rw [nI_add]
    refine ih (by omega) _ (fun k hk => ?_) (by simp [upAt, Nat.add_assoc]) (by simp [upAt, g12]) (by rw [lcP_s, if_pos ⟨hl, c⟩])
    unfold upV
    rw [if_neg (by omega)]
    exact hg k hk
set_option maxHeartbeats 1000000 in
theorem ct_X7_readsLetters (l : Launch) (G : Gx) : Ct l G mi_X7_readsLetters P_X7_readsLetters := by
  refine Ct.ofV mo_X7_readsLetters (fun as S E h => ?_)
  unfold P_X7_readsLetters at h
  split at h
  case h_2 => exact h.elim
  rename_i y
  refine ⟨by simp [entL, mL_X7_readsLetters], ?_⟩
  refine wpN_ok (Γ := Γ_X7_readsLetters) (hΓ_X7_readsLetters l G) so_X7_readsLetters 6 _ _ _ _ _ _ ?_
  simp only [mL_X7_readsLetters, mT_X7_readsLetters, rc_X7_readsLetters, rs_X7_readsLetters, Γ_X7_readsLetters, sg_X7_readsLetters_0, sg_X7_readsLetters_8, sg_X7_readsLetters_32, sg_X7_readsLetters_55, sg_X7_readsLetters_56, wn_X7_readsLetters_0, wn_X7_readsLetters_8, wn_X7_readsLetters_32, wn_X7_readsLetters_55, wn_X7_readsLetters_56, wp_c, ex_c, x_nop, x_goto, x_table, x_iinc, x_ldc, x_ldc2, x_iaload, x_faload, x_baload, x_caload, x_iastore, x_fastore, x_bastore, x_castore, x_aastore, x_alen, x_gets, x_new, x_newa, x_anew, x_invs, x_invi, x_invv, x_ret, x_iret, x_lret, x_fret, x_aret, x_lconst, x_fconst0, x_fconst1, x_fconst2, x_dconst0, x_dconst1, x_null, x_iadd, x_isub, x_imul, x_iand, x_ior, x_idiv, x_irem, x_ineg, x_ishl, x_ishr, x_land, x_lor, x_lushr, x_lshl, x_lcmp, x_i2l, x_l2i, x_i2c, x_i2f, x_f2d, x_d2i, x_d2l, x_fadd, x_fsub, x_fmul, x_fdiv, x_dadd, x_dsub, x_dmul, x_ddiv, x_fcmp, x_dcmp, x_dupI, x_dupR, x_dup2, x_popI, x_popR, ldP_I, ldP_L, ldP_F, ldP_D, ldP_R, ldP_N, x_iload, x_iload_n, x_lload, x_lload_n, x_fload, x_fload_n, x_dload, x_dload_n, x_aload, x_aload_n, x_istore, x_istore_n, x_lstore, x_lstore_n, x_fstore, x_fstore_n, x_dstore, x_dstore_n, x_astore, x_astore_n, x_astoreN, x_astore_nN, x_icmp_eq, x_icmp_ne, x_icmp_lt, x_icmp_ge, x_icmp_gt, x_icmp_le, x_if_eq, x_if_ne, x_if_lt, x_if_ge, x_if_gt, x_if_le, x_ifnull, x_ifnullR, x_ifnn, x_ifnnR, x_aaload2, x_cpI, x_cpF, x_bF, x_bD, x_oI, xk_bipush_120, xk_iconst_0, xk_bipush_m6, xk_iconst_1, xk_bipush_80, xk_bipush_48, xk_bipush_57, xk_bipush_10, xk_bipush_64, xk_bipush_46, xk_bipush_97, xk_bipush_122, xk_bipush_119, xk_bipush_61, xk_bipush_59, xk_bipush_8, xk_bipush_33, xk_bipush_126, xk_bipush_m2, xk_bipush_m4, xk_iconst_4, xk_bipush_6, xk_iconst_2, xk_bipush_40, xk_iconst_3, xk_iconst_5, xk_iconst_m1, xk_bipush_m5, xk_bipush_12, xk_bipush_100, xk_bipush_26, xk_sipush_9999, xk_sipush_500, xk_bipush_7, xk_bipush_m126, xk_bipush_127, xk_bipush_23, xk_sipush_m1022, xk_sipush_1023, xk_bipush_52, xk_bipush_m3, xk_sipush_9830, xk_sipush_4800, xk_sipush_983, xk_sipush_480, xk_bipush_13, xk_bipush_18, xk_bipush_9, xk_bipush_32, xg_0_0, xp_0_0, xg_0_1, xp_0_1, xg_0_2, xp_0_2, xg_0_3, xp_0_3, xg_0_4, xp_0_4, xg_0_5, xp_0_5, xg_0_6, xp_0_6, xg_0_7, xp_0_7, xg_0_8, xp_0_8, xg_1_0, xp_1_0, xg_1_1, xp_1_1, xg_1_2, xp_1_2, xg_1_3, xp_1_3, xg_2_0, xp_2_0, xg_2_1, xp_2_1, xg_2_2, xp_2_2, xg_3_0, xp_3_0, xg_3_1, xp_3_1, xg_3_2, xp_3_2, xg_3_3, xp_3_3, xg_3_4, xp_3_4, xg_3_5, xp_3_5, xg_3_6, xp_3_6, xg_3_7, xp_3_7, xg_3_8, xp_3_8, xg_3_9, xp_3_9, xg_3_10, xp_3_10, xg_3_11, xp_3_11, xg_4_0, xp_4_0, xg_4_1, xp_4_1, xg_5_0, xp_5_0, xg_5_1, xp_5_1, xg_6_0, xp_6_0, xg_6_1, xp_6_1, xg_6_2, xp_6_2, xg_6_3, xp_6_3, xg_6_4, xp_6_4, xg_6_5, xp_6_5, xg_7_0, xp_7_0, xg_7_1, xp_7_1, xg_7_2, xp_7_2, xg_7_3, xp_7_3, xg_7_4, xp_7_4, xg_7_5, xp_7_5, xg_7_6, xp_7_6, xg_7_7, xp_7_7, xg_7_8, xp_7_8, xg_7_9, xp_7_9, xg_7_10, xp_7_10, xg_7_11, xp_7_11, xg_7_12, xp_7_12, xg_7_13, xp_7_13, fv0, fv1, fv2, fv3, kI_0, kI_1, stL, wipeL, entLn, entL, List.getElem?_cons_zero, List.getElem?_cons_succ, List.getElem?_nil, List.set_cons_zero, List.set_cons_succ, List.set_nil, List.length_cons, List.length_nil, List.cons_append, List.nil_append, List.replicate, Nat.reduceAdd, Nat.reduceLeDiff, Nat.reduceSub, true_and, and_true, x_callS, x_callSN, x_callI, x_callIN, x_callV0, x_callV1, x_callV2, x_callV3, x_callV4, x_callV5, x_callV6, x_callV7, callP, List.take_succ_cons, List.take_zero, List.take_nil, List.drop_succ_cons, List.drop_zero, List.drop_nil, List.getLast?_singleton, List.getLast?_cons_cons, Option.some.injEq, Value.ref.injEq, exists_eq_left, exists_eq_left', Nat.zero_le, Nat.add_zero, ldcV_f, ldcV_fn, ldcV_l, ldcV_d, Nat.reduceMul, Nat.le_refl, List.reverse_cons, List.reverse_nil, Option.toList, List.map_cons, List.map_nil, List.sum_cons, List.sum_nil, Value.category, tblW_n, tblW_c, Int.cast_ofNat_Int, Int.reduceAdd, Int.reduceToNat, ofI_n, rc_X7_isHere, rs_X7_isHere, P_X7_isHere]
  obtain ⟨T, n, q, hM, hT, hq, e7, h⟩ := h
  simp only [hM.1, e7, st_up, sK_stI, sR_stI, sK_stF, sR_stF, sK_stIA, sR_stIA, sK_stFA, sR_stFA, sI_stI, sI_stF, sI_stIA, sI_stFA, sF_stI, sF_stF, sF_stIA, sF_stFA, Nat.left_eq_add, Nat.add_eq_left, Nat.add_left_cancel_iff, Nat.reduceEqDiff, Nat.reduceEqDiff, Nat.succ_ne_self, false_and, and_false, if_false, if_true, nI_succ_sub, Option.some.injEq, Prod.mk.injEq, exists_eq_left', true_and, and_true, retI, retF, retV, retZ1, retZ0, retL, retA, retN, Nat.reduceAdd, Nat.reduceMul, Nat.reduceLT]
  refine lp_X7_readsLetters l G hM hT hq h 0 (by omega) _ (fun k hk => ?_) ?_ ?_ rfl
  · unfold upV
    rw [if_neg (by omega)]
  · simp [upAt, e7]
  · simp [upAt]
