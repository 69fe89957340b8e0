-- needs: 18.nums 19.proj 20.spec 21.shape 22.leaf 23.fl 23.view 24.loops
/-! the pad -/
def PadAt (S : SS) (p : Nat) : Prop := sK S p = some (4, 0) ∧ sR S p 0 = some (p + 1) ∧ sK S (p + 1) = some (11, 80)
def byV (u i : Nat) : Nat := u / 256 ^ i % 256
theorem byV_lt (u i : Nat) : byV u i < 256 := Nat.mod_lt _ (by omega)
theorem shn : ∀ i, i < 9 → ((nI 8 * nI i).toInt64.toUInt64 &&& Int64.toUInt64 63).toNat = (8 * i) % 64 := by decide
theorem smallL : ∀ n, n < 256 → (UInt64.ofNat n).toInt64.toInt32 = nI n := by decide +kernel
theorem shU (x : Int64) {i : Nat} (hi : i < 8) : (x.toUInt64 >>> ((nI 8 * nI i).toInt64.toUInt64 &&& Int64.toUInt64 63)).toNat = x.toUInt64.toNat / 256 ^ i := by
  rw [UInt64.toNat_shiftRight, shn i (by omega), Nat.shiftRight_eq_div_pow, show (8 * i) % 64 % 64 = 8 * i by omega, Nat.pow_mul]
theorem andU (u : UInt64) : (u.toInt64 &&& lN 255) = (UInt64.ofNat (u.toNat % 256)).toInt64 := by
  have e : lN 255 = (255 : UInt64).toInt64 := rfl
  rw [e, ← UInt64.toInt64_and]
  congr 1
  rw [← UInt64.toNat_inj, UInt64.toNat_and, UInt64.toNat_ofNat_of_lt' (by have := Nat.mod_lt u.toNat (show 0 < 256 by omega); show u.toNat % 256 < 2 ^ 64; omega)]
  exact Nat.and_two_pow_sub_one_eq_mod u.toNat 8
theorem cod {x : Int64} {i : Nat} (hi : i < 8) : ((x.toUInt64 >>> ((nI 8 * nI i).toInt64.toUInt64 &&& Int64.toUInt64 63)).toInt64 &&& lN 255).toInt32 = nI (byV x.toUInt64.toNat i) := by
  rw [andU, shU x hi, smallL _ (Nat.mod_lt _ (by omega))]
  rfl
theorem u64_inj {a b : UInt64} : a.toInt64 = b.toInt64 ↔ a = b := ⟨fun h => by rw [← UInt64.toUInt64_toInt64 a, h, UInt64.toUInt64_toInt64], fun h => by rw [h]⟩
theorem shn' : ∀ i, i < 9 → ((nI (8 * i)).toInt64.toUInt64 &&& Int64.toUInt64 63).toNat = (8 * i) % 64 := by decide
theorem lz {x : Int64} {i : Nat} (hi : i < 8) : (lg_cmp (x.toUInt64 >>> ((nI (8 * i)).toInt64.toUInt64 &&& Int64.toUInt64 63)).toInt64 (lN ((0 : Fin 2) : Nat)) = 0) ↔ x.toUInt64.toNat / 256 ^ i = 0 := by
  rw [lg_cmp_eq]
  have e : (x.toUInt64 >>> ((nI (8 * i)).toInt64.toUInt64 &&& Int64.toUInt64 63)).toNat = x.toUInt64.toNat / 256 ^ i := by
    rw [UInt64.toNat_shiftRight, shn' i (by omega), Nat.shiftRight_eq_div_pow, show (8 * i) % 64 % 64 = 8 * i by omega, Nat.pow_mul]
  rw [← e, show lN ((0 : Fin 2) : Nat) = (0 : UInt64).toInt64 from rfl, u64_inj, ← UInt64.toNat_inj]
  rfl
def P_X4_codeIn (as : List Value) (S : SS) (E : Option Value → SS → Prop) : Prop := match as with
  | [.long x, .int i] => vp_in i 8 ∧ E (some (.int (nI (byV x.toUInt64.toNat i.toNatClampNeg)))) S
  | _ => False
def Γ_X4_codeIn : List (MI × PT) := []
theorem hΓ_X4_codeIn (l : Launch) (G : Gx) : ∀ q ∈ Γ_X4_codeIn, Ct l G q.1 q.2 := fun _ h => absurd h List.not_mem_nil
set_option maxHeartbeats 1000000 in
theorem ct_X4_codeIn (l : Launch) (G : Gx) : Ct l G mi_X4_codeIn P_X4_codeIn := by
  refine Ct.ofV mo_X4_codeIn (fun as S E h => ?_)
  unfold P_X4_codeIn at h
  split at h
  case h_2 => exact h.elim
  rename_i x i
  refine ⟨by simp [entL, mL_X4_codeIn], ?_⟩
  refine wpN_ok (Γ := Γ_X4_codeIn) (hΓ_X4_codeIn l G) so_X4_codeIn 3 _ _ _ _ _ _ ?_
  simp only [mL_X4_codeIn, mT_X4_codeIn, rc_X4_codeIn, rs_X4_codeIn, Γ_X4_codeIn, sg_X4_codeIn_0, wn_X4_codeIn_0, wp_c, ex_c, x_nop, x_goto, x_table, x_iinc, x_ldc, x_ldc2, x_iaload, x_faload, x_baload, x_caload, x_iastore, x_fastore, x_bastore, x_castore, x_aastore, x_alen, x_gets, x_new, x_newa, x_anew, x_invs, x_invi, x_invv, x_ret, x_iret, x_lret, x_fret, x_aret, x_lconst, x_fconst0, x_fconst1, x_fconst2, x_dconst0, x_dconst1, x_null, x_iadd, x_isub, x_imul, x_iand, x_ior, x_idiv, x_irem, x_ineg, x_ishl, x_ishr, x_land, x_lor, x_lushr, x_lshl, x_lcmp, x_i2l, x_l2i, x_i2c, x_i2f, x_f2d, x_d2i, x_d2l, x_fadd, x_fsub, x_fmul, x_fdiv, x_dadd, x_dsub, x_dmul, x_ddiv, x_fcmp, x_dcmp, x_dupI, x_dupR, x_dup2, x_popI, x_popR, ldP_I, ldP_L, ldP_F, ldP_D, ldP_R, ldP_N, x_iload, x_iload_n, x_lload, x_lload_n, x_fload, x_fload_n, x_dload, x_dload_n, x_aload, x_aload_n, x_istore, x_istore_n, x_lstore, x_lstore_n, x_fstore, x_fstore_n, x_dstore, x_dstore_n, x_astore, x_astore_n, x_astoreN, x_astore_nN, x_icmp_eq, x_icmp_ne, x_icmp_lt, x_icmp_ge, x_icmp_gt, x_icmp_le, x_if_eq, x_if_ne, x_if_lt, x_if_ge, x_if_gt, x_if_le, x_ifnull, x_ifnullR, x_ifnn, x_ifnnR, x_aaload2, x_cpI, x_cpF, x_bF, x_bD, x_oI, xk_bipush_120, xk_iconst_0, xk_bipush_m6, xk_iconst_1, xk_bipush_80, xk_bipush_48, xk_bipush_57, xk_bipush_10, xk_bipush_64, xk_bipush_46, xk_bipush_97, xk_bipush_122, xk_bipush_119, xk_bipush_61, xk_bipush_59, xk_bipush_8, xk_bipush_33, xk_bipush_126, xk_bipush_m2, xk_bipush_m4, xk_iconst_4, xk_bipush_6, xk_iconst_2, xk_bipush_40, xk_iconst_3, xk_iconst_5, xk_iconst_m1, xk_bipush_m5, xk_bipush_12, xk_bipush_100, xk_bipush_26, xk_sipush_9999, xk_sipush_500, xk_bipush_7, xk_bipush_m126, xk_bipush_127, xk_bipush_23, xk_sipush_m1022, xk_sipush_1023, xk_bipush_52, xk_bipush_m3, xk_sipush_9830, xk_sipush_4800, xk_sipush_983, xk_sipush_480, xk_bipush_13, xk_bipush_18, xk_bipush_9, xk_bipush_32, xg_0_0, xp_0_0, xg_0_1, xp_0_1, xg_0_2, xp_0_2, xg_0_3, xp_0_3, xg_0_4, xp_0_4, xg_0_5, xp_0_5, xg_0_6, xp_0_6, xg_0_7, xp_0_7, xg_0_8, xp_0_8, xg_1_0, xp_1_0, xg_1_1, xp_1_1, xg_1_2, xp_1_2, xg_1_3, xp_1_3, xg_2_0, xp_2_0, xg_2_1, xp_2_1, xg_2_2, xp_2_2, xg_3_0, xp_3_0, xg_3_1, xp_3_1, xg_3_2, xp_3_2, xg_3_3, xp_3_3, xg_3_4, xp_3_4, xg_3_5, xp_3_5, xg_3_6, xp_3_6, xg_3_7, xp_3_7, xg_3_8, xp_3_8, xg_3_9, xp_3_9, xg_3_10, xp_3_10, xg_3_11, xp_3_11, xg_4_0, xp_4_0, xg_4_1, xp_4_1, xg_5_0, xp_5_0, xg_5_1, xp_5_1, xg_6_0, xp_6_0, xg_6_1, xp_6_1, xg_6_2, xp_6_2, xg_6_3, xp_6_3, xg_6_4, xp_6_4, xg_6_5, xp_6_5, xg_7_0, xp_7_0, xg_7_1, xp_7_1, xg_7_2, xp_7_2, xg_7_3, xp_7_3, xg_7_4, xp_7_4, xg_7_5, xp_7_5, xg_7_6, xp_7_6, xg_7_7, xp_7_7, xg_7_8, xp_7_8, xg_7_9, xp_7_9, xg_7_10, xp_7_10, xg_7_11, xp_7_11, xg_7_12, xp_7_12, xg_7_13, xp_7_13, fv0, fv1, fv2, fv3, kI_0, kI_1, stL, wipeL, entLn, entL, List.getElem?_cons_zero, List.getElem?_cons_succ, List.getElem?_nil, List.set_cons_zero, List.set_cons_succ, List.set_nil, List.length_cons, List.length_nil, List.cons_append, List.nil_append, List.replicate, Nat.reduceAdd, Nat.reduceLeDiff, Nat.reduceSub, true_and, and_true, x_callS, x_callSN, x_callI, x_callIN, x_callV0, x_callV1, x_callV2, x_callV3, x_callV4, x_callV5, x_callV6, x_callV7, callP, List.take_succ_cons, List.take_zero, List.take_nil, List.drop_succ_cons, List.drop_zero, List.drop_nil, List.getLast?_singleton, List.getLast?_cons_cons, Option.some.injEq, Value.ref.injEq, exists_eq_left, exists_eq_left', Nat.zero_le, Nat.add_zero, ldcV_f, ldcV_fn, ldcV_l, ldcV_d, Nat.reduceMul, Nat.le_refl, List.reverse_cons, List.reverse_nil, Option.toList, List.map_cons, List.map_nil, List.sum_cons, List.sum_nil, Value.category, tblW_n, tblW_c, Int.cast_ofNat_Int, Int.reduceAdd, Int.reduceToNat, ofI_n]
  obtain ⟨hi, h⟩ := h
  obtain ⟨k, hk, rfl⟩ := vp_in_of hi (by decide)
  rw [nI_cl (by omega)] at h
  simp only [sK_stI, sR_stI, sK_stF, sR_stF, sK_stIA, sR_stIA, sK_stFA, sR_stFA, sI_stI, sI_stF, sI_stIA, sI_stFA, sF_stI, sF_stF, sF_stIA, sF_stFA, Nat.left_eq_add, Nat.add_eq_left, Nat.add_left_cancel_iff, Nat.reduceEqDiff, Nat.reduceEqDiff, Nat.succ_ne_self, false_and, and_false, if_false, if_true, nI_succ_sub, Option.some.injEq, Prod.mk.injEq, exists_eq_left', true_and, and_true, retI, retF, retV, retZ1, retZ0, retL, retA, retN, Nat.reduceAdd, Nat.reduceMul, Nat.reduceLT, cod hk]
  exact h
def P_X4_empty (as : List Value) (S : SS) (E : Option Value → SS → Prop) : Prop := match as with
  | [.ref p] => PadAt S p ∧ E (some (.int (sI S p 1))) (stI S p 1 (nI 0))
  | _ => False
def Γ_X4_empty : List (MI × PT) := []
theorem hΓ_X4_empty (l : Launch) (G : Gx) : ∀ q ∈ Γ_X4_empty, Ct l G q.1 q.2 := fun _ h => absurd h List.not_mem_nil
set_option maxHeartbeats 1000000 in
theorem ct_X4_empty (l : Launch) (G : Gx) : Ct l G mi_X4_empty P_X4_empty := by
  refine Ct.ofV mo_X4_empty (fun as S E h => ?_)
  unfold P_X4_empty at h
  split at h
  case h_2 => exact h.elim
  rename_i p
  refine ⟨by simp [entL, mL_X4_empty], ?_⟩
  refine wpN_ok (Γ := Γ_X4_empty) (hΓ_X4_empty l G) so_X4_empty 3 _ _ _ _ _ _ ?_
  simp only [mL_X4_empty, mT_X4_empty, rc_X4_empty, rs_X4_empty, Γ_X4_empty, sg_X4_empty_0, wn_X4_empty_0, wp_c, ex_c, x_nop, x_goto, x_table, x_iinc, x_ldc, x_ldc2, x_iaload, x_faload, x_baload, x_caload, x_iastore, x_fastore, x_bastore, x_castore, x_aastore, x_alen, x_gets, x_new, x_newa, x_anew, x_invs, x_invi, x_invv, x_ret, x_iret, x_lret, x_fret, x_aret, x_lconst, x_fconst0, x_fconst1, x_fconst2, x_dconst0, x_dconst1, x_null, x_iadd, x_isub, x_imul, x_iand, x_ior, x_idiv, x_irem, x_ineg, x_ishl, x_ishr, x_land, x_lor, x_lushr, x_lshl, x_lcmp, x_i2l, x_l2i, x_i2c, x_i2f, x_f2d, x_d2i, x_d2l, x_fadd, x_fsub, x_fmul, x_fdiv, x_dadd, x_dsub, x_dmul, x_ddiv, x_fcmp, x_dcmp, x_dupI, x_dupR, x_dup2, x_popI, x_popR, ldP_I, ldP_L, ldP_F, ldP_D, ldP_R, ldP_N, x_iload, x_iload_n, x_lload, x_lload_n, x_fload, x_fload_n, x_dload, x_dload_n, x_aload, x_aload_n, x_istore, x_istore_n, x_lstore, x_lstore_n, x_fstore, x_fstore_n, x_dstore, x_dstore_n, x_astore, x_astore_n, x_astoreN, x_astore_nN, x_icmp_eq, x_icmp_ne, x_icmp_lt, x_icmp_ge, x_icmp_gt, x_icmp_le, x_if_eq, x_if_ne, x_if_lt, x_if_ge, x_if_gt, x_if_le, x_ifnull, x_ifnullR, x_ifnn, x_ifnnR, x_aaload2, x_cpI, x_cpF, x_bF, x_bD, x_oI, xk_bipush_120, xk_iconst_0, xk_bipush_m6, xk_iconst_1, xk_bipush_80, xk_bipush_48, xk_bipush_57, xk_bipush_10, xk_bipush_64, xk_bipush_46, xk_bipush_97, xk_bipush_122, xk_bipush_119, xk_bipush_61, xk_bipush_59, xk_bipush_8, xk_bipush_33, xk_bipush_126, xk_bipush_m2, xk_bipush_m4, xk_iconst_4, xk_bipush_6, xk_iconst_2, xk_bipush_40, xk_iconst_3, xk_iconst_5, xk_iconst_m1, xk_bipush_m5, xk_bipush_12, xk_bipush_100, xk_bipush_26, xk_sipush_9999, xk_sipush_500, xk_bipush_7, xk_bipush_m126, xk_bipush_127, xk_bipush_23, xk_sipush_m1022, xk_sipush_1023, xk_bipush_52, xk_bipush_m3, xk_sipush_9830, xk_sipush_4800, xk_sipush_983, xk_sipush_480, xk_bipush_13, xk_bipush_18, xk_bipush_9, xk_bipush_32, xg_0_0, xp_0_0, xg_0_1, xp_0_1, xg_0_2, xp_0_2, xg_0_3, xp_0_3, xg_0_4, xp_0_4, xg_0_5, xp_0_5, xg_0_6, xp_0_6, xg_0_7, xp_0_7, xg_0_8, xp_0_8, xg_1_0, xp_1_0, xg_1_1, xp_1_1, xg_1_2, xp_1_2, xg_1_3, xp_1_3, xg_2_0, xp_2_0, xg_2_1, xp_2_1, xg_2_2, xp_2_2, xg_3_0, xp_3_0, xg_3_1, xp_3_1, xg_3_2, xp_3_2, xg_3_3, xp_3_3, xg_3_4, xp_3_4, xg_3_5, xp_3_5, xg_3_6, xp_3_6, xg_3_7, xp_3_7, xg_3_8, xp_3_8, xg_3_9, xp_3_9, xg_3_10, xp_3_10, xg_3_11, xp_3_11, xg_4_0, xp_4_0, xg_4_1, xp_4_1, xg_5_0, xp_5_0, xg_5_1, xp_5_1, xg_6_0, xp_6_0, xg_6_1, xp_6_1, xg_6_2, xp_6_2, xg_6_3, xp_6_3, xg_6_4, xp_6_4, xg_6_5, xp_6_5, xg_7_0, xp_7_0, xg_7_1, xp_7_1, xg_7_2, xp_7_2, xg_7_3, xp_7_3, xg_7_4, xp_7_4, xg_7_5, xp_7_5, xg_7_6, xp_7_6, xg_7_7, xp_7_7, xg_7_8, xp_7_8, xg_7_9, xp_7_9, xg_7_10, xp_7_10, xg_7_11, xp_7_11, xg_7_12, xp_7_12, xg_7_13, xp_7_13, fv0, fv1, fv2, fv3, kI_0, kI_1, stL, wipeL, entLn, entL, List.getElem?_cons_zero, List.getElem?_cons_succ, List.getElem?_nil, List.set_cons_zero, List.set_cons_succ, List.set_nil, List.length_cons, List.length_nil, List.cons_append, List.nil_append, List.replicate, Nat.reduceAdd, Nat.reduceLeDiff, Nat.reduceSub, true_and, and_true, x_callS, x_callSN, x_callI, x_callIN, x_callV0, x_callV1, x_callV2, x_callV3, x_callV4, x_callV5, x_callV6, x_callV7, callP, List.take_succ_cons, List.take_zero, List.take_nil, List.drop_succ_cons, List.drop_zero, List.drop_nil, List.getLast?_singleton, List.getLast?_cons_cons, Option.some.injEq, Value.ref.injEq, exists_eq_left, exists_eq_left', Nat.zero_le, Nat.add_zero, ldcV_f, ldcV_fn, ldcV_l, ldcV_d, Nat.reduceMul, Nat.le_refl, List.reverse_cons, List.reverse_nil, Option.toList, List.map_cons, List.map_nil, List.sum_cons, List.sum_nil, Value.category, tblW_n, tblW_c, Int.cast_ofNat_Int, Int.reduceAdd, Int.reduceToNat, ofI_n]
  simp only [h.1.1, h.2, sK_stI, sR_stI, sK_stF, sR_stF, sK_stIA, sR_stIA, sK_stFA, sR_stFA, sI_stI, sI_stF, sI_stIA, sI_stFA, sF_stI, sF_stF, sF_stIA, sF_stFA, Nat.left_eq_add, Nat.add_eq_left, Nat.add_left_cancel_iff, Nat.reduceEqDiff, Nat.reduceEqDiff, Nat.succ_ne_self, false_and, and_false, if_false, if_true, nI_succ_sub, Option.some.injEq, Prod.mk.injEq, exists_eq_left', true_and, and_true, retI, retF, retV, retZ1, retZ0, retL, retA, retN, Nat.reduceAdd, Nat.reduceMul, Nat.reduceLT]
/-- how many characters lead, how many there are -/
def ldV (u n : Nat) : Nat := fo (fun c j => if c = j ∧ 33 ≤ byV u j ∧ byV u j ≤ 126 then j + 1 else c) 0 n
theorem ldV_s (u n : Nat) : ldV u (n + 1) = if ldV u n = n ∧ 33 ≤ byV u n ∧ byV u n ≤ 126 then n + 1 else ldV u n := rfl
theorem ldV_le (u : Nat) : ∀ n, ldV u n ≤ n
  | 0 => Nat.le_refl _
  | n + 1 => by
    have := ldV_le u n
    rw [ldV_s]
    split <;> omega
theorem ldV_stop {u j : Nat} (h : ldV u j = j) (hb : ¬ (33 ≤ byV u j ∧ byV u j ≤ 126)) : ∀ n, j ≤ n → ldV u n = j := by
  intro n
  induction n with
  | zero => intro h2; rw [show j = 0 by omega] at h ⊢; exact h
  | succ n ih =>
    intro h2
    by_cases h3 : j = n + 1
    · rw [← h3]; exact h
    · rw [ldV_s, ih (by omega), if_neg]
      intro ⟨a, b⟩
      rw [← a] at b
      exact hb b
def chV (u : Nat) : Nat := if u / 256 ^ ldV u 8 = 0 then ldV u 8 else 0
theorem chV_le (u : Nat) : chV u ≤ 8 := by
  have := ldV_le u 8
  unfold chV
  split <;> omega
def P_X4_charactersIn (as : List Value) (S : SS) (E : Option Value → SS → Prop) : Prop := match as with
  | [.long x] => E (some (.int (nI (chV x.toUInt64.toNat)))) S
  | _ => False
def Γ_X4_charactersIn : List (MI × PT) := [(mi_X4_codeIn, P_X4_codeIn)]
theorem hΓ_X4_charactersIn (l : Launch) (G : Gx) : ∀ q ∈ Γ_X4_charactersIn, Ct l G q.1 q.2 := List.forall_mem_cons.mpr ⟨ct_X4_codeIn l G, fun _ h => absurd h List.not_mem_nil⟩
set_option maxHeartbeats 1000000 in
theorem lp_X4_charactersIn (l : Launch) (G : Gx) {S : SS} {x : Int64} {E : Option Value → SS → Prop} (h : E (some (.int (nI (chV x.toUInt64.toNat)))) S) :
    ∀ n, n ≤ 8 → ∀ x3, ldV x.toUInt64.toNat n = n → V l G mi_X4_charactersIn E 2 [some (.long x), none, some (.int (nI n)), x3] [] S 0 0 := by
  refine loopUp 8 fun n hn ih x3 hl => ?_
  refine (V.segN (Γ := Γ_X4_charactersIn) (hΓ_X4_charactersIn l G) so_X4_charactersIn 5 (sg := sg_X4_charactersIn_2) so_X4_charactersIn_2 ?_ : V l G mi_X4_charactersIn _ (segPc sg_X4_charactersIn_2) _ _ _ _ _)
  simp only [mL_X4_charactersIn, mT_X4_charactersIn, rc_X4_charactersIn, rs_X4_charactersIn, Γ_X4_charactersIn, sg_X4_charactersIn_0, sg_X4_charactersIn_2, sg_X4_charactersIn_34, sg_X4_charactersIn_36, sg_X4_charactersIn_42, sg_X4_charactersIn_63, sg_X4_charactersIn_64, sg_X4_charactersIn_73, sg_X4_charactersIn_74, wn_X4_charactersIn_0, wn_X4_charactersIn_2, wn_X4_charactersIn_34, wn_X4_charactersIn_36, wn_X4_charactersIn_42, wn_X4_charactersIn_63, wn_X4_charactersIn_64, wn_X4_charactersIn_73, wn_X4_charactersIn_74, wp_c, ex_c, x_nop, x_goto, x_table, x_iinc, x_ldc, x_ldc2, x_iaload, x_faload, x_baload, x_caload, x_iastore, x_fastore, x_bastore, x_castore, x_aastore, x_alen, x_gets, x_new, x_newa, x_anew, x_invs, x_invi, x_invv, x_ret, x_iret, x_lret, x_fret, x_aret, x_lconst, x_fconst0, x_fconst1, x_fconst2, x_dconst0, x_dconst1, x_null, x_iadd, x_isub, x_imul, x_iand, x_ior, x_idiv, x_irem, x_ineg, x_ishl, x_ishr, x_land, x_lor, x_lushr, x_lshl, x_lcmp, x_i2l, x_l2i, x_i2c, x_i2f, x_f2d, x_d2i, x_d2l, x_fadd, x_fsub, x_fmul, x_fdiv, x_dadd, x_dsub, x_dmul, x_ddiv, x_fcmp, x_dcmp, x_dupI, x_dupR, x_dup2, x_popI, x_popR, ldP_I, ldP_L, ldP_F, ldP_D, ldP_R, ldP_N, x_iload, x_iload_n, x_lload, x_lload_n, x_fload, x_fload_n, x_dload, x_dload_n, x_aload, x_aload_n, x_istore, x_istore_n, x_lstore, x_lstore_n, x_fstore, x_fstore_n, x_dstore, x_dstore_n, x_astore, x_astore_n, x_astoreN, x_astore_nN, x_icmp_eq, x_icmp_ne, x_icmp_lt, x_icmp_ge, x_icmp_gt, x_icmp_le, x_if_eq, x_if_ne, x_if_lt, x_if_ge, x_if_gt, x_if_le, x_ifnull, x_ifnullR, x_ifnn, x_ifnnR, x_aaload2, x_cpI, x_cpF, x_bF, x_bD, x_oI, xk_bipush_120, xk_iconst_0, xk_bipush_m6, xk_iconst_1, xk_bipush_80, xk_bipush_48, xk_bipush_57, xk_bipush_10, xk_bipush_64, xk_bipush_46, xk_bipush_97, xk_bipush_122, xk_bipush_119, xk_bipush_61, xk_bipush_59, xk_bipush_8, xk_bipush_33, xk_bipush_126, xk_bipush_m2, xk_bipush_m4, xk_iconst_4, xk_bipush_6, xk_iconst_2, xk_bipush_40, xk_iconst_3, xk_iconst_5, xk_iconst_m1, xk_bipush_m5, xk_bipush_12, xk_bipush_100, xk_bipush_26, xk_sipush_9999, xk_sipush_500, xk_bipush_7, xk_bipush_m126, xk_bipush_127, xk_bipush_23, xk_sipush_m1022, xk_sipush_1023, xk_bipush_52, xk_bipush_m3, xk_sipush_9830, xk_sipush_4800, xk_sipush_983, xk_sipush_480, xk_bipush_13, xk_bipush_18, xk_bipush_9, xk_bipush_32, xg_0_0, xp_0_0, xg_0_1, xp_0_1, xg_0_2, xp_0_2, xg_0_3, xp_0_3, xg_0_4, xp_0_4, xg_0_5, xp_0_5, xg_0_6, xp_0_6, xg_0_7, xp_0_7, xg_0_8, xp_0_8, xg_1_0, xp_1_0, xg_1_1, xp_1_1, xg_1_2, xp_1_2, xg_1_3, xp_1_3, xg_2_0, xp_2_0, xg_2_1, xp_2_1, xg_2_2, xp_2_2, xg_3_0, xp_3_0, xg_3_1, xp_3_1, xg_3_2, xp_3_2, xg_3_3, xp_3_3, xg_3_4, xp_3_4, xg_3_5, xp_3_5, xg_3_6, xp_3_6, xg_3_7, xp_3_7, xg_3_8, xp_3_8, xg_3_9, xp_3_9, xg_3_10, xp_3_10, xg_3_11, xp_3_11, xg_4_0, xp_4_0, xg_4_1, xp_4_1, xg_5_0, xp_5_0, xg_5_1, xp_5_1, xg_6_0, xp_6_0, xg_6_1, xp_6_1, xg_6_2, xp_6_2, xg_6_3, xp_6_3, xg_6_4, xp_6_4, xg_6_5, xp_6_5, xg_7_0, xp_7_0, xg_7_1, xp_7_1, xg_7_2, xp_7_2, xg_7_3, xp_7_3, xg_7_4, xp_7_4, xg_7_5, xp_7_5, xg_7_6, xp_7_6, xg_7_7, xp_7_7, xg_7_8, xp_7_8, xg_7_9, xp_7_9, xg_7_10, xp_7_10, xg_7_11, xp_7_11, xg_7_12, xp_7_12, xg_7_13, xp_7_13, fv0, fv1, fv2, fv3, kI_0, kI_1, stL, wipeL, entLn, entL, List.getElem?_cons_zero, List.getElem?_cons_succ, List.getElem?_nil, List.set_cons_zero, List.set_cons_succ, List.set_nil, List.length_cons, List.length_nil, List.cons_append, List.nil_append, List.replicate, Nat.reduceAdd, Nat.reduceLeDiff, Nat.reduceSub, true_and, and_true, x_callS, x_callSN, x_callI, x_callIN, x_callV0, x_callV1, x_callV2, x_callV3, x_callV4, x_callV5, x_callV6, x_callV7, callP, List.take_succ_cons, List.take_zero, List.take_nil, List.drop_succ_cons, List.drop_zero, List.drop_nil, List.getLast?_singleton, List.getLast?_cons_cons, Option.some.injEq, Value.ref.injEq, exists_eq_left, exists_eq_left', Nat.zero_le, Nat.add_zero, ldcV_f, ldcV_fn, ldcV_l, ldcV_d, Nat.reduceMul, Nat.le_refl, List.reverse_cons, List.reverse_nil, Option.toList, List.map_cons, List.map_nil, List.sum_cons, List.sum_nil, Value.category, tblW_n, tblW_c, Int.cast_ofNat_Int, Int.reduceAdd, Int.reduceToNat, ofI_n, rc_X4_codeIn, rs_X4_codeIn, P_X4_codeIn]
  simp only [sK_stI, sR_stI, sK_stF, sR_stF, sK_stIA, sR_stIA, sK_stFA, sR_stFA, sI_stI, sI_stF, sI_stIA, sI_stFA, sF_stI, sF_stF, sF_stIA, sF_stFA, Nat.left_eq_add, Nat.add_eq_left, Nat.add_left_cancel_iff, Nat.reduceEqDiff, Nat.reduceEqDiff, Nat.succ_ne_self, false_and, and_false, if_false, if_true, nI_succ_sub, Option.some.injEq, Prod.mk.injEq, exists_eq_left', true_and, and_true, retI, retF, retV, retZ1, retZ0, retL, retA, retN, Nat.reduceAdd, Nat.reduceMul, Nat.reduceLT]
  simp (disch := omega) only [nlt0, nge0, neq0, ngt0, nle0, nI_ltI, nI_leI, nI_eq, nI_cl, in_nI, false_implies, true_implies, not_false_eq_true, not_true_eq_false, and_true, true_and, nI_add, pk_mul, implies_true, not_lt0]
  have hb := byV_lt x.toUInt64.toNat n
  have stray : n < 8 → ldV x.toUInt64.toNat 8 = n → (lg_cmp (x.toUInt64 >>> ((nI (8 * n)).toInt64.toUInt64 &&& Int64.toUInt64 63)).toInt64 (lN ((0 : Fin 2) : Nat)) = 0 → E (some (.int (nI n))) S) ∧ (¬ lg_cmp (x.toUInt64 >>> ((nI (8 * n)).toInt64.toUInt64 &&& Int64.toUInt64 63)).toInt64 (lN ((0 : Fin 2) : Nat)) = 0 → (1 = 0 → E (some (.int (nI n))) S) ∧ (¬ 1 = 0 → E (some (.int (nI 0))) S)) := by
    intro h8 e
    unfold chV at h
    rw [e] at h
    refine ⟨fun c => ?_, fun c => ⟨fun a => absurd a (by omega), fun _ => ?_⟩⟩
    · rw [if_pos ((lz h8).mp c)] at h
      exact h
    · rw [if_neg (fun a => c ((lz h8).mpr a))] at h
      exact h
  refine ⟨fun q => ⟨fun _ => ?_, fun a => absurd q a⟩, fun q => ⟨by omega, fun c => ⟨fun a => absurd a q, fun _ => stray (by omega) ?_⟩, fun c => ⟨by omega, fun c2 => ?_, fun c2 => ⟨fun c3 => ?_, fun c3 => ?_⟩⟩⟩⟩
  · have e : n = 8 := by omega
    subst e
    unfold chV at h
    rw [hl, if_pos] at h
    · exact h
    · have := x.toUInt64.toNat_lt
      exact Nat.div_eq_of_lt this
  · refine ldV_stop hl ?_ 8 hn
    rw [← nI_0, nI_eq (by omega) (by omega)] at c
    omega
  · rw [nI_ltI (by omega) (by omega)] at c2
    rw [← nI_0, nI_eq (by omega) (by omega)] at c
    unfold chV at h
    rw [ldV_stop hl (by omega) 8 hn, if_neg] at h
    · exact h
    · intro a
      unfold byV at c
      rw [a] at c
      exact c rfl
  · rw [nI_ltI (by omega) (by omega)] at c2
    rw [nI_leI (by omega) (by omega)] at c3
    exact ih (by omega) _ (by rw [ldV_s, if_pos ⟨hl, by omega, by omega⟩])
  · rw [nI_leI (by omega) (by omega)] at c3
    rw [← nI_0, nI_eq (by omega) (by omega)] at c
    unfold chV at h
    rw [ldV_stop hl (by omega) 8 hn, if_neg] at h
    · exact h
    · intro a
      unfold byV at c
      rw [a] at c
      exact c rfl
set_option maxHeartbeats 1000000 in
theorem ct_X4_charactersIn (l : Launch) (G : Gx) : Ct l G mi_X4_charactersIn P_X4_charactersIn := by
  refine Ct.ofV mo_X4_charactersIn (fun as S E h => ?_)
  unfold P_X4_charactersIn at h
  split at h
  case h_2 => exact h.elim
  rename_i x
  refine ⟨by simp [entL, mL_X4_charactersIn], ?_⟩
  refine wpN_ok (Γ := Γ_X4_charactersIn) (hΓ_X4_charactersIn l G) so_X4_charactersIn 3 _ _ _ _ _ _ ?_
  simp only [mL_X4_charactersIn, mT_X4_charactersIn, rc_X4_charactersIn, rs_X4_charactersIn, Γ_X4_charactersIn, sg_X4_charactersIn_0, sg_X4_charactersIn_2, sg_X4_charactersIn_34, sg_X4_charactersIn_36, sg_X4_charactersIn_42, sg_X4_charactersIn_63, sg_X4_charactersIn_64, sg_X4_charactersIn_73, sg_X4_charactersIn_74, wn_X4_charactersIn_0, wn_X4_charactersIn_2, wn_X4_charactersIn_34, wn_X4_charactersIn_36, wn_X4_charactersIn_42, wn_X4_charactersIn_63, wn_X4_charactersIn_64, wn_X4_charactersIn_73, wn_X4_charactersIn_74, wp_c, ex_c, x_nop, x_goto, x_table, x_iinc, x_ldc, x_ldc2, x_iaload, x_faload, x_baload, x_caload, x_iastore, x_fastore, x_bastore, x_castore, x_aastore, x_alen, x_gets, x_new, x_newa, x_anew, x_invs, x_invi, x_invv, x_ret, x_iret, x_lret, x_fret, x_aret, x_lconst, x_fconst0, x_fconst1, x_fconst2, x_dconst0, x_dconst1, x_null, x_iadd, x_isub, x_imul, x_iand, x_ior, x_idiv, x_irem, x_ineg, x_ishl, x_ishr, x_land, x_lor, x_lushr, x_lshl, x_lcmp, x_i2l, x_l2i, x_i2c, x_i2f, x_f2d, x_d2i, x_d2l, x_fadd, x_fsub, x_fmul, x_fdiv, x_dadd, x_dsub, x_dmul, x_ddiv, x_fcmp, x_dcmp, x_dupI, x_dupR, x_dup2, x_popI, x_popR, ldP_I, ldP_L, ldP_F, ldP_D, ldP_R, ldP_N, x_iload, x_iload_n, x_lload, x_lload_n, x_fload, x_fload_n, x_dload, x_dload_n, x_aload, x_aload_n, x_istore, x_istore_n, x_lstore, x_lstore_n, x_fstore, x_fstore_n, x_dstore, x_dstore_n, x_astore, x_astore_n, x_astoreN, x_astore_nN, x_icmp_eq, x_icmp_ne, x_icmp_lt, x_icmp_ge, x_icmp_gt, x_icmp_le, x_if_eq, x_if_ne, x_if_lt, x_if_ge, x_if_gt, x_if_le, x_ifnull, x_ifnullR, x_ifnn, x_ifnnR, x_aaload2, x_cpI, x_cpF, x_bF, x_bD, x_oI, xk_bipush_120, xk_iconst_0, xk_bipush_m6, xk_iconst_1, xk_bipush_80, xk_bipush_48, xk_bipush_57, xk_bipush_10, xk_bipush_64, xk_bipush_46, xk_bipush_97, xk_bipush_122, xk_bipush_119, xk_bipush_61, xk_bipush_59, xk_bipush_8, xk_bipush_33, xk_bipush_126, xk_bipush_m2, xk_bipush_m4, xk_iconst_4, xk_bipush_6, xk_iconst_2, xk_bipush_40, xk_iconst_3, xk_iconst_5, xk_iconst_m1, xk_bipush_m5, xk_bipush_12, xk_bipush_100, xk_bipush_26, xk_sipush_9999, xk_sipush_500, xk_bipush_7, xk_bipush_m126, xk_bipush_127, xk_bipush_23, xk_sipush_m1022, xk_sipush_1023, xk_bipush_52, xk_bipush_m3, xk_sipush_9830, xk_sipush_4800, xk_sipush_983, xk_sipush_480, xk_bipush_13, xk_bipush_18, xk_bipush_9, xk_bipush_32, xg_0_0, xp_0_0, xg_0_1, xp_0_1, xg_0_2, xp_0_2, xg_0_3, xp_0_3, xg_0_4, xp_0_4, xg_0_5, xp_0_5, xg_0_6, xp_0_6, xg_0_7, xp_0_7, xg_0_8, xp_0_8, xg_1_0, xp_1_0, xg_1_1, xp_1_1, xg_1_2, xp_1_2, xg_1_3, xp_1_3, xg_2_0, xp_2_0, xg_2_1, xp_2_1, xg_2_2, xp_2_2, xg_3_0, xp_3_0, xg_3_1, xp_3_1, xg_3_2, xp_3_2, xg_3_3, xp_3_3, xg_3_4, xp_3_4, xg_3_5, xp_3_5, xg_3_6, xp_3_6, xg_3_7, xp_3_7, xg_3_8, xp_3_8, xg_3_9, xp_3_9, xg_3_10, xp_3_10, xg_3_11, xp_3_11, xg_4_0, xp_4_0, xg_4_1, xp_4_1, xg_5_0, xp_5_0, xg_5_1, xp_5_1, xg_6_0, xp_6_0, xg_6_1, xp_6_1, xg_6_2, xp_6_2, xg_6_3, xp_6_3, xg_6_4, xp_6_4, xg_6_5, xp_6_5, xg_7_0, xp_7_0, xg_7_1, xp_7_1, xg_7_2, xp_7_2, xg_7_3, xp_7_3, xg_7_4, xp_7_4, xg_7_5, xp_7_5, xg_7_6, xp_7_6, xg_7_7, xp_7_7, xg_7_8, xp_7_8, xg_7_9, xp_7_9, xg_7_10, xp_7_10, xg_7_11, xp_7_11, xg_7_12, xp_7_12, xg_7_13, xp_7_13, fv0, fv1, fv2, fv3, kI_0, kI_1, stL, wipeL, entLn, entL, List.getElem?_cons_zero, List.getElem?_cons_succ, List.getElem?_nil, List.set_cons_zero, List.set_cons_succ, List.set_nil, List.length_cons, List.length_nil, List.cons_append, List.nil_append, List.replicate, Nat.reduceAdd, Nat.reduceLeDiff, Nat.reduceSub, true_and, and_true, x_callS, x_callSN, x_callI, x_callIN, x_callV0, x_callV1, x_callV2, x_callV3, x_callV4, x_callV5, x_callV6, x_callV7, callP, List.take_succ_cons, List.take_zero, List.take_nil, List.drop_succ_cons, List.drop_zero, List.drop_nil, List.getLast?_singleton, List.getLast?_cons_cons, Option.some.injEq, Value.ref.injEq, exists_eq_left, exists_eq_left', Nat.zero_le, Nat.add_zero, ldcV_f, ldcV_fn, ldcV_l, ldcV_d, Nat.reduceMul, Nat.le_refl, List.reverse_cons, List.reverse_nil, Option.toList, List.map_cons, List.map_nil, List.sum_cons, List.sum_nil, Value.category, tblW_n, tblW_c, Int.cast_ofNat_Int, Int.reduceAdd, Int.reduceToNat, ofI_n, rc_X4_codeIn, rs_X4_codeIn, P_X4_codeIn]
  exact lp_X4_charactersIn l G h 0 (by omega) none rfl
theorem ch16 : ∀ n, n < 256 → ((nI n).toUInt32 % 65536).toInt32 = nI n := by decide +kernel
theorem fit16 : ∀ n, n < 256 → fitI .char (nI n) := by unfold fitI; decide +kernel
/-- characters put behind those that are there -/
def txV (f : Nat → Int32) (len n u m : Nat) : Nat → Int32 := fun j => if len ≤ j ∧ j < len + m then nI (byV u (n - 1 - (j - len))) else f j
def P_X4_append (as : List Value) (S : SS) (E : Option Value → SS → Prop) : Prop := match as with
  | [.ref p, .long x] => PadAt S p ∧ ∃ len, len ≤ 80 ∧ sI S p 1 = nI len ∧ (chV x.toUInt64.toNat = 0 → E (some (.int (mI 2))) S) ∧ (0 < chV x.toUInt64.toNat → (80 < len + chV x.toUInt64.toNat → E (some (.int (mI 4))) S) ∧
      (len + chV x.toUInt64.toNat ≤ 80 → ∀ S', Fr S S' p (p + 2) → sI S' p 1 = nI (len + chV x.toUInt64.toNat) → (sI S' (p + 1) = txV (sI S (p + 1)) len (chV x.toUInt64.toNat) x.toUInt64.toNat (chV x.toUInt64.toNat)) → E (some (.int (nI (len + chV x.toUInt64.toNat)))) S'))
  | _ => False
def Γ_X4_append : List (MI × PT) := [(mi_X4_charactersIn, P_X4_charactersIn), (mi_X4_codeIn, P_X4_codeIn)]
theorem hΓ_X4_append (l : Launch) (G : Gx) : ∀ q ∈ Γ_X4_append, Ct l G q.1 q.2 := List.forall_mem_cons.mpr ⟨ct_X4_charactersIn l G, List.forall_mem_cons.mpr ⟨ct_X4_codeIn l G, fun _ h => absurd h List.not_mem_nil⟩⟩
set_option maxHeartbeats 1000000 in
theorem lp_X4_append (l : Launch) (G : Gx) {S : SS} {p len n : Nat} {x : Int64} {E : Option Value → SS → Prop} (hp : PadAt S p) (hn : n ≤ 8) (hln : len + n ≤ 80) (h : ∀ S', Fr S S' p (p + 2) → sI S' p 1 = nI (len + n) → (sI S' (p + 1) = txV (sI S (p + 1)) len n x.toUInt64.toNat n) → E (some (.int (nI (len + n)))) S') :
    ∀ m, m ≤ n → ∀ T y, Fr S T p (p + 2) → sI T p 1 = nI (len + m) → sI T (p + 1) = txV (sI S (p + 1)) len n x.toUInt64.toNat m → (m = n → y < 0) → (m < n → y = nI (n - 1 - m)) → V l G mi_X4_append E 32 [some (.ref p), some (.long x), none, some (.int (nI n)), some (.int y)] [] T 0 0 := by
  refine loopUp n fun m hm ih T y hF e1 e2 y1 y2 => ?_
  refine (V.segN (Γ := Γ_X4_append) (hΓ_X4_append l G) so_X4_append 4 (sg := sg_X4_append_32) so_X4_append_32 ?_ : V l G mi_X4_append _ (segPc sg_X4_append_32) _ _ _ _ _)
  simp only [mL_X4_append, mT_X4_append, rc_X4_append, rs_X4_append, Γ_X4_append, sg_X4_append_0, sg_X4_append_13, sg_X4_append_27, sg_X4_append_32, sg_X4_append_69, wn_X4_append_0, wn_X4_append_13, wn_X4_append_27, wn_X4_append_32, wn_X4_append_69, wp_c, ex_c, x_nop, x_goto, x_table, x_iinc, x_ldc, x_ldc2, x_iaload, x_faload, x_baload, x_caload, x_iastore, x_fastore, x_bastore, x_castore, x_aastore, x_alen, x_gets, x_new, x_newa, x_anew, x_invs, x_invi, x_invv, x_ret, x_iret, x_lret, x_fret, x_aret, x_lconst, x_fconst0, x_fconst1, x_fconst2, x_dconst0, x_dconst1, x_null, x_iadd, x_isub, x_imul, x_iand, x_ior, x_idiv, x_irem, x_ineg, x_ishl, x_ishr, x_land, x_lor, x_lushr, x_lshl, x_lcmp, x_i2l, x_l2i, x_i2c, x_i2f, x_f2d, x_d2i, x_d2l, x_fadd, x_fsub, x_fmul, x_fdiv, x_dadd, x_dsub, x_dmul, x_ddiv, x_fcmp, x_dcmp, x_dupI, x_dupR, x_dup2, x_popI, x_popR, ldP_I, ldP_L, ldP_F, ldP_D, ldP_R, ldP_N, x_iload, x_iload_n, x_lload, x_lload_n, x_fload, x_fload_n, x_dload, x_dload_n, x_aload, x_aload_n, x_istore, x_istore_n, x_lstore, x_lstore_n, x_fstore, x_fstore_n, x_dstore, x_dstore_n, x_astore, x_astore_n, x_astoreN, x_astore_nN, x_icmp_eq, x_icmp_ne, x_icmp_lt, x_icmp_ge, x_icmp_gt, x_icmp_le, x_if_eq, x_if_ne, x_if_lt, x_if_ge, x_if_gt, x_if_le, x_ifnull, x_ifnullR, x_ifnn, x_ifnnR, x_aaload2, x_cpI, x_cpF, x_bF, x_bD, x_oI, xk_bipush_120, xk_iconst_0, xk_bipush_m6, xk_iconst_1, xk_bipush_80, xk_bipush_48, xk_bipush_57, xk_bipush_10, xk_bipush_64, xk_bipush_46, xk_bipush_97, xk_bipush_122, xk_bipush_119, xk_bipush_61, xk_bipush_59, xk_bipush_8, xk_bipush_33, xk_bipush_126, xk_bipush_m2, xk_bipush_m4, xk_iconst_4, xk_bipush_6, xk_iconst_2, xk_bipush_40, xk_iconst_3, xk_iconst_5, xk_iconst_m1, xk_bipush_m5, xk_bipush_12, xk_bipush_100, xk_bipush_26, xk_sipush_9999, xk_sipush_500, xk_bipush_7, xk_bipush_m126, xk_bipush_127, xk_bipush_23, xk_sipush_m1022, xk_sipush_1023, xk_bipush_52, xk_bipush_m3, xk_sipush_9830, xk_sipush_4800, xk_sipush_983, xk_sipush_480, xk_bipush_13, xk_bipush_18, xk_bipush_9, xk_bipush_32, xg_0_0, xp_0_0, xg_0_1, xp_0_1, xg_0_2, xp_0_2, xg_0_3, xp_0_3, xg_0_4, xp_0_4, xg_0_5, xp_0_5, xg_0_6, xp_0_6, xg_0_7, xp_0_7, xg_0_8, xp_0_8, xg_1_0, xp_1_0, xg_1_1, xp_1_1, xg_1_2, xp_1_2, xg_1_3, xp_1_3, xg_2_0, xp_2_0, xg_2_1, xp_2_1, xg_2_2, xp_2_2, xg_3_0, xp_3_0, xg_3_1, xp_3_1, xg_3_2, xp_3_2, xg_3_3, xp_3_3, xg_3_4, xp_3_4, xg_3_5, xp_3_5, xg_3_6, xp_3_6, xg_3_7, xp_3_7, xg_3_8, xp_3_8, xg_3_9, xp_3_9, xg_3_10, xp_3_10, xg_3_11, xp_3_11, xg_4_0, xp_4_0, xg_4_1, xp_4_1, xg_5_0, xp_5_0, xg_5_1, xp_5_1, xg_6_0, xp_6_0, xg_6_1, xp_6_1, xg_6_2, xp_6_2, xg_6_3, xp_6_3, xg_6_4, xp_6_4, xg_6_5, xp_6_5, xg_7_0, xp_7_0, xg_7_1, xp_7_1, xg_7_2, xp_7_2, xg_7_3, xp_7_3, xg_7_4, xp_7_4, xg_7_5, xp_7_5, xg_7_6, xp_7_6, xg_7_7, xp_7_7, xg_7_8, xp_7_8, xg_7_9, xp_7_9, xg_7_10, xp_7_10, xg_7_11, xp_7_11, xg_7_12, xp_7_12, xg_7_13, xp_7_13, fv0, fv1, fv2, fv3, kI_0, kI_1, stL, wipeL, entLn, entL, List.getElem?_cons_zero, List.getElem?_cons_succ, List.getElem?_nil, List.set_cons_zero, List.set_cons_succ, List.set_nil, List.length_cons, List.length_nil, List.cons_append, List.nil_append, List.replicate, Nat.reduceAdd, Nat.reduceLeDiff, Nat.reduceSub, true_and, and_true, x_callS, x_callSN, x_callI, x_callIN, x_callV0, x_callV1, x_callV2, x_callV3, x_callV4, x_callV5, x_callV6, x_callV7, callP, List.take_succ_cons, List.take_zero, List.take_nil, List.drop_succ_cons, List.drop_zero, List.drop_nil, List.getLast?_singleton, List.getLast?_cons_cons, Option.some.injEq, Value.ref.injEq, exists_eq_left, exists_eq_left', Nat.zero_le, Nat.add_zero, ldcV_f, ldcV_fn, ldcV_l, ldcV_d, Nat.reduceMul, Nat.le_refl, List.reverse_cons, List.reverse_nil, Option.toList, List.map_cons, List.map_nil, List.sum_cons, List.sum_nil, Value.category, tblW_n, tblW_c, Int.cast_ofNat_Int, Int.reduceAdd, Int.reduceToNat, ofI_n, rc_X4_charactersIn, rs_X4_charactersIn, P_X4_charactersIn, rc_X4_codeIn, rs_X4_codeIn, P_X4_codeIn]
  obtain ⟨p0, p1, p2⟩ := hp
  rw [← hF.1] at p0 p2
  rw [← hF.2.1] at p1
  simp only [p0, p1, p2, e1, sK_stI, sR_stI, sK_stF, sR_stF, sK_stIA, sR_stIA, sK_stFA, sR_stFA, sI_stI, sI_stF, sI_stIA, sI_stFA, sF_stI, sF_stF, sF_stIA, sF_stFA, Nat.left_eq_add, Nat.add_eq_left, Nat.add_left_cancel_iff, Nat.reduceEqDiff, Nat.reduceEqDiff, Nat.succ_ne_self, false_and, and_false, if_false, if_true, nI_succ_sub, Option.some.injEq, Prod.mk.injEq, exists_eq_left', true_and, and_true, retI, retF, retV, retZ1, retZ0, retL, retA, retN, Nat.reduceAdd, Nat.reduceMul, Nat.reduceLT]
  simp (disch := omega) only [nlt0, nge0, neq0, ngt0, nle0, nI_ltI, nI_leI, nI_eq, nI_cl, in_nI, false_implies, true_implies, not_false_eq_true, not_true_eq_false, and_true, true_and, nI_add, pk_mul, implies_true, not_lt0]
  refine ⟨fun q => ?_, fun q => ?_⟩
  · have e : m = n := by
      by_cases c : m = n
      · exact c
      · rw [y2 (by omega)] at q
        exact absurd q (nI_pos (by omega))
    subst e
    exact h T hF e1 e2
  · have hmn : m < n := by
      by_cases c : m = n
      · exact absurd (y1 c) q
      · omega
    have ey := y2 hmn
    subst ey
    have hb := byV_lt x.toUInt64.toNat (n - 1 - m)
    rw [nI_cl (by omega), ch16 _ hb]
    refine ⟨vp_in_nI (by omega) (by omega), by omega, fit16 _ hb, ih hmn _ _ ((hF.stI _ _ _ (by omega) (by omega)).stI _ _ _ (by omega) (by omega)) ?_ ?_ ?_ ?_⟩
    · rw [sI_stI, if_pos ⟨rfl, rfl⟩]
      rfl
    · rw [sI_row, if_neg (by omega), sI_row, if_pos rfl, e2]
      funext j
      unfold upV txV
      by_cases c : j = len + m
      · rw [if_pos c, if_pos (by omega), show n - 1 - (j - len) = n - 1 - m by omega]
      · by_cases c2 : len ≤ j ∧ j < len + m
        · rw [if_neg c, if_pos c2, if_pos (by omega)]
        · rw [if_neg c, if_neg c2, if_neg (by omega)]
    · intro c
      rw [show n - 1 - m = 0 by omega]
      decide
    · intro c
      obtain ⟨z, hz⟩ : ∃ z, n - 1 - m = z + 1 := ⟨n - 1 - m - 1, by omega⟩
      rw [hz, show n - 1 - (m + 1) = z by omega]
      rw [show mI 1 = -nI 1 from by decide, ← Int32.sub_eq_add_neg]
      exact nI_succ_sub
set_option maxHeartbeats 1000000 in
theorem ct_X4_append (l : Launch) (G : Gx) : Ct l G mi_X4_append P_X4_append := by
  refine Ct.ofV mo_X4_append (fun as S E h => ?_)
  unfold P_X4_append at h
  split at h
  case h_2 => exact h.elim
  rename_i p x
  refine ⟨by simp [entL, mL_X4_append], ?_⟩
  refine wpN_ok (Γ := Γ_X4_append) (hΓ_X4_append l G) so_X4_append 6 _ _ _ _ _ _ ?_
  simp only [mL_X4_append, mT_X4_append, rc_X4_append, rs_X4_append, Γ_X4_append, sg_X4_append_0, sg_X4_append_13, sg_X4_append_27, sg_X4_append_32, sg_X4_append_69, wn_X4_append_0, wn_X4_append_13, wn_X4_append_27, wn_X4_append_32, wn_X4_append_69, wp_c, ex_c, x_nop, x_goto, x_table, x_iinc, x_ldc, x_ldc2, x_iaload, x_faload, x_baload, x_caload, x_iastore, x_fastore, x_bastore, x_castore, x_aastore, x_alen, x_gets, x_new, x_newa, x_anew, x_invs, x_invi, x_invv, x_ret, x_iret, x_lret, x_fret, x_aret, x_lconst, x_fconst0, x_fconst1, x_fconst2, x_dconst0, x_dconst1, x_null, x_iadd, x_isub, x_imul, x_iand, x_ior, x_idiv, x_irem, x_ineg, x_ishl, x_ishr, x_land, x_lor, x_lushr, x_lshl, x_lcmp, x_i2l, x_l2i, x_i2c, x_i2f, x_f2d, x_d2i, x_d2l, x_fadd, x_fsub, x_fmul, x_fdiv, x_dadd, x_dsub, x_dmul, x_ddiv, x_fcmp, x_dcmp, x_dupI, x_dupR, x_dup2, x_popI, x_popR, ldP_I, ldP_L, ldP_F, ldP_D, ldP_R, ldP_N, x_iload, x_iload_n, x_lload, x_lload_n, x_fload, x_fload_n, x_dload, x_dload_n, x_aload, x_aload_n, x_istore, x_istore_n, x_lstore, x_lstore_n, x_fstore, x_fstore_n, x_dstore, x_dstore_n, x_astore, x_astore_n, x_astoreN, x_astore_nN, x_icmp_eq, x_icmp_ne, x_icmp_lt, x_icmp_ge, x_icmp_gt, x_icmp_le, x_if_eq, x_if_ne, x_if_lt, x_if_ge, x_if_gt, x_if_le, x_ifnull, x_ifnullR, x_ifnn, x_ifnnR, x_aaload2, x_cpI, x_cpF, x_bF, x_bD, x_oI, xk_bipush_120, xk_iconst_0, xk_bipush_m6, xk_iconst_1, xk_bipush_80, xk_bipush_48, xk_bipush_57, xk_bipush_10, xk_bipush_64, xk_bipush_46, xk_bipush_97, xk_bipush_122, xk_bipush_119, xk_bipush_61, xk_bipush_59, xk_bipush_8, xk_bipush_33, xk_bipush_126, xk_bipush_m2, xk_bipush_m4, xk_iconst_4, xk_bipush_6, xk_iconst_2, xk_bipush_40, xk_iconst_3, xk_iconst_5, xk_iconst_m1, xk_bipush_m5, xk_bipush_12, xk_bipush_100, xk_bipush_26, xk_sipush_9999, xk_sipush_500, xk_bipush_7, xk_bipush_m126, xk_bipush_127, xk_bipush_23, xk_sipush_m1022, xk_sipush_1023, xk_bipush_52, xk_bipush_m3, xk_sipush_9830, xk_sipush_4800, xk_sipush_983, xk_sipush_480, xk_bipush_13, xk_bipush_18, xk_bipush_9, xk_bipush_32, xg_0_0, xp_0_0, xg_0_1, xp_0_1, xg_0_2, xp_0_2, xg_0_3, xp_0_3, xg_0_4, xp_0_4, xg_0_5, xp_0_5, xg_0_6, xp_0_6, xg_0_7, xp_0_7, xg_0_8, xp_0_8, xg_1_0, xp_1_0, xg_1_1, xp_1_1, xg_1_2, xp_1_2, xg_1_3, xp_1_3, xg_2_0, xp_2_0, xg_2_1, xp_2_1, xg_2_2, xp_2_2, xg_3_0, xp_3_0, xg_3_1, xp_3_1, xg_3_2, xp_3_2, xg_3_3, xp_3_3, xg_3_4, xp_3_4, xg_3_5, xp_3_5, xg_3_6, xp_3_6, xg_3_7, xp_3_7, xg_3_8, xp_3_8, xg_3_9, xp_3_9, xg_3_10, xp_3_10, xg_3_11, xp_3_11, xg_4_0, xp_4_0, xg_4_1, xp_4_1, xg_5_0, xp_5_0, xg_5_1, xp_5_1, xg_6_0, xp_6_0, xg_6_1, xp_6_1, xg_6_2, xp_6_2, xg_6_3, xp_6_3, xg_6_4, xp_6_4, xg_6_5, xp_6_5, xg_7_0, xp_7_0, xg_7_1, xp_7_1, xg_7_2, xp_7_2, xg_7_3, xp_7_3, xg_7_4, xp_7_4, xg_7_5, xp_7_5, xg_7_6, xp_7_6, xg_7_7, xp_7_7, xg_7_8, xp_7_8, xg_7_9, xp_7_9, xg_7_10, xp_7_10, xg_7_11, xp_7_11, xg_7_12, xp_7_12, xg_7_13, xp_7_13, fv0, fv1, fv2, fv3, kI_0, kI_1, stL, wipeL, entLn, entL, List.getElem?_cons_zero, List.getElem?_cons_succ, List.getElem?_nil, List.set_cons_zero, List.set_cons_succ, List.set_nil, List.length_cons, List.length_nil, List.cons_append, List.nil_append, List.replicate, Nat.reduceAdd, Nat.reduceLeDiff, Nat.reduceSub, true_and, and_true, x_callS, x_callSN, x_callI, x_callIN, x_callV0, x_callV1, x_callV2, x_callV3, x_callV4, x_callV5, x_callV6, x_callV7, callP, List.take_succ_cons, List.take_zero, List.take_nil, List.drop_succ_cons, List.drop_zero, List.drop_nil, List.getLast?_singleton, List.getLast?_cons_cons, Option.some.injEq, Value.ref.injEq, exists_eq_left, exists_eq_left', Nat.zero_le, Nat.add_zero, ldcV_f, ldcV_fn, ldcV_l, ldcV_d, Nat.reduceMul, Nat.le_refl, List.reverse_cons, List.reverse_nil, Option.toList, List.map_cons, List.map_nil, List.sum_cons, List.sum_nil, Value.category, tblW_n, tblW_c, Int.cast_ofNat_Int, Int.reduceAdd, Int.reduceToNat, ofI_n, rc_X4_charactersIn, rs_X4_charactersIn, P_X4_charactersIn, rc_X4_codeIn, rs_X4_codeIn, P_X4_codeIn]
  obtain ⟨hp, len, hlen, el, h1, h2⟩ := h
  have hc := chV_le x.toUInt64.toNat
  have hp0 := hp
  obtain ⟨p0, p1, p2⟩ := hp
  simp only [p0, p1, p2, el, sK_stI, sR_stI, sK_stF, sR_stF, sK_stIA, sR_stIA, sK_stFA, sR_stFA, sI_stI, sI_stF, sI_stIA, sI_stFA, sF_stI, sF_stF, sF_stIA, sF_stFA, Nat.left_eq_add, Nat.add_eq_left, Nat.add_left_cancel_iff, Nat.reduceEqDiff, Nat.reduceEqDiff, Nat.succ_ne_self, false_and, and_false, if_false, if_true, nI_succ_sub, Option.some.injEq, Prod.mk.injEq, exists_eq_left', true_and, and_true, retI, retF, retV, retZ1, retZ0, retL, retA, retN, Nat.reduceAdd, Nat.reduceMul, Nat.reduceLT]
  simp (disch := omega) only [nlt0, nge0, neq0, ngt0, nle0, nI_ltI, nI_leI, nI_eq, nI_cl, in_nI, false_implies, true_implies, not_false_eq_true, not_true_eq_false, and_true, true_and, nI_add, pk_mul, implies_true, not_lt0]
  refine ⟨fun q => ⟨fun q2 => ?_, fun q2 => (h2 q).1 (by omega)⟩, fun q => h1 (by omega)⟩
  refine lp_X4_append l G hp0 hc q2 ((h2 q).2 q2) 0 (by omega) S _ (Fr.refl _ _ _) el ?_ (fun a => absurd a (by omega)) (fun _ => by rw [pk_sub q]; rfl)
  funext j
  unfold txV
  rw [if_neg (by omega)]
