-- needs: 65.mcar
/-! the reference carries out all orders -/
/-- what stands while orders are done: U noted, T now, the desk D -/
def RI (U T : SS) (y : Nat) (D : DV) : Prop := Fr U T y (y + 5) ∧ sI T (y + 3) = sI U (y + 3) ∧ (∀ k, k < 7 → sI T y k = sI U y k) ∧ FO (sI T y) ∧ DE (mV T y 0) D ∧ ∀ q, 1 ≤ q → q < 9 → Qs U T y q q
theorem RI.op {U T T' : SS} {y : Nat} {D D' D2 : DV} (h : RI U T y D) (k : OpS T T' y D') (e : DE D' D2) : RI U T' y D2 := by
  obtain ⟨h1, h2, h3, h4, h5, h6⟩ := h
  obtain ⟨k1, k2, k3, k4⟩ := k
  have ey : sI T' y = sI T y := k1.i (by omega)
  exact ⟨h1.trans (k1.mono (by omega) (by omega)), k2.trans h2, fun k hk => by rw [ey]; exact h3 k hk, by rw [ey]; exact h4, k3.trans e, fun q a b => (h6 q a b).trans (k4 q a b)⟩
theorem Qs.num {T : SS} {y : Nat} {g : Nat → Int32} (q : Nat) : Qs T (stIA T y g) y q q := ⟨fun j hj => by rw [sI_stIA, if_neg (by omega)], fun j hj => rfl⟩
theorem RI.num {U T : SS} {y : Nat} {D : DV} {g : Nat → Int32} (h : RI U T y D) (h1 : ∀ k, k < 7 → g k = sI T y k) (h2 : FO g) : RI U (stIA T y g) y D := by
  obtain ⟨k1, k2, k3, k4, k5, k6⟩ := h
  have Q : ∀ q, Qs T (stIA T y g) y q q := fun q => ⟨fun j hj => by rw [sI_stIA, if_neg (by omega)], fun j hj => rfl⟩
  refine ⟨k1.stIA _ _ (by omega) (by omega), ?_, fun k hk => ?_, ?_, (Q 0).de.trans k5, fun q a b => (k6 q a b).trans (Q q)⟩
  · rw [sI_stIA, if_neg (by omega), k2]
  · rw [sI_stIA, if_pos rfl, h1 k hk, k3 k hk]
  · rw [sI_stIA, if_pos rfl]; exact h2
theorem RI.text {U T : SS} {y n : Nat} {D : DV} {X : Nat → Nat} (h : RI U T y D) (t : TM U y X n) : TM T y X n := by
  obtain ⟨h1, h2, h3⟩ := t
  exact ⟨h1, by rw [h.2.2.1 6 (by omega), h2], fun j hj => ⟨(h3 j hj).1, by rw [h.1.i (by omega)]; exact (h3 j hj).2⟩⟩
theorem EntF.op {T T' : SS} {y j : Nat} {e : Ent} (h : EntF T y j e) (k : Fr T T' (y + 1) (y + 5)) : EntF T' y j e := by
  unfold EntF EntW at h ⊢
  rw [k.i (show y < y + 1 ∨ y + 5 ≤ y by omega), k.i (show y + 5 < y + 1 ∨ y + 5 ≤ y + 5 by omega)]
  exact h
def Γ_X7_carryOut : List (MI × PT) := [(mi_X7_fault, P_X7_fault), (mi_X7_changes, P_X7_changes), (mi_X7_readsOrder, P_X7_readsOrder), (mi_X7_orderError, P_X7_orderError), (mi_X7_does, P_X7_does), (mi_X7_takes, P_X7_takes)]
theorem hΓ_X7_carryOut (l : Launch) (G : Gx) : ∀ q ∈ Γ_X7_carryOut, Ct l G q.1 q.2 := List.forall_mem_cons.mpr ⟨ct_X7_fault l G, List.forall_mem_cons.mpr ⟨ct_X7_changes l G, List.forall_mem_cons.mpr ⟨ct_X7_readsOrder l G, List.forall_mem_cons.mpr ⟨ct_X7_orderError l G, List.forall_mem_cons.mpr ⟨ct_X7_does l G, List.forall_mem_cons.mpr ⟨ct_X7_takes l G, fun _ h => absurd h List.not_mem_nil⟩⟩⟩⟩⟩⟩
set_option maxHeartbeats 1000000 in
theorem lpS_X7_carryOut (l : Launch) (G : Gx) {y : Nat} {T : SS} {cnt j to : Nat} {x3 x6 : Option Value} {E : Option Value → SS → Prop} (hj : j < 1000) (ht : to < 1000)
    (h : V l G mi_X7_carryOut E 25 [some (.ref y), some (.int (nI cnt)), some (.int (nI 0)), x3, some (.int (nI to)), some (.int (nI j)), x6] [] T 0 0) :
    V l G mi_X7_carryOut E 64 [some (.ref y), some (.int (nI cnt)), some (.int (nI 0)), x3, some (.int (nI to)), some (.int (nI j)), x6] [] T 0 0 := by
  refine (V.segN (Γ := Γ_X7_carryOut) (hΓ_X7_carryOut l G) so_X7_carryOut 9 (sg := sg_X7_carryOut_64) so_X7_carryOut_64 ?_ : V l G mi_X7_carryOut _ (segPc sg_X7_carryOut_64) _ _ _ _ _)
  simp only [mL_X7_carryOut, mT_X7_carryOut, rc_X7_carryOut, rs_X7_carryOut, Γ_X7_carryOut, sg_X7_carryOut_0, sg_X7_carryOut_12, sg_X7_carryOut_25, sg_X7_carryOut_50, sg_X7_carryOut_56, sg_X7_carryOut_64, sg_X7_carryOut_88, sg_X7_carryOut_89, sg_X7_carryOut_103, sg_X7_carryOut_105, sg_X7_carryOut_116, sg_X7_carryOut_117, sg_X7_carryOut_125, sg_X7_carryOut_142, sg_X7_carryOut_143, sg_X7_carryOut_147, wn_X7_carryOut_0, wn_X7_carryOut_12, wn_X7_carryOut_25, wn_X7_carryOut_50, wn_X7_carryOut_56, wn_X7_carryOut_64, wn_X7_carryOut_88, wn_X7_carryOut_89, wn_X7_carryOut_103, wn_X7_carryOut_105, wn_X7_carryOut_116, wn_X7_carryOut_117, wn_X7_carryOut_125, wn_X7_carryOut_142, wn_X7_carryOut_143, wn_X7_carryOut_147, wp_c, ex_c, x_nop, x_goto, x_table, x_iinc, x_ldc, x_ldc2, x_iaload, x_faload, x_baload, x_caload, x_iastore, x_fastore, x_bastore, x_castore, x_aastore, x_alen, x_gets, x_new, x_newa, x_anew, x_invs, x_invi, x_invv, x_ret, x_iret, x_lret, x_fret, x_aret, x_lconst, x_fconst0, x_fconst1, x_fconst2, x_dconst0, x_dconst1, x_null, x_iadd, x_isub, x_imul, x_iand, x_ior, x_idiv, x_irem, x_ineg, x_ishl, x_ishr, x_land, x_lor, x_lushr, x_lshl, x_lcmp, x_i2l, x_l2i, x_i2c, x_i2f, x_f2d, x_d2i, x_d2l, x_fadd, x_fsub, x_fmul, x_fdiv, x_dadd, x_dsub, x_dmul, x_ddiv, x_fcmp, x_dcmp, x_dupI, x_dupR, x_dup2, x_popI, x_popR, ldP_I, ldP_L, ldP_F, ldP_D, ldP_R, ldP_N, x_iload, x_iload_n, x_lload, x_lload_n, x_fload, x_fload_n, x_dload, x_dload_n, x_aload, x_aload_n, x_istore, x_istore_n, x_lstore, x_lstore_n, x_fstore, x_fstore_n, x_dstore, x_dstore_n, x_astore, x_astore_n, x_astoreN, x_astore_nN, x_icmp_eq, x_icmp_ne, x_icmp_lt, x_icmp_ge, x_icmp_gt, x_icmp_le, x_if_eq, x_if_ne, x_if_lt, x_if_ge, x_if_gt, x_if_le, x_ifnull, x_ifnullR, x_ifnn, x_ifnnR, x_aaload2, x_cpI, x_cpF, x_bF, x_bD, x_oI, xk_bipush_120, xk_iconst_0, xk_bipush_m6, xk_iconst_1, xk_bipush_80, xk_bipush_48, xk_bipush_57, xk_bipush_10, xk_bipush_64, xk_bipush_46, xk_bipush_97, xk_bipush_122, xk_bipush_119, xk_bipush_61, xk_bipush_59, xk_bipush_8, xk_bipush_33, xk_bipush_126, xk_bipush_m2, xk_bipush_m4, xk_iconst_4, xk_bipush_6, xk_iconst_2, xk_bipush_40, xk_iconst_3, xk_iconst_5, xk_iconst_m1, xk_bipush_m5, xk_bipush_12, xk_bipush_100, xk_bipush_26, xk_sipush_9999, xk_sipush_500, xk_bipush_7, xk_bipush_m126, xk_bipush_127, xk_bipush_23, xk_sipush_m1022, xk_sipush_1023, xk_bipush_52, xk_bipush_m3, xk_sipush_9830, xk_sipush_4800, xk_sipush_983, xk_sipush_480, xk_bipush_13, xk_bipush_18, xk_bipush_9, xk_bipush_32, xg_0_0, xp_0_0, xg_0_1, xp_0_1, xg_0_2, xp_0_2, xg_0_3, xp_0_3, xg_0_4, xp_0_4, xg_0_5, xp_0_5, xg_0_6, xp_0_6, xg_0_7, xp_0_7, xg_0_8, xp_0_8, xg_1_0, xp_1_0, xg_1_1, xp_1_1, xg_1_2, xp_1_2, xg_1_3, xp_1_3, xg_2_0, xp_2_0, xg_2_1, xp_2_1, xg_2_2, xp_2_2, xg_3_0, xp_3_0, xg_3_1, xp_3_1, xg_3_2, xp_3_2, xg_3_3, xp_3_3, xg_3_4, xp_3_4, xg_3_5, xp_3_5, xg_3_6, xp_3_6, xg_3_7, xp_3_7, xg_3_8, xp_3_8, xg_3_9, xp_3_9, xg_3_10, xp_3_10, xg_3_11, xp_3_11, xg_4_0, xp_4_0, xg_4_1, xp_4_1, xg_5_0, xp_5_0, xg_5_1, xp_5_1, xg_6_0, xp_6_0, xg_6_1, xp_6_1, xg_6_2, xp_6_2, xg_6_3, xp_6_3, xg_6_4, xp_6_4, xg_6_5, xp_6_5, xg_7_0, xp_7_0, xg_7_1, xp_7_1, xg_7_2, xp_7_2, xg_7_3, xp_7_3, xg_7_4, xp_7_4, xg_7_5, xp_7_5, xg_7_6, xp_7_6, xg_7_7, xp_7_7, xg_7_8, xp_7_8, xg_7_9, xp_7_9, xg_7_10, xp_7_10, xg_7_11, xp_7_11, xg_7_12, xp_7_12, xg_7_13, xp_7_13, fv0, fv1, fv2, fv3, kI_0, kI_1, stL, wipeL, entLn, entL, List.getElem?_cons_zero, List.getElem?_cons_succ, List.getElem?_nil, List.set_cons_zero, List.set_cons_succ, List.set_nil, List.length_cons, List.length_nil, List.cons_append, List.nil_append, List.replicate, Nat.reduceAdd, Nat.reduceLeDiff, Nat.reduceSub, true_and, and_true, x_callS, x_callSN, x_callI, x_callIN, x_callV0, x_callV1, x_callV2, x_callV3, x_callV4, x_callV5, x_callV6, x_callV7, callP, List.take_succ_cons, List.take_zero, List.take_nil, List.drop_succ_cons, List.drop_zero, List.drop_nil, List.getLast?_singleton, List.getLast?_cons_cons, Option.some.injEq, Value.ref.injEq, exists_eq_left, exists_eq_left', Nat.zero_le, Nat.add_zero, ldcV_f, ldcV_fn, ldcV_l, ldcV_d, Nat.reduceMul, Nat.le_refl, List.reverse_cons, List.reverse_nil, Option.toList, List.map_cons, List.map_nil, List.sum_cons, List.sum_nil, Value.category, tblW_n, tblW_c, Int.cast_ofNat_Int, Int.reduceAdd, Int.reduceToNat, ofI_n, rc_X7_fault, rs_X7_fault, P_X7_fault, rc_X7_changes, rs_X7_changes, P_X7_changes, rc_X7_readsOrder, rs_X7_readsOrder, P_X7_readsOrder, rc_X7_orderError, rs_X7_orderError, P_X7_orderError, rc_X7_does, rs_X7_does, P_X7_does, rc_X7_takes, rs_X7_takes, P_X7_takes]
  simp only [n10', n00', not_true_eq_false, not_false_eq_true, true_implies, false_implies, true_and, and_true, sK_stI, sR_stI, sK_stF, sR_stF, sK_stIA, sR_stIA, sK_stFA, sR_stFA, sI_stI, sI_stF, sI_stIA, sI_stFA, sF_stI, sF_stF, sF_stIA, sF_stFA, Nat.left_eq_add, Nat.add_eq_left, Nat.add_left_cancel_iff, Nat.reduceEqDiff, Nat.reduceEqDiff, Nat.succ_ne_self, false_and, and_false, if_false, if_true, nI_succ_sub, Option.some.injEq, Prod.mk.injEq, exists_eq_left', true_and, and_true, retI, retF, retV, retZ1, retZ0, retL, retA, retN, Nat.reduceAdd, Nat.reduceMul, Nat.reduceLT]
  exact ⟨fun _ => h, fun _ => h⟩
set_option maxHeartbeats 1000000 in
theorem lpI_X7_carryOut (l : Launch) (G : Gx) {U : SS} {y n i to : Nat} {X : Nat → Nat} {E : Option Value → SS → Prop} (hM : ModAt U y) (hX : TM U y X n) (hi : i ≤ n) (x3 : Option Value) (hto : to ≤ 81) :
    ∀ (es : List Ent) (j cnt : Nat) (T : SS) (D : DV) (x6 : Option Value), RI U T y D → DOK D → sI T y 7 = nI i → j + es.length = to → (∀ t e, es[t]? = some e → EntF T y (j + t) e) →
      (∀ T' x4 x5 x6, RI U T' y (rE es cnt D).2.1 → sI T' y 7 = nI i → ((rE es cnt D).2.2 = true ∧ chP X n i = 59 → V l G mi_X7_carryOut E 25 [some (.ref y), some (.int (nI (rE es cnt D).1)), some (.int (nI 1)), x3, x4, x5, x6] [] (stIA T' y (upV (sI T' y) 7 (nI (i + 1)))) 0 0) ∧ (¬ ((rE es cnt D).2.2 = true ∧ chP X n i = 59) → V l G mi_X7_carryOut E 25 [some (.ref y), some (.int (nI (rE es cnt D).1)), some (.int (nI 0)), x3, x4, x5, x6] [] T' 0 0)) →
      V l G mi_X7_carryOut E 64 [some (.ref y), some (.int (nI cnt)), some (.int (nI 1)), x3, some (.int (nI to)), some (.int (nI j)), x6] [] T 0 0 := by
  intro es
  induction es with
  | nil =>
    intro j cnt T D x6 hR hD e7 hl hE h
    refine (V.segN (Γ := Γ_X7_carryOut) (hΓ_X7_carryOut l G) so_X7_carryOut 9 (sg := sg_X7_carryOut_64) so_X7_carryOut_64 ?_ : V l G mi_X7_carryOut _ (segPc sg_X7_carryOut_64) _ _ _ _ _)
    simp only [mL_X7_carryOut, mT_X7_carryOut, rc_X7_carryOut, rs_X7_carryOut, Γ_X7_carryOut, sg_X7_carryOut_0, sg_X7_carryOut_12, sg_X7_carryOut_25, sg_X7_carryOut_50, sg_X7_carryOut_56, sg_X7_carryOut_64, sg_X7_carryOut_88, sg_X7_carryOut_89, sg_X7_carryOut_103, sg_X7_carryOut_105, sg_X7_carryOut_116, sg_X7_carryOut_117, sg_X7_carryOut_125, sg_X7_carryOut_142, sg_X7_carryOut_143, sg_X7_carryOut_147, wn_X7_carryOut_0, wn_X7_carryOut_12, wn_X7_carryOut_25, wn_X7_carryOut_50, wn_X7_carryOut_56, wn_X7_carryOut_64, wn_X7_carryOut_88, wn_X7_carryOut_89, wn_X7_carryOut_103, wn_X7_carryOut_105, wn_X7_carryOut_116, wn_X7_carryOut_117, wn_X7_carryOut_125, wn_X7_carryOut_142, wn_X7_carryOut_143, wn_X7_carryOut_147, wp_c, ex_c, x_nop, x_goto, x_table, x_iinc, x_ldc, x_ldc2, x_iaload, x_faload, x_baload, x_caload, x_iastore, x_fastore, x_bastore, x_castore, x_aastore, x_alen, x_gets, x_new, x_newa, x_anew, x_invs, x_invi, x_invv, x_ret, x_iret, x_lret, x_fret, x_aret, x_lconst, x_fconst0, x_fconst1, x_fconst2, x_dconst0, x_dconst1, x_null, x_iadd, x_isub, x_imul, x_iand, x_ior, x_idiv, x_irem, x_ineg, x_ishl, x_ishr, x_land, x_lor, x_lushr, x_lshl, x_lcmp, x_i2l, x_l2i, x_i2c, x_i2f, x_f2d, x_d2i, x_d2l, x_fadd, x_fsub, x_fmul, x_fdiv, x_dadd, x_dsub, x_dmul, x_ddiv, x_fcmp, x_dcmp, x_dupI, x_dupR, x_dup2, x_popI, x_popR, ldP_I, ldP_L, ldP_F, ldP_D, ldP_R, ldP_N, x_iload, x_iload_n, x_lload, x_lload_n, x_fload, x_fload_n, x_dload, x_dload_n, x_aload, x_aload_n, x_istore, x_istore_n, x_lstore, x_lstore_n, x_fstore, x_fstore_n, x_dstore, x_dstore_n, x_astore, x_astore_n, x_astoreN, x_astore_nN, x_icmp_eq, x_icmp_ne, x_icmp_lt, x_icmp_ge, x_icmp_gt, x_icmp_le, x_if_eq, x_if_ne, x_if_lt, x_if_ge, x_if_gt, x_if_le, x_ifnull, x_ifnullR, x_ifnn, x_ifnnR, x_aaload2, x_cpI, x_cpF, x_bF, x_bD, x_oI, xk_bipush_120, xk_iconst_0, xk_bipush_m6, xk_iconst_1, xk_bipush_80, xk_bipush_48, xk_bipush_57, xk_bipush_10, xk_bipush_64, xk_bipush_46, xk_bipush_97, xk_bipush_122, xk_bipush_119, xk_bipush_61, xk_bipush_59, xk_bipush_8, xk_bipush_33, xk_bipush_126, xk_bipush_m2, xk_bipush_m4, xk_iconst_4, xk_bipush_6, xk_iconst_2, xk_bipush_40, xk_iconst_3, xk_iconst_5, xk_iconst_m1, xk_bipush_m5, xk_bipush_12, xk_bipush_100, xk_bipush_26, xk_sipush_9999, xk_sipush_500, xk_bipush_7, xk_bipush_m126, xk_bipush_127, xk_bipush_23, xk_sipush_m1022, xk_sipush_1023, xk_bipush_52, xk_bipush_m3, xk_sipush_9830, xk_sipush_4800, xk_sipush_983, xk_sipush_480, xk_bipush_13, xk_bipush_18, xk_bipush_9, xk_bipush_32, xg_0_0, xp_0_0, xg_0_1, xp_0_1, xg_0_2, xp_0_2, xg_0_3, xp_0_3, xg_0_4, xp_0_4, xg_0_5, xp_0_5, xg_0_6, xp_0_6, xg_0_7, xp_0_7, xg_0_8, xp_0_8, xg_1_0, xp_1_0, xg_1_1, xp_1_1, xg_1_2, xp_1_2, xg_1_3, xp_1_3, xg_2_0, xp_2_0, xg_2_1, xp_2_1, xg_2_2, xp_2_2, xg_3_0, xp_3_0, xg_3_1, xp_3_1, xg_3_2, xp_3_2, xg_3_3, xp_3_3, xg_3_4, xp_3_4, xg_3_5, xp_3_5, xg_3_6, xp_3_6, xg_3_7, xp_3_7, xg_3_8, xp_3_8, xg_3_9, xp_3_9, xg_3_10, xp_3_10, xg_3_11, xp_3_11, xg_4_0, xp_4_0, xg_4_1, xp_4_1, xg_5_0, xp_5_0, xg_5_1, xp_5_1, xg_6_0, xp_6_0, xg_6_1, xp_6_1, xg_6_2, xp_6_2, xg_6_3, xp_6_3, xg_6_4, xp_6_4, xg_6_5, xp_6_5, xg_7_0, xp_7_0, xg_7_1, xp_7_1, xg_7_2, xp_7_2, xg_7_3, xp_7_3, xg_7_4, xp_7_4, xg_7_5, xp_7_5, xg_7_6, xp_7_6, xg_7_7, xp_7_7, xg_7_8, xp_7_8, xg_7_9, xp_7_9, xg_7_10, xp_7_10, xg_7_11, xp_7_11, xg_7_12, xp_7_12, xg_7_13, xp_7_13, fv0, fv1, fv2, fv3, kI_0, kI_1, stL, wipeL, entLn, entL, List.getElem?_cons_zero, List.getElem?_cons_succ, List.getElem?_nil, List.set_cons_zero, List.set_cons_succ, List.set_nil, List.length_cons, List.length_nil, List.cons_append, List.nil_append, List.replicate, Nat.reduceAdd, Nat.reduceLeDiff, Nat.reduceSub, true_and, and_true, x_callS, x_callSN, x_callI, x_callIN, x_callV0, x_callV1, x_callV2, x_callV3, x_callV4, x_callV5, x_callV6, x_callV7, callP, List.take_succ_cons, List.take_zero, List.take_nil, List.drop_succ_cons, List.drop_zero, List.drop_nil, List.getLast?_singleton, List.getLast?_cons_cons, Option.some.injEq, Value.ref.injEq, exists_eq_left, exists_eq_left', Nat.zero_le, Nat.add_zero, ldcV_f, ldcV_fn, ldcV_l, ldcV_d, Nat.reduceMul, Nat.le_refl, List.reverse_cons, List.reverse_nil, Option.toList, List.map_cons, List.map_nil, List.sum_cons, List.sum_nil, Value.category, tblW_n, tblW_c, Int.cast_ofNat_Int, Int.reduceAdd, Int.reduceToNat, ofI_n, rc_X7_fault, rs_X7_fault, P_X7_fault, rc_X7_changes, rs_X7_changes, P_X7_changes, rc_X7_readsOrder, rs_X7_readsOrder, P_X7_readsOrder, rc_X7_orderError, rs_X7_orderError, P_X7_orderError, rc_X7_does, rs_X7_does, P_X7_does, rc_X7_takes, rs_X7_takes, P_X7_takes]
    have hM2 := hR.1.mod hM
    have hX2 := hR.text hX
    have hn := hX.1
    rw [List.length_nil, Nat.add_zero] at hl
    subst hl
    simp only [hM2.1, bI_0, n10', n00', not_true_eq_false, not_false_eq_true, true_implies, false_implies, true_and, and_true, sK_stI, sR_stI, sK_stF, sR_stF, sK_stIA, sR_stIA, sK_stFA, sR_stFA, sI_stI, sI_stF, sI_stIA, sI_stFA, sF_stI, sF_stF, sF_stIA, sF_stFA, Nat.left_eq_add, Nat.add_eq_left, Nat.add_left_cancel_iff, Nat.reduceEqDiff, Nat.reduceEqDiff, Nat.succ_ne_self, false_and, and_false, if_false, if_true, nI_succ_sub, Option.some.injEq, Prod.mk.injEq, exists_eq_left', true_and, and_true, retI, retF, retV, retZ1, retZ0, retL, retA, retN, Nat.reduceAdd, Nat.reduceMul, Nat.reduceLT]
    refine ⟨fun _ => ⟨X, n, i, 59, hM2, hX2, by omega, e7, rfl, by omega, by omega, fun c => ?_, fun c => ?_⟩, fun a => absurd (Int32.le_refl _) a⟩
    · exact (h T _ _ _ hR e7).1 ⟨rfl, c⟩
    · exact (h T _ _ _ hR e7).2 (fun a => c a.2)
  | cons e es ih =>
    intro j cnt T D x6 hR hD e7 hl hE h
    refine (V.segN (Γ := Γ_X7_carryOut) (hΓ_X7_carryOut l G) so_X7_carryOut 9 (sg := sg_X7_carryOut_64) so_X7_carryOut_64 ?_ : V l G mi_X7_carryOut _ (segPc sg_X7_carryOut_64) _ _ _ _ _)
    simp only [mL_X7_carryOut, mT_X7_carryOut, rc_X7_carryOut, rs_X7_carryOut, Γ_X7_carryOut, sg_X7_carryOut_0, sg_X7_carryOut_12, sg_X7_carryOut_25, sg_X7_carryOut_50, sg_X7_carryOut_56, sg_X7_carryOut_64, sg_X7_carryOut_88, sg_X7_carryOut_89, sg_X7_carryOut_103, sg_X7_carryOut_105, sg_X7_carryOut_116, sg_X7_carryOut_117, sg_X7_carryOut_125, sg_X7_carryOut_142, sg_X7_carryOut_143, sg_X7_carryOut_147, wn_X7_carryOut_0, wn_X7_carryOut_12, wn_X7_carryOut_25, wn_X7_carryOut_50, wn_X7_carryOut_56, wn_X7_carryOut_64, wn_X7_carryOut_88, wn_X7_carryOut_89, wn_X7_carryOut_103, wn_X7_carryOut_105, wn_X7_carryOut_116, wn_X7_carryOut_117, wn_X7_carryOut_125, wn_X7_carryOut_142, wn_X7_carryOut_143, wn_X7_carryOut_147, wp_c, ex_c, x_nop, x_goto, x_table, x_iinc, x_ldc, x_ldc2, x_iaload, x_faload, x_baload, x_caload, x_iastore, x_fastore, x_bastore, x_castore, x_aastore, x_alen, x_gets, x_new, x_newa, x_anew, x_invs, x_invi, x_invv, x_ret, x_iret, x_lret, x_fret, x_aret, x_lconst, x_fconst0, x_fconst1, x_fconst2, x_dconst0, x_dconst1, x_null, x_iadd, x_isub, x_imul, x_iand, x_ior, x_idiv, x_irem, x_ineg, x_ishl, x_ishr, x_land, x_lor, x_lushr, x_lshl, x_lcmp, x_i2l, x_l2i, x_i2c, x_i2f, x_f2d, x_d2i, x_d2l, x_fadd, x_fsub, x_fmul, x_fdiv, x_dadd, x_dsub, x_dmul, x_ddiv, x_fcmp, x_dcmp, x_dupI, x_dupR, x_dup2, x_popI, x_popR, ldP_I, ldP_L, ldP_F, ldP_D, ldP_R, ldP_N, x_iload, x_iload_n, x_lload, x_lload_n, x_fload, x_fload_n, x_dload, x_dload_n, x_aload, x_aload_n, x_istore, x_istore_n, x_lstore, x_lstore_n, x_fstore, x_fstore_n, x_dstore, x_dstore_n, x_astore, x_astore_n, x_astoreN, x_astore_nN, x_icmp_eq, x_icmp_ne, x_icmp_lt, x_icmp_ge, x_icmp_gt, x_icmp_le, x_if_eq, x_if_ne, x_if_lt, x_if_ge, x_if_gt, x_if_le, x_ifnull, x_ifnullR, x_ifnn, x_ifnnR, x_aaload2, x_cpI, x_cpF, x_bF, x_bD, x_oI, xk_bipush_120, xk_iconst_0, xk_bipush_m6, xk_iconst_1, xk_bipush_80, xk_bipush_48, xk_bipush_57, xk_bipush_10, xk_bipush_64, xk_bipush_46, xk_bipush_97, xk_bipush_122, xk_bipush_119, xk_bipush_61, xk_bipush_59, xk_bipush_8, xk_bipush_33, xk_bipush_126, xk_bipush_m2, xk_bipush_m4, xk_iconst_4, xk_bipush_6, xk_iconst_2, xk_bipush_40, xk_iconst_3, xk_iconst_5, xk_iconst_m1, xk_bipush_m5, xk_bipush_12, xk_bipush_100, xk_bipush_26, xk_sipush_9999, xk_sipush_500, xk_bipush_7, xk_bipush_m126, xk_bipush_127, xk_bipush_23, xk_sipush_m1022, xk_sipush_1023, xk_bipush_52, xk_bipush_m3, xk_sipush_9830, xk_sipush_4800, xk_sipush_983, xk_sipush_480, xk_bipush_13, xk_bipush_18, xk_bipush_9, xk_bipush_32, xg_0_0, xp_0_0, xg_0_1, xp_0_1, xg_0_2, xp_0_2, xg_0_3, xp_0_3, xg_0_4, xp_0_4, xg_0_5, xp_0_5, xg_0_6, xp_0_6, xg_0_7, xp_0_7, xg_0_8, xp_0_8, xg_1_0, xp_1_0, xg_1_1, xp_1_1, xg_1_2, xp_1_2, xg_1_3, xp_1_3, xg_2_0, xp_2_0, xg_2_1, xp_2_1, xg_2_2, xp_2_2, xg_3_0, xp_3_0, xg_3_1, xp_3_1, xg_3_2, xp_3_2, xg_3_3, xp_3_3, xg_3_4, xp_3_4, xg_3_5, xp_3_5, xg_3_6, xp_3_6, xg_3_7, xp_3_7, xg_3_8, xp_3_8, xg_3_9, xp_3_9, xg_3_10, xp_3_10, xg_3_11, xp_3_11, xg_4_0, xp_4_0, xg_4_1, xp_4_1, xg_5_0, xp_5_0, xg_5_1, xp_5_1, xg_6_0, xp_6_0, xg_6_1, xp_6_1, xg_6_2, xp_6_2, xg_6_3, xp_6_3, xg_6_4, xp_6_4, xg_6_5, xp_6_5, xg_7_0, xp_7_0, xg_7_1, xp_7_1, xg_7_2, xp_7_2, xg_7_3, xp_7_3, xg_7_4, xp_7_4, xg_7_5, xp_7_5, xg_7_6, xp_7_6, xg_7_7, xp_7_7, xg_7_8, xp_7_8, xg_7_9, xp_7_9, xg_7_10, xp_7_10, xg_7_11, xp_7_11, xg_7_12, xp_7_12, xg_7_13, xp_7_13, fv0, fv1, fv2, fv3, kI_0, kI_1, stL, wipeL, entLn, entL, List.getElem?_cons_zero, List.getElem?_cons_succ, List.getElem?_nil, List.set_cons_zero, List.set_cons_succ, List.set_nil, List.length_cons, List.length_nil, List.cons_append, List.nil_append, List.replicate, Nat.reduceAdd, Nat.reduceLeDiff, Nat.reduceSub, true_and, and_true, x_callS, x_callSN, x_callI, x_callIN, x_callV0, x_callV1, x_callV2, x_callV3, x_callV4, x_callV5, x_callV6, x_callV7, callP, List.take_succ_cons, List.take_zero, List.take_nil, List.drop_succ_cons, List.drop_zero, List.drop_nil, List.getLast?_singleton, List.getLast?_cons_cons, Option.some.injEq, Value.ref.injEq, exists_eq_left, exists_eq_left', Nat.zero_le, Nat.add_zero, ldcV_f, ldcV_fn, ldcV_l, ldcV_d, Nat.reduceMul, Nat.le_refl, List.reverse_cons, List.reverse_nil, Option.toList, List.map_cons, List.map_nil, List.sum_cons, List.sum_nil, Value.category, tblW_n, tblW_c, Int.cast_ofNat_Int, Int.reduceAdd, Int.reduceToNat, ofI_n, rc_X7_fault, rs_X7_fault, P_X7_fault, rc_X7_changes, rs_X7_changes, P_X7_changes, rc_X7_readsOrder, rs_X7_readsOrder, P_X7_readsOrder, rc_X7_orderError, rs_X7_orderError, P_X7_orderError, rc_X7_does, rs_X7_does, P_X7_does, rc_X7_takes, rs_X7_takes, P_X7_takes]
    have hM2 := hR.1.mod hM
    have hX2 := hR.text hX
    have hn := hX.1
    rw [List.length_cons] at hl
    have hDT := hR.2.2.2.2.1
    have hDK : DOK (mV T y 0) := DOK.congr hDT.symm hD
    have hE0 : EntF T y j e := by
      have := hE 0 e rfl
      rwa [Nat.add_zero] at this
    have hlt : ¬ nI to ≤ nI j := fun a => by
      rw [nI_leI (by omega) (by omega)] at a
      omega
    have ee := erE_de hDT hDK e
    rw [rE_cons] at h
    have n10n : (nI 1 = nI 0) = False := eq_false (by rw [nI_eq (by omega) (by omega)]; omega)
    simp only [hM2.1, hM2, hDK, bI_0, n10n, hlt, not_true_eq_false, not_false_eq_true, true_implies, false_implies, true_and, and_true, nI_add, ← nI_0, sK_stI, sR_stI, sK_stF, sR_stF, sK_stIA, sR_stIA, sK_stFA, sR_stFA, sI_stI, sI_stF, sI_stIA, sI_stFA, sF_stI, sF_stF, sF_stIA, sF_stFA, Nat.left_eq_add, Nat.add_eq_left, Nat.add_left_cancel_iff, Nat.reduceEqDiff, Nat.reduceEqDiff, Nat.succ_ne_self, false_and, and_false, if_false, if_true, nI_succ_sub, Option.some.injEq, Prod.mk.injEq, exists_eq_left', true_and, and_true, retI, retF, retV, retZ1, retZ0, retL, retA, retN, Nat.reduceAdd, Nat.reduceMul, Nat.reduceLT]
    refine ⟨j, e, rfl, hE0, fun c => ?_, fun c => ?_⟩
    · rw [ee] at c
      rw [if_neg c] at h
      rw [Nat.add_zero]
      exact lpS_X7_carryOut l G (by omega) (by omega) ((h T _ _ _ hR e7).2 (fun a => absurd a.1 Bool.false_ne_true))
    · have c := Decidable.not_not.mp c
      refine ⟨j, e, rfl, hE0, c, fun v T1 hT1 => ?_⟩
      have c2 := c
      rw [ee] at c2
      rw [if_pos c2] at h
      have hN := neE_de hDT hDK c
      have e1 : sI T1 y = sI T y := hT1.1.i (by omega)
      refine ih (j + 1) (cnt + 1) T1 (neE D e) _ (hR.op hT1 hN) (neE_ok hD c2) (by rw [e1]; exact e7) (by omega) (fun t e' he => ?_) h
      have := (hE (t + 1) e' he).op hT1.1
      rwa [show j + (t + 1) = j + 1 + t by omega] at this
set_option maxHeartbeats 1000000 in
theorem lpE_X7_carryOut (l : Launch) (G : Gx) {y cnt : Nat} {T : SS} {x3 x4 x5 x6 : Option Value} {E : Option Value → SS → Prop} (hM : ModAt T y) (h : E (some (.int (nI cnt))) (stIA T y (upV (sI T y) 6 (nI 0)))) :
    V l G mi_X7_carryOut E 25 [some (.ref y), some (.int (nI cnt)), some (.int (nI 0)), x3, x4, x5, x6] [] T 0 0 := by
  refine (V.segN (Γ := Γ_X7_carryOut) (hΓ_X7_carryOut l G) so_X7_carryOut 9 (sg := sg_X7_carryOut_25) so_X7_carryOut_25 ?_ : V l G mi_X7_carryOut _ (segPc sg_X7_carryOut_25) _ _ _ _ _)
  simp only [mL_X7_carryOut, mT_X7_carryOut, rc_X7_carryOut, rs_X7_carryOut, Γ_X7_carryOut, sg_X7_carryOut_0, sg_X7_carryOut_12, sg_X7_carryOut_25, sg_X7_carryOut_50, sg_X7_carryOut_56, sg_X7_carryOut_64, sg_X7_carryOut_88, sg_X7_carryOut_89, sg_X7_carryOut_103, sg_X7_carryOut_105, sg_X7_carryOut_116, sg_X7_carryOut_117, sg_X7_carryOut_125, sg_X7_carryOut_142, sg_X7_carryOut_143, sg_X7_carryOut_147, wn_X7_carryOut_0, wn_X7_carryOut_12, wn_X7_carryOut_25, wn_X7_carryOut_50, wn_X7_carryOut_56, wn_X7_carryOut_64, wn_X7_carryOut_88, wn_X7_carryOut_89, wn_X7_carryOut_103, wn_X7_carryOut_105, wn_X7_carryOut_116, wn_X7_carryOut_117, wn_X7_carryOut_125, wn_X7_carryOut_142, wn_X7_carryOut_143, wn_X7_carryOut_147, wp_c, ex_c, x_nop, x_goto, x_table, x_iinc, x_ldc, x_ldc2, x_iaload, x_faload, x_baload, x_caload, x_iastore, x_fastore, x_bastore, x_castore, x_aastore, x_alen, x_gets, x_new, x_newa, x_anew, x_invs, x_invi, x_invv, x_ret, x_iret, x_lret, x_fret, x_aret, x_lconst, x_fconst0, x_fconst1, x_fconst2, x_dconst0, x_dconst1, x_null, x_iadd, x_isub, x_imul, x_iand, x_ior, x_idiv, x_irem, x_ineg, x_ishl, x_ishr, x_land, x_lor, x_lushr, x_lshl, x_lcmp, x_i2l, x_l2i, x_i2c, x_i2f, x_f2d, x_d2i, x_d2l, x_fadd, x_fsub, x_fmul, x_fdiv, x_dadd, x_dsub, x_dmul, x_ddiv, x_fcmp, x_dcmp, x_dupI, x_dupR, x_dup2, x_popI, x_popR, ldP_I, ldP_L, ldP_F, ldP_D, ldP_R, ldP_N, x_iload, x_iload_n, x_lload, x_lload_n, x_fload, x_fload_n, x_dload, x_dload_n, x_aload, x_aload_n, x_istore, x_istore_n, x_lstore, x_lstore_n, x_fstore, x_fstore_n, x_dstore, x_dstore_n, x_astore, x_astore_n, x_astoreN, x_astore_nN, x_icmp_eq, x_icmp_ne, x_icmp_lt, x_icmp_ge, x_icmp_gt, x_icmp_le, x_if_eq, x_if_ne, x_if_lt, x_if_ge, x_if_gt, x_if_le, x_ifnull, x_ifnullR, x_ifnn, x_ifnnR, x_aaload2, x_cpI, x_cpF, x_bF, x_bD, x_oI, xk_bipush_120, xk_iconst_0, xk_bipush_m6, xk_iconst_1, xk_bipush_80, xk_bipush_48, xk_bipush_57, xk_bipush_10, xk_bipush_64, xk_bipush_46, xk_bipush_97, xk_bipush_122, xk_bipush_119, xk_bipush_61, xk_bipush_59, xk_bipush_8, xk_bipush_33, xk_bipush_126, xk_bipush_m2, xk_bipush_m4, xk_iconst_4, xk_bipush_6, xk_iconst_2, xk_bipush_40, xk_iconst_3, xk_iconst_5, xk_iconst_m1, xk_bipush_m5, xk_bipush_12, xk_bipush_100, xk_bipush_26, xk_sipush_9999, xk_sipush_500, xk_bipush_7, xk_bipush_m126, xk_bipush_127, xk_bipush_23, xk_sipush_m1022, xk_sipush_1023, xk_bipush_52, xk_bipush_m3, xk_sipush_9830, xk_sipush_4800, xk_sipush_983, xk_sipush_480, xk_bipush_13, xk_bipush_18, xk_bipush_9, xk_bipush_32, xg_0_0, xp_0_0, xg_0_1, xp_0_1, xg_0_2, xp_0_2, xg_0_3, xp_0_3, xg_0_4, xp_0_4, xg_0_5, xp_0_5, xg_0_6, xp_0_6, xg_0_7, xp_0_7, xg_0_8, xp_0_8, xg_1_0, xp_1_0, xg_1_1, xp_1_1, xg_1_2, xp_1_2, xg_1_3, xp_1_3, xg_2_0, xp_2_0, xg_2_1, xp_2_1, xg_2_2, xp_2_2, xg_3_0, xp_3_0, xg_3_1, xp_3_1, xg_3_2, xp_3_2, xg_3_3, xp_3_3, xg_3_4, xp_3_4, xg_3_5, xp_3_5, xg_3_6, xp_3_6, xg_3_7, xp_3_7, xg_3_8, xp_3_8, xg_3_9, xp_3_9, xg_3_10, xp_3_10, xg_3_11, xp_3_11, xg_4_0, xp_4_0, xg_4_1, xp_4_1, xg_5_0, xp_5_0, xg_5_1, xp_5_1, xg_6_0, xp_6_0, xg_6_1, xp_6_1, xg_6_2, xp_6_2, xg_6_3, xp_6_3, xg_6_4, xp_6_4, xg_6_5, xp_6_5, xg_7_0, xp_7_0, xg_7_1, xp_7_1, xg_7_2, xp_7_2, xg_7_3, xp_7_3, xg_7_4, xp_7_4, xg_7_5, xp_7_5, xg_7_6, xp_7_6, xg_7_7, xp_7_7, xg_7_8, xp_7_8, xg_7_9, xp_7_9, xg_7_10, xp_7_10, xg_7_11, xp_7_11, xg_7_12, xp_7_12, xg_7_13, xp_7_13, fv0, fv1, fv2, fv3, kI_0, kI_1, stL, wipeL, entLn, entL, List.getElem?_cons_zero, List.getElem?_cons_succ, List.getElem?_nil, List.set_cons_zero, List.set_cons_succ, List.set_nil, List.length_cons, List.length_nil, List.cons_append, List.nil_append, List.replicate, Nat.reduceAdd, Nat.reduceLeDiff, Nat.reduceSub, true_and, and_true, x_callS, x_callSN, x_callI, x_callIN, x_callV0, x_callV1, x_callV2, x_callV3, x_callV4, x_callV5, x_callV6, x_callV7, callP, List.take_succ_cons, List.take_zero, List.take_nil, List.drop_succ_cons, List.drop_zero, List.drop_nil, List.getLast?_singleton, List.getLast?_cons_cons, Option.some.injEq, Value.ref.injEq, exists_eq_left, exists_eq_left', Nat.zero_le, Nat.add_zero, ldcV_f, ldcV_fn, ldcV_l, ldcV_d, Nat.reduceMul, Nat.le_refl, List.reverse_cons, List.reverse_nil, Option.toList, List.map_cons, List.map_nil, List.sum_cons, List.sum_nil, Value.category, tblW_n, tblW_c, Int.cast_ofNat_Int, Int.reduceAdd, Int.reduceToNat, ofI_n, rc_X7_fault, rs_X7_fault, P_X7_fault, rc_X7_changes, rs_X7_changes, P_X7_changes, rc_X7_readsOrder, rs_X7_readsOrder, P_X7_readsOrder, rc_X7_orderError, rs_X7_orderError, P_X7_orderError, rc_X7_does, rs_X7_does, P_X7_does, rc_X7_takes, rs_X7_takes, P_X7_takes]
  simp only [hM.1, n10', n00', not_true_eq_false, not_false_eq_true, true_implies, false_implies, true_and, and_true, sK_stI, sR_stI, sK_stF, sR_stF, sK_stIA, sR_stIA, sK_stFA, sR_stFA, sI_stI, sI_stF, sI_stIA, sI_stFA, sF_stI, sF_stF, sF_stIA, sF_stFA, Nat.left_eq_add, Nat.add_eq_left, Nat.add_left_cancel_iff, Nat.reduceEqDiff, Nat.reduceEqDiff, Nat.succ_ne_self, false_and, and_false, if_false, if_true, nI_succ_sub, Option.some.injEq, Prod.mk.injEq, exists_eq_left', true_and, and_true, retI, retF, retV, retZ1, retZ0, retL, retA, retN, Nat.reduceAdd, Nat.reduceMul, Nat.reduceLT]
  rw [st_up]
  exact h
/-- the orders that are read at i, from the fault's text -/
theorem paP_step {X : Nat → Nat} {n f i : Nat} (h : (paP X n (f + 1) i).1 = mI 6) (hi : i ≤ n) (hn : n ≤ 80) : (orP X n i).1 = true ∧ ((orP X n i).2.1 < n → chP X n (orP X n i).2.1 = 59 ∧ (paP X n f ((orP X n i).2.1 + 1)).1 = mI 6 ∧ (paP X n (f + 1) i).2 = (orP X n i).2.2 ++ (paP X n f ((orP X n i).2.1 + 1)).2) ∧ (¬ (orP X n i).2.1 < n → (paP X n (f + 1) i).2 = (orP X n i).2.2) := by
  obtain ⟨l1, l2, -, -⟩ := orP_le (T := X) (n := n) (i := i) hi
  have e : paP X n (f + 1) i = if (orP X n i).1 = true then (if (orP X n i).2.1 < n then (if chP X n (orP X n i).2.1 = 59 then ((paP X n f ((orP X n i).2.1 + 1)).1, (orP X n i).2.2 ++ (paP X n f ((orP X n i).2.1 + 1)).2) else (nI (orP X n i).2.1, (orP X n i).2.2)) else (mI 6, (orP X n i).2.2)) else (nI (orP X n i).2.1, []) := rfl
  rw [e] at h ⊢
  have no : ¬ nI (orP X n i).2.1 = mI 6 := nI_ne_mI (by omega) (by omega) (by omega)
  by_cases c1 : (orP X n i).1 = true
  · rw [if_pos c1] at h ⊢
    refine ⟨c1, fun c2 => ?_, fun c2 => by rw [if_neg c2]⟩
    rw [if_pos c2] at h ⊢
    by_cases c3 : chP X n (orP X n i).2.1 = 59
    · rw [if_pos c3] at h ⊢
      exact ⟨c3, h, rfl⟩
    · rw [if_neg c3] at h
      exact absurd h no
  · rw [if_neg c1] at h
    exact absurd h no
/-- what was read stands for the orders -/
theorem OrdF.ent {T : SS} {y n i : Nat} {X : Nat → Nat} {g : Nat → Int32} (hX : TM T y X n) (h : OrdF X n i g) (hk : ∀ e, e ∈ (orP X n i).2.2 → KE e) (eg : sI T y = g) (hFO : FO g) :
    ∃ j, sI T y 12 = nI j ∧ j ≤ 80 ∧ (chP X n i = 119 → sI T y 13 = nI (j + (orP X n i).2.2.length) ∧ j + (orP X n i).2.2.length ≤ 80) ∧ (¬ chP X n i = 119 → (orP X n i).2.2.length = 1) ∧ ∀ t e, (orP X n i).2.2[t]? = some e → EntF T y (j + t) e := by
  obtain ⟨h8, hw, ho⟩ := h
  have hn := hX.1
  by_cases c : chP X n i = 119
  · obtain ⟨q, d, r, cc, m, em, hm, hq, g9, g10, g11, g12, g13, gl⟩ := hw c
    have el : (orP X n i).2.2.length = m := by rw [em]; unfold leL; rw [List.length_map, List.length_range]
    refine ⟨q, by rw [eg]; exact g12, by omega, fun _ => ⟨by rw [eg, el]; exact g13, by omega⟩, fun a => absurd c a, fun t e he => ?_⟩
    rw [em] at he
    unfold leL at he
    rw [List.getElem?_map] at he
    by_cases ht : t < m
    · rw [List.getElem?_range ht, Option.map_some, Option.some.injEq] at he
      subst he
      have gl := gl t ht
      have hin := ltP_lt gl
      have hch := hX.ch (i := q + t)
      have ec : chP X n (q + t) = X (q + t) := if_pos hin
      refine ⟨by omega, hk _ ?_, by rw [eg, h8, c], fun _ => by rw [eg]; exact g9, fun a => absurd a (by dsimp only [Ent.k, Ent.a, Ent.r, Ent.c, Ent.l]; omega), fun _ => ⟨by omega, q, cc, t, by rw [eg]; exact g10, by rw [eg]; exact g11, by rw [eg]; exact g12, rfl, rfl, ?_, ?_⟩⟩
      · rw [em]
        unfold leL
        rw [List.mem_map]
        exact ⟨t, List.mem_range.mpr ht, rfl⟩
      · show chP X n (q + t) - 97 < 100
        have := gl.2
        omega
      · show sI T (y + 5) (q + t) = nI (97 + (chP X n (q + t) - 97))
        have := gl.1
        rw [show 97 + (chP X n (q + t) - 97) = X (q + t) by omega]
        exact (hX.2.2 _ hin).2
    · rw [List.getElem?_eq_none (by rw [List.length_range]; omega)] at he
      exact absurd he (by simp)
  · obtain ⟨e0, ee, ek, ea, er⟩ := ho c
    obtain ⟨a, ha, ea12⟩ := hFO
    refine ⟨a, by rw [eg]; exact ea12, ha, fun x => absurd x c, fun _ => by rw [ee]; rfl, fun t e he => ?_⟩
    rw [ee] at he
    match t, he with
    | 0, he =>
      rw [List.getElem?_cons_zero, Option.some.injEq] at he
      subst he
      exact ⟨by omega, hk _ (by rw [ee]; exact List.mem_singleton.mpr rfl), by rw [eg, h8, ek], fun x => by rw [eg]; exact ea x, fun x => by rw [eg]; exact er x, fun x => absurd (ek ▸ x) c⟩
    | t + 1, he => exact absurd he (by simp)
set_option maxHeartbeats 1000000 in
theorem lpO_X7_carryOut (l : Launch) (G : Gx) {U : SS} {y n : Nat} {X : Nat → Nat} {E : Option Value → SS → Prop} (hM : ModAt U y) (hX : TM U y X n) :
    ∀ f i cnt T D x3 x4 x5 x6, i ≤ n → n < i + f → (paP X n f i).1 = mI 6 → RI U T y D → DOK D → sI T y 7 = nI i → (∀ T', RI U T' y (rE (paP X n f i).2 cnt D).2.1 → E (some (.int (nI (rE (paP X n f i).2 cnt D).1))) (stIA T' y (upV (sI T' y) 6 (nI 0)))) →
      V l G mi_X7_carryOut E 25 [some (.ref y), some (.int (nI cnt)), some (.int (nI 1)), x3, x4, x5, x6] [] T 0 0 := by
  intro f
  induction f with
  | zero => intro i cnt T D x3 x4 x5 x6 hi hf; omega
  | succ f ih =>
    intro i cnt T D x3 x4 x5 x6 hi hf hp hR hD e7 h
    refine (V.segN (Γ := Γ_X7_carryOut) (hΓ_X7_carryOut l G) so_X7_carryOut 9 (sg := sg_X7_carryOut_25) so_X7_carryOut_25 ?_ : V l G mi_X7_carryOut _ (segPc sg_X7_carryOut_25) _ _ _ _ _)
    simp only [mL_X7_carryOut, mT_X7_carryOut, rc_X7_carryOut, rs_X7_carryOut, Γ_X7_carryOut, sg_X7_carryOut_0, sg_X7_carryOut_12, sg_X7_carryOut_25, sg_X7_carryOut_50, sg_X7_carryOut_56, sg_X7_carryOut_64, sg_X7_carryOut_88, sg_X7_carryOut_89, sg_X7_carryOut_103, sg_X7_carryOut_105, sg_X7_carryOut_116, sg_X7_carryOut_117, sg_X7_carryOut_125, sg_X7_carryOut_142, sg_X7_carryOut_143, sg_X7_carryOut_147, wn_X7_carryOut_0, wn_X7_carryOut_12, wn_X7_carryOut_25, wn_X7_carryOut_50, wn_X7_carryOut_56, wn_X7_carryOut_64, wn_X7_carryOut_88, wn_X7_carryOut_89, wn_X7_carryOut_103, wn_X7_carryOut_105, wn_X7_carryOut_116, wn_X7_carryOut_117, wn_X7_carryOut_125, wn_X7_carryOut_142, wn_X7_carryOut_143, wn_X7_carryOut_147, wp_c, ex_c, x_nop, x_goto, x_table, x_iinc, x_ldc, x_ldc2, x_iaload, x_faload, x_baload, x_caload, x_iastore, x_fastore, x_bastore, x_castore, x_aastore, x_alen, x_gets, x_new, x_newa, x_anew, x_invs, x_invi, x_invv, x_ret, x_iret, x_lret, x_fret, x_aret, x_lconst, x_fconst0, x_fconst1, x_fconst2, x_dconst0, x_dconst1, x_null, x_iadd, x_isub, x_imul, x_iand, x_ior, x_idiv, x_irem, x_ineg, x_ishl, x_ishr, x_land, x_lor, x_lushr, x_lshl, x_lcmp, x_i2l, x_l2i, x_i2c, x_i2f, x_f2d, x_d2i, x_d2l, x_fadd, x_fsub, x_fmul, x_fdiv, x_dadd, x_dsub, x_dmul, x_ddiv, x_fcmp, x_dcmp, x_dupI, x_dupR, x_dup2, x_popI, x_popR, ldP_I, ldP_L, ldP_F, ldP_D, ldP_R, ldP_N, x_iload, x_iload_n, x_lload, x_lload_n, x_fload, x_fload_n, x_dload, x_dload_n, x_aload, x_aload_n, x_istore, x_istore_n, x_lstore, x_lstore_n, x_fstore, x_fstore_n, x_dstore, x_dstore_n, x_astore, x_astore_n, x_astoreN, x_astore_nN, x_icmp_eq, x_icmp_ne, x_icmp_lt, x_icmp_ge, x_icmp_gt, x_icmp_le, x_if_eq, x_if_ne, x_if_lt, x_if_ge, x_if_gt, x_if_le, x_ifnull, x_ifnullR, x_ifnn, x_ifnnR, x_aaload2, x_cpI, x_cpF, x_bF, x_bD, x_oI, xk_bipush_120, xk_iconst_0, xk_bipush_m6, xk_iconst_1, xk_bipush_80, xk_bipush_48, xk_bipush_57, xk_bipush_10, xk_bipush_64, xk_bipush_46, xk_bipush_97, xk_bipush_122, xk_bipush_119, xk_bipush_61, xk_bipush_59, xk_bipush_8, xk_bipush_33, xk_bipush_126, xk_bipush_m2, xk_bipush_m4, xk_iconst_4, xk_bipush_6, xk_iconst_2, xk_bipush_40, xk_iconst_3, xk_iconst_5, xk_iconst_m1, xk_bipush_m5, xk_bipush_12, xk_bipush_100, xk_bipush_26, xk_sipush_9999, xk_sipush_500, xk_bipush_7, xk_bipush_m126, xk_bipush_127, xk_bipush_23, xk_sipush_m1022, xk_sipush_1023, xk_bipush_52, xk_bipush_m3, xk_sipush_9830, xk_sipush_4800, xk_sipush_983, xk_sipush_480, xk_bipush_13, xk_bipush_18, xk_bipush_9, xk_bipush_32, xg_0_0, xp_0_0, xg_0_1, xp_0_1, xg_0_2, xp_0_2, xg_0_3, xp_0_3, xg_0_4, xp_0_4, xg_0_5, xp_0_5, xg_0_6, xp_0_6, xg_0_7, xp_0_7, xg_0_8, xp_0_8, xg_1_0, xp_1_0, xg_1_1, xp_1_1, xg_1_2, xp_1_2, xg_1_3, xp_1_3, xg_2_0, xp_2_0, xg_2_1, xp_2_1, xg_2_2, xp_2_2, xg_3_0, xp_3_0, xg_3_1, xp_3_1, xg_3_2, xp_3_2, xg_3_3, xp_3_3, xg_3_4, xp_3_4, xg_3_5, xp_3_5, xg_3_6, xp_3_6, xg_3_7, xp_3_7, xg_3_8, xp_3_8, xg_3_9, xp_3_9, xg_3_10, xp_3_10, xg_3_11, xp_3_11, xg_4_0, xp_4_0, xg_4_1, xp_4_1, xg_5_0, xp_5_0, xg_5_1, xp_5_1, xg_6_0, xp_6_0, xg_6_1, xp_6_1, xg_6_2, xp_6_2, xg_6_3, xp_6_3, xg_6_4, xp_6_4, xg_6_5, xp_6_5, xg_7_0, xp_7_0, xg_7_1, xp_7_1, xg_7_2, xp_7_2, xg_7_3, xp_7_3, xg_7_4, xp_7_4, xg_7_5, xp_7_5, xg_7_6, xp_7_6, xg_7_7, xp_7_7, xg_7_8, xp_7_8, xg_7_9, xp_7_9, xg_7_10, xp_7_10, xg_7_11, xp_7_11, xg_7_12, xp_7_12, xg_7_13, xp_7_13, fv0, fv1, fv2, fv3, kI_0, kI_1, stL, wipeL, entLn, entL, List.getElem?_cons_zero, List.getElem?_cons_succ, List.getElem?_nil, List.set_cons_zero, List.set_cons_succ, List.set_nil, List.length_cons, List.length_nil, List.cons_append, List.nil_append, List.replicate, Nat.reduceAdd, Nat.reduceLeDiff, Nat.reduceSub, true_and, and_true, x_callS, x_callSN, x_callI, x_callIN, x_callV0, x_callV1, x_callV2, x_callV3, x_callV4, x_callV5, x_callV6, x_callV7, callP, List.take_succ_cons, List.take_zero, List.take_nil, List.drop_succ_cons, List.drop_zero, List.drop_nil, List.getLast?_singleton, List.getLast?_cons_cons, Option.some.injEq, Value.ref.injEq, exists_eq_left, exists_eq_left', Nat.zero_le, Nat.add_zero, ldcV_f, ldcV_fn, ldcV_l, ldcV_d, Nat.reduceMul, Nat.le_refl, List.reverse_cons, List.reverse_nil, Option.toList, List.map_cons, List.map_nil, List.sum_cons, List.sum_nil, Value.category, tblW_n, tblW_c, Int.cast_ofNat_Int, Int.reduceAdd, Int.reduceToNat, ofI_n, rc_X7_fault, rs_X7_fault, P_X7_fault, rc_X7_changes, rs_X7_changes, P_X7_changes, rc_X7_readsOrder, rs_X7_readsOrder, P_X7_readsOrder, rc_X7_orderError, rs_X7_orderError, P_X7_orderError, rc_X7_does, rs_X7_does, P_X7_does, rc_X7_takes, rs_X7_takes, P_X7_takes]
    have hM2 := hR.1.mod hM
    have hX2 := hR.text hX
    have hn := hX.1
    obtain ⟨ok, st1, st2⟩ := paP_step hp hi hn
    simp only [hM2.1, hM2, bI_0, n10', n00', not_true_eq_false, not_false_eq_true, true_implies, false_implies, true_and, and_true, sK_stI, sR_stI, sK_stF, sR_stF, sK_stIA, sR_stIA, sK_stFA, sR_stFA, sI_stI, sI_stF, sI_stIA, sI_stFA, sF_stI, sF_stF, sF_stIA, sF_stFA, Nat.left_eq_add, Nat.add_eq_left, Nat.add_left_cancel_iff, Nat.reduceEqDiff, Nat.reduceEqDiff, Nat.succ_ne_self, false_and, and_false, if_false, if_true, nI_succ_sub, Option.some.injEq, Prod.mk.injEq, exists_eq_left', true_and, and_true, retI, retF, retV, retZ1, retZ0, retL, retA, retN, Nat.reduceAdd, Nat.reduceMul, Nat.reduceLT]
    refine ⟨X, n, i, hX2, hi, e7, hR.2.2.2.1, fun g g1 g2 g3 g4 => ?_⟩
    have hO := g4 ok
    have hR2 : RI U (stIA T y g) y D := hR.num g1 g2
    have hX3 : TM (stIA T y g) y X n := hR2.text hX
    have eg : sI (stIA T y g) y = g := by rw [sI_stIA, if_pos rfl]
    obtain ⟨l1, l2, l3, l4⟩ := orP_le (T := X) (n := n) (i := i) hi
    obtain ⟨j, j12, hj, jw, jo, jE⟩ := hO.ent hX3 (orP_kinds X n i) eg g2
    have e8 : g 8 = nI (chP X n i) := hO.1
    rw [eg] at j12 jw
    have fin : ∀ (x3 : Option Value) (T' : SS) (x4 x5 x6 : Option Value), RI U T' y (rE (orP X n i).2.2 cnt D).2.1 → sI T' y 7 = nI (orP X n i).2.1 → ((rE (orP X n i).2.2 cnt D).2.2 = true ∧ chP X n (orP X n i).2.1 = 59 → V l G mi_X7_carryOut E 25 [some (.ref y), some (.int (nI (rE (orP X n i).2.2 cnt D).1)), some (.int (nI 1)), x3, x4, x5, x6] [] (stIA T' y (upV (sI T' y) 7 (nI ((orP X n i).2.1 + 1)))) 0 0) ∧ (¬ ((rE (orP X n i).2.2 cnt D).2.2 = true ∧ chP X n (orP X n i).2.1 = 59) → V l G mi_X7_carryOut E 25 [some (.ref y), some (.int (nI (rE (orP X n i).2.2 cnt D).1)), some (.int (nI 0)), x3, x4, x5, x6] [] T' 0 0) := fun x3 T' x4 x5 x6 hR' e7' => by
      have hDD := (rE_de (orP X n i).2.2 cnt (DE.refl D) hD).2.2.2
      refine ⟨fun c => ?_, fun c => lpE_X7_carryOut l G (hR'.1.mod hM) ?_⟩
      · have hin := ch_lt c.2 (by omega)
        obtain ⟨-, s2, s3⟩ := st1 hin
        rw [s3, rE_app, if_pos c.1] at h
        have f7 : FO (upV (sI T' y) 7 (nI ((orP X n i).2.1 + 1))) := hR'.2.2.2.1.up7
        refine ih ((orP X n i).2.1 + 1) _ _ _ _ _ _ _ (by omega) (by have := l4 ok; omega) s2 (hR'.num (fun k hk => by rw [upAt, if_neg (by omega)]) f7) hDD (by rw [sI_stIA, if_pos rfl]; rfl) h
      · by_cases hin : (orP X n i).2.1 < n
        · obtain ⟨s1, s2, s3⟩ := st1 hin
          rw [s3, rE_app, if_neg (fun a => c ⟨a, s1⟩)] at h
          exact h T' hR'
        · rw [st2 hin] at h
          exact h T' hR'
    have eg7 : sI (stIA T y g) y 7 = nI (orP X n i).2.1 := by rw [eg]; exact g3
    refine ⟨fun c => ?_, fun c => ?_⟩
    · have c1 : ¬ chP X n i = 119 := fun a => c (by rw [e8, a])
      have jo := jo c1
      rw [j12, nI_add]
      exact lpI_X7_carryOut l G hM hX l2 _ (by omega) (orP X n i).2.2 j cnt _ D _ hR2 hD eg7 (by omega) jE (fin _)
    · have c1 : chP X n i = 119 := by
        have c := Decidable.not_not.mp c
        have hch := hX.ch (i := i)
        rw [e8] at c
        exact (nI_eq (by omega) (by omega)).mp c
      obtain ⟨w1, w2⟩ := jw c1
      rw [j12, w1]
      exact lpI_X7_carryOut l G hM hX l2 _ (by omega) (orP X n i).2.2 j cnt _ D _ hR2 hD eg7 rfl jE (fin _)
def P_X7_carryOut (as : List Value) (S : SS) (E : Option Value → SS → Prop) : Prop := match as with
  | [.ref y] => ∃ kc X n, MOK S y kc ∧ TM S y X n ∧ FO (sI S y) ∧ (¬ (paP X n 81 0).1 = mI 6 → ∀ g, (∀ k, k < 7 → g k = sI S y k) → FO g → E (some (.int (mI 3))) (stIA S y g)) ∧
      ((paP X n 81 0).1 = mI 6 → ∀ T, MChg S T y kc (rE (paP X n 81 0).2 0 (mV S y 0)).2.1 (nI 0) → E (some (.int (nI (rE (paP X n 81 0).2 0 (mV S y 0)).1))) T)
  | _ => False
set_option maxHeartbeats 1000000 in
theorem ct_X7_carryOut (l : Launch) (G : Gx) : Ct l G mi_X7_carryOut P_X7_carryOut := by
  refine Ct.ofV mo_X7_carryOut (fun as S E h => ?_)
  unfold P_X7_carryOut at h
  split at h
  case h_2 => exact h.elim
  rename_i y
  refine ⟨by simp [entL, mL_X7_carryOut], ?_⟩
  refine wpN_ok (Γ := Γ_X7_carryOut) (hΓ_X7_carryOut l G) so_X7_carryOut 5 _ _ _ _ _ _ ?_
  simp only [mL_X7_carryOut, mT_X7_carryOut, rc_X7_carryOut, rs_X7_carryOut, Γ_X7_carryOut, sg_X7_carryOut_0, sg_X7_carryOut_12, sg_X7_carryOut_25, sg_X7_carryOut_50, sg_X7_carryOut_56, sg_X7_carryOut_64, sg_X7_carryOut_88, sg_X7_carryOut_89, sg_X7_carryOut_103, sg_X7_carryOut_105, sg_X7_carryOut_116, sg_X7_carryOut_117, sg_X7_carryOut_125, sg_X7_carryOut_142, sg_X7_carryOut_143, sg_X7_carryOut_147, wn_X7_carryOut_0, wn_X7_carryOut_12, wn_X7_carryOut_25, wn_X7_carryOut_50, wn_X7_carryOut_56, wn_X7_carryOut_64, wn_X7_carryOut_88, wn_X7_carryOut_89, wn_X7_carryOut_103, wn_X7_carryOut_105, wn_X7_carryOut_116, wn_X7_carryOut_117, wn_X7_carryOut_125, wn_X7_carryOut_142, wn_X7_carryOut_143, wn_X7_carryOut_147, wp_c, ex_c, x_nop, x_goto, x_table, x_iinc, x_ldc, x_ldc2, x_iaload, x_faload, x_baload, x_caload, x_iastore, x_fastore, x_bastore, x_castore, x_aastore, x_alen, x_gets, x_new, x_newa, x_anew, x_invs, x_invi, x_invv, x_ret, x_iret, x_lret, x_fret, x_aret, x_lconst, x_fconst0, x_fconst1, x_fconst2, x_dconst0, x_dconst1, x_null, x_iadd, x_isub, x_imul, x_iand, x_ior, x_idiv, x_irem, x_ineg, x_ishl, x_ishr, x_land, x_lor, x_lushr, x_lshl, x_lcmp, x_i2l, x_l2i, x_i2c, x_i2f, x_f2d, x_d2i, x_d2l, x_fadd, x_fsub, x_fmul, x_fdiv, x_dadd, x_dsub, x_dmul, x_ddiv, x_fcmp, x_dcmp, x_dupI, x_dupR, x_dup2, x_popI, x_popR, ldP_I, ldP_L, ldP_F, ldP_D, ldP_R, ldP_N, x_iload, x_iload_n, x_lload, x_lload_n, x_fload, x_fload_n, x_dload, x_dload_n, x_aload, x_aload_n, x_istore, x_istore_n, x_lstore, x_lstore_n, x_fstore, x_fstore_n, x_dstore, x_dstore_n, x_astore, x_astore_n, x_astoreN, x_astore_nN, x_icmp_eq, x_icmp_ne, x_icmp_lt, x_icmp_ge, x_icmp_gt, x_icmp_le, x_if_eq, x_if_ne, x_if_lt, x_if_ge, x_if_gt, x_if_le, x_ifnull, x_ifnullR, x_ifnn, x_ifnnR, x_aaload2, x_cpI, x_cpF, x_bF, x_bD, x_oI, xk_bipush_120, xk_iconst_0, xk_bipush_m6, xk_iconst_1, xk_bipush_80, xk_bipush_48, xk_bipush_57, xk_bipush_10, xk_bipush_64, xk_bipush_46, xk_bipush_97, xk_bipush_122, xk_bipush_119, xk_bipush_61, xk_bipush_59, xk_bipush_8, xk_bipush_33, xk_bipush_126, xk_bipush_m2, xk_bipush_m4, xk_iconst_4, xk_bipush_6, xk_iconst_2, xk_bipush_40, xk_iconst_3, xk_iconst_5, xk_iconst_m1, xk_bipush_m5, xk_bipush_12, xk_bipush_100, xk_bipush_26, xk_sipush_9999, xk_sipush_500, xk_bipush_7, xk_bipush_m126, xk_bipush_127, xk_bipush_23, xk_sipush_m1022, xk_sipush_1023, xk_bipush_52, xk_bipush_m3, xk_sipush_9830, xk_sipush_4800, xk_sipush_983, xk_sipush_480, xk_bipush_13, xk_bipush_18, xk_bipush_9, xk_bipush_32, xg_0_0, xp_0_0, xg_0_1, xp_0_1, xg_0_2, xp_0_2, xg_0_3, xp_0_3, xg_0_4, xp_0_4, xg_0_5, xp_0_5, xg_0_6, xp_0_6, xg_0_7, xp_0_7, xg_0_8, xp_0_8, xg_1_0, xp_1_0, xg_1_1, xp_1_1, xg_1_2, xp_1_2, xg_1_3, xp_1_3, xg_2_0, xp_2_0, xg_2_1, xp_2_1, xg_2_2, xp_2_2, xg_3_0, xp_3_0, xg_3_1, xp_3_1, xg_3_2, xp_3_2, xg_3_3, xp_3_3, xg_3_4, xp_3_4, xg_3_5, xp_3_5, xg_3_6, xp_3_6, xg_3_7, xp_3_7, xg_3_8, xp_3_8, xg_3_9, xp_3_9, xg_3_10, xp_3_10, xg_3_11, xp_3_11, xg_4_0, xp_4_0, xg_4_1, xp_4_1, xg_5_0, xp_5_0, xg_5_1, xp_5_1, xg_6_0, xp_6_0, xg_6_1, xp_6_1, xg_6_2, xp_6_2, xg_6_3, xp_6_3, xg_6_4, xp_6_4, xg_6_5, xp_6_5, xg_7_0, xp_7_0, xg_7_1, xp_7_1, xg_7_2, xp_7_2, xg_7_3, xp_7_3, xg_7_4, xp_7_4, xg_7_5, xp_7_5, xg_7_6, xp_7_6, xg_7_7, xp_7_7, xg_7_8, xp_7_8, xg_7_9, xp_7_9, xg_7_10, xp_7_10, xg_7_11, xp_7_11, xg_7_12, xp_7_12, xg_7_13, xp_7_13, fv0, fv1, fv2, fv3, kI_0, kI_1, stL, wipeL, entLn, entL, List.getElem?_cons_zero, List.getElem?_cons_succ, List.getElem?_nil, List.set_cons_zero, List.set_cons_succ, List.set_nil, List.length_cons, List.length_nil, List.cons_append, List.nil_append, List.replicate, Nat.reduceAdd, Nat.reduceLeDiff, Nat.reduceSub, true_and, and_true, x_callS, x_callSN, x_callI, x_callIN, x_callV0, x_callV1, x_callV2, x_callV3, x_callV4, x_callV5, x_callV6, x_callV7, callP, List.take_succ_cons, List.take_zero, List.take_nil, List.drop_succ_cons, List.drop_zero, List.drop_nil, List.getLast?_singleton, List.getLast?_cons_cons, Option.some.injEq, Value.ref.injEq, exists_eq_left, exists_eq_left', Nat.zero_le, Nat.add_zero, ldcV_f, ldcV_fn, ldcV_l, ldcV_d, Nat.reduceMul, Nat.le_refl, List.reverse_cons, List.reverse_nil, Option.toList, List.map_cons, List.map_nil, List.sum_cons, List.sum_nil, Value.category, tblW_n, tblW_c, Int.cast_ofNat_Int, Int.reduceAdd, Int.reduceToNat, ofI_n, rc_X7_fault, rs_X7_fault, P_X7_fault, rc_X7_changes, rs_X7_changes, P_X7_changes, rc_X7_readsOrder, rs_X7_readsOrder, P_X7_readsOrder, rc_X7_orderError, rs_X7_orderError, P_X7_orderError, rc_X7_does, rs_X7_does, P_X7_does, rc_X7_takes, rs_X7_takes, P_X7_takes]
  obtain ⟨kc, X, n, hM, hX, hFO, h1, h2⟩ := h
  have hM0 := hM
  obtain ⟨hA, hD, hkc, ek⟩ := hM
  simp only [hA.1, hA, sK_stI, sR_stI, sK_stF, sR_stF, sK_stIA, sR_stIA, sK_stFA, sR_stFA, sI_stI, sI_stF, sI_stIA, sI_stFA, sF_stI, sF_stF, sF_stIA, sF_stFA, Nat.left_eq_add, Nat.add_eq_left, Nat.add_left_cancel_iff, Nat.reduceEqDiff, Nat.reduceEqDiff, Nat.succ_ne_self, false_and, and_false, if_false, if_true, nI_succ_sub, Option.some.injEq, Prod.mk.injEq, exists_eq_left', true_and, and_true, retI, retF, retV, retZ1, retZ0, retL, retA, retN, Nat.reduceAdd, Nat.reduceMul, Nat.reduceLT]
  refine ⟨X, n, hX, hFO, fun g g1 g2 => ?_⟩
  have hMg : MOK (stIA S y g) y kc := by
    refine ⟨hA.up, ?_, hkc, ?_⟩
    · exact DOK.congr (Qs.num 0).de.symm hD
    · rw [sI_stIA, if_pos rfl, g1 2 (by omega), ek]
  refine ⟨fun c => ⟨hMg.1, kc, hkc, (g1 2 (by omega)).trans ek, fun U a1 a2 a3 a4 a5 a6 => ?_⟩, fun c => h1 c g g1 g2⟩
  have N : Noted (stIA S y g) U y kc := ⟨a1, by rw [sI_stIA, if_pos rfl]; exact a2, a3, a4, a5, a6⟩
  obtain ⟨u1, u2, u3⟩ := N.mok hMg
  refine ⟨u1.1, ?_⟩
  rw [st_up]
  have uF : FO (upV (sI U y) 7 (nI 0)) := by
    obtain ⟨a, b, e⟩ := g2
    refine ⟨a, b, ?_⟩
    rw [a2]
    simp [upAt, e]
  have eW : ∀ k, sI (stIA U y (upV (sI U y) 7 (nI 0))) y k = upV (sI U y) 7 (nI 0) k := fun k => by rw [sI_stIA, if_pos rfl]
  have uS : DE (mV U y 0) (mV S y 0) := u3.trans (Qs.num 0).de
  have tX : TM (stIA U y (upV (sI U y) 7 (nI 0))) y X n := by
    obtain ⟨x1, x2, x3⟩ := hX
    refine ⟨x1, ?_, fun j hj => ⟨(x3 j hj).1, ?_⟩⟩
    · rw [eW, upAt, if_neg (by omega), a2, upAt, if_neg (by omega), g1 6 (by omega), x2]
    · rw [sI_stIA, if_neg (by omega), a1.i (by omega), sI_stIA, if_neg (by omega)]
      exact (x3 j hj).2
  refine lpO_X7_carryOut l G u1.up tX 81 0 0 _ (mV S y 0) _ _ _ _ (by omega) (by have := hX.1; omega) c ⟨Fr.refl _ _ _, rfl, fun _ _ => rfl, ?_, ((Qs.num 0).de).trans uS, fun q _ _ => Qs.refl _ _ _⟩ hD ?_ (fun T hT => h2 c _ ?_)
  · obtain ⟨a, b, e⟩ := uF
    exact ⟨a, b, by rw [eW]; exact e⟩
  · rw [eW]; rfl
  · obtain ⟨r1, r2, r3, r4, r5, r6⟩ := hT
    have hm : min (kc + 1) 6 ≤ 6 := Nat.min_le_right _ _
    refine ⟨?_, ?_, ?_, ⟨?_, fun _ => ?_⟩, (Qs.num 0).de.trans r5, ?_, fun q q1 q2 => ?_, fun q q1 q2 => ?_⟩
    · have f1 : Fr S (stIA S y g) y (y + 5) := (Fr.refl S _ _).stIA _ _ (by omega) (by omega)
      have f2 : Fr S U y (y + 5) := f1.trans (a1.mono (by omega) (by omega))
      exact ((f2.stIA y _ (by omega) (by omega)).trans r1).stIA y _ (by omega) (by omega)
    · rw [sI_stIA, if_neg (by omega), r2, sI_stIA, if_neg (by omega), a1.i (by omega), sI_stIA, if_neg (by omega)]
    · rw [sI_stIA, if_pos rfl, upAt, if_neg (by omega), r3 2 (by omega), eW, upAt, if_neg (by omega), a2]; rfl
    · rw [sI_stIA, if_pos rfl]; rfl
    · rw [sI_stIA, if_pos rfl]
      obtain ⟨a, b, e⟩ := r4
      exact ⟨a, b, by rw [upAt, if_neg (by omega)]; exact e⟩
    · exact ((((Qs.num 0).trans a3).trans (Qs.num _)).trans (r6 _ (by omega) (by omega))).trans (Qs.num _)
    · exact ((((Qs.num _).trans (a4 q q1 q2)).trans (Qs.num _)).trans (r6 _ q1 (by omega))).trans (Qs.num _)
    · exact ((((Qs.num _).trans (a6 q q1)).trans (Qs.num _)).trans (r6 _ (by omega) q2)).trans (Qs.num _)
