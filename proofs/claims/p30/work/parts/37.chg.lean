-- needs: 18.nums 19.proj 20.spec 21.shape 22.leaf 23.fl 23.view 24.loops 25.desk 26.near 27.quest 28.hours 29.write 29.xsame 30.trial 31.hist 32.pad 33.orders 34.read 35.text 36.own
/-! changes by the class's own methods -/
def P_X6_takeBack (as : List Value) (S : SS) (E : Option Value → SS → Prop) : Prop := match as with
  | [.ref x, .int r, .int c] => ∃ nx kc, OwnOK S x nx kc ∧ ∀ D, DE D (dV S (x + 1)) → (D.dk = mI 6 ∨ ¬ Pl r c → ∀ S', Chg S S' x nx kc D false → E (some (.int (mI 1))) S') ∧
      (∀ p a b, OnD D p → a < 10 → b < 12 → r = nI a → c = nI b → ((D.g p).p (a * 12 + b) = mI 6 → ∀ S', Chg S S' x nx kc D false → E (some (.int (mI 5))) S') ∧
        (¬ (D.g p).p (a * 12 + b) = mI 6 → ∀ S', Chg S S' x nx kc (putG D p (sf_p (D.g p) (upV (D.g p).p (a * 12 + b) (mI 6)))) true → E (some (.int ((D.g p).p (a * 12 + b)))) S'))
  | _ => False
def Γ_X6_takeBack : List (MI × PT) := [(mi_X2_prepare, P_X2_prepare), (mi_X0_takePromiseBack, P_X0_takePromiseBack), (mi_X2_keepUnlessError, P_X2_keepUnlessError)]
theorem hΓ_X6_takeBack (l : Launch) (G : Gx) : ∀ q ∈ Γ_X6_takeBack, Ct l G q.1 q.2 := List.forall_mem_cons.mpr ⟨ct_X2_prepare l G, List.forall_mem_cons.mpr ⟨ct_X0_takePromiseBack l G, List.forall_mem_cons.mpr ⟨ct_X2_keepUnlessError l G, fun _ h => absurd h List.not_mem_nil⟩⟩⟩
set_option maxHeartbeats 1000000 in
theorem ct_X6_takeBack (l : Launch) (G : Gx) : Ct l G mi_X6_takeBack P_X6_takeBack := by
  refine Ct.ofV mo_X6_takeBack (fun as S E h => ?_)
  unfold P_X6_takeBack at h
  split at h
  case h_2 => exact h.elim
  rename_i x r c
  refine ⟨by simp [entL, mL_X6_takeBack], ?_⟩
  refine wpN_ok (Γ := Γ_X6_takeBack) (hΓ_X6_takeBack l G) so_X6_takeBack 4 _ _ _ _ _ _ ?_
  simp only [mL_X6_takeBack, mT_X6_takeBack, rc_X6_takeBack, rs_X6_takeBack, Γ_X6_takeBack, sg_X6_takeBack_0, wn_X6_takeBack_0, wp_c, ex_c, x_nop, x_goto, x_table, x_iinc, x_ldc, x_ldc2, x_iaload, x_faload, x_baload, x_caload, x_iastore, x_fastore, x_bastore, x_castore, x_aastore, x_alen, x_gets, x_new, x_newa, x_anew, x_invs, x_invi, x_invv, x_ret, x_iret, x_lret, x_fret, x_aret, x_lconst, x_fconst0, x_fconst1, x_fconst2, x_dconst0, x_dconst1, x_null, x_iadd, x_isub, x_imul, x_iand, x_ior, x_idiv, x_irem, x_ineg, x_ishl, x_ishr, x_land, x_ladd, x_lmul, x_lor, x_lushr, x_lshl, x_lcmp, x_i2l, x_l2i, x_i2c, x_i2f, x_f2d, x_d2i, x_d2l, x_fadd, x_fsub, x_fmul, x_fdiv, x_dadd, x_dsub, x_dmul, x_ddiv, x_fcmp, x_dcmp, x_dupI, x_dupR, x_dup2, x_popI, x_popR, ldP_I, ldP_L, ldP_F, ldP_D, ldP_R, ldP_N, x_iload, x_iload_n, x_lload, x_lload_n, x_fload, x_fload_n, x_dload, x_dload_n, x_aload, x_aload_n, x_istore, x_istore_n, x_lstore, x_lstore_n, x_fstore, x_fstore_n, x_dstore, x_dstore_n, x_astore, x_astore_n, x_astoreN, x_astore_nN, x_icmp_eq, x_icmp_ne, x_icmp_lt, x_icmp_ge, x_icmp_gt, x_icmp_le, x_if_eq, x_if_ne, x_if_lt, x_if_ge, x_if_gt, x_if_le, x_ifnull, x_ifnullR, x_ifnn, x_ifnnR, x_aaload2, x_cpI, x_cpF, x_oI, xk_bipush_120, xk_iconst_0, xk_bipush_m6, xk_iconst_1, xk_bipush_80, xk_iconst_4, xk_bipush_6, xk_iconst_2, xk_bipush_40, xk_iconst_3, xk_bipush_10, xk_iconst_5, xk_bipush_m2, xk_bipush_m4, xk_iconst_m1, xk_bipush_m5, xk_bipush_12, xk_bipush_100, xk_bipush_26, xk_bipush_48, xk_sipush_9999, xk_sipush_500, xk_bipush_7, xk_bipush_119, xk_bipush_m126, xk_bipush_127, xk_bipush_23, xk_sipush_m1022, xk_sipush_1023, xk_bipush_52, xg_0_0, xp_0_0, xg_0_1, xp_0_1, xg_0_2, xp_0_2, xg_0_3, xp_0_3, xg_0_4, xp_0_4, xg_0_5, xp_0_5, xg_0_6, xp_0_6, xg_0_7, xp_0_7, xg_0_8, xp_0_8, xg_1_0, xp_1_0, xg_1_1, xp_1_1, xg_1_2, xp_1_2, xg_1_3, xp_1_3, xg_2_0, xp_2_0, xg_2_1, xp_2_1, xg_2_2, xp_2_2, xg_3_0, xp_3_0, xg_3_1, xp_3_1, xg_3_2, xp_3_2, xg_3_3, xp_3_3, xg_3_4, xp_3_4, xg_3_5, xp_3_5, xg_3_6, xp_3_6, xg_3_7, xp_3_7, xg_3_8, xp_3_8, xg_3_9, xp_3_9, xg_3_10, xp_3_10, xg_3_11, xp_3_11, xg_4_0, xp_4_0, xg_4_1, xp_4_1, xg_5_0, xp_5_0, xg_5_1, xp_5_1, xg_6_0, xp_6_0, xg_6_1, xp_6_1, xg_6_2, xp_6_2, xg_6_3, xp_6_3, xg_6_4, xp_6_4, xg_6_5, xp_6_5, fv0, fv1, fv2, fv3, kI_0, kI_1, stL, wipeL, entLn, entL, List.getElem?_cons_zero, List.getElem?_cons_succ, List.getElem?_nil, List.set_cons_zero, List.set_cons_succ, List.set_nil, List.length_cons, List.length_nil, List.cons_append, List.nil_append, List.replicate, Nat.reduceAdd, Nat.reduceLeDiff, Nat.reduceSub, true_and, and_true, x_callS, x_callSN, x_callI, x_callIN, x_callV0, x_callV1, x_callV2, x_callV3, x_callV4, x_callV5, x_callV6, x_callV7, callP, List.take_succ_cons, List.take_zero, List.take_nil, List.drop_succ_cons, List.drop_zero, List.drop_nil, List.getLast?_singleton, List.getLast?_cons_cons, Option.some.injEq, Value.ref.injEq, exists_eq_left, exists_eq_left', Nat.zero_le, Nat.add_zero, ldcV_f, ldcV_fn, ldcV_l, ldcV_d, Nat.reduceMul, Nat.le_refl, List.reverse_cons, List.reverse_nil, Option.toList, List.map_cons, List.map_nil, List.sum_cons, List.sum_nil, Value.category, tblW_n, tblW_c, Int.cast_ofNat_Int, Int.reduceAdd, Int.reduceToNat, ofI_n, rc_X2_prepare, rs_X2_prepare, P_X2_prepare, rc_X0_takePromiseBack, rs_X0_takePromiseBack, P_X0_takePromiseBack, rc_X2_keepUnlessError, rs_X2_keepUnlessError, P_X2_keepUnlessError]
  obtain ⟨nx, kc, hC, h⟩ := h
  obtain ⟨r1, r2, r3, r4⟩ := hC.ready
  have hC0 := hC
  obtain ⟨⟨k1, k2, k3, k4, k5, k6, k7, -⟩, -, hnx, hkc, e1, e2⟩ := hC
  simp only [k1, k2, k3, k4, k5, k6, k7, r1, r2, r3, r4, r1.1, r2.1, sK_stI, sR_stI, sK_stF, sR_stF, sK_stIA, sR_stIA, sK_stFA, sR_stFA, sI_stI, sI_stF, sI_stIA, sI_stFA, sF_stI, sF_stF, sF_stIA, sF_stFA, Nat.left_eq_add, Nat.add_eq_left, Nat.add_left_cancel_iff, Nat.reduceEqDiff, Nat.reduceEqDiff, Nat.succ_ne_self, false_and, and_false, if_false, if_true, nI_succ_sub, Option.some.injEq, Prod.mk.injEq, exists_eq_left', true_and, and_true, retI, retF, retV, retZ1, retZ0, retL, retA, retN, Nat.reduceAdd, Nat.reduceMul, Nat.reduceLT]
  refine ⟨nx, hnx, e1, fun S1 hF hE => ?_⟩
  have hp : Prep S S1 x nx := Prep.of hF hE
  obtain ⟨c1, c2, c3, c4⟩ := hC0.prep hp
  obtain ⟨h1, h2⟩ := h _ (hp.de hnx)
  have q1 := c1.2.2.2.2.2.2.2.2.2.1
  have q2 := c1.2.2.2.2.2.2.2.2.2.2.1
  have er : Fr S1 S1 (x + 1) (x + 27) := Fr.refl _ _ _
  refine ⟨c1.1, _, c1.2.2.1, c1.1, _, c1.2.1, q1.1, q1, c2, fun a => keepB q2.1 hnx hkc c3 c4 (by decide) (h1 a _ (Chg.bad hnx hp er (DE.refl _) e1 e2)), fun p a b hp' ha hb er' ec => ⟨fun w => keepB q2.1 hnx hkc c3 c4 (by decide) ((h2 p a b hp' ha hb er' ec).1 w _ (Chg.bad hnx hp er (DE.refl _) e1 e2)), fun w T hT hE2 => ?_⟩⟩
  obtain ⟨t1, t2, t3⟩ := hT.hist q2.1 c3 c4
  refine keepG t1 hnx hkc t2 t3 ?_ ((h2 p a b hp' ha hb er' ec).2 w _ (Chg.good hnx hp hT (by rw [hE2]; exact DE.refl _)))
  obtain ⟨-, -, w1 | ⟨b', hb', eb⟩⟩ := c2.2.2.2.2 p hp'.2.2 hp'.2.1 (a * 12 + b) (by omega)
  · exact absurd w1 w
  · rw [eb]
    exact nI_pos' (by omega)
def P_X6_rub (as : List Value) (S : SS) (E : Option Value → SS → Prop) : Prop := match as with
  | [.ref x, .int r, .int c] => ∃ nx kc, OwnOK S x nx kc ∧ ∀ D, DE D (dV S (x + 1)) → (D.dk = mI 6 ∨ ¬ Pl r c → ∀ S', Chg S S' x nx kc D false → E (some (.int (mI 1))) S') ∧
      (∀ p a b, OnD D p → a < 10 → b < 12 → r = nI a → c = nI b → ((D.g p).t (a * 12 + b) = mI 6 → ∀ S', Chg S S' x nx kc D false → E (some (.int (mI 5))) S') ∧
        (¬ (D.g p).t (a * 12 + b) = mI 6 → ∀ S', Chg S S' x nx kc (putG D p (rubV (D.g p) (a * 12 + b))) true → E (some (.int ((D.g p).t (a * 12 + b)))) S'))
  | _ => False
def Γ_X6_rub : List (MI × PT) := [(mi_X2_prepare, P_X2_prepare), (mi_X0_rubLetter, P_X0_rubLetter), (mi_X2_keepUnlessError, P_X2_keepUnlessError)]
theorem hΓ_X6_rub (l : Launch) (G : Gx) : ∀ q ∈ Γ_X6_rub, Ct l G q.1 q.2 := List.forall_mem_cons.mpr ⟨ct_X2_prepare l G, List.forall_mem_cons.mpr ⟨ct_X0_rubLetter l G, List.forall_mem_cons.mpr ⟨ct_X2_keepUnlessError l G, fun _ h => absurd h List.not_mem_nil⟩⟩⟩
set_option maxHeartbeats 1000000 in
theorem ct_X6_rub (l : Launch) (G : Gx) : Ct l G mi_X6_rub P_X6_rub := by
  refine Ct.ofV mo_X6_rub (fun as S E h => ?_)
  unfold P_X6_rub at h
  split at h
  case h_2 => exact h.elim
  rename_i x r c
  refine ⟨by simp [entL, mL_X6_rub], ?_⟩
  refine wpN_ok (Γ := Γ_X6_rub) (hΓ_X6_rub l G) so_X6_rub 4 _ _ _ _ _ _ ?_
  simp only [mL_X6_rub, mT_X6_rub, rc_X6_rub, rs_X6_rub, Γ_X6_rub, sg_X6_rub_0, wn_X6_rub_0, wp_c, ex_c, x_nop, x_goto, x_table, x_iinc, x_ldc, x_ldc2, x_iaload, x_faload, x_baload, x_caload, x_iastore, x_fastore, x_bastore, x_castore, x_aastore, x_alen, x_gets, x_new, x_newa, x_anew, x_invs, x_invi, x_invv, x_ret, x_iret, x_lret, x_fret, x_aret, x_lconst, x_fconst0, x_fconst1, x_fconst2, x_dconst0, x_dconst1, x_null, x_iadd, x_isub, x_imul, x_iand, x_ior, x_idiv, x_irem, x_ineg, x_ishl, x_ishr, x_land, x_ladd, x_lmul, x_lor, x_lushr, x_lshl, x_lcmp, x_i2l, x_l2i, x_i2c, x_i2f, x_f2d, x_d2i, x_d2l, x_fadd, x_fsub, x_fmul, x_fdiv, x_dadd, x_dsub, x_dmul, x_ddiv, x_fcmp, x_dcmp, x_dupI, x_dupR, x_dup2, x_popI, x_popR, ldP_I, ldP_L, ldP_F, ldP_D, ldP_R, ldP_N, x_iload, x_iload_n, x_lload, x_lload_n, x_fload, x_fload_n, x_dload, x_dload_n, x_aload, x_aload_n, x_istore, x_istore_n, x_lstore, x_lstore_n, x_fstore, x_fstore_n, x_dstore, x_dstore_n, x_astore, x_astore_n, x_astoreN, x_astore_nN, x_icmp_eq, x_icmp_ne, x_icmp_lt, x_icmp_ge, x_icmp_gt, x_icmp_le, x_if_eq, x_if_ne, x_if_lt, x_if_ge, x_if_gt, x_if_le, x_ifnull, x_ifnullR, x_ifnn, x_ifnnR, x_aaload2, x_cpI, x_cpF, x_oI, xk_bipush_120, xk_iconst_0, xk_bipush_m6, xk_iconst_1, xk_bipush_80, xk_iconst_4, xk_bipush_6, xk_iconst_2, xk_bipush_40, xk_iconst_3, xk_bipush_10, xk_iconst_5, xk_bipush_m2, xk_bipush_m4, xk_iconst_m1, xk_bipush_m5, xk_bipush_12, xk_bipush_100, xk_bipush_26, xk_bipush_48, xk_sipush_9999, xk_sipush_500, xk_bipush_7, xk_bipush_119, xk_bipush_m126, xk_bipush_127, xk_bipush_23, xk_sipush_m1022, xk_sipush_1023, xk_bipush_52, xg_0_0, xp_0_0, xg_0_1, xp_0_1, xg_0_2, xp_0_2, xg_0_3, xp_0_3, xg_0_4, xp_0_4, xg_0_5, xp_0_5, xg_0_6, xp_0_6, xg_0_7, xp_0_7, xg_0_8, xp_0_8, xg_1_0, xp_1_0, xg_1_1, xp_1_1, xg_1_2, xp_1_2, xg_1_3, xp_1_3, xg_2_0, xp_2_0, xg_2_1, xp_2_1, xg_2_2, xp_2_2, xg_3_0, xp_3_0, xg_3_1, xp_3_1, xg_3_2, xp_3_2, xg_3_3, xp_3_3, xg_3_4, xp_3_4, xg_3_5, xp_3_5, xg_3_6, xp_3_6, xg_3_7, xp_3_7, xg_3_8, xp_3_8, xg_3_9, xp_3_9, xg_3_10, xp_3_10, xg_3_11, xp_3_11, xg_4_0, xp_4_0, xg_4_1, xp_4_1, xg_5_0, xp_5_0, xg_5_1, xp_5_1, xg_6_0, xp_6_0, xg_6_1, xp_6_1, xg_6_2, xp_6_2, xg_6_3, xp_6_3, xg_6_4, xp_6_4, xg_6_5, xp_6_5, fv0, fv1, fv2, fv3, kI_0, kI_1, stL, wipeL, entLn, entL, List.getElem?_cons_zero, List.getElem?_cons_succ, List.getElem?_nil, List.set_cons_zero, List.set_cons_succ, List.set_nil, List.length_cons, List.length_nil, List.cons_append, List.nil_append, List.replicate, Nat.reduceAdd, Nat.reduceLeDiff, Nat.reduceSub, true_and, and_true, x_callS, x_callSN, x_callI, x_callIN, x_callV0, x_callV1, x_callV2, x_callV3, x_callV4, x_callV5, x_callV6, x_callV7, callP, List.take_succ_cons, List.take_zero, List.take_nil, List.drop_succ_cons, List.drop_zero, List.drop_nil, List.getLast?_singleton, List.getLast?_cons_cons, Option.some.injEq, Value.ref.injEq, exists_eq_left, exists_eq_left', Nat.zero_le, Nat.add_zero, ldcV_f, ldcV_fn, ldcV_l, ldcV_d, Nat.reduceMul, Nat.le_refl, List.reverse_cons, List.reverse_nil, Option.toList, List.map_cons, List.map_nil, List.sum_cons, List.sum_nil, Value.category, tblW_n, tblW_c, Int.cast_ofNat_Int, Int.reduceAdd, Int.reduceToNat, ofI_n, rc_X2_prepare, rs_X2_prepare, P_X2_prepare, rc_X0_rubLetter, rs_X0_rubLetter, P_X0_rubLetter, rc_X2_keepUnlessError, rs_X2_keepUnlessError, P_X2_keepUnlessError]
  obtain ⟨nx, kc, hC, h⟩ := h
  obtain ⟨r1, r2, r3, r4⟩ := hC.ready
  have hC0 := hC
  obtain ⟨⟨k1, k2, k3, k4, k5, k6, k7, -⟩, -, hnx, hkc, e1, e2⟩ := hC
  simp only [k1, k2, k3, k4, k5, k6, k7, r1, r2, r3, r4, r1.1, r2.1, sK_stI, sR_stI, sK_stF, sR_stF, sK_stIA, sR_stIA, sK_stFA, sR_stFA, sI_stI, sI_stF, sI_stIA, sI_stFA, sF_stI, sF_stF, sF_stIA, sF_stFA, Nat.left_eq_add, Nat.add_eq_left, Nat.add_left_cancel_iff, Nat.reduceEqDiff, Nat.reduceEqDiff, Nat.succ_ne_self, false_and, and_false, if_false, if_true, nI_succ_sub, Option.some.injEq, Prod.mk.injEq, exists_eq_left', true_and, and_true, retI, retF, retV, retZ1, retZ0, retL, retA, retN, Nat.reduceAdd, Nat.reduceMul, Nat.reduceLT]
  refine ⟨nx, hnx, e1, fun S1 hF hE => ?_⟩
  have hp : Prep S S1 x nx := Prep.of hF hE
  obtain ⟨c1, c2, c3, c4⟩ := hC0.prep hp
  obtain ⟨h1, h2⟩ := h _ (hp.de hnx)
  have q1 := c1.2.2.2.2.2.2.2.2.2.1
  have q2 := c1.2.2.2.2.2.2.2.2.2.2.1
  have er : Fr S1 S1 (x + 1) (x + 27) := Fr.refl _ _ _
  refine ⟨c1.1, _, c1.2.2.1, c1.1, _, c1.2.1, q1.1, q1, c2, fun a => keepB q2.1 hnx hkc c3 c4 (by decide) (h1 a _ (Chg.bad hnx hp er (DE.refl _) e1 e2)), fun p a b hp' ha hb er' ec => ⟨fun w => keepB q2.1 hnx hkc c3 c4 (by decide) ((h2 p a b hp' ha hb er' ec).1 w _ (Chg.bad hnx hp er (DE.refl _) e1 e2)), fun w T hT hE2 => ?_⟩⟩
  obtain ⟨t1, t2, t3⟩ := hT.hist q2.1 c3 c4
  refine keepG t1 hnx hkc t2 t3 ?_ ((h2 p a b hp' ha hb er' ec).2 w _ (Chg.good hnx hp hT (by rw [hE2]; exact DE.refl _)))
  obtain ⟨-, ⟨w1, -⟩ | ⟨a', b', ha', hb', ea, eb⟩, -⟩ := c2.2.2.2.2 p hp'.2.2 hp'.2.1 (a * 12 + b) (by omega)
  · exact absurd w1 w
  · rw [ea]
    exact nI_pos' (by omega)
def P_X6_promise (as : List Value) (S : SS) (E : Option Value → SS → Prop) : Prop := match as with
  | [.ref x, .int w, .int r, .int c] => ∃ nx kc, OwnOK S x nx kc ∧ ∀ D, DE D (dV S (x + 1)) → (¬ (0 ≤ w ∧ w < D.pp) ∨ D.dk = mI 6 ∨ ¬ Pl r c → ∀ S', Chg S S' x nx kc D false → E (some (.int (mI 1))) S') ∧
      (∀ p a b, OnD D p → a < 10 → b < 12 → r = nI a → c = nI b → 0 ≤ w → w < D.pp → (¬ roV D (D.g p) (a * 12 + b) = true → ∀ S', Chg S S' x nx kc D false → E (some (.int (mI 5))) S') ∧
        (roV D (D.g p) (a * 12 + b) = true → ∀ S', Chg S S' x nx kc (putG D p (sf_p (D.g p) (upV (D.g p).p (a * 12 + b) w))) true → E (some (.int (nI (cn (fun j => !decide (upV (D.g p).p (a * 12 + b) w j = mI 6)) 120)))) S'))
  | _ => False
def Γ_X6_promise : List (MI × PT) := [(mi_X2_prepare, P_X2_prepare), (mi_X0_promisePlace, P_X0_promisePlace), (mi_X2_keepUnlessError, P_X2_keepUnlessError)]
theorem hΓ_X6_promise (l : Launch) (G : Gx) : ∀ q ∈ Γ_X6_promise, Ct l G q.1 q.2 := List.forall_mem_cons.mpr ⟨ct_X2_prepare l G, List.forall_mem_cons.mpr ⟨ct_X0_promisePlace l G, List.forall_mem_cons.mpr ⟨ct_X2_keepUnlessError l G, fun _ h => absurd h List.not_mem_nil⟩⟩⟩
set_option maxHeartbeats 1000000 in
theorem ct_X6_promise (l : Launch) (G : Gx) : Ct l G mi_X6_promise P_X6_promise := by
  refine Ct.ofV mo_X6_promise (fun as S E h => ?_)
  unfold P_X6_promise at h
  split at h
  case h_2 => exact h.elim
  rename_i x w r c
  refine ⟨by simp [entL, mL_X6_promise], ?_⟩
  refine wpN_ok (Γ := Γ_X6_promise) (hΓ_X6_promise l G) so_X6_promise 4 _ _ _ _ _ _ ?_
  simp only [mL_X6_promise, mT_X6_promise, rc_X6_promise, rs_X6_promise, Γ_X6_promise, sg_X6_promise_0, wn_X6_promise_0, wp_c, ex_c, x_nop, x_goto, x_table, x_iinc, x_ldc, x_ldc2, x_iaload, x_faload, x_baload, x_caload, x_iastore, x_fastore, x_bastore, x_castore, x_aastore, x_alen, x_gets, x_new, x_newa, x_anew, x_invs, x_invi, x_invv, x_ret, x_iret, x_lret, x_fret, x_aret, x_lconst, x_fconst0, x_fconst1, x_fconst2, x_dconst0, x_dconst1, x_null, x_iadd, x_isub, x_imul, x_iand, x_ior, x_idiv, x_irem, x_ineg, x_ishl, x_ishr, x_land, x_ladd, x_lmul, x_lor, x_lushr, x_lshl, x_lcmp, x_i2l, x_l2i, x_i2c, x_i2f, x_f2d, x_d2i, x_d2l, x_fadd, x_fsub, x_fmul, x_fdiv, x_dadd, x_dsub, x_dmul, x_ddiv, x_fcmp, x_dcmp, x_dupI, x_dupR, x_dup2, x_popI, x_popR, ldP_I, ldP_L, ldP_F, ldP_D, ldP_R, ldP_N, x_iload, x_iload_n, x_lload, x_lload_n, x_fload, x_fload_n, x_dload, x_dload_n, x_aload, x_aload_n, x_istore, x_istore_n, x_lstore, x_lstore_n, x_fstore, x_fstore_n, x_dstore, x_dstore_n, x_astore, x_astore_n, x_astoreN, x_astore_nN, x_icmp_eq, x_icmp_ne, x_icmp_lt, x_icmp_ge, x_icmp_gt, x_icmp_le, x_if_eq, x_if_ne, x_if_lt, x_if_ge, x_if_gt, x_if_le, x_ifnull, x_ifnullR, x_ifnn, x_ifnnR, x_aaload2, x_cpI, x_cpF, x_oI, xk_bipush_120, xk_iconst_0, xk_bipush_m6, xk_iconst_1, xk_bipush_80, xk_iconst_4, xk_bipush_6, xk_iconst_2, xk_bipush_40, xk_iconst_3, xk_bipush_10, xk_iconst_5, xk_bipush_m2, xk_bipush_m4, xk_iconst_m1, xk_bipush_m5, xk_bipush_12, xk_bipush_100, xk_bipush_26, xk_bipush_48, xk_sipush_9999, xk_sipush_500, xk_bipush_7, xk_bipush_119, xk_bipush_m126, xk_bipush_127, xk_bipush_23, xk_sipush_m1022, xk_sipush_1023, xk_bipush_52, xg_0_0, xp_0_0, xg_0_1, xp_0_1, xg_0_2, xp_0_2, xg_0_3, xp_0_3, xg_0_4, xp_0_4, xg_0_5, xp_0_5, xg_0_6, xp_0_6, xg_0_7, xp_0_7, xg_0_8, xp_0_8, xg_1_0, xp_1_0, xg_1_1, xp_1_1, xg_1_2, xp_1_2, xg_1_3, xp_1_3, xg_2_0, xp_2_0, xg_2_1, xp_2_1, xg_2_2, xp_2_2, xg_3_0, xp_3_0, xg_3_1, xp_3_1, xg_3_2, xp_3_2, xg_3_3, xp_3_3, xg_3_4, xp_3_4, xg_3_5, xp_3_5, xg_3_6, xp_3_6, xg_3_7, xp_3_7, xg_3_8, xp_3_8, xg_3_9, xp_3_9, xg_3_10, xp_3_10, xg_3_11, xp_3_11, xg_4_0, xp_4_0, xg_4_1, xp_4_1, xg_5_0, xp_5_0, xg_5_1, xp_5_1, xg_6_0, xp_6_0, xg_6_1, xp_6_1, xg_6_2, xp_6_2, xg_6_3, xp_6_3, xg_6_4, xp_6_4, xg_6_5, xp_6_5, fv0, fv1, fv2, fv3, kI_0, kI_1, stL, wipeL, entLn, entL, List.getElem?_cons_zero, List.getElem?_cons_succ, List.getElem?_nil, List.set_cons_zero, List.set_cons_succ, List.set_nil, List.length_cons, List.length_nil, List.cons_append, List.nil_append, List.replicate, Nat.reduceAdd, Nat.reduceLeDiff, Nat.reduceSub, true_and, and_true, x_callS, x_callSN, x_callI, x_callIN, x_callV0, x_callV1, x_callV2, x_callV3, x_callV4, x_callV5, x_callV6, x_callV7, callP, List.take_succ_cons, List.take_zero, List.take_nil, List.drop_succ_cons, List.drop_zero, List.drop_nil, List.getLast?_singleton, List.getLast?_cons_cons, Option.some.injEq, Value.ref.injEq, exists_eq_left, exists_eq_left', Nat.zero_le, Nat.add_zero, ldcV_f, ldcV_fn, ldcV_l, ldcV_d, Nat.reduceMul, Nat.le_refl, List.reverse_cons, List.reverse_nil, Option.toList, List.map_cons, List.map_nil, List.sum_cons, List.sum_nil, Value.category, tblW_n, tblW_c, Int.cast_ofNat_Int, Int.reduceAdd, Int.reduceToNat, ofI_n, rc_X2_prepare, rs_X2_prepare, P_X2_prepare, rc_X0_promisePlace, rs_X0_promisePlace, P_X0_promisePlace, rc_X2_keepUnlessError, rs_X2_keepUnlessError, P_X2_keepUnlessError]
  obtain ⟨nx, kc, hC, h⟩ := h
  obtain ⟨r1, r2, r3, r4⟩ := hC.ready
  have hC0 := hC
  obtain ⟨⟨k1, k2, k3, k4, k5, k6, k7, -⟩, -, hnx, hkc, e1, e2⟩ := hC
  simp only [k1, k2, k3, k4, k5, k6, k7, r1, r2, r3, r4, r1.1, r2.1, sK_stI, sR_stI, sK_stF, sR_stF, sK_stIA, sR_stIA, sK_stFA, sR_stFA, sI_stI, sI_stF, sI_stIA, sI_stFA, sF_stI, sF_stF, sF_stIA, sF_stFA, Nat.left_eq_add, Nat.add_eq_left, Nat.add_left_cancel_iff, Nat.reduceEqDiff, Nat.reduceEqDiff, Nat.succ_ne_self, false_and, and_false, if_false, if_true, nI_succ_sub, Option.some.injEq, Prod.mk.injEq, exists_eq_left', true_and, and_true, retI, retF, retV, retZ1, retZ0, retL, retA, retN, Nat.reduceAdd, Nat.reduceMul, Nat.reduceLT]
  refine ⟨nx, hnx, e1, fun S1 hF hE => ?_⟩
  have hp : Prep S S1 x nx := Prep.of hF hE
  obtain ⟨c1, c2, c3, c4⟩ := hC0.prep hp
  obtain ⟨h1, h2⟩ := h _ (hp.de hnx)
  have q1 := c1.2.2.2.2.2.2.2.2.2.1
  have q2 := c1.2.2.2.2.2.2.2.2.2.2.1
  have er : Fr S1 S1 (x + 1) (x + 27) := Fr.refl _ _ _
  refine ⟨c1.1, _, c1.2.2.1, c1.1, _, c1.2.1, q1.1, q1, c2, fun a => keepB q2.1 hnx hkc c3 c4 (by decide) (h1 a _ (Chg.bad hnx hp er (DE.refl _) e1 e2)), fun p a b hp' ha hb er' ec w1 w2 => ⟨fun v => keepB q2.1 hnx hkc c3 c4 (by decide) ((h2 p a b hp' ha hb er' ec w1 w2).1 v _ (Chg.bad hnx hp er (DE.refl _) e1 e2)), fun v T hT hE2 => ?_⟩⟩
  obtain ⟨t1, t2, t3⟩ := hT.hist q2.1 c3 c4
  refine keepG t1 hnx hkc t2 t3 ?_ ((h2 p a b hp' ha hb er' ec w1 w2).2 v _ (Chg.good hnx hp hT (by rw [hE2]; exact DE.refl _)))
  have := cn_le (fun j => !decide (upV ((dV S1 (x + 1)).g p).p (a * 12 + b) w j = mI 6)) 120
  exact nI_pos' (by omega)
def P_X6_write (as : List Value) (S : SS) (E : Option Value → SS → Prop) : Prop := match as with
  | [.ref x, .int w, .int r, .int c, .int t] => ∃ nx kc, OwnOK S x nx kc ∧ ∀ D, DE D (dV S (x + 1)) → (¬ (0 ≤ w ∧ w < D.pp) ∨ D.dk = mI 6 ∨ ¬ Pl r c → ∀ S', Chg S S' x nx kc D false → E (some (.int (mI 1))) S') ∧
      (∀ p a b wn, OnD D p → a < 10 → b < 12 → r = nI a → c = nI b → 0 ≤ w → w < D.pp → w = nI wn → wn < 5 → (t < nI 0 ∨ nI 26 ≤ t → ∀ S', Chg S S' x nx kc D false → E (some (.int (mI 2))) S') ∧
        (¬ (t < nI 0 ∨ nI 26 ≤ t) → (¬ wrOK D (D.g p) wn (a * 12 + b) = true → ∀ S', Chg S S' x nx kc D false → E (some (.int (mI 5))) S') ∧
        (wrOK D (D.g p) wn (a * 12 + b) = true → ∀ S', Chg S S' x nx kc (wriV D p wn (a * 12 + b) t) true → E (some (.int (nI (lostV D (D.g p) wn (a * 12 + b) 120)))) S')))
  | _ => False
def Γ_X6_write : List (MI × PT) := [(mi_X2_prepare, P_X2_prepare), (mi_X0_writeLetter, P_X0_writeLetter), (mi_X2_keepUnlessError, P_X2_keepUnlessError)]
theorem hΓ_X6_write (l : Launch) (G : Gx) : ∀ q ∈ Γ_X6_write, Ct l G q.1 q.2 := List.forall_mem_cons.mpr ⟨ct_X2_prepare l G, List.forall_mem_cons.mpr ⟨ct_X0_writeLetter l G, List.forall_mem_cons.mpr ⟨ct_X2_keepUnlessError l G, fun _ h => absurd h List.not_mem_nil⟩⟩⟩
set_option maxHeartbeats 1000000 in
theorem ct_X6_write (l : Launch) (G : Gx) : Ct l G mi_X6_write P_X6_write := by
  refine Ct.ofV mo_X6_write (fun as S E h => ?_)
  unfold P_X6_write at h
  split at h
  case h_2 => exact h.elim
  rename_i x w r c t
  refine ⟨by simp [entL, mL_X6_write], ?_⟩
  refine wpN_ok (Γ := Γ_X6_write) (hΓ_X6_write l G) so_X6_write 4 _ _ _ _ _ _ ?_
  simp only [mL_X6_write, mT_X6_write, rc_X6_write, rs_X6_write, Γ_X6_write, sg_X6_write_0, wn_X6_write_0, wp_c, ex_c, x_nop, x_goto, x_table, x_iinc, x_ldc, x_ldc2, x_iaload, x_faload, x_baload, x_caload, x_iastore, x_fastore, x_bastore, x_castore, x_aastore, x_alen, x_gets, x_new, x_newa, x_anew, x_invs, x_invi, x_invv, x_ret, x_iret, x_lret, x_fret, x_aret, x_lconst, x_fconst0, x_fconst1, x_fconst2, x_dconst0, x_dconst1, x_null, x_iadd, x_isub, x_imul, x_iand, x_ior, x_idiv, x_irem, x_ineg, x_ishl, x_ishr, x_land, x_ladd, x_lmul, x_lor, x_lushr, x_lshl, x_lcmp, x_i2l, x_l2i, x_i2c, x_i2f, x_f2d, x_d2i, x_d2l, x_fadd, x_fsub, x_fmul, x_fdiv, x_dadd, x_dsub, x_dmul, x_ddiv, x_fcmp, x_dcmp, x_dupI, x_dupR, x_dup2, x_popI, x_popR, ldP_I, ldP_L, ldP_F, ldP_D, ldP_R, ldP_N, x_iload, x_iload_n, x_lload, x_lload_n, x_fload, x_fload_n, x_dload, x_dload_n, x_aload, x_aload_n, x_istore, x_istore_n, x_lstore, x_lstore_n, x_fstore, x_fstore_n, x_dstore, x_dstore_n, x_astore, x_astore_n, x_astoreN, x_astore_nN, x_icmp_eq, x_icmp_ne, x_icmp_lt, x_icmp_ge, x_icmp_gt, x_icmp_le, x_if_eq, x_if_ne, x_if_lt, x_if_ge, x_if_gt, x_if_le, x_ifnull, x_ifnullR, x_ifnn, x_ifnnR, x_aaload2, x_cpI, x_cpF, x_oI, xk_bipush_120, xk_iconst_0, xk_bipush_m6, xk_iconst_1, xk_bipush_80, xk_iconst_4, xk_bipush_6, xk_iconst_2, xk_bipush_40, xk_iconst_3, xk_bipush_10, xk_iconst_5, xk_bipush_m2, xk_bipush_m4, xk_iconst_m1, xk_bipush_m5, xk_bipush_12, xk_bipush_100, xk_bipush_26, xk_bipush_48, xk_sipush_9999, xk_sipush_500, xk_bipush_7, xk_bipush_119, xk_bipush_m126, xk_bipush_127, xk_bipush_23, xk_sipush_m1022, xk_sipush_1023, xk_bipush_52, xg_0_0, xp_0_0, xg_0_1, xp_0_1, xg_0_2, xp_0_2, xg_0_3, xp_0_3, xg_0_4, xp_0_4, xg_0_5, xp_0_5, xg_0_6, xp_0_6, xg_0_7, xp_0_7, xg_0_8, xp_0_8, xg_1_0, xp_1_0, xg_1_1, xp_1_1, xg_1_2, xp_1_2, xg_1_3, xp_1_3, xg_2_0, xp_2_0, xg_2_1, xp_2_1, xg_2_2, xp_2_2, xg_3_0, xp_3_0, xg_3_1, xp_3_1, xg_3_2, xp_3_2, xg_3_3, xp_3_3, xg_3_4, xp_3_4, xg_3_5, xp_3_5, xg_3_6, xp_3_6, xg_3_7, xp_3_7, xg_3_8, xp_3_8, xg_3_9, xp_3_9, xg_3_10, xp_3_10, xg_3_11, xp_3_11, xg_4_0, xp_4_0, xg_4_1, xp_4_1, xg_5_0, xp_5_0, xg_5_1, xp_5_1, xg_6_0, xp_6_0, xg_6_1, xp_6_1, xg_6_2, xp_6_2, xg_6_3, xp_6_3, xg_6_4, xp_6_4, xg_6_5, xp_6_5, fv0, fv1, fv2, fv3, kI_0, kI_1, stL, wipeL, entLn, entL, List.getElem?_cons_zero, List.getElem?_cons_succ, List.getElem?_nil, List.set_cons_zero, List.set_cons_succ, List.set_nil, List.length_cons, List.length_nil, List.cons_append, List.nil_append, List.replicate, Nat.reduceAdd, Nat.reduceLeDiff, Nat.reduceSub, true_and, and_true, x_callS, x_callSN, x_callI, x_callIN, x_callV0, x_callV1, x_callV2, x_callV3, x_callV4, x_callV5, x_callV6, x_callV7, callP, List.take_succ_cons, List.take_zero, List.take_nil, List.drop_succ_cons, List.drop_zero, List.drop_nil, List.getLast?_singleton, List.getLast?_cons_cons, Option.some.injEq, Value.ref.injEq, exists_eq_left, exists_eq_left', Nat.zero_le, Nat.add_zero, ldcV_f, ldcV_fn, ldcV_l, ldcV_d, Nat.reduceMul, Nat.le_refl, List.reverse_cons, List.reverse_nil, Option.toList, List.map_cons, List.map_nil, List.sum_cons, List.sum_nil, Value.category, tblW_n, tblW_c, Int.cast_ofNat_Int, Int.reduceAdd, Int.reduceToNat, ofI_n, rc_X2_prepare, rs_X2_prepare, P_X2_prepare, rc_X0_writeLetter, rs_X0_writeLetter, P_X0_writeLetter, rc_X2_keepUnlessError, rs_X2_keepUnlessError, P_X2_keepUnlessError]
  obtain ⟨nx, kc, hC, h⟩ := h
  obtain ⟨r1, r2, r3, r4⟩ := hC.ready
  have hC0 := hC
  obtain ⟨⟨k1, k2, k3, k4, k5, k6, k7, -⟩, -, hnx, hkc, e1, e2⟩ := hC
  simp only [k1, k2, k3, k4, k5, k6, k7, r1, r2, r3, r4, r1.1, r2.1, sK_stI, sR_stI, sK_stF, sR_stF, sK_stIA, sR_stIA, sK_stFA, sR_stFA, sI_stI, sI_stF, sI_stIA, sI_stFA, sF_stI, sF_stF, sF_stIA, sF_stFA, Nat.left_eq_add, Nat.add_eq_left, Nat.add_left_cancel_iff, Nat.reduceEqDiff, Nat.reduceEqDiff, Nat.succ_ne_self, false_and, and_false, if_false, if_true, nI_succ_sub, Option.some.injEq, Prod.mk.injEq, exists_eq_left', true_and, and_true, retI, retF, retV, retZ1, retZ0, retL, retA, retN, Nat.reduceAdd, Nat.reduceMul, Nat.reduceLT]
  refine ⟨nx, hnx, e1, fun S1 hF hE => ?_⟩
  have hp : Prep S S1 x nx := Prep.of hF hE
  obtain ⟨c1, c2, c3, c4⟩ := hC0.prep hp
  obtain ⟨h1, h2⟩ := h _ (hp.de hnx)
  have q1 := c1.2.2.2.2.2.2.2.2.2.1
  have q2 := c1.2.2.2.2.2.2.2.2.2.2.1
  have er : Fr S1 S1 (x + 1) (x + 27) := Fr.refl _ _ _
  refine ⟨c1.1, _, c1.2.2.1, c1.1, _, c1.2.1, q1.1, q1, c2, fun a => keepB q2.1 hnx hkc c3 c4 (by decide) (h1 a _ (Chg.bad hnx hp er (DE.refl _) e1 e2)), fun p a b wn hp' ha hb er' ec w1 w2 w3 w4 => ⟨fun v => keepB q2.1 hnx hkc c3 c4 (by decide) ((h2 p a b wn hp' ha hb er' ec w1 w2 w3 w4).1 v _ (Chg.bad hnx hp er (DE.refl _) e1 e2)), fun v => ⟨fun u => keepB q2.1 hnx hkc c3 c4 (by decide) (((h2 p a b wn hp' ha hb er' ec w1 w2 w3 w4).2 v).1 u _ (Chg.bad hnx hp er (DE.refl _) e1 e2)), fun u T hT hE2 => ?_⟩⟩⟩
  obtain ⟨t1, t2, t3⟩ := hT.hist q2.1 c3 c4
  refine keepG t1 hnx hkc t2 t3 ?_ (((h2 p a b wn hp' ha hb er' ec w1 w2 w3 w4).2 v).2 u _ (Chg.good hnx hp hT hE2))
  have := lostV_le (dV S1 (x + 1)) ((dV S1 (x + 1)).g p) wn (a * 12 + b) 120
  exact nI_pos' (by omega)
def P_X6_pass (as : List Value) (S : SS) (E : Option Value → SS → Prop) : Prop := match as with
  | [.ref x, .int m] => ∃ nx kc, OwnOK S x nx kc ∧ ∀ D, DE D (dV S (x + 1)) → (m < nI 1 ∨ nI 48 < m → ∀ S', Chg S S' x nx kc D false → E (some (.int (mI 2))) S') ∧ (∀ k h, 1 ≤ k → k ≤ 48 → m = nI k → D.hr = nI h → h ≤ 9999 → (9999 < h + k → ∀ S', Chg S S' x nx kc D false → E (some (.int (mI 5))) S') ∧
      (h + k ≤ 9999 → ∀ S', Chg S S' x nx kc (sf_g (sf_hr D (nI (h + k))) (pasG D k 4)) true → E (some (.int (nI (h + k)))) S'))
  | _ => False
def Γ_X6_pass : List (MI × PT) := [(mi_X2_prepare, P_X2_prepare), (mi_X0_passHours, P_X0_passHours), (mi_X2_keepUnlessError, P_X2_keepUnlessError)]
theorem hΓ_X6_pass (l : Launch) (G : Gx) : ∀ q ∈ Γ_X6_pass, Ct l G q.1 q.2 := List.forall_mem_cons.mpr ⟨ct_X2_prepare l G, List.forall_mem_cons.mpr ⟨ct_X0_passHours l G, List.forall_mem_cons.mpr ⟨ct_X2_keepUnlessError l G, fun _ h => absurd h List.not_mem_nil⟩⟩⟩
set_option maxHeartbeats 1000000 in
theorem ct_X6_pass (l : Launch) (G : Gx) : Ct l G mi_X6_pass P_X6_pass := by
  refine Ct.ofV mo_X6_pass (fun as S E h => ?_)
  unfold P_X6_pass at h
  split at h
  case h_2 => exact h.elim
  rename_i x m
  refine ⟨by simp [entL, mL_X6_pass], ?_⟩
  refine wpN_ok (Γ := Γ_X6_pass) (hΓ_X6_pass l G) so_X6_pass 4 _ _ _ _ _ _ ?_
  simp only [mL_X6_pass, mT_X6_pass, rc_X6_pass, rs_X6_pass, Γ_X6_pass, sg_X6_pass_0, wn_X6_pass_0, wp_c, ex_c, x_nop, x_goto, x_table, x_iinc, x_ldc, x_ldc2, x_iaload, x_faload, x_baload, x_caload, x_iastore, x_fastore, x_bastore, x_castore, x_aastore, x_alen, x_gets, x_new, x_newa, x_anew, x_invs, x_invi, x_invv, x_ret, x_iret, x_lret, x_fret, x_aret, x_lconst, x_fconst0, x_fconst1, x_fconst2, x_dconst0, x_dconst1, x_null, x_iadd, x_isub, x_imul, x_iand, x_ior, x_idiv, x_irem, x_ineg, x_ishl, x_ishr, x_land, x_ladd, x_lmul, x_lor, x_lushr, x_lshl, x_lcmp, x_i2l, x_l2i, x_i2c, x_i2f, x_f2d, x_d2i, x_d2l, x_fadd, x_fsub, x_fmul, x_fdiv, x_dadd, x_dsub, x_dmul, x_ddiv, x_fcmp, x_dcmp, x_dupI, x_dupR, x_dup2, x_popI, x_popR, ldP_I, ldP_L, ldP_F, ldP_D, ldP_R, ldP_N, x_iload, x_iload_n, x_lload, x_lload_n, x_fload, x_fload_n, x_dload, x_dload_n, x_aload, x_aload_n, x_istore, x_istore_n, x_lstore, x_lstore_n, x_fstore, x_fstore_n, x_dstore, x_dstore_n, x_astore, x_astore_n, x_astoreN, x_astore_nN, x_icmp_eq, x_icmp_ne, x_icmp_lt, x_icmp_ge, x_icmp_gt, x_icmp_le, x_if_eq, x_if_ne, x_if_lt, x_if_ge, x_if_gt, x_if_le, x_ifnull, x_ifnullR, x_ifnn, x_ifnnR, x_aaload2, x_cpI, x_cpF, x_oI, xk_bipush_120, xk_iconst_0, xk_bipush_m6, xk_iconst_1, xk_bipush_80, xk_iconst_4, xk_bipush_6, xk_iconst_2, xk_bipush_40, xk_iconst_3, xk_bipush_10, xk_iconst_5, xk_bipush_m2, xk_bipush_m4, xk_iconst_m1, xk_bipush_m5, xk_bipush_12, xk_bipush_100, xk_bipush_26, xk_bipush_48, xk_sipush_9999, xk_sipush_500, xk_bipush_7, xk_bipush_119, xk_bipush_m126, xk_bipush_127, xk_bipush_23, xk_sipush_m1022, xk_sipush_1023, xk_bipush_52, xg_0_0, xp_0_0, xg_0_1, xp_0_1, xg_0_2, xp_0_2, xg_0_3, xp_0_3, xg_0_4, xp_0_4, xg_0_5, xp_0_5, xg_0_6, xp_0_6, xg_0_7, xp_0_7, xg_0_8, xp_0_8, xg_1_0, xp_1_0, xg_1_1, xp_1_1, xg_1_2, xp_1_2, xg_1_3, xp_1_3, xg_2_0, xp_2_0, xg_2_1, xp_2_1, xg_2_2, xp_2_2, xg_3_0, xp_3_0, xg_3_1, xp_3_1, xg_3_2, xp_3_2, xg_3_3, xp_3_3, xg_3_4, xp_3_4, xg_3_5, xp_3_5, xg_3_6, xp_3_6, xg_3_7, xp_3_7, xg_3_8, xp_3_8, xg_3_9, xp_3_9, xg_3_10, xp_3_10, xg_3_11, xp_3_11, xg_4_0, xp_4_0, xg_4_1, xp_4_1, xg_5_0, xp_5_0, xg_5_1, xp_5_1, xg_6_0, xp_6_0, xg_6_1, xp_6_1, xg_6_2, xp_6_2, xg_6_3, xp_6_3, xg_6_4, xp_6_4, xg_6_5, xp_6_5, fv0, fv1, fv2, fv3, kI_0, kI_1, stL, wipeL, entLn, entL, List.getElem?_cons_zero, List.getElem?_cons_succ, List.getElem?_nil, List.set_cons_zero, List.set_cons_succ, List.set_nil, List.length_cons, List.length_nil, List.cons_append, List.nil_append, List.replicate, Nat.reduceAdd, Nat.reduceLeDiff, Nat.reduceSub, true_and, and_true, x_callS, x_callSN, x_callI, x_callIN, x_callV0, x_callV1, x_callV2, x_callV3, x_callV4, x_callV5, x_callV6, x_callV7, callP, List.take_succ_cons, List.take_zero, List.take_nil, List.drop_succ_cons, List.drop_zero, List.drop_nil, List.getLast?_singleton, List.getLast?_cons_cons, Option.some.injEq, Value.ref.injEq, exists_eq_left, exists_eq_left', Nat.zero_le, Nat.add_zero, ldcV_f, ldcV_fn, ldcV_l, ldcV_d, Nat.reduceMul, Nat.le_refl, List.reverse_cons, List.reverse_nil, Option.toList, List.map_cons, List.map_nil, List.sum_cons, List.sum_nil, Value.category, tblW_n, tblW_c, Int.cast_ofNat_Int, Int.reduceAdd, Int.reduceToNat, ofI_n, rc_X2_prepare, rs_X2_prepare, P_X2_prepare, rc_X0_passHours, rs_X0_passHours, P_X0_passHours, rc_X2_keepUnlessError, rs_X2_keepUnlessError, P_X2_keepUnlessError]
  obtain ⟨nx, kc, hC, h⟩ := h
  obtain ⟨r1, r2, r3, r4⟩ := hC.ready
  have hC0 := hC
  obtain ⟨⟨k1, k2, k3, k4, k5, k6, k7, -⟩, -, hnx, hkc, e1, e2⟩ := hC
  simp only [k1, k2, k3, k4, k5, k6, k7, r1, r2, r3, r4, r1.1, r2.1, sK_stI, sR_stI, sK_stF, sR_stF, sK_stIA, sR_stIA, sK_stFA, sR_stFA, sI_stI, sI_stF, sI_stIA, sI_stFA, sF_stI, sF_stF, sF_stIA, sF_stFA, Nat.left_eq_add, Nat.add_eq_left, Nat.add_left_cancel_iff, Nat.reduceEqDiff, Nat.reduceEqDiff, Nat.succ_ne_self, false_and, and_false, if_false, if_true, nI_succ_sub, Option.some.injEq, Prod.mk.injEq, exists_eq_left', true_and, and_true, retI, retF, retV, retZ1, retZ0, retL, retA, retN, Nat.reduceAdd, Nat.reduceMul, Nat.reduceLT]
  refine ⟨nx, hnx, e1, fun S1 hF hE => ?_⟩
  have hp : Prep S S1 x nx := Prep.of hF hE
  obtain ⟨c1, c2, c3, c4⟩ := hC0.prep hp
  obtain ⟨h1, h2⟩ := h _ (hp.de hnx)
  have q1 := c1.2.2.2.2.2.2.2.2.2.1
  have q2 := c1.2.2.2.2.2.2.2.2.2.2.1
  have er : Fr S1 S1 (x + 1) (x + 27) := Fr.refl _ _ _
  refine ⟨c1.1, _, c1.2.2.1, c1.1, _, c1.2.1, q1.1, q1, c2, fun a => keepB q2.1 hnx hkc c3 c4 (by decide) (h1 a _ (Chg.bad hnx hp er (DE.refl _) e1 e2)), fun k hh k1' k2' ek eh hh9 => ⟨fun v => keepB q2.1 hnx hkc c3 c4 (by decide) ((h2 k hh k1' k2' ek eh hh9).1 v _ (Chg.bad hnx hp er (DE.refl _) e1 e2)), fun v T hT hE2 => ?_⟩⟩
  obtain ⟨t1, t2, t3⟩ := hT.hist q2.1 c3 c4
  exact keepG t1 hnx hkc t2 t3 (nI_pos' (by omega)) ((h2 k hh k1' k2' ek eh hh9).2 v _ (Chg.good hnx hp hT hE2))
def P_X6_set (G : Gx) (as : List Value) (S : SS) (E : Option Value → SS → Prop) : Prop := match as with
  | [.ref x, .int s, .int v] => ∃ nx kc, OwnOK S x nx kc ∧ GC G S ∧ (G.2.2.1 0).1 < x ∧ (G.2.2.1 1).1 < x ∧ ∀ D, DE D (dV S (x + 1)) → (s < nI 0 ∨ nI 3 < s → ∀ S', Chg S S' x nx kc D false → E (some (.int (mI 2))) S') ∧ (∀ k, k < 4 → s = nI k → (v < nI (leastK k) ∨ nI (mostK k) < v) → ∀ S', Chg S S' x nx kc D false → E (some (.int (mI 2))) S') ∧
      (∀ k, k < 4 → s = nI k → ¬ (v < nI (leastK k) ∨ nI (mostK k) < v) → ∀ S', Chg S S' x nx kc (sf_st D (upV D.st k v)) true → E (some (.int (D.st k))) S')
  | _ => False
def Γ_X6_set (G : Gx) : List (MI × PT) := [(mi_X2_prepare, P_X2_prepare), (mi_X0_change, (P_X0_change G)), (mi_X2_keepUnlessError, P_X2_keepUnlessError)]
theorem hΓ_X6_set (l : Launch) (G : Gx) : ∀ q ∈ Γ_X6_set G, Ct l G q.1 q.2 := List.forall_mem_cons.mpr ⟨ct_X2_prepare l G, List.forall_mem_cons.mpr ⟨ct_X0_change l G, List.forall_mem_cons.mpr ⟨ct_X2_keepUnlessError l G, fun _ h => absurd h List.not_mem_nil⟩⟩⟩
set_option maxHeartbeats 1000000 in
theorem ct_X6_set (l : Launch) (G : Gx) : Ct l G mi_X6_set (P_X6_set G) := by
  refine Ct.ofV mo_X6_set (fun as S E h => ?_)
  unfold P_X6_set at h
  split at h
  case h_2 => exact h.elim
  rename_i x s v
  refine ⟨by simp [entL, mL_X6_set], ?_⟩
  refine wpN_ok (Γ := (Γ_X6_set G)) (hΓ_X6_set l G) so_X6_set 4 _ _ _ _ _ _ ?_
  simp only [mL_X6_set, mT_X6_set, rc_X6_set, rs_X6_set, Γ_X6_set, sg_X6_set_0, wn_X6_set_0, wp_c, ex_c, x_nop, x_goto, x_table, x_iinc, x_ldc, x_ldc2, x_iaload, x_faload, x_baload, x_caload, x_iastore, x_fastore, x_bastore, x_castore, x_aastore, x_alen, x_gets, x_new, x_newa, x_anew, x_invs, x_invi, x_invv, x_ret, x_iret, x_lret, x_fret, x_aret, x_lconst, x_fconst0, x_fconst1, x_fconst2, x_dconst0, x_dconst1, x_null, x_iadd, x_isub, x_imul, x_iand, x_ior, x_idiv, x_irem, x_ineg, x_ishl, x_ishr, x_land, x_ladd, x_lmul, x_lor, x_lushr, x_lshl, x_lcmp, x_i2l, x_l2i, x_i2c, x_i2f, x_f2d, x_d2i, x_d2l, x_fadd, x_fsub, x_fmul, x_fdiv, x_dadd, x_dsub, x_dmul, x_ddiv, x_fcmp, x_dcmp, x_dupI, x_dupR, x_dup2, x_popI, x_popR, ldP_I, ldP_L, ldP_F, ldP_D, ldP_R, ldP_N, x_iload, x_iload_n, x_lload, x_lload_n, x_fload, x_fload_n, x_dload, x_dload_n, x_aload, x_aload_n, x_istore, x_istore_n, x_lstore, x_lstore_n, x_fstore, x_fstore_n, x_dstore, x_dstore_n, x_astore, x_astore_n, x_astoreN, x_astore_nN, x_icmp_eq, x_icmp_ne, x_icmp_lt, x_icmp_ge, x_icmp_gt, x_icmp_le, x_if_eq, x_if_ne, x_if_lt, x_if_ge, x_if_gt, x_if_le, x_ifnull, x_ifnullR, x_ifnn, x_ifnnR, x_aaload2, x_cpI, x_cpF, x_oI, xk_bipush_120, xk_iconst_0, xk_bipush_m6, xk_iconst_1, xk_bipush_80, xk_iconst_4, xk_bipush_6, xk_iconst_2, xk_bipush_40, xk_iconst_3, xk_bipush_10, xk_iconst_5, xk_bipush_m2, xk_bipush_m4, xk_iconst_m1, xk_bipush_m5, xk_bipush_12, xk_bipush_100, xk_bipush_26, xk_bipush_48, xk_sipush_9999, xk_sipush_500, xk_bipush_7, xk_bipush_119, xk_bipush_m126, xk_bipush_127, xk_bipush_23, xk_sipush_m1022, xk_sipush_1023, xk_bipush_52, xg_0_0, xp_0_0, xg_0_1, xp_0_1, xg_0_2, xp_0_2, xg_0_3, xp_0_3, xg_0_4, xp_0_4, xg_0_5, xp_0_5, xg_0_6, xp_0_6, xg_0_7, xp_0_7, xg_0_8, xp_0_8, xg_1_0, xp_1_0, xg_1_1, xp_1_1, xg_1_2, xp_1_2, xg_1_3, xp_1_3, xg_2_0, xp_2_0, xg_2_1, xp_2_1, xg_2_2, xp_2_2, xg_3_0, xp_3_0, xg_3_1, xp_3_1, xg_3_2, xp_3_2, xg_3_3, xp_3_3, xg_3_4, xp_3_4, xg_3_5, xp_3_5, xg_3_6, xp_3_6, xg_3_7, xp_3_7, xg_3_8, xp_3_8, xg_3_9, xp_3_9, xg_3_10, xp_3_10, xg_3_11, xp_3_11, xg_4_0, xp_4_0, xg_4_1, xp_4_1, xg_5_0, xp_5_0, xg_5_1, xp_5_1, xg_6_0, xp_6_0, xg_6_1, xp_6_1, xg_6_2, xp_6_2, xg_6_3, xp_6_3, xg_6_4, xp_6_4, xg_6_5, xp_6_5, fv0, fv1, fv2, fv3, kI_0, kI_1, stL, wipeL, entLn, entL, List.getElem?_cons_zero, List.getElem?_cons_succ, List.getElem?_nil, List.set_cons_zero, List.set_cons_succ, List.set_nil, List.length_cons, List.length_nil, List.cons_append, List.nil_append, List.replicate, Nat.reduceAdd, Nat.reduceLeDiff, Nat.reduceSub, true_and, and_true, x_callS, x_callSN, x_callI, x_callIN, x_callV0, x_callV1, x_callV2, x_callV3, x_callV4, x_callV5, x_callV6, x_callV7, callP, List.take_succ_cons, List.take_zero, List.take_nil, List.drop_succ_cons, List.drop_zero, List.drop_nil, List.getLast?_singleton, List.getLast?_cons_cons, Option.some.injEq, Value.ref.injEq, exists_eq_left, exists_eq_left', Nat.zero_le, Nat.add_zero, ldcV_f, ldcV_fn, ldcV_l, ldcV_d, Nat.reduceMul, Nat.le_refl, List.reverse_cons, List.reverse_nil, Option.toList, List.map_cons, List.map_nil, List.sum_cons, List.sum_nil, Value.category, tblW_n, tblW_c, Int.cast_ofNat_Int, Int.reduceAdd, Int.reduceToNat, ofI_n, rc_X2_prepare, rs_X2_prepare, P_X2_prepare, rc_X0_change, rs_X0_change, P_X0_change, rc_X2_keepUnlessError, rs_X2_keepUnlessError, P_X2_keepUnlessError]
  obtain ⟨nx, kc, hC, hGC, hg0, hg1, h⟩ := h
  obtain ⟨r1, r2, r3, r4⟩ := hC.ready
  have hC0 := hC
  obtain ⟨⟨k1, k2, k3, k4, k5, k6, k7, -⟩, -, hnx, hkc, e1, e2⟩ := hC
  simp only [k1, k2, k3, k4, k5, k6, k7, r1, r2, r3, r4, r1.1, r2.1, sK_stI, sR_stI, sK_stF, sR_stF, sK_stIA, sR_stIA, sK_stFA, sR_stFA, sI_stI, sI_stF, sI_stIA, sI_stFA, sF_stI, sF_stF, sF_stIA, sF_stFA, Nat.left_eq_add, Nat.add_eq_left, Nat.add_left_cancel_iff, Nat.reduceEqDiff, Nat.reduceEqDiff, Nat.succ_ne_self, false_and, and_false, if_false, if_true, nI_succ_sub, Option.some.injEq, Prod.mk.injEq, exists_eq_left', true_and, and_true, retI, retF, retV, retZ1, retZ0, retL, retA, retN, Nat.reduceAdd, Nat.reduceMul, Nat.reduceLT]
  refine ⟨nx, hnx, e1, fun S1 hF hE => ?_⟩
  have hp : Prep S S1 x nx := Prep.of hF hE
  obtain ⟨c1, c2, c3, c4⟩ := hC0.prep hp
  obtain ⟨h1, h2, h3⟩ := h _ (hp.de hnx)
  have q1 := c1.2.2.2.2.2.2.2.2.2.1
  have q2 := c1.2.2.2.2.2.2.2.2.2.2.1
  have er : Fr S1 S1 (x + 1) (x + 27) := Fr.refl _ _ _
  have hGC1 : GC G S1 := hGC.fr hp.1 (Nat.lt_of_lt_of_le hg0 (by omega)) (Nat.lt_of_lt_of_le hg1 (by omega))
  refine ⟨c1.1, _, c1.2.2.1, c1.1, _, c1.2.1, q1.1, hGC1, q1, fun a => keepB q2.1 hnx hkc c3 c4 (by decide) (h1 a _ (Chg.bad hnx hp er (DE.refl _) e1 e2)), fun k hk ek b => keepB q2.1 hnx hkc c3 c4 (by decide) (h2 k hk ek b _ (Chg.bad hnx hp er (DE.refl _) e1 e2)), fun k hk ek b T hT hE2 => ?_⟩
  obtain ⟨t1, t2, t3⟩ := hT.hist q2.1 c3 c4
  refine keepG t1 hnx hkc t2 t3 ?_ (h3 k hk ek b _ (Chg.good hnx hp hT (by rw [hE2]; exact DE.refl _)))
  obtain ⟨⟨⟨a0, b0, e0⟩, ⟨a1, b1, e1'⟩, ⟨a2, b2, e2'⟩, ⟨a3, b3, e3⟩, -⟩, -⟩ := c2
  match k, hk with
  | 0, _ => rw [e0]; exact nI_pos' (by omega)
  | 1, _ => rw [e1']; exact nI_pos' (by omega)
  | 2, _ => rw [e2']; exact nI_pos' (by omega)
  | 3, _ => rw [e3]; exact nI_pos' (by omega)
