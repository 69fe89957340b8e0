-- needs: 18.nums 19.proj 20.spec 21.shape 22.leaf 23.fl 23.view 24.loops 25.desk 26.near 27.quest 28.hours 29.write 29.xsame 30.trial 31.hist 32.pad 33.orders 34.read 35.text 36.own 38.ask
/-! more questions to the class -/
theorem Prep.slot {S S1 : SS} {x nx : Nat} (h : Prep S S1 x nx) (hn : nx < 7) (j : Nat) : DE (dV S1 (x + 228 + 26 * j)) (dV S (x + 228 + 26 * j)) := h.1.dE (by omega)
theorem okL_leF {f : Nat → UInt32} (h : ∀ k, k < 120 → okL (f k)) : ∀ n, n ≤ 119 → okL (leF f n) := by
  intro n
  induction n with
  | zero => intro _; exact h 0 (by omega)
  | succ n ih =>
    intro hn
    unfold leF at ih ⊢
    rw [fo_s]
    split
    · exact h _ (by omega)
    · exact ih (by omega)
def P_X6_restore (as : List Value) (S : SS) (E : Option Value → SS → Prop) : Prop := match as with
  | [.ref x, .int s] => ∃ nx kc, OwnOK S x nx kc ∧ (∀ j, j < 2 → sI S (x + 212) j = nI 0 ∨ sI S (x + 212) j = nI 1) ∧ (∀ j, j < 2 → sI S (x + 212) j = nI 1 → DOK (dV S (x + 228 + 26 * j))) ∧ (s < nI 0 ∨ nI 2 ≤ s → E (some (.int (mI 2))) S) ∧ (∀ j, j < 2 → s = nI j → (sI S (x + 212) j = nI 0 → E (some (.int (mI 5))) S) ∧ (sI S (x + 212) j = nI 1 → ∀ S', Chg S S' x nx kc (dV S (x + 228 + 26 * j)) true → E (some (.int (dV S (x + 228 + 26 * j)).pl)) S'))
  | _ => False
def Γ_X6_restore : List (MI × PT) := [(mi_X2_prepare, P_X2_prepare), (mi_X0_copyFrom, P_X0_copyFrom), (mi_X2_keepUnlessError, P_X2_keepUnlessError)]
theorem hΓ_X6_restore (l : Launch) (G : Gx) : ∀ q ∈ Γ_X6_restore, Ct l G q.1 q.2 := List.forall_mem_cons.mpr ⟨ct_X2_prepare l G, List.forall_mem_cons.mpr ⟨ct_X0_copyFrom l G, List.forall_mem_cons.mpr ⟨ct_X2_keepUnlessError l G, fun _ h => absurd h List.not_mem_nil⟩⟩⟩
set_option maxHeartbeats 1000000 in
theorem ct_X6_restore (l : Launch) (G : Gx) : Ct l G mi_X6_restore P_X6_restore := by
  refine Ct.ofV mo_X6_restore (fun as S E h => ?_)
  unfold P_X6_restore at h
  split at h
  case h_2 => exact h.elim
  rename_i x s
  refine ⟨by simp [entL, mL_X6_restore], ?_⟩
  refine wpN_ok (Γ := Γ_X6_restore) (hΓ_X6_restore l G) so_X6_restore 5 _ _ _ _ _ _ ?_
  simp only [mL_X6_restore, mT_X6_restore, rc_X6_restore, rs_X6_restore, Γ_X6_restore, sg_X6_restore_0, sg_X6_restore_9, sg_X6_restore_12, sg_X6_restore_24, wn_X6_restore_0, wn_X6_restore_9, wn_X6_restore_12, wn_X6_restore_24, wp_c, ex_c, x_nop, x_goto, x_table, x_iinc, x_ldc, x_ldc2, x_iaload, x_faload, x_baload, x_caload, x_iastore, x_fastore, x_bastore, x_castore, x_aastore, x_alen, x_gets, x_new, x_newa, x_anew, x_invs, x_invi, x_invv, x_ret, x_iret, x_lret, x_fret, x_aret, x_lconst, x_fconst0, x_fconst1, x_fconst2, x_dconst0, x_dconst1, x_null, x_iadd, x_isub, x_imul, x_iand, x_ior, x_idiv, x_irem, x_ineg, x_ishl, x_ishr, x_land, x_ladd, x_lmul, x_lor, x_lushr, x_lshl, x_lcmp, x_i2l, x_l2i, x_i2c, x_i2f, x_f2d, x_d2i, x_d2l, x_fadd, x_fsub, x_fmul, x_fdiv, x_dadd, x_dsub, x_dmul, x_ddiv, x_fcmp, x_dcmp, x_dupI, x_dupR, x_dup2, x_popI, x_popR, ldP_I, ldP_L, ldP_F, ldP_D, ldP_R, ldP_N, x_iload, x_iload_n, x_lload, x_lload_n, x_fload, x_fload_n, x_dload, x_dload_n, x_aload, x_aload_n, x_istore, x_istore_n, x_lstore, x_lstore_n, x_fstore, x_fstore_n, x_dstore, x_dstore_n, x_astore, x_astore_n, x_astoreN, x_astore_nN, x_icmp_eq, x_icmp_ne, x_icmp_lt, x_icmp_ge, x_icmp_gt, x_icmp_le, x_if_eq, x_if_ne, x_if_lt, x_if_ge, x_if_gt, x_if_le, x_ifnull, x_ifnullR, x_ifnn, x_ifnnR, x_aaload2, x_cpI, x_cpF, x_oI, xk_bipush_120, xk_iconst_0, xk_bipush_m6, xk_iconst_1, xk_bipush_80, xk_iconst_4, xk_bipush_6, xk_iconst_2, xk_bipush_40, xk_iconst_3, xk_bipush_10, xk_iconst_5, xk_bipush_m2, xk_bipush_m4, xk_iconst_m1, xk_bipush_m5, xk_bipush_12, xk_bipush_100, xk_bipush_26, xk_bipush_48, xk_sipush_9999, xk_sipush_500, xk_bipush_7, xk_bipush_119, xk_bipush_m126, xk_bipush_127, xk_bipush_23, xk_sipush_m1022, xk_sipush_1023, xk_bipush_52, xg_0_0, xp_0_0, xg_0_1, xp_0_1, xg_0_2, xp_0_2, xg_0_3, xp_0_3, xg_0_4, xp_0_4, xg_0_5, xp_0_5, xg_0_6, xp_0_6, xg_0_7, xp_0_7, xg_0_8, xp_0_8, xg_1_0, xp_1_0, xg_1_1, xp_1_1, xg_1_2, xp_1_2, xg_1_3, xp_1_3, xg_2_0, xp_2_0, xg_2_1, xp_2_1, xg_2_2, xp_2_2, xg_3_0, xp_3_0, xg_3_1, xp_3_1, xg_3_2, xp_3_2, xg_3_3, xp_3_3, xg_3_4, xp_3_4, xg_3_5, xp_3_5, xg_3_6, xp_3_6, xg_3_7, xp_3_7, xg_3_8, xp_3_8, xg_3_9, xp_3_9, xg_3_10, xp_3_10, xg_3_11, xp_3_11, xg_4_0, xp_4_0, xg_4_1, xp_4_1, xg_5_0, xp_5_0, xg_5_1, xp_5_1, xg_6_0, xp_6_0, xg_6_1, xp_6_1, xg_6_2, xp_6_2, xg_6_3, xp_6_3, xg_6_4, xp_6_4, xg_6_5, xp_6_5, fv0, fv1, fv2, fv3, kI_0, kI_1, stL, wipeL, entLn, entL, List.getElem?_cons_zero, List.getElem?_cons_succ, List.getElem?_nil, List.set_cons_zero, List.set_cons_succ, List.set_nil, List.length_cons, List.length_nil, List.cons_append, List.nil_append, List.replicate, Nat.reduceAdd, Nat.reduceLeDiff, Nat.reduceSub, true_and, and_true, x_callS, x_callSN, x_callI, x_callIN, x_callV0, x_callV1, x_callV2, x_callV3, x_callV4, x_callV5, x_callV6, x_callV7, callP, List.take_succ_cons, List.take_zero, List.take_nil, List.drop_succ_cons, List.drop_zero, List.drop_nil, List.getLast?_singleton, List.getLast?_cons_cons, Option.some.injEq, Value.ref.injEq, exists_eq_left, exists_eq_left', Nat.zero_le, Nat.add_zero, ldcV_f, ldcV_fn, ldcV_l, ldcV_d, Nat.reduceMul, Nat.le_refl, List.reverse_cons, List.reverse_nil, Option.toList, List.map_cons, List.map_nil, List.sum_cons, List.sum_nil, Value.category, tblW_n, tblW_c, Int.cast_ofNat_Int, Int.reduceAdd, Int.reduceToNat, ofI_n, rc_X2_prepare, rs_X2_prepare, P_X2_prepare, rc_X0_copyFrom, rs_X0_copyFrom, P_X0_copyFrom, rc_X2_keepUnlessError, rs_X2_keepUnlessError, P_X2_keepUnlessError]
  obtain ⟨nx, kc, hC, h01, hS, h1, h2⟩ := h
  obtain ⟨r1, r2, r3, r4⟩ := hC.ready
  have hC0 := hC
  obtain ⟨⟨k1, k2, k3, k4, k5, k6, k7, k8, k9, -⟩, -, hnx, hkc, e1, e2⟩ := hC
  simp only [k1, k2, k3, k4, k5, k6, k7, k8, k9, r1, r2, r3, r4, r1.1, r2.1, sK_stI, sR_stI, sK_stF, sR_stF, sK_stIA, sR_stIA, sK_stFA, sR_stFA, sI_stI, sI_stF, sI_stIA, sI_stFA, sF_stI, sF_stF, sF_stIA, sF_stFA, Nat.left_eq_add, Nat.add_eq_left, Nat.add_left_cancel_iff, Nat.reduceEqDiff, Nat.reduceEqDiff, Nat.succ_ne_self, false_and, and_false, if_false, if_true, nI_succ_sub, Option.some.injEq, Prod.mk.injEq, exists_eq_left', true_and, and_true, retI, retF, retV, retZ1, retZ0, retL, retA, retN, Nat.reduceAdd, Nat.reduceMul, Nat.reduceLT]
  refine ⟨fun q => h1 (Or.inl q), fun q => ⟨fun q2 => ?_, fun q2 => h1 (Or.inr (Int32.not_lt.mp q2))⟩⟩
  obtain ⟨j, hj, rfl⟩ := vp_in_of ((in_cmp (by omega)).mpr ⟨Int32.not_lt.mp q, q2⟩) (by decide)
  rw [nI_cl (by omega)]
  refine ⟨vp_in_nI hj (by omega), fun q3 => ?_, fun q3 => (h2 j hj rfl).1 (Decidable.not_not.mp q3)⟩
  have s1 : sI S (x + 212) j = nI 1 := (h01 j hj).resolve_left q3
  refine ⟨nx, hnx, e1, fun S1 hF hE => ?_⟩
  have hp : Prep S S1 x nx := Prep.of hF hE
  obtain ⟨c1, c2, c3, c4⟩ := hC0.prep hp
  have hs1 := hp.slot hnx j
  have hDs := DOK.congr hs1.symm (hS j hj s1)
  obtain ⟨l1, l2, l3, l4, l5, l6, l7, l8, l9, ld, lh, lo, lt, ls⟩ := c1
  obtain ⟨n, hn, en, -⟩ := hDs.2.2.1
  refine ⟨l1, _, l2, l1, _, l4, 2, l8, vp_in_nI hj (by omega), _, (ls j hj).1, ld.1, ld, (ls j hj).2, ap_slot' x j, ⟨n, hn, en⟩, fun T hT hE2 => ?_⟩
  have hO2 := hC0.1.fr ((hp.1.mono (lo' := 0) (hi' := x + 400) (by omega) (by omega)).trans (hT.mono (by omega) (by omega)))
  obtain ⟨m1, m2, m3, m4, m5, m6, m7, m8, m9, md, -⟩ := hO2
  have hE3 := hE2.trans hs1
  have epl : sI T (x + 1) 6 = (dV S (x + 228 + 26 * j)).pl := hE3.2.2.2.1
  obtain ⟨t1, t2, t3⟩ := hT.hist lh.1 c3 c4
  refine ⟨m1, _, m3, m1, _, m2, md.1, ?_⟩
  refine keepG t1 hnx hkc t2 t3 ?_ ?_
  · obtain ⟨n', hn', en', -⟩ := (hS j hj s1).2.2.1
    rw [epl, en']
    exact nI_pos' (by omega)
  · rw [epl]
    exact (h2 j hj rfl).2 s1 _ (Chg.good hnx hp hT hE3)
def P_X6_of (as : List Value) (S : SS) (E : Option Value → SS → Prop) : Prop := match as with
  | [.ref x, .int w, .int q] => OwnD S x ∧ (¬ (0 ≤ w ∧ w < (dV S (x + 1)).pp) → E (some (.int (mI 1))) S) ∧ (∀ wn n, 0 ≤ w → w < (dV S (x + 1)).pp → w = nI wn → wn < 5 → n ≤ 4 → (dV S (x + 1)).pl = nI n → E (some (.int (if q = nI 0 then (dV S (x + 1)).pr wn else if q = nI 1 then nI (ofV (dV S (x + 1)) wn 1 n) else if q = nI 2 then nI (ofV (dV S (x + 1)) wn 2 n) else if q = nI 3 then nI (ofV (dV S (x + 1)) wn 3 n) else if q = nI 4 then (dV S (x + 1)).wr wn else if q = nI 5 then (dV S (x + 1)).sp wn else mI 2))) S)
  | _ => False
def Γ_X6_of : List (MI × PT) := [(mi_X0_isWriter, P_X0_isWriter), (mi_X0_placesOfWriter, P_X0_placesOfWriter)]
theorem hΓ_X6_of (l : Launch) (G : Gx) : ∀ q ∈ Γ_X6_of, Ct l G q.1 q.2 := List.forall_mem_cons.mpr ⟨ct_X0_isWriter l G, List.forall_mem_cons.mpr ⟨ct_X0_placesOfWriter l G, fun _ h => absurd h List.not_mem_nil⟩⟩
set_option maxHeartbeats 1000000 in
theorem ct_X6_of (l : Launch) (G : Gx) : Ct l G mi_X6_of P_X6_of := by
  refine Ct.ofV mo_X6_of (fun as S E h => ?_)
  unfold P_X6_of at h
  split at h
  case h_2 => exact h.elim
  rename_i x w q_1
  refine ⟨by simp [entL, mL_X6_of], ?_⟩
  refine wpN_ok (Γ := Γ_X6_of) (hΓ_X6_of l G) so_X6_of 5 _ _ _ _ _ _ ?_
  simp only [mL_X6_of, mT_X6_of, rc_X6_of, rs_X6_of, Γ_X6_of, sg_X6_of_0, sg_X6_of_13, sg_X6_of_52, sg_X6_of_62, sg_X6_of_72, sg_X6_of_82, sg_X6_of_92, wn_X6_of_0, wn_X6_of_13, wn_X6_of_52, wn_X6_of_62, wn_X6_of_72, wn_X6_of_82, wn_X6_of_92, wp_c, ex_c, x_nop, x_goto, x_table, x_iinc, x_ldc, x_ldc2, x_iaload, x_faload, x_baload, x_caload, x_iastore, x_fastore, x_bastore, x_castore, x_aastore, x_alen, x_gets, x_new, x_newa, x_anew, x_invs, x_invi, x_invv, x_ret, x_iret, x_lret, x_fret, x_aret, x_lconst, x_fconst0, x_fconst1, x_fconst2, x_dconst0, x_dconst1, x_null, x_iadd, x_isub, x_imul, x_iand, x_ior, x_idiv, x_irem, x_ineg, x_ishl, x_ishr, x_land, x_ladd, x_lmul, x_lor, x_lushr, x_lshl, x_lcmp, x_i2l, x_l2i, x_i2c, x_i2f, x_f2d, x_d2i, x_d2l, x_fadd, x_fsub, x_fmul, x_fdiv, x_dadd, x_dsub, x_dmul, x_ddiv, x_fcmp, x_dcmp, x_dupI, x_dupR, x_dup2, x_popI, x_popR, ldP_I, ldP_L, ldP_F, ldP_D, ldP_R, ldP_N, x_iload, x_iload_n, x_lload, x_lload_n, x_fload, x_fload_n, x_dload, x_dload_n, x_aload, x_aload_n, x_istore, x_istore_n, x_lstore, x_lstore_n, x_fstore, x_fstore_n, x_dstore, x_dstore_n, x_astore, x_astore_n, x_astoreN, x_astore_nN, x_icmp_eq, x_icmp_ne, x_icmp_lt, x_icmp_ge, x_icmp_gt, x_icmp_le, x_if_eq, x_if_ne, x_if_lt, x_if_ge, x_if_gt, x_if_le, x_ifnull, x_ifnullR, x_ifnn, x_ifnnR, x_aaload2, x_cpI, x_cpF, x_oI, xk_bipush_120, xk_iconst_0, xk_bipush_m6, xk_iconst_1, xk_bipush_80, xk_iconst_4, xk_bipush_6, xk_iconst_2, xk_bipush_40, xk_iconst_3, xk_bipush_10, xk_iconst_5, xk_bipush_m2, xk_bipush_m4, xk_iconst_m1, xk_bipush_m5, xk_bipush_12, xk_bipush_100, xk_bipush_26, xk_bipush_48, xk_sipush_9999, xk_sipush_500, xk_bipush_7, xk_bipush_119, xk_bipush_m126, xk_bipush_127, xk_bipush_23, xk_sipush_m1022, xk_sipush_1023, xk_bipush_52, xg_0_0, xp_0_0, xg_0_1, xp_0_1, xg_0_2, xp_0_2, xg_0_3, xp_0_3, xg_0_4, xp_0_4, xg_0_5, xp_0_5, xg_0_6, xp_0_6, xg_0_7, xp_0_7, xg_0_8, xp_0_8, xg_1_0, xp_1_0, xg_1_1, xp_1_1, xg_1_2, xp_1_2, xg_1_3, xp_1_3, xg_2_0, xp_2_0, xg_2_1, xp_2_1, xg_2_2, xp_2_2, xg_3_0, xp_3_0, xg_3_1, xp_3_1, xg_3_2, xp_3_2, xg_3_3, xp_3_3, xg_3_4, xp_3_4, xg_3_5, xp_3_5, xg_3_6, xp_3_6, xg_3_7, xp_3_7, xg_3_8, xp_3_8, xg_3_9, xp_3_9, xg_3_10, xp_3_10, xg_3_11, xp_3_11, xg_4_0, xp_4_0, xg_4_1, xp_4_1, xg_5_0, xp_5_0, xg_5_1, xp_5_1, xg_6_0, xp_6_0, xg_6_1, xp_6_1, xg_6_2, xp_6_2, xg_6_3, xp_6_3, xg_6_4, xp_6_4, xg_6_5, xp_6_5, fv0, fv1, fv2, fv3, kI_0, kI_1, stL, wipeL, entLn, entL, List.getElem?_cons_zero, List.getElem?_cons_succ, List.getElem?_nil, List.set_cons_zero, List.set_cons_succ, List.set_nil, List.length_cons, List.length_nil, List.cons_append, List.nil_append, List.replicate, Nat.reduceAdd, Nat.reduceLeDiff, Nat.reduceSub, true_and, and_true, x_callS, x_callSN, x_callI, x_callIN, x_callV0, x_callV1, x_callV2, x_callV3, x_callV4, x_callV5, x_callV6, x_callV7, callP, List.take_succ_cons, List.take_zero, List.take_nil, List.drop_succ_cons, List.drop_zero, List.drop_nil, List.getLast?_singleton, List.getLast?_cons_cons, Option.some.injEq, Value.ref.injEq, exists_eq_left, exists_eq_left', Nat.zero_le, Nat.add_zero, ldcV_f, ldcV_fn, ldcV_l, ldcV_d, Nat.reduceMul, Nat.le_refl, List.reverse_cons, List.reverse_nil, Option.toList, List.map_cons, List.map_nil, List.sum_cons, List.sum_nil, Value.category, tblW_n, tblW_c, Int.cast_ofNat_Int, Int.reduceAdd, Int.reduceToNat, ofI_n, rc_X0_isWriter, rs_X0_isWriter, P_X0_isWriter, rc_X0_placesOfWriter, rs_X0_placesOfWriter, P_X0_placesOfWriter]
  obtain ⟨hOD, h1, h2⟩ := h
  have hOD0 := hOD
  obtain ⟨hO, hD⟩ := hOD
  obtain ⟨k1, k2, k3, k4, k5, k6, k7, k8, k9, hd, hh, ho, ht, -⟩ := hO
  have hd0 := hd
  obtain ⟨d0, d1, d2, d3, d4, d5, d6, d7, d8, d9, d10, d11⟩ := hd
  simp only [k1, k2, d0, d1, d2, d3, d4, d5, d6, d7, d8, d9, d10, hd0, hD.1, bI_0, sK_stI, sR_stI, sK_stF, sR_stF, sK_stIA, sR_stIA, sK_stFA, sR_stFA, sI_stI, sI_stF, sI_stIA, sI_stFA, sF_stI, sF_stF, sF_stIA, sF_stFA, Nat.left_eq_add, Nat.add_eq_left, Nat.add_left_cancel_iff, Nat.reduceEqDiff, Nat.reduceEqDiff, Nat.succ_ne_self, false_and, and_false, if_false, if_true, nI_succ_sub, Option.some.injEq, Prod.mk.injEq, exists_eq_left', true_and, and_true, retI, retF, retV, retZ1, retZ0, retL, retA, retN, Nat.reduceAdd, Nat.reduceMul, Nat.reduceLT]
  refine ⟨fun c => ?_, fun c => h1 (fun a => c (fun b => b a))⟩
  have c := Decidable.not_not.mp c
  obtain ⟨wn, hw, rfl⟩ := hD.wr c.1 c.2
  obtain ⟨n, hn, en, -⟩ := hD.2.2.1
  have h2 := h2 wn n c.1 c.2 rfl hw hn en
  have hG' : ∀ p, p < n → GOK ((dV S (x + 1)).g p) := fun p hp => hD.2.2.2.2 p (by rw [en]; exact nI_lt hp (by omega)) (by omega)
  rw [nI_cl (by omega)]
  have hv : vp_in (nI wn) 5 := vp_in_nI hw (by omega)
  refine ⟨⟨fun q => ?_, fun q => ?_, fun q => ?_, fun q => ?_, fun q => ?_, fun q => ?_⟩, fun q => ?_⟩
  · rw [q] at h2; exact ⟨hv, h2⟩
  · rw [q] at h2; exact ⟨hv, n, 1, hn, en, hG', by omega, by omega, q, h2⟩
  · rw [q] at h2; exact ⟨hv, n, 2, hn, en, hG', by omega, by omega, q, h2⟩
  · rw [q] at h2; exact ⟨hv, n, 3, hn, en, hG', by omega, by omega, q, h2⟩
  · rw [q] at h2; exact ⟨hv, h2⟩
  · rw [q] at h2; exact ⟨hv, h2⟩
  · have nn : ∀ j, j < 6 → ¬ q_1 = nI j := fun j hj e => by
      rw [e, nI_toInt (by omega)] at q
      omega
    rw [if_neg (nn 0 (by omega)), if_neg (nn 1 (by omega)), if_neg (nn 2 (by omega)), if_neg (nn 3 (by omega)), if_neg (nn 4 (by omega)), if_neg (nn 5 (by omega))] at h2
    exact h2
def P_X6_ofPlate (as : List Value) (S : SS) (E : Option Value → SS → Prop) : Prop := match as with
  | [.ref x, .int p, .int q] => OwnD S x ∧ (¬ (0 ≤ p ∧ p < (dV S (x + 1)).pl) → E (some (.int (mI 1))) S) ∧ (∀ pn, p = nI pn → pn < 4 → nI pn < (dV S (x + 1)).pl → E (some (.int (if q = nI 4 then (leF ((dV S (x + 1)).g pn).l 119).toInt32 else if q = nI 5 then (suF ((dV S (x + 1)).g pn).l 120).toInt32 else if q = nI 0 ∨ q = nI 1 ∨ q = nI 2 ∨ q = nI 3 then nI (cn (fun k => isV (dV S (x + 1)) ((dV S (x + 1)).g pn) k (wh q)) 120) else mI 2))) S)
  | _ => False
def Γ_X6_ofPlate : List (MI × PT) := [(mi_X0_isPlate, P_X0_isPlate), (mi_X0_placesThat, P_X0_placesThat), (mi_X1_leastLight, P_X1_leastLight), (mi_X6_bitsOfFloat, P_X6_bitsOfFloat), (mi_X1_sumOfLight, P_X1_sumOfLight)]
theorem hΓ_X6_ofPlate (l : Launch) (G : Gx) : ∀ q ∈ Γ_X6_ofPlate, Ct l G q.1 q.2 := List.forall_mem_cons.mpr ⟨ct_X0_isPlate l G, List.forall_mem_cons.mpr ⟨ct_X0_placesThat l G, List.forall_mem_cons.mpr ⟨ct_X1_leastLight l G, List.forall_mem_cons.mpr ⟨ct_X6_bitsOfFloat l G, List.forall_mem_cons.mpr ⟨ct_X1_sumOfLight l G, fun _ h => absurd h List.not_mem_nil⟩⟩⟩⟩⟩
set_option maxHeartbeats 1000000 in
theorem ct_X6_ofPlate (l : Launch) (G : Gx) : Ct l G mi_X6_ofPlate P_X6_ofPlate := by
  refine Ct.ofV mo_X6_ofPlate (fun as S E h => ?_)
  unfold P_X6_ofPlate at h
  split at h
  case h_2 => exact h.elim
  rename_i x p q
  refine ⟨by simp [entL, mL_X6_ofPlate], ?_⟩
  refine wpN_ok (Γ := Γ_X6_ofPlate) (hΓ_X6_ofPlate l G) so_X6_ofPlate 5 _ _ _ _ _ _ ?_
  simp only [mL_X6_ofPlate, mT_X6_ofPlate, rc_X6_ofPlate, rs_X6_ofPlate, Γ_X6_ofPlate, sg_X6_ofPlate_0, sg_X6_ofPlate_13, sg_X6_ofPlate_64, sg_X6_ofPlate_74, sg_X6_ofPlate_82, sg_X6_ofPlate_90, wn_X6_ofPlate_0, wn_X6_ofPlate_13, wn_X6_ofPlate_64, wn_X6_ofPlate_74, wn_X6_ofPlate_82, wn_X6_ofPlate_90, wp_c, ex_c, x_nop, x_goto, x_table, x_iinc, x_ldc, x_ldc2, x_iaload, x_faload, x_baload, x_caload, x_iastore, x_fastore, x_bastore, x_castore, x_aastore, x_alen, x_gets, x_new, x_newa, x_anew, x_invs, x_invi, x_invv, x_ret, x_iret, x_lret, x_fret, x_aret, x_lconst, x_fconst0, x_fconst1, x_fconst2, x_dconst0, x_dconst1, x_null, x_iadd, x_isub, x_imul, x_iand, x_ior, x_idiv, x_irem, x_ineg, x_ishl, x_ishr, x_land, x_ladd, x_lmul, x_lor, x_lushr, x_lshl, x_lcmp, x_i2l, x_l2i, x_i2c, x_i2f, x_f2d, x_d2i, x_d2l, x_fadd, x_fsub, x_fmul, x_fdiv, x_dadd, x_dsub, x_dmul, x_ddiv, x_fcmp, x_dcmp, x_dupI, x_dupR, x_dup2, x_popI, x_popR, ldP_I, ldP_L, ldP_F, ldP_D, ldP_R, ldP_N, x_iload, x_iload_n, x_lload, x_lload_n, x_fload, x_fload_n, x_dload, x_dload_n, x_aload, x_aload_n, x_istore, x_istore_n, x_lstore, x_lstore_n, x_fstore, x_fstore_n, x_dstore, x_dstore_n, x_astore, x_astore_n, x_astoreN, x_astore_nN, x_icmp_eq, x_icmp_ne, x_icmp_lt, x_icmp_ge, x_icmp_gt, x_icmp_le, x_if_eq, x_if_ne, x_if_lt, x_if_ge, x_if_gt, x_if_le, x_ifnull, x_ifnullR, x_ifnn, x_ifnnR, x_aaload2, x_cpI, x_cpF, x_oI, xk_bipush_120, xk_iconst_0, xk_bipush_m6, xk_iconst_1, xk_bipush_80, xk_iconst_4, xk_bipush_6, xk_iconst_2, xk_bipush_40, xk_iconst_3, xk_bipush_10, xk_iconst_5, xk_bipush_m2, xk_bipush_m4, xk_iconst_m1, xk_bipush_m5, xk_bipush_12, xk_bipush_100, xk_bipush_26, xk_bipush_48, xk_sipush_9999, xk_sipush_500, xk_bipush_7, xk_bipush_119, xk_bipush_m126, xk_bipush_127, xk_bipush_23, xk_sipush_m1022, xk_sipush_1023, xk_bipush_52, xg_0_0, xp_0_0, xg_0_1, xp_0_1, xg_0_2, xp_0_2, xg_0_3, xp_0_3, xg_0_4, xp_0_4, xg_0_5, xp_0_5, xg_0_6, xp_0_6, xg_0_7, xp_0_7, xg_0_8, xp_0_8, xg_1_0, xp_1_0, xg_1_1, xp_1_1, xg_1_2, xp_1_2, xg_1_3, xp_1_3, xg_2_0, xp_2_0, xg_2_1, xp_2_1, xg_2_2, xp_2_2, xg_3_0, xp_3_0, xg_3_1, xp_3_1, xg_3_2, xp_3_2, xg_3_3, xp_3_3, xg_3_4, xp_3_4, xg_3_5, xp_3_5, xg_3_6, xp_3_6, xg_3_7, xp_3_7, xg_3_8, xp_3_8, xg_3_9, xp_3_9, xg_3_10, xp_3_10, xg_3_11, xp_3_11, xg_4_0, xp_4_0, xg_4_1, xp_4_1, xg_5_0, xp_5_0, xg_5_1, xp_5_1, xg_6_0, xp_6_0, xg_6_1, xp_6_1, xg_6_2, xp_6_2, xg_6_3, xp_6_3, xg_6_4, xp_6_4, xg_6_5, xp_6_5, fv0, fv1, fv2, fv3, kI_0, kI_1, stL, wipeL, entLn, entL, List.getElem?_cons_zero, List.getElem?_cons_succ, List.getElem?_nil, List.set_cons_zero, List.set_cons_succ, List.set_nil, List.length_cons, List.length_nil, List.cons_append, List.nil_append, List.replicate, Nat.reduceAdd, Nat.reduceLeDiff, Nat.reduceSub, true_and, and_true, x_callS, x_callSN, x_callI, x_callIN, x_callV0, x_callV1, x_callV2, x_callV3, x_callV4, x_callV5, x_callV6, x_callV7, callP, List.take_succ_cons, List.take_zero, List.take_nil, List.drop_succ_cons, List.drop_zero, List.drop_nil, List.getLast?_singleton, List.getLast?_cons_cons, Option.some.injEq, Value.ref.injEq, exists_eq_left, exists_eq_left', Nat.zero_le, Nat.add_zero, ldcV_f, ldcV_fn, ldcV_l, ldcV_d, Nat.reduceMul, Nat.le_refl, List.reverse_cons, List.reverse_nil, Option.toList, List.map_cons, List.map_nil, List.sum_cons, List.sum_nil, Value.category, tblW_n, tblW_c, Int.cast_ofNat_Int, Int.reduceAdd, Int.reduceToNat, ofI_n, rc_X0_isPlate, rs_X0_isPlate, P_X0_isPlate, rc_X0_placesThat, rs_X0_placesThat, P_X0_placesThat, rc_X1_leastLight, rs_X1_leastLight, P_X1_leastLight, rc_X6_bitsOfFloat, rs_X6_bitsOfFloat, P_X6_bitsOfFloat, rc_X1_sumOfLight, rs_X1_sumOfLight, P_X1_sumOfLight]
  obtain ⟨hOD, h1, h2⟩ := h
  have hOD0 := hOD
  obtain ⟨hO, hD⟩ := hOD
  obtain ⟨k1, k2, k3, k4, k5, k6, k7, k8, k9, hd, hh, ho, ht, -⟩ := hO
  have hd0 := hd
  obtain ⟨d0, d1, d2, d3, d4, d5, d6, d7, d8, d9, d10, d11⟩ := hd
  simp only [k1, k2, d0, d1, d2, d3, d4, d5, d6, d7, d8, d9, d10, hd0, hD.1, bI_0, sK_stI, sR_stI, sK_stF, sR_stF, sK_stIA, sR_stIA, sK_stFA, sR_stFA, sI_stI, sI_stF, sI_stIA, sI_stFA, sF_stI, sF_stF, sF_stIA, sF_stFA, Nat.left_eq_add, Nat.add_eq_left, Nat.add_left_cancel_iff, Nat.reduceEqDiff, Nat.reduceEqDiff, Nat.succ_ne_self, false_and, and_false, if_false, if_true, nI_succ_sub, Option.some.injEq, Prod.mk.injEq, exists_eq_left', true_and, and_true, retI, retF, retV, retZ1, retZ0, retL, retA, retN, Nat.reduceAdd, Nat.reduceMul, Nat.reduceLT]
  refine ⟨fun c => ?_, fun c => h1 (fun a => c (fun b => b a))⟩
  have c := Decidable.not_not.mp c
  obtain ⟨pn, hp, rfl⟩ := hD.plt c.1 c.2
  have h2 := h2 pn rfl hp c.2
  have hG := hD.2.2.2.2 pn c.2 hp
  obtain ⟨s1, s2⟩ := d11 pn hp
  rw [nI_cl (by omega)]
  have hpg : PreG S (x + 1) (x + 1 + 6 + 5 * pn) := ⟨hd0, hD.1, s2, hG⟩
  refine ⟨vp_in_nI hp (by omega), _, s1, ⟨fun e => ?_, fun e => ?_, fun e => ?_, fun e => ?_, fun e => ?_, fun e => ?_⟩, fun e => ?_⟩
  · rw [e] at h2 ⊢; exact ⟨hpg, h2⟩
  · rw [e] at h2 ⊢; exact ⟨hpg, h2⟩
  · rw [e] at h2 ⊢; exact ⟨hpg, h2⟩
  · rw [e] at h2 ⊢; exact ⟨hpg, h2⟩
  · rw [e] at h2
    exact ⟨s2.1, s2, bfOK_L (okL_leF (fun k hk => (hG k hk).1) 119 (Nat.le_refl _)), h2⟩
  · rw [e] at h2
    exact ⟨s2.1, s2, fun j hj => (hG j hj).1, bf_su (fun k hk => (hG k hk).1), h2⟩
  · have nn : ∀ j, j < 6 → ¬ q = nI j := fun j hj e' => by
      rw [e', nI_toInt (by omega)] at e
      omega
    rw [if_neg (nn 4 (by omega)), if_neg (nn 5 (by omega)), if_neg (fun a => a.elim (nn 0 (by omega)) (fun a => a.elim (nn 1 (by omega)) (fun a => a.elim (nn 2 (by omega)) (nn 3 (by omega)))))] at h2
    exact h2
