-- needs: 18.nums 19.proj 20.spec 21.shape 22.leaf 23.fl 23.view 24.loops
/-! near places -/
theorem dist_le {k j : Nat} (h : dist k j ≤ 2) : j / 12 ≤ k / 12 + 2 ∧ k / 12 ≤ j / 12 + 2 ∧ j % 12 ≤ k % 12 + 2 ∧ k % 12 ≤ j % 12 + 2 := by
  unfold dist adiff at h
  split at h <;> split at h <;> omega
theorem dist_lt {k j : Nat} (hk : k < 120) (hj : j < 120) : dist k j < 100 := by
  unfold dist adiff
  split <;> split <;> omega
theorem okL_dimV {D : DV} {w t : Nat} {x : UInt32} (hs : StV D) (hx : okL x) (hw : w < 5) : okL (dimV D x w t) := by
  have h1 := hs.1
  obtain ⟨⟨a, ha, ea⟩, ⟨b, hb, eb⟩, -, -, hp⟩ := hs
  obtain ⟨q, hq, eq⟩ := hp w hw
  have m1 := Nat.mul_le_mul ha hq
  have m2 := Nat.mul_le_mul hb hq
  unfold dimV dmF
  split
  · rw [ea, eq, pk_mul, pk_sub (by omega)]
    exact (fl_dm hx (by omega) (by omega)).2.2
  · split
    · rw [eb, eq, pk_mul, pk_sub (by omega)]
      exact (fl_dm hx (by omega) (by omega)).2.2
    · exact hx
theorem aheadV_s (D : DV) (G : GV) (x : UInt32) (k n : Nat) : aheadV D G x k (n + 1) = if G.p n = mI 6 then aheadV D G x k n else dimV D (aheadV D G x k n) (G.p n).toNatClampNeg (dist k n) := rfl
theorem aheadV_skip {D : DV} {G : GV} {x : UInt32} {k m n : Nat} (hmn : m ≤ n) (h : ∀ j, m ≤ j → j < n → 2 < dist k j) : aheadV D G x k n = aheadV D G x k m :=
  fo_skip hmn (fun j h1 h2 x => by
    have := h j h1 h2
    split
    · rfl
    · exact dimV_far (by omega))
theorem okL_aheadV {D : DV} {G : GV} {x : UInt32} {k : Nat} (hs : StV D) (hG : GOK G) (hx : okL x) : ∀ n, n ≤ 120 → okL (aheadV D G x k n)
  | 0, _ => hx
  | n + 1, h => by
    rw [aheadV_s]
    have ih := okL_aheadV hs hG hx n (by omega) (k := k)
    split
    · exact ih
    · obtain ⟨-, -, c | ⟨b, hb, eb⟩⟩ := hG n (by omega)
      · exact absurd c (by assumption)
      · rw [eb, nI_cl (by omega)]
        exact okL_dimV hs ih hb
def P_X0_lightAhead (as : List Value) (S : SS) (E : Option Value → SS → Prop) : Prop := match as with
  | [.ref d, .ref g, .int k] => DeskAt S d ∧ StV (dV S d) ∧ GlassAt S g ∧ GOK (gV S g) ∧ vp_in k 120 ∧ E (some (.float (aheadV (dV S d) (gV S g) ((gV S g).l k.toNatClampNeg) k.toNatClampNeg 120))) S
  | _ => False
def Γ_X0_lightAhead : List (MI × PT) := [(mi_X6_firstNear, P_X6_firstNear), (mi_X6_lastNear, P_X6_lastNear), (mi_X0_distance, P_X0_distance), (mi_X0_dimmed, P_X0_dimmed)]
theorem hΓ_X0_lightAhead (l : Launch) (G : Gx) : ∀ q ∈ Γ_X0_lightAhead, Ct l G q.1 q.2 := List.forall_mem_cons.mpr ⟨ct_X6_firstNear l G, List.forall_mem_cons.mpr ⟨ct_X6_lastNear l G, List.forall_mem_cons.mpr ⟨ct_X0_distance l G, List.forall_mem_cons.mpr ⟨ct_X0_dimmed l G, fun _ h => absurd h List.not_mem_nil⟩⟩⟩⟩
set_option maxHeartbeats 1000000 in
theorem lp2_X0_lightAhead (l : Launch) (G : Gx) {S : SS} {d g k r : Nat} {E : Option Value → SS → Prop} (hd : DeskAt S d) (hs : StV (dV S d)) (hg : GlassAt S g) (hG : GOK (gV S g)) (hk : k < 120) (hr : r < 10) (x : UInt32) (hx : okL x)
    (h : ∀ x7 x8, V l G mi_X0_lightAhead E 25 [some (.ref d), some (.ref g), some (.int (nI k)), some (.int (nI (k / 12))), some (.int (nI (k % 12))), some (.float (aheadV (dV S d) (gV S g) x k ((r + 1) * 12))), some (.int (nI (r + 1))), x7, x8] [] S 0 0) :
    ∀ c, c ≤ min (k % 12 + 2) 11 + 1 → ∀ x8, V l G mi_X0_lightAhead E 43 [some (.ref d), some (.ref g), some (.int (nI k)), some (.int (nI (k / 12))), some (.int (nI (k % 12))), some (.float (aheadV (dV S d) (gV S g) x k (r * 12 + c))), some (.int (nI r)), some (.int (nI c)), x8] [] S 0 0 := by
  refine loopUp _ fun c hc ih x8 => ?_
  refine (V.segN (Γ := Γ_X0_lightAhead) (hΓ_X0_lightAhead l G) so_X0_lightAhead 4 (sg := sg_X0_lightAhead_43) so_X0_lightAhead_43 ?_ : V l G mi_X0_lightAhead _ (segPc sg_X0_lightAhead_43) _ _ _ _ _)
  simp only [mL_X0_lightAhead, mT_X0_lightAhead, rc_X0_lightAhead, rs_X0_lightAhead, Γ_X0_lightAhead, sg_X0_lightAhead_0, sg_X0_lightAhead_25, sg_X0_lightAhead_43, sg_X0_lightAhead_98, sg_X0_lightAhead_104, sg_X0_lightAhead_110, wn_X0_lightAhead_0, wn_X0_lightAhead_25, wn_X0_lightAhead_43, wn_X0_lightAhead_98, wn_X0_lightAhead_104, wn_X0_lightAhead_110, wp_c, ex_c, x_nop, x_goto, x_table, x_iinc, x_ldc, x_ldc2, x_iaload, x_faload, x_baload, x_caload, x_iastore, x_fastore, x_bastore, x_castore, x_aastore, x_alen, x_gets, x_new, x_newa, x_anew, x_invs, x_invi, x_invv, x_ret, x_iret, x_lret, x_fret, x_aret, x_lconst, x_fconst0, x_fconst1, x_fconst2, x_dconst0, x_dconst1, x_null, x_iadd, x_isub, x_imul, x_iand, x_ior, x_idiv, x_irem, x_ineg, x_ishl, x_ishr, x_land, x_ladd, x_lmul, x_lor, x_lushr, x_lshl, x_lcmp, x_i2l, x_l2i, x_i2c, x_i2f, x_f2d, x_d2i, x_d2l, x_fadd, x_fsub, x_fmul, x_fdiv, x_dadd, x_dsub, x_dmul, x_ddiv, x_fcmp, x_dcmp, x_dupI, x_dupR, x_dup2, x_popI, x_popR, ldP_I, ldP_L, ldP_F, ldP_D, ldP_R, ldP_N, x_iload, x_iload_n, x_lload, x_lload_n, x_fload, x_fload_n, x_dload, x_dload_n, x_aload, x_aload_n, x_istore, x_istore_n, x_lstore, x_lstore_n, x_fstore, x_fstore_n, x_dstore, x_dstore_n, x_astore, x_astore_n, x_astoreN, x_astore_nN, x_icmp_eq, x_icmp_ne, x_icmp_lt, x_icmp_ge, x_icmp_gt, x_icmp_le, x_if_eq, x_if_ne, x_if_lt, x_if_ge, x_if_gt, x_if_le, x_ifnull, x_ifnullR, x_ifnn, x_ifnnR, x_aaload2, x_cpI, x_cpF, x_oI, xk_bipush_120, xk_iconst_0, xk_bipush_m6, xk_iconst_1, xk_bipush_80, xk_iconst_4, xk_bipush_6, xk_iconst_2, xk_bipush_40, xk_iconst_3, xk_bipush_10, xk_iconst_5, xk_bipush_m2, xk_bipush_m4, xk_iconst_m1, xk_bipush_m5, xk_bipush_12, xk_bipush_100, xk_bipush_26, xk_bipush_48, xk_sipush_9999, xk_sipush_500, xk_bipush_7, xk_bipush_119, xk_bipush_m126, xk_bipush_127, xk_bipush_23, xk_sipush_m1022, xk_sipush_1023, xk_bipush_52, xg_0_0, xp_0_0, xg_0_1, xp_0_1, xg_0_2, xp_0_2, xg_0_3, xp_0_3, xg_0_4, xp_0_4, xg_0_5, xp_0_5, xg_0_6, xp_0_6, xg_0_7, xp_0_7, xg_0_8, xp_0_8, xg_1_0, xp_1_0, xg_1_1, xp_1_1, xg_1_2, xp_1_2, xg_1_3, xp_1_3, xg_2_0, xp_2_0, xg_2_1, xp_2_1, xg_2_2, xp_2_2, xg_3_0, xp_3_0, xg_3_1, xp_3_1, xg_3_2, xp_3_2, xg_3_3, xp_3_3, xg_3_4, xp_3_4, xg_3_5, xp_3_5, xg_3_6, xp_3_6, xg_3_7, xp_3_7, xg_3_8, xp_3_8, xg_3_9, xp_3_9, xg_3_10, xp_3_10, xg_3_11, xp_3_11, xg_4_0, xp_4_0, xg_4_1, xp_4_1, xg_5_0, xp_5_0, xg_5_1, xp_5_1, xg_6_0, xp_6_0, xg_6_1, xp_6_1, xg_6_2, xp_6_2, xg_6_3, xp_6_3, xg_6_4, xp_6_4, xg_6_5, xp_6_5, fv0, fv1, fv2, fv3, kI_0, kI_1, stL, wipeL, entLn, entL, List.getElem?_cons_zero, List.getElem?_cons_succ, List.getElem?_nil, List.set_cons_zero, List.set_cons_succ, List.set_nil, List.length_cons, List.length_nil, List.cons_append, List.nil_append, List.replicate, Nat.reduceAdd, Nat.reduceLeDiff, Nat.reduceSub, true_and, and_true, x_callS, x_callSN, x_callI, x_callIN, x_callV0, x_callV1, x_callV2, x_callV3, x_callV4, x_callV5, x_callV6, x_callV7, callP, List.take_succ_cons, List.take_zero, List.take_nil, List.drop_succ_cons, List.drop_zero, List.drop_nil, List.getLast?_singleton, List.getLast?_cons_cons, Option.some.injEq, Value.ref.injEq, exists_eq_left, exists_eq_left', Nat.zero_le, Nat.add_zero, ldcV_f, ldcV_fn, ldcV_l, ldcV_d, Nat.reduceMul, Nat.le_refl, List.reverse_cons, List.reverse_nil, Option.toList, List.map_cons, List.map_nil, List.sum_cons, List.sum_nil, Value.category, tblW_n, tblW_c, Int.cast_ofNat_Int, Int.reduceAdd, Int.reduceToNat, ofI_n, rc_X6_firstNear, rs_X6_firstNear, P_X6_firstNear, rc_X6_lastNear, rs_X6_lastNear, P_X6_lastNear, rc_X0_distance, rs_X0_distance, P_X0_distance, rc_X0_dimmed, rs_X0_dimmed, P_X0_dimmed]
  have hg0 := hg
  obtain ⟨g0, g1, g2, g3, g4, g5, g6, g7, g8⟩ := hg
  simp only [hd.1, hd, hs.set, g0, g1, g2, g3, g4, g5, g6, g7, g8, sK_stI, sR_stI, sK_stF, sR_stF, sK_stIA, sR_stIA, sK_stFA, sR_stFA, sI_stI, sI_stF, sI_stIA, sI_stFA, sF_stI, sF_stF, sF_stIA, sF_stFA, Nat.left_eq_add, Nat.add_eq_left, Nat.add_left_cancel_iff, Nat.reduceEqDiff, Nat.reduceEqDiff, Nat.succ_ne_self, false_and, and_false, if_false, if_true, nI_succ_sub, Option.some.injEq, Prod.mk.injEq, exists_eq_left', true_and, and_true, retI, retF, retV, retZ1, retZ0, retL, retA, retN, Nat.reduceAdd, Nat.reduceMul, Nat.reduceLT]
  simp (disch := omega) only [nlt0, nge0, neq0, ngt0, nle0, nI_ltI, nI_leI, nI_eq, nI_cl, in_nI, false_implies, true_implies, not_false_eq_true, not_true_eq_false, and_true, true_and, nI_add, pk_mul, implies_true, not_lt0, Nat.add_one_sub_one]
  refine ⟨by omega, by omega, by omega, fun q => ?_, fun q => ?_⟩
  · have e : aheadV (dV S d) (gV S g) x k ((r + 1) * 12) = aheadV (dV S d) (gV S g) x k (r * 12 + c) := aheadV_skip (by omega) fun j h1 h2 => by
      apply Nat.lt_of_not_le
      intro h3
      have := dist_le h3
      omega
    rw [← e]
    exact h _ _
  · have ih := ih (by omega)
    rw [← Nat.add_assoc, aheadV_s] at ih
    have hd3 := dist_lt hk (show r * 12 + c < 120 by omega)
    refine ⟨by omega, fun q2 => ?_, fun q2 => ⟨by omega, hk, by omega, okL_aheadV hs hG hx _ (by omega), ?_, vp_in_nI hd3 (by omega), ?_⟩⟩
    · rw [if_pos (show (gV S g).p (r * 12 + c) = mI 6 from q2)] at ih
      exact ih _
    · obtain ⟨-, -, c | ⟨b, hb, eb⟩⟩ := hG (r * 12 + c) (by omega)
      · exact absurd c q2
      · rw [show sI S (g + 4) (r * 12 + c) = nI b from eb]
        exact vp_in_nI hb (by omega)
    · rw [if_neg (show ¬ (gV S g).p (r * 12 + c) = mI 6 from q2)] at ih
      rw [nI_cl (by omega), dimD_dimV]
      exact ih _
set_option maxHeartbeats 1000000 in
theorem lp_X0_lightAhead (l : Launch) (G : Gx) {S : SS} {d g k : Nat} {E : Option Value → SS → Prop} (hd : DeskAt S d) (hs : StV (dV S d)) (hg : GlassAt S g) (hG : GOK (gV S g)) (hk : k < 120) (x : UInt32) (hx : okL x)
    (h : E (some (.float (aheadV (dV S d) (gV S g) x k 120))) S) :
    ∀ r, r ≤ min (k / 12 + 2) 9 + 1 → ∀ x7 x8, V l G mi_X0_lightAhead E 25 [some (.ref d), some (.ref g), some (.int (nI k)), some (.int (nI (k / 12))), some (.int (nI (k % 12))), some (.float (aheadV (dV S d) (gV S g) x k (r * 12))), some (.int (nI r)), x7, x8] [] S 0 0 := by
  refine loopUp _ fun r hr ih x7 x8 => ?_
  refine (V.segN (Γ := Γ_X0_lightAhead) (hΓ_X0_lightAhead l G) so_X0_lightAhead 4 (sg := sg_X0_lightAhead_25) so_X0_lightAhead_25 ?_ : V l G mi_X0_lightAhead _ (segPc sg_X0_lightAhead_25) _ _ _ _ _)
  simp only [mL_X0_lightAhead, mT_X0_lightAhead, rc_X0_lightAhead, rs_X0_lightAhead, Γ_X0_lightAhead, sg_X0_lightAhead_0, sg_X0_lightAhead_25, sg_X0_lightAhead_43, sg_X0_lightAhead_98, sg_X0_lightAhead_104, sg_X0_lightAhead_110, wn_X0_lightAhead_0, wn_X0_lightAhead_25, wn_X0_lightAhead_43, wn_X0_lightAhead_98, wn_X0_lightAhead_104, wn_X0_lightAhead_110, wp_c, ex_c, x_nop, x_goto, x_table, x_iinc, x_ldc, x_ldc2, x_iaload, x_faload, x_baload, x_caload, x_iastore, x_fastore, x_bastore, x_castore, x_aastore, x_alen, x_gets, x_new, x_newa, x_anew, x_invs, x_invi, x_invv, x_ret, x_iret, x_lret, x_fret, x_aret, x_lconst, x_fconst0, x_fconst1, x_fconst2, x_dconst0, x_dconst1, x_null, x_iadd, x_isub, x_imul, x_iand, x_ior, x_idiv, x_irem, x_ineg, x_ishl, x_ishr, x_land, x_ladd, x_lmul, x_lor, x_lushr, x_lshl, x_lcmp, x_i2l, x_l2i, x_i2c, x_i2f, x_f2d, x_d2i, x_d2l, x_fadd, x_fsub, x_fmul, x_fdiv, x_dadd, x_dsub, x_dmul, x_ddiv, x_fcmp, x_dcmp, x_dupI, x_dupR, x_dup2, x_popI, x_popR, ldP_I, ldP_L, ldP_F, ldP_D, ldP_R, ldP_N, x_iload, x_iload_n, x_lload, x_lload_n, x_fload, x_fload_n, x_dload, x_dload_n, x_aload, x_aload_n, x_istore, x_istore_n, x_lstore, x_lstore_n, x_fstore, x_fstore_n, x_dstore, x_dstore_n, x_astore, x_astore_n, x_astoreN, x_astore_nN, x_icmp_eq, x_icmp_ne, x_icmp_lt, x_icmp_ge, x_icmp_gt, x_icmp_le, x_if_eq, x_if_ne, x_if_lt, x_if_ge, x_if_gt, x_if_le, x_ifnull, x_ifnullR, x_ifnn, x_ifnnR, x_aaload2, x_cpI, x_cpF, x_oI, xk_bipush_120, xk_iconst_0, xk_bipush_m6, xk_iconst_1, xk_bipush_80, xk_iconst_4, xk_bipush_6, xk_iconst_2, xk_bipush_40, xk_iconst_3, xk_bipush_10, xk_iconst_5, xk_bipush_m2, xk_bipush_m4, xk_iconst_m1, xk_bipush_m5, xk_bipush_12, xk_bipush_100, xk_bipush_26, xk_bipush_48, xk_sipush_9999, xk_sipush_500, xk_bipush_7, xk_bipush_119, xk_bipush_m126, xk_bipush_127, xk_bipush_23, xk_sipush_m1022, xk_sipush_1023, xk_bipush_52, xg_0_0, xp_0_0, xg_0_1, xp_0_1, xg_0_2, xp_0_2, xg_0_3, xp_0_3, xg_0_4, xp_0_4, xg_0_5, xp_0_5, xg_0_6, xp_0_6, xg_0_7, xp_0_7, xg_0_8, xp_0_8, xg_1_0, xp_1_0, xg_1_1, xp_1_1, xg_1_2, xp_1_2, xg_1_3, xp_1_3, xg_2_0, xp_2_0, xg_2_1, xp_2_1, xg_2_2, xp_2_2, xg_3_0, xp_3_0, xg_3_1, xp_3_1, xg_3_2, xp_3_2, xg_3_3, xp_3_3, xg_3_4, xp_3_4, xg_3_5, xp_3_5, xg_3_6, xp_3_6, xg_3_7, xp_3_7, xg_3_8, xp_3_8, xg_3_9, xp_3_9, xg_3_10, xp_3_10, xg_3_11, xp_3_11, xg_4_0, xp_4_0, xg_4_1, xp_4_1, xg_5_0, xp_5_0, xg_5_1, xp_5_1, xg_6_0, xp_6_0, xg_6_1, xp_6_1, xg_6_2, xp_6_2, xg_6_3, xp_6_3, xg_6_4, xp_6_4, xg_6_5, xp_6_5, fv0, fv1, fv2, fv3, kI_0, kI_1, stL, wipeL, entLn, entL, List.getElem?_cons_zero, List.getElem?_cons_succ, List.getElem?_nil, List.set_cons_zero, List.set_cons_succ, List.set_nil, List.length_cons, List.length_nil, List.cons_append, List.nil_append, List.replicate, Nat.reduceAdd, Nat.reduceLeDiff, Nat.reduceSub, true_and, and_true, x_callS, x_callSN, x_callI, x_callIN, x_callV0, x_callV1, x_callV2, x_callV3, x_callV4, x_callV5, x_callV6, x_callV7, callP, List.take_succ_cons, List.take_zero, List.take_nil, List.drop_succ_cons, List.drop_zero, List.drop_nil, List.getLast?_singleton, List.getLast?_cons_cons, Option.some.injEq, Value.ref.injEq, exists_eq_left, exists_eq_left', Nat.zero_le, Nat.add_zero, ldcV_f, ldcV_fn, ldcV_l, ldcV_d, Nat.reduceMul, Nat.le_refl, List.reverse_cons, List.reverse_nil, Option.toList, List.map_cons, List.map_nil, List.sum_cons, List.sum_nil, Value.category, tblW_n, tblW_c, Int.cast_ofNat_Int, Int.reduceAdd, Int.reduceToNat, ofI_n, rc_X6_firstNear, rs_X6_firstNear, P_X6_firstNear, rc_X6_lastNear, rs_X6_lastNear, P_X6_lastNear, rc_X0_distance, rs_X0_distance, P_X0_distance, rc_X0_dimmed, rs_X0_dimmed, P_X0_dimmed]
  simp only [sK_stI, sR_stI, sK_stF, sR_stF, sK_stIA, sR_stIA, sK_stFA, sR_stFA, sI_stI, sI_stF, sI_stIA, sI_stFA, sF_stI, sF_stF, sF_stIA, sF_stFA, Nat.left_eq_add, Nat.add_eq_left, Nat.add_left_cancel_iff, Nat.reduceEqDiff, Nat.reduceEqDiff, Nat.succ_ne_self, false_and, and_false, if_false, if_true, nI_succ_sub, Option.some.injEq, Prod.mk.injEq, exists_eq_left', true_and, and_true, retI, retF, retV, retZ1, retZ0, retL, retA, retN, Nat.reduceAdd, Nat.reduceMul, Nat.reduceLT]
  simp (disch := omega) only [nlt0, nge0, neq0, ngt0, nle0, nI_ltI, nI_leI, nI_eq, nI_cl, in_nI, false_implies, true_implies, not_false_eq_true, not_true_eq_false, and_true, true_and, nI_add, pk_mul, implies_true, not_lt0, Nat.add_one_sub_one]
  refine ⟨by omega, by omega, by omega, fun q => ?_, fun q => ⟨by omega, ?_⟩⟩
  · have e : aheadV (dV S d) (gV S g) x k 120 = aheadV (dV S d) (gV S g) x k (r * 12) := aheadV_skip (by omega) fun j h1 h2 => by
      apply Nat.lt_of_not_le
      intro h3
      have := dist_le h3
      omega
    rw [← e]
    exact h
  · have e : aheadV (dV S d) (gV S g) x k (r * 12 + (k % 12 - 2)) = aheadV (dV S d) (gV S g) x k (r * 12) := aheadV_skip (by omega) fun j h1 h2 => by
      apply Nat.lt_of_not_le
      intro h3
      have := dist_le h3
      omega
    rw [← e]
    exact lp2_X0_lightAhead l G hd hs hg hG hk (by omega) x hx (fun x7 x8 => ih (by omega) x7 x8) _ (by omega) _
set_option maxHeartbeats 1000000 in
theorem ct_X0_lightAhead (l : Launch) (G : Gx) : Ct l G mi_X0_lightAhead P_X0_lightAhead := by
  refine Ct.ofV mo_X0_lightAhead (fun as S E h => ?_)
  unfold P_X0_lightAhead at h
  split at h
  case h_2 => exact h.elim
  rename_i d g k
  refine ⟨by simp [entL, mL_X0_lightAhead], ?_⟩
  refine wpN_ok (Γ := Γ_X0_lightAhead) (hΓ_X0_lightAhead l G) so_X0_lightAhead 4 _ _ _ _ _ _ ?_
  simp only [mL_X0_lightAhead, mT_X0_lightAhead, rc_X0_lightAhead, rs_X0_lightAhead, Γ_X0_lightAhead, sg_X0_lightAhead_0, sg_X0_lightAhead_25, sg_X0_lightAhead_43, sg_X0_lightAhead_98, sg_X0_lightAhead_104, sg_X0_lightAhead_110, wn_X0_lightAhead_0, wn_X0_lightAhead_25, wn_X0_lightAhead_43, wn_X0_lightAhead_98, wn_X0_lightAhead_104, wn_X0_lightAhead_110, wp_c, ex_c, x_nop, x_goto, x_table, x_iinc, x_ldc, x_ldc2, x_iaload, x_faload, x_baload, x_caload, x_iastore, x_fastore, x_bastore, x_castore, x_aastore, x_alen, x_gets, x_new, x_newa, x_anew, x_invs, x_invi, x_invv, x_ret, x_iret, x_lret, x_fret, x_aret, x_lconst, x_fconst0, x_fconst1, x_fconst2, x_dconst0, x_dconst1, x_null, x_iadd, x_isub, x_imul, x_iand, x_ior, x_idiv, x_irem, x_ineg, x_ishl, x_ishr, x_land, x_ladd, x_lmul, x_lor, x_lushr, x_lshl, x_lcmp, x_i2l, x_l2i, x_i2c, x_i2f, x_f2d, x_d2i, x_d2l, x_fadd, x_fsub, x_fmul, x_fdiv, x_dadd, x_dsub, x_dmul, x_ddiv, x_fcmp, x_dcmp, x_dupI, x_dupR, x_dup2, x_popI, x_popR, ldP_I, ldP_L, ldP_F, ldP_D, ldP_R, ldP_N, x_iload, x_iload_n, x_lload, x_lload_n, x_fload, x_fload_n, x_dload, x_dload_n, x_aload, x_aload_n, x_istore, x_istore_n, x_lstore, x_lstore_n, x_fstore, x_fstore_n, x_dstore, x_dstore_n, x_astore, x_astore_n, x_astoreN, x_astore_nN, x_icmp_eq, x_icmp_ne, x_icmp_lt, x_icmp_ge, x_icmp_gt, x_icmp_le, x_if_eq, x_if_ne, x_if_lt, x_if_ge, x_if_gt, x_if_le, x_ifnull, x_ifnullR, x_ifnn, x_ifnnR, x_aaload2, x_cpI, x_cpF, x_oI, xk_bipush_120, xk_iconst_0, xk_bipush_m6, xk_iconst_1, xk_bipush_80, xk_iconst_4, xk_bipush_6, xk_iconst_2, xk_bipush_40, xk_iconst_3, xk_bipush_10, xk_iconst_5, xk_bipush_m2, xk_bipush_m4, xk_iconst_m1, xk_bipush_m5, xk_bipush_12, xk_bipush_100, xk_bipush_26, xk_bipush_48, xk_sipush_9999, xk_sipush_500, xk_bipush_7, xk_bipush_119, xk_bipush_m126, xk_bipush_127, xk_bipush_23, xk_sipush_m1022, xk_sipush_1023, xk_bipush_52, xg_0_0, xp_0_0, xg_0_1, xp_0_1, xg_0_2, xp_0_2, xg_0_3, xp_0_3, xg_0_4, xp_0_4, xg_0_5, xp_0_5, xg_0_6, xp_0_6, xg_0_7, xp_0_7, xg_0_8, xp_0_8, xg_1_0, xp_1_0, xg_1_1, xp_1_1, xg_1_2, xp_1_2, xg_1_3, xp_1_3, xg_2_0, xp_2_0, xg_2_1, xp_2_1, xg_2_2, xp_2_2, xg_3_0, xp_3_0, xg_3_1, xp_3_1, xg_3_2, xp_3_2, xg_3_3, xp_3_3, xg_3_4, xp_3_4, xg_3_5, xp_3_5, xg_3_6, xp_3_6, xg_3_7, xp_3_7, xg_3_8, xp_3_8, xg_3_9, xp_3_9, xg_3_10, xp_3_10, xg_3_11, xp_3_11, xg_4_0, xp_4_0, xg_4_1, xp_4_1, xg_5_0, xp_5_0, xg_5_1, xp_5_1, xg_6_0, xp_6_0, xg_6_1, xp_6_1, xg_6_2, xp_6_2, xg_6_3, xp_6_3, xg_6_4, xp_6_4, xg_6_5, xp_6_5, fv0, fv1, fv2, fv3, kI_0, kI_1, stL, wipeL, entLn, entL, List.getElem?_cons_zero, List.getElem?_cons_succ, List.getElem?_nil, List.set_cons_zero, List.set_cons_succ, List.set_nil, List.length_cons, List.length_nil, List.cons_append, List.nil_append, List.replicate, Nat.reduceAdd, Nat.reduceLeDiff, Nat.reduceSub, true_and, and_true, x_callS, x_callSN, x_callI, x_callIN, x_callV0, x_callV1, x_callV2, x_callV3, x_callV4, x_callV5, x_callV6, x_callV7, callP, List.take_succ_cons, List.take_zero, List.take_nil, List.drop_succ_cons, List.drop_zero, List.drop_nil, List.getLast?_singleton, List.getLast?_cons_cons, Option.some.injEq, Value.ref.injEq, exists_eq_left, exists_eq_left', Nat.zero_le, Nat.add_zero, ldcV_f, ldcV_fn, ldcV_l, ldcV_d, Nat.reduceMul, Nat.le_refl, List.reverse_cons, List.reverse_nil, Option.toList, List.map_cons, List.map_nil, List.sum_cons, List.sum_nil, Value.category, tblW_n, tblW_c, Int.cast_ofNat_Int, Int.reduceAdd, Int.reduceToNat, ofI_n, rc_X6_firstNear, rs_X6_firstNear, P_X6_firstNear, rc_X6_lastNear, rs_X6_lastNear, P_X6_lastNear, rc_X0_distance, rs_X0_distance, P_X0_distance, rc_X0_dimmed, rs_X0_dimmed, P_X0_dimmed]
  obtain ⟨hd, hs, hg, hG, hk0, h⟩ := h
  obtain ⟨k, hk, rfl⟩ := vp_in_of hk0 (by decide)
  rw [nI_cl (by omega)] at h
  have hg0 := hg
  obtain ⟨g0, g1, g2, g3, g4, g5, g6, g7, g8⟩ := hg
  have h12 : ¬ nI 12 = 0 := by decide
  have e1 : nI k / nI 12 = nI (k / 12) := pk_div (by omega) (by omega) (by omega)
  have e2 : nI k - nI (k / 12) * nI 12 = nI (k % 12) := by rw [← e1]; exact pk_rem (by omega) (by omega) (by omega)
  simp only [h12, hd.1, hd, hs.set, g0, g1, g2, g3, g4, g5, g6, g7, g8, e1, e2, sK_stI, sR_stI, sK_stF, sR_stF, sK_stIA, sR_stIA, sK_stFA, sR_stFA, sI_stI, sI_stF, sI_stIA, sI_stFA, sF_stI, sF_stF, sF_stIA, sF_stFA, Nat.left_eq_add, Nat.add_eq_left, Nat.add_left_cancel_iff, Nat.reduceEqDiff, Nat.reduceEqDiff, Nat.succ_ne_self, false_and, and_false, if_false, if_true, nI_succ_sub, Option.some.injEq, Prod.mk.injEq, exists_eq_left', true_and, and_true, retI, retF, retV, retZ1, retZ0, retL, retA, retN, Nat.reduceAdd, Nat.reduceMul, Nat.reduceLT]
  simp (disch := omega) only [nlt0, nge0, neq0, ngt0, nle0, nI_ltI, nI_leI, nI_eq, nI_cl, in_nI, false_implies, true_implies, not_false_eq_true, not_true_eq_false, and_true, true_and, nI_add, pk_mul, implies_true, not_lt0, Nat.add_one_sub_one]
  refine ⟨by omega, by omega, ?_⟩
  have e : aheadV (dV S d) (gV S g) ((gV S g).l k) k ((k / 12 - 2) * 12) = (gV S g).l k := aheadV_skip (m := 0) (by omega) fun j h1 h2 => by
    apply Nat.lt_of_not_le
    intro h3
    have := dist_le h3
    omega
  have e3 := lp_X0_lightAhead l G hd hs hg0 hG hk ((gV S g).l k) (hG k hk).1 h (k / 12 - 2) (by omega) none none
  rw [e] at e3
  exact e3
theorem dimD_stFA (S : SS) (a : Nat) (f : Nat → UInt32) (d : Nat) (x : UInt32) (w t : Nat) : dimD (stFA S a f) d x w t = dimV (dV S d) x w t := rfl
/-- the light while a letter's rings are clouded, place by place -/
def mkF (D : DV) (G : GV) (w k m : Nat) : Nat → UInt32 := fun j => if j < m then dimV D (G.l j) w (dist k j) else G.l j
theorem mkF_skip {D : DV} {G : GV} {w k m n : Nat} (hmn : m ≤ n) (h : ∀ j, m ≤ j → j < n → 2 < dist k j) : mkF D G w k n = mkF D G w k m := by
  funext j
  unfold mkF
  by_cases h1 : j < m
  · rw [if_pos h1, if_pos (by omega)]
  · by_cases h2 : j < n
    · rw [if_neg h1, if_pos h2, dimV_far (Or.inr (h j (by omega) h2))]
    · rw [if_neg h1, if_neg h2]
theorem lostV_skip {D : DV} {G : GV} {w k m n : Nat} (hmn : m ≤ n) (h : ∀ j, m ≤ j → j < n → 2 < dist k j) : lostV D G w k n = lostV D G w k m :=
  cn_skip hmn (fun j h1 h2 => by
    rw [dimV_far (Or.inr (h j h1 h2))]
    unfold rdV
    cases enV D (G.l j) <;> simp)
theorem lostV_s (D : DV) (G : GV) (w k n : Nat) : lostV D G w k (n + 1) = if rdV D G n && !enV D (dimV D (G.l n) w (dist k n)) then lostV D G w k n + 1 else lostV D G w k n := rfl
theorem lostV_le (D : DV) (G : GV) (w k n : Nat) : lostV D G w k n ≤ n := cn_le _ n
theorem mkF_s (D : DV) (G : GV) (w k m : Nat) : (fun j => if j = m then dimV D (G.l m) w (dist k m) else mkF D G w k m j) = mkF D G w k (m + 1) := by
  funext j
  unfold mkF
  by_cases h : j = m
  · rw [if_pos h, if_pos (by omega), h]
  · by_cases h2 : j < m
    · rw [if_neg h, if_pos h2, if_pos (by omega)]
    · rw [if_neg h, if_neg h2, if_neg (by omega)]
def P_X0_mark (as : List Value) (S : SS) (E : Option Value → SS → Prop) : Prop := match as with
  | [.ref d, .ref g, .int w, .int k, .int a] => DeskAt S d ∧ StV (dV S d) ∧ GlassAt S g ∧ GOK (gV S g) ∧ vp_in w 5 ∧ vp_in k 120 ∧
      ∀ S', Fr S S' g (g + 5) → GE (gV S' g) (markV (dV S d) (gV S g) w.toNatClampNeg k.toNatClampNeg a) → E (some (.int (nI (lostV (dV S d) (gV S g) w.toNatClampNeg k.toNatClampNeg 120)))) S'
  | _ => False
def Γ_X0_mark : List (MI × PT) := [(mi_X6_firstNear, P_X6_firstNear), (mi_X6_lastNear, P_X6_lastNear), (mi_X0_canBeRead, P_X0_canBeRead), (mi_X0_distance, P_X0_distance), (mi_X0_dimmed, P_X0_dimmed)]
theorem hΓ_X0_mark (l : Launch) (G : Gx) : ∀ q ∈ Γ_X0_mark, Ct l G q.1 q.2 := List.forall_mem_cons.mpr ⟨ct_X6_firstNear l G, List.forall_mem_cons.mpr ⟨ct_X6_lastNear l G, List.forall_mem_cons.mpr ⟨ct_X0_canBeRead l G, List.forall_mem_cons.mpr ⟨ct_X0_distance l G, List.forall_mem_cons.mpr ⟨ct_X0_dimmed l G, fun _ h => absurd h List.not_mem_nil⟩⟩⟩⟩⟩
set_option maxHeartbeats 1000000 in
theorem lp2_X0_mark (l : Launch) (G : Gx) {S : SS} {d g w k r : Nat} {a : Int32} {E : Option Value → SS → Prop} (hd : DeskAt S d) (hs : StV (dV S d)) (hg : GlassAt S g) (hG : GOK (gV S g)) (hw : w < 5) (hk : k < 120) (hr : r < 10)
    (h : ∀ x9 x10 x11, V l G mi_X0_mark E 22 [some (.ref d), some (.ref g), some (.int (nI w)), some (.int (nI k)), some (.int a), some (.int (nI (k / 12))), some (.int (nI (k % 12))), some (.int (nI (lostV (dV S d) (gV S g) w k ((r + 1) * 12)))), some (.int (nI (r + 1))), x9, x10, x11] [] (stFA S (g + 1) (mkF (dV S d) (gV S g) w k ((r + 1) * 12))) 0 0) :
    ∀ c, c ≤ min (k % 12 + 2) 11 + 1 → ∀ x10 x11, V l G mi_X0_mark E 41 [some (.ref d), some (.ref g), some (.int (nI w)), some (.int (nI k)), some (.int a), some (.int (nI (k / 12))), some (.int (nI (k % 12))), some (.int (nI (lostV (dV S d) (gV S g) w k (r * 12 + c)))), some (.int (nI r)), some (.int (nI c)), x10, x11] [] (stFA S (g + 1) (mkF (dV S d) (gV S g) w k (r * 12 + c))) 0 0 := by
  refine loopUp _ fun c hc ih x10 x11 => ?_
  refine (V.segN (Γ := Γ_X0_mark) (hΓ_X0_mark l G) so_X0_mark 5 (sg := sg_X0_mark_41) so_X0_mark_41 ?_ : V l G mi_X0_mark _ (segPc sg_X0_mark_41) _ _ _ _ _)
  simp only [mL_X0_mark, mT_X0_mark, rc_X0_mark, rs_X0_mark, Γ_X0_mark, sg_X0_mark_0, sg_X0_mark_22, sg_X0_mark_41, sg_X0_mark_115, sg_X0_mark_121, sg_X0_mark_127, wn_X0_mark_0, wn_X0_mark_22, wn_X0_mark_41, wn_X0_mark_115, wn_X0_mark_121, wn_X0_mark_127, wp_c, ex_c, x_nop, x_goto, x_table, x_iinc, x_ldc, x_ldc2, x_iaload, x_faload, x_baload, x_caload, x_iastore, x_fastore, x_bastore, x_castore, x_aastore, x_alen, x_gets, x_new, x_newa, x_anew, x_invs, x_invi, x_invv, x_ret, x_iret, x_lret, x_fret, x_aret, x_lconst, x_fconst0, x_fconst1, x_fconst2, x_dconst0, x_dconst1, x_null, x_iadd, x_isub, x_imul, x_iand, x_ior, x_idiv, x_irem, x_ineg, x_ishl, x_ishr, x_land, x_ladd, x_lmul, x_lor, x_lushr, x_lshl, x_lcmp, x_i2l, x_l2i, x_i2c, x_i2f, x_f2d, x_d2i, x_d2l, x_fadd, x_fsub, x_fmul, x_fdiv, x_dadd, x_dsub, x_dmul, x_ddiv, x_fcmp, x_dcmp, x_dupI, x_dupR, x_dup2, x_popI, x_popR, ldP_I, ldP_L, ldP_F, ldP_D, ldP_R, ldP_N, x_iload, x_iload_n, x_lload, x_lload_n, x_fload, x_fload_n, x_dload, x_dload_n, x_aload, x_aload_n, x_istore, x_istore_n, x_lstore, x_lstore_n, x_fstore, x_fstore_n, x_dstore, x_dstore_n, x_astore, x_astore_n, x_astoreN, x_astore_nN, x_icmp_eq, x_icmp_ne, x_icmp_lt, x_icmp_ge, x_icmp_gt, x_icmp_le, x_if_eq, x_if_ne, x_if_lt, x_if_ge, x_if_gt, x_if_le, x_ifnull, x_ifnullR, x_ifnn, x_ifnnR, x_aaload2, x_cpI, x_cpF, x_oI, xk_bipush_120, xk_iconst_0, xk_bipush_m6, xk_iconst_1, xk_bipush_80, xk_iconst_4, xk_bipush_6, xk_iconst_2, xk_bipush_40, xk_iconst_3, xk_bipush_10, xk_iconst_5, xk_bipush_m2, xk_bipush_m4, xk_iconst_m1, xk_bipush_m5, xk_bipush_12, xk_bipush_100, xk_bipush_26, xk_bipush_48, xk_sipush_9999, xk_sipush_500, xk_bipush_7, xk_bipush_119, xk_bipush_m126, xk_bipush_127, xk_bipush_23, xk_sipush_m1022, xk_sipush_1023, xk_bipush_52, xg_0_0, xp_0_0, xg_0_1, xp_0_1, xg_0_2, xp_0_2, xg_0_3, xp_0_3, xg_0_4, xp_0_4, xg_0_5, xp_0_5, xg_0_6, xp_0_6, xg_0_7, xp_0_7, xg_0_8, xp_0_8, xg_1_0, xp_1_0, xg_1_1, xp_1_1, xg_1_2, xp_1_2, xg_1_3, xp_1_3, xg_2_0, xp_2_0, xg_2_1, xp_2_1, xg_2_2, xp_2_2, xg_3_0, xp_3_0, xg_3_1, xp_3_1, xg_3_2, xp_3_2, xg_3_3, xp_3_3, xg_3_4, xp_3_4, xg_3_5, xp_3_5, xg_3_6, xp_3_6, xg_3_7, xp_3_7, xg_3_8, xp_3_8, xg_3_9, xp_3_9, xg_3_10, xp_3_10, xg_3_11, xp_3_11, xg_4_0, xp_4_0, xg_4_1, xp_4_1, xg_5_0, xp_5_0, xg_5_1, xp_5_1, xg_6_0, xp_6_0, xg_6_1, xp_6_1, xg_6_2, xp_6_2, xg_6_3, xp_6_3, xg_6_4, xp_6_4, xg_6_5, xp_6_5, fv0, fv1, fv2, fv3, kI_0, kI_1, stL, wipeL, entLn, entL, List.getElem?_cons_zero, List.getElem?_cons_succ, List.getElem?_nil, List.set_cons_zero, List.set_cons_succ, List.set_nil, List.length_cons, List.length_nil, List.cons_append, List.nil_append, List.replicate, Nat.reduceAdd, Nat.reduceLeDiff, Nat.reduceSub, true_and, and_true, x_callS, x_callSN, x_callI, x_callIN, x_callV0, x_callV1, x_callV2, x_callV3, x_callV4, x_callV5, x_callV6, x_callV7, callP, List.take_succ_cons, List.take_zero, List.take_nil, List.drop_succ_cons, List.drop_zero, List.drop_nil, List.getLast?_singleton, List.getLast?_cons_cons, Option.some.injEq, Value.ref.injEq, exists_eq_left, exists_eq_left', Nat.zero_le, Nat.add_zero, ldcV_f, ldcV_fn, ldcV_l, ldcV_d, Nat.reduceMul, Nat.le_refl, List.reverse_cons, List.reverse_nil, Option.toList, List.map_cons, List.map_nil, List.sum_cons, List.sum_nil, Value.category, tblW_n, tblW_c, Int.cast_ofNat_Int, Int.reduceAdd, Int.reduceToNat, ofI_n, rc_X6_firstNear, rs_X6_firstNear, P_X6_firstNear, rc_X6_lastNear, rs_X6_lastNear, P_X6_lastNear, rc_X0_canBeRead, rs_X0_canBeRead, P_X0_canBeRead, rc_X0_distance, rs_X0_distance, P_X0_distance, rc_X0_dimmed, rs_X0_dimmed, P_X0_dimmed]
  have hF : Fr S (stFA S (g + 1) (mkF (dV S d) (gV S g) w k (r * 12 + c))) g (g + 5) := (Fr.refl _ _ _).stFA _ _ (by omega) (by omega)
  have hgT := hF.glass hg
  have hdT := hF.desk hd
  have hg0 := hg
  obtain ⟨g0, g1, g2, g3, g4, g5, g6, g7, g8⟩ := hg
  have hsT : SetV (stFA S (g + 1) (mkF (dV S d) (gV S g) w k (r * 12 + c))) d := hs.set
  have hl := lostV_le (dV S d) (gV S g) w k (r * 12 + c)
  have hF' : Fr S (stFA S (g + 1) (mkF (dV S d) (gV S g) w k (r * 12 + c + 1))) g (g + 5) := (Fr.refl _ _ _).stFA _ _ (by omega) (by omega)
  have hgT' := hF'.glass hg0
  have hdT' := hF'.desk hd
  have hsT' : SetV (stFA S (g + 1) (mkF (dV S d) (gV S g) w k (r * 12 + c + 1))) d := hs.set
  have hmm : mkF (dV S d) (gV S g) w k (r * 12 + c) (r * 12 + c) = (gV S g).l (r * 12 + c) := if_neg (Nat.lt_irrefl _)
  have hmm' : mkF (dV S d) (gV S g) w k (r * 12 + c + 1) (r * 12 + c) = dimV (dV S d) ((gV S g).l (r * 12 + c)) w (dist k (r * 12 + c)) := if_pos (Nat.lt_succ_self _)
  simp only [hd.1, hdT, hsT, hgT, g0, g1, g2, g3, g4, g5, g6, g7, g8, sK_stI, sR_stI, sK_stF, sR_stF, sK_stIA, sR_stIA, sK_stFA, sR_stFA, sI_stI, sI_stF, sI_stIA, sI_stFA, sF_stI, sF_stF, sF_stIA, sF_stFA, Nat.left_eq_add, Nat.add_eq_left, Nat.add_left_cancel_iff, Nat.reduceEqDiff, Nat.reduceEqDiff, Nat.succ_ne_self, false_and, and_false, if_false, if_true, nI_succ_sub, Option.some.injEq, Prod.mk.injEq, exists_eq_left', true_and, and_true, retI, retF, retV, retZ1, retZ0, retL, retA, retN, Nat.reduceAdd, Nat.reduceMul, Nat.reduceLT]
  simp (disch := omega) only [nlt0, nge0, neq0, ngt0, nle0, nI_ltI, nI_leI, nI_eq, nI_cl, in_nI, false_implies, true_implies, not_false_eq_true, not_true_eq_false, and_true, true_and, nI_add, pk_mul, implies_true, not_lt0, Nat.add_one_sub_one]
  refine ⟨by omega, by omega, by omega, fun q => ?_, fun q => ?_⟩
  · have far : ∀ j, r * 12 + c ≤ j → j < (r + 1) * 12 → 2 < dist k j := fun j h1 h2 => by
      apply Nat.lt_of_not_le
      intro h3
      have := dist_le h3
      omega
    rw [← lostV_skip (n := (r + 1) * 12) (by omega) far, ← mkF_skip (n := (r + 1) * 12) (by omega) far]
    exact h _ _ _
  · have ih := ih (by omega)
    rw [← Nat.add_assoc, lostV_s] at ih
    have hm : r * 12 + c < 120 := by omega
    have hd3 := dist_lt hk hm
    rw [nI_cl (show dist k (r * 12 + c) < 2 ^ 31 by omega), hmm]
    simp only [dimD_stFA, stF_stFA, mkF_s, hdT', hsT', hgT', hmm', hmm, true_and, hm, hk, hw, sI_stFA, sF_stFA, if_true, bI_0]
    refine ⟨(hG _ hm).1, vp_in_nI hd3 (by omega), ?_⟩
    unfold rdV enV at ih
    by_cases c1 : (gV S g).t (r * 12 + c) = mI 6
    · have c1' : sI S (g + 2) (r * 12 + c) = mI 6 := c1
      simp [c1, c1', bI_0] at ih ⊢
      exact ih _ _
    · have c1' : ¬ sI S (g + 2) (r * 12 + c) = mI 6 := c1
      by_cases c2 : enF ((dV S d).st 2) ((gV S g).l (r * 12 + c)) = true
      · have c2' : enF (sI S (d + 1) 2) ((gV S g).l (r * 12 + c)) = true := c2
        by_cases c3 : enF ((dV S d).st 2) (dimV (dV S d) ((gV S g).l (r * 12 + c)) w (dist k (r * 12 + c))) = true
        · have c3' : enF (sI S (d + 1) 2) (dimV (dV S d) ((gV S g).l (r * 12 + c)) w (dist k (r * 12 + c))) = true := c3
          simp [c1, c2, c1', c2', c3, c3', bI_0] at ih ⊢
          exact ih _ _
        · have c3' : ¬ enF (sI S (d + 1) 2) (dimV (dV S d) ((gV S g).l (r * 12 + c)) w (dist k (r * 12 + c))) = true := c3
          simp [c1, c2, c1', c2', c3, c3', bI_0] at ih ⊢
          exact ih _ _
      · have c2' : ¬ enF (sI S (d + 1) 2) ((gV S g).l (r * 12 + c)) = true := c2
        simp [c1, c2, c1', c2', bI_0] at ih ⊢
        exact ih _ _
set_option maxHeartbeats 1000000 in
theorem lp_X0_mark (l : Launch) (G : Gx) {S : SS} {d g w k : Nat} {a : Int32} {E : Option Value → SS → Prop} (hd : DeskAt S d) (hs : StV (dV S d)) (hg : GlassAt S g) (hG : GOK (gV S g)) (hw : w < 5) (hk : k < 120)
    (h : ∀ S', Fr S S' g (g + 5) → GE (gV S' g) (markV (dV S d) (gV S g) w k a) → E (some (.int (nI (lostV (dV S d) (gV S g) w k 120)))) S') :
    ∀ r, r ≤ min (k / 12 + 2) 9 + 1 → ∀ x9 x10 x11, V l G mi_X0_mark E 22 [some (.ref d), some (.ref g), some (.int (nI w)), some (.int (nI k)), some (.int a), some (.int (nI (k / 12))), some (.int (nI (k % 12))), some (.int (nI (lostV (dV S d) (gV S g) w k (r * 12)))), some (.int (nI r)), x9, x10, x11] [] (stFA S (g + 1) (mkF (dV S d) (gV S g) w k (r * 12))) 0 0 := by
  refine loopUp _ fun r hr ih x9 x10 x11 => ?_
  refine (V.segN (Γ := Γ_X0_mark) (hΓ_X0_mark l G) so_X0_mark 5 (sg := sg_X0_mark_22) so_X0_mark_22 ?_ : V l G mi_X0_mark _ (segPc sg_X0_mark_22) _ _ _ _ _)
  simp only [mL_X0_mark, mT_X0_mark, rc_X0_mark, rs_X0_mark, Γ_X0_mark, sg_X0_mark_0, sg_X0_mark_22, sg_X0_mark_41, sg_X0_mark_115, sg_X0_mark_121, sg_X0_mark_127, wn_X0_mark_0, wn_X0_mark_22, wn_X0_mark_41, wn_X0_mark_115, wn_X0_mark_121, wn_X0_mark_127, wp_c, ex_c, x_nop, x_goto, x_table, x_iinc, x_ldc, x_ldc2, x_iaload, x_faload, x_baload, x_caload, x_iastore, x_fastore, x_bastore, x_castore, x_aastore, x_alen, x_gets, x_new, x_newa, x_anew, x_invs, x_invi, x_invv, x_ret, x_iret, x_lret, x_fret, x_aret, x_lconst, x_fconst0, x_fconst1, x_fconst2, x_dconst0, x_dconst1, x_null, x_iadd, x_isub, x_imul, x_iand, x_ior, x_idiv, x_irem, x_ineg, x_ishl, x_ishr, x_land, x_ladd, x_lmul, x_lor, x_lushr, x_lshl, x_lcmp, x_i2l, x_l2i, x_i2c, x_i2f, x_f2d, x_d2i, x_d2l, x_fadd, x_fsub, x_fmul, x_fdiv, x_dadd, x_dsub, x_dmul, x_ddiv, x_fcmp, x_dcmp, x_dupI, x_dupR, x_dup2, x_popI, x_popR, ldP_I, ldP_L, ldP_F, ldP_D, ldP_R, ldP_N, x_iload, x_iload_n, x_lload, x_lload_n, x_fload, x_fload_n, x_dload, x_dload_n, x_aload, x_aload_n, x_istore, x_istore_n, x_lstore, x_lstore_n, x_fstore, x_fstore_n, x_dstore, x_dstore_n, x_astore, x_astore_n, x_astoreN, x_astore_nN, x_icmp_eq, x_icmp_ne, x_icmp_lt, x_icmp_ge, x_icmp_gt, x_icmp_le, x_if_eq, x_if_ne, x_if_lt, x_if_ge, x_if_gt, x_if_le, x_ifnull, x_ifnullR, x_ifnn, x_ifnnR, x_aaload2, x_cpI, x_cpF, x_oI, xk_bipush_120, xk_iconst_0, xk_bipush_m6, xk_iconst_1, xk_bipush_80, xk_iconst_4, xk_bipush_6, xk_iconst_2, xk_bipush_40, xk_iconst_3, xk_bipush_10, xk_iconst_5, xk_bipush_m2, xk_bipush_m4, xk_iconst_m1, xk_bipush_m5, xk_bipush_12, xk_bipush_100, xk_bipush_26, xk_bipush_48, xk_sipush_9999, xk_sipush_500, xk_bipush_7, xk_bipush_119, xk_bipush_m126, xk_bipush_127, xk_bipush_23, xk_sipush_m1022, xk_sipush_1023, xk_bipush_52, xg_0_0, xp_0_0, xg_0_1, xp_0_1, xg_0_2, xp_0_2, xg_0_3, xp_0_3, xg_0_4, xp_0_4, xg_0_5, xp_0_5, xg_0_6, xp_0_6, xg_0_7, xp_0_7, xg_0_8, xp_0_8, xg_1_0, xp_1_0, xg_1_1, xp_1_1, xg_1_2, xp_1_2, xg_1_3, xp_1_3, xg_2_0, xp_2_0, xg_2_1, xp_2_1, xg_2_2, xp_2_2, xg_3_0, xp_3_0, xg_3_1, xp_3_1, xg_3_2, xp_3_2, xg_3_3, xp_3_3, xg_3_4, xp_3_4, xg_3_5, xp_3_5, xg_3_6, xp_3_6, xg_3_7, xp_3_7, xg_3_8, xp_3_8, xg_3_9, xp_3_9, xg_3_10, xp_3_10, xg_3_11, xp_3_11, xg_4_0, xp_4_0, xg_4_1, xp_4_1, xg_5_0, xp_5_0, xg_5_1, xp_5_1, xg_6_0, xp_6_0, xg_6_1, xp_6_1, xg_6_2, xp_6_2, xg_6_3, xp_6_3, xg_6_4, xp_6_4, xg_6_5, xp_6_5, fv0, fv1, fv2, fv3, kI_0, kI_1, stL, wipeL, entLn, entL, List.getElem?_cons_zero, List.getElem?_cons_succ, List.getElem?_nil, List.set_cons_zero, List.set_cons_succ, List.set_nil, List.length_cons, List.length_nil, List.cons_append, List.nil_append, List.replicate, Nat.reduceAdd, Nat.reduceLeDiff, Nat.reduceSub, true_and, and_true, x_callS, x_callSN, x_callI, x_callIN, x_callV0, x_callV1, x_callV2, x_callV3, x_callV4, x_callV5, x_callV6, x_callV7, callP, List.take_succ_cons, List.take_zero, List.take_nil, List.drop_succ_cons, List.drop_zero, List.drop_nil, List.getLast?_singleton, List.getLast?_cons_cons, Option.some.injEq, Value.ref.injEq, exists_eq_left, exists_eq_left', Nat.zero_le, Nat.add_zero, ldcV_f, ldcV_fn, ldcV_l, ldcV_d, Nat.reduceMul, Nat.le_refl, List.reverse_cons, List.reverse_nil, Option.toList, List.map_cons, List.map_nil, List.sum_cons, List.sum_nil, Value.category, tblW_n, tblW_c, Int.cast_ofNat_Int, Int.reduceAdd, Int.reduceToNat, ofI_n, rc_X6_firstNear, rs_X6_firstNear, P_X6_firstNear, rc_X6_lastNear, rs_X6_lastNear, P_X6_lastNear, rc_X0_canBeRead, rs_X0_canBeRead, P_X0_canBeRead, rc_X0_distance, rs_X0_distance, P_X0_distance, rc_X0_dimmed, rs_X0_dimmed, P_X0_dimmed]
  have hg0 := hg
  obtain ⟨g0, g1, g2, g3, g4, g5, g6, g7, g8⟩ := hg
  simp only [g0, g1, g2, g3, g4, g5, g6, g7, g8, sK_stI, sR_stI, sK_stF, sR_stF, sK_stIA, sR_stIA, sK_stFA, sR_stFA, sI_stI, sI_stF, sI_stIA, sI_stFA, sF_stI, sF_stF, sF_stIA, sF_stFA, Nat.left_eq_add, Nat.add_eq_left, Nat.add_left_cancel_iff, Nat.reduceEqDiff, Nat.reduceEqDiff, Nat.succ_ne_self, false_and, and_false, if_false, if_true, nI_succ_sub, Option.some.injEq, Prod.mk.injEq, exists_eq_left', true_and, and_true, retI, retF, retV, retZ1, retZ0, retL, retA, retN, Nat.reduceAdd, Nat.reduceMul, Nat.reduceLT]
  simp (disch := omega) only [nlt0, nge0, neq0, ngt0, nle0, nI_ltI, nI_leI, nI_eq, nI_cl, in_nI, false_implies, true_implies, not_false_eq_true, not_true_eq_false, and_true, true_and, nI_add, pk_mul, implies_true, not_lt0, Nat.add_one_sub_one]
  refine ⟨by omega, by omega, by omega, fun q => ⟨hk, hk, hk, ?_⟩, fun q => ⟨by omega, ?_⟩⟩
  · have far : ∀ j, r * 12 ≤ j → j < 120 → 2 < dist k j := fun j h1 h2 => by
      apply Nat.lt_of_not_le
      intro h3
      have := dist_le h3
      omega
    rw [← lostV_skip (n := 120) (by omega) far, ← mkF_skip (n := 120) (by omega) far]
    refine h _ (((((Fr.refl _ _ _).stFA _ _ (by omega) (by omega)).stI _ _ _ (by omega) (by omega)).stI _ _ _ (by omega) (by omega)).stI _ _ _ (by omega) (by omega)) ?_
    intro j hj
    simp [gV, markV, mkF, hj, upV, sI_row, sF_stFA, sF_stI, sI_stFA, GV.l, GV.t, GV.w, GV.p, DV.st, DV.pr, DV.wr, DV.sp, DV.hr, DV.pl, DV.dk, DV.pp, DV.g, sf_l, sf_t, sf_w, sf_p, sf_st, sf_pr, sf_wr, sf_sp, sf_hr, sf_pl, sf_dk, sf_pp, sf_g]
  · have far : ∀ j, r * 12 ≤ j → j < r * 12 + (k % 12 - 2) → 2 < dist k j := fun j h1 h2 => by
      apply Nat.lt_of_not_le
      intro h3
      have := dist_le h3
      omega
    rw [← lostV_skip (n := r * 12 + (k % 12 - 2)) (by omega) far, ← mkF_skip (n := r * 12 + (k % 12 - 2)) (by omega) far]
    exact lp2_X0_mark l G hd hs hg0 hG hw hk (by omega) (fun x9 x10 x11 => ih (by omega) x9 x10 x11) _ (by omega) _ _
set_option maxHeartbeats 1000000 in
theorem ct_X0_mark (l : Launch) (G : Gx) : Ct l G mi_X0_mark P_X0_mark := by
  refine Ct.ofV mo_X0_mark (fun as S E h => ?_)
  unfold P_X0_mark at h
  split at h
  case h_2 => exact h.elim
  rename_i d g w k a
  refine ⟨by simp [entL, mL_X0_mark], ?_⟩
  refine wpN_ok (Γ := Γ_X0_mark) (hΓ_X0_mark l G) so_X0_mark 4 _ _ _ _ _ _ ?_
  simp only [mL_X0_mark, mT_X0_mark, rc_X0_mark, rs_X0_mark, Γ_X0_mark, sg_X0_mark_0, sg_X0_mark_22, sg_X0_mark_41, sg_X0_mark_115, sg_X0_mark_121, sg_X0_mark_127, wn_X0_mark_0, wn_X0_mark_22, wn_X0_mark_41, wn_X0_mark_115, wn_X0_mark_121, wn_X0_mark_127, wp_c, ex_c, x_nop, x_goto, x_table, x_iinc, x_ldc, x_ldc2, x_iaload, x_faload, x_baload, x_caload, x_iastore, x_fastore, x_bastore, x_castore, x_aastore, x_alen, x_gets, x_new, x_newa, x_anew, x_invs, x_invi, x_invv, x_ret, x_iret, x_lret, x_fret, x_aret, x_lconst, x_fconst0, x_fconst1, x_fconst2, x_dconst0, x_dconst1, x_null, x_iadd, x_isub, x_imul, x_iand, x_ior, x_idiv, x_irem, x_ineg, x_ishl, x_ishr, x_land, x_ladd, x_lmul, x_lor, x_lushr, x_lshl, x_lcmp, x_i2l, x_l2i, x_i2c, x_i2f, x_f2d, x_d2i, x_d2l, x_fadd, x_fsub, x_fmul, x_fdiv, x_dadd, x_dsub, x_dmul, x_ddiv, x_fcmp, x_dcmp, x_dupI, x_dupR, x_dup2, x_popI, x_popR, ldP_I, ldP_L, ldP_F, ldP_D, ldP_R, ldP_N, x_iload, x_iload_n, x_lload, x_lload_n, x_fload, x_fload_n, x_dload, x_dload_n, x_aload, x_aload_n, x_istore, x_istore_n, x_lstore, x_lstore_n, x_fstore, x_fstore_n, x_dstore, x_dstore_n, x_astore, x_astore_n, x_astoreN, x_astore_nN, x_icmp_eq, x_icmp_ne, x_icmp_lt, x_icmp_ge, x_icmp_gt, x_icmp_le, x_if_eq, x_if_ne, x_if_lt, x_if_ge, x_if_gt, x_if_le, x_ifnull, x_ifnullR, x_ifnn, x_ifnnR, x_aaload2, x_cpI, x_cpF, x_oI, xk_bipush_120, xk_iconst_0, xk_bipush_m6, xk_iconst_1, xk_bipush_80, xk_iconst_4, xk_bipush_6, xk_iconst_2, xk_bipush_40, xk_iconst_3, xk_bipush_10, xk_iconst_5, xk_bipush_m2, xk_bipush_m4, xk_iconst_m1, xk_bipush_m5, xk_bipush_12, xk_bipush_100, xk_bipush_26, xk_bipush_48, xk_sipush_9999, xk_sipush_500, xk_bipush_7, xk_bipush_119, xk_bipush_m126, xk_bipush_127, xk_bipush_23, xk_sipush_m1022, xk_sipush_1023, xk_bipush_52, xg_0_0, xp_0_0, xg_0_1, xp_0_1, xg_0_2, xp_0_2, xg_0_3, xp_0_3, xg_0_4, xp_0_4, xg_0_5, xp_0_5, xg_0_6, xp_0_6, xg_0_7, xp_0_7, xg_0_8, xp_0_8, xg_1_0, xp_1_0, xg_1_1, xp_1_1, xg_1_2, xp_1_2, xg_1_3, xp_1_3, xg_2_0, xp_2_0, xg_2_1, xp_2_1, xg_2_2, xp_2_2, xg_3_0, xp_3_0, xg_3_1, xp_3_1, xg_3_2, xp_3_2, xg_3_3, xp_3_3, xg_3_4, xp_3_4, xg_3_5, xp_3_5, xg_3_6, xp_3_6, xg_3_7, xp_3_7, xg_3_8, xp_3_8, xg_3_9, xp_3_9, xg_3_10, xp_3_10, xg_3_11, xp_3_11, xg_4_0, xp_4_0, xg_4_1, xp_4_1, xg_5_0, xp_5_0, xg_5_1, xp_5_1, xg_6_0, xp_6_0, xg_6_1, xp_6_1, xg_6_2, xp_6_2, xg_6_3, xp_6_3, xg_6_4, xp_6_4, xg_6_5, xp_6_5, fv0, fv1, fv2, fv3, kI_0, kI_1, stL, wipeL, entLn, entL, List.getElem?_cons_zero, List.getElem?_cons_succ, List.getElem?_nil, List.set_cons_zero, List.set_cons_succ, List.set_nil, List.length_cons, List.length_nil, List.cons_append, List.nil_append, List.replicate, Nat.reduceAdd, Nat.reduceLeDiff, Nat.reduceSub, true_and, and_true, x_callS, x_callSN, x_callI, x_callIN, x_callV0, x_callV1, x_callV2, x_callV3, x_callV4, x_callV5, x_callV6, x_callV7, callP, List.take_succ_cons, List.take_zero, List.take_nil, List.drop_succ_cons, List.drop_zero, List.drop_nil, List.getLast?_singleton, List.getLast?_cons_cons, Option.some.injEq, Value.ref.injEq, exists_eq_left, exists_eq_left', Nat.zero_le, Nat.add_zero, ldcV_f, ldcV_fn, ldcV_l, ldcV_d, Nat.reduceMul, Nat.le_refl, List.reverse_cons, List.reverse_nil, Option.toList, List.map_cons, List.map_nil, List.sum_cons, List.sum_nil, Value.category, tblW_n, tblW_c, Int.cast_ofNat_Int, Int.reduceAdd, Int.reduceToNat, ofI_n, rc_X6_firstNear, rs_X6_firstNear, P_X6_firstNear, rc_X6_lastNear, rs_X6_lastNear, P_X6_lastNear, rc_X0_canBeRead, rs_X0_canBeRead, P_X0_canBeRead, rc_X0_distance, rs_X0_distance, P_X0_distance, rc_X0_dimmed, rs_X0_dimmed, P_X0_dimmed]
  obtain ⟨hd, hs, hg, hG, hw0, hk0, h⟩ := h
  obtain ⟨k, hk, rfl⟩ := vp_in_of hk0 (by decide)
  obtain ⟨w, hw, rfl⟩ := vp_in_of hw0 (by decide)
  rw [nI_cl (by omega), nI_cl (by omega)] at h
  have h12 : ¬ nI 12 = 0 := by decide
  have e1 : nI k / nI 12 = nI (k / 12) := pk_div (by omega) (by omega) (by omega)
  have e2 : nI k - nI (k / 12) * nI 12 = nI (k % 12) := by rw [← e1]; exact pk_rem (by omega) (by omega) (by omega)
  simp only [h12, e1, e2, sK_stI, sR_stI, sK_stF, sR_stF, sK_stIA, sR_stIA, sK_stFA, sR_stFA, sI_stI, sI_stF, sI_stIA, sI_stFA, sF_stI, sF_stF, sF_stIA, sF_stFA, Nat.left_eq_add, Nat.add_eq_left, Nat.add_left_cancel_iff, Nat.reduceEqDiff, Nat.reduceEqDiff, Nat.succ_ne_self, false_and, and_false, if_false, if_true, nI_succ_sub, Option.some.injEq, Prod.mk.injEq, exists_eq_left', true_and, and_true, retI, retF, retV, retZ1, retZ0, retL, retA, retN, Nat.reduceAdd, Nat.reduceMul, Nat.reduceLT]
  simp (disch := omega) only [nlt0, nge0, neq0, ngt0, nle0, nI_ltI, nI_leI, nI_eq, nI_cl, in_nI, false_implies, true_implies, not_false_eq_true, not_true_eq_false, and_true, true_and, nI_add, pk_mul, implies_true, not_lt0, Nat.add_one_sub_one]
  refine ⟨by omega, ?_⟩
  have far : ∀ j, 0 ≤ j → j < (k / 12 - 2) * 12 → 2 < dist k j := fun j h1 h2 => by
    apply Nat.lt_of_not_le
    intro h3
    have := dist_le h3
    omega
  have e3 := lp_X0_mark l G hd hs hg hG hw hk h (k / 12 - 2) (by omega) none none none
  rw [lostV_skip (m := 0) (by omega) far, mkF_skip (m := 0) (by omega) far] at e3
  have e4 : mkF (dV S d) (gV S g) w k 0 = sF S (g + 1) := by
    funext j
    unfold mkF
    rw [if_neg (by omega)]
    rfl
  rw [e4, stFA_self] at e3
  exact e3
