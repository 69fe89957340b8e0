-- needs: 18.nums 19.proj 20.spec 21.shape 22.leaf 23.fl 23.view 24.loops 26.near
/-! what is asked of places -/
def PreG (S : SS) (d g : Nat) : Prop := DeskAt S d ∧ StV (dV S d) ∧ GlassAt S g ∧ GOK (gV S g)
def P_X0_hasRoom (as : List Value) (S : SS) (E : Option Value → SS → Prop) : Prop := match as with
  | [.ref d, .ref g, .int k] => PreG S d g ∧ vp_in k 120 ∧ E (some (.int (bI (roV (dV S d) (gV S g) k.toNatClampNeg = true)))) S
  | _ => False
def Γ_X0_hasRoom : List (MI × PT) := [(mi_X1_isFree, P_X1_isFree), (mi_X0_lightAhead, P_X0_lightAhead), (mi_X0_isEnough, P_X0_isEnough)]
theorem hΓ_X0_hasRoom (l : Launch) (G : Gx) : ∀ q ∈ Γ_X0_hasRoom, Ct l G q.1 q.2 := List.forall_mem_cons.mpr ⟨ct_X1_isFree l G, List.forall_mem_cons.mpr ⟨ct_X0_lightAhead l G, List.forall_mem_cons.mpr ⟨ct_X0_isEnough l G, fun _ h => absurd h List.not_mem_nil⟩⟩⟩
set_option maxHeartbeats 1000000 in
theorem ct_X0_hasRoom (l : Launch) (G : Gx) : Ct l G mi_X0_hasRoom P_X0_hasRoom := by
  refine Ct.ofV mo_X0_hasRoom (fun as S E h => ?_)
  unfold P_X0_hasRoom at h
  split at h
  case h_2 => exact h.elim
  rename_i d g k
  refine ⟨by simp [entL, mL_X0_hasRoom], ?_⟩
  refine wpN_ok (Γ := Γ_X0_hasRoom) (hΓ_X0_hasRoom l G) so_X0_hasRoom 4 _ _ _ _ _ _ ?_
  simp only [mL_X0_hasRoom, mT_X0_hasRoom, rc_X0_hasRoom, rs_X0_hasRoom, Γ_X0_hasRoom, sg_X0_hasRoom_0, sg_X0_hasRoom_25, sg_X0_hasRoom_26, wn_X0_hasRoom_0, wn_X0_hasRoom_25, wn_X0_hasRoom_26, wp_c, ex_c, x_nop, x_goto, x_table, x_iinc, x_ldc, x_ldc2, x_iaload, x_faload, x_baload, x_caload, x_iastore, x_fastore, x_bastore, x_castore, x_aastore, x_alen, x_gets, x_new, x_newa, x_anew, x_invs, x_invi, x_invv, x_ret, x_iret, x_lret, x_fret, x_aret, x_lconst, x_fconst0, x_fconst1, x_fconst2, x_dconst0, x_dconst1, x_null, x_iadd, x_isub, x_imul, x_iand, x_ior, x_idiv, x_irem, x_ineg, x_ishl, x_ishr, x_land, x_ladd, x_lmul, x_lor, x_lushr, x_lshl, x_lcmp, x_i2l, x_l2i, x_i2c, x_i2f, x_f2d, x_d2i, x_d2l, x_fadd, x_fsub, x_fmul, x_fdiv, x_dadd, x_dsub, x_dmul, x_ddiv, x_fcmp, x_dcmp, x_dupI, x_dupR, x_dup2, x_popI, x_popR, ldP_I, ldP_L, ldP_F, ldP_D, ldP_R, ldP_N, x_iload, x_iload_n, x_lload, x_lload_n, x_fload, x_fload_n, x_dload, x_dload_n, x_aload, x_aload_n, x_istore, x_istore_n, x_lstore, x_lstore_n, x_fstore, x_fstore_n, x_dstore, x_dstore_n, x_astore, x_astore_n, x_astoreN, x_astore_nN, x_icmp_eq, x_icmp_ne, x_icmp_lt, x_icmp_ge, x_icmp_gt, x_icmp_le, x_if_eq, x_if_ne, x_if_lt, x_if_ge, x_if_gt, x_if_le, x_ifnull, x_ifnullR, x_ifnn, x_ifnnR, x_aaload2, x_cpI, x_cpF, x_oI, xk_bipush_120, xk_iconst_0, xk_bipush_m6, xk_iconst_1, xk_bipush_80, xk_iconst_4, xk_bipush_6, xk_iconst_2, xk_bipush_40, xk_iconst_3, xk_bipush_10, xk_iconst_5, xk_bipush_m2, xk_bipush_m4, xk_iconst_m1, xk_bipush_m5, xk_bipush_12, xk_bipush_100, xk_bipush_26, xk_bipush_48, xk_sipush_9999, xk_sipush_500, xk_bipush_7, xk_bipush_119, xk_bipush_m126, xk_bipush_127, xk_bipush_23, xk_sipush_m1022, xk_sipush_1023, xk_bipush_52, xg_0_0, xp_0_0, xg_0_1, xp_0_1, xg_0_2, xp_0_2, xg_0_3, xp_0_3, xg_0_4, xp_0_4, xg_0_5, xp_0_5, xg_0_6, xp_0_6, xg_0_7, xp_0_7, xg_0_8, xp_0_8, xg_1_0, xp_1_0, xg_1_1, xp_1_1, xg_1_2, xp_1_2, xg_1_3, xp_1_3, xg_2_0, xp_2_0, xg_2_1, xp_2_1, xg_2_2, xp_2_2, xg_3_0, xp_3_0, xg_3_1, xp_3_1, xg_3_2, xp_3_2, xg_3_3, xp_3_3, xg_3_4, xp_3_4, xg_3_5, xp_3_5, xg_3_6, xp_3_6, xg_3_7, xp_3_7, xg_3_8, xp_3_8, xg_3_9, xp_3_9, xg_3_10, xp_3_10, xg_3_11, xp_3_11, xg_4_0, xp_4_0, xg_4_1, xp_4_1, xg_5_0, xp_5_0, xg_5_1, xp_5_1, xg_6_0, xp_6_0, xg_6_1, xp_6_1, xg_6_2, xp_6_2, xg_6_3, xp_6_3, xg_6_4, xp_6_4, xg_6_5, xp_6_5, fv0, fv1, fv2, fv3, kI_0, kI_1, stL, wipeL, entLn, entL, List.getElem?_cons_zero, List.getElem?_cons_succ, List.getElem?_nil, List.set_cons_zero, List.set_cons_succ, List.set_nil, List.length_cons, List.length_nil, List.cons_append, List.nil_append, List.replicate, Nat.reduceAdd, Nat.reduceLeDiff, Nat.reduceSub, true_and, and_true, x_callS, x_callSN, x_callI, x_callIN, x_callV0, x_callV1, x_callV2, x_callV3, x_callV4, x_callV5, x_callV6, x_callV7, callP, List.take_succ_cons, List.take_zero, List.take_nil, List.drop_succ_cons, List.drop_zero, List.drop_nil, List.getLast?_singleton, List.getLast?_cons_cons, Option.some.injEq, Value.ref.injEq, exists_eq_left, exists_eq_left', Nat.zero_le, Nat.add_zero, ldcV_f, ldcV_fn, ldcV_l, ldcV_d, Nat.reduceMul, Nat.le_refl, List.reverse_cons, List.reverse_nil, Option.toList, List.map_cons, List.map_nil, List.sum_cons, List.sum_nil, Value.category, tblW_n, tblW_c, Int.cast_ofNat_Int, Int.reduceAdd, Int.reduceToNat, ofI_n, rc_X1_isFree, rs_X1_isFree, P_X1_isFree, rc_X0_lightAhead, rs_X0_lightAhead, P_X0_lightAhead, rc_X0_isEnough, rs_X0_isEnough, P_X0_isEnough]
  obtain ⟨⟨hd, hs, hg, hG⟩, hk0, h⟩ := h
  obtain ⟨k, hk, rfl⟩ := vp_in_of hk0 (by decide)
  have hlA := okL_aheadV (k := k) hs hG (hG k hk).1 120 (Nat.le_refl _)
  simp only [hd.1, hd, hs, hs.set, hg, hg.1, hG, hk0, bI_0, sK_stI, sR_stI, sK_stF, sR_stF, sK_stIA, sR_stIA, sK_stFA, sR_stFA, sI_stI, sI_stF, sI_stIA, sI_stFA, sF_stI, sF_stF, sF_stIA, sF_stFA, Nat.left_eq_add, Nat.add_eq_left, Nat.add_left_cancel_iff, Nat.reduceEqDiff, Nat.reduceEqDiff, Nat.succ_ne_self, false_and, and_false, if_false, if_true, nI_succ_sub, Option.some.injEq, Prod.mk.injEq, exists_eq_left', true_and, and_true, retI, retF, retV, retZ1, retZ0, retL, retA, retN, Nat.reduceAdd, Nat.reduceMul, Nat.reduceLT]
  rw [nI_cl (by omega)] at h ⊢
  unfold roV enV at h
  have e1 : sI S (g + 2) k = (gV S g).t k := rfl
  have e2 : sI S (g + 4) k = (gV S g).p k := rfl
  have e3 : sI S (d + 1) 2 = (dV S d).st 2 := rfl
  rw [e1, e2, e3]
  unfold bI at h
  refine ⟨fun q => ?_, fun q => ⟨fun q2 => ?_, fun q2 => ?_⟩⟩
  · rw [if_neg] at h
    · exact h
    · simp
      intro a b
      exact absurd ⟨a, b⟩ q
  · rw [if_neg] at h
    · exact h
    · simp
      intro a b
      simpa using q2
  · rw [if_pos] at h
    · exact h
    · have q := Decidable.not_not.mp q
      simp [q] at q2 ⊢
      exact q2
def wh (x : Int32) : Nat := if x = 0 then 0 else if x = nI 1 then 1 else if x = nI 2 then 2 else 3
theorem wh_0 : wh (nI 0) = 0 := rfl
theorem wh_1 : wh (nI 1) = 1 := rfl
theorem wh_2 : wh (nI 2) = 2 := rfl
theorem wh_3 {x : Int32} (h : x.toInt < 0 ∨ 2 < x.toInt) : wh x = 3 := by
  unfold wh
  rw [if_neg, if_neg, if_neg]
  · intro c; rw [c] at h; exact absurd h (by decide)
  · intro c; rw [c] at h; exact absurd h (by decide)
  · intro c; rw [c] at h; exact absurd h (by decide)
theorem bI_congr {a b : Prop} [Decidable a] [Decidable b] (h : a ↔ b) : bI a = bI b := by
  unfold bI
  by_cases c : a
  · rw [if_pos c, if_pos (h.mp c)]
  · rw [if_neg c, if_neg (fun q => c (h.mpr q))]
def P_X0_placeIs (as : List Value) (S : SS) (E : Option Value → SS → Prop) : Prop := match as with
  | [.ref d, .ref g, .int k, .int x] => PreG S d g ∧ vp_in k 120 ∧ E (some (.int (bI (isV (dV S d) (gV S g) k.toNatClampNeg (wh x) = true)))) S
  | _ => False
def Γ_X0_placeIs : List (MI × PT) := [(mi_X0_canBeRead, P_X0_canBeRead), (mi_X0_hasRoom, P_X0_hasRoom)]
theorem hΓ_X0_placeIs (l : Launch) (G : Gx) : ∀ q ∈ Γ_X0_placeIs, Ct l G q.1 q.2 := List.forall_mem_cons.mpr ⟨ct_X0_canBeRead l G, List.forall_mem_cons.mpr ⟨ct_X0_hasRoom l G, fun _ h => absurd h List.not_mem_nil⟩⟩
set_option maxHeartbeats 1000000 in
theorem ct_X0_placeIs (l : Launch) (G : Gx) : Ct l G mi_X0_placeIs P_X0_placeIs := by
  refine Ct.ofV mo_X0_placeIs (fun as S E h => ?_)
  unfold P_X0_placeIs at h
  split at h
  case h_2 => exact h.elim
  rename_i d g k x
  refine ⟨by simp [entL, mL_X0_placeIs], ?_⟩
  refine wpN_ok (Γ := Γ_X0_placeIs) (hΓ_X0_placeIs l G) so_X0_placeIs 4 _ _ _ _ _ _ ?_
  simp only [mL_X0_placeIs, mT_X0_placeIs, rc_X0_placeIs, rs_X0_placeIs, Γ_X0_placeIs, sg_X0_placeIs_0, sg_X0_placeIs_28, sg_X0_placeIs_43, sg_X0_placeIs_44, sg_X0_placeIs_45, sg_X0_placeIs_52, sg_X0_placeIs_67, sg_X0_placeIs_68, sg_X0_placeIs_69, wn_X0_placeIs_0, wn_X0_placeIs_28, wn_X0_placeIs_43, wn_X0_placeIs_44, wn_X0_placeIs_45, wn_X0_placeIs_52, wn_X0_placeIs_67, wn_X0_placeIs_68, wn_X0_placeIs_69, wp_c, ex_c, x_nop, x_goto, x_table, x_iinc, x_ldc, x_ldc2, x_iaload, x_faload, x_baload, x_caload, x_iastore, x_fastore, x_bastore, x_castore, x_aastore, x_alen, x_gets, x_new, x_newa, x_anew, x_invs, x_invi, x_invv, x_ret, x_iret, x_lret, x_fret, x_aret, x_lconst, x_fconst0, x_fconst1, x_fconst2, x_dconst0, x_dconst1, x_null, x_iadd, x_isub, x_imul, x_iand, x_ior, x_idiv, x_irem, x_ineg, x_ishl, x_ishr, x_land, x_ladd, x_lmul, x_lor, x_lushr, x_lshl, x_lcmp, x_i2l, x_l2i, x_i2c, x_i2f, x_f2d, x_d2i, x_d2l, x_fadd, x_fsub, x_fmul, x_fdiv, x_dadd, x_dsub, x_dmul, x_ddiv, x_fcmp, x_dcmp, x_dupI, x_dupR, x_dup2, x_popI, x_popR, ldP_I, ldP_L, ldP_F, ldP_D, ldP_R, ldP_N, x_iload, x_iload_n, x_lload, x_lload_n, x_fload, x_fload_n, x_dload, x_dload_n, x_aload, x_aload_n, x_istore, x_istore_n, x_lstore, x_lstore_n, x_fstore, x_fstore_n, x_dstore, x_dstore_n, x_astore, x_astore_n, x_astoreN, x_astore_nN, x_icmp_eq, x_icmp_ne, x_icmp_lt, x_icmp_ge, x_icmp_gt, x_icmp_le, x_if_eq, x_if_ne, x_if_lt, x_if_ge, x_if_gt, x_if_le, x_ifnull, x_ifnullR, x_ifnn, x_ifnnR, x_aaload2, x_cpI, x_cpF, x_oI, xk_bipush_120, xk_iconst_0, xk_bipush_m6, xk_iconst_1, xk_bipush_80, xk_iconst_4, xk_bipush_6, xk_iconst_2, xk_bipush_40, xk_iconst_3, xk_bipush_10, xk_iconst_5, xk_bipush_m2, xk_bipush_m4, xk_iconst_m1, xk_bipush_m5, xk_bipush_12, xk_bipush_100, xk_bipush_26, xk_bipush_48, xk_sipush_9999, xk_sipush_500, xk_bipush_7, xk_bipush_119, xk_bipush_m126, xk_bipush_127, xk_bipush_23, xk_sipush_m1022, xk_sipush_1023, xk_bipush_52, xg_0_0, xp_0_0, xg_0_1, xp_0_1, xg_0_2, xp_0_2, xg_0_3, xp_0_3, xg_0_4, xp_0_4, xg_0_5, xp_0_5, xg_0_6, xp_0_6, xg_0_7, xp_0_7, xg_0_8, xp_0_8, xg_1_0, xp_1_0, xg_1_1, xp_1_1, xg_1_2, xp_1_2, xg_1_3, xp_1_3, xg_2_0, xp_2_0, xg_2_1, xp_2_1, xg_2_2, xp_2_2, xg_3_0, xp_3_0, xg_3_1, xp_3_1, xg_3_2, xp_3_2, xg_3_3, xp_3_3, xg_3_4, xp_3_4, xg_3_5, xp_3_5, xg_3_6, xp_3_6, xg_3_7, xp_3_7, xg_3_8, xp_3_8, xg_3_9, xp_3_9, xg_3_10, xp_3_10, xg_3_11, xp_3_11, xg_4_0, xp_4_0, xg_4_1, xp_4_1, xg_5_0, xp_5_0, xg_5_1, xp_5_1, xg_6_0, xp_6_0, xg_6_1, xp_6_1, xg_6_2, xp_6_2, xg_6_3, xp_6_3, xg_6_4, xp_6_4, xg_6_5, xp_6_5, fv0, fv1, fv2, fv3, kI_0, kI_1, stL, wipeL, entLn, entL, List.getElem?_cons_zero, List.getElem?_cons_succ, List.getElem?_nil, List.set_cons_zero, List.set_cons_succ, List.set_nil, List.length_cons, List.length_nil, List.cons_append, List.nil_append, List.replicate, Nat.reduceAdd, Nat.reduceLeDiff, Nat.reduceSub, true_and, and_true, x_callS, x_callSN, x_callI, x_callIN, x_callV0, x_callV1, x_callV2, x_callV3, x_callV4, x_callV5, x_callV6, x_callV7, callP, List.take_succ_cons, List.take_zero, List.take_nil, List.drop_succ_cons, List.drop_zero, List.drop_nil, List.getLast?_singleton, List.getLast?_cons_cons, Option.some.injEq, Value.ref.injEq, exists_eq_left, exists_eq_left', Nat.zero_le, Nat.add_zero, ldcV_f, ldcV_fn, ldcV_l, ldcV_d, Nat.reduceMul, Nat.le_refl, List.reverse_cons, List.reverse_nil, Option.toList, List.map_cons, List.map_nil, List.sum_cons, List.sum_nil, Value.category, tblW_n, tblW_c, Int.cast_ofNat_Int, Int.reduceAdd, Int.reduceToNat, ofI_n, rc_X0_canBeRead, rs_X0_canBeRead, P_X0_canBeRead, rc_X0_hasRoom, rs_X0_hasRoom, P_X0_hasRoom]
  obtain ⟨⟨hd, hs, hg, hG⟩, hk0, h⟩ := h
  have hp : PreG S d g := ⟨hd, hs, hg, hG⟩
  obtain ⟨k, hk, rfl⟩ := vp_in_of hk0 (by decide)
  have hg0 := hg
  obtain ⟨g0, g1, g2, g3, g4, g5, g6, g7, g8⟩ := hg
  simp only [hp, hd.1, hd, hs, hs.set, hg0, g0, g1, g2, g3, g4, g5, g6, g7, g8, hG, hk0, bI_0, retZb, sK_stI, sR_stI, sK_stF, sR_stF, sK_stIA, sR_stIA, sK_stFA, sR_stFA, sI_stI, sI_stF, sI_stIA, sI_stFA, sF_stI, sF_stF, sF_stIA, sF_stFA, Nat.left_eq_add, Nat.add_eq_left, Nat.add_left_cancel_iff, Nat.reduceEqDiff, Nat.reduceEqDiff, Nat.succ_ne_self, false_and, and_false, if_false, if_true, nI_succ_sub, Option.some.injEq, Prod.mk.injEq, exists_eq_left', true_and, and_true, retI, retF, retV, retZ1, retZ0, retL, retA, retN, Nat.reduceAdd, Nat.reduceMul, Nat.reduceLT]
  rw [nI_cl (by omega)] at h ⊢
  refine ⟨⟨fun q => ?_, fun q => ?_, fun q => ?_⟩, fun q => ?_⟩
  · rw [q, wh_0] at h
    have e : isV (dV S d) (gV S g) k 0 = !decide (sI S (g + 2) k = mI 6) := rfl
    rw [e] at h
    refine ⟨fun c => ?_, fun c => ?_⟩
    · rwa [bI_f (by simp [c])] at h
    · rwa [bI_t (by simp [c])] at h
  · rw [q, wh_1] at h
    have e : bI (¬sI S (g + 2) k = mI 6 ∧ enF (sI S (d + 1) 2) (sF S (g + 1) k) = true) = bI (isV (dV S d) (gV S g) k 1 = true) := bI_congr (by
      have e : isV (dV S d) (gV S g) k 1 = (!decide (sI S (g + 2) k = mI 6) && enF (sI S (d + 1) 2) (sF S (g + 1) k)) := rfl
      rw [e]
      simp)
    rw [e]
    exact h
  · rw [q, wh_2] at h
    have e : isV (dV S d) (gV S g) k 2 = !decide (sI S (g + 4) k = mI 6) := rfl
    rw [e] at h
    refine ⟨fun c => ?_, fun c => ?_⟩
    · rwa [bI_f (by simp [c])] at h
    · rwa [bI_t (by simp [c])] at h
  · rw [wh_3 q] at h
    exact h
def P_X0_placesThat (as : List Value) (S : SS) (E : Option Value → SS → Prop) : Prop := match as with
  | [.ref d, .ref g, .int x] => PreG S d g ∧ E (some (.int (nI (cn (fun k => isV (dV S d) (gV S g) k (wh x)) 120)))) S
  | _ => False
def Γ_X0_placesThat : List (MI × PT) := [(mi_X0_placeIs, P_X0_placeIs)]
theorem hΓ_X0_placesThat (l : Launch) (G : Gx) : ∀ q ∈ Γ_X0_placesThat, Ct l G q.1 q.2 := List.forall_mem_cons.mpr ⟨ct_X0_placeIs l G, fun _ h => absurd h List.not_mem_nil⟩
set_option maxHeartbeats 1000000 in
theorem lp_X0_placesThat (l : Launch) (G : Gx) {S : SS} {d g : Nat} {x : Int32} {E : Option Value → SS → Prop} (hp : PreG S d g) (h : E (some (.int (nI (cn (fun k => isV (dV S d) (gV S g) k (wh x)) 120)))) S) :
    ∀ j, j ≤ 120 → V l G mi_X0_placesThat E 5 [some (.ref d), some (.ref g), some (.int x), some (.int (nI (cn (fun k => isV (dV S d) (gV S g) k (wh x)) j))), some (.int (nI j))] [] S 0 0 := by
  refine loopUp 120 fun j hj ih => ?_
  refine (V.segN (Γ := Γ_X0_placesThat) (hΓ_X0_placesThat l G) so_X0_placesThat 4 (sg := sg_X0_placesThat_5) so_X0_placesThat_5 ?_ : V l G mi_X0_placesThat _ (segPc sg_X0_placesThat_5) _ _ _ _ _)
  simp only [mL_X0_placesThat, mT_X0_placesThat, rc_X0_placesThat, rs_X0_placesThat, Γ_X0_placesThat, sg_X0_placesThat_0, sg_X0_placesThat_5, sg_X0_placesThat_26, sg_X0_placesThat_32, wn_X0_placesThat_0, wn_X0_placesThat_5, wn_X0_placesThat_26, wn_X0_placesThat_32, wp_c, ex_c, x_nop, x_goto, x_table, x_iinc, x_ldc, x_ldc2, x_iaload, x_faload, x_baload, x_caload, x_iastore, x_fastore, x_bastore, x_castore, x_aastore, x_alen, x_gets, x_new, x_newa, x_anew, x_invs, x_invi, x_invv, x_ret, x_iret, x_lret, x_fret, x_aret, x_lconst, x_fconst0, x_fconst1, x_fconst2, x_dconst0, x_dconst1, x_null, x_iadd, x_isub, x_imul, x_iand, x_ior, x_idiv, x_irem, x_ineg, x_ishl, x_ishr, x_land, x_ladd, x_lmul, x_lor, x_lushr, x_lshl, x_lcmp, x_i2l, x_l2i, x_i2c, x_i2f, x_f2d, x_d2i, x_d2l, x_fadd, x_fsub, x_fmul, x_fdiv, x_dadd, x_dsub, x_dmul, x_ddiv, x_fcmp, x_dcmp, x_dupI, x_dupR, x_dup2, x_popI, x_popR, ldP_I, ldP_L, ldP_F, ldP_D, ldP_R, ldP_N, x_iload, x_iload_n, x_lload, x_lload_n, x_fload, x_fload_n, x_dload, x_dload_n, x_aload, x_aload_n, x_istore, x_istore_n, x_lstore, x_lstore_n, x_fstore, x_fstore_n, x_dstore, x_dstore_n, x_astore, x_astore_n, x_astoreN, x_astore_nN, x_icmp_eq, x_icmp_ne, x_icmp_lt, x_icmp_ge, x_icmp_gt, x_icmp_le, x_if_eq, x_if_ne, x_if_lt, x_if_ge, x_if_gt, x_if_le, x_ifnull, x_ifnullR, x_ifnn, x_ifnnR, x_aaload2, x_cpI, x_cpF, x_oI, xk_bipush_120, xk_iconst_0, xk_bipush_m6, xk_iconst_1, xk_bipush_80, xk_iconst_4, xk_bipush_6, xk_iconst_2, xk_bipush_40, xk_iconst_3, xk_bipush_10, xk_iconst_5, xk_bipush_m2, xk_bipush_m4, xk_iconst_m1, xk_bipush_m5, xk_bipush_12, xk_bipush_100, xk_bipush_26, xk_bipush_48, xk_sipush_9999, xk_sipush_500, xk_bipush_7, xk_bipush_119, xk_bipush_m126, xk_bipush_127, xk_bipush_23, xk_sipush_m1022, xk_sipush_1023, xk_bipush_52, xg_0_0, xp_0_0, xg_0_1, xp_0_1, xg_0_2, xp_0_2, xg_0_3, xp_0_3, xg_0_4, xp_0_4, xg_0_5, xp_0_5, xg_0_6, xp_0_6, xg_0_7, xp_0_7, xg_0_8, xp_0_8, xg_1_0, xp_1_0, xg_1_1, xp_1_1, xg_1_2, xp_1_2, xg_1_3, xp_1_3, xg_2_0, xp_2_0, xg_2_1, xp_2_1, xg_2_2, xp_2_2, xg_3_0, xp_3_0, xg_3_1, xp_3_1, xg_3_2, xp_3_2, xg_3_3, xp_3_3, xg_3_4, xp_3_4, xg_3_5, xp_3_5, xg_3_6, xp_3_6, xg_3_7, xp_3_7, xg_3_8, xp_3_8, xg_3_9, xp_3_9, xg_3_10, xp_3_10, xg_3_11, xp_3_11, xg_4_0, xp_4_0, xg_4_1, xp_4_1, xg_5_0, xp_5_0, xg_5_1, xp_5_1, xg_6_0, xp_6_0, xg_6_1, xp_6_1, xg_6_2, xp_6_2, xg_6_3, xp_6_3, xg_6_4, xp_6_4, xg_6_5, xp_6_5, fv0, fv1, fv2, fv3, kI_0, kI_1, stL, wipeL, entLn, entL, List.getElem?_cons_zero, List.getElem?_cons_succ, List.getElem?_nil, List.set_cons_zero, List.set_cons_succ, List.set_nil, List.length_cons, List.length_nil, List.cons_append, List.nil_append, List.replicate, Nat.reduceAdd, Nat.reduceLeDiff, Nat.reduceSub, true_and, and_true, x_callS, x_callSN, x_callI, x_callIN, x_callV0, x_callV1, x_callV2, x_callV3, x_callV4, x_callV5, x_callV6, x_callV7, callP, List.take_succ_cons, List.take_zero, List.take_nil, List.drop_succ_cons, List.drop_zero, List.drop_nil, List.getLast?_singleton, List.getLast?_cons_cons, Option.some.injEq, Value.ref.injEq, exists_eq_left, exists_eq_left', Nat.zero_le, Nat.add_zero, ldcV_f, ldcV_fn, ldcV_l, ldcV_d, Nat.reduceMul, Nat.le_refl, List.reverse_cons, List.reverse_nil, Option.toList, List.map_cons, List.map_nil, List.sum_cons, List.sum_nil, Value.category, tblW_n, tblW_c, Int.cast_ofNat_Int, Int.reduceAdd, Int.reduceToNat, ofI_n, rc_X0_placeIs, rs_X0_placeIs, P_X0_placeIs]
  have hc := cn_le (fun k => isV (dV S d) (gV S g) k (wh x)) j
  simp only [hp.1.1, hp, bI_0, sK_stI, sR_stI, sK_stF, sR_stF, sK_stIA, sR_stIA, sK_stFA, sR_stFA, sI_stI, sI_stF, sI_stIA, sI_stFA, sF_stI, sF_stF, sF_stIA, sF_stFA, Nat.left_eq_add, Nat.add_eq_left, Nat.add_left_cancel_iff, Nat.reduceEqDiff, Nat.reduceEqDiff, Nat.succ_ne_self, false_and, and_false, if_false, if_true, nI_succ_sub, Option.some.injEq, Prod.mk.injEq, exists_eq_left', true_and, and_true, retI, retF, retV, retZ1, retZ0, retL, retA, retN, Nat.reduceAdd, Nat.reduceMul, Nat.reduceLT]
  simp (disch := omega) only [nlt0, nge0, neq0, ngt0, nle0, nI_ltI, nI_leI, nI_eq, nI_cl, in_nI, false_implies, true_implies, not_false_eq_true, not_true_eq_false, and_true, true_and, nI_add, pk_mul, implies_true, not_lt0]
  refine ⟨fun q => ?_, fun q => ?_⟩
  · have e : j = 120 := by omega
    subst e
    exact h
  · have ih := ih (by omega)
    rw [cn_s] at ih
    refine ⟨by omega, fun c => ?_, fun c => ?_⟩
    · rw [if_neg c] at ih
      exact ih
    · rw [if_pos (Decidable.not_not.mp c)] at ih
      exact ih
set_option maxHeartbeats 1000000 in
theorem ct_X0_placesThat (l : Launch) (G : Gx) : Ct l G mi_X0_placesThat P_X0_placesThat := by
  refine Ct.ofV mo_X0_placesThat (fun as S E h => ?_)
  unfold P_X0_placesThat at h
  split at h
  case h_2 => exact h.elim
  rename_i d g x
  refine ⟨by simp [entL, mL_X0_placesThat], ?_⟩
  refine wpN_ok (Γ := Γ_X0_placesThat) (hΓ_X0_placesThat l G) so_X0_placesThat 4 _ _ _ _ _ _ ?_
  simp only [mL_X0_placesThat, mT_X0_placesThat, rc_X0_placesThat, rs_X0_placesThat, Γ_X0_placesThat, sg_X0_placesThat_0, sg_X0_placesThat_5, sg_X0_placesThat_26, sg_X0_placesThat_32, wn_X0_placesThat_0, wn_X0_placesThat_5, wn_X0_placesThat_26, wn_X0_placesThat_32, wp_c, ex_c, x_nop, x_goto, x_table, x_iinc, x_ldc, x_ldc2, x_iaload, x_faload, x_baload, x_caload, x_iastore, x_fastore, x_bastore, x_castore, x_aastore, x_alen, x_gets, x_new, x_newa, x_anew, x_invs, x_invi, x_invv, x_ret, x_iret, x_lret, x_fret, x_aret, x_lconst, x_fconst0, x_fconst1, x_fconst2, x_dconst0, x_dconst1, x_null, x_iadd, x_isub, x_imul, x_iand, x_ior, x_idiv, x_irem, x_ineg, x_ishl, x_ishr, x_land, x_ladd, x_lmul, x_lor, x_lushr, x_lshl, x_lcmp, x_i2l, x_l2i, x_i2c, x_i2f, x_f2d, x_d2i, x_d2l, x_fadd, x_fsub, x_fmul, x_fdiv, x_dadd, x_dsub, x_dmul, x_ddiv, x_fcmp, x_dcmp, x_dupI, x_dupR, x_dup2, x_popI, x_popR, ldP_I, ldP_L, ldP_F, ldP_D, ldP_R, ldP_N, x_iload, x_iload_n, x_lload, x_lload_n, x_fload, x_fload_n, x_dload, x_dload_n, x_aload, x_aload_n, x_istore, x_istore_n, x_lstore, x_lstore_n, x_fstore, x_fstore_n, x_dstore, x_dstore_n, x_astore, x_astore_n, x_astoreN, x_astore_nN, x_icmp_eq, x_icmp_ne, x_icmp_lt, x_icmp_ge, x_icmp_gt, x_icmp_le, x_if_eq, x_if_ne, x_if_lt, x_if_ge, x_if_gt, x_if_le, x_ifnull, x_ifnullR, x_ifnn, x_ifnnR, x_aaload2, x_cpI, x_cpF, x_oI, xk_bipush_120, xk_iconst_0, xk_bipush_m6, xk_iconst_1, xk_bipush_80, xk_iconst_4, xk_bipush_6, xk_iconst_2, xk_bipush_40, xk_iconst_3, xk_bipush_10, xk_iconst_5, xk_bipush_m2, xk_bipush_m4, xk_iconst_m1, xk_bipush_m5, xk_bipush_12, xk_bipush_100, xk_bipush_26, xk_bipush_48, xk_sipush_9999, xk_sipush_500, xk_bipush_7, xk_bipush_119, xk_bipush_m126, xk_bipush_127, xk_bipush_23, xk_sipush_m1022, xk_sipush_1023, xk_bipush_52, xg_0_0, xp_0_0, xg_0_1, xp_0_1, xg_0_2, xp_0_2, xg_0_3, xp_0_3, xg_0_4, xp_0_4, xg_0_5, xp_0_5, xg_0_6, xp_0_6, xg_0_7, xp_0_7, xg_0_8, xp_0_8, xg_1_0, xp_1_0, xg_1_1, xp_1_1, xg_1_2, xp_1_2, xg_1_3, xp_1_3, xg_2_0, xp_2_0, xg_2_1, xp_2_1, xg_2_2, xp_2_2, xg_3_0, xp_3_0, xg_3_1, xp_3_1, xg_3_2, xp_3_2, xg_3_3, xp_3_3, xg_3_4, xp_3_4, xg_3_5, xp_3_5, xg_3_6, xp_3_6, xg_3_7, xp_3_7, xg_3_8, xp_3_8, xg_3_9, xp_3_9, xg_3_10, xp_3_10, xg_3_11, xp_3_11, xg_4_0, xp_4_0, xg_4_1, xp_4_1, xg_5_0, xp_5_0, xg_5_1, xp_5_1, xg_6_0, xp_6_0, xg_6_1, xp_6_1, xg_6_2, xp_6_2, xg_6_3, xp_6_3, xg_6_4, xp_6_4, xg_6_5, xp_6_5, fv0, fv1, fv2, fv3, kI_0, kI_1, stL, wipeL, entLn, entL, List.getElem?_cons_zero, List.getElem?_cons_succ, List.getElem?_nil, List.set_cons_zero, List.set_cons_succ, List.set_nil, List.length_cons, List.length_nil, List.cons_append, List.nil_append, List.replicate, Nat.reduceAdd, Nat.reduceLeDiff, Nat.reduceSub, true_and, and_true, x_callS, x_callSN, x_callI, x_callIN, x_callV0, x_callV1, x_callV2, x_callV3, x_callV4, x_callV5, x_callV6, x_callV7, callP, List.take_succ_cons, List.take_zero, List.take_nil, List.drop_succ_cons, List.drop_zero, List.drop_nil, List.getLast?_singleton, List.getLast?_cons_cons, Option.some.injEq, Value.ref.injEq, exists_eq_left, exists_eq_left', Nat.zero_le, Nat.add_zero, ldcV_f, ldcV_fn, ldcV_l, ldcV_d, Nat.reduceMul, Nat.le_refl, List.reverse_cons, List.reverse_nil, Option.toList, List.map_cons, List.map_nil, List.sum_cons, List.sum_nil, Value.category, tblW_n, tblW_c, Int.cast_ofNat_Int, Int.reduceAdd, Int.reduceToNat, ofI_n, rc_X0_placeIs, rs_X0_placeIs, P_X0_placeIs]
  exact lp_X0_placesThat l G h.1 h.2 0 (by omega)
/-- of all plates, the places that are so and whose the writer is -/
def whoV (G : GV) (k q : Nat) : Int32 := if q = 3 then G.p k else G.w k
def ofG (D : DV) (G : GV) (w q n : Nat) (c : Nat) : Nat := fo (fun c k => if whoV G k q = nI w ∧ isV D G k (q - 1) = true then c + 1 else c) c n
def ofV (D : DV) (w q n : Nat) : Nat := fo (fun c p => ofG D (D.g p) w q 120 c) 0 n
theorem ofG_s (D : DV) (G : GV) (w q n c : Nat) : ofG D G w q (n + 1) c = if whoV G n q = nI w ∧ isV D G n (q - 1) = true then ofG D G w q n c + 1 else ofG D G w q n c := rfl
theorem ofG_le (D : DV) (G : GV) (w q c : Nat) : ∀ n, ofG D G w q n c ≤ c + n
  | 0 => Nat.le_refl _
  | n + 1 => by
    have := ofG_le D G w q c n
    rw [ofG_s]
    split <;> omega
theorem ofV_s (D : DV) (w q n : Nat) : ofV D w q (n + 1) = ofG D (D.g n) w q 120 (ofV D w q n) := fo_s _ _ _
theorem ofV_le (D : DV) (w q : Nat) : ∀ n, ofV D w q n ≤ n * 120
  | 0 => Nat.le_refl _
  | n + 1 => by
    have := ofV_le D w q n
    have h2 := ofG_le D (D.g n) w q (ofV D w q n) 120
    rw [ofV_s]
    omega
def P_X0_placesOfWriter (as : List Value) (S : SS) (E : Option Value → SS → Prop) : Prop := match as with
  | [.ref d, .int w, .int x] => DeskAt S d ∧ StV (dV S d) ∧ vp_in w 5 ∧ ∃ n q, n ≤ 4 ∧ sI S d 6 = nI n ∧ (∀ p, p < n → GOK ((dV S d).g p)) ∧ 1 ≤ q ∧ q ≤ 3 ∧ x = nI q ∧ E (some (.int (nI (ofV (dV S d) w.toNatClampNeg q n)))) S
  | _ => False
def Γ_X0_placesOfWriter : List (MI × PT) := [(mi_X0_placeIs, P_X0_placeIs)]
theorem hΓ_X0_placesOfWriter (l : Launch) (G : Gx) : ∀ q ∈ Γ_X0_placesOfWriter, Ct l G q.1 q.2 := List.forall_mem_cons.mpr ⟨ct_X0_placeIs l G, fun _ h => absurd h List.not_mem_nil⟩
theorem wh_q {q : Nat} (h1 : 1 ≤ q) (h2 : q ≤ 3) : wh (nI q - nI 1) = q - 1 := by
  match q, h1, h2 with
  | 1, _, _ => rfl
  | 2, _, _ => rfl
  | 3, _, _ => rfl
set_option maxHeartbeats 1000000 in
theorem lp2_X0_placesOfWriter (l : Launch) (G : Gx) {S : SS} {d w n q p : Nat} {E : Option Value → SS → Prop} (hd : DeskAt S d) (hs : StV (dV S d)) (hw : w < 5) (hn : n ≤ 4) (en : sI S d 6 = nI n) (hG : GOK ((dV S d).g p)) (h1 : 1 ≤ q) (h2 : q ≤ 3) (hp : p < n)
    (h : ∀ x5 x6 x7, V l G mi_X0_placesOfWriter E 5 [some (.ref d), some (.int (nI w)), some (.int (nI q)), some (.int (nI (ofV (dV S d) w q (p + 1)))), some (.int (nI (p + 1))), x5, x6, x7] [] S 0 0) :
    ∀ k, k ≤ 120 → ∀ x7, V l G mi_X0_placesOfWriter E 26 [some (.ref d), some (.int (nI w)), some (.int (nI q)), some (.int (nI (ofG (dV S d) ((dV S d).g p) w q k (ofV (dV S d) w q p)))), some (.int (nI p)), some (.ref (d + 6 + 5 * p)), some (.int (nI k)), x7] [] S 0 0 := by
  refine loopUp 120 fun k hk ih x7 => ?_
  refine (V.segN (Γ := Γ_X0_placesOfWriter) (hΓ_X0_placesOfWriter l G) so_X0_placesOfWriter 5 (sg := sg_X0_placesOfWriter_26) so_X0_placesOfWriter_26 ?_ : V l G mi_X0_placesOfWriter _ (segPc sg_X0_placesOfWriter_26) _ _ _ _ _)
  simp only [mL_X0_placesOfWriter, mT_X0_placesOfWriter, rc_X0_placesOfWriter, rs_X0_placesOfWriter, Γ_X0_placesOfWriter, sg_X0_placesOfWriter_0, sg_X0_placesOfWriter_5, sg_X0_placesOfWriter_26, sg_X0_placesOfWriter_49, sg_X0_placesOfWriter_57, sg_X0_placesOfWriter_82, sg_X0_placesOfWriter_88, sg_X0_placesOfWriter_94, wn_X0_placesOfWriter_0, wn_X0_placesOfWriter_5, wn_X0_placesOfWriter_26, wn_X0_placesOfWriter_49, wn_X0_placesOfWriter_57, wn_X0_placesOfWriter_82, wn_X0_placesOfWriter_88, wn_X0_placesOfWriter_94, wp_c, ex_c, x_nop, x_goto, x_table, x_iinc, x_ldc, x_ldc2, x_iaload, x_faload, x_baload, x_caload, x_iastore, x_fastore, x_bastore, x_castore, x_aastore, x_alen, x_gets, x_new, x_newa, x_anew, x_invs, x_invi, x_invv, x_ret, x_iret, x_lret, x_fret, x_aret, x_lconst, x_fconst0, x_fconst1, x_fconst2, x_dconst0, x_dconst1, x_null, x_iadd, x_isub, x_imul, x_iand, x_ior, x_idiv, x_irem, x_ineg, x_ishl, x_ishr, x_land, x_ladd, x_lmul, x_lor, x_lushr, x_lshl, x_lcmp, x_i2l, x_l2i, x_i2c, x_i2f, x_f2d, x_d2i, x_d2l, x_fadd, x_fsub, x_fmul, x_fdiv, x_dadd, x_dsub, x_dmul, x_ddiv, x_fcmp, x_dcmp, x_dupI, x_dupR, x_dup2, x_popI, x_popR, ldP_I, ldP_L, ldP_F, ldP_D, ldP_R, ldP_N, x_iload, x_iload_n, x_lload, x_lload_n, x_fload, x_fload_n, x_dload, x_dload_n, x_aload, x_aload_n, x_istore, x_istore_n, x_lstore, x_lstore_n, x_fstore, x_fstore_n, x_dstore, x_dstore_n, x_astore, x_astore_n, x_astoreN, x_astore_nN, x_icmp_eq, x_icmp_ne, x_icmp_lt, x_icmp_ge, x_icmp_gt, x_icmp_le, x_if_eq, x_if_ne, x_if_lt, x_if_ge, x_if_gt, x_if_le, x_ifnull, x_ifnullR, x_ifnn, x_ifnnR, x_aaload2, x_cpI, x_cpF, x_oI, xk_bipush_120, xk_iconst_0, xk_bipush_m6, xk_iconst_1, xk_bipush_80, xk_iconst_4, xk_bipush_6, xk_iconst_2, xk_bipush_40, xk_iconst_3, xk_bipush_10, xk_iconst_5, xk_bipush_m2, xk_bipush_m4, xk_iconst_m1, xk_bipush_m5, xk_bipush_12, xk_bipush_100, xk_bipush_26, xk_bipush_48, xk_sipush_9999, xk_sipush_500, xk_bipush_7, xk_bipush_119, xk_bipush_m126, xk_bipush_127, xk_bipush_23, xk_sipush_m1022, xk_sipush_1023, xk_bipush_52, xg_0_0, xp_0_0, xg_0_1, xp_0_1, xg_0_2, xp_0_2, xg_0_3, xp_0_3, xg_0_4, xp_0_4, xg_0_5, xp_0_5, xg_0_6, xp_0_6, xg_0_7, xp_0_7, xg_0_8, xp_0_8, xg_1_0, xp_1_0, xg_1_1, xp_1_1, xg_1_2, xp_1_2, xg_1_3, xp_1_3, xg_2_0, xp_2_0, xg_2_1, xp_2_1, xg_2_2, xp_2_2, xg_3_0, xp_3_0, xg_3_1, xp_3_1, xg_3_2, xp_3_2, xg_3_3, xp_3_3, xg_3_4, xp_3_4, xg_3_5, xp_3_5, xg_3_6, xp_3_6, xg_3_7, xp_3_7, xg_3_8, xp_3_8, xg_3_9, xp_3_9, xg_3_10, xp_3_10, xg_3_11, xp_3_11, xg_4_0, xp_4_0, xg_4_1, xp_4_1, xg_5_0, xp_5_0, xg_5_1, xp_5_1, xg_6_0, xp_6_0, xg_6_1, xp_6_1, xg_6_2, xp_6_2, xg_6_3, xp_6_3, xg_6_4, xp_6_4, xg_6_5, xp_6_5, fv0, fv1, fv2, fv3, kI_0, kI_1, stL, wipeL, entLn, entL, List.getElem?_cons_zero, List.getElem?_cons_succ, List.getElem?_nil, List.set_cons_zero, List.set_cons_succ, List.set_nil, List.length_cons, List.length_nil, List.cons_append, List.nil_append, List.replicate, Nat.reduceAdd, Nat.reduceLeDiff, Nat.reduceSub, true_and, and_true, x_callS, x_callSN, x_callI, x_callIN, x_callV0, x_callV1, x_callV2, x_callV3, x_callV4, x_callV5, x_callV6, x_callV7, callP, List.take_succ_cons, List.take_zero, List.take_nil, List.drop_succ_cons, List.drop_zero, List.drop_nil, List.getLast?_singleton, List.getLast?_cons_cons, Option.some.injEq, Value.ref.injEq, exists_eq_left, exists_eq_left', Nat.zero_le, Nat.add_zero, ldcV_f, ldcV_fn, ldcV_l, ldcV_d, Nat.reduceMul, Nat.le_refl, List.reverse_cons, List.reverse_nil, Option.toList, List.map_cons, List.map_nil, List.sum_cons, List.sum_nil, Value.category, tblW_n, tblW_c, Int.cast_ofNat_Int, Int.reduceAdd, Int.reduceToNat, ofI_n, rc_X0_placeIs, rs_X0_placeIs, P_X0_placeIs]
  have hc := ofG_le (dV S d) ((dV S d).g p) w q (ofV (dV S d) w q p) k
  have hc2 := ofV_le (dV S d) w q p
  have hg := (hd.2.2.2.2.2.2.2.2.2.2.2 p (by omega)).2
  have hpg : PreG S d (d + 6 + 5 * p) := ⟨hd, hs, hg, hG⟩
  obtain ⟨g0, g1, g2, g3, g4, g5, g6, g7, g8⟩ := hg
  simp only [hd.1, hpg, bI_0, g0, g1, g2, g3, g4, g5, g6, g7, g8, wh_q h1 h2, sK_stI, sR_stI, sK_stF, sR_stF, sK_stIA, sR_stIA, sK_stFA, sR_stFA, sI_stI, sI_stF, sI_stIA, sI_stFA, sF_stI, sF_stF, sF_stIA, sF_stFA, Nat.left_eq_add, Nat.add_eq_left, Nat.add_left_cancel_iff, Nat.reduceEqDiff, Nat.reduceEqDiff, Nat.succ_ne_self, false_and, and_false, if_false, if_true, nI_succ_sub, Option.some.injEq, Prod.mk.injEq, exists_eq_left', true_and, and_true, retI, retF, retV, retZ1, retZ0, retL, retA, retN, Nat.reduceAdd, Nat.reduceMul, Nat.reduceLT]
  simp (disch := omega) only [nlt0, nge0, neq0, ngt0, nle0, nI_ltI, nI_leI, nI_eq, nI_cl, in_nI, false_implies, true_implies, not_false_eq_true, not_true_eq_false, and_true, true_and, nI_add, pk_mul, implies_true, not_lt0]
  refine ⟨fun q1 => ?_, fun q1 => ?_⟩
  · have e : k = 120 := by omega
    subst e
    rw [← ofV_s]
    exact h _ _ _
  · have ih := ih (by omega)
    rw [ofG_s] at ih
    have eW : ¬ q = 3 → whoV ((dV S d).g p) k q = sI S (d + 6 + 5 * p + 3) k := fun c => if_neg c
    have eP : q = 3 → whoV ((dV S d).g p) k q = sI S (d + 6 + 5 * p + 4) k := fun c => if_pos c
    have eg : gV S (d + 6 + 5 * p) = (dV S d).g p := rfl
    rw [eg]
    refine ⟨fun q3 => ?_, fun q3 => ?_⟩
    · rw [eW q3] at ih
      refine ⟨by omega, fun c => ?_, fun c => ⟨by omega, fun c2 => ?_, fun c2 => ?_⟩⟩
      · rw [if_neg (fun a => c a.1)] at ih
        exact ih _
      · rw [if_neg (fun a => c2 a.2)] at ih
        exact ih _
      · rw [if_pos ⟨Decidable.not_not.mp c, Decidable.not_not.mp c2⟩] at ih
        exact ih _
    · rw [eP (Decidable.not_not.mp q3)] at ih
      refine ⟨by omega, fun c => ?_, fun c => ⟨by omega, fun c2 => ?_, fun c2 => ?_⟩⟩
      · rw [if_neg (fun a => c a.1)] at ih
        exact ih _
      · rw [if_neg (fun a => c2 a.2)] at ih
        exact ih _
      · rw [if_pos ⟨Decidable.not_not.mp c, Decidable.not_not.mp c2⟩] at ih
        exact ih _
set_option maxHeartbeats 1000000 in
theorem lp_X0_placesOfWriter (l : Launch) (G : Gx) {S : SS} {d w n q : Nat} {E : Option Value → SS → Prop} (hd : DeskAt S d) (hs : StV (dV S d)) (hw : w < 5) (hn : n ≤ 4) (en : sI S d 6 = nI n) (hG : ∀ p, p < n → GOK ((dV S d).g p)) (h1 : 1 ≤ q) (h2 : q ≤ 3)
    (h : E (some (.int (nI (ofV (dV S d) w q n)))) S) :
    ∀ p, p ≤ n → ∀ x5 x6 x7, V l G mi_X0_placesOfWriter E 5 [some (.ref d), some (.int (nI w)), some (.int (nI q)), some (.int (nI (ofV (dV S d) w q p))), some (.int (nI p)), x5, x6, x7] [] S 0 0 := by
  refine loopUp n fun p hp ih x5 x6 x7 => ?_
  refine (V.segN (Γ := Γ_X0_placesOfWriter) (hΓ_X0_placesOfWriter l G) so_X0_placesOfWriter 5 (sg := sg_X0_placesOfWriter_5) so_X0_placesOfWriter_5 ?_ : V l G mi_X0_placesOfWriter _ (segPc sg_X0_placesOfWriter_5) _ _ _ _ _)
  simp only [mL_X0_placesOfWriter, mT_X0_placesOfWriter, rc_X0_placesOfWriter, rs_X0_placesOfWriter, Γ_X0_placesOfWriter, sg_X0_placesOfWriter_0, sg_X0_placesOfWriter_5, sg_X0_placesOfWriter_26, sg_X0_placesOfWriter_49, sg_X0_placesOfWriter_57, sg_X0_placesOfWriter_82, sg_X0_placesOfWriter_88, sg_X0_placesOfWriter_94, wn_X0_placesOfWriter_0, wn_X0_placesOfWriter_5, wn_X0_placesOfWriter_26, wn_X0_placesOfWriter_49, wn_X0_placesOfWriter_57, wn_X0_placesOfWriter_82, wn_X0_placesOfWriter_88, wn_X0_placesOfWriter_94, wp_c, ex_c, x_nop, x_goto, x_table, x_iinc, x_ldc, x_ldc2, x_iaload, x_faload, x_baload, x_caload, x_iastore, x_fastore, x_bastore, x_castore, x_aastore, x_alen, x_gets, x_new, x_newa, x_anew, x_invs, x_invi, x_invv, x_ret, x_iret, x_lret, x_fret, x_aret, x_lconst, x_fconst0, x_fconst1, x_fconst2, x_dconst0, x_dconst1, x_null, x_iadd, x_isub, x_imul, x_iand, x_ior, x_idiv, x_irem, x_ineg, x_ishl, x_ishr, x_land, x_ladd, x_lmul, x_lor, x_lushr, x_lshl, x_lcmp, x_i2l, x_l2i, x_i2c, x_i2f, x_f2d, x_d2i, x_d2l, x_fadd, x_fsub, x_fmul, x_fdiv, x_dadd, x_dsub, x_dmul, x_ddiv, x_fcmp, x_dcmp, x_dupI, x_dupR, x_dup2, x_popI, x_popR, ldP_I, ldP_L, ldP_F, ldP_D, ldP_R, ldP_N, x_iload, x_iload_n, x_lload, x_lload_n, x_fload, x_fload_n, x_dload, x_dload_n, x_aload, x_aload_n, x_istore, x_istore_n, x_lstore, x_lstore_n, x_fstore, x_fstore_n, x_dstore, x_dstore_n, x_astore, x_astore_n, x_astoreN, x_astore_nN, x_icmp_eq, x_icmp_ne, x_icmp_lt, x_icmp_ge, x_icmp_gt, x_icmp_le, x_if_eq, x_if_ne, x_if_lt, x_if_ge, x_if_gt, x_if_le, x_ifnull, x_ifnullR, x_ifnn, x_ifnnR, x_aaload2, x_cpI, x_cpF, x_oI, xk_bipush_120, xk_iconst_0, xk_bipush_m6, xk_iconst_1, xk_bipush_80, xk_iconst_4, xk_bipush_6, xk_iconst_2, xk_bipush_40, xk_iconst_3, xk_bipush_10, xk_iconst_5, xk_bipush_m2, xk_bipush_m4, xk_iconst_m1, xk_bipush_m5, xk_bipush_12, xk_bipush_100, xk_bipush_26, xk_bipush_48, xk_sipush_9999, xk_sipush_500, xk_bipush_7, xk_bipush_119, xk_bipush_m126, xk_bipush_127, xk_bipush_23, xk_sipush_m1022, xk_sipush_1023, xk_bipush_52, xg_0_0, xp_0_0, xg_0_1, xp_0_1, xg_0_2, xp_0_2, xg_0_3, xp_0_3, xg_0_4, xp_0_4, xg_0_5, xp_0_5, xg_0_6, xp_0_6, xg_0_7, xp_0_7, xg_0_8, xp_0_8, xg_1_0, xp_1_0, xg_1_1, xp_1_1, xg_1_2, xp_1_2, xg_1_3, xp_1_3, xg_2_0, xp_2_0, xg_2_1, xp_2_1, xg_2_2, xp_2_2, xg_3_0, xp_3_0, xg_3_1, xp_3_1, xg_3_2, xp_3_2, xg_3_3, xp_3_3, xg_3_4, xp_3_4, xg_3_5, xp_3_5, xg_3_6, xp_3_6, xg_3_7, xp_3_7, xg_3_8, xp_3_8, xg_3_9, xp_3_9, xg_3_10, xp_3_10, xg_3_11, xp_3_11, xg_4_0, xp_4_0, xg_4_1, xp_4_1, xg_5_0, xp_5_0, xg_5_1, xp_5_1, xg_6_0, xp_6_0, xg_6_1, xp_6_1, xg_6_2, xp_6_2, xg_6_3, xp_6_3, xg_6_4, xp_6_4, xg_6_5, xp_6_5, fv0, fv1, fv2, fv3, kI_0, kI_1, stL, wipeL, entLn, entL, List.getElem?_cons_zero, List.getElem?_cons_succ, List.getElem?_nil, List.set_cons_zero, List.set_cons_succ, List.set_nil, List.length_cons, List.length_nil, List.cons_append, List.nil_append, List.replicate, Nat.reduceAdd, Nat.reduceLeDiff, Nat.reduceSub, true_and, and_true, x_callS, x_callSN, x_callI, x_callIN, x_callV0, x_callV1, x_callV2, x_callV3, x_callV4, x_callV5, x_callV6, x_callV7, callP, List.take_succ_cons, List.take_zero, List.take_nil, List.drop_succ_cons, List.drop_zero, List.drop_nil, List.getLast?_singleton, List.getLast?_cons_cons, Option.some.injEq, Value.ref.injEq, exists_eq_left, exists_eq_left', Nat.zero_le, Nat.add_zero, ldcV_f, ldcV_fn, ldcV_l, ldcV_d, Nat.reduceMul, Nat.le_refl, List.reverse_cons, List.reverse_nil, Option.toList, List.map_cons, List.map_nil, List.sum_cons, List.sum_nil, Value.category, tblW_n, tblW_c, Int.cast_ofNat_Int, Int.reduceAdd, Int.reduceToNat, ofI_n, rc_X0_placeIs, rs_X0_placeIs, P_X0_placeIs]
  have hd0 := hd
  obtain ⟨d0, d1, d2, d3, d4, d5, d6, d7, d8, d9, d10, d11⟩ := hd
  simp only [d0, d5, d10, en, sK_stI, sR_stI, sK_stF, sR_stF, sK_stIA, sR_stIA, sK_stFA, sR_stFA, sI_stI, sI_stF, sI_stIA, sI_stFA, sF_stI, sF_stF, sF_stIA, sF_stFA, Nat.left_eq_add, Nat.add_eq_left, Nat.add_left_cancel_iff, Nat.reduceEqDiff, Nat.reduceEqDiff, Nat.succ_ne_self, false_and, and_false, if_false, if_true, nI_succ_sub, Option.some.injEq, Prod.mk.injEq, exists_eq_left', true_and, and_true, retI, retF, retV, retZ1, retZ0, retL, retA, retN, Nat.reduceAdd, Nat.reduceMul, Nat.reduceLT]
  simp (disch := omega) only [nlt0, nge0, neq0, ngt0, nle0, nI_ltI, nI_leI, nI_eq, nI_cl, in_nI, false_implies, true_implies, not_false_eq_true, not_true_eq_false, and_true, true_and, nI_add, pk_mul, implies_true, not_lt0]
  refine ⟨fun q1 => ?_, fun q1 => ⟨by omega, _, (d11 p (by omega)).1, ?_⟩⟩
  · have e : p = n := by omega
    subst e
    exact h
  · exact lp2_X0_placesOfWriter l G hd0 hs hw hn en (hG p (by omega)) h1 h2 (by omega) (fun x5 x6 x7 => ih (by omega) x5 x6 x7) 0 (by omega) _
set_option maxHeartbeats 1000000 in
theorem ct_X0_placesOfWriter (l : Launch) (G : Gx) : Ct l G mi_X0_placesOfWriter P_X0_placesOfWriter := by
  refine Ct.ofV mo_X0_placesOfWriter (fun as S E h => ?_)
  unfold P_X0_placesOfWriter at h
  split at h
  case h_2 => exact h.elim
  rename_i d w x
  refine ⟨by simp [entL, mL_X0_placesOfWriter], ?_⟩
  refine wpN_ok (Γ := Γ_X0_placesOfWriter) (hΓ_X0_placesOfWriter l G) so_X0_placesOfWriter 4 _ _ _ _ _ _ ?_
  simp only [mL_X0_placesOfWriter, mT_X0_placesOfWriter, rc_X0_placesOfWriter, rs_X0_placesOfWriter, Γ_X0_placesOfWriter, sg_X0_placesOfWriter_0, sg_X0_placesOfWriter_5, sg_X0_placesOfWriter_26, sg_X0_placesOfWriter_49, sg_X0_placesOfWriter_57, sg_X0_placesOfWriter_82, sg_X0_placesOfWriter_88, sg_X0_placesOfWriter_94, wn_X0_placesOfWriter_0, wn_X0_placesOfWriter_5, wn_X0_placesOfWriter_26, wn_X0_placesOfWriter_49, wn_X0_placesOfWriter_57, wn_X0_placesOfWriter_82, wn_X0_placesOfWriter_88, wn_X0_placesOfWriter_94, wp_c, ex_c, x_nop, x_goto, x_table, x_iinc, x_ldc, x_ldc2, x_iaload, x_faload, x_baload, x_caload, x_iastore, x_fastore, x_bastore, x_castore, x_aastore, x_alen, x_gets, x_new, x_newa, x_anew, x_invs, x_invi, x_invv, x_ret, x_iret, x_lret, x_fret, x_aret, x_lconst, x_fconst0, x_fconst1, x_fconst2, x_dconst0, x_dconst1, x_null, x_iadd, x_isub, x_imul, x_iand, x_ior, x_idiv, x_irem, x_ineg, x_ishl, x_ishr, x_land, x_ladd, x_lmul, x_lor, x_lushr, x_lshl, x_lcmp, x_i2l, x_l2i, x_i2c, x_i2f, x_f2d, x_d2i, x_d2l, x_fadd, x_fsub, x_fmul, x_fdiv, x_dadd, x_dsub, x_dmul, x_ddiv, x_fcmp, x_dcmp, x_dupI, x_dupR, x_dup2, x_popI, x_popR, ldP_I, ldP_L, ldP_F, ldP_D, ldP_R, ldP_N, x_iload, x_iload_n, x_lload, x_lload_n, x_fload, x_fload_n, x_dload, x_dload_n, x_aload, x_aload_n, x_istore, x_istore_n, x_lstore, x_lstore_n, x_fstore, x_fstore_n, x_dstore, x_dstore_n, x_astore, x_astore_n, x_astoreN, x_astore_nN, x_icmp_eq, x_icmp_ne, x_icmp_lt, x_icmp_ge, x_icmp_gt, x_icmp_le, x_if_eq, x_if_ne, x_if_lt, x_if_ge, x_if_gt, x_if_le, x_ifnull, x_ifnullR, x_ifnn, x_ifnnR, x_aaload2, x_cpI, x_cpF, x_oI, xk_bipush_120, xk_iconst_0, xk_bipush_m6, xk_iconst_1, xk_bipush_80, xk_iconst_4, xk_bipush_6, xk_iconst_2, xk_bipush_40, xk_iconst_3, xk_bipush_10, xk_iconst_5, xk_bipush_m2, xk_bipush_m4, xk_iconst_m1, xk_bipush_m5, xk_bipush_12, xk_bipush_100, xk_bipush_26, xk_bipush_48, xk_sipush_9999, xk_sipush_500, xk_bipush_7, xk_bipush_119, xk_bipush_m126, xk_bipush_127, xk_bipush_23, xk_sipush_m1022, xk_sipush_1023, xk_bipush_52, xg_0_0, xp_0_0, xg_0_1, xp_0_1, xg_0_2, xp_0_2, xg_0_3, xp_0_3, xg_0_4, xp_0_4, xg_0_5, xp_0_5, xg_0_6, xp_0_6, xg_0_7, xp_0_7, xg_0_8, xp_0_8, xg_1_0, xp_1_0, xg_1_1, xp_1_1, xg_1_2, xp_1_2, xg_1_3, xp_1_3, xg_2_0, xp_2_0, xg_2_1, xp_2_1, xg_2_2, xp_2_2, xg_3_0, xp_3_0, xg_3_1, xp_3_1, xg_3_2, xp_3_2, xg_3_3, xp_3_3, xg_3_4, xp_3_4, xg_3_5, xp_3_5, xg_3_6, xp_3_6, xg_3_7, xp_3_7, xg_3_8, xp_3_8, xg_3_9, xp_3_9, xg_3_10, xp_3_10, xg_3_11, xp_3_11, xg_4_0, xp_4_0, xg_4_1, xp_4_1, xg_5_0, xp_5_0, xg_5_1, xp_5_1, xg_6_0, xp_6_0, xg_6_1, xp_6_1, xg_6_2, xp_6_2, xg_6_3, xp_6_3, xg_6_4, xp_6_4, xg_6_5, xp_6_5, fv0, fv1, fv2, fv3, kI_0, kI_1, stL, wipeL, entLn, entL, List.getElem?_cons_zero, List.getElem?_cons_succ, List.getElem?_nil, List.set_cons_zero, List.set_cons_succ, List.set_nil, List.length_cons, List.length_nil, List.cons_append, List.nil_append, List.replicate, Nat.reduceAdd, Nat.reduceLeDiff, Nat.reduceSub, true_and, and_true, x_callS, x_callSN, x_callI, x_callIN, x_callV0, x_callV1, x_callV2, x_callV3, x_callV4, x_callV5, x_callV6, x_callV7, callP, List.take_succ_cons, List.take_zero, List.take_nil, List.drop_succ_cons, List.drop_zero, List.drop_nil, List.getLast?_singleton, List.getLast?_cons_cons, Option.some.injEq, Value.ref.injEq, exists_eq_left, exists_eq_left', Nat.zero_le, Nat.add_zero, ldcV_f, ldcV_fn, ldcV_l, ldcV_d, Nat.reduceMul, Nat.le_refl, List.reverse_cons, List.reverse_nil, Option.toList, List.map_cons, List.map_nil, List.sum_cons, List.sum_nil, Value.category, tblW_n, tblW_c, Int.cast_ofNat_Int, Int.reduceAdd, Int.reduceToNat, ofI_n, rc_X0_placeIs, rs_X0_placeIs, P_X0_placeIs]
  obtain ⟨hd, hs, hw0, n, q, hn, en, hG, h1, h2, rfl, h⟩ := h
  obtain ⟨w, hw, rfl⟩ := vp_in_of hw0 (by decide)
  rw [nI_cl (by omega)] at h
  exact lp_X0_placesOfWriter l G hd hs hw hn en hG h1 h2 h 0 (by omega) none none none
theorem okL_1 : okL FP.fconst1 := by unfold okL; decide
theorem okL_leftV {D : DV} {G : GV} {w k : Nat} (hs : StV D) (hw : w < 5) : ∀ n, okL (leftV D G w k n)
  | 0 => okL_1
  | n + 1 => by
    unfold leftV
    rw [fo_s]
    split
    · exact okL_dimV hs (okL_leftV hs hw n) hw
    · exact okL_leftV hs hw n