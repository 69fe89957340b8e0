-- needs: 18.nums 19.proj 20.spec 21.shape 22.leaf 23.fl 23.view 24.loops 26.near 27.quest 28.hours 29.xsame
/-! what would be -/
def TrialAt (S : SS) (t : Nat) : Prop := sK S t = some (5, 0) ∧ sR S t 0 = some (t + 1) ∧ sR S t 1 = some (t + 6) ∧ GlassAt S (t + 1) ∧ sK S (t + 6) = some (9, 120)
theorem TrialAt.fr {S T : SS} {lo hi t : Nat} (h : TrialAt S t) (hF : Fr S T lo hi) : TrialAt T t := by
  obtain ⟨h1, h2, h3, h4, h5⟩ := h
  refine ⟨?_, ?_, ?_, hF.glass h4, ?_⟩
  · rw [hF.1]; exact h1
  · rw [hF.2.1]; exact h2
  · rw [hF.2.1]; exact h3
  · rw [hF.1]; exact h5
abbrev frV (G : GV) (j : Nat) : Prop := G.t j = mI 6 ∧ G.p j = mI 6
def ahV (D : DV) (G : GV) (j : Nat) : UInt32 := aheadV D G (G.l j) j 120
def PreT (S : SS) (d t : Nat) : Prop := TrialAt S t ∧ PreG S d (t + 1) ∧ Ap d 26 t 7
theorem PreT.fr {S T : SS} {d t : Nat} (h : PreT S d t) (hF : Fr S T (t + 6) (t + 7)) : PreT T d t := by
  obtain ⟨h1, ⟨h2, h3, h4, h5⟩, h6⟩ := h
  have h6' := h6
  unfold Ap at h6'
  refine ⟨h1.fr hF, ⟨hF.desk h2, h3.ds (hF.ds (by omega)).symm, hF.glass h4, ?_⟩, h6⟩
  rw [hF.gV (by omega)]
  exact h5
def loF (D : DV) (G : GV) (f : Nat → UInt32) (m n : Nat) : Nat → UInt32 := fun j => if m ≤ j ∧ j < n ∧ frV G j then ahV D G j else f j
def P_X5_lookAhead (as : List Value) (S : SS) (E : Option Value → SS → Prop) : Prop := match as with
  | [.ref t, .ref d, .int a, .int b] => PreT S d t ∧ ∃ m n, m ≤ 120 ∧ n < 120 ∧ m ≤ n + 1 ∧ a = nI m ∧ b = nI n ∧ E none (stFA S (t + 6) (loF (dV S d) (gV S (t + 1)) (sF S (t + 6)) m (n + 1)))
  | _ => False
def Γ_X5_lookAhead : List (MI × PT) := [(mi_X1_isFree, P_X1_isFree), (mi_X0_lightAhead, P_X0_lightAhead)]
theorem hΓ_X5_lookAhead (l : Launch) (G : Gx) : ∀ q ∈ Γ_X5_lookAhead, Ct l G q.1 q.2 := List.forall_mem_cons.mpr ⟨ct_X1_isFree l G, List.forall_mem_cons.mpr ⟨ct_X0_lightAhead l G, fun _ h => absurd h List.not_mem_nil⟩⟩
theorem loF_s (D : DV) (G : GV) (f : Nat → UInt32) {m k : Nat} (hk : m ≤ k) (h : frV G k) : (fun j => if j = k then ahV D G k else loF D G f m k j) = loF D G f m (k + 1) := by
  funext j
  unfold loF
  by_cases c : j = k
  · rw [if_pos c, if_pos (by rw [c]; exact ⟨hk, by omega, h⟩), c]
  · rw [if_neg c]
    by_cases c2 : m ≤ j ∧ j < k ∧ frV G j
    · rw [if_pos c2, if_pos ⟨c2.1, by omega, c2.2.2⟩]
    · rw [if_neg c2, if_neg (fun a => c2 ⟨a.1, by omega, a.2.2⟩)]
theorem loF_n (D : DV) (G : GV) (f : Nat → UInt32) {m k : Nat} (h : ¬ frV G k) : loF D G f m k = loF D G f m (k + 1) := by
  funext j
  unfold loF
  by_cases c2 : m ≤ j ∧ j < k ∧ frV G j
  · rw [if_pos c2, if_pos ⟨c2.1, by omega, c2.2.2⟩]
  · rw [if_neg c2, if_neg]
    intro a
    by_cases c : j = k
    · rw [c] at a; exact h a.2.2
    · exact c2 ⟨a.1, by omega, a.2.2⟩
set_option maxHeartbeats 1000000 in
theorem lp_X5_lookAhead (l : Launch) (G : Gx) {S : SS} {t d m n : Nat} {E : Option Value → SS → Prop} (hp : PreT S d t) (hm : m ≤ 120) (hn : n < 120) (hmn : m ≤ n + 1) (h : E none (stFA S (t + 6) (loF (dV S d) (gV S (t + 1)) (sF S (t + 6)) m (n + 1)))) :
    ∀ k, k ≤ n + 1 → m ≤ k → V l G mi_X5_lookAhead E 3 [some (.ref t), some (.ref d), some (.int (nI m)), some (.int (nI n)), some (.int (nI k))] [] (stFA S (t + 6) (loF (dV S d) (gV S (t + 1)) (sF S (t + 6)) m k)) 0 0 := by
  refine loopUp (n + 1) fun k hk ih hmk => ?_
  refine (V.segN (Γ := Γ_X5_lookAhead) (hΓ_X5_lookAhead l G) so_X5_lookAhead 4 (sg := sg_X5_lookAhead_3) so_X5_lookAhead_3 ?_ : V l G mi_X5_lookAhead _ (segPc sg_X5_lookAhead_3) _ _ _ _ _)
  simp only [mL_X5_lookAhead, mT_X5_lookAhead, rc_X5_lookAhead, rs_X5_lookAhead, Γ_X5_lookAhead, sg_X5_lookAhead_0, sg_X5_lookAhead_3, sg_X5_lookAhead_38, sg_X5_lookAhead_44, wn_X5_lookAhead_0, wn_X5_lookAhead_3, wn_X5_lookAhead_38, wn_X5_lookAhead_44, wp_c, ex_c, x_nop, x_goto, x_table, x_iinc, x_ldc, x_ldc2, x_iaload, x_faload, x_baload, x_caload, x_iastore, x_fastore, x_bastore, x_castore, x_aastore, x_alen, x_gets, x_new, x_newa, x_anew, x_invs, x_invi, x_invv, x_ret, x_iret, x_lret, x_fret, x_aret, x_lconst, x_fconst0, x_fconst1, x_fconst2, x_dconst0, x_dconst1, x_null, x_iadd, x_isub, x_imul, x_iand, x_ior, x_idiv, x_irem, x_ineg, x_ishl, x_ishr, x_land, x_ladd, x_lmul, x_lor, x_lushr, x_lshl, x_lcmp, x_i2l, x_l2i, x_i2c, x_i2f, x_f2d, x_d2i, x_d2l, x_fadd, x_fsub, x_fmul, x_fdiv, x_dadd, x_dsub, x_dmul, x_ddiv, x_fcmp, x_dcmp, x_dupI, x_dupR, x_dup2, x_popI, x_popR, ldP_I, ldP_L, ldP_F, ldP_D, ldP_R, ldP_N, x_iload, x_iload_n, x_lload, x_lload_n, x_fload, x_fload_n, x_dload, x_dload_n, x_aload, x_aload_n, x_istore, x_istore_n, x_lstore, x_lstore_n, x_fstore, x_fstore_n, x_dstore, x_dstore_n, x_astore, x_astore_n, x_astoreN, x_astore_nN, x_icmp_eq, x_icmp_ne, x_icmp_lt, x_icmp_ge, x_icmp_gt, x_icmp_le, x_if_eq, x_if_ne, x_if_lt, x_if_ge, x_if_gt, x_if_le, x_ifnull, x_ifnullR, x_ifnn, x_ifnnR, x_aaload2, x_cpI, x_cpF, x_oI, xk_bipush_120, xk_iconst_0, xk_bipush_m6, xk_iconst_1, xk_bipush_80, xk_iconst_4, xk_bipush_6, xk_iconst_2, xk_bipush_40, xk_iconst_3, xk_bipush_10, xk_iconst_5, xk_bipush_m2, xk_bipush_m4, xk_iconst_m1, xk_bipush_m5, xk_bipush_12, xk_bipush_100, xk_bipush_26, xk_bipush_48, xk_sipush_9999, xk_sipush_500, xk_bipush_7, xk_bipush_119, xk_bipush_m126, xk_bipush_127, xk_bipush_23, xk_sipush_m1022, xk_sipush_1023, xk_bipush_52, xg_0_0, xp_0_0, xg_0_1, xp_0_1, xg_0_2, xp_0_2, xg_0_3, xp_0_3, xg_0_4, xp_0_4, xg_0_5, xp_0_5, xg_0_6, xp_0_6, xg_0_7, xp_0_7, xg_0_8, xp_0_8, xg_1_0, xp_1_0, xg_1_1, xp_1_1, xg_1_2, xp_1_2, xg_1_3, xp_1_3, xg_2_0, xp_2_0, xg_2_1, xp_2_1, xg_2_2, xp_2_2, xg_3_0, xp_3_0, xg_3_1, xp_3_1, xg_3_2, xp_3_2, xg_3_3, xp_3_3, xg_3_4, xp_3_4, xg_3_5, xp_3_5, xg_3_6, xp_3_6, xg_3_7, xp_3_7, xg_3_8, xp_3_8, xg_3_9, xp_3_9, xg_3_10, xp_3_10, xg_3_11, xp_3_11, xg_4_0, xp_4_0, xg_4_1, xp_4_1, xg_5_0, xp_5_0, xg_5_1, xp_5_1, xg_6_0, xp_6_0, xg_6_1, xp_6_1, xg_6_2, xp_6_2, xg_6_3, xp_6_3, xg_6_4, xp_6_4, xg_6_5, xp_6_5, fv0, fv1, fv2, fv3, kI_0, kI_1, stL, wipeL, entLn, entL, List.getElem?_cons_zero, List.getElem?_cons_succ, List.getElem?_nil, List.set_cons_zero, List.set_cons_succ, List.set_nil, List.length_cons, List.length_nil, List.cons_append, List.nil_append, List.replicate, Nat.reduceAdd, Nat.reduceLeDiff, Nat.reduceSub, true_and, and_true, x_callS, x_callSN, x_callI, x_callIN, x_callV0, x_callV1, x_callV2, x_callV3, x_callV4, x_callV5, x_callV6, x_callV7, callP, List.take_succ_cons, List.take_zero, List.take_nil, List.drop_succ_cons, List.drop_zero, List.drop_nil, List.getLast?_singleton, List.getLast?_cons_cons, Option.some.injEq, Value.ref.injEq, exists_eq_left, exists_eq_left', Nat.zero_le, Nat.add_zero, ldcV_f, ldcV_fn, ldcV_l, ldcV_d, Nat.reduceMul, Nat.le_refl, List.reverse_cons, List.reverse_nil, Option.toList, List.map_cons, List.map_nil, List.sum_cons, List.sum_nil, Value.category, tblW_n, tblW_c, Int.cast_ofNat_Int, Int.reduceAdd, Int.reduceToNat, ofI_n, rc_X1_isFree, rs_X1_isFree, P_X1_isFree, rc_X0_lightAhead, rs_X0_lightAhead, P_X0_lightAhead]
  have hF : Fr S (stFA S (t + 6) (loF (dV S d) (gV S (t + 1)) (sF S (t + 6)) m k)) (t + 6) (t + 7) := (Fr.refl _ _ _).stFA _ _ (by omega) (by omega)
  have hpT := hp.fr hF
  obtain ⟨⟨t0, t1, t2, t3, t4⟩, hpg, hap⟩ := hpT
  have hap' := hap
  unfold Ap at hap'
  have eG : gV (stFA S (t + 6) (loF (dV S d) (gV S (t + 1)) (sF S (t + 6)) m k)) (t + 1) = gV S (t + 1) := hF.gV (by omega)
  have eA : ∀ j, aheadV (dV (stFA S (t + 6) (loF (dV S d) (gV S (t + 1)) (sF S (t + 6)) m k)) d) (gV S (t + 1)) ((gV S (t + 1)).l j) j 120 = ahV (dV S d) (gV S (t + 1)) j := fun j =>
    aheadV_ds (hF.ds (by omega)) (GE.refl _) hp.2.1.2.2.2 _ j 120 (Nat.le_refl _)
  have hpg2 := hpg
  obtain ⟨p1, p2, p3, p4⟩ := hpg2
  rw [eG] at p4
  have s0 : sK S t = some (5, 0) := hp.1.1
  have s1 : sR S t 0 = some (t + 1) := hp.1.2.1
  have s2 : sR S t 1 = some (t + 6) := hp.1.2.2.1
  have s4 : sK S (t + 6) = some (9, 120) := hp.1.2.2.2.2
  have s5 : sK S d = some (0, 0) := hp.2.1.1.1
  have s6 : sK S (t + 1) = some (1, 0) := hp.1.2.2.2.1.1
  simp only [s0, s1, s2, s4, s5, s6, p1, p2, p3, p4, eG, eA, bI_0, sK_stI, sR_stI, sK_stF, sR_stF, sK_stIA, sR_stIA, sK_stFA, sR_stFA, sI_stI, sI_stF, sI_stIA, sI_stFA, sF_stI, sF_stF, sF_stIA, sF_stFA, Nat.left_eq_add, Nat.add_eq_left, Nat.add_left_cancel_iff, Nat.reduceEqDiff, Nat.reduceEqDiff, Nat.succ_ne_self, false_and, and_false, if_false, if_true, nI_succ_sub, Option.some.injEq, Prod.mk.injEq, exists_eq_left', true_and, and_true, retI, retF, retV, retZ1, retZ0, retL, retA, retN, Nat.reduceAdd, Nat.reduceMul, Nat.reduceLT]
  simp (disch := omega) only [nlt0, nge0, neq0, ngt0, nle0, nI_ltI, nI_leI, nI_eq, nI_cl, in_nI, false_implies, true_implies, not_false_eq_true, not_true_eq_false, and_true, true_and, nI_add, pk_mul, implies_true, not_lt0]
  have eF : bI (sI S (t + 1 + 2) k = mI 6 ∧ sI S (t + 1 + 4) k = mI 6) = bI (frV (gV S (t + 1)) k) := rfl
  rw [eF, bI_0]
  refine ⟨fun q => ?_, fun q => ⟨by omega, fun c => ?_, fun c => ⟨by omega, by omega, ?_⟩⟩⟩
  · have e : k = n + 1 := by omega
    subst e
    exact h
  · rw [loF_n _ _ _ c]
    exact ih (by omega) (by omega)
  · rw [stF_stFA, loF_s _ _ _ hmk (Decidable.not_not.mp c)]
    exact ih (by omega) (by omega)
set_option maxHeartbeats 1000000 in
theorem ct_X5_lookAhead (l : Launch) (G : Gx) : Ct l G mi_X5_lookAhead P_X5_lookAhead := by
  refine Ct.ofV mo_X5_lookAhead (fun as S E h => ?_)
  unfold P_X5_lookAhead at h
  split at h
  case h_2 => exact h.elim
  rename_i t d a b
  refine ⟨by simp [entL, mL_X5_lookAhead], ?_⟩
  refine wpN_ok (Γ := Γ_X5_lookAhead) (hΓ_X5_lookAhead l G) so_X5_lookAhead 4 _ _ _ _ _ _ ?_
  simp only [mL_X5_lookAhead, mT_X5_lookAhead, rc_X5_lookAhead, rs_X5_lookAhead, Γ_X5_lookAhead, sg_X5_lookAhead_0, sg_X5_lookAhead_3, sg_X5_lookAhead_38, sg_X5_lookAhead_44, wn_X5_lookAhead_0, wn_X5_lookAhead_3, wn_X5_lookAhead_38, wn_X5_lookAhead_44, wp_c, ex_c, x_nop, x_goto, x_table, x_iinc, x_ldc, x_ldc2, x_iaload, x_faload, x_baload, x_caload, x_iastore, x_fastore, x_bastore, x_castore, x_aastore, x_alen, x_gets, x_new, x_newa, x_anew, x_invs, x_invi, x_invv, x_ret, x_iret, x_lret, x_fret, x_aret, x_lconst, x_fconst0, x_fconst1, x_fconst2, x_dconst0, x_dconst1, x_null, x_iadd, x_isub, x_imul, x_iand, x_ior, x_idiv, x_irem, x_ineg, x_ishl, x_ishr, x_land, x_ladd, x_lmul, x_lor, x_lushr, x_lshl, x_lcmp, x_i2l, x_l2i, x_i2c, x_i2f, x_f2d, x_d2i, x_d2l, x_fadd, x_fsub, x_fmul, x_fdiv, x_dadd, x_dsub, x_dmul, x_ddiv, x_fcmp, x_dcmp, x_dupI, x_dupR, x_dup2, x_popI, x_popR, ldP_I, ldP_L, ldP_F, ldP_D, ldP_R, ldP_N, x_iload, x_iload_n, x_lload, x_lload_n, x_fload, x_fload_n, x_dload, x_dload_n, x_aload, x_aload_n, x_istore, x_istore_n, x_lstore, x_lstore_n, x_fstore, x_fstore_n, x_dstore, x_dstore_n, x_astore, x_astore_n, x_astoreN, x_astore_nN, x_icmp_eq, x_icmp_ne, x_icmp_lt, x_icmp_ge, x_icmp_gt, x_icmp_le, x_if_eq, x_if_ne, x_if_lt, x_if_ge, x_if_gt, x_if_le, x_ifnull, x_ifnullR, x_ifnn, x_ifnnR, x_aaload2, x_cpI, x_cpF, x_oI, xk_bipush_120, xk_iconst_0, xk_bipush_m6, xk_iconst_1, xk_bipush_80, xk_iconst_4, xk_bipush_6, xk_iconst_2, xk_bipush_40, xk_iconst_3, xk_bipush_10, xk_iconst_5, xk_bipush_m2, xk_bipush_m4, xk_iconst_m1, xk_bipush_m5, xk_bipush_12, xk_bipush_100, xk_bipush_26, xk_bipush_48, xk_sipush_9999, xk_sipush_500, xk_bipush_7, xk_bipush_119, xk_bipush_m126, xk_bipush_127, xk_bipush_23, xk_sipush_m1022, xk_sipush_1023, xk_bipush_52, xg_0_0, xp_0_0, xg_0_1, xp_0_1, xg_0_2, xp_0_2, xg_0_3, xp_0_3, xg_0_4, xp_0_4, xg_0_5, xp_0_5, xg_0_6, xp_0_6, xg_0_7, xp_0_7, xg_0_8, xp_0_8, xg_1_0, xp_1_0, xg_1_1, xp_1_1, xg_1_2, xp_1_2, xg_1_3, xp_1_3, xg_2_0, xp_2_0, xg_2_1, xp_2_1, xg_2_2, xp_2_2, xg_3_0, xp_3_0, xg_3_1, xp_3_1, xg_3_2, xp_3_2, xg_3_3, xp_3_3, xg_3_4, xp_3_4, xg_3_5, xp_3_5, xg_3_6, xp_3_6, xg_3_7, xp_3_7, xg_3_8, xp_3_8, xg_3_9, xp_3_9, xg_3_10, xp_3_10, xg_3_11, xp_3_11, xg_4_0, xp_4_0, xg_4_1, xp_4_1, xg_5_0, xp_5_0, xg_5_1, xp_5_1, xg_6_0, xp_6_0, xg_6_1, xp_6_1, xg_6_2, xp_6_2, xg_6_3, xp_6_3, xg_6_4, xp_6_4, xg_6_5, xp_6_5, fv0, fv1, fv2, fv3, kI_0, kI_1, stL, wipeL, entLn, entL, List.getElem?_cons_zero, List.getElem?_cons_succ, List.getElem?_nil, List.set_cons_zero, List.set_cons_succ, List.set_nil, List.length_cons, List.length_nil, List.cons_append, List.nil_append, List.replicate, Nat.reduceAdd, Nat.reduceLeDiff, Nat.reduceSub, true_and, and_true, x_callS, x_callSN, x_callI, x_callIN, x_callV0, x_callV1, x_callV2, x_callV3, x_callV4, x_callV5, x_callV6, x_callV7, callP, List.take_succ_cons, List.take_zero, List.take_nil, List.drop_succ_cons, List.drop_zero, List.drop_nil, List.getLast?_singleton, List.getLast?_cons_cons, Option.some.injEq, Value.ref.injEq, exists_eq_left, exists_eq_left', Nat.zero_le, Nat.add_zero, ldcV_f, ldcV_fn, ldcV_l, ldcV_d, Nat.reduceMul, Nat.le_refl, List.reverse_cons, List.reverse_nil, Option.toList, List.map_cons, List.map_nil, List.sum_cons, List.sum_nil, Value.category, tblW_n, tblW_c, Int.cast_ofNat_Int, Int.reduceAdd, Int.reduceToNat, ofI_n, rc_X1_isFree, rs_X1_isFree, P_X1_isFree, rc_X0_lightAhead, rs_X0_lightAhead, P_X0_lightAhead]
  obtain ⟨hp, m, n, hm, hn, hmn, rfl, rfl, h⟩ := h
  have e := lp_X5_lookAhead l G hp hm hn hmn h m hmn (Nat.le_refl _)
  have e2 : loF (dV S d) (gV S (t + 1)) (sF S (t + 6)) m m = sF S (t + 6) := by
    funext j
    unfold loF
    rw [if_neg (by omega)]
  rw [e2, stFA_self] at e
  exact e
/-- the brightest place with room -/
def bestV (D : DV) (G : GV) (n : Nat) : Int32 × UInt32 := fo (fun s j => if roV D G j = true ∧ gtF (ahV D G j) s.2 = true then (nI j, ahV D G j) else s) (mI 6, FP.fconst0) n
theorem bestV_s (D : DV) (G : GV) (n : Nat) : bestV D G (n + 1) = if roV D G n = true ∧ gtF (ahV D G n) (bestV D G n).2 = true then (nI n, ahV D G n) else bestV D G n := rfl
def P_X5_brightest (as : List Value) (S : SS) (E : Option Value → SS → Prop) : Prop := match as with
  | [.ref t, .ref d] => PreT S d t ∧ (∀ j, j < 120 → frV (gV S (t + 1)) j → sF S (t + 6) j = ahV (dV S d) (gV S (t + 1)) j) ∧ E (some (.int (bestV (dV S d) (gV S (t + 1)) 120).1)) S
  | _ => False
def Γ_X5_brightest : List (MI × PT) := [(mi_X1_isFree, P_X1_isFree), (mi_X0_isEnough, P_X0_isEnough)]
theorem hΓ_X5_brightest (l : Launch) (G : Gx) : ∀ q ∈ Γ_X5_brightest, Ct l G q.1 q.2 := List.forall_mem_cons.mpr ⟨ct_X1_isFree l G, List.forall_mem_cons.mpr ⟨ct_X0_isEnough l G, fun _ h => absurd h List.not_mem_nil⟩⟩
theorem roV_fr {D : DV} {G : GV} {j : Nat} : roV D G j = true ↔ frV G j ∧ enV D (ahV D G j) = true := by
  unfold roV frV ahV
  simp [and_assoc]
set_option maxHeartbeats 1000000 in
theorem lp_X5_brightest (l : Launch) (G : Gx) {S : SS} {t d : Nat} {E : Option Value → SS → Prop} (hp : PreT S d t) (ha : ∀ j, j < 120 → frV (gV S (t + 1)) j → sF S (t + 6) j = ahV (dV S d) (gV S (t + 1)) j) (h : E (some (.int (bestV (dV S d) (gV S (t + 1)) 120).1)) S) :
    ∀ k, k ≤ 120 → V l G mi_X5_brightest E 8 [some (.ref t), some (.ref d), some (.int (bestV (dV S d) (gV S (t + 1)) k).1), some (.float (bestV (dV S d) (gV S (t + 1)) k).2), some (.int (nI k))] [] S 0 0 := by
  refine loopUp 120 fun k hk ih => ?_
  refine (V.segN (Γ := Γ_X5_brightest) (hΓ_X5_brightest l G) so_X5_brightest 4 (sg := sg_X5_brightest_8) so_X5_brightest_8 ?_ : V l G mi_X5_brightest _ (segPc sg_X5_brightest_8) _ _ _ _ _)
  simp only [mL_X5_brightest, mT_X5_brightest, rc_X5_brightest, rs_X5_brightest, Γ_X5_brightest, sg_X5_brightest_0, sg_X5_brightest_8, sg_X5_brightest_64, sg_X5_brightest_70, wn_X5_brightest_0, wn_X5_brightest_8, wn_X5_brightest_64, wn_X5_brightest_70, wp_c, ex_c, x_nop, x_goto, x_table, x_iinc, x_ldc, x_ldc2, x_iaload, x_faload, x_baload, x_caload, x_iastore, x_fastore, x_bastore, x_castore, x_aastore, x_alen, x_gets, x_new, x_newa, x_anew, x_invs, x_invi, x_invv, x_ret, x_iret, x_lret, x_fret, x_aret, x_lconst, x_fconst0, x_fconst1, x_fconst2, x_dconst0, x_dconst1, x_null, x_iadd, x_isub, x_imul, x_iand, x_ior, x_idiv, x_irem, x_ineg, x_ishl, x_ishr, x_land, x_ladd, x_lmul, x_lor, x_lushr, x_lshl, x_lcmp, x_i2l, x_l2i, x_i2c, x_i2f, x_f2d, x_d2i, x_d2l, x_fadd, x_fsub, x_fmul, x_fdiv, x_dadd, x_dsub, x_dmul, x_ddiv, x_fcmp, x_dcmp, x_dupI, x_dupR, x_dup2, x_popI, x_popR, ldP_I, ldP_L, ldP_F, ldP_D, ldP_R, ldP_N, x_iload, x_iload_n, x_lload, x_lload_n, x_fload, x_fload_n, x_dload, x_dload_n, x_aload, x_aload_n, x_istore, x_istore_n, x_lstore, x_lstore_n, x_fstore, x_fstore_n, x_dstore, x_dstore_n, x_astore, x_astore_n, x_astoreN, x_astore_nN, x_icmp_eq, x_icmp_ne, x_icmp_lt, x_icmp_ge, x_icmp_gt, x_icmp_le, x_if_eq, x_if_ne, x_if_lt, x_if_ge, x_if_gt, x_if_le, x_ifnull, x_ifnullR, x_ifnn, x_ifnnR, x_aaload2, x_cpI, x_cpF, x_oI, xk_bipush_120, xk_iconst_0, xk_bipush_m6, xk_iconst_1, xk_bipush_80, xk_iconst_4, xk_bipush_6, xk_iconst_2, xk_bipush_40, xk_iconst_3, xk_bipush_10, xk_iconst_5, xk_bipush_m2, xk_bipush_m4, xk_iconst_m1, xk_bipush_m5, xk_bipush_12, xk_bipush_100, xk_bipush_26, xk_bipush_48, xk_sipush_9999, xk_sipush_500, xk_bipush_7, xk_bipush_119, xk_bipush_m126, xk_bipush_127, xk_bipush_23, xk_sipush_m1022, xk_sipush_1023, xk_bipush_52, xg_0_0, xp_0_0, xg_0_1, xp_0_1, xg_0_2, xp_0_2, xg_0_3, xp_0_3, xg_0_4, xp_0_4, xg_0_5, xp_0_5, xg_0_6, xp_0_6, xg_0_7, xp_0_7, xg_0_8, xp_0_8, xg_1_0, xp_1_0, xg_1_1, xp_1_1, xg_1_2, xp_1_2, xg_1_3, xp_1_3, xg_2_0, xp_2_0, xg_2_1, xp_2_1, xg_2_2, xp_2_2, xg_3_0, xp_3_0, xg_3_1, xp_3_1, xg_3_2, xp_3_2, xg_3_3, xp_3_3, xg_3_4, xp_3_4, xg_3_5, xp_3_5, xg_3_6, xp_3_6, xg_3_7, xp_3_7, xg_3_8, xp_3_8, xg_3_9, xp_3_9, xg_3_10, xp_3_10, xg_3_11, xp_3_11, xg_4_0, xp_4_0, xg_4_1, xp_4_1, xg_5_0, xp_5_0, xg_5_1, xp_5_1, xg_6_0, xp_6_0, xg_6_1, xp_6_1, xg_6_2, xp_6_2, xg_6_3, xp_6_3, xg_6_4, xp_6_4, xg_6_5, xp_6_5, fv0, fv1, fv2, fv3, kI_0, kI_1, stL, wipeL, entLn, entL, List.getElem?_cons_zero, List.getElem?_cons_succ, List.getElem?_nil, List.set_cons_zero, List.set_cons_succ, List.set_nil, List.length_cons, List.length_nil, List.cons_append, List.nil_append, List.replicate, Nat.reduceAdd, Nat.reduceLeDiff, Nat.reduceSub, true_and, and_true, x_callS, x_callSN, x_callI, x_callIN, x_callV0, x_callV1, x_callV2, x_callV3, x_callV4, x_callV5, x_callV6, x_callV7, callP, List.take_succ_cons, List.take_zero, List.take_nil, List.drop_succ_cons, List.drop_zero, List.drop_nil, List.getLast?_singleton, List.getLast?_cons_cons, Option.some.injEq, Value.ref.injEq, exists_eq_left, exists_eq_left', Nat.zero_le, Nat.add_zero, ldcV_f, ldcV_fn, ldcV_l, ldcV_d, Nat.reduceMul, Nat.le_refl, List.reverse_cons, List.reverse_nil, Option.toList, List.map_cons, List.map_nil, List.sum_cons, List.sum_nil, Value.category, tblW_n, tblW_c, Int.cast_ofNat_Int, Int.reduceAdd, Int.reduceToNat, ofI_n, rc_X1_isFree, rs_X1_isFree, P_X1_isFree, rc_X0_isEnough, rs_X0_isEnough, P_X0_isEnough]
  obtain ⟨⟨t0, t1, t2, t3, t4⟩, ⟨p1, p2, p3, p4⟩, -⟩ := hp
  have eF : bI (sI S (t + 1 + 2) k = mI 6 ∧ sI S (t + 1 + 4) k = mI 6) = bI (frV (gV S (t + 1)) k) := rfl
  have s6 : sK S (t + 1) = some (1, 0) := t3.1
  simp only [t0, t1, t2, t3, t4, p1, p1.1, p2.set, s6, eF, bI_0, sK_stI, sR_stI, sK_stF, sR_stF, sK_stIA, sR_stIA, sK_stFA, sR_stFA, sI_stI, sI_stF, sI_stIA, sI_stFA, sF_stI, sF_stF, sF_stIA, sF_stFA, Nat.left_eq_add, Nat.add_eq_left, Nat.add_left_cancel_iff, Nat.reduceEqDiff, Nat.reduceEqDiff, Nat.succ_ne_self, false_and, and_false, if_false, if_true, nI_succ_sub, Option.some.injEq, Prod.mk.injEq, exists_eq_left', true_and, and_true, retI, retF, retV, retZ1, retZ0, retL, retA, retN, Nat.reduceAdd, Nat.reduceMul, Nat.reduceLT]
  simp (disch := omega) only [nlt0, nge0, neq0, ngt0, nle0, nI_ltI, nI_leI, nI_eq, nI_cl, in_nI, false_implies, true_implies, not_false_eq_true, not_true_eq_false, and_true, true_and, nI_add, pk_mul, implies_true, not_lt0]
  have eF2 : (sI S (t + 1 + 2) k = mI 6 ∧ sI S (t + 1 + 4) k = mI 6) = frV (gV S (t + 1)) k := rfl
  have eE : ∀ x, enF (sI S (d + 1) 2) x = enV (dV S d) x := fun x => rfl
  rw [eF2, eE]
  refine ⟨fun q => ?_, fun q => ?_⟩
  · have e : k = 120 := by omega
    subst e
    exact h
  · have ih := ih (by omega)
    rw [bestV_s] at ih
    refine ⟨by omega, fun c => ?_, fun c => ⟨by omega, ?_⟩⟩
    · rw [if_neg (fun a => c (roV_fr.mp a.1).1)] at ih
      exact ih
    · have c := Decidable.not_not.mp c
      rw [ha k (by omega) c]
      refine ⟨fun c2 => ?_, fun c2 => ⟨by omega, fun c3 => ?_, fun c3 => ⟨by omega, ?_⟩⟩⟩
      · rw [if_neg (fun a => c2 (roV_fr.mp a.1).2)] at ih
        exact ih
      · have e : gtF (ahV (dV S d) (gV S (t + 1)) k) (bestV (dV S d) (gV S (t + 1)) k).2 = false := by unfold gtF; simp [c3]
        rw [if_neg (fun a => by have := a.2; rw [e] at this; exact absurd this (by decide))] at ih
        exact ih
      · rw [if_pos ⟨roV_fr.mpr ⟨c, Decidable.not_not.mp c2⟩, by unfold gtF; simpa using c3⟩] at ih
        exact ih
set_option maxHeartbeats 1000000 in
theorem ct_X5_brightest (l : Launch) (G : Gx) : Ct l G mi_X5_brightest P_X5_brightest := by
  refine Ct.ofV mo_X5_brightest (fun as S E h => ?_)
  unfold P_X5_brightest at h
  split at h
  case h_2 => exact h.elim
  rename_i t d
  refine ⟨by simp [entL, mL_X5_brightest], ?_⟩
  refine wpN_ok (Γ := Γ_X5_brightest) (hΓ_X5_brightest l G) so_X5_brightest 4 _ _ _ _ _ _ ?_
  simp only [mL_X5_brightest, mT_X5_brightest, rc_X5_brightest, rs_X5_brightest, Γ_X5_brightest, sg_X5_brightest_0, sg_X5_brightest_8, sg_X5_brightest_64, sg_X5_brightest_70, wn_X5_brightest_0, wn_X5_brightest_8, wn_X5_brightest_64, wn_X5_brightest_70, wp_c, ex_c, x_nop, x_goto, x_table, x_iinc, x_ldc, x_ldc2, x_iaload, x_faload, x_baload, x_caload, x_iastore, x_fastore, x_bastore, x_castore, x_aastore, x_alen, x_gets, x_new, x_newa, x_anew, x_invs, x_invi, x_invv, x_ret, x_iret, x_lret, x_fret, x_aret, x_lconst, x_fconst0, x_fconst1, x_fconst2, x_dconst0, x_dconst1, x_null, x_iadd, x_isub, x_imul, x_iand, x_ior, x_idiv, x_irem, x_ineg, x_ishl, x_ishr, x_land, x_ladd, x_lmul, x_lor, x_lushr, x_lshl, x_lcmp, x_i2l, x_l2i, x_i2c, x_i2f, x_f2d, x_d2i, x_d2l, x_fadd, x_fsub, x_fmul, x_fdiv, x_dadd, x_dsub, x_dmul, x_ddiv, x_fcmp, x_dcmp, x_dupI, x_dupR, x_dup2, x_popI, x_popR, ldP_I, ldP_L, ldP_F, ldP_D, ldP_R, ldP_N, x_iload, x_iload_n, x_lload, x_lload_n, x_fload, x_fload_n, x_dload, x_dload_n, x_aload, x_aload_n, x_istore, x_istore_n, x_lstore, x_lstore_n, x_fstore, x_fstore_n, x_dstore, x_dstore_n, x_astore, x_astore_n, x_astoreN, x_astore_nN, x_icmp_eq, x_icmp_ne, x_icmp_lt, x_icmp_ge, x_icmp_gt, x_icmp_le, x_if_eq, x_if_ne, x_if_lt, x_if_ge, x_if_gt, x_if_le, x_ifnull, x_ifnullR, x_ifnn, x_ifnnR, x_aaload2, x_cpI, x_cpF, x_oI, xk_bipush_120, xk_iconst_0, xk_bipush_m6, xk_iconst_1, xk_bipush_80, xk_iconst_4, xk_bipush_6, xk_iconst_2, xk_bipush_40, xk_iconst_3, xk_bipush_10, xk_iconst_5, xk_bipush_m2, xk_bipush_m4, xk_iconst_m1, xk_bipush_m5, xk_bipush_12, xk_bipush_100, xk_bipush_26, xk_bipush_48, xk_sipush_9999, xk_sipush_500, xk_bipush_7, xk_bipush_119, xk_bipush_m126, xk_bipush_127, xk_bipush_23, xk_sipush_m1022, xk_sipush_1023, xk_bipush_52, xg_0_0, xp_0_0, xg_0_1, xp_0_1, xg_0_2, xp_0_2, xg_0_3, xp_0_3, xg_0_4, xp_0_4, xg_0_5, xp_0_5, xg_0_6, xp_0_6, xg_0_7, xp_0_7, xg_0_8, xp_0_8, xg_1_0, xp_1_0, xg_1_1, xp_1_1, xg_1_2, xp_1_2, xg_1_3, xp_1_3, xg_2_0, xp_2_0, xg_2_1, xp_2_1, xg_2_2, xp_2_2, xg_3_0, xp_3_0, xg_3_1, xp_3_1, xg_3_2, xp_3_2, xg_3_3, xp_3_3, xg_3_4, xp_3_4, xg_3_5, xp_3_5, xg_3_6, xp_3_6, xg_3_7, xp_3_7, xg_3_8, xp_3_8, xg_3_9, xp_3_9, xg_3_10, xp_3_10, xg_3_11, xp_3_11, xg_4_0, xp_4_0, xg_4_1, xp_4_1, xg_5_0, xp_5_0, xg_5_1, xp_5_1, xg_6_0, xp_6_0, xg_6_1, xp_6_1, xg_6_2, xp_6_2, xg_6_3, xp_6_3, xg_6_4, xp_6_4, xg_6_5, xp_6_5, fv0, fv1, fv2, fv3, kI_0, kI_1, stL, wipeL, entLn, entL, List.getElem?_cons_zero, List.getElem?_cons_succ, List.getElem?_nil, List.set_cons_zero, List.set_cons_succ, List.set_nil, List.length_cons, List.length_nil, List.cons_append, List.nil_append, List.replicate, Nat.reduceAdd, Nat.reduceLeDiff, Nat.reduceSub, true_and, and_true, x_callS, x_callSN, x_callI, x_callIN, x_callV0, x_callV1, x_callV2, x_callV3, x_callV4, x_callV5, x_callV6, x_callV7, callP, List.take_succ_cons, List.take_zero, List.take_nil, List.drop_succ_cons, List.drop_zero, List.drop_nil, List.getLast?_singleton, List.getLast?_cons_cons, Option.some.injEq, Value.ref.injEq, exists_eq_left, exists_eq_left', Nat.zero_le, Nat.add_zero, ldcV_f, ldcV_fn, ldcV_l, ldcV_d, Nat.reduceMul, Nat.le_refl, List.reverse_cons, List.reverse_nil, Option.toList, List.map_cons, List.map_nil, List.sum_cons, List.sum_nil, Value.category, tblW_n, tblW_c, Int.cast_ofNat_Int, Int.reduceAdd, Int.reduceToNat, ofI_n, rc_X1_isFree, rs_X1_isFree, P_X1_isFree, rc_X0_isEnough, rs_X0_isEnough, P_X0_isEnough]
  obtain ⟨hp, ha, h⟩ := h
  exact lp_X5_brightest l G hp ha h 0 (by omega)
/-- a plate of a desk, and the one that is tried on -/
def PreX (S : SS) (d t g : Nat) : Prop := TrialAt S t ∧ PreG S d g ∧ Ap d 26 t 7 ∧ Ap (t + 1) 5 g 5
theorem PreX.copied {S T : SS} {d t g : Nat} (h : PreX S d t g) (hF : Fr S T (t + 1) (t + 1 + 5)) (hE : GE (gV T (t + 1)) (gV S g)) : PreT T d t ∧ DS (dV T d) (dV S d) ∧ gV T g = gV S g := by
  obtain ⟨h1, ⟨h2, h3, h4, h5⟩, h6, h7⟩ := h
  have h6' := h6
  have h7' := h7
  unfold Ap at h6' h7'
  have hd : DS (dV T d) (dV S d) := hF.ds (by omega)
  exact ⟨⟨h1.fr hF, ⟨hF.desk h2, h3.ds hd.symm, (h1.fr hF).2.2.2.1, GOK.congr hE.symm h5⟩, h6⟩, hd, hF.gV (by omega)⟩
theorem PreX.marked {S T U : SS} {d t g w k : Nat} (h : PreX S d t g) (hw : w < 5) (hF : Fr S T (t + 1) (t + 1 + 5)) (hE : GE (gV T (t + 1)) (gV S g)) (hU : Fr T U (t + 1) (t + 1 + 5)) (hM : GE (gV U (t + 1)) (markV (dV T d) (gV T (t + 1)) w k (nI 0))) :
    PreT U d t ∧ DS (dV U d) (dV S d) ∧ gV U g = gV S g ∧ GE (gV U (t + 1)) (markV (dV S d) (gV S g) w k (nI 0)) := by
  obtain ⟨⟨h1, ⟨h2, h3, h4, h5⟩, h6⟩, hD, hg⟩ := h.copied hF hE
  have h6' := h6
  have h7' := h.2.2.2
  unfold Ap at h6' h7'
  have hd : DS (dV U d) (dV T d) := hU.ds (by omega)
  exact ⟨⟨h1.fr hU, ⟨hU.desk h2, h3.ds hd.symm, (h1.fr hU).2.2.2.1, GOK.congr hM.symm (GOK_mark h3 h5 hw (by omega))⟩, h6⟩, hd.trans hD, by rw [hU.gV (by omega), hg], hM.trans (markV_ds hD hE hw k _)⟩
def P_X5_lettersSpoiled (as : List Value) (S : SS) (E : Option Value → SS → Prop) : Prop := match as with
  | [.ref t, .ref d, .ref g, .int w, .int k] => PreX S d t g ∧ vp_in w 5 ∧ vp_in k 120 ∧ ∀ S', Fr S S' t (t + 7) → E (some (.int (nI (lostV (dV S d) (gV S g) w.toNatClampNeg k.toNatClampNeg 120)))) S'
  | _ => False
def Γ_X5_lettersSpoiled : List (MI × PT) := [(mi_X1_copyFrom, P_X1_copyFrom), (mi_X0_mark, P_X0_mark)]
theorem hΓ_X5_lettersSpoiled (l : Launch) (G : Gx) : ∀ q ∈ Γ_X5_lettersSpoiled, Ct l G q.1 q.2 := List.forall_mem_cons.mpr ⟨ct_X1_copyFrom l G, List.forall_mem_cons.mpr ⟨ct_X0_mark l G, fun _ h => absurd h List.not_mem_nil⟩⟩
set_option maxHeartbeats 1000000 in
theorem ct_X5_lettersSpoiled (l : Launch) (G : Gx) : Ct l G mi_X5_lettersSpoiled P_X5_lettersSpoiled := by
  refine Ct.ofV mo_X5_lettersSpoiled (fun as S E h => ?_)
  unfold P_X5_lettersSpoiled at h
  split at h
  case h_2 => exact h.elim
  rename_i t d g w k
  refine ⟨by simp [entL, mL_X5_lettersSpoiled], ?_⟩
  refine wpN_ok (Γ := Γ_X5_lettersSpoiled) (hΓ_X5_lettersSpoiled l G) so_X5_lettersSpoiled 4 _ _ _ _ _ _ ?_
  simp only [mL_X5_lettersSpoiled, mT_X5_lettersSpoiled, rc_X5_lettersSpoiled, rs_X5_lettersSpoiled, Γ_X5_lettersSpoiled, sg_X5_lettersSpoiled_0, wn_X5_lettersSpoiled_0, wp_c, ex_c, x_nop, x_goto, x_table, x_iinc, x_ldc, x_ldc2, x_iaload, x_faload, x_baload, x_caload, x_iastore, x_fastore, x_bastore, x_castore, x_aastore, x_alen, x_gets, x_new, x_newa, x_anew, x_invs, x_invi, x_invv, x_ret, x_iret, x_lret, x_fret, x_aret, x_lconst, x_fconst0, x_fconst1, x_fconst2, x_dconst0, x_dconst1, x_null, x_iadd, x_isub, x_imul, x_iand, x_ior, x_idiv, x_irem, x_ineg, x_ishl, x_ishr, x_land, x_ladd, x_lmul, x_lor, x_lushr, x_lshl, x_lcmp, x_i2l, x_l2i, x_i2c, x_i2f, x_f2d, x_d2i, x_d2l, x_fadd, x_fsub, x_fmul, x_fdiv, x_dadd, x_dsub, x_dmul, x_ddiv, x_fcmp, x_dcmp, x_dupI, x_dupR, x_dup2, x_popI, x_popR, ldP_I, ldP_L, ldP_F, ldP_D, ldP_R, ldP_N, x_iload, x_iload_n, x_lload, x_lload_n, x_fload, x_fload_n, x_dload, x_dload_n, x_aload, x_aload_n, x_istore, x_istore_n, x_lstore, x_lstore_n, x_fstore, x_fstore_n, x_dstore, x_dstore_n, x_astore, x_astore_n, x_astoreN, x_astore_nN, x_icmp_eq, x_icmp_ne, x_icmp_lt, x_icmp_ge, x_icmp_gt, x_icmp_le, x_if_eq, x_if_ne, x_if_lt, x_if_ge, x_if_gt, x_if_le, x_ifnull, x_ifnullR, x_ifnn, x_ifnnR, x_aaload2, x_cpI, x_cpF, x_oI, xk_bipush_120, xk_iconst_0, xk_bipush_m6, xk_iconst_1, xk_bipush_80, xk_iconst_4, xk_bipush_6, xk_iconst_2, xk_bipush_40, xk_iconst_3, xk_bipush_10, xk_iconst_5, xk_bipush_m2, xk_bipush_m4, xk_iconst_m1, xk_bipush_m5, xk_bipush_12, xk_bipush_100, xk_bipush_26, xk_bipush_48, xk_sipush_9999, xk_sipush_500, xk_bipush_7, xk_bipush_119, xk_bipush_m126, xk_bipush_127, xk_bipush_23, xk_sipush_m1022, xk_sipush_1023, xk_bipush_52, xg_0_0, xp_0_0, xg_0_1, xp_0_1, xg_0_2, xp_0_2, xg_0_3, xp_0_3, xg_0_4, xp_0_4, xg_0_5, xp_0_5, xg_0_6, xp_0_6, xg_0_7, xp_0_7, xg_0_8, xp_0_8, xg_1_0, xp_1_0, xg_1_1, xp_1_1, xg_1_2, xp_1_2, xg_1_3, xp_1_3, xg_2_0, xp_2_0, xg_2_1, xp_2_1, xg_2_2, xp_2_2, xg_3_0, xp_3_0, xg_3_1, xp_3_1, xg_3_2, xp_3_2, xg_3_3, xp_3_3, xg_3_4, xp_3_4, xg_3_5, xp_3_5, xg_3_6, xp_3_6, xg_3_7, xp_3_7, xg_3_8, xp_3_8, xg_3_9, xp_3_9, xg_3_10, xp_3_10, xg_3_11, xp_3_11, xg_4_0, xp_4_0, xg_4_1, xp_4_1, xg_5_0, xp_5_0, xg_5_1, xp_5_1, xg_6_0, xp_6_0, xg_6_1, xp_6_1, xg_6_2, xp_6_2, xg_6_3, xp_6_3, xg_6_4, xp_6_4, xg_6_5, xp_6_5, fv0, fv1, fv2, fv3, kI_0, kI_1, stL, wipeL, entLn, entL, List.getElem?_cons_zero, List.getElem?_cons_succ, List.getElem?_nil, List.set_cons_zero, List.set_cons_succ, List.set_nil, List.length_cons, List.length_nil, List.cons_append, List.nil_append, List.replicate, Nat.reduceAdd, Nat.reduceLeDiff, Nat.reduceSub, true_and, and_true, x_callS, x_callSN, x_callI, x_callIN, x_callV0, x_callV1, x_callV2, x_callV3, x_callV4, x_callV5, x_callV6, x_callV7, callP, List.take_succ_cons, List.take_zero, List.take_nil, List.drop_succ_cons, List.drop_zero, List.drop_nil, List.getLast?_singleton, List.getLast?_cons_cons, Option.some.injEq, Value.ref.injEq, exists_eq_left, exists_eq_left', Nat.zero_le, Nat.add_zero, ldcV_f, ldcV_fn, ldcV_l, ldcV_d, Nat.reduceMul, Nat.le_refl, List.reverse_cons, List.reverse_nil, Option.toList, List.map_cons, List.map_nil, List.sum_cons, List.sum_nil, Value.category, tblW_n, tblW_c, Int.cast_ofNat_Int, Int.reduceAdd, Int.reduceToNat, ofI_n, rc_X1_copyFrom, rs_X1_copyFrom, P_X1_copyFrom, rc_X0_mark, rs_X0_mark, P_X0_mark]
  obtain ⟨hp, hw0, hk0, h⟩ := h
  have hp0 := hp
  obtain ⟨⟨t0, t1, t2, t3, t4⟩, ⟨p1, p2, p3, p4⟩, hap, hap2⟩ := hp
  simp only [t0, t1, t2, t3, t4, t3.1, p1, p1.1, p3, hap2, hw0, hk0, sK_stI, sR_stI, sK_stF, sR_stF, sK_stIA, sR_stIA, sK_stFA, sR_stFA, sI_stI, sI_stF, sI_stIA, sI_stFA, sF_stI, sF_stF, sF_stIA, sF_stFA, Nat.left_eq_add, Nat.add_eq_left, Nat.add_left_cancel_iff, Nat.reduceEqDiff, Nat.reduceEqDiff, Nat.succ_ne_self, false_and, and_false, if_false, if_true, nI_succ_sub, Option.some.injEq, Prod.mk.injEq, exists_eq_left', true_and, and_true, retI, retF, retV, retZ1, retZ0, retL, retA, retN, Nat.reduceAdd, Nat.reduceMul, Nat.reduceLT]
  intro T hF hE
  obtain ⟨⟨⟨s0, s1, s2, s3, s4⟩, ⟨q1, q2, q3, q4⟩, -⟩, hD, -⟩ := hp0.copied hF hE
  simp only [s0, s1, s2, s3, s4, q1, q1.1, q2, q3, q4, sK_stI, sR_stI, sK_stF, sR_stF, sK_stIA, sR_stIA, sK_stFA, sR_stFA, sI_stI, sI_stF, sI_stIA, sI_stFA, sF_stI, sF_stF, sF_stIA, sF_stFA, Nat.left_eq_add, Nat.add_eq_left, Nat.add_left_cancel_iff, Nat.reduceEqDiff, Nat.reduceEqDiff, Nat.succ_ne_self, false_and, and_false, if_false, if_true, nI_succ_sub, Option.some.injEq, Prod.mk.injEq, exists_eq_left', true_and, and_true, retI, retF, retV, retZ1, retZ0, retL, retA, retN, Nat.reduceAdd, Nat.reduceMul, Nat.reduceLT]
  intro U hU hM
  obtain ⟨w, hw, rfl⟩ := vp_in_of hw0 (by decide)
  obtain ⟨k, hk, rfl⟩ := vp_in_of hk0 (by decide)
  rw [nI_cl (by omega), nI_cl (by omega)] at h ⊢
  rw [lostV_ds hD hE hw k (Nat.le_refl _)]
  exact h U ((hF.mono (by omega) (by omega)).trans (hU.mono (by omega) (by omega)))
def P_X5_roomLeft (as : List Value) (S : SS) (E : Option Value → SS → Prop) : Prop := match as with
  | [.ref t, .ref d, .ref g, .int w, .int k] => PreX S d t g ∧ vp_in w 5 ∧ vp_in k 120 ∧ ∀ S', Fr S S' t (t + 7) → E (some (.int (nI (cn (fun j => roV (dV S d) (markV (dV S d) (gV S g) w.toNatClampNeg k.toNatClampNeg (nI 0)) j) 120)))) S'
  | _ => False
def Γ_X5_roomLeft : List (MI × PT) := [(mi_X1_copyFrom, P_X1_copyFrom), (mi_X0_mark, P_X0_mark), (mi_X0_placesThat, P_X0_placesThat)]
theorem hΓ_X5_roomLeft (l : Launch) (G : Gx) : ∀ q ∈ Γ_X5_roomLeft, Ct l G q.1 q.2 := List.forall_mem_cons.mpr ⟨ct_X1_copyFrom l G, List.forall_mem_cons.mpr ⟨ct_X0_mark l G, List.forall_mem_cons.mpr ⟨ct_X0_placesThat l G, fun _ h => absurd h List.not_mem_nil⟩⟩⟩
set_option maxHeartbeats 1000000 in
theorem ct_X5_roomLeft (l : Launch) (G : Gx) : Ct l G mi_X5_roomLeft P_X5_roomLeft := by
  refine Ct.ofV mo_X5_roomLeft (fun as S E h => ?_)
  unfold P_X5_roomLeft at h
  split at h
  case h_2 => exact h.elim
  rename_i t d g w k
  refine ⟨by simp [entL, mL_X5_roomLeft], ?_⟩
  refine wpN_ok (Γ := Γ_X5_roomLeft) (hΓ_X5_roomLeft l G) so_X5_roomLeft 4 _ _ _ _ _ _ ?_
  simp only [mL_X5_roomLeft, mT_X5_roomLeft, rc_X5_roomLeft, rs_X5_roomLeft, Γ_X5_roomLeft, sg_X5_roomLeft_0, wn_X5_roomLeft_0, wp_c, ex_c, x_nop, x_goto, x_table, x_iinc, x_ldc, x_ldc2, x_iaload, x_faload, x_baload, x_caload, x_iastore, x_fastore, x_bastore, x_castore, x_aastore, x_alen, x_gets, x_new, x_newa, x_anew, x_invs, x_invi, x_invv, x_ret, x_iret, x_lret, x_fret, x_aret, x_lconst, x_fconst0, x_fconst1, x_fconst2, x_dconst0, x_dconst1, x_null, x_iadd, x_isub, x_imul, x_iand, x_ior, x_idiv, x_irem, x_ineg, x_ishl, x_ishr, x_land, x_ladd, x_lmul, x_lor, x_lushr, x_lshl, x_lcmp, x_i2l, x_l2i, x_i2c, x_i2f, x_f2d, x_d2i, x_d2l, x_fadd, x_fsub, x_fmul, x_fdiv, x_dadd, x_dsub, x_dmul, x_ddiv, x_fcmp, x_dcmp, x_dupI, x_dupR, x_dup2, x_popI, x_popR, ldP_I, ldP_L, ldP_F, ldP_D, ldP_R, ldP_N, x_iload, x_iload_n, x_lload, x_lload_n, x_fload, x_fload_n, x_dload, x_dload_n, x_aload, x_aload_n, x_istore, x_istore_n, x_lstore, x_lstore_n, x_fstore, x_fstore_n, x_dstore, x_dstore_n, x_astore, x_astore_n, x_astoreN, x_astore_nN, x_icmp_eq, x_icmp_ne, x_icmp_lt, x_icmp_ge, x_icmp_gt, x_icmp_le, x_if_eq, x_if_ne, x_if_lt, x_if_ge, x_if_gt, x_if_le, x_ifnull, x_ifnullR, x_ifnn, x_ifnnR, x_aaload2, x_cpI, x_cpF, x_oI, xk_bipush_120, xk_iconst_0, xk_bipush_m6, xk_iconst_1, xk_bipush_80, xk_iconst_4, xk_bipush_6, xk_iconst_2, xk_bipush_40, xk_iconst_3, xk_bipush_10, xk_iconst_5, xk_bipush_m2, xk_bipush_m4, xk_iconst_m1, xk_bipush_m5, xk_bipush_12, xk_bipush_100, xk_bipush_26, xk_bipush_48, xk_sipush_9999, xk_sipush_500, xk_bipush_7, xk_bipush_119, xk_bipush_m126, xk_bipush_127, xk_bipush_23, xk_sipush_m1022, xk_sipush_1023, xk_bipush_52, xg_0_0, xp_0_0, xg_0_1, xp_0_1, xg_0_2, xp_0_2, xg_0_3, xp_0_3, xg_0_4, xp_0_4, xg_0_5, xp_0_5, xg_0_6, xp_0_6, xg_0_7, xp_0_7, xg_0_8, xp_0_8, xg_1_0, xp_1_0, xg_1_1, xp_1_1, xg_1_2, xp_1_2, xg_1_3, xp_1_3, xg_2_0, xp_2_0, xg_2_1, xp_2_1, xg_2_2, xp_2_2, xg_3_0, xp_3_0, xg_3_1, xp_3_1, xg_3_2, xp_3_2, xg_3_3, xp_3_3, xg_3_4, xp_3_4, xg_3_5, xp_3_5, xg_3_6, xp_3_6, xg_3_7, xp_3_7, xg_3_8, xp_3_8, xg_3_9, xp_3_9, xg_3_10, xp_3_10, xg_3_11, xp_3_11, xg_4_0, xp_4_0, xg_4_1, xp_4_1, xg_5_0, xp_5_0, xg_5_1, xp_5_1, xg_6_0, xp_6_0, xg_6_1, xp_6_1, xg_6_2, xp_6_2, xg_6_3, xp_6_3, xg_6_4, xp_6_4, xg_6_5, xp_6_5, fv0, fv1, fv2, fv3, kI_0, kI_1, stL, wipeL, entLn, entL, List.getElem?_cons_zero, List.getElem?_cons_succ, List.getElem?_nil, List.set_cons_zero, List.set_cons_succ, List.set_nil, List.length_cons, List.length_nil, List.cons_append, List.nil_append, List.replicate, Nat.reduceAdd, Nat.reduceLeDiff, Nat.reduceSub, true_and, and_true, x_callS, x_callSN, x_callI, x_callIN, x_callV0, x_callV1, x_callV2, x_callV3, x_callV4, x_callV5, x_callV6, x_callV7, callP, List.take_succ_cons, List.take_zero, List.take_nil, List.drop_succ_cons, List.drop_zero, List.drop_nil, List.getLast?_singleton, List.getLast?_cons_cons, Option.some.injEq, Value.ref.injEq, exists_eq_left, exists_eq_left', Nat.zero_le, Nat.add_zero, ldcV_f, ldcV_fn, ldcV_l, ldcV_d, Nat.reduceMul, Nat.le_refl, List.reverse_cons, List.reverse_nil, Option.toList, List.map_cons, List.map_nil, List.sum_cons, List.sum_nil, Value.category, tblW_n, tblW_c, Int.cast_ofNat_Int, Int.reduceAdd, Int.reduceToNat, ofI_n, rc_X1_copyFrom, rs_X1_copyFrom, P_X1_copyFrom, rc_X0_mark, rs_X0_mark, P_X0_mark, rc_X0_placesThat, rs_X0_placesThat, P_X0_placesThat]
  obtain ⟨hp, hw0, hk0, h⟩ := h
  have hp0 := hp
  obtain ⟨⟨t0, t1, t2, t3, t4⟩, ⟨p1, p2, p3, p4⟩, hap, hap2⟩ := hp
  simp only [t0, t1, t2, t3, t4, t3.1, p1, p1.1, p3, hap2, hw0, hk0, sK_stI, sR_stI, sK_stF, sR_stF, sK_stIA, sR_stIA, sK_stFA, sR_stFA, sI_stI, sI_stF, sI_stIA, sI_stFA, sF_stI, sF_stF, sF_stIA, sF_stFA, Nat.left_eq_add, Nat.add_eq_left, Nat.add_left_cancel_iff, Nat.reduceEqDiff, Nat.reduceEqDiff, Nat.succ_ne_self, false_and, and_false, if_false, if_true, nI_succ_sub, Option.some.injEq, Prod.mk.injEq, exists_eq_left', true_and, and_true, retI, retF, retV, retZ1, retZ0, retL, retA, retN, Nat.reduceAdd, Nat.reduceMul, Nat.reduceLT]
  intro T hF hE
  obtain ⟨⟨⟨s0, s1, s2, s3, s4⟩, ⟨q1, q2, q3, q4⟩, -⟩, hD, -⟩ := hp0.copied hF hE
  simp only [s0, s1, s2, s3, s4, q1, q1.1, q2, q3, q4, sK_stI, sR_stI, sK_stF, sR_stF, sK_stIA, sR_stIA, sK_stFA, sR_stFA, sI_stI, sI_stF, sI_stIA, sI_stFA, sF_stI, sF_stF, sF_stIA, sF_stFA, Nat.left_eq_add, Nat.add_eq_left, Nat.add_left_cancel_iff, Nat.reduceEqDiff, Nat.reduceEqDiff, Nat.succ_ne_self, false_and, and_false, if_false, if_true, nI_succ_sub, Option.some.injEq, Prod.mk.injEq, exists_eq_left', true_and, and_true, retI, retF, retV, retZ1, retZ0, retL, retA, retN, Nat.reduceAdd, Nat.reduceMul, Nat.reduceLT]
  intro U hU hM
  obtain ⟨w, hw, rfl⟩ := vp_in_of hw0 (by decide)
  obtain ⟨k, hk, rfl⟩ := vp_in_of hk0 (by decide)
  rw [nI_cl (by omega), nI_cl (by omega)] at h hM
  obtain ⟨⟨r1, r2, -⟩, hD2, -, hM2⟩ := hp0.marked hw hF hE hU hM
  refine ⟨r1.1, _, r1.2.1, r2.1.1, r2, ?_⟩
  have e : cn (fun j => isV (dV U d) (gV U (t + 1)) j (wh (nI 3))) 120 = cn (fun j => roV (dV S d) (markV (dV S d) (gV S g) w k (nI 0)) j) 120 := cn_congr (fun j hj => by
    rw [isV_ds hD2 hM2 r2.2.2.2 hj]
    rfl)
  rw [e]
  exact h U ((hF.mono (by omega) (by omega)).trans (hU.mono (by omega) (by omega)))
def darkV (D : DV) (G : GV) (w k n : Nat) : Nat := cn (fun j => !decide (j = k) && !decide (G.p j = mI 6) && enV D (G.l j) && !enV D (dimV D (G.l j) w (dist k j))) n
def P_X5_promisesSpoiled (as : List Value) (S : SS) (E : Option Value → SS → Prop) : Prop := match as with
  | [.ref t, .ref d, .ref g, .int w, .int k] => PreX S d t g ∧ vp_in w 5 ∧ vp_in k 120 ∧ ∀ S', Fr S S' t (t + 7) → E (some (.int (nI (darkV (dV S d) (gV S g) w.toNatClampNeg k.toNatClampNeg 120)))) S'
  | _ => False
def Γ_X5_promisesSpoiled : List (MI × PT) := [(mi_X1_copyFrom, P_X1_copyFrom), (mi_X0_mark, P_X0_mark), (mi_X0_isEnough, P_X0_isEnough)]
theorem hΓ_X5_promisesSpoiled (l : Launch) (G : Gx) : ∀ q ∈ Γ_X5_promisesSpoiled, Ct l G q.1 q.2 := List.forall_mem_cons.mpr ⟨ct_X1_copyFrom l G, List.forall_mem_cons.mpr ⟨ct_X0_mark l G, List.forall_mem_cons.mpr ⟨ct_X0_isEnough l G, fun _ h => absurd h List.not_mem_nil⟩⟩⟩
set_option maxHeartbeats 1000000 in
theorem lp_X5_promisesSpoiled (l : Launch) (G : Gx) {S : SS} {D : DV} {H : GV} {t d g w k : Nat} {E : Option Value → SS → Prop} (hp : PreT S d t) (hg : GlassAt S g) (hk : k < 120) (hs : DS (dV S d) D) (hH : gV S g = H) (hM : GE (gV S (t + 1)) (markV D H w k (nI 0))) (h : E (some (.int (nI (darkV D H w k 120)))) S) :
    ∀ j, j ≤ 120 → ∀ x7, V l G mi_X5_promisesSpoiled E 27 [some (.ref t), some (.ref d), some (.ref g), some (.int (nI w)), some (.int (nI k)), some (.int (nI (darkV D H w k j))), some (.int (nI j)), x7] [] S 0 0 := by
  refine loopUp 120 fun j hj ih x7 => ?_
  refine (V.segN (Γ := Γ_X5_promisesSpoiled) (hΓ_X5_promisesSpoiled l G) so_X5_promisesSpoiled 6 (sg := sg_X5_promisesSpoiled_27) so_X5_promisesSpoiled_27 ?_ : V l G mi_X5_promisesSpoiled _ (segPc sg_X5_promisesSpoiled_27) _ _ _ _ _)
  simp only [mL_X5_promisesSpoiled, mT_X5_promisesSpoiled, rc_X5_promisesSpoiled, rs_X5_promisesSpoiled, Γ_X5_promisesSpoiled, sg_X5_promisesSpoiled_0, sg_X5_promisesSpoiled_27, sg_X5_promisesSpoiled_57, sg_X5_promisesSpoiled_58, sg_X5_promisesSpoiled_99, sg_X5_promisesSpoiled_105, wn_X5_promisesSpoiled_0, wn_X5_promisesSpoiled_27, wn_X5_promisesSpoiled_57, wn_X5_promisesSpoiled_58, wn_X5_promisesSpoiled_99, wn_X5_promisesSpoiled_105, wp_c, ex_c, x_nop, x_goto, x_table, x_iinc, x_ldc, x_ldc2, x_iaload, x_faload, x_baload, x_caload, x_iastore, x_fastore, x_bastore, x_castore, x_aastore, x_alen, x_gets, x_new, x_newa, x_anew, x_invs, x_invi, x_invv, x_ret, x_iret, x_lret, x_fret, x_aret, x_lconst, x_fconst0, x_fconst1, x_fconst2, x_dconst0, x_dconst1, x_null, x_iadd, x_isub, x_imul, x_iand, x_ior, x_idiv, x_irem, x_ineg, x_ishl, x_ishr, x_land, x_ladd, x_lmul, x_lor, x_lushr, x_lshl, x_lcmp, x_i2l, x_l2i, x_i2c, x_i2f, x_f2d, x_d2i, x_d2l, x_fadd, x_fsub, x_fmul, x_fdiv, x_dadd, x_dsub, x_dmul, x_ddiv, x_fcmp, x_dcmp, x_dupI, x_dupR, x_dup2, x_popI, x_popR, ldP_I, ldP_L, ldP_F, ldP_D, ldP_R, ldP_N, x_iload, x_iload_n, x_lload, x_lload_n, x_fload, x_fload_n, x_dload, x_dload_n, x_aload, x_aload_n, x_istore, x_istore_n, x_lstore, x_lstore_n, x_fstore, x_fstore_n, x_dstore, x_dstore_n, x_astore, x_astore_n, x_astoreN, x_astore_nN, x_icmp_eq, x_icmp_ne, x_icmp_lt, x_icmp_ge, x_icmp_gt, x_icmp_le, x_if_eq, x_if_ne, x_if_lt, x_if_ge, x_if_gt, x_if_le, x_ifnull, x_ifnullR, x_ifnn, x_ifnnR, x_aaload2, x_cpI, x_cpF, x_oI, xk_bipush_120, xk_iconst_0, xk_bipush_m6, xk_iconst_1, xk_bipush_80, xk_iconst_4, xk_bipush_6, xk_iconst_2, xk_bipush_40, xk_iconst_3, xk_bipush_10, xk_iconst_5, xk_bipush_m2, xk_bipush_m4, xk_iconst_m1, xk_bipush_m5, xk_bipush_12, xk_bipush_100, xk_bipush_26, xk_bipush_48, xk_sipush_9999, xk_sipush_500, xk_bipush_7, xk_bipush_119, xk_bipush_m126, xk_bipush_127, xk_bipush_23, xk_sipush_m1022, xk_sipush_1023, xk_bipush_52, xg_0_0, xp_0_0, xg_0_1, xp_0_1, xg_0_2, xp_0_2, xg_0_3, xp_0_3, xg_0_4, xp_0_4, xg_0_5, xp_0_5, xg_0_6, xp_0_6, xg_0_7, xp_0_7, xg_0_8, xp_0_8, xg_1_0, xp_1_0, xg_1_1, xp_1_1, xg_1_2, xp_1_2, xg_1_3, xp_1_3, xg_2_0, xp_2_0, xg_2_1, xp_2_1, xg_2_2, xp_2_2, xg_3_0, xp_3_0, xg_3_1, xp_3_1, xg_3_2, xp_3_2, xg_3_3, xp_3_3, xg_3_4, xp_3_4, xg_3_5, xp_3_5, xg_3_6, xp_3_6, xg_3_7, xp_3_7, xg_3_8, xp_3_8, xg_3_9, xp_3_9, xg_3_10, xp_3_10, xg_3_11, xp_3_11, xg_4_0, xp_4_0, xg_4_1, xp_4_1, xg_5_0, xp_5_0, xg_5_1, xp_5_1, xg_6_0, xp_6_0, xg_6_1, xp_6_1, xg_6_2, xp_6_2, xg_6_3, xp_6_3, xg_6_4, xp_6_4, xg_6_5, xp_6_5, fv0, fv1, fv2, fv3, kI_0, kI_1, stL, wipeL, entLn, entL, List.getElem?_cons_zero, List.getElem?_cons_succ, List.getElem?_nil, List.set_cons_zero, List.set_cons_succ, List.set_nil, List.length_cons, List.length_nil, List.cons_append, List.nil_append, List.replicate, Nat.reduceAdd, Nat.reduceLeDiff, Nat.reduceSub, true_and, and_true, x_callS, x_callSN, x_callI, x_callIN, x_callV0, x_callV1, x_callV2, x_callV3, x_callV4, x_callV5, x_callV6, x_callV7, callP, List.take_succ_cons, List.take_zero, List.take_nil, List.drop_succ_cons, List.drop_zero, List.drop_nil, List.getLast?_singleton, List.getLast?_cons_cons, Option.some.injEq, Value.ref.injEq, exists_eq_left, exists_eq_left', Nat.zero_le, Nat.add_zero, ldcV_f, ldcV_fn, ldcV_l, ldcV_d, Nat.reduceMul, Nat.le_refl, List.reverse_cons, List.reverse_nil, Option.toList, List.map_cons, List.map_nil, List.sum_cons, List.sum_nil, Value.category, tblW_n, tblW_c, Int.cast_ofNat_Int, Int.reduceAdd, Int.reduceToNat, ofI_n, rc_X1_copyFrom, rs_X1_copyFrom, P_X1_copyFrom, rc_X0_mark, rs_X0_mark, P_X0_mark, rc_X0_isEnough, rs_X0_isEnough, P_X0_isEnough]
  obtain ⟨⟨t0, t1, t2, t3, t4⟩, ⟨p1, p2, p3, p4⟩, -⟩ := hp
  have hc : darkV D H w k j ≤ j := cn_le _ j
  obtain ⟨g0, g1, g2, g3, g4, g5, g6, g7, g8⟩ := hg
  obtain ⟨a0, a1, a2, a3, a4, a5, a6, a7, a8⟩ := t3
  simp only [t0, t1, t2, t4, p1, p1.1, p2.set, g0, g1, g2, g3, g4, g5, g6, g7, g8, a0, a1, a2, a3, a4, a5, a6, a7, a8, bI_0, sK_stI, sR_stI, sK_stF, sR_stF, sK_stIA, sR_stIA, sK_stFA, sR_stFA, sI_stI, sI_stF, sI_stIA, sI_stFA, sF_stI, sF_stF, sF_stIA, sF_stFA, Nat.left_eq_add, Nat.add_eq_left, Nat.add_left_cancel_iff, Nat.reduceEqDiff, Nat.reduceEqDiff, Nat.succ_ne_self, false_and, and_false, if_false, if_true, nI_succ_sub, Option.some.injEq, Prod.mk.injEq, exists_eq_left', true_and, and_true, retI, retF, retV, retZ1, retZ0, retL, retA, retN, Nat.reduceAdd, Nat.reduceMul, Nat.reduceLT]
  simp (disch := omega) only [nlt0, nge0, neq0, ngt0, nle0, nI_ltI, nI_leI, nI_eq, nI_cl, in_nI, false_implies, true_implies, not_false_eq_true, not_true_eq_false, and_true, true_and, nI_add, pk_mul, implies_true, not_lt0, n10, n00]
  have e1 : enF (sI S (d + 1) 2) (sF S (g + 1) j) = enV D (H.l j) := by
    rw [← enV_ds hs, ← hH]
    rfl
  have e3 : sI S (g + 4) j = H.p j := by
    rw [← hH]
    rfl
  rw [e1, e3]
  refine ⟨fun q => ?_, fun q => ?_⟩
  · have e : j = 120 := by omega
    subst e
    exact h
  · have ih := ih (by omega)
    unfold darkV at ih ⊢
    rw [cn_s] at ih
    have e2 : enF (sI S (d + 1) 2) (sF S (t + 1 + 1) j) = enV D (dimV D (H.l j) w (dist k j)) := by
      rw [← enV_ds hs]
      exact congrArg (enV (dV S d)) (hM j (by omega)).1
    rw [e2]
    by_cases c1 : j = k
    · refine ⟨fun _ => ?_, fun c => absurd c1 c⟩
      rw [if_neg (by simp [c1])] at ih
      exact ih _
    · refine ⟨fun c => absurd c c1, fun _ => ⟨by omega, fun c2 => ?_, fun c2 => ⟨fun c => absurd c (by omega), fun _ => ⟨by omega, fun c3 => ?_, fun c3 => ⟨by omega, fun c4 => ?_, fun c4 => ?_⟩⟩⟩⟩⟩
      · rw [if_neg (by simp [c2])] at ih
        exact ih _
      · rw [if_neg (by simp [c3])] at ih
        exact ih _
      · rw [if_neg (by simp [Decidable.not_not.mp c4])] at ih
        exact ih _
      · have c3 := Decidable.not_not.mp c3
        have c4 : ¬ enV D (dimV D (H.l j) w (dist k j)) = true := fun a => c4 (fun b => b a)
        rw [if_pos (by simp [c1, c2, c3, c4])] at ih
        exact ih _
set_option maxHeartbeats 1000000 in
theorem ct_X5_promisesSpoiled (l : Launch) (G : Gx) : Ct l G mi_X5_promisesSpoiled P_X5_promisesSpoiled := by
  refine Ct.ofV mo_X5_promisesSpoiled (fun as S E h => ?_)
  unfold P_X5_promisesSpoiled at h
  split at h
  case h_2 => exact h.elim
  rename_i t d g w k
  refine ⟨by simp [entL, mL_X5_promisesSpoiled], ?_⟩
  refine wpN_ok (Γ := Γ_X5_promisesSpoiled) (hΓ_X5_promisesSpoiled l G) so_X5_promisesSpoiled 4 _ _ _ _ _ _ ?_
  simp only [mL_X5_promisesSpoiled, mT_X5_promisesSpoiled, rc_X5_promisesSpoiled, rs_X5_promisesSpoiled, Γ_X5_promisesSpoiled, sg_X5_promisesSpoiled_0, sg_X5_promisesSpoiled_27, sg_X5_promisesSpoiled_57, sg_X5_promisesSpoiled_58, sg_X5_promisesSpoiled_99, sg_X5_promisesSpoiled_105, wn_X5_promisesSpoiled_0, wn_X5_promisesSpoiled_27, wn_X5_promisesSpoiled_57, wn_X5_promisesSpoiled_58, wn_X5_promisesSpoiled_99, wn_X5_promisesSpoiled_105, wp_c, ex_c, x_nop, x_goto, x_table, x_iinc, x_ldc, x_ldc2, x_iaload, x_faload, x_baload, x_caload, x_iastore, x_fastore, x_bastore, x_castore, x_aastore, x_alen, x_gets, x_new, x_newa, x_anew, x_invs, x_invi, x_invv, x_ret, x_iret, x_lret, x_fret, x_aret, x_lconst, x_fconst0, x_fconst1, x_fconst2, x_dconst0, x_dconst1, x_null, x_iadd, x_isub, x_imul, x_iand, x_ior, x_idiv, x_irem, x_ineg, x_ishl, x_ishr, x_land, x_ladd, x_lmul, x_lor, x_lushr, x_lshl, x_lcmp, x_i2l, x_l2i, x_i2c, x_i2f, x_f2d, x_d2i, x_d2l, x_fadd, x_fsub, x_fmul, x_fdiv, x_dadd, x_dsub, x_dmul, x_ddiv, x_fcmp, x_dcmp, x_dupI, x_dupR, x_dup2, x_popI, x_popR, ldP_I, ldP_L, ldP_F, ldP_D, ldP_R, ldP_N, x_iload, x_iload_n, x_lload, x_lload_n, x_fload, x_fload_n, x_dload, x_dload_n, x_aload, x_aload_n, x_istore, x_istore_n, x_lstore, x_lstore_n, x_fstore, x_fstore_n, x_dstore, x_dstore_n, x_astore, x_astore_n, x_astoreN, x_astore_nN, x_icmp_eq, x_icmp_ne, x_icmp_lt, x_icmp_ge, x_icmp_gt, x_icmp_le, x_if_eq, x_if_ne, x_if_lt, x_if_ge, x_if_gt, x_if_le, x_ifnull, x_ifnullR, x_ifnn, x_ifnnR, x_aaload2, x_cpI, x_cpF, x_oI, xk_bipush_120, xk_iconst_0, xk_bipush_m6, xk_iconst_1, xk_bipush_80, xk_iconst_4, xk_bipush_6, xk_iconst_2, xk_bipush_40, xk_iconst_3, xk_bipush_10, xk_iconst_5, xk_bipush_m2, xk_bipush_m4, xk_iconst_m1, xk_bipush_m5, xk_bipush_12, xk_bipush_100, xk_bipush_26, xk_bipush_48, xk_sipush_9999, xk_sipush_500, xk_bipush_7, xk_bipush_119, xk_bipush_m126, xk_bipush_127, xk_bipush_23, xk_sipush_m1022, xk_sipush_1023, xk_bipush_52, xg_0_0, xp_0_0, xg_0_1, xp_0_1, xg_0_2, xp_0_2, xg_0_3, xp_0_3, xg_0_4, xp_0_4, xg_0_5, xp_0_5, xg_0_6, xp_0_6, xg_0_7, xp_0_7, xg_0_8, xp_0_8, xg_1_0, xp_1_0, xg_1_1, xp_1_1, xg_1_2, xp_1_2, xg_1_3, xp_1_3, xg_2_0, xp_2_0, xg_2_1, xp_2_1, xg_2_2, xp_2_2, xg_3_0, xp_3_0, xg_3_1, xp_3_1, xg_3_2, xp_3_2, xg_3_3, xp_3_3, xg_3_4, xp_3_4, xg_3_5, xp_3_5, xg_3_6, xp_3_6, xg_3_7, xp_3_7, xg_3_8, xp_3_8, xg_3_9, xp_3_9, xg_3_10, xp_3_10, xg_3_11, xp_3_11, xg_4_0, xp_4_0, xg_4_1, xp_4_1, xg_5_0, xp_5_0, xg_5_1, xp_5_1, xg_6_0, xp_6_0, xg_6_1, xp_6_1, xg_6_2, xp_6_2, xg_6_3, xp_6_3, xg_6_4, xp_6_4, xg_6_5, xp_6_5, fv0, fv1, fv2, fv3, kI_0, kI_1, stL, wipeL, entLn, entL, List.getElem?_cons_zero, List.getElem?_cons_succ, List.getElem?_nil, List.set_cons_zero, List.set_cons_succ, List.set_nil, List.length_cons, List.length_nil, List.cons_append, List.nil_append, List.replicate, Nat.reduceAdd, Nat.reduceLeDiff, Nat.reduceSub, true_and, and_true, x_callS, x_callSN, x_callI, x_callIN, x_callV0, x_callV1, x_callV2, x_callV3, x_callV4, x_callV5, x_callV6, x_callV7, callP, List.take_succ_cons, List.take_zero, List.take_nil, List.drop_succ_cons, List.drop_zero, List.drop_nil, List.getLast?_singleton, List.getLast?_cons_cons, Option.some.injEq, Value.ref.injEq, exists_eq_left, exists_eq_left', Nat.zero_le, Nat.add_zero, ldcV_f, ldcV_fn, ldcV_l, ldcV_d, Nat.reduceMul, Nat.le_refl, List.reverse_cons, List.reverse_nil, Option.toList, List.map_cons, List.map_nil, List.sum_cons, List.sum_nil, Value.category, tblW_n, tblW_c, Int.cast_ofNat_Int, Int.reduceAdd, Int.reduceToNat, ofI_n, rc_X1_copyFrom, rs_X1_copyFrom, P_X1_copyFrom, rc_X0_mark, rs_X0_mark, P_X0_mark, rc_X0_isEnough, rs_X0_isEnough, P_X0_isEnough]
  obtain ⟨hp, hw0, hk0, h⟩ := h
  have hp0 := hp
  obtain ⟨⟨t0, t1, t2, t3, t4⟩, ⟨p1, p2, p3, p4⟩, hap, hap2⟩ := hp
  simp only [t0, t1, t2, t3, t4, t3.1, p1, p1.1, p3, hap2, hw0, hk0, sK_stI, sR_stI, sK_stF, sR_stF, sK_stIA, sR_stIA, sK_stFA, sR_stFA, sI_stI, sI_stF, sI_stIA, sI_stFA, sF_stI, sF_stF, sF_stIA, sF_stFA, Nat.left_eq_add, Nat.add_eq_left, Nat.add_left_cancel_iff, Nat.reduceEqDiff, Nat.reduceEqDiff, Nat.succ_ne_self, false_and, and_false, if_false, if_true, nI_succ_sub, Option.some.injEq, Prod.mk.injEq, exists_eq_left', true_and, and_true, retI, retF, retV, retZ1, retZ0, retL, retA, retN, Nat.reduceAdd, Nat.reduceMul, Nat.reduceLT]
  intro T hF hE
  obtain ⟨⟨⟨s0, s1, s2, s3, s4⟩, ⟨q1, q2, q3, q4⟩, -⟩, hD, -⟩ := hp0.copied hF hE
  simp only [s0, s1, s2, s3, s4, q1, q1.1, q2, q3, q4, sK_stI, sR_stI, sK_stF, sR_stF, sK_stIA, sR_stIA, sK_stFA, sR_stFA, sI_stI, sI_stF, sI_stIA, sI_stFA, sF_stI, sF_stF, sF_stIA, sF_stFA, Nat.left_eq_add, Nat.add_eq_left, Nat.add_left_cancel_iff, Nat.reduceEqDiff, Nat.reduceEqDiff, Nat.succ_ne_self, false_and, and_false, if_false, if_true, nI_succ_sub, Option.some.injEq, Prod.mk.injEq, exists_eq_left', true_and, and_true, retI, retF, retV, retZ1, retZ0, retL, retA, retN, Nat.reduceAdd, Nat.reduceMul, Nat.reduceLT]
  intro U hU hM
  obtain ⟨w, hw, rfl⟩ := vp_in_of hw0 (by decide)
  obtain ⟨k, hk, rfl⟩ := vp_in_of hk0 (by decide)
  rw [nI_cl (by omega), nI_cl (by omega)] at h hM
  obtain ⟨hT, hD2, hg2, hM2⟩ := hp0.marked hw hF hE hU hM
  exact lp_X5_promisesSpoiled l G hT (hU.glass (hF.glass p3)) hk hD2 hg2 hM2 (h U ((hF.mono (by omega) (by omega)).trans (hU.mono (by omega) (by omega)))) 0 (by omega) none
def P_X5_brightestOf (as : List Value) (S : SS) (E : Option Value → SS → Prop) : Prop := match as with
  | [.ref t, .ref d, .ref g] => PreX S d t g ∧ ∀ S', Fr S S' t (t + 7) → E (some (.int (bestV (dV S d) (gV S g) 120).1)) S'
  | _ => False
def Γ_X5_brightestOf : List (MI × PT) := [(mi_X1_copyFrom, P_X1_copyFrom), (mi_X5_lookAhead, P_X5_lookAhead), (mi_X5_brightest, P_X5_brightest)]
theorem hΓ_X5_brightestOf (l : Launch) (G : Gx) : ∀ q ∈ Γ_X5_brightestOf, Ct l G q.1 q.2 := List.forall_mem_cons.mpr ⟨ct_X1_copyFrom l G, List.forall_mem_cons.mpr ⟨ct_X5_lookAhead l G, List.forall_mem_cons.mpr ⟨ct_X5_brightest l G, fun _ h => absurd h List.not_mem_nil⟩⟩⟩
theorem bestV_ds {A B : DV} {G H : GV} (h : DS A B) (k : GE G H) (hG : GOK G) : ∀ n, n ≤ 120 → bestV A G n = bestV B H n := by
  intro n
  induction n with
  | zero => intro _; unfold bestV fo; rfl
  | succ n ih =>
    intro hn
    have e : ahV A G n = ahV B H n := by
      unfold ahV
      rw [(k n (by omega)).1]
      exact aheadV_ds h k hG _ n 120 (Nat.le_refl _)
    rw [bestV_s, bestV_s, ih (by omega), roV_ds h k hG (by omega), e]
/-- the plate that is tried on, its light ahead told -/
def Ahd (S : SS) (d t : Nat) : Prop := ∀ j, j < 120 → frV (gV S (t + 1)) j → sF S (t + 6) j = ahV (dV S d) (gV S (t + 1)) j
theorem PreT.looked {S : SS} {d t : Nat} (h : PreT S d t) (f : Nat → UInt32) : PreT (stFA S (t + 6) f) d t ∧ gV (stFA S (t + 6) f) (t + 1) = gV S (t + 1) ∧ DS (dV (stFA S (t + 6) f) d) (dV S d) ∧ ∀ j, ahV (dV (stFA S (t + 6) f) d) (gV S (t + 1)) j = ahV (dV S d) (gV S (t + 1)) j := by
  have hF : Fr S (stFA S (t + 6) f) (t + 6) (t + 7) := (Fr.refl _ _ _).stFA _ _ (by omega) (by omega)
  have h6 := h.2.2
  unfold Ap at h6
  have hd : DS (dV (stFA S (t + 6) f) d) (dV S d) := hF.ds (by omega)
  exact ⟨h.fr hF, hF.gV (by omega), hd, fun j => aheadV_ds hd (GE.refl _) h.2.1.2.2.2 _ j 120 (Nat.le_refl _)⟩
theorem Ahd_all {S : SS} {d t : Nat} (h : PreT S d t) : Ahd (stFA S (t + 6) (loF (dV S d) (gV S (t + 1)) (sF S (t + 6)) 0 120)) d t := by
  obtain ⟨-, e1, -, e2⟩ := h.looked (loF (dV S d) (gV S (t + 1)) (sF S (t + 6)) 0 120)
  intro j hj hf
  rw [e1] at hf ⊢
  rw [e2, sF_stFA, if_pos rfl]
  exact if_pos ⟨by omega, hj, hf⟩
set_option maxHeartbeats 1000000 in
theorem ct_X5_brightestOf (l : Launch) (G : Gx) : Ct l G mi_X5_brightestOf P_X5_brightestOf := by
  refine Ct.ofV mo_X5_brightestOf (fun as S E h => ?_)
  unfold P_X5_brightestOf at h
  split at h
  case h_2 => exact h.elim
  rename_i t d g
  refine ⟨by simp [entL, mL_X5_brightestOf], ?_⟩
  refine wpN_ok (Γ := Γ_X5_brightestOf) (hΓ_X5_brightestOf l G) so_X5_brightestOf 4 _ _ _ _ _ _ ?_
  simp only [mL_X5_brightestOf, mT_X5_brightestOf, rc_X5_brightestOf, rs_X5_brightestOf, Γ_X5_brightestOf, sg_X5_brightestOf_0, wn_X5_brightestOf_0, wp_c, ex_c, x_nop, x_goto, x_table, x_iinc, x_ldc, x_ldc2, x_iaload, x_faload, x_baload, x_caload, x_iastore, x_fastore, x_bastore, x_castore, x_aastore, x_alen, x_gets, x_new, x_newa, x_anew, x_invs, x_invi, x_invv, x_ret, x_iret, x_lret, x_fret, x_aret, x_lconst, x_fconst0, x_fconst1, x_fconst2, x_dconst0, x_dconst1, x_null, x_iadd, x_isub, x_imul, x_iand, x_ior, x_idiv, x_irem, x_ineg, x_ishl, x_ishr, x_land, x_ladd, x_lmul, x_lor, x_lushr, x_lshl, x_lcmp, x_i2l, x_l2i, x_i2c, x_i2f, x_f2d, x_d2i, x_d2l, x_fadd, x_fsub, x_fmul, x_fdiv, x_dadd, x_dsub, x_dmul, x_ddiv, x_fcmp, x_dcmp, x_dupI, x_dupR, x_dup2, x_popI, x_popR, ldP_I, ldP_L, ldP_F, ldP_D, ldP_R, ldP_N, x_iload, x_iload_n, x_lload, x_lload_n, x_fload, x_fload_n, x_dload, x_dload_n, x_aload, x_aload_n, x_istore, x_istore_n, x_lstore, x_lstore_n, x_fstore, x_fstore_n, x_dstore, x_dstore_n, x_astore, x_astore_n, x_astoreN, x_astore_nN, x_icmp_eq, x_icmp_ne, x_icmp_lt, x_icmp_ge, x_icmp_gt, x_icmp_le, x_if_eq, x_if_ne, x_if_lt, x_if_ge, x_if_gt, x_if_le, x_ifnull, x_ifnullR, x_ifnn, x_ifnnR, x_aaload2, x_cpI, x_cpF, x_oI, xk_bipush_120, xk_iconst_0, xk_bipush_m6, xk_iconst_1, xk_bipush_80, xk_iconst_4, xk_bipush_6, xk_iconst_2, xk_bipush_40, xk_iconst_3, xk_bipush_10, xk_iconst_5, xk_bipush_m2, xk_bipush_m4, xk_iconst_m1, xk_bipush_m5, xk_bipush_12, xk_bipush_100, xk_bipush_26, xk_bipush_48, xk_sipush_9999, xk_sipush_500, xk_bipush_7, xk_bipush_119, xk_bipush_m126, xk_bipush_127, xk_bipush_23, xk_sipush_m1022, xk_sipush_1023, xk_bipush_52, xg_0_0, xp_0_0, xg_0_1, xp_0_1, xg_0_2, xp_0_2, xg_0_3, xp_0_3, xg_0_4, xp_0_4, xg_0_5, xp_0_5, xg_0_6, xp_0_6, xg_0_7, xp_0_7, xg_0_8, xp_0_8, xg_1_0, xp_1_0, xg_1_1, xp_1_1, xg_1_2, xp_1_2, xg_1_3, xp_1_3, xg_2_0, xp_2_0, xg_2_1, xp_2_1, xg_2_2, xp_2_2, xg_3_0, xp_3_0, xg_3_1, xp_3_1, xg_3_2, xp_3_2, xg_3_3, xp_3_3, xg_3_4, xp_3_4, xg_3_5, xp_3_5, xg_3_6, xp_3_6, xg_3_7, xp_3_7, xg_3_8, xp_3_8, xg_3_9, xp_3_9, xg_3_10, xp_3_10, xg_3_11, xp_3_11, xg_4_0, xp_4_0, xg_4_1, xp_4_1, xg_5_0, xp_5_0, xg_5_1, xp_5_1, xg_6_0, xp_6_0, xg_6_1, xp_6_1, xg_6_2, xp_6_2, xg_6_3, xp_6_3, xg_6_4, xp_6_4, xg_6_5, xp_6_5, fv0, fv1, fv2, fv3, kI_0, kI_1, stL, wipeL, entLn, entL, List.getElem?_cons_zero, List.getElem?_cons_succ, List.getElem?_nil, List.set_cons_zero, List.set_cons_succ, List.set_nil, List.length_cons, List.length_nil, List.cons_append, List.nil_append, List.replicate, Nat.reduceAdd, Nat.reduceLeDiff, Nat.reduceSub, true_and, and_true, x_callS, x_callSN, x_callI, x_callIN, x_callV0, x_callV1, x_callV2, x_callV3, x_callV4, x_callV5, x_callV6, x_callV7, callP, List.take_succ_cons, List.take_zero, List.take_nil, List.drop_succ_cons, List.drop_zero, List.drop_nil, List.getLast?_singleton, List.getLast?_cons_cons, Option.some.injEq, Value.ref.injEq, exists_eq_left, exists_eq_left', Nat.zero_le, Nat.add_zero, ldcV_f, ldcV_fn, ldcV_l, ldcV_d, Nat.reduceMul, Nat.le_refl, List.reverse_cons, List.reverse_nil, Option.toList, List.map_cons, List.map_nil, List.sum_cons, List.sum_nil, Value.category, tblW_n, tblW_c, Int.cast_ofNat_Int, Int.reduceAdd, Int.reduceToNat, ofI_n, rc_X1_copyFrom, rs_X1_copyFrom, P_X1_copyFrom, rc_X5_lookAhead, rs_X5_lookAhead, P_X5_lookAhead, rc_X5_brightest, rs_X5_brightest, P_X5_brightest]
  obtain ⟨hp, h⟩ := h
  have hp0 := hp
  obtain ⟨⟨t0, t1, t2, t3, t4⟩, ⟨p1, p2, p3, p4⟩, hap, hap2⟩ := hp
  simp only [t0, t1, t2, t3, t4, t3.1, p1, p1.1, p3, hap2, sK_stI, sR_stI, sK_stF, sR_stF, sK_stIA, sR_stIA, sK_stFA, sR_stFA, sI_stI, sI_stF, sI_stIA, sI_stFA, sF_stI, sF_stF, sF_stIA, sF_stFA, Nat.left_eq_add, Nat.add_eq_left, Nat.add_left_cancel_iff, Nat.reduceEqDiff, Nat.reduceEqDiff, Nat.succ_ne_self, false_and, and_false, if_false, if_true, nI_succ_sub, Option.some.injEq, Prod.mk.injEq, exists_eq_left', true_and, and_true, retI, retF, retV, retZ1, retZ0, retL, retA, retN, Nat.reduceAdd, Nat.reduceMul, Nat.reduceLT]
  intro T hF hE
  obtain ⟨hT, hD, -⟩ := hp0.copied hF hE
  have hT0 := hT
  obtain ⟨⟨s0, s1, s2, s3, s4⟩, ⟨q1, q2, q3, q4⟩, -⟩ := hT
  simp only [s0, s1, s2, s3, s4, q1, q1.1, q2, q3, q4, hT0, true_and, sK_stI, sR_stI, sK_stF, sR_stF, sK_stIA, sR_stIA, sK_stFA, sR_stFA, sI_stI, sI_stF, sI_stIA, sI_stFA, sF_stI, sF_stF, sF_stIA, sF_stFA, Nat.left_eq_add, Nat.add_eq_left, Nat.add_left_cancel_iff, Nat.reduceEqDiff, Nat.reduceEqDiff, Nat.succ_ne_self, false_and, and_false, if_false, if_true, nI_succ_sub, Option.some.injEq, Prod.mk.injEq, exists_eq_left', true_and, and_true, retI, retF, retV, retZ1, retZ0, retL, retA, retN, Nat.reduceAdd, Nat.reduceMul, Nat.reduceLT]
  refine ⟨0, 119, by omega, by omega, by omega, rfl, rfl, (hT0.looked _).1, fun j hj hf => ?_, ?_⟩
  · have := Ahd_all hT0 j hj hf
    rw [sF_stFA, if_pos rfl] at this
    exact this
  · obtain ⟨l1, l2, l3, -⟩ := hT0.looked (loF (dV T d) (gV T (t + 1)) (sF T (t + 6)) 0 (119 + 1))
    rw [bestV_ds (l3.trans hD) (by rw [l2]; exact hE) l1.2.1.2.2.2 120 (Nat.le_refl _)]
    exact h _ ((hF.mono (by omega) (by omega)).stFA _ _ (by omega) (by omega))
def laF (D : DV) (G : GV) (f : Nat → UInt32) (k m : Nat) : Nat → UInt32 := fun j => if j < m ∧ dist k j ≤ 2 ∧ frV G j then ahV D G j else f j
def P_X5_lookAround (as : List Value) (S : SS) (E : Option Value → SS → Prop) : Prop := match as with
  | [.ref t, .ref d, .int k] => PreT S d t ∧ vp_in k 120 ∧ E none (stFA S (t + 6) (laF (dV S d) (gV S (t + 1)) (sF S (t + 6)) k.toNatClampNeg 120))
  | _ => False
def Γ_X5_lookAround : List (MI × PT) := [(mi_X6_firstNear, P_X6_firstNear), (mi_X6_lastNear, P_X6_lastNear), (mi_X5_lookAhead, P_X5_lookAhead)]
theorem hΓ_X5_lookAround (l : Launch) (G : Gx) : ∀ q ∈ Γ_X5_lookAround, Ct l G q.1 q.2 := List.forall_mem_cons.mpr ⟨ct_X6_firstNear l G, List.forall_mem_cons.mpr ⟨ct_X6_lastNear l G, List.forall_mem_cons.mpr ⟨ct_X5_lookAhead l G, fun _ h => absurd h List.not_mem_nil⟩⟩⟩
theorem laF_skip {D : DV} {G : GV} {f : Nat → UInt32} {k m n : Nat} (hmn : m ≤ n) (h : ∀ j, m ≤ j → j < n → 2 < dist k j) : laF D G f k n = laF D G f k m := by
  funext j
  unfold laF
  by_cases c : j < m ∧ dist k j ≤ 2 ∧ frV G j
  · rw [if_pos c, if_pos ⟨by omega, c.2⟩]
  · rw [if_neg c, if_neg]
    intro a
    have h1 : ¬ j < m := fun b => c ⟨b, a.2⟩
    have h2 := h j (by omega) a.1
    have h3 := a.2.1
    omega
theorem le_dist {k j : Nat} (h : j / 12 ≤ k / 12 + 2 ∧ k / 12 ≤ j / 12 + 2 ∧ j % 12 ≤ k % 12 + 2 ∧ k % 12 ≤ j % 12 + 2) : dist k j ≤ 2 := by
  unfold dist adiff
  split <;> split <;> omega
theorem laF_row {D : DV} {G : GV} {f : Nat → UInt32} {k r : Nat} (hk : k < 120) (hr : r < 10) (h1 : k / 12 - 2 ≤ r) (h2 : r ≤ k / 12 + 2) :
    loF D G (laF D G f k (r * 12)) (r * 12 + (k % 12 - 2)) (r * 12 + min (k % 12 + 2) 11 + 1) = laF D G f k ((r + 1) * 12) := by
  funext j
  unfold loF laF
  by_cases hf : frV G j
  · by_cases c : r * 12 + (k % 12 - 2) ≤ j ∧ j < r * 12 + min (k % 12 + 2) 11 + 1
    · rw [if_pos ⟨c.1, c.2, hf⟩, if_pos]
      exact ⟨by omega, le_dist (by omega), hf⟩
    · rw [if_neg (fun a => c ⟨a.1, a.2.1⟩)]
      by_cases c2 : j < r * 12 ∧ dist k j ≤ 2 ∧ frV G j
      · rw [if_pos c2, if_pos ⟨by omega, c2.2⟩]
      · rw [if_neg c2, if_neg]
        intro a
        have := dist_le a.2.1
        have h3 : ¬ j < r * 12 := fun b => c2 ⟨b, a.2⟩
        omega
  · rw [if_neg (fun a => hf a.2.2), if_neg (fun a => hf a.2.2), if_neg (fun a => hf a.2.2)]
set_option maxHeartbeats 1000000 in
theorem lp_X5_lookAround (l : Launch) (G : Gx) {S : SS} {t d k : Nat} {E : Option Value → SS → Prop} (hp : PreT S d t) (hk : k < 120) (h : E none (stFA S (t + 6) (laF (dV S d) (gV S (t + 1)) (sF S (t + 6)) k 120))) :
    ∀ r, r ≤ min (k / 12 + 2) 9 + 1 → k / 12 - 2 ≤ r → V l G mi_X5_lookAround E 17 [some (.ref t), some (.ref d), some (.int (nI k)), some (.int (nI (k / 12))), some (.int (nI (k % 12))), some (.int (nI r))] [] (stFA S (t + 6) (laF (dV S d) (gV S (t + 1)) (sF S (t + 6)) k (r * 12))) 0 0 := by
  refine loopUp _ fun r hr ih hr2 => ?_
  refine (V.segN (Γ := Γ_X5_lookAround) (hΓ_X5_lookAround l G) so_X5_lookAround 4 (sg := sg_X5_lookAround_17) so_X5_lookAround_17 ?_ : V l G mi_X5_lookAround _ (segPc sg_X5_lookAround_17) _ _ _ _ _)
  simp only [mL_X5_lookAround, mT_X5_lookAround, rc_X5_lookAround, rs_X5_lookAround, Γ_X5_lookAround, sg_X5_lookAround_0, sg_X5_lookAround_17, sg_X5_lookAround_63, wn_X5_lookAround_0, wn_X5_lookAround_17, wn_X5_lookAround_63, wp_c, ex_c, x_nop, x_goto, x_table, x_iinc, x_ldc, x_ldc2, x_iaload, x_faload, x_baload, x_caload, x_iastore, x_fastore, x_bastore, x_castore, x_aastore, x_alen, x_gets, x_new, x_newa, x_anew, x_invs, x_invi, x_invv, x_ret, x_iret, x_lret, x_fret, x_aret, x_lconst, x_fconst0, x_fconst1, x_fconst2, x_dconst0, x_dconst1, x_null, x_iadd, x_isub, x_imul, x_iand, x_ior, x_idiv, x_irem, x_ineg, x_ishl, x_ishr, x_land, x_ladd, x_lmul, x_lor, x_lushr, x_lshl, x_lcmp, x_i2l, x_l2i, x_i2c, x_i2f, x_f2d, x_d2i, x_d2l, x_fadd, x_fsub, x_fmul, x_fdiv, x_dadd, x_dsub, x_dmul, x_ddiv, x_fcmp, x_dcmp, x_dupI, x_dupR, x_dup2, x_popI, x_popR, ldP_I, ldP_L, ldP_F, ldP_D, ldP_R, ldP_N, x_iload, x_iload_n, x_lload, x_lload_n, x_fload, x_fload_n, x_dload, x_dload_n, x_aload, x_aload_n, x_istore, x_istore_n, x_lstore, x_lstore_n, x_fstore, x_fstore_n, x_dstore, x_dstore_n, x_astore, x_astore_n, x_astoreN, x_astore_nN, x_icmp_eq, x_icmp_ne, x_icmp_lt, x_icmp_ge, x_icmp_gt, x_icmp_le, x_if_eq, x_if_ne, x_if_lt, x_if_ge, x_if_gt, x_if_le, x_ifnull, x_ifnullR, x_ifnn, x_ifnnR, x_aaload2, x_cpI, x_cpF, x_oI, xk_bipush_120, xk_iconst_0, xk_bipush_m6, xk_iconst_1, xk_bipush_80, xk_iconst_4, xk_bipush_6, xk_iconst_2, xk_bipush_40, xk_iconst_3, xk_bipush_10, xk_iconst_5, xk_bipush_m2, xk_bipush_m4, xk_iconst_m1, xk_bipush_m5, xk_bipush_12, xk_bipush_100, xk_bipush_26, xk_bipush_48, xk_sipush_9999, xk_sipush_500, xk_bipush_7, xk_bipush_119, xk_bipush_m126, xk_bipush_127, xk_bipush_23, xk_sipush_m1022, xk_sipush_1023, xk_bipush_52, xg_0_0, xp_0_0, xg_0_1, xp_0_1, xg_0_2, xp_0_2, xg_0_3, xp_0_3, xg_0_4, xp_0_4, xg_0_5, xp_0_5, xg_0_6, xp_0_6, xg_0_7, xp_0_7, xg_0_8, xp_0_8, xg_1_0, xp_1_0, xg_1_1, xp_1_1, xg_1_2, xp_1_2, xg_1_3, xp_1_3, xg_2_0, xp_2_0, xg_2_1, xp_2_1, xg_2_2, xp_2_2, xg_3_0, xp_3_0, xg_3_1, xp_3_1, xg_3_2, xp_3_2, xg_3_3, xp_3_3, xg_3_4, xp_3_4, xg_3_5, xp_3_5, xg_3_6, xp_3_6, xg_3_7, xp_3_7, xg_3_8, xp_3_8, xg_3_9, xp_3_9, xg_3_10, xp_3_10, xg_3_11, xp_3_11, xg_4_0, xp_4_0, xg_4_1, xp_4_1, xg_5_0, xp_5_0, xg_5_1, xp_5_1, xg_6_0, xp_6_0, xg_6_1, xp_6_1, xg_6_2, xp_6_2, xg_6_3, xp_6_3, xg_6_4, xp_6_4, xg_6_5, xp_6_5, fv0, fv1, fv2, fv3, kI_0, kI_1, stL, wipeL, entLn, entL, List.getElem?_cons_zero, List.getElem?_cons_succ, List.getElem?_nil, List.set_cons_zero, List.set_cons_succ, List.set_nil, List.length_cons, List.length_nil, List.cons_append, List.nil_append, List.replicate, Nat.reduceAdd, Nat.reduceLeDiff, Nat.reduceSub, true_and, and_true, x_callS, x_callSN, x_callI, x_callIN, x_callV0, x_callV1, x_callV2, x_callV3, x_callV4, x_callV5, x_callV6, x_callV7, callP, List.take_succ_cons, List.take_zero, List.take_nil, List.drop_succ_cons, List.drop_zero, List.drop_nil, List.getLast?_singleton, List.getLast?_cons_cons, Option.some.injEq, Value.ref.injEq, exists_eq_left, exists_eq_left', Nat.zero_le, Nat.add_zero, ldcV_f, ldcV_fn, ldcV_l, ldcV_d, Nat.reduceMul, Nat.le_refl, List.reverse_cons, List.reverse_nil, Option.toList, List.map_cons, List.map_nil, List.sum_cons, List.sum_nil, Value.category, tblW_n, tblW_c, Int.cast_ofNat_Int, Int.reduceAdd, Int.reduceToNat, ofI_n, rc_X6_firstNear, rs_X6_firstNear, P_X6_firstNear, rc_X6_lastNear, rs_X6_lastNear, P_X6_lastNear, rc_X5_lookAhead, rs_X5_lookAhead, P_X5_lookAhead]
  obtain ⟨l1, l2, l3, l4⟩ := hp.looked (laF (dV S d) (gV S (t + 1)) (sF S (t + 6)) k (r * 12))
  simp only [l1, l1.1.1, hp.1.1, sK_stI, sR_stI, sK_stF, sR_stF, sK_stIA, sR_stIA, sK_stFA, sR_stFA, sI_stI, sI_stF, sI_stIA, sI_stFA, sF_stI, sF_stF, sF_stIA, sF_stFA, Nat.left_eq_add, Nat.add_eq_left, Nat.add_left_cancel_iff, Nat.reduceEqDiff, Nat.reduceEqDiff, Nat.succ_ne_self, false_and, and_false, if_false, if_true, nI_succ_sub, Option.some.injEq, Prod.mk.injEq, exists_eq_left', true_and, and_true, retI, retF, retV, retZ1, retZ0, retL, retA, retN, Nat.reduceAdd, Nat.reduceMul, Nat.reduceLT]
  simp (disch := omega) only [nlt0, nge0, neq0, ngt0, nle0, nI_ltI, nI_leI, nI_eq, nI_cl, in_nI, false_implies, true_implies, not_false_eq_true, not_true_eq_false, and_true, true_and, nI_add, pk_mul, implies_true, not_lt0, Nat.add_one_sub_one]
  refine ⟨by omega, by omega, by omega, fun q => ?_, fun q => ⟨by omega, by omega, by omega, by omega, r * 12 + (k % 12 - 2), r * 12 + min (k % 12 + 2) 11, by omega, by omega, by omega, rfl, rfl, ?_⟩⟩
  · have e : laF (dV S d) (gV S (t + 1)) (sF S (t + 6)) k 120 = laF (dV S d) (gV S (t + 1)) (sF S (t + 6)) k (r * 12) := laF_skip (by omega) fun j h1 h2 => by
      apply Nat.lt_of_not_le
      intro h3
      have := dist_le h3
      omega
    rw [← e]
    exact h
  · have e : ∀ f m n, loF (dV (stFA S (t + 6) (laF (dV S d) (gV S (t + 1)) (sF S (t + 6)) k (r * 12))) d) (gV S (t + 1)) f m n = loF (dV S d) (gV S (t + 1)) f m n := fun f m n => by
      funext j
      unfold loF
      rw [l4]
    rw [l2, e, stFA_stFA, laF_row hk (by omega) hr2 (by omega)]
    exact ih (by omega) (by omega)
set_option maxHeartbeats 1000000 in
theorem ct_X5_lookAround (l : Launch) (G : Gx) : Ct l G mi_X5_lookAround P_X5_lookAround := by
  refine Ct.ofV mo_X5_lookAround (fun as S E h => ?_)
  unfold P_X5_lookAround at h
  split at h
  case h_2 => exact h.elim
  rename_i t d k
  refine ⟨by simp [entL, mL_X5_lookAround], ?_⟩
  refine wpN_ok (Γ := Γ_X5_lookAround) (hΓ_X5_lookAround l G) so_X5_lookAround 4 _ _ _ _ _ _ ?_
  simp only [mL_X5_lookAround, mT_X5_lookAround, rc_X5_lookAround, rs_X5_lookAround, Γ_X5_lookAround, sg_X5_lookAround_0, sg_X5_lookAround_17, sg_X5_lookAround_63, wn_X5_lookAround_0, wn_X5_lookAround_17, wn_X5_lookAround_63, wp_c, ex_c, x_nop, x_goto, x_table, x_iinc, x_ldc, x_ldc2, x_iaload, x_faload, x_baload, x_caload, x_iastore, x_fastore, x_bastore, x_castore, x_aastore, x_alen, x_gets, x_new, x_newa, x_anew, x_invs, x_invi, x_invv, x_ret, x_iret, x_lret, x_fret, x_aret, x_lconst, x_fconst0, x_fconst1, x_fconst2, x_dconst0, x_dconst1, x_null, x_iadd, x_isub, x_imul, x_iand, x_ior, x_idiv, x_irem, x_ineg, x_ishl, x_ishr, x_land, x_ladd, x_lmul, x_lor, x_lushr, x_lshl, x_lcmp, x_i2l, x_l2i, x_i2c, x_i2f, x_f2d, x_d2i, x_d2l, x_fadd, x_fsub, x_fmul, x_fdiv, x_dadd, x_dsub, x_dmul, x_ddiv, x_fcmp, x_dcmp, x_dupI, x_dupR, x_dup2, x_popI, x_popR, ldP_I, ldP_L, ldP_F, ldP_D, ldP_R, ldP_N, x_iload, x_iload_n, x_lload, x_lload_n, x_fload, x_fload_n, x_dload, x_dload_n, x_aload, x_aload_n, x_istore, x_istore_n, x_lstore, x_lstore_n, x_fstore, x_fstore_n, x_dstore, x_dstore_n, x_astore, x_astore_n, x_astoreN, x_astore_nN, x_icmp_eq, x_icmp_ne, x_icmp_lt, x_icmp_ge, x_icmp_gt, x_icmp_le, x_if_eq, x_if_ne, x_if_lt, x_if_ge, x_if_gt, x_if_le, x_ifnull, x_ifnullR, x_ifnn, x_ifnnR, x_aaload2, x_cpI, x_cpF, x_oI, xk_bipush_120, xk_iconst_0, xk_bipush_m6, xk_iconst_1, xk_bipush_80, xk_iconst_4, xk_bipush_6, xk_iconst_2, xk_bipush_40, xk_iconst_3, xk_bipush_10, xk_iconst_5, xk_bipush_m2, xk_bipush_m4, xk_iconst_m1, xk_bipush_m5, xk_bipush_12, xk_bipush_100, xk_bipush_26, xk_bipush_48, xk_sipush_9999, xk_sipush_500, xk_bipush_7, xk_bipush_119, xk_bipush_m126, xk_bipush_127, xk_bipush_23, xk_sipush_m1022, xk_sipush_1023, xk_bipush_52, xg_0_0, xp_0_0, xg_0_1, xp_0_1, xg_0_2, xp_0_2, xg_0_3, xp_0_3, xg_0_4, xp_0_4, xg_0_5, xp_0_5, xg_0_6, xp_0_6, xg_0_7, xp_0_7, xg_0_8, xp_0_8, xg_1_0, xp_1_0, xg_1_1, xp_1_1, xg_1_2, xp_1_2, xg_1_3, xp_1_3, xg_2_0, xp_2_0, xg_2_1, xp_2_1, xg_2_2, xp_2_2, xg_3_0, xp_3_0, xg_3_1, xp_3_1, xg_3_2, xp_3_2, xg_3_3, xp_3_3, xg_3_4, xp_3_4, xg_3_5, xp_3_5, xg_3_6, xp_3_6, xg_3_7, xp_3_7, xg_3_8, xp_3_8, xg_3_9, xp_3_9, xg_3_10, xp_3_10, xg_3_11, xp_3_11, xg_4_0, xp_4_0, xg_4_1, xp_4_1, xg_5_0, xp_5_0, xg_5_1, xp_5_1, xg_6_0, xp_6_0, xg_6_1, xp_6_1, xg_6_2, xp_6_2, xg_6_3, xp_6_3, xg_6_4, xp_6_4, xg_6_5, xp_6_5, fv0, fv1, fv2, fv3, kI_0, kI_1, stL, wipeL, entLn, entL, List.getElem?_cons_zero, List.getElem?_cons_succ, List.getElem?_nil, List.set_cons_zero, List.set_cons_succ, List.set_nil, List.length_cons, List.length_nil, List.cons_append, List.nil_append, List.replicate, Nat.reduceAdd, Nat.reduceLeDiff, Nat.reduceSub, true_and, and_true, x_callS, x_callSN, x_callI, x_callIN, x_callV0, x_callV1, x_callV2, x_callV3, x_callV4, x_callV5, x_callV6, x_callV7, callP, List.take_succ_cons, List.take_zero, List.take_nil, List.drop_succ_cons, List.drop_zero, List.drop_nil, List.getLast?_singleton, List.getLast?_cons_cons, Option.some.injEq, Value.ref.injEq, exists_eq_left, exists_eq_left', Nat.zero_le, Nat.add_zero, ldcV_f, ldcV_fn, ldcV_l, ldcV_d, Nat.reduceMul, Nat.le_refl, List.reverse_cons, List.reverse_nil, Option.toList, List.map_cons, List.map_nil, List.sum_cons, List.sum_nil, Value.category, tblW_n, tblW_c, Int.cast_ofNat_Int, Int.reduceAdd, Int.reduceToNat, ofI_n, rc_X6_firstNear, rs_X6_firstNear, P_X6_firstNear, rc_X6_lastNear, rs_X6_lastNear, P_X6_lastNear, rc_X5_lookAhead, rs_X5_lookAhead, P_X5_lookAhead]
  obtain ⟨hp, hk0, h⟩ := h
  obtain ⟨k, hk, rfl⟩ := vp_in_of hk0 (by decide)
  rw [nI_cl (by omega)] at h
  have h12 : ¬ nI 12 = 0 := by decide
  have e1 : nI k / nI 12 = nI (k / 12) := pk_div (by omega) (by omega) (by omega)
  have e2 : nI k - nI (k / 12) * nI 12 = nI (k % 12) := by rw [← e1]; exact pk_rem (by omega) (by omega) (by omega)
  simp only [h12, e1, e2, sK_stI, sR_stI, sK_stF, sR_stF, sK_stIA, sR_stIA, sK_stFA, sR_stFA, sI_stI, sI_stF, sI_stIA, sI_stFA, sF_stI, sF_stF, sF_stIA, sF_stFA, Nat.left_eq_add, Nat.add_eq_left, Nat.add_left_cancel_iff, Nat.reduceEqDiff, Nat.reduceEqDiff, Nat.succ_ne_self, false_and, and_false, if_false, if_true, nI_succ_sub, Option.some.injEq, Prod.mk.injEq, exists_eq_left', true_and, and_true, retI, retF, retV, retZ1, retZ0, retL, retA, retN, Nat.reduceAdd, Nat.reduceMul, Nat.reduceLT]
  simp (disch := omega) only [nlt0, nge0, neq0, ngt0, nle0, nI_ltI, nI_leI, nI_eq, nI_cl, in_nI, false_implies, true_implies, not_false_eq_true, not_true_eq_false, and_true, true_and, nI_add, pk_mul, implies_true, not_lt0, Nat.add_one_sub_one]
  refine ⟨by omega, ?_⟩
  have e3 := lp_X5_lookAround l G hp hk h (k / 12 - 2) (by omega) (Nat.le_refl _)
  have e : laF (dV S d) (gV S (t + 1)) (sF S (t + 6)) k ((k / 12 - 2) * 12) = laF (dV S d) (gV S (t + 1)) (sF S (t + 6)) k 0 := laF_skip (by omega) fun j h1 h2 => by
    apply Nat.lt_of_not_le
    intro h3
    have := dist_le h3
    omega
  have e4 : laF (dV S d) (gV S (t + 1)) (sF S (t + 6)) k 0 = sF S (t + 6) := by
    funext j
    unfold laF
    rw [if_neg (by omega)]
  rw [e, e4, stFA_self] at e3
  exact e3
/-- the best places written full -/
def fiV (D : DV) (w : Nat) (G : GV) (n : Nat) : GV × Nat := fo (fun s _ => if (bestV D s.1 120).1 = mI 6 then s else (markV D s.1 w (bestV D s.1 120).1.toNatClampNeg (nI 0), s.2 + 1)) (G, 0) n
theorem fiV_s (D : DV) (w : Nat) (G : GV) (n : Nat) : fiV D w G (n + 1) = if (bestV D (fiV D w G n).1 120).1 = mI 6 then fiV D w G n else (markV D (fiV D w G n).1 w (bestV D (fiV D w G n).1 120).1.toNatClampNeg (nI 0), (fiV D w G n).2 + 1) := rfl
theorem fiV_stop {D : DV} {w : Nat} {G : GV} {m : Nat} (h : (bestV D (fiV D w G m).1 120).1 = mI 6) : ∀ n, m ≤ n → fiV D w G n = fiV D w G m := by
  intro n
  induction n with
  | zero => intro h2; rw [show m = 0 by omega]
  | succ n ih =>
    intro h2
    by_cases h3 : m = n + 1
    · rw [h3]
    · rw [fiV_s, ih (by omega), if_pos h]
theorem bestV_or (D : DV) (G : GV) : ∀ n, (bestV D G n).1 = mI 6 ∨ ∃ k, k < n ∧ (bestV D G n).1 = nI k ∧ frV G k := by
  intro n
  induction n with
  | zero => exact Or.inl rfl
  | succ n ih =>
    rw [bestV_s]
    split
    · exact Or.inr ⟨n, by omega, rfl, (roV_fr.mp (by rename_i h; exact h.1)).1⟩
    · rcases ih with h | ⟨k, hk, e⟩
      · exact Or.inl h
      · exact Or.inr ⟨k, by omega, e⟩
def P_X5_lettersUntilFull (as : List Value) (S : SS) (E : Option Value → SS → Prop) : Prop := match as with
  | [.ref t, .ref d, .ref g, .int w] => PreX S d t g ∧ vp_in w 5 ∧ ∀ S', Fr S S' t (t + 7) → E (some (.int (nI (fiV (dV S d) w.toNatClampNeg (gV S g) 120).2))) S'
  | _ => False
def Γ_X5_lettersUntilFull : List (MI × PT) := [(mi_X1_copyFrom, P_X1_copyFrom), (mi_X5_lookAhead, P_X5_lookAhead), (mi_X5_brightest, P_X5_brightest), (mi_X0_mark, P_X0_mark), (mi_X5_lookAround, P_X5_lookAround)]
theorem hΓ_X5_lettersUntilFull (l : Launch) (G : Gx) : ∀ q ∈ Γ_X5_lettersUntilFull, Ct l G q.1 q.2 := List.forall_mem_cons.mpr ⟨ct_X1_copyFrom l G, List.forall_mem_cons.mpr ⟨ct_X5_lookAhead l G, List.forall_mem_cons.mpr ⟨ct_X5_brightest l G, List.forall_mem_cons.mpr ⟨ct_X0_mark l G, List.forall_mem_cons.mpr ⟨ct_X5_lookAround l G, fun _ h => absurd h List.not_mem_nil⟩⟩⟩⟩⟩
/-- light ahead stays told: a letter at a free place, its rings told anew -/
theorem Ahd_step {D : DV} {A B : GV} {w k : Nat} (hf : frV A k) (hB : GE B (markV D A w k (nI 0))) (hw : w < 5) (hs : StV D) (hA : GOK A) : ∀ j, j < 120 → frV B j → frV A j ∧ (2 < dist k j → ahV D B j = ahV D A j) := by
  intro j hj hfB
  obtain ⟨b1, b2, b3, b4⟩ := hB j hj
  have c : ¬ j = k := by
    intro c
    have h1 := hfB.1
    rw [b2] at h1
    have h2 : upV A.t k (nI 0) j = mI 6 := h1
    unfold upV at h2
    rw [if_pos c] at h2
    exact absurd h2 (by decide)
  refine ⟨⟨?_, ?_⟩, fun hd => ?_⟩
  · have h2 : upV A.t k (nI 0) j = mI 6 := (show upV A.t k (nI 0) j = B.t j from b2.symm).trans hfB.1
    unfold upV at h2
    rwa [if_neg c] at h2
  · have h2 : upV A.p k (mI 6) j = mI 6 := (show upV A.p k (mI 6) j = B.p j from b4.symm).trans hfB.2
    unfold upV at h2
    rwa [if_neg c] at h2
  · have e : B.l j = A.l j := by
      rw [b1]
      exact dimV_far (Or.inr hd)
    unfold ahV
    rw [e]
    refine fo_congr (fun i hi x => ?_)
    have e2 : B.p i = A.p i := by
      rw [(hB i hi).2.2.2]
      show upV A.p k (mI 6) i = A.p i
      unfold upV
      by_cases c2 : i = k
      · rw [if_pos c2, c2]
        exact hf.2.symm
      · rw [if_neg c2]
    rw [e2]
set_option maxHeartbeats 1000000 in
theorem lp_X5_lettersUntilFull (l : Launch) (G : Gx) {S0 : SS} {t d g w : Nat} {D : DV} {H : GV} {E : Option Value → SS → Prop} (hw : w < 5) (h : ∀ S', Fr S0 S' t (t + 7) → E (some (.int (nI (fiV D w H 120).2))) S') :
    ∀ n, n ≤ 120 → ∀ S, Fr S0 S t (t + 7) → PreT S d t → DS (dV S d) D → GE (gV S (t + 1)) (fiV D w H n).1 → (fiV D w H n).2 = n → Ahd S d t → V l G mi_X5_lettersUntilFull E 26 [some (.ref t), some (.ref d), some (.ref g), some (.int (nI w)), some (.int (bestV D (fiV D w H n).1 120).1), some (.int (nI n))] [] S 0 0 := by
  refine loopUp 120 fun n hn ih S hF hp hD hE hc hA => ?_
  refine (V.segN (Γ := Γ_X5_lettersUntilFull) (hΓ_X5_lettersUntilFull l G) so_X5_lettersUntilFull 4 (sg := sg_X5_lettersUntilFull_26) so_X5_lettersUntilFull_26 ?_ : V l G mi_X5_lettersUntilFull _ (segPc sg_X5_lettersUntilFull_26) _ _ _ _ _)
  simp only [mL_X5_lettersUntilFull, mT_X5_lettersUntilFull, rc_X5_lettersUntilFull, rs_X5_lettersUntilFull, Γ_X5_lettersUntilFull, sg_X5_lettersUntilFull_0, sg_X5_lettersUntilFull_26, sg_X5_lettersUntilFull_73, wn_X5_lettersUntilFull_0, wn_X5_lettersUntilFull_26, wn_X5_lettersUntilFull_73, wp_c, ex_c, x_nop, x_goto, x_table, x_iinc, x_ldc, x_ldc2, x_iaload, x_faload, x_baload, x_caload, x_iastore, x_fastore, x_bastore, x_castore, x_aastore, x_alen, x_gets, x_new, x_newa, x_anew, x_invs, x_invi, x_invv, x_ret, x_iret, x_lret, x_fret, x_aret, x_lconst, x_fconst0, x_fconst1, x_fconst2, x_dconst0, x_dconst1, x_null, x_iadd, x_isub, x_imul, x_iand, x_ior, x_idiv, x_irem, x_ineg, x_ishl, x_ishr, x_land, x_ladd, x_lmul, x_lor, x_lushr, x_lshl, x_lcmp, x_i2l, x_l2i, x_i2c, x_i2f, x_f2d, x_d2i, x_d2l, x_fadd, x_fsub, x_fmul, x_fdiv, x_dadd, x_dsub, x_dmul, x_ddiv, x_fcmp, x_dcmp, x_dupI, x_dupR, x_dup2, x_popI, x_popR, ldP_I, ldP_L, ldP_F, ldP_D, ldP_R, ldP_N, x_iload, x_iload_n, x_lload, x_lload_n, x_fload, x_fload_n, x_dload, x_dload_n, x_aload, x_aload_n, x_istore, x_istore_n, x_lstore, x_lstore_n, x_fstore, x_fstore_n, x_dstore, x_dstore_n, x_astore, x_astore_n, x_astoreN, x_astore_nN, x_icmp_eq, x_icmp_ne, x_icmp_lt, x_icmp_ge, x_icmp_gt, x_icmp_le, x_if_eq, x_if_ne, x_if_lt, x_if_ge, x_if_gt, x_if_le, x_ifnull, x_ifnullR, x_ifnn, x_ifnnR, x_aaload2, x_cpI, x_cpF, x_oI, xk_bipush_120, xk_iconst_0, xk_bipush_m6, xk_iconst_1, xk_bipush_80, xk_iconst_4, xk_bipush_6, xk_iconst_2, xk_bipush_40, xk_iconst_3, xk_bipush_10, xk_iconst_5, xk_bipush_m2, xk_bipush_m4, xk_iconst_m1, xk_bipush_m5, xk_bipush_12, xk_bipush_100, xk_bipush_26, xk_bipush_48, xk_sipush_9999, xk_sipush_500, xk_bipush_7, xk_bipush_119, xk_bipush_m126, xk_bipush_127, xk_bipush_23, xk_sipush_m1022, xk_sipush_1023, xk_bipush_52, xg_0_0, xp_0_0, xg_0_1, xp_0_1, xg_0_2, xp_0_2, xg_0_3, xp_0_3, xg_0_4, xp_0_4, xg_0_5, xp_0_5, xg_0_6, xp_0_6, xg_0_7, xp_0_7, xg_0_8, xp_0_8, xg_1_0, xp_1_0, xg_1_1, xp_1_1, xg_1_2, xp_1_2, xg_1_3, xp_1_3, xg_2_0, xp_2_0, xg_2_1, xp_2_1, xg_2_2, xp_2_2, xg_3_0, xp_3_0, xg_3_1, xp_3_1, xg_3_2, xp_3_2, xg_3_3, xp_3_3, xg_3_4, xp_3_4, xg_3_5, xp_3_5, xg_3_6, xp_3_6, xg_3_7, xp_3_7, xg_3_8, xp_3_8, xg_3_9, xp_3_9, xg_3_10, xp_3_10, xg_3_11, xp_3_11, xg_4_0, xp_4_0, xg_4_1, xp_4_1, xg_5_0, xp_5_0, xg_5_1, xp_5_1, xg_6_0, xp_6_0, xg_6_1, xp_6_1, xg_6_2, xp_6_2, xg_6_3, xp_6_3, xg_6_4, xp_6_4, xg_6_5, xp_6_5, fv0, fv1, fv2, fv3, kI_0, kI_1, stL, wipeL, entLn, entL, List.getElem?_cons_zero, List.getElem?_cons_succ, List.getElem?_nil, List.set_cons_zero, List.set_cons_succ, List.set_nil, List.length_cons, List.length_nil, List.cons_append, List.nil_append, List.replicate, Nat.reduceAdd, Nat.reduceLeDiff, Nat.reduceSub, true_and, and_true, x_callS, x_callSN, x_callI, x_callIN, x_callV0, x_callV1, x_callV2, x_callV3, x_callV4, x_callV5, x_callV6, x_callV7, callP, List.take_succ_cons, List.take_zero, List.take_nil, List.drop_succ_cons, List.drop_zero, List.drop_nil, List.getLast?_singleton, List.getLast?_cons_cons, Option.some.injEq, Value.ref.injEq, exists_eq_left, exists_eq_left', Nat.zero_le, Nat.add_zero, ldcV_f, ldcV_fn, ldcV_l, ldcV_d, Nat.reduceMul, Nat.le_refl, List.reverse_cons, List.reverse_nil, Option.toList, List.map_cons, List.map_nil, List.sum_cons, List.sum_nil, Value.category, tblW_n, tblW_c, Int.cast_ofNat_Int, Int.reduceAdd, Int.reduceToNat, ofI_n, rc_X1_copyFrom, rs_X1_copyFrom, P_X1_copyFrom, rc_X5_lookAhead, rs_X5_lookAhead, P_X5_lookAhead, rc_X5_brightest, rs_X5_brightest, P_X5_brightest, rc_X0_mark, rs_X0_mark, P_X0_mark, rc_X5_lookAround, rs_X5_lookAround, P_X5_lookAround]
  have hp0 := hp
  obtain ⟨⟨t0, t1, t2, t3, t4⟩, ⟨p1, p2, p3, p4⟩, hap⟩ := hp
  simp only [t0, t1, t2, t3, t4, t3.1, p1, p1.1, p2, p3, p4, sK_stI, sR_stI, sK_stF, sR_stF, sK_stIA, sR_stIA, sK_stFA, sR_stFA, sI_stI, sI_stF, sI_stIA, sI_stFA, sF_stI, sF_stF, sF_stIA, sF_stFA, Nat.left_eq_add, Nat.add_eq_left, Nat.add_left_cancel_iff, Nat.reduceEqDiff, Nat.reduceEqDiff, Nat.succ_ne_self, false_and, and_false, if_false, if_true, nI_succ_sub, Option.some.injEq, Prod.mk.injEq, exists_eq_left', true_and, and_true, retI, retF, retV, retZ1, retZ0, retL, retA, retN, Nat.reduceAdd, Nat.reduceMul, Nat.reduceLT]
  simp (disch := omega) only [nlt0, nge0, neq0, ngt0, nle0, nI_ltI, nI_leI, nI_eq, nI_cl, in_nI, false_implies, true_implies, not_false_eq_true, not_true_eq_false, and_true, true_and, nI_add, pk_mul, implies_true, not_lt0]
  refine ⟨fun q => ?_, fun q => ⟨fun c => ?_, fun c => ?_⟩⟩
  · have e : n = 120 := by omega
    subst e
    rw [← hc]
    exact h S hF
  · have := h S hF
    rw [fiV_stop c 120 hn, hc] at this
    exact this
  · rcases bestV_or D (fiV D w H n).1 120 with c2 | ⟨b, hb, eb, hfb⟩
    · exact absurd c2 c
    have hfA : frV (gV S (t + 1)) b := by
      unfold frV at hfb ⊢
      rw [(hE b hb).2.1, (hE b hb).2.2.2]
      exact hfb
    have efi : fiV D w H (n + 1) = (markV D (fiV D w H n).1 w b (nI 0), (fiV D w H n).2 + 1) := by
      rw [fiV_s, if_neg c, eb, nI_cl (by omega)]
    have ih := ih (by omega)
    rw [efi] at ih
    rw [eb, nI_cl (show b < 2 ^ 31 by omega)]
    have hap' := hap
    unfold Ap at hap'
    refine ⟨hw, vp_in_nI hb (by omega), fun T hT hM => ?_⟩
    have hDT : DS (dV T d) (dV S d) := hT.ds (by omega)
    have hGB : GOK (gV T (t + 1)) := GOK.congr hM.symm (GOK_mark p2 p4 hw (by omega))
    have hpT : PreT T d t := ⟨hp0.1.fr hT, ⟨hT.desk p1, p2.ds hDT.symm, hT.glass t3, hGB⟩, hap⟩
    obtain ⟨l1, l2, l3, l4⟩ := hpT.looked (laF (dV T d) (gV T (t + 1)) (sF T (t + 6)) b 120)
    have hA2 : Ahd (stFA T (t + 6) (laF (dV T d) (gV T (t + 1)) (sF T (t + 6)) b 120)) d t := by
      intro j hj hf
      rw [l2] at hf ⊢
      rw [l4, sF_stFA, if_pos rfl]
      obtain ⟨s1, s2⟩ := Ahd_step hfA hM hw p2 p4 j hj hf
      unfold laF
      by_cases c3 : dist b j ≤ 2
      · rw [if_pos ⟨hj, c3, hf⟩]
      · rw [if_neg (fun a => c3 a.2.1), hT.f (by omega), hA j hj s1, ← s2 (by omega)]
        exact (aheadV_ds hDT (GE.refl _) hGB _ j 120 (Nat.le_refl _)).symm
    have hEB : GE (gV T (t + 1)) (markV D (fiV D w H n).1 w b (nI 0)) := hM.trans (markV_ds hD hE hw b _)
    have hDU := (l3.trans hDT).trans hD
    refine ⟨hpT.1.1, hpT, vp_in_nI hb (by omega), hpT.1.1, l1, fun j hj hf => ?_, ?_⟩
    · have := hA2 j hj hf
      rw [sF_stFA, if_pos rfl] at this
      exact this
    · rw [bestV_ds hDU (by rw [l2]; exact hEB) l1.2.1.2.2.2 120 (Nat.le_refl _)]
      refine ih _ ((hF.trans (hT.mono (by omega) (by omega))).stFA _ _ (by omega) (by omega)) l1 hDU (by rw [l2]; exact hEB) ?_ hA2
      show (fiV D w H n).2 + 1 = n + 1
      rw [hc]
set_option maxHeartbeats 1000000 in
theorem ct_X5_lettersUntilFull (l : Launch) (G : Gx) : Ct l G mi_X5_lettersUntilFull P_X5_lettersUntilFull := by
  refine Ct.ofV mo_X5_lettersUntilFull (fun as S E h => ?_)
  unfold P_X5_lettersUntilFull at h
  split at h
  case h_2 => exact h.elim
  rename_i t d g w
  refine ⟨by simp [entL, mL_X5_lettersUntilFull], ?_⟩
  refine wpN_ok (Γ := Γ_X5_lettersUntilFull) (hΓ_X5_lettersUntilFull l G) so_X5_lettersUntilFull 4 _ _ _ _ _ _ ?_
  simp only [mL_X5_lettersUntilFull, mT_X5_lettersUntilFull, rc_X5_lettersUntilFull, rs_X5_lettersUntilFull, Γ_X5_lettersUntilFull, sg_X5_lettersUntilFull_0, sg_X5_lettersUntilFull_26, sg_X5_lettersUntilFull_73, wn_X5_lettersUntilFull_0, wn_X5_lettersUntilFull_26, wn_X5_lettersUntilFull_73, wp_c, ex_c, x_nop, x_goto, x_table, x_iinc, x_ldc, x_ldc2, x_iaload, x_faload, x_baload, x_caload, x_iastore, x_fastore, x_bastore, x_castore, x_aastore, x_alen, x_gets, x_new, x_newa, x_anew, x_invs, x_invi, x_invv, x_ret, x_iret, x_lret, x_fret, x_aret, x_lconst, x_fconst0, x_fconst1, x_fconst2, x_dconst0, x_dconst1, x_null, x_iadd, x_isub, x_imul, x_iand, x_ior, x_idiv, x_irem, x_ineg, x_ishl, x_ishr, x_land, x_ladd, x_lmul, x_lor, x_lushr, x_lshl, x_lcmp, x_i2l, x_l2i, x_i2c, x_i2f, x_f2d, x_d2i, x_d2l, x_fadd, x_fsub, x_fmul, x_fdiv, x_dadd, x_dsub, x_dmul, x_ddiv, x_fcmp, x_dcmp, x_dupI, x_dupR, x_dup2, x_popI, x_popR, ldP_I, ldP_L, ldP_F, ldP_D, ldP_R, ldP_N, x_iload, x_iload_n, x_lload, x_lload_n, x_fload, x_fload_n, x_dload, x_dload_n, x_aload, x_aload_n, x_istore, x_istore_n, x_lstore, x_lstore_n, x_fstore, x_fstore_n, x_dstore, x_dstore_n, x_astore, x_astore_n, x_astoreN, x_astore_nN, x_icmp_eq, x_icmp_ne, x_icmp_lt, x_icmp_ge, x_icmp_gt, x_icmp_le, x_if_eq, x_if_ne, x_if_lt, x_if_ge, x_if_gt, x_if_le, x_ifnull, x_ifnullR, x_ifnn, x_ifnnR, x_aaload2, x_cpI, x_cpF, x_oI, xk_bipush_120, xk_iconst_0, xk_bipush_m6, xk_iconst_1, xk_bipush_80, xk_iconst_4, xk_bipush_6, xk_iconst_2, xk_bipush_40, xk_iconst_3, xk_bipush_10, xk_iconst_5, xk_bipush_m2, xk_bipush_m4, xk_iconst_m1, xk_bipush_m5, xk_bipush_12, xk_bipush_100, xk_bipush_26, xk_bipush_48, xk_sipush_9999, xk_sipush_500, xk_bipush_7, xk_bipush_119, xk_bipush_m126, xk_bipush_127, xk_bipush_23, xk_sipush_m1022, xk_sipush_1023, xk_bipush_52, xg_0_0, xp_0_0, xg_0_1, xp_0_1, xg_0_2, xp_0_2, xg_0_3, xp_0_3, xg_0_4, xp_0_4, xg_0_5, xp_0_5, xg_0_6, xp_0_6, xg_0_7, xp_0_7, xg_0_8, xp_0_8, xg_1_0, xp_1_0, xg_1_1, xp_1_1, xg_1_2, xp_1_2, xg_1_3, xp_1_3, xg_2_0, xp_2_0, xg_2_1, xp_2_1, xg_2_2, xp_2_2, xg_3_0, xp_3_0, xg_3_1, xp_3_1, xg_3_2, xp_3_2, xg_3_3, xp_3_3, xg_3_4, xp_3_4, xg_3_5, xp_3_5, xg_3_6, xp_3_6, xg_3_7, xp_3_7, xg_3_8, xp_3_8, xg_3_9, xp_3_9, xg_3_10, xp_3_10, xg_3_11, xp_3_11, xg_4_0, xp_4_0, xg_4_1, xp_4_1, xg_5_0, xp_5_0, xg_5_1, xp_5_1, xg_6_0, xp_6_0, xg_6_1, xp_6_1, xg_6_2, xp_6_2, xg_6_3, xp_6_3, xg_6_4, xp_6_4, xg_6_5, xp_6_5, fv0, fv1, fv2, fv3, kI_0, kI_1, stL, wipeL, entLn, entL, List.getElem?_cons_zero, List.getElem?_cons_succ, List.getElem?_nil, List.set_cons_zero, List.set_cons_succ, List.set_nil, List.length_cons, List.length_nil, List.cons_append, List.nil_append, List.replicate, Nat.reduceAdd, Nat.reduceLeDiff, Nat.reduceSub, true_and, and_true, x_callS, x_callSN, x_callI, x_callIN, x_callV0, x_callV1, x_callV2, x_callV3, x_callV4, x_callV5, x_callV6, x_callV7, callP, List.take_succ_cons, List.take_zero, List.take_nil, List.drop_succ_cons, List.drop_zero, List.drop_nil, List.getLast?_singleton, List.getLast?_cons_cons, Option.some.injEq, Value.ref.injEq, exists_eq_left, exists_eq_left', Nat.zero_le, Nat.add_zero, ldcV_f, ldcV_fn, ldcV_l, ldcV_d, Nat.reduceMul, Nat.le_refl, List.reverse_cons, List.reverse_nil, Option.toList, List.map_cons, List.map_nil, List.sum_cons, List.sum_nil, Value.category, tblW_n, tblW_c, Int.cast_ofNat_Int, Int.reduceAdd, Int.reduceToNat, ofI_n, rc_X1_copyFrom, rs_X1_copyFrom, P_X1_copyFrom, rc_X5_lookAhead, rs_X5_lookAhead, P_X5_lookAhead, rc_X5_brightest, rs_X5_brightest, P_X5_brightest, rc_X0_mark, rs_X0_mark, P_X0_mark, rc_X5_lookAround, rs_X5_lookAround, P_X5_lookAround]
  obtain ⟨hp, hw0, h⟩ := h
  have hp0 := hp
  obtain ⟨⟨t0, t1, t2, t3, t4⟩, ⟨p1, p2, p3, p4⟩, hap, hap2⟩ := hp
  simp only [t0, t1, t2, t3, t4, t3.1, p1, p1.1, p3, hap2, sK_stI, sR_stI, sK_stF, sR_stF, sK_stIA, sR_stIA, sK_stFA, sR_stFA, sI_stI, sI_stF, sI_stIA, sI_stFA, sF_stI, sF_stF, sF_stIA, sF_stFA, Nat.left_eq_add, Nat.add_eq_left, Nat.add_left_cancel_iff, Nat.reduceEqDiff, Nat.reduceEqDiff, Nat.succ_ne_self, false_and, and_false, if_false, if_true, nI_succ_sub, Option.some.injEq, Prod.mk.injEq, exists_eq_left', true_and, and_true, retI, retF, retV, retZ1, retZ0, retL, retA, retN, Nat.reduceAdd, Nat.reduceMul, Nat.reduceLT]
  intro T hF hE
  obtain ⟨w, hw, rfl⟩ := vp_in_of hw0 (by decide)
  rw [nI_cl (by omega)] at h
  obtain ⟨hT, hD, -⟩ := hp0.copied hF hE
  have hT0 := hT
  obtain ⟨⟨s0, s1, s2, s3, s4⟩, ⟨q1, q2, q3, q4⟩, -⟩ := hT
  simp only [s0, s1, s2, s3, s4, q1, q1.1, q2, q3, q4, hT0, true_and, sK_stI, sR_stI, sK_stF, sR_stF, sK_stIA, sR_stIA, sK_stFA, sR_stFA, sI_stI, sI_stF, sI_stIA, sI_stFA, sF_stI, sF_stF, sF_stIA, sF_stFA, Nat.left_eq_add, Nat.add_eq_left, Nat.add_left_cancel_iff, Nat.reduceEqDiff, Nat.reduceEqDiff, Nat.succ_ne_self, false_and, and_false, if_false, if_true, nI_succ_sub, Option.some.injEq, Prod.mk.injEq, exists_eq_left', true_and, and_true, retI, retF, retV, retZ1, retZ0, retL, retA, retN, Nat.reduceAdd, Nat.reduceMul, Nat.reduceLT]
  refine ⟨0, 119, by omega, by omega, by omega, rfl, rfl, (hT0.looked _).1, fun j hj hf => ?_, ?_⟩
  · have := Ahd_all hT0 j hj hf
    rw [sF_stFA, if_pos rfl] at this
    exact this
  · obtain ⟨l1, l2, l3, -⟩ := hT0.looked (loF (dV T d) (gV T (t + 1)) (sF T (t + 6)) 0 (119 + 1))
    rw [bestV_ds (l3.trans hD) (by rw [l2]; exact hE) l1.2.1.2.2.2 120 (Nat.le_refl _)]
    exact lp_X5_lettersUntilFull l G (D := dV S d) (H := gV S g) hw h 0 (by omega) _ ((hF.mono (by omega) (by omega)).stFA _ _ (by omega) (by omega)) l1 (l3.trans hD) (by rw [l2]; exact hE) rfl (Ahd_all hT0)
