-- needs: 18.nums 19.proj 20.spec 21.shape 22.leaf 23.fl 23.view 24.loops 25.desk
/-! objects made -/
theorem sK_stN (S : SS) (kd n b : Nat) : sK (stN S kd n) b = if b = sZ S then some (kd, n) else sK S b := rfl
theorem sR_stN (S : SS) (kd n b : Nat) : sR (stN S kd n) b = if b = sZ S then (fun _ => none) else sR S b := rfl
theorem sI_stN (S : SS) (kd n b : Nat) : sI (stN S kd n) b = if b = sZ S then (fun _ => 0) else sI S b := rfl
theorem sF_stN (S : SS) (kd n b : Nat) : sF (stN S kd n) b = if b = sZ S then (fun _ => FP.fconst0) else sF S b := rfl
theorem sZ_stN (S : SS) (kd n : Nat) : sZ (stN S kd n) = sZ S + 1 := rfl
theorem sK_stR (S : SS) (a k : Nat) (v : Option Nat) : sK (stR S a k v) = sK S := rfl
theorem sZ_stR (S : SS) (a k : Nat) (v : Option Nat) : sZ (stR S a k v) = sZ S := rfl
theorem sI_stR (S : SS) (a k : Nat) (v : Option Nat) : sI (stR S a k v) = sI S := rfl
theorem sF_stR (S : SS) (a k : Nat) (v : Option Nat) : sF (stR S a k v) = sF S := rfl
theorem sR_stR (S : SS) (a k : Nat) (v : Option Nat) (b j : Nat) : sR (stR S a k v) b j = if b = a ∧ j = k then v else sR S b j := rfl
/-- new cells from g on; those before are as they were -/
def Gw (S S' : SS) (g e : Nat) : Prop := sZ S' = e ∧ ∀ a, a < g → sK S' a = sK S a ∧ sR S' a = sR S a ∧ sI S' a = sI S a ∧ sF S' a = sF S a
def P_X1_init (as : List Value) (S : SS) (E : Option Value → SS → Prop) : Prop := match as with
  | [.ref g] => sK S g = some (1, 0) ∧ sZ S = g + 1 ∧ ∀ S', Gw S S' g (g + 5) → GlassAt S' g → E none S'
  | _ => False
def Γ_X1_init : List (MI × PT) := []
theorem hΓ_X1_init (l : Launch) (G : Gx) : ∀ q ∈ Γ_X1_init, Ct l G q.1 q.2 := fun _ h => absurd h List.not_mem_nil
set_option maxHeartbeats 1000000 in
theorem ct_X1_init (l : Launch) (G : Gx) : Ct l G mi_X1_init P_X1_init := by
  refine Ct.ofV mo_X1_init (fun as S E h => ?_)
  unfold P_X1_init at h
  split at h
  case h_2 => exact h.elim
  rename_i g
  refine ⟨by simp [entL, mL_X1_init], ?_⟩
  refine wpN_ok (Γ := Γ_X1_init) (hΓ_X1_init l G) so_X1_init 4 _ _ _ _ _ _ ?_
  simp only [mL_X1_init, mT_X1_init, rc_X1_init, rs_X1_init, Γ_X1_init, sg_X1_init_0, wn_X1_init_0, wp_c, ex_c, x_nop, x_goto, x_table, x_iinc, x_ldc, x_ldc2, x_iaload, x_faload, x_baload, x_caload, x_iastore, x_fastore, x_bastore, x_castore, x_aastore, x_alen, x_gets, x_new, x_newa, x_anew, x_invs, x_invi, x_invv, x_ret, x_iret, x_lret, x_fret, x_aret, x_lconst, x_fconst0, x_fconst1, x_fconst2, x_dconst0, x_dconst1, x_null, x_iadd, x_isub, x_imul, x_iand, x_ior, x_idiv, x_irem, x_ineg, x_ishl, x_ishr, x_land, x_lor, x_lushr, x_lshl, x_lcmp, x_i2l, x_l2i, x_i2c, x_i2f, x_f2d, x_d2i, x_d2l, x_fadd, x_fsub, x_fmul, x_fdiv, x_dadd, x_dsub, x_dmul, x_ddiv, x_fcmp, x_dcmp, x_dupI, x_dupR, x_dup2, x_popI, x_popR, ldP_I, ldP_L, ldP_F, ldP_D, ldP_R, ldP_N, x_iload, x_iload_n, x_lload, x_lload_n, x_fload, x_fload_n, x_dload, x_dload_n, x_aload, x_aload_n, x_istore, x_istore_n, x_lstore, x_lstore_n, x_fstore, x_fstore_n, x_dstore, x_dstore_n, x_astore, x_astore_n, x_astoreN, x_astore_nN, x_icmp_eq, x_icmp_ne, x_icmp_lt, x_icmp_ge, x_icmp_gt, x_icmp_le, x_if_eq, x_if_ne, x_if_lt, x_if_ge, x_if_gt, x_if_le, x_ifnull, x_ifnullR, x_ifnn, x_ifnnR, x_aaload2, x_cpI, x_cpF, x_bF, x_bD, x_oI, xk_bipush_120, xk_iconst_0, xk_bipush_m6, xk_iconst_1, xk_bipush_80, xk_bipush_48, xk_bipush_57, xk_bipush_10, xk_bipush_64, xk_bipush_46, xk_bipush_97, xk_bipush_122, xk_bipush_119, xk_bipush_61, xk_bipush_59, xk_bipush_8, xk_bipush_33, xk_bipush_126, xk_bipush_m2, xk_bipush_m4, xk_iconst_4, xk_bipush_6, xk_iconst_2, xk_bipush_40, xk_iconst_3, xk_iconst_5, xk_iconst_m1, xk_bipush_m5, xk_bipush_12, xk_bipush_100, xk_bipush_26, xk_sipush_9999, xk_sipush_500, xk_bipush_7, xk_bipush_m126, xk_bipush_127, xk_bipush_23, xk_sipush_m1022, xk_sipush_1023, xk_bipush_52, xk_bipush_m3, xk_sipush_9830, xk_sipush_4800, xk_sipush_983, xk_sipush_480, xk_bipush_13, xk_bipush_18, xk_bipush_9, xk_bipush_32, xg_0_0, xp_0_0, xg_0_1, xp_0_1, xg_0_2, xp_0_2, xg_0_3, xp_0_3, xg_0_4, xp_0_4, xg_0_5, xp_0_5, xg_0_6, xp_0_6, xg_0_7, xp_0_7, xg_0_8, xp_0_8, xg_1_0, xp_1_0, xg_1_1, xp_1_1, xg_1_2, xp_1_2, xg_1_3, xp_1_3, xg_2_0, xp_2_0, xg_2_1, xp_2_1, xg_2_2, xp_2_2, xg_3_0, xp_3_0, xg_3_1, xp_3_1, xg_3_2, xp_3_2, xg_3_3, xp_3_3, xg_3_4, xp_3_4, xg_3_5, xp_3_5, xg_3_6, xp_3_6, xg_3_7, xp_3_7, xg_3_8, xp_3_8, xg_3_9, xp_3_9, xg_3_10, xp_3_10, xg_3_11, xp_3_11, xg_4_0, xp_4_0, xg_4_1, xp_4_1, xg_5_0, xp_5_0, xg_5_1, xp_5_1, xg_6_0, xp_6_0, xg_6_1, xp_6_1, xg_6_2, xp_6_2, xg_6_3, xp_6_3, xg_6_4, xp_6_4, xg_6_5, xp_6_5, xg_7_0, xp_7_0, xg_7_1, xp_7_1, xg_7_2, xp_7_2, xg_7_3, xp_7_3, xg_7_4, xp_7_4, xg_7_5, xp_7_5, xg_7_6, xp_7_6, xg_7_7, xp_7_7, xg_7_8, xp_7_8, xg_7_9, xp_7_9, xg_7_10, xp_7_10, xg_7_11, xp_7_11, xg_7_12, xp_7_12, xg_7_13, xp_7_13, fv0, fv1, fv2, fv3, kI_0, kI_1, stL, wipeL, entLn, entL, List.getElem?_cons_zero, List.getElem?_cons_succ, List.getElem?_nil, List.set_cons_zero, List.set_cons_succ, List.set_nil, List.length_cons, List.length_nil, List.cons_append, List.nil_append, List.replicate, Nat.reduceAdd, Nat.reduceLeDiff, Nat.reduceSub, true_and, and_true, x_callS, x_callSN, x_callI, x_callIN, x_callV0, x_callV1, x_callV2, x_callV3, x_callV4, x_callV5, x_callV6, x_callV7, callP, List.take_succ_cons, List.take_zero, List.take_nil, List.drop_succ_cons, List.drop_zero, List.drop_nil, List.getLast?_singleton, List.getLast?_cons_cons, Option.some.injEq, Value.ref.injEq, exists_eq_left, exists_eq_left', Nat.zero_le, Nat.add_zero, ldcV_f, ldcV_fn, ldcV_l, ldcV_d, Nat.reduceMul, Nat.le_refl, List.reverse_cons, List.reverse_nil, Option.toList, List.map_cons, List.map_nil, List.sum_cons, List.sum_nil, Value.category, tblW_n, tblW_c, Int.cast_ofNat_Int, Int.reduceAdd, Int.reduceToNat, ofI_n]
  obtain ⟨h1, h2, h⟩ := h
  simp only [h1, h2, sK_stI, sR_stI, sK_stF, sR_stF, sK_stIA, sR_stIA, sK_stFA, sR_stFA, sI_stI, sI_stF, sI_stIA, sI_stFA, sF_stI, sF_stF, sF_stIA, sF_stFA, Nat.left_eq_add, Nat.add_eq_left, Nat.add_left_cancel_iff, Nat.reduceEqDiff, Nat.reduceEqDiff, Nat.succ_ne_self, false_and, and_false, if_false, if_true, nI_succ_sub, Option.some.injEq, Prod.mk.injEq, exists_eq_left', true_and, and_true, retI, retF, retV, retZ1, retZ0, retL, retA, retN, Nat.reduceAdd, Nat.reduceMul, Nat.reduceLT]
  simp only [h1, h2, sK_stN, sR_stN, sI_stN, sF_stN, sZ_stN, sK_stR, sZ_stR, sI_stR, sF_stR, sR_stR, sK_stI, sR_stI, sI_stI, sF_stI, sZ_stI, Nat.add_assoc, Nat.reduceAdd, Nat.left_eq_add, Nat.add_eq_left, Nat.add_left_cancel_iff, Nat.reduceEqDiff, Nat.succ_ne_self, if_true, if_false, false_and, and_false, true_and, and_true, Option.some.injEq, Prod.mk.injEq, exists_eq_left']
  simp (disch := omega) only [nlt0, nge0, neq0, ngt0, nle0, nI_ltI, nI_leI, nI_eq, nI_cl, in_nI, false_implies, true_implies, not_false_eq_true, not_true_eq_false, and_true, true_and, nI_add, pk_mul, implies_true, not_lt0]
  refine ⟨by omega, by omega, by omega, by omega, by omega, by omega, by omega, by omega, h _ ⟨?_, fun a ha => ?_⟩ ?_, by omega⟩
  · simp only [h2, sK_stN, sR_stN, sI_stN, sF_stN, sZ_stN, sK_stR, sZ_stR, sI_stR, sF_stR, sR_stR, sK_stI, sR_stI, sI_stI, sF_stI, sZ_stI, Nat.add_assoc, Nat.reduceAdd, Nat.left_eq_add, Nat.add_eq_left, Nat.add_left_cancel_iff, Nat.reduceEqDiff, Nat.succ_ne_self, if_true, if_false, false_and, and_false, true_and, and_true, Option.some.injEq, Prod.mk.injEq, exists_eq_left']
  · have n0 : ¬ a = g := by omega
    have n1 : ¬ a = g + 1 := by omega
    have n2 : ¬ a = g + 2 := by omega
    have n3 : ¬ a = g + 3 := by omega
    have n4 : ¬ a = g + 4 := by omega
    refine ⟨?_, ?_, ?_, ?_⟩
    · simp only [h2, sK_stN, sR_stN, sI_stN, sF_stN, sZ_stN, sK_stR, sZ_stR, sI_stR, sF_stR, sR_stR, sK_stI, sR_stI, sI_stI, sF_stI, sZ_stI, Nat.add_assoc, Nat.reduceAdd, Nat.left_eq_add, Nat.add_eq_left, Nat.add_left_cancel_iff, Nat.reduceEqDiff, Nat.succ_ne_self, if_true, if_false, false_and, and_false, true_and, and_true, Option.some.injEq, Prod.mk.injEq, exists_eq_left', n0, n1, n2, n3, n4]
    · funext j
      simp only [h2, sK_stN, sR_stN, sI_stN, sF_stN, sZ_stN, sK_stR, sZ_stR, sI_stR, sF_stR, sR_stR, sK_stI, sR_stI, sI_stI, sF_stI, sZ_stI, Nat.add_assoc, Nat.reduceAdd, Nat.left_eq_add, Nat.add_eq_left, Nat.add_left_cancel_iff, Nat.reduceEqDiff, Nat.succ_ne_self, if_true, if_false, false_and, and_false, true_and, and_true, Option.some.injEq, Prod.mk.injEq, exists_eq_left', n0, n1, n2, n3, n4]
    · simp only [h2, sK_stN, sR_stN, sI_stN, sF_stN, sZ_stN, sK_stR, sZ_stR, sI_stR, sF_stR, sR_stR, sK_stI, sR_stI, sI_stI, sF_stI, sZ_stI, Nat.add_assoc, Nat.reduceAdd, Nat.left_eq_add, Nat.add_eq_left, Nat.add_left_cancel_iff, Nat.reduceEqDiff, Nat.succ_ne_self, if_true, if_false, false_and, and_false, true_and, and_true, Option.some.injEq, Prod.mk.injEq, exists_eq_left', n0, n1, n2, n3, n4]
    · simp only [h2, sK_stN, sR_stN, sI_stN, sF_stN, sZ_stN, sK_stR, sZ_stR, sI_stR, sF_stR, sR_stR, sK_stI, sR_stI, sI_stI, sF_stI, sZ_stI, Nat.add_assoc, Nat.reduceAdd, Nat.left_eq_add, Nat.add_eq_left, Nat.add_left_cancel_iff, Nat.reduceEqDiff, Nat.succ_ne_self, if_true, if_false, false_and, and_false, true_and, and_true, Option.some.injEq, Prod.mk.injEq, exists_eq_left', n0, n1, n2, n3, n4]
  · unfold GlassAt
    simp only [h1, h2, sK_stN, sR_stN, sI_stN, sF_stN, sZ_stN, sK_stR, sZ_stR, sI_stR, sF_stR, sR_stR, sK_stI, sR_stI, sI_stI, sF_stI, sZ_stI, Nat.add_assoc, Nat.reduceAdd, Nat.left_eq_add, Nat.add_eq_left, Nat.add_left_cancel_iff, Nat.reduceEqDiff, Nat.succ_ne_self, if_true, if_false, false_and, and_false, true_and, and_true, Option.some.injEq, Prod.mk.injEq, exists_eq_left']

theorem Gw.trans {S T U : SS} {g b e f : Nat} (h : Gw S T g e) (k : Gw T U b f) (hb : g ≤ b) : Gw S U g f :=
  ⟨k.1, fun a ha => ⟨(k.2 a (by omega)).1.trans (h.2 a ha).1, (k.2 a (by omega)).2.1.trans (h.2 a ha).2.1, (k.2 a (by omega)).2.2.1.trans (h.2 a ha).2.2.1, (k.2 a (by omega)).2.2.2.trans (h.2 a ha).2.2.2⟩⟩
theorem Gw.refl (S : SS) (g : Nat) : Gw S S g (sZ S) := ⟨rfl, fun _ _ => ⟨rfl, rfl, rfl, rfl⟩⟩
theorem Gw.new {S U : SS} {kd n g e : Nat} (h : Gw (stN S kd n) U g e) (hz : sZ S = g) : Gw S U g e :=
  ⟨h.1, fun a ha => by
    obtain ⟨a1, a2, a3, a4⟩ := h.2 a ha
    rw [sK_stN, if_neg (by omega)] at a1
    rw [sR_stN, if_neg (by omega)] at a2
    rw [sI_stN, if_neg (by omega)] at a3
    rw [sF_stN, if_neg (by omega)] at a4
    exact ⟨a1, a2, a3, a4⟩⟩
theorem Gw.stR {S T : SS} {g e : Nat} (h : Gw S T g e) (a k : Nat) (v : Option Nat) (ha : g ≤ a) : Gw S (stR T a k v) g e :=
  ⟨h.1, fun b hb => ⟨(h.2 b hb).1, by
    rw [← (h.2 b hb).2.1]
    funext j
    rw [sR_stR, if_neg (by omega)], (h.2 b hb).2.2.1, (h.2 b hb).2.2.2⟩⟩
theorem Gw.stI {S T : SS} {g e : Nat} (h : Gw S T g e) (a k : Nat) (v : Int32) (ha : g ≤ a) : Gw S (stI T a k v) g e :=
  ⟨h.1, fun b hb => ⟨(h.2 b hb).1, (h.2 b hb).2.1, by
    rw [← (h.2 b hb).2.2.1]
    funext j
    rw [sI_stI, if_neg (by omega)], (h.2 b hb).2.2.2⟩⟩
theorem Gw.stN {S T : SS} {g e : Nat} (h : Gw S T g e) (kd n : Nat) (hg : g ≤ e) : Gw S (stN T kd n) g (e + 1) :=
  ⟨by rw [sZ_stN, h.1], fun b hb => ⟨by
    rw [← (h.2 b hb).1, sK_stN, if_neg (by rw [h.1]; omega)], by
    rw [← (h.2 b hb).2.1, sR_stN, if_neg (by rw [h.1]; omega)], by
    rw [← (h.2 b hb).2.2.1, sI_stN, if_neg (by rw [h.1]; omega)], by
    rw [← (h.2 b hb).2.2.2, sF_stN, if_neg (by rw [h.1]; omega)]⟩⟩
theorem Gw.glass {S T : SS} {b e g : Nat} (h : Gw S T b e) (k : GlassAt S g) (hb : g + 5 ≤ b) : GlassAt T g := by
  unfold GlassAt at k ⊢
  rw [(h.2 g (by omega)).1, (h.2 g (by omega)).2.1, (h.2 (g + 1) (by omega)).1, (h.2 (g + 2) (by omega)).1, (h.2 (g + 3) (by omega)).1, (h.2 (g + 4) (by omega)).1]
  exact k
/-- the cells of a desk, but its plates -/
def DeskB (S : SS) (d : Nat) : Prop := sK S d = some (0, 0) ∧ sR S d 0 = some (d + 1) ∧ sR S d 1 = some (d + 2) ∧ sR S d 2 = some (d + 3) ∧ sR S d 3 = some (d + 4) ∧ sR S d 4 = some (d + 5) ∧
  sK S (d + 1) = some (8, 4) ∧ sK S (d + 2) = some (8, 5) ∧ sK S (d + 3) = some (8, 5) ∧ sK S (d + 4) = some (8, 5) ∧ sK S (d + 5) = some (13, 4)
theorem Gw.deskB {S T : SS} {b e d : Nat} (h : Gw S T b e) (k : DeskB S d) (hb : d + 6 ≤ b) : DeskB T d := by
  unfold DeskB at k ⊢
  rw [(h.2 d (by omega)).1, (h.2 d (by omega)).2.1, (h.2 (d + 1) (by omega)).1, (h.2 (d + 2) (by omega)).1, (h.2 (d + 3) (by omega)).1, (h.2 (d + 4) (by omega)).1, (h.2 (d + 5) (by omega)).1]
  exact k
theorem DeskB.at {S : SS} {d : Nat} (h : DeskB S d) (k : ∀ i, i < 4 → sR S (d + 5) i = some (d + 6 + 5 * i) ∧ GlassAt S (d + 6 + 5 * i)) : DeskAt S d :=
  ⟨h.1, h.2.1, h.2.2.1, h.2.2.2.1, h.2.2.2.2.1, h.2.2.2.2.2.1, h.2.2.2.2.2.2.1, h.2.2.2.2.2.2.2.1, h.2.2.2.2.2.2.2.2.1, h.2.2.2.2.2.2.2.2.2.1, h.2.2.2.2.2.2.2.2.2.2, k⟩
theorem DeskAt.b {S : SS} {d : Nat} (h : DeskAt S d) : DeskB S d :=
  ⟨h.1, h.2.1, h.2.2.1, h.2.2.2.1, h.2.2.2.2.1, h.2.2.2.2.2.1, h.2.2.2.2.2.2.1, h.2.2.2.2.2.2.2.1, h.2.2.2.2.2.2.2.2.1, h.2.2.2.2.2.2.2.2.2.1, h.2.2.2.2.2.2.2.2.2.2.1⟩
theorem Gw.desk {S T : SS} {b e d : Nat} (h : Gw S T b e) (k : DeskAt S d) (hb : d + 26 ≤ b) : DeskAt T d :=
  DeskB.at (h.deskB k.b (by omega)) (fun i hi => by
    rw [(h.2 (d + 5) (by omega)).2.1]
    exact ⟨(k.2.2.2.2.2.2.2.2.2.2.2 i hi).1, h.glass (k.2.2.2.2.2.2.2.2.2.2.2 i hi).2 (by omega)⟩)
/-- the numbers of a new desk -/
def DV0 (D : DV) : Prop := D.st 0 = nI 6 ∧ D.st 1 = nI 2 ∧ D.st 2 = nI 40 ∧ D.st 3 = nI 10 ∧ (∀ i, i < 5 → D.pr i = 0 ∧ D.wr i = 0 ∧ D.sp i = 0) ∧ D.hr = nI 0 ∧ D.pl = nI 0 ∧ D.dk = mI 6 ∧ D.pp = nI 0
def dN (S : SS) (d : Nat) : Prop := DV0 (dV S d)
theorem Gw.dN {S T : SS} {b e d : Nat} (h : Gw S T b e) (k : dN S d) (hb : d + 5 ≤ b) : dN T d := by
  unfold Jvm.Pilot.CPlateWritersLaw_law_r4348_29bd99.dN DV0 dV at k ⊢
  dsimp only at k ⊢
  rw [(h.2 d (by omega)).2.2.1, (h.2 (d + 1) (by omega)).2.2.1, (h.2 (d + 2) (by omega)).2.2.1, (h.2 (d + 3) (by omega)).2.2.1, (h.2 (d + 4) (by omega)).2.2.1]
  exact k
def P_X0_init (as : List Value) (S : SS) (E : Option Value → SS → Prop) : Prop := match as with
  | [.ref d] => sK S d = some (0, 0) ∧ sZ S = d + 1 ∧ ∀ S', Gw S S' d (d + 26) → DeskAt S' d → dN S' d → sK S' d = some (0, 0) → E none S'
  | _ => False
def Γ_X0_init : List (MI × PT) := [(mi_X1_init, P_X1_init)]
theorem hΓ_X0_init (l : Launch) (G : Gx) : ∀ q ∈ Γ_X0_init, Ct l G q.1 q.2 := List.forall_mem_cons.mpr ⟨ct_X1_init l G, fun _ h => absurd h List.not_mem_nil⟩
def dIn (S T : SS) (d k : Nat) : Prop := Gw S T d (d + 6 + 5 * k) ∧ DeskB T d ∧ dN T d ∧ ∀ i, i < k → sR T (d + 5) i = some (d + 6 + 5 * i) ∧ GlassAt T (d + 6 + 5 * i)
set_option maxHeartbeats 1000000 in
theorem lp_X0_init (l : Launch) (G : Gx) {S : SS} {d : Nat} {E : Option Value → SS → Prop} (h : ∀ S', Gw S S' d (d + 26) → DeskAt S' d → dN S' d → sK S' d = some (0, 0) → E none S') :
    ∀ k, k ≤ 4 → ∀ T, dIn S T d k → ∀ cs sl, cs = 0 → sl = 0 → V l G mi_X0_init E 82 [some (.ref d), some (.int (nI k))] [] T cs sl := by
  refine loopUp 4 fun k hk ih T hT cs sl hcs hsl => ?_
  subst hcs hsl
  refine (V.segN (Γ := Γ_X0_init) (hΓ_X0_init l G) so_X0_init 4 (sg := sg_X0_init_82) so_X0_init_82 ?_ : V l G mi_X0_init _ (segPc sg_X0_init_82) _ _ _ _ _)
  simp only [mL_X0_init, mT_X0_init, rc_X0_init, rs_X0_init, Γ_X0_init, sg_X0_init_0, sg_X0_init_82, sg_X0_init_106, wn_X0_init_0, wn_X0_init_82, wn_X0_init_106, wp_c, ex_c, x_nop, x_goto, x_table, x_iinc, x_ldc, x_ldc2, x_iaload, x_faload, x_baload, x_caload, x_iastore, x_fastore, x_bastore, x_castore, x_aastore, x_alen, x_gets, x_new, x_newa, x_anew, x_invs, x_invi, x_invv, x_ret, x_iret, x_lret, x_fret, x_aret, x_lconst, x_fconst0, x_fconst1, x_fconst2, x_dconst0, x_dconst1, x_null, x_iadd, x_isub, x_imul, x_iand, x_ior, x_idiv, x_irem, x_ineg, x_ishl, x_ishr, x_land, x_lor, x_lushr, x_lshl, x_lcmp, x_i2l, x_l2i, x_i2c, x_i2f, x_f2d, x_d2i, x_d2l, x_fadd, x_fsub, x_fmul, x_fdiv, x_dadd, x_dsub, x_dmul, x_ddiv, x_fcmp, x_dcmp, x_dupI, x_dupR, x_dup2, x_popI, x_popR, ldP_I, ldP_L, ldP_F, ldP_D, ldP_R, ldP_N, x_iload, x_iload_n, x_lload, x_lload_n, x_fload, x_fload_n, x_dload, x_dload_n, x_aload, x_aload_n, x_istore, x_istore_n, x_lstore, x_lstore_n, x_fstore, x_fstore_n, x_dstore, x_dstore_n, x_astore, x_astore_n, x_astoreN, x_astore_nN, x_icmp_eq, x_icmp_ne, x_icmp_lt, x_icmp_ge, x_icmp_gt, x_icmp_le, x_if_eq, x_if_ne, x_if_lt, x_if_ge, x_if_gt, x_if_le, x_ifnull, x_ifnullR, x_ifnn, x_ifnnR, x_aaload2, x_cpI, x_cpF, x_bF, x_bD, x_oI, xk_bipush_120, xk_iconst_0, xk_bipush_m6, xk_iconst_1, xk_bipush_80, xk_bipush_48, xk_bipush_57, xk_bipush_10, xk_bipush_64, xk_bipush_46, xk_bipush_97, xk_bipush_122, xk_bipush_119, xk_bipush_61, xk_bipush_59, xk_bipush_8, xk_bipush_33, xk_bipush_126, xk_bipush_m2, xk_bipush_m4, xk_iconst_4, xk_bipush_6, xk_iconst_2, xk_bipush_40, xk_iconst_3, xk_iconst_5, xk_iconst_m1, xk_bipush_m5, xk_bipush_12, xk_bipush_100, xk_bipush_26, xk_sipush_9999, xk_sipush_500, xk_bipush_7, xk_bipush_m126, xk_bipush_127, xk_bipush_23, xk_sipush_m1022, xk_sipush_1023, xk_bipush_52, xk_bipush_m3, xk_sipush_9830, xk_sipush_4800, xk_sipush_983, xk_sipush_480, xk_bipush_13, xk_bipush_18, xk_bipush_9, xk_bipush_32, xg_0_0, xp_0_0, xg_0_1, xp_0_1, xg_0_2, xp_0_2, xg_0_3, xp_0_3, xg_0_4, xp_0_4, xg_0_5, xp_0_5, xg_0_6, xp_0_6, xg_0_7, xp_0_7, xg_0_8, xp_0_8, xg_1_0, xp_1_0, xg_1_1, xp_1_1, xg_1_2, xp_1_2, xg_1_3, xp_1_3, xg_2_0, xp_2_0, xg_2_1, xp_2_1, xg_2_2, xp_2_2, xg_3_0, xp_3_0, xg_3_1, xp_3_1, xg_3_2, xp_3_2, xg_3_3, xp_3_3, xg_3_4, xp_3_4, xg_3_5, xp_3_5, xg_3_6, xp_3_6, xg_3_7, xp_3_7, xg_3_8, xp_3_8, xg_3_9, xp_3_9, xg_3_10, xp_3_10, xg_3_11, xp_3_11, xg_4_0, xp_4_0, xg_4_1, xp_4_1, xg_5_0, xp_5_0, xg_5_1, xp_5_1, xg_6_0, xp_6_0, xg_6_1, xp_6_1, xg_6_2, xp_6_2, xg_6_3, xp_6_3, xg_6_4, xp_6_4, xg_6_5, xp_6_5, xg_7_0, xp_7_0, xg_7_1, xp_7_1, xg_7_2, xp_7_2, xg_7_3, xp_7_3, xg_7_4, xp_7_4, xg_7_5, xp_7_5, xg_7_6, xp_7_6, xg_7_7, xp_7_7, xg_7_8, xp_7_8, xg_7_9, xp_7_9, xg_7_10, xp_7_10, xg_7_11, xp_7_11, xg_7_12, xp_7_12, xg_7_13, xp_7_13, fv0, fv1, fv2, fv3, kI_0, kI_1, stL, wipeL, entLn, entL, List.getElem?_cons_zero, List.getElem?_cons_succ, List.getElem?_nil, List.set_cons_zero, List.set_cons_succ, List.set_nil, List.length_cons, List.length_nil, List.cons_append, List.nil_append, List.replicate, Nat.reduceAdd, Nat.reduceLeDiff, Nat.reduceSub, true_and, and_true, x_callS, x_callSN, x_callI, x_callIN, x_callV0, x_callV1, x_callV2, x_callV3, x_callV4, x_callV5, x_callV6, x_callV7, callP, List.take_succ_cons, List.take_zero, List.take_nil, List.drop_succ_cons, List.drop_zero, List.drop_nil, List.getLast?_singleton, List.getLast?_cons_cons, Option.some.injEq, Value.ref.injEq, exists_eq_left, exists_eq_left', Nat.zero_le, Nat.add_zero, ldcV_f, ldcV_fn, ldcV_l, ldcV_d, Nat.reduceMul, Nat.le_refl, List.reverse_cons, List.reverse_nil, Option.toList, List.map_cons, List.map_nil, List.sum_cons, List.sum_nil, Value.category, tblW_n, tblW_c, Int.cast_ofNat_Int, Int.reduceAdd, Int.reduceToNat, ofI_n, rc_X1_init, rs_X1_init, P_X1_init]
  sorry
set_option maxHeartbeats 1000000 in
theorem ct_X0_init (l : Launch) (G : Gx) : Ct l G mi_X0_init P_X0_init := by
  refine Ct.ofV mo_X0_init (fun as S E h => ?_)
  unfold P_X0_init at h
  split at h
  case h_2 => exact h.elim
  rename_i d
  refine ⟨by simp [entL, mL_X0_init], ?_⟩
  refine wpN_ok (Γ := Γ_X0_init) (hΓ_X0_init l G) so_X0_init 4 _ _ _ _ _ _ ?_
  simp only [mL_X0_init, mT_X0_init, rc_X0_init, rs_X0_init, Γ_X0_init, sg_X0_init_0, sg_X0_init_82, sg_X0_init_106, wn_X0_init_0, wn_X0_init_82, wn_X0_init_106, wp_c, ex_c, x_nop, x_goto, x_table, x_iinc, x_ldc, x_ldc2, x_iaload, x_faload, x_baload, x_caload, x_iastore, x_fastore, x_bastore, x_castore, x_aastore, x_alen, x_gets, x_new, x_newa, x_anew, x_invs, x_invi, x_invv, x_ret, x_iret, x_lret, x_fret, x_aret, x_lconst, x_fconst0, x_fconst1, x_fconst2, x_dconst0, x_dconst1, x_null, x_iadd, x_isub, x_imul, x_iand, x_ior, x_idiv, x_irem, x_ineg, x_ishl, x_ishr, x_land, x_lor, x_lushr, x_lshl, x_lcmp, x_i2l, x_l2i, x_i2c, x_i2f, x_f2d, x_d2i, x_d2l, x_fadd, x_fsub, x_fmul, x_fdiv, x_dadd, x_dsub, x_dmul, x_ddiv, x_fcmp, x_dcmp, x_dupI, x_dupR, x_dup2, x_popI, x_popR, ldP_I, ldP_L, ldP_F, ldP_D, ldP_R, ldP_N, x_iload, x_iload_n, x_lload, x_lload_n, x_fload, x_fload_n, x_dload, x_dload_n, x_aload, x_aload_n, x_istore, x_istore_n, x_lstore, x_lstore_n, x_fstore, x_fstore_n, x_dstore, x_dstore_n, x_astore, x_astore_n, x_astoreN, x_astore_nN, x_icmp_eq, x_icmp_ne, x_icmp_lt, x_icmp_ge, x_icmp_gt, x_icmp_le, x_if_eq, x_if_ne, x_if_lt, x_if_ge, x_if_gt, x_if_le, x_ifnull, x_ifnullR, x_ifnn, x_ifnnR, x_aaload2, x_cpI, x_cpF, x_bF, x_bD, x_oI, xk_bipush_120, xk_iconst_0, xk_bipush_m6, xk_iconst_1, xk_bipush_80, xk_bipush_48, xk_bipush_57, xk_bipush_10, xk_bipush_64, xk_bipush_46, xk_bipush_97, xk_bipush_122, xk_bipush_119, xk_bipush_61, xk_bipush_59, xk_bipush_8, xk_bipush_33, xk_bipush_126, xk_bipush_m2, xk_bipush_m4, xk_iconst_4, xk_bipush_6, xk_iconst_2, xk_bipush_40, xk_iconst_3, xk_iconst_5, xk_iconst_m1, xk_bipush_m5, xk_bipush_12, xk_bipush_100, xk_bipush_26, xk_sipush_9999, xk_sipush_500, xk_bipush_7, xk_bipush_m126, xk_bipush_127, xk_bipush_23, xk_sipush_m1022, xk_sipush_1023, xk_bipush_52, xk_bipush_m3, xk_sipush_9830, xk_sipush_4800, xk_sipush_983, xk_sipush_480, xk_bipush_13, xk_bipush_18, xk_bipush_9, xk_bipush_32, xg_0_0, xp_0_0, xg_0_1, xp_0_1, xg_0_2, xp_0_2, xg_0_3, xp_0_3, xg_0_4, xp_0_4, xg_0_5, xp_0_5, xg_0_6, xp_0_6, xg_0_7, xp_0_7, xg_0_8, xp_0_8, xg_1_0, xp_1_0, xg_1_1, xp_1_1, xg_1_2, xp_1_2, xg_1_3, xp_1_3, xg_2_0, xp_2_0, xg_2_1, xp_2_1, xg_2_2, xp_2_2, xg_3_0, xp_3_0, xg_3_1, xp_3_1, xg_3_2, xp_3_2, xg_3_3, xp_3_3, xg_3_4, xp_3_4, xg_3_5, xp_3_5, xg_3_6, xp_3_6, xg_3_7, xp_3_7, xg_3_8, xp_3_8, xg_3_9, xp_3_9, xg_3_10, xp_3_10, xg_3_11, xp_3_11, xg_4_0, xp_4_0, xg_4_1, xp_4_1, xg_5_0, xp_5_0, xg_5_1, xp_5_1, xg_6_0, xp_6_0, xg_6_1, xp_6_1, xg_6_2, xp_6_2, xg_6_3, xp_6_3, xg_6_4, xp_6_4, xg_6_5, xp_6_5, xg_7_0, xp_7_0, xg_7_1, xp_7_1, xg_7_2, xp_7_2, xg_7_3, xp_7_3, xg_7_4, xp_7_4, xg_7_5, xp_7_5, xg_7_6, xp_7_6, xg_7_7, xp_7_7, xg_7_8, xp_7_8, xg_7_9, xp_7_9, xg_7_10, xp_7_10, xg_7_11, xp_7_11, xg_7_12, xp_7_12, xg_7_13, xp_7_13, fv0, fv1, fv2, fv3, kI_0, kI_1, stL, wipeL, entLn, entL, List.getElem?_cons_zero, List.getElem?_cons_succ, List.getElem?_nil, List.set_cons_zero, List.set_cons_succ, List.set_nil, List.length_cons, List.length_nil, List.cons_append, List.nil_append, List.replicate, Nat.reduceAdd, Nat.reduceLeDiff, Nat.reduceSub, true_and, and_true, x_callS, x_callSN, x_callI, x_callIN, x_callV0, x_callV1, x_callV2, x_callV3, x_callV4, x_callV5, x_callV6, x_callV7, callP, List.take_succ_cons, List.take_zero, List.take_nil, List.drop_succ_cons, List.drop_zero, List.drop_nil, List.getLast?_singleton, List.getLast?_cons_cons, Option.some.injEq, Value.ref.injEq, exists_eq_left, exists_eq_left', Nat.zero_le, Nat.add_zero, ldcV_f, ldcV_fn, ldcV_l, ldcV_d, Nat.reduceMul, Nat.le_refl, List.reverse_cons, List.reverse_nil, Option.toList, List.map_cons, List.map_nil, List.sum_cons, List.sum_nil, Value.category, tblW_n, tblW_c, Int.cast_ofNat_Int, Int.reduceAdd, Int.reduceToNat, ofI_n, rc_X1_init, rs_X1_init, P_X1_init]
  obtain ⟨h1, h2, h⟩ := h
  simp only [h1, h2, sK_stI, sR_stI, sK_stF, sR_stF, sK_stIA, sR_stIA, sK_stFA, sR_stFA, sI_stI, sI_stF, sI_stIA, sI_stFA, sF_stI, sF_stF, sF_stIA, sF_stFA, Nat.left_eq_add, Nat.add_eq_left, Nat.add_left_cancel_iff, Nat.reduceEqDiff, Nat.reduceEqDiff, Nat.succ_ne_self, false_and, and_false, if_false, if_true, nI_succ_sub, Option.some.injEq, Prod.mk.injEq, exists_eq_left', true_and, and_true, retI, retF, retV, retZ1, retZ0, retL, retA, retN, Nat.reduceAdd, Nat.reduceMul, Nat.reduceLT]
  simp only [h1, h2, sK_stN, sR_stN, sI_stN, sF_stN, sZ_stN, sK_stR, sZ_stR, sI_stR, sF_stR, sR_stR, sK_stI, sR_stI, sI_stI, sF_stI, sZ_stI, Nat.add_assoc, Nat.reduceAdd, Nat.left_eq_add, Nat.add_eq_left, Nat.add_left_cancel_iff, Nat.reduceEqDiff, Nat.succ_ne_self, if_true, if_false, false_and, and_false, true_and, and_true, Option.some.injEq, Prod.mk.injEq, exists_eq_left']
  simp (disch := omega) only [nlt0, nge0, neq0, ngt0, nle0, nI_ltI, nI_leI, nI_eq, nI_cl, in_nI, false_implies, true_implies, not_false_eq_true, not_true_eq_false, and_true, true_and, nI_add, pk_mul, implies_true, not_lt0]
  sorry
