-- needs: 18.nums 19.proj 20.spec 21.shape 22.leaf 23.fl 23.view 24.loops 25.desk 26.near 27.quest 28.hours 29.write 29.xsame 30.trial 31.hist 32.pad 33.orders 34.read 35.text 36.own
/-! objects made -/
theorem sK_stN (S : SS) (kd n b : Nat) : sK (stN S kd n) b = if b = sZ S then some (kd, n) else sK S b := rfl
theorem sR_stN (S : SS) (kd n b : Nat) : sR (stN S kd n) b = if b = sZ S then (fun _ => none) else sR S b := rfl
theorem sI_stN (S : SS) (kd n b : Nat) : sI (stN S kd n) b = if b = sZ S then (fun _ => 0) else sI S b := rfl
theorem sF_stN (S : SS) (kd n b : Nat) : sF (stN S kd n) b = if b = sZ S then (fun _ => FP.fconst0) else sF S b := rfl
theorem sZ_stN (S : SS) (kd n : Nat) : sZ (stN S kd n) = sZ S + 1 := rfl
theorem sK_stR (S : SS) (a k : Nat) (v : Option Nat) : sK (stR S a k v) = sK S := rfl
theorem sZ_stR (S : SS) (a k : Nat) (v : Option Nat) : sZ (stR S a k v) = sZ S := rfl
theorem sI_stR (S : SS) (a k : Nat) (v : Option Nat) : sI (stR S a k v) = sI S := rfl
theorem sF_stR (S : SS) (a k : Nat) (v : Option Nat) : sF (stR S a k v) = sF S := rfl
theorem sR_stR (S : SS) (a k : Nat) (v : Option Nat) (b j : Nat) : sR (stR S a k v) b j = if b = a ∧ j = k then v else sR S b j := rfl
/-- new cells from g on; those before are as they were -/
def Gw (S S' : SS) (g e : Nat) : Prop := sZ S' = e ∧ ∀ a, a < g → sK S' a = sK S a ∧ sR S' a = sR S a ∧ sI S' a = sI S a ∧ sF S' a = sF S a
def P_X1_init (as : List Value) (S : SS) (E : Option Value → SS → Prop) : Prop := match as with
  | [.ref g] => sK S g = some (1, 0) ∧ sZ S = g + 1 ∧ ∀ S', Gw S S' g (g + 5) → GlassAt S' g → E none S'
  | _ => False
def Γ_X1_init : List (MI × PT) := []
theorem hΓ_X1_init (l : Launch) (G : Gx) : ∀ q ∈ Γ_X1_init, Ct l G q.1 q.2 := fun _ h => absurd h List.not_mem_nil
set_option maxHeartbeats 1000000 in
theorem ct_X1_init (l : Launch) (G : Gx) : Ct l G mi_X1_init P_X1_init := by
  refine Ct.ofV mo_X1_init (fun as S E h => ?_)
  unfold P_X1_init at h
  split at h
  case h_2 => exact h.elim
  rename_i g
  refine ⟨by simp [entL, mL_X1_init], ?_⟩
  refine wpN_ok (Γ := Γ_X1_init) (hΓ_X1_init l G) so_X1_init 4 _ _ _ _ _ _ ?_
  simp only [mL_X1_init, mT_X1_init, rc_X1_init, rs_X1_init, Γ_X1_init, sg_X1_init_0, wn_X1_init_0, wp_c, ex_c, x_nop, x_goto, x_table, x_iinc, x_ldc, x_ldc2, x_iaload, x_faload, x_baload, x_caload, x_iastore, x_fastore, x_bastore, x_castore, x_aastore, x_alen, x_gets, x_new, x_newa, x_anew, x_invs, x_invi, x_invv, x_ret, x_iret, x_lret, x_fret, x_aret, x_lconst, x_fconst0, x_fconst1, x_fconst2, x_dconst0, x_dconst1, x_null, x_iadd, x_isub, x_imul, x_iand, x_ior, x_idiv, x_irem, x_ineg, x_ishl, x_ishr, x_land, x_ladd, x_lmul, x_lor, x_lushr, x_lshl, x_lcmp, x_i2l, x_l2i, x_i2c, x_i2f, x_f2d, x_d2i, x_d2l, x_fadd, x_fsub, x_fmul, x_fdiv, x_dadd, x_dsub, x_dmul, x_ddiv, x_fcmp, x_dcmp, x_dupI, x_dupR, x_dup2, x_popI, x_popR, ldP_I, ldP_L, ldP_F, ldP_D, ldP_R, ldP_N, x_iload, x_iload_n, x_lload, x_lload_n, x_fload, x_fload_n, x_dload, x_dload_n, x_aload, x_aload_n, x_istore, x_istore_n, x_lstore, x_lstore_n, x_fstore, x_fstore_n, x_dstore, x_dstore_n, x_astore, x_astore_n, x_astoreN, x_astore_nN, x_icmp_eq, x_icmp_ne, x_icmp_lt, x_icmp_ge, x_icmp_gt, x_icmp_le, x_if_eq, x_if_ne, x_if_lt, x_if_ge, x_if_gt, x_if_le, x_ifnull, x_ifnullR, x_ifnn, x_ifnnR, x_aaload2, x_cpI, x_cpF, x_oI, xk_bipush_120, xk_iconst_0, xk_bipush_m6, xk_iconst_1, xk_bipush_80, xk_iconst_4, xk_bipush_6, xk_iconst_2, xk_bipush_40, xk_iconst_3, xk_bipush_10, xk_iconst_5, xk_bipush_m2, xk_bipush_m4, xk_iconst_m1, xk_bipush_m5, xk_bipush_12, xk_bipush_100, xk_bipush_26, xk_bipush_48, xk_sipush_9999, xk_sipush_500, xk_bipush_7, xk_bipush_119, xk_bipush_m126, xk_bipush_127, xk_bipush_23, xk_sipush_m1022, xk_sipush_1023, xk_bipush_52, xg_0_0, xp_0_0, xg_0_1, xp_0_1, xg_0_2, xp_0_2, xg_0_3, xp_0_3, xg_0_4, xp_0_4, xg_0_5, xp_0_5, xg_0_6, xp_0_6, xg_0_7, xp_0_7, xg_0_8, xp_0_8, xg_1_0, xp_1_0, xg_1_1, xp_1_1, xg_1_2, xp_1_2, xg_1_3, xp_1_3, xg_2_0, xp_2_0, xg_2_1, xp_2_1, xg_2_2, xp_2_2, xg_3_0, xp_3_0, xg_3_1, xp_3_1, xg_3_2, xp_3_2, xg_3_3, xp_3_3, xg_3_4, xp_3_4, xg_3_5, xp_3_5, xg_3_6, xp_3_6, xg_3_7, xp_3_7, xg_3_8, xp_3_8, xg_3_9, xp_3_9, xg_3_10, xp_3_10, xg_3_11, xp_3_11, xg_4_0, xp_4_0, xg_4_1, xp_4_1, xg_5_0, xp_5_0, xg_5_1, xp_5_1, xg_6_0, xp_6_0, xg_6_1, xp_6_1, xg_6_2, xp_6_2, xg_6_3, xp_6_3, xg_6_4, xp_6_4, xg_6_5, xp_6_5, fv0, fv1, fv2, fv3, kI_0, kI_1, stL, wipeL, entLn, entL, List.getElem?_cons_zero, List.getElem?_cons_succ, List.getElem?_nil, List.set_cons_zero, List.set_cons_succ, List.set_nil, List.length_cons, List.length_nil, List.cons_append, List.nil_append, List.replicate, Nat.reduceAdd, Nat.reduceLeDiff, Nat.reduceSub, true_and, and_true, x_callS, x_callSN, x_callI, x_callIN, x_callV0, x_callV1, x_callV2, x_callV3, x_callV4, x_callV5, x_callV6, x_callV7, callP, List.take_succ_cons, List.take_zero, List.take_nil, List.drop_succ_cons, List.drop_zero, List.drop_nil, List.getLast?_singleton, List.getLast?_cons_cons, Option.some.injEq, Value.ref.injEq, exists_eq_left, exists_eq_left', Nat.zero_le, Nat.add_zero, ldcV_f, ldcV_fn, ldcV_l, ldcV_d, Nat.reduceMul, Nat.le_refl, List.reverse_cons, List.reverse_nil, Option.toList, List.map_cons, List.map_nil, List.sum_cons, List.sum_nil, Value.category, tblW_n, tblW_c, Int.cast_ofNat_Int, Int.reduceAdd, Int.reduceToNat, ofI_n]
  obtain ⟨h1, h2, h⟩ := h
  simp only [h1, h2, sK_stI, sR_stI, sK_stF, sR_stF, sK_stIA, sR_stIA, sK_stFA, sR_stFA, sI_stI, sI_stF, sI_stIA, sI_stFA, sF_stI, sF_stF, sF_stIA, sF_stFA, Nat.left_eq_add, Nat.add_eq_left, Nat.add_left_cancel_iff, Nat.reduceEqDiff, Nat.reduceEqDiff, Nat.succ_ne_self, false_and, and_false, if_false, if_true, nI_succ_sub, Option.some.injEq, Prod.mk.injEq, exists_eq_left', true_and, and_true, retI, retF, retV, retZ1, retZ0, retL, retA, retN, Nat.reduceAdd, Nat.reduceMul, Nat.reduceLT]
  simp only [h1, h2, sK_stN, sR_stN, sI_stN, sF_stN, sZ_stN, sK_stR, sZ_stR, sI_stR, sF_stR, sR_stR, sK_stI, sR_stI, sI_stI, sF_stI, sZ_stI, Nat.add_assoc, Nat.reduceAdd, Nat.left_eq_add, Nat.add_eq_left, Nat.add_left_cancel_iff, Nat.reduceEqDiff, Nat.succ_ne_self, if_true, if_false, false_and, and_false, true_and, and_true, Option.some.injEq, Prod.mk.injEq, exists_eq_left']
  simp (disch := omega) only [nlt0, nge0, neq0, ngt0, nle0, nI_ltI, nI_leI, nI_eq, nI_cl, in_nI, false_implies, true_implies, not_false_eq_true, not_true_eq_false, and_true, true_and, nI_add, pk_mul, implies_true, not_lt0]
  refine ⟨by omega, by omega, by omega, by omega, by omega, by omega, by omega, by omega, h _ ⟨?_, fun a ha => ?_⟩ ?_, by omega⟩
  · simp only [h2, sK_stN, sR_stN, sI_stN, sF_stN, sZ_stN, sK_stR, sZ_stR, sI_stR, sF_stR, sR_stR, sK_stI, sR_stI, sI_stI, sF_stI, sZ_stI, Nat.add_assoc, Nat.reduceAdd, Nat.left_eq_add, Nat.add_eq_left, Nat.add_left_cancel_iff, Nat.reduceEqDiff, Nat.succ_ne_self, if_true, if_false, false_and, and_false, true_and, and_true, Option.some.injEq, Prod.mk.injEq, exists_eq_left']
  · have n0 : ¬ a = g := by omega
    have n1 : ¬ a = g + 1 := by omega
    have n2 : ¬ a = g + 2 := by omega
    have n3 : ¬ a = g + 3 := by omega
    have n4 : ¬ a = g + 4 := by omega
    refine ⟨?_, ?_, ?_, ?_⟩
    · simp only [h2, sK_stN, sR_stN, sI_stN, sF_stN, sZ_stN, sK_stR, sZ_stR, sI_stR, sF_stR, sR_stR, sK_stI, sR_stI, sI_stI, sF_stI, sZ_stI, Nat.add_assoc, Nat.reduceAdd, Nat.left_eq_add, Nat.add_eq_left, Nat.add_left_cancel_iff, Nat.reduceEqDiff, Nat.succ_ne_self, if_true, if_false, false_and, and_false, true_and, and_true, Option.some.injEq, Prod.mk.injEq, exists_eq_left', n0, n1, n2, n3, n4]
    · funext j
      simp only [h2, sK_stN, sR_stN, sI_stN, sF_stN, sZ_stN, sK_stR, sZ_stR, sI_stR, sF_stR, sR_stR, sK_stI, sR_stI, sI_stI, sF_stI, sZ_stI, Nat.add_assoc, Nat.reduceAdd, Nat.left_eq_add, Nat.add_eq_left, Nat.add_left_cancel_iff, Nat.reduceEqDiff, Nat.succ_ne_self, if_true, if_false, false_and, and_false, true_and, and_true, Option.some.injEq, Prod.mk.injEq, exists_eq_left', n0, n1, n2, n3, n4]
    · simp only [h2, sK_stN, sR_stN, sI_stN, sF_stN, sZ_stN, sK_stR, sZ_stR, sI_stR, sF_stR, sR_stR, sK_stI, sR_stI, sI_stI, sF_stI, sZ_stI, Nat.add_assoc, Nat.reduceAdd, Nat.left_eq_add, Nat.add_eq_left, Nat.add_left_cancel_iff, Nat.reduceEqDiff, Nat.succ_ne_self, if_true, if_false, false_and, and_false, true_and, and_true, Option.some.injEq, Prod.mk.injEq, exists_eq_left', n0, n1, n2, n3, n4]
    · simp only [h2, sK_stN, sR_stN, sI_stN, sF_stN, sZ_stN, sK_stR, sZ_stR, sI_stR, sF_stR, sR_stR, sK_stI, sR_stI, sI_stI, sF_stI, sZ_stI, Nat.add_assoc, Nat.reduceAdd, Nat.left_eq_add, Nat.add_eq_left, Nat.add_left_cancel_iff, Nat.reduceEqDiff, Nat.succ_ne_self, if_true, if_false, false_and, and_false, true_and, and_true, Option.some.injEq, Prod.mk.injEq, exists_eq_left', n0, n1, n2, n3, n4]
  · unfold GlassAt
    simp only [h1, h2, sK_stN, sR_stN, sI_stN, sF_stN, sZ_stN, sK_stR, sZ_stR, sI_stR, sF_stR, sR_stR, sK_stI, sR_stI, sI_stI, sF_stI, sZ_stI, Nat.add_assoc, Nat.reduceAdd, Nat.left_eq_add, Nat.add_eq_left, Nat.add_left_cancel_iff, Nat.reduceEqDiff, Nat.succ_ne_self, if_true, if_false, false_and, and_false, true_and, and_true, Option.some.injEq, Prod.mk.injEq, exists_eq_left']

theorem sI_stN_o {S : SS} {kd n b : Nat} (h : b < sZ S) : sI (stN S kd n) b = sI S b := if_neg (by show ¬ b = sZ S; omega)
theorem sI_stN_n {S : SS} {kd n b : Nat} (h : b = sZ S) : sI (stN S kd n) b = fun _ => 0 := if_pos h
theorem Gw.trans {S T U : SS} {g b e f : Nat} (h : Gw S T g e) (k : Gw T U b f) (hb : g ≤ b) : Gw S U g f :=
  ⟨k.1, fun a ha => ⟨(k.2 a (by omega)).1.trans (h.2 a ha).1, (k.2 a (by omega)).2.1.trans (h.2 a ha).2.1, (k.2 a (by omega)).2.2.1.trans (h.2 a ha).2.2.1, (k.2 a (by omega)).2.2.2.trans (h.2 a ha).2.2.2⟩⟩
theorem Gw.refl (S : SS) (g : Nat) : Gw S S g (sZ S) := ⟨rfl, fun _ _ => ⟨rfl, rfl, rfl, rfl⟩⟩
theorem Gw.new {S U : SS} {kd n g e : Nat} (h : Gw (stN S kd n) U g e) (hz : sZ S = g) : Gw S U g e :=
  ⟨h.1, fun a ha => by
    obtain ⟨a1, a2, a3, a4⟩ := h.2 a ha
    rw [sK_stN, if_neg (by omega)] at a1
    rw [sR_stN, if_neg (by omega)] at a2
    rw [sI_stN, if_neg (by omega)] at a3
    rw [sF_stN, if_neg (by omega)] at a4
    exact ⟨a1, a2, a3, a4⟩⟩
theorem Gw.stR {S T : SS} {g e : Nat} (h : Gw S T g e) (a k : Nat) (v : Option Nat) (ha : g ≤ a) : Gw S (stR T a k v) g e :=
  ⟨h.1, fun b hb => ⟨(h.2 b hb).1, by
    rw [← (h.2 b hb).2.1]
    funext j
    rw [sR_stR, if_neg (by omega)], (h.2 b hb).2.2.1, (h.2 b hb).2.2.2⟩⟩
theorem Gw.stI {S T : SS} {g e : Nat} (h : Gw S T g e) (a k : Nat) (v : Int32) (ha : g ≤ a) : Gw S (stI T a k v) g e :=
  ⟨h.1, fun b hb => ⟨(h.2 b hb).1, (h.2 b hb).2.1, by
    rw [← (h.2 b hb).2.2.1]
    funext j
    rw [sI_stI, if_neg (by omega)], (h.2 b hb).2.2.2⟩⟩
theorem Gw.stN {S T : SS} {g e : Nat} (h : Gw S T g e) (kd n : Nat) (hg : g ≤ e) : Gw S (stN T kd n) g (e + 1) :=
  ⟨by rw [sZ_stN, h.1], fun b hb => ⟨by
    rw [← (h.2 b hb).1, sK_stN, if_neg (by rw [h.1]; omega)], by
    rw [← (h.2 b hb).2.1, sR_stN, if_neg (by rw [h.1]; omega)], by
    rw [← (h.2 b hb).2.2.1, sI_stN, if_neg (by rw [h.1]; omega)], by
    rw [← (h.2 b hb).2.2.2, sF_stN, if_neg (by rw [h.1]; omega)]⟩⟩
theorem GlassAt.mkR {S : SS} {g a k : Nat} {v : Option Nat} (h : GlassAt S g) (ha : a < g ∨ g + 5 ≤ a) : GlassAt (stR S a k v) g := by
  unfold GlassAt at h ⊢
  simp only [sK_stR, sR_stR, show ∀ j, ¬ (g = a ∧ j = k) from fun j q => by omega, if_false]
  exact h
theorem Gw.glass {S T : SS} {b e g : Nat} (h : Gw S T b e) (k : GlassAt S g) (hb : g + 5 ≤ b) : GlassAt T g := by
  unfold GlassAt at k ⊢
  rw [(h.2 g (by omega)).1, (h.2 g (by omega)).2.1, (h.2 (g + 1) (by omega)).1, (h.2 (g + 2) (by omega)).1, (h.2 (g + 3) (by omega)).1, (h.2 (g + 4) (by omega)).1]
  exact k
/-- the cells of a desk, but its plates -/
def DeskB (S : SS) (d : Nat) : Prop := sK S d = some (0, 0) ∧ sR S d 0 = some (d + 1) ∧ sR S d 1 = some (d + 2) ∧ sR S d 2 = some (d + 3) ∧ sR S d 3 = some (d + 4) ∧ sR S d 4 = some (d + 5) ∧
  sK S (d + 1) = some (8, 4) ∧ sK S (d + 2) = some (8, 5) ∧ sK S (d + 3) = some (8, 5) ∧ sK S (d + 4) = some (8, 5) ∧ sK S (d + 5) = some (13, 4)
theorem Gw.deskB {S T : SS} {b e d : Nat} (h : Gw S T b e) (k : DeskB S d) (hb : d + 6 ≤ b) : DeskB T d := by
  unfold DeskB at k ⊢
  rw [(h.2 d (by omega)).1, (h.2 d (by omega)).2.1, (h.2 (d + 1) (by omega)).1, (h.2 (d + 2) (by omega)).1, (h.2 (d + 3) (by omega)).1, (h.2 (d + 4) (by omega)).1, (h.2 (d + 5) (by omega)).1]
  exact k
theorem DeskB.at {S : SS} {d : Nat} (h : DeskB S d) (k : ∀ i, i < 4 → sR S (d + 5) i = some (d + 6 + 5 * i) ∧ GlassAt S (d + 6 + 5 * i)) : DeskAt S d :=
  ⟨h.1, h.2.1, h.2.2.1, h.2.2.2.1, h.2.2.2.2.1, h.2.2.2.2.2.1, h.2.2.2.2.2.2.1, h.2.2.2.2.2.2.2.1, h.2.2.2.2.2.2.2.2.1, h.2.2.2.2.2.2.2.2.2.1, h.2.2.2.2.2.2.2.2.2.2, k⟩
theorem DeskAt.b {S : SS} {d : Nat} (h : DeskAt S d) : DeskB S d :=
  ⟨h.1, h.2.1, h.2.2.1, h.2.2.2.1, h.2.2.2.2.1, h.2.2.2.2.2.1, h.2.2.2.2.2.2.1, h.2.2.2.2.2.2.2.1, h.2.2.2.2.2.2.2.2.1, h.2.2.2.2.2.2.2.2.2.1, h.2.2.2.2.2.2.2.2.2.2.1⟩
theorem Gw.desk {S T : SS} {b e d : Nat} (h : Gw S T b e) (k : DeskAt S d) (hb : d + 26 ≤ b) : DeskAt T d :=
  DeskB.at (h.deskB k.b (by omega)) (fun i hi => by
    rw [(h.2 (d + 5) (by omega)).2.1]
    exact ⟨(k.2.2.2.2.2.2.2.2.2.2.2 i hi).1, h.glass (k.2.2.2.2.2.2.2.2.2.2.2 i hi).2 (by omega)⟩)
/-- the numbers of a new desk -/
def DV0 (D : DV) : Prop := D.st 0 = nI 6 ∧ D.st 1 = nI 2 ∧ D.st 2 = nI 40 ∧ D.st 3 = nI 10 ∧ (∀ i, i < 5 → D.pr i = 0 ∧ D.wr i = 0 ∧ D.sp i = 0) ∧ D.hr = nI 0 ∧ D.pl = nI 0 ∧ D.dk = mI 6 ∧ D.pp = nI 0
def dN (S : SS) (d : Nat) : Prop := DV0 (dV S d)
theorem Gw.dN {S T : SS} {b e d : Nat} (h : Gw S T b e) (k : dN S d) (hb : d + 5 ≤ b) : dN T d := by
  unfold Jvm.Pilot.CPlateWritersLaw_law_r5600_de46fe.dN DV0 dV at k ⊢
  dsimp only [GV.l, GV.t, GV.w, GV.p, DV.st, DV.pr, DV.wr, DV.sp, DV.hr, DV.pl, DV.dk, DV.pp, DV.g, sf_l, sf_t, sf_w, sf_p, sf_st, sf_pr, sf_wr, sf_sp, sf_hr, sf_pl, sf_dk, sf_pp, sf_g] at k ⊢
  rw [(h.2 d (by omega)).2.2.1, (h.2 (d + 1) (by omega)).2.2.1, (h.2 (d + 2) (by omega)).2.2.1, (h.2 (d + 3) (by omega)).2.2.1, (h.2 (d + 4) (by omega)).2.2.1]
  exact k
def P_X0_init (as : List Value) (S : SS) (E : Option Value → SS → Prop) : Prop := match as with
  | [.ref d] => sK S d = some (0, 0) ∧ sZ S = d + 1 ∧ ∀ S', Gw S S' d (d + 26) → DeskAt S' d → dN S' d → sK S' d = some (0, 0) → E none S'
  | _ => False
def Γ_X0_init : List (MI × PT) := [(mi_X1_init, P_X1_init)]
theorem hΓ_X0_init (l : Launch) (G : Gx) : ∀ q ∈ Γ_X0_init, Ct l G q.1 q.2 := List.forall_mem_cons.mpr ⟨ct_X1_init l G, fun _ h => absurd h List.not_mem_nil⟩
def dIn (S T : SS) (d k : Nat) : Prop := Gw S T d (d + 6 + 5 * k) ∧ DeskB T d ∧ dN T d ∧ ∀ i, i < k → sR T (d + 5) i = some (d + 6 + 5 * i) ∧ GlassAt T (d + 6 + 5 * i)
def dS0 (S : SS) (d : Nat) : SS := stI (stI (stI (stI (stR (stN (stR (stN (stR (stN (stR (stN (stR (stI (stI (stI (stI (stN S 8 4) (d + 1) 0 (nI 6)) (d + 1) 1 (nI 2)) (d + 1) 2 (nI 40)) (d + 1) 3 (nI 10)) d 0 (some (d + 1))) 8 5) d 1 (some (d + 2))) 8 5) d 2 (some (d + 3))) 8 5) d 3 (some (d + 4))) 13 4) d 4 (some (d + 5))) d 5 (nI 0)) d 6 (nI 0)) d 7 (mI 6)) d 8 (nI 0)
theorem sI_stN_a (S : SS) (kd n b j : Nat) : sI (stN S kd n) b j = if b = sZ S then 0 else sI S b j := by
  rw [sI_stN]
  split <;> rfl
theorem zN (S : SS) (kd n : Nat) : sZ (stN S kd n) = sZ S + 1 := Eq.trans rfl (id rfl)
theorem zR (S : SS) (a k : Nat) (v : Option Nat) : sZ (stR S a k v) = sZ S := Eq.trans rfl (id rfl)
theorem zI (S : SS) (a k : Nat) (v : Int32) : sZ (stI S a k v) = sZ S := Eq.trans rfl (id rfl)
set_option maxHeartbeats 1000000 in
theorem dS0_in {S : SS} {d : Nat} (h1 : sK S d = some (0, 0)) (h2 : sZ S = d + 1) : dIn S (dS0 S d) d 0 := by
  unfold dS0
  refine ⟨?_, ?_, ?_, fun i hi => absurd hi (by omega)⟩
  · have e : Gw S S d (d + 1) := ⟨h2, fun _ _ => ⟨rfl, rfl, rfl, rfl⟩⟩
    refine Gw.stI (Gw.stI (Gw.stI (Gw.stI ?_ _ _ _ (by omega)) _ _ _ (by omega)) _ _ _ (by omega)) _ _ _ (by omega)
    exact ((((((((((((((e.stN _ _ (by omega)).stI _ _ _ (by omega)).stI _ _ _ (by omega)).stI _ _ _ (by omega)).stI _ _ _ (by omega)).stR _ _ _ (by omega)).stN _ _ (by omega)).stR _ _ _ (by omega)).stN _ _ (by omega)).stR _ _ _ (by omega)).stN _ _ (by omega)).stR _ _ _ (by omega)).stN _ _ (by omega)).stR _ _ _ (by omega))
  · unfold DeskB
    simp only [h1, h2, sK_stN, sR_stN, sI_stN, sF_stN, sZ_stN, sK_stR, sZ_stR, sI_stR, sF_stR, sR_stR, sK_stI, sR_stI, sI_stI, sF_stI, sZ_stI, Nat.add_assoc, Nat.reduceAdd, Nat.left_eq_add, Nat.add_eq_left, Nat.add_left_cancel_iff, Nat.reduceEqDiff, Nat.succ_ne_self, if_true, if_false, false_and, and_false, true_and, and_true, Option.some.injEq, Prod.mk.injEq, exists_eq_left']
  · unfold dN DV0 dV
    dsimp only [GV.l, GV.t, GV.w, GV.p, DV.st, DV.pr, DV.wr, DV.sp, DV.hr, DV.pl, DV.dk, DV.pp, DV.g, sf_l, sf_t, sf_w, sf_p, sf_st, sf_pr, sf_wr, sf_sp, sf_hr, sf_pl, sf_dk, sf_pp, sf_g]
    simp only [sI_stI, sI_stR, sI_stN_a, zN, zR, zI, h2]
    simp
set_option maxHeartbeats 1000000 in
theorem lp_X0_init (l : Launch) (G : Gx) {S : SS} {d : Nat} {E : Option Value → SS → Prop} (h : ∀ S', Gw S S' d (d + 26) → DeskAt S' d → dN S' d → sK S' d = some (0, 0) → E none S') :
    ∀ k, k ≤ 4 → ∀ T, dIn S T d k → ∀ cs sl, cs = 5 + 5 * k → sl = 23 + 484 * k → V l G mi_X0_init E 82 [some (.ref d), some (.int (nI k))] [] T cs sl := by
  refine loopUp 4 fun k hk ih T hT cs sl hcs hsl => ?_
  subst hcs hsl
  refine (V.segN (Γ := Γ_X0_init) (hΓ_X0_init l G) so_X0_init 4 (sg := sg_X0_init_82) so_X0_init_82 ?_ : V l G mi_X0_init _ (segPc sg_X0_init_82) _ _ _ _ _)
  simp only [mL_X0_init, mT_X0_init, rc_X0_init, rs_X0_init, Γ_X0_init, sg_X0_init_0, sg_X0_init_82, sg_X0_init_106, wn_X0_init_0, wn_X0_init_82, wn_X0_init_106, wp_c, ex_c, x_nop, x_goto, x_table, x_iinc, x_ldc, x_ldc2, x_iaload, x_faload, x_baload, x_caload, x_iastore, x_fastore, x_bastore, x_castore, x_aastore, x_alen, x_gets, x_new, x_newa, x_anew, x_invs, x_invi, x_invv, x_ret, x_iret, x_lret, x_fret, x_aret, x_lconst, x_fconst0, x_fconst1, x_fconst2, x_dconst0, x_dconst1, x_null, x_iadd, x_isub, x_imul, x_iand, x_ior, x_idiv, x_irem, x_ineg, x_ishl, x_ishr, x_land, x_ladd, x_lmul, x_lor, x_lushr, x_lshl, x_lcmp, x_i2l, x_l2i, x_i2c, x_i2f, x_f2d, x_d2i, x_d2l, x_fadd, x_fsub, x_fmul, x_fdiv, x_dadd, x_dsub, x_dmul, x_ddiv, x_fcmp, x_dcmp, x_dupI, x_dupR, x_dup2, x_popI, x_popR, ldP_I, ldP_L, ldP_F, ldP_D, ldP_R, ldP_N, x_iload, x_iload_n, x_lload, x_lload_n, x_fload, x_fload_n, x_dload, x_dload_n, x_aload, x_aload_n, x_istore, x_istore_n, x_lstore, x_lstore_n, x_fstore, x_fstore_n, x_dstore, x_dstore_n, x_astore, x_astore_n, x_astoreN, x_astore_nN, x_icmp_eq, x_icmp_ne, x_icmp_lt, x_icmp_ge, x_icmp_gt, x_icmp_le, x_if_eq, x_if_ne, x_if_lt, x_if_ge, x_if_gt, x_if_le, x_ifnull, x_ifnullR, x_ifnn, x_ifnnR, x_aaload2, x_cpI, x_cpF, x_oI, xk_bipush_120, xk_iconst_0, xk_bipush_m6, xk_iconst_1, xk_bipush_80, xk_iconst_4, xk_bipush_6, xk_iconst_2, xk_bipush_40, xk_iconst_3, xk_bipush_10, xk_iconst_5, xk_bipush_m2, xk_bipush_m4, xk_iconst_m1, xk_bipush_m5, xk_bipush_12, xk_bipush_100, xk_bipush_26, xk_bipush_48, xk_sipush_9999, xk_sipush_500, xk_bipush_7, xk_bipush_119, xk_bipush_m126, xk_bipush_127, xk_bipush_23, xk_sipush_m1022, xk_sipush_1023, xk_bipush_52, xg_0_0, xp_0_0, xg_0_1, xp_0_1, xg_0_2, xp_0_2, xg_0_3, xp_0_3, xg_0_4, xp_0_4, xg_0_5, xp_0_5, xg_0_6, xp_0_6, xg_0_7, xp_0_7, xg_0_8, xp_0_8, xg_1_0, xp_1_0, xg_1_1, xp_1_1, xg_1_2, xp_1_2, xg_1_3, xp_1_3, xg_2_0, xp_2_0, xg_2_1, xp_2_1, xg_2_2, xp_2_2, xg_3_0, xp_3_0, xg_3_1, xp_3_1, xg_3_2, xp_3_2, xg_3_3, xp_3_3, xg_3_4, xp_3_4, xg_3_5, xp_3_5, xg_3_6, xp_3_6, xg_3_7, xp_3_7, xg_3_8, xp_3_8, xg_3_9, xp_3_9, xg_3_10, xp_3_10, xg_3_11, xp_3_11, xg_4_0, xp_4_0, xg_4_1, xp_4_1, xg_5_0, xp_5_0, xg_5_1, xp_5_1, xg_6_0, xp_6_0, xg_6_1, xp_6_1, xg_6_2, xp_6_2, xg_6_3, xp_6_3, xg_6_4, xp_6_4, xg_6_5, xp_6_5, fv0, fv1, fv2, fv3, kI_0, kI_1, stL, wipeL, entLn, entL, List.getElem?_cons_zero, List.getElem?_cons_succ, List.getElem?_nil, List.set_cons_zero, List.set_cons_succ, List.set_nil, List.length_cons, List.length_nil, List.cons_append, List.nil_append, List.replicate, Nat.reduceAdd, Nat.reduceLeDiff, Nat.reduceSub, true_and, and_true, x_callS, x_callSN, x_callI, x_callIN, x_callV0, x_callV1, x_callV2, x_callV3, x_callV4, x_callV5, x_callV6, x_callV7, callP, List.take_succ_cons, List.take_zero, List.take_nil, List.drop_succ_cons, List.drop_zero, List.drop_nil, List.getLast?_singleton, List.getLast?_cons_cons, Option.some.injEq, Value.ref.injEq, exists_eq_left, exists_eq_left', Nat.zero_le, Nat.add_zero, ldcV_f, ldcV_fn, ldcV_l, ldcV_d, Nat.reduceMul, Nat.le_refl, List.reverse_cons, List.reverse_nil, Option.toList, List.map_cons, List.map_nil, List.sum_cons, List.sum_nil, Value.category, tblW_n, tblW_c, Int.cast_ofNat_Int, Int.reduceAdd, Int.reduceToNat, ofI_n, rc_X1_init, rs_X1_init, P_X1_init]
  obtain ⟨hW, hB, hN, hg⟩ := hT
  have hz := hW.1
  simp (disch := omega) only [nlt0, nge0, neq0, ngt0, nle0, nI_ltI, nI_leI, nI_eq, nI_cl, in_nI, false_implies, true_implies, not_false_eq_true, not_true_eq_false, and_true, true_and, nI_add, pk_mul, implies_true, not_lt0]
  refine ⟨fun c => ?_, fun c2' => have c2 : k < 4 := by omega
    ⟨hB.1, _, hB.2.2.2.2.2.1, by omega, by (simp [nf]; omega), ⟨_, rfl⟩, by omega, by (simp [nf]; omega), ?_, rfl, fun U hU hgU => ?_⟩⟩
  · have e : k = 4 := by omega
    subst e
    exact ⟨by simp [retOK], h _ hW (hB.at hg) hN hB.1, by omega, by omega⟩
  · rw [sK_stN, if_pos rfl]
  · have hU2 := hU.new rfl
    rw [hz] at hU2 hgU ⊢
    have hB2 := hU2.deskB hB (by omega)
    refine ⟨_, hB2.2.2.2.2.2.2.2.2.2.2, hgU.1, vp_in_nI c2 (by omega), ?_⟩
    refine ih c2 _ ⟨(hW.trans hU2 (by omega)).stR _ _ _ (by omega), ?_, hU2.dN hN (by omega), fun i hi => ?_⟩ _ _ (by omega) (by simp [nf]; omega)
    · unfold DeskB at hB2 ⊢
      simp only [sK_stR, sR_stR, sK_stN, sR_stN, sI_stN, sF_stN, sZ_stN, sK_stR, sZ_stR, sI_stR, sF_stR, sR_stR, sK_stI, sR_stI, sI_stI, sF_stI, sZ_stI, Nat.add_assoc, Nat.reduceAdd, Nat.left_eq_add, Nat.add_eq_left, Nat.add_left_cancel_iff, Nat.reduceEqDiff, Nat.succ_ne_self, if_true, if_false, false_and, and_false, true_and, and_true, Option.some.injEq, Prod.mk.injEq, exists_eq_left']
      exact hB2
    · rw [sR_stR]
      by_cases c3 : i = k
      · subst c3
        rw [if_pos ⟨rfl, rfl⟩]
        exact ⟨rfl, hgU.mkR (by omega)⟩
      · rw [if_neg (fun a => c3 a.2), (hU2.2 (d + 5) (by omega)).2.1]
        exact ⟨(hg i (by omega)).1, (hU2.glass (hg i (by omega)).2 (by omega)).mkR (by omega)⟩
set_option maxHeartbeats 1000000 in
theorem ct_X0_init (l : Launch) (G : Gx) : Ct l G mi_X0_init P_X0_init := by
  refine Ct.ofV mo_X0_init (fun as S E h => ?_)
  unfold P_X0_init at h
  split at h
  case h_2 => exact h.elim
  rename_i d
  refine ⟨by simp [entL, mL_X0_init], ?_⟩
  refine wpN_ok (Γ := Γ_X0_init) (hΓ_X0_init l G) so_X0_init 4 _ _ _ _ _ _ ?_
  simp only [mL_X0_init, mT_X0_init, rc_X0_init, rs_X0_init, Γ_X0_init, sg_X0_init_0, sg_X0_init_82, sg_X0_init_106, wn_X0_init_0, wn_X0_init_82, wn_X0_init_106, wp_c, ex_c, x_nop, x_goto, x_table, x_iinc, x_ldc, x_ldc2, x_iaload, x_faload, x_baload, x_caload, x_iastore, x_fastore, x_bastore, x_castore, x_aastore, x_alen, x_gets, x_new, x_newa, x_anew, x_invs, x_invi, x_invv, x_ret, x_iret, x_lret, x_fret, x_aret, x_lconst, x_fconst0, x_fconst1, x_fconst2, x_dconst0, x_dconst1, x_null, x_iadd, x_isub, x_imul, x_iand, x_ior, x_idiv, x_irem, x_ineg, x_ishl, x_ishr, x_land, x_ladd, x_lmul, x_lor, x_lushr, x_lshl, x_lcmp, x_i2l, x_l2i, x_i2c, x_i2f, x_f2d, x_d2i, x_d2l, x_fadd, x_fsub, x_fmul, x_fdiv, x_dadd, x_dsub, x_dmul, x_ddiv, x_fcmp, x_dcmp, x_dupI, x_dupR, x_dup2, x_popI, x_popR, ldP_I, ldP_L, ldP_F, ldP_D, ldP_R, ldP_N, x_iload, x_iload_n, x_lload, x_lload_n, x_fload, x_fload_n, x_dload, x_dload_n, x_aload, x_aload_n, x_istore, x_istore_n, x_lstore, x_lstore_n, x_fstore, x_fstore_n, x_dstore, x_dstore_n, x_astore, x_astore_n, x_astoreN, x_astore_nN, x_icmp_eq, x_icmp_ne, x_icmp_lt, x_icmp_ge, x_icmp_gt, x_icmp_le, x_if_eq, x_if_ne, x_if_lt, x_if_ge, x_if_gt, x_if_le, x_ifnull, x_ifnullR, x_ifnn, x_ifnnR, x_aaload2, x_cpI, x_cpF, x_oI, xk_bipush_120, xk_iconst_0, xk_bipush_m6, xk_iconst_1, xk_bipush_80, xk_iconst_4, xk_bipush_6, xk_iconst_2, xk_bipush_40, xk_iconst_3, xk_bipush_10, xk_iconst_5, xk_bipush_m2, xk_bipush_m4, xk_iconst_m1, xk_bipush_m5, xk_bipush_12, xk_bipush_100, xk_bipush_26, xk_bipush_48, xk_sipush_9999, xk_sipush_500, xk_bipush_7, xk_bipush_119, xk_bipush_m126, xk_bipush_127, xk_bipush_23, xk_sipush_m1022, xk_sipush_1023, xk_bipush_52, xg_0_0, xp_0_0, xg_0_1, xp_0_1, xg_0_2, xp_0_2, xg_0_3, xp_0_3, xg_0_4, xp_0_4, xg_0_5, xp_0_5, xg_0_6, xp_0_6, xg_0_7, xp_0_7, xg_0_8, xp_0_8, xg_1_0, xp_1_0, xg_1_1, xp_1_1, xg_1_2, xp_1_2, xg_1_3, xp_1_3, xg_2_0, xp_2_0, xg_2_1, xp_2_1, xg_2_2, xp_2_2, xg_3_0, xp_3_0, xg_3_1, xp_3_1, xg_3_2, xp_3_2, xg_3_3, xp_3_3, xg_3_4, xp_3_4, xg_3_5, xp_3_5, xg_3_6, xp_3_6, xg_3_7, xp_3_7, xg_3_8, xp_3_8, xg_3_9, xp_3_9, xg_3_10, xp_3_10, xg_3_11, xp_3_11, xg_4_0, xp_4_0, xg_4_1, xp_4_1, xg_5_0, xp_5_0, xg_5_1, xp_5_1, xg_6_0, xp_6_0, xg_6_1, xp_6_1, xg_6_2, xp_6_2, xg_6_3, xp_6_3, xg_6_4, xp_6_4, xg_6_5, xp_6_5, fv0, fv1, fv2, fv3, kI_0, kI_1, stL, wipeL, entLn, entL, List.getElem?_cons_zero, List.getElem?_cons_succ, List.getElem?_nil, List.set_cons_zero, List.set_cons_succ, List.set_nil, List.length_cons, List.length_nil, List.cons_append, List.nil_append, List.replicate, Nat.reduceAdd, Nat.reduceLeDiff, Nat.reduceSub, true_and, and_true, x_callS, x_callSN, x_callI, x_callIN, x_callV0, x_callV1, x_callV2, x_callV3, x_callV4, x_callV5, x_callV6, x_callV7, callP, List.take_succ_cons, List.take_zero, List.take_nil, List.drop_succ_cons, List.drop_zero, List.drop_nil, List.getLast?_singleton, List.getLast?_cons_cons, Option.some.injEq, Value.ref.injEq, exists_eq_left, exists_eq_left', Nat.zero_le, Nat.add_zero, ldcV_f, ldcV_fn, ldcV_l, ldcV_d, Nat.reduceMul, Nat.le_refl, List.reverse_cons, List.reverse_nil, Option.toList, List.map_cons, List.map_nil, List.sum_cons, List.sum_nil, Value.category, tblW_n, tblW_c, Int.cast_ofNat_Int, Int.reduceAdd, Int.reduceToNat, ofI_n, rc_X1_init, rs_X1_init, P_X1_init]
  obtain ⟨h1, h2, h⟩ := h
  simp only [h1, h2, sK_stI, sR_stI, sK_stF, sR_stF, sK_stIA, sR_stIA, sK_stFA, sR_stFA, sI_stI, sI_stF, sI_stIA, sI_stFA, sF_stI, sF_stF, sF_stIA, sF_stFA, Nat.left_eq_add, Nat.add_eq_left, Nat.add_left_cancel_iff, Nat.reduceEqDiff, Nat.reduceEqDiff, Nat.succ_ne_self, false_and, and_false, if_false, if_true, nI_succ_sub, Option.some.injEq, Prod.mk.injEq, exists_eq_left', true_and, and_true, retI, retF, retV, retZ1, retZ0, retL, retA, retN, Nat.reduceAdd, Nat.reduceMul, Nat.reduceLT]
  simp only [h1, h2, sK_stN, sR_stN, sI_stN, sF_stN, sZ_stN, sK_stR, sZ_stR, sI_stR, sF_stR, sR_stR, sK_stI, sR_stI, sI_stI, sF_stI, sZ_stI, Nat.add_assoc, Nat.reduceAdd, Nat.left_eq_add, Nat.add_eq_left, Nat.add_left_cancel_iff, Nat.reduceEqDiff, Nat.succ_ne_self, if_true, if_false, false_and, and_false, true_and, and_true, Option.some.injEq, Prod.mk.injEq, exists_eq_left']
  simp (disch := omega) only [nlt0, nge0, neq0, ngt0, nle0, nI_ltI, nI_leI, nI_eq, nI_cl, in_nI, false_implies, true_implies, not_false_eq_true, not_true_eq_false, and_true, true_and, nI_add, pk_mul, implies_true, not_lt0]
  refine ⟨by omega, by omega, by omega, by omega, by omega, by omega, by omega, by omega, by omega, by omega, by omega, by omega, by omega, by omega, ?_⟩
  exact lp_X0_init l G (S := S) h 0 (by omega) _ (dS0_in h1 h2) _ _ (by omega) (by omega)

theorem X4_in {S : SS} {g : Nat} (h1 : sK S g = some (4, 0)) (h2 : sZ S = g + 1) : Gw S (stI (stR (stN S 11 80) g 0 (some (g + 1))) g 1 (nI 0)) g (g + 2) ∧ PadAt (stI (stR (stN S 11 80) g 0 (some (g + 1))) g 1 (nI 0)) g ∧ sI (stI (stR (stN S 11 80) g 0 (some (g + 1))) g 1 (nI 0)) g 1 = nI 0 := by
  have e : Gw S S g (g + 1) := ⟨h2, fun _ _ => ⟨rfl, rfl, rfl, rfl⟩⟩
  refine ⟨((e.stN _ _ (by omega)).stR _ _ _ (by omega)).stI _ _ _ (by omega), ?_, ?_⟩
  · unfold PadAt
    simp only [h1, h2, sK_stN, sR_stN, sI_stN, sF_stN, sZ_stN, sK_stR, sZ_stR, sI_stR, sF_stR, sR_stR, sK_stI, sR_stI, sI_stI, sF_stI, sZ_stI, Nat.add_assoc, Nat.reduceAdd, Nat.left_eq_add, Nat.add_eq_left, Nat.add_left_cancel_iff, Nat.reduceEqDiff, Nat.succ_ne_self, if_true, if_false, false_and, and_false, true_and, and_true, Option.some.injEq, Prod.mk.injEq, exists_eq_left']
  · rw [sI_stI, if_pos ⟨rfl, rfl⟩]
def P_X4_init (as : List Value) (S : SS) (E : Option Value → SS → Prop) : Prop := match as with
  | [.ref g] => sK S g = some (4, 0) ∧ sZ S = g + 1 ∧ ∀ S', Gw S S' g (g + 2) → PadAt S' g → sI S' g 1 = nI 0 → E none S'
  | _ => False
def Γ_X4_init : List (MI × PT) := []
theorem hΓ_X4_init (l : Launch) (G : Gx) : ∀ q ∈ Γ_X4_init, Ct l G q.1 q.2 := fun _ h => absurd h List.not_mem_nil
set_option maxHeartbeats 1000000 in
theorem ct_X4_init (l : Launch) (G : Gx) : Ct l G mi_X4_init P_X4_init := by
  refine Ct.ofV mo_X4_init (fun as S E h => ?_)
  unfold P_X4_init at h
  split at h
  case h_2 => exact h.elim
  rename_i g
  refine ⟨by simp [entL, mL_X4_init], ?_⟩
  refine wpN_ok (Γ := Γ_X4_init) (hΓ_X4_init l G) so_X4_init 4 _ _ _ _ _ _ ?_
  simp only [mL_X4_init, mT_X4_init, rc_X4_init, rs_X4_init, Γ_X4_init, sg_X4_init_0, wn_X4_init_0, wp_c, ex_c, x_nop, x_goto, x_table, x_iinc, x_ldc, x_ldc2, x_iaload, x_faload, x_baload, x_caload, x_iastore, x_fastore, x_bastore, x_castore, x_aastore, x_alen, x_gets, x_new, x_newa, x_anew, x_invs, x_invi, x_invv, x_ret, x_iret, x_lret, x_fret, x_aret, x_lconst, x_fconst0, x_fconst1, x_fconst2, x_dconst0, x_dconst1, x_null, x_iadd, x_isub, x_imul, x_iand, x_ior, x_idiv, x_irem, x_ineg, x_ishl, x_ishr, x_land, x_ladd, x_lmul, x_lor, x_lushr, x_lshl, x_lcmp, x_i2l, x_l2i, x_i2c, x_i2f, x_f2d, x_d2i, x_d2l, x_fadd, x_fsub, x_fmul, x_fdiv, x_dadd, x_dsub, x_dmul, x_ddiv, x_fcmp, x_dcmp, x_dupI, x_dupR, x_dup2, x_popI, x_popR, ldP_I, ldP_L, ldP_F, ldP_D, ldP_R, ldP_N, x_iload, x_iload_n, x_lload, x_lload_n, x_fload, x_fload_n, x_dload, x_dload_n, x_aload, x_aload_n, x_istore, x_istore_n, x_lstore, x_lstore_n, x_fstore, x_fstore_n, x_dstore, x_dstore_n, x_astore, x_astore_n, x_astoreN, x_astore_nN, x_icmp_eq, x_icmp_ne, x_icmp_lt, x_icmp_ge, x_icmp_gt, x_icmp_le, x_if_eq, x_if_ne, x_if_lt, x_if_ge, x_if_gt, x_if_le, x_ifnull, x_ifnullR, x_ifnn, x_ifnnR, x_aaload2, x_cpI, x_cpF, x_oI, xk_bipush_120, xk_iconst_0, xk_bipush_m6, xk_iconst_1, xk_bipush_80, xk_iconst_4, xk_bipush_6, xk_iconst_2, xk_bipush_40, xk_iconst_3, xk_bipush_10, xk_iconst_5, xk_bipush_m2, xk_bipush_m4, xk_iconst_m1, xk_bipush_m5, xk_bipush_12, xk_bipush_100, xk_bipush_26, xk_bipush_48, xk_sipush_9999, xk_sipush_500, xk_bipush_7, xk_bipush_119, xk_bipush_m126, xk_bipush_127, xk_bipush_23, xk_sipush_m1022, xk_sipush_1023, xk_bipush_52, xg_0_0, xp_0_0, xg_0_1, xp_0_1, xg_0_2, xp_0_2, xg_0_3, xp_0_3, xg_0_4, xp_0_4, xg_0_5, xp_0_5, xg_0_6, xp_0_6, xg_0_7, xp_0_7, xg_0_8, xp_0_8, xg_1_0, xp_1_0, xg_1_1, xp_1_1, xg_1_2, xp_1_2, xg_1_3, xp_1_3, xg_2_0, xp_2_0, xg_2_1, xp_2_1, xg_2_2, xp_2_2, xg_3_0, xp_3_0, xg_3_1, xp_3_1, xg_3_2, xp_3_2, xg_3_3, xp_3_3, xg_3_4, xp_3_4, xg_3_5, xp_3_5, xg_3_6, xp_3_6, xg_3_7, xp_3_7, xg_3_8, xp_3_8, xg_3_9, xp_3_9, xg_3_10, xp_3_10, xg_3_11, xp_3_11, xg_4_0, xp_4_0, xg_4_1, xp_4_1, xg_5_0, xp_5_0, xg_5_1, xp_5_1, xg_6_0, xp_6_0, xg_6_1, xp_6_1, xg_6_2, xp_6_2, xg_6_3, xp_6_3, xg_6_4, xp_6_4, xg_6_5, xp_6_5, fv0, fv1, fv2, fv3, kI_0, kI_1, stL, wipeL, entLn, entL, List.getElem?_cons_zero, List.getElem?_cons_succ, List.getElem?_nil, List.set_cons_zero, List.set_cons_succ, List.set_nil, List.length_cons, List.length_nil, List.cons_append, List.nil_append, List.replicate, Nat.reduceAdd, Nat.reduceLeDiff, Nat.reduceSub, true_and, and_true, x_callS, x_callSN, x_callI, x_callIN, x_callV0, x_callV1, x_callV2, x_callV3, x_callV4, x_callV5, x_callV6, x_callV7, callP, List.take_succ_cons, List.take_zero, List.take_nil, List.drop_succ_cons, List.drop_zero, List.drop_nil, List.getLast?_singleton, List.getLast?_cons_cons, Option.some.injEq, Value.ref.injEq, exists_eq_left, exists_eq_left', Nat.zero_le, Nat.add_zero, ldcV_f, ldcV_fn, ldcV_l, ldcV_d, Nat.reduceMul, Nat.le_refl, List.reverse_cons, List.reverse_nil, Option.toList, List.map_cons, List.map_nil, List.sum_cons, List.sum_nil, Value.category, tblW_n, tblW_c, Int.cast_ofNat_Int, Int.reduceAdd, Int.reduceToNat, ofI_n]
  obtain ⟨h1, h2, h⟩ := h
  simp only [h1, h2, sK_stI, sR_stI, sK_stF, sR_stF, sK_stIA, sR_stIA, sK_stFA, sR_stFA, sI_stI, sI_stF, sI_stIA, sI_stFA, sF_stI, sF_stF, sF_stIA, sF_stFA, Nat.left_eq_add, Nat.add_eq_left, Nat.add_left_cancel_iff, Nat.reduceEqDiff, Nat.reduceEqDiff, Nat.succ_ne_self, false_and, and_false, if_false, if_true, nI_succ_sub, Option.some.injEq, Prod.mk.injEq, exists_eq_left', true_and, and_true, retI, retF, retV, retZ1, retZ0, retL, retA, retN, Nat.reduceAdd, Nat.reduceMul, Nat.reduceLT]
  simp only [h1, h2, sK_stN, sR_stN, sI_stN, sF_stN, sZ_stN, sK_stR, sZ_stR, sI_stR, sF_stR, sR_stR, sK_stI, sR_stI, sI_stI, sF_stI, sZ_stI, Nat.add_assoc, Nat.reduceAdd, Nat.left_eq_add, Nat.add_eq_left, Nat.add_left_cancel_iff, Nat.reduceEqDiff, Nat.succ_ne_self, if_true, if_false, false_and, and_false, true_and, and_true, Option.some.injEq, Prod.mk.injEq, exists_eq_left']
  simp (disch := omega) only [nlt0, nge0, neq0, ngt0, nle0, nI_ltI, nI_leI, nI_eq, nI_cl, in_nI, false_implies, true_implies, not_false_eq_true, not_true_eq_false, and_true, true_and, nI_add, pk_mul, implies_true, not_lt0]
  obtain ⟨a1, a2, a3⟩ := X4_in h1 h2
  exact ⟨by omega, by omega, h _ a1 a2 a3, by omega⟩
theorem Gw.mono {S T : SS} {g e g' : Nat} (h : Gw S T g e) (k : g' ≤ g) : Gw S T g' e := ⟨h.1, fun a ha => h.2 a (by omega)⟩
set_option maxHeartbeats 1000000 in
theorem X3_in {S U : SS} {g : Nat} (hU : Gw S U g (g + 3)) (h1 : sK U g = some (3, 0)) (hP : PadAt U (g + 1)) (hp : sI U (g + 1) 1 = nI 0) : Gw S (stI (stI (stI (stI (stI (stI (stR (stN (stR (stN (stR (stN (stR (stN (stR (stN (stR U g 0 (some (g + 1))) 11 80) g 1 (some (g + 3))) 8 80) g 2 (some (g + 4))) 8 80) g 3 (some (g + 5))) 8 80) g 4 (some (g + 6))) 8 80) g 5 (some (g + 7))) g 6 (nI 0)) g 7 (nI 0)) g 8 (nI 0)) g 9 (nI 0)) g 10 (nI 0)) g 11 (nI 0)) g (g + 8) ∧ OrdAt (stI (stI (stI (stI (stI (stI (stR (stN (stR (stN (stR (stN (stR (stN (stR (stN (stR U g 0 (some (g + 1))) 11 80) g 1 (some (g + 3))) 8 80) g 2 (some (g + 4))) 8 80) g 3 (some (g + 5))) 8 80) g 4 (some (g + 6))) 8 80) g 5 (some (g + 7))) g 6 (nI 0)) g 7 (nI 0)) g 8 (nI 0)) g 9 (nI 0)) g 10 (nI 0)) g 11 (nI 0)) g ∧ sI (stI (stI (stI (stI (stI (stI (stR (stN (stR (stN (stR (stN (stR (stN (stR (stN (stR U g 0 (some (g + 1))) 11 80) g 1 (some (g + 3))) 8 80) g 2 (some (g + 4))) 8 80) g 3 (some (g + 5))) 8 80) g 4 (some (g + 6))) 8 80) g 5 (some (g + 7))) g 6 (nI 0)) g 7 (nI 0)) g 8 (nI 0)) g 9 (nI 0)) g 10 (nI 0)) g 11 (nI 0)) (g + 1) 1 = nI 0 := by
  obtain ⟨p1, p2, p3⟩ := hP
  have hz := hU.1
  refine ⟨?_, ?_, ?_⟩
  · exact (((((((((((((((((hU.stR _ _ _ (by omega)).stN _ _ (by omega)).stR _ _ _ (by omega)).stN _ _ (by omega)).stR _ _ _ (by omega)).stN _ _ (by omega)).stR _ _ _ (by omega)).stN _ _ (by omega)).stR _ _ _ (by omega)).stN _ _ (by omega)).stR _ _ _ (by omega)).stI _ _ _ (by omega)).stI _ _ _ (by omega)).stI _ _ _ (by omega)).stI _ _ _ (by omega)).stI _ _ _ (by omega)).stI _ _ _ (by omega))
  · unfold OrdAt
    simp only [h1, hz, p1, p2, p3, sK_stN, sR_stN, sI_stN, sF_stN, sZ_stN, sK_stR, sZ_stR, sI_stR, sF_stR, sR_stR, sK_stI, sR_stI, sI_stI, sF_stI, sZ_stI, Nat.add_assoc, Nat.reduceAdd, Nat.left_eq_add, Nat.add_eq_left, Nat.add_left_cancel_iff, Nat.reduceEqDiff, Nat.succ_ne_self, if_true, if_false, false_and, and_false, true_and, and_true, Option.some.injEq, Prod.mk.injEq, exists_eq_left']
  · simp only [sI_stI, sI_stR, sI_stN_a, zN, zR, zI, hz]
    simp [hp]
def P_X3_init (as : List Value) (S : SS) (E : Option Value → SS → Prop) : Prop := match as with
  | [.ref g] => sK S g = some (3, 0) ∧ sZ S = g + 1 ∧ ∀ S', Gw S S' g (g + 8) → OrdAt S' g → sI S' (g + 1) 1 = nI 0 → E none S'
  | _ => False
def Γ_X3_init : List (MI × PT) := [(mi_X4_init, P_X4_init)]
theorem hΓ_X3_init (l : Launch) (G : Gx) : ∀ q ∈ Γ_X3_init, Ct l G q.1 q.2 := List.forall_mem_cons.mpr ⟨ct_X4_init l G, fun _ h => absurd h List.not_mem_nil⟩
set_option maxHeartbeats 1000000 in
theorem ct_X3_init (l : Launch) (G : Gx) : Ct l G mi_X3_init P_X3_init := by
  refine Ct.ofV mo_X3_init (fun as S E h => ?_)
  unfold P_X3_init at h
  split at h
  case h_2 => exact h.elim
  rename_i g
  refine ⟨by simp [entL, mL_X3_init], ?_⟩
  refine wpN_ok (Γ := Γ_X3_init) (hΓ_X3_init l G) so_X3_init 4 _ _ _ _ _ _ ?_
  simp only [mL_X3_init, mT_X3_init, rc_X3_init, rs_X3_init, Γ_X3_init, sg_X3_init_0, wn_X3_init_0, wp_c, ex_c, x_nop, x_goto, x_table, x_iinc, x_ldc, x_ldc2, x_iaload, x_faload, x_baload, x_caload, x_iastore, x_fastore, x_bastore, x_castore, x_aastore, x_alen, x_gets, x_new, x_newa, x_anew, x_invs, x_invi, x_invv, x_ret, x_iret, x_lret, x_fret, x_aret, x_lconst, x_fconst0, x_fconst1, x_fconst2, x_dconst0, x_dconst1, x_null, x_iadd, x_isub, x_imul, x_iand, x_ior, x_idiv, x_irem, x_ineg, x_ishl, x_ishr, x_land, x_ladd, x_lmul, x_lor, x_lushr, x_lshl, x_lcmp, x_i2l, x_l2i, x_i2c, x_i2f, x_f2d, x_d2i, x_d2l, x_fadd, x_fsub, x_fmul, x_fdiv, x_dadd, x_dsub, x_dmul, x_ddiv, x_fcmp, x_dcmp, x_dupI, x_dupR, x_dup2, x_popI, x_popR, ldP_I, ldP_L, ldP_F, ldP_D, ldP_R, ldP_N, x_iload, x_iload_n, x_lload, x_lload_n, x_fload, x_fload_n, x_dload, x_dload_n, x_aload, x_aload_n, x_istore, x_istore_n, x_lstore, x_lstore_n, x_fstore, x_fstore_n, x_dstore, x_dstore_n, x_astore, x_astore_n, x_astoreN, x_astore_nN, x_icmp_eq, x_icmp_ne, x_icmp_lt, x_icmp_ge, x_icmp_gt, x_icmp_le, x_if_eq, x_if_ne, x_if_lt, x_if_ge, x_if_gt, x_if_le, x_ifnull, x_ifnullR, x_ifnn, x_ifnnR, x_aaload2, x_cpI, x_cpF, x_oI, xk_bipush_120, xk_iconst_0, xk_bipush_m6, xk_iconst_1, xk_bipush_80, xk_iconst_4, xk_bipush_6, xk_iconst_2, xk_bipush_40, xk_iconst_3, xk_bipush_10, xk_iconst_5, xk_bipush_m2, xk_bipush_m4, xk_iconst_m1, xk_bipush_m5, xk_bipush_12, xk_bipush_100, xk_bipush_26, xk_bipush_48, xk_sipush_9999, xk_sipush_500, xk_bipush_7, xk_bipush_119, xk_bipush_m126, xk_bipush_127, xk_bipush_23, xk_sipush_m1022, xk_sipush_1023, xk_bipush_52, xg_0_0, xp_0_0, xg_0_1, xp_0_1, xg_0_2, xp_0_2, xg_0_3, xp_0_3, xg_0_4, xp_0_4, xg_0_5, xp_0_5, xg_0_6, xp_0_6, xg_0_7, xp_0_7, xg_0_8, xp_0_8, xg_1_0, xp_1_0, xg_1_1, xp_1_1, xg_1_2, xp_1_2, xg_1_3, xp_1_3, xg_2_0, xp_2_0, xg_2_1, xp_2_1, xg_2_2, xp_2_2, xg_3_0, xp_3_0, xg_3_1, xp_3_1, xg_3_2, xp_3_2, xg_3_3, xp_3_3, xg_3_4, xp_3_4, xg_3_5, xp_3_5, xg_3_6, xp_3_6, xg_3_7, xp_3_7, xg_3_8, xp_3_8, xg_3_9, xp_3_9, xg_3_10, xp_3_10, xg_3_11, xp_3_11, xg_4_0, xp_4_0, xg_4_1, xp_4_1, xg_5_0, xp_5_0, xg_5_1, xp_5_1, xg_6_0, xp_6_0, xg_6_1, xp_6_1, xg_6_2, xp_6_2, xg_6_3, xp_6_3, xg_6_4, xp_6_4, xg_6_5, xp_6_5, fv0, fv1, fv2, fv3, kI_0, kI_1, stL, wipeL, entLn, entL, List.getElem?_cons_zero, List.getElem?_cons_succ, List.getElem?_nil, List.set_cons_zero, List.set_cons_succ, List.set_nil, List.length_cons, List.length_nil, List.cons_append, List.nil_append, List.replicate, Nat.reduceAdd, Nat.reduceLeDiff, Nat.reduceSub, true_and, and_true, x_callS, x_callSN, x_callI, x_callIN, x_callV0, x_callV1, x_callV2, x_callV3, x_callV4, x_callV5, x_callV6, x_callV7, callP, List.take_succ_cons, List.take_zero, List.take_nil, List.drop_succ_cons, List.drop_zero, List.drop_nil, List.getLast?_singleton, List.getLast?_cons_cons, Option.some.injEq, Value.ref.injEq, exists_eq_left, exists_eq_left', Nat.zero_le, Nat.add_zero, ldcV_f, ldcV_fn, ldcV_l, ldcV_d, Nat.reduceMul, Nat.le_refl, List.reverse_cons, List.reverse_nil, Option.toList, List.map_cons, List.map_nil, List.sum_cons, List.sum_nil, Value.category, tblW_n, tblW_c, Int.cast_ofNat_Int, Int.reduceAdd, Int.reduceToNat, ofI_n, rc_X4_init, rs_X4_init, P_X4_init]
  obtain ⟨h1, h2, h⟩ := h
  simp only [h1, h2, sK_stI, sR_stI, sK_stF, sR_stF, sK_stIA, sR_stIA, sK_stFA, sR_stFA, sI_stI, sI_stF, sI_stIA, sI_stFA, sF_stI, sF_stF, sF_stIA, sF_stFA, Nat.left_eq_add, Nat.add_eq_left, Nat.add_left_cancel_iff, Nat.reduceEqDiff, Nat.reduceEqDiff, Nat.succ_ne_self, false_and, and_false, if_false, if_true, nI_succ_sub, Option.some.injEq, Prod.mk.injEq, exists_eq_left', true_and, and_true, retI, retF, retV, retZ1, retZ0, retL, retA, retN, Nat.reduceAdd, Nat.reduceMul, Nat.reduceLT]
  refine ⟨by (simp [nf]), ⟨_, rfl⟩, by (simp [nf]), ?_, by (simp only [h2, sK_stN, sR_stN, sI_stN, sF_stN, sZ_stN, sK_stR, sZ_stR, sI_stR, sF_stR, sR_stR, sK_stI, sR_stI, sI_stI, sF_stI, sZ_stI, Nat.add_assoc, Nat.reduceAdd, Nat.left_eq_add, Nat.add_eq_left, Nat.add_left_cancel_iff, Nat.reduceEqDiff, Nat.succ_ne_self, if_true, if_false, false_and, and_false, true_and, and_true, Option.some.injEq, Prod.mk.injEq, exists_eq_left']), fun U hU hP hp => ?_⟩
  · simp only [h1, h2, sK_stN, sR_stN, sI_stN, sF_stN, sZ_stN, sK_stR, sZ_stR, sI_stR, sF_stR, sR_stR, sK_stI, sR_stI, sI_stI, sF_stI, sZ_stI, Nat.add_assoc, Nat.reduceAdd, Nat.left_eq_add, Nat.add_eq_left, Nat.add_left_cancel_iff, Nat.reduceEqDiff, Nat.succ_ne_self, if_true, if_false, false_and, and_false, true_and, and_true, Option.some.injEq, Prod.mk.injEq, exists_eq_left']
  have hz : sZ U = g + 3 := by
    rw [hU.1]
  have hU2 := hU.new h2
  have k1 : sK U g = some (3, 0) := by rw [(hU2.2 g (by omega)).1]; exact h1
  simp (disch := omega) only [nI_cl, nlt0]
  simp only [k1, h2, hz, sK_stN, sR_stN, sI_stN, sF_stN, sZ_stN, sK_stR, sZ_stR, sI_stR, sF_stR, sR_stR, sK_stI, sR_stI, sI_stI, sF_stI, sZ_stI, Nat.add_assoc, Nat.reduceAdd, Nat.left_eq_add, Nat.add_eq_left, Nat.add_left_cancel_iff, Nat.reduceEqDiff, Nat.succ_ne_self, if_true, if_false, false_and, and_false, true_and, and_true, Option.some.injEq, Prod.mk.injEq, exists_eq_left']
  simp only [not_false_eq_true, true_and, nf]
  obtain ⟨a1, a2, a3⟩ := X3_in (g := g) (hU2.mono (by omega)) k1 hP hp
  exact ⟨by omega, by omega, by omega, by omega, by omega, by omega, by omega, by omega, by omega, by omega, h _ a1 a2 a3, by omega⟩
set_option maxHeartbeats 1000000 in
theorem X5_in {S U : SS} {g : Nat} (hU : Gw S U g (g + 6)) (h1 : sK U g = some (5, 0)) (hP : GlassAt U (g + 1)) : Gw S (stR (stN (stR U g 0 (some (g + 1))) 9 120) g 1 (some (g + 6))) g (g + 7) ∧ TrialAt (stR (stN (stR U g 0 (some (g + 1))) 9 120) g 1 (some (g + 6))) g := by
  have hz := hU.1
  have hP0 := hP
  obtain ⟨g0, g1, g2, g3, g4, g5, g6, g7, g8⟩ := hP
  refine ⟨((hU.stR _ _ _ (by omega)).stN _ _ (by omega)).stR _ _ _ (by omega), ?_⟩
  unfold TrialAt GlassAt
  simp only [Nat.add_assoc, Nat.reduceAdd] at g1 g2 g3 g4 g5 g6 g7 g8
  simp only [h1, hz, g0, g1, g2, g3, g4, g5, g6, g7, g8, sK_stN, sR_stN, sI_stN, sF_stN, sZ_stN, sK_stR, sZ_stR, sI_stR, sF_stR, sR_stR, sK_stI, sR_stI, sI_stI, sF_stI, sZ_stI, Nat.add_assoc, Nat.reduceAdd, Nat.left_eq_add, Nat.add_eq_left, Nat.add_left_cancel_iff, Nat.reduceEqDiff, Nat.succ_ne_self, if_true, if_false, false_and, and_false, true_and, and_true, Option.some.injEq, Prod.mk.injEq, exists_eq_left']
def P_X5_init (as : List Value) (S : SS) (E : Option Value → SS → Prop) : Prop := match as with
  | [.ref g] => sK S g = some (5, 0) ∧ sZ S = g + 1 ∧ ∀ S', Gw S S' g (g + 7) → TrialAt S' g → E none S'
  | _ => False
def Γ_X5_init : List (MI × PT) := [(mi_X1_init, P_X1_init)]
theorem hΓ_X5_init (l : Launch) (G : Gx) : ∀ q ∈ Γ_X5_init, Ct l G q.1 q.2 := List.forall_mem_cons.mpr ⟨ct_X1_init l G, fun _ h => absurd h List.not_mem_nil⟩
set_option maxHeartbeats 1000000 in
theorem ct_X5_init (l : Launch) (G : Gx) : Ct l G mi_X5_init P_X5_init := by
  refine Ct.ofV mo_X5_init (fun as S E h => ?_)
  unfold P_X5_init at h
  split at h
  case h_2 => exact h.elim
  rename_i g
  refine ⟨by simp [entL, mL_X5_init], ?_⟩
  refine wpN_ok (Γ := Γ_X5_init) (hΓ_X5_init l G) so_X5_init 4 _ _ _ _ _ _ ?_
  simp only [mL_X5_init, mT_X5_init, rc_X5_init, rs_X5_init, Γ_X5_init, sg_X5_init_0, wn_X5_init_0, wp_c, ex_c, x_nop, x_goto, x_table, x_iinc, x_ldc, x_ldc2, x_iaload, x_faload, x_baload, x_caload, x_iastore, x_fastore, x_bastore, x_castore, x_aastore, x_alen, x_gets, x_new, x_newa, x_anew, x_invs, x_invi, x_invv, x_ret, x_iret, x_lret, x_fret, x_aret, x_lconst, x_fconst0, x_fconst1, x_fconst2, x_dconst0, x_dconst1, x_null, x_iadd, x_isub, x_imul, x_iand, x_ior, x_idiv, x_irem, x_ineg, x_ishl, x_ishr, x_land, x_ladd, x_lmul, x_lor, x_lushr, x_lshl, x_lcmp, x_i2l, x_l2i, x_i2c, x_i2f, x_f2d, x_d2i, x_d2l, x_fadd, x_fsub, x_fmul, x_fdiv, x_dadd, x_dsub, x_dmul, x_ddiv, x_fcmp, x_dcmp, x_dupI, x_dupR, x_dup2, x_popI, x_popR, ldP_I, ldP_L, ldP_F, ldP_D, ldP_R, ldP_N, x_iload, x_iload_n, x_lload, x_lload_n, x_fload, x_fload_n, x_dload, x_dload_n, x_aload, x_aload_n, x_istore, x_istore_n, x_lstore, x_lstore_n, x_fstore, x_fstore_n, x_dstore, x_dstore_n, x_astore, x_astore_n, x_astoreN, x_astore_nN, x_icmp_eq, x_icmp_ne, x_icmp_lt, x_icmp_ge, x_icmp_gt, x_icmp_le, x_if_eq, x_if_ne, x_if_lt, x_if_ge, x_if_gt, x_if_le, x_ifnull, x_ifnullR, x_ifnn, x_ifnnR, x_aaload2, x_cpI, x_cpF, x_oI, xk_bipush_120, xk_iconst_0, xk_bipush_m6, xk_iconst_1, xk_bipush_80, xk_iconst_4, xk_bipush_6, xk_iconst_2, xk_bipush_40, xk_iconst_3, xk_bipush_10, xk_iconst_5, xk_bipush_m2, xk_bipush_m4, xk_iconst_m1, xk_bipush_m5, xk_bipush_12, xk_bipush_100, xk_bipush_26, xk_bipush_48, xk_sipush_9999, xk_sipush_500, xk_bipush_7, xk_bipush_119, xk_bipush_m126, xk_bipush_127, xk_bipush_23, xk_sipush_m1022, xk_sipush_1023, xk_bipush_52, xg_0_0, xp_0_0, xg_0_1, xp_0_1, xg_0_2, xp_0_2, xg_0_3, xp_0_3, xg_0_4, xp_0_4, xg_0_5, xp_0_5, xg_0_6, xp_0_6, xg_0_7, xp_0_7, xg_0_8, xp_0_8, xg_1_0, xp_1_0, xg_1_1, xp_1_1, xg_1_2, xp_1_2, xg_1_3, xp_1_3, xg_2_0, xp_2_0, xg_2_1, xp_2_1, xg_2_2, xp_2_2, xg_3_0, xp_3_0, xg_3_1, xp_3_1, xg_3_2, xp_3_2, xg_3_3, xp_3_3, xg_3_4, xp_3_4, xg_3_5, xp_3_5, xg_3_6, xp_3_6, xg_3_7, xp_3_7, xg_3_8, xp_3_8, xg_3_9, xp_3_9, xg_3_10, xp_3_10, xg_3_11, xp_3_11, xg_4_0, xp_4_0, xg_4_1, xp_4_1, xg_5_0, xp_5_0, xg_5_1, xp_5_1, xg_6_0, xp_6_0, xg_6_1, xp_6_1, xg_6_2, xp_6_2, xg_6_3, xp_6_3, xg_6_4, xp_6_4, xg_6_5, xp_6_5, fv0, fv1, fv2, fv3, kI_0, kI_1, stL, wipeL, entLn, entL, List.getElem?_cons_zero, List.getElem?_cons_succ, List.getElem?_nil, List.set_cons_zero, List.set_cons_succ, List.set_nil, List.length_cons, List.length_nil, List.cons_append, List.nil_append, List.replicate, Nat.reduceAdd, Nat.reduceLeDiff, Nat.reduceSub, true_and, and_true, x_callS, x_callSN, x_callI, x_callIN, x_callV0, x_callV1, x_callV2, x_callV3, x_callV4, x_callV5, x_callV6, x_callV7, callP, List.take_succ_cons, List.take_zero, List.take_nil, List.drop_succ_cons, List.drop_zero, List.drop_nil, List.getLast?_singleton, List.getLast?_cons_cons, Option.some.injEq, Value.ref.injEq, exists_eq_left, exists_eq_left', Nat.zero_le, Nat.add_zero, ldcV_f, ldcV_fn, ldcV_l, ldcV_d, Nat.reduceMul, Nat.le_refl, List.reverse_cons, List.reverse_nil, Option.toList, List.map_cons, List.map_nil, List.sum_cons, List.sum_nil, Value.category, tblW_n, tblW_c, Int.cast_ofNat_Int, Int.reduceAdd, Int.reduceToNat, ofI_n, rc_X1_init, rs_X1_init, P_X1_init]
  obtain ⟨h1, h2, h⟩ := h
  simp only [h1, h2, sK_stI, sR_stI, sK_stF, sR_stF, sK_stIA, sR_stIA, sK_stFA, sR_stFA, sI_stI, sI_stF, sI_stIA, sI_stFA, sF_stI, sF_stF, sF_stIA, sF_stFA, Nat.left_eq_add, Nat.add_eq_left, Nat.add_left_cancel_iff, Nat.reduceEqDiff, Nat.reduceEqDiff, Nat.succ_ne_self, false_and, and_false, if_false, if_true, nI_succ_sub, Option.some.injEq, Prod.mk.injEq, exists_eq_left', true_and, and_true, retI, retF, retV, retZ1, retZ0, retL, retA, retN, Nat.reduceAdd, Nat.reduceMul, Nat.reduceLT]
  refine ⟨by (simp [nf]), ⟨_, rfl⟩, by (simp [nf]), ?_, by (simp only [h2, sK_stN, sR_stN, sI_stN, sF_stN, sZ_stN, sK_stR, sZ_stR, sI_stR, sF_stR, sR_stR, sK_stI, sR_stI, sI_stI, sF_stI, sZ_stI, Nat.add_assoc, Nat.reduceAdd, Nat.left_eq_add, Nat.add_eq_left, Nat.add_left_cancel_iff, Nat.reduceEqDiff, Nat.succ_ne_self, if_true, if_false, false_and, and_false, true_and, and_true, Option.some.injEq, Prod.mk.injEq, exists_eq_left']), fun U hU hP => ?_⟩
  · simp only [h1, h2, sK_stN, sR_stN, sI_stN, sF_stN, sZ_stN, sK_stR, sZ_stR, sI_stR, sF_stR, sR_stR, sK_stI, sR_stI, sI_stI, sF_stI, sZ_stI, Nat.add_assoc, Nat.reduceAdd, Nat.left_eq_add, Nat.add_eq_left, Nat.add_left_cancel_iff, Nat.reduceEqDiff, Nat.succ_ne_self, if_true, if_false, false_and, and_false, true_and, and_true, Option.some.injEq, Prod.mk.injEq, exists_eq_left']
  have hz : sZ U = g + 6 := by
    rw [hU.1]
  have hU2 := hU.new h2
  have k1 : sK U g = some (5, 0) := by rw [(hU2.2 g (by omega)).1]; exact h1
  simp (disch := omega) only [nI_cl, nlt0]
  simp only [k1, h2, hz, sK_stN, sR_stN, sI_stN, sF_stN, sZ_stN, sK_stR, sZ_stR, sI_stR, sF_stR, sR_stR, sK_stI, sR_stI, sI_stI, sF_stI, sZ_stI, Nat.add_assoc, Nat.reduceAdd, Nat.left_eq_add, Nat.add_eq_left, Nat.add_left_cancel_iff, Nat.reduceEqDiff, Nat.succ_ne_self, if_true, if_false, false_and, and_false, true_and, and_true, Option.some.injEq, Prod.mk.injEq, exists_eq_left']
  simp only [not_false_eq_true, true_and, nf]
  obtain ⟨a1, a2⟩ := X5_in (hU2.mono (by omega)) k1 hP
  exact ⟨by omega, by omega, h _ a1 a2, by omega⟩

def HistB (S : SS) (h : Nat) : Prop := sK S h = some (2, 0) ∧ sR S h 0 = some (h + 1) ∧ sK S (h + 1) = some (12, 7) ∧ sI S h 1 = nI 0 ∧ sI S h 2 = nI 0
theorem Gw.histB {S T : SS} {b e d : Nat} (h : Gw S T b e) (k : HistB S d) (hb : d + 2 ≤ b) : HistB T d := by
  unfold HistB at k ⊢
  rw [(h.2 d (by omega)).1, (h.2 d (by omega)).2.1, (h.2 (d + 1) (by omega)).1, (h.2 d (by omega)).2.2.1]
  exact k
theorem DeskAt.mkR {S : SS} {g a k : Nat} {v : Option Nat} (h : DeskAt S g) (ha : a < g ∨ g + 26 ≤ a) : DeskAt (stR S a k v) g := by
  have hg := h.2.2.2.2.2.2.2.2.2.2.2
  refine DeskB.at ?_ fun i hi => ⟨?_, (hg i hi).2.mkR (by omega)⟩
  · have hb := h.b
    unfold DeskB at hb ⊢
    simp only [sK_stR, sR_stR, show ∀ j, ¬ (g = a ∧ j = k) from fun j q => by omega, if_false]
    exact hb
  · rw [sR_stR, if_neg (by omega)]
    exact (hg i hi).1
def P_X2_init (as : List Value) (S : SS) (E : Option Value → SS → Prop) : Prop := match as with
  | [.ref h] => sK S h = some (2, 0) ∧ sZ S = h + 1 ∧ ∀ S', Gw S S' h (h + 184) → HistAt S' h → HistB S' h → E none S'
  | _ => False
def Γ_X2_init : List (MI × PT) := [(mi_X0_init, P_X0_init)]
theorem hΓ_X2_init (l : Launch) (G : Gx) : ∀ q ∈ Γ_X2_init, Ct l G q.1 q.2 := List.forall_mem_cons.mpr ⟨ct_X0_init l G, fun _ h => absurd h List.not_mem_nil⟩
def hIn (S T : SS) (h k : Nat) : Prop := Gw S T h (h + 2 + 26 * k) ∧ HistB T h ∧ ∀ i, i < k → sR T (h + 1) i = some (h + 2 + 26 * i) ∧ DeskAt T (h + 2 + 26 * i)
theorem hIn0 {S : SS} {h : Nat} (h1 : sK S h = some (2, 0)) (h2 : sZ S = h + 1) : hIn S (stI (stI (stR (stN S 12 7) h 0 (some (h + 1))) h 1 (nI 0)) h 2 (nI 0)) h 0 := by
  have e : Gw S S h (h + 1) := ⟨h2, fun _ _ => ⟨rfl, rfl, rfl, rfl⟩⟩
  refine ⟨(((e.stN _ _ (by omega)).stR _ _ _ (by omega)).stI _ _ _ (by omega)).stI _ _ _ (by omega), ?_, fun i hi => absurd hi (by omega)⟩
  unfold HistB
  simp only [h1, h2, sK_stN, sR_stN, sI_stN, sF_stN, sZ_stN, sK_stR, sZ_stR, sI_stR, sF_stR, sR_stR, sK_stI, sR_stI, sI_stI, sF_stI, sZ_stI, Nat.add_assoc, Nat.reduceAdd, Nat.left_eq_add, Nat.add_eq_left, Nat.add_left_cancel_iff, Nat.reduceEqDiff, Nat.succ_ne_self, if_true, if_false, false_and, and_false, true_and, and_true, Option.some.injEq, Prod.mk.injEq, exists_eq_left']
theorem hIn_s {S T U : SS} {h k : Nat} (hT : hIn S T h k) (hU : Gw T U (h + 2 + 26 * k) (h + 2 + 26 * k + 26)) (hd : DeskAt U (h + 2 + 26 * k)) : hIn S (stR U (h + 1) k (some (h + 2 + 26 * k))) h (k + 1) := by
  obtain ⟨hW, hB, hg⟩ := hT
  refine ⟨(hW.trans hU (by omega)).stR _ _ _ (by omega), ?_, fun i hi => ?_⟩
  · have hB2 := hU.histB hB (by omega)
    unfold HistB at hB2 ⊢
    simp only [sK_stR, sR_stR, sI_stR, sK_stN, sR_stN, sI_stN, sF_stN, sZ_stN, sK_stR, sZ_stR, sI_stR, sF_stR, sR_stR, sK_stI, sR_stI, sI_stI, sF_stI, sZ_stI, Nat.add_assoc, Nat.reduceAdd, Nat.left_eq_add, Nat.add_eq_left, Nat.add_left_cancel_iff, Nat.reduceEqDiff, Nat.succ_ne_self, if_true, if_false, false_and, and_false, true_and, and_true, Option.some.injEq, Prod.mk.injEq, exists_eq_left']
    exact hB2
  · rw [sR_stR]
    by_cases c3 : i = k
    · subst c3
      rw [if_pos ⟨rfl, rfl⟩]
      exact ⟨rfl, hd.mkR (by omega)⟩
    · rw [if_neg (fun a => c3 a.2), (hU.2 (h + 1) (by omega)).2.1]
      exact ⟨(hg i (by omega)).1, (hU.desk (hg i (by omega)).2 (by omega)).mkR (by omega)⟩
set_option maxHeartbeats 1000000 in
theorem lp_X2_init (l : Launch) (G : Gx) {S : SS} {h0 : Nat} {E : Option Value → SS → Prop} (h : ∀ S', Gw S S' h0 (h0 + 184) → HistAt S' h0 → HistB S' h0 → E none S') :
    ∀ k, k ≤ 7 → ∀ T, hIn S T h0 k → ∀ cs sl, cs = 1 + 26 * k → sl = 7 + 1968 * k → V l G mi_X2_init E 25 [some (.ref h0), some (.int (nI k))] [] T cs sl := by
  refine loopUp 7 fun k hk ih T hT cs sl hcs hsl => ?_
  subst hcs hsl
  refine (V.segN (Γ := Γ_X2_init) (hΓ_X2_init l G) so_X2_init 4 (sg := sg_X2_init_25) so_X2_init_25 ?_ : V l G mi_X2_init _ (segPc sg_X2_init_25) _ _ _ _ _)
  simp only [mL_X2_init, mT_X2_init, rc_X2_init, rs_X2_init, Γ_X2_init, sg_X2_init_0, sg_X2_init_25, sg_X2_init_50, wn_X2_init_0, wn_X2_init_25, wn_X2_init_50, wp_c, ex_c, x_nop, x_goto, x_table, x_iinc, x_ldc, x_ldc2, x_iaload, x_faload, x_baload, x_caload, x_iastore, x_fastore, x_bastore, x_castore, x_aastore, x_alen, x_gets, x_new, x_newa, x_anew, x_invs, x_invi, x_invv, x_ret, x_iret, x_lret, x_fret, x_aret, x_lconst, x_fconst0, x_fconst1, x_fconst2, x_dconst0, x_dconst1, x_null, x_iadd, x_isub, x_imul, x_iand, x_ior, x_idiv, x_irem, x_ineg, x_ishl, x_ishr, x_land, x_ladd, x_lmul, x_lor, x_lushr, x_lshl, x_lcmp, x_i2l, x_l2i, x_i2c, x_i2f, x_f2d, x_d2i, x_d2l, x_fadd, x_fsub, x_fmul, x_fdiv, x_dadd, x_dsub, x_dmul, x_ddiv, x_fcmp, x_dcmp, x_dupI, x_dupR, x_dup2, x_popI, x_popR, ldP_I, ldP_L, ldP_F, ldP_D, ldP_R, ldP_N, x_iload, x_iload_n, x_lload, x_lload_n, x_fload, x_fload_n, x_dload, x_dload_n, x_aload, x_aload_n, x_istore, x_istore_n, x_lstore, x_lstore_n, x_fstore, x_fstore_n, x_dstore, x_dstore_n, x_astore, x_astore_n, x_astoreN, x_astore_nN, x_icmp_eq, x_icmp_ne, x_icmp_lt, x_icmp_ge, x_icmp_gt, x_icmp_le, x_if_eq, x_if_ne, x_if_lt, x_if_ge, x_if_gt, x_if_le, x_ifnull, x_ifnullR, x_ifnn, x_ifnnR, x_aaload2, x_cpI, x_cpF, x_oI, xk_bipush_120, xk_iconst_0, xk_bipush_m6, xk_iconst_1, xk_bipush_80, xk_iconst_4, xk_bipush_6, xk_iconst_2, xk_bipush_40, xk_iconst_3, xk_bipush_10, xk_iconst_5, xk_bipush_m2, xk_bipush_m4, xk_iconst_m1, xk_bipush_m5, xk_bipush_12, xk_bipush_100, xk_bipush_26, xk_bipush_48, xk_sipush_9999, xk_sipush_500, xk_bipush_7, xk_bipush_119, xk_bipush_m126, xk_bipush_127, xk_bipush_23, xk_sipush_m1022, xk_sipush_1023, xk_bipush_52, xg_0_0, xp_0_0, xg_0_1, xp_0_1, xg_0_2, xp_0_2, xg_0_3, xp_0_3, xg_0_4, xp_0_4, xg_0_5, xp_0_5, xg_0_6, xp_0_6, xg_0_7, xp_0_7, xg_0_8, xp_0_8, xg_1_0, xp_1_0, xg_1_1, xp_1_1, xg_1_2, xp_1_2, xg_1_3, xp_1_3, xg_2_0, xp_2_0, xg_2_1, xp_2_1, xg_2_2, xp_2_2, xg_3_0, xp_3_0, xg_3_1, xp_3_1, xg_3_2, xp_3_2, xg_3_3, xp_3_3, xg_3_4, xp_3_4, xg_3_5, xp_3_5, xg_3_6, xp_3_6, xg_3_7, xp_3_7, xg_3_8, xp_3_8, xg_3_9, xp_3_9, xg_3_10, xp_3_10, xg_3_11, xp_3_11, xg_4_0, xp_4_0, xg_4_1, xp_4_1, xg_5_0, xp_5_0, xg_5_1, xp_5_1, xg_6_0, xp_6_0, xg_6_1, xp_6_1, xg_6_2, xp_6_2, xg_6_3, xp_6_3, xg_6_4, xp_6_4, xg_6_5, xp_6_5, fv0, fv1, fv2, fv3, kI_0, kI_1, stL, wipeL, entLn, entL, List.getElem?_cons_zero, List.getElem?_cons_succ, List.getElem?_nil, List.set_cons_zero, List.set_cons_succ, List.set_nil, List.length_cons, List.length_nil, List.cons_append, List.nil_append, List.replicate, Nat.reduceAdd, Nat.reduceLeDiff, Nat.reduceSub, true_and, and_true, x_callS, x_callSN, x_callI, x_callIN, x_callV0, x_callV1, x_callV2, x_callV3, x_callV4, x_callV5, x_callV6, x_callV7, callP, List.take_succ_cons, List.take_zero, List.take_nil, List.drop_succ_cons, List.drop_zero, List.drop_nil, List.getLast?_singleton, List.getLast?_cons_cons, Option.some.injEq, Value.ref.injEq, exists_eq_left, exists_eq_left', Nat.zero_le, Nat.add_zero, ldcV_f, ldcV_fn, ldcV_l, ldcV_d, Nat.reduceMul, Nat.le_refl, List.reverse_cons, List.reverse_nil, Option.toList, List.map_cons, List.map_nil, List.sum_cons, List.sum_nil, Value.category, tblW_n, tblW_c, Int.cast_ofNat_Int, Int.reduceAdd, Int.reduceToNat, ofI_n, rc_X0_init, rs_X0_init, P_X0_init]
  have hT0 := hT
  obtain ⟨hW, hB, hg⟩ := hT
  have hz := hW.1
  simp (disch := omega) only [nlt0, nge0, neq0, ngt0, nle0, nI_ltI, nI_leI, nI_eq, nI_cl, in_nI, false_implies, true_implies, not_false_eq_true, not_true_eq_false, and_true, true_and, nI_add, pk_mul, implies_true, not_lt0]
  refine ⟨fun c => ?_, fun c2' => have c2 : k < 7 := by omega
    ⟨hB.1, _, hB.2.1, by omega, by (simp only [nf]; omega), ⟨_, rfl⟩, by omega, by (simp only [nf]; omega), by rw [sK_stN, if_pos rfl], rfl, fun U hU hd _ _ => ?_⟩⟩
  · have e : k = 7 := by omega
    subst e
    exact ⟨by simp [retOK], h _ hW ⟨hB.1, hB.2.1, hB.2.2.1, hg⟩ hB, by omega, by omega⟩
  · have hU2 := hU.new rfl
    rw [hz] at hU2 hd ⊢
    have hB2 := hU2.histB hB (by omega)
    exact ⟨_, hB2.2.2.1, hd.1, vp_in_nI c2 (by omega), ih c2 _ (hIn_s hT0 hU2 hd) _ _ (by omega) (by simp only [nf]; omega)⟩
set_option maxHeartbeats 1000000 in
theorem ct_X2_init (l : Launch) (G : Gx) : Ct l G mi_X2_init P_X2_init := by
  refine Ct.ofV mo_X2_init (fun as S E h => ?_)
  unfold P_X2_init at h
  split at h
  case h_2 => exact h.elim
  rename_i h0
  refine ⟨by simp [entL, mL_X2_init], ?_⟩
  refine wpN_ok (Γ := Γ_X2_init) (hΓ_X2_init l G) so_X2_init 4 _ _ _ _ _ _ ?_
  simp only [mL_X2_init, mT_X2_init, rc_X2_init, rs_X2_init, Γ_X2_init, sg_X2_init_0, sg_X2_init_25, sg_X2_init_50, wn_X2_init_0, wn_X2_init_25, wn_X2_init_50, wp_c, ex_c, x_nop, x_goto, x_table, x_iinc, x_ldc, x_ldc2, x_iaload, x_faload, x_baload, x_caload, x_iastore, x_fastore, x_bastore, x_castore, x_aastore, x_alen, x_gets, x_new, x_newa, x_anew, x_invs, x_invi, x_invv, x_ret, x_iret, x_lret, x_fret, x_aret, x_lconst, x_fconst0, x_fconst1, x_fconst2, x_dconst0, x_dconst1, x_null, x_iadd, x_isub, x_imul, x_iand, x_ior, x_idiv, x_irem, x_ineg, x_ishl, x_ishr, x_land, x_ladd, x_lmul, x_lor, x_lushr, x_lshl, x_lcmp, x_i2l, x_l2i, x_i2c, x_i2f, x_f2d, x_d2i, x_d2l, x_fadd, x_fsub, x_fmul, x_fdiv, x_dadd, x_dsub, x_dmul, x_ddiv, x_fcmp, x_dcmp, x_dupI, x_dupR, x_dup2, x_popI, x_popR, ldP_I, ldP_L, ldP_F, ldP_D, ldP_R, ldP_N, x_iload, x_iload_n, x_lload, x_lload_n, x_fload, x_fload_n, x_dload, x_dload_n, x_aload, x_aload_n, x_istore, x_istore_n, x_lstore, x_lstore_n, x_fstore, x_fstore_n, x_dstore, x_dstore_n, x_astore, x_astore_n, x_astoreN, x_astore_nN, x_icmp_eq, x_icmp_ne, x_icmp_lt, x_icmp_ge, x_icmp_gt, x_icmp_le, x_if_eq, x_if_ne, x_if_lt, x_if_ge, x_if_gt, x_if_le, x_ifnull, x_ifnullR, x_ifnn, x_ifnnR, x_aaload2, x_cpI, x_cpF, x_oI, xk_bipush_120, xk_iconst_0, xk_bipush_m6, xk_iconst_1, xk_bipush_80, xk_iconst_4, xk_bipush_6, xk_iconst_2, xk_bipush_40, xk_iconst_3, xk_bipush_10, xk_iconst_5, xk_bipush_m2, xk_bipush_m4, xk_iconst_m1, xk_bipush_m5, xk_bipush_12, xk_bipush_100, xk_bipush_26, xk_bipush_48, xk_sipush_9999, xk_sipush_500, xk_bipush_7, xk_bipush_119, xk_bipush_m126, xk_bipush_127, xk_bipush_23, xk_sipush_m1022, xk_sipush_1023, xk_bipush_52, xg_0_0, xp_0_0, xg_0_1, xp_0_1, xg_0_2, xp_0_2, xg_0_3, xp_0_3, xg_0_4, xp_0_4, xg_0_5, xp_0_5, xg_0_6, xp_0_6, xg_0_7, xp_0_7, xg_0_8, xp_0_8, xg_1_0, xp_1_0, xg_1_1, xp_1_1, xg_1_2, xp_1_2, xg_1_3, xp_1_3, xg_2_0, xp_2_0, xg_2_1, xp_2_1, xg_2_2, xp_2_2, xg_3_0, xp_3_0, xg_3_1, xp_3_1, xg_3_2, xp_3_2, xg_3_3, xp_3_3, xg_3_4, xp_3_4, xg_3_5, xp_3_5, xg_3_6, xp_3_6, xg_3_7, xp_3_7, xg_3_8, xp_3_8, xg_3_9, xp_3_9, xg_3_10, xp_3_10, xg_3_11, xp_3_11, xg_4_0, xp_4_0, xg_4_1, xp_4_1, xg_5_0, xp_5_0, xg_5_1, xp_5_1, xg_6_0, xp_6_0, xg_6_1, xp_6_1, xg_6_2, xp_6_2, xg_6_3, xp_6_3, xg_6_4, xp_6_4, xg_6_5, xp_6_5, fv0, fv1, fv2, fv3, kI_0, kI_1, stL, wipeL, entLn, entL, List.getElem?_cons_zero, List.getElem?_cons_succ, List.getElem?_nil, List.set_cons_zero, List.set_cons_succ, List.set_nil, List.length_cons, List.length_nil, List.cons_append, List.nil_append, List.replicate, Nat.reduceAdd, Nat.reduceLeDiff, Nat.reduceSub, true_and, and_true, x_callS, x_callSN, x_callI, x_callIN, x_callV0, x_callV1, x_callV2, x_callV3, x_callV4, x_callV5, x_callV6, x_callV7, callP, List.take_succ_cons, List.take_zero, List.take_nil, List.drop_succ_cons, List.drop_zero, List.drop_nil, List.getLast?_singleton, List.getLast?_cons_cons, Option.some.injEq, Value.ref.injEq, exists_eq_left, exists_eq_left', Nat.zero_le, Nat.add_zero, ldcV_f, ldcV_fn, ldcV_l, ldcV_d, Nat.reduceMul, Nat.le_refl, List.reverse_cons, List.reverse_nil, Option.toList, List.map_cons, List.map_nil, List.sum_cons, List.sum_nil, Value.category, tblW_n, tblW_c, Int.cast_ofNat_Int, Int.reduceAdd, Int.reduceToNat, ofI_n, rc_X0_init, rs_X0_init, P_X0_init]
  obtain ⟨h1, h2, h⟩ := h
  simp only [h1, h2, sK_stI, sR_stI, sK_stF, sR_stF, sK_stIA, sR_stIA, sK_stFA, sR_stFA, sI_stI, sI_stF, sI_stIA, sI_stFA, sF_stI, sF_stF, sF_stIA, sF_stFA, Nat.left_eq_add, Nat.add_eq_left, Nat.add_left_cancel_iff, Nat.reduceEqDiff, Nat.reduceEqDiff, Nat.succ_ne_self, false_and, and_false, if_false, if_true, nI_succ_sub, Option.some.injEq, Prod.mk.injEq, exists_eq_left', true_and, and_true, retI, retF, retV, retZ1, retZ0, retL, retA, retN, Nat.reduceAdd, Nat.reduceMul, Nat.reduceLT]
  simp only [h1, h2, sK_stN, sR_stN, sI_stN, sF_stN, sZ_stN, sK_stR, sZ_stR, sI_stR, sF_stR, sR_stR, sK_stI, sR_stI, sI_stI, sF_stI, sZ_stI, Nat.add_assoc, Nat.reduceAdd, Nat.left_eq_add, Nat.add_eq_left, Nat.add_left_cancel_iff, Nat.reduceEqDiff, Nat.succ_ne_self, if_true, if_false, false_and, and_false, true_and, and_true, Option.some.injEq, Prod.mk.injEq, exists_eq_left']
  simp (disch := omega) only [nlt0, nge0, neq0, ngt0, nle0, nI_ltI, nI_leI, nI_eq, nI_cl, in_nI, false_implies, true_implies, not_false_eq_true, not_true_eq_false, and_true, true_and, nI_add, pk_mul, implies_true, not_lt0]
  exact ⟨by omega, by omega, lp_X2_init l G h 0 (by omega) _ (hIn0 h1 h2) _ _ (by omega) (by omega)⟩

/-- from a state to a later one: the cells behind x are as they were; at x one reference is laid -/
def Ext (T U : SS) (x k v : Nat) : Prop := (∀ a, x < a → a < sZ T → sK U a = sK T a ∧ sR U a = sR T a ∧ sI U a = sI T a) ∧ sK U x = sK T x ∧ (∀ j, sR U x j = if j = k then some v else sR T x j) ∧ sZ T ≤ sZ U
def KR (T U : SS) (lo hi : Nat) : Prop := ∀ a, lo ≤ a → a < hi → sK U a = sK T a ∧ sR U a = sR T a ∧ sI U a = sI T a
theorem Ext.kr {T U : SS} {x k v lo hi : Nat} (h : Ext T U x k v) (h1 : x < lo) (h2 : hi ≤ sZ T) : KR T U lo hi := fun a ha hb => h.1 a (by omega) (by omega)
theorem KR.sub {T U : SS} {lo hi lo' hi' : Nat} (h : KR T U lo hi) (h1 : lo ≤ lo') (h2 : hi' ≤ hi) : KR T U lo' hi' := fun a ha hb => h a (by omega) (by omega)
theorem GlassAt.kr {S T : SS} {g : Nat} (k : GlassAt S g) (h : KR S T g (g + 5)) : GlassAt T g := by
  unfold GlassAt at k ⊢
  rw [(h g (by omega) (by omega)).1, (h g (by omega) (by omega)).2.1, (h (g + 1) (by omega) (by omega)).1, (h (g + 2) (by omega) (by omega)).1, (h (g + 3) (by omega) (by omega)).1, (h (g + 4) (by omega) (by omega)).1]
  exact k
theorem DeskAt.kr {S T : SS} {d : Nat} (k : DeskAt S d) (h : KR S T d (d + 26)) : DeskAt T d := by
  refine DeskB.at ?_ fun i hi => ?_
  · have k := k.b
    unfold DeskB at k ⊢
    rw [(h d (by omega) (by omega)).1, (h d (by omega) (by omega)).2.1, (h (d + 1) (by omega) (by omega)).1, (h (d + 2) (by omega) (by omega)).1, (h (d + 3) (by omega) (by omega)).1, (h (d + 4) (by omega) (by omega)).1, (h (d + 5) (by omega) (by omega)).1]
    exact k
  · have k := k.2.2.2.2.2.2.2.2.2.2.2 i hi
    rw [(h (d + 5) (by omega) (by omega)).2.1]
    exact ⟨k.1, k.2.kr (h.sub (by omega) (by omega))⟩
theorem dN.kr {S T : SS} {d : Nat} (k : dN S d) (h : KR S T d (d + 26)) : dN T d := by
  unfold dN DV0 dV at k ⊢
  dsimp only [GV.l, GV.t, GV.w, GV.p, DV.st, DV.pr, DV.wr, DV.sp, DV.hr, DV.pl, DV.dk, DV.pp, DV.g, sf_l, sf_t, sf_w, sf_p, sf_st, sf_pr, sf_wr, sf_sp, sf_hr, sf_pl, sf_dk, sf_pp, sf_g] at k ⊢
  rw [(h d (by omega) (by omega)).2.2, (h (d + 1) (by omega) (by omega)).2.2, (h (d + 2) (by omega) (by omega)).2.2, (h (d + 3) (by omega) (by omega)).2.2, (h (d + 4) (by omega) (by omega)).2.2]
  exact k
theorem HistAt.kr {S T : SS} {d : Nat} (k : HistAt S d) (h : KR S T d (d + 184)) : HistAt T d := by
  obtain ⟨k1, k2, k3, k4⟩ := k
  refine ⟨by rw [(h d (by omega) (by omega)).1]; exact k1, by rw [(h d (by omega) (by omega)).2.1]; exact k2, by rw [(h (d + 1) (by omega) (by omega)).1]; exact k3, fun i hi => ⟨by rw [(h (d + 1) (by omega) (by omega)).2.1]; exact (k4 i hi).1, (k4 i hi).2.kr (h.sub (by omega) (by omega))⟩⟩
theorem OrdAt.kr {S T : SS} {d : Nat} (k : OrdAt S d) (h : KR S T d (d + 8)) : OrdAt T d := by
  unfold OrdAt at k ⊢
  rw [(h d (by omega) (by omega)).1, (h d (by omega) (by omega)).2.1, (h (d + 1) (by omega) (by omega)).1, (h (d + 1) (by omega) (by omega)).2.1, (h (d + 2) (by omega) (by omega)).1, (h (d + 3) (by omega) (by omega)).1, (h (d + 4) (by omega) (by omega)).1, (h (d + 5) (by omega) (by omega)).1, (h (d + 6) (by omega) (by omega)).1, (h (d + 7) (by omega) (by omega)).1]
  exact k
theorem TrialAt.kr {S T : SS} {d : Nat} (k : TrialAt S d) (h : KR S T d (d + 7)) : TrialAt T d := by
  obtain ⟨k1, k2, k3, k4, k5⟩ := k
  refine ⟨by rw [(h d (by omega) (by omega)).1]; exact k1, by rw [(h d (by omega) (by omega)).2.1]; exact k2, by rw [(h d (by omega) (by omega)).2.1]; exact k3, k4.kr (h.sub (by omega) (by omega)), by rw [(h (d + 6) (by omega) (by omega)).1]; exact k5⟩
theorem HistAt.mkR {S : SS} {g a k : Nat} {v : Option Nat} (h : HistAt S g) (ha : a < g ∨ g + 184 ≤ a) : HistAt (stR S a k v) g := by
  obtain ⟨h1, h2, h3, h4⟩ := h
  refine ⟨h1, ?_, h3, fun i hi => ⟨?_, (h4 i hi).2.mkR (by omega)⟩⟩
  · rw [sR_stR, if_neg (by omega)]
    exact h2
  · rw [sR_stR, if_neg (by omega)]
    exact (h4 i hi).1
theorem HistB.mkR {S : SS} {g a k : Nat} {v : Option Nat} (h : HistB S g) (ha : a < g ∨ g + 184 ≤ a) : HistB (stR S a k v) g := by
  obtain ⟨h1, h2, h3, h4⟩ := h
  refine ⟨h1, ?_, h3, h4⟩
  rw [sR_stR, if_neg (by omega)]
  exact h2
theorem OrdAt.mkR {S : SS} {g a k : Nat} {v : Option Nat} (h : OrdAt S g) (ha : a < g ∨ g + 8 ≤ a) : OrdAt (stR S a k v) g := by
  have e : ∀ i j, i < 8 → sR (stR S a k v) (g + i) j = sR S (g + i) j := fun i j hi => by rw [sR_stR, if_neg (by omega)]
  have e0 : ∀ j, sR (stR S a k v) g j = sR S g j := fun j => by rw [sR_stR, if_neg (by omega)]
  unfold OrdAt at h ⊢
  rw [e0, e0, e0, e0, e0, e0, e 1 0 (by omega)]
  exact h
theorem TrialAt.mkR {S : SS} {g a k : Nat} {v : Option Nat} (h : TrialAt S g) (ha : a < g ∨ g + 7 ≤ a) : TrialAt (stR S a k v) g := by
  have e0 : ∀ j, sR (stR S a k v) g j = sR S g j := fun j => by rw [sR_stR, if_neg (by omega)]
  obtain ⟨h1, h2, h3, h4, h5⟩ := h
  refine ⟨h1, ?_, ?_, h4.mkR (by omega), h5⟩
  · rw [e0]; exact h2
  · rw [e0]; exact h3
theorem HistB.kr {S T : SS} {d : Nat} (k : HistB S d) (h : KR S T d (d + 184)) : HistB T d := by
  unfold HistB at k ⊢
  rw [(h d (by omega) (by omega)).1, (h d (by omega) (by omega)).2.1, (h (d + 1) (by omega) (by omega)).1, (h d (by omega) (by omega)).2.2]
  exact k
theorem Ext.mk {T U : SS} {x k v g e kd n : Nat} (hU : Gw (stN T kd n) U g e) (hz : sZ T = g) (hx : x < g) (he : g ≤ e) : Ext T (stR U x k (some v)) x k v := by
  have h := hU.new hz
  refine ⟨fun a h1 h2 => ?_, ?_, fun j => ?_, ?_⟩
  · obtain ⟨b1, b2, b3, -⟩ := h.2 a (by omega)
    refine ⟨b1, ?_, b3⟩
    rw [← b2]
    funext j
    rw [sR_stR, if_neg (by omega)]
  · exact (h.2 x hx).1
  · rw [sR_stR, (h.2 x hx).2.1]
    by_cases c : j = k
    · rw [if_pos ⟨rfl, c⟩, if_pos c]
    · rw [if_neg (fun a => c a.2), if_neg c]
  · rw [sZ_stR, h.1, hz]
    exact he
theorem Ext.row {T : SS} {x k g kd n : Nat} (hz : sZ T = g) (hx : x < g) : Ext T (stR (stN T kd n) x k (some g)) x k g := by
  refine Ext.mk (U := stN T kd n) (g := g) (e := g + 1) (kd := kd) (n := n) ⟨by rw [sZ_stN, hz], fun a ha => ⟨rfl, rfl, rfl, rfl⟩⟩ hz hx (by omega)
/-- a new object of the class -/
def New6 (S : SS) (x : Nat) : Prop := OwnAt S x ∧ dN S (x + 1) ∧ sI S (x + 27) 1 = nI 0 ∧ sI S (x + 27) 2 = nI 0 ∧ sI S (x + 214) 1 = nI 0 ∧ sI S (x + 212) 0 = nI 0 ∧ sI S (x + 212) 1 = nI 0
def P_X6_init (as : List Value) (S : SS) (E : Option Value → SS → Prop) : Prop := match as with
  | [.ref x] => sK S x = some (6, 0) ∧ sZ S = x + 1 ∧ ∀ S', Gw S S' x (x + 280) → New6 S' x → E none S'
  | _ => False
def Γ_X6_init : List (MI × PT) := [(mi_X0_init, P_X0_init), (mi_X2_init, P_X2_init), (mi_X3_init, P_X3_init), (mi_X5_init, P_X5_init)]
theorem hΓ_X6_init (l : Launch) (G : Gx) : ∀ q ∈ Γ_X6_init, Ct l G q.1 q.2 := List.forall_mem_cons.mpr ⟨ct_X0_init l G, List.forall_mem_cons.mpr ⟨ct_X2_init l G, List.forall_mem_cons.mpr ⟨ct_X3_init l G, List.forall_mem_cons.mpr ⟨ct_X5_init l G, fun _ h => absurd h List.not_mem_nil⟩⟩⟩⟩
theorem KR.trans {S T U : SS} {lo hi : Nat} (h : KR S T lo hi) (k : KR T U lo hi) : KR S U lo hi := fun a ha hb => ⟨(k a ha hb).1.trans (h a ha hb).1, (k a ha hb).2.1.trans (h a ha hb).2.1, (k a ha hb).2.2.trans (h a ha hb).2.2⟩
def Base6 (S : SS) (x : Nat) : Prop := sK S x = some (6, 0) ∧ sR S x 0 = some (x + 1) ∧ sR S x 1 = some (x + 27) ∧ sR S x 2 = some (x + 211) ∧ sR S x 3 = some (x + 212) ∧ sR S x 4 = some (x + 213) ∧ sR S x 5 = some (x + 221) ∧
  sK S (x + 211) = some (12, 2) ∧ sK S (x + 212) = some (10, 2) ∧ DeskAt S (x + 1) ∧ HistAt S (x + 27) ∧ OrdAt S (x + 213) ∧ TrialAt S (x + 221) ∧ dN S (x + 1) ∧ HistB S (x + 27) ∧ sI S (x + 214) 1 = nI 0 ∧ sI S (x + 212) 0 = nI 0 ∧ sI S (x + 212) 1 = nI 0
theorem Base6.go {T U : SS} {x k g e : Nat} {v : Option Nat} (h : Base6 T x) (hU : Gw T U g e) (hg : x + 228 ≤ g) : Base6 (stR U (x + 211) k v) x := by
  obtain ⟨k1, k2, k3, k4, k5, k6, k7, k8, k9, k10, k11, k12, k13, k14, k15, k16, k17, k18⟩ := h
  have c : ∀ lo hi, hi ≤ x + 228 → KR T U lo hi := fun lo hi a b hb hc => ⟨(hU.2 b (by omega)).1, (hU.2 b (by omega)).2.1, (hU.2 b (by omega)).2.2.1⟩
  have e0 : ∀ j, sR (stR U (x + 211) k v) x j = sR T x j := fun j => by rw [sR_stR, if_neg (by omega), (hU.2 x (by omega)).2.1]
  refine ⟨?_, ?_, ?_, ?_, ?_, ?_, ?_, ?_, ?_, (k10.kr (c _ _ (by omega))).mkR (by omega), (k11.kr (c _ _ (by omega))).mkR (by omega), (k12.kr (c _ _ (by omega))).mkR (by omega), (k13.kr (c _ _ (by omega))).mkR (by omega), (show dN U (x + 1) from k14.kr (c _ _ (by omega))), (k15.kr (c _ _ (by omega))).mkR (by omega), ?_, ?_, ?_⟩
  · rw [sK_stR, (hU.2 x (by omega)).1, k1]
  · rw [e0, k2]
  · rw [e0, k3]
  · rw [e0, k4]
  · rw [e0, k5]
  · rw [e0, k6]
  · rw [e0, k7]
  · rw [sK_stR, (hU.2 (x + 211) (by omega)).1, k8]
  · rw [sK_stR, (hU.2 (x + 212) (by omega)).1, k9]
  · rw [sI_stR, (hU.2 (x + 214) (by omega)).2.2.1, k16]
  · rw [sI_stR, (hU.2 (x + 212) (by omega)).2.2.1, k17]
  · rw [sI_stR, (hU.2 (x + 212) (by omega)).2.2.1, k18]
def oIn (S T : SS) (x k : Nat) : Prop := Gw S T x (x + 228 + 26 * k) ∧ Base6 T x ∧ ∀ i, i < k → sR T (x + 211) i = some (x + 228 + 26 * i) ∧ DeskAt T (x + 228 + 26 * i)
theorem oIn_s {S T U : SS} {x k : Nat} (hT : oIn S T x k) (hU : Gw T U (x + 228 + 26 * k) (x + 228 + 26 * k + 26)) (hd : DeskAt U (x + 228 + 26 * k)) : oIn S (stR U (x + 211) k (some (x + 228 + 26 * k))) x (k + 1) := by
  obtain ⟨hW, hB, hg⟩ := hT
  refine ⟨(hW.trans hU (by omega)).stR _ _ _ (by omega), hB.go hU (by omega), fun i hi => ?_⟩
  rw [sR_stR]
  by_cases c3 : i = k
  · subst c3
    rw [if_pos ⟨rfl, rfl⟩]
    exact ⟨rfl, hd.mkR (by omega)⟩
  · rw [if_neg (fun a => c3 a.2), (hU.2 (x + 211) (by omega)).2.1]
    exact ⟨(hg i (by omega)).1, (hU.desk (hg i (by omega)).2 (by omega)).mkR (by omega)⟩
set_option maxHeartbeats 1000000 in
theorem lp_X6_init (l : Launch) (G : Gx) {S : SS} {x : Nat} {E : Option Value → SS → Prop} (h : ∀ S', Gw S S' x (x + 280) → New6 S' x → E none S') :
    ∀ k, k ≤ 2 → ∀ T, oIn S T x k → ∀ cs sl, cs = 227 + 26 * k → sl = 16858 + 1968 * k → V l G mi_X6_init E 65 [some (.ref x), some (.int (nI k))] [] T cs sl := by
  refine loopUp 2 fun k hk ih T hT cs sl hcs hsl => ?_
  subst hcs hsl
  refine (V.segN (Γ := Γ_X6_init) (hΓ_X6_init l G) so_X6_init 4 (sg := sg_X6_init_65) so_X6_init_65 ?_ : V l G mi_X6_init _ (segPc sg_X6_init_65) _ _ _ _ _)
  simp only [mL_X6_init, mT_X6_init, rc_X6_init, rs_X6_init, Γ_X6_init, sg_X6_init_0, sg_X6_init_65, sg_X6_init_89, wn_X6_init_0, wn_X6_init_65, wn_X6_init_89, wp_c, ex_c, x_nop, x_goto, x_table, x_iinc, x_ldc, x_ldc2, x_iaload, x_faload, x_baload, x_caload, x_iastore, x_fastore, x_bastore, x_castore, x_aastore, x_alen, x_gets, x_new, x_newa, x_anew, x_invs, x_invi, x_invv, x_ret, x_iret, x_lret, x_fret, x_aret, x_lconst, x_fconst0, x_fconst1, x_fconst2, x_dconst0, x_dconst1, x_null, x_iadd, x_isub, x_imul, x_iand, x_ior, x_idiv, x_irem, x_ineg, x_ishl, x_ishr, x_land, x_ladd, x_lmul, x_lor, x_lushr, x_lshl, x_lcmp, x_i2l, x_l2i, x_i2c, x_i2f, x_f2d, x_d2i, x_d2l, x_fadd, x_fsub, x_fmul, x_fdiv, x_dadd, x_dsub, x_dmul, x_ddiv, x_fcmp, x_dcmp, x_dupI, x_dupR, x_dup2, x_popI, x_popR, ldP_I, ldP_L, ldP_F, ldP_D, ldP_R, ldP_N, x_iload, x_iload_n, x_lload, x_lload_n, x_fload, x_fload_n, x_dload, x_dload_n, x_aload, x_aload_n, x_istore, x_istore_n, x_lstore, x_lstore_n, x_fstore, x_fstore_n, x_dstore, x_dstore_n, x_astore, x_astore_n, x_astoreN, x_astore_nN, x_icmp_eq, x_icmp_ne, x_icmp_lt, x_icmp_ge, x_icmp_gt, x_icmp_le, x_if_eq, x_if_ne, x_if_lt, x_if_ge, x_if_gt, x_if_le, x_ifnull, x_ifnullR, x_ifnn, x_ifnnR, x_aaload2, x_cpI, x_cpF, x_oI, xk_bipush_120, xk_iconst_0, xk_bipush_m6, xk_iconst_1, xk_bipush_80, xk_iconst_4, xk_bipush_6, xk_iconst_2, xk_bipush_40, xk_iconst_3, xk_bipush_10, xk_iconst_5, xk_bipush_m2, xk_bipush_m4, xk_iconst_m1, xk_bipush_m5, xk_bipush_12, xk_bipush_100, xk_bipush_26, xk_bipush_48, xk_sipush_9999, xk_sipush_500, xk_bipush_7, xk_bipush_119, xk_bipush_m126, xk_bipush_127, xk_bipush_23, xk_sipush_m1022, xk_sipush_1023, xk_bipush_52, xg_0_0, xp_0_0, xg_0_1, xp_0_1, xg_0_2, xp_0_2, xg_0_3, xp_0_3, xg_0_4, xp_0_4, xg_0_5, xp_0_5, xg_0_6, xp_0_6, xg_0_7, xp_0_7, xg_0_8, xp_0_8, xg_1_0, xp_1_0, xg_1_1, xp_1_1, xg_1_2, xp_1_2, xg_1_3, xp_1_3, xg_2_0, xp_2_0, xg_2_1, xp_2_1, xg_2_2, xp_2_2, xg_3_0, xp_3_0, xg_3_1, xp_3_1, xg_3_2, xp_3_2, xg_3_3, xp_3_3, xg_3_4, xp_3_4, xg_3_5, xp_3_5, xg_3_6, xp_3_6, xg_3_7, xp_3_7, xg_3_8, xp_3_8, xg_3_9, xp_3_9, xg_3_10, xp_3_10, xg_3_11, xp_3_11, xg_4_0, xp_4_0, xg_4_1, xp_4_1, xg_5_0, xp_5_0, xg_5_1, xp_5_1, xg_6_0, xp_6_0, xg_6_1, xp_6_1, xg_6_2, xp_6_2, xg_6_3, xp_6_3, xg_6_4, xp_6_4, xg_6_5, xp_6_5, fv0, fv1, fv2, fv3, kI_0, kI_1, stL, wipeL, entLn, entL, List.getElem?_cons_zero, List.getElem?_cons_succ, List.getElem?_nil, List.set_cons_zero, List.set_cons_succ, List.set_nil, List.length_cons, List.length_nil, List.cons_append, List.nil_append, List.replicate, Nat.reduceAdd, Nat.reduceLeDiff, Nat.reduceSub, true_and, and_true, x_callS, x_callSN, x_callI, x_callIN, x_callV0, x_callV1, x_callV2, x_callV3, x_callV4, x_callV5, x_callV6, x_callV7, callP, List.take_succ_cons, List.take_zero, List.take_nil, List.drop_succ_cons, List.drop_zero, List.drop_nil, List.getLast?_singleton, List.getLast?_cons_cons, Option.some.injEq, Value.ref.injEq, exists_eq_left, exists_eq_left', Nat.zero_le, Nat.add_zero, ldcV_f, ldcV_fn, ldcV_l, ldcV_d, Nat.reduceMul, Nat.le_refl, List.reverse_cons, List.reverse_nil, Option.toList, List.map_cons, List.map_nil, List.sum_cons, List.sum_nil, Value.category, tblW_n, tblW_c, Int.cast_ofNat_Int, Int.reduceAdd, Int.reduceToNat, ofI_n, rc_X0_init, rs_X0_init, P_X0_init, rc_X2_init, rs_X2_init, P_X2_init, rc_X3_init, rs_X3_init, P_X3_init, rc_X5_init, rs_X5_init, P_X5_init]
  have hT0 := hT
  obtain ⟨hW, hB, hg⟩ := hT
  have hz := hW.1
  simp (disch := omega) only [nlt0, nge0, neq0, ngt0, nle0, nI_ltI, nI_leI, nI_eq, nI_cl, in_nI, false_implies, true_implies, not_false_eq_true, not_true_eq_false, and_true, true_and, nI_add, pk_mul, implies_true, not_lt0]
  refine ⟨fun c => ?_, fun c2' => have c2 : k < 2 := by omega
    ⟨hB.1, _, hB.2.2.2.1, by omega, by (simp only [nf]; omega), ⟨_, rfl⟩, by omega, by (simp only [nf]; omega), by rw [sK_stN, if_pos rfl], rfl, fun U hU hd _ _ => ?_⟩⟩
  · have e : k = 2 := by omega
    subst e
    obtain ⟨k1, k2, k3, k4, k5, k6, k7, k8, k9, k10, k11, k12, k13, k14, k15, k16, k17, k18⟩ := hB
    exact ⟨by simp [retOK], h _ hW ⟨⟨k1, k2, k3, k4, k5, k6, k7, k8, k9, k10, k11, k12, k13, hg⟩, k14, k15.2.2.2.1, k15.2.2.2.2, k16, k17, k18⟩, by omega, by omega⟩
  · have hU2 := hU.new rfl
    rw [hz] at hU2 hd ⊢
    have q : sK U (x + 211) = some (12, 2) := by rw [(hU2.2 (x + 211) (by omega)).1]; exact hB.2.2.2.2.2.2.2.1
    exact ⟨_, q, hd.1, vp_in_nI c2 (by omega), ih c2 _ (oIn_s hT0 hU2 hd) _ _ (by omega) (by simp only [nf]; omega)⟩
theorem build6 {S T1 T2 T3 T4 T5 T6 : SS} {x : Nat} (E1 : Ext S T1 x 0 (x + 1)) (E2 : Ext T1 T2 x 1 (x + 27)) (E3 : Ext T2 T3 x 2 (x + 211)) (E4 : Ext T3 T4 x 3 (x + 212)) (E5 : Ext T4 T5 x 4 (x + 213)) (E6 : Ext T5 T6 x 5 (x + 221)) (z1 : sZ T1 = x + 27) (z2 : sZ T2 = x + 211) (z3 : sZ T3 = x + 212) (z4 : sZ T4 = x + 213) (z5 : sZ T5 = x + 221) (k6 : sK T6 x = some (6, 0)) (r3 : sK T3 (x + 211) = some (12, 2)) (r4 : sK T4 (x + 212) = some (10, 2)) (d1 : DeskAt T1 (x + 1)) (h2' : HistAt T2 (x + 27)) (o5 : OrdAt T5 (x + 213)) (t6 : TrialAt T6 (x + 221)) (n1 : dN T1 (x + 1)) (b2 : HistB T2 (x + 27)) (p5 : sI T5 (x + 214) 1 = nI 0) (i4 : sI T4 (x + 212) = fun _ => 0) : Base6 T6 x := by
  have c56 : ∀ lo hi, x < lo → hi ≤ x + 221 → KR T5 T6 lo hi := fun lo hi a b => E6.kr a (by omega)
  have c46 : ∀ lo hi, x < lo → hi ≤ x + 213 → KR T4 T6 lo hi := fun lo hi a b => (E5.kr a (by omega)).trans (c56 lo hi a (by omega))
  have c36 : ∀ lo hi, x < lo → hi ≤ x + 212 → KR T3 T6 lo hi := fun lo hi a b => (E4.kr a (by omega)).trans (c46 lo hi a (by omega))
  have c26 : ∀ lo hi, x < lo → hi ≤ x + 211 → KR T2 T6 lo hi := fun lo hi a b => (E3.kr a (by omega)).trans (c36 lo hi a (by omega))
  have c16 : ∀ lo hi, x < lo → hi ≤ x + 27 → KR T1 T6 lo hi := fun lo hi a b => (E2.kr a (by omega)).trans (c26 lo hi a (by omega))
  have R : ∀ j v, j < 6 → v = (if j = 0 then x + 1 else if j = 1 then x + 27 else if j = 2 then x + 211 else if j = 3 then x + 212 else if j = 4 then x + 213 else x + 221) → sR T6 x j = some v := by
    intro j v hj hv
    rw [E6.2.2.1, E5.2.2.1, E4.2.2.1, E3.2.2.1, E2.2.2.1, E1.2.2.1, hv]
    split
    · rename_i c; rw [c]; rfl
    · split
      · rename_i c; rw [c]; rfl
      · split
        · rename_i c; rw [c]; rfl
        · split
          · rename_i c; rw [c]; rfl
          · split
            · rename_i c; rw [c]; rfl
            · have e : j = 0 := by omega
              rw [e]; rfl
  refine ⟨k6, R 0 _ (by omega) rfl, R 1 _ (by omega) rfl, R 2 _ (by omega) rfl, R 3 _ (by omega) rfl, R 4 _ (by omega) rfl, R 5 _ (by omega) rfl, ?_, ?_, d1.kr (c16 _ _ (by omega) (by omega)), h2'.kr (c26 _ _ (by omega) (by omega)), o5.kr (c56 _ _ (by omega) (by omega)), t6, n1.kr (c16 _ _ (by omega) (by omega)), b2.kr (c26 _ _ (by omega) (by omega)), ?_, ?_, ?_⟩
  · rw [(c36 (x + 211) (x + 212) (by omega) (by omega) (x + 211) (by omega) (by omega)).1, r3]
  · rw [(c46 (x + 212) (x + 213) (by omega) (by omega) (x + 212) (by omega) (by omega)).1, r4]
  · rw [(c56 (x + 214) (x + 215) (by omega) (by omega) (x + 214) (by omega) (by omega)).2.2, p5]
  · rw [(c46 (x + 212) (x + 213) (by omega) (by omega) (x + 212) (by omega) (by omega)).2.2, i4]; rfl
  · rw [(c46 (x + 212) (x + 213) (by omega) (by omega) (x + 212) (by omega) (by omega)).2.2, i4]; rfl
set_option maxHeartbeats 1000000 in
theorem ct_X6_init (l : Launch) (G : Gx) : Ct l G mi_X6_init P_X6_init := by
  refine Ct.ofV mo_X6_init (fun as S E h => ?_)
  unfold P_X6_init at h
  split at h
  case h_2 => exact h.elim
  rename_i x
  refine ⟨by simp [entL, mL_X6_init], ?_⟩
  refine wpN_ok (Γ := Γ_X6_init) (hΓ_X6_init l G) so_X6_init 4 _ _ _ _ _ _ ?_
  simp only [mL_X6_init, mT_X6_init, rc_X6_init, rs_X6_init, Γ_X6_init, sg_X6_init_0, sg_X6_init_65, sg_X6_init_89, wn_X6_init_0, wn_X6_init_65, wn_X6_init_89, wp_c, ex_c, x_nop, x_goto, x_table, x_iinc, x_ldc, x_ldc2, x_iaload, x_faload, x_baload, x_caload, x_iastore, x_fastore, x_bastore, x_castore, x_aastore, x_alen, x_gets, x_new, x_newa, x_anew, x_invs, x_invi, x_invv, x_ret, x_iret, x_lret, x_fret, x_aret, x_lconst, x_fconst0, x_fconst1, x_fconst2, x_dconst0, x_dconst1, x_null, x_iadd, x_isub, x_imul, x_iand, x_ior, x_idiv, x_irem, x_ineg, x_ishl, x_ishr, x_land, x_ladd, x_lmul, x_lor, x_lushr, x_lshl, x_lcmp, x_i2l, x_l2i, x_i2c, x_i2f, x_f2d, x_d2i, x_d2l, x_fadd, x_fsub, x_fmul, x_fdiv, x_dadd, x_dsub, x_dmul, x_ddiv, x_fcmp, x_dcmp, x_dupI, x_dupR, x_dup2, x_popI, x_popR, ldP_I, ldP_L, ldP_F, ldP_D, ldP_R, ldP_N, x_iload, x_iload_n, x_lload, x_lload_n, x_fload, x_fload_n, x_dload, x_dload_n, x_aload, x_aload_n, x_istore, x_istore_n, x_lstore, x_lstore_n, x_fstore, x_fstore_n, x_dstore, x_dstore_n, x_astore, x_astore_n, x_astoreN, x_astore_nN, x_icmp_eq, x_icmp_ne, x_icmp_lt, x_icmp_ge, x_icmp_gt, x_icmp_le, x_if_eq, x_if_ne, x_if_lt, x_if_ge, x_if_gt, x_if_le, x_ifnull, x_ifnullR, x_ifnn, x_ifnnR, x_aaload2, x_cpI, x_cpF, x_oI, xk_bipush_120, xk_iconst_0, xk_bipush_m6, xk_iconst_1, xk_bipush_80, xk_iconst_4, xk_bipush_6, xk_iconst_2, xk_bipush_40, xk_iconst_3, xk_bipush_10, xk_iconst_5, xk_bipush_m2, xk_bipush_m4, xk_iconst_m1, xk_bipush_m5, xk_bipush_12, xk_bipush_100, xk_bipush_26, xk_bipush_48, xk_sipush_9999, xk_sipush_500, xk_bipush_7, xk_bipush_119, xk_bipush_m126, xk_bipush_127, xk_bipush_23, xk_sipush_m1022, xk_sipush_1023, xk_bipush_52, xg_0_0, xp_0_0, xg_0_1, xp_0_1, xg_0_2, xp_0_2, xg_0_3, xp_0_3, xg_0_4, xp_0_4, xg_0_5, xp_0_5, xg_0_6, xp_0_6, xg_0_7, xp_0_7, xg_0_8, xp_0_8, xg_1_0, xp_1_0, xg_1_1, xp_1_1, xg_1_2, xp_1_2, xg_1_3, xp_1_3, xg_2_0, xp_2_0, xg_2_1, xp_2_1, xg_2_2, xp_2_2, xg_3_0, xp_3_0, xg_3_1, xp_3_1, xg_3_2, xp_3_2, xg_3_3, xp_3_3, xg_3_4, xp_3_4, xg_3_5, xp_3_5, xg_3_6, xp_3_6, xg_3_7, xp_3_7, xg_3_8, xp_3_8, xg_3_9, xp_3_9, xg_3_10, xp_3_10, xg_3_11, xp_3_11, xg_4_0, xp_4_0, xg_4_1, xp_4_1, xg_5_0, xp_5_0, xg_5_1, xp_5_1, xg_6_0, xp_6_0, xg_6_1, xp_6_1, xg_6_2, xp_6_2, xg_6_3, xp_6_3, xg_6_4, xp_6_4, xg_6_5, xp_6_5, fv0, fv1, fv2, fv3, kI_0, kI_1, stL, wipeL, entLn, entL, List.getElem?_cons_zero, List.getElem?_cons_succ, List.getElem?_nil, List.set_cons_zero, List.set_cons_succ, List.set_nil, List.length_cons, List.length_nil, List.cons_append, List.nil_append, List.replicate, Nat.reduceAdd, Nat.reduceLeDiff, Nat.reduceSub, true_and, and_true, x_callS, x_callSN, x_callI, x_callIN, x_callV0, x_callV1, x_callV2, x_callV3, x_callV4, x_callV5, x_callV6, x_callV7, callP, List.take_succ_cons, List.take_zero, List.take_nil, List.drop_succ_cons, List.drop_zero, List.drop_nil, List.getLast?_singleton, List.getLast?_cons_cons, Option.some.injEq, Value.ref.injEq, exists_eq_left, exists_eq_left', Nat.zero_le, Nat.add_zero, ldcV_f, ldcV_fn, ldcV_l, ldcV_d, Nat.reduceMul, Nat.le_refl, List.reverse_cons, List.reverse_nil, Option.toList, List.map_cons, List.map_nil, List.sum_cons, List.sum_nil, Value.category, tblW_n, tblW_c, Int.cast_ofNat_Int, Int.reduceAdd, Int.reduceToNat, ofI_n, rc_X0_init, rs_X0_init, P_X0_init, rc_X2_init, rs_X2_init, P_X2_init, rc_X3_init, rs_X3_init, P_X3_init, rc_X5_init, rs_X5_init, P_X5_init]
  obtain ⟨h1, h2, h⟩ := h
  simp only [h1, h2, sK_stI, sR_stI, sK_stF, sR_stF, sK_stIA, sR_stIA, sK_stFA, sR_stFA, sI_stI, sI_stF, sI_stIA, sI_stFA, sF_stI, sF_stF, sF_stIA, sF_stFA, Nat.left_eq_add, Nat.add_eq_left, Nat.add_left_cancel_iff, Nat.reduceEqDiff, Nat.reduceEqDiff, Nat.succ_ne_self, false_and, and_false, if_false, if_true, nI_succ_sub, Option.some.injEq, Prod.mk.injEq, exists_eq_left', true_and, and_true, retI, retF, retV, retZ1, retZ0, retL, retA, retN, Nat.reduceAdd, Nat.reduceMul, Nat.reduceLT]
  refine ⟨by (simp [nf]), ⟨_, rfl⟩, by (simp [nf]), by (simp only [h1, h2, sK_stN, sR_stN, sI_stN, sF_stN, sZ_stN, sK_stR, sZ_stR, sI_stR, sF_stR, sR_stR, sK_stI, sR_stI, sI_stI, sF_stI, sZ_stI, Nat.add_assoc, Nat.reduceAdd, Nat.left_eq_add, Nat.add_eq_left, Nat.add_left_cancel_iff, Nat.reduceEqDiff, Nat.succ_ne_self, if_true, if_false, false_and, and_false, true_and, and_true, Option.some.injEq, Prod.mk.injEq, exists_eq_left']), by (simp only [h2, sK_stN, sR_stN, sI_stN, sF_stN, sZ_stN, sK_stR, sZ_stR, sI_stR, sF_stR, sR_stR, sK_stI, sR_stI, sI_stI, sF_stI, sZ_stI, Nat.add_assoc, Nat.reduceAdd, Nat.left_eq_add, Nat.add_eq_left, Nat.add_left_cancel_iff, Nat.reduceEqDiff, Nat.succ_ne_self, if_true, if_false, false_and, and_false, true_and, and_true, Option.some.injEq, Prod.mk.injEq, exists_eq_left']), fun U1 hU1 hd hn hk => ?_⟩
  have z1 : sZ (stR U1 x 0 (some (x + 1))) = x + 27 := hU1.1
  have E1 : Ext S (stR U1 x 0 (some (x + 1))) x 0 (x + 1) := Ext.mk hU1 h2 (by omega) (by omega)
  have d1 : DeskAt (stR U1 x 0 (some (x + 1))) (x + 1) := hd.mkR (by omega)
  have n1 : dN (stR U1 x 0 (some (x + 1))) (x + 1) := hn
  have k1 : sK (stR U1 x 0 (some (x + 1))) x = some (6, 0) := E1.2.1.trans h1
  have k1' : sK U1 x = some (6, 0) := k1
  obtain ⟨T1, hT1⟩ : ∃ T1, T1 = stR U1 x 0 (some (x + 1)) := ⟨_, rfl⟩
  rw [← hT1] at z1 E1 d1 n1 k1 ⊢
  refine ⟨k1', by (simp [nf]), ⟨_, rfl⟩, by (simp [nf]), by (rw [sK_stN, if_pos rfl]), rfl, fun U2 hU2 hh hb => ?_⟩
  rw [z1] at hU2 hh hb ⊢
  have z2 : sZ (stR U2 x 1 (some (x + 27))) = x + 211 := hU2.1
  have E2 : Ext T1 (stR U2 x 1 (some (x + 27))) x 1 (x + 27) := Ext.mk hU2 z1 (by omega) (by omega)
  have h2' : HistAt (stR U2 x 1 (some (x + 27))) (x + 27) := hh.mkR (by omega)
  have b2 : HistB (stR U2 x 1 (some (x + 27))) (x + 27) := hb.mkR (by omega)
  have k2 : sK (stR U2 x 1 (some (x + 27))) x = some (6, 0) := E2.2.1.trans k1
  have k2' : sK U2 x = some (6, 0) := k2
  obtain ⟨T2, hT2⟩ : ∃ T2, T2 = stR U2 x 1 (some (x + 27)) := ⟨_, rfl⟩
  rw [← hT2] at z2 E2 h2' b2 k2 ⊢
  simp (disch := omega) only [nI_cl, nlt0, not_false_eq_true, true_and]
  rw [z2]
  have E3 : Ext T2 (stR (stN T2 12 2) x 2 (some (x + 211))) x 2 (x + 211) := Ext.row z2 (by omega)
  have z3 : sZ (stR (stN T2 12 2) x 2 (some (x + 211))) = x + 212 := by rw [sZ_stR, sZ_stN, z2]
  have g3 : Gw S (stR (stN T2 12 2) x 2 (some (x + 211))) x (x + 212) := by
    have g1 : Gw S T1 x (x + 27) := by
      rw [hT1]
      exact ((hU1.new h2).mono (by omega)).stR _ _ _ (Nat.le_refl _)
    have g2 : Gw S T2 x (x + 211) := by
      rw [hT2]
      exact (g1.trans (hU2.new z1) (by omega)).stR _ _ _ (Nat.le_refl _)
    exact (g2.stN 12 2 (by omega)).stR _ _ _ (Nat.le_refl _)
  have r3 : sK (stR (stN T2 12 2) x 2 (some (x + 211))) (x + 211) = some (12, 2) := by rw [sK_stR, sK_stN, if_pos z2.symm]
  have m3 : sK (stN T2 12 2) x = some (6, 0) := by rw [sK_stN, if_neg (by omega), k2]
  have k3 : sK (stR (stN T2 12 2) x 2 (some (x + 211))) x = some (6, 0) := m3
  obtain ⟨T3, hT3⟩ : ∃ T3, T3 = stR (stN T2 12 2) x 2 (some (x + 211)) := ⟨_, rfl⟩
  rw [← hT3] at E3 z3 g3 r3 k3 ⊢
  rw [z3]
  have E4 : Ext T3 (stR (stN T3 10 2) x 3 (some (x + 212))) x 3 (x + 212) := Ext.row z3 (by omega)
  have z4 : sZ (stR (stN T3 10 2) x 3 (some (x + 212))) = x + 213 := by rw [sZ_stR, sZ_stN, z3]
  have g4 : Gw S (stR (stN T3 10 2) x 3 (some (x + 212))) x (x + 213) := (g3.stN 10 2 (by omega)).stR _ _ _ (Nat.le_refl _)
  have r4 : sK (stR (stN T3 10 2) x 3 (some (x + 212))) (x + 212) = some (10, 2) := by rw [sK_stR, sK_stN, if_pos z3.symm]
  have i4 : sI (stR (stN T3 10 2) x 3 (some (x + 212))) (x + 212) = fun _ => 0 := by rw [sI_stR, sI_stN, if_pos z3.symm]
  have m4 : sK (stN T3 10 2) x = some (6, 0) := by rw [sK_stN, if_neg (by omega), k3]
  have k4 : sK (stR (stN T3 10 2) x 3 (some (x + 212))) x = some (6, 0) := m4
  obtain ⟨T4, hT4⟩ : ∃ T4, T4 = stR (stN T3 10 2) x 3 (some (x + 212)) := ⟨_, rfl⟩
  rw [← hT4] at E4 z4 g4 r4 i4 k4 ⊢
  rw [z4]
  refine ⟨k2', by omega, by (simp only [nf]; omega), m3, by omega, by (simp only [nf]; omega), m4, by (simp only [nf]; omega), ⟨_, rfl⟩, by (simp only [nf]; omega), by rw [sK_stN, if_pos z4.symm], by rw [sZ_stN, z4], fun U3 hU3 ho hp => ?_⟩
  have E5 : Ext T4 (stR U3 x 4 (some (x + 213))) x 4 (x + 213) := Ext.mk hU3 z4 (by omega) (by omega)
  have z5 : sZ (stR U3 x 4 (some (x + 213))) = x + 221 := hU3.1
  have g5 : Gw S (stR U3 x 4 (some (x + 213))) x (x + 221) := (g4.trans (hU3.new z4) (by omega)).stR _ _ _ (Nat.le_refl _)
  have o5 : OrdAt (stR U3 x 4 (some (x + 213))) (x + 213) := ho.mkR (by omega)
  have p5 : sI (stR U3 x 4 (some (x + 213))) (x + 214) 1 = nI 0 := hp
  have k5 : sK (stR U3 x 4 (some (x + 213))) x = some (6, 0) := E5.2.1.trans k4
  have k5' : sK U3 x = some (6, 0) := k5
  obtain ⟨T5, hT5⟩ : ∃ T5, T5 = stR U3 x 4 (some (x + 213)) := ⟨_, rfl⟩
  rw [← hT5] at E5 z5 g5 o5 p5 k5 ⊢
  rw [z5]
  refine ⟨k5', by (simp only [nf]; omega), ⟨_, rfl⟩, by (simp only [nf]; omega), by rw [sK_stN, if_pos z5.symm], by rw [sZ_stN, z5], fun U4 hU4 ht => ?_⟩
  have E6 : Ext T5 (stR U4 x 5 (some (x + 221))) x 5 (x + 221) := Ext.mk hU4 z5 (by omega) (by omega)
  have z6 : sZ (stR U4 x 5 (some (x + 221))) = x + 228 := hU4.1
  have g6 : Gw S (stR U4 x 5 (some (x + 221))) x (x + 228) := (g5.trans (hU4.new z5) (by omega)).stR _ _ _ (Nat.le_refl _)
  have t6 : TrialAt (stR U4 x 5 (some (x + 221))) (x + 221) := ht.mkR (by omega)
  have k6 : sK (stR U4 x 5 (some (x + 221))) x = some (6, 0) := E6.2.1.trans k5
  have k6' : sK U4 x = some (6, 0) := k6
  obtain ⟨T6, hT6⟩ : ∃ T6, T6 = stR U4 x 5 (some (x + 221)) := ⟨_, rfl⟩
  rw [← hT6] at E6 z6 g6 t6 k6 ⊢
  have B : Base6 T6 x := build6 E1 E2 E3 E4 E5 E6 z1 z2 z3 z4 z5 k6 r3 r4 d1 h2' o5 t6 n1 b2 p5 i4
  exact ⟨k6', lp_X6_init l G h 0 (by omega) _ ⟨g6, B, fun i hi => absurd hi (by omega)⟩ _ _ (by omega) (by simp only [nf])⟩
