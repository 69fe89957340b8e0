-- needs: 18.nums 19.proj 20.spec 21.shape 22.leaf 23.fl 23.view 24.loops 25.desk 26.near 27.quest 28.hours 29.write 29.xsame 30.trial
/-! the reference: its view, small methods -/
def ModAt (S : SS) (y : Nat) : Prop := sK S y = some (7, 0) ∧ sR S y 0 = some (y + 1) ∧ sR S y 1 = some (y + 2) ∧ sR S y 3 = some (y + 3) ∧ sR S y 4 = some (y + 4) ∧ sR S y 5 = some (y + 5) ∧
  sK S (y + 1) = some (8, 9830) ∧ sK S (y + 2) = some (9, 4800) ∧ sK S (y + 3) = some (10, 2) ∧ sK S (y + 4) = some (8, 120) ∧ sK S (y + 5) = some (8, 80)
theorem ModAt.mk' {S S' : SS} {y : Nat} (h : ModAt S y) (hK : sK S' = sK S) (hR : sR S' = sR S) : ModAt S' y := by
  unfold ModAt at h ⊢
  rw [hK, hR]
  exact h
theorem Fr.mod {S T : SS} {lo hi y : Nat} (h : Fr S T lo hi) (k : ModAt S y) : ModAt T y := k.mk' h.1 h.2.1
def iK (q p k : Nat) : Nat := 983 * q + 23 + 2 * (120 * p + k)
def lK (q p k : Nat) : Nat := 480 * q + 120 * p + k
theorem iK_lt {q p k : Nat} (hq : q < 10) (hp : p < 4) (hk : k < 120) : iK q p k + 1 < 9830 := by unfold iK; omega
theorem lK_lt {q p k : Nat} (hq : q < 10) (hp : p < 4) (hk : k < 120) : lK q p k < 4800 := by unfold lK; omega
/-- the letter and the writer that an ink number tells -/
def mtI (v : Int32) : Int32 := if v = mI 6 then mI 6 else if 0 ≤ v ∧ v < nI 130 then nI (v.toNatClampNeg % 26) else nI 77
def mwI (v : Int32) : Int32 := if v = mI 6 then mI 6 else if 0 ≤ v ∧ v < nI 130 then nI (v.toNatClampNeg / 26) else nI 77
theorem mtI_6 (v : Int32) : mtI v = mI 6 ↔ v = mI 6 := by
  unfold mtI
  by_cases h : v = mI 6
  · simp [h]
  · rw [if_neg h]
    constructor
    · intro e
      split at e
      · rename_i hv
        obtain ⟨j, hj, rfl⟩ := vp_in_of ((in_cmp (by omega)).mpr hv) (by decide)
        rw [nI_cl (by omega)] at e
        exact absurd e (nI_ne_mI (by omega) (by omega) (by omega))
      · exact absurd e (nI_ne_mI (by omega) (by omega) (by omega))
    · intro e
      exact absurd e h
theorem mtI_n {j : Nat} (hj : j < 130) : mtI (nI j) = nI (j % 26) := by
  unfold mtI
  rw [if_neg (nI_ne_mI (by omega) (by omega) (by omega)), if_pos ((in_cmp (by omega)).mp (vp_in_nI hj (by omega))), nI_cl (by omega)]
theorem mwI_n {j : Nat} (hj : j < 130) : mwI (nI j) = nI (j / 26) := by
  unfold mwI
  rw [if_neg (nI_ne_mI (by omega) (by omega) (by omega)), if_pos ((in_cmp (by omega)).mp (vp_in_nI hj (by omega))), nI_cl (by omega)]
theorem mtI_m : mtI (mI 6) = mI 6 := if_pos rfl
theorem mwI_m : mwI (mI 6) = mI 6 := if_pos rfl
def mG (S : SS) (y q p : Nat) : GV := ⟨fun k => sF S (y + 2) (lK q p k), fun k => mtI (sI S (y + 1) (iK q p k)), fun k => mwI (sI S (y + 1) (iK q p k)), fun k => sI S (y + 1) (iK q p k + 1)⟩
def mV (S : SS) (y q : Nat) : DV := ⟨fun i => sI S (y + 1) (983 * q + i), fun i => sI S (y + 1) (983 * q + 8 + i), fun i => sI S (y + 1) (983 * q + 13 + i), fun i => sI S (y + 1) (983 * q + 18 + i), sI S (y + 1) (983 * q + 4), sI S (y + 1) (983 * q + 5), sI S (y + 1) (983 * q + 6), sI S (y + 1) (983 * q + 7), fun p => mG S y q p⟩
/-- an ink number where there is a letter -/
theorem ink_of {S : SS} {y q p k : Nat} (h : GOK (mG S y q p)) (hk : k < 120) : sI S (y + 1) (iK q p k) = mI 6 ∨ ∃ a b, a < 26 ∧ b < 5 ∧ sI S (y + 1) (iK q p k) = nI (26 * b + a) ∧ (mG S y q p).t k = nI a ∧ (mG S y q p).w k = nI b := by
  obtain ⟨-, h1, -⟩ := h k hk
  rcases h1 with ⟨h1, -⟩ | ⟨a, b, ha, hb, ea, eb⟩
  · exact Or.inl ((mtI_6 _).mp h1)
  · refine Or.inr ⟨a, b, ha, hb, ?_, ea, eb⟩
    have ea' : mtI (sI S (y + 1) (iK q p k)) = nI a := ea
    have eb' : mwI (sI S (y + 1) (iK q p k)) = nI b := eb
    have n6 : ¬ sI S (y + 1) (iK q p k) = mI 6 := by
      intro c
      rw [c, mtI_m] at ea'
      exact nI_ne_mI (by omega) (by omega) (by omega) ea'.symm
    unfold mtI at ea'
    unfold mwI at eb'
    rw [if_neg n6] at ea' eb'
    split at ea'
    · rename_i hv
      rw [if_pos hv] at eb'
      obtain ⟨j, hj, e⟩ := vp_in_of ((in_cmp (by omega)).mpr hv) (by decide)
      rw [e, nI_cl (by omega)] at ea' eb'
      rw [nI_eq (by omega) (by omega)] at ea' eb'
      rw [e, show 26 * b + a = j by omega]
    · rw [nI_eq (by omega) (by omega)] at ea'
      omega
def P_X7_in (as : List Value) (S : SS) (E : Option Value → SS → Prop) : Prop := match as with
  | [.long v, .long a, .long b] => E (some (.int (bI (a ≤ v ∧ v ≤ b)))) S
  | _ => False
def Γ_X7_in : List (MI × PT) := []
theorem hΓ_X7_in (l : Launch) (G : Gx) : ∀ q ∈ Γ_X7_in, Ct l G q.1 q.2 := fun _ h => absurd h List.not_mem_nil
set_option maxHeartbeats 1000000 in
theorem ct_X7_in (l : Launch) (G : Gx) : Ct l G mi_X7_in P_X7_in := by
  refine Ct.ofV mo_X7_in (fun as S E h => ?_)
  unfold P_X7_in at h
  split at h
  case h_2 => exact h.elim
  rename_i v a b
  refine ⟨by simp [entL, mL_X7_in], ?_⟩
  refine wpN_ok (Γ := Γ_X7_in) (hΓ_X7_in l G) so_X7_in 4 _ _ _ _ _ _ ?_
  simp only [mL_X7_in, mT_X7_in, rc_X7_in, rs_X7_in, Γ_X7_in, sg_X7_in_0, sg_X7_in_17, sg_X7_in_18, wn_X7_in_0, wn_X7_in_17, wn_X7_in_18, wp_c, ex_c, x_nop, x_goto, x_table, x_iinc, x_ldc, x_ldc2, x_iaload, x_faload, x_baload, x_caload, x_iastore, x_fastore, x_bastore, x_castore, x_aastore, x_alen, x_gets, x_new, x_newa, x_anew, x_invs, x_invi, x_invv, x_ret, x_iret, x_lret, x_fret, x_aret, x_lconst, x_fconst0, x_fconst1, x_fconst2, x_dconst0, x_dconst1, x_null, x_iadd, x_isub, x_imul, x_iand, x_ior, x_idiv, x_irem, x_ineg, x_ishl, x_ishr, x_land, x_lor, x_lushr, x_lshl, x_lcmp, x_i2l, x_l2i, x_i2c, x_i2f, x_f2d, x_d2i, x_d2l, x_fadd, x_fsub, x_fmul, x_fdiv, x_dadd, x_dsub, x_dmul, x_ddiv, x_fcmp, x_dcmp, x_dupI, x_dupR, x_dup2, x_popI, x_popR, ldP_I, ldP_L, ldP_F, ldP_D, ldP_R, ldP_N, x_iload, x_iload_n, x_lload, x_lload_n, x_fload, x_fload_n, x_dload, x_dload_n, x_aload, x_aload_n, x_istore, x_istore_n, x_lstore, x_lstore_n, x_fstore, x_fstore_n, x_dstore, x_dstore_n, x_astore, x_astore_n, x_astoreN, x_astore_nN, x_icmp_eq, x_icmp_ne, x_icmp_lt, x_icmp_ge, x_icmp_gt, x_icmp_le, x_if_eq, x_if_ne, x_if_lt, x_if_ge, x_if_gt, x_if_le, x_ifnull, x_ifnullR, x_ifnn, x_ifnnR, x_aaload2, x_cpI, x_cpF, x_bF, x_bD, x_oI, xk_bipush_120, xk_iconst_0, xk_bipush_m6, xk_iconst_1, xk_bipush_80, xk_bipush_48, xk_bipush_57, xk_bipush_10, xk_bipush_64, xk_bipush_46, xk_bipush_97, xk_bipush_122, xk_bipush_119, xk_bipush_61, xk_bipush_59, xk_bipush_8, xk_bipush_33, xk_bipush_126, xk_bipush_m2, xk_bipush_m4, xk_iconst_4, xk_bipush_6, xk_iconst_2, xk_bipush_40, xk_iconst_3, xk_iconst_5, xk_iconst_m1, xk_bipush_m5, xk_bipush_12, xk_bipush_100, xk_bipush_26, xk_sipush_9999, xk_sipush_500, xk_bipush_7, xk_bipush_m126, xk_bipush_127, xk_bipush_23, xk_sipush_m1022, xk_sipush_1023, xk_bipush_52, xk_bipush_m3, xk_sipush_9830, xk_sipush_4800, xk_sipush_983, xk_sipush_480, xk_bipush_13, xk_bipush_18, xk_bipush_9, xk_bipush_32, xg_0_0, xp_0_0, xg_0_1, xp_0_1, xg_0_2, xp_0_2, xg_0_3, xp_0_3, xg_0_4, xp_0_4, xg_0_5, xp_0_5, xg_0_6, xp_0_6, xg_0_7, xp_0_7, xg_0_8, xp_0_8, xg_1_0, xp_1_0, xg_1_1, xp_1_1, xg_1_2, xp_1_2, xg_1_3, xp_1_3, xg_2_0, xp_2_0, xg_2_1, xp_2_1, xg_2_2, xp_2_2, xg_3_0, xp_3_0, xg_3_1, xp_3_1, xg_3_2, xp_3_2, xg_3_3, xp_3_3, xg_3_4, xp_3_4, xg_3_5, xp_3_5, xg_3_6, xp_3_6, xg_3_7, xp_3_7, xg_3_8, xp_3_8, xg_3_9, xp_3_9, xg_3_10, xp_3_10, xg_3_11, xp_3_11, xg_4_0, xp_4_0, xg_4_1, xp_4_1, xg_5_0, xp_5_0, xg_5_1, xp_5_1, xg_6_0, xp_6_0, xg_6_1, xp_6_1, xg_6_2, xp_6_2, xg_6_3, xp_6_3, xg_6_4, xp_6_4, xg_6_5, xp_6_5, xg_7_0, xp_7_0, xg_7_1, xp_7_1, xg_7_2, xp_7_2, xg_7_3, xp_7_3, xg_7_4, xp_7_4, xg_7_5, xp_7_5, xg_7_6, xp_7_6, xg_7_7, xp_7_7, xg_7_8, xp_7_8, xg_7_9, xp_7_9, xg_7_10, xp_7_10, xg_7_11, xp_7_11, xg_7_12, xp_7_12, xg_7_13, xp_7_13, fv0, fv1, fv2, fv3, kI_0, kI_1, stL, wipeL, entLn, entL, List.getElem?_cons_zero, List.getElem?_cons_succ, List.getElem?_nil, List.set_cons_zero, List.set_cons_succ, List.set_nil, List.length_cons, List.length_nil, List.cons_append, List.nil_append, List.replicate, Nat.reduceAdd, Nat.reduceLeDiff, Nat.reduceSub, true_and, and_true, x_callS, x_callSN, x_callI, x_callIN, x_callV0, x_callV1, x_callV2, x_callV3, x_callV4, x_callV5, x_callV6, x_callV7, callP, List.take_succ_cons, List.take_zero, List.take_nil, List.drop_succ_cons, List.drop_zero, List.drop_nil, List.getLast?_singleton, List.getLast?_cons_cons, Option.some.injEq, Value.ref.injEq, exists_eq_left, exists_eq_left', Nat.zero_le, Nat.add_zero, ldcV_f, ldcV_fn, ldcV_l, ldcV_d, Nat.reduceMul, Nat.le_refl, List.reverse_cons, List.reverse_nil, Option.toList, List.map_cons, List.map_nil, List.sum_cons, List.sum_nil, Value.category, tblW_n, tblW_c, Int.cast_ofNat_Int, Int.reduceAdd, Int.reduceToNat, ofI_n]
  simp only [sK_stI, sR_stI, sK_stF, sR_stF, sK_stIA, sR_stIA, sK_stFA, sR_stFA, sI_stI, sI_stF, sI_stIA, sI_stFA, sF_stI, sF_stF, sF_stIA, sF_stFA, Nat.left_eq_add, Nat.add_eq_left, Nat.add_left_cancel_iff, Nat.reduceEqDiff, Nat.reduceEqDiff, Nat.succ_ne_self, false_and, and_false, if_false, if_true, nI_succ_sub, Option.some.injEq, Prod.mk.injEq, exists_eq_left', true_and, and_true, retI, retF, retV, retZ1, retZ0, retL, retA, retN, Nat.reduceAdd, Nat.reduceMul, Nat.reduceLT]
  simp only [lg_cmp_lt, lg_cmp_gt]
  refine ⟨fun c => ?_, fun c => ⟨fun c2 => ?_, fun c2 => ?_⟩⟩
  · rwa [bI_f (fun q => Int64.not_lt.mpr q.1 c)] at h
  · rwa [bI_f (fun q => Int64.not_lt.mpr q.2 c2)] at h
  · rwa [bI_t ⟨Int64.not_lt.mp c, Int64.not_lt.mp c2⟩] at h
theorem i64le (a b : Int32) : (a.toInt64 ≤ b.toInt64) ↔ a ≤ b := by
  rw [Int64.le_iff_toInt_le, Int32.le_iff_toInt_le, Int32.toInt_toInt64, Int32.toInt_toInt64]
theorem lN_nI {n : Nat} (h : n < 2 ^ 31) : lN n = (nI n).toInt64 := by
  rw [← Int64.toInt_inj, lN_toInt h, Int32.toInt_toInt64, nI_toInt h]
theorem i64n_le (a : Int32) {n : Nat} (h : n < 2 ^ 31) : (a.toInt64 ≤ lN n) ↔ a ≤ nI n := by rw [lN_nI h, i64le]
theorem n_i64le (a : Int32) {n : Nat} (h : n < 2 ^ 31) : (lN n ≤ a.toInt64) ↔ nI n ≤ a := by rw [lN_nI h, i64le]
def P_X7_inkAt (as : List Value) (S : SS) (E : Option Value → SS → Prop) : Prop := match as with
  | [.int q, .int p, .int k] => vp_in q 10 ∧ vp_in p 4 ∧ vp_in k 120 ∧ E (some (.int (nI (iK q.toNatClampNeg p.toNatClampNeg k.toNatClampNeg)))) S
  | _ => False
def Γ_X7_inkAt : List (MI × PT) := []
theorem hΓ_X7_inkAt (l : Launch) (G : Gx) : ∀ q ∈ Γ_X7_inkAt, Ct l G q.1 q.2 := fun _ h => absurd h List.not_mem_nil
set_option maxHeartbeats 1000000 in
theorem ct_X7_inkAt (l : Launch) (G : Gx) : Ct l G mi_X7_inkAt P_X7_inkAt := by
  refine Ct.ofV mo_X7_inkAt (fun as S E h => ?_)
  unfold P_X7_inkAt at h
  split at h
  case h_2 => exact h.elim
  rename_i q p k
  refine ⟨by simp [entL, mL_X7_inkAt], ?_⟩
  refine wpN_ok (Γ := Γ_X7_inkAt) (hΓ_X7_inkAt l G) so_X7_inkAt 3 _ _ _ _ _ _ ?_
  simp only [mL_X7_inkAt, mT_X7_inkAt, rc_X7_inkAt, rs_X7_inkAt, Γ_X7_inkAt, sg_X7_inkAt_0, wn_X7_inkAt_0, wp_c, ex_c, x_nop, x_goto, x_table, x_iinc, x_ldc, x_ldc2, x_iaload, x_faload, x_baload, x_caload, x_iastore, x_fastore, x_bastore, x_castore, x_aastore, x_alen, x_gets, x_new, x_newa, x_anew, x_invs, x_invi, x_invv, x_ret, x_iret, x_lret, x_fret, x_aret, x_lconst, x_fconst0, x_fconst1, x_fconst2, x_dconst0, x_dconst1, x_null, x_iadd, x_isub, x_imul, x_iand, x_ior, x_idiv, x_irem, x_ineg, x_ishl, x_ishr, x_land, x_lor, x_lushr, x_lshl, x_lcmp, x_i2l, x_l2i, x_i2c, x_i2f, x_f2d, x_d2i, x_d2l, x_fadd, x_fsub, x_fmul, x_fdiv, x_dadd, x_dsub, x_dmul, x_ddiv, x_fcmp, x_dcmp, x_dupI, x_dupR, x_dup2, x_popI, x_popR, ldP_I, ldP_L, ldP_F, ldP_D, ldP_R, ldP_N, x_iload, x_iload_n, x_lload, x_lload_n, x_fload, x_fload_n, x_dload, x_dload_n, x_aload, x_aload_n, x_istore, x_istore_n, x_lstore, x_lstore_n, x_fstore, x_fstore_n, x_dstore, x_dstore_n, x_astore, x_astore_n, x_astoreN, x_astore_nN, x_icmp_eq, x_icmp_ne, x_icmp_lt, x_icmp_ge, x_icmp_gt, x_icmp_le, x_if_eq, x_if_ne, x_if_lt, x_if_ge, x_if_gt, x_if_le, x_ifnull, x_ifnullR, x_ifnn, x_ifnnR, x_aaload2, x_cpI, x_cpF, x_bF, x_bD, x_oI, xk_bipush_120, xk_iconst_0, xk_bipush_m6, xk_iconst_1, xk_bipush_80, xk_bipush_48, xk_bipush_57, xk_bipush_10, xk_bipush_64, xk_bipush_46, xk_bipush_97, xk_bipush_122, xk_bipush_119, xk_bipush_61, xk_bipush_59, xk_bipush_8, xk_bipush_33, xk_bipush_126, xk_bipush_m2, xk_bipush_m4, xk_iconst_4, xk_bipush_6, xk_iconst_2, xk_bipush_40, xk_iconst_3, xk_iconst_5, xk_iconst_m1, xk_bipush_m5, xk_bipush_12, xk_bipush_100, xk_bipush_26, xk_sipush_9999, xk_sipush_500, xk_bipush_7, xk_bipush_m126, xk_bipush_127, xk_bipush_23, xk_sipush_m1022, xk_sipush_1023, xk_bipush_52, xk_bipush_m3, xk_sipush_9830, xk_sipush_4800, xk_sipush_983, xk_sipush_480, xk_bipush_13, xk_bipush_18, xk_bipush_9, xk_bipush_32, xg_0_0, xp_0_0, xg_0_1, xp_0_1, xg_0_2, xp_0_2, xg_0_3, xp_0_3, xg_0_4, xp_0_4, xg_0_5, xp_0_5, xg_0_6, xp_0_6, xg_0_7, xp_0_7, xg_0_8, xp_0_8, xg_1_0, xp_1_0, xg_1_1, xp_1_1, xg_1_2, xp_1_2, xg_1_3, xp_1_3, xg_2_0, xp_2_0, xg_2_1, xp_2_1, xg_2_2, xp_2_2, xg_3_0, xp_3_0, xg_3_1, xp_3_1, xg_3_2, xp_3_2, xg_3_3, xp_3_3, xg_3_4, xp_3_4, xg_3_5, xp_3_5, xg_3_6, xp_3_6, xg_3_7, xp_3_7, xg_3_8, xp_3_8, xg_3_9, xp_3_9, xg_3_10, xp_3_10, xg_3_11, xp_3_11, xg_4_0, xp_4_0, xg_4_1, xp_4_1, xg_5_0, xp_5_0, xg_5_1, xp_5_1, xg_6_0, xp_6_0, xg_6_1, xp_6_1, xg_6_2, xp_6_2, xg_6_3, xp_6_3, xg_6_4, xp_6_4, xg_6_5, xp_6_5, xg_7_0, xp_7_0, xg_7_1, xp_7_1, xg_7_2, xp_7_2, xg_7_3, xp_7_3, xg_7_4, xp_7_4, xg_7_5, xp_7_5, xg_7_6, xp_7_6, xg_7_7, xp_7_7, xg_7_8, xp_7_8, xg_7_9, xp_7_9, xg_7_10, xp_7_10, xg_7_11, xp_7_11, xg_7_12, xp_7_12, xg_7_13, xp_7_13, fv0, fv1, fv2, fv3, kI_0, kI_1, stL, wipeL, entLn, entL, List.getElem?_cons_zero, List.getElem?_cons_succ, List.getElem?_nil, List.set_cons_zero, List.set_cons_succ, List.set_nil, List.length_cons, List.length_nil, List.cons_append, List.nil_append, List.replicate, Nat.reduceAdd, Nat.reduceLeDiff, Nat.reduceSub, true_and, and_true, x_callS, x_callSN, x_callI, x_callIN, x_callV0, x_callV1, x_callV2, x_callV3, x_callV4, x_callV5, x_callV6, x_callV7, callP, List.take_succ_cons, List.take_zero, List.take_nil, List.drop_succ_cons, List.drop_zero, List.drop_nil, List.getLast?_singleton, List.getLast?_cons_cons, Option.some.injEq, Value.ref.injEq, exists_eq_left, exists_eq_left', Nat.zero_le, Nat.add_zero, ldcV_f, ldcV_fn, ldcV_l, ldcV_d, Nat.reduceMul, Nat.le_refl, List.reverse_cons, List.reverse_nil, Option.toList, List.map_cons, List.map_nil, List.sum_cons, List.sum_nil, Value.category, tblW_n, tblW_c, Int.cast_ofNat_Int, Int.reduceAdd, Int.reduceToNat, ofI_n]
  obtain ⟨h1, h2, h3, h⟩ := h
  obtain ⟨q, hq, rfl⟩ := vp_in_of h1 (by decide)
  obtain ⟨p, hp, rfl⟩ := vp_in_of h2 (by decide)
  obtain ⟨k, hk, rfl⟩ := vp_in_of h3 (by decide)
  simp (disch := omega) only [nlt0, nge0, neq0, ngt0, nle0, nI_ltI, nI_leI, nI_eq, nI_cl, in_nI, false_implies, true_implies, not_false_eq_true, not_true_eq_false, and_true, true_and, nI_add, pk_mul, implies_true, not_lt0] at h
  simp only [sK_stI, sR_stI, sK_stF, sR_stF, sK_stIA, sR_stIA, sK_stFA, sR_stFA, sI_stI, sI_stF, sI_stIA, sI_stFA, sF_stI, sF_stF, sF_stIA, sF_stFA, Nat.left_eq_add, Nat.add_eq_left, Nat.add_left_cancel_iff, Nat.reduceEqDiff, Nat.reduceEqDiff, Nat.succ_ne_self, false_and, and_false, if_false, if_true, nI_succ_sub, Option.some.injEq, Prod.mk.injEq, exists_eq_left', true_and, and_true, retI, retF, retV, retZ1, retZ0, retL, retA, retN, Nat.reduceAdd, Nat.reduceMul, Nat.reduceLT]
  simp (disch := omega) only [nlt0, nge0, neq0, ngt0, nle0, nI_ltI, nI_leI, nI_eq, nI_cl, in_nI, false_implies, true_implies, not_false_eq_true, not_true_eq_false, and_true, true_and, nI_add, pk_mul, implies_true, not_lt0]
  exact h
def P_X7_lightAt (as : List Value) (S : SS) (E : Option Value → SS → Prop) : Prop := match as with
  | [.int q, .int p, .int k] => vp_in q 10 ∧ vp_in p 4 ∧ vp_in k 120 ∧ E (some (.int (nI (lK q.toNatClampNeg p.toNatClampNeg k.toNatClampNeg)))) S
  | _ => False
def Γ_X7_lightAt : List (MI × PT) := []
theorem hΓ_X7_lightAt (l : Launch) (G : Gx) : ∀ q ∈ Γ_X7_lightAt, Ct l G q.1 q.2 := fun _ h => absurd h List.not_mem_nil
set_option maxHeartbeats 1000000 in
theorem ct_X7_lightAt (l : Launch) (G : Gx) : Ct l G mi_X7_lightAt P_X7_lightAt := by
  refine Ct.ofV mo_X7_lightAt (fun as S E h => ?_)
  unfold P_X7_lightAt at h
  split at h
  case h_2 => exact h.elim
  rename_i q p k
  refine ⟨by simp [entL, mL_X7_lightAt], ?_⟩
  refine wpN_ok (Γ := Γ_X7_lightAt) (hΓ_X7_lightAt l G) so_X7_lightAt 3 _ _ _ _ _ _ ?_
  simp only [mL_X7_lightAt, mT_X7_lightAt, rc_X7_lightAt, rs_X7_lightAt, Γ_X7_lightAt, sg_X7_lightAt_0, wn_X7_lightAt_0, wp_c, ex_c, x_nop, x_goto, x_table, x_iinc, x_ldc, x_ldc2, x_iaload, x_faload, x_baload, x_caload, x_iastore, x_fastore, x_bastore, x_castore, x_aastore, x_alen, x_gets, x_new, x_newa, x_anew, x_invs, x_invi, x_invv, x_ret, x_iret, x_lret, x_fret, x_aret, x_lconst, x_fconst0, x_fconst1, x_fconst2, x_dconst0, x_dconst1, x_null, x_iadd, x_isub, x_imul, x_iand, x_ior, x_idiv, x_irem, x_ineg, x_ishl, x_ishr, x_land, x_lor, x_lushr, x_lshl, x_lcmp, x_i2l, x_l2i, x_i2c, x_i2f, x_f2d, x_d2i, x_d2l, x_fadd, x_fsub, x_fmul, x_fdiv, x_dadd, x_dsub, x_dmul, x_ddiv, x_fcmp, x_dcmp, x_dupI, x_dupR, x_dup2, x_popI, x_popR, ldP_I, ldP_L, ldP_F, ldP_D, ldP_R, ldP_N, x_iload, x_iload_n, x_lload, x_lload_n, x_fload, x_fload_n, x_dload, x_dload_n, x_aload, x_aload_n, x_istore, x_istore_n, x_lstore, x_lstore_n, x_fstore, x_fstore_n, x_dstore, x_dstore_n, x_astore, x_astore_n, x_astoreN, x_astore_nN, x_icmp_eq, x_icmp_ne, x_icmp_lt, x_icmp_ge, x_icmp_gt, x_icmp_le, x_if_eq, x_if_ne, x_if_lt, x_if_ge, x_if_gt, x_if_le, x_ifnull, x_ifnullR, x_ifnn, x_ifnnR, x_aaload2, x_cpI, x_cpF, x_bF, x_bD, x_oI, xk_bipush_120, xk_iconst_0, xk_bipush_m6, xk_iconst_1, xk_bipush_80, xk_bipush_48, xk_bipush_57, xk_bipush_10, xk_bipush_64, xk_bipush_46, xk_bipush_97, xk_bipush_122, xk_bipush_119, xk_bipush_61, xk_bipush_59, xk_bipush_8, xk_bipush_33, xk_bipush_126, xk_bipush_m2, xk_bipush_m4, xk_iconst_4, xk_bipush_6, xk_iconst_2, xk_bipush_40, xk_iconst_3, xk_iconst_5, xk_iconst_m1, xk_bipush_m5, xk_bipush_12, xk_bipush_100, xk_bipush_26, xk_sipush_9999, xk_sipush_500, xk_bipush_7, xk_bipush_m126, xk_bipush_127, xk_bipush_23, xk_sipush_m1022, xk_sipush_1023, xk_bipush_52, xk_bipush_m3, xk_sipush_9830, xk_sipush_4800, xk_sipush_983, xk_sipush_480, xk_bipush_13, xk_bipush_18, xk_bipush_9, xk_bipush_32, xg_0_0, xp_0_0, xg_0_1, xp_0_1, xg_0_2, xp_0_2, xg_0_3, xp_0_3, xg_0_4, xp_0_4, xg_0_5, xp_0_5, xg_0_6, xp_0_6, xg_0_7, xp_0_7, xg_0_8, xp_0_8, xg_1_0, xp_1_0, xg_1_1, xp_1_1, xg_1_2, xp_1_2, xg_1_3, xp_1_3, xg_2_0, xp_2_0, xg_2_1, xp_2_1, xg_2_2, xp_2_2, xg_3_0, xp_3_0, xg_3_1, xp_3_1, xg_3_2, xp_3_2, xg_3_3, xp_3_3, xg_3_4, xp_3_4, xg_3_5, xp_3_5, xg_3_6, xp_3_6, xg_3_7, xp_3_7, xg_3_8, xp_3_8, xg_3_9, xp_3_9, xg_3_10, xp_3_10, xg_3_11, xp_3_11, xg_4_0, xp_4_0, xg_4_1, xp_4_1, xg_5_0, xp_5_0, xg_5_1, xp_5_1, xg_6_0, xp_6_0, xg_6_1, xp_6_1, xg_6_2, xp_6_2, xg_6_3, xp_6_3, xg_6_4, xp_6_4, xg_6_5, xp_6_5, xg_7_0, xp_7_0, xg_7_1, xp_7_1, xg_7_2, xp_7_2, xg_7_3, xp_7_3, xg_7_4, xp_7_4, xg_7_5, xp_7_5, xg_7_6, xp_7_6, xg_7_7, xp_7_7, xg_7_8, xp_7_8, xg_7_9, xp_7_9, xg_7_10, xp_7_10, xg_7_11, xp_7_11, xg_7_12, xp_7_12, xg_7_13, xp_7_13, fv0, fv1, fv2, fv3, kI_0, kI_1, stL, wipeL, entLn, entL, List.getElem?_cons_zero, List.getElem?_cons_succ, List.getElem?_nil, List.set_cons_zero, List.set_cons_succ, List.set_nil, List.length_cons, List.length_nil, List.cons_append, List.nil_append, List.replicate, Nat.reduceAdd, Nat.reduceLeDiff, Nat.reduceSub, true_and, and_true, x_callS, x_callSN, x_callI, x_callIN, x_callV0, x_callV1, x_callV2, x_callV3, x_callV4, x_callV5, x_callV6, x_callV7, callP, List.take_succ_cons, List.take_zero, List.take_nil, List.drop_succ_cons, List.drop_zero, List.drop_nil, List.getLast?_singleton, List.getLast?_cons_cons, Option.some.injEq, Value.ref.injEq, exists_eq_left, exists_eq_left', Nat.zero_le, Nat.add_zero, ldcV_f, ldcV_fn, ldcV_l, ldcV_d, Nat.reduceMul, Nat.le_refl, List.reverse_cons, List.reverse_nil, Option.toList, List.map_cons, List.map_nil, List.sum_cons, List.sum_nil, Value.category, tblW_n, tblW_c, Int.cast_ofNat_Int, Int.reduceAdd, Int.reduceToNat, ofI_n]
  obtain ⟨h1, h2, h3, h⟩ := h
  obtain ⟨q, hq, rfl⟩ := vp_in_of h1 (by decide)
  obtain ⟨p, hp, rfl⟩ := vp_in_of h2 (by decide)
  obtain ⟨k, hk, rfl⟩ := vp_in_of h3 (by decide)
  simp (disch := omega) only [nlt0, nge0, neq0, ngt0, nle0, nI_ltI, nI_leI, nI_eq, nI_cl, in_nI, false_implies, true_implies, not_false_eq_true, not_true_eq_false, and_true, true_and, nI_add, pk_mul, implies_true, not_lt0] at h
  simp only [sK_stI, sR_stI, sK_stF, sR_stF, sK_stIA, sR_stIA, sK_stFA, sR_stFA, sI_stI, sI_stF, sI_stIA, sI_stFA, sF_stI, sF_stF, sF_stIA, sF_stFA, Nat.left_eq_add, Nat.add_eq_left, Nat.add_left_cancel_iff, Nat.reduceEqDiff, Nat.reduceEqDiff, Nat.succ_ne_self, false_and, and_false, if_false, if_true, nI_succ_sub, Option.some.injEq, Prod.mk.injEq, exists_eq_left', true_and, and_true, retI, retF, retV, retZ1, retZ0, retL, retA, retN, Nat.reduceAdd, Nat.reduceMul, Nat.reduceLT]
  simp (disch := omega) only [nlt0, nge0, neq0, ngt0, nle0, nI_ltI, nI_leI, nI_eq, nI_cl, in_nI, false_implies, true_implies, not_false_eq_true, not_true_eq_false, and_true, true_and, nI_add, pk_mul, implies_true, not_lt0]
  exact h
def P_X7_hasLetter (as : List Value) (S : SS) (E : Option Value → SS → Prop) : Prop := match as with
  | [.ref y, .int q, .int p, .int k] => ModAt S y ∧ vp_in q 10 ∧ vp_in p 4 ∧ vp_in k 120 ∧ E (some (.int (bI (¬ (mG S y q.toNatClampNeg p.toNatClampNeg).t k.toNatClampNeg = mI 6)))) S
  | _ => False
def Γ_X7_hasLetter : List (MI × PT) := [(mi_X7_inkAt, P_X7_inkAt)]
theorem hΓ_X7_hasLetter (l : Launch) (G : Gx) : ∀ q ∈ Γ_X7_hasLetter, Ct l G q.1 q.2 := List.forall_mem_cons.mpr ⟨ct_X7_inkAt l G, fun _ h => absurd h List.not_mem_nil⟩
set_option maxHeartbeats 1000000 in
theorem ct_X7_hasLetter (l : Launch) (G : Gx) : Ct l G mi_X7_hasLetter P_X7_hasLetter := by
  refine Ct.ofV mo_X7_hasLetter (fun as S E h => ?_)
  unfold P_X7_hasLetter at h
  split at h
  case h_2 => exact h.elim
  rename_i y q p k
  refine ⟨by simp [entL, mL_X7_hasLetter], ?_⟩
  refine wpN_ok (Γ := Γ_X7_hasLetter) (hΓ_X7_hasLetter l G) so_X7_hasLetter 3 _ _ _ _ _ _ ?_
  simp only [mL_X7_hasLetter, mT_X7_hasLetter, rc_X7_hasLetter, rs_X7_hasLetter, Γ_X7_hasLetter, sg_X7_hasLetter_0, sg_X7_hasLetter_20, sg_X7_hasLetter_21, wn_X7_hasLetter_0, wn_X7_hasLetter_20, wn_X7_hasLetter_21, wp_c, ex_c, x_nop, x_goto, x_table, x_iinc, x_ldc, x_ldc2, x_iaload, x_faload, x_baload, x_caload, x_iastore, x_fastore, x_bastore, x_castore, x_aastore, x_alen, x_gets, x_new, x_newa, x_anew, x_invs, x_invi, x_invv, x_ret, x_iret, x_lret, x_fret, x_aret, x_lconst, x_fconst0, x_fconst1, x_fconst2, x_dconst0, x_dconst1, x_null, x_iadd, x_isub, x_imul, x_iand, x_ior, x_idiv, x_irem, x_ineg, x_ishl, x_ishr, x_land, x_lor, x_lushr, x_lshl, x_lcmp, x_i2l, x_l2i, x_i2c, x_i2f, x_f2d, x_d2i, x_d2l, x_fadd, x_fsub, x_fmul, x_fdiv, x_dadd, x_dsub, x_dmul, x_ddiv, x_fcmp, x_dcmp, x_dupI, x_dupR, x_dup2, x_popI, x_popR, ldP_I, ldP_L, ldP_F, ldP_D, ldP_R, ldP_N, x_iload, x_iload_n, x_lload, x_lload_n, x_fload, x_fload_n, x_dload, x_dload_n, x_aload, x_aload_n, x_istore, x_istore_n, x_lstore, x_lstore_n, x_fstore, x_fstore_n, x_dstore, x_dstore_n, x_astore, x_astore_n, x_astoreN, x_astore_nN, x_icmp_eq, x_icmp_ne, x_icmp_lt, x_icmp_ge, x_icmp_gt, x_icmp_le, x_if_eq, x_if_ne, x_if_lt, x_if_ge, x_if_gt, x_if_le, x_ifnull, x_ifnullR, x_ifnn, x_ifnnR, x_aaload2, x_cpI, x_cpF, x_bF, x_bD, x_oI, xk_bipush_120, xk_iconst_0, xk_bipush_m6, xk_iconst_1, xk_bipush_80, xk_bipush_48, xk_bipush_57, xk_bipush_10, xk_bipush_64, xk_bipush_46, xk_bipush_97, xk_bipush_122, xk_bipush_119, xk_bipush_61, xk_bipush_59, xk_bipush_8, xk_bipush_33, xk_bipush_126, xk_bipush_m2, xk_bipush_m4, xk_iconst_4, xk_bipush_6, xk_iconst_2, xk_bipush_40, xk_iconst_3, xk_iconst_5, xk_iconst_m1, xk_bipush_m5, xk_bipush_12, xk_bipush_100, xk_bipush_26, xk_sipush_9999, xk_sipush_500, xk_bipush_7, xk_bipush_m126, xk_bipush_127, xk_bipush_23, xk_sipush_m1022, xk_sipush_1023, xk_bipush_52, xk_bipush_m3, xk_sipush_9830, xk_sipush_4800, xk_sipush_983, xk_sipush_480, xk_bipush_13, xk_bipush_18, xk_bipush_9, xk_bipush_32, xg_0_0, xp_0_0, xg_0_1, xp_0_1, xg_0_2, xp_0_2, xg_0_3, xp_0_3, xg_0_4, xp_0_4, xg_0_5, xp_0_5, xg_0_6, xp_0_6, xg_0_7, xp_0_7, xg_0_8, xp_0_8, xg_1_0, xp_1_0, xg_1_1, xp_1_1, xg_1_2, xp_1_2, xg_1_3, xp_1_3, xg_2_0, xp_2_0, xg_2_1, xp_2_1, xg_2_2, xp_2_2, xg_3_0, xp_3_0, xg_3_1, xp_3_1, xg_3_2, xp_3_2, xg_3_3, xp_3_3, xg_3_4, xp_3_4, xg_3_5, xp_3_5, xg_3_6, xp_3_6, xg_3_7, xp_3_7, xg_3_8, xp_3_8, xg_3_9, xp_3_9, xg_3_10, xp_3_10, xg_3_11, xp_3_11, xg_4_0, xp_4_0, xg_4_1, xp_4_1, xg_5_0, xp_5_0, xg_5_1, xp_5_1, xg_6_0, xp_6_0, xg_6_1, xp_6_1, xg_6_2, xp_6_2, xg_6_3, xp_6_3, xg_6_4, xp_6_4, xg_6_5, xp_6_5, xg_7_0, xp_7_0, xg_7_1, xp_7_1, xg_7_2, xp_7_2, xg_7_3, xp_7_3, xg_7_4, xp_7_4, xg_7_5, xp_7_5, xg_7_6, xp_7_6, xg_7_7, xp_7_7, xg_7_8, xp_7_8, xg_7_9, xp_7_9, xg_7_10, xp_7_10, xg_7_11, xp_7_11, xg_7_12, xp_7_12, xg_7_13, xp_7_13, fv0, fv1, fv2, fv3, kI_0, kI_1, stL, wipeL, entLn, entL, List.getElem?_cons_zero, List.getElem?_cons_succ, List.getElem?_nil, List.set_cons_zero, List.set_cons_succ, List.set_nil, List.length_cons, List.length_nil, List.cons_append, List.nil_append, List.replicate, Nat.reduceAdd, Nat.reduceLeDiff, Nat.reduceSub, true_and, and_true, x_callS, x_callSN, x_callI, x_callIN, x_callV0, x_callV1, x_callV2, x_callV3, x_callV4, x_callV5, x_callV6, x_callV7, callP, List.take_succ_cons, List.take_zero, List.take_nil, List.drop_succ_cons, List.drop_zero, List.drop_nil, List.getLast?_singleton, List.getLast?_cons_cons, Option.some.injEq, Value.ref.injEq, exists_eq_left, exists_eq_left', Nat.zero_le, Nat.add_zero, ldcV_f, ldcV_fn, ldcV_l, ldcV_d, Nat.reduceMul, Nat.le_refl, List.reverse_cons, List.reverse_nil, Option.toList, List.map_cons, List.map_nil, List.sum_cons, List.sum_nil, Value.category, tblW_n, tblW_c, Int.cast_ofNat_Int, Int.reduceAdd, Int.reduceToNat, ofI_n, rc_X7_inkAt, rs_X7_inkAt, P_X7_inkAt]
  obtain ⟨⟨m0, m1, m2, m3, m4, m5, m6, m7, m8, m9, m10⟩, h1, h2, h3, h⟩ := h
  obtain ⟨q, hq, rfl⟩ := vp_in_of h1 (by decide)
  obtain ⟨p, hp, rfl⟩ := vp_in_of h2 (by decide)
  obtain ⟨k, hk, rfl⟩ := vp_in_of h3 (by decide)
  have hi := iK_lt hq hp hk
  simp (disch := omega) only [nlt0, nge0, neq0, ngt0, nle0, nI_ltI, nI_leI, nI_eq, nI_cl, in_nI, false_implies, true_implies, not_false_eq_true, not_true_eq_false, and_true, true_and, nI_add, pk_mul, implies_true, not_lt0] at h
  simp only [m0, m1, m2, m3, m4, m5, m6, m7, m8, m9, m10, sK_stI, sR_stI, sK_stF, sR_stF, sK_stIA, sR_stIA, sK_stFA, sR_stFA, sI_stI, sI_stF, sI_stIA, sI_stFA, sF_stI, sF_stF, sF_stIA, sF_stFA, Nat.left_eq_add, Nat.add_eq_left, Nat.add_left_cancel_iff, Nat.reduceEqDiff, Nat.reduceEqDiff, Nat.succ_ne_self, false_and, and_false, if_false, if_true, nI_succ_sub, Option.some.injEq, Prod.mk.injEq, exists_eq_left', true_and, and_true, retI, retF, retV, retZ1, retZ0, retL, retA, retN, Nat.reduceAdd, Nat.reduceMul, Nat.reduceLT]
  simp (disch := omega) only [nlt0, nge0, neq0, ngt0, nle0, nI_ltI, nI_leI, nI_eq, nI_cl, in_nI, false_implies, true_implies, not_false_eq_true, not_true_eq_false, and_true, true_and, nI_add, pk_mul, implies_true, not_lt0]
  have e : (mG S y q p).t k = mI 6 ↔ sI S (y + 1) (iK q p k) = mI 6 := mtI_6 _
  refine ⟨hq, hp, hk, by omega, fun c => ?_, fun c => ?_⟩
  · rw [bI_f (by simp [e, c])] at h
    exact h
  · rw [bI_t (by simp [e, c])] at h
    exact h
def P_X7_promisedTo (as : List Value) (S : SS) (E : Option Value → SS → Prop) : Prop := match as with
  | [.ref y, .int q, .int p, .int k] => ModAt S y ∧ vp_in q 10 ∧ vp_in p 4 ∧ vp_in k 120 ∧ E (some (.int ((mG S y q.toNatClampNeg p.toNatClampNeg).p k.toNatClampNeg))) S
  | _ => False
def Γ_X7_promisedTo : List (MI × PT) := [(mi_X7_inkAt, P_X7_inkAt)]
theorem hΓ_X7_promisedTo (l : Launch) (G : Gx) : ∀ q ∈ Γ_X7_promisedTo, Ct l G q.1 q.2 := List.forall_mem_cons.mpr ⟨ct_X7_inkAt l G, fun _ h => absurd h List.not_mem_nil⟩
set_option maxHeartbeats 1000000 in
theorem ct_X7_promisedTo (l : Launch) (G : Gx) : Ct l G mi_X7_promisedTo P_X7_promisedTo := by
  refine Ct.ofV mo_X7_promisedTo (fun as S E h => ?_)
  unfold P_X7_promisedTo at h
  split at h
  case h_2 => exact h.elim
  rename_i y q p k
  refine ⟨by simp [entL, mL_X7_promisedTo], ?_⟩
  refine wpN_ok (Γ := Γ_X7_promisedTo) (hΓ_X7_promisedTo l G) so_X7_promisedTo 3 _ _ _ _ _ _ ?_
  simp only [mL_X7_promisedTo, mT_X7_promisedTo, rc_X7_promisedTo, rs_X7_promisedTo, Γ_X7_promisedTo, sg_X7_promisedTo_0, wn_X7_promisedTo_0, wp_c, ex_c, x_nop, x_goto, x_table, x_iinc, x_ldc, x_ldc2, x_iaload, x_faload, x_baload, x_caload, x_iastore, x_fastore, x_bastore, x_castore, x_aastore, x_alen, x_gets, x_new, x_newa, x_anew, x_invs, x_invi, x_invv, x_ret, x_iret, x_lret, x_fret, x_aret, x_lconst, x_fconst0, x_fconst1, x_fconst2, x_dconst0, x_dconst1, x_null, x_iadd, x_isub, x_imul, x_iand, x_ior, x_idiv, x_irem, x_ineg, x_ishl, x_ishr, x_land, x_lor, x_lushr, x_lshl, x_lcmp, x_i2l, x_l2i, x_i2c, x_i2f, x_f2d, x_d2i, x_d2l, x_fadd, x_fsub, x_fmul, x_fdiv, x_dadd, x_dsub, x_dmul, x_ddiv, x_fcmp, x_dcmp, x_dupI, x_dupR, x_dup2, x_popI, x_popR, ldP_I, ldP_L, ldP_F, ldP_D, ldP_R, ldP_N, x_iload, x_iload_n, x_lload, x_lload_n, x_fload, x_fload_n, x_dload, x_dload_n, x_aload, x_aload_n, x_istore, x_istore_n, x_lstore, x_lstore_n, x_fstore, x_fstore_n, x_dstore, x_dstore_n, x_astore, x_astore_n, x_astoreN, x_astore_nN, x_icmp_eq, x_icmp_ne, x_icmp_lt, x_icmp_ge, x_icmp_gt, x_icmp_le, x_if_eq, x_if_ne, x_if_lt, x_if_ge, x_if_gt, x_if_le, x_ifnull, x_ifnullR, x_ifnn, x_ifnnR, x_aaload2, x_cpI, x_cpF, x_bF, x_bD, x_oI, xk_bipush_120, xk_iconst_0, xk_bipush_m6, xk_iconst_1, xk_bipush_80, xk_bipush_48, xk_bipush_57, xk_bipush_10, xk_bipush_64, xk_bipush_46, xk_bipush_97, xk_bipush_122, xk_bipush_119, xk_bipush_61, xk_bipush_59, xk_bipush_8, xk_bipush_33, xk_bipush_126, xk_bipush_m2, xk_bipush_m4, xk_iconst_4, xk_bipush_6, xk_iconst_2, xk_bipush_40, xk_iconst_3, xk_iconst_5, xk_iconst_m1, xk_bipush_m5, xk_bipush_12, xk_bipush_100, xk_bipush_26, xk_sipush_9999, xk_sipush_500, xk_bipush_7, xk_bipush_m126, xk_bipush_127, xk_bipush_23, xk_sipush_m1022, xk_sipush_1023, xk_bipush_52, xk_bipush_m3, xk_sipush_9830, xk_sipush_4800, xk_sipush_983, xk_sipush_480, xk_bipush_13, xk_bipush_18, xk_bipush_9, xk_bipush_32, xg_0_0, xp_0_0, xg_0_1, xp_0_1, xg_0_2, xp_0_2, xg_0_3, xp_0_3, xg_0_4, xp_0_4, xg_0_5, xp_0_5, xg_0_6, xp_0_6, xg_0_7, xp_0_7, xg_0_8, xp_0_8, xg_1_0, xp_1_0, xg_1_1, xp_1_1, xg_1_2, xp_1_2, xg_1_3, xp_1_3, xg_2_0, xp_2_0, xg_2_1, xp_2_1, xg_2_2, xp_2_2, xg_3_0, xp_3_0, xg_3_1, xp_3_1, xg_3_2, xp_3_2, xg_3_3, xp_3_3, xg_3_4, xp_3_4, xg_3_5, xp_3_5, xg_3_6, xp_3_6, xg_3_7, xp_3_7, xg_3_8, xp_3_8, xg_3_9, xp_3_9, xg_3_10, xp_3_10, xg_3_11, xp_3_11, xg_4_0, xp_4_0, xg_4_1, xp_4_1, xg_5_0, xp_5_0, xg_5_1, xp_5_1, xg_6_0, xp_6_0, xg_6_1, xp_6_1, xg_6_2, xp_6_2, xg_6_3, xp_6_3, xg_6_4, xp_6_4, xg_6_5, xp_6_5, xg_7_0, xp_7_0, xg_7_1, xp_7_1, xg_7_2, xp_7_2, xg_7_3, xp_7_3, xg_7_4, xp_7_4, xg_7_5, xp_7_5, xg_7_6, xp_7_6, xg_7_7, xp_7_7, xg_7_8, xp_7_8, xg_7_9, xp_7_9, xg_7_10, xp_7_10, xg_7_11, xp_7_11, xg_7_12, xp_7_12, xg_7_13, xp_7_13, fv0, fv1, fv2, fv3, kI_0, kI_1, stL, wipeL, entLn, entL, List.getElem?_cons_zero, List.getElem?_cons_succ, List.getElem?_nil, List.set_cons_zero, List.set_cons_succ, List.set_nil, List.length_cons, List.length_nil, List.cons_append, List.nil_append, List.replicate, Nat.reduceAdd, Nat.reduceLeDiff, Nat.reduceSub, true_and, and_true, x_callS, x_callSN, x_callI, x_callIN, x_callV0, x_callV1, x_callV2, x_callV3, x_callV4, x_callV5, x_callV6, x_callV7, callP, List.take_succ_cons, List.take_zero, List.take_nil, List.drop_succ_cons, List.drop_zero, List.drop_nil, List.getLast?_singleton, List.getLast?_cons_cons, Option.some.injEq, Value.ref.injEq, exists_eq_left, exists_eq_left', Nat.zero_le, Nat.add_zero, ldcV_f, ldcV_fn, ldcV_l, ldcV_d, Nat.reduceMul, Nat.le_refl, List.reverse_cons, List.reverse_nil, Option.toList, List.map_cons, List.map_nil, List.sum_cons, List.sum_nil, Value.category, tblW_n, tblW_c, Int.cast_ofNat_Int, Int.reduceAdd, Int.reduceToNat, ofI_n, rc_X7_inkAt, rs_X7_inkAt, P_X7_inkAt]
  obtain ⟨⟨m0, m1, m2, m3, m4, m5, m6, m7, m8, m9, m10⟩, h1, h2, h3, h⟩ := h
  obtain ⟨q, hq, rfl⟩ := vp_in_of h1 (by decide)
  obtain ⟨p, hp, rfl⟩ := vp_in_of h2 (by decide)
  obtain ⟨k, hk, rfl⟩ := vp_in_of h3 (by decide)
  have hi := iK_lt hq hp hk
  simp (disch := omega) only [nlt0, nge0, neq0, ngt0, nle0, nI_ltI, nI_leI, nI_eq, nI_cl, in_nI, false_implies, true_implies, not_false_eq_true, not_true_eq_false, and_true, true_and, nI_add, pk_mul, implies_true, not_lt0] at h
  simp only [m0, m1, m2, m3, m4, m5, m6, m7, m8, m9, m10, sK_stI, sR_stI, sK_stF, sR_stF, sK_stIA, sR_stIA, sK_stFA, sR_stFA, sI_stI, sI_stF, sI_stIA, sI_stFA, sF_stI, sF_stF, sF_stIA, sF_stFA, Nat.left_eq_add, Nat.add_eq_left, Nat.add_left_cancel_iff, Nat.reduceEqDiff, Nat.reduceEqDiff, Nat.succ_ne_self, false_and, and_false, if_false, if_true, nI_succ_sub, Option.some.injEq, Prod.mk.injEq, exists_eq_left', true_and, and_true, retI, retF, retV, retZ1, retZ0, retL, retA, retN, Nat.reduceAdd, Nat.reduceMul, Nat.reduceLT]
  simp (disch := omega) only [nlt0, nge0, neq0, ngt0, nle0, nI_ltI, nI_leI, nI_eq, nI_cl, in_nI, false_implies, true_implies, not_false_eq_true, not_true_eq_false, and_true, true_and, nI_add, pk_mul, implies_true, not_lt0]
  exact ⟨hq, hp, hk, by omega, h⟩
theorem fl_dmV {D : DV} {w : Nat} {x : UInt32} (hs : StV D) (hx : okL x) (hw : w < 5) (r : Nat) (hr : r < 2) : vf_n32 (FP.fmul x (FP.i2f (nI 100 - D.st r * D.pr w))) ∧ vf_n32 (dmF (D.st r * D.pr w) x) ∧ okL (dmF (D.st r * D.pr w) x) := by
  obtain ⟨⟨a, ha, ea⟩, ⟨b, hb, eb⟩, -, -, hp⟩ := hs
  obtain ⟨q, hq, eq⟩ := hp w hw
  unfold dmF
  match r, hr with
  | 0, _ =>
    have := Nat.mul_le_mul ha hq
    rw [ea, eq, pk_mul, pk_sub (by omega)]
    exact fl_dm hx (by omega) (by omega)
  | 1, _ =>
    have := Nat.mul_le_mul hb hq
    rw [eb, eq, pk_mul, pk_sub (by omega)]
    exact fl_dm hx (by omega) (by omega)
def P_X7_clouded (as : List Value) (S : SS) (E : Option Value → SS → Prop) : Prop := match as with
  | [.ref y, .int q, .float x, .int k, .int j, .int pr] => ModAt S y ∧ vp_in q 10 ∧ StV (mV S y q.toNatClampNeg) ∧ okL x ∧ vp_in k 120 ∧ vp_in j 120 ∧ ∃ w, w < 5 ∧ pr = (mV S y q.toNatClampNeg).pr w ∧ E (some (.float (dimV (mV S y q.toNatClampNeg) x w (dist k.toNatClampNeg j.toNatClampNeg)))) S
  | _ => False
def Γ_X7_clouded : List (MI × PT) := []
theorem hΓ_X7_clouded (l : Launch) (G : Gx) : ∀ q ∈ Γ_X7_clouded, Ct l G q.1 q.2 := fun _ h => absurd h List.not_mem_nil
set_option maxHeartbeats 1000000 in
theorem ct_X7_clouded (l : Launch) (G : Gx) : Ct l G mi_X7_clouded P_X7_clouded := by
  refine Ct.ofV mo_X7_clouded (fun as S E h => ?_)
  unfold P_X7_clouded at h
  split at h
  case h_2 => exact h.elim
  rename_i y q x k j pr
  refine ⟨by simp [entL, mL_X7_clouded], ?_⟩
  refine wpN_ok (Γ := Γ_X7_clouded) (hΓ_X7_clouded l G) so_X7_clouded 9 _ _ _ _ _ _ ?_
  simp only [mL_X7_clouded, mT_X7_clouded, rc_X7_clouded, rs_X7_clouded, Γ_X7_clouded, sg_X7_clouded_0, sg_X7_clouded_35, sg_X7_clouded_37, sg_X7_clouded_50, sg_X7_clouded_52, sg_X7_clouded_66, sg_X7_clouded_68, sg_X7_clouded_81, sg_X7_clouded_83, wn_X7_clouded_0, wn_X7_clouded_35, wn_X7_clouded_37, wn_X7_clouded_50, wn_X7_clouded_52, wn_X7_clouded_66, wn_X7_clouded_68, wn_X7_clouded_81, wn_X7_clouded_83, wp_c, ex_c, x_nop, x_goto, x_table, x_iinc, x_ldc, x_ldc2, x_iaload, x_faload, x_baload, x_caload, x_iastore, x_fastore, x_bastore, x_castore, x_aastore, x_alen, x_gets, x_new, x_newa, x_anew, x_invs, x_invi, x_invv, x_ret, x_iret, x_lret, x_fret, x_aret, x_lconst, x_fconst0, x_fconst1, x_fconst2, x_dconst0, x_dconst1, x_null, x_iadd, x_isub, x_imul, x_iand, x_ior, x_idiv, x_irem, x_ineg, x_ishl, x_ishr, x_land, x_lor, x_lushr, x_lshl, x_lcmp, x_i2l, x_l2i, x_i2c, x_i2f, x_f2d, x_d2i, x_d2l, x_fadd, x_fsub, x_fmul, x_fdiv, x_dadd, x_dsub, x_dmul, x_ddiv, x_fcmp, x_dcmp, x_dupI, x_dupR, x_dup2, x_popI, x_popR, ldP_I, ldP_L, ldP_F, ldP_D, ldP_R, ldP_N, x_iload, x_iload_n, x_lload, x_lload_n, x_fload, x_fload_n, x_dload, x_dload_n, x_aload, x_aload_n, x_istore, x_istore_n, x_lstore, x_lstore_n, x_fstore, x_fstore_n, x_dstore, x_dstore_n, x_astore, x_astore_n, x_astoreN, x_astore_nN, x_icmp_eq, x_icmp_ne, x_icmp_lt, x_icmp_ge, x_icmp_gt, x_icmp_le, x_if_eq, x_if_ne, x_if_lt, x_if_ge, x_if_gt, x_if_le, x_ifnull, x_ifnullR, x_ifnn, x_ifnnR, x_aaload2, x_cpI, x_cpF, x_bF, x_bD, x_oI, xk_bipush_120, xk_iconst_0, xk_bipush_m6, xk_iconst_1, xk_bipush_80, xk_bipush_48, xk_bipush_57, xk_bipush_10, xk_bipush_64, xk_bipush_46, xk_bipush_97, xk_bipush_122, xk_bipush_119, xk_bipush_61, xk_bipush_59, xk_bipush_8, xk_bipush_33, xk_bipush_126, xk_bipush_m2, xk_bipush_m4, xk_iconst_4, xk_bipush_6, xk_iconst_2, xk_bipush_40, xk_iconst_3, xk_iconst_5, xk_iconst_m1, xk_bipush_m5, xk_bipush_12, xk_bipush_100, xk_bipush_26, xk_sipush_9999, xk_sipush_500, xk_bipush_7, xk_bipush_m126, xk_bipush_127, xk_bipush_23, xk_sipush_m1022, xk_sipush_1023, xk_bipush_52, xk_bipush_m3, xk_sipush_9830, xk_sipush_4800, xk_sipush_983, xk_sipush_480, xk_bipush_13, xk_bipush_18, xk_bipush_9, xk_bipush_32, xg_0_0, xp_0_0, xg_0_1, xp_0_1, xg_0_2, xp_0_2, xg_0_3, xp_0_3, xg_0_4, xp_0_4, xg_0_5, xp_0_5, xg_0_6, xp_0_6, xg_0_7, xp_0_7, xg_0_8, xp_0_8, xg_1_0, xp_1_0, xg_1_1, xp_1_1, xg_1_2, xp_1_2, xg_1_3, xp_1_3, xg_2_0, xp_2_0, xg_2_1, xp_2_1, xg_2_2, xp_2_2, xg_3_0, xp_3_0, xg_3_1, xp_3_1, xg_3_2, xp_3_2, xg_3_3, xp_3_3, xg_3_4, xp_3_4, xg_3_5, xp_3_5, xg_3_6, xp_3_6, xg_3_7, xp_3_7, xg_3_8, xp_3_8, xg_3_9, xp_3_9, xg_3_10, xp_3_10, xg_3_11, xp_3_11, xg_4_0, xp_4_0, xg_4_1, xp_4_1, xg_5_0, xp_5_0, xg_5_1, xp_5_1, xg_6_0, xp_6_0, xg_6_1, xp_6_1, xg_6_2, xp_6_2, xg_6_3, xp_6_3, xg_6_4, xp_6_4, xg_6_5, xp_6_5, xg_7_0, xp_7_0, xg_7_1, xp_7_1, xg_7_2, xp_7_2, xg_7_3, xp_7_3, xg_7_4, xp_7_4, xg_7_5, xp_7_5, xg_7_6, xp_7_6, xg_7_7, xp_7_7, xg_7_8, xp_7_8, xg_7_9, xp_7_9, xg_7_10, xp_7_10, xg_7_11, xp_7_11, xg_7_12, xp_7_12, xg_7_13, xp_7_13, fv0, fv1, fv2, fv3, kI_0, kI_1, stL, wipeL, entLn, entL, List.getElem?_cons_zero, List.getElem?_cons_succ, List.getElem?_nil, List.set_cons_zero, List.set_cons_succ, List.set_nil, List.length_cons, List.length_nil, List.cons_append, List.nil_append, List.replicate, Nat.reduceAdd, Nat.reduceLeDiff, Nat.reduceSub, true_and, and_true, x_callS, x_callSN, x_callI, x_callIN, x_callV0, x_callV1, x_callV2, x_callV3, x_callV4, x_callV5, x_callV6, x_callV7, callP, List.take_succ_cons, List.take_zero, List.take_nil, List.drop_succ_cons, List.drop_zero, List.drop_nil, List.getLast?_singleton, List.getLast?_cons_cons, Option.some.injEq, Value.ref.injEq, exists_eq_left, exists_eq_left', Nat.zero_le, Nat.add_zero, ldcV_f, ldcV_fn, ldcV_l, ldcV_d, Nat.reduceMul, Nat.le_refl, List.reverse_cons, List.reverse_nil, Option.toList, List.map_cons, List.map_nil, List.sum_cons, List.sum_nil, Value.category, tblW_n, tblW_c, Int.cast_ofNat_Int, Int.reduceAdd, Int.reduceToNat, ofI_n]
  obtain ⟨⟨m0, m1, m2, m3, m4, m5, m6, m7, m8, m9, m10⟩, h1, hs, hx, h2, h3, w, hw, rfl, h⟩ := h
  obtain ⟨q, hq, rfl⟩ := vp_in_of h1 (by decide)
  obtain ⟨k, hk, rfl⟩ := vp_in_of h2 (by decide)
  obtain ⟨j, hj, rfl⟩ := vp_in_of h3 (by decide)
  simp (disch := omega) only [nlt0, nge0, neq0, ngt0, nle0, nI_ltI, nI_leI, nI_eq, nI_cl, in_nI, false_implies, true_implies, not_false_eq_true, not_true_eq_false, and_true, true_and, nI_add, pk_mul, implies_true, not_lt0] at h hs
  have h12 : ¬ nI 12 = 0 := by decide
  have e1 : ∀ a, a < 120 → nI a / nI 12 = nI (a / 12) := fun a ha => pk_div (by omega) (by omega) (by omega)
  have e2 : ∀ a, a < 120 → nI a - nI (a / 12) * nI 12 = nI (a % 12) := fun a ha => by rw [← e1 a ha]; exact pk_rem (by omega) (by omega) (by omega)
  simp only [m0, m1, m2, m3, m4, m5, m6, m7, m8, m9, m10, h12, e1 k hk, e1 j hj, e2 k hk, e2 j hj, sK_stI, sR_stI, sK_stF, sR_stF, sK_stIA, sR_stIA, sK_stFA, sR_stFA, sI_stI, sI_stF, sI_stIA, sI_stFA, sF_stI, sF_stF, sF_stIA, sF_stFA, Nat.left_eq_add, Nat.add_eq_left, Nat.add_left_cancel_iff, Nat.reduceEqDiff, Nat.reduceEqDiff, Nat.succ_ne_self, false_and, and_false, if_false, if_true, nI_succ_sub, Option.some.injEq, Prod.mk.injEq, exists_eq_left', true_and, and_true, retI, retF, retV, retZ1, retZ0, retL, retA, retN, Nat.reduceAdd, Nat.reduceMul, Nat.reduceLT]
  have fin : ∀ t, t = dist k j → (t = 0 → E (some (.float x)) S) ∧ (¬ t = 0 → (t ≤ 2 → vp_in (nI (983 * q + t) - nI 1) 9830 ∧ vf_n32 (FP.fmul x (FP.i2f (nI 100 - sI S (y + 1) (nI (983 * q + t) - nI 1).toNatClampNeg * (mV S y q).pr w))) ∧
      vf_n32 (FP.fdiv (FP.fmul x (FP.i2f (nI 100 - sI S (y + 1) (nI (983 * q + t) - nI 1).toNatClampNeg * (mV S y q).pr w))) f100) ∧
      E (some (.float (FP.fdiv (FP.fmul x (FP.i2f (nI 100 - sI S (y + 1) (nI (983 * q + t) - nI 1).toNatClampNeg * (mV S y q).pr w))) f100))) S) ∧ (¬ t ≤ 2 → E (some (.float x)) S)) := by
    intro t ht
    rw [← ht] at h
    refine ⟨fun c => ?_, fun c => ⟨fun c2 => ?_, fun c2 => ?_⟩⟩
    · rwa [dimV_far (by omega)] at h
    · rw [pk_sub (by omega), nI_cl (by omega)]
      unfold dimV at h
      by_cases c3 : t = 1
      · subst c3
        rw [if_pos rfl] at h
        obtain ⟨a1, a2, a3⟩ := fl_dmV hs hx hw 0 (by omega)
        exact ⟨vp_in_nI (by omega) (by omega), a1, a2, h⟩
      · have c4 : t = 2 := by omega
        subst c4
        rw [if_neg (by omega), if_pos rfl] at h
        obtain ⟨a1, a2, a3⟩ := fl_dmV hs hx hw 1 (by omega)
        exact ⟨vp_in_nI (by omega) (by omega), a1, a2, h⟩
    · rwa [dimV_far (by omega)] at h
  have sub : ∀ a b : Nat, a < 120 → b < 120 → (b ≤ a ∧ nI a - nI b = nI (a - b)) ∨ (¬ b ≤ a ∧ (0 ≤ nI a - nI b) = False ∧ -(nI a - nI b) = nI (b - a)) := by
    intro a b ha hb
    have e := abs_nI (a := a) (b := b) (by omega) (by omega)
    unfold adiff at e
    by_cases c : b ≤ a
    · exact Or.inl ⟨c, pk_sub c⟩
    · have n : ¬ 0 ≤ nI a - nI b := Int32.not_le.mpr (pk_sneg (by omega) (by omega))
      rw [if_neg n, if_neg c] at e
      exact Or.inr ⟨c, eq_false n, e⟩
  have rd : dist k j = max (adiff (k / 12) (j / 12)) (adiff (k % 12) (j % 12)) := rfl
  unfold adiff at rd
  rcases sub (k / 12) (j / 12) (by omega) (by omega) with ⟨r1, r2⟩ | ⟨r1, r2, r3⟩ <;> rcases sub (k % 12) (j % 12) (by omega) (by omega) with ⟨s1, s2⟩ | ⟨s1, s2, s3⟩
  · rw [if_pos r1, if_pos s1] at rd
    simp only [r2, s2, not_false_eq_true, true_and, false_implies, and_true, not_true_eq_false]
    simp (disch := omega) only [nlt0, nge0, neq0, ngt0, nle0, nI_ltI, nI_leI, nI_eq, nI_cl, in_nI, false_implies, true_implies, not_false_eq_true, not_true_eq_false, and_true, true_and, nI_add, pk_mul, implies_true, not_lt0]
    exact ⟨fun c => fin _ (by omega), fun c => fin _ (by omega)⟩
  · rw [if_pos r1, if_neg s1] at rd
    simp only [r2, s2, s3, not_false_eq_true, true_and, false_implies, and_true, not_true_eq_false]
    simp (disch := omega) only [nlt0, nge0, neq0, ngt0, nle0, nI_ltI, nI_leI, nI_eq, nI_cl, in_nI, false_implies, true_implies, not_false_eq_true, not_true_eq_false, and_true, true_and, nI_add, pk_mul, implies_true, not_lt0]
    exact ⟨fun c => fin _ (by omega), fun c => fin _ (by omega)⟩
  · rw [if_neg r1, if_pos s1] at rd
    simp only [r2, r3, s2, not_false_eq_true, true_and, false_implies, and_true, not_true_eq_false]
    simp (disch := omega) only [nlt0, nge0, neq0, ngt0, nle0, nI_ltI, nI_leI, nI_eq, nI_cl, in_nI, false_implies, true_implies, not_false_eq_true, not_true_eq_false, and_true, true_and, nI_add, pk_mul, implies_true, not_lt0]
    exact ⟨fun c => fin _ (by omega), fun c => fin _ (by omega)⟩
  · rw [if_neg r1, if_neg s1] at rd
    simp only [r2, r3, s2, s3, not_false_eq_true, true_and, false_implies, and_true, not_true_eq_false]
    simp (disch := omega) only [nlt0, nge0, neq0, ngt0, nle0, nI_ltI, nI_leI, nI_eq, nI_cl, in_nI, false_implies, true_implies, not_false_eq_true, not_true_eq_false, and_true, true_and, nI_add, pk_mul, implies_true, not_lt0]
    exact ⟨fun c => fin _ (by omega), fun c => fin _ (by omega)⟩
