/-! the bits of a light, of a mean: what the class makes of them -/
def P_X6_bitsOfFloat (as : List Value) (S : SS) (E : Option Value → SS → Prop) : Prop := match as with
  | [.float v] => bfOK v ∧ E (some (.int v.toInt32)) S
  | _ => False
def Γ_X6_bitsOfFloat : List (MI × PT) := []
theorem hΓ_X6_bitsOfFloat (l : Launch) (G : Gx) : ∀ q ∈ Γ_X6_bitsOfFloat, Ct l G q.1 q.2 := fun _ h => absurd h List.not_mem_nil
theorem mI_add1 (k : Nat) : mI k + mI 1 = mI (k + 1) := by
  unfold mI
  rw [← nI_add, Int32.neg_add, Int32.sub_eq_add_neg]
theorem mI_leI {a b : Nat} (ha : a < 2 ^ 31) (hb : b < 2 ^ 31) : mI a ≤ mI b ↔ b ≤ a := by
  rw [Int32.le_iff_toInt_le, show (mI a).toInt = -(a : Int) from sb_negT ha, show (mI b).toInt = -(b : Int) from sb_negT hb]
  omega
theorem mI_plus {a b : Nat} (h : a ≤ b) : mI a + nI b = nI (b - a) := by
  unfold mI
  rw [Int32.add_comm, ← Int32.sub_eq_add_neg]
  exact pk_sub h
theorem mI_0 : nI 0 = mI 0 := by decide
theorem d64 {r : UInt64} (h : r.toNat < 9218868437227405312) : r.toNat ≤ 9218868437227405312 := Nat.le_of_lt h
theorem dbl75 {A B : Nat} (h : A < 2 ^ 1074) (e : B = A * 2 ^ 1) : B < 2 ^ 1075 := by
  rw [e, show 1075 = 1074 + 1 from rfl, Nat.pow_add 2 1074 1]
  exact Nat.mul_lt_mul_of_pos_right h (by decide)
theorem up1 {r : UInt64} (h : FP.dconst1.toNat ≤ r.toNat) : 2 ^ 1074 ≤ u64 r.toNat := by
  rw [one64] at h
  rw [← u64_1]
  exact u64_le.mpr h
set_option maxHeartbeats 1000000 in
theorem bf_fin (l : Launch) (G : Gx) {S : SS} {v : UInt32} {r : UInt64} {z : Int32} {N s M : Nat} {E : Option Value → SS → Prop} (hv : v.toNat < 2139095040) (hd : DecF v.toNat N s) (hr : r.toNat < 9218868437227405312) (hu : u64 r.toNat = N * 2 ^ M) (hM : M ≤ s + 1051) (h2 : u64 r.toNat < 2 ^ 1075) (h1 : 2 ^ 1074 ≤ u64 r.toNat ∨ M = s + 1051) (hz : z + nI 127 = nI (s + 1052 - M)) (h : E (some (.int v.toInt32)) S) :
    V l G mi_X6_bitsOfFloat E 29 [some (.float v), some (.double r), none, some (.int z)] [] S 0 0 := by
  refine (V.segN (Γ := Γ_X6_bitsOfFloat) (hΓ_X6_bitsOfFloat l G) so_X6_bitsOfFloat 5 (sg := sg_X6_bitsOfFloat_29) so_X6_bitsOfFloat_29 ?_ : V l G mi_X6_bitsOfFloat _ (segPc sg_X6_bitsOfFloat_29) _ _ _ _ _)
  simp only [mL_X6_bitsOfFloat, mT_X6_bitsOfFloat, rc_X6_bitsOfFloat, rs_X6_bitsOfFloat, Γ_X6_bitsOfFloat, sg_X6_bitsOfFloat_0, sg_X6_bitsOfFloat_5, sg_X6_bitsOfFloat_29, sg_X6_bitsOfFloat_55, sg_X6_bitsOfFloat_68, wn_X6_bitsOfFloat_0, wn_X6_bitsOfFloat_5, wn_X6_bitsOfFloat_29, wn_X6_bitsOfFloat_55, wn_X6_bitsOfFloat_68, wp_c, ex_c, x_nop, x_goto, x_table, x_iinc, x_ldc, x_ldc2, x_iaload, x_faload, x_baload, x_caload, x_iastore, x_fastore, x_bastore, x_castore, x_aastore, x_alen, x_gets, x_new, x_newa, x_anew, x_invs, x_invi, x_invv, x_ret, x_iret, x_lret, x_fret, x_aret, x_lconst, x_fconst0, x_fconst1, x_fconst2, x_dconst0, x_dconst1, x_null, x_iadd, x_isub, x_imul, x_iand, x_ior, x_idiv, x_irem, x_ineg, x_ishl, x_ishr, x_land, x_ladd, x_lmul, x_lor, x_lushr, x_lshl, x_lcmp, x_i2l, x_l2i, x_i2c, x_i2f, x_f2d, x_d2i, x_d2l, x_fadd, x_fsub, x_fmul, x_fdiv, x_dadd, x_dsub, x_dmul, x_ddiv, x_fcmp, x_dcmp, x_dupI, x_dupR, x_dup2, x_popI, x_popR, ldP_I, ldP_L, ldP_F, ldP_D, ldP_R, ldP_N, x_iload, x_iload_n, x_lload, x_lload_n, x_fload, x_fload_n, x_dload, x_dload_n, x_aload, x_aload_n, x_istore, x_istore_n, x_lstore, x_lstore_n, x_fstore, x_fstore_n, x_dstore, x_dstore_n, x_astore, x_astore_n, x_astoreN, x_astore_nN, x_icmp_eq, x_icmp_ne, x_icmp_lt, x_icmp_ge, x_icmp_gt, x_icmp_le, x_if_eq, x_if_ne, x_if_lt, x_if_ge, x_if_gt, x_if_le, x_ifnull, x_ifnullR, x_ifnn, x_ifnnR, x_aaload2, x_cpI, x_cpF, x_oI, xk_bipush_120, xk_iconst_0, xk_bipush_m6, xk_iconst_1, xk_bipush_80, xk_iconst_4, xk_bipush_6, xk_iconst_2, xk_bipush_40, xk_iconst_3, xk_bipush_10, xk_iconst_5, xk_bipush_m2, xk_bipush_m4, xk_iconst_m1, xk_bipush_m5, xk_bipush_12, xk_bipush_100, xk_bipush_26, xk_bipush_48, xk_sipush_9999, xk_sipush_500, xk_bipush_7, xk_bipush_119, xk_bipush_m126, xk_bipush_127, xk_bipush_23, xk_sipush_m1022, xk_sipush_1023, xk_bipush_52, xg_0_0, xp_0_0, xg_0_1, xp_0_1, xg_0_2, xp_0_2, xg_0_3, xp_0_3, xg_0_4, xp_0_4, xg_0_5, xp_0_5, xg_0_6, xp_0_6, xg_0_7, xp_0_7, xg_0_8, xp_0_8, xg_1_0, xp_1_0, xg_1_1, xp_1_1, xg_1_2, xp_1_2, xg_1_3, xp_1_3, xg_2_0, xp_2_0, xg_2_1, xp_2_1, xg_2_2, xp_2_2, xg_3_0, xp_3_0, xg_3_1, xp_3_1, xg_3_2, xp_3_2, xg_3_3, xp_3_3, xg_3_4, xp_3_4, xg_3_5, xp_3_5, xg_3_6, xp_3_6, xg_3_7, xp_3_7, xg_3_8, xp_3_8, xg_3_9, xp_3_9, xg_3_10, xp_3_10, xg_3_11, xp_3_11, xg_4_0, xp_4_0, xg_4_1, xp_4_1, xg_5_0, xp_5_0, xg_5_1, xp_5_1, xg_6_0, xp_6_0, xg_6_1, xp_6_1, xg_6_2, xp_6_2, xg_6_3, xp_6_3, xg_6_4, xp_6_4, xg_6_5, xp_6_5, fv0, fv1, fv2, fv3, kI_0, kI_1, stL, wipeL, entLn, entL, List.getElem?_cons_zero, List.getElem?_cons_succ, List.getElem?_nil, List.set_cons_zero, List.set_cons_succ, List.set_nil, List.length_cons, List.length_nil, List.cons_append, List.nil_append, List.replicate, Nat.reduceAdd, Nat.reduceLeDiff, Nat.reduceSub, true_and, and_true, x_callS, x_callSN, x_callI, x_callIN, x_callV0, x_callV1, x_callV2, x_callV3, x_callV4, x_callV5, x_callV6, x_callV7, callP, List.take_succ_cons, List.take_zero, List.take_nil, List.drop_succ_cons, List.drop_zero, List.drop_nil, List.getLast?_singleton, List.getLast?_cons_cons, Option.some.injEq, Value.ref.injEq, exists_eq_left, exists_eq_left', Nat.zero_le, Nat.add_zero, ldcV_f, ldcV_fn, ldcV_l, ldcV_d, Nat.reduceMul, Nat.le_refl, List.reverse_cons, List.reverse_nil, Option.toList, List.map_cons, List.map_nil, List.sum_cons, List.sum_nil, Value.category, tblW_n, tblW_c, Int.cast_ofNat_Int, Int.reduceAdd, Int.reduceToNat, ofI_n]
  have L2 : r.toNat < two64.toNat := lt2.mpr h2
  have c1 := (cmpL (x := r) (y := two64) (op := CmpOp.l) (d64 hr) (by rw [u64_2.2]; decide)).1
  have c4 := (cmpL (x := r) (y := FP.dconst1) (op := CmpOp.g) (d64 hr) (by rw [one64]; decide)).2
  refine ⟨fun _ => ⟨fun q => ?_, fun q => ?_⟩, fun q => absurd (c1.mpr L2) q⟩
  · have g1 : 2 ^ 1074 ≤ u64 r.toNat := by
      have := c4.mp q
      rw [one64] at this
      rw [← u64_1]
      exact u64_le.mpr this
    rcases hd with ⟨d1, d2, d3⟩ | ⟨d1, d2, d3⟩
    · exfalso
      have := pow_small (N := N) (a := 23) (m := M) (A := 1074) (by omega) (by omega)
      rw [hu] at g1
      exact absurd this (Nat.not_lt.mpr g1)
    · have e := exp_eq (a := 23) (N := N) (A := 1074) (m := M) (by omega) (by omega) (hu ▸ g1) (hu ▸ h2)
      have hu' : u64 r.toNat = (2 ^ 52 + v.toNat % 8388608 * 2 ^ 29) * 2 ^ 1022 := by
        rw [hu, d2, show M = 29 + 1022 by omega, Nat.pow_add, ← Nat.mul_assoc]
        congr 1
        omega
      obtain ⟨s1, s2⟩ := dsub_ex hr hu' (by omega)
      obtain ⟨m1, m2⟩ := dmul_ex (c := e23) (N := v.toNat % 8388608 * 2 ^ 29) (s := 1022) (j := 23) s2 s1 (by omega) u64_23.1 (by rw [u64_23.2]; decide) (by omega)
      have di := d2i_u m2 (k := v.toNat % 8388608) (by rw [m1, Nat.mul_assoc, ← Nat.pow_add]) (by omega)
      refine ⟨vf64 (d64 s2), vf64 (d64 m2), by rw [retI]; trivial, ?_⟩
      have er : (z + nI 127) <<< (nI 23 &&& 31) ||| FP.d2i (FP.dmul (FP.dsub r FP.dconst1) e23) = v.toInt32 := by
        rw [hz, di, show s + 1052 - M = s + 1 by omega, or32 (by omega) (by omega), show (s + 1) * 8388608 + v.toNat % 8388608 = v.toNat by omega, UInt32.ofNat_toNat]
      show E (some (.int ((z + nI 127) <<< (nI 23 &&& 31) ||| FP.d2i (FP.dmul (FP.dsub r FP.dconst1) e23)))) S
      rw [er]
      exact h
  · have g1 : u64 r.toNat < 2 ^ 1074 := by
      refine lt1.mp (Nat.lt_of_not_le fun c => q (c4.mpr c))
    have eM : M = s + 1051 := h1.resolve_left (Nat.not_le.mpr g1)
    rcases hd with ⟨d1, d2, d3⟩ | ⟨d1, d2, d3⟩
    · obtain ⟨m1, m2⟩ := dmul_ex (c := e23) (N := N) (s := M) (j := 23) hr hu (by omega) u64_23.1 (by rw [u64_23.2]; decide) (by omega)
      have di := d2i_u m2 (k := v.toNat) (by rw [m1, d2, eM, d3]) (by omega)
      refine ⟨vf64 (d64 m2), by rw [retI]; trivial, ?_⟩
      show E (some (.int (FP.d2i (FP.dmul r e23)))) S
      rw [di, UInt32.ofNat_toNat]
      exact h
    · exfalso
      have := pow_big (N := N) (a := 23) (m := M) (A := 1074) (by omega) (by omega)
      rw [hu] at g1
      exact absurd g1 (Nat.not_lt.mpr this)
theorem bf_small {v : UInt32} {N s : Nat} (hv : bfOK v) (hd : DecF v.toNat N s) : N * 2 ^ s < 2 ^ 156 := by
  have h1 : u32 v.toNat ≤ u32 1123024896 := u32_le.mpr hv
  have h2 : u32 1123024896 < 2 ^ 156 := by decide +kernel
  rw [hd.u] at h1
  exact Nat.lt_of_le_of_lt h1 h2
set_option maxHeartbeats 1000000 in
theorem bf_lp2 (l : Launch) (G : Gx) {S : SS} {v : UInt32} {N s : Nat} {E : Option Value → SS → Prop} (hv : bfOK v) (hd : DecF v.toNat N s) (h : E (some (.int v.toInt32)) S) :
    ∀ j, j ≤ 7 → ∀ r : UInt64, r.toNat < 9218868437227405312 → u64 r.toNat = N * 2 ^ (s + 925 - j) → 2 ^ 1074 ≤ u64 r.toNat → V l G mi_X6_bitsOfFloat E 29 [some (.float v), some (.double r), none, some (.int (nI j))] [] S 0 0 := by
  have hv2 : v.toNat < 2139095040 := by unfold bfOK at hv; omega
  have hs : s ≤ 253 := by rcases hd with ⟨d1, d2, d3⟩ | ⟨d1, d2, d3⟩ <;> omega
  refine loopUp 7 fun j hj ih => ?_
  intro r hr hu h1
  by_cases c : u64 r.toNat < 2 ^ 1075
  · exact bf_fin l G hv2 hd hr hu (by omega) c (Or.inl h1) (by rw [nI_add]; congr 1; omega) h
  · have j7 : j < 7 := by
      refine Nat.lt_of_le_of_ne hj fun e => c ?_
      rw [hu, e, show s + 925 - 7 = s + 918 by omega, Nat.pow_add, ← Nat.mul_assoc]
      exact pow_small (bf_small hv hd) (by omega)
    obtain ⟨m1, m2⟩ := ddiv_ex (c := two64) (N := N) (s := s + 925 - (j + 1)) hr (by rw [hu]; congr 2; omega) (by have := hd.N; omega) u64_2.1 (by rw [u64_2.2]; decide) (by rw [u64_2.2]; decide) (by omega)
    have g1 : 2 ^ 1074 ≤ u64 (FP.ddiv r two64).toNat := by
      rw [m1]
      refine Nat.le_of_mul_le_mul_right (c := 2 ^ 1) ?_ (by decide)
      rw [Nat.mul_assoc, ← Nat.pow_add, ← Nat.pow_add, show s + 925 - (j + 1) + 1 = s + 925 - j by omega, ← hu]
      exact Nat.not_lt.mp c
    have k := ih (by omega) (FP.ddiv r two64) m2 m1 g1
    have c1 := (cmpL (x := r) (y := two64) (op := CmpOp.l) (d64 hr) (by rw [u64_2.2]; decide)).1
    have nlt : ¬ r.toNat < two64.toNat := fun q => c (lt2.mp q)
    refine (V.segN (Γ := Γ_X6_bitsOfFloat) (hΓ_X6_bitsOfFloat l G) so_X6_bitsOfFloat 5 (sg := sg_X6_bitsOfFloat_29) so_X6_bitsOfFloat_29 ?_ : V l G mi_X6_bitsOfFloat _ (segPc sg_X6_bitsOfFloat_29) _ _ _ _ _)
    simp only [mL_X6_bitsOfFloat, mT_X6_bitsOfFloat, rc_X6_bitsOfFloat, rs_X6_bitsOfFloat, Γ_X6_bitsOfFloat, sg_X6_bitsOfFloat_0, sg_X6_bitsOfFloat_5, sg_X6_bitsOfFloat_29, sg_X6_bitsOfFloat_55, sg_X6_bitsOfFloat_68, wn_X6_bitsOfFloat_0, wn_X6_bitsOfFloat_5, wn_X6_bitsOfFloat_29, wn_X6_bitsOfFloat_55, wn_X6_bitsOfFloat_68, wp_c, ex_c, x_nop, x_goto, x_table, x_iinc, x_ldc, x_ldc2, x_iaload, x_faload, x_baload, x_caload, x_iastore, x_fastore, x_bastore, x_castore, x_aastore, x_alen, x_gets, x_new, x_newa, x_anew, x_invs, x_invi, x_invv, x_ret, x_iret, x_lret, x_fret, x_aret, x_lconst, x_fconst0, x_fconst1, x_fconst2, x_dconst0, x_dconst1, x_null, x_iadd, x_isub, x_imul, x_iand, x_ior, x_idiv, x_irem, x_ineg, x_ishl, x_ishr, x_land, x_ladd, x_lmul, x_lor, x_lushr, x_lshl, x_lcmp, x_i2l, x_l2i, x_i2c, x_i2f, x_f2d, x_d2i, x_d2l, x_fadd, x_fsub, x_fmul, x_fdiv, x_dadd, x_dsub, x_dmul, x_ddiv, x_fcmp, x_dcmp, x_dupI, x_dupR, x_dup2, x_popI, x_popR, ldP_I, ldP_L, ldP_F, ldP_D, ldP_R, ldP_N, x_iload, x_iload_n, x_lload, x_lload_n, x_fload, x_fload_n, x_dload, x_dload_n, x_aload, x_aload_n, x_istore, x_istore_n, x_lstore, x_lstore_n, x_fstore, x_fstore_n, x_dstore, x_dstore_n, x_astore, x_astore_n, x_astoreN, x_astore_nN, x_icmp_eq, x_icmp_ne, x_icmp_lt, x_icmp_ge, x_icmp_gt, x_icmp_le, x_if_eq, x_if_ne, x_if_lt, x_if_ge, x_if_gt, x_if_le, x_ifnull, x_ifnullR, x_ifnn, x_ifnnR, x_aaload2, x_cpI, x_cpF, x_oI, xk_bipush_120, xk_iconst_0, xk_bipush_m6, xk_iconst_1, xk_bipush_80, xk_iconst_4, xk_bipush_6, xk_iconst_2, xk_bipush_40, xk_iconst_3, xk_bipush_10, xk_iconst_5, xk_bipush_m2, xk_bipush_m4, xk_iconst_m1, xk_bipush_m5, xk_bipush_12, xk_bipush_100, xk_bipush_26, xk_bipush_48, xk_sipush_9999, xk_sipush_500, xk_bipush_7, xk_bipush_119, xk_bipush_m126, xk_bipush_127, xk_bipush_23, xk_sipush_m1022, xk_sipush_1023, xk_bipush_52, xg_0_0, xp_0_0, xg_0_1, xp_0_1, xg_0_2, xp_0_2, xg_0_3, xp_0_3, xg_0_4, xp_0_4, xg_0_5, xp_0_5, xg_0_6, xp_0_6, xg_0_7, xp_0_7, xg_0_8, xp_0_8, xg_1_0, xp_1_0, xg_1_1, xp_1_1, xg_1_2, xp_1_2, xg_1_3, xp_1_3, xg_2_0, xp_2_0, xg_2_1, xp_2_1, xg_2_2, xp_2_2, xg_3_0, xp_3_0, xg_3_1, xp_3_1, xg_3_2, xp_3_2, xg_3_3, xp_3_3, xg_3_4, xp_3_4, xg_3_5, xp_3_5, xg_3_6, xp_3_6, xg_3_7, xp_3_7, xg_3_8, xp_3_8, xg_3_9, xp_3_9, xg_3_10, xp_3_10, xg_3_11, xp_3_11, xg_4_0, xp_4_0, xg_4_1, xp_4_1, xg_5_0, xp_5_0, xg_5_1, xp_5_1, xg_6_0, xp_6_0, xg_6_1, xp_6_1, xg_6_2, xp_6_2, xg_6_3, xp_6_3, xg_6_4, xp_6_4, xg_6_5, xp_6_5, fv0, fv1, fv2, fv3, kI_0, kI_1, stL, wipeL, entLn, entL, List.getElem?_cons_zero, List.getElem?_cons_succ, List.getElem?_nil, List.set_cons_zero, List.set_cons_succ, List.set_nil, List.length_cons, List.length_nil, List.cons_append, List.nil_append, List.replicate, Nat.reduceAdd, Nat.reduceLeDiff, Nat.reduceSub, true_and, and_true, x_callS, x_callSN, x_callI, x_callIN, x_callV0, x_callV1, x_callV2, x_callV3, x_callV4, x_callV5, x_callV6, x_callV7, callP, List.take_succ_cons, List.take_zero, List.take_nil, List.drop_succ_cons, List.drop_zero, List.drop_nil, List.getLast?_singleton, List.getLast?_cons_cons, Option.some.injEq, Value.ref.injEq, exists_eq_left, exists_eq_left', Nat.zero_le, Nat.add_zero, ldcV_f, ldcV_fn, ldcV_l, ldcV_d, Nat.reduceMul, Nat.le_refl, List.reverse_cons, List.reverse_nil, Option.toList, List.map_cons, List.map_nil, List.sum_cons, List.sum_nil, Value.category, tblW_n, tblW_c, Int.cast_ofNat_Int, Int.reduceAdd, Int.reduceToNat, ofI_n]
    refine ⟨fun q => absurd (c1.mp q) nlt, fun _ => ⟨fun q => absurd ((nI_leI (by omega) (by omega)).mp q) (by omega), fun _ => ⟨vf64 (d64 m2), ?_⟩⟩⟩
    rw [nI_add]
    exact k
set_option maxHeartbeats 1000000 in
theorem bf_lp1 (l : Launch) (G : Gx) {S : SS} {v : UInt32} {N s : Nat} {E : Option Value → SS → Prop} (hv : bfOK v) (hd : DecF v.toNat N s) (h : E (some (.int v.toInt32)) S) :
    ∀ k, k ≤ 126 → ∀ r : UInt64, r.toNat < 9218868437227405312 → u64 r.toNat = N * 2 ^ (s + 925 + k) → (k = 0 ∨ u64 r.toNat < 2 ^ 1075) → V l G mi_X6_bitsOfFloat E 5 [some (.float v), some (.double r), none, some (.int (mI k))] [] S 0 0 := by
  have hv2 : v.toNat < 2139095040 := by unfold bfOK at hv; omega
  have hs : s ≤ 253 := by rcases hd with ⟨d1, d2, d3⟩ | ⟨d1, d2, d3⟩ <;> omega
  refine loopUp 126 fun k hk ih => ?_
  intro r hr hu h1
  have hex : 2 ^ 1074 ≤ u64 r.toNat ∨ k = 126 → V l G mi_X6_bitsOfFloat E 29 [some (.float v), some (.double r), none, some (.int (mI k))] [] S 0 0 := by
    intro q
    by_cases c : u64 r.toNat < 2 ^ 1075
    · refine bf_fin l G hv2 hd hr hu (by omega) c (q.imp id fun e => by omega) ?_ h
      rw [mI_plus (by omega)]
      congr 1
      omega
    · have k0 : k = 0 := h1.resolve_right c
      subst k0
      exact bf_lp2 l G hv hd h 0 (by omega) r hr hu (q.resolve_right (by omega))
  have c1 := (cmpL (x := r) (y := FP.dconst1) (op := CmpOp.g) (d64 hr) (by rw [one64]; decide)).2
  refine (V.segN (Γ := Γ_X6_bitsOfFloat) (hΓ_X6_bitsOfFloat l G) so_X6_bitsOfFloat 5 (sg := sg_X6_bitsOfFloat_5) so_X6_bitsOfFloat_5 ?_ : V l G mi_X6_bitsOfFloat _ (segPc sg_X6_bitsOfFloat_5) _ _ _ _ _)
  simp only [mL_X6_bitsOfFloat, mT_X6_bitsOfFloat, rc_X6_bitsOfFloat, rs_X6_bitsOfFloat, Γ_X6_bitsOfFloat, sg_X6_bitsOfFloat_0, sg_X6_bitsOfFloat_5, sg_X6_bitsOfFloat_29, sg_X6_bitsOfFloat_55, sg_X6_bitsOfFloat_68, wn_X6_bitsOfFloat_0, wn_X6_bitsOfFloat_5, wn_X6_bitsOfFloat_29, wn_X6_bitsOfFloat_55, wn_X6_bitsOfFloat_68, wp_c, ex_c, x_nop, x_goto, x_table, x_iinc, x_ldc, x_ldc2, x_iaload, x_faload, x_baload, x_caload, x_iastore, x_fastore, x_bastore, x_castore, x_aastore, x_alen, x_gets, x_new, x_newa, x_anew, x_invs, x_invi, x_invv, x_ret, x_iret, x_lret, x_fret, x_aret, x_lconst, x_fconst0, x_fconst1, x_fconst2, x_dconst0, x_dconst1, x_null, x_iadd, x_isub, x_imul, x_iand, x_ior, x_idiv, x_irem, x_ineg, x_ishl, x_ishr, x_land, x_ladd, x_lmul, x_lor, x_lushr, x_lshl, x_lcmp, x_i2l, x_l2i, x_i2c, x_i2f, x_f2d, x_d2i, x_d2l, x_fadd, x_fsub, x_fmul, x_fdiv, x_dadd, x_dsub, x_dmul, x_ddiv, x_fcmp, x_dcmp, x_dupI, x_dupR, x_dup2, x_popI, x_popR, ldP_I, ldP_L, ldP_F, ldP_D, ldP_R, ldP_N, x_iload, x_iload_n, x_lload, x_lload_n, x_fload, x_fload_n, x_dload, x_dload_n, x_aload, x_aload_n, x_istore, x_istore_n, x_lstore, x_lstore_n, x_fstore, x_fstore_n, x_dstore, x_dstore_n, x_astore, x_astore_n, x_astoreN, x_astore_nN, x_icmp_eq, x_icmp_ne, x_icmp_lt, x_icmp_ge, x_icmp_gt, x_icmp_le, x_if_eq, x_if_ne, x_if_lt, x_if_ge, x_if_gt, x_if_le, x_ifnull, x_ifnullR, x_ifnn, x_ifnnR, x_aaload2, x_cpI, x_cpF, x_oI, xk_bipush_120, xk_iconst_0, xk_bipush_m6, xk_iconst_1, xk_bipush_80, xk_iconst_4, xk_bipush_6, xk_iconst_2, xk_bipush_40, xk_iconst_3, xk_bipush_10, xk_iconst_5, xk_bipush_m2, xk_bipush_m4, xk_iconst_m1, xk_bipush_m5, xk_bipush_12, xk_bipush_100, xk_bipush_26, xk_bipush_48, xk_sipush_9999, xk_sipush_500, xk_bipush_7, xk_bipush_119, xk_bipush_m126, xk_bipush_127, xk_bipush_23, xk_sipush_m1022, xk_sipush_1023, xk_bipush_52, xg_0_0, xp_0_0, xg_0_1, xp_0_1, xg_0_2, xp_0_2, xg_0_3, xp_0_3, xg_0_4, xp_0_4, xg_0_5, xp_0_5, xg_0_6, xp_0_6, xg_0_7, xp_0_7, xg_0_8, xp_0_8, xg_1_0, xp_1_0, xg_1_1, xp_1_1, xg_1_2, xp_1_2, xg_1_3, xp_1_3, xg_2_0, xp_2_0, xg_2_1, xp_2_1, xg_2_2, xp_2_2, xg_3_0, xp_3_0, xg_3_1, xp_3_1, xg_3_2, xp_3_2, xg_3_3, xp_3_3, xg_3_4, xp_3_4, xg_3_5, xp_3_5, xg_3_6, xp_3_6, xg_3_7, xp_3_7, xg_3_8, xp_3_8, xg_3_9, xp_3_9, xg_3_10, xp_3_10, xg_3_11, xp_3_11, xg_4_0, xp_4_0, xg_4_1, xp_4_1, xg_5_0, xp_5_0, xg_5_1, xp_5_1, xg_6_0, xp_6_0, xg_6_1, xp_6_1, xg_6_2, xp_6_2, xg_6_3, xp_6_3, xg_6_4, xp_6_4, xg_6_5, xp_6_5, fv0, fv1, fv2, fv3, kI_0, kI_1, stL, wipeL, entLn, entL, List.getElem?_cons_zero, List.getElem?_cons_succ, List.getElem?_nil, List.set_cons_zero, List.set_cons_succ, List.set_nil, List.length_cons, List.length_nil, List.cons_append, List.nil_append, List.replicate, Nat.reduceAdd, Nat.reduceLeDiff, Nat.reduceSub, true_and, and_true, x_callS, x_callSN, x_callI, x_callIN, x_callV0, x_callV1, x_callV2, x_callV3, x_callV4, x_callV5, x_callV6, x_callV7, callP, List.take_succ_cons, List.take_zero, List.take_nil, List.drop_succ_cons, List.drop_zero, List.drop_nil, List.getLast?_singleton, List.getLast?_cons_cons, Option.some.injEq, Value.ref.injEq, exists_eq_left, exists_eq_left', Nat.zero_le, Nat.add_zero, ldcV_f, ldcV_fn, ldcV_l, ldcV_d, Nat.reduceMul, Nat.le_refl, List.reverse_cons, List.reverse_nil, Option.toList, List.map_cons, List.map_nil, List.sum_cons, List.sum_nil, Value.category, tblW_n, tblW_c, Int.cast_ofNat_Int, Int.reduceAdd, Int.reduceToNat, ofI_n]
  refine ⟨fun q => hex (Or.inl (up1 (c1.mp q))), fun q => ⟨fun q2 => hex (Or.inr ?_), fun q2 => ?_⟩⟩
  · have := (mI_leI (by omega) (by omega)).mp q2
    omega
  · have g1 : u64 r.toNat < 2 ^ 1074 := lt1.mp (Nat.lt_of_not_le fun c => q (c1.mpr c))
    have k1 : k < 126 := Nat.lt_of_not_le fun c => q2 ((mI_leI (by omega) (by omega)).mpr c)
    obtain ⟨m1, m2⟩ := dmul_ex (c := two64) (N := N) (s := s + 925 + k) (j := 1) hr hu (by have := hd.N; omega) u64_2.1 (by rw [u64_2.2]; decide) (by omega)
    refine ⟨vf64 (d64 m2), ?_⟩
    rw [mI_add1]
    refine ih k1 _ m2 m1 (Or.inr (dbl75 g1 ?_))
    refine m1.trans ?_
    rw [hu, Nat.pow_add 2 (s + 925 + k) 1, Nat.mul_assoc]
set_option maxHeartbeats 1000000 in
theorem ct_X6_bitsOfFloat (l : Launch) (G : Gx) : Ct l G mi_X6_bitsOfFloat P_X6_bitsOfFloat := by
  refine Ct.ofV mo_X6_bitsOfFloat (fun as S E h => ?_)
  unfold P_X6_bitsOfFloat at h
  split at h
  case h_2 => exact h.elim
  rename_i v
  refine ⟨by simp [entL, mL_X6_bitsOfFloat], ?_⟩
  refine wpN_ok (Γ := Γ_X6_bitsOfFloat) (hΓ_X6_bitsOfFloat l G) so_X6_bitsOfFloat 5 _ _ _ _ _ _ ?_
  simp only [mL_X6_bitsOfFloat, mT_X6_bitsOfFloat, rc_X6_bitsOfFloat, rs_X6_bitsOfFloat, Γ_X6_bitsOfFloat, sg_X6_bitsOfFloat_0, sg_X6_bitsOfFloat_5, sg_X6_bitsOfFloat_29, sg_X6_bitsOfFloat_55, sg_X6_bitsOfFloat_68, wn_X6_bitsOfFloat_0, wn_X6_bitsOfFloat_5, wn_X6_bitsOfFloat_29, wn_X6_bitsOfFloat_55, wn_X6_bitsOfFloat_68, wp_c, ex_c, x_nop, x_goto, x_table, x_iinc, x_ldc, x_ldc2, x_iaload, x_faload, x_baload, x_caload, x_iastore, x_fastore, x_bastore, x_castore, x_aastore, x_alen, x_gets, x_new, x_newa, x_anew, x_invs, x_invi, x_invv, x_ret, x_iret, x_lret, x_fret, x_aret, x_lconst, x_fconst0, x_fconst1, x_fconst2, x_dconst0, x_dconst1, x_null, x_iadd, x_isub, x_imul, x_iand, x_ior, x_idiv, x_irem, x_ineg, x_ishl, x_ishr, x_land, x_ladd, x_lmul, x_lor, x_lushr, x_lshl, x_lcmp, x_i2l, x_l2i, x_i2c, x_i2f, x_f2d, x_d2i, x_d2l, x_fadd, x_fsub, x_fmul, x_fdiv, x_dadd, x_dsub, x_dmul, x_ddiv, x_fcmp, x_dcmp, x_dupI, x_dupR, x_dup2, x_popI, x_popR, ldP_I, ldP_L, ldP_F, ldP_D, ldP_R, ldP_N, x_iload, x_iload_n, x_lload, x_lload_n, x_fload, x_fload_n, x_dload, x_dload_n, x_aload, x_aload_n, x_istore, x_istore_n, x_lstore, x_lstore_n, x_fstore, x_fstore_n, x_dstore, x_dstore_n, x_astore, x_astore_n, x_astoreN, x_astore_nN, x_icmp_eq, x_icmp_ne, x_icmp_lt, x_icmp_ge, x_icmp_gt, x_icmp_le, x_if_eq, x_if_ne, x_if_lt, x_if_ge, x_if_gt, x_if_le, x_ifnull, x_ifnullR, x_ifnn, x_ifnnR, x_aaload2, x_cpI, x_cpF, x_oI, xk_bipush_120, xk_iconst_0, xk_bipush_m6, xk_iconst_1, xk_bipush_80, xk_iconst_4, xk_bipush_6, xk_iconst_2, xk_bipush_40, xk_iconst_3, xk_bipush_10, xk_iconst_5, xk_bipush_m2, xk_bipush_m4, xk_iconst_m1, xk_bipush_m5, xk_bipush_12, xk_bipush_100, xk_bipush_26, xk_bipush_48, xk_sipush_9999, xk_sipush_500, xk_bipush_7, xk_bipush_119, xk_bipush_m126, xk_bipush_127, xk_bipush_23, xk_sipush_m1022, xk_sipush_1023, xk_bipush_52, xg_0_0, xp_0_0, xg_0_1, xp_0_1, xg_0_2, xp_0_2, xg_0_3, xp_0_3, xg_0_4, xp_0_4, xg_0_5, xp_0_5, xg_0_6, xp_0_6, xg_0_7, xp_0_7, xg_0_8, xp_0_8, xg_1_0, xp_1_0, xg_1_1, xp_1_1, xg_1_2, xp_1_2, xg_1_3, xp_1_3, xg_2_0, xp_2_0, xg_2_1, xp_2_1, xg_2_2, xp_2_2, xg_3_0, xp_3_0, xg_3_1, xp_3_1, xg_3_2, xp_3_2, xg_3_3, xp_3_3, xg_3_4, xp_3_4, xg_3_5, xp_3_5, xg_3_6, xp_3_6, xg_3_7, xp_3_7, xg_3_8, xp_3_8, xg_3_9, xp_3_9, xg_3_10, xp_3_10, xg_3_11, xp_3_11, xg_4_0, xp_4_0, xg_4_1, xp_4_1, xg_5_0, xp_5_0, xg_5_1, xp_5_1, xg_6_0, xp_6_0, xg_6_1, xp_6_1, xg_6_2, xp_6_2, xg_6_3, xp_6_3, xg_6_4, xp_6_4, xg_6_5, xp_6_5, fv0, fv1, fv2, fv3, kI_0, kI_1, stL, wipeL, entLn, entL, List.getElem?_cons_zero, List.getElem?_cons_succ, List.getElem?_nil, List.set_cons_zero, List.set_cons_succ, List.set_nil, List.length_cons, List.length_nil, List.cons_append, List.nil_append, List.replicate, Nat.reduceAdd, Nat.reduceLeDiff, Nat.reduceSub, true_and, and_true, x_callS, x_callSN, x_callI, x_callIN, x_callV0, x_callV1, x_callV2, x_callV3, x_callV4, x_callV5, x_callV6, x_callV7, callP, List.take_succ_cons, List.take_zero, List.take_nil, List.drop_succ_cons, List.drop_zero, List.drop_nil, List.getLast?_singleton, List.getLast?_cons_cons, Option.some.injEq, Value.ref.injEq, exists_eq_left, exists_eq_left', Nat.zero_le, Nat.add_zero, ldcV_f, ldcV_fn, ldcV_l, ldcV_d, Nat.reduceMul, Nat.le_refl, List.reverse_cons, List.reverse_nil, Option.toList, List.map_cons, List.map_nil, List.sum_cons, List.sum_nil, Value.category, tblW_n, tblW_c, Int.cast_ofNat_Int, Int.reduceAdd, Int.reduceToNat, ofI_n]
  obtain ⟨hv, hE⟩ := h
  have hv2 : v.toNat < 2139095040 := by unfold bfOK at hv; omega
  obtain ⟨N, s, hd⟩ := DecF.ex v.toNat
  obtain ⟨m1, m2⟩ := f2d_ex hv2 hd.u (by have := hd.N; omega) (by rcases hd with ⟨d1, d2, d3⟩ | ⟨d1, d2, d3⟩ <;> omega)
  refine ⟨vf64 (d64 m2), ?_⟩
  rw [mI_0]
  exact bf_lp1 l G hv hd hE 0 (by omega) _ m2 m1 (Or.inl rfl)
def P_X6_bitsOfMean (as : List Value) (S : SS) (E : Option Value → SS → Prop) : Prop := match as with
  | [.double v] => meOK v ∧ E (some (.long v.toInt64)) S
  | _ => False
def Γ_X6_bitsOfMean : List (MI × PT) := []
theorem hΓ_X6_bitsOfMean (l : Launch) (G : Gx) : ∀ q ∈ Γ_X6_bitsOfMean, Ct l G q.1 q.2 := fun _ h => absurd h List.not_mem_nil
set_option maxHeartbeats 1000000 in
theorem bm_lp (l : Launch) (G : Gx) {S : SS} {v : UInt64} {N s : Nat} {E : Option Value → SS → Prop} (hv : meOK v) (hd : DecD v.toNat N s) (h : E (some (.long v.toInt64)) S) :
    ∀ k, k ≤ 1022 → ∀ r : UInt64, r.toNat < 9218868437227405312 → u64 r.toNat = N * 2 ^ (s + k) → u64 r.toNat < 2 ^ 1075 → V l G mi_X6_bitsOfMean E 5 [some (.double v), none, some (.double r), none, some (.int (mI k))] [] S 0 0 := by
  unfold meOK at hv
  have hs : s ≤ 1022 := by rcases hd with ⟨d1, d2, d3⟩ | ⟨d1, d2, d3⟩ <;> omega
  refine loopUp 1022 fun k hk ih => ?_
  intro r hr hu h2
  have c1 := (cmpL (x := r) (y := FP.dconst1) (op := CmpOp.g) (d64 hr) (by rw [one64]; decide)).2
  have hsk : s + k ≤ 1022 := by
    rcases hd with ⟨d1, d2, d3⟩ | ⟨d1, d2, d3⟩
    · omega
    · refine Nat.le_of_not_lt fun c => ?_
      have := pow_big (N := N) (a := 52) (m := s + k) (A := 1075) (by omega) (by omega)
      rw [hu] at h2
      exact absurd h2 (Nat.not_lt.mpr this)
  have hA : 2 ^ 1074 ≤ u64 r.toNat → vf_n64 (FP.dsub r FP.dconst1) ∧ vf_n64 (FP.dmul (FP.dsub r FP.dconst1) e52) ∧ (mI k + nI 1023).toInt64 <<< ((nI 52).toInt64 &&& 63) ||| FP.d2l (FP.dmul (FP.dsub r FP.dconst1) e52) = v.toInt64 := by
    intro g1
    rcases hd with ⟨d1, d2, d3⟩ | ⟨d1, d2, d3⟩
    · exfalso
      have := pow_small (N := N) (a := 52) (m := s + k) (A := 1074) (by omega) (by omega)
      rw [hu] at g1
      exact absurd this (Nat.not_lt.mpr g1)
    · have e := exp_eq (a := 52) (N := N) (A := 1074) (m := s + k) (by omega) (by omega) (hu ▸ g1) (hu ▸ h2)
      have hu' : u64 r.toNat = (2 ^ 52 + v.toNat % 4503599627370496) * 2 ^ 1022 := by
        rw [hu, d2, show s + k = 1022 by omega]
      obtain ⟨s1, s2⟩ := dsub_ex hr hu' (by omega)
      obtain ⟨m1, m2⟩ := dmul_ex (c := e52) (N := v.toNat % 4503599627370496) (s := 1022) (j := 52) s2 s1 (by omega) u64_52.1 (by rw [u64_52.2]; decide) (by omega)
      have di := d2l_u m2 (k := v.toNat % 4503599627370496) m1 (by omega)
      refine ⟨vf64 (d64 s2), vf64 (d64 m2), ?_⟩
      rw [mI_plus (by omega), di, show 1023 - k = s + 1 by omega, or64 (by omega) (by omega), show (s + 1) * 4503599627370496 + v.toNat % 4503599627370496 = v.toNat by omega, UInt64.ofNat_toNat]
  have hB : u64 r.toNat < 2 ^ 1074 → k = 1022 → vf_n64 (FP.dmul r e52) ∧ FP.d2l (FP.dmul r e52) = v.toInt64 := by
    intro g1 ek
    rcases hd with ⟨d1, d2, d3⟩ | ⟨d1, d2, d3⟩
    · obtain ⟨m1, m2⟩ := dmul_ex (c := e52) (N := N) (s := s + k) (j := 52) hr hu (by omega) u64_52.1 (by rw [u64_52.2]; decide) (by omega)
      have di := d2l_u m2 (k := v.toNat) (by rw [m1, d2, ek, d3]) (by omega)
      exact ⟨vf64 (d64 m2), by rw [di, UInt64.ofNat_toNat]⟩
    · exfalso
      have := pow_big (N := N) (a := 52) (m := s + k) (A := 1074) (by omega) (by omega)
      rw [hu] at g1
      exact absurd g1 (Nat.not_lt.mpr this)
  have lt' : ¬ 0 ≤ Op.cmpValue (FP.dcmp r FP.dconst1) CmpOp.g → u64 r.toNat < 2 ^ 1074 := fun q => lt1.mp (Nat.lt_of_not_le fun c => q (c1.mpr c))
  have hC : ¬ 0 ≤ Op.cmpValue (FP.dcmp r FP.dconst1) CmpOp.g → ¬ mI k ≤ mI 1022 → vf_n64 (FP.dmul r two64) ∧ V l G mi_X6_bitsOfMean E 5 [some (.double v), none, some (.double (FP.dmul r two64)), none, some (.int (mI k + mI 1))] [] S 0 0 := by
    intro q q2
    have g1 := lt' q
    have k1 : k < 1022 := Nat.lt_of_not_le fun c => q2 ((mI_leI (by omega) (by omega)).mpr c)
    obtain ⟨m1, m2⟩ := dmul_ex (c := two64) (N := N) (s := s + k) (j := 1) hr hu hd.N u64_2.1 (by rw [u64_2.2]; decide) (by omega)
    refine ⟨vf64 (d64 m2), ?_⟩
    rw [mI_add1]
    refine ih k1 _ m2 m1 (dbl75 g1 ?_)
    rw [hu, m1, Nat.pow_add 2 (s + k) 1, Nat.mul_assoc]
  refine (V.segN (Γ := Γ_X6_bitsOfMean) (hΓ_X6_bitsOfMean l G) so_X6_bitsOfMean 5 (sg := sg_X6_bitsOfMean_5) so_X6_bitsOfMean_5 ?_ : V l G mi_X6_bitsOfMean _ (segPc sg_X6_bitsOfMean_5) _ _ _ _ _)
  simp only [mL_X6_bitsOfMean, mT_X6_bitsOfMean, rc_X6_bitsOfMean, rs_X6_bitsOfMean, Γ_X6_bitsOfMean, sg_X6_bitsOfMean_0, sg_X6_bitsOfMean_5, sg_X6_bitsOfMean_31, sg_X6_bitsOfMean_44, wn_X6_bitsOfMean_0, wn_X6_bitsOfMean_5, wn_X6_bitsOfMean_31, wn_X6_bitsOfMean_44, wp_c, ex_c, x_nop, x_goto, x_table, x_iinc, x_ldc, x_ldc2, x_iaload, x_faload, x_baload, x_caload, x_iastore, x_fastore, x_bastore, x_castore, x_aastore, x_alen, x_gets, x_new, x_newa, x_anew, x_invs, x_invi, x_invv, x_ret, x_iret, x_lret, x_fret, x_aret, x_lconst, x_fconst0, x_fconst1, x_fconst2, x_dconst0, x_dconst1, x_null, x_iadd, x_isub, x_imul, x_iand, x_ior, x_idiv, x_irem, x_ineg, x_ishl, x_ishr, x_land, x_ladd, x_lmul, x_lor, x_lushr, x_lshl, x_lcmp, x_i2l, x_l2i, x_i2c, x_i2f, x_f2d, x_d2i, x_d2l, x_fadd, x_fsub, x_fmul, x_fdiv, x_dadd, x_dsub, x_dmul, x_ddiv, x_fcmp, x_dcmp, x_dupI, x_dupR, x_dup2, x_popI, x_popR, ldP_I, ldP_L, ldP_F, ldP_D, ldP_R, ldP_N, x_iload, x_iload_n, x_lload, x_lload_n, x_fload, x_fload_n, x_dload, x_dload_n, x_aload, x_aload_n, x_istore, x_istore_n, x_lstore, x_lstore_n, x_fstore, x_fstore_n, x_dstore, x_dstore_n, x_astore, x_astore_n, x_astoreN, x_astore_nN, x_icmp_eq, x_icmp_ne, x_icmp_lt, x_icmp_ge, x_icmp_gt, x_icmp_le, x_if_eq, x_if_ne, x_if_lt, x_if_ge, x_if_gt, x_if_le, x_ifnull, x_ifnullR, x_ifnn, x_ifnnR, x_aaload2, x_cpI, x_cpF, x_oI, xk_bipush_120, xk_iconst_0, xk_bipush_m6, xk_iconst_1, xk_bipush_80, xk_iconst_4, xk_bipush_6, xk_iconst_2, xk_bipush_40, xk_iconst_3, xk_bipush_10, xk_iconst_5, xk_bipush_m2, xk_bipush_m4, xk_iconst_m1, xk_bipush_m5, xk_bipush_12, xk_bipush_100, xk_bipush_26, xk_bipush_48, xk_sipush_9999, xk_sipush_500, xk_bipush_7, xk_bipush_119, xk_bipush_m126, xk_bipush_127, xk_bipush_23, xk_sipush_m1022, xk_sipush_1023, xk_bipush_52, xg_0_0, xp_0_0, xg_0_1, xp_0_1, xg_0_2, xp_0_2, xg_0_3, xp_0_3, xg_0_4, xp_0_4, xg_0_5, xp_0_5, xg_0_6, xp_0_6, xg_0_7, xp_0_7, xg_0_8, xp_0_8, xg_1_0, xp_1_0, xg_1_1, xp_1_1, xg_1_2, xp_1_2, xg_1_3, xp_1_3, xg_2_0, xp_2_0, xg_2_1, xp_2_1, xg_2_2, xp_2_2, xg_3_0, xp_3_0, xg_3_1, xp_3_1, xg_3_2, xp_3_2, xg_3_3, xp_3_3, xg_3_4, xp_3_4, xg_3_5, xp_3_5, xg_3_6, xp_3_6, xg_3_7, xp_3_7, xg_3_8, xp_3_8, xg_3_9, xp_3_9, xg_3_10, xp_3_10, xg_3_11, xp_3_11, xg_4_0, xp_4_0, xg_4_1, xp_4_1, xg_5_0, xp_5_0, xg_5_1, xp_5_1, xg_6_0, xp_6_0, xg_6_1, xp_6_1, xg_6_2, xp_6_2, xg_6_3, xp_6_3, xg_6_4, xp_6_4, xg_6_5, xp_6_5, fv0, fv1, fv2, fv3, kI_0, kI_1, stL, wipeL, entLn, entL, List.getElem?_cons_zero, List.getElem?_cons_succ, List.getElem?_nil, List.set_cons_zero, List.set_cons_succ, List.set_nil, List.length_cons, List.length_nil, List.cons_append, List.nil_append, List.replicate, Nat.reduceAdd, Nat.reduceLeDiff, Nat.reduceSub, true_and, and_true, x_callS, x_callSN, x_callI, x_callIN, x_callV0, x_callV1, x_callV2, x_callV3, x_callV4, x_callV5, x_callV6, x_callV7, callP, List.take_succ_cons, List.take_zero, List.take_nil, List.drop_succ_cons, List.drop_zero, List.drop_nil, List.getLast?_singleton, List.getLast?_cons_cons, Option.some.injEq, Value.ref.injEq, exists_eq_left, exists_eq_left', Nat.zero_le, Nat.add_zero, ldcV_f, ldcV_fn, ldcV_l, ldcV_d, Nat.reduceMul, Nat.le_refl, List.reverse_cons, List.reverse_nil, Option.toList, List.map_cons, List.map_nil, List.sum_cons, List.sum_nil, Value.category, tblW_n, tblW_c, Int.cast_ofNat_Int, Int.reduceAdd, Int.reduceToNat, ofI_n]
  refine ⟨fun q => ⟨fun _ => ?_, fun q2 => absurd q q2⟩, fun q => ⟨fun q2 => ⟨fun q3 => absurd q3 q, fun _ => ?_⟩, fun q2 => hC q q2⟩⟩
  · obtain ⟨a1, a2, a3⟩ := hA (up1 (c1.mp q))
    refine ⟨a1, a2, by rw [retL]; trivial, ?_⟩
    show E (some (.long ((mI k + nI 1023).toInt64 <<< ((nI 52).toInt64 &&& 63) ||| FP.d2l (FP.dmul (FP.dsub r FP.dconst1) e52)))) S
    rw [a3]
    exact h
  · have ek : k = 1022 := by
      have := (mI_leI (by omega) (by omega)).mp q2
      omega
    obtain ⟨a1, a2⟩ := hB (lt' q) ek
    refine ⟨a1, by rw [retL]; trivial, ?_⟩
    show E (some (.long (FP.d2l (FP.dmul r e52)))) S
    rw [a2]
    exact h
set_option maxHeartbeats 1000000 in
theorem ct_X6_bitsOfMean (l : Launch) (G : Gx) : Ct l G mi_X6_bitsOfMean P_X6_bitsOfMean := by
  refine Ct.ofV mo_X6_bitsOfMean (fun as S E h => ?_)
  unfold P_X6_bitsOfMean at h
  split at h
  case h_2 => exact h.elim
  rename_i v
  refine ⟨by simp [entL, mL_X6_bitsOfMean], ?_⟩
  refine wpN_ok (Γ := Γ_X6_bitsOfMean) (hΓ_X6_bitsOfMean l G) so_X6_bitsOfMean 5 _ _ _ _ _ _ ?_
  simp only [mL_X6_bitsOfMean, mT_X6_bitsOfMean, rc_X6_bitsOfMean, rs_X6_bitsOfMean, Γ_X6_bitsOfMean, sg_X6_bitsOfMean_0, sg_X6_bitsOfMean_5, sg_X6_bitsOfMean_31, sg_X6_bitsOfMean_44, wn_X6_bitsOfMean_0, wn_X6_bitsOfMean_5, wn_X6_bitsOfMean_31, wn_X6_bitsOfMean_44, wp_c, ex_c, x_nop, x_goto, x_table, x_iinc, x_ldc, x_ldc2, x_iaload, x_faload, x_baload, x_caload, x_iastore, x_fastore, x_bastore, x_castore, x_aastore, x_alen, x_gets, x_new, x_newa, x_anew, x_invs, x_invi, x_invv, x_ret, x_iret, x_lret, x_fret, x_aret, x_lconst, x_fconst0, x_fconst1, x_fconst2, x_dconst0, x_dconst1, x_null, x_iadd, x_isub, x_imul, x_iand, x_ior, x_idiv, x_irem, x_ineg, x_ishl, x_ishr, x_land, x_ladd, x_lmul, x_lor, x_lushr, x_lshl, x_lcmp, x_i2l, x_l2i, x_i2c, x_i2f, x_f2d, x_d2i, x_d2l, x_fadd, x_fsub, x_fmul, x_fdiv, x_dadd, x_dsub, x_dmul, x_ddiv, x_fcmp, x_dcmp, x_dupI, x_dupR, x_dup2, x_popI, x_popR, ldP_I, ldP_L, ldP_F, ldP_D, ldP_R, ldP_N, x_iload, x_iload_n, x_lload, x_lload_n, x_fload, x_fload_n, x_dload, x_dload_n, x_aload, x_aload_n, x_istore, x_istore_n, x_lstore, x_lstore_n, x_fstore, x_fstore_n, x_dstore, x_dstore_n, x_astore, x_astore_n, x_astoreN, x_astore_nN, x_icmp_eq, x_icmp_ne, x_icmp_lt, x_icmp_ge, x_icmp_gt, x_icmp_le, x_if_eq, x_if_ne, x_if_lt, x_if_ge, x_if_gt, x_if_le, x_ifnull, x_ifnullR, x_ifnn, x_ifnnR, x_aaload2, x_cpI, x_cpF, x_oI, xk_bipush_120, xk_iconst_0, xk_bipush_m6, xk_iconst_1, xk_bipush_80, xk_iconst_4, xk_bipush_6, xk_iconst_2, xk_bipush_40, xk_iconst_3, xk_bipush_10, xk_iconst_5, xk_bipush_m2, xk_bipush_m4, xk_iconst_m1, xk_bipush_m5, xk_bipush_12, xk_bipush_100, xk_bipush_26, xk_bipush_48, xk_sipush_9999, xk_sipush_500, xk_bipush_7, xk_bipush_119, xk_bipush_m126, xk_bipush_127, xk_bipush_23, xk_sipush_m1022, xk_sipush_1023, xk_bipush_52, xg_0_0, xp_0_0, xg_0_1, xp_0_1, xg_0_2, xp_0_2, xg_0_3, xp_0_3, xg_0_4, xp_0_4, xg_0_5, xp_0_5, xg_0_6, xp_0_6, xg_0_7, xp_0_7, xg_0_8, xp_0_8, xg_1_0, xp_1_0, xg_1_1, xp_1_1, xg_1_2, xp_1_2, xg_1_3, xp_1_3, xg_2_0, xp_2_0, xg_2_1, xp_2_1, xg_2_2, xp_2_2, xg_3_0, xp_3_0, xg_3_1, xp_3_1, xg_3_2, xp_3_2, xg_3_3, xp_3_3, xg_3_4, xp_3_4, xg_3_5, xp_3_5, xg_3_6, xp_3_6, xg_3_7, xp_3_7, xg_3_8, xp_3_8, xg_3_9, xp_3_9, xg_3_10, xp_3_10, xg_3_11, xp_3_11, xg_4_0, xp_4_0, xg_4_1, xp_4_1, xg_5_0, xp_5_0, xg_5_1, xp_5_1, xg_6_0, xp_6_0, xg_6_1, xp_6_1, xg_6_2, xp_6_2, xg_6_3, xp_6_3, xg_6_4, xp_6_4, xg_6_5, xp_6_5, fv0, fv1, fv2, fv3, kI_0, kI_1, stL, wipeL, entLn, entL, List.getElem?_cons_zero, List.getElem?_cons_succ, List.getElem?_nil, List.set_cons_zero, List.set_cons_succ, List.set_nil, List.length_cons, List.length_nil, List.cons_append, List.nil_append, List.replicate, Nat.reduceAdd, Nat.reduceLeDiff, Nat.reduceSub, true_and, and_true, x_callS, x_callSN, x_callI, x_callIN, x_callV0, x_callV1, x_callV2, x_callV3, x_callV4, x_callV5, x_callV6, x_callV7, callP, List.take_succ_cons, List.take_zero, List.take_nil, List.drop_succ_cons, List.drop_zero, List.drop_nil, List.getLast?_singleton, List.getLast?_cons_cons, Option.some.injEq, Value.ref.injEq, exists_eq_left, exists_eq_left', Nat.zero_le, Nat.add_zero, ldcV_f, ldcV_fn, ldcV_l, ldcV_d, Nat.reduceMul, Nat.le_refl, List.reverse_cons, List.reverse_nil, Option.toList, List.map_cons, List.map_nil, List.sum_cons, List.sum_nil, Value.category, tblW_n, tblW_c, Int.cast_ofNat_Int, Int.reduceAdd, Int.reduceToNat, ofI_n]
  obtain ⟨hv, hE⟩ := h
  have hv2 : v.toNat < 9218868437227405312 := by unfold meOK at hv; omega
  obtain ⟨N, s, hd⟩ := DecD.ex v.toNat
  rw [mI_0]
  refine bm_lp l G hv hd hE 0 (by omega) _ hv2 hd.u ?_
  have := u64_le.mpr hv
  rw [u64_1] at this
  exact Nat.lt_of_le_of_lt this (Nat.pow_lt_pow_right (by decide) (by decide))
