-- needs: 56.mpub
/-! the reference's changes -/
def MOK (S : SS) (y kc : Nat) : Prop := ModAt S y ∧ DOK (mV S y 0) ∧ kc ≤ 6 ∧ sI S y 2 = nI kc
/-- where a word's letters began: a place of the text -/
def FO (f : Nat → Int32) : Prop := ∃ a, a ≤ 80 ∧ f 12 = nI a
def FK (S T : SS) (y : Nat) : Prop := FO (sI S y) → FO (sI T y)
def MChg (S T : SS) (y kc : Nat) (D : DV) (tl : Int32) : Prop := Fr S T y (y + 5) ∧ sI T (y + 3) = sI S (y + 3) ∧ sI T y 2 = nI (min (kc + 1) 6) ∧ (sI T y 6 = tl ∧ FK S T y) ∧ DE (mV T y 0) D ∧ Qs S T y (min (kc + 1) 6) 0 ∧
  (∀ q, 1 ≤ q → q < min (kc + 1) 6 → Qs S T y q (if kc = 6 then q + 1 else q)) ∧ ∀ q, 7 ≤ q → q < 9 → Qs S T y q q
/-- what a change stands on: the state noted -/
def Noted (S U : SS) (y kc : Nat) : Prop := Fr S U y (y + 3) ∧ sI U y = upV (sI S y) 2 (nI (min (kc + 1) 6)) ∧ Qs S U y (min (kc + 1) 6) 0 ∧ (∀ q, 1 ≤ q → q < min (kc + 1) 6 → Qs S U y q (if kc = 6 then q + 1 else q)) ∧ Qs S U y 0 0 ∧ ∀ q, 7 ≤ q → Qs S U y q q
theorem Noted.chg {S U T : SS} {y kc : Nat} {D D' : DV} (h : Noted S U y kc) (k : OpS U T y D') (hD : DE D' D) (hk : kc ≤ 6) : MChg S T y kc D (sI S y 6) := by
  obtain ⟨h1, h2, h3, h4, h5, h6⟩ := h
  obtain ⟨k1, k2, k3, k4⟩ := k
  have ey : sI T y = sI U y := k1.i (by omega)
  refine ⟨(h1.mono (by omega) (by omega)).trans (k1.mono (by omega) (by omega)), ?_, ?_, ⟨?_, ?_⟩, k3.trans hD, h3.trans (k4 _ (by omega) (by omega)), fun q a b => (h4 q a b).trans (k4 q a (by omega)), fun q a b => (h6 q a).trans (k4 q (by omega) b)⟩
  · rw [k2, h1.i (by omega)]
  · rw [ey, h2]; rfl
  · rw [ey, h2]; rfl
  · unfold FK FO
    rw [ey, h2]
    exact id
theorem Noted.mok {S U : SS} {y kc : Nat} (h : Noted S U y kc) (k : MOK S y kc) : ModAt U y ∧ DOK (mV U y 0) ∧ DE (mV U y 0) (mV S y 0) :=
  ⟨h.1.mod k.1, DOK.congr h.2.2.2.2.1.de.symm k.2.1, h.2.2.2.2.1.de⟩
theorem erWrite_0 {D : DV} {w r c t : Int32} (h : erWrite D w r c t = nI 0) : (0 ≤ w ∧ w < D.pp) ∧ ¬ D.dk = mI 6 ∧ Pl r c ∧ (0 ≤ t ∧ t < nI 26) ∧ wrOK D (onG D) w.toNatClampNeg (kP r c) = true := by
  unfold erWrite at h
  by_cases c1 : ¬ (0 ≤ w ∧ w < D.pp) ∨ D.dk = mI 6 ∨ ¬ Pl r c
  · rw [if_pos c1] at h
    exact absurd h (by decide)
  · rw [if_neg c1] at h
    by_cases c2 : ¬ (0 ≤ t ∧ t < nI 26)
    · rw [if_pos c2] at h
      exact absurd h (by decide)
    · rw [if_neg c2] at h
      by_cases c3 : wrOK D (onG D) w.toNatClampNeg (kP r c) = true
      · exact ⟨Decidable.not_not.mp fun a => c1 (Or.inl a), fun a => c1 (Or.inr (Or.inl a)), Decidable.not_not.mp fun a => c1 (Or.inr (Or.inr a)), Decidable.not_not.mp c2, c3⟩
      · rw [if_neg c3] at h
        exact absurd h (by decide)
theorem erProm_0 {D : DV} {w r c : Int32} (h : erProm D w r c = nI 0) : (0 ≤ w ∧ w < D.pp) ∧ ¬ D.dk = mI 6 ∧ Pl r c := by
  unfold erProm at h
  by_cases c1 : ¬ (0 ≤ w ∧ w < D.pp) ∨ D.dk = mI 6 ∨ ¬ Pl r c
  · rw [if_pos c1] at h
    exact absurd h (by decide)
  · exact ⟨Decidable.not_not.mp fun a => c1 (Or.inl a), fun a => c1 (Or.inr (Or.inl a)), Decidable.not_not.mp fun a => c1 (Or.inr (Or.inr a))⟩
theorem erRub_0 {D : DV} {r c : Int32} (h : erRub D r c = nI 0) : ¬ D.dk = mI 6 ∧ Pl r c ∧ ¬ vaRub D r c = mI 6 := by
  unfold erRub at h
  by_cases c1 : D.dk = mI 6 ∨ ¬ Pl r c
  · rw [if_pos c1] at h
    exact absurd h (by decide)
  · rw [if_neg c1] at h
    refine ⟨fun a => c1 (Or.inl a), Decidable.not_not.mp fun a => c1 (Or.inr a), fun a => ?_⟩
    unfold vaRub at a
    rw [if_pos a] at h
    exact absurd h (by decide)
theorem erPass_0 {D : DV} {m : Int32} (h : erPass D m = nI 0) : ∃ k, 1 ≤ k ∧ k ≤ 48 ∧ m = nI k := by
  unfold erPass at h
  by_cases c1 : ¬ (nI 1 ≤ m ∧ m ≤ nI 48)
  · rw [if_pos c1] at h
    exact absurd h (by decide)
  · have c := Decidable.not_not.mp c1
    have h0 : 0 ≤ m := Int32.le_trans (by decide) c.1
    obtain ⟨k, hk, rfl⟩ := vp_in_of ((in_cmp (n := 49) (by omega)).mpr ⟨h0, Int32.lt_of_le_of_lt c.2 (by decide)⟩) (by omega)
    exact ⟨k, (nI_leI (by omega) (by omega)).mp c.1, by omega, rfl⟩
def P_X7_lay (as : List Value) (S : SS) (E : Option Value → SS → Prop) : Prop := match as with
  | [.ref y, .int p] => ∃ kc, MOK S y kc ∧ (¬ erLay (mV S y 0) p = nI 0 → E (some (.int (erLay (mV S y 0) p))) S) ∧ (erLay (mV S y 0) p = nI 0 → ∀ T, MChg S T y kc (neLay (mV S y 0) p) (sI S y 6) → E (some (.int (mV S y 0).dk)) T)
  | _ => False
def Γ_X7_lay : List (MI × PT) := [(mi_X7_layError, P_X7_layError), (mi_X7_changes, P_X7_changes), (mi_X7_lays, P_X7_lays)]
theorem hΓ_X7_lay (l : Launch) (G : Gx) : ∀ q ∈ Γ_X7_lay, Ct l G q.1 q.2 := List.forall_mem_cons.mpr ⟨ct_X7_layError l G, List.forall_mem_cons.mpr ⟨ct_X7_changes l G, List.forall_mem_cons.mpr ⟨ct_X7_lays l G, fun _ h => absurd h List.not_mem_nil⟩⟩⟩
set_option maxHeartbeats 1000000 in
theorem ct_X7_lay (l : Launch) (G : Gx) : Ct l G mi_X7_lay P_X7_lay := by
  refine Ct.ofV mo_X7_lay (fun as S E h => ?_)
  unfold P_X7_lay at h
  split at h
  case h_2 => exact h.elim
  rename_i y p
  refine ⟨by simp [entL, mL_X7_lay], ?_⟩
  refine wpN_ok (Γ := Γ_X7_lay) (hΓ_X7_lay l G) so_X7_lay 4 _ _ _ _ _ _ ?_
  simp only [mL_X7_lay, mT_X7_lay, rc_X7_lay, rs_X7_lay, Γ_X7_lay, sg_X7_lay_0, sg_X7_lay_12, wn_X7_lay_0, wn_X7_lay_12, wp_c, ex_c, x_nop, x_goto, x_table, x_iinc, x_ldc, x_ldc2, x_iaload, x_faload, x_baload, x_caload, x_iastore, x_fastore, x_bastore, x_castore, x_aastore, x_alen, x_gets, x_new, x_newa, x_anew, x_invs, x_invi, x_invv, x_ret, x_iret, x_lret, x_fret, x_aret, x_lconst, x_fconst0, x_fconst1, x_fconst2, x_dconst0, x_dconst1, x_null, x_iadd, x_isub, x_imul, x_iand, x_ior, x_idiv, x_irem, x_ineg, x_ishl, x_ishr, x_land, x_lor, x_lushr, x_lshl, x_lcmp, x_i2l, x_l2i, x_i2c, x_i2f, x_f2d, x_d2i, x_d2l, x_fadd, x_fsub, x_fmul, x_fdiv, x_dadd, x_dsub, x_dmul, x_ddiv, x_fcmp, x_dcmp, x_dupI, x_dupR, x_dup2, x_popI, x_popR, ldP_I, ldP_L, ldP_F, ldP_D, ldP_R, ldP_N, x_iload, x_iload_n, x_lload, x_lload_n, x_fload, x_fload_n, x_dload, x_dload_n, x_aload, x_aload_n, x_istore, x_istore_n, x_lstore, x_lstore_n, x_fstore, x_fstore_n, x_dstore, x_dstore_n, x_astore, x_astore_n, x_astoreN, x_astore_nN, x_icmp_eq, x_icmp_ne, x_icmp_lt, x_icmp_ge, x_icmp_gt, x_icmp_le, x_if_eq, x_if_ne, x_if_lt, x_if_ge, x_if_gt, x_if_le, x_ifnull, x_ifnullR, x_ifnn, x_ifnnR, x_aaload2, x_cpI, x_cpF, x_bF, x_bD, x_oI, xk_bipush_120, xk_iconst_0, xk_bipush_m6, xk_iconst_1, xk_bipush_80, xk_bipush_48, xk_bipush_57, xk_bipush_10, xk_bipush_64, xk_bipush_46, xk_bipush_97, xk_bipush_122, xk_bipush_119, xk_bipush_61, xk_bipush_59, xk_bipush_8, xk_bipush_33, xk_bipush_126, xk_bipush_m2, xk_bipush_m4, xk_iconst_4, xk_bipush_6, xk_iconst_2, xk_bipush_40, xk_iconst_3, xk_iconst_5, xk_iconst_m1, xk_bipush_m5, xk_bipush_12, xk_bipush_100, xk_bipush_26, xk_sipush_9999, xk_sipush_500, xk_bipush_7, xk_bipush_m126, xk_bipush_127, xk_bipush_23, xk_sipush_m1022, xk_sipush_1023, xk_bipush_52, xk_bipush_m3, xk_sipush_9830, xk_sipush_4800, xk_sipush_983, xk_sipush_480, xk_bipush_13, xk_bipush_18, xk_bipush_9, xk_bipush_32, xg_0_0, xp_0_0, xg_0_1, xp_0_1, xg_0_2, xp_0_2, xg_0_3, xp_0_3, xg_0_4, xp_0_4, xg_0_5, xp_0_5, xg_0_6, xp_0_6, xg_0_7, xp_0_7, xg_0_8, xp_0_8, xg_1_0, xp_1_0, xg_1_1, xp_1_1, xg_1_2, xp_1_2, xg_1_3, xp_1_3, xg_2_0, xp_2_0, xg_2_1, xp_2_1, xg_2_2, xp_2_2, xg_3_0, xp_3_0, xg_3_1, xp_3_1, xg_3_2, xp_3_2, xg_3_3, xp_3_3, xg_3_4, xp_3_4, xg_3_5, xp_3_5, xg_3_6, xp_3_6, xg_3_7, xp_3_7, xg_3_8, xp_3_8, xg_3_9, xp_3_9, xg_3_10, xp_3_10, xg_3_11, xp_3_11, xg_4_0, xp_4_0, xg_4_1, xp_4_1, xg_5_0, xp_5_0, xg_5_1, xp_5_1, xg_6_0, xp_6_0, xg_6_1, xp_6_1, xg_6_2, xp_6_2, xg_6_3, xp_6_3, xg_6_4, xp_6_4, xg_6_5, xp_6_5, xg_7_0, xp_7_0, xg_7_1, xp_7_1, xg_7_2, xp_7_2, xg_7_3, xp_7_3, xg_7_4, xp_7_4, xg_7_5, xp_7_5, xg_7_6, xp_7_6, xg_7_7, xp_7_7, xg_7_8, xp_7_8, xg_7_9, xp_7_9, xg_7_10, xp_7_10, xg_7_11, xp_7_11, xg_7_12, xp_7_12, xg_7_13, xp_7_13, fv0, fv1, fv2, fv3, kI_0, kI_1, stL, wipeL, entLn, entL, List.getElem?_cons_zero, List.getElem?_cons_succ, List.getElem?_nil, List.set_cons_zero, List.set_cons_succ, List.set_nil, List.length_cons, List.length_nil, List.cons_append, List.nil_append, List.replicate, Nat.reduceAdd, Nat.reduceLeDiff, Nat.reduceSub, true_and, and_true, x_callS, x_callSN, x_callI, x_callIN, x_callV0, x_callV1, x_callV2, x_callV3, x_callV4, x_callV5, x_callV6, x_callV7, callP, List.take_succ_cons, List.take_zero, List.take_nil, List.drop_succ_cons, List.drop_zero, List.drop_nil, List.getLast?_singleton, List.getLast?_cons_cons, Option.some.injEq, Value.ref.injEq, exists_eq_left, exists_eq_left', Nat.zero_le, Nat.add_zero, ldcV_f, ldcV_fn, ldcV_l, ldcV_d, Nat.reduceMul, Nat.le_refl, List.reverse_cons, List.reverse_nil, Option.toList, List.map_cons, List.map_nil, List.sum_cons, List.sum_nil, Value.category, tblW_n, tblW_c, Int.cast_ofNat_Int, Int.reduceAdd, Int.reduceToNat, ofI_n, rc_X7_layError, rs_X7_layError, P_X7_layError, rc_X7_changes, rs_X7_changes, P_X7_changes, rc_X7_lays, rs_X7_lays, P_X7_lays]
  obtain ⟨kc, hM, h1, h2⟩ := h
  have hM0 := hM
  obtain ⟨hA, hD, hkc, ek⟩ := hM
  simp only [hA.1, hA, hD, ← nI_0, sK_stI, sR_stI, sK_stF, sR_stF, sK_stIA, sR_stIA, sK_stFA, sR_stFA, sI_stI, sI_stF, sI_stIA, sI_stFA, sF_stI, sF_stF, sF_stIA, sF_stFA, Nat.left_eq_add, Nat.add_eq_left, Nat.add_left_cancel_iff, Nat.reduceEqDiff, Nat.reduceEqDiff, Nat.succ_ne_self, false_and, and_false, if_false, if_true, nI_succ_sub, Option.some.injEq, Prod.mk.injEq, exists_eq_left', true_and, and_true, retI, retF, retV, retZ1, retZ0, retL, retA, retN, Nat.reduceAdd, Nat.reduceMul, Nat.reduceLT]
  refine ⟨fun c => ⟨kc, hkc, ek, fun U a1 a2 a3 a4 a5 a6 => ?_⟩, h1⟩
  have N : Noted S U y kc := ⟨a1, a2, a3, a4, a5, a6⟩
  obtain ⟨u1, u2, u3⟩ := N.mok hM0
  refine ⟨u1.1, u1, fun T hT => ?_⟩
  rw [u3.dk']
  exact h2 c T (N.chg hT (neLay_de u3 p) hkc)
def P_X7_write (as : List Value) (S : SS) (E : Option Value → SS → Prop) : Prop := match as with
  | [.ref y, .int w, .int r, .int c, .int t] => ∃ kc, MOK S y kc ∧ (¬ erWrite (mV S y 0) w r c t = nI 0 → E (some (.int (erWrite (mV S y 0) w r c t))) S) ∧ (erWrite (mV S y 0) w r c t = nI 0 → ∀ T, MChg S T y kc (neWrite (mV S y 0) w r c t) (sI S y 6) → E (some (.int (vaWrite (mV S y 0) w r c))) T)
  | _ => False
def Γ_X7_write : List (MI × PT) := [(mi_X7_writeError, P_X7_writeError), (mi_X7_changes, P_X7_changes), (mi_X7_spotOf, P_X7_spotOf), (mi_X7_pens, P_X7_pens)]
theorem hΓ_X7_write (l : Launch) (G : Gx) : ∀ q ∈ Γ_X7_write, Ct l G q.1 q.2 := List.forall_mem_cons.mpr ⟨ct_X7_writeError l G, List.forall_mem_cons.mpr ⟨ct_X7_changes l G, List.forall_mem_cons.mpr ⟨ct_X7_spotOf l G, List.forall_mem_cons.mpr ⟨ct_X7_pens l G, fun _ h => absurd h List.not_mem_nil⟩⟩⟩⟩
set_option maxHeartbeats 1000000 in
theorem ct_X7_write (l : Launch) (G : Gx) : Ct l G mi_X7_write P_X7_write := by
  refine Ct.ofV mo_X7_write (fun as S E h => ?_)
  unfold P_X7_write at h
  split at h
  case h_2 => exact h.elim
  rename_i y w r c t
  refine ⟨by simp [entL, mL_X7_write], ?_⟩
  refine wpN_ok (Γ := Γ_X7_write) (hΓ_X7_write l G) so_X7_write 4 _ _ _ _ _ _ ?_
  simp only [mL_X7_write, mT_X7_write, rc_X7_write, rs_X7_write, Γ_X7_write, sg_X7_write_0, sg_X7_write_19, wn_X7_write_0, wn_X7_write_19, wp_c, ex_c, x_nop, x_goto, x_table, x_iinc, x_ldc, x_ldc2, x_iaload, x_faload, x_baload, x_caload, x_iastore, x_fastore, x_bastore, x_castore, x_aastore, x_alen, x_gets, x_new, x_newa, x_anew, x_invs, x_invi, x_invv, x_ret, x_iret, x_lret, x_fret, x_aret, x_lconst, x_fconst0, x_fconst1, x_fconst2, x_dconst0, x_dconst1, x_null, x_iadd, x_isub, x_imul, x_iand, x_ior, x_idiv, x_irem, x_ineg, x_ishl, x_ishr, x_land, x_lor, x_lushr, x_lshl, x_lcmp, x_i2l, x_l2i, x_i2c, x_i2f, x_f2d, x_d2i, x_d2l, x_fadd, x_fsub, x_fmul, x_fdiv, x_dadd, x_dsub, x_dmul, x_ddiv, x_fcmp, x_dcmp, x_dupI, x_dupR, x_dup2, x_popI, x_popR, ldP_I, ldP_L, ldP_F, ldP_D, ldP_R, ldP_N, x_iload, x_iload_n, x_lload, x_lload_n, x_fload, x_fload_n, x_dload, x_dload_n, x_aload, x_aload_n, x_istore, x_istore_n, x_lstore, x_lstore_n, x_fstore, x_fstore_n, x_dstore, x_dstore_n, x_astore, x_astore_n, x_astoreN, x_astore_nN, x_icmp_eq, x_icmp_ne, x_icmp_lt, x_icmp_ge, x_icmp_gt, x_icmp_le, x_if_eq, x_if_ne, x_if_lt, x_if_ge, x_if_gt, x_if_le, x_ifnull, x_ifnullR, x_ifnn, x_ifnnR, x_aaload2, x_cpI, x_cpF, x_bF, x_bD, x_oI, xk_bipush_120, xk_iconst_0, xk_bipush_m6, xk_iconst_1, xk_bipush_80, xk_bipush_48, xk_bipush_57, xk_bipush_10, xk_bipush_64, xk_bipush_46, xk_bipush_97, xk_bipush_122, xk_bipush_119, xk_bipush_61, xk_bipush_59, xk_bipush_8, xk_bipush_33, xk_bipush_126, xk_bipush_m2, xk_bipush_m4, xk_iconst_4, xk_bipush_6, xk_iconst_2, xk_bipush_40, xk_iconst_3, xk_iconst_5, xk_iconst_m1, xk_bipush_m5, xk_bipush_12, xk_bipush_100, xk_bipush_26, xk_sipush_9999, xk_sipush_500, xk_bipush_7, xk_bipush_m126, xk_bipush_127, xk_bipush_23, xk_sipush_m1022, xk_sipush_1023, xk_bipush_52, xk_bipush_m3, xk_sipush_9830, xk_sipush_4800, xk_sipush_983, xk_sipush_480, xk_bipush_13, xk_bipush_18, xk_bipush_9, xk_bipush_32, xg_0_0, xp_0_0, xg_0_1, xp_0_1, xg_0_2, xp_0_2, xg_0_3, xp_0_3, xg_0_4, xp_0_4, xg_0_5, xp_0_5, xg_0_6, xp_0_6, xg_0_7, xp_0_7, xg_0_8, xp_0_8, xg_1_0, xp_1_0, xg_1_1, xp_1_1, xg_1_2, xp_1_2, xg_1_3, xp_1_3, xg_2_0, xp_2_0, xg_2_1, xp_2_1, xg_2_2, xp_2_2, xg_3_0, xp_3_0, xg_3_1, xp_3_1, xg_3_2, xp_3_2, xg_3_3, xp_3_3, xg_3_4, xp_3_4, xg_3_5, xp_3_5, xg_3_6, xp_3_6, xg_3_7, xp_3_7, xg_3_8, xp_3_8, xg_3_9, xp_3_9, xg_3_10, xp_3_10, xg_3_11, xp_3_11, xg_4_0, xp_4_0, xg_4_1, xp_4_1, xg_5_0, xp_5_0, xg_5_1, xp_5_1, xg_6_0, xp_6_0, xg_6_1, xp_6_1, xg_6_2, xp_6_2, xg_6_3, xp_6_3, xg_6_4, xp_6_4, xg_6_5, xp_6_5, xg_7_0, xp_7_0, xg_7_1, xp_7_1, xg_7_2, xp_7_2, xg_7_3, xp_7_3, xg_7_4, xp_7_4, xg_7_5, xp_7_5, xg_7_6, xp_7_6, xg_7_7, xp_7_7, xg_7_8, xp_7_8, xg_7_9, xp_7_9, xg_7_10, xp_7_10, xg_7_11, xp_7_11, xg_7_12, xp_7_12, xg_7_13, xp_7_13, fv0, fv1, fv2, fv3, kI_0, kI_1, stL, wipeL, entLn, entL, List.getElem?_cons_zero, List.getElem?_cons_succ, List.getElem?_nil, List.set_cons_zero, List.set_cons_succ, List.set_nil, List.length_cons, List.length_nil, List.cons_append, List.nil_append, List.replicate, Nat.reduceAdd, Nat.reduceLeDiff, Nat.reduceSub, true_and, and_true, x_callS, x_callSN, x_callI, x_callIN, x_callV0, x_callV1, x_callV2, x_callV3, x_callV4, x_callV5, x_callV6, x_callV7, callP, List.take_succ_cons, List.take_zero, List.take_nil, List.drop_succ_cons, List.drop_zero, List.drop_nil, List.getLast?_singleton, List.getLast?_cons_cons, Option.some.injEq, Value.ref.injEq, exists_eq_left, exists_eq_left', Nat.zero_le, Nat.add_zero, ldcV_f, ldcV_fn, ldcV_l, ldcV_d, Nat.reduceMul, Nat.le_refl, List.reverse_cons, List.reverse_nil, Option.toList, List.map_cons, List.map_nil, List.sum_cons, List.sum_nil, Value.category, tblW_n, tblW_c, Int.cast_ofNat_Int, Int.reduceAdd, Int.reduceToNat, ofI_n, rc_X7_writeError, rs_X7_writeError, P_X7_writeError, rc_X7_changes, rs_X7_changes, P_X7_changes, rc_X7_spotOf, rs_X7_spotOf, P_X7_spotOf, rc_X7_pens, rs_X7_pens, P_X7_pens]
  obtain ⟨kc, hM, h1, h2⟩ := h
  have hM0 := hM
  obtain ⟨hA, hD, hkc, ek⟩ := hM
  simp only [hA.1, hA, hD, ← nI_0, sK_stI, sR_stI, sK_stF, sR_stF, sK_stIA, sR_stIA, sK_stFA, sR_stFA, sI_stI, sI_stF, sI_stIA, sI_stFA, sF_stI, sF_stF, sF_stIA, sF_stFA, Nat.left_eq_add, Nat.add_eq_left, Nat.add_left_cancel_iff, Nat.reduceEqDiff, Nat.reduceEqDiff, Nat.succ_ne_self, false_and, and_false, if_false, if_true, nI_succ_sub, Option.some.injEq, Prod.mk.injEq, exists_eq_left', true_and, and_true, retI, retF, retV, retZ1, retZ0, retL, retA, retN, Nat.reduceAdd, Nat.reduceMul, Nat.reduceLT]
  refine ⟨fun e => ?_, h1⟩
  obtain ⟨c1, c2, c3, c4, -⟩ := erWrite_0 e
  refine ⟨kc, hkc, ek, fun U a1 a2 a3 a4 a5 a6 => ?_⟩
  have N : Noted S U y kc := ⟨a1, a2, a3, a4, a5, a6⟩
  obtain ⟨u1, u2, u3⟩ := N.mok hM0
  have hd : ¬ (mV U y 0).dk = mI 6 := by rw [u3.dk']; exact c2
  obtain ⟨p, hp⟩ := (OnD_or u2).resolve_left hd
  obtain ⟨n, hn, en⟩ := hD.pp
  obtain ⟨wn, hwn, ew⟩ := vp_in_of ((in_cmp (by omega)).mpr (en ▸ c1)) (by omega)
  obtain ⟨an, han, ea⟩ := vp_in_of ((in_cmp (by omega)).mpr c4) (by omega)
  refine ⟨c3, u1.1, u1, u2, p, kP r c, wn, an, hp, kP_lt c3, rfl, by omega, ew, han, ea, fun T hT => ?_⟩
  obtain ⟨v1, v2⟩ := vaWrite_de u3 u2 w r c t (show wn < 5 by omega) ew hd
  have e1 : neWrite (mV U y 0) w r c t = wriV (mV U y 0) p wn (kP r c) t := by
    unfold neWrite
    rw [hp.dk, ew, nI_cl (by omega)]
  have e2 : vaWrite (mV U y 0) w r c = nI (lostV (mV U y 0) ((mV U y 0).g p) wn (kP r c) 120) := by
    unfold vaWrite
    rw [hp.on, ew, nI_cl (by omega)]
  rw [← e2, v1]
  exact h2 e T (N.chg hT (e1 ▸ v2) hkc)
def P_X7_set (as : List Value) (S : SS) (E : Option Value → SS → Prop) : Prop := match as with
  | [.ref y, .int s, .int v] => ∃ kc, MOK S y kc ∧ (s < nI 0 ∨ nI 3 < s → E (some (.int (mI 2))) S) ∧ (∀ k, k < 4 → s = nI k → (v < nI (leastK k) ∨ nI (mostK k) < v) → E (some (.int (mI 2))) S) ∧
      (∀ k, k < 4 → s = nI k → ¬ (v < nI (leastK k) ∨ nI (mostK k) < v) → ∀ T, MChg S T y kc (sf_st (mV S y 0) (upV (mV S y 0).st k v)) (sI S y 6) → E (some (.int ((mV S y 0).st k))) T)
  | _ => False
def P_X7_isValue (as : List Value) (S : SS) (E : Option Value → SS → Prop) : Prop := match as with
  | [.int s, .int v] => (s < nI 0 ∨ nI 3 < s → E (some (.int (nI 0))) S) ∧ (∀ k, k < 4 → s = nI k → E (some (.int (bI (¬ (v < nI (leastK k) ∨ nI (mostK k) < v))))) S)
  | _ => False
def Γ_X7_isValue : List (MI × PT) := [(mi_X7_in, P_X7_in)]
theorem hΓ_X7_isValue (l : Launch) (G : Gx) : ∀ q ∈ Γ_X7_isValue, Ct l G q.1 q.2 := List.forall_mem_cons.mpr ⟨ct_X7_in l G, fun _ h => absurd h List.not_mem_nil⟩
set_option maxHeartbeats 1000000 in
theorem ct_X7_isValue (l : Launch) (G : Gx) : Ct l G mi_X7_isValue P_X7_isValue := by
  refine Ct.ofV mo_X7_isValue (fun as S E h => ?_)
  unfold P_X7_isValue at h
  split at h
  case h_2 => exact h.elim
  rename_i s v
  refine ⟨by simp [entL, mL_X7_isValue], ?_⟩
  refine wpN_ok (Γ := Γ_X7_isValue) (hΓ_X7_isValue l G) so_X7_isValue 6 _ _ _ _ _ _ ?_
  simp only [mL_X7_isValue, mT_X7_isValue, rc_X7_isValue, rs_X7_isValue, Γ_X7_isValue, sg_X7_isValue_0, sg_X7_isValue_32, sg_X7_isValue_42, sg_X7_isValue_52, sg_X7_isValue_62, sg_X7_isValue_72, wn_X7_isValue_0, wn_X7_isValue_32, wn_X7_isValue_42, wn_X7_isValue_52, wn_X7_isValue_62, wn_X7_isValue_72, wp_c, ex_c, x_nop, x_goto, x_table, x_iinc, x_ldc, x_ldc2, x_iaload, x_faload, x_baload, x_caload, x_iastore, x_fastore, x_bastore, x_castore, x_aastore, x_alen, x_gets, x_new, x_newa, x_anew, x_invs, x_invi, x_invv, x_ret, x_iret, x_lret, x_fret, x_aret, x_lconst, x_fconst0, x_fconst1, x_fconst2, x_dconst0, x_dconst1, x_null, x_iadd, x_isub, x_imul, x_iand, x_ior, x_idiv, x_irem, x_ineg, x_ishl, x_ishr, x_land, x_lor, x_lushr, x_lshl, x_lcmp, x_i2l, x_l2i, x_i2c, x_i2f, x_f2d, x_d2i, x_d2l, x_fadd, x_fsub, x_fmul, x_fdiv, x_dadd, x_dsub, x_dmul, x_ddiv, x_fcmp, x_dcmp, x_dupI, x_dupR, x_dup2, x_popI, x_popR, ldP_I, ldP_L, ldP_F, ldP_D, ldP_R, ldP_N, x_iload, x_iload_n, x_lload, x_lload_n, x_fload, x_fload_n, x_dload, x_dload_n, x_aload, x_aload_n, x_istore, x_istore_n, x_lstore, x_lstore_n, x_fstore, x_fstore_n, x_dstore, x_dstore_n, x_astore, x_astore_n, x_astoreN, x_astore_nN, x_icmp_eq, x_icmp_ne, x_icmp_lt, x_icmp_ge, x_icmp_gt, x_icmp_le, x_if_eq, x_if_ne, x_if_lt, x_if_ge, x_if_gt, x_if_le, x_ifnull, x_ifnullR, x_ifnn, x_ifnnR, x_aaload2, x_cpI, x_cpF, x_bF, x_bD, x_oI, xk_bipush_120, xk_iconst_0, xk_bipush_m6, xk_iconst_1, xk_bipush_80, xk_bipush_48, xk_bipush_57, xk_bipush_10, xk_bipush_64, xk_bipush_46, xk_bipush_97, xk_bipush_122, xk_bipush_119, xk_bipush_61, xk_bipush_59, xk_bipush_8, xk_bipush_33, xk_bipush_126, xk_bipush_m2, xk_bipush_m4, xk_iconst_4, xk_bipush_6, xk_iconst_2, xk_bipush_40, xk_iconst_3, xk_iconst_5, xk_iconst_m1, xk_bipush_m5, xk_bipush_12, xk_bipush_100, xk_bipush_26, xk_sipush_9999, xk_sipush_500, xk_bipush_7, xk_bipush_m126, xk_bipush_127, xk_bipush_23, xk_sipush_m1022, xk_sipush_1023, xk_bipush_52, xk_bipush_m3, xk_sipush_9830, xk_sipush_4800, xk_sipush_983, xk_sipush_480, xk_bipush_13, xk_bipush_18, xk_bipush_9, xk_bipush_32, xg_0_0, xp_0_0, xg_0_1, xp_0_1, xg_0_2, xp_0_2, xg_0_3, xp_0_3, xg_0_4, xp_0_4, xg_0_5, xp_0_5, xg_0_6, xp_0_6, xg_0_7, xp_0_7, xg_0_8, xp_0_8, xg_1_0, xp_1_0, xg_1_1, xp_1_1, xg_1_2, xp_1_2, xg_1_3, xp_1_3, xg_2_0, xp_2_0, xg_2_1, xp_2_1, xg_2_2, xp_2_2, xg_3_0, xp_3_0, xg_3_1, xp_3_1, xg_3_2, xp_3_2, xg_3_3, xp_3_3, xg_3_4, xp_3_4, xg_3_5, xp_3_5, xg_3_6, xp_3_6, xg_3_7, xp_3_7, xg_3_8, xp_3_8, xg_3_9, xp_3_9, xg_3_10, xp_3_10, xg_3_11, xp_3_11, xg_4_0, xp_4_0, xg_4_1, xp_4_1, xg_5_0, xp_5_0, xg_5_1, xp_5_1, xg_6_0, xp_6_0, xg_6_1, xp_6_1, xg_6_2, xp_6_2, xg_6_3, xp_6_3, xg_6_4, xp_6_4, xg_6_5, xp_6_5, xg_7_0, xp_7_0, xg_7_1, xp_7_1, xg_7_2, xp_7_2, xg_7_3, xp_7_3, xg_7_4, xp_7_4, xg_7_5, xp_7_5, xg_7_6, xp_7_6, xg_7_7, xp_7_7, xg_7_8, xp_7_8, xg_7_9, xp_7_9, xg_7_10, xp_7_10, xg_7_11, xp_7_11, xg_7_12, xp_7_12, xg_7_13, xp_7_13, fv0, fv1, fv2, fv3, kI_0, kI_1, stL, wipeL, entLn, entL, List.getElem?_cons_zero, List.getElem?_cons_succ, List.getElem?_nil, List.set_cons_zero, List.set_cons_succ, List.set_nil, List.length_cons, List.length_nil, List.cons_append, List.nil_append, List.replicate, Nat.reduceAdd, Nat.reduceLeDiff, Nat.reduceSub, true_and, and_true, x_callS, x_callSN, x_callI, x_callIN, x_callV0, x_callV1, x_callV2, x_callV3, x_callV4, x_callV5, x_callV6, x_callV7, callP, List.take_succ_cons, List.take_zero, List.take_nil, List.drop_succ_cons, List.drop_zero, List.drop_nil, List.getLast?_singleton, List.getLast?_cons_cons, Option.some.injEq, Value.ref.injEq, exists_eq_left, exists_eq_left', Nat.zero_le, Nat.add_zero, ldcV_f, ldcV_fn, ldcV_l, ldcV_d, Nat.reduceMul, Nat.le_refl, List.reverse_cons, List.reverse_nil, Option.toList, List.map_cons, List.map_nil, List.sum_cons, List.sum_nil, Value.category, tblW_n, tblW_c, Int.cast_ofNat_Int, Int.reduceAdd, Int.reduceToNat, ofI_n, rc_X7_in, rs_X7_in, P_X7_in]
  obtain ⟨h1, h2⟩ := h
  simp only [sK_stI, sR_stI, sK_stF, sR_stF, sK_stIA, sR_stIA, sK_stFA, sR_stFA, sI_stI, sI_stF, sI_stIA, sI_stFA, sF_stI, sF_stF, sF_stIA, sF_stFA, Nat.left_eq_add, Nat.add_eq_left, Nat.add_left_cancel_iff, Nat.reduceEqDiff, Nat.reduceEqDiff, Nat.succ_ne_self, false_and, and_false, if_false, if_true, nI_succ_sub, Option.some.injEq, Prod.mk.injEq, exists_eq_left', true_and, and_true, retI, retF, retV, retZ1, retZ0, retL, retA, retN, Nat.reduceAdd, Nat.reduceMul, Nat.reduceLT]
  simp (disch := omega) only [lc0, lc1, n_i64le, i64n_le, i64le, le_9, le_11, le_25, nI0_le, retZb, true_and, and_true]
  have q : ∀ (P : Prop) [Decidable P] (k : Nat), k < 4 → s = nI k → ((¬ (v < nI (leastK k) ∨ nI (mostK k) < v)) ↔ P) → E (some (.int (bI P))) S := fun P _ k hk e hP => by
    have := h2 k hk e
    rwa [bI_congr hP] at this
  refine ⟨⟨fun e => q _ 0 (by omega) e ?_, fun e => q _ 1 (by omega) e ?_, fun e => q _ 2 (by omega) e ?_, fun e => q _ 3 (by omega) e ?_⟩, fun e => h1 ?_⟩
  · rw [not_or, Int32.not_lt, Int32.not_lt]
    show nI 0 ≤ v ∧ v ≤ nI 18 ↔ _
    rw [nI_0]
  · rw [not_or, Int32.not_lt, Int32.not_lt]
    show nI 0 ≤ v ∧ v ≤ nI 9 ↔ _
    rw [nI_0, le_9]
  · rw [not_or, Int32.not_lt, Int32.not_lt]
    exact Iff.rfl
  · rw [not_or, Int32.not_lt, Int32.not_lt]
    show nI 0 ≤ v ∧ v ≤ nI 50 ↔ _
    rw [nI_0]
  · rw [Int32.lt_iff_toInt_lt, Int32.lt_iff_toInt_lt, nI_toInt (by omega), nI_toInt (by omega)]
    exact e
def Γ_X7_set : List (MI × PT) := [(mi_X7_isValue, P_X7_isValue), (mi_X7_changes, P_X7_changes)]
theorem hΓ_X7_set (l : Launch) (G : Gx) : ∀ q ∈ Γ_X7_set, Ct l G q.1 q.2 := List.forall_mem_cons.mpr ⟨ct_X7_isValue l G, List.forall_mem_cons.mpr ⟨ct_X7_changes l G, fun _ h => absurd h List.not_mem_nil⟩⟩
set_option maxHeartbeats 1000000 in
theorem ct_X7_set (l : Launch) (G : Gx) : Ct l G mi_X7_set P_X7_set := by
  refine Ct.ofV mo_X7_set (fun as S E h => ?_)
  unfold P_X7_set at h
  split at h
  case h_2 => exact h.elim
  rename_i y s v
  refine ⟨by simp [entL, mL_X7_set], ?_⟩
  refine wpN_ok (Γ := Γ_X7_set) (hΓ_X7_set l G) so_X7_set 6 _ _ _ _ _ _ ?_
  simp only [mL_X7_set, mT_X7_set, rc_X7_set, rs_X7_set, Γ_X7_set, sg_X7_set_0, sg_X7_set_11, wn_X7_set_0, wn_X7_set_11, wp_c, ex_c, x_nop, x_goto, x_table, x_iinc, x_ldc, x_ldc2, x_iaload, x_faload, x_baload, x_caload, x_iastore, x_fastore, x_bastore, x_castore, x_aastore, x_alen, x_gets, x_new, x_newa, x_anew, x_invs, x_invi, x_invv, x_ret, x_iret, x_lret, x_fret, x_aret, x_lconst, x_fconst0, x_fconst1, x_fconst2, x_dconst0, x_dconst1, x_null, x_iadd, x_isub, x_imul, x_iand, x_ior, x_idiv, x_irem, x_ineg, x_ishl, x_ishr, x_land, x_lor, x_lushr, x_lshl, x_lcmp, x_i2l, x_l2i, x_i2c, x_i2f, x_f2d, x_d2i, x_d2l, x_fadd, x_fsub, x_fmul, x_fdiv, x_dadd, x_dsub, x_dmul, x_ddiv, x_fcmp, x_dcmp, x_dupI, x_dupR, x_dup2, x_popI, x_popR, ldP_I, ldP_L, ldP_F, ldP_D, ldP_R, ldP_N, x_iload, x_iload_n, x_lload, x_lload_n, x_fload, x_fload_n, x_dload, x_dload_n, x_aload, x_aload_n, x_istore, x_istore_n, x_lstore, x_lstore_n, x_fstore, x_fstore_n, x_dstore, x_dstore_n, x_astore, x_astore_n, x_astoreN, x_astore_nN, x_icmp_eq, x_icmp_ne, x_icmp_lt, x_icmp_ge, x_icmp_gt, x_icmp_le, x_if_eq, x_if_ne, x_if_lt, x_if_ge, x_if_gt, x_if_le, x_ifnull, x_ifnullR, x_ifnn, x_ifnnR, x_aaload2, x_cpI, x_cpF, x_bF, x_bD, x_oI, xk_bipush_120, xk_iconst_0, xk_bipush_m6, xk_iconst_1, xk_bipush_80, xk_bipush_48, xk_bipush_57, xk_bipush_10, xk_bipush_64, xk_bipush_46, xk_bipush_97, xk_bipush_122, xk_bipush_119, xk_bipush_61, xk_bipush_59, xk_bipush_8, xk_bipush_33, xk_bipush_126, xk_bipush_m2, xk_bipush_m4, xk_iconst_4, xk_bipush_6, xk_iconst_2, xk_bipush_40, xk_iconst_3, xk_iconst_5, xk_iconst_m1, xk_bipush_m5, xk_bipush_12, xk_bipush_100, xk_bipush_26, xk_sipush_9999, xk_sipush_500, xk_bipush_7, xk_bipush_m126, xk_bipush_127, xk_bipush_23, xk_sipush_m1022, xk_sipush_1023, xk_bipush_52, xk_bipush_m3, xk_sipush_9830, xk_sipush_4800, xk_sipush_983, xk_sipush_480, xk_bipush_13, xk_bipush_18, xk_bipush_9, xk_bipush_32, xg_0_0, xp_0_0, xg_0_1, xp_0_1, xg_0_2, xp_0_2, xg_0_3, xp_0_3, xg_0_4, xp_0_4, xg_0_5, xp_0_5, xg_0_6, xp_0_6, xg_0_7, xp_0_7, xg_0_8, xp_0_8, xg_1_0, xp_1_0, xg_1_1, xp_1_1, xg_1_2, xp_1_2, xg_1_3, xp_1_3, xg_2_0, xp_2_0, xg_2_1, xp_2_1, xg_2_2, xp_2_2, xg_3_0, xp_3_0, xg_3_1, xp_3_1, xg_3_2, xp_3_2, xg_3_3, xp_3_3, xg_3_4, xp_3_4, xg_3_5, xp_3_5, xg_3_6, xp_3_6, xg_3_7, xp_3_7, xg_3_8, xp_3_8, xg_3_9, xp_3_9, xg_3_10, xp_3_10, xg_3_11, xp_3_11, xg_4_0, xp_4_0, xg_4_1, xp_4_1, xg_5_0, xp_5_0, xg_5_1, xp_5_1, xg_6_0, xp_6_0, xg_6_1, xp_6_1, xg_6_2, xp_6_2, xg_6_3, xp_6_3, xg_6_4, xp_6_4, xg_6_5, xp_6_5, xg_7_0, xp_7_0, xg_7_1, xp_7_1, xg_7_2, xp_7_2, xg_7_3, xp_7_3, xg_7_4, xp_7_4, xg_7_5, xp_7_5, xg_7_6, xp_7_6, xg_7_7, xp_7_7, xg_7_8, xp_7_8, xg_7_9, xp_7_9, xg_7_10, xp_7_10, xg_7_11, xp_7_11, xg_7_12, xp_7_12, xg_7_13, xp_7_13, fv0, fv1, fv2, fv3, kI_0, kI_1, stL, wipeL, entLn, entL, List.getElem?_cons_zero, List.getElem?_cons_succ, List.getElem?_nil, List.set_cons_zero, List.set_cons_succ, List.set_nil, List.length_cons, List.length_nil, List.cons_append, List.nil_append, List.replicate, Nat.reduceAdd, Nat.reduceLeDiff, Nat.reduceSub, true_and, and_true, x_callS, x_callSN, x_callI, x_callIN, x_callV0, x_callV1, x_callV2, x_callV3, x_callV4, x_callV5, x_callV6, x_callV7, callP, List.take_succ_cons, List.take_zero, List.take_nil, List.drop_succ_cons, List.drop_zero, List.drop_nil, List.getLast?_singleton, List.getLast?_cons_cons, Option.some.injEq, Value.ref.injEq, exists_eq_left, exists_eq_left', Nat.zero_le, Nat.add_zero, ldcV_f, ldcV_fn, ldcV_l, ldcV_d, Nat.reduceMul, Nat.le_refl, List.reverse_cons, List.reverse_nil, Option.toList, List.map_cons, List.map_nil, List.sum_cons, List.sum_nil, Value.category, tblW_n, tblW_c, Int.cast_ofNat_Int, Int.reduceAdd, Int.reduceToNat, ofI_n, rc_X7_isValue, rs_X7_isValue, P_X7_isValue, rc_X7_changes, rs_X7_changes, P_X7_changes]
  obtain ⟨kc, hM, h1, h2, h3⟩ := h
  have hM0 := hM
  obtain ⟨hA, hD, hkc, ek⟩ := hM
  simp only [hA.1, hA, hD, bI_0, sK_stI, sR_stI, sK_stF, sR_stF, sK_stIA, sR_stIA, sK_stFA, sR_stFA, sI_stI, sI_stF, sI_stIA, sI_stFA, sF_stI, sF_stF, sF_stIA, sF_stFA, Nat.left_eq_add, Nat.add_eq_left, Nat.add_left_cancel_iff, Nat.reduceEqDiff, Nat.reduceEqDiff, Nat.succ_ne_self, false_and, and_false, if_false, if_true, nI_succ_sub, Option.some.injEq, Prod.mk.injEq, exists_eq_left', true_and, and_true, retI, retF, retV, retZ1, retZ0, retL, retA, retN, Nat.reduceAdd, Nat.reduceMul, Nat.reduceLT]
  refine ⟨fun c => ⟨fun a => absurd (by decide) a, fun _ => h1 c⟩, fun k hk ek2 => ⟨fun c => ?_, fun c => h2 k hk ek2 (Decidable.not_not.mp (Decidable.not_not.mp c))⟩⟩
  have c := Decidable.not_not.mp c
  refine ⟨kc, hkc, ek, fun U a1 a2 a3 a4 a5 a6 => ?_⟩
  have N : Noted S U y kc := ⟨a1, a2, a3, a4, a5, a6⟩
  obtain ⟨u1, u2, u3⟩ := N.mok hM0
  obtain ⟨m0, m1, m2, m3, m4, m5, m6, m7, m8, m9, m10⟩ := u1
  simp only [m0, m1, m2, m3, m4, m5, m6, m7, m8, m9, m10, ek2, sK_stI, sR_stI, sK_stF, sR_stF, sK_stIA, sR_stIA, sK_stFA, sR_stFA, sI_stI, sI_stF, sI_stIA, sI_stFA, sF_stI, sF_stF, sF_stIA, sF_stFA, Nat.left_eq_add, Nat.add_eq_left, Nat.add_left_cancel_iff, Nat.reduceEqDiff, Nat.reduceEqDiff, Nat.succ_ne_self, false_and, and_false, if_false, if_true, nI_succ_sub, Option.some.injEq, Prod.mk.injEq, exists_eq_left', true_and, and_true, retI, retF, retV, retZ1, retZ0, retL, retA, retN, Nat.reduceAdd, Nat.reduceMul, Nat.reduceLT]
  simp (disch := omega) only [nlt0, nge0, neq0, ngt0, nle0, nI_ltI, nI_leI, nI_eq, nI_cl, in_nI, false_implies, true_implies, not_false_eq_true, not_true_eq_false, and_true, true_and, nI_add, pk_mul, implies_true, not_lt0]
  have hs : ∀ i, (mV U y 0).st i = sI U (y + 1) i := fun i => by show sI U (y + 1) (983 * 0 + i) = _; rw [show 983 * 0 + i = i by omega]
  have e1 : sI U (y + 1) k = (mV S y 0).st k := by rw [← hs]; exact u3.1 k hk
  rw [e1]
  have q := mV_up U y k v (by omega)
  rw [if_pos hk] at q
  refine ⟨by omega, by omega, h3 k hk ek2 c _ (N.chg (OpS.of ((Fr.refl _ _ _).stI _ _ _ (by omega) (by omega)) ?_ q (fun j a b => ?_) (fun _ _ _ => rfl)) (u3.hst k v) hkc)⟩
  · rw [sI_row, if_neg (by omega)]
  · rw [mV_st0]
    exact if_neg (by omega)
def P_X7_takeBack (as : List Value) (S : SS) (E : Option Value → SS → Prop) : Prop := match as with
  | [.ref y, .int r, .int c] => ∃ kc, MOK S y kc ∧ (¬ erBack (mV S y 0) r c = nI 0 → E (some (.int (erBack (mV S y 0) r c))) S) ∧ (erBack (mV S y 0) r c = nI 0 → ∀ T, MChg S T y kc (neBack (mV S y 0) r c) (sI S y 6) → E (some (.int (vaBack (mV S y 0) r c))) T)
  | _ => False
def Γ_X7_takeBack : List (MI × PT) := [(mi_X7_isThere, P_X7_isThere), (mi_X7_spotOf, P_X7_spotOf), (mi_X7_promisedTo, P_X7_promisedTo), (mi_X7_changes, P_X7_changes), (mi_X7_inkAt, P_X7_inkAt)]
theorem hΓ_X7_takeBack (l : Launch) (G : Gx) : ∀ q ∈ Γ_X7_takeBack, Ct l G q.1 q.2 := List.forall_mem_cons.mpr ⟨ct_X7_isThere l G, List.forall_mem_cons.mpr ⟨ct_X7_spotOf l G, List.forall_mem_cons.mpr ⟨ct_X7_promisedTo l G, List.forall_mem_cons.mpr ⟨ct_X7_changes l G, List.forall_mem_cons.mpr ⟨ct_X7_inkAt l G, fun _ h => absurd h List.not_mem_nil⟩⟩⟩⟩⟩
set_option maxHeartbeats 1000000 in
theorem ct_X7_takeBack (l : Launch) (G : Gx) : Ct l G mi_X7_takeBack P_X7_takeBack := by
  refine Ct.ofV mo_X7_takeBack (fun as S E h => ?_)
  unfold P_X7_takeBack at h
  split at h
  case h_2 => exact h.elim
  rename_i y r c
  refine ⟨by simp [entL, mL_X7_takeBack], ?_⟩
  refine wpN_ok (Γ := Γ_X7_takeBack) (hΓ_X7_takeBack l G) so_X7_takeBack 6 _ _ _ _ _ _ ?_
  simp only [mL_X7_takeBack, mT_X7_takeBack, rc_X7_takeBack, rs_X7_takeBack, Γ_X7_takeBack, sg_X7_takeBack_0, sg_X7_takeBack_11, sg_X7_takeBack_38, wn_X7_takeBack_0, wn_X7_takeBack_11, wn_X7_takeBack_38, wp_c, ex_c, x_nop, x_goto, x_table, x_iinc, x_ldc, x_ldc2, x_iaload, x_faload, x_baload, x_caload, x_iastore, x_fastore, x_bastore, x_castore, x_aastore, x_alen, x_gets, x_new, x_newa, x_anew, x_invs, x_invi, x_invv, x_ret, x_iret, x_lret, x_fret, x_aret, x_lconst, x_fconst0, x_fconst1, x_fconst2, x_dconst0, x_dconst1, x_null, x_iadd, x_isub, x_imul, x_iand, x_ior, x_idiv, x_irem, x_ineg, x_ishl, x_ishr, x_land, x_lor, x_lushr, x_lshl, x_lcmp, x_i2l, x_l2i, x_i2c, x_i2f, x_f2d, x_d2i, x_d2l, x_fadd, x_fsub, x_fmul, x_fdiv, x_dadd, x_dsub, x_dmul, x_ddiv, x_fcmp, x_dcmp, x_dupI, x_dupR, x_dup2, x_popI, x_popR, ldP_I, ldP_L, ldP_F, ldP_D, ldP_R, ldP_N, x_iload, x_iload_n, x_lload, x_lload_n, x_fload, x_fload_n, x_dload, x_dload_n, x_aload, x_aload_n, x_istore, x_istore_n, x_lstore, x_lstore_n, x_fstore, x_fstore_n, x_dstore, x_dstore_n, x_astore, x_astore_n, x_astoreN, x_astore_nN, x_icmp_eq, x_icmp_ne, x_icmp_lt, x_icmp_ge, x_icmp_gt, x_icmp_le, x_if_eq, x_if_ne, x_if_lt, x_if_ge, x_if_gt, x_if_le, x_ifnull, x_ifnullR, x_ifnn, x_ifnnR, x_aaload2, x_cpI, x_cpF, x_bF, x_bD, x_oI, xk_bipush_120, xk_iconst_0, xk_bipush_m6, xk_iconst_1, xk_bipush_80, xk_bipush_48, xk_bipush_57, xk_bipush_10, xk_bipush_64, xk_bipush_46, xk_bipush_97, xk_bipush_122, xk_bipush_119, xk_bipush_61, xk_bipush_59, xk_bipush_8, xk_bipush_33, xk_bipush_126, xk_bipush_m2, xk_bipush_m4, xk_iconst_4, xk_bipush_6, xk_iconst_2, xk_bipush_40, xk_iconst_3, xk_iconst_5, xk_iconst_m1, xk_bipush_m5, xk_bipush_12, xk_bipush_100, xk_bipush_26, xk_sipush_9999, xk_sipush_500, xk_bipush_7, xk_bipush_m126, xk_bipush_127, xk_bipush_23, xk_sipush_m1022, xk_sipush_1023, xk_bipush_52, xk_bipush_m3, xk_sipush_9830, xk_sipush_4800, xk_sipush_983, xk_sipush_480, xk_bipush_13, xk_bipush_18, xk_bipush_9, xk_bipush_32, xg_0_0, xp_0_0, xg_0_1, xp_0_1, xg_0_2, xp_0_2, xg_0_3, xp_0_3, xg_0_4, xp_0_4, xg_0_5, xp_0_5, xg_0_6, xp_0_6, xg_0_7, xp_0_7, xg_0_8, xp_0_8, xg_1_0, xp_1_0, xg_1_1, xp_1_1, xg_1_2, xp_1_2, xg_1_3, xp_1_3, xg_2_0, xp_2_0, xg_2_1, xp_2_1, xg_2_2, xp_2_2, xg_3_0, xp_3_0, xg_3_1, xp_3_1, xg_3_2, xp_3_2, xg_3_3, xp_3_3, xg_3_4, xp_3_4, xg_3_5, xp_3_5, xg_3_6, xp_3_6, xg_3_7, xp_3_7, xg_3_8, xp_3_8, xg_3_9, xp_3_9, xg_3_10, xp_3_10, xg_3_11, xp_3_11, xg_4_0, xp_4_0, xg_4_1, xp_4_1, xg_5_0, xp_5_0, xg_5_1, xp_5_1, xg_6_0, xp_6_0, xg_6_1, xp_6_1, xg_6_2, xp_6_2, xg_6_3, xp_6_3, xg_6_4, xp_6_4, xg_6_5, xp_6_5, xg_7_0, xp_7_0, xg_7_1, xp_7_1, xg_7_2, xp_7_2, xg_7_3, xp_7_3, xg_7_4, xp_7_4, xg_7_5, xp_7_5, xg_7_6, xp_7_6, xg_7_7, xp_7_7, xg_7_8, xp_7_8, xg_7_9, xp_7_9, xg_7_10, xp_7_10, xg_7_11, xp_7_11, xg_7_12, xp_7_12, xg_7_13, xp_7_13, fv0, fv1, fv2, fv3, kI_0, kI_1, stL, wipeL, entLn, entL, List.getElem?_cons_zero, List.getElem?_cons_succ, List.getElem?_nil, List.set_cons_zero, List.set_cons_succ, List.set_nil, List.length_cons, List.length_nil, List.cons_append, List.nil_append, List.replicate, Nat.reduceAdd, Nat.reduceLeDiff, Nat.reduceSub, true_and, and_true, x_callS, x_callSN, x_callI, x_callIN, x_callV0, x_callV1, x_callV2, x_callV3, x_callV4, x_callV5, x_callV6, x_callV7, callP, List.take_succ_cons, List.take_zero, List.take_nil, List.drop_succ_cons, List.drop_zero, List.drop_nil, List.getLast?_singleton, List.getLast?_cons_cons, Option.some.injEq, Value.ref.injEq, exists_eq_left, exists_eq_left', Nat.zero_le, Nat.add_zero, ldcV_f, ldcV_fn, ldcV_l, ldcV_d, Nat.reduceMul, Nat.le_refl, List.reverse_cons, List.reverse_nil, Option.toList, List.map_cons, List.map_nil, List.sum_cons, List.sum_nil, Value.category, tblW_n, tblW_c, Int.cast_ofNat_Int, Int.reduceAdd, Int.reduceToNat, ofI_n, rc_X7_isThere, rs_X7_isThere, P_X7_isThere, rc_X7_spotOf, rs_X7_spotOf, P_X7_spotOf, rc_X7_promisedTo, rs_X7_promisedTo, P_X7_promisedTo, rc_X7_changes, rs_X7_changes, P_X7_changes, rc_X7_inkAt, rs_X7_inkAt, P_X7_inkAt]
  obtain ⟨kc, hM, h1, h2⟩ := h
  have hM0 := hM
  obtain ⟨hA, hD, hkc, ek⟩ := hM
  obtain ⟨m0, m1, m2, m3, m4, m5, m6, m7, m8, m9, m10⟩ := hA
  simp only [m0, m1, m2, m3, m4, m5, m6, m7, m8, m9, m10, hM0.1, bI_0, sK_stI, sR_stI, sK_stF, sR_stF, sK_stIA, sR_stIA, sK_stFA, sR_stFA, sI_stI, sI_stF, sI_stIA, sI_stFA, sF_stI, sF_stF, sF_stIA, sF_stFA, Nat.left_eq_add, Nat.add_eq_left, Nat.add_left_cancel_iff, Nat.reduceEqDiff, Nat.reduceEqDiff, Nat.succ_ne_self, false_and, and_false, if_false, if_true, nI_succ_sub, Option.some.injEq, Prod.mk.injEq, exists_eq_left', true_and, and_true, retI, retF, retV, retZ1, retZ0, retL, retA, retN, Nat.reduceAdd, Nat.reduceMul, Nat.reduceLT]
  simp (disch := omega) only [nlt0, nge0, neq0, ngt0, nle0, nI_ltI, nI_leI, nI_eq, nI_cl, in_nI, false_implies, true_implies, not_false_eq_true, not_true_eq_false, and_true, true_and, nI_add, pk_mul, implies_true, not_lt0, mV_dk]
  have q6 : ∀ j, j ≤ 6 → (mI j = nI 0) = (j = 0) := by decide
  by_cases c2 : ((mV S y 0).dk = mI 6 ∨ ¬ Pl r c)
  · unfold erBack at h1
    rw [if_pos c2] at h1
    simp only [c2, not_true_eq_false, false_implies, true_and, not_false_eq_true, true_implies]
    exact h1 (by decide)
  · have c2' := c2
    rw [not_or, Decidable.not_not] at c2'
    obtain ⟨p, hp⟩ := (OnD_or hD).resolve_left c2'.1
    have hk : kP r c < 120 := kP_lt c2'.2
    have hp4 := hp.2.1
    have edk := hp.1
    simp only [c2, c2'.2, not_false_eq_true, not_true_eq_false, false_implies, true_implies, true_and, and_true]
    simp (disch := omega) only [nlt0, nge0, neq0, ngt0, nle0, nI_ltI, nI_leI, nI_eq, nI_cl, in_nI, false_implies, true_implies, not_false_eq_true, not_true_eq_false, and_true, true_and, nI_add, pk_mul, implies_true, not_lt0, edk]
    simp only [show (0 : Nat) < 10 from by omega, show (6 : Nat) < 9830 from by omega, hp4, hk, true_and, c2'.2]
    have eb : erBack (mV S y 0) r c = if (mG S y 0 p).p (kP r c) = mI 6 then mI 5 else nI 0 := by
      unfold erBack
      rw [if_neg c2, hp.on]
      rfl
    rw [eb] at h1 h2
    refine ⟨c2'.2, fun c3 => ?_, fun c3 => ?_⟩
    · rw [if_neg c3] at h2
      refine ⟨kc, hkc, ek, fun U a1 a2 a3 a4 a5 a6 => ?_⟩
      have N : Noted S U y kc := ⟨a1, a2, a3, a4, a5, a6⟩
      obtain ⟨u1, u2, u3⟩ := N.mok hM0
      have hpU : OnD (mV U y 0) p := ⟨u3.dk' ▸ hp.1, hp4, u3.pl' ▸ hp.2.2⟩
      have edU : sI U (y + 1) 6 = nI p := hpU.1
      have hi := iK_lt (q := 0) (by omega) hp4 hk
      have hg := iK_ge 0 p (kP r c)
      obtain ⟨m0, m1, m2, m3, m4, m5, m6, m7, m8, m9, m10⟩ := u1
      simp only [m0, m1, m2, m3, m4, m5, m6, m7, m8, m9, m10, Option.some.injEq, Prod.mk.injEq, exists_eq_left', true_and]
      simp (disch := omega) only [nlt0, nge0, neq0, ngt0, nle0, nI_ltI, nI_leI, nI_eq, nI_cl, in_nI, false_implies, true_implies, not_false_eq_true, not_true_eq_false, and_true, true_and, nI_add, pk_mul, implies_true, not_lt0, edU]
      have hd : ¬ (mV U y 0).dk = mI 6 := by rw [u3.dk']; exact c2'.1
      obtain ⟨v1, v2⟩ := vaBack_de u3 u2 r c c2'.2 hd
      have ev : (mG S y 0 p).p (kP r c) = vaBack (mV S y 0) r c := by
        unfold vaBack
        rw [hp.on]
        rfl
      rw [ev]
      refine ⟨by omega, c2'.2, hp4, hi, h2 rfl _ (N.chg (OpS.of ((Fr.refl _ _ _).stI _ _ _ (by omega) (by omega)) ?_ (DE.trans (de_g (S := U) (g := upV (mV U y 0).g p (sf_p (mG U y 0 p) (upV (mG U y 0 p).p (kP r c) (mI 6)))) (fun j hj => ?_) (fun p' hp' _ => ge_p hk p')) ?_) (fun j a b => ?_) (fun _ _ _ => rfl)) v2 hkc)⟩
      · rw [sI_row, if_neg (by omega)]
      · rw [mV_st0]
        exact if_neg (by omega)
      · unfold neBack
        rw [hpU.on, hpU.dk]
        exact DE.refl _
      · rw [mV_st0]
        exact if_neg (by unfold iK; omega)
    · rw [if_pos (Decidable.not_not.mp c3)] at h1
      exact h1 (by decide)
def P_X7_plate (as : List Value) (S : SS) (E : Option Value → SS → Prop) : Prop := match as with
  | [.ref y] => ∃ kc, MOK S y kc ∧ (¬ erCome (mV S y 0) = nI 0 → E (some (.int (erCome (mV S y 0)))) S) ∧ (erCome (mV S y 0) = nI 0 → ∀ n, n < 4 → (mV S y 0).pl = nI n → ∀ T, MChg S T y kc (neCome (mV S y 0)) (sI S y 6) → E (some (.int (nI n))) T)
  | _ => False
def Γ_X7_plate : List (MI × PT) := [(mi_X7_changes, P_X7_changes), (mi_X7_comes, P_X7_comes)]
theorem hΓ_X7_plate (l : Launch) (G : Gx) : ∀ q ∈ Γ_X7_plate, Ct l G q.1 q.2 := List.forall_mem_cons.mpr ⟨ct_X7_changes l G, List.forall_mem_cons.mpr ⟨ct_X7_comes l G, fun _ h => absurd h List.not_mem_nil⟩⟩
set_option maxHeartbeats 1000000 in
theorem ct_X7_plate (l : Launch) (G : Gx) : Ct l G mi_X7_plate P_X7_plate := by
  refine Ct.ofV mo_X7_plate (fun as S E h => ?_)
  unfold P_X7_plate at h
  split at h
  case h_2 => exact h.elim
  rename_i y
  refine ⟨by simp [entL, mL_X7_plate], ?_⟩
  refine wpN_ok (Γ := Γ_X7_plate) (hΓ_X7_plate l G) so_X7_plate 4 _ _ _ _ _ _ ?_
  simp only [mL_X7_plate, mT_X7_plate, rc_X7_plate, rs_X7_plate, Γ_X7_plate, sg_X7_plate_0, sg_X7_plate_13, wn_X7_plate_0, wn_X7_plate_13, wp_c, ex_c, x_nop, x_goto, x_table, x_iinc, x_ldc, x_ldc2, x_iaload, x_faload, x_baload, x_caload, x_iastore, x_fastore, x_bastore, x_castore, x_aastore, x_alen, x_gets, x_new, x_newa, x_anew, x_invs, x_invi, x_invv, x_ret, x_iret, x_lret, x_fret, x_aret, x_lconst, x_fconst0, x_fconst1, x_fconst2, x_dconst0, x_dconst1, x_null, x_iadd, x_isub, x_imul, x_iand, x_ior, x_idiv, x_irem, x_ineg, x_ishl, x_ishr, x_land, x_lor, x_lushr, x_lshl, x_lcmp, x_i2l, x_l2i, x_i2c, x_i2f, x_f2d, x_d2i, x_d2l, x_fadd, x_fsub, x_fmul, x_fdiv, x_dadd, x_dsub, x_dmul, x_ddiv, x_fcmp, x_dcmp, x_dupI, x_dupR, x_dup2, x_popI, x_popR, ldP_I, ldP_L, ldP_F, ldP_D, ldP_R, ldP_N, x_iload, x_iload_n, x_lload, x_lload_n, x_fload, x_fload_n, x_dload, x_dload_n, x_aload, x_aload_n, x_istore, x_istore_n, x_lstore, x_lstore_n, x_fstore, x_fstore_n, x_dstore, x_dstore_n, x_astore, x_astore_n, x_astoreN, x_astore_nN, x_icmp_eq, x_icmp_ne, x_icmp_lt, x_icmp_ge, x_icmp_gt, x_icmp_le, x_if_eq, x_if_ne, x_if_lt, x_if_ge, x_if_gt, x_if_le, x_ifnull, x_ifnullR, x_ifnn, x_ifnnR, x_aaload2, x_cpI, x_cpF, x_bF, x_bD, x_oI, xk_bipush_120, xk_iconst_0, xk_bipush_m6, xk_iconst_1, xk_bipush_80, xk_bipush_48, xk_bipush_57, xk_bipush_10, xk_bipush_64, xk_bipush_46, xk_bipush_97, xk_bipush_122, xk_bipush_119, xk_bipush_61, xk_bipush_59, xk_bipush_8, xk_bipush_33, xk_bipush_126, xk_bipush_m2, xk_bipush_m4, xk_iconst_4, xk_bipush_6, xk_iconst_2, xk_bipush_40, xk_iconst_3, xk_iconst_5, xk_iconst_m1, xk_bipush_m5, xk_bipush_12, xk_bipush_100, xk_bipush_26, xk_sipush_9999, xk_sipush_500, xk_bipush_7, xk_bipush_m126, xk_bipush_127, xk_bipush_23, xk_sipush_m1022, xk_sipush_1023, xk_bipush_52, xk_bipush_m3, xk_sipush_9830, xk_sipush_4800, xk_sipush_983, xk_sipush_480, xk_bipush_13, xk_bipush_18, xk_bipush_9, xk_bipush_32, xg_0_0, xp_0_0, xg_0_1, xp_0_1, xg_0_2, xp_0_2, xg_0_3, xp_0_3, xg_0_4, xp_0_4, xg_0_5, xp_0_5, xg_0_6, xp_0_6, xg_0_7, xp_0_7, xg_0_8, xp_0_8, xg_1_0, xp_1_0, xg_1_1, xp_1_1, xg_1_2, xp_1_2, xg_1_3, xp_1_3, xg_2_0, xp_2_0, xg_2_1, xp_2_1, xg_2_2, xp_2_2, xg_3_0, xp_3_0, xg_3_1, xp_3_1, xg_3_2, xp_3_2, xg_3_3, xp_3_3, xg_3_4, xp_3_4, xg_3_5, xp_3_5, xg_3_6, xp_3_6, xg_3_7, xp_3_7, xg_3_8, xp_3_8, xg_3_9, xp_3_9, xg_3_10, xp_3_10, xg_3_11, xp_3_11, xg_4_0, xp_4_0, xg_4_1, xp_4_1, xg_5_0, xp_5_0, xg_5_1, xp_5_1, xg_6_0, xp_6_0, xg_6_1, xp_6_1, xg_6_2, xp_6_2, xg_6_3, xp_6_3, xg_6_4, xp_6_4, xg_6_5, xp_6_5, xg_7_0, xp_7_0, xg_7_1, xp_7_1, xg_7_2, xp_7_2, xg_7_3, xp_7_3, xg_7_4, xp_7_4, xg_7_5, xp_7_5, xg_7_6, xp_7_6, xg_7_7, xp_7_7, xg_7_8, xp_7_8, xg_7_9, xp_7_9, xg_7_10, xp_7_10, xg_7_11, xp_7_11, xg_7_12, xp_7_12, xg_7_13, xp_7_13, fv0, fv1, fv2, fv3, kI_0, kI_1, stL, wipeL, entLn, entL, List.getElem?_cons_zero, List.getElem?_cons_succ, List.getElem?_nil, List.set_cons_zero, List.set_cons_succ, List.set_nil, List.length_cons, List.length_nil, List.cons_append, List.nil_append, List.replicate, Nat.reduceAdd, Nat.reduceLeDiff, Nat.reduceSub, true_and, and_true, x_callS, x_callSN, x_callI, x_callIN, x_callV0, x_callV1, x_callV2, x_callV3, x_callV4, x_callV5, x_callV6, x_callV7, callP, List.take_succ_cons, List.take_zero, List.take_nil, List.drop_succ_cons, List.drop_zero, List.drop_nil, List.getLast?_singleton, List.getLast?_cons_cons, Option.some.injEq, Value.ref.injEq, exists_eq_left, exists_eq_left', Nat.zero_le, Nat.add_zero, ldcV_f, ldcV_fn, ldcV_l, ldcV_d, Nat.reduceMul, Nat.le_refl, List.reverse_cons, List.reverse_nil, Option.toList, List.map_cons, List.map_nil, List.sum_cons, List.sum_nil, Value.category, tblW_n, tblW_c, Int.cast_ofNat_Int, Int.reduceAdd, Int.reduceToNat, ofI_n, rc_X7_changes, rs_X7_changes, P_X7_changes, rc_X7_comes, rs_X7_comes, P_X7_comes]
  obtain ⟨kc, hM, h1, h2⟩ := h
  have hM0 := hM
  obtain ⟨hA, hD, hkc, ek⟩ := hM
  obtain ⟨n, hn, en, -⟩ := hD.2.2.1
  obtain ⟨m0, m1, m2, m3, m4, m5, m6, m7, m8, m9, m10⟩ := hA
  simp only [m0, m1, m2, m3, m4, m5, m6, m7, m8, m9, m10, hM0.1, sK_stI, sR_stI, sK_stF, sR_stF, sK_stIA, sR_stIA, sK_stFA, sR_stFA, sI_stI, sI_stF, sI_stIA, sI_stFA, sF_stI, sF_stF, sF_stIA, sF_stFA, Nat.left_eq_add, Nat.add_eq_left, Nat.add_left_cancel_iff, Nat.reduceEqDiff, Nat.reduceEqDiff, Nat.succ_ne_self, false_and, and_false, if_false, if_true, nI_succ_sub, Option.some.injEq, Prod.mk.injEq, exists_eq_left', true_and, and_true, retI, retF, retV, retZ1, retZ0, retL, retA, retN, Nat.reduceAdd, Nat.reduceMul, Nat.reduceLT]
  simp (disch := omega) only [nlt0, nge0, neq0, ngt0, nle0, nI_ltI, nI_leI, nI_eq, nI_cl, in_nI, false_implies, true_implies, not_false_eq_true, not_true_eq_false, and_true, true_and, nI_add, pk_mul, implies_true, not_lt0, mV_pl, en]
  unfold erCome at h1 h2
  rw [en] at h1 h2
  refine ⟨by omega, fun c => ?_, fun c => ?_⟩
  · rw [if_neg (by rw [nI_eq (by omega) (by omega)]; exact c)] at h2
    refine ⟨kc, hkc, ek, fun U a1 a2 a3 a4 a5 a6 => ?_⟩
    have N : Noted S U y kc := ⟨a1, a2, a3, a4, a5, a6⟩
    obtain ⟨u1, u2, u3⟩ := N.mok hM0
    have enU : (mV U y 0).pl = nI n := u3.pl'.trans en
    exact ⟨u1.1, u1, n, by omega, enU, fun T hT => h2 rfl n (by omega) rfl T (N.chg hT (neCome_de u3 (show n < 4 by omega) enU) hkc)⟩
  · rw [if_pos (by rw [nI_eq (by omega) (by omega)]; omega)] at h1
    exact h1 (by decide)
def P_X7_writer (as : List Value) (S : SS) (E : Option Value → SS → Prop) : Prop := match as with
  | [.ref y, .int p] => ∃ kc, MOK S y kc ∧ (¬ erJoin (mV S y 0) p = nI 0 → E (some (.int (erJoin (mV S y 0) p))) S) ∧ (erJoin (mV S y 0) p = nI 0 → ∀ n, n < 5 → (mV S y 0).pp = nI n → ∀ T, MChg S T y kc (neJoin (mV S y 0) p) (sI S y 6) → E (some (.int (nI n))) T)
  | _ => False
def Γ_X7_writer : List (MI × PT) := [(mi_X7_writerError, P_X7_writerError), (mi_X7_changes, P_X7_changes), (mi_X7_joins, P_X7_joins)]
theorem hΓ_X7_writer (l : Launch) (G : Gx) : ∀ q ∈ Γ_X7_writer, Ct l G q.1 q.2 := List.forall_mem_cons.mpr ⟨ct_X7_writerError l G, List.forall_mem_cons.mpr ⟨ct_X7_changes l G, List.forall_mem_cons.mpr ⟨ct_X7_joins l G, fun _ h => absurd h List.not_mem_nil⟩⟩⟩
set_option maxHeartbeats 1000000 in
theorem ct_X7_writer (l : Launch) (G : Gx) : Ct l G mi_X7_writer P_X7_writer := by
  refine Ct.ofV mo_X7_writer (fun as S E h => ?_)
  unfold P_X7_writer at h
  split at h
  case h_2 => exact h.elim
  rename_i y p
  refine ⟨by simp [entL, mL_X7_writer], ?_⟩
  refine wpN_ok (Γ := Γ_X7_writer) (hΓ_X7_writer l G) so_X7_writer 4 _ _ _ _ _ _ ?_
  simp only [mL_X7_writer, mT_X7_writer, rc_X7_writer, rs_X7_writer, Γ_X7_writer, sg_X7_writer_0, sg_X7_writer_12, wn_X7_writer_0, wn_X7_writer_12, wp_c, ex_c, x_nop, x_goto, x_table, x_iinc, x_ldc, x_ldc2, x_iaload, x_faload, x_baload, x_caload, x_iastore, x_fastore, x_bastore, x_castore, x_aastore, x_alen, x_gets, x_new, x_newa, x_anew, x_invs, x_invi, x_invv, x_ret, x_iret, x_lret, x_fret, x_aret, x_lconst, x_fconst0, x_fconst1, x_fconst2, x_dconst0, x_dconst1, x_null, x_iadd, x_isub, x_imul, x_iand, x_ior, x_idiv, x_irem, x_ineg, x_ishl, x_ishr, x_land, x_lor, x_lushr, x_lshl, x_lcmp, x_i2l, x_l2i, x_i2c, x_i2f, x_f2d, x_d2i, x_d2l, x_fadd, x_fsub, x_fmul, x_fdiv, x_dadd, x_dsub, x_dmul, x_ddiv, x_fcmp, x_dcmp, x_dupI, x_dupR, x_dup2, x_popI, x_popR, ldP_I, ldP_L, ldP_F, ldP_D, ldP_R, ldP_N, x_iload, x_iload_n, x_lload, x_lload_n, x_fload, x_fload_n, x_dload, x_dload_n, x_aload, x_aload_n, x_istore, x_istore_n, x_lstore, x_lstore_n, x_fstore, x_fstore_n, x_dstore, x_dstore_n, x_astore, x_astore_n, x_astoreN, x_astore_nN, x_icmp_eq, x_icmp_ne, x_icmp_lt, x_icmp_ge, x_icmp_gt, x_icmp_le, x_if_eq, x_if_ne, x_if_lt, x_if_ge, x_if_gt, x_if_le, x_ifnull, x_ifnullR, x_ifnn, x_ifnnR, x_aaload2, x_cpI, x_cpF, x_bF, x_bD, x_oI, xk_bipush_120, xk_iconst_0, xk_bipush_m6, xk_iconst_1, xk_bipush_80, xk_bipush_48, xk_bipush_57, xk_bipush_10, xk_bipush_64, xk_bipush_46, xk_bipush_97, xk_bipush_122, xk_bipush_119, xk_bipush_61, xk_bipush_59, xk_bipush_8, xk_bipush_33, xk_bipush_126, xk_bipush_m2, xk_bipush_m4, xk_iconst_4, xk_bipush_6, xk_iconst_2, xk_bipush_40, xk_iconst_3, xk_iconst_5, xk_iconst_m1, xk_bipush_m5, xk_bipush_12, xk_bipush_100, xk_bipush_26, xk_sipush_9999, xk_sipush_500, xk_bipush_7, xk_bipush_m126, xk_bipush_127, xk_bipush_23, xk_sipush_m1022, xk_sipush_1023, xk_bipush_52, xk_bipush_m3, xk_sipush_9830, xk_sipush_4800, xk_sipush_983, xk_sipush_480, xk_bipush_13, xk_bipush_18, xk_bipush_9, xk_bipush_32, xg_0_0, xp_0_0, xg_0_1, xp_0_1, xg_0_2, xp_0_2, xg_0_3, xp_0_3, xg_0_4, xp_0_4, xg_0_5, xp_0_5, xg_0_6, xp_0_6, xg_0_7, xp_0_7, xg_0_8, xp_0_8, xg_1_0, xp_1_0, xg_1_1, xp_1_1, xg_1_2, xp_1_2, xg_1_3, xp_1_3, xg_2_0, xp_2_0, xg_2_1, xp_2_1, xg_2_2, xp_2_2, xg_3_0, xp_3_0, xg_3_1, xp_3_1, xg_3_2, xp_3_2, xg_3_3, xp_3_3, xg_3_4, xp_3_4, xg_3_5, xp_3_5, xg_3_6, xp_3_6, xg_3_7, xp_3_7, xg_3_8, xp_3_8, xg_3_9, xp_3_9, xg_3_10, xp_3_10, xg_3_11, xp_3_11, xg_4_0, xp_4_0, xg_4_1, xp_4_1, xg_5_0, xp_5_0, xg_5_1, xp_5_1, xg_6_0, xp_6_0, xg_6_1, xp_6_1, xg_6_2, xp_6_2, xg_6_3, xp_6_3, xg_6_4, xp_6_4, xg_6_5, xp_6_5, xg_7_0, xp_7_0, xg_7_1, xp_7_1, xg_7_2, xp_7_2, xg_7_3, xp_7_3, xg_7_4, xp_7_4, xg_7_5, xp_7_5, xg_7_6, xp_7_6, xg_7_7, xp_7_7, xg_7_8, xp_7_8, xg_7_9, xp_7_9, xg_7_10, xp_7_10, xg_7_11, xp_7_11, xg_7_12, xp_7_12, xg_7_13, xp_7_13, fv0, fv1, fv2, fv3, kI_0, kI_1, stL, wipeL, entLn, entL, List.getElem?_cons_zero, List.getElem?_cons_succ, List.getElem?_nil, List.set_cons_zero, List.set_cons_succ, List.set_nil, List.length_cons, List.length_nil, List.cons_append, List.nil_append, List.replicate, Nat.reduceAdd, Nat.reduceLeDiff, Nat.reduceSub, true_and, and_true, x_callS, x_callSN, x_callI, x_callIN, x_callV0, x_callV1, x_callV2, x_callV3, x_callV4, x_callV5, x_callV6, x_callV7, callP, List.take_succ_cons, List.take_zero, List.take_nil, List.drop_succ_cons, List.drop_zero, List.drop_nil, List.getLast?_singleton, List.getLast?_cons_cons, Option.some.injEq, Value.ref.injEq, exists_eq_left, exists_eq_left', Nat.zero_le, Nat.add_zero, ldcV_f, ldcV_fn, ldcV_l, ldcV_d, Nat.reduceMul, Nat.le_refl, List.reverse_cons, List.reverse_nil, Option.toList, List.map_cons, List.map_nil, List.sum_cons, List.sum_nil, Value.category, tblW_n, tblW_c, Int.cast_ofNat_Int, Int.reduceAdd, Int.reduceToNat, ofI_n, rc_X7_writerError, rs_X7_writerError, P_X7_writerError, rc_X7_changes, rs_X7_changes, P_X7_changes, rc_X7_joins, rs_X7_joins, P_X7_joins]
  obtain ⟨kc, hM, h1, h2⟩ := h
  have hM0 := hM
  obtain ⟨hA, hD, hkc, ek⟩ := hM
  obtain ⟨n, hn, en⟩ := hD.pp
  simp only [hA.1, hA, hD, ← nI_0, sK_stI, sR_stI, sK_stF, sR_stF, sK_stIA, sR_stIA, sK_stFA, sR_stFA, sI_stI, sI_stF, sI_stIA, sI_stFA, sF_stI, sF_stF, sF_stIA, sF_stFA, Nat.left_eq_add, Nat.add_eq_left, Nat.add_left_cancel_iff, Nat.reduceEqDiff, Nat.reduceEqDiff, Nat.succ_ne_self, false_and, and_false, if_false, if_true, nI_succ_sub, Option.some.injEq, Prod.mk.injEq, exists_eq_left', true_and, and_true, retI, retF, retV, retZ1, retZ0, retL, retA, retN, Nat.reduceAdd, Nat.reduceMul, Nat.reduceLT]
  refine ⟨fun c => ?_, h1⟩
  have hn5 : ¬ n = 5 := by
    intro a
    unfold erJoin at c
    rw [en, a] at c
    split at c
    · exact absurd c (by decide)
    · rw [if_pos rfl] at c
      exact absurd c (by decide)
  refine ⟨kc, hkc, ek, fun U a1 a2 a3 a4 a5 a6 => ?_⟩
  have N : Noted S U y kc := ⟨a1, a2, a3, a4, a5, a6⟩
  obtain ⟨u1, u2, u3⟩ := N.mok hM0
  have enU : (mV U y 0).pp = nI n := u3.pp'.trans en
  exact ⟨u1.1, u1, n, by omega, enU, fun T hT => h2 c n (by omega) en T (N.chg hT (neJoin_de u3 p) hkc)⟩
def P_X7_promise (as : List Value) (S : SS) (E : Option Value → SS → Prop) : Prop := match as with
  | [.ref y, .int w, .int r, .int c] => ∃ kc, MOK S y kc ∧ (¬ erProm (mV S y 0) w r c = nI 0 → E (some (.int (erProm (mV S y 0) w r c))) S) ∧ (erProm (mV S y 0) w r c = nI 0 → ∀ T, MChg S T y kc (neProm (mV S y 0) w r c) (sI S y 6) → E (some (.int (vaProm (mV S y 0) w r c))) T)
  | _ => False
def Γ_X7_promise : List (MI × PT) := [(mi_X7_promiseError, P_X7_promiseError), (mi_X7_changes, P_X7_changes), (mi_X7_spotOf, P_X7_spotOf), (mi_X7_promises, P_X7_promises)]
theorem hΓ_X7_promise (l : Launch) (G : Gx) : ∀ q ∈ Γ_X7_promise, Ct l G q.1 q.2 := List.forall_mem_cons.mpr ⟨ct_X7_promiseError l G, List.forall_mem_cons.mpr ⟨ct_X7_changes l G, List.forall_mem_cons.mpr ⟨ct_X7_spotOf l G, List.forall_mem_cons.mpr ⟨ct_X7_promises l G, fun _ h => absurd h List.not_mem_nil⟩⟩⟩⟩
set_option maxHeartbeats 1000000 in
theorem ct_X7_promise (l : Launch) (G : Gx) : Ct l G mi_X7_promise P_X7_promise := by
  refine Ct.ofV mo_X7_promise (fun as S E h => ?_)
  unfold P_X7_promise at h
  split at h
  case h_2 => exact h.elim
  rename_i y w r c
  refine ⟨by simp [entL, mL_X7_promise], ?_⟩
  refine wpN_ok (Γ := Γ_X7_promise) (hΓ_X7_promise l G) so_X7_promise 4 _ _ _ _ _ _ ?_
  simp only [mL_X7_promise, mT_X7_promise, rc_X7_promise, rs_X7_promise, Γ_X7_promise, sg_X7_promise_0, sg_X7_promise_17, wn_X7_promise_0, wn_X7_promise_17, wp_c, ex_c, x_nop, x_goto, x_table, x_iinc, x_ldc, x_ldc2, x_iaload, x_faload, x_baload, x_caload, x_iastore, x_fastore, x_bastore, x_castore, x_aastore, x_alen, x_gets, x_new, x_newa, x_anew, x_invs, x_invi, x_invv, x_ret, x_iret, x_lret, x_fret, x_aret, x_lconst, x_fconst0, x_fconst1, x_fconst2, x_dconst0, x_dconst1, x_null, x_iadd, x_isub, x_imul, x_iand, x_ior, x_idiv, x_irem, x_ineg, x_ishl, x_ishr, x_land, x_lor, x_lushr, x_lshl, x_lcmp, x_i2l, x_l2i, x_i2c, x_i2f, x_f2d, x_d2i, x_d2l, x_fadd, x_fsub, x_fmul, x_fdiv, x_dadd, x_dsub, x_dmul, x_ddiv, x_fcmp, x_dcmp, x_dupI, x_dupR, x_dup2, x_popI, x_popR, ldP_I, ldP_L, ldP_F, ldP_D, ldP_R, ldP_N, x_iload, x_iload_n, x_lload, x_lload_n, x_fload, x_fload_n, x_dload, x_dload_n, x_aload, x_aload_n, x_istore, x_istore_n, x_lstore, x_lstore_n, x_fstore, x_fstore_n, x_dstore, x_dstore_n, x_astore, x_astore_n, x_astoreN, x_astore_nN, x_icmp_eq, x_icmp_ne, x_icmp_lt, x_icmp_ge, x_icmp_gt, x_icmp_le, x_if_eq, x_if_ne, x_if_lt, x_if_ge, x_if_gt, x_if_le, x_ifnull, x_ifnullR, x_ifnn, x_ifnnR, x_aaload2, x_cpI, x_cpF, x_bF, x_bD, x_oI, xk_bipush_120, xk_iconst_0, xk_bipush_m6, xk_iconst_1, xk_bipush_80, xk_bipush_48, xk_bipush_57, xk_bipush_10, xk_bipush_64, xk_bipush_46, xk_bipush_97, xk_bipush_122, xk_bipush_119, xk_bipush_61, xk_bipush_59, xk_bipush_8, xk_bipush_33, xk_bipush_126, xk_bipush_m2, xk_bipush_m4, xk_iconst_4, xk_bipush_6, xk_iconst_2, xk_bipush_40, xk_iconst_3, xk_iconst_5, xk_iconst_m1, xk_bipush_m5, xk_bipush_12, xk_bipush_100, xk_bipush_26, xk_sipush_9999, xk_sipush_500, xk_bipush_7, xk_bipush_m126, xk_bipush_127, xk_bipush_23, xk_sipush_m1022, xk_sipush_1023, xk_bipush_52, xk_bipush_m3, xk_sipush_9830, xk_sipush_4800, xk_sipush_983, xk_sipush_480, xk_bipush_13, xk_bipush_18, xk_bipush_9, xk_bipush_32, xg_0_0, xp_0_0, xg_0_1, xp_0_1, xg_0_2, xp_0_2, xg_0_3, xp_0_3, xg_0_4, xp_0_4, xg_0_5, xp_0_5, xg_0_6, xp_0_6, xg_0_7, xp_0_7, xg_0_8, xp_0_8, xg_1_0, xp_1_0, xg_1_1, xp_1_1, xg_1_2, xp_1_2, xg_1_3, xp_1_3, xg_2_0, xp_2_0, xg_2_1, xp_2_1, xg_2_2, xp_2_2, xg_3_0, xp_3_0, xg_3_1, xp_3_1, xg_3_2, xp_3_2, xg_3_3, xp_3_3, xg_3_4, xp_3_4, xg_3_5, xp_3_5, xg_3_6, xp_3_6, xg_3_7, xp_3_7, xg_3_8, xp_3_8, xg_3_9, xp_3_9, xg_3_10, xp_3_10, xg_3_11, xp_3_11, xg_4_0, xp_4_0, xg_4_1, xp_4_1, xg_5_0, xp_5_0, xg_5_1, xp_5_1, xg_6_0, xp_6_0, xg_6_1, xp_6_1, xg_6_2, xp_6_2, xg_6_3, xp_6_3, xg_6_4, xp_6_4, xg_6_5, xp_6_5, xg_7_0, xp_7_0, xg_7_1, xp_7_1, xg_7_2, xp_7_2, xg_7_3, xp_7_3, xg_7_4, xp_7_4, xg_7_5, xp_7_5, xg_7_6, xp_7_6, xg_7_7, xp_7_7, xg_7_8, xp_7_8, xg_7_9, xp_7_9, xg_7_10, xp_7_10, xg_7_11, xp_7_11, xg_7_12, xp_7_12, xg_7_13, xp_7_13, fv0, fv1, fv2, fv3, kI_0, kI_1, stL, wipeL, entLn, entL, List.getElem?_cons_zero, List.getElem?_cons_succ, List.getElem?_nil, List.set_cons_zero, List.set_cons_succ, List.set_nil, List.length_cons, List.length_nil, List.cons_append, List.nil_append, List.replicate, Nat.reduceAdd, Nat.reduceLeDiff, Nat.reduceSub, true_and, and_true, x_callS, x_callSN, x_callI, x_callIN, x_callV0, x_callV1, x_callV2, x_callV3, x_callV4, x_callV5, x_callV6, x_callV7, callP, List.take_succ_cons, List.take_zero, List.take_nil, List.drop_succ_cons, List.drop_zero, List.drop_nil, List.getLast?_singleton, List.getLast?_cons_cons, Option.some.injEq, Value.ref.injEq, exists_eq_left, exists_eq_left', Nat.zero_le, Nat.add_zero, ldcV_f, ldcV_fn, ldcV_l, ldcV_d, Nat.reduceMul, Nat.le_refl, List.reverse_cons, List.reverse_nil, Option.toList, List.map_cons, List.map_nil, List.sum_cons, List.sum_nil, Value.category, tblW_n, tblW_c, Int.cast_ofNat_Int, Int.reduceAdd, Int.reduceToNat, ofI_n, rc_X7_promiseError, rs_X7_promiseError, P_X7_promiseError, rc_X7_changes, rs_X7_changes, P_X7_changes, rc_X7_spotOf, rs_X7_spotOf, P_X7_spotOf, rc_X7_promises, rs_X7_promises, P_X7_promises]
  obtain ⟨kc, hM, h1, h2⟩ := h
  have hM0 := hM
  obtain ⟨hA, hD, hkc, ek⟩ := hM
  simp only [hA.1, hA, hD, ← nI_0, sK_stI, sR_stI, sK_stF, sR_stF, sK_stIA, sR_stIA, sK_stFA, sR_stFA, sI_stI, sI_stF, sI_stIA, sI_stFA, sF_stI, sF_stF, sF_stIA, sF_stFA, Nat.left_eq_add, Nat.add_eq_left, Nat.add_left_cancel_iff, Nat.reduceEqDiff, Nat.reduceEqDiff, Nat.succ_ne_self, false_and, and_false, if_false, if_true, nI_succ_sub, Option.some.injEq, Prod.mk.injEq, exists_eq_left', true_and, and_true, retI, retF, retV, retZ1, retZ0, retL, retA, retN, Nat.reduceAdd, Nat.reduceMul, Nat.reduceLT]
  refine ⟨fun e => ?_, h1⟩
  obtain ⟨c1, c2, c3⟩ := erProm_0 e
  refine ⟨kc, hkc, ek, fun U a1 a2 a3 a4 a5 a6 => ?_⟩
  have N : Noted S U y kc := ⟨a1, a2, a3, a4, a5, a6⟩
  obtain ⟨u1, u2, u3⟩ := N.mok hM0
  have hd : ¬ (mV U y 0).dk = mI 6 := by rw [u3.dk']; exact c2
  obtain ⟨p, hp⟩ := (OnD_or u2).resolve_left hd
  obtain ⟨n, hn, en⟩ := hD.pp
  obtain ⟨wn, hwn, ew⟩ := vp_in_of ((in_cmp (by omega)).mpr (en ▸ c1)) (by omega)
  refine ⟨c3, u1.1, u1, p, kP r c, wn, hp, kP_lt c3, rfl, by omega, ew, fun T hT => ?_⟩
  obtain ⟨v1, v2⟩ := vaProm_de u3 u2 w r c hd
  have e1 : neProm (mV U y 0) w r c = putG (mV U y 0) p (sf_p ((mV U y 0).g p) (upV ((mV U y 0).g p).p (kP r c) w)) := by
    unfold neProm
    rw [hp.dk, hp.on]
  have e2 : vaProm (mV U y 0) w r c = nI (cn (fun j => !decide (upV ((mV U y 0).g p).p (kP r c) w j = mI 6)) 120) := by
    unfold vaProm
    rw [hp.on]
  rw [← e2, v1]
  exact h2 e T (N.chg hT (e1 ▸ v2) hkc)
def P_X7_rub (as : List Value) (S : SS) (E : Option Value → SS → Prop) : Prop := match as with
  | [.ref y, .int r, .int c] => ∃ kc, MOK S y kc ∧ (¬ erRub (mV S y 0) r c = nI 0 → E (some (.int (erRub (mV S y 0) r c))) S) ∧ (erRub (mV S y 0) r c = nI 0 → ∀ T, MChg S T y kc (neRub (mV S y 0) r c) (sI S y 6) → E (some (.int (vaRub (mV S y 0) r c))) T)
  | _ => False
def Γ_X7_rub : List (MI × PT) := [(mi_X7_rubError, P_X7_rubError), (mi_X7_changes, P_X7_changes), (mi_X7_spotOf, P_X7_spotOf), (mi_X7_rubs, P_X7_rubs)]
theorem hΓ_X7_rub (l : Launch) (G : Gx) : ∀ q ∈ Γ_X7_rub, Ct l G q.1 q.2 := List.forall_mem_cons.mpr ⟨ct_X7_rubError l G, List.forall_mem_cons.mpr ⟨ct_X7_changes l G, List.forall_mem_cons.mpr ⟨ct_X7_spotOf l G, List.forall_mem_cons.mpr ⟨ct_X7_rubs l G, fun _ h => absurd h List.not_mem_nil⟩⟩⟩⟩
set_option maxHeartbeats 1000000 in
theorem ct_X7_rub (l : Launch) (G : Gx) : Ct l G mi_X7_rub P_X7_rub := by
  refine Ct.ofV mo_X7_rub (fun as S E h => ?_)
  unfold P_X7_rub at h
  split at h
  case h_2 => exact h.elim
  rename_i y r c
  refine ⟨by simp [entL, mL_X7_rub], ?_⟩
  refine wpN_ok (Γ := Γ_X7_rub) (hΓ_X7_rub l G) so_X7_rub 4 _ _ _ _ _ _ ?_
  simp only [mL_X7_rub, mT_X7_rub, rc_X7_rub, rs_X7_rub, Γ_X7_rub, sg_X7_rub_0, sg_X7_rub_13, wn_X7_rub_0, wn_X7_rub_13, wp_c, ex_c, x_nop, x_goto, x_table, x_iinc, x_ldc, x_ldc2, x_iaload, x_faload, x_baload, x_caload, x_iastore, x_fastore, x_bastore, x_castore, x_aastore, x_alen, x_gets, x_new, x_newa, x_anew, x_invs, x_invi, x_invv, x_ret, x_iret, x_lret, x_fret, x_aret, x_lconst, x_fconst0, x_fconst1, x_fconst2, x_dconst0, x_dconst1, x_null, x_iadd, x_isub, x_imul, x_iand, x_ior, x_idiv, x_irem, x_ineg, x_ishl, x_ishr, x_land, x_lor, x_lushr, x_lshl, x_lcmp, x_i2l, x_l2i, x_i2c, x_i2f, x_f2d, x_d2i, x_d2l, x_fadd, x_fsub, x_fmul, x_fdiv, x_dadd, x_dsub, x_dmul, x_ddiv, x_fcmp, x_dcmp, x_dupI, x_dupR, x_dup2, x_popI, x_popR, ldP_I, ldP_L, ldP_F, ldP_D, ldP_R, ldP_N, x_iload, x_iload_n, x_lload, x_lload_n, x_fload, x_fload_n, x_dload, x_dload_n, x_aload, x_aload_n, x_istore, x_istore_n, x_lstore, x_lstore_n, x_fstore, x_fstore_n, x_dstore, x_dstore_n, x_astore, x_astore_n, x_astoreN, x_astore_nN, x_icmp_eq, x_icmp_ne, x_icmp_lt, x_icmp_ge, x_icmp_gt, x_icmp_le, x_if_eq, x_if_ne, x_if_lt, x_if_ge, x_if_gt, x_if_le, x_ifnull, x_ifnullR, x_ifnn, x_ifnnR, x_aaload2, x_cpI, x_cpF, x_bF, x_bD, x_oI, xk_bipush_120, xk_iconst_0, xk_bipush_m6, xk_iconst_1, xk_bipush_80, xk_bipush_48, xk_bipush_57, xk_bipush_10, xk_bipush_64, xk_bipush_46, xk_bipush_97, xk_bipush_122, xk_bipush_119, xk_bipush_61, xk_bipush_59, xk_bipush_8, xk_bipush_33, xk_bipush_126, xk_bipush_m2, xk_bipush_m4, xk_iconst_4, xk_bipush_6, xk_iconst_2, xk_bipush_40, xk_iconst_3, xk_iconst_5, xk_iconst_m1, xk_bipush_m5, xk_bipush_12, xk_bipush_100, xk_bipush_26, xk_sipush_9999, xk_sipush_500, xk_bipush_7, xk_bipush_m126, xk_bipush_127, xk_bipush_23, xk_sipush_m1022, xk_sipush_1023, xk_bipush_52, xk_bipush_m3, xk_sipush_9830, xk_sipush_4800, xk_sipush_983, xk_sipush_480, xk_bipush_13, xk_bipush_18, xk_bipush_9, xk_bipush_32, xg_0_0, xp_0_0, xg_0_1, xp_0_1, xg_0_2, xp_0_2, xg_0_3, xp_0_3, xg_0_4, xp_0_4, xg_0_5, xp_0_5, xg_0_6, xp_0_6, xg_0_7, xp_0_7, xg_0_8, xp_0_8, xg_1_0, xp_1_0, xg_1_1, xp_1_1, xg_1_2, xp_1_2, xg_1_3, xp_1_3, xg_2_0, xp_2_0, xg_2_1, xp_2_1, xg_2_2, xp_2_2, xg_3_0, xp_3_0, xg_3_1, xp_3_1, xg_3_2, xp_3_2, xg_3_3, xp_3_3, xg_3_4, xp_3_4, xg_3_5, xp_3_5, xg_3_6, xp_3_6, xg_3_7, xp_3_7, xg_3_8, xp_3_8, xg_3_9, xp_3_9, xg_3_10, xp_3_10, xg_3_11, xp_3_11, xg_4_0, xp_4_0, xg_4_1, xp_4_1, xg_5_0, xp_5_0, xg_5_1, xp_5_1, xg_6_0, xp_6_0, xg_6_1, xp_6_1, xg_6_2, xp_6_2, xg_6_3, xp_6_3, xg_6_4, xp_6_4, xg_6_5, xp_6_5, xg_7_0, xp_7_0, xg_7_1, xp_7_1, xg_7_2, xp_7_2, xg_7_3, xp_7_3, xg_7_4, xp_7_4, xg_7_5, xp_7_5, xg_7_6, xp_7_6, xg_7_7, xp_7_7, xg_7_8, xp_7_8, xg_7_9, xp_7_9, xg_7_10, xp_7_10, xg_7_11, xp_7_11, xg_7_12, xp_7_12, xg_7_13, xp_7_13, fv0, fv1, fv2, fv3, kI_0, kI_1, stL, wipeL, entLn, entL, List.getElem?_cons_zero, List.getElem?_cons_succ, List.getElem?_nil, List.set_cons_zero, List.set_cons_succ, List.set_nil, List.length_cons, List.length_nil, List.cons_append, List.nil_append, List.replicate, Nat.reduceAdd, Nat.reduceLeDiff, Nat.reduceSub, true_and, and_true, x_callS, x_callSN, x_callI, x_callIN, x_callV0, x_callV1, x_callV2, x_callV3, x_callV4, x_callV5, x_callV6, x_callV7, callP, List.take_succ_cons, List.take_zero, List.take_nil, List.drop_succ_cons, List.drop_zero, List.drop_nil, List.getLast?_singleton, List.getLast?_cons_cons, Option.some.injEq, Value.ref.injEq, exists_eq_left, exists_eq_left', Nat.zero_le, Nat.add_zero, ldcV_f, ldcV_fn, ldcV_l, ldcV_d, Nat.reduceMul, Nat.le_refl, List.reverse_cons, List.reverse_nil, Option.toList, List.map_cons, List.map_nil, List.sum_cons, List.sum_nil, Value.category, tblW_n, tblW_c, Int.cast_ofNat_Int, Int.reduceAdd, Int.reduceToNat, ofI_n, rc_X7_rubError, rs_X7_rubError, P_X7_rubError, rc_X7_changes, rs_X7_changes, P_X7_changes, rc_X7_spotOf, rs_X7_spotOf, P_X7_spotOf, rc_X7_rubs, rs_X7_rubs, P_X7_rubs]
  obtain ⟨kc, hM, h1, h2⟩ := h
  have hM0 := hM
  obtain ⟨hA, hD, hkc, ek⟩ := hM
  simp only [hA.1, hA, hD, ← nI_0, sK_stI, sR_stI, sK_stF, sR_stF, sK_stIA, sR_stIA, sK_stFA, sR_stFA, sI_stI, sI_stF, sI_stIA, sI_stFA, sF_stI, sF_stF, sF_stIA, sF_stFA, Nat.left_eq_add, Nat.add_eq_left, Nat.add_left_cancel_iff, Nat.reduceEqDiff, Nat.reduceEqDiff, Nat.succ_ne_self, false_and, and_false, if_false, if_true, nI_succ_sub, Option.some.injEq, Prod.mk.injEq, exists_eq_left', true_and, and_true, retI, retF, retV, retZ1, retZ0, retL, retA, retN, Nat.reduceAdd, Nat.reduceMul, Nat.reduceLT]
  refine ⟨fun e => ?_, h1⟩
  obtain ⟨c2, c3, c4⟩ := erRub_0 e
  refine ⟨kc, hkc, ek, fun U a1 a2 a3 a4 a5 a6 => ?_⟩
  have N : Noted S U y kc := ⟨a1, a2, a3, a4, a5, a6⟩
  obtain ⟨u1, u2, u3⟩ := N.mok hM0
  have hd : ¬ (mV U y 0).dk = mI 6 := by rw [u3.dk']; exact c2
  obtain ⟨p, hp⟩ := (OnD_or u2).resolve_left hd
  obtain ⟨v1, v2⟩ := vaRub_de u3 u2 r c c3 hd
  have e2 : vaRub (mV U y 0) r c = ((mV U y 0).g p).t (kP r c) := by
    unfold vaRub
    rw [hp.on]
  refine ⟨c3, u1.1, u1, u2, p, kP r c, hp, kP_lt c3, rfl, ?_, fun T hT => ?_⟩
  · rw [← e2, v1]
    exact c4
  have e1 : neRub (mV U y 0) r c = putG (mV U y 0) p (rubV ((mV U y 0).g p) (kP r c)) := by
    unfold neRub
    rw [hp.dk, hp.on]
  rw [← e2, v1]
  exact h2 e T (N.chg hT (e1 ▸ v2) hkc)
def P_X7_pass (as : List Value) (S : SS) (E : Option Value → SS → Prop) : Prop := match as with
  | [.ref y, .int m] => ∃ kc, MOK S y kc ∧ (¬ erPass (mV S y 0) m = nI 0 → E (some (.int (erPass (mV S y 0) m))) S) ∧ (erPass (mV S y 0) m = nI 0 → ∀ T, MChg S T y kc (nePass (mV S y 0) m) (sI S y 6) → E (some (.int ((mV S y 0).hr + m))) T)
  | _ => False
def Γ_X7_pass : List (MI × PT) := [(mi_X7_passError, P_X7_passError), (mi_X7_changes, P_X7_changes), (mi_X7_goesOn, P_X7_goesOn)]
theorem hΓ_X7_pass (l : Launch) (G : Gx) : ∀ q ∈ Γ_X7_pass, Ct l G q.1 q.2 := List.forall_mem_cons.mpr ⟨ct_X7_passError l G, List.forall_mem_cons.mpr ⟨ct_X7_changes l G, List.forall_mem_cons.mpr ⟨ct_X7_goesOn l G, fun _ h => absurd h List.not_mem_nil⟩⟩⟩
set_option maxHeartbeats 1000000 in
theorem ct_X7_pass (l : Launch) (G : Gx) : Ct l G mi_X7_pass P_X7_pass := by
  refine Ct.ofV mo_X7_pass (fun as S E h => ?_)
  unfold P_X7_pass at h
  split at h
  case h_2 => exact h.elim
  rename_i y m
  refine ⟨by simp [entL, mL_X7_pass], ?_⟩
  refine wpN_ok (Γ := Γ_X7_pass) (hΓ_X7_pass l G) so_X7_pass 4 _ _ _ _ _ _ ?_
  simp only [mL_X7_pass, mT_X7_pass, rc_X7_pass, rs_X7_pass, Γ_X7_pass, sg_X7_pass_0, sg_X7_pass_12, wn_X7_pass_0, wn_X7_pass_12, wp_c, ex_c, x_nop, x_goto, x_table, x_iinc, x_ldc, x_ldc2, x_iaload, x_faload, x_baload, x_caload, x_iastore, x_fastore, x_bastore, x_castore, x_aastore, x_alen, x_gets, x_new, x_newa, x_anew, x_invs, x_invi, x_invv, x_ret, x_iret, x_lret, x_fret, x_aret, x_lconst, x_fconst0, x_fconst1, x_fconst2, x_dconst0, x_dconst1, x_null, x_iadd, x_isub, x_imul, x_iand, x_ior, x_idiv, x_irem, x_ineg, x_ishl, x_ishr, x_land, x_lor, x_lushr, x_lshl, x_lcmp, x_i2l, x_l2i, x_i2c, x_i2f, x_f2d, x_d2i, x_d2l, x_fadd, x_fsub, x_fmul, x_fdiv, x_dadd, x_dsub, x_dmul, x_ddiv, x_fcmp, x_dcmp, x_dupI, x_dupR, x_dup2, x_popI, x_popR, ldP_I, ldP_L, ldP_F, ldP_D, ldP_R, ldP_N, x_iload, x_iload_n, x_lload, x_lload_n, x_fload, x_fload_n, x_dload, x_dload_n, x_aload, x_aload_n, x_istore, x_istore_n, x_lstore, x_lstore_n, x_fstore, x_fstore_n, x_dstore, x_dstore_n, x_astore, x_astore_n, x_astoreN, x_astore_nN, x_icmp_eq, x_icmp_ne, x_icmp_lt, x_icmp_ge, x_icmp_gt, x_icmp_le, x_if_eq, x_if_ne, x_if_lt, x_if_ge, x_if_gt, x_if_le, x_ifnull, x_ifnullR, x_ifnn, x_ifnnR, x_aaload2, x_cpI, x_cpF, x_bF, x_bD, x_oI, xk_bipush_120, xk_iconst_0, xk_bipush_m6, xk_iconst_1, xk_bipush_80, xk_bipush_48, xk_bipush_57, xk_bipush_10, xk_bipush_64, xk_bipush_46, xk_bipush_97, xk_bipush_122, xk_bipush_119, xk_bipush_61, xk_bipush_59, xk_bipush_8, xk_bipush_33, xk_bipush_126, xk_bipush_m2, xk_bipush_m4, xk_iconst_4, xk_bipush_6, xk_iconst_2, xk_bipush_40, xk_iconst_3, xk_iconst_5, xk_iconst_m1, xk_bipush_m5, xk_bipush_12, xk_bipush_100, xk_bipush_26, xk_sipush_9999, xk_sipush_500, xk_bipush_7, xk_bipush_m126, xk_bipush_127, xk_bipush_23, xk_sipush_m1022, xk_sipush_1023, xk_bipush_52, xk_bipush_m3, xk_sipush_9830, xk_sipush_4800, xk_sipush_983, xk_sipush_480, xk_bipush_13, xk_bipush_18, xk_bipush_9, xk_bipush_32, xg_0_0, xp_0_0, xg_0_1, xp_0_1, xg_0_2, xp_0_2, xg_0_3, xp_0_3, xg_0_4, xp_0_4, xg_0_5, xp_0_5, xg_0_6, xp_0_6, xg_0_7, xp_0_7, xg_0_8, xp_0_8, xg_1_0, xp_1_0, xg_1_1, xp_1_1, xg_1_2, xp_1_2, xg_1_3, xp_1_3, xg_2_0, xp_2_0, xg_2_1, xp_2_1, xg_2_2, xp_2_2, xg_3_0, xp_3_0, xg_3_1, xp_3_1, xg_3_2, xp_3_2, xg_3_3, xp_3_3, xg_3_4, xp_3_4, xg_3_5, xp_3_5, xg_3_6, xp_3_6, xg_3_7, xp_3_7, xg_3_8, xp_3_8, xg_3_9, xp_3_9, xg_3_10, xp_3_10, xg_3_11, xp_3_11, xg_4_0, xp_4_0, xg_4_1, xp_4_1, xg_5_0, xp_5_0, xg_5_1, xp_5_1, xg_6_0, xp_6_0, xg_6_1, xp_6_1, xg_6_2, xp_6_2, xg_6_3, xp_6_3, xg_6_4, xp_6_4, xg_6_5, xp_6_5, xg_7_0, xp_7_0, xg_7_1, xp_7_1, xg_7_2, xp_7_2, xg_7_3, xp_7_3, xg_7_4, xp_7_4, xg_7_5, xp_7_5, xg_7_6, xp_7_6, xg_7_7, xp_7_7, xg_7_8, xp_7_8, xg_7_9, xp_7_9, xg_7_10, xp_7_10, xg_7_11, xp_7_11, xg_7_12, xp_7_12, xg_7_13, xp_7_13, fv0, fv1, fv2, fv3, kI_0, kI_1, stL, wipeL, entLn, entL, List.getElem?_cons_zero, List.getElem?_cons_succ, List.getElem?_nil, List.set_cons_zero, List.set_cons_succ, List.set_nil, List.length_cons, List.length_nil, List.cons_append, List.nil_append, List.replicate, Nat.reduceAdd, Nat.reduceLeDiff, Nat.reduceSub, true_and, and_true, x_callS, x_callSN, x_callI, x_callIN, x_callV0, x_callV1, x_callV2, x_callV3, x_callV4, x_callV5, x_callV6, x_callV7, callP, List.take_succ_cons, List.take_zero, List.take_nil, List.drop_succ_cons, List.drop_zero, List.drop_nil, List.getLast?_singleton, List.getLast?_cons_cons, Option.some.injEq, Value.ref.injEq, exists_eq_left, exists_eq_left', Nat.zero_le, Nat.add_zero, ldcV_f, ldcV_fn, ldcV_l, ldcV_d, Nat.reduceMul, Nat.le_refl, List.reverse_cons, List.reverse_nil, Option.toList, List.map_cons, List.map_nil, List.sum_cons, List.sum_nil, Value.category, tblW_n, tblW_c, Int.cast_ofNat_Int, Int.reduceAdd, Int.reduceToNat, ofI_n, rc_X7_passError, rs_X7_passError, P_X7_passError, rc_X7_changes, rs_X7_changes, P_X7_changes, rc_X7_goesOn, rs_X7_goesOn, P_X7_goesOn]
  obtain ⟨kc, hM, h1, h2⟩ := h
  have hM0 := hM
  obtain ⟨hA, hD, hkc, ek⟩ := hM
  simp only [hA.1, hA, hD, ← nI_0, sK_stI, sR_stI, sK_stF, sR_stF, sK_stIA, sR_stIA, sK_stFA, sR_stFA, sI_stI, sI_stF, sI_stIA, sI_stFA, sF_stI, sF_stF, sF_stIA, sF_stFA, Nat.left_eq_add, Nat.add_eq_left, Nat.add_left_cancel_iff, Nat.reduceEqDiff, Nat.reduceEqDiff, Nat.succ_ne_self, false_and, and_false, if_false, if_true, nI_succ_sub, Option.some.injEq, Prod.mk.injEq, exists_eq_left', true_and, and_true, retI, retF, retV, retZ1, retZ0, retL, retA, retN, Nat.reduceAdd, Nat.reduceMul, Nat.reduceLT]
  refine ⟨fun e => ?_, h1⟩
  obtain ⟨k, hk1, hk, ekm⟩ := erPass_0 e
  obtain ⟨h0, hh0, eh⟩ := hD.2.1
  refine ⟨kc, hkc, ek, fun U a1 a2 a3 a4 a5 a6 => ?_⟩
  have N : Noted S U y kc := ⟨a1, a2, a3, a4, a5, a6⟩
  obtain ⟨u1, u2, u3⟩ := N.mok hM0
  have ehU : (mV U y 0).hr = nI h0 := u3.hr'.trans eh
  refine ⟨u1.1, u1, u2, k, h0, hk, ekm, ehU, hh0, fun T hT => ?_⟩
  have e1 : nePass (mV U y 0) m = (sf_g (sf_hr (mV U y 0) (nI (h0 + k))) (pasG (mV U y 0) k 4)) := by
    unfold nePass
    rw [ehU, ekm, nI_add, nI_cl (by omega)]
  have e2 : nI (h0 + k) = (mV S y 0).hr + m := by rw [eh, ekm, nI_add]
  rw [e2]
  exact h2 e T (N.chg hT (e1 ▸ nePass_de u3 m) hkc)
