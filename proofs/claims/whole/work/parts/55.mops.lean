-- needs: 54.mdo
/-! the orders, by the reference -/
theorem DE.hst {A B : DV} (h : DE A B) (k : Nat) (v : Int32) : DE (sf_st A (upV A.st k v)) (sf_st B (upV B.st k v)) :=
  ⟨fun i hi => by show upV A.st k v i = upV B.st k v i; unfold upV; rw [h.1 i hi], h.2.1, h.2.2.1, h.2.2.2.1, h.2.2.2.2.1, h.2.2.2.2.2.1, h.2.2.2.2.2.2⟩
theorem DE.hpr {A B : DV} (h : DE A B) (k : Nat) (v : Int32) : DE (sf_pr A (upV A.pr k v)) (sf_pr B (upV B.pr k v)) :=
  ⟨h.1, fun i hi => ⟨by show upV A.pr k v i = upV B.pr k v i; unfold upV; rw [(h.2.1 i hi).1], (h.2.1 i hi).2⟩, h.2.2⟩
theorem DE.hwr {A B : DV} (h : DE A B) (k : Nat) (v : Int32) : DE (sf_wr A (upV A.wr k v)) (sf_wr B (upV B.wr k v)) :=
  ⟨h.1, fun i hi => ⟨(h.2.1 i hi).1, by show upV A.wr k v i = upV B.wr k v i; unfold upV; rw [(h.2.1 i hi).2.1], (h.2.1 i hi).2.2⟩, h.2.2⟩
theorem DE.hsp {A B : DV} (h : DE A B) (k : Nat) (v : Int32) : DE (sf_sp A (upV A.sp k v)) (sf_sp B (upV B.sp k v)) :=
  ⟨h.1, fun i hi => ⟨(h.2.1 i hi).1, (h.2.1 i hi).2.1, by show upV A.sp k v i = upV B.sp k v i; unfold upV; rw [(h.2.1 i hi).2.2]⟩, h.2.2⟩
theorem DE.hhr {A B : DV} (h : DE A B) (v : Int32) : DE (sf_hr A v) (sf_hr B v) := ⟨h.1, h.2.1, rfl, h.2.2.2⟩
theorem DE.hdk {A B : DV} (h : DE A B) (v : Int32) : DE (sf_dk A v) (sf_dk B v) := ⟨h.1, h.2.1, h.2.2.1, h.2.2.2.1, rfl, h.2.2.2.2.2⟩
theorem DE.hpp {A B : DV} (h : DE A B) (v : Int32) : DE (sf_pp A v) (sf_pp B v) := ⟨h.1, h.2.1, h.2.2.1, h.2.2.2.1, h.2.2.2.2.1, rfl, h.2.2.2.2.2.2⟩
/-- plates laid anew; the numbers as they were -/
theorem de_g {S T : SS} {y : Nat} {g : Nat → GV} (h : ∀ j, j < 23 → sI T (y + 1) j = sI S (y + 1) j) (hg : ∀ p, p < 4 → nI p < (mV S y 0).pl → GE (mG T y 0 p) (g p)) : DE (mV T y 0) (sf_g (mV S y 0) g) := by
  refine ⟨fun i hi => h _ (by omega), fun i hi => ⟨h _ (by omega), h _ (by omega), h _ (by omega)⟩, h 4 (by omega), h 5 (by omega), h 6 (by omega), h 7 (by omega), fun p hp hp4 => hg p hp4 ?_⟩
  have e : (mV T y 0).pl = (mV S y 0).pl := h 5 (by omega)
  rw [← e]
  exact hp
set_option maxHeartbeats 1000000 in
theorem ct_X7_lays (l : Launch) (G : Gx) : Ct l G mi_X7_lays P_X7_lays := by
  refine Ct.ofV mo_X7_lays (fun as S E h => ?_)
  unfold P_X7_lays at h
  split at h
  case h_2 => exact h.elim
  rename_i y p
  refine ⟨by simp [entL, mL_X7_lays], ?_⟩
  refine wpN_ok (Γ := Γ_X7_lays) (hΓ_X7_lays l G) so_X7_lays 3 _ _ _ _ _ _ ?_
  simp only [mL_X7_lays, mT_X7_lays, rc_X7_lays, rs_X7_lays, Γ_X7_lays, sg_X7_lays_0, wn_X7_lays_0, wp_c, ex_c, x_nop, x_goto, x_table, x_iinc, x_ldc, x_ldc2, x_iaload, x_faload, x_baload, x_caload, x_iastore, x_fastore, x_bastore, x_castore, x_aastore, x_alen, x_gets, x_new, x_newa, x_anew, x_invs, x_invi, x_invv, x_ret, x_iret, x_lret, x_fret, x_aret, x_lconst, x_fconst0, x_fconst1, x_fconst2, x_dconst0, x_dconst1, x_null, x_iadd, x_isub, x_imul, x_iand, x_ior, x_idiv, x_irem, x_ineg, x_ishl, x_ishr, x_land, x_lor, x_lushr, x_lshl, x_lcmp, x_i2l, x_l2i, x_i2c, x_i2f, x_f2d, x_d2i, x_d2l, x_fadd, x_fsub, x_fmul, x_fdiv, x_dadd, x_dsub, x_dmul, x_ddiv, x_fcmp, x_dcmp, x_dupI, x_dupR, x_dup2, x_popI, x_popR, ldP_I, ldP_L, ldP_F, ldP_D, ldP_R, ldP_N, x_iload, x_iload_n, x_lload, x_lload_n, x_fload, x_fload_n, x_dload, x_dload_n, x_aload, x_aload_n, x_istore, x_istore_n, x_lstore, x_lstore_n, x_fstore, x_fstore_n, x_dstore, x_dstore_n, x_astore, x_astore_n, x_astoreN, x_astore_nN, x_icmp_eq, x_icmp_ne, x_icmp_lt, x_icmp_ge, x_icmp_gt, x_icmp_le, x_if_eq, x_if_ne, x_if_lt, x_if_ge, x_if_gt, x_if_le, x_ifnull, x_ifnullR, x_ifnn, x_ifnnR, x_aaload2, x_cpI, x_cpF, x_bF, x_bD, x_oI, xk_bipush_120, xk_iconst_0, xk_bipush_m6, xk_iconst_1, xk_bipush_80, xk_bipush_48, xk_bipush_57, xk_bipush_10, xk_bipush_64, xk_bipush_46, xk_bipush_97, xk_bipush_122, xk_bipush_119, xk_bipush_61, xk_bipush_59, xk_bipush_8, xk_bipush_33, xk_bipush_126, xk_bipush_m2, xk_bipush_m4, xk_iconst_4, xk_bipush_6, xk_iconst_2, xk_bipush_40, xk_iconst_3, xk_iconst_5, xk_iconst_m1, xk_bipush_m5, xk_bipush_12, xk_bipush_100, xk_bipush_26, xk_sipush_9999, xk_sipush_500, xk_bipush_7, xk_bipush_m126, xk_bipush_127, xk_bipush_23, xk_sipush_m1022, xk_sipush_1023, xk_bipush_52, xk_bipush_m3, xk_sipush_9830, xk_sipush_4800, xk_sipush_983, xk_sipush_480, xk_bipush_13, xk_bipush_18, xk_bipush_9, xk_bipush_32, xg_0_0, xp_0_0, xg_0_1, xp_0_1, xg_0_2, xp_0_2, xg_0_3, xp_0_3, xg_0_4, xp_0_4, xg_0_5, xp_0_5, xg_0_6, xp_0_6, xg_0_7, xp_0_7, xg_0_8, xp_0_8, xg_1_0, xp_1_0, xg_1_1, xp_1_1, xg_1_2, xp_1_2, xg_1_3, xp_1_3, xg_2_0, xp_2_0, xg_2_1, xp_2_1, xg_2_2, xp_2_2, xg_3_0, xp_3_0, xg_3_1, xp_3_1, xg_3_2, xp_3_2, xg_3_3, xp_3_3, xg_3_4, xp_3_4, xg_3_5, xp_3_5, xg_3_6, xp_3_6, xg_3_7, xp_3_7, xg_3_8, xp_3_8, xg_3_9, xp_3_9, xg_3_10, xp_3_10, xg_3_11, xp_3_11, xg_4_0, xp_4_0, xg_4_1, xp_4_1, xg_5_0, xp_5_0, xg_5_1, xp_5_1, xg_6_0, xp_6_0, xg_6_1, xp_6_1, xg_6_2, xp_6_2, xg_6_3, xp_6_3, xg_6_4, xp_6_4, xg_6_5, xp_6_5, xg_7_0, xp_7_0, xg_7_1, xp_7_1, xg_7_2, xp_7_2, xg_7_3, xp_7_3, xg_7_4, xp_7_4, xg_7_5, xp_7_5, xg_7_6, xp_7_6, xg_7_7, xp_7_7, xg_7_8, xp_7_8, xg_7_9, xp_7_9, xg_7_10, xp_7_10, xg_7_11, xp_7_11, xg_7_12, xp_7_12, xg_7_13, xp_7_13, fv0, fv1, fv2, fv3, kI_0, kI_1, stL, wipeL, entLn, entL, List.getElem?_cons_zero, List.getElem?_cons_succ, List.getElem?_nil, List.set_cons_zero, List.set_cons_succ, List.set_nil, List.length_cons, List.length_nil, List.cons_append, List.nil_append, List.replicate, Nat.reduceAdd, Nat.reduceLeDiff, Nat.reduceSub, true_and, and_true, x_callS, x_callSN, x_callI, x_callIN, x_callV0, x_callV1, x_callV2, x_callV3, x_callV4, x_callV5, x_callV6, x_callV7, callP, List.take_succ_cons, List.take_zero, List.take_nil, List.drop_succ_cons, List.drop_zero, List.drop_nil, List.getLast?_singleton, List.getLast?_cons_cons, Option.some.injEq, Value.ref.injEq, exists_eq_left, exists_eq_left', Nat.zero_le, Nat.add_zero, ldcV_f, ldcV_fn, ldcV_l, ldcV_d, Nat.reduceMul, Nat.le_refl, List.reverse_cons, List.reverse_nil, Option.toList, List.map_cons, List.map_nil, List.sum_cons, List.sum_nil, Value.category, tblW_n, tblW_c, Int.cast_ofNat_Int, Int.reduceAdd, Int.reduceToNat, ofI_n]
  obtain ⟨hM, h⟩ := h
  obtain ⟨m0, m1, m2, m3, m4, m5, m6, m7, m8, m9, m10⟩ := hM
  simp only [m0, m1, m2, m3, m4, m5, m6, m7, m8, m9, m10, sK_stI, sR_stI, sK_stF, sR_stF, sK_stIA, sR_stIA, sK_stFA, sR_stFA, sI_stI, sI_stF, sI_stIA, sI_stFA, sF_stI, sF_stF, sF_stIA, sF_stFA, Nat.left_eq_add, Nat.add_eq_left, Nat.add_left_cancel_iff, Nat.reduceEqDiff, Nat.reduceEqDiff, Nat.succ_ne_self, false_and, and_false, if_false, if_true, nI_succ_sub, Option.some.injEq, Prod.mk.injEq, exists_eq_left', true_and, and_true, retI, retF, retV, retZ1, retZ0, retL, retA, retN, Nat.reduceAdd, Nat.reduceMul, Nat.reduceLT]
  simp (disch := omega) only [nlt0, nge0, neq0, ngt0, nle0, nI_ltI, nI_leI, nI_eq, nI_cl, in_nI, false_implies, true_implies, not_false_eq_true, not_true_eq_false, and_true, true_and, nI_add, pk_mul, implies_true, not_lt0, mV_dk]
  refine ⟨by omega, by omega, h _ (OpS.of ((Fr.refl _ _ _).stI _ _ _ (by omega) (by omega)) ?_ (mV_up S y 6 p (by omega)) (fun j a b => ?_) (fun _ _ _ => rfl))⟩
  · rw [sI_row, if_neg (by omega)]
  · rw [mV_st0]
    exact if_neg (by omega)
theorem mV_pr {S : SS} {y n : Nat} {v : Int32} (hn : n < 5) : DE (mV (stI S (y + 1) (8 + n) v) y 0) (sf_pr (mV S y 0) (upV (mV S y 0).pr n v)) := by
  have h := mV_up S y (8 + n) v (by omega)
  rw [if_neg (by omega), if_neg (by omega), if_neg (by omega), if_neg (by omega), if_neg (by omega), if_pos (by omega), show 8 + n - 8 = n by omega] at h
  exact h
theorem mV_wr {S : SS} {y n : Nat} {v : Int32} (hn : n < 5) : DE (mV (stI S (y + 1) (13 + n) v) y 0) (sf_wr (mV S y 0) (upV (mV S y 0).wr n v)) := by
  have h := mV_up S y (13 + n) v (by omega)
  rw [if_neg (by omega), if_neg (by omega), if_neg (by omega), if_neg (by omega), if_neg (by omega), if_neg (by omega), if_pos (by omega), show 13 + n - 13 = n by omega] at h
  exact h
theorem mV_sp {S : SS} {y n : Nat} {v : Int32} (hn : n < 5) : DE (mV (stI S (y + 1) (18 + n) v) y 0) (sf_sp (mV S y 0) (upV (mV S y 0).sp n v)) := by
  have h := mV_up S y (18 + n) v (by omega)
  rw [if_neg (by omega), if_neg (by omega), if_neg (by omega), if_neg (by omega), if_neg (by omega), if_neg (by omega), if_neg (by omega), show 18 + n - 18 = n by omega] at h
  exact h
theorem iK_ge (q p k : Nat) : 23 ≤ iK q p k := by unfold iK; omega
/-- one number of the ink, one light written -/
theorem ge_p {S : SS} {y q p k : Nat} {v : Int32} (hk : k < 120) (p' : Nat) : GE (mG (stI S (y + 1) (iK q p k + 1) v) y q p') (if p' = p then sf_p (mG S y q p) (upV (mG S y q p).p k v) else mG S y q p') := by
  intro j hj
  have e1 : sI (stI S (y + 1) (iK q p k + 1) v) (y + 1) (iK q p' j) = sI S (y + 1) (iK q p' j) := by
    rw [sI_stI, if_neg (by unfold iK; omega)]
  have e2 : sI (stI S (y + 1) (iK q p k + 1) v) (y + 1) (iK q p' j + 1) = if p' = p ∧ j = k then v else sI S (y + 1) (iK q p' j + 1) := by
    rw [sI_stI]
    by_cases c : p' = p ∧ j = k
    · rw [if_pos c, c.1, c.2, if_pos ⟨rfl, rfl⟩]
    · rw [if_neg c, if_neg (by unfold iK; omega)]
  by_cases c : p' = p
  · rw [if_pos c]
    subst c
    refine ⟨rfl, congrArg mtI e1, congrArg mwI e1, e2.trans ?_⟩
    show _ = upV (mG S y q p').p k v j
    unfold upV
    by_cases c2 : j = k
    · rw [if_pos ⟨rfl, c2⟩, if_pos c2]
    · rw [if_neg (fun a => c2 a.2), if_neg c2]
      rfl
  · rw [if_neg c]
    exact ⟨rfl, congrArg mtI e1, congrArg mwI e1, e2.trans (if_neg (fun a => c a.1))⟩
theorem ge_tw {S : SS} {y q p k : Nat} {v : Int32} (hk : k < 120) (p' : Nat) : GE (mG (stI S (y + 1) (iK q p k) v) y q p') (if p' = p then sf_w (sf_t (mG S y q p) (upV (mG S y q p).t k (mtI v))) (upV (mG S y q p).w k (mwI v)) else mG S y q p') := by
  intro j hj
  have e1 : sI (stI S (y + 1) (iK q p k) v) (y + 1) (iK q p' j + 1) = sI S (y + 1) (iK q p' j + 1) := by
    rw [sI_stI, if_neg (by unfold iK; omega)]
  have e2 : sI (stI S (y + 1) (iK q p k) v) (y + 1) (iK q p' j) = if p' = p ∧ j = k then v else sI S (y + 1) (iK q p' j) := by
    rw [sI_stI]
    by_cases c : p' = p ∧ j = k
    · rw [if_pos c, c.1, c.2, if_pos ⟨rfl, rfl⟩]
    · rw [if_neg c, if_neg (by unfold iK; omega)]
  by_cases c : p' = p
  · rw [if_pos c]
    subst c
    refine ⟨rfl, ?_, ?_, e1⟩
    · show mtI (sI (stI S (y + 1) (iK q p' k) v) (y + 1) (iK q p' j)) = upV (mG S y q p').t k (mtI v) j
      rw [e2]
      unfold upV
      by_cases c2 : j = k
      · rw [if_pos ⟨rfl, c2⟩, if_pos c2]
      · rw [if_neg (fun a => c2 a.2), if_neg c2]
        rfl
    · show mwI (sI (stI S (y + 1) (iK q p' k) v) (y + 1) (iK q p' j)) = upV (mG S y q p').w k (mwI v) j
      rw [e2]
      unfold upV
      by_cases c2 : j = k
      · rw [if_pos ⟨rfl, c2⟩, if_pos c2]
      · rw [if_neg (fun a => c2 a.2), if_neg c2]
        rfl
  · rw [if_neg c]
    have e3 := e2.trans (if_neg (fun a => c a.1))
    exact ⟨rfl, congrArg mtI e3, congrArg mwI e3, e1⟩
theorem ge_l {S : SS} {y q p : Nat} {h : Nat → UInt32 → UInt32} (p' : Nat) : GE (mG (liS S y q p 120 h) y q p') (if p' = p then sf_l (mG S y q p) (fun j => h j ((mG S y q p).l j)) else mG S y q p') := by
  intro j hj
  by_cases c : p' = p
  · rw [if_pos c]
    subst c
    refine ⟨?_, rfl, rfl, rfl⟩
    show sF (liS S y q p' 120 h) (y + 2) (lK q p' j) = h j (sF S (y + 2) (lK q p' j))
    unfold liS
    rw [sF_stFA, if_pos rfl, lK_k q p' j, rng_at, if_pos hj]
  · rw [if_neg c]
    refine ⟨?_, rfl, rfl, rfl⟩
    show sF (liS S y q p 120 h) (y + 2) (lK q p' j) = sF S (y + 2) (lK q p' j)
    unfold liS
    rw [sF_stFA, if_pos rfl]
    exact rng_out (by unfold lK; omega)
theorem ge_l1 {S : SS} {y q p k : Nat} {v : UInt32} (hk : k < 120) (p' : Nat) : GE (mG (stF S (y + 2) (lK q p k) v) y q p') (if p' = p then sf_l (mG S y q p) (upV (mG S y q p).l k v) else mG S y q p') := by
  intro j hj
  have e2 : sF (stF S (y + 2) (lK q p k) v) (y + 2) (lK q p' j) = if p' = p ∧ j = k then v else sF S (y + 2) (lK q p' j) := by
    rw [sF_stF]
    by_cases c : p' = p ∧ j = k
    · rw [if_pos c, c.1, c.2, if_pos ⟨rfl, rfl⟩]
    · rw [if_neg c, if_neg (by unfold lK; omega)]
  by_cases c : p' = p
  · rw [if_pos c]
    subst c
    refine ⟨e2.trans ?_, rfl, rfl, rfl⟩
    show _ = upV (mG S y q p').l k v j
    unfold upV
    by_cases c2 : j = k
    · rw [if_pos ⟨rfl, c2⟩, if_pos c2]
    · rw [if_neg (fun a => c2 a.2), if_neg c2]
      rfl
  · rw [if_neg c]
    exact ⟨e2.trans (if_neg (fun a => c a.1)), rfl, rfl, rfl⟩
theorem GE.hl {A B : GV} (h : GE A B) (k : Nat) (v : UInt32) : GE (sf_l A (upV A.l k v)) (sf_l B (upV B.l k v)) := fun j hj => ⟨by show upV A.l k v j = upV B.l k v j; unfold upV; rw [(h j hj).1], (h j hj).2⟩
theorem GE.hp {A B : GV} (h : GE A B) (k : Nat) (v : Int32) : GE (sf_p A (upV A.p k v)) (sf_p B (upV B.p k v)) := fun j hj => ⟨(h j hj).1, (h j hj).2.1, (h j hj).2.2.1, by show upV A.p k v j = upV B.p k v j; unfold upV; rw [(h j hj).2.2.2]⟩
theorem GE.htw {A B : GV} (h : GE A B) (k : Nat) (u v : Int32) : GE (sf_w (sf_t A (upV A.t k u)) (upV A.w k v)) (sf_w (sf_t B (upV B.t k u)) (upV B.w k v)) := fun j hj => ⟨(h j hj).1, by show upV A.t k u j = upV B.t k u j; unfold upV; rw [(h j hj).2.1], by show upV A.w k v j = upV B.w k v j; unfold upV; rw [(h j hj).2.2.1], (h j hj).2.2.2⟩
theorem dist_comm (a b : Nat) : dist a b = dist b a := by
  have e : ∀ x y, adiff x y = adiff y x := fun x y => by unfold adiff; split <;> split <;> omega
  unfold dist
  rw [e (a / 12), e (a % 12)]
/-- what a letter written leaves on the plates of a state -/
theorem ge_wr {S : SS} {y q p k w a : Nat} (hk : k < 120) (hw : w < 5) (ha : a < 26) (p' : Nat) : GE (mG (wrS S y q p k w a) y q p') (if p' = p then markV (mV S y q) (mG S y q p) w k (nI a) else mG S y q p') := by
  unfold wrS
  refine (ge_p hk p').trans ?_
  have h1 : ∀ p', GE (mG (stI (liS S y q p 120 (fun j x => dimV (mV S y q) x w (dist j k))) (y + 1) (iK q p k) (nI (26 * w + a))) y q p') _ := fun p' => ge_tw hk p'
  have h2 : ∀ p', GE (mG (liS S y q p 120 (fun j x => dimV (mV S y q) x w (dist j k))) y q p') _ := fun p' => ge_l p'
  by_cases c : p' = p
  · subst c
    rw [if_pos rfl, if_pos rfl]
    have g1 := h1 p'
    have g2 := h2 p'
    rw [if_pos rfl] at g1 g2
    refine ((g1.trans (g2.htw k _ _)).hp k _).trans (fun j hj => ⟨?_, ?_, ?_, ?_⟩)
    · show dimV (mV S y q) ((mG S y q p').l j) w (dist j k) = dimV (mV S y q) ((mG S y q p').l j) w (dist k j)
      rw [dist_comm]
    · show upV (mG S y q p').t k (mtI (nI (26 * w + a))) j = upV (mG S y q p').t k (nI a) j
      rw [mtI_n (by omega), show (26 * w + a) % 26 = a by omega]
    · show upV (mG S y q p').w k (mwI (nI (26 * w + a))) j = upV (mG S y q p').w k (nI w) j
      rw [mwI_n (by omega), show (26 * w + a) / 26 = w by omega]
    · rfl
  · have g1 := h1 p'
    have g2 := h2 p'
    rw [if_neg c] at g1 g2 ⊢
    rw [if_neg c]
    exact g1.trans g2
def P_X7_joins (as : List Value) (S : SS) (E : Option Value → SS → Prop) : Prop := match as with
  | [.ref y, .int p] => ModAt S y ∧ ∃ n, n < 5 ∧ (mV S y 0).pp = nI n ∧ ∀ T, OpS S T y (neJoin (mV S y 0) p) → E (some (.int (nI n))) T
  | _ => False
def Γ_X7_joins : List (MI × PT) := []
theorem hΓ_X7_joins (l : Launch) (G : Gx) : ∀ q ∈ Γ_X7_joins, Ct l G q.1 q.2 := fun _ h => absurd h List.not_mem_nil
set_option maxHeartbeats 1000000 in
theorem ct_X7_joins (l : Launch) (G : Gx) : Ct l G mi_X7_joins P_X7_joins := by
  refine Ct.ofV mo_X7_joins (fun as S E h => ?_)
  unfold P_X7_joins at h
  split at h
  case h_2 => exact h.elim
  rename_i y p
  refine ⟨by simp [entL, mL_X7_joins], ?_⟩
  refine wpN_ok (Γ := Γ_X7_joins) (hΓ_X7_joins l G) so_X7_joins 3 _ _ _ _ _ _ ?_
  simp only [mL_X7_joins, mT_X7_joins, rc_X7_joins, rs_X7_joins, Γ_X7_joins, sg_X7_joins_0, wn_X7_joins_0, wp_c, ex_c, x_nop, x_goto, x_table, x_iinc, x_ldc, x_ldc2, x_iaload, x_faload, x_baload, x_caload, x_iastore, x_fastore, x_bastore, x_castore, x_aastore, x_alen, x_gets, x_new, x_newa, x_anew, x_invs, x_invi, x_invv, x_ret, x_iret, x_lret, x_fret, x_aret, x_lconst, x_fconst0, x_fconst1, x_fconst2, x_dconst0, x_dconst1, x_null, x_iadd, x_isub, x_imul, x_iand, x_ior, x_idiv, x_irem, x_ineg, x_ishl, x_ishr, x_land, x_lor, x_lushr, x_lshl, x_lcmp, x_i2l, x_l2i, x_i2c, x_i2f, x_f2d, x_d2i, x_d2l, x_fadd, x_fsub, x_fmul, x_fdiv, x_dadd, x_dsub, x_dmul, x_ddiv, x_fcmp, x_dcmp, x_dupI, x_dupR, x_dup2, x_popI, x_popR, ldP_I, ldP_L, ldP_F, ldP_D, ldP_R, ldP_N, x_iload, x_iload_n, x_lload, x_lload_n, x_fload, x_fload_n, x_dload, x_dload_n, x_aload, x_aload_n, x_istore, x_istore_n, x_lstore, x_lstore_n, x_fstore, x_fstore_n, x_dstore, x_dstore_n, x_astore, x_astore_n, x_astoreN, x_astore_nN, x_icmp_eq, x_icmp_ne, x_icmp_lt, x_icmp_ge, x_icmp_gt, x_icmp_le, x_if_eq, x_if_ne, x_if_lt, x_if_ge, x_if_gt, x_if_le, x_ifnull, x_ifnullR, x_ifnn, x_ifnnR, x_aaload2, x_cpI, x_cpF, x_bF, x_bD, x_oI, xk_bipush_120, xk_iconst_0, xk_bipush_m6, xk_iconst_1, xk_bipush_80, xk_bipush_48, xk_bipush_57, xk_bipush_10, xk_bipush_64, xk_bipush_46, xk_bipush_97, xk_bipush_122, xk_bipush_119, xk_bipush_61, xk_bipush_59, xk_bipush_8, xk_bipush_33, xk_bipush_126, xk_bipush_m2, xk_bipush_m4, xk_iconst_4, xk_bipush_6, xk_iconst_2, xk_bipush_40, xk_iconst_3, xk_iconst_5, xk_iconst_m1, xk_bipush_m5, xk_bipush_12, xk_bipush_100, xk_bipush_26, xk_sipush_9999, xk_sipush_500, xk_bipush_7, xk_bipush_m126, xk_bipush_127, xk_bipush_23, xk_sipush_m1022, xk_sipush_1023, xk_bipush_52, xk_bipush_m3, xk_sipush_9830, xk_sipush_4800, xk_sipush_983, xk_sipush_480, xk_bipush_13, xk_bipush_18, xk_bipush_9, xk_bipush_32, xg_0_0, xp_0_0, xg_0_1, xp_0_1, xg_0_2, xp_0_2, xg_0_3, xp_0_3, xg_0_4, xp_0_4, xg_0_5, xp_0_5, xg_0_6, xp_0_6, xg_0_7, xp_0_7, xg_0_8, xp_0_8, xg_1_0, xp_1_0, xg_1_1, xp_1_1, xg_1_2, xp_1_2, xg_1_3, xp_1_3, xg_2_0, xp_2_0, xg_2_1, xp_2_1, xg_2_2, xp_2_2, xg_3_0, xp_3_0, xg_3_1, xp_3_1, xg_3_2, xp_3_2, xg_3_3, xp_3_3, xg_3_4, xp_3_4, xg_3_5, xp_3_5, xg_3_6, xp_3_6, xg_3_7, xp_3_7, xg_3_8, xp_3_8, xg_3_9, xp_3_9, xg_3_10, xp_3_10, xg_3_11, xp_3_11, xg_4_0, xp_4_0, xg_4_1, xp_4_1, xg_5_0, xp_5_0, xg_5_1, xp_5_1, xg_6_0, xp_6_0, xg_6_1, xp_6_1, xg_6_2, xp_6_2, xg_6_3, xp_6_3, xg_6_4, xp_6_4, xg_6_5, xp_6_5, xg_7_0, xp_7_0, xg_7_1, xp_7_1, xg_7_2, xp_7_2, xg_7_3, xp_7_3, xg_7_4, xp_7_4, xg_7_5, xp_7_5, xg_7_6, xp_7_6, xg_7_7, xp_7_7, xg_7_8, xp_7_8, xg_7_9, xp_7_9, xg_7_10, xp_7_10, xg_7_11, xp_7_11, xg_7_12, xp_7_12, xg_7_13, xp_7_13, fv0, fv1, fv2, fv3, kI_0, kI_1, stL, wipeL, entLn, entL, List.getElem?_cons_zero, List.getElem?_cons_succ, List.getElem?_nil, List.set_cons_zero, List.set_cons_succ, List.set_nil, List.length_cons, List.length_nil, List.cons_append, List.nil_append, List.replicate, Nat.reduceAdd, Nat.reduceLeDiff, Nat.reduceSub, true_and, and_true, x_callS, x_callSN, x_callI, x_callIN, x_callV0, x_callV1, x_callV2, x_callV3, x_callV4, x_callV5, x_callV6, x_callV7, callP, List.take_succ_cons, List.take_zero, List.take_nil, List.drop_succ_cons, List.drop_zero, List.drop_nil, List.getLast?_singleton, List.getLast?_cons_cons, Option.some.injEq, Value.ref.injEq, exists_eq_left, exists_eq_left', Nat.zero_le, Nat.add_zero, ldcV_f, ldcV_fn, ldcV_l, ldcV_d, Nat.reduceMul, Nat.le_refl, List.reverse_cons, List.reverse_nil, Option.toList, List.map_cons, List.map_nil, List.sum_cons, List.sum_nil, Value.category, tblW_n, tblW_c, Int.cast_ofNat_Int, Int.reduceAdd, Int.reduceToNat, ofI_n]
  obtain ⟨hM, n, hn, en, h⟩ := h
  have en' : sI S (y + 1) 7 = nI n := en
  obtain ⟨m0, m1, m2, m3, m4, m5, m6, m7, m8, m9, m10⟩ := hM
  simp only [m0, m1, m2, m3, m4, m5, m6, m7, m8, m9, m10, en', sK_stI, sR_stI, sK_stF, sR_stF, sK_stIA, sR_stIA, sK_stFA, sR_stFA, sI_stI, sI_stF, sI_stIA, sI_stFA, sF_stI, sF_stF, sF_stIA, sF_stFA, Nat.left_eq_add, Nat.add_eq_left, Nat.add_left_cancel_iff, Nat.reduceEqDiff, Nat.reduceEqDiff, Nat.succ_ne_self, false_and, and_false, if_false, if_true, nI_succ_sub, Option.some.injEq, Prod.mk.injEq, exists_eq_left', true_and, and_true, retI, retF, retV, retZ1, retZ0, retL, retA, retN, Nat.reduceAdd, Nat.reduceMul, Nat.reduceLT]
  simp (disch := omega) only [nlt0, nge0, neq0, ngt0, nle0, nI_ltI, nI_leI, nI_eq, nI_cl, in_nI, false_implies, true_implies, not_false_eq_true, not_true_eq_false, and_true, true_and, nI_add, pk_mul, implies_true, not_lt0, mV_pp, en]
  have c1 : ¬ 7 = 18 + n := by omega
  have c2 : ¬ 7 = 13 + n := by omega
  have c3 : ¬ 7 = 8 + n := by omega
  refine ⟨by omega, by omega, by omega, by omega, by omega, by omega, h _ ?_⟩
  rw [if_neg c1, if_neg c2, if_neg c3]
  refine OpS.of (((((Fr.refl _ _ _).stI _ _ _ (by omega) (by omega)).stI _ _ _ (by omega) (by omega)).stI _ _ _ (by omega) (by omega)).stI _ _ _ (by omega) (by omega)) ?_ ?_ (fun j a b => ?_) (fun _ _ _ => rfl)
  · rw [sI_row, if_neg (by omega), sI_row, if_neg (by omega), sI_row, if_neg (by omega), sI_row, if_neg (by omega)]
  · have en2 : (mV S y 0).pp.toNatClampNeg = n := by rw [en, nI_cl (by omega)]
    unfold neJoin
    rw [en2, en]
    refine (mV_up _ y 7 _ (by omega)).trans (DE.hpp ?_ _)
    refine (mV_sp hn).trans ?_
    refine DE.trans (DE.hsp ((mV_wr hn).trans (DE.hwr (mV_pr hn) n (nI 0))) n (nI 0)) ?_
    exact DE.refl _
  · rw [mV_st0, mV_st0, mV_st0, mV_st0]
    unfold upV
    rw [if_neg (by omega), if_neg (by omega), if_neg (by omega), if_neg (by omega)]
def P_X7_comes (as : List Value) (S : SS) (E : Option Value → SS → Prop) : Prop := match as with
  | [.ref y] => ModAt S y ∧ ∃ n, n < 4 ∧ (mV S y 0).pl = nI n ∧ ∀ T, OpS S T y (neCome (mV S y 0)) → E (some (.int (nI n))) T
  | _ => False
def Γ_X7_comes : List (MI × PT) := [(mi_X7_inkAt, P_X7_inkAt), (mi_X7_lightAt, P_X7_lightAt)]
theorem hΓ_X7_comes (l : Launch) (G : Gx) : ∀ q ∈ Γ_X7_comes, Ct l G q.1 q.2 := List.forall_mem_cons.mpr ⟨ct_X7_inkAt l G, List.forall_mem_cons.mpr ⟨ct_X7_lightAt l G, fun _ h => absurd h List.not_mem_nil⟩⟩
def cmI (S : SS) (y n m : Nat) : Nat → Int32 := fun i => if iK 0 n 0 ≤ i ∧ i < iK 0 n 0 + 2 * m then mI 6 else sI S (y + 1) i
def cmS (S : SS) (y n m : Nat) : SS := stFA (stIA S (y + 1) (cmI S y n m)) (y + 2) (rng (sF S (y + 2)) (lK 0 n 0) m (fun _ _ => FP.fconst1))
theorem iK_k (q p k : Nat) : iK q p k = iK q p 0 + 2 * k := by unfold iK; omega
theorem cmS_0 (S : SS) (y n : Nat) : cmS S y n 0 = S := by
  unfold cmS
  have e : cmI S y n 0 = sI S (y + 1) := funext fun i => if_neg (by omega)
  rw [e, rng_0, stIA_self, stFA_self]
theorem stI_stFA (S : SS) (a b k : Nat) (f : Nat → UInt32) (v : Int32) : stI (stFA S a f) b k v = stFA (stI S b k v) a f := rfl
theorem cmS_s {S : SS} {y n m : Nat} (hm : m < 120) : stF (stI (stI (cmS S y n m) (y + 1) (iK 0 n m) (mI 6)) (y + 1) (iK 0 n m + 1) (mI 6)) (y + 2) (lK 0 n m) FP.fconst1 = cmS S y n (m + 1) := by
  unfold cmS
  rw [stI_stFA, stI_stFA, stI_stIA, stI_stIA, stF_stFA, lK_k 0 n m]
  have e0 := rng_s (sF S (y + 2)) (lK 0 n 0) m (fun _ _ => FP.fconst1)
  rw [← e0]
  have e : (fun j => if j = iK 0 n m + 1 then mI 6 else if j = iK 0 n m then mI 6 else cmI S y n m j) = cmI S y n (m + 1) := by
    funext j
    unfold cmI
    rw [iK_k 0 n m]
    by_cases c1 : j = iK 0 n 0 + 2 * m + 1
    · rw [if_pos c1, if_pos (by omega)]
    · by_cases c2 : j = iK 0 n 0 + 2 * m
      · rw [if_neg c1, if_pos c2, if_pos (by omega)]
      · by_cases c3 : iK 0 n 0 ≤ j ∧ j < iK 0 n 0 + 2 * m
        · rw [if_neg c1, if_neg c2, if_pos c3, if_pos (by omega)]
        · rw [if_neg c1, if_neg c2, if_neg c3, if_neg (by omega)]
  rw [e]
theorem cm_op {S : SS} {y n : Nat} (hn : n < 4) (en : (mV S y 0).pl = nI n) : OpS S (stI (stI (cmS S y n 120) (y + 1) 5 (nI (n + 1))) (y + 1) 6 (nI n)) y (neCome (mV S y 0)) := by
  have eC : sI (cmS S y n 120) (y + 1) = cmI S y n 120 := by
    unfold cmS
    rw [sI_stFA, sI_stIA, if_pos rfl]
  have fC : sF (cmS S y n 120) (y + 2) = rng (sF S (y + 2)) (lK 0 n 0) 120 (fun _ _ => FP.fconst1) := by
    unfold cmS
    rw [sF_stFA, if_pos rfl]
  have g0 := iK_ge 0 n 0
  have low : ∀ j, j < 23 → cmI S y n 120 j = sI S (y + 1) j := fun j hj => if_neg (by omega)
  have row : ∀ j, sI (stI (stI (cmS S y n 120) (y + 1) 5 (nI (n + 1))) (y + 1) 6 (nI n)) (y + 1) j = if j = 6 then nI n else if j = 5 then nI (n + 1) else cmI S y n 120 j := fun j => by
    rw [mV_st0, mV_st0, eC]; rfl
  have lowr : ∀ j, j < 23 → ¬ j = 6 → ¬ j = 5 → sI (stI (stI (cmS S y n 120) (y + 1) 5 (nI (n + 1))) (y + 1) 6 (nI n)) (y + 1) j = sI S (y + 1) j := fun j h1 h2 h3 => by
    rw [row, if_neg h2, if_neg h3, low j h1]
  refine OpS.of ?_ ?_ ?_ (fun j a b => ?_) (fun j a b => ?_)
  · exact ((((Fr.refl S (y + 1) (y + 5)).stIA _ _ (by omega) (by omega)).stFA _ _ (by omega) (by omega)).stI _ _ _ (by omega) (by omega)).stI _ _ _ (by omega) (by omega)
  · rw [sI_row, if_neg (by omega), sI_row, if_neg (by omega)]
    unfold cmS
    rw [sI_stFA, sI_stIA, if_neg (by omega)]
  · unfold neCome
    rw [en, nI_cl (by omega), nI_add]
    refine ⟨fun i hi => ?_, fun i hi => ⟨?_, ?_, ?_⟩, lowr 4 (by omega) (by omega) (by omega), row 5, row 6, lowr 7 (by omega) (by omega) (by omega), fun p hp hp4 => ?_⟩
    · exact lowr _ (by omega) (by omega) (by omega)
    · exact lowr _ (by omega) (by omega) (by omega)
    · exact lowr _ (by omega) (by omega) (by omega)
    · exact lowr _ (by omega) (by omega) (by omega)
    · show GE (mG _ y 0 p) (upV (mV S y 0).g n newV p)
      rw [mG_low (by omega), mG_low (by omega)]
      intro j hj
      unfold upV
      by_cases c : p = n
      · rw [if_pos c]
        subst c
        have e1 : sI (cmS S y p 120) (y + 1) (iK 0 p j) = mI 6 := by
          rw [eC]; exact if_pos (by rw [iK_k 0 p j]; omega)
        have e2 : sI (cmS S y p 120) (y + 1) (iK 0 p j + 1) = mI 6 := by
          rw [eC]; exact if_pos (by rw [iK_k 0 p j]; omega)
        refine ⟨?_, ?_, ?_, e2⟩
        · show sF (cmS S y p 120) (y + 2) (lK 0 p j) = FP.fconst1
          rw [fC, lK_k 0 p j, rng_at, if_pos hj]
        · show mtI (sI (cmS S y p 120) (y + 1) (iK 0 p j)) = mI 6
          rw [e1, mtI_m]
        · show mwI (sI (cmS S y p 120) (y + 1) (iK 0 p j)) = mI 6
          rw [e1, mwI_m]
      · rw [if_neg c]
        have e1 : sI (cmS S y n 120) (y + 1) (iK 0 p j) = sI S (y + 1) (iK 0 p j) := by
          rw [eC]; exact if_neg (by unfold iK; omega)
        have e2 : sI (cmS S y n 120) (y + 1) (iK 0 p j + 1) = sI S (y + 1) (iK 0 p j + 1) := by
          rw [eC]; exact if_neg (by unfold iK; omega)
        refine ⟨?_, congrArg mtI e1, congrArg mwI e1, e2⟩
        show sF (cmS S y n 120) (y + 2) (lK 0 p j) = sF S (y + 2) (lK 0 p j)
        rw [fC]
        exact rng_out (by unfold lK; omega)
  · rw [row, if_neg (by omega), if_neg (by omega)]
    exact if_neg (by unfold iK; omega)
  · show sF (cmS S y n 120) (y + 2) j = _
    rw [fC]
    exact rng_out (by unfold lK; omega)
theorem ModAt.cm {S : SS} {y n m : Nat} (k : ModAt S y) : ModAt (cmS S y n m) y := k.mk' rfl rfl
set_option maxHeartbeats 1000000 in
theorem lp_X7_comes (l : Launch) (G : Gx) {S : SS} {y n : Nat} {E : Option Value → SS → Prop} (hM : ModAt S y) (hn : n < 4) (en : (mV S y 0).pl = nI n) (h : ∀ T, OpS S T y (neCome (mV S y 0)) → E (some (.int (nI n))) T) :
    ∀ k, k ≤ 120 → V l G mi_X7_comes E 9 [some (.ref y), some (.int (nI n)), some (.int (nI k))] [] (cmS S y n k) 0 0 := by
  refine loopUp 120 fun k hk ih => ?_
  refine (V.segN (Γ := Γ_X7_comes) (hΓ_X7_comes l G) so_X7_comes 5 (sg := sg_X7_comes_9) so_X7_comes_9 ?_ : V l G mi_X7_comes _ (segPc sg_X7_comes_9) _ _ _ _ _)
  simp only [mL_X7_comes, mT_X7_comes, rc_X7_comes, rs_X7_comes, Γ_X7_comes, sg_X7_comes_0, sg_X7_comes_9, sg_X7_comes_61, wn_X7_comes_0, wn_X7_comes_9, wn_X7_comes_61, wp_c, ex_c, x_nop, x_goto, x_table, x_iinc, x_ldc, x_ldc2, x_iaload, x_faload, x_baload, x_caload, x_iastore, x_fastore, x_bastore, x_castore, x_aastore, x_alen, x_gets, x_new, x_newa, x_anew, x_invs, x_invi, x_invv, x_ret, x_iret, x_lret, x_fret, x_aret, x_lconst, x_fconst0, x_fconst1, x_fconst2, x_dconst0, x_dconst1, x_null, x_iadd, x_isub, x_imul, x_iand, x_ior, x_idiv, x_irem, x_ineg, x_ishl, x_ishr, x_land, x_lor, x_lushr, x_lshl, x_lcmp, x_i2l, x_l2i, x_i2c, x_i2f, x_f2d, x_d2i, x_d2l, x_fadd, x_fsub, x_fmul, x_fdiv, x_dadd, x_dsub, x_dmul, x_ddiv, x_fcmp, x_dcmp, x_dupI, x_dupR, x_dup2, x_popI, x_popR, ldP_I, ldP_L, ldP_F, ldP_D, ldP_R, ldP_N, x_iload, x_iload_n, x_lload, x_lload_n, x_fload, x_fload_n, x_dload, x_dload_n, x_aload, x_aload_n, x_istore, x_istore_n, x_lstore, x_lstore_n, x_fstore, x_fstore_n, x_dstore, x_dstore_n, x_astore, x_astore_n, x_astoreN, x_astore_nN, x_icmp_eq, x_icmp_ne, x_icmp_lt, x_icmp_ge, x_icmp_gt, x_icmp_le, x_if_eq, x_if_ne, x_if_lt, x_if_ge, x_if_gt, x_if_le, x_ifnull, x_ifnullR, x_ifnn, x_ifnnR, x_aaload2, x_cpI, x_cpF, x_bF, x_bD, x_oI, xk_bipush_120, xk_iconst_0, xk_bipush_m6, xk_iconst_1, xk_bipush_80, xk_bipush_48, xk_bipush_57, xk_bipush_10, xk_bipush_64, xk_bipush_46, xk_bipush_97, xk_bipush_122, xk_bipush_119, xk_bipush_61, xk_bipush_59, xk_bipush_8, xk_bipush_33, xk_bipush_126, xk_bipush_m2, xk_bipush_m4, xk_iconst_4, xk_bipush_6, xk_iconst_2, xk_bipush_40, xk_iconst_3, xk_iconst_5, xk_iconst_m1, xk_bipush_m5, xk_bipush_12, xk_bipush_100, xk_bipush_26, xk_sipush_9999, xk_sipush_500, xk_bipush_7, xk_bipush_m126, xk_bipush_127, xk_bipush_23, xk_sipush_m1022, xk_sipush_1023, xk_bipush_52, xk_bipush_m3, xk_sipush_9830, xk_sipush_4800, xk_sipush_983, xk_sipush_480, xk_bipush_13, xk_bipush_18, xk_bipush_9, xk_bipush_32, xg_0_0, xp_0_0, xg_0_1, xp_0_1, xg_0_2, xp_0_2, xg_0_3, xp_0_3, xg_0_4, xp_0_4, xg_0_5, xp_0_5, xg_0_6, xp_0_6, xg_0_7, xp_0_7, xg_0_8, xp_0_8, xg_1_0, xp_1_0, xg_1_1, xp_1_1, xg_1_2, xp_1_2, xg_1_3, xp_1_3, xg_2_0, xp_2_0, xg_2_1, xp_2_1, xg_2_2, xp_2_2, xg_3_0, xp_3_0, xg_3_1, xp_3_1, xg_3_2, xp_3_2, xg_3_3, xp_3_3, xg_3_4, xp_3_4, xg_3_5, xp_3_5, xg_3_6, xp_3_6, xg_3_7, xp_3_7, xg_3_8, xp_3_8, xg_3_9, xp_3_9, xg_3_10, xp_3_10, xg_3_11, xp_3_11, xg_4_0, xp_4_0, xg_4_1, xp_4_1, xg_5_0, xp_5_0, xg_5_1, xp_5_1, xg_6_0, xp_6_0, xg_6_1, xp_6_1, xg_6_2, xp_6_2, xg_6_3, xp_6_3, xg_6_4, xp_6_4, xg_6_5, xp_6_5, xg_7_0, xp_7_0, xg_7_1, xp_7_1, xg_7_2, xp_7_2, xg_7_3, xp_7_3, xg_7_4, xp_7_4, xg_7_5, xp_7_5, xg_7_6, xp_7_6, xg_7_7, xp_7_7, xg_7_8, xp_7_8, xg_7_9, xp_7_9, xg_7_10, xp_7_10, xg_7_11, xp_7_11, xg_7_12, xp_7_12, xg_7_13, xp_7_13, fv0, fv1, fv2, fv3, kI_0, kI_1, stL, wipeL, entLn, entL, List.getElem?_cons_zero, List.getElem?_cons_succ, List.getElem?_nil, List.set_cons_zero, List.set_cons_succ, List.set_nil, List.length_cons, List.length_nil, List.cons_append, List.nil_append, List.replicate, Nat.reduceAdd, Nat.reduceLeDiff, Nat.reduceSub, true_and, and_true, x_callS, x_callSN, x_callI, x_callIN, x_callV0, x_callV1, x_callV2, x_callV3, x_callV4, x_callV5, x_callV6, x_callV7, callP, List.take_succ_cons, List.take_zero, List.take_nil, List.drop_succ_cons, List.drop_zero, List.drop_nil, List.getLast?_singleton, List.getLast?_cons_cons, Option.some.injEq, Value.ref.injEq, exists_eq_left, exists_eq_left', Nat.zero_le, Nat.add_zero, ldcV_f, ldcV_fn, ldcV_l, ldcV_d, Nat.reduceMul, Nat.le_refl, List.reverse_cons, List.reverse_nil, Option.toList, List.map_cons, List.map_nil, List.sum_cons, List.sum_nil, Value.category, tblW_n, tblW_c, Int.cast_ofNat_Int, Int.reduceAdd, Int.reduceToNat, ofI_n, rc_X7_inkAt, rs_X7_inkAt, P_X7_inkAt, rc_X7_lightAt, rs_X7_lightAt, P_X7_lightAt]
  obtain ⟨m0, m1, m2, m3, m4, m5, m6, m7, m8, m9, m10⟩ := hM.cm (n := n) (m := k)
  simp only [m0, m1, m2, m3, m4, m5, m6, m7, m8, m9, m10, sK_stI, sR_stI, sK_stF, sR_stF, sK_stIA, sR_stIA, sK_stFA, sR_stFA, sI_stI, sI_stF, sI_stIA, sI_stFA, sF_stI, sF_stF, sF_stIA, sF_stFA, Nat.left_eq_add, Nat.add_eq_left, Nat.add_left_cancel_iff, Nat.reduceEqDiff, Nat.reduceEqDiff, Nat.succ_ne_self, false_and, and_false, if_false, if_true, nI_succ_sub, Option.some.injEq, Prod.mk.injEq, exists_eq_left', true_and, and_true, retI, retF, retV, retZ1, retZ0, retL, retA, retN, Nat.reduceAdd, Nat.reduceMul, Nat.reduceLT]
  simp (disch := omega) only [nlt0, nge0, neq0, ngt0, nle0, nI_ltI, nI_leI, nI_eq, nI_cl, in_nI, false_implies, true_implies, not_false_eq_true, not_true_eq_false, and_true, true_and, nI_add, pk_mul, implies_true, not_lt0]
  refine ⟨fun c => ?_, fun c => ?_⟩
  · have e : k = 120 := by omega
    subst e
    have rC : ∀ j, j < 23 → sI (cmS S y n 120) (y + 1) j = sI S (y + 1) j := fun j hj => by
      have e : sI (cmS S y n 120) (y + 1) = cmI S y n 120 := by
        unfold cmS
        rw [sI_stFA, sI_stIA, if_pos rfl]
      rw [e]
      exact if_neg (by have := iK_ge 0 n 0; omega)
    have en' : sI S (y + 1) 5 = nI n := en
    refine ⟨by omega, by omega, by omega, h _ ?_⟩
    rw [rC 5 (by omega), en', nI_add]
    exact cm_op hn en
  · have hi := iK_lt (q := 0) (by omega) hn (show k < 120 by omega)
    have hl := lK_lt (q := 0) (by omega) hn (show k < 120 by omega)
    simp (disch := omega) only [nlt0, nge0, neq0, ngt0, nle0, nI_ltI, nI_leI, nI_eq, nI_cl, in_nI, false_implies, true_implies, not_false_eq_true, not_true_eq_false, and_true, true_and, nI_add, pk_mul, implies_true, not_lt0]
    rw [cmS_s (by omega)]
    exact ⟨by omega, hn, by omega, by omega, by omega, hn, by omega, hi, by omega, hn, by omega, hl, ih (by omega)⟩
set_option maxHeartbeats 1000000 in
theorem ct_X7_comes (l : Launch) (G : Gx) : Ct l G mi_X7_comes P_X7_comes := by
  refine Ct.ofV mo_X7_comes (fun as S E h => ?_)
  unfold P_X7_comes at h
  split at h
  case h_2 => exact h.elim
  rename_i y
  refine ⟨by simp [entL, mL_X7_comes], ?_⟩
  refine wpN_ok (Γ := Γ_X7_comes) (hΓ_X7_comes l G) so_X7_comes 5 _ _ _ _ _ _ ?_
  simp only [mL_X7_comes, mT_X7_comes, rc_X7_comes, rs_X7_comes, Γ_X7_comes, sg_X7_comes_0, sg_X7_comes_9, sg_X7_comes_61, wn_X7_comes_0, wn_X7_comes_9, wn_X7_comes_61, wp_c, ex_c, x_nop, x_goto, x_table, x_iinc, x_ldc, x_ldc2, x_iaload, x_faload, x_baload, x_caload, x_iastore, x_fastore, x_bastore, x_castore, x_aastore, x_alen, x_gets, x_new, x_newa, x_anew, x_invs, x_invi, x_invv, x_ret, x_iret, x_lret, x_fret, x_aret, x_lconst, x_fconst0, x_fconst1, x_fconst2, x_dconst0, x_dconst1, x_null, x_iadd, x_isub, x_imul, x_iand, x_ior, x_idiv, x_irem, x_ineg, x_ishl, x_ishr, x_land, x_lor, x_lushr, x_lshl, x_lcmp, x_i2l, x_l2i, x_i2c, x_i2f, x_f2d, x_d2i, x_d2l, x_fadd, x_fsub, x_fmul, x_fdiv, x_dadd, x_dsub, x_dmul, x_ddiv, x_fcmp, x_dcmp, x_dupI, x_dupR, x_dup2, x_popI, x_popR, ldP_I, ldP_L, ldP_F, ldP_D, ldP_R, ldP_N, x_iload, x_iload_n, x_lload, x_lload_n, x_fload, x_fload_n, x_dload, x_dload_n, x_aload, x_aload_n, x_istore, x_istore_n, x_lstore, x_lstore_n, x_fstore, x_fstore_n, x_dstore, x_dstore_n, x_astore, x_astore_n, x_astoreN, x_astore_nN, x_icmp_eq, x_icmp_ne, x_icmp_lt, x_icmp_ge, x_icmp_gt, x_icmp_le, x_if_eq, x_if_ne, x_if_lt, x_if_ge, x_if_gt, x_if_le, x_ifnull, x_ifnullR, x_ifnn, x_ifnnR, x_aaload2, x_cpI, x_cpF, x_bF, x_bD, x_oI, xk_bipush_120, xk_iconst_0, xk_bipush_m6, xk_iconst_1, xk_bipush_80, xk_bipush_48, xk_bipush_57, xk_bipush_10, xk_bipush_64, xk_bipush_46, xk_bipush_97, xk_bipush_122, xk_bipush_119, xk_bipush_61, xk_bipush_59, xk_bipush_8, xk_bipush_33, xk_bipush_126, xk_bipush_m2, xk_bipush_m4, xk_iconst_4, xk_bipush_6, xk_iconst_2, xk_bipush_40, xk_iconst_3, xk_iconst_5, xk_iconst_m1, xk_bipush_m5, xk_bipush_12, xk_bipush_100, xk_bipush_26, xk_sipush_9999, xk_sipush_500, xk_bipush_7, xk_bipush_m126, xk_bipush_127, xk_bipush_23, xk_sipush_m1022, xk_sipush_1023, xk_bipush_52, xk_bipush_m3, xk_sipush_9830, xk_sipush_4800, xk_sipush_983, xk_sipush_480, xk_bipush_13, xk_bipush_18, xk_bipush_9, xk_bipush_32, xg_0_0, xp_0_0, xg_0_1, xp_0_1, xg_0_2, xp_0_2, xg_0_3, xp_0_3, xg_0_4, xp_0_4, xg_0_5, xp_0_5, xg_0_6, xp_0_6, xg_0_7, xp_0_7, xg_0_8, xp_0_8, xg_1_0, xp_1_0, xg_1_1, xp_1_1, xg_1_2, xp_1_2, xg_1_3, xp_1_3, xg_2_0, xp_2_0, xg_2_1, xp_2_1, xg_2_2, xp_2_2, xg_3_0, xp_3_0, xg_3_1, xp_3_1, xg_3_2, xp_3_2, xg_3_3, xp_3_3, xg_3_4, xp_3_4, xg_3_5, xp_3_5, xg_3_6, xp_3_6, xg_3_7, xp_3_7, xg_3_8, xp_3_8, xg_3_9, xp_3_9, xg_3_10, xp_3_10, xg_3_11, xp_3_11, xg_4_0, xp_4_0, xg_4_1, xp_4_1, xg_5_0, xp_5_0, xg_5_1, xp_5_1, xg_6_0, xp_6_0, xg_6_1, xp_6_1, xg_6_2, xp_6_2, xg_6_3, xp_6_3, xg_6_4, xp_6_4, xg_6_5, xp_6_5, xg_7_0, xp_7_0, xg_7_1, xp_7_1, xg_7_2, xp_7_2, xg_7_3, xp_7_3, xg_7_4, xp_7_4, xg_7_5, xp_7_5, xg_7_6, xp_7_6, xg_7_7, xp_7_7, xg_7_8, xp_7_8, xg_7_9, xp_7_9, xg_7_10, xp_7_10, xg_7_11, xp_7_11, xg_7_12, xp_7_12, xg_7_13, xp_7_13, fv0, fv1, fv2, fv3, kI_0, kI_1, stL, wipeL, entLn, entL, List.getElem?_cons_zero, List.getElem?_cons_succ, List.getElem?_nil, List.set_cons_zero, List.set_cons_succ, List.set_nil, List.length_cons, List.length_nil, List.cons_append, List.nil_append, List.replicate, Nat.reduceAdd, Nat.reduceLeDiff, Nat.reduceSub, true_and, and_true, x_callS, x_callSN, x_callI, x_callIN, x_callV0, x_callV1, x_callV2, x_callV3, x_callV4, x_callV5, x_callV6, x_callV7, callP, List.take_succ_cons, List.take_zero, List.take_nil, List.drop_succ_cons, List.drop_zero, List.drop_nil, List.getLast?_singleton, List.getLast?_cons_cons, Option.some.injEq, Value.ref.injEq, exists_eq_left, exists_eq_left', Nat.zero_le, Nat.add_zero, ldcV_f, ldcV_fn, ldcV_l, ldcV_d, Nat.reduceMul, Nat.le_refl, List.reverse_cons, List.reverse_nil, Option.toList, List.map_cons, List.map_nil, List.sum_cons, List.sum_nil, Value.category, tblW_n, tblW_c, Int.cast_ofNat_Int, Int.reduceAdd, Int.reduceToNat, ofI_n, rc_X7_inkAt, rs_X7_inkAt, P_X7_inkAt, rc_X7_lightAt, rs_X7_lightAt, P_X7_lightAt]
  obtain ⟨hM, n, hn, en, h⟩ := h
  have en' : sI S (y + 1) 5 = nI n := en
  have hM0 := hM
  obtain ⟨m0, m1, m2, m3, m4, m5, m6, m7, m8, m9, m10⟩ := hM
  simp only [m0, m1, m2, m3, m4, m5, m6, m7, m8, m9, m10, sK_stI, sR_stI, sK_stF, sR_stF, sK_stIA, sR_stIA, sK_stFA, sR_stFA, sI_stI, sI_stF, sI_stIA, sI_stFA, sF_stI, sF_stF, sF_stIA, sF_stFA, Nat.left_eq_add, Nat.add_eq_left, Nat.add_left_cancel_iff, Nat.reduceEqDiff, Nat.reduceEqDiff, Nat.succ_ne_self, false_and, and_false, if_false, if_true, nI_succ_sub, Option.some.injEq, Prod.mk.injEq, exists_eq_left', true_and, and_true, retI, retF, retV, retZ1, retZ0, retL, retA, retN, Nat.reduceAdd, Nat.reduceMul, Nat.reduceLT]
  simp (disch := omega) only [nlt0, nge0, neq0, ngt0, nle0, nI_ltI, nI_leI, nI_eq, nI_cl, in_nI, false_implies, true_implies, not_false_eq_true, not_true_eq_false, and_true, true_and, nI_add, pk_mul, implies_true, not_lt0, en']
  have e := lp_X7_comes l G hM0 hn en h 0 (by omega)
  rw [cmS_0] at e
  exact ⟨by omega, e⟩
def P_X7_promises (as : List Value) (S : SS) (E : Option Value → SS → Prop) : Prop := match as with
  | [.ref y, .int w, .int k] => ModAt S y ∧ ∃ p kn wn, OnD (mV S y 0) p ∧ kn < 120 ∧ k = nI kn ∧ wn < 5 ∧ w = nI wn ∧ ∀ T, OpS S T y (putG (mV S y 0) p (sf_p ((mV S y 0).g p) (upV ((mV S y 0).g p).p kn w))) → E (some (.int (nI (cn (fun j => !decide (upV ((mV S y 0).g p).p kn w j = mI 6)) 120)))) T
  | _ => False
def Γ_X7_promises : List (MI × PT) := [(mi_X7_inkAt, P_X7_inkAt), (mi_X7_promisedOn, P_X7_promisedOn)]
theorem hΓ_X7_promises (l : Launch) (G : Gx) : ∀ q ∈ Γ_X7_promises, Ct l G q.1 q.2 := List.forall_mem_cons.mpr ⟨ct_X7_inkAt l G, List.forall_mem_cons.mpr ⟨ct_X7_promisedOn l G, fun _ h => absurd h List.not_mem_nil⟩⟩
set_option maxHeartbeats 1000000 in
theorem ct_X7_promises (l : Launch) (G : Gx) : Ct l G mi_X7_promises P_X7_promises := by
  refine Ct.ofV mo_X7_promises (fun as S E h => ?_)
  unfold P_X7_promises at h
  split at h
  case h_2 => exact h.elim
  rename_i y w k
  refine ⟨by simp [entL, mL_X7_promises], ?_⟩
  refine wpN_ok (Γ := Γ_X7_promises) (hΓ_X7_promises l G) so_X7_promises 5 _ _ _ _ _ _ ?_
  simp only [mL_X7_promises, mT_X7_promises, rc_X7_promises, rs_X7_promises, Γ_X7_promises, sg_X7_promises_0, wn_X7_promises_0, wp_c, ex_c, x_nop, x_goto, x_table, x_iinc, x_ldc, x_ldc2, x_iaload, x_faload, x_baload, x_caload, x_iastore, x_fastore, x_bastore, x_castore, x_aastore, x_alen, x_gets, x_new, x_newa, x_anew, x_invs, x_invi, x_invv, x_ret, x_iret, x_lret, x_fret, x_aret, x_lconst, x_fconst0, x_fconst1, x_fconst2, x_dconst0, x_dconst1, x_null, x_iadd, x_isub, x_imul, x_iand, x_ior, x_idiv, x_irem, x_ineg, x_ishl, x_ishr, x_land, x_lor, x_lushr, x_lshl, x_lcmp, x_i2l, x_l2i, x_i2c, x_i2f, x_f2d, x_d2i, x_d2l, x_fadd, x_fsub, x_fmul, x_fdiv, x_dadd, x_dsub, x_dmul, x_ddiv, x_fcmp, x_dcmp, x_dupI, x_dupR, x_dup2, x_popI, x_popR, ldP_I, ldP_L, ldP_F, ldP_D, ldP_R, ldP_N, x_iload, x_iload_n, x_lload, x_lload_n, x_fload, x_fload_n, x_dload, x_dload_n, x_aload, x_aload_n, x_istore, x_istore_n, x_lstore, x_lstore_n, x_fstore, x_fstore_n, x_dstore, x_dstore_n, x_astore, x_astore_n, x_astoreN, x_astore_nN, x_icmp_eq, x_icmp_ne, x_icmp_lt, x_icmp_ge, x_icmp_gt, x_icmp_le, x_if_eq, x_if_ne, x_if_lt, x_if_ge, x_if_gt, x_if_le, x_ifnull, x_ifnullR, x_ifnn, x_ifnnR, x_aaload2, x_cpI, x_cpF, x_bF, x_bD, x_oI, xk_bipush_120, xk_iconst_0, xk_bipush_m6, xk_iconst_1, xk_bipush_80, xk_bipush_48, xk_bipush_57, xk_bipush_10, xk_bipush_64, xk_bipush_46, xk_bipush_97, xk_bipush_122, xk_bipush_119, xk_bipush_61, xk_bipush_59, xk_bipush_8, xk_bipush_33, xk_bipush_126, xk_bipush_m2, xk_bipush_m4, xk_iconst_4, xk_bipush_6, xk_iconst_2, xk_bipush_40, xk_iconst_3, xk_iconst_5, xk_iconst_m1, xk_bipush_m5, xk_bipush_12, xk_bipush_100, xk_bipush_26, xk_sipush_9999, xk_sipush_500, xk_bipush_7, xk_bipush_m126, xk_bipush_127, xk_bipush_23, xk_sipush_m1022, xk_sipush_1023, xk_bipush_52, xk_bipush_m3, xk_sipush_9830, xk_sipush_4800, xk_sipush_983, xk_sipush_480, xk_bipush_13, xk_bipush_18, xk_bipush_9, xk_bipush_32, xg_0_0, xp_0_0, xg_0_1, xp_0_1, xg_0_2, xp_0_2, xg_0_3, xp_0_3, xg_0_4, xp_0_4, xg_0_5, xp_0_5, xg_0_6, xp_0_6, xg_0_7, xp_0_7, xg_0_8, xp_0_8, xg_1_0, xp_1_0, xg_1_1, xp_1_1, xg_1_2, xp_1_2, xg_1_3, xp_1_3, xg_2_0, xp_2_0, xg_2_1, xp_2_1, xg_2_2, xp_2_2, xg_3_0, xp_3_0, xg_3_1, xp_3_1, xg_3_2, xp_3_2, xg_3_3, xp_3_3, xg_3_4, xp_3_4, xg_3_5, xp_3_5, xg_3_6, xp_3_6, xg_3_7, xp_3_7, xg_3_8, xp_3_8, xg_3_9, xp_3_9, xg_3_10, xp_3_10, xg_3_11, xp_3_11, xg_4_0, xp_4_0, xg_4_1, xp_4_1, xg_5_0, xp_5_0, xg_5_1, xp_5_1, xg_6_0, xp_6_0, xg_6_1, xp_6_1, xg_6_2, xp_6_2, xg_6_3, xp_6_3, xg_6_4, xp_6_4, xg_6_5, xp_6_5, xg_7_0, xp_7_0, xg_7_1, xp_7_1, xg_7_2, xp_7_2, xg_7_3, xp_7_3, xg_7_4, xp_7_4, xg_7_5, xp_7_5, xg_7_6, xp_7_6, xg_7_7, xp_7_7, xg_7_8, xp_7_8, xg_7_9, xp_7_9, xg_7_10, xp_7_10, xg_7_11, xp_7_11, xg_7_12, xp_7_12, xg_7_13, xp_7_13, fv0, fv1, fv2, fv3, kI_0, kI_1, stL, wipeL, entLn, entL, List.getElem?_cons_zero, List.getElem?_cons_succ, List.getElem?_nil, List.set_cons_zero, List.set_cons_succ, List.set_nil, List.length_cons, List.length_nil, List.cons_append, List.nil_append, List.replicate, Nat.reduceAdd, Nat.reduceLeDiff, Nat.reduceSub, true_and, and_true, x_callS, x_callSN, x_callI, x_callIN, x_callV0, x_callV1, x_callV2, x_callV3, x_callV4, x_callV5, x_callV6, x_callV7, callP, List.take_succ_cons, List.take_zero, List.take_nil, List.drop_succ_cons, List.drop_zero, List.drop_nil, List.getLast?_singleton, List.getLast?_cons_cons, Option.some.injEq, Value.ref.injEq, exists_eq_left, exists_eq_left', Nat.zero_le, Nat.add_zero, ldcV_f, ldcV_fn, ldcV_l, ldcV_d, Nat.reduceMul, Nat.le_refl, List.reverse_cons, List.reverse_nil, Option.toList, List.map_cons, List.map_nil, List.sum_cons, List.sum_nil, Value.category, tblW_n, tblW_c, Int.cast_ofNat_Int, Int.reduceAdd, Int.reduceToNat, ofI_n, rc_X7_inkAt, rs_X7_inkAt, P_X7_inkAt, rc_X7_promisedOn, rs_X7_promisedOn, P_X7_promisedOn]
  obtain ⟨hM, p, kn, wn, hp, hk, rfl, hw, rfl, h⟩ := h
  have edk : sI S (y + 1) 6 = nI p := hp.1
  have hp4 := hp.2.1
  have hi := iK_lt (q := 0) (by omega) hp4 hk
  have hM0 := hM
  obtain ⟨m0, m1, m2, m3, m4, m5, m6, m7, m8, m9, m10⟩ := hM
  simp only [m0, m1, m2, m3, m4, m5, m6, m7, m8, m9, m10, sK_stI, sR_stI, sK_stF, sR_stF, sK_stIA, sR_stIA, sK_stFA, sR_stFA, sI_stI, sI_stF, sI_stIA, sI_stFA, sF_stI, sF_stF, sF_stIA, sF_stFA, Nat.left_eq_add, Nat.add_eq_left, Nat.add_left_cancel_iff, Nat.reduceEqDiff, Nat.reduceEqDiff, Nat.succ_ne_self, false_and, and_false, if_false, if_true, nI_succ_sub, Option.some.injEq, Prod.mk.injEq, exists_eq_left', true_and, and_true, retI, retF, retV, retZ1, retZ0, retL, retA, retN, Nat.reduceAdd, Nat.reduceMul, Nat.reduceLT]
  have hg := iK_ge 0 p kn
  have c6 : ¬ 6 = iK 0 p kn + 1 := by omega
  simp (disch := omega) only [nlt0, nge0, neq0, ngt0, nle0, nI_ltI, nI_leI, nI_eq, nI_cl, in_nI, false_implies, true_implies, not_false_eq_true, not_true_eq_false, and_true, true_and, nI_add, pk_mul, implies_true, not_lt0, edk, c6, if_false]
  have gp := ge_p (S := S) (y := y) (q := 0) (p := p) (v := nI wn) hk
  have ec : cn (fun j => !decide ((mG (stI S (y + 1) (iK 0 p kn + 1) (nI wn)) y 0 p).p j = mI 6)) 120 = cn (fun j => !decide (upV ((mV S y 0).g p).p kn (nI wn) j = mI 6)) 120 := cn_congr fun j hj => by
    have := (gp p j hj).2.2.2
    rw [if_pos rfl] at this
    rw [this]
    rfl
  rw [ec]
  refine ⟨by omega, by omega, hp4, hk, hi, by omega, hM0.mk' rfl rfl, hp4, h _ (OpS.of ((Fr.refl _ _ _).stI _ _ _ (by omega) (by omega)) ?_ ?_ (fun j a b => ?_) (fun _ _ _ => rfl))⟩
  · rw [sI_row, if_neg (by omega)]
  · refine de_g (fun j hj => ?_) (fun p' hp' _ => gp p')
    rw [mV_st0]
    exact if_neg (by omega)
  · rw [mV_st0]
    exact if_neg (by unfold iK; omega)
def P_X7_rubs (as : List Value) (S : SS) (E : Option Value → SS → Prop) : Prop := match as with
  | [.ref y, .int k] => ModAt S y ∧ DOK (mV S y 0) ∧ ∃ p kn, OnD (mV S y 0) p ∧ kn < 120 ∧ k = nI kn ∧ ¬ ((mV S y 0).g p).t kn = mI 6 ∧ ∀ T, OpS S T y (putG (mV S y 0) p (rubV ((mV S y 0).g p) kn)) → E (some (.int (((mV S y 0).g p).t kn))) T
  | _ => False
def Γ_X7_rubs : List (MI × PT) := [(mi_X7_inkAt, P_X7_inkAt), (mi_X7_lightAt, P_X7_lightAt)]
theorem hΓ_X7_rubs (l : Launch) (G : Gx) : ∀ q ∈ Γ_X7_rubs, Ct l G q.1 q.2 := List.forall_mem_cons.mpr ⟨ct_X7_inkAt l G, List.forall_mem_cons.mpr ⟨ct_X7_lightAt l G, fun _ h => absurd h List.not_mem_nil⟩⟩
set_option maxHeartbeats 1000000 in
theorem ct_X7_rubs (l : Launch) (G : Gx) : Ct l G mi_X7_rubs P_X7_rubs := by
  refine Ct.ofV mo_X7_rubs (fun as S E h => ?_)
  unfold P_X7_rubs at h
  split at h
  case h_2 => exact h.elim
  rename_i y k
  refine ⟨by simp [entL, mL_X7_rubs], ?_⟩
  refine wpN_ok (Γ := Γ_X7_rubs) (hΓ_X7_rubs l G) so_X7_rubs 5 _ _ _ _ _ _ ?_
  simp only [mL_X7_rubs, mT_X7_rubs, rc_X7_rubs, rs_X7_rubs, Γ_X7_rubs, sg_X7_rubs_0, wn_X7_rubs_0, wp_c, ex_c, x_nop, x_goto, x_table, x_iinc, x_ldc, x_ldc2, x_iaload, x_faload, x_baload, x_caload, x_iastore, x_fastore, x_bastore, x_castore, x_aastore, x_alen, x_gets, x_new, x_newa, x_anew, x_invs, x_invi, x_invv, x_ret, x_iret, x_lret, x_fret, x_aret, x_lconst, x_fconst0, x_fconst1, x_fconst2, x_dconst0, x_dconst1, x_null, x_iadd, x_isub, x_imul, x_iand, x_ior, x_idiv, x_irem, x_ineg, x_ishl, x_ishr, x_land, x_lor, x_lushr, x_lshl, x_lcmp, x_i2l, x_l2i, x_i2c, x_i2f, x_f2d, x_d2i, x_d2l, x_fadd, x_fsub, x_fmul, x_fdiv, x_dadd, x_dsub, x_dmul, x_ddiv, x_fcmp, x_dcmp, x_dupI, x_dupR, x_dup2, x_popI, x_popR, ldP_I, ldP_L, ldP_F, ldP_D, ldP_R, ldP_N, x_iload, x_iload_n, x_lload, x_lload_n, x_fload, x_fload_n, x_dload, x_dload_n, x_aload, x_aload_n, x_istore, x_istore_n, x_lstore, x_lstore_n, x_fstore, x_fstore_n, x_dstore, x_dstore_n, x_astore, x_astore_n, x_astoreN, x_astore_nN, x_icmp_eq, x_icmp_ne, x_icmp_lt, x_icmp_ge, x_icmp_gt, x_icmp_le, x_if_eq, x_if_ne, x_if_lt, x_if_ge, x_if_gt, x_if_le, x_ifnull, x_ifnullR, x_ifnn, x_ifnnR, x_aaload2, x_cpI, x_cpF, x_bF, x_bD, x_oI, xk_bipush_120, xk_iconst_0, xk_bipush_m6, xk_iconst_1, xk_bipush_80, xk_bipush_48, xk_bipush_57, xk_bipush_10, xk_bipush_64, xk_bipush_46, xk_bipush_97, xk_bipush_122, xk_bipush_119, xk_bipush_61, xk_bipush_59, xk_bipush_8, xk_bipush_33, xk_bipush_126, xk_bipush_m2, xk_bipush_m4, xk_iconst_4, xk_bipush_6, xk_iconst_2, xk_bipush_40, xk_iconst_3, xk_iconst_5, xk_iconst_m1, xk_bipush_m5, xk_bipush_12, xk_bipush_100, xk_bipush_26, xk_sipush_9999, xk_sipush_500, xk_bipush_7, xk_bipush_m126, xk_bipush_127, xk_bipush_23, xk_sipush_m1022, xk_sipush_1023, xk_bipush_52, xk_bipush_m3, xk_sipush_9830, xk_sipush_4800, xk_sipush_983, xk_sipush_480, xk_bipush_13, xk_bipush_18, xk_bipush_9, xk_bipush_32, xg_0_0, xp_0_0, xg_0_1, xp_0_1, xg_0_2, xp_0_2, xg_0_3, xp_0_3, xg_0_4, xp_0_4, xg_0_5, xp_0_5, xg_0_6, xp_0_6, xg_0_7, xp_0_7, xg_0_8, xp_0_8, xg_1_0, xp_1_0, xg_1_1, xp_1_1, xg_1_2, xp_1_2, xg_1_3, xp_1_3, xg_2_0, xp_2_0, xg_2_1, xp_2_1, xg_2_2, xp_2_2, xg_3_0, xp_3_0, xg_3_1, xp_3_1, xg_3_2, xp_3_2, xg_3_3, xp_3_3, xg_3_4, xp_3_4, xg_3_5, xp_3_5, xg_3_6, xp_3_6, xg_3_7, xp_3_7, xg_3_8, xp_3_8, xg_3_9, xp_3_9, xg_3_10, xp_3_10, xg_3_11, xp_3_11, xg_4_0, xp_4_0, xg_4_1, xp_4_1, xg_5_0, xp_5_0, xg_5_1, xp_5_1, xg_6_0, xp_6_0, xg_6_1, xp_6_1, xg_6_2, xp_6_2, xg_6_3, xp_6_3, xg_6_4, xp_6_4, xg_6_5, xp_6_5, xg_7_0, xp_7_0, xg_7_1, xp_7_1, xg_7_2, xp_7_2, xg_7_3, xp_7_3, xg_7_4, xp_7_4, xg_7_5, xp_7_5, xg_7_6, xp_7_6, xg_7_7, xp_7_7, xg_7_8, xp_7_8, xg_7_9, xp_7_9, xg_7_10, xp_7_10, xg_7_11, xp_7_11, xg_7_12, xp_7_12, xg_7_13, xp_7_13, fv0, fv1, fv2, fv3, kI_0, kI_1, stL, wipeL, entLn, entL, List.getElem?_cons_zero, List.getElem?_cons_succ, List.getElem?_nil, List.set_cons_zero, List.set_cons_succ, List.set_nil, List.length_cons, List.length_nil, List.cons_append, List.nil_append, List.replicate, Nat.reduceAdd, Nat.reduceLeDiff, Nat.reduceSub, true_and, and_true, x_callS, x_callSN, x_callI, x_callIN, x_callV0, x_callV1, x_callV2, x_callV3, x_callV4, x_callV5, x_callV6, x_callV7, callP, List.take_succ_cons, List.take_zero, List.take_nil, List.drop_succ_cons, List.drop_zero, List.drop_nil, List.getLast?_singleton, List.getLast?_cons_cons, Option.some.injEq, Value.ref.injEq, exists_eq_left, exists_eq_left', Nat.zero_le, Nat.add_zero, ldcV_f, ldcV_fn, ldcV_l, ldcV_d, Nat.reduceMul, Nat.le_refl, List.reverse_cons, List.reverse_nil, Option.toList, List.map_cons, List.map_nil, List.sum_cons, List.sum_nil, Value.category, tblW_n, tblW_c, Int.cast_ofNat_Int, Int.reduceAdd, Int.reduceToNat, ofI_n, rc_X7_inkAt, rs_X7_inkAt, P_X7_inkAt, rc_X7_lightAt, rs_X7_lightAt, P_X7_lightAt]
  obtain ⟨hM, hD, p, kn, hp, hk, rfl, ht, h⟩ := h
  have edk : sI S (y + 1) 6 = nI p := hp.1
  have hp4 := hp.2.1
  have hG := hD.2.2.2.2 p hp.2.2 hp4
  have hi := iK_lt (q := 0) (by omega) hp4 hk
  have hl := lK_lt (q := 0) (by omega) hp4 hk
  have hM0 := hM
  obtain ⟨m0, m1, m2, m3, m4, m5, m6, m7, m8, m9, m10⟩ := hM
  simp only [m0, m1, m2, m3, m4, m5, m6, m7, m8, m9, m10, sK_stI, sR_stI, sK_stF, sR_stF, sK_stIA, sR_stIA, sK_stFA, sR_stFA, sI_stI, sI_stF, sI_stIA, sI_stFA, sF_stI, sF_stF, sF_stIA, sF_stFA, Nat.left_eq_add, Nat.add_eq_left, Nat.add_left_cancel_iff, Nat.reduceEqDiff, Nat.reduceEqDiff, Nat.succ_ne_self, false_and, and_false, if_false, if_true, nI_succ_sub, Option.some.injEq, Prod.mk.injEq, exists_eq_left', true_and, and_true, retI, retF, retV, retZ1, retZ0, retL, retA, retN, Nat.reduceAdd, Nat.reduceMul, Nat.reduceLT]
  have hg := iK_ge 0 p kn
  have c6 : ¬ 6 = iK 0 p kn := by omega
  have hx := (hG kn hk).1
  obtain ⟨f1, f2, f3⟩ := fl_rub hx
  have c26 : ¬ nI 26 = 0 := by decide
  simp (disch := omega) only [nlt0, nge0, neq0, ngt0, nle0, nI_ltI, nI_leI, nI_eq, nI_cl, in_nI, false_implies, true_implies, not_false_eq_true, not_true_eq_false, and_true, true_and, nI_add, pk_mul, implies_true, not_lt0, edk, c6, if_false]
  rcases ink_of (S := S) (y := y) (q := 0) (p := p) hG hk with c | ⟨a, b, ha, hb, ei, et, ew⟩
  · exact absurd ((mtI_6 _).mpr c) ht
  have ev : sI S (y + 1) (iK 0 p kn) - sI S (y + 1) (iK 0 p kn) / nI 26 * nI 26 = ((mV S y 0).g p).t kn := by
    have e1 : nI (26 * b + a) / nI 26 = nI ((26 * b + a) / 26) := pk_div (by omega) (by omega) (by omega)
    have e2 : nI (26 * b + a) - nI (26 * b + a) / nI 26 * nI 26 = nI ((26 * b + a) % 26) := pk_rem (by omega) (by omega) (by omega)
    rw [ei, e2, show (26 * b + a) % 26 = a by omega]
    exact et.symm
  rw [ev]
  refine ⟨by omega, by omega, hp4, hk, by omega, by omega, by omega, by omega, by omega, hp4, hk, by omega, by omega, hp4, hk, hl, f1, f2, hl, h _ (OpS.of (((Fr.refl _ _ _).stI _ _ _ (by omega) (by omega)).stF _ _ _ (by omega) (by omega)) ?_ ?_ (fun j a b => ?_) (fun j a b => ?_))⟩
  · show sI (stI S (y + 1) (iK 0 p kn) (mI 6)) (y + 3) = _
    rw [sI_row, if_neg (by omega)]
  · refine de_g (fun j hj => ?_) (fun p' hp' _ => ?_)
    · show sI (stI S (y + 1) (iK 0 p kn) (mI 6)) (y + 1) j = _
      rw [mV_st0]
      exact if_neg (by omega)
    · refine (ge_l1 hk p').trans ?_
      show GE _ (upV (mV S y 0).g p (rubV ((mV S y 0).g p) kn) p')
      have g2 := ge_tw (S := S) (y := y) (q := 0) (p := p) (v := mI 6) hk p'
      unfold upV
      by_cases c : p' = p
      · subst c
        rw [if_pos rfl, if_pos rfl]
        rw [if_pos rfl, mtI_m, mwI_m] at g2
        exact g2.hl kn _
      · rw [if_neg c] at g2 ⊢
        rw [if_neg c]
        exact g2
  · show sI (stI S (y + 1) (iK 0 p kn) (mI 6)) (y + 1) j = _
    rw [mV_st0]
    exact if_neg (by unfold iK; omega)
  · rw [sF_stF, if_neg (by unfold lK; omega)]
    rfl
theorem spV_lost {D D2 : DV} {G G2 : GV} {k w a : Nat} {b : Int32} (hD : DS D2 D) (hG : GE G2 (markV D G w k (nI a))) (hw : w < 5) (ha : a < 26) (hb : b = mI 6 ∨ b = nI k) (hk : k < 120) : spV D2 G2 (fun j => rdV D G j) b 120 = lostV D G w k 120 := by
  unfold spV lostV
  refine cn_congr fun j hj => ?_
  obtain ⟨g1, g2, -, -⟩ := hG j hj
  have g1' : G2.l j = dimV D (G.l j) w (dist k j) := g1
  have g2' : G2.t j = if j = k then nI a else G.t j := g2
  by_cases c : rdV D G j = true
  · have ct : ¬ G.t j = mI 6 := by
      unfold rdV at c
      simp at c
      exact c.1
    have ct2 : ¬ G2.t j = mI 6 := by
      rw [g2']
      split
      · exact nI_ne_mI (by omega) (by omega) (by omega)
      · exact ct
    have e : rdV D2 G2 j = enV D (dimV D (G.l j) w (dist k j)) := by
      unfold rdV
      rw [enV_ds hD, g1']
      simp [ct2]
    rw [e, c]
    by_cases c2 : nI j = b
    · rcases hb with rfl | rfl
      · exact absurd c2 (nI_ne_mI (by omega) (by omega) (by omega))
      · have c3 := (nI_eq (by omega) (by omega)).mp c2
        subst c3
        have e0 : dist j j = 0 := by unfold dist adiff; simp
        rw [e0, dimV_far (Or.inl rfl)]
        unfold rdV at c
        simp at c
        simp [c.2]
    · simp [c2, c]
  · simp [c]
def P_X7_pens (as : List Value) (S : SS) (E : Option Value → SS → Prop) : Prop := match as with
  | [.ref y, .int w, .int k, .int a] => ModAt S y ∧ DOK (mV S y 0) ∧ ∃ p kn wn an, OnD (mV S y 0) p ∧ kn < 120 ∧ k = nI kn ∧ wn < 5 ∧ w = nI wn ∧ an < 26 ∧ a = nI an ∧ ∀ T, OpS S T y (wriV (mV S y 0) p wn kn a) → E (some (.int (nI (lostV (mV S y 0) ((mV S y 0).g p) wn kn 120)))) T
  | _ => False
def Γ_X7_pens : List (MI × PT) := [(mi_X7_looks, P_X7_looks), (mi_X7_writes, P_X7_writes), (mi_X7_spoilt, P_X7_spoilt)]
theorem hΓ_X7_pens (l : Launch) (G : Gx) : ∀ q ∈ Γ_X7_pens, Ct l G q.1 q.2 := List.forall_mem_cons.mpr ⟨ct_X7_looks l G, List.forall_mem_cons.mpr ⟨ct_X7_writes l G, List.forall_mem_cons.mpr ⟨ct_X7_spoilt l G, fun _ h => absurd h List.not_mem_nil⟩⟩⟩
set_option maxHeartbeats 1000000 in
theorem ct_X7_pens (l : Launch) (G : Gx) : Ct l G mi_X7_pens P_X7_pens := by
  refine Ct.ofV mo_X7_pens (fun as S E h => ?_)
  unfold P_X7_pens at h
  split at h
  case h_2 => exact h.elim
  rename_i y w k a
  refine ⟨by simp [entL, mL_X7_pens], ?_⟩
  refine wpN_ok (Γ := Γ_X7_pens) (hΓ_X7_pens l G) so_X7_pens 5 _ _ _ _ _ _ ?_
  simp only [mL_X7_pens, mT_X7_pens, rc_X7_pens, rs_X7_pens, Γ_X7_pens, sg_X7_pens_0, wn_X7_pens_0, wp_c, ex_c, x_nop, x_goto, x_table, x_iinc, x_ldc, x_ldc2, x_iaload, x_faload, x_baload, x_caload, x_iastore, x_fastore, x_bastore, x_castore, x_aastore, x_alen, x_gets, x_new, x_newa, x_anew, x_invs, x_invi, x_invv, x_ret, x_iret, x_lret, x_fret, x_aret, x_lconst, x_fconst0, x_fconst1, x_fconst2, x_dconst0, x_dconst1, x_null, x_iadd, x_isub, x_imul, x_iand, x_ior, x_idiv, x_irem, x_ineg, x_ishl, x_ishr, x_land, x_lor, x_lushr, x_lshl, x_lcmp, x_i2l, x_l2i, x_i2c, x_i2f, x_f2d, x_d2i, x_d2l, x_fadd, x_fsub, x_fmul, x_fdiv, x_dadd, x_dsub, x_dmul, x_ddiv, x_fcmp, x_dcmp, x_dupI, x_dupR, x_dup2, x_popI, x_popR, ldP_I, ldP_L, ldP_F, ldP_D, ldP_R, ldP_N, x_iload, x_iload_n, x_lload, x_lload_n, x_fload, x_fload_n, x_dload, x_dload_n, x_aload, x_aload_n, x_istore, x_istore_n, x_lstore, x_lstore_n, x_fstore, x_fstore_n, x_dstore, x_dstore_n, x_astore, x_astore_n, x_astoreN, x_astore_nN, x_icmp_eq, x_icmp_ne, x_icmp_lt, x_icmp_ge, x_icmp_gt, x_icmp_le, x_if_eq, x_if_ne, x_if_lt, x_if_ge, x_if_gt, x_if_le, x_ifnull, x_ifnullR, x_ifnn, x_ifnnR, x_aaload2, x_cpI, x_cpF, x_bF, x_bD, x_oI, xk_bipush_120, xk_iconst_0, xk_bipush_m6, xk_iconst_1, xk_bipush_80, xk_bipush_48, xk_bipush_57, xk_bipush_10, xk_bipush_64, xk_bipush_46, xk_bipush_97, xk_bipush_122, xk_bipush_119, xk_bipush_61, xk_bipush_59, xk_bipush_8, xk_bipush_33, xk_bipush_126, xk_bipush_m2, xk_bipush_m4, xk_iconst_4, xk_bipush_6, xk_iconst_2, xk_bipush_40, xk_iconst_3, xk_iconst_5, xk_iconst_m1, xk_bipush_m5, xk_bipush_12, xk_bipush_100, xk_bipush_26, xk_sipush_9999, xk_sipush_500, xk_bipush_7, xk_bipush_m126, xk_bipush_127, xk_bipush_23, xk_sipush_m1022, xk_sipush_1023, xk_bipush_52, xk_bipush_m3, xk_sipush_9830, xk_sipush_4800, xk_sipush_983, xk_sipush_480, xk_bipush_13, xk_bipush_18, xk_bipush_9, xk_bipush_32, xg_0_0, xp_0_0, xg_0_1, xp_0_1, xg_0_2, xp_0_2, xg_0_3, xp_0_3, xg_0_4, xp_0_4, xg_0_5, xp_0_5, xg_0_6, xp_0_6, xg_0_7, xp_0_7, xg_0_8, xp_0_8, xg_1_0, xp_1_0, xg_1_1, xp_1_1, xg_1_2, xp_1_2, xg_1_3, xp_1_3, xg_2_0, xp_2_0, xg_2_1, xp_2_1, xg_2_2, xp_2_2, xg_3_0, xp_3_0, xg_3_1, xp_3_1, xg_3_2, xp_3_2, xg_3_3, xp_3_3, xg_3_4, xp_3_4, xg_3_5, xp_3_5, xg_3_6, xp_3_6, xg_3_7, xp_3_7, xg_3_8, xp_3_8, xg_3_9, xp_3_9, xg_3_10, xp_3_10, xg_3_11, xp_3_11, xg_4_0, xp_4_0, xg_4_1, xp_4_1, xg_5_0, xp_5_0, xg_5_1, xp_5_1, xg_6_0, xp_6_0, xg_6_1, xp_6_1, xg_6_2, xp_6_2, xg_6_3, xp_6_3, xg_6_4, xp_6_4, xg_6_5, xp_6_5, xg_7_0, xp_7_0, xg_7_1, xp_7_1, xg_7_2, xp_7_2, xg_7_3, xp_7_3, xg_7_4, xp_7_4, xg_7_5, xp_7_5, xg_7_6, xp_7_6, xg_7_7, xp_7_7, xg_7_8, xp_7_8, xg_7_9, xp_7_9, xg_7_10, xp_7_10, xg_7_11, xp_7_11, xg_7_12, xp_7_12, xg_7_13, xp_7_13, fv0, fv1, fv2, fv3, kI_0, kI_1, stL, wipeL, entLn, entL, List.getElem?_cons_zero, List.getElem?_cons_succ, List.getElem?_nil, List.set_cons_zero, List.set_cons_succ, List.set_nil, List.length_cons, List.length_nil, List.cons_append, List.nil_append, List.replicate, Nat.reduceAdd, Nat.reduceLeDiff, Nat.reduceSub, true_and, and_true, x_callS, x_callSN, x_callI, x_callIN, x_callV0, x_callV1, x_callV2, x_callV3, x_callV4, x_callV5, x_callV6, x_callV7, callP, List.take_succ_cons, List.take_zero, List.take_nil, List.drop_succ_cons, List.drop_zero, List.drop_nil, List.getLast?_singleton, List.getLast?_cons_cons, Option.some.injEq, Value.ref.injEq, exists_eq_left, exists_eq_left', Nat.zero_le, Nat.add_zero, ldcV_f, ldcV_fn, ldcV_l, ldcV_d, Nat.reduceMul, Nat.le_refl, List.reverse_cons, List.reverse_nil, Option.toList, List.map_cons, List.map_nil, List.sum_cons, List.sum_nil, Value.category, tblW_n, tblW_c, Int.cast_ofNat_Int, Int.reduceAdd, Int.reduceToNat, ofI_n, rc_X7_looks, rs_X7_looks, P_X7_looks, rc_X7_writes, rs_X7_writes, P_X7_writes, rc_X7_spoilt, rs_X7_spoilt, P_X7_spoilt]
  obtain ⟨hM, hD, p, kn, wn, an, hp, hk, rfl, hw, rfl, ha, rfl, h⟩ := h
  have edk : sI S (y + 1) 6 = nI p := hp.1
  have hp4 := hp.2.1
  have hG := hD.2.2.2.2 p hp.2.2 hp4
  have hP : PreM S y 0 p := ⟨hM, by omega, hp4, hD.1, hG⟩
  have hM0 := hM
  have hM1 : ModAt (lkS S y p 120) y := hM0.mk' rfl rfl
  have hM2 : ModAt (wrS (lkS S y p 120) y 0 p kn wn an) y := hM0.mk' rfl rfl
  have hP1 : PreM (lkS S y p 120) y 0 p := hP.lk
  have edk1 : sI (lkS S y p 120) (y + 1) 6 = nI p := by
    unfold lkS
    rw [sI_stIA, if_neg (by omega), edk]
  have hg := iK_ge 0 p kn
  have rW : ∀ j, j < 23 → sI (wrS (lkS S y p 120) y 0 p kn wn an) (y + 1) j = sI S (y + 1) j := fun j hj => by
    unfold wrS
    rw [mV_st0, mV_st0]
    unfold upV
    rw [if_neg (by omega), if_neg (by omega), liS_i]
    unfold lkS
    rw [sI_stIA, if_neg (by omega)]
  have edk2 : sI (wrS (lkS S y p 120) y 0 p kn wn an) (y + 1) 6 = nI p := by rw [rW 6 (by omega), edk]
  have gW := ge_wr (S := lkS S y p 120) (y := y) (q := 0) (p := p) hk hw ha
  rw [mV_lk, mG_lk] at gW
  have dW : DS (mV (wrS (lkS S y p 120) y 0 p kn wn an) y 0) (mV S y 0) := ⟨fun i hi => rW _ (by omega), fun i hi => rW _ (by omega)⟩
  have gWp := gW p
  rw [if_pos rfl] at gWp
  have hP2 : PreM (wrS (lkS S y p 120) y 0 p kn wn an) y 0 p := ⟨hM2, by omega, hp4, hD.1.ds dW.symm, (GOK_mark hD.1 hG hw ha).congr gWp.symm⟩
  have cW : ∀ j, j < 120 → sI (wrS (lkS S y p 120) y 0 p kn wn an) (y + 4) j = bI (rdV (mV S y 0) (mG S y 0 p) j = true) := fun j hj => by
    unfold wrS
    rw [sI_row, if_neg (by omega), sI_row, if_neg (by omega), liS_i]
    unfold lkS
    rw [sI_stIA, if_pos rfl, if_pos hj]
  obtain ⟨m0, m1, m2, m3, m4, m5, m6, m7, m8, m9, m10⟩ := hM
  obtain ⟨n0, n1, n2, n3, n4, n5, n6, n7, n8, n9, n10⟩ := hM1
  obtain ⟨o0, o1, o2, o3, o4, o5, o6, o7, o8, o9, o10⟩ := hM2
  simp only [m0, m1, m2, m3, m4, m5, m6, m7, m8, m9, m10, n0, n1, sK_stI, sR_stI, sK_stF, sR_stF, sK_stIA, sR_stIA, sK_stFA, sR_stFA, sI_stI, sI_stF, sI_stIA, sI_stFA, sF_stI, sF_stF, sF_stIA, sF_stFA, Nat.left_eq_add, Nat.add_eq_left, Nat.add_left_cancel_iff, Nat.reduceEqDiff, Nat.reduceEqDiff, Nat.succ_ne_self, false_and, and_false, if_false, if_true, nI_succ_sub, Option.some.injEq, Prod.mk.injEq, exists_eq_left', true_and, and_true, retI, retF, retV, retZ1, retZ0, retL, retA, retN, Nat.reduceAdd, Nat.reduceMul, Nat.reduceLT]
  simp (disch := omega) only [nlt0, nge0, neq0, ngt0, nle0, nI_ltI, nI_leI, nI_eq, nI_cl, in_nI, false_implies, true_implies, not_false_eq_true, not_true_eq_false, and_true, true_and, nI_add, pk_mul, implies_true, not_lt0, edk]
  simp only [n0, n1, n6, Option.some.injEq, Prod.mk.injEq, exists_eq_left', true_and]
  simp (disch := omega) only [nlt0, nge0, neq0, ngt0, nle0, nI_ltI, nI_leI, nI_eq, nI_cl, in_nI, false_implies, true_implies, not_false_eq_true, not_true_eq_false, and_true, true_and, nI_add, pk_mul, implies_true, not_lt0, edk1]
  simp only [o0, o1, o6, Option.some.injEq, Prod.mk.injEq, exists_eq_left', true_and]
  simp (disch := omega) only [nlt0, nge0, neq0, ngt0, nle0, nI_ltI, nI_leI, nI_eq, nI_cl, in_nI, false_implies, true_implies, not_false_eq_true, not_true_eq_false, and_true, true_and, nI_add, pk_mul, implies_true, not_lt0, edk2]
  have el := spV_lost (D := mV S y 0) (G := mG S y 0 p) (b := mI 6) (k := kn) (w := wn) (a := an) dW gWp hw ha (Or.inl rfl) hk
  refine ⟨by omega, hp4, hP, by omega, by omega, hp4, hk, hw, ha, hP1, by omega, by omega, hp4, hP2, fun j => rdV (mV S y 0) (mG S y 0 p) j, cW, by omega, by omega, by omega, by omega, ?_⟩
  rw [if_neg (by omega), el, rW (13 + wn) (by omega), rW (18 + wn) (by omega)]
  refine h _ (OpS.of ?_ ?_ ?_ (fun j a b => ?_) (fun j a b => ?_))
  · exact (((((((Fr.refl S (y + 1) (y + 5)).stIA _ _ (by omega) (by omega)).stFA _ _ (by omega) (by omega)).stI _ _ _ (by omega) (by omega)).stI _ _ _ (by omega) (by omega)).stI _ _ _ (by omega) (by omega)).stI _ _ _ (by omega) (by omega))
  · rw [sI_row, if_neg (by omega), sI_row, if_neg (by omega)]
    unfold wrS
    rw [sI_row, if_neg (by omega), sI_row, if_neg (by omega), liS_i]
    unfold lkS
    rw [sI_stIA, if_neg (by omega)]
  · have dG : DE (mV (wrS (lkS S y p 120) y 0 p kn wn an) y 0) (putG (mV S y 0) p (markV (mV S y 0) ((mV S y 0).g p) wn kn (nI an))) := de_g rW fun p' hp' _ => by
      have g := gW p'
      rw [mG_lk] at g
      exact g
    exact (mV_sp hw).trans (DE.hsp ((mV_wr hw).trans (DE.hwr dG wn _)) wn _)
  · rw [mV_st0, mV_st0]
    unfold upV
    rw [if_neg (by omega), if_neg (by omega)]
    unfold wrS
    rw [mV_st0, mV_st0]
    unfold upV
    rw [if_neg (by unfold iK; omega), if_neg (by unfold iK; omega), liS_i]
    unfold lkS
    rw [sI_stIA, if_neg (by omega)]
  · show sF (liS (lkS S y p 120) y 0 p 120 _) (y + 2) j = _
    unfold liS
    rw [sF_stFA, if_pos rfl]
    exact rng_out (by unfold lK; omega)

def P_X7_goesOn (as : List Value) (S : SS) (E : Option Value → SS → Prop) : Prop := match as with
  | [.ref y, .int m] => ModAt S y ∧ DOK (mV S y 0) ∧ ∃ k h, k ≤ 48 ∧ m = nI k ∧ (mV S y 0).hr = nI h ∧ h ≤ 9999 ∧ ∀ T, OpS S T y (sf_g (sf_hr (mV S y 0) (nI (h + k))) (pasG (mV S y 0) k 4)) → E (some (.int (nI (h + k)))) T
  | _ => False
def Γ_X7_goesOn : List (MI × PT) := [(mi_X7_clears, P_X7_clears)]
theorem hΓ_X7_goesOn (l : Launch) (G : Gx) : ∀ q ∈ Γ_X7_goesOn, Ct l G q.1 q.2 := List.forall_mem_cons.mpr ⟨ct_X7_clears l G, fun _ h => absurd h List.not_mem_nil⟩
/-- after h hours, and one more on the plates below p -/
def goI (S T : SS) (y h p : Nat) : Prop := Fr S T (y + 2) (y + 3) ∧ (∀ j, 480 ≤ j → sF T (y + 2) j = sF S (y + 2) j) ∧ sI T (y + 1) = sI S (y + 1) ∧ ∀ r, r < 4 → nI r < (mV S y 0).pl → GE (mG T y 0 r) (if (mV S y 0).dk = nI r then mG S y 0 r else (sf_l (mG S y 0 r) (fun j => itV (mV S y 0) ((mG S y 0 r).l j) (if r < p then h + 1 else h))))
theorem goI_pre {S T : SS} {y h p r : Nat} (hT : goI S T y h p) (hM : ModAt S y) (hD : DOK (mV S y 0)) (hr : r < 4) (hrp : nI r < (mV S y 0).pl) : PreM T y 0 r ∧ DS (mV T y 0) (mV S y 0) := by
  obtain ⟨hF, h1, h2, h3⟩ := hT
  have dS : DS (mV T y 0) (mV S y 0) := ⟨fun i hi => congrFun h2 _, fun i hi => congrFun h2 _⟩
  refine ⟨⟨hF.mod hM, by omega, hr, hD.1.ds dS.symm, GOK.congr (h3 r hr hrp).symm ?_⟩, dS⟩
  have hG := hD.2.2.2.2 r hrp hr
  split
  · exact hG
  · exact fun j hj => ⟨okL_itV hD.1 (hG j hj).1 _, (hG j hj).2⟩
theorem goI_step {S T : SS} {y h p : Nat} (hT : goI S T y h p) (hp : p < 4) (hpp : nI p < (mV S y 0).pl) (hd : ¬ (mV S y 0).dk = nI p) : goI S (liS T y 0 p 120 (fun _ x => clV (mV T y 0) x)) y h (p + 1) := by
  obtain ⟨hF, h1, h2, h3⟩ := hT
  have dS : DS (mV T y 0) (mV S y 0) := ⟨fun i hi => congrFun h2 _, fun i hi => congrFun h2 _⟩
  refine ⟨hF.trans ((Fr.refl _ _ _).stFA _ _ (by omega) (by omega)), fun j hj => ?_, h2, fun r hr hrp => ?_⟩
  · unfold liS
    rw [sF_stFA, if_pos rfl]
    exact (rng_out (by unfold lK; omega)).trans (h1 j hj)
  · refine (ge_l r).trans ?_
    have g := h3 r hr hrp
    by_cases c : r = p
    · subst c
      rw [if_pos rfl, if_neg hd, if_pos (by omega)]
      rw [if_neg hd, if_neg (by omega)] at g
      intro j hj
      obtain ⟨g1, g2, g3, g4⟩ := g j hj
      refine ⟨?_, g2, g3, g4⟩
      show clV (mV T y 0) ((mG T y 0 r).l j) = itV (mV S y 0) ((mG S y 0 r).l j) (h + 1)
      rw [itV_s, clV_ds dS, g1]
      rfl
    · rw [if_neg c]
      have e : (if r < p + 1 then h + 1 else h) = if r < p then h + 1 else h := by
        by_cases c2 : r < p
        · rw [if_pos c2, if_pos (by omega)]
        · rw [if_neg c2, if_neg (by omega)]
      rw [e]
      exact g
theorem goI_skip {S T : SS} {y h p : Nat} (hT : goI S T y h p) (hd : (mV S y 0).dk = nI p) : goI S T y h (p + 1) := by
  obtain ⟨hF, h1, h2, h3⟩ := hT
  refine ⟨hF, h1, h2, fun r hr hrp => ?_⟩
  have g := h3 r hr hrp
  by_cases c : r = p
  · subst c
    rw [if_pos hd] at g ⊢
    exact g
  · have e : (if r < p + 1 then h + 1 else h) = if r < p then h + 1 else h := by
      by_cases c2 : r < p
      · rw [if_pos c2, if_pos (by omega)]
      · rw [if_neg c2, if_neg (by omega)]
    rw [e]
    exact g
theorem goI_turn {S T : SS} {y h n : Nat} (hT : goI S T y h n) (hn : n ≤ 4) (en : (mV S y 0).pl = nI n) : goI S T y (h + 1) 0 := by
  obtain ⟨hF, h1, h2, h3⟩ := hT
  refine ⟨hF, h1, h2, fun r hr hrp => ?_⟩
  have g := h3 r hr hrp
  rw [en, nI_ltI (by omega) (by omega)] at hrp
  rw [if_pos hrp] at g
  rw [if_neg (show ¬ r < 0 by omega)]
  exact g
set_option maxHeartbeats 1000000 in
theorem lp2_X7_goesOn (l : Launch) (G : Gx) {S : SS} {y k h n : Nat} {E : Option Value → SS → Prop} (hM : ModAt S y) (hD : DOK (mV S y 0)) (hn : n ≤ 4) (en : (mV S y 0).pl = nI n) (hk : k ≤ 48) (hh : h < k) (kk : ∀ T, goI S T y (h + 1) 0 → ∀ x3, V l G mi_X7_goesOn E 2 [some (.ref y), some (.int (nI k)), some (.int (nI (h + 1))), x3] [] T 0 0) :
    ∀ p, p ≤ n → ∀ T, goI S T y h p → V l G mi_X7_goesOn E 9 [some (.ref y), some (.int (nI k)), some (.int (nI h)), some (.int (nI p))] [] T 0 0 := by
  refine loopUp n fun p hp ih T hT => ?_
  refine (V.segN (Γ := Γ_X7_goesOn) (hΓ_X7_goesOn l G) so_X7_goesOn 5 (sg := sg_X7_goesOn_9) so_X7_goesOn_9 ?_ : V l G mi_X7_goesOn _ (segPc sg_X7_goesOn_9) _ _ _ _ _)
  simp only [mL_X7_goesOn, mT_X7_goesOn, rc_X7_goesOn, rs_X7_goesOn, Γ_X7_goesOn, sg_X7_goesOn_0, sg_X7_goesOn_2, sg_X7_goesOn_9, sg_X7_goesOn_36, sg_X7_goesOn_42, sg_X7_goesOn_48, wn_X7_goesOn_0, wn_X7_goesOn_2, wn_X7_goesOn_9, wn_X7_goesOn_36, wn_X7_goesOn_42, wn_X7_goesOn_48, wp_c, ex_c, x_nop, x_goto, x_table, x_iinc, x_ldc, x_ldc2, x_iaload, x_faload, x_baload, x_caload, x_iastore, x_fastore, x_bastore, x_castore, x_aastore, x_alen, x_gets, x_new, x_newa, x_anew, x_invs, x_invi, x_invv, x_ret, x_iret, x_lret, x_fret, x_aret, x_lconst, x_fconst0, x_fconst1, x_fconst2, x_dconst0, x_dconst1, x_null, x_iadd, x_isub, x_imul, x_iand, x_ior, x_idiv, x_irem, x_ineg, x_ishl, x_ishr, x_land, x_lor, x_lushr, x_lshl, x_lcmp, x_i2l, x_l2i, x_i2c, x_i2f, x_f2d, x_d2i, x_d2l, x_fadd, x_fsub, x_fmul, x_fdiv, x_dadd, x_dsub, x_dmul, x_ddiv, x_fcmp, x_dcmp, x_dupI, x_dupR, x_dup2, x_popI, x_popR, ldP_I, ldP_L, ldP_F, ldP_D, ldP_R, ldP_N, x_iload, x_iload_n, x_lload, x_lload_n, x_fload, x_fload_n, x_dload, x_dload_n, x_aload, x_aload_n, x_istore, x_istore_n, x_lstore, x_lstore_n, x_fstore, x_fstore_n, x_dstore, x_dstore_n, x_astore, x_astore_n, x_astoreN, x_astore_nN, x_icmp_eq, x_icmp_ne, x_icmp_lt, x_icmp_ge, x_icmp_gt, x_icmp_le, x_if_eq, x_if_ne, x_if_lt, x_if_ge, x_if_gt, x_if_le, x_ifnull, x_ifnullR, x_ifnn, x_ifnnR, x_aaload2, x_cpI, x_cpF, x_bF, x_bD, x_oI, xk_bipush_120, xk_iconst_0, xk_bipush_m6, xk_iconst_1, xk_bipush_80, xk_bipush_48, xk_bipush_57, xk_bipush_10, xk_bipush_64, xk_bipush_46, xk_bipush_97, xk_bipush_122, xk_bipush_119, xk_bipush_61, xk_bipush_59, xk_bipush_8, xk_bipush_33, xk_bipush_126, xk_bipush_m2, xk_bipush_m4, xk_iconst_4, xk_bipush_6, xk_iconst_2, xk_bipush_40, xk_iconst_3, xk_iconst_5, xk_iconst_m1, xk_bipush_m5, xk_bipush_12, xk_bipush_100, xk_bipush_26, xk_sipush_9999, xk_sipush_500, xk_bipush_7, xk_bipush_m126, xk_bipush_127, xk_bipush_23, xk_sipush_m1022, xk_sipush_1023, xk_bipush_52, xk_bipush_m3, xk_sipush_9830, xk_sipush_4800, xk_sipush_983, xk_sipush_480, xk_bipush_13, xk_bipush_18, xk_bipush_9, xk_bipush_32, xg_0_0, xp_0_0, xg_0_1, xp_0_1, xg_0_2, xp_0_2, xg_0_3, xp_0_3, xg_0_4, xp_0_4, xg_0_5, xp_0_5, xg_0_6, xp_0_6, xg_0_7, xp_0_7, xg_0_8, xp_0_8, xg_1_0, xp_1_0, xg_1_1, xp_1_1, xg_1_2, xp_1_2, xg_1_3, xp_1_3, xg_2_0, xp_2_0, xg_2_1, xp_2_1, xg_2_2, xp_2_2, xg_3_0, xp_3_0, xg_3_1, xp_3_1, xg_3_2, xp_3_2, xg_3_3, xp_3_3, xg_3_4, xp_3_4, xg_3_5, xp_3_5, xg_3_6, xp_3_6, xg_3_7, xp_3_7, xg_3_8, xp_3_8, xg_3_9, xp_3_9, xg_3_10, xp_3_10, xg_3_11, xp_3_11, xg_4_0, xp_4_0, xg_4_1, xp_4_1, xg_5_0, xp_5_0, xg_5_1, xp_5_1, xg_6_0, xp_6_0, xg_6_1, xp_6_1, xg_6_2, xp_6_2, xg_6_3, xp_6_3, xg_6_4, xp_6_4, xg_6_5, xp_6_5, xg_7_0, xp_7_0, xg_7_1, xp_7_1, xg_7_2, xp_7_2, xg_7_3, xp_7_3, xg_7_4, xp_7_4, xg_7_5, xp_7_5, xg_7_6, xp_7_6, xg_7_7, xp_7_7, xg_7_8, xp_7_8, xg_7_9, xp_7_9, xg_7_10, xp_7_10, xg_7_11, xp_7_11, xg_7_12, xp_7_12, xg_7_13, xp_7_13, fv0, fv1, fv2, fv3, kI_0, kI_1, stL, wipeL, entLn, entL, List.getElem?_cons_zero, List.getElem?_cons_succ, List.getElem?_nil, List.set_cons_zero, List.set_cons_succ, List.set_nil, List.length_cons, List.length_nil, List.cons_append, List.nil_append, List.replicate, Nat.reduceAdd, Nat.reduceLeDiff, Nat.reduceSub, true_and, and_true, x_callS, x_callSN, x_callI, x_callIN, x_callV0, x_callV1, x_callV2, x_callV3, x_callV4, x_callV5, x_callV6, x_callV7, callP, List.take_succ_cons, List.take_zero, List.take_nil, List.drop_succ_cons, List.drop_zero, List.drop_nil, List.getLast?_singleton, List.getLast?_cons_cons, Option.some.injEq, Value.ref.injEq, exists_eq_left, exists_eq_left', Nat.zero_le, Nat.add_zero, ldcV_f, ldcV_fn, ldcV_l, ldcV_d, Nat.reduceMul, Nat.le_refl, List.reverse_cons, List.reverse_nil, Option.toList, List.map_cons, List.map_nil, List.sum_cons, List.sum_nil, Value.category, tblW_n, tblW_c, Int.cast_ofNat_Int, Int.reduceAdd, Int.reduceToNat, ofI_n, rc_X7_clears, rs_X7_clears, P_X7_clears]
  have hT0 := hT
  obtain ⟨hF, h1, h2, h3⟩ := hT
  obtain ⟨m0, m1, m2, m3, m4, m5, m6, m7, m8, m9, m10⟩ := hF.mod hM
  have e5 : sI T (y + 1) 5 = nI n := by rw [h2]; exact en
  simp only [m0, m1, m2, m3, m4, m5, m6, m7, m8, m9, m10, sK_stI, sR_stI, sK_stF, sR_stF, sK_stIA, sR_stIA, sK_stFA, sR_stFA, sI_stI, sI_stF, sI_stIA, sI_stFA, sF_stI, sF_stF, sF_stIA, sF_stFA, Nat.left_eq_add, Nat.add_eq_left, Nat.add_left_cancel_iff, Nat.reduceEqDiff, Nat.reduceEqDiff, Nat.succ_ne_self, false_and, and_false, if_false, if_true, nI_succ_sub, Option.some.injEq, Prod.mk.injEq, exists_eq_left', true_and, and_true, retI, retF, retV, retZ1, retZ0, retL, retA, retN, Nat.reduceAdd, Nat.reduceMul, Nat.reduceLT]
  simp (disch := omega) only [nlt0, nge0, neq0, ngt0, nle0, nI_ltI, nI_leI, nI_eq, nI_cl, in_nI, false_implies, true_implies, not_false_eq_true, not_true_eq_false, and_true, true_and, nI_add, pk_mul, implies_true, not_lt0, e5]
  have e6 : sI T (y + 1) 6 = (mV S y 0).dk := by rw [h2]; rfl
  rw [e6]
  refine ⟨by omega, fun c => ?_, fun c => ⟨by omega, fun c2 => ih (by omega) T (goI_skip hT0 c2.symm), fun c2 => ?_⟩⟩
  · have e : p = n := by omega
    subst e
    exact kk T (goI_turn hT0 hn en) _
  · have hpp : nI p < (mV S y 0).pl := by rw [en]; exact nI_lt (by omega) (by omega)
    obtain ⟨hP, -⟩ := goI_pre hT0 hM hD (show p < 4 by omega) hpp
    exact ⟨by omega, by omega, hP, ih (by omega) _ (goI_step hT0 (by omega) hpp (fun a => c2 a.symm))⟩
set_option maxHeartbeats 1000000 in
theorem lp_X7_goesOn (l : Launch) (G : Gx) {S : SS} {y k h0 n : Nat} {E : Option Value → SS → Prop} (hM : ModAt S y) (hD : DOK (mV S y 0)) (hn : n ≤ 4) (en : (mV S y 0).pl = nI n) (hk : k ≤ 48) (eh : (mV S y 0).hr = nI h0) (hh0 : h0 ≤ 9999) (hE : ∀ T, OpS S T y (sf_g (sf_hr (mV S y 0) (nI (h0 + k))) (pasG (mV S y 0) k 4)) → E (some (.int (nI (h0 + k)))) T) :
    ∀ h, h ≤ k → ∀ T, goI S T y h 0 → ∀ x3, V l G mi_X7_goesOn E 2 [some (.ref y), some (.int (nI k)), some (.int (nI h)), x3] [] T 0 0 := by
  refine loopUp k fun h hh ih T hT x3 => ?_
  refine (V.segN (Γ := Γ_X7_goesOn) (hΓ_X7_goesOn l G) so_X7_goesOn 5 (sg := sg_X7_goesOn_2) so_X7_goesOn_2 ?_ : V l G mi_X7_goesOn _ (segPc sg_X7_goesOn_2) _ _ _ _ _)
  simp only [mL_X7_goesOn, mT_X7_goesOn, rc_X7_goesOn, rs_X7_goesOn, Γ_X7_goesOn, sg_X7_goesOn_0, sg_X7_goesOn_2, sg_X7_goesOn_9, sg_X7_goesOn_36, sg_X7_goesOn_42, sg_X7_goesOn_48, wn_X7_goesOn_0, wn_X7_goesOn_2, wn_X7_goesOn_9, wn_X7_goesOn_36, wn_X7_goesOn_42, wn_X7_goesOn_48, wp_c, ex_c, x_nop, x_goto, x_table, x_iinc, x_ldc, x_ldc2, x_iaload, x_faload, x_baload, x_caload, x_iastore, x_fastore, x_bastore, x_castore, x_aastore, x_alen, x_gets, x_new, x_newa, x_anew, x_invs, x_invi, x_invv, x_ret, x_iret, x_lret, x_fret, x_aret, x_lconst, x_fconst0, x_fconst1, x_fconst2, x_dconst0, x_dconst1, x_null, x_iadd, x_isub, x_imul, x_iand, x_ior, x_idiv, x_irem, x_ineg, x_ishl, x_ishr, x_land, x_lor, x_lushr, x_lshl, x_lcmp, x_i2l, x_l2i, x_i2c, x_i2f, x_f2d, x_d2i, x_d2l, x_fadd, x_fsub, x_fmul, x_fdiv, x_dadd, x_dsub, x_dmul, x_ddiv, x_fcmp, x_dcmp, x_dupI, x_dupR, x_dup2, x_popI, x_popR, ldP_I, ldP_L, ldP_F, ldP_D, ldP_R, ldP_N, x_iload, x_iload_n, x_lload, x_lload_n, x_fload, x_fload_n, x_dload, x_dload_n, x_aload, x_aload_n, x_istore, x_istore_n, x_lstore, x_lstore_n, x_fstore, x_fstore_n, x_dstore, x_dstore_n, x_astore, x_astore_n, x_astoreN, x_astore_nN, x_icmp_eq, x_icmp_ne, x_icmp_lt, x_icmp_ge, x_icmp_gt, x_icmp_le, x_if_eq, x_if_ne, x_if_lt, x_if_ge, x_if_gt, x_if_le, x_ifnull, x_ifnullR, x_ifnn, x_ifnnR, x_aaload2, x_cpI, x_cpF, x_bF, x_bD, x_oI, xk_bipush_120, xk_iconst_0, xk_bipush_m6, xk_iconst_1, xk_bipush_80, xk_bipush_48, xk_bipush_57, xk_bipush_10, xk_bipush_64, xk_bipush_46, xk_bipush_97, xk_bipush_122, xk_bipush_119, xk_bipush_61, xk_bipush_59, xk_bipush_8, xk_bipush_33, xk_bipush_126, xk_bipush_m2, xk_bipush_m4, xk_iconst_4, xk_bipush_6, xk_iconst_2, xk_bipush_40, xk_iconst_3, xk_iconst_5, xk_iconst_m1, xk_bipush_m5, xk_bipush_12, xk_bipush_100, xk_bipush_26, xk_sipush_9999, xk_sipush_500, xk_bipush_7, xk_bipush_m126, xk_bipush_127, xk_bipush_23, xk_sipush_m1022, xk_sipush_1023, xk_bipush_52, xk_bipush_m3, xk_sipush_9830, xk_sipush_4800, xk_sipush_983, xk_sipush_480, xk_bipush_13, xk_bipush_18, xk_bipush_9, xk_bipush_32, xg_0_0, xp_0_0, xg_0_1, xp_0_1, xg_0_2, xp_0_2, xg_0_3, xp_0_3, xg_0_4, xp_0_4, xg_0_5, xp_0_5, xg_0_6, xp_0_6, xg_0_7, xp_0_7, xg_0_8, xp_0_8, xg_1_0, xp_1_0, xg_1_1, xp_1_1, xg_1_2, xp_1_2, xg_1_3, xp_1_3, xg_2_0, xp_2_0, xg_2_1, xp_2_1, xg_2_2, xp_2_2, xg_3_0, xp_3_0, xg_3_1, xp_3_1, xg_3_2, xp_3_2, xg_3_3, xp_3_3, xg_3_4, xp_3_4, xg_3_5, xp_3_5, xg_3_6, xp_3_6, xg_3_7, xp_3_7, xg_3_8, xp_3_8, xg_3_9, xp_3_9, xg_3_10, xp_3_10, xg_3_11, xp_3_11, xg_4_0, xp_4_0, xg_4_1, xp_4_1, xg_5_0, xp_5_0, xg_5_1, xp_5_1, xg_6_0, xp_6_0, xg_6_1, xp_6_1, xg_6_2, xp_6_2, xg_6_3, xp_6_3, xg_6_4, xp_6_4, xg_6_5, xp_6_5, xg_7_0, xp_7_0, xg_7_1, xp_7_1, xg_7_2, xp_7_2, xg_7_3, xp_7_3, xg_7_4, xp_7_4, xg_7_5, xp_7_5, xg_7_6, xp_7_6, xg_7_7, xp_7_7, xg_7_8, xp_7_8, xg_7_9, xp_7_9, xg_7_10, xp_7_10, xg_7_11, xp_7_11, xg_7_12, xp_7_12, xg_7_13, xp_7_13, fv0, fv1, fv2, fv3, kI_0, kI_1, stL, wipeL, entLn, entL, List.getElem?_cons_zero, List.getElem?_cons_succ, List.getElem?_nil, List.set_cons_zero, List.set_cons_succ, List.set_nil, List.length_cons, List.length_nil, List.cons_append, List.nil_append, List.replicate, Nat.reduceAdd, Nat.reduceLeDiff, Nat.reduceSub, true_and, and_true, x_callS, x_callSN, x_callI, x_callIN, x_callV0, x_callV1, x_callV2, x_callV3, x_callV4, x_callV5, x_callV6, x_callV7, callP, List.take_succ_cons, List.take_zero, List.take_nil, List.drop_succ_cons, List.drop_zero, List.drop_nil, List.getLast?_singleton, List.getLast?_cons_cons, Option.some.injEq, Value.ref.injEq, exists_eq_left, exists_eq_left', Nat.zero_le, Nat.add_zero, ldcV_f, ldcV_fn, ldcV_l, ldcV_d, Nat.reduceMul, Nat.le_refl, List.reverse_cons, List.reverse_nil, Option.toList, List.map_cons, List.map_nil, List.sum_cons, List.sum_nil, Value.category, tblW_n, tblW_c, Int.cast_ofNat_Int, Int.reduceAdd, Int.reduceToNat, ofI_n, rc_X7_clears, rs_X7_clears, P_X7_clears]
  have hT0 := hT
  obtain ⟨hF, h1, h2, h3⟩ := hT
  obtain ⟨m0, m1, m2, m3, m4, m5, m6, m7, m8, m9, m10⟩ := hF.mod hM
  have e4 : sI T (y + 1) 4 = nI h0 := by rw [h2]; exact eh
  simp only [m0, m1, m2, m3, m4, m5, m6, m7, m8, m9, m10, sK_stI, sR_stI, sK_stF, sR_stF, sK_stIA, sR_stIA, sK_stFA, sR_stFA, sI_stI, sI_stF, sI_stIA, sI_stFA, sF_stI, sF_stF, sF_stIA, sF_stFA, Nat.left_eq_add, Nat.add_eq_left, Nat.add_left_cancel_iff, Nat.reduceEqDiff, Nat.reduceEqDiff, Nat.succ_ne_self, false_and, and_false, if_false, if_true, nI_succ_sub, Option.some.injEq, Prod.mk.injEq, exists_eq_left', true_and, and_true, retI, retF, retV, retZ1, retZ0, retL, retA, retN, Nat.reduceAdd, Nat.reduceMul, Nat.reduceLT]
  simp (disch := omega) only [nlt0, nge0, neq0, ngt0, nle0, nI_ltI, nI_leI, nI_eq, nI_cl, in_nI, false_implies, true_implies, not_false_eq_true, not_true_eq_false, and_true, true_and, nI_add, pk_mul, implies_true, not_lt0, e4]
  refine ⟨fun c => ⟨by omega, by omega, by omega, hE _ ?_⟩, fun c => lp2_X7_goesOn l G hM hD hn en hk (by omega) (fun T a x => ih (by omega) T a x) 0 (by omega) T hT0⟩
  have e : h = k := by omega
  subst e
  refine OpS.of ((hF.mono (by omega) (by omega)).trans ((Fr.refl _ _ _).stI _ _ _ (by omega) (by omega))) ?_ ?_ (fun j a b => ?_) (fun j a b => ?_)
  · rw [sI_row, if_neg (by omega), hF.i (by omega)]
  · have dT : DE (mV T y 0) (sf_g (mV S y 0) (pasG (mV S y 0) h 4)) := de_g (fun j _ => congrFun h2 j) fun r hr hrp => by
      refine (h3 r hr hrp).trans ?_
      show GE _ (pasG (mV S y 0) h 4 r)
      unfold pasG
      by_cases c : (mV S y 0).dk = nI r
      · rw [if_pos c, if_neg (show ¬ (r < 4 ∧ ¬ (mV S y 0).dk = nI r) from fun a => a.2 c)]
        exact GE.refl _
      · rw [if_neg c, if_neg (show ¬ r < 0 by omega), if_pos (show r < 4 ∧ ¬ (mV S y 0).dk = nI r from ⟨hr, c⟩)]
        exact GE.refl _
    exact (mV_up T y 4 _ (by omega)).trans (dT.hhr _)
  · rw [mV_st0]
    unfold upV
    rw [if_neg (by omega), h2]
  · exact h1 j a
set_option maxHeartbeats 1000000 in
theorem ct_X7_goesOn (l : Launch) (G : Gx) : Ct l G mi_X7_goesOn P_X7_goesOn := by
  refine Ct.ofV mo_X7_goesOn (fun as S E h => ?_)
  unfold P_X7_goesOn at h
  split at h
  case h_2 => exact h.elim
  rename_i y m
  refine ⟨by simp [entL, mL_X7_goesOn], ?_⟩
  refine wpN_ok (Γ := Γ_X7_goesOn) (hΓ_X7_goesOn l G) so_X7_goesOn 5 _ _ _ _ _ _ ?_
  simp only [mL_X7_goesOn, mT_X7_goesOn, rc_X7_goesOn, rs_X7_goesOn, Γ_X7_goesOn, sg_X7_goesOn_0, sg_X7_goesOn_2, sg_X7_goesOn_9, sg_X7_goesOn_36, sg_X7_goesOn_42, sg_X7_goesOn_48, wn_X7_goesOn_0, wn_X7_goesOn_2, wn_X7_goesOn_9, wn_X7_goesOn_36, wn_X7_goesOn_42, wn_X7_goesOn_48, wp_c, ex_c, x_nop, x_goto, x_table, x_iinc, x_ldc, x_ldc2, x_iaload, x_faload, x_baload, x_caload, x_iastore, x_fastore, x_bastore, x_castore, x_aastore, x_alen, x_gets, x_new, x_newa, x_anew, x_invs, x_invi, x_invv, x_ret, x_iret, x_lret, x_fret, x_aret, x_lconst, x_fconst0, x_fconst1, x_fconst2, x_dconst0, x_dconst1, x_null, x_iadd, x_isub, x_imul, x_iand, x_ior, x_idiv, x_irem, x_ineg, x_ishl, x_ishr, x_land, x_lor, x_lushr, x_lshl, x_lcmp, x_i2l, x_l2i, x_i2c, x_i2f, x_f2d, x_d2i, x_d2l, x_fadd, x_fsub, x_fmul, x_fdiv, x_dadd, x_dsub, x_dmul, x_ddiv, x_fcmp, x_dcmp, x_dupI, x_dupR, x_dup2, x_popI, x_popR, ldP_I, ldP_L, ldP_F, ldP_D, ldP_R, ldP_N, x_iload, x_iload_n, x_lload, x_lload_n, x_fload, x_fload_n, x_dload, x_dload_n, x_aload, x_aload_n, x_istore, x_istore_n, x_lstore, x_lstore_n, x_fstore, x_fstore_n, x_dstore, x_dstore_n, x_astore, x_astore_n, x_astoreN, x_astore_nN, x_icmp_eq, x_icmp_ne, x_icmp_lt, x_icmp_ge, x_icmp_gt, x_icmp_le, x_if_eq, x_if_ne, x_if_lt, x_if_ge, x_if_gt, x_if_le, x_ifnull, x_ifnullR, x_ifnn, x_ifnnR, x_aaload2, x_cpI, x_cpF, x_bF, x_bD, x_oI, xk_bipush_120, xk_iconst_0, xk_bipush_m6, xk_iconst_1, xk_bipush_80, xk_bipush_48, xk_bipush_57, xk_bipush_10, xk_bipush_64, xk_bipush_46, xk_bipush_97, xk_bipush_122, xk_bipush_119, xk_bipush_61, xk_bipush_59, xk_bipush_8, xk_bipush_33, xk_bipush_126, xk_bipush_m2, xk_bipush_m4, xk_iconst_4, xk_bipush_6, xk_iconst_2, xk_bipush_40, xk_iconst_3, xk_iconst_5, xk_iconst_m1, xk_bipush_m5, xk_bipush_12, xk_bipush_100, xk_bipush_26, xk_sipush_9999, xk_sipush_500, xk_bipush_7, xk_bipush_m126, xk_bipush_127, xk_bipush_23, xk_sipush_m1022, xk_sipush_1023, xk_bipush_52, xk_bipush_m3, xk_sipush_9830, xk_sipush_4800, xk_sipush_983, xk_sipush_480, xk_bipush_13, xk_bipush_18, xk_bipush_9, xk_bipush_32, xg_0_0, xp_0_0, xg_0_1, xp_0_1, xg_0_2, xp_0_2, xg_0_3, xp_0_3, xg_0_4, xp_0_4, xg_0_5, xp_0_5, xg_0_6, xp_0_6, xg_0_7, xp_0_7, xg_0_8, xp_0_8, xg_1_0, xp_1_0, xg_1_1, xp_1_1, xg_1_2, xp_1_2, xg_1_3, xp_1_3, xg_2_0, xp_2_0, xg_2_1, xp_2_1, xg_2_2, xp_2_2, xg_3_0, xp_3_0, xg_3_1, xp_3_1, xg_3_2, xp_3_2, xg_3_3, xp_3_3, xg_3_4, xp_3_4, xg_3_5, xp_3_5, xg_3_6, xp_3_6, xg_3_7, xp_3_7, xg_3_8, xp_3_8, xg_3_9, xp_3_9, xg_3_10, xp_3_10, xg_3_11, xp_3_11, xg_4_0, xp_4_0, xg_4_1, xp_4_1, xg_5_0, xp_5_0, xg_5_1, xp_5_1, xg_6_0, xp_6_0, xg_6_1, xp_6_1, xg_6_2, xp_6_2, xg_6_3, xp_6_3, xg_6_4, xp_6_4, xg_6_5, xp_6_5, xg_7_0, xp_7_0, xg_7_1, xp_7_1, xg_7_2, xp_7_2, xg_7_3, xp_7_3, xg_7_4, xp_7_4, xg_7_5, xp_7_5, xg_7_6, xp_7_6, xg_7_7, xp_7_7, xg_7_8, xp_7_8, xg_7_9, xp_7_9, xg_7_10, xp_7_10, xg_7_11, xp_7_11, xg_7_12, xp_7_12, xg_7_13, xp_7_13, fv0, fv1, fv2, fv3, kI_0, kI_1, stL, wipeL, entLn, entL, List.getElem?_cons_zero, List.getElem?_cons_succ, List.getElem?_nil, List.set_cons_zero, List.set_cons_succ, List.set_nil, List.length_cons, List.length_nil, List.cons_append, List.nil_append, List.replicate, Nat.reduceAdd, Nat.reduceLeDiff, Nat.reduceSub, true_and, and_true, x_callS, x_callSN, x_callI, x_callIN, x_callV0, x_callV1, x_callV2, x_callV3, x_callV4, x_callV5, x_callV6, x_callV7, callP, List.take_succ_cons, List.take_zero, List.take_nil, List.drop_succ_cons, List.drop_zero, List.drop_nil, List.getLast?_singleton, List.getLast?_cons_cons, Option.some.injEq, Value.ref.injEq, exists_eq_left, exists_eq_left', Nat.zero_le, Nat.add_zero, ldcV_f, ldcV_fn, ldcV_l, ldcV_d, Nat.reduceMul, Nat.le_refl, List.reverse_cons, List.reverse_nil, Option.toList, List.map_cons, List.map_nil, List.sum_cons, List.sum_nil, Value.category, tblW_n, tblW_c, Int.cast_ofNat_Int, Int.reduceAdd, Int.reduceToNat, ofI_n, rc_X7_clears, rs_X7_clears, P_X7_clears]
  obtain ⟨hM, hD, k, h0, hk, rfl, eh, hh0, h⟩ := h
  obtain ⟨n, hn, en⟩ := hD.pl
  refine lp_X7_goesOn l G hM hD hn en hk eh hh0 h 0 (by omega) S ⟨Fr.refl _ _ _, fun _ _ => rfl, rfl, fun r hr hrp => ?_⟩ none
  split
  · exact GE.refl _
  · exact fun j hj => ⟨rfl, rfl, rfl, rfl⟩
