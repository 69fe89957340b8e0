-- needs: 18.nums 19.proj 20.spec 21.shape 22.leaf 23.fl 23.view 24.loops 25.desk 26.near 27.quest 28.hours 29.write 29.xsame 30.trial 31.hist 32.pad 33.orders 34.read 35.text 36.own 38.ask
/-! orders carried out -/
/-- what an order does to a desk: K told, with the answer and the desk behind -/
def ObP (D : DV) (e : Ent) (K : Int32 → DV → Prop) : Prop :=
  (e.k = 110 → (nI 4 ≤ D.pl → K (mI 4) D) ∧ ∀ n, n < 4 → D.pl = nI n → ∀ N, GE N newV → K (nI n) (sf_dk (sf_pl (putG D n N) (nI (n + 1))) (nI n))) ∧
  (e.k = 111 → (¬ (0 ≤ nI e.a ∧ nI e.a < D.pl) → K (mI 1) D) ∧ (0 ≤ nI e.a ∧ nI e.a < D.pl → nI e.a = D.dk → K (mI 5) D) ∧ (0 ≤ nI e.a ∧ nI e.a < D.pl → ¬ nI e.a = D.dk → K D.dk (sf_dk D (nI e.a)))) ∧
  (e.k = 107 → (nI e.a < nI 1 ∨ nI 5 < nI e.a → K (mI 2) D) ∧ (¬ (nI e.a < nI 1 ∨ nI 5 < nI e.a) → nI 5 ≤ D.pp → K (mI 4) D) ∧ (¬ (nI e.a < nI 1 ∨ nI 5 < nI e.a) → ∀ n, n < 5 → D.pp = nI n → K (nI n) (sf_pp (sf_sp (sf_wr (sf_pr D (upV D.pr n (nI e.a))) (upV D.wr n (nI 0))) (upV D.sp n (nI 0))) (nI (n + 1))))) ∧
  (e.k = 119 → (¬ (0 ≤ nI e.a ∧ nI e.a < D.pp) ∨ D.dk = mI 6 ∨ ¬ Pl (nI e.r) (nI e.c) → K (mI 1) D) ∧ ∀ p a b wn, OnD D p → a < 10 → b < 12 → nI e.r = nI a → nI e.c = nI b → 0 ≤ nI e.a → nI e.a < D.pp → nI e.a = nI wn → wn < 5 → (nI e.l < nI 0 ∨ nI 26 ≤ nI e.l → K (mI 2) D) ∧
    (¬ (nI e.l < nI 0 ∨ nI 26 ≤ nI e.l) → (¬ wrOK D (D.g p) wn (a * 12 + b) = true → K (mI 5) D) ∧ (wrOK D (D.g p) wn (a * 12 + b) = true → K (nI (lostV D (D.g p) wn (a * 12 + b) 120)) (wriV D p wn (a * 12 + b) (nI e.l))))) ∧
  (e.k = 112 → (¬ (0 ≤ nI e.a ∧ nI e.a < D.pp) ∨ D.dk = mI 6 ∨ ¬ Pl (nI e.r) (nI e.c) → K (mI 1) D) ∧ ∀ p a b, OnD D p → a < 10 → b < 12 → nI e.r = nI a → nI e.c = nI b → 0 ≤ nI e.a → nI e.a < D.pp → (¬ roV D (D.g p) (a * 12 + b) = true → K (mI 5) D) ∧
    (roV D (D.g p) (a * 12 + b) = true → K (nI (cn (fun j => !decide (upV (D.g p).p (a * 12 + b) (nI e.a) j = mI 6)) 120)) (putG D p (sf_p (D.g p) (upV (D.g p).p (a * 12 + b) (nI e.a)))))) ∧
  (e.k = 120 → (D.dk = mI 6 ∨ ¬ Pl (nI e.r) (nI e.c) → K (mI 1) D) ∧ ∀ p a b, OnD D p → a < 10 → b < 12 → nI e.r = nI a → nI e.c = nI b → ((D.g p).t (a * 12 + b) = mI 6 → K (mI 5) D) ∧ (¬ (D.g p).t (a * 12 + b) = mI 6 → K ((D.g p).t (a * 12 + b)) (putG D p (rubV (D.g p) (a * 12 + b))))) ∧
  (e.k = 104 → (nI e.a < nI 1 ∨ nI 48 < nI e.a → K (mI 2) D) ∧ ∀ k h, 1 ≤ k → k ≤ 48 → nI e.a = nI k → D.hr = nI h → h ≤ 9999 → (9999 < h + k → K (mI 5) D) ∧ (h + k ≤ 9999 → K (nI (h + k)) (sf_g (sf_hr D (nI (h + k))) (pasG D k 4))))
def P_X6_obey (as : List Value) (S : SS) (E : Option Value → SS → Prop) : Prop := match as with
  | [.ref x, .int i] => OwnD S x ∧ ∃ j e, j < 80 ∧ i = nI j ∧ EOK S (x + 213) j e ∧ (e.k = 110 ∨ e.k = 111 ∨ e.k = 107 ∨ e.k = 119 ∨ e.k = 112 ∨ e.k = 120 ∨ e.k = 104) ∧ ObP (dV S (x + 1)) e (fun v D => ∀ S', Fr S S' (x + 1) (x + 27) → DE (dV S' (x + 1)) D → E (some (.int v)) S')
  | _ => False
def Γ_X6_obey : List (MI × PT) := [(mi_X0_addPlate, P_X0_addPlate), (mi_X0_layPlate, P_X0_layPlate), (mi_X0_addWriter, P_X0_addWriter), (mi_X0_writeLetter, P_X0_writeLetter), (mi_X0_promisePlace, P_X0_promisePlace), (mi_X0_rubLetter, P_X0_rubLetter), (mi_X0_passHours, P_X0_passHours)]
theorem hΓ_X6_obey (l : Launch) (G : Gx) : ∀ q ∈ Γ_X6_obey, Ct l G q.1 q.2 := List.forall_mem_cons.mpr ⟨ct_X0_addPlate l G, List.forall_mem_cons.mpr ⟨ct_X0_layPlate l G, List.forall_mem_cons.mpr ⟨ct_X0_addWriter l G, List.forall_mem_cons.mpr ⟨ct_X0_writeLetter l G, List.forall_mem_cons.mpr ⟨ct_X0_promisePlace l G, List.forall_mem_cons.mpr ⟨ct_X0_rubLetter l G, List.forall_mem_cons.mpr ⟨ct_X0_passHours l G, fun _ h => absurd h List.not_mem_nil⟩⟩⟩⟩⟩⟩⟩
set_option maxHeartbeats 1000000 in
theorem ct_X6_obey (l : Launch) (G : Gx) : Ct l G mi_X6_obey P_X6_obey := by
  refine Ct.ofV mo_X6_obey (fun as S E h => ?_)
  unfold P_X6_obey at h
  split at h
  case h_2 => exact h.elim
  rename_i x i
  refine ⟨by simp [entL, mL_X6_obey], ?_⟩
  refine wpN_ok (Γ := Γ_X6_obey) (hΓ_X6_obey l G) so_X6_obey 5 _ _ _ _ _ _ ?_
  simp only [mL_X6_obey, mT_X6_obey, rc_X6_obey, rs_X6_obey, Γ_X6_obey, sg_X6_obey_0, sg_X6_obey_124, sg_X6_obey_132, sg_X6_obey_141, sg_X6_obey_150, sg_X6_obey_171, sg_X6_obey_183, sg_X6_obey_194, sg_X6_obey_203, wn_X6_obey_0, wn_X6_obey_124, wn_X6_obey_132, wn_X6_obey_141, wn_X6_obey_150, wn_X6_obey_171, wn_X6_obey_183, wn_X6_obey_194, wn_X6_obey_203, wp_c, ex_c, x_nop, x_goto, x_table, x_iinc, x_ldc, x_ldc2, x_iaload, x_faload, x_baload, x_caload, x_iastore, x_fastore, x_bastore, x_castore, x_aastore, x_alen, x_gets, x_new, x_newa, x_anew, x_invs, x_invi, x_invv, x_ret, x_iret, x_lret, x_fret, x_aret, x_lconst, x_fconst0, x_fconst1, x_fconst2, x_dconst0, x_dconst1, x_null, x_iadd, x_isub, x_imul, x_iand, x_ior, x_idiv, x_irem, x_ineg, x_ishl, x_ishr, x_land, x_lor, x_lushr, x_lshl, x_lcmp, x_i2l, x_l2i, x_i2c, x_i2f, x_f2d, x_d2i, x_d2l, x_fadd, x_fsub, x_fmul, x_fdiv, x_dadd, x_dsub, x_dmul, x_ddiv, x_fcmp, x_dcmp, x_dupI, x_dupR, x_dup2, x_popI, x_popR, ldP_I, ldP_L, ldP_F, ldP_D, ldP_R, ldP_N, x_iload, x_iload_n, x_lload, x_lload_n, x_fload, x_fload_n, x_dload, x_dload_n, x_aload, x_aload_n, x_istore, x_istore_n, x_lstore, x_lstore_n, x_fstore, x_fstore_n, x_dstore, x_dstore_n, x_astore, x_astore_n, x_astoreN, x_astore_nN, x_icmp_eq, x_icmp_ne, x_icmp_lt, x_icmp_ge, x_icmp_gt, x_icmp_le, x_if_eq, x_if_ne, x_if_lt, x_if_ge, x_if_gt, x_if_le, x_ifnull, x_ifnullR, x_ifnn, x_ifnnR, x_aaload2, x_cpI, x_cpF, x_bF, x_bD, x_oI, xk_bipush_120, xk_iconst_0, xk_bipush_m6, xk_iconst_1, xk_bipush_80, xk_bipush_48, xk_bipush_57, xk_bipush_10, xk_bipush_64, xk_bipush_46, xk_bipush_97, xk_bipush_122, xk_bipush_119, xk_bipush_61, xk_bipush_59, xk_bipush_8, xk_bipush_33, xk_bipush_126, xk_bipush_m2, xk_bipush_m4, xk_iconst_4, xk_bipush_6, xk_iconst_2, xk_bipush_40, xk_iconst_3, xk_iconst_5, xk_iconst_m1, xk_bipush_m5, xk_bipush_12, xk_bipush_100, xk_bipush_26, xk_sipush_9999, xk_sipush_500, xk_bipush_7, xk_bipush_m126, xk_bipush_127, xk_bipush_23, xk_sipush_m1022, xk_sipush_1023, xk_bipush_52, xk_bipush_m3, xk_sipush_9830, xk_sipush_4800, xk_sipush_983, xk_sipush_480, xk_bipush_13, xk_bipush_18, xk_bipush_9, xk_bipush_32, xg_0_0, xp_0_0, xg_0_1, xp_0_1, xg_0_2, xp_0_2, xg_0_3, xp_0_3, xg_0_4, xp_0_4, xg_0_5, xp_0_5, xg_0_6, xp_0_6, xg_0_7, xp_0_7, xg_0_8, xp_0_8, xg_1_0, xp_1_0, xg_1_1, xp_1_1, xg_1_2, xp_1_2, xg_1_3, xp_1_3, xg_2_0, xp_2_0, xg_2_1, xp_2_1, xg_2_2, xp_2_2, xg_3_0, xp_3_0, xg_3_1, xp_3_1, xg_3_2, xp_3_2, xg_3_3, xp_3_3, xg_3_4, xp_3_4, xg_3_5, xp_3_5, xg_3_6, xp_3_6, xg_3_7, xp_3_7, xg_3_8, xp_3_8, xg_3_9, xp_3_9, xg_3_10, xp_3_10, xg_3_11, xp_3_11, xg_4_0, xp_4_0, xg_4_1, xp_4_1, xg_5_0, xp_5_0, xg_5_1, xp_5_1, xg_6_0, xp_6_0, xg_6_1, xp_6_1, xg_6_2, xp_6_2, xg_6_3, xp_6_3, xg_6_4, xp_6_4, xg_6_5, xp_6_5, xg_7_0, xp_7_0, xg_7_1, xp_7_1, xg_7_2, xp_7_2, xg_7_3, xp_7_3, xg_7_4, xp_7_4, xg_7_5, xp_7_5, xg_7_6, xp_7_6, xg_7_7, xp_7_7, xg_7_8, xp_7_8, xg_7_9, xp_7_9, xg_7_10, xp_7_10, xg_7_11, xp_7_11, xg_7_12, xp_7_12, xg_7_13, xp_7_13, fv0, fv1, fv2, fv3, kI_0, kI_1, stL, wipeL, entLn, entL, List.getElem?_cons_zero, List.getElem?_cons_succ, List.getElem?_nil, List.set_cons_zero, List.set_cons_succ, List.set_nil, List.length_cons, List.length_nil, List.cons_append, List.nil_append, List.replicate, Nat.reduceAdd, Nat.reduceLeDiff, Nat.reduceSub, true_and, and_true, x_callS, x_callSN, x_callI, x_callIN, x_callV0, x_callV1, x_callV2, x_callV3, x_callV4, x_callV5, x_callV6, x_callV7, callP, List.take_succ_cons, List.take_zero, List.take_nil, List.drop_succ_cons, List.drop_zero, List.drop_nil, List.getLast?_singleton, List.getLast?_cons_cons, Option.some.injEq, Value.ref.injEq, exists_eq_left, exists_eq_left', Nat.zero_le, Nat.add_zero, ldcV_f, ldcV_fn, ldcV_l, ldcV_d, Nat.reduceMul, Nat.le_refl, List.reverse_cons, List.reverse_nil, Option.toList, List.map_cons, List.map_nil, List.sum_cons, List.sum_nil, Value.category, tblW_n, tblW_c, Int.cast_ofNat_Int, Int.reduceAdd, Int.reduceToNat, ofI_n, rc_X0_addPlate, rs_X0_addPlate, P_X0_addPlate, rc_X0_layPlate, rs_X0_layPlate, P_X0_layPlate, rc_X0_addWriter, rs_X0_addWriter, P_X0_addWriter, rc_X0_writeLetter, rs_X0_writeLetter, P_X0_writeLetter, rc_X0_promisePlace, rs_X0_promisePlace, P_X0_promisePlace, rc_X0_rubLetter, rs_X0_rubLetter, P_X0_rubLetter, rc_X0_passHours, rs_X0_passHours, P_X0_passHours]
  obtain ⟨⟨hO, hD⟩, j, e, hj, rfl, ⟨x1, x2, x3, x4⟩, hk, h⟩ := h
  obtain ⟨k1, k2, k3, k4, k5, k6, k7, k8, k9, hd, hh, ho, ht, -⟩ := hO
  obtain ⟨o0, o1, o2, o3, o4, o5, o6, o7, o8, o9, o10, o11, o12, o13, o14⟩ := ho
  simp only [k1, k2, k6, hd.1, o0, o1, o2, o3, o4, o5, o6, o10, o11, o12, o13, o14, sK_stI, sR_stI, sK_stF, sR_stF, sK_stIA, sR_stIA, sK_stFA, sR_stFA, sI_stI, sI_stF, sI_stIA, sI_stFA, sF_stI, sF_stF, sF_stIA, sF_stFA, Nat.left_eq_add, Nat.add_eq_left, Nat.add_left_cancel_iff, Nat.reduceEqDiff, Nat.reduceEqDiff, Nat.succ_ne_self, false_and, and_false, if_false, if_true, nI_succ_sub, Option.some.injEq, Prod.mk.injEq, exists_eq_left', true_and, and_true, retI, retF, retV, retZ1, retZ0, retL, retA, retN, Nat.reduceAdd, Nat.reduceMul, Nat.reduceLT]
  simp (disch := omega) only [nlt0, nge0, neq0, ngt0, nle0, nI_ltI, nI_leI, nI_eq, nI_cl, in_nI, false_implies, true_implies, not_false_eq_true, not_true_eq_false, and_true, true_and, nI_add, pk_mul, implies_true, not_lt0, x1]
  have er : Fr S S (x + 1) (x + 27) := Fr.refl _ _ _
  have dr : DE (dV S (x + 1)) (dV S (x + 1)) := DE.refl _
  have eqE : ∀ {A B : DV}, A = B → DE A B := fun h => by rw [h]; exact DE.refl _
  obtain ⟨hn, ho', hk', hw, hp, hx, hh'⟩ := h
  refine ⟨hj, hj, hj, hj, ⟨fun q => ?_, fun q => absurd q (by omega), fun q => absurd q (by omega), fun q => ?_, fun q => absurd q (by omega), fun q => absurd q (by omega), fun q => ?_, fun q => ?_, fun q => ?_, fun q => absurd q (by omega), fun q => absurd q (by omega), fun q => absurd q (by omega), fun q => absurd q (by omega), fun q => absurd q (by omega), fun q => absurd q (by omega), fun q => ?_, fun q => ?_⟩, fun q => ?_⟩
  · have xa := x2 (by omega)
    obtain ⟨h1, h2⟩ := hh' q
    rw [xa]
    exact ⟨hd, hD, fun a => h1 a S er dr, fun k h k1 k2 ek eh h9 => ⟨fun v => (h2 k h k1 k2 ek eh h9).1 v S er dr, fun v T hT hE => (h2 k h k1 k2 ek eh h9).2 v T hT hE⟩⟩
  · have xa := x2 (by omega)
    obtain ⟨h1, h2, h3⟩ := hk' q
    rw [xa]
    obtain ⟨n, hn5, en⟩ := hD.2.2.2.1
    exact ⟨hd, ⟨n, hn5, en⟩, fun a => h1 a S er dr, fun a b => h2 a b S er dr, fun a n hn en T hT hE => h3 a n hn en T hT (eqE hE)⟩
  · obtain ⟨h1, h2⟩ := hn q
    obtain ⟨n, hn5, en, -⟩ := hD.2.2.1
    exact ⟨hd, ⟨n, hn5, en⟩, fun a => h1 a S er dr, fun n hn en T N hN hT hE => h2 n hn en N hN T hT (eqE hE)⟩
  · have xa := x2 (by omega)
    obtain ⟨h1, h2, h3⟩ := ho' q
    rw [xa]
    exact ⟨fun a => h1 a S er dr, fun a b => h2 a b S er dr, fun a b T hT hE => h3 a b T hT (eqE hE)⟩
  · have xa := x2 (by omega)
    obtain ⟨xr, xc⟩ := x3 (by omega)
    obtain ⟨h1, h2⟩ := hp q
    rw [xa, xr, xc]
    exact ⟨hd, hD, fun a => h1 a S er dr, fun p a b hp ha hb e1 e2 w1 w2 => ⟨fun v => (h2 p a b hp ha hb e1 e2 w1 w2).1 v S er dr, fun v T hT hE => (h2 p a b hp ha hb e1 e2 w1 w2).2 v T hT (eqE hE)⟩⟩
  · have xa := x2 (by omega)
    obtain ⟨xr, xc⟩ := x3 (by omega)
    have xl := x4 q
    obtain ⟨h1, h2⟩ := hw q
    rw [xa, xr, xc, xl]
    exact ⟨hj, hd, hD, fun a => h1 a S er dr, fun p a b wn hp ha hb e1 e2 w1 w2 w3 w4 => ⟨fun v => (h2 p a b wn hp ha hb e1 e2 w1 w2 w3 w4).1 v S er dr, fun v => ⟨fun u => ((h2 p a b wn hp ha hb e1 e2 w1 w2 w3 w4).2 v).1 u S er dr, fun u T hT hE => ((h2 p a b wn hp ha hb e1 e2 w1 w2 w3 w4).2 v).2 u T hT hE⟩⟩⟩
  · obtain ⟨xr, xc⟩ := x3 (by omega)
    obtain ⟨h1, h2⟩ := hx q
    rw [xr, xc]
    exact ⟨hd, hD, fun a => h1 a S er dr, fun p a b hp ha hb e1 e2 => ⟨fun v => (h2 p a b hp ha hb e1 e2).1 v S er dr, fun v T hT hE => (h2 p a b hp ha hb e1 e2).2 v T hT (eqE hE)⟩⟩
  · rw [nI_toInt (by omega)] at q
    omega
