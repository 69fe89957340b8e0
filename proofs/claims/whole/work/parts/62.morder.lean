-- needs: 61.mread
/-! the reference reads an order -/
/-- what is noted of an order that was read -/
def OrdF (T : Nat → Nat) (n i : Nat) (g : Nat → Int32) : Prop := g 8 = nI (chP T n i) ∧
  (chP T n i = 119 → ∃ q d r c m, (orP T n i).2.2 = leL T n q d r c m ∧ 0 < m ∧ q + m ≤ n ∧ g 9 = nI d ∧ g 10 = nI r ∧ g 11 = nI c ∧ g 12 = nI q ∧ g 13 = nI (q + m) ∧ ∀ j, j < m → ltP T n (q + j)) ∧
  (¬ chP T n i = 119 → ∃ e : Ent, (orP T n i).2.2 = [e] ∧ e.k = chP T n i ∧ (¬ e.k = 110 ∧ ¬ e.k = 120 → g 9 = nI e.a) ∧ (e.k = 112 ∨ e.k = 120 → g 10 = nI e.r ∧ g 11 = nI e.c))
theorem lcP_pos {T : Nat → Nat} {n q : Nat} (h : ltP T n q) : ∀ m, 1 ≤ lcP T n q (m + 1)
  | 0 => by
    rw [lcP_s, if_pos ⟨rfl, h⟩]
    exact Nat.le_refl 1
  | m + 1 => by
    have := lcP_pos h m
    rw [lcP_s]
    split <;> omega
theorem enP_pos {T : Nat → Nat} {n q : Nat} (h : ltP T n q) : 0 < enP T n q := by
  rw [enP_eq]
  exact lcP_pos h 80
theorem lcP_all {T : Nat → Nat} {n q : Nat} : ∀ m j, j < lcP T n q m → ltP T n (q + j)
  | 0, j, h => absurd h (Nat.not_lt_zero j)
  | m + 1, j, h => by
    rw [lcP_s] at h
    by_cases c : lcP T n q m = m ∧ ltP T n (q + m)
    · rw [if_pos c] at h
      by_cases d : j = m
      · rw [d]; exact c.2
      · exact lcP_all m j (by rw [c.1]; omega)
    · rw [if_neg c] at h
      exact lcP_all m j h
theorem enP_all {T : Nat → Nat} {n q j : Nat} (h : j < enP T n q) : ltP T n (q + j) := lcP_all 81 j (by rwa [enP_eq] at h)
def P_X7_readsOrder (as : List Value) (S : SS) (E : Option Value → SS → Prop) : Prop := match as with
  | [.ref y] => ∃ T n i, ModAt S y ∧ TM S y T n ∧ i ≤ n ∧ sI S y 7 = nI i ∧ FO (sI S y) ∧ ∀ g, (∀ k, k < 7 → g k = sI S y k) → FO g → g 7 = nI (orP T n i).2.1 → ((orP T n i).1 = true → OrdF T n i g) → E (some (.int (bI ((orP T n i).1 = true)))) (stIA S y g)
  | _ => False
def Γ_X7_readsOrder : List (MI × PT) := [(mi_X7_digit, P_X7_digit), (mi_X7_readsPlace, P_X7_readsPlace), (mi_X7_takes, P_X7_takes), (mi_X7_readsLetters, P_X7_readsLetters), (mi_X7_number, P_X7_number)]
theorem hΓ_X7_readsOrder (l : Launch) (G : Gx) : ∀ q ∈ Γ_X7_readsOrder, Ct l G q.1 q.2 := List.forall_mem_cons.mpr ⟨ct_X7_digit l G, List.forall_mem_cons.mpr ⟨ct_X7_readsPlace l G, List.forall_mem_cons.mpr ⟨ct_X7_takes l G, List.forall_mem_cons.mpr ⟨ct_X7_readsLetters l G, List.forall_mem_cons.mpr ⟨ct_X7_number l G, fun _ h => absurd h List.not_mem_nil⟩⟩⟩⟩⟩
set_option maxHeartbeats 4000000 in
theorem ct_X7_readsOrder (l : Launch) (G : Gx) : Ct l G mi_X7_readsOrder P_X7_readsOrder := by
  refine Ct.ofV mo_X7_readsOrder (fun as S E h => ?_)
  unfold P_X7_readsOrder at h
  split at h
  case h_2 => exact h.elim
  rename_i y
  refine ⟨by simp [entL, mL_X7_readsOrder], ?_⟩
  refine wpN_ok (Γ := Γ_X7_readsOrder) (hΓ_X7_readsOrder l G) so_X7_readsOrder 18 _ _ _ _ _ _ ?_
  simp only [mL_X7_readsOrder, mT_X7_readsOrder, rc_X7_readsOrder, rs_X7_readsOrder, Γ_X7_readsOrder, sg_X7_readsOrder_0, sg_X7_readsOrder_25, sg_X7_readsOrder_27, sg_X7_readsOrder_128, sg_X7_readsOrder_130, sg_X7_readsOrder_151, sg_X7_readsOrder_152, sg_X7_readsOrder_153, sg_X7_readsOrder_197, sg_X7_readsOrder_198, sg_X7_readsOrder_199, sg_X7_readsOrder_227, sg_X7_readsOrder_228, sg_X7_readsOrder_229, sg_X7_readsOrder_234, sg_X7_readsOrder_255, sg_X7_readsOrder_256, sg_X7_readsOrder_257, wn_X7_readsOrder_0, wn_X7_readsOrder_25, wn_X7_readsOrder_27, wn_X7_readsOrder_128, wn_X7_readsOrder_130, wn_X7_readsOrder_151, wn_X7_readsOrder_152, wn_X7_readsOrder_153, wn_X7_readsOrder_197, wn_X7_readsOrder_198, wn_X7_readsOrder_199, wn_X7_readsOrder_227, wn_X7_readsOrder_228, wn_X7_readsOrder_229, wn_X7_readsOrder_234, wn_X7_readsOrder_255, wn_X7_readsOrder_256, wn_X7_readsOrder_257, wp_c, ex_c, x_nop, x_goto, x_table, x_iinc, x_ldc, x_ldc2, x_iaload, x_faload, x_baload, x_caload, x_iastore, x_fastore, x_bastore, x_castore, x_aastore, x_alen, x_gets, x_new, x_newa, x_anew, x_invs, x_invi, x_invv, x_ret, x_iret, x_lret, x_fret, x_aret, x_lconst, x_fconst0, x_fconst1, x_fconst2, x_dconst0, x_dconst1, x_null, x_iadd, x_isub, x_imul, x_iand, x_ior, x_idiv, x_irem, x_ineg, x_ishl, x_ishr, x_land, x_lor, x_lushr, x_lshl, x_lcmp, x_i2l, x_l2i, x_i2c, x_i2f, x_f2d, x_d2i, x_d2l, x_fadd, x_fsub, x_fmul, x_fdiv, x_dadd, x_dsub, x_dmul, x_ddiv, x_fcmp, x_dcmp, x_dupI, x_dupR, x_dup2, x_popI, x_popR, ldP_I, ldP_L, ldP_F, ldP_D, ldP_R, ldP_N, x_iload, x_iload_n, x_lload, x_lload_n, x_fload, x_fload_n, x_dload, x_dload_n, x_aload, x_aload_n, x_istore, x_istore_n, x_lstore, x_lstore_n, x_fstore, x_fstore_n, x_dstore, x_dstore_n, x_astore, x_astore_n, x_astoreN, x_astore_nN, x_icmp_eq, x_icmp_ne, x_icmp_lt, x_icmp_ge, x_icmp_gt, x_icmp_le, x_if_eq, x_if_ne, x_if_lt, x_if_ge, x_if_gt, x_if_le, x_ifnull, x_ifnullR, x_ifnn, x_ifnnR, x_aaload2, x_cpI, x_cpF, x_bF, x_bD, x_oI, xk_bipush_120, xk_iconst_0, xk_bipush_m6, xk_iconst_1, xk_bipush_80, xk_bipush_48, xk_bipush_57, xk_bipush_10, xk_bipush_64, xk_bipush_46, xk_bipush_97, xk_bipush_122, xk_bipush_119, xk_bipush_61, xk_bipush_59, xk_bipush_8, xk_bipush_33, xk_bipush_126, xk_bipush_m2, xk_bipush_m4, xk_iconst_4, xk_bipush_6, xk_iconst_2, xk_bipush_40, xk_iconst_3, xk_iconst_5, xk_iconst_m1, xk_bipush_m5, xk_bipush_12, xk_bipush_100, xk_bipush_26, xk_sipush_9999, xk_sipush_500, xk_bipush_7, xk_bipush_m126, xk_bipush_127, xk_bipush_23, xk_sipush_m1022, xk_sipush_1023, xk_bipush_52, xk_bipush_m3, xk_sipush_9830, xk_sipush_4800, xk_sipush_983, xk_sipush_480, xk_bipush_13, xk_bipush_18, xk_bipush_9, xk_bipush_32, xg_0_0, xp_0_0, xg_0_1, xp_0_1, xg_0_2, xp_0_2, xg_0_3, xp_0_3, xg_0_4, xp_0_4, xg_0_5, xp_0_5, xg_0_6, xp_0_6, xg_0_7, xp_0_7, xg_0_8, xp_0_8, xg_1_0, xp_1_0, xg_1_1, xp_1_1, xg_1_2, xp_1_2, xg_1_3, xp_1_3, xg_2_0, xp_2_0, xg_2_1, xp_2_1, xg_2_2, xp_2_2, xg_3_0, xp_3_0, xg_3_1, xp_3_1, xg_3_2, xp_3_2, xg_3_3, xp_3_3, xg_3_4, xp_3_4, xg_3_5, xp_3_5, xg_3_6, xp_3_6, xg_3_7, xp_3_7, xg_3_8, xp_3_8, xg_3_9, xp_3_9, xg_3_10, xp_3_10, xg_3_11, xp_3_11, xg_4_0, xp_4_0, xg_4_1, xp_4_1, xg_5_0, xp_5_0, xg_5_1, xp_5_1, xg_6_0, xp_6_0, xg_6_1, xp_6_1, xg_6_2, xp_6_2, xg_6_3, xp_6_3, xg_6_4, xp_6_4, xg_6_5, xp_6_5, xg_7_0, xp_7_0, xg_7_1, xp_7_1, xg_7_2, xp_7_2, xg_7_3, xp_7_3, xg_7_4, xp_7_4, xg_7_5, xp_7_5, xg_7_6, xp_7_6, xg_7_7, xp_7_7, xg_7_8, xp_7_8, xg_7_9, xp_7_9, xg_7_10, xp_7_10, xg_7_11, xp_7_11, xg_7_12, xp_7_12, xg_7_13, xp_7_13, fv0, fv1, fv2, fv3, kI_0, kI_1, stL, wipeL, entLn, entL, List.getElem?_cons_zero, List.getElem?_cons_succ, List.getElem?_nil, List.set_cons_zero, List.set_cons_succ, List.set_nil, List.length_cons, List.length_nil, List.cons_append, List.nil_append, List.replicate, Nat.reduceAdd, Nat.reduceLeDiff, Nat.reduceSub, true_and, and_true, x_callS, x_callSN, x_callI, x_callIN, x_callV0, x_callV1, x_callV2, x_callV3, x_callV4, x_callV5, x_callV6, x_callV7, callP, List.take_succ_cons, List.take_zero, List.take_nil, List.drop_succ_cons, List.drop_zero, List.drop_nil, List.getLast?_singleton, List.getLast?_cons_cons, Option.some.injEq, Value.ref.injEq, exists_eq_left, exists_eq_left', Nat.zero_le, Nat.add_zero, ldcV_f, ldcV_fn, ldcV_l, ldcV_d, Nat.reduceMul, Nat.le_refl, List.reverse_cons, List.reverse_nil, Option.toList, List.map_cons, List.map_nil, List.sum_cons, List.sum_nil, Value.category, tblW_n, tblW_c, Int.cast_ofNat_Int, Int.reduceAdd, Int.reduceToNat, ofI_n, rc_X7_digit, rs_X7_digit, P_X7_digit, rc_X7_readsPlace, rs_X7_readsPlace, P_X7_readsPlace, rc_X7_takes, rs_X7_takes, P_X7_takes, rc_X7_readsLetters, rs_X7_readsLetters, P_X7_readsLetters, rc_X7_number, rs_X7_number, P_X7_number]
  obtain ⟨T, n, i, hM, hT, hi, e7, hFO, h⟩ := h
  have hM0 := hM
  obtain ⟨m0, m1, m2, m3, m4, m5, m6, m7, m8, m9, m10⟩ := hM
  simp only [m0, m1, m2, m3, m4, m5, m6, m7, m8, m9, m10, e7, hT.2.1, bI_0, sK_stI, sR_stI, sK_stF, sR_stF, sK_stIA, sR_stIA, sK_stFA, sR_stFA, sI_stI, sI_stF, sI_stIA, sI_stFA, sF_stI, sF_stF, sF_stIA, sF_stFA, Nat.left_eq_add, Nat.add_eq_left, Nat.add_left_cancel_iff, Nat.reduceEqDiff, Nat.reduceEqDiff, Nat.succ_ne_self, false_and, and_false, if_false, if_true, nI_succ_sub, Option.some.injEq, Prod.mk.injEq, exists_eq_left', true_and, and_true, retI, retF, retV, retZ1, retZ0, retL, retA, retN, Nat.reduceAdd, Nat.reduceMul, Nat.reduceLT]
  simp only [st_up, stIA_stIA, sI_stIA, if_true, n10', n00', not_true_eq_false, not_false_eq_true, true_implies, false_implies, true_and, and_true]
  have hn := hT.1
  have hch : ∀ j, chP T n j < 256 := fun j => hT.ch
  have nmb : ∀ j, (nmP T n j).2.1 ≤ 10 * 256 + 256 := fun j => by
    unfold nmP
    have := hch j
    have := hch (j + 1)
    split
    · split <;> (dsimp only; omega)
    · dsimp only; omega
  have nm6 : ∀ j, ((if (nmP T n j).1 = true then nI (nmP T n j).2.1 else mI 6) = mI 6) ↔ (nmP T n j).1 = false := fun j => by
    by_cases a : (nmP T n j).1 = true
    · rw [if_pos a]
      exact iff_of_false (nI_ne_mI (by have := nmb j; omega) (by omega) (by omega)) (by simp [a])
    · rw [if_neg a]
      exact iff_of_true rfl (by simpa using a)
  have finF : ∀ (g : Nat → Int32) (pos : Nat) (es : List Ent), orP T n i = (false, pos, es) → (∀ k, k < 7 → g k = sI S y k) → FO g → g 7 = nI pos → E (some (.int (nI 0))) (stIA S y g) := fun g pos es e h1 h2 h3 => by
    have := h g h1 h2 (by rw [e]; exact h3) (fun a => absurd a (by rw [e]; exact Bool.false_ne_true))
    rw [e] at this
    rwa [bI_f Bool.false_ne_true] at this
  have finT : ∀ (g : Nat → Int32) (pos : Nat) (es : List Ent), orP T n i = (true, pos, es) → (∀ k, k < 7 → g k = sI S y k) → FO g → g 7 = nI pos → OrdF T n i g → E (some (.int (nI 1))) (stIA S y g) := fun g pos es e h1 h2 h3 h4 => by
    have := h g h1 h2 (by rw [e]; exact h3) (fun _ => h4)
    rw [e] at this
    rwa [bI_t rfl] at this
  have cn6 : ∀ j, ¬ nI (chP T n j - 48) = mI 6 := fun j => nI_ne_mI (by have := hch j; omega) (by omega) (by omega)
  refine ⟨fun c => ?_, fun c => ?_⟩
  · simp (disch := omega) only [nlt0, nge0, neq0, ngt0, nle0, nI_ltI, nI_leI, nI_eq, nI_cl, in_nI, false_implies, true_implies, not_false_eq_true, not_true_eq_false, and_true, true_and, nI_add, pk_mul, implies_true, not_lt0] at c
    have hc : chP T n i = 0 := if_neg (by omega)
    have eo : orP T n i = (false, i, []) := by
      unfold orP
      rw [if_neg (by omega), if_neg (by omega), if_neg (by omega), if_neg (by omega), if_neg (by omega), if_neg (by omega)]
    have no : ∀ k, 104 ≤ k → k ≤ 120 → ¬ nI 32 = nI k := fun k a b e => by
      rw [nI_eq (by omega) (by omega)] at e
      omega
    refine ⟨fit16 32 (by omega), ⟨fun a => absurd a (no _ (by omega) (by omega)), fun a => absurd a (no _ (by omega) (by omega)), fun a => absurd a (no _ (by omega) (by omega)), fun a => absurd a (no _ (by omega) (by omega)), fun a => absurd a (no _ (by omega) (by omega)), fun a => absurd a (no _ (by omega) (by omega)), fun a => absurd a (no _ (by omega) (by omega)), fun a => absurd a (no _ (by omega) (by omega)), fun a => absurd a (no _ (by omega) (by omega)), fun a => absurd a (no _ (by omega) (by omega)), fun a => absurd a (no _ (by omega) (by omega)), fun a => absurd a (no _ (by omega) (by omega)), fun a => absurd a (no _ (by omega) (by omega)), fun a => absurd a (no _ (by omega) (by omega)), fun a => absurd a (no _ (by omega) (by omega)), fun a => absurd a (no _ (by omega) (by omega)), fun a => absurd a (no _ (by omega) (by omega))⟩, fun _ => finF _ i [] eo (fun k hk => by simp only [upAt, show ¬ k = 7 from by omega, show ¬ k = 8 from by omega, show ¬ k = 9 from by omega, show ¬ k = 10 from by omega, show ¬ k = 11 from by omega, show ¬ k = 12 from by omega, show ¬ k = 13 from by omega, if_false]) (by obtain ⟨a, b, c⟩ := hFO; exact ⟨a, b, by simp [upAt, c]⟩) ?_⟩
    rw [nI_add, pk_sub (by omega)]
    simp [upAt]
  · simp (disch := omega) only [nlt0, nge0, neq0, ngt0, nle0, nI_ltI, nI_leI, nI_eq, nI_cl, in_nI, false_implies, true_implies, not_false_eq_true, not_true_eq_false, and_true, true_and, nI_add, pk_mul, implies_true, not_lt0] at c
    obtain ⟨q1, q2⟩ := hT.2.2 i (by omega)
    have hc : chP T n i = T i := if_pos (by omega)
    simp (disch := omega) only [nlt0, nge0, neq0, ngt0, nle0, nI_ltI, nI_leI, nI_eq, nI_cl, in_nI, false_implies, true_implies, not_false_eq_true, not_true_eq_false, and_true, true_and, nI_add, pk_mul, implies_true, not_lt0, q2, ch16 _ q1, pk_sub]
    have e7' : ∀ (f : Nat → Int32) (v : Int32) (j : Nat), upV f 7 v 7 = v := fun _ _ _ => rfl
    have other : ¬ T i = 104 → ¬ T i = 107 → ¬ T i = 110 → ¬ T i = 111 → ¬ T i = 112 → ¬ T i = 119 → ¬ T i = 120 → E (some (.int (nI 0))) (stIA S y (upV (upV (upV (sI S y) 8 (nI (T i))) 7 (nI (i + 1))) 7 (nI (i + 1 - 1)))) := fun a1 a2 a3 a4 a5 a6 a7 => by
      refine finF _ i [] ?_ (fun k hk => by simp only [upAt, show ¬ k = 7 from by omega, show ¬ k = 8 from by omega, show ¬ k = 9 from by omega, show ¬ k = 10 from by omega, show ¬ k = 11 from by omega, show ¬ k = 12 from by omega, show ¬ k = 13 from by omega, if_false]) (by obtain ⟨a, b, c⟩ := hFO; exact ⟨a, b, by simp [upAt, c]⟩) (by simp [upAt])
      unfold orP
      rw [hc, if_neg (by omega), if_neg (by omega), if_neg (by omega), if_neg (by omega), if_neg (by omega), if_neg (by omega)]
    have digK : (T i = 111 ∨ T i = 107) → ∃ T_1 n_1 i_1, ModAt (stIA S y (upV (upV (sI S y) 8 (nI (T i))) 7 (nI (i + 1)))) y ∧ TM (stIA S y (upV (upV (sI S y) 8 (nI (T i))) 7 (nI (i + 1)))) y T_1 n_1 ∧ i_1 < 100 ∧ nI (i + 1) = nI i_1 ∧
        (dgP T_1 n_1 i_1 → (nI (chP T_1 n_1 i_1 - 48) = mI 6 → E (some (.int (nI 0))) (stIA S y (upV (upV (upV (upV (sI S y) 8 (nI (T i))) 7 (nI (i + 1))) 7 (nI (i_1 + 1))) 9 (nI (chP T_1 n_1 i_1 - 48))))) ∧
          (¬ nI (chP T_1 n_1 i_1 - 48) = mI 6 → E (some (.int (nI 1))) (stIA S y (upV (upV (upV (upV (sI S y) 8 (nI (T i))) 7 (nI (i + 1))) 7 (nI (i_1 + 1))) 9 (nI (chP T_1 n_1 i_1 - 48)))))) ∧
        (¬ dgP T_1 n_1 i_1 → E (some (.int (nI 0))) (stIA S y (upV (upV (upV (sI S y) 8 (nI (T i))) 7 (nI (i + 1))) 9 (mI 6)))) := fun hk => by
      have n110 : ¬ T i = 110 := by omega
      refine ⟨T, n, i + 1, hM0.up, hT.up rfl, by omega, rfl, fun d => ⟨fun a => absurd a (cn6 _), fun _ => ?_⟩, fun d => ?_⟩
      · have eo : orP T n i = (true, i + 2, [(T i, chP T n (i + 1) - 48, 0, 0, 0)]) := by
          unfold orP
          rw [hc, if_neg n110, if_pos hk, if_pos d]
        refine finT _ (i + 2) _ eo (fun k hk => by simp only [upAt, show ¬ k = 7 from by omega, show ¬ k = 8 from by omega, show ¬ k = 9 from by omega, show ¬ k = 10 from by omega, show ¬ k = 11 from by omega, show ¬ k = 12 from by omega, show ¬ k = 13 from by omega, if_false]) (by obtain ⟨a, b, c⟩ := hFO; exact ⟨a, b, by simp [upAt, c]⟩) (by simp [upAt]) ⟨by simp [upAt, hc], fun a => absurd a (by omega), fun _ => ⟨_, by rw [eo], hc.symm, fun _ => by simp [upAt, Ent.a], fun a => absurd a (by simp only [Ent.k, Ent.a, Ent.r, Ent.c, Ent.l]; omega)⟩⟩
      · have eo : orP T n i = (false, i + 1, []) := by
          unfold orP
          rw [hc, if_neg n110, if_pos hk, if_neg d]
        exact finF _ (i + 1) [] eo (fun k hk => by simp only [upAt, show ¬ k = 7 from by omega, show ¬ k = 8 from by omega, show ¬ k = 9 from by omega, show ¬ k = 10 from by omega, show ¬ k = 11 from by omega, show ¬ k = 12 from by omega, show ¬ k = 13 from by omega, if_false]) (by obtain ⟨a, b, c⟩ := hFO; exact ⟨a, b, by simp [upAt, c]⟩) (by simp [upAt])
    refine ⟨by omega, fit16 _ q1, ⟨fun hk => ?_, fun hk => other (by omega) (by omega) (by omega) (by omega) (by omega) (by omega) (by omega), fun hk => other (by omega) (by omega) (by omega) (by omega) (by omega) (by omega) (by omega), fun hk => digK (Or.inr hk), fun hk => other (by omega) (by omega) (by omega) (by omega) (by omega) (by omega) (by omega), fun hk => other (by omega) (by omega) (by omega) (by omega) (by omega) (by omega) (by omega), fun hk => ?_, fun hk => digK (Or.inl hk), fun hk => ?_, fun hk => other (by omega) (by omega) (by omega) (by omega) (by omega) (by omega) (by omega), fun hk => other (by omega) (by omega) (by omega) (by omega) (by omega) (by omega) (by omega), fun hk => other (by omega) (by omega) (by omega) (by omega) (by omega) (by omega) (by omega), fun hk => other (by omega) (by omega) (by omega) (by omega) (by omega) (by omega) (by omega), fun hk => other (by omega) (by omega) (by omega) (by omega) (by omega) (by omega) (by omega), fun hk => other (by omega) (by omega) (by omega) (by omega) (by omega) (by omega) (by omega), fun hk => ?_, fun hk => ?_⟩, fun hk => ?_⟩
    · -- h
      have eo : orP T n i = if (nmP T n (i + 1)).1 = true then (true, (nmP T n (i + 1)).2.2, [(104, (nmP T n (i + 1)).2.1, 0, 0, 0)]) else (false, i + 1, []) := by
        unfold orP
        rw [hc, if_neg (by omega), if_neg (by omega), if_neg (by omega), if_neg (by omega), if_neg (by omega), if_pos hk]
      refine ⟨T, n, i + 1, hM0.up, hT.up rfl, by omega, rfl, fun d => ?_, fun d => ?_⟩
      · have d := (nm6 _).mp d
        rw [if_neg (by rw [d]; decide)] at eo
        obtain ⟨l1, l2, l3, l4, l5⟩ := nmP_le (T := T) (n := n) (i := i + 1) (by omega)
        exact finF _ (i + 1) [] eo (fun k hk => by simp only [upAt, show ¬ k = 7 from by omega, show ¬ k = 8 from by omega, show ¬ k = 9 from by omega, show ¬ k = 10 from by omega, show ¬ k = 11 from by omega, show ¬ k = 12 from by omega, show ¬ k = 13 from by omega, if_false]) (by obtain ⟨a, b, c⟩ := hFO; exact ⟨a, b, by simp [upAt, c]⟩) (by simp [upAt, l3 d])
      · have d : (nmP T n (i + 1)).1 = true := by
          cases e : (nmP T n (i + 1)).1
          · exact absurd ((nm6 _).mpr e) d
          · rfl
        rw [if_pos d] at eo ⊢
        exact finT _ _ _ eo (fun k hk => by simp only [upAt, show ¬ k = 7 from by omega, show ¬ k = 8 from by omega, show ¬ k = 9 from by omega, show ¬ k = 10 from by omega, show ¬ k = 11 from by omega, show ¬ k = 12 from by omega, show ¬ k = 13 from by omega, if_false]) (by obtain ⟨a, b, c⟩ := hFO; exact ⟨a, b, by simp [upAt, c]⟩) (by simp [upAt]) ⟨by simp [upAt, hc], fun a => absurd a (by omega), fun _ => ⟨_, by rw [eo], by simp only [Ent.k, Ent.a, Ent.r, Ent.c, Ent.l]; omega, fun _ => by simp [upAt, Ent.a], fun a => absurd a (by simp only [Ent.k, Ent.a, Ent.r, Ent.c, Ent.l]; omega)⟩⟩
    · -- n
      have eo : orP T n i = (true, i + 1, [(110, 0, 0, 0, 0)]) := by
        unfold orP
        rw [hc, if_pos hk]
      exact finT _ _ _ eo (fun k hk => by simp only [upAt, show ¬ k = 7 from by omega, show ¬ k = 8 from by omega, show ¬ k = 9 from by omega, show ¬ k = 10 from by omega, show ¬ k = 11 from by omega, show ¬ k = 12 from by omega, show ¬ k = 13 from by omega, if_false]) (by obtain ⟨a, b, c⟩ := hFO; exact ⟨a, b, by simp [upAt, c]⟩) (by simp [upAt]) ⟨by simp [upAt, hc], fun a => absurd a (by omega), fun _ => ⟨_, by rw [eo], by simp only [Ent.k, Ent.a, Ent.r, Ent.c, Ent.l]; omega, fun a => absurd rfl a.1, fun a => absurd a (by simp only [Ent.k, Ent.a, Ent.r, Ent.c, Ent.l]; omega)⟩⟩
    · -- p
      refine ⟨T, n, i + 1, hM0.up, hT.up rfl, by omega, rfl, fun d => ⟨fun a => absurd a (cn6 _), fun _ => ?_⟩, fun d => ?_⟩
      · have hin := dgP_lt d
        refine ⟨T, n, i + 2, hM0.up, hT.up rfl, by omega, rfl, fun g hg g7 g10 => ⟨fun p1 => ?_, fun p1 => ?_⟩⟩
        · have eo : orP T n i = (false, (plP T n (i + 2)).2.2.2, []) := by
            unfold orP
            rw [hc, if_neg (by omega), if_neg (by omega), if_neg (by omega), if_pos hk, if_pos d, if_neg p1]
          refine finF _ _ _ eo (fun k hk => ?_) ?_ g7
          · rw [hg k (by omega)]
            simp only [upAt, show ¬ k = 7 from by omega, show ¬ k = 8 from by omega, show ¬ k = 9 from by omega, if_false]
          · obtain ⟨a, b, c'⟩ := hFO
            exact ⟨a, b, by rw [hg 12 (by omega)]; simp [upAt, c']⟩
        · have p1 := Decidable.not_not.mp p1
          obtain ⟨g10, g11⟩ := g10 p1
          have eo : orP T n i = (true, (plP T n (i + 2)).2.2.2, [(112, chP T n (i + 1) - 48, (plP T n (i + 2)).2.1, (plP T n (i + 2)).2.2.1, 0)]) := by
            unfold orP
            rw [hc, if_neg (by omega), if_neg (by omega), if_neg (by omega), if_pos hk, if_pos d, if_pos p1]
          refine finT _ _ _ eo (fun k hk => ?_) ?_ g7 ⟨by rw [hg 8 (by omega)]; simp [upAt, hc], fun a => absurd a (by omega), fun _ => ⟨_, by rw [eo], by simp only [Ent.k, Ent.a, Ent.r, Ent.c, Ent.l]; omega, fun _ => by rw [hg 9 (by omega)]; simp [upAt, Ent.a], fun _ => ⟨g10, g11⟩⟩⟩
          · rw [hg k (by omega)]
            simp only [upAt, show ¬ k = 7 from by omega, show ¬ k = 8 from by omega, show ¬ k = 9 from by omega, if_false]
          · obtain ⟨a, b, c'⟩ := hFO
            exact ⟨a, b, by rw [hg 12 (by omega)]; simp [upAt, c']⟩
      · have eo : orP T n i = (false, i + 1, []) := by
          unfold orP
          rw [hc, if_neg (by omega), if_neg (by omega), if_neg (by omega), if_pos hk, if_neg d]
        exact finF _ (i + 1) [] eo (fun k hk => by simp only [upAt, show ¬ k = 7 from by omega, show ¬ k = 8 from by omega, show ¬ k = 9 from by omega, show ¬ k = 10 from by omega, show ¬ k = 11 from by omega, show ¬ k = 12 from by omega, show ¬ k = 13 from by omega, if_false]) (by obtain ⟨a, b, c⟩ := hFO; exact ⟨a, b, by simp [upAt, c]⟩) (by simp [upAt])
    · -- w
      refine ⟨T, n, i + 1, hM0.up, hT.up rfl, by omega, rfl, fun d => ⟨fun a => absurd a (cn6 _), fun _ => ?_⟩, fun d => ?_⟩
      · have hin := dgP_lt d
        have pl := plP_le (T := T) (n := n) (i := i + 2) (by omega)
        refine ⟨T, n, i + 2, hM0.up, hT.up rfl, by omega, rfl, fun g hg g7 g10 => ⟨fun p1 => ?_, fun p1 => ?_⟩⟩
        · have eo : orP T n i = (false, (plP T n (i + 2)).2.2.2, []) := by
            unfold orP
            rw [hc, if_neg (by omega), if_neg (by omega), if_pos hk, if_pos d, if_neg p1]
          refine finF _ _ _ eo (fun k hk => ?_) ?_ g7
          · rw [hg k (by omega)]
            simp only [upAt, show ¬ k = 7 from by omega, show ¬ k = 8 from by omega, show ¬ k = 9 from by omega, if_false]
          · obtain ⟨a, b, c'⟩ := hFO
            exact ⟨a, b, by rw [hg 12 (by omega)]; simp [upAt, c']⟩
        · have p1 := Decidable.not_not.mp p1
          obtain ⟨g10, g11⟩ := g10 p1
          have g6 : g 6 = sI S y 6 := by
            rw [hg 6 (by omega)]
            rfl
          have lo : ∀ k, k < 7 → g k = sI S y k := fun k hk => by
            rw [hg k (by omega)]
            simp only [upAt, show ¬ k = 7 from by omega, show ¬ k = 8 from by omega, show ¬ k = 9 from by omega, if_false]
          refine ⟨T, n, (plP T n (i + 2)).2.2.2, 61, hM0.up, hT.up g6, by omega, g7, rfl, by omega, by omega, fun p2 => ?_, fun p2 => ?_⟩
          · have hin2 := ch_lt p2 (by omega)
            refine ⟨T, n, (plP T n (i + 2)).2.2.2 + 1, hM0.up, hT.up (by simp [upAt, g6]), by omega, rfl, fun g1 h1 h7 h12 h13 => ⟨fun z => ?_, fun z => ?_⟩⟩
            · have nl : ¬ ltP T n ((plP T n (i + 2)).2.2.2 + 1) := fun a => z (enP_pos a)
              have eo : orP T n i = (false, (plP T n (i + 2)).2.2.2 + 1, []) := by
                unfold orP
                rw [hc, if_neg (by omega), if_neg (by omega), if_pos hk, if_pos d, if_pos p1, if_pos p2, if_neg nl]
              refine finF _ _ _ eo (fun k hk => ?_) ⟨_, by omega, h12⟩ ?_
              · rw [h1 k (by omega)]
                simp only [upAt, show ¬ k = 7 from by omega, if_false]
                exact lo k hk
              · rw [h7, show enP T n ((plP T n (i + 2)).2.2.2 + 1) = 0 by omega, Nat.add_zero]
            · have z := Decidable.not_not.mp z
              have yl : ltP T n ((plP T n (i + 2)).2.2.2 + 1) := Decidable.not_not.mp fun a => by
                have : enP T n ((plP T n (i + 2)).2.2.2 + 1) = 0 := (enP_eq _ _ _).trans (lcP_stop (j := 0) rfl a 81 (by omega))
                omega
              have eo : orP T n i = (true, (plP T n (i + 2)).2.2.2 + 1 + enP T n ((plP T n (i + 2)).2.2.2 + 1), leL T n ((plP T n (i + 2)).2.2.2 + 1) (chP T n (i + 1) - 48) (plP T n (i + 2)).2.1 (plP T n (i + 2)).2.2.1 (enP T n ((plP T n (i + 2)).2.2.2 + 1))) := by
                unfold orP
                rw [hc, if_neg (by omega), if_neg (by omega), if_pos hk, if_pos d, if_pos p1, if_pos p2, if_pos yl]
              have h6 : (plP T n (i + 2)).2.2.2 + 1 + enP T n ((plP T n (i + 2)).2.2.2 + 1) ≤ n := by
                rw [enP_eq]
                exact lcP_end T n ((plP T n (i + 2)).2.2.2 + 1) (by omega) 81
              refine finT _ _ _ eo (fun k hk => ?_) ⟨_, by omega, h12⟩ h7 ⟨?_, fun _ => ⟨(plP T n (i + 2)).2.2.2 + 1, chP T n (i + 1) - 48, (plP T n (i + 2)).2.1, (plP T n (i + 2)).2.2.1, enP T n ((plP T n (i + 2)).2.2.2 + 1), by rw [eo], z, h6, ?_, ?_, ?_, h12, h13, fun j hj => enP_all hj⟩, fun a => absurd (hc.trans hk) a⟩
              · rw [h1 k (by omega)]
                simp only [upAt, show ¬ k = 7 from by omega, if_false]
                exact lo k hk
              · rw [h1 8 (by omega)]
                simp only [upAt]
                rw [if_neg (by omega), hg 8 (by omega)]
                simp [upAt, hc]
              · rw [h1 9 (by omega)]
                simp only [upAt]
                rw [if_neg (by omega), hg 9 (by omega)]
                simp [upAt]
              · rw [h1 10 (by omega)]
                simp only [upAt]
                rw [if_neg (by omega), g10]
              · rw [h1 11 (by omega)]
                simp only [upAt]
                rw [if_neg (by omega), g11]
          · have eo : orP T n i = (false, (plP T n (i + 2)).2.2.2, []) := by
              unfold orP
              rw [hc, if_neg (by omega), if_neg (by omega), if_pos hk, if_pos d, if_pos p1, if_neg p2]
            refine finF _ _ _ eo lo ?_ g7
            obtain ⟨a, b, c'⟩ := hFO
            exact ⟨a, b, by rw [hg 12 (by omega)]; simp [upAt, c']⟩
      · have eo : orP T n i = (false, i + 1, []) := by
          unfold orP
          rw [hc, if_neg (by omega), if_neg (by omega), if_pos hk, if_neg d]
        exact finF _ (i + 1) [] eo (fun k hk => by simp only [upAt, show ¬ k = 7 from by omega, show ¬ k = 8 from by omega, show ¬ k = 9 from by omega, show ¬ k = 10 from by omega, show ¬ k = 11 from by omega, show ¬ k = 12 from by omega, show ¬ k = 13 from by omega, if_false]) (by obtain ⟨a, b, c⟩ := hFO; exact ⟨a, b, by simp [upAt, c]⟩) (by simp [upAt])
    · -- x
      refine ⟨T, n, i + 1, hM0.up, hT.up rfl, by omega, rfl, fun g hg g7 g10 => ⟨by rw [retZb]; trivial, ?_⟩⟩
      have lo : ∀ k, k < 7 → g k = sI S y k := fun k hk => by
        rw [hg k (by omega)]
        simp only [upAt, show ¬ k = 7 from by omega, show ¬ k = 8 from by omega, if_false]
      have fo : FO g := by
        obtain ⟨a, b, c'⟩ := hFO
        exact ⟨a, b, by rw [hg 12 (by omega)]; simp [upAt, c']⟩
      by_cases p1 : (plP T n (i + 1)).1 = true
      · obtain ⟨g10, g11⟩ := g10 p1
        rw [bI_t p1]
        have eo : orP T n i = (true, (plP T n (i + 1)).2.2.2, [(120, 0, (plP T n (i + 1)).2.1, (plP T n (i + 1)).2.2.1, 0)]) := by
          unfold orP
          rw [hc, if_neg (by omega), if_neg (by omega), if_neg (by omega), if_neg (by omega), if_pos hk, if_pos p1]
        exact finT _ _ _ eo lo fo g7 ⟨by rw [hg 8 (by omega)]; simp [upAt, hc], fun a => absurd a (by omega), fun _ => ⟨_, by rw [eo], by simp only [Ent.k, Ent.a, Ent.r, Ent.c, Ent.l]; omega, fun a => absurd rfl a.2, fun _ => ⟨g10, g11⟩⟩⟩
      · rw [bI_f p1]
        have eo : orP T n i = (false, (plP T n (i + 1)).2.2.2, []) := by
          unfold orP
          rw [hc, if_neg (by omega), if_neg (by omega), if_neg (by omega), if_neg (by omega), if_pos hk, if_neg p1]
        exact finF _ _ _ eo lo fo g7
    · rw [nI_toInt (by omega)] at hk
      exact other (by omega) (by omega) (by omega) (by omega) (by omega) (by omega) (by omega)

theorem FO.up7 {f : Nat → Int32} {v : Int32} (h : FO f) : FO (upV f 7 v) := by
  obtain ⟨a, b, c⟩ := h
  exact ⟨a, b, by rw [upAt, if_neg (by omega)]; exact c⟩
def P_X7_fault (as : List Value) (S : SS) (E : Option Value → SS → Prop) : Prop := match as with
  | [.ref y] => ∃ T n, ModAt S y ∧ TM S y T n ∧ FO (sI S y) ∧ ∀ g, (∀ k, k < 7 → g k = sI S y k) → FO g → E (some (.int (paP T n 81 0).1)) (stIA S y g)
  | _ => False
def Γ_X7_fault : List (MI × PT) := [(mi_X7_readsOrder, P_X7_readsOrder), (mi_X7_takes, P_X7_takes)]
theorem hΓ_X7_fault (l : Launch) (G : Gx) : ∀ q ∈ Γ_X7_fault, Ct l G q.1 q.2 := List.forall_mem_cons.mpr ⟨ct_X7_readsOrder l G, List.forall_mem_cons.mpr ⟨ct_X7_takes l G, fun _ h => absurd h List.not_mem_nil⟩⟩
set_option maxHeartbeats 1000000 in
theorem lp0_X7_fault (l : Launch) (G : Gx) {S : SS} {y n i : Nat} {T : Nat → Nat} {E : Option Value → SS → Prop} (hM : ModAt S y) (hT : TM S y T n) {g : Nat → Int32} (g6 : g 6 = sI S y 6) (g7 : g 7 = nI i) (hi : i ≤ n) (h : E (some (.int (if i = n then mI 6 else nI i))) (stIA S y g)) :
    V l G mi_X7_fault E 7 [some (.ref y), some (.int (nI 0))] [] (stIA S y g) 0 0 := by
  refine (V.segN (Γ := Γ_X7_fault) (hΓ_X7_fault l G) so_X7_fault 9 (sg := sg_X7_fault_7) so_X7_fault_7 ?_ : V l G mi_X7_fault _ (segPc sg_X7_fault_7) _ _ _ _ _)
  simp only [mL_X7_fault, mT_X7_fault, rc_X7_fault, rs_X7_fault, Γ_X7_fault, sg_X7_fault_0, sg_X7_fault_7, sg_X7_fault_23, sg_X7_fault_33, sg_X7_fault_49, sg_X7_fault_53, wn_X7_fault_0, wn_X7_fault_7, wn_X7_fault_23, wn_X7_fault_33, wn_X7_fault_49, wn_X7_fault_53, wp_c, ex_c, x_nop, x_goto, x_table, x_iinc, x_ldc, x_ldc2, x_iaload, x_faload, x_baload, x_caload, x_iastore, x_fastore, x_bastore, x_castore, x_aastore, x_alen, x_gets, x_new, x_newa, x_anew, x_invs, x_invi, x_invv, x_ret, x_iret, x_lret, x_fret, x_aret, x_lconst, x_fconst0, x_fconst1, x_fconst2, x_dconst0, x_dconst1, x_null, x_iadd, x_isub, x_imul, x_iand, x_ior, x_idiv, x_irem, x_ineg, x_ishl, x_ishr, x_land, x_lor, x_lushr, x_lshl, x_lcmp, x_i2l, x_l2i, x_i2c, x_i2f, x_f2d, x_d2i, x_d2l, x_fadd, x_fsub, x_fmul, x_fdiv, x_dadd, x_dsub, x_dmul, x_ddiv, x_fcmp, x_dcmp, x_dupI, x_dupR, x_dup2, x_popI, x_popR, ldP_I, ldP_L, ldP_F, ldP_D, ldP_R, ldP_N, x_iload, x_iload_n, x_lload, x_lload_n, x_fload, x_fload_n, x_dload, x_dload_n, x_aload, x_aload_n, x_istore, x_istore_n, x_lstore, x_lstore_n, x_fstore, x_fstore_n, x_dstore, x_dstore_n, x_astore, x_astore_n, x_astoreN, x_astore_nN, x_icmp_eq, x_icmp_ne, x_icmp_lt, x_icmp_ge, x_icmp_gt, x_icmp_le, x_if_eq, x_if_ne, x_if_lt, x_if_ge, x_if_gt, x_if_le, x_ifnull, x_ifnullR, x_ifnn, x_ifnnR, x_aaload2, x_cpI, x_cpF, x_bF, x_bD, x_oI, xk_bipush_120, xk_iconst_0, xk_bipush_m6, xk_iconst_1, xk_bipush_80, xk_bipush_48, xk_bipush_57, xk_bipush_10, xk_bipush_64, xk_bipush_46, xk_bipush_97, xk_bipush_122, xk_bipush_119, xk_bipush_61, xk_bipush_59, xk_bipush_8, xk_bipush_33, xk_bipush_126, xk_bipush_m2, xk_bipush_m4, xk_iconst_4, xk_bipush_6, xk_iconst_2, xk_bipush_40, xk_iconst_3, xk_iconst_5, xk_iconst_m1, xk_bipush_m5, xk_bipush_12, xk_bipush_100, xk_bipush_26, xk_sipush_9999, xk_sipush_500, xk_bipush_7, xk_bipush_m126, xk_bipush_127, xk_bipush_23, xk_sipush_m1022, xk_sipush_1023, xk_bipush_52, xk_bipush_m3, xk_sipush_9830, xk_sipush_4800, xk_sipush_983, xk_sipush_480, xk_bipush_13, xk_bipush_18, xk_bipush_9, xk_bipush_32, xg_0_0, xp_0_0, xg_0_1, xp_0_1, xg_0_2, xp_0_2, xg_0_3, xp_0_3, xg_0_4, xp_0_4, xg_0_5, xp_0_5, xg_0_6, xp_0_6, xg_0_7, xp_0_7, xg_0_8, xp_0_8, xg_1_0, xp_1_0, xg_1_1, xp_1_1, xg_1_2, xp_1_2, xg_1_3, xp_1_3, xg_2_0, xp_2_0, xg_2_1, xp_2_1, xg_2_2, xp_2_2, xg_3_0, xp_3_0, xg_3_1, xp_3_1, xg_3_2, xp_3_2, xg_3_3, xp_3_3, xg_3_4, xp_3_4, xg_3_5, xp_3_5, xg_3_6, xp_3_6, xg_3_7, xp_3_7, xg_3_8, xp_3_8, xg_3_9, xp_3_9, xg_3_10, xp_3_10, xg_3_11, xp_3_11, xg_4_0, xp_4_0, xg_4_1, xp_4_1, xg_5_0, xp_5_0, xg_5_1, xp_5_1, xg_6_0, xp_6_0, xg_6_1, xp_6_1, xg_6_2, xp_6_2, xg_6_3, xp_6_3, xg_6_4, xp_6_4, xg_6_5, xp_6_5, xg_7_0, xp_7_0, xg_7_1, xp_7_1, xg_7_2, xp_7_2, xg_7_3, xp_7_3, xg_7_4, xp_7_4, xg_7_5, xp_7_5, xg_7_6, xp_7_6, xg_7_7, xp_7_7, xg_7_8, xp_7_8, xg_7_9, xp_7_9, xg_7_10, xp_7_10, xg_7_11, xp_7_11, xg_7_12, xp_7_12, xg_7_13, xp_7_13, fv0, fv1, fv2, fv3, kI_0, kI_1, stL, wipeL, entLn, entL, List.getElem?_cons_zero, List.getElem?_cons_succ, List.getElem?_nil, List.set_cons_zero, List.set_cons_succ, List.set_nil, List.length_cons, List.length_nil, List.cons_append, List.nil_append, List.replicate, Nat.reduceAdd, Nat.reduceLeDiff, Nat.reduceSub, true_and, and_true, x_callS, x_callSN, x_callI, x_callIN, x_callV0, x_callV1, x_callV2, x_callV3, x_callV4, x_callV5, x_callV6, x_callV7, callP, List.take_succ_cons, List.take_zero, List.take_nil, List.drop_succ_cons, List.drop_zero, List.drop_nil, List.getLast?_singleton, List.getLast?_cons_cons, Option.some.injEq, Value.ref.injEq, exists_eq_left, exists_eq_left', Nat.zero_le, Nat.add_zero, ldcV_f, ldcV_fn, ldcV_l, ldcV_d, Nat.reduceMul, Nat.le_refl, List.reverse_cons, List.reverse_nil, Option.toList, List.map_cons, List.map_nil, List.sum_cons, List.sum_nil, Value.category, tblW_n, tblW_c, Int.cast_ofNat_Int, Int.reduceAdd, Int.reduceToNat, ofI_n, rc_X7_readsOrder, rs_X7_readsOrder, P_X7_readsOrder, rc_X7_takes, rs_X7_takes, P_X7_takes]
  have hn := hT.1
  have t6 := hT.2.1
  simp only [hM.1, g7, g6, t6, n10', n00', sK_stI, sR_stI, sK_stF, sR_stF, sK_stIA, sR_stIA, sK_stFA, sR_stFA, sI_stI, sI_stF, sI_stIA, sI_stFA, sF_stI, sF_stF, sF_stIA, sF_stFA, Nat.left_eq_add, Nat.add_eq_left, Nat.add_left_cancel_iff, Nat.reduceEqDiff, Nat.reduceEqDiff, Nat.succ_ne_self, false_and, and_false, if_false, if_true, nI_succ_sub, Option.some.injEq, Prod.mk.injEq, exists_eq_left', true_and, and_true, retI, retF, retV, retZ1, retZ0, retL, retA, retN, Nat.reduceAdd, Nat.reduceMul, Nat.reduceLT]
  refine ⟨fun _ => ⟨fun c => ?_, fun c => ?_⟩, fun a => absurd trivial a⟩
  · rw [nI_eq (by omega) (by omega)] at c
    rwa [if_neg c] at h
  · rw [nI_eq (by omega) (by omega)] at c
    rwa [if_pos (Decidable.not_not.mp c)] at h
set_option maxHeartbeats 1000000 in
theorem lp_X7_fault (l : Launch) (G : Gx) {S : SS} {y n : Nat} {T : Nat → Nat} {E : Option Value → SS → Prop} (hM : ModAt S y) (hT : TM S y T n) :
    ∀ f i g, i ≤ n → n < i + f → (∀ k, k < 7 → g k = sI S y k) → FO g → g 7 = nI i → (∀ g', (∀ k, k < 7 → g' k = sI S y k) → FO g' → E (some (.int (paP T n f i).1)) (stIA S y g')) → V l G mi_X7_fault E 7 [some (.ref y), some (.int (nI 1))] [] (stIA S y g) 0 0 := by
  intro f
  induction f with
  | zero => intro i g hi hf; omega
  | succ f ih =>
    intro i g hi hf hg hFO g7 h
    refine (V.segN (Γ := Γ_X7_fault) (hΓ_X7_fault l G) so_X7_fault 9 (sg := sg_X7_fault_7) so_X7_fault_7 ?_ : V l G mi_X7_fault _ (segPc sg_X7_fault_7) _ _ _ _ _)
    simp only [mL_X7_fault, mT_X7_fault, rc_X7_fault, rs_X7_fault, Γ_X7_fault, sg_X7_fault_0, sg_X7_fault_7, sg_X7_fault_23, sg_X7_fault_33, sg_X7_fault_49, sg_X7_fault_53, wn_X7_fault_0, wn_X7_fault_7, wn_X7_fault_23, wn_X7_fault_33, wn_X7_fault_49, wn_X7_fault_53, wp_c, ex_c, x_nop, x_goto, x_table, x_iinc, x_ldc, x_ldc2, x_iaload, x_faload, x_baload, x_caload, x_iastore, x_fastore, x_bastore, x_castore, x_aastore, x_alen, x_gets, x_new, x_newa, x_anew, x_invs, x_invi, x_invv, x_ret, x_iret, x_lret, x_fret, x_aret, x_lconst, x_fconst0, x_fconst1, x_fconst2, x_dconst0, x_dconst1, x_null, x_iadd, x_isub, x_imul, x_iand, x_ior, x_idiv, x_irem, x_ineg, x_ishl, x_ishr, x_land, x_lor, x_lushr, x_lshl, x_lcmp, x_i2l, x_l2i, x_i2c, x_i2f, x_f2d, x_d2i, x_d2l, x_fadd, x_fsub, x_fmul, x_fdiv, x_dadd, x_dsub, x_dmul, x_ddiv, x_fcmp, x_dcmp, x_dupI, x_dupR, x_dup2, x_popI, x_popR, ldP_I, ldP_L, ldP_F, ldP_D, ldP_R, ldP_N, x_iload, x_iload_n, x_lload, x_lload_n, x_fload, x_fload_n, x_dload, x_dload_n, x_aload, x_aload_n, x_istore, x_istore_n, x_lstore, x_lstore_n, x_fstore, x_fstore_n, x_dstore, x_dstore_n, x_astore, x_astore_n, x_astoreN, x_astore_nN, x_icmp_eq, x_icmp_ne, x_icmp_lt, x_icmp_ge, x_icmp_gt, x_icmp_le, x_if_eq, x_if_ne, x_if_lt, x_if_ge, x_if_gt, x_if_le, x_ifnull, x_ifnullR, x_ifnn, x_ifnnR, x_aaload2, x_cpI, x_cpF, x_bF, x_bD, x_oI, xk_bipush_120, xk_iconst_0, xk_bipush_m6, xk_iconst_1, xk_bipush_80, xk_bipush_48, xk_bipush_57, xk_bipush_10, xk_bipush_64, xk_bipush_46, xk_bipush_97, xk_bipush_122, xk_bipush_119, xk_bipush_61, xk_bipush_59, xk_bipush_8, xk_bipush_33, xk_bipush_126, xk_bipush_m2, xk_bipush_m4, xk_iconst_4, xk_bipush_6, xk_iconst_2, xk_bipush_40, xk_iconst_3, xk_iconst_5, xk_iconst_m1, xk_bipush_m5, xk_bipush_12, xk_bipush_100, xk_bipush_26, xk_sipush_9999, xk_sipush_500, xk_bipush_7, xk_bipush_m126, xk_bipush_127, xk_bipush_23, xk_sipush_m1022, xk_sipush_1023, xk_bipush_52, xk_bipush_m3, xk_sipush_9830, xk_sipush_4800, xk_sipush_983, xk_sipush_480, xk_bipush_13, xk_bipush_18, xk_bipush_9, xk_bipush_32, xg_0_0, xp_0_0, xg_0_1, xp_0_1, xg_0_2, xp_0_2, xg_0_3, xp_0_3, xg_0_4, xp_0_4, xg_0_5, xp_0_5, xg_0_6, xp_0_6, xg_0_7, xp_0_7, xg_0_8, xp_0_8, xg_1_0, xp_1_0, xg_1_1, xp_1_1, xg_1_2, xp_1_2, xg_1_3, xp_1_3, xg_2_0, xp_2_0, xg_2_1, xp_2_1, xg_2_2, xp_2_2, xg_3_0, xp_3_0, xg_3_1, xp_3_1, xg_3_2, xp_3_2, xg_3_3, xp_3_3, xg_3_4, xp_3_4, xg_3_5, xp_3_5, xg_3_6, xp_3_6, xg_3_7, xp_3_7, xg_3_8, xp_3_8, xg_3_9, xp_3_9, xg_3_10, xp_3_10, xg_3_11, xp_3_11, xg_4_0, xp_4_0, xg_4_1, xp_4_1, xg_5_0, xp_5_0, xg_5_1, xp_5_1, xg_6_0, xp_6_0, xg_6_1, xp_6_1, xg_6_2, xp_6_2, xg_6_3, xp_6_3, xg_6_4, xp_6_4, xg_6_5, xp_6_5, xg_7_0, xp_7_0, xg_7_1, xp_7_1, xg_7_2, xp_7_2, xg_7_3, xp_7_3, xg_7_4, xp_7_4, xg_7_5, xp_7_5, xg_7_6, xp_7_6, xg_7_7, xp_7_7, xg_7_8, xp_7_8, xg_7_9, xp_7_9, xg_7_10, xp_7_10, xg_7_11, xp_7_11, xg_7_12, xp_7_12, xg_7_13, xp_7_13, fv0, fv1, fv2, fv3, kI_0, kI_1, stL, wipeL, entLn, entL, List.getElem?_cons_zero, List.getElem?_cons_succ, List.getElem?_nil, List.set_cons_zero, List.set_cons_succ, List.set_nil, List.length_cons, List.length_nil, List.cons_append, List.nil_append, List.replicate, Nat.reduceAdd, Nat.reduceLeDiff, Nat.reduceSub, true_and, and_true, x_callS, x_callSN, x_callI, x_callIN, x_callV0, x_callV1, x_callV2, x_callV3, x_callV4, x_callV5, x_callV6, x_callV7, callP, List.take_succ_cons, List.take_zero, List.take_nil, List.drop_succ_cons, List.drop_zero, List.drop_nil, List.getLast?_singleton, List.getLast?_cons_cons, Option.some.injEq, Value.ref.injEq, exists_eq_left, exists_eq_left', Nat.zero_le, Nat.add_zero, ldcV_f, ldcV_fn, ldcV_l, ldcV_d, Nat.reduceMul, Nat.le_refl, List.reverse_cons, List.reverse_nil, Option.toList, List.map_cons, List.map_nil, List.sum_cons, List.sum_nil, Value.category, tblW_n, tblW_c, Int.cast_ofNat_Int, Int.reduceAdd, Int.reduceToNat, ofI_n, rc_X7_readsOrder, rs_X7_readsOrder, P_X7_readsOrder, rc_X7_takes, rs_X7_takes, P_X7_takes]
    have hn := hT.1
    have hM2 : ModAt (stIA S y g) y := hM.up
    have hT2 : TM (stIA S y g) y T n := hT.up (hg 6 (by omega))
    simp only [hM.1, bI_0, n10', n00', sK_stI, sR_stI, sK_stF, sR_stF, sK_stIA, sR_stIA, sK_stFA, sR_stFA, sI_stI, sI_stF, sI_stIA, sI_stFA, sF_stI, sF_stF, sF_stIA, sF_stFA, Nat.left_eq_add, Nat.add_eq_left, Nat.add_left_cancel_iff, Nat.reduceEqDiff, Nat.reduceEqDiff, Nat.succ_ne_self, false_and, and_false, if_false, if_true, nI_succ_sub, Option.some.injEq, Prod.mk.injEq, exists_eq_left', true_and, and_true, retI, retF, retV, retZ1, retZ0, retL, retA, retN, Nat.reduceAdd, Nat.reduceMul, Nat.reduceLT]
    refine ⟨fun a => absurd a (by simp), fun _ => ⟨T, n, i, hM2, hT2, hi, g7, hFO, fun g1 h1 f1 h7 hK => ?_⟩⟩
    have lo1 : ∀ k, k < 7 → g1 k = sI S y k := fun k hk => (h1 k hk).trans (hg k hk)
    have M3 : ModAt (stIA (stIA S y g) y g1) y := hM2.up
    have T3 : TM (stIA (stIA S y g) y g1) y T n := hT2.up (by rw [sI_stIA, if_pos rfl]; exact h1 6 (by omega))
    obtain ⟨b1, b2, -, b3⟩ := orP_le (T := T) (n := n) (i := i) hi
    rw [stIA_stIA] at M3 T3
    simp only [stIA_stIA]
    refine ⟨fun ok => ?_, fun ok => ?_⟩
    · have ok := Decidable.not_not.mp ok
      refine ⟨T, n, (orP T n i).2.1, 59, M3, T3, by omega, h7, rfl, by omega, by omega, fun c => ?_, fun c => ?_⟩
      · have hin := ch_lt c (by omega)
        refine ih ((orP T n i).2.1 + 1) _ (by omega) (by have := b3 ok; omega) (fun k hk => by rw [upAt, if_neg (by omega)]; exact lo1 k hk) f1.up7 (by simp [upAt]) (fun g' hg' fg' => ?_)
        have := h g' hg' fg'
        unfold paP at this
        rwa [if_pos ok, if_pos hin, if_pos c] at this
      · refine lp0_X7_fault l G hM hT (lo1 6 (by omega)) h7 b2 ?_
        have := h g1 lo1 f1
        unfold paP at this
        rw [if_pos ok] at this
        by_cases hin : (orP T n i).2.1 < n
        · rw [if_pos hin, if_neg c] at this
          rwa [if_neg (by omega)]
        · rw [if_neg hin] at this
          rwa [if_pos (by omega)]
    · have := h g1 lo1 f1
      unfold paP at this
      rw [if_neg (Decidable.not_not.mp ok)] at this
      rwa [h7]
theorem ct_X7_fault (l : Launch) (G : Gx) : Ct l G mi_X7_fault P_X7_fault := by
  refine Ct.ofV mo_X7_fault (fun as S E h => ?_)
  unfold P_X7_fault at h
  split at h
  case h_2 => exact h.elim
  rename_i y
  refine ⟨by simp [entL, mL_X7_fault], ?_⟩
  refine wpN_ok (Γ := Γ_X7_fault) (hΓ_X7_fault l G) so_X7_fault 5 _ _ _ _ _ _ ?_
  simp only [mL_X7_fault, mT_X7_fault, rc_X7_fault, rs_X7_fault, Γ_X7_fault, sg_X7_fault_0, sg_X7_fault_7, sg_X7_fault_23, sg_X7_fault_33, sg_X7_fault_49, sg_X7_fault_53, wn_X7_fault_0, wn_X7_fault_7, wn_X7_fault_23, wn_X7_fault_33, wn_X7_fault_49, wn_X7_fault_53, wp_c, ex_c, x_nop, x_goto, x_table, x_iinc, x_ldc, x_ldc2, x_iaload, x_faload, x_baload, x_caload, x_iastore, x_fastore, x_bastore, x_castore, x_aastore, x_alen, x_gets, x_new, x_newa, x_anew, x_invs, x_invi, x_invv, x_ret, x_iret, x_lret, x_fret, x_aret, x_lconst, x_fconst0, x_fconst1, x_fconst2, x_dconst0, x_dconst1, x_null, x_iadd, x_isub, x_imul, x_iand, x_ior, x_idiv, x_irem, x_ineg, x_ishl, x_ishr, x_land, x_lor, x_lushr, x_lshl, x_lcmp, x_i2l, x_l2i, x_i2c, x_i2f, x_f2d, x_d2i, x_d2l, x_fadd, x_fsub, x_fmul, x_fdiv, x_dadd, x_dsub, x_dmul, x_ddiv, x_fcmp, x_dcmp, x_dupI, x_dupR, x_dup2, x_popI, x_popR, ldP_I, ldP_L, ldP_F, ldP_D, ldP_R, ldP_N, x_iload, x_iload_n, x_lload, x_lload_n, x_fload, x_fload_n, x_dload, x_dload_n, x_aload, x_aload_n, x_istore, x_istore_n, x_lstore, x_lstore_n, x_fstore, x_fstore_n, x_dstore, x_dstore_n, x_astore, x_astore_n, x_astoreN, x_astore_nN, x_icmp_eq, x_icmp_ne, x_icmp_lt, x_icmp_ge, x_icmp_gt, x_icmp_le, x_if_eq, x_if_ne, x_if_lt, x_if_ge, x_if_gt, x_if_le, x_ifnull, x_ifnullR, x_ifnn, x_ifnnR, x_aaload2, x_cpI, x_cpF, x_bF, x_bD, x_oI, xk_bipush_120, xk_iconst_0, xk_bipush_m6, xk_iconst_1, xk_bipush_80, xk_bipush_48, xk_bipush_57, xk_bipush_10, xk_bipush_64, xk_bipush_46, xk_bipush_97, xk_bipush_122, xk_bipush_119, xk_bipush_61, xk_bipush_59, xk_bipush_8, xk_bipush_33, xk_bipush_126, xk_bipush_m2, xk_bipush_m4, xk_iconst_4, xk_bipush_6, xk_iconst_2, xk_bipush_40, xk_iconst_3, xk_iconst_5, xk_iconst_m1, xk_bipush_m5, xk_bipush_12, xk_bipush_100, xk_bipush_26, xk_sipush_9999, xk_sipush_500, xk_bipush_7, xk_bipush_m126, xk_bipush_127, xk_bipush_23, xk_sipush_m1022, xk_sipush_1023, xk_bipush_52, xk_bipush_m3, xk_sipush_9830, xk_sipush_4800, xk_sipush_983, xk_sipush_480, xk_bipush_13, xk_bipush_18, xk_bipush_9, xk_bipush_32, xg_0_0, xp_0_0, xg_0_1, xp_0_1, xg_0_2, xp_0_2, xg_0_3, xp_0_3, xg_0_4, xp_0_4, xg_0_5, xp_0_5, xg_0_6, xp_0_6, xg_0_7, xp_0_7, xg_0_8, xp_0_8, xg_1_0, xp_1_0, xg_1_1, xp_1_1, xg_1_2, xp_1_2, xg_1_3, xp_1_3, xg_2_0, xp_2_0, xg_2_1, xp_2_1, xg_2_2, xp_2_2, xg_3_0, xp_3_0, xg_3_1, xp_3_1, xg_3_2, xp_3_2, xg_3_3, xp_3_3, xg_3_4, xp_3_4, xg_3_5, xp_3_5, xg_3_6, xp_3_6, xg_3_7, xp_3_7, xg_3_8, xp_3_8, xg_3_9, xp_3_9, xg_3_10, xp_3_10, xg_3_11, xp_3_11, xg_4_0, xp_4_0, xg_4_1, xp_4_1, xg_5_0, xp_5_0, xg_5_1, xp_5_1, xg_6_0, xp_6_0, xg_6_1, xp_6_1, xg_6_2, xp_6_2, xg_6_3, xp_6_3, xg_6_4, xp_6_4, xg_6_5, xp_6_5, xg_7_0, xp_7_0, xg_7_1, xp_7_1, xg_7_2, xp_7_2, xg_7_3, xp_7_3, xg_7_4, xp_7_4, xg_7_5, xp_7_5, xg_7_6, xp_7_6, xg_7_7, xp_7_7, xg_7_8, xp_7_8, xg_7_9, xp_7_9, xg_7_10, xp_7_10, xg_7_11, xp_7_11, xg_7_12, xp_7_12, xg_7_13, xp_7_13, fv0, fv1, fv2, fv3, kI_0, kI_1, stL, wipeL, entLn, entL, List.getElem?_cons_zero, List.getElem?_cons_succ, List.getElem?_nil, List.set_cons_zero, List.set_cons_succ, List.set_nil, List.length_cons, List.length_nil, List.cons_append, List.nil_append, List.replicate, Nat.reduceAdd, Nat.reduceLeDiff, Nat.reduceSub, true_and, and_true, x_callS, x_callSN, x_callI, x_callIN, x_callV0, x_callV1, x_callV2, x_callV3, x_callV4, x_callV5, x_callV6, x_callV7, callP, List.take_succ_cons, List.take_zero, List.take_nil, List.drop_succ_cons, List.drop_zero, List.drop_nil, List.getLast?_singleton, List.getLast?_cons_cons, Option.some.injEq, Value.ref.injEq, exists_eq_left, exists_eq_left', Nat.zero_le, Nat.add_zero, ldcV_f, ldcV_fn, ldcV_l, ldcV_d, Nat.reduceMul, Nat.le_refl, List.reverse_cons, List.reverse_nil, Option.toList, List.map_cons, List.map_nil, List.sum_cons, List.sum_nil, Value.category, tblW_n, tblW_c, Int.cast_ofNat_Int, Int.reduceAdd, Int.reduceToNat, ofI_n, rc_X7_readsOrder, rs_X7_readsOrder, P_X7_readsOrder, rc_X7_takes, rs_X7_takes, P_X7_takes]
  obtain ⟨T, n, hM, hT, hFO, h⟩ := h
  simp only [hM.1, st_up, sK_stI, sR_stI, sK_stF, sR_stF, sK_stIA, sR_stIA, sK_stFA, sR_stFA, sI_stI, sI_stF, sI_stIA, sI_stFA, sF_stI, sF_stF, sF_stIA, sF_stFA, Nat.left_eq_add, Nat.add_eq_left, Nat.add_left_cancel_iff, Nat.reduceEqDiff, Nat.reduceEqDiff, Nat.succ_ne_self, false_and, and_false, if_false, if_true, nI_succ_sub, Option.some.injEq, Prod.mk.injEq, exists_eq_left', true_and, and_true, retI, retF, retV, retZ1, retZ0, retL, retA, retN, Nat.reduceAdd, Nat.reduceMul, Nat.reduceLT]
  exact lp_X7_fault l G hM hT 81 0 _ (by omega) (by have := hT.1; omega) (fun k hk => by rw [upAt, if_neg (by omega)]) hFO.up7 (by simp [upAt]) h
