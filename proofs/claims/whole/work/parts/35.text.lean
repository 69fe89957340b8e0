-- needs: 18.nums 19.proj 20.spec 21.shape 22.leaf 23.fl 23.view 24.loops 32.pad 33.orders 34.read
/-! the whole text read -/
theorem RO.app {S T U : SS} {o s i j : Nat} {es es' : List Ent} (h : RO S T o s i es) (k : RO T U o (s + es.length) j es') : RO S U o s j (es ++ es') := by
  obtain ⟨h1, h2, h3, h4, h5, h6, h7⟩ := h
  obtain ⟨k1, k2, k3, k4, k5, k6, k7⟩ := k
  refine ⟨h1.trans k1, k2.trans h2, k3.trans h3, k4, ?_, h6.trans k6 (by omega), fun e x hx => ?_⟩
  · rw [k5, List.length_append, Nat.add_assoc]
  · by_cases c : e < es.length
    · rw [List.getElem?_append_left c] at hx
      exact (h7 e x hx).same k6 (by omega)
    · rw [List.getElem?_append_right (by omega)] at hx
      have := k7 _ x hx
      rwa [show s + es.length + (e - es.length) = s + e by omega] at this
theorem lcP_le (T : Nat → Nat) (n q : Nat) : ∀ m, lcP T n q m ≤ m
  | 0 => Nat.le_refl _
  | m + 1 => by
    have := lcP_le T n q m
    rw [lcP_s]
    split <;> omega
theorem lcP_end (T : Nat → Nat) (n q : Nat) (hq : q ≤ n) : ∀ m, q + lcP T n q m ≤ n
  | 0 => hq
  | m + 1 => by
    have := lcP_end T n q hq m
    rw [lcP_s]
    split
    · rename_i h
      have := ltP_lt h.2
      omega
    · exact this
theorem ch_lt {T : Nat → Nat} {n i c : Nat} (h : chP T n i = c) (hc : 0 < c) : i < n := by
  apply Nat.lt_of_not_le
  intro a
  unfold chP at h
  rw [if_neg (by omega)] at h
  omega
theorem plP_gt {T : Nat → Nat} {n i : Nat} (hi : i ≤ n) (h : (plP T n i).1 = true) : i < (plP T n i).2.2.2 := by
  unfold plP at h ⊢
  split
  · rename_i h1
    have hin := ch_lt h1 (by omega)
    have m := nmP_le (T := T) (n := n) (i := i + 1) (by omega)
    split
    · split
      · rename_i h2
        have hin2 := ch_lt h2 (by omega)
        have m2 := nmP_le (T := T) (n := n) (i := (nmP T n (i + 1)).2.2 + 1) (by omega)
        show i < (nmP T n ((nmP T n (i + 1)).2.2 + 1)).2.2
        omega
      · show i < (nmP T n (i + 1)).2.2
        omega
    · show i < i + 1
      omega
  · rename_i h1
    rw [if_neg h1] at h
    exact absurd h (by simp)
theorem leL_len (T : Nat → Nat) (n q d r c m : Nat) : (leL T n q d r c m).length = m := by unfold leL; rw [List.length_map, List.length_range]
theorem orP_le {T : Nat → Nat} {n i : Nat} (hi : i ≤ n) : i ≤ (orP T n i).2.1 ∧ (orP T n i).2.1 ≤ n ∧ (orP T n i).2.2.length ≤ (orP T n i).2.1 - i ∧ ((orP T n i).1 = true → i < (orP T n i).2.1) := by
  unfold orP
  split
  · rename_i q
    have := ch_lt q (by omega)
    exact ⟨by show i ≤ i + 1; omega, by show i + 1 ≤ n; omega, by show 1 ≤ i + 1 - i; omega, fun _ => by show i < i + 1; omega⟩
  split
  · rename_i q
    have := ch_lt (c := chP T n i) rfl (by omega)
    split
    · rename_i q2
      have := dgP_lt q2
      exact ⟨by show i ≤ i + 2; omega, by show i + 2 ≤ n; omega, by show 1 ≤ i + 2 - i; omega, fun _ => by show i < i + 2; omega⟩
    · exact ⟨by show i ≤ i + 1; omega, by show i + 1 ≤ n; omega, by show 0 ≤ i + 1 - i; omega, fun a => by simp at a⟩
  split
  · rename_i q
    have := ch_lt q (by omega)
    split
    · rename_i q2
      have := dgP_lt q2
      have hp := plP_le (T := T) (n := n) (i := i + 2) (by omega)
      split
      · rename_i q3
        have hp2 := plP_gt (T := T) (n := n) (i := i + 2) (by omega) q3
        split
        · rename_i q4
          have h4 := ch_lt q4 (by omega)
          have h6 : (plP T n (i + 2)).2.2.2 + 1 + enP T n ((plP T n (i + 2)).2.2.2 + 1) ≤ n := by
            rw [enP_eq]
            exact lcP_end T n ((plP T n (i + 2)).2.2.2 + 1) (by omega) 81
          split
          · refine ⟨?_, ?_, ?_, fun _ => ?_⟩
            · show i ≤ (plP T n (i + 2)).2.2.2 + 1 + enP T n ((plP T n (i + 2)).2.2.2 + 1)
              omega
            · show (plP T n (i + 2)).2.2.2 + 1 + enP T n ((plP T n (i + 2)).2.2.2 + 1) ≤ n
              exact h6
            · dsimp only
              rw [leL_len]
              omega
            · show i < (plP T n (i + 2)).2.2.2 + 1 + enP T n ((plP T n (i + 2)).2.2.2 + 1)
              omega
          · exact ⟨by show i ≤ (plP T n (i + 2)).2.2.2 + 1; omega, by show (plP T n (i + 2)).2.2.2 + 1 ≤ n; omega, Nat.zero_le _, fun a => by simp at a⟩
        · exact ⟨by show i ≤ (plP T n (i + 2)).2.2.2; omega, hp.2, Nat.zero_le _, fun a => by simp at a⟩
      · exact ⟨by show i ≤ (plP T n (i + 2)).2.2.2; omega, hp.2, Nat.zero_le _, fun a => by simp at a⟩
    · exact ⟨by show i ≤ i + 1; omega, by show i + 1 ≤ n; omega, Nat.zero_le _, fun a => by simp at a⟩
  split
  · rename_i q
    have := ch_lt q (by omega)
    split
    · rename_i q2
      have := dgP_lt q2
      have hp := plP_le (T := T) (n := n) (i := i + 2) (by omega)
      split
      · exact ⟨by show i ≤ (plP T n (i + 2)).2.2.2; omega, hp.2, by show 1 ≤ (plP T n (i + 2)).2.2.2 - i; omega, fun _ => by show i < (plP T n (i + 2)).2.2.2; omega⟩
      · exact ⟨by show i ≤ (plP T n (i + 2)).2.2.2; omega, hp.2, Nat.zero_le _, fun a => by simp at a⟩
    · exact ⟨by show i ≤ i + 1; omega, by show i + 1 ≤ n; omega, Nat.zero_le _, fun a => by simp at a⟩
  split
  · rename_i q
    have := ch_lt q (by omega)
    have hp := plP_le (T := T) (n := n) (i := i + 1) (by omega)
    split
    · exact ⟨by show i ≤ (plP T n (i + 1)).2.2.2; omega, hp.2, by show 1 ≤ (plP T n (i + 1)).2.2.2 - i; omega, fun _ => by show i < (plP T n (i + 1)).2.2.2; omega⟩
    · exact ⟨by show i ≤ (plP T n (i + 1)).2.2.2; omega, hp.2, Nat.zero_le _, fun a => by simp at a⟩
  split
  · rename_i q
    have := ch_lt q (by omega)
    have hp := nmP_le (T := T) (n := n) (i := i + 1) (by omega)
    split
    · exact ⟨by show i ≤ (nmP T n (i + 1)).2.2; omega, hp.2.1, by show 1 ≤ (nmP T n (i + 1)).2.2 - i; omega, fun _ => by show i < (nmP T n (i + 1)).2.2; omega⟩
    · exact ⟨by show i ≤ i + 1; omega, by show i + 1 ≤ n; omega, Nat.zero_le _, fun a => by simp at a⟩
  · exact ⟨Nat.le_refl _, hi, Nat.zero_le _, fun a => by simp at a⟩
theorem orP_fail {T : Nat → Nat} {n i : Nat} (h : ¬ (orP T n i).1 = true) : (orP T n i).2.2 = [] := by
  revert h
  unfold orP
  repeat' split
  all_goals simp
/-- the fault or none, and the orders -/
noncomputable def paP (T : Nat → Nat) (n : Nat) : Nat → Nat → Int32 × List Ent
  | 0, i => (nI i, [])
  | f + 1, i => if (orP T n i).1 = true then (if (orP T n i).2.1 < n then (if chP T n (orP T n i).2.1 = 59 then ((paP T n f ((orP T n i).2.1 + 1)).1, (orP T n i).2.2 ++ (paP T n f ((orP T n i).2.1 + 1)).2) else (nI (orP T n i).2.1, (orP T n i).2.2)) else (mI 6, (orP T n i).2.2)) else (nI (orP T n i).2.1, [])
def P_X3_readPad (as : List Value) (S : SS) (E : Option Value → SS → Prop) : Prop := match as with
  | [.ref o] => ∃ T n, PO S o T n ∧ ∀ S' i, RO S S' o 0 i (paP T n 81 0).2 → E (some (.int (paP T n 81 0).1)) S'
  | _ => False
def Γ_X3_readPad : List (MI × PT) := [(mi_X3_readOrder, P_X3_readOrder), (mi_X3_reads, P_X3_reads)]
theorem hΓ_X3_readPad (l : Launch) (G : Gx) : ∀ q ∈ Γ_X3_readPad, Ct l G q.1 q.2 := List.forall_mem_cons.mpr ⟨ct_X3_readOrder l G, List.forall_mem_cons.mpr ⟨ct_X3_reads l G, fun _ h => absurd h List.not_mem_nil⟩⟩
set_option maxHeartbeats 1000000 in
theorem lp_X3_readPad (l : Launch) (G : Gx) {S : SS} {o : Nat} {T : Nat → Nat} {n : Nat} {E : Option Value → SS → Prop} (hP : PO S o T n) :
    ∀ f i k es T', i ≤ n → n - i < f → 2 * k ≤ i → RO S T' o 0 i es → es.length ≤ i → (∀ S' j, RO S S' o 0 j (es ++ (paP T n f i).2) → E (some (.int (paP T n f i).1)) S') → V l G mi_X3_readPad E 12 [some (.ref o), some (.int (nI k))] [] T' 0 0 := by
  intro f
  induction f with
  | zero => intro i k es T' _ h2; exact absurd h2 (by omega)
  | succ f ih =>
    intro i k es T' hi hf hk hR hl h
    have hn := hP.2.1
    refine (V.segN (Γ := Γ_X3_readPad) (hΓ_X3_readPad l G) so_X3_readPad 5 (sg := sg_X3_readPad_12) so_X3_readPad_12 ?_ : V l G mi_X3_readPad _ (segPc sg_X3_readPad_12) _ _ _ _ _)
    simp only [mL_X3_readPad, mT_X3_readPad, rc_X3_readPad, rs_X3_readPad, Γ_X3_readPad, sg_X3_readPad_0, sg_X3_readPad_12, sg_X3_readPad_30, sg_X3_readPad_47, sg_X3_readPad_61, sg_X3_readPad_67, wn_X3_readPad_0, wn_X3_readPad_12, wn_X3_readPad_30, wn_X3_readPad_47, wn_X3_readPad_61, wn_X3_readPad_67, wp_c, ex_c, x_nop, x_goto, x_table, x_iinc, x_ldc, x_ldc2, x_iaload, x_faload, x_baload, x_caload, x_iastore, x_fastore, x_bastore, x_castore, x_aastore, x_alen, x_gets, x_new, x_newa, x_anew, x_invs, x_invi, x_invv, x_ret, x_iret, x_lret, x_fret, x_aret, x_lconst, x_fconst0, x_fconst1, x_fconst2, x_dconst0, x_dconst1, x_null, x_iadd, x_isub, x_imul, x_iand, x_ior, x_idiv, x_irem, x_ineg, x_ishl, x_ishr, x_land, x_lor, x_lushr, x_lshl, x_lcmp, x_i2l, x_l2i, x_i2c, x_i2f, x_f2d, x_d2i, x_d2l, x_fadd, x_fsub, x_fmul, x_fdiv, x_dadd, x_dsub, x_dmul, x_ddiv, x_fcmp, x_dcmp, x_dupI, x_dupR, x_dup2, x_popI, x_popR, ldP_I, ldP_L, ldP_F, ldP_D, ldP_R, ldP_N, x_iload, x_iload_n, x_lload, x_lload_n, x_fload, x_fload_n, x_dload, x_dload_n, x_aload, x_aload_n, x_istore, x_istore_n, x_lstore, x_lstore_n, x_fstore, x_fstore_n, x_dstore, x_dstore_n, x_astore, x_astore_n, x_astoreN, x_astore_nN, x_icmp_eq, x_icmp_ne, x_icmp_lt, x_icmp_ge, x_icmp_gt, x_icmp_le, x_if_eq, x_if_ne, x_if_lt, x_if_ge, x_if_gt, x_if_le, x_ifnull, x_ifnullR, x_ifnn, x_ifnnR, x_aaload2, x_cpI, x_cpF, x_bF, x_bD, x_oI, xk_bipush_120, xk_iconst_0, xk_bipush_m6, xk_iconst_1, xk_bipush_80, xk_bipush_48, xk_bipush_57, xk_bipush_10, xk_bipush_64, xk_bipush_46, xk_bipush_97, xk_bipush_122, xk_bipush_119, xk_bipush_61, xk_bipush_59, xk_bipush_8, xk_bipush_33, xk_bipush_126, xk_bipush_m2, xk_bipush_m4, xk_iconst_4, xk_bipush_6, xk_iconst_2, xk_bipush_40, xk_iconst_3, xk_iconst_5, xk_iconst_m1, xk_bipush_m5, xk_bipush_12, xk_bipush_100, xk_bipush_26, xk_sipush_9999, xk_sipush_500, xk_bipush_7, xk_bipush_m126, xk_bipush_127, xk_bipush_23, xk_sipush_m1022, xk_sipush_1023, xk_bipush_52, xk_bipush_m3, xk_sipush_9830, xk_sipush_4800, xk_sipush_983, xk_sipush_480, xk_bipush_13, xk_bipush_18, xk_bipush_9, xk_bipush_32, xg_0_0, xp_0_0, xg_0_1, xp_0_1, xg_0_2, xp_0_2, xg_0_3, xp_0_3, xg_0_4, xp_0_4, xg_0_5, xp_0_5, xg_0_6, xp_0_6, xg_0_7, xp_0_7, xg_0_8, xp_0_8, xg_1_0, xp_1_0, xg_1_1, xp_1_1, xg_1_2, xp_1_2, xg_1_3, xp_1_3, xg_2_0, xp_2_0, xg_2_1, xp_2_1, xg_2_2, xp_2_2, xg_3_0, xp_3_0, xg_3_1, xp_3_1, xg_3_2, xp_3_2, xg_3_3, xp_3_3, xg_3_4, xp_3_4, xg_3_5, xp_3_5, xg_3_6, xp_3_6, xg_3_7, xp_3_7, xg_3_8, xp_3_8, xg_3_9, xp_3_9, xg_3_10, xp_3_10, xg_3_11, xp_3_11, xg_4_0, xp_4_0, xg_4_1, xp_4_1, xg_5_0, xp_5_0, xg_5_1, xp_5_1, xg_6_0, xp_6_0, xg_6_1, xp_6_1, xg_6_2, xp_6_2, xg_6_3, xp_6_3, xg_6_4, xp_6_4, xg_6_5, xp_6_5, xg_7_0, xp_7_0, xg_7_1, xp_7_1, xg_7_2, xp_7_2, xg_7_3, xp_7_3, xg_7_4, xp_7_4, xg_7_5, xp_7_5, xg_7_6, xp_7_6, xg_7_7, xp_7_7, xg_7_8, xp_7_8, xg_7_9, xp_7_9, xg_7_10, xp_7_10, xg_7_11, xp_7_11, xg_7_12, xp_7_12, xg_7_13, xp_7_13, fv0, fv1, fv2, fv3, kI_0, kI_1, stL, wipeL, entLn, entL, List.getElem?_cons_zero, List.getElem?_cons_succ, List.getElem?_nil, List.set_cons_zero, List.set_cons_succ, List.set_nil, List.length_cons, List.length_nil, List.cons_append, List.nil_append, List.replicate, Nat.reduceAdd, Nat.reduceLeDiff, Nat.reduceSub, true_and, and_true, x_callS, x_callSN, x_callI, x_callIN, x_callV0, x_callV1, x_callV2, x_callV3, x_callV4, x_callV5, x_callV6, x_callV7, callP, List.take_succ_cons, List.take_zero, List.take_nil, List.drop_succ_cons, List.drop_zero, List.drop_nil, List.getLast?_singleton, List.getLast?_cons_cons, Option.some.injEq, Value.ref.injEq, exists_eq_left, exists_eq_left', Nat.zero_le, Nat.add_zero, ldcV_f, ldcV_fn, ldcV_l, ldcV_d, Nat.reduceMul, Nat.le_refl, List.reverse_cons, List.reverse_nil, Option.toList, List.map_cons, List.map_nil, List.sum_cons, List.sum_nil, Value.category, tblW_n, tblW_c, Int.cast_ofNat_Int, Int.reduceAdd, Int.reduceToNat, ofI_n, rc_X3_readOrder, rs_X3_readOrder, P_X3_readOrder, rc_X3_reads, rs_X3_reads, P_X3_reads]
    have hk80 : ¬ nI 80 ≤ nI k := by
      rw [nI_leI (by omega) (by omega)]
      omega
    refine ⟨fun a => absurd a hk80, fun _ => ?_⟩
    have hPT := hP.ro hR
    have o0 := hPT.1.1
    have u7 := hR.2.2.2.1
    have u6 := hR.2.2.2.2.1
    rw [Nat.zero_add] at u6
    simp only [o0, bI_0, sK_stI, sR_stI, sK_stF, sR_stF, sK_stIA, sR_stIA, sK_stFA, sR_stFA, sI_stI, sI_stF, sI_stIA, sI_stFA, sF_stI, sF_stF, sF_stIA, sF_stFA, Nat.left_eq_add, Nat.add_eq_left, Nat.add_left_cancel_iff, Nat.reduceEqDiff, Nat.reduceEqDiff, Nat.succ_ne_self, false_and, and_false, if_false, if_true, nI_succ_sub, Option.some.injEq, Prod.mk.injEq, exists_eq_left', true_and, and_true, retI, retF, retV, retZ1, retZ0, retL, retA, retN, Nat.reduceAdd, Nat.reduceMul, Nat.reduceLT]
    refine ⟨T, n, i, es.length, hPT, hi, hl, u7, u6, fun U hU => ?_⟩
    have hle := orP_le (T := T) (n := n) hi
    have hA : RO S U o 0 (orP T n i).2.1 (es ++ (orP T n i).2.2) := RO.app hR (by rw [Nat.zero_add]; exact hU)
    have hPU := hP.ro hA
    have v7 := hU.2.2.2.1
    have w0 := hPU.1.1
    have w1 := hPU.1.2.1
    have w2 := hPU.1.2.2.2.2.2.2.2.1
    have w3 := hPU.2.2.1
    simp only [w0, w1, w2, w3, v7, upAt, if_true, n10, n00, not_true_eq_false, not_false_eq_true, false_implies, true_implies, and_true, true_and, sK_stI, sR_stI, sK_stF, sR_stF, sK_stIA, sR_stIA, sK_stFA, sR_stFA, sI_stI, sI_stF, sI_stIA, sI_stFA, sF_stI, sF_stF, sF_stIA, sF_stFA, Nat.left_eq_add, Nat.add_eq_left, Nat.add_left_cancel_iff, Nat.reduceEqDiff, Nat.reduceEqDiff, Nat.succ_ne_self, false_and, and_false, if_false, if_true, nI_succ_sub, Option.some.injEq, Prod.mk.injEq, exists_eq_left', true_and, and_true, retI, retF, retV, retZ1, retZ0, retL, retA, retN, Nat.reduceAdd, Nat.reduceMul, Nat.reduceLT]
    have hch := chP_lt hPU (orP T n i).2.1
    simp (disch := omega) only [nI_ltI, nI_add]
    refine ⟨fun q => ⟨fun q2 => ⟨T, n, (orP T n i).2.1, hPU, by omega, rfl, fun q3 => ?_, fun q3 => ?_⟩, fun q2 => ?_⟩, fun q => ?_⟩
    · rw [nI_eq (by omega) (by omega)] at q3
      have e : paP T n (f + 1) i = ((paP T n f ((orP T n i).2.1 + 1)).1, (orP T n i).2.2 ++ (paP T n f ((orP T n i).2.1 + 1)).2) := by
        show (if (orP T n i).1 = true then _ else _) = _
        rw [if_pos (Decidable.not_not.mp q), if_pos (by omega), if_pos q3.symm]
      rw [e] at h
      have hgt := hle.2.2.2 (Decidable.not_not.mp q)
      refine ih ((orP T n i).2.1 + 1) (k + 1) (es ++ (orP T n i).2.2) _ (by omega) (by omega) (by omega) ?_ ?_ ?_
      · have := RO.app hA (RO.nil (o := o) (i := (orP T n i).2.1 + 1) (g := upV (sI U o) 7 (nI ((orP T n i).2.1 + 1))) ((OF.refl _).up _ (by omega) (by omega)) (by rw [upAt, if_pos rfl]) hA.2.2.2.2.1)
        rw [List.append_nil] at this
        exact this
      · rw [List.length_append]
        omega
      · intro S' j hS
        rw [List.append_assoc] at hS
        exact h S' j hS
    · have e : paP T n (f + 1) i = (nI (orP T n i).2.1, (orP T n i).2.2) := by
        show (if (orP T n i).1 = true then _ else _) = _
        rw [if_pos (Decidable.not_not.mp q), if_pos (by omega), if_neg (fun a => q3 (by rw [a]))]
      rw [e] at h
      exact h U _ hA
    · have e : paP T n (f + 1) i = (mI 6, (orP T n i).2.2) := by
        show (if (orP T n i).1 = true then _ else _) = _
        rw [if_pos (Decidable.not_not.mp q), if_neg (by omega)]
      rw [e] at h
      exact h U _ hA
    · have q : ¬ (orP T n i).1 = true := fun a => q (fun b => b a)
      have e : paP T n (f + 1) i = (nI (orP T n i).2.1, []) := by
        show (if (orP T n i).1 = true then _ else _) = _
        rw [if_neg q]
      rw [e] at h
      rw [orP_fail q] at hA
      exact h U (orP T n i).2.1 hA
set_option maxHeartbeats 1000000 in
theorem ct_X3_readPad (l : Launch) (G : Gx) : Ct l G mi_X3_readPad P_X3_readPad := by
  refine Ct.ofV mo_X3_readPad (fun as S E h => ?_)
  unfold P_X3_readPad at h
  split at h
  case h_2 => exact h.elim
  rename_i o
  refine ⟨by simp [entL, mL_X3_readPad], ?_⟩
  refine wpN_ok (Γ := Γ_X3_readPad) (hΓ_X3_readPad l G) so_X3_readPad 5 _ _ _ _ _ _ ?_
  simp only [mL_X3_readPad, mT_X3_readPad, rc_X3_readPad, rs_X3_readPad, Γ_X3_readPad, sg_X3_readPad_0, sg_X3_readPad_12, sg_X3_readPad_30, sg_X3_readPad_47, sg_X3_readPad_61, sg_X3_readPad_67, wn_X3_readPad_0, wn_X3_readPad_12, wn_X3_readPad_30, wn_X3_readPad_47, wn_X3_readPad_61, wn_X3_readPad_67, wp_c, ex_c, x_nop, x_goto, x_table, x_iinc, x_ldc, x_ldc2, x_iaload, x_faload, x_baload, x_caload, x_iastore, x_fastore, x_bastore, x_castore, x_aastore, x_alen, x_gets, x_new, x_newa, x_anew, x_invs, x_invi, x_invv, x_ret, x_iret, x_lret, x_fret, x_aret, x_lconst, x_fconst0, x_fconst1, x_fconst2, x_dconst0, x_dconst1, x_null, x_iadd, x_isub, x_imul, x_iand, x_ior, x_idiv, x_irem, x_ineg, x_ishl, x_ishr, x_land, x_lor, x_lushr, x_lshl, x_lcmp, x_i2l, x_l2i, x_i2c, x_i2f, x_f2d, x_d2i, x_d2l, x_fadd, x_fsub, x_fmul, x_fdiv, x_dadd, x_dsub, x_dmul, x_ddiv, x_fcmp, x_dcmp, x_dupI, x_dupR, x_dup2, x_popI, x_popR, ldP_I, ldP_L, ldP_F, ldP_D, ldP_R, ldP_N, x_iload, x_iload_n, x_lload, x_lload_n, x_fload, x_fload_n, x_dload, x_dload_n, x_aload, x_aload_n, x_istore, x_istore_n, x_lstore, x_lstore_n, x_fstore, x_fstore_n, x_dstore, x_dstore_n, x_astore, x_astore_n, x_astoreN, x_astore_nN, x_icmp_eq, x_icmp_ne, x_icmp_lt, x_icmp_ge, x_icmp_gt, x_icmp_le, x_if_eq, x_if_ne, x_if_lt, x_if_ge, x_if_gt, x_if_le, x_ifnull, x_ifnullR, x_ifnn, x_ifnnR, x_aaload2, x_cpI, x_cpF, x_bF, x_bD, x_oI, xk_bipush_120, xk_iconst_0, xk_bipush_m6, xk_iconst_1, xk_bipush_80, xk_bipush_48, xk_bipush_57, xk_bipush_10, xk_bipush_64, xk_bipush_46, xk_bipush_97, xk_bipush_122, xk_bipush_119, xk_bipush_61, xk_bipush_59, xk_bipush_8, xk_bipush_33, xk_bipush_126, xk_bipush_m2, xk_bipush_m4, xk_iconst_4, xk_bipush_6, xk_iconst_2, xk_bipush_40, xk_iconst_3, xk_iconst_5, xk_iconst_m1, xk_bipush_m5, xk_bipush_12, xk_bipush_100, xk_bipush_26, xk_sipush_9999, xk_sipush_500, xk_bipush_7, xk_bipush_m126, xk_bipush_127, xk_bipush_23, xk_sipush_m1022, xk_sipush_1023, xk_bipush_52, xk_bipush_m3, xk_sipush_9830, xk_sipush_4800, xk_sipush_983, xk_sipush_480, xk_bipush_13, xk_bipush_18, xk_bipush_9, xk_bipush_32, xg_0_0, xp_0_0, xg_0_1, xp_0_1, xg_0_2, xp_0_2, xg_0_3, xp_0_3, xg_0_4, xp_0_4, xg_0_5, xp_0_5, xg_0_6, xp_0_6, xg_0_7, xp_0_7, xg_0_8, xp_0_8, xg_1_0, xp_1_0, xg_1_1, xp_1_1, xg_1_2, xp_1_2, xg_1_3, xp_1_3, xg_2_0, xp_2_0, xg_2_1, xp_2_1, xg_2_2, xp_2_2, xg_3_0, xp_3_0, xg_3_1, xp_3_1, xg_3_2, xp_3_2, xg_3_3, xp_3_3, xg_3_4, xp_3_4, xg_3_5, xp_3_5, xg_3_6, xp_3_6, xg_3_7, xp_3_7, xg_3_8, xp_3_8, xg_3_9, xp_3_9, xg_3_10, xp_3_10, xg_3_11, xp_3_11, xg_4_0, xp_4_0, xg_4_1, xp_4_1, xg_5_0, xp_5_0, xg_5_1, xp_5_1, xg_6_0, xp_6_0, xg_6_1, xp_6_1, xg_6_2, xp_6_2, xg_6_3, xp_6_3, xg_6_4, xp_6_4, xg_6_5, xp_6_5, xg_7_0, xp_7_0, xg_7_1, xp_7_1, xg_7_2, xp_7_2, xg_7_3, xp_7_3, xg_7_4, xp_7_4, xg_7_5, xp_7_5, xg_7_6, xp_7_6, xg_7_7, xp_7_7, xg_7_8, xp_7_8, xg_7_9, xp_7_9, xg_7_10, xp_7_10, xg_7_11, xp_7_11, xg_7_12, xp_7_12, xg_7_13, xp_7_13, fv0, fv1, fv2, fv3, kI_0, kI_1, stL, wipeL, entLn, entL, List.getElem?_cons_zero, List.getElem?_cons_succ, List.getElem?_nil, List.set_cons_zero, List.set_cons_succ, List.set_nil, List.length_cons, List.length_nil, List.cons_append, List.nil_append, List.replicate, Nat.reduceAdd, Nat.reduceLeDiff, Nat.reduceSub, true_and, and_true, x_callS, x_callSN, x_callI, x_callIN, x_callV0, x_callV1, x_callV2, x_callV3, x_callV4, x_callV5, x_callV6, x_callV7, callP, List.take_succ_cons, List.take_zero, List.take_nil, List.drop_succ_cons, List.drop_zero, List.drop_nil, List.getLast?_singleton, List.getLast?_cons_cons, Option.some.injEq, Value.ref.injEq, exists_eq_left, exists_eq_left', Nat.zero_le, Nat.add_zero, ldcV_f, ldcV_fn, ldcV_l, ldcV_d, Nat.reduceMul, Nat.le_refl, List.reverse_cons, List.reverse_nil, Option.toList, List.map_cons, List.map_nil, List.sum_cons, List.sum_nil, Value.category, tblW_n, tblW_c, Int.cast_ofNat_Int, Int.reduceAdd, Int.reduceToNat, ofI_n, rc_X3_readOrder, rs_X3_readOrder, P_X3_readOrder, rc_X3_reads, rs_X3_reads, P_X3_reads]
  obtain ⟨T, n, hP, h⟩ := h
  have o0 := hP.1.1
  simp only [o0, sK_stI, sR_stI, sK_stF, sR_stF, sK_stIA, sR_stIA, sK_stFA, sR_stFA, sI_stI, sI_stF, sI_stIA, sI_stFA, sF_stI, sF_stF, sF_stIA, sF_stFA, Nat.left_eq_add, Nat.add_eq_left, Nat.add_left_cancel_iff, Nat.reduceEqDiff, Nat.reduceEqDiff, Nat.succ_ne_self, false_and, and_false, if_false, if_true, nI_succ_sub, Option.some.injEq, Prod.mk.injEq, exists_eq_left', true_and, and_true, retI, retF, retV, retZ1, retZ0, retL, retA, retN, Nat.reduceAdd, Nat.reduceMul, Nat.reduceLT]
  refine lp_X3_readPad l G hP 81 0 0 [] _ (by omega) (by have := hP.2.1; omega) (by omega) ?_ (by simp) (fun S' j hS => h S' j (by simpa using hS))
  have e : stI (stI S o 6 (nI 0)) o 7 (nI 0) = stIA S o (upV (upV (sI S o) 6 (nI 0)) 7 (nI 0)) := by
    simp only [stI_up, stIA_stIA, sI_stIA, if_true]
  rw [e]
  refine ⟨(Fr.refl _ _ _).stIA _ _ (Nat.le_refl _) (by omega), ?_, ?_, ?_, ?_, fun e he => absurd he (by omega), fun j x hx => by simp at hx⟩
  · rw [sI_stIA, if_neg (by omega)]
  · rw [sI_stIA, if_neg (by omega)]
  · rw [sI_stIA, if_pos rfl, upAt, if_pos rfl]
  · rw [sI_stIA, if_pos rfl, upAt, if_neg (by omega), upAt, if_pos rfl]
    rfl
