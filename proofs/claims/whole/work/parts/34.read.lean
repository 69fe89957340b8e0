-- needs: 18.nums 19.proj 20.spec 21.shape 22.leaf 23.fl 23.view 24.loops 32.pad 33.orders
/-! orders: the list of them -/
abbrev Ent : Type := Nat × Nat × Nat × Nat × Nat
abbrev Ent.k (e : Ent) : Nat := e.1
abbrev Ent.a (e : Ent) : Nat := e.2.1
abbrev Ent.r (e : Ent) : Nat := e.2.2.1
abbrev Ent.c (e : Ent) : Nat := e.2.2.2.1
abbrev Ent.l (e : Ent) : Nat := e.2.2.2.2
/-- the order that stands at e -/
def EOK (S : SS) (o e : Nat) (x : Ent) : Prop := sI S (o + 3) e = nI x.k ∧ (¬ x.k = 110 ∧ ¬ x.k = 120 → sI S (o + 4) e = nI x.a) ∧ (x.k = 119 ∨ x.k = 112 ∨ x.k = 120 → sI S (o + 5) e = nI x.r ∧ sI S (o + 6) e = nI x.c) ∧ (x.k = 119 → sI S (o + 7) e = nI x.l)
/-- the same orders below e -/
def sameE (S S' : SS) (o e : Nat) : Prop := ∀ i, i < e → sI S' (o + 3) i = sI S (o + 3) i ∧ sI S' (o + 4) i = sI S (o + 4) i ∧ sI S' (o + 5) i = sI S (o + 5) i ∧ sI S' (o + 6) i = sI S (o + 6) i ∧ sI S' (o + 7) i = sI S (o + 7) i
theorem EOK.same {S S' : SS} {o e n : Nat} {x : Ent} (h : EOK S o e x) (k : sameE S S' o n) (he : e < n) : EOK S' o e x := by
  obtain ⟨k1, k2, k3, k4, k5⟩ := k e he
  unfold EOK at h ⊢
  rw [k1, k2, k3, k4, k5]
  exact h
theorem sameE.trans {S T U : SS} {o e n : Nat} (h : sameE S T o e) (k : sameE T U o n) (he : e ≤ n) : sameE S U o e := fun i hi => by
  obtain ⟨h1, h2, h3, h4, h5⟩ := h i hi
  obtain ⟨k1, k2, k3, k4, k5⟩ := k i (by omega)
  exact ⟨k1.trans h1, k2.trans h2, k3.trans h3, k4.trans h4, k5.trans h5⟩
def addS (S : SS) (o s : Nat) (k l : Int32) : SS := stI (stI (stI (stI (stI (stI S (o + 3) s k) (o + 4) s (sI S o 9)) (o + 5) s (sI S o 10)) (o + 6) s (sI S o 11)) (o + 7) s l) o 6 (nI (s + 1))
def P_X3_add (as : List Value) (S : SS) (E : Option Value → SS → Prop) : Prop := match as with
  | [.ref o, .int k, .int l] => OrdAt S o ∧ ∃ s kc, s < 80 ∧ kc < 256 ∧ sI S o 6 = nI s ∧ k = nI kc ∧ E (some (.int (nI 1))) (addS S o s k l)
  | _ => False
def Γ_X3_add : List (MI × PT) := []
theorem hΓ_X3_add (l : Launch) (G : Gx) : ∀ q ∈ Γ_X3_add, Ct l G q.1 q.2 := fun _ h => absurd h List.not_mem_nil
theorem add_self_5 (o : Nat) : (o = o + 5) = False := eq_false (by omega)
theorem add_self_6 (o : Nat) : (o = o + 6) = False := eq_false (by omega)
theorem add_self_7 (o : Nat) : (o = o + 7) = False := eq_false (by omega)
set_option maxHeartbeats 1000000 in
theorem ct_X3_add (l : Launch) (G : Gx) : Ct l G mi_X3_add P_X3_add := by
  refine Ct.ofV mo_X3_add (fun as S E h => ?_)
  unfold P_X3_add at h
  split at h
  case h_2 => exact h.elim
  rename_i o k lt
  refine ⟨by simp [entL, mL_X3_add], ?_⟩
  refine wpN_ok (Γ := Γ_X3_add) (hΓ_X3_add l G) so_X3_add 4 _ _ _ _ _ _ ?_
  simp only [mL_X3_add, mT_X3_add, rc_X3_add, rs_X3_add, Γ_X3_add, sg_X3_add_0, sg_X3_add_78, wn_X3_add_0, wn_X3_add_78, wp_c, ex_c, x_nop, x_goto, x_table, x_iinc, x_ldc, x_ldc2, x_iaload, x_faload, x_baload, x_caload, x_iastore, x_fastore, x_bastore, x_castore, x_aastore, x_alen, x_gets, x_new, x_newa, x_anew, x_invs, x_invi, x_invv, x_ret, x_iret, x_lret, x_fret, x_aret, x_lconst, x_fconst0, x_fconst1, x_fconst2, x_dconst0, x_dconst1, x_null, x_iadd, x_isub, x_imul, x_iand, x_ior, x_idiv, x_irem, x_ineg, x_ishl, x_ishr, x_land, x_lor, x_lushr, x_lshl, x_lcmp, x_i2l, x_l2i, x_i2c, x_i2f, x_f2d, x_d2i, x_d2l, x_fadd, x_fsub, x_fmul, x_fdiv, x_dadd, x_dsub, x_dmul, x_ddiv, x_fcmp, x_dcmp, x_dupI, x_dupR, x_dup2, x_popI, x_popR, ldP_I, ldP_L, ldP_F, ldP_D, ldP_R, ldP_N, x_iload, x_iload_n, x_lload, x_lload_n, x_fload, x_fload_n, x_dload, x_dload_n, x_aload, x_aload_n, x_istore, x_istore_n, x_lstore, x_lstore_n, x_fstore, x_fstore_n, x_dstore, x_dstore_n, x_astore, x_astore_n, x_astoreN, x_astore_nN, x_icmp_eq, x_icmp_ne, x_icmp_lt, x_icmp_ge, x_icmp_gt, x_icmp_le, x_if_eq, x_if_ne, x_if_lt, x_if_ge, x_if_gt, x_if_le, x_ifnull, x_ifnullR, x_ifnn, x_ifnnR, x_aaload2, x_cpI, x_cpF, x_bF, x_bD, x_oI, xk_bipush_120, xk_iconst_0, xk_bipush_m6, xk_iconst_1, xk_bipush_80, xk_bipush_48, xk_bipush_57, xk_bipush_10, xk_bipush_64, xk_bipush_46, xk_bipush_97, xk_bipush_122, xk_bipush_119, xk_bipush_61, xk_bipush_59, xk_bipush_8, xk_bipush_33, xk_bipush_126, xk_bipush_m2, xk_bipush_m4, xk_iconst_4, xk_bipush_6, xk_iconst_2, xk_bipush_40, xk_iconst_3, xk_iconst_5, xk_iconst_m1, xk_bipush_m5, xk_bipush_12, xk_bipush_100, xk_bipush_26, xk_sipush_9999, xk_sipush_500, xk_bipush_7, xk_bipush_m126, xk_bipush_127, xk_bipush_23, xk_sipush_m1022, xk_sipush_1023, xk_bipush_52, xk_bipush_m3, xk_sipush_9830, xk_sipush_4800, xk_sipush_983, xk_sipush_480, xk_bipush_13, xk_bipush_18, xk_bipush_9, xk_bipush_32, xg_0_0, xp_0_0, xg_0_1, xp_0_1, xg_0_2, xp_0_2, xg_0_3, xp_0_3, xg_0_4, xp_0_4, xg_0_5, xp_0_5, xg_0_6, xp_0_6, xg_0_7, xp_0_7, xg_0_8, xp_0_8, xg_1_0, xp_1_0, xg_1_1, xp_1_1, xg_1_2, xp_1_2, xg_1_3, xp_1_3, xg_2_0, xp_2_0, xg_2_1, xp_2_1, xg_2_2, xp_2_2, xg_3_0, xp_3_0, xg_3_1, xp_3_1, xg_3_2, xp_3_2, xg_3_3, xp_3_3, xg_3_4, xp_3_4, xg_3_5, xp_3_5, xg_3_6, xp_3_6, xg_3_7, xp_3_7, xg_3_8, xp_3_8, xg_3_9, xp_3_9, xg_3_10, xp_3_10, xg_3_11, xp_3_11, xg_4_0, xp_4_0, xg_4_1, xp_4_1, xg_5_0, xp_5_0, xg_5_1, xp_5_1, xg_6_0, xp_6_0, xg_6_1, xp_6_1, xg_6_2, xp_6_2, xg_6_3, xp_6_3, xg_6_4, xp_6_4, xg_6_5, xp_6_5, xg_7_0, xp_7_0, xg_7_1, xp_7_1, xg_7_2, xp_7_2, xg_7_3, xp_7_3, xg_7_4, xp_7_4, xg_7_5, xp_7_5, xg_7_6, xp_7_6, xg_7_7, xp_7_7, xg_7_8, xp_7_8, xg_7_9, xp_7_9, xg_7_10, xp_7_10, xg_7_11, xp_7_11, xg_7_12, xp_7_12, xg_7_13, xp_7_13, fv0, fv1, fv2, fv3, kI_0, kI_1, stL, wipeL, entLn, entL, List.getElem?_cons_zero, List.getElem?_cons_succ, List.getElem?_nil, List.set_cons_zero, List.set_cons_succ, List.set_nil, List.length_cons, List.length_nil, List.cons_append, List.nil_append, List.replicate, Nat.reduceAdd, Nat.reduceLeDiff, Nat.reduceSub, true_and, and_true, x_callS, x_callSN, x_callI, x_callIN, x_callV0, x_callV1, x_callV2, x_callV3, x_callV4, x_callV5, x_callV6, x_callV7, callP, List.take_succ_cons, List.take_zero, List.take_nil, List.drop_succ_cons, List.drop_zero, List.drop_nil, List.getLast?_singleton, List.getLast?_cons_cons, Option.some.injEq, Value.ref.injEq, exists_eq_left, exists_eq_left', Nat.zero_le, Nat.add_zero, ldcV_f, ldcV_fn, ldcV_l, ldcV_d, Nat.reduceMul, Nat.le_refl, List.reverse_cons, List.reverse_nil, Option.toList, List.map_cons, List.map_nil, List.sum_cons, List.sum_nil, Value.category, tblW_n, tblW_c, Int.cast_ofNat_Int, Int.reduceAdd, Int.reduceToNat, ofI_n]
  obtain ⟨⟨o0, o1, o2, o3, o4, o5, o6, o7, o8, o9, o10, o11, o12, o13, o14⟩, s, kc, hs, hk, es, rfl, h⟩ := h
  simp only [o0, o1, o2, o3, o4, o5, o6, o7, o8, o9, o10, o11, o12, o13, o14, es, self_add3, self_add4, add_self_5, add_self_6, add_self_7, sK_stI, sR_stI, sK_stF, sR_stF, sK_stIA, sR_stIA, sK_stFA, sR_stFA, sI_stI, sI_stF, sI_stIA, sI_stFA, sF_stI, sF_stF, sF_stIA, sF_stFA, Nat.left_eq_add, Nat.add_eq_left, Nat.add_left_cancel_iff, Nat.reduceEqDiff, Nat.reduceEqDiff, Nat.succ_ne_self, false_and, and_false, if_false, if_true, nI_succ_sub, Option.some.injEq, Prod.mk.injEq, exists_eq_left', true_and, and_true, retI, retF, retV, retZ1, retZ0, retL, retA, retN, Nat.reduceAdd, Nat.reduceMul, Nat.reduceLT]
  simp (disch := omega) only [nlt0, nge0, neq0, ngt0, nle0, nI_ltI, nI_leI, nI_eq, nI_cl, in_nI, false_implies, true_implies, not_false_eq_true, not_true_eq_false, and_true, true_and, nI_add, pk_mul, implies_true, not_lt0]
  refine ⟨fun c => absurd hs (by omega), fun _ => ⟨hs, fit16 _ hk, hs, hs, hs, hs, ?_⟩⟩
  exact h
/-- letters that stand at q and behind -/
def lcP (T : Nat → Nat) (n q m : Nat) : Nat := fo (fun c j => if c = j ∧ ltP T n (q + j) then j + 1 else c) 0 m
theorem lcP_s (T : Nat → Nat) (n q m : Nat) : lcP T n q (m + 1) = if lcP T n q m = m ∧ ltP T n (q + m) then m + 1 else lcP T n q m := rfl
theorem lcP_stop {T : Nat → Nat} {n q j : Nat} (h : lcP T n q j = j) (hb : ¬ ltP T n (q + j)) : ∀ m, j ≤ m → lcP T n q m = j := by
  intro m
  induction m with
  | zero => intro h2; rw [show j = 0 by omega] at h ⊢; exact h
  | succ m ih =>
    intro h2
    by_cases h3 : j = m + 1
    · rw [← h3]; exact h
    · rw [lcP_s, ih (by omega), if_neg]
      intro ⟨a, b⟩
      rw [← a] at b
      exact hb b
theorem enP_ex : ∃ f : (Nat → Nat) → Nat → Nat → Nat, ∀ T n q, f T n q = lcP T n q 81 := ⟨fun T n q => lcP T n q 81, fun _ _ _ => rfl⟩
/-- where the letters end (never unfolded) -/
noncomputable def enP : (Nat → Nat) → Nat → Nat → Nat := Classical.choose enP_ex
theorem enP_eq (T : Nat → Nat) (n q : Nat) : enP T n q = lcP T n q 81 := Classical.choose_spec enP_ex T n q
def leL (T : Nat → Nat) (n q d r c m : Nat) : List Ent := (List.range m).map fun j => ⟨119, d, r, c + j, chP T n (q + j) - 97⟩
/-- orders read: from S to S', s of them before, now also es -/
def RO (S S' : SS) (o s i : Nat) (es : List Ent) : Prop := Fr S S' o (o + 8) ∧ sI S' (o + 1) = sI S (o + 1) ∧ sI S' (o + 2) = sI S (o + 2) ∧ sI S' o 7 = nI i ∧ sI S' o 6 = nI (s + es.length) ∧ sameE S S' o s ∧ ∀ j x, es[j]? = some x → EOK S' o (s + j) x
theorem PO.ro {S S' : SS} {o s i n : Nat} {T : Nat → Nat} {es : List Ent} (h : PO S o T n) (k : RO S S' o s i es) : PO S' o T n := by
  obtain ⟨h1, h2, h3, h4⟩ := h
  obtain ⟨k1, k2, k3, -⟩ := k
  refine ⟨h1.mk' k1.1 k1.2.1, h2, ?_, fun j hj => ⟨(h4 j hj).1, ?_⟩⟩
  · rw [k2]; exact h3
  · rw [k3]; exact (h4 j hj).2
theorem addS_fr (S : SS) (o s : Nat) (k l : Int32) : Fr S (addS S o s k l) o (o + 8) :=
  ((((((Fr.refl _ _ _).stI _ _ _ (by omega) (by omega)).stI _ _ _ (by omega) (by omega)).stI _ _ _ (by omega) (by omega)).stI _ _ _ (by omega) (by omega)).stI _ _ _ (by omega) (by omega)).stI _ _ _ (Nat.le_refl _) (by omega)
theorem addS_o (S : SS) (o s : Nat) (k l : Int32) : sI (addS S o s k l) o = upV (sI S o) 6 (nI (s + 1)) := by
  unfold addS
  simp only [sI_row, if_true, self_add3, self_add4, add_self_5, add_self_6, add_self_7, if_false]
theorem addS_12 (S : SS) (o s : Nat) (k l : Int32) (j : Nat) (hj : 0 < j) (hj3 : j < 3) : sI (addS S o s k l) (o + j) = sI S (o + j) := by
  unfold addS
  simp only [sI_row, show ¬ o + j = o by omega, show ¬ o + j = o + 3 by omega, show ¬ o + j = o + 4 by omega, show ¬ o + j = o + 5 by omega, show ¬ o + j = o + 6 by omega, show ¬ o + j = o + 7 by omega, if_false]
theorem addS_rows (S : SS) (o s : Nat) (k l : Int32) : sI (addS S o s k l) (o + 3) = upV (sI S (o + 3)) s k ∧ sI (addS S o s k l) (o + 4) = upV (sI S (o + 4)) s (sI S o 9) ∧ sI (addS S o s k l) (o + 5) = upV (sI S (o + 5)) s (sI S o 10) ∧ sI (addS S o s k l) (o + 6) = upV (sI S (o + 6)) s (sI S o 11) ∧ sI (addS S o s k l) (o + 7) = upV (sI S (o + 7)) s l := by
  unfold addS
  simp [sI_row]
theorem RO.add {S T U : SS} {o s i i' : Nat} {es : List Ent} {k l : Int32} {x : Ent} {g : Nat → Int32} (h : RO S T o s i es) (hU : U = stIA (addS T o (s + es.length) k l) o g) (h6 : g 6 = nI (s + es.length + 1)) (h7 : g 7 = nI i') (hk : k = nI x.k) (ha : ¬ x.k = 110 ∧ ¬ x.k = 120 → sI T o 9 = nI x.a) (hr : x.k = 119 ∨ x.k = 112 ∨ x.k = 120 → sI T o 10 = nI x.r ∧ sI T o 11 = nI x.c) (hl : x.k = 119 → l = nI x.l) : RO S U o s i' (es ++ [x]) := by
  obtain ⟨r1, r2, r3, r4, r5⟩ := addS_rows T o (s + es.length) k l
  obtain ⟨hF, u1, u2, u7, u6, uE, uO⟩ := h
  have q : ∀ j, 0 < j → sI U (o + j) = sI (addS T o (s + es.length) k l) (o + j) := fun j hj => by rw [hU, sI_stIA, if_neg (by omega)]
  have hFU : Fr T U o (o + 8) := by
    rw [hU]
    exact (addS_fr _ _ _ _ _).stIA _ _ (Nat.le_refl _) (by omega)
  have same : sameE T U o (s + es.length) := fun e he => by
    have n : ¬ e = s + es.length := by omega
    rw [q 3 (by omega), q 4 (by omega), q 5 (by omega), q 6 (by omega), q 7 (by omega), r1, r2, r3, r4, r5]
    simp only [upAt, n, if_false, and_self]
  refine ⟨hF.trans hFU, ?_, ?_, ?_, ?_, uE.trans same (by omega), fun j y hy => ?_⟩
  · rw [q 1 (by omega), addS_12 _ _ _ _ _ 1 (by omega) (by omega), u1]
  · rw [q 2 (by omega), addS_12 _ _ _ _ _ 2 (by omega) (by omega), u2]
  · rw [hU, sI_stIA, if_pos rfl, h7]
  · rw [hU, sI_stIA, if_pos rfl, h6]
    simp [Nat.add_assoc]
  · by_cases c : j < es.length
    · rw [List.getElem?_append_left c] at hy
      exact (uO j y hy).same same (by omega)
    · rw [List.getElem?_append_right (by omega)] at hy
      have e : j = es.length := by
        apply Nat.le_antisymm _ (by omega)
        apply Nat.le_of_not_lt
        intro c2
        rw [List.getElem?_eq_none (by simp; omega)] at hy
        exact absurd hy (by simp)
      subst e
      simp at hy
      subst hy
      unfold EOK
      rw [q 3 (by omega), q 4 (by omega), q 5 (by omega), q 6 (by omega), q 7 (by omega), r1, r2, r3, r4, r5]
      simp only [upAt, if_true]
      exact ⟨hk, ha, hr, hl⟩
def P_X3_readLetters (as : List Value) (S : SS) (E : Option Value → SS → Prop) : Prop := match as with
  | [.ref o] => ∃ T n q s d r c, PO S o T n ∧ q ≤ n ∧ s < q ∧ sI S o 7 = nI q ∧ sI S o 6 = nI s ∧ sI S o 9 = nI d ∧ sI S o 10 = nI r ∧ sI S o 11 = nI c ∧ (¬ ltP T n q → E (some (.int (nI 0))) S) ∧ (ltP T n q → ∀ S', RO S S' o s (q + enP T n q) (leL T n q d r c (enP T n q)) → E (some (.int (nI 1))) S')
  | _ => False
def Γ_X3_readLetters : List (MI × PT) := [(mi_X3_look, P_X3_look), (mi_X3_isLetter, P_X3_isLetter), (mi_X3_add, P_X3_add)]
theorem hΓ_X3_readLetters (l : Launch) (G : Gx) : ∀ q ∈ Γ_X3_readLetters, Ct l G q.1 q.2 := List.forall_mem_cons.mpr ⟨ct_X3_look l G, List.forall_mem_cons.mpr ⟨ct_X3_isLetter l G, List.forall_mem_cons.mpr ⟨ct_X3_add l G, fun _ h => absurd h List.not_mem_nil⟩⟩⟩
def rlI (S T' : SS) (o : Nat) (T : Nat → Nat) (n q s d r c m : Nat) : Prop := RO S T' o s (q + m) (leL T n q d r c m) ∧ sI T' o 9 = nI d ∧ sI T' o 10 = nI r ∧ sI T' o 11 = nI (c + m)
set_option maxHeartbeats 1000000 in
theorem lp_X3_readLetters (l : Launch) (G : Gx) {S : SS} {o : Nat} {T : Nat → Nat} {n q s d r c : Nat} {E : Option Value → SS → Prop} (hP : PO S o T n) (hq : q ≤ n) (hs : s < q) (h : ∀ S', RO S S' o s (q + enP T n q) (leL T n q d r c (enP T n q)) → E (some (.int (nI 1))) S') :
    ∀ m, m ≤ n - q → ∀ T', rlI S T' o T n q s d r c m → lcP T n q m = m → V l G mi_X3_readLetters E 12 [some (.ref o)] [] T' 0 0 := by
  refine loopUp (n - q) fun m hm ih T' hR hl => ?_
  refine (V.segN (Γ := Γ_X3_readLetters) (hΓ_X3_readLetters l G) so_X3_readLetters 4 (sg := sg_X3_readLetters_12) so_X3_readLetters_12 ?_ : V l G mi_X3_readLetters _ (segPc sg_X3_readLetters_12) _ _ _ _ _)
  simp only [mL_X3_readLetters, mT_X3_readLetters, rc_X3_readLetters, rs_X3_readLetters, Γ_X3_readLetters, sg_X3_readLetters_0, sg_X3_readLetters_12, sg_X3_readLetters_73, wn_X3_readLetters_0, wn_X3_readLetters_12, wn_X3_readLetters_73, wp_c, ex_c, x_nop, x_goto, x_table, x_iinc, x_ldc, x_ldc2, x_iaload, x_faload, x_baload, x_caload, x_iastore, x_fastore, x_bastore, x_castore, x_aastore, x_alen, x_gets, x_new, x_newa, x_anew, x_invs, x_invi, x_invv, x_ret, x_iret, x_lret, x_fret, x_aret, x_lconst, x_fconst0, x_fconst1, x_fconst2, x_dconst0, x_dconst1, x_null, x_iadd, x_isub, x_imul, x_iand, x_ior, x_idiv, x_irem, x_ineg, x_ishl, x_ishr, x_land, x_lor, x_lushr, x_lshl, x_lcmp, x_i2l, x_l2i, x_i2c, x_i2f, x_f2d, x_d2i, x_d2l, x_fadd, x_fsub, x_fmul, x_fdiv, x_dadd, x_dsub, x_dmul, x_ddiv, x_fcmp, x_dcmp, x_dupI, x_dupR, x_dup2, x_popI, x_popR, ldP_I, ldP_L, ldP_F, ldP_D, ldP_R, ldP_N, x_iload, x_iload_n, x_lload, x_lload_n, x_fload, x_fload_n, x_dload, x_dload_n, x_aload, x_aload_n, x_istore, x_istore_n, x_lstore, x_lstore_n, x_fstore, x_fstore_n, x_dstore, x_dstore_n, x_astore, x_astore_n, x_astoreN, x_astore_nN, x_icmp_eq, x_icmp_ne, x_icmp_lt, x_icmp_ge, x_icmp_gt, x_icmp_le, x_if_eq, x_if_ne, x_if_lt, x_if_ge, x_if_gt, x_if_le, x_ifnull, x_ifnullR, x_ifnn, x_ifnnR, x_aaload2, x_cpI, x_cpF, x_bF, x_bD, x_oI, xk_bipush_120, xk_iconst_0, xk_bipush_m6, xk_iconst_1, xk_bipush_80, xk_bipush_48, xk_bipush_57, xk_bipush_10, xk_bipush_64, xk_bipush_46, xk_bipush_97, xk_bipush_122, xk_bipush_119, xk_bipush_61, xk_bipush_59, xk_bipush_8, xk_bipush_33, xk_bipush_126, xk_bipush_m2, xk_bipush_m4, xk_iconst_4, xk_bipush_6, xk_iconst_2, xk_bipush_40, xk_iconst_3, xk_iconst_5, xk_iconst_m1, xk_bipush_m5, xk_bipush_12, xk_bipush_100, xk_bipush_26, xk_sipush_9999, xk_sipush_500, xk_bipush_7, xk_bipush_m126, xk_bipush_127, xk_bipush_23, xk_sipush_m1022, xk_sipush_1023, xk_bipush_52, xk_bipush_m3, xk_sipush_9830, xk_sipush_4800, xk_sipush_983, xk_sipush_480, xk_bipush_13, xk_bipush_18, xk_bipush_9, xk_bipush_32, xg_0_0, xp_0_0, xg_0_1, xp_0_1, xg_0_2, xp_0_2, xg_0_3, xp_0_3, xg_0_4, xp_0_4, xg_0_5, xp_0_5, xg_0_6, xp_0_6, xg_0_7, xp_0_7, xg_0_8, xp_0_8, xg_1_0, xp_1_0, xg_1_1, xp_1_1, xg_1_2, xp_1_2, xg_1_3, xp_1_3, xg_2_0, xp_2_0, xg_2_1, xp_2_1, xg_2_2, xp_2_2, xg_3_0, xp_3_0, xg_3_1, xp_3_1, xg_3_2, xp_3_2, xg_3_3, xp_3_3, xg_3_4, xp_3_4, xg_3_5, xp_3_5, xg_3_6, xp_3_6, xg_3_7, xp_3_7, xg_3_8, xp_3_8, xg_3_9, xp_3_9, xg_3_10, xp_3_10, xg_3_11, xp_3_11, xg_4_0, xp_4_0, xg_4_1, xp_4_1, xg_5_0, xp_5_0, xg_5_1, xp_5_1, xg_6_0, xp_6_0, xg_6_1, xp_6_1, xg_6_2, xp_6_2, xg_6_3, xp_6_3, xg_6_4, xp_6_4, xg_6_5, xp_6_5, xg_7_0, xp_7_0, xg_7_1, xp_7_1, xg_7_2, xp_7_2, xg_7_3, xp_7_3, xg_7_4, xp_7_4, xg_7_5, xp_7_5, xg_7_6, xp_7_6, xg_7_7, xp_7_7, xg_7_8, xp_7_8, xg_7_9, xp_7_9, xg_7_10, xp_7_10, xg_7_11, xp_7_11, xg_7_12, xp_7_12, xg_7_13, xp_7_13, fv0, fv1, fv2, fv3, kI_0, kI_1, stL, wipeL, entLn, entL, List.getElem?_cons_zero, List.getElem?_cons_succ, List.getElem?_nil, List.set_cons_zero, List.set_cons_succ, List.set_nil, List.length_cons, List.length_nil, List.cons_append, List.nil_append, List.replicate, Nat.reduceAdd, Nat.reduceLeDiff, Nat.reduceSub, true_and, and_true, x_callS, x_callSN, x_callI, x_callIN, x_callV0, x_callV1, x_callV2, x_callV3, x_callV4, x_callV5, x_callV6, x_callV7, callP, List.take_succ_cons, List.take_zero, List.take_nil, List.drop_succ_cons, List.drop_zero, List.drop_nil, List.getLast?_singleton, List.getLast?_cons_cons, Option.some.injEq, Value.ref.injEq, exists_eq_left, exists_eq_left', Nat.zero_le, Nat.add_zero, ldcV_f, ldcV_fn, ldcV_l, ldcV_d, Nat.reduceMul, Nat.le_refl, List.reverse_cons, List.reverse_nil, Option.toList, List.map_cons, List.map_nil, List.sum_cons, List.sum_nil, Value.category, tblW_n, tblW_c, Int.cast_ofNat_Int, Int.reduceAdd, Int.reduceToNat, ofI_n, rc_X3_look, rs_X3_look, P_X3_look, rc_X3_isLetter, rs_X3_isLetter, P_X3_isLetter, rc_X3_add, rs_X3_add, P_X3_add]
  obtain ⟨hR, r9, r10, r11⟩ := hR
  have hPT := hP.ro hR
  have hR0 := hR
  obtain ⟨hF, u1, u2, u7, u6, uE, uO⟩ := hR
  have hl2 : (leL T n q d r c m).length = m := by unfold leL; simp
  rw [hl2] at u6
  have hOA := hPT.1
  have t1 := hPT.2.1
  have t2 := hPT.2.2.1
  obtain ⟨o0, o1, o2, o3, o4, o5, o6, o7, o8, o9, o10, o11, o12, o13, o14⟩ := hPT.1
  simp only [o0, o1, o7, u6, u7, t2, bI_0, sK_stI, sR_stI, sK_stF, sR_stF, sK_stIA, sR_stIA, sK_stFA, sR_stFA, sI_stI, sI_stF, sI_stIA, sI_stFA, sF_stI, sF_stF, sF_stIA, sF_stFA, Nat.left_eq_add, Nat.add_eq_left, Nat.add_left_cancel_iff, Nat.reduceEqDiff, Nat.reduceEqDiff, Nat.succ_ne_self, false_and, and_false, if_false, if_true, nI_succ_sub, Option.some.injEq, Prod.mk.injEq, exists_eq_left', true_and, and_true, retI, retF, retV, retZ1, retZ0, retL, retA, retN, Nat.reduceAdd, Nat.reduceMul, Nat.reduceLT]
  simp (disch := omega) only [nlt0, nge0, neq0, ngt0, nle0, nI_ltI, nI_leI, nI_eq, nI_cl, in_nI, false_implies, true_implies, not_false_eq_true, not_true_eq_false, and_true, true_and, nI_add, pk_mul, implies_true, not_lt0]
  refine ⟨fun cn => ?_, fun cn => ⟨T, n, q + m, hPT, by omega, rfl, fun c2 => ?_, fun c2 => ⟨T, n, q + m, hPT, by omega, rfl, hOA, s + m, 119, by omega, by omega, rfl, rfl, o0, o0, o0, o0, ?_⟩⟩⟩
  · have e : enP T n q = m := (enP_eq T n q).trans <| lcP_stop hl (fun a => absurd (ltP_lt a) (by omega)) 81 (by omega)
    rw [e] at h
    exact h T' hR0
  · have hc := chP_lt hPT (q + m)
    rw [nI_leI (by omega) (by omega), nI_leI (by omega) (by omega)] at c2
    have e : enP T n q = m := (enP_eq T n q).trans <| lcP_stop hl c2 81 (by omega)
    rw [e] at h
    exact h T' hR0
  · have hc := chP_lt hPT (q + m)
    rw [nI_leI (by omega) (by omega), nI_leI (by omega) (by omega)] at c2
    have c2 : ltP T n (q + m) := Decidable.not_not.mp c2
    refine ih (by omega) _ ⟨?_, ?_, ?_, ?_⟩ (by rw [lcP_s, if_pos ⟨hl, c2⟩])
    · have e : leL T n q d r c m ++ [⟨119, d, r, c + m, chP T n (q + m) - 97⟩] = leL T n q d r c (m + 1) := by
        unfold leL
        rw [List.range_succ, List.map_append]
        rfl
      rw [← e]
      refine RO.add hR0 (by rw [hl2, stI_up, stI_up, stIA_stIA]) ?_ ?_ rfl (fun _ => r9) (fun _ => ⟨r10, r11⟩) (fun _ => ?_)
      · simp only [addS_o, sI_stIA, if_true, upAt, Nat.reduceEqDiff, if_false, hl2]
      · simp only [addS_o, sI_stIA, if_true, upAt, Nat.reduceEqDiff, if_false, u7, nI_add]
        rfl
      · exact pk_sub c2.1
    · simp only [stI_up, addS_o, sI_stIA, if_true, upAt, Nat.reduceEqDiff, if_false, r9]
    · simp only [stI_up, addS_o, sI_stIA, if_true, upAt, Nat.reduceEqDiff, if_false, r10]
    · simp only [stI_up, addS_o, sI_stIA, if_true, upAt, Nat.reduceEqDiff, if_false, r11, nI_add]
      rfl
set_option maxHeartbeats 1000000 in
theorem ct_X3_readLetters (l : Launch) (G : Gx) : Ct l G mi_X3_readLetters P_X3_readLetters := by
  refine Ct.ofV mo_X3_readLetters (fun as S E h => ?_)
  unfold P_X3_readLetters at h
  split at h
  case h_2 => exact h.elim
  rename_i o
  refine ⟨by simp [entL, mL_X3_readLetters], ?_⟩
  refine wpN_ok (Γ := Γ_X3_readLetters) (hΓ_X3_readLetters l G) so_X3_readLetters 4 _ _ _ _ _ _ ?_
  simp only [mL_X3_readLetters, mT_X3_readLetters, rc_X3_readLetters, rs_X3_readLetters, Γ_X3_readLetters, sg_X3_readLetters_0, sg_X3_readLetters_12, sg_X3_readLetters_73, wn_X3_readLetters_0, wn_X3_readLetters_12, wn_X3_readLetters_73, wp_c, ex_c, x_nop, x_goto, x_table, x_iinc, x_ldc, x_ldc2, x_iaload, x_faload, x_baload, x_caload, x_iastore, x_fastore, x_bastore, x_castore, x_aastore, x_alen, x_gets, x_new, x_newa, x_anew, x_invs, x_invi, x_invv, x_ret, x_iret, x_lret, x_fret, x_aret, x_lconst, x_fconst0, x_fconst1, x_fconst2, x_dconst0, x_dconst1, x_null, x_iadd, x_isub, x_imul, x_iand, x_ior, x_idiv, x_irem, x_ineg, x_ishl, x_ishr, x_land, x_lor, x_lushr, x_lshl, x_lcmp, x_i2l, x_l2i, x_i2c, x_i2f, x_f2d, x_d2i, x_d2l, x_fadd, x_fsub, x_fmul, x_fdiv, x_dadd, x_dsub, x_dmul, x_ddiv, x_fcmp, x_dcmp, x_dupI, x_dupR, x_dup2, x_popI, x_popR, ldP_I, ldP_L, ldP_F, ldP_D, ldP_R, ldP_N, x_iload, x_iload_n, x_lload, x_lload_n, x_fload, x_fload_n, x_dload, x_dload_n, x_aload, x_aload_n, x_istore, x_istore_n, x_lstore, x_lstore_n, x_fstore, x_fstore_n, x_dstore, x_dstore_n, x_astore, x_astore_n, x_astoreN, x_astore_nN, x_icmp_eq, x_icmp_ne, x_icmp_lt, x_icmp_ge, x_icmp_gt, x_icmp_le, x_if_eq, x_if_ne, x_if_lt, x_if_ge, x_if_gt, x_if_le, x_ifnull, x_ifnullR, x_ifnn, x_ifnnR, x_aaload2, x_cpI, x_cpF, x_bF, x_bD, x_oI, xk_bipush_120, xk_iconst_0, xk_bipush_m6, xk_iconst_1, xk_bipush_80, xk_bipush_48, xk_bipush_57, xk_bipush_10, xk_bipush_64, xk_bipush_46, xk_bipush_97, xk_bipush_122, xk_bipush_119, xk_bipush_61, xk_bipush_59, xk_bipush_8, xk_bipush_33, xk_bipush_126, xk_bipush_m2, xk_bipush_m4, xk_iconst_4, xk_bipush_6, xk_iconst_2, xk_bipush_40, xk_iconst_3, xk_iconst_5, xk_iconst_m1, xk_bipush_m5, xk_bipush_12, xk_bipush_100, xk_bipush_26, xk_sipush_9999, xk_sipush_500, xk_bipush_7, xk_bipush_m126, xk_bipush_127, xk_bipush_23, xk_sipush_m1022, xk_sipush_1023, xk_bipush_52, xk_bipush_m3, xk_sipush_9830, xk_sipush_4800, xk_sipush_983, xk_sipush_480, xk_bipush_13, xk_bipush_18, xk_bipush_9, xk_bipush_32, xg_0_0, xp_0_0, xg_0_1, xp_0_1, xg_0_2, xp_0_2, xg_0_3, xp_0_3, xg_0_4, xp_0_4, xg_0_5, xp_0_5, xg_0_6, xp_0_6, xg_0_7, xp_0_7, xg_0_8, xp_0_8, xg_1_0, xp_1_0, xg_1_1, xp_1_1, xg_1_2, xp_1_2, xg_1_3, xp_1_3, xg_2_0, xp_2_0, xg_2_1, xp_2_1, xg_2_2, xp_2_2, xg_3_0, xp_3_0, xg_3_1, xp_3_1, xg_3_2, xp_3_2, xg_3_3, xp_3_3, xg_3_4, xp_3_4, xg_3_5, xp_3_5, xg_3_6, xp_3_6, xg_3_7, xp_3_7, xg_3_8, xp_3_8, xg_3_9, xp_3_9, xg_3_10, xp_3_10, xg_3_11, xp_3_11, xg_4_0, xp_4_0, xg_4_1, xp_4_1, xg_5_0, xp_5_0, xg_5_1, xp_5_1, xg_6_0, xp_6_0, xg_6_1, xp_6_1, xg_6_2, xp_6_2, xg_6_3, xp_6_3, xg_6_4, xp_6_4, xg_6_5, xp_6_5, xg_7_0, xp_7_0, xg_7_1, xp_7_1, xg_7_2, xp_7_2, xg_7_3, xp_7_3, xg_7_4, xp_7_4, xg_7_5, xp_7_5, xg_7_6, xp_7_6, xg_7_7, xp_7_7, xg_7_8, xp_7_8, xg_7_9, xp_7_9, xg_7_10, xp_7_10, xg_7_11, xp_7_11, xg_7_12, xp_7_12, xg_7_13, xp_7_13, fv0, fv1, fv2, fv3, kI_0, kI_1, stL, wipeL, entLn, entL, List.getElem?_cons_zero, List.getElem?_cons_succ, List.getElem?_nil, List.set_cons_zero, List.set_cons_succ, List.set_nil, List.length_cons, List.length_nil, List.cons_append, List.nil_append, List.replicate, Nat.reduceAdd, Nat.reduceLeDiff, Nat.reduceSub, true_and, and_true, x_callS, x_callSN, x_callI, x_callIN, x_callV0, x_callV1, x_callV2, x_callV3, x_callV4, x_callV5, x_callV6, x_callV7, callP, List.take_succ_cons, List.take_zero, List.take_nil, List.drop_succ_cons, List.drop_zero, List.drop_nil, List.getLast?_singleton, List.getLast?_cons_cons, Option.some.injEq, Value.ref.injEq, exists_eq_left, exists_eq_left', Nat.zero_le, Nat.add_zero, ldcV_f, ldcV_fn, ldcV_l, ldcV_d, Nat.reduceMul, Nat.le_refl, List.reverse_cons, List.reverse_nil, Option.toList, List.map_cons, List.map_nil, List.sum_cons, List.sum_nil, Value.category, tblW_n, tblW_c, Int.cast_ofNat_Int, Int.reduceAdd, Int.reduceToNat, ofI_n, rc_X3_look, rs_X3_look, P_X3_look, rc_X3_isLetter, rs_X3_isLetter, P_X3_isLetter, rc_X3_add, rs_X3_add, P_X3_add]
  obtain ⟨T, n, q, s, d, r, c, hP, hq, hs, e7, e6, e9, e10, e11, h1, h2⟩ := h
  have o0 := hP.1.1
  simp only [o0, e7, bI_0, sK_stI, sR_stI, sK_stF, sR_stF, sK_stIA, sR_stIA, sK_stFA, sR_stFA, sI_stI, sI_stF, sI_stIA, sI_stFA, sF_stI, sF_stF, sF_stIA, sF_stFA, Nat.left_eq_add, Nat.add_eq_left, Nat.add_left_cancel_iff, Nat.reduceEqDiff, Nat.reduceEqDiff, Nat.succ_ne_self, false_and, and_false, if_false, if_true, nI_succ_sub, Option.some.injEq, Prod.mk.injEq, exists_eq_left', true_and, and_true, retI, retF, retV, retZ1, retZ0, retL, retA, retN, Nat.reduceAdd, Nat.reduceMul, Nat.reduceLT]
  have hc := chP_lt hP q
  refine ⟨T, n, q, hP, hq, rfl, ?_⟩
  rw [nI_leI (by omega) (by omega), nI_leI (by omega) (by omega)]
  refine ⟨fun c1 => ?_, fun c1 => h1 (fun a => c1 (fun b => b a))⟩
  have c1 : ltP T n q := Decidable.not_not.mp c1
  refine lp_X3_readLetters l G hP hq hs (h2 c1) 0 (by omega) S ⟨⟨Fr.refl _ _ _, rfl, rfl, e7, ?_, fun _ _ => ⟨rfl, rfl, rfl, rfl, rfl⟩, fun j x hx => ?_⟩, e9, e10, e11⟩ rfl
  · exact e6
  · unfold leL at hx
    simp at hx
/-- an order: whether there is one, where its reading ends, what it orders -/
noncomputable def orP (T : Nat → Nat) (n i : Nat) : Bool × Nat × List Ent :=
  if chP T n i = 110 then (true, i + 1, [⟨110, 0, 0, 0, 0⟩])
  else if chP T n i = 111 ∨ chP T n i = 107 then (if dgP T n (i + 1) then (true, i + 2, [⟨chP T n i, chP T n (i + 1) - 48, 0, 0, 0⟩]) else (false, i + 1, []))
  else if chP T n i = 119 then (if dgP T n (i + 1) then (if (plP T n (i + 2)).1 = true then (if chP T n (plP T n (i + 2)).2.2.2 = 61 then (if ltP T n ((plP T n (i + 2)).2.2.2 + 1) then (true, (plP T n (i + 2)).2.2.2 + 1 + enP T n ((plP T n (i + 2)).2.2.2 + 1), leL T n ((plP T n (i + 2)).2.2.2 + 1) (chP T n (i + 1) - 48) (plP T n (i + 2)).2.1 (plP T n (i + 2)).2.2.1 (enP T n ((plP T n (i + 2)).2.2.2 + 1))) else (false, (plP T n (i + 2)).2.2.2 + 1, [])) else (false, (plP T n (i + 2)).2.2.2, [])) else (false, (plP T n (i + 2)).2.2.2, [])) else (false, i + 1, []))
  else if chP T n i = 112 then (if dgP T n (i + 1) then (if (plP T n (i + 2)).1 = true then (true, (plP T n (i + 2)).2.2.2, [⟨112, chP T n (i + 1) - 48, (plP T n (i + 2)).2.1, (plP T n (i + 2)).2.2.1, 0⟩]) else (false, (plP T n (i + 2)).2.2.2, [])) else (false, i + 1, []))
  else if chP T n i = 120 then (if (plP T n (i + 1)).1 = true then (true, (plP T n (i + 1)).2.2.2, [⟨120, 0, (plP T n (i + 1)).2.1, (plP T n (i + 1)).2.2.1, 0⟩]) else (false, (plP T n (i + 1)).2.2.2, []))
  else if chP T n i = 104 then (if (nmP T n (i + 1)).1 = true then (true, (nmP T n (i + 1)).2.2, [⟨104, (nmP T n (i + 1)).2.1, 0, 0, 0⟩]) else (false, i + 1, []))
  else (false, i, [])
theorem OF.refl (f : Nat → Int32) : OF f f := fun _ _ => rfl
theorem OF.up {f g : Nat → Int32} (h : OF f g) {k : Nat} (v : Int32) (h1 : 7 ≤ k) (h2 : k ≤ 11) : OF f (upV g k v) := fun j hj => by
  rw [upAt, if_neg (by omega)]
  exact h j hj
theorem OF.trans {f g e : Nat → Int32} (h : OF f g) (k : OF g e) : OF f e := fun j hj => (k j hj).trans (h j hj)
theorem RO.nil {S : SS} {o s i : Nat} {g : Nat → Int32} (h : OF (sI S o) g) (e7 : g 7 = nI i) (e6 : sI S o 6 = nI s) : RO S (stIA S o g) o s i [] := by
  refine ⟨(Fr.refl _ _ _).stIA _ _ (Nat.le_refl _) (by omega), ?_, ?_, ?_, ?_, fun e _ => ?_, fun j x hx => by simp at hx⟩
  · rw [sI_stIA, if_neg (by omega)]
  · rw [sI_stIA, if_neg (by omega)]
  · rw [sI_stIA, if_pos rfl, e7]
  · rw [sI_stIA, if_pos rfl, h 6 (by omega)]
    exact e6
  · simp only [sI_stIA, show ¬ o + 3 = o by omega, show ¬ o + 4 = o by omega, show ¬ o + 5 = o by omega, show ¬ o + 6 = o by omega, show ¬ o + 7 = o by omega, if_false, and_self]
theorem RO.trans {S T U : SS} {o s i j : Nat} {es : List Ent} (h : RO S T o s i []) (k : RO T U o s j es) : RO S U o s j es := by
  obtain ⟨h1, h2, h3, h4, h5, h6, -⟩ := h
  obtain ⟨k1, k2, k3, k4, k5, k6, k7⟩ := k
  exact ⟨h1.trans k1, k2.trans h2, k3.trans h3, k4, k5, h6.trans k6 (Nat.le_refl _), k7⟩
theorem plP_le {T : Nat → Nat} {n i : Nat} (hi : i ≤ n) : i ≤ (plP T n i).2.2.2 ∧ (plP T n i).2.2.2 ≤ n := by
  unfold plP
  split
  · rename_i h
    have hin : i < n := by
      apply Nat.lt_of_not_le
      intro a
      unfold chP at h
      rw [if_neg (by omega)] at h
      omega
    have m := nmP_le (T := T) (n := n) (i := i + 1) (by omega)
    split
    · split
      · rename_i h2
        have hin2 : (nmP T n (i + 1)).2.2 < n := by
          apply Nat.lt_of_not_le
          intro a
          unfold chP at h2
          rw [if_neg (by omega)] at h2
          omega
        have m2 := nmP_le (T := T) (n := n) (i := (nmP T n (i + 1)).2.2 + 1) (by omega)
        exact ⟨by show i ≤ (nmP T n ((nmP T n (i + 1)).2.2 + 1)).2.2; omega, m2.2.1⟩
      · exact ⟨by show i ≤ (nmP T n (i + 1)).2.2; omega, m.2.1⟩
    · exact ⟨by show i ≤ i + 1; omega, by show i + 1 ≤ n; omega⟩
  · exact ⟨Nat.le_refl _, hi⟩
theorem RO.one {S : SS} {o s i : Nat} {g : Nat → Int32} {k l : Int32} {x : Ent} (h : OF (sI S o) g) (e7 : g 7 = nI i) (e6 : sI S o 6 = nI s) (hk : k = nI x.k) (ha : ¬ x.k = 110 ∧ ¬ x.k = 120 → g 9 = nI x.a) (hr : x.k = 119 ∨ x.k = 112 ∨ x.k = 120 → g 10 = nI x.r ∧ g 11 = nI x.c) (hl : x.k = 119 → l = nI x.l) : RO S (addS (stIA S o g) o s k l) o s i [x] := by
  have h0 := RO.nil h e7 e6
  refine RO.add (es := []) (g := sI (addS (stIA S o g) o s k l) o) (k := k) (l := l) h0 (by rw [show s + ([] : List Ent).length = s from rfl, stIA_self]) ?_ ?_ hk ?_ ?_ hl
  · rw [addS_o]
    rfl
  · rw [addS_o, upAt, if_neg (by omega), sI_stIA, if_pos rfl, e7]
  · rw [sI_stIA, if_pos rfl]; exact ha
  · rw [sI_stIA, if_pos rfl]; exact hr
def P_X3_readOrder (as : List Value) (S : SS) (E : Option Value → SS → Prop) : Prop := match as with
  | [.ref o] => ∃ T n i s, PO S o T n ∧ i ≤ n ∧ s ≤ i ∧ sI S o 7 = nI i ∧ sI S o 6 = nI s ∧ ∀ S', RO S S' o s (orP T n i).2.1 (orP T n i).2.2 → E (some (.int (bI ((orP T n i).1 = true)))) S'
  | _ => False
def Γ_X3_readOrder : List (MI × PT) := [(mi_X3_look, P_X3_look), (mi_X3_reads, P_X3_reads), (mi_X3_add, P_X3_add), (mi_X3_readFirstDigit, P_X3_readFirstDigit), (mi_X3_readPlace, P_X3_readPlace), (mi_X3_readLetters, P_X3_readLetters), (mi_X3_readFirstNumber, P_X3_readFirstNumber)]
theorem hΓ_X3_readOrder (l : Launch) (G : Gx) : ∀ q ∈ Γ_X3_readOrder, Ct l G q.1 q.2 := List.forall_mem_cons.mpr ⟨ct_X3_look l G, List.forall_mem_cons.mpr ⟨ct_X3_reads l G, List.forall_mem_cons.mpr ⟨ct_X3_add l G, List.forall_mem_cons.mpr ⟨ct_X3_readFirstDigit l G, List.forall_mem_cons.mpr ⟨ct_X3_readPlace l G, List.forall_mem_cons.mpr ⟨ct_X3_readLetters l G, List.forall_mem_cons.mpr ⟨ct_X3_readFirstNumber l G, fun _ h => absurd h List.not_mem_nil⟩⟩⟩⟩⟩⟩⟩
set_option maxHeartbeats 1000000 in
theorem ct_X3_readOrder (l : Launch) (G : Gx) : Ct l G mi_X3_readOrder P_X3_readOrder := by
  refine Ct.ofV mo_X3_readOrder (fun as S E h => ?_)
  unfold P_X3_readOrder at h
  split at h
  case h_2 => exact h.elim
  rename_i o
  refine ⟨by simp [entL, mL_X3_readOrder], ?_⟩
  refine wpN_ok (Γ := Γ_X3_readOrder) (hΓ_X3_readOrder l G) so_X3_readOrder 6 _ _ _ _ _ _ ?_
  simp only [mL_X3_readOrder, mT_X3_readOrder, rc_X3_readOrder, rs_X3_readOrder, Γ_X3_readOrder, sg_X3_readOrder_0, sg_X3_readOrder_88, sg_X3_readOrder_109, sg_X3_readOrder_110, sg_X3_readOrder_111, sg_X3_readOrder_139, sg_X3_readOrder_140, sg_X3_readOrder_141, sg_X3_readOrder_183, sg_X3_readOrder_184, sg_X3_readOrder_185, sg_X3_readOrder_220, sg_X3_readOrder_221, sg_X3_readOrder_222, sg_X3_readOrder_250, sg_X3_readOrder_251, sg_X3_readOrder_252, sg_X3_readOrder_280, sg_X3_readOrder_281, sg_X3_readOrder_282, wn_X3_readOrder_0, wn_X3_readOrder_88, wn_X3_readOrder_109, wn_X3_readOrder_110, wn_X3_readOrder_111, wn_X3_readOrder_139, wn_X3_readOrder_140, wn_X3_readOrder_141, wn_X3_readOrder_183, wn_X3_readOrder_184, wn_X3_readOrder_185, wn_X3_readOrder_220, wn_X3_readOrder_221, wn_X3_readOrder_222, wn_X3_readOrder_250, wn_X3_readOrder_251, wn_X3_readOrder_252, wn_X3_readOrder_280, wn_X3_readOrder_281, wn_X3_readOrder_282, wp_c, ex_c, x_nop, x_goto, x_table, x_iinc, x_ldc, x_ldc2, x_iaload, x_faload, x_baload, x_caload, x_iastore, x_fastore, x_bastore, x_castore, x_aastore, x_alen, x_gets, x_new, x_newa, x_anew, x_invs, x_invi, x_invv, x_ret, x_iret, x_lret, x_fret, x_aret, x_lconst, x_fconst0, x_fconst1, x_fconst2, x_dconst0, x_dconst1, x_null, x_iadd, x_isub, x_imul, x_iand, x_ior, x_idiv, x_irem, x_ineg, x_ishl, x_ishr, x_land, x_lor, x_lushr, x_lshl, x_lcmp, x_i2l, x_l2i, x_i2c, x_i2f, x_f2d, x_d2i, x_d2l, x_fadd, x_fsub, x_fmul, x_fdiv, x_dadd, x_dsub, x_dmul, x_ddiv, x_fcmp, x_dcmp, x_dupI, x_dupR, x_dup2, x_popI, x_popR, ldP_I, ldP_L, ldP_F, ldP_D, ldP_R, ldP_N, x_iload, x_iload_n, x_lload, x_lload_n, x_fload, x_fload_n, x_dload, x_dload_n, x_aload, x_aload_n, x_istore, x_istore_n, x_lstore, x_lstore_n, x_fstore, x_fstore_n, x_dstore, x_dstore_n, x_astore, x_astore_n, x_astoreN, x_astore_nN, x_icmp_eq, x_icmp_ne, x_icmp_lt, x_icmp_ge, x_icmp_gt, x_icmp_le, x_if_eq, x_if_ne, x_if_lt, x_if_ge, x_if_gt, x_if_le, x_ifnull, x_ifnullR, x_ifnn, x_ifnnR, x_aaload2, x_cpI, x_cpF, x_bF, x_bD, x_oI, xk_bipush_120, xk_iconst_0, xk_bipush_m6, xk_iconst_1, xk_bipush_80, xk_bipush_48, xk_bipush_57, xk_bipush_10, xk_bipush_64, xk_bipush_46, xk_bipush_97, xk_bipush_122, xk_bipush_119, xk_bipush_61, xk_bipush_59, xk_bipush_8, xk_bipush_33, xk_bipush_126, xk_bipush_m2, xk_bipush_m4, xk_iconst_4, xk_bipush_6, xk_iconst_2, xk_bipush_40, xk_iconst_3, xk_iconst_5, xk_iconst_m1, xk_bipush_m5, xk_bipush_12, xk_bipush_100, xk_bipush_26, xk_sipush_9999, xk_sipush_500, xk_bipush_7, xk_bipush_m126, xk_bipush_127, xk_bipush_23, xk_sipush_m1022, xk_sipush_1023, xk_bipush_52, xk_bipush_m3, xk_sipush_9830, xk_sipush_4800, xk_sipush_983, xk_sipush_480, xk_bipush_13, xk_bipush_18, xk_bipush_9, xk_bipush_32, xg_0_0, xp_0_0, xg_0_1, xp_0_1, xg_0_2, xp_0_2, xg_0_3, xp_0_3, xg_0_4, xp_0_4, xg_0_5, xp_0_5, xg_0_6, xp_0_6, xg_0_7, xp_0_7, xg_0_8, xp_0_8, xg_1_0, xp_1_0, xg_1_1, xp_1_1, xg_1_2, xp_1_2, xg_1_3, xp_1_3, xg_2_0, xp_2_0, xg_2_1, xp_2_1, xg_2_2, xp_2_2, xg_3_0, xp_3_0, xg_3_1, xp_3_1, xg_3_2, xp_3_2, xg_3_3, xp_3_3, xg_3_4, xp_3_4, xg_3_5, xp_3_5, xg_3_6, xp_3_6, xg_3_7, xp_3_7, xg_3_8, xp_3_8, xg_3_9, xp_3_9, xg_3_10, xp_3_10, xg_3_11, xp_3_11, xg_4_0, xp_4_0, xg_4_1, xp_4_1, xg_5_0, xp_5_0, xg_5_1, xp_5_1, xg_6_0, xp_6_0, xg_6_1, xp_6_1, xg_6_2, xp_6_2, xg_6_3, xp_6_3, xg_6_4, xp_6_4, xg_6_5, xp_6_5, xg_7_0, xp_7_0, xg_7_1, xp_7_1, xg_7_2, xp_7_2, xg_7_3, xp_7_3, xg_7_4, xp_7_4, xg_7_5, xp_7_5, xg_7_6, xp_7_6, xg_7_7, xp_7_7, xg_7_8, xp_7_8, xg_7_9, xp_7_9, xg_7_10, xp_7_10, xg_7_11, xp_7_11, xg_7_12, xp_7_12, xg_7_13, xp_7_13, fv0, fv1, fv2, fv3, kI_0, kI_1, stL, wipeL, entLn, entL, List.getElem?_cons_zero, List.getElem?_cons_succ, List.getElem?_nil, List.set_cons_zero, List.set_cons_succ, List.set_nil, List.length_cons, List.length_nil, List.cons_append, List.nil_append, List.replicate, Nat.reduceAdd, Nat.reduceLeDiff, Nat.reduceSub, true_and, and_true, x_callS, x_callSN, x_callI, x_callIN, x_callV0, x_callV1, x_callV2, x_callV3, x_callV4, x_callV5, x_callV6, x_callV7, callP, List.take_succ_cons, List.take_zero, List.take_nil, List.drop_succ_cons, List.drop_zero, List.drop_nil, List.getLast?_singleton, List.getLast?_cons_cons, Option.some.injEq, Value.ref.injEq, exists_eq_left, exists_eq_left', Nat.zero_le, Nat.add_zero, ldcV_f, ldcV_fn, ldcV_l, ldcV_d, Nat.reduceMul, Nat.le_refl, List.reverse_cons, List.reverse_nil, Option.toList, List.map_cons, List.map_nil, List.sum_cons, List.sum_nil, Value.category, tblW_n, tblW_c, Int.cast_ofNat_Int, Int.reduceAdd, Int.reduceToNat, ofI_n, rc_X3_look, rs_X3_look, P_X3_look, rc_X3_reads, rs_X3_reads, P_X3_reads, rc_X3_add, rs_X3_add, P_X3_add, rc_X3_readFirstDigit, rs_X3_readFirstDigit, P_X3_readFirstDigit, rc_X3_readPlace, rs_X3_readPlace, P_X3_readPlace, rc_X3_readLetters, rs_X3_readLetters, P_X3_readLetters, rc_X3_readFirstNumber, rs_X3_readFirstNumber, P_X3_readFirstNumber]
  obtain ⟨T, n, i, s, hP, hi, hs, e7, e6, h⟩ := h
  have o0 := hP.1.1
  simp only [o0, e7, bI_0, sK_stI, sR_stI, sK_stF, sR_stF, sK_stIA, sR_stIA, sK_stFA, sR_stFA, sI_stI, sI_stF, sI_stIA, sI_stFA, sF_stI, sF_stF, sF_stIA, sF_stFA, Nat.left_eq_add, Nat.add_eq_left, Nat.add_left_cancel_iff, Nat.reduceEqDiff, Nat.reduceEqDiff, Nat.succ_ne_self, false_and, and_false, if_false, if_true, nI_succ_sub, Option.some.injEq, Prod.mk.injEq, exists_eq_left', true_and, and_true, retI, retF, retV, retZ1, retZ0, retL, retA, retN, Nat.reduceAdd, Nat.reduceMul, Nat.reduceLT]
  refine ⟨T, n, i, hP, hi, rfl, ?_⟩
  have hnI : ∀ j, chP T n j < 256 := chP_lt hP
  have hn80 := hP.2.1
  have inn : ∀ j c, 0 < c → chP T n j = c → j < n := fun j c hc e => by
    apply Nat.lt_of_not_le
    intro a
    unfold chP at e
    rw [if_neg (by omega)] at e
    omega
  have f1 : ∀ U pos es, orP T n i = (true, pos, es) → RO S U o s pos es → E (some (.int (nI 1))) U := fun U pos es e hR => by
    have := h U (by rw [e]; exact hR)
    rw [e] at this
    exact this
  have f0 : ∀ U pos, orP T n i = (false, pos, []) → RO S U o s pos [] → E (some (.int (nI 0))) U := fun U pos e hR => by
    have := h U (by rw [e]; exact hR)
    rw [e] at this
    exact this
  have fS : orP T n i = (false, i, []) → E (some (.int (nI 0))) S := fun e => by
    refine f0 S i e ?_
    have := RO.nil (OF.refl (sI S o)) e7 e6
    rwa [stIA_self] at this
  have hz : ∀ c, c < 256 → (¬ c = 104 ∧ ¬ c = 107 ∧ ¬ c = 110 ∧ ¬ c = 111 ∧ ¬ c = 112 ∧ ¬ c = 119 ∧ ¬ c = 120) → nI (chP T n i) = nI c → E (some (.int (nI 0))) S := fun c hc hn e => by
    rw [nI_eq (by have := hnI i; omega) (by omega)] at e
    refine fS ?_
    unfold orP
    rw [e, if_neg (by omega), if_neg (by omega), if_neg (by omega), if_neg (by omega), if_neg (by omega), if_neg (by omega)]
  simp only [n10, n00, not_true_eq_false, not_false_eq_true, false_implies, true_implies, and_true, true_and]
  refine ⟨⟨fun q => ?_, hz 105 (by omega) (by omega), hz 106 (by omega) (by omega), fun q => ?_, hz 108 (by omega) (by omega), hz 109 (by omega) (by omega), fun q => ?_, fun q => ?_, fun q => ?_, hz 113 (by omega) (by omega), hz 114 (by omega) (by omega), hz 115 (by omega) (by omega), hz 116 (by omega) (by omega), hz 117 (by omega) (by omega), hz 118 (by omega) (by omega), fun q => ?_, fun q => ?_⟩, fun q => fS ?_⟩
  · rw [nI_eq (by have := hnI i; omega) (by omega)] at q
    have hin := inn i _ (by omega) q
    refine ⟨T, n, i, hP, hi, rfl, fun _ => ?_, fun a => absurd rfl a⟩
    refine ⟨T, n, i + 1, hP.st _, by omega, rfl, fun q2 => ?_, fun q2 v => ?_⟩
    · refine ⟨((hP.st _).st _).1, s, 104, by omega, by omega, by simp only [upAt, Nat.reduceEqDiff, if_false, e6], by rw [q], ?_⟩
      rw [stIA_stIA]
      refine f1 _ (nmP T n (i + 1)).2.2 [⟨104, (nmP T n (i + 1)).2.1, 0, 0, 0⟩] (by simp only [orP, q]; simp [q2]) (RO.one (((((OF.refl _).up _ (by omega) (by omega)).up _ (by omega) (by omega)).up _ (by omega) (by omega)).up _ (by omega) (by omega)) ?_ e6 (by rw [q]) (fun _ => rfl) (fun a => absurd a (by simp [Ent.k, Ent.a, Ent.r, Ent.c, Ent.l])) (fun a => absurd a (by simp [Ent.k, Ent.a, Ent.r, Ent.c, Ent.l])))
      simp only [upAt, Nat.reduceEqDiff, if_false, if_true]
    · rw [stIA_stIA]
      refine f0 _ (i + 1) (by simp only [orP, q]; simp [q2]) (RO.nil (((OF.refl _).up _ (by omega) (by omega)).up _ (by omega) (by omega)) ?_ e6)
      simp only [upAt, Nat.reduceEqDiff, if_false, if_true]
  · rw [nI_eq (by have := hnI i; omega) (by omega)] at q
    have hin := inn i _ (by omega) q
    refine ⟨T, n, i, hP, hi, rfl, fun _ => ?_, fun a => absurd rfl a⟩
    refine ⟨T, n, i + 1, hP.st _, by omega, rfl, fun q2 => ?_, fun q2 => ?_⟩
    · refine ⟨((hP.st _).st _).1, s, 107, by omega, by omega, by simp only [upAt, Nat.reduceEqDiff, if_false, e6], by rw [q], ?_⟩
      rw [stIA_stIA]
      refine f1 _ (i + 2) [⟨107, chP T n (i + 1) - 48, 0, 0, 0⟩] (by simp only [orP, q]; simp [q2]) (RO.one ((((OF.refl _).up _ (by omega) (by omega)).up _ (by omega) (by omega)).up _ (by omega) (by omega)) ?_ e6 (by rw [q]) (fun _ => rfl) (fun a => absurd a (by simp [Ent.k, Ent.a, Ent.r, Ent.c, Ent.l])) (fun a => absurd a (by simp [Ent.k, Ent.a, Ent.r, Ent.c, Ent.l])))
      simp only [upAt, Nat.reduceEqDiff, if_false, if_true]
    · refine f0 _ (i + 1) (by simp only [orP, q]; simp [q2]) (RO.nil ((OF.refl _).up _ (by omega) (by omega)) ?_ e6)
      simp only [upAt, Nat.reduceEqDiff, if_false, if_true]
  · rw [nI_eq (by have := hnI i; omega) (by omega)] at q
    have hin := inn i _ (by omega) q
    refine ⟨T, n, i, hP, hi, rfl, fun _ => ?_, fun a => absurd rfl a⟩
    refine ⟨(hP.st _).1, s, 110, by omega, by omega, by simp only [upAt, Nat.reduceEqDiff, if_false, e6], by rw [q], ?_⟩
    refine f1 _ (i + 1) [⟨110, 0, 0, 0, 0⟩] (by simp only [orP, q]; simp) (RO.one ((OF.refl _).up _ (by omega) (by omega)) ?_ e6 (by rw [q]) (fun a => absurd rfl a.1) (fun a => absurd a (by simp [Ent.k, Ent.a, Ent.r, Ent.c, Ent.l])) (fun a => absurd a (by simp [Ent.k, Ent.a, Ent.r, Ent.c, Ent.l])))
    simp only [upAt, Nat.reduceEqDiff, if_false, if_true]
  · rw [nI_eq (by have := hnI i; omega) (by omega)] at q
    have hin := inn i _ (by omega) q
    refine ⟨T, n, i, hP, hi, rfl, fun _ => ?_, fun a => absurd rfl a⟩
    refine ⟨T, n, i + 1, hP.st _, by omega, rfl, fun q2 => ?_, fun q2 => ?_⟩
    · refine ⟨((hP.st _).st _).1, s, 111, by omega, by omega, by simp only [upAt, Nat.reduceEqDiff, if_false, e6], by rw [q], ?_⟩
      rw [stIA_stIA]
      refine f1 _ (i + 2) [⟨111, chP T n (i + 1) - 48, 0, 0, 0⟩] (by simp only [orP, q]; simp [q2]) (RO.one ((((OF.refl _).up _ (by omega) (by omega)).up _ (by omega) (by omega)).up _ (by omega) (by omega)) ?_ e6 (by rw [q]) (fun _ => rfl) (fun a => absurd a (by simp [Ent.k, Ent.a, Ent.r, Ent.c, Ent.l])) (fun a => absurd a (by simp [Ent.k, Ent.a, Ent.r, Ent.c, Ent.l])))
      simp only [upAt, Nat.reduceEqDiff, if_false, if_true]
    · refine f0 _ (i + 1) (by simp only [orP, q]; simp [q2]) (RO.nil ((OF.refl _).up _ (by omega) (by omega)) ?_ e6)
      simp only [upAt, Nat.reduceEqDiff, if_false, if_true]
  · rw [nI_eq (by have := hnI i; omega) (by omega)] at q
    have hin := inn i _ (by omega) q
    refine ⟨T, n, i, hP, hi, rfl, fun _ => ?_, fun a => absurd rfl a⟩
    refine ⟨T, n, i + 1, hP.st _, by omega, rfl, fun q2 => ?_, fun q2 => ?_⟩
    · have hin2 := dgP_lt q2
      refine ⟨T, n, i + 2, (hP.st _).st _, by omega, rfl, fun q3 g hg g7 g9 g10 g11 => ?_, fun q3 g hg g7 => ?_⟩
      · have hO := ((OF.refl (sI S o)).up (k := 7) (nI (i + 1)) (by omega) (by omega)).up (k := 9) (nI (chP T n (i + 1) - 48)) (by omega) (by omega) |>.up (k := 7) (nI (i + 1 + 1)) (by omega) (by omega)
        have hO := hO.trans hg
        refine ⟨(((hP.st _).st _).st _).1, s, 112, by omega, by omega, (hO 6 (by omega)).trans e6, by rw [q], ?_⟩
        rw [stIA_stIA, stIA_stIA]
        refine f1 _ (plP T n (i + 2)).2.2.2 [⟨112, chP T n (i + 1) - 48, (plP T n (i + 2)).2.1, (plP T n (i + 2)).2.2.1, 0⟩] (by simp only [orP, q]; simp [q2, q3]) (RO.one hO g7 e6 (by rw [q]) (fun _ => ?_) (fun _ => ⟨g10, g11⟩) (fun a => absurd a (by simp [Ent.k, Ent.a, Ent.r, Ent.c, Ent.l])))
        rw [g9]
        simp only [upAt, Nat.reduceEqDiff, if_false, if_true]
      · have hO := ((OF.refl (sI S o)).up (k := 7) (nI (i + 1)) (by omega) (by omega)).up (k := 9) (nI (chP T n (i + 1) - 48)) (by omega) (by omega) |>.up (k := 7) (nI (i + 1 + 1)) (by omega) (by omega)
        have hO := hO.trans hg
        rw [stIA_stIA, stIA_stIA]
        exact f0 _ ((plP T n (i + 2)).2.2.2) (by simp only [orP, q]; simp [q2, q3]) (RO.nil hO g7 e6)
    · refine f0 _ (i + 1) (by simp only [orP, q]; simp [q2]) (RO.nil ((OF.refl _).up _ (by omega) (by omega)) ?_ e6)
      simp only [upAt, Nat.reduceEqDiff, if_false, if_true]
  · rw [nI_eq (by have := hnI i; omega) (by omega)] at q
    have hin := inn i _ (by omega) q
    refine ⟨T, n, i, hP, hi, rfl, fun _ => ?_, fun a => absurd rfl a⟩
    refine ⟨T, n, i + 1, hP.st _, by omega, rfl, fun q2 => ?_, fun q2 => ?_⟩
    · have hin2 := dgP_lt q2
      refine ⟨T, n, i + 2, (hP.st _).st _, by omega, rfl, fun q3 g hg g7 g9 g10 g11 => ?_, fun q3 g hg g7 => ?_⟩
      · have hO := ((OF.refl (sI S o)).up (k := 7) (nI (i + 1)) (by omega) (by omega)).up (k := 9) (nI (chP T n (i + 1) - 48)) (by omega) (by omega) |>.up (k := 7) (nI (i + 1 + 1)) (by omega) (by omega)
        have hO := hO.trans hg
        have hpl := plP_le (T := T) (n := n) (i := i + 2) (by omega)
        refine ⟨T, n, (plP T n (i + 2)).2.2.2, ((hP.st _).st _).st _, hpl.2, g7, fun q4 => ?_, fun q4 => ?_⟩
        · rw [nI_eq (by omega) (by have := hnI (plP T n (i + 2)).2.2.2; omega)] at q4
          have hin4 := inn _ _ (by omega) q4.symm
          refine ⟨T, n, (plP T n (i + 2)).2.2.2 + 1, s, chP T n (i + 1) - 48, (plP T n (i + 2)).2.1, (plP T n (i + 2)).2.2.1, (((hP.st _).st _).st _).st _, by omega, by omega, rfl, ?_, ?_, ?_, ?_, fun q5 => ?_, fun q5 U hU => ?_⟩
          · exact (hO.up _ (by omega) (by omega) 6 (by omega)).trans e6
          · rw [upAt, if_neg (by omega)]
            rw [g9]
            simp only [upAt, Nat.reduceEqDiff, if_false, if_true]
          · rw [upAt, if_neg (by omega), g10]
          · rw [upAt, if_neg (by omega), g11]
          · rw [stIA_stIA, stIA_stIA, stIA_stIA]
            exact f0 _ ((plP T n (i + 2)).2.2.2 + 1) (by simp only [orP, q]; simp [q2, q3, q4.symm, q5]) (RO.nil (hO.up _ (by omega) (by omega)) rfl e6)
          · rw [stIA_stIA, stIA_stIA, stIA_stIA] at hU
            exact f1 _ ((plP T n (i + 2)).2.2.2 + 1 + enP T n ((plP T n (i + 2)).2.2.2 + 1)) (leL T n ((plP T n (i + 2)).2.2.2 + 1) (chP T n (i + 1) - 48) (plP T n (i + 2)).2.1 (plP T n (i + 2)).2.2.1 (enP T n ((plP T n (i + 2)).2.2.2 + 1))) (by simp only [orP, q]; simp [if_pos q2, q3, q4.symm, if_pos q5]) ((RO.nil (hO.up _ (by omega) (by omega)) rfl e6).trans hU)
        · rw [stIA_stIA, stIA_stIA]
          have q4' : ¬ chP T n (plP T n (i + 2)).2.2.2 = 61 := fun a => q4 (by rw [a])
          exact f0 _ ((plP T n (i + 2)).2.2.2) (by simp only [orP, q]; simp [q2, q3, q4']) (RO.nil hO g7 e6)
      · have hO := ((OF.refl (sI S o)).up (k := 7) (nI (i + 1)) (by omega) (by omega)).up (k := 9) (nI (chP T n (i + 1) - 48)) (by omega) (by omega) |>.up (k := 7) (nI (i + 1 + 1)) (by omega) (by omega)
        have hO := hO.trans hg
        rw [stIA_stIA, stIA_stIA]
        exact f0 _ ((plP T n (i + 2)).2.2.2) (by simp only [orP, q]; simp [q2, q3]) (RO.nil hO g7 e6)
    · refine f0 _ (i + 1) (by simp only [orP, q]; simp [q2]) (RO.nil ((OF.refl _).up _ (by omega) (by omega)) ?_ e6)
      simp only [upAt, Nat.reduceEqDiff, if_false, if_true]
  · rw [nI_eq (by have := hnI i; omega) (by omega)] at q
    have hin := inn i _ (by omega) q
    refine ⟨T, n, i, hP, hi, rfl, fun _ => ?_, fun a => absurd rfl a⟩
    refine ⟨T, n, i + 1, hP.st _, by omega, rfl, fun q3 g hg g7 g9 g10 g11 => ?_, fun q3 g hg g7 => ?_⟩
    · have hO := ((OF.refl (sI S o)).up (k := 7) (nI (i + 1)) (by omega) (by omega)).trans hg
      refine ⟨((hP.st _).st _).1, s, 120, by omega, by omega, (hO 6 (by omega)).trans e6, by rw [q], ?_⟩
      rw [stIA_stIA]
      exact f1 _ (plP T n (i + 1)).2.2.2 [⟨120, 0, (plP T n (i + 1)).2.1, (plP T n (i + 1)).2.2.1, 0⟩] (by simp only [orP, q]; simp [q3]) (RO.one hO g7 e6 (by rw [q]) (fun a => absurd rfl a.2) (fun _ => ⟨g10, g11⟩) (fun a => absurd a (by simp [Ent.k, Ent.a, Ent.r, Ent.c, Ent.l])))
    · have hO := ((OF.refl (sI S o)).up (k := 7) (nI (i + 1)) (by omega) (by omega)).trans hg
      rw [stIA_stIA]
      exact f0 _ ((plP T n (i + 1)).2.2.2) (by simp only [orP, q]; simp [q3]) (RO.nil hO g7 e6)
  · rw [nI_toInt (by have := hnI i; omega)] at q
    simp only [orP]
    rw [if_neg (by omega), if_neg (by omega), if_neg (by omega), if_neg (by omega), if_neg (by omega), if_neg (by omega)]
