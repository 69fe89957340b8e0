/-! calls as rows; the shapes of objects -/
section CP
variable {G : Gx} {Γ : List (MI × PT)} {R : Room} {kc : List Value → SS → Nat → Nat → Prop} {y w : Nat} {st : List Value} {S : SS} {cs sl : Nat}
def callP (R : Room) (kc : List Value → SS → Nat → Nat → Prop) (w : Nat) (st : List Value) (S : SS) (cs sl : Nat) : Option (MI × PT) → Prop
  | some (M, P) => w ≤ st.length ∧ ((st.drop w).map fun v => v.category).sum ≤ 8 ∧ cs + (mR M).cells ≤ R.cells ∧ sl + (mR M).slots ≤ R.slots ∧
        P (st.take w).reverse S (fun v S' => kc (v.toList ++ st.drop w) S' (cs + (mR M).cells) (sl + (mR M).slots))
  | none => False
theorem x_callS : wpC Γ R kc y 0 w st S cs sl = callP R kc w st S cs sl Γ[y]? := by
  rw [x_call (by omega)]
  cases Γ[y]? with
  | none => rfl
  | some q =>
    obtain ⟨M, P⟩ := q
    simp [callP]
theorem x_callSN : wpC Γ R kc y 1 w st S cs sl = callP R kc w st S cs sl Γ[y]? := by
  rw [x_call (by omega)]
  cases Γ[y]? with
  | none => rfl
  | some q =>
    obtain ⟨M, P⟩ := q
    simp [callP]
theorem x_callI0 (z : Nat) (h1 : 2 ≤ z) (h2 : z < 4) : wpC Γ R kc y z w st S cs sl = ((∃ a, (st.take w).getLast? = some (.ref a)) ∧ callP R kc w st S cs sl Γ[y]?) := by
  rw [x_call (by omega)]
  cases Γ[y]? with
  | none => simp [callP]
  | some q =>
    obtain ⟨M, P⟩ := q
    have h3 : ¬ 10 ≤ z := by omega
    simp only [callP, h1, h3, true_implies, false_implies, and_true, eq_iff_iff]
    constructor
    · intro ⟨a1, a2, a3, a4, a5, a6⟩
      exact ⟨a5, a1, a2, a3, a4, a6⟩
    · intro ⟨a5, a1, a2, a3, a4, a6⟩
      exact ⟨a1, a2, a3, a4, a5, a6⟩
theorem x_callI : wpC Γ R kc y 2 w st S cs sl = ((∃ a, (st.take w).getLast? = some (.ref a)) ∧ callP R kc w st S cs sl Γ[y]?) := x_callI0 2 (by decide) (by decide)
theorem x_callIN : wpC Γ R kc y 3 w st S cs sl = ((∃ a, (st.take w).getLast? = some (.ref a)) ∧ callP R kc w st S cs sl Γ[y]?) := x_callI0 3 (by decide) (by decide)
theorem x_callV (ci : Nat) (h8 : ci < 8) : wpC Γ R kc y (10 + ci) w st S cs sl = ((∃ a, (st.take w).getLast? = some (.ref a) ∧ sK S a = some (ci, 0)) ∧ callP R kc w st S cs sl Γ[y]?) := by
  rw [x_call (by omega)]
  have e : 10 + ci - 10 = ci := by omega
  rw [e]
  cases Γ[y]? with
  | none => simp [callP]
  | some q =>
    obtain ⟨M, P⟩ := q
    have h2 : 2 ≤ 10 + ci := by omega
    have h3 : 10 ≤ 10 + ci := by omega
    simp only [callP, h2, h3, true_implies, eq_iff_iff]
    constructor
    · intro ⟨a1, a2, a3, a4, a5, a6⟩
      exact ⟨a5, a1, a2, a3, a4, a6⟩
    · intro ⟨a5, a1, a2, a3, a4, a6⟩
      exact ⟨a1, a2, a3, a4, a5, a6⟩
theorem x_callV0 : wpC Γ R kc y 10 w st S cs sl = ((∃ a, (st.take w).getLast? = some (.ref a) ∧ sK S a = some (0, 0)) ∧ callP R kc w st S cs sl Γ[y]?) := x_callV 0 (by decide)
theorem x_callV1 : wpC Γ R kc y 11 w st S cs sl = ((∃ a, (st.take w).getLast? = some (.ref a) ∧ sK S a = some (1, 0)) ∧ callP R kc w st S cs sl Γ[y]?) := x_callV 1 (by decide)
theorem x_callV2 : wpC Γ R kc y 12 w st S cs sl = ((∃ a, (st.take w).getLast? = some (.ref a) ∧ sK S a = some (2, 0)) ∧ callP R kc w st S cs sl Γ[y]?) := x_callV 2 (by decide)
theorem x_callV3 : wpC Γ R kc y 13 w st S cs sl = ((∃ a, (st.take w).getLast? = some (.ref a) ∧ sK S a = some (3, 0)) ∧ callP R kc w st S cs sl Γ[y]?) := x_callV 3 (by decide)
theorem x_callV4 : wpC Γ R kc y 14 w st S cs sl = ((∃ a, (st.take w).getLast? = some (.ref a) ∧ sK S a = some (4, 0)) ∧ callP R kc w st S cs sl Γ[y]?) := x_callV 4 (by decide)
theorem x_callV5 : wpC Γ R kc y 15 w st S cs sl = ((∃ a, (st.take w).getLast? = some (.ref a) ∧ sK S a = some (5, 0)) ∧ callP R kc w st S cs sl Γ[y]?) := x_callV 5 (by decide)
theorem x_callV6 : wpC Γ R kc y 16 w st S cs sl = ((∃ a, (st.take w).getLast? = some (.ref a) ∧ sK S a = some (6, 0)) ∧ callP R kc w st S cs sl Γ[y]?) := x_callV 6 (by decide)
theorem x_callV7 : wpC Γ R kc y 17 w st S cs sl = ((∃ a, (st.take w).getLast? = some (.ref a) ∧ sK S a = some (7, 0)) ∧ callP R kc w st S cs sl Γ[y]?) := x_callV 7 (by decide)
end CP
theorem x_aaload2 {Gg : Gx} {Γ : List (MI × PT)} {R : Room} {K E kk pc x y z w L st} {S : SS} {cs sl : Nat} {a : Nat} {j : Int32} : wp1 Gg Γ R K E kk (pc, .aaload, x, y, z, w) L (.int j :: .ref a :: st) S cs sl = (∃ n, sK S a = some (x, n) ∧ vp_in j n ∧ ∃ r, sR S a j.toNatClampNeg = some r ∧ kk L (.ref r :: st) S cs sl) := by
  rw [x_aaload]
  apply propext
  constructor
  · intro ⟨n, r, h1, h2, h3, h4⟩; exact ⟨n, h1, h2, r, h3, h4⟩
  · intro ⟨n, h1, h2, r, h3, h4⟩; exact ⟨n, r, h1, h2, h3, h4⟩
theorem x_cpI {kc : List Value → SS → Nat → Nat → Prop} {y w : Nat} {n dp sp : Int32} {a a0 : Nat} {st : List Value} {S : SS} {cs sl : Nat} {Γ : List (MI × PT)} {R : Room} : wpC Γ R kc y 4 w (.int n :: .int dp :: .ref a :: .int sp :: .ref a0 :: st) S cs sl = (∃ n0, sK S a0 = some (8, n0) ∧ ∃ n1, sK S a = some (8, n1) ∧ ¬ sp < 0 ∧ ¬ dp < 0 ∧ ¬ n < 0 ∧ sp.toNatClampNeg + n.toNatClampNeg ≤ n0 ∧ dp.toNatClampNeg + n.toNatClampNeg ≤ n1 ∧ (st.map fun v => v.category).sum ≤ 8 ∧ kc st (stIA S a (va_cpy (sI S a0) (sI S a) sp.toNatClampNeg dp.toNatClampNeg n.toNatClampNeg)) cs sl) := by
  apply propext
  constructor
  · intro ⟨n0, n1, h1, h2, h3⟩; exact ⟨n0, h1, n1, h2, h3⟩
  · intro ⟨n0, h1, n1, h2, h3⟩; exact ⟨n0, n1, h1, h2, h3⟩
theorem x_cpF {kc : List Value → SS → Nat → Nat → Prop} {y w : Nat} {n dp sp : Int32} {a a0 : Nat} {st : List Value} {S : SS} {cs sl : Nat} {Γ : List (MI × PT)} {R : Room} : wpC Γ R kc y 5 w (.int n :: .int dp :: .ref a :: .int sp :: .ref a0 :: st) S cs sl = (∃ n0, sK S a0 = some (9, n0) ∧ ∃ n1, sK S a = some (9, n1) ∧ ¬ sp < 0 ∧ ¬ dp < 0 ∧ ¬ n < 0 ∧ sp.toNatClampNeg + n.toNatClampNeg ≤ n0 ∧ dp.toNatClampNeg + n.toNatClampNeg ≤ n1 ∧ (st.map fun v => v.category).sum ≤ 8 ∧ kc st (stFA S a (va_cpy (sF S a0) (sF S a) sp.toNatClampNeg dp.toNatClampNeg n.toNatClampNeg)) cs sl) := by
  apply propext
  constructor
  · intro ⟨n0, n1, h1, h2, h3⟩; exact ⟨n0, h1, n1, h2, h3⟩
  · intro ⟨n0, h1, n1, h2, h3⟩; exact ⟨n0, n1, h1, h2, h3⟩
theorem x_oI {kc : List Value → SS → Nat → Nat → Prop} {y w : Nat} {b : Nat} {st : List Value} {S : SS} {cs sl : Nat} {Γ : List (MI × PT)} {R : Room} : wpC Γ R kc y 8 w (.ref b :: st) S cs sl = ((st.map fun v => v.category).sum ≤ 8 ∧ kc st S cs sl) := rfl
theorem tblW_n (P : Nat → Prop) (v : Int32) (pc : Nat) (k : Int) : tblW P v pc k [] = True := rfl
theorem tblW_c (P : Nat → Prop) (v : Int32) (pc : Nat) (k o : Int) (os : List Int) : tblW P v pc k (o :: os) = ((v = Int32.ofInt k → P ((pc : Int) + o).toNat) ∧ tblW P v pc (k + 1) os) := rfl
theorem ofI_n {n : Nat} : Int32.ofInt (no_index (OfNat.ofNat n)) = nI (OfNat.ofNat n) := rfl
def f100 : UInt32 := UInt32.ofNat 1120403456
theorem ldcV_f : ldcV 1120403456 1 = .float f100 := rfl
def fNaN : UInt32 := UInt32.ofNat 2143289344
theorem ldcV_fn : ldcV 2143289344 1 = .float fNaN := rfl
theorem ldcV_l (x : Nat) : ldcV x 2 = .long (lN x) := rfl
theorem ldcV_d (x : Nat) : ldcV x 3 = .double (UInt64.ofNat x) := rfl
/-- a plate at g: light, letters, writers, promised -/
def GlassAt (S : SS) (g : Nat) : Prop := sK S g = some (1, 0) ∧ sR S g 0 = some (g + 1) ∧ sR S g 1 = some (g + 2) ∧ sR S g 2 = some (g + 3) ∧ sR S g 3 = some (g + 4) ∧
  sK S (g + 1) = some (9, 120) ∧ sK S (g + 2) = some (8, 120) ∧ sK S (g + 3) = some (8, 120) ∧ sK S (g + 4) = some (8, 120)
/-- a desk at d: settings, press, written, spoiled, four plates -/
def DeskAt (S : SS) (d : Nat) : Prop := sK S d = some (0, 0) ∧ sR S d 0 = some (d + 1) ∧ sR S d 1 = some (d + 2) ∧ sR S d 2 = some (d + 3) ∧ sR S d 3 = some (d + 4) ∧ sR S d 4 = some (d + 5) ∧
  sK S (d + 1) = some (8, 4) ∧ sK S (d + 2) = some (8, 5) ∧ sK S (d + 3) = some (8, 5) ∧ sK S (d + 4) = some (8, 5) ∧ sK S (d + 5) = some (13, 4) ∧ ∀ i, i < 4 → sR S (d + 5) i = some (d + 6 + 5 * i) ∧ GlassAt S (d + 6 + 5 * i)
theorem GlassAt.mk' {S S' : SS} {g : Nat} (h : GlassAt S g) (hK : sK S' = sK S) (hR : sR S' = sR S) : GlassAt S' g := by
  unfold GlassAt at h ⊢
  rw [hK, hR]
  exact h
theorem DeskAt.mk' {S S' : SS} {d : Nat} (h : DeskAt S d) (hK : sK S' = sK S) (hR : sR S' = sR S) : DeskAt S' d := by
  unfold DeskAt at h ⊢
  rw [hK, hR]
  exact ⟨h.1, h.2.1, h.2.2.1, h.2.2.2.1, h.2.2.2.2.1, h.2.2.2.2.2.1, h.2.2.2.2.2.2.1, h.2.2.2.2.2.2.2.1, h.2.2.2.2.2.2.2.2.1, h.2.2.2.2.2.2.2.2.2.1, h.2.2.2.2.2.2.2.2.2.2.1, fun i hi => ⟨(h.2.2.2.2.2.2.2.2.2.2.2 i hi).1, (h.2.2.2.2.2.2.2.2.2.2.2 i hi).2.mk' hK hR⟩⟩
/-- the JDK's -/
def P_J9_max_7cf53 (as : List Value) (S : SS) (E : Option Value → SS → Prop) : Prop := match as with
  | [.int a, .int b] => E (some (.int (if a < b then b else a))) S
  | _ => False
def P_J9_min_7cf53 (as : List Value) (S : SS) (E : Option Value → SS → Prop) : Prop := match as with
  | [.int a, .int b] => E (some (.int (if b < a then b else a))) S
  | _ => False
def P_J9_abs_0f7a4 (as : List Value) (S : SS) (E : Option Value → SS → Prop) : Prop := match as with
  | [.int a] => E (some (.int (if 0 ≤ a then a else -a))) S
  | _ => False
def Γ_J9_max_7cf53 : List (MI × PT) := []
theorem hΓ_J9_max_7cf53 (l : Launch) (G : Gx) : ∀ q ∈ Γ_J9_max_7cf53, Ct l G q.1 q.2 := fun _ h => absurd h List.not_mem_nil
def Γ_J9_min_7cf53 : List (MI × PT) := []
theorem hΓ_J9_min_7cf53 (l : Launch) (G : Gx) : ∀ q ∈ Γ_J9_min_7cf53, Ct l G q.1 q.2 := fun _ h => absurd h List.not_mem_nil
def Γ_J9_abs_0f7a4 : List (MI × PT) := []
theorem hΓ_J9_abs_0f7a4 (l : Launch) (G : Gx) : ∀ q ∈ Γ_J9_abs_0f7a4, Ct l G q.1 q.2 := fun _ h => absurd h List.not_mem_nil
set_option maxHeartbeats 1000000 in
theorem ct_J9_max_7cf53 (l : Launch) (G : Gx) : Ct l G mi_J9_max_7cf53 P_J9_max_7cf53 := by
  refine Ct.ofV mo_J9_max_7cf53 (fun as S E h => ?_)
  unfold P_J9_max_7cf53 at h
  split at h
  case h_2 => exact h.elim
  refine ⟨by simp [entL, mL_J9_max_7cf53], ?_⟩
  refine wpN_ok (Γ := Γ_J9_max_7cf53) (hΓ_J9_max_7cf53 l G) so_J9_max_7cf53 3 _ _ _ _ _ _ ?_
  simp only [mL_J9_max_7cf53, mT_J9_max_7cf53, rc_J9_max_7cf53, rs_J9_max_7cf53, Γ_J9_max_7cf53, sg_J9_max_7cf53_0, sg_J9_max_7cf53_9, sg_J9_max_7cf53_10, wn_J9_max_7cf53_0, wn_J9_max_7cf53_9, wn_J9_max_7cf53_10, wp_c, ex_c, x_nop, x_goto, x_table, x_iinc, x_ldc, x_ldc2, x_iaload, x_faload, x_baload, x_caload, x_iastore, x_fastore, x_bastore, x_castore, x_aastore, x_alen, x_gets, x_new, x_newa, x_anew, x_invs, x_invi, x_invv, x_ret, x_iret, x_lret, x_fret, x_aret, x_lconst, x_fconst0, x_fconst1, x_fconst2, x_dconst0, x_dconst1, x_null, x_iadd, x_isub, x_imul, x_iand, x_ior, x_idiv, x_irem, x_ineg, x_ishl, x_ishr, x_land, x_ladd, x_lmul, x_lor, x_lushr, x_lshl, x_lcmp, x_i2l, x_l2i, x_i2c, x_i2f, x_f2d, x_d2i, x_d2l, x_fadd, x_fsub, x_fmul, x_fdiv, x_dadd, x_dsub, x_dmul, x_ddiv, x_fcmp, x_dcmp, x_dupI, x_dupR, x_dup2, x_popI, x_popR, ldP_I, ldP_L, ldP_F, ldP_D, ldP_R, ldP_N, x_iload, x_iload_n, x_lload, x_lload_n, x_fload, x_fload_n, x_dload, x_dload_n, x_aload, x_aload_n, x_istore, x_istore_n, x_lstore, x_lstore_n, x_fstore, x_fstore_n, x_dstore, x_dstore_n, x_astore, x_astore_n, x_astoreN, x_astore_nN, x_icmp_eq, x_icmp_ne, x_icmp_lt, x_icmp_ge, x_icmp_gt, x_icmp_le, x_if_eq, x_if_ne, x_if_lt, x_if_ge, x_if_gt, x_if_le, x_ifnull, x_ifnullR, x_ifnn, x_ifnnR, x_aaload2, x_cpI, x_cpF, x_oI, xk_bipush_120, xk_iconst_0, xk_bipush_m6, xk_iconst_1, xk_bipush_80, xk_iconst_4, xk_bipush_6, xk_iconst_2, xk_bipush_40, xk_iconst_3, xk_bipush_10, xk_iconst_5, xk_bipush_m2, xk_bipush_m4, xk_iconst_m1, xk_bipush_m5, xk_bipush_12, xk_bipush_100, xk_bipush_26, xk_bipush_48, xk_sipush_9999, xk_sipush_500, xk_bipush_7, xk_bipush_119, xk_bipush_m126, xk_bipush_127, xk_bipush_23, xk_sipush_m1022, xk_sipush_1023, xk_bipush_52, xg_0_0, xp_0_0, xg_0_1, xp_0_1, xg_0_2, xp_0_2, xg_0_3, xp_0_3, xg_0_4, xp_0_4, xg_0_5, xp_0_5, xg_0_6, xp_0_6, xg_0_7, xp_0_7, xg_0_8, xp_0_8, xg_1_0, xp_1_0, xg_1_1, xp_1_1, xg_1_2, xp_1_2, xg_1_3, xp_1_3, xg_2_0, xp_2_0, xg_2_1, xp_2_1, xg_2_2, xp_2_2, xg_3_0, xp_3_0, xg_3_1, xp_3_1, xg_3_2, xp_3_2, xg_3_3, xp_3_3, xg_3_4, xp_3_4, xg_3_5, xp_3_5, xg_3_6, xp_3_6, xg_3_7, xp_3_7, xg_3_8, xp_3_8, xg_3_9, xp_3_9, xg_3_10, xp_3_10, xg_3_11, xp_3_11, xg_4_0, xp_4_0, xg_4_1, xp_4_1, xg_5_0, xp_5_0, xg_5_1, xp_5_1, xg_6_0, xp_6_0, xg_6_1, xp_6_1, xg_6_2, xp_6_2, xg_6_3, xp_6_3, xg_6_4, xp_6_4, xg_6_5, xp_6_5, fv0, fv1, fv2, fv3, kI_0, kI_1, stL, wipeL, entLn, entL, List.getElem?_cons_zero, List.getElem?_cons_succ, List.getElem?_nil, List.set_cons_zero, List.set_cons_succ, List.set_nil, List.length_cons, List.length_nil, List.cons_append, List.nil_append, List.replicate, Nat.reduceAdd, Nat.reduceLeDiff, Nat.reduceSub, true_and, and_true, x_callS, x_callSN, x_callI, x_callIN, x_callV0, x_callV1, x_callV2, x_callV3, x_callV4, x_callV5, x_callV6, x_callV7, callP, List.take_succ_cons, List.take_zero, List.take_nil, List.drop_succ_cons, List.drop_zero, List.drop_nil, List.getLast?_singleton, List.getLast?_cons_cons, Option.some.injEq, Value.ref.injEq, exists_eq_left, exists_eq_left', Nat.zero_le, Nat.add_zero, ldcV_f, ldcV_fn, ldcV_l, ldcV_d, Nat.reduceMul, Nat.le_refl, List.reverse_cons, List.reverse_nil, Option.toList, List.map_cons, List.map_nil, List.sum_cons, List.sum_nil, Value.category, tblW_n, tblW_c, Int.cast_ofNat_Int, Int.reduceAdd, Int.reduceToNat, ofI_n]
  simp only [retI, true_and]
  exact ⟨fun c => by rwa [if_pos c] at h, fun c => by rwa [if_neg c] at h⟩
set_option maxHeartbeats 1000000 in
theorem ct_J9_min_7cf53 (l : Launch) (G : Gx) : Ct l G mi_J9_min_7cf53 P_J9_min_7cf53 := by
  refine Ct.ofV mo_J9_min_7cf53 (fun as S E h => ?_)
  unfold P_J9_min_7cf53 at h
  split at h
  case h_2 => exact h.elim
  refine ⟨by simp [entL, mL_J9_min_7cf53], ?_⟩
  refine wpN_ok (Γ := Γ_J9_min_7cf53) (hΓ_J9_min_7cf53 l G) so_J9_min_7cf53 3 _ _ _ _ _ _ ?_
  simp only [mL_J9_min_7cf53, mT_J9_min_7cf53, rc_J9_min_7cf53, rs_J9_min_7cf53, Γ_J9_min_7cf53, sg_J9_min_7cf53_0, sg_J9_min_7cf53_9, sg_J9_min_7cf53_10, wn_J9_min_7cf53_0, wn_J9_min_7cf53_9, wn_J9_min_7cf53_10, wp_c, ex_c, x_nop, x_goto, x_table, x_iinc, x_ldc, x_ldc2, x_iaload, x_faload, x_baload, x_caload, x_iastore, x_fastore, x_bastore, x_castore, x_aastore, x_alen, x_gets, x_new, x_newa, x_anew, x_invs, x_invi, x_invv, x_ret, x_iret, x_lret, x_fret, x_aret, x_lconst, x_fconst0, x_fconst1, x_fconst2, x_dconst0, x_dconst1, x_null, x_iadd, x_isub, x_imul, x_iand, x_ior, x_idiv, x_irem, x_ineg, x_ishl, x_ishr, x_land, x_ladd, x_lmul, x_lor, x_lushr, x_lshl, x_lcmp, x_i2l, x_l2i, x_i2c, x_i2f, x_f2d, x_d2i, x_d2l, x_fadd, x_fsub, x_fmul, x_fdiv, x_dadd, x_dsub, x_dmul, x_ddiv, x_fcmp, x_dcmp, x_dupI, x_dupR, x_dup2, x_popI, x_popR, ldP_I, ldP_L, ldP_F, ldP_D, ldP_R, ldP_N, x_iload, x_iload_n, x_lload, x_lload_n, x_fload, x_fload_n, x_dload, x_dload_n, x_aload, x_aload_n, x_istore, x_istore_n, x_lstore, x_lstore_n, x_fstore, x_fstore_n, x_dstore, x_dstore_n, x_astore, x_astore_n, x_astoreN, x_astore_nN, x_icmp_eq, x_icmp_ne, x_icmp_lt, x_icmp_ge, x_icmp_gt, x_icmp_le, x_if_eq, x_if_ne, x_if_lt, x_if_ge, x_if_gt, x_if_le, x_ifnull, x_ifnullR, x_ifnn, x_ifnnR, x_aaload2, x_cpI, x_cpF, x_oI, xk_bipush_120, xk_iconst_0, xk_bipush_m6, xk_iconst_1, xk_bipush_80, xk_iconst_4, xk_bipush_6, xk_iconst_2, xk_bipush_40, xk_iconst_3, xk_bipush_10, xk_iconst_5, xk_bipush_m2, xk_bipush_m4, xk_iconst_m1, xk_bipush_m5, xk_bipush_12, xk_bipush_100, xk_bipush_26, xk_bipush_48, xk_sipush_9999, xk_sipush_500, xk_bipush_7, xk_bipush_119, xk_bipush_m126, xk_bipush_127, xk_bipush_23, xk_sipush_m1022, xk_sipush_1023, xk_bipush_52, xg_0_0, xp_0_0, xg_0_1, xp_0_1, xg_0_2, xp_0_2, xg_0_3, xp_0_3, xg_0_4, xp_0_4, xg_0_5, xp_0_5, xg_0_6, xp_0_6, xg_0_7, xp_0_7, xg_0_8, xp_0_8, xg_1_0, xp_1_0, xg_1_1, xp_1_1, xg_1_2, xp_1_2, xg_1_3, xp_1_3, xg_2_0, xp_2_0, xg_2_1, xp_2_1, xg_2_2, xp_2_2, xg_3_0, xp_3_0, xg_3_1, xp_3_1, xg_3_2, xp_3_2, xg_3_3, xp_3_3, xg_3_4, xp_3_4, xg_3_5, xp_3_5, xg_3_6, xp_3_6, xg_3_7, xp_3_7, xg_3_8, xp_3_8, xg_3_9, xp_3_9, xg_3_10, xp_3_10, xg_3_11, xp_3_11, xg_4_0, xp_4_0, xg_4_1, xp_4_1, xg_5_0, xp_5_0, xg_5_1, xp_5_1, xg_6_0, xp_6_0, xg_6_1, xp_6_1, xg_6_2, xp_6_2, xg_6_3, xp_6_3, xg_6_4, xp_6_4, xg_6_5, xp_6_5, fv0, fv1, fv2, fv3, kI_0, kI_1, stL, wipeL, entLn, entL, List.getElem?_cons_zero, List.getElem?_cons_succ, List.getElem?_nil, List.set_cons_zero, List.set_cons_succ, List.set_nil, List.length_cons, List.length_nil, List.cons_append, List.nil_append, List.replicate, Nat.reduceAdd, Nat.reduceLeDiff, Nat.reduceSub, true_and, and_true, x_callS, x_callSN, x_callI, x_callIN, x_callV0, x_callV1, x_callV2, x_callV3, x_callV4, x_callV5, x_callV6, x_callV7, callP, List.take_succ_cons, List.take_zero, List.take_nil, List.drop_succ_cons, List.drop_zero, List.drop_nil, List.getLast?_singleton, List.getLast?_cons_cons, Option.some.injEq, Value.ref.injEq, exists_eq_left, exists_eq_left', Nat.zero_le, Nat.add_zero, ldcV_f, ldcV_fn, ldcV_l, ldcV_d, Nat.reduceMul, Nat.le_refl, List.reverse_cons, List.reverse_nil, Option.toList, List.map_cons, List.map_nil, List.sum_cons, List.sum_nil, Value.category, tblW_n, tblW_c, Int.cast_ofNat_Int, Int.reduceAdd, Int.reduceToNat, ofI_n]
  simp only [retI, true_and]
  exact ⟨fun c => by rwa [if_pos c] at h, fun c => by rwa [if_neg c] at h⟩
set_option maxHeartbeats 1000000 in
theorem ct_J9_abs_0f7a4 (l : Launch) (G : Gx) : Ct l G mi_J9_abs_0f7a4 P_J9_abs_0f7a4 := by
  refine Ct.ofV mo_J9_abs_0f7a4 (fun as S E h => ?_)
  unfold P_J9_abs_0f7a4 at h
  split at h
  case h_2 => exact h.elim
  refine ⟨by simp [entL, mL_J9_abs_0f7a4], ?_⟩
  refine wpN_ok (Γ := Γ_J9_abs_0f7a4) (hΓ_J9_abs_0f7a4 l G) so_J9_abs_0f7a4 3 _ _ _ _ _ _ ?_
  simp only [mL_J9_abs_0f7a4, mT_J9_abs_0f7a4, rc_J9_abs_0f7a4, rs_J9_abs_0f7a4, Γ_J9_abs_0f7a4, sg_J9_abs_0f7a4_0, sg_J9_abs_0f7a4_9, sg_J9_abs_0f7a4_10, wn_J9_abs_0f7a4_0, wn_J9_abs_0f7a4_9, wn_J9_abs_0f7a4_10, wp_c, ex_c, x_nop, x_goto, x_table, x_iinc, x_ldc, x_ldc2, x_iaload, x_faload, x_baload, x_caload, x_iastore, x_fastore, x_bastore, x_castore, x_aastore, x_alen, x_gets, x_new, x_newa, x_anew, x_invs, x_invi, x_invv, x_ret, x_iret, x_lret, x_fret, x_aret, x_lconst, x_fconst0, x_fconst1, x_fconst2, x_dconst0, x_dconst1, x_null, x_iadd, x_isub, x_imul, x_iand, x_ior, x_idiv, x_irem, x_ineg, x_ishl, x_ishr, x_land, x_ladd, x_lmul, x_lor, x_lushr, x_lshl, x_lcmp, x_i2l, x_l2i, x_i2c, x_i2f, x_f2d, x_d2i, x_d2l, x_fadd, x_fsub, x_fmul, x_fdiv, x_dadd, x_dsub, x_dmul, x_ddiv, x_fcmp, x_dcmp, x_dupI, x_dupR, x_dup2, x_popI, x_popR, ldP_I, ldP_L, ldP_F, ldP_D, ldP_R, ldP_N, x_iload, x_iload_n, x_lload, x_lload_n, x_fload, x_fload_n, x_dload, x_dload_n, x_aload, x_aload_n, x_istore, x_istore_n, x_lstore, x_lstore_n, x_fstore, x_fstore_n, x_dstore, x_dstore_n, x_astore, x_astore_n, x_astoreN, x_astore_nN, x_icmp_eq, x_icmp_ne, x_icmp_lt, x_icmp_ge, x_icmp_gt, x_icmp_le, x_if_eq, x_if_ne, x_if_lt, x_if_ge, x_if_gt, x_if_le, x_ifnull, x_ifnullR, x_ifnn, x_ifnnR, x_aaload2, x_cpI, x_cpF, x_oI, xk_bipush_120, xk_iconst_0, xk_bipush_m6, xk_iconst_1, xk_bipush_80, xk_iconst_4, xk_bipush_6, xk_iconst_2, xk_bipush_40, xk_iconst_3, xk_bipush_10, xk_iconst_5, xk_bipush_m2, xk_bipush_m4, xk_iconst_m1, xk_bipush_m5, xk_bipush_12, xk_bipush_100, xk_bipush_26, xk_bipush_48, xk_sipush_9999, xk_sipush_500, xk_bipush_7, xk_bipush_119, xk_bipush_m126, xk_bipush_127, xk_bipush_23, xk_sipush_m1022, xk_sipush_1023, xk_bipush_52, xg_0_0, xp_0_0, xg_0_1, xp_0_1, xg_0_2, xp_0_2, xg_0_3, xp_0_3, xg_0_4, xp_0_4, xg_0_5, xp_0_5, xg_0_6, xp_0_6, xg_0_7, xp_0_7, xg_0_8, xp_0_8, xg_1_0, xp_1_0, xg_1_1, xp_1_1, xg_1_2, xp_1_2, xg_1_3, xp_1_3, xg_2_0, xp_2_0, xg_2_1, xp_2_1, xg_2_2, xp_2_2, xg_3_0, xp_3_0, xg_3_1, xp_3_1, xg_3_2, xp_3_2, xg_3_3, xp_3_3, xg_3_4, xp_3_4, xg_3_5, xp_3_5, xg_3_6, xp_3_6, xg_3_7, xp_3_7, xg_3_8, xp_3_8, xg_3_9, xp_3_9, xg_3_10, xp_3_10, xg_3_11, xp_3_11, xg_4_0, xp_4_0, xg_4_1, xp_4_1, xg_5_0, xp_5_0, xg_5_1, xp_5_1, xg_6_0, xp_6_0, xg_6_1, xp_6_1, xg_6_2, xp_6_2, xg_6_3, xp_6_3, xg_6_4, xp_6_4, xg_6_5, xp_6_5, fv0, fv1, fv2, fv3, kI_0, kI_1, stL, wipeL, entLn, entL, List.getElem?_cons_zero, List.getElem?_cons_succ, List.getElem?_nil, List.set_cons_zero, List.set_cons_succ, List.set_nil, List.length_cons, List.length_nil, List.cons_append, List.nil_append, List.replicate, Nat.reduceAdd, Nat.reduceLeDiff, Nat.reduceSub, true_and, and_true, x_callS, x_callSN, x_callI, x_callIN, x_callV0, x_callV1, x_callV2, x_callV3, x_callV4, x_callV5, x_callV6, x_callV7, callP, List.take_succ_cons, List.take_zero, List.take_nil, List.drop_succ_cons, List.drop_zero, List.drop_nil, List.getLast?_singleton, List.getLast?_cons_cons, Option.some.injEq, Value.ref.injEq, exists_eq_left, exists_eq_left', Nat.zero_le, Nat.add_zero, ldcV_f, ldcV_fn, ldcV_l, ldcV_d, Nat.reduceMul, Nat.le_refl, List.reverse_cons, List.reverse_nil, Option.toList, List.map_cons, List.map_nil, List.sum_cons, List.sum_nil, Value.category, tblW_n, tblW_c, Int.cast_ofNat_Int, Int.reduceAdd, Int.reduceToNat, ofI_n]
  simp only [retI, true_and]
  exact ⟨fun c => by rwa [if_pos c] at h, fun c => by rwa [if_neg c] at h⟩
