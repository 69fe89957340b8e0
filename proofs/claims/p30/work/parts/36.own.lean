-- needs: 18.nums 19.proj 20.spec 21.shape 22.leaf 23.fl 23.view 24.loops 25.desk 26.near 27.quest 28.hours 29.write 29.xsame 30.trial 31.hist 32.pad 33.orders 34.read 35.text
/-! the class: its own methods -/
def OwnAt (S : SS) (x : Nat) : Prop := sK S x = some (6, 0) ∧ sR S x 0 = some (x + 1) ∧ sR S x 1 = some (x + 27) ∧ sR S x 2 = some (x + 211) ∧ sR S x 3 = some (x + 212) ∧ sR S x 4 = some (x + 213) ∧ sR S x 5 = some (x + 221) ∧
  sK S (x + 211) = some (12, 2) ∧ sK S (x + 212) = some (10, 2) ∧ DeskAt S (x + 1) ∧ HistAt S (x + 27) ∧ OrdAt S (x + 213) ∧ TrialAt S (x + 221) ∧ ∀ i, i < 2 → sR S (x + 211) i = some (x + 228 + 26 * i) ∧ DeskAt S (x + 228 + 26 * i)
theorem OwnAt.fr {S T : SS} {lo hi x : Nat} (h : OwnAt S x) (hF : Fr S T lo hi) : OwnAt T x := by
  obtain ⟨h1, h2, h3, h4, h5, h6, h7, h8, h9, h10, h11, h12, h13, h14⟩ := h
  rw [← hF.1] at h1 h8 h9
  rw [← hF.2.1] at h2 h3 h4 h5 h6 h7
  refine ⟨h1, h2, h3, h4, h5, h6, h7, h8, h9, hF.desk h10, h11.mk' hF.1 hF.2.1, h12.mk' hF.1 hF.2.1, h13.fr hF, fun i hi => ⟨?_, hF.desk (h14 i hi).2⟩⟩
  rw [hF.2.1]
  exact (h14 i hi).1
def OwnOK (S : SS) (x nx kc : Nat) : Prop := OwnAt S x ∧ DOK (dV S (x + 1)) ∧ nx < 7 ∧ kc ≤ 6 ∧ sI S (x + 27) 1 = nI nx ∧ sI S (x + 27) 2 = nI kc
/-- a change tried: the desk becomes D; kept if ok -/
def Chg (S S' : SS) (x nx kc : Nat) (D : DV) (ok : Bool) : Prop := Fr S S' (x + 1) (x + 211) ∧ DE (dV S' (x + 1)) D ∧ (∀ i, i < 7 → ¬ i = nx → DE (dV S' (x + 29 + 26 * i)) (dV S (x + 29 + 26 * i))) ∧ (ok = true → DE (dV S' (x + 29 + 26 * nx)) (dV S (x + 1))) ∧
  sI S' (x + 27) 1 = (if ok = true then nI ((nx + 1) % 7) else nI nx) ∧ sI S' (x + 27) 2 = (if ok = true then nI (min (kc + 1) 6) else nI kc)
/-- the state noted -/
def Prep (S S1 : SS) (x nx : Nat) : Prop := Fr S S1 (x + 29 + 26 * nx) (x + 29 + 26 * nx + 26) ∧ DE (dV S1 (x + 29 + 26 * nx)) (dV S (x + 1))
theorem Prep.of {S S1 : SS} {x nx : Nat} (h : Fr S S1 (x + 27 + 2 + 26 * nx) (x + 27 + 2 + 26 * nx + 26)) (k : DE (dV S1 (x + 27 + 2 + 26 * nx)) (dV S (x + 1))) : Prep S S1 x nx := by
  have e : x + 27 + 2 + 26 * nx = x + 29 + 26 * nx := by omega
  rw [e] at h k
  exact ⟨h, k⟩
theorem Prep.de {S S1 : SS} {x nx : Nat} (h : Prep S S1 x nx) (hn : nx < 7) : DE (dV S1 (x + 1)) (dV S (x + 1)) := h.1.dE (by omega)
theorem Chg.bad {S S1 S2 : SS} {x nx kc : Nat} {D : DV} (hn : nx < 7) (h : Prep S S1 x nx) (hF : Fr S1 S2 (x + 1) (x + 27)) (hD : DE (dV S2 (x + 1)) D) (e1 : sI S (x + 27) 1 = nI nx) (e2 : sI S (x + 27) 2 = nI kc) : Chg S S2 x nx kc D false := by
  have e : sI S2 (x + 27) = sI S (x + 27) := by rw [hF.i (by omega), h.1.i (by omega)]
  refine ⟨(h.1.mono (by omega) (by omega)).trans (hF.mono (by omega) (by omega)), hD, fun i hi hne => ?_, fun a => absurd a (by decide), ?_, ?_⟩
  · exact (hF.dE (by omega)).trans (h.1.dE (by omega))
  · rw [e, e1]; rfl
  · rw [e, e2]; rfl
theorem Chg.good {S S1 S2 : SS} {x nx kc : Nat} {D : DV} (hn : nx < 7) (h : Prep S S1 x nx) (hF : Fr S1 S2 (x + 1) (x + 27)) (hD : DE (dV S2 (x + 1)) D) : Chg S (stI (stI S2 (x + 27) 1 (nI ((nx + 1) % 7))) (x + 27) 2 (nI (min (kc + 1) 6))) x nx kc D true := by
  have hG : Fr S2 (stI (stI S2 (x + 27) 1 (nI ((nx + 1) % 7))) (x + 27) 2 (nI (min (kc + 1) 6))) (x + 27) (x + 28) := ((Fr.refl _ _ _).stI _ _ _ (Nat.le_refl _) (by omega)).stI _ _ _ (Nat.le_refl _) (by omega)
  refine ⟨((h.1.mono (by omega) (by omega)).trans (hF.mono (by omega) (by omega))).trans (hG.mono (by omega) (by omega)), (hG.dE (by omega)).trans hD, fun i hi hne => ?_, fun _ => ?_, ?_, ?_⟩
  · exact (hG.dE (by omega)).trans ((hF.dE (by omega)).trans (h.1.dE (by omega)))
  · exact (hG.dE (by omega)).trans ((hF.dE (by omega)).trans h.2)
  · rw [sI_stI, if_neg (by omega), sI_stI, if_pos ⟨rfl, rfl⟩]; rfl
  · rw [sI_stI, if_pos ⟨rfl, rfl⟩]; rfl
/-- what a change needs once the state is noted -/
theorem OwnOK.prep {S S1 : SS} {x nx kc : Nat} (h : OwnOK S x nx kc) (hp : Prep S S1 x nx) : OwnAt S1 x ∧ DOK (dV S1 (x + 1)) ∧ sI S1 (x + 27) 1 = nI nx ∧ sI S1 (x + 27) 2 = nI kc := by
  obtain ⟨h1, h2, h3, h4, h5, h6⟩ := h
  refine ⟨h1.fr hp.1, DOK.congr (hp.de h3).symm h2, ?_, ?_⟩
  · rw [hp.1.i (by omega), h5]
  · rw [hp.1.i (by omega), h6]
theorem OwnOK.ready {S : SS} {x nx kc : Nat} (h : OwnOK S x nx kc) : HistAt S (x + 27) ∧ DeskAt S (x + 1) ∧ Ap (x + 1) 26 (x + 27) 184 ∧ (∃ n, n ≤ 4 ∧ sI S (x + 1) 6 = nI n) := by
  obtain ⟨⟨h1, h2, h3, h4, h5, h6, h7, h8, h9, h10, h11, h12, h13, h14⟩, ⟨-, -, ⟨n, hn, en, -⟩, -⟩, -⟩ := h
  exact ⟨h11, h10, Or.inl (by omega), n, hn, en⟩
theorem keepB {S2 : SS} {r nx kc : Nat} {v : Int32} {E : Option Value → SS → Prop} (k : sK S2 r = some (2, 0)) (hn : nx < 7) (hk : kc ≤ 6) (e1 : sI S2 r 1 = nI nx) (e2 : sI S2 r 2 = nI kc) (hv : v < 0) (h : E (some (.int v)) S2) :
    sK S2 r = some (2, 0) ∧ sK S2 r = some (2, 0) ∧ ∃ x c, x < 7 ∧ c ≤ 6 ∧ sI S2 r 1 = nI x ∧ sI S2 r 2 = nI c ∧ (0 ≤ v → E (some (.int v)) (stI (stI S2 r 1 (nI ((x + 1) % 7))) r 2 (nI (min (c + 1) 6)))) ∧ (¬ 0 ≤ v → E (some (.int v)) S2) :=
  ⟨k, k, nx, kc, hn, hk, e1, e2, fun a => absurd a (Int32.not_le.mpr hv), fun _ => h⟩
theorem keepG {S2 : SS} {r nx kc : Nat} {v : Int32} {E : Option Value → SS → Prop} (k : sK S2 r = some (2, 0)) (hn : nx < 7) (hk : kc ≤ 6) (e1 : sI S2 r 1 = nI nx) (e2 : sI S2 r 2 = nI kc) (hv : 0 ≤ v) (h : E (some (.int v)) (stI (stI S2 r 1 (nI ((nx + 1) % 7))) r 2 (nI (min (kc + 1) 6)))) :
    sK S2 r = some (2, 0) ∧ sK S2 r = some (2, 0) ∧ ∃ x c, x < 7 ∧ c ≤ 6 ∧ sI S2 r 1 = nI x ∧ sI S2 r 2 = nI c ∧ (0 ≤ v → E (some (.int v)) (stI (stI S2 r 1 (nI ((x + 1) % 7))) r 2 (nI (min (c + 1) 6)))) ∧ (¬ 0 ≤ v → E (some (.int v)) S2) :=
  ⟨k, k, nx, kc, hn, hk, e1, e2, fun _ => h, fun a => absurd hv a⟩
theorem Fr.hist {S T : SS} {x nx kc : Nat} (h : Fr S T (x + 1) (x + 1 + 26)) (k : sK S (x + 27) = some (2, 0)) (e1 : sI S (x + 27) 1 = nI nx) (e2 : sI S (x + 27) 2 = nI kc) : sK T (x + 27) = some (2, 0) ∧ sI T (x + 27) 1 = nI nx ∧ sI T (x + 27) 2 = nI kc := by
  rw [h.1, h.i (by omega)]
  exact ⟨k, e1, e2⟩
theorem mI_neg {j : Nat} (h : j < 7) (h0 : 0 < j) : mI j < 0 := mI_lt0 h0 (by omega)
def P_X6_lay (as : List Value) (S : SS) (E : Option Value → SS → Prop) : Prop := match as with
  | [.ref x, .int p] => ∃ nx kc, OwnOK S x nx kc ∧ ∀ D, DE D (dV S (x + 1)) → (¬ (0 ≤ p ∧ p < D.pl) → ∀ S', Chg S S' x nx kc D false → E (some (.int (mI 1))) S') ∧ (0 ≤ p ∧ p < D.pl → p = D.dk → ∀ S', Chg S S' x nx kc D false → E (some (.int (mI 5))) S') ∧ (0 ≤ p ∧ p < D.pl → ¬ p = D.dk → ∀ S', Chg S S' x nx kc (sf_dk D (p)) true → E (some (.int D.dk)) S')
  | _ => False
def Γ_X6_lay : List (MI × PT) := [(mi_X2_prepare, P_X2_prepare), (mi_X0_layPlate, P_X0_layPlate), (mi_X2_keepUnlessError, P_X2_keepUnlessError)]
theorem hΓ_X6_lay (l : Launch) (G : Gx) : ∀ q ∈ Γ_X6_lay, Ct l G q.1 q.2 := List.forall_mem_cons.mpr ⟨ct_X2_prepare l G, List.forall_mem_cons.mpr ⟨ct_X0_layPlate l G, List.forall_mem_cons.mpr ⟨ct_X2_keepUnlessError l G, fun _ h => absurd h List.not_mem_nil⟩⟩⟩
set_option maxHeartbeats 1000000 in
theorem ct_X6_lay (l : Launch) (G : Gx) : Ct l G mi_X6_lay P_X6_lay := by
  refine Ct.ofV mo_X6_lay (fun as S E h => ?_)
  unfold P_X6_lay at h
  split at h
  case h_2 => exact h.elim
  rename_i x p
  refine ⟨by simp [entL, mL_X6_lay], ?_⟩
  refine wpN_ok (Γ := Γ_X6_lay) (hΓ_X6_lay l G) so_X6_lay 4 _ _ _ _ _ _ ?_
  simp only [mL_X6_lay, mT_X6_lay, rc_X6_lay, rs_X6_lay, Γ_X6_lay, sg_X6_lay_0, wn_X6_lay_0, wp_c, ex_c, x_nop, x_goto, x_table, x_iinc, x_ldc, x_ldc2, x_iaload, x_faload, x_baload, x_caload, x_iastore, x_fastore, x_bastore, x_castore, x_aastore, x_alen, x_gets, x_new, x_newa, x_anew, x_invs, x_invi, x_invv, x_ret, x_iret, x_lret, x_fret, x_aret, x_lconst, x_fconst0, x_fconst1, x_fconst2, x_dconst0, x_dconst1, x_null, x_iadd, x_isub, x_imul, x_iand, x_ior, x_idiv, x_irem, x_ineg, x_ishl, x_ishr, x_land, x_ladd, x_lmul, x_lor, x_lushr, x_lshl, x_lcmp, x_i2l, x_l2i, x_i2c, x_i2f, x_f2d, x_d2i, x_d2l, x_fadd, x_fsub, x_fmul, x_fdiv, x_dadd, x_dsub, x_dmul, x_ddiv, x_fcmp, x_dcmp, x_dupI, x_dupR, x_dup2, x_popI, x_popR, ldP_I, ldP_L, ldP_F, ldP_D, ldP_R, ldP_N, x_iload, x_iload_n, x_lload, x_lload_n, x_fload, x_fload_n, x_dload, x_dload_n, x_aload, x_aload_n, x_istore, x_istore_n, x_lstore, x_lstore_n, x_fstore, x_fstore_n, x_dstore, x_dstore_n, x_astore, x_astore_n, x_astoreN, x_astore_nN, x_icmp_eq, x_icmp_ne, x_icmp_lt, x_icmp_ge, x_icmp_gt, x_icmp_le, x_if_eq, x_if_ne, x_if_lt, x_if_ge, x_if_gt, x_if_le, x_ifnull, x_ifnullR, x_ifnn, x_ifnnR, x_aaload2, x_cpI, x_cpF, x_oI, xk_bipush_120, xk_iconst_0, xk_bipush_m6, xk_iconst_1, xk_bipush_80, xk_iconst_4, xk_bipush_6, xk_iconst_2, xk_bipush_40, xk_iconst_3, xk_bipush_10, xk_iconst_5, xk_bipush_m2, xk_bipush_m4, xk_iconst_m1, xk_bipush_m5, xk_bipush_12, xk_bipush_100, xk_bipush_26, xk_bipush_48, xk_sipush_9999, xk_sipush_500, xk_bipush_7, xk_bipush_119, xk_bipush_m126, xk_bipush_127, xk_bipush_23, xk_sipush_m1022, xk_sipush_1023, xk_bipush_52, xg_0_0, xp_0_0, xg_0_1, xp_0_1, xg_0_2, xp_0_2, xg_0_3, xp_0_3, xg_0_4, xp_0_4, xg_0_5, xp_0_5, xg_0_6, xp_0_6, xg_0_7, xp_0_7, xg_0_8, xp_0_8, xg_1_0, xp_1_0, xg_1_1, xp_1_1, xg_1_2, xp_1_2, xg_1_3, xp_1_3, xg_2_0, xp_2_0, xg_2_1, xp_2_1, xg_2_2, xp_2_2, xg_3_0, xp_3_0, xg_3_1, xp_3_1, xg_3_2, xp_3_2, xg_3_3, xp_3_3, xg_3_4, xp_3_4, xg_3_5, xp_3_5, xg_3_6, xp_3_6, xg_3_7, xp_3_7, xg_3_8, xp_3_8, xg_3_9, xp_3_9, xg_3_10, xp_3_10, xg_3_11, xp_3_11, xg_4_0, xp_4_0, xg_4_1, xp_4_1, xg_5_0, xp_5_0, xg_5_1, xp_5_1, xg_6_0, xp_6_0, xg_6_1, xp_6_1, xg_6_2, xp_6_2, xg_6_3, xp_6_3, xg_6_4, xp_6_4, xg_6_5, xp_6_5, fv0, fv1, fv2, fv3, kI_0, kI_1, stL, wipeL, entLn, entL, List.getElem?_cons_zero, List.getElem?_cons_succ, List.getElem?_nil, List.set_cons_zero, List.set_cons_succ, List.set_nil, List.length_cons, List.length_nil, List.cons_append, List.nil_append, List.replicate, Nat.reduceAdd, Nat.reduceLeDiff, Nat.reduceSub, true_and, and_true, x_callS, x_callSN, x_callI, x_callIN, x_callV0, x_callV1, x_callV2, x_callV3, x_callV4, x_callV5, x_callV6, x_callV7, callP, List.take_succ_cons, List.take_zero, List.take_nil, List.drop_succ_cons, List.drop_zero, List.drop_nil, List.getLast?_singleton, List.getLast?_cons_cons, Option.some.injEq, Value.ref.injEq, exists_eq_left, exists_eq_left', Nat.zero_le, Nat.add_zero, ldcV_f, ldcV_fn, ldcV_l, ldcV_d, Nat.reduceMul, Nat.le_refl, List.reverse_cons, List.reverse_nil, Option.toList, List.map_cons, List.map_nil, List.sum_cons, List.sum_nil, Value.category, tblW_n, tblW_c, Int.cast_ofNat_Int, Int.reduceAdd, Int.reduceToNat, ofI_n, rc_X2_prepare, rs_X2_prepare, P_X2_prepare, rc_X0_layPlate, rs_X0_layPlate, P_X0_layPlate, rc_X2_keepUnlessError, rs_X2_keepUnlessError, P_X2_keepUnlessError]
  obtain ⟨nx, kc, hC, h⟩ := h
  obtain ⟨r1, r2, r3, r4⟩ := hC.ready
  have hC0 := hC
  obtain ⟨⟨k1, k2, k3, k4, k5, k6, k7, -⟩, -, hnx, hkc, e1, e2⟩ := hC
  simp only [k1, k2, k3, k4, k5, k6, k7, r1, r2, r3, r4, r1.1, r2.1, sK_stI, sR_stI, sK_stF, sR_stF, sK_stIA, sR_stIA, sK_stFA, sR_stFA, sI_stI, sI_stF, sI_stIA, sI_stFA, sF_stI, sF_stF, sF_stIA, sF_stFA, Nat.left_eq_add, Nat.add_eq_left, Nat.add_left_cancel_iff, Nat.reduceEqDiff, Nat.reduceEqDiff, Nat.succ_ne_self, false_and, and_false, if_false, if_true, nI_succ_sub, Option.some.injEq, Prod.mk.injEq, exists_eq_left', true_and, and_true, retI, retF, retV, retZ1, retZ0, retL, retA, retN, Nat.reduceAdd, Nat.reduceMul, Nat.reduceLT]
  refine ⟨nx, hnx, e1, fun S1 hF hE => ?_⟩
  have hp : Prep S S1 x nx := Prep.of hF hE
  obtain ⟨c1, c2, c3, c4⟩ := hC0.prep hp
  obtain ⟨h1, h2, h3⟩ := h _ (hp.de hnx)
  have q1 := c1.2.2.2.2.2.2.2.2.2.1
  have q2 := c1.2.2.2.2.2.2.2.2.2.2.1
  have er : Fr S1 S1 (x + 1) (x + 27) := Fr.refl _ _ _
  refine ⟨c1.1, _, c1.2.2.1, c1.1, _, c1.2.1, q1.1, q1.1, fun a => keepB q2.1 hnx hkc c3 c4 (by decide) (h1 a _ (Chg.bad hnx hp er (DE.refl _) e1 e2)), fun a b => keepB q2.1 hnx hkc c3 c4 (by decide) (h2 a b _ (Chg.bad hnx hp er (DE.refl _) e1 e2)), fun a b T hT hE2 => ?_⟩
  obtain ⟨t1, t2, t3⟩ := hT.hist q2.1 c3 c4
  refine keepG t1 hnx hkc t2 t3 ?_ (h3 a b _ (Chg.good hnx hp hT (by rw [hE2]; exact DE.refl _)))
  rcases OnD_or c2 with d1 | ⟨p', d1, d2, -⟩
  · obtain ⟨-, -, ⟨n, hn, en, ⟨-, hz⟩ | ⟨p', hp', ep⟩⟩, -⟩ := c2
    · have en' : sI S1 (x + 1) 6 = nI n := en
      rw [en', hz] at a
      exact absurd a.2 (Int32.not_lt.mpr a.1)
    · rw [ep] at d1
      exact absurd d1 (nI_ne_mI (by omega) (by omega) (by omega))
  · have d1' : sI S1 (x + 1) 7 = nI p' := d1
    rw [d1']
    exact nI_pos' (by omega)
def P_X6_plate (as : List Value) (S : SS) (E : Option Value → SS → Prop) : Prop := match as with
  | [.ref x] => ∃ nx kc, OwnOK S x nx kc ∧ ∀ D, DE D (dV S (x + 1)) → (nI 4 ≤ D.pl → ∀ S', Chg S S' x nx kc D false → E (some (.int (mI 4))) S') ∧ (∀ n, n < 4 → D.pl = nI n → ∀ S' N, GE N newV → Chg S S' x nx kc (sf_dk (sf_pl (putG D n N) (nI (n + 1))) (nI n)) true → E (some (.int (nI n))) S')
  | _ => False
def Γ_X6_plate : List (MI × PT) := [(mi_X2_prepare, P_X2_prepare), (mi_X0_addPlate, P_X0_addPlate), (mi_X2_keepUnlessError, P_X2_keepUnlessError)]
theorem hΓ_X6_plate (l : Launch) (G : Gx) : ∀ q ∈ Γ_X6_plate, Ct l G q.1 q.2 := List.forall_mem_cons.mpr ⟨ct_X2_prepare l G, List.forall_mem_cons.mpr ⟨ct_X0_addPlate l G, List.forall_mem_cons.mpr ⟨ct_X2_keepUnlessError l G, fun _ h => absurd h List.not_mem_nil⟩⟩⟩
set_option maxHeartbeats 1000000 in
theorem ct_X6_plate (l : Launch) (G : Gx) : Ct l G mi_X6_plate P_X6_plate := by
  refine Ct.ofV mo_X6_plate (fun as S E h => ?_)
  unfold P_X6_plate at h
  split at h
  case h_2 => exact h.elim
  rename_i x
  refine ⟨by simp [entL, mL_X6_plate], ?_⟩
  refine wpN_ok (Γ := Γ_X6_plate) (hΓ_X6_plate l G) so_X6_plate 4 _ _ _ _ _ _ ?_
  simp only [mL_X6_plate, mT_X6_plate, rc_X6_plate, rs_X6_plate, Γ_X6_plate, sg_X6_plate_0, wn_X6_plate_0, wp_c, ex_c, x_nop, x_goto, x_table, x_iinc, x_ldc, x_ldc2, x_iaload, x_faload, x_baload, x_caload, x_iastore, x_fastore, x_bastore, x_castore, x_aastore, x_alen, x_gets, x_new, x_newa, x_anew, x_invs, x_invi, x_invv, x_ret, x_iret, x_lret, x_fret, x_aret, x_lconst, x_fconst0, x_fconst1, x_fconst2, x_dconst0, x_dconst1, x_null, x_iadd, x_isub, x_imul, x_iand, x_ior, x_idiv, x_irem, x_ineg, x_ishl, x_ishr, x_land, x_ladd, x_lmul, x_lor, x_lushr, x_lshl, x_lcmp, x_i2l, x_l2i, x_i2c, x_i2f, x_f2d, x_d2i, x_d2l, x_fadd, x_fsub, x_fmul, x_fdiv, x_dadd, x_dsub, x_dmul, x_ddiv, x_fcmp, x_dcmp, x_dupI, x_dupR, x_dup2, x_popI, x_popR, ldP_I, ldP_L, ldP_F, ldP_D, ldP_R, ldP_N, x_iload, x_iload_n, x_lload, x_lload_n, x_fload, x_fload_n, x_dload, x_dload_n, x_aload, x_aload_n, x_istore, x_istore_n, x_lstore, x_lstore_n, x_fstore, x_fstore_n, x_dstore, x_dstore_n, x_astore, x_astore_n, x_astoreN, x_astore_nN, x_icmp_eq, x_icmp_ne, x_icmp_lt, x_icmp_ge, x_icmp_gt, x_icmp_le, x_if_eq, x_if_ne, x_if_lt, x_if_ge, x_if_gt, x_if_le, x_ifnull, x_ifnullR, x_ifnn, x_ifnnR, x_aaload2, x_cpI, x_cpF, x_oI, xk_bipush_120, xk_iconst_0, xk_bipush_m6, xk_iconst_1, xk_bipush_80, xk_iconst_4, xk_bipush_6, xk_iconst_2, xk_bipush_40, xk_iconst_3, xk_bipush_10, xk_iconst_5, xk_bipush_m2, xk_bipush_m4, xk_iconst_m1, xk_bipush_m5, xk_bipush_12, xk_bipush_100, xk_bipush_26, xk_bipush_48, xk_sipush_9999, xk_sipush_500, xk_bipush_7, xk_bipush_119, xk_bipush_m126, xk_bipush_127, xk_bipush_23, xk_sipush_m1022, xk_sipush_1023, xk_bipush_52, xg_0_0, xp_0_0, xg_0_1, xp_0_1, xg_0_2, xp_0_2, xg_0_3, xp_0_3, xg_0_4, xp_0_4, xg_0_5, xp_0_5, xg_0_6, xp_0_6, xg_0_7, xp_0_7, xg_0_8, xp_0_8, xg_1_0, xp_1_0, xg_1_1, xp_1_1, xg_1_2, xp_1_2, xg_1_3, xp_1_3, xg_2_0, xp_2_0, xg_2_1, xp_2_1, xg_2_2, xp_2_2, xg_3_0, xp_3_0, xg_3_1, xp_3_1, xg_3_2, xp_3_2, xg_3_3, xp_3_3, xg_3_4, xp_3_4, xg_3_5, xp_3_5, xg_3_6, xp_3_6, xg_3_7, xp_3_7, xg_3_8, xp_3_8, xg_3_9, xp_3_9, xg_3_10, xp_3_10, xg_3_11, xp_3_11, xg_4_0, xp_4_0, xg_4_1, xp_4_1, xg_5_0, xp_5_0, xg_5_1, xp_5_1, xg_6_0, xp_6_0, xg_6_1, xp_6_1, xg_6_2, xp_6_2, xg_6_3, xp_6_3, xg_6_4, xp_6_4, xg_6_5, xp_6_5, fv0, fv1, fv2, fv3, kI_0, kI_1, stL, wipeL, entLn, entL, List.getElem?_cons_zero, List.getElem?_cons_succ, List.getElem?_nil, List.set_cons_zero, List.set_cons_succ, List.set_nil, List.length_cons, List.length_nil, List.cons_append, List.nil_append, List.replicate, Nat.reduceAdd, Nat.reduceLeDiff, Nat.reduceSub, true_and, and_true, x_callS, x_callSN, x_callI, x_callIN, x_callV0, x_callV1, x_callV2, x_callV3, x_callV4, x_callV5, x_callV6, x_callV7, callP, List.take_succ_cons, List.take_zero, List.take_nil, List.drop_succ_cons, List.drop_zero, List.drop_nil, List.getLast?_singleton, List.getLast?_cons_cons, Option.some.injEq, Value.ref.injEq, exists_eq_left, exists_eq_left', Nat.zero_le, Nat.add_zero, ldcV_f, ldcV_fn, ldcV_l, ldcV_d, Nat.reduceMul, Nat.le_refl, List.reverse_cons, List.reverse_nil, Option.toList, List.map_cons, List.map_nil, List.sum_cons, List.sum_nil, Value.category, tblW_n, tblW_c, Int.cast_ofNat_Int, Int.reduceAdd, Int.reduceToNat, ofI_n, rc_X2_prepare, rs_X2_prepare, P_X2_prepare, rc_X0_addPlate, rs_X0_addPlate, P_X0_addPlate, rc_X2_keepUnlessError, rs_X2_keepUnlessError, P_X2_keepUnlessError]
  obtain ⟨nx, kc, hC, h⟩ := h
  obtain ⟨r1, r2, r3, r4⟩ := hC.ready
  have hC0 := hC
  obtain ⟨⟨k1, k2, k3, k4, k5, k6, k7, -⟩, -, hnx, hkc, e1, e2⟩ := hC
  simp only [k1, k2, k3, k4, k5, k6, k7, r1, r2, r3, r4, r1.1, r2.1, sK_stI, sR_stI, sK_stF, sR_stF, sK_stIA, sR_stIA, sK_stFA, sR_stFA, sI_stI, sI_stF, sI_stIA, sI_stFA, sF_stI, sF_stF, sF_stIA, sF_stFA, Nat.left_eq_add, Nat.add_eq_left, Nat.add_left_cancel_iff, Nat.reduceEqDiff, Nat.reduceEqDiff, Nat.succ_ne_self, false_and, and_false, if_false, if_true, nI_succ_sub, Option.some.injEq, Prod.mk.injEq, exists_eq_left', true_and, and_true, retI, retF, retV, retZ1, retZ0, retL, retA, retN, Nat.reduceAdd, Nat.reduceMul, Nat.reduceLT]
  refine ⟨nx, hnx, e1, fun S1 hF hE => ?_⟩
  have hp : Prep S S1 x nx := Prep.of hF hE
  obtain ⟨c1, c2, c3, c4⟩ := hC0.prep hp
  obtain ⟨h1, h2⟩ := h _ (hp.de hnx)
  have q1 := c1.2.2.2.2.2.2.2.2.2.1
  have q2 := c1.2.2.2.2.2.2.2.2.2.2.1
  have er : Fr S1 S1 (x + 1) (x + 27) := Fr.refl _ _ _
  obtain ⟨n, hn, en, -⟩ := c2.2.2.1
  refine ⟨c1.1, _, c1.2.2.1, c1.1, _, c1.2.1, q1.1, q1, ⟨n, hn, en⟩, fun a => keepB q2.1 hnx hkc c3 c4 (by decide) (h1 a _ (Chg.bad hnx hp er (DE.refl _) e1 e2)), fun m hm em T N hN hT hE2 => ?_⟩
  obtain ⟨t1, t2, t3⟩ := hT.hist q2.1 c3 c4
  exact keepG t1 hnx hkc t2 t3 (nI_pos' (by omega)) (h2 m hm em _ N hN (Chg.good hnx hp hT (by rw [hE2]; exact DE.refl _)))
def P_X6_writer (as : List Value) (S : SS) (E : Option Value → SS → Prop) : Prop := match as with
  | [.ref x, .int w] => ∃ nx kc, OwnOK S x nx kc ∧ ∀ D, DE D (dV S (x + 1)) → (w < nI 1 ∨ nI 5 < w → ∀ S', Chg S S' x nx kc D false → E (some (.int (mI 2))) S') ∧ (¬ (w < nI 1 ∨ nI 5 < w) → nI 5 ≤ D.pp → ∀ S', Chg S S' x nx kc D false → E (some (.int (mI 4))) S') ∧
      (¬ (w < nI 1 ∨ nI 5 < w) → ∀ n, n < 5 → D.pp = nI n → ∀ S', Chg S S' x nx kc (sf_pp (sf_sp (sf_wr (sf_pr D (upV D.pr n w)) (upV D.wr n (nI 0))) (upV D.sp n (nI 0))) (nI (n + 1))) true → E (some (.int (nI n))) S')
  | _ => False
def Γ_X6_writer : List (MI × PT) := [(mi_X2_prepare, P_X2_prepare), (mi_X0_addWriter, P_X0_addWriter), (mi_X2_keepUnlessError, P_X2_keepUnlessError)]
theorem hΓ_X6_writer (l : Launch) (G : Gx) : ∀ q ∈ Γ_X6_writer, Ct l G q.1 q.2 := List.forall_mem_cons.mpr ⟨ct_X2_prepare l G, List.forall_mem_cons.mpr ⟨ct_X0_addWriter l G, List.forall_mem_cons.mpr ⟨ct_X2_keepUnlessError l G, fun _ h => absurd h List.not_mem_nil⟩⟩⟩
set_option maxHeartbeats 1000000 in
theorem ct_X6_writer (l : Launch) (G : Gx) : Ct l G mi_X6_writer P_X6_writer := by
  refine Ct.ofV mo_X6_writer (fun as S E h => ?_)
  unfold P_X6_writer at h
  split at h
  case h_2 => exact h.elim
  rename_i x w
  refine ⟨by simp [entL, mL_X6_writer], ?_⟩
  refine wpN_ok (Γ := Γ_X6_writer) (hΓ_X6_writer l G) so_X6_writer 4 _ _ _ _ _ _ ?_
  simp only [mL_X6_writer, mT_X6_writer, rc_X6_writer, rs_X6_writer, Γ_X6_writer, sg_X6_writer_0, wn_X6_writer_0, wp_c, ex_c, x_nop, x_goto, x_table, x_iinc, x_ldc, x_ldc2, x_iaload, x_faload, x_baload, x_caload, x_iastore, x_fastore, x_bastore, x_castore, x_aastore, x_alen, x_gets, x_new, x_newa, x_anew, x_invs, x_invi, x_invv, x_ret, x_iret, x_lret, x_fret, x_aret, x_lconst, x_fconst0, x_fconst1, x_fconst2, x_dconst0, x_dconst1, x_null, x_iadd, x_isub, x_imul, x_iand, x_ior, x_idiv, x_irem, x_ineg, x_ishl, x_ishr, x_land, x_ladd, x_lmul, x_lor, x_lushr, x_lshl, x_lcmp, x_i2l, x_l2i, x_i2c, x_i2f, x_f2d, x_d2i, x_d2l, x_fadd, x_fsub, x_fmul, x_fdiv, x_dadd, x_dsub, x_dmul, x_ddiv, x_fcmp, x_dcmp, x_dupI, x_dupR, x_dup2, x_popI, x_popR, ldP_I, ldP_L, ldP_F, ldP_D, ldP_R, ldP_N, x_iload, x_iload_n, x_lload, x_lload_n, x_fload, x_fload_n, x_dload, x_dload_n, x_aload, x_aload_n, x_istore, x_istore_n, x_lstore, x_lstore_n, x_fstore, x_fstore_n, x_dstore, x_dstore_n, x_astore, x_astore_n, x_astoreN, x_astore_nN, x_icmp_eq, x_icmp_ne, x_icmp_lt, x_icmp_ge, x_icmp_gt, x_icmp_le, x_if_eq, x_if_ne, x_if_lt, x_if_ge, x_if_gt, x_if_le, x_ifnull, x_ifnullR, x_ifnn, x_ifnnR, x_aaload2, x_cpI, x_cpF, x_oI, xk_bipush_120, xk_iconst_0, xk_bipush_m6, xk_iconst_1, xk_bipush_80, xk_iconst_4, xk_bipush_6, xk_iconst_2, xk_bipush_40, xk_iconst_3, xk_bipush_10, xk_iconst_5, xk_bipush_m2, xk_bipush_m4, xk_iconst_m1, xk_bipush_m5, xk_bipush_12, xk_bipush_100, xk_bipush_26, xk_bipush_48, xk_sipush_9999, xk_sipush_500, xk_bipush_7, xk_bipush_119, xk_bipush_m126, xk_bipush_127, xk_bipush_23, xk_sipush_m1022, xk_sipush_1023, xk_bipush_52, xg_0_0, xp_0_0, xg_0_1, xp_0_1, xg_0_2, xp_0_2, xg_0_3, xp_0_3, xg_0_4, xp_0_4, xg_0_5, xp_0_5, xg_0_6, xp_0_6, xg_0_7, xp_0_7, xg_0_8, xp_0_8, xg_1_0, xp_1_0, xg_1_1, xp_1_1, xg_1_2, xp_1_2, xg_1_3, xp_1_3, xg_2_0, xp_2_0, xg_2_1, xp_2_1, xg_2_2, xp_2_2, xg_3_0, xp_3_0, xg_3_1, xp_3_1, xg_3_2, xp_3_2, xg_3_3, xp_3_3, xg_3_4, xp_3_4, xg_3_5, xp_3_5, xg_3_6, xp_3_6, xg_3_7, xp_3_7, xg_3_8, xp_3_8, xg_3_9, xp_3_9, xg_3_10, xp_3_10, xg_3_11, xp_3_11, xg_4_0, xp_4_0, xg_4_1, xp_4_1, xg_5_0, xp_5_0, xg_5_1, xp_5_1, xg_6_0, xp_6_0, xg_6_1, xp_6_1, xg_6_2, xp_6_2, xg_6_3, xp_6_3, xg_6_4, xp_6_4, xg_6_5, xp_6_5, fv0, fv1, fv2, fv3, kI_0, kI_1, stL, wipeL, entLn, entL, List.getElem?_cons_zero, List.getElem?_cons_succ, List.getElem?_nil, List.set_cons_zero, List.set_cons_succ, List.set_nil, List.length_cons, List.length_nil, List.cons_append, List.nil_append, List.replicate, Nat.reduceAdd, Nat.reduceLeDiff, Nat.reduceSub, true_and, and_true, x_callS, x_callSN, x_callI, x_callIN, x_callV0, x_callV1, x_callV2, x_callV3, x_callV4, x_callV5, x_callV6, x_callV7, callP, List.take_succ_cons, List.take_zero, List.take_nil, List.drop_succ_cons, List.drop_zero, List.drop_nil, List.getLast?_singleton, List.getLast?_cons_cons, Option.some.injEq, Value.ref.injEq, exists_eq_left, exists_eq_left', Nat.zero_le, Nat.add_zero, ldcV_f, ldcV_fn, ldcV_l, ldcV_d, Nat.reduceMul, Nat.le_refl, List.reverse_cons, List.reverse_nil, Option.toList, List.map_cons, List.map_nil, List.sum_cons, List.sum_nil, Value.category, tblW_n, tblW_c, Int.cast_ofNat_Int, Int.reduceAdd, Int.reduceToNat, ofI_n, rc_X2_prepare, rs_X2_prepare, P_X2_prepare, rc_X0_addWriter, rs_X0_addWriter, P_X0_addWriter, rc_X2_keepUnlessError, rs_X2_keepUnlessError, P_X2_keepUnlessError]
  obtain ⟨nx, kc, hC, h⟩ := h
  obtain ⟨r1, r2, r3, r4⟩ := hC.ready
  have hC0 := hC
  obtain ⟨⟨k1, k2, k3, k4, k5, k6, k7, -⟩, -, hnx, hkc, e1, e2⟩ := hC
  simp only [k1, k2, k3, k4, k5, k6, k7, r1, r2, r3, r4, r1.1, r2.1, sK_stI, sR_stI, sK_stF, sR_stF, sK_stIA, sR_stIA, sK_stFA, sR_stFA, sI_stI, sI_stF, sI_stIA, sI_stFA, sF_stI, sF_stF, sF_stIA, sF_stFA, Nat.left_eq_add, Nat.add_eq_left, Nat.add_left_cancel_iff, Nat.reduceEqDiff, Nat.reduceEqDiff, Nat.succ_ne_self, false_and, and_false, if_false, if_true, nI_succ_sub, Option.some.injEq, Prod.mk.injEq, exists_eq_left', true_and, and_true, retI, retF, retV, retZ1, retZ0, retL, retA, retN, Nat.reduceAdd, Nat.reduceMul, Nat.reduceLT]
  refine ⟨nx, hnx, e1, fun S1 hF hE => ?_⟩
  have hp : Prep S S1 x nx := Prep.of hF hE
  obtain ⟨c1, c2, c3, c4⟩ := hC0.prep hp
  obtain ⟨h1, h2, h3⟩ := h _ (hp.de hnx)
  have q1 := c1.2.2.2.2.2.2.2.2.2.1
  have q2 := c1.2.2.2.2.2.2.2.2.2.2.1
  have er : Fr S1 S1 (x + 1) (x + 27) := Fr.refl _ _ _
  obtain ⟨n, hn, en⟩ := c2.2.2.2.1
  refine ⟨c1.1, _, c1.2.2.1, c1.1, _, c1.2.1, q1.1, q1, ⟨n, hn, en⟩, fun a => keepB q2.1 hnx hkc c3 c4 (by decide) (h1 a _ (Chg.bad hnx hp er (DE.refl _) e1 e2)), fun a b => keepB q2.1 hnx hkc c3 c4 (by decide) (h2 a b _ (Chg.bad hnx hp er (DE.refl _) e1 e2)), fun a m hm em T hT hE2 => ?_⟩
  obtain ⟨t1, t2, t3⟩ := hT.hist q2.1 c3 c4
  exact keepG t1 hnx hkc t2 t3 (nI_pos' (by omega)) (h3 a m hm em _ (Chg.good hnx hp hT (by rw [hE2]; exact DE.refl _)))
