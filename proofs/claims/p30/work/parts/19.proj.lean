/-! rows by rfl (printed by wip/p30/gen/proj.py) -/
section PJ
variable {G : Gx} {Γ : List (MI × PT)} {R : Room} {K : KT} {E : ET} {kk : List (Option Value) → List Value → SS → Nat → Nat → Prop} {pc x y z w : Nat} {L : List (Option Value)} {st : List Value} {S : SS} {cs sl : Nat} {l : Launch} {F : Option Value → SS → Prop} {n : Nat} {qs : List Ins} {q : Ins}
theorem wp_c : wp G Γ R K E (q :: qs) L st S cs sl = wp1 G Γ R K E (wp G Γ R K E qs) q L st S cs sl := rfl
theorem ex_c {M : MI} {i : Instr} {v : Option Value} : EX M F i v S cs sl = (retOK i (mT M) v ∧ F v S ∧ cs ≤ (mR M).cells ∧ sl ≤ (mR M).slots) := rfl
theorem xk_bipush_120 : wp1 G Γ R K E kk (pc, .bipush 120, 120, 0, z, w) L st S cs sl = kk L (.int (nI 120) :: st) S cs sl := x_bipush (by decide)
theorem xk_iconst_0 : wp1 G Γ R K E kk (pc, .iconst 0, 0, 0, z, w) L st S cs sl = kk L (.int (nI 0) :: st) S cs sl := x_iconst (by decide)
theorem xk_bipush_m6 : wp1 G Γ R K E kk (pc, .bipush (-6), 6, 1, z, w) L st S cs sl = kk L (.int (mI 6) :: st) S cs sl := x_bipush (by decide)
theorem xk_iconst_1 : wp1 G Γ R K E kk (pc, .iconst 1, 1, 0, z, w) L st S cs sl = kk L (.int (nI 1) :: st) S cs sl := x_iconst (by decide)
theorem xk_bipush_80 : wp1 G Γ R K E kk (pc, .bipush 80, 80, 0, z, w) L st S cs sl = kk L (.int (nI 80) :: st) S cs sl := x_bipush (by decide)
theorem xk_iconst_4 : wp1 G Γ R K E kk (pc, .iconst 4, 4, 0, z, w) L st S cs sl = kk L (.int (nI 4) :: st) S cs sl := x_iconst (by decide)
theorem xk_bipush_6 : wp1 G Γ R K E kk (pc, .bipush 6, 6, 0, z, w) L st S cs sl = kk L (.int (nI 6) :: st) S cs sl := x_bipush (by decide)
theorem xk_iconst_2 : wp1 G Γ R K E kk (pc, .iconst 2, 2, 0, z, w) L st S cs sl = kk L (.int (nI 2) :: st) S cs sl := x_iconst (by decide)
theorem xk_bipush_40 : wp1 G Γ R K E kk (pc, .bipush 40, 40, 0, z, w) L st S cs sl = kk L (.int (nI 40) :: st) S cs sl := x_bipush (by decide)
theorem xk_iconst_3 : wp1 G Γ R K E kk (pc, .iconst 3, 3, 0, z, w) L st S cs sl = kk L (.int (nI 3) :: st) S cs sl := x_iconst (by decide)
theorem xk_bipush_10 : wp1 G Γ R K E kk (pc, .bipush 10, 10, 0, z, w) L st S cs sl = kk L (.int (nI 10) :: st) S cs sl := x_bipush (by decide)
theorem xk_iconst_5 : wp1 G Γ R K E kk (pc, .iconst 5, 5, 0, z, w) L st S cs sl = kk L (.int (nI 5) :: st) S cs sl := x_iconst (by decide)
theorem xk_bipush_m2 : wp1 G Γ R K E kk (pc, .bipush (-2), 2, 1, z, w) L st S cs sl = kk L (.int (mI 2) :: st) S cs sl := x_bipush (by decide)
theorem xk_bipush_m4 : wp1 G Γ R K E kk (pc, .bipush (-4), 4, 1, z, w) L st S cs sl = kk L (.int (mI 4) :: st) S cs sl := x_bipush (by decide)
theorem xk_iconst_m1 : wp1 G Γ R K E kk (pc, .iconst (-1), 1, 1, z, w) L st S cs sl = kk L (.int (mI 1) :: st) S cs sl := x_iconst (by decide)
theorem xk_bipush_m5 : wp1 G Γ R K E kk (pc, .bipush (-5), 5, 1, z, w) L st S cs sl = kk L (.int (mI 5) :: st) S cs sl := x_bipush (by decide)
theorem xk_bipush_12 : wp1 G Γ R K E kk (pc, .bipush 12, 12, 0, z, w) L st S cs sl = kk L (.int (nI 12) :: st) S cs sl := x_bipush (by decide)
theorem xk_bipush_100 : wp1 G Γ R K E kk (pc, .bipush 100, 100, 0, z, w) L st S cs sl = kk L (.int (nI 100) :: st) S cs sl := x_bipush (by decide)
theorem xk_bipush_26 : wp1 G Γ R K E kk (pc, .bipush 26, 26, 0, z, w) L st S cs sl = kk L (.int (nI 26) :: st) S cs sl := x_bipush (by decide)
theorem xk_bipush_48 : wp1 G Γ R K E kk (pc, .bipush 48, 48, 0, z, w) L st S cs sl = kk L (.int (nI 48) :: st) S cs sl := x_bipush (by decide)
theorem xk_sipush_9999 : wp1 G Γ R K E kk (pc, .sipush 9999, 9999, 0, z, w) L st S cs sl = kk L (.int (nI 9999) :: st) S cs sl := x_sipush (by decide)
theorem xk_sipush_500 : wp1 G Γ R K E kk (pc, .sipush 500, 500, 0, z, w) L st S cs sl = kk L (.int (nI 500) :: st) S cs sl := x_sipush (by decide)
theorem xk_bipush_7 : wp1 G Γ R K E kk (pc, .bipush 7, 7, 0, z, w) L st S cs sl = kk L (.int (nI 7) :: st) S cs sl := x_bipush (by decide)
theorem xk_bipush_119 : wp1 G Γ R K E kk (pc, .bipush 119, 119, 0, z, w) L st S cs sl = kk L (.int (nI 119) :: st) S cs sl := x_bipush (by decide)
theorem xk_bipush_m126 : wp1 G Γ R K E kk (pc, .bipush (-126), 126, 1, z, w) L st S cs sl = kk L (.int (mI 126) :: st) S cs sl := x_bipush (by decide)
theorem xk_bipush_127 : wp1 G Γ R K E kk (pc, .bipush 127, 127, 0, z, w) L st S cs sl = kk L (.int (nI 127) :: st) S cs sl := x_bipush (by decide)
theorem xk_bipush_23 : wp1 G Γ R K E kk (pc, .bipush 23, 23, 0, z, w) L st S cs sl = kk L (.int (nI 23) :: st) S cs sl := x_bipush (by decide)
theorem xk_sipush_m1022 : wp1 G Γ R K E kk (pc, .sipush (-1022), 1022, 1, z, w) L st S cs sl = kk L (.int (mI 1022) :: st) S cs sl := x_sipush (by decide)
theorem xk_sipush_1023 : wp1 G Γ R K E kk (pc, .sipush 1023, 1023, 0, z, w) L st S cs sl = kk L (.int (nI 1023) :: st) S cs sl := x_sipush (by decide)
theorem xk_bipush_52 : wp1 G Γ R K E kk (pc, .bipush 52, 52, 0, z, w) L st S cs sl = kk L (.int (nI 52) :: st) S cs sl := x_bipush (by decide)
theorem xg_0_0 {i a : Nat} : wp1 G Γ R K E kk (pc, .getfield i, 0, 0, z, w) L (.ref a :: st) S cs sl = (sK S a = some (0, 0) ∧ ∃ r, sR S a 0 = some r ∧ kk L (.ref r :: st) S cs sl) := x_getR rfl
theorem xp_0_0 {i a r : Nat} : wp1 G Γ R K E kk (pc, .putfield i, 0, 0, z, w) L (.ref r :: .ref a :: st) S cs sl = (sK S a = some (0, 0) ∧ kk L st (stR S a 0 (some r)) cs sl) := x_putR rfl
theorem xg_0_1 {i a : Nat} : wp1 G Γ R K E kk (pc, .getfield i, 0, 1, z, w) L (.ref a :: st) S cs sl = (sK S a = some (0, 0) ∧ ∃ r, sR S a 1 = some r ∧ kk L (.ref r :: st) S cs sl) := x_getR rfl
theorem xp_0_1 {i a r : Nat} : wp1 G Γ R K E kk (pc, .putfield i, 0, 1, z, w) L (.ref r :: .ref a :: st) S cs sl = (sK S a = some (0, 0) ∧ kk L st (stR S a 1 (some r)) cs sl) := x_putR rfl
theorem xg_0_2 {i a : Nat} : wp1 G Γ R K E kk (pc, .getfield i, 0, 2, z, w) L (.ref a :: st) S cs sl = (sK S a = some (0, 0) ∧ ∃ r, sR S a 2 = some r ∧ kk L (.ref r :: st) S cs sl) := x_getR rfl
theorem xp_0_2 {i a r : Nat} : wp1 G Γ R K E kk (pc, .putfield i, 0, 2, z, w) L (.ref r :: .ref a :: st) S cs sl = (sK S a = some (0, 0) ∧ kk L st (stR S a 2 (some r)) cs sl) := x_putR rfl
theorem xg_0_3 {i a : Nat} : wp1 G Γ R K E kk (pc, .getfield i, 0, 3, z, w) L (.ref a :: st) S cs sl = (sK S a = some (0, 0) ∧ ∃ r, sR S a 3 = some r ∧ kk L (.ref r :: st) S cs sl) := x_getR rfl
theorem xp_0_3 {i a r : Nat} : wp1 G Γ R K E kk (pc, .putfield i, 0, 3, z, w) L (.ref r :: .ref a :: st) S cs sl = (sK S a = some (0, 0) ∧ kk L st (stR S a 3 (some r)) cs sl) := x_putR rfl
theorem xg_0_4 {i a : Nat} : wp1 G Γ R K E kk (pc, .getfield i, 0, 4, z, w) L (.ref a :: st) S cs sl = (sK S a = some (0, 0) ∧ ∃ r, sR S a 4 = some r ∧ kk L (.ref r :: st) S cs sl) := x_getR rfl
theorem xp_0_4 {i a r : Nat} : wp1 G Γ R K E kk (pc, .putfield i, 0, 4, z, w) L (.ref r :: .ref a :: st) S cs sl = (sK S a = some (0, 0) ∧ kk L st (stR S a 4 (some r)) cs sl) := x_putR rfl
theorem xg_0_5 {i a : Nat} : wp1 G Γ R K E kk (pc, .getfield i, 0, 5, z, w) L (.ref a :: st) S cs sl = (sK S a = some (0, 0) ∧ kk L (.int (sI S a 5) :: st) S cs sl) := x_getI rfl
theorem xp_0_5 {i a : Nat} {v : Int32} : wp1 G Γ R K E kk (pc, .putfield i, 0, 5, z, w) L (.int v :: .ref a :: st) S cs sl = (sK S a = some (0, 0) ∧ kk L st (stI S a 5 v) cs sl) := x_putI rfl
theorem xg_0_6 {i a : Nat} : wp1 G Γ R K E kk (pc, .getfield i, 0, 6, z, w) L (.ref a :: st) S cs sl = (sK S a = some (0, 0) ∧ kk L (.int (sI S a 6) :: st) S cs sl) := x_getI rfl
theorem xp_0_6 {i a : Nat} {v : Int32} : wp1 G Γ R K E kk (pc, .putfield i, 0, 6, z, w) L (.int v :: .ref a :: st) S cs sl = (sK S a = some (0, 0) ∧ kk L st (stI S a 6 v) cs sl) := x_putI rfl
theorem xg_0_7 {i a : Nat} : wp1 G Γ R K E kk (pc, .getfield i, 0, 7, z, w) L (.ref a :: st) S cs sl = (sK S a = some (0, 0) ∧ kk L (.int (sI S a 7) :: st) S cs sl) := x_getI rfl
theorem xp_0_7 {i a : Nat} {v : Int32} : wp1 G Γ R K E kk (pc, .putfield i, 0, 7, z, w) L (.int v :: .ref a :: st) S cs sl = (sK S a = some (0, 0) ∧ kk L st (stI S a 7 v) cs sl) := x_putI rfl
theorem xg_0_8 {i a : Nat} : wp1 G Γ R K E kk (pc, .getfield i, 0, 8, z, w) L (.ref a :: st) S cs sl = (sK S a = some (0, 0) ∧ kk L (.int (sI S a 8) :: st) S cs sl) := x_getI rfl
theorem xp_0_8 {i a : Nat} {v : Int32} : wp1 G Γ R K E kk (pc, .putfield i, 0, 8, z, w) L (.int v :: .ref a :: st) S cs sl = (sK S a = some (0, 0) ∧ kk L st (stI S a 8 v) cs sl) := x_putI rfl
theorem xg_1_0 {i a : Nat} : wp1 G Γ R K E kk (pc, .getfield i, 1, 0, z, w) L (.ref a :: st) S cs sl = (sK S a = some (1, 0) ∧ ∃ r, sR S a 0 = some r ∧ kk L (.ref r :: st) S cs sl) := x_getR rfl
theorem xp_1_0 {i a r : Nat} : wp1 G Γ R K E kk (pc, .putfield i, 1, 0, z, w) L (.ref r :: .ref a :: st) S cs sl = (sK S a = some (1, 0) ∧ kk L st (stR S a 0 (some r)) cs sl) := x_putR rfl
theorem xg_1_1 {i a : Nat} : wp1 G Γ R K E kk (pc, .getfield i, 1, 1, z, w) L (.ref a :: st) S cs sl = (sK S a = some (1, 0) ∧ ∃ r, sR S a 1 = some r ∧ kk L (.ref r :: st) S cs sl) := x_getR rfl
theorem xp_1_1 {i a r : Nat} : wp1 G Γ R K E kk (pc, .putfield i, 1, 1, z, w) L (.ref r :: .ref a :: st) S cs sl = (sK S a = some (1, 0) ∧ kk L st (stR S a 1 (some r)) cs sl) := x_putR rfl
theorem xg_1_2 {i a : Nat} : wp1 G Γ R K E kk (pc, .getfield i, 1, 2, z, w) L (.ref a :: st) S cs sl = (sK S a = some (1, 0) ∧ ∃ r, sR S a 2 = some r ∧ kk L (.ref r :: st) S cs sl) := x_getR rfl
theorem xp_1_2 {i a r : Nat} : wp1 G Γ R K E kk (pc, .putfield i, 1, 2, z, w) L (.ref r :: .ref a :: st) S cs sl = (sK S a = some (1, 0) ∧ kk L st (stR S a 2 (some r)) cs sl) := x_putR rfl
theorem xg_1_3 {i a : Nat} : wp1 G Γ R K E kk (pc, .getfield i, 1, 3, z, w) L (.ref a :: st) S cs sl = (sK S a = some (1, 0) ∧ ∃ r, sR S a 3 = some r ∧ kk L (.ref r :: st) S cs sl) := x_getR rfl
theorem xp_1_3 {i a r : Nat} : wp1 G Γ R K E kk (pc, .putfield i, 1, 3, z, w) L (.ref r :: .ref a :: st) S cs sl = (sK S a = some (1, 0) ∧ kk L st (stR S a 3 (some r)) cs sl) := x_putR rfl
theorem xg_2_0 {i a : Nat} : wp1 G Γ R K E kk (pc, .getfield i, 2, 0, z, w) L (.ref a :: st) S cs sl = (sK S a = some (2, 0) ∧ ∃ r, sR S a 0 = some r ∧ kk L (.ref r :: st) S cs sl) := x_getR rfl
theorem xp_2_0 {i a r : Nat} : wp1 G Γ R K E kk (pc, .putfield i, 2, 0, z, w) L (.ref r :: .ref a :: st) S cs sl = (sK S a = some (2, 0) ∧ kk L st (stR S a 0 (some r)) cs sl) := x_putR rfl
theorem xg_2_1 {i a : Nat} : wp1 G Γ R K E kk (pc, .getfield i, 2, 1, z, w) L (.ref a :: st) S cs sl = (sK S a = some (2, 0) ∧ kk L (.int (sI S a 1) :: st) S cs sl) := x_getI rfl
theorem xp_2_1 {i a : Nat} {v : Int32} : wp1 G Γ R K E kk (pc, .putfield i, 2, 1, z, w) L (.int v :: .ref a :: st) S cs sl = (sK S a = some (2, 0) ∧ kk L st (stI S a 1 v) cs sl) := x_putI rfl
theorem xg_2_2 {i a : Nat} : wp1 G Γ R K E kk (pc, .getfield i, 2, 2, z, w) L (.ref a :: st) S cs sl = (sK S a = some (2, 0) ∧ kk L (.int (sI S a 2) :: st) S cs sl) := x_getI rfl
theorem xp_2_2 {i a : Nat} {v : Int32} : wp1 G Γ R K E kk (pc, .putfield i, 2, 2, z, w) L (.int v :: .ref a :: st) S cs sl = (sK S a = some (2, 0) ∧ kk L st (stI S a 2 v) cs sl) := x_putI rfl
theorem xg_3_0 {i a : Nat} : wp1 G Γ R K E kk (pc, .getfield i, 3, 0, z, w) L (.ref a :: st) S cs sl = (sK S a = some (3, 0) ∧ ∃ r, sR S a 0 = some r ∧ kk L (.ref r :: st) S cs sl) := x_getR rfl
theorem xp_3_0 {i a r : Nat} : wp1 G Γ R K E kk (pc, .putfield i, 3, 0, z, w) L (.ref r :: .ref a :: st) S cs sl = (sK S a = some (3, 0) ∧ kk L st (stR S a 0 (some r)) cs sl) := x_putR rfl
theorem xg_3_1 {i a : Nat} : wp1 G Γ R K E kk (pc, .getfield i, 3, 1, z, w) L (.ref a :: st) S cs sl = (sK S a = some (3, 0) ∧ ∃ r, sR S a 1 = some r ∧ kk L (.ref r :: st) S cs sl) := x_getR rfl
theorem xp_3_1 {i a r : Nat} : wp1 G Γ R K E kk (pc, .putfield i, 3, 1, z, w) L (.ref r :: .ref a :: st) S cs sl = (sK S a = some (3, 0) ∧ kk L st (stR S a 1 (some r)) cs sl) := x_putR rfl
theorem xg_3_2 {i a : Nat} : wp1 G Γ R K E kk (pc, .getfield i, 3, 2, z, w) L (.ref a :: st) S cs sl = (sK S a = some (3, 0) ∧ ∃ r, sR S a 2 = some r ∧ kk L (.ref r :: st) S cs sl) := x_getR rfl
theorem xp_3_2 {i a r : Nat} : wp1 G Γ R K E kk (pc, .putfield i, 3, 2, z, w) L (.ref r :: .ref a :: st) S cs sl = (sK S a = some (3, 0) ∧ kk L st (stR S a 2 (some r)) cs sl) := x_putR rfl
theorem xg_3_3 {i a : Nat} : wp1 G Γ R K E kk (pc, .getfield i, 3, 3, z, w) L (.ref a :: st) S cs sl = (sK S a = some (3, 0) ∧ ∃ r, sR S a 3 = some r ∧ kk L (.ref r :: st) S cs sl) := x_getR rfl
theorem xp_3_3 {i a r : Nat} : wp1 G Γ R K E kk (pc, .putfield i, 3, 3, z, w) L (.ref r :: .ref a :: st) S cs sl = (sK S a = some (3, 0) ∧ kk L st (stR S a 3 (some r)) cs sl) := x_putR rfl
theorem xg_3_4 {i a : Nat} : wp1 G Γ R K E kk (pc, .getfield i, 3, 4, z, w) L (.ref a :: st) S cs sl = (sK S a = some (3, 0) ∧ ∃ r, sR S a 4 = some r ∧ kk L (.ref r :: st) S cs sl) := x_getR rfl
theorem xp_3_4 {i a r : Nat} : wp1 G Γ R K E kk (pc, .putfield i, 3, 4, z, w) L (.ref r :: .ref a :: st) S cs sl = (sK S a = some (3, 0) ∧ kk L st (stR S a 4 (some r)) cs sl) := x_putR rfl
theorem xg_3_5 {i a : Nat} : wp1 G Γ R K E kk (pc, .getfield i, 3, 5, z, w) L (.ref a :: st) S cs sl = (sK S a = some (3, 0) ∧ ∃ r, sR S a 5 = some r ∧ kk L (.ref r :: st) S cs sl) := x_getR rfl
theorem xp_3_5 {i a r : Nat} : wp1 G Γ R K E kk (pc, .putfield i, 3, 5, z, w) L (.ref r :: .ref a :: st) S cs sl = (sK S a = some (3, 0) ∧ kk L st (stR S a 5 (some r)) cs sl) := x_putR rfl
theorem xg_3_6 {i a : Nat} : wp1 G Γ R K E kk (pc, .getfield i, 3, 6, z, w) L (.ref a :: st) S cs sl = (sK S a = some (3, 0) ∧ kk L (.int (sI S a 6) :: st) S cs sl) := x_getI rfl
theorem xp_3_6 {i a : Nat} {v : Int32} : wp1 G Γ R K E kk (pc, .putfield i, 3, 6, z, w) L (.int v :: .ref a :: st) S cs sl = (sK S a = some (3, 0) ∧ kk L st (stI S a 6 v) cs sl) := x_putI rfl
theorem xg_3_7 {i a : Nat} : wp1 G Γ R K E kk (pc, .getfield i, 3, 7, z, w) L (.ref a :: st) S cs sl = (sK S a = some (3, 0) ∧ kk L (.int (sI S a 7) :: st) S cs sl) := x_getI rfl
theorem xp_3_7 {i a : Nat} {v : Int32} : wp1 G Γ R K E kk (pc, .putfield i, 3, 7, z, w) L (.int v :: .ref a :: st) S cs sl = (sK S a = some (3, 0) ∧ kk L st (stI S a 7 v) cs sl) := x_putI rfl
theorem xg_3_8 {i a : Nat} : wp1 G Γ R K E kk (pc, .getfield i, 3, 8, z, w) L (.ref a :: st) S cs sl = (sK S a = some (3, 0) ∧ kk L (.int (sI S a 8) :: st) S cs sl) := x_getI rfl
theorem xp_3_8 {i a : Nat} {v : Int32} : wp1 G Γ R K E kk (pc, .putfield i, 3, 8, z, w) L (.int v :: .ref a :: st) S cs sl = (sK S a = some (3, 0) ∧ kk L st (stI S a 8 v) cs sl) := x_putI rfl
theorem xg_3_9 {i a : Nat} : wp1 G Γ R K E kk (pc, .getfield i, 3, 9, z, w) L (.ref a :: st) S cs sl = (sK S a = some (3, 0) ∧ kk L (.int (sI S a 9) :: st) S cs sl) := x_getI rfl
theorem xp_3_9 {i a : Nat} {v : Int32} : wp1 G Γ R K E kk (pc, .putfield i, 3, 9, z, w) L (.int v :: .ref a :: st) S cs sl = (sK S a = some (3, 0) ∧ kk L st (stI S a 9 v) cs sl) := x_putI rfl
theorem xg_3_10 {i a : Nat} : wp1 G Γ R K E kk (pc, .getfield i, 3, 10, z, w) L (.ref a :: st) S cs sl = (sK S a = some (3, 0) ∧ kk L (.int (sI S a 10) :: st) S cs sl) := x_getI rfl
theorem xp_3_10 {i a : Nat} {v : Int32} : wp1 G Γ R K E kk (pc, .putfield i, 3, 10, z, w) L (.int v :: .ref a :: st) S cs sl = (sK S a = some (3, 0) ∧ kk L st (stI S a 10 v) cs sl) := x_putI rfl
theorem xg_3_11 {i a : Nat} : wp1 G Γ R K E kk (pc, .getfield i, 3, 11, z, w) L (.ref a :: st) S cs sl = (sK S a = some (3, 0) ∧ kk L (.int (sI S a 11) :: st) S cs sl) := x_getI rfl
theorem xp_3_11 {i a : Nat} {v : Int32} : wp1 G Γ R K E kk (pc, .putfield i, 3, 11, z, w) L (.int v :: .ref a :: st) S cs sl = (sK S a = some (3, 0) ∧ kk L st (stI S a 11 v) cs sl) := x_putI rfl
theorem xg_4_0 {i a : Nat} : wp1 G Γ R K E kk (pc, .getfield i, 4, 0, z, w) L (.ref a :: st) S cs sl = (sK S a = some (4, 0) ∧ ∃ r, sR S a 0 = some r ∧ kk L (.ref r :: st) S cs sl) := x_getR rfl
theorem xp_4_0 {i a r : Nat} : wp1 G Γ R K E kk (pc, .putfield i, 4, 0, z, w) L (.ref r :: .ref a :: st) S cs sl = (sK S a = some (4, 0) ∧ kk L st (stR S a 0 (some r)) cs sl) := x_putR rfl
theorem xg_4_1 {i a : Nat} : wp1 G Γ R K E kk (pc, .getfield i, 4, 1, z, w) L (.ref a :: st) S cs sl = (sK S a = some (4, 0) ∧ kk L (.int (sI S a 1) :: st) S cs sl) := x_getI rfl
theorem xp_4_1 {i a : Nat} {v : Int32} : wp1 G Γ R K E kk (pc, .putfield i, 4, 1, z, w) L (.int v :: .ref a :: st) S cs sl = (sK S a = some (4, 0) ∧ kk L st (stI S a 1 v) cs sl) := x_putI rfl
theorem xg_5_0 {i a : Nat} : wp1 G Γ R K E kk (pc, .getfield i, 5, 0, z, w) L (.ref a :: st) S cs sl = (sK S a = some (5, 0) ∧ ∃ r, sR S a 0 = some r ∧ kk L (.ref r :: st) S cs sl) := x_getR rfl
theorem xp_5_0 {i a r : Nat} : wp1 G Γ R K E kk (pc, .putfield i, 5, 0, z, w) L (.ref r :: .ref a :: st) S cs sl = (sK S a = some (5, 0) ∧ kk L st (stR S a 0 (some r)) cs sl) := x_putR rfl
theorem xg_5_1 {i a : Nat} : wp1 G Γ R K E kk (pc, .getfield i, 5, 1, z, w) L (.ref a :: st) S cs sl = (sK S a = some (5, 0) ∧ ∃ r, sR S a 1 = some r ∧ kk L (.ref r :: st) S cs sl) := x_getR rfl
theorem xp_5_1 {i a r : Nat} : wp1 G Γ R K E kk (pc, .putfield i, 5, 1, z, w) L (.ref r :: .ref a :: st) S cs sl = (sK S a = some (5, 0) ∧ kk L st (stR S a 1 (some r)) cs sl) := x_putR rfl
theorem xg_6_0 {i a : Nat} : wp1 G Γ R K E kk (pc, .getfield i, 6, 0, z, w) L (.ref a :: st) S cs sl = (sK S a = some (6, 0) ∧ ∃ r, sR S a 0 = some r ∧ kk L (.ref r :: st) S cs sl) := x_getR rfl
theorem xp_6_0 {i a r : Nat} : wp1 G Γ R K E kk (pc, .putfield i, 6, 0, z, w) L (.ref r :: .ref a :: st) S cs sl = (sK S a = some (6, 0) ∧ kk L st (stR S a 0 (some r)) cs sl) := x_putR rfl
theorem xg_6_1 {i a : Nat} : wp1 G Γ R K E kk (pc, .getfield i, 6, 1, z, w) L (.ref a :: st) S cs sl = (sK S a = some (6, 0) ∧ ∃ r, sR S a 1 = some r ∧ kk L (.ref r :: st) S cs sl) := x_getR rfl
theorem xp_6_1 {i a r : Nat} : wp1 G Γ R K E kk (pc, .putfield i, 6, 1, z, w) L (.ref r :: .ref a :: st) S cs sl = (sK S a = some (6, 0) ∧ kk L st (stR S a 1 (some r)) cs sl) := x_putR rfl
theorem xg_6_2 {i a : Nat} : wp1 G Γ R K E kk (pc, .getfield i, 6, 2, z, w) L (.ref a :: st) S cs sl = (sK S a = some (6, 0) ∧ ∃ r, sR S a 2 = some r ∧ kk L (.ref r :: st) S cs sl) := x_getR rfl
theorem xp_6_2 {i a r : Nat} : wp1 G Γ R K E kk (pc, .putfield i, 6, 2, z, w) L (.ref r :: .ref a :: st) S cs sl = (sK S a = some (6, 0) ∧ kk L st (stR S a 2 (some r)) cs sl) := x_putR rfl
theorem xg_6_3 {i a : Nat} : wp1 G Γ R K E kk (pc, .getfield i, 6, 3, z, w) L (.ref a :: st) S cs sl = (sK S a = some (6, 0) ∧ ∃ r, sR S a 3 = some r ∧ kk L (.ref r :: st) S cs sl) := x_getR rfl
theorem xp_6_3 {i a r : Nat} : wp1 G Γ R K E kk (pc, .putfield i, 6, 3, z, w) L (.ref r :: .ref a :: st) S cs sl = (sK S a = some (6, 0) ∧ kk L st (stR S a 3 (some r)) cs sl) := x_putR rfl
theorem xg_6_4 {i a : Nat} : wp1 G Γ R K E kk (pc, .getfield i, 6, 4, z, w) L (.ref a :: st) S cs sl = (sK S a = some (6, 0) ∧ ∃ r, sR S a 4 = some r ∧ kk L (.ref r :: st) S cs sl) := x_getR rfl
theorem xp_6_4 {i a r : Nat} : wp1 G Γ R K E kk (pc, .putfield i, 6, 4, z, w) L (.ref r :: .ref a :: st) S cs sl = (sK S a = some (6, 0) ∧ kk L st (stR S a 4 (some r)) cs sl) := x_putR rfl
theorem xg_6_5 {i a : Nat} : wp1 G Γ R K E kk (pc, .getfield i, 6, 5, z, w) L (.ref a :: st) S cs sl = (sK S a = some (6, 0) ∧ ∃ r, sR S a 5 = some r ∧ kk L (.ref r :: st) S cs sl) := x_getR rfl
theorem xp_6_5 {i a r : Nat} : wp1 G Γ R K E kk (pc, .putfield i, 6, 5, z, w) L (.ref r :: .ref a :: st) S cs sl = (sK S a = some (6, 0) ∧ kk L st (stR S a 5 (some r)) cs sl) := x_putR rfl
theorem mT_X1_init : mT mi_X1_init = none := rfl
theorem mL_X1_init : mL mi_X1_init = 1 := rfl
theorem rc_X1_init : (mR mi_X1_init).cells = 4 := rfl
theorem rs_X1_init : (mR mi_X1_init).slots = 480 := rfl
theorem mT_X0_init : mT mi_X0_init = none := rfl
theorem mL_X0_init : mL mi_X0_init = 2 := rfl
theorem rc_X0_init : (mR mi_X0_init).cells = 25 := rfl
theorem rs_X0_init : (mR mi_X0_init).slots = 1959 := rfl
theorem mT_X1_copyFrom : mT mi_X1_copyFrom = none := rfl
theorem mL_X1_copyFrom : mL mi_X1_copyFrom = 2 := rfl
theorem rc_X1_copyFrom : (mR mi_X1_copyFrom).cells = 0 := rfl
theorem rs_X1_copyFrom : (mR mi_X1_copyFrom).slots = 0 := rfl
theorem mT_X0_copyFrom : mT mi_X0_copyFrom = none := rfl
theorem mL_X0_copyFrom : mL mi_X0_copyFrom = 3 := rfl
theorem rc_X0_copyFrom : (mR mi_X0_copyFrom).cells = 0 := rfl
theorem rs_X0_copyFrom : (mR mi_X0_copyFrom).slots = 0 := rfl
theorem mT_X0_isPlate : mT mi_X0_isPlate = (some .boolean) := rfl
theorem mL_X0_isPlate : mL mi_X0_isPlate = 2 := rfl
theorem rc_X0_isPlate : (mR mi_X0_isPlate).cells = 0 := rfl
theorem rs_X0_isPlate : (mR mi_X0_isPlate).slots = 0 := rfl
theorem mT_X0_isWriter : mT mi_X0_isWriter = (some .boolean) := rfl
theorem mL_X0_isWriter : mL mi_X0_isWriter = 2 := rfl
theorem rc_X0_isWriter : (mR mi_X0_isWriter).cells = 0 := rfl
theorem rs_X0_isWriter : (mR mi_X0_isWriter).slots = 0 := rfl
theorem mT_X0_glassOnDesk : mT mi_X0_glassOnDesk = (some (.object "PlateWriters$Glass")) := rfl
theorem mL_X0_glassOnDesk : mL mi_X0_glassOnDesk = 1 := rfl
theorem rc_X0_glassOnDesk : (mR mi_X0_glassOnDesk).cells = 0 := rfl
theorem rs_X0_glassOnDesk : (mR mi_X0_glassOnDesk).slots = 0 := rfl
theorem mT_X0_change : mT mi_X0_change = (some .int) := rfl
theorem mL_X0_change : mL mi_X0_change = 4 := rfl
theorem rc_X0_change : (mR mi_X0_change).cells = 0 := rfl
theorem rs_X0_change : (mR mi_X0_change).slots = 0 := rfl
theorem mT_J7_fill_e525d : mT mi_J7_fill_e525d = none := rfl
theorem mL_J7_fill_e525d : mL mi_J7_fill_e525d = 4 := rfl
theorem rc_J7_fill_e525d : (mR mi_J7_fill_e525d).cells = 0 := rfl
theorem rs_J7_fill_e525d : (mR mi_J7_fill_e525d).slots = 0 := rfl
theorem mT_J7_fill_53178 : mT mi_J7_fill_53178 = none := rfl
theorem mL_J7_fill_53178 : mL mi_J7_fill_53178 = 4 := rfl
theorem rc_J7_fill_53178 : (mR mi_J7_fill_53178).cells = 0 := rfl
theorem rs_J7_fill_53178 : (mR mi_J7_fill_53178).slots = 0 := rfl
theorem mT_X1_makeNew : mT mi_X1_makeNew = none := rfl
theorem mL_X1_makeNew : mL mi_X1_makeNew = 1 := rfl
theorem rc_X1_makeNew : (mR mi_X1_makeNew).cells = 0 := rfl
theorem rs_X1_makeNew : (mR mi_X1_makeNew).slots = 0 := rfl
theorem mT_X0_addPlate : mT mi_X0_addPlate = (some .int) := rfl
theorem mL_X0_addPlate : mL mi_X0_addPlate = 1 := rfl
theorem rc_X0_addPlate : (mR mi_X0_addPlate).cells = 0 := rfl
theorem rs_X0_addPlate : (mR mi_X0_addPlate).slots = 0 := rfl
theorem mT_X0_layPlate : mT mi_X0_layPlate = (some .int) := rfl
theorem mL_X0_layPlate : mL mi_X0_layPlate = 3 := rfl
theorem rc_X0_layPlate : (mR mi_X0_layPlate).cells = 0 := rfl
theorem rs_X0_layPlate : (mR mi_X0_layPlate).slots = 0 := rfl
theorem mT_X0_addWriter : mT mi_X0_addWriter = (some .int) := rfl
theorem mL_X0_addWriter : mL mi_X0_addWriter = 2 := rfl
theorem rc_X0_addWriter : (mR mi_X0_addWriter).cells = 0 := rfl
theorem rs_X0_addWriter : (mR mi_X0_addWriter).slots = 0 := rfl
theorem mT_X6_isPlace : mT mi_X6_isPlace = (some .boolean) := rfl
theorem mL_X6_isPlace : mL mi_X6_isPlace = 2 := rfl
theorem rc_X6_isPlace : (mR mi_X6_isPlace).cells = 0 := rfl
theorem rs_X6_isPlace : (mR mi_X6_isPlace).slots = 0 := rfl
theorem mT_X0_isEnough : mT mi_X0_isEnough = (some .boolean) := rfl
theorem mL_X0_isEnough : mL mi_X0_isEnough = 2 := rfl
theorem rc_X0_isEnough : (mR mi_X0_isEnough).cells = 0 := rfl
theorem rs_X0_isEnough : (mR mi_X0_isEnough).slots = 0 := rfl
theorem mT_J9_max_7cf53 : mT mi_J9_max_7cf53 = (some .int) := rfl
theorem mL_J9_max_7cf53 : mL mi_J9_max_7cf53 = 2 := rfl
theorem rc_J9_max_7cf53 : (mR mi_J9_max_7cf53).cells = 0 := rfl
theorem rs_J9_max_7cf53 : (mR mi_J9_max_7cf53).slots = 0 := rfl
theorem mT_X6_firstNear : mT mi_X6_firstNear = (some .int) := rfl
theorem mL_X6_firstNear : mL mi_X6_firstNear = 1 := rfl
theorem rc_X6_firstNear : (mR mi_X6_firstNear).cells = 0 := rfl
theorem rs_X6_firstNear : (mR mi_X6_firstNear).slots = 0 := rfl
theorem mT_J9_min_7cf53 : mT mi_J9_min_7cf53 = (some .int) := rfl
theorem mL_J9_min_7cf53 : mL mi_J9_min_7cf53 = 2 := rfl
theorem rc_J9_min_7cf53 : (mR mi_J9_min_7cf53).cells = 0 := rfl
theorem rs_J9_min_7cf53 : (mR mi_J9_min_7cf53).slots = 0 := rfl
theorem mT_X6_lastNear : mT mi_X6_lastNear = (some .int) := rfl
theorem mL_X6_lastNear : mL mi_X6_lastNear = 2 := rfl
theorem rc_X6_lastNear : (mR mi_X6_lastNear).cells = 0 := rfl
theorem rs_X6_lastNear : (mR mi_X6_lastNear).slots = 0 := rfl
theorem mT_X0_canBeRead : mT mi_X0_canBeRead = (some .boolean) := rfl
theorem mL_X0_canBeRead : mL mi_X0_canBeRead = 3 := rfl
theorem rc_X0_canBeRead : (mR mi_X0_canBeRead).cells = 0 := rfl
theorem rs_X0_canBeRead : (mR mi_X0_canBeRead).slots = 0 := rfl
theorem mT_J9_abs_0f7a4 : mT mi_J9_abs_0f7a4 = (some .int) := rfl
theorem mL_J9_abs_0f7a4 : mL mi_J9_abs_0f7a4 = 1 := rfl
theorem rc_J9_abs_0f7a4 : (mR mi_J9_abs_0f7a4).cells = 0 := rfl
theorem rs_J9_abs_0f7a4 : (mR mi_J9_abs_0f7a4).slots = 0 := rfl
theorem mT_X0_distance : mT mi_X0_distance = (some .int) := rfl
theorem mL_X0_distance : mL mi_X0_distance = 4 := rfl
theorem rc_X0_distance : (mR mi_X0_distance).cells = 0 := rfl
theorem rs_X0_distance : (mR mi_X0_distance).slots = 0 := rfl
theorem mT_X0_dimmed : mT mi_X0_dimmed = (some .float) := rfl
theorem mL_X0_dimmed : mL mi_X0_dimmed = 5 := rfl
theorem rc_X0_dimmed : (mR mi_X0_dimmed).cells = 0 := rfl
theorem rs_X0_dimmed : (mR mi_X0_dimmed).slots = 0 := rfl
theorem mT_X0_mark : mT mi_X0_mark = (some .int) := rfl
theorem mL_X0_mark : mL mi_X0_mark = 12 := rfl
theorem rc_X0_mark : (mR mi_X0_mark).cells = 0 := rfl
theorem rs_X0_mark : (mR mi_X0_mark).slots = 0 := rfl
theorem mT_X0_writeLetter : mT mi_X0_writeLetter = (some .int) := rfl
theorem mL_X0_writeLetter : mL mi_X0_writeLetter = 9 := rfl
theorem rc_X0_writeLetter : (mR mi_X0_writeLetter).cells = 0 := rfl
theorem rs_X0_writeLetter : (mR mi_X0_writeLetter).slots = 0 := rfl
theorem mT_X1_isFree : mT mi_X1_isFree = (some .boolean) := rfl
theorem mL_X1_isFree : mL mi_X1_isFree = 2 := rfl
theorem rc_X1_isFree : (mR mi_X1_isFree).cells = 0 := rfl
theorem rs_X1_isFree : (mR mi_X1_isFree).slots = 0 := rfl
theorem mT_X0_lightAhead : mT mi_X0_lightAhead = (some .float) := rfl
theorem mL_X0_lightAhead : mL mi_X0_lightAhead = 9 := rfl
theorem rc_X0_lightAhead : (mR mi_X0_lightAhead).cells = 0 := rfl
theorem rs_X0_lightAhead : (mR mi_X0_lightAhead).slots = 0 := rfl
theorem mT_X0_hasRoom : mT mi_X0_hasRoom = (some .boolean) := rfl
theorem mL_X0_hasRoom : mL mi_X0_hasRoom = 3 := rfl
theorem rc_X0_hasRoom : (mR mi_X0_hasRoom).cells = 0 := rfl
theorem rs_X0_hasRoom : (mR mi_X0_hasRoom).slots = 0 := rfl
theorem mT_X1_promisedPlaces : mT mi_X1_promisedPlaces = (some .int) := rfl
theorem mL_X1_promisedPlaces : mL mi_X1_promisedPlaces = 3 := rfl
theorem rc_X1_promisedPlaces : (mR mi_X1_promisedPlaces).cells = 0 := rfl
theorem rs_X1_promisedPlaces : (mR mi_X1_promisedPlaces).slots = 0 := rfl
theorem mT_X0_promisePlace : mT mi_X0_promisePlace = (some .int) := rfl
theorem mL_X0_promisePlace : mL mi_X0_promisePlace = 6 := rfl
theorem rc_X0_promisePlace : (mR mi_X0_promisePlace).cells = 0 := rfl
theorem rs_X0_promisePlace : (mR mi_X0_promisePlace).slots = 0 := rfl
theorem mT_X0_takePromiseBack : mT mi_X0_takePromiseBack = (some .int) := rfl
theorem mL_X0_takePromiseBack : mL mi_X0_takePromiseBack = 6 := rfl
theorem rc_X0_takePromiseBack : (mR mi_X0_takePromiseBack).cells = 0 := rfl
theorem rs_X0_takePromiseBack : (mR mi_X0_takePromiseBack).slots = 0 := rfl
theorem mT_X0_rubLetter : mT mi_X0_rubLetter = (some .int) := rfl
theorem mL_X0_rubLetter : mL mi_X0_rubLetter = 6 := rfl
theorem rc_X0_rubLetter : (mR mi_X0_rubLetter).cells = 0 := rfl
theorem rs_X0_rubLetter : (mR mi_X0_rubLetter).slots = 0 := rfl
theorem mT_X0_cleared : mT mi_X0_cleared = (some .float) := rfl
theorem mL_X0_cleared : mL mi_X0_cleared = 2 := rfl
theorem rc_X0_cleared : (mR mi_X0_cleared).cells = 0 := rfl
theorem rs_X0_cleared : (mR mi_X0_cleared).slots = 0 := rfl
theorem mT_X0_clearedFor : mT mi_X0_clearedFor = (some .float) := rfl
theorem mL_X0_clearedFor : mL mi_X0_clearedFor = 6 := rfl
theorem rc_X0_clearedFor : (mR mi_X0_clearedFor).cells = 0 := rfl
theorem rs_X0_clearedFor : (mR mi_X0_clearedFor).slots = 0 := rfl
theorem mT_X0_clearFor : mT mi_X0_clearFor = none := rfl
theorem mL_X0_clearFor : mL mi_X0_clearFor = 4 := rfl
theorem rc_X0_clearFor : (mR mi_X0_clearFor).cells = 0 := rfl
theorem rs_X0_clearFor : (mR mi_X0_clearFor).slots = 0 := rfl
theorem mT_X0_passHours : mT mi_X0_passHours = (some .int) := rfl
theorem mL_X0_passHours : mL mi_X0_passHours = 3 := rfl
theorem rc_X0_passHours : (mR mi_X0_passHours).cells = 0 := rfl
theorem rs_X0_passHours : (mR mi_X0_passHours).slots = 0 := rfl
theorem mT_X0_hoursUntilEnough : mT mi_X0_hoursUntilEnough = (some .int) := rfl
theorem mL_X0_hoursUntilEnough : mL mi_X0_hoursUntilEnough = 4 := rfl
theorem rc_X0_hoursUntilEnough : (mR mi_X0_hoursUntilEnough).cells = 0 := rfl
theorem rs_X0_hoursUntilEnough : (mR mi_X0_hoursUntilEnough).slots = 0 := rfl
theorem mT_X0_hoursUntilReadable : mT mi_X0_hoursUntilReadable = (some .int) := rfl
theorem mL_X0_hoursUntilReadable : mL mi_X0_hoursUntilReadable = 4 := rfl
theorem rc_X0_hoursUntilReadable : (mR mi_X0_hoursUntilReadable).cells = 0 := rfl
theorem rs_X0_hoursUntilReadable : (mR mi_X0_hoursUntilReadable).slots = 0 := rfl
theorem mT_X0_placeIs : mT mi_X0_placeIs = (some .boolean) := rfl
theorem mL_X0_placeIs : mL mi_X0_placeIs = 4 := rfl
theorem rc_X0_placeIs : (mR mi_X0_placeIs).cells = 0 := rfl
theorem rs_X0_placeIs : (mR mi_X0_placeIs).slots = 0 := rfl
theorem mT_X0_placesThat : mT mi_X0_placesThat = (some .int) := rfl
theorem mL_X0_placesThat : mL mi_X0_placesThat = 5 := rfl
theorem rc_X0_placesThat : (mR mi_X0_placesThat).cells = 0 := rfl
theorem rs_X0_placesThat : (mR mi_X0_placesThat).slots = 0 := rfl
theorem mT_X0_placesOfWriter : mT mi_X0_placesOfWriter = (some .int) := rfl
theorem mL_X0_placesOfWriter : mL mi_X0_placesOfWriter = 8 := rfl
theorem rc_X0_placesOfWriter : (mR mi_X0_placesOfWriter).cells = 0 := rfl
theorem rs_X0_placesOfWriter : (mR mi_X0_placesOfWriter).slots = 0 := rfl
theorem mT_X1_leastLight : mT mi_X1_leastLight = (some .float) := rfl
theorem mL_X1_leastLight : mL mi_X1_leastLight = 3 := rfl
theorem rc_X1_leastLight : (mR mi_X1_leastLight).cells = 0 := rfl
theorem rs_X1_leastLight : (mR mi_X1_leastLight).slots = 0 := rfl
theorem mT_X1_sumOfLight : mT mi_X1_sumOfLight = (some .float) := rfl
theorem mL_X1_sumOfLight : mL mi_X1_sumOfLight = 3 := rfl
theorem rc_X1_sumOfLight : (mR mi_X1_sumOfLight).cells = 0 := rfl
theorem rs_X1_sumOfLight : (mR mi_X1_sumOfLight).slots = 0 := rfl
theorem mT_X2_init : mT mi_X2_init = none := rfl
theorem mL_X2_init : mL mi_X2_init = 2 := rfl
theorem rc_X2_init : (mR mi_X2_init).cells = 183 := rfl
theorem rs_X2_init : (mR mi_X2_init).slots = 13783 := rfl
theorem mT_X2_prepare : mT mi_X2_prepare = none := rfl
theorem mL_X2_prepare : mL mi_X2_prepare = 2 := rfl
theorem rc_X2_prepare : (mR mi_X2_prepare).cells = 0 := rfl
theorem rs_X2_prepare : (mR mi_X2_prepare).slots = 0 := rfl
theorem mT_X2_keepUnlessError : mT mi_X2_keepUnlessError = (some .int) := rfl
theorem mL_X2_keepUnlessError : mL mi_X2_keepUnlessError = 2 := rfl
theorem rc_X2_keepUnlessError : (mR mi_X2_keepUnlessError).cells = 0 := rfl
theorem rs_X2_keepUnlessError : (mR mi_X2_keepUnlessError).slots = 0 := rfl
theorem mT_X2_takeBackInto : mT mi_X2_takeBackInto = (some .int) := rfl
theorem mL_X2_takeBackInto : mL mi_X2_takeBackInto = 2 := rfl
theorem rc_X2_takeBackInto : (mR mi_X2_takeBackInto).cells = 0 := rfl
theorem rs_X2_takeBackInto : (mR mi_X2_takeBackInto).slots = 0 := rfl
theorem mT_X4_init : mT mi_X4_init = none := rfl
theorem mL_X4_init : mL mi_X4_init = 1 := rfl
theorem rc_X4_init : (mR mi_X4_init).cells = 1 := rfl
theorem rs_X4_init : (mR mi_X4_init).slots = 80 := rfl
theorem mT_X3_init : mT mi_X3_init = none := rfl
theorem mL_X3_init : mL mi_X3_init = 1 := rfl
theorem rc_X3_init : (mR mi_X3_init).cells = 7 := rfl
theorem rs_X3_init : (mR mi_X3_init).slots = 482 := rfl
theorem mT_X5_init : mT mi_X5_init = none := rfl
theorem mL_X5_init : mL mi_X5_init = 1 := rfl
theorem rc_X5_init : (mR mi_X5_init).cells = 6 := rfl
theorem rs_X5_init : (mR mi_X5_init).slots = 604 := rfl
theorem mT_X5_lettersSpoiled : mT mi_X5_lettersSpoiled = (some .int) := rfl
theorem mL_X5_lettersSpoiled : mL mi_X5_lettersSpoiled = 5 := rfl
theorem rc_X5_lettersSpoiled : (mR mi_X5_lettersSpoiled).cells = 0 := rfl
theorem rs_X5_lettersSpoiled : (mR mi_X5_lettersSpoiled).slots = 0 := rfl
theorem mT_X5_promisesSpoiled : mT mi_X5_promisesSpoiled = (some .int) := rfl
theorem mL_X5_promisesSpoiled : mL mi_X5_promisesSpoiled = 8 := rfl
theorem rc_X5_promisesSpoiled : (mR mi_X5_promisesSpoiled).cells = 0 := rfl
theorem rs_X5_promisesSpoiled : (mR mi_X5_promisesSpoiled).slots = 0 := rfl
theorem mT_X5_roomLeft : mT mi_X5_roomLeft = (some .int) := rfl
theorem mL_X5_roomLeft : mL mi_X5_roomLeft = 5 := rfl
theorem rc_X5_roomLeft : (mR mi_X5_roomLeft).cells = 0 := rfl
theorem rs_X5_roomLeft : (mR mi_X5_roomLeft).slots = 0 := rfl
theorem mT_X5_lookAhead : mT mi_X5_lookAhead = none := rfl
theorem mL_X5_lookAhead : mL mi_X5_lookAhead = 5 := rfl
theorem rc_X5_lookAhead : (mR mi_X5_lookAhead).cells = 0 := rfl
theorem rs_X5_lookAhead : (mR mi_X5_lookAhead).slots = 0 := rfl
theorem mT_X5_brightest : mT mi_X5_brightest = (some .int) := rfl
theorem mL_X5_brightest : mL mi_X5_brightest = 5 := rfl
theorem rc_X5_brightest : (mR mi_X5_brightest).cells = 0 := rfl
theorem rs_X5_brightest : (mR mi_X5_brightest).slots = 0 := rfl
theorem mT_X5_brightestOf : mT mi_X5_brightestOf = (some .int) := rfl
theorem mL_X5_brightestOf : mL mi_X5_brightestOf = 3 := rfl
theorem rc_X5_brightestOf : (mR mi_X5_brightestOf).cells = 0 := rfl
theorem rs_X5_brightestOf : (mR mi_X5_brightestOf).slots = 0 := rfl
theorem mT_X5_lookAround : mT mi_X5_lookAround = none := rfl
theorem mL_X5_lookAround : mL mi_X5_lookAround = 6 := rfl
theorem rc_X5_lookAround : (mR mi_X5_lookAround).cells = 0 := rfl
theorem rs_X5_lookAround : (mR mi_X5_lookAround).slots = 0 := rfl
theorem mT_X5_lettersUntilFull : mT mi_X5_lettersUntilFull = (some .int) := rfl
theorem mL_X5_lettersUntilFull : mL mi_X5_lettersUntilFull = 6 := rfl
theorem rc_X5_lettersUntilFull : (mR mi_X5_lettersUntilFull).cells = 0 := rfl
theorem rs_X5_lettersUntilFull : (mR mi_X5_lettersUntilFull).slots = 0 := rfl
theorem mT_X6_init : mT mi_X6_init = none := rfl
theorem mL_X6_init : mL mi_X6_init = 2 := rfl
theorem rc_X6_init : (mR mi_X6_init).cells = 279 := rfl
theorem rs_X6_init : (mR mi_X6_init).slots = 20794 := rfl
theorem mT_X6_set : mT mi_X6_set = (some .int) := rfl
theorem mL_X6_set : mL mi_X6_set = 3 := rfl
theorem rc_X6_set : (mR mi_X6_set).cells = 0 := rfl
theorem rs_X6_set : (mR mi_X6_set).slots = 0 := rfl
theorem mT_X6_plate : mT mi_X6_plate = (some .int) := rfl
theorem mL_X6_plate : mL mi_X6_plate = 1 := rfl
theorem rc_X6_plate : (mR mi_X6_plate).cells = 0 := rfl
theorem rs_X6_plate : (mR mi_X6_plate).slots = 0 := rfl
theorem mT_X6_lay : mT mi_X6_lay = (some .int) := rfl
theorem mL_X6_lay : mL mi_X6_lay = 2 := rfl
theorem rc_X6_lay : (mR mi_X6_lay).cells = 0 := rfl
theorem rs_X6_lay : (mR mi_X6_lay).slots = 0 := rfl
theorem mT_X6_writer : mT mi_X6_writer = (some .int) := rfl
theorem mL_X6_writer : mL mi_X6_writer = 2 := rfl
theorem rc_X6_writer : (mR mi_X6_writer).cells = 0 := rfl
theorem rs_X6_writer : (mR mi_X6_writer).slots = 0 := rfl
theorem mT_X6_write : mT mi_X6_write = (some .int) := rfl
theorem mL_X6_write : mL mi_X6_write = 5 := rfl
theorem rc_X6_write : (mR mi_X6_write).cells = 0 := rfl
theorem rs_X6_write : (mR mi_X6_write).slots = 0 := rfl
theorem mT_X6_promise : mT mi_X6_promise = (some .int) := rfl
theorem mL_X6_promise : mL mi_X6_promise = 4 := rfl
theorem rc_X6_promise : (mR mi_X6_promise).cells = 0 := rfl
theorem rs_X6_promise : (mR mi_X6_promise).slots = 0 := rfl
theorem mT_X6_takeBack : mT mi_X6_takeBack = (some .int) := rfl
theorem mL_X6_takeBack : mL mi_X6_takeBack = 3 := rfl
theorem rc_X6_takeBack : (mR mi_X6_takeBack).cells = 0 := rfl
theorem rs_X6_takeBack : (mR mi_X6_takeBack).slots = 0 := rfl
theorem mT_X6_rub : mT mi_X6_rub = (some .int) := rfl
theorem mL_X6_rub : mL mi_X6_rub = 3 := rfl
theorem rc_X6_rub : (mR mi_X6_rub).cells = 0 := rfl
theorem rs_X6_rub : (mR mi_X6_rub).slots = 0 := rfl
theorem mT_X6_pass : mT mi_X6_pass = (some .int) := rfl
theorem mL_X6_pass : mL mi_X6_pass = 2 := rfl
theorem rc_X6_pass : (mR mi_X6_pass).cells = 0 := rfl
theorem rs_X6_pass : (mR mi_X6_pass).slots = 0 := rfl
theorem mT_X6_bitsOfFloat : mT mi_X6_bitsOfFloat = (some .int) := rfl
theorem mL_X6_bitsOfFloat : mL mi_X6_bitsOfFloat = 4 := rfl
theorem rc_X6_bitsOfFloat : (mR mi_X6_bitsOfFloat).cells = 0 := rfl
theorem rs_X6_bitsOfFloat : (mR mi_X6_bitsOfFloat).slots = 0 := rfl
theorem mT_X6_at : mT mi_X6_at = (some .int) := rfl
theorem mL_X6_at : mL mi_X6_at = 6 := rfl
theorem rc_X6_at : (mR mi_X6_at).cells = 0 := rfl
theorem rs_X6_at : (mR mi_X6_at).slots = 0 := rfl
theorem mT_X6_columnsThat : mT mi_X6_columnsThat = (some .int) := rfl
theorem mL_X6_columnsThat : mL mi_X6_columnsThat = 6 := rfl
theorem rc_X6_columnsThat : (mR mi_X6_columnsThat).cells = 0 := rfl
theorem rs_X6_columnsThat : (mR mi_X6_columnsThat).slots = 0 := rfl
theorem mT_X6_longestRun : mT mi_X6_longestRun = (some .int) := rfl
theorem mL_X6_longestRun : mL mi_X6_longestRun = 4 := rfl
theorem rc_X6_longestRun : (mR mi_X6_longestRun).cells = 0 := rfl
theorem rs_X6_longestRun : (mR mi_X6_longestRun).slots = 0 := rfl
theorem mT_X6_row : mT mi_X6_row = (some .int) := rfl
theorem mL_X6_row : mL mi_X6_row = 4 := rfl
theorem rc_X6_row : (mR mi_X6_row).cells = 0 := rfl
theorem rs_X6_row : (mR mi_X6_row).slots = 0 := rfl
theorem mT_X6_of : mT mi_X6_of = (some .int) := rfl
theorem mL_X6_of : mL mi_X6_of = 3 := rfl
theorem rc_X6_of : (mR mi_X6_of).cells = 0 := rfl
theorem rs_X6_of : (mR mi_X6_of).slots = 0 := rfl
theorem mT_X6_ofPlate : mT mi_X6_ofPlate = (some .int) := rfl
theorem mL_X6_ofPlate : mL mi_X6_ofPlate = 4 := rfl
theorem rc_X6_ofPlate : (mR mi_X6_ofPlate).cells = 0 := rfl
theorem rs_X6_ofPlate : (mR mi_X6_ofPlate).slots = 0 := rfl
theorem mT_X6_count : mT mi_X6_count = (some .int) := rfl
theorem mL_X6_count : mL mi_X6_count = 2 := rfl
theorem rc_X6_count : (mR mi_X6_count).cells = 0 := rfl
theorem rs_X6_count : (mR mi_X6_count).slots = 0 := rfl
theorem mT_X6_bitsOfMean : mT mi_X6_bitsOfMean = (some .long) := rfl
theorem mL_X6_bitsOfMean : mL mi_X6_bitsOfMean = 5 := rfl
theorem rc_X6_bitsOfMean : (mR mi_X6_bitsOfMean).cells = 0 := rfl
theorem rs_X6_bitsOfMean : (mR mi_X6_bitsOfMean).slots = 0 := rfl
theorem mT_X6_mean : mT mi_X6_mean = (some .long) := rfl
theorem mL_X6_mean : mL mi_X6_mean = 5 := rfl
theorem rc_X6_mean : (mR mi_X6_mean).cells = 0 := rfl
theorem rs_X6_mean : (mR mi_X6_mean).slots = 0 := rfl
theorem mT_X6_ifWritten : mT mi_X6_ifWritten = (some .int) := rfl
theorem mL_X6_ifWritten : mL mi_X6_ifWritten = 7 := rfl
theorem rc_X6_ifWritten : (mR mi_X6_ifWritten).cells = 0 := rfl
theorem rs_X6_ifWritten : (mR mi_X6_ifWritten).slots = 0 := rfl
theorem mT_X6_bestPlace : mT mi_X6_bestPlace = (some .int) := rfl
theorem mL_X6_bestPlace : mL mi_X6_bestPlace = 2 := rfl
theorem rc_X6_bestPlace : (mR mi_X6_bestPlace).cells = 0 := rfl
theorem rs_X6_bestPlace : (mR mi_X6_bestPlace).slots = 0 := rfl
theorem mT_X6_fills : mT mi_X6_fills = (some .int) := rfl
theorem mL_X6_fills : mL mi_X6_fills = 3 := rfl
theorem rc_X6_fills : (mR mi_X6_fills).cells = 0 := rfl
theorem rs_X6_fills : (mR mi_X6_fills).slots = 0 := rfl
theorem mT_X6_readableIn : mT mi_X6_readableIn = (some .int) := rfl
theorem mL_X6_readableIn : mL mi_X6_readableIn = 2 := rfl
theorem rc_X6_readableIn : (mR mi_X6_readableIn).cells = 0 := rfl
theorem rs_X6_readableIn : (mR mi_X6_readableIn).slots = 0 := rfl
theorem mT_X6_undo : mT mi_X6_undo = (some .int) := rfl
theorem mL_X6_undo : mL mi_X6_undo = 1 := rfl
theorem rc_X6_undo : (mR mi_X6_undo).cells = 0 := rfl
theorem rs_X6_undo : (mR mi_X6_undo).slots = 0 := rfl
theorem mT_X6_save : mT mi_X6_save = (some .int) := rfl
theorem mL_X6_save : mL mi_X6_save = 2 := rfl
theorem rc_X6_save : (mR mi_X6_save).cells = 0 := rfl
theorem rs_X6_save : (mR mi_X6_save).slots = 0 := rfl
theorem mT_X6_restore : mT mi_X6_restore = (some .int) := rfl
theorem mL_X6_restore : mL mi_X6_restore = 2 := rfl
theorem rc_X6_restore : (mR mi_X6_restore).cells = 0 := rfl
theorem rs_X6_restore : (mR mi_X6_restore).slots = 0 := rfl
theorem wn_X1_init_0 : wpN l G mi_X1_init Γ F sgs_X1_init (n + 1) 0 L st S cs sl = wp G Γ (mR mi_X1_init) (wpN l G mi_X1_init Γ F sgs_X1_init n) (EX mi_X1_init F) sg_X1_init_0 L st S cs sl := rfl
theorem wn_X1_copyFrom_0 : wpN l G mi_X1_copyFrom Γ F sgs_X1_copyFrom (n + 1) 0 L st S cs sl = wp G Γ (mR mi_X1_copyFrom) (wpN l G mi_X1_copyFrom Γ F sgs_X1_copyFrom n) (EX mi_X1_copyFrom F) sg_X1_copyFrom_0 L st S cs sl := rfl
theorem wn_J7_fill_e525d_0 : wpN l G mi_J7_fill_e525d Γ F sgs_J7_fill_e525d (n + 1) 0 L st S cs sl = wp G Γ (mR mi_J7_fill_e525d) (wpN l G mi_J7_fill_e525d Γ F sgs_J7_fill_e525d n) (EX mi_J7_fill_e525d F) sg_J7_fill_e525d_0 L st S cs sl := rfl
theorem wn_J7_fill_e525d_5 : wpN l G mi_J7_fill_e525d Γ F sgs_J7_fill_e525d (n + 1) 5 L st S cs sl = V l G mi_J7_fill_e525d F 5 L st S cs sl := rfl
theorem wn_J7_fill_e525d_20 : wpN l G mi_J7_fill_e525d Γ F sgs_J7_fill_e525d (n + 1) 20 L st S cs sl = wp G Γ (mR mi_J7_fill_e525d) (wpN l G mi_J7_fill_e525d Γ F sgs_J7_fill_e525d n) (EX mi_J7_fill_e525d F) sg_J7_fill_e525d_20 L st S cs sl := rfl
theorem wn_J7_fill_53178_0 : wpN l G mi_J7_fill_53178 Γ F sgs_J7_fill_53178 (n + 1) 0 L st S cs sl = wp G Γ (mR mi_J7_fill_53178) (wpN l G mi_J7_fill_53178 Γ F sgs_J7_fill_53178 n) (EX mi_J7_fill_53178 F) sg_J7_fill_53178_0 L st S cs sl := rfl
theorem wn_J7_fill_53178_5 : wpN l G mi_J7_fill_53178 Γ F sgs_J7_fill_53178 (n + 1) 5 L st S cs sl = V l G mi_J7_fill_53178 F 5 L st S cs sl := rfl
theorem wn_J7_fill_53178_20 : wpN l G mi_J7_fill_53178 Γ F sgs_J7_fill_53178 (n + 1) 20 L st S cs sl = wp G Γ (mR mi_J7_fill_53178) (wpN l G mi_J7_fill_53178 Γ F sgs_J7_fill_53178 n) (EX mi_J7_fill_53178 F) sg_J7_fill_53178_20 L st S cs sl := rfl
theorem wn_X1_makeNew_0 : wpN l G mi_X1_makeNew Γ F sgs_X1_makeNew (n + 1) 0 L st S cs sl = wp G Γ (mR mi_X1_makeNew) (wpN l G mi_X1_makeNew Γ F sgs_X1_makeNew n) (EX mi_X1_makeNew F) sg_X1_makeNew_0 L st S cs sl := rfl
theorem wn_J9_max_7cf53_0 : wpN l G mi_J9_max_7cf53 Γ F sgs_J9_max_7cf53 (n + 1) 0 L st S cs sl = wp G Γ (mR mi_J9_max_7cf53) (wpN l G mi_J9_max_7cf53 Γ F sgs_J9_max_7cf53 n) (EX mi_J9_max_7cf53 F) sg_J9_max_7cf53_0 L st S cs sl := rfl
theorem wn_J9_max_7cf53_9 : wpN l G mi_J9_max_7cf53 Γ F sgs_J9_max_7cf53 (n + 1) 9 L st S cs sl = wp G Γ (mR mi_J9_max_7cf53) (wpN l G mi_J9_max_7cf53 Γ F sgs_J9_max_7cf53 n) (EX mi_J9_max_7cf53 F) sg_J9_max_7cf53_9 L st S cs sl := rfl
theorem wn_J9_max_7cf53_10 : wpN l G mi_J9_max_7cf53 Γ F sgs_J9_max_7cf53 (n + 1) 10 L st S cs sl = wp G Γ (mR mi_J9_max_7cf53) (wpN l G mi_J9_max_7cf53 Γ F sgs_J9_max_7cf53 n) (EX mi_J9_max_7cf53 F) sg_J9_max_7cf53_10 L st S cs sl := rfl
theorem wn_J9_min_7cf53_0 : wpN l G mi_J9_min_7cf53 Γ F sgs_J9_min_7cf53 (n + 1) 0 L st S cs sl = wp G Γ (mR mi_J9_min_7cf53) (wpN l G mi_J9_min_7cf53 Γ F sgs_J9_min_7cf53 n) (EX mi_J9_min_7cf53 F) sg_J9_min_7cf53_0 L st S cs sl := rfl
theorem wn_J9_min_7cf53_9 : wpN l G mi_J9_min_7cf53 Γ F sgs_J9_min_7cf53 (n + 1) 9 L st S cs sl = wp G Γ (mR mi_J9_min_7cf53) (wpN l G mi_J9_min_7cf53 Γ F sgs_J9_min_7cf53 n) (EX mi_J9_min_7cf53 F) sg_J9_min_7cf53_9 L st S cs sl := rfl
theorem wn_J9_min_7cf53_10 : wpN l G mi_J9_min_7cf53 Γ F sgs_J9_min_7cf53 (n + 1) 10 L st S cs sl = wp G Γ (mR mi_J9_min_7cf53) (wpN l G mi_J9_min_7cf53 Γ F sgs_J9_min_7cf53 n) (EX mi_J9_min_7cf53 F) sg_J9_min_7cf53_10 L st S cs sl := rfl
theorem wn_J9_abs_0f7a4_0 : wpN l G mi_J9_abs_0f7a4 Γ F sgs_J9_abs_0f7a4 (n + 1) 0 L st S cs sl = wp G Γ (mR mi_J9_abs_0f7a4) (wpN l G mi_J9_abs_0f7a4 Γ F sgs_J9_abs_0f7a4 n) (EX mi_J9_abs_0f7a4 F) sg_J9_abs_0f7a4_0 L st S cs sl := rfl
theorem wn_J9_abs_0f7a4_9 : wpN l G mi_J9_abs_0f7a4 Γ F sgs_J9_abs_0f7a4 (n + 1) 9 L st S cs sl = wp G Γ (mR mi_J9_abs_0f7a4) (wpN l G mi_J9_abs_0f7a4 Γ F sgs_J9_abs_0f7a4 n) (EX mi_J9_abs_0f7a4 F) sg_J9_abs_0f7a4_9 L st S cs sl := rfl
theorem wn_J9_abs_0f7a4_10 : wpN l G mi_J9_abs_0f7a4 Γ F sgs_J9_abs_0f7a4 (n + 1) 10 L st S cs sl = wp G Γ (mR mi_J9_abs_0f7a4) (wpN l G mi_J9_abs_0f7a4 Γ F sgs_J9_abs_0f7a4 n) (EX mi_J9_abs_0f7a4 F) sg_J9_abs_0f7a4_10 L st S cs sl := rfl
theorem wn_X1_isFree_0 : wpN l G mi_X1_isFree Γ F sgs_X1_isFree (n + 1) 0 L st S cs sl = wp G Γ (mR mi_X1_isFree) (wpN l G mi_X1_isFree Γ F sgs_X1_isFree n) (EX mi_X1_isFree F) sg_X1_isFree_0 L st S cs sl := rfl
theorem wn_X1_isFree_26 : wpN l G mi_X1_isFree Γ F sgs_X1_isFree (n + 1) 26 L st S cs sl = wp G Γ (mR mi_X1_isFree) (wpN l G mi_X1_isFree Γ F sgs_X1_isFree n) (EX mi_X1_isFree F) sg_X1_isFree_26 L st S cs sl := rfl
theorem wn_X1_isFree_27 : wpN l G mi_X1_isFree Γ F sgs_X1_isFree (n + 1) 27 L st S cs sl = wp G Γ (mR mi_X1_isFree) (wpN l G mi_X1_isFree Γ F sgs_X1_isFree n) (EX mi_X1_isFree F) sg_X1_isFree_27 L st S cs sl := rfl
theorem wn_X1_promisedPlaces_0 : wpN l G mi_X1_promisedPlaces Γ F sgs_X1_promisedPlaces (n + 1) 0 L st S cs sl = wp G Γ (mR mi_X1_promisedPlaces) (wpN l G mi_X1_promisedPlaces Γ F sgs_X1_promisedPlaces n) (EX mi_X1_promisedPlaces F) sg_X1_promisedPlaces_0 L st S cs sl := rfl
theorem wn_X1_promisedPlaces_4 : wpN l G mi_X1_promisedPlaces Γ F sgs_X1_promisedPlaces (n + 1) 4 L st S cs sl = V l G mi_X1_promisedPlaces F 4 L st S cs sl := rfl
theorem wn_X1_promisedPlaces_26 : wpN l G mi_X1_promisedPlaces Γ F sgs_X1_promisedPlaces (n + 1) 26 L st S cs sl = wp G Γ (mR mi_X1_promisedPlaces) (wpN l G mi_X1_promisedPlaces Γ F sgs_X1_promisedPlaces n) (EX mi_X1_promisedPlaces F) sg_X1_promisedPlaces_26 L st S cs sl := rfl
theorem wn_X1_promisedPlaces_27 : wpN l G mi_X1_promisedPlaces Γ F sgs_X1_promisedPlaces (n + 1) 27 L st S cs sl = wp G Γ (mR mi_X1_promisedPlaces) (wpN l G mi_X1_promisedPlaces Γ F sgs_X1_promisedPlaces n) (EX mi_X1_promisedPlaces F) sg_X1_promisedPlaces_27 L st S cs sl := rfl
theorem wn_X1_promisedPlaces_35 : wpN l G mi_X1_promisedPlaces Γ F sgs_X1_promisedPlaces (n + 1) 35 L st S cs sl = wp G Γ (mR mi_X1_promisedPlaces) (wpN l G mi_X1_promisedPlaces Γ F sgs_X1_promisedPlaces n) (EX mi_X1_promisedPlaces F) sg_X1_promisedPlaces_35 L st S cs sl := rfl
theorem wn_X1_leastLight_0 : wpN l G mi_X1_leastLight Γ F sgs_X1_leastLight (n + 1) 0 L st S cs sl = wp G Γ (mR mi_X1_leastLight) (wpN l G mi_X1_leastLight Γ F sgs_X1_leastLight n) (EX mi_X1_leastLight F) sg_X1_leastLight_0 L st S cs sl := rfl
theorem wn_X1_leastLight_9 : wpN l G mi_X1_leastLight Γ F sgs_X1_leastLight (n + 1) 9 L st S cs sl = V l G mi_X1_leastLight F 9 L st S cs sl := rfl
theorem wn_X1_leastLight_35 : wpN l G mi_X1_leastLight Γ F sgs_X1_leastLight (n + 1) 35 L st S cs sl = wp G Γ (mR mi_X1_leastLight) (wpN l G mi_X1_leastLight Γ F sgs_X1_leastLight n) (EX mi_X1_leastLight F) sg_X1_leastLight_35 L st S cs sl := rfl
theorem wn_X1_leastLight_36 : wpN l G mi_X1_leastLight Γ F sgs_X1_leastLight (n + 1) 36 L st S cs sl = wp G Γ (mR mi_X1_leastLight) (wpN l G mi_X1_leastLight Γ F sgs_X1_leastLight n) (EX mi_X1_leastLight F) sg_X1_leastLight_36 L st S cs sl := rfl
theorem wn_X1_leastLight_43 : wpN l G mi_X1_leastLight Γ F sgs_X1_leastLight (n + 1) 43 L st S cs sl = wp G Γ (mR mi_X1_leastLight) (wpN l G mi_X1_leastLight Γ F sgs_X1_leastLight n) (EX mi_X1_leastLight F) sg_X1_leastLight_43 L st S cs sl := rfl
theorem wn_X1_sumOfLight_0 : wpN l G mi_X1_sumOfLight Γ F sgs_X1_sumOfLight (n + 1) 0 L st S cs sl = wp G Γ (mR mi_X1_sumOfLight) (wpN l G mi_X1_sumOfLight Γ F sgs_X1_sumOfLight n) (EX mi_X1_sumOfLight F) sg_X1_sumOfLight_0 L st S cs sl := rfl
theorem wn_X1_sumOfLight_4 : wpN l G mi_X1_sumOfLight Γ F sgs_X1_sumOfLight (n + 1) 4 L st S cs sl = V l G mi_X1_sumOfLight F 4 L st S cs sl := rfl
theorem wn_X1_sumOfLight_25 : wpN l G mi_X1_sumOfLight Γ F sgs_X1_sumOfLight (n + 1) 25 L st S cs sl = wp G Γ (mR mi_X1_sumOfLight) (wpN l G mi_X1_sumOfLight Γ F sgs_X1_sumOfLight n) (EX mi_X1_sumOfLight F) sg_X1_sumOfLight_25 L st S cs sl := rfl
theorem wn_X4_init_0 : wpN l G mi_X4_init Γ F sgs_X4_init (n + 1) 0 L st S cs sl = wp G Γ (mR mi_X4_init) (wpN l G mi_X4_init Γ F sgs_X4_init n) (EX mi_X4_init F) sg_X4_init_0 L st S cs sl := rfl
theorem wn_X3_init_0 : wpN l G mi_X3_init Γ F sgs_X3_init (n + 1) 0 L st S cs sl = wp G Γ (mR mi_X3_init) (wpN l G mi_X3_init Γ F sgs_X3_init n) (EX mi_X3_init F) sg_X3_init_0 L st S cs sl := rfl
theorem wn_X0_init_0 : wpN l G mi_X0_init Γ F sgs_X0_init (n + 1) 0 L st S cs sl = wp G Γ (mR mi_X0_init) (wpN l G mi_X0_init Γ F sgs_X0_init n) (EX mi_X0_init F) sg_X0_init_0 L st S cs sl := rfl
theorem wn_X0_init_82 : wpN l G mi_X0_init Γ F sgs_X0_init (n + 1) 82 L st S cs sl = V l G mi_X0_init F 82 L st S cs sl := rfl
theorem wn_X0_init_106 : wpN l G mi_X0_init Γ F sgs_X0_init (n + 1) 106 L st S cs sl = wp G Γ (mR mi_X0_init) (wpN l G mi_X0_init Γ F sgs_X0_init n) (EX mi_X0_init F) sg_X0_init_106 L st S cs sl := rfl
theorem wn_X0_copyFrom_0 : wpN l G mi_X0_copyFrom Γ F sgs_X0_copyFrom (n + 1) 0 L st S cs sl = wp G Γ (mR mi_X0_copyFrom) (wpN l G mi_X0_copyFrom Γ F sgs_X0_copyFrom n) (EX mi_X0_copyFrom F) sg_X0_copyFrom_0 L st S cs sl := rfl
theorem wn_X0_copyFrom_94 : wpN l G mi_X0_copyFrom Γ F sgs_X0_copyFrom (n + 1) 94 L st S cs sl = V l G mi_X0_copyFrom F 94 L st S cs sl := rfl
theorem wn_X0_copyFrom_123 : wpN l G mi_X0_copyFrom Γ F sgs_X0_copyFrom (n + 1) 123 L st S cs sl = wp G Γ (mR mi_X0_copyFrom) (wpN l G mi_X0_copyFrom Γ F sgs_X0_copyFrom n) (EX mi_X0_copyFrom F) sg_X0_copyFrom_123 L st S cs sl := rfl
theorem wn_X0_isPlate_0 : wpN l G mi_X0_isPlate Γ F sgs_X0_isPlate (n + 1) 0 L st S cs sl = wp G Γ (mR mi_X0_isPlate) (wpN l G mi_X0_isPlate Γ F sgs_X0_isPlate n) (EX mi_X0_isPlate F) sg_X0_isPlate_0 L st S cs sl := rfl
theorem wn_X0_isPlate_16 : wpN l G mi_X0_isPlate Γ F sgs_X0_isPlate (n + 1) 16 L st S cs sl = wp G Γ (mR mi_X0_isPlate) (wpN l G mi_X0_isPlate Γ F sgs_X0_isPlate n) (EX mi_X0_isPlate F) sg_X0_isPlate_16 L st S cs sl := rfl
theorem wn_X0_isPlate_17 : wpN l G mi_X0_isPlate Γ F sgs_X0_isPlate (n + 1) 17 L st S cs sl = wp G Γ (mR mi_X0_isPlate) (wpN l G mi_X0_isPlate Γ F sgs_X0_isPlate n) (EX mi_X0_isPlate F) sg_X0_isPlate_17 L st S cs sl := rfl
theorem wn_X0_isWriter_0 : wpN l G mi_X0_isWriter Γ F sgs_X0_isWriter (n + 1) 0 L st S cs sl = wp G Γ (mR mi_X0_isWriter) (wpN l G mi_X0_isWriter Γ F sgs_X0_isWriter n) (EX mi_X0_isWriter F) sg_X0_isWriter_0 L st S cs sl := rfl
theorem wn_X0_isWriter_16 : wpN l G mi_X0_isWriter Γ F sgs_X0_isWriter (n + 1) 16 L st S cs sl = wp G Γ (mR mi_X0_isWriter) (wpN l G mi_X0_isWriter Γ F sgs_X0_isWriter n) (EX mi_X0_isWriter F) sg_X0_isWriter_16 L st S cs sl := rfl
theorem wn_X0_isWriter_17 : wpN l G mi_X0_isWriter Γ F sgs_X0_isWriter (n + 1) 17 L st S cs sl = wp G Γ (mR mi_X0_isWriter) (wpN l G mi_X0_isWriter Γ F sgs_X0_isWriter n) (EX mi_X0_isWriter F) sg_X0_isWriter_17 L st S cs sl := rfl
theorem wn_X0_glassOnDesk_0 : wpN l G mi_X0_glassOnDesk Γ F sgs_X0_glassOnDesk (n + 1) 0 L st S cs sl = wp G Γ (mR mi_X0_glassOnDesk) (wpN l G mi_X0_glassOnDesk Γ F sgs_X0_glassOnDesk n) (EX mi_X0_glassOnDesk F) sg_X0_glassOnDesk_0 L st S cs sl := rfl
theorem wn_X0_glassOnDesk_23 : wpN l G mi_X0_glassOnDesk Γ F sgs_X0_glassOnDesk (n + 1) 23 L st S cs sl = wp G Γ (mR mi_X0_glassOnDesk) (wpN l G mi_X0_glassOnDesk Γ F sgs_X0_glassOnDesk n) (EX mi_X0_glassOnDesk F) sg_X0_glassOnDesk_23 L st S cs sl := rfl
theorem wn_X0_glassOnDesk_24 : wpN l G mi_X0_glassOnDesk Γ F sgs_X0_glassOnDesk (n + 1) 24 L st S cs sl = wp G Γ (mR mi_X0_glassOnDesk) (wpN l G mi_X0_glassOnDesk Γ F sgs_X0_glassOnDesk n) (EX mi_X0_glassOnDesk F) sg_X0_glassOnDesk_24 L st S cs sl := rfl
theorem wn_X0_change_0 : wpN l G mi_X0_change Γ F sgs_X0_change (n + 1) 0 L st S cs sl = wp G Γ (mR mi_X0_change) (wpN l G mi_X0_change Γ F sgs_X0_change n) (EX mi_X0_change F) sg_X0_change_0 L st S cs sl := rfl
theorem wn_X0_change_9 : wpN l G mi_X0_change Γ F sgs_X0_change (n + 1) 9 L st S cs sl = wp G Γ (mR mi_X0_change) (wpN l G mi_X0_change Γ F sgs_X0_change n) (EX mi_X0_change F) sg_X0_change_9 L st S cs sl := rfl
theorem wn_X0_change_12 : wpN l G mi_X0_change Γ F sgs_X0_change (n + 1) 12 L st S cs sl = wp G Γ (mR mi_X0_change) (wpN l G mi_X0_change Γ F sgs_X0_change n) (EX mi_X0_change F) sg_X0_change_12 L st S cs sl := rfl
theorem wn_X0_change_30 : wpN l G mi_X0_change Γ F sgs_X0_change (n + 1) 30 L st S cs sl = wp G Γ (mR mi_X0_change) (wpN l G mi_X0_change Γ F sgs_X0_change n) (EX mi_X0_change F) sg_X0_change_30 L st S cs sl := rfl
theorem wn_X0_change_33 : wpN l G mi_X0_change Γ F sgs_X0_change (n + 1) 33 L st S cs sl = wp G Γ (mR mi_X0_change) (wpN l G mi_X0_change Γ F sgs_X0_change n) (EX mi_X0_change F) sg_X0_change_33 L st S cs sl := rfl
theorem wn_X0_addPlate_0 : wpN l G mi_X0_addPlate Γ F sgs_X0_addPlate (n + 1) 0 L st S cs sl = wp G Γ (mR mi_X0_addPlate) (wpN l G mi_X0_addPlate Γ F sgs_X0_addPlate n) (EX mi_X0_addPlate F) sg_X0_addPlate_0 L st S cs sl := rfl
theorem wn_X0_addPlate_11 : wpN l G mi_X0_addPlate Γ F sgs_X0_addPlate (n + 1) 11 L st S cs sl = wp G Γ (mR mi_X0_addPlate) (wpN l G mi_X0_addPlate Γ F sgs_X0_addPlate n) (EX mi_X0_addPlate F) sg_X0_addPlate_11 L st S cs sl := rfl
theorem wn_X0_layPlate_0 : wpN l G mi_X0_layPlate Γ F sgs_X0_layPlate (n + 1) 0 L st S cs sl = wp G Γ (mR mi_X0_layPlate) (wpN l G mi_X0_layPlate Γ F sgs_X0_layPlate n) (EX mi_X0_layPlate F) sg_X0_layPlate_0 L st S cs sl := rfl
theorem wn_X0_layPlate_10 : wpN l G mi_X0_layPlate Γ F sgs_X0_layPlate (n + 1) 10 L st S cs sl = wp G Γ (mR mi_X0_layPlate) (wpN l G mi_X0_layPlate Γ F sgs_X0_layPlate n) (EX mi_X0_layPlate F) sg_X0_layPlate_10 L st S cs sl := rfl
theorem wn_X0_layPlate_21 : wpN l G mi_X0_layPlate Γ F sgs_X0_layPlate (n + 1) 21 L st S cs sl = wp G Γ (mR mi_X0_layPlate) (wpN l G mi_X0_layPlate Γ F sgs_X0_layPlate n) (EX mi_X0_layPlate F) sg_X0_layPlate_21 L st S cs sl := rfl
theorem wn_X0_addWriter_0 : wpN l G mi_X0_addWriter Γ F sgs_X0_addWriter (n + 1) 0 L st S cs sl = wp G Γ (mR mi_X0_addWriter) (wpN l G mi_X0_addWriter Γ F sgs_X0_addWriter n) (EX mi_X0_addWriter F) sg_X0_addWriter_0 L st S cs sl := rfl
theorem wn_X0_addWriter_10 : wpN l G mi_X0_addWriter Γ F sgs_X0_addWriter (n + 1) 10 L st S cs sl = wp G Γ (mR mi_X0_addWriter) (wpN l G mi_X0_addWriter Γ F sgs_X0_addWriter n) (EX mi_X0_addWriter F) sg_X0_addWriter_10 L st S cs sl := rfl
theorem wn_X0_addWriter_13 : wpN l G mi_X0_addWriter Γ F sgs_X0_addWriter (n + 1) 13 L st S cs sl = wp G Γ (mR mi_X0_addWriter) (wpN l G mi_X0_addWriter Γ F sgs_X0_addWriter n) (EX mi_X0_addWriter F) sg_X0_addWriter_13 L st S cs sl := rfl
theorem wn_X0_addWriter_24 : wpN l G mi_X0_addWriter Γ F sgs_X0_addWriter (n + 1) 24 L st S cs sl = wp G Γ (mR mi_X0_addWriter) (wpN l G mi_X0_addWriter Γ F sgs_X0_addWriter n) (EX mi_X0_addWriter F) sg_X0_addWriter_24 L st S cs sl := rfl
theorem wn_X0_isEnough_0 : wpN l G mi_X0_isEnough Γ F sgs_X0_isEnough (n + 1) 0 L st S cs sl = wp G Γ (mR mi_X0_isEnough) (wpN l G mi_X0_isEnough Γ F sgs_X0_isEnough n) (EX mi_X0_isEnough F) sg_X0_isEnough_0 L st S cs sl := rfl
theorem wn_X0_isEnough_19 : wpN l G mi_X0_isEnough Γ F sgs_X0_isEnough (n + 1) 19 L st S cs sl = wp G Γ (mR mi_X0_isEnough) (wpN l G mi_X0_isEnough Γ F sgs_X0_isEnough n) (EX mi_X0_isEnough F) sg_X0_isEnough_19 L st S cs sl := rfl
theorem wn_X0_isEnough_20 : wpN l G mi_X0_isEnough Γ F sgs_X0_isEnough (n + 1) 20 L st S cs sl = wp G Γ (mR mi_X0_isEnough) (wpN l G mi_X0_isEnough Γ F sgs_X0_isEnough n) (EX mi_X0_isEnough F) sg_X0_isEnough_20 L st S cs sl := rfl
theorem wn_X0_canBeRead_0 : wpN l G mi_X0_canBeRead Γ F sgs_X0_canBeRead (n + 1) 0 L st S cs sl = wp G Γ (mR mi_X0_canBeRead) (wpN l G mi_X0_canBeRead Γ F sgs_X0_canBeRead n) (EX mi_X0_canBeRead F) sg_X0_canBeRead_0 L st S cs sl := rfl
theorem wn_X0_canBeRead_28 : wpN l G mi_X0_canBeRead Γ F sgs_X0_canBeRead (n + 1) 28 L st S cs sl = wp G Γ (mR mi_X0_canBeRead) (wpN l G mi_X0_canBeRead Γ F sgs_X0_canBeRead n) (EX mi_X0_canBeRead F) sg_X0_canBeRead_28 L st S cs sl := rfl
theorem wn_X0_canBeRead_29 : wpN l G mi_X0_canBeRead Γ F sgs_X0_canBeRead (n + 1) 29 L st S cs sl = wp G Γ (mR mi_X0_canBeRead) (wpN l G mi_X0_canBeRead Γ F sgs_X0_canBeRead n) (EX mi_X0_canBeRead F) sg_X0_canBeRead_29 L st S cs sl := rfl
theorem wn_X0_distance_0 : wpN l G mi_X0_distance Γ F sgs_X0_distance (n + 1) 0 L st S cs sl = wp G Γ (mR mi_X0_distance) (wpN l G mi_X0_distance Γ F sgs_X0_distance n) (EX mi_X0_distance F) sg_X0_distance_0 L st S cs sl := rfl
theorem wn_X0_dimmed_0 : wpN l G mi_X0_dimmed Γ F sgs_X0_dimmed (n + 1) 0 L st S cs sl = wp G Γ (mR mi_X0_dimmed) (wpN l G mi_X0_dimmed Γ F sgs_X0_dimmed n) (EX mi_X0_dimmed F) sg_X0_dimmed_0 L st S cs sl := rfl
theorem wn_X0_dimmed_19 : wpN l G mi_X0_dimmed Γ F sgs_X0_dimmed (n + 1) 19 L st S cs sl = wp G Γ (mR mi_X0_dimmed) (wpN l G mi_X0_dimmed Γ F sgs_X0_dimmed n) (EX mi_X0_dimmed F) sg_X0_dimmed_19 L st S cs sl := rfl
theorem wn_X0_dimmed_21 : wpN l G mi_X0_dimmed Γ F sgs_X0_dimmed (n + 1) 21 L st S cs sl = wp G Γ (mR mi_X0_dimmed) (wpN l G mi_X0_dimmed Γ F sgs_X0_dimmed n) (EX mi_X0_dimmed F) sg_X0_dimmed_21 L st S cs sl := rfl
theorem wn_X0_dimmed_34 : wpN l G mi_X0_dimmed Γ F sgs_X0_dimmed (n + 1) 34 L st S cs sl = wp G Γ (mR mi_X0_dimmed) (wpN l G mi_X0_dimmed Γ F sgs_X0_dimmed n) (EX mi_X0_dimmed F) sg_X0_dimmed_34 L st S cs sl := rfl
theorem wn_X0_dimmed_35 : wpN l G mi_X0_dimmed Γ F sgs_X0_dimmed (n + 1) 35 L st S cs sl = wp G Γ (mR mi_X0_dimmed) (wpN l G mi_X0_dimmed Γ F sgs_X0_dimmed n) (EX mi_X0_dimmed F) sg_X0_dimmed_35 L st S cs sl := rfl
theorem wn_X0_mark_0 : wpN l G mi_X0_mark Γ F sgs_X0_mark (n + 1) 0 L st S cs sl = wp G Γ (mR mi_X0_mark) (wpN l G mi_X0_mark Γ F sgs_X0_mark n) (EX mi_X0_mark F) sg_X0_mark_0 L st S cs sl := rfl
theorem wn_X0_mark_22 : wpN l G mi_X0_mark Γ F sgs_X0_mark (n + 1) 22 L st S cs sl = V l G mi_X0_mark F 22 L st S cs sl := rfl
theorem wn_X0_mark_41 : wpN l G mi_X0_mark Γ F sgs_X0_mark (n + 1) 41 L st S cs sl = V l G mi_X0_mark F 41 L st S cs sl := rfl
theorem wn_X0_mark_115 : wpN l G mi_X0_mark Γ F sgs_X0_mark (n + 1) 115 L st S cs sl = wp G Γ (mR mi_X0_mark) (wpN l G mi_X0_mark Γ F sgs_X0_mark n) (EX mi_X0_mark F) sg_X0_mark_115 L st S cs sl := rfl
theorem wn_X0_mark_121 : wpN l G mi_X0_mark Γ F sgs_X0_mark (n + 1) 121 L st S cs sl = wp G Γ (mR mi_X0_mark) (wpN l G mi_X0_mark Γ F sgs_X0_mark n) (EX mi_X0_mark F) sg_X0_mark_121 L st S cs sl := rfl
theorem wn_X0_mark_127 : wpN l G mi_X0_mark Γ F sgs_X0_mark (n + 1) 127 L st S cs sl = wp G Γ (mR mi_X0_mark) (wpN l G mi_X0_mark Γ F sgs_X0_mark n) (EX mi_X0_mark F) sg_X0_mark_127 L st S cs sl := rfl
theorem wn_X0_writeLetter_0 : wpN l G mi_X0_writeLetter Γ F sgs_X0_writeLetter (n + 1) 0 L st S cs sl = wp G Γ (mR mi_X0_writeLetter) (wpN l G mi_X0_writeLetter Γ F sgs_X0_writeLetter n) (EX mi_X0_writeLetter F) sg_X0_writeLetter_0 L st S cs sl := rfl
theorem wn_X0_writeLetter_27 : wpN l G mi_X0_writeLetter Γ F sgs_X0_writeLetter (n + 1) 27 L st S cs sl = wp G Γ (mR mi_X0_writeLetter) (wpN l G mi_X0_writeLetter Γ F sgs_X0_writeLetter n) (EX mi_X0_writeLetter F) sg_X0_writeLetter_27 L st S cs sl := rfl
theorem wn_X0_writeLetter_29 : wpN l G mi_X0_writeLetter Γ F sgs_X0_writeLetter (n + 1) 29 L st S cs sl = wp G Γ (mR mi_X0_writeLetter) (wpN l G mi_X0_writeLetter Γ F sgs_X0_writeLetter n) (EX mi_X0_writeLetter F) sg_X0_writeLetter_29 L st S cs sl := rfl
theorem wn_X0_writeLetter_41 : wpN l G mi_X0_writeLetter Γ F sgs_X0_writeLetter (n + 1) 41 L st S cs sl = wp G Γ (mR mi_X0_writeLetter) (wpN l G mi_X0_writeLetter Γ F sgs_X0_writeLetter n) (EX mi_X0_writeLetter F) sg_X0_writeLetter_41 L st S cs sl := rfl
theorem wn_X0_writeLetter_44 : wpN l G mi_X0_writeLetter Γ F sgs_X0_writeLetter (n + 1) 44 L st S cs sl = wp G Γ (mR mi_X0_writeLetter) (wpN l G mi_X0_writeLetter Γ F sgs_X0_writeLetter n) (EX mi_X0_writeLetter F) sg_X0_writeLetter_44 L st S cs sl := rfl
theorem wn_X0_writeLetter_90 : wpN l G mi_X0_writeLetter Γ F sgs_X0_writeLetter (n + 1) 90 L st S cs sl = wp G Γ (mR mi_X0_writeLetter) (wpN l G mi_X0_writeLetter Γ F sgs_X0_writeLetter n) (EX mi_X0_writeLetter F) sg_X0_writeLetter_90 L st S cs sl := rfl
theorem wn_X0_writeLetter_94 : wpN l G mi_X0_writeLetter Γ F sgs_X0_writeLetter (n + 1) 94 L st S cs sl = wp G Γ (mR mi_X0_writeLetter) (wpN l G mi_X0_writeLetter Γ F sgs_X0_writeLetter n) (EX mi_X0_writeLetter F) sg_X0_writeLetter_94 L st S cs sl := rfl
theorem wn_X0_writeLetter_95 : wpN l G mi_X0_writeLetter Γ F sgs_X0_writeLetter (n + 1) 95 L st S cs sl = wp G Γ (mR mi_X0_writeLetter) (wpN l G mi_X0_writeLetter Γ F sgs_X0_writeLetter n) (EX mi_X0_writeLetter F) sg_X0_writeLetter_95 L st S cs sl := rfl
theorem wn_X0_writeLetter_117 : wpN l G mi_X0_writeLetter Γ F sgs_X0_writeLetter (n + 1) 117 L st S cs sl = wp G Γ (mR mi_X0_writeLetter) (wpN l G mi_X0_writeLetter Γ F sgs_X0_writeLetter n) (EX mi_X0_writeLetter F) sg_X0_writeLetter_117 L st S cs sl := rfl
theorem wn_X0_writeLetter_120 : wpN l G mi_X0_writeLetter Γ F sgs_X0_writeLetter (n + 1) 120 L st S cs sl = wp G Γ (mR mi_X0_writeLetter) (wpN l G mi_X0_writeLetter Γ F sgs_X0_writeLetter n) (EX mi_X0_writeLetter F) sg_X0_writeLetter_120 L st S cs sl := rfl
theorem wn_X0_lightAhead_0 : wpN l G mi_X0_lightAhead Γ F sgs_X0_lightAhead (n + 1) 0 L st S cs sl = wp G Γ (mR mi_X0_lightAhead) (wpN l G mi_X0_lightAhead Γ F sgs_X0_lightAhead n) (EX mi_X0_lightAhead F) sg_X0_lightAhead_0 L st S cs sl := rfl
theorem wn_X0_lightAhead_25 : wpN l G mi_X0_lightAhead Γ F sgs_X0_lightAhead (n + 1) 25 L st S cs sl = V l G mi_X0_lightAhead F 25 L st S cs sl := rfl
theorem wn_X0_lightAhead_43 : wpN l G mi_X0_lightAhead Γ F sgs_X0_lightAhead (n + 1) 43 L st S cs sl = V l G mi_X0_lightAhead F 43 L st S cs sl := rfl
theorem wn_X0_lightAhead_98 : wpN l G mi_X0_lightAhead Γ F sgs_X0_lightAhead (n + 1) 98 L st S cs sl = wp G Γ (mR mi_X0_lightAhead) (wpN l G mi_X0_lightAhead Γ F sgs_X0_lightAhead n) (EX mi_X0_lightAhead F) sg_X0_lightAhead_98 L st S cs sl := rfl
theorem wn_X0_lightAhead_104 : wpN l G mi_X0_lightAhead Γ F sgs_X0_lightAhead (n + 1) 104 L st S cs sl = wp G Γ (mR mi_X0_lightAhead) (wpN l G mi_X0_lightAhead Γ F sgs_X0_lightAhead n) (EX mi_X0_lightAhead F) sg_X0_lightAhead_104 L st S cs sl := rfl
theorem wn_X0_lightAhead_110 : wpN l G mi_X0_lightAhead Γ F sgs_X0_lightAhead (n + 1) 110 L st S cs sl = wp G Γ (mR mi_X0_lightAhead) (wpN l G mi_X0_lightAhead Γ F sgs_X0_lightAhead n) (EX mi_X0_lightAhead F) sg_X0_lightAhead_110 L st S cs sl := rfl
theorem wn_X0_hasRoom_0 : wpN l G mi_X0_hasRoom Γ F sgs_X0_hasRoom (n + 1) 0 L st S cs sl = wp G Γ (mR mi_X0_hasRoom) (wpN l G mi_X0_hasRoom Γ F sgs_X0_hasRoom n) (EX mi_X0_hasRoom F) sg_X0_hasRoom_0 L st S cs sl := rfl
theorem wn_X0_hasRoom_25 : wpN l G mi_X0_hasRoom Γ F sgs_X0_hasRoom (n + 1) 25 L st S cs sl = wp G Γ (mR mi_X0_hasRoom) (wpN l G mi_X0_hasRoom Γ F sgs_X0_hasRoom n) (EX mi_X0_hasRoom F) sg_X0_hasRoom_25 L st S cs sl := rfl
theorem wn_X0_hasRoom_26 : wpN l G mi_X0_hasRoom Γ F sgs_X0_hasRoom (n + 1) 26 L st S cs sl = wp G Γ (mR mi_X0_hasRoom) (wpN l G mi_X0_hasRoom Γ F sgs_X0_hasRoom n) (EX mi_X0_hasRoom F) sg_X0_hasRoom_26 L st S cs sl := rfl
theorem wn_X0_promisePlace_0 : wpN l G mi_X0_promisePlace Γ F sgs_X0_promisePlace (n + 1) 0 L st S cs sl = wp G Γ (mR mi_X0_promisePlace) (wpN l G mi_X0_promisePlace Γ F sgs_X0_promisePlace n) (EX mi_X0_promisePlace F) sg_X0_promisePlace_0 L st S cs sl := rfl
theorem wn_X0_promisePlace_27 : wpN l G mi_X0_promisePlace Γ F sgs_X0_promisePlace (n + 1) 27 L st S cs sl = wp G Γ (mR mi_X0_promisePlace) (wpN l G mi_X0_promisePlace Γ F sgs_X0_promisePlace n) (EX mi_X0_promisePlace F) sg_X0_promisePlace_27 L st S cs sl := rfl
theorem wn_X0_promisePlace_29 : wpN l G mi_X0_promisePlace Γ F sgs_X0_promisePlace (n + 1) 29 L st S cs sl = wp G Γ (mR mi_X0_promisePlace) (wpN l G mi_X0_promisePlace Γ F sgs_X0_promisePlace n) (EX mi_X0_promisePlace F) sg_X0_promisePlace_29 L st S cs sl := rfl
theorem wn_X0_promisePlace_51 : wpN l G mi_X0_promisePlace Γ F sgs_X0_promisePlace (n + 1) 51 L st S cs sl = wp G Γ (mR mi_X0_promisePlace) (wpN l G mi_X0_promisePlace Γ F sgs_X0_promisePlace n) (EX mi_X0_promisePlace F) sg_X0_promisePlace_51 L st S cs sl := rfl
theorem wn_X0_takePromiseBack_0 : wpN l G mi_X0_takePromiseBack Γ F sgs_X0_takePromiseBack (n + 1) 0 L st S cs sl = wp G Γ (mR mi_X0_takePromiseBack) (wpN l G mi_X0_takePromiseBack Γ F sgs_X0_takePromiseBack n) (EX mi_X0_takePromiseBack F) sg_X0_takePromiseBack_0 L st S cs sl := rfl
theorem wn_X0_takePromiseBack_17 : wpN l G mi_X0_takePromiseBack Γ F sgs_X0_takePromiseBack (n + 1) 17 L st S cs sl = wp G Γ (mR mi_X0_takePromiseBack) (wpN l G mi_X0_takePromiseBack Γ F sgs_X0_takePromiseBack n) (EX mi_X0_takePromiseBack F) sg_X0_takePromiseBack_17 L st S cs sl := rfl
theorem wn_X0_takePromiseBack_19 : wpN l G mi_X0_takePromiseBack Γ F sgs_X0_takePromiseBack (n + 1) 19 L st S cs sl = wp G Γ (mR mi_X0_takePromiseBack) (wpN l G mi_X0_takePromiseBack Γ F sgs_X0_takePromiseBack n) (EX mi_X0_takePromiseBack F) sg_X0_takePromiseBack_19 L st S cs sl := rfl
theorem wn_X0_takePromiseBack_46 : wpN l G mi_X0_takePromiseBack Γ F sgs_X0_takePromiseBack (n + 1) 46 L st S cs sl = wp G Γ (mR mi_X0_takePromiseBack) (wpN l G mi_X0_takePromiseBack Γ F sgs_X0_takePromiseBack n) (EX mi_X0_takePromiseBack F) sg_X0_takePromiseBack_46 L st S cs sl := rfl
theorem wn_X0_rubLetter_0 : wpN l G mi_X0_rubLetter Γ F sgs_X0_rubLetter (n + 1) 0 L st S cs sl = wp G Γ (mR mi_X0_rubLetter) (wpN l G mi_X0_rubLetter Γ F sgs_X0_rubLetter n) (EX mi_X0_rubLetter F) sg_X0_rubLetter_0 L st S cs sl := rfl
theorem wn_X0_rubLetter_17 : wpN l G mi_X0_rubLetter Γ F sgs_X0_rubLetter (n + 1) 17 L st S cs sl = wp G Γ (mR mi_X0_rubLetter) (wpN l G mi_X0_rubLetter Γ F sgs_X0_rubLetter n) (EX mi_X0_rubLetter F) sg_X0_rubLetter_17 L st S cs sl := rfl
theorem wn_X0_rubLetter_19 : wpN l G mi_X0_rubLetter Γ F sgs_X0_rubLetter (n + 1) 19 L st S cs sl = wp G Γ (mR mi_X0_rubLetter) (wpN l G mi_X0_rubLetter Γ F sgs_X0_rubLetter n) (EX mi_X0_rubLetter F) sg_X0_rubLetter_19 L st S cs sl := rfl
theorem wn_X0_rubLetter_46 : wpN l G mi_X0_rubLetter Γ F sgs_X0_rubLetter (n + 1) 46 L st S cs sl = wp G Γ (mR mi_X0_rubLetter) (wpN l G mi_X0_rubLetter Γ F sgs_X0_rubLetter n) (EX mi_X0_rubLetter F) sg_X0_rubLetter_46 L st S cs sl := rfl
theorem wn_X0_cleared_0 : wpN l G mi_X0_cleared Γ F sgs_X0_cleared (n + 1) 0 L st S cs sl = wp G Γ (mR mi_X0_cleared) (wpN l G mi_X0_cleared Γ F sgs_X0_cleared n) (EX mi_X0_cleared F) sg_X0_cleared_0 L st S cs sl := rfl
theorem wn_X0_clearedFor_0 : wpN l G mi_X0_clearedFor Γ F sgs_X0_clearedFor (n + 1) 0 L st S cs sl = wp G Γ (mR mi_X0_clearedFor) (wpN l G mi_X0_clearedFor Γ F sgs_X0_clearedFor n) (EX mi_X0_clearedFor F) sg_X0_clearedFor_0 L st S cs sl := rfl
theorem wn_X0_clearedFor_5 : wpN l G mi_X0_clearedFor Γ F sgs_X0_clearedFor (n + 1) 5 L st S cs sl = V l G mi_X0_clearedFor F 5 L st S cs sl := rfl
theorem wn_X0_clearedFor_27 : wpN l G mi_X0_clearedFor Γ F sgs_X0_clearedFor (n + 1) 27 L st S cs sl = wp G Γ (mR mi_X0_clearedFor) (wpN l G mi_X0_clearedFor Γ F sgs_X0_clearedFor n) (EX mi_X0_clearedFor F) sg_X0_clearedFor_27 L st S cs sl := rfl
theorem wn_X0_clearedFor_36 : wpN l G mi_X0_clearedFor Γ F sgs_X0_clearedFor (n + 1) 36 L st S cs sl = wp G Γ (mR mi_X0_clearedFor) (wpN l G mi_X0_clearedFor Γ F sgs_X0_clearedFor n) (EX mi_X0_clearedFor F) sg_X0_clearedFor_36 L st S cs sl := rfl
theorem wn_X0_clearFor_0 : wpN l G mi_X0_clearFor Γ F sgs_X0_clearFor (n + 1) 0 L st S cs sl = wp G Γ (mR mi_X0_clearFor) (wpN l G mi_X0_clearFor Γ F sgs_X0_clearFor n) (EX mi_X0_clearFor F) sg_X0_clearFor_0 L st S cs sl := rfl
theorem wn_X0_clearFor_2 : wpN l G mi_X0_clearFor Γ F sgs_X0_clearFor (n + 1) 2 L st S cs sl = V l G mi_X0_clearFor F 2 L st S cs sl := rfl
theorem wn_X0_clearFor_31 : wpN l G mi_X0_clearFor Γ F sgs_X0_clearFor (n + 1) 31 L st S cs sl = wp G Γ (mR mi_X0_clearFor) (wpN l G mi_X0_clearFor Γ F sgs_X0_clearFor n) (EX mi_X0_clearFor F) sg_X0_clearFor_31 L st S cs sl := rfl
theorem wn_X0_passHours_0 : wpN l G mi_X0_passHours Γ F sgs_X0_passHours (n + 1) 0 L st S cs sl = wp G Γ (mR mi_X0_passHours) (wpN l G mi_X0_passHours Γ F sgs_X0_passHours n) (EX mi_X0_passHours F) sg_X0_passHours_0 L st S cs sl := rfl
theorem wn_X0_passHours_11 : wpN l G mi_X0_passHours Γ F sgs_X0_passHours (n + 1) 11 L st S cs sl = wp G Γ (mR mi_X0_passHours) (wpN l G mi_X0_passHours Γ F sgs_X0_passHours n) (EX mi_X0_passHours F) sg_X0_passHours_11 L st S cs sl := rfl
theorem wn_X0_passHours_14 : wpN l G mi_X0_passHours Γ F sgs_X0_passHours (n + 1) 14 L st S cs sl = wp G Γ (mR mi_X0_passHours) (wpN l G mi_X0_passHours Γ F sgs_X0_passHours n) (EX mi_X0_passHours F) sg_X0_passHours_14 L st S cs sl := rfl
theorem wn_X0_passHours_29 : wpN l G mi_X0_passHours Γ F sgs_X0_passHours (n + 1) 29 L st S cs sl = wp G Γ (mR mi_X0_passHours) (wpN l G mi_X0_passHours Γ F sgs_X0_passHours n) (EX mi_X0_passHours F) sg_X0_passHours_29 L st S cs sl := rfl
theorem wn_X0_passHours_31 : wpN l G mi_X0_passHours Γ F sgs_X0_passHours (n + 1) 31 L st S cs sl = V l G mi_X0_passHours F 31 L st S cs sl := rfl
theorem wn_X0_passHours_58 : wpN l G mi_X0_passHours Γ F sgs_X0_passHours (n + 1) 58 L st S cs sl = wp G Γ (mR mi_X0_passHours) (wpN l G mi_X0_passHours Γ F sgs_X0_passHours n) (EX mi_X0_passHours F) sg_X0_passHours_58 L st S cs sl := rfl
theorem wn_X0_passHours_64 : wpN l G mi_X0_passHours Γ F sgs_X0_passHours (n + 1) 64 L st S cs sl = wp G Γ (mR mi_X0_passHours) (wpN l G mi_X0_passHours Γ F sgs_X0_passHours n) (EX mi_X0_passHours F) sg_X0_passHours_64 L st S cs sl := rfl
theorem wn_X0_hoursUntilEnough_0 : wpN l G mi_X0_hoursUntilEnough Γ F sgs_X0_hoursUntilEnough (n + 1) 0 L st S cs sl = wp G Γ (mR mi_X0_hoursUntilEnough) (wpN l G mi_X0_hoursUntilEnough Γ F sgs_X0_hoursUntilEnough n) (EX mi_X0_hoursUntilEnough F) sg_X0_hoursUntilEnough_0 L st S cs sl := rfl
theorem wn_X0_hoursUntilEnough_4 : wpN l G mi_X0_hoursUntilEnough Γ F sgs_X0_hoursUntilEnough (n + 1) 4 L st S cs sl = V l G mi_X0_hoursUntilEnough F 4 L st S cs sl := rfl
theorem wn_X0_hoursUntilEnough_31 : wpN l G mi_X0_hoursUntilEnough Γ F sgs_X0_hoursUntilEnough (n + 1) 31 L st S cs sl = wp G Γ (mR mi_X0_hoursUntilEnough) (wpN l G mi_X0_hoursUntilEnough Γ F sgs_X0_hoursUntilEnough n) (EX mi_X0_hoursUntilEnough F) sg_X0_hoursUntilEnough_31 L st S cs sl := rfl
theorem wn_X0_hoursUntilReadable_0 : wpN l G mi_X0_hoursUntilReadable Γ F sgs_X0_hoursUntilReadable (n + 1) 0 L st S cs sl = wp G Γ (mR mi_X0_hoursUntilReadable) (wpN l G mi_X0_hoursUntilReadable Γ F sgs_X0_hoursUntilReadable n) (EX mi_X0_hoursUntilReadable F) sg_X0_hoursUntilReadable_0 L st S cs sl := rfl
theorem wn_X0_hoursUntilReadable_4 : wpN l G mi_X0_hoursUntilReadable Γ F sgs_X0_hoursUntilReadable (n + 1) 4 L st S cs sl = V l G mi_X0_hoursUntilReadable F 4 L st S cs sl := rfl
theorem wn_X0_hoursUntilReadable_36 : wpN l G mi_X0_hoursUntilReadable Γ F sgs_X0_hoursUntilReadable (n + 1) 36 L st S cs sl = wp G Γ (mR mi_X0_hoursUntilReadable) (wpN l G mi_X0_hoursUntilReadable Γ F sgs_X0_hoursUntilReadable n) (EX mi_X0_hoursUntilReadable F) sg_X0_hoursUntilReadable_36 L st S cs sl := rfl
theorem wn_X0_hoursUntilReadable_42 : wpN l G mi_X0_hoursUntilReadable Γ F sgs_X0_hoursUntilReadable (n + 1) 42 L st S cs sl = wp G Γ (mR mi_X0_hoursUntilReadable) (wpN l G mi_X0_hoursUntilReadable Γ F sgs_X0_hoursUntilReadable n) (EX mi_X0_hoursUntilReadable F) sg_X0_hoursUntilReadable_42 L st S cs sl := rfl
theorem wn_X0_hoursUntilReadable_54 : wpN l G mi_X0_hoursUntilReadable Γ F sgs_X0_hoursUntilReadable (n + 1) 54 L st S cs sl = wp G Γ (mR mi_X0_hoursUntilReadable) (wpN l G mi_X0_hoursUntilReadable Γ F sgs_X0_hoursUntilReadable n) (EX mi_X0_hoursUntilReadable F) sg_X0_hoursUntilReadable_54 L st S cs sl := rfl
theorem wn_X0_hoursUntilReadable_55 : wpN l G mi_X0_hoursUntilReadable Γ F sgs_X0_hoursUntilReadable (n + 1) 55 L st S cs sl = wp G Γ (mR mi_X0_hoursUntilReadable) (wpN l G mi_X0_hoursUntilReadable Γ F sgs_X0_hoursUntilReadable n) (EX mi_X0_hoursUntilReadable F) sg_X0_hoursUntilReadable_55 L st S cs sl := rfl
theorem wn_X0_placeIs_0 : wpN l G mi_X0_placeIs Γ F sgs_X0_placeIs (n + 1) 0 L st S cs sl = wp G Γ (mR mi_X0_placeIs) (wpN l G mi_X0_placeIs Γ F sgs_X0_placeIs n) (EX mi_X0_placeIs F) sg_X0_placeIs_0 L st S cs sl := rfl
theorem wn_X0_placeIs_28 : wpN l G mi_X0_placeIs Γ F sgs_X0_placeIs (n + 1) 28 L st S cs sl = wp G Γ (mR mi_X0_placeIs) (wpN l G mi_X0_placeIs Γ F sgs_X0_placeIs n) (EX mi_X0_placeIs F) sg_X0_placeIs_28 L st S cs sl := rfl
theorem wn_X0_placeIs_43 : wpN l G mi_X0_placeIs Γ F sgs_X0_placeIs (n + 1) 43 L st S cs sl = wp G Γ (mR mi_X0_placeIs) (wpN l G mi_X0_placeIs Γ F sgs_X0_placeIs n) (EX mi_X0_placeIs F) sg_X0_placeIs_43 L st S cs sl := rfl
theorem wn_X0_placeIs_44 : wpN l G mi_X0_placeIs Γ F sgs_X0_placeIs (n + 1) 44 L st S cs sl = wp G Γ (mR mi_X0_placeIs) (wpN l G mi_X0_placeIs Γ F sgs_X0_placeIs n) (EX mi_X0_placeIs F) sg_X0_placeIs_44 L st S cs sl := rfl
theorem wn_X0_placeIs_45 : wpN l G mi_X0_placeIs Γ F sgs_X0_placeIs (n + 1) 45 L st S cs sl = wp G Γ (mR mi_X0_placeIs) (wpN l G mi_X0_placeIs Γ F sgs_X0_placeIs n) (EX mi_X0_placeIs F) sg_X0_placeIs_45 L st S cs sl := rfl
theorem wn_X0_placeIs_52 : wpN l G mi_X0_placeIs Γ F sgs_X0_placeIs (n + 1) 52 L st S cs sl = wp G Γ (mR mi_X0_placeIs) (wpN l G mi_X0_placeIs Γ F sgs_X0_placeIs n) (EX mi_X0_placeIs F) sg_X0_placeIs_52 L st S cs sl := rfl
theorem wn_X0_placeIs_67 : wpN l G mi_X0_placeIs Γ F sgs_X0_placeIs (n + 1) 67 L st S cs sl = wp G Γ (mR mi_X0_placeIs) (wpN l G mi_X0_placeIs Γ F sgs_X0_placeIs n) (EX mi_X0_placeIs F) sg_X0_placeIs_67 L st S cs sl := rfl
theorem wn_X0_placeIs_68 : wpN l G mi_X0_placeIs Γ F sgs_X0_placeIs (n + 1) 68 L st S cs sl = wp G Γ (mR mi_X0_placeIs) (wpN l G mi_X0_placeIs Γ F sgs_X0_placeIs n) (EX mi_X0_placeIs F) sg_X0_placeIs_68 L st S cs sl := rfl
theorem wn_X0_placeIs_69 : wpN l G mi_X0_placeIs Γ F sgs_X0_placeIs (n + 1) 69 L st S cs sl = wp G Γ (mR mi_X0_placeIs) (wpN l G mi_X0_placeIs Γ F sgs_X0_placeIs n) (EX mi_X0_placeIs F) sg_X0_placeIs_69 L st S cs sl := rfl
theorem wn_X0_placesThat_0 : wpN l G mi_X0_placesThat Γ F sgs_X0_placesThat (n + 1) 0 L st S cs sl = wp G Γ (mR mi_X0_placesThat) (wpN l G mi_X0_placesThat Γ F sgs_X0_placesThat n) (EX mi_X0_placesThat F) sg_X0_placesThat_0 L st S cs sl := rfl
theorem wn_X0_placesThat_5 : wpN l G mi_X0_placesThat Γ F sgs_X0_placesThat (n + 1) 5 L st S cs sl = V l G mi_X0_placesThat F 5 L st S cs sl := rfl
theorem wn_X0_placesThat_26 : wpN l G mi_X0_placesThat Γ F sgs_X0_placesThat (n + 1) 26 L st S cs sl = wp G Γ (mR mi_X0_placesThat) (wpN l G mi_X0_placesThat Γ F sgs_X0_placesThat n) (EX mi_X0_placesThat F) sg_X0_placesThat_26 L st S cs sl := rfl
theorem wn_X0_placesThat_32 : wpN l G mi_X0_placesThat Γ F sgs_X0_placesThat (n + 1) 32 L st S cs sl = wp G Γ (mR mi_X0_placesThat) (wpN l G mi_X0_placesThat Γ F sgs_X0_placesThat n) (EX mi_X0_placesThat F) sg_X0_placesThat_32 L st S cs sl := rfl
theorem wn_X0_placesOfWriter_0 : wpN l G mi_X0_placesOfWriter Γ F sgs_X0_placesOfWriter (n + 1) 0 L st S cs sl = wp G Γ (mR mi_X0_placesOfWriter) (wpN l G mi_X0_placesOfWriter Γ F sgs_X0_placesOfWriter n) (EX mi_X0_placesOfWriter F) sg_X0_placesOfWriter_0 L st S cs sl := rfl
theorem wn_X0_placesOfWriter_5 : wpN l G mi_X0_placesOfWriter Γ F sgs_X0_placesOfWriter (n + 1) 5 L st S cs sl = V l G mi_X0_placesOfWriter F 5 L st S cs sl := rfl
theorem wn_X0_placesOfWriter_26 : wpN l G mi_X0_placesOfWriter Γ F sgs_X0_placesOfWriter (n + 1) 26 L st S cs sl = V l G mi_X0_placesOfWriter F 26 L st S cs sl := rfl
theorem wn_X0_placesOfWriter_49 : wpN l G mi_X0_placesOfWriter Γ F sgs_X0_placesOfWriter (n + 1) 49 L st S cs sl = wp G Γ (mR mi_X0_placesOfWriter) (wpN l G mi_X0_placesOfWriter Γ F sgs_X0_placesOfWriter n) (EX mi_X0_placesOfWriter F) sg_X0_placesOfWriter_49 L st S cs sl := rfl
theorem wn_X0_placesOfWriter_57 : wpN l G mi_X0_placesOfWriter Γ F sgs_X0_placesOfWriter (n + 1) 57 L st S cs sl = wp G Γ (mR mi_X0_placesOfWriter) (wpN l G mi_X0_placesOfWriter Γ F sgs_X0_placesOfWriter n) (EX mi_X0_placesOfWriter F) sg_X0_placesOfWriter_57 L st S cs sl := rfl
theorem wn_X0_placesOfWriter_82 : wpN l G mi_X0_placesOfWriter Γ F sgs_X0_placesOfWriter (n + 1) 82 L st S cs sl = wp G Γ (mR mi_X0_placesOfWriter) (wpN l G mi_X0_placesOfWriter Γ F sgs_X0_placesOfWriter n) (EX mi_X0_placesOfWriter F) sg_X0_placesOfWriter_82 L st S cs sl := rfl
theorem wn_X0_placesOfWriter_88 : wpN l G mi_X0_placesOfWriter Γ F sgs_X0_placesOfWriter (n + 1) 88 L st S cs sl = wp G Γ (mR mi_X0_placesOfWriter) (wpN l G mi_X0_placesOfWriter Γ F sgs_X0_placesOfWriter n) (EX mi_X0_placesOfWriter F) sg_X0_placesOfWriter_88 L st S cs sl := rfl
theorem wn_X0_placesOfWriter_94 : wpN l G mi_X0_placesOfWriter Γ F sgs_X0_placesOfWriter (n + 1) 94 L st S cs sl = wp G Γ (mR mi_X0_placesOfWriter) (wpN l G mi_X0_placesOfWriter Γ F sgs_X0_placesOfWriter n) (EX mi_X0_placesOfWriter F) sg_X0_placesOfWriter_94 L st S cs sl := rfl
theorem wn_X2_init_0 : wpN l G mi_X2_init Γ F sgs_X2_init (n + 1) 0 L st S cs sl = wp G Γ (mR mi_X2_init) (wpN l G mi_X2_init Γ F sgs_X2_init n) (EX mi_X2_init F) sg_X2_init_0 L st S cs sl := rfl
theorem wn_X2_init_25 : wpN l G mi_X2_init Γ F sgs_X2_init (n + 1) 25 L st S cs sl = V l G mi_X2_init F 25 L st S cs sl := rfl
theorem wn_X2_init_50 : wpN l G mi_X2_init Γ F sgs_X2_init (n + 1) 50 L st S cs sl = wp G Γ (mR mi_X2_init) (wpN l G mi_X2_init Γ F sgs_X2_init n) (EX mi_X2_init F) sg_X2_init_50 L st S cs sl := rfl
theorem wn_X2_prepare_0 : wpN l G mi_X2_prepare Γ F sgs_X2_prepare (n + 1) 0 L st S cs sl = wp G Γ (mR mi_X2_prepare) (wpN l G mi_X2_prepare Γ F sgs_X2_prepare n) (EX mi_X2_prepare F) sg_X2_prepare_0 L st S cs sl := rfl
theorem wn_X2_keepUnlessError_0 : wpN l G mi_X2_keepUnlessError Γ F sgs_X2_keepUnlessError (n + 1) 0 L st S cs sl = wp G Γ (mR mi_X2_keepUnlessError) (wpN l G mi_X2_keepUnlessError Γ F sgs_X2_keepUnlessError n) (EX mi_X2_keepUnlessError F) sg_X2_keepUnlessError_0 L st S cs sl := rfl
theorem wn_X2_keepUnlessError_32 : wpN l G mi_X2_keepUnlessError Γ F sgs_X2_keepUnlessError (n + 1) 32 L st S cs sl = wp G Γ (mR mi_X2_keepUnlessError) (wpN l G mi_X2_keepUnlessError Γ F sgs_X2_keepUnlessError n) (EX mi_X2_keepUnlessError F) sg_X2_keepUnlessError_32 L st S cs sl := rfl
theorem wn_X2_takeBackInto_0 : wpN l G mi_X2_takeBackInto Γ F sgs_X2_takeBackInto (n + 1) 0 L st S cs sl = wp G Γ (mR mi_X2_takeBackInto) (wpN l G mi_X2_takeBackInto Γ F sgs_X2_takeBackInto n) (EX mi_X2_takeBackInto F) sg_X2_takeBackInto_0 L st S cs sl := rfl
theorem wn_X2_takeBackInto_10 : wpN l G mi_X2_takeBackInto Γ F sgs_X2_takeBackInto (n + 1) 10 L st S cs sl = wp G Γ (mR mi_X2_takeBackInto) (wpN l G mi_X2_takeBackInto Γ F sgs_X2_takeBackInto n) (EX mi_X2_takeBackInto F) sg_X2_takeBackInto_10 L st S cs sl := rfl
theorem wn_X5_init_0 : wpN l G mi_X5_init Γ F sgs_X5_init (n + 1) 0 L st S cs sl = wp G Γ (mR mi_X5_init) (wpN l G mi_X5_init Γ F sgs_X5_init n) (EX mi_X5_init F) sg_X5_init_0 L st S cs sl := rfl
theorem wn_X5_lettersSpoiled_0 : wpN l G mi_X5_lettersSpoiled Γ F sgs_X5_lettersSpoiled (n + 1) 0 L st S cs sl = wp G Γ (mR mi_X5_lettersSpoiled) (wpN l G mi_X5_lettersSpoiled Γ F sgs_X5_lettersSpoiled n) (EX mi_X5_lettersSpoiled F) sg_X5_lettersSpoiled_0 L st S cs sl := rfl
theorem wn_X5_promisesSpoiled_0 : wpN l G mi_X5_promisesSpoiled Γ F sgs_X5_promisesSpoiled (n + 1) 0 L st S cs sl = wp G Γ (mR mi_X5_promisesSpoiled) (wpN l G mi_X5_promisesSpoiled Γ F sgs_X5_promisesSpoiled n) (EX mi_X5_promisesSpoiled F) sg_X5_promisesSpoiled_0 L st S cs sl := rfl
theorem wn_X5_promisesSpoiled_27 : wpN l G mi_X5_promisesSpoiled Γ F sgs_X5_promisesSpoiled (n + 1) 27 L st S cs sl = V l G mi_X5_promisesSpoiled F 27 L st S cs sl := rfl
theorem wn_X5_promisesSpoiled_57 : wpN l G mi_X5_promisesSpoiled Γ F sgs_X5_promisesSpoiled (n + 1) 57 L st S cs sl = wp G Γ (mR mi_X5_promisesSpoiled) (wpN l G mi_X5_promisesSpoiled Γ F sgs_X5_promisesSpoiled n) (EX mi_X5_promisesSpoiled F) sg_X5_promisesSpoiled_57 L st S cs sl := rfl
theorem wn_X5_promisesSpoiled_58 : wpN l G mi_X5_promisesSpoiled Γ F sgs_X5_promisesSpoiled (n + 1) 58 L st S cs sl = wp G Γ (mR mi_X5_promisesSpoiled) (wpN l G mi_X5_promisesSpoiled Γ F sgs_X5_promisesSpoiled n) (EX mi_X5_promisesSpoiled F) sg_X5_promisesSpoiled_58 L st S cs sl := rfl
theorem wn_X5_promisesSpoiled_99 : wpN l G mi_X5_promisesSpoiled Γ F sgs_X5_promisesSpoiled (n + 1) 99 L st S cs sl = wp G Γ (mR mi_X5_promisesSpoiled) (wpN l G mi_X5_promisesSpoiled Γ F sgs_X5_promisesSpoiled n) (EX mi_X5_promisesSpoiled F) sg_X5_promisesSpoiled_99 L st S cs sl := rfl
theorem wn_X5_promisesSpoiled_105 : wpN l G mi_X5_promisesSpoiled Γ F sgs_X5_promisesSpoiled (n + 1) 105 L st S cs sl = wp G Γ (mR mi_X5_promisesSpoiled) (wpN l G mi_X5_promisesSpoiled Γ F sgs_X5_promisesSpoiled n) (EX mi_X5_promisesSpoiled F) sg_X5_promisesSpoiled_105 L st S cs sl := rfl
theorem wn_X5_roomLeft_0 : wpN l G mi_X5_roomLeft Γ F sgs_X5_roomLeft (n + 1) 0 L st S cs sl = wp G Γ (mR mi_X5_roomLeft) (wpN l G mi_X5_roomLeft Γ F sgs_X5_roomLeft n) (EX mi_X5_roomLeft F) sg_X5_roomLeft_0 L st S cs sl := rfl
theorem wn_X5_lookAhead_0 : wpN l G mi_X5_lookAhead Γ F sgs_X5_lookAhead (n + 1) 0 L st S cs sl = wp G Γ (mR mi_X5_lookAhead) (wpN l G mi_X5_lookAhead Γ F sgs_X5_lookAhead n) (EX mi_X5_lookAhead F) sg_X5_lookAhead_0 L st S cs sl := rfl
theorem wn_X5_lookAhead_3 : wpN l G mi_X5_lookAhead Γ F sgs_X5_lookAhead (n + 1) 3 L st S cs sl = V l G mi_X5_lookAhead F 3 L st S cs sl := rfl
theorem wn_X5_lookAhead_38 : wpN l G mi_X5_lookAhead Γ F sgs_X5_lookAhead (n + 1) 38 L st S cs sl = wp G Γ (mR mi_X5_lookAhead) (wpN l G mi_X5_lookAhead Γ F sgs_X5_lookAhead n) (EX mi_X5_lookAhead F) sg_X5_lookAhead_38 L st S cs sl := rfl
theorem wn_X5_lookAhead_44 : wpN l G mi_X5_lookAhead Γ F sgs_X5_lookAhead (n + 1) 44 L st S cs sl = wp G Γ (mR mi_X5_lookAhead) (wpN l G mi_X5_lookAhead Γ F sgs_X5_lookAhead n) (EX mi_X5_lookAhead F) sg_X5_lookAhead_44 L st S cs sl := rfl
theorem wn_X5_brightest_0 : wpN l G mi_X5_brightest Γ F sgs_X5_brightest (n + 1) 0 L st S cs sl = wp G Γ (mR mi_X5_brightest) (wpN l G mi_X5_brightest Γ F sgs_X5_brightest n) (EX mi_X5_brightest F) sg_X5_brightest_0 L st S cs sl := rfl
theorem wn_X5_brightest_8 : wpN l G mi_X5_brightest Γ F sgs_X5_brightest (n + 1) 8 L st S cs sl = V l G mi_X5_brightest F 8 L st S cs sl := rfl
theorem wn_X5_brightest_64 : wpN l G mi_X5_brightest Γ F sgs_X5_brightest (n + 1) 64 L st S cs sl = wp G Γ (mR mi_X5_brightest) (wpN l G mi_X5_brightest Γ F sgs_X5_brightest n) (EX mi_X5_brightest F) sg_X5_brightest_64 L st S cs sl := rfl
theorem wn_X5_brightest_70 : wpN l G mi_X5_brightest Γ F sgs_X5_brightest (n + 1) 70 L st S cs sl = wp G Γ (mR mi_X5_brightest) (wpN l G mi_X5_brightest Γ F sgs_X5_brightest n) (EX mi_X5_brightest F) sg_X5_brightest_70 L st S cs sl := rfl
theorem wn_X5_brightestOf_0 : wpN l G mi_X5_brightestOf Γ F sgs_X5_brightestOf (n + 1) 0 L st S cs sl = wp G Γ (mR mi_X5_brightestOf) (wpN l G mi_X5_brightestOf Γ F sgs_X5_brightestOf n) (EX mi_X5_brightestOf F) sg_X5_brightestOf_0 L st S cs sl := rfl
theorem wn_X5_lookAround_0 : wpN l G mi_X5_lookAround Γ F sgs_X5_lookAround (n + 1) 0 L st S cs sl = wp G Γ (mR mi_X5_lookAround) (wpN l G mi_X5_lookAround Γ F sgs_X5_lookAround n) (EX mi_X5_lookAround F) sg_X5_lookAround_0 L st S cs sl := rfl
theorem wn_X5_lookAround_17 : wpN l G mi_X5_lookAround Γ F sgs_X5_lookAround (n + 1) 17 L st S cs sl = V l G mi_X5_lookAround F 17 L st S cs sl := rfl
theorem wn_X5_lookAround_63 : wpN l G mi_X5_lookAround Γ F sgs_X5_lookAround (n + 1) 63 L st S cs sl = wp G Γ (mR mi_X5_lookAround) (wpN l G mi_X5_lookAround Γ F sgs_X5_lookAround n) (EX mi_X5_lookAround F) sg_X5_lookAround_63 L st S cs sl := rfl
theorem wn_X5_lettersUntilFull_0 : wpN l G mi_X5_lettersUntilFull Γ F sgs_X5_lettersUntilFull (n + 1) 0 L st S cs sl = wp G Γ (mR mi_X5_lettersUntilFull) (wpN l G mi_X5_lettersUntilFull Γ F sgs_X5_lettersUntilFull n) (EX mi_X5_lettersUntilFull F) sg_X5_lettersUntilFull_0 L st S cs sl := rfl
theorem wn_X5_lettersUntilFull_26 : wpN l G mi_X5_lettersUntilFull Γ F sgs_X5_lettersUntilFull (n + 1) 26 L st S cs sl = V l G mi_X5_lettersUntilFull F 26 L st S cs sl := rfl
theorem wn_X5_lettersUntilFull_73 : wpN l G mi_X5_lettersUntilFull Γ F sgs_X5_lettersUntilFull (n + 1) 73 L st S cs sl = wp G Γ (mR mi_X5_lettersUntilFull) (wpN l G mi_X5_lettersUntilFull Γ F sgs_X5_lettersUntilFull n) (EX mi_X5_lettersUntilFull F) sg_X5_lettersUntilFull_73 L st S cs sl := rfl
theorem wn_X6_isPlace_0 : wpN l G mi_X6_isPlace Γ F sgs_X6_isPlace (n + 1) 0 L st S cs sl = wp G Γ (mR mi_X6_isPlace) (wpN l G mi_X6_isPlace Γ F sgs_X6_isPlace n) (EX mi_X6_isPlace F) sg_X6_isPlace_0 L st S cs sl := rfl
theorem wn_X6_isPlace_24 : wpN l G mi_X6_isPlace Γ F sgs_X6_isPlace (n + 1) 24 L st S cs sl = wp G Γ (mR mi_X6_isPlace) (wpN l G mi_X6_isPlace Γ F sgs_X6_isPlace n) (EX mi_X6_isPlace F) sg_X6_isPlace_24 L st S cs sl := rfl
theorem wn_X6_isPlace_25 : wpN l G mi_X6_isPlace Γ F sgs_X6_isPlace (n + 1) 25 L st S cs sl = wp G Γ (mR mi_X6_isPlace) (wpN l G mi_X6_isPlace Γ F sgs_X6_isPlace n) (EX mi_X6_isPlace F) sg_X6_isPlace_25 L st S cs sl := rfl
theorem wn_X6_firstNear_0 : wpN l G mi_X6_firstNear Γ F sgs_X6_firstNear (n + 1) 0 L st S cs sl = wp G Γ (mR mi_X6_firstNear) (wpN l G mi_X6_firstNear Γ F sgs_X6_firstNear n) (EX mi_X6_firstNear F) sg_X6_firstNear_0 L st S cs sl := rfl
theorem wn_X6_lastNear_0 : wpN l G mi_X6_lastNear Γ F sgs_X6_lastNear (n + 1) 0 L st S cs sl = wp G Γ (mR mi_X6_lastNear) (wpN l G mi_X6_lastNear Γ F sgs_X6_lastNear n) (EX mi_X6_lastNear F) sg_X6_lastNear_0 L st S cs sl := rfl
theorem wn_X6_init_0 : wpN l G mi_X6_init Γ F sgs_X6_init (n + 1) 0 L st S cs sl = wp G Γ (mR mi_X6_init) (wpN l G mi_X6_init Γ F sgs_X6_init n) (EX mi_X6_init F) sg_X6_init_0 L st S cs sl := rfl
theorem wn_X6_init_65 : wpN l G mi_X6_init Γ F sgs_X6_init (n + 1) 65 L st S cs sl = V l G mi_X6_init F 65 L st S cs sl := rfl
theorem wn_X6_init_89 : wpN l G mi_X6_init Γ F sgs_X6_init (n + 1) 89 L st S cs sl = wp G Γ (mR mi_X6_init) (wpN l G mi_X6_init Γ F sgs_X6_init n) (EX mi_X6_init F) sg_X6_init_89 L st S cs sl := rfl
theorem wn_X6_set_0 : wpN l G mi_X6_set Γ F sgs_X6_set (n + 1) 0 L st S cs sl = wp G Γ (mR mi_X6_set) (wpN l G mi_X6_set Γ F sgs_X6_set n) (EX mi_X6_set F) sg_X6_set_0 L st S cs sl := rfl
theorem wn_X6_plate_0 : wpN l G mi_X6_plate Γ F sgs_X6_plate (n + 1) 0 L st S cs sl = wp G Γ (mR mi_X6_plate) (wpN l G mi_X6_plate Γ F sgs_X6_plate n) (EX mi_X6_plate F) sg_X6_plate_0 L st S cs sl := rfl
theorem wn_X6_lay_0 : wpN l G mi_X6_lay Γ F sgs_X6_lay (n + 1) 0 L st S cs sl = wp G Γ (mR mi_X6_lay) (wpN l G mi_X6_lay Γ F sgs_X6_lay n) (EX mi_X6_lay F) sg_X6_lay_0 L st S cs sl := rfl
theorem wn_X6_writer_0 : wpN l G mi_X6_writer Γ F sgs_X6_writer (n + 1) 0 L st S cs sl = wp G Γ (mR mi_X6_writer) (wpN l G mi_X6_writer Γ F sgs_X6_writer n) (EX mi_X6_writer F) sg_X6_writer_0 L st S cs sl := rfl
theorem wn_X6_write_0 : wpN l G mi_X6_write Γ F sgs_X6_write (n + 1) 0 L st S cs sl = wp G Γ (mR mi_X6_write) (wpN l G mi_X6_write Γ F sgs_X6_write n) (EX mi_X6_write F) sg_X6_write_0 L st S cs sl := rfl
theorem wn_X6_promise_0 : wpN l G mi_X6_promise Γ F sgs_X6_promise (n + 1) 0 L st S cs sl = wp G Γ (mR mi_X6_promise) (wpN l G mi_X6_promise Γ F sgs_X6_promise n) (EX mi_X6_promise F) sg_X6_promise_0 L st S cs sl := rfl
theorem wn_X6_takeBack_0 : wpN l G mi_X6_takeBack Γ F sgs_X6_takeBack (n + 1) 0 L st S cs sl = wp G Γ (mR mi_X6_takeBack) (wpN l G mi_X6_takeBack Γ F sgs_X6_takeBack n) (EX mi_X6_takeBack F) sg_X6_takeBack_0 L st S cs sl := rfl
theorem wn_X6_rub_0 : wpN l G mi_X6_rub Γ F sgs_X6_rub (n + 1) 0 L st S cs sl = wp G Γ (mR mi_X6_rub) (wpN l G mi_X6_rub Γ F sgs_X6_rub n) (EX mi_X6_rub F) sg_X6_rub_0 L st S cs sl := rfl
theorem wn_X6_pass_0 : wpN l G mi_X6_pass Γ F sgs_X6_pass (n + 1) 0 L st S cs sl = wp G Γ (mR mi_X6_pass) (wpN l G mi_X6_pass Γ F sgs_X6_pass n) (EX mi_X6_pass F) sg_X6_pass_0 L st S cs sl := rfl
theorem wn_X6_bitsOfFloat_0 : wpN l G mi_X6_bitsOfFloat Γ F sgs_X6_bitsOfFloat (n + 1) 0 L st S cs sl = wp G Γ (mR mi_X6_bitsOfFloat) (wpN l G mi_X6_bitsOfFloat Γ F sgs_X6_bitsOfFloat n) (EX mi_X6_bitsOfFloat F) sg_X6_bitsOfFloat_0 L st S cs sl := rfl
theorem wn_X6_bitsOfFloat_5 : wpN l G mi_X6_bitsOfFloat Γ F sgs_X6_bitsOfFloat (n + 1) 5 L st S cs sl = V l G mi_X6_bitsOfFloat F 5 L st S cs sl := rfl
theorem wn_X6_bitsOfFloat_29 : wpN l G mi_X6_bitsOfFloat Γ F sgs_X6_bitsOfFloat (n + 1) 29 L st S cs sl = V l G mi_X6_bitsOfFloat F 29 L st S cs sl := rfl
theorem wn_X6_bitsOfFloat_55 : wpN l G mi_X6_bitsOfFloat Γ F sgs_X6_bitsOfFloat (n + 1) 55 L st S cs sl = wp G Γ (mR mi_X6_bitsOfFloat) (wpN l G mi_X6_bitsOfFloat Γ F sgs_X6_bitsOfFloat n) (EX mi_X6_bitsOfFloat F) sg_X6_bitsOfFloat_55 L st S cs sl := rfl
theorem wn_X6_bitsOfFloat_68 : wpN l G mi_X6_bitsOfFloat Γ F sgs_X6_bitsOfFloat (n + 1) 68 L st S cs sl = wp G Γ (mR mi_X6_bitsOfFloat) (wpN l G mi_X6_bitsOfFloat Γ F sgs_X6_bitsOfFloat n) (EX mi_X6_bitsOfFloat F) sg_X6_bitsOfFloat_68 L st S cs sl := rfl
theorem wn_X6_at_0 : wpN l G mi_X6_at Γ F sgs_X6_at (n + 1) 0 L st S cs sl = wp G Γ (mR mi_X6_at) (wpN l G mi_X6_at Γ F sgs_X6_at n) (EX mi_X6_at F) sg_X6_at_0 L st S cs sl := rfl
theorem wn_X6_at_22 : wpN l G mi_X6_at Γ F sgs_X6_at (n + 1) 22 L st S cs sl = wp G Γ (mR mi_X6_at) (wpN l G mi_X6_at Γ F sgs_X6_at n) (EX mi_X6_at F) sg_X6_at_22 L st S cs sl := rfl
theorem wn_X6_at_24 : wpN l G mi_X6_at Γ F sgs_X6_at (n + 1) 24 L st S cs sl = wp G Γ (mR mi_X6_at) (wpN l G mi_X6_at Γ F sgs_X6_at n) (EX mi_X6_at F) sg_X6_at_24 L st S cs sl := rfl
theorem wn_X6_at_76 : wpN l G mi_X6_at Γ F sgs_X6_at (n + 1) 76 L st S cs sl = wp G Γ (mR mi_X6_at) (wpN l G mi_X6_at Γ F sgs_X6_at n) (EX mi_X6_at F) sg_X6_at_76 L st S cs sl := rfl
theorem wn_X6_at_85 : wpN l G mi_X6_at Γ F sgs_X6_at (n + 1) 85 L st S cs sl = wp G Γ (mR mi_X6_at) (wpN l G mi_X6_at Γ F sgs_X6_at n) (EX mi_X6_at F) sg_X6_at_85 L st S cs sl := rfl
theorem wn_X6_at_94 : wpN l G mi_X6_at Γ F sgs_X6_at (n + 1) 94 L st S cs sl = wp G Γ (mR mi_X6_at) (wpN l G mi_X6_at Γ F sgs_X6_at n) (EX mi_X6_at F) sg_X6_at_94 L st S cs sl := rfl
theorem wn_X6_at_103 : wpN l G mi_X6_at Γ F sgs_X6_at (n + 1) 103 L st S cs sl = wp G Γ (mR mi_X6_at) (wpN l G mi_X6_at Γ F sgs_X6_at n) (EX mi_X6_at F) sg_X6_at_103 L st S cs sl := rfl
theorem wn_X6_at_115 : wpN l G mi_X6_at Γ F sgs_X6_at (n + 1) 115 L st S cs sl = wp G Γ (mR mi_X6_at) (wpN l G mi_X6_at Γ F sgs_X6_at n) (EX mi_X6_at F) sg_X6_at_115 L st S cs sl := rfl
theorem wn_X6_at_130 : wpN l G mi_X6_at Γ F sgs_X6_at (n + 1) 130 L st S cs sl = wp G Γ (mR mi_X6_at) (wpN l G mi_X6_at Γ F sgs_X6_at n) (EX mi_X6_at F) sg_X6_at_130 L st S cs sl := rfl
theorem wn_X6_at_148 : wpN l G mi_X6_at Γ F sgs_X6_at (n + 1) 148 L st S cs sl = wp G Γ (mR mi_X6_at) (wpN l G mi_X6_at Γ F sgs_X6_at n) (EX mi_X6_at F) sg_X6_at_148 L st S cs sl := rfl
theorem wn_X6_at_149 : wpN l G mi_X6_at Γ F sgs_X6_at (n + 1) 149 L st S cs sl = wp G Γ (mR mi_X6_at) (wpN l G mi_X6_at Γ F sgs_X6_at n) (EX mi_X6_at F) sg_X6_at_149 L st S cs sl := rfl
theorem wn_X6_at_150 : wpN l G mi_X6_at Γ F sgs_X6_at (n + 1) 150 L st S cs sl = wp G Γ (mR mi_X6_at) (wpN l G mi_X6_at Γ F sgs_X6_at n) (EX mi_X6_at F) sg_X6_at_150 L st S cs sl := rfl
theorem wn_X6_at_168 : wpN l G mi_X6_at Γ F sgs_X6_at (n + 1) 168 L st S cs sl = wp G Γ (mR mi_X6_at) (wpN l G mi_X6_at Γ F sgs_X6_at n) (EX mi_X6_at F) sg_X6_at_168 L st S cs sl := rfl
theorem wn_X6_at_169 : wpN l G mi_X6_at Γ F sgs_X6_at (n + 1) 169 L st S cs sl = wp G Γ (mR mi_X6_at) (wpN l G mi_X6_at Γ F sgs_X6_at n) (EX mi_X6_at F) sg_X6_at_169 L st S cs sl := rfl
theorem wn_X6_at_170 : wpN l G mi_X6_at Γ F sgs_X6_at (n + 1) 170 L st S cs sl = wp G Γ (mR mi_X6_at) (wpN l G mi_X6_at Γ F sgs_X6_at n) (EX mi_X6_at F) sg_X6_at_170 L st S cs sl := rfl
theorem wn_X6_columnsThat_0 : wpN l G mi_X6_columnsThat Γ F sgs_X6_columnsThat (n + 1) 0 L st S cs sl = wp G Γ (mR mi_X6_columnsThat) (wpN l G mi_X6_columnsThat Γ F sgs_X6_columnsThat n) (EX mi_X6_columnsThat F) sg_X6_columnsThat_0 L st S cs sl := rfl
theorem wn_X6_columnsThat_6 : wpN l G mi_X6_columnsThat Γ F sgs_X6_columnsThat (n + 1) 6 L st S cs sl = V l G mi_X6_columnsThat F 6 L st S cs sl := rfl
theorem wn_X6_columnsThat_41 : wpN l G mi_X6_columnsThat Γ F sgs_X6_columnsThat (n + 1) 41 L st S cs sl = wp G Γ (mR mi_X6_columnsThat) (wpN l G mi_X6_columnsThat Γ F sgs_X6_columnsThat n) (EX mi_X6_columnsThat F) sg_X6_columnsThat_41 L st S cs sl := rfl
theorem wn_X6_columnsThat_47 : wpN l G mi_X6_columnsThat Γ F sgs_X6_columnsThat (n + 1) 47 L st S cs sl = wp G Γ (mR mi_X6_columnsThat) (wpN l G mi_X6_columnsThat Γ F sgs_X6_columnsThat n) (EX mi_X6_columnsThat F) sg_X6_columnsThat_47 L st S cs sl := rfl
theorem wn_X6_longestRun_0 : wpN l G mi_X6_longestRun Γ F sgs_X6_longestRun (n + 1) 0 L st S cs sl = wp G Γ (mR mi_X6_longestRun) (wpN l G mi_X6_longestRun Γ F sgs_X6_longestRun n) (EX mi_X6_longestRun F) sg_X6_longestRun_0 L st S cs sl := rfl
theorem wn_X6_longestRun_6 : wpN l G mi_X6_longestRun Γ F sgs_X6_longestRun (n + 1) 6 L st S cs sl = V l G mi_X6_longestRun F 6 L st S cs sl := rfl
theorem wn_X6_longestRun_27 : wpN l G mi_X6_longestRun Γ F sgs_X6_longestRun (n + 1) 27 L st S cs sl = wp G Γ (mR mi_X6_longestRun) (wpN l G mi_X6_longestRun Γ F sgs_X6_longestRun n) (EX mi_X6_longestRun F) sg_X6_longestRun_27 L st S cs sl := rfl
theorem wn_X6_longestRun_28 : wpN l G mi_X6_longestRun Γ F sgs_X6_longestRun (n + 1) 28 L st S cs sl = wp G Γ (mR mi_X6_longestRun) (wpN l G mi_X6_longestRun Γ F sgs_X6_longestRun n) (EX mi_X6_longestRun F) sg_X6_longestRun_28 L st S cs sl := rfl
theorem wn_X6_longestRun_41 : wpN l G mi_X6_longestRun Γ F sgs_X6_longestRun (n + 1) 41 L st S cs sl = wp G Γ (mR mi_X6_longestRun) (wpN l G mi_X6_longestRun Γ F sgs_X6_longestRun n) (EX mi_X6_longestRun F) sg_X6_longestRun_41 L st S cs sl := rfl
theorem wn_X6_row_0 : wpN l G mi_X6_row Γ F sgs_X6_row (n + 1) 0 L st S cs sl = wp G Γ (mR mi_X6_row) (wpN l G mi_X6_row Γ F sgs_X6_row n) (EX mi_X6_row F) sg_X6_row_0 L st S cs sl := rfl
theorem wn_X6_row_22 : wpN l G mi_X6_row Γ F sgs_X6_row (n + 1) 22 L st S cs sl = wp G Γ (mR mi_X6_row) (wpN l G mi_X6_row Γ F sgs_X6_row n) (EX mi_X6_row F) sg_X6_row_22 L st S cs sl := rfl
theorem wn_X6_row_24 : wpN l G mi_X6_row Γ F sgs_X6_row (n + 1) 24 L st S cs sl = wp G Γ (mR mi_X6_row) (wpN l G mi_X6_row Γ F sgs_X6_row n) (EX mi_X6_row F) sg_X6_row_24 L st S cs sl := rfl
theorem wn_X6_row_60 : wpN l G mi_X6_row Γ F sgs_X6_row (n + 1) 60 L st S cs sl = wp G Γ (mR mi_X6_row) (wpN l G mi_X6_row Γ F sgs_X6_row n) (EX mi_X6_row F) sg_X6_row_60 L st S cs sl := rfl
theorem wn_X6_row_68 : wpN l G mi_X6_row Γ F sgs_X6_row (n + 1) 68 L st S cs sl = wp G Γ (mR mi_X6_row) (wpN l G mi_X6_row Γ F sgs_X6_row n) (EX mi_X6_row F) sg_X6_row_68 L st S cs sl := rfl
theorem wn_X6_row_79 : wpN l G mi_X6_row Γ F sgs_X6_row (n + 1) 79 L st S cs sl = wp G Γ (mR mi_X6_row) (wpN l G mi_X6_row Γ F sgs_X6_row n) (EX mi_X6_row F) sg_X6_row_79 L st S cs sl := rfl
theorem wn_X6_of_0 : wpN l G mi_X6_of Γ F sgs_X6_of (n + 1) 0 L st S cs sl = wp G Γ (mR mi_X6_of) (wpN l G mi_X6_of Γ F sgs_X6_of n) (EX mi_X6_of F) sg_X6_of_0 L st S cs sl := rfl
theorem wn_X6_of_13 : wpN l G mi_X6_of Γ F sgs_X6_of (n + 1) 13 L st S cs sl = wp G Γ (mR mi_X6_of) (wpN l G mi_X6_of Γ F sgs_X6_of n) (EX mi_X6_of F) sg_X6_of_13 L st S cs sl := rfl
theorem wn_X6_of_52 : wpN l G mi_X6_of Γ F sgs_X6_of (n + 1) 52 L st S cs sl = wp G Γ (mR mi_X6_of) (wpN l G mi_X6_of Γ F sgs_X6_of n) (EX mi_X6_of F) sg_X6_of_52 L st S cs sl := rfl
theorem wn_X6_of_62 : wpN l G mi_X6_of Γ F sgs_X6_of (n + 1) 62 L st S cs sl = wp G Γ (mR mi_X6_of) (wpN l G mi_X6_of Γ F sgs_X6_of n) (EX mi_X6_of F) sg_X6_of_62 L st S cs sl := rfl
theorem wn_X6_of_72 : wpN l G mi_X6_of Γ F sgs_X6_of (n + 1) 72 L st S cs sl = wp G Γ (mR mi_X6_of) (wpN l G mi_X6_of Γ F sgs_X6_of n) (EX mi_X6_of F) sg_X6_of_72 L st S cs sl := rfl
theorem wn_X6_of_82 : wpN l G mi_X6_of Γ F sgs_X6_of (n + 1) 82 L st S cs sl = wp G Γ (mR mi_X6_of) (wpN l G mi_X6_of Γ F sgs_X6_of n) (EX mi_X6_of F) sg_X6_of_82 L st S cs sl := rfl
theorem wn_X6_of_92 : wpN l G mi_X6_of Γ F sgs_X6_of (n + 1) 92 L st S cs sl = wp G Γ (mR mi_X6_of) (wpN l G mi_X6_of Γ F sgs_X6_of n) (EX mi_X6_of F) sg_X6_of_92 L st S cs sl := rfl
theorem wn_X6_ofPlate_0 : wpN l G mi_X6_ofPlate Γ F sgs_X6_ofPlate (n + 1) 0 L st S cs sl = wp G Γ (mR mi_X6_ofPlate) (wpN l G mi_X6_ofPlate Γ F sgs_X6_ofPlate n) (EX mi_X6_ofPlate F) sg_X6_ofPlate_0 L st S cs sl := rfl
theorem wn_X6_ofPlate_13 : wpN l G mi_X6_ofPlate Γ F sgs_X6_ofPlate (n + 1) 13 L st S cs sl = wp G Γ (mR mi_X6_ofPlate) (wpN l G mi_X6_ofPlate Γ F sgs_X6_ofPlate n) (EX mi_X6_ofPlate F) sg_X6_ofPlate_13 L st S cs sl := rfl
theorem wn_X6_ofPlate_64 : wpN l G mi_X6_ofPlate Γ F sgs_X6_ofPlate (n + 1) 64 L st S cs sl = wp G Γ (mR mi_X6_ofPlate) (wpN l G mi_X6_ofPlate Γ F sgs_X6_ofPlate n) (EX mi_X6_ofPlate F) sg_X6_ofPlate_64 L st S cs sl := rfl
theorem wn_X6_ofPlate_74 : wpN l G mi_X6_ofPlate Γ F sgs_X6_ofPlate (n + 1) 74 L st S cs sl = wp G Γ (mR mi_X6_ofPlate) (wpN l G mi_X6_ofPlate Γ F sgs_X6_ofPlate n) (EX mi_X6_ofPlate F) sg_X6_ofPlate_74 L st S cs sl := rfl
theorem wn_X6_ofPlate_82 : wpN l G mi_X6_ofPlate Γ F sgs_X6_ofPlate (n + 1) 82 L st S cs sl = wp G Γ (mR mi_X6_ofPlate) (wpN l G mi_X6_ofPlate Γ F sgs_X6_ofPlate n) (EX mi_X6_ofPlate F) sg_X6_ofPlate_82 L st S cs sl := rfl
theorem wn_X6_ofPlate_90 : wpN l G mi_X6_ofPlate Γ F sgs_X6_ofPlate (n + 1) 90 L st S cs sl = wp G Γ (mR mi_X6_ofPlate) (wpN l G mi_X6_ofPlate Γ F sgs_X6_ofPlate n) (EX mi_X6_ofPlate F) sg_X6_ofPlate_90 L st S cs sl := rfl
theorem wn_X6_count_0 : wpN l G mi_X6_count Γ F sgs_X6_count (n + 1) 0 L st S cs sl = wp G Γ (mR mi_X6_count) (wpN l G mi_X6_count Γ F sgs_X6_count n) (EX mi_X6_count F) sg_X6_count_0 L st S cs sl := rfl
theorem wn_X6_count_56 : wpN l G mi_X6_count Γ F sgs_X6_count (n + 1) 56 L st S cs sl = wp G Γ (mR mi_X6_count) (wpN l G mi_X6_count Γ F sgs_X6_count n) (EX mi_X6_count F) sg_X6_count_56 L st S cs sl := rfl
theorem wn_X6_count_64 : wpN l G mi_X6_count Γ F sgs_X6_count (n + 1) 64 L st S cs sl = wp G Γ (mR mi_X6_count) (wpN l G mi_X6_count Γ F sgs_X6_count n) (EX mi_X6_count F) sg_X6_count_64 L st S cs sl := rfl
theorem wn_X6_count_72 : wpN l G mi_X6_count Γ F sgs_X6_count (n + 1) 72 L st S cs sl = wp G Γ (mR mi_X6_count) (wpN l G mi_X6_count Γ F sgs_X6_count n) (EX mi_X6_count F) sg_X6_count_72 L st S cs sl := rfl
theorem wn_X6_count_80 : wpN l G mi_X6_count Γ F sgs_X6_count (n + 1) 80 L st S cs sl = wp G Γ (mR mi_X6_count) (wpN l G mi_X6_count Γ F sgs_X6_count n) (EX mi_X6_count F) sg_X6_count_80 L st S cs sl := rfl
theorem wn_X6_count_88 : wpN l G mi_X6_count Γ F sgs_X6_count (n + 1) 88 L st S cs sl = wp G Γ (mR mi_X6_count) (wpN l G mi_X6_count Γ F sgs_X6_count n) (EX mi_X6_count F) sg_X6_count_88 L st S cs sl := rfl
theorem wn_X6_count_100 : wpN l G mi_X6_count Γ F sgs_X6_count (n + 1) 100 L st S cs sl = wp G Γ (mR mi_X6_count) (wpN l G mi_X6_count Γ F sgs_X6_count n) (EX mi_X6_count F) sg_X6_count_100 L st S cs sl := rfl
theorem wn_X6_count_111 : wpN l G mi_X6_count Γ F sgs_X6_count (n + 1) 111 L st S cs sl = wp G Γ (mR mi_X6_count) (wpN l G mi_X6_count Γ F sgs_X6_count n) (EX mi_X6_count F) sg_X6_count_111 L st S cs sl := rfl
theorem wn_X6_count_119 : wpN l G mi_X6_count Γ F sgs_X6_count (n + 1) 119 L st S cs sl = wp G Γ (mR mi_X6_count) (wpN l G mi_X6_count Γ F sgs_X6_count n) (EX mi_X6_count F) sg_X6_count_119 L st S cs sl := rfl
theorem wn_X6_bitsOfMean_0 : wpN l G mi_X6_bitsOfMean Γ F sgs_X6_bitsOfMean (n + 1) 0 L st S cs sl = wp G Γ (mR mi_X6_bitsOfMean) (wpN l G mi_X6_bitsOfMean Γ F sgs_X6_bitsOfMean n) (EX mi_X6_bitsOfMean F) sg_X6_bitsOfMean_0 L st S cs sl := rfl
theorem wn_X6_bitsOfMean_5 : wpN l G mi_X6_bitsOfMean Γ F sgs_X6_bitsOfMean (n + 1) 5 L st S cs sl = V l G mi_X6_bitsOfMean F 5 L st S cs sl := rfl
theorem wn_X6_bitsOfMean_31 : wpN l G mi_X6_bitsOfMean Γ F sgs_X6_bitsOfMean (n + 1) 31 L st S cs sl = wp G Γ (mR mi_X6_bitsOfMean) (wpN l G mi_X6_bitsOfMean Γ F sgs_X6_bitsOfMean n) (EX mi_X6_bitsOfMean F) sg_X6_bitsOfMean_31 L st S cs sl := rfl
theorem wn_X6_bitsOfMean_44 : wpN l G mi_X6_bitsOfMean Γ F sgs_X6_bitsOfMean (n + 1) 44 L st S cs sl = wp G Γ (mR mi_X6_bitsOfMean) (wpN l G mi_X6_bitsOfMean Γ F sgs_X6_bitsOfMean n) (EX mi_X6_bitsOfMean F) sg_X6_bitsOfMean_44 L st S cs sl := rfl
theorem wn_X6_mean_0 : wpN l G mi_X6_mean Γ F sgs_X6_mean (n + 1) 0 L st S cs sl = wp G Γ (mR mi_X6_mean) (wpN l G mi_X6_mean Γ F sgs_X6_mean n) (EX mi_X6_mean F) sg_X6_mean_0 L st S cs sl := rfl
theorem wn_X6_mean_14 : wpN l G mi_X6_mean Γ F sgs_X6_mean (n + 1) 14 L st S cs sl = wp G Γ (mR mi_X6_mean) (wpN l G mi_X6_mean Γ F sgs_X6_mean n) (EX mi_X6_mean F) sg_X6_mean_14 L st S cs sl := rfl
theorem wn_X6_mean_19 : wpN l G mi_X6_mean Γ F sgs_X6_mean (n + 1) 19 L st S cs sl = V l G mi_X6_mean F 19 L st S cs sl := rfl
theorem wn_X6_mean_43 : wpN l G mi_X6_mean Γ F sgs_X6_mean (n + 1) 43 L st S cs sl = wp G Γ (mR mi_X6_mean) (wpN l G mi_X6_mean Γ F sgs_X6_mean n) (EX mi_X6_mean F) sg_X6_mean_43 L st S cs sl := rfl
theorem wn_X6_ifWritten_0 : wpN l G mi_X6_ifWritten Γ F sgs_X6_ifWritten (n + 1) 0 L st S cs sl = wp G Γ (mR mi_X6_ifWritten) (wpN l G mi_X6_ifWritten Γ F sgs_X6_ifWritten n) (EX mi_X6_ifWritten F) sg_X6_ifWritten_0 L st S cs sl := rfl
theorem wn_X6_ifWritten_33 : wpN l G mi_X6_ifWritten Γ F sgs_X6_ifWritten (n + 1) 33 L st S cs sl = wp G Γ (mR mi_X6_ifWritten) (wpN l G mi_X6_ifWritten Γ F sgs_X6_ifWritten n) (EX mi_X6_ifWritten F) sg_X6_ifWritten_33 L st S cs sl := rfl
theorem wn_X6_ifWritten_35 : wpN l G mi_X6_ifWritten Γ F sgs_X6_ifWritten (n + 1) 35 L st S cs sl = wp G Γ (mR mi_X6_ifWritten) (wpN l G mi_X6_ifWritten Γ F sgs_X6_ifWritten n) (EX mi_X6_ifWritten F) sg_X6_ifWritten_35 L st S cs sl := rfl
theorem wn_X6_ifWritten_72 : wpN l G mi_X6_ifWritten Γ F sgs_X6_ifWritten (n + 1) 72 L st S cs sl = wp G Γ (mR mi_X6_ifWritten) (wpN l G mi_X6_ifWritten Γ F sgs_X6_ifWritten n) (EX mi_X6_ifWritten F) sg_X6_ifWritten_72 L st S cs sl := rfl
theorem wn_X6_ifWritten_89 : wpN l G mi_X6_ifWritten Γ F sgs_X6_ifWritten (n + 1) 89 L st S cs sl = wp G Γ (mR mi_X6_ifWritten) (wpN l G mi_X6_ifWritten Γ F sgs_X6_ifWritten n) (EX mi_X6_ifWritten F) sg_X6_ifWritten_89 L st S cs sl := rfl
theorem wn_X6_ifWritten_106 : wpN l G mi_X6_ifWritten Γ F sgs_X6_ifWritten (n + 1) 106 L st S cs sl = wp G Γ (mR mi_X6_ifWritten) (wpN l G mi_X6_ifWritten Γ F sgs_X6_ifWritten n) (EX mi_X6_ifWritten F) sg_X6_ifWritten_106 L st S cs sl := rfl
theorem wn_X6_ifWritten_123 : wpN l G mi_X6_ifWritten Γ F sgs_X6_ifWritten (n + 1) 123 L st S cs sl = wp G Γ (mR mi_X6_ifWritten) (wpN l G mi_X6_ifWritten Γ F sgs_X6_ifWritten n) (EX mi_X6_ifWritten F) sg_X6_ifWritten_123 L st S cs sl := rfl
theorem wn_X6_bestPlace_0 : wpN l G mi_X6_bestPlace Γ F sgs_X6_bestPlace (n + 1) 0 L st S cs sl = wp G Γ (mR mi_X6_bestPlace) (wpN l G mi_X6_bestPlace Γ F sgs_X6_bestPlace n) (EX mi_X6_bestPlace F) sg_X6_bestPlace_0 L st S cs sl := rfl
theorem wn_X6_bestPlace_16 : wpN l G mi_X6_bestPlace Γ F sgs_X6_bestPlace (n + 1) 16 L st S cs sl = wp G Γ (mR mi_X6_bestPlace) (wpN l G mi_X6_bestPlace Γ F sgs_X6_bestPlace n) (EX mi_X6_bestPlace F) sg_X6_bestPlace_16 L st S cs sl := rfl
theorem wn_X6_bestPlace_28 : wpN l G mi_X6_bestPlace Γ F sgs_X6_bestPlace (n + 1) 28 L st S cs sl = wp G Γ (mR mi_X6_bestPlace) (wpN l G mi_X6_bestPlace Γ F sgs_X6_bestPlace n) (EX mi_X6_bestPlace F) sg_X6_bestPlace_28 L st S cs sl := rfl
theorem wn_X6_fills_0 : wpN l G mi_X6_fills Γ F sgs_X6_fills (n + 1) 0 L st S cs sl = wp G Γ (mR mi_X6_fills) (wpN l G mi_X6_fills Γ F sgs_X6_fills n) (EX mi_X6_fills F) sg_X6_fills_0 L st S cs sl := rfl
theorem wn_X6_fills_23 : wpN l G mi_X6_fills Γ F sgs_X6_fills (n + 1) 23 L st S cs sl = wp G Γ (mR mi_X6_fills) (wpN l G mi_X6_fills Γ F sgs_X6_fills n) (EX mi_X6_fills F) sg_X6_fills_23 L st S cs sl := rfl
theorem wn_X6_fills_27 : wpN l G mi_X6_fills Γ F sgs_X6_fills (n + 1) 27 L st S cs sl = wp G Γ (mR mi_X6_fills) (wpN l G mi_X6_fills Γ F sgs_X6_fills n) (EX mi_X6_fills F) sg_X6_fills_27 L st S cs sl := rfl
theorem wn_X6_fills_40 : wpN l G mi_X6_fills Γ F sgs_X6_fills (n + 1) 40 L st S cs sl = wp G Γ (mR mi_X6_fills) (wpN l G mi_X6_fills Γ F sgs_X6_fills n) (EX mi_X6_fills F) sg_X6_fills_40 L st S cs sl := rfl
theorem wn_X6_readableIn_0 : wpN l G mi_X6_readableIn Γ F sgs_X6_readableIn (n + 1) 0 L st S cs sl = wp G Γ (mR mi_X6_readableIn) (wpN l G mi_X6_readableIn Γ F sgs_X6_readableIn n) (EX mi_X6_readableIn F) sg_X6_readableIn_0 L st S cs sl := rfl
theorem wn_X6_readableIn_30 : wpN l G mi_X6_readableIn Γ F sgs_X6_readableIn (n + 1) 30 L st S cs sl = wp G Γ (mR mi_X6_readableIn) (wpN l G mi_X6_readableIn Γ F sgs_X6_readableIn n) (EX mi_X6_readableIn F) sg_X6_readableIn_30 L st S cs sl := rfl
theorem wn_X6_readableIn_31 : wpN l G mi_X6_readableIn Γ F sgs_X6_readableIn (n + 1) 31 L st S cs sl = wp G Γ (mR mi_X6_readableIn) (wpN l G mi_X6_readableIn Γ F sgs_X6_readableIn n) (EX mi_X6_readableIn F) sg_X6_readableIn_31 L st S cs sl := rfl
theorem wn_X6_undo_0 : wpN l G mi_X6_undo Γ F sgs_X6_undo (n + 1) 0 L st S cs sl = wp G Γ (mR mi_X6_undo) (wpN l G mi_X6_undo Γ F sgs_X6_undo n) (EX mi_X6_undo F) sg_X6_undo_0 L st S cs sl := rfl
theorem wn_X6_save_0 : wpN l G mi_X6_save Γ F sgs_X6_save (n + 1) 0 L st S cs sl = wp G Γ (mR mi_X6_save) (wpN l G mi_X6_save Γ F sgs_X6_save n) (EX mi_X6_save F) sg_X6_save_0 L st S cs sl := rfl
theorem wn_X6_save_9 : wpN l G mi_X6_save Γ F sgs_X6_save (n + 1) 9 L st S cs sl = wp G Γ (mR mi_X6_save) (wpN l G mi_X6_save Γ F sgs_X6_save n) (EX mi_X6_save F) sg_X6_save_9 L st S cs sl := rfl
theorem wn_X6_save_12 : wpN l G mi_X6_save Γ F sgs_X6_save (n + 1) 12 L st S cs sl = wp G Γ (mR mi_X6_save) (wpN l G mi_X6_save Γ F sgs_X6_save n) (EX mi_X6_save F) sg_X6_save_12 L st S cs sl := rfl
theorem wn_X6_restore_0 : wpN l G mi_X6_restore Γ F sgs_X6_restore (n + 1) 0 L st S cs sl = wp G Γ (mR mi_X6_restore) (wpN l G mi_X6_restore Γ F sgs_X6_restore n) (EX mi_X6_restore F) sg_X6_restore_0 L st S cs sl := rfl
theorem wn_X6_restore_9 : wpN l G mi_X6_restore Γ F sgs_X6_restore (n + 1) 9 L st S cs sl = wp G Γ (mR mi_X6_restore) (wpN l G mi_X6_restore Γ F sgs_X6_restore n) (EX mi_X6_restore F) sg_X6_restore_9 L st S cs sl := rfl
theorem wn_X6_restore_12 : wpN l G mi_X6_restore Γ F sgs_X6_restore (n + 1) 12 L st S cs sl = wp G Γ (mR mi_X6_restore) (wpN l G mi_X6_restore Γ F sgs_X6_restore n) (EX mi_X6_restore F) sg_X6_restore_12 L st S cs sl := rfl
theorem wn_X6_restore_24 : wpN l G mi_X6_restore Γ F sgs_X6_restore (n + 1) 24 L st S cs sl = wp G Γ (mR mi_X6_restore) (wpN l G mi_X6_restore Γ F sgs_X6_restore n) (EX mi_X6_restore F) sg_X6_restore_24 L st S cs sl := rfl
end PJ
