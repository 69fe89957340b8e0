/-! rows by rfl (printed by wip/whole/gen/proj.py) -/
section PJ
variable {G : Gx} {Γ : List (MI × PT)} {R : Room} {K : KT} {E : ET} {kk : List (Option Value) → List Value → SS → Nat → Nat → Prop} {pc x y z w : Nat} {L : List (Option Value)} {st : List Value} {S : SS} {cs sl : Nat} {l : Launch} {F : Option Value → SS → Prop} {n : Nat} {qs : List Ins} {q : Ins}
theorem wp_c : wp G Γ R K E (q :: qs) L st S cs sl = wp1 G Γ R K E (wp G Γ R K E qs) q L st S cs sl := rfl
theorem ex_c {M : MI} {i : Instr} {v : Option Value} : EX M F i v S cs sl = (retOK i (mT M) v ∧ F v S ∧ cs ≤ (mR M).cells ∧ sl ≤ (mR M).slots) := rfl
theorem xk_bipush_120 : wp1 G Γ R K E kk (pc, .bipush 120, 120, 0, z, w) L st S cs sl = kk L (.int (nI 120) :: st) S cs sl := x_bipush (by decide)
theorem xk_iconst_0 : wp1 G Γ R K E kk (pc, .iconst 0, 0, 0, z, w) L st S cs sl = kk L (.int (nI 0) :: st) S cs sl := x_iconst (by decide)
theorem xk_bipush_m6 : wp1 G Γ R K E kk (pc, .bipush (-6), 6, 1, z, w) L st S cs sl = kk L (.int (mI 6) :: st) S cs sl := x_bipush (by decide)
theorem xk_iconst_1 : wp1 G Γ R K E kk (pc, .iconst 1, 1, 0, z, w) L st S cs sl = kk L (.int (nI 1) :: st) S cs sl := x_iconst (by decide)
theorem xk_bipush_80 : wp1 G Γ R K E kk (pc, .bipush 80, 80, 0, z, w) L st S cs sl = kk L (.int (nI 80) :: st) S cs sl := x_bipush (by decide)
theorem xk_bipush_48 : wp1 G Γ R K E kk (pc, .bipush 48, 48, 0, z, w) L st S cs sl = kk L (.int (nI 48) :: st) S cs sl := x_bipush (by decide)
theorem xk_bipush_57 : wp1 G Γ R K E kk (pc, .bipush 57, 57, 0, z, w) L st S cs sl = kk L (.int (nI 57) :: st) S cs sl := x_bipush (by decide)
theorem xk_bipush_10 : wp1 G Γ R K E kk (pc, .bipush 10, 10, 0, z, w) L st S cs sl = kk L (.int (nI 10) :: st) S cs sl := x_bipush (by decide)
theorem xk_bipush_64 : wp1 G Γ R K E kk (pc, .bipush 64, 64, 0, z, w) L st S cs sl = kk L (.int (nI 64) :: st) S cs sl := x_bipush (by decide)
theorem xk_bipush_46 : wp1 G Γ R K E kk (pc, .bipush 46, 46, 0, z, w) L st S cs sl = kk L (.int (nI 46) :: st) S cs sl := x_bipush (by decide)
theorem xk_bipush_97 : wp1 G Γ R K E kk (pc, .bipush 97, 97, 0, z, w) L st S cs sl = kk L (.int (nI 97) :: st) S cs sl := x_bipush (by decide)
theorem xk_bipush_122 : wp1 G Γ R K E kk (pc, .bipush 122, 122, 0, z, w) L st S cs sl = kk L (.int (nI 122) :: st) S cs sl := x_bipush (by decide)
theorem xk_bipush_119 : wp1 G Γ R K E kk (pc, .bipush 119, 119, 0, z, w) L st S cs sl = kk L (.int (nI 119) :: st) S cs sl := x_bipush (by decide)
theorem xk_bipush_61 : wp1 G Γ R K E kk (pc, .bipush 61, 61, 0, z, w) L st S cs sl = kk L (.int (nI 61) :: st) S cs sl := x_bipush (by decide)
theorem xk_bipush_59 : wp1 G Γ R K E kk (pc, .bipush 59, 59, 0, z, w) L st S cs sl = kk L (.int (nI 59) :: st) S cs sl := x_bipush (by decide)
theorem xk_bipush_8 : wp1 G Γ R K E kk (pc, .bipush 8, 8, 0, z, w) L st S cs sl = kk L (.int (nI 8) :: st) S cs sl := x_bipush (by decide)
theorem xk_bipush_33 : wp1 G Γ R K E kk (pc, .bipush 33, 33, 0, z, w) L st S cs sl = kk L (.int (nI 33) :: st) S cs sl := x_bipush (by decide)
theorem xk_bipush_126 : wp1 G Γ R K E kk (pc, .bipush 126, 126, 0, z, w) L st S cs sl = kk L (.int (nI 126) :: st) S cs sl := x_bipush (by decide)
theorem xk_bipush_m2 : wp1 G Γ R K E kk (pc, .bipush (-2), 2, 1, z, w) L st S cs sl = kk L (.int (mI 2) :: st) S cs sl := x_bipush (by decide)
theorem xk_bipush_m4 : wp1 G Γ R K E kk (pc, .bipush (-4), 4, 1, z, w) L st S cs sl = kk L (.int (mI 4) :: st) S cs sl := x_bipush (by decide)
theorem xk_iconst_4 : wp1 G Γ R K E kk (pc, .iconst 4, 4, 0, z, w) L st S cs sl = kk L (.int (nI 4) :: st) S cs sl := x_iconst (by decide)
theorem xk_bipush_6 : wp1 G Γ R K E kk (pc, .bipush 6, 6, 0, z, w) L st S cs sl = kk L (.int (nI 6) :: st) S cs sl := x_bipush (by decide)
theorem xk_iconst_2 : wp1 G Γ R K E kk (pc, .iconst 2, 2, 0, z, w) L st S cs sl = kk L (.int (nI 2) :: st) S cs sl := x_iconst (by decide)
theorem xk_bipush_40 : wp1 G Γ R K E kk (pc, .bipush 40, 40, 0, z, w) L st S cs sl = kk L (.int (nI 40) :: st) S cs sl := x_bipush (by decide)
theorem xk_iconst_3 : wp1 G Γ R K E kk (pc, .iconst 3, 3, 0, z, w) L st S cs sl = kk L (.int (nI 3) :: st) S cs sl := x_iconst (by decide)
theorem xk_iconst_5 : wp1 G Γ R K E kk (pc, .iconst 5, 5, 0, z, w) L st S cs sl = kk L (.int (nI 5) :: st) S cs sl := x_iconst (by decide)
theorem xk_iconst_m1 : wp1 G Γ R K E kk (pc, .iconst (-1), 1, 1, z, w) L st S cs sl = kk L (.int (mI 1) :: st) S cs sl := x_iconst (by decide)
theorem xk_bipush_m5 : wp1 G Γ R K E kk (pc, .bipush (-5), 5, 1, z, w) L st S cs sl = kk L (.int (mI 5) :: st) S cs sl := x_bipush (by decide)
theorem xk_bipush_12 : wp1 G Γ R K E kk (pc, .bipush 12, 12, 0, z, w) L st S cs sl = kk L (.int (nI 12) :: st) S cs sl := x_bipush (by decide)
theorem xk_bipush_100 : wp1 G Γ R K E kk (pc, .bipush 100, 100, 0, z, w) L st S cs sl = kk L (.int (nI 100) :: st) S cs sl := x_bipush (by decide)
theorem xk_bipush_26 : wp1 G Γ R K E kk (pc, .bipush 26, 26, 0, z, w) L st S cs sl = kk L (.int (nI 26) :: st) S cs sl := x_bipush (by decide)
theorem xk_sipush_9999 : wp1 G Γ R K E kk (pc, .sipush 9999, 9999, 0, z, w) L st S cs sl = kk L (.int (nI 9999) :: st) S cs sl := x_sipush (by decide)
theorem xk_sipush_500 : wp1 G Γ R K E kk (pc, .sipush 500, 500, 0, z, w) L st S cs sl = kk L (.int (nI 500) :: st) S cs sl := x_sipush (by decide)
theorem xk_bipush_7 : wp1 G Γ R K E kk (pc, .bipush 7, 7, 0, z, w) L st S cs sl = kk L (.int (nI 7) :: st) S cs sl := x_bipush (by decide)
theorem xk_bipush_m126 : wp1 G Γ R K E kk (pc, .bipush (-126), 126, 1, z, w) L st S cs sl = kk L (.int (mI 126) :: st) S cs sl := x_bipush (by decide)
theorem xk_bipush_127 : wp1 G Γ R K E kk (pc, .bipush 127, 127, 0, z, w) L st S cs sl = kk L (.int (nI 127) :: st) S cs sl := x_bipush (by decide)
theorem xk_bipush_23 : wp1 G Γ R K E kk (pc, .bipush 23, 23, 0, z, w) L st S cs sl = kk L (.int (nI 23) :: st) S cs sl := x_bipush (by decide)
theorem xk_sipush_m1022 : wp1 G Γ R K E kk (pc, .sipush (-1022), 1022, 1, z, w) L st S cs sl = kk L (.int (mI 1022) :: st) S cs sl := x_sipush (by decide)
theorem xk_sipush_1023 : wp1 G Γ R K E kk (pc, .sipush 1023, 1023, 0, z, w) L st S cs sl = kk L (.int (nI 1023) :: st) S cs sl := x_sipush (by decide)
theorem xk_bipush_52 : wp1 G Γ R K E kk (pc, .bipush 52, 52, 0, z, w) L st S cs sl = kk L (.int (nI 52) :: st) S cs sl := x_bipush (by decide)
theorem xk_bipush_m3 : wp1 G Γ R K E kk (pc, .bipush (-3), 3, 1, z, w) L st S cs sl = kk L (.int (mI 3) :: st) S cs sl := x_bipush (by decide)
theorem xk_sipush_9830 : wp1 G Γ R K E kk (pc, .sipush 9830, 9830, 0, z, w) L st S cs sl = kk L (.int (nI 9830) :: st) S cs sl := x_sipush (by decide)
theorem xk_sipush_4800 : wp1 G Γ R K E kk (pc, .sipush 4800, 4800, 0, z, w) L st S cs sl = kk L (.int (nI 4800) :: st) S cs sl := x_sipush (by decide)
theorem xk_sipush_983 : wp1 G Γ R K E kk (pc, .sipush 983, 983, 0, z, w) L st S cs sl = kk L (.int (nI 983) :: st) S cs sl := x_sipush (by decide)
theorem xk_sipush_480 : wp1 G Γ R K E kk (pc, .sipush 480, 480, 0, z, w) L st S cs sl = kk L (.int (nI 480) :: st) S cs sl := x_sipush (by decide)
theorem xk_bipush_13 : wp1 G Γ R K E kk (pc, .bipush 13, 13, 0, z, w) L st S cs sl = kk L (.int (nI 13) :: st) S cs sl := x_bipush (by decide)
theorem xk_bipush_18 : wp1 G Γ R K E kk (pc, .bipush 18, 18, 0, z, w) L st S cs sl = kk L (.int (nI 18) :: st) S cs sl := x_bipush (by decide)
theorem xk_bipush_9 : wp1 G Γ R K E kk (pc, .bipush 9, 9, 0, z, w) L st S cs sl = kk L (.int (nI 9) :: st) S cs sl := x_bipush (by decide)
theorem xk_bipush_32 : wp1 G Γ R K E kk (pc, .bipush 32, 32, 0, z, w) L st S cs sl = kk L (.int (nI 32) :: st) S cs sl := x_bipush (by decide)
theorem xg_0_0 {i a : Nat} : wp1 G Γ R K E kk (pc, .getfield i, 0, 0, z, w) L (.ref a :: st) S cs sl = (sK S a = some (0, 0) ∧ ∃ r, sR S a 0 = some r ∧ kk L (.ref r :: st) S cs sl) := x_getR rfl
theorem xp_0_0 {i a r : Nat} : wp1 G Γ R K E kk (pc, .putfield i, 0, 0, z, w) L (.ref r :: .ref a :: st) S cs sl = (sK S a = some (0, 0) ∧ kk L st (stR S a 0 (some r)) cs sl) := x_putR rfl
theorem xg_0_1 {i a : Nat} : wp1 G Γ R K E kk (pc, .getfield i, 0, 1, z, w) L (.ref a :: st) S cs sl = (sK S a = some (0, 0) ∧ ∃ r, sR S a 1 = some r ∧ kk L (.ref r :: st) S cs sl) := x_getR rfl
theorem xp_0_1 {i a r : Nat} : wp1 G Γ R K E kk (pc, .putfield i, 0, 1, z, w) L (.ref r :: .ref a :: st) S cs sl = (sK S a = some (0, 0) ∧ kk L st (stR S a 1 (some r)) cs sl) := x_putR rfl
theorem xg_0_2 {i a : Nat} : wp1 G Γ R K E kk (pc, .getfield i, 0, 2, z, w) L (.ref a :: st) S cs sl = (sK S a = some (0, 0) ∧ ∃ r, sR S a 2 = some r ∧ kk L (.ref r :: st) S cs sl) := x_getR rfl
theorem xp_0_2 {i a r : Nat} : wp1 G Γ R K E kk (pc, .putfield i, 0, 2, z, w) L (.ref r :: .ref a :: st) S cs sl = (sK S a = some (0, 0) ∧ kk L st (stR S a 2 (some r)) cs sl) := x_putR rfl
theorem xg_0_3 {i a : Nat} : wp1 G Γ R K E kk (pc, .getfield i, 0, 3, z, w) L (.ref a :: st) S cs sl = (sK S a = some (0, 0) ∧ ∃ r, sR S a 3 = some r ∧ kk L (.ref r :: st) S cs sl) := x_getR rfl
theorem xp_0_3 {i a r : Nat} : wp1 G Γ R K E kk (pc, .putfield i, 0, 3, z, w) L (.ref r :: .ref a :: st) S cs sl = (sK S a = some (0, 0) ∧ kk L st (stR S a 3 (some r)) cs sl) := x_putR rfl
theorem xg_0_4 {i a : Nat} : wp1 G Γ R K E kk (pc, .getfield i, 0, 4, z, w) L (.ref a :: st) S cs sl = (sK S a = some (0, 0) ∧ ∃ r, sR S a 4 = some r ∧ kk L (.ref r :: st) S cs sl) := x_getR rfl
theorem xp_0_4 {i a r : Nat} : wp1 G Γ R K E kk (pc, .putfield i, 0, 4, z, w) L (.ref r :: .ref a :: st) S cs sl = (sK S a = some (0, 0) ∧ kk L st (stR S a 4 (some r)) cs sl) := x_putR rfl
theorem xg_0_5 {i a : Nat} : wp1 G Γ R K E kk (pc, .getfield i, 0, 5, z, w) L (.ref a :: st) S cs sl = (sK S a = some (0, 0) ∧ kk L (.int (sI S a 5) :: st) S cs sl) := x_getI rfl
theorem xp_0_5 {i a : Nat} {v : Int32} : wp1 G Γ R K E kk (pc, .putfield i, 0, 5, z, w) L (.int v :: .ref a :: st) S cs sl = (sK S a = some (0, 0) ∧ kk L st (stI S a 5 v) cs sl) := x_putI rfl
theorem xg_0_6 {i a : Nat} : wp1 G Γ R K E kk (pc, .getfield i, 0, 6, z, w) L (.ref a :: st) S cs sl = (sK S a = some (0, 0) ∧ kk L (.int (sI S a 6) :: st) S cs sl) := x_getI rfl
theorem xp_0_6 {i a : Nat} {v : Int32} : wp1 G Γ R K E kk (pc, .putfield i, 0, 6, z, w) L (.int v :: .ref a :: st) S cs sl = (sK S a = some (0, 0) ∧ kk L st (stI S a 6 v) cs sl) := x_putI rfl
theorem xg_0_7 {i a : Nat} : wp1 G Γ R K E kk (pc, .getfield i, 0, 7, z, w) L (.ref a :: st) S cs sl = (sK S a = some (0, 0) ∧ kk L (.int (sI S a 7) :: st) S cs sl) := x_getI rfl
theorem xp_0_7 {i a : Nat} {v : Int32} : wp1 G Γ R K E kk (pc, .putfield i, 0, 7, z, w) L (.int v :: .ref a :: st) S cs sl = (sK S a = some (0, 0) ∧ kk L st (stI S a 7 v) cs sl) := x_putI rfl
theorem xg_0_8 {i a : Nat} : wp1 G Γ R K E kk (pc, .getfield i, 0, 8, z, w) L (.ref a :: st) S cs sl = (sK S a = some (0, 0) ∧ kk L (.int (sI S a 8) :: st) S cs sl) := x_getI rfl
theorem xp_0_8 {i a : Nat} {v : Int32} : wp1 G Γ R K E kk (pc, .putfield i, 0, 8, z, w) L (.int v :: .ref a :: st) S cs sl = (sK S a = some (0, 0) ∧ kk L st (stI S a 8 v) cs sl) := x_putI rfl
theorem xg_1_0 {i a : Nat} : wp1 G Γ R K E kk (pc, .getfield i, 1, 0, z, w) L (.ref a :: st) S cs sl = (sK S a = some (1, 0) ∧ ∃ r, sR S a 0 = some r ∧ kk L (.ref r :: st) S cs sl) := x_getR rfl
theorem xp_1_0 {i a r : Nat} : wp1 G Γ R K E kk (pc, .putfield i, 1, 0, z, w) L (.ref r :: .ref a :: st) S cs sl = (sK S a = some (1, 0) ∧ kk L st (stR S a 0 (some r)) cs sl) := x_putR rfl
theorem xg_1_1 {i a : Nat} : wp1 G Γ R K E kk (pc, .getfield i, 1, 1, z, w) L (.ref a :: st) S cs sl = (sK S a = some (1, 0) ∧ ∃ r, sR S a 1 = some r ∧ kk L (.ref r :: st) S cs sl) := x_getR rfl
theorem xp_1_1 {i a r : Nat} : wp1 G Γ R K E kk (pc, .putfield i, 1, 1, z, w) L (.ref r :: .ref a :: st) S cs sl = (sK S a = some (1, 0) ∧ kk L st (stR S a 1 (some r)) cs sl) := x_putR rfl
theorem xg_1_2 {i a : Nat} : wp1 G Γ R K E kk (pc, .getfield i, 1, 2, z, w) L (.ref a :: st) S cs sl = (sK S a = some (1, 0) ∧ ∃ r, sR S a 2 = some r ∧ kk L (.ref r :: st) S cs sl) := x_getR rfl
theorem xp_1_2 {i a r : Nat} : wp1 G Γ R K E kk (pc, .putfield i, 1, 2, z, w) L (.ref r :: .ref a :: st) S cs sl = (sK S a = some (1, 0) ∧ kk L st (stR S a 2 (some r)) cs sl) := x_putR rfl
theorem xg_1_3 {i a : Nat} : wp1 G Γ R K E kk (pc, .getfield i, 1, 3, z, w) L (.ref a :: st) S cs sl = (sK S a = some (1, 0) ∧ ∃ r, sR S a 3 = some r ∧ kk L (.ref r :: st) S cs sl) := x_getR rfl
theorem xp_1_3 {i a r : Nat} : wp1 G Γ R K E kk (pc, .putfield i, 1, 3, z, w) L (.ref r :: .ref a :: st) S cs sl = (sK S a = some (1, 0) ∧ kk L st (stR S a 3 (some r)) cs sl) := x_putR rfl
theorem xg_2_0 {i a : Nat} : wp1 G Γ R K E kk (pc, .getfield i, 2, 0, z, w) L (.ref a :: st) S cs sl = (sK S a = some (2, 0) ∧ ∃ r, sR S a 0 = some r ∧ kk L (.ref r :: st) S cs sl) := x_getR rfl
theorem xp_2_0 {i a r : Nat} : wp1 G Γ R K E kk (pc, .putfield i, 2, 0, z, w) L (.ref r :: .ref a :: st) S cs sl = (sK S a = some (2, 0) ∧ kk L st (stR S a 0 (some r)) cs sl) := x_putR rfl
theorem xg_2_1 {i a : Nat} : wp1 G Γ R K E kk (pc, .getfield i, 2, 1, z, w) L (.ref a :: st) S cs sl = (sK S a = some (2, 0) ∧ kk L (.int (sI S a 1) :: st) S cs sl) := x_getI rfl
theorem xp_2_1 {i a : Nat} {v : Int32} : wp1 G Γ R K E kk (pc, .putfield i, 2, 1, z, w) L (.int v :: .ref a :: st) S cs sl = (sK S a = some (2, 0) ∧ kk L st (stI S a 1 v) cs sl) := x_putI rfl
theorem xg_2_2 {i a : Nat} : wp1 G Γ R K E kk (pc, .getfield i, 2, 2, z, w) L (.ref a :: st) S cs sl = (sK S a = some (2, 0) ∧ kk L (.int (sI S a 2) :: st) S cs sl) := x_getI rfl
theorem xp_2_2 {i a : Nat} {v : Int32} : wp1 G Γ R K E kk (pc, .putfield i, 2, 2, z, w) L (.int v :: .ref a :: st) S cs sl = (sK S a = some (2, 0) ∧ kk L st (stI S a 2 v) cs sl) := x_putI rfl
theorem xg_3_0 {i a : Nat} : wp1 G Γ R K E kk (pc, .getfield i, 3, 0, z, w) L (.ref a :: st) S cs sl = (sK S a = some (3, 0) ∧ ∃ r, sR S a 0 = some r ∧ kk L (.ref r :: st) S cs sl) := x_getR rfl
theorem xp_3_0 {i a r : Nat} : wp1 G Γ R K E kk (pc, .putfield i, 3, 0, z, w) L (.ref r :: .ref a :: st) S cs sl = (sK S a = some (3, 0) ∧ kk L st (stR S a 0 (some r)) cs sl) := x_putR rfl
theorem xg_3_1 {i a : Nat} : wp1 G Γ R K E kk (pc, .getfield i, 3, 1, z, w) L (.ref a :: st) S cs sl = (sK S a = some (3, 0) ∧ ∃ r, sR S a 1 = some r ∧ kk L (.ref r :: st) S cs sl) := x_getR rfl
theorem xp_3_1 {i a r : Nat} : wp1 G Γ R K E kk (pc, .putfield i, 3, 1, z, w) L (.ref r :: .ref a :: st) S cs sl = (sK S a = some (3, 0) ∧ kk L st (stR S a 1 (some r)) cs sl) := x_putR rfl
theorem xg_3_2 {i a : Nat} : wp1 G Γ R K E kk (pc, .getfield i, 3, 2, z, w) L (.ref a :: st) S cs sl = (sK S a = some (3, 0) ∧ ∃ r, sR S a 2 = some r ∧ kk L (.ref r :: st) S cs sl) := x_getR rfl
theorem xp_3_2 {i a r : Nat} : wp1 G Γ R K E kk (pc, .putfield i, 3, 2, z, w) L (.ref r :: .ref a :: st) S cs sl = (sK S a = some (3, 0) ∧ kk L st (stR S a 2 (some r)) cs sl) := x_putR rfl
theorem xg_3_3 {i a : Nat} : wp1 G Γ R K E kk (pc, .getfield i, 3, 3, z, w) L (.ref a :: st) S cs sl = (sK S a = some (3, 0) ∧ ∃ r, sR S a 3 = some r ∧ kk L (.ref r :: st) S cs sl) := x_getR rfl
theorem xp_3_3 {i a r : Nat} : wp1 G Γ R K E kk (pc, .putfield i, 3, 3, z, w) L (.ref r :: .ref a :: st) S cs sl = (sK S a = some (3, 0) ∧ kk L st (stR S a 3 (some r)) cs sl) := x_putR rfl
theorem xg_3_4 {i a : Nat} : wp1 G Γ R K E kk (pc, .getfield i, 3, 4, z, w) L (.ref a :: st) S cs sl = (sK S a = some (3, 0) ∧ ∃ r, sR S a 4 = some r ∧ kk L (.ref r :: st) S cs sl) := x_getR rfl
theorem xp_3_4 {i a r : Nat} : wp1 G Γ R K E kk (pc, .putfield i, 3, 4, z, w) L (.ref r :: .ref a :: st) S cs sl = (sK S a = some (3, 0) ∧ kk L st (stR S a 4 (some r)) cs sl) := x_putR rfl
theorem xg_3_5 {i a : Nat} : wp1 G Γ R K E kk (pc, .getfield i, 3, 5, z, w) L (.ref a :: st) S cs sl = (sK S a = some (3, 0) ∧ ∃ r, sR S a 5 = some r ∧ kk L (.ref r :: st) S cs sl) := x_getR rfl
theorem xp_3_5 {i a r : Nat} : wp1 G Γ R K E kk (pc, .putfield i, 3, 5, z, w) L (.ref r :: .ref a :: st) S cs sl = (sK S a = some (3, 0) ∧ kk L st (stR S a 5 (some r)) cs sl) := x_putR rfl
theorem xg_3_6 {i a : Nat} : wp1 G Γ R K E kk (pc, .getfield i, 3, 6, z, w) L (.ref a :: st) S cs sl = (sK S a = some (3, 0) ∧ kk L (.int (sI S a 6) :: st) S cs sl) := x_getI rfl
theorem xp_3_6 {i a : Nat} {v : Int32} : wp1 G Γ R K E kk (pc, .putfield i, 3, 6, z, w) L (.int v :: .ref a :: st) S cs sl = (sK S a = some (3, 0) ∧ kk L st (stI S a 6 v) cs sl) := x_putI rfl
theorem xg_3_7 {i a : Nat} : wp1 G Γ R K E kk (pc, .getfield i, 3, 7, z, w) L (.ref a :: st) S cs sl = (sK S a = some (3, 0) ∧ kk L (.int (sI S a 7) :: st) S cs sl) := x_getI rfl
theorem xp_3_7 {i a : Nat} {v : Int32} : wp1 G Γ R K E kk (pc, .putfield i, 3, 7, z, w) L (.int v :: .ref a :: st) S cs sl = (sK S a = some (3, 0) ∧ kk L st (stI S a 7 v) cs sl) := x_putI rfl
theorem xg_3_8 {i a : Nat} : wp1 G Γ R K E kk (pc, .getfield i, 3, 8, z, w) L (.ref a :: st) S cs sl = (sK S a = some (3, 0) ∧ kk L (.int (sI S a 8) :: st) S cs sl) := x_getI rfl
theorem xp_3_8 {i a : Nat} {v : Int32} : wp1 G Γ R K E kk (pc, .putfield i, 3, 8, z, w) L (.int v :: .ref a :: st) S cs sl = (sK S a = some (3, 0) ∧ kk L st (stI S a 8 v) cs sl) := x_putI rfl
theorem xg_3_9 {i a : Nat} : wp1 G Γ R K E kk (pc, .getfield i, 3, 9, z, w) L (.ref a :: st) S cs sl = (sK S a = some (3, 0) ∧ kk L (.int (sI S a 9) :: st) S cs sl) := x_getI rfl
theorem xp_3_9 {i a : Nat} {v : Int32} : wp1 G Γ R K E kk (pc, .putfield i, 3, 9, z, w) L (.int v :: .ref a :: st) S cs sl = (sK S a = some (3, 0) ∧ kk L st (stI S a 9 v) cs sl) := x_putI rfl
theorem xg_3_10 {i a : Nat} : wp1 G Γ R K E kk (pc, .getfield i, 3, 10, z, w) L (.ref a :: st) S cs sl = (sK S a = some (3, 0) ∧ kk L (.int (sI S a 10) :: st) S cs sl) := x_getI rfl
theorem xp_3_10 {i a : Nat} {v : Int32} : wp1 G Γ R K E kk (pc, .putfield i, 3, 10, z, w) L (.int v :: .ref a :: st) S cs sl = (sK S a = some (3, 0) ∧ kk L st (stI S a 10 v) cs sl) := x_putI rfl
theorem xg_3_11 {i a : Nat} : wp1 G Γ R K E kk (pc, .getfield i, 3, 11, z, w) L (.ref a :: st) S cs sl = (sK S a = some (3, 0) ∧ kk L (.int (sI S a 11) :: st) S cs sl) := x_getI rfl
theorem xp_3_11 {i a : Nat} {v : Int32} : wp1 G Γ R K E kk (pc, .putfield i, 3, 11, z, w) L (.int v :: .ref a :: st) S cs sl = (sK S a = some (3, 0) ∧ kk L st (stI S a 11 v) cs sl) := x_putI rfl
theorem xg_4_0 {i a : Nat} : wp1 G Γ R K E kk (pc, .getfield i, 4, 0, z, w) L (.ref a :: st) S cs sl = (sK S a = some (4, 0) ∧ ∃ r, sR S a 0 = some r ∧ kk L (.ref r :: st) S cs sl) := x_getR rfl
theorem xp_4_0 {i a r : Nat} : wp1 G Γ R K E kk (pc, .putfield i, 4, 0, z, w) L (.ref r :: .ref a :: st) S cs sl = (sK S a = some (4, 0) ∧ kk L st (stR S a 0 (some r)) cs sl) := x_putR rfl
theorem xg_4_1 {i a : Nat} : wp1 G Γ R K E kk (pc, .getfield i, 4, 1, z, w) L (.ref a :: st) S cs sl = (sK S a = some (4, 0) ∧ kk L (.int (sI S a 1) :: st) S cs sl) := x_getI rfl
theorem xp_4_1 {i a : Nat} {v : Int32} : wp1 G Γ R K E kk (pc, .putfield i, 4, 1, z, w) L (.int v :: .ref a :: st) S cs sl = (sK S a = some (4, 0) ∧ kk L st (stI S a 1 v) cs sl) := x_putI rfl
theorem xg_5_0 {i a : Nat} : wp1 G Γ R K E kk (pc, .getfield i, 5, 0, z, w) L (.ref a :: st) S cs sl = (sK S a = some (5, 0) ∧ ∃ r, sR S a 0 = some r ∧ kk L (.ref r :: st) S cs sl) := x_getR rfl
theorem xp_5_0 {i a r : Nat} : wp1 G Γ R K E kk (pc, .putfield i, 5, 0, z, w) L (.ref r :: .ref a :: st) S cs sl = (sK S a = some (5, 0) ∧ kk L st (stR S a 0 (some r)) cs sl) := x_putR rfl
theorem xg_5_1 {i a : Nat} : wp1 G Γ R K E kk (pc, .getfield i, 5, 1, z, w) L (.ref a :: st) S cs sl = (sK S a = some (5, 0) ∧ ∃ r, sR S a 1 = some r ∧ kk L (.ref r :: st) S cs sl) := x_getR rfl
theorem xp_5_1 {i a r : Nat} : wp1 G Γ R K E kk (pc, .putfield i, 5, 1, z, w) L (.ref r :: .ref a :: st) S cs sl = (sK S a = some (5, 0) ∧ kk L st (stR S a 1 (some r)) cs sl) := x_putR rfl
theorem xg_6_0 {i a : Nat} : wp1 G Γ R K E kk (pc, .getfield i, 6, 0, z, w) L (.ref a :: st) S cs sl = (sK S a = some (6, 0) ∧ ∃ r, sR S a 0 = some r ∧ kk L (.ref r :: st) S cs sl) := x_getR rfl
theorem xp_6_0 {i a r : Nat} : wp1 G Γ R K E kk (pc, .putfield i, 6, 0, z, w) L (.ref r :: .ref a :: st) S cs sl = (sK S a = some (6, 0) ∧ kk L st (stR S a 0 (some r)) cs sl) := x_putR rfl
theorem xg_6_1 {i a : Nat} : wp1 G Γ R K E kk (pc, .getfield i, 6, 1, z, w) L (.ref a :: st) S cs sl = (sK S a = some (6, 0) ∧ ∃ r, sR S a 1 = some r ∧ kk L (.ref r :: st) S cs sl) := x_getR rfl
theorem xp_6_1 {i a r : Nat} : wp1 G Γ R K E kk (pc, .putfield i, 6, 1, z, w) L (.ref r :: .ref a :: st) S cs sl = (sK S a = some (6, 0) ∧ kk L st (stR S a 1 (some r)) cs sl) := x_putR rfl
theorem xg_6_2 {i a : Nat} : wp1 G Γ R K E kk (pc, .getfield i, 6, 2, z, w) L (.ref a :: st) S cs sl = (sK S a = some (6, 0) ∧ ∃ r, sR S a 2 = some r ∧ kk L (.ref r :: st) S cs sl) := x_getR rfl
theorem xp_6_2 {i a r : Nat} : wp1 G Γ R K E kk (pc, .putfield i, 6, 2, z, w) L (.ref r :: .ref a :: st) S cs sl = (sK S a = some (6, 0) ∧ kk L st (stR S a 2 (some r)) cs sl) := x_putR rfl
theorem xg_6_3 {i a : Nat} : wp1 G Γ R K E kk (pc, .getfield i, 6, 3, z, w) L (.ref a :: st) S cs sl = (sK S a = some (6, 0) ∧ ∃ r, sR S a 3 = some r ∧ kk L (.ref r :: st) S cs sl) := x_getR rfl
theorem xp_6_3 {i a r : Nat} : wp1 G Γ R K E kk (pc, .putfield i, 6, 3, z, w) L (.ref r :: .ref a :: st) S cs sl = (sK S a = some (6, 0) ∧ kk L st (stR S a 3 (some r)) cs sl) := x_putR rfl
theorem xg_6_4 {i a : Nat} : wp1 G Γ R K E kk (pc, .getfield i, 6, 4, z, w) L (.ref a :: st) S cs sl = (sK S a = some (6, 0) ∧ ∃ r, sR S a 4 = some r ∧ kk L (.ref r :: st) S cs sl) := x_getR rfl
theorem xp_6_4 {i a r : Nat} : wp1 G Γ R K E kk (pc, .putfield i, 6, 4, z, w) L (.ref r :: .ref a :: st) S cs sl = (sK S a = some (6, 0) ∧ kk L st (stR S a 4 (some r)) cs sl) := x_putR rfl
theorem xg_6_5 {i a : Nat} : wp1 G Γ R K E kk (pc, .getfield i, 6, 5, z, w) L (.ref a :: st) S cs sl = (sK S a = some (6, 0) ∧ ∃ r, sR S a 5 = some r ∧ kk L (.ref r :: st) S cs sl) := x_getR rfl
theorem xp_6_5 {i a r : Nat} : wp1 G Γ R K E kk (pc, .putfield i, 6, 5, z, w) L (.ref r :: .ref a :: st) S cs sl = (sK S a = some (6, 0) ∧ kk L st (stR S a 5 (some r)) cs sl) := x_putR rfl
theorem xg_7_0 {i a : Nat} : wp1 G Γ R K E kk (pc, .getfield i, 7, 0, z, w) L (.ref a :: st) S cs sl = (sK S a = some (7, 0) ∧ ∃ r, sR S a 0 = some r ∧ kk L (.ref r :: st) S cs sl) := x_getR rfl
theorem xp_7_0 {i a r : Nat} : wp1 G Γ R K E kk (pc, .putfield i, 7, 0, z, w) L (.ref r :: .ref a :: st) S cs sl = (sK S a = some (7, 0) ∧ kk L st (stR S a 0 (some r)) cs sl) := x_putR rfl
theorem xg_7_1 {i a : Nat} : wp1 G Γ R K E kk (pc, .getfield i, 7, 1, z, w) L (.ref a :: st) S cs sl = (sK S a = some (7, 0) ∧ ∃ r, sR S a 1 = some r ∧ kk L (.ref r :: st) S cs sl) := x_getR rfl
theorem xp_7_1 {i a r : Nat} : wp1 G Γ R K E kk (pc, .putfield i, 7, 1, z, w) L (.ref r :: .ref a :: st) S cs sl = (sK S a = some (7, 0) ∧ kk L st (stR S a 1 (some r)) cs sl) := x_putR rfl
theorem xg_7_2 {i a : Nat} : wp1 G Γ R K E kk (pc, .getfield i, 7, 2, z, w) L (.ref a :: st) S cs sl = (sK S a = some (7, 0) ∧ kk L (.int (sI S a 2) :: st) S cs sl) := x_getI rfl
theorem xp_7_2 {i a : Nat} {v : Int32} : wp1 G Γ R K E kk (pc, .putfield i, 7, 2, z, w) L (.int v :: .ref a :: st) S cs sl = (sK S a = some (7, 0) ∧ kk L st (stI S a 2 v) cs sl) := x_putI rfl
theorem xg_7_3 {i a : Nat} : wp1 G Γ R K E kk (pc, .getfield i, 7, 3, z, w) L (.ref a :: st) S cs sl = (sK S a = some (7, 0) ∧ ∃ r, sR S a 3 = some r ∧ kk L (.ref r :: st) S cs sl) := x_getR rfl
theorem xp_7_3 {i a r : Nat} : wp1 G Γ R K E kk (pc, .putfield i, 7, 3, z, w) L (.ref r :: .ref a :: st) S cs sl = (sK S a = some (7, 0) ∧ kk L st (stR S a 3 (some r)) cs sl) := x_putR rfl
theorem xg_7_4 {i a : Nat} : wp1 G Γ R K E kk (pc, .getfield i, 7, 4, z, w) L (.ref a :: st) S cs sl = (sK S a = some (7, 0) ∧ ∃ r, sR S a 4 = some r ∧ kk L (.ref r :: st) S cs sl) := x_getR rfl
theorem xp_7_4 {i a r : Nat} : wp1 G Γ R K E kk (pc, .putfield i, 7, 4, z, w) L (.ref r :: .ref a :: st) S cs sl = (sK S a = some (7, 0) ∧ kk L st (stR S a 4 (some r)) cs sl) := x_putR rfl
theorem xg_7_5 {i a : Nat} : wp1 G Γ R K E kk (pc, .getfield i, 7, 5, z, w) L (.ref a :: st) S cs sl = (sK S a = some (7, 0) ∧ ∃ r, sR S a 5 = some r ∧ kk L (.ref r :: st) S cs sl) := x_getR rfl
theorem xp_7_5 {i a r : Nat} : wp1 G Γ R K E kk (pc, .putfield i, 7, 5, z, w) L (.ref r :: .ref a :: st) S cs sl = (sK S a = some (7, 0) ∧ kk L st (stR S a 5 (some r)) cs sl) := x_putR rfl
theorem xg_7_6 {i a : Nat} : wp1 G Γ R K E kk (pc, .getfield i, 7, 6, z, w) L (.ref a :: st) S cs sl = (sK S a = some (7, 0) ∧ kk L (.int (sI S a 6) :: st) S cs sl) := x_getI rfl
theorem xp_7_6 {i a : Nat} {v : Int32} : wp1 G Γ R K E kk (pc, .putfield i, 7, 6, z, w) L (.int v :: .ref a :: st) S cs sl = (sK S a = some (7, 0) ∧ kk L st (stI S a 6 v) cs sl) := x_putI rfl
theorem xg_7_7 {i a : Nat} : wp1 G Γ R K E kk (pc, .getfield i, 7, 7, z, w) L (.ref a :: st) S cs sl = (sK S a = some (7, 0) ∧ kk L (.int (sI S a 7) :: st) S cs sl) := x_getI rfl
theorem xp_7_7 {i a : Nat} {v : Int32} : wp1 G Γ R K E kk (pc, .putfield i, 7, 7, z, w) L (.int v :: .ref a :: st) S cs sl = (sK S a = some (7, 0) ∧ kk L st (stI S a 7 v) cs sl) := x_putI rfl
theorem xg_7_8 {i a : Nat} : wp1 G Γ R K E kk (pc, .getfield i, 7, 8, z, w) L (.ref a :: st) S cs sl = (sK S a = some (7, 0) ∧ kk L (.int (sI S a 8) :: st) S cs sl) := x_getI rfl
theorem xp_7_8 {i a : Nat} {v : Int32} : wp1 G Γ R K E kk (pc, .putfield i, 7, 8, z, w) L (.int v :: .ref a :: st) S cs sl = (sK S a = some (7, 0) ∧ fitI .char v ∧ kk L st (stI S a 8 v) cs sl) := x_putC rfl
theorem xg_7_9 {i a : Nat} : wp1 G Γ R K E kk (pc, .getfield i, 7, 9, z, w) L (.ref a :: st) S cs sl = (sK S a = some (7, 0) ∧ kk L (.int (sI S a 9) :: st) S cs sl) := x_getI rfl
theorem xp_7_9 {i a : Nat} {v : Int32} : wp1 G Γ R K E kk (pc, .putfield i, 7, 9, z, w) L (.int v :: .ref a :: st) S cs sl = (sK S a = some (7, 0) ∧ kk L st (stI S a 9 v) cs sl) := x_putI rfl
theorem xg_7_10 {i a : Nat} : wp1 G Γ R K E kk (pc, .getfield i, 7, 10, z, w) L (.ref a :: st) S cs sl = (sK S a = some (7, 0) ∧ kk L (.int (sI S a 10) :: st) S cs sl) := x_getI rfl
theorem xp_7_10 {i a : Nat} {v : Int32} : wp1 G Γ R K E kk (pc, .putfield i, 7, 10, z, w) L (.int v :: .ref a :: st) S cs sl = (sK S a = some (7, 0) ∧ kk L st (stI S a 10 v) cs sl) := x_putI rfl
theorem xg_7_11 {i a : Nat} : wp1 G Γ R K E kk (pc, .getfield i, 7, 11, z, w) L (.ref a :: st) S cs sl = (sK S a = some (7, 0) ∧ kk L (.int (sI S a 11) :: st) S cs sl) := x_getI rfl
theorem xp_7_11 {i a : Nat} {v : Int32} : wp1 G Γ R K E kk (pc, .putfield i, 7, 11, z, w) L (.int v :: .ref a :: st) S cs sl = (sK S a = some (7, 0) ∧ kk L st (stI S a 11 v) cs sl) := x_putI rfl
theorem xg_7_12 {i a : Nat} : wp1 G Γ R K E kk (pc, .getfield i, 7, 12, z, w) L (.ref a :: st) S cs sl = (sK S a = some (7, 0) ∧ kk L (.int (sI S a 12) :: st) S cs sl) := x_getI rfl
theorem xp_7_12 {i a : Nat} {v : Int32} : wp1 G Γ R K E kk (pc, .putfield i, 7, 12, z, w) L (.int v :: .ref a :: st) S cs sl = (sK S a = some (7, 0) ∧ kk L st (stI S a 12 v) cs sl) := x_putI rfl
theorem xg_7_13 {i a : Nat} : wp1 G Γ R K E kk (pc, .getfield i, 7, 13, z, w) L (.ref a :: st) S cs sl = (sK S a = some (7, 0) ∧ kk L (.int (sI S a 13) :: st) S cs sl) := x_getI rfl
theorem xp_7_13 {i a : Nat} {v : Int32} : wp1 G Γ R K E kk (pc, .putfield i, 7, 13, z, w) L (.int v :: .ref a :: st) S cs sl = (sK S a = some (7, 0) ∧ kk L st (stI S a 13 v) cs sl) := x_putI rfl
theorem mT_X1_init : mT mi_X1_init = none := rfl
theorem mL_X1_init : mL mi_X1_init = 1 := rfl
theorem rc_X1_init : (mR mi_X1_init).cells = 4 := rfl
theorem rs_X1_init : (mR mi_X1_init).slots = 480 := rfl
theorem mT_X0_init : mT mi_X0_init = none := rfl
theorem mL_X0_init : mL mi_X0_init = 2 := rfl
theorem rc_X0_init : (mR mi_X0_init).cells = 25 := rfl
theorem rs_X0_init : (mR mi_X0_init).slots = 1959 := rfl
theorem mT_X1_copyFrom : mT mi_X1_copyFrom = none := rfl
theorem mL_X1_copyFrom : mL mi_X1_copyFrom = 2 := rfl
theorem rc_X1_copyFrom : (mR mi_X1_copyFrom).cells = 0 := rfl
theorem rs_X1_copyFrom : (mR mi_X1_copyFrom).slots = 0 := rfl
theorem mT_X0_copyFrom : mT mi_X0_copyFrom = none := rfl
theorem mL_X0_copyFrom : mL mi_X0_copyFrom = 3 := rfl
theorem rc_X0_copyFrom : (mR mi_X0_copyFrom).cells = 0 := rfl
theorem rs_X0_copyFrom : (mR mi_X0_copyFrom).slots = 0 := rfl
theorem mT_X0_isPlate : mT mi_X0_isPlate = (some .boolean) := rfl
theorem mL_X0_isPlate : mL mi_X0_isPlate = 2 := rfl
theorem rc_X0_isPlate : (mR mi_X0_isPlate).cells = 0 := rfl
theorem rs_X0_isPlate : (mR mi_X0_isPlate).slots = 0 := rfl
theorem mT_X0_isWriter : mT mi_X0_isWriter = (some .boolean) := rfl
theorem mL_X0_isWriter : mL mi_X0_isWriter = 2 := rfl
theorem rc_X0_isWriter : (mR mi_X0_isWriter).cells = 0 := rfl
theorem rs_X0_isWriter : (mR mi_X0_isWriter).slots = 0 := rfl
theorem mT_X0_glassOnDesk : mT mi_X0_glassOnDesk = (some (.object "PlateWriters$Glass")) := rfl
theorem mL_X0_glassOnDesk : mL mi_X0_glassOnDesk = 1 := rfl
theorem rc_X0_glassOnDesk : (mR mi_X0_glassOnDesk).cells = 0 := rfl
theorem rs_X0_glassOnDesk : (mR mi_X0_glassOnDesk).slots = 0 := rfl
theorem mT_X0_change : mT mi_X0_change = (some .int) := rfl
theorem mL_X0_change : mL mi_X0_change = 4 := rfl
theorem rc_X0_change : (mR mi_X0_change).cells = 0 := rfl
theorem rs_X0_change : (mR mi_X0_change).slots = 0 := rfl
theorem mT_J7_fill_e525d : mT mi_J7_fill_e525d = none := rfl
theorem mL_J7_fill_e525d : mL mi_J7_fill_e525d = 4 := rfl
theorem rc_J7_fill_e525d : (mR mi_J7_fill_e525d).cells = 0 := rfl
theorem rs_J7_fill_e525d : (mR mi_J7_fill_e525d).slots = 0 := rfl
theorem mT_J7_fill_53178 : mT mi_J7_fill_53178 = none := rfl
theorem mL_J7_fill_53178 : mL mi_J7_fill_53178 = 4 := rfl
theorem rc_J7_fill_53178 : (mR mi_J7_fill_53178).cells = 0 := rfl
theorem rs_J7_fill_53178 : (mR mi_J7_fill_53178).slots = 0 := rfl
theorem mT_X1_makeNew : mT mi_X1_makeNew = none := rfl
theorem mL_X1_makeNew : mL mi_X1_makeNew = 1 := rfl
theorem rc_X1_makeNew : (mR mi_X1_makeNew).cells = 0 := rfl
theorem rs_X1_makeNew : (mR mi_X1_makeNew).slots = 0 := rfl
theorem mT_X0_addPlate : mT mi_X0_addPlate = (some .int) := rfl
theorem mL_X0_addPlate : mL mi_X0_addPlate = 1 := rfl
theorem rc_X0_addPlate : (mR mi_X0_addPlate).cells = 0 := rfl
theorem rs_X0_addPlate : (mR mi_X0_addPlate).slots = 0 := rfl
theorem mT_X0_layPlate : mT mi_X0_layPlate = (some .int) := rfl
theorem mL_X0_layPlate : mL mi_X0_layPlate = 3 := rfl
theorem rc_X0_layPlate : (mR mi_X0_layPlate).cells = 0 := rfl
theorem rs_X0_layPlate : (mR mi_X0_layPlate).slots = 0 := rfl
theorem mT_X0_addWriter : mT mi_X0_addWriter = (some .int) := rfl
theorem mL_X0_addWriter : mL mi_X0_addWriter = 2 := rfl
theorem rc_X0_addWriter : (mR mi_X0_addWriter).cells = 0 := rfl
theorem rs_X0_addWriter : (mR mi_X0_addWriter).slots = 0 := rfl
theorem mT_X6_isPlace : mT mi_X6_isPlace = (some .boolean) := rfl
theorem mL_X6_isPlace : mL mi_X6_isPlace = 2 := rfl
theorem rc_X6_isPlace : (mR mi_X6_isPlace).cells = 0 := rfl
theorem rs_X6_isPlace : (mR mi_X6_isPlace).slots = 0 := rfl
theorem mT_X0_isEnough : mT mi_X0_isEnough = (some .boolean) := rfl
theorem mL_X0_isEnough : mL mi_X0_isEnough = 2 := rfl
theorem rc_X0_isEnough : (mR mi_X0_isEnough).cells = 0 := rfl
theorem rs_X0_isEnough : (mR mi_X0_isEnough).slots = 0 := rfl
theorem mT_J9_max_7cf53 : mT mi_J9_max_7cf53 = (some .int) := rfl
theorem mL_J9_max_7cf53 : mL mi_J9_max_7cf53 = 2 := rfl
theorem rc_J9_max_7cf53 : (mR mi_J9_max_7cf53).cells = 0 := rfl
theorem rs_J9_max_7cf53 : (mR mi_J9_max_7cf53).slots = 0 := rfl
theorem mT_X6_firstNear : mT mi_X6_firstNear = (some .int) := rfl
theorem mL_X6_firstNear : mL mi_X6_firstNear = 1 := rfl
theorem rc_X6_firstNear : (mR mi_X6_firstNear).cells = 0 := rfl
theorem rs_X6_firstNear : (mR mi_X6_firstNear).slots = 0 := rfl
theorem mT_J9_min_7cf53 : mT mi_J9_min_7cf53 = (some .int) := rfl
theorem mL_J9_min_7cf53 : mL mi_J9_min_7cf53 = 2 := rfl
theorem rc_J9_min_7cf53 : (mR mi_J9_min_7cf53).cells = 0 := rfl
theorem rs_J9_min_7cf53 : (mR mi_J9_min_7cf53).slots = 0 := rfl
theorem mT_X6_lastNear : mT mi_X6_lastNear = (some .int) := rfl
theorem mL_X6_lastNear : mL mi_X6_lastNear = 2 := rfl
theorem rc_X6_lastNear : (mR mi_X6_lastNear).cells = 0 := rfl
theorem rs_X6_lastNear : (mR mi_X6_lastNear).slots = 0 := rfl
theorem mT_X0_canBeRead : mT mi_X0_canBeRead = (some .boolean) := rfl
theorem mL_X0_canBeRead : mL mi_X0_canBeRead = 3 := rfl
theorem rc_X0_canBeRead : (mR mi_X0_canBeRead).cells = 0 := rfl
theorem rs_X0_canBeRead : (mR mi_X0_canBeRead).slots = 0 := rfl
theorem mT_J9_abs_0f7a4 : mT mi_J9_abs_0f7a4 = (some .int) := rfl
theorem mL_J9_abs_0f7a4 : mL mi_J9_abs_0f7a4 = 1 := rfl
theorem rc_J9_abs_0f7a4 : (mR mi_J9_abs_0f7a4).cells = 0 := rfl
theorem rs_J9_abs_0f7a4 : (mR mi_J9_abs_0f7a4).slots = 0 := rfl
theorem mT_X0_distance : mT mi_X0_distance = (some .int) := rfl
theorem mL_X0_distance : mL mi_X0_distance = 4 := rfl
theorem rc_X0_distance : (mR mi_X0_distance).cells = 0 := rfl
theorem rs_X0_distance : (mR mi_X0_distance).slots = 0 := rfl
theorem mT_X0_dimmed : mT mi_X0_dimmed = (some .float) := rfl
theorem mL_X0_dimmed : mL mi_X0_dimmed = 5 := rfl
theorem rc_X0_dimmed : (mR mi_X0_dimmed).cells = 0 := rfl
theorem rs_X0_dimmed : (mR mi_X0_dimmed).slots = 0 := rfl
theorem mT_X0_mark : mT mi_X0_mark = (some .int) := rfl
theorem mL_X0_mark : mL mi_X0_mark = 12 := rfl
theorem rc_X0_mark : (mR mi_X0_mark).cells = 0 := rfl
theorem rs_X0_mark : (mR mi_X0_mark).slots = 0 := rfl
theorem mT_X0_writeLetter : mT mi_X0_writeLetter = (some .int) := rfl
theorem mL_X0_writeLetter : mL mi_X0_writeLetter = 9 := rfl
theorem rc_X0_writeLetter : (mR mi_X0_writeLetter).cells = 0 := rfl
theorem rs_X0_writeLetter : (mR mi_X0_writeLetter).slots = 0 := rfl
theorem mT_X1_isFree : mT mi_X1_isFree = (some .boolean) := rfl
theorem mL_X1_isFree : mL mi_X1_isFree = 2 := rfl
theorem rc_X1_isFree : (mR mi_X1_isFree).cells = 0 := rfl
theorem rs_X1_isFree : (mR mi_X1_isFree).slots = 0 := rfl
theorem mT_X0_lightAhead : mT mi_X0_lightAhead = (some .float) := rfl
theorem mL_X0_lightAhead : mL mi_X0_lightAhead = 9 := rfl
theorem rc_X0_lightAhead : (mR mi_X0_lightAhead).cells = 0 := rfl
theorem rs_X0_lightAhead : (mR mi_X0_lightAhead).slots = 0 := rfl
theorem mT_X0_hasRoom : mT mi_X0_hasRoom = (some .boolean) := rfl
theorem mL_X0_hasRoom : mL mi_X0_hasRoom = 3 := rfl
theorem rc_X0_hasRoom : (mR mi_X0_hasRoom).cells = 0 := rfl
theorem rs_X0_hasRoom : (mR mi_X0_hasRoom).slots = 0 := rfl
theorem mT_X1_promisedPlaces : mT mi_X1_promisedPlaces = (some .int) := rfl
theorem mL_X1_promisedPlaces : mL mi_X1_promisedPlaces = 3 := rfl
theorem rc_X1_promisedPlaces : (mR mi_X1_promisedPlaces).cells = 0 := rfl
theorem rs_X1_promisedPlaces : (mR mi_X1_promisedPlaces).slots = 0 := rfl
theorem mT_X0_promisePlace : mT mi_X0_promisePlace = (some .int) := rfl
theorem mL_X0_promisePlace : mL mi_X0_promisePlace = 6 := rfl
theorem rc_X0_promisePlace : (mR mi_X0_promisePlace).cells = 0 := rfl
theorem rs_X0_promisePlace : (mR mi_X0_promisePlace).slots = 0 := rfl
theorem mT_X0_takePromiseBack : mT mi_X0_takePromiseBack = (some .int) := rfl
theorem mL_X0_takePromiseBack : mL mi_X0_takePromiseBack = 6 := rfl
theorem rc_X0_takePromiseBack : (mR mi_X0_takePromiseBack).cells = 0 := rfl
theorem rs_X0_takePromiseBack : (mR mi_X0_takePromiseBack).slots = 0 := rfl
theorem mT_X0_rubLetter : mT mi_X0_rubLetter = (some .int) := rfl
theorem mL_X0_rubLetter : mL mi_X0_rubLetter = 6 := rfl
theorem rc_X0_rubLetter : (mR mi_X0_rubLetter).cells = 0 := rfl
theorem rs_X0_rubLetter : (mR mi_X0_rubLetter).slots = 0 := rfl
theorem mT_X0_cleared : mT mi_X0_cleared = (some .float) := rfl
theorem mL_X0_cleared : mL mi_X0_cleared = 2 := rfl
theorem rc_X0_cleared : (mR mi_X0_cleared).cells = 0 := rfl
theorem rs_X0_cleared : (mR mi_X0_cleared).slots = 0 := rfl
theorem mT_X0_clearedFor : mT mi_X0_clearedFor = (some .float) := rfl
theorem mL_X0_clearedFor : mL mi_X0_clearedFor = 6 := rfl
theorem rc_X0_clearedFor : (mR mi_X0_clearedFor).cells = 0 := rfl
theorem rs_X0_clearedFor : (mR mi_X0_clearedFor).slots = 0 := rfl
theorem mT_X0_clearFor : mT mi_X0_clearFor = none := rfl
theorem mL_X0_clearFor : mL mi_X0_clearFor = 4 := rfl
theorem rc_X0_clearFor : (mR mi_X0_clearFor).cells = 0 := rfl
theorem rs_X0_clearFor : (mR mi_X0_clearFor).slots = 0 := rfl
theorem mT_X0_passHours : mT mi_X0_passHours = (some .int) := rfl
theorem mL_X0_passHours : mL mi_X0_passHours = 3 := rfl
theorem rc_X0_passHours : (mR mi_X0_passHours).cells = 0 := rfl
theorem rs_X0_passHours : (mR mi_X0_passHours).slots = 0 := rfl
theorem mT_X0_lightLeftBy : mT mi_X0_lightLeftBy = (some .float) := rfl
theorem mL_X0_lightLeftBy : mL mi_X0_lightLeftBy = 6 := rfl
theorem rc_X0_lightLeftBy : (mR mi_X0_lightLeftBy).cells = 0 := rfl
theorem rs_X0_lightLeftBy : (mR mi_X0_lightLeftBy).slots = 0 := rfl
theorem mT_X0_hoursUntilEnough : mT mi_X0_hoursUntilEnough = (some .int) := rfl
theorem mL_X0_hoursUntilEnough : mL mi_X0_hoursUntilEnough = 4 := rfl
theorem rc_X0_hoursUntilEnough : (mR mi_X0_hoursUntilEnough).cells = 0 := rfl
theorem rs_X0_hoursUntilEnough : (mR mi_X0_hoursUntilEnough).slots = 0 := rfl
theorem mT_X0_hoursUntilReadable : mT mi_X0_hoursUntilReadable = (some .int) := rfl
theorem mL_X0_hoursUntilReadable : mL mi_X0_hoursUntilReadable = 4 := rfl
theorem rc_X0_hoursUntilReadable : (mR mi_X0_hoursUntilReadable).cells = 0 := rfl
theorem rs_X0_hoursUntilReadable : (mR mi_X0_hoursUntilReadable).slots = 0 := rfl
theorem mT_X0_placeIs : mT mi_X0_placeIs = (some .boolean) := rfl
theorem mL_X0_placeIs : mL mi_X0_placeIs = 4 := rfl
theorem rc_X0_placeIs : (mR mi_X0_placeIs).cells = 0 := rfl
theorem rs_X0_placeIs : (mR mi_X0_placeIs).slots = 0 := rfl
theorem mT_X0_placesThat : mT mi_X0_placesThat = (some .int) := rfl
theorem mL_X0_placesThat : mL mi_X0_placesThat = 5 := rfl
theorem rc_X0_placesThat : (mR mi_X0_placesThat).cells = 0 := rfl
theorem rs_X0_placesThat : (mR mi_X0_placesThat).slots = 0 := rfl
theorem mT_X0_placesOfWriter : mT mi_X0_placesOfWriter = (some .int) := rfl
theorem mL_X0_placesOfWriter : mL mi_X0_placesOfWriter = 8 := rfl
theorem rc_X0_placesOfWriter : (mR mi_X0_placesOfWriter).cells = 0 := rfl
theorem rs_X0_placesOfWriter : (mR mi_X0_placesOfWriter).slots = 0 := rfl
theorem mT_X1_leastLight : mT mi_X1_leastLight = (some .float) := rfl
theorem mL_X1_leastLight : mL mi_X1_leastLight = 3 := rfl
theorem rc_X1_leastLight : (mR mi_X1_leastLight).cells = 0 := rfl
theorem rs_X1_leastLight : (mR mi_X1_leastLight).slots = 0 := rfl
theorem mT_X1_sumOfLight : mT mi_X1_sumOfLight = (some .float) := rfl
theorem mL_X1_sumOfLight : mL mi_X1_sumOfLight = 3 := rfl
theorem rc_X1_sumOfLight : (mR mi_X1_sumOfLight).cells = 0 := rfl
theorem rs_X1_sumOfLight : (mR mi_X1_sumOfLight).slots = 0 := rfl
theorem mT_X2_init : mT mi_X2_init = none := rfl
theorem mL_X2_init : mL mi_X2_init = 2 := rfl
theorem rc_X2_init : (mR mi_X2_init).cells = 183 := rfl
theorem rs_X2_init : (mR mi_X2_init).slots = 13783 := rfl
theorem mT_X2_prepare : mT mi_X2_prepare = none := rfl
theorem mL_X2_prepare : mL mi_X2_prepare = 2 := rfl
theorem rc_X2_prepare : (mR mi_X2_prepare).cells = 0 := rfl
theorem rs_X2_prepare : (mR mi_X2_prepare).slots = 0 := rfl
theorem mT_X2_keepUnlessError : mT mi_X2_keepUnlessError = (some .int) := rfl
theorem mL_X2_keepUnlessError : mL mi_X2_keepUnlessError = 2 := rfl
theorem rc_X2_keepUnlessError : (mR mi_X2_keepUnlessError).cells = 0 := rfl
theorem rs_X2_keepUnlessError : (mR mi_X2_keepUnlessError).slots = 0 := rfl
theorem mT_X2_takeBackInto : mT mi_X2_takeBackInto = (some .int) := rfl
theorem mL_X2_takeBackInto : mL mi_X2_takeBackInto = 2 := rfl
theorem rc_X2_takeBackInto : (mR mi_X2_takeBackInto).cells = 0 := rfl
theorem rs_X2_takeBackInto : (mR mi_X2_takeBackInto).slots = 0 := rfl
theorem mT_X4_init : mT mi_X4_init = none := rfl
theorem mL_X4_init : mL mi_X4_init = 1 := rfl
theorem rc_X4_init : (mR mi_X4_init).cells = 1 := rfl
theorem rs_X4_init : (mR mi_X4_init).slots = 80 := rfl
theorem mT_X3_init : mT mi_X3_init = none := rfl
theorem mL_X3_init : mL mi_X3_init = 1 := rfl
theorem rc_X3_init : (mR mi_X3_init).cells = 7 := rfl
theorem rs_X3_init : (mR mi_X3_init).slots = 482 := rfl
theorem mT_X3_look : mT mi_X3_look = (some .char) := rfl
theorem mL_X3_look : mL mi_X3_look = 1 := rfl
theorem rc_X3_look : (mR mi_X3_look).cells = 0 := rfl
theorem rs_X3_look : (mR mi_X3_look).slots = 0 := rfl
theorem mT_X3_reads : mT mi_X3_reads = (some .boolean) := rfl
theorem mL_X3_reads : mL mi_X3_reads = 2 := rfl
theorem rc_X3_reads : (mR mi_X3_reads).cells = 0 := rfl
theorem rs_X3_reads : (mR mi_X3_reads).slots = 0 := rfl
theorem mT_X3_add : mT mi_X3_add = (some .boolean) := rfl
theorem mL_X3_add : mL mi_X3_add = 3 := rfl
theorem rc_X3_add : (mR mi_X3_add).cells = 0 := rfl
theorem rs_X3_add : (mR mi_X3_add).slots = 0 := rfl
theorem mT_X3_isDigit : mT mi_X3_isDigit = (some .boolean) := rfl
theorem mL_X3_isDigit : mL mi_X3_isDigit = 1 := rfl
theorem rc_X3_isDigit : (mR mi_X3_isDigit).cells = 0 := rfl
theorem rs_X3_isDigit : (mR mi_X3_isDigit).slots = 0 := rfl
theorem mT_X3_readFirstDigit : mT mi_X3_readFirstDigit = (some .boolean) := rfl
theorem mL_X3_readFirstDigit : mL mi_X3_readFirstDigit = 1 := rfl
theorem rc_X3_readFirstDigit : (mR mi_X3_readFirstDigit).cells = 0 := rfl
theorem rs_X3_readFirstDigit : (mR mi_X3_readFirstDigit).slots = 0 := rfl
theorem mT_X3_readNumber : mT mi_X3_readNumber = (some .boolean) := rfl
theorem mL_X3_readNumber : mL mi_X3_readNumber = 1 := rfl
theorem rc_X3_readNumber : (mR mi_X3_readNumber).cells = 0 := rfl
theorem rs_X3_readNumber : (mR mi_X3_readNumber).slots = 0 := rfl
theorem mT_X3_readPlace : mT mi_X3_readPlace = (some .boolean) := rfl
theorem mL_X3_readPlace : mL mi_X3_readPlace = 1 := rfl
theorem rc_X3_readPlace : (mR mi_X3_readPlace).cells = 0 := rfl
theorem rs_X3_readPlace : (mR mi_X3_readPlace).slots = 0 := rfl
theorem mT_X3_isLetter : mT mi_X3_isLetter = (some .boolean) := rfl
theorem mL_X3_isLetter : mL mi_X3_isLetter = 1 := rfl
theorem rc_X3_isLetter : (mR mi_X3_isLetter).cells = 0 := rfl
theorem rs_X3_isLetter : (mR mi_X3_isLetter).slots = 0 := rfl
theorem mT_X3_readLetters : mT mi_X3_readLetters = (some .boolean) := rfl
theorem mL_X3_readLetters : mL mi_X3_readLetters = 1 := rfl
theorem rc_X3_readLetters : (mR mi_X3_readLetters).cells = 0 := rfl
theorem rs_X3_readLetters : (mR mi_X3_readLetters).slots = 0 := rfl
theorem mT_X3_readFirstNumber : mT mi_X3_readFirstNumber = (some .boolean) := rfl
theorem mL_X3_readFirstNumber : mL mi_X3_readFirstNumber = 2 := rfl
theorem rc_X3_readFirstNumber : (mR mi_X3_readFirstNumber).cells = 0 := rfl
theorem rs_X3_readFirstNumber : (mR mi_X3_readFirstNumber).slots = 0 := rfl
theorem mT_X3_readOrder : mT mi_X3_readOrder = (some .boolean) := rfl
theorem mL_X3_readOrder : mL mi_X3_readOrder = 2 := rfl
theorem rc_X3_readOrder : (mR mi_X3_readOrder).cells = 0 := rfl
theorem rs_X3_readOrder : (mR mi_X3_readOrder).slots = 0 := rfl
theorem mT_X3_readPad : mT mi_X3_readPad = (some .int) := rfl
theorem mL_X3_readPad : mL mi_X3_readPad = 2 := rfl
theorem rc_X3_readPad : (mR mi_X3_readPad).cells = 0 := rfl
theorem rs_X3_readPad : (mR mi_X3_readPad).slots = 0 := rfl
theorem mT_X4_codeIn : mT mi_X4_codeIn = (some .int) := rfl
theorem mL_X4_codeIn : mL mi_X4_codeIn = 3 := rfl
theorem rc_X4_codeIn : (mR mi_X4_codeIn).cells = 0 := rfl
theorem rs_X4_codeIn : (mR mi_X4_codeIn).slots = 0 := rfl
theorem mT_X4_charactersIn : mT mi_X4_charactersIn = (some .int) := rfl
theorem mL_X4_charactersIn : mL mi_X4_charactersIn = 4 := rfl
theorem rc_X4_charactersIn : (mR mi_X4_charactersIn).cells = 0 := rfl
theorem rs_X4_charactersIn : (mR mi_X4_charactersIn).slots = 0 := rfl
theorem mT_X4_append : mT mi_X4_append = (some .int) := rfl
theorem mL_X4_append : mL mi_X4_append = 5 := rfl
theorem rc_X4_append : (mR mi_X4_append).cells = 0 := rfl
theorem rs_X4_append : (mR mi_X4_append).slots = 0 := rfl
theorem mT_X4_empty : mT mi_X4_empty = (some .int) := rfl
theorem mL_X4_empty : mL mi_X4_empty = 2 := rfl
theorem rc_X4_empty : (mR mi_X4_empty).cells = 0 := rfl
theorem rs_X4_empty : (mR mi_X4_empty).slots = 0 := rfl
theorem mT_X5_init : mT mi_X5_init = none := rfl
theorem mL_X5_init : mL mi_X5_init = 1 := rfl
theorem rc_X5_init : (mR mi_X5_init).cells = 6 := rfl
theorem rs_X5_init : (mR mi_X5_init).slots = 604 := rfl
theorem mT_X5_lettersSpoiled : mT mi_X5_lettersSpoiled = (some .int) := rfl
theorem mL_X5_lettersSpoiled : mL mi_X5_lettersSpoiled = 5 := rfl
theorem rc_X5_lettersSpoiled : (mR mi_X5_lettersSpoiled).cells = 0 := rfl
theorem rs_X5_lettersSpoiled : (mR mi_X5_lettersSpoiled).slots = 0 := rfl
theorem mT_X5_promisesSpoiled : mT mi_X5_promisesSpoiled = (some .int) := rfl
theorem mL_X5_promisesSpoiled : mL mi_X5_promisesSpoiled = 8 := rfl
theorem rc_X5_promisesSpoiled : (mR mi_X5_promisesSpoiled).cells = 0 := rfl
theorem rs_X5_promisesSpoiled : (mR mi_X5_promisesSpoiled).slots = 0 := rfl
theorem mT_X5_roomLeft : mT mi_X5_roomLeft = (some .int) := rfl
theorem mL_X5_roomLeft : mL mi_X5_roomLeft = 5 := rfl
theorem rc_X5_roomLeft : (mR mi_X5_roomLeft).cells = 0 := rfl
theorem rs_X5_roomLeft : (mR mi_X5_roomLeft).slots = 0 := rfl
theorem mT_X5_lookAhead : mT mi_X5_lookAhead = none := rfl
theorem mL_X5_lookAhead : mL mi_X5_lookAhead = 5 := rfl
theorem rc_X5_lookAhead : (mR mi_X5_lookAhead).cells = 0 := rfl
theorem rs_X5_lookAhead : (mR mi_X5_lookAhead).slots = 0 := rfl
theorem mT_X5_brightest : mT mi_X5_brightest = (some .int) := rfl
theorem mL_X5_brightest : mL mi_X5_brightest = 5 := rfl
theorem rc_X5_brightest : (mR mi_X5_brightest).cells = 0 := rfl
theorem rs_X5_brightest : (mR mi_X5_brightest).slots = 0 := rfl
theorem mT_X5_brightestOf : mT mi_X5_brightestOf = (some .int) := rfl
theorem mL_X5_brightestOf : mL mi_X5_brightestOf = 3 := rfl
theorem rc_X5_brightestOf : (mR mi_X5_brightestOf).cells = 0 := rfl
theorem rs_X5_brightestOf : (mR mi_X5_brightestOf).slots = 0 := rfl
theorem mT_X5_lookAround : mT mi_X5_lookAround = none := rfl
theorem mL_X5_lookAround : mL mi_X5_lookAround = 6 := rfl
theorem rc_X5_lookAround : (mR mi_X5_lookAround).cells = 0 := rfl
theorem rs_X5_lookAround : (mR mi_X5_lookAround).slots = 0 := rfl
theorem mT_X5_lettersUntilFull : mT mi_X5_lettersUntilFull = (some .int) := rfl
theorem mL_X5_lettersUntilFull : mL mi_X5_lettersUntilFull = 6 := rfl
theorem rc_X5_lettersUntilFull : (mR mi_X5_lettersUntilFull).cells = 0 := rfl
theorem rs_X5_lettersUntilFull : (mR mi_X5_lettersUntilFull).slots = 0 := rfl
theorem mT_X6_init : mT mi_X6_init = none := rfl
theorem mL_X6_init : mL mi_X6_init = 2 := rfl
theorem rc_X6_init : (mR mi_X6_init).cells = 279 := rfl
theorem rs_X6_init : (mR mi_X6_init).slots = 20794 := rfl
theorem mT_X6_set : mT mi_X6_set = (some .int) := rfl
theorem mL_X6_set : mL mi_X6_set = 3 := rfl
theorem rc_X6_set : (mR mi_X6_set).cells = 0 := rfl
theorem rs_X6_set : (mR mi_X6_set).slots = 0 := rfl
theorem mT_X6_plate : mT mi_X6_plate = (some .int) := rfl
theorem mL_X6_plate : mL mi_X6_plate = 1 := rfl
theorem rc_X6_plate : (mR mi_X6_plate).cells = 0 := rfl
theorem rs_X6_plate : (mR mi_X6_plate).slots = 0 := rfl
theorem mT_X6_lay : mT mi_X6_lay = (some .int) := rfl
theorem mL_X6_lay : mL mi_X6_lay = 2 := rfl
theorem rc_X6_lay : (mR mi_X6_lay).cells = 0 := rfl
theorem rs_X6_lay : (mR mi_X6_lay).slots = 0 := rfl
theorem mT_X6_writer : mT mi_X6_writer = (some .int) := rfl
theorem mL_X6_writer : mL mi_X6_writer = 2 := rfl
theorem rc_X6_writer : (mR mi_X6_writer).cells = 0 := rfl
theorem rs_X6_writer : (mR mi_X6_writer).slots = 0 := rfl
theorem mT_X6_write : mT mi_X6_write = (some .int) := rfl
theorem mL_X6_write : mL mi_X6_write = 5 := rfl
theorem rc_X6_write : (mR mi_X6_write).cells = 0 := rfl
theorem rs_X6_write : (mR mi_X6_write).slots = 0 := rfl
theorem mT_X6_promise : mT mi_X6_promise = (some .int) := rfl
theorem mL_X6_promise : mL mi_X6_promise = 4 := rfl
theorem rc_X6_promise : (mR mi_X6_promise).cells = 0 := rfl
theorem rs_X6_promise : (mR mi_X6_promise).slots = 0 := rfl
theorem mT_X6_takeBack : mT mi_X6_takeBack = (some .int) := rfl
theorem mL_X6_takeBack : mL mi_X6_takeBack = 3 := rfl
theorem rc_X6_takeBack : (mR mi_X6_takeBack).cells = 0 := rfl
theorem rs_X6_takeBack : (mR mi_X6_takeBack).slots = 0 := rfl
theorem mT_X6_rub : mT mi_X6_rub = (some .int) := rfl
theorem mL_X6_rub : mL mi_X6_rub = 3 := rfl
theorem rc_X6_rub : (mR mi_X6_rub).cells = 0 := rfl
theorem rs_X6_rub : (mR mi_X6_rub).slots = 0 := rfl
theorem mT_X6_pass : mT mi_X6_pass = (some .int) := rfl
theorem mL_X6_pass : mL mi_X6_pass = 2 := rfl
theorem rc_X6_pass : (mR mi_X6_pass).cells = 0 := rfl
theorem rs_X6_pass : (mR mi_X6_pass).slots = 0 := rfl
theorem mT_X6_bitsOfFloat : mT mi_X6_bitsOfFloat = (some .int) := rfl
theorem mL_X6_bitsOfFloat : mL mi_X6_bitsOfFloat = 4 := rfl
theorem rc_X6_bitsOfFloat : (mR mi_X6_bitsOfFloat).cells = 0 := rfl
theorem rs_X6_bitsOfFloat : (mR mi_X6_bitsOfFloat).slots = 0 := rfl
theorem mT_X6_at : mT mi_X6_at = (some .int) := rfl
theorem mL_X6_at : mL mi_X6_at = 6 := rfl
theorem rc_X6_at : (mR mi_X6_at).cells = 0 := rfl
theorem rs_X6_at : (mR mi_X6_at).slots = 0 := rfl
theorem mT_X6_columnsThat : mT mi_X6_columnsThat = (some .int) := rfl
theorem mL_X6_columnsThat : mL mi_X6_columnsThat = 6 := rfl
theorem rc_X6_columnsThat : (mR mi_X6_columnsThat).cells = 0 := rfl
theorem rs_X6_columnsThat : (mR mi_X6_columnsThat).slots = 0 := rfl
theorem mT_X6_longestRun : mT mi_X6_longestRun = (some .int) := rfl
theorem mL_X6_longestRun : mL mi_X6_longestRun = 4 := rfl
theorem rc_X6_longestRun : (mR mi_X6_longestRun).cells = 0 := rfl
theorem rs_X6_longestRun : (mR mi_X6_longestRun).slots = 0 := rfl
theorem mT_X6_row : mT mi_X6_row = (some .int) := rfl
theorem mL_X6_row : mL mi_X6_row = 4 := rfl
theorem rc_X6_row : (mR mi_X6_row).cells = 0 := rfl
theorem rs_X6_row : (mR mi_X6_row).slots = 0 := rfl
theorem mT_X6_of : mT mi_X6_of = (some .int) := rfl
theorem mL_X6_of : mL mi_X6_of = 3 := rfl
theorem rc_X6_of : (mR mi_X6_of).cells = 0 := rfl
theorem rs_X6_of : (mR mi_X6_of).slots = 0 := rfl
theorem mT_X6_ofPlate : mT mi_X6_ofPlate = (some .int) := rfl
theorem mL_X6_ofPlate : mL mi_X6_ofPlate = 4 := rfl
theorem rc_X6_ofPlate : (mR mi_X6_ofPlate).cells = 0 := rfl
theorem rs_X6_ofPlate : (mR mi_X6_ofPlate).slots = 0 := rfl
theorem mT_X6_count : mT mi_X6_count = (some .int) := rfl
theorem mL_X6_count : mL mi_X6_count = 2 := rfl
theorem rc_X6_count : (mR mi_X6_count).cells = 0 := rfl
theorem rs_X6_count : (mR mi_X6_count).slots = 0 := rfl
theorem mT_X6_bitsOfMean : mT mi_X6_bitsOfMean = (some .long) := rfl
theorem mL_X6_bitsOfMean : mL mi_X6_bitsOfMean = 5 := rfl
theorem rc_X6_bitsOfMean : (mR mi_X6_bitsOfMean).cells = 0 := rfl
theorem rs_X6_bitsOfMean : (mR mi_X6_bitsOfMean).slots = 0 := rfl
theorem mT_X6_mean : mT mi_X6_mean = (some .long) := rfl
theorem mL_X6_mean : mL mi_X6_mean = 5 := rfl
theorem rc_X6_mean : (mR mi_X6_mean).cells = 0 := rfl
theorem rs_X6_mean : (mR mi_X6_mean).slots = 0 := rfl
theorem mT_X6_ifWritten : mT mi_X6_ifWritten = (some .int) := rfl
theorem mL_X6_ifWritten : mL mi_X6_ifWritten = 7 := rfl
theorem rc_X6_ifWritten : (mR mi_X6_ifWritten).cells = 0 := rfl
theorem rs_X6_ifWritten : (mR mi_X6_ifWritten).slots = 0 := rfl
theorem mT_X6_bestPlace : mT mi_X6_bestPlace = (some .int) := rfl
theorem mL_X6_bestPlace : mL mi_X6_bestPlace = 2 := rfl
theorem rc_X6_bestPlace : (mR mi_X6_bestPlace).cells = 0 := rfl
theorem rs_X6_bestPlace : (mR mi_X6_bestPlace).slots = 0 := rfl
theorem mT_X6_fills : mT mi_X6_fills = (some .int) := rfl
theorem mL_X6_fills : mL mi_X6_fills = 3 := rfl
theorem rc_X6_fills : (mR mi_X6_fills).cells = 0 := rfl
theorem rs_X6_fills : (mR mi_X6_fills).slots = 0 := rfl
theorem mT_X6_whoDims : mT mi_X6_whoDims = (some .int) := rfl
theorem mL_X6_whoDims : mL mi_X6_whoDims = 8 := rfl
theorem rc_X6_whoDims : (mR mi_X6_whoDims).cells = 0 := rfl
theorem rs_X6_whoDims : (mR mi_X6_whoDims).slots = 0 := rfl
theorem mT_X6_readableIn : mT mi_X6_readableIn = (some .int) := rfl
theorem mL_X6_readableIn : mL mi_X6_readableIn = 2 := rfl
theorem rc_X6_readableIn : (mR mi_X6_readableIn).cells = 0 := rfl
theorem rs_X6_readableIn : (mR mi_X6_readableIn).slots = 0 := rfl
theorem mT_X6_put : mT mi_X6_put = (some .int) := rfl
theorem mL_X6_put : mL mi_X6_put = 3 := rfl
theorem rc_X6_put : (mR mi_X6_put).cells = 0 := rfl
theorem rs_X6_put : (mR mi_X6_put).slots = 0 := rfl
theorem mT_X6_wipe : mT mi_X6_wipe = (some .int) := rfl
theorem mL_X6_wipe : mL mi_X6_wipe = 1 := rfl
theorem rc_X6_wipe : (mR mi_X6_wipe).cells = 0 := rfl
theorem rs_X6_wipe : (mR mi_X6_wipe).slots = 0 := rfl
theorem mT_X6_fault : mT mi_X6_fault = (some .int) := rfl
theorem mL_X6_fault : mL mi_X6_fault = 1 := rfl
theorem rc_X6_fault : (mR mi_X6_fault).cells = 0 := rfl
theorem rs_X6_fault : (mR mi_X6_fault).slots = 0 := rfl
theorem mT_X6_obey : mT mi_X6_obey = (some .int) := rfl
theorem mL_X6_obey : mL mi_X6_obey = 5 := rfl
theorem rc_X6_obey : (mR mi_X6_obey).cells = 0 := rfl
theorem rs_X6_obey : (mR mi_X6_obey).slots = 0 := rfl
theorem mT_X6_carryOut : mT mi_X6_carryOut = (some .int) := rfl
theorem mL_X6_carryOut : mL mi_X6_carryOut = 2 := rfl
theorem rc_X6_carryOut : (mR mi_X6_carryOut).cells = 0 := rfl
theorem rs_X6_carryOut : (mR mi_X6_carryOut).slots = 0 := rfl
theorem mT_X6_undo : mT mi_X6_undo = (some .int) := rfl
theorem mL_X6_undo : mL mi_X6_undo = 1 := rfl
theorem rc_X6_undo : (mR mi_X6_undo).cells = 0 := rfl
theorem rs_X6_undo : (mR mi_X6_undo).slots = 0 := rfl
theorem mT_X6_save : mT mi_X6_save = (some .int) := rfl
theorem mL_X6_save : mL mi_X6_save = 2 := rfl
theorem rc_X6_save : (mR mi_X6_save).cells = 0 := rfl
theorem rs_X6_save : (mR mi_X6_save).slots = 0 := rfl
theorem mT_X6_restore : mT mi_X6_restore = (some .int) := rfl
theorem mL_X6_restore : mL mi_X6_restore = 2 := rfl
theorem rc_X6_restore : (mR mi_X6_restore).cells = 0 := rfl
theorem rs_X6_restore : (mR mi_X6_restore).slots = 0 := rfl
theorem mT_X7_init : mT mi_X7_init = none := rfl
theorem mL_X7_init : mL mi_X7_init = 1 := rfl
theorem rc_X7_init : (mR mi_X7_init).cells = 5 := rfl
theorem rs_X7_init : (mR mi_X7_init).slots = 14832 := rfl
theorem mT_X7_in : mT mi_X7_in = (some .boolean) := rfl
theorem mL_X7_in : mL mi_X7_in = 6 := rfl
theorem rc_X7_in : (mR mi_X7_in).cells = 0 := rfl
theorem rs_X7_in : (mR mi_X7_in).slots = 0 := rfl
theorem mT_X7_copies : mT mi_X7_copies = none := rfl
theorem mL_X7_copies : mL mi_X7_copies = 4 := rfl
theorem rc_X7_copies : (mR mi_X7_copies).cells = 0 := rfl
theorem rs_X7_copies : (mR mi_X7_copies).slots = 0 := rfl
theorem mT_X7_changes : mT mi_X7_changes = none := rfl
theorem mL_X7_changes : mL mi_X7_changes = 2 := rfl
theorem rc_X7_changes : (mR mi_X7_changes).cells = 0 := rfl
theorem rs_X7_changes : (mR mi_X7_changes).slots = 0 := rfl
theorem mT_X7_inkAt : mT mi_X7_inkAt = (some .int) := rfl
theorem mL_X7_inkAt : mL mi_X7_inkAt = 3 := rfl
theorem rc_X7_inkAt : (mR mi_X7_inkAt).cells = 0 := rfl
theorem rs_X7_inkAt : (mR mi_X7_inkAt).slots = 0 := rfl
theorem mT_X7_lightAt : mT mi_X7_lightAt = (some .int) := rfl
theorem mL_X7_lightAt : mL mi_X7_lightAt = 3 := rfl
theorem rc_X7_lightAt : (mR mi_X7_lightAt).cells = 0 := rfl
theorem rs_X7_lightAt : (mR mi_X7_lightAt).slots = 0 := rfl
theorem mT_X7_hasLetter : mT mi_X7_hasLetter = (some .boolean) := rfl
theorem mL_X7_hasLetter : mL mi_X7_hasLetter = 4 := rfl
theorem rc_X7_hasLetter : (mR mi_X7_hasLetter).cells = 0 := rfl
theorem rs_X7_hasLetter : (mR mi_X7_hasLetter).slots = 0 := rfl
theorem mT_X7_promisedTo : mT mi_X7_promisedTo = (some .int) := rfl
theorem mL_X7_promisedTo : mL mi_X7_promisedTo = 4 := rfl
theorem rc_X7_promisedTo : (mR mi_X7_promisedTo).cells = 0 := rfl
theorem rs_X7_promisedTo : (mR mi_X7_promisedTo).slots = 0 := rfl
theorem mT_X7_clouded : mT mi_X7_clouded = (some .float) := rfl
theorem mL_X7_clouded : mL mi_X7_clouded = 10 := rfl
theorem rc_X7_clouded : (mR mi_X7_clouded).cells = 0 := rfl
theorem rs_X7_clouded : (mR mi_X7_clouded).slots = 0 := rfl
theorem mT_X7_isBright : mT mi_X7_isBright = (some .boolean) := rfl
theorem mL_X7_isBright : mL mi_X7_isBright = 3 := rfl
theorem rc_X7_isBright : (mR mi_X7_isBright).cells = 0 := rfl
theorem rs_X7_isBright : (mR mi_X7_isBright).slots = 0 := rfl
theorem mT_X7_ahead : mT mi_X7_ahead = (some .float) := rfl
theorem mL_X7_ahead : mL mi_X7_ahead = 7 := rfl
theorem rc_X7_ahead : (mR mi_X7_ahead).cells = 0 := rfl
theorem rs_X7_ahead : (mR mi_X7_ahead).slots = 0 := rfl
theorem mT_X7_hasRoom : mT mi_X7_hasRoom = (some .boolean) := rfl
theorem mL_X7_hasRoom : mL mi_X7_hasRoom = 4 := rfl
theorem rc_X7_hasRoom : (mR mi_X7_hasRoom).cells = 0 := rfl
theorem rs_X7_hasRoom : (mR mi_X7_hasRoom).slots = 0 := rfl
theorem mT_X7_canRead : mT mi_X7_canRead = (some .boolean) := rfl
theorem mL_X7_canRead : mL mi_X7_canRead = 4 := rfl
theorem rc_X7_canRead : (mR mi_X7_canRead).cells = 0 := rfl
theorem rs_X7_canRead : (mR mi_X7_canRead).slots = 0 := rfl
theorem mT_X7_rooms : mT mi_X7_rooms = (some .int) := rfl
theorem mL_X7_rooms : mL mi_X7_rooms = 5 := rfl
theorem rc_X7_rooms : (mR mi_X7_rooms).cells = 0 := rfl
theorem rs_X7_rooms : (mR mi_X7_rooms).slots = 0 := rfl
theorem mT_X7_looks : mT mi_X7_looks = none := rfl
theorem mL_X7_looks : mL mi_X7_looks = 3 := rfl
theorem rc_X7_looks : (mR mi_X7_looks).cells = 0 := rfl
theorem rs_X7_looks : (mR mi_X7_looks).slots = 0 := rfl
theorem mT_X7_spoilt : mT mi_X7_spoilt = (some .int) := rfl
theorem mL_X7_spoilt : mL mi_X7_spoilt = 6 := rfl
theorem rc_X7_spoilt : (mR mi_X7_spoilt).cells = 0 := rfl
theorem rs_X7_spoilt : (mR mi_X7_spoilt).slots = 0 := rfl
theorem mT_X7_writes : mT mi_X7_writes = none := rfl
theorem mL_X7_writes : mL mi_X7_writes = 8 := rfl
theorem rc_X7_writes : (mR mi_X7_writes).cells = 0 := rfl
theorem rs_X7_writes : (mR mi_X7_writes).slots = 0 := rfl
theorem mT_X7_best : mT mi_X7_best = (some .int) := rfl
theorem mL_X7_best : mL mi_X7_best = 9 := rfl
theorem rc_X7_best : (mR mi_X7_best).cells = 0 := rfl
theorem rs_X7_best : (mR mi_X7_best).slots = 0 := rfl
theorem mT_X7_clears : mT mi_X7_clears = none := rfl
theorem mL_X7_clears : mL mi_X7_clears = 5 := rfl
theorem rc_X7_clears : (mR mi_X7_clears).cells = 0 := rfl
theorem rs_X7_clears : (mR mi_X7_clears).slots = 0 := rfl
theorem mT_X7_isWriter : mT mi_X7_isWriter = (some .boolean) := rfl
theorem mL_X7_isWriter : mL mi_X7_isWriter = 2 := rfl
theorem rc_X7_isWriter : (mR mi_X7_isWriter).cells = 0 := rfl
theorem rs_X7_isWriter : (mR mi_X7_isWriter).slots = 0 := rfl
theorem mT_X7_isPlate : mT mi_X7_isPlate = (some .boolean) := rfl
theorem mL_X7_isPlate : mL mi_X7_isPlate = 2 := rfl
theorem rc_X7_isPlate : (mR mi_X7_isPlate).cells = 0 := rfl
theorem rs_X7_isPlate : (mR mi_X7_isPlate).slots = 0 := rfl
theorem mT_X7_isRow : mT mi_X7_isRow = (some .boolean) := rfl
theorem mL_X7_isRow : mL mi_X7_isRow = 1 := rfl
theorem rc_X7_isRow : (mR mi_X7_isRow).cells = 0 := rfl
theorem rs_X7_isRow : (mR mi_X7_isRow).slots = 0 := rfl
theorem mT_X7_isThere : mT mi_X7_isThere = (some .boolean) := rfl
theorem mL_X7_isThere : mL mi_X7_isThere = 3 := rfl
theorem rc_X7_isThere : (mR mi_X7_isThere).cells = 0 := rfl
theorem rs_X7_isThere : (mR mi_X7_isThere).slots = 0 := rfl
theorem mT_X7_spotOf : mT mi_X7_spotOf = (some .int) := rfl
theorem mL_X7_spotOf : mL mi_X7_spotOf = 2 := rfl
theorem rc_X7_spotOf : (mR mi_X7_spotOf).cells = 0 := rfl
theorem rs_X7_spotOf : (mR mi_X7_spotOf).slots = 0 := rfl
theorem mT_X7_layError : mT mi_X7_layError = (some .int) := rfl
theorem mL_X7_layError : mL mi_X7_layError = 2 := rfl
theorem rc_X7_layError : (mR mi_X7_layError).cells = 0 := rfl
theorem rs_X7_layError : (mR mi_X7_layError).slots = 0 := rfl
theorem mT_X7_writerError : mT mi_X7_writerError = (some .int) := rfl
theorem mL_X7_writerError : mL mi_X7_writerError = 2 := rfl
theorem rc_X7_writerError : (mR mi_X7_writerError).cells = 0 := rfl
theorem rs_X7_writerError : (mR mi_X7_writerError).slots = 0 := rfl
theorem mT_X7_writeError : mT mi_X7_writeError = (some .int) := rfl
theorem mL_X7_writeError : mL mi_X7_writeError = 8 := rfl
theorem rc_X7_writeError : (mR mi_X7_writeError).cells = 0 := rfl
theorem rs_X7_writeError : (mR mi_X7_writeError).slots = 0 := rfl
theorem mT_X7_promiseError : mT mi_X7_promiseError = (some .int) := rfl
theorem mL_X7_promiseError : mL mi_X7_promiseError = 4 := rfl
theorem rc_X7_promiseError : (mR mi_X7_promiseError).cells = 0 := rfl
theorem rs_X7_promiseError : (mR mi_X7_promiseError).slots = 0 := rfl
theorem mT_X7_rubError : mT mi_X7_rubError = (some .int) := rfl
theorem mL_X7_rubError : mL mi_X7_rubError = 3 := rfl
theorem rc_X7_rubError : (mR mi_X7_rubError).cells = 0 := rfl
theorem rs_X7_rubError : (mR mi_X7_rubError).slots = 0 := rfl
theorem mT_X7_passError : mT mi_X7_passError = (some .int) := rfl
theorem mL_X7_passError : mL mi_X7_passError = 2 := rfl
theorem rc_X7_passError : (mR mi_X7_passError).cells = 0 := rfl
theorem rs_X7_passError : (mR mi_X7_passError).slots = 0 := rfl
theorem mT_X7_comes : mT mi_X7_comes = (some .int) := rfl
theorem mL_X7_comes : mL mi_X7_comes = 3 := rfl
theorem rc_X7_comes : (mR mi_X7_comes).cells = 0 := rfl
theorem rs_X7_comes : (mR mi_X7_comes).slots = 0 := rfl
theorem mT_X7_lays : mT mi_X7_lays = (some .int) := rfl
theorem mL_X7_lays : mL mi_X7_lays = 3 := rfl
theorem rc_X7_lays : (mR mi_X7_lays).cells = 0 := rfl
theorem rs_X7_lays : (mR mi_X7_lays).slots = 0 := rfl
theorem mT_X7_joins : mT mi_X7_joins = (some .int) := rfl
theorem mL_X7_joins : mL mi_X7_joins = 3 := rfl
theorem rc_X7_joins : (mR mi_X7_joins).cells = 0 := rfl
theorem rs_X7_joins : (mR mi_X7_joins).slots = 0 := rfl
theorem mT_X7_pens : mT mi_X7_pens = (some .int) := rfl
theorem mL_X7_pens : mL mi_X7_pens = 5 := rfl
theorem rc_X7_pens : (mR mi_X7_pens).cells = 0 := rfl
theorem rs_X7_pens : (mR mi_X7_pens).slots = 0 := rfl
theorem mT_X7_promisedOn : mT mi_X7_promisedOn = (some .int) := rfl
theorem mL_X7_promisedOn : mL mi_X7_promisedOn = 4 := rfl
theorem rc_X7_promisedOn : (mR mi_X7_promisedOn).cells = 0 := rfl
theorem rs_X7_promisedOn : (mR mi_X7_promisedOn).slots = 0 := rfl
theorem mT_X7_promises : mT mi_X7_promises = (some .int) := rfl
theorem mL_X7_promises : mL mi_X7_promises = 3 := rfl
theorem rc_X7_promises : (mR mi_X7_promises).cells = 0 := rfl
theorem rs_X7_promises : (mR mi_X7_promises).slots = 0 := rfl
theorem mT_X7_rubs : mT mi_X7_rubs = (some .int) := rfl
theorem mL_X7_rubs : mL mi_X7_rubs = 4 := rfl
theorem rc_X7_rubs : (mR mi_X7_rubs).cells = 0 := rfl
theorem rs_X7_rubs : (mR mi_X7_rubs).slots = 0 := rfl
theorem mT_X7_goesOn : mT mi_X7_goesOn = (some .int) := rfl
theorem mL_X7_goesOn : mL mi_X7_goesOn = 4 := rfl
theorem rc_X7_goesOn : (mR mi_X7_goesOn).cells = 0 := rfl
theorem rs_X7_goesOn : (mR mi_X7_goesOn).slots = 0 := rfl
theorem mT_X7_isValue : mT mi_X7_isValue = (some .boolean) := rfl
theorem mL_X7_isValue : mL mi_X7_isValue = 2 := rfl
theorem rc_X7_isValue : (mR mi_X7_isValue).cells = 0 := rfl
theorem rs_X7_isValue : (mR mi_X7_isValue).slots = 0 := rfl
theorem mT_X7_set : mT mi_X7_set = (some .int) := rfl
theorem mL_X7_set : mL mi_X7_set = 4 := rfl
theorem rc_X7_set : (mR mi_X7_set).cells = 0 := rfl
theorem rs_X7_set : (mR mi_X7_set).slots = 0 := rfl
theorem mT_X7_plate : mT mi_X7_plate = (some .int) := rfl
theorem mL_X7_plate : mL mi_X7_plate = 1 := rfl
theorem rc_X7_plate : (mR mi_X7_plate).cells = 0 := rfl
theorem rs_X7_plate : (mR mi_X7_plate).slots = 0 := rfl
theorem mT_X7_lay : mT mi_X7_lay = (some .int) := rfl
theorem mL_X7_lay : mL mi_X7_lay = 3 := rfl
theorem rc_X7_lay : (mR mi_X7_lay).cells = 0 := rfl
theorem rs_X7_lay : (mR mi_X7_lay).slots = 0 := rfl
theorem mT_X7_writer : mT mi_X7_writer = (some .int) := rfl
theorem mL_X7_writer : mL mi_X7_writer = 3 := rfl
theorem rc_X7_writer : (mR mi_X7_writer).cells = 0 := rfl
theorem rs_X7_writer : (mR mi_X7_writer).slots = 0 := rfl
theorem mT_X7_write : mT mi_X7_write = (some .int) := rfl
theorem mL_X7_write : mL mi_X7_write = 6 := rfl
theorem rc_X7_write : (mR mi_X7_write).cells = 0 := rfl
theorem rs_X7_write : (mR mi_X7_write).slots = 0 := rfl
theorem mT_X7_promise : mT mi_X7_promise = (some .int) := rfl
theorem mL_X7_promise : mL mi_X7_promise = 5 := rfl
theorem rc_X7_promise : (mR mi_X7_promise).cells = 0 := rfl
theorem rs_X7_promise : (mR mi_X7_promise).slots = 0 := rfl
theorem mT_X7_takeBack : mT mi_X7_takeBack = (some .int) := rfl
theorem mL_X7_takeBack : mL mi_X7_takeBack = 4 := rfl
theorem rc_X7_takeBack : (mR mi_X7_takeBack).cells = 0 := rfl
theorem rs_X7_takeBack : (mR mi_X7_takeBack).slots = 0 := rfl
theorem mT_X7_rub : mT mi_X7_rub = (some .int) := rfl
theorem mL_X7_rub : mL mi_X7_rub = 4 := rfl
theorem rc_X7_rub : (mR mi_X7_rub).cells = 0 := rfl
theorem rs_X7_rub : (mR mi_X7_rub).slots = 0 := rfl
theorem mT_X7_pass : mT mi_X7_pass = (some .int) := rfl
theorem mL_X7_pass : mL mi_X7_pass = 3 := rfl
theorem rc_X7_pass : (mR mi_X7_pass).cells = 0 := rfl
theorem rs_X7_pass : (mR mi_X7_pass).slots = 0 := rfl
theorem mT_X7_flag : mT mi_X7_flag = (some .int) := rfl
theorem mL_X7_flag : mL mi_X7_flag = 1 := rfl
theorem rc_X7_flag : (mR mi_X7_flag).cells = 0 := rfl
theorem rs_X7_flag : (mR mi_X7_flag).slots = 0 := rfl
theorem mT_Jxf58ca_isNaN_12338 : mT mi_Jxf58ca_isNaN_12338 = (some .boolean) := rfl
theorem mL_Jxf58ca_isNaN_12338 : mL mi_Jxf58ca_isNaN_12338 = 1 := rfl
theorem rc_Jxf58ca_isNaN_12338 : (mR mi_Jxf58ca_isNaN_12338).cells = 0 := rfl
theorem rs_Jxf58ca_isNaN_12338 : (mR mi_Jxf58ca_isNaN_12338).slots = 0 := rfl
theorem mT_Jxf58ca_floatToIntBits_5c35a : mT mi_Jxf58ca_floatToIntBits_5c35a = (some .int) := rfl
theorem mL_Jxf58ca_floatToIntBits_5c35a : mL mi_Jxf58ca_floatToIntBits_5c35a = 1 := rfl
theorem rc_Jxf58ca_floatToIntBits_5c35a : (mR mi_Jxf58ca_floatToIntBits_5c35a).cells = 0 := rfl
theorem rs_Jxf58ca_floatToIntBits_5c35a : (mR mi_Jxf58ca_floatToIntBits_5c35a).slots = 0 := rfl
theorem mT_X7_at : mT mi_X7_at = (some .int) := rfl
theorem mL_X7_at : mL mi_X7_at = 7 := rfl
theorem rc_X7_at : (mR mi_X7_at).cells = 0 := rfl
theorem rs_X7_at : (mR mi_X7_at).slots = 0 := rfl
theorem mT_X7_isSo : mT mi_X7_isSo = (some .boolean) := rfl
theorem mL_X7_isSo : mL mi_X7_isSo = 4 := rfl
theorem rc_X7_isSo : (mR mi_X7_isSo).cells = 0 := rfl
theorem rs_X7_isSo : (mR mi_X7_isSo).slots = 0 := rfl
theorem mT_X7_longestWord : mT mi_X7_longestWord = (some .int) := rfl
theorem mL_X7_longestWord : mL mi_X7_longestWord = 6 := rfl
theorem rc_X7_longestWord : (mR mi_X7_longestWord).cells = 0 := rfl
theorem rs_X7_longestWord : (mR mi_X7_longestWord).slots = 0 := rfl
theorem mT_X7_row : mT mi_X7_row = (some .int) := rfl
theorem mL_X7_row : mL mi_X7_row = 5 := rfl
theorem rc_X7_row : (mR mi_X7_row).cells = 0 := rfl
theorem rs_X7_row : (mR mi_X7_row).slots = 0 := rfl
theorem mT_X7_counted : mT mi_X7_counted = (some .int) := rfl
theorem mL_X7_counted : mL mi_X7_counted = 7 := rfl
theorem rc_X7_counted : (mR mi_X7_counted).cells = 0 := rfl
theorem rs_X7_counted : (mR mi_X7_counted).slots = 0 := rfl
theorem mT_X7_of : mT mi_X7_of = (some .int) := rfl
theorem mL_X7_of : mL mi_X7_of = 3 := rfl
theorem rc_X7_of : (mR mi_X7_of).cells = 0 := rfl
theorem rs_X7_of : (mR mi_X7_of).slots = 0 := rfl
theorem mT_X7_leastLight : mT mi_X7_leastLight = (some .float) := rfl
theorem mL_X7_leastLight : mL mi_X7_leastLight = 5 := rfl
theorem rc_X7_leastLight : (mR mi_X7_leastLight).cells = 0 := rfl
theorem rs_X7_leastLight : (mR mi_X7_leastLight).slots = 0 := rfl
theorem mT_X7_allLight : mT mi_X7_allLight = (some .float) := rfl
theorem mL_X7_allLight : mL mi_X7_allLight = 4 := rfl
theorem rc_X7_allLight : (mR mi_X7_allLight).cells = 0 := rfl
theorem rs_X7_allLight : (mR mi_X7_allLight).slots = 0 := rfl
theorem mT_X7_ofPlate : mT mi_X7_ofPlate = (some .int) := rfl
theorem mL_X7_ofPlate : mL mi_X7_ofPlate = 5 := rfl
theorem rc_X7_ofPlate : (mR mi_X7_ofPlate).cells = 0 := rfl
theorem rs_X7_ofPlate : (mR mi_X7_ofPlate).slots = 0 := rfl
theorem mT_X7_count : mT mi_X7_count = (some .int) := rfl
theorem mL_X7_count : mL mi_X7_count = 2 := rfl
theorem rc_X7_count : (mR mi_X7_count).cells = 0 := rfl
theorem rs_X7_count : (mR mi_X7_count).slots = 0 := rfl
theorem mT_Jxe99ae_isNaN_b9ae7 : mT mi_Jxe99ae_isNaN_b9ae7 = (some .boolean) := rfl
theorem mL_Jxe99ae_isNaN_b9ae7 : mL mi_Jxe99ae_isNaN_b9ae7 = 2 := rfl
theorem rc_Jxe99ae_isNaN_b9ae7 : (mR mi_Jxe99ae_isNaN_b9ae7).cells = 0 := rfl
theorem rs_Jxe99ae_isNaN_b9ae7 : (mR mi_Jxe99ae_isNaN_b9ae7).slots = 0 := rfl
theorem mT_Jxe99ae_doubleToLongBits_ccdee : mT mi_Jxe99ae_doubleToLongBits_ccdee = (some .long) := rfl
theorem mL_Jxe99ae_doubleToLongBits_ccdee : mL mi_Jxe99ae_doubleToLongBits_ccdee = 2 := rfl
theorem rc_Jxe99ae_doubleToLongBits_ccdee : (mR mi_Jxe99ae_doubleToLongBits_ccdee).cells = 0 := rfl
theorem rs_Jxe99ae_doubleToLongBits_ccdee : (mR mi_Jxe99ae_doubleToLongBits_ccdee).slots = 0 := rfl
theorem mT_X7_mean : mT mi_X7_mean = (some .long) := rfl
theorem mL_X7_mean : mL mi_X7_mean = 4 := rfl
theorem rc_X7_mean : (mR mi_X7_mean).cells = 0 := rfl
theorem rs_X7_mean : (mR mi_X7_mean).slots = 0 := rfl
theorem mT_X7_tooDark : mT mi_X7_tooDark = (some .int) := rfl
theorem mL_X7_tooDark : mL mi_X7_tooDark = 6 := rfl
theorem rc_X7_tooDark : (mR mi_X7_tooDark).cells = 0 := rfl
theorem rs_X7_tooDark : (mR mi_X7_tooDark).slots = 0 := rfl
theorem mT_X7_ifWritten : mT mi_X7_ifWritten = (some .int) := rfl
theorem mL_X7_ifWritten : mL mi_X7_ifWritten = 7 := rfl
theorem rc_X7_ifWritten : (mR mi_X7_ifWritten).cells = 0 := rfl
theorem rs_X7_ifWritten : (mR mi_X7_ifWritten).slots = 0 := rfl
theorem mT_X7_bestPlace : mT mi_X7_bestPlace = (some .int) := rfl
theorem mL_X7_bestPlace : mL mi_X7_bestPlace = 1 := rfl
theorem rc_X7_bestPlace : (mR mi_X7_bestPlace).cells = 0 := rfl
theorem rs_X7_bestPlace : (mR mi_X7_bestPlace).slots = 0 := rfl
theorem mT_X7_fills : mT mi_X7_fills = (some .int) := rfl
theorem mL_X7_fills : mL mi_X7_fills = 4 := rfl
theorem rc_X7_fills : (mR mi_X7_fills).cells = 0 := rfl
theorem rs_X7_fills : (mR mi_X7_fills).slots = 0 := rfl
theorem mT_X7_leaves : mT mi_X7_leaves = (some .float) := rfl
theorem mL_X7_leaves : mL mi_X7_leaves = 5 := rfl
theorem rc_X7_leaves : (mR mi_X7_leaves).cells = 0 := rfl
theorem rs_X7_leaves : (mR mi_X7_leaves).slots = 0 := rfl
theorem mT_X7_whoDims : mT mi_X7_whoDims = (some .int) := rfl
theorem mL_X7_whoDims : mL mi_X7_whoDims = 7 := rfl
theorem rc_X7_whoDims : (mR mi_X7_whoDims).cells = 0 := rfl
theorem rs_X7_whoDims : (mR mi_X7_whoDims).slots = 0 := rfl
theorem mT_X7_areRead : mT mi_X7_areRead = (some .boolean) := rfl
theorem mL_X7_areRead : mL mi_X7_areRead = 5 := rfl
theorem rc_X7_areRead : (mR mi_X7_areRead).cells = 0 := rfl
theorem rs_X7_areRead : (mR mi_X7_areRead).slots = 0 := rfl
theorem mT_X7_readableIn : mT mi_X7_readableIn = (some .int) := rfl
theorem mL_X7_readableIn : mL mi_X7_readableIn = 3 := rfl
theorem rc_X7_readableIn : (mR mi_X7_readableIn).cells = 0 := rfl
theorem rs_X7_readableIn : (mR mi_X7_readableIn).slots = 0 := rfl
theorem mT_X7_charactersOf : mT mi_X7_charactersOf = (some .int) := rfl
theorem mL_X7_charactersOf : mL mi_X7_charactersOf = 5 := rfl
theorem rc_X7_charactersOf : (mR mi_X7_charactersOf).cells = 0 := rfl
theorem rs_X7_charactersOf : (mR mi_X7_charactersOf).slots = 0 := rfl
theorem mT_X7_put : mT mi_X7_put = (some .int) := rfl
theorem mL_X7_put : mL mi_X7_put = 5 := rfl
theorem rc_X7_put : (mR mi_X7_put).cells = 0 := rfl
theorem rs_X7_put : (mR mi_X7_put).slots = 0 := rfl
theorem mT_X7_wipe : mT mi_X7_wipe = (some .int) := rfl
theorem mL_X7_wipe : mL mi_X7_wipe = 2 := rfl
theorem rc_X7_wipe : (mR mi_X7_wipe).cells = 0 := rfl
theorem rs_X7_wipe : (mR mi_X7_wipe).slots = 0 := rfl
theorem mT_X7_isHere : mT mi_X7_isHere = (some .boolean) := rfl
theorem mL_X7_isHere : mL mi_X7_isHere = 3 := rfl
theorem rc_X7_isHere : (mR mi_X7_isHere).cells = 0 := rfl
theorem rs_X7_isHere : (mR mi_X7_isHere).slots = 0 := rfl
theorem mT_X7_takes : mT mi_X7_takes = (some .boolean) := rfl
theorem mL_X7_takes : mL mi_X7_takes = 3 := rfl
theorem rc_X7_takes : (mR mi_X7_takes).cells = 0 := rfl
theorem rs_X7_takes : (mR mi_X7_takes).slots = 0 := rfl
theorem mT_X7_digit : mT mi_X7_digit = (some .int) := rfl
theorem mL_X7_digit : mL mi_X7_digit = 2 := rfl
theorem rc_X7_digit : (mR mi_X7_digit).cells = 0 := rfl
theorem rs_X7_digit : (mR mi_X7_digit).slots = 0 := rfl
theorem mT_X7_number : mT mi_X7_number = (some .int) := rfl
theorem mL_X7_number : mL mi_X7_number = 2 := rfl
theorem rc_X7_number : (mR mi_X7_number).cells = 0 := rfl
theorem rs_X7_number : (mR mi_X7_number).slots = 0 := rfl
theorem mT_X7_readsPlace : mT mi_X7_readsPlace = (some .boolean) := rfl
theorem mL_X7_readsPlace : mL mi_X7_readsPlace = 1 := rfl
theorem rc_X7_readsPlace : (mR mi_X7_readsPlace).cells = 0 := rfl
theorem rs_X7_readsPlace : (mR mi_X7_readsPlace).slots = 0 := rfl
theorem mT_X7_readsLetters : mT mi_X7_readsLetters = (some .boolean) := rfl
theorem mL_X7_readsLetters : mL mi_X7_readsLetters = 1 := rfl
theorem rc_X7_readsLetters : (mR mi_X7_readsLetters).cells = 0 := rfl
theorem rs_X7_readsLetters : (mR mi_X7_readsLetters).slots = 0 := rfl
theorem mT_X7_readsOrder : mT mi_X7_readsOrder = (some .boolean) := rfl
theorem mL_X7_readsOrder : mL mi_X7_readsOrder = 1 := rfl
theorem rc_X7_readsOrder : (mR mi_X7_readsOrder).cells = 0 := rfl
theorem rs_X7_readsOrder : (mR mi_X7_readsOrder).slots = 0 := rfl
theorem mT_X7_fault : mT mi_X7_fault = (some .int) := rfl
theorem mL_X7_fault : mL mi_X7_fault = 2 := rfl
theorem rc_X7_fault : (mR mi_X7_fault).cells = 0 := rfl
theorem rs_X7_fault : (mR mi_X7_fault).slots = 0 := rfl
theorem mT_X7_orderError : mT mi_X7_orderError = (some .int) := rfl
theorem mL_X7_orderError : mL mi_X7_orderError = 2 := rfl
theorem rc_X7_orderError : (mR mi_X7_orderError).cells = 0 := rfl
theorem rs_X7_orderError : (mR mi_X7_orderError).slots = 0 := rfl
theorem mT_X7_does : mT mi_X7_does = (some .int) := rfl
theorem mL_X7_does : mL mi_X7_does = 2 := rfl
theorem rc_X7_does : (mR mi_X7_does).cells = 0 := rfl
theorem rs_X7_does : (mR mi_X7_does).slots = 0 := rfl
theorem mT_X7_carryOut : mT mi_X7_carryOut = (some .int) := rfl
theorem mL_X7_carryOut : mL mi_X7_carryOut = 7 := rfl
theorem rc_X7_carryOut : (mR mi_X7_carryOut).cells = 0 := rfl
theorem rs_X7_carryOut : (mR mi_X7_carryOut).slots = 0 := rfl
theorem mT_X7_undo : mT mi_X7_undo = (some .int) := rfl
theorem mL_X7_undo : mL mi_X7_undo = 1 := rfl
theorem rc_X7_undo : (mR mi_X7_undo).cells = 0 := rfl
theorem rs_X7_undo : (mR mi_X7_undo).slots = 0 := rfl
theorem mT_X7_isSlot : mT mi_X7_isSlot = (some .boolean) := rfl
theorem mL_X7_isSlot : mL mi_X7_isSlot = 1 := rfl
theorem rc_X7_isSlot : (mR mi_X7_isSlot).cells = 0 := rfl
theorem rs_X7_isSlot : (mR mi_X7_isSlot).slots = 0 := rfl
theorem mT_X7_save : mT mi_X7_save = (some .int) := rfl
theorem mL_X7_save : mL mi_X7_save = 2 := rfl
theorem rc_X7_save : (mR mi_X7_save).cells = 0 := rfl
theorem rs_X7_save : (mR mi_X7_save).slots = 0 := rfl
theorem mT_X7_restore : mT mi_X7_restore = (some .int) := rfl
theorem mL_X7_restore : mL mi_X7_restore = 2 := rfl
theorem rc_X7_restore : (mR mi_X7_restore).cells = 0 := rfl
theorem rs_X7_restore : (mR mi_X7_restore).slots = 0 := rfl
theorem wn_X1_init_0 : wpN l G mi_X1_init Γ F sgs_X1_init (n + 1) 0 L st S cs sl = wp G Γ (mR mi_X1_init) (wpN l G mi_X1_init Γ F sgs_X1_init n) (EX mi_X1_init F) sg_X1_init_0 L st S cs sl := rfl
theorem wn_X1_copyFrom_0 : wpN l G mi_X1_copyFrom Γ F sgs_X1_copyFrom (n + 1) 0 L st S cs sl = wp G Γ (mR mi_X1_copyFrom) (wpN l G mi_X1_copyFrom Γ F sgs_X1_copyFrom n) (EX mi_X1_copyFrom F) sg_X1_copyFrom_0 L st S cs sl := rfl
theorem wn_J7_fill_e525d_0 : wpN l G mi_J7_fill_e525d Γ F sgs_J7_fill_e525d (n + 1) 0 L st S cs sl = wp G Γ (mR mi_J7_fill_e525d) (wpN l G mi_J7_fill_e525d Γ F sgs_J7_fill_e525d n) (EX mi_J7_fill_e525d F) sg_J7_fill_e525d_0 L st S cs sl := rfl
theorem wn_J7_fill_e525d_5 : wpN l G mi_J7_fill_e525d Γ F sgs_J7_fill_e525d (n + 1) 5 L st S cs sl = V l G mi_J7_fill_e525d F 5 L st S cs sl := rfl
theorem wn_J7_fill_e525d_20 : wpN l G mi_J7_fill_e525d Γ F sgs_J7_fill_e525d (n + 1) 20 L st S cs sl = wp G Γ (mR mi_J7_fill_e525d) (wpN l G mi_J7_fill_e525d Γ F sgs_J7_fill_e525d n) (EX mi_J7_fill_e525d F) sg_J7_fill_e525d_20 L st S cs sl := rfl
theorem wn_J7_fill_53178_0 : wpN l G mi_J7_fill_53178 Γ F sgs_J7_fill_53178 (n + 1) 0 L st S cs sl = wp G Γ (mR mi_J7_fill_53178) (wpN l G mi_J7_fill_53178 Γ F sgs_J7_fill_53178 n) (EX mi_J7_fill_53178 F) sg_J7_fill_53178_0 L st S cs sl := rfl
theorem wn_J7_fill_53178_5 : wpN l G mi_J7_fill_53178 Γ F sgs_J7_fill_53178 (n + 1) 5 L st S cs sl = V l G mi_J7_fill_53178 F 5 L st S cs sl := rfl
theorem wn_J7_fill_53178_20 : wpN l G mi_J7_fill_53178 Γ F sgs_J7_fill_53178 (n + 1) 20 L st S cs sl = wp G Γ (mR mi_J7_fill_53178) (wpN l G mi_J7_fill_53178 Γ F sgs_J7_fill_53178 n) (EX mi_J7_fill_53178 F) sg_J7_fill_53178_20 L st S cs sl := rfl
theorem wn_X1_makeNew_0 : wpN l G mi_X1_makeNew Γ F sgs_X1_makeNew (n + 1) 0 L st S cs sl = wp G Γ (mR mi_X1_makeNew) (wpN l G mi_X1_makeNew Γ F sgs_X1_makeNew n) (EX mi_X1_makeNew F) sg_X1_makeNew_0 L st S cs sl := rfl
theorem wn_J9_max_7cf53_0 : wpN l G mi_J9_max_7cf53 Γ F sgs_J9_max_7cf53 (n + 1) 0 L st S cs sl = wp G Γ (mR mi_J9_max_7cf53) (wpN l G mi_J9_max_7cf53 Γ F sgs_J9_max_7cf53 n) (EX mi_J9_max_7cf53 F) sg_J9_max_7cf53_0 L st S cs sl := rfl
theorem wn_J9_max_7cf53_9 : wpN l G mi_J9_max_7cf53 Γ F sgs_J9_max_7cf53 (n + 1) 9 L st S cs sl = wp G Γ (mR mi_J9_max_7cf53) (wpN l G mi_J9_max_7cf53 Γ F sgs_J9_max_7cf53 n) (EX mi_J9_max_7cf53 F) sg_J9_max_7cf53_9 L st S cs sl := rfl
theorem wn_J9_max_7cf53_10 : wpN l G mi_J9_max_7cf53 Γ F sgs_J9_max_7cf53 (n + 1) 10 L st S cs sl = wp G Γ (mR mi_J9_max_7cf53) (wpN l G mi_J9_max_7cf53 Γ F sgs_J9_max_7cf53 n) (EX mi_J9_max_7cf53 F) sg_J9_max_7cf53_10 L st S cs sl := rfl
theorem wn_J9_min_7cf53_0 : wpN l G mi_J9_min_7cf53 Γ F sgs_J9_min_7cf53 (n + 1) 0 L st S cs sl = wp G Γ (mR mi_J9_min_7cf53) (wpN l G mi_J9_min_7cf53 Γ F sgs_J9_min_7cf53 n) (EX mi_J9_min_7cf53 F) sg_J9_min_7cf53_0 L st S cs sl := rfl
theorem wn_J9_min_7cf53_9 : wpN l G mi_J9_min_7cf53 Γ F sgs_J9_min_7cf53 (n + 1) 9 L st S cs sl = wp G Γ (mR mi_J9_min_7cf53) (wpN l G mi_J9_min_7cf53 Γ F sgs_J9_min_7cf53 n) (EX mi_J9_min_7cf53 F) sg_J9_min_7cf53_9 L st S cs sl := rfl
theorem wn_J9_min_7cf53_10 : wpN l G mi_J9_min_7cf53 Γ F sgs_J9_min_7cf53 (n + 1) 10 L st S cs sl = wp G Γ (mR mi_J9_min_7cf53) (wpN l G mi_J9_min_7cf53 Γ F sgs_J9_min_7cf53 n) (EX mi_J9_min_7cf53 F) sg_J9_min_7cf53_10 L st S cs sl := rfl
theorem wn_J9_abs_0f7a4_0 : wpN l G mi_J9_abs_0f7a4 Γ F sgs_J9_abs_0f7a4 (n + 1) 0 L st S cs sl = wp G Γ (mR mi_J9_abs_0f7a4) (wpN l G mi_J9_abs_0f7a4 Γ F sgs_J9_abs_0f7a4 n) (EX mi_J9_abs_0f7a4 F) sg_J9_abs_0f7a4_0 L st S cs sl := rfl
theorem wn_J9_abs_0f7a4_9 : wpN l G mi_J9_abs_0f7a4 Γ F sgs_J9_abs_0f7a4 (n + 1) 9 L st S cs sl = wp G Γ (mR mi_J9_abs_0f7a4) (wpN l G mi_J9_abs_0f7a4 Γ F sgs_J9_abs_0f7a4 n) (EX mi_J9_abs_0f7a4 F) sg_J9_abs_0f7a4_9 L st S cs sl := rfl
theorem wn_J9_abs_0f7a4_10 : wpN l G mi_J9_abs_0f7a4 Γ F sgs_J9_abs_0f7a4 (n + 1) 10 L st S cs sl = wp G Γ (mR mi_J9_abs_0f7a4) (wpN l G mi_J9_abs_0f7a4 Γ F sgs_J9_abs_0f7a4 n) (EX mi_J9_abs_0f7a4 F) sg_J9_abs_0f7a4_10 L st S cs sl := rfl
theorem wn_X1_isFree_0 : wpN l G mi_X1_isFree Γ F sgs_X1_isFree (n + 1) 0 L st S cs sl = wp G Γ (mR mi_X1_isFree) (wpN l G mi_X1_isFree Γ F sgs_X1_isFree n) (EX mi_X1_isFree F) sg_X1_isFree_0 L st S cs sl := rfl
theorem wn_X1_isFree_26 : wpN l G mi_X1_isFree Γ F sgs_X1_isFree (n + 1) 26 L st S cs sl = wp G Γ (mR mi_X1_isFree) (wpN l G mi_X1_isFree Γ F sgs_X1_isFree n) (EX mi_X1_isFree F) sg_X1_isFree_26 L st S cs sl := rfl
theorem wn_X1_isFree_27 : wpN l G mi_X1_isFree Γ F sgs_X1_isFree (n + 1) 27 L st S cs sl = wp G Γ (mR mi_X1_isFree) (wpN l G mi_X1_isFree Γ F sgs_X1_isFree n) (EX mi_X1_isFree F) sg_X1_isFree_27 L st S cs sl := rfl
theorem wn_X1_promisedPlaces_0 : wpN l G mi_X1_promisedPlaces Γ F sgs_X1_promisedPlaces (n + 1) 0 L st S cs sl = wp G Γ (mR mi_X1_promisedPlaces) (wpN l G mi_X1_promisedPlaces Γ F sgs_X1_promisedPlaces n) (EX mi_X1_promisedPlaces F) sg_X1_promisedPlaces_0 L st S cs sl := rfl
theorem wn_X1_promisedPlaces_4 : wpN l G mi_X1_promisedPlaces Γ F sgs_X1_promisedPlaces (n + 1) 4 L st S cs sl = V l G mi_X1_promisedPlaces F 4 L st S cs sl := rfl
theorem wn_X1_promisedPlaces_26 : wpN l G mi_X1_promisedPlaces Γ F sgs_X1_promisedPlaces (n + 1) 26 L st S cs sl = wp G Γ (mR mi_X1_promisedPlaces) (wpN l G mi_X1_promisedPlaces Γ F sgs_X1_promisedPlaces n) (EX mi_X1_promisedPlaces F) sg_X1_promisedPlaces_26 L st S cs sl := rfl
theorem wn_X1_promisedPlaces_27 : wpN l G mi_X1_promisedPlaces Γ F sgs_X1_promisedPlaces (n + 1) 27 L st S cs sl = wp G Γ (mR mi_X1_promisedPlaces) (wpN l G mi_X1_promisedPlaces Γ F sgs_X1_promisedPlaces n) (EX mi_X1_promisedPlaces F) sg_X1_promisedPlaces_27 L st S cs sl := rfl
theorem wn_X1_promisedPlaces_35 : wpN l G mi_X1_promisedPlaces Γ F sgs_X1_promisedPlaces (n + 1) 35 L st S cs sl = wp G Γ (mR mi_X1_promisedPlaces) (wpN l G mi_X1_promisedPlaces Γ F sgs_X1_promisedPlaces n) (EX mi_X1_promisedPlaces F) sg_X1_promisedPlaces_35 L st S cs sl := rfl
theorem wn_X1_leastLight_0 : wpN l G mi_X1_leastLight Γ F sgs_X1_leastLight (n + 1) 0 L st S cs sl = wp G Γ (mR mi_X1_leastLight) (wpN l G mi_X1_leastLight Γ F sgs_X1_leastLight n) (EX mi_X1_leastLight F) sg_X1_leastLight_0 L st S cs sl := rfl
theorem wn_X1_leastLight_9 : wpN l G mi_X1_leastLight Γ F sgs_X1_leastLight (n + 1) 9 L st S cs sl = V l G mi_X1_leastLight F 9 L st S cs sl := rfl
theorem wn_X1_leastLight_35 : wpN l G mi_X1_leastLight Γ F sgs_X1_leastLight (n + 1) 35 L st S cs sl = wp G Γ (mR mi_X1_leastLight) (wpN l G mi_X1_leastLight Γ F sgs_X1_leastLight n) (EX mi_X1_leastLight F) sg_X1_leastLight_35 L st S cs sl := rfl
theorem wn_X1_leastLight_36 : wpN l G mi_X1_leastLight Γ F sgs_X1_leastLight (n + 1) 36 L st S cs sl = wp G Γ (mR mi_X1_leastLight) (wpN l G mi_X1_leastLight Γ F sgs_X1_leastLight n) (EX mi_X1_leastLight F) sg_X1_leastLight_36 L st S cs sl := rfl
theorem wn_X1_leastLight_43 : wpN l G mi_X1_leastLight Γ F sgs_X1_leastLight (n + 1) 43 L st S cs sl = wp G Γ (mR mi_X1_leastLight) (wpN l G mi_X1_leastLight Γ F sgs_X1_leastLight n) (EX mi_X1_leastLight F) sg_X1_leastLight_43 L st S cs sl := rfl
theorem wn_X1_sumOfLight_0 : wpN l G mi_X1_sumOfLight Γ F sgs_X1_sumOfLight (n + 1) 0 L st S cs sl = wp G Γ (mR mi_X1_sumOfLight) (wpN l G mi_X1_sumOfLight Γ F sgs_X1_sumOfLight n) (EX mi_X1_sumOfLight F) sg_X1_sumOfLight_0 L st S cs sl := rfl
theorem wn_X1_sumOfLight_4 : wpN l G mi_X1_sumOfLight Γ F sgs_X1_sumOfLight (n + 1) 4 L st S cs sl = V l G mi_X1_sumOfLight F 4 L st S cs sl := rfl
theorem wn_X1_sumOfLight_25 : wpN l G mi_X1_sumOfLight Γ F sgs_X1_sumOfLight (n + 1) 25 L st S cs sl = wp G Γ (mR mi_X1_sumOfLight) (wpN l G mi_X1_sumOfLight Γ F sgs_X1_sumOfLight n) (EX mi_X1_sumOfLight F) sg_X1_sumOfLight_25 L st S cs sl := rfl
theorem wn_X4_init_0 : wpN l G mi_X4_init Γ F sgs_X4_init (n + 1) 0 L st S cs sl = wp G Γ (mR mi_X4_init) (wpN l G mi_X4_init Γ F sgs_X4_init n) (EX mi_X4_init F) sg_X4_init_0 L st S cs sl := rfl
theorem wn_X3_init_0 : wpN l G mi_X3_init Γ F sgs_X3_init (n + 1) 0 L st S cs sl = wp G Γ (mR mi_X3_init) (wpN l G mi_X3_init Γ F sgs_X3_init n) (EX mi_X3_init F) sg_X3_init_0 L st S cs sl := rfl
theorem wn_X3_look_0 : wpN l G mi_X3_look Γ F sgs_X3_look (n + 1) 0 L st S cs sl = wp G Γ (mR mi_X3_look) (wpN l G mi_X3_look Γ F sgs_X3_look n) (EX mi_X3_look F) sg_X3_look_0 L st S cs sl := rfl
theorem wn_X3_look_29 : wpN l G mi_X3_look Γ F sgs_X3_look (n + 1) 29 L st S cs sl = wp G Γ (mR mi_X3_look) (wpN l G mi_X3_look Γ F sgs_X3_look n) (EX mi_X3_look F) sg_X3_look_29 L st S cs sl := rfl
theorem wn_X3_look_30 : wpN l G mi_X3_look Γ F sgs_X3_look (n + 1) 30 L st S cs sl = wp G Γ (mR mi_X3_look) (wpN l G mi_X3_look Γ F sgs_X3_look n) (EX mi_X3_look F) sg_X3_look_30 L st S cs sl := rfl
theorem wn_X3_reads_0 : wpN l G mi_X3_reads Γ F sgs_X3_reads (n + 1) 0 L st S cs sl = wp G Γ (mR mi_X3_reads) (wpN l G mi_X3_reads Γ F sgs_X3_reads n) (EX mi_X3_reads F) sg_X3_reads_0 L st S cs sl := rfl
theorem wn_X3_reads_10 : wpN l G mi_X3_reads Γ F sgs_X3_reads (n + 1) 10 L st S cs sl = wp G Γ (mR mi_X3_reads) (wpN l G mi_X3_reads Γ F sgs_X3_reads n) (EX mi_X3_reads F) sg_X3_reads_10 L st S cs sl := rfl
theorem wn_X3_add_0 : wpN l G mi_X3_add Γ F sgs_X3_add (n + 1) 0 L st S cs sl = wp G Γ (mR mi_X3_add) (wpN l G mi_X3_add Γ F sgs_X3_add n) (EX mi_X3_add F) sg_X3_add_0 L st S cs sl := rfl
theorem wn_X3_add_78 : wpN l G mi_X3_add Γ F sgs_X3_add (n + 1) 78 L st S cs sl = wp G Γ (mR mi_X3_add) (wpN l G mi_X3_add Γ F sgs_X3_add n) (EX mi_X3_add F) sg_X3_add_78 L st S cs sl := rfl
theorem wn_X3_isDigit_0 : wpN l G mi_X3_isDigit Γ F sgs_X3_isDigit (n + 1) 0 L st S cs sl = wp G Γ (mR mi_X3_isDigit) (wpN l G mi_X3_isDigit Γ F sgs_X3_isDigit n) (EX mi_X3_isDigit F) sg_X3_isDigit_0 L st S cs sl := rfl
theorem wn_X3_isDigit_16 : wpN l G mi_X3_isDigit Γ F sgs_X3_isDigit (n + 1) 16 L st S cs sl = wp G Γ (mR mi_X3_isDigit) (wpN l G mi_X3_isDigit Γ F sgs_X3_isDigit n) (EX mi_X3_isDigit F) sg_X3_isDigit_16 L st S cs sl := rfl
theorem wn_X3_isDigit_17 : wpN l G mi_X3_isDigit Γ F sgs_X3_isDigit (n + 1) 17 L st S cs sl = wp G Γ (mR mi_X3_isDigit) (wpN l G mi_X3_isDigit Γ F sgs_X3_isDigit n) (EX mi_X3_isDigit F) sg_X3_isDigit_17 L st S cs sl := rfl
theorem wn_X3_readFirstDigit_0 : wpN l G mi_X3_readFirstDigit Γ F sgs_X3_readFirstDigit (n + 1) 0 L st S cs sl = wp G Γ (mR mi_X3_readFirstDigit) (wpN l G mi_X3_readFirstDigit Γ F sgs_X3_readFirstDigit n) (EX mi_X3_readFirstDigit F) sg_X3_readFirstDigit_0 L st S cs sl := rfl
theorem wn_X3_readFirstDigit_12 : wpN l G mi_X3_readFirstDigit Γ F sgs_X3_readFirstDigit (n + 1) 12 L st S cs sl = wp G Γ (mR mi_X3_readFirstDigit) (wpN l G mi_X3_readFirstDigit Γ F sgs_X3_readFirstDigit n) (EX mi_X3_readFirstDigit F) sg_X3_readFirstDigit_12 L st S cs sl := rfl
theorem wn_X3_readNumber_0 : wpN l G mi_X3_readNumber Γ F sgs_X3_readNumber (n + 1) 0 L st S cs sl = wp G Γ (mR mi_X3_readNumber) (wpN l G mi_X3_readNumber Γ F sgs_X3_readNumber n) (EX mi_X3_readNumber F) sg_X3_readNumber_0 L st S cs sl := rfl
theorem wn_X3_readNumber_12 : wpN l G mi_X3_readNumber Γ F sgs_X3_readNumber (n + 1) 12 L st S cs sl = wp G Γ (mR mi_X3_readNumber) (wpN l G mi_X3_readNumber Γ F sgs_X3_readNumber n) (EX mi_X3_readNumber F) sg_X3_readNumber_12 L st S cs sl := rfl
theorem wn_X3_readNumber_79 : wpN l G mi_X3_readNumber Γ F sgs_X3_readNumber (n + 1) 79 L st S cs sl = wp G Γ (mR mi_X3_readNumber) (wpN l G mi_X3_readNumber Γ F sgs_X3_readNumber n) (EX mi_X3_readNumber F) sg_X3_readNumber_79 L st S cs sl := rfl
theorem wn_X3_readPlace_0 : wpN l G mi_X3_readPlace Γ F sgs_X3_readPlace (n + 1) 0 L st S cs sl = wp G Γ (mR mi_X3_readPlace) (wpN l G mi_X3_readPlace Γ F sgs_X3_readPlace n) (EX mi_X3_readPlace F) sg_X3_readPlace_0 L st S cs sl := rfl
theorem wn_X3_readPlace_16 : wpN l G mi_X3_readPlace Γ F sgs_X3_readPlace (n + 1) 16 L st S cs sl = wp G Γ (mR mi_X3_readPlace) (wpN l G mi_X3_readPlace Γ F sgs_X3_readPlace n) (EX mi_X3_readPlace F) sg_X3_readPlace_16 L st S cs sl := rfl
theorem wn_X3_readPlace_18 : wpN l G mi_X3_readPlace Γ F sgs_X3_readPlace (n + 1) 18 L st S cs sl = wp G Γ (mR mi_X3_readPlace) (wpN l G mi_X3_readPlace Γ F sgs_X3_readPlace n) (EX mi_X3_readPlace F) sg_X3_readPlace_18 L st S cs sl := rfl
theorem wn_X3_readPlace_42 : wpN l G mi_X3_readPlace Γ F sgs_X3_readPlace (n + 1) 42 L st S cs sl = wp G Γ (mR mi_X3_readPlace) (wpN l G mi_X3_readPlace Γ F sgs_X3_readPlace n) (EX mi_X3_readPlace F) sg_X3_readPlace_42 L st S cs sl := rfl
theorem wn_X3_readPlace_44 : wpN l G mi_X3_readPlace Γ F sgs_X3_readPlace (n + 1) 44 L st S cs sl = wp G Γ (mR mi_X3_readPlace) (wpN l G mi_X3_readPlace Γ F sgs_X3_readPlace n) (EX mi_X3_readPlace F) sg_X3_readPlace_44 L st S cs sl := rfl
theorem wn_X3_isLetter_0 : wpN l G mi_X3_isLetter Γ F sgs_X3_isLetter (n + 1) 0 L st S cs sl = wp G Γ (mR mi_X3_isLetter) (wpN l G mi_X3_isLetter Γ F sgs_X3_isLetter n) (EX mi_X3_isLetter F) sg_X3_isLetter_0 L st S cs sl := rfl
theorem wn_X3_isLetter_16 : wpN l G mi_X3_isLetter Γ F sgs_X3_isLetter (n + 1) 16 L st S cs sl = wp G Γ (mR mi_X3_isLetter) (wpN l G mi_X3_isLetter Γ F sgs_X3_isLetter n) (EX mi_X3_isLetter F) sg_X3_isLetter_16 L st S cs sl := rfl
theorem wn_X3_isLetter_17 : wpN l G mi_X3_isLetter Γ F sgs_X3_isLetter (n + 1) 17 L st S cs sl = wp G Γ (mR mi_X3_isLetter) (wpN l G mi_X3_isLetter Γ F sgs_X3_isLetter n) (EX mi_X3_isLetter F) sg_X3_isLetter_17 L st S cs sl := rfl
theorem wn_X3_readLetters_0 : wpN l G mi_X3_readLetters Γ F sgs_X3_readLetters (n + 1) 0 L st S cs sl = wp G Γ (mR mi_X3_readLetters) (wpN l G mi_X3_readLetters Γ F sgs_X3_readLetters n) (EX mi_X3_readLetters F) sg_X3_readLetters_0 L st S cs sl := rfl
theorem wn_X3_readLetters_12 : wpN l G mi_X3_readLetters Γ F sgs_X3_readLetters (n + 1) 12 L st S cs sl = V l G mi_X3_readLetters F 12 L st S cs sl := rfl
theorem wn_X3_readLetters_73 : wpN l G mi_X3_readLetters Γ F sgs_X3_readLetters (n + 1) 73 L st S cs sl = wp G Γ (mR mi_X3_readLetters) (wpN l G mi_X3_readLetters Γ F sgs_X3_readLetters n) (EX mi_X3_readLetters F) sg_X3_readLetters_73 L st S cs sl := rfl
theorem wn_X3_readFirstNumber_0 : wpN l G mi_X3_readFirstNumber Γ F sgs_X3_readFirstNumber (n + 1) 0 L st S cs sl = wp G Γ (mR mi_X3_readFirstNumber) (wpN l G mi_X3_readFirstNumber Γ F sgs_X3_readFirstNumber n) (EX mi_X3_readFirstNumber F) sg_X3_readFirstNumber_0 L st S cs sl := rfl
theorem wn_X3_readOrder_0 : wpN l G mi_X3_readOrder Γ F sgs_X3_readOrder (n + 1) 0 L st S cs sl = wp G Γ (mR mi_X3_readOrder) (wpN l G mi_X3_readOrder Γ F sgs_X3_readOrder n) (EX mi_X3_readOrder F) sg_X3_readOrder_0 L st S cs sl := rfl
theorem wn_X3_readOrder_88 : wpN l G mi_X3_readOrder Γ F sgs_X3_readOrder (n + 1) 88 L st S cs sl = wp G Γ (mR mi_X3_readOrder) (wpN l G mi_X3_readOrder Γ F sgs_X3_readOrder n) (EX mi_X3_readOrder F) sg_X3_readOrder_88 L st S cs sl := rfl
theorem wn_X3_readOrder_109 : wpN l G mi_X3_readOrder Γ F sgs_X3_readOrder (n + 1) 109 L st S cs sl = wp G Γ (mR mi_X3_readOrder) (wpN l G mi_X3_readOrder Γ F sgs_X3_readOrder n) (EX mi_X3_readOrder F) sg_X3_readOrder_109 L st S cs sl := rfl
theorem wn_X3_readOrder_110 : wpN l G mi_X3_readOrder Γ F sgs_X3_readOrder (n + 1) 110 L st S cs sl = wp G Γ (mR mi_X3_readOrder) (wpN l G mi_X3_readOrder Γ F sgs_X3_readOrder n) (EX mi_X3_readOrder F) sg_X3_readOrder_110 L st S cs sl := rfl
theorem wn_X3_readOrder_111 : wpN l G mi_X3_readOrder Γ F sgs_X3_readOrder (n + 1) 111 L st S cs sl = wp G Γ (mR mi_X3_readOrder) (wpN l G mi_X3_readOrder Γ F sgs_X3_readOrder n) (EX mi_X3_readOrder F) sg_X3_readOrder_111 L st S cs sl := rfl
theorem wn_X3_readOrder_139 : wpN l G mi_X3_readOrder Γ F sgs_X3_readOrder (n + 1) 139 L st S cs sl = wp G Γ (mR mi_X3_readOrder) (wpN l G mi_X3_readOrder Γ F sgs_X3_readOrder n) (EX mi_X3_readOrder F) sg_X3_readOrder_139 L st S cs sl := rfl
theorem wn_X3_readOrder_140 : wpN l G mi_X3_readOrder Γ F sgs_X3_readOrder (n + 1) 140 L st S cs sl = wp G Γ (mR mi_X3_readOrder) (wpN l G mi_X3_readOrder Γ F sgs_X3_readOrder n) (EX mi_X3_readOrder F) sg_X3_readOrder_140 L st S cs sl := rfl
theorem wn_X3_readOrder_141 : wpN l G mi_X3_readOrder Γ F sgs_X3_readOrder (n + 1) 141 L st S cs sl = wp G Γ (mR mi_X3_readOrder) (wpN l G mi_X3_readOrder Γ F sgs_X3_readOrder n) (EX mi_X3_readOrder F) sg_X3_readOrder_141 L st S cs sl := rfl
theorem wn_X3_readOrder_183 : wpN l G mi_X3_readOrder Γ F sgs_X3_readOrder (n + 1) 183 L st S cs sl = wp G Γ (mR mi_X3_readOrder) (wpN l G mi_X3_readOrder Γ F sgs_X3_readOrder n) (EX mi_X3_readOrder F) sg_X3_readOrder_183 L st S cs sl := rfl
theorem wn_X3_readOrder_184 : wpN l G mi_X3_readOrder Γ F sgs_X3_readOrder (n + 1) 184 L st S cs sl = wp G Γ (mR mi_X3_readOrder) (wpN l G mi_X3_readOrder Γ F sgs_X3_readOrder n) (EX mi_X3_readOrder F) sg_X3_readOrder_184 L st S cs sl := rfl
theorem wn_X3_readOrder_185 : wpN l G mi_X3_readOrder Γ F sgs_X3_readOrder (n + 1) 185 L st S cs sl = wp G Γ (mR mi_X3_readOrder) (wpN l G mi_X3_readOrder Γ F sgs_X3_readOrder n) (EX mi_X3_readOrder F) sg_X3_readOrder_185 L st S cs sl := rfl
theorem wn_X3_readOrder_220 : wpN l G mi_X3_readOrder Γ F sgs_X3_readOrder (n + 1) 220 L st S cs sl = wp G Γ (mR mi_X3_readOrder) (wpN l G mi_X3_readOrder Γ F sgs_X3_readOrder n) (EX mi_X3_readOrder F) sg_X3_readOrder_220 L st S cs sl := rfl
theorem wn_X3_readOrder_221 : wpN l G mi_X3_readOrder Γ F sgs_X3_readOrder (n + 1) 221 L st S cs sl = wp G Γ (mR mi_X3_readOrder) (wpN l G mi_X3_readOrder Γ F sgs_X3_readOrder n) (EX mi_X3_readOrder F) sg_X3_readOrder_221 L st S cs sl := rfl
theorem wn_X3_readOrder_222 : wpN l G mi_X3_readOrder Γ F sgs_X3_readOrder (n + 1) 222 L st S cs sl = wp G Γ (mR mi_X3_readOrder) (wpN l G mi_X3_readOrder Γ F sgs_X3_readOrder n) (EX mi_X3_readOrder F) sg_X3_readOrder_222 L st S cs sl := rfl
theorem wn_X3_readOrder_250 : wpN l G mi_X3_readOrder Γ F sgs_X3_readOrder (n + 1) 250 L st S cs sl = wp G Γ (mR mi_X3_readOrder) (wpN l G mi_X3_readOrder Γ F sgs_X3_readOrder n) (EX mi_X3_readOrder F) sg_X3_readOrder_250 L st S cs sl := rfl
theorem wn_X3_readOrder_251 : wpN l G mi_X3_readOrder Γ F sgs_X3_readOrder (n + 1) 251 L st S cs sl = wp G Γ (mR mi_X3_readOrder) (wpN l G mi_X3_readOrder Γ F sgs_X3_readOrder n) (EX mi_X3_readOrder F) sg_X3_readOrder_251 L st S cs sl := rfl
theorem wn_X3_readOrder_252 : wpN l G mi_X3_readOrder Γ F sgs_X3_readOrder (n + 1) 252 L st S cs sl = wp G Γ (mR mi_X3_readOrder) (wpN l G mi_X3_readOrder Γ F sgs_X3_readOrder n) (EX mi_X3_readOrder F) sg_X3_readOrder_252 L st S cs sl := rfl
theorem wn_X3_readOrder_280 : wpN l G mi_X3_readOrder Γ F sgs_X3_readOrder (n + 1) 280 L st S cs sl = wp G Γ (mR mi_X3_readOrder) (wpN l G mi_X3_readOrder Γ F sgs_X3_readOrder n) (EX mi_X3_readOrder F) sg_X3_readOrder_280 L st S cs sl := rfl
theorem wn_X3_readOrder_281 : wpN l G mi_X3_readOrder Γ F sgs_X3_readOrder (n + 1) 281 L st S cs sl = wp G Γ (mR mi_X3_readOrder) (wpN l G mi_X3_readOrder Γ F sgs_X3_readOrder n) (EX mi_X3_readOrder F) sg_X3_readOrder_281 L st S cs sl := rfl
theorem wn_X3_readOrder_282 : wpN l G mi_X3_readOrder Γ F sgs_X3_readOrder (n + 1) 282 L st S cs sl = wp G Γ (mR mi_X3_readOrder) (wpN l G mi_X3_readOrder Γ F sgs_X3_readOrder n) (EX mi_X3_readOrder F) sg_X3_readOrder_282 L st S cs sl := rfl
theorem wn_X3_readPad_0 : wpN l G mi_X3_readPad Γ F sgs_X3_readPad (n + 1) 0 L st S cs sl = wp G Γ (mR mi_X3_readPad) (wpN l G mi_X3_readPad Γ F sgs_X3_readPad n) (EX mi_X3_readPad F) sg_X3_readPad_0 L st S cs sl := rfl
theorem wn_X3_readPad_12 : wpN l G mi_X3_readPad Γ F sgs_X3_readPad (n + 1) 12 L st S cs sl = V l G mi_X3_readPad F 12 L st S cs sl := rfl
theorem wn_X3_readPad_30 : wpN l G mi_X3_readPad Γ F sgs_X3_readPad (n + 1) 30 L st S cs sl = wp G Γ (mR mi_X3_readPad) (wpN l G mi_X3_readPad Γ F sgs_X3_readPad n) (EX mi_X3_readPad F) sg_X3_readPad_30 L st S cs sl := rfl
theorem wn_X3_readPad_47 : wpN l G mi_X3_readPad Γ F sgs_X3_readPad (n + 1) 47 L st S cs sl = wp G Γ (mR mi_X3_readPad) (wpN l G mi_X3_readPad Γ F sgs_X3_readPad n) (EX mi_X3_readPad F) sg_X3_readPad_47 L st S cs sl := rfl
theorem wn_X3_readPad_61 : wpN l G mi_X3_readPad Γ F sgs_X3_readPad (n + 1) 61 L st S cs sl = wp G Γ (mR mi_X3_readPad) (wpN l G mi_X3_readPad Γ F sgs_X3_readPad n) (EX mi_X3_readPad F) sg_X3_readPad_61 L st S cs sl := rfl
theorem wn_X3_readPad_67 : wpN l G mi_X3_readPad Γ F sgs_X3_readPad (n + 1) 67 L st S cs sl = wp G Γ (mR mi_X3_readPad) (wpN l G mi_X3_readPad Γ F sgs_X3_readPad n) (EX mi_X3_readPad F) sg_X3_readPad_67 L st S cs sl := rfl
theorem wn_X4_codeIn_0 : wpN l G mi_X4_codeIn Γ F sgs_X4_codeIn (n + 1) 0 L st S cs sl = wp G Γ (mR mi_X4_codeIn) (wpN l G mi_X4_codeIn Γ F sgs_X4_codeIn n) (EX mi_X4_codeIn F) sg_X4_codeIn_0 L st S cs sl := rfl
theorem wn_X4_charactersIn_0 : wpN l G mi_X4_charactersIn Γ F sgs_X4_charactersIn (n + 1) 0 L st S cs sl = wp G Γ (mR mi_X4_charactersIn) (wpN l G mi_X4_charactersIn Γ F sgs_X4_charactersIn n) (EX mi_X4_charactersIn F) sg_X4_charactersIn_0 L st S cs sl := rfl
theorem wn_X4_charactersIn_2 : wpN l G mi_X4_charactersIn Γ F sgs_X4_charactersIn (n + 1) 2 L st S cs sl = V l G mi_X4_charactersIn F 2 L st S cs sl := rfl
theorem wn_X4_charactersIn_34 : wpN l G mi_X4_charactersIn Γ F sgs_X4_charactersIn (n + 1) 34 L st S cs sl = wp G Γ (mR mi_X4_charactersIn) (wpN l G mi_X4_charactersIn Γ F sgs_X4_charactersIn n) (EX mi_X4_charactersIn F) sg_X4_charactersIn_34 L st S cs sl := rfl
theorem wn_X4_charactersIn_36 : wpN l G mi_X4_charactersIn Γ F sgs_X4_charactersIn (n + 1) 36 L st S cs sl = wp G Γ (mR mi_X4_charactersIn) (wpN l G mi_X4_charactersIn Γ F sgs_X4_charactersIn n) (EX mi_X4_charactersIn F) sg_X4_charactersIn_36 L st S cs sl := rfl
theorem wn_X4_charactersIn_42 : wpN l G mi_X4_charactersIn Γ F sgs_X4_charactersIn (n + 1) 42 L st S cs sl = wp G Γ (mR mi_X4_charactersIn) (wpN l G mi_X4_charactersIn Γ F sgs_X4_charactersIn n) (EX mi_X4_charactersIn F) sg_X4_charactersIn_42 L st S cs sl := rfl
theorem wn_X4_charactersIn_63 : wpN l G mi_X4_charactersIn Γ F sgs_X4_charactersIn (n + 1) 63 L st S cs sl = wp G Γ (mR mi_X4_charactersIn) (wpN l G mi_X4_charactersIn Γ F sgs_X4_charactersIn n) (EX mi_X4_charactersIn F) sg_X4_charactersIn_63 L st S cs sl := rfl
theorem wn_X4_charactersIn_64 : wpN l G mi_X4_charactersIn Γ F sgs_X4_charactersIn (n + 1) 64 L st S cs sl = wp G Γ (mR mi_X4_charactersIn) (wpN l G mi_X4_charactersIn Γ F sgs_X4_charactersIn n) (EX mi_X4_charactersIn F) sg_X4_charactersIn_64 L st S cs sl := rfl
theorem wn_X4_charactersIn_73 : wpN l G mi_X4_charactersIn Γ F sgs_X4_charactersIn (n + 1) 73 L st S cs sl = wp G Γ (mR mi_X4_charactersIn) (wpN l G mi_X4_charactersIn Γ F sgs_X4_charactersIn n) (EX mi_X4_charactersIn F) sg_X4_charactersIn_73 L st S cs sl := rfl
theorem wn_X4_charactersIn_74 : wpN l G mi_X4_charactersIn Γ F sgs_X4_charactersIn (n + 1) 74 L st S cs sl = wp G Γ (mR mi_X4_charactersIn) (wpN l G mi_X4_charactersIn Γ F sgs_X4_charactersIn n) (EX mi_X4_charactersIn F) sg_X4_charactersIn_74 L st S cs sl := rfl
theorem wn_X4_append_0 : wpN l G mi_X4_append Γ F sgs_X4_append (n + 1) 0 L st S cs sl = wp G Γ (mR mi_X4_append) (wpN l G mi_X4_append Γ F sgs_X4_append n) (EX mi_X4_append F) sg_X4_append_0 L st S cs sl := rfl
theorem wn_X4_append_13 : wpN l G mi_X4_append Γ F sgs_X4_append (n + 1) 13 L st S cs sl = wp G Γ (mR mi_X4_append) (wpN l G mi_X4_append Γ F sgs_X4_append n) (EX mi_X4_append F) sg_X4_append_13 L st S cs sl := rfl
theorem wn_X4_append_27 : wpN l G mi_X4_append Γ F sgs_X4_append (n + 1) 27 L st S cs sl = wp G Γ (mR mi_X4_append) (wpN l G mi_X4_append Γ F sgs_X4_append n) (EX mi_X4_append F) sg_X4_append_27 L st S cs sl := rfl
theorem wn_X4_append_32 : wpN l G mi_X4_append Γ F sgs_X4_append (n + 1) 32 L st S cs sl = V l G mi_X4_append F 32 L st S cs sl := rfl
theorem wn_X4_append_69 : wpN l G mi_X4_append Γ F sgs_X4_append (n + 1) 69 L st S cs sl = wp G Γ (mR mi_X4_append) (wpN l G mi_X4_append Γ F sgs_X4_append n) (EX mi_X4_append F) sg_X4_append_69 L st S cs sl := rfl
theorem wn_X4_empty_0 : wpN l G mi_X4_empty Γ F sgs_X4_empty (n + 1) 0 L st S cs sl = wp G Γ (mR mi_X4_empty) (wpN l G mi_X4_empty Γ F sgs_X4_empty n) (EX mi_X4_empty F) sg_X4_empty_0 L st S cs sl := rfl
theorem wn_Jxf58ca_isNaN_12338_0 : wpN l G mi_Jxf58ca_isNaN_12338 Γ F sgs_Jxf58ca_isNaN_12338 (n + 1) 0 L st S cs sl = wp G Γ (mR mi_Jxf58ca_isNaN_12338) (wpN l G mi_Jxf58ca_isNaN_12338 Γ F sgs_Jxf58ca_isNaN_12338 n) (EX mi_Jxf58ca_isNaN_12338 F) sg_Jxf58ca_isNaN_12338_0 L st S cs sl := rfl
theorem wn_Jxf58ca_isNaN_12338_10 : wpN l G mi_Jxf58ca_isNaN_12338 Γ F sgs_Jxf58ca_isNaN_12338 (n + 1) 10 L st S cs sl = wp G Γ (mR mi_Jxf58ca_isNaN_12338) (wpN l G mi_Jxf58ca_isNaN_12338 Γ F sgs_Jxf58ca_isNaN_12338 n) (EX mi_Jxf58ca_isNaN_12338 F) sg_Jxf58ca_isNaN_12338_10 L st S cs sl := rfl
theorem wn_Jxf58ca_isNaN_12338_11 : wpN l G mi_Jxf58ca_isNaN_12338 Γ F sgs_Jxf58ca_isNaN_12338 (n + 1) 11 L st S cs sl = wp G Γ (mR mi_Jxf58ca_isNaN_12338) (wpN l G mi_Jxf58ca_isNaN_12338 Γ F sgs_Jxf58ca_isNaN_12338 n) (EX mi_Jxf58ca_isNaN_12338 F) sg_Jxf58ca_isNaN_12338_11 L st S cs sl := rfl
theorem wn_Jxf58ca_floatToIntBits_5c35a_0 : wpN l G mi_Jxf58ca_floatToIntBits_5c35a Γ F sgs_Jxf58ca_floatToIntBits_5c35a (n + 1) 0 L st S cs sl = wp G Γ (mR mi_Jxf58ca_floatToIntBits_5c35a) (wpN l G mi_Jxf58ca_floatToIntBits_5c35a Γ F sgs_Jxf58ca_floatToIntBits_5c35a n) (EX mi_Jxf58ca_floatToIntBits_5c35a F) sg_Jxf58ca_floatToIntBits_5c35a_0 L st S cs sl := rfl
theorem wn_Jxf58ca_floatToIntBits_5c35a_12 : wpN l G mi_Jxf58ca_floatToIntBits_5c35a Γ F sgs_Jxf58ca_floatToIntBits_5c35a (n + 1) 12 L st S cs sl = wp G Γ (mR mi_Jxf58ca_floatToIntBits_5c35a) (wpN l G mi_Jxf58ca_floatToIntBits_5c35a Γ F sgs_Jxf58ca_floatToIntBits_5c35a n) (EX mi_Jxf58ca_floatToIntBits_5c35a F) sg_Jxf58ca_floatToIntBits_5c35a_12 L st S cs sl := rfl
theorem wn_Jxe99ae_isNaN_b9ae7_0 : wpN l G mi_Jxe99ae_isNaN_b9ae7 Γ F sgs_Jxe99ae_isNaN_b9ae7 (n + 1) 0 L st S cs sl = wp G Γ (mR mi_Jxe99ae_isNaN_b9ae7) (wpN l G mi_Jxe99ae_isNaN_b9ae7 Γ F sgs_Jxe99ae_isNaN_b9ae7 n) (EX mi_Jxe99ae_isNaN_b9ae7 F) sg_Jxe99ae_isNaN_b9ae7_0 L st S cs sl := rfl
theorem wn_Jxe99ae_isNaN_b9ae7_10 : wpN l G mi_Jxe99ae_isNaN_b9ae7 Γ F sgs_Jxe99ae_isNaN_b9ae7 (n + 1) 10 L st S cs sl = wp G Γ (mR mi_Jxe99ae_isNaN_b9ae7) (wpN l G mi_Jxe99ae_isNaN_b9ae7 Γ F sgs_Jxe99ae_isNaN_b9ae7 n) (EX mi_Jxe99ae_isNaN_b9ae7 F) sg_Jxe99ae_isNaN_b9ae7_10 L st S cs sl := rfl
theorem wn_Jxe99ae_isNaN_b9ae7_11 : wpN l G mi_Jxe99ae_isNaN_b9ae7 Γ F sgs_Jxe99ae_isNaN_b9ae7 (n + 1) 11 L st S cs sl = wp G Γ (mR mi_Jxe99ae_isNaN_b9ae7) (wpN l G mi_Jxe99ae_isNaN_b9ae7 Γ F sgs_Jxe99ae_isNaN_b9ae7 n) (EX mi_Jxe99ae_isNaN_b9ae7 F) sg_Jxe99ae_isNaN_b9ae7_11 L st S cs sl := rfl
theorem wn_Jxe99ae_doubleToLongBits_ccdee_0 : wpN l G mi_Jxe99ae_doubleToLongBits_ccdee Γ F sgs_Jxe99ae_doubleToLongBits_ccdee (n + 1) 0 L st S cs sl = wp G Γ (mR mi_Jxe99ae_doubleToLongBits_ccdee) (wpN l G mi_Jxe99ae_doubleToLongBits_ccdee Γ F sgs_Jxe99ae_doubleToLongBits_ccdee n) (EX mi_Jxe99ae_doubleToLongBits_ccdee F) sg_Jxe99ae_doubleToLongBits_ccdee_0 L st S cs sl := rfl
theorem wn_Jxe99ae_doubleToLongBits_ccdee_12 : wpN l G mi_Jxe99ae_doubleToLongBits_ccdee Γ F sgs_Jxe99ae_doubleToLongBits_ccdee (n + 1) 12 L st S cs sl = wp G Γ (mR mi_Jxe99ae_doubleToLongBits_ccdee) (wpN l G mi_Jxe99ae_doubleToLongBits_ccdee Γ F sgs_Jxe99ae_doubleToLongBits_ccdee n) (EX mi_Jxe99ae_doubleToLongBits_ccdee F) sg_Jxe99ae_doubleToLongBits_ccdee_12 L st S cs sl := rfl
theorem wn_X0_init_0 : wpN l G mi_X0_init Γ F sgs_X0_init (n + 1) 0 L st S cs sl = wp G Γ (mR mi_X0_init) (wpN l G mi_X0_init Γ F sgs_X0_init n) (EX mi_X0_init F) sg_X0_init_0 L st S cs sl := rfl
theorem wn_X0_init_82 : wpN l G mi_X0_init Γ F sgs_X0_init (n + 1) 82 L st S cs sl = V l G mi_X0_init F 82 L st S cs sl := rfl
theorem wn_X0_init_106 : wpN l G mi_X0_init Γ F sgs_X0_init (n + 1) 106 L st S cs sl = wp G Γ (mR mi_X0_init) (wpN l G mi_X0_init Γ F sgs_X0_init n) (EX mi_X0_init F) sg_X0_init_106 L st S cs sl := rfl
theorem wn_X0_copyFrom_0 : wpN l G mi_X0_copyFrom Γ F sgs_X0_copyFrom (n + 1) 0 L st S cs sl = wp G Γ (mR mi_X0_copyFrom) (wpN l G mi_X0_copyFrom Γ F sgs_X0_copyFrom n) (EX mi_X0_copyFrom F) sg_X0_copyFrom_0 L st S cs sl := rfl
theorem wn_X0_copyFrom_94 : wpN l G mi_X0_copyFrom Γ F sgs_X0_copyFrom (n + 1) 94 L st S cs sl = V l G mi_X0_copyFrom F 94 L st S cs sl := rfl
theorem wn_X0_copyFrom_123 : wpN l G mi_X0_copyFrom Γ F sgs_X0_copyFrom (n + 1) 123 L st S cs sl = wp G Γ (mR mi_X0_copyFrom) (wpN l G mi_X0_copyFrom Γ F sgs_X0_copyFrom n) (EX mi_X0_copyFrom F) sg_X0_copyFrom_123 L st S cs sl := rfl
theorem wn_X0_isPlate_0 : wpN l G mi_X0_isPlate Γ F sgs_X0_isPlate (n + 1) 0 L st S cs sl = wp G Γ (mR mi_X0_isPlate) (wpN l G mi_X0_isPlate Γ F sgs_X0_isPlate n) (EX mi_X0_isPlate F) sg_X0_isPlate_0 L st S cs sl := rfl
theorem wn_X0_isPlate_16 : wpN l G mi_X0_isPlate Γ F sgs_X0_isPlate (n + 1) 16 L st S cs sl = wp G Γ (mR mi_X0_isPlate) (wpN l G mi_X0_isPlate Γ F sgs_X0_isPlate n) (EX mi_X0_isPlate F) sg_X0_isPlate_16 L st S cs sl := rfl
theorem wn_X0_isPlate_17 : wpN l G mi_X0_isPlate Γ F sgs_X0_isPlate (n + 1) 17 L st S cs sl = wp G Γ (mR mi_X0_isPlate) (wpN l G mi_X0_isPlate Γ F sgs_X0_isPlate n) (EX mi_X0_isPlate F) sg_X0_isPlate_17 L st S cs sl := rfl
theorem wn_X0_isWriter_0 : wpN l G mi_X0_isWriter Γ F sgs_X0_isWriter (n + 1) 0 L st S cs sl = wp G Γ (mR mi_X0_isWriter) (wpN l G mi_X0_isWriter Γ F sgs_X0_isWriter n) (EX mi_X0_isWriter F) sg_X0_isWriter_0 L st S cs sl := rfl
theorem wn_X0_isWriter_16 : wpN l G mi_X0_isWriter Γ F sgs_X0_isWriter (n + 1) 16 L st S cs sl = wp G Γ (mR mi_X0_isWriter) (wpN l G mi_X0_isWriter Γ F sgs_X0_isWriter n) (EX mi_X0_isWriter F) sg_X0_isWriter_16 L st S cs sl := rfl
theorem wn_X0_isWriter_17 : wpN l G mi_X0_isWriter Γ F sgs_X0_isWriter (n + 1) 17 L st S cs sl = wp G Γ (mR mi_X0_isWriter) (wpN l G mi_X0_isWriter Γ F sgs_X0_isWriter n) (EX mi_X0_isWriter F) sg_X0_isWriter_17 L st S cs sl := rfl
theorem wn_X0_glassOnDesk_0 : wpN l G mi_X0_glassOnDesk Γ F sgs_X0_glassOnDesk (n + 1) 0 L st S cs sl = wp G Γ (mR mi_X0_glassOnDesk) (wpN l G mi_X0_glassOnDesk Γ F sgs_X0_glassOnDesk n) (EX mi_X0_glassOnDesk F) sg_X0_glassOnDesk_0 L st S cs sl := rfl
theorem wn_X0_glassOnDesk_23 : wpN l G mi_X0_glassOnDesk Γ F sgs_X0_glassOnDesk (n + 1) 23 L st S cs sl = wp G Γ (mR mi_X0_glassOnDesk) (wpN l G mi_X0_glassOnDesk Γ F sgs_X0_glassOnDesk n) (EX mi_X0_glassOnDesk F) sg_X0_glassOnDesk_23 L st S cs sl := rfl
theorem wn_X0_glassOnDesk_24 : wpN l G mi_X0_glassOnDesk Γ F sgs_X0_glassOnDesk (n + 1) 24 L st S cs sl = wp G Γ (mR mi_X0_glassOnDesk) (wpN l G mi_X0_glassOnDesk Γ F sgs_X0_glassOnDesk n) (EX mi_X0_glassOnDesk F) sg_X0_glassOnDesk_24 L st S cs sl := rfl
theorem wn_X0_change_0 : wpN l G mi_X0_change Γ F sgs_X0_change (n + 1) 0 L st S cs sl = wp G Γ (mR mi_X0_change) (wpN l G mi_X0_change Γ F sgs_X0_change n) (EX mi_X0_change F) sg_X0_change_0 L st S cs sl := rfl
theorem wn_X0_change_9 : wpN l G mi_X0_change Γ F sgs_X0_change (n + 1) 9 L st S cs sl = wp G Γ (mR mi_X0_change) (wpN l G mi_X0_change Γ F sgs_X0_change n) (EX mi_X0_change F) sg_X0_change_9 L st S cs sl := rfl
theorem wn_X0_change_12 : wpN l G mi_X0_change Γ F sgs_X0_change (n + 1) 12 L st S cs sl = wp G Γ (mR mi_X0_change) (wpN l G mi_X0_change Γ F sgs_X0_change n) (EX mi_X0_change F) sg_X0_change_12 L st S cs sl := rfl
theorem wn_X0_change_30 : wpN l G mi_X0_change Γ F sgs_X0_change (n + 1) 30 L st S cs sl = wp G Γ (mR mi_X0_change) (wpN l G mi_X0_change Γ F sgs_X0_change n) (EX mi_X0_change F) sg_X0_change_30 L st S cs sl := rfl
theorem wn_X0_change_33 : wpN l G mi_X0_change Γ F sgs_X0_change (n + 1) 33 L st S cs sl = wp G Γ (mR mi_X0_change) (wpN l G mi_X0_change Γ F sgs_X0_change n) (EX mi_X0_change F) sg_X0_change_33 L st S cs sl := rfl
theorem wn_X0_addPlate_0 : wpN l G mi_X0_addPlate Γ F sgs_X0_addPlate (n + 1) 0 L st S cs sl = wp G Γ (mR mi_X0_addPlate) (wpN l G mi_X0_addPlate Γ F sgs_X0_addPlate n) (EX mi_X0_addPlate F) sg_X0_addPlate_0 L st S cs sl := rfl
theorem wn_X0_addPlate_11 : wpN l G mi_X0_addPlate Γ F sgs_X0_addPlate (n + 1) 11 L st S cs sl = wp G Γ (mR mi_X0_addPlate) (wpN l G mi_X0_addPlate Γ F sgs_X0_addPlate n) (EX mi_X0_addPlate F) sg_X0_addPlate_11 L st S cs sl := rfl
theorem wn_X0_layPlate_0 : wpN l G mi_X0_layPlate Γ F sgs_X0_layPlate (n + 1) 0 L st S cs sl = wp G Γ (mR mi_X0_layPlate) (wpN l G mi_X0_layPlate Γ F sgs_X0_layPlate n) (EX mi_X0_layPlate F) sg_X0_layPlate_0 L st S cs sl := rfl
theorem wn_X0_layPlate_10 : wpN l G mi_X0_layPlate Γ F sgs_X0_layPlate (n + 1) 10 L st S cs sl = wp G Γ (mR mi_X0_layPlate) (wpN l G mi_X0_layPlate Γ F sgs_X0_layPlate n) (EX mi_X0_layPlate F) sg_X0_layPlate_10 L st S cs sl := rfl
theorem wn_X0_layPlate_21 : wpN l G mi_X0_layPlate Γ F sgs_X0_layPlate (n + 1) 21 L st S cs sl = wp G Γ (mR mi_X0_layPlate) (wpN l G mi_X0_layPlate Γ F sgs_X0_layPlate n) (EX mi_X0_layPlate F) sg_X0_layPlate_21 L st S cs sl := rfl
theorem wn_X0_addWriter_0 : wpN l G mi_X0_addWriter Γ F sgs_X0_addWriter (n + 1) 0 L st S cs sl = wp G Γ (mR mi_X0_addWriter) (wpN l G mi_X0_addWriter Γ F sgs_X0_addWriter n) (EX mi_X0_addWriter F) sg_X0_addWriter_0 L st S cs sl := rfl
theorem wn_X0_addWriter_10 : wpN l G mi_X0_addWriter Γ F sgs_X0_addWriter (n + 1) 10 L st S cs sl = wp G Γ (mR mi_X0_addWriter) (wpN l G mi_X0_addWriter Γ F sgs_X0_addWriter n) (EX mi_X0_addWriter F) sg_X0_addWriter_10 L st S cs sl := rfl
theorem wn_X0_addWriter_13 : wpN l G mi_X0_addWriter Γ F sgs_X0_addWriter (n + 1) 13 L st S cs sl = wp G Γ (mR mi_X0_addWriter) (wpN l G mi_X0_addWriter Γ F sgs_X0_addWriter n) (EX mi_X0_addWriter F) sg_X0_addWriter_13 L st S cs sl := rfl
theorem wn_X0_addWriter_24 : wpN l G mi_X0_addWriter Γ F sgs_X0_addWriter (n + 1) 24 L st S cs sl = wp G Γ (mR mi_X0_addWriter) (wpN l G mi_X0_addWriter Γ F sgs_X0_addWriter n) (EX mi_X0_addWriter F) sg_X0_addWriter_24 L st S cs sl := rfl
theorem wn_X0_isEnough_0 : wpN l G mi_X0_isEnough Γ F sgs_X0_isEnough (n + 1) 0 L st S cs sl = wp G Γ (mR mi_X0_isEnough) (wpN l G mi_X0_isEnough Γ F sgs_X0_isEnough n) (EX mi_X0_isEnough F) sg_X0_isEnough_0 L st S cs sl := rfl
theorem wn_X0_isEnough_19 : wpN l G mi_X0_isEnough Γ F sgs_X0_isEnough (n + 1) 19 L st S cs sl = wp G Γ (mR mi_X0_isEnough) (wpN l G mi_X0_isEnough Γ F sgs_X0_isEnough n) (EX mi_X0_isEnough F) sg_X0_isEnough_19 L st S cs sl := rfl
theorem wn_X0_isEnough_20 : wpN l G mi_X0_isEnough Γ F sgs_X0_isEnough (n + 1) 20 L st S cs sl = wp G Γ (mR mi_X0_isEnough) (wpN l G mi_X0_isEnough Γ F sgs_X0_isEnough n) (EX mi_X0_isEnough F) sg_X0_isEnough_20 L st S cs sl := rfl
theorem wn_X0_canBeRead_0 : wpN l G mi_X0_canBeRead Γ F sgs_X0_canBeRead (n + 1) 0 L st S cs sl = wp G Γ (mR mi_X0_canBeRead) (wpN l G mi_X0_canBeRead Γ F sgs_X0_canBeRead n) (EX mi_X0_canBeRead F) sg_X0_canBeRead_0 L st S cs sl := rfl
theorem wn_X0_canBeRead_28 : wpN l G mi_X0_canBeRead Γ F sgs_X0_canBeRead (n + 1) 28 L st S cs sl = wp G Γ (mR mi_X0_canBeRead) (wpN l G mi_X0_canBeRead Γ F sgs_X0_canBeRead n) (EX mi_X0_canBeRead F) sg_X0_canBeRead_28 L st S cs sl := rfl
theorem wn_X0_canBeRead_29 : wpN l G mi_X0_canBeRead Γ F sgs_X0_canBeRead (n + 1) 29 L st S cs sl = wp G Γ (mR mi_X0_canBeRead) (wpN l G mi_X0_canBeRead Γ F sgs_X0_canBeRead n) (EX mi_X0_canBeRead F) sg_X0_canBeRead_29 L st S cs sl := rfl
theorem wn_X0_distance_0 : wpN l G mi_X0_distance Γ F sgs_X0_distance (n + 1) 0 L st S cs sl = wp G Γ (mR mi_X0_distance) (wpN l G mi_X0_distance Γ F sgs_X0_distance n) (EX mi_X0_distance F) sg_X0_distance_0 L st S cs sl := rfl
theorem wn_X0_dimmed_0 : wpN l G mi_X0_dimmed Γ F sgs_X0_dimmed (n + 1) 0 L st S cs sl = wp G Γ (mR mi_X0_dimmed) (wpN l G mi_X0_dimmed Γ F sgs_X0_dimmed n) (EX mi_X0_dimmed F) sg_X0_dimmed_0 L st S cs sl := rfl
theorem wn_X0_dimmed_19 : wpN l G mi_X0_dimmed Γ F sgs_X0_dimmed (n + 1) 19 L st S cs sl = wp G Γ (mR mi_X0_dimmed) (wpN l G mi_X0_dimmed Γ F sgs_X0_dimmed n) (EX mi_X0_dimmed F) sg_X0_dimmed_19 L st S cs sl := rfl
theorem wn_X0_dimmed_21 : wpN l G mi_X0_dimmed Γ F sgs_X0_dimmed (n + 1) 21 L st S cs sl = wp G Γ (mR mi_X0_dimmed) (wpN l G mi_X0_dimmed Γ F sgs_X0_dimmed n) (EX mi_X0_dimmed F) sg_X0_dimmed_21 L st S cs sl := rfl
theorem wn_X0_dimmed_34 : wpN l G mi_X0_dimmed Γ F sgs_X0_dimmed (n + 1) 34 L st S cs sl = wp G Γ (mR mi_X0_dimmed) (wpN l G mi_X0_dimmed Γ F sgs_X0_dimmed n) (EX mi_X0_dimmed F) sg_X0_dimmed_34 L st S cs sl := rfl
theorem wn_X0_dimmed_35 : wpN l G mi_X0_dimmed Γ F sgs_X0_dimmed (n + 1) 35 L st S cs sl = wp G Γ (mR mi_X0_dimmed) (wpN l G mi_X0_dimmed Γ F sgs_X0_dimmed n) (EX mi_X0_dimmed F) sg_X0_dimmed_35 L st S cs sl := rfl
theorem wn_X0_mark_0 : wpN l G mi_X0_mark Γ F sgs_X0_mark (n + 1) 0 L st S cs sl = wp G Γ (mR mi_X0_mark) (wpN l G mi_X0_mark Γ F sgs_X0_mark n) (EX mi_X0_mark F) sg_X0_mark_0 L st S cs sl := rfl
theorem wn_X0_mark_22 : wpN l G mi_X0_mark Γ F sgs_X0_mark (n + 1) 22 L st S cs sl = V l G mi_X0_mark F 22 L st S cs sl := rfl
theorem wn_X0_mark_41 : wpN l G mi_X0_mark Γ F sgs_X0_mark (n + 1) 41 L st S cs sl = V l G mi_X0_mark F 41 L st S cs sl := rfl
theorem wn_X0_mark_115 : wpN l G mi_X0_mark Γ F sgs_X0_mark (n + 1) 115 L st S cs sl = wp G Γ (mR mi_X0_mark) (wpN l G mi_X0_mark Γ F sgs_X0_mark n) (EX mi_X0_mark F) sg_X0_mark_115 L st S cs sl := rfl
theorem wn_X0_mark_121 : wpN l G mi_X0_mark Γ F sgs_X0_mark (n + 1) 121 L st S cs sl = wp G Γ (mR mi_X0_mark) (wpN l G mi_X0_mark Γ F sgs_X0_mark n) (EX mi_X0_mark F) sg_X0_mark_121 L st S cs sl := rfl
theorem wn_X0_mark_127 : wpN l G mi_X0_mark Γ F sgs_X0_mark (n + 1) 127 L st S cs sl = wp G Γ (mR mi_X0_mark) (wpN l G mi_X0_mark Γ F sgs_X0_mark n) (EX mi_X0_mark F) sg_X0_mark_127 L st S cs sl := rfl
theorem wn_X0_writeLetter_0 : wpN l G mi_X0_writeLetter Γ F sgs_X0_writeLetter (n + 1) 0 L st S cs sl = wp G Γ (mR mi_X0_writeLetter) (wpN l G mi_X0_writeLetter Γ F sgs_X0_writeLetter n) (EX mi_X0_writeLetter F) sg_X0_writeLetter_0 L st S cs sl := rfl
theorem wn_X0_writeLetter_27 : wpN l G mi_X0_writeLetter Γ F sgs_X0_writeLetter (n + 1) 27 L st S cs sl = wp G Γ (mR mi_X0_writeLetter) (wpN l G mi_X0_writeLetter Γ F sgs_X0_writeLetter n) (EX mi_X0_writeLetter F) sg_X0_writeLetter_27 L st S cs sl := rfl
theorem wn_X0_writeLetter_29 : wpN l G mi_X0_writeLetter Γ F sgs_X0_writeLetter (n + 1) 29 L st S cs sl = wp G Γ (mR mi_X0_writeLetter) (wpN l G mi_X0_writeLetter Γ F sgs_X0_writeLetter n) (EX mi_X0_writeLetter F) sg_X0_writeLetter_29 L st S cs sl := rfl
theorem wn_X0_writeLetter_41 : wpN l G mi_X0_writeLetter Γ F sgs_X0_writeLetter (n + 1) 41 L st S cs sl = wp G Γ (mR mi_X0_writeLetter) (wpN l G mi_X0_writeLetter Γ F sgs_X0_writeLetter n) (EX mi_X0_writeLetter F) sg_X0_writeLetter_41 L st S cs sl := rfl
theorem wn_X0_writeLetter_44 : wpN l G mi_X0_writeLetter Γ F sgs_X0_writeLetter (n + 1) 44 L st S cs sl = wp G Γ (mR mi_X0_writeLetter) (wpN l G mi_X0_writeLetter Γ F sgs_X0_writeLetter n) (EX mi_X0_writeLetter F) sg_X0_writeLetter_44 L st S cs sl := rfl
theorem wn_X0_writeLetter_90 : wpN l G mi_X0_writeLetter Γ F sgs_X0_writeLetter (n + 1) 90 L st S cs sl = wp G Γ (mR mi_X0_writeLetter) (wpN l G mi_X0_writeLetter Γ F sgs_X0_writeLetter n) (EX mi_X0_writeLetter F) sg_X0_writeLetter_90 L st S cs sl := rfl
theorem wn_X0_writeLetter_94 : wpN l G mi_X0_writeLetter Γ F sgs_X0_writeLetter (n + 1) 94 L st S cs sl = wp G Γ (mR mi_X0_writeLetter) (wpN l G mi_X0_writeLetter Γ F sgs_X0_writeLetter n) (EX mi_X0_writeLetter F) sg_X0_writeLetter_94 L st S cs sl := rfl
theorem wn_X0_writeLetter_95 : wpN l G mi_X0_writeLetter Γ F sgs_X0_writeLetter (n + 1) 95 L st S cs sl = wp G Γ (mR mi_X0_writeLetter) (wpN l G mi_X0_writeLetter Γ F sgs_X0_writeLetter n) (EX mi_X0_writeLetter F) sg_X0_writeLetter_95 L st S cs sl := rfl
theorem wn_X0_writeLetter_117 : wpN l G mi_X0_writeLetter Γ F sgs_X0_writeLetter (n + 1) 117 L st S cs sl = wp G Γ (mR mi_X0_writeLetter) (wpN l G mi_X0_writeLetter Γ F sgs_X0_writeLetter n) (EX mi_X0_writeLetter F) sg_X0_writeLetter_117 L st S cs sl := rfl
theorem wn_X0_writeLetter_120 : wpN l G mi_X0_writeLetter Γ F sgs_X0_writeLetter (n + 1) 120 L st S cs sl = wp G Γ (mR mi_X0_writeLetter) (wpN l G mi_X0_writeLetter Γ F sgs_X0_writeLetter n) (EX mi_X0_writeLetter F) sg_X0_writeLetter_120 L st S cs sl := rfl
theorem wn_X0_lightAhead_0 : wpN l G mi_X0_lightAhead Γ F sgs_X0_lightAhead (n + 1) 0 L st S cs sl = wp G Γ (mR mi_X0_lightAhead) (wpN l G mi_X0_lightAhead Γ F sgs_X0_lightAhead n) (EX mi_X0_lightAhead F) sg_X0_lightAhead_0 L st S cs sl := rfl
theorem wn_X0_lightAhead_25 : wpN l G mi_X0_lightAhead Γ F sgs_X0_lightAhead (n + 1) 25 L st S cs sl = V l G mi_X0_lightAhead F 25 L st S cs sl := rfl
theorem wn_X0_lightAhead_43 : wpN l G mi_X0_lightAhead Γ F sgs_X0_lightAhead (n + 1) 43 L st S cs sl = V l G mi_X0_lightAhead F 43 L st S cs sl := rfl
theorem wn_X0_lightAhead_98 : wpN l G mi_X0_lightAhead Γ F sgs_X0_lightAhead (n + 1) 98 L st S cs sl = wp G Γ (mR mi_X0_lightAhead) (wpN l G mi_X0_lightAhead Γ F sgs_X0_lightAhead n) (EX mi_X0_lightAhead F) sg_X0_lightAhead_98 L st S cs sl := rfl
theorem wn_X0_lightAhead_104 : wpN l G mi_X0_lightAhead Γ F sgs_X0_lightAhead (n + 1) 104 L st S cs sl = wp G Γ (mR mi_X0_lightAhead) (wpN l G mi_X0_lightAhead Γ F sgs_X0_lightAhead n) (EX mi_X0_lightAhead F) sg_X0_lightAhead_104 L st S cs sl := rfl
theorem wn_X0_lightAhead_110 : wpN l G mi_X0_lightAhead Γ F sgs_X0_lightAhead (n + 1) 110 L st S cs sl = wp G Γ (mR mi_X0_lightAhead) (wpN l G mi_X0_lightAhead Γ F sgs_X0_lightAhead n) (EX mi_X0_lightAhead F) sg_X0_lightAhead_110 L st S cs sl := rfl
theorem wn_X0_hasRoom_0 : wpN l G mi_X0_hasRoom Γ F sgs_X0_hasRoom (n + 1) 0 L st S cs sl = wp G Γ (mR mi_X0_hasRoom) (wpN l G mi_X0_hasRoom Γ F sgs_X0_hasRoom n) (EX mi_X0_hasRoom F) sg_X0_hasRoom_0 L st S cs sl := rfl
theorem wn_X0_hasRoom_25 : wpN l G mi_X0_hasRoom Γ F sgs_X0_hasRoom (n + 1) 25 L st S cs sl = wp G Γ (mR mi_X0_hasRoom) (wpN l G mi_X0_hasRoom Γ F sgs_X0_hasRoom n) (EX mi_X0_hasRoom F) sg_X0_hasRoom_25 L st S cs sl := rfl
theorem wn_X0_hasRoom_26 : wpN l G mi_X0_hasRoom Γ F sgs_X0_hasRoom (n + 1) 26 L st S cs sl = wp G Γ (mR mi_X0_hasRoom) (wpN l G mi_X0_hasRoom Γ F sgs_X0_hasRoom n) (EX mi_X0_hasRoom F) sg_X0_hasRoom_26 L st S cs sl := rfl
theorem wn_X0_promisePlace_0 : wpN l G mi_X0_promisePlace Γ F sgs_X0_promisePlace (n + 1) 0 L st S cs sl = wp G Γ (mR mi_X0_promisePlace) (wpN l G mi_X0_promisePlace Γ F sgs_X0_promisePlace n) (EX mi_X0_promisePlace F) sg_X0_promisePlace_0 L st S cs sl := rfl
theorem wn_X0_promisePlace_27 : wpN l G mi_X0_promisePlace Γ F sgs_X0_promisePlace (n + 1) 27 L st S cs sl = wp G Γ (mR mi_X0_promisePlace) (wpN l G mi_X0_promisePlace Γ F sgs_X0_promisePlace n) (EX mi_X0_promisePlace F) sg_X0_promisePlace_27 L st S cs sl := rfl
theorem wn_X0_promisePlace_29 : wpN l G mi_X0_promisePlace Γ F sgs_X0_promisePlace (n + 1) 29 L st S cs sl = wp G Γ (mR mi_X0_promisePlace) (wpN l G mi_X0_promisePlace Γ F sgs_X0_promisePlace n) (EX mi_X0_promisePlace F) sg_X0_promisePlace_29 L st S cs sl := rfl
theorem wn_X0_promisePlace_51 : wpN l G mi_X0_promisePlace Γ F sgs_X0_promisePlace (n + 1) 51 L st S cs sl = wp G Γ (mR mi_X0_promisePlace) (wpN l G mi_X0_promisePlace Γ F sgs_X0_promisePlace n) (EX mi_X0_promisePlace F) sg_X0_promisePlace_51 L st S cs sl := rfl
theorem wn_X0_takePromiseBack_0 : wpN l G mi_X0_takePromiseBack Γ F sgs_X0_takePromiseBack (n + 1) 0 L st S cs sl = wp G Γ (mR mi_X0_takePromiseBack) (wpN l G mi_X0_takePromiseBack Γ F sgs_X0_takePromiseBack n) (EX mi_X0_takePromiseBack F) sg_X0_takePromiseBack_0 L st S cs sl := rfl
theorem wn_X0_takePromiseBack_17 : wpN l G mi_X0_takePromiseBack Γ F sgs_X0_takePromiseBack (n + 1) 17 L st S cs sl = wp G Γ (mR mi_X0_takePromiseBack) (wpN l G mi_X0_takePromiseBack Γ F sgs_X0_takePromiseBack n) (EX mi_X0_takePromiseBack F) sg_X0_takePromiseBack_17 L st S cs sl := rfl
theorem wn_X0_takePromiseBack_19 : wpN l G mi_X0_takePromiseBack Γ F sgs_X0_takePromiseBack (n + 1) 19 L st S cs sl = wp G Γ (mR mi_X0_takePromiseBack) (wpN l G mi_X0_takePromiseBack Γ F sgs_X0_takePromiseBack n) (EX mi_X0_takePromiseBack F) sg_X0_takePromiseBack_19 L st S cs sl := rfl
theorem wn_X0_takePromiseBack_46 : wpN l G mi_X0_takePromiseBack Γ F sgs_X0_takePromiseBack (n + 1) 46 L st S cs sl = wp G Γ (mR mi_X0_takePromiseBack) (wpN l G mi_X0_takePromiseBack Γ F sgs_X0_takePromiseBack n) (EX mi_X0_takePromiseBack F) sg_X0_takePromiseBack_46 L st S cs sl := rfl
theorem wn_X0_rubLetter_0 : wpN l G mi_X0_rubLetter Γ F sgs_X0_rubLetter (n + 1) 0 L st S cs sl = wp G Γ (mR mi_X0_rubLetter) (wpN l G mi_X0_rubLetter Γ F sgs_X0_rubLetter n) (EX mi_X0_rubLetter F) sg_X0_rubLetter_0 L st S cs sl := rfl
theorem wn_X0_rubLetter_17 : wpN l G mi_X0_rubLetter Γ F sgs_X0_rubLetter (n + 1) 17 L st S cs sl = wp G Γ (mR mi_X0_rubLetter) (wpN l G mi_X0_rubLetter Γ F sgs_X0_rubLetter n) (EX mi_X0_rubLetter F) sg_X0_rubLetter_17 L st S cs sl := rfl
theorem wn_X0_rubLetter_19 : wpN l G mi_X0_rubLetter Γ F sgs_X0_rubLetter (n + 1) 19 L st S cs sl = wp G Γ (mR mi_X0_rubLetter) (wpN l G mi_X0_rubLetter Γ F sgs_X0_rubLetter n) (EX mi_X0_rubLetter F) sg_X0_rubLetter_19 L st S cs sl := rfl
theorem wn_X0_rubLetter_46 : wpN l G mi_X0_rubLetter Γ F sgs_X0_rubLetter (n + 1) 46 L st S cs sl = wp G Γ (mR mi_X0_rubLetter) (wpN l G mi_X0_rubLetter Γ F sgs_X0_rubLetter n) (EX mi_X0_rubLetter F) sg_X0_rubLetter_46 L st S cs sl := rfl
theorem wn_X0_cleared_0 : wpN l G mi_X0_cleared Γ F sgs_X0_cleared (n + 1) 0 L st S cs sl = wp G Γ (mR mi_X0_cleared) (wpN l G mi_X0_cleared Γ F sgs_X0_cleared n) (EX mi_X0_cleared F) sg_X0_cleared_0 L st S cs sl := rfl
theorem wn_X0_clearedFor_0 : wpN l G mi_X0_clearedFor Γ F sgs_X0_clearedFor (n + 1) 0 L st S cs sl = wp G Γ (mR mi_X0_clearedFor) (wpN l G mi_X0_clearedFor Γ F sgs_X0_clearedFor n) (EX mi_X0_clearedFor F) sg_X0_clearedFor_0 L st S cs sl := rfl
theorem wn_X0_clearedFor_5 : wpN l G mi_X0_clearedFor Γ F sgs_X0_clearedFor (n + 1) 5 L st S cs sl = V l G mi_X0_clearedFor F 5 L st S cs sl := rfl
theorem wn_X0_clearedFor_27 : wpN l G mi_X0_clearedFor Γ F sgs_X0_clearedFor (n + 1) 27 L st S cs sl = wp G Γ (mR mi_X0_clearedFor) (wpN l G mi_X0_clearedFor Γ F sgs_X0_clearedFor n) (EX mi_X0_clearedFor F) sg_X0_clearedFor_27 L st S cs sl := rfl
theorem wn_X0_clearedFor_36 : wpN l G mi_X0_clearedFor Γ F sgs_X0_clearedFor (n + 1) 36 L st S cs sl = wp G Γ (mR mi_X0_clearedFor) (wpN l G mi_X0_clearedFor Γ F sgs_X0_clearedFor n) (EX mi_X0_clearedFor F) sg_X0_clearedFor_36 L st S cs sl := rfl
theorem wn_X0_clearFor_0 : wpN l G mi_X0_clearFor Γ F sgs_X0_clearFor (n + 1) 0 L st S cs sl = wp G Γ (mR mi_X0_clearFor) (wpN l G mi_X0_clearFor Γ F sgs_X0_clearFor n) (EX mi_X0_clearFor F) sg_X0_clearFor_0 L st S cs sl := rfl
theorem wn_X0_clearFor_2 : wpN l G mi_X0_clearFor Γ F sgs_X0_clearFor (n + 1) 2 L st S cs sl = V l G mi_X0_clearFor F 2 L st S cs sl := rfl
theorem wn_X0_clearFor_31 : wpN l G mi_X0_clearFor Γ F sgs_X0_clearFor (n + 1) 31 L st S cs sl = wp G Γ (mR mi_X0_clearFor) (wpN l G mi_X0_clearFor Γ F sgs_X0_clearFor n) (EX mi_X0_clearFor F) sg_X0_clearFor_31 L st S cs sl := rfl
theorem wn_X0_passHours_0 : wpN l G mi_X0_passHours Γ F sgs_X0_passHours (n + 1) 0 L st S cs sl = wp G Γ (mR mi_X0_passHours) (wpN l G mi_X0_passHours Γ F sgs_X0_passHours n) (EX mi_X0_passHours F) sg_X0_passHours_0 L st S cs sl := rfl
theorem wn_X0_passHours_11 : wpN l G mi_X0_passHours Γ F sgs_X0_passHours (n + 1) 11 L st S cs sl = wp G Γ (mR mi_X0_passHours) (wpN l G mi_X0_passHours Γ F sgs_X0_passHours n) (EX mi_X0_passHours F) sg_X0_passHours_11 L st S cs sl := rfl
theorem wn_X0_passHours_14 : wpN l G mi_X0_passHours Γ F sgs_X0_passHours (n + 1) 14 L st S cs sl = wp G Γ (mR mi_X0_passHours) (wpN l G mi_X0_passHours Γ F sgs_X0_passHours n) (EX mi_X0_passHours F) sg_X0_passHours_14 L st S cs sl := rfl
theorem wn_X0_passHours_29 : wpN l G mi_X0_passHours Γ F sgs_X0_passHours (n + 1) 29 L st S cs sl = wp G Γ (mR mi_X0_passHours) (wpN l G mi_X0_passHours Γ F sgs_X0_passHours n) (EX mi_X0_passHours F) sg_X0_passHours_29 L st S cs sl := rfl
theorem wn_X0_passHours_31 : wpN l G mi_X0_passHours Γ F sgs_X0_passHours (n + 1) 31 L st S cs sl = V l G mi_X0_passHours F 31 L st S cs sl := rfl
theorem wn_X0_passHours_58 : wpN l G mi_X0_passHours Γ F sgs_X0_passHours (n + 1) 58 L st S cs sl = wp G Γ (mR mi_X0_passHours) (wpN l G mi_X0_passHours Γ F sgs_X0_passHours n) (EX mi_X0_passHours F) sg_X0_passHours_58 L st S cs sl := rfl
theorem wn_X0_passHours_64 : wpN l G mi_X0_passHours Γ F sgs_X0_passHours (n + 1) 64 L st S cs sl = wp G Γ (mR mi_X0_passHours) (wpN l G mi_X0_passHours Γ F sgs_X0_passHours n) (EX mi_X0_passHours F) sg_X0_passHours_64 L st S cs sl := rfl
theorem wn_X0_lightLeftBy_0 : wpN l G mi_X0_lightLeftBy Γ F sgs_X0_lightLeftBy (n + 1) 0 L st S cs sl = wp G Γ (mR mi_X0_lightLeftBy) (wpN l G mi_X0_lightLeftBy Γ F sgs_X0_lightLeftBy n) (EX mi_X0_lightLeftBy F) sg_X0_lightLeftBy_0 L st S cs sl := rfl
theorem wn_X0_lightLeftBy_6 : wpN l G mi_X0_lightLeftBy Γ F sgs_X0_lightLeftBy (n + 1) 6 L st S cs sl = V l G mi_X0_lightLeftBy F 6 L st S cs sl := rfl
theorem wn_X0_lightLeftBy_51 : wpN l G mi_X0_lightLeftBy Γ F sgs_X0_lightLeftBy (n + 1) 51 L st S cs sl = wp G Γ (mR mi_X0_lightLeftBy) (wpN l G mi_X0_lightLeftBy Γ F sgs_X0_lightLeftBy n) (EX mi_X0_lightLeftBy F) sg_X0_lightLeftBy_51 L st S cs sl := rfl
theorem wn_X0_lightLeftBy_57 : wpN l G mi_X0_lightLeftBy Γ F sgs_X0_lightLeftBy (n + 1) 57 L st S cs sl = wp G Γ (mR mi_X0_lightLeftBy) (wpN l G mi_X0_lightLeftBy Γ F sgs_X0_lightLeftBy n) (EX mi_X0_lightLeftBy F) sg_X0_lightLeftBy_57 L st S cs sl := rfl
theorem wn_X0_hoursUntilEnough_0 : wpN l G mi_X0_hoursUntilEnough Γ F sgs_X0_hoursUntilEnough (n + 1) 0 L st S cs sl = wp G Γ (mR mi_X0_hoursUntilEnough) (wpN l G mi_X0_hoursUntilEnough Γ F sgs_X0_hoursUntilEnough n) (EX mi_X0_hoursUntilEnough F) sg_X0_hoursUntilEnough_0 L st S cs sl := rfl
theorem wn_X0_hoursUntilEnough_4 : wpN l G mi_X0_hoursUntilEnough Γ F sgs_X0_hoursUntilEnough (n + 1) 4 L st S cs sl = V l G mi_X0_hoursUntilEnough F 4 L st S cs sl := rfl
theorem wn_X0_hoursUntilEnough_31 : wpN l G mi_X0_hoursUntilEnough Γ F sgs_X0_hoursUntilEnough (n + 1) 31 L st S cs sl = wp G Γ (mR mi_X0_hoursUntilEnough) (wpN l G mi_X0_hoursUntilEnough Γ F sgs_X0_hoursUntilEnough n) (EX mi_X0_hoursUntilEnough F) sg_X0_hoursUntilEnough_31 L st S cs sl := rfl
theorem wn_X0_hoursUntilReadable_0 : wpN l G mi_X0_hoursUntilReadable Γ F sgs_X0_hoursUntilReadable (n + 1) 0 L st S cs sl = wp G Γ (mR mi_X0_hoursUntilReadable) (wpN l G mi_X0_hoursUntilReadable Γ F sgs_X0_hoursUntilReadable n) (EX mi_X0_hoursUntilReadable F) sg_X0_hoursUntilReadable_0 L st S cs sl := rfl
theorem wn_X0_hoursUntilReadable_4 : wpN l G mi_X0_hoursUntilReadable Γ F sgs_X0_hoursUntilReadable (n + 1) 4 L st S cs sl = V l G mi_X0_hoursUntilReadable F 4 L st S cs sl := rfl
theorem wn_X0_hoursUntilReadable_36 : wpN l G mi_X0_hoursUntilReadable Γ F sgs_X0_hoursUntilReadable (n + 1) 36 L st S cs sl = wp G Γ (mR mi_X0_hoursUntilReadable) (wpN l G mi_X0_hoursUntilReadable Γ F sgs_X0_hoursUntilReadable n) (EX mi_X0_hoursUntilReadable F) sg_X0_hoursUntilReadable_36 L st S cs sl := rfl
theorem wn_X0_hoursUntilReadable_42 : wpN l G mi_X0_hoursUntilReadable Γ F sgs_X0_hoursUntilReadable (n + 1) 42 L st S cs sl = wp G Γ (mR mi_X0_hoursUntilReadable) (wpN l G mi_X0_hoursUntilReadable Γ F sgs_X0_hoursUntilReadable n) (EX mi_X0_hoursUntilReadable F) sg_X0_hoursUntilReadable_42 L st S cs sl := rfl
theorem wn_X0_hoursUntilReadable_54 : wpN l G mi_X0_hoursUntilReadable Γ F sgs_X0_hoursUntilReadable (n + 1) 54 L st S cs sl = wp G Γ (mR mi_X0_hoursUntilReadable) (wpN l G mi_X0_hoursUntilReadable Γ F sgs_X0_hoursUntilReadable n) (EX mi_X0_hoursUntilReadable F) sg_X0_hoursUntilReadable_54 L st S cs sl := rfl
theorem wn_X0_hoursUntilReadable_55 : wpN l G mi_X0_hoursUntilReadable Γ F sgs_X0_hoursUntilReadable (n + 1) 55 L st S cs sl = wp G Γ (mR mi_X0_hoursUntilReadable) (wpN l G mi_X0_hoursUntilReadable Γ F sgs_X0_hoursUntilReadable n) (EX mi_X0_hoursUntilReadable F) sg_X0_hoursUntilReadable_55 L st S cs sl := rfl
theorem wn_X0_placeIs_0 : wpN l G mi_X0_placeIs Γ F sgs_X0_placeIs (n + 1) 0 L st S cs sl = wp G Γ (mR mi_X0_placeIs) (wpN l G mi_X0_placeIs Γ F sgs_X0_placeIs n) (EX mi_X0_placeIs F) sg_X0_placeIs_0 L st S cs sl := rfl
theorem wn_X0_placeIs_28 : wpN l G mi_X0_placeIs Γ F sgs_X0_placeIs (n + 1) 28 L st S cs sl = wp G Γ (mR mi_X0_placeIs) (wpN l G mi_X0_placeIs Γ F sgs_X0_placeIs n) (EX mi_X0_placeIs F) sg_X0_placeIs_28 L st S cs sl := rfl
theorem wn_X0_placeIs_43 : wpN l G mi_X0_placeIs Γ F sgs_X0_placeIs (n + 1) 43 L st S cs sl = wp G Γ (mR mi_X0_placeIs) (wpN l G mi_X0_placeIs Γ F sgs_X0_placeIs n) (EX mi_X0_placeIs F) sg_X0_placeIs_43 L st S cs sl := rfl
theorem wn_X0_placeIs_44 : wpN l G mi_X0_placeIs Γ F sgs_X0_placeIs (n + 1) 44 L st S cs sl = wp G Γ (mR mi_X0_placeIs) (wpN l G mi_X0_placeIs Γ F sgs_X0_placeIs n) (EX mi_X0_placeIs F) sg_X0_placeIs_44 L st S cs sl := rfl
theorem wn_X0_placeIs_45 : wpN l G mi_X0_placeIs Γ F sgs_X0_placeIs (n + 1) 45 L st S cs sl = wp G Γ (mR mi_X0_placeIs) (wpN l G mi_X0_placeIs Γ F sgs_X0_placeIs n) (EX mi_X0_placeIs F) sg_X0_placeIs_45 L st S cs sl := rfl
theorem wn_X0_placeIs_52 : wpN l G mi_X0_placeIs Γ F sgs_X0_placeIs (n + 1) 52 L st S cs sl = wp G Γ (mR mi_X0_placeIs) (wpN l G mi_X0_placeIs Γ F sgs_X0_placeIs n) (EX mi_X0_placeIs F) sg_X0_placeIs_52 L st S cs sl := rfl
theorem wn_X0_placeIs_67 : wpN l G mi_X0_placeIs Γ F sgs_X0_placeIs (n + 1) 67 L st S cs sl = wp G Γ (mR mi_X0_placeIs) (wpN l G mi_X0_placeIs Γ F sgs_X0_placeIs n) (EX mi_X0_placeIs F) sg_X0_placeIs_67 L st S cs sl := rfl
theorem wn_X0_placeIs_68 : wpN l G mi_X0_placeIs Γ F sgs_X0_placeIs (n + 1) 68 L st S cs sl = wp G Γ (mR mi_X0_placeIs) (wpN l G mi_X0_placeIs Γ F sgs_X0_placeIs n) (EX mi_X0_placeIs F) sg_X0_placeIs_68 L st S cs sl := rfl
theorem wn_X0_placeIs_69 : wpN l G mi_X0_placeIs Γ F sgs_X0_placeIs (n + 1) 69 L st S cs sl = wp G Γ (mR mi_X0_placeIs) (wpN l G mi_X0_placeIs Γ F sgs_X0_placeIs n) (EX mi_X0_placeIs F) sg_X0_placeIs_69 L st S cs sl := rfl
theorem wn_X0_placesThat_0 : wpN l G mi_X0_placesThat Γ F sgs_X0_placesThat (n + 1) 0 L st S cs sl = wp G Γ (mR mi_X0_placesThat) (wpN l G mi_X0_placesThat Γ F sgs_X0_placesThat n) (EX mi_X0_placesThat F) sg_X0_placesThat_0 L st S cs sl := rfl
theorem wn_X0_placesThat_5 : wpN l G mi_X0_placesThat Γ F sgs_X0_placesThat (n + 1) 5 L st S cs sl = V l G mi_X0_placesThat F 5 L st S cs sl := rfl
theorem wn_X0_placesThat_26 : wpN l G mi_X0_placesThat Γ F sgs_X0_placesThat (n + 1) 26 L st S cs sl = wp G Γ (mR mi_X0_placesThat) (wpN l G mi_X0_placesThat Γ F sgs_X0_placesThat n) (EX mi_X0_placesThat F) sg_X0_placesThat_26 L st S cs sl := rfl
theorem wn_X0_placesThat_32 : wpN l G mi_X0_placesThat Γ F sgs_X0_placesThat (n + 1) 32 L st S cs sl = wp G Γ (mR mi_X0_placesThat) (wpN l G mi_X0_placesThat Γ F sgs_X0_placesThat n) (EX mi_X0_placesThat F) sg_X0_placesThat_32 L st S cs sl := rfl
theorem wn_X0_placesOfWriter_0 : wpN l G mi_X0_placesOfWriter Γ F sgs_X0_placesOfWriter (n + 1) 0 L st S cs sl = wp G Γ (mR mi_X0_placesOfWriter) (wpN l G mi_X0_placesOfWriter Γ F sgs_X0_placesOfWriter n) (EX mi_X0_placesOfWriter F) sg_X0_placesOfWriter_0 L st S cs sl := rfl
theorem wn_X0_placesOfWriter_5 : wpN l G mi_X0_placesOfWriter Γ F sgs_X0_placesOfWriter (n + 1) 5 L st S cs sl = V l G mi_X0_placesOfWriter F 5 L st S cs sl := rfl
theorem wn_X0_placesOfWriter_26 : wpN l G mi_X0_placesOfWriter Γ F sgs_X0_placesOfWriter (n + 1) 26 L st S cs sl = V l G mi_X0_placesOfWriter F 26 L st S cs sl := rfl
theorem wn_X0_placesOfWriter_49 : wpN l G mi_X0_placesOfWriter Γ F sgs_X0_placesOfWriter (n + 1) 49 L st S cs sl = wp G Γ (mR mi_X0_placesOfWriter) (wpN l G mi_X0_placesOfWriter Γ F sgs_X0_placesOfWriter n) (EX mi_X0_placesOfWriter F) sg_X0_placesOfWriter_49 L st S cs sl := rfl
theorem wn_X0_placesOfWriter_57 : wpN l G mi_X0_placesOfWriter Γ F sgs_X0_placesOfWriter (n + 1) 57 L st S cs sl = wp G Γ (mR mi_X0_placesOfWriter) (wpN l G mi_X0_placesOfWriter Γ F sgs_X0_placesOfWriter n) (EX mi_X0_placesOfWriter F) sg_X0_placesOfWriter_57 L st S cs sl := rfl
theorem wn_X0_placesOfWriter_82 : wpN l G mi_X0_placesOfWriter Γ F sgs_X0_placesOfWriter (n + 1) 82 L st S cs sl = wp G Γ (mR mi_X0_placesOfWriter) (wpN l G mi_X0_placesOfWriter Γ F sgs_X0_placesOfWriter n) (EX mi_X0_placesOfWriter F) sg_X0_placesOfWriter_82 L st S cs sl := rfl
theorem wn_X0_placesOfWriter_88 : wpN l G mi_X0_placesOfWriter Γ F sgs_X0_placesOfWriter (n + 1) 88 L st S cs sl = wp G Γ (mR mi_X0_placesOfWriter) (wpN l G mi_X0_placesOfWriter Γ F sgs_X0_placesOfWriter n) (EX mi_X0_placesOfWriter F) sg_X0_placesOfWriter_88 L st S cs sl := rfl
theorem wn_X0_placesOfWriter_94 : wpN l G mi_X0_placesOfWriter Γ F sgs_X0_placesOfWriter (n + 1) 94 L st S cs sl = wp G Γ (mR mi_X0_placesOfWriter) (wpN l G mi_X0_placesOfWriter Γ F sgs_X0_placesOfWriter n) (EX mi_X0_placesOfWriter F) sg_X0_placesOfWriter_94 L st S cs sl := rfl
theorem wn_X2_init_0 : wpN l G mi_X2_init Γ F sgs_X2_init (n + 1) 0 L st S cs sl = wp G Γ (mR mi_X2_init) (wpN l G mi_X2_init Γ F sgs_X2_init n) (EX mi_X2_init F) sg_X2_init_0 L st S cs sl := rfl
theorem wn_X2_init_25 : wpN l G mi_X2_init Γ F sgs_X2_init (n + 1) 25 L st S cs sl = V l G mi_X2_init F 25 L st S cs sl := rfl
theorem wn_X2_init_50 : wpN l G mi_X2_init Γ F sgs_X2_init (n + 1) 50 L st S cs sl = wp G Γ (mR mi_X2_init) (wpN l G mi_X2_init Γ F sgs_X2_init n) (EX mi_X2_init F) sg_X2_init_50 L st S cs sl := rfl
theorem wn_X2_prepare_0 : wpN l G mi_X2_prepare Γ F sgs_X2_prepare (n + 1) 0 L st S cs sl = wp G Γ (mR mi_X2_prepare) (wpN l G mi_X2_prepare Γ F sgs_X2_prepare n) (EX mi_X2_prepare F) sg_X2_prepare_0 L st S cs sl := rfl
theorem wn_X2_keepUnlessError_0 : wpN l G mi_X2_keepUnlessError Γ F sgs_X2_keepUnlessError (n + 1) 0 L st S cs sl = wp G Γ (mR mi_X2_keepUnlessError) (wpN l G mi_X2_keepUnlessError Γ F sgs_X2_keepUnlessError n) (EX mi_X2_keepUnlessError F) sg_X2_keepUnlessError_0 L st S cs sl := rfl
theorem wn_X2_keepUnlessError_32 : wpN l G mi_X2_keepUnlessError Γ F sgs_X2_keepUnlessError (n + 1) 32 L st S cs sl = wp G Γ (mR mi_X2_keepUnlessError) (wpN l G mi_X2_keepUnlessError Γ F sgs_X2_keepUnlessError n) (EX mi_X2_keepUnlessError F) sg_X2_keepUnlessError_32 L st S cs sl := rfl
theorem wn_X2_takeBackInto_0 : wpN l G mi_X2_takeBackInto Γ F sgs_X2_takeBackInto (n + 1) 0 L st S cs sl = wp G Γ (mR mi_X2_takeBackInto) (wpN l G mi_X2_takeBackInto Γ F sgs_X2_takeBackInto n) (EX mi_X2_takeBackInto F) sg_X2_takeBackInto_0 L st S cs sl := rfl
theorem wn_X2_takeBackInto_10 : wpN l G mi_X2_takeBackInto Γ F sgs_X2_takeBackInto (n + 1) 10 L st S cs sl = wp G Γ (mR mi_X2_takeBackInto) (wpN l G mi_X2_takeBackInto Γ F sgs_X2_takeBackInto n) (EX mi_X2_takeBackInto F) sg_X2_takeBackInto_10 L st S cs sl := rfl
theorem wn_X5_init_0 : wpN l G mi_X5_init Γ F sgs_X5_init (n + 1) 0 L st S cs sl = wp G Γ (mR mi_X5_init) (wpN l G mi_X5_init Γ F sgs_X5_init n) (EX mi_X5_init F) sg_X5_init_0 L st S cs sl := rfl
theorem wn_X5_lettersSpoiled_0 : wpN l G mi_X5_lettersSpoiled Γ F sgs_X5_lettersSpoiled (n + 1) 0 L st S cs sl = wp G Γ (mR mi_X5_lettersSpoiled) (wpN l G mi_X5_lettersSpoiled Γ F sgs_X5_lettersSpoiled n) (EX mi_X5_lettersSpoiled F) sg_X5_lettersSpoiled_0 L st S cs sl := rfl
theorem wn_X5_promisesSpoiled_0 : wpN l G mi_X5_promisesSpoiled Γ F sgs_X5_promisesSpoiled (n + 1) 0 L st S cs sl = wp G Γ (mR mi_X5_promisesSpoiled) (wpN l G mi_X5_promisesSpoiled Γ F sgs_X5_promisesSpoiled n) (EX mi_X5_promisesSpoiled F) sg_X5_promisesSpoiled_0 L st S cs sl := rfl
theorem wn_X5_promisesSpoiled_27 : wpN l G mi_X5_promisesSpoiled Γ F sgs_X5_promisesSpoiled (n + 1) 27 L st S cs sl = V l G mi_X5_promisesSpoiled F 27 L st S cs sl := rfl
theorem wn_X5_promisesSpoiled_57 : wpN l G mi_X5_promisesSpoiled Γ F sgs_X5_promisesSpoiled (n + 1) 57 L st S cs sl = wp G Γ (mR mi_X5_promisesSpoiled) (wpN l G mi_X5_promisesSpoiled Γ F sgs_X5_promisesSpoiled n) (EX mi_X5_promisesSpoiled F) sg_X5_promisesSpoiled_57 L st S cs sl := rfl
theorem wn_X5_promisesSpoiled_58 : wpN l G mi_X5_promisesSpoiled Γ F sgs_X5_promisesSpoiled (n + 1) 58 L st S cs sl = wp G Γ (mR mi_X5_promisesSpoiled) (wpN l G mi_X5_promisesSpoiled Γ F sgs_X5_promisesSpoiled n) (EX mi_X5_promisesSpoiled F) sg_X5_promisesSpoiled_58 L st S cs sl := rfl
theorem wn_X5_promisesSpoiled_99 : wpN l G mi_X5_promisesSpoiled Γ F sgs_X5_promisesSpoiled (n + 1) 99 L st S cs sl = wp G Γ (mR mi_X5_promisesSpoiled) (wpN l G mi_X5_promisesSpoiled Γ F sgs_X5_promisesSpoiled n) (EX mi_X5_promisesSpoiled F) sg_X5_promisesSpoiled_99 L st S cs sl := rfl
theorem wn_X5_promisesSpoiled_105 : wpN l G mi_X5_promisesSpoiled Γ F sgs_X5_promisesSpoiled (n + 1) 105 L st S cs sl = wp G Γ (mR mi_X5_promisesSpoiled) (wpN l G mi_X5_promisesSpoiled Γ F sgs_X5_promisesSpoiled n) (EX mi_X5_promisesSpoiled F) sg_X5_promisesSpoiled_105 L st S cs sl := rfl
theorem wn_X5_roomLeft_0 : wpN l G mi_X5_roomLeft Γ F sgs_X5_roomLeft (n + 1) 0 L st S cs sl = wp G Γ (mR mi_X5_roomLeft) (wpN l G mi_X5_roomLeft Γ F sgs_X5_roomLeft n) (EX mi_X5_roomLeft F) sg_X5_roomLeft_0 L st S cs sl := rfl
theorem wn_X5_lookAhead_0 : wpN l G mi_X5_lookAhead Γ F sgs_X5_lookAhead (n + 1) 0 L st S cs sl = wp G Γ (mR mi_X5_lookAhead) (wpN l G mi_X5_lookAhead Γ F sgs_X5_lookAhead n) (EX mi_X5_lookAhead F) sg_X5_lookAhead_0 L st S cs sl := rfl
theorem wn_X5_lookAhead_3 : wpN l G mi_X5_lookAhead Γ F sgs_X5_lookAhead (n + 1) 3 L st S cs sl = V l G mi_X5_lookAhead F 3 L st S cs sl := rfl
theorem wn_X5_lookAhead_38 : wpN l G mi_X5_lookAhead Γ F sgs_X5_lookAhead (n + 1) 38 L st S cs sl = wp G Γ (mR mi_X5_lookAhead) (wpN l G mi_X5_lookAhead Γ F sgs_X5_lookAhead n) (EX mi_X5_lookAhead F) sg_X5_lookAhead_38 L st S cs sl := rfl
theorem wn_X5_lookAhead_44 : wpN l G mi_X5_lookAhead Γ F sgs_X5_lookAhead (n + 1) 44 L st S cs sl = wp G Γ (mR mi_X5_lookAhead) (wpN l G mi_X5_lookAhead Γ F sgs_X5_lookAhead n) (EX mi_X5_lookAhead F) sg_X5_lookAhead_44 L st S cs sl := rfl
theorem wn_X5_brightest_0 : wpN l G mi_X5_brightest Γ F sgs_X5_brightest (n + 1) 0 L st S cs sl = wp G Γ (mR mi_X5_brightest) (wpN l G mi_X5_brightest Γ F sgs_X5_brightest n) (EX mi_X5_brightest F) sg_X5_brightest_0 L st S cs sl := rfl
theorem wn_X5_brightest_8 : wpN l G mi_X5_brightest Γ F sgs_X5_brightest (n + 1) 8 L st S cs sl = V l G mi_X5_brightest F 8 L st S cs sl := rfl
theorem wn_X5_brightest_64 : wpN l G mi_X5_brightest Γ F sgs_X5_brightest (n + 1) 64 L st S cs sl = wp G Γ (mR mi_X5_brightest) (wpN l G mi_X5_brightest Γ F sgs_X5_brightest n) (EX mi_X5_brightest F) sg_X5_brightest_64 L st S cs sl := rfl
theorem wn_X5_brightest_70 : wpN l G mi_X5_brightest Γ F sgs_X5_brightest (n + 1) 70 L st S cs sl = wp G Γ (mR mi_X5_brightest) (wpN l G mi_X5_brightest Γ F sgs_X5_brightest n) (EX mi_X5_brightest F) sg_X5_brightest_70 L st S cs sl := rfl
theorem wn_X5_brightestOf_0 : wpN l G mi_X5_brightestOf Γ F sgs_X5_brightestOf (n + 1) 0 L st S cs sl = wp G Γ (mR mi_X5_brightestOf) (wpN l G mi_X5_brightestOf Γ F sgs_X5_brightestOf n) (EX mi_X5_brightestOf F) sg_X5_brightestOf_0 L st S cs sl := rfl
theorem wn_X5_lookAround_0 : wpN l G mi_X5_lookAround Γ F sgs_X5_lookAround (n + 1) 0 L st S cs sl = wp G Γ (mR mi_X5_lookAround) (wpN l G mi_X5_lookAround Γ F sgs_X5_lookAround n) (EX mi_X5_lookAround F) sg_X5_lookAround_0 L st S cs sl := rfl
theorem wn_X5_lookAround_17 : wpN l G mi_X5_lookAround Γ F sgs_X5_lookAround (n + 1) 17 L st S cs sl = V l G mi_X5_lookAround F 17 L st S cs sl := rfl
theorem wn_X5_lookAround_63 : wpN l G mi_X5_lookAround Γ F sgs_X5_lookAround (n + 1) 63 L st S cs sl = wp G Γ (mR mi_X5_lookAround) (wpN l G mi_X5_lookAround Γ F sgs_X5_lookAround n) (EX mi_X5_lookAround F) sg_X5_lookAround_63 L st S cs sl := rfl
theorem wn_X5_lettersUntilFull_0 : wpN l G mi_X5_lettersUntilFull Γ F sgs_X5_lettersUntilFull (n + 1) 0 L st S cs sl = wp G Γ (mR mi_X5_lettersUntilFull) (wpN l G mi_X5_lettersUntilFull Γ F sgs_X5_lettersUntilFull n) (EX mi_X5_lettersUntilFull F) sg_X5_lettersUntilFull_0 L st S cs sl := rfl
theorem wn_X5_lettersUntilFull_26 : wpN l G mi_X5_lettersUntilFull Γ F sgs_X5_lettersUntilFull (n + 1) 26 L st S cs sl = V l G mi_X5_lettersUntilFull F 26 L st S cs sl := rfl
theorem wn_X5_lettersUntilFull_73 : wpN l G mi_X5_lettersUntilFull Γ F sgs_X5_lettersUntilFull (n + 1) 73 L st S cs sl = wp G Γ (mR mi_X5_lettersUntilFull) (wpN l G mi_X5_lettersUntilFull Γ F sgs_X5_lettersUntilFull n) (EX mi_X5_lettersUntilFull F) sg_X5_lettersUntilFull_73 L st S cs sl := rfl
theorem wn_X6_isPlace_0 : wpN l G mi_X6_isPlace Γ F sgs_X6_isPlace (n + 1) 0 L st S cs sl = wp G Γ (mR mi_X6_isPlace) (wpN l G mi_X6_isPlace Γ F sgs_X6_isPlace n) (EX mi_X6_isPlace F) sg_X6_isPlace_0 L st S cs sl := rfl
theorem wn_X6_isPlace_24 : wpN l G mi_X6_isPlace Γ F sgs_X6_isPlace (n + 1) 24 L st S cs sl = wp G Γ (mR mi_X6_isPlace) (wpN l G mi_X6_isPlace Γ F sgs_X6_isPlace n) (EX mi_X6_isPlace F) sg_X6_isPlace_24 L st S cs sl := rfl
theorem wn_X6_isPlace_25 : wpN l G mi_X6_isPlace Γ F sgs_X6_isPlace (n + 1) 25 L st S cs sl = wp G Γ (mR mi_X6_isPlace) (wpN l G mi_X6_isPlace Γ F sgs_X6_isPlace n) (EX mi_X6_isPlace F) sg_X6_isPlace_25 L st S cs sl := rfl
theorem wn_X6_firstNear_0 : wpN l G mi_X6_firstNear Γ F sgs_X6_firstNear (n + 1) 0 L st S cs sl = wp G Γ (mR mi_X6_firstNear) (wpN l G mi_X6_firstNear Γ F sgs_X6_firstNear n) (EX mi_X6_firstNear F) sg_X6_firstNear_0 L st S cs sl := rfl
theorem wn_X6_lastNear_0 : wpN l G mi_X6_lastNear Γ F sgs_X6_lastNear (n + 1) 0 L st S cs sl = wp G Γ (mR mi_X6_lastNear) (wpN l G mi_X6_lastNear Γ F sgs_X6_lastNear n) (EX mi_X6_lastNear F) sg_X6_lastNear_0 L st S cs sl := rfl
theorem wn_X6_init_0 : wpN l G mi_X6_init Γ F sgs_X6_init (n + 1) 0 L st S cs sl = wp G Γ (mR mi_X6_init) (wpN l G mi_X6_init Γ F sgs_X6_init n) (EX mi_X6_init F) sg_X6_init_0 L st S cs sl := rfl
theorem wn_X6_init_65 : wpN l G mi_X6_init Γ F sgs_X6_init (n + 1) 65 L st S cs sl = V l G mi_X6_init F 65 L st S cs sl := rfl
theorem wn_X6_init_89 : wpN l G mi_X6_init Γ F sgs_X6_init (n + 1) 89 L st S cs sl = wp G Γ (mR mi_X6_init) (wpN l G mi_X6_init Γ F sgs_X6_init n) (EX mi_X6_init F) sg_X6_init_89 L st S cs sl := rfl
theorem wn_X6_set_0 : wpN l G mi_X6_set Γ F sgs_X6_set (n + 1) 0 L st S cs sl = wp G Γ (mR mi_X6_set) (wpN l G mi_X6_set Γ F sgs_X6_set n) (EX mi_X6_set F) sg_X6_set_0 L st S cs sl := rfl
theorem wn_X6_plate_0 : wpN l G mi_X6_plate Γ F sgs_X6_plate (n + 1) 0 L st S cs sl = wp G Γ (mR mi_X6_plate) (wpN l G mi_X6_plate Γ F sgs_X6_plate n) (EX mi_X6_plate F) sg_X6_plate_0 L st S cs sl := rfl
theorem wn_X6_lay_0 : wpN l G mi_X6_lay Γ F sgs_X6_lay (n + 1) 0 L st S cs sl = wp G Γ (mR mi_X6_lay) (wpN l G mi_X6_lay Γ F sgs_X6_lay n) (EX mi_X6_lay F) sg_X6_lay_0 L st S cs sl := rfl
theorem wn_X6_writer_0 : wpN l G mi_X6_writer Γ F sgs_X6_writer (n + 1) 0 L st S cs sl = wp G Γ (mR mi_X6_writer) (wpN l G mi_X6_writer Γ F sgs_X6_writer n) (EX mi_X6_writer F) sg_X6_writer_0 L st S cs sl := rfl
theorem wn_X6_write_0 : wpN l G mi_X6_write Γ F sgs_X6_write (n + 1) 0 L st S cs sl = wp G Γ (mR mi_X6_write) (wpN l G mi_X6_write Γ F sgs_X6_write n) (EX mi_X6_write F) sg_X6_write_0 L st S cs sl := rfl
theorem wn_X6_promise_0 : wpN l G mi_X6_promise Γ F sgs_X6_promise (n + 1) 0 L st S cs sl = wp G Γ (mR mi_X6_promise) (wpN l G mi_X6_promise Γ F sgs_X6_promise n) (EX mi_X6_promise F) sg_X6_promise_0 L st S cs sl := rfl
theorem wn_X6_takeBack_0 : wpN l G mi_X6_takeBack Γ F sgs_X6_takeBack (n + 1) 0 L st S cs sl = wp G Γ (mR mi_X6_takeBack) (wpN l G mi_X6_takeBack Γ F sgs_X6_takeBack n) (EX mi_X6_takeBack F) sg_X6_takeBack_0 L st S cs sl := rfl
theorem wn_X6_rub_0 : wpN l G mi_X6_rub Γ F sgs_X6_rub (n + 1) 0 L st S cs sl = wp G Γ (mR mi_X6_rub) (wpN l G mi_X6_rub Γ F sgs_X6_rub n) (EX mi_X6_rub F) sg_X6_rub_0 L st S cs sl := rfl
theorem wn_X6_pass_0 : wpN l G mi_X6_pass Γ F sgs_X6_pass (n + 1) 0 L st S cs sl = wp G Γ (mR mi_X6_pass) (wpN l G mi_X6_pass Γ F sgs_X6_pass n) (EX mi_X6_pass F) sg_X6_pass_0 L st S cs sl := rfl
theorem wn_X6_bitsOfFloat_0 : wpN l G mi_X6_bitsOfFloat Γ F sgs_X6_bitsOfFloat (n + 1) 0 L st S cs sl = wp G Γ (mR mi_X6_bitsOfFloat) (wpN l G mi_X6_bitsOfFloat Γ F sgs_X6_bitsOfFloat n) (EX mi_X6_bitsOfFloat F) sg_X6_bitsOfFloat_0 L st S cs sl := rfl
theorem wn_X6_bitsOfFloat_5 : wpN l G mi_X6_bitsOfFloat Γ F sgs_X6_bitsOfFloat (n + 1) 5 L st S cs sl = V l G mi_X6_bitsOfFloat F 5 L st S cs sl := rfl
theorem wn_X6_bitsOfFloat_29 : wpN l G mi_X6_bitsOfFloat Γ F sgs_X6_bitsOfFloat (n + 1) 29 L st S cs sl = V l G mi_X6_bitsOfFloat F 29 L st S cs sl := rfl
theorem wn_X6_bitsOfFloat_55 : wpN l G mi_X6_bitsOfFloat Γ F sgs_X6_bitsOfFloat (n + 1) 55 L st S cs sl = wp G Γ (mR mi_X6_bitsOfFloat) (wpN l G mi_X6_bitsOfFloat Γ F sgs_X6_bitsOfFloat n) (EX mi_X6_bitsOfFloat F) sg_X6_bitsOfFloat_55 L st S cs sl := rfl
theorem wn_X6_bitsOfFloat_68 : wpN l G mi_X6_bitsOfFloat Γ F sgs_X6_bitsOfFloat (n + 1) 68 L st S cs sl = wp G Γ (mR mi_X6_bitsOfFloat) (wpN l G mi_X6_bitsOfFloat Γ F sgs_X6_bitsOfFloat n) (EX mi_X6_bitsOfFloat F) sg_X6_bitsOfFloat_68 L st S cs sl := rfl
theorem wn_X6_at_0 : wpN l G mi_X6_at Γ F sgs_X6_at (n + 1) 0 L st S cs sl = wp G Γ (mR mi_X6_at) (wpN l G mi_X6_at Γ F sgs_X6_at n) (EX mi_X6_at F) sg_X6_at_0 L st S cs sl := rfl
theorem wn_X6_at_22 : wpN l G mi_X6_at Γ F sgs_X6_at (n + 1) 22 L st S cs sl = wp G Γ (mR mi_X6_at) (wpN l G mi_X6_at Γ F sgs_X6_at n) (EX mi_X6_at F) sg_X6_at_22 L st S cs sl := rfl
theorem wn_X6_at_24 : wpN l G mi_X6_at Γ F sgs_X6_at (n + 1) 24 L st S cs sl = wp G Γ (mR mi_X6_at) (wpN l G mi_X6_at Γ F sgs_X6_at n) (EX mi_X6_at F) sg_X6_at_24 L st S cs sl := rfl
theorem wn_X6_at_76 : wpN l G mi_X6_at Γ F sgs_X6_at (n + 1) 76 L st S cs sl = wp G Γ (mR mi_X6_at) (wpN l G mi_X6_at Γ F sgs_X6_at n) (EX mi_X6_at F) sg_X6_at_76 L st S cs sl := rfl
theorem wn_X6_at_85 : wpN l G mi_X6_at Γ F sgs_X6_at (n + 1) 85 L st S cs sl = wp G Γ (mR mi_X6_at) (wpN l G mi_X6_at Γ F sgs_X6_at n) (EX mi_X6_at F) sg_X6_at_85 L st S cs sl := rfl
theorem wn_X6_at_94 : wpN l G mi_X6_at Γ F sgs_X6_at (n + 1) 94 L st S cs sl = wp G Γ (mR mi_X6_at) (wpN l G mi_X6_at Γ F sgs_X6_at n) (EX mi_X6_at F) sg_X6_at_94 L st S cs sl := rfl
theorem wn_X6_at_103 : wpN l G mi_X6_at Γ F sgs_X6_at (n + 1) 103 L st S cs sl = wp G Γ (mR mi_X6_at) (wpN l G mi_X6_at Γ F sgs_X6_at n) (EX mi_X6_at F) sg_X6_at_103 L st S cs sl := rfl
theorem wn_X6_at_115 : wpN l G mi_X6_at Γ F sgs_X6_at (n + 1) 115 L st S cs sl = wp G Γ (mR mi_X6_at) (wpN l G mi_X6_at Γ F sgs_X6_at n) (EX mi_X6_at F) sg_X6_at_115 L st S cs sl := rfl
theorem wn_X6_at_130 : wpN l G mi_X6_at Γ F sgs_X6_at (n + 1) 130 L st S cs sl = wp G Γ (mR mi_X6_at) (wpN l G mi_X6_at Γ F sgs_X6_at n) (EX mi_X6_at F) sg_X6_at_130 L st S cs sl := rfl
theorem wn_X6_at_148 : wpN l G mi_X6_at Γ F sgs_X6_at (n + 1) 148 L st S cs sl = wp G Γ (mR mi_X6_at) (wpN l G mi_X6_at Γ F sgs_X6_at n) (EX mi_X6_at F) sg_X6_at_148 L st S cs sl := rfl
theorem wn_X6_at_149 : wpN l G mi_X6_at Γ F sgs_X6_at (n + 1) 149 L st S cs sl = wp G Γ (mR mi_X6_at) (wpN l G mi_X6_at Γ F sgs_X6_at n) (EX mi_X6_at F) sg_X6_at_149 L st S cs sl := rfl
theorem wn_X6_at_150 : wpN l G mi_X6_at Γ F sgs_X6_at (n + 1) 150 L st S cs sl = wp G Γ (mR mi_X6_at) (wpN l G mi_X6_at Γ F sgs_X6_at n) (EX mi_X6_at F) sg_X6_at_150 L st S cs sl := rfl
theorem wn_X6_at_168 : wpN l G mi_X6_at Γ F sgs_X6_at (n + 1) 168 L st S cs sl = wp G Γ (mR mi_X6_at) (wpN l G mi_X6_at Γ F sgs_X6_at n) (EX mi_X6_at F) sg_X6_at_168 L st S cs sl := rfl
theorem wn_X6_at_169 : wpN l G mi_X6_at Γ F sgs_X6_at (n + 1) 169 L st S cs sl = wp G Γ (mR mi_X6_at) (wpN l G mi_X6_at Γ F sgs_X6_at n) (EX mi_X6_at F) sg_X6_at_169 L st S cs sl := rfl
theorem wn_X6_at_170 : wpN l G mi_X6_at Γ F sgs_X6_at (n + 1) 170 L st S cs sl = wp G Γ (mR mi_X6_at) (wpN l G mi_X6_at Γ F sgs_X6_at n) (EX mi_X6_at F) sg_X6_at_170 L st S cs sl := rfl
theorem wn_X6_columnsThat_0 : wpN l G mi_X6_columnsThat Γ F sgs_X6_columnsThat (n + 1) 0 L st S cs sl = wp G Γ (mR mi_X6_columnsThat) (wpN l G mi_X6_columnsThat Γ F sgs_X6_columnsThat n) (EX mi_X6_columnsThat F) sg_X6_columnsThat_0 L st S cs sl := rfl
theorem wn_X6_columnsThat_6 : wpN l G mi_X6_columnsThat Γ F sgs_X6_columnsThat (n + 1) 6 L st S cs sl = V l G mi_X6_columnsThat F 6 L st S cs sl := rfl
theorem wn_X6_columnsThat_41 : wpN l G mi_X6_columnsThat Γ F sgs_X6_columnsThat (n + 1) 41 L st S cs sl = wp G Γ (mR mi_X6_columnsThat) (wpN l G mi_X6_columnsThat Γ F sgs_X6_columnsThat n) (EX mi_X6_columnsThat F) sg_X6_columnsThat_41 L st S cs sl := rfl
theorem wn_X6_columnsThat_47 : wpN l G mi_X6_columnsThat Γ F sgs_X6_columnsThat (n + 1) 47 L st S cs sl = wp G Γ (mR mi_X6_columnsThat) (wpN l G mi_X6_columnsThat Γ F sgs_X6_columnsThat n) (EX mi_X6_columnsThat F) sg_X6_columnsThat_47 L st S cs sl := rfl
theorem wn_X6_longestRun_0 : wpN l G mi_X6_longestRun Γ F sgs_X6_longestRun (n + 1) 0 L st S cs sl = wp G Γ (mR mi_X6_longestRun) (wpN l G mi_X6_longestRun Γ F sgs_X6_longestRun n) (EX mi_X6_longestRun F) sg_X6_longestRun_0 L st S cs sl := rfl
theorem wn_X6_longestRun_6 : wpN l G mi_X6_longestRun Γ F sgs_X6_longestRun (n + 1) 6 L st S cs sl = V l G mi_X6_longestRun F 6 L st S cs sl := rfl
theorem wn_X6_longestRun_27 : wpN l G mi_X6_longestRun Γ F sgs_X6_longestRun (n + 1) 27 L st S cs sl = wp G Γ (mR mi_X6_longestRun) (wpN l G mi_X6_longestRun Γ F sgs_X6_longestRun n) (EX mi_X6_longestRun F) sg_X6_longestRun_27 L st S cs sl := rfl
theorem wn_X6_longestRun_28 : wpN l G mi_X6_longestRun Γ F sgs_X6_longestRun (n + 1) 28 L st S cs sl = wp G Γ (mR mi_X6_longestRun) (wpN l G mi_X6_longestRun Γ F sgs_X6_longestRun n) (EX mi_X6_longestRun F) sg_X6_longestRun_28 L st S cs sl := rfl
theorem wn_X6_longestRun_41 : wpN l G mi_X6_longestRun Γ F sgs_X6_longestRun (n + 1) 41 L st S cs sl = wp G Γ (mR mi_X6_longestRun) (wpN l G mi_X6_longestRun Γ F sgs_X6_longestRun n) (EX mi_X6_longestRun F) sg_X6_longestRun_41 L st S cs sl := rfl
theorem wn_X6_row_0 : wpN l G mi_X6_row Γ F sgs_X6_row (n + 1) 0 L st S cs sl = wp G Γ (mR mi_X6_row) (wpN l G mi_X6_row Γ F sgs_X6_row n) (EX mi_X6_row F) sg_X6_row_0 L st S cs sl := rfl
theorem wn_X6_row_22 : wpN l G mi_X6_row Γ F sgs_X6_row (n + 1) 22 L st S cs sl = wp G Γ (mR mi_X6_row) (wpN l G mi_X6_row Γ F sgs_X6_row n) (EX mi_X6_row F) sg_X6_row_22 L st S cs sl := rfl
theorem wn_X6_row_24 : wpN l G mi_X6_row Γ F sgs_X6_row (n + 1) 24 L st S cs sl = wp G Γ (mR mi_X6_row) (wpN l G mi_X6_row Γ F sgs_X6_row n) (EX mi_X6_row F) sg_X6_row_24 L st S cs sl := rfl
theorem wn_X6_row_60 : wpN l G mi_X6_row Γ F sgs_X6_row (n + 1) 60 L st S cs sl = wp G Γ (mR mi_X6_row) (wpN l G mi_X6_row Γ F sgs_X6_row n) (EX mi_X6_row F) sg_X6_row_60 L st S cs sl := rfl
theorem wn_X6_row_68 : wpN l G mi_X6_row Γ F sgs_X6_row (n + 1) 68 L st S cs sl = wp G Γ (mR mi_X6_row) (wpN l G mi_X6_row Γ F sgs_X6_row n) (EX mi_X6_row F) sg_X6_row_68 L st S cs sl := rfl
theorem wn_X6_row_79 : wpN l G mi_X6_row Γ F sgs_X6_row (n + 1) 79 L st S cs sl = wp G Γ (mR mi_X6_row) (wpN l G mi_X6_row Γ F sgs_X6_row n) (EX mi_X6_row F) sg_X6_row_79 L st S cs sl := rfl
theorem wn_X6_of_0 : wpN l G mi_X6_of Γ F sgs_X6_of (n + 1) 0 L st S cs sl = wp G Γ (mR mi_X6_of) (wpN l G mi_X6_of Γ F sgs_X6_of n) (EX mi_X6_of F) sg_X6_of_0 L st S cs sl := rfl
theorem wn_X6_of_13 : wpN l G mi_X6_of Γ F sgs_X6_of (n + 1) 13 L st S cs sl = wp G Γ (mR mi_X6_of) (wpN l G mi_X6_of Γ F sgs_X6_of n) (EX mi_X6_of F) sg_X6_of_13 L st S cs sl := rfl
theorem wn_X6_of_52 : wpN l G mi_X6_of Γ F sgs_X6_of (n + 1) 52 L st S cs sl = wp G Γ (mR mi_X6_of) (wpN l G mi_X6_of Γ F sgs_X6_of n) (EX mi_X6_of F) sg_X6_of_52 L st S cs sl := rfl
theorem wn_X6_of_62 : wpN l G mi_X6_of Γ F sgs_X6_of (n + 1) 62 L st S cs sl = wp G Γ (mR mi_X6_of) (wpN l G mi_X6_of Γ F sgs_X6_of n) (EX mi_X6_of F) sg_X6_of_62 L st S cs sl := rfl
theorem wn_X6_of_72 : wpN l G mi_X6_of Γ F sgs_X6_of (n + 1) 72 L st S cs sl = wp G Γ (mR mi_X6_of) (wpN l G mi_X6_of Γ F sgs_X6_of n) (EX mi_X6_of F) sg_X6_of_72 L st S cs sl := rfl
theorem wn_X6_of_82 : wpN l G mi_X6_of Γ F sgs_X6_of (n + 1) 82 L st S cs sl = wp G Γ (mR mi_X6_of) (wpN l G mi_X6_of Γ F sgs_X6_of n) (EX mi_X6_of F) sg_X6_of_82 L st S cs sl := rfl
theorem wn_X6_of_92 : wpN l G mi_X6_of Γ F sgs_X6_of (n + 1) 92 L st S cs sl = wp G Γ (mR mi_X6_of) (wpN l G mi_X6_of Γ F sgs_X6_of n) (EX mi_X6_of F) sg_X6_of_92 L st S cs sl := rfl
theorem wn_X6_ofPlate_0 : wpN l G mi_X6_ofPlate Γ F sgs_X6_ofPlate (n + 1) 0 L st S cs sl = wp G Γ (mR mi_X6_ofPlate) (wpN l G mi_X6_ofPlate Γ F sgs_X6_ofPlate n) (EX mi_X6_ofPlate F) sg_X6_ofPlate_0 L st S cs sl := rfl
theorem wn_X6_ofPlate_13 : wpN l G mi_X6_ofPlate Γ F sgs_X6_ofPlate (n + 1) 13 L st S cs sl = wp G Γ (mR mi_X6_ofPlate) (wpN l G mi_X6_ofPlate Γ F sgs_X6_ofPlate n) (EX mi_X6_ofPlate F) sg_X6_ofPlate_13 L st S cs sl := rfl
theorem wn_X6_ofPlate_64 : wpN l G mi_X6_ofPlate Γ F sgs_X6_ofPlate (n + 1) 64 L st S cs sl = wp G Γ (mR mi_X6_ofPlate) (wpN l G mi_X6_ofPlate Γ F sgs_X6_ofPlate n) (EX mi_X6_ofPlate F) sg_X6_ofPlate_64 L st S cs sl := rfl
theorem wn_X6_ofPlate_74 : wpN l G mi_X6_ofPlate Γ F sgs_X6_ofPlate (n + 1) 74 L st S cs sl = wp G Γ (mR mi_X6_ofPlate) (wpN l G mi_X6_ofPlate Γ F sgs_X6_ofPlate n) (EX mi_X6_ofPlate F) sg_X6_ofPlate_74 L st S cs sl := rfl
theorem wn_X6_ofPlate_82 : wpN l G mi_X6_ofPlate Γ F sgs_X6_ofPlate (n + 1) 82 L st S cs sl = wp G Γ (mR mi_X6_ofPlate) (wpN l G mi_X6_ofPlate Γ F sgs_X6_ofPlate n) (EX mi_X6_ofPlate F) sg_X6_ofPlate_82 L st S cs sl := rfl
theorem wn_X6_ofPlate_90 : wpN l G mi_X6_ofPlate Γ F sgs_X6_ofPlate (n + 1) 90 L st S cs sl = wp G Γ (mR mi_X6_ofPlate) (wpN l G mi_X6_ofPlate Γ F sgs_X6_ofPlate n) (EX mi_X6_ofPlate F) sg_X6_ofPlate_90 L st S cs sl := rfl
theorem wn_X6_count_0 : wpN l G mi_X6_count Γ F sgs_X6_count (n + 1) 0 L st S cs sl = wp G Γ (mR mi_X6_count) (wpN l G mi_X6_count Γ F sgs_X6_count n) (EX mi_X6_count F) sg_X6_count_0 L st S cs sl := rfl
theorem wn_X6_count_56 : wpN l G mi_X6_count Γ F sgs_X6_count (n + 1) 56 L st S cs sl = wp G Γ (mR mi_X6_count) (wpN l G mi_X6_count Γ F sgs_X6_count n) (EX mi_X6_count F) sg_X6_count_56 L st S cs sl := rfl
theorem wn_X6_count_64 : wpN l G mi_X6_count Γ F sgs_X6_count (n + 1) 64 L st S cs sl = wp G Γ (mR mi_X6_count) (wpN l G mi_X6_count Γ F sgs_X6_count n) (EX mi_X6_count F) sg_X6_count_64 L st S cs sl := rfl
theorem wn_X6_count_72 : wpN l G mi_X6_count Γ F sgs_X6_count (n + 1) 72 L st S cs sl = wp G Γ (mR mi_X6_count) (wpN l G mi_X6_count Γ F sgs_X6_count n) (EX mi_X6_count F) sg_X6_count_72 L st S cs sl := rfl
theorem wn_X6_count_80 : wpN l G mi_X6_count Γ F sgs_X6_count (n + 1) 80 L st S cs sl = wp G Γ (mR mi_X6_count) (wpN l G mi_X6_count Γ F sgs_X6_count n) (EX mi_X6_count F) sg_X6_count_80 L st S cs sl := rfl
theorem wn_X6_count_88 : wpN l G mi_X6_count Γ F sgs_X6_count (n + 1) 88 L st S cs sl = wp G Γ (mR mi_X6_count) (wpN l G mi_X6_count Γ F sgs_X6_count n) (EX mi_X6_count F) sg_X6_count_88 L st S cs sl := rfl
theorem wn_X6_count_100 : wpN l G mi_X6_count Γ F sgs_X6_count (n + 1) 100 L st S cs sl = wp G Γ (mR mi_X6_count) (wpN l G mi_X6_count Γ F sgs_X6_count n) (EX mi_X6_count F) sg_X6_count_100 L st S cs sl := rfl
theorem wn_X6_count_111 : wpN l G mi_X6_count Γ F sgs_X6_count (n + 1) 111 L st S cs sl = wp G Γ (mR mi_X6_count) (wpN l G mi_X6_count Γ F sgs_X6_count n) (EX mi_X6_count F) sg_X6_count_111 L st S cs sl := rfl
theorem wn_X6_count_119 : wpN l G mi_X6_count Γ F sgs_X6_count (n + 1) 119 L st S cs sl = wp G Γ (mR mi_X6_count) (wpN l G mi_X6_count Γ F sgs_X6_count n) (EX mi_X6_count F) sg_X6_count_119 L st S cs sl := rfl
theorem wn_X6_bitsOfMean_0 : wpN l G mi_X6_bitsOfMean Γ F sgs_X6_bitsOfMean (n + 1) 0 L st S cs sl = wp G Γ (mR mi_X6_bitsOfMean) (wpN l G mi_X6_bitsOfMean Γ F sgs_X6_bitsOfMean n) (EX mi_X6_bitsOfMean F) sg_X6_bitsOfMean_0 L st S cs sl := rfl
theorem wn_X6_bitsOfMean_5 : wpN l G mi_X6_bitsOfMean Γ F sgs_X6_bitsOfMean (n + 1) 5 L st S cs sl = V l G mi_X6_bitsOfMean F 5 L st S cs sl := rfl
theorem wn_X6_bitsOfMean_31 : wpN l G mi_X6_bitsOfMean Γ F sgs_X6_bitsOfMean (n + 1) 31 L st S cs sl = wp G Γ (mR mi_X6_bitsOfMean) (wpN l G mi_X6_bitsOfMean Γ F sgs_X6_bitsOfMean n) (EX mi_X6_bitsOfMean F) sg_X6_bitsOfMean_31 L st S cs sl := rfl
theorem wn_X6_bitsOfMean_44 : wpN l G mi_X6_bitsOfMean Γ F sgs_X6_bitsOfMean (n + 1) 44 L st S cs sl = wp G Γ (mR mi_X6_bitsOfMean) (wpN l G mi_X6_bitsOfMean Γ F sgs_X6_bitsOfMean n) (EX mi_X6_bitsOfMean F) sg_X6_bitsOfMean_44 L st S cs sl := rfl
theorem wn_X6_mean_0 : wpN l G mi_X6_mean Γ F sgs_X6_mean (n + 1) 0 L st S cs sl = wp G Γ (mR mi_X6_mean) (wpN l G mi_X6_mean Γ F sgs_X6_mean n) (EX mi_X6_mean F) sg_X6_mean_0 L st S cs sl := rfl
theorem wn_X6_mean_14 : wpN l G mi_X6_mean Γ F sgs_X6_mean (n + 1) 14 L st S cs sl = wp G Γ (mR mi_X6_mean) (wpN l G mi_X6_mean Γ F sgs_X6_mean n) (EX mi_X6_mean F) sg_X6_mean_14 L st S cs sl := rfl
theorem wn_X6_mean_19 : wpN l G mi_X6_mean Γ F sgs_X6_mean (n + 1) 19 L st S cs sl = V l G mi_X6_mean F 19 L st S cs sl := rfl
theorem wn_X6_mean_43 : wpN l G mi_X6_mean Γ F sgs_X6_mean (n + 1) 43 L st S cs sl = wp G Γ (mR mi_X6_mean) (wpN l G mi_X6_mean Γ F sgs_X6_mean n) (EX mi_X6_mean F) sg_X6_mean_43 L st S cs sl := rfl
theorem wn_X6_ifWritten_0 : wpN l G mi_X6_ifWritten Γ F sgs_X6_ifWritten (n + 1) 0 L st S cs sl = wp G Γ (mR mi_X6_ifWritten) (wpN l G mi_X6_ifWritten Γ F sgs_X6_ifWritten n) (EX mi_X6_ifWritten F) sg_X6_ifWritten_0 L st S cs sl := rfl
theorem wn_X6_ifWritten_33 : wpN l G mi_X6_ifWritten Γ F sgs_X6_ifWritten (n + 1) 33 L st S cs sl = wp G Γ (mR mi_X6_ifWritten) (wpN l G mi_X6_ifWritten Γ F sgs_X6_ifWritten n) (EX mi_X6_ifWritten F) sg_X6_ifWritten_33 L st S cs sl := rfl
theorem wn_X6_ifWritten_35 : wpN l G mi_X6_ifWritten Γ F sgs_X6_ifWritten (n + 1) 35 L st S cs sl = wp G Γ (mR mi_X6_ifWritten) (wpN l G mi_X6_ifWritten Γ F sgs_X6_ifWritten n) (EX mi_X6_ifWritten F) sg_X6_ifWritten_35 L st S cs sl := rfl
theorem wn_X6_ifWritten_72 : wpN l G mi_X6_ifWritten Γ F sgs_X6_ifWritten (n + 1) 72 L st S cs sl = wp G Γ (mR mi_X6_ifWritten) (wpN l G mi_X6_ifWritten Γ F sgs_X6_ifWritten n) (EX mi_X6_ifWritten F) sg_X6_ifWritten_72 L st S cs sl := rfl
theorem wn_X6_ifWritten_89 : wpN l G mi_X6_ifWritten Γ F sgs_X6_ifWritten (n + 1) 89 L st S cs sl = wp G Γ (mR mi_X6_ifWritten) (wpN l G mi_X6_ifWritten Γ F sgs_X6_ifWritten n) (EX mi_X6_ifWritten F) sg_X6_ifWritten_89 L st S cs sl := rfl
theorem wn_X6_ifWritten_106 : wpN l G mi_X6_ifWritten Γ F sgs_X6_ifWritten (n + 1) 106 L st S cs sl = wp G Γ (mR mi_X6_ifWritten) (wpN l G mi_X6_ifWritten Γ F sgs_X6_ifWritten n) (EX mi_X6_ifWritten F) sg_X6_ifWritten_106 L st S cs sl := rfl
theorem wn_X6_ifWritten_123 : wpN l G mi_X6_ifWritten Γ F sgs_X6_ifWritten (n + 1) 123 L st S cs sl = wp G Γ (mR mi_X6_ifWritten) (wpN l G mi_X6_ifWritten Γ F sgs_X6_ifWritten n) (EX mi_X6_ifWritten F) sg_X6_ifWritten_123 L st S cs sl := rfl
theorem wn_X6_bestPlace_0 : wpN l G mi_X6_bestPlace Γ F sgs_X6_bestPlace (n + 1) 0 L st S cs sl = wp G Γ (mR mi_X6_bestPlace) (wpN l G mi_X6_bestPlace Γ F sgs_X6_bestPlace n) (EX mi_X6_bestPlace F) sg_X6_bestPlace_0 L st S cs sl := rfl
theorem wn_X6_bestPlace_16 : wpN l G mi_X6_bestPlace Γ F sgs_X6_bestPlace (n + 1) 16 L st S cs sl = wp G Γ (mR mi_X6_bestPlace) (wpN l G mi_X6_bestPlace Γ F sgs_X6_bestPlace n) (EX mi_X6_bestPlace F) sg_X6_bestPlace_16 L st S cs sl := rfl
theorem wn_X6_bestPlace_28 : wpN l G mi_X6_bestPlace Γ F sgs_X6_bestPlace (n + 1) 28 L st S cs sl = wp G Γ (mR mi_X6_bestPlace) (wpN l G mi_X6_bestPlace Γ F sgs_X6_bestPlace n) (EX mi_X6_bestPlace F) sg_X6_bestPlace_28 L st S cs sl := rfl
theorem wn_X6_fills_0 : wpN l G mi_X6_fills Γ F sgs_X6_fills (n + 1) 0 L st S cs sl = wp G Γ (mR mi_X6_fills) (wpN l G mi_X6_fills Γ F sgs_X6_fills n) (EX mi_X6_fills F) sg_X6_fills_0 L st S cs sl := rfl
theorem wn_X6_fills_23 : wpN l G mi_X6_fills Γ F sgs_X6_fills (n + 1) 23 L st S cs sl = wp G Γ (mR mi_X6_fills) (wpN l G mi_X6_fills Γ F sgs_X6_fills n) (EX mi_X6_fills F) sg_X6_fills_23 L st S cs sl := rfl
theorem wn_X6_fills_27 : wpN l G mi_X6_fills Γ F sgs_X6_fills (n + 1) 27 L st S cs sl = wp G Γ (mR mi_X6_fills) (wpN l G mi_X6_fills Γ F sgs_X6_fills n) (EX mi_X6_fills F) sg_X6_fills_27 L st S cs sl := rfl
theorem wn_X6_fills_40 : wpN l G mi_X6_fills Γ F sgs_X6_fills (n + 1) 40 L st S cs sl = wp G Γ (mR mi_X6_fills) (wpN l G mi_X6_fills Γ F sgs_X6_fills n) (EX mi_X6_fills F) sg_X6_fills_40 L st S cs sl := rfl
theorem wn_X6_whoDims_0 : wpN l G mi_X6_whoDims Γ F sgs_X6_whoDims (n + 1) 0 L st S cs sl = wp G Γ (mR mi_X6_whoDims) (wpN l G mi_X6_whoDims Γ F sgs_X6_whoDims n) (EX mi_X6_whoDims F) sg_X6_whoDims_0 L st S cs sl := rfl
theorem wn_X6_whoDims_20 : wpN l G mi_X6_whoDims Γ F sgs_X6_whoDims (n + 1) 20 L st S cs sl = wp G Γ (mR mi_X6_whoDims) (wpN l G mi_X6_whoDims Γ F sgs_X6_whoDims n) (EX mi_X6_whoDims F) sg_X6_whoDims_20 L st S cs sl := rfl
theorem wn_X6_whoDims_22 : wpN l G mi_X6_whoDims Γ F sgs_X6_whoDims (n + 1) 22 L st S cs sl = wp G Γ (mR mi_X6_whoDims) (wpN l G mi_X6_whoDims Γ F sgs_X6_whoDims n) (EX mi_X6_whoDims F) sg_X6_whoDims_22 L st S cs sl := rfl
theorem wn_X6_whoDims_32 : wpN l G mi_X6_whoDims Γ F sgs_X6_whoDims (n + 1) 32 L st S cs sl = V l G mi_X6_whoDims F 32 L st S cs sl := rfl
theorem wn_X6_whoDims_78 : wpN l G mi_X6_whoDims Γ F sgs_X6_whoDims (n + 1) 78 L st S cs sl = wp G Γ (mR mi_X6_whoDims) (wpN l G mi_X6_whoDims Γ F sgs_X6_whoDims n) (EX mi_X6_whoDims F) sg_X6_whoDims_78 L st S cs sl := rfl
theorem wn_X6_whoDims_84 : wpN l G mi_X6_whoDims Γ F sgs_X6_whoDims (n + 1) 84 L st S cs sl = wp G Γ (mR mi_X6_whoDims) (wpN l G mi_X6_whoDims Γ F sgs_X6_whoDims n) (EX mi_X6_whoDims F) sg_X6_whoDims_84 L st S cs sl := rfl
theorem wn_X6_readableIn_0 : wpN l G mi_X6_readableIn Γ F sgs_X6_readableIn (n + 1) 0 L st S cs sl = wp G Γ (mR mi_X6_readableIn) (wpN l G mi_X6_readableIn Γ F sgs_X6_readableIn n) (EX mi_X6_readableIn F) sg_X6_readableIn_0 L st S cs sl := rfl
theorem wn_X6_readableIn_30 : wpN l G mi_X6_readableIn Γ F sgs_X6_readableIn (n + 1) 30 L st S cs sl = wp G Γ (mR mi_X6_readableIn) (wpN l G mi_X6_readableIn Γ F sgs_X6_readableIn n) (EX mi_X6_readableIn F) sg_X6_readableIn_30 L st S cs sl := rfl
theorem wn_X6_readableIn_31 : wpN l G mi_X6_readableIn Γ F sgs_X6_readableIn (n + 1) 31 L st S cs sl = wp G Γ (mR mi_X6_readableIn) (wpN l G mi_X6_readableIn Γ F sgs_X6_readableIn n) (EX mi_X6_readableIn F) sg_X6_readableIn_31 L st S cs sl := rfl
theorem wn_X6_put_0 : wpN l G mi_X6_put Γ F sgs_X6_put (n + 1) 0 L st S cs sl = wp G Γ (mR mi_X6_put) (wpN l G mi_X6_put Γ F sgs_X6_put n) (EX mi_X6_put F) sg_X6_put_0 L st S cs sl := rfl
theorem wn_X6_wipe_0 : wpN l G mi_X6_wipe Γ F sgs_X6_wipe (n + 1) 0 L st S cs sl = wp G Γ (mR mi_X6_wipe) (wpN l G mi_X6_wipe Γ F sgs_X6_wipe n) (EX mi_X6_wipe F) sg_X6_wipe_0 L st S cs sl := rfl
theorem wn_X6_fault_0 : wpN l G mi_X6_fault Γ F sgs_X6_fault (n + 1) 0 L st S cs sl = wp G Γ (mR mi_X6_fault) (wpN l G mi_X6_fault Γ F sgs_X6_fault n) (EX mi_X6_fault F) sg_X6_fault_0 L st S cs sl := rfl
theorem wn_X6_obey_0 : wpN l G mi_X6_obey Γ F sgs_X6_obey (n + 1) 0 L st S cs sl = wp G Γ (mR mi_X6_obey) (wpN l G mi_X6_obey Γ F sgs_X6_obey n) (EX mi_X6_obey F) sg_X6_obey_0 L st S cs sl := rfl
theorem wn_X6_obey_124 : wpN l G mi_X6_obey Γ F sgs_X6_obey (n + 1) 124 L st S cs sl = wp G Γ (mR mi_X6_obey) (wpN l G mi_X6_obey Γ F sgs_X6_obey n) (EX mi_X6_obey F) sg_X6_obey_124 L st S cs sl := rfl
theorem wn_X6_obey_132 : wpN l G mi_X6_obey Γ F sgs_X6_obey (n + 1) 132 L st S cs sl = wp G Γ (mR mi_X6_obey) (wpN l G mi_X6_obey Γ F sgs_X6_obey n) (EX mi_X6_obey F) sg_X6_obey_132 L st S cs sl := rfl
theorem wn_X6_obey_141 : wpN l G mi_X6_obey Γ F sgs_X6_obey (n + 1) 141 L st S cs sl = wp G Γ (mR mi_X6_obey) (wpN l G mi_X6_obey Γ F sgs_X6_obey n) (EX mi_X6_obey F) sg_X6_obey_141 L st S cs sl := rfl
theorem wn_X6_obey_150 : wpN l G mi_X6_obey Γ F sgs_X6_obey (n + 1) 150 L st S cs sl = wp G Γ (mR mi_X6_obey) (wpN l G mi_X6_obey Γ F sgs_X6_obey n) (EX mi_X6_obey F) sg_X6_obey_150 L st S cs sl := rfl
theorem wn_X6_obey_171 : wpN l G mi_X6_obey Γ F sgs_X6_obey (n + 1) 171 L st S cs sl = wp G Γ (mR mi_X6_obey) (wpN l G mi_X6_obey Γ F sgs_X6_obey n) (EX mi_X6_obey F) sg_X6_obey_171 L st S cs sl := rfl
theorem wn_X6_obey_183 : wpN l G mi_X6_obey Γ F sgs_X6_obey (n + 1) 183 L st S cs sl = wp G Γ (mR mi_X6_obey) (wpN l G mi_X6_obey Γ F sgs_X6_obey n) (EX mi_X6_obey F) sg_X6_obey_183 L st S cs sl := rfl
theorem wn_X6_obey_194 : wpN l G mi_X6_obey Γ F sgs_X6_obey (n + 1) 194 L st S cs sl = wp G Γ (mR mi_X6_obey) (wpN l G mi_X6_obey Γ F sgs_X6_obey n) (EX mi_X6_obey F) sg_X6_obey_194 L st S cs sl := rfl
theorem wn_X6_obey_203 : wpN l G mi_X6_obey Γ F sgs_X6_obey (n + 1) 203 L st S cs sl = wp G Γ (mR mi_X6_obey) (wpN l G mi_X6_obey Γ F sgs_X6_obey n) (EX mi_X6_obey F) sg_X6_obey_203 L st S cs sl := rfl
theorem wn_X6_carryOut_0 : wpN l G mi_X6_carryOut Γ F sgs_X6_carryOut (n + 1) 0 L st S cs sl = wp G Γ (mR mi_X6_carryOut) (wpN l G mi_X6_carryOut Γ F sgs_X6_carryOut n) (EX mi_X6_carryOut F) sg_X6_carryOut_0 L st S cs sl := rfl
theorem wn_X6_carryOut_15 : wpN l G mi_X6_carryOut Γ F sgs_X6_carryOut (n + 1) 15 L st S cs sl = wp G Γ (mR mi_X6_carryOut) (wpN l G mi_X6_carryOut Γ F sgs_X6_carryOut n) (EX mi_X6_carryOut F) sg_X6_carryOut_15 L st S cs sl := rfl
theorem wn_X6_carryOut_28 : wpN l G mi_X6_carryOut Γ F sgs_X6_carryOut (n + 1) 28 L st S cs sl = V l G mi_X6_carryOut F 28 L st S cs sl := rfl
theorem wn_X6_carryOut_53 : wpN l G mi_X6_carryOut Γ F sgs_X6_carryOut (n + 1) 53 L st S cs sl = wp G Γ (mR mi_X6_carryOut) (wpN l G mi_X6_carryOut Γ F sgs_X6_carryOut n) (EX mi_X6_carryOut F) sg_X6_carryOut_53 L st S cs sl := rfl
theorem wn_X6_undo_0 : wpN l G mi_X6_undo Γ F sgs_X6_undo (n + 1) 0 L st S cs sl = wp G Γ (mR mi_X6_undo) (wpN l G mi_X6_undo Γ F sgs_X6_undo n) (EX mi_X6_undo F) sg_X6_undo_0 L st S cs sl := rfl
theorem wn_X6_save_0 : wpN l G mi_X6_save Γ F sgs_X6_save (n + 1) 0 L st S cs sl = wp G Γ (mR mi_X6_save) (wpN l G mi_X6_save Γ F sgs_X6_save n) (EX mi_X6_save F) sg_X6_save_0 L st S cs sl := rfl
theorem wn_X6_save_9 : wpN l G mi_X6_save Γ F sgs_X6_save (n + 1) 9 L st S cs sl = wp G Γ (mR mi_X6_save) (wpN l G mi_X6_save Γ F sgs_X6_save n) (EX mi_X6_save F) sg_X6_save_9 L st S cs sl := rfl
theorem wn_X6_save_12 : wpN l G mi_X6_save Γ F sgs_X6_save (n + 1) 12 L st S cs sl = wp G Γ (mR mi_X6_save) (wpN l G mi_X6_save Γ F sgs_X6_save n) (EX mi_X6_save F) sg_X6_save_12 L st S cs sl := rfl
theorem wn_X6_restore_0 : wpN l G mi_X6_restore Γ F sgs_X6_restore (n + 1) 0 L st S cs sl = wp G Γ (mR mi_X6_restore) (wpN l G mi_X6_restore Γ F sgs_X6_restore n) (EX mi_X6_restore F) sg_X6_restore_0 L st S cs sl := rfl
theorem wn_X6_restore_9 : wpN l G mi_X6_restore Γ F sgs_X6_restore (n + 1) 9 L st S cs sl = wp G Γ (mR mi_X6_restore) (wpN l G mi_X6_restore Γ F sgs_X6_restore n) (EX mi_X6_restore F) sg_X6_restore_9 L st S cs sl := rfl
theorem wn_X6_restore_12 : wpN l G mi_X6_restore Γ F sgs_X6_restore (n + 1) 12 L st S cs sl = wp G Γ (mR mi_X6_restore) (wpN l G mi_X6_restore Γ F sgs_X6_restore n) (EX mi_X6_restore F) sg_X6_restore_12 L st S cs sl := rfl
theorem wn_X6_restore_24 : wpN l G mi_X6_restore Γ F sgs_X6_restore (n + 1) 24 L st S cs sl = wp G Γ (mR mi_X6_restore) (wpN l G mi_X6_restore Γ F sgs_X6_restore n) (EX mi_X6_restore F) sg_X6_restore_24 L st S cs sl := rfl
theorem wn_X7_init_0 : wpN l G mi_X7_init Γ F sgs_X7_init (n + 1) 0 L st S cs sl = wp G Γ (mR mi_X7_init) (wpN l G mi_X7_init Γ F sgs_X7_init n) (EX mi_X7_init F) sg_X7_init_0 L st S cs sl := rfl
theorem wn_X7_in_0 : wpN l G mi_X7_in Γ F sgs_X7_in (n + 1) 0 L st S cs sl = wp G Γ (mR mi_X7_in) (wpN l G mi_X7_in Γ F sgs_X7_in n) (EX mi_X7_in F) sg_X7_in_0 L st S cs sl := rfl
theorem wn_X7_in_17 : wpN l G mi_X7_in Γ F sgs_X7_in (n + 1) 17 L st S cs sl = wp G Γ (mR mi_X7_in) (wpN l G mi_X7_in Γ F sgs_X7_in n) (EX mi_X7_in F) sg_X7_in_17 L st S cs sl := rfl
theorem wn_X7_in_18 : wpN l G mi_X7_in Γ F sgs_X7_in (n + 1) 18 L st S cs sl = wp G Γ (mR mi_X7_in) (wpN l G mi_X7_in Γ F sgs_X7_in n) (EX mi_X7_in F) sg_X7_in_18 L st S cs sl := rfl
theorem wn_X7_copies_0 : wpN l G mi_X7_copies Γ F sgs_X7_copies (n + 1) 0 L st S cs sl = wp G Γ (mR mi_X7_copies) (wpN l G mi_X7_copies Γ F sgs_X7_copies n) (EX mi_X7_copies F) sg_X7_copies_0 L st S cs sl := rfl
theorem wn_X7_copies_2 : wpN l G mi_X7_copies Γ F sgs_X7_copies (n + 1) 2 L st S cs sl = V l G mi_X7_copies F 2 L st S cs sl := rfl
theorem wn_X7_copies_39 : wpN l G mi_X7_copies Γ F sgs_X7_copies (n + 1) 39 L st S cs sl = wp G Γ (mR mi_X7_copies) (wpN l G mi_X7_copies Γ F sgs_X7_copies n) (EX mi_X7_copies F) sg_X7_copies_39 L st S cs sl := rfl
theorem wn_X7_copies_41 : wpN l G mi_X7_copies Γ F sgs_X7_copies (n + 1) 41 L st S cs sl = V l G mi_X7_copies F 41 L st S cs sl := rfl
theorem wn_X7_copies_78 : wpN l G mi_X7_copies Γ F sgs_X7_copies (n + 1) 78 L st S cs sl = wp G Γ (mR mi_X7_copies) (wpN l G mi_X7_copies Γ F sgs_X7_copies n) (EX mi_X7_copies F) sg_X7_copies_78 L st S cs sl := rfl
theorem wn_X7_changes_0 : wpN l G mi_X7_changes Γ F sgs_X7_changes (n + 1) 0 L st S cs sl = wp G Γ (mR mi_X7_changes) (wpN l G mi_X7_changes Γ F sgs_X7_changes n) (EX mi_X7_changes F) sg_X7_changes_0 L st S cs sl := rfl
theorem wn_X7_changes_11 : wpN l G mi_X7_changes Γ F sgs_X7_changes (n + 1) 11 L st S cs sl = V l G mi_X7_changes F 11 L st S cs sl := rfl
theorem wn_X7_changes_31 : wpN l G mi_X7_changes Γ F sgs_X7_changes (n + 1) 31 L st S cs sl = wp G Γ (mR mi_X7_changes) (wpN l G mi_X7_changes Γ F sgs_X7_changes n) (EX mi_X7_changes F) sg_X7_changes_31 L st S cs sl := rfl
theorem wn_X7_changes_41 : wpN l G mi_X7_changes Γ F sgs_X7_changes (n + 1) 41 L st S cs sl = wp G Γ (mR mi_X7_changes) (wpN l G mi_X7_changes Γ F sgs_X7_changes n) (EX mi_X7_changes F) sg_X7_changes_41 L st S cs sl := rfl
theorem wn_X7_inkAt_0 : wpN l G mi_X7_inkAt Γ F sgs_X7_inkAt (n + 1) 0 L st S cs sl = wp G Γ (mR mi_X7_inkAt) (wpN l G mi_X7_inkAt Γ F sgs_X7_inkAt n) (EX mi_X7_inkAt F) sg_X7_inkAt_0 L st S cs sl := rfl
theorem wn_X7_lightAt_0 : wpN l G mi_X7_lightAt Γ F sgs_X7_lightAt (n + 1) 0 L st S cs sl = wp G Γ (mR mi_X7_lightAt) (wpN l G mi_X7_lightAt Γ F sgs_X7_lightAt n) (EX mi_X7_lightAt F) sg_X7_lightAt_0 L st S cs sl := rfl
theorem wn_X7_hasLetter_0 : wpN l G mi_X7_hasLetter Γ F sgs_X7_hasLetter (n + 1) 0 L st S cs sl = wp G Γ (mR mi_X7_hasLetter) (wpN l G mi_X7_hasLetter Γ F sgs_X7_hasLetter n) (EX mi_X7_hasLetter F) sg_X7_hasLetter_0 L st S cs sl := rfl
theorem wn_X7_hasLetter_20 : wpN l G mi_X7_hasLetter Γ F sgs_X7_hasLetter (n + 1) 20 L st S cs sl = wp G Γ (mR mi_X7_hasLetter) (wpN l G mi_X7_hasLetter Γ F sgs_X7_hasLetter n) (EX mi_X7_hasLetter F) sg_X7_hasLetter_20 L st S cs sl := rfl
theorem wn_X7_hasLetter_21 : wpN l G mi_X7_hasLetter Γ F sgs_X7_hasLetter (n + 1) 21 L st S cs sl = wp G Γ (mR mi_X7_hasLetter) (wpN l G mi_X7_hasLetter Γ F sgs_X7_hasLetter n) (EX mi_X7_hasLetter F) sg_X7_hasLetter_21 L st S cs sl := rfl
theorem wn_X7_promisedTo_0 : wpN l G mi_X7_promisedTo Γ F sgs_X7_promisedTo (n + 1) 0 L st S cs sl = wp G Γ (mR mi_X7_promisedTo) (wpN l G mi_X7_promisedTo Γ F sgs_X7_promisedTo n) (EX mi_X7_promisedTo F) sg_X7_promisedTo_0 L st S cs sl := rfl
theorem wn_X7_clouded_0 : wpN l G mi_X7_clouded Γ F sgs_X7_clouded (n + 1) 0 L st S cs sl = wp G Γ (mR mi_X7_clouded) (wpN l G mi_X7_clouded Γ F sgs_X7_clouded n) (EX mi_X7_clouded F) sg_X7_clouded_0 L st S cs sl := rfl
theorem wn_X7_clouded_35 : wpN l G mi_X7_clouded Γ F sgs_X7_clouded (n + 1) 35 L st S cs sl = wp G Γ (mR mi_X7_clouded) (wpN l G mi_X7_clouded Γ F sgs_X7_clouded n) (EX mi_X7_clouded F) sg_X7_clouded_35 L st S cs sl := rfl
theorem wn_X7_clouded_37 : wpN l G mi_X7_clouded Γ F sgs_X7_clouded (n + 1) 37 L st S cs sl = wp G Γ (mR mi_X7_clouded) (wpN l G mi_X7_clouded Γ F sgs_X7_clouded n) (EX mi_X7_clouded F) sg_X7_clouded_37 L st S cs sl := rfl
theorem wn_X7_clouded_50 : wpN l G mi_X7_clouded Γ F sgs_X7_clouded (n + 1) 50 L st S cs sl = wp G Γ (mR mi_X7_clouded) (wpN l G mi_X7_clouded Γ F sgs_X7_clouded n) (EX mi_X7_clouded F) sg_X7_clouded_50 L st S cs sl := rfl
theorem wn_X7_clouded_52 : wpN l G mi_X7_clouded Γ F sgs_X7_clouded (n + 1) 52 L st S cs sl = wp G Γ (mR mi_X7_clouded) (wpN l G mi_X7_clouded Γ F sgs_X7_clouded n) (EX mi_X7_clouded F) sg_X7_clouded_52 L st S cs sl := rfl
theorem wn_X7_clouded_66 : wpN l G mi_X7_clouded Γ F sgs_X7_clouded (n + 1) 66 L st S cs sl = wp G Γ (mR mi_X7_clouded) (wpN l G mi_X7_clouded Γ F sgs_X7_clouded n) (EX mi_X7_clouded F) sg_X7_clouded_66 L st S cs sl := rfl
theorem wn_X7_clouded_68 : wpN l G mi_X7_clouded Γ F sgs_X7_clouded (n + 1) 68 L st S cs sl = wp G Γ (mR mi_X7_clouded) (wpN l G mi_X7_clouded Γ F sgs_X7_clouded n) (EX mi_X7_clouded F) sg_X7_clouded_68 L st S cs sl := rfl
theorem wn_X7_clouded_81 : wpN l G mi_X7_clouded Γ F sgs_X7_clouded (n + 1) 81 L st S cs sl = wp G Γ (mR mi_X7_clouded) (wpN l G mi_X7_clouded Γ F sgs_X7_clouded n) (EX mi_X7_clouded F) sg_X7_clouded_81 L st S cs sl := rfl
theorem wn_X7_clouded_83 : wpN l G mi_X7_clouded Γ F sgs_X7_clouded (n + 1) 83 L st S cs sl = wp G Γ (mR mi_X7_clouded) (wpN l G mi_X7_clouded Γ F sgs_X7_clouded n) (EX mi_X7_clouded F) sg_X7_clouded_83 L st S cs sl := rfl
theorem wn_X7_isBright_0 : wpN l G mi_X7_isBright Γ F sgs_X7_isBright (n + 1) 0 L st S cs sl = wp G Γ (mR mi_X7_isBright) (wpN l G mi_X7_isBright Γ F sgs_X7_isBright n) (EX mi_X7_isBright F) sg_X7_isBright_0 L st S cs sl := rfl
theorem wn_X7_isBright_25 : wpN l G mi_X7_isBright Γ F sgs_X7_isBright (n + 1) 25 L st S cs sl = wp G Γ (mR mi_X7_isBright) (wpN l G mi_X7_isBright Γ F sgs_X7_isBright n) (EX mi_X7_isBright F) sg_X7_isBright_25 L st S cs sl := rfl
theorem wn_X7_isBright_26 : wpN l G mi_X7_isBright Γ F sgs_X7_isBright (n + 1) 26 L st S cs sl = wp G Γ (mR mi_X7_isBright) (wpN l G mi_X7_isBright Γ F sgs_X7_isBright n) (EX mi_X7_isBright F) sg_X7_isBright_26 L st S cs sl := rfl
theorem wn_X7_ahead_0 : wpN l G mi_X7_ahead Γ F sgs_X7_ahead (n + 1) 0 L st S cs sl = wp G Γ (mR mi_X7_ahead) (wpN l G mi_X7_ahead Γ F sgs_X7_ahead n) (EX mi_X7_ahead F) sg_X7_ahead_0 L st S cs sl := rfl
theorem wn_X7_ahead_16 : wpN l G mi_X7_ahead Γ F sgs_X7_ahead (n + 1) 16 L st S cs sl = V l G mi_X7_ahead F 16 L st S cs sl := rfl
theorem wn_X7_ahead_74 : wpN l G mi_X7_ahead Γ F sgs_X7_ahead (n + 1) 74 L st S cs sl = wp G Γ (mR mi_X7_ahead) (wpN l G mi_X7_ahead Γ F sgs_X7_ahead n) (EX mi_X7_ahead F) sg_X7_ahead_74 L st S cs sl := rfl
theorem wn_X7_ahead_80 : wpN l G mi_X7_ahead Γ F sgs_X7_ahead (n + 1) 80 L st S cs sl = wp G Γ (mR mi_X7_ahead) (wpN l G mi_X7_ahead Γ F sgs_X7_ahead n) (EX mi_X7_ahead F) sg_X7_ahead_80 L st S cs sl := rfl
theorem wn_X7_hasRoom_0 : wpN l G mi_X7_hasRoom Γ F sgs_X7_hasRoom (n + 1) 0 L st S cs sl = wp G Γ (mR mi_X7_hasRoom) (wpN l G mi_X7_hasRoom Γ F sgs_X7_hasRoom n) (EX mi_X7_hasRoom F) sg_X7_hasRoom_0 L st S cs sl := rfl
theorem wn_X7_hasRoom_41 : wpN l G mi_X7_hasRoom Γ F sgs_X7_hasRoom (n + 1) 41 L st S cs sl = wp G Γ (mR mi_X7_hasRoom) (wpN l G mi_X7_hasRoom Γ F sgs_X7_hasRoom n) (EX mi_X7_hasRoom F) sg_X7_hasRoom_41 L st S cs sl := rfl
theorem wn_X7_hasRoom_42 : wpN l G mi_X7_hasRoom Γ F sgs_X7_hasRoom (n + 1) 42 L st S cs sl = wp G Γ (mR mi_X7_hasRoom) (wpN l G mi_X7_hasRoom Γ F sgs_X7_hasRoom n) (EX mi_X7_hasRoom F) sg_X7_hasRoom_42 L st S cs sl := rfl
theorem wn_X7_canRead_0 : wpN l G mi_X7_canRead Γ F sgs_X7_canRead (n + 1) 0 L st S cs sl = wp G Γ (mR mi_X7_canRead) (wpN l G mi_X7_canRead Γ F sgs_X7_canRead n) (EX mi_X7_canRead F) sg_X7_canRead_0 L st S cs sl := rfl
theorem wn_X7_canRead_33 : wpN l G mi_X7_canRead Γ F sgs_X7_canRead (n + 1) 33 L st S cs sl = wp G Γ (mR mi_X7_canRead) (wpN l G mi_X7_canRead Γ F sgs_X7_canRead n) (EX mi_X7_canRead F) sg_X7_canRead_33 L st S cs sl := rfl
theorem wn_X7_canRead_34 : wpN l G mi_X7_canRead Γ F sgs_X7_canRead (n + 1) 34 L st S cs sl = wp G Γ (mR mi_X7_canRead) (wpN l G mi_X7_canRead Γ F sgs_X7_canRead n) (EX mi_X7_canRead F) sg_X7_canRead_34 L st S cs sl := rfl
theorem wn_X7_rooms_0 : wpN l G mi_X7_rooms Γ F sgs_X7_rooms (n + 1) 0 L st S cs sl = wp G Γ (mR mi_X7_rooms) (wpN l G mi_X7_rooms Γ F sgs_X7_rooms n) (EX mi_X7_rooms F) sg_X7_rooms_0 L st S cs sl := rfl
theorem wn_X7_rooms_5 : wpN l G mi_X7_rooms Γ F sgs_X7_rooms (n + 1) 5 L st S cs sl = V l G mi_X7_rooms F 5 L st S cs sl := rfl
theorem wn_X7_rooms_28 : wpN l G mi_X7_rooms Γ F sgs_X7_rooms (n + 1) 28 L st S cs sl = wp G Γ (mR mi_X7_rooms) (wpN l G mi_X7_rooms Γ F sgs_X7_rooms n) (EX mi_X7_rooms F) sg_X7_rooms_28 L st S cs sl := rfl
theorem wn_X7_rooms_29 : wpN l G mi_X7_rooms Γ F sgs_X7_rooms (n + 1) 29 L st S cs sl = wp G Γ (mR mi_X7_rooms) (wpN l G mi_X7_rooms Γ F sgs_X7_rooms n) (EX mi_X7_rooms F) sg_X7_rooms_29 L st S cs sl := rfl
theorem wn_X7_rooms_37 : wpN l G mi_X7_rooms Γ F sgs_X7_rooms (n + 1) 37 L st S cs sl = wp G Γ (mR mi_X7_rooms) (wpN l G mi_X7_rooms Γ F sgs_X7_rooms n) (EX mi_X7_rooms F) sg_X7_rooms_37 L st S cs sl := rfl
theorem wn_X7_looks_0 : wpN l G mi_X7_looks Γ F sgs_X7_looks (n + 1) 0 L st S cs sl = wp G Γ (mR mi_X7_looks) (wpN l G mi_X7_looks Γ F sgs_X7_looks n) (EX mi_X7_looks F) sg_X7_looks_0 L st S cs sl := rfl
theorem wn_X7_looks_2 : wpN l G mi_X7_looks Γ F sgs_X7_looks (n + 1) 2 L st S cs sl = V l G mi_X7_looks F 2 L st S cs sl := rfl
theorem wn_X7_looks_27 : wpN l G mi_X7_looks Γ F sgs_X7_looks (n + 1) 27 L st S cs sl = wp G Γ (mR mi_X7_looks) (wpN l G mi_X7_looks Γ F sgs_X7_looks n) (EX mi_X7_looks F) sg_X7_looks_27 L st S cs sl := rfl
theorem wn_X7_looks_28 : wpN l G mi_X7_looks Γ F sgs_X7_looks (n + 1) 28 L st S cs sl = wp G Γ (mR mi_X7_looks) (wpN l G mi_X7_looks Γ F sgs_X7_looks n) (EX mi_X7_looks F) sg_X7_looks_28 L st S cs sl := rfl
theorem wn_X7_looks_35 : wpN l G mi_X7_looks Γ F sgs_X7_looks (n + 1) 35 L st S cs sl = wp G Γ (mR mi_X7_looks) (wpN l G mi_X7_looks Γ F sgs_X7_looks n) (EX mi_X7_looks F) sg_X7_looks_35 L st S cs sl := rfl
theorem wn_X7_spoilt_0 : wpN l G mi_X7_spoilt Γ F sgs_X7_spoilt (n + 1) 0 L st S cs sl = wp G Γ (mR mi_X7_spoilt) (wpN l G mi_X7_spoilt Γ F sgs_X7_spoilt n) (EX mi_X7_spoilt F) sg_X7_spoilt_0 L st S cs sl := rfl
theorem wn_X7_spoilt_6 : wpN l G mi_X7_spoilt Γ F sgs_X7_spoilt (n + 1) 6 L st S cs sl = V l G mi_X7_spoilt F 6 L st S cs sl := rfl
theorem wn_X7_spoilt_47 : wpN l G mi_X7_spoilt Γ F sgs_X7_spoilt (n + 1) 47 L st S cs sl = wp G Γ (mR mi_X7_spoilt) (wpN l G mi_X7_spoilt Γ F sgs_X7_spoilt n) (EX mi_X7_spoilt F) sg_X7_spoilt_47 L st S cs sl := rfl
theorem wn_X7_spoilt_48 : wpN l G mi_X7_spoilt Γ F sgs_X7_spoilt (n + 1) 48 L st S cs sl = wp G Γ (mR mi_X7_spoilt) (wpN l G mi_X7_spoilt Γ F sgs_X7_spoilt n) (EX mi_X7_spoilt F) sg_X7_spoilt_48 L st S cs sl := rfl
theorem wn_X7_spoilt_57 : wpN l G mi_X7_spoilt Γ F sgs_X7_spoilt (n + 1) 57 L st S cs sl = wp G Γ (mR mi_X7_spoilt) (wpN l G mi_X7_spoilt Γ F sgs_X7_spoilt n) (EX mi_X7_spoilt F) sg_X7_spoilt_57 L st S cs sl := rfl
theorem wn_X7_writes_0 : wpN l G mi_X7_writes Γ F sgs_X7_writes (n + 1) 0 L st S cs sl = wp G Γ (mR mi_X7_writes) (wpN l G mi_X7_writes Γ F sgs_X7_writes n) (EX mi_X7_writes F) sg_X7_writes_0 L st S cs sl := rfl
theorem wn_X7_writes_3 : wpN l G mi_X7_writes Γ F sgs_X7_writes (n + 1) 3 L st S cs sl = V l G mi_X7_writes F 3 L st S cs sl := rfl
theorem wn_X7_writes_63 : wpN l G mi_X7_writes Γ F sgs_X7_writes (n + 1) 63 L st S cs sl = wp G Γ (mR mi_X7_writes) (wpN l G mi_X7_writes Γ F sgs_X7_writes n) (EX mi_X7_writes F) sg_X7_writes_63 L st S cs sl := rfl
theorem wn_X7_best_0 : wpN l G mi_X7_best Γ F sgs_X7_best (n + 1) 0 L st S cs sl = wp G Γ (mR mi_X7_best) (wpN l G mi_X7_best Γ F sgs_X7_best n) (EX mi_X7_best F) sg_X7_best_0 L st S cs sl := rfl
theorem wn_X7_best_9 : wpN l G mi_X7_best Γ F sgs_X7_best (n + 1) 9 L st S cs sl = V l G mi_X7_best F 9 L st S cs sl := rfl
theorem wn_X7_best_42 : wpN l G mi_X7_best Γ F sgs_X7_best (n + 1) 42 L st S cs sl = wp G Γ (mR mi_X7_best) (wpN l G mi_X7_best Γ F sgs_X7_best n) (EX mi_X7_best F) sg_X7_best_42 L st S cs sl := rfl
theorem wn_X7_best_43 : wpN l G mi_X7_best Γ F sgs_X7_best (n + 1) 43 L st S cs sl = wp G Γ (mR mi_X7_best) (wpN l G mi_X7_best Γ F sgs_X7_best n) (EX mi_X7_best F) sg_X7_best_43 L st S cs sl := rfl
theorem wn_X7_best_64 : wpN l G mi_X7_best Γ F sgs_X7_best (n + 1) 64 L st S cs sl = wp G Γ (mR mi_X7_best) (wpN l G mi_X7_best Γ F sgs_X7_best n) (EX mi_X7_best F) sg_X7_best_64 L st S cs sl := rfl
theorem wn_X7_best_68 : wpN l G mi_X7_best Γ F sgs_X7_best (n + 1) 68 L st S cs sl = wp G Γ (mR mi_X7_best) (wpN l G mi_X7_best Γ F sgs_X7_best n) (EX mi_X7_best F) sg_X7_best_68 L st S cs sl := rfl
theorem wn_X7_best_69 : wpN l G mi_X7_best Γ F sgs_X7_best (n + 1) 69 L st S cs sl = wp G Γ (mR mi_X7_best) (wpN l G mi_X7_best Γ F sgs_X7_best n) (EX mi_X7_best F) sg_X7_best_69 L st S cs sl := rfl
theorem wn_X7_best_81 : wpN l G mi_X7_best Γ F sgs_X7_best (n + 1) 81 L st S cs sl = wp G Γ (mR mi_X7_best) (wpN l G mi_X7_best Γ F sgs_X7_best n) (EX mi_X7_best F) sg_X7_best_81 L st S cs sl := rfl
theorem wn_X7_best_82 : wpN l G mi_X7_best Γ F sgs_X7_best (n + 1) 82 L st S cs sl = wp G Γ (mR mi_X7_best) (wpN l G mi_X7_best Γ F sgs_X7_best n) (EX mi_X7_best F) sg_X7_best_82 L st S cs sl := rfl
theorem wn_X7_best_93 : wpN l G mi_X7_best Γ F sgs_X7_best (n + 1) 93 L st S cs sl = wp G Γ (mR mi_X7_best) (wpN l G mi_X7_best Γ F sgs_X7_best n) (EX mi_X7_best F) sg_X7_best_93 L st S cs sl := rfl
theorem wn_X7_best_95 : wpN l G mi_X7_best Γ F sgs_X7_best (n + 1) 95 L st S cs sl = wp G Γ (mR mi_X7_best) (wpN l G mi_X7_best Γ F sgs_X7_best n) (EX mi_X7_best F) sg_X7_best_95 L st S cs sl := rfl
theorem wn_X7_best_103 : wpN l G mi_X7_best Γ F sgs_X7_best (n + 1) 103 L st S cs sl = wp G Γ (mR mi_X7_best) (wpN l G mi_X7_best Γ F sgs_X7_best n) (EX mi_X7_best F) sg_X7_best_103 L st S cs sl := rfl
theorem wn_X7_clears_0 : wpN l G mi_X7_clears Γ F sgs_X7_clears (n + 1) 0 L st S cs sl = wp G Γ (mR mi_X7_clears) (wpN l G mi_X7_clears Γ F sgs_X7_clears n) (EX mi_X7_clears F) sg_X7_clears_0 L st S cs sl := rfl
theorem wn_X7_clears_2 : wpN l G mi_X7_clears Γ F sgs_X7_clears (n + 1) 2 L st S cs sl = V l G mi_X7_clears F 2 L st S cs sl := rfl
theorem wn_X7_clears_62 : wpN l G mi_X7_clears Γ F sgs_X7_clears (n + 1) 62 L st S cs sl = wp G Γ (mR mi_X7_clears) (wpN l G mi_X7_clears Γ F sgs_X7_clears n) (EX mi_X7_clears F) sg_X7_clears_62 L st S cs sl := rfl
theorem wn_X7_isWriter_0 : wpN l G mi_X7_isWriter Γ F sgs_X7_isWriter (n + 1) 0 L st S cs sl = wp G Γ (mR mi_X7_isWriter) (wpN l G mi_X7_isWriter Γ F sgs_X7_isWriter n) (EX mi_X7_isWriter F) sg_X7_isWriter_0 L st S cs sl := rfl
theorem wn_X7_isPlate_0 : wpN l G mi_X7_isPlate Γ F sgs_X7_isPlate (n + 1) 0 L st S cs sl = wp G Γ (mR mi_X7_isPlate) (wpN l G mi_X7_isPlate Γ F sgs_X7_isPlate n) (EX mi_X7_isPlate F) sg_X7_isPlate_0 L st S cs sl := rfl
theorem wn_X7_isRow_0 : wpN l G mi_X7_isRow Γ F sgs_X7_isRow (n + 1) 0 L st S cs sl = wp G Γ (mR mi_X7_isRow) (wpN l G mi_X7_isRow Γ F sgs_X7_isRow n) (EX mi_X7_isRow F) sg_X7_isRow_0 L st S cs sl := rfl
theorem wn_X7_isThere_0 : wpN l G mi_X7_isThere Γ F sgs_X7_isThere (n + 1) 0 L st S cs sl = wp G Γ (mR mi_X7_isThere) (wpN l G mi_X7_isThere Γ F sgs_X7_isThere n) (EX mi_X7_isThere F) sg_X7_isThere_0 L st S cs sl := rfl
theorem wn_X7_isThere_35 : wpN l G mi_X7_isThere Γ F sgs_X7_isThere (n + 1) 35 L st S cs sl = wp G Γ (mR mi_X7_isThere) (wpN l G mi_X7_isThere Γ F sgs_X7_isThere n) (EX mi_X7_isThere F) sg_X7_isThere_35 L st S cs sl := rfl
theorem wn_X7_isThere_36 : wpN l G mi_X7_isThere Γ F sgs_X7_isThere (n + 1) 36 L st S cs sl = wp G Γ (mR mi_X7_isThere) (wpN l G mi_X7_isThere Γ F sgs_X7_isThere n) (EX mi_X7_isThere F) sg_X7_isThere_36 L st S cs sl := rfl
theorem wn_X7_spotOf_0 : wpN l G mi_X7_spotOf Γ F sgs_X7_spotOf (n + 1) 0 L st S cs sl = wp G Γ (mR mi_X7_spotOf) (wpN l G mi_X7_spotOf Γ F sgs_X7_spotOf n) (EX mi_X7_spotOf F) sg_X7_spotOf_0 L st S cs sl := rfl
theorem wn_X7_layError_0 : wpN l G mi_X7_layError Γ F sgs_X7_layError (n + 1) 0 L st S cs sl = wp G Γ (mR mi_X7_layError) (wpN l G mi_X7_layError Γ F sgs_X7_layError n) (EX mi_X7_layError F) sg_X7_layError_0 L st S cs sl := rfl
theorem wn_X7_layError_12 : wpN l G mi_X7_layError Γ F sgs_X7_layError (n + 1) 12 L st S cs sl = wp G Γ (mR mi_X7_layError) (wpN l G mi_X7_layError Γ F sgs_X7_layError n) (EX mi_X7_layError F) sg_X7_layError_12 L st S cs sl := rfl
theorem wn_X7_layError_28 : wpN l G mi_X7_layError Γ F sgs_X7_layError (n + 1) 28 L st S cs sl = wp G Γ (mR mi_X7_layError) (wpN l G mi_X7_layError Γ F sgs_X7_layError n) (EX mi_X7_layError F) sg_X7_layError_28 L st S cs sl := rfl
theorem wn_X7_layError_29 : wpN l G mi_X7_layError Γ F sgs_X7_layError (n + 1) 29 L st S cs sl = wp G Γ (mR mi_X7_layError) (wpN l G mi_X7_layError Γ F sgs_X7_layError n) (EX mi_X7_layError F) sg_X7_layError_29 L st S cs sl := rfl
theorem wn_X7_writerError_0 : wpN l G mi_X7_writerError Γ F sgs_X7_writerError (n + 1) 0 L st S cs sl = wp G Γ (mR mi_X7_writerError) (wpN l G mi_X7_writerError Γ F sgs_X7_writerError n) (EX mi_X7_writerError F) sg_X7_writerError_0 L st S cs sl := rfl
theorem wn_X7_writerError_17 : wpN l G mi_X7_writerError Γ F sgs_X7_writerError (n + 1) 17 L st S cs sl = wp G Γ (mR mi_X7_writerError) (wpN l G mi_X7_writerError Γ F sgs_X7_writerError n) (EX mi_X7_writerError F) sg_X7_writerError_17 L st S cs sl := rfl
theorem wn_X7_writerError_33 : wpN l G mi_X7_writerError Γ F sgs_X7_writerError (n + 1) 33 L st S cs sl = wp G Γ (mR mi_X7_writerError) (wpN l G mi_X7_writerError Γ F sgs_X7_writerError n) (EX mi_X7_writerError F) sg_X7_writerError_33 L st S cs sl := rfl
theorem wn_X7_writerError_34 : wpN l G mi_X7_writerError Γ F sgs_X7_writerError (n + 1) 34 L st S cs sl = wp G Γ (mR mi_X7_writerError) (wpN l G mi_X7_writerError Γ F sgs_X7_writerError n) (EX mi_X7_writerError F) sg_X7_writerError_34 L st S cs sl := rfl
theorem wn_X7_writeError_0 : wpN l G mi_X7_writeError Γ F sgs_X7_writeError (n + 1) 0 L st S cs sl = wp G Γ (mR mi_X7_writeError) (wpN l G mi_X7_writeError Γ F sgs_X7_writeError n) (EX mi_X7_writeError F) sg_X7_writeError_0 L st S cs sl := rfl
theorem wn_X7_writeError_17 : wpN l G mi_X7_writeError Γ F sgs_X7_writeError (n + 1) 17 L st S cs sl = wp G Γ (mR mi_X7_writeError) (wpN l G mi_X7_writeError Γ F sgs_X7_writeError n) (EX mi_X7_writeError F) sg_X7_writeError_17 L st S cs sl := rfl
theorem wn_X7_writeError_19 : wpN l G mi_X7_writeError Γ F sgs_X7_writeError (n + 1) 19 L st S cs sl = wp G Γ (mR mi_X7_writeError) (wpN l G mi_X7_writeError Γ F sgs_X7_writeError n) (EX mi_X7_writeError F) sg_X7_writeError_19 L st S cs sl := rfl
theorem wn_X7_writeError_35 : wpN l G mi_X7_writeError Γ F sgs_X7_writeError (n + 1) 35 L st S cs sl = wp G Γ (mR mi_X7_writeError) (wpN l G mi_X7_writeError Γ F sgs_X7_writeError n) (EX mi_X7_writeError F) sg_X7_writeError_35 L st S cs sl := rfl
theorem wn_X7_writeError_88 : wpN l G mi_X7_writeError Γ F sgs_X7_writeError (n + 1) 88 L st S cs sl = wp G Γ (mR mi_X7_writeError) (wpN l G mi_X7_writeError Γ F sgs_X7_writeError n) (EX mi_X7_writeError F) sg_X7_writeError_88 L st S cs sl := rfl
theorem wn_X7_writeError_118 : wpN l G mi_X7_writeError Γ F sgs_X7_writeError (n + 1) 118 L st S cs sl = wp G Γ (mR mi_X7_writeError) (wpN l G mi_X7_writeError Γ F sgs_X7_writeError n) (EX mi_X7_writeError F) sg_X7_writeError_118 L st S cs sl := rfl
theorem wn_X7_writeError_119 : wpN l G mi_X7_writeError Γ F sgs_X7_writeError (n + 1) 119 L st S cs sl = wp G Γ (mR mi_X7_writeError) (wpN l G mi_X7_writeError Γ F sgs_X7_writeError n) (EX mi_X7_writeError F) sg_X7_writeError_119 L st S cs sl := rfl
theorem wn_X7_writeError_130 : wpN l G mi_X7_writeError Γ F sgs_X7_writeError (n + 1) 130 L st S cs sl = wp G Γ (mR mi_X7_writeError) (wpN l G mi_X7_writeError Γ F sgs_X7_writeError n) (EX mi_X7_writeError F) sg_X7_writeError_130 L st S cs sl := rfl
theorem wn_X7_writeError_132 : wpN l G mi_X7_writeError Γ F sgs_X7_writeError (n + 1) 132 L st S cs sl = wp G Γ (mR mi_X7_writeError) (wpN l G mi_X7_writeError Γ F sgs_X7_writeError n) (EX mi_X7_writeError F) sg_X7_writeError_132 L st S cs sl := rfl
theorem wn_X7_promiseError_0 : wpN l G mi_X7_promiseError Γ F sgs_X7_promiseError (n + 1) 0 L st S cs sl = wp G Γ (mR mi_X7_promiseError) (wpN l G mi_X7_promiseError Γ F sgs_X7_promiseError n) (EX mi_X7_promiseError F) sg_X7_promiseError_0 L st S cs sl := rfl
theorem wn_X7_promiseError_17 : wpN l G mi_X7_promiseError Γ F sgs_X7_promiseError (n + 1) 17 L st S cs sl = wp G Γ (mR mi_X7_promiseError) (wpN l G mi_X7_promiseError Γ F sgs_X7_promiseError n) (EX mi_X7_promiseError F) sg_X7_promiseError_17 L st S cs sl := rfl
theorem wn_X7_promiseError_19 : wpN l G mi_X7_promiseError Γ F sgs_X7_promiseError (n + 1) 19 L st S cs sl = wp G Γ (mR mi_X7_promiseError) (wpN l G mi_X7_promiseError Γ F sgs_X7_promiseError n) (EX mi_X7_promiseError F) sg_X7_promiseError_19 L st S cs sl := rfl
theorem wn_X7_promiseError_43 : wpN l G mi_X7_promiseError Γ F sgs_X7_promiseError (n + 1) 43 L st S cs sl = wp G Γ (mR mi_X7_promiseError) (wpN l G mi_X7_promiseError Γ F sgs_X7_promiseError n) (EX mi_X7_promiseError F) sg_X7_promiseError_43 L st S cs sl := rfl
theorem wn_X7_promiseError_45 : wpN l G mi_X7_promiseError Γ F sgs_X7_promiseError (n + 1) 45 L st S cs sl = wp G Γ (mR mi_X7_promiseError) (wpN l G mi_X7_promiseError Γ F sgs_X7_promiseError n) (EX mi_X7_promiseError F) sg_X7_promiseError_45 L st S cs sl := rfl
theorem wn_X7_rubError_0 : wpN l G mi_X7_rubError Γ F sgs_X7_rubError (n + 1) 0 L st S cs sl = wp G Γ (mR mi_X7_rubError) (wpN l G mi_X7_rubError Γ F sgs_X7_rubError n) (EX mi_X7_rubError F) sg_X7_rubError_0 L st S cs sl := rfl
theorem wn_X7_rubError_13 : wpN l G mi_X7_rubError Γ F sgs_X7_rubError (n + 1) 13 L st S cs sl = wp G Γ (mR mi_X7_rubError) (wpN l G mi_X7_rubError Γ F sgs_X7_rubError n) (EX mi_X7_rubError F) sg_X7_rubError_13 L st S cs sl := rfl
theorem wn_X7_rubError_38 : wpN l G mi_X7_rubError Γ F sgs_X7_rubError (n + 1) 38 L st S cs sl = wp G Γ (mR mi_X7_rubError) (wpN l G mi_X7_rubError Γ F sgs_X7_rubError n) (EX mi_X7_rubError F) sg_X7_rubError_38 L st S cs sl := rfl
theorem wn_X7_rubError_39 : wpN l G mi_X7_rubError Γ F sgs_X7_rubError (n + 1) 39 L st S cs sl = wp G Γ (mR mi_X7_rubError) (wpN l G mi_X7_rubError Γ F sgs_X7_rubError n) (EX mi_X7_rubError F) sg_X7_rubError_39 L st S cs sl := rfl
theorem wn_X7_passError_0 : wpN l G mi_X7_passError Γ F sgs_X7_passError (n + 1) 0 L st S cs sl = wp G Γ (mR mi_X7_passError) (wpN l G mi_X7_passError Γ F sgs_X7_passError n) (EX mi_X7_passError F) sg_X7_passError_0 L st S cs sl := rfl
theorem wn_X7_passError_17 : wpN l G mi_X7_passError Γ F sgs_X7_passError (n + 1) 17 L st S cs sl = wp G Γ (mR mi_X7_passError) (wpN l G mi_X7_passError Γ F sgs_X7_passError n) (EX mi_X7_passError F) sg_X7_passError_17 L st S cs sl := rfl
theorem wn_X7_passError_36 : wpN l G mi_X7_passError Γ F sgs_X7_passError (n + 1) 36 L st S cs sl = wp G Γ (mR mi_X7_passError) (wpN l G mi_X7_passError Γ F sgs_X7_passError n) (EX mi_X7_passError F) sg_X7_passError_36 L st S cs sl := rfl
theorem wn_X7_passError_37 : wpN l G mi_X7_passError Γ F sgs_X7_passError (n + 1) 37 L st S cs sl = wp G Γ (mR mi_X7_passError) (wpN l G mi_X7_passError Γ F sgs_X7_passError n) (EX mi_X7_passError F) sg_X7_passError_37 L st S cs sl := rfl
theorem wn_X7_comes_0 : wpN l G mi_X7_comes Γ F sgs_X7_comes (n + 1) 0 L st S cs sl = wp G Γ (mR mi_X7_comes) (wpN l G mi_X7_comes Γ F sgs_X7_comes n) (EX mi_X7_comes F) sg_X7_comes_0 L st S cs sl := rfl
theorem wn_X7_comes_9 : wpN l G mi_X7_comes Γ F sgs_X7_comes (n + 1) 9 L st S cs sl = V l G mi_X7_comes F 9 L st S cs sl := rfl
theorem wn_X7_comes_61 : wpN l G mi_X7_comes Γ F sgs_X7_comes (n + 1) 61 L st S cs sl = wp G Γ (mR mi_X7_comes) (wpN l G mi_X7_comes Γ F sgs_X7_comes n) (EX mi_X7_comes F) sg_X7_comes_61 L st S cs sl := rfl
theorem wn_X7_lays_0 : wpN l G mi_X7_lays Γ F sgs_X7_lays (n + 1) 0 L st S cs sl = wp G Γ (mR mi_X7_lays) (wpN l G mi_X7_lays Γ F sgs_X7_lays n) (EX mi_X7_lays F) sg_X7_lays_0 L st S cs sl := rfl
theorem wn_X7_joins_0 : wpN l G mi_X7_joins Γ F sgs_X7_joins (n + 1) 0 L st S cs sl = wp G Γ (mR mi_X7_joins) (wpN l G mi_X7_joins Γ F sgs_X7_joins n) (EX mi_X7_joins F) sg_X7_joins_0 L st S cs sl := rfl
theorem wn_X7_pens_0 : wpN l G mi_X7_pens Γ F sgs_X7_pens (n + 1) 0 L st S cs sl = wp G Γ (mR mi_X7_pens) (wpN l G mi_X7_pens Γ F sgs_X7_pens n) (EX mi_X7_pens F) sg_X7_pens_0 L st S cs sl := rfl
theorem wn_X7_promisedOn_0 : wpN l G mi_X7_promisedOn Γ F sgs_X7_promisedOn (n + 1) 0 L st S cs sl = wp G Γ (mR mi_X7_promisedOn) (wpN l G mi_X7_promisedOn Γ F sgs_X7_promisedOn n) (EX mi_X7_promisedOn F) sg_X7_promisedOn_0 L st S cs sl := rfl
theorem wn_X7_promisedOn_4 : wpN l G mi_X7_promisedOn Γ F sgs_X7_promisedOn (n + 1) 4 L st S cs sl = V l G mi_X7_promisedOn F 4 L st S cs sl := rfl
theorem wn_X7_promisedOn_27 : wpN l G mi_X7_promisedOn Γ F sgs_X7_promisedOn (n + 1) 27 L st S cs sl = wp G Γ (mR mi_X7_promisedOn) (wpN l G mi_X7_promisedOn Γ F sgs_X7_promisedOn n) (EX mi_X7_promisedOn F) sg_X7_promisedOn_27 L st S cs sl := rfl
theorem wn_X7_promisedOn_28 : wpN l G mi_X7_promisedOn Γ F sgs_X7_promisedOn (n + 1) 28 L st S cs sl = wp G Γ (mR mi_X7_promisedOn) (wpN l G mi_X7_promisedOn Γ F sgs_X7_promisedOn n) (EX mi_X7_promisedOn F) sg_X7_promisedOn_28 L st S cs sl := rfl
theorem wn_X7_promisedOn_36 : wpN l G mi_X7_promisedOn Γ F sgs_X7_promisedOn (n + 1) 36 L st S cs sl = wp G Γ (mR mi_X7_promisedOn) (wpN l G mi_X7_promisedOn Γ F sgs_X7_promisedOn n) (EX mi_X7_promisedOn F) sg_X7_promisedOn_36 L st S cs sl := rfl
theorem wn_X7_promises_0 : wpN l G mi_X7_promises Γ F sgs_X7_promises (n + 1) 0 L st S cs sl = wp G Γ (mR mi_X7_promises) (wpN l G mi_X7_promises Γ F sgs_X7_promises n) (EX mi_X7_promises F) sg_X7_promises_0 L st S cs sl := rfl
theorem wn_X7_rubs_0 : wpN l G mi_X7_rubs Γ F sgs_X7_rubs (n + 1) 0 L st S cs sl = wp G Γ (mR mi_X7_rubs) (wpN l G mi_X7_rubs Γ F sgs_X7_rubs n) (EX mi_X7_rubs F) sg_X7_rubs_0 L st S cs sl := rfl
theorem wn_X7_goesOn_0 : wpN l G mi_X7_goesOn Γ F sgs_X7_goesOn (n + 1) 0 L st S cs sl = wp G Γ (mR mi_X7_goesOn) (wpN l G mi_X7_goesOn Γ F sgs_X7_goesOn n) (EX mi_X7_goesOn F) sg_X7_goesOn_0 L st S cs sl := rfl
theorem wn_X7_goesOn_2 : wpN l G mi_X7_goesOn Γ F sgs_X7_goesOn (n + 1) 2 L st S cs sl = V l G mi_X7_goesOn F 2 L st S cs sl := rfl
theorem wn_X7_goesOn_9 : wpN l G mi_X7_goesOn Γ F sgs_X7_goesOn (n + 1) 9 L st S cs sl = V l G mi_X7_goesOn F 9 L st S cs sl := rfl
theorem wn_X7_goesOn_36 : wpN l G mi_X7_goesOn Γ F sgs_X7_goesOn (n + 1) 36 L st S cs sl = wp G Γ (mR mi_X7_goesOn) (wpN l G mi_X7_goesOn Γ F sgs_X7_goesOn n) (EX mi_X7_goesOn F) sg_X7_goesOn_36 L st S cs sl := rfl
theorem wn_X7_goesOn_42 : wpN l G mi_X7_goesOn Γ F sgs_X7_goesOn (n + 1) 42 L st S cs sl = wp G Γ (mR mi_X7_goesOn) (wpN l G mi_X7_goesOn Γ F sgs_X7_goesOn n) (EX mi_X7_goesOn F) sg_X7_goesOn_42 L st S cs sl := rfl
theorem wn_X7_goesOn_48 : wpN l G mi_X7_goesOn Γ F sgs_X7_goesOn (n + 1) 48 L st S cs sl = wp G Γ (mR mi_X7_goesOn) (wpN l G mi_X7_goesOn Γ F sgs_X7_goesOn n) (EX mi_X7_goesOn F) sg_X7_goesOn_48 L st S cs sl := rfl
theorem wn_X7_isValue_0 : wpN l G mi_X7_isValue Γ F sgs_X7_isValue (n + 1) 0 L st S cs sl = wp G Γ (mR mi_X7_isValue) (wpN l G mi_X7_isValue Γ F sgs_X7_isValue n) (EX mi_X7_isValue F) sg_X7_isValue_0 L st S cs sl := rfl
theorem wn_X7_isValue_32 : wpN l G mi_X7_isValue Γ F sgs_X7_isValue (n + 1) 32 L st S cs sl = wp G Γ (mR mi_X7_isValue) (wpN l G mi_X7_isValue Γ F sgs_X7_isValue n) (EX mi_X7_isValue F) sg_X7_isValue_32 L st S cs sl := rfl
theorem wn_X7_isValue_42 : wpN l G mi_X7_isValue Γ F sgs_X7_isValue (n + 1) 42 L st S cs sl = wp G Γ (mR mi_X7_isValue) (wpN l G mi_X7_isValue Γ F sgs_X7_isValue n) (EX mi_X7_isValue F) sg_X7_isValue_42 L st S cs sl := rfl
theorem wn_X7_isValue_52 : wpN l G mi_X7_isValue Γ F sgs_X7_isValue (n + 1) 52 L st S cs sl = wp G Γ (mR mi_X7_isValue) (wpN l G mi_X7_isValue Γ F sgs_X7_isValue n) (EX mi_X7_isValue F) sg_X7_isValue_52 L st S cs sl := rfl
theorem wn_X7_isValue_62 : wpN l G mi_X7_isValue Γ F sgs_X7_isValue (n + 1) 62 L st S cs sl = wp G Γ (mR mi_X7_isValue) (wpN l G mi_X7_isValue Γ F sgs_X7_isValue n) (EX mi_X7_isValue F) sg_X7_isValue_62 L st S cs sl := rfl
theorem wn_X7_isValue_72 : wpN l G mi_X7_isValue Γ F sgs_X7_isValue (n + 1) 72 L st S cs sl = wp G Γ (mR mi_X7_isValue) (wpN l G mi_X7_isValue Γ F sgs_X7_isValue n) (EX mi_X7_isValue F) sg_X7_isValue_72 L st S cs sl := rfl
theorem wn_X7_set_0 : wpN l G mi_X7_set Γ F sgs_X7_set (n + 1) 0 L st S cs sl = wp G Γ (mR mi_X7_set) (wpN l G mi_X7_set Γ F sgs_X7_set n) (EX mi_X7_set F) sg_X7_set_0 L st S cs sl := rfl
theorem wn_X7_set_11 : wpN l G mi_X7_set Γ F sgs_X7_set (n + 1) 11 L st S cs sl = wp G Γ (mR mi_X7_set) (wpN l G mi_X7_set Γ F sgs_X7_set n) (EX mi_X7_set F) sg_X7_set_11 L st S cs sl := rfl
theorem wn_X7_plate_0 : wpN l G mi_X7_plate Γ F sgs_X7_plate (n + 1) 0 L st S cs sl = wp G Γ (mR mi_X7_plate) (wpN l G mi_X7_plate Γ F sgs_X7_plate n) (EX mi_X7_plate F) sg_X7_plate_0 L st S cs sl := rfl
theorem wn_X7_plate_13 : wpN l G mi_X7_plate Γ F sgs_X7_plate (n + 1) 13 L st S cs sl = wp G Γ (mR mi_X7_plate) (wpN l G mi_X7_plate Γ F sgs_X7_plate n) (EX mi_X7_plate F) sg_X7_plate_13 L st S cs sl := rfl
theorem wn_X7_lay_0 : wpN l G mi_X7_lay Γ F sgs_X7_lay (n + 1) 0 L st S cs sl = wp G Γ (mR mi_X7_lay) (wpN l G mi_X7_lay Γ F sgs_X7_lay n) (EX mi_X7_lay F) sg_X7_lay_0 L st S cs sl := rfl
theorem wn_X7_lay_12 : wpN l G mi_X7_lay Γ F sgs_X7_lay (n + 1) 12 L st S cs sl = wp G Γ (mR mi_X7_lay) (wpN l G mi_X7_lay Γ F sgs_X7_lay n) (EX mi_X7_lay F) sg_X7_lay_12 L st S cs sl := rfl
theorem wn_X7_writer_0 : wpN l G mi_X7_writer Γ F sgs_X7_writer (n + 1) 0 L st S cs sl = wp G Γ (mR mi_X7_writer) (wpN l G mi_X7_writer Γ F sgs_X7_writer n) (EX mi_X7_writer F) sg_X7_writer_0 L st S cs sl := rfl
theorem wn_X7_writer_12 : wpN l G mi_X7_writer Γ F sgs_X7_writer (n + 1) 12 L st S cs sl = wp G Γ (mR mi_X7_writer) (wpN l G mi_X7_writer Γ F sgs_X7_writer n) (EX mi_X7_writer F) sg_X7_writer_12 L st S cs sl := rfl
theorem wn_X7_write_0 : wpN l G mi_X7_write Γ F sgs_X7_write (n + 1) 0 L st S cs sl = wp G Γ (mR mi_X7_write) (wpN l G mi_X7_write Γ F sgs_X7_write n) (EX mi_X7_write F) sg_X7_write_0 L st S cs sl := rfl
theorem wn_X7_write_19 : wpN l G mi_X7_write Γ F sgs_X7_write (n + 1) 19 L st S cs sl = wp G Γ (mR mi_X7_write) (wpN l G mi_X7_write Γ F sgs_X7_write n) (EX mi_X7_write F) sg_X7_write_19 L st S cs sl := rfl
theorem wn_X7_promise_0 : wpN l G mi_X7_promise Γ F sgs_X7_promise (n + 1) 0 L st S cs sl = wp G Γ (mR mi_X7_promise) (wpN l G mi_X7_promise Γ F sgs_X7_promise n) (EX mi_X7_promise F) sg_X7_promise_0 L st S cs sl := rfl
theorem wn_X7_promise_17 : wpN l G mi_X7_promise Γ F sgs_X7_promise (n + 1) 17 L st S cs sl = wp G Γ (mR mi_X7_promise) (wpN l G mi_X7_promise Γ F sgs_X7_promise n) (EX mi_X7_promise F) sg_X7_promise_17 L st S cs sl := rfl
theorem wn_X7_takeBack_0 : wpN l G mi_X7_takeBack Γ F sgs_X7_takeBack (n + 1) 0 L st S cs sl = wp G Γ (mR mi_X7_takeBack) (wpN l G mi_X7_takeBack Γ F sgs_X7_takeBack n) (EX mi_X7_takeBack F) sg_X7_takeBack_0 L st S cs sl := rfl
theorem wn_X7_takeBack_11 : wpN l G mi_X7_takeBack Γ F sgs_X7_takeBack (n + 1) 11 L st S cs sl = wp G Γ (mR mi_X7_takeBack) (wpN l G mi_X7_takeBack Γ F sgs_X7_takeBack n) (EX mi_X7_takeBack F) sg_X7_takeBack_11 L st S cs sl := rfl
theorem wn_X7_takeBack_38 : wpN l G mi_X7_takeBack Γ F sgs_X7_takeBack (n + 1) 38 L st S cs sl = wp G Γ (mR mi_X7_takeBack) (wpN l G mi_X7_takeBack Γ F sgs_X7_takeBack n) (EX mi_X7_takeBack F) sg_X7_takeBack_38 L st S cs sl := rfl
theorem wn_X7_rub_0 : wpN l G mi_X7_rub Γ F sgs_X7_rub (n + 1) 0 L st S cs sl = wp G Γ (mR mi_X7_rub) (wpN l G mi_X7_rub Γ F sgs_X7_rub n) (EX mi_X7_rub F) sg_X7_rub_0 L st S cs sl := rfl
theorem wn_X7_rub_13 : wpN l G mi_X7_rub Γ F sgs_X7_rub (n + 1) 13 L st S cs sl = wp G Γ (mR mi_X7_rub) (wpN l G mi_X7_rub Γ F sgs_X7_rub n) (EX mi_X7_rub F) sg_X7_rub_13 L st S cs sl := rfl
theorem wn_X7_pass_0 : wpN l G mi_X7_pass Γ F sgs_X7_pass (n + 1) 0 L st S cs sl = wp G Γ (mR mi_X7_pass) (wpN l G mi_X7_pass Γ F sgs_X7_pass n) (EX mi_X7_pass F) sg_X7_pass_0 L st S cs sl := rfl
theorem wn_X7_pass_12 : wpN l G mi_X7_pass Γ F sgs_X7_pass (n + 1) 12 L st S cs sl = wp G Γ (mR mi_X7_pass) (wpN l G mi_X7_pass Γ F sgs_X7_pass n) (EX mi_X7_pass F) sg_X7_pass_12 L st S cs sl := rfl
theorem wn_X7_flag_0 : wpN l G mi_X7_flag Γ F sgs_X7_flag (n + 1) 0 L st S cs sl = wp G Γ (mR mi_X7_flag) (wpN l G mi_X7_flag Γ F sgs_X7_flag n) (EX mi_X7_flag F) sg_X7_flag_0 L st S cs sl := rfl
theorem wn_X7_flag_8 : wpN l G mi_X7_flag Γ F sgs_X7_flag (n + 1) 8 L st S cs sl = wp G Γ (mR mi_X7_flag) (wpN l G mi_X7_flag Γ F sgs_X7_flag n) (EX mi_X7_flag F) sg_X7_flag_8 L st S cs sl := rfl
theorem wn_X7_flag_9 : wpN l G mi_X7_flag Γ F sgs_X7_flag (n + 1) 9 L st S cs sl = wp G Γ (mR mi_X7_flag) (wpN l G mi_X7_flag Γ F sgs_X7_flag n) (EX mi_X7_flag F) sg_X7_flag_9 L st S cs sl := rfl
theorem wn_X7_at_0 : wpN l G mi_X7_at Γ F sgs_X7_at (n + 1) 0 L st S cs sl = wp G Γ (mR mi_X7_at) (wpN l G mi_X7_at Γ F sgs_X7_at n) (EX mi_X7_at F) sg_X7_at_0 L st S cs sl := rfl
theorem wn_X7_at_11 : wpN l G mi_X7_at Γ F sgs_X7_at (n + 1) 11 L st S cs sl = wp G Γ (mR mi_X7_at) (wpN l G mi_X7_at Γ F sgs_X7_at n) (EX mi_X7_at F) sg_X7_at_11 L st S cs sl := rfl
theorem wn_X7_at_84 : wpN l G mi_X7_at Γ F sgs_X7_at (n + 1) 84 L st S cs sl = wp G Γ (mR mi_X7_at) (wpN l G mi_X7_at Γ F sgs_X7_at n) (EX mi_X7_at F) sg_X7_at_84 L st S cs sl := rfl
theorem wn_X7_at_96 : wpN l G mi_X7_at Γ F sgs_X7_at (n + 1) 96 L st S cs sl = wp G Γ (mR mi_X7_at) (wpN l G mi_X7_at Γ F sgs_X7_at n) (EX mi_X7_at F) sg_X7_at_96 L st S cs sl := rfl
theorem wn_X7_at_101 : wpN l G mi_X7_at Γ F sgs_X7_at (n + 1) 101 L st S cs sl = wp G Γ (mR mi_X7_at) (wpN l G mi_X7_at Γ F sgs_X7_at n) (EX mi_X7_at F) sg_X7_at_101 L st S cs sl := rfl
theorem wn_X7_at_102 : wpN l G mi_X7_at Γ F sgs_X7_at (n + 1) 102 L st S cs sl = wp G Γ (mR mi_X7_at) (wpN l G mi_X7_at Γ F sgs_X7_at n) (EX mi_X7_at F) sg_X7_at_102 L st S cs sl := rfl
theorem wn_X7_at_114 : wpN l G mi_X7_at Γ F sgs_X7_at (n + 1) 114 L st S cs sl = wp G Γ (mR mi_X7_at) (wpN l G mi_X7_at Γ F sgs_X7_at n) (EX mi_X7_at F) sg_X7_at_114 L st S cs sl := rfl
theorem wn_X7_at_119 : wpN l G mi_X7_at Γ F sgs_X7_at (n + 1) 119 L st S cs sl = wp G Γ (mR mi_X7_at) (wpN l G mi_X7_at Γ F sgs_X7_at n) (EX mi_X7_at F) sg_X7_at_119 L st S cs sl := rfl
theorem wn_X7_at_120 : wpN l G mi_X7_at Γ F sgs_X7_at (n + 1) 120 L st S cs sl = wp G Γ (mR mi_X7_at) (wpN l G mi_X7_at Γ F sgs_X7_at n) (EX mi_X7_at F) sg_X7_at_120 L st S cs sl := rfl
theorem wn_X7_at_130 : wpN l G mi_X7_at Γ F sgs_X7_at (n + 1) 130 L st S cs sl = wp G Γ (mR mi_X7_at) (wpN l G mi_X7_at Γ F sgs_X7_at n) (EX mi_X7_at F) sg_X7_at_130 L st S cs sl := rfl
theorem wn_X7_at_147 : wpN l G mi_X7_at Γ F sgs_X7_at (n + 1) 147 L st S cs sl = wp G Γ (mR mi_X7_at) (wpN l G mi_X7_at Γ F sgs_X7_at n) (EX mi_X7_at F) sg_X7_at_147 L st S cs sl := rfl
theorem wn_X7_at_160 : wpN l G mi_X7_at Γ F sgs_X7_at (n + 1) 160 L st S cs sl = wp G Γ (mR mi_X7_at) (wpN l G mi_X7_at Γ F sgs_X7_at n) (EX mi_X7_at F) sg_X7_at_160 L st S cs sl := rfl
theorem wn_X7_at_173 : wpN l G mi_X7_at Γ F sgs_X7_at (n + 1) 173 L st S cs sl = wp G Γ (mR mi_X7_at) (wpN l G mi_X7_at Γ F sgs_X7_at n) (EX mi_X7_at F) sg_X7_at_173 L st S cs sl := rfl
theorem wn_X7_at_186 : wpN l G mi_X7_at Γ F sgs_X7_at (n + 1) 186 L st S cs sl = wp G Γ (mR mi_X7_at) (wpN l G mi_X7_at Γ F sgs_X7_at n) (EX mi_X7_at F) sg_X7_at_186 L st S cs sl := rfl
theorem wn_X7_isSo_0 : wpN l G mi_X7_isSo Γ F sgs_X7_isSo (n + 1) 0 L st S cs sl = wp G Γ (mR mi_X7_isSo) (wpN l G mi_X7_isSo Γ F sgs_X7_isSo n) (EX mi_X7_isSo F) sg_X7_isSo_0 L st S cs sl := rfl
theorem wn_X7_isSo_14 : wpN l G mi_X7_isSo Γ F sgs_X7_isSo (n + 1) 14 L st S cs sl = wp G Γ (mR mi_X7_isSo) (wpN l G mi_X7_isSo Γ F sgs_X7_isSo n) (EX mi_X7_isSo F) sg_X7_isSo_14 L st S cs sl := rfl
theorem wn_X7_isSo_29 : wpN l G mi_X7_isSo Γ F sgs_X7_isSo (n + 1) 29 L st S cs sl = wp G Γ (mR mi_X7_isSo) (wpN l G mi_X7_isSo Γ F sgs_X7_isSo n) (EX mi_X7_isSo F) sg_X7_isSo_29 L st S cs sl := rfl
theorem wn_X7_isSo_50 : wpN l G mi_X7_isSo Γ F sgs_X7_isSo (n + 1) 50 L st S cs sl = wp G Γ (mR mi_X7_isSo) (wpN l G mi_X7_isSo Γ F sgs_X7_isSo n) (EX mi_X7_isSo F) sg_X7_isSo_50 L st S cs sl := rfl
theorem wn_X7_isSo_54 : wpN l G mi_X7_isSo Γ F sgs_X7_isSo (n + 1) 54 L st S cs sl = wp G Γ (mR mi_X7_isSo) (wpN l G mi_X7_isSo Γ F sgs_X7_isSo n) (EX mi_X7_isSo F) sg_X7_isSo_54 L st S cs sl := rfl
theorem wn_X7_isSo_61 : wpN l G mi_X7_isSo Γ F sgs_X7_isSo (n + 1) 61 L st S cs sl = wp G Γ (mR mi_X7_isSo) (wpN l G mi_X7_isSo Γ F sgs_X7_isSo n) (EX mi_X7_isSo F) sg_X7_isSo_61 L st S cs sl := rfl
theorem wn_X7_longestWord_0 : wpN l G mi_X7_longestWord Γ F sgs_X7_longestWord (n + 1) 0 L st S cs sl = wp G Γ (mR mi_X7_longestWord) (wpN l G mi_X7_longestWord Γ F sgs_X7_longestWord n) (EX mi_X7_longestWord F) sg_X7_longestWord_0 L st S cs sl := rfl
theorem wn_X7_longestWord_8 : wpN l G mi_X7_longestWord Γ F sgs_X7_longestWord (n + 1) 8 L st S cs sl = V l G mi_X7_longestWord F 8 L st S cs sl := rfl
theorem wn_X7_longestWord_37 : wpN l G mi_X7_longestWord Γ F sgs_X7_longestWord (n + 1) 37 L st S cs sl = wp G Γ (mR mi_X7_longestWord) (wpN l G mi_X7_longestWord Γ F sgs_X7_longestWord n) (EX mi_X7_longestWord F) sg_X7_longestWord_37 L st S cs sl := rfl
theorem wn_X7_longestWord_38 : wpN l G mi_X7_longestWord Γ F sgs_X7_longestWord (n + 1) 38 L st S cs sl = wp G Γ (mR mi_X7_longestWord) (wpN l G mi_X7_longestWord Γ F sgs_X7_longestWord n) (EX mi_X7_longestWord F) sg_X7_longestWord_38 L st S cs sl := rfl
theorem wn_X7_longestWord_51 : wpN l G mi_X7_longestWord Γ F sgs_X7_longestWord (n + 1) 51 L st S cs sl = wp G Γ (mR mi_X7_longestWord) (wpN l G mi_X7_longestWord Γ F sgs_X7_longestWord n) (EX mi_X7_longestWord F) sg_X7_longestWord_51 L st S cs sl := rfl
theorem wn_X7_longestWord_52 : wpN l G mi_X7_longestWord Γ F sgs_X7_longestWord (n + 1) 52 L st S cs sl = wp G Γ (mR mi_X7_longestWord) (wpN l G mi_X7_longestWord Γ F sgs_X7_longestWord n) (EX mi_X7_longestWord F) sg_X7_longestWord_52 L st S cs sl := rfl
theorem wn_X7_longestWord_59 : wpN l G mi_X7_longestWord Γ F sgs_X7_longestWord (n + 1) 59 L st S cs sl = wp G Γ (mR mi_X7_longestWord) (wpN l G mi_X7_longestWord Γ F sgs_X7_longestWord n) (EX mi_X7_longestWord F) sg_X7_longestWord_59 L st S cs sl := rfl
theorem wn_X7_row_0 : wpN l G mi_X7_row Γ F sgs_X7_row (n + 1) 0 L st S cs sl = wp G Γ (mR mi_X7_row) (wpN l G mi_X7_row Γ F sgs_X7_row n) (EX mi_X7_row F) sg_X7_row_0 L st S cs sl := rfl
theorem wn_X7_row_19 : wpN l G mi_X7_row Γ F sgs_X7_row (n + 1) 19 L st S cs sl = wp G Γ (mR mi_X7_row) (wpN l G mi_X7_row Γ F sgs_X7_row n) (EX mi_X7_row F) sg_X7_row_19 L st S cs sl := rfl
theorem wn_X7_row_21 : wpN l G mi_X7_row Γ F sgs_X7_row (n + 1) 21 L st S cs sl = wp G Γ (mR mi_X7_row) (wpN l G mi_X7_row Γ F sgs_X7_row n) (EX mi_X7_row F) sg_X7_row_21 L st S cs sl := rfl
theorem wn_X7_row_36 : wpN l G mi_X7_row Γ F sgs_X7_row (n + 1) 36 L st S cs sl = wp G Γ (mR mi_X7_row) (wpN l G mi_X7_row Γ F sgs_X7_row n) (EX mi_X7_row F) sg_X7_row_36 L st S cs sl := rfl
theorem wn_X7_row_54 : wpN l G mi_X7_row Γ F sgs_X7_row (n + 1) 54 L st S cs sl = wp G Γ (mR mi_X7_row) (wpN l G mi_X7_row Γ F sgs_X7_row n) (EX mi_X7_row F) sg_X7_row_54 L st S cs sl := rfl
theorem wn_X7_row_59 : wpN l G mi_X7_row Γ F sgs_X7_row (n + 1) 59 L st S cs sl = V l G mi_X7_row F 59 L st S cs sl := rfl
theorem wn_X7_row_99 : wpN l G mi_X7_row Γ F sgs_X7_row (n + 1) 99 L st S cs sl = wp G Γ (mR mi_X7_row) (wpN l G mi_X7_row Γ F sgs_X7_row n) (EX mi_X7_row F) sg_X7_row_99 L st S cs sl := rfl
theorem wn_X7_counted_0 : wpN l G mi_X7_counted Γ F sgs_X7_counted (n + 1) 0 L st S cs sl = wp G Γ (mR mi_X7_counted) (wpN l G mi_X7_counted Γ F sgs_X7_counted n) (EX mi_X7_counted F) sg_X7_counted_0 L st S cs sl := rfl
theorem wn_X7_counted_5 : wpN l G mi_X7_counted Γ F sgs_X7_counted (n + 1) 5 L st S cs sl = V l G mi_X7_counted F 5 L st S cs sl := rfl
theorem wn_X7_counted_19 : wpN l G mi_X7_counted Γ F sgs_X7_counted (n + 1) 19 L st S cs sl = V l G mi_X7_counted F 19 L st S cs sl := rfl
theorem wn_X7_counted_62 : wpN l G mi_X7_counted Γ F sgs_X7_counted (n + 1) 62 L st S cs sl = wp G Γ (mR mi_X7_counted) (wpN l G mi_X7_counted Γ F sgs_X7_counted n) (EX mi_X7_counted F) sg_X7_counted_62 L st S cs sl := rfl
theorem wn_X7_counted_63 : wpN l G mi_X7_counted Γ F sgs_X7_counted (n + 1) 63 L st S cs sl = wp G Γ (mR mi_X7_counted) (wpN l G mi_X7_counted Γ F sgs_X7_counted n) (EX mi_X7_counted F) sg_X7_counted_63 L st S cs sl := rfl
theorem wn_X7_counted_76 : wpN l G mi_X7_counted Γ F sgs_X7_counted (n + 1) 76 L st S cs sl = wp G Γ (mR mi_X7_counted) (wpN l G mi_X7_counted Γ F sgs_X7_counted n) (EX mi_X7_counted F) sg_X7_counted_76 L st S cs sl := rfl
theorem wn_X7_counted_102 : wpN l G mi_X7_counted Γ F sgs_X7_counted (n + 1) 102 L st S cs sl = wp G Γ (mR mi_X7_counted) (wpN l G mi_X7_counted Γ F sgs_X7_counted n) (EX mi_X7_counted F) sg_X7_counted_102 L st S cs sl := rfl
theorem wn_X7_counted_106 : wpN l G mi_X7_counted Γ F sgs_X7_counted (n + 1) 106 L st S cs sl = wp G Γ (mR mi_X7_counted) (wpN l G mi_X7_counted Γ F sgs_X7_counted n) (EX mi_X7_counted F) sg_X7_counted_106 L st S cs sl := rfl
theorem wn_X7_counted_123 : wpN l G mi_X7_counted Γ F sgs_X7_counted (n + 1) 123 L st S cs sl = wp G Γ (mR mi_X7_counted) (wpN l G mi_X7_counted Γ F sgs_X7_counted n) (EX mi_X7_counted F) sg_X7_counted_123 L st S cs sl := rfl
theorem wn_X7_counted_124 : wpN l G mi_X7_counted Γ F sgs_X7_counted (n + 1) 124 L st S cs sl = wp G Γ (mR mi_X7_counted) (wpN l G mi_X7_counted Γ F sgs_X7_counted n) (EX mi_X7_counted F) sg_X7_counted_124 L st S cs sl := rfl
theorem wn_X7_counted_135 : wpN l G mi_X7_counted Γ F sgs_X7_counted (n + 1) 135 L st S cs sl = wp G Γ (mR mi_X7_counted) (wpN l G mi_X7_counted Γ F sgs_X7_counted n) (EX mi_X7_counted F) sg_X7_counted_135 L st S cs sl := rfl
theorem wn_X7_counted_141 : wpN l G mi_X7_counted Γ F sgs_X7_counted (n + 1) 141 L st S cs sl = wp G Γ (mR mi_X7_counted) (wpN l G mi_X7_counted Γ F sgs_X7_counted n) (EX mi_X7_counted F) sg_X7_counted_141 L st S cs sl := rfl
theorem wn_X7_of_0 : wpN l G mi_X7_of Γ F sgs_X7_of (n + 1) 0 L st S cs sl = wp G Γ (mR mi_X7_of) (wpN l G mi_X7_of Γ F sgs_X7_of n) (EX mi_X7_of F) sg_X7_of_0 L st S cs sl := rfl
theorem wn_X7_of_10 : wpN l G mi_X7_of Γ F sgs_X7_of (n + 1) 10 L st S cs sl = wp G Γ (mR mi_X7_of) (wpN l G mi_X7_of Γ F sgs_X7_of n) (EX mi_X7_of F) sg_X7_of_10 L st S cs sl := rfl
theorem wn_X7_of_48 : wpN l G mi_X7_of Γ F sgs_X7_of (n + 1) 48 L st S cs sl = wp G Γ (mR mi_X7_of) (wpN l G mi_X7_of Γ F sgs_X7_of n) (EX mi_X7_of F) sg_X7_of_48 L st S cs sl := rfl
theorem wn_X7_of_58 : wpN l G mi_X7_of Γ F sgs_X7_of (n + 1) 58 L st S cs sl = wp G Γ (mR mi_X7_of) (wpN l G mi_X7_of Γ F sgs_X7_of n) (EX mi_X7_of F) sg_X7_of_58 L st S cs sl := rfl
theorem wn_X7_of_65 : wpN l G mi_X7_of Γ F sgs_X7_of (n + 1) 65 L st S cs sl = wp G Γ (mR mi_X7_of) (wpN l G mi_X7_of Γ F sgs_X7_of n) (EX mi_X7_of F) sg_X7_of_65 L st S cs sl := rfl
theorem wn_X7_of_75 : wpN l G mi_X7_of Γ F sgs_X7_of (n + 1) 75 L st S cs sl = wp G Γ (mR mi_X7_of) (wpN l G mi_X7_of Γ F sgs_X7_of n) (EX mi_X7_of F) sg_X7_of_75 L st S cs sl := rfl
theorem wn_X7_of_85 : wpN l G mi_X7_of Γ F sgs_X7_of (n + 1) 85 L st S cs sl = wp G Γ (mR mi_X7_of) (wpN l G mi_X7_of Γ F sgs_X7_of n) (EX mi_X7_of F) sg_X7_of_85 L st S cs sl := rfl
theorem wn_X7_leastLight_0 : wpN l G mi_X7_leastLight Γ F sgs_X7_leastLight (n + 1) 0 L st S cs sl = wp G Γ (mR mi_X7_leastLight) (wpN l G mi_X7_leastLight Γ F sgs_X7_leastLight n) (EX mi_X7_leastLight F) sg_X7_leastLight_0 L st S cs sl := rfl
theorem wn_X7_leastLight_14 : wpN l G mi_X7_leastLight Γ F sgs_X7_leastLight (n + 1) 14 L st S cs sl = V l G mi_X7_leastLight F 14 L st S cs sl := rfl
theorem wn_X7_leastLight_45 : wpN l G mi_X7_leastLight Γ F sgs_X7_leastLight (n + 1) 45 L st S cs sl = wp G Γ (mR mi_X7_leastLight) (wpN l G mi_X7_leastLight Γ F sgs_X7_leastLight n) (EX mi_X7_leastLight F) sg_X7_leastLight_45 L st S cs sl := rfl
theorem wn_X7_leastLight_46 : wpN l G mi_X7_leastLight Γ F sgs_X7_leastLight (n + 1) 46 L st S cs sl = wp G Γ (mR mi_X7_leastLight) (wpN l G mi_X7_leastLight Γ F sgs_X7_leastLight n) (EX mi_X7_leastLight F) sg_X7_leastLight_46 L st S cs sl := rfl
theorem wn_X7_leastLight_53 : wpN l G mi_X7_leastLight Γ F sgs_X7_leastLight (n + 1) 53 L st S cs sl = wp G Γ (mR mi_X7_leastLight) (wpN l G mi_X7_leastLight Γ F sgs_X7_leastLight n) (EX mi_X7_leastLight F) sg_X7_leastLight_53 L st S cs sl := rfl
theorem wn_X7_allLight_0 : wpN l G mi_X7_allLight Γ F sgs_X7_allLight (n + 1) 0 L st S cs sl = wp G Γ (mR mi_X7_allLight) (wpN l G mi_X7_allLight Γ F sgs_X7_allLight n) (EX mi_X7_allLight F) sg_X7_allLight_0 L st S cs sl := rfl
theorem wn_X7_allLight_4 : wpN l G mi_X7_allLight Γ F sgs_X7_allLight (n + 1) 4 L st S cs sl = V l G mi_X7_allLight F 4 L st S cs sl := rfl
theorem wn_X7_allLight_30 : wpN l G mi_X7_allLight Γ F sgs_X7_allLight (n + 1) 30 L st S cs sl = wp G Γ (mR mi_X7_allLight) (wpN l G mi_X7_allLight Γ F sgs_X7_allLight n) (EX mi_X7_allLight F) sg_X7_allLight_30 L st S cs sl := rfl
theorem wn_X7_ofPlate_0 : wpN l G mi_X7_ofPlate Γ F sgs_X7_ofPlate (n + 1) 0 L st S cs sl = wp G Γ (mR mi_X7_ofPlate) (wpN l G mi_X7_ofPlate Γ F sgs_X7_ofPlate n) (EX mi_X7_ofPlate F) sg_X7_ofPlate_0 L st S cs sl := rfl
theorem wn_X7_ofPlate_10 : wpN l G mi_X7_ofPlate Γ F sgs_X7_ofPlate (n + 1) 10 L st S cs sl = wp G Γ (mR mi_X7_ofPlate) (wpN l G mi_X7_ofPlate Γ F sgs_X7_ofPlate n) (EX mi_X7_ofPlate F) sg_X7_ofPlate_10 L st S cs sl := rfl
theorem wn_X7_ofPlate_25 : wpN l G mi_X7_ofPlate Γ F sgs_X7_ofPlate (n + 1) 25 L st S cs sl = wp G Γ (mR mi_X7_ofPlate) (wpN l G mi_X7_ofPlate Γ F sgs_X7_ofPlate n) (EX mi_X7_ofPlate F) sg_X7_ofPlate_25 L st S cs sl := rfl
theorem wn_X7_ofPlate_43 : wpN l G mi_X7_ofPlate Γ F sgs_X7_ofPlate (n + 1) 43 L st S cs sl = wp G Γ (mR mi_X7_ofPlate) (wpN l G mi_X7_ofPlate Γ F sgs_X7_ofPlate n) (EX mi_X7_ofPlate F) sg_X7_ofPlate_43 L st S cs sl := rfl
theorem wn_X7_ofPlate_48 : wpN l G mi_X7_ofPlate Γ F sgs_X7_ofPlate (n + 1) 48 L st S cs sl = wp G Γ (mR mi_X7_ofPlate) (wpN l G mi_X7_ofPlate Γ F sgs_X7_ofPlate n) (EX mi_X7_ofPlate F) sg_X7_ofPlate_48 L st S cs sl := rfl
theorem wn_X7_ofPlate_52 : wpN l G mi_X7_ofPlate Γ F sgs_X7_ofPlate (n + 1) 52 L st S cs sl = wp G Γ (mR mi_X7_ofPlate) (wpN l G mi_X7_ofPlate Γ F sgs_X7_ofPlate n) (EX mi_X7_ofPlate F) sg_X7_ofPlate_52 L st S cs sl := rfl
theorem wn_X7_ofPlate_57 : wpN l G mi_X7_ofPlate Γ F sgs_X7_ofPlate (n + 1) 57 L st S cs sl = V l G mi_X7_ofPlate F 57 L st S cs sl := rfl
theorem wn_X7_ofPlate_84 : wpN l G mi_X7_ofPlate Γ F sgs_X7_ofPlate (n + 1) 84 L st S cs sl = wp G Γ (mR mi_X7_ofPlate) (wpN l G mi_X7_ofPlate Γ F sgs_X7_ofPlate n) (EX mi_X7_ofPlate F) sg_X7_ofPlate_84 L st S cs sl := rfl
theorem wn_X7_count_0 : wpN l G mi_X7_count Γ F sgs_X7_count (n + 1) 0 L st S cs sl = wp G Γ (mR mi_X7_count) (wpN l G mi_X7_count Γ F sgs_X7_count n) (EX mi_X7_count F) sg_X7_count_0 L st S cs sl := rfl
theorem wn_X7_count_56 : wpN l G mi_X7_count Γ F sgs_X7_count (n + 1) 56 L st S cs sl = wp G Γ (mR mi_X7_count) (wpN l G mi_X7_count Γ F sgs_X7_count n) (EX mi_X7_count F) sg_X7_count_56 L st S cs sl := rfl
theorem wn_X7_count_63 : wpN l G mi_X7_count Γ F sgs_X7_count (n + 1) 63 L st S cs sl = wp G Γ (mR mi_X7_count) (wpN l G mi_X7_count Γ F sgs_X7_count n) (EX mi_X7_count F) sg_X7_count_63 L st S cs sl := rfl
theorem wn_X7_count_70 : wpN l G mi_X7_count Γ F sgs_X7_count (n + 1) 70 L st S cs sl = wp G Γ (mR mi_X7_count) (wpN l G mi_X7_count Γ F sgs_X7_count n) (EX mi_X7_count F) sg_X7_count_70 L st S cs sl := rfl
theorem wn_X7_count_78 : wpN l G mi_X7_count Γ F sgs_X7_count (n + 1) 78 L st S cs sl = wp G Γ (mR mi_X7_count) (wpN l G mi_X7_count Γ F sgs_X7_count n) (EX mi_X7_count F) sg_X7_count_78 L st S cs sl := rfl
theorem wn_X7_count_86 : wpN l G mi_X7_count Γ F sgs_X7_count (n + 1) 86 L st S cs sl = wp G Γ (mR mi_X7_count) (wpN l G mi_X7_count Γ F sgs_X7_count n) (EX mi_X7_count F) sg_X7_count_86 L st S cs sl := rfl
theorem wn_X7_count_95 : wpN l G mi_X7_count Γ F sgs_X7_count (n + 1) 95 L st S cs sl = wp G Γ (mR mi_X7_count) (wpN l G mi_X7_count Γ F sgs_X7_count n) (EX mi_X7_count F) sg_X7_count_95 L st S cs sl := rfl
theorem wn_X7_count_100 : wpN l G mi_X7_count Γ F sgs_X7_count (n + 1) 100 L st S cs sl = wp G Γ (mR mi_X7_count) (wpN l G mi_X7_count Γ F sgs_X7_count n) (EX mi_X7_count F) sg_X7_count_100 L st S cs sl := rfl
theorem wn_X7_count_105 : wpN l G mi_X7_count Γ F sgs_X7_count (n + 1) 105 L st S cs sl = wp G Γ (mR mi_X7_count) (wpN l G mi_X7_count Γ F sgs_X7_count n) (EX mi_X7_count F) sg_X7_count_105 L st S cs sl := rfl
theorem wn_X7_mean_0 : wpN l G mi_X7_mean Γ F sgs_X7_mean (n + 1) 0 L st S cs sl = wp G Γ (mR mi_X7_mean) (wpN l G mi_X7_mean Γ F sgs_X7_mean n) (EX mi_X7_mean F) sg_X7_mean_0 L st S cs sl := rfl
theorem wn_X7_mean_4 : wpN l G mi_X7_mean Γ F sgs_X7_mean (n + 1) 4 L st S cs sl = V l G mi_X7_mean F 4 L st S cs sl := rfl
theorem wn_X7_mean_49 : wpN l G mi_X7_mean Γ F sgs_X7_mean (n + 1) 49 L st S cs sl = wp G Γ (mR mi_X7_mean) (wpN l G mi_X7_mean Γ F sgs_X7_mean n) (EX mi_X7_mean F) sg_X7_mean_49 L st S cs sl := rfl
theorem wn_X7_tooDark_0 : wpN l G mi_X7_tooDark Γ F sgs_X7_tooDark (n + 1) 0 L st S cs sl = wp G Γ (mR mi_X7_tooDark) (wpN l G mi_X7_tooDark Γ F sgs_X7_tooDark n) (EX mi_X7_tooDark F) sg_X7_tooDark_0 L st S cs sl := rfl
theorem wn_X7_tooDark_5 : wpN l G mi_X7_tooDark Γ F sgs_X7_tooDark (n + 1) 5 L st S cs sl = V l G mi_X7_tooDark F 5 L st S cs sl := rfl
theorem wn_X7_tooDark_35 : wpN l G mi_X7_tooDark Γ F sgs_X7_tooDark (n + 1) 35 L st S cs sl = wp G Γ (mR mi_X7_tooDark) (wpN l G mi_X7_tooDark Γ F sgs_X7_tooDark n) (EX mi_X7_tooDark F) sg_X7_tooDark_35 L st S cs sl := rfl
theorem wn_X7_tooDark_36 : wpN l G mi_X7_tooDark Γ F sgs_X7_tooDark (n + 1) 36 L st S cs sl = wp G Γ (mR mi_X7_tooDark) (wpN l G mi_X7_tooDark Γ F sgs_X7_tooDark n) (EX mi_X7_tooDark F) sg_X7_tooDark_36 L st S cs sl := rfl
theorem wn_X7_tooDark_89 : wpN l G mi_X7_tooDark Γ F sgs_X7_tooDark (n + 1) 89 L st S cs sl = wp G Γ (mR mi_X7_tooDark) (wpN l G mi_X7_tooDark Γ F sgs_X7_tooDark n) (EX mi_X7_tooDark F) sg_X7_tooDark_89 L st S cs sl := rfl
theorem wn_X7_tooDark_90 : wpN l G mi_X7_tooDark Γ F sgs_X7_tooDark (n + 1) 90 L st S cs sl = wp G Γ (mR mi_X7_tooDark) (wpN l G mi_X7_tooDark Γ F sgs_X7_tooDark n) (EX mi_X7_tooDark F) sg_X7_tooDark_90 L st S cs sl := rfl
theorem wn_X7_tooDark_101 : wpN l G mi_X7_tooDark Γ F sgs_X7_tooDark (n + 1) 101 L st S cs sl = wp G Γ (mR mi_X7_tooDark) (wpN l G mi_X7_tooDark Γ F sgs_X7_tooDark n) (EX mi_X7_tooDark F) sg_X7_tooDark_101 L st S cs sl := rfl
theorem wn_X7_ifWritten_0 : wpN l G mi_X7_ifWritten Γ F sgs_X7_ifWritten (n + 1) 0 L st S cs sl = wp G Γ (mR mi_X7_ifWritten) (wpN l G mi_X7_ifWritten Γ F sgs_X7_ifWritten n) (EX mi_X7_ifWritten F) sg_X7_ifWritten_0 L st S cs sl := rfl
theorem wn_X7_ifWritten_17 : wpN l G mi_X7_ifWritten Γ F sgs_X7_ifWritten (n + 1) 17 L st S cs sl = wp G Γ (mR mi_X7_ifWritten) (wpN l G mi_X7_ifWritten Γ F sgs_X7_ifWritten n) (EX mi_X7_ifWritten F) sg_X7_ifWritten_17 L st S cs sl := rfl
theorem wn_X7_ifWritten_19 : wpN l G mi_X7_ifWritten Γ F sgs_X7_ifWritten (n + 1) 19 L st S cs sl = wp G Γ (mR mi_X7_ifWritten) (wpN l G mi_X7_ifWritten Γ F sgs_X7_ifWritten n) (EX mi_X7_ifWritten F) sg_X7_ifWritten_19 L st S cs sl := rfl
theorem wn_X7_ifWritten_35 : wpN l G mi_X7_ifWritten Γ F sgs_X7_ifWritten (n + 1) 35 L st S cs sl = wp G Γ (mR mi_X7_ifWritten) (wpN l G mi_X7_ifWritten Γ F sgs_X7_ifWritten n) (EX mi_X7_ifWritten F) sg_X7_ifWritten_35 L st S cs sl := rfl
theorem wn_X7_ifWritten_94 : wpN l G mi_X7_ifWritten Γ F sgs_X7_ifWritten (n + 1) 94 L st S cs sl = wp G Γ (mR mi_X7_ifWritten) (wpN l G mi_X7_ifWritten Γ F sgs_X7_ifWritten n) (EX mi_X7_ifWritten F) sg_X7_ifWritten_94 L st S cs sl := rfl
theorem wn_X7_ifWritten_111 : wpN l G mi_X7_ifWritten Γ F sgs_X7_ifWritten (n + 1) 111 L st S cs sl = wp G Γ (mR mi_X7_ifWritten) (wpN l G mi_X7_ifWritten Γ F sgs_X7_ifWritten n) (EX mi_X7_ifWritten F) sg_X7_ifWritten_111 L st S cs sl := rfl
theorem wn_X7_ifWritten_119 : wpN l G mi_X7_ifWritten Γ F sgs_X7_ifWritten (n + 1) 119 L st S cs sl = wp G Γ (mR mi_X7_ifWritten) (wpN l G mi_X7_ifWritten Γ F sgs_X7_ifWritten n) (EX mi_X7_ifWritten F) sg_X7_ifWritten_119 L st S cs sl := rfl
theorem wn_X7_bestPlace_0 : wpN l G mi_X7_bestPlace Γ F sgs_X7_bestPlace (n + 1) 0 L st S cs sl = wp G Γ (mR mi_X7_bestPlace) (wpN l G mi_X7_bestPlace Γ F sgs_X7_bestPlace n) (EX mi_X7_bestPlace F) sg_X7_bestPlace_0 L st S cs sl := rfl
theorem wn_X7_bestPlace_16 : wpN l G mi_X7_bestPlace Γ F sgs_X7_bestPlace (n + 1) 16 L st S cs sl = wp G Γ (mR mi_X7_bestPlace) (wpN l G mi_X7_bestPlace Γ F sgs_X7_bestPlace n) (EX mi_X7_bestPlace F) sg_X7_bestPlace_16 L st S cs sl := rfl
theorem wn_X7_bestPlace_28 : wpN l G mi_X7_bestPlace Γ F sgs_X7_bestPlace (n + 1) 28 L st S cs sl = wp G Γ (mR mi_X7_bestPlace) (wpN l G mi_X7_bestPlace Γ F sgs_X7_bestPlace n) (EX mi_X7_bestPlace F) sg_X7_bestPlace_28 L st S cs sl := rfl
theorem wn_X7_fills_0 : wpN l G mi_X7_fills Γ F sgs_X7_fills (n + 1) 0 L st S cs sl = wp G Γ (mR mi_X7_fills) (wpN l G mi_X7_fills Γ F sgs_X7_fills n) (EX mi_X7_fills F) sg_X7_fills_0 L st S cs sl := rfl
theorem wn_X7_fills_20 : wpN l G mi_X7_fills Γ F sgs_X7_fills (n + 1) 20 L st S cs sl = wp G Γ (mR mi_X7_fills) (wpN l G mi_X7_fills Γ F sgs_X7_fills n) (EX mi_X7_fills F) sg_X7_fills_20 L st S cs sl := rfl
theorem wn_X7_fills_22 : wpN l G mi_X7_fills Γ F sgs_X7_fills (n + 1) 22 L st S cs sl = wp G Γ (mR mi_X7_fills) (wpN l G mi_X7_fills Γ F sgs_X7_fills n) (EX mi_X7_fills F) sg_X7_fills_22 L st S cs sl := rfl
theorem wn_X7_fills_45 : wpN l G mi_X7_fills Γ F sgs_X7_fills (n + 1) 45 L st S cs sl = V l G mi_X7_fills F 45 L st S cs sl := rfl
theorem wn_X7_fills_87 : wpN l G mi_X7_fills Γ F sgs_X7_fills (n + 1) 87 L st S cs sl = wp G Γ (mR mi_X7_fills) (wpN l G mi_X7_fills Γ F sgs_X7_fills n) (EX mi_X7_fills F) sg_X7_fills_87 L st S cs sl := rfl
theorem wn_X7_leaves_0 : wpN l G mi_X7_leaves Γ F sgs_X7_leaves (n + 1) 0 L st S cs sl = wp G Γ (mR mi_X7_leaves) (wpN l G mi_X7_leaves Γ F sgs_X7_leaves n) (EX mi_X7_leaves F) sg_X7_leaves_0 L st S cs sl := rfl
theorem wn_X7_leaves_5 : wpN l G mi_X7_leaves Γ F sgs_X7_leaves (n + 1) 5 L st S cs sl = V l G mi_X7_leaves F 5 L st S cs sl := rfl
theorem wn_X7_leaves_73 : wpN l G mi_X7_leaves Γ F sgs_X7_leaves (n + 1) 73 L st S cs sl = wp G Γ (mR mi_X7_leaves) (wpN l G mi_X7_leaves Γ F sgs_X7_leaves n) (EX mi_X7_leaves F) sg_X7_leaves_73 L st S cs sl := rfl
theorem wn_X7_leaves_79 : wpN l G mi_X7_leaves Γ F sgs_X7_leaves (n + 1) 79 L st S cs sl = wp G Γ (mR mi_X7_leaves) (wpN l G mi_X7_leaves Γ F sgs_X7_leaves n) (EX mi_X7_leaves F) sg_X7_leaves_79 L st S cs sl := rfl
theorem wn_X7_whoDims_0 : wpN l G mi_X7_whoDims Γ F sgs_X7_whoDims (n + 1) 0 L st S cs sl = wp G Γ (mR mi_X7_whoDims) (wpN l G mi_X7_whoDims Γ F sgs_X7_whoDims n) (EX mi_X7_whoDims F) sg_X7_whoDims_0 L st S cs sl := rfl
theorem wn_X7_whoDims_11 : wpN l G mi_X7_whoDims Γ F sgs_X7_whoDims (n + 1) 11 L st S cs sl = wp G Γ (mR mi_X7_whoDims) (wpN l G mi_X7_whoDims Γ F sgs_X7_whoDims n) (EX mi_X7_whoDims F) sg_X7_whoDims_11 L st S cs sl := rfl
theorem wn_X7_whoDims_20 : wpN l G mi_X7_whoDims Γ F sgs_X7_whoDims (n + 1) 20 L st S cs sl = V l G mi_X7_whoDims F 20 L st S cs sl := rfl
theorem wn_X7_whoDims_58 : wpN l G mi_X7_whoDims Γ F sgs_X7_whoDims (n + 1) 58 L st S cs sl = wp G Γ (mR mi_X7_whoDims) (wpN l G mi_X7_whoDims Γ F sgs_X7_whoDims n) (EX mi_X7_whoDims F) sg_X7_whoDims_58 L st S cs sl := rfl
theorem wn_X7_whoDims_59 : wpN l G mi_X7_whoDims Γ F sgs_X7_whoDims (n + 1) 59 L st S cs sl = wp G Γ (mR mi_X7_whoDims) (wpN l G mi_X7_whoDims Γ F sgs_X7_whoDims n) (EX mi_X7_whoDims F) sg_X7_whoDims_59 L st S cs sl := rfl
theorem wn_X7_whoDims_73 : wpN l G mi_X7_whoDims Γ F sgs_X7_whoDims (n + 1) 73 L st S cs sl = wp G Γ (mR mi_X7_whoDims) (wpN l G mi_X7_whoDims Γ F sgs_X7_whoDims n) (EX mi_X7_whoDims F) sg_X7_whoDims_73 L st S cs sl := rfl
theorem wn_X7_whoDims_75 : wpN l G mi_X7_whoDims Γ F sgs_X7_whoDims (n + 1) 75 L st S cs sl = wp G Γ (mR mi_X7_whoDims) (wpN l G mi_X7_whoDims Γ F sgs_X7_whoDims n) (EX mi_X7_whoDims F) sg_X7_whoDims_75 L st S cs sl := rfl
theorem wn_X7_whoDims_83 : wpN l G mi_X7_whoDims Γ F sgs_X7_whoDims (n + 1) 83 L st S cs sl = wp G Γ (mR mi_X7_whoDims) (wpN l G mi_X7_whoDims Γ F sgs_X7_whoDims n) (EX mi_X7_whoDims F) sg_X7_whoDims_83 L st S cs sl := rfl
theorem wn_X7_areRead_0 : wpN l G mi_X7_areRead Γ F sgs_X7_areRead (n + 1) 0 L st S cs sl = wp G Γ (mR mi_X7_areRead) (wpN l G mi_X7_areRead Γ F sgs_X7_areRead n) (EX mi_X7_areRead F) sg_X7_areRead_0 L st S cs sl := rfl
theorem wn_X7_areRead_5 : wpN l G mi_X7_areRead Γ F sgs_X7_areRead (n + 1) 5 L st S cs sl = V l G mi_X7_areRead F 5 L st S cs sl := rfl
theorem wn_X7_areRead_38 : wpN l G mi_X7_areRead Γ F sgs_X7_areRead (n + 1) 38 L st S cs sl = wp G Γ (mR mi_X7_areRead) (wpN l G mi_X7_areRead Γ F sgs_X7_areRead n) (EX mi_X7_areRead F) sg_X7_areRead_38 L st S cs sl := rfl
theorem wn_X7_areRead_42 : wpN l G mi_X7_areRead Γ F sgs_X7_areRead (n + 1) 42 L st S cs sl = wp G Γ (mR mi_X7_areRead) (wpN l G mi_X7_areRead Γ F sgs_X7_areRead n) (EX mi_X7_areRead F) sg_X7_areRead_42 L st S cs sl := rfl
theorem wn_X7_areRead_43 : wpN l G mi_X7_areRead Γ F sgs_X7_areRead (n + 1) 43 L st S cs sl = wp G Γ (mR mi_X7_areRead) (wpN l G mi_X7_areRead Γ F sgs_X7_areRead n) (EX mi_X7_areRead F) sg_X7_areRead_43 L st S cs sl := rfl
theorem wn_X7_areRead_50 : wpN l G mi_X7_areRead Γ F sgs_X7_areRead (n + 1) 50 L st S cs sl = wp G Γ (mR mi_X7_areRead) (wpN l G mi_X7_areRead Γ F sgs_X7_areRead n) (EX mi_X7_areRead F) sg_X7_areRead_50 L st S cs sl := rfl
theorem wn_X7_readableIn_0 : wpN l G mi_X7_readableIn Γ F sgs_X7_readableIn (n + 1) 0 L st S cs sl = wp G Γ (mR mi_X7_readableIn) (wpN l G mi_X7_readableIn Γ F sgs_X7_readableIn n) (EX mi_X7_readableIn F) sg_X7_readableIn_0 L st S cs sl := rfl
theorem wn_X7_readableIn_10 : wpN l G mi_X7_readableIn Γ F sgs_X7_readableIn (n + 1) 10 L st S cs sl = wp G Γ (mR mi_X7_readableIn) (wpN l G mi_X7_readableIn Γ F sgs_X7_readableIn n) (EX mi_X7_readableIn F) sg_X7_readableIn_10 L st S cs sl := rfl
theorem wn_X7_readableIn_19 : wpN l G mi_X7_readableIn Γ F sgs_X7_readableIn (n + 1) 19 L st S cs sl = V l G mi_X7_readableIn F 19 L st S cs sl := rfl
theorem wn_X7_readableIn_38 : wpN l G mi_X7_readableIn Γ F sgs_X7_readableIn (n + 1) 38 L st S cs sl = wp G Γ (mR mi_X7_readableIn) (wpN l G mi_X7_readableIn Γ F sgs_X7_readableIn n) (EX mi_X7_readableIn F) sg_X7_readableIn_38 L st S cs sl := rfl
theorem wn_X7_readableIn_51 : wpN l G mi_X7_readableIn Γ F sgs_X7_readableIn (n + 1) 51 L st S cs sl = wp G Γ (mR mi_X7_readableIn) (wpN l G mi_X7_readableIn Γ F sgs_X7_readableIn n) (EX mi_X7_readableIn F) sg_X7_readableIn_51 L st S cs sl := rfl
theorem wn_X7_charactersOf_0 : wpN l G mi_X7_charactersOf Γ F sgs_X7_charactersOf (n + 1) 0 L st S cs sl = wp G Γ (mR mi_X7_charactersOf) (wpN l G mi_X7_charactersOf Γ F sgs_X7_charactersOf n) (EX mi_X7_charactersOf F) sg_X7_charactersOf_0 L st S cs sl := rfl
theorem wn_X7_charactersOf_5 : wpN l G mi_X7_charactersOf Γ F sgs_X7_charactersOf (n + 1) 5 L st S cs sl = V l G mi_X7_charactersOf F 5 L st S cs sl := rfl
theorem wn_X7_charactersOf_40 : wpN l G mi_X7_charactersOf Γ F sgs_X7_charactersOf (n + 1) 40 L st S cs sl = wp G Γ (mR mi_X7_charactersOf) (wpN l G mi_X7_charactersOf Γ F sgs_X7_charactersOf n) (EX mi_X7_charactersOf F) sg_X7_charactersOf_40 L st S cs sl := rfl
theorem wn_X7_charactersOf_51 : wpN l G mi_X7_charactersOf Γ F sgs_X7_charactersOf (n + 1) 51 L st S cs sl = wp G Γ (mR mi_X7_charactersOf) (wpN l G mi_X7_charactersOf Γ F sgs_X7_charactersOf n) (EX mi_X7_charactersOf F) sg_X7_charactersOf_51 L st S cs sl := rfl
theorem wn_X7_charactersOf_52 : wpN l G mi_X7_charactersOf Γ F sgs_X7_charactersOf (n + 1) 52 L st S cs sl = wp G Γ (mR mi_X7_charactersOf) (wpN l G mi_X7_charactersOf Γ F sgs_X7_charactersOf n) (EX mi_X7_charactersOf F) sg_X7_charactersOf_52 L st S cs sl := rfl
theorem wn_X7_put_0 : wpN l G mi_X7_put Γ F sgs_X7_put (n + 1) 0 L st S cs sl = wp G Γ (mR mi_X7_put) (wpN l G mi_X7_put Γ F sgs_X7_put n) (EX mi_X7_put F) sg_X7_put_0 L st S cs sl := rfl
theorem wn_X7_put_12 : wpN l G mi_X7_put Γ F sgs_X7_put (n + 1) 12 L st S cs sl = wp G Γ (mR mi_X7_put) (wpN l G mi_X7_put Γ F sgs_X7_put n) (EX mi_X7_put F) sg_X7_put_12 L st S cs sl := rfl
theorem wn_X7_put_26 : wpN l G mi_X7_put Γ F sgs_X7_put (n + 1) 26 L st S cs sl = wp G Γ (mR mi_X7_put) (wpN l G mi_X7_put Γ F sgs_X7_put n) (EX mi_X7_put F) sg_X7_put_26 L st S cs sl := rfl
theorem wn_X7_put_29 : wpN l G mi_X7_put Γ F sgs_X7_put (n + 1) 29 L st S cs sl = V l G mi_X7_put F 29 L st S cs sl := rfl
theorem wn_X7_put_69 : wpN l G mi_X7_put Γ F sgs_X7_put (n + 1) 69 L st S cs sl = wp G Γ (mR mi_X7_put) (wpN l G mi_X7_put Γ F sgs_X7_put n) (EX mi_X7_put F) sg_X7_put_69 L st S cs sl := rfl
theorem wn_X7_wipe_0 : wpN l G mi_X7_wipe Γ F sgs_X7_wipe (n + 1) 0 L st S cs sl = wp G Γ (mR mi_X7_wipe) (wpN l G mi_X7_wipe Γ F sgs_X7_wipe n) (EX mi_X7_wipe F) sg_X7_wipe_0 L st S cs sl := rfl
theorem wn_X7_isHere_0 : wpN l G mi_X7_isHere Γ F sgs_X7_isHere (n + 1) 0 L st S cs sl = wp G Γ (mR mi_X7_isHere) (wpN l G mi_X7_isHere Γ F sgs_X7_isHere n) (EX mi_X7_isHere F) sg_X7_isHere_0 L st S cs sl := rfl
theorem wn_X7_isHere_35 : wpN l G mi_X7_isHere Γ F sgs_X7_isHere (n + 1) 35 L st S cs sl = wp G Γ (mR mi_X7_isHere) (wpN l G mi_X7_isHere Γ F sgs_X7_isHere n) (EX mi_X7_isHere F) sg_X7_isHere_35 L st S cs sl := rfl
theorem wn_X7_isHere_36 : wpN l G mi_X7_isHere Γ F sgs_X7_isHere (n + 1) 36 L st S cs sl = wp G Γ (mR mi_X7_isHere) (wpN l G mi_X7_isHere Γ F sgs_X7_isHere n) (EX mi_X7_isHere F) sg_X7_isHere_36 L st S cs sl := rfl
theorem wn_X7_takes_0 : wpN l G mi_X7_takes Γ F sgs_X7_takes (n + 1) 0 L st S cs sl = wp G Γ (mR mi_X7_takes) (wpN l G mi_X7_takes Γ F sgs_X7_takes n) (EX mi_X7_takes F) sg_X7_takes_0 L st S cs sl := rfl
theorem wn_X7_takes_20 : wpN l G mi_X7_takes Γ F sgs_X7_takes (n + 1) 20 L st S cs sl = wp G Γ (mR mi_X7_takes) (wpN l G mi_X7_takes Γ F sgs_X7_takes n) (EX mi_X7_takes F) sg_X7_takes_20 L st S cs sl := rfl
theorem wn_X7_takes_21 : wpN l G mi_X7_takes Γ F sgs_X7_takes (n + 1) 21 L st S cs sl = wp G Γ (mR mi_X7_takes) (wpN l G mi_X7_takes Γ F sgs_X7_takes n) (EX mi_X7_takes F) sg_X7_takes_21 L st S cs sl := rfl
theorem wn_X7_digit_0 : wpN l G mi_X7_digit Γ F sgs_X7_digit (n + 1) 0 L st S cs sl = wp G Γ (mR mi_X7_digit) (wpN l G mi_X7_digit Γ F sgs_X7_digit n) (EX mi_X7_digit F) sg_X7_digit_0 L st S cs sl := rfl
theorem wn_X7_digit_26 : wpN l G mi_X7_digit Γ F sgs_X7_digit (n + 1) 26 L st S cs sl = wp G Γ (mR mi_X7_digit) (wpN l G mi_X7_digit Γ F sgs_X7_digit n) (EX mi_X7_digit F) sg_X7_digit_26 L st S cs sl := rfl
theorem wn_X7_digit_28 : wpN l G mi_X7_digit Γ F sgs_X7_digit (n + 1) 28 L st S cs sl = wp G Γ (mR mi_X7_digit) (wpN l G mi_X7_digit Γ F sgs_X7_digit n) (EX mi_X7_digit F) sg_X7_digit_28 L st S cs sl := rfl
theorem wn_X7_digit_44 : wpN l G mi_X7_digit Γ F sgs_X7_digit (n + 1) 44 L st S cs sl = wp G Γ (mR mi_X7_digit) (wpN l G mi_X7_digit Γ F sgs_X7_digit n) (EX mi_X7_digit F) sg_X7_digit_44 L st S cs sl := rfl
theorem wn_X7_digit_45 : wpN l G mi_X7_digit Γ F sgs_X7_digit (n + 1) 45 L st S cs sl = wp G Γ (mR mi_X7_digit) (wpN l G mi_X7_digit Γ F sgs_X7_digit n) (EX mi_X7_digit F) sg_X7_digit_45 L st S cs sl := rfl
theorem wn_X7_number_0 : wpN l G mi_X7_number Γ F sgs_X7_number (n + 1) 0 L st S cs sl = wp G Γ (mR mi_X7_number) (wpN l G mi_X7_number Γ F sgs_X7_number n) (EX mi_X7_number F) sg_X7_number_0 L st S cs sl := rfl
theorem wn_X7_number_48 : wpN l G mi_X7_number Γ F sgs_X7_number (n + 1) 48 L st S cs sl = wp G Γ (mR mi_X7_number) (wpN l G mi_X7_number Γ F sgs_X7_number n) (EX mi_X7_number F) sg_X7_number_48 L st S cs sl := rfl
theorem wn_X7_readsPlace_0 : wpN l G mi_X7_readsPlace Γ F sgs_X7_readsPlace (n + 1) 0 L st S cs sl = wp G Γ (mR mi_X7_readsPlace) (wpN l G mi_X7_readsPlace Γ F sgs_X7_readsPlace n) (EX mi_X7_readsPlace F) sg_X7_readsPlace_0 L st S cs sl := rfl
theorem wn_X7_readsPlace_17 : wpN l G mi_X7_readsPlace Γ F sgs_X7_readsPlace (n + 1) 17 L st S cs sl = wp G Γ (mR mi_X7_readsPlace) (wpN l G mi_X7_readsPlace Γ F sgs_X7_readsPlace n) (EX mi_X7_readsPlace F) sg_X7_readsPlace_17 L st S cs sl := rfl
theorem wn_X7_readsPlace_19 : wpN l G mi_X7_readsPlace Γ F sgs_X7_readsPlace (n + 1) 19 L st S cs sl = wp G Γ (mR mi_X7_readsPlace) (wpN l G mi_X7_readsPlace Γ F sgs_X7_readsPlace n) (EX mi_X7_readsPlace F) sg_X7_readsPlace_19 L st S cs sl := rfl
theorem wn_X7_readsPlace_48 : wpN l G mi_X7_readsPlace Γ F sgs_X7_readsPlace (n + 1) 48 L st S cs sl = wp G Γ (mR mi_X7_readsPlace) (wpN l G mi_X7_readsPlace Γ F sgs_X7_readsPlace n) (EX mi_X7_readsPlace F) sg_X7_readsPlace_48 L st S cs sl := rfl
theorem wn_X7_readsPlace_50 : wpN l G mi_X7_readsPlace Γ F sgs_X7_readsPlace (n + 1) 50 L st S cs sl = wp G Γ (mR mi_X7_readsPlace) (wpN l G mi_X7_readsPlace Γ F sgs_X7_readsPlace n) (EX mi_X7_readsPlace F) sg_X7_readsPlace_50 L st S cs sl := rfl
theorem wn_X7_readsPlace_66 : wpN l G mi_X7_readsPlace Γ F sgs_X7_readsPlace (n + 1) 66 L st S cs sl = wp G Γ (mR mi_X7_readsPlace) (wpN l G mi_X7_readsPlace Γ F sgs_X7_readsPlace n) (EX mi_X7_readsPlace F) sg_X7_readsPlace_66 L st S cs sl := rfl
theorem wn_X7_readsPlace_67 : wpN l G mi_X7_readsPlace Γ F sgs_X7_readsPlace (n + 1) 67 L st S cs sl = wp G Γ (mR mi_X7_readsPlace) (wpN l G mi_X7_readsPlace Γ F sgs_X7_readsPlace n) (EX mi_X7_readsPlace F) sg_X7_readsPlace_67 L st S cs sl := rfl
theorem wn_X7_readsLetters_0 : wpN l G mi_X7_readsLetters Γ F sgs_X7_readsLetters (n + 1) 0 L st S cs sl = wp G Γ (mR mi_X7_readsLetters) (wpN l G mi_X7_readsLetters Γ F sgs_X7_readsLetters n) (EX mi_X7_readsLetters F) sg_X7_readsLetters_0 L st S cs sl := rfl
theorem wn_X7_readsLetters_8 : wpN l G mi_X7_readsLetters Γ F sgs_X7_readsLetters (n + 1) 8 L st S cs sl = V l G mi_X7_readsLetters F 8 L st S cs sl := rfl
theorem wn_X7_readsLetters_32 : wpN l G mi_X7_readsLetters Γ F sgs_X7_readsLetters (n + 1) 32 L st S cs sl = wp G Γ (mR mi_X7_readsLetters) (wpN l G mi_X7_readsLetters Γ F sgs_X7_readsLetters n) (EX mi_X7_readsLetters F) sg_X7_readsLetters_32 L st S cs sl := rfl
theorem wn_X7_readsLetters_55 : wpN l G mi_X7_readsLetters Γ F sgs_X7_readsLetters (n + 1) 55 L st S cs sl = wp G Γ (mR mi_X7_readsLetters) (wpN l G mi_X7_readsLetters Γ F sgs_X7_readsLetters n) (EX mi_X7_readsLetters F) sg_X7_readsLetters_55 L st S cs sl := rfl
theorem wn_X7_readsLetters_56 : wpN l G mi_X7_readsLetters Γ F sgs_X7_readsLetters (n + 1) 56 L st S cs sl = wp G Γ (mR mi_X7_readsLetters) (wpN l G mi_X7_readsLetters Γ F sgs_X7_readsLetters n) (EX mi_X7_readsLetters F) sg_X7_readsLetters_56 L st S cs sl := rfl
theorem wn_X7_readsOrder_0 : wpN l G mi_X7_readsOrder Γ F sgs_X7_readsOrder (n + 1) 0 L st S cs sl = wp G Γ (mR mi_X7_readsOrder) (wpN l G mi_X7_readsOrder Γ F sgs_X7_readsOrder n) (EX mi_X7_readsOrder F) sg_X7_readsOrder_0 L st S cs sl := rfl
theorem wn_X7_readsOrder_25 : wpN l G mi_X7_readsOrder Γ F sgs_X7_readsOrder (n + 1) 25 L st S cs sl = wp G Γ (mR mi_X7_readsOrder) (wpN l G mi_X7_readsOrder Γ F sgs_X7_readsOrder n) (EX mi_X7_readsOrder F) sg_X7_readsOrder_25 L st S cs sl := rfl
theorem wn_X7_readsOrder_27 : wpN l G mi_X7_readsOrder Γ F sgs_X7_readsOrder (n + 1) 27 L st S cs sl = wp G Γ (mR mi_X7_readsOrder) (wpN l G mi_X7_readsOrder Γ F sgs_X7_readsOrder n) (EX mi_X7_readsOrder F) sg_X7_readsOrder_27 L st S cs sl := rfl
theorem wn_X7_readsOrder_128 : wpN l G mi_X7_readsOrder Γ F sgs_X7_readsOrder (n + 1) 128 L st S cs sl = wp G Γ (mR mi_X7_readsOrder) (wpN l G mi_X7_readsOrder Γ F sgs_X7_readsOrder n) (EX mi_X7_readsOrder F) sg_X7_readsOrder_128 L st S cs sl := rfl
theorem wn_X7_readsOrder_130 : wpN l G mi_X7_readsOrder Γ F sgs_X7_readsOrder (n + 1) 130 L st S cs sl = wp G Γ (mR mi_X7_readsOrder) (wpN l G mi_X7_readsOrder Γ F sgs_X7_readsOrder n) (EX mi_X7_readsOrder F) sg_X7_readsOrder_130 L st S cs sl := rfl
theorem wn_X7_readsOrder_151 : wpN l G mi_X7_readsOrder Γ F sgs_X7_readsOrder (n + 1) 151 L st S cs sl = wp G Γ (mR mi_X7_readsOrder) (wpN l G mi_X7_readsOrder Γ F sgs_X7_readsOrder n) (EX mi_X7_readsOrder F) sg_X7_readsOrder_151 L st S cs sl := rfl
theorem wn_X7_readsOrder_152 : wpN l G mi_X7_readsOrder Γ F sgs_X7_readsOrder (n + 1) 152 L st S cs sl = wp G Γ (mR mi_X7_readsOrder) (wpN l G mi_X7_readsOrder Γ F sgs_X7_readsOrder n) (EX mi_X7_readsOrder F) sg_X7_readsOrder_152 L st S cs sl := rfl
theorem wn_X7_readsOrder_153 : wpN l G mi_X7_readsOrder Γ F sgs_X7_readsOrder (n + 1) 153 L st S cs sl = wp G Γ (mR mi_X7_readsOrder) (wpN l G mi_X7_readsOrder Γ F sgs_X7_readsOrder n) (EX mi_X7_readsOrder F) sg_X7_readsOrder_153 L st S cs sl := rfl
theorem wn_X7_readsOrder_197 : wpN l G mi_X7_readsOrder Γ F sgs_X7_readsOrder (n + 1) 197 L st S cs sl = wp G Γ (mR mi_X7_readsOrder) (wpN l G mi_X7_readsOrder Γ F sgs_X7_readsOrder n) (EX mi_X7_readsOrder F) sg_X7_readsOrder_197 L st S cs sl := rfl
theorem wn_X7_readsOrder_198 : wpN l G mi_X7_readsOrder Γ F sgs_X7_readsOrder (n + 1) 198 L st S cs sl = wp G Γ (mR mi_X7_readsOrder) (wpN l G mi_X7_readsOrder Γ F sgs_X7_readsOrder n) (EX mi_X7_readsOrder F) sg_X7_readsOrder_198 L st S cs sl := rfl
theorem wn_X7_readsOrder_199 : wpN l G mi_X7_readsOrder Γ F sgs_X7_readsOrder (n + 1) 199 L st S cs sl = wp G Γ (mR mi_X7_readsOrder) (wpN l G mi_X7_readsOrder Γ F sgs_X7_readsOrder n) (EX mi_X7_readsOrder F) sg_X7_readsOrder_199 L st S cs sl := rfl
theorem wn_X7_readsOrder_227 : wpN l G mi_X7_readsOrder Γ F sgs_X7_readsOrder (n + 1) 227 L st S cs sl = wp G Γ (mR mi_X7_readsOrder) (wpN l G mi_X7_readsOrder Γ F sgs_X7_readsOrder n) (EX mi_X7_readsOrder F) sg_X7_readsOrder_227 L st S cs sl := rfl
theorem wn_X7_readsOrder_228 : wpN l G mi_X7_readsOrder Γ F sgs_X7_readsOrder (n + 1) 228 L st S cs sl = wp G Γ (mR mi_X7_readsOrder) (wpN l G mi_X7_readsOrder Γ F sgs_X7_readsOrder n) (EX mi_X7_readsOrder F) sg_X7_readsOrder_228 L st S cs sl := rfl
theorem wn_X7_readsOrder_229 : wpN l G mi_X7_readsOrder Γ F sgs_X7_readsOrder (n + 1) 229 L st S cs sl = wp G Γ (mR mi_X7_readsOrder) (wpN l G mi_X7_readsOrder Γ F sgs_X7_readsOrder n) (EX mi_X7_readsOrder F) sg_X7_readsOrder_229 L st S cs sl := rfl
theorem wn_X7_readsOrder_234 : wpN l G mi_X7_readsOrder Γ F sgs_X7_readsOrder (n + 1) 234 L st S cs sl = wp G Γ (mR mi_X7_readsOrder) (wpN l G mi_X7_readsOrder Γ F sgs_X7_readsOrder n) (EX mi_X7_readsOrder F) sg_X7_readsOrder_234 L st S cs sl := rfl
theorem wn_X7_readsOrder_255 : wpN l G mi_X7_readsOrder Γ F sgs_X7_readsOrder (n + 1) 255 L st S cs sl = wp G Γ (mR mi_X7_readsOrder) (wpN l G mi_X7_readsOrder Γ F sgs_X7_readsOrder n) (EX mi_X7_readsOrder F) sg_X7_readsOrder_255 L st S cs sl := rfl
theorem wn_X7_readsOrder_256 : wpN l G mi_X7_readsOrder Γ F sgs_X7_readsOrder (n + 1) 256 L st S cs sl = wp G Γ (mR mi_X7_readsOrder) (wpN l G mi_X7_readsOrder Γ F sgs_X7_readsOrder n) (EX mi_X7_readsOrder F) sg_X7_readsOrder_256 L st S cs sl := rfl
theorem wn_X7_readsOrder_257 : wpN l G mi_X7_readsOrder Γ F sgs_X7_readsOrder (n + 1) 257 L st S cs sl = wp G Γ (mR mi_X7_readsOrder) (wpN l G mi_X7_readsOrder Γ F sgs_X7_readsOrder n) (EX mi_X7_readsOrder F) sg_X7_readsOrder_257 L st S cs sl := rfl
theorem wn_X7_fault_0 : wpN l G mi_X7_fault Γ F sgs_X7_fault (n + 1) 0 L st S cs sl = wp G Γ (mR mi_X7_fault) (wpN l G mi_X7_fault Γ F sgs_X7_fault n) (EX mi_X7_fault F) sg_X7_fault_0 L st S cs sl := rfl
theorem wn_X7_fault_7 : wpN l G mi_X7_fault Γ F sgs_X7_fault (n + 1) 7 L st S cs sl = V l G mi_X7_fault F 7 L st S cs sl := rfl
theorem wn_X7_fault_23 : wpN l G mi_X7_fault Γ F sgs_X7_fault (n + 1) 23 L st S cs sl = wp G Γ (mR mi_X7_fault) (wpN l G mi_X7_fault Γ F sgs_X7_fault n) (EX mi_X7_fault F) sg_X7_fault_23 L st S cs sl := rfl
theorem wn_X7_fault_33 : wpN l G mi_X7_fault Γ F sgs_X7_fault (n + 1) 33 L st S cs sl = wp G Γ (mR mi_X7_fault) (wpN l G mi_X7_fault Γ F sgs_X7_fault n) (EX mi_X7_fault F) sg_X7_fault_33 L st S cs sl := rfl
theorem wn_X7_fault_49 : wpN l G mi_X7_fault Γ F sgs_X7_fault (n + 1) 49 L st S cs sl = wp G Γ (mR mi_X7_fault) (wpN l G mi_X7_fault Γ F sgs_X7_fault n) (EX mi_X7_fault F) sg_X7_fault_49 L st S cs sl := rfl
theorem wn_X7_fault_53 : wpN l G mi_X7_fault Γ F sgs_X7_fault (n + 1) 53 L st S cs sl = wp G Γ (mR mi_X7_fault) (wpN l G mi_X7_fault Γ F sgs_X7_fault n) (EX mi_X7_fault F) sg_X7_fault_53 L st S cs sl := rfl
theorem wn_X7_orderError_0 : wpN l G mi_X7_orderError Γ F sgs_X7_orderError (n + 1) 0 L st S cs sl = wp G Γ (mR mi_X7_orderError) (wpN l G mi_X7_orderError Γ F sgs_X7_orderError n) (EX mi_X7_orderError F) sg_X7_orderError_0 L st S cs sl := rfl
theorem wn_X7_orderError_76 : wpN l G mi_X7_orderError Γ F sgs_X7_orderError (n + 1) 76 L st S cs sl = wp G Γ (mR mi_X7_orderError) (wpN l G mi_X7_orderError Γ F sgs_X7_orderError n) (EX mi_X7_orderError F) sg_X7_orderError_76 L st S cs sl := rfl
theorem wn_X7_orderError_91 : wpN l G mi_X7_orderError Γ F sgs_X7_orderError (n + 1) 91 L st S cs sl = wp G Γ (mR mi_X7_orderError) (wpN l G mi_X7_orderError Γ F sgs_X7_orderError n) (EX mi_X7_orderError F) sg_X7_orderError_91 L st S cs sl := rfl
theorem wn_X7_orderError_92 : wpN l G mi_X7_orderError Γ F sgs_X7_orderError (n + 1) 92 L st S cs sl = wp G Γ (mR mi_X7_orderError) (wpN l G mi_X7_orderError Γ F sgs_X7_orderError n) (EX mi_X7_orderError F) sg_X7_orderError_92 L st S cs sl := rfl
theorem wn_X7_orderError_93 : wpN l G mi_X7_orderError Γ F sgs_X7_orderError (n + 1) 93 L st S cs sl = wp G Γ (mR mi_X7_orderError) (wpN l G mi_X7_orderError Γ F sgs_X7_orderError n) (EX mi_X7_orderError F) sg_X7_orderError_93 L st S cs sl := rfl
theorem wn_X7_orderError_102 : wpN l G mi_X7_orderError Γ F sgs_X7_orderError (n + 1) 102 L st S cs sl = wp G Γ (mR mi_X7_orderError) (wpN l G mi_X7_orderError Γ F sgs_X7_orderError n) (EX mi_X7_orderError F) sg_X7_orderError_102 L st S cs sl := rfl
theorem wn_X7_orderError_111 : wpN l G mi_X7_orderError Γ F sgs_X7_orderError (n + 1) 111 L st S cs sl = wp G Γ (mR mi_X7_orderError) (wpN l G mi_X7_orderError Γ F sgs_X7_orderError n) (EX mi_X7_orderError F) sg_X7_orderError_111 L st S cs sl := rfl
theorem wn_X7_orderError_144 : wpN l G mi_X7_orderError Γ F sgs_X7_orderError (n + 1) 144 L st S cs sl = wp G Γ (mR mi_X7_orderError) (wpN l G mi_X7_orderError Γ F sgs_X7_orderError n) (EX mi_X7_orderError F) sg_X7_orderError_144 L st S cs sl := rfl
theorem wn_X7_orderError_161 : wpN l G mi_X7_orderError Γ F sgs_X7_orderError (n + 1) 161 L st S cs sl = wp G Γ (mR mi_X7_orderError) (wpN l G mi_X7_orderError Γ F sgs_X7_orderError n) (EX mi_X7_orderError F) sg_X7_orderError_161 L st S cs sl := rfl
theorem wn_X7_orderError_174 : wpN l G mi_X7_orderError Γ F sgs_X7_orderError (n + 1) 174 L st S cs sl = wp G Γ (mR mi_X7_orderError) (wpN l G mi_X7_orderError Γ F sgs_X7_orderError n) (EX mi_X7_orderError F) sg_X7_orderError_174 L st S cs sl := rfl
theorem wn_X7_does_0 : wpN l G mi_X7_does Γ F sgs_X7_does (n + 1) 0 L st S cs sl = wp G Γ (mR mi_X7_does) (wpN l G mi_X7_does Γ F sgs_X7_does n) (EX mi_X7_does F) sg_X7_does_0 L st S cs sl := rfl
theorem wn_X7_does_76 : wpN l G mi_X7_does Γ F sgs_X7_does (n + 1) 76 L st S cs sl = wp G Γ (mR mi_X7_does) (wpN l G mi_X7_does Γ F sgs_X7_does n) (EX mi_X7_does F) sg_X7_does_76 L st S cs sl := rfl
theorem wn_X7_does_81 : wpN l G mi_X7_does Γ F sgs_X7_does (n + 1) 81 L st S cs sl = wp G Γ (mR mi_X7_does) (wpN l G mi_X7_does Γ F sgs_X7_does n) (EX mi_X7_does F) sg_X7_does_81 L st S cs sl := rfl
theorem wn_X7_does_90 : wpN l G mi_X7_does Γ F sgs_X7_does (n + 1) 90 L st S cs sl = wp G Γ (mR mi_X7_does) (wpN l G mi_X7_does Γ F sgs_X7_does n) (EX mi_X7_does F) sg_X7_does_90 L st S cs sl := rfl
theorem wn_X7_does_99 : wpN l G mi_X7_does Γ F sgs_X7_does (n + 1) 99 L st S cs sl = wp G Γ (mR mi_X7_does) (wpN l G mi_X7_does Γ F sgs_X7_does n) (EX mi_X7_does F) sg_X7_does_99 L st S cs sl := rfl
theorem wn_X7_does_135 : wpN l G mi_X7_does Γ F sgs_X7_does (n + 1) 135 L st S cs sl = wp G Γ (mR mi_X7_does) (wpN l G mi_X7_does Γ F sgs_X7_does n) (EX mi_X7_does F) sg_X7_does_135 L st S cs sl := rfl
theorem wn_X7_does_155 : wpN l G mi_X7_does Γ F sgs_X7_does (n + 1) 155 L st S cs sl = wp G Γ (mR mi_X7_does) (wpN l G mi_X7_does Γ F sgs_X7_does n) (EX mi_X7_does F) sg_X7_does_155 L st S cs sl := rfl
theorem wn_X7_does_171 : wpN l G mi_X7_does Γ F sgs_X7_does (n + 1) 171 L st S cs sl = wp G Γ (mR mi_X7_does) (wpN l G mi_X7_does Γ F sgs_X7_does n) (EX mi_X7_does F) sg_X7_does_171 L st S cs sl := rfl
theorem wn_X7_carryOut_0 : wpN l G mi_X7_carryOut Γ F sgs_X7_carryOut (n + 1) 0 L st S cs sl = wp G Γ (mR mi_X7_carryOut) (wpN l G mi_X7_carryOut Γ F sgs_X7_carryOut n) (EX mi_X7_carryOut F) sg_X7_carryOut_0 L st S cs sl := rfl
theorem wn_X7_carryOut_12 : wpN l G mi_X7_carryOut Γ F sgs_X7_carryOut (n + 1) 12 L st S cs sl = wp G Γ (mR mi_X7_carryOut) (wpN l G mi_X7_carryOut Γ F sgs_X7_carryOut n) (EX mi_X7_carryOut F) sg_X7_carryOut_12 L st S cs sl := rfl
theorem wn_X7_carryOut_25 : wpN l G mi_X7_carryOut Γ F sgs_X7_carryOut (n + 1) 25 L st S cs sl = V l G mi_X7_carryOut F 25 L st S cs sl := rfl
theorem wn_X7_carryOut_50 : wpN l G mi_X7_carryOut Γ F sgs_X7_carryOut (n + 1) 50 L st S cs sl = wp G Γ (mR mi_X7_carryOut) (wpN l G mi_X7_carryOut Γ F sgs_X7_carryOut n) (EX mi_X7_carryOut F) sg_X7_carryOut_50 L st S cs sl := rfl
theorem wn_X7_carryOut_56 : wpN l G mi_X7_carryOut Γ F sgs_X7_carryOut (n + 1) 56 L st S cs sl = wp G Γ (mR mi_X7_carryOut) (wpN l G mi_X7_carryOut Γ F sgs_X7_carryOut n) (EX mi_X7_carryOut F) sg_X7_carryOut_56 L st S cs sl := rfl
theorem wn_X7_carryOut_64 : wpN l G mi_X7_carryOut Γ F sgs_X7_carryOut (n + 1) 64 L st S cs sl = V l G mi_X7_carryOut F 64 L st S cs sl := rfl
theorem wn_X7_carryOut_88 : wpN l G mi_X7_carryOut Γ F sgs_X7_carryOut (n + 1) 88 L st S cs sl = wp G Γ (mR mi_X7_carryOut) (wpN l G mi_X7_carryOut Γ F sgs_X7_carryOut n) (EX mi_X7_carryOut F) sg_X7_carryOut_88 L st S cs sl := rfl
theorem wn_X7_carryOut_89 : wpN l G mi_X7_carryOut Γ F sgs_X7_carryOut (n + 1) 89 L st S cs sl = wp G Γ (mR mi_X7_carryOut) (wpN l G mi_X7_carryOut Γ F sgs_X7_carryOut n) (EX mi_X7_carryOut F) sg_X7_carryOut_89 L st S cs sl := rfl
theorem wn_X7_carryOut_103 : wpN l G mi_X7_carryOut Γ F sgs_X7_carryOut (n + 1) 103 L st S cs sl = wp G Γ (mR mi_X7_carryOut) (wpN l G mi_X7_carryOut Γ F sgs_X7_carryOut n) (EX mi_X7_carryOut F) sg_X7_carryOut_103 L st S cs sl := rfl
theorem wn_X7_carryOut_105 : wpN l G mi_X7_carryOut Γ F sgs_X7_carryOut (n + 1) 105 L st S cs sl = wp G Γ (mR mi_X7_carryOut) (wpN l G mi_X7_carryOut Γ F sgs_X7_carryOut n) (EX mi_X7_carryOut F) sg_X7_carryOut_105 L st S cs sl := rfl
theorem wn_X7_carryOut_116 : wpN l G mi_X7_carryOut Γ F sgs_X7_carryOut (n + 1) 116 L st S cs sl = wp G Γ (mR mi_X7_carryOut) (wpN l G mi_X7_carryOut Γ F sgs_X7_carryOut n) (EX mi_X7_carryOut F) sg_X7_carryOut_116 L st S cs sl := rfl
theorem wn_X7_carryOut_117 : wpN l G mi_X7_carryOut Γ F sgs_X7_carryOut (n + 1) 117 L st S cs sl = wp G Γ (mR mi_X7_carryOut) (wpN l G mi_X7_carryOut Γ F sgs_X7_carryOut n) (EX mi_X7_carryOut F) sg_X7_carryOut_117 L st S cs sl := rfl
theorem wn_X7_carryOut_125 : wpN l G mi_X7_carryOut Γ F sgs_X7_carryOut (n + 1) 125 L st S cs sl = wp G Γ (mR mi_X7_carryOut) (wpN l G mi_X7_carryOut Γ F sgs_X7_carryOut n) (EX mi_X7_carryOut F) sg_X7_carryOut_125 L st S cs sl := rfl
theorem wn_X7_carryOut_142 : wpN l G mi_X7_carryOut Γ F sgs_X7_carryOut (n + 1) 142 L st S cs sl = wp G Γ (mR mi_X7_carryOut) (wpN l G mi_X7_carryOut Γ F sgs_X7_carryOut n) (EX mi_X7_carryOut F) sg_X7_carryOut_142 L st S cs sl := rfl
theorem wn_X7_carryOut_143 : wpN l G mi_X7_carryOut Γ F sgs_X7_carryOut (n + 1) 143 L st S cs sl = wp G Γ (mR mi_X7_carryOut) (wpN l G mi_X7_carryOut Γ F sgs_X7_carryOut n) (EX mi_X7_carryOut F) sg_X7_carryOut_143 L st S cs sl := rfl
theorem wn_X7_carryOut_147 : wpN l G mi_X7_carryOut Γ F sgs_X7_carryOut (n + 1) 147 L st S cs sl = wp G Γ (mR mi_X7_carryOut) (wpN l G mi_X7_carryOut Γ F sgs_X7_carryOut n) (EX mi_X7_carryOut F) sg_X7_carryOut_147 L st S cs sl := rfl
theorem wn_X7_undo_0 : wpN l G mi_X7_undo Γ F sgs_X7_undo (n + 1) 0 L st S cs sl = wp G Γ (mR mi_X7_undo) (wpN l G mi_X7_undo Γ F sgs_X7_undo n) (EX mi_X7_undo F) sg_X7_undo_0 L st S cs sl := rfl
theorem wn_X7_undo_10 : wpN l G mi_X7_undo Γ F sgs_X7_undo (n + 1) 10 L st S cs sl = wp G Γ (mR mi_X7_undo) (wpN l G mi_X7_undo Γ F sgs_X7_undo n) (EX mi_X7_undo F) sg_X7_undo_10 L st S cs sl := rfl
theorem wn_X7_isSlot_0 : wpN l G mi_X7_isSlot Γ F sgs_X7_isSlot (n + 1) 0 L st S cs sl = wp G Γ (mR mi_X7_isSlot) (wpN l G mi_X7_isSlot Γ F sgs_X7_isSlot n) (EX mi_X7_isSlot F) sg_X7_isSlot_0 L st S cs sl := rfl
theorem wn_X7_isSlot_9 : wpN l G mi_X7_isSlot Γ F sgs_X7_isSlot (n + 1) 9 L st S cs sl = wp G Γ (mR mi_X7_isSlot) (wpN l G mi_X7_isSlot Γ F sgs_X7_isSlot n) (EX mi_X7_isSlot F) sg_X7_isSlot_9 L st S cs sl := rfl
theorem wn_X7_isSlot_13 : wpN l G mi_X7_isSlot Γ F sgs_X7_isSlot (n + 1) 13 L st S cs sl = wp G Γ (mR mi_X7_isSlot) (wpN l G mi_X7_isSlot Γ F sgs_X7_isSlot n) (EX mi_X7_isSlot F) sg_X7_isSlot_13 L st S cs sl := rfl
theorem wn_X7_isSlot_14 : wpN l G mi_X7_isSlot Γ F sgs_X7_isSlot (n + 1) 14 L st S cs sl = wp G Γ (mR mi_X7_isSlot) (wpN l G mi_X7_isSlot Γ F sgs_X7_isSlot n) (EX mi_X7_isSlot F) sg_X7_isSlot_14 L st S cs sl := rfl
theorem wn_X7_save_0 : wpN l G mi_X7_save Γ F sgs_X7_save (n + 1) 0 L st S cs sl = wp G Γ (mR mi_X7_save) (wpN l G mi_X7_save Γ F sgs_X7_save n) (EX mi_X7_save F) sg_X7_save_0 L st S cs sl := rfl
theorem wn_X7_save_10 : wpN l G mi_X7_save Γ F sgs_X7_save (n + 1) 10 L st S cs sl = wp G Γ (mR mi_X7_save) (wpN l G mi_X7_save Γ F sgs_X7_save n) (EX mi_X7_save F) sg_X7_save_10 L st S cs sl := rfl
theorem wn_X7_restore_0 : wpN l G mi_X7_restore Γ F sgs_X7_restore (n + 1) 0 L st S cs sl = wp G Γ (mR mi_X7_restore) (wpN l G mi_X7_restore Γ F sgs_X7_restore n) (EX mi_X7_restore F) sg_X7_restore_0 L st S cs sl := rfl
theorem wn_X7_restore_10 : wpN l G mi_X7_restore Γ F sgs_X7_restore (n + 1) 10 L st S cs sl = wp G Γ (mR mi_X7_restore) (wpN l G mi_X7_restore Γ F sgs_X7_restore n) (EX mi_X7_restore F) sg_X7_restore_10 L st S cs sl := rfl
theorem wn_X7_restore_22 : wpN l G mi_X7_restore Γ F sgs_X7_restore (n + 1) 22 L st S cs sl = wp G Γ (mR mi_X7_restore) (wpN l G mi_X7_restore Γ F sgs_X7_restore n) (EX mi_X7_restore F) sg_X7_restore_22 L st S cs sl := rfl
end PJ
