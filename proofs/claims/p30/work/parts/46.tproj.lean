/-! rows by rfl (printed by wip/p30/gen/proj.py) -/
section PJ
variable {G : Gx} {Γ : List (MI × PT)} {R : Room} {K : KT} {E : ET} {kk : List (Option Value) → List Value → SS → Nat → Nat → Prop} {pc x y z w : Nat} {L : List (Option Value)} {st : List Value} {S : SS} {cs sl : Nat} {l : Launch} {F : Option Value → SS → Prop} {n : Nat} {qs : List Ins} {q : Ins}
theorem xk_bipush_9 : wp1 G Γ R K E kk (pc, .bipush 9, 9, 0, z, w) L st S cs sl = kk L (.int (nI 9) :: st) S cs sl := x_bipush (by decide)
theorem xk_bipush_11 : wp1 G Γ R K E kk (pc, .bipush 11, 11, 0, z, w) L st S cs sl = kk L (.int (nI 11) :: st) S cs sl := x_bipush (by decide)
theorem xk_bipush_19 : wp1 G Γ R K E kk (pc, .bipush 19, 19, 0, z, w) L st S cs sl = kk L (.int (nI 19) :: st) S cs sl := x_bipush (by decide)
theorem xk_bipush_99 : wp1 G Γ R K E kk (pc, .bipush 99, 99, 0, z, w) L st S cs sl = kk L (.int (nI 99) :: st) S cs sl := x_bipush (by decide)
theorem xk_bipush_51 : wp1 G Γ R K E kk (pc, .bipush 51, 51, 0, z, w) L st S cs sl = kk L (.int (nI 51) :: st) S cs sl := x_bipush (by decide)
theorem xk_bipush_8 : wp1 G Γ R K E kk (pc, .bipush 8, 8, 0, z, w) L st S cs sl = kk L (.int (nI 8) :: st) S cs sl := x_bipush (by decide)
theorem mT_L_cell : mT mi_L_cell = (some .int) := rfl
theorem mL_L_cell : mL mi_L_cell = 2 := rfl
theorem rc_L_cell : (mR mi_L_cell).cells = 0 := rfl
theorem rs_L_cell : (mR mi_L_cell).slots = 0 := rfl
theorem mT_L_low : mT mi_L_low = (some .int) := rfl
theorem mL_L_low : mL mi_L_low = 2 := rfl
theorem rc_L_low : (mR mi_L_low).cells = 0 := rfl
theorem rs_L_low : (mR mi_L_low).slots = 0 := rfl
theorem mT_L_act : mT mi_L_act = (some .int) := rfl
theorem mL_L_act : mL mi_L_act = 7 := rfl
theorem rc_L_act : (mR mi_L_act).cells = 0 := rfl
theorem rs_L_act : (mR mi_L_act).slots = 0 := rfl
theorem mT_L_places : mT mi_L_places = (some .boolean) := rfl
theorem mL_L_places : mL mi_L_places = 18 := rfl
theorem rc_L_places : (mR mi_L_places).cells = 0 := rfl
theorem rs_L_places : (mR mi_L_places).slots = 0 := rfl
theorem mT_L_hangs : mT mi_L_hangs = (some .boolean) := rfl
theorem mL_L_hangs : mL mi_L_hangs = 5 := rfl
theorem rc_L_hangs : (mR mi_L_hangs).cells = 0 := rfl
theorem rs_L_hangs : (mR mi_L_hangs).slots = 0 := rfl
theorem mT_L_print : mT mi_L_print = (some .long) := rfl
theorem mL_L_print : mL mi_L_print = 4 := rfl
theorem rc_L_print : (mR mi_L_print).cells = 0 := rfl
theorem rs_L_print : (mR mi_L_print).slots = 0 := rfl
theorem mT_L_writes : mT mi_L_writes = (some .boolean) := rfl
theorem mL_L_writes : mL mi_L_writes = 17 := rfl
theorem rc_L_writes : (mR mi_L_writes).cells = 0 := rfl
theorem rs_L_writes : (mR mi_L_writes).slots = 0 := rfl
theorem mT_L_fills : mT mi_L_fills = (some .boolean) := rfl
theorem mL_L_fills : mL mi_L_fills = 7 := rfl
theorem rc_L_fills : (mR mi_L_fills).cells = 0 := rfl
theorem rs_L_fills : (mR mi_L_fills).slots = 0 := rfl
theorem mT_L_clears : mT mi_L_clears = (some .boolean) := rfl
theorem mL_L_clears : mL mi_L_clears = 5 := rfl
theorem rc_L_clears : (mR mi_L_clears).cells = 0 := rfl
theorem rs_L_clears : (mR mi_L_clears).slots = 0 := rfl
theorem wn_L_cell_0 : wpN l G mi_L_cell Γ F sgs_L_cell (n + 1) 0 L st S cs sl = wp G Γ (mR mi_L_cell) (wpN l G mi_L_cell Γ F sgs_L_cell n) (EX mi_L_cell F) sg_L_cell_0 L st S cs sl := rfl
theorem wn_L_cell_12 : wpN l G mi_L_cell Γ F sgs_L_cell (n + 1) 12 L st S cs sl = wp G Γ (mR mi_L_cell) (wpN l G mi_L_cell Γ F sgs_L_cell n) (EX mi_L_cell F) sg_L_cell_12 L st S cs sl := rfl
theorem wn_L_cell_21 : wpN l G mi_L_cell Γ F sgs_L_cell (n + 1) 21 L st S cs sl = wp G Γ (mR mi_L_cell) (wpN l G mi_L_cell Γ F sgs_L_cell n) (EX mi_L_cell F) sg_L_cell_21 L st S cs sl := rfl
theorem wn_L_low_0 : wpN l G mi_L_low Γ F sgs_L_low (n + 1) 0 L st S cs sl = wp G Γ (mR mi_L_low) (wpN l G mi_L_low Γ F sgs_L_low n) (EX mi_L_low F) sg_L_low_0 L st S cs sl := rfl
theorem wn_L_act_0 : wpN l G mi_L_act Γ F sgs_L_act (n + 1) 0 L st S cs sl = wp G Γ (mR mi_L_act) (wpN l G mi_L_act Γ F sgs_L_act n) (EX mi_L_act F) sg_L_act_0 L st S cs sl := rfl
theorem wn_L_act_19 : wpN l G mi_L_act Γ F sgs_L_act (n + 1) 19 L st S cs sl = wp G Γ (mR mi_L_act) (wpN l G mi_L_act Γ F sgs_L_act n) (EX mi_L_act F) sg_L_act_19 L st S cs sl := rfl
theorem wn_L_act_20 : wpN l G mi_L_act Γ F sgs_L_act (n + 1) 20 L st S cs sl = wp G Γ (mR mi_L_act) (wpN l G mi_L_act Γ F sgs_L_act n) (EX mi_L_act F) sg_L_act_20 L st S cs sl := rfl
theorem wn_L_act_44 : wpN l G mi_L_act Γ F sgs_L_act (n + 1) 44 L st S cs sl = wp G Γ (mR mi_L_act) (wpN l G mi_L_act Γ F sgs_L_act n) (EX mi_L_act F) sg_L_act_44 L st S cs sl := rfl
theorem wn_L_act_46 : wpN l G mi_L_act Γ F sgs_L_act (n + 1) 46 L st S cs sl = wp G Γ (mR mi_L_act) (wpN l G mi_L_act Γ F sgs_L_act n) (EX mi_L_act F) sg_L_act_46 L st S cs sl := rfl
theorem wn_L_act_64 : wpN l G mi_L_act Γ F sgs_L_act (n + 1) 64 L st S cs sl = V l G mi_L_act F 64 L st S cs sl := rfl
theorem wn_L_act_120 : wpN l G mi_L_act Γ F sgs_L_act (n + 1) 120 L st S cs sl = wp G Γ (mR mi_L_act) (wpN l G mi_L_act Γ F sgs_L_act n) (EX mi_L_act F) sg_L_act_120 L st S cs sl := rfl
theorem wn_L_act_135 : wpN l G mi_L_act Γ F sgs_L_act (n + 1) 135 L st S cs sl = wp G Γ (mR mi_L_act) (wpN l G mi_L_act Γ F sgs_L_act n) (EX mi_L_act F) sg_L_act_135 L st S cs sl := rfl
theorem wn_L_act_146 : wpN l G mi_L_act Γ F sgs_L_act (n + 1) 146 L st S cs sl = wp G Γ (mR mi_L_act) (wpN l G mi_L_act Γ F sgs_L_act n) (EX mi_L_act F) sg_L_act_146 L st S cs sl := rfl
theorem wn_L_act_147 : wpN l G mi_L_act Γ F sgs_L_act (n + 1) 147 L st S cs sl = wp G Γ (mR mi_L_act) (wpN l G mi_L_act Γ F sgs_L_act n) (EX mi_L_act F) sg_L_act_147 L st S cs sl := rfl
theorem wn_L_act_173 : wpN l G mi_L_act Γ F sgs_L_act (n + 1) 173 L st S cs sl = wp G Γ (mR mi_L_act) (wpN l G mi_L_act Γ F sgs_L_act n) (EX mi_L_act F) sg_L_act_173 L st S cs sl := rfl
theorem wn_L_act_190 : wpN l G mi_L_act Γ F sgs_L_act (n + 1) 190 L st S cs sl = wp G Γ (mR mi_L_act) (wpN l G mi_L_act Γ F sgs_L_act n) (EX mi_L_act F) sg_L_act_190 L st S cs sl := rfl
theorem wn_L_act_209 : wpN l G mi_L_act Γ F sgs_L_act (n + 1) 209 L st S cs sl = wp G Γ (mR mi_L_act) (wpN l G mi_L_act Γ F sgs_L_act n) (EX mi_L_act F) sg_L_act_209 L st S cs sl := rfl
theorem wn_L_act_217 : wpN l G mi_L_act Γ F sgs_L_act (n + 1) 217 L st S cs sl = wp G Γ (mR mi_L_act) (wpN l G mi_L_act Γ F sgs_L_act n) (EX mi_L_act F) sg_L_act_217 L st S cs sl := rfl
theorem wn_L_act_221 : wpN l G mi_L_act Γ F sgs_L_act (n + 1) 221 L st S cs sl = wp G Γ (mR mi_L_act) (wpN l G mi_L_act Γ F sgs_L_act n) (EX mi_L_act F) sg_L_act_221 L st S cs sl := rfl
theorem wn_L_act_239 : wpN l G mi_L_act Γ F sgs_L_act (n + 1) 239 L st S cs sl = wp G Γ (mR mi_L_act) (wpN l G mi_L_act Γ F sgs_L_act n) (EX mi_L_act F) sg_L_act_239 L st S cs sl := rfl
theorem wn_L_act_249 : wpN l G mi_L_act Γ F sgs_L_act (n + 1) 249 L st S cs sl = wp G Γ (mR mi_L_act) (wpN l G mi_L_act Γ F sgs_L_act n) (EX mi_L_act F) sg_L_act_249 L st S cs sl := rfl
theorem wn_L_act_257 : wpN l G mi_L_act Γ F sgs_L_act (n + 1) 257 L st S cs sl = wp G Γ (mR mi_L_act) (wpN l G mi_L_act Γ F sgs_L_act n) (EX mi_L_act F) sg_L_act_257 L st S cs sl := rfl
theorem wn_L_act_265 : wpN l G mi_L_act Γ F sgs_L_act (n + 1) 265 L st S cs sl = wp G Γ (mR mi_L_act) (wpN l G mi_L_act Γ F sgs_L_act n) (EX mi_L_act F) sg_L_act_265 L st S cs sl := rfl
theorem wn_L_act_283 : wpN l G mi_L_act Γ F sgs_L_act (n + 1) 283 L st S cs sl = wp G Γ (mR mi_L_act) (wpN l G mi_L_act Γ F sgs_L_act n) (EX mi_L_act F) sg_L_act_283 L st S cs sl := rfl
theorem wn_L_act_285 : wpN l G mi_L_act Γ F sgs_L_act (n + 1) 285 L st S cs sl = wp G Γ (mR mi_L_act) (wpN l G mi_L_act Γ F sgs_L_act n) (EX mi_L_act F) sg_L_act_285 L st S cs sl := rfl
theorem wn_L_places_0 : wpN l G mi_L_places Γ F sgs_L_places (n + 1) 0 L st S cs sl = wp G Γ (mR mi_L_places) (wpN l G mi_L_places Γ F sgs_L_places n) (EX mi_L_places F) sg_L_places_0 L st S cs sl := rfl
theorem wn_L_places_30 : wpN l G mi_L_places Γ F sgs_L_places (n + 1) 30 L st S cs sl = V l G mi_L_places F 30 L st S cs sl := rfl
theorem wn_L_places_91 : wpN l G mi_L_places Γ F sgs_L_places (n + 1) 91 L st S cs sl = wp G Γ (mR mi_L_places) (wpN l G mi_L_places Γ F sgs_L_places n) (EX mi_L_places F) sg_L_places_91 L st S cs sl := rfl
theorem wn_L_places_92 : wpN l G mi_L_places Γ F sgs_L_places (n + 1) 92 L st S cs sl = wp G Γ (mR mi_L_places) (wpN l G mi_L_places Γ F sgs_L_places n) (EX mi_L_places F) sg_L_places_92 L st S cs sl := rfl
theorem wn_L_places_112 : wpN l G mi_L_places Γ F sgs_L_places (n + 1) 112 L st S cs sl = wp G Γ (mR mi_L_places) (wpN l G mi_L_places Γ F sgs_L_places n) (EX mi_L_places F) sg_L_places_112 L st S cs sl := rfl
theorem wn_L_places_113 : wpN l G mi_L_places Γ F sgs_L_places (n + 1) 113 L st S cs sl = wp G Γ (mR mi_L_places) (wpN l G mi_L_places Γ F sgs_L_places n) (EX mi_L_places F) sg_L_places_113 L st S cs sl := rfl
theorem wn_L_places_132 : wpN l G mi_L_places Γ F sgs_L_places (n + 1) 132 L st S cs sl = wp G Γ (mR mi_L_places) (wpN l G mi_L_places Γ F sgs_L_places n) (EX mi_L_places F) sg_L_places_132 L st S cs sl := rfl
theorem wn_L_places_133 : wpN l G mi_L_places Γ F sgs_L_places (n + 1) 133 L st S cs sl = wp G Γ (mR mi_L_places) (wpN l G mi_L_places Γ F sgs_L_places n) (EX mi_L_places F) sg_L_places_133 L st S cs sl := rfl
theorem wn_L_places_153 : wpN l G mi_L_places Γ F sgs_L_places (n + 1) 153 L st S cs sl = wp G Γ (mR mi_L_places) (wpN l G mi_L_places Γ F sgs_L_places n) (EX mi_L_places F) sg_L_places_153 L st S cs sl := rfl
theorem wn_L_places_154 : wpN l G mi_L_places Γ F sgs_L_places (n + 1) 154 L st S cs sl = wp G Γ (mR mi_L_places) (wpN l G mi_L_places Γ F sgs_L_places n) (EX mi_L_places F) sg_L_places_154 L st S cs sl := rfl
theorem wn_L_places_167 : wpN l G mi_L_places Γ F sgs_L_places (n + 1) 167 L st S cs sl = wp G Γ (mR mi_L_places) (wpN l G mi_L_places Γ F sgs_L_places n) (EX mi_L_places F) sg_L_places_167 L st S cs sl := rfl
theorem wn_L_places_168 : wpN l G mi_L_places Γ F sgs_L_places (n + 1) 168 L st S cs sl = wp G Γ (mR mi_L_places) (wpN l G mi_L_places Γ F sgs_L_places n) (EX mi_L_places F) sg_L_places_168 L st S cs sl := rfl
theorem wn_L_places_186 : wpN l G mi_L_places Γ F sgs_L_places (n + 1) 186 L st S cs sl = wp G Γ (mR mi_L_places) (wpN l G mi_L_places Γ F sgs_L_places n) (EX mi_L_places F) sg_L_places_186 L st S cs sl := rfl
theorem wn_L_places_187 : wpN l G mi_L_places Γ F sgs_L_places (n + 1) 187 L st S cs sl = wp G Γ (mR mi_L_places) (wpN l G mi_L_places Γ F sgs_L_places n) (EX mi_L_places F) sg_L_places_187 L st S cs sl := rfl
theorem wn_L_places_205 : wpN l G mi_L_places Γ F sgs_L_places (n + 1) 205 L st S cs sl = wp G Γ (mR mi_L_places) (wpN l G mi_L_places Γ F sgs_L_places n) (EX mi_L_places F) sg_L_places_205 L st S cs sl := rfl
theorem wn_L_places_207 : wpN l G mi_L_places Γ F sgs_L_places (n + 1) 207 L st S cs sl = wp G Γ (mR mi_L_places) (wpN l G mi_L_places Γ F sgs_L_places n) (EX mi_L_places F) sg_L_places_207 L st S cs sl := rfl
theorem wn_L_places_220 : wpN l G mi_L_places Γ F sgs_L_places (n + 1) 220 L st S cs sl = wp G Γ (mR mi_L_places) (wpN l G mi_L_places Γ F sgs_L_places n) (EX mi_L_places F) sg_L_places_220 L st S cs sl := rfl
theorem wn_L_places_221 : wpN l G mi_L_places Γ F sgs_L_places (n + 1) 221 L st S cs sl = wp G Γ (mR mi_L_places) (wpN l G mi_L_places Γ F sgs_L_places n) (EX mi_L_places F) sg_L_places_221 L st S cs sl := rfl
theorem wn_L_places_235 : wpN l G mi_L_places Γ F sgs_L_places (n + 1) 235 L st S cs sl = wp G Γ (mR mi_L_places) (wpN l G mi_L_places Γ F sgs_L_places n) (EX mi_L_places F) sg_L_places_235 L st S cs sl := rfl
theorem wn_L_places_236 : wpN l G mi_L_places Γ F sgs_L_places (n + 1) 236 L st S cs sl = wp G Γ (mR mi_L_places) (wpN l G mi_L_places Γ F sgs_L_places n) (EX mi_L_places F) sg_L_places_236 L st S cs sl := rfl
theorem wn_L_places_250 : wpN l G mi_L_places Γ F sgs_L_places (n + 1) 250 L st S cs sl = wp G Γ (mR mi_L_places) (wpN l G mi_L_places Γ F sgs_L_places n) (EX mi_L_places F) sg_L_places_250 L st S cs sl := rfl
theorem wn_L_places_251 : wpN l G mi_L_places Γ F sgs_L_places (n + 1) 251 L st S cs sl = wp G Γ (mR mi_L_places) (wpN l G mi_L_places Γ F sgs_L_places n) (EX mi_L_places F) sg_L_places_251 L st S cs sl := rfl
theorem wn_L_places_265 : wpN l G mi_L_places Γ F sgs_L_places (n + 1) 265 L st S cs sl = wp G Γ (mR mi_L_places) (wpN l G mi_L_places Γ F sgs_L_places n) (EX mi_L_places F) sg_L_places_265 L st S cs sl := rfl
theorem wn_L_places_266 : wpN l G mi_L_places Γ F sgs_L_places (n + 1) 266 L st S cs sl = wp G Γ (mR mi_L_places) (wpN l G mi_L_places Γ F sgs_L_places n) (EX mi_L_places F) sg_L_places_266 L st S cs sl := rfl
theorem wn_L_places_313 : wpN l G mi_L_places Γ F sgs_L_places (n + 1) 313 L st S cs sl = wp G Γ (mR mi_L_places) (wpN l G mi_L_places Γ F sgs_L_places n) (EX mi_L_places F) sg_L_places_313 L st S cs sl := rfl
theorem wn_L_places_314 : wpN l G mi_L_places Γ F sgs_L_places (n + 1) 314 L st S cs sl = wp G Γ (mR mi_L_places) (wpN l G mi_L_places Γ F sgs_L_places n) (EX mi_L_places F) sg_L_places_314 L st S cs sl := rfl
theorem wn_L_places_332 : wpN l G mi_L_places Γ F sgs_L_places (n + 1) 332 L st S cs sl = wp G Γ (mR mi_L_places) (wpN l G mi_L_places Γ F sgs_L_places n) (EX mi_L_places F) sg_L_places_332 L st S cs sl := rfl
theorem wn_L_places_342 : wpN l G mi_L_places Γ F sgs_L_places (n + 1) 342 L st S cs sl = wp G Γ (mR mi_L_places) (wpN l G mi_L_places Γ F sgs_L_places n) (EX mi_L_places F) sg_L_places_342 L st S cs sl := rfl
theorem wn_L_places_352 : wpN l G mi_L_places Γ F sgs_L_places (n + 1) 352 L st S cs sl = wp G Γ (mR mi_L_places) (wpN l G mi_L_places Γ F sgs_L_places n) (EX mi_L_places F) sg_L_places_352 L st S cs sl := rfl
theorem wn_L_places_354 : wpN l G mi_L_places Γ F sgs_L_places (n + 1) 354 L st S cs sl = wp G Γ (mR mi_L_places) (wpN l G mi_L_places Γ F sgs_L_places n) (EX mi_L_places F) sg_L_places_354 L st S cs sl := rfl
theorem wn_L_places_375 : wpN l G mi_L_places Γ F sgs_L_places (n + 1) 375 L st S cs sl = wp G Γ (mR mi_L_places) (wpN l G mi_L_places Γ F sgs_L_places n) (EX mi_L_places F) sg_L_places_375 L st S cs sl := rfl
theorem wn_L_places_376 : wpN l G mi_L_places Γ F sgs_L_places (n + 1) 376 L st S cs sl = wp G Γ (mR mi_L_places) (wpN l G mi_L_places Γ F sgs_L_places n) (EX mi_L_places F) sg_L_places_376 L st S cs sl := rfl
theorem wn_L_places_400 : wpN l G mi_L_places Γ F sgs_L_places (n + 1) 400 L st S cs sl = wp G Γ (mR mi_L_places) (wpN l G mi_L_places Γ F sgs_L_places n) (EX mi_L_places F) sg_L_places_400 L st S cs sl := rfl
theorem wn_L_places_401 : wpN l G mi_L_places Γ F sgs_L_places (n + 1) 401 L st S cs sl = wp G Γ (mR mi_L_places) (wpN l G mi_L_places Γ F sgs_L_places n) (EX mi_L_places F) sg_L_places_401 L st S cs sl := rfl
theorem wn_L_places_425 : wpN l G mi_L_places Γ F sgs_L_places (n + 1) 425 L st S cs sl = wp G Γ (mR mi_L_places) (wpN l G mi_L_places Γ F sgs_L_places n) (EX mi_L_places F) sg_L_places_425 L st S cs sl := rfl
theorem wn_L_places_426 : wpN l G mi_L_places Γ F sgs_L_places (n + 1) 426 L st S cs sl = wp G Γ (mR mi_L_places) (wpN l G mi_L_places Γ F sgs_L_places n) (EX mi_L_places F) sg_L_places_426 L st S cs sl := rfl
theorem wn_L_places_450 : wpN l G mi_L_places Γ F sgs_L_places (n + 1) 450 L st S cs sl = wp G Γ (mR mi_L_places) (wpN l G mi_L_places Γ F sgs_L_places n) (EX mi_L_places F) sg_L_places_450 L st S cs sl := rfl
theorem wn_L_places_451 : wpN l G mi_L_places Γ F sgs_L_places (n + 1) 451 L st S cs sl = wp G Γ (mR mi_L_places) (wpN l G mi_L_places Γ F sgs_L_places n) (EX mi_L_places F) sg_L_places_451 L st S cs sl := rfl
theorem wn_L_places_454 : wpN l G mi_L_places Γ F sgs_L_places (n + 1) 454 L st S cs sl = wp G Γ (mR mi_L_places) (wpN l G mi_L_places Γ F sgs_L_places n) (EX mi_L_places F) sg_L_places_454 L st S cs sl := rfl
theorem wn_L_places_456 : wpN l G mi_L_places Γ F sgs_L_places (n + 1) 456 L st S cs sl = wp G Γ (mR mi_L_places) (wpN l G mi_L_places Γ F sgs_L_places n) (EX mi_L_places F) sg_L_places_456 L st S cs sl := rfl
theorem wn_L_places_462 : wpN l G mi_L_places Γ F sgs_L_places (n + 1) 462 L st S cs sl = wp G Γ (mR mi_L_places) (wpN l G mi_L_places Γ F sgs_L_places n) (EX mi_L_places F) sg_L_places_462 L st S cs sl := rfl
theorem wn_L_places_528 : wpN l G mi_L_places Γ F sgs_L_places (n + 1) 528 L st S cs sl = wp G Γ (mR mi_L_places) (wpN l G mi_L_places Γ F sgs_L_places n) (EX mi_L_places F) sg_L_places_528 L st S cs sl := rfl
theorem wn_L_places_529 : wpN l G mi_L_places Γ F sgs_L_places (n + 1) 529 L st S cs sl = wp G Γ (mR mi_L_places) (wpN l G mi_L_places Γ F sgs_L_places n) (EX mi_L_places F) sg_L_places_529 L st S cs sl := rfl
theorem wn_L_hangs_0 : wpN l G mi_L_hangs Γ F sgs_L_hangs (n + 1) 0 L st S cs sl = wp G Γ (mR mi_L_hangs) (wpN l G mi_L_hangs Γ F sgs_L_hangs n) (EX mi_L_hangs F) sg_L_hangs_0 L st S cs sl := rfl
theorem wn_L_hangs_9 : wpN l G mi_L_hangs Γ F sgs_L_hangs (n + 1) 9 L st S cs sl = V l G mi_L_hangs F 9 L st S cs sl := rfl
theorem wn_L_hangs_62 : wpN l G mi_L_hangs Γ F sgs_L_hangs (n + 1) 62 L st S cs sl = wp G Γ (mR mi_L_hangs) (wpN l G mi_L_hangs Γ F sgs_L_hangs n) (EX mi_L_hangs F) sg_L_hangs_62 L st S cs sl := rfl
theorem wn_L_hangs_63 : wpN l G mi_L_hangs Γ F sgs_L_hangs (n + 1) 63 L st S cs sl = wp G Γ (mR mi_L_hangs) (wpN l G mi_L_hangs Γ F sgs_L_hangs n) (EX mi_L_hangs F) sg_L_hangs_63 L st S cs sl := rfl
theorem wn_L_hangs_84 : wpN l G mi_L_hangs Γ F sgs_L_hangs (n + 1) 84 L st S cs sl = wp G Γ (mR mi_L_hangs) (wpN l G mi_L_hangs Γ F sgs_L_hangs n) (EX mi_L_hangs F) sg_L_hangs_84 L st S cs sl := rfl
theorem wn_L_hangs_85 : wpN l G mi_L_hangs Γ F sgs_L_hangs (n + 1) 85 L st S cs sl = wp G Γ (mR mi_L_hangs) (wpN l G mi_L_hangs Γ F sgs_L_hangs n) (EX mi_L_hangs F) sg_L_hangs_85 L st S cs sl := rfl
theorem wn_L_hangs_90 : wpN l G mi_L_hangs Γ F sgs_L_hangs (n + 1) 90 L st S cs sl = wp G Γ (mR mi_L_hangs) (wpN l G mi_L_hangs Γ F sgs_L_hangs n) (EX mi_L_hangs F) sg_L_hangs_90 L st S cs sl := rfl
theorem wn_L_hangs_96 : wpN l G mi_L_hangs Γ F sgs_L_hangs (n + 1) 96 L st S cs sl = wp G Γ (mR mi_L_hangs) (wpN l G mi_L_hangs Γ F sgs_L_hangs n) (EX mi_L_hangs F) sg_L_hangs_96 L st S cs sl := rfl
theorem wn_L_hangs_99 : wpN l G mi_L_hangs Γ F sgs_L_hangs (n + 1) 99 L st S cs sl = V l G mi_L_hangs F 99 L st S cs sl := rfl
theorem wn_L_hangs_173 : wpN l G mi_L_hangs Γ F sgs_L_hangs (n + 1) 173 L st S cs sl = wp G Γ (mR mi_L_hangs) (wpN l G mi_L_hangs Γ F sgs_L_hangs n) (EX mi_L_hangs F) sg_L_hangs_173 L st S cs sl := rfl
theorem wn_L_hangs_175 : wpN l G mi_L_hangs Γ F sgs_L_hangs (n + 1) 175 L st S cs sl = wp G Γ (mR mi_L_hangs) (wpN l G mi_L_hangs Γ F sgs_L_hangs n) (EX mi_L_hangs F) sg_L_hangs_175 L st S cs sl := rfl
theorem wn_L_hangs_181 : wpN l G mi_L_hangs Γ F sgs_L_hangs (n + 1) 181 L st S cs sl = wp G Γ (mR mi_L_hangs) (wpN l G mi_L_hangs Γ F sgs_L_hangs n) (EX mi_L_hangs F) sg_L_hangs_181 L st S cs sl := rfl
theorem wn_L_hangs_232 : wpN l G mi_L_hangs Γ F sgs_L_hangs (n + 1) 232 L st S cs sl = wp G Γ (mR mi_L_hangs) (wpN l G mi_L_hangs Γ F sgs_L_hangs n) (EX mi_L_hangs F) sg_L_hangs_232 L st S cs sl := rfl
theorem wn_L_hangs_233 : wpN l G mi_L_hangs Γ F sgs_L_hangs (n + 1) 233 L st S cs sl = wp G Γ (mR mi_L_hangs) (wpN l G mi_L_hangs Γ F sgs_L_hangs n) (EX mi_L_hangs F) sg_L_hangs_233 L st S cs sl := rfl
theorem wn_L_print_0 : wpN l G mi_L_print Γ F sgs_L_print (n + 1) 0 L st S cs sl = wp G Γ (mR mi_L_print) (wpN l G mi_L_print Γ F sgs_L_print n) (EX mi_L_print F) sg_L_print_0 L st S cs sl := rfl
theorem wn_L_print_7 : wpN l G mi_L_print Γ F sgs_L_print (n + 1) 7 L st S cs sl = V l G mi_L_print F 7 L st S cs sl := rfl
theorem wn_L_print_32 : wpN l G mi_L_print Γ F sgs_L_print (n + 1) 32 L st S cs sl = wp G Γ (mR mi_L_print) (wpN l G mi_L_print Γ F sgs_L_print n) (EX mi_L_print F) sg_L_print_32 L st S cs sl := rfl
theorem wn_L_print_34 : wpN l G mi_L_print Γ F sgs_L_print (n + 1) 34 L st S cs sl = V l G mi_L_print F 34 L st S cs sl := rfl
theorem wn_L_print_72 : wpN l G mi_L_print Γ F sgs_L_print (n + 1) 72 L st S cs sl = wp G Γ (mR mi_L_print) (wpN l G mi_L_print Γ F sgs_L_print n) (EX mi_L_print F) sg_L_print_72 L st S cs sl := rfl
theorem wn_L_print_74 : wpN l G mi_L_print Γ F sgs_L_print (n + 1) 74 L st S cs sl = V l G mi_L_print F 74 L st S cs sl := rfl
theorem wn_L_print_112 : wpN l G mi_L_print Γ F sgs_L_print (n + 1) 112 L st S cs sl = wp G Γ (mR mi_L_print) (wpN l G mi_L_print Γ F sgs_L_print n) (EX mi_L_print F) sg_L_print_112 L st S cs sl := rfl
theorem wn_L_print_114 : wpN l G mi_L_print Γ F sgs_L_print (n + 1) 114 L st S cs sl = V l G mi_L_print F 114 L st S cs sl := rfl
theorem wn_L_print_206 : wpN l G mi_L_print Γ F sgs_L_print (n + 1) 206 L st S cs sl = wp G Γ (mR mi_L_print) (wpN l G mi_L_print Γ F sgs_L_print n) (EX mi_L_print F) sg_L_print_206 L st S cs sl := rfl
theorem wn_L_writes_0 : wpN l G mi_L_writes Γ F sgs_L_writes (n + 1) 0 L st S cs sl = wp G Γ (mR mi_L_writes) (wpN l G mi_L_writes Γ F sgs_L_writes n) (EX mi_L_writes F) sg_L_writes_0 L st S cs sl := rfl
theorem wn_L_writes_154 : wpN l G mi_L_writes Γ F sgs_L_writes (n + 1) 154 L st S cs sl = wp G Γ (mR mi_L_writes) (wpN l G mi_L_writes Γ F sgs_L_writes n) (EX mi_L_writes F) sg_L_writes_154 L st S cs sl := rfl
theorem wn_L_writes_156 : wpN l G mi_L_writes Γ F sgs_L_writes (n + 1) 156 L st S cs sl = wp G Γ (mR mi_L_writes) (wpN l G mi_L_writes Γ F sgs_L_writes n) (EX mi_L_writes F) sg_L_writes_156 L st S cs sl := rfl
theorem wn_L_writes_205 : wpN l G mi_L_writes Γ F sgs_L_writes (n + 1) 205 L st S cs sl = wp G Γ (mR mi_L_writes) (wpN l G mi_L_writes Γ F sgs_L_writes n) (EX mi_L_writes F) sg_L_writes_205 L st S cs sl := rfl
theorem wn_L_writes_212 : wpN l G mi_L_writes Γ F sgs_L_writes (n + 1) 212 L st S cs sl = wp G Γ (mR mi_L_writes) (wpN l G mi_L_writes Γ F sgs_L_writes n) (EX mi_L_writes F) sg_L_writes_212 L st S cs sl := rfl
theorem wn_L_writes_216 : wpN l G mi_L_writes Γ F sgs_L_writes (n + 1) 216 L st S cs sl = wp G Γ (mR mi_L_writes) (wpN l G mi_L_writes Γ F sgs_L_writes n) (EX mi_L_writes F) sg_L_writes_216 L st S cs sl := rfl
theorem wn_L_writes_217 : wpN l G mi_L_writes Γ F sgs_L_writes (n + 1) 217 L st S cs sl = wp G Γ (mR mi_L_writes) (wpN l G mi_L_writes Γ F sgs_L_writes n) (EX mi_L_writes F) sg_L_writes_217 L st S cs sl := rfl
theorem wn_L_writes_218 : wpN l G mi_L_writes Γ F sgs_L_writes (n + 1) 218 L st S cs sl = wp G Γ (mR mi_L_writes) (wpN l G mi_L_writes Γ F sgs_L_writes n) (EX mi_L_writes F) sg_L_writes_218 L st S cs sl := rfl
theorem wn_L_writes_272 : wpN l G mi_L_writes Γ F sgs_L_writes (n + 1) 272 L st S cs sl = wp G Γ (mR mi_L_writes) (wpN l G mi_L_writes Γ F sgs_L_writes n) (EX mi_L_writes F) sg_L_writes_272 L st S cs sl := rfl
theorem wn_L_writes_273 : wpN l G mi_L_writes Γ F sgs_L_writes (n + 1) 273 L st S cs sl = wp G Γ (mR mi_L_writes) (wpN l G mi_L_writes Γ F sgs_L_writes n) (EX mi_L_writes F) sg_L_writes_273 L st S cs sl := rfl
theorem wn_L_writes_281 : wpN l G mi_L_writes Γ F sgs_L_writes (n + 1) 281 L st S cs sl = wp G Γ (mR mi_L_writes) (wpN l G mi_L_writes Γ F sgs_L_writes n) (EX mi_L_writes F) sg_L_writes_281 L st S cs sl := rfl
theorem wn_L_writes_282 : wpN l G mi_L_writes Γ F sgs_L_writes (n + 1) 282 L st S cs sl = wp G Γ (mR mi_L_writes) (wpN l G mi_L_writes Γ F sgs_L_writes n) (EX mi_L_writes F) sg_L_writes_282 L st S cs sl := rfl
theorem wn_L_writes_370 : wpN l G mi_L_writes Γ F sgs_L_writes (n + 1) 370 L st S cs sl = wp G Γ (mR mi_L_writes) (wpN l G mi_L_writes Γ F sgs_L_writes n) (EX mi_L_writes F) sg_L_writes_370 L st S cs sl := rfl
theorem wn_L_writes_371 : wpN l G mi_L_writes Γ F sgs_L_writes (n + 1) 371 L st S cs sl = wp G Γ (mR mi_L_writes) (wpN l G mi_L_writes Γ F sgs_L_writes n) (EX mi_L_writes F) sg_L_writes_371 L st S cs sl := rfl
theorem wn_L_writes_389 : wpN l G mi_L_writes Γ F sgs_L_writes (n + 1) 389 L st S cs sl = wp G Γ (mR mi_L_writes) (wpN l G mi_L_writes Γ F sgs_L_writes n) (EX mi_L_writes F) sg_L_writes_389 L st S cs sl := rfl
theorem wn_L_writes_390 : wpN l G mi_L_writes Γ F sgs_L_writes (n + 1) 390 L st S cs sl = wp G Γ (mR mi_L_writes) (wpN l G mi_L_writes Γ F sgs_L_writes n) (EX mi_L_writes F) sg_L_writes_390 L st S cs sl := rfl
theorem wn_L_fills_0 : wpN l G mi_L_fills Γ F sgs_L_fills (n + 1) 0 L st S cs sl = wp G Γ (mR mi_L_fills) (wpN l G mi_L_fills Γ F sgs_L_fills n) (EX mi_L_fills F) sg_L_fills_0 L st S cs sl := rfl
theorem wn_L_fills_22 : wpN l G mi_L_fills Γ F sgs_L_fills (n + 1) 22 L st S cs sl = wp G Γ (mR mi_L_fills) (wpN l G mi_L_fills Γ F sgs_L_fills n) (EX mi_L_fills F) sg_L_fills_22 L st S cs sl := rfl
theorem wn_L_fills_30 : wpN l G mi_L_fills Γ F sgs_L_fills (n + 1) 30 L st S cs sl = wp G Γ (mR mi_L_fills) (wpN l G mi_L_fills Γ F sgs_L_fills n) (EX mi_L_fills F) sg_L_fills_30 L st S cs sl := rfl
theorem wn_L_fills_31 : wpN l G mi_L_fills Γ F sgs_L_fills (n + 1) 31 L st S cs sl = wp G Γ (mR mi_L_fills) (wpN l G mi_L_fills Γ F sgs_L_fills n) (EX mi_L_fills F) sg_L_fills_31 L st S cs sl := rfl
theorem wn_L_fills_32 : wpN l G mi_L_fills Γ F sgs_L_fills (n + 1) 32 L st S cs sl = wp G Γ (mR mi_L_fills) (wpN l G mi_L_fills Γ F sgs_L_fills n) (EX mi_L_fills F) sg_L_fills_32 L st S cs sl := rfl
theorem wn_L_fills_60 : wpN l G mi_L_fills Γ F sgs_L_fills (n + 1) 60 L st S cs sl = wp G Γ (mR mi_L_fills) (wpN l G mi_L_fills Γ F sgs_L_fills n) (EX mi_L_fills F) sg_L_fills_60 L st S cs sl := rfl
theorem wn_L_fills_61 : wpN l G mi_L_fills Γ F sgs_L_fills (n + 1) 61 L st S cs sl = wp G Γ (mR mi_L_fills) (wpN l G mi_L_fills Γ F sgs_L_fills n) (EX mi_L_fills F) sg_L_fills_61 L st S cs sl := rfl
theorem wn_L_fills_74 : wpN l G mi_L_fills Γ F sgs_L_fills (n + 1) 74 L st S cs sl = wp G Γ (mR mi_L_fills) (wpN l G mi_L_fills Γ F sgs_L_fills n) (EX mi_L_fills F) sg_L_fills_74 L st S cs sl := rfl
theorem wn_L_fills_75 : wpN l G mi_L_fills Γ F sgs_L_fills (n + 1) 75 L st S cs sl = wp G Γ (mR mi_L_fills) (wpN l G mi_L_fills Γ F sgs_L_fills n) (EX mi_L_fills F) sg_L_fills_75 L st S cs sl := rfl
theorem wn_L_fills_82 : wpN l G mi_L_fills Γ F sgs_L_fills (n + 1) 82 L st S cs sl = wp G Γ (mR mi_L_fills) (wpN l G mi_L_fills Γ F sgs_L_fills n) (EX mi_L_fills F) sg_L_fills_82 L st S cs sl := rfl
theorem wn_L_fills_83 : wpN l G mi_L_fills Γ F sgs_L_fills (n + 1) 83 L st S cs sl = wp G Γ (mR mi_L_fills) (wpN l G mi_L_fills Γ F sgs_L_fills n) (EX mi_L_fills F) sg_L_fills_83 L st S cs sl := rfl
theorem wn_L_fills_88 : wpN l G mi_L_fills Γ F sgs_L_fills (n + 1) 88 L st S cs sl = V l G mi_L_fills F 88 L st S cs sl := rfl
theorem wn_L_fills_170 : wpN l G mi_L_fills Γ F sgs_L_fills (n + 1) 170 L st S cs sl = wp G Γ (mR mi_L_fills) (wpN l G mi_L_fills Γ F sgs_L_fills n) (EX mi_L_fills F) sg_L_fills_170 L st S cs sl := rfl
theorem wn_L_fills_171 : wpN l G mi_L_fills Γ F sgs_L_fills (n + 1) 171 L st S cs sl = wp G Γ (mR mi_L_fills) (wpN l G mi_L_fills Γ F sgs_L_fills n) (EX mi_L_fills F) sg_L_fills_171 L st S cs sl := rfl
theorem wn_L_fills_179 : wpN l G mi_L_fills Γ F sgs_L_fills (n + 1) 179 L st S cs sl = wp G Γ (mR mi_L_fills) (wpN l G mi_L_fills Γ F sgs_L_fills n) (EX mi_L_fills F) sg_L_fills_179 L st S cs sl := rfl
theorem wn_L_fills_197 : wpN l G mi_L_fills Γ F sgs_L_fills (n + 1) 197 L st S cs sl = wp G Γ (mR mi_L_fills) (wpN l G mi_L_fills Γ F sgs_L_fills n) (EX mi_L_fills F) sg_L_fills_197 L st S cs sl := rfl
theorem wn_L_fills_198 : wpN l G mi_L_fills Γ F sgs_L_fills (n + 1) 198 L st S cs sl = wp G Γ (mR mi_L_fills) (wpN l G mi_L_fills Γ F sgs_L_fills n) (EX mi_L_fills F) sg_L_fills_198 L st S cs sl := rfl
theorem wn_L_clears_0 : wpN l G mi_L_clears Γ F sgs_L_clears (n + 1) 0 L st S cs sl = wp G Γ (mR mi_L_clears) (wpN l G mi_L_clears Γ F sgs_L_clears n) (EX mi_L_clears F) sg_L_clears_0 L st S cs sl := rfl
theorem wn_L_clears_32 : wpN l G mi_L_clears Γ F sgs_L_clears (n + 1) 32 L st S cs sl = wp G Γ (mR mi_L_clears) (wpN l G mi_L_clears Γ F sgs_L_clears n) (EX mi_L_clears F) sg_L_clears_32 L st S cs sl := rfl
theorem wn_L_clears_42 : wpN l G mi_L_clears Γ F sgs_L_clears (n + 1) 42 L st S cs sl = wp G Γ (mR mi_L_clears) (wpN l G mi_L_clears Γ F sgs_L_clears n) (EX mi_L_clears F) sg_L_clears_42 L st S cs sl := rfl
theorem wn_L_clears_46 : wpN l G mi_L_clears Γ F sgs_L_clears (n + 1) 46 L st S cs sl = wp G Γ (mR mi_L_clears) (wpN l G mi_L_clears Γ F sgs_L_clears n) (EX mi_L_clears F) sg_L_clears_46 L st S cs sl := rfl
theorem wn_L_clears_47 : wpN l G mi_L_clears Γ F sgs_L_clears (n + 1) 47 L st S cs sl = wp G Γ (mR mi_L_clears) (wpN l G mi_L_clears Γ F sgs_L_clears n) (EX mi_L_clears F) sg_L_clears_47 L st S cs sl := rfl
theorem wn_L_clears_48 : wpN l G mi_L_clears Γ F sgs_L_clears (n + 1) 48 L st S cs sl = wp G Γ (mR mi_L_clears) (wpN l G mi_L_clears Γ F sgs_L_clears n) (EX mi_L_clears F) sg_L_clears_48 L st S cs sl := rfl
theorem wn_L_clears_63 : wpN l G mi_L_clears Γ F sgs_L_clears (n + 1) 63 L st S cs sl = wp G Γ (mR mi_L_clears) (wpN l G mi_L_clears Γ F sgs_L_clears n) (EX mi_L_clears F) sg_L_clears_63 L st S cs sl := rfl
theorem wn_L_clears_64 : wpN l G mi_L_clears Γ F sgs_L_clears (n + 1) 64 L st S cs sl = wp G Γ (mR mi_L_clears) (wpN l G mi_L_clears Γ F sgs_L_clears n) (EX mi_L_clears F) sg_L_clears_64 L st S cs sl := rfl
theorem wn_L_clears_84 : wpN l G mi_L_clears Γ F sgs_L_clears (n + 1) 84 L st S cs sl = wp G Γ (mR mi_L_clears) (wpN l G mi_L_clears Γ F sgs_L_clears n) (EX mi_L_clears F) sg_L_clears_84 L st S cs sl := rfl
theorem wn_L_clears_85 : wpN l G mi_L_clears Γ F sgs_L_clears (n + 1) 85 L st S cs sl = wp G Γ (mR mi_L_clears) (wpN l G mi_L_clears Γ F sgs_L_clears n) (EX mi_L_clears F) sg_L_clears_85 L st S cs sl := rfl
theorem wn_L_clears_107 : wpN l G mi_L_clears Γ F sgs_L_clears (n + 1) 107 L st S cs sl = V l G mi_L_clears F 107 L st S cs sl := rfl
theorem wn_L_clears_166 : wpN l G mi_L_clears Γ F sgs_L_clears (n + 1) 166 L st S cs sl = wp G Γ (mR mi_L_clears) (wpN l G mi_L_clears Γ F sgs_L_clears n) (EX mi_L_clears F) sg_L_clears_166 L st S cs sl := rfl
theorem wn_L_clears_167 : wpN l G mi_L_clears Γ F sgs_L_clears (n + 1) 167 L st S cs sl = wp G Γ (mR mi_L_clears) (wpN l G mi_L_clears Γ F sgs_L_clears n) (EX mi_L_clears F) sg_L_clears_167 L st S cs sl := rfl
theorem wn_L_clears_187 : wpN l G mi_L_clears Γ F sgs_L_clears (n + 1) 187 L st S cs sl = wp G Γ (mR mi_L_clears) (wpN l G mi_L_clears Γ F sgs_L_clears n) (EX mi_L_clears F) sg_L_clears_187 L st S cs sl := rfl
theorem wn_L_clears_188 : wpN l G mi_L_clears Γ F sgs_L_clears (n + 1) 188 L st S cs sl = wp G Γ (mR mi_L_clears) (wpN l G mi_L_clears Γ F sgs_L_clears n) (EX mi_L_clears F) sg_L_clears_188 L st S cs sl := rfl
end PJ
