/-! stretches of code (printed by wip/whole/gen/meth.py) -/
def gm_X1_init : List MI := []
def sg_X1_init_0 : List Ins := [(0, .aload_n 0, 0, 0, 0, 0), (1, .invokespecial 3, 101, 0, 8, 0), (4, .aload_n 0, 0, 0, 0, 0), (5, .bipush 120, 120, 0, 0, 0), (7, .newarray .float, 9, 0, 126, 0), (9, .putfield 9, 1, 0, 102, 0), (12, .aload_n 0, 0, 0, 0, 0), (13, .bipush 120, 120, 0, 0, 0), (15, .newarray .int, 8, 0, 125, 0), (17, .putfield 15, 1, 1, 106, 0), (20, .aload_n 0, 0, 0, 0, 0), (21, .bipush 120, 120, 0, 0, 0), (23, .newarray .int, 8, 0, 125, 0), (25, .putfield 19, 1, 2, 109, 0), (28, .aload_n 0, 0, 0, 0, 0), (29, .bipush 120, 120, 0, 0, 0), (31, .newarray .int, 8, 0, 125, 0), (33, .putfield 22, 1, 3, 112, 0), (36, .return_, 0, 0, 0, 0)]
theorem so_X1_init_0 : sgOK mi_X1_init gm_X1_init sg_X1_init_0 = true := by decide +kernel
def sgs_X1_init : Nat → Option (List Ins) := fun t => match t with
  | 0 => some sg_X1_init_0
  | _ => none
theorem so_X1_init : ∀ t sg, sgs_X1_init t = some sg → sgOK mi_X1_init gm_X1_init sg = true ∧ segPc sg = t := by
  intro t sg h
  unfold sgs_X1_init at h
  split at h
  · cases h; exact ⟨so_X1_init_0, rfl⟩
  · cases h
def gm_X1_copyFrom : List MI := []
def sg_X1_copyFrom_0 : List Ins := [(0, .aload_n 1, 0, 0, 0, 0), (1, .getfield 9, 1, 0, 102, 0), (4, .iconst 0, 0, 0, 0, 0), (5, .aload_n 0, 0, 0, 0, 0), (6, .getfield 9, 1, 0, 102, 0), (9, .iconst 0, 0, 0, 0, 0), (10, .bipush 120, 120, 0, 0, 0), (12, .invokestatic 34, 305, 0, 5, 0), (15, .aload_n 1, 0, 0, 0, 0), (16, .getfield 15, 1, 1, 106, 0), (19, .iconst 0, 0, 0, 0, 0), (20, .aload_n 0, 0, 0, 0, 0), (21, .getfield 15, 1, 1, 106, 0), (24, .iconst 0, 0, 0, 0, 0), (25, .bipush 120, 120, 0, 0, 0), (27, .invokestatic 34, 305, 0, 4, 0), (30, .aload_n 1, 0, 0, 0, 0), (31, .getfield 19, 1, 2, 109, 0), (34, .iconst 0, 0, 0, 0, 0), (35, .aload_n 0, 0, 0, 0, 0), (36, .getfield 19, 1, 2, 109, 0), (39, .iconst 0, 0, 0, 0, 0), (40, .bipush 120, 120, 0, 0, 0), (42, .invokestatic 34, 305, 0, 4, 0), (45, .aload_n 1, 0, 0, 0, 0), (46, .getfield 22, 1, 3, 112, 0), (49, .iconst 0, 0, 0, 0, 0), (50, .aload_n 0, 0, 0, 0, 0), (51, .getfield 22, 1, 3, 112, 0), (54, .iconst 0, 0, 0, 0, 0), (55, .bipush 120, 120, 0, 0, 0), (57, .invokestatic 34, 305, 0, 4, 0), (60, .return_, 0, 0, 0, 0)]
theorem so_X1_copyFrom_0 : sgOK mi_X1_copyFrom gm_X1_copyFrom sg_X1_copyFrom_0 = true := by decide +kernel
def sgs_X1_copyFrom : Nat → Option (List Ins) := fun t => match t with
  | 0 => some sg_X1_copyFrom_0
  | _ => none
theorem so_X1_copyFrom : ∀ t sg, sgs_X1_copyFrom t = some sg → sgOK mi_X1_copyFrom gm_X1_copyFrom sg = true ∧ segPc sg = t := by
  intro t sg h
  unfold sgs_X1_copyFrom at h
  split at h
  · cases h; exact ⟨so_X1_copyFrom_0, rfl⟩
  · cases h
def gm_J7_fill_e525d : List MI := []
def sg_J7_fill_e525d_0 : List Ins := [(0, .iconst 0, 0, 0, 0, 0), (1, .istore_n 2, 0, 0, 0, 0), (2, .aload_n 0, 0, 0, 0, 0), (3, .arraylength, 9, 0, 0, 0), (4, .istore_n 3, 0, 0, 0, 0), (5, .nop, 0, 0, 0, 0)]
theorem so_J7_fill_e525d_0 : sgOK mi_J7_fill_e525d gm_J7_fill_e525d sg_J7_fill_e525d_0 = true := by decide +kernel
def sg_J7_fill_e525d_5 : List Ins := [(5, .iload_n 2, 0, 0, 0, 0), (6, .iload_n 3, 0, 0, 0, 0), (7, .if_icmp .ge 13, 0, 0, 20, 0), (10, .aload_n 0, 0, 0, 0, 0), (11, .iload_n 2, 0, 0, 0, 0), (12, .fload_n 1, 0, 0, 0, 0), (13, .fastore, 0, 0, 0, 0), (14, .iinc 2 1, 1, 0, 0, 0), (17, .goto (-12), 0, 0, 5, 0)]
theorem so_J7_fill_e525d_5 : sgOK mi_J7_fill_e525d gm_J7_fill_e525d sg_J7_fill_e525d_5 = true := by decide +kernel
def sg_J7_fill_e525d_20 : List Ins := [(20, .return_, 0, 0, 0, 0)]
theorem so_J7_fill_e525d_20 : sgOK mi_J7_fill_e525d gm_J7_fill_e525d sg_J7_fill_e525d_20 = true := by decide +kernel
def sgs_J7_fill_e525d : Nat → Option (List Ins) := fun t => match t with
  | 0 => some sg_J7_fill_e525d_0
  | 20 => some sg_J7_fill_e525d_20
  | _ => none
theorem so_J7_fill_e525d : ∀ t sg, sgs_J7_fill_e525d t = some sg → sgOK mi_J7_fill_e525d gm_J7_fill_e525d sg = true ∧ segPc sg = t := by
  intro t sg h
  unfold sgs_J7_fill_e525d at h
  split at h
  · cases h; exact ⟨so_J7_fill_e525d_0, rfl⟩
  · cases h; exact ⟨so_J7_fill_e525d_20, rfl⟩
  · cases h
def gm_J7_fill_53178 : List MI := []
def sg_J7_fill_53178_0 : List Ins := [(0, .iconst 0, 0, 0, 0, 0), (1, .istore_n 2, 0, 0, 0, 0), (2, .aload_n 0, 0, 0, 0, 0), (3, .arraylength, 8, 0, 0, 0), (4, .istore_n 3, 0, 0, 0, 0), (5, .nop, 0, 0, 0, 0)]
theorem so_J7_fill_53178_0 : sgOK mi_J7_fill_53178 gm_J7_fill_53178 sg_J7_fill_53178_0 = true := by decide +kernel
def sg_J7_fill_53178_5 : List Ins := [(5, .iload_n 2, 0, 0, 0, 0), (6, .iload_n 3, 0, 0, 0, 0), (7, .if_icmp .ge 13, 0, 0, 20, 0), (10, .aload_n 0, 0, 0, 0, 0), (11, .iload_n 2, 0, 0, 0, 0), (12, .iload_n 1, 0, 0, 0, 0), (13, .iastore, 0, 0, 0, 0), (14, .iinc 2 1, 1, 0, 0, 0), (17, .goto (-12), 0, 0, 5, 0)]
theorem so_J7_fill_53178_5 : sgOK mi_J7_fill_53178 gm_J7_fill_53178 sg_J7_fill_53178_5 = true := by decide +kernel
def sg_J7_fill_53178_20 : List Ins := [(20, .return_, 0, 0, 0, 0)]
theorem so_J7_fill_53178_20 : sgOK mi_J7_fill_53178 gm_J7_fill_53178 sg_J7_fill_53178_20 = true := by decide +kernel
def sgs_J7_fill_53178 : Nat → Option (List Ins) := fun t => match t with
  | 0 => some sg_J7_fill_53178_0
  | 20 => some sg_J7_fill_53178_20
  | _ => none
theorem so_J7_fill_53178 : ∀ t sg, sgs_J7_fill_53178 t = some sg → sgOK mi_J7_fill_53178 gm_J7_fill_53178 sg = true ∧ segPc sg = t := by
  intro t sg h
  unfold sgs_J7_fill_53178 at h
  split at h
  · cases h; exact ⟨so_J7_fill_53178_0, rfl⟩
  · cases h; exact ⟨so_J7_fill_53178_20, rfl⟩
  · cases h
def gm_X1_makeNew : List MI := [mi_J7_fill_e525d, mi_J7_fill_53178]
def sg_X1_makeNew_0 : List Ins := [(0, .aload_n 0, 0, 0, 0, 0), (1, .getfield 9, 1, 0, 102, 0), (4, .fconst 1, 0, 0, 0, 0), (5, .invokestatic 25, 333, 0, 0, 2), (8, .aload_n 0, 0, 0, 0, 0), (9, .getfield 15, 1, 1, 106, 0), (12, .bipush (-6), 6, 1, 0, 0), (14, .invokestatic 31, 336, 1, 0, 2), (17, .aload_n 0, 0, 0, 0, 0), (18, .getfield 19, 1, 2, 109, 0), (21, .bipush (-6), 6, 1, 0, 0), (23, .invokestatic 31, 336, 1, 0, 2), (26, .aload_n 0, 0, 0, 0, 0), (27, .getfield 22, 1, 3, 112, 0), (30, .bipush (-6), 6, 1, 0, 0), (32, .invokestatic 31, 336, 1, 0, 2), (35, .return_, 0, 0, 0, 0)]
theorem so_X1_makeNew_0 : sgOK mi_X1_makeNew gm_X1_makeNew sg_X1_makeNew_0 = true := by decide +kernel
def sgs_X1_makeNew : Nat → Option (List Ins) := fun t => match t with
  | 0 => some sg_X1_makeNew_0
  | _ => none
theorem so_X1_makeNew : ∀ t sg, sgs_X1_makeNew t = some sg → sgOK mi_X1_makeNew gm_X1_makeNew sg = true ∧ segPc sg = t := by
  intro t sg h
  unfold sgs_X1_makeNew at h
  split at h
  · cases h; exact ⟨so_X1_makeNew_0, rfl⟩
  · cases h
def gm_J9_max_7cf53 : List MI := []
def sg_J9_max_7cf53_0 : List Ins := [(0, .iload_n 0, 0, 0, 0, 0), (1, .iload_n 1, 0, 0, 0, 0), (2, .if_icmp .lt 7, 0, 0, 9, 0), (5, .iload_n 0, 0, 0, 0, 0), (6, .goto 4, 0, 0, 10, 0)]
theorem so_J9_max_7cf53_0 : sgOK mi_J9_max_7cf53 gm_J9_max_7cf53 sg_J9_max_7cf53_0 = true := by decide +kernel
def sg_J9_max_7cf53_9 : List Ins := [(9, .iload_n 1, 0, 0, 0, 0), (10, .ireturn, 0, 0, 0, 0)]
theorem so_J9_max_7cf53_9 : sgOK mi_J9_max_7cf53 gm_J9_max_7cf53 sg_J9_max_7cf53_9 = true := by decide +kernel
def sg_J9_max_7cf53_10 : List Ins := [(10, .ireturn, 0, 0, 0, 0)]
theorem so_J9_max_7cf53_10 : sgOK mi_J9_max_7cf53 gm_J9_max_7cf53 sg_J9_max_7cf53_10 = true := by decide +kernel
def sgs_J9_max_7cf53 : Nat → Option (List Ins) := fun t => match t with
  | 0 => some sg_J9_max_7cf53_0
  | 9 => some sg_J9_max_7cf53_9
  | 10 => some sg_J9_max_7cf53_10
  | _ => none
theorem so_J9_max_7cf53 : ∀ t sg, sgs_J9_max_7cf53 t = some sg → sgOK mi_J9_max_7cf53 gm_J9_max_7cf53 sg = true ∧ segPc sg = t := by
  intro t sg h
  unfold sgs_J9_max_7cf53 at h
  split at h
  · cases h; exact ⟨so_J9_max_7cf53_0, rfl⟩
  · cases h; exact ⟨so_J9_max_7cf53_9, rfl⟩
  · cases h; exact ⟨so_J9_max_7cf53_10, rfl⟩
  · cases h
def gm_J9_min_7cf53 : List MI := []
def sg_J9_min_7cf53_0 : List Ins := [(0, .iload_n 0, 0, 0, 0, 0), (1, .iload_n 1, 0, 0, 0, 0), (2, .if_icmp .gt 7, 0, 0, 9, 0), (5, .iload_n 0, 0, 0, 0, 0), (6, .goto 4, 0, 0, 10, 0)]
theorem so_J9_min_7cf53_0 : sgOK mi_J9_min_7cf53 gm_J9_min_7cf53 sg_J9_min_7cf53_0 = true := by decide +kernel
def sg_J9_min_7cf53_9 : List Ins := [(9, .iload_n 1, 0, 0, 0, 0), (10, .ireturn, 0, 0, 0, 0)]
theorem so_J9_min_7cf53_9 : sgOK mi_J9_min_7cf53 gm_J9_min_7cf53 sg_J9_min_7cf53_9 = true := by decide +kernel
def sg_J9_min_7cf53_10 : List Ins := [(10, .ireturn, 0, 0, 0, 0)]
theorem so_J9_min_7cf53_10 : sgOK mi_J9_min_7cf53 gm_J9_min_7cf53 sg_J9_min_7cf53_10 = true := by decide +kernel
def sgs_J9_min_7cf53 : Nat → Option (List Ins) := fun t => match t with
  | 0 => some sg_J9_min_7cf53_0
  | 9 => some sg_J9_min_7cf53_9
  | 10 => some sg_J9_min_7cf53_10
  | _ => none
theorem so_J9_min_7cf53 : ∀ t sg, sgs_J9_min_7cf53 t = some sg → sgOK mi_J9_min_7cf53 gm_J9_min_7cf53 sg = true ∧ segPc sg = t := by
  intro t sg h
  unfold sgs_J9_min_7cf53 at h
  split at h
  · cases h; exact ⟨so_J9_min_7cf53_0, rfl⟩
  · cases h; exact ⟨so_J9_min_7cf53_9, rfl⟩
  · cases h; exact ⟨so_J9_min_7cf53_10, rfl⟩
  · cases h
def gm_J9_abs_0f7a4 : List MI := []
def sg_J9_abs_0f7a4_0 : List Ins := [(0, .iload_n 0, 0, 0, 0, 0), (1, .ifCond .ge 8, 0, 0, 9, 0), (4, .iload_n 0, 0, 0, 0, 0), (5, .ineg, 0, 0, 0, 0), (6, .goto 4, 0, 0, 10, 0)]
theorem so_J9_abs_0f7a4_0 : sgOK mi_J9_abs_0f7a4 gm_J9_abs_0f7a4 sg_J9_abs_0f7a4_0 = true := by decide +kernel
def sg_J9_abs_0f7a4_9 : List Ins := [(9, .iload_n 0, 0, 0, 0, 0), (10, .ireturn, 0, 0, 0, 0)]
theorem so_J9_abs_0f7a4_9 : sgOK mi_J9_abs_0f7a4 gm_J9_abs_0f7a4 sg_J9_abs_0f7a4_9 = true := by decide +kernel
def sg_J9_abs_0f7a4_10 : List Ins := [(10, .ireturn, 0, 0, 0, 0)]
theorem so_J9_abs_0f7a4_10 : sgOK mi_J9_abs_0f7a4 gm_J9_abs_0f7a4 sg_J9_abs_0f7a4_10 = true := by decide +kernel
def sgs_J9_abs_0f7a4 : Nat → Option (List Ins) := fun t => match t with
  | 0 => some sg_J9_abs_0f7a4_0
  | 9 => some sg_J9_abs_0f7a4_9
  | 10 => some sg_J9_abs_0f7a4_10
  | _ => none
theorem so_J9_abs_0f7a4 : ∀ t sg, sgs_J9_abs_0f7a4 t = some sg → sgOK mi_J9_abs_0f7a4 gm_J9_abs_0f7a4 sg = true ∧ segPc sg = t := by
  intro t sg h
  unfold sgs_J9_abs_0f7a4 at h
  split at h
  · cases h; exact ⟨so_J9_abs_0f7a4_0, rfl⟩
  · cases h; exact ⟨so_J9_abs_0f7a4_9, rfl⟩
  · cases h; exact ⟨so_J9_abs_0f7a4_10, rfl⟩
  · cases h
def gm_X1_isFree : List MI := []
def sg_X1_isFree_0 : List Ins := [(0, .aload_n 0, 0, 0, 0, 0), (1, .getfield 15, 1, 1, 106, 0), (4, .iload_n 1, 0, 0, 0, 0), (5, .iaload, 8, 0, 0, 0), (6, .bipush (-6), 6, 1, 0, 0), (8, .if_icmp .ne 18, 0, 0, 26, 0), (11, .aload_n 0, 0, 0, 0, 0), (12, .getfield 22, 1, 3, 112, 0), (15, .iload_n 1, 0, 0, 0, 0), (16, .iaload, 8, 0, 0, 0), (17, .bipush (-6), 6, 1, 0, 0), (19, .if_icmp .ne 7, 0, 0, 26, 0), (22, .iconst 1, 1, 0, 0, 0), (23, .goto 4, 0, 0, 27, 0)]
theorem so_X1_isFree_0 : sgOK mi_X1_isFree gm_X1_isFree sg_X1_isFree_0 = true := by decide +kernel
def sg_X1_isFree_26 : List Ins := [(26, .iconst 0, 0, 0, 0, 0), (27, .ireturn, 0, 0, 0, 0)]
theorem so_X1_isFree_26 : sgOK mi_X1_isFree gm_X1_isFree sg_X1_isFree_26 = true := by decide +kernel
def sg_X1_isFree_27 : List Ins := [(27, .ireturn, 0, 0, 0, 0)]
theorem so_X1_isFree_27 : sgOK mi_X1_isFree gm_X1_isFree sg_X1_isFree_27 = true := by decide +kernel
def sgs_X1_isFree : Nat → Option (List Ins) := fun t => match t with
  | 0 => some sg_X1_isFree_0
  | 26 => some sg_X1_isFree_26
  | 27 => some sg_X1_isFree_27
  | _ => none
theorem so_X1_isFree : ∀ t sg, sgs_X1_isFree t = some sg → sgOK mi_X1_isFree gm_X1_isFree sg = true ∧ segPc sg = t := by
  intro t sg h
  unfold sgs_X1_isFree at h
  split at h
  · cases h; exact ⟨so_X1_isFree_0, rfl⟩
  · cases h; exact ⟨so_X1_isFree_26, rfl⟩
  · cases h; exact ⟨so_X1_isFree_27, rfl⟩
  · cases h
def gm_X1_promisedPlaces : List MI := []
def sg_X1_promisedPlaces_0 : List Ins := [(0, .iconst 0, 0, 0, 0, 0), (1, .istore_n 1, 0, 0, 0, 0), (2, .iconst 0, 0, 0, 0, 0), (3, .istore_n 2, 0, 0, 0, 0), (4, .nop, 0, 0, 0, 0)]
theorem so_X1_promisedPlaces_0 : sgOK mi_X1_promisedPlaces gm_X1_promisedPlaces sg_X1_promisedPlaces_0 = true := by decide +kernel
def sg_X1_promisedPlaces_4 : List Ins := [(4, .iload_n 2, 0, 0, 0, 0), (5, .bipush 120, 120, 0, 0, 0), (7, .if_icmp .ge 28, 0, 0, 35, 0), (10, .iload_n 1, 0, 0, 0, 0), (11, .aload_n 0, 0, 0, 0, 0), (12, .getfield 22, 1, 3, 112, 0), (15, .iload_n 2, 0, 0, 0, 0), (16, .iaload, 8, 0, 0, 0), (17, .bipush (-6), 6, 1, 0, 0), (19, .if_icmp .eq 7, 0, 0, 26, 0), (22, .iconst 1, 1, 0, 0, 0), (23, .goto 4, 0, 0, 27, 0)]
theorem so_X1_promisedPlaces_4 : sgOK mi_X1_promisedPlaces gm_X1_promisedPlaces sg_X1_promisedPlaces_4 = true := by decide +kernel
def sg_X1_promisedPlaces_26 : List Ins := [(26, .iconst 0, 0, 0, 0, 0), (27, .iadd, 0, 0, 0, 0), (28, .istore_n 1, 0, 0, 0, 0), (29, .iinc 2 1, 1, 0, 0, 0), (32, .goto (-28), 0, 0, 4, 0)]
theorem so_X1_promisedPlaces_26 : sgOK mi_X1_promisedPlaces gm_X1_promisedPlaces sg_X1_promisedPlaces_26 = true := by decide +kernel
def sg_X1_promisedPlaces_27 : List Ins := [(27, .iadd, 0, 0, 0, 0), (28, .istore_n 1, 0, 0, 0, 0), (29, .iinc 2 1, 1, 0, 0, 0), (32, .goto (-28), 0, 0, 4, 0)]
theorem so_X1_promisedPlaces_27 : sgOK mi_X1_promisedPlaces gm_X1_promisedPlaces sg_X1_promisedPlaces_27 = true := by decide +kernel
def sg_X1_promisedPlaces_35 : List Ins := [(35, .iload_n 1, 0, 0, 0, 0), (36, .ireturn, 0, 0, 0, 0)]
theorem so_X1_promisedPlaces_35 : sgOK mi_X1_promisedPlaces gm_X1_promisedPlaces sg_X1_promisedPlaces_35 = true := by decide +kernel
def sgs_X1_promisedPlaces : Nat → Option (List Ins) := fun t => match t with
  | 0 => some sg_X1_promisedPlaces_0
  | 26 => some sg_X1_promisedPlaces_26
  | 27 => some sg_X1_promisedPlaces_27
  | 35 => some sg_X1_promisedPlaces_35
  | _ => none
theorem so_X1_promisedPlaces : ∀ t sg, sgs_X1_promisedPlaces t = some sg → sgOK mi_X1_promisedPlaces gm_X1_promisedPlaces sg = true ∧ segPc sg = t := by
  intro t sg h
  unfold sgs_X1_promisedPlaces at h
  split at h
  · cases h; exact ⟨so_X1_promisedPlaces_0, rfl⟩
  · cases h; exact ⟨so_X1_promisedPlaces_26, rfl⟩
  · cases h; exact ⟨so_X1_promisedPlaces_27, rfl⟩
  · cases h; exact ⟨so_X1_promisedPlaces_35, rfl⟩
  · cases h
def gm_X1_leastLight : List MI := []
def sg_X1_leastLight_0 : List Ins := [(0, .aload_n 0, 0, 0, 0, 0), (1, .getfield 9, 1, 0, 102, 0), (4, .iconst 0, 0, 0, 0, 0), (5, .faload, 0, 0, 0, 0), (6, .fstore_n 1, 0, 0, 0, 0), (7, .iconst 1, 1, 0, 0, 0), (8, .istore_n 2, 0, 0, 0, 0), (9, .nop, 0, 0, 0, 0)]
theorem so_X1_leastLight_0 : sgOK mi_X1_leastLight gm_X1_leastLight sg_X1_leastLight_0 = true := by decide +kernel
def sg_X1_leastLight_9 : List Ins := [(9, .iload_n 2, 0, 0, 0, 0), (10, .bipush 120, 120, 0, 0, 0), (12, .if_icmp .ge 31, 0, 0, 43, 0), (15, .aload_n 0, 0, 0, 0, 0), (16, .getfield 9, 1, 0, 102, 0), (19, .iload_n 2, 0, 0, 0, 0), (20, .faload, 0, 0, 0, 0), (21, .fload_n 1, 0, 0, 0, 0), (22, .fcmp .g, 0, 0, 0, 0), (23, .ifCond .ge 12, 0, 0, 35, 0), (26, .aload_n 0, 0, 0, 0, 0), (27, .getfield 9, 1, 0, 102, 0), (30, .iload_n 2, 0, 0, 0, 0), (31, .faload, 0, 0, 0, 0), (32, .goto 4, 0, 0, 36, 0)]
theorem so_X1_leastLight_9 : sgOK mi_X1_leastLight gm_X1_leastLight sg_X1_leastLight_9 = true := by decide +kernel
def sg_X1_leastLight_35 : List Ins := [(35, .fload_n 1, 0, 0, 0, 0), (36, .fstore_n 1, 0, 0, 0, 0), (37, .iinc 2 1, 1, 0, 0, 0), (40, .goto (-31), 0, 0, 9, 0)]
theorem so_X1_leastLight_35 : sgOK mi_X1_leastLight gm_X1_leastLight sg_X1_leastLight_35 = true := by decide +kernel
def sg_X1_leastLight_36 : List Ins := [(36, .fstore_n 1, 0, 0, 0, 0), (37, .iinc 2 1, 1, 0, 0, 0), (40, .goto (-31), 0, 0, 9, 0)]
theorem so_X1_leastLight_36 : sgOK mi_X1_leastLight gm_X1_leastLight sg_X1_leastLight_36 = true := by decide +kernel
def sg_X1_leastLight_43 : List Ins := [(43, .fload_n 1, 0, 0, 0, 0), (44, .freturn, 0, 0, 0, 0)]
theorem so_X1_leastLight_43 : sgOK mi_X1_leastLight gm_X1_leastLight sg_X1_leastLight_43 = true := by decide +kernel
def sgs_X1_leastLight : Nat → Option (List Ins) := fun t => match t with
  | 0 => some sg_X1_leastLight_0
  | 35 => some sg_X1_leastLight_35
  | 36 => some sg_X1_leastLight_36
  | 43 => some sg_X1_leastLight_43
  | _ => none
theorem so_X1_leastLight : ∀ t sg, sgs_X1_leastLight t = some sg → sgOK mi_X1_leastLight gm_X1_leastLight sg = true ∧ segPc sg = t := by
  intro t sg h
  unfold sgs_X1_leastLight at h
  split at h
  · cases h; exact ⟨so_X1_leastLight_0, rfl⟩
  · cases h; exact ⟨so_X1_leastLight_35, rfl⟩
  · cases h; exact ⟨so_X1_leastLight_36, rfl⟩
  · cases h; exact ⟨so_X1_leastLight_43, rfl⟩
  · cases h
def gm_X1_sumOfLight : List MI := []
def sg_X1_sumOfLight_0 : List Ins := [(0, .fconst 0, 0, 0, 0, 0), (1, .fstore_n 1, 0, 0, 0, 0), (2, .iconst 0, 0, 0, 0, 0), (3, .istore_n 2, 0, 0, 0, 0), (4, .nop, 0, 0, 0, 0)]
theorem so_X1_sumOfLight_0 : sgOK mi_X1_sumOfLight gm_X1_sumOfLight sg_X1_sumOfLight_0 = true := by decide +kernel
def sg_X1_sumOfLight_4 : List Ins := [(4, .iload_n 2, 0, 0, 0, 0), (5, .bipush 120, 120, 0, 0, 0), (7, .if_icmp .ge 18, 0, 0, 25, 0), (10, .fload_n 1, 0, 0, 0, 0), (11, .aload_n 0, 0, 0, 0, 0), (12, .getfield 9, 1, 0, 102, 0), (15, .iload_n 2, 0, 0, 0, 0), (16, .faload, 0, 0, 0, 0), (17, .fadd, 0, 0, 0, 0), (18, .fstore_n 1, 0, 0, 0, 0), (19, .iinc 2 1, 1, 0, 0, 0), (22, .goto (-18), 0, 0, 4, 0)]
theorem so_X1_sumOfLight_4 : sgOK mi_X1_sumOfLight gm_X1_sumOfLight sg_X1_sumOfLight_4 = true := by decide +kernel
def sg_X1_sumOfLight_25 : List Ins := [(25, .fload_n 1, 0, 0, 0, 0), (26, .freturn, 0, 0, 0, 0)]
theorem so_X1_sumOfLight_25 : sgOK mi_X1_sumOfLight gm_X1_sumOfLight sg_X1_sumOfLight_25 = true := by decide +kernel
def sgs_X1_sumOfLight : Nat → Option (List Ins) := fun t => match t with
  | 0 => some sg_X1_sumOfLight_0
  | 25 => some sg_X1_sumOfLight_25
  | _ => none
theorem so_X1_sumOfLight : ∀ t sg, sgs_X1_sumOfLight t = some sg → sgOK mi_X1_sumOfLight gm_X1_sumOfLight sg = true ∧ segPc sg = t := by
  intro t sg h
  unfold sgs_X1_sumOfLight at h
  split at h
  · cases h; exact ⟨so_X1_sumOfLight_0, rfl⟩
  · cases h; exact ⟨so_X1_sumOfLight_25, rfl⟩
  · cases h
def gm_X4_init : List MI := []
def sg_X4_init_0 : List Ins := [(0, .aload_n 0, 0, 0, 0, 0), (1, .invokespecial 3, 195, 0, 8, 0), (4, .aload_n 0, 0, 0, 0, 0), (5, .bipush 80, 80, 0, 0, 0), (7, .newarray .char, 11, 0, 207, 0), (9, .putfield 11, 4, 0, 196, 0), (12, .aload_n 0, 0, 0, 0, 0), (13, .iconst 0, 0, 0, 0, 0), (14, .putfield 15, 4, 1, 198, 0), (17, .return_, 0, 0, 0, 0)]
theorem so_X4_init_0 : sgOK mi_X4_init gm_X4_init sg_X4_init_0 = true := by decide +kernel
def sgs_X4_init : Nat → Option (List Ins) := fun t => match t with
  | 0 => some sg_X4_init_0
  | _ => none
theorem so_X4_init : ∀ t sg, sgs_X4_init t = some sg → sgOK mi_X4_init gm_X4_init sg = true ∧ segPc sg = t := by
  intro t sg h
  unfold sgs_X4_init at h
  split at h
  · cases h; exact ⟨so_X4_init_0, rfl⟩
  · cases h
def gm_X3_init : List MI := [mi_X4_init]
def sg_X3_init_0 : List Ins := [(0, .aload_n 0, 0, 0, 0, 0), (1, .invokespecial 3, 189, 0, 8, 0), (4, .aload_n 0, 0, 0, 0, 0), (5, .new 9, 4, 191, 190, 72), (8, .dup, 0, 0, 0, 0), (9, .invokespecial 11, 192, 0, 3, 1), (12, .putfield 12, 3, 0, 208, 0), (15, .aload_n 0, 0, 0, 0, 0), (16, .bipush 80, 80, 0, 0, 0), (18, .newarray .char, 11, 0, 207, 0), (20, .putfield 18, 3, 1, 210, 0), (23, .aload_n 0, 0, 0, 0, 0), (24, .bipush 80, 80, 0, 0, 0), (26, .newarray .int, 8, 0, 125, 0), (28, .putfield 22, 3, 2, 212, 0), (31, .aload_n 0, 0, 0, 0, 0), (32, .bipush 80, 80, 0, 0, 0), (34, .newarray .int, 8, 0, 125, 0), (36, .putfield 26, 3, 3, 214, 0), (39, .aload_n 0, 0, 0, 0, 0), (40, .bipush 80, 80, 0, 0, 0), (42, .newarray .int, 8, 0, 125, 0), (44, .putfield 29, 3, 4, 216, 0), (47, .aload_n 0, 0, 0, 0, 0), (48, .bipush 80, 80, 0, 0, 0), (50, .newarray .int, 8, 0, 125, 0), (52, .putfield 32, 3, 5, 218, 0), (55, .aload_n 0, 0, 0, 0, 0), (56, .iconst 0, 0, 0, 0, 0), (57, .putfield 35, 3, 6, 220, 0), (60, .aload_n 0, 0, 0, 0, 0), (61, .iconst 0, 0, 0, 0, 0), (62, .putfield 39, 3, 7, 222, 0), (65, .aload_n 0, 0, 0, 0, 0), (66, .iconst 0, 0, 0, 0, 0), (67, .putfield 42, 3, 8, 223, 0), (70, .aload_n 0, 0, 0, 0, 0), (71, .iconst 0, 0, 0, 0, 0), (72, .putfield 45, 3, 9, 224, 0), (75, .aload_n 0, 0, 0, 0, 0), (76, .iconst 0, 0, 0, 0, 0), (77, .putfield 48, 3, 10, 225, 0), (80, .aload_n 0, 0, 0, 0, 0), (81, .iconst 0, 0, 0, 0, 0), (82, .putfield 51, 3, 11, 226, 0), (85, .return_, 0, 0, 0, 0)]
theorem so_X3_init_0 : sgOK mi_X3_init gm_X3_init sg_X3_init_0 = true := by decide +kernel
def sgs_X3_init : Nat → Option (List Ins) := fun t => match t with
  | 0 => some sg_X3_init_0
  | _ => none
theorem so_X3_init : ∀ t sg, sgs_X3_init t = some sg → sgOK mi_X3_init gm_X3_init sg = true ∧ segPc sg = t := by
  intro t sg h
  unfold sgs_X3_init at h
  split at h
  · cases h; exact ⟨so_X3_init_0, rfl⟩
  · cases h
def gm_X3_look : List MI := []
def sg_X3_look_0 : List Ins := [(0, .aload_n 0, 0, 0, 0, 0), (1, .getfield 39, 3, 7, 222, 0), (4, .aload_n 0, 0, 0, 0, 0), (5, .getfield 12, 3, 0, 208, 0), (8, .getfield 58, 4, 1, 199, 0), (11, .if_icmp .ge 18, 0, 0, 29, 0), (14, .aload_n 0, 0, 0, 0, 0), (15, .getfield 12, 3, 0, 208, 0), (18, .getfield 94, 4, 0, 197, 0), (21, .aload_n 0, 0, 0, 0, 0), (22, .getfield 39, 3, 7, 222, 0), (25, .caload, 0, 0, 0, 0), (26, .goto 4, 0, 0, 30, 0)]
theorem so_X3_look_0 : sgOK mi_X3_look gm_X3_look sg_X3_look_0 = true := by decide +kernel
def sg_X3_look_29 : List Ins := [(29, .iconst 0, 0, 0, 0, 0), (30, .ireturn, 0, 0, 0, 0)]
theorem so_X3_look_29 : sgOK mi_X3_look gm_X3_look sg_X3_look_29 = true := by decide +kernel
def sg_X3_look_30 : List Ins := [(30, .ireturn, 0, 0, 0, 0)]
theorem so_X3_look_30 : sgOK mi_X3_look gm_X3_look sg_X3_look_30 = true := by decide +kernel
def sgs_X3_look : Nat → Option (List Ins) := fun t => match t with
  | 0 => some sg_X3_look_0
  | 29 => some sg_X3_look_29
  | 30 => some sg_X3_look_30
  | _ => none
theorem so_X3_look : ∀ t sg, sgs_X3_look t = some sg → sgOK mi_X3_look gm_X3_look sg = true ∧ segPc sg = t := by
  intro t sg h
  unfold sgs_X3_look at h
  split at h
  · cases h; exact ⟨so_X3_look_0, rfl⟩
  · cases h; exact ⟨so_X3_look_29, rfl⟩
  · cases h; exact ⟨so_X3_look_30, rfl⟩
  · cases h
def gm_X3_reads : List MI := [mi_X3_look]
def sg_X3_reads_0 : List Ins := [(0, .aload_n 0, 0, 0, 0, 0), (1, .invokevirtual 65, 648, 0, 13, 1), (4, .iload_n 1, 0, 0, 0, 0), (5, .if_icmp .eq 5, 0, 0, 10, 0), (8, .iconst 0, 0, 0, 0, 0), (9, .ireturn, 0, 0, 0, 0)]
theorem so_X3_reads_0 : sgOK mi_X3_reads gm_X3_reads sg_X3_reads_0 = true := by decide +kernel
def sg_X3_reads_10 : List Ins := [(10, .aload_n 0, 0, 0, 0, 0), (11, .dup, 0, 0, 0, 0), (12, .getfield 39, 3, 7, 222, 0), (15, .iconst 1, 1, 0, 0, 0), (16, .iadd, 0, 0, 0, 0), (17, .putfield 39, 3, 7, 222, 0), (20, .iconst 1, 1, 0, 0, 0), (21, .ireturn, 0, 0, 0, 0)]
theorem so_X3_reads_10 : sgOK mi_X3_reads gm_X3_reads sg_X3_reads_10 = true := by decide +kernel
def sgs_X3_reads : Nat → Option (List Ins) := fun t => match t with
  | 0 => some sg_X3_reads_0
  | 10 => some sg_X3_reads_10
  | _ => none
theorem so_X3_reads : ∀ t sg, sgs_X3_reads t = some sg → sgOK mi_X3_reads gm_X3_reads sg = true ∧ segPc sg = t := by
  intro t sg h
  unfold sgs_X3_reads at h
  split at h
  · cases h; exact ⟨so_X3_reads_0, rfl⟩
  · cases h; exact ⟨so_X3_reads_10, rfl⟩
  · cases h
def gm_X3_add : List MI := []
def sg_X3_add_0 : List Ins := [(0, .aload_n 0, 0, 0, 0, 0), (1, .getfield 35, 3, 6, 220, 0), (4, .bipush 80, 80, 0, 0, 0), (6, .if_icmp .ge 72, 0, 0, 78, 0), (9, .aload_n 0, 0, 0, 0, 0), (10, .getfield 18, 3, 1, 210, 0), (13, .aload_n 0, 0, 0, 0, 0), (14, .getfield 35, 3, 6, 220, 0), (17, .iload_n 1, 0, 0, 0, 0), (18, .castore, 0, 0, 0, 0), (19, .aload_n 0, 0, 0, 0, 0), (20, .getfield 22, 3, 2, 212, 0), (23, .aload_n 0, 0, 0, 0, 0), (24, .getfield 35, 3, 6, 220, 0), (27, .aload_n 0, 0, 0, 0, 0), (28, .getfield 45, 3, 9, 224, 0), (31, .iastore, 0, 0, 0, 0), (32, .aload_n 0, 0, 0, 0, 0), (33, .getfield 26, 3, 3, 214, 0), (36, .aload_n 0, 0, 0, 0, 0), (37, .getfield 35, 3, 6, 220, 0), (40, .aload_n 0, 0, 0, 0, 0), (41, .getfield 48, 3, 10, 225, 0), (44, .iastore, 0, 0, 0, 0), (45, .aload_n 0, 0, 0, 0, 0), (46, .getfield 29, 3, 4, 216, 0), (49, .aload_n 0, 0, 0, 0, 0), (50, .getfield 35, 3, 6, 220, 0), (53, .aload_n 0, 0, 0, 0, 0), (54, .getfield 51, 3, 11, 226, 0), (57, .iastore, 0, 0, 0, 0), (58, .aload_n 0, 0, 0, 0, 0), (59, .getfield 32, 3, 5, 218, 0), (62, .aload_n 0, 0, 0, 0, 0), (63, .getfield 35, 3, 6, 220, 0), (66, .iload_n 2, 0, 0, 0, 0), (67, .iastore, 0, 0, 0, 0), (68, .aload_n 0, 0, 0, 0, 0), (69, .dup, 0, 0, 0, 0), (70, .getfield 35, 3, 6, 220, 0), (73, .iconst 1, 1, 0, 0, 0), (74, .iadd, 0, 0, 0, 0), (75, .putfield 35, 3, 6, 220, 0), (78, .iconst 1, 1, 0, 0, 0), (79, .ireturn, 0, 0, 0, 0)]
theorem so_X3_add_0 : sgOK mi_X3_add gm_X3_add sg_X3_add_0 = true := by decide +kernel
def sg_X3_add_78 : List Ins := [(78, .iconst 1, 1, 0, 0, 0), (79, .ireturn, 0, 0, 0, 0)]
theorem so_X3_add_78 : sgOK mi_X3_add gm_X3_add sg_X3_add_78 = true := by decide +kernel
def sgs_X3_add : Nat → Option (List Ins) := fun t => match t with
  | 0 => some sg_X3_add_0
  | 78 => some sg_X3_add_78
  | _ => none
theorem so_X3_add : ∀ t sg, sgs_X3_add t = some sg → sgOK mi_X3_add gm_X3_add sg = true ∧ segPc sg = t := by
  intro t sg h
  unfold sgs_X3_add at h
  split at h
  · cases h; exact ⟨so_X3_add_0, rfl⟩
  · cases h; exact ⟨so_X3_add_78, rfl⟩
  · cases h
def gm_X3_isDigit : List MI := []
def sg_X3_isDigit_0 : List Ins := [(0, .iload_n 0, 0, 0, 0, 0), (1, .bipush 48, 48, 0, 0, 0), (3, .if_icmp .lt 13, 0, 0, 16, 0), (6, .iload_n 0, 0, 0, 0, 0), (7, .bipush 57, 57, 0, 0, 0), (9, .if_icmp .gt 7, 0, 0, 16, 0), (12, .iconst 1, 1, 0, 0, 0), (13, .goto 4, 0, 0, 17, 0)]
theorem so_X3_isDigit_0 : sgOK mi_X3_isDigit gm_X3_isDigit sg_X3_isDigit_0 = true := by decide +kernel
def sg_X3_isDigit_16 : List Ins := [(16, .iconst 0, 0, 0, 0, 0), (17, .ireturn, 0, 0, 0, 0)]
theorem so_X3_isDigit_16 : sgOK mi_X3_isDigit gm_X3_isDigit sg_X3_isDigit_16 = true := by decide +kernel
def sg_X3_isDigit_17 : List Ins := [(17, .ireturn, 0, 0, 0, 0)]
theorem so_X3_isDigit_17 : sgOK mi_X3_isDigit gm_X3_isDigit sg_X3_isDigit_17 = true := by decide +kernel
def sgs_X3_isDigit : Nat → Option (List Ins) := fun t => match t with
  | 0 => some sg_X3_isDigit_0
  | 16 => some sg_X3_isDigit_16
  | 17 => some sg_X3_isDigit_17
  | _ => none
theorem so_X3_isDigit : ∀ t sg, sgs_X3_isDigit t = some sg → sgOK mi_X3_isDigit gm_X3_isDigit sg = true ∧ segPc sg = t := by
  intro t sg h
  unfold sgs_X3_isDigit at h
  split at h
  · cases h; exact ⟨so_X3_isDigit_0, rfl⟩
  · cases h; exact ⟨so_X3_isDigit_16, rfl⟩
  · cases h; exact ⟨so_X3_isDigit_17, rfl⟩
  · cases h
def gm_X3_readFirstDigit : List MI := [mi_X3_look, mi_X3_isDigit]
def sg_X3_readFirstDigit_0 : List Ins := [(0, .aload_n 0, 0, 0, 0, 0), (1, .invokevirtual 65, 648, 0, 13, 1), (4, .invokestatic 85, 664, 1, 0, 1), (7, .ifCond .ne 5, 0, 0, 12, 0), (10, .iconst 0, 0, 0, 0, 0), (11, .ireturn, 0, 0, 0, 0)]
theorem so_X3_readFirstDigit_0 : sgOK mi_X3_readFirstDigit gm_X3_readFirstDigit sg_X3_readFirstDigit_0 = true := by decide +kernel
def sg_X3_readFirstDigit_12 : List Ins := [(12, .aload_n 0, 0, 0, 0, 0), (13, .aload_n 0, 0, 0, 0, 0), (14, .invokevirtual 65, 648, 0, 13, 1), (17, .bipush 48, 48, 0, 0, 0), (19, .isub, 0, 0, 0, 0), (20, .putfield 45, 3, 9, 224, 0), (23, .aload_n 0, 0, 0, 0, 0), (24, .dup, 0, 0, 0, 0), (25, .getfield 39, 3, 7, 222, 0), (28, .iconst 1, 1, 0, 0, 0), (29, .iadd, 0, 0, 0, 0), (30, .putfield 39, 3, 7, 222, 0), (33, .iconst 1, 1, 0, 0, 0), (34, .ireturn, 0, 0, 0, 0)]
theorem so_X3_readFirstDigit_12 : sgOK mi_X3_readFirstDigit gm_X3_readFirstDigit sg_X3_readFirstDigit_12 = true := by decide +kernel
def sgs_X3_readFirstDigit : Nat → Option (List Ins) := fun t => match t with
  | 0 => some sg_X3_readFirstDigit_0
  | 12 => some sg_X3_readFirstDigit_12
  | _ => none
theorem so_X3_readFirstDigit : ∀ t sg, sgs_X3_readFirstDigit t = some sg → sgOK mi_X3_readFirstDigit gm_X3_readFirstDigit sg = true ∧ segPc sg = t := by
  intro t sg h
  unfold sgs_X3_readFirstDigit at h
  split at h
  · cases h; exact ⟨so_X3_readFirstDigit_0, rfl⟩
  · cases h; exact ⟨so_X3_readFirstDigit_12, rfl⟩
  · cases h
def gm_X3_readNumber : List MI := [mi_X3_look, mi_X3_isDigit]
def sg_X3_readNumber_0 : List Ins := [(0, .aload_n 0, 0, 0, 0, 0), (1, .invokevirtual 65, 648, 0, 13, 1), (4, .invokestatic 85, 664, 1, 0, 1), (7, .ifCond .ne 5, 0, 0, 12, 0), (10, .iconst 0, 0, 0, 0, 0), (11, .ireturn, 0, 0, 0, 0)]
theorem so_X3_readNumber_0 : sgOK mi_X3_readNumber gm_X3_readNumber sg_X3_readNumber_0 = true := by decide +kernel
def sg_X3_readNumber_12 : List Ins := [(12, .aload_n 0, 0, 0, 0, 0), (13, .aload_n 0, 0, 0, 0, 0), (14, .invokevirtual 65, 648, 0, 13, 1), (17, .bipush 48, 48, 0, 0, 0), (19, .isub, 0, 0, 0, 0), (20, .putfield 42, 3, 8, 223, 0), (23, .aload_n 0, 0, 0, 0, 0), (24, .dup, 0, 0, 0, 0), (25, .getfield 39, 3, 7, 222, 0), (28, .iconst 1, 1, 0, 0, 0), (29, .iadd, 0, 0, 0, 0), (30, .putfield 39, 3, 7, 222, 0), (33, .aload_n 0, 0, 0, 0, 0), (34, .getfield 42, 3, 8, 223, 0), (37, .ifCond .le 42, 0, 0, 79, 0), (40, .aload_n 0, 0, 0, 0, 0), (41, .invokevirtual 65, 648, 0, 13, 1), (44, .invokestatic 85, 664, 1, 0, 1), (47, .ifCond .eq 32, 0, 0, 79, 0), (50, .aload_n 0, 0, 0, 0, 0), (51, .bipush 10, 10, 0, 0, 0), (53, .aload_n 0, 0, 0, 0, 0), (54, .getfield 42, 3, 8, 223, 0), (57, .imul, 0, 0, 0, 0), (58, .aload_n 0, 0, 0, 0, 0), (59, .invokevirtual 65, 648, 0, 13, 1), (62, .iadd, 0, 0, 0, 0), (63, .bipush 48, 48, 0, 0, 0), (65, .isub, 0, 0, 0, 0), (66, .putfield 42, 3, 8, 223, 0), (69, .aload_n 0, 0, 0, 0, 0), (70, .dup, 0, 0, 0, 0), (71, .getfield 39, 3, 7, 222, 0), (74, .iconst 1, 1, 0, 0, 0), (75, .iadd, 0, 0, 0, 0), (76, .putfield 39, 3, 7, 222, 0), (79, .iconst 1, 1, 0, 0, 0), (80, .ireturn, 0, 0, 0, 0)]
theorem so_X3_readNumber_12 : sgOK mi_X3_readNumber gm_X3_readNumber sg_X3_readNumber_12 = true := by decide +kernel
def sg_X3_readNumber_79 : List Ins := [(79, .iconst 1, 1, 0, 0, 0), (80, .ireturn, 0, 0, 0, 0)]
theorem so_X3_readNumber_79 : sgOK mi_X3_readNumber gm_X3_readNumber sg_X3_readNumber_79 = true := by decide +kernel
def sgs_X3_readNumber : Nat → Option (List Ins) := fun t => match t with
  | 0 => some sg_X3_readNumber_0
  | 12 => some sg_X3_readNumber_12
  | 79 => some sg_X3_readNumber_79
  | _ => none
theorem so_X3_readNumber : ∀ t sg, sgs_X3_readNumber t = some sg → sgOK mi_X3_readNumber gm_X3_readNumber sg = true ∧ segPc sg = t := by
  intro t sg h
  unfold sgs_X3_readNumber at h
  split at h
  · cases h; exact ⟨so_X3_readNumber_0, rfl⟩
  · cases h; exact ⟨so_X3_readNumber_12, rfl⟩
  · cases h; exact ⟨so_X3_readNumber_79, rfl⟩
  · cases h
def gm_X3_readPlace : List MI := [mi_X3_reads, mi_X3_readNumber]
def sg_X3_readPlace_0 : List Ins := [(0, .aload_n 0, 0, 0, 0, 0), (1, .bipush 64, 64, 0, 0, 0), (3, .invokevirtual 61, 652, 0, 13, 2), (6, .ifCond .eq 10, 0, 0, 16, 0), (9, .aload_n 0, 0, 0, 0, 0), (10, .invokevirtual 88, 671, 1, 13, 1), (13, .ifCond .ne 5, 0, 0, 18, 0), (16, .iconst 0, 0, 0, 0, 0), (17, .ireturn, 0, 0, 0, 0)]
theorem so_X3_readPlace_0 : sgOK mi_X3_readPlace gm_X3_readPlace sg_X3_readPlace_0 = true := by decide +kernel
def sg_X3_readPlace_16 : List Ins := [(16, .iconst 0, 0, 0, 0, 0), (17, .ireturn, 0, 0, 0, 0)]
theorem so_X3_readPlace_16 : sgOK mi_X3_readPlace gm_X3_readPlace sg_X3_readPlace_16 = true := by decide +kernel
def sg_X3_readPlace_18 : List Ins := [(18, .aload_n 0, 0, 0, 0, 0), (19, .aload_n 0, 0, 0, 0, 0), (20, .getfield 42, 3, 8, 223, 0), (23, .putfield 48, 3, 10, 225, 0), (26, .aload_n 0, 0, 0, 0, 0), (27, .bipush 46, 46, 0, 0, 0), (29, .invokevirtual 61, 652, 0, 13, 2), (32, .ifCond .eq 10, 0, 0, 42, 0), (35, .aload_n 0, 0, 0, 0, 0), (36, .invokevirtual 88, 671, 1, 13, 1), (39, .ifCond .ne 5, 0, 0, 44, 0), (42, .iconst 0, 0, 0, 0, 0), (43, .ireturn, 0, 0, 0, 0)]
theorem so_X3_readPlace_18 : sgOK mi_X3_readPlace gm_X3_readPlace sg_X3_readPlace_18 = true := by decide +kernel
def sg_X3_readPlace_42 : List Ins := [(42, .iconst 0, 0, 0, 0, 0), (43, .ireturn, 0, 0, 0, 0)]
theorem so_X3_readPlace_42 : sgOK mi_X3_readPlace gm_X3_readPlace sg_X3_readPlace_42 = true := by decide +kernel
def sg_X3_readPlace_44 : List Ins := [(44, .aload_n 0, 0, 0, 0, 0), (45, .aload_n 0, 0, 0, 0, 0), (46, .getfield 42, 3, 8, 223, 0), (49, .putfield 51, 3, 11, 226, 0), (52, .iconst 1, 1, 0, 0, 0), (53, .ireturn, 0, 0, 0, 0)]
theorem so_X3_readPlace_44 : sgOK mi_X3_readPlace gm_X3_readPlace sg_X3_readPlace_44 = true := by decide +kernel
def sgs_X3_readPlace : Nat → Option (List Ins) := fun t => match t with
  | 0 => some sg_X3_readPlace_0
  | 16 => some sg_X3_readPlace_16
  | 18 => some sg_X3_readPlace_18
  | 42 => some sg_X3_readPlace_42
  | 44 => some sg_X3_readPlace_44
  | _ => none
theorem so_X3_readPlace : ∀ t sg, sgs_X3_readPlace t = some sg → sgOK mi_X3_readPlace gm_X3_readPlace sg = true ∧ segPc sg = t := by
  intro t sg h
  unfold sgs_X3_readPlace at h
  split at h
  · cases h; exact ⟨so_X3_readPlace_0, rfl⟩
  · cases h; exact ⟨so_X3_readPlace_16, rfl⟩
  · cases h; exact ⟨so_X3_readPlace_18, rfl⟩
  · cases h; exact ⟨so_X3_readPlace_42, rfl⟩
  · cases h; exact ⟨so_X3_readPlace_44, rfl⟩
  · cases h
def gm_X3_isLetter : List MI := []
def sg_X3_isLetter_0 : List Ins := [(0, .iload_n 0, 0, 0, 0, 0), (1, .bipush 97, 97, 0, 0, 0), (3, .if_icmp .lt 13, 0, 0, 16, 0), (6, .iload_n 0, 0, 0, 0, 0), (7, .bipush 122, 122, 0, 0, 0), (9, .if_icmp .gt 7, 0, 0, 16, 0), (12, .iconst 1, 1, 0, 0, 0), (13, .goto 4, 0, 0, 17, 0)]
theorem so_X3_isLetter_0 : sgOK mi_X3_isLetter gm_X3_isLetter sg_X3_isLetter_0 = true := by decide +kernel
def sg_X3_isLetter_16 : List Ins := [(16, .iconst 0, 0, 0, 0, 0), (17, .ireturn, 0, 0, 0, 0)]
theorem so_X3_isLetter_16 : sgOK mi_X3_isLetter gm_X3_isLetter sg_X3_isLetter_16 = true := by decide +kernel
def sg_X3_isLetter_17 : List Ins := [(17, .ireturn, 0, 0, 0, 0)]
theorem so_X3_isLetter_17 : sgOK mi_X3_isLetter gm_X3_isLetter sg_X3_isLetter_17 = true := by decide +kernel
def sgs_X3_isLetter : Nat → Option (List Ins) := fun t => match t with
  | 0 => some sg_X3_isLetter_0
  | 16 => some sg_X3_isLetter_16
  | 17 => some sg_X3_isLetter_17
  | _ => none
theorem so_X3_isLetter : ∀ t sg, sgs_X3_isLetter t = some sg → sgOK mi_X3_isLetter gm_X3_isLetter sg = true ∧ segPc sg = t := by
  intro t sg h
  unfold sgs_X3_isLetter at h
  split at h
  · cases h; exact ⟨so_X3_isLetter_0, rfl⟩
  · cases h; exact ⟨so_X3_isLetter_16, rfl⟩
  · cases h; exact ⟨so_X3_isLetter_17, rfl⟩
  · cases h
def gm_X3_readLetters : List MI := [mi_X3_look, mi_X3_isLetter, mi_X3_add]
def sg_X3_readLetters_0 : List Ins := [(0, .aload_n 0, 0, 0, 0, 0), (1, .invokevirtual 65, 648, 0, 13, 1), (4, .invokestatic 91, 679, 1, 0, 1), (7, .ifCond .ne 5, 0, 0, 12, 0), (10, .iconst 0, 0, 0, 0, 0), (11, .ireturn, 0, 0, 0, 0)]
theorem so_X3_readLetters_0 : sgOK mi_X3_readLetters gm_X3_readLetters sg_X3_readLetters_0 = true := by decide +kernel
def sg_X3_readLetters_12 : List Ins := [(12, .aload_n 0, 0, 0, 0, 0), (13, .getfield 39, 3, 7, 222, 0), (16, .aload_n 0, 0, 0, 0, 0), (17, .getfield 12, 3, 0, 208, 0), (20, .getfield 58, 4, 1, 199, 0), (23, .if_icmp .ge 50, 0, 0, 73, 0), (26, .aload_n 0, 0, 0, 0, 0), (27, .invokevirtual 65, 648, 0, 13, 1), (30, .invokestatic 91, 679, 1, 0, 1), (33, .ifCond .eq 40, 0, 0, 73, 0), (36, .aload_n 0, 0, 0, 0, 0), (37, .bipush 119, 119, 0, 0, 0), (39, .aload_n 0, 0, 0, 0, 0), (40, .invokevirtual 65, 648, 0, 13, 1), (43, .bipush 97, 97, 0, 0, 0), (45, .isub, 0, 0, 0, 0), (46, .invokevirtual 69, 656, 2, 13, 3), (49, .pop, 0, 0, 0, 0), (50, .aload_n 0, 0, 0, 0, 0), (51, .dup, 0, 0, 0, 0), (52, .getfield 51, 3, 11, 226, 0), (55, .iconst 1, 1, 0, 0, 0), (56, .iadd, 0, 0, 0, 0), (57, .putfield 51, 3, 11, 226, 0), (60, .aload_n 0, 0, 0, 0, 0), (61, .dup, 0, 0, 0, 0), (62, .getfield 39, 3, 7, 222, 0), (65, .iconst 1, 1, 0, 0, 0), (66, .iadd, 0, 0, 0, 0), (67, .putfield 39, 3, 7, 222, 0), (70, .goto (-58), 0, 0, 12, 0)]
theorem so_X3_readLetters_12 : sgOK mi_X3_readLetters gm_X3_readLetters sg_X3_readLetters_12 = true := by decide +kernel
def sg_X3_readLetters_73 : List Ins := [(73, .iconst 1, 1, 0, 0, 0), (74, .ireturn, 0, 0, 0, 0)]
theorem so_X3_readLetters_73 : sgOK mi_X3_readLetters gm_X3_readLetters sg_X3_readLetters_73 = true := by decide +kernel
def sgs_X3_readLetters : Nat → Option (List Ins) := fun t => match t with
  | 0 => some sg_X3_readLetters_0
  | 73 => some sg_X3_readLetters_73
  | _ => none
theorem so_X3_readLetters : ∀ t sg, sgs_X3_readLetters t = some sg → sgOK mi_X3_readLetters gm_X3_readLetters sg = true ∧ segPc sg = t := by
  intro t sg h
  unfold sgs_X3_readLetters at h
  split at h
  · cases h; exact ⟨so_X3_readLetters_0, rfl⟩
  · cases h; exact ⟨so_X3_readLetters_73, rfl⟩
  · cases h
def gm_X3_readFirstNumber : List MI := [mi_X3_readNumber]
def sg_X3_readFirstNumber_0 : List Ins := [(0, .aload_n 0, 0, 0, 0, 0), (1, .invokevirtual 88, 671, 0, 13, 1), (4, .istore_n 1, 0, 0, 0, 0), (5, .aload_n 0, 0, 0, 0, 0), (6, .aload_n 0, 0, 0, 0, 0), (7, .getfield 42, 3, 8, 223, 0), (10, .putfield 45, 3, 9, 224, 0), (13, .iload_n 1, 0, 0, 0, 0), (14, .ireturn, 0, 0, 0, 0)]
theorem so_X3_readFirstNumber_0 : sgOK mi_X3_readFirstNumber gm_X3_readFirstNumber sg_X3_readFirstNumber_0 = true := by decide +kernel
def sgs_X3_readFirstNumber : Nat → Option (List Ins) := fun t => match t with
  | 0 => some sg_X3_readFirstNumber_0
  | _ => none
theorem so_X3_readFirstNumber : ∀ t sg, sgs_X3_readFirstNumber t = some sg → sgOK mi_X3_readFirstNumber gm_X3_readFirstNumber sg = true ∧ segPc sg = t := by
  intro t sg h
  unfold sgs_X3_readFirstNumber at h
  split at h
  · cases h; exact ⟨so_X3_readFirstNumber_0, rfl⟩
  · cases h
def gm_X3_readOrder : List MI := [mi_X3_look, mi_X3_reads, mi_X3_add, mi_X3_readFirstDigit, mi_X3_readPlace, mi_X3_readLetters, mi_X3_readFirstNumber]
def sg_X3_readOrder_0 : List Ins := [(0, .aload_n 0, 0, 0, 0, 0), (1, .invokevirtual 65, 648, 0, 13, 1), (4, .istore_n 1, 0, 0, 0, 0), (5, .iload_n 1, 0, 0, 0, 0), (6, .tableswitch 276 104 120 #[246, 276, 276, 105, 276, 276, 82, 105, 179, 276, 276, 276, 276, 276, 276, 135, 216], 82, 0, 0, 0)]
theorem so_X3_readOrder_0 : sgOK mi_X3_readOrder gm_X3_readOrder sg_X3_readOrder_0 = true := by decide +kernel
def sg_X3_readOrder_88 : List Ins := [(88, .aload_n 0, 0, 0, 0, 0), (89, .iload_n 1, 0, 0, 0, 0), (90, .invokevirtual 61, 652, 1, 13, 2), (93, .ifCond .eq 16, 0, 0, 109, 0), (96, .aload_n 0, 0, 0, 0, 0), (97, .iload_n 1, 0, 0, 0, 0), (98, .iconst 0, 0, 0, 0, 0), (99, .invokevirtual 69, 656, 2, 13, 3), (102, .ifCond .eq 7, 0, 0, 109, 0), (105, .iconst 1, 1, 0, 0, 0), (106, .goto 4, 0, 0, 110, 0)]
theorem so_X3_readOrder_88 : sgOK mi_X3_readOrder gm_X3_readOrder sg_X3_readOrder_88 = true := by decide +kernel
def sg_X3_readOrder_109 : List Ins := [(109, .iconst 0, 0, 0, 0, 0), (110, .ireturn, 0, 0, 0, 0)]
theorem so_X3_readOrder_109 : sgOK mi_X3_readOrder gm_X3_readOrder sg_X3_readOrder_109 = true := by decide +kernel
def sg_X3_readOrder_110 : List Ins := [(110, .ireturn, 0, 0, 0, 0)]
theorem so_X3_readOrder_110 : sgOK mi_X3_readOrder gm_X3_readOrder sg_X3_readOrder_110 = true := by decide +kernel
def sg_X3_readOrder_111 : List Ins := [(111, .aload_n 0, 0, 0, 0, 0), (112, .iload_n 1, 0, 0, 0, 0), (113, .invokevirtual 61, 652, 1, 13, 2), (116, .ifCond .eq 23, 0, 0, 139, 0), (119, .aload_n 0, 0, 0, 0, 0), (120, .invokevirtual 73, 660, 3, 13, 1), (123, .ifCond .eq 16, 0, 0, 139, 0), (126, .aload_n 0, 0, 0, 0, 0), (127, .iload_n 1, 0, 0, 0, 0), (128, .iconst 0, 0, 0, 0, 0), (129, .invokevirtual 69, 656, 2, 13, 3), (132, .ifCond .eq 7, 0, 0, 139, 0), (135, .iconst 1, 1, 0, 0, 0), (136, .goto 4, 0, 0, 140, 0)]
theorem so_X3_readOrder_111 : sgOK mi_X3_readOrder gm_X3_readOrder sg_X3_readOrder_111 = true := by decide +kernel
def sg_X3_readOrder_139 : List Ins := [(139, .iconst 0, 0, 0, 0, 0), (140, .ireturn, 0, 0, 0, 0)]
theorem so_X3_readOrder_139 : sgOK mi_X3_readOrder gm_X3_readOrder sg_X3_readOrder_139 = true := by decide +kernel
def sg_X3_readOrder_140 : List Ins := [(140, .ireturn, 0, 0, 0, 0)]
theorem so_X3_readOrder_140 : sgOK mi_X3_readOrder gm_X3_readOrder sg_X3_readOrder_140 = true := by decide +kernel
def sg_X3_readOrder_141 : List Ins := [(141, .aload_n 0, 0, 0, 0, 0), (142, .iload_n 1, 0, 0, 0, 0), (143, .invokevirtual 61, 652, 1, 13, 2), (146, .ifCond .eq 37, 0, 0, 183, 0), (149, .aload_n 0, 0, 0, 0, 0), (150, .invokevirtual 73, 660, 3, 13, 1), (153, .ifCond .eq 30, 0, 0, 183, 0), (156, .aload_n 0, 0, 0, 0, 0), (157, .invokevirtual 76, 667, 4, 13, 1), (160, .ifCond .eq 23, 0, 0, 183, 0), (163, .aload_n 0, 0, 0, 0, 0), (164, .bipush 61, 61, 0, 0, 0), (166, .invokevirtual 61, 652, 1, 13, 2), (169, .ifCond .eq 14, 0, 0, 183, 0), (172, .aload_n 0, 0, 0, 0, 0), (173, .invokevirtual 79, 675, 5, 13, 1), (176, .ifCond .eq 7, 0, 0, 183, 0), (179, .iconst 1, 1, 0, 0, 0), (180, .goto 4, 0, 0, 184, 0)]
theorem so_X3_readOrder_141 : sgOK mi_X3_readOrder gm_X3_readOrder sg_X3_readOrder_141 = true := by decide +kernel
def sg_X3_readOrder_183 : List Ins := [(183, .iconst 0, 0, 0, 0, 0), (184, .ireturn, 0, 0, 0, 0)]
theorem so_X3_readOrder_183 : sgOK mi_X3_readOrder gm_X3_readOrder sg_X3_readOrder_183 = true := by decide +kernel
def sg_X3_readOrder_184 : List Ins := [(184, .ireturn, 0, 0, 0, 0)]
theorem so_X3_readOrder_184 : sgOK mi_X3_readOrder gm_X3_readOrder sg_X3_readOrder_184 = true := by decide +kernel
def sg_X3_readOrder_185 : List Ins := [(185, .aload_n 0, 0, 0, 0, 0), (186, .iload_n 1, 0, 0, 0, 0), (187, .invokevirtual 61, 652, 1, 13, 2), (190, .ifCond .eq 30, 0, 0, 220, 0), (193, .aload_n 0, 0, 0, 0, 0), (194, .invokevirtual 73, 660, 3, 13, 1), (197, .ifCond .eq 23, 0, 0, 220, 0), (200, .aload_n 0, 0, 0, 0, 0), (201, .invokevirtual 76, 667, 4, 13, 1), (204, .ifCond .eq 16, 0, 0, 220, 0), (207, .aload_n 0, 0, 0, 0, 0), (208, .iload_n 1, 0, 0, 0, 0), (209, .iconst 0, 0, 0, 0, 0), (210, .invokevirtual 69, 656, 2, 13, 3), (213, .ifCond .eq 7, 0, 0, 220, 0), (216, .iconst 1, 1, 0, 0, 0), (217, .goto 4, 0, 0, 221, 0)]
theorem so_X3_readOrder_185 : sgOK mi_X3_readOrder gm_X3_readOrder sg_X3_readOrder_185 = true := by decide +kernel
def sg_X3_readOrder_220 : List Ins := [(220, .iconst 0, 0, 0, 0, 0), (221, .ireturn, 0, 0, 0, 0)]
theorem so_X3_readOrder_220 : sgOK mi_X3_readOrder gm_X3_readOrder sg_X3_readOrder_220 = true := by decide +kernel
def sg_X3_readOrder_221 : List Ins := [(221, .ireturn, 0, 0, 0, 0)]
theorem so_X3_readOrder_221 : sgOK mi_X3_readOrder gm_X3_readOrder sg_X3_readOrder_221 = true := by decide +kernel
def sg_X3_readOrder_222 : List Ins := [(222, .aload_n 0, 0, 0, 0, 0), (223, .iload_n 1, 0, 0, 0, 0), (224, .invokevirtual 61, 652, 1, 13, 2), (227, .ifCond .eq 23, 0, 0, 250, 0), (230, .aload_n 0, 0, 0, 0, 0), (231, .invokevirtual 76, 667, 4, 13, 1), (234, .ifCond .eq 16, 0, 0, 250, 0), (237, .aload_n 0, 0, 0, 0, 0), (238, .iload_n 1, 0, 0, 0, 0), (239, .iconst 0, 0, 0, 0, 0), (240, .invokevirtual 69, 656, 2, 13, 3), (243, .ifCond .eq 7, 0, 0, 250, 0), (246, .iconst 1, 1, 0, 0, 0), (247, .goto 4, 0, 0, 251, 0)]
theorem so_X3_readOrder_222 : sgOK mi_X3_readOrder gm_X3_readOrder sg_X3_readOrder_222 = true := by decide +kernel
def sg_X3_readOrder_250 : List Ins := [(250, .iconst 0, 0, 0, 0, 0), (251, .ireturn, 0, 0, 0, 0)]
theorem so_X3_readOrder_250 : sgOK mi_X3_readOrder gm_X3_readOrder sg_X3_readOrder_250 = true := by decide +kernel
def sg_X3_readOrder_251 : List Ins := [(251, .ireturn, 0, 0, 0, 0)]
theorem so_X3_readOrder_251 : sgOK mi_X3_readOrder gm_X3_readOrder sg_X3_readOrder_251 = true := by decide +kernel
def sg_X3_readOrder_252 : List Ins := [(252, .aload_n 0, 0, 0, 0, 0), (253, .iload_n 1, 0, 0, 0, 0), (254, .invokevirtual 61, 652, 1, 13, 2), (257, .ifCond .eq 23, 0, 0, 280, 0), (260, .aload_n 0, 0, 0, 0, 0), (261, .invokevirtual 82, 682, 6, 13, 1), (264, .ifCond .eq 16, 0, 0, 280, 0), (267, .aload_n 0, 0, 0, 0, 0), (268, .iload_n 1, 0, 0, 0, 0), (269, .iconst 0, 0, 0, 0, 0), (270, .invokevirtual 69, 656, 2, 13, 3), (273, .ifCond .eq 7, 0, 0, 280, 0), (276, .iconst 1, 1, 0, 0, 0), (277, .goto 4, 0, 0, 281, 0)]
theorem so_X3_readOrder_252 : sgOK mi_X3_readOrder gm_X3_readOrder sg_X3_readOrder_252 = true := by decide +kernel
def sg_X3_readOrder_280 : List Ins := [(280, .iconst 0, 0, 0, 0, 0), (281, .ireturn, 0, 0, 0, 0)]
theorem so_X3_readOrder_280 : sgOK mi_X3_readOrder gm_X3_readOrder sg_X3_readOrder_280 = true := by decide +kernel
def sg_X3_readOrder_281 : List Ins := [(281, .ireturn, 0, 0, 0, 0)]
theorem so_X3_readOrder_281 : sgOK mi_X3_readOrder gm_X3_readOrder sg_X3_readOrder_281 = true := by decide +kernel
def sg_X3_readOrder_282 : List Ins := [(282, .iconst 0, 0, 0, 0, 0), (283, .ireturn, 0, 0, 0, 0)]
theorem so_X3_readOrder_282 : sgOK mi_X3_readOrder gm_X3_readOrder sg_X3_readOrder_282 = true := by decide +kernel
def sgs_X3_readOrder : Nat → Option (List Ins) := fun t => match t with
  | 0 => some sg_X3_readOrder_0
  | 88 => some sg_X3_readOrder_88
  | 109 => some sg_X3_readOrder_109
  | 110 => some sg_X3_readOrder_110
  | 111 => some sg_X3_readOrder_111
  | 139 => some sg_X3_readOrder_139
  | 140 => some sg_X3_readOrder_140
  | 141 => some sg_X3_readOrder_141
  | 183 => some sg_X3_readOrder_183
  | 184 => some sg_X3_readOrder_184
  | 185 => some sg_X3_readOrder_185
  | 220 => some sg_X3_readOrder_220
  | 221 => some sg_X3_readOrder_221
  | 222 => some sg_X3_readOrder_222
  | 250 => some sg_X3_readOrder_250
  | 251 => some sg_X3_readOrder_251
  | 252 => some sg_X3_readOrder_252
  | 280 => some sg_X3_readOrder_280
  | 281 => some sg_X3_readOrder_281
  | 282 => some sg_X3_readOrder_282
  | _ => none
theorem so_X3_readOrder : ∀ t sg, sgs_X3_readOrder t = some sg → sgOK mi_X3_readOrder gm_X3_readOrder sg = true ∧ segPc sg = t := by
  intro t sg h
  unfold sgs_X3_readOrder at h
  split at h
  · cases h; exact ⟨so_X3_readOrder_0, rfl⟩
  · cases h; exact ⟨so_X3_readOrder_88, rfl⟩
  · cases h; exact ⟨so_X3_readOrder_109, rfl⟩
  · cases h; exact ⟨so_X3_readOrder_110, rfl⟩
  · cases h; exact ⟨so_X3_readOrder_111, rfl⟩
  · cases h; exact ⟨so_X3_readOrder_139, rfl⟩
  · cases h; exact ⟨so_X3_readOrder_140, rfl⟩
  · cases h; exact ⟨so_X3_readOrder_141, rfl⟩
  · cases h; exact ⟨so_X3_readOrder_183, rfl⟩
  · cases h; exact ⟨so_X3_readOrder_184, rfl⟩
  · cases h; exact ⟨so_X3_readOrder_185, rfl⟩
  · cases h; exact ⟨so_X3_readOrder_220, rfl⟩
  · cases h; exact ⟨so_X3_readOrder_221, rfl⟩
  · cases h; exact ⟨so_X3_readOrder_222, rfl⟩
  · cases h; exact ⟨so_X3_readOrder_250, rfl⟩
  · cases h; exact ⟨so_X3_readOrder_251, rfl⟩
  · cases h; exact ⟨so_X3_readOrder_252, rfl⟩
  · cases h; exact ⟨so_X3_readOrder_280, rfl⟩
  · cases h; exact ⟨so_X3_readOrder_281, rfl⟩
  · cases h; exact ⟨so_X3_readOrder_282, rfl⟩
  · cases h
def gm_X3_readPad : List MI := [mi_X3_readOrder, mi_X3_reads]
def sg_X3_readPad_0 : List Ins := [(0, .aload_n 0, 0, 0, 0, 0), (1, .iconst 0, 0, 0, 0, 0), (2, .putfield 35, 3, 6, 220, 0), (5, .aload_n 0, 0, 0, 0, 0), (6, .iconst 0, 0, 0, 0, 0), (7, .putfield 39, 3, 7, 222, 0), (10, .iconst 0, 0, 0, 0, 0), (11, .istore_n 1, 0, 0, 0, 0), (12, .nop, 0, 0, 0, 0)]
theorem so_X3_readPad_0 : sgOK mi_X3_readPad gm_X3_readPad sg_X3_readPad_0 = true := by decide +kernel
def sg_X3_readPad_12 : List Ins := [(12, .iload_n 1, 0, 0, 0, 0), (13, .bipush 80, 80, 0, 0, 0), (15, .if_icmp .ge 52, 0, 0, 67, 0), (18, .aload_n 0, 0, 0, 0, 0), (19, .invokevirtual 54, 644, 0, 13, 1), (22, .ifCond .ne 8, 0, 0, 30, 0), (25, .aload_n 0, 0, 0, 0, 0), (26, .getfield 39, 3, 7, 222, 0), (29, .ireturn, 0, 0, 0, 0)]
theorem so_X3_readPad_12 : sgOK mi_X3_readPad gm_X3_readPad sg_X3_readPad_12 = true := by decide +kernel
def sg_X3_readPad_30 : List Ins := [(30, .aload_n 0, 0, 0, 0, 0), (31, .getfield 39, 3, 7, 222, 0), (34, .aload_n 0, 0, 0, 0, 0), (35, .getfield 12, 3, 0, 208, 0), (38, .getfield 58, 4, 1, 199, 0), (41, .if_icmp .lt 6, 0, 0, 47, 0), (44, .bipush (-6), 6, 1, 0, 0), (46, .ireturn, 0, 0, 0, 0)]
theorem so_X3_readPad_30 : sgOK mi_X3_readPad gm_X3_readPad sg_X3_readPad_30 = true := by decide +kernel
def sg_X3_readPad_47 : List Ins := [(47, .aload_n 0, 0, 0, 0, 0), (48, .bipush 59, 59, 0, 0, 0), (50, .invokevirtual 61, 652, 1, 13, 2), (53, .ifCond .ne 8, 0, 0, 61, 0), (56, .aload_n 0, 0, 0, 0, 0), (57, .getfield 39, 3, 7, 222, 0), (60, .ireturn, 0, 0, 0, 0)]
theorem so_X3_readPad_47 : sgOK mi_X3_readPad gm_X3_readPad sg_X3_readPad_47 = true := by decide +kernel
def sg_X3_readPad_61 : List Ins := [(61, .iinc 1 1, 1, 0, 0, 0), (64, .goto (-52), 0, 0, 12, 0)]
theorem so_X3_readPad_61 : sgOK mi_X3_readPad gm_X3_readPad sg_X3_readPad_61 = true := by decide +kernel
def sg_X3_readPad_67 : List Ins := [(67, .aload_n 0, 0, 0, 0, 0), (68, .getfield 39, 3, 7, 222, 0), (71, .ireturn, 0, 0, 0, 0)]
theorem so_X3_readPad_67 : sgOK mi_X3_readPad gm_X3_readPad sg_X3_readPad_67 = true := by decide +kernel
def sgs_X3_readPad : Nat → Option (List Ins) := fun t => match t with
  | 0 => some sg_X3_readPad_0
  | 30 => some sg_X3_readPad_30
  | 47 => some sg_X3_readPad_47
  | 61 => some sg_X3_readPad_61
  | 67 => some sg_X3_readPad_67
  | _ => none
theorem so_X3_readPad : ∀ t sg, sgs_X3_readPad t = some sg → sgOK mi_X3_readPad gm_X3_readPad sg = true ∧ segPc sg = t := by
  intro t sg h
  unfold sgs_X3_readPad at h
  split at h
  · cases h; exact ⟨so_X3_readPad_0, rfl⟩
  · cases h; exact ⟨so_X3_readPad_30, rfl⟩
  · cases h; exact ⟨so_X3_readPad_47, rfl⟩
  · cases h; exact ⟨so_X3_readPad_61, rfl⟩
  · cases h; exact ⟨so_X3_readPad_67, rfl⟩
  · cases h
def gm_X4_codeIn : List MI := []
def sg_X4_codeIn_0 : List Ins := [(0, .lload_n 0, 0, 0, 0, 0), (1, .bipush 8, 8, 0, 0, 0), (3, .iload_n 2, 0, 0, 0, 0), (4, .imul, 0, 0, 0, 0), (5, .lushr, 0, 0, 0, 0), (6, .ldc2_w 27, 255, 2, 627, 0), (9, .land, 0, 0, 0, 0), (10, .l2i, 0, 0, 0, 0), (11, .ireturn, 0, 0, 0, 0)]
theorem so_X4_codeIn_0 : sgOK mi_X4_codeIn gm_X4_codeIn sg_X4_codeIn_0 = true := by decide +kernel
def sgs_X4_codeIn : Nat → Option (List Ins) := fun t => match t with
  | 0 => some sg_X4_codeIn_0
  | _ => none
theorem so_X4_codeIn : ∀ t sg, sgs_X4_codeIn t = some sg → sgOK mi_X4_codeIn gm_X4_codeIn sg = true ∧ segPc sg = t := by
  intro t sg h
  unfold sgs_X4_codeIn at h
  split at h
  · cases h; exact ⟨so_X4_codeIn_0, rfl⟩
  · cases h
def gm_X4_charactersIn : List MI := [mi_X4_codeIn]
def sg_X4_charactersIn_0 : List Ins := [(0, .iconst 0, 0, 0, 0, 0), (1, .istore_n 2, 0, 0, 0, 0), (2, .nop, 0, 0, 0, 0)]
theorem so_X4_charactersIn_0 : sgOK mi_X4_charactersIn gm_X4_charactersIn sg_X4_charactersIn_0 = true := by decide +kernel
def sg_X4_charactersIn_2 : List Ins := [(2, .iload_n 2, 0, 0, 0, 0), (3, .bipush 8, 8, 0, 0, 0), (5, .if_icmp .ge 37, 0, 0, 42, 0), (8, .lload_n 0, 0, 0, 0, 0), (9, .iload_n 2, 0, 0, 0, 0), (10, .invokestatic 23, 624, 0, 0, 2), (13, .ifCond .eq 29, 0, 0, 42, 0), (16, .lload_n 0, 0, 0, 0, 0), (17, .iload_n 2, 0, 0, 0, 0), (18, .invokestatic 23, 624, 0, 0, 2), (21, .istore_n 3, 0, 0, 0, 0), (22, .iload_n 3, 0, 0, 0, 0), (23, .bipush 33, 33, 0, 0, 0), (25, .if_icmp .lt 9, 0, 0, 34, 0), (28, .iload_n 3, 0, 0, 0, 0), (29, .bipush 126, 126, 0, 0, 0), (31, .if_icmp .le 5, 0, 0, 36, 0), (34, .iconst 0, 0, 0, 0, 0), (35, .ireturn, 0, 0, 0, 0)]
theorem so_X4_charactersIn_2 : sgOK mi_X4_charactersIn gm_X4_charactersIn sg_X4_charactersIn_2 = true := by decide +kernel
def sg_X4_charactersIn_34 : List Ins := [(34, .iconst 0, 0, 0, 0, 0), (35, .ireturn, 0, 0, 0, 0)]
theorem so_X4_charactersIn_34 : sgOK mi_X4_charactersIn gm_X4_charactersIn sg_X4_charactersIn_34 = true := by decide +kernel
def sg_X4_charactersIn_36 : List Ins := [(36, .iinc 2 1, 1, 0, 0, 0), (39, .goto (-37), 0, 0, 2, 0)]
theorem so_X4_charactersIn_36 : sgOK mi_X4_charactersIn gm_X4_charactersIn sg_X4_charactersIn_36 = true := by decide +kernel
def sg_X4_charactersIn_42 : List Ins := [(42, .iload_n 2, 0, 0, 0, 0), (43, .bipush 8, 8, 0, 0, 0), (45, .if_icmp .ge 18, 0, 0, 63, 0), (48, .lload_n 0, 0, 0, 0, 0), (49, .bipush 8, 8, 0, 0, 0), (51, .iload_n 2, 0, 0, 0, 0), (52, .imul, 0, 0, 0, 0), (53, .lushr, 0, 0, 0, 0), (54, .lconst 0, 0, 0, 0, 0), (55, .lcmp, 0, 0, 0, 0), (56, .ifCond .eq 7, 0, 0, 63, 0), (59, .iconst 1, 1, 0, 0, 0), (60, .goto 4, 0, 0, 64, 0)]
theorem so_X4_charactersIn_42 : sgOK mi_X4_charactersIn gm_X4_charactersIn sg_X4_charactersIn_42 = true := by decide +kernel
def sg_X4_charactersIn_63 : List Ins := [(63, .iconst 0, 0, 0, 0, 0), (64, .istore_n 3, 0, 0, 0, 0), (65, .iload_n 3, 0, 0, 0, 0), (66, .ifCond .eq 7, 0, 0, 73, 0), (69, .iconst 0, 0, 0, 0, 0), (70, .goto 4, 0, 0, 74, 0)]
theorem so_X4_charactersIn_63 : sgOK mi_X4_charactersIn gm_X4_charactersIn sg_X4_charactersIn_63 = true := by decide +kernel
def sg_X4_charactersIn_64 : List Ins := [(64, .istore_n 3, 0, 0, 0, 0), (65, .iload_n 3, 0, 0, 0, 0), (66, .ifCond .eq 7, 0, 0, 73, 0), (69, .iconst 0, 0, 0, 0, 0), (70, .goto 4, 0, 0, 74, 0)]
theorem so_X4_charactersIn_64 : sgOK mi_X4_charactersIn gm_X4_charactersIn sg_X4_charactersIn_64 = true := by decide +kernel
def sg_X4_charactersIn_73 : List Ins := [(73, .iload_n 2, 0, 0, 0, 0), (74, .ireturn, 0, 0, 0, 0)]
theorem so_X4_charactersIn_73 : sgOK mi_X4_charactersIn gm_X4_charactersIn sg_X4_charactersIn_73 = true := by decide +kernel
def sg_X4_charactersIn_74 : List Ins := [(74, .ireturn, 0, 0, 0, 0)]
theorem so_X4_charactersIn_74 : sgOK mi_X4_charactersIn gm_X4_charactersIn sg_X4_charactersIn_74 = true := by decide +kernel
def sgs_X4_charactersIn : Nat → Option (List Ins) := fun t => match t with
  | 0 => some sg_X4_charactersIn_0
  | 34 => some sg_X4_charactersIn_34
  | 36 => some sg_X4_charactersIn_36
  | 42 => some sg_X4_charactersIn_42
  | 63 => some sg_X4_charactersIn_63
  | 64 => some sg_X4_charactersIn_64
  | 73 => some sg_X4_charactersIn_73
  | 74 => some sg_X4_charactersIn_74
  | _ => none
theorem so_X4_charactersIn : ∀ t sg, sgs_X4_charactersIn t = some sg → sgOK mi_X4_charactersIn gm_X4_charactersIn sg = true ∧ segPc sg = t := by
  intro t sg h
  unfold sgs_X4_charactersIn at h
  split at h
  · cases h; exact ⟨so_X4_charactersIn_0, rfl⟩
  · cases h; exact ⟨so_X4_charactersIn_34, rfl⟩
  · cases h; exact ⟨so_X4_charactersIn_36, rfl⟩
  · cases h; exact ⟨so_X4_charactersIn_42, rfl⟩
  · cases h; exact ⟨so_X4_charactersIn_63, rfl⟩
  · cases h; exact ⟨so_X4_charactersIn_64, rfl⟩
  · cases h; exact ⟨so_X4_charactersIn_73, rfl⟩
  · cases h; exact ⟨so_X4_charactersIn_74, rfl⟩
  · cases h
def gm_X4_append : List MI := [mi_X4_charactersIn, mi_X4_codeIn]
def sg_X4_append_0 : List Ins := [(0, .lload_n 1, 0, 0, 0, 0), (1, .invokestatic 19, 621, 0, 0, 1), (4, .istore_n 3, 0, 0, 0, 0), (5, .iload_n 3, 0, 0, 0, 0), (6, .iconst 1, 1, 0, 0, 0), (7, .if_icmp .ge 6, 0, 0, 13, 0), (10, .bipush (-2), 2, 1, 0, 0), (12, .ireturn, 0, 0, 0, 0)]
theorem so_X4_append_0 : sgOK mi_X4_append gm_X4_append sg_X4_append_0 = true := by decide +kernel
def sg_X4_append_13 : List Ins := [(13, .aload_n 0, 0, 0, 0, 0), (14, .getfield 15, 4, 1, 198, 0), (17, .iload_n 3, 0, 0, 0, 0), (18, .iadd, 0, 0, 0, 0), (19, .bipush 80, 80, 0, 0, 0), (21, .if_icmp .le 6, 0, 0, 27, 0), (24, .bipush (-4), 4, 1, 0, 0), (26, .ireturn, 0, 0, 0, 0)]
theorem so_X4_append_13 : sgOK mi_X4_append gm_X4_append sg_X4_append_13 = true := by decide +kernel
def sg_X4_append_27 : List Ins := [(27, .iload_n 3, 0, 0, 0, 0), (28, .iconst 1, 1, 0, 0, 0), (29, .isub, 0, 0, 0, 0), (30, .istore 4, 0, 0, 0, 0), (32, .nop, 0, 0, 0, 0)]
theorem so_X4_append_27 : sgOK mi_X4_append gm_X4_append sg_X4_append_27 = true := by decide +kernel
def sg_X4_append_32 : List Ins := [(32, .iload 4, 0, 0, 0, 0), (34, .ifCond .lt 35, 0, 0, 69, 0), (37, .aload_n 0, 0, 0, 0, 0), (38, .getfield 11, 4, 0, 196, 0), (41, .aload_n 0, 0, 0, 0, 0), (42, .getfield 15, 4, 1, 198, 0), (45, .lload_n 1, 0, 0, 0, 0), (46, .iload 4, 0, 0, 0, 0), (48, .invokestatic 23, 624, 1, 0, 2), (51, .i2c, 0, 0, 0, 0), (52, .castore, 0, 0, 0, 0), (53, .aload_n 0, 0, 0, 0, 0), (54, .dup, 0, 0, 0, 0), (55, .getfield 15, 4, 1, 198, 0), (58, .iconst 1, 1, 0, 0, 0), (59, .iadd, 0, 0, 0, 0), (60, .putfield 15, 4, 1, 198, 0), (63, .iinc 4 (-1), 1, 1, 0, 0), (66, .goto (-34), 0, 0, 32, 0)]
theorem so_X4_append_32 : sgOK mi_X4_append gm_X4_append sg_X4_append_32 = true := by decide +kernel
def sg_X4_append_69 : List Ins := [(69, .aload_n 0, 0, 0, 0, 0), (70, .getfield 15, 4, 1, 198, 0), (73, .ireturn, 0, 0, 0, 0)]
theorem so_X4_append_69 : sgOK mi_X4_append gm_X4_append sg_X4_append_69 = true := by decide +kernel
def sgs_X4_append : Nat → Option (List Ins) := fun t => match t with
  | 0 => some sg_X4_append_0
  | 13 => some sg_X4_append_13
  | 27 => some sg_X4_append_27
  | 69 => some sg_X4_append_69
  | _ => none
theorem so_X4_append : ∀ t sg, sgs_X4_append t = some sg → sgOK mi_X4_append gm_X4_append sg = true ∧ segPc sg = t := by
  intro t sg h
  unfold sgs_X4_append at h
  split at h
  · cases h; exact ⟨so_X4_append_0, rfl⟩
  · cases h; exact ⟨so_X4_append_13, rfl⟩
  · cases h; exact ⟨so_X4_append_27, rfl⟩
  · cases h; exact ⟨so_X4_append_69, rfl⟩
  · cases h
def gm_X4_empty : List MI := []
def sg_X4_empty_0 : List Ins := [(0, .aload_n 0, 0, 0, 0, 0), (1, .getfield 15, 4, 1, 198, 0), (4, .istore_n 1, 0, 0, 0, 0), (5, .aload_n 0, 0, 0, 0, 0), (6, .iconst 0, 0, 0, 0, 0), (7, .putfield 15, 4, 1, 198, 0), (10, .iload_n 1, 0, 0, 0, 0), (11, .ireturn, 0, 0, 0, 0)]
theorem so_X4_empty_0 : sgOK mi_X4_empty gm_X4_empty sg_X4_empty_0 = true := by decide +kernel
def sgs_X4_empty : Nat → Option (List Ins) := fun t => match t with
  | 0 => some sg_X4_empty_0
  | _ => none
theorem so_X4_empty : ∀ t sg, sgs_X4_empty t = some sg → sgOK mi_X4_empty gm_X4_empty sg = true ∧ segPc sg = t := by
  intro t sg h
  unfold sgs_X4_empty at h
  split at h
  · cases h; exact ⟨so_X4_empty_0, rfl⟩
  · cases h
def gm_Jxf58ca_isNaN_12338 : List MI := []
def sg_Jxf58ca_isNaN_12338_0 : List Ins := [(0, .fload_n 0, 0, 0, 0, 0), (1, .fload_n 0, 0, 0, 0, 0), (2, .fcmp .l, 0, 0, 0, 0), (3, .ifCond .eq 7, 0, 0, 10, 0), (6, .iconst 1, 1, 0, 0, 0), (7, .goto 4, 0, 0, 11, 0)]
theorem so_Jxf58ca_isNaN_12338_0 : sgOK mi_Jxf58ca_isNaN_12338 gm_Jxf58ca_isNaN_12338 sg_Jxf58ca_isNaN_12338_0 = true := by decide +kernel
def sg_Jxf58ca_isNaN_12338_10 : List Ins := [(10, .iconst 0, 0, 0, 0, 0), (11, .ireturn, 0, 0, 0, 0)]
theorem so_Jxf58ca_isNaN_12338_10 : sgOK mi_Jxf58ca_isNaN_12338 gm_Jxf58ca_isNaN_12338 sg_Jxf58ca_isNaN_12338_10 = true := by decide +kernel
def sg_Jxf58ca_isNaN_12338_11 : List Ins := [(11, .ireturn, 0, 0, 0, 0)]
theorem so_Jxf58ca_isNaN_12338_11 : sgOK mi_Jxf58ca_isNaN_12338 gm_Jxf58ca_isNaN_12338 sg_Jxf58ca_isNaN_12338_11 = true := by decide +kernel
def sgs_Jxf58ca_isNaN_12338 : Nat → Option (List Ins) := fun t => match t with
  | 0 => some sg_Jxf58ca_isNaN_12338_0
  | 10 => some sg_Jxf58ca_isNaN_12338_10
  | 11 => some sg_Jxf58ca_isNaN_12338_11
  | _ => none
theorem so_Jxf58ca_isNaN_12338 : ∀ t sg, sgs_Jxf58ca_isNaN_12338 t = some sg → sgOK mi_Jxf58ca_isNaN_12338 gm_Jxf58ca_isNaN_12338 sg = true ∧ segPc sg = t := by
  intro t sg h
  unfold sgs_Jxf58ca_isNaN_12338 at h
  split at h
  · cases h; exact ⟨so_Jxf58ca_isNaN_12338_0, rfl⟩
  · cases h; exact ⟨so_Jxf58ca_isNaN_12338_10, rfl⟩
  · cases h; exact ⟨so_Jxf58ca_isNaN_12338_11, rfl⟩
  · cases h
def gm_Jxf58ca_floatToIntBits_5c35a : List MI := [mi_Jxf58ca_isNaN_12338]
def sg_Jxf58ca_floatToIntBits_5c35a_0 : List Ins := [(0, .fload_n 0, 0, 0, 0, 0), (1, .invokestatic 59, 950, 0, 0, 1), (4, .ifCond .ne 8, 0, 0, 12, 0), (7, .fload_n 0, 0, 0, 0, 0), (8, .invokestatic 74, 953, 0, 6, 0), (11, .ireturn, 0, 0, 0, 0)]
theorem so_Jxf58ca_floatToIntBits_5c35a_0 : sgOK mi_Jxf58ca_floatToIntBits_5c35a gm_Jxf58ca_floatToIntBits_5c35a sg_Jxf58ca_floatToIntBits_5c35a_0 = true := by decide +kernel
def sg_Jxf58ca_floatToIntBits_5c35a_12 : List Ins := [(12, .ldc 77, 2143289344, 0, 956, 0), (14, .ireturn, 0, 0, 0, 0)]
theorem so_Jxf58ca_floatToIntBits_5c35a_12 : sgOK mi_Jxf58ca_floatToIntBits_5c35a gm_Jxf58ca_floatToIntBits_5c35a sg_Jxf58ca_floatToIntBits_5c35a_12 = true := by decide +kernel
def sgs_Jxf58ca_floatToIntBits_5c35a : Nat → Option (List Ins) := fun t => match t with
  | 0 => some sg_Jxf58ca_floatToIntBits_5c35a_0
  | 12 => some sg_Jxf58ca_floatToIntBits_5c35a_12
  | _ => none
theorem so_Jxf58ca_floatToIntBits_5c35a : ∀ t sg, sgs_Jxf58ca_floatToIntBits_5c35a t = some sg → sgOK mi_Jxf58ca_floatToIntBits_5c35a gm_Jxf58ca_floatToIntBits_5c35a sg = true ∧ segPc sg = t := by
  intro t sg h
  unfold sgs_Jxf58ca_floatToIntBits_5c35a at h
  split at h
  · cases h; exact ⟨so_Jxf58ca_floatToIntBits_5c35a_0, rfl⟩
  · cases h; exact ⟨so_Jxf58ca_floatToIntBits_5c35a_12, rfl⟩
  · cases h
def gm_Jxe99ae_isNaN_b9ae7 : List MI := []
def sg_Jxe99ae_isNaN_b9ae7_0 : List Ins := [(0, .dload_n 0, 0, 0, 0, 0), (1, .dload_n 0, 0, 0, 0, 0), (2, .dcmp .l, 0, 0, 0, 0), (3, .ifCond .eq 7, 0, 0, 10, 0), (6, .iconst 1, 1, 0, 0, 0), (7, .goto 4, 0, 0, 11, 0)]
theorem so_Jxe99ae_isNaN_b9ae7_0 : sgOK mi_Jxe99ae_isNaN_b9ae7 gm_Jxe99ae_isNaN_b9ae7 sg_Jxe99ae_isNaN_b9ae7_0 = true := by decide +kernel
def sg_Jxe99ae_isNaN_b9ae7_10 : List Ins := [(10, .iconst 0, 0, 0, 0, 0), (11, .ireturn, 0, 0, 0, 0)]
theorem so_Jxe99ae_isNaN_b9ae7_10 : sgOK mi_Jxe99ae_isNaN_b9ae7 gm_Jxe99ae_isNaN_b9ae7 sg_Jxe99ae_isNaN_b9ae7_10 = true := by decide +kernel
def sg_Jxe99ae_isNaN_b9ae7_11 : List Ins := [(11, .ireturn, 0, 0, 0, 0)]
theorem so_Jxe99ae_isNaN_b9ae7_11 : sgOK mi_Jxe99ae_isNaN_b9ae7 gm_Jxe99ae_isNaN_b9ae7 sg_Jxe99ae_isNaN_b9ae7_11 = true := by decide +kernel
def sgs_Jxe99ae_isNaN_b9ae7 : Nat → Option (List Ins) := fun t => match t with
  | 0 => some sg_Jxe99ae_isNaN_b9ae7_0
  | 10 => some sg_Jxe99ae_isNaN_b9ae7_10
  | 11 => some sg_Jxe99ae_isNaN_b9ae7_11
  | _ => none
theorem so_Jxe99ae_isNaN_b9ae7 : ∀ t sg, sgs_Jxe99ae_isNaN_b9ae7 t = some sg → sgOK mi_Jxe99ae_isNaN_b9ae7 gm_Jxe99ae_isNaN_b9ae7 sg = true ∧ segPc sg = t := by
  intro t sg h
  unfold sgs_Jxe99ae_isNaN_b9ae7 at h
  split at h
  · cases h; exact ⟨so_Jxe99ae_isNaN_b9ae7_0, rfl⟩
  · cases h; exact ⟨so_Jxe99ae_isNaN_b9ae7_10, rfl⟩
  · cases h; exact ⟨so_Jxe99ae_isNaN_b9ae7_11, rfl⟩
  · cases h
def gm_Jxe99ae_doubleToLongBits_ccdee : List MI := [mi_Jxe99ae_isNaN_b9ae7]
def sg_Jxe99ae_doubleToLongBits_ccdee_0 : List Ins := [(0, .dload_n 0, 0, 0, 0, 0), (1, .invokestatic 122, 1005, 0, 0, 1), (4, .ifCond .ne 8, 0, 0, 12, 0), (7, .dload_n 0, 0, 0, 0, 0), (8, .invokestatic 134, 1008, 0, 7, 0), (11, .lreturn, 0, 0, 0, 0)]
theorem so_Jxe99ae_doubleToLongBits_ccdee_0 : sgOK mi_Jxe99ae_doubleToLongBits_ccdee gm_Jxe99ae_doubleToLongBits_ccdee sg_Jxe99ae_doubleToLongBits_ccdee_0 = true := by decide +kernel
def sg_Jxe99ae_doubleToLongBits_ccdee_12 : List Ins := [(12, .ldc2_w 137, 9221120237041090560, 2, 1011, 0), (15, .lreturn, 0, 0, 0, 0)]
theorem so_Jxe99ae_doubleToLongBits_ccdee_12 : sgOK mi_Jxe99ae_doubleToLongBits_ccdee gm_Jxe99ae_doubleToLongBits_ccdee sg_Jxe99ae_doubleToLongBits_ccdee_12 = true := by decide +kernel
def sgs_Jxe99ae_doubleToLongBits_ccdee : Nat → Option (List Ins) := fun t => match t with
  | 0 => some sg_Jxe99ae_doubleToLongBits_ccdee_0
  | 12 => some sg_Jxe99ae_doubleToLongBits_ccdee_12
  | _ => none
theorem so_Jxe99ae_doubleToLongBits_ccdee : ∀ t sg, sgs_Jxe99ae_doubleToLongBits_ccdee t = some sg → sgOK mi_Jxe99ae_doubleToLongBits_ccdee gm_Jxe99ae_doubleToLongBits_ccdee sg = true ∧ segPc sg = t := by
  intro t sg h
  unfold sgs_Jxe99ae_doubleToLongBits_ccdee at h
  split at h
  · cases h; exact ⟨so_Jxe99ae_doubleToLongBits_ccdee_0, rfl⟩
  · cases h; exact ⟨so_Jxe99ae_doubleToLongBits_ccdee_12, rfl⟩
  · cases h
