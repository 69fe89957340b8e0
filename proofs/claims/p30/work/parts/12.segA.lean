/-! stretches of code (printed by wip/p30/gen/meth.py) -/
def gm_X1_init : List MI := []
def sg_X1_init_0 : List Ins := [(0, .aload_n 0, 0, 0, 0, 0), (1, .invokespecial 3, 38, 0, 8, 0), (4, .aload_n 0, 0, 0, 0, 0), (5, .bipush 120, 120, 0, 0, 0), (7, .newarray .float, 9, 0, 63, 0), (9, .putfield 9, 1, 0, 39, 0), (12, .aload_n 0, 0, 0, 0, 0), (13, .bipush 120, 120, 0, 0, 0), (15, .newarray .int, 8, 0, 62, 0), (17, .putfield 15, 1, 1, 43, 0), (20, .aload_n 0, 0, 0, 0, 0), (21, .bipush 120, 120, 0, 0, 0), (23, .newarray .int, 8, 0, 62, 0), (25, .putfield 19, 1, 2, 46, 0), (28, .aload_n 0, 0, 0, 0, 0), (29, .bipush 120, 120, 0, 0, 0), (31, .newarray .int, 8, 0, 62, 0), (33, .putfield 22, 1, 3, 49, 0), (36, .return_, 0, 0, 0, 0)]
theorem so_X1_init_0 : sgOK mi_X1_init gm_X1_init sg_X1_init_0 = true := by decide +kernel
def sgs_X1_init : Nat → Option (List Ins) := fun t => match t with
  | 0 => some sg_X1_init_0
  | _ => none
theorem so_X1_init : ∀ t sg, sgs_X1_init t = some sg → sgOK mi_X1_init gm_X1_init sg = true ∧ segPc sg = t := by
  intro t sg h
  unfold sgs_X1_init at h
  split at h
  · cases h; exact ⟨so_X1_init_0, rfl⟩
  · cases h
def gm_X1_copyFrom : List MI := []
def sg_X1_copyFrom_0 : List Ins := [(0, .aload_n 1, 0, 0, 0, 0), (1, .getfield 9, 1, 0, 39, 0), (4, .iconst 0, 0, 0, 0, 0), (5, .aload_n 0, 0, 0, 0, 0), (6, .getfield 9, 1, 0, 39, 0), (9, .iconst 0, 0, 0, 0, 0), (10, .bipush 120, 120, 0, 0, 0), (12, .invokestatic 34, 234, 0, 5, 0), (15, .aload_n 1, 0, 0, 0, 0), (16, .getfield 15, 1, 1, 43, 0), (19, .iconst 0, 0, 0, 0, 0), (20, .aload_n 0, 0, 0, 0, 0), (21, .getfield 15, 1, 1, 43, 0), (24, .iconst 0, 0, 0, 0, 0), (25, .bipush 120, 120, 0, 0, 0), (27, .invokestatic 34, 234, 0, 4, 0), (30, .aload_n 1, 0, 0, 0, 0), (31, .getfield 19, 1, 2, 46, 0), (34, .iconst 0, 0, 0, 0, 0), (35, .aload_n 0, 0, 0, 0, 0), (36, .getfield 19, 1, 2, 46, 0), (39, .iconst 0, 0, 0, 0, 0), (40, .bipush 120, 120, 0, 0, 0), (42, .invokestatic 34, 234, 0, 4, 0), (45, .aload_n 1, 0, 0, 0, 0), (46, .getfield 22, 1, 3, 49, 0), (49, .iconst 0, 0, 0, 0, 0), (50, .aload_n 0, 0, 0, 0, 0), (51, .getfield 22, 1, 3, 49, 0), (54, .iconst 0, 0, 0, 0, 0), (55, .bipush 120, 120, 0, 0, 0), (57, .invokestatic 34, 234, 0, 4, 0), (60, .return_, 0, 0, 0, 0)]
theorem so_X1_copyFrom_0 : sgOK mi_X1_copyFrom gm_X1_copyFrom sg_X1_copyFrom_0 = true := by decide +kernel
def sgs_X1_copyFrom : Nat → Option (List Ins) := fun t => match t with
  | 0 => some sg_X1_copyFrom_0
  | _ => none
theorem so_X1_copyFrom : ∀ t sg, sgs_X1_copyFrom t = some sg → sgOK mi_X1_copyFrom gm_X1_copyFrom sg = true ∧ segPc sg = t := by
  intro t sg h
  unfold sgs_X1_copyFrom at h
  split at h
  · cases h; exact ⟨so_X1_copyFrom_0, rfl⟩
  · cases h
def gm_J7_fill_e525d : List MI := []
def sg_J7_fill_e525d_0 : List Ins := [(0, .iconst 0, 0, 0, 0, 0), (1, .istore_n 2, 0, 0, 0, 0), (2, .aload_n 0, 0, 0, 0, 0), (3, .arraylength, 9, 0, 0, 0), (4, .istore_n 3, 0, 0, 0, 0), (5, .nop, 0, 0, 0, 0)]
theorem so_J7_fill_e525d_0 : sgOK mi_J7_fill_e525d gm_J7_fill_e525d sg_J7_fill_e525d_0 = true := by decide +kernel
def sg_J7_fill_e525d_5 : List Ins := [(5, .iload_n 2, 0, 0, 0, 0), (6, .iload_n 3, 0, 0, 0, 0), (7, .if_icmp .ge 13, 0, 0, 20, 0), (10, .aload_n 0, 0, 0, 0, 0), (11, .iload_n 2, 0, 0, 0, 0), (12, .fload_n 1, 0, 0, 0, 0), (13, .fastore, 0, 0, 0, 0), (14, .iinc 2 1, 1, 0, 0, 0), (17, .goto (-12), 0, 0, 5, 0)]
theorem so_J7_fill_e525d_5 : sgOK mi_J7_fill_e525d gm_J7_fill_e525d sg_J7_fill_e525d_5 = true := by decide +kernel
def sg_J7_fill_e525d_20 : List Ins := [(20, .return_, 0, 0, 0, 0)]
theorem so_J7_fill_e525d_20 : sgOK mi_J7_fill_e525d gm_J7_fill_e525d sg_J7_fill_e525d_20 = true := by decide +kernel
def sgs_J7_fill_e525d : Nat → Option (List Ins) := fun t => match t with
  | 0 => some sg_J7_fill_e525d_0
  | 20 => some sg_J7_fill_e525d_20
  | _ => none
theorem so_J7_fill_e525d : ∀ t sg, sgs_J7_fill_e525d t = some sg → sgOK mi_J7_fill_e525d gm_J7_fill_e525d sg = true ∧ segPc sg = t := by
  intro t sg h
  unfold sgs_J7_fill_e525d at h
  split at h
  · cases h; exact ⟨so_J7_fill_e525d_0, rfl⟩
  · cases h; exact ⟨so_J7_fill_e525d_20, rfl⟩
  · cases h
def gm_J7_fill_53178 : List MI := []
def sg_J7_fill_53178_0 : List Ins := [(0, .iconst 0, 0, 0, 0, 0), (1, .istore_n 2, 0, 0, 0, 0), (2, .aload_n 0, 0, 0, 0, 0), (3, .arraylength, 8, 0, 0, 0), (4, .istore_n 3, 0, 0, 0, 0), (5, .nop, 0, 0, 0, 0)]
theorem so_J7_fill_53178_0 : sgOK mi_J7_fill_53178 gm_J7_fill_53178 sg_J7_fill_53178_0 = true := by decide +kernel
def sg_J7_fill_53178_5 : List Ins := [(5, .iload_n 2, 0, 0, 0, 0), (6, .iload_n 3, 0, 0, 0, 0), (7, .if_icmp .ge 13, 0, 0, 20, 0), (10, .aload_n 0, 0, 0, 0, 0), (11, .iload_n 2, 0, 0, 0, 0), (12, .iload_n 1, 0, 0, 0, 0), (13, .iastore, 0, 0, 0, 0), (14, .iinc 2 1, 1, 0, 0, 0), (17, .goto (-12), 0, 0, 5, 0)]
theorem so_J7_fill_53178_5 : sgOK mi_J7_fill_53178 gm_J7_fill_53178 sg_J7_fill_53178_5 = true := by decide +kernel
def sg_J7_fill_53178_20 : List Ins := [(20, .return_, 0, 0, 0, 0)]
theorem so_J7_fill_53178_20 : sgOK mi_J7_fill_53178 gm_J7_fill_53178 sg_J7_fill_53178_20 = true := by decide +kernel
def sgs_J7_fill_53178 : Nat → Option (List Ins) := fun t => match t with
  | 0 => some sg_J7_fill_53178_0
  | 20 => some sg_J7_fill_53178_20
  | _ => none
theorem so_J7_fill_53178 : ∀ t sg, sgs_J7_fill_53178 t = some sg → sgOK mi_J7_fill_53178 gm_J7_fill_53178 sg = true ∧ segPc sg = t := by
  intro t sg h
  unfold sgs_J7_fill_53178 at h
  split at h
  · cases h; exact ⟨so_J7_fill_53178_0, rfl⟩
  · cases h; exact ⟨so_J7_fill_53178_20, rfl⟩
  · cases h
def gm_X1_makeNew : List MI := [mi_J7_fill_e525d, mi_J7_fill_53178]
def sg_X1_makeNew_0 : List Ins := [(0, .aload_n 0, 0, 0, 0, 0), (1, .getfield 9, 1, 0, 39, 0), (4, .fconst 1, 0, 0, 0, 0), (5, .invokestatic 25, 243, 0, 0, 2), (8, .aload_n 0, 0, 0, 0, 0), (9, .getfield 15, 1, 1, 43, 0), (12, .bipush (-6), 6, 1, 0, 0), (14, .invokestatic 31, 246, 1, 0, 2), (17, .aload_n 0, 0, 0, 0, 0), (18, .getfield 19, 1, 2, 46, 0), (21, .bipush (-6), 6, 1, 0, 0), (23, .invokestatic 31, 246, 1, 0, 2), (26, .aload_n 0, 0, 0, 0, 0), (27, .getfield 22, 1, 3, 49, 0), (30, .bipush (-6), 6, 1, 0, 0), (32, .invokestatic 31, 246, 1, 0, 2), (35, .return_, 0, 0, 0, 0)]
theorem so_X1_makeNew_0 : sgOK mi_X1_makeNew gm_X1_makeNew sg_X1_makeNew_0 = true := by decide +kernel
def sgs_X1_makeNew : Nat → Option (List Ins) := fun t => match t with
  | 0 => some sg_X1_makeNew_0
  | _ => none
theorem so_X1_makeNew : ∀ t sg, sgs_X1_makeNew t = some sg → sgOK mi_X1_makeNew gm_X1_makeNew sg = true ∧ segPc sg = t := by
  intro t sg h
  unfold sgs_X1_makeNew at h
  split at h
  · cases h; exact ⟨so_X1_makeNew_0, rfl⟩
  · cases h
def gm_J9_max_7cf53 : List MI := []
def sg_J9_max_7cf53_0 : List Ins := [(0, .iload_n 0, 0, 0, 0, 0), (1, .iload_n 1, 0, 0, 0, 0), (2, .if_icmp .lt 7, 0, 0, 9, 0), (5, .iload_n 0, 0, 0, 0, 0), (6, .goto 4, 0, 0, 10, 0)]
theorem so_J9_max_7cf53_0 : sgOK mi_J9_max_7cf53 gm_J9_max_7cf53 sg_J9_max_7cf53_0 = true := by decide +kernel
def sg_J9_max_7cf53_9 : List Ins := [(9, .iload_n 1, 0, 0, 0, 0), (10, .ireturn, 0, 0, 0, 0)]
theorem so_J9_max_7cf53_9 : sgOK mi_J9_max_7cf53 gm_J9_max_7cf53 sg_J9_max_7cf53_9 = true := by decide +kernel
def sg_J9_max_7cf53_10 : List Ins := [(10, .ireturn, 0, 0, 0, 0)]
theorem so_J9_max_7cf53_10 : sgOK mi_J9_max_7cf53 gm_J9_max_7cf53 sg_J9_max_7cf53_10 = true := by decide +kernel
def sgs_J9_max_7cf53 : Nat → Option (List Ins) := fun t => match t with
  | 0 => some sg_J9_max_7cf53_0
  | 9 => some sg_J9_max_7cf53_9
  | 10 => some sg_J9_max_7cf53_10
  | _ => none
theorem so_J9_max_7cf53 : ∀ t sg, sgs_J9_max_7cf53 t = some sg → sgOK mi_J9_max_7cf53 gm_J9_max_7cf53 sg = true ∧ segPc sg = t := by
  intro t sg h
  unfold sgs_J9_max_7cf53 at h
  split at h
  · cases h; exact ⟨so_J9_max_7cf53_0, rfl⟩
  · cases h; exact ⟨so_J9_max_7cf53_9, rfl⟩
  · cases h; exact ⟨so_J9_max_7cf53_10, rfl⟩
  · cases h
def gm_J9_min_7cf53 : List MI := []
def sg_J9_min_7cf53_0 : List Ins := [(0, .iload_n 0, 0, 0, 0, 0), (1, .iload_n 1, 0, 0, 0, 0), (2, .if_icmp .gt 7, 0, 0, 9, 0), (5, .iload_n 0, 0, 0, 0, 0), (6, .goto 4, 0, 0, 10, 0)]
theorem so_J9_min_7cf53_0 : sgOK mi_J9_min_7cf53 gm_J9_min_7cf53 sg_J9_min_7cf53_0 = true := by decide +kernel
def sg_J9_min_7cf53_9 : List Ins := [(9, .iload_n 1, 0, 0, 0, 0), (10, .ireturn, 0, 0, 0, 0)]
theorem so_J9_min_7cf53_9 : sgOK mi_J9_min_7cf53 gm_J9_min_7cf53 sg_J9_min_7cf53_9 = true := by decide +kernel
def sg_J9_min_7cf53_10 : List Ins := [(10, .ireturn, 0, 0, 0, 0)]
theorem so_J9_min_7cf53_10 : sgOK mi_J9_min_7cf53 gm_J9_min_7cf53 sg_J9_min_7cf53_10 = true := by decide +kernel
def sgs_J9_min_7cf53 : Nat → Option (List Ins) := fun t => match t with
  | 0 => some sg_J9_min_7cf53_0
  | 9 => some sg_J9_min_7cf53_9
  | 10 => some sg_J9_min_7cf53_10
  | _ => none
theorem so_J9_min_7cf53 : ∀ t sg, sgs_J9_min_7cf53 t = some sg → sgOK mi_J9_min_7cf53 gm_J9_min_7cf53 sg = true ∧ segPc sg = t := by
  intro t sg h
  unfold sgs_J9_min_7cf53 at h
  split at h
  · cases h; exact ⟨so_J9_min_7cf53_0, rfl⟩
  · cases h; exact ⟨so_J9_min_7cf53_9, rfl⟩
  · cases h; exact ⟨so_J9_min_7cf53_10, rfl⟩
  · cases h
def gm_J9_abs_0f7a4 : List MI := []
def sg_J9_abs_0f7a4_0 : List Ins := [(0, .iload_n 0, 0, 0, 0, 0), (1, .ifCond .ge 8, 0, 0, 9, 0), (4, .iload_n 0, 0, 0, 0, 0), (5, .ineg, 0, 0, 0, 0), (6, .goto 4, 0, 0, 10, 0)]
theorem so_J9_abs_0f7a4_0 : sgOK mi_J9_abs_0f7a4 gm_J9_abs_0f7a4 sg_J9_abs_0f7a4_0 = true := by decide +kernel
def sg_J9_abs_0f7a4_9 : List Ins := [(9, .iload_n 0, 0, 0, 0, 0), (10, .ireturn, 0, 0, 0, 0)]
theorem so_J9_abs_0f7a4_9 : sgOK mi_J9_abs_0f7a4 gm_J9_abs_0f7a4 sg_J9_abs_0f7a4_9 = true := by decide +kernel
def sg_J9_abs_0f7a4_10 : List Ins := [(10, .ireturn, 0, 0, 0, 0)]
theorem so_J9_abs_0f7a4_10 : sgOK mi_J9_abs_0f7a4 gm_J9_abs_0f7a4 sg_J9_abs_0f7a4_10 = true := by decide +kernel
def sgs_J9_abs_0f7a4 : Nat → Option (List Ins) := fun t => match t with
  | 0 => some sg_J9_abs_0f7a4_0
  | 9 => some sg_J9_abs_0f7a4_9
  | 10 => some sg_J9_abs_0f7a4_10
  | _ => none
theorem so_J9_abs_0f7a4 : ∀ t sg, sgs_J9_abs_0f7a4 t = some sg → sgOK mi_J9_abs_0f7a4 gm_J9_abs_0f7a4 sg = true ∧ segPc sg = t := by
  intro t sg h
  unfold sgs_J9_abs_0f7a4 at h
  split at h
  · cases h; exact ⟨so_J9_abs_0f7a4_0, rfl⟩
  · cases h; exact ⟨so_J9_abs_0f7a4_9, rfl⟩
  · cases h; exact ⟨so_J9_abs_0f7a4_10, rfl⟩
  · cases h
def gm_X1_isFree : List MI := []
def sg_X1_isFree_0 : List Ins := [(0, .aload_n 0, 0, 0, 0, 0), (1, .getfield 15, 1, 1, 43, 0), (4, .iload_n 1, 0, 0, 0, 0), (5, .iaload, 8, 0, 0, 0), (6, .bipush (-6), 6, 1, 0, 0), (8, .if_icmp .ne 18, 0, 0, 26, 0), (11, .aload_n 0, 0, 0, 0, 0), (12, .getfield 22, 1, 3, 49, 0), (15, .iload_n 1, 0, 0, 0, 0), (16, .iaload, 8, 0, 0, 0), (17, .bipush (-6), 6, 1, 0, 0), (19, .if_icmp .ne 7, 0, 0, 26, 0), (22, .iconst 1, 1, 0, 0, 0), (23, .goto 4, 0, 0, 27, 0)]
theorem so_X1_isFree_0 : sgOK mi_X1_isFree gm_X1_isFree sg_X1_isFree_0 = true := by decide +kernel
def sg_X1_isFree_26 : List Ins := [(26, .iconst 0, 0, 0, 0, 0), (27, .ireturn, 0, 0, 0, 0)]
theorem so_X1_isFree_26 : sgOK mi_X1_isFree gm_X1_isFree sg_X1_isFree_26 = true := by decide +kernel
def sg_X1_isFree_27 : List Ins := [(27, .ireturn, 0, 0, 0, 0)]
theorem so_X1_isFree_27 : sgOK mi_X1_isFree gm_X1_isFree sg_X1_isFree_27 = true := by decide +kernel
def sgs_X1_isFree : Nat → Option (List Ins) := fun t => match t with
  | 0 => some sg_X1_isFree_0
  | 26 => some sg_X1_isFree_26
  | 27 => some sg_X1_isFree_27
  | _ => none
theorem so_X1_isFree : ∀ t sg, sgs_X1_isFree t = some sg → sgOK mi_X1_isFree gm_X1_isFree sg = true ∧ segPc sg = t := by
  intro t sg h
  unfold sgs_X1_isFree at h
  split at h
  · cases h; exact ⟨so_X1_isFree_0, rfl⟩
  · cases h; exact ⟨so_X1_isFree_26, rfl⟩
  · cases h; exact ⟨so_X1_isFree_27, rfl⟩
  · cases h
def gm_X1_promisedPlaces : List MI := []
def sg_X1_promisedPlaces_0 : List Ins := [(0, .iconst 0, 0, 0, 0, 0), (1, .istore_n 1, 0, 0, 0, 0), (2, .iconst 0, 0, 0, 0, 0), (3, .istore_n 2, 0, 0, 0, 0), (4, .nop, 0, 0, 0, 0)]
theorem so_X1_promisedPlaces_0 : sgOK mi_X1_promisedPlaces gm_X1_promisedPlaces sg_X1_promisedPlaces_0 = true := by decide +kernel
def sg_X1_promisedPlaces_4 : List Ins := [(4, .iload_n 2, 0, 0, 0, 0), (5, .bipush 120, 120, 0, 0, 0), (7, .if_icmp .ge 28, 0, 0, 35, 0), (10, .iload_n 1, 0, 0, 0, 0), (11, .aload_n 0, 0, 0, 0, 0), (12, .getfield 22, 1, 3, 49, 0), (15, .iload_n 2, 0, 0, 0, 0), (16, .iaload, 8, 0, 0, 0), (17, .bipush (-6), 6, 1, 0, 0), (19, .if_icmp .eq 7, 0, 0, 26, 0), (22, .iconst 1, 1, 0, 0, 0), (23, .goto 4, 0, 0, 27, 0)]
theorem so_X1_promisedPlaces_4 : sgOK mi_X1_promisedPlaces gm_X1_promisedPlaces sg_X1_promisedPlaces_4 = true := by decide +kernel
def sg_X1_promisedPlaces_26 : List Ins := [(26, .iconst 0, 0, 0, 0, 0), (27, .iadd, 0, 0, 0, 0), (28, .istore_n 1, 0, 0, 0, 0), (29, .iinc 2 1, 1, 0, 0, 0), (32, .goto (-28), 0, 0, 4, 0)]
theorem so_X1_promisedPlaces_26 : sgOK mi_X1_promisedPlaces gm_X1_promisedPlaces sg_X1_promisedPlaces_26 = true := by decide +kernel
def sg_X1_promisedPlaces_27 : List Ins := [(27, .iadd, 0, 0, 0, 0), (28, .istore_n 1, 0, 0, 0, 0), (29, .iinc 2 1, 1, 0, 0, 0), (32, .goto (-28), 0, 0, 4, 0)]
theorem so_X1_promisedPlaces_27 : sgOK mi_X1_promisedPlaces gm_X1_promisedPlaces sg_X1_promisedPlaces_27 = true := by decide +kernel
def sg_X1_promisedPlaces_35 : List Ins := [(35, .iload_n 1, 0, 0, 0, 0), (36, .ireturn, 0, 0, 0, 0)]
theorem so_X1_promisedPlaces_35 : sgOK mi_X1_promisedPlaces gm_X1_promisedPlaces sg_X1_promisedPlaces_35 = true := by decide +kernel
def sgs_X1_promisedPlaces : Nat → Option (List Ins) := fun t => match t with
  | 0 => some sg_X1_promisedPlaces_0
  | 26 => some sg_X1_promisedPlaces_26
  | 27 => some sg_X1_promisedPlaces_27
  | 35 => some sg_X1_promisedPlaces_35
  | _ => none
theorem so_X1_promisedPlaces : ∀ t sg, sgs_X1_promisedPlaces t = some sg → sgOK mi_X1_promisedPlaces gm_X1_promisedPlaces sg = true ∧ segPc sg = t := by
  intro t sg h
  unfold sgs_X1_promisedPlaces at h
  split at h
  · cases h; exact ⟨so_X1_promisedPlaces_0, rfl⟩
  · cases h; exact ⟨so_X1_promisedPlaces_26, rfl⟩
  · cases h; exact ⟨so_X1_promisedPlaces_27, rfl⟩
  · cases h; exact ⟨so_X1_promisedPlaces_35, rfl⟩
  · cases h
def gm_X1_leastLight : List MI := []
def sg_X1_leastLight_0 : List Ins := [(0, .aload_n 0, 0, 0, 0, 0), (1, .getfield 9, 1, 0, 39, 0), (4, .iconst 0, 0, 0, 0, 0), (5, .faload, 0, 0, 0, 0), (6, .fstore_n 1, 0, 0, 0, 0), (7, .iconst 1, 1, 0, 0, 0), (8, .istore_n 2, 0, 0, 0, 0), (9, .nop, 0, 0, 0, 0)]
theorem so_X1_leastLight_0 : sgOK mi_X1_leastLight gm_X1_leastLight sg_X1_leastLight_0 = true := by decide +kernel
def sg_X1_leastLight_9 : List Ins := [(9, .iload_n 2, 0, 0, 0, 0), (10, .bipush 120, 120, 0, 0, 0), (12, .if_icmp .ge 31, 0, 0, 43, 0), (15, .aload_n 0, 0, 0, 0, 0), (16, .getfield 9, 1, 0, 39, 0), (19, .iload_n 2, 0, 0, 0, 0), (20, .faload, 0, 0, 0, 0), (21, .fload_n 1, 0, 0, 0, 0), (22, .fcmp .g, 0, 0, 0, 0), (23, .ifCond .ge 12, 0, 0, 35, 0), (26, .aload_n 0, 0, 0, 0, 0), (27, .getfield 9, 1, 0, 39, 0), (30, .iload_n 2, 0, 0, 0, 0), (31, .faload, 0, 0, 0, 0), (32, .goto 4, 0, 0, 36, 0)]
theorem so_X1_leastLight_9 : sgOK mi_X1_leastLight gm_X1_leastLight sg_X1_leastLight_9 = true := by decide +kernel
def sg_X1_leastLight_35 : List Ins := [(35, .fload_n 1, 0, 0, 0, 0), (36, .fstore_n 1, 0, 0, 0, 0), (37, .iinc 2 1, 1, 0, 0, 0), (40, .goto (-31), 0, 0, 9, 0)]
theorem so_X1_leastLight_35 : sgOK mi_X1_leastLight gm_X1_leastLight sg_X1_leastLight_35 = true := by decide +kernel
def sg_X1_leastLight_36 : List Ins := [(36, .fstore_n 1, 0, 0, 0, 0), (37, .iinc 2 1, 1, 0, 0, 0), (40, .goto (-31), 0, 0, 9, 0)]
theorem so_X1_leastLight_36 : sgOK mi_X1_leastLight gm_X1_leastLight sg_X1_leastLight_36 = true := by decide +kernel
def sg_X1_leastLight_43 : List Ins := [(43, .fload_n 1, 0, 0, 0, 0), (44, .freturn, 0, 0, 0, 0)]
theorem so_X1_leastLight_43 : sgOK mi_X1_leastLight gm_X1_leastLight sg_X1_leastLight_43 = true := by decide +kernel
def sgs_X1_leastLight : Nat → Option (List Ins) := fun t => match t with
  | 0 => some sg_X1_leastLight_0
  | 35 => some sg_X1_leastLight_35
  | 36 => some sg_X1_leastLight_36
  | 43 => some sg_X1_leastLight_43
  | _ => none
theorem so_X1_leastLight : ∀ t sg, sgs_X1_leastLight t = some sg → sgOK mi_X1_leastLight gm_X1_leastLight sg = true ∧ segPc sg = t := by
  intro t sg h
  unfold sgs_X1_leastLight at h
  split at h
  · cases h; exact ⟨so_X1_leastLight_0, rfl⟩
  · cases h; exact ⟨so_X1_leastLight_35, rfl⟩
  · cases h; exact ⟨so_X1_leastLight_36, rfl⟩
  · cases h; exact ⟨so_X1_leastLight_43, rfl⟩
  · cases h
def gm_X1_sumOfLight : List MI := []
def sg_X1_sumOfLight_0 : List Ins := [(0, .fconst 0, 0, 0, 0, 0), (1, .fstore_n 1, 0, 0, 0, 0), (2, .iconst 0, 0, 0, 0, 0), (3, .istore_n 2, 0, 0, 0, 0), (4, .nop, 0, 0, 0, 0)]
theorem so_X1_sumOfLight_0 : sgOK mi_X1_sumOfLight gm_X1_sumOfLight sg_X1_sumOfLight_0 = true := by decide +kernel
def sg_X1_sumOfLight_4 : List Ins := [(4, .iload_n 2, 0, 0, 0, 0), (5, .bipush 120, 120, 0, 0, 0), (7, .if_icmp .ge 18, 0, 0, 25, 0), (10, .fload_n 1, 0, 0, 0, 0), (11, .aload_n 0, 0, 0, 0, 0), (12, .getfield 9, 1, 0, 39, 0), (15, .iload_n 2, 0, 0, 0, 0), (16, .faload, 0, 0, 0, 0), (17, .fadd, 0, 0, 0, 0), (18, .fstore_n 1, 0, 0, 0, 0), (19, .iinc 2 1, 1, 0, 0, 0), (22, .goto (-18), 0, 0, 4, 0)]
theorem so_X1_sumOfLight_4 : sgOK mi_X1_sumOfLight gm_X1_sumOfLight sg_X1_sumOfLight_4 = true := by decide +kernel
def sg_X1_sumOfLight_25 : List Ins := [(25, .fload_n 1, 0, 0, 0, 0), (26, .freturn, 0, 0, 0, 0)]
theorem so_X1_sumOfLight_25 : sgOK mi_X1_sumOfLight gm_X1_sumOfLight sg_X1_sumOfLight_25 = true := by decide +kernel
def sgs_X1_sumOfLight : Nat → Option (List Ins) := fun t => match t with
  | 0 => some sg_X1_sumOfLight_0
  | 25 => some sg_X1_sumOfLight_25
  | _ => none
theorem so_X1_sumOfLight : ∀ t sg, sgs_X1_sumOfLight t = some sg → sgOK mi_X1_sumOfLight gm_X1_sumOfLight sg = true ∧ segPc sg = t := by
  intro t sg h
  unfold sgs_X1_sumOfLight at h
  split at h
  · cases h; exact ⟨so_X1_sumOfLight_0, rfl⟩
  · cases h; exact ⟨so_X1_sumOfLight_25, rfl⟩
  · cases h
def gm_X4_init : List MI := []
def sg_X4_init_0 : List Ins := [(0, .aload_n 0, 0, 0, 0, 0), (1, .invokespecial 3, 132, 0, 8, 0), (4, .aload_n 0, 0, 0, 0, 0), (5, .bipush 80, 80, 0, 0, 0), (7, .newarray .char, 11, 0, 142, 0), (9, .putfield 11, 4, 0, 133, 0), (12, .aload_n 0, 0, 0, 0, 0), (13, .iconst 0, 0, 0, 0, 0), (14, .putfield 15, 4, 1, 134, 0), (17, .return_, 0, 0, 0, 0)]
theorem so_X4_init_0 : sgOK mi_X4_init gm_X4_init sg_X4_init_0 = true := by decide +kernel
def sgs_X4_init : Nat → Option (List Ins) := fun t => match t with
  | 0 => some sg_X4_init_0
  | _ => none
theorem so_X4_init : ∀ t sg, sgs_X4_init t = some sg → sgOK mi_X4_init gm_X4_init sg = true ∧ segPc sg = t := by
  intro t sg h
  unfold sgs_X4_init at h
  split at h
  · cases h; exact ⟨so_X4_init_0, rfl⟩
  · cases h
def gm_X3_init : List MI := [mi_X4_init]
def sg_X3_init_0 : List Ins := [(0, .aload_n 0, 0, 0, 0, 0), (1, .invokespecial 3, 126, 0, 8, 0), (4, .aload_n 0, 0, 0, 0, 0), (5, .new 9, 4, 128, 127, 13), (8, .dup, 0, 0, 0, 0), (9, .invokespecial 11, 129, 0, 3, 1), (12, .putfield 12, 3, 0, 143, 0), (15, .aload_n 0, 0, 0, 0, 0), (16, .bipush 80, 80, 0, 0, 0), (18, .newarray .char, 11, 0, 142, 0), (20, .putfield 18, 3, 1, 145, 0), (23, .aload_n 0, 0, 0, 0, 0), (24, .bipush 80, 80, 0, 0, 0), (26, .newarray .int, 8, 0, 62, 0), (28, .putfield 22, 3, 2, 146, 0), (31, .aload_n 0, 0, 0, 0, 0), (32, .bipush 80, 80, 0, 0, 0), (34, .newarray .int, 8, 0, 62, 0), (36, .putfield 26, 3, 3, 147, 0), (39, .aload_n 0, 0, 0, 0, 0), (40, .bipush 80, 80, 0, 0, 0), (42, .newarray .int, 8, 0, 62, 0), (44, .putfield 29, 3, 4, 148, 0), (47, .aload_n 0, 0, 0, 0, 0), (48, .bipush 80, 80, 0, 0, 0), (50, .newarray .int, 8, 0, 62, 0), (52, .putfield 32, 3, 5, 149, 0), (55, .aload_n 0, 0, 0, 0, 0), (56, .iconst 0, 0, 0, 0, 0), (57, .putfield 35, 3, 6, 150, 0), (60, .aload_n 0, 0, 0, 0, 0), (61, .iconst 0, 0, 0, 0, 0), (62, .putfield 39, 3, 7, 151, 0), (65, .aload_n 0, 0, 0, 0, 0), (66, .iconst 0, 0, 0, 0, 0), (67, .putfield 42, 3, 8, 152, 0), (70, .aload_n 0, 0, 0, 0, 0), (71, .iconst 0, 0, 0, 0, 0), (72, .putfield 45, 3, 9, 153, 0), (75, .aload_n 0, 0, 0, 0, 0), (76, .iconst 0, 0, 0, 0, 0), (77, .putfield 48, 3, 10, 154, 0), (80, .aload_n 0, 0, 0, 0, 0), (81, .iconst 0, 0, 0, 0, 0), (82, .putfield 51, 3, 11, 155, 0), (85, .return_, 0, 0, 0, 0)]
theorem so_X3_init_0 : sgOK mi_X3_init gm_X3_init sg_X3_init_0 = true := by decide +kernel
def sgs_X3_init : Nat → Option (List Ins) := fun t => match t with
  | 0 => some sg_X3_init_0
  | _ => none
theorem so_X3_init : ∀ t sg, sgs_X3_init t = some sg → sgOK mi_X3_init gm_X3_init sg = true ∧ segPc sg = t := by
  intro t sg h
  unfold sgs_X3_init at h
  split at h
  · cases h; exact ⟨so_X3_init_0, rfl⟩
  · cases h
