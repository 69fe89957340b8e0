/-! stretches of code (printed by wip/p30/gen/meth.py) -/
def gm_X0_init : List MI := [mi_X1_init]
def sg_X0_init_0 : List Ins := [(0, .aload_n 0, 0, 0, 0, 0), (1, .invokespecial 3, 31, 0, 8, 0), (4, .aload_n 0, 0, 0, 0, 0), (5, .iconst 4, 4, 0, 0, 0), (6, .newarray .int, 8, 0, 62, 0), (8, .dup, 0, 0, 0, 0), (9, .iconst 0, 0, 0, 0, 0), (10, .bipush 6, 6, 0, 0, 0), (12, .iastore, 0, 0, 0, 0), (13, .dup, 0, 0, 0, 0), (14, .iconst 1, 1, 0, 0, 0), (15, .iconst 2, 2, 0, 0, 0), (16, .iastore, 0, 0, 0, 0), (17, .dup, 0, 0, 0, 0), (18, .iconst 2, 2, 0, 0, 0), (19, .bipush 40, 40, 0, 0, 0), (21, .iastore, 0, 0, 0, 0), (22, .dup, 0, 0, 0, 0), (23, .iconst 3, 3, 0, 0, 0), (24, .bipush 10, 10, 0, 0, 0), (26, .iastore, 0, 0, 0, 0), (27, .putfield 9, 0, 0, 64, 0), (30, .aload_n 0, 0, 0, 0, 0), (31, .iconst 5, 5, 0, 0, 0), (32, .newarray .int, 8, 0, 62, 0), (34, .putfield 15, 0, 1, 66, 0), (37, .aload_n 0, 0, 0, 0, 0), (38, .iconst 5, 5, 0, 0, 0), (39, .newarray .int, 8, 0, 62, 0), (41, .putfield 18, 0, 2, 68, 0), (44, .aload_n 0, 0, 0, 0, 0), (45, .iconst 5, 5, 0, 0, 0), (46, .newarray .int, 8, 0, 62, 0), (48, .putfield 21, 0, 3, 70, 0), (51, .aload_n 0, 0, 0, 0, 0), (52, .iconst 4, 4, 0, 0, 0), (53, .anewarray 24, 13, 0, 32, 0), (56, .putfield 26, 0, 4, 72, 0), (59, .aload_n 0, 0, 0, 0, 0), (60, .iconst 0, 0, 0, 0, 0), (61, .putfield 30, 0, 5, 74, 0), (64, .aload_n 0, 0, 0, 0, 0), (65, .iconst 0, 0, 0, 0, 0), (66, .putfield 34, 0, 6, 76, 0), (69, .aload_n 0, 0, 0, 0, 0), (70, .bipush (-6), 6, 1, 0, 0), (72, .putfield 37, 0, 7, 78, 0), (75, .aload_n 0, 0, 0, 0, 0), (76, .iconst 0, 0, 0, 0, 0), (77, .putfield 40, 0, 8, 80, 0), (80, .iconst 0, 0, 0, 0, 0), (81, .istore_n 1, 0, 0, 0, 0), (82, .nop, 0, 0, 0, 0)]
theorem so_X0_init_0 : sgOK mi_X0_init gm_X0_init sg_X0_init_0 = true := by decide +kernel
def sg_X0_init_82 : List Ins := [(82, .iload_n 1, 0, 0, 0, 0), (83, .iconst 4, 4, 0, 0, 0), (84, .if_icmp .ge 22, 0, 0, 106, 0), (87, .aload_n 0, 0, 0, 0, 0), (88, .getfield 26, 0, 4, 72, 0), (91, .iload_n 1, 0, 0, 0, 0), (92, .new 24, 1, 34, 32, 10), (95, .dup, 0, 0, 0, 0), (96, .invokespecial 43, 35, 0, 3, 1), (99, .aastore, 13, 0, 0, 0), (100, .iinc 1 1, 1, 0, 0, 0), (103, .goto (-21), 0, 0, 82, 0)]
theorem so_X0_init_82 : sgOK mi_X0_init gm_X0_init sg_X0_init_82 = true := by decide +kernel
def sg_X0_init_106 : List Ins := [(106, .return_, 0, 0, 0, 0)]
theorem so_X0_init_106 : sgOK mi_X0_init gm_X0_init sg_X0_init_106 = true := by decide +kernel
def sgs_X0_init : Nat → Option (List Ins) := fun t => match t with
  | 0 => some sg_X0_init_0
  | 106 => some sg_X0_init_106
  | _ => none
theorem so_X0_init : ∀ t sg, sgs_X0_init t = some sg → sgOK mi_X0_init gm_X0_init sg = true ∧ segPc sg = t := by
  intro t sg h
  unfold sgs_X0_init at h
  split at h
  · cases h; exact ⟨so_X0_init_0, rfl⟩
  · cases h; exact ⟨so_X0_init_106, rfl⟩
  · cases h
def gm_X0_copyFrom : List MI := [mi_X1_copyFrom]
def sg_X0_copyFrom_0 : List Ins := [(0, .aload_n 1, 0, 0, 0, 0), (1, .getfield 9, 0, 0, 64, 0), (4, .iconst 0, 0, 0, 0, 0), (5, .aload_n 0, 0, 0, 0, 0), (6, .getfield 9, 0, 0, 64, 0), (9, .iconst 0, 0, 0, 0, 0), (10, .aload_n 0, 0, 0, 0, 0), (11, .getfield 9, 0, 0, 64, 0), (14, .arraylength, 8, 0, 0, 0), (15, .invokestatic 44, 227, 0, 4, 0), (18, .aload_n 1, 0, 0, 0, 0), (19, .getfield 15, 0, 1, 66, 0), (22, .iconst 0, 0, 0, 0, 0), (23, .aload_n 0, 0, 0, 0, 0), (24, .getfield 15, 0, 1, 66, 0), (27, .iconst 0, 0, 0, 0, 0), (28, .iconst 5, 5, 0, 0, 0), (29, .invokestatic 44, 227, 0, 4, 0), (32, .aload_n 1, 0, 0, 0, 0), (33, .getfield 18, 0, 2, 68, 0), (36, .iconst 0, 0, 0, 0, 0), (37, .aload_n 0, 0, 0, 0, 0), (38, .getfield 18, 0, 2, 68, 0), (41, .iconst 0, 0, 0, 0, 0), (42, .iconst 5, 5, 0, 0, 0), (43, .invokestatic 44, 227, 0, 4, 0), (46, .aload_n 1, 0, 0, 0, 0), (47, .getfield 21, 0, 3, 70, 0), (50, .iconst 0, 0, 0, 0, 0), (51, .aload_n 0, 0, 0, 0, 0), (52, .getfield 21, 0, 3, 70, 0), (55, .iconst 0, 0, 0, 0, 0), (56, .iconst 5, 5, 0, 0, 0), (57, .invokestatic 44, 227, 0, 4, 0), (60, .aload_n 0, 0, 0, 0, 0), (61, .aload_n 1, 0, 0, 0, 0), (62, .getfield 30, 0, 5, 74, 0), (65, .putfield 30, 0, 5, 74, 0), (68, .aload_n 0, 0, 0, 0, 0), (69, .aload_n 1, 0, 0, 0, 0), (70, .getfield 34, 0, 6, 76, 0), (73, .putfield 34, 0, 6, 76, 0), (76, .aload_n 0, 0, 0, 0, 0), (77, .aload_n 1, 0, 0, 0, 0), (78, .getfield 37, 0, 7, 78, 0), (81, .putfield 37, 0, 7, 78, 0), (84, .aload_n 0, 0, 0, 0, 0), (85, .aload_n 1, 0, 0, 0, 0), (86, .getfield 40, 0, 8, 80, 0), (89, .putfield 40, 0, 8, 80, 0), (92, .iconst 0, 0, 0, 0, 0), (93, .istore_n 2, 0, 0, 0, 0), (94, .nop, 0, 0, 0, 0)]
theorem so_X0_copyFrom_0 : sgOK mi_X0_copyFrom gm_X0_copyFrom sg_X0_copyFrom_0 = true := by decide +kernel
def sg_X0_copyFrom_94 : List Ins := [(94, .iload_n 2, 0, 0, 0, 0), (95, .aload_n 0, 0, 0, 0, 0), (96, .getfield 34, 0, 6, 76, 0), (99, .if_icmp .ge 24, 0, 0, 123, 0), (102, .aload_n 0, 0, 0, 0, 0), (103, .getfield 26, 0, 4, 72, 0), (106, .iload_n 2, 0, 0, 0, 0), (107, .aaload, 13, 0, 0, 0), (108, .aload_n 1, 0, 0, 0, 0), (109, .getfield 26, 0, 4, 72, 0), (112, .iload_n 2, 0, 0, 0, 0), (113, .aaload, 13, 0, 0, 0), (114, .invokevirtual 50, 230, 0, 11, 2), (117, .iinc 2 1, 1, 0, 0, 0), (120, .goto (-26), 0, 0, 94, 0)]
theorem so_X0_copyFrom_94 : sgOK mi_X0_copyFrom gm_X0_copyFrom sg_X0_copyFrom_94 = true := by decide +kernel
def sg_X0_copyFrom_123 : List Ins := [(123, .return_, 0, 0, 0, 0)]
theorem so_X0_copyFrom_123 : sgOK mi_X0_copyFrom gm_X0_copyFrom sg_X0_copyFrom_123 = true := by decide +kernel
def sgs_X0_copyFrom : Nat → Option (List Ins) := fun t => match t with
  | 0 => some sg_X0_copyFrom_0
  | 123 => some sg_X0_copyFrom_123
  | _ => none
theorem so_X0_copyFrom : ∀ t sg, sgs_X0_copyFrom t = some sg → sgOK mi_X0_copyFrom gm_X0_copyFrom sg = true ∧ segPc sg = t := by
  intro t sg h
  unfold sgs_X0_copyFrom at h
  split at h
  · cases h; exact ⟨so_X0_copyFrom_0, rfl⟩
  · cases h; exact ⟨so_X0_copyFrom_123, rfl⟩
  · cases h
def gm_X0_isPlate : List MI := []
def sg_X0_isPlate_0 : List Ins := [(0, .iload_n 1, 0, 0, 0, 0), (1, .ifCond .lt 15, 0, 0, 16, 0), (4, .iload_n 1, 0, 0, 0, 0), (5, .aload_n 0, 0, 0, 0, 0), (6, .getfield 34, 0, 6, 76, 0), (9, .if_icmp .ge 7, 0, 0, 16, 0), (12, .iconst 1, 1, 0, 0, 0), (13, .goto 4, 0, 0, 17, 0)]
theorem so_X0_isPlate_0 : sgOK mi_X0_isPlate gm_X0_isPlate sg_X0_isPlate_0 = true := by decide +kernel
def sg_X0_isPlate_16 : List Ins := [(16, .iconst 0, 0, 0, 0, 0), (17, .ireturn, 0, 0, 0, 0)]
theorem so_X0_isPlate_16 : sgOK mi_X0_isPlate gm_X0_isPlate sg_X0_isPlate_16 = true := by decide +kernel
def sg_X0_isPlate_17 : List Ins := [(17, .ireturn, 0, 0, 0, 0)]
theorem so_X0_isPlate_17 : sgOK mi_X0_isPlate gm_X0_isPlate sg_X0_isPlate_17 = true := by decide +kernel
def sgs_X0_isPlate : Nat → Option (List Ins) := fun t => match t with
  | 0 => some sg_X0_isPlate_0
  | 16 => some sg_X0_isPlate_16
  | 17 => some sg_X0_isPlate_17
  | _ => none
theorem so_X0_isPlate : ∀ t sg, sgs_X0_isPlate t = some sg → sgOK mi_X0_isPlate gm_X0_isPlate sg = true ∧ segPc sg = t := by
  intro t sg h
  unfold sgs_X0_isPlate at h
  split at h
  · cases h; exact ⟨so_X0_isPlate_0, rfl⟩
  · cases h; exact ⟨so_X0_isPlate_16, rfl⟩
  · cases h; exact ⟨so_X0_isPlate_17, rfl⟩
  · cases h
def gm_X0_isWriter : List MI := []
def sg_X0_isWriter_0 : List Ins := [(0, .iload_n 1, 0, 0, 0, 0), (1, .ifCond .lt 15, 0, 0, 16, 0), (4, .iload_n 1, 0, 0, 0, 0), (5, .aload_n 0, 0, 0, 0, 0), (6, .getfield 40, 0, 8, 80, 0), (9, .if_icmp .ge 7, 0, 0, 16, 0), (12, .iconst 1, 1, 0, 0, 0), (13, .goto 4, 0, 0, 17, 0)]
theorem so_X0_isWriter_0 : sgOK mi_X0_isWriter gm_X0_isWriter sg_X0_isWriter_0 = true := by decide +kernel
def sg_X0_isWriter_16 : List Ins := [(16, .iconst 0, 0, 0, 0, 0), (17, .ireturn, 0, 0, 0, 0)]
theorem so_X0_isWriter_16 : sgOK mi_X0_isWriter gm_X0_isWriter sg_X0_isWriter_16 = true := by decide +kernel
def sg_X0_isWriter_17 : List Ins := [(17, .ireturn, 0, 0, 0, 0)]
theorem so_X0_isWriter_17 : sgOK mi_X0_isWriter gm_X0_isWriter sg_X0_isWriter_17 = true := by decide +kernel
def sgs_X0_isWriter : Nat → Option (List Ins) := fun t => match t with
  | 0 => some sg_X0_isWriter_0
  | 16 => some sg_X0_isWriter_16
  | 17 => some sg_X0_isWriter_17
  | _ => none
theorem so_X0_isWriter : ∀ t sg, sgs_X0_isWriter t = some sg → sgOK mi_X0_isWriter gm_X0_isWriter sg = true ∧ segPc sg = t := by
  intro t sg h
  unfold sgs_X0_isWriter at h
  split at h
  · cases h; exact ⟨so_X0_isWriter_0, rfl⟩
  · cases h; exact ⟨so_X0_isWriter_16, rfl⟩
  · cases h; exact ⟨so_X0_isWriter_17, rfl⟩
  · cases h
def gm_X0_glassOnDesk : List MI := [mi_X0_isPlate]
def sg_X0_glassOnDesk_0 : List Ins := [(0, .aload_n 0, 0, 0, 0, 0), (1, .aload_n 0, 0, 0, 0, 0), (2, .getfield 37, 0, 7, 78, 0), (5, .invokevirtual 54, 296, 0, 10, 2), (8, .ifCond .eq 15, 0, 0, 23, 0), (11, .aload_n 0, 0, 0, 0, 0), (12, .getfield 26, 0, 4, 72, 0), (15, .aload_n 0, 0, 0, 0, 0), (16, .getfield 37, 0, 7, 78, 0), (19, .aaload, 13, 0, 0, 0), (20, .goto 4, 0, 0, 24, 0)]
theorem so_X0_glassOnDesk_0 : sgOK mi_X0_glassOnDesk gm_X0_glassOnDesk sg_X0_glassOnDesk_0 = true := by decide +kernel
def sg_X0_glassOnDesk_23 : List Ins := [(23, .aconst_null, 0, 0, 0, 0), (24, .areturn, 0, 0, 0, 0)]
theorem so_X0_glassOnDesk_23 : sgOK mi_X0_glassOnDesk gm_X0_glassOnDesk sg_X0_glassOnDesk_23 = true := by decide +kernel
def sg_X0_glassOnDesk_24 : List Ins := [(24, .areturn, 0, 0, 0, 0)]
theorem so_X0_glassOnDesk_24 : sgOK mi_X0_glassOnDesk gm_X0_glassOnDesk sg_X0_glassOnDesk_24 = true := by decide +kernel
def sgs_X0_glassOnDesk : Nat → Option (List Ins) := fun t => match t with
  | 0 => some sg_X0_glassOnDesk_0
  | 23 => some sg_X0_glassOnDesk_23
  | 24 => some sg_X0_glassOnDesk_24
  | _ => none
theorem so_X0_glassOnDesk : ∀ t sg, sgs_X0_glassOnDesk t = some sg → sgOK mi_X0_glassOnDesk gm_X0_glassOnDesk sg = true ∧ segPc sg = t := by
  intro t sg h
  unfold sgs_X0_glassOnDesk at h
  split at h
  · cases h; exact ⟨so_X0_glassOnDesk_0, rfl⟩
  · cases h; exact ⟨so_X0_glassOnDesk_23, rfl⟩
  · cases h; exact ⟨so_X0_glassOnDesk_24, rfl⟩
  · cases h
def gm_X0_change : List MI := []
def sg_X0_change_0 : List Ins := [(0, .iload_n 1, 0, 0, 0, 0), (1, .ifCond .lt 8, 0, 0, 9, 0), (4, .iload_n 1, 0, 0, 0, 0), (5, .iconst 3, 3, 0, 0, 0), (6, .if_icmp .le 6, 0, 0, 12, 0), (9, .bipush (-2), 2, 1, 0, 0), (11, .ireturn, 0, 0, 0, 0)]
theorem so_X0_change_0 : sgOK mi_X0_change gm_X0_change sg_X0_change_0 = true := by decide +kernel
def sg_X0_change_9 : List Ins := [(9, .bipush (-2), 2, 1, 0, 0), (11, .ireturn, 0, 0, 0, 0)]
theorem so_X0_change_9 : sgOK mi_X0_change gm_X0_change sg_X0_change_9 = true := by decide +kernel
def sg_X0_change_12 : List Ins := [(12, .iload_n 2, 0, 0, 0, 0), (13, .getstatic 58, 0, 0, 308, 0), (16, .iload_n 1, 0, 0, 0, 0), (17, .iaload, 14, 0, 0, 0), (18, .if_icmp .lt 12, 0, 0, 30, 0), (21, .iload_n 2, 0, 0, 0, 0), (22, .getstatic 61, 1, 0, 310, 0), (25, .iload_n 1, 0, 0, 0, 0), (26, .iaload, 15, 0, 0, 0), (27, .if_icmp .le 6, 0, 0, 33, 0), (30, .bipush (-2), 2, 1, 0, 0), (32, .ireturn, 0, 0, 0, 0)]
theorem so_X0_change_12 : sgOK mi_X0_change gm_X0_change sg_X0_change_12 = true := by decide +kernel
def sg_X0_change_30 : List Ins := [(30, .bipush (-2), 2, 1, 0, 0), (32, .ireturn, 0, 0, 0, 0)]
theorem so_X0_change_30 : sgOK mi_X0_change gm_X0_change sg_X0_change_30 = true := by decide +kernel
def sg_X0_change_33 : List Ins := [(33, .aload_n 0, 0, 0, 0, 0), (34, .getfield 9, 0, 0, 64, 0), (37, .iload_n 1, 0, 0, 0, 0), (38, .iaload, 8, 0, 0, 0), (39, .istore_n 3, 0, 0, 0, 0), (40, .aload_n 0, 0, 0, 0, 0), (41, .getfield 9, 0, 0, 64, 0), (44, .iload_n 1, 0, 0, 0, 0), (45, .iload_n 2, 0, 0, 0, 0), (46, .iastore, 0, 0, 0, 0), (47, .iload_n 3, 0, 0, 0, 0), (48, .ireturn, 0, 0, 0, 0)]
theorem so_X0_change_33 : sgOK mi_X0_change gm_X0_change sg_X0_change_33 = true := by decide +kernel
def sgs_X0_change : Nat → Option (List Ins) := fun t => match t with
  | 0 => some sg_X0_change_0
  | 9 => some sg_X0_change_9
  | 12 => some sg_X0_change_12
  | 30 => some sg_X0_change_30
  | 33 => some sg_X0_change_33
  | _ => none
theorem so_X0_change : ∀ t sg, sgs_X0_change t = some sg → sgOK mi_X0_change gm_X0_change sg = true ∧ segPc sg = t := by
  intro t sg h
  unfold sgs_X0_change at h
  split at h
  · cases h; exact ⟨so_X0_change_0, rfl⟩
  · cases h; exact ⟨so_X0_change_9, rfl⟩
  · cases h; exact ⟨so_X0_change_12, rfl⟩
  · cases h; exact ⟨so_X0_change_30, rfl⟩
  · cases h; exact ⟨so_X0_change_33, rfl⟩
  · cases h
def gm_X0_addPlate : List MI := [mi_X1_makeNew]
def sg_X0_addPlate_0 : List Ins := [(0, .aload_n 0, 0, 0, 0, 0), (1, .getfield 34, 0, 6, 76, 0), (4, .iconst 4, 4, 0, 0, 0), (5, .if_icmp .lt 6, 0, 0, 11, 0), (8, .bipush (-4), 4, 1, 0, 0), (10, .ireturn, 0, 0, 0, 0)]
theorem so_X0_addPlate_0 : sgOK mi_X0_addPlate gm_X0_addPlate sg_X0_addPlate_0 = true := by decide +kernel
def sg_X0_addPlate_11 : List Ins := [(11, .aload_n 0, 0, 0, 0, 0), (12, .getfield 26, 0, 4, 72, 0), (15, .aload_n 0, 0, 0, 0, 0), (16, .getfield 34, 0, 6, 76, 0), (19, .aaload, 13, 0, 0, 0), (20, .invokevirtual 64, 239, 0, 11, 1), (23, .aload_n 0, 0, 0, 0, 0), (24, .aload_n 0, 0, 0, 0, 0), (25, .getfield 34, 0, 6, 76, 0), (28, .putfield 37, 0, 7, 78, 0), (31, .aload_n 0, 0, 0, 0, 0), (32, .dup, 0, 0, 0, 0), (33, .getfield 34, 0, 6, 76, 0), (36, .iconst 1, 1, 0, 0, 0), (37, .iadd, 0, 0, 0, 0), (38, .putfield 34, 0, 6, 76, 0), (41, .aload_n 0, 0, 0, 0, 0), (42, .getfield 37, 0, 7, 78, 0), (45, .ireturn, 0, 0, 0, 0)]
theorem so_X0_addPlate_11 : sgOK mi_X0_addPlate gm_X0_addPlate sg_X0_addPlate_11 = true := by decide +kernel
def sgs_X0_addPlate : Nat → Option (List Ins) := fun t => match t with
  | 0 => some sg_X0_addPlate_0
  | 11 => some sg_X0_addPlate_11
  | _ => none
theorem so_X0_addPlate : ∀ t sg, sgs_X0_addPlate t = some sg → sgOK mi_X0_addPlate gm_X0_addPlate sg = true ∧ segPc sg = t := by
  intro t sg h
  unfold sgs_X0_addPlate at h
  split at h
  · cases h; exact ⟨so_X0_addPlate_0, rfl⟩
  · cases h; exact ⟨so_X0_addPlate_11, rfl⟩
  · cases h
def gm_X0_layPlate : List MI := [mi_X0_isPlate]
def sg_X0_layPlate_0 : List Ins := [(0, .aload_n 0, 0, 0, 0, 0), (1, .iload_n 1, 0, 0, 0, 0), (2, .invokevirtual 54, 296, 0, 10, 2), (5, .ifCond .ne 5, 0, 0, 10, 0), (8, .iconst (-1), 1, 1, 0, 0), (9, .ireturn, 0, 0, 0, 0)]
theorem so_X0_layPlate_0 : sgOK mi_X0_layPlate gm_X0_layPlate sg_X0_layPlate_0 = true := by decide +kernel
def sg_X0_layPlate_10 : List Ins := [(10, .iload_n 1, 0, 0, 0, 0), (11, .aload_n 0, 0, 0, 0, 0), (12, .getfield 37, 0, 7, 78, 0), (15, .if_icmp .ne 6, 0, 0, 21, 0), (18, .bipush (-5), 5, 1, 0, 0), (20, .ireturn, 0, 0, 0, 0)]
theorem so_X0_layPlate_10 : sgOK mi_X0_layPlate gm_X0_layPlate sg_X0_layPlate_10 = true := by decide +kernel
def sg_X0_layPlate_21 : List Ins := [(21, .aload_n 0, 0, 0, 0, 0), (22, .getfield 37, 0, 7, 78, 0), (25, .istore_n 2, 0, 0, 0, 0), (26, .aload_n 0, 0, 0, 0, 0), (27, .iload_n 1, 0, 0, 0, 0), (28, .putfield 37, 0, 7, 78, 0), (31, .iload_n 2, 0, 0, 0, 0), (32, .ireturn, 0, 0, 0, 0)]
theorem so_X0_layPlate_21 : sgOK mi_X0_layPlate gm_X0_layPlate sg_X0_layPlate_21 = true := by decide +kernel
def sgs_X0_layPlate : Nat → Option (List Ins) := fun t => match t with
  | 0 => some sg_X0_layPlate_0
  | 10 => some sg_X0_layPlate_10
  | 21 => some sg_X0_layPlate_21
  | _ => none
theorem so_X0_layPlate : ∀ t sg, sgs_X0_layPlate t = some sg → sgOK mi_X0_layPlate gm_X0_layPlate sg = true ∧ segPc sg = t := by
  intro t sg h
  unfold sgs_X0_layPlate at h
  split at h
  · cases h; exact ⟨so_X0_layPlate_0, rfl⟩
  · cases h; exact ⟨so_X0_layPlate_10, rfl⟩
  · cases h; exact ⟨so_X0_layPlate_21, rfl⟩
  · cases h
def gm_X0_addWriter : List MI := []
def sg_X0_addWriter_0 : List Ins := [(0, .iload_n 1, 0, 0, 0, 0), (1, .iconst 1, 1, 0, 0, 0), (2, .if_icmp .lt 8, 0, 0, 10, 0), (5, .iload_n 1, 0, 0, 0, 0), (6, .iconst 5, 5, 0, 0, 0), (7, .if_icmp .le 6, 0, 0, 13, 0), (10, .bipush (-2), 2, 1, 0, 0), (12, .ireturn, 0, 0, 0, 0)]
theorem so_X0_addWriter_0 : sgOK mi_X0_addWriter gm_X0_addWriter sg_X0_addWriter_0 = true := by decide +kernel
def sg_X0_addWriter_10 : List Ins := [(10, .bipush (-2), 2, 1, 0, 0), (12, .ireturn, 0, 0, 0, 0)]
theorem so_X0_addWriter_10 : sgOK mi_X0_addWriter gm_X0_addWriter sg_X0_addWriter_10 = true := by decide +kernel
def sg_X0_addWriter_13 : List Ins := [(13, .aload_n 0, 0, 0, 0, 0), (14, .getfield 40, 0, 8, 80, 0), (17, .iconst 5, 5, 0, 0, 0), (18, .if_icmp .lt 6, 0, 0, 24, 0), (21, .bipush (-4), 4, 1, 0, 0), (23, .ireturn, 0, 0, 0, 0)]
theorem so_X0_addWriter_13 : sgOK mi_X0_addWriter gm_X0_addWriter sg_X0_addWriter_13 = true := by decide +kernel
def sg_X0_addWriter_24 : List Ins := [(24, .aload_n 0, 0, 0, 0, 0), (25, .getfield 15, 0, 1, 66, 0), (28, .aload_n 0, 0, 0, 0, 0), (29, .getfield 40, 0, 8, 80, 0), (32, .iload_n 1, 0, 0, 0, 0), (33, .iastore, 0, 0, 0, 0), (34, .aload_n 0, 0, 0, 0, 0), (35, .getfield 18, 0, 2, 68, 0), (38, .aload_n 0, 0, 0, 0, 0), (39, .getfield 40, 0, 8, 80, 0), (42, .iconst 0, 0, 0, 0, 0), (43, .iastore, 0, 0, 0, 0), (44, .aload_n 0, 0, 0, 0, 0), (45, .getfield 21, 0, 3, 70, 0), (48, .aload_n 0, 0, 0, 0, 0), (49, .getfield 40, 0, 8, 80, 0), (52, .iconst 0, 0, 0, 0, 0), (53, .iastore, 0, 0, 0, 0), (54, .aload_n 0, 0, 0, 0, 0), (55, .dup, 0, 0, 0, 0), (56, .getfield 40, 0, 8, 80, 0), (59, .iconst 1, 1, 0, 0, 0), (60, .iadd, 0, 0, 0, 0), (61, .putfield 40, 0, 8, 80, 0), (64, .aload_n 0, 0, 0, 0, 0), (65, .getfield 40, 0, 8, 80, 0), (68, .iconst 1, 1, 0, 0, 0), (69, .isub, 0, 0, 0, 0), (70, .ireturn, 0, 0, 0, 0)]
theorem so_X0_addWriter_24 : sgOK mi_X0_addWriter gm_X0_addWriter sg_X0_addWriter_24 = true := by decide +kernel
def sgs_X0_addWriter : Nat → Option (List Ins) := fun t => match t with
  | 0 => some sg_X0_addWriter_0
  | 10 => some sg_X0_addWriter_10
  | 13 => some sg_X0_addWriter_13
  | 24 => some sg_X0_addWriter_24
  | _ => none
theorem so_X0_addWriter : ∀ t sg, sgs_X0_addWriter t = some sg → sgOK mi_X0_addWriter gm_X0_addWriter sg = true ∧ segPc sg = t := by
  intro t sg h
  unfold sgs_X0_addWriter at h
  split at h
  · cases h; exact ⟨so_X0_addWriter_0, rfl⟩
  · cases h; exact ⟨so_X0_addWriter_10, rfl⟩
  · cases h; exact ⟨so_X0_addWriter_13, rfl⟩
  · cases h; exact ⟨so_X0_addWriter_24, rfl⟩
  · cases h
def gm_X0_isEnough : List MI := []
def sg_X0_isEnough_0 : List Ins := [(0, .fload_n 1, 0, 0, 0, 0), (1, .aload_n 0, 0, 0, 0, 0), (2, .getfield 9, 0, 0, 64, 0), (5, .iconst 2, 2, 0, 0, 0), (6, .iaload, 8, 0, 0, 0), (7, .i2f, 0, 0, 0, 0), (8, .ldc 111, 1120403456, 1, 335, 0), (10, .fdiv, 0, 0, 0, 0), (11, .fcmp .l, 0, 0, 0, 0), (12, .ifCond .lt 7, 0, 0, 19, 0), (15, .iconst 1, 1, 0, 0, 0), (16, .goto 4, 0, 0, 20, 0)]
theorem so_X0_isEnough_0 : sgOK mi_X0_isEnough gm_X0_isEnough sg_X0_isEnough_0 = true := by decide +kernel
def sg_X0_isEnough_19 : List Ins := [(19, .iconst 0, 0, 0, 0, 0), (20, .ireturn, 0, 0, 0, 0)]
theorem so_X0_isEnough_19 : sgOK mi_X0_isEnough gm_X0_isEnough sg_X0_isEnough_19 = true := by decide +kernel
def sg_X0_isEnough_20 : List Ins := [(20, .ireturn, 0, 0, 0, 0)]
theorem so_X0_isEnough_20 : sgOK mi_X0_isEnough gm_X0_isEnough sg_X0_isEnough_20 = true := by decide +kernel
def sgs_X0_isEnough : Nat → Option (List Ins) := fun t => match t with
  | 0 => some sg_X0_isEnough_0
  | 19 => some sg_X0_isEnough_19
  | 20 => some sg_X0_isEnough_20
  | _ => none
theorem so_X0_isEnough : ∀ t sg, sgs_X0_isEnough t = some sg → sgOK mi_X0_isEnough gm_X0_isEnough sg = true ∧ segPc sg = t := by
  intro t sg h
  unfold sgs_X0_isEnough at h
  split at h
  · cases h; exact ⟨so_X0_isEnough_0, rfl⟩
  · cases h; exact ⟨so_X0_isEnough_19, rfl⟩
  · cases h; exact ⟨so_X0_isEnough_20, rfl⟩
  · cases h
def gm_X0_canBeRead : List MI := [mi_X0_isEnough]
def sg_X0_canBeRead_0 : List Ins := [(0, .aload_n 1, 0, 0, 0, 0), (1, .getfield 78, 1, 1, 44, 0), (4, .iload_n 2, 0, 0, 0, 0), (5, .iaload, 8, 0, 0, 0), (6, .bipush (-6), 6, 1, 0, 0), (8, .if_icmp .eq 20, 0, 0, 28, 0), (11, .aload_n 0, 0, 0, 0, 0), (12, .aload_n 1, 0, 0, 0, 0), (13, .getfield 84, 1, 0, 41, 0), (16, .iload_n 2, 0, 0, 0, 0), (17, .faload, 0, 0, 0, 0), (18, .invokevirtual 88, 331, 0, 10, 2), (21, .ifCond .eq 7, 0, 0, 28, 0), (24, .iconst 1, 1, 0, 0, 0), (25, .goto 4, 0, 0, 29, 0)]
theorem so_X0_canBeRead_0 : sgOK mi_X0_canBeRead gm_X0_canBeRead sg_X0_canBeRead_0 = true := by decide +kernel
def sg_X0_canBeRead_28 : List Ins := [(28, .iconst 0, 0, 0, 0, 0), (29, .ireturn, 0, 0, 0, 0)]
theorem so_X0_canBeRead_28 : sgOK mi_X0_canBeRead gm_X0_canBeRead sg_X0_canBeRead_28 = true := by decide +kernel
def sg_X0_canBeRead_29 : List Ins := [(29, .ireturn, 0, 0, 0, 0)]
theorem so_X0_canBeRead_29 : sgOK mi_X0_canBeRead gm_X0_canBeRead sg_X0_canBeRead_29 = true := by decide +kernel
def sgs_X0_canBeRead : Nat → Option (List Ins) := fun t => match t with
  | 0 => some sg_X0_canBeRead_0
  | 28 => some sg_X0_canBeRead_28
  | 29 => some sg_X0_canBeRead_29
  | _ => none
theorem so_X0_canBeRead : ∀ t sg, sgs_X0_canBeRead t = some sg → sgOK mi_X0_canBeRead gm_X0_canBeRead sg = true ∧ segPc sg = t := by
  intro t sg h
  unfold sgs_X0_canBeRead at h
  split at h
  · cases h; exact ⟨so_X0_canBeRead_0, rfl⟩
  · cases h; exact ⟨so_X0_canBeRead_28, rfl⟩
  · cases h; exact ⟨so_X0_canBeRead_29, rfl⟩
  · cases h
def gm_X0_distance : List MI := [mi_J9_abs_0f7a4, mi_J9_max_7cf53]
def sg_X0_distance_0 : List Ins := [(0, .iload_n 0, 0, 0, 0, 0), (1, .bipush 12, 12, 0, 0, 0), (3, .idiv, 0, 0, 0, 0), (4, .iload_n 1, 0, 0, 0, 0), (5, .bipush 12, 12, 0, 0, 0), (7, .idiv, 0, 0, 0, 0), (8, .isub, 0, 0, 0, 0), (9, .invokestatic 158, 357, 0, 0, 1), (12, .istore_n 2, 0, 0, 0, 0), (13, .iload_n 0, 0, 0, 0, 0), (14, .bipush 12, 12, 0, 0, 0), (16, .irem, 0, 0, 0, 0), (17, .iload_n 1, 0, 0, 0, 0), (18, .bipush 12, 12, 0, 0, 0), (20, .irem, 0, 0, 0, 0), (21, .isub, 0, 0, 0, 0), (22, .invokestatic 158, 357, 0, 0, 1), (25, .istore_n 3, 0, 0, 0, 0), (26, .iload_n 2, 0, 0, 0, 0), (27, .iload_n 3, 0, 0, 0, 0), (28, .invokestatic 142, 360, 1, 0, 2), (31, .ireturn, 0, 0, 0, 0)]
theorem so_X0_distance_0 : sgOK mi_X0_distance gm_X0_distance sg_X0_distance_0 = true := by decide +kernel
def sgs_X0_distance : Nat → Option (List Ins) := fun t => match t with
  | 0 => some sg_X0_distance_0
  | _ => none
theorem so_X0_distance : ∀ t sg, sgs_X0_distance t = some sg → sgOK mi_X0_distance gm_X0_distance sg = true ∧ segPc sg = t := by
  intro t sg h
  unfold sgs_X0_distance at h
  split at h
  · cases h; exact ⟨so_X0_distance_0, rfl⟩
  · cases h
def gm_X0_dimmed : List MI := []
def sg_X0_dimmed_0 : List Ins := [(0, .iload_n 2, 0, 0, 0, 0), (1, .ifCond .lt 18, 0, 0, 19, 0), (4, .iload_n 2, 0, 0, 0, 0), (5, .iconst 5, 5, 0, 0, 0), (6, .if_icmp .ge 13, 0, 0, 19, 0), (9, .iload_n 3, 0, 0, 0, 0), (10, .iconst 1, 1, 0, 0, 0), (11, .if_icmp .lt 8, 0, 0, 19, 0), (14, .iload_n 3, 0, 0, 0, 0), (15, .iconst 2, 2, 0, 0, 0), (16, .if_icmp .le 5, 0, 0, 21, 0), (19, .fload_n 1, 0, 0, 0, 0), (20, .freturn, 0, 0, 0, 0)]
theorem so_X0_dimmed_0 : sgOK mi_X0_dimmed gm_X0_dimmed sg_X0_dimmed_0 = true := by decide +kernel
def sg_X0_dimmed_19 : List Ins := [(19, .fload_n 1, 0, 0, 0, 0), (20, .freturn, 0, 0, 0, 0)]
theorem so_X0_dimmed_19 : sgOK mi_X0_dimmed gm_X0_dimmed sg_X0_dimmed_19 = true := by decide +kernel
def sg_X0_dimmed_21 : List Ins := [(21, .aload_n 0, 0, 0, 0, 0), (22, .getfield 9, 0, 0, 64, 0), (25, .iload_n 3, 0, 0, 0, 0), (26, .iconst 1, 1, 0, 0, 0), (27, .if_icmp .ne 7, 0, 0, 34, 0), (30, .iconst 0, 0, 0, 0, 0), (31, .goto 4, 0, 0, 35, 0)]
theorem so_X0_dimmed_21 : sgOK mi_X0_dimmed gm_X0_dimmed sg_X0_dimmed_21 = true := by decide +kernel
def sg_X0_dimmed_34 : List Ins := [(34, .iconst 1, 1, 0, 0, 0), (35, .iaload, 8, 0, 0, 0), (36, .aload_n 0, 0, 0, 0, 0), (37, .getfield 15, 0, 1, 66, 0), (40, .iload_n 2, 0, 0, 0, 0), (41, .iaload, 8, 0, 0, 0), (42, .imul, 0, 0, 0, 0), (43, .istore 4, 0, 0, 0, 0), (45, .fload_n 1, 0, 0, 0, 0), (46, .bipush 100, 100, 0, 0, 0), (48, .iload 4, 0, 0, 0, 0), (50, .isub, 0, 0, 0, 0), (51, .i2f, 0, 0, 0, 0), (52, .fmul, 0, 0, 0, 0), (53, .ldc 111, 1120403456, 1, 335, 0), (55, .fdiv, 0, 0, 0, 0), (56, .freturn, 0, 0, 0, 0)]
theorem so_X0_dimmed_34 : sgOK mi_X0_dimmed gm_X0_dimmed sg_X0_dimmed_34 = true := by decide +kernel
def sg_X0_dimmed_35 : List Ins := [(35, .iaload, 8, 0, 0, 0), (36, .aload_n 0, 0, 0, 0, 0), (37, .getfield 15, 0, 1, 66, 0), (40, .iload_n 2, 0, 0, 0, 0), (41, .iaload, 8, 0, 0, 0), (42, .imul, 0, 0, 0, 0), (43, .istore 4, 0, 0, 0, 0), (45, .fload_n 1, 0, 0, 0, 0), (46, .bipush 100, 100, 0, 0, 0), (48, .iload 4, 0, 0, 0, 0), (50, .isub, 0, 0, 0, 0), (51, .i2f, 0, 0, 0, 0), (52, .fmul, 0, 0, 0, 0), (53, .ldc 111, 1120403456, 1, 335, 0), (55, .fdiv, 0, 0, 0, 0), (56, .freturn, 0, 0, 0, 0)]
theorem so_X0_dimmed_35 : sgOK mi_X0_dimmed gm_X0_dimmed sg_X0_dimmed_35 = true := by decide +kernel
def sgs_X0_dimmed : Nat → Option (List Ins) := fun t => match t with
  | 0 => some sg_X0_dimmed_0
  | 19 => some sg_X0_dimmed_19
  | 21 => some sg_X0_dimmed_21
  | 34 => some sg_X0_dimmed_34
  | 35 => some sg_X0_dimmed_35
  | _ => none
theorem so_X0_dimmed : ∀ t sg, sgs_X0_dimmed t = some sg → sgOK mi_X0_dimmed gm_X0_dimmed sg = true ∧ segPc sg = t := by
  intro t sg h
  unfold sgs_X0_dimmed at h
  split at h
  · cases h; exact ⟨so_X0_dimmed_0, rfl⟩
  · cases h; exact ⟨so_X0_dimmed_19, rfl⟩
  · cases h; exact ⟨so_X0_dimmed_21, rfl⟩
  · cases h; exact ⟨so_X0_dimmed_34, rfl⟩
  · cases h; exact ⟨so_X0_dimmed_35, rfl⟩
  · cases h
def gm_X0_mark : List MI := [mi_X6_firstNear, mi_X6_lastNear, mi_X0_canBeRead, mi_X0_distance, mi_X0_dimmed]
def sg_X0_mark_0 : List Ins := [(0, .iload_n 3, 0, 0, 0, 0), (1, .bipush 12, 12, 0, 0, 0), (3, .idiv, 0, 0, 0, 0), (4, .istore 5, 0, 0, 0, 0), (6, .iload_n 3, 0, 0, 0, 0), (7, .bipush 12, 12, 0, 0, 0), (9, .irem, 0, 0, 0, 0), (10, .istore 6, 0, 0, 0, 0), (12, .iconst 0, 0, 0, 0, 0), (13, .istore 7, 0, 0, 0, 0), (15, .iload 5, 0, 0, 0, 0), (17, .invokestatic 120, 340, 0, 1, 1), (20, .istore 8, 0, 0, 0, 0), (22, .nop, 0, 0, 0, 0)]
theorem so_X0_mark_0 : sgOK mi_X0_mark gm_X0_mark sg_X0_mark_0 = true := by decide +kernel
def sg_X0_mark_22 : List Ins := [(22, .iload 8, 0, 0, 0, 0), (24, .iload 5, 0, 0, 0, 0), (26, .bipush 10, 10, 0, 0, 0), (28, .invokestatic 124, 346, 1, 1, 2), (31, .if_icmp .gt 96, 0, 0, 127, 0), (34, .iload 6, 0, 0, 0, 0), (36, .invokestatic 120, 340, 0, 1, 1), (39, .istore 9, 0, 0, 0, 0), (41, .nop, 0, 0, 0, 0)]
theorem so_X0_mark_22 : sgOK mi_X0_mark gm_X0_mark sg_X0_mark_22 = true := by decide +kernel
def sg_X0_mark_41 : List Ins := [(41, .iload 9, 0, 0, 0, 0), (43, .iload 6, 0, 0, 0, 0), (45, .bipush 12, 12, 0, 0, 0), (47, .invokestatic 124, 346, 1, 1, 2), (50, .if_icmp .gt 71, 0, 0, 121, 0), (53, .iload 8, 0, 0, 0, 0), (55, .bipush 12, 12, 0, 0, 0), (57, .imul, 0, 0, 0, 0), (58, .iload 9, 0, 0, 0, 0), (60, .iadd, 0, 0, 0, 0), (61, .istore 10, 0, 0, 0, 0), (63, .aload_n 0, 0, 0, 0, 0), (64, .aload_n 1, 0, 0, 0, 0), (65, .iload 10, 0, 0, 0, 0), (67, .invokevirtual 128, 350, 2, 10, 3), (70, .istore 11, 0, 0, 0, 0), (72, .aload_n 1, 0, 0, 0, 0), (73, .getfield 84, 1, 0, 41, 0), (76, .iload 10, 0, 0, 0, 0), (78, .aload_n 0, 0, 0, 0, 0), (79, .aload_n 1, 0, 0, 0, 0), (80, .getfield 84, 1, 0, 41, 0), (83, .iload 10, 0, 0, 0, 0), (85, .faload, 0, 0, 0, 0), (86, .iload_n 2, 0, 0, 0, 0), (87, .iload_n 3, 0, 0, 0, 0), (88, .iload 10, 0, 0, 0, 0), (90, .invokestatic 131, 354, 3, 0, 2), (93, .invokevirtual 134, 361, 4, 10, 4), (96, .fastore, 0, 0, 0, 0), (97, .iload 11, 0, 0, 0, 0), (99, .ifCond .eq 16, 0, 0, 115, 0), (102, .aload_n 0, 0, 0, 0, 0), (103, .aload_n 1, 0, 0, 0, 0), (104, .iload 10, 0, 0, 0, 0), (106, .invokevirtual 128, 350, 2, 10, 3), (109, .ifCond .ne 6, 0, 0, 115, 0), (112, .iinc 7 1, 1, 0, 0, 0), (115, .iinc 9 1, 1, 0, 0, 0), (118, .goto (-77), 0, 0, 41, 0)]
theorem so_X0_mark_41 : sgOK mi_X0_mark gm_X0_mark sg_X0_mark_41 = true := by decide +kernel
def sg_X0_mark_115 : List Ins := [(115, .iinc 9 1, 1, 0, 0, 0), (118, .goto (-77), 0, 0, 41, 0)]
theorem so_X0_mark_115 : sgOK mi_X0_mark gm_X0_mark sg_X0_mark_115 = true := by decide +kernel
def sg_X0_mark_121 : List Ins := [(121, .iinc 8 1, 1, 0, 0, 0), (124, .goto (-102), 0, 0, 22, 0)]
theorem so_X0_mark_121 : sgOK mi_X0_mark gm_X0_mark sg_X0_mark_121 = true := by decide +kernel
def sg_X0_mark_127 : List Ins := [(127, .aload_n 1, 0, 0, 0, 0), (128, .getfield 78, 1, 1, 44, 0), (131, .iload_n 3, 0, 0, 0, 0), (132, .iload 4, 0, 0, 0, 0), (134, .iastore, 0, 0, 0, 0), (135, .aload_n 1, 0, 0, 0, 0), (136, .getfield 104, 1, 2, 48, 0), (139, .iload_n 3, 0, 0, 0, 0), (140, .iload_n 2, 0, 0, 0, 0), (141, .iastore, 0, 0, 0, 0), (142, .aload_n 1, 0, 0, 0, 0), (143, .getfield 81, 1, 3, 51, 0), (146, .iload_n 3, 0, 0, 0, 0), (147, .bipush (-6), 6, 1, 0, 0), (149, .iastore, 0, 0, 0, 0), (150, .iload 7, 0, 0, 0, 0), (152, .ireturn, 0, 0, 0, 0)]
theorem so_X0_mark_127 : sgOK mi_X0_mark gm_X0_mark sg_X0_mark_127 = true := by decide +kernel
def sgs_X0_mark : Nat → Option (List Ins) := fun t => match t with
  | 0 => some sg_X0_mark_0
  | 115 => some sg_X0_mark_115
  | 121 => some sg_X0_mark_121
  | 127 => some sg_X0_mark_127
  | _ => none
theorem so_X0_mark : ∀ t sg, sgs_X0_mark t = some sg → sgOK mi_X0_mark gm_X0_mark sg = true ∧ segPc sg = t := by
  intro t sg h
  unfold sgs_X0_mark at h
  split at h
  · cases h; exact ⟨so_X0_mark_0, rfl⟩
  · cases h; exact ⟨so_X0_mark_115, rfl⟩
  · cases h; exact ⟨so_X0_mark_121, rfl⟩
  · cases h; exact ⟨so_X0_mark_127, rfl⟩
  · cases h
def gm_X0_writeLetter : List MI := [mi_X0_glassOnDesk, mi_X0_isWriter, mi_X6_isPlace, mi_X0_isEnough, mi_X0_mark]
def sg_X0_writeLetter_0 : List Ins := [(0, .aload_n 0, 0, 0, 0, 0), (1, .invokevirtual 67, 320, 0, 10, 1), (4, .astore 5, 0, 0, 0, 0), (6, .aload_n 0, 0, 0, 0, 0), (7, .iload_n 1, 0, 0, 0, 0), (8, .invokevirtual 71, 324, 1, 10, 2), (11, .ifCond .eq 16, 0, 0, 27, 0), (14, .aload 5, 0, 0, 0, 0), (16, .ifnull 11, 0, 0, 27, 0), (19, .iload_n 2, 0, 0, 0, 0), (20, .iload_n 3, 0, 0, 0, 0), (21, .invokestatic 74, 328, 2, 1, 2), (24, .ifCond .ne 5, 0, 0, 29, 0), (27, .iconst (-1), 1, 1, 0, 0), (28, .ireturn, 0, 0, 0, 0)]
theorem so_X0_writeLetter_0 : sgOK mi_X0_writeLetter gm_X0_writeLetter sg_X0_writeLetter_0 = true := by decide +kernel
def sg_X0_writeLetter_27 : List Ins := [(27, .iconst (-1), 1, 1, 0, 0), (28, .ireturn, 0, 0, 0, 0)]
theorem so_X0_writeLetter_27 : sgOK mi_X0_writeLetter gm_X0_writeLetter sg_X0_writeLetter_27 = true := by decide +kernel
def sg_X0_writeLetter_29 : List Ins := [(29, .iload 4, 0, 0, 0, 0), (31, .ifCond .lt 10, 0, 0, 41, 0), (34, .iload 4, 0, 0, 0, 0), (36, .bipush 26, 26, 0, 0, 0), (38, .if_icmp .lt 6, 0, 0, 44, 0), (41, .bipush (-2), 2, 1, 0, 0), (43, .ireturn, 0, 0, 0, 0)]
theorem so_X0_writeLetter_29 : sgOK mi_X0_writeLetter gm_X0_writeLetter sg_X0_writeLetter_29 = true := by decide +kernel
def sg_X0_writeLetter_41 : List Ins := [(41, .bipush (-2), 2, 1, 0, 0), (43, .ireturn, 0, 0, 0, 0)]
theorem so_X0_writeLetter_41 : sgOK mi_X0_writeLetter gm_X0_writeLetter sg_X0_writeLetter_41 = true := by decide +kernel
def sg_X0_writeLetter_44 : List Ins := [(44, .iload_n 2, 0, 0, 0, 0), (45, .bipush 12, 12, 0, 0, 0), (47, .imul, 0, 0, 0, 0), (48, .iload_n 3, 0, 0, 0, 0), (49, .iadd, 0, 0, 0, 0), (50, .istore 6, 0, 0, 0, 0), (52, .aload 5, 0, 0, 0, 0), (54, .getfield 78, 1, 1, 44, 0), (57, .iload 6, 0, 0, 0, 0), (59, .iaload, 8, 0, 0, 0), (60, .bipush (-6), 6, 1, 0, 0), (62, .if_icmp .ne 28, 0, 0, 90, 0), (65, .aload 5, 0, 0, 0, 0), (67, .getfield 81, 1, 3, 51, 0), (70, .iload 6, 0, 0, 0, 0), (72, .iaload, 8, 0, 0, 0), (73, .bipush (-6), 6, 1, 0, 0), (75, .if_icmp .eq 19, 0, 0, 94, 0), (78, .aload 5, 0, 0, 0, 0), (80, .getfield 81, 1, 3, 51, 0), (83, .iload 6, 0, 0, 0, 0), (85, .iaload, 8, 0, 0, 0), (86, .iload_n 1, 0, 0, 0, 0), (87, .if_icmp .eq 7, 0, 0, 94, 0), (90, .iconst 1, 1, 0, 0, 0), (91, .goto 4, 0, 0, 95, 0)]
theorem so_X0_writeLetter_44 : sgOK mi_X0_writeLetter gm_X0_writeLetter sg_X0_writeLetter_44 = true := by decide +kernel
def sg_X0_writeLetter_90 : List Ins := [(90, .iconst 1, 1, 0, 0, 0), (91, .goto 4, 0, 0, 95, 0)]
theorem so_X0_writeLetter_90 : sgOK mi_X0_writeLetter gm_X0_writeLetter sg_X0_writeLetter_90 = true := by decide +kernel
def sg_X0_writeLetter_94 : List Ins := [(94, .iconst 0, 0, 0, 0, 0), (95, .istore 7, 0, 0, 0, 0), (97, .iload 7, 0, 0, 0, 0), (99, .ifCond .ne 18, 0, 0, 117, 0), (102, .aload_n 0, 0, 0, 0, 0), (103, .aload 5, 0, 0, 0, 0), (105, .getfield 84, 1, 0, 41, 0), (108, .iload 6, 0, 0, 0, 0), (110, .faload, 0, 0, 0, 0), (111, .invokevirtual 88, 331, 3, 10, 2), (114, .ifCond .ne 6, 0, 0, 120, 0), (117, .bipush (-5), 5, 1, 0, 0), (119, .ireturn, 0, 0, 0, 0)]
theorem so_X0_writeLetter_94 : sgOK mi_X0_writeLetter gm_X0_writeLetter sg_X0_writeLetter_94 = true := by decide +kernel
def sg_X0_writeLetter_95 : List Ins := [(95, .istore 7, 0, 0, 0, 0), (97, .iload 7, 0, 0, 0, 0), (99, .ifCond .ne 18, 0, 0, 117, 0), (102, .aload_n 0, 0, 0, 0, 0), (103, .aload 5, 0, 0, 0, 0), (105, .getfield 84, 1, 0, 41, 0), (108, .iload 6, 0, 0, 0, 0), (110, .faload, 0, 0, 0, 0), (111, .invokevirtual 88, 331, 3, 10, 2), (114, .ifCond .ne 6, 0, 0, 120, 0), (117, .bipush (-5), 5, 1, 0, 0), (119, .ireturn, 0, 0, 0, 0)]
theorem so_X0_writeLetter_95 : sgOK mi_X0_writeLetter gm_X0_writeLetter sg_X0_writeLetter_95 = true := by decide +kernel
def sg_X0_writeLetter_117 : List Ins := [(117, .bipush (-5), 5, 1, 0, 0), (119, .ireturn, 0, 0, 0, 0)]
theorem so_X0_writeLetter_117 : sgOK mi_X0_writeLetter gm_X0_writeLetter sg_X0_writeLetter_117 = true := by decide +kernel
def sg_X0_writeLetter_120 : List Ins := [(120, .aload_n 0, 0, 0, 0, 0), (121, .aload 5, 0, 0, 0, 0), (123, .iload_n 1, 0, 0, 0, 0), (124, .iload 6, 0, 0, 0, 0), (126, .iload 4, 0, 0, 0, 0), (128, .invokevirtual 92, 336, 4, 10, 5), (131, .istore 8, 0, 0, 0, 0), (133, .aload_n 0, 0, 0, 0, 0), (134, .getfield 18, 0, 2, 68, 0), (137, .iload_n 1, 0, 0, 0, 0), (138, .dup2, 0, 0, 0, 0), (139, .iaload, 8, 0, 0, 0), (140, .iconst 1, 1, 0, 0, 0), (141, .iadd, 0, 0, 0, 0), (142, .iastore, 0, 0, 0, 0), (143, .aload_n 0, 0, 0, 0, 0), (144, .getfield 21, 0, 3, 70, 0), (147, .iload_n 1, 0, 0, 0, 0), (148, .dup2, 0, 0, 0, 0), (149, .iaload, 8, 0, 0, 0), (150, .iload 8, 0, 0, 0, 0), (152, .iadd, 0, 0, 0, 0), (153, .iastore, 0, 0, 0, 0), (154, .iload 8, 0, 0, 0, 0), (156, .ireturn, 0, 0, 0, 0)]
theorem so_X0_writeLetter_120 : sgOK mi_X0_writeLetter gm_X0_writeLetter sg_X0_writeLetter_120 = true := by decide +kernel
def sgs_X0_writeLetter : Nat → Option (List Ins) := fun t => match t with
  | 0 => some sg_X0_writeLetter_0
  | 27 => some sg_X0_writeLetter_27
  | 29 => some sg_X0_writeLetter_29
  | 41 => some sg_X0_writeLetter_41
  | 44 => some sg_X0_writeLetter_44
  | 90 => some sg_X0_writeLetter_90
  | 94 => some sg_X0_writeLetter_94
  | 95 => some sg_X0_writeLetter_95
  | 117 => some sg_X0_writeLetter_117
  | 120 => some sg_X0_writeLetter_120
  | _ => none
theorem so_X0_writeLetter : ∀ t sg, sgs_X0_writeLetter t = some sg → sgOK mi_X0_writeLetter gm_X0_writeLetter sg = true ∧ segPc sg = t := by
  intro t sg h
  unfold sgs_X0_writeLetter at h
  split at h
  · cases h; exact ⟨so_X0_writeLetter_0, rfl⟩
  · cases h; exact ⟨so_X0_writeLetter_27, rfl⟩
  · cases h; exact ⟨so_X0_writeLetter_29, rfl⟩
  · cases h; exact ⟨so_X0_writeLetter_41, rfl⟩
  · cases h; exact ⟨so_X0_writeLetter_44, rfl⟩
  · cases h; exact ⟨so_X0_writeLetter_90, rfl⟩
  · cases h; exact ⟨so_X0_writeLetter_94, rfl⟩
  · cases h; exact ⟨so_X0_writeLetter_95, rfl⟩
  · cases h; exact ⟨so_X0_writeLetter_117, rfl⟩
  · cases h; exact ⟨so_X0_writeLetter_120, rfl⟩
  · cases h
def gm_X0_lightAhead : List MI := [mi_X6_firstNear, mi_X6_lastNear, mi_X0_distance, mi_X0_dimmed]
def sg_X0_lightAhead_0 : List Ins := [(0, .iload_n 2, 0, 0, 0, 0), (1, .bipush 12, 12, 0, 0, 0), (3, .idiv, 0, 0, 0, 0), (4, .istore_n 3, 0, 0, 0, 0), (5, .iload_n 2, 0, 0, 0, 0), (6, .bipush 12, 12, 0, 0, 0), (8, .irem, 0, 0, 0, 0), (9, .istore 4, 0, 0, 0, 0), (11, .aload_n 1, 0, 0, 0, 0), (12, .getfield 84, 1, 0, 41, 0), (15, .iload_n 2, 0, 0, 0, 0), (16, .faload, 0, 0, 0, 0), (17, .fstore 5, 0, 0, 0, 0), (19, .iload_n 3, 0, 0, 0, 0), (20, .invokestatic 120, 340, 0, 1, 1), (23, .istore 6, 0, 0, 0, 0), (25, .nop, 0, 0, 0, 0)]
theorem so_X0_lightAhead_0 : sgOK mi_X0_lightAhead gm_X0_lightAhead sg_X0_lightAhead_0 = true := by decide +kernel
def sg_X0_lightAhead_25 : List Ins := [(25, .iload 6, 0, 0, 0, 0), (27, .iload_n 3, 0, 0, 0, 0), (28, .bipush 10, 10, 0, 0, 0), (30, .invokestatic 124, 346, 1, 1, 2), (33, .if_icmp .gt 77, 0, 0, 110, 0), (36, .iload 4, 0, 0, 0, 0), (38, .invokestatic 120, 340, 0, 1, 1), (41, .istore 7, 0, 0, 0, 0), (43, .nop, 0, 0, 0, 0)]
theorem so_X0_lightAhead_25 : sgOK mi_X0_lightAhead gm_X0_lightAhead sg_X0_lightAhead_25 = true := by decide +kernel
def sg_X0_lightAhead_43 : List Ins := [(43, .iload 7, 0, 0, 0, 0), (45, .iload 4, 0, 0, 0, 0), (47, .bipush 12, 12, 0, 0, 0), (49, .invokestatic 124, 346, 1, 1, 2), (52, .if_icmp .gt 52, 0, 0, 104, 0), (55, .iload 6, 0, 0, 0, 0), (57, .bipush 12, 12, 0, 0, 0), (59, .imul, 0, 0, 0, 0), (60, .iload 7, 0, 0, 0, 0), (62, .iadd, 0, 0, 0, 0), (63, .istore 8, 0, 0, 0, 0), (65, .aload_n 1, 0, 0, 0, 0), (66, .getfield 81, 1, 3, 51, 0), (69, .iload 8, 0, 0, 0, 0), (71, .iaload, 8, 0, 0, 0), (72, .bipush (-6), 6, 1, 0, 0), (74, .if_icmp .eq 24, 0, 0, 98, 0), (77, .aload_n 0, 0, 0, 0, 0), (78, .fload 5, 0, 0, 0, 0), (80, .aload_n 1, 0, 0, 0, 0), (81, .getfield 81, 1, 3, 51, 0), (84, .iload 8, 0, 0, 0, 0), (86, .iaload, 8, 0, 0, 0), (87, .iload_n 2, 0, 0, 0, 0), (88, .iload 8, 0, 0, 0, 0), (90, .invokestatic 131, 354, 2, 0, 2), (93, .invokevirtual 134, 361, 3, 10, 4), (96, .fstore 5, 0, 0, 0, 0), (98, .iinc 7 1, 1, 0, 0, 0), (101, .goto (-58), 0, 0, 43, 0)]
theorem so_X0_lightAhead_43 : sgOK mi_X0_lightAhead gm_X0_lightAhead sg_X0_lightAhead_43 = true := by decide +kernel
def sg_X0_lightAhead_98 : List Ins := [(98, .iinc 7 1, 1, 0, 0, 0), (101, .goto (-58), 0, 0, 43, 0)]
theorem so_X0_lightAhead_98 : sgOK mi_X0_lightAhead gm_X0_lightAhead sg_X0_lightAhead_98 = true := by decide +kernel
def sg_X0_lightAhead_104 : List Ins := [(104, .iinc 6 1, 1, 0, 0, 0), (107, .goto (-82), 0, 0, 25, 0)]
theorem so_X0_lightAhead_104 : sgOK mi_X0_lightAhead gm_X0_lightAhead sg_X0_lightAhead_104 = true := by decide +kernel
def sg_X0_lightAhead_110 : List Ins := [(110, .fload 5, 0, 0, 0, 0), (112, .freturn, 0, 0, 0, 0)]
theorem so_X0_lightAhead_110 : sgOK mi_X0_lightAhead gm_X0_lightAhead sg_X0_lightAhead_110 = true := by decide +kernel
def sgs_X0_lightAhead : Nat → Option (List Ins) := fun t => match t with
  | 0 => some sg_X0_lightAhead_0
  | 98 => some sg_X0_lightAhead_98
  | 104 => some sg_X0_lightAhead_104
  | 110 => some sg_X0_lightAhead_110
  | _ => none
theorem so_X0_lightAhead : ∀ t sg, sgs_X0_lightAhead t = some sg → sgOK mi_X0_lightAhead gm_X0_lightAhead sg = true ∧ segPc sg = t := by
  intro t sg h
  unfold sgs_X0_lightAhead at h
  split at h
  · cases h; exact ⟨so_X0_lightAhead_0, rfl⟩
  · cases h; exact ⟨so_X0_lightAhead_98, rfl⟩
  · cases h; exact ⟨so_X0_lightAhead_104, rfl⟩
  · cases h; exact ⟨so_X0_lightAhead_110, rfl⟩
  · cases h
def gm_X0_hasRoom : List MI := [mi_X1_isFree, mi_X0_lightAhead, mi_X0_isEnough]
def sg_X0_hasRoom_0 : List Ins := [(0, .aload_n 1, 0, 0, 0, 0), (1, .iload_n 2, 0, 0, 0, 0), (2, .invokevirtual 147, 377, 0, 11, 2), (5, .ifCond .eq 20, 0, 0, 25, 0), (8, .aload_n 0, 0, 0, 0, 0), (9, .aload_n 0, 0, 0, 0, 0), (10, .aload_n 1, 0, 0, 0, 0), (11, .iload_n 2, 0, 0, 0, 0), (12, .invokevirtual 150, 381, 1, 10, 3), (15, .invokevirtual 88, 331, 2, 10, 2), (18, .ifCond .eq 7, 0, 0, 25, 0), (21, .iconst 1, 1, 0, 0, 0), (22, .goto 4, 0, 0, 26, 0)]
theorem so_X0_hasRoom_0 : sgOK mi_X0_hasRoom gm_X0_hasRoom sg_X0_hasRoom_0 = true := by decide +kernel
def sg_X0_hasRoom_25 : List Ins := [(25, .iconst 0, 0, 0, 0, 0), (26, .ireturn, 0, 0, 0, 0)]
theorem so_X0_hasRoom_25 : sgOK mi_X0_hasRoom gm_X0_hasRoom sg_X0_hasRoom_25 = true := by decide +kernel
def sg_X0_hasRoom_26 : List Ins := [(26, .ireturn, 0, 0, 0, 0)]
theorem so_X0_hasRoom_26 : sgOK mi_X0_hasRoom gm_X0_hasRoom sg_X0_hasRoom_26 = true := by decide +kernel
def sgs_X0_hasRoom : Nat → Option (List Ins) := fun t => match t with
  | 0 => some sg_X0_hasRoom_0
  | 25 => some sg_X0_hasRoom_25
  | 26 => some sg_X0_hasRoom_26
  | _ => none
theorem so_X0_hasRoom : ∀ t sg, sgs_X0_hasRoom t = some sg → sgOK mi_X0_hasRoom gm_X0_hasRoom sg = true ∧ segPc sg = t := by
  intro t sg h
  unfold sgs_X0_hasRoom at h
  split at h
  · cases h; exact ⟨so_X0_hasRoom_0, rfl⟩
  · cases h; exact ⟨so_X0_hasRoom_25, rfl⟩
  · cases h; exact ⟨so_X0_hasRoom_26, rfl⟩
  · cases h
def gm_X0_promisePlace : List MI := [mi_X0_glassOnDesk, mi_X0_isWriter, mi_X6_isPlace, mi_X0_hasRoom, mi_X1_promisedPlaces]
def sg_X0_promisePlace_0 : List Ins := [(0, .aload_n 0, 0, 0, 0, 0), (1, .invokevirtual 67, 320, 0, 10, 1), (4, .astore 4, 0, 0, 0, 0), (6, .aload_n 0, 0, 0, 0, 0), (7, .iload_n 1, 0, 0, 0, 0), (8, .invokevirtual 71, 324, 1, 10, 2), (11, .ifCond .eq 16, 0, 0, 27, 0), (14, .aload 4, 0, 0, 0, 0), (16, .ifnull 11, 0, 0, 27, 0), (19, .iload_n 2, 0, 0, 0, 0), (20, .iload_n 3, 0, 0, 0, 0), (21, .invokestatic 74, 328, 2, 1, 2), (24, .ifCond .ne 5, 0, 0, 29, 0), (27, .iconst (-1), 1, 1, 0, 0), (28, .ireturn, 0, 0, 0, 0)]
theorem so_X0_promisePlace_0 : sgOK mi_X0_promisePlace gm_X0_promisePlace sg_X0_promisePlace_0 = true := by decide +kernel
def sg_X0_promisePlace_27 : List Ins := [(27, .iconst (-1), 1, 1, 0, 0), (28, .ireturn, 0, 0, 0, 0)]
theorem so_X0_promisePlace_27 : sgOK mi_X0_promisePlace gm_X0_promisePlace sg_X0_promisePlace_27 = true := by decide +kernel
def sg_X0_promisePlace_29 : List Ins := [(29, .iload_n 2, 0, 0, 0, 0), (30, .bipush 12, 12, 0, 0, 0), (32, .imul, 0, 0, 0, 0), (33, .iload_n 3, 0, 0, 0, 0), (34, .iadd, 0, 0, 0, 0), (35, .istore 5, 0, 0, 0, 0), (37, .aload_n 0, 0, 0, 0, 0), (38, .aload 4, 0, 0, 0, 0), (40, .iload 5, 0, 0, 0, 0), (42, .invokevirtual 96, 373, 3, 10, 3), (45, .ifCond .ne 6, 0, 0, 51, 0), (48, .bipush (-5), 5, 1, 0, 0), (50, .ireturn, 0, 0, 0, 0)]
theorem so_X0_promisePlace_29 : sgOK mi_X0_promisePlace gm_X0_promisePlace sg_X0_promisePlace_29 = true := by decide +kernel
def sg_X0_promisePlace_51 : List Ins := [(51, .aload 4, 0, 0, 0, 0), (53, .getfield 81, 1, 3, 51, 0), (56, .iload 5, 0, 0, 0, 0), (58, .iload_n 1, 0, 0, 0, 0), (59, .iastore, 0, 0, 0, 0), (60, .aload 4, 0, 0, 0, 0), (62, .invokevirtual 100, 385, 4, 11, 1), (65, .ireturn, 0, 0, 0, 0)]
theorem so_X0_promisePlace_51 : sgOK mi_X0_promisePlace gm_X0_promisePlace sg_X0_promisePlace_51 = true := by decide +kernel
def sgs_X0_promisePlace : Nat → Option (List Ins) := fun t => match t with
  | 0 => some sg_X0_promisePlace_0
  | 27 => some sg_X0_promisePlace_27
  | 29 => some sg_X0_promisePlace_29
  | 51 => some sg_X0_promisePlace_51
  | _ => none
theorem so_X0_promisePlace : ∀ t sg, sgs_X0_promisePlace t = some sg → sgOK mi_X0_promisePlace gm_X0_promisePlace sg = true ∧ segPc sg = t := by
  intro t sg h
  unfold sgs_X0_promisePlace at h
  split at h
  · cases h; exact ⟨so_X0_promisePlace_0, rfl⟩
  · cases h; exact ⟨so_X0_promisePlace_27, rfl⟩
  · cases h; exact ⟨so_X0_promisePlace_29, rfl⟩
  · cases h; exact ⟨so_X0_promisePlace_51, rfl⟩
  · cases h
def gm_X0_takePromiseBack : List MI := [mi_X0_glassOnDesk, mi_X6_isPlace]
def sg_X0_takePromiseBack_0 : List Ins := [(0, .aload_n 0, 0, 0, 0, 0), (1, .invokevirtual 67, 320, 0, 10, 1), (4, .astore_n 3, 0, 0, 0, 0), (5, .aload_n 3, 0, 0, 0, 0), (6, .ifnull 11, 0, 0, 17, 0), (9, .iload_n 1, 0, 0, 0, 0), (10, .iload_n 2, 0, 0, 0, 0), (11, .invokestatic 74, 328, 1, 1, 2), (14, .ifCond .ne 5, 0, 0, 19, 0), (17, .iconst (-1), 1, 1, 0, 0), (18, .ireturn, 0, 0, 0, 0)]
theorem so_X0_takePromiseBack_0 : sgOK mi_X0_takePromiseBack gm_X0_takePromiseBack sg_X0_takePromiseBack_0 = true := by decide +kernel
def sg_X0_takePromiseBack_17 : List Ins := [(17, .iconst (-1), 1, 1, 0, 0), (18, .ireturn, 0, 0, 0, 0)]
theorem so_X0_takePromiseBack_17 : sgOK mi_X0_takePromiseBack gm_X0_takePromiseBack sg_X0_takePromiseBack_17 = true := by decide +kernel
def sg_X0_takePromiseBack_19 : List Ins := [(19, .iload_n 1, 0, 0, 0, 0), (20, .bipush 12, 12, 0, 0, 0), (22, .imul, 0, 0, 0, 0), (23, .iload_n 2, 0, 0, 0, 0), (24, .iadd, 0, 0, 0, 0), (25, .istore 4, 0, 0, 0, 0), (27, .aload_n 3, 0, 0, 0, 0), (28, .getfield 81, 1, 3, 51, 0), (31, .iload 4, 0, 0, 0, 0), (33, .iaload, 8, 0, 0, 0), (34, .istore 5, 0, 0, 0, 0), (36, .iload 5, 0, 0, 0, 0), (38, .bipush (-6), 6, 1, 0, 0), (40, .if_icmp .ne 6, 0, 0, 46, 0), (43, .bipush (-5), 5, 1, 0, 0), (45, .ireturn, 0, 0, 0, 0)]
theorem so_X0_takePromiseBack_19 : sgOK mi_X0_takePromiseBack gm_X0_takePromiseBack sg_X0_takePromiseBack_19 = true := by decide +kernel
def sg_X0_takePromiseBack_46 : List Ins := [(46, .aload_n 3, 0, 0, 0, 0), (47, .getfield 81, 1, 3, 51, 0), (50, .iload 4, 0, 0, 0, 0), (52, .bipush (-6), 6, 1, 0, 0), (54, .iastore, 0, 0, 0, 0), (55, .iload 5, 0, 0, 0, 0), (57, .ireturn, 0, 0, 0, 0)]
theorem so_X0_takePromiseBack_46 : sgOK mi_X0_takePromiseBack gm_X0_takePromiseBack sg_X0_takePromiseBack_46 = true := by decide +kernel
def sgs_X0_takePromiseBack : Nat → Option (List Ins) := fun t => match t with
  | 0 => some sg_X0_takePromiseBack_0
  | 17 => some sg_X0_takePromiseBack_17
  | 19 => some sg_X0_takePromiseBack_19
  | 46 => some sg_X0_takePromiseBack_46
  | _ => none
theorem so_X0_takePromiseBack : ∀ t sg, sgs_X0_takePromiseBack t = some sg → sgOK mi_X0_takePromiseBack gm_X0_takePromiseBack sg = true ∧ segPc sg = t := by
  intro t sg h
  unfold sgs_X0_takePromiseBack at h
  split at h
  · cases h; exact ⟨so_X0_takePromiseBack_0, rfl⟩
  · cases h; exact ⟨so_X0_takePromiseBack_17, rfl⟩
  · cases h; exact ⟨so_X0_takePromiseBack_19, rfl⟩
  · cases h; exact ⟨so_X0_takePromiseBack_46, rfl⟩
  · cases h
def gm_X0_rubLetter : List MI := [mi_X0_glassOnDesk, mi_X6_isPlace]
def sg_X0_rubLetter_0 : List Ins := [(0, .aload_n 0, 0, 0, 0, 0), (1, .invokevirtual 67, 320, 0, 10, 1), (4, .astore_n 3, 0, 0, 0, 0), (5, .aload_n 3, 0, 0, 0, 0), (6, .ifnull 11, 0, 0, 17, 0), (9, .iload_n 1, 0, 0, 0, 0), (10, .iload_n 2, 0, 0, 0, 0), (11, .invokestatic 74, 328, 1, 1, 2), (14, .ifCond .ne 5, 0, 0, 19, 0), (17, .iconst (-1), 1, 1, 0, 0), (18, .ireturn, 0, 0, 0, 0)]
theorem so_X0_rubLetter_0 : sgOK mi_X0_rubLetter gm_X0_rubLetter sg_X0_rubLetter_0 = true := by decide +kernel
def sg_X0_rubLetter_17 : List Ins := [(17, .iconst (-1), 1, 1, 0, 0), (18, .ireturn, 0, 0, 0, 0)]
theorem so_X0_rubLetter_17 : sgOK mi_X0_rubLetter gm_X0_rubLetter sg_X0_rubLetter_17 = true := by decide +kernel
def sg_X0_rubLetter_19 : List Ins := [(19, .iload_n 1, 0, 0, 0, 0), (20, .bipush 12, 12, 0, 0, 0), (22, .imul, 0, 0, 0, 0), (23, .iload_n 2, 0, 0, 0, 0), (24, .iadd, 0, 0, 0, 0), (25, .istore 4, 0, 0, 0, 0), (27, .aload_n 3, 0, 0, 0, 0), (28, .getfield 78, 1, 1, 44, 0), (31, .iload 4, 0, 0, 0, 0), (33, .iaload, 8, 0, 0, 0), (34, .istore 5, 0, 0, 0, 0), (36, .iload 5, 0, 0, 0, 0), (38, .bipush (-6), 6, 1, 0, 0), (40, .if_icmp .ne 6, 0, 0, 46, 0), (43, .bipush (-5), 5, 1, 0, 0), (45, .ireturn, 0, 0, 0, 0)]
theorem so_X0_rubLetter_19 : sgOK mi_X0_rubLetter gm_X0_rubLetter sg_X0_rubLetter_19 = true := by decide +kernel
def sg_X0_rubLetter_46 : List Ins := [(46, .aload_n 3, 0, 0, 0, 0), (47, .getfield 78, 1, 1, 44, 0), (50, .iload 4, 0, 0, 0, 0), (52, .bipush (-6), 6, 1, 0, 0), (54, .iastore, 0, 0, 0, 0), (55, .aload_n 3, 0, 0, 0, 0), (56, .getfield 104, 1, 2, 48, 0), (59, .iload 4, 0, 0, 0, 0), (61, .bipush (-6), 6, 1, 0, 0), (63, .iastore, 0, 0, 0, 0), (64, .aload_n 3, 0, 0, 0, 0), (65, .getfield 84, 1, 0, 41, 0), (68, .iload 4, 0, 0, 0, 0), (70, .aload_n 3, 0, 0, 0, 0), (71, .getfield 84, 1, 0, 41, 0), (74, .iload 4, 0, 0, 0, 0), (76, .faload, 0, 0, 0, 0), (77, .fconst 1, 0, 0, 0, 0), (78, .fadd, 0, 0, 0, 0), (79, .fconst 2, 0, 0, 0, 0), (80, .fdiv, 0, 0, 0, 0), (81, .fastore, 0, 0, 0, 0), (82, .iload 5, 0, 0, 0, 0), (84, .ireturn, 0, 0, 0, 0)]
theorem so_X0_rubLetter_46 : sgOK mi_X0_rubLetter gm_X0_rubLetter sg_X0_rubLetter_46 = true := by decide +kernel
def sgs_X0_rubLetter : Nat → Option (List Ins) := fun t => match t with
  | 0 => some sg_X0_rubLetter_0
  | 17 => some sg_X0_rubLetter_17
  | 19 => some sg_X0_rubLetter_19
  | 46 => some sg_X0_rubLetter_46
  | _ => none
theorem so_X0_rubLetter : ∀ t sg, sgs_X0_rubLetter t = some sg → sgOK mi_X0_rubLetter gm_X0_rubLetter sg = true ∧ segPc sg = t := by
  intro t sg h
  unfold sgs_X0_rubLetter at h
  split at h
  · cases h; exact ⟨so_X0_rubLetter_0, rfl⟩
  · cases h; exact ⟨so_X0_rubLetter_17, rfl⟩
  · cases h; exact ⟨so_X0_rubLetter_19, rfl⟩
  · cases h; exact ⟨so_X0_rubLetter_46, rfl⟩
  · cases h
def gm_X0_cleared : List MI := []
def sg_X0_cleared_0 : List Ins := [(0, .fload_n 1, 0, 0, 0, 0), (1, .fconst 1, 0, 0, 0, 0), (2, .fload_n 1, 0, 0, 0, 0), (3, .fsub, 0, 0, 0, 0), (4, .aload_n 0, 0, 0, 0, 0), (5, .getfield 9, 0, 0, 64, 0), (8, .iconst 3, 3, 0, 0, 0), (9, .iaload, 8, 0, 0, 0), (10, .i2f, 0, 0, 0, 0), (11, .fmul, 0, 0, 0, 0), (12, .ldc 111, 1120403456, 1, 335, 0), (14, .fdiv, 0, 0, 0, 0), (15, .fadd, 0, 0, 0, 0), (16, .freturn, 0, 0, 0, 0)]
theorem so_X0_cleared_0 : sgOK mi_X0_cleared gm_X0_cleared sg_X0_cleared_0 = true := by decide +kernel
def sgs_X0_cleared : Nat → Option (List Ins) := fun t => match t with
  | 0 => some sg_X0_cleared_0
  | _ => none
theorem so_X0_cleared : ∀ t sg, sgs_X0_cleared t = some sg → sgOK mi_X0_cleared gm_X0_cleared sg = true ∧ segPc sg = t := by
  intro t sg h
  unfold sgs_X0_cleared at h
  split at h
  · cases h; exact ⟨so_X0_cleared_0, rfl⟩
  · cases h
def gm_X0_clearedFor : List MI := [mi_X0_cleared]
def sg_X0_clearedFor_0 : List Ins := [(0, .fload_n 1, 0, 0, 0, 0), (1, .fstore_n 3, 0, 0, 0, 0), (2, .iconst 0, 0, 0, 0, 0), (3, .istore 4, 0, 0, 0, 0), (5, .nop, 0, 0, 0, 0)]
theorem so_X0_clearedFor_0 : sgOK mi_X0_clearedFor gm_X0_clearedFor sg_X0_clearedFor_0 = true := by decide +kernel
def sg_X0_clearedFor_5 : List Ins := [(5, .iload 4, 0, 0, 0, 0), (7, .iload_n 2, 0, 0, 0, 0), (8, .if_icmp .ge 28, 0, 0, 36, 0), (11, .aload_n 0, 0, 0, 0, 0), (12, .fload_n 3, 0, 0, 0, 0), (13, .invokevirtual 112, 421, 0, 10, 2), (16, .fstore 5, 0, 0, 0, 0), (18, .fload 5, 0, 0, 0, 0), (20, .fload_n 3, 0, 0, 0, 0), (21, .fcmp .l, 0, 0, 0, 0), (22, .ifCond .ne 5, 0, 0, 27, 0), (25, .fload_n 3, 0, 0, 0, 0), (26, .freturn, 0, 0, 0, 0)]
theorem so_X0_clearedFor_5 : sgOK mi_X0_clearedFor gm_X0_clearedFor sg_X0_clearedFor_5 = true := by decide +kernel
def sg_X0_clearedFor_27 : List Ins := [(27, .fload 5, 0, 0, 0, 0), (29, .fstore_n 3, 0, 0, 0, 0), (30, .iinc 4 1, 1, 0, 0, 0), (33, .goto (-28), 0, 0, 5, 0)]
theorem so_X0_clearedFor_27 : sgOK mi_X0_clearedFor gm_X0_clearedFor sg_X0_clearedFor_27 = true := by decide +kernel
def sg_X0_clearedFor_36 : List Ins := [(36, .fload_n 3, 0, 0, 0, 0), (37, .freturn, 0, 0, 0, 0)]
theorem so_X0_clearedFor_36 : sgOK mi_X0_clearedFor gm_X0_clearedFor sg_X0_clearedFor_36 = true := by decide +kernel
def sgs_X0_clearedFor : Nat → Option (List Ins) := fun t => match t with
  | 0 => some sg_X0_clearedFor_0
  | 27 => some sg_X0_clearedFor_27
  | 36 => some sg_X0_clearedFor_36
  | _ => none
theorem so_X0_clearedFor : ∀ t sg, sgs_X0_clearedFor t = some sg → sgOK mi_X0_clearedFor gm_X0_clearedFor sg = true ∧ segPc sg = t := by
  intro t sg h
  unfold sgs_X0_clearedFor at h
  split at h
  · cases h; exact ⟨so_X0_clearedFor_0, rfl⟩
  · cases h; exact ⟨so_X0_clearedFor_27, rfl⟩
  · cases h; exact ⟨so_X0_clearedFor_36, rfl⟩
  · cases h
def gm_X0_clearFor : List MI := [mi_X0_clearedFor]
def sg_X0_clearFor_0 : List Ins := [(0, .iconst 0, 0, 0, 0, 0), (1, .istore_n 3, 0, 0, 0, 0), (2, .nop, 0, 0, 0, 0)]
theorem so_X0_clearFor_0 : sgOK mi_X0_clearFor gm_X0_clearFor sg_X0_clearFor_0 = true := by decide +kernel
def sg_X0_clearFor_2 : List Ins := [(2, .iload_n 3, 0, 0, 0, 0), (3, .bipush 120, 120, 0, 0, 0), (5, .if_icmp .ge 26, 0, 0, 31, 0), (8, .aload_n 1, 0, 0, 0, 0), (9, .getfield 84, 1, 0, 41, 0), (12, .iload_n 3, 0, 0, 0, 0), (13, .aload_n 0, 0, 0, 0, 0), (14, .aload_n 1, 0, 0, 0, 0), (15, .getfield 84, 1, 0, 41, 0), (18, .iload_n 3, 0, 0, 0, 0), (19, .faload, 0, 0, 0, 0), (20, .iload_n 2, 0, 0, 0, 0), (21, .invokevirtual 116, 417, 0, 10, 3), (24, .fastore, 0, 0, 0, 0), (25, .iinc 3 1, 1, 0, 0, 0), (28, .goto (-26), 0, 0, 2, 0)]
theorem so_X0_clearFor_2 : sgOK mi_X0_clearFor gm_X0_clearFor sg_X0_clearFor_2 = true := by decide +kernel
def sg_X0_clearFor_31 : List Ins := [(31, .return_, 0, 0, 0, 0)]
theorem so_X0_clearFor_31 : sgOK mi_X0_clearFor gm_X0_clearFor sg_X0_clearFor_31 = true := by decide +kernel
def sgs_X0_clearFor : Nat → Option (List Ins) := fun t => match t with
  | 0 => some sg_X0_clearFor_0
  | 31 => some sg_X0_clearFor_31
  | _ => none
theorem so_X0_clearFor : ∀ t sg, sgs_X0_clearFor t = some sg → sgOK mi_X0_clearFor gm_X0_clearFor sg = true ∧ segPc sg = t := by
  intro t sg h
  unfold sgs_X0_clearFor at h
  split at h
  · cases h; exact ⟨so_X0_clearFor_0, rfl⟩
  · cases h; exact ⟨so_X0_clearFor_31, rfl⟩
  · cases h
def gm_X0_passHours : List MI := [mi_X0_clearFor]
def sg_X0_passHours_0 : List Ins := [(0, .iload_n 1, 0, 0, 0, 0), (1, .iconst 1, 1, 0, 0, 0), (2, .if_icmp .lt 9, 0, 0, 11, 0), (5, .iload_n 1, 0, 0, 0, 0), (6, .bipush 48, 48, 0, 0, 0), (8, .if_icmp .le 6, 0, 0, 14, 0), (11, .bipush (-2), 2, 1, 0, 0), (13, .ireturn, 0, 0, 0, 0)]
theorem so_X0_passHours_0 : sgOK mi_X0_passHours gm_X0_passHours sg_X0_passHours_0 = true := by decide +kernel
def sg_X0_passHours_11 : List Ins := [(11, .bipush (-2), 2, 1, 0, 0), (13, .ireturn, 0, 0, 0, 0)]
theorem so_X0_passHours_11 : sgOK mi_X0_passHours gm_X0_passHours sg_X0_passHours_11 = true := by decide +kernel
def sg_X0_passHours_14 : List Ins := [(14, .aload_n 0, 0, 0, 0, 0), (15, .getfield 30, 0, 5, 74, 0), (18, .iload_n 1, 0, 0, 0, 0), (19, .iadd, 0, 0, 0, 0), (20, .sipush 9999, 9999, 0, 0, 0), (23, .if_icmp .le 6, 0, 0, 29, 0), (26, .bipush (-5), 5, 1, 0, 0), (28, .ireturn, 0, 0, 0, 0)]
theorem so_X0_passHours_14 : sgOK mi_X0_passHours gm_X0_passHours sg_X0_passHours_14 = true := by decide +kernel
def sg_X0_passHours_29 : List Ins := [(29, .iconst 0, 0, 0, 0, 0), (30, .istore_n 2, 0, 0, 0, 0), (31, .nop, 0, 0, 0, 0)]
theorem so_X0_passHours_29 : sgOK mi_X0_passHours gm_X0_passHours sg_X0_passHours_29 = true := by decide +kernel
def sg_X0_passHours_31 : List Ins := [(31, .iload_n 2, 0, 0, 0, 0), (32, .aload_n 0, 0, 0, 0, 0), (33, .getfield 34, 0, 6, 76, 0), (36, .if_icmp .ge 28, 0, 0, 64, 0), (39, .iload_n 2, 0, 0, 0, 0), (40, .aload_n 0, 0, 0, 0, 0), (41, .getfield 37, 0, 7, 78, 0), (44, .if_icmp .eq 14, 0, 0, 58, 0), (47, .aload_n 0, 0, 0, 0, 0), (48, .aload_n 0, 0, 0, 0, 0), (49, .getfield 26, 0, 4, 72, 0), (52, .iload_n 2, 0, 0, 0, 0), (53, .aaload, 13, 0, 0, 0), (54, .iload_n 1, 0, 0, 0, 0), (55, .invokevirtual 107, 413, 0, 10, 3), (58, .iinc 2 1, 1, 0, 0, 0), (61, .goto (-30), 0, 0, 31, 0)]
theorem so_X0_passHours_31 : sgOK mi_X0_passHours gm_X0_passHours sg_X0_passHours_31 = true := by decide +kernel
def sg_X0_passHours_58 : List Ins := [(58, .iinc 2 1, 1, 0, 0, 0), (61, .goto (-30), 0, 0, 31, 0)]
theorem so_X0_passHours_58 : sgOK mi_X0_passHours gm_X0_passHours sg_X0_passHours_58 = true := by decide +kernel
def sg_X0_passHours_64 : List Ins := [(64, .aload_n 0, 0, 0, 0, 0), (65, .dup, 0, 0, 0, 0), (66, .getfield 30, 0, 5, 74, 0), (69, .iload_n 1, 0, 0, 0, 0), (70, .iadd, 0, 0, 0, 0), (71, .putfield 30, 0, 5, 74, 0), (74, .aload_n 0, 0, 0, 0, 0), (75, .getfield 30, 0, 5, 74, 0), (78, .ireturn, 0, 0, 0, 0)]
theorem so_X0_passHours_64 : sgOK mi_X0_passHours gm_X0_passHours sg_X0_passHours_64 = true := by decide +kernel
def sgs_X0_passHours : Nat → Option (List Ins) := fun t => match t with
  | 0 => some sg_X0_passHours_0
  | 11 => some sg_X0_passHours_11
  | 14 => some sg_X0_passHours_14
  | 29 => some sg_X0_passHours_29
  | 58 => some sg_X0_passHours_58
  | 64 => some sg_X0_passHours_64
  | _ => none
theorem so_X0_passHours : ∀ t sg, sgs_X0_passHours t = some sg → sgOK mi_X0_passHours gm_X0_passHours sg = true ∧ segPc sg = t := by
  intro t sg h
  unfold sgs_X0_passHours at h
  split at h
  · cases h; exact ⟨so_X0_passHours_0, rfl⟩
  · cases h; exact ⟨so_X0_passHours_11, rfl⟩
  · cases h; exact ⟨so_X0_passHours_14, rfl⟩
  · cases h; exact ⟨so_X0_passHours_29, rfl⟩
  · cases h; exact ⟨so_X0_passHours_58, rfl⟩
  · cases h; exact ⟨so_X0_passHours_64, rfl⟩
  · cases h
def gm_X0_hoursUntilEnough : List MI := [mi_X0_isEnough, mi_X0_cleared]
def sg_X0_hoursUntilEnough_0 : List Ins := [(0, .fload_n 1, 0, 0, 0, 0), (1, .fstore_n 2, 0, 0, 0, 0), (2, .iconst 0, 0, 0, 0, 0), (3, .istore_n 3, 0, 0, 0, 0), (4, .nop, 0, 0, 0, 0)]
theorem so_X0_hoursUntilEnough_0 : sgOK mi_X0_hoursUntilEnough gm_X0_hoursUntilEnough sg_X0_hoursUntilEnough_0 = true := by decide +kernel
def sg_X0_hoursUntilEnough_4 : List Ins := [(4, .iload_n 3, 0, 0, 0, 0), (5, .sipush 500, 500, 0, 0, 0), (8, .if_icmp .gt 23, 0, 0, 31, 0), (11, .aload_n 0, 0, 0, 0, 0), (12, .fload_n 2, 0, 0, 0, 0), (13, .invokevirtual 88, 331, 0, 10, 2), (16, .ifCond .ne 15, 0, 0, 31, 0), (19, .aload_n 0, 0, 0, 0, 0), (20, .fload_n 2, 0, 0, 0, 0), (21, .invokevirtual 112, 421, 1, 10, 2), (24, .fstore_n 2, 0, 0, 0, 0), (25, .iinc 3 1, 1, 0, 0, 0), (28, .goto (-24), 0, 0, 4, 0)]
theorem so_X0_hoursUntilEnough_4 : sgOK mi_X0_hoursUntilEnough gm_X0_hoursUntilEnough sg_X0_hoursUntilEnough_4 = true := by decide +kernel
def sg_X0_hoursUntilEnough_31 : List Ins := [(31, .iload_n 3, 0, 0, 0, 0), (32, .ireturn, 0, 0, 0, 0)]
theorem so_X0_hoursUntilEnough_31 : sgOK mi_X0_hoursUntilEnough gm_X0_hoursUntilEnough sg_X0_hoursUntilEnough_31 = true := by decide +kernel
def sgs_X0_hoursUntilEnough : Nat → Option (List Ins) := fun t => match t with
  | 0 => some sg_X0_hoursUntilEnough_0
  | 31 => some sg_X0_hoursUntilEnough_31
  | _ => none
theorem so_X0_hoursUntilEnough : ∀ t sg, sgs_X0_hoursUntilEnough t = some sg → sgOK mi_X0_hoursUntilEnough gm_X0_hoursUntilEnough sg = true ∧ segPc sg = t := by
  intro t sg h
  unfold sgs_X0_hoursUntilEnough at h
  split at h
  · cases h; exact ⟨so_X0_hoursUntilEnough_0, rfl⟩
  · cases h; exact ⟨so_X0_hoursUntilEnough_31, rfl⟩
  · cases h
def gm_X0_hoursUntilReadable : List MI := [mi_X0_hoursUntilEnough, mi_J9_max_7cf53]
def sg_X0_hoursUntilReadable_0 : List Ins := [(0, .iconst 0, 0, 0, 0, 0), (1, .istore_n 2, 0, 0, 0, 0), (2, .iconst 0, 0, 0, 0, 0), (3, .istore_n 3, 0, 0, 0, 0), (4, .nop, 0, 0, 0, 0)]
theorem so_X0_hoursUntilReadable_0 : sgOK mi_X0_hoursUntilReadable gm_X0_hoursUntilReadable sg_X0_hoursUntilReadable_0 = true := by decide +kernel
def sg_X0_hoursUntilReadable_4 : List Ins := [(4, .iload_n 3, 0, 0, 0, 0), (5, .bipush 120, 120, 0, 0, 0), (7, .if_icmp .ge 35, 0, 0, 42, 0), (10, .aload_n 1, 0, 0, 0, 0), (11, .getfield 78, 1, 1, 44, 0), (14, .iload_n 3, 0, 0, 0, 0), (15, .iaload, 8, 0, 0, 0), (16, .bipush (-6), 6, 1, 0, 0), (18, .if_icmp .eq 18, 0, 0, 36, 0), (21, .iload_n 2, 0, 0, 0, 0), (22, .aload_n 0, 0, 0, 0, 0), (23, .aload_n 1, 0, 0, 0, 0), (24, .getfield 84, 1, 0, 41, 0), (27, .iload_n 3, 0, 0, 0, 0), (28, .faload, 0, 0, 0, 0), (29, .invokevirtual 138, 462, 0, 10, 2), (32, .invokestatic 142, 360, 1, 0, 2), (35, .istore_n 2, 0, 0, 0, 0), (36, .iinc 3 1, 1, 0, 0, 0), (39, .goto (-35), 0, 0, 4, 0)]
theorem so_X0_hoursUntilReadable_4 : sgOK mi_X0_hoursUntilReadable gm_X0_hoursUntilReadable sg_X0_hoursUntilReadable_4 = true := by decide +kernel
def sg_X0_hoursUntilReadable_36 : List Ins := [(36, .iinc 3 1, 1, 0, 0, 0), (39, .goto (-35), 0, 0, 4, 0)]
theorem so_X0_hoursUntilReadable_36 : sgOK mi_X0_hoursUntilReadable gm_X0_hoursUntilReadable sg_X0_hoursUntilReadable_36 = true := by decide +kernel
def sg_X0_hoursUntilReadable_42 : List Ins := [(42, .iload_n 2, 0, 0, 0, 0), (43, .sipush 500, 500, 0, 0, 0), (46, .if_icmp .le 8, 0, 0, 54, 0), (49, .bipush (-6), 6, 1, 0, 0), (51, .goto 4, 0, 0, 55, 0)]
theorem so_X0_hoursUntilReadable_42 : sgOK mi_X0_hoursUntilReadable gm_X0_hoursUntilReadable sg_X0_hoursUntilReadable_42 = true := by decide +kernel
def sg_X0_hoursUntilReadable_54 : List Ins := [(54, .iload_n 2, 0, 0, 0, 0), (55, .ireturn, 0, 0, 0, 0)]
theorem so_X0_hoursUntilReadable_54 : sgOK mi_X0_hoursUntilReadable gm_X0_hoursUntilReadable sg_X0_hoursUntilReadable_54 = true := by decide +kernel
def sg_X0_hoursUntilReadable_55 : List Ins := [(55, .ireturn, 0, 0, 0, 0)]
theorem so_X0_hoursUntilReadable_55 : sgOK mi_X0_hoursUntilReadable gm_X0_hoursUntilReadable sg_X0_hoursUntilReadable_55 = true := by decide +kernel
def sgs_X0_hoursUntilReadable : Nat → Option (List Ins) := fun t => match t with
  | 0 => some sg_X0_hoursUntilReadable_0
  | 36 => some sg_X0_hoursUntilReadable_36
  | 42 => some sg_X0_hoursUntilReadable_42
  | 54 => some sg_X0_hoursUntilReadable_54
  | 55 => some sg_X0_hoursUntilReadable_55
  | _ => none
theorem so_X0_hoursUntilReadable : ∀ t sg, sgs_X0_hoursUntilReadable t = some sg → sgOK mi_X0_hoursUntilReadable gm_X0_hoursUntilReadable sg = true ∧ segPc sg = t := by
  intro t sg h
  unfold sgs_X0_hoursUntilReadable at h
  split at h
  · cases h; exact ⟨so_X0_hoursUntilReadable_0, rfl⟩
  · cases h; exact ⟨so_X0_hoursUntilReadable_36, rfl⟩
  · cases h; exact ⟨so_X0_hoursUntilReadable_42, rfl⟩
  · cases h; exact ⟨so_X0_hoursUntilReadable_54, rfl⟩
  · cases h; exact ⟨so_X0_hoursUntilReadable_55, rfl⟩
  · cases h
def gm_X0_placeIs : List MI := [mi_X0_canBeRead, mi_X0_hasRoom]
def sg_X0_placeIs_0 : List Ins := [(0, .iload_n 3, 0, 0, 0, 0), (1, .tableswitch 68 0 2 #[27, 44, 51], 27, 0, 0, 0)]
theorem so_X0_placeIs_0 : sgOK mi_X0_placeIs gm_X0_placeIs sg_X0_placeIs_0 = true := by decide +kernel
def sg_X0_placeIs_28 : List Ins := [(28, .aload_n 1, 0, 0, 0, 0), (29, .getfield 78, 1, 1, 44, 0), (32, .iload_n 2, 0, 0, 0, 0), (33, .iaload, 8, 0, 0, 0), (34, .bipush (-6), 6, 1, 0, 0), (36, .if_icmp .eq 7, 0, 0, 43, 0), (39, .iconst 1, 1, 0, 0, 0), (40, .goto 4, 0, 0, 44, 0)]
theorem so_X0_placeIs_28 : sgOK mi_X0_placeIs gm_X0_placeIs sg_X0_placeIs_28 = true := by decide +kernel
def sg_X0_placeIs_43 : List Ins := [(43, .iconst 0, 0, 0, 0, 0), (44, .ireturn, 0, 0, 0, 0)]
theorem so_X0_placeIs_43 : sgOK mi_X0_placeIs gm_X0_placeIs sg_X0_placeIs_43 = true := by decide +kernel
def sg_X0_placeIs_44 : List Ins := [(44, .ireturn, 0, 0, 0, 0)]
theorem so_X0_placeIs_44 : sgOK mi_X0_placeIs gm_X0_placeIs sg_X0_placeIs_44 = true := by decide +kernel
def sg_X0_placeIs_45 : List Ins := [(45, .aload_n 0, 0, 0, 0, 0), (46, .aload_n 1, 0, 0, 0, 0), (47, .iload_n 2, 0, 0, 0, 0), (48, .invokevirtual 128, 350, 0, 10, 3), (51, .ireturn, 0, 0, 0, 0)]
theorem so_X0_placeIs_45 : sgOK mi_X0_placeIs gm_X0_placeIs sg_X0_placeIs_45 = true := by decide +kernel
def sg_X0_placeIs_52 : List Ins := [(52, .aload_n 1, 0, 0, 0, 0), (53, .getfield 81, 1, 3, 51, 0), (56, .iload_n 2, 0, 0, 0, 0), (57, .iaload, 8, 0, 0, 0), (58, .bipush (-6), 6, 1, 0, 0), (60, .if_icmp .eq 7, 0, 0, 67, 0), (63, .iconst 1, 1, 0, 0, 0), (64, .goto 4, 0, 0, 68, 0)]
theorem so_X0_placeIs_52 : sgOK mi_X0_placeIs gm_X0_placeIs sg_X0_placeIs_52 = true := by decide +kernel
def sg_X0_placeIs_67 : List Ins := [(67, .iconst 0, 0, 0, 0, 0), (68, .ireturn, 0, 0, 0, 0)]
theorem so_X0_placeIs_67 : sgOK mi_X0_placeIs gm_X0_placeIs sg_X0_placeIs_67 = true := by decide +kernel
def sg_X0_placeIs_68 : List Ins := [(68, .ireturn, 0, 0, 0, 0)]
theorem so_X0_placeIs_68 : sgOK mi_X0_placeIs gm_X0_placeIs sg_X0_placeIs_68 = true := by decide +kernel
def sg_X0_placeIs_69 : List Ins := [(69, .aload_n 0, 0, 0, 0, 0), (70, .aload_n 1, 0, 0, 0, 0), (71, .iload_n 2, 0, 0, 0, 0), (72, .invokevirtual 96, 373, 1, 10, 3), (75, .ireturn, 0, 0, 0, 0)]
theorem so_X0_placeIs_69 : sgOK mi_X0_placeIs gm_X0_placeIs sg_X0_placeIs_69 = true := by decide +kernel
def sgs_X0_placeIs : Nat → Option (List Ins) := fun t => match t with
  | 0 => some sg_X0_placeIs_0
  | 28 => some sg_X0_placeIs_28
  | 43 => some sg_X0_placeIs_43
  | 44 => some sg_X0_placeIs_44
  | 45 => some sg_X0_placeIs_45
  | 52 => some sg_X0_placeIs_52
  | 67 => some sg_X0_placeIs_67
  | 68 => some sg_X0_placeIs_68
  | 69 => some sg_X0_placeIs_69
  | _ => none
theorem so_X0_placeIs : ∀ t sg, sgs_X0_placeIs t = some sg → sgOK mi_X0_placeIs gm_X0_placeIs sg = true ∧ segPc sg = t := by
  intro t sg h
  unfold sgs_X0_placeIs at h
  split at h
  · cases h; exact ⟨so_X0_placeIs_0, rfl⟩
  · cases h; exact ⟨so_X0_placeIs_28, rfl⟩
  · cases h; exact ⟨so_X0_placeIs_43, rfl⟩
  · cases h; exact ⟨so_X0_placeIs_44, rfl⟩
  · cases h; exact ⟨so_X0_placeIs_45, rfl⟩
  · cases h; exact ⟨so_X0_placeIs_52, rfl⟩
  · cases h; exact ⟨so_X0_placeIs_67, rfl⟩
  · cases h; exact ⟨so_X0_placeIs_68, rfl⟩
  · cases h; exact ⟨so_X0_placeIs_69, rfl⟩
  · cases h
def gm_X0_placesThat : List MI := [mi_X0_placeIs]
def sg_X0_placesThat_0 : List Ins := [(0, .iconst 0, 0, 0, 0, 0), (1, .istore_n 3, 0, 0, 0, 0), (2, .iconst 0, 0, 0, 0, 0), (3, .istore 4, 0, 0, 0, 0), (5, .nop, 0, 0, 0, 0)]
theorem so_X0_placesThat_0 : sgOK mi_X0_placesThat gm_X0_placesThat sg_X0_placesThat_0 = true := by decide +kernel
def sg_X0_placesThat_5 : List Ins := [(5, .iload 4, 0, 0, 0, 0), (7, .bipush 120, 120, 0, 0, 0), (9, .if_icmp .ge 23, 0, 0, 32, 0), (12, .aload_n 0, 0, 0, 0, 0), (13, .aload_n 1, 0, 0, 0, 0), (14, .iload 4, 0, 0, 0, 0), (16, .iload_n 2, 0, 0, 0, 0), (17, .invokevirtual 154, 437, 0, 10, 4), (20, .ifCond .eq 6, 0, 0, 26, 0), (23, .iinc 3 1, 1, 0, 0, 0), (26, .iinc 4 1, 1, 0, 0, 0), (29, .goto (-24), 0, 0, 5, 0)]
theorem so_X0_placesThat_5 : sgOK mi_X0_placesThat gm_X0_placesThat sg_X0_placesThat_5 = true := by decide +kernel
def sg_X0_placesThat_26 : List Ins := [(26, .iinc 4 1, 1, 0, 0, 0), (29, .goto (-24), 0, 0, 5, 0)]
theorem so_X0_placesThat_26 : sgOK mi_X0_placesThat gm_X0_placesThat sg_X0_placesThat_26 = true := by decide +kernel
def sg_X0_placesThat_32 : List Ins := [(32, .iload_n 3, 0, 0, 0, 0), (33, .ireturn, 0, 0, 0, 0)]
theorem so_X0_placesThat_32 : sgOK mi_X0_placesThat gm_X0_placesThat sg_X0_placesThat_32 = true := by decide +kernel
def sgs_X0_placesThat : Nat → Option (List Ins) := fun t => match t with
  | 0 => some sg_X0_placesThat_0
  | 26 => some sg_X0_placesThat_26
  | 32 => some sg_X0_placesThat_32
  | _ => none
theorem so_X0_placesThat : ∀ t sg, sgs_X0_placesThat t = some sg → sgOK mi_X0_placesThat gm_X0_placesThat sg = true ∧ segPc sg = t := by
  intro t sg h
  unfold sgs_X0_placesThat at h
  split at h
  · cases h; exact ⟨so_X0_placesThat_0, rfl⟩
  · cases h; exact ⟨so_X0_placesThat_26, rfl⟩
  · cases h; exact ⟨so_X0_placesThat_32, rfl⟩
  · cases h
def gm_X0_placesOfWriter : List MI := [mi_X0_placeIs]
def sg_X0_placesOfWriter_0 : List Ins := [(0, .iconst 0, 0, 0, 0, 0), (1, .istore_n 3, 0, 0, 0, 0), (2, .iconst 0, 0, 0, 0, 0), (3, .istore 4, 0, 0, 0, 0), (5, .nop, 0, 0, 0, 0)]
theorem so_X0_placesOfWriter_0 : sgOK mi_X0_placesOfWriter gm_X0_placesOfWriter sg_X0_placesOfWriter_0 = true := by decide +kernel
def sg_X0_placesOfWriter_5 : List Ins := [(5, .iload 4, 0, 0, 0, 0), (7, .aload_n 0, 0, 0, 0, 0), (8, .getfield 34, 0, 6, 76, 0), (11, .if_icmp .ge 83, 0, 0, 94, 0), (14, .aload_n 0, 0, 0, 0, 0), (15, .getfield 26, 0, 4, 72, 0), (18, .iload 4, 0, 0, 0, 0), (20, .aaload, 13, 0, 0, 0), (21, .astore 5, 0, 0, 0, 0), (23, .iconst 0, 0, 0, 0, 0), (24, .istore 6, 0, 0, 0, 0), (26, .nop, 0, 0, 0, 0)]
theorem so_X0_placesOfWriter_5 : sgOK mi_X0_placesOfWriter gm_X0_placesOfWriter sg_X0_placesOfWriter_5 = true := by decide +kernel
def sg_X0_placesOfWriter_26 : List Ins := [(26, .iload 6, 0, 0, 0, 0), (28, .bipush 120, 120, 0, 0, 0), (30, .if_icmp .ge 58, 0, 0, 88, 0), (33, .iload_n 2, 0, 0, 0, 0), (34, .iconst 3, 3, 0, 0, 0), (35, .if_icmp .ne 14, 0, 0, 49, 0), (38, .aload 5, 0, 0, 0, 0), (40, .getfield 81, 1, 3, 51, 0), (43, .iload 6, 0, 0, 0, 0), (45, .iaload, 8, 0, 0, 0), (46, .goto 11, 0, 0, 57, 0)]
theorem so_X0_placesOfWriter_26 : sgOK mi_X0_placesOfWriter gm_X0_placesOfWriter sg_X0_placesOfWriter_26 = true := by decide +kernel
def sg_X0_placesOfWriter_49 : List Ins := [(49, .aload 5, 0, 0, 0, 0), (51, .getfield 104, 1, 2, 48, 0), (54, .iload 6, 0, 0, 0, 0), (56, .iaload, 8, 0, 0, 0), (57, .istore 7, 0, 0, 0, 0), (59, .iload 7, 0, 0, 0, 0), (61, .iload_n 1, 0, 0, 0, 0), (62, .if_icmp .ne 20, 0, 0, 82, 0), (65, .aload_n 0, 0, 0, 0, 0), (66, .aload 5, 0, 0, 0, 0), (68, .iload 6, 0, 0, 0, 0), (70, .iload_n 2, 0, 0, 0, 0), (71, .iconst 1, 1, 0, 0, 0), (72, .isub, 0, 0, 0, 0), (73, .invokevirtual 154, 437, 0, 10, 4), (76, .ifCond .eq 6, 0, 0, 82, 0), (79, .iinc 3 1, 1, 0, 0, 0), (82, .iinc 6 1, 1, 0, 0, 0), (85, .goto (-59), 0, 0, 26, 0)]
theorem so_X0_placesOfWriter_49 : sgOK mi_X0_placesOfWriter gm_X0_placesOfWriter sg_X0_placesOfWriter_49 = true := by decide +kernel
def sg_X0_placesOfWriter_57 : List Ins := [(57, .istore 7, 0, 0, 0, 0), (59, .iload 7, 0, 0, 0, 0), (61, .iload_n 1, 0, 0, 0, 0), (62, .if_icmp .ne 20, 0, 0, 82, 0), (65, .aload_n 0, 0, 0, 0, 0), (66, .aload 5, 0, 0, 0, 0), (68, .iload 6, 0, 0, 0, 0), (70, .iload_n 2, 0, 0, 0, 0), (71, .iconst 1, 1, 0, 0, 0), (72, .isub, 0, 0, 0, 0), (73, .invokevirtual 154, 437, 0, 10, 4), (76, .ifCond .eq 6, 0, 0, 82, 0), (79, .iinc 3 1, 1, 0, 0, 0), (82, .iinc 6 1, 1, 0, 0, 0), (85, .goto (-59), 0, 0, 26, 0)]
theorem so_X0_placesOfWriter_57 : sgOK mi_X0_placesOfWriter gm_X0_placesOfWriter sg_X0_placesOfWriter_57 = true := by decide +kernel
def sg_X0_placesOfWriter_82 : List Ins := [(82, .iinc 6 1, 1, 0, 0, 0), (85, .goto (-59), 0, 0, 26, 0)]
theorem so_X0_placesOfWriter_82 : sgOK mi_X0_placesOfWriter gm_X0_placesOfWriter sg_X0_placesOfWriter_82 = true := by decide +kernel
def sg_X0_placesOfWriter_88 : List Ins := [(88, .iinc 4 1, 1, 0, 0, 0), (91, .goto (-86), 0, 0, 5, 0)]
theorem so_X0_placesOfWriter_88 : sgOK mi_X0_placesOfWriter gm_X0_placesOfWriter sg_X0_placesOfWriter_88 = true := by decide +kernel
def sg_X0_placesOfWriter_94 : List Ins := [(94, .iload_n 3, 0, 0, 0, 0), (95, .ireturn, 0, 0, 0, 0)]
theorem so_X0_placesOfWriter_94 : sgOK mi_X0_placesOfWriter gm_X0_placesOfWriter sg_X0_placesOfWriter_94 = true := by decide +kernel
def sgs_X0_placesOfWriter : Nat → Option (List Ins) := fun t => match t with
  | 0 => some sg_X0_placesOfWriter_0
  | 49 => some sg_X0_placesOfWriter_49
  | 57 => some sg_X0_placesOfWriter_57
  | 82 => some sg_X0_placesOfWriter_82
  | 88 => some sg_X0_placesOfWriter_88
  | 94 => some sg_X0_placesOfWriter_94
  | _ => none
theorem so_X0_placesOfWriter : ∀ t sg, sgs_X0_placesOfWriter t = some sg → sgOK mi_X0_placesOfWriter gm_X0_placesOfWriter sg = true ∧ segPc sg = t := by
  intro t sg h
  unfold sgs_X0_placesOfWriter at h
  split at h
  · cases h; exact ⟨so_X0_placesOfWriter_0, rfl⟩
  · cases h; exact ⟨so_X0_placesOfWriter_49, rfl⟩
  · cases h; exact ⟨so_X0_placesOfWriter_57, rfl⟩
  · cases h; exact ⟨so_X0_placesOfWriter_82, rfl⟩
  · cases h; exact ⟨so_X0_placesOfWriter_88, rfl⟩
  · cases h; exact ⟨so_X0_placesOfWriter_94, rfl⟩
  · cases h
def gm_X2_init : List MI := [mi_X0_init]
def sg_X2_init_0 : List Ins := [(0, .aload_n 0, 0, 0, 0, 0), (1, .invokespecial 5, 106, 0, 8, 0), (4, .aload_n 0, 0, 0, 0, 0), (5, .bipush 7, 7, 0, 0, 0), (7, .anewarray 11, 12, 0, 107, 0), (10, .putfield 13, 2, 0, 110, 0), (13, .aload_n 0, 0, 0, 0, 0), (14, .iconst 0, 0, 0, 0, 0), (15, .putfield 17, 2, 1, 111, 0), (18, .aload_n 0, 0, 0, 0, 0), (19, .iconst 0, 0, 0, 0, 0), (20, .putfield 21, 2, 2, 112, 0), (23, .iconst 0, 0, 0, 0, 0), (24, .istore_n 1, 0, 0, 0, 0), (25, .nop, 0, 0, 0, 0)]
theorem so_X2_init_0 : sgOK mi_X2_init gm_X2_init sg_X2_init_0 = true := by decide +kernel
def sg_X2_init_25 : List Ins := [(25, .iload_n 1, 0, 0, 0, 0), (26, .bipush 7, 7, 0, 0, 0), (28, .if_icmp .ge 22, 0, 0, 50, 0), (31, .aload_n 0, 0, 0, 0, 0), (32, .getfield 13, 2, 0, 110, 0), (35, .iload_n 1, 0, 0, 0, 0), (36, .new 11, 0, 27, 107, 9), (39, .dup, 0, 0, 0, 0), (40, .invokespecial 24, 109, 0, 2, 1), (43, .aastore, 12, 0, 0, 0), (44, .iinc 1 1, 1, 0, 0, 0), (47, .goto (-22), 0, 0, 25, 0)]
theorem so_X2_init_25 : sgOK mi_X2_init gm_X2_init sg_X2_init_25 = true := by decide +kernel
def sg_X2_init_50 : List Ins := [(50, .return_, 0, 0, 0, 0)]
theorem so_X2_init_50 : sgOK mi_X2_init gm_X2_init sg_X2_init_50 = true := by decide +kernel
def sgs_X2_init : Nat → Option (List Ins) := fun t => match t with
  | 0 => some sg_X2_init_0
  | 50 => some sg_X2_init_50
  | _ => none
theorem so_X2_init : ∀ t sg, sgs_X2_init t = some sg → sgOK mi_X2_init gm_X2_init sg = true ∧ segPc sg = t := by
  intro t sg h
  unfold sgs_X2_init at h
  split at h
  · cases h; exact ⟨so_X2_init_0, rfl⟩
  · cases h; exact ⟨so_X2_init_50, rfl⟩
  · cases h
def gm_X2_prepare : List MI := [mi_X0_copyFrom]
def sg_X2_prepare_0 : List Ins := [(0, .aload_n 0, 0, 0, 0, 0), (1, .getfield 13, 2, 0, 110, 0), (4, .aload_n 0, 0, 0, 0, 0), (5, .getfield 17, 2, 1, 111, 0), (8, .aaload, 12, 0, 0, 0), (9, .aload_n 1, 0, 0, 0, 0), (10, .invokevirtual 25, 223, 0, 10, 2), (13, .return_, 0, 0, 0, 0)]
theorem so_X2_prepare_0 : sgOK mi_X2_prepare gm_X2_prepare sg_X2_prepare_0 = true := by decide +kernel
def sgs_X2_prepare : Nat → Option (List Ins) := fun t => match t with
  | 0 => some sg_X2_prepare_0
  | _ => none
theorem so_X2_prepare : ∀ t sg, sgs_X2_prepare t = some sg → sgOK mi_X2_prepare gm_X2_prepare sg = true ∧ segPc sg = t := by
  intro t sg h
  unfold sgs_X2_prepare at h
  split at h
  · cases h; exact ⟨so_X2_prepare_0, rfl⟩
  · cases h
def gm_X2_keepUnlessError : List MI := [mi_J9_min_7cf53]
def sg_X2_keepUnlessError_0 : List Ins := [(0, .iload_n 1, 0, 0, 0, 0), (1, .ifCond .lt 31, 0, 0, 32, 0), (4, .aload_n 0, 0, 0, 0, 0), (5, .aload_n 0, 0, 0, 0, 0), (6, .getfield 17, 2, 1, 111, 0), (9, .iconst 1, 1, 0, 0, 0), (10, .iadd, 0, 0, 0, 0), (11, .bipush 7, 7, 0, 0, 0), (13, .irem, 0, 0, 0, 0), (14, .putfield 17, 2, 1, 111, 0), (17, .aload_n 0, 0, 0, 0, 0), (18, .aload_n 0, 0, 0, 0, 0), (19, .getfield 21, 2, 2, 112, 0), (22, .iconst 1, 1, 0, 0, 0), (23, .iadd, 0, 0, 0, 0), (24, .bipush 6, 6, 0, 0, 0), (26, .invokestatic 29, 253, 0, 0, 2), (29, .putfield 21, 2, 2, 112, 0), (32, .iload_n 1, 0, 0, 0, 0), (33, .ireturn, 0, 0, 0, 0)]
theorem so_X2_keepUnlessError_0 : sgOK mi_X2_keepUnlessError gm_X2_keepUnlessError sg_X2_keepUnlessError_0 = true := by decide +kernel
def sg_X2_keepUnlessError_32 : List Ins := [(32, .iload_n 1, 0, 0, 0, 0), (33, .ireturn, 0, 0, 0, 0)]
theorem so_X2_keepUnlessError_32 : sgOK mi_X2_keepUnlessError gm_X2_keepUnlessError sg_X2_keepUnlessError_32 = true := by decide +kernel
def sgs_X2_keepUnlessError : Nat → Option (List Ins) := fun t => match t with
  | 0 => some sg_X2_keepUnlessError_0
  | 32 => some sg_X2_keepUnlessError_32
  | _ => none
theorem so_X2_keepUnlessError : ∀ t sg, sgs_X2_keepUnlessError t = some sg → sgOK mi_X2_keepUnlessError gm_X2_keepUnlessError sg = true ∧ segPc sg = t := by
  intro t sg h
  unfold sgs_X2_keepUnlessError at h
  split at h
  · cases h; exact ⟨so_X2_keepUnlessError_0, rfl⟩
  · cases h; exact ⟨so_X2_keepUnlessError_32, rfl⟩
  · cases h
def gm_X2_takeBackInto : List MI := [mi_X0_copyFrom]
def sg_X2_takeBackInto_0 : List Ins := [(0, .aload_n 0, 0, 0, 0, 0), (1, .getfield 21, 2, 2, 112, 0), (4, .ifCond .ne 6, 0, 0, 10, 0), (7, .bipush (-5), 5, 1, 0, 0), (9, .ireturn, 0, 0, 0, 0)]
theorem so_X2_takeBackInto_0 : sgOK mi_X2_takeBackInto gm_X2_takeBackInto sg_X2_takeBackInto_0 = true := by decide +kernel
def sg_X2_takeBackInto_10 : List Ins := [(10, .aload_n 0, 0, 0, 0, 0), (11, .aload_n 0, 0, 0, 0, 0), (12, .getfield 17, 2, 1, 111, 0), (15, .bipush 7, 7, 0, 0, 0), (17, .iadd, 0, 0, 0, 0), (18, .iconst 1, 1, 0, 0, 0), (19, .isub, 0, 0, 0, 0), (20, .bipush 7, 7, 0, 0, 0), (22, .irem, 0, 0, 0, 0), (23, .putfield 17, 2, 1, 111, 0), (26, .aload_n 0, 0, 0, 0, 0), (27, .dup, 0, 0, 0, 0), (28, .getfield 21, 2, 2, 112, 0), (31, .iconst 1, 1, 0, 0, 0), (32, .isub, 0, 0, 0, 0), (33, .putfield 21, 2, 2, 112, 0), (36, .aload_n 1, 0, 0, 0, 0), (37, .aload_n 0, 0, 0, 0, 0), (38, .getfield 13, 2, 0, 110, 0), (41, .aload_n 0, 0, 0, 0, 0), (42, .getfield 17, 2, 1, 111, 0), (45, .aaload, 12, 0, 0, 0), (46, .invokevirtual 25, 223, 0, 10, 2), (49, .aload_n 0, 0, 0, 0, 0), (50, .getfield 21, 2, 2, 112, 0), (53, .ireturn, 0, 0, 0, 0)]
theorem so_X2_takeBackInto_10 : sgOK mi_X2_takeBackInto gm_X2_takeBackInto sg_X2_takeBackInto_10 = true := by decide +kernel
def sgs_X2_takeBackInto : Nat → Option (List Ins) := fun t => match t with
  | 0 => some sg_X2_takeBackInto_0
  | 10 => some sg_X2_takeBackInto_10
  | _ => none
theorem so_X2_takeBackInto : ∀ t sg, sgs_X2_takeBackInto t = some sg → sgOK mi_X2_takeBackInto gm_X2_takeBackInto sg = true ∧ segPc sg = t := by
  intro t sg h
  unfold sgs_X2_takeBackInto at h
  split at h
  · cases h; exact ⟨so_X2_takeBackInto_0, rfl⟩
  · cases h; exact ⟨so_X2_takeBackInto_10, rfl⟩
  · cases h
def gm_X5_init : List MI := [mi_X1_init]
def sg_X5_init_0 : List Ins := [(0, .aload_n 0, 0, 0, 0, 0), (1, .invokespecial 3, 186, 0, 8, 0), (4, .aload_n 0, 0, 0, 0, 0), (5, .new 9, 1, 34, 187, 10), (8, .dup, 0, 0, 0, 0), (9, .invokespecial 11, 188, 0, 3, 1), (12, .putfield 12, 5, 0, 189, 0), (15, .aload_n 0, 0, 0, 0, 0), (16, .bipush 120, 120, 0, 0, 0), (18, .newarray .float, 9, 0, 63, 0), (20, .putfield 18, 5, 1, 190, 0), (23, .return_, 0, 0, 0, 0)]
theorem so_X5_init_0 : sgOK mi_X5_init gm_X5_init sg_X5_init_0 = true := by decide +kernel
def sgs_X5_init : Nat → Option (List Ins) := fun t => match t with
  | 0 => some sg_X5_init_0
  | _ => none
theorem so_X5_init : ∀ t sg, sgs_X5_init t = some sg → sgOK mi_X5_init gm_X5_init sg = true ∧ segPc sg = t := by
  intro t sg h
  unfold sgs_X5_init at h
  split at h
  · cases h; exact ⟨so_X5_init_0, rfl⟩
  · cases h
def gm_X5_lettersSpoiled : List MI := [mi_X1_copyFrom, mi_X0_mark]
def sg_X5_lettersSpoiled_0 : List Ins := [(0, .aload_n 0, 0, 0, 0, 0), (1, .getfield 12, 5, 0, 189, 0), (4, .aload_n 2, 0, 0, 0, 0), (5, .invokevirtual 22, 508, 0, 11, 2), (8, .aload_n 1, 0, 0, 0, 0), (9, .aload_n 0, 0, 0, 0, 0), (10, .getfield 12, 5, 0, 189, 0), (13, .iload_n 3, 0, 0, 0, 0), (14, .iload 4, 0, 0, 0, 0), (16, .iconst 0, 0, 0, 0, 0), (17, .invokevirtual 26, 546, 1, 10, 5), (20, .ireturn, 0, 0, 0, 0)]
theorem so_X5_lettersSpoiled_0 : sgOK mi_X5_lettersSpoiled gm_X5_lettersSpoiled sg_X5_lettersSpoiled_0 = true := by decide +kernel
def sgs_X5_lettersSpoiled : Nat → Option (List Ins) := fun t => match t with
  | 0 => some sg_X5_lettersSpoiled_0
  | _ => none
theorem so_X5_lettersSpoiled : ∀ t sg, sgs_X5_lettersSpoiled t = some sg → sgOK mi_X5_lettersSpoiled gm_X5_lettersSpoiled sg = true ∧ segPc sg = t := by
  intro t sg h
  unfold sgs_X5_lettersSpoiled at h
  split at h
  · cases h; exact ⟨so_X5_lettersSpoiled_0, rfl⟩
  · cases h
def gm_X5_promisesSpoiled : List MI := [mi_X1_copyFrom, mi_X0_mark, mi_X0_isEnough]
def sg_X5_promisesSpoiled_0 : List Ins := [(0, .aload_n 0, 0, 0, 0, 0), (1, .getfield 12, 5, 0, 189, 0), (4, .aload_n 2, 0, 0, 0, 0), (5, .invokevirtual 22, 508, 0, 11, 2), (8, .aload_n 1, 0, 0, 0, 0), (9, .aload_n 0, 0, 0, 0, 0), (10, .getfield 12, 5, 0, 189, 0), (13, .iload_n 3, 0, 0, 0, 0), (14, .iload 4, 0, 0, 0, 0), (16, .iconst 0, 0, 0, 0, 0), (17, .invokevirtual 26, 546, 1, 10, 5), (20, .pop, 0, 0, 0, 0), (21, .iconst 0, 0, 0, 0, 0), (22, .istore 5, 0, 0, 0, 0), (24, .iconst 0, 0, 0, 0, 0), (25, .istore 6, 0, 0, 0, 0), (27, .nop, 0, 0, 0, 0)]
theorem so_X5_promisesSpoiled_0 : sgOK mi_X5_promisesSpoiled gm_X5_promisesSpoiled sg_X5_promisesSpoiled_0 = true := by decide +kernel
def sg_X5_promisesSpoiled_27 : List Ins := [(27, .iload 6, 0, 0, 0, 0), (29, .bipush 120, 120, 0, 0, 0), (31, .if_icmp .ge 74, 0, 0, 105, 0), (34, .iload 6, 0, 0, 0, 0), (36, .iload 4, 0, 0, 0, 0), (38, .if_icmp .eq 19, 0, 0, 57, 0), (41, .aload_n 2, 0, 0, 0, 0), (42, .getfield 32, 1, 3, 50, 0), (45, .iload 6, 0, 0, 0, 0), (47, .iaload, 8, 0, 0, 0), (48, .bipush (-6), 6, 1, 0, 0), (50, .if_icmp .eq 7, 0, 0, 57, 0), (53, .iconst 1, 1, 0, 0, 0), (54, .goto 4, 0, 0, 58, 0)]
theorem so_X5_promisesSpoiled_27 : sgOK mi_X5_promisesSpoiled gm_X5_promisesSpoiled sg_X5_promisesSpoiled_27 = true := by decide +kernel
def sg_X5_promisesSpoiled_57 : List Ins := [(57, .iconst 0, 0, 0, 0, 0), (58, .istore 7, 0, 0, 0, 0), (60, .iload 7, 0, 0, 0, 0), (62, .ifCond .eq 37, 0, 0, 99, 0), (65, .aload_n 1, 0, 0, 0, 0), (66, .aload_n 2, 0, 0, 0, 0), (67, .getfield 36, 1, 0, 40, 0), (70, .iload 6, 0, 0, 0, 0), (72, .faload, 0, 0, 0, 0), (73, .invokevirtual 39, 519, 2, 10, 2), (76, .ifCond .eq 23, 0, 0, 99, 0), (79, .aload_n 1, 0, 0, 0, 0), (80, .aload_n 0, 0, 0, 0, 0), (81, .getfield 12, 5, 0, 189, 0), (84, .getfield 36, 1, 0, 40, 0), (87, .iload 6, 0, 0, 0, 0), (89, .faload, 0, 0, 0, 0), (90, .invokevirtual 39, 519, 2, 10, 2), (93, .ifCond .ne 6, 0, 0, 99, 0), (96, .iinc 5 1, 1, 0, 0, 0), (99, .iinc 6 1, 1, 0, 0, 0), (102, .goto (-75), 0, 0, 27, 0)]
theorem so_X5_promisesSpoiled_57 : sgOK mi_X5_promisesSpoiled gm_X5_promisesSpoiled sg_X5_promisesSpoiled_57 = true := by decide +kernel
def sg_X5_promisesSpoiled_58 : List Ins := [(58, .istore 7, 0, 0, 0, 0), (60, .iload 7, 0, 0, 0, 0), (62, .ifCond .eq 37, 0, 0, 99, 0), (65, .aload_n 1, 0, 0, 0, 0), (66, .aload_n 2, 0, 0, 0, 0), (67, .getfield 36, 1, 0, 40, 0), (70, .iload 6, 0, 0, 0, 0), (72, .faload, 0, 0, 0, 0), (73, .invokevirtual 39, 519, 2, 10, 2), (76, .ifCond .eq 23, 0, 0, 99, 0), (79, .aload_n 1, 0, 0, 0, 0), (80, .aload_n 0, 0, 0, 0, 0), (81, .getfield 12, 5, 0, 189, 0), (84, .getfield 36, 1, 0, 40, 0), (87, .iload 6, 0, 0, 0, 0), (89, .faload, 0, 0, 0, 0), (90, .invokevirtual 39, 519, 2, 10, 2), (93, .ifCond .ne 6, 0, 0, 99, 0), (96, .iinc 5 1, 1, 0, 0, 0), (99, .iinc 6 1, 1, 0, 0, 0), (102, .goto (-75), 0, 0, 27, 0)]
theorem so_X5_promisesSpoiled_58 : sgOK mi_X5_promisesSpoiled gm_X5_promisesSpoiled sg_X5_promisesSpoiled_58 = true := by decide +kernel
def sg_X5_promisesSpoiled_99 : List Ins := [(99, .iinc 6 1, 1, 0, 0, 0), (102, .goto (-75), 0, 0, 27, 0)]
theorem so_X5_promisesSpoiled_99 : sgOK mi_X5_promisesSpoiled gm_X5_promisesSpoiled sg_X5_promisesSpoiled_99 = true := by decide +kernel
def sg_X5_promisesSpoiled_105 : List Ins := [(105, .iload 5, 0, 0, 0, 0), (107, .ireturn, 0, 0, 0, 0)]
theorem so_X5_promisesSpoiled_105 : sgOK mi_X5_promisesSpoiled gm_X5_promisesSpoiled sg_X5_promisesSpoiled_105 = true := by decide +kernel
def sgs_X5_promisesSpoiled : Nat → Option (List Ins) := fun t => match t with
  | 0 => some sg_X5_promisesSpoiled_0
  | 57 => some sg_X5_promisesSpoiled_57
  | 58 => some sg_X5_promisesSpoiled_58
  | 99 => some sg_X5_promisesSpoiled_99
  | 105 => some sg_X5_promisesSpoiled_105
  | _ => none
theorem so_X5_promisesSpoiled : ∀ t sg, sgs_X5_promisesSpoiled t = some sg → sgOK mi_X5_promisesSpoiled gm_X5_promisesSpoiled sg = true ∧ segPc sg = t := by
  intro t sg h
  unfold sgs_X5_promisesSpoiled at h
  split at h
  · cases h; exact ⟨so_X5_promisesSpoiled_0, rfl⟩
  · cases h; exact ⟨so_X5_promisesSpoiled_57, rfl⟩
  · cases h; exact ⟨so_X5_promisesSpoiled_58, rfl⟩
  · cases h; exact ⟨so_X5_promisesSpoiled_99, rfl⟩
  · cases h; exact ⟨so_X5_promisesSpoiled_105, rfl⟩
  · cases h
def gm_X5_roomLeft : List MI := [mi_X1_copyFrom, mi_X0_mark, mi_X0_placesThat]
def sg_X5_roomLeft_0 : List Ins := [(0, .aload_n 0, 0, 0, 0, 0), (1, .getfield 12, 5, 0, 189, 0), (4, .aload_n 2, 0, 0, 0, 0), (5, .invokevirtual 22, 508, 0, 11, 2), (8, .aload_n 1, 0, 0, 0, 0), (9, .aload_n 0, 0, 0, 0, 0), (10, .getfield 12, 5, 0, 189, 0), (13, .iload_n 3, 0, 0, 0, 0), (14, .iload 4, 0, 0, 0, 0), (16, .iconst 0, 0, 0, 0, 0), (17, .invokevirtual 26, 546, 1, 10, 5), (20, .pop, 0, 0, 0, 0), (21, .aload_n 1, 0, 0, 0, 0), (22, .aload_n 0, 0, 0, 0, 0), (23, .getfield 12, 5, 0, 189, 0), (26, .iconst 3, 3, 0, 0, 0), (27, .invokevirtual 43, 555, 2, 10, 3), (30, .ireturn, 0, 0, 0, 0)]
theorem so_X5_roomLeft_0 : sgOK mi_X5_roomLeft gm_X5_roomLeft sg_X5_roomLeft_0 = true := by decide +kernel
def sgs_X5_roomLeft : Nat → Option (List Ins) := fun t => match t with
  | 0 => some sg_X5_roomLeft_0
  | _ => none
theorem so_X5_roomLeft : ∀ t sg, sgs_X5_roomLeft t = some sg → sgOK mi_X5_roomLeft gm_X5_roomLeft sg = true ∧ segPc sg = t := by
  intro t sg h
  unfold sgs_X5_roomLeft at h
  split at h
  · cases h; exact ⟨so_X5_roomLeft_0, rfl⟩
  · cases h
def gm_X5_lookAhead : List MI := [mi_X1_isFree, mi_X0_lightAhead]
def sg_X5_lookAhead_0 : List Ins := [(0, .iload_n 2, 0, 0, 0, 0), (1, .istore 4, 0, 0, 0, 0), (3, .nop, 0, 0, 0, 0)]
theorem so_X5_lookAhead_0 : sgOK mi_X5_lookAhead gm_X5_lookAhead sg_X5_lookAhead_0 = true := by decide +kernel
def sg_X5_lookAhead_3 : List Ins := [(3, .iload 4, 0, 0, 0, 0), (5, .iload_n 3, 0, 0, 0, 0), (6, .if_icmp .gt 38, 0, 0, 44, 0), (9, .aload_n 0, 0, 0, 0, 0), (10, .getfield 12, 5, 0, 189, 0), (13, .iload 4, 0, 0, 0, 0), (15, .invokevirtual 59, 513, 0, 11, 2), (18, .ifCond .eq 20, 0, 0, 38, 0), (21, .aload_n 0, 0, 0, 0, 0), (22, .getfield 18, 5, 1, 190, 0), (25, .iload 4, 0, 0, 0, 0), (27, .aload_n 1, 0, 0, 0, 0), (28, .aload_n 0, 0, 0, 0, 0), (29, .getfield 12, 5, 0, 189, 0), (32, .iload 4, 0, 0, 0, 0), (34, .invokevirtual 63, 514, 1, 10, 3), (37, .fastore, 0, 0, 0, 0), (38, .iinc 4 1, 1, 0, 0, 0), (41, .goto (-38), 0, 0, 3, 0)]
theorem so_X5_lookAhead_3 : sgOK mi_X5_lookAhead gm_X5_lookAhead sg_X5_lookAhead_3 = true := by decide +kernel
def sg_X5_lookAhead_38 : List Ins := [(38, .iinc 4 1, 1, 0, 0, 0), (41, .goto (-38), 0, 0, 3, 0)]
theorem so_X5_lookAhead_38 : sgOK mi_X5_lookAhead gm_X5_lookAhead sg_X5_lookAhead_38 = true := by decide +kernel
def sg_X5_lookAhead_44 : List Ins := [(44, .return_, 0, 0, 0, 0)]
theorem so_X5_lookAhead_44 : sgOK mi_X5_lookAhead gm_X5_lookAhead sg_X5_lookAhead_44 = true := by decide +kernel
def sgs_X5_lookAhead : Nat → Option (List Ins) := fun t => match t with
  | 0 => some sg_X5_lookAhead_0
  | 38 => some sg_X5_lookAhead_38
  | 44 => some sg_X5_lookAhead_44
  | _ => none
theorem so_X5_lookAhead : ∀ t sg, sgs_X5_lookAhead t = some sg → sgOK mi_X5_lookAhead gm_X5_lookAhead sg = true ∧ segPc sg = t := by
  intro t sg h
  unfold sgs_X5_lookAhead at h
  split at h
  · cases h; exact ⟨so_X5_lookAhead_0, rfl⟩
  · cases h; exact ⟨so_X5_lookAhead_38, rfl⟩
  · cases h; exact ⟨so_X5_lookAhead_44, rfl⟩
  · cases h
def gm_X5_brightest : List MI := [mi_X1_isFree, mi_X0_isEnough]
def sg_X5_brightest_0 : List Ins := [(0, .bipush (-6), 6, 1, 0, 0), (2, .istore_n 2, 0, 0, 0, 0), (3, .fconst 0, 0, 0, 0, 0), (4, .fstore_n 3, 0, 0, 0, 0), (5, .iconst 0, 0, 0, 0, 0), (6, .istore 4, 0, 0, 0, 0), (8, .nop, 0, 0, 0, 0)]
theorem so_X5_brightest_0 : sgOK mi_X5_brightest gm_X5_brightest sg_X5_brightest_0 = true := by decide +kernel
def sg_X5_brightest_8 : List Ins := [(8, .iload 4, 0, 0, 0, 0), (10, .bipush 120, 120, 0, 0, 0), (12, .if_icmp .ge 58, 0, 0, 70, 0), (15, .aload_n 0, 0, 0, 0, 0), (16, .getfield 12, 5, 0, 189, 0), (19, .iload 4, 0, 0, 0, 0), (21, .invokevirtual 59, 513, 0, 11, 2), (24, .ifCond .eq 40, 0, 0, 64, 0), (27, .aload_n 1, 0, 0, 0, 0), (28, .aload_n 0, 0, 0, 0, 0), (29, .getfield 18, 5, 1, 190, 0), (32, .iload 4, 0, 0, 0, 0), (34, .faload, 0, 0, 0, 0), (35, .invokevirtual 39, 519, 1, 10, 2), (38, .ifCond .eq 26, 0, 0, 64, 0), (41, .aload_n 0, 0, 0, 0, 0), (42, .getfield 18, 5, 1, 190, 0), (45, .iload 4, 0, 0, 0, 0), (47, .faload, 0, 0, 0, 0), (48, .fload_n 3, 0, 0, 0, 0), (49, .fcmp .l, 0, 0, 0, 0), (50, .ifCond .le 14, 0, 0, 64, 0), (53, .aload_n 0, 0, 0, 0, 0), (54, .getfield 18, 5, 1, 190, 0), (57, .iload 4, 0, 0, 0, 0), (59, .faload, 0, 0, 0, 0), (60, .fstore_n 3, 0, 0, 0, 0), (61, .iload 4, 0, 0, 0, 0), (63, .istore_n 2, 0, 0, 0, 0), (64, .iinc 4 1, 1, 0, 0, 0), (67, .goto (-59), 0, 0, 8, 0)]
theorem so_X5_brightest_8 : sgOK mi_X5_brightest gm_X5_brightest sg_X5_brightest_8 = true := by decide +kernel
def sg_X5_brightest_64 : List Ins := [(64, .iinc 4 1, 1, 0, 0, 0), (67, .goto (-59), 0, 0, 8, 0)]
theorem so_X5_brightest_64 : sgOK mi_X5_brightest gm_X5_brightest sg_X5_brightest_64 = true := by decide +kernel
def sg_X5_brightest_70 : List Ins := [(70, .iload_n 2, 0, 0, 0, 0), (71, .ireturn, 0, 0, 0, 0)]
theorem so_X5_brightest_70 : sgOK mi_X5_brightest gm_X5_brightest sg_X5_brightest_70 = true := by decide +kernel
def sgs_X5_brightest : Nat → Option (List Ins) := fun t => match t with
  | 0 => some sg_X5_brightest_0
  | 64 => some sg_X5_brightest_64
  | 70 => some sg_X5_brightest_70
  | _ => none
theorem so_X5_brightest : ∀ t sg, sgs_X5_brightest t = some sg → sgOK mi_X5_brightest gm_X5_brightest sg = true ∧ segPc sg = t := by
  intro t sg h
  unfold sgs_X5_brightest at h
  split at h
  · cases h; exact ⟨so_X5_brightest_0, rfl⟩
  · cases h; exact ⟨so_X5_brightest_64, rfl⟩
  · cases h; exact ⟨so_X5_brightest_70, rfl⟩
  · cases h
def gm_X5_brightestOf : List MI := [mi_X1_copyFrom, mi_X5_lookAhead, mi_X5_brightest]
def sg_X5_brightestOf_0 : List Ins := [(0, .aload_n 0, 0, 0, 0, 0), (1, .getfield 12, 5, 0, 189, 0), (4, .aload_n 2, 0, 0, 0, 0), (5, .invokevirtual 22, 508, 0, 11, 2), (8, .aload_n 0, 0, 0, 0, 0), (9, .aload_n 1, 0, 0, 0, 0), (10, .iconst 0, 0, 0, 0, 0), (11, .bipush 119, 119, 0, 0, 0), (13, .invokevirtual 47, 509, 1, 15, 4), (16, .aload_n 0, 0, 0, 0, 0), (17, .aload_n 1, 0, 0, 0, 0), (18, .invokevirtual 51, 515, 2, 15, 2), (21, .ireturn, 0, 0, 0, 0)]
theorem so_X5_brightestOf_0 : sgOK mi_X5_brightestOf gm_X5_brightestOf sg_X5_brightestOf_0 = true := by decide +kernel
def sgs_X5_brightestOf : Nat → Option (List Ins) := fun t => match t with
  | 0 => some sg_X5_brightestOf_0
  | _ => none
theorem so_X5_brightestOf : ∀ t sg, sgs_X5_brightestOf t = some sg → sgOK mi_X5_brightestOf gm_X5_brightestOf sg = true ∧ segPc sg = t := by
  intro t sg h
  unfold sgs_X5_brightestOf at h
  split at h
  · cases h; exact ⟨so_X5_brightestOf_0, rfl⟩
  · cases h
def gm_X5_lookAround : List MI := [mi_X6_firstNear, mi_X6_lastNear, mi_X5_lookAhead]
def sg_X5_lookAround_0 : List Ins := [(0, .iload_n 2, 0, 0, 0, 0), (1, .bipush 12, 12, 0, 0, 0), (3, .idiv, 0, 0, 0, 0), (4, .istore_n 3, 0, 0, 0, 0), (5, .iload_n 2, 0, 0, 0, 0), (6, .bipush 12, 12, 0, 0, 0), (8, .irem, 0, 0, 0, 0), (9, .istore 4, 0, 0, 0, 0), (11, .iload_n 3, 0, 0, 0, 0), (12, .invokestatic 67, 571, 0, 1, 1), (15, .istore 5, 0, 0, 0, 0), (17, .nop, 0, 0, 0, 0)]
theorem so_X5_lookAround_0 : sgOK mi_X5_lookAround gm_X5_lookAround sg_X5_lookAround_0 = true := by decide +kernel
def sg_X5_lookAround_17 : List Ins := [(17, .iload 5, 0, 0, 0, 0), (19, .iload_n 3, 0, 0, 0, 0), (20, .bipush 10, 10, 0, 0, 0), (22, .invokestatic 71, 572, 1, 1, 2), (25, .if_icmp .gt 38, 0, 0, 63, 0), (28, .aload_n 0, 0, 0, 0, 0), (29, .aload_n 1, 0, 0, 0, 0), (30, .iload 5, 0, 0, 0, 0), (32, .bipush 12, 12, 0, 0, 0), (34, .imul, 0, 0, 0, 0), (35, .iload 4, 0, 0, 0, 0), (37, .invokestatic 67, 571, 0, 1, 1), (40, .iadd, 0, 0, 0, 0), (41, .iload 5, 0, 0, 0, 0), (43, .bipush 12, 12, 0, 0, 0), (45, .imul, 0, 0, 0, 0), (46, .iload 4, 0, 0, 0, 0), (48, .bipush 12, 12, 0, 0, 0), (50, .invokestatic 71, 572, 1, 1, 2), (53, .iadd, 0, 0, 0, 0), (54, .invokevirtual 47, 509, 2, 15, 4), (57, .iinc 5 1, 1, 0, 0, 0), (60, .goto (-43), 0, 0, 17, 0)]
theorem so_X5_lookAround_17 : sgOK mi_X5_lookAround gm_X5_lookAround sg_X5_lookAround_17 = true := by decide +kernel
def sg_X5_lookAround_63 : List Ins := [(63, .return_, 0, 0, 0, 0)]
theorem so_X5_lookAround_63 : sgOK mi_X5_lookAround gm_X5_lookAround sg_X5_lookAround_63 = true := by decide +kernel
def sgs_X5_lookAround : Nat → Option (List Ins) := fun t => match t with
  | 0 => some sg_X5_lookAround_0
  | 63 => some sg_X5_lookAround_63
  | _ => none
theorem so_X5_lookAround : ∀ t sg, sgs_X5_lookAround t = some sg → sgOK mi_X5_lookAround gm_X5_lookAround sg = true ∧ segPc sg = t := by
  intro t sg h
  unfold sgs_X5_lookAround at h
  split at h
  · cases h; exact ⟨so_X5_lookAround_0, rfl⟩
  · cases h; exact ⟨so_X5_lookAround_63, rfl⟩
  · cases h
def gm_X5_lettersUntilFull : List MI := [mi_X1_copyFrom, mi_X5_lookAhead, mi_X5_brightest, mi_X0_mark, mi_X5_lookAround]
def sg_X5_lettersUntilFull_0 : List Ins := [(0, .aload_n 0, 0, 0, 0, 0), (1, .getfield 12, 5, 0, 189, 0), (4, .aload_n 2, 0, 0, 0, 0), (5, .invokevirtual 22, 508, 0, 11, 2), (8, .aload_n 0, 0, 0, 0, 0), (9, .aload_n 1, 0, 0, 0, 0), (10, .iconst 0, 0, 0, 0, 0), (11, .bipush 119, 119, 0, 0, 0), (13, .invokevirtual 47, 509, 1, 15, 4), (16, .aload_n 0, 0, 0, 0, 0), (17, .aload_n 1, 0, 0, 0, 0), (18, .invokevirtual 51, 515, 2, 15, 2), (21, .istore 4, 0, 0, 0, 0), (23, .iconst 0, 0, 0, 0, 0), (24, .istore 5, 0, 0, 0, 0), (26, .nop, 0, 0, 0, 0)]
theorem so_X5_lettersUntilFull_0 : sgOK mi_X5_lettersUntilFull gm_X5_lettersUntilFull sg_X5_lettersUntilFull_0 = true := by decide +kernel
def sg_X5_lettersUntilFull_26 : List Ins := [(26, .iload 5, 0, 0, 0, 0), (28, .bipush 120, 120, 0, 0, 0), (30, .if_icmp .ge 43, 0, 0, 73, 0), (33, .iload 4, 0, 0, 0, 0), (35, .bipush (-6), 6, 1, 0, 0), (37, .if_icmp .eq 36, 0, 0, 73, 0), (40, .aload_n 1, 0, 0, 0, 0), (41, .aload_n 0, 0, 0, 0, 0), (42, .getfield 12, 5, 0, 189, 0), (45, .iload_n 3, 0, 0, 0, 0), (46, .iload 4, 0, 0, 0, 0), (48, .iconst 0, 0, 0, 0, 0), (49, .invokevirtual 26, 546, 3, 10, 5), (52, .pop, 0, 0, 0, 0), (53, .iinc 5 1, 1, 0, 0, 0), (56, .aload_n 0, 0, 0, 0, 0), (57, .aload_n 1, 0, 0, 0, 0), (58, .iload 4, 0, 0, 0, 0), (60, .invokevirtual 55, 567, 4, 15, 3), (63, .aload_n 0, 0, 0, 0, 0), (64, .aload_n 1, 0, 0, 0, 0), (65, .invokevirtual 51, 515, 2, 15, 2), (68, .istore 4, 0, 0, 0, 0), (70, .goto (-44), 0, 0, 26, 0)]
theorem so_X5_lettersUntilFull_26 : sgOK mi_X5_lettersUntilFull gm_X5_lettersUntilFull sg_X5_lettersUntilFull_26 = true := by decide +kernel
def sg_X5_lettersUntilFull_73 : List Ins := [(73, .iload 5, 0, 0, 0, 0), (75, .ireturn, 0, 0, 0, 0)]
theorem so_X5_lettersUntilFull_73 : sgOK mi_X5_lettersUntilFull gm_X5_lettersUntilFull sg_X5_lettersUntilFull_73 = true := by decide +kernel
def sgs_X5_lettersUntilFull : Nat → Option (List Ins) := fun t => match t with
  | 0 => some sg_X5_lettersUntilFull_0
  | 73 => some sg_X5_lettersUntilFull_73
  | _ => none
theorem so_X5_lettersUntilFull : ∀ t sg, sgs_X5_lettersUntilFull t = some sg → sgOK mi_X5_lettersUntilFull gm_X5_lettersUntilFull sg = true ∧ segPc sg = t := by
  intro t sg h
  unfold sgs_X5_lettersUntilFull at h
  split at h
  · cases h; exact ⟨so_X5_lettersUntilFull_0, rfl⟩
  · cases h; exact ⟨so_X5_lettersUntilFull_73, rfl⟩
  · cases h
