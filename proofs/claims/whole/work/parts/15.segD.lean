/-! stretches of code (printed by wip/whole/gen/meth.py) -/
def gm_X7_init : List MI := []
def sg_X7_init_0 : List Ins := [(0, .aload_n 0, 0, 0, 0, 0), (1, .invokespecial 1, 716, 0, 8, 0), (4, .aload_n 0, 0, 0, 0, 0), (5, .sipush 9830, 9830, 0, 0, 0), (8, .newarray .int, 8, 0, 125, 0), (10, .putfield 7, 7, 0, 717, 0), (13, .aload_n 0, 0, 0, 0, 0), (14, .sipush 4800, 4800, 0, 0, 0), (17, .newarray .float, 9, 0, 126, 0), (19, .putfield 13, 7, 1, 718, 0), (22, .aload_n 0, 0, 0, 0, 0), (23, .iconst 2, 2, 0, 0, 0), (24, .newarray .boolean, 10, 0, 206, 0), (26, .putfield 17, 7, 3, 720, 0), (29, .aload_n 0, 0, 0, 0, 0), (30, .bipush 120, 120, 0, 0, 0), (32, .newarray .int, 8, 0, 125, 0), (34, .putfield 21, 7, 4, 721, 0), (37, .aload_n 0, 0, 0, 0, 0), (38, .bipush 80, 80, 0, 0, 0), (40, .newarray .int, 8, 0, 125, 0), (42, .putfield 24, 7, 5, 722, 0), (45, .aload_n 0, 0, 0, 0, 0), (46, .getfield 7, 7, 0, 717, 0), (49, .iconst 0, 0, 0, 0, 0), (50, .bipush 6, 6, 0, 0, 0), (52, .iastore, 0, 0, 0, 0), (53, .aload_n 0, 0, 0, 0, 0), (54, .getfield 7, 7, 0, 717, 0), (57, .iconst 1, 1, 0, 0, 0), (58, .iconst 2, 2, 0, 0, 0), (59, .iastore, 0, 0, 0, 0), (60, .aload_n 0, 0, 0, 0, 0), (61, .getfield 7, 7, 0, 717, 0), (64, .iconst 2, 2, 0, 0, 0), (65, .bipush 40, 40, 0, 0, 0), (67, .iastore, 0, 0, 0, 0), (68, .aload_n 0, 0, 0, 0, 0), (69, .getfield 7, 7, 0, 717, 0), (72, .iconst 3, 3, 0, 0, 0), (73, .bipush 10, 10, 0, 0, 0), (75, .iastore, 0, 0, 0, 0), (76, .aload_n 0, 0, 0, 0, 0), (77, .getfield 7, 7, 0, 717, 0), (80, .bipush 6, 6, 0, 0, 0), (82, .bipush (-6), 6, 1, 0, 0), (84, .iastore, 0, 0, 0, 0), (85, .return_, 0, 0, 0, 0)]
theorem so_X7_init_0 : sgOK mi_X7_init gm_X7_init sg_X7_init_0 = true := by decide +kernel
def sgs_X7_init : Nat → Option (List Ins) := fun t => match t with
  | 0 => some sg_X7_init_0
  | _ => none
theorem so_X7_init : ∀ t sg, sgs_X7_init t = some sg → sgOK mi_X7_init gm_X7_init sg = true ∧ segPc sg = t := by
  intro t sg h
  unfold sgs_X7_init at h
  split at h
  · cases h; exact ⟨so_X7_init_0, rfl⟩
  · cases h
def gm_X7_in : List MI := []
def sg_X7_in_0 : List Ins := [(0, .lload_n 0, 0, 0, 0, 0), (1, .lload_n 2, 0, 0, 0, 0), (2, .lcmp, 0, 0, 0, 0), (3, .ifCond .lt 14, 0, 0, 17, 0), (6, .lload_n 0, 0, 0, 0, 0), (7, .lload 4, 0, 0, 0, 0), (9, .lcmp, 0, 0, 0, 0), (10, .ifCond .gt 7, 0, 0, 17, 0), (13, .iconst 1, 1, 0, 0, 0), (14, .goto 4, 0, 0, 18, 0)]
theorem so_X7_in_0 : sgOK mi_X7_in gm_X7_in sg_X7_in_0 = true := by decide +kernel
def sg_X7_in_17 : List Ins := [(17, .iconst 0, 0, 0, 0, 0), (18, .ireturn, 0, 0, 0, 0)]
theorem so_X7_in_17 : sgOK mi_X7_in gm_X7_in sg_X7_in_17 = true := by decide +kernel
def sg_X7_in_18 : List Ins := [(18, .ireturn, 0, 0, 0, 0)]
theorem so_X7_in_18 : sgOK mi_X7_in gm_X7_in sg_X7_in_18 = true := by decide +kernel
def sgs_X7_in : Nat → Option (List Ins) := fun t => match t with
  | 0 => some sg_X7_in_0
  | 17 => some sg_X7_in_17
  | 18 => some sg_X7_in_18
  | _ => none
theorem so_X7_in : ∀ t sg, sgs_X7_in t = some sg → sgOK mi_X7_in gm_X7_in sg = true ∧ segPc sg = t := by
  intro t sg h
  unfold sgs_X7_in at h
  split at h
  · cases h; exact ⟨so_X7_in_0, rfl⟩
  · cases h; exact ⟨so_X7_in_17, rfl⟩
  · cases h; exact ⟨so_X7_in_18, rfl⟩
  · cases h
def gm_X7_copies : List MI := []
def sg_X7_copies_0 : List Ins := [(0, .iconst 0, 0, 0, 0, 0), (1, .istore_n 3, 0, 0, 0, 0), (2, .nop, 0, 0, 0, 0)]
theorem so_X7_copies_0 : sgOK mi_X7_copies gm_X7_copies sg_X7_copies_0 = true := by decide +kernel
def sg_X7_copies_2 : List Ins := [(2, .iload_n 3, 0, 0, 0, 0), (3, .sipush 983, 983, 0, 0, 0), (6, .if_icmp .ge 33, 0, 0, 39, 0), (9, .aload_n 0, 0, 0, 0, 0), (10, .getfield 7, 7, 0, 717, 0), (13, .sipush 983, 983, 0, 0, 0), (16, .iload_n 2, 0, 0, 0, 0), (17, .imul, 0, 0, 0, 0), (18, .iload_n 3, 0, 0, 0, 0), (19, .iadd, 0, 0, 0, 0), (20, .aload_n 0, 0, 0, 0, 0), (21, .getfield 7, 7, 0, 717, 0), (24, .sipush 983, 983, 0, 0, 0), (27, .iload_n 1, 0, 0, 0, 0), (28, .imul, 0, 0, 0, 0), (29, .iload_n 3, 0, 0, 0, 0), (30, .iadd, 0, 0, 0, 0), (31, .iaload, 8, 0, 0, 0), (32, .iastore, 0, 0, 0, 0), (33, .iinc 3 1, 1, 0, 0, 0), (36, .goto (-34), 0, 0, 2, 0)]
theorem so_X7_copies_2 : sgOK mi_X7_copies gm_X7_copies sg_X7_copies_2 = true := by decide +kernel
def sg_X7_copies_39 : List Ins := [(39, .iconst 0, 0, 0, 0, 0), (40, .istore_n 3, 0, 0, 0, 0), (41, .nop, 0, 0, 0, 0)]
theorem so_X7_copies_39 : sgOK mi_X7_copies gm_X7_copies sg_X7_copies_39 = true := by decide +kernel
def sg_X7_copies_41 : List Ins := [(41, .iload_n 3, 0, 0, 0, 0), (42, .sipush 480, 480, 0, 0, 0), (45, .if_icmp .ge 33, 0, 0, 78, 0), (48, .aload_n 0, 0, 0, 0, 0), (49, .getfield 13, 7, 1, 718, 0), (52, .sipush 480, 480, 0, 0, 0), (55, .iload_n 2, 0, 0, 0, 0), (56, .imul, 0, 0, 0, 0), (57, .iload_n 3, 0, 0, 0, 0), (58, .iadd, 0, 0, 0, 0), (59, .aload_n 0, 0, 0, 0, 0), (60, .getfield 13, 7, 1, 718, 0), (63, .sipush 480, 480, 0, 0, 0), (66, .iload_n 1, 0, 0, 0, 0), (67, .imul, 0, 0, 0, 0), (68, .iload_n 3, 0, 0, 0, 0), (69, .iadd, 0, 0, 0, 0), (70, .faload, 0, 0, 0, 0), (71, .fastore, 0, 0, 0, 0), (72, .iinc 3 1, 1, 0, 0, 0), (75, .goto (-34), 0, 0, 41, 0)]
theorem so_X7_copies_41 : sgOK mi_X7_copies gm_X7_copies sg_X7_copies_41 = true := by decide +kernel
def sg_X7_copies_78 : List Ins := [(78, .return_, 0, 0, 0, 0)]
theorem so_X7_copies_78 : sgOK mi_X7_copies gm_X7_copies sg_X7_copies_78 = true := by decide +kernel
def sgs_X7_copies : Nat → Option (List Ins) := fun t => match t with
  | 0 => some sg_X7_copies_0
  | 39 => some sg_X7_copies_39
  | 78 => some sg_X7_copies_78
  | _ => none
theorem so_X7_copies : ∀ t sg, sgs_X7_copies t = some sg → sgOK mi_X7_copies gm_X7_copies sg = true ∧ segPc sg = t := by
  intro t sg h
  unfold sgs_X7_copies at h
  split at h
  · cases h; exact ⟨so_X7_copies_0, rfl⟩
  · cases h; exact ⟨so_X7_copies_39, rfl⟩
  · cases h; exact ⟨so_X7_copies_78, rfl⟩
  · cases h
def gm_X7_changes : List MI := [mi_X7_copies]
def sg_X7_changes_0 : List Ins := [(0, .aload_n 0, 0, 0, 0, 0), (1, .getfield 27, 7, 2, 719, 0), (4, .bipush 6, 6, 0, 0, 0), (6, .if_icmp .ne 35, 0, 0, 41, 0), (9, .iconst 1, 1, 0, 0, 0), (10, .istore_n 1, 0, 0, 0, 0), (11, .nop, 0, 0, 0, 0)]
theorem so_X7_changes_0 : sgOK mi_X7_changes gm_X7_changes sg_X7_changes_0 = true := by decide +kernel
def sg_X7_changes_11 : List Ins := [(11, .iload_n 1, 0, 0, 0, 0), (12, .bipush 6, 6, 0, 0, 0), (14, .if_icmp .ge 17, 0, 0, 31, 0), (17, .aload_n 0, 0, 0, 0, 0), (18, .iload_n 1, 0, 0, 0, 0), (19, .iconst 1, 1, 0, 0, 0), (20, .iadd, 0, 0, 0, 0), (21, .iload_n 1, 0, 0, 0, 0), (22, .invokevirtual 31, 778, 0, 17, 3), (25, .iinc 1 1, 1, 0, 0, 0), (28, .goto (-17), 0, 0, 11, 0)]
theorem so_X7_changes_11 : sgOK mi_X7_changes gm_X7_changes sg_X7_changes_11 = true := by decide +kernel
def sg_X7_changes_31 : List Ins := [(31, .aload_n 0, 0, 0, 0, 0), (32, .dup, 0, 0, 0, 0), (33, .getfield 27, 7, 2, 719, 0), (36, .iconst 1, 1, 0, 0, 0), (37, .isub, 0, 0, 0, 0), (38, .putfield 27, 7, 2, 719, 0), (41, .aload_n 0, 0, 0, 0, 0), (42, .dup, 0, 0, 0, 0), (43, .getfield 27, 7, 2, 719, 0), (46, .iconst 1, 1, 0, 0, 0), (47, .iadd, 0, 0, 0, 0), (48, .putfield 27, 7, 2, 719, 0), (51, .aload_n 0, 0, 0, 0, 0), (52, .iconst 0, 0, 0, 0, 0), (53, .aload_n 0, 0, 0, 0, 0), (54, .getfield 27, 7, 2, 719, 0), (57, .invokevirtual 31, 778, 0, 17, 3), (60, .return_, 0, 0, 0, 0)]
theorem so_X7_changes_31 : sgOK mi_X7_changes gm_X7_changes sg_X7_changes_31 = true := by decide +kernel
def sg_X7_changes_41 : List Ins := [(41, .aload_n 0, 0, 0, 0, 0), (42, .dup, 0, 0, 0, 0), (43, .getfield 27, 7, 2, 719, 0), (46, .iconst 1, 1, 0, 0, 0), (47, .iadd, 0, 0, 0, 0), (48, .putfield 27, 7, 2, 719, 0), (51, .aload_n 0, 0, 0, 0, 0), (52, .iconst 0, 0, 0, 0, 0), (53, .aload_n 0, 0, 0, 0, 0), (54, .getfield 27, 7, 2, 719, 0), (57, .invokevirtual 31, 778, 0, 17, 3), (60, .return_, 0, 0, 0, 0)]
theorem so_X7_changes_41 : sgOK mi_X7_changes gm_X7_changes sg_X7_changes_41 = true := by decide +kernel
def sgs_X7_changes : Nat → Option (List Ins) := fun t => match t with
  | 0 => some sg_X7_changes_0
  | 31 => some sg_X7_changes_31
  | 41 => some sg_X7_changes_41
  | _ => none
theorem so_X7_changes : ∀ t sg, sgs_X7_changes t = some sg → sgOK mi_X7_changes gm_X7_changes sg = true ∧ segPc sg = t := by
  intro t sg h
  unfold sgs_X7_changes at h
  split at h
  · cases h; exact ⟨so_X7_changes_0, rfl⟩
  · cases h; exact ⟨so_X7_changes_31, rfl⟩
  · cases h; exact ⟨so_X7_changes_41, rfl⟩
  · cases h
def gm_X7_inkAt : List MI := []
def sg_X7_inkAt_0 : List Ins := [(0, .sipush 983, 983, 0, 0, 0), (3, .iload_n 0, 0, 0, 0, 0), (4, .imul, 0, 0, 0, 0), (5, .bipush 23, 23, 0, 0, 0), (7, .iadd, 0, 0, 0, 0), (8, .iconst 2, 2, 0, 0, 0), (9, .bipush 120, 120, 0, 0, 0), (11, .iload_n 1, 0, 0, 0, 0), (12, .imul, 0, 0, 0, 0), (13, .iload_n 2, 0, 0, 0, 0), (14, .iadd, 0, 0, 0, 0), (15, .imul, 0, 0, 0, 0), (16, .iadd, 0, 0, 0, 0), (17, .ireturn, 0, 0, 0, 0)]
theorem so_X7_inkAt_0 : sgOK mi_X7_inkAt gm_X7_inkAt sg_X7_inkAt_0 = true := by decide +kernel
def sgs_X7_inkAt : Nat → Option (List Ins) := fun t => match t with
  | 0 => some sg_X7_inkAt_0
  | _ => none
theorem so_X7_inkAt : ∀ t sg, sgs_X7_inkAt t = some sg → sgOK mi_X7_inkAt gm_X7_inkAt sg = true ∧ segPc sg = t := by
  intro t sg h
  unfold sgs_X7_inkAt at h
  split at h
  · cases h; exact ⟨so_X7_inkAt_0, rfl⟩
  · cases h
def gm_X7_lightAt : List MI := []
def sg_X7_lightAt_0 : List Ins := [(0, .sipush 480, 480, 0, 0, 0), (3, .iload_n 0, 0, 0, 0, 0), (4, .imul, 0, 0, 0, 0), (5, .bipush 120, 120, 0, 0, 0), (7, .iload_n 1, 0, 0, 0, 0), (8, .imul, 0, 0, 0, 0), (9, .iadd, 0, 0, 0, 0), (10, .iload_n 2, 0, 0, 0, 0), (11, .iadd, 0, 0, 0, 0), (12, .ireturn, 0, 0, 0, 0)]
theorem so_X7_lightAt_0 : sgOK mi_X7_lightAt gm_X7_lightAt sg_X7_lightAt_0 = true := by decide +kernel
def sgs_X7_lightAt : Nat → Option (List Ins) := fun t => match t with
  | 0 => some sg_X7_lightAt_0
  | _ => none
theorem so_X7_lightAt : ∀ t sg, sgs_X7_lightAt t = some sg → sgOK mi_X7_lightAt gm_X7_lightAt sg = true ∧ segPc sg = t := by
  intro t sg h
  unfold sgs_X7_lightAt at h
  split at h
  · cases h; exact ⟨so_X7_lightAt_0, rfl⟩
  · cases h
def gm_X7_hasLetter : List MI := [mi_X7_inkAt]
def sg_X7_hasLetter_0 : List Ins := [(0, .aload_n 0, 0, 0, 0, 0), (1, .getfield 7, 7, 0, 717, 0), (4, .iload_n 1, 0, 0, 0, 0), (5, .iload_n 2, 0, 0, 0, 0), (6, .iload_n 3, 0, 0, 0, 0), (7, .invokestatic 35, 790, 0, 0, 3), (10, .iaload, 8, 0, 0, 0), (11, .bipush (-6), 6, 1, 0, 0), (13, .if_icmp .eq 7, 0, 0, 20, 0), (16, .iconst 1, 1, 0, 0, 0), (17, .goto 4, 0, 0, 21, 0)]
theorem so_X7_hasLetter_0 : sgOK mi_X7_hasLetter gm_X7_hasLetter sg_X7_hasLetter_0 = true := by decide +kernel
def sg_X7_hasLetter_20 : List Ins := [(20, .iconst 0, 0, 0, 0, 0), (21, .ireturn, 0, 0, 0, 0)]
theorem so_X7_hasLetter_20 : sgOK mi_X7_hasLetter gm_X7_hasLetter sg_X7_hasLetter_20 = true := by decide +kernel
def sg_X7_hasLetter_21 : List Ins := [(21, .ireturn, 0, 0, 0, 0)]
theorem so_X7_hasLetter_21 : sgOK mi_X7_hasLetter gm_X7_hasLetter sg_X7_hasLetter_21 = true := by decide +kernel
def sgs_X7_hasLetter : Nat → Option (List Ins) := fun t => match t with
  | 0 => some sg_X7_hasLetter_0
  | 20 => some sg_X7_hasLetter_20
  | 21 => some sg_X7_hasLetter_21
  | _ => none
theorem so_X7_hasLetter : ∀ t sg, sgs_X7_hasLetter t = some sg → sgOK mi_X7_hasLetter gm_X7_hasLetter sg = true ∧ segPc sg = t := by
  intro t sg h
  unfold sgs_X7_hasLetter at h
  split at h
  · cases h; exact ⟨so_X7_hasLetter_0, rfl⟩
  · cases h; exact ⟨so_X7_hasLetter_20, rfl⟩
  · cases h; exact ⟨so_X7_hasLetter_21, rfl⟩
  · cases h
def gm_X7_promisedTo : List MI := [mi_X7_inkAt]
def sg_X7_promisedTo_0 : List Ins := [(0, .aload_n 0, 0, 0, 0, 0), (1, .getfield 7, 7, 0, 717, 0), (4, .iload_n 1, 0, 0, 0, 0), (5, .iload_n 2, 0, 0, 0, 0), (6, .iload_n 3, 0, 0, 0, 0), (7, .invokestatic 35, 790, 0, 0, 3), (10, .iconst 1, 1, 0, 0, 0), (11, .iadd, 0, 0, 0, 0), (12, .iaload, 8, 0, 0, 0), (13, .ireturn, 0, 0, 0, 0)]
theorem so_X7_promisedTo_0 : sgOK mi_X7_promisedTo gm_X7_promisedTo sg_X7_promisedTo_0 = true := by decide +kernel
def sgs_X7_promisedTo : Nat → Option (List Ins) := fun t => match t with
  | 0 => some sg_X7_promisedTo_0
  | _ => none
theorem so_X7_promisedTo : ∀ t sg, sgs_X7_promisedTo t = some sg → sgOK mi_X7_promisedTo gm_X7_promisedTo sg = true ∧ segPc sg = t := by
  intro t sg h
  unfold sgs_X7_promisedTo at h
  split at h
  · cases h; exact ⟨so_X7_promisedTo_0, rfl⟩
  · cases h
def gm_X7_clouded : List MI := []
def sg_X7_clouded_0 : List Ins := [(0, .iload_n 3, 0, 0, 0, 0), (1, .bipush 12, 12, 0, 0, 0), (3, .idiv, 0, 0, 0, 0), (4, .iload 4, 0, 0, 0, 0), (6, .bipush 12, 12, 0, 0, 0), (8, .idiv, 0, 0, 0, 0), (9, .isub, 0, 0, 0, 0), (10, .istore 6, 0, 0, 0, 0), (12, .iload_n 3, 0, 0, 0, 0), (13, .bipush 12, 12, 0, 0, 0), (15, .irem, 0, 0, 0, 0), (16, .iload 4, 0, 0, 0, 0), (18, .bipush 12, 12, 0, 0, 0), (20, .irem, 0, 0, 0, 0), (21, .isub, 0, 0, 0, 0), (22, .istore 7, 0, 0, 0, 0), (24, .iload 6, 0, 0, 0, 0), (26, .ifCond .ge 9, 0, 0, 35, 0), (29, .iload 6, 0, 0, 0, 0), (31, .ineg, 0, 0, 0, 0), (32, .goto 5, 0, 0, 37, 0)]
theorem so_X7_clouded_0 : sgOK mi_X7_clouded gm_X7_clouded sg_X7_clouded_0 = true := by decide +kernel
def sg_X7_clouded_35 : List Ins := [(35, .iload 6, 0, 0, 0, 0), (37, .istore 6, 0, 0, 0, 0), (39, .iload 7, 0, 0, 0, 0), (41, .ifCond .ge 9, 0, 0, 50, 0), (44, .iload 7, 0, 0, 0, 0), (46, .ineg, 0, 0, 0, 0), (47, .goto 5, 0, 0, 52, 0)]
theorem so_X7_clouded_35 : sgOK mi_X7_clouded gm_X7_clouded sg_X7_clouded_35 = true := by decide +kernel
def sg_X7_clouded_37 : List Ins := [(37, .istore 6, 0, 0, 0, 0), (39, .iload 7, 0, 0, 0, 0), (41, .ifCond .ge 9, 0, 0, 50, 0), (44, .iload 7, 0, 0, 0, 0), (46, .ineg, 0, 0, 0, 0), (47, .goto 5, 0, 0, 52, 0)]
theorem so_X7_clouded_37 : sgOK mi_X7_clouded gm_X7_clouded sg_X7_clouded_37 = true := by decide +kernel
def sg_X7_clouded_50 : List Ins := [(50, .iload 7, 0, 0, 0, 0), (52, .istore 7, 0, 0, 0, 0), (54, .iload 6, 0, 0, 0, 0), (56, .iload 7, 0, 0, 0, 0), (58, .if_icmp .le 8, 0, 0, 66, 0), (61, .iload 6, 0, 0, 0, 0), (63, .goto 5, 0, 0, 68, 0)]
theorem so_X7_clouded_50 : sgOK mi_X7_clouded gm_X7_clouded sg_X7_clouded_50 = true := by decide +kernel
def sg_X7_clouded_52 : List Ins := [(52, .istore 7, 0, 0, 0, 0), (54, .iload 6, 0, 0, 0, 0), (56, .iload 7, 0, 0, 0, 0), (58, .if_icmp .le 8, 0, 0, 66, 0), (61, .iload 6, 0, 0, 0, 0), (63, .goto 5, 0, 0, 68, 0)]
theorem so_X7_clouded_52 : sgOK mi_X7_clouded gm_X7_clouded sg_X7_clouded_52 = true := by decide +kernel
def sg_X7_clouded_66 : List Ins := [(66, .iload 7, 0, 0, 0, 0), (68, .istore 8, 0, 0, 0, 0), (70, .iload 8, 0, 0, 0, 0), (72, .ifCond .eq 9, 0, 0, 81, 0), (75, .iload 8, 0, 0, 0, 0), (77, .iconst 2, 2, 0, 0, 0), (78, .if_icmp .le 5, 0, 0, 83, 0), (81, .fload_n 2, 0, 0, 0, 0), (82, .freturn, 0, 0, 0, 0)]
theorem so_X7_clouded_66 : sgOK mi_X7_clouded gm_X7_clouded sg_X7_clouded_66 = true := by decide +kernel
def sg_X7_clouded_68 : List Ins := [(68, .istore 8, 0, 0, 0, 0), (70, .iload 8, 0, 0, 0, 0), (72, .ifCond .eq 9, 0, 0, 81, 0), (75, .iload 8, 0, 0, 0, 0), (77, .iconst 2, 2, 0, 0, 0), (78, .if_icmp .le 5, 0, 0, 83, 0), (81, .fload_n 2, 0, 0, 0, 0), (82, .freturn, 0, 0, 0, 0)]
theorem so_X7_clouded_68 : sgOK mi_X7_clouded gm_X7_clouded sg_X7_clouded_68 = true := by decide +kernel
def sg_X7_clouded_81 : List Ins := [(81, .fload_n 2, 0, 0, 0, 0), (82, .freturn, 0, 0, 0, 0)]
theorem so_X7_clouded_81 : sgOK mi_X7_clouded gm_X7_clouded sg_X7_clouded_81 = true := by decide +kernel
def sg_X7_clouded_83 : List Ins := [(83, .aload_n 0, 0, 0, 0, 0), (84, .getfield 7, 7, 0, 717, 0), (87, .sipush 983, 983, 0, 0, 0), (90, .iload_n 1, 0, 0, 0, 0), (91, .imul, 0, 0, 0, 0), (92, .iload 8, 0, 0, 0, 0), (94, .iadd, 0, 0, 0, 0), (95, .iconst 1, 1, 0, 0, 0), (96, .isub, 0, 0, 0, 0), (97, .iaload, 8, 0, 0, 0), (98, .iload 5, 0, 0, 0, 0), (100, .imul, 0, 0, 0, 0), (101, .istore 9, 0, 0, 0, 0), (103, .fload_n 2, 0, 0, 0, 0), (104, .bipush 100, 100, 0, 0, 0), (106, .iload 9, 0, 0, 0, 0), (108, .isub, 0, 0, 0, 0), (109, .i2f, 0, 0, 0, 0), (110, .fmul, 0, 0, 0, 0), (111, .ldc 39, 1120403456, 1, 861, 0), (113, .fdiv, 0, 0, 0, 0), (114, .freturn, 0, 0, 0, 0)]
theorem so_X7_clouded_83 : sgOK mi_X7_clouded gm_X7_clouded sg_X7_clouded_83 = true := by decide +kernel
def sgs_X7_clouded : Nat → Option (List Ins) := fun t => match t with
  | 0 => some sg_X7_clouded_0
  | 35 => some sg_X7_clouded_35
  | 37 => some sg_X7_clouded_37
  | 50 => some sg_X7_clouded_50
  | 52 => some sg_X7_clouded_52
  | 66 => some sg_X7_clouded_66
  | 68 => some sg_X7_clouded_68
  | 81 => some sg_X7_clouded_81
  | 83 => some sg_X7_clouded_83
  | _ => none
theorem so_X7_clouded : ∀ t sg, sgs_X7_clouded t = some sg → sgOK mi_X7_clouded gm_X7_clouded sg = true ∧ segPc sg = t := by
  intro t sg h
  unfold sgs_X7_clouded at h
  split at h
  · cases h; exact ⟨so_X7_clouded_0, rfl⟩
  · cases h; exact ⟨so_X7_clouded_35, rfl⟩
  · cases h; exact ⟨so_X7_clouded_37, rfl⟩
  · cases h; exact ⟨so_X7_clouded_50, rfl⟩
  · cases h; exact ⟨so_X7_clouded_52, rfl⟩
  · cases h; exact ⟨so_X7_clouded_66, rfl⟩
  · cases h; exact ⟨so_X7_clouded_68, rfl⟩
  · cases h; exact ⟨so_X7_clouded_81, rfl⟩
  · cases h; exact ⟨so_X7_clouded_83, rfl⟩
  · cases h
def gm_X7_isBright : List MI := []
def sg_X7_isBright_0 : List Ins := [(0, .fload_n 2, 0, 0, 0, 0), (1, .aload_n 0, 0, 0, 0, 0), (2, .getfield 7, 7, 0, 717, 0), (5, .sipush 983, 983, 0, 0, 0), (8, .iload_n 1, 0, 0, 0, 0), (9, .imul, 0, 0, 0, 0), (10, .iconst 2, 2, 0, 0, 0), (11, .iadd, 0, 0, 0, 0), (12, .iaload, 8, 0, 0, 0), (13, .i2f, 0, 0, 0, 0), (14, .ldc 39, 1120403456, 1, 861, 0), (16, .fdiv, 0, 0, 0, 0), (17, .fcmp .l, 0, 0, 0, 0), (18, .ifCond .lt 7, 0, 0, 25, 0), (21, .iconst 1, 1, 0, 0, 0), (22, .goto 4, 0, 0, 26, 0)]
theorem so_X7_isBright_0 : sgOK mi_X7_isBright gm_X7_isBright sg_X7_isBright_0 = true := by decide +kernel
def sg_X7_isBright_25 : List Ins := [(25, .iconst 0, 0, 0, 0, 0), (26, .ireturn, 0, 0, 0, 0)]
theorem so_X7_isBright_25 : sgOK mi_X7_isBright gm_X7_isBright sg_X7_isBright_25 = true := by decide +kernel
def sg_X7_isBright_26 : List Ins := [(26, .ireturn, 0, 0, 0, 0)]
theorem so_X7_isBright_26 : sgOK mi_X7_isBright gm_X7_isBright sg_X7_isBright_26 = true := by decide +kernel
def sgs_X7_isBright : Nat → Option (List Ins) := fun t => match t with
  | 0 => some sg_X7_isBright_0
  | 25 => some sg_X7_isBright_25
  | 26 => some sg_X7_isBright_26
  | _ => none
theorem so_X7_isBright : ∀ t sg, sgs_X7_isBright t = some sg → sgOK mi_X7_isBright gm_X7_isBright sg = true ∧ segPc sg = t := by
  intro t sg h
  unfold sgs_X7_isBright at h
  split at h
  · cases h; exact ⟨so_X7_isBright_0, rfl⟩
  · cases h; exact ⟨so_X7_isBright_25, rfl⟩
  · cases h; exact ⟨so_X7_isBright_26, rfl⟩
  · cases h
def gm_X7_ahead : List MI := [mi_X7_lightAt, mi_X7_promisedTo, mi_X7_clouded]
def sg_X7_ahead_0 : List Ins := [(0, .aload_n 0, 0, 0, 0, 0), (1, .getfield 13, 7, 1, 718, 0), (4, .iload_n 1, 0, 0, 0, 0), (5, .iload_n 2, 0, 0, 0, 0), (6, .iload_n 3, 0, 0, 0, 0), (7, .invokestatic 40, 793, 0, 0, 3), (10, .faload, 0, 0, 0, 0), (11, .fstore 4, 0, 0, 0, 0), (13, .iconst 0, 0, 0, 0, 0), (14, .istore 5, 0, 0, 0, 0), (16, .nop, 0, 0, 0, 0)]
theorem so_X7_ahead_0 : sgOK mi_X7_ahead gm_X7_ahead sg_X7_ahead_0 = true := by decide +kernel
def sg_X7_ahead_16 : List Ins := [(16, .iload 5, 0, 0, 0, 0), (18, .bipush 120, 120, 0, 0, 0), (20, .if_icmp .ge 60, 0, 0, 80, 0), (23, .aload_n 0, 0, 0, 0, 0), (24, .iload_n 1, 0, 0, 0, 0), (25, .iload_n 2, 0, 0, 0, 0), (26, .iload 5, 0, 0, 0, 0), (28, .invokevirtual 43, 849, 1, 17, 4), (31, .istore 6, 0, 0, 0, 0), (33, .iload 5, 0, 0, 0, 0), (35, .iload_n 3, 0, 0, 0, 0), (36, .if_icmp .eq 38, 0, 0, 74, 0), (39, .iload 6, 0, 0, 0, 0), (41, .bipush (-6), 6, 1, 0, 0), (43, .if_icmp .eq 31, 0, 0, 74, 0), (46, .aload_n 0, 0, 0, 0, 0), (47, .iload_n 1, 0, 0, 0, 0), (48, .fload 4, 0, 0, 0, 0), (50, .iload_n 3, 0, 0, 0, 0), (51, .iload 5, 0, 0, 0, 0), (53, .aload_n 0, 0, 0, 0, 0), (54, .getfield 7, 7, 0, 717, 0), (57, .sipush 983, 983, 0, 0, 0), (60, .iload_n 1, 0, 0, 0, 0), (61, .imul, 0, 0, 0, 0), (62, .bipush 8, 8, 0, 0, 0), (64, .iadd, 0, 0, 0, 0), (65, .iload 6, 0, 0, 0, 0), (67, .iadd, 0, 0, 0, 0), (68, .iaload, 8, 0, 0, 0), (69, .invokevirtual 46, 878, 2, 17, 6), (72, .fstore 4, 0, 0, 0, 0), (74, .iinc 5 1, 1, 0, 0, 0), (77, .goto (-61), 0, 0, 16, 0)]
theorem so_X7_ahead_16 : sgOK mi_X7_ahead gm_X7_ahead sg_X7_ahead_16 = true := by decide +kernel
def sg_X7_ahead_74 : List Ins := [(74, .iinc 5 1, 1, 0, 0, 0), (77, .goto (-61), 0, 0, 16, 0)]
theorem so_X7_ahead_74 : sgOK mi_X7_ahead gm_X7_ahead sg_X7_ahead_74 = true := by decide +kernel
def sg_X7_ahead_80 : List Ins := [(80, .fload 4, 0, 0, 0, 0), (82, .freturn, 0, 0, 0, 0)]
theorem so_X7_ahead_80 : sgOK mi_X7_ahead gm_X7_ahead sg_X7_ahead_80 = true := by decide +kernel
def sgs_X7_ahead : Nat → Option (List Ins) := fun t => match t with
  | 0 => some sg_X7_ahead_0
  | 74 => some sg_X7_ahead_74
  | 80 => some sg_X7_ahead_80
  | _ => none
theorem so_X7_ahead : ∀ t sg, sgs_X7_ahead t = some sg → sgOK mi_X7_ahead gm_X7_ahead sg = true ∧ segPc sg = t := by
  intro t sg h
  unfold sgs_X7_ahead at h
  split at h
  · cases h; exact ⟨so_X7_ahead_0, rfl⟩
  · cases h; exact ⟨so_X7_ahead_74, rfl⟩
  · cases h; exact ⟨so_X7_ahead_80, rfl⟩
  · cases h
def gm_X7_hasRoom : List MI := [mi_X7_hasLetter, mi_X7_promisedTo, mi_X7_ahead, mi_X7_isBright]
def sg_X7_hasRoom_0 : List Ins := [(0, .aload_n 0, 0, 0, 0, 0), (1, .iload_n 1, 0, 0, 0, 0), (2, .iload_n 2, 0, 0, 0, 0), (3, .iload_n 3, 0, 0, 0, 0), (4, .invokevirtual 50, 853, 0, 17, 4), (7, .ifCond .ne 34, 0, 0, 41, 0), (10, .aload_n 0, 0, 0, 0, 0), (11, .iload_n 1, 0, 0, 0, 0), (12, .iload_n 2, 0, 0, 0, 0), (13, .iload_n 3, 0, 0, 0, 0), (14, .invokevirtual 43, 849, 1, 17, 4), (17, .bipush (-6), 6, 1, 0, 0), (19, .if_icmp .ne 22, 0, 0, 41, 0), (22, .aload_n 0, 0, 0, 0, 0), (23, .iload_n 1, 0, 0, 0, 0), (24, .aload_n 0, 0, 0, 0, 0), (25, .iload_n 1, 0, 0, 0, 0), (26, .iload_n 2, 0, 0, 0, 0), (27, .iload_n 3, 0, 0, 0, 0), (28, .invokevirtual 54, 898, 2, 17, 4), (31, .invokevirtual 58, 857, 3, 17, 3), (34, .ifCond .eq 7, 0, 0, 41, 0), (37, .iconst 1, 1, 0, 0, 0), (38, .goto 4, 0, 0, 42, 0)]
theorem so_X7_hasRoom_0 : sgOK mi_X7_hasRoom gm_X7_hasRoom sg_X7_hasRoom_0 = true := by decide +kernel
def sg_X7_hasRoom_41 : List Ins := [(41, .iconst 0, 0, 0, 0, 0), (42, .ireturn, 0, 0, 0, 0)]
theorem so_X7_hasRoom_41 : sgOK mi_X7_hasRoom gm_X7_hasRoom sg_X7_hasRoom_41 = true := by decide +kernel
def sg_X7_hasRoom_42 : List Ins := [(42, .ireturn, 0, 0, 0, 0)]
theorem so_X7_hasRoom_42 : sgOK mi_X7_hasRoom gm_X7_hasRoom sg_X7_hasRoom_42 = true := by decide +kernel
def sgs_X7_hasRoom : Nat → Option (List Ins) := fun t => match t with
  | 0 => some sg_X7_hasRoom_0
  | 41 => some sg_X7_hasRoom_41
  | 42 => some sg_X7_hasRoom_42
  | _ => none
theorem so_X7_hasRoom : ∀ t sg, sgs_X7_hasRoom t = some sg → sgOK mi_X7_hasRoom gm_X7_hasRoom sg = true ∧ segPc sg = t := by
  intro t sg h
  unfold sgs_X7_hasRoom at h
  split at h
  · cases h; exact ⟨so_X7_hasRoom_0, rfl⟩
  · cases h; exact ⟨so_X7_hasRoom_41, rfl⟩
  · cases h; exact ⟨so_X7_hasRoom_42, rfl⟩
  · cases h
def gm_X7_canRead : List MI := [mi_X7_hasLetter, mi_X7_lightAt, mi_X7_isBright]
def sg_X7_canRead_0 : List Ins := [(0, .aload_n 0, 0, 0, 0, 0), (1, .iload_n 1, 0, 0, 0, 0), (2, .iload_n 2, 0, 0, 0, 0), (3, .iload_n 3, 0, 0, 0, 0), (4, .invokevirtual 50, 853, 0, 17, 4), (7, .ifCond .eq 26, 0, 0, 33, 0), (10, .aload_n 0, 0, 0, 0, 0), (11, .iload_n 1, 0, 0, 0, 0), (12, .aload_n 0, 0, 0, 0, 0), (13, .getfield 13, 7, 1, 718, 0), (16, .iload_n 1, 0, 0, 0, 0), (17, .iload_n 2, 0, 0, 0, 0), (18, .iload_n 3, 0, 0, 0, 0), (19, .invokestatic 40, 793, 1, 0, 3), (22, .faload, 0, 0, 0, 0), (23, .invokevirtual 58, 857, 2, 17, 3), (26, .ifCond .eq 7, 0, 0, 33, 0), (29, .iconst 1, 1, 0, 0, 0), (30, .goto 4, 0, 0, 34, 0)]
theorem so_X7_canRead_0 : sgOK mi_X7_canRead gm_X7_canRead sg_X7_canRead_0 = true := by decide +kernel
def sg_X7_canRead_33 : List Ins := [(33, .iconst 0, 0, 0, 0, 0), (34, .ireturn, 0, 0, 0, 0)]
theorem so_X7_canRead_33 : sgOK mi_X7_canRead gm_X7_canRead sg_X7_canRead_33 = true := by decide +kernel
def sg_X7_canRead_34 : List Ins := [(34, .ireturn, 0, 0, 0, 0)]
theorem so_X7_canRead_34 : sgOK mi_X7_canRead gm_X7_canRead sg_X7_canRead_34 = true := by decide +kernel
def sgs_X7_canRead : Nat → Option (List Ins) := fun t => match t with
  | 0 => some sg_X7_canRead_0
  | 33 => some sg_X7_canRead_33
  | 34 => some sg_X7_canRead_34
  | _ => none
theorem so_X7_canRead : ∀ t sg, sgs_X7_canRead t = some sg → sgOK mi_X7_canRead gm_X7_canRead sg = true ∧ segPc sg = t := by
  intro t sg h
  unfold sgs_X7_canRead at h
  split at h
  · cases h; exact ⟨so_X7_canRead_0, rfl⟩
  · cases h; exact ⟨so_X7_canRead_33, rfl⟩
  · cases h; exact ⟨so_X7_canRead_34, rfl⟩
  · cases h
def gm_X7_rooms : List MI := [mi_X7_hasRoom]
def sg_X7_rooms_0 : List Ins := [(0, .iconst 0, 0, 0, 0, 0), (1, .istore_n 3, 0, 0, 0, 0), (2, .iconst 0, 0, 0, 0, 0), (3, .istore 4, 0, 0, 0, 0), (5, .nop, 0, 0, 0, 0)]
theorem so_X7_rooms_0 : sgOK mi_X7_rooms gm_X7_rooms sg_X7_rooms_0 = true := by decide +kernel
def sg_X7_rooms_5 : List Ins := [(5, .iload 4, 0, 0, 0, 0), (7, .bipush 120, 120, 0, 0, 0), (9, .if_icmp .ge 28, 0, 0, 37, 0), (12, .iload_n 3, 0, 0, 0, 0), (13, .aload_n 0, 0, 0, 0, 0), (14, .iload_n 1, 0, 0, 0, 0), (15, .iload_n 2, 0, 0, 0, 0), (16, .iload 4, 0, 0, 0, 0), (18, .invokevirtual 62, 894, 0, 17, 4), (21, .ifCond .eq 7, 0, 0, 28, 0), (24, .iconst 1, 1, 0, 0, 0), (25, .goto 4, 0, 0, 29, 0)]
theorem so_X7_rooms_5 : sgOK mi_X7_rooms gm_X7_rooms sg_X7_rooms_5 = true := by decide +kernel
def sg_X7_rooms_28 : List Ins := [(28, .iconst 0, 0, 0, 0, 0), (29, .iadd, 0, 0, 0, 0), (30, .istore_n 3, 0, 0, 0, 0), (31, .iinc 4 1, 1, 0, 0, 0), (34, .goto (-29), 0, 0, 5, 0)]
theorem so_X7_rooms_28 : sgOK mi_X7_rooms gm_X7_rooms sg_X7_rooms_28 = true := by decide +kernel
def sg_X7_rooms_29 : List Ins := [(29, .iadd, 0, 0, 0, 0), (30, .istore_n 3, 0, 0, 0, 0), (31, .iinc 4 1, 1, 0, 0, 0), (34, .goto (-29), 0, 0, 5, 0)]
theorem so_X7_rooms_29 : sgOK mi_X7_rooms gm_X7_rooms sg_X7_rooms_29 = true := by decide +kernel
def sg_X7_rooms_37 : List Ins := [(37, .iload_n 3, 0, 0, 0, 0), (38, .ireturn, 0, 0, 0, 0)]
theorem so_X7_rooms_37 : sgOK mi_X7_rooms gm_X7_rooms sg_X7_rooms_37 = true := by decide +kernel
def sgs_X7_rooms : Nat → Option (List Ins) := fun t => match t with
  | 0 => some sg_X7_rooms_0
  | 28 => some sg_X7_rooms_28
  | 29 => some sg_X7_rooms_29
  | 37 => some sg_X7_rooms_37
  | _ => none
theorem so_X7_rooms : ∀ t sg, sgs_X7_rooms t = some sg → sgOK mi_X7_rooms gm_X7_rooms sg = true ∧ segPc sg = t := by
  intro t sg h
  unfold sgs_X7_rooms at h
  split at h
  · cases h; exact ⟨so_X7_rooms_0, rfl⟩
  · cases h; exact ⟨so_X7_rooms_28, rfl⟩
  · cases h; exact ⟨so_X7_rooms_29, rfl⟩
  · cases h; exact ⟨so_X7_rooms_37, rfl⟩
  · cases h
def gm_X7_looks : List MI := [mi_X7_canRead]
def sg_X7_looks_0 : List Ins := [(0, .iconst 0, 0, 0, 0, 0), (1, .istore_n 2, 0, 0, 0, 0), (2, .nop, 0, 0, 0, 0)]
theorem so_X7_looks_0 : sgOK mi_X7_looks gm_X7_looks sg_X7_looks_0 = true := by decide +kernel
def sg_X7_looks_2 : List Ins := [(2, .iload_n 2, 0, 0, 0, 0), (3, .bipush 120, 120, 0, 0, 0), (5, .if_icmp .ge 30, 0, 0, 35, 0), (8, .aload_n 0, 0, 0, 0, 0), (9, .getfield 21, 7, 4, 721, 0), (12, .iload_n 2, 0, 0, 0, 0), (13, .aload_n 0, 0, 0, 0, 0), (14, .iconst 0, 0, 0, 0, 0), (15, .iload_n 1, 0, 0, 0, 0), (16, .iload_n 2, 0, 0, 0, 0), (17, .invokevirtual 65, 870, 0, 17, 4), (20, .ifCond .eq 7, 0, 0, 27, 0), (23, .iconst 1, 1, 0, 0, 0), (24, .goto 4, 0, 0, 28, 0)]
theorem so_X7_looks_2 : sgOK mi_X7_looks gm_X7_looks sg_X7_looks_2 = true := by decide +kernel
def sg_X7_looks_27 : List Ins := [(27, .iconst 0, 0, 0, 0, 0), (28, .iastore, 0, 0, 0, 0), (29, .iinc 2 1, 1, 0, 0, 0), (32, .goto (-30), 0, 0, 2, 0)]
theorem so_X7_looks_27 : sgOK mi_X7_looks gm_X7_looks sg_X7_looks_27 = true := by decide +kernel
def sg_X7_looks_28 : List Ins := [(28, .iastore, 0, 0, 0, 0), (29, .iinc 2 1, 1, 0, 0, 0), (32, .goto (-30), 0, 0, 2, 0)]
theorem so_X7_looks_28 : sgOK mi_X7_looks gm_X7_looks sg_X7_looks_28 = true := by decide +kernel
def sg_X7_looks_35 : List Ins := [(35, .return_, 0, 0, 0, 0)]
theorem so_X7_looks_35 : sgOK mi_X7_looks gm_X7_looks sg_X7_looks_35 = true := by decide +kernel
def sgs_X7_looks : Nat → Option (List Ins) := fun t => match t with
  | 0 => some sg_X7_looks_0
  | 27 => some sg_X7_looks_27
  | 28 => some sg_X7_looks_28
  | 35 => some sg_X7_looks_35
  | _ => none
theorem so_X7_looks : ∀ t sg, sgs_X7_looks t = some sg → sgOK mi_X7_looks gm_X7_looks sg = true ∧ segPc sg = t := by
  intro t sg h
  unfold sgs_X7_looks at h
  split at h
  · cases h; exact ⟨so_X7_looks_0, rfl⟩
  · cases h; exact ⟨so_X7_looks_27, rfl⟩
  · cases h; exact ⟨so_X7_looks_28, rfl⟩
  · cases h; exact ⟨so_X7_looks_35, rfl⟩
  · cases h
def gm_X7_spoilt : List MI := [mi_X7_canRead]
def sg_X7_spoilt_0 : List Ins := [(0, .iconst 0, 0, 0, 0, 0), (1, .istore 4, 0, 0, 0, 0), (3, .iconst 0, 0, 0, 0, 0), (4, .istore 5, 0, 0, 0, 0), (6, .nop, 0, 0, 0, 0)]
theorem so_X7_spoilt_0 : sgOK mi_X7_spoilt gm_X7_spoilt sg_X7_spoilt_0 = true := by decide +kernel
def sg_X7_spoilt_6 : List Ins := [(6, .iload 5, 0, 0, 0, 0), (8, .bipush 120, 120, 0, 0, 0), (10, .if_icmp .ge 47, 0, 0, 57, 0), (13, .iload 4, 0, 0, 0, 0), (15, .iload 5, 0, 0, 0, 0), (17, .iload_n 3, 0, 0, 0, 0), (18, .if_icmp .eq 29, 0, 0, 47, 0), (21, .aload_n 0, 0, 0, 0, 0), (22, .getfield 21, 7, 4, 721, 0), (25, .iload 5, 0, 0, 0, 0), (27, .iaload, 8, 0, 0, 0), (28, .iconst 1, 1, 0, 0, 0), (29, .if_icmp .ne 18, 0, 0, 47, 0), (32, .aload_n 0, 0, 0, 0, 0), (33, .iload_n 1, 0, 0, 0, 0), (34, .iload_n 2, 0, 0, 0, 0), (35, .iload 5, 0, 0, 0, 0), (37, .invokevirtual 65, 870, 0, 17, 4), (40, .ifCond .ne 7, 0, 0, 47, 0), (43, .iconst 1, 1, 0, 0, 0), (44, .goto 4, 0, 0, 48, 0)]
theorem so_X7_spoilt_6 : sgOK mi_X7_spoilt gm_X7_spoilt sg_X7_spoilt_6 = true := by decide +kernel
def sg_X7_spoilt_47 : List Ins := [(47, .iconst 0, 0, 0, 0, 0), (48, .iadd, 0, 0, 0, 0), (49, .istore 4, 0, 0, 0, 0), (51, .iinc 5 1, 1, 0, 0, 0), (54, .goto (-48), 0, 0, 6, 0)]
theorem so_X7_spoilt_47 : sgOK mi_X7_spoilt gm_X7_spoilt sg_X7_spoilt_47 = true := by decide +kernel
def sg_X7_spoilt_48 : List Ins := [(48, .iadd, 0, 0, 0, 0), (49, .istore 4, 0, 0, 0, 0), (51, .iinc 5 1, 1, 0, 0, 0), (54, .goto (-48), 0, 0, 6, 0)]
theorem so_X7_spoilt_48 : sgOK mi_X7_spoilt gm_X7_spoilt sg_X7_spoilt_48 = true := by decide +kernel
def sg_X7_spoilt_57 : List Ins := [(57, .iload 4, 0, 0, 0, 0), (59, .ireturn, 0, 0, 0, 0)]
theorem so_X7_spoilt_57 : sgOK mi_X7_spoilt gm_X7_spoilt sg_X7_spoilt_57 = true := by decide +kernel
def sgs_X7_spoilt : Nat → Option (List Ins) := fun t => match t with
  | 0 => some sg_X7_spoilt_0
  | 47 => some sg_X7_spoilt_47
  | 48 => some sg_X7_spoilt_48
  | 57 => some sg_X7_spoilt_57
  | _ => none
theorem so_X7_spoilt : ∀ t sg, sgs_X7_spoilt t = some sg → sgOK mi_X7_spoilt gm_X7_spoilt sg = true ∧ segPc sg = t := by
  intro t sg h
  unfold sgs_X7_spoilt at h
  split at h
  · cases h; exact ⟨so_X7_spoilt_0, rfl⟩
  · cases h; exact ⟨so_X7_spoilt_47, rfl⟩
  · cases h; exact ⟨so_X7_spoilt_48, rfl⟩
  · cases h; exact ⟨so_X7_spoilt_57, rfl⟩
  · cases h
def gm_X7_writes : List MI := [mi_X7_lightAt, mi_X7_clouded, mi_X7_inkAt]
def sg_X7_writes_0 : List Ins := [(0, .iconst 0, 0, 0, 0, 0), (1, .istore 6, 0, 0, 0, 0), (3, .nop, 0, 0, 0, 0)]
theorem so_X7_writes_0 : sgOK mi_X7_writes gm_X7_writes sg_X7_writes_0 = true := by decide +kernel
def sg_X7_writes_3 : List Ins := [(3, .iload 6, 0, 0, 0, 0), (5, .bipush 120, 120, 0, 0, 0), (7, .if_icmp .ge 56, 0, 0, 63, 0), (10, .iload_n 1, 0, 0, 0, 0), (11, .iload_n 2, 0, 0, 0, 0), (12, .iload 6, 0, 0, 0, 0), (14, .invokestatic 40, 793, 0, 0, 3), (17, .istore 7, 0, 0, 0, 0), (19, .aload_n 0, 0, 0, 0, 0), (20, .getfield 13, 7, 1, 718, 0), (23, .iload 7, 0, 0, 0, 0), (25, .aload_n 0, 0, 0, 0, 0), (26, .iload_n 1, 0, 0, 0, 0), (27, .aload_n 0, 0, 0, 0, 0), (28, .getfield 13, 7, 1, 718, 0), (31, .iload 7, 0, 0, 0, 0), (33, .faload, 0, 0, 0, 0), (34, .iload 6, 0, 0, 0, 0), (36, .iload_n 3, 0, 0, 0, 0), (37, .aload_n 0, 0, 0, 0, 0), (38, .getfield 7, 7, 0, 717, 0), (41, .sipush 983, 983, 0, 0, 0), (44, .iload_n 1, 0, 0, 0, 0), (45, .imul, 0, 0, 0, 0), (46, .bipush 8, 8, 0, 0, 0), (48, .iadd, 0, 0, 0, 0), (49, .iload 4, 0, 0, 0, 0), (51, .iadd, 0, 0, 0, 0), (52, .iaload, 8, 0, 0, 0), (53, .invokevirtual 46, 878, 1, 17, 6), (56, .fastore, 0, 0, 0, 0), (57, .iinc 6 1, 1, 0, 0, 0), (60, .goto (-57), 0, 0, 3, 0)]
theorem so_X7_writes_3 : sgOK mi_X7_writes gm_X7_writes sg_X7_writes_3 = true := by decide +kernel
def sg_X7_writes_63 : List Ins := [(63, .aload_n 0, 0, 0, 0, 0), (64, .getfield 7, 7, 0, 717, 0), (67, .iload_n 1, 0, 0, 0, 0), (68, .iload_n 2, 0, 0, 0, 0), (69, .iload_n 3, 0, 0, 0, 0), (70, .invokestatic 35, 790, 2, 0, 3), (73, .bipush 26, 26, 0, 0, 0), (75, .iload 4, 0, 0, 0, 0), (77, .imul, 0, 0, 0, 0), (78, .iload 5, 0, 0, 0, 0), (80, .iadd, 0, 0, 0, 0), (81, .iastore, 0, 0, 0, 0), (82, .aload_n 0, 0, 0, 0, 0), (83, .getfield 7, 7, 0, 717, 0), (86, .iload_n 1, 0, 0, 0, 0), (87, .iload_n 2, 0, 0, 0, 0), (88, .iload_n 3, 0, 0, 0, 0), (89, .invokestatic 35, 790, 2, 0, 3), (92, .iconst 1, 1, 0, 0, 0), (93, .iadd, 0, 0, 0, 0), (94, .bipush (-6), 6, 1, 0, 0), (96, .iastore, 0, 0, 0, 0), (97, .return_, 0, 0, 0, 0)]
theorem so_X7_writes_63 : sgOK mi_X7_writes gm_X7_writes sg_X7_writes_63 = true := by decide +kernel
def sgs_X7_writes : Nat → Option (List Ins) := fun t => match t with
  | 0 => some sg_X7_writes_0
  | 63 => some sg_X7_writes_63
  | _ => none
theorem so_X7_writes : ∀ t sg, sgs_X7_writes t = some sg → sgOK mi_X7_writes gm_X7_writes sg = true ∧ segPc sg = t := by
  intro t sg h
  unfold sgs_X7_writes at h
  split at h
  · cases h; exact ⟨so_X7_writes_0, rfl⟩
  · cases h; exact ⟨so_X7_writes_63, rfl⟩
  · cases h
def gm_X7_best : List MI := [mi_X7_hasRoom, mi_X7_ahead]
def sg_X7_best_0 : List Ins := [(0, .bipush (-6), 6, 1, 0, 0), (2, .istore_n 3, 0, 0, 0, 0), (3, .fconst 0, 0, 0, 0, 0), (4, .fstore 4, 0, 0, 0, 0), (6, .iconst 0, 0, 0, 0, 0), (7, .istore 5, 0, 0, 0, 0), (9, .nop, 0, 0, 0, 0)]
theorem so_X7_best_0 : sgOK mi_X7_best gm_X7_best sg_X7_best_0 = true := by decide +kernel
def sg_X7_best_9 : List Ins := [(9, .iload 5, 0, 0, 0, 0), (11, .bipush 120, 120, 0, 0, 0), (13, .if_icmp .ge 90, 0, 0, 103, 0), (16, .aload_n 0, 0, 0, 0, 0), (17, .iload_n 1, 0, 0, 0, 0), (18, .iload_n 2, 0, 0, 0, 0), (19, .iload 5, 0, 0, 0, 0), (21, .invokevirtual 62, 894, 0, 17, 4), (24, .istore 6, 0, 0, 0, 0), (26, .iload 6, 0, 0, 0, 0), (28, .ifCond .eq 14, 0, 0, 42, 0), (31, .aload_n 0, 0, 0, 0, 0), (32, .iload_n 1, 0, 0, 0, 0), (33, .iload_n 2, 0, 0, 0, 0), (34, .iload 5, 0, 0, 0, 0), (36, .invokevirtual 54, 898, 1, 17, 4), (39, .goto 4, 0, 0, 43, 0)]
theorem so_X7_best_9 : sgOK mi_X7_best gm_X7_best sg_X7_best_9 = true := by decide +kernel
def sg_X7_best_42 : List Ins := [(42, .fconst 0, 0, 0, 0, 0), (43, .fstore 7, 0, 0, 0, 0), (45, .iload 6, 0, 0, 0, 0), (47, .ifCond .eq 21, 0, 0, 68, 0), (50, .iload_n 3, 0, 0, 0, 0), (51, .bipush (-6), 6, 1, 0, 0), (53, .if_icmp .eq 11, 0, 0, 64, 0), (56, .fload 7, 0, 0, 0, 0), (58, .fload 4, 0, 0, 0, 0), (60, .fcmp .l, 0, 0, 0, 0), (61, .ifCond .le 7, 0, 0, 68, 0), (64, .iconst 1, 1, 0, 0, 0), (65, .goto 4, 0, 0, 69, 0)]
theorem so_X7_best_42 : sgOK mi_X7_best gm_X7_best sg_X7_best_42 = true := by decide +kernel
def sg_X7_best_43 : List Ins := [(43, .fstore 7, 0, 0, 0, 0), (45, .iload 6, 0, 0, 0, 0), (47, .ifCond .eq 21, 0, 0, 68, 0), (50, .iload_n 3, 0, 0, 0, 0), (51, .bipush (-6), 6, 1, 0, 0), (53, .if_icmp .eq 11, 0, 0, 64, 0), (56, .fload 7, 0, 0, 0, 0), (58, .fload 4, 0, 0, 0, 0), (60, .fcmp .l, 0, 0, 0, 0), (61, .ifCond .le 7, 0, 0, 68, 0), (64, .iconst 1, 1, 0, 0, 0), (65, .goto 4, 0, 0, 69, 0)]
theorem so_X7_best_43 : sgOK mi_X7_best gm_X7_best sg_X7_best_43 = true := by decide +kernel
def sg_X7_best_64 : List Ins := [(64, .iconst 1, 1, 0, 0, 0), (65, .goto 4, 0, 0, 69, 0)]
theorem so_X7_best_64 : sgOK mi_X7_best gm_X7_best sg_X7_best_64 = true := by decide +kernel
def sg_X7_best_68 : List Ins := [(68, .iconst 0, 0, 0, 0, 0), (69, .istore 8, 0, 0, 0, 0), (71, .iload 8, 0, 0, 0, 0), (73, .ifCond .eq 8, 0, 0, 81, 0), (76, .iload 5, 0, 0, 0, 0), (78, .goto 4, 0, 0, 82, 0)]
theorem so_X7_best_68 : sgOK mi_X7_best gm_X7_best sg_X7_best_68 = true := by decide +kernel
def sg_X7_best_69 : List Ins := [(69, .istore 8, 0, 0, 0, 0), (71, .iload 8, 0, 0, 0, 0), (73, .ifCond .eq 8, 0, 0, 81, 0), (76, .iload 5, 0, 0, 0, 0), (78, .goto 4, 0, 0, 82, 0)]
theorem so_X7_best_69 : sgOK mi_X7_best gm_X7_best sg_X7_best_69 = true := by decide +kernel
def sg_X7_best_81 : List Ins := [(81, .iload_n 3, 0, 0, 0, 0), (82, .istore_n 3, 0, 0, 0, 0), (83, .iload 8, 0, 0, 0, 0), (85, .ifCond .eq 8, 0, 0, 93, 0), (88, .fload 7, 0, 0, 0, 0), (90, .goto 5, 0, 0, 95, 0)]
theorem so_X7_best_81 : sgOK mi_X7_best gm_X7_best sg_X7_best_81 = true := by decide +kernel
def sg_X7_best_82 : List Ins := [(82, .istore_n 3, 0, 0, 0, 0), (83, .iload 8, 0, 0, 0, 0), (85, .ifCond .eq 8, 0, 0, 93, 0), (88, .fload 7, 0, 0, 0, 0), (90, .goto 5, 0, 0, 95, 0)]
theorem so_X7_best_82 : sgOK mi_X7_best gm_X7_best sg_X7_best_82 = true := by decide +kernel
def sg_X7_best_93 : List Ins := [(93, .fload 4, 0, 0, 0, 0), (95, .fstore 4, 0, 0, 0, 0), (97, .iinc 5 1, 1, 0, 0, 0), (100, .goto (-91), 0, 0, 9, 0)]
theorem so_X7_best_93 : sgOK mi_X7_best gm_X7_best sg_X7_best_93 = true := by decide +kernel
def sg_X7_best_95 : List Ins := [(95, .fstore 4, 0, 0, 0, 0), (97, .iinc 5 1, 1, 0, 0, 0), (100, .goto (-91), 0, 0, 9, 0)]
theorem so_X7_best_95 : sgOK mi_X7_best gm_X7_best sg_X7_best_95 = true := by decide +kernel
def sg_X7_best_103 : List Ins := [(103, .iload_n 3, 0, 0, 0, 0), (104, .ireturn, 0, 0, 0, 0)]
theorem so_X7_best_103 : sgOK mi_X7_best gm_X7_best sg_X7_best_103 = true := by decide +kernel
def sgs_X7_best : Nat → Option (List Ins) := fun t => match t with
  | 0 => some sg_X7_best_0
  | 42 => some sg_X7_best_42
  | 43 => some sg_X7_best_43
  | 64 => some sg_X7_best_64
  | 68 => some sg_X7_best_68
  | 69 => some sg_X7_best_69
  | 81 => some sg_X7_best_81
  | 82 => some sg_X7_best_82
  | 93 => some sg_X7_best_93
  | 95 => some sg_X7_best_95
  | 103 => some sg_X7_best_103
  | _ => none
theorem so_X7_best : ∀ t sg, sgs_X7_best t = some sg → sgOK mi_X7_best gm_X7_best sg = true ∧ segPc sg = t := by
  intro t sg h
  unfold sgs_X7_best at h
  split at h
  · cases h; exact ⟨so_X7_best_0, rfl⟩
  · cases h; exact ⟨so_X7_best_42, rfl⟩
  · cases h; exact ⟨so_X7_best_43, rfl⟩
  · cases h; exact ⟨so_X7_best_64, rfl⟩
  · cases h; exact ⟨so_X7_best_68, rfl⟩
  · cases h; exact ⟨so_X7_best_69, rfl⟩
  · cases h; exact ⟨so_X7_best_81, rfl⟩
  · cases h; exact ⟨so_X7_best_82, rfl⟩
  · cases h; exact ⟨so_X7_best_93, rfl⟩
  · cases h; exact ⟨so_X7_best_95, rfl⟩
  · cases h; exact ⟨so_X7_best_103, rfl⟩
  · cases h
def gm_X7_clears : List MI := [mi_X7_lightAt]
def sg_X7_clears_0 : List Ins := [(0, .iconst 0, 0, 0, 0, 0), (1, .istore_n 3, 0, 0, 0, 0), (2, .nop, 0, 0, 0, 0)]
theorem so_X7_clears_0 : sgOK mi_X7_clears gm_X7_clears sg_X7_clears_0 = true := by decide +kernel
def sg_X7_clears_2 : List Ins := [(2, .iload_n 3, 0, 0, 0, 0), (3, .bipush 120, 120, 0, 0, 0), (5, .if_icmp .ge 57, 0, 0, 62, 0), (8, .aload_n 0, 0, 0, 0, 0), (9, .getfield 13, 7, 1, 718, 0), (12, .iload_n 1, 0, 0, 0, 0), (13, .iload_n 2, 0, 0, 0, 0), (14, .iload_n 3, 0, 0, 0, 0), (15, .invokestatic 40, 793, 0, 0, 3), (18, .faload, 0, 0, 0, 0), (19, .fstore 4, 0, 0, 0, 0), (21, .aload_n 0, 0, 0, 0, 0), (22, .getfield 13, 7, 1, 718, 0), (25, .iload_n 1, 0, 0, 0, 0), (26, .iload_n 2, 0, 0, 0, 0), (27, .iload_n 3, 0, 0, 0, 0), (28, .invokestatic 40, 793, 0, 0, 3), (31, .fload 4, 0, 0, 0, 0), (33, .fconst 1, 0, 0, 0, 0), (34, .fload 4, 0, 0, 0, 0), (36, .fsub, 0, 0, 0, 0), (37, .aload_n 0, 0, 0, 0, 0), (38, .getfield 7, 7, 0, 717, 0), (41, .sipush 983, 983, 0, 0, 0), (44, .iload_n 1, 0, 0, 0, 0), (45, .imul, 0, 0, 0, 0), (46, .iconst 3, 3, 0, 0, 0), (47, .iadd, 0, 0, 0, 0), (48, .iaload, 8, 0, 0, 0), (49, .i2f, 0, 0, 0, 0), (50, .fmul, 0, 0, 0, 0), (51, .ldc 39, 1120403456, 1, 861, 0), (53, .fdiv, 0, 0, 0, 0), (54, .fadd, 0, 0, 0, 0), (55, .fastore, 0, 0, 0, 0), (56, .iinc 3 1, 1, 0, 0, 0), (59, .goto (-57), 0, 0, 2, 0)]
theorem so_X7_clears_2 : sgOK mi_X7_clears gm_X7_clears sg_X7_clears_2 = true := by decide +kernel
def sg_X7_clears_62 : List Ins := [(62, .return_, 0, 0, 0, 0)]
theorem so_X7_clears_62 : sgOK mi_X7_clears gm_X7_clears sg_X7_clears_62 = true := by decide +kernel
def sgs_X7_clears : Nat → Option (List Ins) := fun t => match t with
  | 0 => some sg_X7_clears_0
  | 62 => some sg_X7_clears_62
  | _ => none
theorem so_X7_clears : ∀ t sg, sgs_X7_clears t = some sg → sgOK mi_X7_clears gm_X7_clears sg = true ∧ segPc sg = t := by
  intro t sg h
  unfold sgs_X7_clears at h
  split at h
  · cases h; exact ⟨so_X7_clears_0, rfl⟩
  · cases h; exact ⟨so_X7_clears_62, rfl⟩
  · cases h
def gm_X7_isWriter : List MI := [mi_X7_in]
def sg_X7_isWriter_0 : List Ins := [(0, .iload_n 1, 0, 0, 0, 0), (1, .i2l, 0, 0, 0, 0), (2, .lconst 0, 0, 0, 0, 0), (3, .aload_n 0, 0, 0, 0, 0), (4, .getfield 7, 7, 0, 717, 0), (7, .bipush 7, 7, 0, 0, 0), (9, .iaload, 8, 0, 0, 0), (10, .iconst 1, 1, 0, 0, 0), (11, .isub, 0, 0, 0, 0), (12, .i2l, 0, 0, 0, 0), (13, .invokestatic 68, 768, 0, 0, 3), (16, .ireturn, 0, 0, 0, 0)]
theorem so_X7_isWriter_0 : sgOK mi_X7_isWriter gm_X7_isWriter sg_X7_isWriter_0 = true := by decide +kernel
def sgs_X7_isWriter : Nat → Option (List Ins) := fun t => match t with
  | 0 => some sg_X7_isWriter_0
  | _ => none
theorem so_X7_isWriter : ∀ t sg, sgs_X7_isWriter t = some sg → sgOK mi_X7_isWriter gm_X7_isWriter sg = true ∧ segPc sg = t := by
  intro t sg h
  unfold sgs_X7_isWriter at h
  split at h
  · cases h; exact ⟨so_X7_isWriter_0, rfl⟩
  · cases h
def gm_X7_isPlate : List MI := [mi_X7_in]
def sg_X7_isPlate_0 : List Ins := [(0, .iload_n 1, 0, 0, 0, 0), (1, .i2l, 0, 0, 0, 0), (2, .lconst 0, 0, 0, 0, 0), (3, .aload_n 0, 0, 0, 0, 0), (4, .getfield 7, 7, 0, 717, 0), (7, .iconst 5, 5, 0, 0, 0), (8, .iaload, 8, 0, 0, 0), (9, .iconst 1, 1, 0, 0, 0), (10, .isub, 0, 0, 0, 0), (11, .i2l, 0, 0, 0, 0), (12, .invokestatic 68, 768, 0, 0, 3), (15, .ireturn, 0, 0, 0, 0)]
theorem so_X7_isPlate_0 : sgOK mi_X7_isPlate gm_X7_isPlate sg_X7_isPlate_0 = true := by decide +kernel
def sgs_X7_isPlate : Nat → Option (List Ins) := fun t => match t with
  | 0 => some sg_X7_isPlate_0
  | _ => none
theorem so_X7_isPlate : ∀ t sg, sgs_X7_isPlate t = some sg → sgOK mi_X7_isPlate gm_X7_isPlate sg = true ∧ segPc sg = t := by
  intro t sg h
  unfold sgs_X7_isPlate at h
  split at h
  · cases h; exact ⟨so_X7_isPlate_0, rfl⟩
  · cases h
def gm_X7_isRow : List MI := [mi_X7_in]
def sg_X7_isRow_0 : List Ins := [(0, .iload_n 0, 0, 0, 0, 0), (1, .i2l, 0, 0, 0, 0), (2, .lconst 0, 0, 0, 0, 0), (3, .ldc2_w 72, 9, 2, 771, 0), (6, .invokestatic 68, 768, 0, 0, 3), (9, .ireturn, 0, 0, 0, 0)]
theorem so_X7_isRow_0 : sgOK mi_X7_isRow gm_X7_isRow sg_X7_isRow_0 = true := by decide +kernel
def sgs_X7_isRow : Nat → Option (List Ins) := fun t => match t with
  | 0 => some sg_X7_isRow_0
  | _ => none
theorem so_X7_isRow : ∀ t sg, sgs_X7_isRow t = some sg → sgOK mi_X7_isRow gm_X7_isRow sg = true ∧ segPc sg = t := by
  intro t sg h
  unfold sgs_X7_isRow at h
  split at h
  · cases h; exact ⟨so_X7_isRow_0, rfl⟩
  · cases h
def gm_X7_isThere : List MI := [mi_X7_isRow, mi_X7_in]
def sg_X7_isThere_0 : List Ins := [(0, .aload_n 0, 0, 0, 0, 0), (1, .getfield 7, 7, 0, 717, 0), (4, .bipush 6, 6, 0, 0, 0), (6, .iaload, 8, 0, 0, 0), (7, .bipush (-6), 6, 1, 0, 0), (9, .if_icmp .eq 26, 0, 0, 35, 0), (12, .iload_n 1, 0, 0, 0, 0), (13, .invokestatic 74, 841, 0, 0, 1), (16, .ifCond .eq 19, 0, 0, 35, 0), (19, .iload_n 2, 0, 0, 0, 0), (20, .i2l, 0, 0, 0, 0), (21, .lconst 0, 0, 0, 0, 0), (22, .ldc2_w 78, 11, 2, 844, 0), (25, .invokestatic 68, 768, 1, 0, 3), (28, .ifCond .eq 7, 0, 0, 35, 0), (31, .iconst 1, 1, 0, 0, 0), (32, .goto 4, 0, 0, 36, 0)]
theorem so_X7_isThere_0 : sgOK mi_X7_isThere gm_X7_isThere sg_X7_isThere_0 = true := by decide +kernel
def sg_X7_isThere_35 : List Ins := [(35, .iconst 0, 0, 0, 0, 0), (36, .ireturn, 0, 0, 0, 0)]
theorem so_X7_isThere_35 : sgOK mi_X7_isThere gm_X7_isThere sg_X7_isThere_35 = true := by decide +kernel
def sg_X7_isThere_36 : List Ins := [(36, .ireturn, 0, 0, 0, 0)]
theorem so_X7_isThere_36 : sgOK mi_X7_isThere gm_X7_isThere sg_X7_isThere_36 = true := by decide +kernel
def sgs_X7_isThere : Nat → Option (List Ins) := fun t => match t with
  | 0 => some sg_X7_isThere_0
  | 35 => some sg_X7_isThere_35
  | 36 => some sg_X7_isThere_36
  | _ => none
theorem so_X7_isThere : ∀ t sg, sgs_X7_isThere t = some sg → sgOK mi_X7_isThere gm_X7_isThere sg = true ∧ segPc sg = t := by
  intro t sg h
  unfold sgs_X7_isThere at h
  split at h
  · cases h; exact ⟨so_X7_isThere_0, rfl⟩
  · cases h; exact ⟨so_X7_isThere_35, rfl⟩
  · cases h; exact ⟨so_X7_isThere_36, rfl⟩
  · cases h
def gm_X7_spotOf : List MI := []
def sg_X7_spotOf_0 : List Ins := [(0, .bipush 12, 12, 0, 0, 0), (2, .iload_n 0, 0, 0, 0, 0), (3, .imul, 0, 0, 0, 0), (4, .iload_n 1, 0, 0, 0, 0), (5, .iadd, 0, 0, 0, 0), (6, .ireturn, 0, 0, 0, 0)]
theorem so_X7_spotOf_0 : sgOK mi_X7_spotOf gm_X7_spotOf sg_X7_spotOf_0 = true := by decide +kernel
def sgs_X7_spotOf : Nat → Option (List Ins) := fun t => match t with
  | 0 => some sg_X7_spotOf_0
  | _ => none
theorem so_X7_spotOf : ∀ t sg, sgs_X7_spotOf t = some sg → sgOK mi_X7_spotOf gm_X7_spotOf sg = true ∧ segPc sg = t := by
  intro t sg h
  unfold sgs_X7_spotOf at h
  split at h
  · cases h; exact ⟨so_X7_spotOf_0, rfl⟩
  · cases h
def gm_X7_layError : List MI := [mi_X7_isPlate]
def sg_X7_layError_0 : List Ins := [(0, .aload_n 0, 0, 0, 0, 0), (1, .iload_n 1, 0, 0, 0, 0), (2, .invokevirtual 80, 804, 0, 17, 2), (5, .ifCond .ne 7, 0, 0, 12, 0), (8, .iconst (-1), 1, 1, 0, 0), (9, .goto 20, 0, 0, 29, 0)]
theorem so_X7_layError_0 : sgOK mi_X7_layError gm_X7_layError sg_X7_layError_0 = true := by decide +kernel
def sg_X7_layError_12 : List Ins := [(12, .iload_n 1, 0, 0, 0, 0), (13, .aload_n 0, 0, 0, 0, 0), (14, .getfield 7, 7, 0, 717, 0), (17, .bipush 6, 6, 0, 0, 0), (19, .iaload, 8, 0, 0, 0), (20, .if_icmp .ne 8, 0, 0, 28, 0), (23, .bipush (-5), 5, 1, 0, 0), (25, .goto 4, 0, 0, 29, 0)]
theorem so_X7_layError_12 : sgOK mi_X7_layError gm_X7_layError sg_X7_layError_12 = true := by decide +kernel
def sg_X7_layError_28 : List Ins := [(28, .iconst 0, 0, 0, 0, 0), (29, .ireturn, 0, 0, 0, 0)]
theorem so_X7_layError_28 : sgOK mi_X7_layError gm_X7_layError sg_X7_layError_28 = true := by decide +kernel
def sg_X7_layError_29 : List Ins := [(29, .ireturn, 0, 0, 0, 0)]
theorem so_X7_layError_29 : sgOK mi_X7_layError gm_X7_layError sg_X7_layError_29 = true := by decide +kernel
def sgs_X7_layError : Nat → Option (List Ins) := fun t => match t with
  | 0 => some sg_X7_layError_0
  | 12 => some sg_X7_layError_12
  | 28 => some sg_X7_layError_28
  | 29 => some sg_X7_layError_29
  | _ => none
theorem so_X7_layError : ∀ t sg, sgs_X7_layError t = some sg → sgOK mi_X7_layError gm_X7_layError sg = true ∧ segPc sg = t := by
  intro t sg h
  unfold sgs_X7_layError at h
  split at h
  · cases h; exact ⟨so_X7_layError_0, rfl⟩
  · cases h; exact ⟨so_X7_layError_12, rfl⟩
  · cases h; exact ⟨so_X7_layError_28, rfl⟩
  · cases h; exact ⟨so_X7_layError_29, rfl⟩
  · cases h
def gm_X7_writerError : List MI := [mi_X7_in]
def sg_X7_writerError_0 : List Ins := [(0, .iload_n 1, 0, 0, 0, 0), (1, .i2l, 0, 0, 0, 0), (2, .lconst 1, 0, 0, 0, 0), (3, .ldc2_w 83, 5, 2, 820, 0), (6, .invokestatic 68, 768, 0, 0, 3), (9, .ifCond .ne 8, 0, 0, 17, 0), (12, .bipush (-2), 2, 1, 0, 0), (14, .goto 20, 0, 0, 34, 0)]
theorem so_X7_writerError_0 : sgOK mi_X7_writerError gm_X7_writerError sg_X7_writerError_0 = true := by decide +kernel
def sg_X7_writerError_17 : List Ins := [(17, .aload_n 0, 0, 0, 0, 0), (18, .getfield 7, 7, 0, 717, 0), (21, .bipush 7, 7, 0, 0, 0), (23, .iaload, 8, 0, 0, 0), (24, .iconst 5, 5, 0, 0, 0), (25, .if_icmp .ne 8, 0, 0, 33, 0), (28, .bipush (-4), 4, 1, 0, 0), (30, .goto 4, 0, 0, 34, 0)]
theorem so_X7_writerError_17 : sgOK mi_X7_writerError gm_X7_writerError sg_X7_writerError_17 = true := by decide +kernel
def sg_X7_writerError_33 : List Ins := [(33, .iconst 0, 0, 0, 0, 0), (34, .ireturn, 0, 0, 0, 0)]
theorem so_X7_writerError_33 : sgOK mi_X7_writerError gm_X7_writerError sg_X7_writerError_33 = true := by decide +kernel
def sg_X7_writerError_34 : List Ins := [(34, .ireturn, 0, 0, 0, 0)]
theorem so_X7_writerError_34 : sgOK mi_X7_writerError gm_X7_writerError sg_X7_writerError_34 = true := by decide +kernel
def sgs_X7_writerError : Nat → Option (List Ins) := fun t => match t with
  | 0 => some sg_X7_writerError_0
  | 17 => some sg_X7_writerError_17
  | 33 => some sg_X7_writerError_33
  | 34 => some sg_X7_writerError_34
  | _ => none
theorem so_X7_writerError : ∀ t sg, sgs_X7_writerError t = some sg → sgOK mi_X7_writerError gm_X7_writerError sg = true ∧ segPc sg = t := by
  intro t sg h
  unfold sgs_X7_writerError at h
  split at h
  · cases h; exact ⟨so_X7_writerError_0, rfl⟩
  · cases h; exact ⟨so_X7_writerError_17, rfl⟩
  · cases h; exact ⟨so_X7_writerError_33, rfl⟩
  · cases h; exact ⟨so_X7_writerError_34, rfl⟩
  · cases h
def gm_X7_writeError : List MI := [mi_X7_isWriter, mi_X7_isThere, mi_X7_in, mi_X7_spotOf, mi_X7_promisedTo, mi_X7_hasLetter, mi_X7_lightAt, mi_X7_isBright]
def sg_X7_writeError_0 : List Ins := [(0, .aload_n 0, 0, 0, 0, 0), (1, .iload_n 1, 0, 0, 0, 0), (2, .invokevirtual 85, 833, 0, 17, 2), (5, .ifCond .eq 12, 0, 0, 17, 0), (8, .aload_n 0, 0, 0, 0, 0), (9, .iload_n 2, 0, 0, 0, 0), (10, .iload_n 3, 0, 0, 0, 0), (11, .invokevirtual 88, 837, 1, 17, 3), (14, .ifCond .ne 5, 0, 0, 19, 0), (17, .iconst (-1), 1, 1, 0, 0), (18, .ireturn, 0, 0, 0, 0)]
theorem so_X7_writeError_0 : sgOK mi_X7_writeError gm_X7_writeError sg_X7_writeError_0 = true := by decide +kernel
def sg_X7_writeError_17 : List Ins := [(17, .iconst (-1), 1, 1, 0, 0), (18, .ireturn, 0, 0, 0, 0)]
theorem so_X7_writeError_17 : sgOK mi_X7_writeError gm_X7_writeError sg_X7_writeError_17 = true := by decide +kernel
def sg_X7_writeError_19 : List Ins := [(19, .iload 4, 0, 0, 0, 0), (21, .i2l, 0, 0, 0, 0), (22, .lconst 0, 0, 0, 0, 0), (23, .ldc2_w 92, 25, 2, 845, 0), (26, .invokestatic 68, 768, 2, 0, 3), (29, .ifCond .ne 6, 0, 0, 35, 0), (32, .bipush (-2), 2, 1, 0, 0), (34, .ireturn, 0, 0, 0, 0)]
theorem so_X7_writeError_19 : sgOK mi_X7_writeError gm_X7_writeError sg_X7_writeError_19 = true := by decide +kernel
def sg_X7_writeError_35 : List Ins := [(35, .iload_n 2, 0, 0, 0, 0), (36, .iload_n 3, 0, 0, 0, 0), (37, .invokestatic 94, 846, 3, 0, 2), (40, .istore 5, 0, 0, 0, 0), (42, .aload_n 0, 0, 0, 0, 0), (43, .iconst 0, 0, 0, 0, 0), (44, .aload_n 0, 0, 0, 0, 0), (45, .getfield 7, 7, 0, 717, 0), (48, .bipush 6, 6, 0, 0, 0), (50, .iaload, 8, 0, 0, 0), (51, .iload 5, 0, 0, 0, 0), (53, .invokevirtual 43, 849, 4, 17, 4), (56, .istore 6, 0, 0, 0, 0), (58, .aload_n 0, 0, 0, 0, 0), (59, .iconst 0, 0, 0, 0, 0), (60, .aload_n 0, 0, 0, 0, 0), (61, .getfield 7, 7, 0, 717, 0), (64, .bipush 6, 6, 0, 0, 0), (66, .iaload, 8, 0, 0, 0), (67, .iload 5, 0, 0, 0, 0), (69, .invokevirtual 50, 853, 5, 17, 4), (72, .ifCond .ne 46, 0, 0, 118, 0), (75, .iload 6, 0, 0, 0, 0), (77, .bipush (-6), 6, 1, 0, 0), (79, .if_icmp .eq 9, 0, 0, 88, 0), (82, .iload 6, 0, 0, 0, 0), (84, .iload_n 1, 0, 0, 0, 0), (85, .if_icmp .ne 33, 0, 0, 118, 0), (88, .aload_n 0, 0, 0, 0, 0), (89, .iconst 0, 0, 0, 0, 0), (90, .aload_n 0, 0, 0, 0, 0), (91, .getfield 13, 7, 1, 718, 0), (94, .iconst 0, 0, 0, 0, 0), (95, .aload_n 0, 0, 0, 0, 0), (96, .getfield 7, 7, 0, 717, 0), (99, .bipush 6, 6, 0, 0, 0), (101, .iaload, 8, 0, 0, 0), (102, .iload 5, 0, 0, 0, 0), (104, .invokestatic 40, 793, 6, 0, 3), (107, .faload, 0, 0, 0, 0), (108, .invokevirtual 58, 857, 7, 17, 3), (111, .ifCond .eq 7, 0, 0, 118, 0), (114, .iconst 1, 1, 0, 0, 0), (115, .goto 4, 0, 0, 119, 0)]
theorem so_X7_writeError_35 : sgOK mi_X7_writeError gm_X7_writeError sg_X7_writeError_35 = true := by decide +kernel
def sg_X7_writeError_88 : List Ins := [(88, .aload_n 0, 0, 0, 0, 0), (89, .iconst 0, 0, 0, 0, 0), (90, .aload_n 0, 0, 0, 0, 0), (91, .getfield 13, 7, 1, 718, 0), (94, .iconst 0, 0, 0, 0, 0), (95, .aload_n 0, 0, 0, 0, 0), (96, .getfield 7, 7, 0, 717, 0), (99, .bipush 6, 6, 0, 0, 0), (101, .iaload, 8, 0, 0, 0), (102, .iload 5, 0, 0, 0, 0), (104, .invokestatic 40, 793, 6, 0, 3), (107, .faload, 0, 0, 0, 0), (108, .invokevirtual 58, 857, 7, 17, 3), (111, .ifCond .eq 7, 0, 0, 118, 0), (114, .iconst 1, 1, 0, 0, 0), (115, .goto 4, 0, 0, 119, 0)]
theorem so_X7_writeError_88 : sgOK mi_X7_writeError gm_X7_writeError sg_X7_writeError_88 = true := by decide +kernel
def sg_X7_writeError_118 : List Ins := [(118, .iconst 0, 0, 0, 0, 0), (119, .istore 7, 0, 0, 0, 0), (121, .iload 7, 0, 0, 0, 0), (123, .ifCond .eq 7, 0, 0, 130, 0), (126, .iconst 0, 0, 0, 0, 0), (127, .goto 5, 0, 0, 132, 0)]
theorem so_X7_writeError_118 : sgOK mi_X7_writeError gm_X7_writeError sg_X7_writeError_118 = true := by decide +kernel
def sg_X7_writeError_119 : List Ins := [(119, .istore 7, 0, 0, 0, 0), (121, .iload 7, 0, 0, 0, 0), (123, .ifCond .eq 7, 0, 0, 130, 0), (126, .iconst 0, 0, 0, 0, 0), (127, .goto 5, 0, 0, 132, 0)]
theorem so_X7_writeError_119 : sgOK mi_X7_writeError gm_X7_writeError sg_X7_writeError_119 = true := by decide +kernel
def sg_X7_writeError_130 : List Ins := [(130, .bipush (-5), 5, 1, 0, 0), (132, .ireturn, 0, 0, 0, 0)]
theorem so_X7_writeError_130 : sgOK mi_X7_writeError gm_X7_writeError sg_X7_writeError_130 = true := by decide +kernel
def sg_X7_writeError_132 : List Ins := [(132, .ireturn, 0, 0, 0, 0)]
theorem so_X7_writeError_132 : sgOK mi_X7_writeError gm_X7_writeError sg_X7_writeError_132 = true := by decide +kernel
def sgs_X7_writeError : Nat → Option (List Ins) := fun t => match t with
  | 0 => some sg_X7_writeError_0
  | 17 => some sg_X7_writeError_17
  | 19 => some sg_X7_writeError_19
  | 35 => some sg_X7_writeError_35
  | 88 => some sg_X7_writeError_88
  | 118 => some sg_X7_writeError_118
  | 119 => some sg_X7_writeError_119
  | 130 => some sg_X7_writeError_130
  | 132 => some sg_X7_writeError_132
  | _ => none
theorem so_X7_writeError : ∀ t sg, sgs_X7_writeError t = some sg → sgOK mi_X7_writeError gm_X7_writeError sg = true ∧ segPc sg = t := by
  intro t sg h
  unfold sgs_X7_writeError at h
  split at h
  · cases h; exact ⟨so_X7_writeError_0, rfl⟩
  · cases h; exact ⟨so_X7_writeError_17, rfl⟩
  · cases h; exact ⟨so_X7_writeError_19, rfl⟩
  · cases h; exact ⟨so_X7_writeError_35, rfl⟩
  · cases h; exact ⟨so_X7_writeError_88, rfl⟩
  · cases h; exact ⟨so_X7_writeError_118, rfl⟩
  · cases h; exact ⟨so_X7_writeError_119, rfl⟩
  · cases h; exact ⟨so_X7_writeError_130, rfl⟩
  · cases h; exact ⟨so_X7_writeError_132, rfl⟩
  · cases h
def gm_X7_promiseError : List MI := [mi_X7_isWriter, mi_X7_isThere, mi_X7_spotOf, mi_X7_hasRoom]
def sg_X7_promiseError_0 : List Ins := [(0, .aload_n 0, 0, 0, 0, 0), (1, .iload_n 1, 0, 0, 0, 0), (2, .invokevirtual 85, 833, 0, 17, 2), (5, .ifCond .eq 12, 0, 0, 17, 0), (8, .aload_n 0, 0, 0, 0, 0), (9, .iload_n 2, 0, 0, 0, 0), (10, .iload_n 3, 0, 0, 0, 0), (11, .invokevirtual 88, 837, 1, 17, 3), (14, .ifCond .ne 5, 0, 0, 19, 0), (17, .iconst (-1), 1, 1, 0, 0), (18, .ireturn, 0, 0, 0, 0)]
theorem so_X7_promiseError_0 : sgOK mi_X7_promiseError gm_X7_promiseError sg_X7_promiseError_0 = true := by decide +kernel
def sg_X7_promiseError_17 : List Ins := [(17, .iconst (-1), 1, 1, 0, 0), (18, .ireturn, 0, 0, 0, 0)]
theorem so_X7_promiseError_17 : sgOK mi_X7_promiseError gm_X7_promiseError sg_X7_promiseError_17 = true := by decide +kernel
def sg_X7_promiseError_19 : List Ins := [(19, .aload_n 0, 0, 0, 0, 0), (20, .iconst 0, 0, 0, 0, 0), (21, .aload_n 0, 0, 0, 0, 0), (22, .getfield 7, 7, 0, 717, 0), (25, .bipush 6, 6, 0, 0, 0), (27, .iaload, 8, 0, 0, 0), (28, .iload_n 2, 0, 0, 0, 0), (29, .iload_n 3, 0, 0, 0, 0), (30, .invokestatic 94, 846, 2, 0, 2), (33, .invokevirtual 62, 894, 3, 17, 4), (36, .ifCond .eq 7, 0, 0, 43, 0), (39, .iconst 0, 0, 0, 0, 0), (40, .goto 5, 0, 0, 45, 0)]
theorem so_X7_promiseError_19 : sgOK mi_X7_promiseError gm_X7_promiseError sg_X7_promiseError_19 = true := by decide +kernel
def sg_X7_promiseError_43 : List Ins := [(43, .bipush (-5), 5, 1, 0, 0), (45, .ireturn, 0, 0, 0, 0)]
theorem so_X7_promiseError_43 : sgOK mi_X7_promiseError gm_X7_promiseError sg_X7_promiseError_43 = true := by decide +kernel
def sg_X7_promiseError_45 : List Ins := [(45, .ireturn, 0, 0, 0, 0)]
theorem so_X7_promiseError_45 : sgOK mi_X7_promiseError gm_X7_promiseError sg_X7_promiseError_45 = true := by decide +kernel
def sgs_X7_promiseError : Nat → Option (List Ins) := fun t => match t with
  | 0 => some sg_X7_promiseError_0
  | 17 => some sg_X7_promiseError_17
  | 19 => some sg_X7_promiseError_19
  | 43 => some sg_X7_promiseError_43
  | 45 => some sg_X7_promiseError_45
  | _ => none
theorem so_X7_promiseError : ∀ t sg, sgs_X7_promiseError t = some sg → sgOK mi_X7_promiseError gm_X7_promiseError sg = true ∧ segPc sg = t := by
  intro t sg h
  unfold sgs_X7_promiseError at h
  split at h
  · cases h; exact ⟨so_X7_promiseError_0, rfl⟩
  · cases h; exact ⟨so_X7_promiseError_17, rfl⟩
  · cases h; exact ⟨so_X7_promiseError_19, rfl⟩
  · cases h; exact ⟨so_X7_promiseError_43, rfl⟩
  · cases h; exact ⟨so_X7_promiseError_45, rfl⟩
  · cases h
def gm_X7_rubError : List MI := [mi_X7_isThere, mi_X7_spotOf, mi_X7_hasLetter]
def sg_X7_rubError_0 : List Ins := [(0, .aload_n 0, 0, 0, 0, 0), (1, .iload_n 1, 0, 0, 0, 0), (2, .iload_n 2, 0, 0, 0, 0), (3, .invokevirtual 88, 837, 0, 17, 3), (6, .ifCond .ne 7, 0, 0, 13, 0), (9, .iconst (-1), 1, 1, 0, 0), (10, .goto 29, 0, 0, 39, 0)]
theorem so_X7_rubError_0 : sgOK mi_X7_rubError gm_X7_rubError sg_X7_rubError_0 = true := by decide +kernel
def sg_X7_rubError_13 : List Ins := [(13, .aload_n 0, 0, 0, 0, 0), (14, .iconst 0, 0, 0, 0, 0), (15, .aload_n 0, 0, 0, 0, 0), (16, .getfield 7, 7, 0, 717, 0), (19, .bipush 6, 6, 0, 0, 0), (21, .iaload, 8, 0, 0, 0), (22, .iload_n 1, 0, 0, 0, 0), (23, .iload_n 2, 0, 0, 0, 0), (24, .invokestatic 94, 846, 1, 0, 2), (27, .invokevirtual 50, 853, 2, 17, 4), (30, .ifCond .ne 8, 0, 0, 38, 0), (33, .bipush (-5), 5, 1, 0, 0), (35, .goto 4, 0, 0, 39, 0)]
theorem so_X7_rubError_13 : sgOK mi_X7_rubError gm_X7_rubError sg_X7_rubError_13 = true := by decide +kernel
def sg_X7_rubError_38 : List Ins := [(38, .iconst 0, 0, 0, 0, 0), (39, .ireturn, 0, 0, 0, 0)]
theorem so_X7_rubError_38 : sgOK mi_X7_rubError gm_X7_rubError sg_X7_rubError_38 = true := by decide +kernel
def sg_X7_rubError_39 : List Ins := [(39, .ireturn, 0, 0, 0, 0)]
theorem so_X7_rubError_39 : sgOK mi_X7_rubError gm_X7_rubError sg_X7_rubError_39 = true := by decide +kernel
def sgs_X7_rubError : Nat → Option (List Ins) := fun t => match t with
  | 0 => some sg_X7_rubError_0
  | 13 => some sg_X7_rubError_13
  | 38 => some sg_X7_rubError_38
  | 39 => some sg_X7_rubError_39
  | _ => none
theorem so_X7_rubError : ∀ t sg, sgs_X7_rubError t = some sg → sgOK mi_X7_rubError gm_X7_rubError sg = true ∧ segPc sg = t := by
  intro t sg h
  unfold sgs_X7_rubError at h
  split at h
  · cases h; exact ⟨so_X7_rubError_0, rfl⟩
  · cases h; exact ⟨so_X7_rubError_13, rfl⟩
  · cases h; exact ⟨so_X7_rubError_38, rfl⟩
  · cases h; exact ⟨so_X7_rubError_39, rfl⟩
  · cases h
def gm_X7_passError : List MI := [mi_X7_in]
def sg_X7_passError_0 : List Ins := [(0, .iload_n 1, 0, 0, 0, 0), (1, .i2l, 0, 0, 0, 0), (2, .lconst 1, 0, 0, 0, 0), (3, .ldc2_w 98, 48, 2, 934, 0), (6, .invokestatic 68, 768, 0, 0, 3), (9, .ifCond .ne 8, 0, 0, 17, 0), (12, .bipush (-2), 2, 1, 0, 0), (14, .goto 23, 0, 0, 37, 0)]
theorem so_X7_passError_0 : sgOK mi_X7_passError gm_X7_passError sg_X7_passError_0 = true := by decide +kernel
def sg_X7_passError_17 : List Ins := [(17, .aload_n 0, 0, 0, 0, 0), (18, .getfield 7, 7, 0, 717, 0), (21, .iconst 4, 4, 0, 0, 0), (22, .iaload, 8, 0, 0, 0), (23, .iload_n 1, 0, 0, 0, 0), (24, .iadd, 0, 0, 0, 0), (25, .sipush 9999, 9999, 0, 0, 0), (28, .if_icmp .le 8, 0, 0, 36, 0), (31, .bipush (-5), 5, 1, 0, 0), (33, .goto 4, 0, 0, 37, 0)]
theorem so_X7_passError_17 : sgOK mi_X7_passError gm_X7_passError sg_X7_passError_17 = true := by decide +kernel
def sg_X7_passError_36 : List Ins := [(36, .iconst 0, 0, 0, 0, 0), (37, .ireturn, 0, 0, 0, 0)]
theorem so_X7_passError_36 : sgOK mi_X7_passError gm_X7_passError sg_X7_passError_36 = true := by decide +kernel
def sg_X7_passError_37 : List Ins := [(37, .ireturn, 0, 0, 0, 0)]
theorem so_X7_passError_37 : sgOK mi_X7_passError gm_X7_passError sg_X7_passError_37 = true := by decide +kernel
def sgs_X7_passError : Nat → Option (List Ins) := fun t => match t with
  | 0 => some sg_X7_passError_0
  | 17 => some sg_X7_passError_17
  | 36 => some sg_X7_passError_36
  | 37 => some sg_X7_passError_37
  | _ => none
theorem so_X7_passError : ∀ t sg, sgs_X7_passError t = some sg → sgOK mi_X7_passError gm_X7_passError sg = true ∧ segPc sg = t := by
  intro t sg h
  unfold sgs_X7_passError at h
  split at h
  · cases h; exact ⟨so_X7_passError_0, rfl⟩
  · cases h; exact ⟨so_X7_passError_17, rfl⟩
  · cases h; exact ⟨so_X7_passError_36, rfl⟩
  · cases h; exact ⟨so_X7_passError_37, rfl⟩
  · cases h
def gm_X7_comes : List MI := [mi_X7_inkAt, mi_X7_lightAt]
def sg_X7_comes_0 : List Ins := [(0, .aload_n 0, 0, 0, 0, 0), (1, .getfield 7, 7, 0, 717, 0), (4, .iconst 5, 5, 0, 0, 0), (5, .iaload, 8, 0, 0, 0), (6, .istore_n 1, 0, 0, 0, 0), (7, .iconst 0, 0, 0, 0, 0), (8, .istore_n 2, 0, 0, 0, 0), (9, .nop, 0, 0, 0, 0)]
theorem so_X7_comes_0 : sgOK mi_X7_comes gm_X7_comes sg_X7_comes_0 = true := by decide +kernel
def sg_X7_comes_9 : List Ins := [(9, .iload_n 2, 0, 0, 0, 0), (10, .bipush 120, 120, 0, 0, 0), (12, .if_icmp .ge 49, 0, 0, 61, 0), (15, .aload_n 0, 0, 0, 0, 0), (16, .getfield 7, 7, 0, 717, 0), (19, .iconst 0, 0, 0, 0, 0), (20, .iload_n 1, 0, 0, 0, 0), (21, .iload_n 2, 0, 0, 0, 0), (22, .invokestatic 35, 790, 0, 0, 3), (25, .bipush (-6), 6, 1, 0, 0), (27, .iastore, 0, 0, 0, 0), (28, .aload_n 0, 0, 0, 0, 0), (29, .getfield 7, 7, 0, 717, 0), (32, .iconst 0, 0, 0, 0, 0), (33, .iload_n 1, 0, 0, 0, 0), (34, .iload_n 2, 0, 0, 0, 0), (35, .invokestatic 35, 790, 0, 0, 3), (38, .iconst 1, 1, 0, 0, 0), (39, .iadd, 0, 0, 0, 0), (40, .bipush (-6), 6, 1, 0, 0), (42, .iastore, 0, 0, 0, 0), (43, .aload_n 0, 0, 0, 0, 0), (44, .getfield 13, 7, 1, 718, 0), (47, .iconst 0, 0, 0, 0, 0), (48, .iload_n 1, 0, 0, 0, 0), (49, .iload_n 2, 0, 0, 0, 0), (50, .invokestatic 40, 793, 1, 0, 3), (53, .fconst 1, 0, 0, 0, 0), (54, .fastore, 0, 0, 0, 0), (55, .iinc 2 1, 1, 0, 0, 0), (58, .goto (-49), 0, 0, 9, 0)]
theorem so_X7_comes_9 : sgOK mi_X7_comes gm_X7_comes sg_X7_comes_9 = true := by decide +kernel
def sg_X7_comes_61 : List Ins := [(61, .aload_n 0, 0, 0, 0, 0), (62, .getfield 7, 7, 0, 717, 0), (65, .iconst 5, 5, 0, 0, 0), (66, .dup2, 0, 0, 0, 0), (67, .iaload, 8, 0, 0, 0), (68, .iconst 1, 1, 0, 0, 0), (69, .iadd, 0, 0, 0, 0), (70, .iastore, 0, 0, 0, 0), (71, .aload_n 0, 0, 0, 0, 0), (72, .getfield 7, 7, 0, 717, 0), (75, .bipush 6, 6, 0, 0, 0), (77, .iload_n 1, 0, 0, 0, 0), (78, .iastore, 0, 0, 0, 0), (79, .iload_n 1, 0, 0, 0, 0), (80, .ireturn, 0, 0, 0, 0)]
theorem so_X7_comes_61 : sgOK mi_X7_comes gm_X7_comes sg_X7_comes_61 = true := by decide +kernel
def sgs_X7_comes : Nat → Option (List Ins) := fun t => match t with
  | 0 => some sg_X7_comes_0
  | 61 => some sg_X7_comes_61
  | _ => none
theorem so_X7_comes : ∀ t sg, sgs_X7_comes t = some sg → sgOK mi_X7_comes gm_X7_comes sg = true ∧ segPc sg = t := by
  intro t sg h
  unfold sgs_X7_comes at h
  split at h
  · cases h; exact ⟨so_X7_comes_0, rfl⟩
  · cases h; exact ⟨so_X7_comes_61, rfl⟩
  · cases h
def gm_X7_lays : List MI := []
def sg_X7_lays_0 : List Ins := [(0, .aload_n 0, 0, 0, 0, 0), (1, .getfield 7, 7, 0, 717, 0), (4, .bipush 6, 6, 0, 0, 0), (6, .iaload, 8, 0, 0, 0), (7, .istore_n 2, 0, 0, 0, 0), (8, .aload_n 0, 0, 0, 0, 0), (9, .getfield 7, 7, 0, 717, 0), (12, .bipush 6, 6, 0, 0, 0), (14, .iload_n 1, 0, 0, 0, 0), (15, .iastore, 0, 0, 0, 0), (16, .iload_n 2, 0, 0, 0, 0), (17, .ireturn, 0, 0, 0, 0)]
theorem so_X7_lays_0 : sgOK mi_X7_lays gm_X7_lays sg_X7_lays_0 = true := by decide +kernel
def sgs_X7_lays : Nat → Option (List Ins) := fun t => match t with
  | 0 => some sg_X7_lays_0
  | _ => none
theorem so_X7_lays : ∀ t sg, sgs_X7_lays t = some sg → sgOK mi_X7_lays gm_X7_lays sg = true ∧ segPc sg = t := by
  intro t sg h
  unfold sgs_X7_lays at h
  split at h
  · cases h; exact ⟨so_X7_lays_0, rfl⟩
  · cases h
def gm_X7_joins : List MI := []
def sg_X7_joins_0 : List Ins := [(0, .aload_n 0, 0, 0, 0, 0), (1, .getfield 7, 7, 0, 717, 0), (4, .bipush 7, 7, 0, 0, 0), (6, .iaload, 8, 0, 0, 0), (7, .istore_n 2, 0, 0, 0, 0), (8, .aload_n 0, 0, 0, 0, 0), (9, .getfield 7, 7, 0, 717, 0), (12, .bipush 8, 8, 0, 0, 0), (14, .iload_n 2, 0, 0, 0, 0), (15, .iadd, 0, 0, 0, 0), (16, .iload_n 1, 0, 0, 0, 0), (17, .iastore, 0, 0, 0, 0), (18, .aload_n 0, 0, 0, 0, 0), (19, .getfield 7, 7, 0, 717, 0), (22, .bipush 13, 13, 0, 0, 0), (24, .iload_n 2, 0, 0, 0, 0), (25, .iadd, 0, 0, 0, 0), (26, .iconst 0, 0, 0, 0, 0), (27, .iastore, 0, 0, 0, 0), (28, .aload_n 0, 0, 0, 0, 0), (29, .getfield 7, 7, 0, 717, 0), (32, .bipush 18, 18, 0, 0, 0), (34, .iload_n 2, 0, 0, 0, 0), (35, .iadd, 0, 0, 0, 0), (36, .iconst 0, 0, 0, 0, 0), (37, .iastore, 0, 0, 0, 0), (38, .aload_n 0, 0, 0, 0, 0), (39, .getfield 7, 7, 0, 717, 0), (42, .bipush 7, 7, 0, 0, 0), (44, .dup2, 0, 0, 0, 0), (45, .iaload, 8, 0, 0, 0), (46, .iconst 1, 1, 0, 0, 0), (47, .iadd, 0, 0, 0, 0), (48, .iastore, 0, 0, 0, 0), (49, .iload_n 2, 0, 0, 0, 0), (50, .ireturn, 0, 0, 0, 0)]
theorem so_X7_joins_0 : sgOK mi_X7_joins gm_X7_joins sg_X7_joins_0 = true := by decide +kernel
def sgs_X7_joins : Nat → Option (List Ins) := fun t => match t with
  | 0 => some sg_X7_joins_0
  | _ => none
theorem so_X7_joins : ∀ t sg, sgs_X7_joins t = some sg → sgOK mi_X7_joins gm_X7_joins sg = true ∧ segPc sg = t := by
  intro t sg h
  unfold sgs_X7_joins at h
  split at h
  · cases h; exact ⟨so_X7_joins_0, rfl⟩
  · cases h
def gm_X7_pens : List MI := [mi_X7_looks, mi_X7_writes, mi_X7_spoilt]
def sg_X7_pens_0 : List Ins := [(0, .aload_n 0, 0, 0, 0, 0), (1, .aload_n 0, 0, 0, 0, 0), (2, .getfield 7, 7, 0, 717, 0), (5, .bipush 6, 6, 0, 0, 0), (7, .iaload, 8, 0, 0, 0), (8, .invokevirtual 100, 866, 0, 17, 2), (11, .aload_n 0, 0, 0, 0, 0), (12, .iconst 0, 0, 0, 0, 0), (13, .aload_n 0, 0, 0, 0, 0), (14, .getfield 7, 7, 0, 717, 0), (17, .bipush 6, 6, 0, 0, 0), (19, .iaload, 8, 0, 0, 0), (20, .iload_n 2, 0, 0, 0, 0), (21, .iload_n 1, 0, 0, 0, 0), (22, .iload_n 3, 0, 0, 0, 0), (23, .invokevirtual 104, 874, 1, 17, 6), (26, .aload_n 0, 0, 0, 0, 0), (27, .iconst 0, 0, 0, 0, 0), (28, .aload_n 0, 0, 0, 0, 0), (29, .getfield 7, 7, 0, 717, 0), (32, .bipush 6, 6, 0, 0, 0), (34, .iaload, 8, 0, 0, 0), (35, .bipush (-6), 6, 1, 0, 0), (37, .invokevirtual 108, 882, 2, 17, 4), (40, .istore 4, 0, 0, 0, 0), (42, .aload_n 0, 0, 0, 0, 0), (43, .getfield 7, 7, 0, 717, 0), (46, .bipush 13, 13, 0, 0, 0), (48, .iload_n 1, 0, 0, 0, 0), (49, .iadd, 0, 0, 0, 0), (50, .dup2, 0, 0, 0, 0), (51, .iaload, 8, 0, 0, 0), (52, .iconst 1, 1, 0, 0, 0), (53, .iadd, 0, 0, 0, 0), (54, .iastore, 0, 0, 0, 0), (55, .aload_n 0, 0, 0, 0, 0), (56, .getfield 7, 7, 0, 717, 0), (59, .bipush 18, 18, 0, 0, 0), (61, .iload_n 1, 0, 0, 0, 0), (62, .iadd, 0, 0, 0, 0), (63, .dup2, 0, 0, 0, 0), (64, .iaload, 8, 0, 0, 0), (65, .iload 4, 0, 0, 0, 0), (67, .iadd, 0, 0, 0, 0), (68, .iastore, 0, 0, 0, 0), (69, .iload 4, 0, 0, 0, 0), (71, .ireturn, 0, 0, 0, 0)]
theorem so_X7_pens_0 : sgOK mi_X7_pens gm_X7_pens sg_X7_pens_0 = true := by decide +kernel
def sgs_X7_pens : Nat → Option (List Ins) := fun t => match t with
  | 0 => some sg_X7_pens_0
  | _ => none
theorem so_X7_pens : ∀ t sg, sgs_X7_pens t = some sg → sgOK mi_X7_pens gm_X7_pens sg = true ∧ segPc sg = t := by
  intro t sg h
  unfold sgs_X7_pens at h
  split at h
  · cases h; exact ⟨so_X7_pens_0, rfl⟩
  · cases h
def gm_X7_promisedOn : List MI := [mi_X7_promisedTo]
def sg_X7_promisedOn_0 : List Ins := [(0, .iconst 0, 0, 0, 0, 0), (1, .istore_n 2, 0, 0, 0, 0), (2, .iconst 0, 0, 0, 0, 0), (3, .istore_n 3, 0, 0, 0, 0), (4, .nop, 0, 0, 0, 0)]
theorem so_X7_promisedOn_0 : sgOK mi_X7_promisedOn gm_X7_promisedOn sg_X7_promisedOn_0 = true := by decide +kernel
def sg_X7_promisedOn_4 : List Ins := [(4, .iload_n 3, 0, 0, 0, 0), (5, .bipush 120, 120, 0, 0, 0), (7, .if_icmp .ge 29, 0, 0, 36, 0), (10, .iload_n 2, 0, 0, 0, 0), (11, .aload_n 0, 0, 0, 0, 0), (12, .iconst 0, 0, 0, 0, 0), (13, .iload_n 1, 0, 0, 0, 0), (14, .iload_n 3, 0, 0, 0, 0), (15, .invokevirtual 43, 849, 0, 17, 4), (18, .bipush (-6), 6, 1, 0, 0), (20, .if_icmp .ne 7, 0, 0, 27, 0), (23, .iconst 0, 0, 0, 0, 0), (24, .goto 4, 0, 0, 28, 0)]
theorem so_X7_promisedOn_4 : sgOK mi_X7_promisedOn gm_X7_promisedOn sg_X7_promisedOn_4 = true := by decide +kernel
def sg_X7_promisedOn_27 : List Ins := [(27, .iconst 1, 1, 0, 0, 0), (28, .iadd, 0, 0, 0, 0), (29, .istore_n 2, 0, 0, 0, 0), (30, .iinc 3 1, 1, 0, 0, 0), (33, .goto (-29), 0, 0, 4, 0)]
theorem so_X7_promisedOn_27 : sgOK mi_X7_promisedOn gm_X7_promisedOn sg_X7_promisedOn_27 = true := by decide +kernel
def sg_X7_promisedOn_28 : List Ins := [(28, .iadd, 0, 0, 0, 0), (29, .istore_n 2, 0, 0, 0, 0), (30, .iinc 3 1, 1, 0, 0, 0), (33, .goto (-29), 0, 0, 4, 0)]
theorem so_X7_promisedOn_28 : sgOK mi_X7_promisedOn gm_X7_promisedOn sg_X7_promisedOn_28 = true := by decide +kernel
def sg_X7_promisedOn_36 : List Ins := [(36, .iload_n 2, 0, 0, 0, 0), (37, .ireturn, 0, 0, 0, 0)]
theorem so_X7_promisedOn_36 : sgOK mi_X7_promisedOn gm_X7_promisedOn sg_X7_promisedOn_36 = true := by decide +kernel
def sgs_X7_promisedOn : Nat → Option (List Ins) := fun t => match t with
  | 0 => some sg_X7_promisedOn_0
  | 27 => some sg_X7_promisedOn_27
  | 28 => some sg_X7_promisedOn_28
  | 36 => some sg_X7_promisedOn_36
  | _ => none
theorem so_X7_promisedOn : ∀ t sg, sgs_X7_promisedOn t = some sg → sgOK mi_X7_promisedOn gm_X7_promisedOn sg = true ∧ segPc sg = t := by
  intro t sg h
  unfold sgs_X7_promisedOn at h
  split at h
  · cases h; exact ⟨so_X7_promisedOn_0, rfl⟩
  · cases h; exact ⟨so_X7_promisedOn_27, rfl⟩
  · cases h; exact ⟨so_X7_promisedOn_28, rfl⟩
  · cases h; exact ⟨so_X7_promisedOn_36, rfl⟩
  · cases h
def gm_X7_promises : List MI := [mi_X7_inkAt, mi_X7_promisedOn]
def sg_X7_promises_0 : List Ins := [(0, .aload_n 0, 0, 0, 0, 0), (1, .getfield 7, 7, 0, 717, 0), (4, .iconst 0, 0, 0, 0, 0), (5, .aload_n 0, 0, 0, 0, 0), (6, .getfield 7, 7, 0, 717, 0), (9, .bipush 6, 6, 0, 0, 0), (11, .iaload, 8, 0, 0, 0), (12, .iload_n 2, 0, 0, 0, 0), (13, .invokestatic 35, 790, 0, 0, 3), (16, .iconst 1, 1, 0, 0, 0), (17, .iadd, 0, 0, 0, 0), (18, .iload_n 1, 0, 0, 0, 0), (19, .iastore, 0, 0, 0, 0), (20, .aload_n 0, 0, 0, 0, 0), (21, .aload_n 0, 0, 0, 0, 0), (22, .getfield 7, 7, 0, 717, 0), (25, .bipush 6, 6, 0, 0, 0), (27, .iaload, 8, 0, 0, 0), (28, .invokevirtual 111, 906, 1, 17, 2), (31, .ireturn, 0, 0, 0, 0)]
theorem so_X7_promises_0 : sgOK mi_X7_promises gm_X7_promises sg_X7_promises_0 = true := by decide +kernel
def sgs_X7_promises : Nat → Option (List Ins) := fun t => match t with
  | 0 => some sg_X7_promises_0
  | _ => none
theorem so_X7_promises : ∀ t sg, sgs_X7_promises t = some sg → sgOK mi_X7_promises gm_X7_promises sg = true ∧ segPc sg = t := by
  intro t sg h
  unfold sgs_X7_promises at h
  split at h
  · cases h; exact ⟨so_X7_promises_0, rfl⟩
  · cases h
def gm_X7_rubs : List MI := [mi_X7_inkAt, mi_X7_lightAt]
def sg_X7_rubs_0 : List Ins := [(0, .iconst 0, 0, 0, 0, 0), (1, .aload_n 0, 0, 0, 0, 0), (2, .getfield 7, 7, 0, 717, 0), (5, .bipush 6, 6, 0, 0, 0), (7, .iaload, 8, 0, 0, 0), (8, .iload_n 1, 0, 0, 0, 0), (9, .invokestatic 35, 790, 0, 0, 3), (12, .istore_n 2, 0, 0, 0, 0), (13, .aload_n 0, 0, 0, 0, 0), (14, .getfield 7, 7, 0, 717, 0), (17, .iload_n 2, 0, 0, 0, 0), (18, .iaload, 8, 0, 0, 0), (19, .bipush 26, 26, 0, 0, 0), (21, .irem, 0, 0, 0, 0), (22, .istore_n 3, 0, 0, 0, 0), (23, .aload_n 0, 0, 0, 0, 0), (24, .getfield 7, 7, 0, 717, 0), (27, .iload_n 2, 0, 0, 0, 0), (28, .bipush (-6), 6, 1, 0, 0), (30, .iastore, 0, 0, 0, 0), (31, .aload_n 0, 0, 0, 0, 0), (32, .getfield 13, 7, 1, 718, 0), (35, .iconst 0, 0, 0, 0, 0), (36, .aload_n 0, 0, 0, 0, 0), (37, .getfield 7, 7, 0, 717, 0), (40, .bipush 6, 6, 0, 0, 0), (42, .iaload, 8, 0, 0, 0), (43, .iload_n 1, 0, 0, 0, 0), (44, .invokestatic 40, 793, 1, 0, 3), (47, .aload_n 0, 0, 0, 0, 0), (48, .getfield 13, 7, 1, 718, 0), (51, .iconst 0, 0, 0, 0, 0), (52, .aload_n 0, 0, 0, 0, 0), (53, .getfield 7, 7, 0, 717, 0), (56, .bipush 6, 6, 0, 0, 0), (58, .iaload, 8, 0, 0, 0), (59, .iload_n 1, 0, 0, 0, 0), (60, .invokestatic 40, 793, 1, 0, 3), (63, .faload, 0, 0, 0, 0), (64, .fconst 1, 0, 0, 0, 0), (65, .fadd, 0, 0, 0, 0), (66, .fconst 2, 0, 0, 0, 0), (67, .fdiv, 0, 0, 0, 0), (68, .fastore, 0, 0, 0, 0), (69, .iload_n 3, 0, 0, 0, 0), (70, .ireturn, 0, 0, 0, 0)]
theorem so_X7_rubs_0 : sgOK mi_X7_rubs gm_X7_rubs sg_X7_rubs_0 = true := by decide +kernel
def sgs_X7_rubs : Nat → Option (List Ins) := fun t => match t with
  | 0 => some sg_X7_rubs_0
  | _ => none
theorem so_X7_rubs : ∀ t sg, sgs_X7_rubs t = some sg → sgOK mi_X7_rubs gm_X7_rubs sg = true ∧ segPc sg = t := by
  intro t sg h
  unfold sgs_X7_rubs at h
  split at h
  · cases h; exact ⟨so_X7_rubs_0, rfl⟩
  · cases h
def gm_X7_goesOn : List MI := [mi_X7_clears]
def sg_X7_goesOn_0 : List Ins := [(0, .iconst 0, 0, 0, 0, 0), (1, .istore_n 2, 0, 0, 0, 0), (2, .nop, 0, 0, 0, 0)]
theorem so_X7_goesOn_0 : sgOK mi_X7_goesOn gm_X7_goesOn sg_X7_goesOn_0 = true := by decide +kernel
def sg_X7_goesOn_2 : List Ins := [(2, .iload_n 2, 0, 0, 0, 0), (3, .iload_n 1, 0, 0, 0, 0), (4, .if_icmp .ge 44, 0, 0, 48, 0), (7, .iconst 0, 0, 0, 0, 0), (8, .istore_n 3, 0, 0, 0, 0), (9, .nop, 0, 0, 0, 0)]
theorem so_X7_goesOn_2 : sgOK mi_X7_goesOn gm_X7_goesOn sg_X7_goesOn_2 = true := by decide +kernel
def sg_X7_goesOn_9 : List Ins := [(9, .iload_n 3, 0, 0, 0, 0), (10, .aload_n 0, 0, 0, 0, 0), (11, .getfield 7, 7, 0, 717, 0), (14, .iconst 5, 5, 0, 0, 0), (15, .iaload, 8, 0, 0, 0), (16, .if_icmp .ge 26, 0, 0, 42, 0), (19, .iload_n 3, 0, 0, 0, 0), (20, .aload_n 0, 0, 0, 0, 0), (21, .getfield 7, 7, 0, 717, 0), (24, .bipush 6, 6, 0, 0, 0), (26, .iaload, 8, 0, 0, 0), (27, .if_icmp .eq 9, 0, 0, 36, 0), (30, .aload_n 0, 0, 0, 0, 0), (31, .iconst 0, 0, 0, 0, 0), (32, .iload_n 3, 0, 0, 0, 0), (33, .invokevirtual 115, 939, 0, 17, 3), (36, .iinc 3 1, 1, 0, 0, 0), (39, .goto (-30), 0, 0, 9, 0)]
theorem so_X7_goesOn_9 : sgOK mi_X7_goesOn gm_X7_goesOn sg_X7_goesOn_9 = true := by decide +kernel
def sg_X7_goesOn_36 : List Ins := [(36, .iinc 3 1, 1, 0, 0, 0), (39, .goto (-30), 0, 0, 9, 0)]
theorem so_X7_goesOn_36 : sgOK mi_X7_goesOn gm_X7_goesOn sg_X7_goesOn_36 = true := by decide +kernel
def sg_X7_goesOn_42 : List Ins := [(42, .iinc 2 1, 1, 0, 0, 0), (45, .goto (-43), 0, 0, 2, 0)]
theorem so_X7_goesOn_42 : sgOK mi_X7_goesOn gm_X7_goesOn sg_X7_goesOn_42 = true := by decide +kernel
def sg_X7_goesOn_48 : List Ins := [(48, .aload_n 0, 0, 0, 0, 0), (49, .getfield 7, 7, 0, 717, 0), (52, .iconst 4, 4, 0, 0, 0), (53, .dup2, 0, 0, 0, 0), (54, .iaload, 8, 0, 0, 0), (55, .iload_n 1, 0, 0, 0, 0), (56, .iadd, 0, 0, 0, 0), (57, .iastore, 0, 0, 0, 0), (58, .aload_n 0, 0, 0, 0, 0), (59, .getfield 7, 7, 0, 717, 0), (62, .iconst 4, 4, 0, 0, 0), (63, .iaload, 8, 0, 0, 0), (64, .ireturn, 0, 0, 0, 0)]
theorem so_X7_goesOn_48 : sgOK mi_X7_goesOn gm_X7_goesOn sg_X7_goesOn_48 = true := by decide +kernel
def sgs_X7_goesOn : Nat → Option (List Ins) := fun t => match t with
  | 0 => some sg_X7_goesOn_0
  | 36 => some sg_X7_goesOn_36
  | 42 => some sg_X7_goesOn_42
  | 48 => some sg_X7_goesOn_48
  | _ => none
theorem so_X7_goesOn : ∀ t sg, sgs_X7_goesOn t = some sg → sgOK mi_X7_goesOn gm_X7_goesOn sg = true ∧ segPc sg = t := by
  intro t sg h
  unfold sgs_X7_goesOn at h
  split at h
  · cases h; exact ⟨so_X7_goesOn_0, rfl⟩
  · cases h; exact ⟨so_X7_goesOn_36, rfl⟩
  · cases h; exact ⟨so_X7_goesOn_42, rfl⟩
  · cases h; exact ⟨so_X7_goesOn_48, rfl⟩
  · cases h
def gm_X7_isValue : List MI := [mi_X7_in]
def sg_X7_isValue_0 : List Ins := [(0, .iload_n 0, 0, 0, 0, 0), (1, .tableswitch 71 0 3 #[31, 41, 51, 61], 31, 0, 0, 0)]
theorem so_X7_isValue_0 : sgOK mi_X7_isValue gm_X7_isValue sg_X7_isValue_0 = true := by decide +kernel
def sg_X7_isValue_32 : List Ins := [(32, .iload_n 1, 0, 0, 0, 0), (33, .i2l, 0, 0, 0, 0), (34, .lconst 0, 0, 0, 0, 0), (35, .ldc2_w 118, 18, 2, 767, 0), (38, .invokestatic 68, 768, 0, 0, 3), (41, .ireturn, 0, 0, 0, 0)]
theorem so_X7_isValue_32 : sgOK mi_X7_isValue gm_X7_isValue sg_X7_isValue_32 = true := by decide +kernel
def sg_X7_isValue_42 : List Ins := [(42, .iload_n 1, 0, 0, 0, 0), (43, .i2l, 0, 0, 0, 0), (44, .lconst 0, 0, 0, 0, 0), (45, .ldc2_w 72, 9, 2, 771, 0), (48, .invokestatic 68, 768, 0, 0, 3), (51, .ireturn, 0, 0, 0, 0)]
theorem so_X7_isValue_42 : sgOK mi_X7_isValue gm_X7_isValue sg_X7_isValue_42 = true := by decide +kernel
def sg_X7_isValue_52 : List Ins := [(52, .iload_n 1, 0, 0, 0, 0), (53, .i2l, 0, 0, 0, 0), (54, .lconst 1, 0, 0, 0, 0), (55, .ldc2_w 120, 99, 2, 772, 0), (58, .invokestatic 68, 768, 0, 0, 3), (61, .ireturn, 0, 0, 0, 0)]
theorem so_X7_isValue_52 : sgOK mi_X7_isValue gm_X7_isValue sg_X7_isValue_52 = true := by decide +kernel
def sg_X7_isValue_62 : List Ins := [(62, .iload_n 1, 0, 0, 0, 0), (63, .i2l, 0, 0, 0, 0), (64, .lconst 0, 0, 0, 0, 0), (65, .ldc2_w 122, 50, 2, 773, 0), (68, .invokestatic 68, 768, 0, 0, 3), (71, .ireturn, 0, 0, 0, 0)]
theorem so_X7_isValue_62 : sgOK mi_X7_isValue gm_X7_isValue sg_X7_isValue_62 = true := by decide +kernel
def sg_X7_isValue_72 : List Ins := [(72, .iconst 0, 0, 0, 0, 0), (73, .ireturn, 0, 0, 0, 0)]
theorem so_X7_isValue_72 : sgOK mi_X7_isValue gm_X7_isValue sg_X7_isValue_72 = true := by decide +kernel
def sgs_X7_isValue : Nat → Option (List Ins) := fun t => match t with
  | 0 => some sg_X7_isValue_0
  | 32 => some sg_X7_isValue_32
  | 42 => some sg_X7_isValue_42
  | 52 => some sg_X7_isValue_52
  | 62 => some sg_X7_isValue_62
  | 72 => some sg_X7_isValue_72
  | _ => none
theorem so_X7_isValue : ∀ t sg, sgs_X7_isValue t = some sg → sgOK mi_X7_isValue gm_X7_isValue sg = true ∧ segPc sg = t := by
  intro t sg h
  unfold sgs_X7_isValue at h
  split at h
  · cases h; exact ⟨so_X7_isValue_0, rfl⟩
  · cases h; exact ⟨so_X7_isValue_32, rfl⟩
  · cases h; exact ⟨so_X7_isValue_42, rfl⟩
  · cases h; exact ⟨so_X7_isValue_52, rfl⟩
  · cases h; exact ⟨so_X7_isValue_62, rfl⟩
  · cases h; exact ⟨so_X7_isValue_72, rfl⟩
  · cases h
def gm_X7_set : List MI := [mi_X7_isValue, mi_X7_changes]
def sg_X7_set_0 : List Ins := [(0, .iload_n 1, 0, 0, 0, 0), (1, .iload_n 2, 0, 0, 0, 0), (2, .invokestatic 124, 764, 0, 0, 2), (5, .ifCond .ne 6, 0, 0, 11, 0), (8, .bipush (-2), 2, 1, 0, 0), (10, .ireturn, 0, 0, 0, 0)]
theorem so_X7_set_0 : sgOK mi_X7_set gm_X7_set sg_X7_set_0 = true := by decide +kernel
def sg_X7_set_11 : List Ins := [(11, .aload_n 0, 0, 0, 0, 0), (12, .invokevirtual 127, 774, 1, 17, 1), (15, .aload_n 0, 0, 0, 0, 0), (16, .getfield 7, 7, 0, 717, 0), (19, .iload_n 1, 0, 0, 0, 0), (20, .iaload, 8, 0, 0, 0), (21, .istore_n 3, 0, 0, 0, 0), (22, .aload_n 0, 0, 0, 0, 0), (23, .getfield 7, 7, 0, 717, 0), (26, .iload_n 1, 0, 0, 0, 0), (27, .iload_n 2, 0, 0, 0, 0), (28, .iastore, 0, 0, 0, 0), (29, .iload_n 3, 0, 0, 0, 0), (30, .ireturn, 0, 0, 0, 0)]
theorem so_X7_set_11 : sgOK mi_X7_set gm_X7_set sg_X7_set_11 = true := by decide +kernel
def sgs_X7_set : Nat → Option (List Ins) := fun t => match t with
  | 0 => some sg_X7_set_0
  | 11 => some sg_X7_set_11
  | _ => none
theorem so_X7_set : ∀ t sg, sgs_X7_set t = some sg → sgOK mi_X7_set gm_X7_set sg = true ∧ segPc sg = t := by
  intro t sg h
  unfold sgs_X7_set at h
  split at h
  · cases h; exact ⟨so_X7_set_0, rfl⟩
  · cases h; exact ⟨so_X7_set_11, rfl⟩
  · cases h
def gm_X7_plate : List MI := [mi_X7_changes, mi_X7_comes]
def sg_X7_plate_0 : List Ins := [(0, .aload_n 0, 0, 0, 0, 0), (1, .getfield 7, 7, 0, 717, 0), (4, .iconst 5, 5, 0, 0, 0), (5, .iaload, 8, 0, 0, 0), (6, .iconst 4, 4, 0, 0, 0), (7, .if_icmp .ne 6, 0, 0, 13, 0), (10, .bipush (-4), 4, 1, 0, 0), (12, .ireturn, 0, 0, 0, 0)]
theorem so_X7_plate_0 : sgOK mi_X7_plate gm_X7_plate sg_X7_plate_0 = true := by decide +kernel
def sg_X7_plate_13 : List Ins := [(13, .aload_n 0, 0, 0, 0, 0), (14, .invokevirtual 127, 774, 0, 17, 1), (17, .aload_n 0, 0, 0, 0, 0), (18, .invokevirtual 130, 786, 1, 17, 1), (21, .ireturn, 0, 0, 0, 0)]
theorem so_X7_plate_13 : sgOK mi_X7_plate gm_X7_plate sg_X7_plate_13 = true := by decide +kernel
def sgs_X7_plate : Nat → Option (List Ins) := fun t => match t with
  | 0 => some sg_X7_plate_0
  | 13 => some sg_X7_plate_13
  | _ => none
theorem so_X7_plate : ∀ t sg, sgs_X7_plate t = some sg → sgOK mi_X7_plate gm_X7_plate sg = true ∧ segPc sg = t := by
  intro t sg h
  unfold sgs_X7_plate at h
  split at h
  · cases h; exact ⟨so_X7_plate_0, rfl⟩
  · cases h; exact ⟨so_X7_plate_13, rfl⟩
  · cases h
def gm_X7_lay : List MI := [mi_X7_layError, mi_X7_changes, mi_X7_lays]
def sg_X7_lay_0 : List Ins := [(0, .aload_n 0, 0, 0, 0, 0), (1, .iload_n 1, 0, 0, 0, 0), (2, .invokevirtual 134, 800, 0, 17, 2), (5, .istore_n 2, 0, 0, 0, 0), (6, .iload_n 2, 0, 0, 0, 0), (7, .ifCond .eq 5, 0, 0, 12, 0), (10, .iload_n 2, 0, 0, 0, 0), (11, .ireturn, 0, 0, 0, 0)]
theorem so_X7_lay_0 : sgOK mi_X7_lay gm_X7_lay sg_X7_lay_0 = true := by decide +kernel
def sg_X7_lay_12 : List Ins := [(12, .aload_n 0, 0, 0, 0, 0), (13, .invokevirtual 127, 774, 1, 17, 1), (16, .aload_n 0, 0, 0, 0, 0), (17, .iload_n 1, 0, 0, 0, 0), (18, .invokevirtual 137, 808, 2, 17, 2), (21, .ireturn, 0, 0, 0, 0)]
theorem so_X7_lay_12 : sgOK mi_X7_lay gm_X7_lay sg_X7_lay_12 = true := by decide +kernel
def sgs_X7_lay : Nat → Option (List Ins) := fun t => match t with
  | 0 => some sg_X7_lay_0
  | 12 => some sg_X7_lay_12
  | _ => none
theorem so_X7_lay : ∀ t sg, sgs_X7_lay t = some sg → sgOK mi_X7_lay gm_X7_lay sg = true ∧ segPc sg = t := by
  intro t sg h
  unfold sgs_X7_lay at h
  split at h
  · cases h; exact ⟨so_X7_lay_0, rfl⟩
  · cases h; exact ⟨so_X7_lay_12, rfl⟩
  · cases h
def gm_X7_writer : List MI := [mi_X7_writerError, mi_X7_changes, mi_X7_joins]
def sg_X7_writer_0 : List Ins := [(0, .aload_n 0, 0, 0, 0, 0), (1, .iload_n 1, 0, 0, 0, 0), (2, .invokevirtual 140, 816, 0, 17, 2), (5, .istore_n 2, 0, 0, 0, 0), (6, .iload_n 2, 0, 0, 0, 0), (7, .ifCond .eq 5, 0, 0, 12, 0), (10, .iload_n 2, 0, 0, 0, 0), (11, .ireturn, 0, 0, 0, 0)]
theorem so_X7_writer_0 : sgOK mi_X7_writer gm_X7_writer sg_X7_writer_0 = true := by decide +kernel
def sg_X7_writer_12 : List Ins := [(12, .aload_n 0, 0, 0, 0, 0), (13, .invokevirtual 127, 774, 1, 17, 1), (16, .aload_n 0, 0, 0, 0, 0), (17, .iload_n 1, 0, 0, 0, 0), (18, .invokevirtual 143, 821, 2, 17, 2), (21, .ireturn, 0, 0, 0, 0)]
theorem so_X7_writer_12 : sgOK mi_X7_writer gm_X7_writer sg_X7_writer_12 = true := by decide +kernel
def sgs_X7_writer : Nat → Option (List Ins) := fun t => match t with
  | 0 => some sg_X7_writer_0
  | 12 => some sg_X7_writer_12
  | _ => none
theorem so_X7_writer : ∀ t sg, sgs_X7_writer t = some sg → sgOK mi_X7_writer gm_X7_writer sg = true ∧ segPc sg = t := by
  intro t sg h
  unfold sgs_X7_writer at h
  split at h
  · cases h; exact ⟨so_X7_writer_0, rfl⟩
  · cases h; exact ⟨so_X7_writer_12, rfl⟩
  · cases h
def gm_X7_write : List MI := [mi_X7_writeError, mi_X7_changes, mi_X7_spotOf, mi_X7_pens]
def sg_X7_write_0 : List Ins := [(0, .aload_n 0, 0, 0, 0, 0), (1, .iload_n 1, 0, 0, 0, 0), (2, .iload_n 2, 0, 0, 0, 0), (3, .iload_n 3, 0, 0, 0, 0), (4, .iload 4, 0, 0, 0, 0), (6, .invokevirtual 146, 829, 0, 17, 5), (9, .istore 5, 0, 0, 0, 0), (11, .iload 5, 0, 0, 0, 0), (13, .ifCond .eq 6, 0, 0, 19, 0), (16, .iload 5, 0, 0, 0, 0), (18, .ireturn, 0, 0, 0, 0)]
theorem so_X7_write_0 : sgOK mi_X7_write gm_X7_write sg_X7_write_0 = true := by decide +kernel
def sg_X7_write_19 : List Ins := [(19, .aload_n 0, 0, 0, 0, 0), (20, .invokevirtual 127, 774, 1, 17, 1), (23, .aload_n 0, 0, 0, 0, 0), (24, .iload_n 1, 0, 0, 0, 0), (25, .iload_n 2, 0, 0, 0, 0), (26, .iload_n 3, 0, 0, 0, 0), (27, .invokestatic 94, 846, 2, 0, 2), (30, .iload 4, 0, 0, 0, 0), (32, .invokevirtual 150, 862, 3, 17, 4), (35, .ireturn, 0, 0, 0, 0)]
theorem so_X7_write_19 : sgOK mi_X7_write gm_X7_write sg_X7_write_19 = true := by decide +kernel
def sgs_X7_write : Nat → Option (List Ins) := fun t => match t with
  | 0 => some sg_X7_write_0
  | 19 => some sg_X7_write_19
  | _ => none
theorem so_X7_write : ∀ t sg, sgs_X7_write t = some sg → sgOK mi_X7_write gm_X7_write sg = true ∧ segPc sg = t := by
  intro t sg h
  unfold sgs_X7_write at h
  split at h
  · cases h; exact ⟨so_X7_write_0, rfl⟩
  · cases h; exact ⟨so_X7_write_19, rfl⟩
  · cases h
def gm_X7_promise : List MI := [mi_X7_promiseError, mi_X7_changes, mi_X7_spotOf, mi_X7_promises]
def sg_X7_promise_0 : List Ins := [(0, .aload_n 0, 0, 0, 0, 0), (1, .iload_n 1, 0, 0, 0, 0), (2, .iload_n 2, 0, 0, 0, 0), (3, .iload_n 3, 0, 0, 0, 0), (4, .invokevirtual 153, 890, 0, 17, 4), (7, .istore 4, 0, 0, 0, 0), (9, .iload 4, 0, 0, 0, 0), (11, .ifCond .eq 6, 0, 0, 17, 0), (14, .iload 4, 0, 0, 0, 0), (16, .ireturn, 0, 0, 0, 0)]
theorem so_X7_promise_0 : sgOK mi_X7_promise gm_X7_promise sg_X7_promise_0 = true := by decide +kernel
def sg_X7_promise_17 : List Ins := [(17, .aload_n 0, 0, 0, 0, 0), (18, .invokevirtual 127, 774, 1, 17, 1), (21, .aload_n 0, 0, 0, 0, 0), (22, .iload_n 1, 0, 0, 0, 0), (23, .iload_n 2, 0, 0, 0, 0), (24, .iload_n 3, 0, 0, 0, 0), (25, .invokestatic 94, 846, 2, 0, 2), (28, .invokevirtual 156, 902, 3, 17, 3), (31, .ireturn, 0, 0, 0, 0)]
theorem so_X7_promise_17 : sgOK mi_X7_promise gm_X7_promise sg_X7_promise_17 = true := by decide +kernel
def sgs_X7_promise : Nat → Option (List Ins) := fun t => match t with
  | 0 => some sg_X7_promise_0
  | 17 => some sg_X7_promise_17
  | _ => none
theorem so_X7_promise : ∀ t sg, sgs_X7_promise t = some sg → sgOK mi_X7_promise gm_X7_promise sg = true ∧ segPc sg = t := by
  intro t sg h
  unfold sgs_X7_promise at h
  split at h
  · cases h; exact ⟨so_X7_promise_0, rfl⟩
  · cases h; exact ⟨so_X7_promise_17, rfl⟩
  · cases h
def gm_X7_takeBack : List MI := [mi_X7_isThere, mi_X7_spotOf, mi_X7_promisedTo, mi_X7_changes, mi_X7_inkAt]
def sg_X7_takeBack_0 : List Ins := [(0, .aload_n 0, 0, 0, 0, 0), (1, .iload_n 1, 0, 0, 0, 0), (2, .iload_n 2, 0, 0, 0, 0), (3, .invokevirtual 88, 837, 0, 17, 3), (6, .ifCond .ne 5, 0, 0, 11, 0), (9, .iconst (-1), 1, 1, 0, 0), (10, .ireturn, 0, 0, 0, 0)]
theorem so_X7_takeBack_0 : sgOK mi_X7_takeBack gm_X7_takeBack sg_X7_takeBack_0 = true := by decide +kernel
def sg_X7_takeBack_11 : List Ins := [(11, .aload_n 0, 0, 0, 0, 0), (12, .iconst 0, 0, 0, 0, 0), (13, .aload_n 0, 0, 0, 0, 0), (14, .getfield 7, 7, 0, 717, 0), (17, .bipush 6, 6, 0, 0, 0), (19, .iaload, 8, 0, 0, 0), (20, .iload_n 1, 0, 0, 0, 0), (21, .iload_n 2, 0, 0, 0, 0), (22, .invokestatic 94, 846, 1, 0, 2), (25, .invokevirtual 43, 849, 2, 17, 4), (28, .istore_n 3, 0, 0, 0, 0), (29, .iload_n 3, 0, 0, 0, 0), (30, .bipush (-6), 6, 1, 0, 0), (32, .if_icmp .ne 6, 0, 0, 38, 0), (35, .bipush (-5), 5, 1, 0, 0), (37, .ireturn, 0, 0, 0, 0)]
theorem so_X7_takeBack_11 : sgOK mi_X7_takeBack gm_X7_takeBack sg_X7_takeBack_11 = true := by decide +kernel
def sg_X7_takeBack_38 : List Ins := [(38, .aload_n 0, 0, 0, 0, 0), (39, .invokevirtual 127, 774, 3, 17, 1), (42, .aload_n 0, 0, 0, 0, 0), (43, .getfield 7, 7, 0, 717, 0), (46, .iconst 0, 0, 0, 0, 0), (47, .aload_n 0, 0, 0, 0, 0), (48, .getfield 7, 7, 0, 717, 0), (51, .bipush 6, 6, 0, 0, 0), (53, .iaload, 8, 0, 0, 0), (54, .iload_n 1, 0, 0, 0, 0), (55, .iload_n 2, 0, 0, 0, 0), (56, .invokestatic 94, 846, 1, 0, 2), (59, .invokestatic 35, 790, 4, 0, 3), (62, .iconst 1, 1, 0, 0, 0), (63, .iadd, 0, 0, 0, 0), (64, .bipush (-6), 6, 1, 0, 0), (66, .iastore, 0, 0, 0, 0), (67, .iload_n 3, 0, 0, 0, 0), (68, .ireturn, 0, 0, 0, 0)]
theorem so_X7_takeBack_38 : sgOK mi_X7_takeBack gm_X7_takeBack sg_X7_takeBack_38 = true := by decide +kernel
def sgs_X7_takeBack : Nat → Option (List Ins) := fun t => match t with
  | 0 => some sg_X7_takeBack_0
  | 11 => some sg_X7_takeBack_11
  | 38 => some sg_X7_takeBack_38
  | _ => none
theorem so_X7_takeBack : ∀ t sg, sgs_X7_takeBack t = some sg → sgOK mi_X7_takeBack gm_X7_takeBack sg = true ∧ segPc sg = t := by
  intro t sg h
  unfold sgs_X7_takeBack at h
  split at h
  · cases h; exact ⟨so_X7_takeBack_0, rfl⟩
  · cases h; exact ⟨so_X7_takeBack_11, rfl⟩
  · cases h; exact ⟨so_X7_takeBack_38, rfl⟩
  · cases h
def gm_X7_rub : List MI := [mi_X7_rubError, mi_X7_changes, mi_X7_spotOf, mi_X7_rubs]
def sg_X7_rub_0 : List Ins := [(0, .aload_n 0, 0, 0, 0, 0), (1, .iload_n 1, 0, 0, 0, 0), (2, .iload_n 2, 0, 0, 0, 0), (3, .invokevirtual 159, 918, 0, 17, 3), (6, .istore_n 3, 0, 0, 0, 0), (7, .iload_n 3, 0, 0, 0, 0), (8, .ifCond .eq 5, 0, 0, 13, 0), (11, .iload_n 3, 0, 0, 0, 0), (12, .ireturn, 0, 0, 0, 0)]
theorem so_X7_rub_0 : sgOK mi_X7_rub gm_X7_rub sg_X7_rub_0 = true := by decide +kernel
def sg_X7_rub_13 : List Ins := [(13, .aload_n 0, 0, 0, 0, 0), (14, .invokevirtual 127, 774, 1, 17, 1), (17, .aload_n 0, 0, 0, 0, 0), (18, .iload_n 1, 0, 0, 0, 0), (19, .iload_n 2, 0, 0, 0, 0), (20, .invokestatic 94, 846, 2, 0, 2), (23, .invokevirtual 162, 922, 3, 17, 2), (26, .ireturn, 0, 0, 0, 0)]
theorem so_X7_rub_13 : sgOK mi_X7_rub gm_X7_rub sg_X7_rub_13 = true := by decide +kernel
def sgs_X7_rub : Nat → Option (List Ins) := fun t => match t with
  | 0 => some sg_X7_rub_0
  | 13 => some sg_X7_rub_13
  | _ => none
theorem so_X7_rub : ∀ t sg, sgs_X7_rub t = some sg → sgOK mi_X7_rub gm_X7_rub sg = true ∧ segPc sg = t := by
  intro t sg h
  unfold sgs_X7_rub at h
  split at h
  · cases h; exact ⟨so_X7_rub_0, rfl⟩
  · cases h; exact ⟨so_X7_rub_13, rfl⟩
  · cases h
def gm_X7_pass : List MI := [mi_X7_passError, mi_X7_changes, mi_X7_goesOn]
def sg_X7_pass_0 : List Ins := [(0, .aload_n 0, 0, 0, 0, 0), (1, .iload_n 1, 0, 0, 0, 0), (2, .invokevirtual 165, 930, 0, 17, 2), (5, .istore_n 2, 0, 0, 0, 0), (6, .iload_n 2, 0, 0, 0, 0), (7, .ifCond .eq 5, 0, 0, 12, 0), (10, .iload_n 2, 0, 0, 0, 0), (11, .ireturn, 0, 0, 0, 0)]
theorem so_X7_pass_0 : sgOK mi_X7_pass gm_X7_pass sg_X7_pass_0 = true := by decide +kernel
def sg_X7_pass_12 : List Ins := [(12, .aload_n 0, 0, 0, 0, 0), (13, .invokevirtual 127, 774, 1, 17, 1), (16, .aload_n 0, 0, 0, 0, 0), (17, .iload_n 1, 0, 0, 0, 0), (18, .invokevirtual 168, 935, 2, 17, 2), (21, .ireturn, 0, 0, 0, 0)]
theorem so_X7_pass_12 : sgOK mi_X7_pass gm_X7_pass sg_X7_pass_12 = true := by decide +kernel
def sgs_X7_pass : Nat → Option (List Ins) := fun t => match t with
  | 0 => some sg_X7_pass_0
  | 12 => some sg_X7_pass_12
  | _ => none
theorem so_X7_pass : ∀ t sg, sgs_X7_pass t = some sg → sgOK mi_X7_pass gm_X7_pass sg = true ∧ segPc sg = t := by
  intro t sg h
  unfold sgs_X7_pass at h
  split at h
  · cases h; exact ⟨so_X7_pass_0, rfl⟩
  · cases h; exact ⟨so_X7_pass_12, rfl⟩
  · cases h
def gm_X7_flag : List MI := []
def sg_X7_flag_0 : List Ins := [(0, .iload_n 0, 0, 0, 0, 0), (1, .ifCond .eq 7, 0, 0, 8, 0), (4, .iconst 1, 1, 0, 0, 0), (5, .goto 4, 0, 0, 9, 0)]
theorem so_X7_flag_0 : sgOK mi_X7_flag gm_X7_flag sg_X7_flag_0 = true := by decide +kernel
def sg_X7_flag_8 : List Ins := [(8, .iconst 0, 0, 0, 0, 0), (9, .ireturn, 0, 0, 0, 0)]
theorem so_X7_flag_8 : sgOK mi_X7_flag gm_X7_flag sg_X7_flag_8 = true := by decide +kernel
def sg_X7_flag_9 : List Ins := [(9, .ireturn, 0, 0, 0, 0)]
theorem so_X7_flag_9 : sgOK mi_X7_flag gm_X7_flag sg_X7_flag_9 = true := by decide +kernel
def sgs_X7_flag : Nat → Option (List Ins) := fun t => match t with
  | 0 => some sg_X7_flag_0
  | 8 => some sg_X7_flag_8
  | 9 => some sg_X7_flag_9
  | _ => none
theorem so_X7_flag : ∀ t sg, sgs_X7_flag t = some sg → sgOK mi_X7_flag gm_X7_flag sg = true ∧ segPc sg = t := by
  intro t sg h
  unfold sgs_X7_flag at h
  split at h
  · cases h; exact ⟨so_X7_flag_0, rfl⟩
  · cases h; exact ⟨so_X7_flag_8, rfl⟩
  · cases h; exact ⟨so_X7_flag_9, rfl⟩
  · cases h
def gm_X7_at : List MI := [mi_X7_isThere, mi_X7_spotOf, mi_X7_inkAt, mi_X7_promisedTo, mi_X7_lightAt, mi_Jxf58ca_floatToIntBits_5c35a, mi_X7_ahead, mi_X7_hasRoom, mi_X7_flag, mi_X7_canRead]
def sg_X7_at_0 : List Ins := [(0, .aload_n 0, 0, 0, 0, 0), (1, .iload_n 1, 0, 0, 0, 0), (2, .iload_n 2, 0, 0, 0, 0), (3, .invokevirtual 88, 837, 0, 17, 3), (6, .ifCond .ne 5, 0, 0, 11, 0), (9, .iconst (-1), 1, 1, 0, 0), (10, .ireturn, 0, 0, 0, 0)]
theorem so_X7_at_0 : sgOK mi_X7_at gm_X7_at sg_X7_at_0 = true := by decide +kernel
def sg_X7_at_11 : List Ins := [(11, .aload_n 0, 0, 0, 0, 0), (12, .getfield 7, 7, 0, 717, 0), (15, .bipush 6, 6, 0, 0, 0), (17, .iaload, 8, 0, 0, 0), (18, .istore 4, 0, 0, 0, 0), (20, .iload_n 1, 0, 0, 0, 0), (21, .iload_n 2, 0, 0, 0, 0), (22, .invokestatic 94, 846, 1, 0, 2), (25, .istore 5, 0, 0, 0, 0), (27, .aload_n 0, 0, 0, 0, 0), (28, .getfield 7, 7, 0, 717, 0), (31, .iconst 0, 0, 0, 0, 0), (32, .iload 4, 0, 0, 0, 0), (34, .iload 5, 0, 0, 0, 0), (36, .invokestatic 35, 790, 2, 0, 3), (39, .iaload, 8, 0, 0, 0), (40, .istore 6, 0, 0, 0, 0), (42, .iload_n 3, 0, 0, 0, 0), (43, .tableswitch 143 0 6 #[41, 59, 77, 87, 104, 117, 130], 41, 0, 0, 0)]
theorem so_X7_at_11 : sgOK mi_X7_at gm_X7_at sg_X7_at_11 = true := by decide +kernel
def sg_X7_at_84 : List Ins := [(84, .iload 6, 0, 0, 0, 0), (86, .bipush (-6), 6, 1, 0, 0), (88, .if_icmp .ne 8, 0, 0, 96, 0), (91, .bipush (-6), 6, 1, 0, 0), (93, .goto 8, 0, 0, 101, 0)]
theorem so_X7_at_84 : sgOK mi_X7_at gm_X7_at sg_X7_at_84 = true := by decide +kernel
def sg_X7_at_96 : List Ins := [(96, .iload 6, 0, 0, 0, 0), (98, .bipush 26, 26, 0, 0, 0), (100, .irem, 0, 0, 0, 0), (101, .ireturn, 0, 0, 0, 0)]
theorem so_X7_at_96 : sgOK mi_X7_at gm_X7_at sg_X7_at_96 = true := by decide +kernel
def sg_X7_at_101 : List Ins := [(101, .ireturn, 0, 0, 0, 0)]
theorem so_X7_at_101 : sgOK mi_X7_at gm_X7_at sg_X7_at_101 = true := by decide +kernel
def sg_X7_at_102 : List Ins := [(102, .iload 6, 0, 0, 0, 0), (104, .bipush (-6), 6, 1, 0, 0), (106, .if_icmp .ne 8, 0, 0, 114, 0), (109, .bipush (-6), 6, 1, 0, 0), (111, .goto 8, 0, 0, 119, 0)]
theorem so_X7_at_102 : sgOK mi_X7_at gm_X7_at sg_X7_at_102 = true := by decide +kernel
def sg_X7_at_114 : List Ins := [(114, .iload 6, 0, 0, 0, 0), (116, .bipush 26, 26, 0, 0, 0), (118, .idiv, 0, 0, 0, 0), (119, .ireturn, 0, 0, 0, 0)]
theorem so_X7_at_114 : sgOK mi_X7_at gm_X7_at sg_X7_at_114 = true := by decide +kernel
def sg_X7_at_119 : List Ins := [(119, .ireturn, 0, 0, 0, 0)]
theorem so_X7_at_119 : sgOK mi_X7_at gm_X7_at sg_X7_at_119 = true := by decide +kernel
def sg_X7_at_120 : List Ins := [(120, .aload_n 0, 0, 0, 0, 0), (121, .iconst 0, 0, 0, 0, 0), (122, .iload 4, 0, 0, 0, 0), (124, .iload 5, 0, 0, 0, 0), (126, .invokevirtual 43, 849, 3, 17, 4), (129, .ireturn, 0, 0, 0, 0)]
theorem so_X7_at_120 : sgOK mi_X7_at gm_X7_at sg_X7_at_120 = true := by decide +kernel
def sg_X7_at_130 : List Ins := [(130, .aload_n 0, 0, 0, 0, 0), (131, .getfield 13, 7, 1, 718, 0), (134, .iconst 0, 0, 0, 0, 0), (135, .iload 4, 0, 0, 0, 0), (137, .iload 5, 0, 0, 0, 0), (139, .invokestatic 40, 793, 4, 0, 3), (142, .faload, 0, 0, 0, 0), (143, .invokestatic 171, 947, 5, 0, 1), (146, .ireturn, 0, 0, 0, 0)]
theorem so_X7_at_130 : sgOK mi_X7_at gm_X7_at sg_X7_at_130 = true := by decide +kernel
def sg_X7_at_147 : List Ins := [(147, .aload_n 0, 0, 0, 0, 0), (148, .iconst 0, 0, 0, 0, 0), (149, .iload 4, 0, 0, 0, 0), (151, .iload 5, 0, 0, 0, 0), (153, .invokevirtual 54, 898, 6, 17, 4), (156, .invokestatic 171, 947, 5, 0, 1), (159, .ireturn, 0, 0, 0, 0)]
theorem so_X7_at_147 : sgOK mi_X7_at gm_X7_at sg_X7_at_147 = true := by decide +kernel
def sg_X7_at_160 : List Ins := [(160, .aload_n 0, 0, 0, 0, 0), (161, .iconst 0, 0, 0, 0, 0), (162, .iload 4, 0, 0, 0, 0), (164, .iload 5, 0, 0, 0, 0), (166, .invokevirtual 62, 894, 7, 17, 4), (169, .invokestatic 177, 957, 8, 0, 1), (172, .ireturn, 0, 0, 0, 0)]
theorem so_X7_at_160 : sgOK mi_X7_at gm_X7_at sg_X7_at_160 = true := by decide +kernel
def sg_X7_at_173 : List Ins := [(173, .aload_n 0, 0, 0, 0, 0), (174, .iconst 0, 0, 0, 0, 0), (175, .iload 4, 0, 0, 0, 0), (177, .iload 5, 0, 0, 0, 0), (179, .invokevirtual 65, 870, 9, 17, 4), (182, .invokestatic 177, 957, 8, 0, 1), (185, .ireturn, 0, 0, 0, 0)]
theorem so_X7_at_173 : sgOK mi_X7_at gm_X7_at sg_X7_at_173 = true := by decide +kernel
def sg_X7_at_186 : List Ins := [(186, .bipush (-2), 2, 1, 0, 0), (188, .ireturn, 0, 0, 0, 0)]
theorem so_X7_at_186 : sgOK mi_X7_at gm_X7_at sg_X7_at_186 = true := by decide +kernel
def sgs_X7_at : Nat → Option (List Ins) := fun t => match t with
  | 0 => some sg_X7_at_0
  | 11 => some sg_X7_at_11
  | 84 => some sg_X7_at_84
  | 96 => some sg_X7_at_96
  | 101 => some sg_X7_at_101
  | 102 => some sg_X7_at_102
  | 114 => some sg_X7_at_114
  | 119 => some sg_X7_at_119
  | 120 => some sg_X7_at_120
  | 130 => some sg_X7_at_130
  | 147 => some sg_X7_at_147
  | 160 => some sg_X7_at_160
  | 173 => some sg_X7_at_173
  | 186 => some sg_X7_at_186
  | _ => none
theorem so_X7_at : ∀ t sg, sgs_X7_at t = some sg → sgOK mi_X7_at gm_X7_at sg = true ∧ segPc sg = t := by
  intro t sg h
  unfold sgs_X7_at at h
  split at h
  · cases h; exact ⟨so_X7_at_0, rfl⟩
  · cases h; exact ⟨so_X7_at_11, rfl⟩
  · cases h; exact ⟨so_X7_at_84, rfl⟩
  · cases h; exact ⟨so_X7_at_96, rfl⟩
  · cases h; exact ⟨so_X7_at_101, rfl⟩
  · cases h; exact ⟨so_X7_at_102, rfl⟩
  · cases h; exact ⟨so_X7_at_114, rfl⟩
  · cases h; exact ⟨so_X7_at_119, rfl⟩
  · cases h; exact ⟨so_X7_at_120, rfl⟩
  · cases h; exact ⟨so_X7_at_130, rfl⟩
  · cases h; exact ⟨so_X7_at_147, rfl⟩
  · cases h; exact ⟨so_X7_at_160, rfl⟩
  · cases h; exact ⟨so_X7_at_173, rfl⟩
  · cases h; exact ⟨so_X7_at_186, rfl⟩
  · cases h
def gm_X7_isSo : List MI := [mi_X7_hasLetter, mi_X7_canRead, mi_X7_promisedTo, mi_X7_hasRoom]
def sg_X7_isSo_0 : List Ins := [(0, .iload_n 3, 0, 0, 0, 0), (1, .ifCond .ne 13, 0, 0, 14, 0), (4, .aload_n 0, 0, 0, 0, 0), (5, .iconst 0, 0, 0, 0, 0), (6, .iload_n 1, 0, 0, 0, 0), (7, .iload_n 2, 0, 0, 0, 0), (8, .invokevirtual 50, 853, 0, 17, 4), (11, .goto 50, 0, 0, 61, 0)]
theorem so_X7_isSo_0 : sgOK mi_X7_isSo gm_X7_isSo sg_X7_isSo_0 = true := by decide +kernel
def sg_X7_isSo_14 : List Ins := [(14, .iload_n 3, 0, 0, 0, 0), (15, .iconst 1, 1, 0, 0, 0), (16, .if_icmp .ne 13, 0, 0, 29, 0), (19, .aload_n 0, 0, 0, 0, 0), (20, .iconst 0, 0, 0, 0, 0), (21, .iload_n 1, 0, 0, 0, 0), (22, .iload_n 2, 0, 0, 0, 0), (23, .invokevirtual 65, 870, 1, 17, 4), (26, .goto 35, 0, 0, 61, 0)]
theorem so_X7_isSo_14 : sgOK mi_X7_isSo gm_X7_isSo sg_X7_isSo_14 = true := by decide +kernel
def sg_X7_isSo_29 : List Ins := [(29, .iload_n 3, 0, 0, 0, 0), (30, .iconst 2, 2, 0, 0, 0), (31, .if_icmp .ne 23, 0, 0, 54, 0), (34, .aload_n 0, 0, 0, 0, 0), (35, .iconst 0, 0, 0, 0, 0), (36, .iload_n 1, 0, 0, 0, 0), (37, .iload_n 2, 0, 0, 0, 0), (38, .invokevirtual 43, 849, 2, 17, 4), (41, .bipush (-6), 6, 1, 0, 0), (43, .if_icmp .eq 7, 0, 0, 50, 0), (46, .iconst 1, 1, 0, 0, 0), (47, .goto 14, 0, 0, 61, 0)]
theorem so_X7_isSo_29 : sgOK mi_X7_isSo gm_X7_isSo sg_X7_isSo_29 = true := by decide +kernel
def sg_X7_isSo_50 : List Ins := [(50, .iconst 0, 0, 0, 0, 0), (51, .goto 10, 0, 0, 61, 0)]
theorem so_X7_isSo_50 : sgOK mi_X7_isSo gm_X7_isSo sg_X7_isSo_50 = true := by decide +kernel
def sg_X7_isSo_54 : List Ins := [(54, .aload_n 0, 0, 0, 0, 0), (55, .iconst 0, 0, 0, 0, 0), (56, .iload_n 1, 0, 0, 0, 0), (57, .iload_n 2, 0, 0, 0, 0), (58, .invokevirtual 62, 894, 3, 17, 4), (61, .ireturn, 0, 0, 0, 0)]
theorem so_X7_isSo_54 : sgOK mi_X7_isSo gm_X7_isSo sg_X7_isSo_54 = true := by decide +kernel
def sg_X7_isSo_61 : List Ins := [(61, .ireturn, 0, 0, 0, 0)]
theorem so_X7_isSo_61 : sgOK mi_X7_isSo gm_X7_isSo sg_X7_isSo_61 = true := by decide +kernel
def sgs_X7_isSo : Nat → Option (List Ins) := fun t => match t with
  | 0 => some sg_X7_isSo_0
  | 14 => some sg_X7_isSo_14
  | 29 => some sg_X7_isSo_29
  | 50 => some sg_X7_isSo_50
  | 54 => some sg_X7_isSo_54
  | 61 => some sg_X7_isSo_61
  | _ => none
theorem so_X7_isSo : ∀ t sg, sgs_X7_isSo t = some sg → sgOK mi_X7_isSo gm_X7_isSo sg = true ∧ segPc sg = t := by
  intro t sg h
  unfold sgs_X7_isSo at h
  split at h
  · cases h; exact ⟨so_X7_isSo_0, rfl⟩
  · cases h; exact ⟨so_X7_isSo_14, rfl⟩
  · cases h; exact ⟨so_X7_isSo_29, rfl⟩
  · cases h; exact ⟨so_X7_isSo_50, rfl⟩
  · cases h; exact ⟨so_X7_isSo_54, rfl⟩
  · cases h; exact ⟨so_X7_isSo_61, rfl⟩
  · cases h
def gm_X7_longestWord : List MI := [mi_X7_spotOf, mi_X7_canRead]
def sg_X7_longestWord_0 : List Ins := [(0, .iconst 0, 0, 0, 0, 0), (1, .istore_n 3, 0, 0, 0, 0), (2, .iconst 0, 0, 0, 0, 0), (3, .istore 4, 0, 0, 0, 0), (5, .iconst 0, 0, 0, 0, 0), (6, .istore 5, 0, 0, 0, 0), (8, .nop, 0, 0, 0, 0)]
theorem so_X7_longestWord_0 : sgOK mi_X7_longestWord gm_X7_longestWord sg_X7_longestWord_0 = true := by decide +kernel
def sg_X7_longestWord_8 : List Ins := [(8, .iload 5, 0, 0, 0, 0), (10, .bipush 12, 12, 0, 0, 0), (12, .if_icmp .ge 47, 0, 0, 59, 0), (15, .aload_n 0, 0, 0, 0, 0), (16, .iconst 0, 0, 0, 0, 0), (17, .iload_n 1, 0, 0, 0, 0), (18, .iload_n 2, 0, 0, 0, 0), (19, .iload 5, 0, 0, 0, 0), (21, .invokestatic 94, 846, 0, 0, 2), (24, .invokevirtual 65, 870, 1, 17, 4), (27, .ifCond .eq 10, 0, 0, 37, 0), (30, .iload 4, 0, 0, 0, 0), (32, .iconst 1, 1, 0, 0, 0), (33, .iadd, 0, 0, 0, 0), (34, .goto 4, 0, 0, 38, 0)]
theorem so_X7_longestWord_8 : sgOK mi_X7_longestWord gm_X7_longestWord sg_X7_longestWord_8 = true := by decide +kernel
def sg_X7_longestWord_37 : List Ins := [(37, .iconst 0, 0, 0, 0, 0), (38, .istore 4, 0, 0, 0, 0), (40, .iload 4, 0, 0, 0, 0), (42, .iload_n 3, 0, 0, 0, 0), (43, .if_icmp .le 8, 0, 0, 51, 0), (46, .iload 4, 0, 0, 0, 0), (48, .goto 4, 0, 0, 52, 0)]
theorem so_X7_longestWord_37 : sgOK mi_X7_longestWord gm_X7_longestWord sg_X7_longestWord_37 = true := by decide +kernel
def sg_X7_longestWord_38 : List Ins := [(38, .istore 4, 0, 0, 0, 0), (40, .iload 4, 0, 0, 0, 0), (42, .iload_n 3, 0, 0, 0, 0), (43, .if_icmp .le 8, 0, 0, 51, 0), (46, .iload 4, 0, 0, 0, 0), (48, .goto 4, 0, 0, 52, 0)]
theorem so_X7_longestWord_38 : sgOK mi_X7_longestWord gm_X7_longestWord sg_X7_longestWord_38 = true := by decide +kernel
def sg_X7_longestWord_51 : List Ins := [(51, .iload_n 3, 0, 0, 0, 0), (52, .istore_n 3, 0, 0, 0, 0), (53, .iinc 5 1, 1, 0, 0, 0), (56, .goto (-48), 0, 0, 8, 0)]
theorem so_X7_longestWord_51 : sgOK mi_X7_longestWord gm_X7_longestWord sg_X7_longestWord_51 = true := by decide +kernel
def sg_X7_longestWord_52 : List Ins := [(52, .istore_n 3, 0, 0, 0, 0), (53, .iinc 5 1, 1, 0, 0, 0), (56, .goto (-48), 0, 0, 8, 0)]
theorem so_X7_longestWord_52 : sgOK mi_X7_longestWord gm_X7_longestWord sg_X7_longestWord_52 = true := by decide +kernel
def sg_X7_longestWord_59 : List Ins := [(59, .iload_n 3, 0, 0, 0, 0), (60, .ireturn, 0, 0, 0, 0)]
theorem so_X7_longestWord_59 : sgOK mi_X7_longestWord gm_X7_longestWord sg_X7_longestWord_59 = true := by decide +kernel
def sgs_X7_longestWord : Nat → Option (List Ins) := fun t => match t with
  | 0 => some sg_X7_longestWord_0
  | 37 => some sg_X7_longestWord_37
  | 38 => some sg_X7_longestWord_38
  | 51 => some sg_X7_longestWord_51
  | 52 => some sg_X7_longestWord_52
  | 59 => some sg_X7_longestWord_59
  | _ => none
theorem so_X7_longestWord : ∀ t sg, sgs_X7_longestWord t = some sg → sgOK mi_X7_longestWord gm_X7_longestWord sg = true ∧ segPc sg = t := by
  intro t sg h
  unfold sgs_X7_longestWord at h
  split at h
  · cases h; exact ⟨so_X7_longestWord_0, rfl⟩
  · cases h; exact ⟨so_X7_longestWord_37, rfl⟩
  · cases h; exact ⟨so_X7_longestWord_38, rfl⟩
  · cases h; exact ⟨so_X7_longestWord_51, rfl⟩
  · cases h; exact ⟨so_X7_longestWord_52, rfl⟩
  · cases h; exact ⟨so_X7_longestWord_59, rfl⟩
  · cases h
def gm_X7_row : List MI := [mi_X7_isRow, mi_X7_in, mi_X7_longestWord, mi_X7_spotOf, mi_X7_isSo, mi_X7_flag]
def sg_X7_row_0 : List Ins := [(0, .aload_n 0, 0, 0, 0, 0), (1, .getfield 7, 7, 0, 717, 0), (4, .bipush 6, 6, 0, 0, 0), (6, .iaload, 8, 0, 0, 0), (7, .bipush (-6), 6, 1, 0, 0), (9, .if_icmp .eq 10, 0, 0, 19, 0), (12, .iload_n 1, 0, 0, 0, 0), (13, .invokestatic 74, 841, 0, 0, 1), (16, .ifCond .ne 5, 0, 0, 21, 0), (19, .iconst (-1), 1, 1, 0, 0), (20, .ireturn, 0, 0, 0, 0)]
theorem so_X7_row_0 : sgOK mi_X7_row gm_X7_row sg_X7_row_0 = true := by decide +kernel
def sg_X7_row_19 : List Ins := [(19, .iconst (-1), 1, 1, 0, 0), (20, .ireturn, 0, 0, 0, 0)]
theorem so_X7_row_19 : sgOK mi_X7_row gm_X7_row sg_X7_row_19 = true := by decide +kernel
def sg_X7_row_21 : List Ins := [(21, .iload_n 2, 0, 0, 0, 0), (22, .i2l, 0, 0, 0, 0), (23, .lconst 0, 0, 0, 0, 0), (24, .ldc2_w 181, 4, 2, 964, 0), (27, .invokestatic 68, 768, 1, 0, 3), (30, .ifCond .ne 6, 0, 0, 36, 0), (33, .bipush (-2), 2, 1, 0, 0), (35, .ireturn, 0, 0, 0, 0)]
theorem so_X7_row_21 : sgOK mi_X7_row gm_X7_row sg_X7_row_21 = true := by decide +kernel
def sg_X7_row_36 : List Ins := [(36, .iload_n 2, 0, 0, 0, 0), (37, .iconst 4, 4, 0, 0, 0), (38, .if_icmp .ne 16, 0, 0, 54, 0), (41, .aload_n 0, 0, 0, 0, 0), (42, .aload_n 0, 0, 0, 0, 0), (43, .getfield 7, 7, 0, 717, 0), (46, .bipush 6, 6, 0, 0, 0), (48, .iaload, 8, 0, 0, 0), (49, .iload_n 1, 0, 0, 0, 0), (50, .invokevirtual 183, 965, 2, 17, 3), (53, .ireturn, 0, 0, 0, 0)]
theorem so_X7_row_36 : sgOK mi_X7_row gm_X7_row sg_X7_row_36 = true := by decide +kernel
def sg_X7_row_54 : List Ins := [(54, .iconst 0, 0, 0, 0, 0), (55, .istore_n 3, 0, 0, 0, 0), (56, .iconst 0, 0, 0, 0, 0), (57, .istore 4, 0, 0, 0, 0), (59, .nop, 0, 0, 0, 0)]
theorem so_X7_row_54 : sgOK mi_X7_row gm_X7_row sg_X7_row_54 = true := by decide +kernel
def sg_X7_row_59 : List Ins := [(59, .iload 4, 0, 0, 0, 0), (61, .bipush 12, 12, 0, 0, 0), (63, .if_icmp .ge 36, 0, 0, 99, 0), (66, .iload_n 3, 0, 0, 0, 0), (67, .aload_n 0, 0, 0, 0, 0), (68, .aload_n 0, 0, 0, 0, 0), (69, .getfield 7, 7, 0, 717, 0), (72, .bipush 6, 6, 0, 0, 0), (74, .iaload, 8, 0, 0, 0), (75, .iload_n 1, 0, 0, 0, 0), (76, .iload 4, 0, 0, 0, 0), (78, .invokestatic 94, 846, 3, 0, 2), (81, .iload_n 2, 0, 0, 0, 0), (82, .invokevirtual 186, 969, 4, 17, 4), (85, .invokestatic 177, 957, 5, 0, 1), (88, .iload 4, 0, 0, 0, 0), (90, .ishl, 0, 0, 0, 0), (91, .ior, 0, 0, 0, 0), (92, .istore_n 3, 0, 0, 0, 0), (93, .iinc 4 1, 1, 0, 0, 0), (96, .goto (-37), 0, 0, 59, 0)]
theorem so_X7_row_59 : sgOK mi_X7_row gm_X7_row sg_X7_row_59 = true := by decide +kernel
def sg_X7_row_99 : List Ins := [(99, .iload_n 3, 0, 0, 0, 0), (100, .ireturn, 0, 0, 0, 0)]
theorem so_X7_row_99 : sgOK mi_X7_row gm_X7_row sg_X7_row_99 = true := by decide +kernel
def sgs_X7_row : Nat → Option (List Ins) := fun t => match t with
  | 0 => some sg_X7_row_0
  | 19 => some sg_X7_row_19
  | 21 => some sg_X7_row_21
  | 36 => some sg_X7_row_36
  | 54 => some sg_X7_row_54
  | 99 => some sg_X7_row_99
  | _ => none
theorem so_X7_row : ∀ t sg, sgs_X7_row t = some sg → sgOK mi_X7_row gm_X7_row sg = true ∧ segPc sg = t := by
  intro t sg h
  unfold sgs_X7_row at h
  split at h
  · cases h; exact ⟨so_X7_row_0, rfl⟩
  · cases h; exact ⟨so_X7_row_19, rfl⟩
  · cases h; exact ⟨so_X7_row_21, rfl⟩
  · cases h; exact ⟨so_X7_row_36, rfl⟩
  · cases h; exact ⟨so_X7_row_54, rfl⟩
  · cases h; exact ⟨so_X7_row_99, rfl⟩
  · cases h
def gm_X7_counted : List MI := [mi_X7_hasLetter, mi_X7_inkAt, mi_X7_canRead, mi_X7_promisedTo, mi_X7_flag]
def sg_X7_counted_0 : List Ins := [(0, .iconst 0, 0, 0, 0, 0), (1, .istore_n 3, 0, 0, 0, 0), (2, .iconst 0, 0, 0, 0, 0), (3, .istore 4, 0, 0, 0, 0), (5, .nop, 0, 0, 0, 0)]
theorem so_X7_counted_0 : sgOK mi_X7_counted gm_X7_counted sg_X7_counted_0 = true := by decide +kernel
def sg_X7_counted_5 : List Ins := [(5, .iload 4, 0, 0, 0, 0), (7, .aload_n 0, 0, 0, 0, 0), (8, .getfield 7, 7, 0, 717, 0), (11, .iconst 5, 5, 0, 0, 0), (12, .iaload, 8, 0, 0, 0), (13, .if_icmp .ge 128, 0, 0, 141, 0), (16, .iconst 0, 0, 0, 0, 0), (17, .istore 5, 0, 0, 0, 0), (19, .nop, 0, 0, 0, 0)]
theorem so_X7_counted_5 : sgOK mi_X7_counted gm_X7_counted sg_X7_counted_5 = true := by decide +kernel
def sg_X7_counted_19 : List Ins := [(19, .iload 5, 0, 0, 0, 0), (21, .bipush 120, 120, 0, 0, 0), (23, .if_icmp .ge 112, 0, 0, 135, 0), (26, .aload_n 0, 0, 0, 0, 0), (27, .iconst 0, 0, 0, 0, 0), (28, .iload 4, 0, 0, 0, 0), (30, .iload 5, 0, 0, 0, 0), (32, .invokevirtual 50, 853, 0, 17, 4), (35, .ifCond .eq 27, 0, 0, 62, 0), (38, .aload_n 0, 0, 0, 0, 0), (39, .getfield 7, 7, 0, 717, 0), (42, .iconst 0, 0, 0, 0, 0), (43, .iload 4, 0, 0, 0, 0), (45, .iload 5, 0, 0, 0, 0), (47, .invokestatic 35, 790, 1, 0, 3), (50, .iaload, 8, 0, 0, 0), (51, .bipush 26, 26, 0, 0, 0), (53, .idiv, 0, 0, 0, 0), (54, .iload_n 1, 0, 0, 0, 0), (55, .if_icmp .ne 7, 0, 0, 62, 0), (58, .iconst 1, 1, 0, 0, 0), (59, .goto 4, 0, 0, 63, 0)]
theorem so_X7_counted_19 : sgOK mi_X7_counted gm_X7_counted sg_X7_counted_19 = true := by decide +kernel
def sg_X7_counted_62 : List Ins := [(62, .iconst 0, 0, 0, 0, 0), (63, .istore 6, 0, 0, 0, 0), (65, .iload_n 3, 0, 0, 0, 0), (66, .iload_n 2, 0, 0, 0, 0), (67, .iconst 1, 1, 0, 0, 0), (68, .if_icmp .ne 8, 0, 0, 76, 0), (71, .iload 6, 0, 0, 0, 0), (73, .goto 51, 0, 0, 124, 0)]
theorem so_X7_counted_62 : sgOK mi_X7_counted gm_X7_counted sg_X7_counted_62 = true := by decide +kernel
def sg_X7_counted_63 : List Ins := [(63, .istore 6, 0, 0, 0, 0), (65, .iload_n 3, 0, 0, 0, 0), (66, .iload_n 2, 0, 0, 0, 0), (67, .iconst 1, 1, 0, 0, 0), (68, .if_icmp .ne 8, 0, 0, 76, 0), (71, .iload 6, 0, 0, 0, 0), (73, .goto 51, 0, 0, 124, 0)]
theorem so_X7_counted_63 : sgOK mi_X7_counted gm_X7_counted sg_X7_counted_63 = true := by decide +kernel
def sg_X7_counted_76 : List Ins := [(76, .iload_n 2, 0, 0, 0, 0), (77, .iconst 2, 2, 0, 0, 0), (78, .if_icmp .ne 28, 0, 0, 106, 0), (81, .iload 6, 0, 0, 0, 0), (83, .ifCond .eq 19, 0, 0, 102, 0), (86, .aload_n 0, 0, 0, 0, 0), (87, .iconst 0, 0, 0, 0, 0), (88, .iload 4, 0, 0, 0, 0), (90, .iload 5, 0, 0, 0, 0), (92, .invokevirtual 65, 870, 2, 17, 4), (95, .ifCond .eq 7, 0, 0, 102, 0), (98, .iconst 1, 1, 0, 0, 0), (99, .goto 25, 0, 0, 124, 0)]
theorem so_X7_counted_76 : sgOK mi_X7_counted gm_X7_counted sg_X7_counted_76 = true := by decide +kernel
def sg_X7_counted_102 : List Ins := [(102, .iconst 0, 0, 0, 0, 0), (103, .goto 21, 0, 0, 124, 0)]
theorem so_X7_counted_102 : sgOK mi_X7_counted gm_X7_counted sg_X7_counted_102 = true := by decide +kernel
def sg_X7_counted_106 : List Ins := [(106, .aload_n 0, 0, 0, 0, 0), (107, .iconst 0, 0, 0, 0, 0), (108, .iload 4, 0, 0, 0, 0), (110, .iload 5, 0, 0, 0, 0), (112, .invokevirtual 43, 849, 3, 17, 4), (115, .iload_n 1, 0, 0, 0, 0), (116, .if_icmp .ne 7, 0, 0, 123, 0), (119, .iconst 1, 1, 0, 0, 0), (120, .goto 4, 0, 0, 124, 0)]
theorem so_X7_counted_106 : sgOK mi_X7_counted gm_X7_counted sg_X7_counted_106 = true := by decide +kernel
def sg_X7_counted_123 : List Ins := [(123, .iconst 0, 0, 0, 0, 0), (124, .invokestatic 177, 957, 4, 0, 1), (127, .iadd, 0, 0, 0, 0), (128, .istore_n 3, 0, 0, 0, 0), (129, .iinc 5 1, 1, 0, 0, 0), (132, .goto (-113), 0, 0, 19, 0)]
theorem so_X7_counted_123 : sgOK mi_X7_counted gm_X7_counted sg_X7_counted_123 = true := by decide +kernel
def sg_X7_counted_124 : List Ins := [(124, .invokestatic 177, 957, 4, 0, 1), (127, .iadd, 0, 0, 0, 0), (128, .istore_n 3, 0, 0, 0, 0), (129, .iinc 5 1, 1, 0, 0, 0), (132, .goto (-113), 0, 0, 19, 0)]
theorem so_X7_counted_124 : sgOK mi_X7_counted gm_X7_counted sg_X7_counted_124 = true := by decide +kernel
def sg_X7_counted_135 : List Ins := [(135, .iinc 4 1, 1, 0, 0, 0), (138, .goto (-133), 0, 0, 5, 0)]
theorem so_X7_counted_135 : sgOK mi_X7_counted gm_X7_counted sg_X7_counted_135 = true := by decide +kernel
def sg_X7_counted_141 : List Ins := [(141, .iload_n 3, 0, 0, 0, 0), (142, .ireturn, 0, 0, 0, 0)]
theorem so_X7_counted_141 : sgOK mi_X7_counted gm_X7_counted sg_X7_counted_141 = true := by decide +kernel
def sgs_X7_counted : Nat → Option (List Ins) := fun t => match t with
  | 0 => some sg_X7_counted_0
  | 62 => some sg_X7_counted_62
  | 63 => some sg_X7_counted_63
  | 76 => some sg_X7_counted_76
  | 102 => some sg_X7_counted_102
  | 106 => some sg_X7_counted_106
  | 123 => some sg_X7_counted_123
  | 124 => some sg_X7_counted_124
  | 135 => some sg_X7_counted_135
  | 141 => some sg_X7_counted_141
  | _ => none
theorem so_X7_counted : ∀ t sg, sgs_X7_counted t = some sg → sgOK mi_X7_counted gm_X7_counted sg = true ∧ segPc sg = t := by
  intro t sg h
  unfold sgs_X7_counted at h
  split at h
  · cases h; exact ⟨so_X7_counted_0, rfl⟩
  · cases h; exact ⟨so_X7_counted_62, rfl⟩
  · cases h; exact ⟨so_X7_counted_63, rfl⟩
  · cases h; exact ⟨so_X7_counted_76, rfl⟩
  · cases h; exact ⟨so_X7_counted_102, rfl⟩
  · cases h; exact ⟨so_X7_counted_106, rfl⟩
  · cases h; exact ⟨so_X7_counted_123, rfl⟩
  · cases h; exact ⟨so_X7_counted_124, rfl⟩
  · cases h; exact ⟨so_X7_counted_135, rfl⟩
  · cases h; exact ⟨so_X7_counted_141, rfl⟩
  · cases h
def gm_X7_of : List MI := [mi_X7_isWriter, mi_X7_counted]
def sg_X7_of_0 : List Ins := [(0, .aload_n 0, 0, 0, 0, 0), (1, .iload_n 1, 0, 0, 0, 0), (2, .invokevirtual 85, 833, 0, 17, 2), (5, .ifCond .ne 5, 0, 0, 10, 0), (8, .iconst (-1), 1, 1, 0, 0), (9, .ireturn, 0, 0, 0, 0)]
theorem so_X7_of_0 : sgOK mi_X7_of gm_X7_of sg_X7_of_0 = true := by decide +kernel
def sg_X7_of_10 : List Ins := [(10, .iload_n 2, 0, 0, 0, 0), (11, .tableswitch 74 0 5 #[37, 47, 47, 47, 54, 64], 37, 0, 0, 0)]
theorem so_X7_of_10 : sgOK mi_X7_of gm_X7_of sg_X7_of_10 = true := by decide +kernel
def sg_X7_of_48 : List Ins := [(48, .aload_n 0, 0, 0, 0, 0), (49, .getfield 7, 7, 0, 717, 0), (52, .bipush 8, 8, 0, 0, 0), (54, .iload_n 1, 0, 0, 0, 0), (55, .iadd, 0, 0, 0, 0), (56, .iaload, 8, 0, 0, 0), (57, .ireturn, 0, 0, 0, 0)]
theorem so_X7_of_48 : sgOK mi_X7_of gm_X7_of sg_X7_of_48 = true := by decide +kernel
def sg_X7_of_58 : List Ins := [(58, .aload_n 0, 0, 0, 0, 0), (59, .iload_n 1, 0, 0, 0, 0), (60, .iload_n 2, 0, 0, 0, 0), (61, .invokevirtual 189, 977, 1, 17, 3), (64, .ireturn, 0, 0, 0, 0)]
theorem so_X7_of_58 : sgOK mi_X7_of gm_X7_of sg_X7_of_58 = true := by decide +kernel
def sg_X7_of_65 : List Ins := [(65, .aload_n 0, 0, 0, 0, 0), (66, .getfield 7, 7, 0, 717, 0), (69, .bipush 13, 13, 0, 0, 0), (71, .iload_n 1, 0, 0, 0, 0), (72, .iadd, 0, 0, 0, 0), (73, .iaload, 8, 0, 0, 0), (74, .ireturn, 0, 0, 0, 0)]
theorem so_X7_of_65 : sgOK mi_X7_of gm_X7_of sg_X7_of_65 = true := by decide +kernel
def sg_X7_of_75 : List Ins := [(75, .aload_n 0, 0, 0, 0, 0), (76, .getfield 7, 7, 0, 717, 0), (79, .bipush 18, 18, 0, 0, 0), (81, .iload_n 1, 0, 0, 0, 0), (82, .iadd, 0, 0, 0, 0), (83, .iaload, 8, 0, 0, 0), (84, .ireturn, 0, 0, 0, 0)]
theorem so_X7_of_75 : sgOK mi_X7_of gm_X7_of sg_X7_of_75 = true := by decide +kernel
def sg_X7_of_85 : List Ins := [(85, .bipush (-2), 2, 1, 0, 0), (87, .ireturn, 0, 0, 0, 0)]
theorem so_X7_of_85 : sgOK mi_X7_of gm_X7_of sg_X7_of_85 = true := by decide +kernel
def sgs_X7_of : Nat → Option (List Ins) := fun t => match t with
  | 0 => some sg_X7_of_0
  | 10 => some sg_X7_of_10
  | 48 => some sg_X7_of_48
  | 58 => some sg_X7_of_58
  | 65 => some sg_X7_of_65
  | 75 => some sg_X7_of_75
  | 85 => some sg_X7_of_85
  | _ => none
theorem so_X7_of : ∀ t sg, sgs_X7_of t = some sg → sgOK mi_X7_of gm_X7_of sg = true ∧ segPc sg = t := by
  intro t sg h
  unfold sgs_X7_of at h
  split at h
  · cases h; exact ⟨so_X7_of_0, rfl⟩
  · cases h; exact ⟨so_X7_of_10, rfl⟩
  · cases h; exact ⟨so_X7_of_48, rfl⟩
  · cases h; exact ⟨so_X7_of_58, rfl⟩
  · cases h; exact ⟨so_X7_of_65, rfl⟩
  · cases h; exact ⟨so_X7_of_75, rfl⟩
  · cases h; exact ⟨so_X7_of_85, rfl⟩
  · cases h
def gm_X7_leastLight : List MI := [mi_X7_lightAt]
def sg_X7_leastLight_0 : List Ins := [(0, .aload_n 0, 0, 0, 0, 0), (1, .getfield 13, 7, 1, 718, 0), (4, .iconst 0, 0, 0, 0, 0), (5, .iload_n 1, 0, 0, 0, 0), (6, .iconst 0, 0, 0, 0, 0), (7, .invokestatic 40, 793, 0, 0, 3), (10, .faload, 0, 0, 0, 0), (11, .fstore_n 2, 0, 0, 0, 0), (12, .iconst 1, 1, 0, 0, 0), (13, .istore_n 3, 0, 0, 0, 0), (14, .nop, 0, 0, 0, 0)]
theorem so_X7_leastLight_0 : sgOK mi_X7_leastLight gm_X7_leastLight sg_X7_leastLight_0 = true := by decide +kernel
def sg_X7_leastLight_14 : List Ins := [(14, .iload_n 3, 0, 0, 0, 0), (15, .bipush 120, 120, 0, 0, 0), (17, .if_icmp .ge 36, 0, 0, 53, 0), (20, .aload_n 0, 0, 0, 0, 0), (21, .getfield 13, 7, 1, 718, 0), (24, .iconst 0, 0, 0, 0, 0), (25, .iload_n 1, 0, 0, 0, 0), (26, .iload_n 3, 0, 0, 0, 0), (27, .invokestatic 40, 793, 0, 0, 3), (30, .faload, 0, 0, 0, 0), (31, .fstore 4, 0, 0, 0, 0), (33, .fload 4, 0, 0, 0, 0), (35, .fload_n 2, 0, 0, 0, 0), (36, .fcmp .g, 0, 0, 0, 0), (37, .ifCond .ge 8, 0, 0, 45, 0), (40, .fload 4, 0, 0, 0, 0), (42, .goto 4, 0, 0, 46, 0)]
theorem so_X7_leastLight_14 : sgOK mi_X7_leastLight gm_X7_leastLight sg_X7_leastLight_14 = true := by decide +kernel
def sg_X7_leastLight_45 : List Ins := [(45, .fload_n 2, 0, 0, 0, 0), (46, .fstore_n 2, 0, 0, 0, 0), (47, .iinc 3 1, 1, 0, 0, 0), (50, .goto (-36), 0, 0, 14, 0)]
theorem so_X7_leastLight_45 : sgOK mi_X7_leastLight gm_X7_leastLight sg_X7_leastLight_45 = true := by decide +kernel
def sg_X7_leastLight_46 : List Ins := [(46, .fstore_n 2, 0, 0, 0, 0), (47, .iinc 3 1, 1, 0, 0, 0), (50, .goto (-36), 0, 0, 14, 0)]
theorem so_X7_leastLight_46 : sgOK mi_X7_leastLight gm_X7_leastLight sg_X7_leastLight_46 = true := by decide +kernel
def sg_X7_leastLight_53 : List Ins := [(53, .fload_n 2, 0, 0, 0, 0), (54, .freturn, 0, 0, 0, 0)]
theorem so_X7_leastLight_53 : sgOK mi_X7_leastLight gm_X7_leastLight sg_X7_leastLight_53 = true := by decide +kernel
def sgs_X7_leastLight : Nat → Option (List Ins) := fun t => match t with
  | 0 => some sg_X7_leastLight_0
  | 45 => some sg_X7_leastLight_45
  | 46 => some sg_X7_leastLight_46
  | 53 => some sg_X7_leastLight_53
  | _ => none
theorem so_X7_leastLight : ∀ t sg, sgs_X7_leastLight t = some sg → sgOK mi_X7_leastLight gm_X7_leastLight sg = true ∧ segPc sg = t := by
  intro t sg h
  unfold sgs_X7_leastLight at h
  split at h
  · cases h; exact ⟨so_X7_leastLight_0, rfl⟩
  · cases h; exact ⟨so_X7_leastLight_45, rfl⟩
  · cases h; exact ⟨so_X7_leastLight_46, rfl⟩
  · cases h; exact ⟨so_X7_leastLight_53, rfl⟩
  · cases h
def gm_X7_allLight : List MI := [mi_X7_lightAt]
def sg_X7_allLight_0 : List Ins := [(0, .fconst 0, 0, 0, 0, 0), (1, .fstore_n 2, 0, 0, 0, 0), (2, .iconst 0, 0, 0, 0, 0), (3, .istore_n 3, 0, 0, 0, 0), (4, .nop, 0, 0, 0, 0)]
theorem so_X7_allLight_0 : sgOK mi_X7_allLight gm_X7_allLight sg_X7_allLight_0 = true := by decide +kernel
def sg_X7_allLight_4 : List Ins := [(4, .iload_n 3, 0, 0, 0, 0), (5, .bipush 120, 120, 0, 0, 0), (7, .if_icmp .ge 23, 0, 0, 30, 0), (10, .fload_n 2, 0, 0, 0, 0), (11, .aload_n 0, 0, 0, 0, 0), (12, .getfield 13, 7, 1, 718, 0), (15, .iconst 0, 0, 0, 0, 0), (16, .iload_n 1, 0, 0, 0, 0), (17, .iload_n 3, 0, 0, 0, 0), (18, .invokestatic 40, 793, 0, 0, 3), (21, .faload, 0, 0, 0, 0), (22, .fadd, 0, 0, 0, 0), (23, .fstore_n 2, 0, 0, 0, 0), (24, .iinc 3 1, 1, 0, 0, 0), (27, .goto (-23), 0, 0, 4, 0)]
theorem so_X7_allLight_4 : sgOK mi_X7_allLight gm_X7_allLight sg_X7_allLight_4 = true := by decide +kernel
def sg_X7_allLight_30 : List Ins := [(30, .fload_n 2, 0, 0, 0, 0), (31, .freturn, 0, 0, 0, 0)]
theorem so_X7_allLight_30 : sgOK mi_X7_allLight gm_X7_allLight sg_X7_allLight_30 = true := by decide +kernel
def sgs_X7_allLight : Nat → Option (List Ins) := fun t => match t with
  | 0 => some sg_X7_allLight_0
  | 30 => some sg_X7_allLight_30
  | _ => none
theorem so_X7_allLight : ∀ t sg, sgs_X7_allLight t = some sg → sgOK mi_X7_allLight gm_X7_allLight sg = true ∧ segPc sg = t := by
  intro t sg h
  unfold sgs_X7_allLight at h
  split at h
  · cases h; exact ⟨so_X7_allLight_0, rfl⟩
  · cases h; exact ⟨so_X7_allLight_30, rfl⟩
  · cases h
def gm_X7_ofPlate : List MI := [mi_X7_isPlate, mi_X7_in, mi_X7_leastLight, mi_X7_allLight, mi_Jxf58ca_floatToIntBits_5c35a, mi_X7_isSo, mi_X7_flag]
def sg_X7_ofPlate_0 : List Ins := [(0, .aload_n 0, 0, 0, 0, 0), (1, .iload_n 1, 0, 0, 0, 0), (2, .invokevirtual 80, 804, 0, 17, 2), (5, .ifCond .ne 5, 0, 0, 10, 0), (8, .iconst (-1), 1, 1, 0, 0), (9, .ireturn, 0, 0, 0, 0)]
theorem so_X7_ofPlate_0 : sgOK mi_X7_ofPlate gm_X7_ofPlate sg_X7_ofPlate_0 = true := by decide +kernel
def sg_X7_ofPlate_10 : List Ins := [(10, .iload_n 2, 0, 0, 0, 0), (11, .i2l, 0, 0, 0, 0), (12, .lconst 0, 0, 0, 0, 0), (13, .ldc2_w 83, 5, 2, 820, 0), (16, .invokestatic 68, 768, 1, 0, 3), (19, .ifCond .ne 6, 0, 0, 25, 0), (22, .bipush (-2), 2, 1, 0, 0), (24, .ireturn, 0, 0, 0, 0)]
theorem so_X7_ofPlate_10 : sgOK mi_X7_ofPlate gm_X7_ofPlate sg_X7_ofPlate_10 = true := by decide +kernel
def sg_X7_ofPlate_25 : List Ins := [(25, .iload_n 2, 0, 0, 0, 0), (26, .iconst 3, 3, 0, 0, 0), (27, .if_icmp .le 25, 0, 0, 52, 0), (30, .iload_n 2, 0, 0, 0, 0), (31, .iconst 4, 4, 0, 0, 0), (32, .if_icmp .ne 11, 0, 0, 43, 0), (35, .aload_n 0, 0, 0, 0, 0), (36, .iload_n 1, 0, 0, 0, 0), (37, .invokevirtual 192, 985, 2, 17, 2), (40, .goto 8, 0, 0, 48, 0)]
theorem so_X7_ofPlate_25 : sgOK mi_X7_ofPlate gm_X7_ofPlate sg_X7_ofPlate_25 = true := by decide +kernel
def sg_X7_ofPlate_43 : List Ins := [(43, .aload_n 0, 0, 0, 0, 0), (44, .iload_n 1, 0, 0, 0, 0), (45, .invokevirtual 196, 989, 3, 17, 2), (48, .invokestatic 171, 947, 4, 0, 1), (51, .ireturn, 0, 0, 0, 0)]
theorem so_X7_ofPlate_43 : sgOK mi_X7_ofPlate gm_X7_ofPlate sg_X7_ofPlate_43 = true := by decide +kernel
def sg_X7_ofPlate_48 : List Ins := [(48, .invokestatic 171, 947, 4, 0, 1), (51, .ireturn, 0, 0, 0, 0)]
theorem so_X7_ofPlate_48 : sgOK mi_X7_ofPlate gm_X7_ofPlate sg_X7_ofPlate_48 = true := by decide +kernel
def sg_X7_ofPlate_52 : List Ins := [(52, .iconst 0, 0, 0, 0, 0), (53, .istore_n 3, 0, 0, 0, 0), (54, .iconst 0, 0, 0, 0, 0), (55, .istore 4, 0, 0, 0, 0), (57, .nop, 0, 0, 0, 0)]
theorem so_X7_ofPlate_52 : sgOK mi_X7_ofPlate gm_X7_ofPlate sg_X7_ofPlate_52 = true := by decide +kernel
def sg_X7_ofPlate_57 : List Ins := [(57, .iload 4, 0, 0, 0, 0), (59, .bipush 120, 120, 0, 0, 0), (61, .if_icmp .ge 23, 0, 0, 84, 0), (64, .iload_n 3, 0, 0, 0, 0), (65, .aload_n 0, 0, 0, 0, 0), (66, .iload_n 1, 0, 0, 0, 0), (67, .iload 4, 0, 0, 0, 0), (69, .iload_n 2, 0, 0, 0, 0), (70, .invokevirtual 186, 969, 5, 17, 4), (73, .invokestatic 177, 957, 6, 0, 1), (76, .iadd, 0, 0, 0, 0), (77, .istore_n 3, 0, 0, 0, 0), (78, .iinc 4 1, 1, 0, 0, 0), (81, .goto (-24), 0, 0, 57, 0)]
theorem so_X7_ofPlate_57 : sgOK mi_X7_ofPlate gm_X7_ofPlate sg_X7_ofPlate_57 = true := by decide +kernel
def sg_X7_ofPlate_84 : List Ins := [(84, .iload_n 3, 0, 0, 0, 0), (85, .ireturn, 0, 0, 0, 0)]
theorem so_X7_ofPlate_84 : sgOK mi_X7_ofPlate gm_X7_ofPlate sg_X7_ofPlate_84 = true := by decide +kernel
def sgs_X7_ofPlate : Nat → Option (List Ins) := fun t => match t with
  | 0 => some sg_X7_ofPlate_0
  | 10 => some sg_X7_ofPlate_10
  | 25 => some sg_X7_ofPlate_25
  | 43 => some sg_X7_ofPlate_43
  | 48 => some sg_X7_ofPlate_48
  | 52 => some sg_X7_ofPlate_52
  | 84 => some sg_X7_ofPlate_84
  | _ => none
theorem so_X7_ofPlate : ∀ t sg, sgs_X7_ofPlate t = some sg → sgOK mi_X7_ofPlate gm_X7_ofPlate sg = true ∧ segPc sg = t := by
  intro t sg h
  unfold sgs_X7_ofPlate at h
  split at h
  · cases h; exact ⟨so_X7_ofPlate_0, rfl⟩
  · cases h; exact ⟨so_X7_ofPlate_10, rfl⟩
  · cases h; exact ⟨so_X7_ofPlate_25, rfl⟩
  · cases h; exact ⟨so_X7_ofPlate_43, rfl⟩
  · cases h; exact ⟨so_X7_ofPlate_48, rfl⟩
  · cases h; exact ⟨so_X7_ofPlate_52, rfl⟩
  · cases h; exact ⟨so_X7_ofPlate_84, rfl⟩
  · cases h
def gm_X7_count : List MI := []
def sg_X7_count_0 : List Ins := [(0, .iload_n 1, 0, 0, 0, 0), (1, .tableswitch 104 0 9 #[55, 62, 69, 77, 85, 85, 85, 85, 94, 99], 55, 0, 0, 0)]
theorem so_X7_count_0 : sgOK mi_X7_count gm_X7_count sg_X7_count_0 = true := by decide +kernel
def sg_X7_count_56 : List Ins := [(56, .aload_n 0, 0, 0, 0, 0), (57, .getfield 7, 7, 0, 717, 0), (60, .iconst 4, 4, 0, 0, 0), (61, .iaload, 8, 0, 0, 0), (62, .ireturn, 0, 0, 0, 0)]
theorem so_X7_count_56 : sgOK mi_X7_count gm_X7_count sg_X7_count_56 = true := by decide +kernel
def sg_X7_count_63 : List Ins := [(63, .aload_n 0, 0, 0, 0, 0), (64, .getfield 7, 7, 0, 717, 0), (67, .iconst 5, 5, 0, 0, 0), (68, .iaload, 8, 0, 0, 0), (69, .ireturn, 0, 0, 0, 0)]
theorem so_X7_count_63 : sgOK mi_X7_count gm_X7_count sg_X7_count_63 = true := by decide +kernel
def sg_X7_count_70 : List Ins := [(70, .aload_n 0, 0, 0, 0, 0), (71, .getfield 7, 7, 0, 717, 0), (74, .bipush 6, 6, 0, 0, 0), (76, .iaload, 8, 0, 0, 0), (77, .ireturn, 0, 0, 0, 0)]
theorem so_X7_count_70 : sgOK mi_X7_count gm_X7_count sg_X7_count_70 = true := by decide +kernel
def sg_X7_count_78 : List Ins := [(78, .aload_n 0, 0, 0, 0, 0), (79, .getfield 7, 7, 0, 717, 0), (82, .bipush 7, 7, 0, 0, 0), (84, .iaload, 8, 0, 0, 0), (85, .ireturn, 0, 0, 0, 0)]
theorem so_X7_count_78 : sgOK mi_X7_count gm_X7_count sg_X7_count_78 = true := by decide +kernel
def sg_X7_count_86 : List Ins := [(86, .aload_n 0, 0, 0, 0, 0), (87, .getfield 7, 7, 0, 717, 0), (90, .iload_n 1, 0, 0, 0, 0), (91, .iconst 4, 4, 0, 0, 0), (92, .isub, 0, 0, 0, 0), (93, .iaload, 8, 0, 0, 0), (94, .ireturn, 0, 0, 0, 0)]
theorem so_X7_count_86 : sgOK mi_X7_count gm_X7_count sg_X7_count_86 = true := by decide +kernel
def sg_X7_count_95 : List Ins := [(95, .aload_n 0, 0, 0, 0, 0), (96, .getfield 199, 7, 6, 723, 0), (99, .ireturn, 0, 0, 0, 0)]
theorem so_X7_count_95 : sgOK mi_X7_count gm_X7_count sg_X7_count_95 = true := by decide +kernel
def sg_X7_count_100 : List Ins := [(100, .aload_n 0, 0, 0, 0, 0), (101, .getfield 27, 7, 2, 719, 0), (104, .ireturn, 0, 0, 0, 0)]
theorem so_X7_count_100 : sgOK mi_X7_count gm_X7_count sg_X7_count_100 = true := by decide +kernel
def sg_X7_count_105 : List Ins := [(105, .bipush (-2), 2, 1, 0, 0), (107, .ireturn, 0, 0, 0, 0)]
theorem so_X7_count_105 : sgOK mi_X7_count gm_X7_count sg_X7_count_105 = true := by decide +kernel
def sgs_X7_count : Nat → Option (List Ins) := fun t => match t with
  | 0 => some sg_X7_count_0
  | 56 => some sg_X7_count_56
  | 63 => some sg_X7_count_63
  | 70 => some sg_X7_count_70
  | 78 => some sg_X7_count_78
  | 86 => some sg_X7_count_86
  | 95 => some sg_X7_count_95
  | 100 => some sg_X7_count_100
  | 105 => some sg_X7_count_105
  | _ => none
theorem so_X7_count : ∀ t sg, sgs_X7_count t = some sg → sgOK mi_X7_count gm_X7_count sg = true ∧ segPc sg = t := by
  intro t sg h
  unfold sgs_X7_count at h
  split at h
  · cases h; exact ⟨so_X7_count_0, rfl⟩
  · cases h; exact ⟨so_X7_count_56, rfl⟩
  · cases h; exact ⟨so_X7_count_63, rfl⟩
  · cases h; exact ⟨so_X7_count_70, rfl⟩
  · cases h; exact ⟨so_X7_count_78, rfl⟩
  · cases h; exact ⟨so_X7_count_86, rfl⟩
  · cases h; exact ⟨so_X7_count_95, rfl⟩
  · cases h; exact ⟨so_X7_count_100, rfl⟩
  · cases h; exact ⟨so_X7_count_105, rfl⟩
  · cases h
def gm_X7_mean : List MI := [mi_X7_lightAt, mi_Jxe99ae_doubleToLongBits_ccdee]
def sg_X7_mean_0 : List Ins := [(0, .dconst 0, 0, 0, 0, 0), (1, .dstore_n 1, 0, 0, 0, 0), (2, .iconst 0, 0, 0, 0, 0), (3, .istore_n 3, 0, 0, 0, 0), (4, .nop, 0, 0, 0, 0)]
theorem so_X7_mean_0 : sgOK mi_X7_mean gm_X7_mean sg_X7_mean_0 = true := by decide +kernel
def sg_X7_mean_4 : List Ins := [(4, .iload_n 3, 0, 0, 0, 0), (5, .bipush 120, 120, 0, 0, 0), (7, .if_icmp .ge 42, 0, 0, 49, 0), (10, .aload_n 0, 0, 0, 0, 0), (11, .getfield 7, 7, 0, 717, 0), (14, .bipush 6, 6, 0, 0, 0), (16, .iaload, 8, 0, 0, 0), (17, .bipush (-6), 6, 1, 0, 0), (19, .if_icmp .eq 30, 0, 0, 49, 0), (22, .dload_n 1, 0, 0, 0, 0), (23, .aload_n 0, 0, 0, 0, 0), (24, .getfield 13, 7, 1, 718, 0), (27, .iconst 0, 0, 0, 0, 0), (28, .aload_n 0, 0, 0, 0, 0), (29, .getfield 7, 7, 0, 717, 0), (32, .bipush 6, 6, 0, 0, 0), (34, .iaload, 8, 0, 0, 0), (35, .iload_n 3, 0, 0, 0, 0), (36, .invokestatic 40, 793, 0, 0, 3), (39, .faload, 0, 0, 0, 0), (40, .f2d, 0, 0, 0, 0), (41, .dadd, 0, 0, 0, 0), (42, .dstore_n 1, 0, 0, 0, 0), (43, .iinc 3 1, 1, 0, 0, 0), (46, .goto (-42), 0, 0, 4, 0)]
theorem so_X7_mean_4 : sgOK mi_X7_mean gm_X7_mean sg_X7_mean_4 = true := by decide +kernel
def sg_X7_mean_49 : List Ins := [(49, .dload_n 1, 0, 0, 0, 0), (50, .ldc2_w 202, 4638144666238189568, 3, 1001, 0), (53, .ddiv, 0, 0, 0, 0), (54, .invokestatic 204, 1002, 1, 0, 1), (57, .lreturn, 0, 0, 0, 0)]
theorem so_X7_mean_49 : sgOK mi_X7_mean gm_X7_mean sg_X7_mean_49 = true := by decide +kernel
def sgs_X7_mean : Nat → Option (List Ins) := fun t => match t with
  | 0 => some sg_X7_mean_0
  | 49 => some sg_X7_mean_49
  | _ => none
theorem so_X7_mean : ∀ t sg, sgs_X7_mean t = some sg → sgOK mi_X7_mean gm_X7_mean sg = true ∧ segPc sg = t := by
  intro t sg h
  unfold sgs_X7_mean at h
  split at h
  · cases h; exact ⟨so_X7_mean_0, rfl⟩
  · cases h; exact ⟨so_X7_mean_49, rfl⟩
  · cases h
def gm_X7_tooDark : List MI := [mi_X7_promisedTo, mi_X7_lightAt, mi_X7_isBright, mi_X7_flag]
def sg_X7_tooDark_0 : List Ins := [(0, .iconst 0, 0, 0, 0, 0), (1, .istore_n 3, 0, 0, 0, 0), (2, .iconst 0, 0, 0, 0, 0), (3, .istore 4, 0, 0, 0, 0), (5, .nop, 0, 0, 0, 0)]
theorem so_X7_tooDark_0 : sgOK mi_X7_tooDark gm_X7_tooDark sg_X7_tooDark_0 = true := by decide +kernel
def sg_X7_tooDark_5 : List Ins := [(5, .iload 4, 0, 0, 0, 0), (7, .bipush 120, 120, 0, 0, 0), (9, .if_icmp .ge 92, 0, 0, 101, 0), (12, .iload 4, 0, 0, 0, 0), (14, .iload_n 2, 0, 0, 0, 0), (15, .if_icmp .eq 20, 0, 0, 35, 0), (18, .aload_n 0, 0, 0, 0, 0), (19, .iconst 0, 0, 0, 0, 0), (20, .iload_n 1, 0, 0, 0, 0), (21, .iload 4, 0, 0, 0, 0), (23, .invokevirtual 43, 849, 0, 17, 4), (26, .bipush (-6), 6, 1, 0, 0), (28, .if_icmp .eq 7, 0, 0, 35, 0), (31, .iconst 1, 1, 0, 0, 0), (32, .goto 4, 0, 0, 36, 0)]
theorem so_X7_tooDark_5 : sgOK mi_X7_tooDark gm_X7_tooDark sg_X7_tooDark_5 = true := by decide +kernel
def sg_X7_tooDark_35 : List Ins := [(35, .iconst 0, 0, 0, 0, 0), (36, .istore 5, 0, 0, 0, 0), (38, .iload_n 3, 0, 0, 0, 0), (39, .iload 5, 0, 0, 0, 0), (41, .ifCond .eq 48, 0, 0, 89, 0), (44, .aload_n 0, 0, 0, 0, 0), (45, .iconst 0, 0, 0, 0, 0), (46, .aload_n 0, 0, 0, 0, 0), (47, .getfield 13, 7, 1, 718, 0), (50, .iconst 0, 0, 0, 0, 0), (51, .iload_n 1, 0, 0, 0, 0), (52, .iload 4, 0, 0, 0, 0), (54, .invokestatic 40, 793, 1, 0, 3), (57, .faload, 0, 0, 0, 0), (58, .invokevirtual 58, 857, 2, 17, 3), (61, .ifCond .eq 28, 0, 0, 89, 0), (64, .aload_n 0, 0, 0, 0, 0), (65, .iconst 0, 0, 0, 0, 0), (66, .aload_n 0, 0, 0, 0, 0), (67, .getfield 13, 7, 1, 718, 0), (70, .bipush 9, 9, 0, 0, 0), (72, .iload_n 1, 0, 0, 0, 0), (73, .iload 4, 0, 0, 0, 0), (75, .invokestatic 40, 793, 1, 0, 3), (78, .faload, 0, 0, 0, 0), (79, .invokevirtual 58, 857, 2, 17, 3), (82, .ifCond .ne 7, 0, 0, 89, 0), (85, .iconst 1, 1, 0, 0, 0), (86, .goto 4, 0, 0, 90, 0)]
theorem so_X7_tooDark_35 : sgOK mi_X7_tooDark gm_X7_tooDark sg_X7_tooDark_35 = true := by decide +kernel
def sg_X7_tooDark_36 : List Ins := [(36, .istore 5, 0, 0, 0, 0), (38, .iload_n 3, 0, 0, 0, 0), (39, .iload 5, 0, 0, 0, 0), (41, .ifCond .eq 48, 0, 0, 89, 0), (44, .aload_n 0, 0, 0, 0, 0), (45, .iconst 0, 0, 0, 0, 0), (46, .aload_n 0, 0, 0, 0, 0), (47, .getfield 13, 7, 1, 718, 0), (50, .iconst 0, 0, 0, 0, 0), (51, .iload_n 1, 0, 0, 0, 0), (52, .iload 4, 0, 0, 0, 0), (54, .invokestatic 40, 793, 1, 0, 3), (57, .faload, 0, 0, 0, 0), (58, .invokevirtual 58, 857, 2, 17, 3), (61, .ifCond .eq 28, 0, 0, 89, 0), (64, .aload_n 0, 0, 0, 0, 0), (65, .iconst 0, 0, 0, 0, 0), (66, .aload_n 0, 0, 0, 0, 0), (67, .getfield 13, 7, 1, 718, 0), (70, .bipush 9, 9, 0, 0, 0), (72, .iload_n 1, 0, 0, 0, 0), (73, .iload 4, 0, 0, 0, 0), (75, .invokestatic 40, 793, 1, 0, 3), (78, .faload, 0, 0, 0, 0), (79, .invokevirtual 58, 857, 2, 17, 3), (82, .ifCond .ne 7, 0, 0, 89, 0), (85, .iconst 1, 1, 0, 0, 0), (86, .goto 4, 0, 0, 90, 0)]
theorem so_X7_tooDark_36 : sgOK mi_X7_tooDark gm_X7_tooDark sg_X7_tooDark_36 = true := by decide +kernel
def sg_X7_tooDark_89 : List Ins := [(89, .iconst 0, 0, 0, 0, 0), (90, .invokestatic 177, 957, 3, 0, 1), (93, .iadd, 0, 0, 0, 0), (94, .istore_n 3, 0, 0, 0, 0), (95, .iinc 4 1, 1, 0, 0, 0), (98, .goto (-93), 0, 0, 5, 0)]
theorem so_X7_tooDark_89 : sgOK mi_X7_tooDark gm_X7_tooDark sg_X7_tooDark_89 = true := by decide +kernel
def sg_X7_tooDark_90 : List Ins := [(90, .invokestatic 177, 957, 3, 0, 1), (93, .iadd, 0, 0, 0, 0), (94, .istore_n 3, 0, 0, 0, 0), (95, .iinc 4 1, 1, 0, 0, 0), (98, .goto (-93), 0, 0, 5, 0)]
theorem so_X7_tooDark_90 : sgOK mi_X7_tooDark gm_X7_tooDark sg_X7_tooDark_90 = true := by decide +kernel
def sg_X7_tooDark_101 : List Ins := [(101, .iload_n 3, 0, 0, 0, 0), (102, .ireturn, 0, 0, 0, 0)]
theorem so_X7_tooDark_101 : sgOK mi_X7_tooDark gm_X7_tooDark sg_X7_tooDark_101 = true := by decide +kernel
def sgs_X7_tooDark : Nat → Option (List Ins) := fun t => match t with
  | 0 => some sg_X7_tooDark_0
  | 35 => some sg_X7_tooDark_35
  | 36 => some sg_X7_tooDark_36
  | 89 => some sg_X7_tooDark_89
  | 90 => some sg_X7_tooDark_90
  | 101 => some sg_X7_tooDark_101
  | _ => none
theorem so_X7_tooDark : ∀ t sg, sgs_X7_tooDark t = some sg → sgOK mi_X7_tooDark gm_X7_tooDark sg = true ∧ segPc sg = t := by
  intro t sg h
  unfold sgs_X7_tooDark at h
  split at h
  · cases h; exact ⟨so_X7_tooDark_0, rfl⟩
  · cases h; exact ⟨so_X7_tooDark_35, rfl⟩
  · cases h; exact ⟨so_X7_tooDark_36, rfl⟩
  · cases h; exact ⟨so_X7_tooDark_89, rfl⟩
  · cases h; exact ⟨so_X7_tooDark_90, rfl⟩
  · cases h; exact ⟨so_X7_tooDark_101, rfl⟩
  · cases h
def gm_X7_ifWritten : List MI := [mi_X7_isWriter, mi_X7_isThere, mi_X7_in, mi_X7_spotOf, mi_X7_looks, mi_X7_copies, mi_X7_writes, mi_X7_spoilt, mi_X7_tooDark, mi_X7_rooms]
def sg_X7_ifWritten_0 : List Ins := [(0, .aload_n 0, 0, 0, 0, 0), (1, .iload_n 1, 0, 0, 0, 0), (2, .invokevirtual 85, 833, 0, 17, 2), (5, .ifCond .eq 12, 0, 0, 17, 0), (8, .aload_n 0, 0, 0, 0, 0), (9, .iload_n 2, 0, 0, 0, 0), (10, .iload_n 3, 0, 0, 0, 0), (11, .invokevirtual 88, 837, 1, 17, 3), (14, .ifCond .ne 5, 0, 0, 19, 0), (17, .iconst (-1), 1, 1, 0, 0), (18, .ireturn, 0, 0, 0, 0)]
theorem so_X7_ifWritten_0 : sgOK mi_X7_ifWritten gm_X7_ifWritten sg_X7_ifWritten_0 = true := by decide +kernel
def sg_X7_ifWritten_17 : List Ins := [(17, .iconst (-1), 1, 1, 0, 0), (18, .ireturn, 0, 0, 0, 0)]
theorem so_X7_ifWritten_17 : sgOK mi_X7_ifWritten gm_X7_ifWritten sg_X7_ifWritten_17 = true := by decide +kernel
def sg_X7_ifWritten_19 : List Ins := [(19, .iload 4, 0, 0, 0, 0), (21, .i2l, 0, 0, 0, 0), (22, .lconst 0, 0, 0, 0, 0), (23, .ldc2_w 210, 2, 2, 1016, 0), (26, .invokestatic 68, 768, 2, 0, 3), (29, .ifCond .ne 6, 0, 0, 35, 0), (32, .bipush (-2), 2, 1, 0, 0), (34, .ireturn, 0, 0, 0, 0)]
theorem so_X7_ifWritten_19 : sgOK mi_X7_ifWritten gm_X7_ifWritten sg_X7_ifWritten_19 = true := by decide +kernel
def sg_X7_ifWritten_35 : List Ins := [(35, .aload_n 0, 0, 0, 0, 0), (36, .getfield 7, 7, 0, 717, 0), (39, .bipush 6, 6, 0, 0, 0), (41, .iaload, 8, 0, 0, 0), (42, .istore 5, 0, 0, 0, 0), (44, .iload_n 2, 0, 0, 0, 0), (45, .iload_n 3, 0, 0, 0, 0), (46, .invokestatic 94, 846, 3, 0, 2), (49, .istore 6, 0, 0, 0, 0), (51, .aload_n 0, 0, 0, 0, 0), (52, .iload 5, 0, 0, 0, 0), (54, .invokevirtual 100, 866, 4, 17, 2), (57, .aload_n 0, 0, 0, 0, 0), (58, .iconst 0, 0, 0, 0, 0), (59, .bipush 9, 9, 0, 0, 0), (61, .invokevirtual 31, 778, 5, 17, 3), (64, .aload_n 0, 0, 0, 0, 0), (65, .bipush 9, 9, 0, 0, 0), (67, .iload 5, 0, 0, 0, 0), (69, .iload 6, 0, 0, 0, 0), (71, .iload_n 1, 0, 0, 0, 0), (72, .iconst 0, 0, 0, 0, 0), (73, .invokevirtual 104, 874, 6, 17, 6), (76, .iload 4, 0, 0, 0, 0), (78, .ifCond .ne 16, 0, 0, 94, 0), (81, .aload_n 0, 0, 0, 0, 0), (82, .bipush 9, 9, 0, 0, 0), (84, .iload 5, 0, 0, 0, 0), (86, .iload 6, 0, 0, 0, 0), (88, .invokevirtual 108, 882, 7, 17, 4), (91, .goto 28, 0, 0, 119, 0)]
theorem so_X7_ifWritten_35 : sgOK mi_X7_ifWritten gm_X7_ifWritten sg_X7_ifWritten_35 = true := by decide +kernel
def sg_X7_ifWritten_94 : List Ins := [(94, .iload 4, 0, 0, 0, 0), (96, .iconst 1, 1, 0, 0, 0), (97, .if_icmp .ne 14, 0, 0, 111, 0), (100, .aload_n 0, 0, 0, 0, 0), (101, .iload 5, 0, 0, 0, 0), (103, .iload 6, 0, 0, 0, 0), (105, .invokevirtual 212, 1017, 8, 17, 3), (108, .goto 11, 0, 0, 119, 0)]
theorem so_X7_ifWritten_94 : sgOK mi_X7_ifWritten gm_X7_ifWritten sg_X7_ifWritten_94 = true := by decide +kernel
def sg_X7_ifWritten_111 : List Ins := [(111, .aload_n 0, 0, 0, 0, 0), (112, .bipush 9, 9, 0, 0, 0), (114, .iload 5, 0, 0, 0, 0), (116, .invokevirtual 215, 1021, 9, 17, 3), (119, .ireturn, 0, 0, 0, 0)]
theorem so_X7_ifWritten_111 : sgOK mi_X7_ifWritten gm_X7_ifWritten sg_X7_ifWritten_111 = true := by decide +kernel
def sg_X7_ifWritten_119 : List Ins := [(119, .ireturn, 0, 0, 0, 0)]
theorem so_X7_ifWritten_119 : sgOK mi_X7_ifWritten gm_X7_ifWritten sg_X7_ifWritten_119 = true := by decide +kernel
def sgs_X7_ifWritten : Nat → Option (List Ins) := fun t => match t with
  | 0 => some sg_X7_ifWritten_0
  | 17 => some sg_X7_ifWritten_17
  | 19 => some sg_X7_ifWritten_19
  | 35 => some sg_X7_ifWritten_35
  | 94 => some sg_X7_ifWritten_94
  | 111 => some sg_X7_ifWritten_111
  | 119 => some sg_X7_ifWritten_119
  | _ => none
theorem so_X7_ifWritten : ∀ t sg, sgs_X7_ifWritten t = some sg → sgOK mi_X7_ifWritten gm_X7_ifWritten sg = true ∧ segPc sg = t := by
  intro t sg h
  unfold sgs_X7_ifWritten at h
  split at h
  · cases h; exact ⟨so_X7_ifWritten_0, rfl⟩
  · cases h; exact ⟨so_X7_ifWritten_17, rfl⟩
  · cases h; exact ⟨so_X7_ifWritten_19, rfl⟩
  · cases h; exact ⟨so_X7_ifWritten_35, rfl⟩
  · cases h; exact ⟨so_X7_ifWritten_94, rfl⟩
  · cases h; exact ⟨so_X7_ifWritten_111, rfl⟩
  · cases h; exact ⟨so_X7_ifWritten_119, rfl⟩
  · cases h
def gm_X7_bestPlace : List MI := [mi_X7_best]
def sg_X7_bestPlace_0 : List Ins := [(0, .aload_n 0, 0, 0, 0, 0), (1, .getfield 7, 7, 0, 717, 0), (4, .bipush 6, 6, 0, 0, 0), (6, .iaload, 8, 0, 0, 0), (7, .bipush (-6), 6, 1, 0, 0), (9, .if_icmp .ne 7, 0, 0, 16, 0), (12, .iconst (-1), 1, 1, 0, 0), (13, .goto 15, 0, 0, 28, 0)]
theorem so_X7_bestPlace_0 : sgOK mi_X7_bestPlace gm_X7_bestPlace sg_X7_bestPlace_0 = true := by decide +kernel
def sg_X7_bestPlace_16 : List Ins := [(16, .aload_n 0, 0, 0, 0, 0), (17, .iconst 0, 0, 0, 0, 0), (18, .aload_n 0, 0, 0, 0, 0), (19, .getfield 7, 7, 0, 717, 0), (22, .bipush 6, 6, 0, 0, 0), (24, .iaload, 8, 0, 0, 0), (25, .invokevirtual 218, 1029, 0, 17, 3), (28, .ireturn, 0, 0, 0, 0)]
theorem so_X7_bestPlace_16 : sgOK mi_X7_bestPlace gm_X7_bestPlace sg_X7_bestPlace_16 = true := by decide +kernel
def sg_X7_bestPlace_28 : List Ins := [(28, .ireturn, 0, 0, 0, 0)]
theorem so_X7_bestPlace_28 : sgOK mi_X7_bestPlace gm_X7_bestPlace sg_X7_bestPlace_28 = true := by decide +kernel
def sgs_X7_bestPlace : Nat → Option (List Ins) := fun t => match t with
  | 0 => some sg_X7_bestPlace_0
  | 16 => some sg_X7_bestPlace_16
  | 28 => some sg_X7_bestPlace_28
  | _ => none
theorem so_X7_bestPlace : ∀ t sg, sgs_X7_bestPlace t = some sg → sgOK mi_X7_bestPlace gm_X7_bestPlace sg = true ∧ segPc sg = t := by
  intro t sg h
  unfold sgs_X7_bestPlace at h
  split at h
  · cases h; exact ⟨so_X7_bestPlace_0, rfl⟩
  · cases h; exact ⟨so_X7_bestPlace_16, rfl⟩
  · cases h; exact ⟨so_X7_bestPlace_28, rfl⟩
  · cases h
def gm_X7_fills : List MI := [mi_X7_isWriter, mi_X7_copies, mi_X7_best, mi_X7_writes]
def sg_X7_fills_0 : List Ins := [(0, .aload_n 0, 0, 0, 0, 0), (1, .iload_n 1, 0, 0, 0, 0), (2, .invokevirtual 85, 833, 0, 17, 2), (5, .ifCond .eq 15, 0, 0, 20, 0), (8, .aload_n 0, 0, 0, 0, 0), (9, .getfield 7, 7, 0, 717, 0), (12, .bipush 6, 6, 0, 0, 0), (14, .iaload, 8, 0, 0, 0), (15, .bipush (-6), 6, 1, 0, 0), (17, .if_icmp .ne 5, 0, 0, 22, 0), (20, .iconst (-1), 1, 1, 0, 0), (21, .ireturn, 0, 0, 0, 0)]
theorem so_X7_fills_0 : sgOK mi_X7_fills gm_X7_fills sg_X7_fills_0 = true := by decide +kernel
def sg_X7_fills_20 : List Ins := [(20, .iconst (-1), 1, 1, 0, 0), (21, .ireturn, 0, 0, 0, 0)]
theorem so_X7_fills_20 : sgOK mi_X7_fills gm_X7_fills sg_X7_fills_20 = true := by decide +kernel
def sg_X7_fills_22 : List Ins := [(22, .aload_n 0, 0, 0, 0, 0), (23, .iconst 0, 0, 0, 0, 0), (24, .bipush 9, 9, 0, 0, 0), (26, .invokevirtual 31, 778, 1, 17, 3), (29, .iconst 0, 0, 0, 0, 0), (30, .istore_n 2, 0, 0, 0, 0), (31, .aload_n 0, 0, 0, 0, 0), (32, .bipush 9, 9, 0, 0, 0), (34, .aload_n 0, 0, 0, 0, 0), (35, .getfield 7, 7, 0, 717, 0), (38, .bipush 6, 6, 0, 0, 0), (40, .iaload, 8, 0, 0, 0), (41, .invokevirtual 218, 1029, 2, 17, 3), (44, .istore_n 3, 0, 0, 0, 0), (45, .nop, 0, 0, 0, 0)]
theorem so_X7_fills_22 : sgOK mi_X7_fills gm_X7_fills sg_X7_fills_22 = true := by decide +kernel
def sg_X7_fills_45 : List Ins := [(45, .iload_n 3, 0, 0, 0, 0), (46, .bipush (-6), 6, 1, 0, 0), (48, .if_icmp .eq 39, 0, 0, 87, 0), (51, .aload_n 0, 0, 0, 0, 0), (52, .bipush 9, 9, 0, 0, 0), (54, .aload_n 0, 0, 0, 0, 0), (55, .getfield 7, 7, 0, 717, 0), (58, .bipush 6, 6, 0, 0, 0), (60, .iaload, 8, 0, 0, 0), (61, .iload_n 3, 0, 0, 0, 0), (62, .iload_n 1, 0, 0, 0, 0), (63, .iconst 0, 0, 0, 0, 0), (64, .invokevirtual 104, 874, 3, 17, 6), (67, .iinc 2 1, 1, 0, 0, 0), (70, .aload_n 0, 0, 0, 0, 0), (71, .bipush 9, 9, 0, 0, 0), (73, .aload_n 0, 0, 0, 0, 0), (74, .getfield 7, 7, 0, 717, 0), (77, .bipush 6, 6, 0, 0, 0), (79, .iaload, 8, 0, 0, 0), (80, .invokevirtual 218, 1029, 2, 17, 3), (83, .istore_n 3, 0, 0, 0, 0), (84, .goto (-39), 0, 0, 45, 0)]
theorem so_X7_fills_45 : sgOK mi_X7_fills gm_X7_fills sg_X7_fills_45 = true := by decide +kernel
def sg_X7_fills_87 : List Ins := [(87, .iload_n 2, 0, 0, 0, 0), (88, .ireturn, 0, 0, 0, 0)]
theorem so_X7_fills_87 : sgOK mi_X7_fills gm_X7_fills sg_X7_fills_87 = true := by decide +kernel
def sgs_X7_fills : Nat → Option (List Ins) := fun t => match t with
  | 0 => some sg_X7_fills_0
  | 20 => some sg_X7_fills_20
  | 22 => some sg_X7_fills_22
  | 87 => some sg_X7_fills_87
  | _ => none
theorem so_X7_fills : ∀ t sg, sgs_X7_fills t = some sg → sgOK mi_X7_fills gm_X7_fills sg = true ∧ segPc sg = t := by
  intro t sg h
  unfold sgs_X7_fills at h
  split at h
  · cases h; exact ⟨so_X7_fills_0, rfl⟩
  · cases h; exact ⟨so_X7_fills_20, rfl⟩
  · cases h; exact ⟨so_X7_fills_22, rfl⟩
  · cases h; exact ⟨so_X7_fills_87, rfl⟩
  · cases h
def gm_X7_leaves : List MI := [mi_X7_hasLetter, mi_X7_inkAt, mi_X7_clouded]
def sg_X7_leaves_0 : List Ins := [(0, .fconst 1, 0, 0, 0, 0), (1, .fstore_n 3, 0, 0, 0, 0), (2, .iconst 0, 0, 0, 0, 0), (3, .istore 4, 0, 0, 0, 0), (5, .nop, 0, 0, 0, 0)]
theorem so_X7_leaves_0 : sgOK mi_X7_leaves gm_X7_leaves sg_X7_leaves_0 = true := by decide +kernel
def sg_X7_leaves_5 : List Ins := [(5, .iload 4, 0, 0, 0, 0), (7, .bipush 120, 120, 0, 0, 0), (9, .if_icmp .ge 70, 0, 0, 79, 0), (12, .aload_n 0, 0, 0, 0, 0), (13, .iconst 0, 0, 0, 0, 0), (14, .aload_n 0, 0, 0, 0, 0), (15, .getfield 7, 7, 0, 717, 0), (18, .bipush 6, 6, 0, 0, 0), (20, .iaload, 8, 0, 0, 0), (21, .iload 4, 0, 0, 0, 0), (23, .invokevirtual 50, 853, 0, 17, 4), (26, .ifCond .eq 47, 0, 0, 73, 0), (29, .aload_n 0, 0, 0, 0, 0), (30, .getfield 7, 7, 0, 717, 0), (33, .iconst 0, 0, 0, 0, 0), (34, .aload_n 0, 0, 0, 0, 0), (35, .getfield 7, 7, 0, 717, 0), (38, .bipush 6, 6, 0, 0, 0), (40, .iaload, 8, 0, 0, 0), (41, .iload 4, 0, 0, 0, 0), (43, .invokestatic 35, 790, 1, 0, 3), (46, .iaload, 8, 0, 0, 0), (47, .bipush 26, 26, 0, 0, 0), (49, .idiv, 0, 0, 0, 0), (50, .iload_n 1, 0, 0, 0, 0), (51, .if_icmp .ne 22, 0, 0, 73, 0), (54, .aload_n 0, 0, 0, 0, 0), (55, .iconst 0, 0, 0, 0, 0), (56, .fload_n 3, 0, 0, 0, 0), (57, .iload_n 2, 0, 0, 0, 0), (58, .iload 4, 0, 0, 0, 0), (60, .aload_n 0, 0, 0, 0, 0), (61, .getfield 7, 7, 0, 717, 0), (64, .bipush 8, 8, 0, 0, 0), (66, .iload_n 1, 0, 0, 0, 0), (67, .iadd, 0, 0, 0, 0), (68, .iaload, 8, 0, 0, 0), (69, .invokevirtual 46, 878, 2, 17, 6), (72, .fstore_n 3, 0, 0, 0, 0), (73, .iinc 4 1, 1, 0, 0, 0), (76, .goto (-71), 0, 0, 5, 0)]
theorem so_X7_leaves_5 : sgOK mi_X7_leaves gm_X7_leaves sg_X7_leaves_5 = true := by decide +kernel
def sg_X7_leaves_73 : List Ins := [(73, .iinc 4 1, 1, 0, 0, 0), (76, .goto (-71), 0, 0, 5, 0)]
theorem so_X7_leaves_73 : sgOK mi_X7_leaves gm_X7_leaves sg_X7_leaves_73 = true := by decide +kernel
def sg_X7_leaves_79 : List Ins := [(79, .fload_n 3, 0, 0, 0, 0), (80, .freturn, 0, 0, 0, 0)]
theorem so_X7_leaves_79 : sgOK mi_X7_leaves gm_X7_leaves sg_X7_leaves_79 = true := by decide +kernel
def sgs_X7_leaves : Nat → Option (List Ins) := fun t => match t with
  | 0 => some sg_X7_leaves_0
  | 73 => some sg_X7_leaves_73
  | 79 => some sg_X7_leaves_79
  | _ => none
theorem so_X7_leaves : ∀ t sg, sgs_X7_leaves t = some sg → sgOK mi_X7_leaves gm_X7_leaves sg = true ∧ segPc sg = t := by
  intro t sg h
  unfold sgs_X7_leaves at h
  split at h
  · cases h; exact ⟨so_X7_leaves_0, rfl⟩
  · cases h; exact ⟨so_X7_leaves_73, rfl⟩
  · cases h; exact ⟨so_X7_leaves_79, rfl⟩
  · cases h
def gm_X7_whoDims : List MI := [mi_X7_isThere, mi_X7_spotOf, mi_X7_leaves]
def sg_X7_whoDims_0 : List Ins := [(0, .aload_n 0, 0, 0, 0, 0), (1, .iload_n 1, 0, 0, 0, 0), (2, .iload_n 2, 0, 0, 0, 0), (3, .invokevirtual 88, 837, 0, 17, 3), (6, .ifCond .ne 5, 0, 0, 11, 0), (9, .iconst (-1), 1, 1, 0, 0), (10, .ireturn, 0, 0, 0, 0)]
theorem so_X7_whoDims_0 : sgOK mi_X7_whoDims gm_X7_whoDims sg_X7_whoDims_0 = true := by decide +kernel
def sg_X7_whoDims_11 : List Ins := [(11, .bipush (-6), 6, 1, 0, 0), (13, .istore_n 3, 0, 0, 0, 0), (14, .fconst 1, 0, 0, 0, 0), (15, .fstore 4, 0, 0, 0, 0), (17, .iconst 0, 0, 0, 0, 0), (18, .istore 5, 0, 0, 0, 0), (20, .nop, 0, 0, 0, 0)]
theorem so_X7_whoDims_11 : sgOK mi_X7_whoDims gm_X7_whoDims sg_X7_whoDims_11 = true := by decide +kernel
def sg_X7_whoDims_20 : List Ins := [(20, .iload 5, 0, 0, 0, 0), (22, .aload_n 0, 0, 0, 0, 0), (23, .getfield 7, 7, 0, 717, 0), (26, .bipush 7, 7, 0, 0, 0), (28, .iaload, 8, 0, 0, 0), (29, .if_icmp .ge 54, 0, 0, 83, 0), (32, .aload_n 0, 0, 0, 0, 0), (33, .iload 5, 0, 0, 0, 0), (35, .iload_n 1, 0, 0, 0, 0), (36, .iload_n 2, 0, 0, 0, 0), (37, .invokestatic 94, 846, 1, 0, 2), (40, .invokevirtual 221, 1041, 2, 17, 3), (43, .fstore 6, 0, 0, 0, 0), (45, .fload 6, 0, 0, 0, 0), (47, .fload 4, 0, 0, 0, 0), (49, .fcmp .g, 0, 0, 0, 0), (50, .ifCond .ge 8, 0, 0, 58, 0), (53, .iload 5, 0, 0, 0, 0), (55, .goto 4, 0, 0, 59, 0)]
theorem so_X7_whoDims_20 : sgOK mi_X7_whoDims gm_X7_whoDims sg_X7_whoDims_20 = true := by decide +kernel
def sg_X7_whoDims_58 : List Ins := [(58, .iload_n 3, 0, 0, 0, 0), (59, .istore_n 3, 0, 0, 0, 0), (60, .fload 6, 0, 0, 0, 0), (62, .fload 4, 0, 0, 0, 0), (64, .fcmp .g, 0, 0, 0, 0), (65, .ifCond .ge 8, 0, 0, 73, 0), (68, .fload 6, 0, 0, 0, 0), (70, .goto 5, 0, 0, 75, 0)]
theorem so_X7_whoDims_58 : sgOK mi_X7_whoDims gm_X7_whoDims sg_X7_whoDims_58 = true := by decide +kernel
def sg_X7_whoDims_59 : List Ins := [(59, .istore_n 3, 0, 0, 0, 0), (60, .fload 6, 0, 0, 0, 0), (62, .fload 4, 0, 0, 0, 0), (64, .fcmp .g, 0, 0, 0, 0), (65, .ifCond .ge 8, 0, 0, 73, 0), (68, .fload 6, 0, 0, 0, 0), (70, .goto 5, 0, 0, 75, 0)]
theorem so_X7_whoDims_59 : sgOK mi_X7_whoDims gm_X7_whoDims sg_X7_whoDims_59 = true := by decide +kernel
def sg_X7_whoDims_73 : List Ins := [(73, .fload 4, 0, 0, 0, 0), (75, .fstore 4, 0, 0, 0, 0), (77, .iinc 5 1, 1, 0, 0, 0), (80, .goto (-60), 0, 0, 20, 0)]
theorem so_X7_whoDims_73 : sgOK mi_X7_whoDims gm_X7_whoDims sg_X7_whoDims_73 = true := by decide +kernel
def sg_X7_whoDims_75 : List Ins := [(75, .fstore 4, 0, 0, 0, 0), (77, .iinc 5 1, 1, 0, 0, 0), (80, .goto (-60), 0, 0, 20, 0)]
theorem so_X7_whoDims_75 : sgOK mi_X7_whoDims gm_X7_whoDims sg_X7_whoDims_75 = true := by decide +kernel
def sg_X7_whoDims_83 : List Ins := [(83, .iload_n 3, 0, 0, 0, 0), (84, .ireturn, 0, 0, 0, 0)]
theorem so_X7_whoDims_83 : sgOK mi_X7_whoDims gm_X7_whoDims sg_X7_whoDims_83 = true := by decide +kernel
def sgs_X7_whoDims : Nat → Option (List Ins) := fun t => match t with
  | 0 => some sg_X7_whoDims_0
  | 11 => some sg_X7_whoDims_11
  | 58 => some sg_X7_whoDims_58
  | 59 => some sg_X7_whoDims_59
  | 73 => some sg_X7_whoDims_73
  | 75 => some sg_X7_whoDims_75
  | 83 => some sg_X7_whoDims_83
  | _ => none
theorem so_X7_whoDims : ∀ t sg, sgs_X7_whoDims t = some sg → sgOK mi_X7_whoDims gm_X7_whoDims sg = true ∧ segPc sg = t := by
  intro t sg h
  unfold sgs_X7_whoDims at h
  split at h
  · cases h; exact ⟨so_X7_whoDims_0, rfl⟩
  · cases h; exact ⟨so_X7_whoDims_11, rfl⟩
  · cases h; exact ⟨so_X7_whoDims_58, rfl⟩
  · cases h; exact ⟨so_X7_whoDims_59, rfl⟩
  · cases h; exact ⟨so_X7_whoDims_73, rfl⟩
  · cases h; exact ⟨so_X7_whoDims_75, rfl⟩
  · cases h; exact ⟨so_X7_whoDims_83, rfl⟩
  · cases h
def gm_X7_areRead : List MI := [mi_X7_hasLetter, mi_X7_canRead]
def sg_X7_areRead_0 : List Ins := [(0, .iconst 1, 1, 0, 0, 0), (1, .istore_n 3, 0, 0, 0, 0), (2, .iconst 0, 0, 0, 0, 0), (3, .istore 4, 0, 0, 0, 0), (5, .nop, 0, 0, 0, 0)]
theorem so_X7_areRead_0 : sgOK mi_X7_areRead gm_X7_areRead sg_X7_areRead_0 = true := by decide +kernel
def sg_X7_areRead_5 : List Ins := [(5, .iload 4, 0, 0, 0, 0), (7, .bipush 120, 120, 0, 0, 0), (9, .if_icmp .ge 41, 0, 0, 50, 0), (12, .iload_n 3, 0, 0, 0, 0), (13, .ifCond .eq 29, 0, 0, 42, 0), (16, .aload_n 0, 0, 0, 0, 0), (17, .iload_n 1, 0, 0, 0, 0), (18, .iload_n 2, 0, 0, 0, 0), (19, .iload 4, 0, 0, 0, 0), (21, .invokevirtual 50, 853, 0, 17, 4), (24, .ifCond .eq 14, 0, 0, 38, 0), (27, .aload_n 0, 0, 0, 0, 0), (28, .iload_n 1, 0, 0, 0, 0), (29, .iload_n 2, 0, 0, 0, 0), (30, .iload 4, 0, 0, 0, 0), (32, .invokevirtual 65, 870, 1, 17, 4), (35, .ifCond .eq 7, 0, 0, 42, 0), (38, .iconst 1, 1, 0, 0, 0), (39, .goto 4, 0, 0, 43, 0)]
theorem so_X7_areRead_5 : sgOK mi_X7_areRead gm_X7_areRead sg_X7_areRead_5 = true := by decide +kernel
def sg_X7_areRead_38 : List Ins := [(38, .iconst 1, 1, 0, 0, 0), (39, .goto 4, 0, 0, 43, 0)]
theorem so_X7_areRead_38 : sgOK mi_X7_areRead gm_X7_areRead sg_X7_areRead_38 = true := by decide +kernel
def sg_X7_areRead_42 : List Ins := [(42, .iconst 0, 0, 0, 0, 0), (43, .istore_n 3, 0, 0, 0, 0), (44, .iinc 4 1, 1, 0, 0, 0), (47, .goto (-42), 0, 0, 5, 0)]
theorem so_X7_areRead_42 : sgOK mi_X7_areRead gm_X7_areRead sg_X7_areRead_42 = true := by decide +kernel
def sg_X7_areRead_43 : List Ins := [(43, .istore_n 3, 0, 0, 0, 0), (44, .iinc 4 1, 1, 0, 0, 0), (47, .goto (-42), 0, 0, 5, 0)]
theorem so_X7_areRead_43 : sgOK mi_X7_areRead gm_X7_areRead sg_X7_areRead_43 = true := by decide +kernel
def sg_X7_areRead_50 : List Ins := [(50, .iload_n 3, 0, 0, 0, 0), (51, .ireturn, 0, 0, 0, 0)]
theorem so_X7_areRead_50 : sgOK mi_X7_areRead gm_X7_areRead sg_X7_areRead_50 = true := by decide +kernel
def sgs_X7_areRead : Nat → Option (List Ins) := fun t => match t with
  | 0 => some sg_X7_areRead_0
  | 38 => some sg_X7_areRead_38
  | 42 => some sg_X7_areRead_42
  | 43 => some sg_X7_areRead_43
  | 50 => some sg_X7_areRead_50
  | _ => none
theorem so_X7_areRead : ∀ t sg, sgs_X7_areRead t = some sg → sgOK mi_X7_areRead gm_X7_areRead sg = true ∧ segPc sg = t := by
  intro t sg h
  unfold sgs_X7_areRead at h
  split at h
  · cases h; exact ⟨so_X7_areRead_0, rfl⟩
  · cases h; exact ⟨so_X7_areRead_38, rfl⟩
  · cases h; exact ⟨so_X7_areRead_42, rfl⟩
  · cases h; exact ⟨so_X7_areRead_43, rfl⟩
  · cases h; exact ⟨so_X7_areRead_50, rfl⟩
  · cases h
def gm_X7_readableIn : List MI := [mi_X7_isPlate, mi_X7_copies, mi_X7_areRead, mi_X7_clears]
def sg_X7_readableIn_0 : List Ins := [(0, .aload_n 0, 0, 0, 0, 0), (1, .iload_n 1, 0, 0, 0, 0), (2, .invokevirtual 80, 804, 0, 17, 2), (5, .ifCond .ne 5, 0, 0, 10, 0), (8, .iconst (-1), 1, 1, 0, 0), (9, .ireturn, 0, 0, 0, 0)]
theorem so_X7_readableIn_0 : sgOK mi_X7_readableIn gm_X7_readableIn sg_X7_readableIn_0 = true := by decide +kernel
def sg_X7_readableIn_10 : List Ins := [(10, .aload_n 0, 0, 0, 0, 0), (11, .iconst 0, 0, 0, 0, 0), (12, .bipush 9, 9, 0, 0, 0), (14, .invokevirtual 31, 778, 1, 17, 3), (17, .iconst 0, 0, 0, 0, 0), (18, .istore_n 2, 0, 0, 0, 0), (19, .nop, 0, 0, 0, 0)]
theorem so_X7_readableIn_10 : sgOK mi_X7_readableIn gm_X7_readableIn sg_X7_readableIn_10 = true := by decide +kernel
def sg_X7_readableIn_19 : List Ins := [(19, .iload_n 2, 0, 0, 0, 0), (20, .sipush 500, 500, 0, 0, 0), (23, .if_icmp .gt 28, 0, 0, 51, 0), (26, .aload_n 0, 0, 0, 0, 0), (27, .bipush 9, 9, 0, 0, 0), (29, .iload_n 1, 0, 0, 0, 0), (30, .invokevirtual 225, 1049, 2, 17, 3), (33, .ifCond .eq 5, 0, 0, 38, 0), (36, .iload_n 2, 0, 0, 0, 0), (37, .ireturn, 0, 0, 0, 0)]
theorem so_X7_readableIn_19 : sgOK mi_X7_readableIn gm_X7_readableIn sg_X7_readableIn_19 = true := by decide +kernel
def sg_X7_readableIn_38 : List Ins := [(38, .aload_n 0, 0, 0, 0, 0), (39, .bipush 9, 9, 0, 0, 0), (41, .iload_n 1, 0, 0, 0, 0), (42, .invokevirtual 115, 939, 3, 17, 3), (45, .iinc 2 1, 1, 0, 0, 0), (48, .goto (-29), 0, 0, 19, 0)]
theorem so_X7_readableIn_38 : sgOK mi_X7_readableIn gm_X7_readableIn sg_X7_readableIn_38 = true := by decide +kernel
def sg_X7_readableIn_51 : List Ins := [(51, .bipush (-6), 6, 1, 0, 0), (53, .ireturn, 0, 0, 0, 0)]
theorem so_X7_readableIn_51 : sgOK mi_X7_readableIn gm_X7_readableIn sg_X7_readableIn_51 = true := by decide +kernel
def sgs_X7_readableIn : Nat → Option (List Ins) := fun t => match t with
  | 0 => some sg_X7_readableIn_0
  | 10 => some sg_X7_readableIn_10
  | 38 => some sg_X7_readableIn_38
  | 51 => some sg_X7_readableIn_51
  | _ => none
theorem so_X7_readableIn : ∀ t sg, sgs_X7_readableIn t = some sg → sgOK mi_X7_readableIn gm_X7_readableIn sg = true ∧ segPc sg = t := by
  intro t sg h
  unfold sgs_X7_readableIn at h
  split at h
  · cases h; exact ⟨so_X7_readableIn_0, rfl⟩
  · cases h; exact ⟨so_X7_readableIn_10, rfl⟩
  · cases h; exact ⟨so_X7_readableIn_38, rfl⟩
  · cases h; exact ⟨so_X7_readableIn_51, rfl⟩
  · cases h
def gm_X7_charactersOf : List MI := [mi_X7_in]
def sg_X7_charactersOf_0 : List Ins := [(0, .lload_n 0, 0, 0, 0, 0), (1, .lstore_n 2, 0, 0, 0, 0), (2, .iconst 0, 0, 0, 0, 0), (3, .istore 4, 0, 0, 0, 0), (5, .nop, 0, 0, 0, 0)]
theorem so_X7_charactersOf_0 : sgOK mi_X7_charactersOf gm_X7_charactersOf sg_X7_charactersOf_0 = true := by decide +kernel
def sg_X7_charactersOf_5 : List Ins := [(5, .iload 4, 0, 0, 0, 0), (7, .bipush 8, 8, 0, 0, 0), (9, .if_icmp .ge 31, 0, 0, 40, 0), (12, .lload_n 2, 0, 0, 0, 0), (13, .ldc2_w 228, 255, 2, 1060, 0), (16, .land, 0, 0, 0, 0), (17, .ldc2_w 230, 33, 2, 1061, 0), (20, .ldc2_w 232, 126, 2, 1062, 0), (23, .invokestatic 68, 768, 0, 0, 3), (26, .ifCond .eq 14, 0, 0, 40, 0), (29, .lload_n 2, 0, 0, 0, 0), (30, .bipush 8, 8, 0, 0, 0), (32, .lushr, 0, 0, 0, 0), (33, .lstore_n 2, 0, 0, 0, 0), (34, .iinc 4 1, 1, 0, 0, 0), (37, .goto (-32), 0, 0, 5, 0)]
theorem so_X7_charactersOf_5 : sgOK mi_X7_charactersOf gm_X7_charactersOf sg_X7_charactersOf_5 = true := by decide +kernel
def sg_X7_charactersOf_40 : List Ins := [(40, .lload_n 2, 0, 0, 0, 0), (41, .lconst 0, 0, 0, 0, 0), (42, .lcmp, 0, 0, 0, 0), (43, .ifCond .ne 8, 0, 0, 51, 0), (46, .iload 4, 0, 0, 0, 0), (48, .goto 4, 0, 0, 52, 0)]
theorem so_X7_charactersOf_40 : sgOK mi_X7_charactersOf gm_X7_charactersOf sg_X7_charactersOf_40 = true := by decide +kernel
def sg_X7_charactersOf_51 : List Ins := [(51, .iconst 0, 0, 0, 0, 0), (52, .ireturn, 0, 0, 0, 0)]
theorem so_X7_charactersOf_51 : sgOK mi_X7_charactersOf gm_X7_charactersOf sg_X7_charactersOf_51 = true := by decide +kernel
def sg_X7_charactersOf_52 : List Ins := [(52, .ireturn, 0, 0, 0, 0)]
theorem so_X7_charactersOf_52 : sgOK mi_X7_charactersOf gm_X7_charactersOf sg_X7_charactersOf_52 = true := by decide +kernel
def sgs_X7_charactersOf : Nat → Option (List Ins) := fun t => match t with
  | 0 => some sg_X7_charactersOf_0
  | 40 => some sg_X7_charactersOf_40
  | 51 => some sg_X7_charactersOf_51
  | 52 => some sg_X7_charactersOf_52
  | _ => none
theorem so_X7_charactersOf : ∀ t sg, sgs_X7_charactersOf t = some sg → sgOK mi_X7_charactersOf gm_X7_charactersOf sg = true ∧ segPc sg = t := by
  intro t sg h
  unfold sgs_X7_charactersOf at h
  split at h
  · cases h; exact ⟨so_X7_charactersOf_0, rfl⟩
  · cases h; exact ⟨so_X7_charactersOf_40, rfl⟩
  · cases h; exact ⟨so_X7_charactersOf_51, rfl⟩
  · cases h; exact ⟨so_X7_charactersOf_52, rfl⟩
  · cases h
def gm_X7_put : List MI := [mi_X7_charactersOf]
def sg_X7_put_0 : List Ins := [(0, .lload_n 1, 0, 0, 0, 0), (1, .invokestatic 234, 1057, 0, 0, 1), (4, .istore_n 3, 0, 0, 0, 0), (5, .iload_n 3, 0, 0, 0, 0), (6, .ifCond .ne 6, 0, 0, 12, 0), (9, .bipush (-2), 2, 1, 0, 0), (11, .ireturn, 0, 0, 0, 0)]
theorem so_X7_put_0 : sgOK mi_X7_put gm_X7_put sg_X7_put_0 = true := by decide +kernel
def sg_X7_put_12 : List Ins := [(12, .aload_n 0, 0, 0, 0, 0), (13, .getfield 199, 7, 6, 723, 0), (16, .iload_n 3, 0, 0, 0, 0), (17, .iadd, 0, 0, 0, 0), (18, .bipush 80, 80, 0, 0, 0), (20, .if_icmp .le 6, 0, 0, 26, 0), (23, .bipush (-4), 4, 1, 0, 0), (25, .ireturn, 0, 0, 0, 0)]
theorem so_X7_put_12 : sgOK mi_X7_put gm_X7_put sg_X7_put_12 = true := by decide +kernel
def sg_X7_put_26 : List Ins := [(26, .iconst 0, 0, 0, 0, 0), (27, .istore 4, 0, 0, 0, 0), (29, .nop, 0, 0, 0, 0)]
theorem so_X7_put_26 : sgOK mi_X7_put gm_X7_put sg_X7_put_26 = true := by decide +kernel
def sg_X7_put_29 : List Ins := [(29, .iload 4, 0, 0, 0, 0), (31, .iload_n 3, 0, 0, 0, 0), (32, .if_icmp .ge 37, 0, 0, 69, 0), (35, .aload_n 0, 0, 0, 0, 0), (36, .getfield 24, 7, 5, 722, 0), (39, .aload_n 0, 0, 0, 0, 0), (40, .getfield 199, 7, 6, 723, 0), (43, .iload 4, 0, 0, 0, 0), (45, .iadd, 0, 0, 0, 0), (46, .lload_n 1, 0, 0, 0, 0), (47, .bipush 8, 8, 0, 0, 0), (49, .iload_n 3, 0, 0, 0, 0), (50, .iconst 1, 1, 0, 0, 0), (51, .isub, 0, 0, 0, 0), (52, .iload 4, 0, 0, 0, 0), (54, .isub, 0, 0, 0, 0), (55, .imul, 0, 0, 0, 0), (56, .lushr, 0, 0, 0, 0), (57, .ldc2_w 228, 255, 2, 1060, 0), (60, .land, 0, 0, 0, 0), (61, .l2i, 0, 0, 0, 0), (62, .iastore, 0, 0, 0, 0), (63, .iinc 4 1, 1, 0, 0, 0), (66, .goto (-37), 0, 0, 29, 0)]
theorem so_X7_put_29 : sgOK mi_X7_put gm_X7_put sg_X7_put_29 = true := by decide +kernel
def sg_X7_put_69 : List Ins := [(69, .aload_n 0, 0, 0, 0, 0), (70, .dup, 0, 0, 0, 0), (71, .getfield 199, 7, 6, 723, 0), (74, .iload_n 3, 0, 0, 0, 0), (75, .iadd, 0, 0, 0, 0), (76, .putfield 199, 7, 6, 723, 0), (79, .aload_n 0, 0, 0, 0, 0), (80, .getfield 199, 7, 6, 723, 0), (83, .ireturn, 0, 0, 0, 0)]
theorem so_X7_put_69 : sgOK mi_X7_put gm_X7_put sg_X7_put_69 = true := by decide +kernel
def sgs_X7_put : Nat → Option (List Ins) := fun t => match t with
  | 0 => some sg_X7_put_0
  | 12 => some sg_X7_put_12
  | 26 => some sg_X7_put_26
  | 69 => some sg_X7_put_69
  | _ => none
theorem so_X7_put : ∀ t sg, sgs_X7_put t = some sg → sgOK mi_X7_put gm_X7_put sg = true ∧ segPc sg = t := by
  intro t sg h
  unfold sgs_X7_put at h
  split at h
  · cases h; exact ⟨so_X7_put_0, rfl⟩
  · cases h; exact ⟨so_X7_put_12, rfl⟩
  · cases h; exact ⟨so_X7_put_26, rfl⟩
  · cases h; exact ⟨so_X7_put_69, rfl⟩
  · cases h
def gm_X7_wipe : List MI := []
def sg_X7_wipe_0 : List Ins := [(0, .aload_n 0, 0, 0, 0, 0), (1, .getfield 199, 7, 6, 723, 0), (4, .istore_n 1, 0, 0, 0, 0), (5, .aload_n 0, 0, 0, 0, 0), (6, .iconst 0, 0, 0, 0, 0), (7, .putfield 199, 7, 6, 723, 0), (10, .iload_n 1, 0, 0, 0, 0), (11, .ireturn, 0, 0, 0, 0)]
theorem so_X7_wipe_0 : sgOK mi_X7_wipe gm_X7_wipe sg_X7_wipe_0 = true := by decide +kernel
def sgs_X7_wipe : Nat → Option (List Ins) := fun t => match t with
  | 0 => some sg_X7_wipe_0
  | _ => none
theorem so_X7_wipe : ∀ t sg, sgs_X7_wipe t = some sg → sgOK mi_X7_wipe gm_X7_wipe sg = true ∧ segPc sg = t := by
  intro t sg h
  unfold sgs_X7_wipe at h
  split at h
  · cases h; exact ⟨so_X7_wipe_0, rfl⟩
  · cases h
def gm_X7_isHere : List MI := [mi_X7_in]
def sg_X7_isHere_0 : List Ins := [(0, .aload_n 0, 0, 0, 0, 0), (1, .getfield 238, 7, 7, 724, 0), (4, .aload_n 0, 0, 0, 0, 0), (5, .getfield 199, 7, 6, 723, 0), (8, .if_icmp .ge 27, 0, 0, 35, 0), (11, .aload_n 0, 0, 0, 0, 0), (12, .getfield 24, 7, 5, 722, 0), (15, .aload_n 0, 0, 0, 0, 0), (16, .getfield 238, 7, 7, 724, 0), (19, .iaload, 8, 0, 0, 0), (20, .i2l, 0, 0, 0, 0), (21, .iload_n 1, 0, 0, 0, 0), (22, .i2l, 0, 0, 0, 0), (23, .iload_n 2, 0, 0, 0, 0), (24, .i2l, 0, 0, 0, 0), (25, .invokestatic 68, 768, 0, 0, 3), (28, .ifCond .eq 7, 0, 0, 35, 0), (31, .iconst 1, 1, 0, 0, 0), (32, .goto 4, 0, 0, 36, 0)]
theorem so_X7_isHere_0 : sgOK mi_X7_isHere gm_X7_isHere sg_X7_isHere_0 = true := by decide +kernel
def sg_X7_isHere_35 : List Ins := [(35, .iconst 0, 0, 0, 0, 0), (36, .ireturn, 0, 0, 0, 0)]
theorem so_X7_isHere_35 : sgOK mi_X7_isHere gm_X7_isHere sg_X7_isHere_35 = true := by decide +kernel
def sg_X7_isHere_36 : List Ins := [(36, .ireturn, 0, 0, 0, 0)]
theorem so_X7_isHere_36 : sgOK mi_X7_isHere gm_X7_isHere sg_X7_isHere_36 = true := by decide +kernel
def sgs_X7_isHere : Nat → Option (List Ins) := fun t => match t with
  | 0 => some sg_X7_isHere_0
  | 35 => some sg_X7_isHere_35
  | 36 => some sg_X7_isHere_36
  | _ => none
theorem so_X7_isHere : ∀ t sg, sgs_X7_isHere t = some sg → sgOK mi_X7_isHere gm_X7_isHere sg = true ∧ segPc sg = t := by
  intro t sg h
  unfold sgs_X7_isHere at h
  split at h
  · cases h; exact ⟨so_X7_isHere_0, rfl⟩
  · cases h; exact ⟨so_X7_isHere_35, rfl⟩
  · cases h; exact ⟨so_X7_isHere_36, rfl⟩
  · cases h
def gm_X7_takes : List MI := [mi_X7_isHere]
def sg_X7_takes_0 : List Ins := [(0, .aload_n 0, 0, 0, 0, 0), (1, .iload_n 1, 0, 0, 0, 0), (2, .iload_n 1, 0, 0, 0, 0), (3, .invokevirtual 241, 1079, 0, 17, 3), (6, .istore_n 2, 0, 0, 0, 0), (7, .aload_n 0, 0, 0, 0, 0), (8, .dup, 0, 0, 0, 0), (9, .getfield 238, 7, 7, 724, 0), (12, .iload_n 2, 0, 0, 0, 0), (13, .ifCond .eq 7, 0, 0, 20, 0), (16, .iconst 1, 1, 0, 0, 0), (17, .goto 4, 0, 0, 21, 0)]
theorem so_X7_takes_0 : sgOK mi_X7_takes gm_X7_takes sg_X7_takes_0 = true := by decide +kernel
def sg_X7_takes_20 : List Ins := [(20, .iconst 0, 0, 0, 0, 0), (21, .iadd, 0, 0, 0, 0), (22, .putfield 238, 7, 7, 724, 0), (25, .iload_n 2, 0, 0, 0, 0), (26, .ireturn, 0, 0, 0, 0)]
theorem so_X7_takes_20 : sgOK mi_X7_takes gm_X7_takes sg_X7_takes_20 = true := by decide +kernel
def sg_X7_takes_21 : List Ins := [(21, .iadd, 0, 0, 0, 0), (22, .putfield 238, 7, 7, 724, 0), (25, .iload_n 2, 0, 0, 0, 0), (26, .ireturn, 0, 0, 0, 0)]
theorem so_X7_takes_21 : sgOK mi_X7_takes gm_X7_takes sg_X7_takes_21 = true := by decide +kernel
def sgs_X7_takes : Nat → Option (List Ins) := fun t => match t with
  | 0 => some sg_X7_takes_0
  | 20 => some sg_X7_takes_20
  | 21 => some sg_X7_takes_21
  | _ => none
theorem so_X7_takes : ∀ t sg, sgs_X7_takes t = some sg → sgOK mi_X7_takes gm_X7_takes sg = true ∧ segPc sg = t := by
  intro t sg h
  unfold sgs_X7_takes at h
  split at h
  · cases h; exact ⟨so_X7_takes_0, rfl⟩
  · cases h; exact ⟨so_X7_takes_20, rfl⟩
  · cases h; exact ⟨so_X7_takes_21, rfl⟩
  · cases h
def gm_X7_digit : List MI := [mi_X7_isHere]
def sg_X7_digit_0 : List Ins := [(0, .aload_n 0, 0, 0, 0, 0), (1, .bipush 48, 48, 0, 0, 0), (3, .bipush 57, 57, 0, 0, 0), (5, .invokevirtual 241, 1079, 0, 17, 3), (8, .ifCond .eq 18, 0, 0, 26, 0), (11, .aload_n 0, 0, 0, 0, 0), (12, .getfield 24, 7, 5, 722, 0), (15, .aload_n 0, 0, 0, 0, 0), (16, .getfield 238, 7, 7, 724, 0), (19, .iaload, 8, 0, 0, 0), (20, .bipush 48, 48, 0, 0, 0), (22, .isub, 0, 0, 0, 0), (23, .goto 5, 0, 0, 28, 0)]
theorem so_X7_digit_0 : sgOK mi_X7_digit gm_X7_digit sg_X7_digit_0 = true := by decide +kernel
def sg_X7_digit_26 : List Ins := [(26, .bipush (-6), 6, 1, 0, 0), (28, .istore_n 1, 0, 0, 0, 0), (29, .aload_n 0, 0, 0, 0, 0), (30, .dup, 0, 0, 0, 0), (31, .getfield 238, 7, 7, 724, 0), (34, .iload_n 1, 0, 0, 0, 0), (35, .bipush (-6), 6, 1, 0, 0), (37, .if_icmp .ne 7, 0, 0, 44, 0), (40, .iconst 0, 0, 0, 0, 0), (41, .goto 4, 0, 0, 45, 0)]
theorem so_X7_digit_26 : sgOK mi_X7_digit gm_X7_digit sg_X7_digit_26 = true := by decide +kernel
def sg_X7_digit_28 : List Ins := [(28, .istore_n 1, 0, 0, 0, 0), (29, .aload_n 0, 0, 0, 0, 0), (30, .dup, 0, 0, 0, 0), (31, .getfield 238, 7, 7, 724, 0), (34, .iload_n 1, 0, 0, 0, 0), (35, .bipush (-6), 6, 1, 0, 0), (37, .if_icmp .ne 7, 0, 0, 44, 0), (40, .iconst 0, 0, 0, 0, 0), (41, .goto 4, 0, 0, 45, 0)]
theorem so_X7_digit_28 : sgOK mi_X7_digit gm_X7_digit sg_X7_digit_28 = true := by decide +kernel
def sg_X7_digit_44 : List Ins := [(44, .iconst 1, 1, 0, 0, 0), (45, .iadd, 0, 0, 0, 0), (46, .putfield 238, 7, 7, 724, 0), (49, .iload_n 1, 0, 0, 0, 0), (50, .ireturn, 0, 0, 0, 0)]
theorem so_X7_digit_44 : sgOK mi_X7_digit gm_X7_digit sg_X7_digit_44 = true := by decide +kernel
def sg_X7_digit_45 : List Ins := [(45, .iadd, 0, 0, 0, 0), (46, .putfield 238, 7, 7, 724, 0), (49, .iload_n 1, 0, 0, 0, 0), (50, .ireturn, 0, 0, 0, 0)]
theorem so_X7_digit_45 : sgOK mi_X7_digit gm_X7_digit sg_X7_digit_45 = true := by decide +kernel
def sgs_X7_digit : Nat → Option (List Ins) := fun t => match t with
  | 0 => some sg_X7_digit_0
  | 26 => some sg_X7_digit_26
  | 28 => some sg_X7_digit_28
  | 44 => some sg_X7_digit_44
  | 45 => some sg_X7_digit_45
  | _ => none
theorem so_X7_digit : ∀ t sg, sgs_X7_digit t = some sg → sgOK mi_X7_digit gm_X7_digit sg = true ∧ segPc sg = t := by
  intro t sg h
  unfold sgs_X7_digit at h
  split at h
  · cases h; exact ⟨so_X7_digit_0, rfl⟩
  · cases h; exact ⟨so_X7_digit_26, rfl⟩
  · cases h; exact ⟨so_X7_digit_28, rfl⟩
  · cases h; exact ⟨so_X7_digit_44, rfl⟩
  · cases h; exact ⟨so_X7_digit_45, rfl⟩
  · cases h
def gm_X7_number : List MI := [mi_X7_digit, mi_X7_isHere]
def sg_X7_number_0 : List Ins := [(0, .aload_n 0, 0, 0, 0, 0), (1, .invokevirtual 244, 1075, 0, 17, 1), (4, .istore_n 1, 0, 0, 0, 0), (5, .iload_n 1, 0, 0, 0, 0), (6, .ifCond .le 42, 0, 0, 48, 0), (9, .aload_n 0, 0, 0, 0, 0), (10, .bipush 48, 48, 0, 0, 0), (12, .bipush 57, 57, 0, 0, 0), (14, .invokevirtual 241, 1079, 1, 17, 3), (17, .ifCond .eq 31, 0, 0, 48, 0), (20, .bipush 10, 10, 0, 0, 0), (22, .iload_n 1, 0, 0, 0, 0), (23, .imul, 0, 0, 0, 0), (24, .aload_n 0, 0, 0, 0, 0), (25, .getfield 24, 7, 5, 722, 0), (28, .aload_n 0, 0, 0, 0, 0), (29, .getfield 238, 7, 7, 724, 0), (32, .iaload, 8, 0, 0, 0), (33, .iadd, 0, 0, 0, 0), (34, .bipush 48, 48, 0, 0, 0), (36, .isub, 0, 0, 0, 0), (37, .istore_n 1, 0, 0, 0, 0), (38, .aload_n 0, 0, 0, 0, 0), (39, .dup, 0, 0, 0, 0), (40, .getfield 238, 7, 7, 724, 0), (43, .iconst 1, 1, 0, 0, 0), (44, .iadd, 0, 0, 0, 0), (45, .putfield 238, 7, 7, 724, 0), (48, .iload_n 1, 0, 0, 0, 0), (49, .ireturn, 0, 0, 0, 0)]
theorem so_X7_number_0 : sgOK mi_X7_number gm_X7_number sg_X7_number_0 = true := by decide +kernel
def sg_X7_number_48 : List Ins := [(48, .iload_n 1, 0, 0, 0, 0), (49, .ireturn, 0, 0, 0, 0)]
theorem so_X7_number_48 : sgOK mi_X7_number gm_X7_number sg_X7_number_48 = true := by decide +kernel
def sgs_X7_number : Nat → Option (List Ins) := fun t => match t with
  | 0 => some sg_X7_number_0
  | 48 => some sg_X7_number_48
  | _ => none
theorem so_X7_number : ∀ t sg, sgs_X7_number t = some sg → sgOK mi_X7_number gm_X7_number sg = true ∧ segPc sg = t := by
  intro t sg h
  unfold sgs_X7_number at h
  split at h
  · cases h; exact ⟨so_X7_number_0, rfl⟩
  · cases h; exact ⟨so_X7_number_48, rfl⟩
  · cases h
def gm_X7_readsPlace : List MI := [mi_X7_takes, mi_X7_number]
def sg_X7_readsPlace_0 : List Ins := [(0, .aload_n 0, 0, 0, 0, 0), (1, .aload_n 0, 0, 0, 0, 0), (2, .bipush 64, 64, 0, 0, 0), (4, .invokevirtual 247, 1087, 0, 17, 2), (7, .ifCond .eq 10, 0, 0, 17, 0), (10, .aload_n 0, 0, 0, 0, 0), (11, .invokevirtual 250, 1091, 1, 17, 1), (14, .goto 5, 0, 0, 19, 0)]
theorem so_X7_readsPlace_0 : sgOK mi_X7_readsPlace gm_X7_readsPlace sg_X7_readsPlace_0 = true := by decide +kernel
def sg_X7_readsPlace_17 : List Ins := [(17, .bipush (-6), 6, 1, 0, 0), (19, .putfield 253, 7, 10, 727, 0), (22, .aload_n 0, 0, 0, 0, 0), (23, .aload_n 0, 0, 0, 0, 0), (24, .getfield 253, 7, 10, 727, 0), (27, .bipush (-6), 6, 1, 0, 0), (29, .if_icmp .eq 19, 0, 0, 48, 0), (32, .aload_n 0, 0, 0, 0, 0), (33, .bipush 46, 46, 0, 0, 0), (35, .invokevirtual 247, 1087, 0, 17, 2), (38, .ifCond .eq 10, 0, 0, 48, 0), (41, .aload_n 0, 0, 0, 0, 0), (42, .invokevirtual 250, 1091, 1, 17, 1), (45, .goto 5, 0, 0, 50, 0)]
theorem so_X7_readsPlace_17 : sgOK mi_X7_readsPlace gm_X7_readsPlace sg_X7_readsPlace_17 = true := by decide +kernel
def sg_X7_readsPlace_19 : List Ins := [(19, .putfield 253, 7, 10, 727, 0), (22, .aload_n 0, 0, 0, 0, 0), (23, .aload_n 0, 0, 0, 0, 0), (24, .getfield 253, 7, 10, 727, 0), (27, .bipush (-6), 6, 1, 0, 0), (29, .if_icmp .eq 19, 0, 0, 48, 0), (32, .aload_n 0, 0, 0, 0, 0), (33, .bipush 46, 46, 0, 0, 0), (35, .invokevirtual 247, 1087, 0, 17, 2), (38, .ifCond .eq 10, 0, 0, 48, 0), (41, .aload_n 0, 0, 0, 0, 0), (42, .invokevirtual 250, 1091, 1, 17, 1), (45, .goto 5, 0, 0, 50, 0)]
theorem so_X7_readsPlace_19 : sgOK mi_X7_readsPlace gm_X7_readsPlace sg_X7_readsPlace_19 = true := by decide +kernel
def sg_X7_readsPlace_48 : List Ins := [(48, .bipush (-6), 6, 1, 0, 0), (50, .putfield 256, 7, 11, 728, 0), (53, .aload_n 0, 0, 0, 0, 0), (54, .getfield 256, 7, 11, 728, 0), (57, .bipush (-6), 6, 1, 0, 0), (59, .if_icmp .eq 7, 0, 0, 66, 0), (62, .iconst 1, 1, 0, 0, 0), (63, .goto 4, 0, 0, 67, 0)]
theorem so_X7_readsPlace_48 : sgOK mi_X7_readsPlace gm_X7_readsPlace sg_X7_readsPlace_48 = true := by decide +kernel
def sg_X7_readsPlace_50 : List Ins := [(50, .putfield 256, 7, 11, 728, 0), (53, .aload_n 0, 0, 0, 0, 0), (54, .getfield 256, 7, 11, 728, 0), (57, .bipush (-6), 6, 1, 0, 0), (59, .if_icmp .eq 7, 0, 0, 66, 0), (62, .iconst 1, 1, 0, 0, 0), (63, .goto 4, 0, 0, 67, 0)]
theorem so_X7_readsPlace_50 : sgOK mi_X7_readsPlace gm_X7_readsPlace sg_X7_readsPlace_50 = true := by decide +kernel
def sg_X7_readsPlace_66 : List Ins := [(66, .iconst 0, 0, 0, 0, 0), (67, .ireturn, 0, 0, 0, 0)]
theorem so_X7_readsPlace_66 : sgOK mi_X7_readsPlace gm_X7_readsPlace sg_X7_readsPlace_66 = true := by decide +kernel
def sg_X7_readsPlace_67 : List Ins := [(67, .ireturn, 0, 0, 0, 0)]
theorem so_X7_readsPlace_67 : sgOK mi_X7_readsPlace gm_X7_readsPlace sg_X7_readsPlace_67 = true := by decide +kernel
def sgs_X7_readsPlace : Nat → Option (List Ins) := fun t => match t with
  | 0 => some sg_X7_readsPlace_0
  | 17 => some sg_X7_readsPlace_17
  | 19 => some sg_X7_readsPlace_19
  | 48 => some sg_X7_readsPlace_48
  | 50 => some sg_X7_readsPlace_50
  | 66 => some sg_X7_readsPlace_66
  | 67 => some sg_X7_readsPlace_67
  | _ => none
theorem so_X7_readsPlace : ∀ t sg, sgs_X7_readsPlace t = some sg → sgOK mi_X7_readsPlace gm_X7_readsPlace sg = true ∧ segPc sg = t := by
  intro t sg h
  unfold sgs_X7_readsPlace at h
  split at h
  · cases h; exact ⟨so_X7_readsPlace_0, rfl⟩
  · cases h; exact ⟨so_X7_readsPlace_17, rfl⟩
  · cases h; exact ⟨so_X7_readsPlace_19, rfl⟩
  · cases h; exact ⟨so_X7_readsPlace_48, rfl⟩
  · cases h; exact ⟨so_X7_readsPlace_50, rfl⟩
  · cases h; exact ⟨so_X7_readsPlace_66, rfl⟩
  · cases h; exact ⟨so_X7_readsPlace_67, rfl⟩
  · cases h
def gm_X7_readsLetters : List MI := [mi_X7_isHere]
def sg_X7_readsLetters_0 : List Ins := [(0, .aload_n 0, 0, 0, 0, 0), (1, .aload_n 0, 0, 0, 0, 0), (2, .getfield 238, 7, 7, 724, 0), (5, .putfield 259, 7, 12, 729, 0), (8, .nop, 0, 0, 0, 0)]
theorem so_X7_readsLetters_0 : sgOK mi_X7_readsLetters gm_X7_readsLetters sg_X7_readsLetters_0 = true := by decide +kernel
def sg_X7_readsLetters_8 : List Ins := [(8, .aload_n 0, 0, 0, 0, 0), (9, .bipush 97, 97, 0, 0, 0), (11, .bipush 122, 122, 0, 0, 0), (13, .invokevirtual 241, 1079, 0, 17, 3), (16, .ifCond .eq 16, 0, 0, 32, 0), (19, .aload_n 0, 0, 0, 0, 0), (20, .dup, 0, 0, 0, 0), (21, .getfield 238, 7, 7, 724, 0), (24, .iconst 1, 1, 0, 0, 0), (25, .iadd, 0, 0, 0, 0), (26, .putfield 238, 7, 7, 724, 0), (29, .goto (-21), 0, 0, 8, 0)]
theorem so_X7_readsLetters_8 : sgOK mi_X7_readsLetters gm_X7_readsLetters sg_X7_readsLetters_8 = true := by decide +kernel
def sg_X7_readsLetters_32 : List Ins := [(32, .aload_n 0, 0, 0, 0, 0), (33, .aload_n 0, 0, 0, 0, 0), (34, .getfield 238, 7, 7, 724, 0), (37, .putfield 262, 7, 13, 730, 0), (40, .aload_n 0, 0, 0, 0, 0), (41, .getfield 262, 7, 13, 730, 0), (44, .aload_n 0, 0, 0, 0, 0), (45, .getfield 259, 7, 12, 729, 0), (48, .if_icmp .le 7, 0, 0, 55, 0), (51, .iconst 1, 1, 0, 0, 0), (52, .goto 4, 0, 0, 56, 0)]
theorem so_X7_readsLetters_32 : sgOK mi_X7_readsLetters gm_X7_readsLetters sg_X7_readsLetters_32 = true := by decide +kernel
def sg_X7_readsLetters_55 : List Ins := [(55, .iconst 0, 0, 0, 0, 0), (56, .ireturn, 0, 0, 0, 0)]
theorem so_X7_readsLetters_55 : sgOK mi_X7_readsLetters gm_X7_readsLetters sg_X7_readsLetters_55 = true := by decide +kernel
def sg_X7_readsLetters_56 : List Ins := [(56, .ireturn, 0, 0, 0, 0)]
theorem so_X7_readsLetters_56 : sgOK mi_X7_readsLetters gm_X7_readsLetters sg_X7_readsLetters_56 = true := by decide +kernel
def sgs_X7_readsLetters : Nat → Option (List Ins) := fun t => match t with
  | 0 => some sg_X7_readsLetters_0
  | 32 => some sg_X7_readsLetters_32
  | 55 => some sg_X7_readsLetters_55
  | 56 => some sg_X7_readsLetters_56
  | _ => none
theorem so_X7_readsLetters : ∀ t sg, sgs_X7_readsLetters t = some sg → sgOK mi_X7_readsLetters gm_X7_readsLetters sg = true ∧ segPc sg = t := by
  intro t sg h
  unfold sgs_X7_readsLetters at h
  split at h
  · cases h; exact ⟨so_X7_readsLetters_0, rfl⟩
  · cases h; exact ⟨so_X7_readsLetters_32, rfl⟩
  · cases h; exact ⟨so_X7_readsLetters_55, rfl⟩
  · cases h; exact ⟨so_X7_readsLetters_56, rfl⟩
  · cases h
def gm_X7_readsOrder : List MI := [mi_X7_digit, mi_X7_readsPlace, mi_X7_takes, mi_X7_readsLetters, mi_X7_number]
def sg_X7_readsOrder_0 : List Ins := [(0, .aload_n 0, 0, 0, 0, 0), (1, .aload_n 0, 0, 0, 0, 0), (2, .getfield 238, 7, 7, 724, 0), (5, .aload_n 0, 0, 0, 0, 0), (6, .getfield 199, 7, 6, 723, 0), (9, .if_icmp .ge 16, 0, 0, 25, 0), (12, .aload_n 0, 0, 0, 0, 0), (13, .getfield 24, 7, 5, 722, 0), (16, .aload_n 0, 0, 0, 0, 0), (17, .getfield 238, 7, 7, 724, 0), (20, .iaload, 8, 0, 0, 0), (21, .i2c, 0, 0, 0, 0), (22, .goto 5, 0, 0, 27, 0)]
theorem so_X7_readsOrder_0 : sgOK mi_X7_readsOrder gm_X7_readsOrder sg_X7_readsOrder_0 = true := by decide +kernel
def sg_X7_readsOrder_25 : List Ins := [(25, .bipush 32, 32, 0, 0, 0), (27, .putfield 265, 7, 8, 725, 0), (30, .aload_n 0, 0, 0, 0, 0), (31, .dup, 0, 0, 0, 0), (32, .getfield 238, 7, 7, 724, 0), (35, .iconst 1, 1, 0, 0, 0), (36, .iadd, 0, 0, 0, 0), (37, .putfield 238, 7, 7, 724, 0), (40, .aload_n 0, 0, 0, 0, 0), (41, .getfield 265, 7, 8, 725, 0), (44, .tableswitch 213 104 120 #[190, 213, 213, 86, 213, 213, 84, 86, 155, 213, 213, 213, 213, 213, 213, 109, 185], 84, 0, 0, 0)]
theorem so_X7_readsOrder_25 : sgOK mi_X7_readsOrder gm_X7_readsOrder sg_X7_readsOrder_25 = true := by decide +kernel
def sg_X7_readsOrder_27 : List Ins := [(27, .putfield 265, 7, 8, 725, 0), (30, .aload_n 0, 0, 0, 0, 0), (31, .dup, 0, 0, 0, 0), (32, .getfield 238, 7, 7, 724, 0), (35, .iconst 1, 1, 0, 0, 0), (36, .iadd, 0, 0, 0, 0), (37, .putfield 238, 7, 7, 724, 0), (40, .aload_n 0, 0, 0, 0, 0), (41, .getfield 265, 7, 8, 725, 0), (44, .tableswitch 213 104 120 #[190, 213, 213, 86, 213, 213, 84, 86, 155, 213, 213, 213, 213, 213, 213, 109, 185], 84, 0, 0, 0)]
theorem so_X7_readsOrder_27 : sgOK mi_X7_readsOrder gm_X7_readsOrder sg_X7_readsOrder_27 = true := by decide +kernel
def sg_X7_readsOrder_128 : List Ins := [(128, .iconst 1, 1, 0, 0, 0), (129, .ireturn, 0, 0, 0, 0)]
theorem so_X7_readsOrder_128 : sgOK mi_X7_readsOrder gm_X7_readsOrder sg_X7_readsOrder_128 = true := by decide +kernel
def sg_X7_readsOrder_130 : List Ins := [(130, .aload_n 0, 0, 0, 0, 0), (131, .aload_n 0, 0, 0, 0, 0), (132, .invokevirtual 244, 1075, 0, 17, 1), (135, .putfield 269, 7, 9, 726, 0), (138, .aload_n 0, 0, 0, 0, 0), (139, .getfield 269, 7, 9, 726, 0), (142, .bipush (-6), 6, 1, 0, 0), (144, .if_icmp .eq 7, 0, 0, 151, 0), (147, .iconst 1, 1, 0, 0, 0), (148, .goto 4, 0, 0, 152, 0)]
theorem so_X7_readsOrder_130 : sgOK mi_X7_readsOrder gm_X7_readsOrder sg_X7_readsOrder_130 = true := by decide +kernel
def sg_X7_readsOrder_151 : List Ins := [(151, .iconst 0, 0, 0, 0, 0), (152, .ireturn, 0, 0, 0, 0)]
theorem so_X7_readsOrder_151 : sgOK mi_X7_readsOrder gm_X7_readsOrder sg_X7_readsOrder_151 = true := by decide +kernel
def sg_X7_readsOrder_152 : List Ins := [(152, .ireturn, 0, 0, 0, 0)]
theorem so_X7_readsOrder_152 : sgOK mi_X7_readsOrder gm_X7_readsOrder sg_X7_readsOrder_152 = true := by decide +kernel
def sg_X7_readsOrder_153 : List Ins := [(153, .aload_n 0, 0, 0, 0, 0), (154, .aload_n 0, 0, 0, 0, 0), (155, .invokevirtual 244, 1075, 0, 17, 1), (158, .putfield 269, 7, 9, 726, 0), (161, .aload_n 0, 0, 0, 0, 0), (162, .getfield 269, 7, 9, 726, 0), (165, .bipush (-6), 6, 1, 0, 0), (167, .if_icmp .eq 30, 0, 0, 197, 0), (170, .aload_n 0, 0, 0, 0, 0), (171, .invokevirtual 272, 1083, 1, 17, 1), (174, .ifCond .eq 23, 0, 0, 197, 0), (177, .aload_n 0, 0, 0, 0, 0), (178, .bipush 61, 61, 0, 0, 0), (180, .invokevirtual 247, 1087, 2, 17, 2), (183, .ifCond .eq 14, 0, 0, 197, 0), (186, .aload_n 0, 0, 0, 0, 0), (187, .invokevirtual 276, 1095, 3, 17, 1), (190, .ifCond .eq 7, 0, 0, 197, 0), (193, .iconst 1, 1, 0, 0, 0), (194, .goto 4, 0, 0, 198, 0)]
theorem so_X7_readsOrder_153 : sgOK mi_X7_readsOrder gm_X7_readsOrder sg_X7_readsOrder_153 = true := by decide +kernel
def sg_X7_readsOrder_197 : List Ins := [(197, .iconst 0, 0, 0, 0, 0), (198, .ireturn, 0, 0, 0, 0)]
theorem so_X7_readsOrder_197 : sgOK mi_X7_readsOrder gm_X7_readsOrder sg_X7_readsOrder_197 = true := by decide +kernel
def sg_X7_readsOrder_198 : List Ins := [(198, .ireturn, 0, 0, 0, 0)]
theorem so_X7_readsOrder_198 : sgOK mi_X7_readsOrder gm_X7_readsOrder sg_X7_readsOrder_198 = true := by decide +kernel
def sg_X7_readsOrder_199 : List Ins := [(199, .aload_n 0, 0, 0, 0, 0), (200, .aload_n 0, 0, 0, 0, 0), (201, .invokevirtual 244, 1075, 0, 17, 1), (204, .putfield 269, 7, 9, 726, 0), (207, .aload_n 0, 0, 0, 0, 0), (208, .getfield 269, 7, 9, 726, 0), (211, .bipush (-6), 6, 1, 0, 0), (213, .if_icmp .eq 14, 0, 0, 227, 0), (216, .aload_n 0, 0, 0, 0, 0), (217, .invokevirtual 272, 1083, 1, 17, 1), (220, .ifCond .eq 7, 0, 0, 227, 0), (223, .iconst 1, 1, 0, 0, 0), (224, .goto 4, 0, 0, 228, 0)]
theorem so_X7_readsOrder_199 : sgOK mi_X7_readsOrder gm_X7_readsOrder sg_X7_readsOrder_199 = true := by decide +kernel
def sg_X7_readsOrder_227 : List Ins := [(227, .iconst 0, 0, 0, 0, 0), (228, .ireturn, 0, 0, 0, 0)]
theorem so_X7_readsOrder_227 : sgOK mi_X7_readsOrder gm_X7_readsOrder sg_X7_readsOrder_227 = true := by decide +kernel
def sg_X7_readsOrder_228 : List Ins := [(228, .ireturn, 0, 0, 0, 0)]
theorem so_X7_readsOrder_228 : sgOK mi_X7_readsOrder gm_X7_readsOrder sg_X7_readsOrder_228 = true := by decide +kernel
def sg_X7_readsOrder_229 : List Ins := [(229, .aload_n 0, 0, 0, 0, 0), (230, .invokevirtual 272, 1083, 1, 17, 1), (233, .ireturn, 0, 0, 0, 0)]
theorem so_X7_readsOrder_229 : sgOK mi_X7_readsOrder gm_X7_readsOrder sg_X7_readsOrder_229 = true := by decide +kernel
def sg_X7_readsOrder_234 : List Ins := [(234, .aload_n 0, 0, 0, 0, 0), (235, .aload_n 0, 0, 0, 0, 0), (236, .invokevirtual 250, 1091, 4, 17, 1), (239, .putfield 269, 7, 9, 726, 0), (242, .aload_n 0, 0, 0, 0, 0), (243, .getfield 269, 7, 9, 726, 0), (246, .bipush (-6), 6, 1, 0, 0), (248, .if_icmp .eq 7, 0, 0, 255, 0), (251, .iconst 1, 1, 0, 0, 0), (252, .goto 4, 0, 0, 256, 0)]
theorem so_X7_readsOrder_234 : sgOK mi_X7_readsOrder gm_X7_readsOrder sg_X7_readsOrder_234 = true := by decide +kernel
def sg_X7_readsOrder_255 : List Ins := [(255, .iconst 0, 0, 0, 0, 0), (256, .ireturn, 0, 0, 0, 0)]
theorem so_X7_readsOrder_255 : sgOK mi_X7_readsOrder gm_X7_readsOrder sg_X7_readsOrder_255 = true := by decide +kernel
def sg_X7_readsOrder_256 : List Ins := [(256, .ireturn, 0, 0, 0, 0)]
theorem so_X7_readsOrder_256 : sgOK mi_X7_readsOrder gm_X7_readsOrder sg_X7_readsOrder_256 = true := by decide +kernel
def sg_X7_readsOrder_257 : List Ins := [(257, .aload_n 0, 0, 0, 0, 0), (258, .dup, 0, 0, 0, 0), (259, .getfield 238, 7, 7, 724, 0), (262, .iconst 1, 1, 0, 0, 0), (263, .isub, 0, 0, 0, 0), (264, .putfield 238, 7, 7, 724, 0), (267, .iconst 0, 0, 0, 0, 0), (268, .ireturn, 0, 0, 0, 0)]
theorem so_X7_readsOrder_257 : sgOK mi_X7_readsOrder gm_X7_readsOrder sg_X7_readsOrder_257 = true := by decide +kernel
def sgs_X7_readsOrder : Nat → Option (List Ins) := fun t => match t with
  | 0 => some sg_X7_readsOrder_0
  | 25 => some sg_X7_readsOrder_25
  | 27 => some sg_X7_readsOrder_27
  | 128 => some sg_X7_readsOrder_128
  | 130 => some sg_X7_readsOrder_130
  | 151 => some sg_X7_readsOrder_151
  | 152 => some sg_X7_readsOrder_152
  | 153 => some sg_X7_readsOrder_153
  | 197 => some sg_X7_readsOrder_197
  | 198 => some sg_X7_readsOrder_198
  | 199 => some sg_X7_readsOrder_199
  | 227 => some sg_X7_readsOrder_227
  | 228 => some sg_X7_readsOrder_228
  | 229 => some sg_X7_readsOrder_229
  | 234 => some sg_X7_readsOrder_234
  | 255 => some sg_X7_readsOrder_255
  | 256 => some sg_X7_readsOrder_256
  | 257 => some sg_X7_readsOrder_257
  | _ => none
theorem so_X7_readsOrder : ∀ t sg, sgs_X7_readsOrder t = some sg → sgOK mi_X7_readsOrder gm_X7_readsOrder sg = true ∧ segPc sg = t := by
  intro t sg h
  unfold sgs_X7_readsOrder at h
  split at h
  · cases h; exact ⟨so_X7_readsOrder_0, rfl⟩
  · cases h; exact ⟨so_X7_readsOrder_25, rfl⟩
  · cases h; exact ⟨so_X7_readsOrder_27, rfl⟩
  · cases h; exact ⟨so_X7_readsOrder_128, rfl⟩
  · cases h; exact ⟨so_X7_readsOrder_130, rfl⟩
  · cases h; exact ⟨so_X7_readsOrder_151, rfl⟩
  · cases h; exact ⟨so_X7_readsOrder_152, rfl⟩
  · cases h; exact ⟨so_X7_readsOrder_153, rfl⟩
  · cases h; exact ⟨so_X7_readsOrder_197, rfl⟩
  · cases h; exact ⟨so_X7_readsOrder_198, rfl⟩
  · cases h; exact ⟨so_X7_readsOrder_199, rfl⟩
  · cases h; exact ⟨so_X7_readsOrder_227, rfl⟩
  · cases h; exact ⟨so_X7_readsOrder_228, rfl⟩
  · cases h; exact ⟨so_X7_readsOrder_229, rfl⟩
  · cases h; exact ⟨so_X7_readsOrder_234, rfl⟩
  · cases h; exact ⟨so_X7_readsOrder_255, rfl⟩
  · cases h; exact ⟨so_X7_readsOrder_256, rfl⟩
  · cases h; exact ⟨so_X7_readsOrder_257, rfl⟩
  · cases h
def gm_X7_fault : List MI := [mi_X7_readsOrder, mi_X7_takes]
def sg_X7_fault_0 : List Ins := [(0, .aload_n 0, 0, 0, 0, 0), (1, .iconst 0, 0, 0, 0, 0), (2, .putfield 238, 7, 7, 724, 0), (5, .iconst 1, 1, 0, 0, 0), (6, .istore_n 1, 0, 0, 0, 0), (7, .nop, 0, 0, 0, 0)]
theorem so_X7_fault_0 : sgOK mi_X7_fault gm_X7_fault sg_X7_fault_0 = true := by decide +kernel
def sg_X7_fault_7 : List Ins := [(7, .iload_n 1, 0, 0, 0, 0), (8, .ifCond .eq 25, 0, 0, 33, 0), (11, .aload_n 0, 0, 0, 0, 0), (12, .invokevirtual 279, 1071, 0, 17, 1), (15, .ifCond .ne 8, 0, 0, 23, 0), (18, .aload_n 0, 0, 0, 0, 0), (19, .getfield 238, 7, 7, 724, 0), (22, .ireturn, 0, 0, 0, 0)]
theorem so_X7_fault_7 : sgOK mi_X7_fault gm_X7_fault sg_X7_fault_7 = true := by decide +kernel
def sg_X7_fault_23 : List Ins := [(23, .aload_n 0, 0, 0, 0, 0), (24, .bipush 59, 59, 0, 0, 0), (26, .invokevirtual 247, 1087, 1, 17, 2), (29, .istore_n 1, 0, 0, 0, 0), (30, .goto (-23), 0, 0, 7, 0)]
theorem so_X7_fault_23 : sgOK mi_X7_fault gm_X7_fault sg_X7_fault_23 = true := by decide +kernel
def sg_X7_fault_33 : List Ins := [(33, .aload_n 0, 0, 0, 0, 0), (34, .getfield 238, 7, 7, 724, 0), (37, .aload_n 0, 0, 0, 0, 0), (38, .getfield 199, 7, 6, 723, 0), (41, .if_icmp .ne 8, 0, 0, 49, 0), (44, .bipush (-6), 6, 1, 0, 0), (46, .goto 7, 0, 0, 53, 0)]
theorem so_X7_fault_33 : sgOK mi_X7_fault gm_X7_fault sg_X7_fault_33 = true := by decide +kernel
def sg_X7_fault_49 : List Ins := [(49, .aload_n 0, 0, 0, 0, 0), (50, .getfield 238, 7, 7, 724, 0), (53, .ireturn, 0, 0, 0, 0)]
theorem so_X7_fault_49 : sgOK mi_X7_fault gm_X7_fault sg_X7_fault_49 = true := by decide +kernel
def sg_X7_fault_53 : List Ins := [(53, .ireturn, 0, 0, 0, 0)]
theorem so_X7_fault_53 : sgOK mi_X7_fault gm_X7_fault sg_X7_fault_53 = true := by decide +kernel
def sgs_X7_fault : Nat → Option (List Ins) := fun t => match t with
  | 0 => some sg_X7_fault_0
  | 23 => some sg_X7_fault_23
  | 33 => some sg_X7_fault_33
  | 49 => some sg_X7_fault_49
  | 53 => some sg_X7_fault_53
  | _ => none
theorem so_X7_fault : ∀ t sg, sgs_X7_fault t = some sg → sgOK mi_X7_fault gm_X7_fault sg = true ∧ segPc sg = t := by
  intro t sg h
  unfold sgs_X7_fault at h
  split at h
  · cases h; exact ⟨so_X7_fault_0, rfl⟩
  · cases h; exact ⟨so_X7_fault_23, rfl⟩
  · cases h; exact ⟨so_X7_fault_33, rfl⟩
  · cases h; exact ⟨so_X7_fault_49, rfl⟩
  · cases h; exact ⟨so_X7_fault_53, rfl⟩
  · cases h
def gm_X7_orderError : List MI := [mi_X7_layError, mi_X7_writerError, mi_X7_writeError, mi_X7_promiseError, mi_X7_rubError, mi_X7_passError]
def sg_X7_orderError_0 : List Ins := [(0, .aload_n 0, 0, 0, 0, 0), (1, .getfield 265, 7, 8, 725, 0), (4, .tableswitch 170 107 120 #[98, 170, 170, 72, 89, 140, 170, 170, 170, 170, 170, 170, 107, 157], 72, 0, 0, 0)]
theorem so_X7_orderError_0 : sgOK mi_X7_orderError gm_X7_orderError sg_X7_orderError_0 = true := by decide +kernel
def sg_X7_orderError_76 : List Ins := [(76, .aload_n 0, 0, 0, 0, 0), (77, .getfield 7, 7, 0, 717, 0), (80, .iconst 5, 5, 0, 0, 0), (81, .iaload, 8, 0, 0, 0), (82, .iconst 4, 4, 0, 0, 0), (83, .if_icmp .ne 8, 0, 0, 91, 0), (86, .bipush (-4), 4, 1, 0, 0), (88, .goto 4, 0, 0, 92, 0)]
theorem so_X7_orderError_76 : sgOK mi_X7_orderError gm_X7_orderError sg_X7_orderError_76 = true := by decide +kernel
def sg_X7_orderError_91 : List Ins := [(91, .iconst 0, 0, 0, 0, 0), (92, .ireturn, 0, 0, 0, 0)]
theorem so_X7_orderError_91 : sgOK mi_X7_orderError gm_X7_orderError sg_X7_orderError_91 = true := by decide +kernel
def sg_X7_orderError_92 : List Ins := [(92, .ireturn, 0, 0, 0, 0)]
theorem so_X7_orderError_92 : sgOK mi_X7_orderError gm_X7_orderError sg_X7_orderError_92 = true := by decide +kernel
def sg_X7_orderError_93 : List Ins := [(93, .aload_n 0, 0, 0, 0, 0), (94, .aload_n 0, 0, 0, 0, 0), (95, .getfield 269, 7, 9, 726, 0), (98, .invokevirtual 134, 800, 0, 17, 2), (101, .ireturn, 0, 0, 0, 0)]
theorem so_X7_orderError_93 : sgOK mi_X7_orderError gm_X7_orderError sg_X7_orderError_93 = true := by decide +kernel
def sg_X7_orderError_102 : List Ins := [(102, .aload_n 0, 0, 0, 0, 0), (103, .aload_n 0, 0, 0, 0, 0), (104, .getfield 269, 7, 9, 726, 0), (107, .invokevirtual 140, 816, 1, 17, 2), (110, .ireturn, 0, 0, 0, 0)]
theorem so_X7_orderError_102 : sgOK mi_X7_orderError gm_X7_orderError sg_X7_orderError_102 = true := by decide +kernel
def sg_X7_orderError_111 : List Ins := [(111, .aload_n 0, 0, 0, 0, 0), (112, .aload_n 0, 0, 0, 0, 0), (113, .getfield 269, 7, 9, 726, 0), (116, .aload_n 0, 0, 0, 0, 0), (117, .getfield 253, 7, 10, 727, 0), (120, .aload_n 0, 0, 0, 0, 0), (121, .getfield 256, 7, 11, 728, 0), (124, .iload_n 1, 0, 0, 0, 0), (125, .iadd, 0, 0, 0, 0), (126, .aload_n 0, 0, 0, 0, 0), (127, .getfield 259, 7, 12, 729, 0), (130, .isub, 0, 0, 0, 0), (131, .aload_n 0, 0, 0, 0, 0), (132, .getfield 24, 7, 5, 722, 0), (135, .iload_n 1, 0, 0, 0, 0), (136, .iaload, 8, 0, 0, 0), (137, .bipush 97, 97, 0, 0, 0), (139, .isub, 0, 0, 0, 0), (140, .invokevirtual 146, 829, 2, 17, 5), (143, .ireturn, 0, 0, 0, 0)]
theorem so_X7_orderError_111 : sgOK mi_X7_orderError gm_X7_orderError sg_X7_orderError_111 = true := by decide +kernel
def sg_X7_orderError_144 : List Ins := [(144, .aload_n 0, 0, 0, 0, 0), (145, .aload_n 0, 0, 0, 0, 0), (146, .getfield 269, 7, 9, 726, 0), (149, .aload_n 0, 0, 0, 0, 0), (150, .getfield 253, 7, 10, 727, 0), (153, .aload_n 0, 0, 0, 0, 0), (154, .getfield 256, 7, 11, 728, 0), (157, .invokevirtual 153, 890, 3, 17, 4), (160, .ireturn, 0, 0, 0, 0)]
theorem so_X7_orderError_144 : sgOK mi_X7_orderError gm_X7_orderError sg_X7_orderError_144 = true := by decide +kernel
def sg_X7_orderError_161 : List Ins := [(161, .aload_n 0, 0, 0, 0, 0), (162, .aload_n 0, 0, 0, 0, 0), (163, .getfield 253, 7, 10, 727, 0), (166, .aload_n 0, 0, 0, 0, 0), (167, .getfield 256, 7, 11, 728, 0), (170, .invokevirtual 159, 918, 4, 17, 3), (173, .ireturn, 0, 0, 0, 0)]
theorem so_X7_orderError_161 : sgOK mi_X7_orderError gm_X7_orderError sg_X7_orderError_161 = true := by decide +kernel
def sg_X7_orderError_174 : List Ins := [(174, .aload_n 0, 0, 0, 0, 0), (175, .aload_n 0, 0, 0, 0, 0), (176, .getfield 269, 7, 9, 726, 0), (179, .invokevirtual 165, 930, 5, 17, 2), (182, .ireturn, 0, 0, 0, 0)]
theorem so_X7_orderError_174 : sgOK mi_X7_orderError gm_X7_orderError sg_X7_orderError_174 = true := by decide +kernel
def sgs_X7_orderError : Nat → Option (List Ins) := fun t => match t with
  | 0 => some sg_X7_orderError_0
  | 76 => some sg_X7_orderError_76
  | 91 => some sg_X7_orderError_91
  | 92 => some sg_X7_orderError_92
  | 93 => some sg_X7_orderError_93
  | 102 => some sg_X7_orderError_102
  | 111 => some sg_X7_orderError_111
  | 144 => some sg_X7_orderError_144
  | 161 => some sg_X7_orderError_161
  | 174 => some sg_X7_orderError_174
  | _ => none
theorem so_X7_orderError : ∀ t sg, sgs_X7_orderError t = some sg → sgOK mi_X7_orderError gm_X7_orderError sg = true ∧ segPc sg = t := by
  intro t sg h
  unfold sgs_X7_orderError at h
  split at h
  · cases h; exact ⟨so_X7_orderError_0, rfl⟩
  · cases h; exact ⟨so_X7_orderError_76, rfl⟩
  · cases h; exact ⟨so_X7_orderError_91, rfl⟩
  · cases h; exact ⟨so_X7_orderError_92, rfl⟩
  · cases h; exact ⟨so_X7_orderError_93, rfl⟩
  · cases h; exact ⟨so_X7_orderError_102, rfl⟩
  · cases h; exact ⟨so_X7_orderError_111, rfl⟩
  · cases h; exact ⟨so_X7_orderError_144, rfl⟩
  · cases h; exact ⟨so_X7_orderError_161, rfl⟩
  · cases h; exact ⟨so_X7_orderError_174, rfl⟩
  · cases h
def gm_X7_does : List MI := [mi_X7_comes, mi_X7_lays, mi_X7_joins, mi_X7_spotOf, mi_X7_pens, mi_X7_promises, mi_X7_rubs, mi_X7_goesOn]
def sg_X7_does_0 : List Ins := [(0, .aload_n 0, 0, 0, 0, 0), (1, .getfield 265, 7, 8, 725, 0), (4, .tableswitch 167 107 120 #[86, 167, 167, 72, 77, 131, 167, 167, 167, 167, 167, 167, 95, 151], 72, 0, 0, 0)]
theorem so_X7_does_0 : sgOK mi_X7_does gm_X7_does sg_X7_does_0 = true := by decide +kernel
def sg_X7_does_76 : List Ins := [(76, .aload_n 0, 0, 0, 0, 0), (77, .invokevirtual 130, 786, 0, 17, 1), (80, .ireturn, 0, 0, 0, 0)]
theorem so_X7_does_76 : sgOK mi_X7_does gm_X7_does sg_X7_does_76 = true := by decide +kernel
def sg_X7_does_81 : List Ins := [(81, .aload_n 0, 0, 0, 0, 0), (82, .aload_n 0, 0, 0, 0, 0), (83, .getfield 269, 7, 9, 726, 0), (86, .invokevirtual 137, 808, 1, 17, 2), (89, .ireturn, 0, 0, 0, 0)]
theorem so_X7_does_81 : sgOK mi_X7_does gm_X7_does sg_X7_does_81 = true := by decide +kernel
def sg_X7_does_90 : List Ins := [(90, .aload_n 0, 0, 0, 0, 0), (91, .aload_n 0, 0, 0, 0, 0), (92, .getfield 269, 7, 9, 726, 0), (95, .invokevirtual 143, 821, 2, 17, 2), (98, .ireturn, 0, 0, 0, 0)]
theorem so_X7_does_90 : sgOK mi_X7_does gm_X7_does sg_X7_does_90 = true := by decide +kernel
def sg_X7_does_99 : List Ins := [(99, .aload_n 0, 0, 0, 0, 0), (100, .aload_n 0, 0, 0, 0, 0), (101, .getfield 269, 7, 9, 726, 0), (104, .aload_n 0, 0, 0, 0, 0), (105, .getfield 253, 7, 10, 727, 0), (108, .aload_n 0, 0, 0, 0, 0), (109, .getfield 256, 7, 11, 728, 0), (112, .iload_n 1, 0, 0, 0, 0), (113, .iadd, 0, 0, 0, 0), (114, .aload_n 0, 0, 0, 0, 0), (115, .getfield 259, 7, 12, 729, 0), (118, .isub, 0, 0, 0, 0), (119, .invokestatic 94, 846, 3, 0, 2), (122, .aload_n 0, 0, 0, 0, 0), (123, .getfield 24, 7, 5, 722, 0), (126, .iload_n 1, 0, 0, 0, 0), (127, .iaload, 8, 0, 0, 0), (128, .bipush 97, 97, 0, 0, 0), (130, .isub, 0, 0, 0, 0), (131, .invokevirtual 150, 862, 4, 17, 4), (134, .ireturn, 0, 0, 0, 0)]
theorem so_X7_does_99 : sgOK mi_X7_does gm_X7_does sg_X7_does_99 = true := by decide +kernel
def sg_X7_does_135 : List Ins := [(135, .aload_n 0, 0, 0, 0, 0), (136, .aload_n 0, 0, 0, 0, 0), (137, .getfield 269, 7, 9, 726, 0), (140, .aload_n 0, 0, 0, 0, 0), (141, .getfield 253, 7, 10, 727, 0), (144, .aload_n 0, 0, 0, 0, 0), (145, .getfield 256, 7, 11, 728, 0), (148, .invokestatic 94, 846, 3, 0, 2), (151, .invokevirtual 156, 902, 5, 17, 3), (154, .ireturn, 0, 0, 0, 0)]
theorem so_X7_does_135 : sgOK mi_X7_does gm_X7_does sg_X7_does_135 = true := by decide +kernel
def sg_X7_does_155 : List Ins := [(155, .aload_n 0, 0, 0, 0, 0), (156, .aload_n 0, 0, 0, 0, 0), (157, .getfield 253, 7, 10, 727, 0), (160, .aload_n 0, 0, 0, 0, 0), (161, .getfield 256, 7, 11, 728, 0), (164, .invokestatic 94, 846, 3, 0, 2), (167, .invokevirtual 162, 922, 6, 17, 2), (170, .ireturn, 0, 0, 0, 0)]
theorem so_X7_does_155 : sgOK mi_X7_does gm_X7_does sg_X7_does_155 = true := by decide +kernel
def sg_X7_does_171 : List Ins := [(171, .aload_n 0, 0, 0, 0, 0), (172, .aload_n 0, 0, 0, 0, 0), (173, .getfield 269, 7, 9, 726, 0), (176, .invokevirtual 168, 935, 7, 17, 2), (179, .ireturn, 0, 0, 0, 0)]
theorem so_X7_does_171 : sgOK mi_X7_does gm_X7_does sg_X7_does_171 = true := by decide +kernel
def sgs_X7_does : Nat → Option (List Ins) := fun t => match t with
  | 0 => some sg_X7_does_0
  | 76 => some sg_X7_does_76
  | 81 => some sg_X7_does_81
  | 90 => some sg_X7_does_90
  | 99 => some sg_X7_does_99
  | 135 => some sg_X7_does_135
  | 155 => some sg_X7_does_155
  | 171 => some sg_X7_does_171
  | _ => none
theorem so_X7_does : ∀ t sg, sgs_X7_does t = some sg → sgOK mi_X7_does gm_X7_does sg = true ∧ segPc sg = t := by
  intro t sg h
  unfold sgs_X7_does at h
  split at h
  · cases h; exact ⟨so_X7_does_0, rfl⟩
  · cases h; exact ⟨so_X7_does_76, rfl⟩
  · cases h; exact ⟨so_X7_does_81, rfl⟩
  · cases h; exact ⟨so_X7_does_90, rfl⟩
  · cases h; exact ⟨so_X7_does_99, rfl⟩
  · cases h; exact ⟨so_X7_does_135, rfl⟩
  · cases h; exact ⟨so_X7_does_155, rfl⟩
  · cases h; exact ⟨so_X7_does_171, rfl⟩
  · cases h
def gm_X7_carryOut : List MI := [mi_X7_fault, mi_X7_changes, mi_X7_readsOrder, mi_X7_orderError, mi_X7_does, mi_X7_takes]
def sg_X7_carryOut_0 : List Ins := [(0, .aload_n 0, 0, 0, 0, 0), (1, .invokevirtual 282, 1103, 0, 17, 1), (4, .bipush (-6), 6, 1, 0, 0), (6, .if_icmp .eq 6, 0, 0, 12, 0), (9, .bipush (-3), 3, 1, 0, 0), (11, .ireturn, 0, 0, 0, 0)]
theorem so_X7_carryOut_0 : sgOK mi_X7_carryOut gm_X7_carryOut sg_X7_carryOut_0 = true := by decide +kernel
def sg_X7_carryOut_12 : List Ins := [(12, .aload_n 0, 0, 0, 0, 0), (13, .invokevirtual 127, 774, 1, 17, 1), (16, .aload_n 0, 0, 0, 0, 0), (17, .iconst 0, 0, 0, 0, 0), (18, .putfield 238, 7, 7, 724, 0), (21, .iconst 0, 0, 0, 0, 0), (22, .istore_n 1, 0, 0, 0, 0), (23, .iconst 1, 1, 0, 0, 0), (24, .istore_n 2, 0, 0, 0, 0), (25, .nop, 0, 0, 0, 0)]
theorem so_X7_carryOut_12 : sgOK mi_X7_carryOut gm_X7_carryOut sg_X7_carryOut_12 = true := by decide +kernel
def sg_X7_carryOut_25 : List Ins := [(25, .iload_n 2, 0, 0, 0, 0), (26, .ifCond .eq 121, 0, 0, 147, 0), (29, .aload_n 0, 0, 0, 0, 0), (30, .invokevirtual 279, 1071, 2, 17, 1), (33, .istore_n 3, 0, 0, 0, 0), (34, .aload_n 0, 0, 0, 0, 0), (35, .getfield 265, 7, 8, 725, 0), (38, .bipush 119, 119, 0, 0, 0), (40, .if_icmp .ne 10, 0, 0, 50, 0), (43, .aload_n 0, 0, 0, 0, 0), (44, .getfield 262, 7, 13, 730, 0), (47, .goto 9, 0, 0, 56, 0)]
theorem so_X7_carryOut_25 : sgOK mi_X7_carryOut gm_X7_carryOut sg_X7_carryOut_25 = true := by decide +kernel
def sg_X7_carryOut_50 : List Ins := [(50, .aload_n 0, 0, 0, 0, 0), (51, .getfield 259, 7, 12, 729, 0), (54, .iconst 1, 1, 0, 0, 0), (55, .iadd, 0, 0, 0, 0), (56, .istore 4, 0, 0, 0, 0), (58, .aload_n 0, 0, 0, 0, 0), (59, .getfield 259, 7, 12, 729, 0), (62, .istore 5, 0, 0, 0, 0), (64, .nop, 0, 0, 0, 0)]
theorem so_X7_carryOut_50 : sgOK mi_X7_carryOut gm_X7_carryOut sg_X7_carryOut_50 = true := by decide +kernel
def sg_X7_carryOut_56 : List Ins := [(56, .istore 4, 0, 0, 0, 0), (58, .aload_n 0, 0, 0, 0, 0), (59, .getfield 259, 7, 12, 729, 0), (62, .istore 5, 0, 0, 0, 0), (64, .nop, 0, 0, 0, 0)]
theorem so_X7_carryOut_56 : sgOK mi_X7_carryOut gm_X7_carryOut sg_X7_carryOut_56 = true := by decide +kernel
def sg_X7_carryOut_64 : List Ins := [(64, .iload 5, 0, 0, 0, 0), (66, .iload 4, 0, 0, 0, 0), (68, .if_icmp .ge 57, 0, 0, 125, 0), (71, .iload_n 2, 0, 0, 0, 0), (72, .ifCond .eq 53, 0, 0, 125, 0), (75, .aload_n 0, 0, 0, 0, 0), (76, .iload 5, 0, 0, 0, 0), (78, .invokevirtual 285, 1104, 3, 17, 2), (81, .ifCond .ne 7, 0, 0, 88, 0), (84, .iconst 1, 1, 0, 0, 0), (85, .goto 4, 0, 0, 89, 0)]
theorem so_X7_carryOut_64 : sgOK mi_X7_carryOut gm_X7_carryOut sg_X7_carryOut_64 = true := by decide +kernel
def sg_X7_carryOut_88 : List Ins := [(88, .iconst 0, 0, 0, 0, 0), (89, .istore_n 2, 0, 0, 0, 0), (90, .iload_n 2, 0, 0, 0, 0), (91, .ifCond .eq 12, 0, 0, 103, 0), (94, .aload_n 0, 0, 0, 0, 0), (95, .iload 5, 0, 0, 0, 0), (97, .invokevirtual 288, 1108, 4, 17, 2), (100, .goto 5, 0, 0, 105, 0)]
theorem so_X7_carryOut_88 : sgOK mi_X7_carryOut gm_X7_carryOut sg_X7_carryOut_88 = true := by decide +kernel
def sg_X7_carryOut_89 : List Ins := [(89, .istore_n 2, 0, 0, 0, 0), (90, .iload_n 2, 0, 0, 0, 0), (91, .ifCond .eq 12, 0, 0, 103, 0), (94, .aload_n 0, 0, 0, 0, 0), (95, .iload 5, 0, 0, 0, 0), (97, .invokevirtual 288, 1108, 4, 17, 2), (100, .goto 5, 0, 0, 105, 0)]
theorem so_X7_carryOut_89 : sgOK mi_X7_carryOut gm_X7_carryOut sg_X7_carryOut_89 = true := by decide +kernel
def sg_X7_carryOut_103 : List Ins := [(103, .bipush (-6), 6, 1, 0, 0), (105, .istore 6, 0, 0, 0, 0), (107, .iload_n 1, 0, 0, 0, 0), (108, .iload_n 2, 0, 0, 0, 0), (109, .ifCond .eq 7, 0, 0, 116, 0), (112, .iconst 1, 1, 0, 0, 0), (113, .goto 4, 0, 0, 117, 0)]
theorem so_X7_carryOut_103 : sgOK mi_X7_carryOut gm_X7_carryOut sg_X7_carryOut_103 = true := by decide +kernel
def sg_X7_carryOut_105 : List Ins := [(105, .istore 6, 0, 0, 0, 0), (107, .iload_n 1, 0, 0, 0, 0), (108, .iload_n 2, 0, 0, 0, 0), (109, .ifCond .eq 7, 0, 0, 116, 0), (112, .iconst 1, 1, 0, 0, 0), (113, .goto 4, 0, 0, 117, 0)]
theorem so_X7_carryOut_105 : sgOK mi_X7_carryOut gm_X7_carryOut sg_X7_carryOut_105 = true := by decide +kernel
def sg_X7_carryOut_116 : List Ins := [(116, .iconst 0, 0, 0, 0, 0), (117, .iadd, 0, 0, 0, 0), (118, .istore_n 1, 0, 0, 0, 0), (119, .iinc 5 1, 1, 0, 0, 0), (122, .goto (-58), 0, 0, 64, 0)]
theorem so_X7_carryOut_116 : sgOK mi_X7_carryOut gm_X7_carryOut sg_X7_carryOut_116 = true := by decide +kernel
def sg_X7_carryOut_117 : List Ins := [(117, .iadd, 0, 0, 0, 0), (118, .istore_n 1, 0, 0, 0, 0), (119, .iinc 5 1, 1, 0, 0, 0), (122, .goto (-58), 0, 0, 64, 0)]
theorem so_X7_carryOut_117 : sgOK mi_X7_carryOut gm_X7_carryOut sg_X7_carryOut_117 = true := by decide +kernel
def sg_X7_carryOut_125 : List Ins := [(125, .iload_n 2, 0, 0, 0, 0), (126, .ifCond .eq 16, 0, 0, 142, 0), (129, .aload_n 0, 0, 0, 0, 0), (130, .bipush 59, 59, 0, 0, 0), (132, .invokevirtual 247, 1087, 5, 17, 2), (135, .ifCond .eq 7, 0, 0, 142, 0), (138, .iconst 1, 1, 0, 0, 0), (139, .goto 4, 0, 0, 143, 0)]
theorem so_X7_carryOut_125 : sgOK mi_X7_carryOut gm_X7_carryOut sg_X7_carryOut_125 = true := by decide +kernel
def sg_X7_carryOut_142 : List Ins := [(142, .iconst 0, 0, 0, 0, 0), (143, .istore_n 2, 0, 0, 0, 0), (144, .goto (-119), 0, 0, 25, 0)]
theorem so_X7_carryOut_142 : sgOK mi_X7_carryOut gm_X7_carryOut sg_X7_carryOut_142 = true := by decide +kernel
def sg_X7_carryOut_143 : List Ins := [(143, .istore_n 2, 0, 0, 0, 0), (144, .goto (-119), 0, 0, 25, 0)]
theorem so_X7_carryOut_143 : sgOK mi_X7_carryOut gm_X7_carryOut sg_X7_carryOut_143 = true := by decide +kernel
def sg_X7_carryOut_147 : List Ins := [(147, .aload_n 0, 0, 0, 0, 0), (148, .iconst 0, 0, 0, 0, 0), (149, .putfield 199, 7, 6, 723, 0), (152, .iload_n 1, 0, 0, 0, 0), (153, .ireturn, 0, 0, 0, 0)]
theorem so_X7_carryOut_147 : sgOK mi_X7_carryOut gm_X7_carryOut sg_X7_carryOut_147 = true := by decide +kernel
def sgs_X7_carryOut : Nat → Option (List Ins) := fun t => match t with
  | 0 => some sg_X7_carryOut_0
  | 12 => some sg_X7_carryOut_12
  | 50 => some sg_X7_carryOut_50
  | 56 => some sg_X7_carryOut_56
  | 88 => some sg_X7_carryOut_88
  | 89 => some sg_X7_carryOut_89
  | 103 => some sg_X7_carryOut_103
  | 105 => some sg_X7_carryOut_105
  | 116 => some sg_X7_carryOut_116
  | 117 => some sg_X7_carryOut_117
  | 125 => some sg_X7_carryOut_125
  | 142 => some sg_X7_carryOut_142
  | 143 => some sg_X7_carryOut_143
  | 147 => some sg_X7_carryOut_147
  | _ => none
theorem so_X7_carryOut : ∀ t sg, sgs_X7_carryOut t = some sg → sgOK mi_X7_carryOut gm_X7_carryOut sg = true ∧ segPc sg = t := by
  intro t sg h
  unfold sgs_X7_carryOut at h
  split at h
  · cases h; exact ⟨so_X7_carryOut_0, rfl⟩
  · cases h; exact ⟨so_X7_carryOut_12, rfl⟩
  · cases h; exact ⟨so_X7_carryOut_50, rfl⟩
  · cases h; exact ⟨so_X7_carryOut_56, rfl⟩
  · cases h; exact ⟨so_X7_carryOut_88, rfl⟩
  · cases h; exact ⟨so_X7_carryOut_89, rfl⟩
  · cases h; exact ⟨so_X7_carryOut_103, rfl⟩
  · cases h; exact ⟨so_X7_carryOut_105, rfl⟩
  · cases h; exact ⟨so_X7_carryOut_116, rfl⟩
  · cases h; exact ⟨so_X7_carryOut_117, rfl⟩
  · cases h; exact ⟨so_X7_carryOut_125, rfl⟩
  · cases h; exact ⟨so_X7_carryOut_142, rfl⟩
  · cases h; exact ⟨so_X7_carryOut_143, rfl⟩
  · cases h; exact ⟨so_X7_carryOut_147, rfl⟩
  · cases h
def gm_X7_undo : List MI := [mi_X7_copies]
def sg_X7_undo_0 : List Ins := [(0, .aload_n 0, 0, 0, 0, 0), (1, .getfield 27, 7, 2, 719, 0), (4, .ifCond .ne 6, 0, 0, 10, 0), (7, .bipush (-5), 5, 1, 0, 0), (9, .ireturn, 0, 0, 0, 0)]
theorem so_X7_undo_0 : sgOK mi_X7_undo gm_X7_undo sg_X7_undo_0 = true := by decide +kernel
def sg_X7_undo_10 : List Ins := [(10, .aload_n 0, 0, 0, 0, 0), (11, .aload_n 0, 0, 0, 0, 0), (12, .getfield 27, 7, 2, 719, 0), (15, .iconst 0, 0, 0, 0, 0), (16, .invokevirtual 31, 778, 0, 17, 3), (19, .aload_n 0, 0, 0, 0, 0), (20, .dup, 0, 0, 0, 0), (21, .getfield 27, 7, 2, 719, 0), (24, .iconst 1, 1, 0, 0, 0), (25, .isub, 0, 0, 0, 0), (26, .putfield 27, 7, 2, 719, 0), (29, .aload_n 0, 0, 0, 0, 0), (30, .getfield 27, 7, 2, 719, 0), (33, .ireturn, 0, 0, 0, 0)]
theorem so_X7_undo_10 : sgOK mi_X7_undo gm_X7_undo sg_X7_undo_10 = true := by decide +kernel
def sgs_X7_undo : Nat → Option (List Ins) := fun t => match t with
  | 0 => some sg_X7_undo_0
  | 10 => some sg_X7_undo_10
  | _ => none
theorem so_X7_undo : ∀ t sg, sgs_X7_undo t = some sg → sgOK mi_X7_undo gm_X7_undo sg = true ∧ segPc sg = t := by
  intro t sg h
  unfold sgs_X7_undo at h
  split at h
  · cases h; exact ⟨so_X7_undo_0, rfl⟩
  · cases h; exact ⟨so_X7_undo_10, rfl⟩
  · cases h
def gm_X7_isSlot : List MI := []
def sg_X7_isSlot_0 : List Ins := [(0, .iload_n 0, 0, 0, 0, 0), (1, .ifCond .eq 8, 0, 0, 9, 0), (4, .iload_n 0, 0, 0, 0, 0), (5, .iconst 1, 1, 0, 0, 0), (6, .if_icmp .ne 7, 0, 0, 13, 0), (9, .iconst 1, 1, 0, 0, 0), (10, .goto 4, 0, 0, 14, 0)]
theorem so_X7_isSlot_0 : sgOK mi_X7_isSlot gm_X7_isSlot sg_X7_isSlot_0 = true := by decide +kernel
def sg_X7_isSlot_9 : List Ins := [(9, .iconst 1, 1, 0, 0, 0), (10, .goto 4, 0, 0, 14, 0)]
theorem so_X7_isSlot_9 : sgOK mi_X7_isSlot gm_X7_isSlot sg_X7_isSlot_9 = true := by decide +kernel
def sg_X7_isSlot_13 : List Ins := [(13, .iconst 0, 0, 0, 0, 0), (14, .ireturn, 0, 0, 0, 0)]
theorem so_X7_isSlot_13 : sgOK mi_X7_isSlot gm_X7_isSlot sg_X7_isSlot_13 = true := by decide +kernel
def sg_X7_isSlot_14 : List Ins := [(14, .ireturn, 0, 0, 0, 0)]
theorem so_X7_isSlot_14 : sgOK mi_X7_isSlot gm_X7_isSlot sg_X7_isSlot_14 = true := by decide +kernel
def sgs_X7_isSlot : Nat → Option (List Ins) := fun t => match t with
  | 0 => some sg_X7_isSlot_0
  | 9 => some sg_X7_isSlot_9
  | 13 => some sg_X7_isSlot_13
  | 14 => some sg_X7_isSlot_14
  | _ => none
theorem so_X7_isSlot : ∀ t sg, sgs_X7_isSlot t = some sg → sgOK mi_X7_isSlot gm_X7_isSlot sg = true ∧ segPc sg = t := by
  intro t sg h
  unfold sgs_X7_isSlot at h
  split at h
  · cases h; exact ⟨so_X7_isSlot_0, rfl⟩
  · cases h; exact ⟨so_X7_isSlot_9, rfl⟩
  · cases h; exact ⟨so_X7_isSlot_13, rfl⟩
  · cases h; exact ⟨so_X7_isSlot_14, rfl⟩
  · cases h
def gm_X7_save : List MI := [mi_X7_isSlot, mi_X7_copies]
def sg_X7_save_0 : List Ins := [(0, .iload_n 1, 0, 0, 0, 0), (1, .invokestatic 291, 1120, 0, 0, 1), (4, .ifCond .ne 6, 0, 0, 10, 0), (7, .bipush (-2), 2, 1, 0, 0), (9, .ireturn, 0, 0, 0, 0)]
theorem so_X7_save_0 : sgOK mi_X7_save gm_X7_save sg_X7_save_0 = true := by decide +kernel
def sg_X7_save_10 : List Ins := [(10, .aload_n 0, 0, 0, 0, 0), (11, .iconst 0, 0, 0, 0, 0), (12, .bipush 7, 7, 0, 0, 0), (14, .iload_n 1, 0, 0, 0, 0), (15, .iadd, 0, 0, 0, 0), (16, .invokevirtual 31, 778, 1, 17, 3), (19, .aload_n 0, 0, 0, 0, 0), (20, .getfield 17, 7, 3, 720, 0), (23, .iload_n 1, 0, 0, 0, 0), (24, .iconst 1, 1, 0, 0, 0), (25, .bastore, 0, 0, 0, 0), (26, .aload_n 0, 0, 0, 0, 0), (27, .getfield 7, 7, 0, 717, 0), (30, .iconst 5, 5, 0, 0, 0), (31, .iaload, 8, 0, 0, 0), (32, .ireturn, 0, 0, 0, 0)]
theorem so_X7_save_10 : sgOK mi_X7_save gm_X7_save sg_X7_save_10 = true := by decide +kernel
def sgs_X7_save : Nat → Option (List Ins) := fun t => match t with
  | 0 => some sg_X7_save_0
  | 10 => some sg_X7_save_10
  | _ => none
theorem so_X7_save : ∀ t sg, sgs_X7_save t = some sg → sgOK mi_X7_save gm_X7_save sg = true ∧ segPc sg = t := by
  intro t sg h
  unfold sgs_X7_save at h
  split at h
  · cases h; exact ⟨so_X7_save_0, rfl⟩
  · cases h; exact ⟨so_X7_save_10, rfl⟩
  · cases h
def gm_X7_restore : List MI := [mi_X7_isSlot, mi_X7_changes, mi_X7_copies]
def sg_X7_restore_0 : List Ins := [(0, .iload_n 1, 0, 0, 0, 0), (1, .invokestatic 291, 1120, 0, 0, 1), (4, .ifCond .ne 6, 0, 0, 10, 0), (7, .bipush (-2), 2, 1, 0, 0), (9, .ireturn, 0, 0, 0, 0)]
theorem so_X7_restore_0 : sgOK mi_X7_restore gm_X7_restore sg_X7_restore_0 = true := by decide +kernel
def sg_X7_restore_10 : List Ins := [(10, .aload_n 0, 0, 0, 0, 0), (11, .getfield 17, 7, 3, 720, 0), (14, .iload_n 1, 0, 0, 0, 0), (15, .baload, 0, 0, 0, 0), (16, .ifCond .ne 6, 0, 0, 22, 0), (19, .bipush (-5), 5, 1, 0, 0), (21, .ireturn, 0, 0, 0, 0)]
theorem so_X7_restore_10 : sgOK mi_X7_restore gm_X7_restore sg_X7_restore_10 = true := by decide +kernel
def sg_X7_restore_22 : List Ins := [(22, .aload_n 0, 0, 0, 0, 0), (23, .invokevirtual 127, 774, 1, 17, 1), (26, .aload_n 0, 0, 0, 0, 0), (27, .bipush 7, 7, 0, 0, 0), (29, .iload_n 1, 0, 0, 0, 0), (30, .iadd, 0, 0, 0, 0), (31, .iconst 0, 0, 0, 0, 0), (32, .invokevirtual 31, 778, 2, 17, 3), (35, .aload_n 0, 0, 0, 0, 0), (36, .getfield 7, 7, 0, 717, 0), (39, .iconst 5, 5, 0, 0, 0), (40, .iaload, 8, 0, 0, 0), (41, .ireturn, 0, 0, 0, 0)]
theorem so_X7_restore_22 : sgOK mi_X7_restore gm_X7_restore sg_X7_restore_22 = true := by decide +kernel
def sgs_X7_restore : Nat → Option (List Ins) := fun t => match t with
  | 0 => some sg_X7_restore_0
  | 10 => some sg_X7_restore_10
  | 22 => some sg_X7_restore_22
  | _ => none
theorem so_X7_restore : ∀ t sg, sgs_X7_restore t = some sg → sgOK mi_X7_restore gm_X7_restore sg = true ∧ segPc sg = t := by
  intro t sg h
  unfold sgs_X7_restore at h
  split at h
  · cases h; exact ⟨so_X7_restore_0, rfl⟩
  · cases h; exact ⟨so_X7_restore_10, rfl⟩
  · cases h; exact ⟨so_X7_restore_22, rfl⟩
  · cases h
