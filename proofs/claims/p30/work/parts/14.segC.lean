/-! stretches of code (printed by wip/p30/gen/meth.py) -/
def gm_X6_isPlace : List MI := []
def sg_X6_isPlace_0 : List Ins := [(0, .iload_n 0, 0, 0, 0, 0), (1, .ifCond .lt 23, 0, 0, 24, 0), (4, .iload_n 0, 0, 0, 0, 0), (5, .bipush 10, 10, 0, 0, 0), (7, .if_icmp .ge 17, 0, 0, 24, 0), (10, .iload_n 1, 0, 0, 0, 0), (11, .ifCond .lt 13, 0, 0, 24, 0), (14, .iload_n 1, 0, 0, 0, 0), (15, .bipush 12, 12, 0, 0, 0), (17, .if_icmp .ge 7, 0, 0, 24, 0), (20, .iconst 1, 1, 0, 0, 0), (21, .goto 4, 0, 0, 25, 0)]
theorem so_X6_isPlace_0 : sgOK mi_X6_isPlace gm_X6_isPlace sg_X6_isPlace_0 = true := by decide +kernel
def sg_X6_isPlace_24 : List Ins := [(24, .iconst 0, 0, 0, 0, 0), (25, .ireturn, 0, 0, 0, 0)]
theorem so_X6_isPlace_24 : sgOK mi_X6_isPlace gm_X6_isPlace sg_X6_isPlace_24 = true := by decide +kernel
def sg_X6_isPlace_25 : List Ins := [(25, .ireturn, 0, 0, 0, 0)]
theorem so_X6_isPlace_25 : sgOK mi_X6_isPlace gm_X6_isPlace sg_X6_isPlace_25 = true := by decide +kernel
def sgs_X6_isPlace : Nat → Option (List Ins) := fun t => match t with
  | 0 => some sg_X6_isPlace_0
  | 24 => some sg_X6_isPlace_24
  | 25 => some sg_X6_isPlace_25
  | _ => none
theorem so_X6_isPlace : ∀ t sg, sgs_X6_isPlace t = some sg → sgOK mi_X6_isPlace gm_X6_isPlace sg = true ∧ segPc sg = t := by
  intro t sg h
  unfold sgs_X6_isPlace at h
  split at h
  · cases h; exact ⟨so_X6_isPlace_0, rfl⟩
  · cases h; exact ⟨so_X6_isPlace_24, rfl⟩
  · cases h; exact ⟨so_X6_isPlace_25, rfl⟩
  · cases h
def gm_X6_firstNear : List MI := [mi_J9_max_7cf53]
def sg_X6_firstNear_0 : List Ins := [(0, .iload_n 0, 0, 0, 0, 0), (1, .iconst 2, 2, 0, 0, 0), (2, .isub, 0, 0, 0, 0), (3, .iconst 0, 0, 0, 0, 0), (4, .invokestatic 247, 343, 0, 0, 2), (7, .ireturn, 0, 0, 0, 0)]
theorem so_X6_firstNear_0 : sgOK mi_X6_firstNear gm_X6_firstNear sg_X6_firstNear_0 = true := by decide +kernel
def sgs_X6_firstNear : Nat → Option (List Ins) := fun t => match t with
  | 0 => some sg_X6_firstNear_0
  | _ => none
theorem so_X6_firstNear : ∀ t sg, sgs_X6_firstNear t = some sg → sgOK mi_X6_firstNear gm_X6_firstNear sg = true ∧ segPc sg = t := by
  intro t sg h
  unfold sgs_X6_firstNear at h
  split at h
  · cases h; exact ⟨so_X6_firstNear_0, rfl⟩
  · cases h
def gm_X6_lastNear : List MI := [mi_J9_min_7cf53]
def sg_X6_lastNear_0 : List Ins := [(0, .iload_n 0, 0, 0, 0, 0), (1, .iconst 2, 2, 0, 0, 0), (2, .iadd, 0, 0, 0, 0), (3, .iload_n 1, 0, 0, 0, 0), (4, .iconst 1, 1, 0, 0, 0), (5, .isub, 0, 0, 0, 0), (6, .invokestatic 252, 349, 0, 0, 2), (9, .ireturn, 0, 0, 0, 0)]
theorem so_X6_lastNear_0 : sgOK mi_X6_lastNear gm_X6_lastNear sg_X6_lastNear_0 = true := by decide +kernel
def sgs_X6_lastNear : Nat → Option (List Ins) := fun t => match t with
  | 0 => some sg_X6_lastNear_0
  | _ => none
theorem so_X6_lastNear : ∀ t sg, sgs_X6_lastNear t = some sg → sgOK mi_X6_lastNear gm_X6_lastNear sg = true ∧ segPc sg = t := by
  intro t sg h
  unfold sgs_X6_lastNear at h
  split at h
  · cases h; exact ⟨so_X6_lastNear_0, rfl⟩
  · cases h
def gm_X6_init : List MI := [mi_X0_init, mi_X2_init, mi_X3_init, mi_X5_init]
def sg_X6_init_0 : List Ins := [(0, .aload_n 0, 0, 0, 0, 0), (1, .invokespecial 3, 23, 0, 8, 0), (4, .aload_n 0, 0, 0, 0, 0), (5, .new 9, 0, 27, 26, 9), (8, .dup, 0, 0, 0, 0), (9, .invokespecial 11, 28, 0, 2, 1), (12, .putfield 12, 6, 0, 196, 0), (15, .aload_n 0, 0, 0, 0, 0), (16, .new 16, 2, 102, 101, 11), (19, .dup, 0, 0, 0, 0), (20, .invokespecial 18, 103, 1, 2, 1), (23, .putfield 19, 6, 1, 197, 0), (26, .aload_n 0, 0, 0, 0, 0), (27, .iconst 2, 2, 0, 0, 0), (28, .anewarray 9, 12, 0, 26, 0), (31, .putfield 23, 6, 2, 198, 0), (34, .aload_n 0, 0, 0, 0, 0), (35, .iconst 2, 2, 0, 0, 0), (36, .newarray .boolean, 10, 0, 141, 0), (38, .putfield 27, 6, 3, 199, 0), (41, .aload_n 0, 0, 0, 0, 0), (42, .new 31, 3, 122, 121, 12), (45, .dup, 0, 0, 0, 0), (46, .invokespecial 33, 123, 2, 3, 1), (49, .putfield 34, 6, 4, 200, 0), (52, .aload_n 0, 0, 0, 0, 0), (53, .new 38, 5, 182, 181, 14), (56, .dup, 0, 0, 0, 0), (57, .invokespecial 40, 183, 3, 3, 1), (60, .putfield 41, 6, 5, 201, 0), (63, .iconst 0, 0, 0, 0, 0), (64, .istore_n 1, 0, 0, 0, 0), (65, .nop, 0, 0, 0, 0)]
theorem so_X6_init_0 : sgOK mi_X6_init gm_X6_init sg_X6_init_0 = true := by decide +kernel
def sg_X6_init_65 : List Ins := [(65, .iload_n 1, 0, 0, 0, 0), (66, .iconst 2, 2, 0, 0, 0), (67, .if_icmp .ge 22, 0, 0, 89, 0), (70, .aload_n 0, 0, 0, 0, 0), (71, .getfield 23, 6, 2, 198, 0), (74, .iload_n 1, 0, 0, 0, 0), (75, .new 9, 0, 27, 26, 9), (78, .dup, 0, 0, 0, 0), (79, .invokespecial 11, 28, 0, 2, 1), (82, .aastore, 12, 0, 0, 0), (83, .iinc 1 1, 1, 0, 0, 0), (86, .goto (-21), 0, 0, 65, 0)]
theorem so_X6_init_65 : sgOK mi_X6_init gm_X6_init sg_X6_init_65 = true := by decide +kernel
def sg_X6_init_89 : List Ins := [(89, .return_, 0, 0, 0, 0)]
theorem so_X6_init_89 : sgOK mi_X6_init gm_X6_init sg_X6_init_89 = true := by decide +kernel
def sgs_X6_init : Nat → Option (List Ins) := fun t => match t with
  | 0 => some sg_X6_init_0
  | 89 => some sg_X6_init_89
  | _ => none
theorem so_X6_init : ∀ t sg, sgs_X6_init t = some sg → sgOK mi_X6_init gm_X6_init sg = true ∧ segPc sg = t := by
  intro t sg h
  unfold sgs_X6_init at h
  split at h
  · cases h; exact ⟨so_X6_init_0, rfl⟩
  · cases h; exact ⟨so_X6_init_89, rfl⟩
  · cases h
def gm_X6_set : List MI := [mi_X2_prepare, mi_X0_change, mi_X2_keepUnlessError]
def sg_X6_set_0 : List Ins := [(0, .aload_n 0, 0, 0, 0, 0), (1, .getfield 19, 6, 1, 197, 0), (4, .aload_n 0, 0, 0, 0, 0), (5, .getfield 12, 6, 0, 196, 0), (8, .invokevirtual 45, 219, 0, 12, 2), (11, .aload_n 0, 0, 0, 0, 0), (12, .getfield 19, 6, 1, 197, 0), (15, .aload_n 0, 0, 0, 0, 0), (16, .getfield 12, 6, 0, 196, 0), (19, .iload_n 1, 0, 0, 0, 0), (20, .iload_n 2, 0, 0, 0, 0), (21, .invokevirtual 49, 304, 1, 10, 3), (24, .invokevirtual 53, 249, 2, 12, 2), (27, .ireturn, 0, 0, 0, 0)]
theorem so_X6_set_0 : sgOK mi_X6_set gm_X6_set sg_X6_set_0 = true := by decide +kernel
def sgs_X6_set : Nat → Option (List Ins) := fun t => match t with
  | 0 => some sg_X6_set_0
  | _ => none
theorem so_X6_set : ∀ t sg, sgs_X6_set t = some sg → sgOK mi_X6_set gm_X6_set sg = true ∧ segPc sg = t := by
  intro t sg h
  unfold sgs_X6_set at h
  split at h
  · cases h; exact ⟨so_X6_set_0, rfl⟩
  · cases h
def gm_X6_plate : List MI := [mi_X2_prepare, mi_X0_addPlate, mi_X2_keepUnlessError]
def sg_X6_plate_0 : List Ins := [(0, .aload_n 0, 0, 0, 0, 0), (1, .getfield 19, 6, 1, 197, 0), (4, .aload_n 0, 0, 0, 0, 0), (5, .getfield 12, 6, 0, 196, 0), (8, .invokevirtual 45, 219, 0, 12, 2), (11, .aload_n 0, 0, 0, 0, 0), (12, .getfield 19, 6, 1, 197, 0), (15, .aload_n 0, 0, 0, 0, 0), (16, .getfield 12, 6, 0, 196, 0), (19, .invokevirtual 57, 235, 1, 10, 1), (22, .invokevirtual 53, 249, 2, 12, 2), (25, .ireturn, 0, 0, 0, 0)]
theorem so_X6_plate_0 : sgOK mi_X6_plate gm_X6_plate sg_X6_plate_0 = true := by decide +kernel
def sgs_X6_plate : Nat → Option (List Ins) := fun t => match t with
  | 0 => some sg_X6_plate_0
  | _ => none
theorem so_X6_plate : ∀ t sg, sgs_X6_plate t = some sg → sgOK mi_X6_plate gm_X6_plate sg = true ∧ segPc sg = t := by
  intro t sg h
  unfold sgs_X6_plate at h
  split at h
  · cases h; exact ⟨so_X6_plate_0, rfl⟩
  · cases h
def gm_X6_lay : List MI := [mi_X2_prepare, mi_X0_layPlate, mi_X2_keepUnlessError]
def sg_X6_lay_0 : List Ins := [(0, .aload_n 0, 0, 0, 0, 0), (1, .getfield 19, 6, 1, 197, 0), (4, .aload_n 0, 0, 0, 0, 0), (5, .getfield 12, 6, 0, 196, 0), (8, .invokevirtual 45, 219, 0, 12, 2), (11, .aload_n 0, 0, 0, 0, 0), (12, .getfield 19, 6, 1, 197, 0), (15, .aload_n 0, 0, 0, 0, 0), (16, .getfield 12, 6, 0, 196, 0), (19, .iload_n 1, 0, 0, 0, 0), (20, .invokevirtual 61, 292, 1, 10, 2), (23, .invokevirtual 53, 249, 2, 12, 2), (26, .ireturn, 0, 0, 0, 0)]
theorem so_X6_lay_0 : sgOK mi_X6_lay gm_X6_lay sg_X6_lay_0 = true := by decide +kernel
def sgs_X6_lay : Nat → Option (List Ins) := fun t => match t with
  | 0 => some sg_X6_lay_0
  | _ => none
theorem so_X6_lay : ∀ t sg, sgs_X6_lay t = some sg → sgOK mi_X6_lay gm_X6_lay sg = true ∧ segPc sg = t := by
  intro t sg h
  unfold sgs_X6_lay at h
  split at h
  · cases h; exact ⟨so_X6_lay_0, rfl⟩
  · cases h
def gm_X6_writer : List MI := [mi_X2_prepare, mi_X0_addWriter, mi_X2_keepUnlessError]
def sg_X6_writer_0 : List Ins := [(0, .aload_n 0, 0, 0, 0, 0), (1, .getfield 19, 6, 1, 197, 0), (4, .aload_n 0, 0, 0, 0, 0), (5, .getfield 12, 6, 0, 196, 0), (8, .invokevirtual 45, 219, 0, 12, 2), (11, .aload_n 0, 0, 0, 0, 0), (12, .getfield 19, 6, 1, 197, 0), (15, .aload_n 0, 0, 0, 0, 0), (16, .getfield 12, 6, 0, 196, 0), (19, .iload_n 1, 0, 0, 0, 0), (20, .invokevirtual 64, 260, 1, 10, 2), (23, .invokevirtual 53, 249, 2, 12, 2), (26, .ireturn, 0, 0, 0, 0)]
theorem so_X6_writer_0 : sgOK mi_X6_writer gm_X6_writer sg_X6_writer_0 = true := by decide +kernel
def sgs_X6_writer : Nat → Option (List Ins) := fun t => match t with
  | 0 => some sg_X6_writer_0
  | _ => none
theorem so_X6_writer : ∀ t sg, sgs_X6_writer t = some sg → sgOK mi_X6_writer gm_X6_writer sg = true ∧ segPc sg = t := by
  intro t sg h
  unfold sgs_X6_writer at h
  split at h
  · cases h; exact ⟨so_X6_writer_0, rfl⟩
  · cases h
def gm_X6_write : List MI := [mi_X2_prepare, mi_X0_writeLetter, mi_X2_keepUnlessError]
def sg_X6_write_0 : List Ins := [(0, .aload_n 0, 0, 0, 0, 0), (1, .getfield 19, 6, 1, 197, 0), (4, .aload_n 0, 0, 0, 0, 0), (5, .getfield 12, 6, 0, 196, 0), (8, .invokevirtual 45, 219, 0, 12, 2), (11, .aload_n 0, 0, 0, 0, 0), (12, .getfield 19, 6, 1, 197, 0), (15, .aload_n 0, 0, 0, 0, 0), (16, .getfield 12, 6, 0, 196, 0), (19, .iload_n 1, 0, 0, 0, 0), (20, .iload_n 2, 0, 0, 0, 0), (21, .iload_n 3, 0, 0, 0, 0), (22, .iload 4, 0, 0, 0, 0), (24, .invokevirtual 67, 316, 1, 10, 5), (27, .invokevirtual 53, 249, 2, 12, 2), (30, .ireturn, 0, 0, 0, 0)]
theorem so_X6_write_0 : sgOK mi_X6_write gm_X6_write sg_X6_write_0 = true := by decide +kernel
def sgs_X6_write : Nat → Option (List Ins) := fun t => match t with
  | 0 => some sg_X6_write_0
  | _ => none
theorem so_X6_write : ∀ t sg, sgs_X6_write t = some sg → sgOK mi_X6_write gm_X6_write sg = true ∧ segPc sg = t := by
  intro t sg h
  unfold sgs_X6_write at h
  split at h
  · cases h; exact ⟨so_X6_write_0, rfl⟩
  · cases h
def gm_X6_promise : List MI := [mi_X2_prepare, mi_X0_promisePlace, mi_X2_keepUnlessError]
def sg_X6_promise_0 : List Ins := [(0, .aload_n 0, 0, 0, 0, 0), (1, .getfield 19, 6, 1, 197, 0), (4, .aload_n 0, 0, 0, 0, 0), (5, .getfield 12, 6, 0, 196, 0), (8, .invokevirtual 45, 219, 0, 12, 2), (11, .aload_n 0, 0, 0, 0, 0), (12, .getfield 19, 6, 1, 197, 0), (15, .aload_n 0, 0, 0, 0, 0), (16, .getfield 12, 6, 0, 196, 0), (19, .iload_n 1, 0, 0, 0, 0), (20, .iload_n 2, 0, 0, 0, 0), (21, .iload_n 3, 0, 0, 0, 0), (22, .invokevirtual 71, 369, 1, 10, 4), (25, .invokevirtual 53, 249, 2, 12, 2), (28, .ireturn, 0, 0, 0, 0)]
theorem so_X6_promise_0 : sgOK mi_X6_promise gm_X6_promise sg_X6_promise_0 = true := by decide +kernel
def sgs_X6_promise : Nat → Option (List Ins) := fun t => match t with
  | 0 => some sg_X6_promise_0
  | _ => none
theorem so_X6_promise : ∀ t sg, sgs_X6_promise t = some sg → sgOK mi_X6_promise gm_X6_promise sg = true ∧ segPc sg = t := by
  intro t sg h
  unfold sgs_X6_promise at h
  split at h
  · cases h; exact ⟨so_X6_promise_0, rfl⟩
  · cases h
def gm_X6_takeBack : List MI := [mi_X2_prepare, mi_X0_takePromiseBack, mi_X2_keepUnlessError]
def sg_X6_takeBack_0 : List Ins := [(0, .aload_n 0, 0, 0, 0, 0), (1, .getfield 19, 6, 1, 197, 0), (4, .aload_n 0, 0, 0, 0, 0), (5, .getfield 12, 6, 0, 196, 0), (8, .invokevirtual 45, 219, 0, 12, 2), (11, .aload_n 0, 0, 0, 0, 0), (12, .getfield 19, 6, 1, 197, 0), (15, .aload_n 0, 0, 0, 0, 0), (16, .getfield 12, 6, 0, 196, 0), (19, .iload_n 1, 0, 0, 0, 0), (20, .iload_n 2, 0, 0, 0, 0), (21, .invokevirtual 75, 393, 1, 10, 3), (24, .invokevirtual 53, 249, 2, 12, 2), (27, .ireturn, 0, 0, 0, 0)]
theorem so_X6_takeBack_0 : sgOK mi_X6_takeBack gm_X6_takeBack sg_X6_takeBack_0 = true := by decide +kernel
def sgs_X6_takeBack : Nat → Option (List Ins) := fun t => match t with
  | 0 => some sg_X6_takeBack_0
  | _ => none
theorem so_X6_takeBack : ∀ t sg, sgs_X6_takeBack t = some sg → sgOK mi_X6_takeBack gm_X6_takeBack sg = true ∧ segPc sg = t := by
  intro t sg h
  unfold sgs_X6_takeBack at h
  split at h
  · cases h; exact ⟨so_X6_takeBack_0, rfl⟩
  · cases h
def gm_X6_rub : List MI := [mi_X2_prepare, mi_X0_rubLetter, mi_X2_keepUnlessError]
def sg_X6_rub_0 : List Ins := [(0, .aload_n 0, 0, 0, 0, 0), (1, .getfield 19, 6, 1, 197, 0), (4, .aload_n 0, 0, 0, 0, 0), (5, .getfield 12, 6, 0, 196, 0), (8, .invokevirtual 45, 219, 0, 12, 2), (11, .aload_n 0, 0, 0, 0, 0), (12, .getfield 19, 6, 1, 197, 0), (15, .aload_n 0, 0, 0, 0, 0), (16, .getfield 12, 6, 0, 196, 0), (19, .iload_n 1, 0, 0, 0, 0), (20, .iload_n 2, 0, 0, 0, 0), (21, .invokevirtual 78, 401, 1, 10, 3), (24, .invokevirtual 53, 249, 2, 12, 2), (27, .ireturn, 0, 0, 0, 0)]
theorem so_X6_rub_0 : sgOK mi_X6_rub gm_X6_rub sg_X6_rub_0 = true := by decide +kernel
def sgs_X6_rub : Nat → Option (List Ins) := fun t => match t with
  | 0 => some sg_X6_rub_0
  | _ => none
theorem so_X6_rub : ∀ t sg, sgs_X6_rub t = some sg → sgOK mi_X6_rub gm_X6_rub sg = true ∧ segPc sg = t := by
  intro t sg h
  unfold sgs_X6_rub at h
  split at h
  · cases h; exact ⟨so_X6_rub_0, rfl⟩
  · cases h
def gm_X6_pass : List MI := [mi_X2_prepare, mi_X0_passHours, mi_X2_keepUnlessError]
def sg_X6_pass_0 : List Ins := [(0, .aload_n 0, 0, 0, 0, 0), (1, .getfield 19, 6, 1, 197, 0), (4, .aload_n 0, 0, 0, 0, 0), (5, .getfield 12, 6, 0, 196, 0), (8, .invokevirtual 45, 219, 0, 12, 2), (11, .aload_n 0, 0, 0, 0, 0), (12, .getfield 19, 6, 1, 197, 0), (15, .aload_n 0, 0, 0, 0, 0), (16, .getfield 12, 6, 0, 196, 0), (19, .iload_n 1, 0, 0, 0, 0), (20, .invokevirtual 81, 409, 1, 10, 2), (23, .invokevirtual 53, 249, 2, 12, 2), (26, .ireturn, 0, 0, 0, 0)]
theorem so_X6_pass_0 : sgOK mi_X6_pass gm_X6_pass sg_X6_pass_0 = true := by decide +kernel
def sgs_X6_pass : Nat → Option (List Ins) := fun t => match t with
  | 0 => some sg_X6_pass_0
  | _ => none
theorem so_X6_pass : ∀ t sg, sgs_X6_pass t = some sg → sgOK mi_X6_pass gm_X6_pass sg = true ∧ segPc sg = t := by
  intro t sg h
  unfold sgs_X6_pass at h
  split at h
  · cases h; exact ⟨so_X6_pass_0, rfl⟩
  · cases h
def gm_X6_bitsOfFloat : List MI := []
def sg_X6_bitsOfFloat_0 : List Ins := [(0, .fload_n 0, 0, 0, 0, 0), (1, .f2d, 0, 0, 0, 0), (2, .dstore_n 1, 0, 0, 0, 0), (3, .iconst 0, 0, 0, 0, 0), (4, .istore_n 3, 0, 0, 0, 0), (5, .nop, 0, 0, 0, 0)]
theorem so_X6_bitsOfFloat_0 : sgOK mi_X6_bitsOfFloat gm_X6_bitsOfFloat sg_X6_bitsOfFloat_0 = true := by decide +kernel
def sg_X6_bitsOfFloat_5 : List Ins := [(5, .dload_n 1, 0, 0, 0, 0), (6, .dconst 1, 0, 0, 0, 0), (7, .dcmp .g, 0, 0, 0, 0), (8, .ifCond .ge 21, 0, 0, 29, 0), (11, .iload_n 3, 0, 0, 0, 0), (12, .bipush (-126), 126, 1, 0, 0), (14, .if_icmp .le 15, 0, 0, 29, 0), (17, .dload_n 1, 0, 0, 0, 0), (18, .ldc2_w 273, 4611686018427387904, 3, 448, 0), (21, .dmul, 0, 0, 0, 0), (22, .dstore_n 1, 0, 0, 0, 0), (23, .iinc 3 (-1), 1, 1, 0, 0), (26, .goto (-21), 0, 0, 5, 0)]
theorem so_X6_bitsOfFloat_5 : sgOK mi_X6_bitsOfFloat gm_X6_bitsOfFloat sg_X6_bitsOfFloat_5 = true := by decide +kernel
def sg_X6_bitsOfFloat_29 : List Ins := [(29, .dload_n 1, 0, 0, 0, 0), (30, .ldc2_w 273, 4611686018427387904, 3, 448, 0), (33, .dcmp .l, 0, 0, 0, 0), (34, .ifCond .lt 21, 0, 0, 55, 0), (37, .iload_n 3, 0, 0, 0, 0), (38, .bipush 127, 127, 0, 0, 0), (40, .if_icmp .ge 15, 0, 0, 55, 0), (43, .dload_n 1, 0, 0, 0, 0), (44, .ldc2_w 273, 4611686018427387904, 3, 448, 0), (47, .ddiv, 0, 0, 0, 0), (48, .dstore_n 1, 0, 0, 0, 0), (49, .iinc 3 1, 1, 0, 0, 0), (52, .goto (-23), 0, 0, 29, 0)]
theorem so_X6_bitsOfFloat_29 : sgOK mi_X6_bitsOfFloat gm_X6_bitsOfFloat sg_X6_bitsOfFloat_29 = true := by decide +kernel
def sg_X6_bitsOfFloat_55 : List Ins := [(55, .dload_n 1, 0, 0, 0, 0), (56, .dconst 1, 0, 0, 0, 0), (57, .dcmp .g, 0, 0, 0, 0), (58, .ifCond .ge 10, 0, 0, 68, 0), (61, .dload_n 1, 0, 0, 0, 0), (62, .ldc2_w 275, 4710765210229538816, 3, 449, 0), (65, .dmul, 0, 0, 0, 0), (66, .d2i, 0, 0, 0, 0), (67, .ireturn, 0, 0, 0, 0)]
theorem so_X6_bitsOfFloat_55 : sgOK mi_X6_bitsOfFloat gm_X6_bitsOfFloat sg_X6_bitsOfFloat_55 = true := by decide +kernel
def sg_X6_bitsOfFloat_68 : List Ins := [(68, .iload_n 3, 0, 0, 0, 0), (69, .bipush 127, 127, 0, 0, 0), (71, .iadd, 0, 0, 0, 0), (72, .bipush 23, 23, 0, 0, 0), (74, .ishl, 0, 0, 0, 0), (75, .dload_n 1, 0, 0, 0, 0), (76, .dconst 1, 0, 0, 0, 0), (77, .dsub, 0, 0, 0, 0), (78, .ldc2_w 275, 4710765210229538816, 3, 449, 0), (81, .dmul, 0, 0, 0, 0), (82, .d2i, 0, 0, 0, 0), (83, .ior, 0, 0, 0, 0), (84, .ireturn, 0, 0, 0, 0)]
theorem so_X6_bitsOfFloat_68 : sgOK mi_X6_bitsOfFloat gm_X6_bitsOfFloat sg_X6_bitsOfFloat_68 = true := by decide +kernel
def sgs_X6_bitsOfFloat : Nat → Option (List Ins) := fun t => match t with
  | 0 => some sg_X6_bitsOfFloat_0
  | 55 => some sg_X6_bitsOfFloat_55
  | 68 => some sg_X6_bitsOfFloat_68
  | _ => none
theorem so_X6_bitsOfFloat : ∀ t sg, sgs_X6_bitsOfFloat t = some sg → sgOK mi_X6_bitsOfFloat gm_X6_bitsOfFloat sg = true ∧ segPc sg = t := by
  intro t sg h
  unfold sgs_X6_bitsOfFloat at h
  split at h
  · cases h; exact ⟨so_X6_bitsOfFloat_0, rfl⟩
  · cases h; exact ⟨so_X6_bitsOfFloat_55, rfl⟩
  · cases h; exact ⟨so_X6_bitsOfFloat_68, rfl⟩
  · cases h
def gm_X6_at : List MI := [mi_X0_glassOnDesk, mi_X6_isPlace, mi_X6_bitsOfFloat, mi_X0_lightAhead, mi_X0_hasRoom, mi_X0_canBeRead]
def sg_X6_at_0 : List Ins := [(0, .aload_n 0, 0, 0, 0, 0), (1, .getfield 12, 6, 0, 196, 0), (4, .invokevirtual 84, 483, 0, 10, 1), (7, .astore 4, 0, 0, 0, 0), (9, .aload 4, 0, 0, 0, 0), (11, .ifnull 11, 0, 0, 22, 0), (14, .iload_n 1, 0, 0, 0, 0), (15, .iload_n 2, 0, 0, 0, 0), (16, .invokestatic 88, 484, 1, 0, 2), (19, .ifCond .ne 5, 0, 0, 24, 0), (22, .iconst (-1), 1, 1, 0, 0), (23, .ireturn, 0, 0, 0, 0)]
theorem so_X6_at_0 : sgOK mi_X6_at gm_X6_at sg_X6_at_0 = true := by decide +kernel
def sg_X6_at_22 : List Ins := [(22, .iconst (-1), 1, 1, 0, 0), (23, .ireturn, 0, 0, 0, 0)]
theorem so_X6_at_22 : sgOK mi_X6_at gm_X6_at sg_X6_at_22 = true := by decide +kernel
def sg_X6_at_24 : List Ins := [(24, .iload_n 1, 0, 0, 0, 0), (25, .bipush 12, 12, 0, 0, 0), (27, .imul, 0, 0, 0, 0), (28, .iload_n 2, 0, 0, 0, 0), (29, .iadd, 0, 0, 0, 0), (30, .istore 5, 0, 0, 0, 0), (32, .iload_n 3, 0, 0, 0, 0), (33, .tableswitch 137 0 6 #[43, 52, 61, 70, 82, 97, 117], 43, 0, 0, 0)]
theorem so_X6_at_24 : sgOK mi_X6_at gm_X6_at sg_X6_at_24 = true := by decide +kernel
def sg_X6_at_76 : List Ins := [(76, .aload 4, 0, 0, 0, 0), (78, .getfield 92, 1, 1, 45, 0), (81, .iload 5, 0, 0, 0, 0), (83, .iaload, 8, 0, 0, 0), (84, .ireturn, 0, 0, 0, 0)]
theorem so_X6_at_76 : sgOK mi_X6_at gm_X6_at sg_X6_at_76 = true := by decide +kernel
def sg_X6_at_85 : List Ins := [(85, .aload 4, 0, 0, 0, 0), (87, .getfield 98, 1, 2, 47, 0), (90, .iload 5, 0, 0, 0, 0), (92, .iaload, 8, 0, 0, 0), (93, .ireturn, 0, 0, 0, 0)]
theorem so_X6_at_85 : sgOK mi_X6_at gm_X6_at sg_X6_at_85 = true := by decide +kernel
def sg_X6_at_94 : List Ins := [(94, .aload 4, 0, 0, 0, 0), (96, .getfield 101, 1, 3, 52, 0), (99, .iload 5, 0, 0, 0, 0), (101, .iaload, 8, 0, 0, 0), (102, .ireturn, 0, 0, 0, 0)]
theorem so_X6_at_94 : sgOK mi_X6_at gm_X6_at sg_X6_at_94 = true := by decide +kernel
def sg_X6_at_103 : List Ins := [(103, .aload 4, 0, 0, 0, 0), (105, .getfield 104, 1, 0, 42, 0), (108, .iload 5, 0, 0, 0, 0), (110, .faload, 0, 0, 0, 0), (111, .invokestatic 108, 445, 2, 0, 1), (114, .ireturn, 0, 0, 0, 0)]
theorem so_X6_at_103 : sgOK mi_X6_at gm_X6_at sg_X6_at_103 = true := by decide +kernel
def sg_X6_at_115 : List Ins := [(115, .aload_n 0, 0, 0, 0, 0), (116, .getfield 12, 6, 0, 196, 0), (119, .aload 4, 0, 0, 0, 0), (121, .iload 5, 0, 0, 0, 0), (123, .invokevirtual 112, 485, 3, 10, 3), (126, .invokestatic 108, 445, 2, 0, 1), (129, .ireturn, 0, 0, 0, 0)]
theorem so_X6_at_115 : sgOK mi_X6_at gm_X6_at sg_X6_at_115 = true := by decide +kernel
def sg_X6_at_130 : List Ins := [(130, .aload_n 0, 0, 0, 0, 0), (131, .getfield 12, 6, 0, 196, 0), (134, .aload 4, 0, 0, 0, 0), (136, .iload 5, 0, 0, 0, 0), (138, .invokevirtual 116, 486, 4, 10, 3), (141, .ifCond .eq 7, 0, 0, 148, 0), (144, .iconst 1, 1, 0, 0, 0), (145, .goto 4, 0, 0, 149, 0)]
theorem so_X6_at_130 : sgOK mi_X6_at gm_X6_at sg_X6_at_130 = true := by decide +kernel
def sg_X6_at_148 : List Ins := [(148, .iconst 0, 0, 0, 0, 0), (149, .ireturn, 0, 0, 0, 0)]
theorem so_X6_at_148 : sgOK mi_X6_at gm_X6_at sg_X6_at_148 = true := by decide +kernel
def sg_X6_at_149 : List Ins := [(149, .ireturn, 0, 0, 0, 0)]
theorem so_X6_at_149 : sgOK mi_X6_at gm_X6_at sg_X6_at_149 = true := by decide +kernel
def sg_X6_at_150 : List Ins := [(150, .aload_n 0, 0, 0, 0, 0), (151, .getfield 12, 6, 0, 196, 0), (154, .aload 4, 0, 0, 0, 0), (156, .iload 5, 0, 0, 0, 0), (158, .invokevirtual 120, 487, 5, 10, 3), (161, .ifCond .eq 7, 0, 0, 168, 0), (164, .iconst 1, 1, 0, 0, 0), (165, .goto 4, 0, 0, 169, 0)]
theorem so_X6_at_150 : sgOK mi_X6_at gm_X6_at sg_X6_at_150 = true := by decide +kernel
def sg_X6_at_168 : List Ins := [(168, .iconst 0, 0, 0, 0, 0), (169, .ireturn, 0, 0, 0, 0)]
theorem so_X6_at_168 : sgOK mi_X6_at gm_X6_at sg_X6_at_168 = true := by decide +kernel
def sg_X6_at_169 : List Ins := [(169, .ireturn, 0, 0, 0, 0)]
theorem so_X6_at_169 : sgOK mi_X6_at gm_X6_at sg_X6_at_169 = true := by decide +kernel
def sg_X6_at_170 : List Ins := [(170, .bipush (-2), 2, 1, 0, 0), (172, .ireturn, 0, 0, 0, 0)]
theorem so_X6_at_170 : sgOK mi_X6_at gm_X6_at sg_X6_at_170 = true := by decide +kernel
def sgs_X6_at : Nat → Option (List Ins) := fun t => match t with
  | 0 => some sg_X6_at_0
  | 22 => some sg_X6_at_22
  | 24 => some sg_X6_at_24
  | 76 => some sg_X6_at_76
  | 85 => some sg_X6_at_85
  | 94 => some sg_X6_at_94
  | 103 => some sg_X6_at_103
  | 115 => some sg_X6_at_115
  | 130 => some sg_X6_at_130
  | 148 => some sg_X6_at_148
  | 149 => some sg_X6_at_149
  | 150 => some sg_X6_at_150
  | 168 => some sg_X6_at_168
  | 169 => some sg_X6_at_169
  | 170 => some sg_X6_at_170
  | _ => none
theorem so_X6_at : ∀ t sg, sgs_X6_at t = some sg → sgOK mi_X6_at gm_X6_at sg = true ∧ segPc sg = t := by
  intro t sg h
  unfold sgs_X6_at at h
  split at h
  · cases h; exact ⟨so_X6_at_0, rfl⟩
  · cases h; exact ⟨so_X6_at_22, rfl⟩
  · cases h; exact ⟨so_X6_at_24, rfl⟩
  · cases h; exact ⟨so_X6_at_76, rfl⟩
  · cases h; exact ⟨so_X6_at_85, rfl⟩
  · cases h; exact ⟨so_X6_at_94, rfl⟩
  · cases h; exact ⟨so_X6_at_103, rfl⟩
  · cases h; exact ⟨so_X6_at_115, rfl⟩
  · cases h; exact ⟨so_X6_at_130, rfl⟩
  · cases h; exact ⟨so_X6_at_148, rfl⟩
  · cases h; exact ⟨so_X6_at_149, rfl⟩
  · cases h; exact ⟨so_X6_at_150, rfl⟩
  · cases h; exact ⟨so_X6_at_168, rfl⟩
  · cases h; exact ⟨so_X6_at_169, rfl⟩
  · cases h; exact ⟨so_X6_at_170, rfl⟩
  · cases h
def gm_X6_columnsThat : List MI := [mi_X0_placeIs]
def sg_X6_columnsThat_0 : List Ins := [(0, .iconst 0, 0, 0, 0, 0), (1, .istore 4, 0, 0, 0, 0), (3, .iconst 0, 0, 0, 0, 0), (4, .istore 5, 0, 0, 0, 0), (6, .nop, 0, 0, 0, 0)]
theorem so_X6_columnsThat_0 : sgOK mi_X6_columnsThat gm_X6_columnsThat sg_X6_columnsThat_0 = true := by decide +kernel
def sg_X6_columnsThat_6 : List Ins := [(6, .iload 5, 0, 0, 0, 0), (8, .bipush 12, 12, 0, 0, 0), (10, .if_icmp .ge 37, 0, 0, 47, 0), (13, .aload_n 0, 0, 0, 0, 0), (14, .getfield 12, 6, 0, 196, 0), (17, .aload_n 1, 0, 0, 0, 0), (18, .iload_n 2, 0, 0, 0, 0), (19, .bipush 12, 12, 0, 0, 0), (21, .imul, 0, 0, 0, 0), (22, .iload 5, 0, 0, 0, 0), (24, .iadd, 0, 0, 0, 0), (25, .iload_n 3, 0, 0, 0, 0), (26, .invokevirtual 255, 496, 0, 10, 4), (29, .ifCond .eq 12, 0, 0, 41, 0), (32, .iload 4, 0, 0, 0, 0), (34, .iconst 1, 1, 0, 0, 0), (35, .iload 5, 0, 0, 0, 0), (37, .ishl, 0, 0, 0, 0), (38, .ior, 0, 0, 0, 0), (39, .istore 4, 0, 0, 0, 0), (41, .iinc 5 1, 1, 0, 0, 0), (44, .goto (-38), 0, 0, 6, 0)]
theorem so_X6_columnsThat_6 : sgOK mi_X6_columnsThat gm_X6_columnsThat sg_X6_columnsThat_6 = true := by decide +kernel
def sg_X6_columnsThat_41 : List Ins := [(41, .iinc 5 1, 1, 0, 0, 0), (44, .goto (-38), 0, 0, 6, 0)]
theorem so_X6_columnsThat_41 : sgOK mi_X6_columnsThat gm_X6_columnsThat sg_X6_columnsThat_41 = true := by decide +kernel
def sg_X6_columnsThat_47 : List Ins := [(47, .iload 4, 0, 0, 0, 0), (49, .ireturn, 0, 0, 0, 0)]
theorem so_X6_columnsThat_47 : sgOK mi_X6_columnsThat gm_X6_columnsThat sg_X6_columnsThat_47 = true := by decide +kernel
def sgs_X6_columnsThat : Nat → Option (List Ins) := fun t => match t with
  | 0 => some sg_X6_columnsThat_0
  | 41 => some sg_X6_columnsThat_41
  | 47 => some sg_X6_columnsThat_47
  | _ => none
theorem so_X6_columnsThat : ∀ t sg, sgs_X6_columnsThat t = some sg → sgOK mi_X6_columnsThat gm_X6_columnsThat sg = true ∧ segPc sg = t := by
  intro t sg h
  unfold sgs_X6_columnsThat at h
  split at h
  · cases h; exact ⟨so_X6_columnsThat_0, rfl⟩
  · cases h; exact ⟨so_X6_columnsThat_41, rfl⟩
  · cases h; exact ⟨so_X6_columnsThat_47, rfl⟩
  · cases h
def gm_X6_longestRun : List MI := [mi_J9_max_7cf53]
def sg_X6_longestRun_0 : List Ins := [(0, .iconst 0, 0, 0, 0, 0), (1, .istore_n 1, 0, 0, 0, 0), (2, .iconst 0, 0, 0, 0, 0), (3, .istore_n 2, 0, 0, 0, 0), (4, .iconst 0, 0, 0, 0, 0), (5, .istore_n 3, 0, 0, 0, 0), (6, .nop, 0, 0, 0, 0)]
theorem so_X6_longestRun_0 : sgOK mi_X6_longestRun gm_X6_longestRun sg_X6_longestRun_0 = true := by decide +kernel
def sg_X6_longestRun_6 : List Ins := [(6, .iload_n 3, 0, 0, 0, 0), (7, .bipush 12, 12, 0, 0, 0), (9, .if_icmp .ge 32, 0, 0, 41, 0), (12, .iload_n 0, 0, 0, 0, 0), (13, .iload_n 3, 0, 0, 0, 0), (14, .ishr, 0, 0, 0, 0), (15, .iconst 1, 1, 0, 0, 0), (16, .iand, 0, 0, 0, 0), (17, .iconst 1, 1, 0, 0, 0), (18, .if_icmp .ne 9, 0, 0, 27, 0), (21, .iload_n 2, 0, 0, 0, 0), (22, .iconst 1, 1, 0, 0, 0), (23, .iadd, 0, 0, 0, 0), (24, .goto 4, 0, 0, 28, 0)]
theorem so_X6_longestRun_6 : sgOK mi_X6_longestRun gm_X6_longestRun sg_X6_longestRun_6 = true := by decide +kernel
def sg_X6_longestRun_27 : List Ins := [(27, .iconst 0, 0, 0, 0, 0), (28, .istore_n 2, 0, 0, 0, 0), (29, .iload_n 1, 0, 0, 0, 0), (30, .iload_n 2, 0, 0, 0, 0), (31, .invokestatic 247, 343, 0, 0, 2), (34, .istore_n 1, 0, 0, 0, 0), (35, .iinc 3 1, 1, 0, 0, 0), (38, .goto (-32), 0, 0, 6, 0)]
theorem so_X6_longestRun_27 : sgOK mi_X6_longestRun gm_X6_longestRun sg_X6_longestRun_27 = true := by decide +kernel
def sg_X6_longestRun_28 : List Ins := [(28, .istore_n 2, 0, 0, 0, 0), (29, .iload_n 1, 0, 0, 0, 0), (30, .iload_n 2, 0, 0, 0, 0), (31, .invokestatic 247, 343, 0, 0, 2), (34, .istore_n 1, 0, 0, 0, 0), (35, .iinc 3 1, 1, 0, 0, 0), (38, .goto (-32), 0, 0, 6, 0)]
theorem so_X6_longestRun_28 : sgOK mi_X6_longestRun gm_X6_longestRun sg_X6_longestRun_28 = true := by decide +kernel
def sg_X6_longestRun_41 : List Ins := [(41, .iload_n 1, 0, 0, 0, 0), (42, .ireturn, 0, 0, 0, 0)]
theorem so_X6_longestRun_41 : sgOK mi_X6_longestRun gm_X6_longestRun sg_X6_longestRun_41 = true := by decide +kernel
def sgs_X6_longestRun : Nat → Option (List Ins) := fun t => match t with
  | 0 => some sg_X6_longestRun_0
  | 27 => some sg_X6_longestRun_27
  | 28 => some sg_X6_longestRun_28
  | 41 => some sg_X6_longestRun_41
  | _ => none
theorem so_X6_longestRun : ∀ t sg, sgs_X6_longestRun t = some sg → sgOK mi_X6_longestRun gm_X6_longestRun sg = true ∧ segPc sg = t := by
  intro t sg h
  unfold sgs_X6_longestRun at h
  split at h
  · cases h; exact ⟨so_X6_longestRun_0, rfl⟩
  · cases h; exact ⟨so_X6_longestRun_27, rfl⟩
  · cases h; exact ⟨so_X6_longestRun_28, rfl⟩
  · cases h; exact ⟨so_X6_longestRun_41, rfl⟩
  · cases h
def gm_X6_row : List MI := [mi_X0_glassOnDesk, mi_X6_columnsThat, mi_X6_longestRun]
def sg_X6_row_0 : List Ins := [(0, .aload_n 0, 0, 0, 0, 0), (1, .getfield 12, 6, 0, 196, 0), (4, .invokevirtual 84, 483, 0, 10, 1), (7, .astore_n 3, 0, 0, 0, 0), (8, .aload_n 3, 0, 0, 0, 0), (9, .ifnull 13, 0, 0, 22, 0), (12, .iload_n 1, 0, 0, 0, 0), (13, .ifCond .lt 9, 0, 0, 22, 0), (16, .iload_n 1, 0, 0, 0, 0), (17, .bipush 10, 10, 0, 0, 0), (19, .if_icmp .lt 5, 0, 0, 24, 0), (22, .iconst (-1), 1, 1, 0, 0), (23, .ireturn, 0, 0, 0, 0)]
theorem so_X6_row_0 : sgOK mi_X6_row gm_X6_row sg_X6_row_0 = true := by decide +kernel
def sg_X6_row_22 : List Ins := [(22, .iconst (-1), 1, 1, 0, 0), (23, .ireturn, 0, 0, 0, 0)]
theorem so_X6_row_22 : sgOK mi_X6_row gm_X6_row sg_X6_row_22 = true := by decide +kernel
def sg_X6_row_24 : List Ins := [(24, .iload_n 2, 0, 0, 0, 0), (25, .tableswitch 54 0 4 #[35, 35, 35, 35, 43], 35, 0, 0, 0)]
theorem so_X6_row_24 : sgOK mi_X6_row gm_X6_row sg_X6_row_24 = true := by decide +kernel
def sg_X6_row_60 : List Ins := [(60, .aload_n 0, 0, 0, 0, 0), (61, .aload_n 3, 0, 0, 0, 0), (62, .iload_n 1, 0, 0, 0, 0), (63, .iload_n 2, 0, 0, 0, 0), (64, .invokevirtual 123, 492, 1, 16, 4), (67, .ireturn, 0, 0, 0, 0)]
theorem so_X6_row_60 : sgOK mi_X6_row gm_X6_row sg_X6_row_60 = true := by decide +kernel
def sg_X6_row_68 : List Ins := [(68, .aload_n 0, 0, 0, 0, 0), (69, .aload_n 3, 0, 0, 0, 0), (70, .iload_n 1, 0, 0, 0, 0), (71, .iconst 1, 1, 0, 0, 0), (72, .invokevirtual 123, 492, 1, 16, 4), (75, .invokestatic 127, 497, 2, 0, 1), (78, .ireturn, 0, 0, 0, 0)]
theorem so_X6_row_68 : sgOK mi_X6_row gm_X6_row sg_X6_row_68 = true := by decide +kernel
def sg_X6_row_79 : List Ins := [(79, .bipush (-2), 2, 1, 0, 0), (81, .ireturn, 0, 0, 0, 0)]
theorem so_X6_row_79 : sgOK mi_X6_row gm_X6_row sg_X6_row_79 = true := by decide +kernel
def sgs_X6_row : Nat → Option (List Ins) := fun t => match t with
  | 0 => some sg_X6_row_0
  | 22 => some sg_X6_row_22
  | 24 => some sg_X6_row_24
  | 60 => some sg_X6_row_60
  | 68 => some sg_X6_row_68
  | 79 => some sg_X6_row_79
  | _ => none
theorem so_X6_row : ∀ t sg, sgs_X6_row t = some sg → sgOK mi_X6_row gm_X6_row sg = true ∧ segPc sg = t := by
  intro t sg h
  unfold sgs_X6_row at h
  split at h
  · cases h; exact ⟨so_X6_row_0, rfl⟩
  · cases h; exact ⟨so_X6_row_22, rfl⟩
  · cases h; exact ⟨so_X6_row_24, rfl⟩
  · cases h; exact ⟨so_X6_row_60, rfl⟩
  · cases h; exact ⟨so_X6_row_68, rfl⟩
  · cases h; exact ⟨so_X6_row_79, rfl⟩
  · cases h
def gm_X6_of : List MI := [mi_X0_isWriter, mi_X0_placesOfWriter]
def sg_X6_of_0 : List Ins := [(0, .aload_n 0, 0, 0, 0, 0), (1, .getfield 12, 6, 0, 196, 0), (4, .iload_n 1, 0, 0, 0, 0), (5, .invokevirtual 130, 470, 0, 10, 2), (8, .ifCond .ne 5, 0, 0, 13, 0), (11, .iconst (-1), 1, 1, 0, 0), (12, .ireturn, 0, 0, 0, 0)]
theorem so_X6_of_0 : sgOK mi_X6_of gm_X6_of sg_X6_of_0 = true := by decide +kernel
def sg_X6_of_13 : List Ins := [(13, .iload_n 2, 0, 0, 0, 0), (14, .tableswitch 78 0 5 #[38, 48, 48, 48, 58, 68], 38, 0, 0, 0)]
theorem so_X6_of_13 : sgOK mi_X6_of gm_X6_of sg_X6_of_13 = true := by decide +kernel
def sg_X6_of_52 : List Ins := [(52, .aload_n 0, 0, 0, 0, 0), (53, .getfield 12, 6, 0, 196, 0), (56, .getfield 134, 0, 1, 67, 0), (59, .iload_n 1, 0, 0, 0, 0), (60, .iaload, 8, 0, 0, 0), (61, .ireturn, 0, 0, 0, 0)]
theorem so_X6_of_52 : sgOK mi_X6_of gm_X6_of sg_X6_of_52 = true := by decide +kernel
def sg_X6_of_62 : List Ins := [(62, .aload_n 0, 0, 0, 0, 0), (63, .getfield 12, 6, 0, 196, 0), (66, .iload_n 1, 0, 0, 0, 0), (67, .iload_n 2, 0, 0, 0, 0), (68, .invokevirtual 137, 471, 1, 10, 3), (71, .ireturn, 0, 0, 0, 0)]
theorem so_X6_of_62 : sgOK mi_X6_of gm_X6_of sg_X6_of_62 = true := by decide +kernel
def sg_X6_of_72 : List Ins := [(72, .aload_n 0, 0, 0, 0, 0), (73, .getfield 12, 6, 0, 196, 0), (76, .getfield 140, 0, 2, 69, 0), (79, .iload_n 1, 0, 0, 0, 0), (80, .iaload, 8, 0, 0, 0), (81, .ireturn, 0, 0, 0, 0)]
theorem so_X6_of_72 : sgOK mi_X6_of gm_X6_of sg_X6_of_72 = true := by decide +kernel
def sg_X6_of_82 : List Ins := [(82, .aload_n 0, 0, 0, 0, 0), (83, .getfield 12, 6, 0, 196, 0), (86, .getfield 143, 0, 3, 71, 0), (89, .iload_n 1, 0, 0, 0, 0), (90, .iaload, 8, 0, 0, 0), (91, .ireturn, 0, 0, 0, 0)]
theorem so_X6_of_82 : sgOK mi_X6_of gm_X6_of sg_X6_of_82 = true := by decide +kernel
def sg_X6_of_92 : List Ins := [(92, .bipush (-2), 2, 1, 0, 0), (94, .ireturn, 0, 0, 0, 0)]
theorem so_X6_of_92 : sgOK mi_X6_of gm_X6_of sg_X6_of_92 = true := by decide +kernel
def sgs_X6_of : Nat → Option (List Ins) := fun t => match t with
  | 0 => some sg_X6_of_0
  | 13 => some sg_X6_of_13
  | 52 => some sg_X6_of_52
  | 62 => some sg_X6_of_62
  | 72 => some sg_X6_of_72
  | 82 => some sg_X6_of_82
  | 92 => some sg_X6_of_92
  | _ => none
theorem so_X6_of : ∀ t sg, sgs_X6_of t = some sg → sgOK mi_X6_of gm_X6_of sg = true ∧ segPc sg = t := by
  intro t sg h
  unfold sgs_X6_of at h
  split at h
  · cases h; exact ⟨so_X6_of_0, rfl⟩
  · cases h; exact ⟨so_X6_of_13, rfl⟩
  · cases h; exact ⟨so_X6_of_52, rfl⟩
  · cases h; exact ⟨so_X6_of_62, rfl⟩
  · cases h; exact ⟨so_X6_of_72, rfl⟩
  · cases h; exact ⟨so_X6_of_82, rfl⟩
  · cases h; exact ⟨so_X6_of_92, rfl⟩
  · cases h
def gm_X6_ofPlate : List MI := [mi_X0_isPlate, mi_X0_placesThat, mi_X1_leastLight, mi_X6_bitsOfFloat, mi_X1_sumOfLight]
def sg_X6_ofPlate_0 : List Ins := [(0, .aload_n 0, 0, 0, 0, 0), (1, .getfield 12, 6, 0, 196, 0), (4, .iload_n 1, 0, 0, 0, 0), (5, .invokevirtual 146, 432, 0, 10, 2), (8, .ifCond .ne 5, 0, 0, 13, 0), (11, .iconst (-1), 1, 1, 0, 0), (12, .ireturn, 0, 0, 0, 0)]
theorem so_X6_ofPlate_0 : sgOK mi_X6_ofPlate gm_X6_ofPlate sg_X6_ofPlate_0 = true := by decide +kernel
def sg_X6_ofPlate_13 : List Ins := [(13, .aload_n 0, 0, 0, 0, 0), (14, .getfield 12, 6, 0, 196, 0), (17, .getfield 149, 0, 4, 73, 0), (20, .iload_n 1, 0, 0, 0, 0), (21, .aaload, 13, 0, 0, 0), (22, .astore_n 3, 0, 0, 0, 0), (23, .iload_n 2, 0, 0, 0, 0), (24, .tableswitch 66 0 5 #[40, 40, 40, 40, 50, 58], 40, 0, 0, 0)]
theorem so_X6_ofPlate_13 : sgOK mi_X6_ofPlate gm_X6_ofPlate sg_X6_ofPlate_13 = true := by decide +kernel
def sg_X6_ofPlate_64 : List Ins := [(64, .aload_n 0, 0, 0, 0, 0), (65, .getfield 12, 6, 0, 196, 0), (68, .aload_n 3, 0, 0, 0, 0), (69, .iload_n 2, 0, 0, 0, 0), (70, .invokevirtual 153, 433, 1, 10, 3), (73, .ireturn, 0, 0, 0, 0)]
theorem so_X6_ofPlate_64 : sgOK mi_X6_ofPlate gm_X6_ofPlate sg_X6_ofPlate_64 = true := by decide +kernel
def sg_X6_ofPlate_74 : List Ins := [(74, .aload_n 3, 0, 0, 0, 0), (75, .invokevirtual 157, 441, 2, 11, 1), (78, .invokestatic 108, 445, 3, 0, 1), (81, .ireturn, 0, 0, 0, 0)]
theorem so_X6_ofPlate_74 : sgOK mi_X6_ofPlate gm_X6_ofPlate sg_X6_ofPlate_74 = true := by decide +kernel
def sg_X6_ofPlate_82 : List Ins := [(82, .aload_n 3, 0, 0, 0, 0), (83, .invokevirtual 161, 450, 4, 11, 1), (86, .invokestatic 108, 445, 3, 0, 1), (89, .ireturn, 0, 0, 0, 0)]
theorem so_X6_ofPlate_82 : sgOK mi_X6_ofPlate gm_X6_ofPlate sg_X6_ofPlate_82 = true := by decide +kernel
def sg_X6_ofPlate_90 : List Ins := [(90, .bipush (-2), 2, 1, 0, 0), (92, .ireturn, 0, 0, 0, 0)]
theorem so_X6_ofPlate_90 : sgOK mi_X6_ofPlate gm_X6_ofPlate sg_X6_ofPlate_90 = true := by decide +kernel
def sgs_X6_ofPlate : Nat → Option (List Ins) := fun t => match t with
  | 0 => some sg_X6_ofPlate_0
  | 13 => some sg_X6_ofPlate_13
  | 64 => some sg_X6_ofPlate_64
  | 74 => some sg_X6_ofPlate_74
  | 82 => some sg_X6_ofPlate_82
  | 90 => some sg_X6_ofPlate_90
  | _ => none
theorem so_X6_ofPlate : ∀ t sg, sgs_X6_ofPlate t = some sg → sgOK mi_X6_ofPlate gm_X6_ofPlate sg = true ∧ segPc sg = t := by
  intro t sg h
  unfold sgs_X6_ofPlate at h
  split at h
  · cases h; exact ⟨so_X6_ofPlate_0, rfl⟩
  · cases h; exact ⟨so_X6_ofPlate_13, rfl⟩
  · cases h; exact ⟨so_X6_ofPlate_64, rfl⟩
  · cases h; exact ⟨so_X6_ofPlate_74, rfl⟩
  · cases h; exact ⟨so_X6_ofPlate_82, rfl⟩
  · cases h; exact ⟨so_X6_ofPlate_90, rfl⟩
  · cases h
def gm_X6_count : List MI := []
def sg_X6_count_0 : List Ins := [(0, .iload_n 1, 0, 0, 0, 0), (1, .tableswitch 118 0 9 #[55, 63, 71, 79, 87, 87, 87, 87, 99, 110], 55, 0, 0, 0)]
theorem so_X6_count_0 : sgOK mi_X6_count gm_X6_count sg_X6_count_0 = true := by decide +kernel
def sg_X6_count_56 : List Ins := [(56, .aload_n 0, 0, 0, 0, 0), (57, .getfield 12, 6, 0, 196, 0), (60, .getfield 164, 0, 5, 75, 0), (63, .ireturn, 0, 0, 0, 0)]
theorem so_X6_count_56 : sgOK mi_X6_count gm_X6_count sg_X6_count_56 = true := by decide +kernel
def sg_X6_count_64 : List Ins := [(64, .aload_n 0, 0, 0, 0, 0), (65, .getfield 12, 6, 0, 196, 0), (68, .getfield 168, 0, 6, 77, 0), (71, .ireturn, 0, 0, 0, 0)]
theorem so_X6_count_64 : sgOK mi_X6_count gm_X6_count sg_X6_count_64 = true := by decide +kernel
def sg_X6_count_72 : List Ins := [(72, .aload_n 0, 0, 0, 0, 0), (73, .getfield 12, 6, 0, 196, 0), (76, .getfield 171, 0, 7, 79, 0), (79, .ireturn, 0, 0, 0, 0)]
theorem so_X6_count_72 : sgOK mi_X6_count gm_X6_count sg_X6_count_72 = true := by decide +kernel
def sg_X6_count_80 : List Ins := [(80, .aload_n 0, 0, 0, 0, 0), (81, .getfield 12, 6, 0, 196, 0), (84, .getfield 174, 0, 8, 81, 0), (87, .ireturn, 0, 0, 0, 0)]
theorem so_X6_count_80 : sgOK mi_X6_count gm_X6_count sg_X6_count_80 = true := by decide +kernel
def sg_X6_count_88 : List Ins := [(88, .aload_n 0, 0, 0, 0, 0), (89, .getfield 12, 6, 0, 196, 0), (92, .getfield 177, 0, 0, 65, 0), (95, .iload_n 1, 0, 0, 0, 0), (96, .iconst 4, 4, 0, 0, 0), (97, .isub, 0, 0, 0, 0), (98, .iaload, 8, 0, 0, 0), (99, .ireturn, 0, 0, 0, 0)]
theorem so_X6_count_88 : sgOK mi_X6_count gm_X6_count sg_X6_count_88 = true := by decide +kernel
def sg_X6_count_100 : List Ins := [(100, .aload_n 0, 0, 0, 0, 0), (101, .getfield 34, 6, 4, 200, 0), (104, .getfield 180, 3, 0, 144, 0), (107, .getfield 184, 4, 1, 135, 0), (110, .ireturn, 0, 0, 0, 0)]
theorem so_X6_count_100 : sgOK mi_X6_count gm_X6_count sg_X6_count_100 = true := by decide +kernel
def sg_X6_count_111 : List Ins := [(111, .aload_n 0, 0, 0, 0, 0), (112, .getfield 19, 6, 1, 197, 0), (115, .getfield 189, 2, 2, 113, 0), (118, .ireturn, 0, 0, 0, 0)]
theorem so_X6_count_111 : sgOK mi_X6_count gm_X6_count sg_X6_count_111 = true := by decide +kernel
def sg_X6_count_119 : List Ins := [(119, .bipush (-2), 2, 1, 0, 0), (121, .ireturn, 0, 0, 0, 0)]
theorem so_X6_count_119 : sgOK mi_X6_count gm_X6_count sg_X6_count_119 = true := by decide +kernel
def sgs_X6_count : Nat → Option (List Ins) := fun t => match t with
  | 0 => some sg_X6_count_0
  | 56 => some sg_X6_count_56
  | 64 => some sg_X6_count_64
  | 72 => some sg_X6_count_72
  | 80 => some sg_X6_count_80
  | 88 => some sg_X6_count_88
  | 100 => some sg_X6_count_100
  | 111 => some sg_X6_count_111
  | 119 => some sg_X6_count_119
  | _ => none
theorem so_X6_count : ∀ t sg, sgs_X6_count t = some sg → sgOK mi_X6_count gm_X6_count sg = true ∧ segPc sg = t := by
  intro t sg h
  unfold sgs_X6_count at h
  split at h
  · cases h; exact ⟨so_X6_count_0, rfl⟩
  · cases h; exact ⟨so_X6_count_56, rfl⟩
  · cases h; exact ⟨so_X6_count_64, rfl⟩
  · cases h; exact ⟨so_X6_count_72, rfl⟩
  · cases h; exact ⟨so_X6_count_80, rfl⟩
  · cases h; exact ⟨so_X6_count_88, rfl⟩
  · cases h; exact ⟨so_X6_count_100, rfl⟩
  · cases h; exact ⟨so_X6_count_111, rfl⟩
  · cases h; exact ⟨so_X6_count_119, rfl⟩
  · cases h
def gm_X6_bitsOfMean : List MI := []
def sg_X6_bitsOfMean_0 : List Ins := [(0, .dload_n 0, 0, 0, 0, 0), (1, .dstore_n 2, 0, 0, 0, 0), (2, .iconst 0, 0, 0, 0, 0), (3, .istore 4, 0, 0, 0, 0), (5, .nop, 0, 0, 0, 0)]
theorem so_X6_bitsOfMean_0 : sgOK mi_X6_bitsOfMean gm_X6_bitsOfMean sg_X6_bitsOfMean_0 = true := by decide +kernel
def sg_X6_bitsOfMean_5 : List Ins := [(5, .dload_n 2, 0, 0, 0, 0), (6, .dconst 1, 0, 0, 0, 0), (7, .dcmp .g, 0, 0, 0, 0), (8, .ifCond .ge 23, 0, 0, 31, 0), (11, .iload 4, 0, 0, 0, 0), (13, .sipush (-1022), 1022, 1, 0, 0), (16, .if_icmp .le 15, 0, 0, 31, 0), (19, .dload_n 2, 0, 0, 0, 0), (20, .ldc2_w 273, 4611686018427387904, 3, 448, 0), (23, .dmul, 0, 0, 0, 0), (24, .dstore_n 2, 0, 0, 0, 0), (25, .iinc 4 (-1), 1, 1, 0, 0), (28, .goto (-23), 0, 0, 5, 0)]
theorem so_X6_bitsOfMean_5 : sgOK mi_X6_bitsOfMean gm_X6_bitsOfMean sg_X6_bitsOfMean_5 = true := by decide +kernel
def sg_X6_bitsOfMean_31 : List Ins := [(31, .dload_n 2, 0, 0, 0, 0), (32, .dconst 1, 0, 0, 0, 0), (33, .dcmp .g, 0, 0, 0, 0), (34, .ifCond .ge 10, 0, 0, 44, 0), (37, .dload_n 2, 0, 0, 0, 0), (38, .ldc2_w 277, 4841369599423283200, 3, 531, 0), (41, .dmul, 0, 0, 0, 0), (42, .d2l, 0, 0, 0, 0), (43, .lreturn, 0, 0, 0, 0)]
theorem so_X6_bitsOfMean_31 : sgOK mi_X6_bitsOfMean gm_X6_bitsOfMean sg_X6_bitsOfMean_31 = true := by decide +kernel
def sg_X6_bitsOfMean_44 : List Ins := [(44, .iload 4, 0, 0, 0, 0), (46, .sipush 1023, 1023, 0, 0, 0), (49, .iadd, 0, 0, 0, 0), (50, .i2l, 0, 0, 0, 0), (51, .bipush 52, 52, 0, 0, 0), (53, .lshl, 0, 0, 0, 0), (54, .dload_n 2, 0, 0, 0, 0), (55, .dconst 1, 0, 0, 0, 0), (56, .dsub, 0, 0, 0, 0), (57, .ldc2_w 277, 4841369599423283200, 3, 531, 0), (60, .dmul, 0, 0, 0, 0), (61, .d2l, 0, 0, 0, 0), (62, .lor, 0, 0, 0, 0), (63, .lreturn, 0, 0, 0, 0)]
theorem so_X6_bitsOfMean_44 : sgOK mi_X6_bitsOfMean gm_X6_bitsOfMean sg_X6_bitsOfMean_44 = true := by decide +kernel
def sgs_X6_bitsOfMean : Nat → Option (List Ins) := fun t => match t with
  | 0 => some sg_X6_bitsOfMean_0
  | 31 => some sg_X6_bitsOfMean_31
  | 44 => some sg_X6_bitsOfMean_44
  | _ => none
theorem so_X6_bitsOfMean : ∀ t sg, sgs_X6_bitsOfMean t = some sg → sgOK mi_X6_bitsOfMean gm_X6_bitsOfMean sg = true ∧ segPc sg = t := by
  intro t sg h
  unfold sgs_X6_bitsOfMean at h
  split at h
  · cases h; exact ⟨so_X6_bitsOfMean_0, rfl⟩
  · cases h; exact ⟨so_X6_bitsOfMean_31, rfl⟩
  · cases h; exact ⟨so_X6_bitsOfMean_44, rfl⟩
  · cases h
def gm_X6_mean : List MI := [mi_X0_glassOnDesk, mi_X6_bitsOfMean]
def sg_X6_mean_0 : List Ins := [(0, .aload_n 0, 0, 0, 0, 0), (1, .getfield 12, 6, 0, 196, 0), (4, .invokevirtual 84, 483, 0, 10, 1), (7, .astore_n 1, 0, 0, 0, 0), (8, .aload_n 1, 0, 0, 0, 0), (9, .ifnonnull 5, 0, 0, 14, 0), (12, .lconst 0, 0, 0, 0, 0), (13, .lreturn, 0, 0, 0, 0)]
theorem so_X6_mean_0 : sgOK mi_X6_mean gm_X6_mean sg_X6_mean_0 = true := by decide +kernel
def sg_X6_mean_14 : List Ins := [(14, .dconst 0, 0, 0, 0, 0), (15, .dstore_n 2, 0, 0, 0, 0), (16, .iconst 0, 0, 0, 0, 0), (17, .istore 4, 0, 0, 0, 0), (19, .nop, 0, 0, 0, 0)]
theorem so_X6_mean_14 : sgOK mi_X6_mean gm_X6_mean sg_X6_mean_14 = true := by decide +kernel
def sg_X6_mean_19 : List Ins := [(19, .iload 4, 0, 0, 0, 0), (21, .bipush 120, 120, 0, 0, 0), (23, .if_icmp .ge 20, 0, 0, 43, 0), (26, .dload_n 2, 0, 0, 0, 0), (27, .aload_n 1, 0, 0, 0, 0), (28, .getfield 104, 1, 0, 42, 0), (31, .iload 4, 0, 0, 0, 0), (33, .faload, 0, 0, 0, 0), (34, .f2d, 0, 0, 0, 0), (35, .dadd, 0, 0, 0, 0), (36, .dstore_n 2, 0, 0, 0, 0), (37, .iinc 4 1, 1, 0, 0, 0), (40, .goto (-21), 0, 0, 19, 0)]
theorem so_X6_mean_19 : sgOK mi_X6_mean gm_X6_mean sg_X6_mean_19 = true := by decide +kernel
def sg_X6_mean_43 : List Ins := [(43, .dload_n 2, 0, 0, 0, 0), (44, .ldc2_w 192, 4638144666238189568, 3, 527, 0), (47, .ddiv, 0, 0, 0, 0), (48, .invokestatic 194, 528, 1, 0, 1), (51, .lreturn, 0, 0, 0, 0)]
theorem so_X6_mean_43 : sgOK mi_X6_mean gm_X6_mean sg_X6_mean_43 = true := by decide +kernel
def sgs_X6_mean : Nat → Option (List Ins) := fun t => match t with
  | 0 => some sg_X6_mean_0
  | 14 => some sg_X6_mean_14
  | 43 => some sg_X6_mean_43
  | _ => none
theorem so_X6_mean : ∀ t sg, sgs_X6_mean t = some sg → sgOK mi_X6_mean gm_X6_mean sg = true ∧ segPc sg = t := by
  intro t sg h
  unfold sgs_X6_mean at h
  split at h
  · cases h; exact ⟨so_X6_mean_0, rfl⟩
  · cases h; exact ⟨so_X6_mean_14, rfl⟩
  · cases h; exact ⟨so_X6_mean_43, rfl⟩
  · cases h
def gm_X6_ifWritten : List MI := [mi_X0_glassOnDesk, mi_X0_isWriter, mi_X6_isPlace, mi_X5_lettersSpoiled, mi_X5_promisesSpoiled, mi_X5_roomLeft]
def sg_X6_ifWritten_0 : List Ins := [(0, .aload_n 0, 0, 0, 0, 0), (1, .getfield 12, 6, 0, 196, 0), (4, .invokevirtual 84, 483, 0, 10, 1), (7, .astore 5, 0, 0, 0, 0), (9, .aload_n 0, 0, 0, 0, 0), (10, .getfield 12, 6, 0, 196, 0), (13, .iload_n 1, 0, 0, 0, 0), (14, .invokevirtual 130, 470, 1, 10, 2), (17, .ifCond .eq 16, 0, 0, 33, 0), (20, .aload 5, 0, 0, 0, 0), (22, .ifnull 11, 0, 0, 33, 0), (25, .iload_n 2, 0, 0, 0, 0), (26, .iload_n 3, 0, 0, 0, 0), (27, .invokestatic 88, 484, 2, 0, 2), (30, .ifCond .ne 5, 0, 0, 35, 0), (33, .iconst (-1), 1, 1, 0, 0), (34, .ireturn, 0, 0, 0, 0)]
theorem so_X6_ifWritten_0 : sgOK mi_X6_ifWritten gm_X6_ifWritten sg_X6_ifWritten_0 = true := by decide +kernel
def sg_X6_ifWritten_33 : List Ins := [(33, .iconst (-1), 1, 1, 0, 0), (34, .ireturn, 0, 0, 0, 0)]
theorem so_X6_ifWritten_33 : sgOK mi_X6_ifWritten gm_X6_ifWritten sg_X6_ifWritten_33 = true := by decide +kernel
def sg_X6_ifWritten_35 : List Ins := [(35, .iload_n 2, 0, 0, 0, 0), (36, .bipush 12, 12, 0, 0, 0), (38, .imul, 0, 0, 0, 0), (39, .iload_n 3, 0, 0, 0, 0), (40, .iadd, 0, 0, 0, 0), (41, .istore 6, 0, 0, 0, 0), (43, .iload 4, 0, 0, 0, 0), (45, .tableswitch 78 0 2 #[27, 44, 61], 27, 0, 0, 0)]
theorem so_X6_ifWritten_35 : sgOK mi_X6_ifWritten gm_X6_ifWritten sg_X6_ifWritten_35 = true := by decide +kernel
def sg_X6_ifWritten_72 : List Ins := [(72, .aload_n 0, 0, 0, 0, 0), (73, .getfield 41, 6, 5, 201, 0), (76, .aload_n 0, 0, 0, 0, 0), (77, .getfield 12, 6, 0, 196, 0), (80, .aload 5, 0, 0, 0, 0), (82, .iload_n 1, 0, 0, 0, 0), (83, .iload 6, 0, 0, 0, 0), (85, .invokevirtual 198, 542, 3, 15, 5), (88, .ireturn, 0, 0, 0, 0)]
theorem so_X6_ifWritten_72 : sgOK mi_X6_ifWritten gm_X6_ifWritten sg_X6_ifWritten_72 = true := by decide +kernel
def sg_X6_ifWritten_89 : List Ins := [(89, .aload_n 0, 0, 0, 0, 0), (90, .getfield 41, 6, 5, 201, 0), (93, .aload_n 0, 0, 0, 0, 0), (94, .getfield 12, 6, 0, 196, 0), (97, .aload 5, 0, 0, 0, 0), (99, .iload_n 1, 0, 0, 0, 0), (100, .iload 6, 0, 0, 0, 0), (102, .invokevirtual 202, 547, 4, 15, 5), (105, .ireturn, 0, 0, 0, 0)]
theorem so_X6_ifWritten_89 : sgOK mi_X6_ifWritten gm_X6_ifWritten sg_X6_ifWritten_89 = true := by decide +kernel
def sg_X6_ifWritten_106 : List Ins := [(106, .aload_n 0, 0, 0, 0, 0), (107, .getfield 41, 6, 5, 201, 0), (110, .aload_n 0, 0, 0, 0, 0), (111, .getfield 12, 6, 0, 196, 0), (114, .aload 5, 0, 0, 0, 0), (116, .iload_n 1, 0, 0, 0, 0), (117, .iload 6, 0, 0, 0, 0), (119, .invokevirtual 205, 551, 5, 15, 5), (122, .ireturn, 0, 0, 0, 0)]
theorem so_X6_ifWritten_106 : sgOK mi_X6_ifWritten gm_X6_ifWritten sg_X6_ifWritten_106 = true := by decide +kernel
def sg_X6_ifWritten_123 : List Ins := [(123, .bipush (-2), 2, 1, 0, 0), (125, .ireturn, 0, 0, 0, 0)]
theorem so_X6_ifWritten_123 : sgOK mi_X6_ifWritten gm_X6_ifWritten sg_X6_ifWritten_123 = true := by decide +kernel
def sgs_X6_ifWritten : Nat → Option (List Ins) := fun t => match t with
  | 0 => some sg_X6_ifWritten_0
  | 33 => some sg_X6_ifWritten_33
  | 35 => some sg_X6_ifWritten_35
  | 72 => some sg_X6_ifWritten_72
  | 89 => some sg_X6_ifWritten_89
  | 106 => some sg_X6_ifWritten_106
  | 123 => some sg_X6_ifWritten_123
  | _ => none
theorem so_X6_ifWritten : ∀ t sg, sgs_X6_ifWritten t = some sg → sgOK mi_X6_ifWritten gm_X6_ifWritten sg = true ∧ segPc sg = t := by
  intro t sg h
  unfold sgs_X6_ifWritten at h
  split at h
  · cases h; exact ⟨so_X6_ifWritten_0, rfl⟩
  · cases h; exact ⟨so_X6_ifWritten_33, rfl⟩
  · cases h; exact ⟨so_X6_ifWritten_35, rfl⟩
  · cases h; exact ⟨so_X6_ifWritten_72, rfl⟩
  · cases h; exact ⟨so_X6_ifWritten_89, rfl⟩
  · cases h; exact ⟨so_X6_ifWritten_106, rfl⟩
  · cases h; exact ⟨so_X6_ifWritten_123, rfl⟩
  · cases h
def gm_X6_bestPlace : List MI := [mi_X0_glassOnDesk, mi_X5_brightestOf]
def sg_X6_bestPlace_0 : List Ins := [(0, .aload_n 0, 0, 0, 0, 0), (1, .getfield 12, 6, 0, 196, 0), (4, .invokevirtual 84, 483, 0, 10, 1), (7, .astore_n 1, 0, 0, 0, 0), (8, .aload_n 1, 0, 0, 0, 0), (9, .ifnonnull 7, 0, 0, 16, 0), (12, .iconst (-1), 1, 1, 0, 0), (13, .goto 15, 0, 0, 28, 0)]
theorem so_X6_bestPlace_0 : sgOK mi_X6_bestPlace gm_X6_bestPlace sg_X6_bestPlace_0 = true := by decide +kernel
def sg_X6_bestPlace_16 : List Ins := [(16, .aload_n 0, 0, 0, 0, 0), (17, .getfield 41, 6, 5, 201, 0), (20, .aload_n 0, 0, 0, 0, 0), (21, .getfield 12, 6, 0, 196, 0), (24, .aload_n 1, 0, 0, 0, 0), (25, .invokevirtual 208, 504, 1, 15, 3), (28, .ireturn, 0, 0, 0, 0)]
theorem so_X6_bestPlace_16 : sgOK mi_X6_bestPlace gm_X6_bestPlace sg_X6_bestPlace_16 = true := by decide +kernel
def sg_X6_bestPlace_28 : List Ins := [(28, .ireturn, 0, 0, 0, 0)]
theorem so_X6_bestPlace_28 : sgOK mi_X6_bestPlace gm_X6_bestPlace sg_X6_bestPlace_28 = true := by decide +kernel
def sgs_X6_bestPlace : Nat → Option (List Ins) := fun t => match t with
  | 0 => some sg_X6_bestPlace_0
  | 16 => some sg_X6_bestPlace_16
  | 28 => some sg_X6_bestPlace_28
  | _ => none
theorem so_X6_bestPlace : ∀ t sg, sgs_X6_bestPlace t = some sg → sgOK mi_X6_bestPlace gm_X6_bestPlace sg = true ∧ segPc sg = t := by
  intro t sg h
  unfold sgs_X6_bestPlace at h
  split at h
  · cases h; exact ⟨so_X6_bestPlace_0, rfl⟩
  · cases h; exact ⟨so_X6_bestPlace_16, rfl⟩
  · cases h; exact ⟨so_X6_bestPlace_28, rfl⟩
  · cases h
def gm_X6_fills : List MI := [mi_X0_glassOnDesk, mi_X0_isWriter, mi_X5_lettersUntilFull]
def sg_X6_fills_0 : List Ins := [(0, .aload_n 0, 0, 0, 0, 0), (1, .getfield 12, 6, 0, 196, 0), (4, .invokevirtual 84, 483, 0, 10, 1), (7, .astore_n 2, 0, 0, 0, 0), (8, .aload_n 0, 0, 0, 0, 0), (9, .getfield 12, 6, 0, 196, 0), (12, .iload_n 1, 0, 0, 0, 0), (13, .invokevirtual 130, 470, 1, 10, 2), (16, .ifCond .eq 7, 0, 0, 23, 0), (19, .aload_n 2, 0, 0, 0, 0), (20, .ifnonnull 7, 0, 0, 27, 0), (23, .iconst (-1), 1, 1, 0, 0), (24, .goto 16, 0, 0, 40, 0)]
theorem so_X6_fills_0 : sgOK mi_X6_fills gm_X6_fills sg_X6_fills_0 = true := by decide +kernel
def sg_X6_fills_23 : List Ins := [(23, .iconst (-1), 1, 1, 0, 0), (24, .goto 16, 0, 0, 40, 0)]
theorem so_X6_fills_23 : sgOK mi_X6_fills gm_X6_fills sg_X6_fills_23 = true := by decide +kernel
def sg_X6_fills_27 : List Ins := [(27, .aload_n 0, 0, 0, 0, 0), (28, .getfield 41, 6, 5, 201, 0), (31, .aload_n 0, 0, 0, 0, 0), (32, .getfield 12, 6, 0, 196, 0), (35, .aload_n 2, 0, 0, 0, 0), (36, .iload_n 1, 0, 0, 0, 0), (37, .invokevirtual 212, 563, 2, 15, 4), (40, .ireturn, 0, 0, 0, 0)]
theorem so_X6_fills_27 : sgOK mi_X6_fills gm_X6_fills sg_X6_fills_27 = true := by decide +kernel
def sg_X6_fills_40 : List Ins := [(40, .ireturn, 0, 0, 0, 0)]
theorem so_X6_fills_40 : sgOK mi_X6_fills gm_X6_fills sg_X6_fills_40 = true := by decide +kernel
def sgs_X6_fills : Nat → Option (List Ins) := fun t => match t with
  | 0 => some sg_X6_fills_0
  | 23 => some sg_X6_fills_23
  | 27 => some sg_X6_fills_27
  | 40 => some sg_X6_fills_40
  | _ => none
theorem so_X6_fills : ∀ t sg, sgs_X6_fills t = some sg → sgOK mi_X6_fills gm_X6_fills sg = true ∧ segPc sg = t := by
  intro t sg h
  unfold sgs_X6_fills at h
  split at h
  · cases h; exact ⟨so_X6_fills_0, rfl⟩
  · cases h; exact ⟨so_X6_fills_23, rfl⟩
  · cases h; exact ⟨so_X6_fills_27, rfl⟩
  · cases h; exact ⟨so_X6_fills_40, rfl⟩
  · cases h
def gm_X6_readableIn : List MI := [mi_X0_isPlate, mi_X0_hoursUntilReadable]
def sg_X6_readableIn_0 : List Ins := [(0, .aload_n 0, 0, 0, 0, 0), (1, .getfield 12, 6, 0, 196, 0), (4, .iload_n 1, 0, 0, 0, 0), (5, .invokevirtual 146, 432, 0, 10, 2), (8, .ifCond .eq 22, 0, 0, 30, 0), (11, .aload_n 0, 0, 0, 0, 0), (12, .getfield 12, 6, 0, 196, 0), (15, .aload_n 0, 0, 0, 0, 0), (16, .getfield 12, 6, 0, 196, 0), (19, .getfield 149, 0, 4, 73, 0), (22, .iload_n 1, 0, 0, 0, 0), (23, .aaload, 13, 0, 0, 0), (24, .invokevirtual 220, 458, 1, 10, 2), (27, .goto 4, 0, 0, 31, 0)]
theorem so_X6_readableIn_0 : sgOK mi_X6_readableIn gm_X6_readableIn sg_X6_readableIn_0 = true := by decide +kernel
def sg_X6_readableIn_30 : List Ins := [(30, .iconst (-1), 1, 1, 0, 0), (31, .ireturn, 0, 0, 0, 0)]
theorem so_X6_readableIn_30 : sgOK mi_X6_readableIn gm_X6_readableIn sg_X6_readableIn_30 = true := by decide +kernel
def sg_X6_readableIn_31 : List Ins := [(31, .ireturn, 0, 0, 0, 0)]
theorem so_X6_readableIn_31 : sgOK mi_X6_readableIn gm_X6_readableIn sg_X6_readableIn_31 = true := by decide +kernel
def sgs_X6_readableIn : Nat → Option (List Ins) := fun t => match t with
  | 0 => some sg_X6_readableIn_0
  | 30 => some sg_X6_readableIn_30
  | 31 => some sg_X6_readableIn_31
  | _ => none
theorem so_X6_readableIn : ∀ t sg, sgs_X6_readableIn t = some sg → sgOK mi_X6_readableIn gm_X6_readableIn sg = true ∧ segPc sg = t := by
  intro t sg h
  unfold sgs_X6_readableIn at h
  split at h
  · cases h; exact ⟨so_X6_readableIn_0, rfl⟩
  · cases h; exact ⟨so_X6_readableIn_30, rfl⟩
  · cases h; exact ⟨so_X6_readableIn_31, rfl⟩
  · cases h
def gm_X6_undo : List MI := [mi_X2_takeBackInto]
def sg_X6_undo_0 : List Ins := [(0, .aload_n 0, 0, 0, 0, 0), (1, .getfield 19, 6, 1, 197, 0), (4, .aload_n 0, 0, 0, 0, 0), (5, .getfield 12, 6, 0, 196, 0), (8, .invokevirtual 240, 272, 0, 12, 2), (11, .ireturn, 0, 0, 0, 0)]
theorem so_X6_undo_0 : sgOK mi_X6_undo gm_X6_undo sg_X6_undo_0 = true := by decide +kernel
def sgs_X6_undo : Nat → Option (List Ins) := fun t => match t with
  | 0 => some sg_X6_undo_0
  | _ => none
theorem so_X6_undo : ∀ t sg, sgs_X6_undo t = some sg → sgOK mi_X6_undo gm_X6_undo sg = true ∧ segPc sg = t := by
  intro t sg h
  unfold sgs_X6_undo at h
  split at h
  · cases h; exact ⟨so_X6_undo_0, rfl⟩
  · cases h
def gm_X6_save : List MI := [mi_X0_copyFrom]
def sg_X6_save_0 : List Ins := [(0, .iload_n 1, 0, 0, 0, 0), (1, .ifCond .lt 8, 0, 0, 9, 0), (4, .iload_n 1, 0, 0, 0, 0), (5, .iconst 2, 2, 0, 0, 0), (6, .if_icmp .lt 6, 0, 0, 12, 0), (9, .bipush (-2), 2, 1, 0, 0), (11, .ireturn, 0, 0, 0, 0)]
theorem so_X6_save_0 : sgOK mi_X6_save gm_X6_save sg_X6_save_0 = true := by decide +kernel
def sg_X6_save_9 : List Ins := [(9, .bipush (-2), 2, 1, 0, 0), (11, .ireturn, 0, 0, 0, 0)]
theorem so_X6_save_9 : sgOK mi_X6_save gm_X6_save sg_X6_save_9 = true := by decide +kernel
def sg_X6_save_12 : List Ins := [(12, .aload_n 0, 0, 0, 0, 0), (13, .getfield 23, 6, 2, 198, 0), (16, .iload_n 1, 0, 0, 0, 0), (17, .aaload, 12, 0, 0, 0), (18, .aload_n 0, 0, 0, 0, 0), (19, .getfield 12, 6, 0, 196, 0), (22, .invokevirtual 244, 577, 0, 10, 2), (25, .aload_n 0, 0, 0, 0, 0), (26, .getfield 27, 6, 3, 199, 0), (29, .iload_n 1, 0, 0, 0, 0), (30, .iconst 1, 1, 0, 0, 0), (31, .bastore, 0, 0, 0, 0), (32, .aload_n 0, 0, 0, 0, 0), (33, .getfield 12, 6, 0, 196, 0), (36, .getfield 168, 0, 6, 77, 0), (39, .ireturn, 0, 0, 0, 0)]
theorem so_X6_save_12 : sgOK mi_X6_save gm_X6_save sg_X6_save_12 = true := by decide +kernel
def sgs_X6_save : Nat → Option (List Ins) := fun t => match t with
  | 0 => some sg_X6_save_0
  | 9 => some sg_X6_save_9
  | 12 => some sg_X6_save_12
  | _ => none
theorem so_X6_save : ∀ t sg, sgs_X6_save t = some sg → sgOK mi_X6_save gm_X6_save sg = true ∧ segPc sg = t := by
  intro t sg h
  unfold sgs_X6_save at h
  split at h
  · cases h; exact ⟨so_X6_save_0, rfl⟩
  · cases h; exact ⟨so_X6_save_9, rfl⟩
  · cases h; exact ⟨so_X6_save_12, rfl⟩
  · cases h
def gm_X6_restore : List MI := [mi_X2_prepare, mi_X0_copyFrom, mi_X2_keepUnlessError]
def sg_X6_restore_0 : List Ins := [(0, .iload_n 1, 0, 0, 0, 0), (1, .ifCond .lt 8, 0, 0, 9, 0), (4, .iload_n 1, 0, 0, 0, 0), (5, .iconst 2, 2, 0, 0, 0), (6, .if_icmp .lt 6, 0, 0, 12, 0), (9, .bipush (-2), 2, 1, 0, 0), (11, .ireturn, 0, 0, 0, 0)]
theorem so_X6_restore_0 : sgOK mi_X6_restore gm_X6_restore sg_X6_restore_0 = true := by decide +kernel
def sg_X6_restore_9 : List Ins := [(9, .bipush (-2), 2, 1, 0, 0), (11, .ireturn, 0, 0, 0, 0)]
theorem so_X6_restore_9 : sgOK mi_X6_restore gm_X6_restore sg_X6_restore_9 = true := by decide +kernel
def sg_X6_restore_12 : List Ins := [(12, .aload_n 0, 0, 0, 0, 0), (13, .getfield 27, 6, 3, 199, 0), (16, .iload_n 1, 0, 0, 0, 0), (17, .baload, 0, 0, 0, 0), (18, .ifCond .ne 6, 0, 0, 24, 0), (21, .bipush (-5), 5, 1, 0, 0), (23, .ireturn, 0, 0, 0, 0)]
theorem so_X6_restore_12 : sgOK mi_X6_restore gm_X6_restore sg_X6_restore_12 = true := by decide +kernel
def sg_X6_restore_24 : List Ins := [(24, .aload_n 0, 0, 0, 0, 0), (25, .getfield 19, 6, 1, 197, 0), (28, .aload_n 0, 0, 0, 0, 0), (29, .getfield 12, 6, 0, 196, 0), (32, .invokevirtual 45, 219, 0, 12, 2), (35, .aload_n 0, 0, 0, 0, 0), (36, .getfield 12, 6, 0, 196, 0), (39, .aload_n 0, 0, 0, 0, 0), (40, .getfield 23, 6, 2, 198, 0), (43, .iload_n 1, 0, 0, 0, 0), (44, .aaload, 12, 0, 0, 0), (45, .invokevirtual 244, 577, 1, 10, 2), (48, .aload_n 0, 0, 0, 0, 0), (49, .getfield 19, 6, 1, 197, 0), (52, .aload_n 0, 0, 0, 0, 0), (53, .getfield 12, 6, 0, 196, 0), (56, .getfield 168, 0, 6, 77, 0), (59, .invokevirtual 53, 249, 2, 12, 2), (62, .ireturn, 0, 0, 0, 0)]
theorem so_X6_restore_24 : sgOK mi_X6_restore gm_X6_restore sg_X6_restore_24 = true := by decide +kernel
def sgs_X6_restore : Nat → Option (List Ins) := fun t => match t with
  | 0 => some sg_X6_restore_0
  | 9 => some sg_X6_restore_9
  | 12 => some sg_X6_restore_12
  | 24 => some sg_X6_restore_24
  | _ => none
theorem so_X6_restore : ∀ t sg, sgs_X6_restore t = some sg → sgOK mi_X6_restore gm_X6_restore sg = true ∧ segPc sg = t := by
  intro t sg h
  unfold sgs_X6_restore at h
  split at h
  · cases h; exact ⟨so_X6_restore_0, rfl⟩
  · cases h; exact ⟨so_X6_restore_9, rfl⟩
  · cases h; exact ⟨so_X6_restore_12, rfl⟩
  · cases h; exact ⟨so_X6_restore_24, rfl⟩
  · cases h
