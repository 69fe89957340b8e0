/-! stretches of code (printed by wip/p30/gen/meth.py) -/
def gm_L_cell : List MI := []
def sg_L_cell_0 : List Ins := [(0, .iload_n 1, 0, 0, 0, 0), (1, .aload_n 0, 0, 0, 0, 0), (2, .arraylength, 16, 0, 0, 0), (3, .if_icmp .ge 9, 0, 0, 12, 0), (6, .aload_n 0, 0, 0, 0, 0), (7, .iload_n 1, 0, 0, 0, 0), (8, .iaload, 16, 0, 0, 0), (9, .goto 12, 0, 0, 21, 0)]
theorem so_L_cell_0 : sgOK mi_L_cell gm_L_cell sg_L_cell_0 = true := by decide +kernel
def sg_L_cell_12 : List Ins := [(12, .ldc 7, 903993257, 0, 279, 0), (14, .iload_n 1, 0, 0, 0, 0), (15, .iconst 1, 1, 0, 0, 0), (16, .iadd, 0, 0, 0, 0), (17, .imul, 0, 0, 0, 0), (18, .ldc 8, 351450819, 0, 280, 0), (20, .iadd, 0, 0, 0, 0), (21, .ireturn, 0, 0, 0, 0)]
theorem so_L_cell_12 : sgOK mi_L_cell gm_L_cell sg_L_cell_12 = true := by decide +kernel
def sg_L_cell_21 : List Ins := [(21, .ireturn, 0, 0, 0, 0)]
theorem so_L_cell_21 : sgOK mi_L_cell gm_L_cell sg_L_cell_21 = true := by decide +kernel
def sgs_L_cell : Nat → Option (List Ins) := fun t => match t with
  | 0 => some sg_L_cell_0
  | 12 => some sg_L_cell_12
  | 21 => some sg_L_cell_21
  | _ => none
theorem so_L_cell : ∀ t sg, sgs_L_cell t = some sg → sgOK mi_L_cell gm_L_cell sg = true ∧ segPc sg = t := by
  intro t sg h
  unfold sgs_L_cell at h
  split at h
  · cases h; exact ⟨so_L_cell_0, rfl⟩
  · cases h; exact ⟨so_L_cell_12, rfl⟩
  · cases h; exact ⟨so_L_cell_21, rfl⟩
  · cases h
def gm_L_low : List MI := []
def sg_L_low_0 : List Ins := [(0, .iload_n 0, 0, 0, 0, 0), (1, .ldc 9, 2147483647, 0, 284, 0), (3, .iand, 0, 0, 0, 0), (4, .iload_n 1, 0, 0, 0, 0), (5, .irem, 0, 0, 0, 0), (6, .ireturn, 0, 0, 0, 0)]
theorem so_L_low_0 : sgOK mi_L_low gm_L_low sg_L_low_0 = true := by decide +kernel
def sgs_L_low : Nat → Option (List Ins) := fun t => match t with
  | 0 => some sg_L_low_0
  | _ => none
theorem so_L_low : ∀ t sg, sgs_L_low t = some sg → sgOK mi_L_low gm_L_low sg = true ∧ segPc sg = t := by
  intro t sg h
  unfold sgs_L_low at h
  split at h
  · cases h; exact ⟨so_L_low_0, rfl⟩
  · cases h
def gm_L_act : List MI := [mi_L_low, mi_X6_plate, mi_X6_lay, mi_X6_set, mi_X6_write, mi_X6_promise, mi_X6_takeBack, mi_X6_rub, mi_X6_pass]
def sg_L_act_0 : List Ins := [(0, .iload_n 1, 0, 0, 0, 0), (1, .iconst 4, 4, 0, 0, 0), (2, .ishr, 0, 0, 0, 0), (3, .iload_n 1, 0, 0, 0, 0), (4, .bipush 9, 9, 0, 0, 0), (6, .ishr, 0, 0, 0, 0), (7, .iconst 3, 3, 0, 0, 0), (8, .invokestatic 10, 281, 0, 0, 2), (11, .ifCond .ne 8, 0, 0, 19, 0), (14, .bipush 10, 10, 0, 0, 0), (16, .goto 4, 0, 0, 20, 0)]
theorem so_L_act_0 : sgOK mi_L_act gm_L_act sg_L_act_0 = true := by decide +kernel
def sg_L_act_19 : List Ins := [(19, .iconst 4, 4, 0, 0, 0), (20, .invokestatic 10, 281, 0, 0, 2), (23, .istore_n 3, 0, 0, 0, 0), (24, .iload_n 1, 0, 0, 0, 0), (25, .bipush 6, 6, 0, 0, 0), (27, .ishr, 0, 0, 0, 0), (28, .iload_n 1, 0, 0, 0, 0), (29, .bipush 10, 10, 0, 0, 0), (31, .ishr, 0, 0, 0, 0), (32, .iconst 3, 3, 0, 0, 0), (33, .invokestatic 10, 281, 0, 0, 2), (36, .ifCond .ne 8, 0, 0, 44, 0), (39, .bipush 12, 12, 0, 0, 0), (41, .goto 5, 0, 0, 46, 0)]
theorem so_L_act_19 : sgOK mi_L_act gm_L_act sg_L_act_19 = true := by decide +kernel
def sg_L_act_20 : List Ins := [(20, .invokestatic 10, 281, 0, 0, 2), (23, .istore_n 3, 0, 0, 0, 0), (24, .iload_n 1, 0, 0, 0, 0), (25, .bipush 6, 6, 0, 0, 0), (27, .ishr, 0, 0, 0, 0), (28, .iload_n 1, 0, 0, 0, 0), (29, .bipush 10, 10, 0, 0, 0), (31, .ishr, 0, 0, 0, 0), (32, .iconst 3, 3, 0, 0, 0), (33, .invokestatic 10, 281, 0, 0, 2), (36, .ifCond .ne 8, 0, 0, 44, 0), (39, .bipush 12, 12, 0, 0, 0), (41, .goto 5, 0, 0, 46, 0)]
theorem so_L_act_20 : sgOK mi_L_act gm_L_act sg_L_act_20 = true := by decide +kernel
def sg_L_act_44 : List Ins := [(44, .bipush 6, 6, 0, 0, 0), (46, .invokestatic 10, 281, 0, 0, 2), (49, .istore 4, 0, 0, 0, 0), (51, .iload_n 2, 0, 0, 0, 0), (52, .iconst 3, 3, 0, 0, 0), (53, .invokestatic 10, 281, 0, 0, 2), (56, .istore 5, 0, 0, 0, 0), (58, .iload_n 1, 0, 0, 0, 0), (59, .bipush 11, 11, 0, 0, 0), (61, .invokestatic 10, 281, 0, 0, 2), (64, .nop, 0, 0, 0, 0)]
theorem so_L_act_44 : sgOK mi_L_act gm_L_act sg_L_act_44 = true := by decide +kernel
def sg_L_act_46 : List Ins := [(46, .invokestatic 10, 281, 0, 0, 2), (49, .istore 4, 0, 0, 0, 0), (51, .iload_n 2, 0, 0, 0, 0), (52, .iconst 3, 3, 0, 0, 0), (53, .invokestatic 10, 281, 0, 0, 2), (56, .istore 5, 0, 0, 0, 0), (58, .iload_n 1, 0, 0, 0, 0), (59, .bipush 11, 11, 0, 0, 0), (61, .invokestatic 10, 281, 0, 0, 2), (64, .nop, 0, 0, 0, 0)]
theorem so_L_act_46 : sgOK mi_L_act gm_L_act sg_L_act_46 = true := by decide +kernel
def sg_L_act_64 : List Ins := [(64, .tableswitch 201 0 9 #[56, 83, 157, 157, 157, 157, 175, 175, 185, 193], 56, 0, 0, 0)]
theorem so_L_act_64 : sgOK mi_L_act gm_L_act sg_L_act_64 = true := by decide +kernel
def sg_L_act_120 : List Ins := [(120, .iload_n 2, 0, 0, 0, 0), (121, .iconst 3, 3, 0, 0, 0), (122, .invokestatic 10, 281, 0, 0, 2), (125, .ifCond .ne 10, 0, 0, 135, 0), (128, .aload_n 0, 0, 0, 0, 0), (129, .invokevirtual 16, 215, 1, 16, 1), (132, .goto 14, 0, 0, 146, 0)]
theorem so_L_act_120 : sgOK mi_L_act gm_L_act sg_L_act_120 = true := by decide +kernel
def sg_L_act_135 : List Ins := [(135, .aload_n 0, 0, 0, 0, 0), (136, .iload_n 2, 0, 0, 0, 0), (137, .iconst 2, 2, 0, 0, 0), (138, .ishr, 0, 0, 0, 0), (139, .iconst 3, 3, 0, 0, 0), (140, .invokestatic 10, 281, 0, 0, 2), (143, .invokevirtual 22, 288, 2, 16, 2), (146, .ireturn, 0, 0, 0, 0)]
theorem so_L_act_135 : sgOK mi_L_act gm_L_act sg_L_act_135 = true := by decide +kernel
def sg_L_act_146 : List Ins := [(146, .ireturn, 0, 0, 0, 0)]
theorem so_L_act_146 : sgOK mi_L_act gm_L_act sg_L_act_146 = true := by decide +kernel
def sg_L_act_147 : List Ins := [(147, .iload_n 2, 0, 0, 0, 0), (148, .iconst 4, 4, 0, 0, 0), (149, .invokestatic 10, 281, 0, 0, 2), (152, .istore 6, 0, 0, 0, 0), (154, .aload_n 0, 0, 0, 0, 0), (155, .iload 6, 0, 0, 0, 0), (157, .iload 6, 0, 0, 0, 0), (159, .ifCond .ne 14, 0, 0, 173, 0), (162, .iload_n 2, 0, 0, 0, 0), (163, .iconst 2, 2, 0, 0, 0), (164, .ishr, 0, 0, 0, 0), (165, .bipush 19, 19, 0, 0, 0), (167, .invokestatic 10, 281, 0, 0, 2), (170, .goto 47, 0, 0, 217, 0)]
theorem so_L_act_147 : sgOK mi_L_act gm_L_act sg_L_act_147 = true := by decide +kernel
def sg_L_act_173 : List Ins := [(173, .iload 6, 0, 0, 0, 0), (175, .iconst 1, 1, 0, 0, 0), (176, .if_icmp .ne 14, 0, 0, 190, 0), (179, .iload_n 2, 0, 0, 0, 0), (180, .iconst 2, 2, 0, 0, 0), (181, .ishr, 0, 0, 0, 0), (182, .bipush 10, 10, 0, 0, 0), (184, .invokestatic 10, 281, 0, 0, 2), (187, .goto 30, 0, 0, 217, 0)]
theorem so_L_act_173 : sgOK mi_L_act gm_L_act sg_L_act_173 = true := by decide +kernel
def sg_L_act_190 : List Ins := [(190, .iload 6, 0, 0, 0, 0), (192, .iconst 2, 2, 0, 0, 0), (193, .if_icmp .ne 16, 0, 0, 209, 0), (196, .iconst 1, 1, 0, 0, 0), (197, .iload_n 2, 0, 0, 0, 0), (198, .iconst 2, 2, 0, 0, 0), (199, .ishr, 0, 0, 0, 0), (200, .bipush 99, 99, 0, 0, 0), (202, .invokestatic 10, 281, 0, 0, 2), (205, .iadd, 0, 0, 0, 0), (206, .goto 11, 0, 0, 217, 0)]
theorem so_L_act_190 : sgOK mi_L_act gm_L_act sg_L_act_190 = true := by decide +kernel
def sg_L_act_209 : List Ins := [(209, .iload_n 2, 0, 0, 0, 0), (210, .iconst 2, 2, 0, 0, 0), (211, .ishr, 0, 0, 0, 0), (212, .bipush 51, 51, 0, 0, 0), (214, .invokestatic 10, 281, 0, 0, 2), (217, .invokevirtual 26, 300, 3, 16, 3), (220, .ireturn, 0, 0, 0, 0)]
theorem so_L_act_209 : sgOK mi_L_act gm_L_act sg_L_act_209 = true := by decide +kernel
def sg_L_act_217 : List Ins := [(217, .invokevirtual 26, 300, 3, 16, 3), (220, .ireturn, 0, 0, 0, 0)]
theorem so_L_act_217 : sgOK mi_L_act gm_L_act sg_L_act_217 = true := by decide +kernel
def sg_L_act_221 : List Ins := [(221, .aload_n 0, 0, 0, 0, 0), (222, .iload 5, 0, 0, 0, 0), (224, .iload_n 3, 0, 0, 0, 0), (225, .iload 4, 0, 0, 0, 0), (227, .iload_n 2, 0, 0, 0, 0), (228, .iconst 2, 2, 0, 0, 0), (229, .ishr, 0, 0, 0, 0), (230, .bipush 26, 26, 0, 0, 0), (232, .invokestatic 10, 281, 0, 0, 2), (235, .invokevirtual 29, 312, 4, 16, 5), (238, .ireturn, 0, 0, 0, 0)]
theorem so_L_act_221 : sgOK mi_L_act gm_L_act sg_L_act_221 = true := by decide +kernel
def sg_L_act_239 : List Ins := [(239, .aload_n 0, 0, 0, 0, 0), (240, .iload 5, 0, 0, 0, 0), (242, .iload_n 3, 0, 0, 0, 0), (243, .iload 4, 0, 0, 0, 0), (245, .invokevirtual 33, 365, 5, 16, 4), (248, .ireturn, 0, 0, 0, 0)]
theorem so_L_act_239 : sgOK mi_L_act gm_L_act sg_L_act_239 = true := by decide +kernel
def sg_L_act_249 : List Ins := [(249, .aload_n 0, 0, 0, 0, 0), (250, .iload_n 3, 0, 0, 0, 0), (251, .iload 4, 0, 0, 0, 0), (253, .invokevirtual 37, 389, 6, 16, 3), (256, .ireturn, 0, 0, 0, 0)]
theorem so_L_act_249 : sgOK mi_L_act gm_L_act sg_L_act_249 = true := by decide +kernel
def sg_L_act_257 : List Ins := [(257, .aload_n 0, 0, 0, 0, 0), (258, .iload_n 3, 0, 0, 0, 0), (259, .iload 4, 0, 0, 0, 0), (261, .invokevirtual 40, 397, 7, 16, 3), (264, .ireturn, 0, 0, 0, 0)]
theorem so_L_act_257 : sgOK mi_L_act gm_L_act sg_L_act_257 = true := by decide +kernel
def sg_L_act_265 : List Ins := [(265, .aload_n 0, 0, 0, 0, 0), (266, .iconst 1, 1, 0, 0, 0), (267, .iload_n 2, 0, 0, 0, 0), (268, .iload_n 2, 0, 0, 0, 0), (269, .iconst 4, 4, 0, 0, 0), (270, .ishr, 0, 0, 0, 0), (271, .iconst 3, 3, 0, 0, 0), (272, .invokestatic 10, 281, 0, 0, 2), (275, .ifCond .ne 8, 0, 0, 283, 0), (278, .bipush 48, 48, 0, 0, 0), (280, .goto 5, 0, 0, 285, 0)]
theorem so_L_act_265 : sgOK mi_L_act gm_L_act sg_L_act_265 = true := by decide +kernel
def sg_L_act_283 : List Ins := [(283, .bipush 6, 6, 0, 0, 0), (285, .invokestatic 10, 281, 0, 0, 2), (288, .iadd, 0, 0, 0, 0), (289, .invokevirtual 43, 405, 8, 16, 2), (292, .ireturn, 0, 0, 0, 0)]
theorem so_L_act_283 : sgOK mi_L_act gm_L_act sg_L_act_283 = true := by decide +kernel
def sg_L_act_285 : List Ins := [(285, .invokestatic 10, 281, 0, 0, 2), (288, .iadd, 0, 0, 0, 0), (289, .invokevirtual 43, 405, 8, 16, 2), (292, .ireturn, 0, 0, 0, 0)]
theorem so_L_act_285 : sgOK mi_L_act gm_L_act sg_L_act_285 = true := by decide +kernel
def sgs_L_act : Nat → Option (List Ins) := fun t => match t with
  | 0 => some sg_L_act_0
  | 19 => some sg_L_act_19
  | 20 => some sg_L_act_20
  | 44 => some sg_L_act_44
  | 46 => some sg_L_act_46
  | 120 => some sg_L_act_120
  | 135 => some sg_L_act_135
  | 146 => some sg_L_act_146
  | 147 => some sg_L_act_147
  | 173 => some sg_L_act_173
  | 190 => some sg_L_act_190
  | 209 => some sg_L_act_209
  | 217 => some sg_L_act_217
  | 221 => some sg_L_act_221
  | 239 => some sg_L_act_239
  | 249 => some sg_L_act_249
  | 257 => some sg_L_act_257
  | 265 => some sg_L_act_265
  | 283 => some sg_L_act_283
  | 285 => some sg_L_act_285
  | _ => none
theorem so_L_act : ∀ t sg, sgs_L_act t = some sg → sgOK mi_L_act gm_L_act sg = true ∧ segPc sg = t := by
  intro t sg h
  unfold sgs_L_act at h
  split at h
  · cases h; exact ⟨so_L_act_0, rfl⟩
  · cases h; exact ⟨so_L_act_19, rfl⟩
  · cases h; exact ⟨so_L_act_20, rfl⟩
  · cases h; exact ⟨so_L_act_44, rfl⟩
  · cases h; exact ⟨so_L_act_46, rfl⟩
  · cases h; exact ⟨so_L_act_120, rfl⟩
  · cases h; exact ⟨so_L_act_135, rfl⟩
  · cases h; exact ⟨so_L_act_146, rfl⟩
  · cases h; exact ⟨so_L_act_147, rfl⟩
  · cases h; exact ⟨so_L_act_173, rfl⟩
  · cases h; exact ⟨so_L_act_190, rfl⟩
  · cases h; exact ⟨so_L_act_209, rfl⟩
  · cases h; exact ⟨so_L_act_217, rfl⟩
  · cases h; exact ⟨so_L_act_221, rfl⟩
  · cases h; exact ⟨so_L_act_239, rfl⟩
  · cases h; exact ⟨so_L_act_249, rfl⟩
  · cases h; exact ⟨so_L_act_257, rfl⟩
  · cases h; exact ⟨so_L_act_265, rfl⟩
  · cases h; exact ⟨so_L_act_283, rfl⟩
  · cases h; exact ⟨so_L_act_285, rfl⟩
  · cases h
def gm_L_places : List MI := [mi_X6_count, mi_X6_at, mi_X6_row, mi_X6_ofPlate, mi_X6_bestPlace]
def sg_L_places_0 : List Ins := [(0, .aload_n 0, 0, 0, 0, 0), (1, .iconst 2, 2, 0, 0, 0), (2, .invokevirtual 46, 264, 0, 16, 2), (5, .istore_n 1, 0, 0, 0, 0), (6, .ldc 49, 1065353216, 0, 478, 0), (8, .istore_n 2, 0, 0, 0, 0), (9, .bipush (-6), 6, 1, 0, 0), (11, .istore_n 3, 0, 0, 0, 0), (12, .iconst 0, 0, 0, 0, 0), (13, .istore 4, 0, 0, 0, 0), (15, .iconst 0, 0, 0, 0, 0), (16, .istore 5, 0, 0, 0, 0), (18, .iconst 0, 0, 0, 0, 0), (19, .istore 6, 0, 0, 0, 0), (21, .iconst 0, 0, 0, 0, 0), (22, .istore 7, 0, 0, 0, 0), (24, .iconst 0, 0, 0, 0, 0), (25, .istore 8, 0, 0, 0, 0), (27, .iconst 0, 0, 0, 0, 0), (28, .istore 9, 0, 0, 0, 0), (30, .nop, 0, 0, 0, 0)]
theorem so_L_places_0 : sgOK mi_L_places gm_L_places sg_L_places_0 = true := by decide +kernel
def sg_L_places_30 : List Ins := [(30, .iload 9, 0, 0, 0, 0), (32, .bipush 120, 120, 0, 0, 0), (34, .if_icmp .ge 428, 0, 0, 462, 0), (37, .iload 9, 0, 0, 0, 0), (39, .bipush 12, 12, 0, 0, 0), (41, .idiv, 0, 0, 0, 0), (42, .istore 10, 0, 0, 0, 0), (44, .iload 9, 0, 0, 0, 0), (46, .bipush 12, 12, 0, 0, 0), (48, .irem, 0, 0, 0, 0), (49, .istore 11, 0, 0, 0, 0), (51, .aload_n 0, 0, 0, 0, 0), (52, .iload 10, 0, 0, 0, 0), (54, .iload 11, 0, 0, 0, 0), (56, .iconst 3, 3, 0, 0, 0), (57, .invokevirtual 50, 479, 1, 16, 4), (60, .istore 12, 0, 0, 0, 0), (62, .aload_n 0, 0, 0, 0, 0), (63, .iload 10, 0, 0, 0, 0), (65, .iload 11, 0, 0, 0, 0), (67, .iconst 4, 4, 0, 0, 0), (68, .invokevirtual 50, 479, 1, 16, 4), (71, .istore 13, 0, 0, 0, 0), (73, .aload_n 0, 0, 0, 0, 0), (74, .iload 10, 0, 0, 0, 0), (76, .iload 11, 0, 0, 0, 0), (78, .iconst 0, 0, 0, 0, 0), (79, .invokevirtual 50, 479, 1, 16, 4), (82, .bipush (-6), 6, 1, 0, 0), (84, .if_icmp .eq 7, 0, 0, 91, 0), (87, .iconst 1, 1, 0, 0, 0), (88, .goto 4, 0, 0, 92, 0)]
theorem so_L_places_30 : sgOK mi_L_places gm_L_places sg_L_places_30 = true := by decide +kernel
def sg_L_places_91 : List Ins := [(91, .iconst 0, 0, 0, 0, 0), (92, .istore 14, 0, 0, 0, 0), (94, .aload_n 0, 0, 0, 0, 0), (95, .iload 10, 0, 0, 0, 0), (97, .iload 11, 0, 0, 0, 0), (99, .iconst 2, 2, 0, 0, 0), (100, .invokevirtual 50, 479, 1, 16, 4), (103, .bipush (-6), 6, 1, 0, 0), (105, .if_icmp .eq 7, 0, 0, 112, 0), (108, .iconst 1, 1, 0, 0, 0), (109, .goto 4, 0, 0, 113, 0)]
theorem so_L_places_91 : sgOK mi_L_places gm_L_places sg_L_places_91 = true := by decide +kernel
def sg_L_places_92 : List Ins := [(92, .istore 14, 0, 0, 0, 0), (94, .aload_n 0, 0, 0, 0, 0), (95, .iload 10, 0, 0, 0, 0), (97, .iload 11, 0, 0, 0, 0), (99, .iconst 2, 2, 0, 0, 0), (100, .invokevirtual 50, 479, 1, 16, 4), (103, .bipush (-6), 6, 1, 0, 0), (105, .if_icmp .eq 7, 0, 0, 112, 0), (108, .iconst 1, 1, 0, 0, 0), (109, .goto 4, 0, 0, 113, 0)]
theorem so_L_places_92 : sgOK mi_L_places gm_L_places sg_L_places_92 = true := by decide +kernel
def sg_L_places_112 : List Ins := [(112, .iconst 0, 0, 0, 0, 0), (113, .istore 15, 0, 0, 0, 0), (115, .aload_n 0, 0, 0, 0, 0), (116, .iload 10, 0, 0, 0, 0), (118, .iload 11, 0, 0, 0, 0), (120, .iconst 5, 5, 0, 0, 0), (121, .invokevirtual 50, 479, 1, 16, 4), (124, .iconst 1, 1, 0, 0, 0), (125, .if_icmp .ne 7, 0, 0, 132, 0), (128, .iconst 1, 1, 0, 0, 0), (129, .goto 4, 0, 0, 133, 0)]
theorem so_L_places_112 : sgOK mi_L_places gm_L_places sg_L_places_112 = true := by decide +kernel
def sg_L_places_113 : List Ins := [(113, .istore 15, 0, 0, 0, 0), (115, .aload_n 0, 0, 0, 0, 0), (116, .iload 10, 0, 0, 0, 0), (118, .iload 11, 0, 0, 0, 0), (120, .iconst 5, 5, 0, 0, 0), (121, .invokevirtual 50, 479, 1, 16, 4), (124, .iconst 1, 1, 0, 0, 0), (125, .if_icmp .ne 7, 0, 0, 132, 0), (128, .iconst 1, 1, 0, 0, 0), (129, .goto 4, 0, 0, 133, 0)]
theorem so_L_places_113 : sgOK mi_L_places gm_L_places sg_L_places_113 = true := by decide +kernel
def sg_L_places_132 : List Ins := [(132, .iconst 0, 0, 0, 0, 0), (133, .istore 16, 0, 0, 0, 0), (135, .aload_n 0, 0, 0, 0, 0), (136, .iload 10, 0, 0, 0, 0), (138, .iload 11, 0, 0, 0, 0), (140, .bipush 6, 6, 0, 0, 0), (142, .invokevirtual 50, 479, 1, 16, 4), (145, .iconst 1, 1, 0, 0, 0), (146, .if_icmp .ne 7, 0, 0, 153, 0), (149, .iconst 1, 1, 0, 0, 0), (150, .goto 4, 0, 0, 154, 0)]
theorem so_L_places_132 : sgOK mi_L_places gm_L_places sg_L_places_132 = true := by decide +kernel
def sg_L_places_133 : List Ins := [(133, .istore 16, 0, 0, 0, 0), (135, .aload_n 0, 0, 0, 0, 0), (136, .iload 10, 0, 0, 0, 0), (138, .iload 11, 0, 0, 0, 0), (140, .bipush 6, 6, 0, 0, 0), (142, .invokevirtual 50, 479, 1, 16, 4), (145, .iconst 1, 1, 0, 0, 0), (146, .if_icmp .ne 7, 0, 0, 153, 0), (149, .iconst 1, 1, 0, 0, 0), (150, .goto 4, 0, 0, 154, 0)]
theorem so_L_places_133 : sgOK mi_L_places gm_L_places sg_L_places_133 = true := by decide +kernel
def sg_L_places_153 : List Ins := [(153, .iconst 0, 0, 0, 0, 0), (154, .istore 17, 0, 0, 0, 0), (156, .iload 12, 0, 0, 0, 0), (158, .iload_n 2, 0, 0, 0, 0), (159, .if_icmp .ge 8, 0, 0, 167, 0), (162, .iload 12, 0, 0, 0, 0), (164, .goto 4, 0, 0, 168, 0)]
theorem so_L_places_153 : sgOK mi_L_places gm_L_places sg_L_places_153 = true := by decide +kernel
def sg_L_places_154 : List Ins := [(154, .istore 17, 0, 0, 0, 0), (156, .iload 12, 0, 0, 0, 0), (158, .iload_n 2, 0, 0, 0, 0), (159, .if_icmp .ge 8, 0, 0, 167, 0), (162, .iload 12, 0, 0, 0, 0), (164, .goto 4, 0, 0, 168, 0)]
theorem so_L_places_154 : sgOK mi_L_places gm_L_places sg_L_places_154 = true := by decide +kernel
def sg_L_places_167 : List Ins := [(167, .iload_n 2, 0, 0, 0, 0), (168, .istore_n 2, 0, 0, 0, 0), (169, .iload 16, 0, 0, 0, 0), (171, .ifCond .eq 15, 0, 0, 186, 0), (174, .iload 13, 0, 0, 0, 0), (176, .iload 4, 0, 0, 0, 0), (178, .if_icmp .le 8, 0, 0, 186, 0), (181, .iload 9, 0, 0, 0, 0), (183, .goto 4, 0, 0, 187, 0)]
theorem so_L_places_167 : sgOK mi_L_places gm_L_places sg_L_places_167 = true := by decide +kernel
def sg_L_places_168 : List Ins := [(168, .istore_n 2, 0, 0, 0, 0), (169, .iload 16, 0, 0, 0, 0), (171, .ifCond .eq 15, 0, 0, 186, 0), (174, .iload 13, 0, 0, 0, 0), (176, .iload 4, 0, 0, 0, 0), (178, .if_icmp .le 8, 0, 0, 186, 0), (181, .iload 9, 0, 0, 0, 0), (183, .goto 4, 0, 0, 187, 0)]
theorem so_L_places_168 : sgOK mi_L_places gm_L_places sg_L_places_168 = true := by decide +kernel
def sg_L_places_186 : List Ins := [(186, .iload_n 3, 0, 0, 0, 0), (187, .istore_n 3, 0, 0, 0, 0), (188, .iload 16, 0, 0, 0, 0), (190, .ifCond .eq 15, 0, 0, 205, 0), (193, .iload 13, 0, 0, 0, 0), (195, .iload 4, 0, 0, 0, 0), (197, .if_icmp .le 8, 0, 0, 205, 0), (200, .iload 13, 0, 0, 0, 0), (202, .goto 5, 0, 0, 207, 0)]
theorem so_L_places_186 : sgOK mi_L_places gm_L_places sg_L_places_186 = true := by decide +kernel
def sg_L_places_187 : List Ins := [(187, .istore_n 3, 0, 0, 0, 0), (188, .iload 16, 0, 0, 0, 0), (190, .ifCond .eq 15, 0, 0, 205, 0), (193, .iload 13, 0, 0, 0, 0), (195, .iload 4, 0, 0, 0, 0), (197, .if_icmp .le 8, 0, 0, 205, 0), (200, .iload 13, 0, 0, 0, 0), (202, .goto 5, 0, 0, 207, 0)]
theorem so_L_places_187 : sgOK mi_L_places gm_L_places sg_L_places_187 = true := by decide +kernel
def sg_L_places_205 : List Ins := [(205, .iload 4, 0, 0, 0, 0), (207, .istore 4, 0, 0, 0, 0), (209, .iload 5, 0, 0, 0, 0), (211, .iload 14, 0, 0, 0, 0), (213, .ifCond .eq 7, 0, 0, 220, 0), (216, .iconst 1, 1, 0, 0, 0), (217, .goto 4, 0, 0, 221, 0)]
theorem so_L_places_205 : sgOK mi_L_places gm_L_places sg_L_places_205 = true := by decide +kernel
def sg_L_places_207 : List Ins := [(207, .istore 4, 0, 0, 0, 0), (209, .iload 5, 0, 0, 0, 0), (211, .iload 14, 0, 0, 0, 0), (213, .ifCond .eq 7, 0, 0, 220, 0), (216, .iconst 1, 1, 0, 0, 0), (217, .goto 4, 0, 0, 221, 0)]
theorem so_L_places_207 : sgOK mi_L_places gm_L_places sg_L_places_207 = true := by decide +kernel
def sg_L_places_220 : List Ins := [(220, .iconst 0, 0, 0, 0, 0), (221, .iadd, 0, 0, 0, 0), (222, .istore 5, 0, 0, 0, 0), (224, .iload 6, 0, 0, 0, 0), (226, .iload 17, 0, 0, 0, 0), (228, .ifCond .eq 7, 0, 0, 235, 0), (231, .iconst 1, 1, 0, 0, 0), (232, .goto 4, 0, 0, 236, 0)]
theorem so_L_places_220 : sgOK mi_L_places gm_L_places sg_L_places_220 = true := by decide +kernel
def sg_L_places_221 : List Ins := [(221, .iadd, 0, 0, 0, 0), (222, .istore 5, 0, 0, 0, 0), (224, .iload 6, 0, 0, 0, 0), (226, .iload 17, 0, 0, 0, 0), (228, .ifCond .eq 7, 0, 0, 235, 0), (231, .iconst 1, 1, 0, 0, 0), (232, .goto 4, 0, 0, 236, 0)]
theorem so_L_places_221 : sgOK mi_L_places gm_L_places sg_L_places_221 = true := by decide +kernel
def sg_L_places_235 : List Ins := [(235, .iconst 0, 0, 0, 0, 0), (236, .iadd, 0, 0, 0, 0), (237, .istore 6, 0, 0, 0, 0), (239, .iload 7, 0, 0, 0, 0), (241, .iload 15, 0, 0, 0, 0), (243, .ifCond .eq 7, 0, 0, 250, 0), (246, .iconst 1, 1, 0, 0, 0), (247, .goto 4, 0, 0, 251, 0)]
theorem so_L_places_235 : sgOK mi_L_places gm_L_places sg_L_places_235 = true := by decide +kernel
def sg_L_places_236 : List Ins := [(236, .iadd, 0, 0, 0, 0), (237, .istore 6, 0, 0, 0, 0), (239, .iload 7, 0, 0, 0, 0), (241, .iload 15, 0, 0, 0, 0), (243, .ifCond .eq 7, 0, 0, 250, 0), (246, .iconst 1, 1, 0, 0, 0), (247, .goto 4, 0, 0, 251, 0)]
theorem so_L_places_236 : sgOK mi_L_places gm_L_places sg_L_places_236 = true := by decide +kernel
def sg_L_places_250 : List Ins := [(250, .iconst 0, 0, 0, 0, 0), (251, .iadd, 0, 0, 0, 0), (252, .istore 7, 0, 0, 0, 0), (254, .iload 8, 0, 0, 0, 0), (256, .iload 16, 0, 0, 0, 0), (258, .ifCond .eq 7, 0, 0, 265, 0), (261, .iconst 1, 1, 0, 0, 0), (262, .goto 4, 0, 0, 266, 0)]
theorem so_L_places_250 : sgOK mi_L_places gm_L_places sg_L_places_250 = true := by decide +kernel
def sg_L_places_251 : List Ins := [(251, .iadd, 0, 0, 0, 0), (252, .istore 7, 0, 0, 0, 0), (254, .iload 8, 0, 0, 0, 0), (256, .iload 16, 0, 0, 0, 0), (258, .ifCond .eq 7, 0, 0, 265, 0), (261, .iconst 1, 1, 0, 0, 0), (262, .goto 4, 0, 0, 266, 0)]
theorem so_L_places_251 : sgOK mi_L_places gm_L_places sg_L_places_251 = true := by decide +kernel
def sg_L_places_265 : List Ins := [(265, .iconst 0, 0, 0, 0, 0), (266, .iadd, 0, 0, 0, 0), (267, .istore 8, 0, 0, 0, 0), (269, .iload 12, 0, 0, 0, 0), (271, .ifCond .le 81, 0, 0, 352, 0), (274, .iload 12, 0, 0, 0, 0), (276, .ldc 49, 1065353216, 0, 478, 0), (278, .if_icmp .gt 74, 0, 0, 352, 0), (281, .iload 13, 0, 0, 0, 0), (283, .ifCond .le 69, 0, 0, 352, 0), (286, .iload 13, 0, 0, 0, 0), (288, .ldc 49, 1065353216, 0, 478, 0), (290, .if_icmp .gt 62, 0, 0, 352, 0), (293, .iload 14, 0, 0, 0, 0), (295, .aload_n 0, 0, 0, 0, 0), (296, .iload 10, 0, 0, 0, 0), (298, .iload 11, 0, 0, 0, 0), (300, .iconst 1, 1, 0, 0, 0), (301, .invokevirtual 50, 479, 1, 16, 4), (304, .bipush (-6), 6, 1, 0, 0), (306, .if_icmp .eq 7, 0, 0, 313, 0), (309, .iconst 1, 1, 0, 0, 0), (310, .goto 4, 0, 0, 314, 0)]
theorem so_L_places_265 : sgOK mi_L_places gm_L_places sg_L_places_265 = true := by decide +kernel
def sg_L_places_266 : List Ins := [(266, .iadd, 0, 0, 0, 0), (267, .istore 8, 0, 0, 0, 0), (269, .iload 12, 0, 0, 0, 0), (271, .ifCond .le 81, 0, 0, 352, 0), (274, .iload 12, 0, 0, 0, 0), (276, .ldc 49, 1065353216, 0, 478, 0), (278, .if_icmp .gt 74, 0, 0, 352, 0), (281, .iload 13, 0, 0, 0, 0), (283, .ifCond .le 69, 0, 0, 352, 0), (286, .iload 13, 0, 0, 0, 0), (288, .ldc 49, 1065353216, 0, 478, 0), (290, .if_icmp .gt 62, 0, 0, 352, 0), (293, .iload 14, 0, 0, 0, 0), (295, .aload_n 0, 0, 0, 0, 0), (296, .iload 10, 0, 0, 0, 0), (298, .iload 11, 0, 0, 0, 0), (300, .iconst 1, 1, 0, 0, 0), (301, .invokevirtual 50, 479, 1, 16, 4), (304, .bipush (-6), 6, 1, 0, 0), (306, .if_icmp .eq 7, 0, 0, 313, 0), (309, .iconst 1, 1, 0, 0, 0), (310, .goto 4, 0, 0, 314, 0)]
theorem so_L_places_266 : sgOK mi_L_places gm_L_places sg_L_places_266 = true := by decide +kernel
def sg_L_places_313 : List Ins := [(313, .iconst 0, 0, 0, 0, 0), (314, .if_icmp .ne 38, 0, 0, 352, 0), (317, .iload 14, 0, 0, 0, 0), (319, .ifCond .eq 13, 0, 0, 332, 0), (322, .iload 15, 0, 0, 0, 0), (324, .ifCond .ne 28, 0, 0, 352, 0), (327, .iload 16, 0, 0, 0, 0), (329, .ifCond .ne 23, 0, 0, 352, 0), (332, .iload 15, 0, 0, 0, 0), (334, .ifCond .eq 8, 0, 0, 342, 0), (337, .iload 16, 0, 0, 0, 0), (339, .ifCond .ne 13, 0, 0, 352, 0), (342, .iload 17, 0, 0, 0, 0), (344, .ifCond .eq 10, 0, 0, 354, 0), (347, .iload 14, 0, 0, 0, 0), (349, .ifCond .ne 5, 0, 0, 354, 0), (352, .iconst 0, 0, 0, 0, 0), (353, .ireturn, 0, 0, 0, 0)]
theorem so_L_places_313 : sgOK mi_L_places gm_L_places sg_L_places_313 = true := by decide +kernel
def sg_L_places_314 : List Ins := [(314, .if_icmp .ne 38, 0, 0, 352, 0), (317, .iload 14, 0, 0, 0, 0), (319, .ifCond .eq 13, 0, 0, 332, 0), (322, .iload 15, 0, 0, 0, 0), (324, .ifCond .ne 28, 0, 0, 352, 0), (327, .iload 16, 0, 0, 0, 0), (329, .ifCond .ne 23, 0, 0, 352, 0), (332, .iload 15, 0, 0, 0, 0), (334, .ifCond .eq 8, 0, 0, 342, 0), (337, .iload 16, 0, 0, 0, 0), (339, .ifCond .ne 13, 0, 0, 352, 0), (342, .iload 17, 0, 0, 0, 0), (344, .ifCond .eq 10, 0, 0, 354, 0), (347, .iload 14, 0, 0, 0, 0), (349, .ifCond .ne 5, 0, 0, 354, 0), (352, .iconst 0, 0, 0, 0, 0), (353, .ireturn, 0, 0, 0, 0)]
theorem so_L_places_314 : sgOK mi_L_places gm_L_places sg_L_places_314 = true := by decide +kernel
def sg_L_places_332 : List Ins := [(332, .iload 15, 0, 0, 0, 0), (334, .ifCond .eq 8, 0, 0, 342, 0), (337, .iload 16, 0, 0, 0, 0), (339, .ifCond .ne 13, 0, 0, 352, 0), (342, .iload 17, 0, 0, 0, 0), (344, .ifCond .eq 10, 0, 0, 354, 0), (347, .iload 14, 0, 0, 0, 0), (349, .ifCond .ne 5, 0, 0, 354, 0), (352, .iconst 0, 0, 0, 0, 0), (353, .ireturn, 0, 0, 0, 0)]
theorem so_L_places_332 : sgOK mi_L_places gm_L_places sg_L_places_332 = true := by decide +kernel
def sg_L_places_342 : List Ins := [(342, .iload 17, 0, 0, 0, 0), (344, .ifCond .eq 10, 0, 0, 354, 0), (347, .iload 14, 0, 0, 0, 0), (349, .ifCond .ne 5, 0, 0, 354, 0), (352, .iconst 0, 0, 0, 0, 0), (353, .ireturn, 0, 0, 0, 0)]
theorem so_L_places_342 : sgOK mi_L_places gm_L_places sg_L_places_342 = true := by decide +kernel
def sg_L_places_352 : List Ins := [(352, .iconst 0, 0, 0, 0, 0), (353, .ireturn, 0, 0, 0, 0)]
theorem so_L_places_352 : sgOK mi_L_places gm_L_places sg_L_places_352 = true := by decide +kernel
def sg_L_places_354 : List Ins := [(354, .aload_n 0, 0, 0, 0, 0), (355, .iload 10, 0, 0, 0, 0), (357, .iconst 0, 0, 0, 0, 0), (358, .invokevirtual 53, 488, 2, 16, 3), (361, .iload 11, 0, 0, 0, 0), (363, .ishr, 0, 0, 0, 0), (364, .iconst 1, 1, 0, 0, 0), (365, .iand, 0, 0, 0, 0), (366, .iload 14, 0, 0, 0, 0), (368, .ifCond .eq 7, 0, 0, 375, 0), (371, .iconst 1, 1, 0, 0, 0), (372, .goto 4, 0, 0, 376, 0)]
theorem so_L_places_354 : sgOK mi_L_places gm_L_places sg_L_places_354 = true := by decide +kernel
def sg_L_places_375 : List Ins := [(375, .iconst 0, 0, 0, 0, 0), (376, .if_icmp .ne 78, 0, 0, 454, 0), (379, .aload_n 0, 0, 0, 0, 0), (380, .iload 10, 0, 0, 0, 0), (382, .iconst 1, 1, 0, 0, 0), (383, .invokevirtual 53, 488, 2, 16, 3), (386, .iload 11, 0, 0, 0, 0), (388, .ishr, 0, 0, 0, 0), (389, .iconst 1, 1, 0, 0, 0), (390, .iand, 0, 0, 0, 0), (391, .iload 17, 0, 0, 0, 0), (393, .ifCond .eq 7, 0, 0, 400, 0), (396, .iconst 1, 1, 0, 0, 0), (397, .goto 4, 0, 0, 401, 0)]
theorem so_L_places_375 : sgOK mi_L_places gm_L_places sg_L_places_375 = true := by decide +kernel
def sg_L_places_376 : List Ins := [(376, .if_icmp .ne 78, 0, 0, 454, 0), (379, .aload_n 0, 0, 0, 0, 0), (380, .iload 10, 0, 0, 0, 0), (382, .iconst 1, 1, 0, 0, 0), (383, .invokevirtual 53, 488, 2, 16, 3), (386, .iload 11, 0, 0, 0, 0), (388, .ishr, 0, 0, 0, 0), (389, .iconst 1, 1, 0, 0, 0), (390, .iand, 0, 0, 0, 0), (391, .iload 17, 0, 0, 0, 0), (393, .ifCond .eq 7, 0, 0, 400, 0), (396, .iconst 1, 1, 0, 0, 0), (397, .goto 4, 0, 0, 401, 0)]
theorem so_L_places_376 : sgOK mi_L_places gm_L_places sg_L_places_376 = true := by decide +kernel
def sg_L_places_400 : List Ins := [(400, .iconst 0, 0, 0, 0, 0), (401, .if_icmp .ne 53, 0, 0, 454, 0), (404, .aload_n 0, 0, 0, 0, 0), (405, .iload 10, 0, 0, 0, 0), (407, .iconst 2, 2, 0, 0, 0), (408, .invokevirtual 53, 488, 2, 16, 3), (411, .iload 11, 0, 0, 0, 0), (413, .ishr, 0, 0, 0, 0), (414, .iconst 1, 1, 0, 0, 0), (415, .iand, 0, 0, 0, 0), (416, .iload 15, 0, 0, 0, 0), (418, .ifCond .eq 7, 0, 0, 425, 0), (421, .iconst 1, 1, 0, 0, 0), (422, .goto 4, 0, 0, 426, 0)]
theorem so_L_places_400 : sgOK mi_L_places gm_L_places sg_L_places_400 = true := by decide +kernel
def sg_L_places_401 : List Ins := [(401, .if_icmp .ne 53, 0, 0, 454, 0), (404, .aload_n 0, 0, 0, 0, 0), (405, .iload 10, 0, 0, 0, 0), (407, .iconst 2, 2, 0, 0, 0), (408, .invokevirtual 53, 488, 2, 16, 3), (411, .iload 11, 0, 0, 0, 0), (413, .ishr, 0, 0, 0, 0), (414, .iconst 1, 1, 0, 0, 0), (415, .iand, 0, 0, 0, 0), (416, .iload 15, 0, 0, 0, 0), (418, .ifCond .eq 7, 0, 0, 425, 0), (421, .iconst 1, 1, 0, 0, 0), (422, .goto 4, 0, 0, 426, 0)]
theorem so_L_places_401 : sgOK mi_L_places gm_L_places sg_L_places_401 = true := by decide +kernel
def sg_L_places_425 : List Ins := [(425, .iconst 0, 0, 0, 0, 0), (426, .if_icmp .ne 28, 0, 0, 454, 0), (429, .aload_n 0, 0, 0, 0, 0), (430, .iload 10, 0, 0, 0, 0), (432, .iconst 3, 3, 0, 0, 0), (433, .invokevirtual 53, 488, 2, 16, 3), (436, .iload 11, 0, 0, 0, 0), (438, .ishr, 0, 0, 0, 0), (439, .iconst 1, 1, 0, 0, 0), (440, .iand, 0, 0, 0, 0), (441, .iload 16, 0, 0, 0, 0), (443, .ifCond .eq 7, 0, 0, 450, 0), (446, .iconst 1, 1, 0, 0, 0), (447, .goto 4, 0, 0, 451, 0)]
theorem so_L_places_425 : sgOK mi_L_places gm_L_places sg_L_places_425 = true := by decide +kernel
def sg_L_places_426 : List Ins := [(426, .if_icmp .ne 28, 0, 0, 454, 0), (429, .aload_n 0, 0, 0, 0, 0), (430, .iload 10, 0, 0, 0, 0), (432, .iconst 3, 3, 0, 0, 0), (433, .invokevirtual 53, 488, 2, 16, 3), (436, .iload 11, 0, 0, 0, 0), (438, .ishr, 0, 0, 0, 0), (439, .iconst 1, 1, 0, 0, 0), (440, .iand, 0, 0, 0, 0), (441, .iload 16, 0, 0, 0, 0), (443, .ifCond .eq 7, 0, 0, 450, 0), (446, .iconst 1, 1, 0, 0, 0), (447, .goto 4, 0, 0, 451, 0)]
theorem so_L_places_426 : sgOK mi_L_places gm_L_places sg_L_places_426 = true := by decide +kernel
def sg_L_places_450 : List Ins := [(450, .iconst 0, 0, 0, 0, 0), (451, .if_icmp .eq 5, 0, 0, 456, 0), (454, .iconst 0, 0, 0, 0, 0), (455, .ireturn, 0, 0, 0, 0)]
theorem so_L_places_450 : sgOK mi_L_places gm_L_places sg_L_places_450 = true := by decide +kernel
def sg_L_places_451 : List Ins := [(451, .if_icmp .eq 5, 0, 0, 456, 0), (454, .iconst 0, 0, 0, 0, 0), (455, .ireturn, 0, 0, 0, 0)]
theorem so_L_places_451 : sgOK mi_L_places gm_L_places sg_L_places_451 = true := by decide +kernel
def sg_L_places_454 : List Ins := [(454, .iconst 0, 0, 0, 0, 0), (455, .ireturn, 0, 0, 0, 0)]
theorem so_L_places_454 : sgOK mi_L_places gm_L_places sg_L_places_454 = true := by decide +kernel
def sg_L_places_456 : List Ins := [(456, .iinc 9 1, 1, 0, 0, 0), (459, .goto (-429), 0, 0, 30, 0)]
theorem so_L_places_456 : sgOK mi_L_places gm_L_places sg_L_places_456 = true := by decide +kernel
def sg_L_places_462 : List Ins := [(462, .aload_n 0, 0, 0, 0, 0), (463, .iload_n 1, 0, 0, 0, 0), (464, .iconst 0, 0, 0, 0, 0), (465, .invokevirtual 56, 428, 3, 16, 3), (468, .iload 5, 0, 0, 0, 0), (470, .if_icmp .ne 58, 0, 0, 528, 0), (473, .aload_n 0, 0, 0, 0, 0), (474, .iload_n 1, 0, 0, 0, 0), (475, .iconst 1, 1, 0, 0, 0), (476, .invokevirtual 56, 428, 3, 16, 3), (479, .iload 6, 0, 0, 0, 0), (481, .if_icmp .ne 47, 0, 0, 528, 0), (484, .aload_n 0, 0, 0, 0, 0), (485, .iload_n 1, 0, 0, 0, 0), (486, .iconst 2, 2, 0, 0, 0), (487, .invokevirtual 56, 428, 3, 16, 3), (490, .iload 7, 0, 0, 0, 0), (492, .if_icmp .ne 36, 0, 0, 528, 0), (495, .aload_n 0, 0, 0, 0, 0), (496, .iload_n 1, 0, 0, 0, 0), (497, .iconst 3, 3, 0, 0, 0), (498, .invokevirtual 56, 428, 3, 16, 3), (501, .iload 8, 0, 0, 0, 0), (503, .if_icmp .ne 25, 0, 0, 528, 0), (506, .aload_n 0, 0, 0, 0, 0), (507, .iload_n 1, 0, 0, 0, 0), (508, .iconst 4, 4, 0, 0, 0), (509, .invokevirtual 56, 428, 3, 16, 3), (512, .iload_n 2, 0, 0, 0, 0), (513, .if_icmp .ne 15, 0, 0, 528, 0), (516, .aload_n 0, 0, 0, 0, 0), (517, .invokevirtual 59, 500, 4, 16, 1), (520, .iload_n 3, 0, 0, 0, 0), (521, .if_icmp .ne 7, 0, 0, 528, 0), (524, .iconst 1, 1, 0, 0, 0), (525, .goto 4, 0, 0, 529, 0)]
theorem so_L_places_462 : sgOK mi_L_places gm_L_places sg_L_places_462 = true := by decide +kernel
def sg_L_places_528 : List Ins := [(528, .iconst 0, 0, 0, 0, 0), (529, .ireturn, 0, 0, 0, 0)]
theorem so_L_places_528 : sgOK mi_L_places gm_L_places sg_L_places_528 = true := by decide +kernel
def sg_L_places_529 : List Ins := [(529, .ireturn, 0, 0, 0, 0)]
theorem so_L_places_529 : sgOK mi_L_places gm_L_places sg_L_places_529 = true := by decide +kernel
def sgs_L_places : Nat → Option (List Ins) := fun t => match t with
  | 0 => some sg_L_places_0
  | 91 => some sg_L_places_91
  | 92 => some sg_L_places_92
  | 112 => some sg_L_places_112
  | 113 => some sg_L_places_113
  | 132 => some sg_L_places_132
  | 133 => some sg_L_places_133
  | 153 => some sg_L_places_153
  | 154 => some sg_L_places_154
  | 167 => some sg_L_places_167
  | 168 => some sg_L_places_168
  | 186 => some sg_L_places_186
  | 187 => some sg_L_places_187
  | 205 => some sg_L_places_205
  | 207 => some sg_L_places_207
  | 220 => some sg_L_places_220
  | 221 => some sg_L_places_221
  | 235 => some sg_L_places_235
  | 236 => some sg_L_places_236
  | 250 => some sg_L_places_250
  | 251 => some sg_L_places_251
  | 265 => some sg_L_places_265
  | 266 => some sg_L_places_266
  | 313 => some sg_L_places_313
  | 314 => some sg_L_places_314
  | 332 => some sg_L_places_332
  | 342 => some sg_L_places_342
  | 352 => some sg_L_places_352
  | 354 => some sg_L_places_354
  | 375 => some sg_L_places_375
  | 376 => some sg_L_places_376
  | 400 => some sg_L_places_400
  | 401 => some sg_L_places_401
  | 425 => some sg_L_places_425
  | 426 => some sg_L_places_426
  | 450 => some sg_L_places_450
  | 451 => some sg_L_places_451
  | 454 => some sg_L_places_454
  | 456 => some sg_L_places_456
  | 462 => some sg_L_places_462
  | 528 => some sg_L_places_528
  | 529 => some sg_L_places_529
  | _ => none
theorem so_L_places : ∀ t sg, sgs_L_places t = some sg → sgOK mi_L_places gm_L_places sg = true ∧ segPc sg = t := by
  intro t sg h
  unfold sgs_L_places at h
  split at h
  · cases h; exact ⟨so_L_places_0, rfl⟩
  · cases h; exact ⟨so_L_places_91, rfl⟩
  · cases h; exact ⟨so_L_places_92, rfl⟩
  · cases h; exact ⟨so_L_places_112, rfl⟩
  · cases h; exact ⟨so_L_places_113, rfl⟩
  · cases h; exact ⟨so_L_places_132, rfl⟩
  · cases h; exact ⟨so_L_places_133, rfl⟩
  · cases h; exact ⟨so_L_places_153, rfl⟩
  · cases h; exact ⟨so_L_places_154, rfl⟩
  · cases h; exact ⟨so_L_places_167, rfl⟩
  · cases h; exact ⟨so_L_places_168, rfl⟩
  · cases h; exact ⟨so_L_places_186, rfl⟩
  · cases h; exact ⟨so_L_places_187, rfl⟩
  · cases h; exact ⟨so_L_places_205, rfl⟩
  · cases h; exact ⟨so_L_places_207, rfl⟩
  · cases h; exact ⟨so_L_places_220, rfl⟩
  · cases h; exact ⟨so_L_places_221, rfl⟩
  · cases h; exact ⟨so_L_places_235, rfl⟩
  · cases h; exact ⟨so_L_places_236, rfl⟩
  · cases h; exact ⟨so_L_places_250, rfl⟩
  · cases h; exact ⟨so_L_places_251, rfl⟩
  · cases h; exact ⟨so_L_places_265, rfl⟩
  · cases h; exact ⟨so_L_places_266, rfl⟩
  · cases h; exact ⟨so_L_places_313, rfl⟩
  · cases h; exact ⟨so_L_places_314, rfl⟩
  · cases h; exact ⟨so_L_places_332, rfl⟩
  · cases h; exact ⟨so_L_places_342, rfl⟩
  · cases h; exact ⟨so_L_places_352, rfl⟩
  · cases h; exact ⟨so_L_places_354, rfl⟩
  · cases h; exact ⟨so_L_places_375, rfl⟩
  · cases h; exact ⟨so_L_places_376, rfl⟩
  · cases h; exact ⟨so_L_places_400, rfl⟩
  · cases h; exact ⟨so_L_places_401, rfl⟩
  · cases h; exact ⟨so_L_places_425, rfl⟩
  · cases h; exact ⟨so_L_places_426, rfl⟩
  · cases h; exact ⟨so_L_places_450, rfl⟩
  · cases h; exact ⟨so_L_places_451, rfl⟩
  · cases h; exact ⟨so_L_places_454, rfl⟩
  · cases h; exact ⟨so_L_places_456, rfl⟩
  · cases h; exact ⟨so_L_places_462, rfl⟩
  · cases h; exact ⟨so_L_places_528, rfl⟩
  · cases h; exact ⟨so_L_places_529, rfl⟩
  · cases h
def gm_L_hangs : List MI := [mi_X6_count, mi_X6_ofPlate, mi_X6_readableIn, mi_X6_of, mi_L_places]
def sg_L_hangs_0 : List Ins := [(0, .iconst 0, 0, 0, 0, 0), (1, .istore_n 1, 0, 0, 0, 0), (2, .iconst 0, 0, 0, 0, 0), (3, .istore_n 2, 0, 0, 0, 0), (4, .iconst 0, 0, 0, 0, 0), (5, .istore_n 3, 0, 0, 0, 0), (6, .iconst 0, 0, 0, 0, 0), (7, .istore 4, 0, 0, 0, 0), (9, .nop, 0, 0, 0, 0)]
theorem so_L_hangs_0 : sgOK mi_L_hangs gm_L_hangs sg_L_hangs_0 = true := by decide +kernel
def sg_L_hangs_9 : List Ins := [(9, .iload 4, 0, 0, 0, 0), (11, .aload_n 0, 0, 0, 0, 0), (12, .iconst 1, 1, 0, 0, 0), (13, .invokevirtual 46, 264, 0, 16, 2), (16, .if_icmp .ge 80, 0, 0, 96, 0), (19, .iload_n 1, 0, 0, 0, 0), (20, .aload_n 0, 0, 0, 0, 0), (21, .iload 4, 0, 0, 0, 0), (23, .iconst 0, 0, 0, 0, 0), (24, .invokevirtual 56, 428, 1, 16, 3), (27, .iadd, 0, 0, 0, 0), (28, .istore_n 1, 0, 0, 0, 0), (29, .iload_n 2, 0, 0, 0, 0), (30, .aload_n 0, 0, 0, 0, 0), (31, .iload 4, 0, 0, 0, 0), (33, .iconst 1, 1, 0, 0, 0), (34, .invokevirtual 56, 428, 1, 16, 3), (37, .iadd, 0, 0, 0, 0), (38, .istore_n 2, 0, 0, 0, 0), (39, .iload_n 3, 0, 0, 0, 0), (40, .aload_n 0, 0, 0, 0, 0), (41, .iload 4, 0, 0, 0, 0), (43, .iconst 2, 2, 0, 0, 0), (44, .invokevirtual 56, 428, 1, 16, 3), (47, .iadd, 0, 0, 0, 0), (48, .istore_n 3, 0, 0, 0, 0), (49, .aload_n 0, 0, 0, 0, 0), (50, .iload 4, 0, 0, 0, 0), (52, .invokevirtual 62, 454, 2, 16, 2), (55, .ifCond .ne 7, 0, 0, 62, 0), (58, .iconst 1, 1, 0, 0, 0), (59, .goto 4, 0, 0, 63, 0)]
theorem so_L_hangs_9 : sgOK mi_L_hangs gm_L_hangs sg_L_hangs_9 = true := by decide +kernel
def sg_L_hangs_62 : List Ins := [(62, .iconst 0, 0, 0, 0, 0), (63, .aload_n 0, 0, 0, 0, 0), (64, .iload 4, 0, 0, 0, 0), (66, .iconst 0, 0, 0, 0, 0), (67, .invokevirtual 56, 428, 1, 16, 3), (70, .aload_n 0, 0, 0, 0, 0), (71, .iload 4, 0, 0, 0, 0), (73, .iconst 1, 1, 0, 0, 0), (74, .invokevirtual 56, 428, 1, 16, 3), (77, .if_icmp .ne 7, 0, 0, 84, 0), (80, .iconst 1, 1, 0, 0, 0), (81, .goto 4, 0, 0, 85, 0)]
theorem so_L_hangs_62 : sgOK mi_L_hangs gm_L_hangs sg_L_hangs_62 = true := by decide +kernel
def sg_L_hangs_63 : List Ins := [(63, .aload_n 0, 0, 0, 0, 0), (64, .iload 4, 0, 0, 0, 0), (66, .iconst 0, 0, 0, 0, 0), (67, .invokevirtual 56, 428, 1, 16, 3), (70, .aload_n 0, 0, 0, 0, 0), (71, .iload 4, 0, 0, 0, 0), (73, .iconst 1, 1, 0, 0, 0), (74, .invokevirtual 56, 428, 1, 16, 3), (77, .if_icmp .ne 7, 0, 0, 84, 0), (80, .iconst 1, 1, 0, 0, 0), (81, .goto 4, 0, 0, 85, 0)]
theorem so_L_hangs_63 : sgOK mi_L_hangs gm_L_hangs sg_L_hangs_63 = true := by decide +kernel
def sg_L_hangs_84 : List Ins := [(84, .iconst 0, 0, 0, 0, 0), (85, .if_icmp .eq 5, 0, 0, 90, 0), (88, .iconst 0, 0, 0, 0, 0), (89, .ireturn, 0, 0, 0, 0)]
theorem so_L_hangs_84 : sgOK mi_L_hangs gm_L_hangs sg_L_hangs_84 = true := by decide +kernel
def sg_L_hangs_85 : List Ins := [(85, .if_icmp .eq 5, 0, 0, 90, 0), (88, .iconst 0, 0, 0, 0, 0), (89, .ireturn, 0, 0, 0, 0)]
theorem so_L_hangs_85 : sgOK mi_L_hangs gm_L_hangs sg_L_hangs_85 = true := by decide +kernel
def sg_L_hangs_90 : List Ins := [(90, .iinc 4 1, 1, 0, 0, 0), (93, .goto (-84), 0, 0, 9, 0)]
theorem so_L_hangs_90 : sgOK mi_L_hangs gm_L_hangs sg_L_hangs_90 = true := by decide +kernel
def sg_L_hangs_96 : List Ins := [(96, .iconst 0, 0, 0, 0, 0), (97, .istore 4, 0, 0, 0, 0), (99, .nop, 0, 0, 0, 0)]
theorem so_L_hangs_96 : sgOK mi_L_hangs gm_L_hangs sg_L_hangs_96 = true := by decide +kernel
def sg_L_hangs_99 : List Ins := [(99, .iload 4, 0, 0, 0, 0), (101, .aload_n 0, 0, 0, 0, 0), (102, .iconst 3, 3, 0, 0, 0), (103, .invokevirtual 46, 264, 0, 16, 2), (106, .if_icmp .ge 75, 0, 0, 181, 0), (109, .iload_n 1, 0, 0, 0, 0), (110, .aload_n 0, 0, 0, 0, 0), (111, .iload 4, 0, 0, 0, 0), (113, .iconst 1, 1, 0, 0, 0), (114, .invokevirtual 65, 466, 3, 16, 3), (117, .isub, 0, 0, 0, 0), (118, .istore_n 1, 0, 0, 0, 0), (119, .iload_n 2, 0, 0, 0, 0), (120, .aload_n 0, 0, 0, 0, 0), (121, .iload 4, 0, 0, 0, 0), (123, .iconst 2, 2, 0, 0, 0), (124, .invokevirtual 65, 466, 3, 16, 3), (127, .isub, 0, 0, 0, 0), (128, .istore_n 2, 0, 0, 0, 0), (129, .iload_n 3, 0, 0, 0, 0), (130, .aload_n 0, 0, 0, 0, 0), (131, .iload 4, 0, 0, 0, 0), (133, .iconst 3, 3, 0, 0, 0), (134, .invokevirtual 65, 466, 3, 16, 3), (137, .isub, 0, 0, 0, 0), (138, .istore_n 3, 0, 0, 0, 0), (139, .aload_n 0, 0, 0, 0, 0), (140, .iload 4, 0, 0, 0, 0), (142, .iconst 2, 2, 0, 0, 0), (143, .invokevirtual 65, 466, 3, 16, 3), (146, .aload_n 0, 0, 0, 0, 0), (147, .iload 4, 0, 0, 0, 0), (149, .iconst 1, 1, 0, 0, 0), (150, .invokevirtual 65, 466, 3, 16, 3), (153, .if_icmp .gt 20, 0, 0, 173, 0), (156, .aload_n 0, 0, 0, 0, 0), (157, .iload 4, 0, 0, 0, 0), (159, .iconst 1, 1, 0, 0, 0), (160, .invokevirtual 65, 466, 3, 16, 3), (163, .aload_n 0, 0, 0, 0, 0), (164, .iload 4, 0, 0, 0, 0), (166, .iconst 4, 4, 0, 0, 0), (167, .invokevirtual 65, 466, 3, 16, 3), (170, .if_icmp .le 5, 0, 0, 175, 0), (173, .iconst 0, 0, 0, 0, 0), (174, .ireturn, 0, 0, 0, 0)]
theorem so_L_hangs_99 : sgOK mi_L_hangs gm_L_hangs sg_L_hangs_99 = true := by decide +kernel
def sg_L_hangs_173 : List Ins := [(173, .iconst 0, 0, 0, 0, 0), (174, .ireturn, 0, 0, 0, 0)]
theorem so_L_hangs_173 : sgOK mi_L_hangs gm_L_hangs sg_L_hangs_173 = true := by decide +kernel
def sg_L_hangs_175 : List Ins := [(175, .iinc 4 1, 1, 0, 0, 0), (178, .goto (-79), 0, 0, 99, 0)]
theorem so_L_hangs_175 : sgOK mi_L_hangs gm_L_hangs sg_L_hangs_175 = true := by decide +kernel
def sg_L_hangs_181 : List Ins := [(181, .iload_n 1, 0, 0, 0, 0), (182, .ifCond .ne 50, 0, 0, 232, 0), (185, .iload_n 2, 0, 0, 0, 0), (186, .ifCond .ne 46, 0, 0, 232, 0), (189, .iload_n 3, 0, 0, 0, 0), (190, .ifCond .ne 42, 0, 0, 232, 0), (193, .aload_n 0, 0, 0, 0, 0), (194, .aload_n 0, 0, 0, 0, 0), (195, .iconst 1, 1, 0, 0, 0), (196, .invokevirtual 46, 264, 0, 16, 2), (199, .iconst 0, 0, 0, 0, 0), (200, .invokevirtual 56, 428, 1, 16, 3), (203, .iconst (-1), 1, 1, 0, 0), (204, .if_icmp .ne 28, 0, 0, 232, 0), (207, .aload_n 0, 0, 0, 0, 0), (208, .aload_n 0, 0, 0, 0, 0), (209, .iconst 3, 3, 0, 0, 0), (210, .invokevirtual 46, 264, 0, 16, 2), (213, .iconst 0, 0, 0, 0, 0), (214, .invokevirtual 65, 466, 3, 16, 3), (217, .iconst (-1), 1, 1, 0, 0), (218, .if_icmp .ne 14, 0, 0, 232, 0), (221, .aload_n 0, 0, 0, 0, 0), (222, .invokestatic 68, 475, 4, 0, 1), (225, .ifCond .eq 7, 0, 0, 232, 0), (228, .iconst 1, 1, 0, 0, 0), (229, .goto 4, 0, 0, 233, 0)]
theorem so_L_hangs_181 : sgOK mi_L_hangs gm_L_hangs sg_L_hangs_181 = true := by decide +kernel
def sg_L_hangs_232 : List Ins := [(232, .iconst 0, 0, 0, 0, 0), (233, .ireturn, 0, 0, 0, 0)]
theorem so_L_hangs_232 : sgOK mi_L_hangs gm_L_hangs sg_L_hangs_232 = true := by decide +kernel
def sg_L_hangs_233 : List Ins := [(233, .ireturn, 0, 0, 0, 0)]
theorem so_L_hangs_233 : sgOK mi_L_hangs gm_L_hangs sg_L_hangs_233 = true := by decide +kernel
def sgs_L_hangs : Nat → Option (List Ins) := fun t => match t with
  | 0 => some sg_L_hangs_0
  | 62 => some sg_L_hangs_62
  | 63 => some sg_L_hangs_63
  | 84 => some sg_L_hangs_84
  | 85 => some sg_L_hangs_85
  | 90 => some sg_L_hangs_90
  | 96 => some sg_L_hangs_96
  | 173 => some sg_L_hangs_173
  | 175 => some sg_L_hangs_175
  | 181 => some sg_L_hangs_181
  | 232 => some sg_L_hangs_232
  | 233 => some sg_L_hangs_233
  | _ => none
theorem so_L_hangs : ∀ t sg, sgs_L_hangs t = some sg → sgOK mi_L_hangs gm_L_hangs sg = true ∧ segPc sg = t := by
  intro t sg h
  unfold sgs_L_hangs at h
  split at h
  · cases h; exact ⟨so_L_hangs_0, rfl⟩
  · cases h; exact ⟨so_L_hangs_62, rfl⟩
  · cases h; exact ⟨so_L_hangs_63, rfl⟩
  · cases h; exact ⟨so_L_hangs_84, rfl⟩
  · cases h; exact ⟨so_L_hangs_85, rfl⟩
  · cases h; exact ⟨so_L_hangs_90, rfl⟩
  · cases h; exact ⟨so_L_hangs_96, rfl⟩
  · cases h; exact ⟨so_L_hangs_173, rfl⟩
  · cases h; exact ⟨so_L_hangs_175, rfl⟩
  · cases h; exact ⟨so_L_hangs_181, rfl⟩
  · cases h; exact ⟨so_L_hangs_232, rfl⟩
  · cases h; exact ⟨so_L_hangs_233, rfl⟩
  · cases h
def gm_L_print : List MI := [mi_X6_mean, mi_X6_count, mi_X6_ofPlate, mi_X6_of, mi_X6_at]
def sg_L_print_0 : List Ins := [(0, .aload_n 0, 0, 0, 0, 0), (1, .invokevirtual 72, 523, 0, 16, 1), (4, .lstore_n 1, 0, 0, 0, 0), (5, .iconst 0, 0, 0, 0, 0), (6, .istore_n 3, 0, 0, 0, 0), (7, .nop, 0, 0, 0, 0)]
theorem so_L_print_0 : sgOK mi_L_print gm_L_print sg_L_print_0 = true := by decide +kernel
def sg_L_print_7 : List Ins := [(7, .iload_n 3, 0, 0, 0, 0), (8, .bipush 8, 8, 0, 0, 0), (10, .if_icmp .ge 22, 0, 0, 32, 0), (13, .ldc2_w 76, 31, 2, 532, 0), (16, .lload_n 1, 0, 0, 0, 0), (17, .lmul, 0, 0, 0, 0), (18, .aload_n 0, 0, 0, 0, 0), (19, .iload_n 3, 0, 0, 0, 0), (20, .invokevirtual 46, 264, 1, 16, 2), (23, .i2l, 0, 0, 0, 0), (24, .ladd, 0, 0, 0, 0), (25, .lstore_n 1, 0, 0, 0, 0), (26, .iinc 3 1, 1, 0, 0, 0), (29, .goto (-22), 0, 0, 7, 0)]
theorem so_L_print_7 : sgOK mi_L_print gm_L_print sg_L_print_7 = true := by decide +kernel
def sg_L_print_32 : List Ins := [(32, .iconst 0, 0, 0, 0, 0), (33, .istore_n 3, 0, 0, 0, 0), (34, .nop, 0, 0, 0, 0)]
theorem so_L_print_32 : sgOK mi_L_print gm_L_print sg_L_print_32 = true := by decide +kernel
def sg_L_print_34 : List Ins := [(34, .iload_n 3, 0, 0, 0, 0), (35, .bipush 6, 6, 0, 0, 0), (37, .aload_n 0, 0, 0, 0, 0), (38, .iconst 1, 1, 0, 0, 0), (39, .invokevirtual 46, 264, 1, 16, 2), (42, .imul, 0, 0, 0, 0), (43, .if_icmp .ge 29, 0, 0, 72, 0), (46, .ldc2_w 76, 31, 2, 532, 0), (49, .lload_n 1, 0, 0, 0, 0), (50, .lmul, 0, 0, 0, 0), (51, .aload_n 0, 0, 0, 0, 0), (52, .iload_n 3, 0, 0, 0, 0), (53, .bipush 6, 6, 0, 0, 0), (55, .idiv, 0, 0, 0, 0), (56, .iload_n 3, 0, 0, 0, 0), (57, .bipush 6, 6, 0, 0, 0), (59, .irem, 0, 0, 0, 0), (60, .invokevirtual 56, 428, 2, 16, 3), (63, .i2l, 0, 0, 0, 0), (64, .ladd, 0, 0, 0, 0), (65, .lstore_n 1, 0, 0, 0, 0), (66, .iinc 3 1, 1, 0, 0, 0), (69, .goto (-35), 0, 0, 34, 0)]
theorem so_L_print_34 : sgOK mi_L_print gm_L_print sg_L_print_34 = true := by decide +kernel
def sg_L_print_72 : List Ins := [(72, .iconst 0, 0, 0, 0, 0), (73, .istore_n 3, 0, 0, 0, 0), (74, .nop, 0, 0, 0, 0)]
theorem so_L_print_72 : sgOK mi_L_print gm_L_print sg_L_print_72 = true := by decide +kernel
def sg_L_print_74 : List Ins := [(74, .iload_n 3, 0, 0, 0, 0), (75, .bipush 6, 6, 0, 0, 0), (77, .aload_n 0, 0, 0, 0, 0), (78, .iconst 3, 3, 0, 0, 0), (79, .invokevirtual 46, 264, 1, 16, 2), (82, .imul, 0, 0, 0, 0), (83, .if_icmp .ge 29, 0, 0, 112, 0), (86, .ldc2_w 76, 31, 2, 532, 0), (89, .lload_n 1, 0, 0, 0, 0), (90, .lmul, 0, 0, 0, 0), (91, .aload_n 0, 0, 0, 0, 0), (92, .iload_n 3, 0, 0, 0, 0), (93, .bipush 6, 6, 0, 0, 0), (95, .idiv, 0, 0, 0, 0), (96, .iload_n 3, 0, 0, 0, 0), (97, .bipush 6, 6, 0, 0, 0), (99, .irem, 0, 0, 0, 0), (100, .invokevirtual 65, 466, 3, 16, 3), (103, .i2l, 0, 0, 0, 0), (104, .ladd, 0, 0, 0, 0), (105, .lstore_n 1, 0, 0, 0, 0), (106, .iinc 3 1, 1, 0, 0, 0), (109, .goto (-35), 0, 0, 74, 0)]
theorem so_L_print_74 : sgOK mi_L_print gm_L_print sg_L_print_74 = true := by decide +kernel
def sg_L_print_112 : List Ins := [(112, .iconst 0, 0, 0, 0, 0), (113, .istore_n 3, 0, 0, 0, 0), (114, .nop, 0, 0, 0, 0)]
theorem so_L_print_112 : sgOK mi_L_print gm_L_print sg_L_print_112 = true := by decide +kernel
def sg_L_print_114 : List Ins := [(114, .iload_n 3, 0, 0, 0, 0), (115, .bipush 120, 120, 0, 0, 0), (117, .if_icmp .ge 89, 0, 0, 206, 0), (120, .ldc2_w 76, 31, 2, 532, 0), (123, .lload_n 1, 0, 0, 0, 0), (124, .lmul, 0, 0, 0, 0), (125, .ldc2_w 78, 7, 2, 533, 0), (128, .aload_n 0, 0, 0, 0, 0), (129, .iload_n 3, 0, 0, 0, 0), (130, .bipush 12, 12, 0, 0, 0), (132, .idiv, 0, 0, 0, 0), (133, .iload_n 3, 0, 0, 0, 0), (134, .bipush 12, 12, 0, 0, 0), (136, .irem, 0, 0, 0, 0), (137, .iconst 0, 0, 0, 0, 0), (138, .invokevirtual 50, 479, 4, 16, 4), (141, .i2l, 0, 0, 0, 0), (142, .lmul, 0, 0, 0, 0), (143, .ladd, 0, 0, 0, 0), (144, .aload_n 0, 0, 0, 0, 0), (145, .iload_n 3, 0, 0, 0, 0), (146, .bipush 12, 12, 0, 0, 0), (148, .idiv, 0, 0, 0, 0), (149, .iload_n 3, 0, 0, 0, 0), (150, .bipush 12, 12, 0, 0, 0), (152, .irem, 0, 0, 0, 0), (153, .iconst 1, 1, 0, 0, 0), (154, .invokevirtual 50, 479, 4, 16, 4), (157, .i2l, 0, 0, 0, 0), (158, .ladd, 0, 0, 0, 0), (159, .lstore_n 1, 0, 0, 0, 0), (160, .ldc2_w 76, 31, 2, 532, 0), (163, .lload_n 1, 0, 0, 0, 0), (164, .lmul, 0, 0, 0, 0), (165, .ldc2_w 80, 5, 2, 534, 0), (168, .aload_n 0, 0, 0, 0, 0), (169, .iload_n 3, 0, 0, 0, 0), (170, .bipush 12, 12, 0, 0, 0), (172, .idiv, 0, 0, 0, 0), (173, .iload_n 3, 0, 0, 0, 0), (174, .bipush 12, 12, 0, 0, 0), (176, .irem, 0, 0, 0, 0), (177, .iconst 2, 2, 0, 0, 0), (178, .invokevirtual 50, 479, 4, 16, 4), (181, .i2l, 0, 0, 0, 0), (182, .lmul, 0, 0, 0, 0), (183, .ladd, 0, 0, 0, 0), (184, .aload_n 0, 0, 0, 0, 0), (185, .iload_n 3, 0, 0, 0, 0), (186, .bipush 12, 12, 0, 0, 0), (188, .idiv, 0, 0, 0, 0), (189, .iload_n 3, 0, 0, 0, 0), (190, .bipush 12, 12, 0, 0, 0), (192, .irem, 0, 0, 0, 0), (193, .iconst 3, 3, 0, 0, 0), (194, .invokevirtual 50, 479, 4, 16, 4), (197, .i2l, 0, 0, 0, 0), (198, .ladd, 0, 0, 0, 0), (199, .lstore_n 1, 0, 0, 0, 0), (200, .iinc 3 1, 1, 0, 0, 0), (203, .goto (-89), 0, 0, 114, 0)]
theorem so_L_print_114 : sgOK mi_L_print gm_L_print sg_L_print_114 = true := by decide +kernel
def sg_L_print_206 : List Ins := [(206, .lload_n 1, 0, 0, 0, 0), (207, .lreturn, 0, 0, 0, 0)]
theorem so_L_print_206 : sgOK mi_L_print gm_L_print sg_L_print_206 = true := by decide +kernel
def sgs_L_print : Nat → Option (List Ins) := fun t => match t with
  | 0 => some sg_L_print_0
  | 32 => some sg_L_print_32
  | 72 => some sg_L_print_72
  | 112 => some sg_L_print_112
  | 206 => some sg_L_print_206
  | _ => none
theorem so_L_print : ∀ t sg, sgs_L_print t = some sg → sgOK mi_L_print gm_L_print sg = true ∧ segPc sg = t := by
  intro t sg h
  unfold sgs_L_print at h
  split at h
  · cases h; exact ⟨so_L_print_0, rfl⟩
  · cases h; exact ⟨so_L_print_32, rfl⟩
  · cases h; exact ⟨so_L_print_72, rfl⟩
  · cases h; exact ⟨so_L_print_112, rfl⟩
  · cases h; exact ⟨so_L_print_206, rfl⟩
  · cases h
def gm_L_writes : List MI := [mi_L_low, mi_X6_ifWritten, mi_X6_count, mi_X6_of, mi_X6_ofPlate, mi_X6_at, mi_X6_write, mi_X6_undo]
def sg_L_writes_0 : List Ins := [(0, .iload_n 1, 0, 0, 0, 0), (1, .iconst 3, 3, 0, 0, 0), (2, .invokestatic 10, 281, 0, 0, 2), (5, .istore_n 2, 0, 0, 0, 0), (6, .iload_n 1, 0, 0, 0, 0), (7, .iconst 2, 2, 0, 0, 0), (8, .ishr, 0, 0, 0, 0), (9, .iconst 4, 4, 0, 0, 0), (10, .invokestatic 10, 281, 0, 0, 2), (13, .istore_n 3, 0, 0, 0, 0), (14, .iload_n 1, 0, 0, 0, 0), (15, .iconst 4, 4, 0, 0, 0), (16, .ishr, 0, 0, 0, 0), (17, .bipush 6, 6, 0, 0, 0), (19, .invokestatic 10, 281, 0, 0, 2), (22, .istore 4, 0, 0, 0, 0), (24, .aload_n 0, 0, 0, 0, 0), (25, .iload_n 2, 0, 0, 0, 0), (26, .iload_n 3, 0, 0, 0, 0), (27, .iload 4, 0, 0, 0, 0), (29, .iconst 0, 0, 0, 0, 0), (30, .invokevirtual 82, 538, 1, 16, 5), (33, .istore 5, 0, 0, 0, 0), (35, .aload_n 0, 0, 0, 0, 0), (36, .iload_n 2, 0, 0, 0, 0), (37, .iload_n 3, 0, 0, 0, 0), (38, .iload 4, 0, 0, 0, 0), (40, .iconst 1, 1, 0, 0, 0), (41, .invokevirtual 82, 538, 1, 16, 5), (44, .istore 6, 0, 0, 0, 0), (46, .aload_n 0, 0, 0, 0, 0), (47, .iload_n 2, 0, 0, 0, 0), (48, .iload_n 3, 0, 0, 0, 0), (49, .iload 4, 0, 0, 0, 0), (51, .iconst 2, 2, 0, 0, 0), (52, .invokevirtual 82, 538, 1, 16, 5), (55, .istore 7, 0, 0, 0, 0), (57, .aload_n 0, 0, 0, 0, 0), (58, .iconst 2, 2, 0, 0, 0), (59, .invokevirtual 46, 264, 2, 16, 2), (62, .istore 8, 0, 0, 0, 0), (64, .aload_n 0, 0, 0, 0, 0), (65, .iload_n 2, 0, 0, 0, 0), (66, .iconst 4, 4, 0, 0, 0), (67, .invokevirtual 65, 466, 3, 16, 3), (70, .istore 9, 0, 0, 0, 0), (72, .aload_n 0, 0, 0, 0, 0), (73, .iload_n 2, 0, 0, 0, 0), (74, .iconst 5, 5, 0, 0, 0), (75, .invokevirtual 65, 466, 3, 16, 3), (78, .istore 10, 0, 0, 0, 0), (80, .aload_n 0, 0, 0, 0, 0), (81, .iload 8, 0, 0, 0, 0), (83, .iconst 1, 1, 0, 0, 0), (84, .invokevirtual 56, 428, 4, 16, 3), (87, .istore 11, 0, 0, 0, 0), (89, .aload_n 0, 0, 0, 0, 0), (90, .iload 8, 0, 0, 0, 0), (92, .iconst 2, 2, 0, 0, 0), (93, .invokevirtual 56, 428, 4, 16, 3), (96, .istore 12, 0, 0, 0, 0), (98, .aload_n 0, 0, 0, 0, 0), (99, .iload_n 3, 0, 0, 0, 0), (100, .iload 4, 0, 0, 0, 0), (102, .iconst 2, 2, 0, 0, 0), (103, .invokevirtual 50, 479, 5, 16, 4), (106, .istore 13, 0, 0, 0, 0), (108, .aload_n 0, 0, 0, 0, 0), (109, .iload_n 3, 0, 0, 0, 0), (110, .iload 4, 0, 0, 0, 0), (112, .iconst 3, 3, 0, 0, 0), (113, .invokevirtual 50, 479, 5, 16, 4), (116, .istore 14, 0, 0, 0, 0), (118, .iload 5, 0, 0, 0, 0), (120, .ifCond .lt 34, 0, 0, 154, 0), (123, .iload 5, 0, 0, 0, 0), (125, .iload 11, 0, 0, 0, 0), (127, .if_icmp .gt 27, 0, 0, 154, 0), (130, .iload 6, 0, 0, 0, 0), (132, .ifCond .lt 22, 0, 0, 154, 0), (135, .iload 6, 0, 0, 0, 0), (137, .iload 12, 0, 0, 0, 0), (139, .if_icmp .gt 15, 0, 0, 154, 0), (142, .iload 7, 0, 0, 0, 0), (144, .ifCond .lt 10, 0, 0, 154, 0), (147, .iload 7, 0, 0, 0, 0), (149, .bipush 120, 120, 0, 0, 0), (151, .if_icmp .le 5, 0, 0, 156, 0), (154, .iconst 0, 0, 0, 0, 0), (155, .ireturn, 0, 0, 0, 0)]
theorem so_L_writes_0 : sgOK mi_L_writes gm_L_writes sg_L_writes_0 = true := by decide +kernel
def sg_L_writes_154 : List Ins := [(154, .iconst 0, 0, 0, 0, 0), (155, .ireturn, 0, 0, 0, 0)]
theorem so_L_writes_154 : sgOK mi_L_writes gm_L_writes sg_L_writes_154 = true := by decide +kernel
def sg_L_writes_156 : List Ins := [(156, .aload_n 0, 0, 0, 0, 0), (157, .iload_n 2, 0, 0, 0, 0), (158, .iload_n 3, 0, 0, 0, 0), (159, .iload 4, 0, 0, 0, 0), (161, .iconst 5, 5, 0, 0, 0), (162, .invokevirtual 29, 312, 6, 16, 5), (165, .istore 15, 0, 0, 0, 0), (167, .iload 15, 0, 0, 0, 0), (169, .ifCond .ge 49, 0, 0, 218, 0), (172, .iload 15, 0, 0, 0, 0), (174, .bipush (-5), 5, 1, 0, 0), (176, .if_icmp .ne 40, 0, 0, 216, 0), (179, .aload_n 0, 0, 0, 0, 0), (180, .iload_n 3, 0, 0, 0, 0), (181, .iload 4, 0, 0, 0, 0), (183, .iconst 0, 0, 0, 0, 0), (184, .invokevirtual 50, 479, 5, 16, 4), (187, .bipush (-6), 6, 1, 0, 0), (189, .if_icmp .ne 23, 0, 0, 212, 0), (192, .iload 13, 0, 0, 0, 0), (194, .bipush (-6), 6, 1, 0, 0), (196, .if_icmp .eq 9, 0, 0, 205, 0), (199, .iload 13, 0, 0, 0, 0), (201, .iload_n 2, 0, 0, 0, 0), (202, .if_icmp .ne 10, 0, 0, 212, 0), (205, .iload 14, 0, 0, 0, 0), (207, .ldc 49, 1065353216, 0, 478, 0), (209, .if_icmp .ge 7, 0, 0, 216, 0), (212, .iconst 1, 1, 0, 0, 0), (213, .goto 4, 0, 0, 217, 0)]
theorem so_L_writes_156 : sgOK mi_L_writes gm_L_writes sg_L_writes_156 = true := by decide +kernel
def sg_L_writes_205 : List Ins := [(205, .iload 14, 0, 0, 0, 0), (207, .ldc 49, 1065353216, 0, 478, 0), (209, .if_icmp .ge 7, 0, 0, 216, 0), (212, .iconst 1, 1, 0, 0, 0), (213, .goto 4, 0, 0, 217, 0)]
theorem so_L_writes_205 : sgOK mi_L_writes gm_L_writes sg_L_writes_205 = true := by decide +kernel
def sg_L_writes_212 : List Ins := [(212, .iconst 1, 1, 0, 0, 0), (213, .goto 4, 0, 0, 217, 0)]
theorem so_L_writes_212 : sgOK mi_L_writes gm_L_writes sg_L_writes_212 = true := by decide +kernel
def sg_L_writes_216 : List Ins := [(216, .iconst 0, 0, 0, 0, 0), (217, .ireturn, 0, 0, 0, 0)]
theorem so_L_writes_216 : sgOK mi_L_writes gm_L_writes sg_L_writes_216 = true := by decide +kernel
def sg_L_writes_217 : List Ins := [(217, .ireturn, 0, 0, 0, 0)]
theorem so_L_writes_217 : sgOK mi_L_writes gm_L_writes sg_L_writes_217 = true := by decide +kernel
def sg_L_writes_218 : List Ins := [(218, .iload 15, 0, 0, 0, 0), (220, .iload 5, 0, 0, 0, 0), (222, .if_icmp .ne 59, 0, 0, 281, 0), (225, .aload_n 0, 0, 0, 0, 0), (226, .iload 8, 0, 0, 0, 0), (228, .iconst 3, 3, 0, 0, 0), (229, .invokevirtual 56, 428, 4, 16, 3), (232, .iload 7, 0, 0, 0, 0), (234, .if_icmp .ne 47, 0, 0, 281, 0), (237, .aload_n 0, 0, 0, 0, 0), (238, .iload 8, 0, 0, 0, 0), (240, .iconst 1, 1, 0, 0, 0), (241, .invokevirtual 56, 428, 4, 16, 3), (244, .iload 11, 0, 0, 0, 0), (246, .iload 5, 0, 0, 0, 0), (248, .isub, 0, 0, 0, 0), (249, .if_icmp .le 32, 0, 0, 281, 0), (252, .aload_n 0, 0, 0, 0, 0), (253, .iload 8, 0, 0, 0, 0), (255, .iconst 2, 2, 0, 0, 0), (256, .invokevirtual 56, 428, 4, 16, 3), (259, .iload 12, 0, 0, 0, 0), (261, .iload 13, 0, 0, 0, 0), (263, .bipush (-6), 6, 1, 0, 0), (265, .if_icmp .ne 7, 0, 0, 272, 0), (268, .iconst 0, 0, 0, 0, 0), (269, .goto 4, 0, 0, 273, 0)]
theorem so_L_writes_218 : sgOK mi_L_writes gm_L_writes sg_L_writes_218 = true := by decide +kernel
def sg_L_writes_272 : List Ins := [(272, .iconst 1, 1, 0, 0, 0), (273, .isub, 0, 0, 0, 0), (274, .if_icmp .ne 7, 0, 0, 281, 0), (277, .iconst 1, 1, 0, 0, 0), (278, .goto 4, 0, 0, 282, 0)]
theorem so_L_writes_272 : sgOK mi_L_writes gm_L_writes sg_L_writes_272 = true := by decide +kernel
def sg_L_writes_273 : List Ins := [(273, .isub, 0, 0, 0, 0), (274, .if_icmp .ne 7, 0, 0, 281, 0), (277, .iconst 1, 1, 0, 0, 0), (278, .goto 4, 0, 0, 282, 0)]
theorem so_L_writes_273 : sgOK mi_L_writes gm_L_writes sg_L_writes_273 = true := by decide +kernel
def sg_L_writes_281 : List Ins := [(281, .iconst 0, 0, 0, 0, 0), (282, .istore 16, 0, 0, 0, 0), (284, .iload 16, 0, 0, 0, 0), (286, .ifCond .eq 84, 0, 0, 370, 0), (289, .aload_n 0, 0, 0, 0, 0), (290, .iload_n 3, 0, 0, 0, 0), (291, .iload 4, 0, 0, 0, 0), (293, .iconst 0, 0, 0, 0, 0), (294, .invokevirtual 50, 479, 5, 16, 4), (297, .iconst 5, 5, 0, 0, 0), (298, .if_icmp .ne 72, 0, 0, 370, 0), (301, .aload_n 0, 0, 0, 0, 0), (302, .iload_n 3, 0, 0, 0, 0), (303, .iload 4, 0, 0, 0, 0), (305, .iconst 1, 1, 0, 0, 0), (306, .invokevirtual 50, 479, 5, 16, 4), (309, .iload_n 2, 0, 0, 0, 0), (310, .if_icmp .ne 60, 0, 0, 370, 0), (313, .aload_n 0, 0, 0, 0, 0), (314, .iload_n 3, 0, 0, 0, 0), (315, .iload 4, 0, 0, 0, 0), (317, .iconst 3, 3, 0, 0, 0), (318, .invokevirtual 50, 479, 5, 16, 4), (321, .iload 14, 0, 0, 0, 0), (323, .if_icmp .ne 47, 0, 0, 370, 0), (326, .aload_n 0, 0, 0, 0, 0), (327, .iload_n 3, 0, 0, 0, 0), (328, .iload 4, 0, 0, 0, 0), (330, .bipush 6, 6, 0, 0, 0), (332, .invokevirtual 50, 479, 5, 16, 4), (335, .iconst 1, 1, 0, 0, 0), (336, .if_icmp .ne 34, 0, 0, 370, 0), (339, .aload_n 0, 0, 0, 0, 0), (340, .iload_n 2, 0, 0, 0, 0), (341, .iconst 4, 4, 0, 0, 0), (342, .invokevirtual 65, 466, 3, 16, 3), (345, .iload 9, 0, 0, 0, 0), (347, .iconst 1, 1, 0, 0, 0), (348, .iadd, 0, 0, 0, 0), (349, .if_icmp .ne 21, 0, 0, 370, 0), (352, .aload_n 0, 0, 0, 0, 0), (353, .iload_n 2, 0, 0, 0, 0), (354, .iconst 5, 5, 0, 0, 0), (355, .invokevirtual 65, 466, 3, 16, 3), (358, .iload 10, 0, 0, 0, 0), (360, .iload 5, 0, 0, 0, 0), (362, .iadd, 0, 0, 0, 0), (363, .if_icmp .ne 7, 0, 0, 370, 0), (366, .iconst 1, 1, 0, 0, 0), (367, .goto 4, 0, 0, 371, 0)]
theorem so_L_writes_281 : sgOK mi_L_writes gm_L_writes sg_L_writes_281 = true := by decide +kernel
def sg_L_writes_282 : List Ins := [(282, .istore 16, 0, 0, 0, 0), (284, .iload 16, 0, 0, 0, 0), (286, .ifCond .eq 84, 0, 0, 370, 0), (289, .aload_n 0, 0, 0, 0, 0), (290, .iload_n 3, 0, 0, 0, 0), (291, .iload 4, 0, 0, 0, 0), (293, .iconst 0, 0, 0, 0, 0), (294, .invokevirtual 50, 479, 5, 16, 4), (297, .iconst 5, 5, 0, 0, 0), (298, .if_icmp .ne 72, 0, 0, 370, 0), (301, .aload_n 0, 0, 0, 0, 0), (302, .iload_n 3, 0, 0, 0, 0), (303, .iload 4, 0, 0, 0, 0), (305, .iconst 1, 1, 0, 0, 0), (306, .invokevirtual 50, 479, 5, 16, 4), (309, .iload_n 2, 0, 0, 0, 0), (310, .if_icmp .ne 60, 0, 0, 370, 0), (313, .aload_n 0, 0, 0, 0, 0), (314, .iload_n 3, 0, 0, 0, 0), (315, .iload 4, 0, 0, 0, 0), (317, .iconst 3, 3, 0, 0, 0), (318, .invokevirtual 50, 479, 5, 16, 4), (321, .iload 14, 0, 0, 0, 0), (323, .if_icmp .ne 47, 0, 0, 370, 0), (326, .aload_n 0, 0, 0, 0, 0), (327, .iload_n 3, 0, 0, 0, 0), (328, .iload 4, 0, 0, 0, 0), (330, .bipush 6, 6, 0, 0, 0), (332, .invokevirtual 50, 479, 5, 16, 4), (335, .iconst 1, 1, 0, 0, 0), (336, .if_icmp .ne 34, 0, 0, 370, 0), (339, .aload_n 0, 0, 0, 0, 0), (340, .iload_n 2, 0, 0, 0, 0), (341, .iconst 4, 4, 0, 0, 0), (342, .invokevirtual 65, 466, 3, 16, 3), (345, .iload 9, 0, 0, 0, 0), (347, .iconst 1, 1, 0, 0, 0), (348, .iadd, 0, 0, 0, 0), (349, .if_icmp .ne 21, 0, 0, 370, 0), (352, .aload_n 0, 0, 0, 0, 0), (353, .iload_n 2, 0, 0, 0, 0), (354, .iconst 5, 5, 0, 0, 0), (355, .invokevirtual 65, 466, 3, 16, 3), (358, .iload 10, 0, 0, 0, 0), (360, .iload 5, 0, 0, 0, 0), (362, .iadd, 0, 0, 0, 0), (363, .if_icmp .ne 7, 0, 0, 370, 0), (366, .iconst 1, 1, 0, 0, 0), (367, .goto 4, 0, 0, 371, 0)]
theorem so_L_writes_282 : sgOK mi_L_writes gm_L_writes sg_L_writes_282 = true := by decide +kernel
def sg_L_writes_370 : List Ins := [(370, .iconst 0, 0, 0, 0, 0), (371, .istore 16, 0, 0, 0, 0), (373, .iload 16, 0, 0, 0, 0), (375, .ifCond .eq 14, 0, 0, 389, 0), (378, .aload_n 0, 0, 0, 0, 0), (379, .invokevirtual 85, 268, 7, 16, 1), (382, .ifCond .lt 7, 0, 0, 389, 0), (385, .iconst 1, 1, 0, 0, 0), (386, .goto 4, 0, 0, 390, 0)]
theorem so_L_writes_370 : sgOK mi_L_writes gm_L_writes sg_L_writes_370 = true := by decide +kernel
def sg_L_writes_371 : List Ins := [(371, .istore 16, 0, 0, 0, 0), (373, .iload 16, 0, 0, 0, 0), (375, .ifCond .eq 14, 0, 0, 389, 0), (378, .aload_n 0, 0, 0, 0, 0), (379, .invokevirtual 85, 268, 7, 16, 1), (382, .ifCond .lt 7, 0, 0, 389, 0), (385, .iconst 1, 1, 0, 0, 0), (386, .goto 4, 0, 0, 390, 0)]
theorem so_L_writes_371 : sgOK mi_L_writes gm_L_writes sg_L_writes_371 = true := by decide +kernel
def sg_L_writes_389 : List Ins := [(389, .iconst 0, 0, 0, 0, 0), (390, .ireturn, 0, 0, 0, 0)]
theorem so_L_writes_389 : sgOK mi_L_writes gm_L_writes sg_L_writes_389 = true := by decide +kernel
def sg_L_writes_390 : List Ins := [(390, .ireturn, 0, 0, 0, 0)]
theorem so_L_writes_390 : sgOK mi_L_writes gm_L_writes sg_L_writes_390 = true := by decide +kernel
def sgs_L_writes : Nat → Option (List Ins) := fun t => match t with
  | 0 => some sg_L_writes_0
  | 154 => some sg_L_writes_154
  | 156 => some sg_L_writes_156
  | 205 => some sg_L_writes_205
  | 212 => some sg_L_writes_212
  | 216 => some sg_L_writes_216
  | 217 => some sg_L_writes_217
  | 218 => some sg_L_writes_218
  | 272 => some sg_L_writes_272
  | 273 => some sg_L_writes_273
  | 281 => some sg_L_writes_281
  | 282 => some sg_L_writes_282
  | 370 => some sg_L_writes_370
  | 371 => some sg_L_writes_371
  | 389 => some sg_L_writes_389
  | 390 => some sg_L_writes_390
  | _ => none
theorem so_L_writes : ∀ t sg, sgs_L_writes t = some sg → sgOK mi_L_writes gm_L_writes sg = true ∧ segPc sg = t := by
  intro t sg h
  unfold sgs_L_writes at h
  split at h
  · cases h; exact ⟨so_L_writes_0, rfl⟩
  · cases h; exact ⟨so_L_writes_154, rfl⟩
  · cases h; exact ⟨so_L_writes_156, rfl⟩
  · cases h; exact ⟨so_L_writes_205, rfl⟩
  · cases h; exact ⟨so_L_writes_212, rfl⟩
  · cases h; exact ⟨so_L_writes_216, rfl⟩
  · cases h; exact ⟨so_L_writes_217, rfl⟩
  · cases h; exact ⟨so_L_writes_218, rfl⟩
  · cases h; exact ⟨so_L_writes_272, rfl⟩
  · cases h; exact ⟨so_L_writes_273, rfl⟩
  · cases h; exact ⟨so_L_writes_281, rfl⟩
  · cases h; exact ⟨so_L_writes_282, rfl⟩
  · cases h; exact ⟨so_L_writes_370, rfl⟩
  · cases h; exact ⟨so_L_writes_371, rfl⟩
  · cases h; exact ⟨so_L_writes_389, rfl⟩
  · cases h; exact ⟨so_L_writes_390, rfl⟩
  · cases h
def gm_L_fills : List MI := [mi_X6_fills, mi_X6_count, mi_X6_save, mi_X6_ofPlate, mi_X6_bestPlace, mi_X6_promise, mi_X6_write, mi_X6_restore]
def sg_L_fills_0 : List Ins := [(0, .aload_n 0, 0, 0, 0, 0), (1, .iload_n 1, 0, 0, 0, 0), (2, .invokevirtual 88, 559, 0, 16, 2), (5, .istore_n 2, 0, 0, 0, 0), (6, .aload_n 0, 0, 0, 0, 0), (7, .iconst 4, 4, 0, 0, 0), (8, .invokevirtual 46, 264, 1, 16, 2), (11, .ifCond .eq 11, 0, 0, 22, 0), (14, .aload_n 0, 0, 0, 0, 0), (15, .iconst 5, 5, 0, 0, 0), (16, .invokevirtual 46, 264, 1, 16, 2), (19, .ifCond .ne 13, 0, 0, 32, 0), (22, .iload_n 2, 0, 0, 0, 0), (23, .ifCond .lt 7, 0, 0, 30, 0), (26, .iconst 1, 1, 0, 0, 0), (27, .goto 4, 0, 0, 31, 0)]
theorem so_L_fills_0 : sgOK mi_L_fills gm_L_fills sg_L_fills_0 = true := by decide +kernel
def sg_L_fills_22 : List Ins := [(22, .iload_n 2, 0, 0, 0, 0), (23, .ifCond .lt 7, 0, 0, 30, 0), (26, .iconst 1, 1, 0, 0, 0), (27, .goto 4, 0, 0, 31, 0)]
theorem so_L_fills_22 : sgOK mi_L_fills gm_L_fills sg_L_fills_22 = true := by decide +kernel
def sg_L_fills_30 : List Ins := [(30, .iconst 0, 0, 0, 0, 0), (31, .ireturn, 0, 0, 0, 0)]
theorem so_L_fills_30 : sgOK mi_L_fills gm_L_fills sg_L_fills_30 = true := by decide +kernel
def sg_L_fills_31 : List Ins := [(31, .ireturn, 0, 0, 0, 0)]
theorem so_L_fills_31 : sgOK mi_L_fills gm_L_fills sg_L_fills_31 = true := by decide +kernel
def sg_L_fills_32 : List Ins := [(32, .aload_n 0, 0, 0, 0, 0), (33, .iconst 1, 1, 0, 0, 0), (34, .invokevirtual 91, 573, 2, 16, 2), (37, .istore_n 3, 0, 0, 0, 0), (38, .iload_n 2, 0, 0, 0, 0), (39, .aload_n 0, 0, 0, 0, 0), (40, .aload_n 0, 0, 0, 0, 0), (41, .iconst 2, 2, 0, 0, 0), (42, .invokevirtual 46, 264, 1, 16, 2), (45, .iconst 3, 3, 0, 0, 0), (46, .invokevirtual 56, 428, 3, 16, 3), (49, .if_icmp .gt 33, 0, 0, 82, 0), (52, .iload_n 2, 0, 0, 0, 0), (53, .ifCond .ne 7, 0, 0, 60, 0), (56, .iconst 1, 1, 0, 0, 0), (57, .goto 4, 0, 0, 61, 0)]
theorem so_L_fills_32 : sgOK mi_L_fills gm_L_fills sg_L_fills_32 = true := by decide +kernel
def sg_L_fills_60 : List Ins := [(60, .iconst 0, 0, 0, 0, 0), (61, .aload_n 0, 0, 0, 0, 0), (62, .invokevirtual 59, 500, 4, 16, 1), (65, .bipush (-6), 6, 1, 0, 0), (67, .if_icmp .ne 7, 0, 0, 74, 0), (70, .iconst 1, 1, 0, 0, 0), (71, .goto 4, 0, 0, 75, 0)]
theorem so_L_fills_60 : sgOK mi_L_fills gm_L_fills sg_L_fills_60 = true := by decide +kernel
def sg_L_fills_61 : List Ins := [(61, .aload_n 0, 0, 0, 0, 0), (62, .invokevirtual 59, 500, 4, 16, 1), (65, .bipush (-6), 6, 1, 0, 0), (67, .if_icmp .ne 7, 0, 0, 74, 0), (70, .iconst 1, 1, 0, 0, 0), (71, .goto 4, 0, 0, 75, 0)]
theorem so_L_fills_61 : sgOK mi_L_fills gm_L_fills sg_L_fills_61 = true := by decide +kernel
def sg_L_fills_74 : List Ins := [(74, .iconst 0, 0, 0, 0, 0), (75, .if_icmp .ne 7, 0, 0, 82, 0), (78, .iconst 1, 1, 0, 0, 0), (79, .goto 4, 0, 0, 83, 0)]
theorem so_L_fills_74 : sgOK mi_L_fills gm_L_fills sg_L_fills_74 = true := by decide +kernel
def sg_L_fills_75 : List Ins := [(75, .if_icmp .ne 7, 0, 0, 82, 0), (78, .iconst 1, 1, 0, 0, 0), (79, .goto 4, 0, 0, 83, 0)]
theorem so_L_fills_75 : sgOK mi_L_fills gm_L_fills sg_L_fills_75 = true := by decide +kernel
def sg_L_fills_82 : List Ins := [(82, .iconst 0, 0, 0, 0, 0), (83, .istore 4, 0, 0, 0, 0), (85, .iconst 1, 1, 0, 0, 0), (86, .istore 5, 0, 0, 0, 0), (88, .nop, 0, 0, 0, 0)]
theorem so_L_fills_82 : sgOK mi_L_fills gm_L_fills sg_L_fills_82 = true := by decide +kernel
def sg_L_fills_83 : List Ins := [(83, .istore 4, 0, 0, 0, 0), (85, .iconst 1, 1, 0, 0, 0), (86, .istore 5, 0, 0, 0, 0), (88, .nop, 0, 0, 0, 0)]
theorem so_L_fills_83 : sgOK mi_L_fills gm_L_fills sg_L_fills_83 = true := by decide +kernel
def sg_L_fills_88 : List Ins := [(88, .iload 5, 0, 0, 0, 0), (90, .bipush 9, 9, 0, 0, 0), (92, .if_icmp .gt 87, 0, 0, 179, 0), (95, .iload 5, 0, 0, 0, 0), (97, .iload_n 2, 0, 0, 0, 0), (98, .if_icmp .gt 81, 0, 0, 179, 0), (101, .iload 4, 0, 0, 0, 0), (103, .ifCond .eq 76, 0, 0, 179, 0), (106, .aload_n 0, 0, 0, 0, 0), (107, .invokevirtual 59, 500, 4, 16, 1), (110, .istore 6, 0, 0, 0, 0), (112, .iload 6, 0, 0, 0, 0), (114, .ifCond .lt 56, 0, 0, 170, 0), (117, .aload_n 0, 0, 0, 0, 0), (118, .iload_n 1, 0, 0, 0, 0), (119, .iload 6, 0, 0, 0, 0), (121, .bipush 12, 12, 0, 0, 0), (123, .idiv, 0, 0, 0, 0), (124, .iload 6, 0, 0, 0, 0), (126, .bipush 12, 12, 0, 0, 0), (128, .irem, 0, 0, 0, 0), (129, .invokevirtual 33, 365, 5, 16, 4), (132, .ifCond .le 38, 0, 0, 170, 0), (135, .aload_n 0, 0, 0, 0, 0), (136, .iload_n 1, 0, 0, 0, 0), (137, .iload 6, 0, 0, 0, 0), (139, .bipush 12, 12, 0, 0, 0), (141, .idiv, 0, 0, 0, 0), (142, .iload 6, 0, 0, 0, 0), (144, .bipush 12, 12, 0, 0, 0), (146, .irem, 0, 0, 0, 0), (147, .iconst 0, 0, 0, 0, 0), (148, .invokevirtual 29, 312, 6, 16, 5), (151, .ifCond .lt 19, 0, 0, 170, 0), (154, .aload_n 0, 0, 0, 0, 0), (155, .iload_n 1, 0, 0, 0, 0), (156, .invokevirtual 88, 559, 0, 16, 2), (159, .iload_n 2, 0, 0, 0, 0), (160, .iload 5, 0, 0, 0, 0), (162, .isub, 0, 0, 0, 0), (163, .if_icmp .ne 7, 0, 0, 170, 0), (166, .iconst 1, 1, 0, 0, 0), (167, .goto 4, 0, 0, 171, 0)]
theorem so_L_fills_88 : sgOK mi_L_fills gm_L_fills sg_L_fills_88 = true := by decide +kernel
def sg_L_fills_170 : List Ins := [(170, .iconst 0, 0, 0, 0, 0), (171, .istore 4, 0, 0, 0, 0), (173, .iinc 5 1, 1, 0, 0, 0), (176, .goto (-88), 0, 0, 88, 0)]
theorem so_L_fills_170 : sgOK mi_L_fills gm_L_fills sg_L_fills_170 = true := by decide +kernel
def sg_L_fills_171 : List Ins := [(171, .istore 4, 0, 0, 0, 0), (173, .iinc 5 1, 1, 0, 0, 0), (176, .goto (-88), 0, 0, 88, 0)]
theorem so_L_fills_171 : sgOK mi_L_fills gm_L_fills sg_L_fills_171 = true := by decide +kernel
def sg_L_fills_179 : List Ins := [(179, .iload 4, 0, 0, 0, 0), (181, .ifCond .eq 16, 0, 0, 197, 0), (184, .aload_n 0, 0, 0, 0, 0), (185, .iconst 1, 1, 0, 0, 0), (186, .invokevirtual 94, 578, 7, 16, 2), (189, .iload_n 3, 0, 0, 0, 0), (190, .if_icmp .ne 7, 0, 0, 197, 0), (193, .iconst 1, 1, 0, 0, 0), (194, .goto 4, 0, 0, 198, 0)]
theorem so_L_fills_179 : sgOK mi_L_fills gm_L_fills sg_L_fills_179 = true := by decide +kernel
def sg_L_fills_197 : List Ins := [(197, .iconst 0, 0, 0, 0, 0), (198, .ireturn, 0, 0, 0, 0)]
theorem so_L_fills_197 : sgOK mi_L_fills gm_L_fills sg_L_fills_197 = true := by decide +kernel
def sg_L_fills_198 : List Ins := [(198, .ireturn, 0, 0, 0, 0)]
theorem so_L_fills_198 : sgOK mi_L_fills gm_L_fills sg_L_fills_198 = true := by decide +kernel
def sgs_L_fills : Nat → Option (List Ins) := fun t => match t with
  | 0 => some sg_L_fills_0
  | 22 => some sg_L_fills_22
  | 30 => some sg_L_fills_30
  | 31 => some sg_L_fills_31
  | 32 => some sg_L_fills_32
  | 60 => some sg_L_fills_60
  | 61 => some sg_L_fills_61
  | 74 => some sg_L_fills_74
  | 75 => some sg_L_fills_75
  | 82 => some sg_L_fills_82
  | 83 => some sg_L_fills_83
  | 170 => some sg_L_fills_170
  | 171 => some sg_L_fills_171
  | 179 => some sg_L_fills_179
  | 197 => some sg_L_fills_197
  | 198 => some sg_L_fills_198
  | _ => none
theorem so_L_fills : ∀ t sg, sgs_L_fills t = some sg → sgOK mi_L_fills gm_L_fills sg = true ∧ segPc sg = t := by
  intro t sg h
  unfold sgs_L_fills at h
  split at h
  · cases h; exact ⟨so_L_fills_0, rfl⟩
  · cases h; exact ⟨so_L_fills_22, rfl⟩
  · cases h; exact ⟨so_L_fills_30, rfl⟩
  · cases h; exact ⟨so_L_fills_31, rfl⟩
  · cases h; exact ⟨so_L_fills_32, rfl⟩
  · cases h; exact ⟨so_L_fills_60, rfl⟩
  · cases h; exact ⟨so_L_fills_61, rfl⟩
  · cases h; exact ⟨so_L_fills_74, rfl⟩
  · cases h; exact ⟨so_L_fills_75, rfl⟩
  · cases h; exact ⟨so_L_fills_82, rfl⟩
  · cases h; exact ⟨so_L_fills_83, rfl⟩
  · cases h; exact ⟨so_L_fills_170, rfl⟩
  · cases h; exact ⟨so_L_fills_171, rfl⟩
  · cases h; exact ⟨so_L_fills_179, rfl⟩
  · cases h; exact ⟨so_L_fills_197, rfl⟩
  · cases h; exact ⟨so_L_fills_198, rfl⟩
  · cases h
def gm_L_clears : List MI := [mi_X6_count, mi_X6_readableIn, mi_X6_save, mi_X6_lay, mi_X6_pass, mi_X6_ofPlate, mi_X6_restore]
def sg_L_clears_0 : List Ins := [(0, .aload_n 0, 0, 0, 0, 0), (1, .iconst 2, 2, 0, 0, 0), (2, .invokevirtual 46, 264, 0, 16, 2), (5, .istore_n 1, 0, 0, 0, 0), (6, .aload_n 0, 0, 0, 0, 0), (7, .iload_n 1, 0, 0, 0, 0), (8, .invokevirtual 62, 454, 1, 16, 2), (11, .istore_n 2, 0, 0, 0, 0), (12, .iload_n 2, 0, 0, 0, 0), (13, .iconst 1, 1, 0, 0, 0), (14, .if_icmp .lt 18, 0, 0, 32, 0), (17, .iload_n 2, 0, 0, 0, 0), (18, .bipush 48, 48, 0, 0, 0), (20, .if_icmp .gt 12, 0, 0, 32, 0), (23, .aload_n 0, 0, 0, 0, 0), (24, .iconst 1, 1, 0, 0, 0), (25, .invokevirtual 46, 264, 0, 16, 2), (28, .iconst 2, 2, 0, 0, 0), (29, .if_icmp .ge 19, 0, 0, 48, 0), (32, .iload_n 2, 0, 0, 0, 0), (33, .ifCond .ge 9, 0, 0, 42, 0), (36, .iload_n 2, 0, 0, 0, 0), (37, .bipush (-6), 6, 1, 0, 0), (39, .if_icmp .ne 7, 0, 0, 46, 0), (42, .iconst 1, 1, 0, 0, 0), (43, .goto 4, 0, 0, 47, 0)]
theorem so_L_clears_0 : sgOK mi_L_clears gm_L_clears sg_L_clears_0 = true := by decide +kernel
def sg_L_clears_32 : List Ins := [(32, .iload_n 2, 0, 0, 0, 0), (33, .ifCond .ge 9, 0, 0, 42, 0), (36, .iload_n 2, 0, 0, 0, 0), (37, .bipush (-6), 6, 1, 0, 0), (39, .if_icmp .ne 7, 0, 0, 46, 0), (42, .iconst 1, 1, 0, 0, 0), (43, .goto 4, 0, 0, 47, 0)]
theorem so_L_clears_32 : sgOK mi_L_clears gm_L_clears sg_L_clears_32 = true := by decide +kernel
def sg_L_clears_42 : List Ins := [(42, .iconst 1, 1, 0, 0, 0), (43, .goto 4, 0, 0, 47, 0)]
theorem so_L_clears_42 : sgOK mi_L_clears gm_L_clears sg_L_clears_42 = true := by decide +kernel
def sg_L_clears_46 : List Ins := [(46, .iconst 0, 0, 0, 0, 0), (47, .ireturn, 0, 0, 0, 0)]
theorem so_L_clears_46 : sgOK mi_L_clears gm_L_clears sg_L_clears_46 = true := by decide +kernel
def sg_L_clears_47 : List Ins := [(47, .ireturn, 0, 0, 0, 0)]
theorem so_L_clears_47 : sgOK mi_L_clears gm_L_clears sg_L_clears_47 = true := by decide +kernel
def sg_L_clears_48 : List Ins := [(48, .aload_n 0, 0, 0, 0, 0), (49, .iconst 1, 1, 0, 0, 0), (50, .invokevirtual 91, 573, 2, 16, 2), (53, .istore_n 3, 0, 0, 0, 0), (54, .aload_n 0, 0, 0, 0, 0), (55, .iload_n 1, 0, 0, 0, 0), (56, .ifCond .ne 7, 0, 0, 63, 0), (59, .iconst 1, 1, 0, 0, 0), (60, .goto 4, 0, 0, 64, 0)]
theorem so_L_clears_48 : sgOK mi_L_clears gm_L_clears sg_L_clears_48 = true := by decide +kernel
def sg_L_clears_63 : List Ins := [(63, .iconst 0, 0, 0, 0, 0), (64, .invokevirtual 22, 288, 3, 16, 2), (67, .iload_n 1, 0, 0, 0, 0), (68, .if_icmp .ne 16, 0, 0, 84, 0), (71, .aload_n 0, 0, 0, 0, 0), (72, .iload_n 1, 0, 0, 0, 0), (73, .invokevirtual 62, 454, 1, 16, 2), (76, .iload_n 2, 0, 0, 0, 0), (77, .if_icmp .ne 7, 0, 0, 84, 0), (80, .iconst 1, 1, 0, 0, 0), (81, .goto 4, 0, 0, 85, 0)]
theorem so_L_clears_63 : sgOK mi_L_clears gm_L_clears sg_L_clears_63 = true := by decide +kernel
def sg_L_clears_64 : List Ins := [(64, .invokevirtual 22, 288, 3, 16, 2), (67, .iload_n 1, 0, 0, 0, 0), (68, .if_icmp .ne 16, 0, 0, 84, 0), (71, .aload_n 0, 0, 0, 0, 0), (72, .iload_n 1, 0, 0, 0, 0), (73, .invokevirtual 62, 454, 1, 16, 2), (76, .iload_n 2, 0, 0, 0, 0), (77, .if_icmp .ne 7, 0, 0, 84, 0), (80, .iconst 1, 1, 0, 0, 0), (81, .goto 4, 0, 0, 85, 0)]
theorem so_L_clears_64 : sgOK mi_L_clears gm_L_clears sg_L_clears_64 = true := by decide +kernel
def sg_L_clears_84 : List Ins := [(84, .iconst 0, 0, 0, 0, 0), (85, .istore 4, 0, 0, 0, 0), (87, .iload 4, 0, 0, 0, 0), (89, .ifCond .eq 77, 0, 0, 166, 0), (92, .iload_n 2, 0, 0, 0, 0), (93, .iconst 1, 1, 0, 0, 0), (94, .if_icmp .eq 13, 0, 0, 107, 0), (97, .aload_n 0, 0, 0, 0, 0), (98, .iload_n 2, 0, 0, 0, 0), (99, .iconst 1, 1, 0, 0, 0), (100, .isub, 0, 0, 0, 0), (101, .invokevirtual 43, 405, 4, 16, 2), (104, .ifCond .le 62, 0, 0, 166, 0), (107, .nop, 0, 0, 0, 0)]
theorem so_L_clears_84 : sgOK mi_L_clears gm_L_clears sg_L_clears_84 = true := by decide +kernel
def sg_L_clears_85 : List Ins := [(85, .istore 4, 0, 0, 0, 0), (87, .iload 4, 0, 0, 0, 0), (89, .ifCond .eq 77, 0, 0, 166, 0), (92, .iload_n 2, 0, 0, 0, 0), (93, .iconst 1, 1, 0, 0, 0), (94, .if_icmp .eq 13, 0, 0, 107, 0), (97, .aload_n 0, 0, 0, 0, 0), (98, .iload_n 2, 0, 0, 0, 0), (99, .iconst 1, 1, 0, 0, 0), (100, .isub, 0, 0, 0, 0), (101, .invokevirtual 43, 405, 4, 16, 2), (104, .ifCond .le 62, 0, 0, 166, 0), (107, .nop, 0, 0, 0, 0)]
theorem so_L_clears_85 : sgOK mi_L_clears gm_L_clears sg_L_clears_85 = true := by decide +kernel
def sg_L_clears_107 : List Ins := [(107, .aload_n 0, 0, 0, 0, 0), (108, .iload_n 1, 0, 0, 0, 0), (109, .iconst 1, 1, 0, 0, 0), (110, .invokevirtual 56, 428, 5, 16, 3), (113, .aload_n 0, 0, 0, 0, 0), (114, .iload_n 1, 0, 0, 0, 0), (115, .iconst 0, 0, 0, 0, 0), (116, .invokevirtual 56, 428, 5, 16, 3), (119, .if_icmp .ge 47, 0, 0, 166, 0), (122, .aload_n 0, 0, 0, 0, 0), (123, .iload_n 1, 0, 0, 0, 0), (124, .invokevirtual 62, 454, 1, 16, 2), (127, .iconst 1, 1, 0, 0, 0), (128, .if_icmp .ne 38, 0, 0, 166, 0), (131, .aload_n 0, 0, 0, 0, 0), (132, .iconst 1, 1, 0, 0, 0), (133, .invokevirtual 43, 405, 4, 16, 2), (136, .ifCond .le 30, 0, 0, 166, 0), (139, .aload_n 0, 0, 0, 0, 0), (140, .iload_n 1, 0, 0, 0, 0), (141, .iconst 1, 1, 0, 0, 0), (142, .invokevirtual 56, 428, 5, 16, 3), (145, .aload_n 0, 0, 0, 0, 0), (146, .iload_n 1, 0, 0, 0, 0), (147, .iconst 0, 0, 0, 0, 0), (148, .invokevirtual 56, 428, 5, 16, 3), (151, .if_icmp .ne 15, 0, 0, 166, 0), (154, .aload_n 0, 0, 0, 0, 0), (155, .iload_n 1, 0, 0, 0, 0), (156, .invokevirtual 62, 454, 1, 16, 2), (159, .ifCond .ne 7, 0, 0, 166, 0), (162, .iconst 1, 1, 0, 0, 0), (163, .goto 4, 0, 0, 167, 0)]
theorem so_L_clears_107 : sgOK mi_L_clears gm_L_clears sg_L_clears_107 = true := by decide +kernel
def sg_L_clears_166 : List Ins := [(166, .iconst 0, 0, 0, 0, 0), (167, .istore 4, 0, 0, 0, 0), (169, .iload 4, 0, 0, 0, 0), (171, .ifCond .eq 16, 0, 0, 187, 0), (174, .aload_n 0, 0, 0, 0, 0), (175, .iconst 1, 1, 0, 0, 0), (176, .invokevirtual 94, 578, 6, 16, 2), (179, .iload_n 3, 0, 0, 0, 0), (180, .if_icmp .ne 7, 0, 0, 187, 0), (183, .iconst 1, 1, 0, 0, 0), (184, .goto 4, 0, 0, 188, 0)]
theorem so_L_clears_166 : sgOK mi_L_clears gm_L_clears sg_L_clears_166 = true := by decide +kernel
def sg_L_clears_167 : List Ins := [(167, .istore 4, 0, 0, 0, 0), (169, .iload 4, 0, 0, 0, 0), (171, .ifCond .eq 16, 0, 0, 187, 0), (174, .aload_n 0, 0, 0, 0, 0), (175, .iconst 1, 1, 0, 0, 0), (176, .invokevirtual 94, 578, 6, 16, 2), (179, .iload_n 3, 0, 0, 0, 0), (180, .if_icmp .ne 7, 0, 0, 187, 0), (183, .iconst 1, 1, 0, 0, 0), (184, .goto 4, 0, 0, 188, 0)]
theorem so_L_clears_167 : sgOK mi_L_clears gm_L_clears sg_L_clears_167 = true := by decide +kernel
def sg_L_clears_187 : List Ins := [(187, .iconst 0, 0, 0, 0, 0), (188, .ireturn, 0, 0, 0, 0)]
theorem so_L_clears_187 : sgOK mi_L_clears gm_L_clears sg_L_clears_187 = true := by decide +kernel
def sg_L_clears_188 : List Ins := [(188, .ireturn, 0, 0, 0, 0)]
theorem so_L_clears_188 : sgOK mi_L_clears gm_L_clears sg_L_clears_188 = true := by decide +kernel
def sgs_L_clears : Nat → Option (List Ins) := fun t => match t with
  | 0 => some sg_L_clears_0
  | 32 => some sg_L_clears_32
  | 42 => some sg_L_clears_42
  | 46 => some sg_L_clears_46
  | 47 => some sg_L_clears_47
  | 48 => some sg_L_clears_48
  | 63 => some sg_L_clears_63
  | 64 => some sg_L_clears_64
  | 84 => some sg_L_clears_84
  | 85 => some sg_L_clears_85
  | 166 => some sg_L_clears_166
  | 167 => some sg_L_clears_167
  | 187 => some sg_L_clears_187
  | 188 => some sg_L_clears_188
  | _ => none
theorem so_L_clears : ∀ t sg, sgs_L_clears t = some sg → sgOK mi_L_clears gm_L_clears sg = true ∧ segPc sg = t := by
  intro t sg h
  unfold sgs_L_clears at h
  split at h
  · cases h; exact ⟨so_L_clears_0, rfl⟩
  · cases h; exact ⟨so_L_clears_32, rfl⟩
  · cases h; exact ⟨so_L_clears_42, rfl⟩
  · cases h; exact ⟨so_L_clears_46, rfl⟩
  · cases h; exact ⟨so_L_clears_47, rfl⟩
  · cases h; exact ⟨so_L_clears_48, rfl⟩
  · cases h; exact ⟨so_L_clears_63, rfl⟩
  · cases h; exact ⟨so_L_clears_64, rfl⟩
  · cases h; exact ⟨so_L_clears_84, rfl⟩
  · cases h; exact ⟨so_L_clears_85, rfl⟩
  · cases h; exact ⟨so_L_clears_166, rfl⟩
  · cases h; exact ⟨so_L_clears_167, rfl⟩
  · cases h; exact ⟨so_L_clears_187, rfl⟩
  · cases h; exact ⟨so_L_clears_188, rfl⟩
  · cases h
