/-! the law's stretches of code (printed by wip/p30/gen/segl.py) -/
def mi_L_law : MI := (yL_law, cL_law, 10, ret, room_1, 1, 0, 0, 0, 0, 0)
def gm_L_law : List MI := [mi_X6_init, mi_X6_plate, mi_L_cell, mi_L_low, mi_X6_writer, mi_X6_count, mi_L_print, mi_L_act, mi_X6_undo, mi_L_hangs, mi_L_writes, mi_L_fills, mi_L_clears]
def sg_L_law_0 : List Ins := [(0, .new 17, 6, 19, 18, 8), (3, .dup, 0, 0, 0, 0), (4, .invokespecial 97, 20, 0, 2, 1), (7, .astore_n 1, 0, 0, 0, 0), (8, .aload_n 1, 0, 0, 0, 0), (9, .invokevirtual 16, 215, 1, 16, 1), (12, .ifCond .ne 15, 0, 0, 27, 0), (15, .aload_n 1, 0, 0, 0, 0), (16, .invokevirtual 16, 215, 1, 16, 1), (19, .iconst 1, 1, 0, 0, 0), (20, .if_icmp .ne 7, 0, 0, 27, 0), (23, .iconst 1, 1, 0, 0, 0), (24, .goto 4, 0, 0, 28, 0)]
theorem so_L_law_0 : sgOK mi_L_law gm_L_law sg_L_law_0 = true := by decide +kernel
def sg_L_law_27 : List Ins := [(27, .iconst 0, 0, 0, 0, 0), (28, .istore_n 2, 0, 0, 0, 0), (29, .iconst 0, 0, 0, 0, 0), (30, .istore_n 3, 0, 0, 0, 0), (31, .nop, 0, 0, 0, 0)]
theorem so_L_law_27 : sgOK mi_L_law gm_L_law sg_L_law_27 = true := by decide +kernel
def sg_L_law_28 : List Ins := [(28, .istore_n 2, 0, 0, 0, 0), (29, .iconst 0, 0, 0, 0, 0), (30, .istore_n 3, 0, 0, 0, 0), (31, .nop, 0, 0, 0, 0)]
theorem so_L_law_28 : sgOK mi_L_law gm_L_law sg_L_law_28 = true := by decide +kernel
def sg_L_law_31 : List Ins := [(31, .iload_n 3, 0, 0, 0, 0), (32, .iconst 3, 3, 0, 0, 0), (33, .if_icmp .ge 38, 0, 0, 71, 0), (36, .iload_n 2, 0, 0, 0, 0), (37, .ifCond .eq 26, 0, 0, 63, 0), (40, .aload_n 1, 0, 0, 0, 0), (41, .iconst 1, 1, 0, 0, 0), (42, .aload_n 0, 0, 0, 0, 0), (43, .iload_n 3, 0, 0, 0, 0), (44, .invokestatic 98, 276, 2, 0, 2), (47, .iconst 5, 5, 0, 0, 0), (48, .invokestatic 10, 281, 3, 0, 2), (51, .iadd, 0, 0, 0, 0), (52, .invokevirtual 102, 256, 4, 16, 2), (55, .iload_n 3, 0, 0, 0, 0), (56, .if_icmp .ne 7, 0, 0, 63, 0), (59, .iconst 1, 1, 0, 0, 0), (60, .goto 4, 0, 0, 64, 0)]
theorem so_L_law_31 : sgOK mi_L_law gm_L_law sg_L_law_31 = true := by decide +kernel
def sg_L_law_63 : List Ins := [(63, .iconst 0, 0, 0, 0, 0), (64, .istore_n 2, 0, 0, 0, 0), (65, .iinc 3 1, 1, 0, 0, 0), (68, .goto (-37), 0, 0, 31, 0)]
theorem so_L_law_63 : sgOK mi_L_law gm_L_law sg_L_law_63 = true := by decide +kernel
def sg_L_law_64 : List Ins := [(64, .istore_n 2, 0, 0, 0, 0), (65, .iinc 3 1, 1, 0, 0, 0), (68, .goto (-37), 0, 0, 31, 0)]
theorem so_L_law_64 : sgOK mi_L_law gm_L_law sg_L_law_64 = true := by decide +kernel
def sg_L_law_71 : List Ins := [(71, .iconst 0, 0, 0, 0, 0), (72, .istore_n 3, 0, 0, 0, 0), (73, .nop, 0, 0, 0, 0)]
theorem so_L_law_71 : sgOK mi_L_law gm_L_law sg_L_law_71 = true := by decide +kernel
def sg_L_law_73 : List Ins := [(73, .iload_n 3, 0, 0, 0, 0), (74, .bipush 22, 22, 0, 0, 0), (76, .if_icmp .ge 275, 0, 0, 351, 0), (79, .iload_n 2, 0, 0, 0, 0), (80, .ifCond .eq 271, 0, 0, 351, 0), (83, .aload_n 0, 0, 0, 0, 0), (84, .iconst 3, 3, 0, 0, 0), (85, .iconst 2, 2, 0, 0, 0), (86, .iload_n 3, 0, 0, 0, 0), (87, .imul, 0, 0, 0, 0), (88, .iadd, 0, 0, 0, 0), (89, .invokestatic 98, 276, 2, 0, 2), (92, .istore 4, 0, 0, 0, 0), (94, .aload_n 0, 0, 0, 0, 0), (95, .iconst 4, 4, 0, 0, 0), (96, .iconst 2, 2, 0, 0, 0), (97, .iload_n 3, 0, 0, 0, 0), (98, .imul, 0, 0, 0, 0), (99, .iadd, 0, 0, 0, 0), (100, .invokestatic 98, 276, 2, 0, 2), (103, .istore 5, 0, 0, 0, 0), (105, .aload_n 1, 0, 0, 0, 0), (106, .bipush 9, 9, 0, 0, 0), (108, .invokevirtual 46, 264, 5, 16, 2), (111, .istore 6, 0, 0, 0, 0), (113, .iload_n 3, 0, 0, 0, 0), (114, .iconst 2, 2, 0, 0, 0), (115, .irem, 0, 0, 0, 0), (116, .ifCond .ne 10, 0, 0, 126, 0), (119, .aload_n 1, 0, 0, 0, 0), (120, .invokestatic 105, 520, 6, 0, 1), (123, .goto 4, 0, 0, 127, 0)]
theorem so_L_law_73 : sgOK mi_L_law gm_L_law sg_L_law_73 = true := by decide +kernel
def sg_L_law_126 : List Ins := [(126, .lconst 0, 0, 0, 0, 0), (127, .lstore 7, 0, 0, 0, 0), (129, .nop, 0, 0, 0, 0)]
theorem so_L_law_126 : sgOK mi_L_law gm_L_law sg_L_law_126 = true := by decide +kernel
def sg_L_law_127 : List Ins := [(127, .lstore 7, 0, 0, 0, 0), (129, .nop, 0, 0, 0, 0)]
theorem so_L_law_127 : sgOK mi_L_law gm_L_law sg_L_law_127 = true := by decide +kernel
def sg_L_law_129 : List Ins := [(129, .aload_n 1, 0, 0, 0, 0), (130, .iload 4, 0, 0, 0, 0), (132, .iload 5, 0, 0, 0, 0), (134, .invokestatic 109, 285, 7, 0, 3), (137, .istore 9, 0, 0, 0, 0), (139, .iload 9, 0, 0, 0, 0), (141, .ifCond .ge 39, 0, 0, 180, 0), (144, .aload_n 1, 0, 0, 0, 0), (145, .bipush 9, 9, 0, 0, 0), (147, .invokevirtual 46, 264, 5, 16, 2), (150, .iload 6, 0, 0, 0, 0), (152, .if_icmp .ne 23, 0, 0, 175, 0), (155, .iload_n 3, 0, 0, 0, 0), (156, .iconst 2, 2, 0, 0, 0), (157, .irem, 0, 0, 0, 0), (158, .ifCond .gt 13, 0, 0, 171, 0), (161, .aload_n 1, 0, 0, 0, 0), (162, .invokestatic 105, 520, 6, 0, 1), (165, .lload 7, 0, 0, 0, 0), (167, .lcmp, 0, 0, 0, 0), (168, .ifCond .ne 7, 0, 0, 175, 0), (171, .iconst 1, 1, 0, 0, 0), (172, .goto 4, 0, 0, 176, 0)]
theorem so_L_law_129 : sgOK mi_L_law gm_L_law sg_L_law_129 = true := by decide +kernel
def sg_L_law_171 : List Ins := [(171, .iconst 1, 1, 0, 0, 0), (172, .goto 4, 0, 0, 176, 0)]
theorem so_L_law_171 : sgOK mi_L_law gm_L_law sg_L_law_171 = true := by decide +kernel
def sg_L_law_175 : List Ins := [(175, .iconst 0, 0, 0, 0, 0), (176, .istore_n 2, 0, 0, 0, 0), (177, .goto 89, 0, 0, 266, 0)]
theorem so_L_law_175 : sgOK mi_L_law gm_L_law sg_L_law_175 = true := by decide +kernel
def sg_L_law_176 : List Ins := [(176, .istore_n 2, 0, 0, 0, 0), (177, .goto 89, 0, 0, 266, 0)]
theorem so_L_law_176 : sgOK mi_L_law gm_L_law sg_L_law_176 = true := by decide +kernel
def sg_L_law_180 : List Ins := [(180, .aload_n 1, 0, 0, 0, 0), (181, .bipush 9, 9, 0, 0, 0), (183, .invokevirtual 46, 264, 5, 16, 2), (186, .iload 6, 0, 0, 0, 0), (188, .bipush 6, 6, 0, 0, 0), (190, .if_icmp .ge 10, 0, 0, 200, 0), (193, .iload 6, 0, 0, 0, 0), (195, .iconst 1, 1, 0, 0, 0), (196, .iadd, 0, 0, 0, 0), (197, .goto 5, 0, 0, 202, 0)]
theorem so_L_law_180 : sgOK mi_L_law gm_L_law sg_L_law_180 = true := by decide +kernel
def sg_L_law_200 : List Ins := [(200, .bipush 6, 6, 0, 0, 0), (202, .if_icmp .ne 7, 0, 0, 209, 0), (205, .iconst 1, 1, 0, 0, 0), (206, .goto 4, 0, 0, 210, 0)]
theorem so_L_law_200 : sgOK mi_L_law gm_L_law sg_L_law_200 = true := by decide +kernel
def sg_L_law_202 : List Ins := [(202, .if_icmp .ne 7, 0, 0, 209, 0), (205, .iconst 1, 1, 0, 0, 0), (206, .goto 4, 0, 0, 210, 0)]
theorem so_L_law_202 : sgOK mi_L_law gm_L_law sg_L_law_202 = true := by decide +kernel
def sg_L_law_209 : List Ins := [(209, .iconst 0, 0, 0, 0, 0), (210, .istore_n 2, 0, 0, 0, 0), (211, .iload_n 2, 0, 0, 0, 0), (212, .ifCond .eq 54, 0, 0, 266, 0), (215, .iload_n 3, 0, 0, 0, 0), (216, .iconst 2, 2, 0, 0, 0), (217, .irem, 0, 0, 0, 0), (218, .ifCond .ne 48, 0, 0, 266, 0), (221, .iload 6, 0, 0, 0, 0), (223, .bipush 6, 6, 0, 0, 0), (225, .if_icmp .ge 41, 0, 0, 266, 0), (228, .aload_n 1, 0, 0, 0, 0), (229, .invokevirtual 85, 268, 8, 16, 1), (232, .iload 6, 0, 0, 0, 0), (234, .if_icmp .ne 30, 0, 0, 264, 0), (237, .aload_n 1, 0, 0, 0, 0), (238, .invokestatic 105, 520, 6, 0, 1), (241, .lload 7, 0, 0, 0, 0), (243, .lcmp, 0, 0, 0, 0), (244, .ifCond .ne 20, 0, 0, 264, 0), (247, .aload_n 1, 0, 0, 0, 0), (248, .iload 4, 0, 0, 0, 0), (250, .iload 5, 0, 0, 0, 0), (252, .invokestatic 109, 285, 7, 0, 3), (255, .iload 9, 0, 0, 0, 0), (257, .if_icmp .ne 7, 0, 0, 264, 0), (260, .iconst 1, 1, 0, 0, 0), (261, .goto 4, 0, 0, 265, 0)]
theorem so_L_law_209 : sgOK mi_L_law gm_L_law sg_L_law_209 = true := by decide +kernel
def sg_L_law_210 : List Ins := [(210, .istore_n 2, 0, 0, 0, 0), (211, .iload_n 2, 0, 0, 0, 0), (212, .ifCond .eq 54, 0, 0, 266, 0), (215, .iload_n 3, 0, 0, 0, 0), (216, .iconst 2, 2, 0, 0, 0), (217, .irem, 0, 0, 0, 0), (218, .ifCond .ne 48, 0, 0, 266, 0), (221, .iload 6, 0, 0, 0, 0), (223, .bipush 6, 6, 0, 0, 0), (225, .if_icmp .ge 41, 0, 0, 266, 0), (228, .aload_n 1, 0, 0, 0, 0), (229, .invokevirtual 85, 268, 8, 16, 1), (232, .iload 6, 0, 0, 0, 0), (234, .if_icmp .ne 30, 0, 0, 264, 0), (237, .aload_n 1, 0, 0, 0, 0), (238, .invokestatic 105, 520, 6, 0, 1), (241, .lload 7, 0, 0, 0, 0), (243, .lcmp, 0, 0, 0, 0), (244, .ifCond .ne 20, 0, 0, 264, 0), (247, .aload_n 1, 0, 0, 0, 0), (248, .iload 4, 0, 0, 0, 0), (250, .iload 5, 0, 0, 0, 0), (252, .invokestatic 109, 285, 7, 0, 3), (255, .iload 9, 0, 0, 0, 0), (257, .if_icmp .ne 7, 0, 0, 264, 0), (260, .iconst 1, 1, 0, 0, 0), (261, .goto 4, 0, 0, 265, 0)]
theorem so_L_law_210 : sgOK mi_L_law gm_L_law sg_L_law_210 = true := by decide +kernel
def sg_L_law_264 : List Ins := [(264, .iconst 0, 0, 0, 0, 0), (265, .istore_n 2, 0, 0, 0, 0), (266, .nop, 0, 0, 0, 0)]
theorem so_L_law_264 : sgOK mi_L_law gm_L_law sg_L_law_264 = true := by decide +kernel
def sg_L_law_265 : List Ins := [(265, .istore_n 2, 0, 0, 0, 0), (266, .nop, 0, 0, 0, 0)]
theorem so_L_law_265 : sgOK mi_L_law gm_L_law sg_L_law_265 = true := by decide +kernel
def sg_L_law_266 : List Ins := [(266, .iload_n 2, 0, 0, 0, 0), (267, .ifCond .eq 31, 0, 0, 298, 0), (270, .iload_n 3, 0, 0, 0, 0), (271, .iconst 3, 3, 0, 0, 0), (272, .irem, 0, 0, 0, 0), (273, .ifCond .gt 10, 0, 0, 283, 0), (276, .aload_n 1, 0, 0, 0, 0), (277, .invokestatic 113, 425, 9, 0, 1), (280, .ifCond .eq 18, 0, 0, 298, 0), (283, .nop, 0, 0, 0, 0)]
theorem so_L_law_266 : sgOK mi_L_law gm_L_law sg_L_law_266 = true := by decide +kernel
def sg_L_law_283 : List Ins := [(283, .aload_n 1, 0, 0, 0, 0), (284, .iload 4, 0, 0, 0, 0), (286, .iconst 5, 5, 0, 0, 0), (287, .ishr, 0, 0, 0, 0), (288, .invokestatic 116, 535, 10, 0, 2), (291, .ifCond .eq 7, 0, 0, 298, 0), (294, .iconst 1, 1, 0, 0, 0), (295, .goto 4, 0, 0, 299, 0)]
theorem so_L_law_283 : sgOK mi_L_law gm_L_law sg_L_law_283 = true := by decide +kernel
def sg_L_law_298 : List Ins := [(298, .iconst 0, 0, 0, 0, 0), (299, .istore_n 2, 0, 0, 0, 0), (300, .nop, 0, 0, 0, 0)]
theorem so_L_law_298 : sgOK mi_L_law gm_L_law sg_L_law_298 = true := by decide +kernel
def sg_L_law_299 : List Ins := [(299, .istore_n 2, 0, 0, 0, 0), (300, .nop, 0, 0, 0, 0)]
theorem so_L_law_299 : sgOK mi_L_law gm_L_law sg_L_law_299 = true := by decide +kernel
def sg_L_law_300 : List Ins := [(300, .iload_n 2, 0, 0, 0, 0), (301, .ifCond .eq 42, 0, 0, 343, 0), (304, .iload_n 3, 0, 0, 0, 0), (305, .bipush 7, 7, 0, 0, 0), (307, .irem, 0, 0, 0, 0), (308, .ifCond .gt 18, 0, 0, 326, 0), (311, .aload_n 1, 0, 0, 0, 0), (312, .iload 5, 0, 0, 0, 0), (314, .iconst 3, 3, 0, 0, 0), (315, .ishr, 0, 0, 0, 0), (316, .iconst 3, 3, 0, 0, 0), (317, .invokestatic 10, 281, 3, 0, 2), (320, .invokestatic 120, 556, 11, 0, 2), (323, .ifCond .eq 20, 0, 0, 343, 0), (326, .nop, 0, 0, 0, 0)]
theorem so_L_law_300 : sgOK mi_L_law gm_L_law sg_L_law_300 = true := by decide +kernel
def sg_L_law_326 : List Ins := [(326, .iload_n 3, 0, 0, 0, 0), (327, .iconst 4, 4, 0, 0, 0), (328, .irem, 0, 0, 0, 0), (329, .ifCond .gt 10, 0, 0, 339, 0), (332, .aload_n 1, 0, 0, 0, 0), (333, .invokestatic 122, 582, 12, 0, 1), (336, .ifCond .eq 7, 0, 0, 343, 0), (339, .iconst 1, 1, 0, 0, 0), (340, .goto 4, 0, 0, 344, 0)]
theorem so_L_law_326 : sgOK mi_L_law gm_L_law sg_L_law_326 = true := by decide +kernel
def sg_L_law_339 : List Ins := [(339, .iconst 1, 1, 0, 0, 0), (340, .goto 4, 0, 0, 344, 0)]
theorem so_L_law_339 : sgOK mi_L_law gm_L_law sg_L_law_339 = true := by decide +kernel
def sg_L_law_343 : List Ins := [(343, .iconst 0, 0, 0, 0, 0), (344, .istore_n 2, 0, 0, 0, 0), (345, .nop, 0, 0, 0, 0)]
theorem so_L_law_343 : sgOK mi_L_law gm_L_law sg_L_law_343 = true := by decide +kernel
def sg_L_law_344 : List Ins := [(344, .istore_n 2, 0, 0, 0, 0), (345, .nop, 0, 0, 0, 0)]
theorem so_L_law_344 : sgOK mi_L_law gm_L_law sg_L_law_344 = true := by decide +kernel
def sg_L_law_345 : List Ins := [(345, .iinc 3 1, 1, 0, 0, 0), (348, .goto (-275), 0, 0, 73, 0)]
theorem so_L_law_345 : sgOK mi_L_law gm_L_law sg_L_law_345 = true := by decide +kernel
def sg_L_law_351 : List Ins := [(351, .iload_n 2, 0, 0, 0, 0), (352, .ifCond .eq 14, 0, 0, 366, 0), (355, .aload_n 1, 0, 0, 0, 0), (356, .invokestatic 113, 425, 9, 0, 1), (359, .ifCond .eq 7, 0, 0, 366, 0), (362, .iconst 1, 1, 0, 0, 0), (363, .goto 4, 0, 0, 367, 0)]
theorem so_L_law_351 : sgOK mi_L_law gm_L_law sg_L_law_351 = true := by decide +kernel
def sg_L_law_366 : List Ins := [(366, .iconst 0, 0, 0, 0, 0), (367, .ireturn, 0, 0, 0, 0)]
theorem so_L_law_366 : sgOK mi_L_law gm_L_law sg_L_law_366 = true := by decide +kernel
def sg_L_law_367 : List Ins := [(367, .ireturn, 0, 0, 0, 0)]
theorem so_L_law_367 : sgOK mi_L_law gm_L_law sg_L_law_367 = true := by decide +kernel
def sgs_L_law : Nat → Option (List Ins) := fun t => match t with
  | 0 => some sg_L_law_0
  | 27 => some sg_L_law_27
  | 28 => some sg_L_law_28
  | 63 => some sg_L_law_63
  | 64 => some sg_L_law_64
  | 71 => some sg_L_law_71
  | 126 => some sg_L_law_126
  | 127 => some sg_L_law_127
  | 171 => some sg_L_law_171
  | 175 => some sg_L_law_175
  | 176 => some sg_L_law_176
  | 180 => some sg_L_law_180
  | 200 => some sg_L_law_200
  | 202 => some sg_L_law_202
  | 209 => some sg_L_law_209
  | 210 => some sg_L_law_210
  | 264 => some sg_L_law_264
  | 265 => some sg_L_law_265
  | 298 => some sg_L_law_298
  | 299 => some sg_L_law_299
  | 339 => some sg_L_law_339
  | 343 => some sg_L_law_343
  | 344 => some sg_L_law_344
  | 351 => some sg_L_law_351
  | 366 => some sg_L_law_366
  | 367 => some sg_L_law_367
  | _ => none
theorem so_L_law : ∀ t sg, sgs_L_law t = some sg → sgOK mi_L_law gm_L_law sg = true ∧ segPc sg = t := by
  intro t sg h
  unfold sgs_L_law at h
  split at h
  · cases h; exact ⟨so_L_law_0, rfl⟩
  · cases h; exact ⟨so_L_law_27, rfl⟩
  · cases h; exact ⟨so_L_law_28, rfl⟩
  · cases h; exact ⟨so_L_law_63, rfl⟩
  · cases h; exact ⟨so_L_law_64, rfl⟩
  · cases h; exact ⟨so_L_law_71, rfl⟩
  · cases h; exact ⟨so_L_law_126, rfl⟩
  · cases h; exact ⟨so_L_law_127, rfl⟩
  · cases h; exact ⟨so_L_law_171, rfl⟩
  · cases h; exact ⟨so_L_law_175, rfl⟩
  · cases h; exact ⟨so_L_law_176, rfl⟩
  · cases h; exact ⟨so_L_law_180, rfl⟩
  · cases h; exact ⟨so_L_law_200, rfl⟩
  · cases h; exact ⟨so_L_law_202, rfl⟩
  · cases h; exact ⟨so_L_law_209, rfl⟩
  · cases h; exact ⟨so_L_law_210, rfl⟩
  · cases h; exact ⟨so_L_law_264, rfl⟩
  · cases h; exact ⟨so_L_law_265, rfl⟩
  · cases h; exact ⟨so_L_law_298, rfl⟩
  · cases h; exact ⟨so_L_law_299, rfl⟩
  · cases h; exact ⟨so_L_law_339, rfl⟩
  · cases h; exact ⟨so_L_law_343, rfl⟩
  · cases h; exact ⟨so_L_law_344, rfl⟩
  · cases h; exact ⟨so_L_law_351, rfl⟩
  · cases h; exact ⟨so_L_law_366, rfl⟩
  · cases h; exact ⟨so_L_law_367, rfl⟩
  · cases h
section PL
variable {G : Gx} {Γ : List (MI × PT)} {L : List (Option Value)} {st : List Value} {S : SS} {cs sl : Nat} {l : Launch} {F : Option Value → SS → Prop} {n : Nat} {R : Room} {K : KT} {E : ET} {kk : List (Option Value) → List Value → SS → Nat → Nat → Prop} {pc z w : Nat}
theorem mT_L_law : mT mi_L_law = ret := rfl
theorem mL_L_law : mL mi_L_law = 10 := rfl
theorem rc_L_law : (mR mi_L_law).cells = 600000 := rfl
theorem rs_L_law : (mR mi_L_law).slots = 7302250 := rfl
theorem wn_L_law_0 : wpN l G mi_L_law Γ F sgs_L_law (n + 1) 0 L st S cs sl = wp G Γ (mR mi_L_law) (wpN l G mi_L_law Γ F sgs_L_law n) (EX mi_L_law F) sg_L_law_0 L st S cs sl := rfl
theorem wn_L_law_27 : wpN l G mi_L_law Γ F sgs_L_law (n + 1) 27 L st S cs sl = wp G Γ (mR mi_L_law) (wpN l G mi_L_law Γ F sgs_L_law n) (EX mi_L_law F) sg_L_law_27 L st S cs sl := rfl
theorem wn_L_law_28 : wpN l G mi_L_law Γ F sgs_L_law (n + 1) 28 L st S cs sl = wp G Γ (mR mi_L_law) (wpN l G mi_L_law Γ F sgs_L_law n) (EX mi_L_law F) sg_L_law_28 L st S cs sl := rfl
theorem wn_L_law_31 : wpN l G mi_L_law Γ F sgs_L_law (n + 1) 31 L st S cs sl = V l G mi_L_law F 31 L st S cs sl := rfl
theorem wn_L_law_63 : wpN l G mi_L_law Γ F sgs_L_law (n + 1) 63 L st S cs sl = wp G Γ (mR mi_L_law) (wpN l G mi_L_law Γ F sgs_L_law n) (EX mi_L_law F) sg_L_law_63 L st S cs sl := rfl
theorem wn_L_law_64 : wpN l G mi_L_law Γ F sgs_L_law (n + 1) 64 L st S cs sl = wp G Γ (mR mi_L_law) (wpN l G mi_L_law Γ F sgs_L_law n) (EX mi_L_law F) sg_L_law_64 L st S cs sl := rfl
theorem wn_L_law_71 : wpN l G mi_L_law Γ F sgs_L_law (n + 1) 71 L st S cs sl = wp G Γ (mR mi_L_law) (wpN l G mi_L_law Γ F sgs_L_law n) (EX mi_L_law F) sg_L_law_71 L st S cs sl := rfl
theorem wn_L_law_73 : wpN l G mi_L_law Γ F sgs_L_law (n + 1) 73 L st S cs sl = V l G mi_L_law F 73 L st S cs sl := rfl
theorem wn_L_law_126 : wpN l G mi_L_law Γ F sgs_L_law (n + 1) 126 L st S cs sl = wp G Γ (mR mi_L_law) (wpN l G mi_L_law Γ F sgs_L_law n) (EX mi_L_law F) sg_L_law_126 L st S cs sl := rfl
theorem wn_L_law_127 : wpN l G mi_L_law Γ F sgs_L_law (n + 1) 127 L st S cs sl = wp G Γ (mR mi_L_law) (wpN l G mi_L_law Γ F sgs_L_law n) (EX mi_L_law F) sg_L_law_127 L st S cs sl := rfl
theorem wn_L_law_129 : wpN l G mi_L_law Γ F sgs_L_law (n + 1) 129 L st S cs sl = V l G mi_L_law F 129 L st S cs sl := rfl
theorem wn_L_law_171 : wpN l G mi_L_law Γ F sgs_L_law (n + 1) 171 L st S cs sl = wp G Γ (mR mi_L_law) (wpN l G mi_L_law Γ F sgs_L_law n) (EX mi_L_law F) sg_L_law_171 L st S cs sl := rfl
theorem wn_L_law_175 : wpN l G mi_L_law Γ F sgs_L_law (n + 1) 175 L st S cs sl = wp G Γ (mR mi_L_law) (wpN l G mi_L_law Γ F sgs_L_law n) (EX mi_L_law F) sg_L_law_175 L st S cs sl := rfl
theorem wn_L_law_176 : wpN l G mi_L_law Γ F sgs_L_law (n + 1) 176 L st S cs sl = wp G Γ (mR mi_L_law) (wpN l G mi_L_law Γ F sgs_L_law n) (EX mi_L_law F) sg_L_law_176 L st S cs sl := rfl
theorem wn_L_law_180 : wpN l G mi_L_law Γ F sgs_L_law (n + 1) 180 L st S cs sl = wp G Γ (mR mi_L_law) (wpN l G mi_L_law Γ F sgs_L_law n) (EX mi_L_law F) sg_L_law_180 L st S cs sl := rfl
theorem wn_L_law_200 : wpN l G mi_L_law Γ F sgs_L_law (n + 1) 200 L st S cs sl = wp G Γ (mR mi_L_law) (wpN l G mi_L_law Γ F sgs_L_law n) (EX mi_L_law F) sg_L_law_200 L st S cs sl := rfl
theorem wn_L_law_202 : wpN l G mi_L_law Γ F sgs_L_law (n + 1) 202 L st S cs sl = wp G Γ (mR mi_L_law) (wpN l G mi_L_law Γ F sgs_L_law n) (EX mi_L_law F) sg_L_law_202 L st S cs sl := rfl
theorem wn_L_law_209 : wpN l G mi_L_law Γ F sgs_L_law (n + 1) 209 L st S cs sl = wp G Γ (mR mi_L_law) (wpN l G mi_L_law Γ F sgs_L_law n) (EX mi_L_law F) sg_L_law_209 L st S cs sl := rfl
theorem wn_L_law_210 : wpN l G mi_L_law Γ F sgs_L_law (n + 1) 210 L st S cs sl = wp G Γ (mR mi_L_law) (wpN l G mi_L_law Γ F sgs_L_law n) (EX mi_L_law F) sg_L_law_210 L st S cs sl := rfl
theorem wn_L_law_264 : wpN l G mi_L_law Γ F sgs_L_law (n + 1) 264 L st S cs sl = wp G Γ (mR mi_L_law) (wpN l G mi_L_law Γ F sgs_L_law n) (EX mi_L_law F) sg_L_law_264 L st S cs sl := rfl
theorem wn_L_law_265 : wpN l G mi_L_law Γ F sgs_L_law (n + 1) 265 L st S cs sl = wp G Γ (mR mi_L_law) (wpN l G mi_L_law Γ F sgs_L_law n) (EX mi_L_law F) sg_L_law_265 L st S cs sl := rfl
theorem wn_L_law_266 : wpN l G mi_L_law Γ F sgs_L_law (n + 1) 266 L st S cs sl = V l G mi_L_law F 266 L st S cs sl := rfl
theorem wn_L_law_283 : wpN l G mi_L_law Γ F sgs_L_law (n + 1) 283 L st S cs sl = V l G mi_L_law F 283 L st S cs sl := rfl
theorem wn_L_law_298 : wpN l G mi_L_law Γ F sgs_L_law (n + 1) 298 L st S cs sl = wp G Γ (mR mi_L_law) (wpN l G mi_L_law Γ F sgs_L_law n) (EX mi_L_law F) sg_L_law_298 L st S cs sl := rfl
theorem wn_L_law_299 : wpN l G mi_L_law Γ F sgs_L_law (n + 1) 299 L st S cs sl = wp G Γ (mR mi_L_law) (wpN l G mi_L_law Γ F sgs_L_law n) (EX mi_L_law F) sg_L_law_299 L st S cs sl := rfl
theorem wn_L_law_300 : wpN l G mi_L_law Γ F sgs_L_law (n + 1) 300 L st S cs sl = V l G mi_L_law F 300 L st S cs sl := rfl
theorem wn_L_law_326 : wpN l G mi_L_law Γ F sgs_L_law (n + 1) 326 L st S cs sl = V l G mi_L_law F 326 L st S cs sl := rfl
theorem wn_L_law_339 : wpN l G mi_L_law Γ F sgs_L_law (n + 1) 339 L st S cs sl = wp G Γ (mR mi_L_law) (wpN l G mi_L_law Γ F sgs_L_law n) (EX mi_L_law F) sg_L_law_339 L st S cs sl := rfl
theorem wn_L_law_343 : wpN l G mi_L_law Γ F sgs_L_law (n + 1) 343 L st S cs sl = wp G Γ (mR mi_L_law) (wpN l G mi_L_law Γ F sgs_L_law n) (EX mi_L_law F) sg_L_law_343 L st S cs sl := rfl
theorem wn_L_law_344 : wpN l G mi_L_law Γ F sgs_L_law (n + 1) 344 L st S cs sl = wp G Γ (mR mi_L_law) (wpN l G mi_L_law Γ F sgs_L_law n) (EX mi_L_law F) sg_L_law_344 L st S cs sl := rfl
theorem wn_L_law_345 : wpN l G mi_L_law Γ F sgs_L_law (n + 1) 345 L st S cs sl = V l G mi_L_law F 345 L st S cs sl := rfl
theorem wn_L_law_351 : wpN l G mi_L_law Γ F sgs_L_law (n + 1) 351 L st S cs sl = wp G Γ (mR mi_L_law) (wpN l G mi_L_law Γ F sgs_L_law n) (EX mi_L_law F) sg_L_law_351 L st S cs sl := rfl
theorem wn_L_law_366 : wpN l G mi_L_law Γ F sgs_L_law (n + 1) 366 L st S cs sl = wp G Γ (mR mi_L_law) (wpN l G mi_L_law Γ F sgs_L_law n) (EX mi_L_law F) sg_L_law_366 L st S cs sl := rfl
theorem wn_L_law_367 : wpN l G mi_L_law Γ F sgs_L_law (n + 1) 367 L st S cs sl = wp G Γ (mR mi_L_law) (wpN l G mi_L_law Γ F sgs_L_law n) (EX mi_L_law F) sg_L_law_367 L st S cs sl := rfl
theorem xk_bipush_22 : wp1 G Γ R K E kk (pc, .bipush 22, 22, 0, z, w) L st S cs sl = kk L (.int (nI 22) :: st) S cs sl := x_bipush (by decide)
end PL
