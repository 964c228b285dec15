section
/-! ===== the methods of the reference, printed by program out of the listing ===== -/
def m_X12_thrown : aM := (yX12_thrown, cX12_thrown, 1, (Option.some Jvm.ClassFile.FieldType.int), [], [[(0, .aload_n 0, 1, 0, 0), (1, .getfield 3, 4, 0, 0), (4, .ireturn, 5, 0, 0)]])
def m_X12_throwsIf : aM := (yX12_throwsIf, cX12_throwsIf, 3, (Option.some Jvm.ClassFile.FieldType.boolean), [], [[(0, .iload_n 1, 1, 0, 0), (1, .ifCond .eq 8, 4, 9, 0), (4, .aload_n 0, 5, 0, 0), (5, .iload_n 2, 6, 0, 0), (6, .putfield 3, 9, 0, 0), (9, .iload_n 1, 10, 0, 0), (10, .ireturn, 11, 0, 0)]])
def m_X12_in : aM := (yX12_in, cX12_in, 3, (Option.some Jvm.ClassFile.FieldType.boolean), [], [[(0, .iload_n 0, 1, 0, 0), (1, .iload_n 1, 2, 0, 0), (2, .if_icmp .lt 12, 5, 14, 0), (5, .iload_n 0, 6, 0, 0), (6, .iload_n 2, 7, 0, 0), (7, .if_icmp .gt 7, 10, 14, 0), (10, .iconst 1, 11, 0, 1), (11, .goto 4, 14, 15, 0), (14, .iconst 0, 15, 0, 0), (15, .ireturn, 16, 0, 0)]])
def m_X12_has : aM := (yX12_has, cX12_has, 2, (Option.some Jvm.ClassFile.FieldType.boolean), [], [[(0, .iload_n 0, 1, 0, 0), (1, .iload_n 1, 2, 0, 0), (2, .ishr, 3, 0, 0), (3, .iconst 1, 4, 0, 1), (4, .iand, 5, 0, 0), (5, .iconst 1, 6, 0, 1), (6, .if_icmp .ne 7, 9, 13, 0), (9, .iconst 1, 10, 0, 1), (10, .goto 4, 13, 14, 0), (13, .iconst 0, 14, 0, 0), (14, .ireturn, 15, 0, 0)]])
def m_X12_init : aM := (yX12_init, cX12_init, 1, (Option.none : Option Jvm.ClassFile.FieldType), [], [[(0, .aload_n 0, 1, 0, 0), (1, .invokespecial 7, 4, 0, 0), (4, .aload_n 0, 5, 0, 0), (5, .sipush 2033, 8, 0, 2033), (8, .newarray .int, 10, 0, 0), (10, .putfield 13, 13, 0, 0), (13, .aload_n 0, 14, 0, 0), (14, .sipush 1184, 17, 0, 1184), (17, .newarray .int, 19, 0, 0), (19, .putfield 17, 22, 0, 0), (22, .aload_n 0, 23, 0, 0), (23, .sipush 1184, 26, 0, 1184), (26, .newarray .int, 28, 0, 0), (28, .putfield 20, 31, 0, 0), (31, .aload_n 0, 32, 0, 0), (32, .sipush 335, 35, 0, 335), (35, .newarray .int, 37, 0, 0), (37, .putfield 23, 40, 0, 0), (40, .aload_n 0, 41, 0, 0), (41, .sipush 4020, 44, 0, 4020), (44, .newarray .int, 46, 0, 0), (46, .putfield 26, 49, 0, 0), (49, .aload_n 0, 50, 0, 0), (50, .sipush 400, 53, 0, 400), (53, .newarray .byte, 55, 0, 0), (55, .putfield 29, 58, 0, 0), (58, .aload_n 0, 59, 0, 0), (59, .iconst (-1), 60, 0, (-1)), (60, .putfield 33, 63, 0, 0), (63, .aload_n 0, 64, 0, 0)],
  [(64, .iconst 5, 65, 0, 5), (65, .newarray .int, 67, 0, 0), (67, .putfield 36, 70, 0, 0), (70, .aload_n 0, 71, 0, 0), (71, .sipush 400, 74, 0, 400), (74, .newarray .int, 76, 0, 0), (76, .putfield 39, 79, 0, 0), (79, .aload_n 0, 80, 0, 0), (80, .bipush 6, 82, 0, 6), (82, .newarray .int, 84, 0, 0), (84, .putfield 42, 87, 0, 0), (87, .aload_n 0, 88, 0, 0), (88, .bipush 7, 90, 0, 7), (90, .newarray .long, 92, 0, 0), (92, .putfield 45, 95, 0, 0), (95, .aload_n 0, 96, 0, 0), (96, .getfield 13, 99, 0, 0), (99, .iconst 4, 100, 0, 4), (100, .iconst 1, 101, 0, 1), (101, .iastore, 102, 0, 0), (102, .aload_n 0, 103, 0, 0), (103, .getfield 13, 106, 0, 0), (106, .bipush 7, 108, 0, 7), (108, .iconst 2, 109, 0, 2), (109, .iastore, 110, 0, 0), (110, .aload_n 0, 111, 0, 0), (111, .getfield 13, 114, 0, 0), (114, .bipush 8, 116, 0, 8), (116, .iconst 3, 117, 0, 3), (117, .iastore, 118, 0, 0), (118, .aload_n 0, 119, 0, 0), (119, .getfield 13, 122, 0, 0), (122, .bipush 10, 124, 0, 10), (124, .iconst 1, 125, 0, 1), (125, .iastore, 126, 0, 0), (126, .return_, 127, 0, 0)]])
def m_X12_image : aM := (yX12_image, cX12_image, 2, (Option.none : Option Jvm.ClassFile.FieldType), [], [[(0, .aload_n 0, 1, 0, 0), (1, .iconst 0, 2, 0, 0), (2, .putfield 3, 5, 0, 0), (5, .iconst 0, 6, 0, 0), (6, .istore_n 1, 7, 0, 0), (7, .iload_n 1, 8, 0, 0), (8, .sipush 1184, 11, 0, 1184), (11, .if_icmp .ge 21, 14, 32, 0), (14, .aload_n 0, 15, 0, 0), (15, .getfield 17, 18, 0, 0), (18, .iload_n 1, 19, 0, 0), (19, .aload_n 0, 20, 0, 0), (20, .getfield 13, 23, 0, 0), (23, .iload_n 1, 24, 0, 0), (24, .iaload, 25, 0, 0), (25, .iastore, 26, 0, 0), (26, .iinc 1 1, 29, 0, 1), (29, .goto (-22), 32, 7, 0), (32, .aload_n 0, 33, 0, 0), (33, .iconst 1, 34, 0, 1), (34, .putfield 49, 37, 0, 0), (37, .return_, 38, 0, 0)]])
def m_X12_back : aM := (yX12_back, cX12_back, 2, (Option.some Jvm.ClassFile.FieldType.boolean), [], [[(0, .aload_n 0, 1, 0, 0), (1, .iconst 0, 2, 0, 0), (2, .putfield 3, 5, 0, 0), (5, .aload_n 0, 6, 0, 0), (6, .getfield 49, 9, 0, 0), (9, .ifCond .ne 5, 12, 14, 0), (12, .iconst 0, 13, 0, 0), (13, .ireturn, 14, 0, 0), (14, .iconst 0, 15, 0, 0), (15, .istore_n 1, 16, 0, 0), (16, .iload_n 1, 17, 0, 0), (17, .sipush 1184, 20, 0, 1184), (20, .if_icmp .ge 21, 23, 41, 0), (23, .aload_n 0, 24, 0, 0), (24, .getfield 13, 27, 0, 0), (27, .iload_n 1, 28, 0, 0), (28, .aload_n 0, 29, 0, 0), (29, .getfield 17, 32, 0, 0), (32, .iload_n 1, 33, 0, 0), (33, .iaload, 34, 0, 0), (34, .iastore, 35, 0, 0), (35, .iinc 1 1, 38, 0, 1), (38, .goto (-22), 41, 16, 0), (41, .aload_n 0, 42, 0, 0), (42, .iconst 0, 43, 0, 0), (43, .putfield 53, 46, 0, 0), (46, .iconst 1, 47, 0, 1), (47, .ireturn, 48, 0, 0)]])
def m_X12_remembers : aM := (yX12_remembers, cX12_remembers, 2, (Option.none : Option Jvm.ClassFile.FieldType), [], [[(0, .aload_n 0, 1, 0, 0), (1, .getfield 53, 4, 0, 0), (4, .bipush 12, 6, 0, 12), (6, .if_icmp .ne 37, 9, 43, 0), (9, .iconst 0, 10, 0, 0), (10, .istore_n 1, 11, 0, 0), (11, .iload_n 1, 12, 0, 0), (12, .sipush 3685, 15, 0, 3685), (15, .if_icmp .ge 25, 18, 40, 0), (18, .aload_n 0, 19, 0, 0), (19, .getfield 26, 22, 0, 0), (22, .iload_n 1, 23, 0, 0), (23, .aload_n 0, 24, 0, 0), (24, .getfield 26, 27, 0, 0), (27, .iload_n 1, 28, 0, 0), (28, .sipush 335, 31, 0, 335), (31, .iadd, 32, 0, 0), (32, .iaload, 33, 0, 0), (33, .iastore, 34, 0, 0), (34, .iinc 1 1, 37, 0, 1), (37, .goto (-26), 40, 11, 0), (40, .goto 13, 43, 53, 0), (43, .aload_n 0, 44, 0, 0), (44, .dup, 45, 0, 0), (45, .getfield 53, 48, 0, 0), (48, .iconst 1, 49, 0, 1), (49, .iadd, 50, 0, 0), (50, .putfield 53, 53, 0, 0), (53, .iconst 0, 54, 0, 0), (54, .istore_n 1, 55, 0, 0), (55, .iload_n 1, 56, 0, 0), (56, .sipush 335, 59, 0, 335), (59, .if_icmp .ge 32, 62, 91, 0), (62, .aload_n 0, 63, 0, 0), (63, .getfield 26, 66, 0, 0)],
  [(66, .sipush 335, 69, 0, 335), (69, .aload_n 0, 70, 0, 0), (70, .getfield 53, 73, 0, 0), (73, .iconst 1, 74, 0, 1), (74, .isub, 75, 0, 0), (75, .imul, 76, 0, 0), (76, .iload_n 1, 77, 0, 0), (77, .iadd, 78, 0, 0), (78, .aload_n 0, 79, 0, 0), (79, .getfield 13, 82, 0, 0), (82, .iload_n 1, 83, 0, 0), (83, .iaload, 84, 0, 0), (84, .iastore, 85, 0, 0), (85, .iinc 1 1, 88, 0, 1), (88, .goto (-33), 91, 55, 0), (91, .return_, 92, 0, 0)]])
def m_X12_undo : aM := (yX12_undo, cX12_undo, 2, (Option.some Jvm.ClassFile.FieldType.boolean), [], [[(0, .aload_n 0, 1, 0, 0), (1, .iconst 0, 2, 0, 0), (2, .putfield 3, 5, 0, 0), (5, .aload_n 0, 6, 0, 0), (6, .getfield 53, 9, 0, 0), (9, .ifCond .ne 5, 12, 14, 0), (12, .iconst 0, 13, 0, 0), (13, .ireturn, 14, 0, 0), (14, .aload_n 0, 15, 0, 0), (15, .dup, 16, 0, 0), (16, .getfield 53, 19, 0, 0), (19, .iconst 1, 20, 0, 1), (20, .isub, 21, 0, 0), (21, .putfield 53, 24, 0, 0), (24, .iconst 0, 25, 0, 0), (25, .istore_n 1, 26, 0, 0), (26, .iload_n 1, 27, 0, 0), (27, .sipush 335, 30, 0, 335), (30, .if_icmp .ge 30, 33, 60, 0), (33, .aload_n 0, 34, 0, 0), (34, .getfield 13, 37, 0, 0), (37, .iload_n 1, 38, 0, 0), (38, .aload_n 0, 39, 0, 0), (39, .getfield 26, 42, 0, 0), (42, .sipush 335, 45, 0, 335), (45, .aload_n 0, 46, 0, 0), (46, .getfield 53, 49, 0, 0), (49, .imul, 50, 0, 0), (50, .iload_n 1, 51, 0, 0), (51, .iadd, 52, 0, 0), (52, .iaload, 53, 0, 0), (53, .iastore, 54, 0, 0), (54, .iinc 1 1, 57, 0, 1), (57, .goto (-31), 60, 26, 0), (60, .iconst 1, 61, 0, 1), (61, .ireturn, 62, 0, 0)]])
def m_X12_people : aM := (yX12_people, cX12_people, 1, (Option.some Jvm.ClassFile.FieldType.int), [], [[(0, .aload_n 0, 1, 0, 0), (1, .getfield 13, 4, 0, 0), (4, .iconst 0, 5, 0, 0), (5, .iaload, 6, 0, 0), (6, .ireturn, 7, 0, 0)]])
def m_X12_duties : aM := (yX12_duties, cX12_duties, 1, (Option.some Jvm.ClassFile.FieldType.int), [], [[(0, .aload_n 0, 1, 0, 0), (1, .getfield 13, 4, 0, 0), (4, .iconst 1, 5, 0, 1), (5, .iaload, 6, 0, 0), (6, .ireturn, 7, 0, 0)]])
def m_X12_personAt : aM := (yX12_personAt, cX12_personAt, 2, (Option.some Jvm.ClassFile.FieldType.int), [], [[(0, .bipush 11, 2, 0, 11), (2, .iconst 2, 3, 0, 2), (3, .iload_n 0, 4, 0, 0), (4, .imul, 5, 0, 0), (5, .iadd, 6, 0, 0), (6, .iload_n 1, 7, 0, 0), (7, .iadd, 8, 0, 0), (8, .ireturn, 9, 0, 0)]])
def m_X12_ofPerson : aM := (yX12_ofPerson, cX12_ofPerson, 3, (Option.some Jvm.ClassFile.FieldType.int), [], [[(0, .aload_n 0, 1, 0, 0), (1, .getfield 13, 4, 0, 0), (4, .iload_n 1, 5, 0, 0), (5, .iload_n 2, 6, 0, 0), (6, .invokestatic 56, 9, 0, 0), (9, .iaload, 10, 0, 0), (10, .ireturn, 11, 0, 0)]])
def m_X12_at : aM := (yX12_at, cX12_at, 2, (Option.some Jvm.ClassFile.FieldType.int), [], [[(0, .bipush 23, 2, 0, 23), (2, .bipush 6, 4, 0, 6), (4, .iload_n 0, 5, 0, 0), (5, .imul, 6, 0, 0), (6, .iadd, 7, 0, 0), (7, .iload_n 1, 8, 0, 0), (8, .iadd, 9, 0, 0), (9, .ireturn, 10, 0, 0)]])
def m_X12_of : aM := (yX12_of, cX12_of, 3, (Option.some Jvm.ClassFile.FieldType.int), [], [[(0, .aload_n 0, 1, 0, 0), (1, .getfield 13, 4, 0, 0), (4, .iload_n 1, 5, 0, 0), (5, .iload_n 2, 6, 0, 0), (6, .invokestatic 60, 9, 0, 0), (9, .iaload, 10, 0, 0), (10, .ireturn, 11, 0, 0)]])
def m_X12_isWaiting : aM := (yX12_isWaiting, cX12_isWaiting, 2, (Option.some Jvm.ClassFile.FieldType.boolean), [], [[(0, .aload_n 0, 1, 0, 0), (1, .iload_n 1, 2, 0, 0), (2, .iconst 5, 3, 0, 5), (3, .invokevirtual 63, 6, 0, 0), (6, .ifCond .ne 7, 9, 13, 0), (9, .iconst 1, 10, 0, 1), (10, .goto 4, 13, 14, 0), (13, .iconst 0, 14, 0, 0), (14, .ireturn, 15, 0, 0)]])
def m_X12_isDone : aM := (yX12_isDone, cX12_isDone, 2, (Option.some Jvm.ClassFile.FieldType.boolean), [], [[(0, .aload_n 0, 1, 0, 0), (1, .iload_n 1, 2, 0, 0), (2, .iconst 5, 3, 0, 5), (3, .invokevirtual 63, 6, 0, 0), (6, .iconst 1, 7, 0, 1), (7, .if_icmp .ne 7, 10, 14, 0), (10, .iconst 1, 11, 0, 1), (11, .goto 4, 14, 15, 0), (14, .iconst 0, 15, 0, 0), (15, .ireturn, 16, 0, 0)]])
def m_X12_isForgotten : aM := (yX12_isForgotten, cX12_isForgotten, 2, (Option.some Jvm.ClassFile.FieldType.boolean), [], [[(0, .aload_n 0, 1, 0, 0), (1, .iload_n 1, 2, 0, 0), (2, .iconst 5, 3, 0, 5), (3, .invokevirtual 63, 6, 0, 0), (6, .iconst 2, 7, 0, 2), (7, .if_icmp .ne 7, 10, 14, 0), (10, .iconst 1, 11, 0, 1), (11, .goto 4, 14, 15, 0), (14, .iconst 0, 15, 0, 0), (15, .ireturn, 16, 0, 0)]])
def m_X12_noPerson : aM := (yX12_noPerson, cX12_noPerson, 2, (Option.some Jvm.ClassFile.FieldType.boolean), [], [[(0, .iload_n 1, 1, 0, 0), (1, .iconst 0, 2, 0, 0), (2, .aload_n 0, 3, 0, 0), (3, .invokevirtual 66, 6, 0, 0), (6, .iconst 1, 7, 0, 1), (7, .isub, 8, 0, 0), (8, .invokestatic 70, 11, 0, 0), (11, .ifCond .ne 7, 14, 18, 0), (14, .iconst 1, 15, 0, 1), (15, .goto 4, 18, 19, 0), (18, .iconst 0, 19, 0, 0), (19, .ireturn, 20, 0, 0)]])
def m_X12_noDuty : aM := (yX12_noDuty, cX12_noDuty, 2, (Option.some Jvm.ClassFile.FieldType.boolean), [], [[(0, .iload_n 1, 1, 0, 0), (1, .iconst 0, 2, 0, 0), (2, .aload_n 0, 3, 0, 0), (3, .invokevirtual 74, 6, 0, 0), (6, .iconst 1, 7, 0, 1), (7, .isub, 8, 0, 0), (8, .invokestatic 70, 11, 0, 0), (11, .ifCond .ne 7, 14, 18, 0), (14, .iconst 1, 15, 0, 1), (15, .goto 4, 18, 19, 0), (18, .iconst 0, 19, 0, 0), (19, .ireturn, 20, 0, 0)]])
def m_X12_noKerb : aM := (yX12_noKerb, cX12_noKerb, 1, (Option.some Jvm.ClassFile.FieldType.boolean), [], [[(0, .iload_n 0, 1, 0, 0), (1, .iconst 0, 2, 0, 0), (2, .bipush 15, 4, 0, 15), (4, .invokestatic 70, 7, 0, 0), (7, .ifCond .ne 7, 10, 14, 0), (10, .iconst 1, 11, 0, 1), (11, .goto 4, 14, 15, 0), (14, .iconst 0, 15, 0, 0), (15, .ireturn, 16, 0, 0)]])
def m_X12_drawn : aM := (yX12_drawn, cX12_drawn, 2, (Option.some Jvm.ClassFile.FieldType.int), [], [[(0, .aload_n 0, 1, 0, 0), (1, .getfield 13, 4, 0, 0), (4, .bipush 10, 6, 0, 10), (6, .ldc 77, 8, 0, 0), (8, .aload_n 0, 9, 0, 0), (9, .getfield 13, 12, 0, 0), (12, .bipush 10, 14, 0, 10), (14, .iaload, 15, 0, 0), (15, .imul, 16, 0, 0), (16, .sipush 12345, 19, 0, 12345), (19, .iadd, 20, 0, 0), (20, .iastore, 21, 0, 0), (21, .aload_n 0, 22, 0, 0), (22, .getfield 13, 25, 0, 0), (25, .bipush 10, 27, 0, 10), (27, .iaload, 28, 0, 0), (28, .bipush 16, 30, 0, 16), (30, .ishr, 31, 0, 0), (31, .sipush 32767, 34, 0, 32767), (34, .iand, 35, 0, 0), (35, .iload_n 1, 36, 0, 0), (36, .irem, 37, 0, 0), (37, .ireturn, 38, 0, 0)]])
def m_X12_feed : aM := (yX12_feed, cX12_feed, 7, (Option.some Jvm.ClassFile.FieldType.int), [], [[(0, .aload_n 0, 1, 0, 0), (1, .iconst 0, 2, 0, 0), (2, .putfield 3, 5, 0, 0), (5, .aload_n 0, 6, 0, 0), (6, .getfield 78, 9, 0, 0), (9, .bipush 20, 11, 0, 20), (11, .iadd, 12, 0, 0), (12, .sipush 400, 15, 0, 400), (15, .if_icmp .le 5, 18, 20, 0), (18, .iconst (-1), 19, 0, (-1)), (19, .ireturn, 20, 0, 0), (20, .aload_n 0, 21, 0, 0), (21, .getfield 36, 24, 0, 0), (24, .iconst 0, 25, 0, 0), (25, .iload_n 1, 26, 0, 0), (26, .iastore, 27, 0, 0), (27, .aload_n 0, 28, 0, 0), (28, .getfield 36, 31, 0, 0), (31, .iconst 1, 32, 0, 1), (32, .iload_n 2, 33, 0, 0), (33, .iastore, 34, 0, 0), (34, .aload_n 0, 35, 0, 0), (35, .getfield 36, 38, 0, 0), (38, .iconst 2, 39, 0, 2), (39, .iload_n 3, 40, 0, 0), (40, .iastore, 41, 0, 0), (41, .aload_n 0, 42, 0, 0), (42, .getfield 36, 45, 0, 0), (45, .iconst 3, 46, 0, 3), (46, .iload 4, 48, 0, 0), (48, .iastore, 49, 0, 0), (49, .aload_n 0, 50, 0, 0), (50, .getfield 36, 53, 0, 0), (53, .iconst 4, 54, 0, 4), (54, .iload 5, 56, 0, 0), (56, .iastore, 57, 0, 0), (57, .iconst 0, 58, 0, 0), (58, .istore 6, 60, 0, 0), (60, .iload 6, 62, 0, 0), (62, .bipush 20, 64, 0, 20)],
  [(64, .if_icmp .ge 42, 67, 106, 0), (67, .aload_n 0, 68, 0, 0), (68, .getfield 29, 71, 0, 0), (71, .aload_n 0, 72, 0, 0), (72, .getfield 78, 75, 0, 0), (75, .iload 6, 77, 0, 0), (77, .iadd, 78, 0, 0), (78, .aload_n 0, 79, 0, 0), (79, .getfield 36, 82, 0, 0), (82, .iload 6, 84, 0, 0), (84, .iconst 4, 85, 0, 4), (85, .idiv, 86, 0, 0), (86, .iaload, 87, 0, 0), (87, .bipush 24, 89, 0, 24), (89, .bipush 8, 91, 0, 8), (91, .iload 6, 93, 0, 0), (93, .iconst 4, 94, 0, 4), (94, .irem, 95, 0, 0), (95, .imul, 96, 0, 0), (96, .isub, 97, 0, 0), (97, .ishr, 98, 0, 0), (98, .i2b, 99, 0, 0), (99, .bastore, 100, 0, 0), (100, .iinc 6 1, 103, 0, 1), (103, .goto (-43), 106, 60, 0), (106, .aload_n 0, 107, 0, 0), (107, .dup, 108, 0, 0), (108, .getfield 78, 111, 0, 0), (111, .bipush 20, 113, 0, 20), (113, .iadd, 114, 0, 0), (114, .putfield 78, 117, 0, 0), (117, .aload_n 0, 118, 0, 0), (118, .getfield 78, 121, 0, 0), (121, .ireturn, 122, 0, 0)]])
def m_X12_end : aM := (yX12_end, cX12_end, 2, (Option.some Jvm.ClassFile.FieldType.boolean), [], [[(0, .aload_n 0, 1, 0, 0), (1, .iconst 0, 2, 0, 0), (2, .putfield 3, 5, 0, 0), (5, .iload_n 1, 6, 0, 0), (6, .ifCond .lt 11, 9, 17, 0), (9, .iload_n 1, 10, 0, 0), (10, .aload_n 0, 11, 0, 0), (11, .getfield 78, 14, 0, 0), (14, .if_icmp .le 5, 17, 19, 0), (17, .iconst 0, 18, 0, 0), (18, .ireturn, 19, 0, 0), (19, .aload_n 0, 20, 0, 0), (20, .iload_n 1, 21, 0, 0), (21, .putfield 78, 24, 0, 0), (24, .iconst 1, 25, 0, 1), (25, .ireturn, 26, 0, 0)]])
def m_X12_isAt : aM := (yX12_isAt, cX12_isAt, 3, (Option.some Jvm.ClassFile.FieldType.boolean), [], [[(0, .aload_n 0, 1, 0, 0), (1, .getfield 81, 4, 0, 0), (4, .aload_n 0, 5, 0, 0), (5, .getfield 84, 8, 0, 0), (8, .if_icmp .ge 33, 11, 41, 0), (11, .aload_n 0, 12, 0, 0), (12, .getfield 29, 15, 0, 0), (15, .aload_n 0, 16, 0, 0), (16, .getfield 81, 19, 0, 0), (19, .baload, 20, 0, 0), (20, .iload_n 1, 21, 0, 0), (21, .if_icmp .lt 20, 24, 41, 0), (24, .aload_n 0, 25, 0, 0), (25, .getfield 29, 28, 0, 0), (28, .aload_n 0, 29, 0, 0), (29, .getfield 81, 32, 0, 0), (32, .baload, 33, 0, 0), (33, .iload_n 2, 34, 0, 0), (34, .if_icmp .gt 7, 37, 41, 0), (37, .iconst 1, 38, 0, 1), (38, .goto 4, 41, 42, 0), (41, .iconst 0, 42, 0, 0), (42, .ireturn, 43, 0, 0)]])
def m_X12_blanks : aM := (yX12_blanks, cX12_blanks, 1, (Option.none : Option Jvm.ClassFile.FieldType), [], [[(0, .aload_n 0, 1, 0, 0), (1, .bipush 32, 3, 0, 32), (3, .bipush 32, 5, 0, 32), (5, .invokevirtual 87, 8, 0, 0), (8, .ifCond .eq 16, 11, 24, 0), (11, .aload_n 0, 12, 0, 0), (12, .dup, 13, 0, 0), (13, .getfield 81, 16, 0, 0), (16, .iconst 1, 17, 0, 1), (17, .iadd, 18, 0, 0), (18, .putfield 81, 21, 0, 0), (21, .goto (-21), 24, 0, 0), (24, .aload_n 0, 25, 0, 0), (25, .aload_n 0, 26, 0, 0), (26, .getfield 81, 29, 0, 0), (29, .putfield 91, 32, 0, 0), (32, .return_, 33, 0, 0)]])
def m_X12_letters : aM := (yX12_letters, cX12_letters, 1, (Option.none : Option Jvm.ClassFile.FieldType), [], [[(0, .aload_n 0, 1, 0, 0), (1, .invokevirtual 94, 4, 0, 0), (4, .aload_n 0, 5, 0, 0), (5, .bipush 97, 7, 0, 97), (7, .bipush 122, 9, 0, 122), (9, .invokevirtual 87, 12, 0, 0), (12, .ifCond .eq 16, 15, 28, 0), (15, .aload_n 0, 16, 0, 0), (16, .dup, 17, 0, 0), (17, .getfield 81, 20, 0, 0), (20, .iconst 1, 21, 0, 1), (21, .iadd, 22, 0, 0), (22, .putfield 81, 25, 0, 0), (25, .goto (-21), 28, 4, 0), (28, .return_, 29, 0, 0)]])
def m_X12_isWord : aM := (yX12_isWord, cX12_isWord, 4, (Option.some Jvm.ClassFile.FieldType.boolean), [], [[(0, .aload_n 0, 1, 0, 0), (1, .getfield 81, 4, 0, 0), (4, .aload_n 0, 5, 0, 0), (5, .getfield 91, 8, 0, 0), (8, .isub, 9, 0, 0), (9, .aload_n 1, 10, 0, 0), (10, .invokevirtual 97, 13, 0, 0), (13, .if_icmp .ne 7, 16, 20, 0), (16, .iconst 1, 17, 0, 1), (17, .goto 4, 20, 21, 0), (20, .iconst 0, 21, 0, 0), (21, .istore_n 2, 22, 0, 0), (22, .iconst 0, 23, 0, 0), (23, .istore_n 3, 24, 0, 0), (24, .iload_n 2, 25, 0, 0), (25, .ifCond .eq 42, 28, 67, 0), (28, .iload_n 3, 29, 0, 0), (29, .aload_n 1, 30, 0, 0), (30, .invokevirtual 97, 33, 0, 0), (33, .if_icmp .ge 34, 36, 67, 0), (36, .aload_n 0, 37, 0, 0), (37, .getfield 29, 40, 0, 0), (40, .aload_n 0, 41, 0, 0), (41, .getfield 91, 44, 0, 0), (44, .iload_n 3, 45, 0, 0), (45, .iadd, 46, 0, 0), (46, .baload, 47, 0, 0), (47, .aload_n 1, 48, 0, 0), (48, .iload_n 3, 49, 0, 0), (49, .invokevirtual 102, 52, 0, 0), (52, .if_icmp .ne 7, 55, 59, 0), (55, .iconst 1, 56, 0, 1), (56, .goto 4, 59, 60, 0), (59, .iconst 0, 60, 0, 0), (60, .istore_n 2, 61, 0, 0), (61, .iinc 3 1, 64, 0, 1)],
  [(64, .goto (-40), 67, 24, 0), (67, .iload_n 2, 68, 0, 0), (68, .ireturn, 69, 0, 0)]])
def m_X12_passes : aM := (yX12_passes, cX12_passes, 2, (Option.some Jvm.ClassFile.FieldType.boolean), [], [[(0, .aload_n 0, 1, 0, 0), (1, .invokevirtual 106, 4, 0, 0), (4, .aload_n 0, 5, 0, 0), (5, .aload_n 1, 6, 0, 0), (6, .invokevirtual 109, 9, 0, 0), (9, .ifCond .eq 5, 12, 14, 0), (12, .iconst 1, 13, 0, 1), (13, .ireturn, 14, 0, 0), (14, .aload_n 0, 15, 0, 0), (15, .aload_n 0, 16, 0, 0), (16, .getfield 91, 19, 0, 0), (19, .putfield 81, 22, 0, 0), (22, .iconst 0, 23, 0, 0), (23, .ireturn, 24, 0, 0)]])
def m_X12_sign : aM := (yX12_sign, cX12_sign, 2, (Option.some Jvm.ClassFile.FieldType.boolean), [], [[(0, .aload_n 0, 1, 0, 0), (1, .invokevirtual 94, 4, 0, 0), (4, .aload_n 0, 5, 0, 0), (5, .iload_n 1, 6, 0, 0), (6, .iload_n 1, 7, 0, 0), (7, .invokevirtual 87, 10, 0, 0), (10, .ifCond .ne 5, 13, 15, 0), (13, .iconst 0, 14, 0, 0), (14, .ireturn, 15, 0, 0), (15, .aload_n 0, 16, 0, 0), (16, .dup, 17, 0, 0), (17, .getfield 81, 20, 0, 0), (20, .iconst 1, 21, 0, 1), (21, .iadd, 22, 0, 0), (22, .putfield 81, 25, 0, 0), (25, .iconst 1, 26, 0, 1), (26, .ireturn, 27, 0, 0)]])
def m_X12_number : aM := (yX12_number, cX12_number, 4, (Option.some Jvm.ClassFile.FieldType.int), [], [[(0, .aload_n 0, 1, 0, 0), (1, .invokevirtual 94, 4, 0, 0), (4, .iconst 0, 5, 0, 0), (5, .istore_n 3, 6, 0, 0), (6, .aload_n 0, 7, 0, 0), (7, .bipush 48, 9, 0, 48), (9, .bipush 57, 11, 0, 57), (11, .invokevirtual 87, 14, 0, 0), (14, .ifCond .eq 51, 17, 65, 0), (17, .aload_n 0, 18, 0, 0), (18, .getfield 81, 21, 0, 0), (21, .aload_n 0, 22, 0, 0), (22, .getfield 91, 25, 0, 0), (25, .isub, 26, 0, 0), (26, .iconst 3, 27, 0, 3), (27, .if_icmp .ge 23, 30, 50, 0), (30, .bipush 10, 32, 0, 10), (32, .iload_n 3, 33, 0, 0), (33, .imul, 34, 0, 0), (34, .aload_n 0, 35, 0, 0), (35, .getfield 29, 38, 0, 0), (38, .aload_n 0, 39, 0, 0), (39, .getfield 81, 42, 0, 0), (42, .baload, 43, 0, 0), (43, .iadd, 44, 0, 0), (44, .bipush 48, 46, 0, 48), (46, .isub, 47, 0, 0), (47, .goto 4, 50, 51, 0), (50, .iload_n 3, 51, 0, 0), (51, .istore_n 3, 52, 0, 0), (52, .aload_n 0, 53, 0, 0), (53, .dup, 54, 0, 0), (54, .getfield 81, 57, 0, 0), (57, .iconst 1, 58, 0, 1), (58, .iadd, 59, 0, 0), (59, .putfield 81, 62, 0, 0), (62, .goto (-56), 65, 6, 0)],
  [(65, .aload_n 0, 66, 0, 0), (66, .getfield 81, 69, 0, 0), (69, .aload_n 0, 70, 0, 0), (70, .getfield 91, 73, 0, 0), (73, .if_icmp .eq 26, 76, 99, 0), (76, .aload_n 0, 77, 0, 0), (77, .getfield 81, 80, 0, 0), (80, .aload_n 0, 81, 0, 0), (81, .getfield 91, 84, 0, 0), (84, .isub, 85, 0, 0), (85, .iconst 3, 86, 0, 3), (86, .if_icmp .gt 13, 89, 99, 0), (89, .iload_n 3, 90, 0, 0), (90, .iload_n 1, 91, 0, 0), (91, .if_icmp .lt 8, 94, 99, 0), (94, .iload_n 3, 95, 0, 0), (95, .iload_n 2, 96, 0, 0), (96, .if_icmp .le 7, 99, 103, 0), (99, .iconst (-1), 100, 0, (-1)), (100, .goto 4, 103, 104, 0), (103, .iload_n 3, 104, 0, 0), (104, .ireturn, 105, 0, 0)]])
def m_X12_numberBehind : aM := (yX12_numberBehind, cX12_numberBehind, 4, (Option.some Jvm.ClassFile.FieldType.int), [], [[(0, .aload_n 0, 1, 0, 0), (1, .invokevirtual 106, 4, 0, 0), (4, .aload_n 0, 5, 0, 0), (5, .aload_n 1, 6, 0, 0), (6, .invokevirtual 109, 9, 0, 0), (9, .ifCond .eq 12, 12, 21, 0), (12, .aload_n 0, 13, 0, 0), (13, .iload_n 2, 14, 0, 0), (14, .iload_n 3, 15, 0, 0), (15, .invokevirtual 113, 18, 0, 0), (18, .goto 4, 21, 22, 0), (21, .iconst (-1), 22, 0, (-1)), (22, .ireturn, 23, 0, 0)]])
def m_X12_fault : aM := (yX12_fault, cX12_fault, 1, (Option.some Jvm.ClassFile.FieldType.int), [], [[(0, .aload_n 0, 1, 0, 0), (1, .iconst 0, 2, 0, 0), (2, .putfield 3, 5, 0, 0), (5, .aload_n 0, 6, 0, 0), (6, .getfield 33, 9, 0, 0), (9, .ireturn, 10, 0, 0)]])
def m_X12_uses : aM := (yX12_uses, cX12_uses, 1, (Option.none : Option Jvm.ClassFile.FieldType), [], [[(0, .aload_n 0, 1, 0, 0), (1, .iconst 0, 2, 0, 0), (2, .putfield 3, 5, 0, 0), (5, .aload_n 0, 6, 0, 0), (6, .aload_n 0, 7, 0, 0), (7, .getfield 78, 10, 0, 0), (10, .putfield 84, 13, 0, 0), (13, .aload_n 0, 14, 0, 0), (14, .iconst 0, 15, 0, 0), (15, .putfield 78, 18, 0, 0), (18, .aload_n 0, 19, 0, 0), (19, .iconst 0, 20, 0, 0), (20, .putfield 81, 23, 0, 0), (23, .return_, 24, 0, 0)]])
def m_X12_readNumber : aM := (yX12_readNumber, cX12_readNumber, 5, (Option.some Jvm.ClassFile.FieldType.boolean), [], [[(0, .aload_n 0, 1, 0, 0), (1, .iload_n 2, 2, 0, 0), (2, .iload_n 3, 3, 0, 0), (3, .invokevirtual 113, 6, 0, 0), (6, .istore 4, 8, 0, 0), (8, .aload_n 0, 9, 0, 0), (9, .getfield 13, 12, 0, 0), (12, .iload_n 1, 13, 0, 0), (13, .iload 4, 15, 0, 0), (15, .ifCond .ge 12, 18, 27, 0), (18, .aload_n 0, 19, 0, 0), (19, .getfield 13, 22, 0, 0), (22, .iload_n 1, 23, 0, 0), (23, .iaload, 24, 0, 0), (24, .goto 5, 27, 29, 0), (27, .iload 4, 29, 0, 0), (29, .iastore, 30, 0, 0), (30, .iload 4, 32, 0, 0), (32, .ifCond .lt 7, 35, 39, 0), (35, .iconst 1, 36, 0, 1), (36, .goto 4, 39, 40, 0), (39, .iconst 0, 40, 0, 0), (40, .ireturn, 41, 0, 0)]])
def m_X12_readPerson : aM := (yX12_readPerson, cX12_readPerson, 4, (Option.some Jvm.ClassFile.FieldType.boolean), [], [[(0, .aload_n 0, 1, 0, 0), (1, .invokevirtual 66, 4, 0, 0), (4, .istore_n 1, 5, 0, 0), (5, .iload_n 1, 6, 0, 0), (6, .bipush 6, 8, 0, 6), (8, .if_icmp .ne 5, 11, 13, 0), (11, .iconst 0, 12, 0, 0), (12, .ireturn, 13, 0, 0), (13, .aload_n 0, 14, 0, 0), (14, .ldc 116, 16, 0, 0), (16, .iconst 0, 17, 0, 0), (17, .bipush 15, 19, 0, 15), (19, .invokevirtual 117, 22, 0, 0), (22, .istore_n 2, 23, 0, 0), (23, .iload_n 2, 24, 0, 0), (24, .ifCond .ge 7, 27, 31, 0), (27, .iconst (-1), 28, 0, (-1)), (28, .goto 12, 31, 40, 0), (31, .aload_n 0, 32, 0, 0), (32, .ldc 121, 34, 0, 0), (34, .iconst 0, 35, 0, 0), (35, .bipush 9, 37, 0, 9), (37, .invokevirtual 117, 40, 0, 0), (40, .istore_n 3, 41, 0, 0), (41, .iload_n 3, 42, 0, 0), (42, .ifCond .ge 5, 45, 47, 0), (45, .iconst 0, 46, 0, 0), (46, .ireturn, 47, 0, 0), (47, .aload_n 0, 48, 0, 0), (48, .getfield 13, 51, 0, 0), (51, .iload_n 1, 52, 0, 0), (52, .iconst 0, 53, 0, 0), (53, .invokestatic 56, 56, 0, 0), (56, .iload_n 2, 57, 0, 0), (57, .iastore, 58, 0, 0), (58, .aload_n 0, 59, 0, 0), (59, .getfield 13, 62, 0, 0), (62, .iload_n 1, 63, 0, 0), (63, .iconst 1, 64, 0, 1)],
  [(64, .invokestatic 56, 67, 0, 0), (67, .iload_n 3, 68, 0, 0), (68, .iastore, 69, 0, 0), (69, .aload_n 0, 70, 0, 0), (70, .getfield 13, 73, 0, 0), (73, .iconst 0, 74, 0, 0), (74, .dup2, 75, 0, 0), (75, .iaload, 76, 0, 0), (76, .iconst 1, 77, 0, 1), (77, .iadd, 78, 0, 0), (78, .iastore, 79, 0, 0), (79, .iconst 1, 80, 0, 1), (80, .ireturn, 81, 0, 0)]])
def m_X12_readDuty : aM := (yX12_readDuty, cX12_readDuty, 9, (Option.some Jvm.ClassFile.FieldType.boolean), [], [[(0, .aload_n 0, 1, 0, 0), (1, .invokevirtual 74, 4, 0, 0), (4, .istore_n 1, 5, 0, 0), (5, .iload_n 1, 6, 0, 0), (6, .bipush 12, 8, 0, 12), (8, .if_icmp .ne 5, 11, 13, 0), (11, .iconst 0, 12, 0, 0), (12, .ireturn, 13, 0, 0), (13, .aload_n 0, 14, 0, 0), (14, .ldc 123, 16, 0, 0), (16, .iconst 0, 17, 0, 0), (17, .aload_n 0, 18, 0, 0), (18, .invokevirtual 66, 21, 0, 0), (21, .iconst 1, 22, 0, 1), (22, .isub, 23, 0, 0), (23, .invokevirtual 117, 26, 0, 0), (26, .istore_n 2, 27, 0, 0), (27, .iload_n 2, 28, 0, 0), (28, .ifCond .ge 7, 31, 35, 0), (31, .iconst (-1), 32, 0, (-1)), (32, .goto 12, 35, 44, 0), (35, .aload_n 0, 36, 0, 0), (36, .ldc 124, 38, 0, 0), (38, .iconst 1, 39, 0, 1), (39, .bipush 99, 41, 0, 99), (41, .invokevirtual 117, 44, 0, 0), (44, .istore_n 3, 45, 0, 0), (45, .iload_n 3, 46, 0, 0), (46, .ifCond .ge 5, 49, 51, 0), (49, .iconst 0, 50, 0, 0), (50, .ireturn, 51, 0, 0), (51, .aload_n 0, 52, 0, 0), (52, .ldc 126, 54, 0, 0), (54, .invokevirtual 128, 57, 0, 0), (57, .ifCond .eq 13, 60, 70, 0), (60, .aload_n 0, 61, 0, 0), (61, .iconst 0, 62, 0, 0), (62, .bipush 99, 64, 0, 99)],
  [(64, .invokevirtual 113, 67, 0, 0), (67, .goto 4, 70, 71, 0), (70, .iconst 0, 71, 0, 0), (71, .istore 4, 73, 0, 0), (73, .iload 4, 75, 0, 0), (75, .ifCond .ge 5, 78, 80, 0), (78, .iconst 0, 79, 0, 0), (79, .ireturn, 80, 0, 0), (80, .aload_n 0, 81, 0, 0), (81, .ldc 131, 83, 0, 0), (83, .invokevirtual 128, 86, 0, 0), (86, .istore 5, 88, 0, 0), (88, .iload 5, 90, 0, 0), (90, .ifCond .eq 12, 93, 102, 0), (93, .aload_n 0, 94, 0, 0), (94, .iconst 0, 95, 0, 0), (95, .iconst 5, 96, 0, 5), (96, .invokevirtual 113, 99, 0, 0), (99, .goto 4, 102, 103, 0), (102, .iconst (-1), 103, 0, (-1)), (103, .istore 6, 105, 0, 0), (105, .iload 5, 107, 0, 0), (107, .ifCond .eq 10, 110, 117, 0), (110, .iload 6, 112, 0, 0), (112, .ifCond .ge 5, 115, 117, 0), (115, .iconst 0, 116, 0, 0), (116, .ireturn, 117, 0, 0), (117, .aload_n 0, 118, 0, 0), (118, .ldc 133, 120, 0, 0), (120, .invokevirtual 128, 123, 0, 0), (123, .istore 7, 125, 0, 0), (125, .iload 7, 127, 0, 0), (127, .ifCond .eq 14, 130, 141, 0)],
  [(130, .aload_n 0, 131, 0, 0), (131, .iconst 0, 132, 0, 0), (132, .iload_n 1, 133, 0, 0), (133, .iconst 1, 134, 0, 1), (134, .isub, 135, 0, 0), (135, .invokevirtual 113, 138, 0, 0), (138, .goto 4, 141, 142, 0), (141, .iconst (-1), 142, 0, (-1)), (142, .istore 8, 144, 0, 0), (144, .iload 7, 146, 0, 0), (146, .ifCond .eq 10, 149, 156, 0), (149, .iload 8, 151, 0, 0), (151, .ifCond .ge 5, 154, 156, 0), (154, .iconst 0, 155, 0, 0), (155, .ireturn, 156, 0, 0), (156, .aload_n 0, 157, 0, 0), (157, .getfield 13, 160, 0, 0), (160, .iload_n 1, 161, 0, 0), (161, .iconst 0, 162, 0, 0), (162, .invokestatic 60, 165, 0, 0), (165, .iload_n 2, 166, 0, 0), (166, .iastore, 167, 0, 0), (167, .aload_n 0, 168, 0, 0), (168, .getfield 13, 171, 0, 0), (171, .iload_n 1, 172, 0, 0), (172, .iconst 1, 173, 0, 1), (173, .invokestatic 60, 176, 0, 0), (176, .iload_n 3, 177, 0, 0), (177, .iastore, 178, 0, 0), (178, .aload_n 0, 179, 0, 0), (179, .getfield 13, 182, 0, 0), (182, .iload_n 1, 183, 0, 0), (183, .iconst 2, 184, 0, 2), (184, .invokestatic 60, 187, 0, 0), (187, .iload 4, 189, 0, 0), (189, .iastore, 190, 0, 0), (190, .aload_n 0, 191, 0, 0), (191, .getfield 13, 194, 0, 0)],
  [(194, .iload_n 1, 195, 0, 0), (195, .iconst 3, 196, 0, 3), (196, .invokestatic 60, 199, 0, 0), (199, .iload 6, 201, 0, 0), (201, .iastore, 202, 0, 0), (202, .aload_n 0, 203, 0, 0), (203, .getfield 13, 206, 0, 0), (206, .iload_n 1, 207, 0, 0), (207, .iconst 4, 208, 0, 4), (208, .invokestatic 60, 211, 0, 0), (211, .iload 8, 213, 0, 0), (213, .iastore, 214, 0, 0), (214, .aload_n 0, 215, 0, 0), (215, .getfield 13, 218, 0, 0), (218, .iload_n 1, 219, 0, 0), (219, .iconst 5, 220, 0, 5), (220, .invokestatic 60, 223, 0, 0), (223, .iconst 0, 224, 0, 0), (224, .iastore, 225, 0, 0), (225, .aload_n 0, 226, 0, 0), (226, .getfield 13, 229, 0, 0), (229, .iconst 1, 230, 0, 1), (230, .dup2, 231, 0, 0), (231, .iaload, 232, 0, 0), (232, .iconst 1, 233, 0, 1), (233, .iadd, 234, 0, 0), (234, .iastore, 235, 0, 0), (235, .iconst 1, 236, 0, 1), (236, .ireturn, 237, 0, 0)]])
def m_X12_readForgotten : aM := (yX12_readForgotten, cX12_readForgotten, 2, (Option.some Jvm.ClassFile.FieldType.boolean), [], [[(0, .aload_n 0, 1, 0, 0), (1, .iconst 0, 2, 0, 0), (2, .aload_n 0, 3, 0, 0), (3, .invokevirtual 74, 6, 0, 0), (6, .iconst 1, 7, 0, 1), (7, .isub, 8, 0, 0), (8, .invokevirtual 113, 11, 0, 0), (11, .istore_n 1, 12, 0, 0), (12, .iload_n 1, 13, 0, 0), (13, .ifCond .lt 11, 16, 24, 0), (16, .aload_n 0, 17, 0, 0), (17, .iload_n 1, 18, 0, 0), (18, .invokevirtual 135, 21, 0, 0), (21, .ifCond .ne 5, 24, 26, 0), (24, .iconst 0, 25, 0, 0), (25, .ireturn, 26, 0, 0), (26, .aload_n 0, 27, 0, 0), (27, .getfield 13, 30, 0, 0), (30, .iload_n 1, 31, 0, 0), (31, .iconst 5, 32, 0, 5), (32, .invokestatic 60, 35, 0, 0), (35, .iconst 2, 36, 0, 2), (36, .iastore, 37, 0, 0), (37, .iconst 1, 38, 0, 1), (38, .ireturn, 39, 0, 0)]])
def m_X12_readStreetLine : aM := (yX12_readStreetLine, cX12_readStreetLine, 1, (Option.some Jvm.ClassFile.FieldType.boolean), [], [[(0, .aload_n 0, 1, 0, 0), (1, .ldc 139, 3, 0, 0), (3, .invokevirtual 109, 6, 0, 0), (6, .ifCond .eq 8, 9, 14, 0), (9, .aload_n 0, 10, 0, 0), (10, .invokevirtual 141, 13, 0, 0), (13, .ireturn, 14, 0, 0), (14, .aload_n 0, 15, 0, 0), (15, .ldc 145, 17, 0, 0), (17, .invokevirtual 109, 20, 0, 0), (20, .ifCond .eq 8, 23, 28, 0), (23, .aload_n 0, 24, 0, 0), (24, .invokevirtual 147, 27, 0, 0), (27, .ireturn, 28, 0, 0), (28, .aload_n 0, 29, 0, 0), (29, .ldc 150, 31, 0, 0), (31, .invokevirtual 109, 34, 0, 0), (34, .ifCond .eq 8, 37, 42, 0), (37, .aload_n 0, 38, 0, 0), (38, .invokevirtual 152, 41, 0, 0), (41, .ireturn, 42, 0, 0), (42, .aload_n 0, 43, 0, 0), (43, .ldc 155, 45, 0, 0), (45, .invokevirtual 109, 48, 0, 0), (48, .ifCond .eq 13, 51, 61, 0), (51, .aload_n 0, 52, 0, 0), (52, .bipush 6, 54, 0, 6), (54, .iconst 0, 55, 0, 0), (55, .bipush 100, 57, 0, 100), (57, .invokevirtual 157, 60, 0, 0), (60, .ireturn, 61, 0, 0), (61, .aload_n 0, 62, 0, 0), (62, .ldc 160, 64, 0, 0)],
  [(64, .invokevirtual 109, 67, 0, 0), (67, .ifCond .eq 13, 70, 80, 0), (70, .aload_n 0, 71, 0, 0), (71, .bipush 7, 73, 0, 7), (73, .iconst 1, 74, 0, 1), (74, .bipush 9, 76, 0, 9), (76, .invokevirtual 157, 79, 0, 0), (79, .ireturn, 80, 0, 0), (80, .aload_n 0, 81, 0, 0), (81, .ldc 162, 83, 0, 0), (83, .invokevirtual 109, 86, 0, 0), (86, .ifCond .eq 13, 89, 99, 0), (89, .aload_n 0, 90, 0, 0), (90, .bipush 8, 92, 0, 8), (92, .iconst 0, 93, 0, 0), (93, .bipush 50, 95, 0, 50), (95, .invokevirtual 157, 98, 0, 0), (98, .ireturn, 99, 0, 0), (99, .aload_n 0, 100, 0, 0), (100, .ldc 164, 102, 0, 0), (102, .invokevirtual 109, 105, 0, 0), (105, .ifCond .eq 12, 108, 117, 0), (108, .aload_n 0, 109, 0, 0), (109, .iconst 4, 110, 0, 4), (110, .iconst 1, 111, 0, 1), (111, .bipush 30, 113, 0, 30), (113, .invokevirtual 157, 116, 0, 0), (116, .ireturn, 117, 0, 0), (117, .aload_n 0, 118, 0, 0), (118, .ldc 166, 120, 0, 0), (120, .invokevirtual 109, 123, 0, 0), (123, .ifCond .eq 19, 126, 142, 0), (126, .aload_n 0, 127, 0, 0), (127, .iconst 5, 128, 0, 5)],
  [(128, .iconst 0, 129, 0, 0), (129, .sipush 999, 132, 0, 999), (132, .invokevirtual 157, 135, 0, 0), (135, .ifCond .eq 7, 138, 142, 0), (138, .iconst 1, 139, 0, 1), (139, .goto 4, 142, 143, 0), (142, .iconst 0, 143, 0, 0), (143, .ireturn, 144, 0, 0)]])
def m_X12_emits : aM := (yX12_emits, cX12_emits, 3, (Option.none : Option Jvm.ClassFile.FieldType), [], [[(0, .aload_n 0, 1, 0, 0), (1, .getfield 13, 4, 0, 0), (4, .sipush 1233, 7, 0, 1233), (7, .iconst 2, 8, 0, 2), (8, .aload_n 0, 9, 0, 0), (9, .getfield 168, 12, 0, 0), (12, .imul, 13, 0, 0), (13, .iadd, 14, 0, 0), (14, .iload_n 1, 15, 0, 0), (15, .iastore, 16, 0, 0), (16, .aload_n 0, 17, 0, 0), (17, .getfield 13, 20, 0, 0), (20, .sipush 1233, 23, 0, 1233), (23, .iconst 2, 24, 0, 2), (24, .aload_n 0, 25, 0, 0), (25, .getfield 168, 28, 0, 0), (28, .imul, 29, 0, 0), (29, .iadd, 30, 0, 0), (30, .iconst 1, 31, 0, 1), (31, .iadd, 32, 0, 0), (32, .iload_n 2, 33, 0, 0), (33, .iastore, 34, 0, 0), (34, .aload_n 0, 35, 0, 0), (35, .dup, 36, 0, 0), (36, .getfield 168, 39, 0, 0), (39, .iconst 1, 40, 0, 1), (40, .iadd, 41, 0, 0), (41, .putfield 168, 44, 0, 0), (44, .return_, 45, 0, 0)]])
def m_X12_wordOfPart : aM := (yX12_wordOfPart, cX12_wordOfPart, 1, (Option.some Jvm.ClassFile.FieldType.int), [], [[(0, .aload_n 0, 1, 0, 0), (1, .ldc 145, 3, 0, 0), (3, .invokevirtual 109, 6, 0, 0), (6, .ifCond .eq 5, 9, 11, 0), (9, .iconst 0, 10, 0, 0), (10, .ireturn, 11, 0, 0), (11, .aload_n 0, 12, 0, 0), (12, .ldc 171, 14, 0, 0), (14, .invokevirtual 109, 17, 0, 0), (17, .ifCond .eq 5, 20, 22, 0), (20, .iconst 1, 21, 0, 1), (21, .ireturn, 22, 0, 0), (22, .aload_n 0, 23, 0, 0), (23, .ldc 126, 25, 0, 0), (25, .invokevirtual 109, 28, 0, 0), (28, .ifCond .eq 5, 31, 33, 0), (31, .iconst 2, 32, 0, 2), (32, .ireturn, 33, 0, 0), (33, .aload_n 0, 34, 0, 0), (34, .ldc 131, 36, 0, 0), (36, .invokevirtual 109, 39, 0, 0), (39, .ifCond .eq 5, 42, 44, 0), (42, .iconst 3, 43, 0, 3), (43, .ireturn, 44, 0, 0), (44, .aload_n 0, 45, 0, 0), (45, .ldc 173, 47, 0, 0), (47, .invokevirtual 109, 50, 0, 0), (50, .ifCond .eq 5, 53, 55, 0), (53, .iconst 4, 54, 0, 4), (54, .ireturn, 55, 0, 0), (55, .aload_n 0, 56, 0, 0), (56, .ldc 175, 58, 0, 0), (58, .invokevirtual 109, 61, 0, 0), (61, .ifCond .eq 5, 64, 66, 0)],
  [(64, .iconst 5, 65, 0, 5), (65, .ireturn, 66, 0, 0), (66, .aload_n 0, 67, 0, 0), (67, .ldc 164, 69, 0, 0), (69, .invokevirtual 109, 72, 0, 0), (72, .ifCond .eq 8, 75, 80, 0), (75, .bipush 6, 77, 0, 6), (77, .goto 4, 80, 81, 0), (80, .iconst (-1), 81, 0, (-1)), (81, .ireturn, 82, 0, 0)]])
def m_X12_readPart : aM := (yX12_readPart, cX12_readPart, 3, (Option.some Jvm.ClassFile.FieldType.boolean), [], [[(0, .aload_n 0, 1, 0, 0), (1, .invokevirtual 106, 4, 0, 0), (4, .aload_n 0, 5, 0, 0), (5, .getfield 81, 8, 0, 0), (8, .aload_n 0, 9, 0, 0), (9, .getfield 91, 12, 0, 0), (12, .if_icmp .ne 7, 15, 19, 0), (15, .iconst 1, 16, 0, 1), (16, .goto 4, 19, 20, 0), (19, .iconst 0, 20, 0, 0), (20, .istore_n 1, 21, 0, 0), (21, .iload_n 1, 22, 0, 0), (22, .ifCond .eq 14, 25, 36, 0), (25, .aload_n 0, 26, 0, 0), (26, .iconst 0, 27, 0, 0), (27, .sipush 999, 30, 0, 999), (30, .invokevirtual 113, 33, 0, 0), (33, .goto 7, 36, 40, 0), (36, .aload_n 0, 37, 0, 0), (37, .invokevirtual 177, 40, 0, 0), (40, .istore_n 2, 41, 0, 0), (41, .aload_n 0, 42, 0, 0), (42, .iload_n 1, 43, 0, 0), (43, .ifCond .eq 8, 46, 51, 0), (46, .bipush 9, 48, 0, 9), (48, .goto 4, 51, 52, 0), (51, .iload_n 2, 52, 0, 0), (52, .iload_n 1, 53, 0, 0), (53, .ifCond .eq 7, 56, 60, 0), (56, .iload_n 2, 57, 0, 0), (57, .goto 4, 60, 61, 0), (60, .iconst 0, 61, 0, 0), (61, .invokevirtual 180, 64, 0, 0)],
  [(64, .iload_n 2, 65, 0, 0), (65, .ifCond .lt 7, 68, 72, 0), (68, .iconst 1, 69, 0, 1), (69, .goto 4, 72, 73, 0), (72, .iconst 0, 73, 0, 0), (73, .ireturn, 74, 0, 0)]])
def m_X12_readSum : aM := (yX12_readSum, cX12_readSum, 1, (Option.some Jvm.ClassFile.FieldType.boolean), [], [[(0, .aload_n 0, 1, 0, 0), (1, .invokevirtual 184, 4, 0, 0), (4, .ifCond .ne 5, 7, 9, 0), (7, .iconst 0, 8, 0, 0), (8, .ireturn, 9, 0, 0), (9, .aload_n 0, 10, 0, 0), (10, .bipush 43, 12, 0, 43), (12, .invokevirtual 187, 15, 0, 0), (15, .ifCond .eq 22, 18, 37, 0), (18, .aload_n 0, 19, 0, 0), (19, .invokevirtual 184, 22, 0, 0), (22, .ifCond .ne 5, 25, 27, 0), (25, .iconst 0, 26, 0, 0), (26, .ireturn, 27, 0, 0), (27, .aload_n 0, 28, 0, 0), (28, .bipush 10, 30, 0, 10), (30, .iconst 0, 31, 0, 0), (31, .invokevirtual 180, 34, 0, 0), (34, .goto (-25), 37, 9, 0), (37, .iconst 1, 38, 0, 1), (38, .ireturn, 39, 0, 0)]])
def m_X12_readTag : aM := (yX12_readTag, cX12_readTag, 2, (Option.some Jvm.ClassFile.FieldType.boolean), [], [[(0, .aload_n 0, 1, 0, 0), (1, .invokevirtual 106, 4, 0, 0), (4, .aload_n 0, 5, 0, 0), (5, .ldc 190, 7, 0, 0), (7, .invokevirtual 109, 10, 0, 0), (10, .ifCond .eq 8, 13, 18, 0), (13, .bipush 7, 15, 0, 7), (15, .goto 18, 18, 33, 0), (18, .aload_n 0, 19, 0, 0), (19, .ldc 192, 21, 0, 0), (21, .invokevirtual 109, 24, 0, 0), (24, .ifCond .eq 8, 27, 32, 0), (27, .bipush 8, 29, 0, 8), (29, .goto 4, 32, 33, 0), (32, .iconst (-1), 33, 0, (-1)), (33, .istore_n 1, 34, 0, 0), (34, .iload_n 1, 35, 0, 0), (35, .ifCond .lt 12, 38, 47, 0), (38, .aload_n 0, 39, 0, 0), (39, .iload_n 1, 40, 0, 0), (40, .iconst 0, 41, 0, 0), (41, .invokevirtual 180, 44, 0, 0), (44, .goto 11, 47, 55, 0), (47, .aload_n 0, 48, 0, 0), (48, .aload_n 0, 49, 0, 0), (49, .getfield 91, 52, 0, 0), (52, .putfield 81, 55, 0, 0), (55, .iload_n 1, 56, 0, 0), (56, .ifCond .lt 7, 59, 63, 0), (59, .iconst 1, 60, 0, 1), (60, .goto 4, 63, 64, 0), (63, .iconst 0, 64, 0, 0)],
  [(64, .ireturn, 65, 0, 0)]])
def m_X12_readAtom : aM := (yX12_readAtom, cX12_readAtom, 2, (Option.some Jvm.ClassFile.FieldType.boolean), [], [[(0, .aload_n 0, 1, 0, 0), (1, .bipush 40, 3, 0, 40), (3, .invokevirtual 187, 6, 0, 0), (6, .ifCond .eq 50, 9, 56, 0), (9, .aload_n 0, 10, 0, 0), (10, .getfield 194, 13, 0, 0), (13, .bipush 6, 15, 0, 6), (15, .if_icmp .ne 5, 18, 20, 0), (18, .iconst 0, 19, 0, 0), (19, .ireturn, 20, 0, 0), (20, .aload_n 0, 21, 0, 0), (21, .dup, 22, 0, 0), (22, .getfield 194, 25, 0, 0), (25, .iconst 1, 26, 0, 1), (26, .iadd, 27, 0, 0), (27, .putfield 194, 30, 0, 0), (30, .aload_n 0, 31, 0, 0), (31, .invokevirtual 197, 34, 0, 0), (34, .ifCond .ne 5, 37, 39, 0), (37, .iconst 0, 38, 0, 0), (38, .ireturn, 39, 0, 0), (39, .aload_n 0, 40, 0, 0), (40, .dup, 41, 0, 0), (41, .getfield 194, 44, 0, 0), (44, .iconst 1, 45, 0, 1), (45, .isub, 46, 0, 0), (46, .putfield 194, 49, 0, 0), (49, .aload_n 0, 50, 0, 0), (50, .bipush 41, 52, 0, 41), (52, .invokevirtual 187, 55, 0, 0), (55, .ireturn, 56, 0, 0), (56, .aload_n 0, 57, 0, 0), (57, .ldc 200, 59, 0, 0), (59, .invokevirtual 128, 62, 0, 0), (62, .ifCond .eq 52, 65, 114, 0)],
  [(65, .aload_n 0, 66, 0, 0), (66, .getfield 194, 69, 0, 0), (69, .bipush 6, 71, 0, 6), (71, .if_icmp .ne 5, 74, 76, 0), (74, .iconst 0, 75, 0, 0), (75, .ireturn, 76, 0, 0), (76, .aload_n 0, 77, 0, 0), (77, .dup, 78, 0, 0), (78, .getfield 194, 81, 0, 0), (81, .iconst 1, 82, 0, 1), (82, .iadd, 83, 0, 0), (83, .putfield 194, 86, 0, 0), (86, .aload_n 0, 87, 0, 0), (87, .invokevirtual 202, 90, 0, 0), (90, .ifCond .ne 5, 93, 95, 0), (93, .iconst 0, 94, 0, 0), (94, .ireturn, 95, 0, 0), (95, .aload_n 0, 96, 0, 0), (96, .dup, 97, 0, 0), (97, .getfield 194, 100, 0, 0), (100, .iconst 1, 101, 0, 1), (101, .isub, 102, 0, 0), (102, .putfield 194, 105, 0, 0), (105, .aload_n 0, 106, 0, 0), (106, .bipush 13, 108, 0, 13), (108, .iconst 0, 109, 0, 0), (109, .invokevirtual 180, 112, 0, 0), (112, .iconst 1, 113, 0, 1), (113, .ireturn, 114, 0, 0), (114, .aload_n 0, 115, 0, 0), (115, .invokevirtual 205, 118, 0, 0), (118, .ifCond .eq 5, 121, 123, 0), (121, .iconst 1, 122, 0, 1), (122, .ireturn, 123, 0, 0), (123, .aload_n 0, 124, 0, 0), (124, .invokevirtual 208, 127, 0, 0), (127, .ifCond .ne 5, 130, 132, 0)],
  [(130, .iconst 0, 131, 0, 0), (131, .ireturn, 132, 0, 0), (132, .aload_n 0, 133, 0, 0), (133, .bipush 60, 135, 0, 60), (135, .invokevirtual 187, 138, 0, 0), (138, .istore_n 1, 139, 0, 0), (139, .iload_n 1, 140, 0, 0), (140, .ifCond .ne 12, 143, 152, 0), (143, .aload_n 0, 144, 0, 0), (144, .bipush 62, 146, 0, 62), (146, .invokevirtual 187, 149, 0, 0), (149, .ifCond .eq 10, 152, 159, 0), (152, .aload_n 0, 153, 0, 0), (153, .invokevirtual 208, 156, 0, 0), (156, .ifCond .ne 5, 159, 161, 0), (159, .iconst 0, 160, 0, 0), (160, .ireturn, 161, 0, 0), (161, .aload_n 0, 162, 0, 0), (162, .iload_n 1, 163, 0, 0), (163, .ifCond .eq 8, 166, 171, 0), (166, .bipush 11, 168, 0, 11), (168, .goto 5, 171, 173, 0), (171, .bipush 12, 173, 0, 12), (173, .iconst 0, 174, 0, 0), (174, .invokevirtual 180, 177, 0, 0), (177, .iconst 1, 178, 0, 1), (178, .ireturn, 179, 0, 0)]])
def m_X12_readAllOf : aM := (yX12_readAllOf, cX12_readAllOf, 1, (Option.some Jvm.ClassFile.FieldType.boolean), [], [[(0, .aload_n 0, 1, 0, 0), (1, .invokevirtual 202, 4, 0, 0), (4, .ifCond .ne 5, 7, 9, 0), (7, .iconst 0, 8, 0, 0), (8, .ireturn, 9, 0, 0), (9, .aload_n 0, 10, 0, 0), (10, .ldc 211, 12, 0, 0), (12, .invokevirtual 128, 15, 0, 0), (15, .ifCond .eq 22, 18, 37, 0), (18, .aload_n 0, 19, 0, 0), (19, .invokevirtual 202, 22, 0, 0), (22, .ifCond .ne 5, 25, 27, 0), (25, .iconst 0, 26, 0, 0), (26, .ireturn, 27, 0, 0), (27, .aload_n 0, 28, 0, 0), (28, .bipush 14, 30, 0, 14), (30, .iconst 0, 31, 0, 0), (31, .invokevirtual 180, 34, 0, 0), (34, .goto (-25), 37, 9, 0), (37, .iconst 1, 38, 0, 1), (38, .ireturn, 39, 0, 0)]])
def m_X12_readCond : aM := (yX12_readCond, cX12_readCond, 1, (Option.some Jvm.ClassFile.FieldType.boolean), [], [[(0, .aload_n 0, 1, 0, 0), (1, .invokevirtual 213, 4, 0, 0), (4, .ifCond .ne 5, 7, 9, 0), (7, .iconst 0, 8, 0, 0), (8, .ireturn, 9, 0, 0), (9, .aload_n 0, 10, 0, 0), (10, .ldc 216, 12, 0, 0), (12, .invokevirtual 128, 15, 0, 0), (15, .ifCond .eq 22, 18, 37, 0), (18, .aload_n 0, 19, 0, 0), (19, .invokevirtual 213, 22, 0, 0), (22, .ifCond .ne 5, 25, 27, 0), (25, .iconst 0, 26, 0, 0), (26, .ireturn, 27, 0, 0), (27, .aload_n 0, 28, 0, 0), (28, .bipush 15, 30, 0, 15), (30, .iconst 0, 31, 0, 0), (31, .invokevirtual 180, 34, 0, 0), (34, .goto (-25), 37, 9, 0), (37, .iconst 1, 38, 0, 1), (38, .ireturn, 39, 0, 0)]])
def m_X12_readLawLine : aM := (yX12_readLawLine, cX12_readLawLine, 3, (Option.some Jvm.ClassFile.FieldType.boolean), [], [[(0, .sipush 1185, 3, 0, 1185), (3, .iconst 4, 4, 0, 4), (4, .iload_n 1, 5, 0, 0), (5, .imul, 6, 0, 0), (6, .iadd, 7, 0, 0), (7, .istore_n 2, 8, 0, 0), (8, .aload_n 0, 9, 0, 0), (9, .getfield 13, 12, 0, 0), (12, .iload_n 2, 13, 0, 0), (13, .aload_n 0, 14, 0, 0), (14, .ldc 218, 16, 0, 0), (16, .invokevirtual 109, 19, 0, 0), (19, .ifCond .eq 7, 22, 26, 0), (22, .iconst 0, 23, 0, 0), (23, .goto 30, 26, 53, 0), (26, .aload_n 0, 27, 0, 0), (27, .ldc 220, 29, 0, 0), (29, .invokevirtual 109, 32, 0, 0), (32, .ifCond .eq 7, 35, 39, 0), (35, .iconst 1, 36, 0, 1), (36, .goto 17, 39, 53, 0), (39, .aload_n 0, 40, 0, 0), (40, .ldc 222, 42, 0, 0), (42, .invokevirtual 109, 45, 0, 0), (45, .ifCond .eq 7, 48, 52, 0), (48, .iconst 2, 49, 0, 2), (49, .goto 4, 52, 53, 0), (52, .iconst (-1), 53, 0, (-1)), (53, .iastore, 54, 0, 0), (54, .aload_n 0, 55, 0, 0), (55, .getfield 13, 58, 0, 0), (58, .iload_n 2, 59, 0, 0), (59, .iaload, 60, 0, 0), (60, .ifCond .ge 5, 63, 65, 0), (63, .iconst 0, 64, 0, 0)],
  [(64, .ireturn, 65, 0, 0), (65, .aload_n 0, 66, 0, 0), (66, .getfield 13, 69, 0, 0), (69, .iload_n 2, 70, 0, 0), (70, .iconst 1, 71, 0, 1), (71, .iadd, 72, 0, 0), (72, .aload_n 0, 73, 0, 0), (73, .iconst 0, 74, 0, 0), (74, .bipush 60, 76, 0, 60), (76, .invokevirtual 113, 79, 0, 0), (79, .iastore, 80, 0, 0), (80, .aload_n 0, 81, 0, 0), (81, .getfield 13, 84, 0, 0), (84, .iload_n 2, 85, 0, 0), (85, .iconst 1, 86, 0, 1), (86, .iadd, 87, 0, 0), (87, .iaload, 88, 0, 0), (88, .ifCond .ge 5, 91, 93, 0), (91, .iconst 0, 92, 0, 0), (92, .ireturn, 93, 0, 0), (93, .aload_n 0, 94, 0, 0), (94, .getfield 13, 97, 0, 0), (97, .iload_n 2, 98, 0, 0), (98, .iconst 2, 99, 0, 2), (99, .iadd, 100, 0, 0), (100, .aload_n 0, 101, 0, 0), (101, .getfield 168, 104, 0, 0), (104, .iastore, 105, 0, 0), (105, .aload_n 0, 106, 0, 0), (106, .iconst 0, 107, 0, 0), (107, .putfield 194, 110, 0, 0), (110, .aload_n 0, 111, 0, 0), (111, .ldc 224, 113, 0, 0), (113, .invokevirtual 128, 116, 0, 0), (116, .ifCond .eq 12, 119, 128, 0), (119, .aload_n 0, 120, 0, 0), (120, .invokevirtual 197, 123, 0, 0), (123, .ifCond .ne 5, 126, 128, 0), (126, .iconst 0, 127, 0, 0), (127, .ireturn, 128, 0, 0)],
  [(128, .aload_n 0, 129, 0, 0), (129, .getfield 13, 132, 0, 0), (132, .iload_n 2, 133, 0, 0), (133, .iconst 3, 134, 0, 3), (134, .iadd, 135, 0, 0), (135, .aload_n 0, 136, 0, 0), (136, .getfield 168, 139, 0, 0), (139, .iastore, 140, 0, 0), (140, .iconst 1, 141, 0, 1), (141, .ireturn, 142, 0, 0)]])
def m_X12_readLine : aM := (yX12_readLine, cX12_readLine, 3, (Option.some Jvm.ClassFile.FieldType.boolean), [], [[(0, .aload_n 0, 1, 0, 0), (1, .invokevirtual 106, 4, 0, 0), (4, .iload_n 2, 5, 0, 0), (5, .iload_n 1, 6, 0, 0), (6, .ifCond .eq 8, 9, 14, 0), (9, .bipush 14, 11, 0, 14), (11, .goto 5, 14, 16, 0), (14, .bipush 12, 16, 0, 12), (16, .if_icmp .ge 29, 19, 45, 0), (19, .iload_n 1, 20, 0, 0), (20, .ifCond .eq 13, 23, 33, 0), (23, .aload_n 0, 24, 0, 0), (24, .invokevirtual 226, 27, 0, 0), (27, .ifCond .eq 18, 30, 45, 0), (30, .goto 11, 33, 41, 0), (33, .aload_n 0, 34, 0, 0), (34, .iload_n 2, 35, 0, 0), (35, .invokevirtual 229, 38, 0, 0), (38, .ifCond .eq 7, 41, 45, 0), (41, .iconst 1, 42, 0, 1), (42, .goto 4, 45, 46, 0), (45, .iconst 0, 46, 0, 0), (46, .ireturn, 47, 0, 0)]])
def m_X12_readAll : aM := (yX12_readAll, cX12_readAll, 3, (Option.some Jvm.ClassFile.FieldType.int), [], [[(0, .aload_n 0, 1, 0, 0), (1, .invokevirtual 232, 4, 0, 0), (4, .aload_n 0, 5, 0, 0), (5, .iconst 0, 6, 0, 0), (6, .putfield 168, 9, 0, 0), (9, .aload_n 0, 10, 0, 0), (10, .invokevirtual 94, 13, 0, 0), (13, .aload_n 0, 14, 0, 0), (14, .getfield 81, 17, 0, 0), (17, .aload_n 0, 18, 0, 0), (18, .getfield 84, 21, 0, 0), (21, .if_icmp .ne 5, 24, 26, 0), (24, .iconst 0, 25, 0, 0), (25, .ireturn, 26, 0, 0), (26, .iconst 0, 27, 0, 0), (27, .istore_n 2, 28, 0, 0), (28, .aload_n 0, 29, 0, 0), (29, .iload_n 1, 30, 0, 0), (30, .iload_n 2, 31, 0, 0), (31, .invokevirtual 235, 34, 0, 0), (34, .ifCond .ne 5, 37, 39, 0), (37, .iconst (-1), 38, 0, (-1)), (38, .ireturn, 39, 0, 0), (39, .aload_n 0, 40, 0, 0), (40, .invokevirtual 94, 43, 0, 0), (43, .aload_n 0, 44, 0, 0), (44, .getfield 81, 47, 0, 0), (47, .aload_n 0, 48, 0, 0), (48, .getfield 84, 51, 0, 0), (51, .if_icmp .ne 7, 54, 58, 0), (54, .iload_n 2, 55, 0, 0), (55, .iconst 1, 56, 0, 1), (56, .iadd, 57, 0, 0), (57, .ireturn, 58, 0, 0), (58, .aload_n 0, 59, 0, 0), (59, .bipush 59, 61, 0, 59), (61, .bipush 59, 63, 0, 59), (63, .invokevirtual 87, 66, 0, 0)],
  [(66, .ifCond .ne 5, 69, 71, 0), (69, .iconst (-1), 70, 0, (-1)), (70, .ireturn, 71, 0, 0), (71, .aload_n 0, 72, 0, 0), (72, .dup, 73, 0, 0), (73, .getfield 81, 76, 0, 0), (76, .iconst 1, 77, 0, 1), (77, .iadd, 78, 0, 0), (78, .putfield 81, 81, 0, 0), (81, .iinc 2 1, 84, 0, 1), (84, .goto (-56), 87, 28, 0)]])
def m_X12_street : aM := (yX12_street, cX12_street, 3, (Option.some Jvm.ClassFile.FieldType.int), [], [[(0, .iconst 0, 1, 0, 0), (1, .istore_n 1, 2, 0, 0), (2, .iload_n 1, 3, 0, 0), (3, .sipush 1184, 6, 0, 1184), (6, .if_icmp .ge 21, 9, 27, 0), (9, .aload_n 0, 10, 0, 0), (10, .getfield 20, 13, 0, 0), (13, .iload_n 1, 14, 0, 0), (14, .aload_n 0, 15, 0, 0), (15, .getfield 13, 18, 0, 0), (18, .iload_n 1, 19, 0, 0), (19, .iaload, 20, 0, 0), (20, .iastore, 21, 0, 0), (21, .iinc 1 1, 24, 0, 1), (24, .goto (-22), 27, 2, 0), (27, .aload_n 0, 28, 0, 0), (28, .iconst 1, 29, 0, 1), (29, .invokevirtual 239, 32, 0, 0), (32, .istore_n 1, 33, 0, 0), (33, .aload_n 0, 34, 0, 0), (34, .iload_n 1, 35, 0, 0), (35, .ifCond .ge 10, 38, 45, 0), (38, .aload_n 0, 39, 0, 0), (39, .getfield 91, 42, 0, 0), (42, .goto 4, 45, 46, 0), (45, .iconst (-1), 46, 0, (-1)), (46, .putfield 33, 49, 0, 0), (49, .aload_n 0, 50, 0, 0), (50, .iload_n 1, 51, 0, 0), (51, .ifCond .ge 7, 54, 58, 0), (54, .iconst 1, 55, 0, 1), (55, .goto 4, 58, 59, 0), (58, .iconst 0, 59, 0, 0), (59, .iconst 1, 60, 0, 1), (60, .invokevirtual 243, 63, 0, 0), (63, .ifCond .ne 27, 66, 90, 0)],
  [(66, .aload_n 0, 67, 0, 0), (67, .aload_n 0, 68, 0, 0), (68, .getfield 13, 71, 0, 0), (71, .iconst 2, 72, 0, 2), (72, .iaload, 73, 0, 0), (73, .bipush 12, 75, 0, 12), (75, .if_icmp .ne 7, 78, 82, 0), (78, .iconst 1, 79, 0, 1), (79, .goto 4, 82, 83, 0), (82, .iconst 0, 83, 0, 0), (83, .iconst 2, 84, 0, 2), (84, .invokevirtual 243, 87, 0, 0), (87, .ifCond .eq 32, 90, 119, 0), (90, .iconst 0, 91, 0, 0), (91, .istore_n 2, 92, 0, 0), (92, .iload_n 2, 93, 0, 0), (93, .sipush 1184, 96, 0, 1184), (96, .if_icmp .ge 21, 99, 117, 0), (99, .aload_n 0, 100, 0, 0), (100, .getfield 13, 103, 0, 0), (103, .iload_n 2, 104, 0, 0), (104, .aload_n 0, 105, 0, 0), (105, .getfield 20, 108, 0, 0), (108, .iload_n 2, 109, 0, 0), (109, .iaload, 110, 0, 0), (110, .iastore, 111, 0, 0), (111, .iinc 2 1, 114, 0, 1), (114, .goto (-22), 117, 92, 0), (117, .iconst 0, 118, 0, 0), (118, .ireturn, 119, 0, 0), (119, .aload_n 0, 120, 0, 0), (120, .getfield 13, 123, 0, 0), (123, .iconst 2, 124, 0, 2), (124, .dup2, 125, 0, 0), (125, .iaload, 126, 0, 0), (126, .iconst 1, 127, 0, 1), (127, .iadd, 128, 0, 0)],
  [(128, .iastore, 129, 0, 0), (129, .aload_n 0, 130, 0, 0), (130, .iconst 0, 131, 0, 0), (131, .putfield 53, 134, 0, 0), (134, .aload_n 0, 135, 0, 0), (135, .getfield 13, 138, 0, 0), (138, .iconst 2, 139, 0, 2), (139, .iaload, 140, 0, 0), (140, .ireturn, 141, 0, 0)]])
def m_X12_law : aM := (yX12_law, cX12_law, 3, (Option.some Jvm.ClassFile.FieldType.int), [], [[(0, .aload_n 0, 1, 0, 0), (1, .iconst 0, 2, 0, 0), (2, .invokevirtual 239, 5, 0, 0), (5, .istore_n 1, 6, 0, 0), (6, .aload_n 0, 7, 0, 0), (7, .iload_n 1, 8, 0, 0), (8, .ifCond .ge 10, 11, 18, 0), (11, .aload_n 0, 12, 0, 0), (12, .getfield 91, 15, 0, 0), (15, .goto 4, 18, 19, 0), (18, .iconst (-1), 19, 0, (-1)), (19, .putfield 33, 22, 0, 0), (22, .aload_n 0, 23, 0, 0), (23, .iload_n 1, 24, 0, 0), (24, .ifCond .ge 7, 27, 31, 0), (27, .iconst 1, 28, 0, 1), (28, .goto 4, 31, 32, 0), (31, .iconst 0, 32, 0, 0), (32, .iconst 1, 33, 0, 1), (33, .invokevirtual 243, 36, 0, 0), (36, .ifCond .eq 5, 39, 41, 0), (39, .iconst 0, 40, 0, 0), (40, .ireturn, 41, 0, 0), (41, .aload_n 0, 42, 0, 0), (42, .getfield 13, 45, 0, 0), (45, .sipush 1184, 48, 0, 1184), (48, .iload_n 1, 49, 0, 0), (49, .iastore, 50, 0, 0), (50, .iconst 0, 51, 0, 0), (51, .istore_n 2, 52, 0, 0), (52, .iload_n 2, 53, 0, 0), (53, .sipush 849, 56, 0, 849), (56, .if_icmp .ge 29, 59, 85, 0), (59, .aload_n 0, 60, 0, 0), (60, .getfield 13, 63, 0, 0), (63, .sipush 335, 66, 0, 335)],
  [(66, .iload_n 2, 67, 0, 0), (67, .iadd, 68, 0, 0), (68, .aload_n 0, 69, 0, 0), (69, .getfield 13, 72, 0, 0), (72, .sipush 1184, 75, 0, 1184), (75, .iload_n 2, 76, 0, 0), (76, .iadd, 77, 0, 0), (77, .iaload, 78, 0, 0), (78, .iastore, 79, 0, 0), (79, .iinc 2 1, 82, 0, 1), (82, .goto (-30), 85, 52, 0), (85, .aload_n 0, 86, 0, 0), (86, .getfield 13, 89, 0, 0), (89, .iconst 3, 90, 0, 3), (90, .iconst 1, 91, 0, 1), (91, .iastore, 92, 0, 0), (92, .aload_n 0, 93, 0, 0), (93, .iconst 0, 94, 0, 0), (94, .putfield 53, 97, 0, 0), (97, .iload_n 1, 98, 0, 0), (98, .ireturn, 99, 0, 0)]])
def m_X12_leansWell : aM := (yX12_leansWell, cX12_leansWell, 2, (Option.some Jvm.ClassFile.FieldType.boolean), [], [[(0, .aload_n 0, 1, 0, 0), (1, .iload_n 1, 2, 0, 0), (2, .iconst 4, 3, 0, 4), (3, .invokevirtual 63, 6, 0, 0), (6, .iconst (-1), 7, 0, (-1)), (7, .if_icmp .eq 16, 10, 23, 0), (10, .aload_n 0, 11, 0, 0), (11, .aload_n 0, 12, 0, 0), (12, .iload_n 1, 13, 0, 0), (13, .iconst 4, 14, 0, 4), (14, .invokevirtual 63, 17, 0, 0), (17, .invokevirtual 246, 20, 0, 0), (20, .ifCond .eq 7, 23, 27, 0), (23, .iconst 1, 24, 0, 1), (24, .goto 4, 27, 28, 0), (27, .iconst 0, 28, 0, 0), (28, .ireturn, 29, 0, 0)]])
def m_X12_isReady : aM := (yX12_isReady, cX12_isReady, 2, (Option.some Jvm.ClassFile.FieldType.boolean), [], [[(0, .aload_n 0, 1, 0, 0), (1, .iload_n 1, 2, 0, 0), (2, .invokevirtual 135, 5, 0, 0), (5, .ifCond .eq 15, 8, 20, 0), (8, .aload_n 0, 9, 0, 0), (9, .iload_n 1, 10, 0, 0), (10, .invokevirtual 249, 13, 0, 0), (13, .ifCond .eq 7, 16, 20, 0), (16, .iconst 1, 17, 0, 1), (17, .goto 4, 20, 21, 0), (20, .iconst 0, 21, 0, 0), (21, .ireturn, 22, 0, 0)]])
def m_X12_factOf : aM := (yX12_factOf, cX12_factOf, 4, (Option.some Jvm.ClassFile.FieldType.int), [], [[(0, .iload_n 1, 1, 0, 0), (1, .tableswitch 146 0 8 #[51, 53, 60, 67, 89, 96, 108, 115, 129], 52, 0, 0), (52, .iload_n 3, 53, 0, 0), (53, .ireturn, 54, 0, 0), (54, .aload_n 0, 55, 0, 0), (55, .iload_n 3, 56, 0, 0), (56, .iconst 1, 57, 0, 1), (57, .invokevirtual 63, 60, 0, 0), (60, .ireturn, 61, 0, 0), (61, .aload_n 0, 62, 0, 0), (62, .iload_n 3, 63, 0, 0), (63, .iconst 2, 64, 0, 2)],
  [(64, .invokevirtual 63, 67, 0, 0), (67, .ireturn, 68, 0, 0), (68, .aload_n 0, 69, 0, 0), (69, .iload_n 3, 70, 0, 0), (70, .iconst 3, 71, 0, 3), (71, .invokevirtual 63, 74, 0, 0), (74, .iconst (-1), 75, 0, (-1)), (75, .if_icmp .ne 8, 78, 83, 0), (78, .bipush 9, 80, 0, 9), (80, .goto 9, 83, 89, 0), (83, .aload_n 0, 84, 0, 0), (84, .iload_n 3, 85, 0, 0), (85, .iconst 3, 86, 0, 3), (86, .invokevirtual 63, 89, 0, 0), (89, .ireturn, 90, 0, 0), (90, .aload_n 0, 91, 0, 0), (91, .iload_n 3, 92, 0, 0), (92, .iconst 0, 93, 0, 0), (93, .invokevirtual 63, 96, 0, 0), (96, .ireturn, 97, 0, 0), (97, .aload_n 0, 98, 0, 0), (98, .aload_n 0, 99, 0, 0), (99, .iload_n 3, 100, 0, 0), (100, .iconst 0, 101, 0, 0), (101, .invokevirtual 63, 104, 0, 0), (104, .iconst 0, 105, 0, 0), (105, .invokevirtual 252, 108, 0, 0), (108, .ireturn, 109, 0, 0), (109, .aload_n 0, 110, 0, 0), (110, .getfield 13, 113, 0, 0), (113, .iconst 4, 114, 0, 4), (114, .iaload, 115, 0, 0), (115, .ireturn, 116, 0, 0), (116, .aload_n 0, 117, 0, 0), (117, .iload_n 3, 118, 0, 0), (118, .invokevirtual 249, 121, 0, 0), (121, .ifCond .eq 7, 124, 128, 0), (124, .iconst 1, 125, 0, 1), (125, .goto 4, 128, 129, 0)],
  [(128, .iconst 0, 129, 0, 0), (129, .ireturn, 130, 0, 0), (130, .aload_n 0, 131, 0, 0), (131, .iload_n 3, 132, 0, 0), (132, .iconst 2, 133, 0, 2), (133, .invokevirtual 63, 136, 0, 0), (136, .bipush 11, 138, 0, 11), (138, .if_icmp .le 7, 141, 145, 0), (141, .iconst 1, 142, 0, 1), (142, .goto 4, 145, 146, 0), (145, .iconst 0, 146, 0, 0), (146, .ireturn, 147, 0, 0), (147, .iload_n 2, 148, 0, 0), (148, .ireturn, 149, 0, 0)]])
def m_X12_holdsLine : aM := (yX12_holdsLine, cX12_holdsLine, 10, (Option.some Jvm.ClassFile.FieldType.boolean), [], [[(0, .iconst 0, 1, 0, 0), (1, .istore_n 3, 2, 0, 0), (2, .sipush 336, 5, 0, 336), (5, .iconst 4, 6, 0, 4), (6, .iload_n 1, 7, 0, 0), (7, .imul, 8, 0, 0), (8, .iadd, 9, 0, 0), (9, .istore 4, 11, 0, 0), (11, .aload_n 0, 12, 0, 0), (12, .getfield 13, 15, 0, 0), (15, .iload 4, 17, 0, 0), (17, .iconst 2, 18, 0, 2), (18, .iadd, 19, 0, 0), (19, .iaload, 20, 0, 0), (20, .istore 5, 22, 0, 0), (22, .iload 5, 24, 0, 0), (24, .aload_n 0, 25, 0, 0), (25, .getfield 13, 28, 0, 0), (28, .iload 4, 30, 0, 0), (30, .iconst 3, 31, 0, 3), (31, .iadd, 32, 0, 0), (32, .iaload, 33, 0, 0), (33, .if_icmp .ge 230, 36, 263, 0), (36, .aload_n 0, 37, 0, 0), (37, .getfield 13, 40, 0, 0), (40, .sipush 384, 43, 0, 384), (43, .iconst 2, 44, 0, 2), (44, .iload 5, 46, 0, 0), (46, .imul, 47, 0, 0), (47, .iadd, 48, 0, 0), (48, .iaload, 49, 0, 0), (49, .istore 6, 51, 0, 0), (51, .iload 6, 53, 0, 0), (53, .bipush 9, 55, 0, 9), (55, .if_icmp .gt 37, 58, 92, 0), (58, .aload_n 0, 59, 0, 0), (59, .getfield 39, 62, 0, 0), (62, .iload_n 3, 63, 0, 0), (63, .aload_n 0, 64, 0, 0)],
  [(64, .iload 6, 66, 0, 0), (66, .aload_n 0, 67, 0, 0), (67, .getfield 13, 70, 0, 0), (70, .sipush 384, 73, 0, 384), (73, .iconst 2, 74, 0, 2), (74, .iload 5, 76, 0, 0), (76, .imul, 77, 0, 0), (77, .iadd, 78, 0, 0), (78, .iconst 1, 79, 0, 1), (79, .iadd, 80, 0, 0), (80, .iaload, 81, 0, 0), (81, .iload_n 2, 82, 0, 0), (82, .invokevirtual 255, 85, 0, 0), (85, .iastore, 86, 0, 0), (86, .iinc 3 1, 89, 0, 1), (89, .goto 168, 92, 257, 0), (92, .iload 6, 94, 0, 0), (94, .bipush 13, 96, 0, 13), (96, .if_icmp .ne 24, 99, 120, 0), (99, .aload_n 0, 100, 0, 0), (100, .getfield 39, 103, 0, 0), (103, .iload_n 3, 104, 0, 0), (104, .iconst 1, 105, 0, 1), (105, .isub, 106, 0, 0), (106, .iconst 1, 107, 0, 1), (107, .aload_n 0, 108, 0, 0), (108, .getfield 39, 111, 0, 0), (111, .iload_n 3, 112, 0, 0), (112, .iconst 1, 113, 0, 1), (113, .isub, 114, 0, 0), (114, .iaload, 115, 0, 0), (115, .isub, 116, 0, 0), (116, .iastore, 117, 0, 0), (117, .goto 140, 120, 257, 0), (120, .iinc 3 (-1), 123, 0, (-1)), (123, .aload_n 0, 124, 0, 0), (124, .getfield 39, 127, 0, 0), (127, .iload_n 3, 128, 0, 0)],
  [(128, .iconst 1, 129, 0, 1), (129, .isub, 130, 0, 0), (130, .iaload, 131, 0, 0), (131, .istore 7, 133, 0, 0), (133, .aload_n 0, 134, 0, 0), (134, .getfield 39, 137, 0, 0), (137, .iload_n 3, 138, 0, 0), (138, .iaload, 139, 0, 0), (139, .istore 8, 141, 0, 0), (141, .iload 6, 143, 0, 0), (143, .bipush 11, 145, 0, 11), (145, .if_icmp .ne 18, 148, 163, 0), (148, .iload 7, 150, 0, 0), (150, .iload 8, 152, 0, 0), (152, .if_icmp .ge 7, 155, 159, 0), (155, .iconst 1, 156, 0, 1), (156, .goto 66, 159, 222, 0), (159, .iconst 0, 160, 0, 0), (160, .goto 62, 163, 222, 0), (163, .iload 6, 165, 0, 0), (165, .bipush 12, 167, 0, 12), (167, .if_icmp .ne 18, 170, 185, 0), (170, .iload 7, 172, 0, 0), (172, .iload 8, 174, 0, 0), (174, .if_icmp .le 7, 177, 181, 0), (177, .iconst 1, 178, 0, 1), (178, .goto 44, 181, 222, 0), (181, .iconst 0, 182, 0, 0), (182, .goto 40, 185, 222, 0), (185, .iload 6, 187, 0, 0), (187, .bipush 14, 189, 0, 14), (189, .if_icmp .ne 20, 192, 209, 0)],
  [(192, .iload 7, 194, 0, 0), (194, .iload 8, 196, 0, 0), (196, .iadd, 197, 0, 0), (197, .iconst 2, 198, 0, 2), (198, .if_icmp .ne 7, 201, 205, 0), (201, .iconst 1, 202, 0, 1), (202, .goto 20, 205, 222, 0), (205, .iconst 0, 206, 0, 0), (206, .goto 16, 209, 222, 0), (209, .iload 7, 211, 0, 0), (211, .iload 8, 213, 0, 0), (213, .iadd, 214, 0, 0), (214, .ifCond .le 7, 217, 221, 0), (217, .iconst 1, 218, 0, 1), (218, .goto 4, 221, 222, 0), (221, .iconst 0, 222, 0, 0), (222, .istore 9, 224, 0, 0), (224, .aload_n 0, 225, 0, 0), (225, .getfield 39, 228, 0, 0), (228, .iload_n 3, 229, 0, 0), (229, .iconst 1, 230, 0, 1), (230, .isub, 231, 0, 0), (231, .iload 6, 233, 0, 0), (233, .bipush 10, 235, 0, 10), (235, .if_icmp .ne 11, 238, 246, 0), (238, .iload 7, 240, 0, 0), (240, .iload 8, 242, 0, 0), (242, .iadd, 243, 0, 0), (243, .goto 13, 246, 256, 0), (246, .iload 9, 248, 0, 0), (248, .ifCond .eq 7, 251, 255, 0), (251, .iconst 1, 252, 0, 1), (252, .goto 4, 255, 256, 0), (255, .iconst 0, 256, 0, 0)],
  [(256, .iastore, 257, 0, 0), (257, .iinc 5 1, 260, 0, 1), (260, .goto (-238), 263, 22, 0), (263, .iload_n 3, 264, 0, 0), (264, .ifCond .eq 13, 267, 277, 0), (267, .aload_n 0, 268, 0, 0), (268, .getfield 39, 271, 0, 0), (271, .iconst 0, 272, 0, 0), (272, .iaload, 273, 0, 0), (273, .iconst 1, 274, 0, 1), (274, .if_icmp .ne 7, 277, 281, 0), (277, .iconst 1, 278, 0, 1), (278, .goto 4, 281, 282, 0), (281, .iconst 0, 282, 0, 0), (282, .ireturn, 283, 0, 0)]])
def m_X12_sumOf : aM := (yX12_sumOf, cX12_sumOf, 5, (Option.some Jvm.ClassFile.FieldType.int), [], [[(0, .iconst 0, 1, 0, 0), (1, .istore_n 3, 2, 0, 0), (2, .iconst 0, 3, 0, 0), (3, .istore 4, 5, 0, 0), (5, .aload_n 0, 6, 0, 0), (6, .getfield 13, 9, 0, 0), (9, .iconst 3, 10, 0, 3), (10, .iaload, 11, 0, 0), (11, .iconst 1, 12, 0, 1), (12, .if_icmp .ne 67, 15, 79, 0), (15, .iload 4, 17, 0, 0), (17, .aload_n 0, 18, 0, 0), (18, .getfield 13, 21, 0, 0), (21, .sipush 335, 24, 0, 335), (24, .iaload, 25, 0, 0), (25, .if_icmp .ge 54, 28, 79, 0), (28, .aload_n 0, 29, 0, 0), (29, .getfield 13, 32, 0, 0), (32, .sipush 336, 35, 0, 336), (35, .iconst 4, 36, 0, 4), (36, .iload 4, 38, 0, 0), (38, .imul, 39, 0, 0), (39, .iadd, 40, 0, 0), (40, .iaload, 41, 0, 0), (41, .iload_n 1, 42, 0, 0), (42, .if_icmp .ne 31, 45, 73, 0), (45, .aload_n 0, 46, 0, 0), (46, .iload 4, 48, 0, 0), (48, .iload_n 2, 49, 0, 0), (49, .invokevirtual 259, 52, 0, 0), (52, .ifCond .eq 21, 55, 73, 0), (55, .iload_n 3, 56, 0, 0), (56, .aload_n 0, 57, 0, 0), (57, .getfield 13, 60, 0, 0), (60, .sipush 336, 63, 0, 336), (63, .iconst 4, 64, 0, 4)],
  [(64, .iload 4, 66, 0, 0), (66, .imul, 67, 0, 0), (67, .iadd, 68, 0, 0), (68, .iconst 1, 69, 0, 1), (69, .iadd, 70, 0, 0), (70, .iaload, 71, 0, 0), (71, .iadd, 72, 0, 0), (72, .istore_n 3, 73, 0, 0), (73, .iinc 4 1, 76, 0, 1), (76, .goto (-71), 79, 5, 0), (79, .iload_n 3, 80, 0, 0), (80, .ireturn, 81, 0, 0)]])
def m_X12_growsBy : aM := (yX12_growsBy, cX12_growsBy, 2, (Option.some Jvm.ClassFile.FieldType.int), [], [[(0, .aload_n 0, 1, 0, 0), (1, .iconst 0, 2, 0, 0), (2, .iload_n 1, 3, 0, 0), (3, .invokevirtual 262, 6, 0, 0), (6, .ireturn, 7, 0, 0)]])
def m_X12_shamesBy : aM := (yX12_shamesBy, cX12_shamesBy, 2, (Option.some Jvm.ClassFile.FieldType.int), [], [[(0, .iconst 0, 1, 0, 0), (1, .aload_n 0, 2, 0, 0), (2, .iload_n 1, 3, 0, 0), (3, .iconst 2, 4, 0, 2), (4, .invokevirtual 63, 7, 0, 0), (7, .aload_n 0, 8, 0, 0), (8, .iconst 1, 9, 0, 1), (9, .iload_n 1, 10, 0, 0), (10, .invokevirtual 262, 13, 0, 0), (13, .iadd, 14, 0, 0), (14, .aload_n 0, 15, 0, 0), (15, .iconst 2, 16, 0, 2), (16, .iload_n 1, 17, 0, 0), (17, .invokevirtual 262, 20, 0, 0), (20, .isub, 21, 0, 0), (21, .invokestatic 265, 24, 0, 0), (24, .ireturn, 25, 0, 0)]])
def m_X12_ofState : aM := (yX12_ofState, cX12_ofState, 4, (Option.some Jvm.ClassFile.FieldType.int), [], [[(0, .iconst 0, 1, 0, 0), (1, .istore_n 2, 2, 0, 0), (2, .iconst 0, 3, 0, 0), (3, .istore_n 3, 4, 0, 0), (4, .iload_n 3, 5, 0, 0), (5, .aload_n 0, 6, 0, 0), (6, .invokevirtual 74, 9, 0, 0), (9, .if_icmp .ge 29, 12, 38, 0), (12, .iload_n 2, 13, 0, 0), (13, .aload_n 0, 14, 0, 0), (14, .iload_n 3, 15, 0, 0), (15, .iconst 5, 16, 0, 5), (16, .invokevirtual 63, 19, 0, 0), (19, .iload_n 1, 20, 0, 0), (20, .if_icmp .ne 9, 23, 29, 0), (23, .iconst 1, 24, 0, 1), (24, .iload_n 3, 25, 0, 0), (25, .ishl, 26, 0, 0), (26, .goto 4, 29, 30, 0), (29, .iconst 0, 30, 0, 0), (30, .ior, 31, 0, 0), (31, .istore_n 2, 32, 0, 0), (32, .iinc 3 1, 35, 0, 1), (35, .goto (-31), 38, 4, 0), (38, .iload_n 2, 39, 0, 0), (39, .ireturn, 40, 0, 0)]])
def m_X12_goesAhead : aM := (yX12_goesAhead, cX12_goesAhead, 3, (Option.some Jvm.ClassFile.FieldType.boolean), [], [[(0, .aload_n 0, 1, 0, 0), (1, .iload_n 1, 2, 0, 0), (2, .iconst 2, 3, 0, 2), (3, .invokevirtual 63, 6, 0, 0), (6, .aload_n 0, 7, 0, 0), (7, .iload_n 2, 8, 0, 0), (8, .iconst 2, 9, 0, 2), (9, .invokevirtual 63, 12, 0, 0), (12, .if_icmp .lt 23, 15, 35, 0), (15, .aload_n 0, 16, 0, 0), (16, .iload_n 1, 17, 0, 0), (17, .iconst 2, 18, 0, 2), (18, .invokevirtual 63, 21, 0, 0), (21, .aload_n 0, 22, 0, 0), (22, .iload_n 2, 23, 0, 0), (23, .iconst 2, 24, 0, 2), (24, .invokevirtual 63, 27, 0, 0), (27, .if_icmp .ne 12, 30, 39, 0), (30, .iload_n 1, 31, 0, 0), (31, .iload_n 2, 32, 0, 0), (32, .if_icmp .ge 7, 35, 39, 0), (35, .iconst 1, 36, 0, 1), (36, .goto 4, 39, 40, 0), (39, .iconst 0, 40, 0, 0), (40, .ireturn, 41, 0, 0)]])
def m_X12_placeOf : aM := (yX12_placeOf, cX12_placeOf, 4, (Option.some Jvm.ClassFile.FieldType.int), [], [[(0, .aload_n 0, 1, 0, 0), (1, .iload_n 1, 2, 0, 0), (2, .invokevirtual 135, 5, 0, 0), (5, .ifCond .ne 5, 8, 10, 0), (8, .iconst (-1), 9, 0, (-1)), (9, .ireturn, 10, 0, 0), (10, .iconst 0, 11, 0, 0), (11, .istore_n 2, 12, 0, 0), (12, .iconst 0, 13, 0, 0), (13, .istore_n 3, 14, 0, 0), (14, .iload_n 3, 15, 0, 0), (15, .aload_n 0, 16, 0, 0), (16, .invokevirtual 74, 19, 0, 0), (19, .if_icmp .ge 39, 22, 58, 0), (22, .iload_n 2, 23, 0, 0), (23, .iload_n 3, 24, 0, 0), (24, .iload_n 1, 25, 0, 0), (25, .if_icmp .eq 24, 28, 49, 0), (28, .aload_n 0, 29, 0, 0), (29, .iload_n 3, 30, 0, 0), (30, .invokevirtual 135, 33, 0, 0), (33, .ifCond .eq 16, 36, 49, 0), (36, .aload_n 0, 37, 0, 0), (37, .iload_n 3, 38, 0, 0), (38, .iload_n 1, 39, 0, 0), (39, .invokevirtual 270, 42, 0, 0), (42, .ifCond .eq 7, 45, 49, 0), (45, .iconst 1, 46, 0, 1), (46, .goto 4, 49, 50, 0), (49, .iconst 0, 50, 0, 0), (50, .iadd, 51, 0, 0), (51, .istore_n 2, 52, 0, 0), (52, .iinc 3 1, 55, 0, 1), (55, .goto (-41), 58, 14, 0), (58, .iload_n 2, 59, 0, 0), (59, .ireturn, 60, 0, 0)]])
def m_X12_passesBy : aM := (yX12_passesBy, cX12_passesBy, 4, (Option.some Jvm.ClassFile.FieldType.int), [], [[(0, .aload_n 0, 1, 0, 0), (1, .iload_n 1, 2, 0, 0), (2, .invokevirtual 135, 5, 0, 0), (5, .ifCond .ne 5, 8, 10, 0), (8, .iconst 0, 9, 0, 0), (9, .ireturn, 10, 0, 0), (10, .iconst 0, 11, 0, 0), (11, .istore_n 2, 12, 0, 0), (12, .iconst 0, 13, 0, 0), (13, .istore_n 3, 14, 0, 0), (14, .iload_n 3, 15, 0, 0), (15, .aload_n 0, 16, 0, 0), (16, .invokevirtual 74, 19, 0, 0), (19, .if_icmp .ge 40, 22, 59, 0), (22, .iload_n 2, 23, 0, 0), (23, .aload_n 0, 24, 0, 0), (24, .iload_n 3, 25, 0, 0), (25, .invokevirtual 135, 28, 0, 0), (28, .ifCond .eq 22, 31, 50, 0), (31, .aload_n 0, 32, 0, 0), (32, .iload_n 3, 33, 0, 0), (33, .iconst 2, 34, 0, 2), (34, .invokevirtual 63, 37, 0, 0), (37, .aload_n 0, 38, 0, 0), (38, .iload_n 1, 39, 0, 0), (39, .iconst 2, 40, 0, 2), (40, .invokevirtual 63, 43, 0, 0), (43, .if_icmp .gt 7, 46, 50, 0), (46, .iconst 1, 47, 0, 1), (47, .goto 4, 50, 51, 0), (50, .iconst 0, 51, 0, 0), (51, .iadd, 52, 0, 0), (52, .istore_n 2, 53, 0, 0), (53, .iinc 3 1, 56, 0, 1), (56, .goto (-42), 59, 14, 0), (59, .aload_n 0, 60, 0, 0), (60, .getfield 13, 63, 0, 0), (63, .bipush 7, 65, 0, 7)],
  [(65, .iaload, 66, 0, 0), (66, .iload_n 2, 67, 0, 0), (67, .imul, 68, 0, 0), (68, .ireturn, 69, 0, 0)]])
def m_X12_canBeCalled : aM := (yX12_canBeCalled, cX12_canBeCalled, 2, (Option.some Jvm.ClassFile.FieldType.boolean), [], [[(0, .aload_n 0, 1, 0, 0), (1, .iload_n 1, 2, 0, 0), (2, .invokevirtual 273, 5, 0, 0), (5, .ifCond .eq 21, 8, 26, 0), (8, .aload_n 0, 9, 0, 0), (9, .iload_n 1, 10, 0, 0), (10, .iconst 1, 11, 0, 1), (11, .invokevirtual 63, 14, 0, 0), (14, .aload_n 0, 15, 0, 0), (15, .iload_n 1, 16, 0, 0), (16, .invokevirtual 276, 19, 0, 0), (19, .if_icmp .gt 7, 22, 26, 0), (22, .iconst 1, 23, 0, 1), (23, .goto 4, 26, 27, 0), (26, .iconst 0, 27, 0, 0), (27, .ireturn, 28, 0, 0)]])
def m_X12_canOnes : aM := (yX12_canOnes, cX12_canOnes, 3, (Option.some Jvm.ClassFile.FieldType.int), [], [[(0, .iconst 0, 1, 0, 0), (1, .istore_n 1, 2, 0, 0), (2, .iconst 0, 3, 0, 0), (3, .istore_n 2, 4, 0, 0), (4, .iload_n 2, 5, 0, 0), (5, .aload_n 0, 6, 0, 0), (6, .invokevirtual 74, 9, 0, 0), (9, .if_icmp .ge 27, 12, 36, 0), (12, .iload_n 1, 13, 0, 0), (13, .aload_n 0, 14, 0, 0), (14, .iload_n 2, 15, 0, 0), (15, .invokevirtual 280, 18, 0, 0), (18, .ifCond .eq 9, 21, 27, 0), (21, .iconst 1, 22, 0, 1), (22, .iload_n 2, 23, 0, 0), (23, .ishl, 24, 0, 0), (24, .goto 4, 27, 28, 0), (27, .iconst 0, 28, 0, 0), (28, .ior, 29, 0, 0), (29, .istore_n 1, 30, 0, 0), (30, .iinc 2 1, 33, 0, 1), (33, .goto (-29), 36, 4, 0), (36, .iload_n 1, 37, 0, 0), (37, .ireturn, 38, 0, 0)]])
def m_X12_parade : aM := (yX12_parade, cX12_parade, 3, (Option.some Jvm.ClassFile.FieldType.int), [], [[(0, .aload_n 0, 1, 0, 0), (1, .iconst 0, 2, 0, 0), (2, .putfield 3, 5, 0, 0), (5, .iconst 0, 6, 0, 0), (6, .istore_n 2, 7, 0, 0), (7, .iload_n 2, 8, 0, 0), (8, .aload_n 0, 9, 0, 0), (9, .invokevirtual 74, 12, 0, 0), (12, .if_icmp .ge 24, 15, 36, 0), (15, .iload_n 1, 16, 0, 0), (16, .ifCond .lt 14, 19, 30, 0), (19, .aload_n 0, 20, 0, 0), (20, .iload_n 2, 21, 0, 0), (21, .invokevirtual 283, 24, 0, 0), (24, .iload_n 1, 25, 0, 0), (25, .if_icmp .ne 5, 28, 30, 0), (28, .iload_n 2, 29, 0, 0), (29, .ireturn, 30, 0, 0), (30, .iinc 2 1, 33, 0, 1), (33, .goto (-26), 36, 7, 0), (36, .iconst (-1), 37, 0, (-1)), (37, .ireturn, 38, 0, 0)]])
def m_X12_can : aM := (yX12_can, cX12_can, 1, (Option.some Jvm.ClassFile.FieldType.int), [], [[(0, .aload_n 0, 1, 0, 0), (1, .iconst 0, 2, 0, 0), (2, .putfield 3, 5, 0, 0), (5, .aload_n 0, 6, 0, 0), (6, .invokevirtual 286, 9, 0, 0), (9, .ireturn, 10, 0, 0)]])
def m_X12_greets : aM := (yX12_greets, cX12_greets, 3, (Option.some Jvm.ClassFile.FieldType.int), [], [[(0, .aload_n 0, 1, 0, 0), (1, .iconst 0, 2, 0, 0), (2, .putfield 3, 5, 0, 0), (5, .aload_n 0, 6, 0, 0), (6, .aload_n 0, 7, 0, 0), (7, .iload_n 1, 8, 0, 0), (8, .invokevirtual 289, 11, 0, 0), (11, .ifCond .ne 10, 14, 21, 0), (14, .iload_n 2, 15, 0, 0), (15, .invokestatic 292, 18, 0, 0), (18, .ifCond .eq 7, 21, 25, 0), (21, .iconst 1, 22, 0, 1), (22, .goto 4, 25, 26, 0), (25, .iconst 0, 26, 0, 0), (26, .iconst 1, 27, 0, 1), (27, .invokevirtual 243, 30, 0, 0), (30, .ifCond .eq 5, 33, 35, 0), (33, .iconst 0, 34, 0, 0), (34, .ireturn, 35, 0, 0), (35, .aload_n 0, 36, 0, 0), (36, .iload_n 1, 37, 0, 0), (37, .invokevirtual 135, 40, 0, 0), (40, .ifCond .eq 21, 43, 61, 0), (43, .aload_n 0, 44, 0, 0), (44, .getfield 13, 47, 0, 0), (47, .bipush 7, 49, 0, 7), (49, .iaload, 50, 0, 0), (50, .aload_n 0, 51, 0, 0), (51, .iload_n 1, 52, 0, 0), (52, .invokevirtual 283, 55, 0, 0), (55, .iload_n 2, 56, 0, 0), (56, .iadd, 57, 0, 0), (57, .imul, 58, 0, 0), (58, .goto 4, 61, 62, 0), (61, .iconst (-1), 62, 0, (-1)), (62, .ireturn, 63, 0, 0)]])
def m_X12_whereAt : aM := (yX12_whereAt, cX12_whereAt, 4, (Option.some Jvm.ClassFile.FieldType.int), [], [[(0, .aload_n 0, 1, 0, 0), (1, .iload_n 1, 2, 0, 0), (2, .invokevirtual 135, 5, 0, 0), (5, .ifCond .ne 5, 8, 10, 0), (8, .iconst (-1), 9, 0, (-1)), (9, .ireturn, 10, 0, 0), (10, .iload_n 2, 11, 0, 0), (11, .aload_n 0, 12, 0, 0), (12, .getfield 13, 15, 0, 0), (15, .bipush 7, 17, 0, 7), (17, .iaload, 18, 0, 0), (18, .idiv, 19, 0, 0), (19, .aload_n 0, 20, 0, 0), (20, .iload_n 1, 21, 0, 0), (21, .invokevirtual 283, 24, 0, 0), (24, .isub, 25, 0, 0), (25, .istore_n 3, 26, 0, 0), (26, .iload_n 3, 27, 0, 0), (27, .ifCond .ge 7, 30, 34, 0), (30, .iconst (-1), 31, 0, (-1)), (31, .goto 9, 34, 40, 0), (34, .bipush 16, 36, 0, 16), (36, .iload_n 3, 37, 0, 0), (37, .invokestatic 295, 40, 0, 0), (40, .ireturn, 41, 0, 0)]])
def m_X12_noHour : aM := (yX12_noHour, cX12_noHour, 1, (Option.some Jvm.ClassFile.FieldType.boolean), [], [[(0, .iload_n 0, 1, 0, 0), (1, .iconst 0, 2, 0, 0), (2, .sipush 300, 5, 0, 300), (5, .invokestatic 70, 8, 0, 0), (8, .ifCond .ne 7, 11, 15, 0), (11, .iconst 1, 12, 0, 1), (12, .goto 4, 15, 16, 0), (15, .iconst 0, 16, 0, 0), (16, .ireturn, 17, 0, 0)]])
def m_X12_where : aM := (yX12_where, cX12_where, 3, (Option.some Jvm.ClassFile.FieldType.int), [], [[(0, .aload_n 0, 1, 0, 0), (1, .iconst 0, 2, 0, 0), (2, .putfield 3, 5, 0, 0), (5, .aload_n 0, 6, 0, 0), (6, .aload_n 0, 7, 0, 0), (7, .iload_n 1, 8, 0, 0), (8, .invokevirtual 289, 11, 0, 0), (11, .iconst 1, 12, 0, 1), (12, .invokevirtual 243, 15, 0, 0), (15, .ifCond .ne 15, 18, 30, 0), (18, .aload_n 0, 19, 0, 0), (19, .iload_n 2, 20, 0, 0), (20, .invokestatic 298, 23, 0, 0), (23, .iconst 2, 24, 0, 2), (24, .invokevirtual 243, 27, 0, 0), (27, .ifCond .eq 7, 30, 34, 0), (30, .iconst 0, 31, 0, 0), (31, .goto 9, 34, 40, 0), (34, .aload_n 0, 35, 0, 0), (35, .iload_n 1, 36, 0, 0), (36, .iload_n 2, 37, 0, 0), (37, .invokevirtual 301, 40, 0, 0), (40, .ireturn, 41, 0, 0)]])
def m_X12_crowd : aM := (yX12_crowd, cX12_crowd, 6, (Option.some Jvm.ClassFile.FieldType.int), [], [[(0, .aload_n 0, 1, 0, 0), (1, .iconst 0, 2, 0, 0), (2, .putfield 3, 5, 0, 0), (5, .aload_n 0, 6, 0, 0), (6, .iload_n 1, 7, 0, 0), (7, .invokestatic 292, 10, 0, 0), (10, .ifCond .ne 10, 13, 20, 0), (13, .iload_n 2, 14, 0, 0), (14, .invokestatic 292, 17, 0, 0), (17, .ifCond .eq 7, 20, 24, 0), (20, .iconst 1, 21, 0, 1), (21, .goto 4, 24, 25, 0), (24, .iconst 0, 25, 0, 0), (25, .iconst 1, 26, 0, 1), (26, .invokevirtual 243, 29, 0, 0), (29, .ifCond .ne 28, 32, 57, 0), (32, .aload_n 0, 33, 0, 0), (33, .iload_n 3, 34, 0, 0), (34, .invokestatic 298, 37, 0, 0), (37, .ifCond .ne 8, 40, 45, 0), (40, .iload_n 1, 41, 0, 0), (41, .iload_n 2, 42, 0, 0), (42, .if_icmp .le 7, 45, 49, 0), (45, .iconst 1, 46, 0, 1), (46, .goto 4, 49, 50, 0), (49, .iconst 0, 50, 0, 0), (50, .iconst 2, 51, 0, 2), (51, .invokevirtual 243, 54, 0, 0), (54, .ifCond .eq 5, 57, 59, 0), (57, .iconst 0, 58, 0, 0), (58, .ireturn, 59, 0, 0), (59, .iconst 0, 60, 0, 0), (60, .istore 4, 62, 0, 0), (62, .iconst 0, 63, 0, 0), (63, .istore 5, 65, 0, 0)],
  [(65, .iload 5, 67, 0, 0), (67, .aload_n 0, 68, 0, 0), (68, .invokevirtual 74, 71, 0, 0), (71, .if_icmp .ge 34, 74, 105, 0), (74, .iload 4, 76, 0, 0), (76, .aload_n 0, 77, 0, 0), (77, .iload 5, 79, 0, 0), (79, .iload_n 3, 80, 0, 0), (80, .invokevirtual 301, 83, 0, 0), (83, .iload_n 1, 84, 0, 0), (84, .iload_n 2, 85, 0, 0), (85, .invokestatic 70, 88, 0, 0), (88, .ifCond .eq 7, 91, 95, 0), (91, .iconst 1, 92, 0, 1), (92, .goto 4, 95, 96, 0), (95, .iconst 0, 96, 0, 0), (96, .iadd, 97, 0, 0), (97, .istore 4, 99, 0, 0), (99, .iinc 5 1, 102, 0, 1), (102, .goto (-37), 105, 65, 0), (105, .iload 4, 107, 0, 0), (107, .ireturn, 108, 0, 0)]])
def m_X12_canAll : aM := (yX12_canAll, cX12_canAll, 5, (Option.some Jvm.ClassFile.FieldType.boolean), [], [[(0, .iconst 1, 1, 0, 1), (1, .istore_n 2, 2, 0, 0), (2, .iconst 0, 3, 0, 0), (3, .istore_n 3, 4, 0, 0), (4, .iload_n 3, 5, 0, 0), (5, .aload_n 0, 6, 0, 0), (6, .invokevirtual 74, 9, 0, 0), (9, .if_icmp .ge 89, 12, 98, 0), (12, .iconst 0, 13, 0, 0), (13, .istore 4, 15, 0, 0), (15, .iload 4, 17, 0, 0), (17, .iload_n 3, 18, 0, 0), (18, .if_icmp .ge 74, 21, 92, 0), (21, .iload_n 1, 22, 0, 0), (22, .iload_n 3, 23, 0, 0), (23, .invokestatic 304, 26, 0, 0), (26, .ifCond .eq 60, 29, 86, 0), (29, .iload_n 1, 30, 0, 0), (30, .iload 4, 32, 0, 0), (32, .invokestatic 304, 35, 0, 0), (35, .ifCond .ne 6, 38, 41, 0), (38, .goto 48, 41, 86, 0), (41, .iload_n 2, 42, 0, 0), (42, .ifCond .eq 42, 45, 84, 0), (45, .aload_n 0, 46, 0, 0), (46, .iload_n 3, 47, 0, 0), (47, .iconst 0, 48, 0, 0), (48, .invokevirtual 63, 51, 0, 0), (51, .aload_n 0, 52, 0, 0), (52, .iload 4, 54, 0, 0), (54, .iconst 0, 55, 0, 0), (55, .invokevirtual 63, 58, 0, 0), (58, .if_icmp .eq 26, 61, 84, 0), (61, .aload_n 0, 62, 0, 0), (62, .iload_n 3, 63, 0, 0), (63, .invokevirtual 283, 66, 0, 0)],
  [(66, .aload_n 0, 67, 0, 0), (67, .iload 4, 69, 0, 0), (69, .invokevirtual 283, 72, 0, 0), (72, .isub, 73, 0, 0), (73, .invokestatic 307, 76, 0, 0), (76, .iconst 1, 77, 0, 1), (77, .if_icmp .le 7, 80, 84, 0), (80, .iconst 1, 81, 0, 1), (81, .goto 4, 84, 85, 0), (84, .iconst 0, 85, 0, 0), (85, .istore_n 2, 86, 0, 0), (86, .iinc 4 1, 89, 0, 1), (89, .goto (-74), 92, 15, 0), (92, .iinc 3 1, 95, 0, 1), (95, .goto (-91), 98, 4, 0), (98, .iload_n 2, 99, 0, 0), (99, .ireturn, 100, 0, 0)]])
def m_X12_most : aM := (yX12_most, cX12_most, 4, (Option.some Jvm.ClassFile.FieldType.int), [], [[(0, .aload_n 0, 1, 0, 0), (1, .iconst 0, 2, 0, 0), (2, .putfield 3, 5, 0, 0), (5, .aload_n 0, 6, 0, 0), (6, .invokevirtual 286, 9, 0, 0), (9, .istore_n 1, 10, 0, 0), (10, .iconst 0, 11, 0, 0), (11, .istore_n 2, 12, 0, 0), (12, .iconst 1, 13, 0, 1), (13, .istore_n 3, 14, 0, 0), (14, .iload_n 3, 15, 0, 0), (15, .iload_n 1, 16, 0, 0), (16, .if_icmp .gt 38, 19, 54, 0), (19, .iload_n 3, 20, 0, 0), (20, .iload_n 1, 21, 0, 0), (21, .iconst (-1), 22, 0, (-1)), (22, .ixor, 23, 0, 0), (23, .iand, 24, 0, 0), (24, .ifCond .ne 24, 27, 48, 0), (27, .iload_n 3, 28, 0, 0), (28, .invokestatic 310, 31, 0, 0), (31, .iload_n 2, 32, 0, 0), (32, .invokestatic 310, 35, 0, 0), (35, .if_icmp .le 13, 38, 48, 0), (38, .aload_n 0, 39, 0, 0), (39, .iload_n 3, 40, 0, 0), (40, .invokevirtual 315, 43, 0, 0), (43, .ifCond .eq 5, 46, 48, 0), (46, .iload_n 3, 47, 0, 0), (47, .istore_n 2, 48, 0, 0), (48, .iinc 3 1, 51, 0, 1), (51, .goto (-37), 54, 14, 0), (54, .iload_n 2, 55, 0, 0), (55, .ireturn, 56, 0, 0)]])
def m_X12_ownedBy : aM := (yX12_ownedBy, cX12_ownedBy, 4, (Option.some Jvm.ClassFile.FieldType.int), [], [[(0, .iconst 0, 1, 0, 0), (1, .istore_n 2, 2, 0, 0), (2, .iconst 0, 3, 0, 0), (3, .istore_n 3, 4, 0, 0), (4, .iload_n 3, 5, 0, 0), (5, .aload_n 0, 6, 0, 0), (6, .invokevirtual 74, 9, 0, 0), (9, .if_icmp .ge 29, 12, 38, 0), (12, .iload_n 2, 13, 0, 0), (13, .aload_n 0, 14, 0, 0), (14, .iload_n 3, 15, 0, 0), (15, .iconst 0, 16, 0, 0), (16, .invokevirtual 63, 19, 0, 0), (19, .iload_n 1, 20, 0, 0), (20, .if_icmp .ne 9, 23, 29, 0), (23, .iconst 1, 24, 0, 1), (24, .iload_n 3, 25, 0, 0), (25, .ishl, 26, 0, 0), (26, .goto 4, 29, 30, 0), (29, .iconst 0, 30, 0, 0), (30, .ior, 31, 0, 0), (31, .istore_n 2, 32, 0, 0), (32, .iinc 3 1, 35, 0, 1), (35, .goto (-31), 38, 4, 0), (38, .iload_n 2, 39, 0, 0), (39, .ireturn, 40, 0, 0)]])
def m_X12_hoursOf : aM := (yX12_hoursOf, cX12_hoursOf, 4, (Option.some Jvm.ClassFile.FieldType.int), [], [[(0, .iconst 0, 1, 0, 0), (1, .istore_n 2, 2, 0, 0), (2, .iconst 0, 3, 0, 0), (3, .istore_n 3, 4, 0, 0), (4, .iload_n 3, 5, 0, 0), (5, .aload_n 0, 6, 0, 0), (6, .invokevirtual 74, 9, 0, 0), (9, .if_icmp .ge 30, 12, 39, 0), (12, .iload_n 2, 13, 0, 0), (13, .iload_n 1, 14, 0, 0), (14, .iload_n 3, 15, 0, 0), (15, .invokestatic 304, 18, 0, 0), (18, .ifCond .eq 12, 21, 30, 0), (21, .aload_n 0, 22, 0, 0), (22, .iload_n 3, 23, 0, 0), (23, .iconst 1, 24, 0, 1), (24, .invokevirtual 63, 27, 0, 0), (27, .goto 4, 30, 31, 0), (30, .iconst 0, 31, 0, 0), (31, .iadd, 32, 0, 0), (32, .istore_n 2, 33, 0, 0), (33, .iinc 3 1, 36, 0, 1), (36, .goto (-32), 39, 4, 0), (39, .iload_n 2, 40, 0, 0), (40, .ireturn, 41, 0, 0)]])
def m_X12_shameOf : aM := (yX12_shameOf, cX12_shameOf, 4, (Option.some Jvm.ClassFile.FieldType.int), [], [[(0, .iconst 0, 1, 0, 0), (1, .istore_n 2, 2, 0, 0), (2, .iconst 0, 3, 0, 0), (3, .istore_n 3, 4, 0, 0), (4, .iload_n 3, 5, 0, 0), (5, .aload_n 0, 6, 0, 0), (6, .invokevirtual 74, 9, 0, 0), (9, .if_icmp .ge 29, 12, 38, 0), (12, .iload_n 2, 13, 0, 0), (13, .iload_n 1, 14, 0, 0), (14, .iload_n 3, 15, 0, 0), (15, .invokestatic 304, 18, 0, 0), (18, .ifCond .eq 11, 21, 29, 0), (21, .aload_n 0, 22, 0, 0), (22, .iload_n 3, 23, 0, 0), (23, .invokevirtual 318, 26, 0, 0), (26, .goto 4, 29, 30, 0), (29, .iconst 0, 30, 0, 0), (30, .iadd, 31, 0, 0), (31, .istore_n 2, 32, 0, 0), (32, .iinc 3 1, 35, 0, 1), (35, .goto (-31), 38, 4, 0), (38, .iload_n 2, 39, 0, 0), (39, .ireturn, 40, 0, 0)]])
def m_X12_waitingOf : aM := (yX12_waitingOf, cX12_waitingOf, 2, (Option.some Jvm.ClassFile.FieldType.int), [], [[(0, .aload_n 0, 1, 0, 0), (1, .iload_n 1, 2, 0, 0), (2, .invokevirtual 321, 5, 0, 0), (5, .aload_n 0, 6, 0, 0), (6, .iconst 0, 7, 0, 0), (7, .invokevirtual 324, 10, 0, 0), (10, .iand, 11, 0, 0), (11, .ireturn, 12, 0, 0)]])
def m_X12_loadOf : aM := (yX12_loadOf, cX12_loadOf, 2, (Option.some Jvm.ClassFile.FieldType.int), [], [[(0, .aload_n 0, 1, 0, 0), (1, .aload_n 0, 2, 0, 0), (2, .iload_n 1, 3, 0, 0), (3, .invokevirtual 327, 6, 0, 0), (6, .invokevirtual 330, 9, 0, 0), (9, .ireturn, 10, 0, 0)]])
def m_X12_daysFor : aM := (yX12_daysFor, cX12_daysFor, 2, (Option.some Jvm.ClassFile.FieldType.int), [], [[(0, .iload_n 0, 1, 0, 0), (1, .ifCond .ne 5, 4, 6, 0), (4, .iconst 0, 5, 0, 0), (5, .ireturn, 6, 0, 0), (6, .iload_n 1, 7, 0, 0), (7, .ifCond .ne 9, 10, 16, 0), (10, .sipush 1000, 13, 0, 1000), (13, .goto 10, 16, 23, 0), (16, .iload_n 0, 17, 0, 0), (17, .iload_n 1, 18, 0, 0), (18, .iadd, 19, 0, 0), (19, .iconst 1, 20, 0, 1), (20, .isub, 21, 0, 0), (21, .iload_n 1, 22, 0, 0), (22, .idiv, 23, 0, 0), (23, .ireturn, 24, 0, 0)]])
def m_X12_needsOf : aM := (yX12_needsOf, cX12_needsOf, 2, (Option.some Jvm.ClassFile.FieldType.int), [], [[(0, .aload_n 0, 1, 0, 0), (1, .iload_n 1, 2, 0, 0), (2, .invokevirtual 333, 5, 0, 0), (5, .aload_n 0, 6, 0, 0), (6, .iload_n 1, 7, 0, 0), (7, .iconst 1, 8, 0, 1), (8, .invokevirtual 252, 11, 0, 0), (11, .invokestatic 336, 14, 0, 0), (14, .ireturn, 15, 0, 0)]])
def m_X12_shareOf : aM := (yX12_shareOf, cX12_shareOf, 3, (Option.some Jvm.ClassFile.FieldType.int), [], [[(0, .aload_n 0, 1, 0, 0), (1, .aload_n 0, 2, 0, 0), (2, .iconst 0, 3, 0, 0), (3, .invokevirtual 324, 6, 0, 0), (6, .invokevirtual 339, 9, 0, 0), (9, .istore_n 2, 10, 0, 0), (10, .iload_n 2, 11, 0, 0), (11, .ifCond .ne 7, 14, 18, 0), (14, .iconst 0, 15, 0, 0), (15, .goto 17, 18, 32, 0), (18, .bipush 100, 20, 0, 100), (20, .aload_n 0, 21, 0, 0), (21, .aload_n 0, 22, 0, 0), (22, .iload_n 1, 23, 0, 0), (23, .invokevirtual 327, 26, 0, 0), (26, .invokevirtual 339, 29, 0, 0), (29, .imul, 30, 0, 0), (30, .iload_n 2, 31, 0, 0), (31, .idiv, 32, 0, 0), (32, .ireturn, 33, 0, 0)]])
def m_X12_person : aM := (yX12_person, cX12_person, 3, (Option.some Jvm.ClassFile.FieldType.int), [], [[(0, .aload_n 0, 1, 0, 0), (1, .iconst 0, 2, 0, 0), (2, .putfield 3, 5, 0, 0), (5, .aload_n 0, 6, 0, 0), (6, .aload_n 0, 7, 0, 0), (7, .iload_n 1, 8, 0, 0), (8, .invokevirtual 342, 11, 0, 0), (11, .iconst 1, 12, 0, 1), (12, .invokevirtual 243, 15, 0, 0), (15, .ifCond .ne 25, 18, 40, 0), (18, .aload_n 0, 19, 0, 0), (19, .iload_n 2, 20, 0, 0), (20, .iconst 0, 21, 0, 0), (21, .iconst 5, 22, 0, 5), (22, .invokestatic 70, 25, 0, 0), (25, .ifCond .ne 7, 28, 32, 0), (28, .iconst 1, 29, 0, 1), (29, .goto 4, 32, 33, 0), (32, .iconst 0, 33, 0, 0), (33, .iconst 2, 34, 0, 2), (34, .invokevirtual 243, 37, 0, 0), (37, .ifCond .eq 5, 40, 42, 0), (40, .iconst 0, 41, 0, 0), (41, .ireturn, 42, 0, 0), (42, .iload_n 2, 43, 0, 0), (43, .tableswitch 53 2 5 #[29, 35, 41, 47], 72, 0, 0)],
  [(72, .aload_n 0, 73, 0, 0), (73, .iload_n 1, 74, 0, 0), (74, .invokevirtual 321, 77, 0, 0), (77, .ireturn, 78, 0, 0), (78, .aload_n 0, 79, 0, 0), (79, .iload_n 1, 80, 0, 0), (80, .invokevirtual 333, 83, 0, 0), (83, .ireturn, 84, 0, 0), (84, .aload_n 0, 85, 0, 0), (85, .iload_n 1, 86, 0, 0), (86, .invokevirtual 345, 89, 0, 0), (89, .ireturn, 90, 0, 0), (90, .aload_n 0, 91, 0, 0), (91, .iload_n 1, 92, 0, 0), (92, .invokevirtual 348, 95, 0, 0), (95, .ireturn, 96, 0, 0), (96, .aload_n 0, 97, 0, 0), (97, .iload_n 1, 98, 0, 0), (98, .iload_n 2, 99, 0, 0), (99, .invokevirtual 252, 102, 0, 0), (102, .ireturn, 103, 0, 0)]])
def m_X12_duty : aM := (yX12_duty, cX12_duty, 3, (Option.some Jvm.ClassFile.FieldType.int), [], [[(0, .aload_n 0, 1, 0, 0), (1, .iconst 0, 2, 0, 0), (2, .putfield 3, 5, 0, 0), (5, .aload_n 0, 6, 0, 0), (6, .aload_n 0, 7, 0, 0), (7, .iload_n 1, 8, 0, 0), (8, .invokevirtual 289, 11, 0, 0), (11, .iconst 1, 12, 0, 1), (12, .invokevirtual 243, 15, 0, 0), (15, .ifCond .ne 26, 18, 41, 0), (18, .aload_n 0, 19, 0, 0), (19, .iload_n 2, 20, 0, 0), (20, .iconst 0, 21, 0, 0), (21, .bipush 10, 23, 0, 10), (23, .invokestatic 70, 26, 0, 0), (26, .ifCond .ne 7, 29, 33, 0), (29, .iconst 1, 30, 0, 1), (30, .goto 4, 33, 34, 0), (33, .iconst 0, 34, 0, 0), (34, .iconst 2, 35, 0, 2), (35, .invokevirtual 243, 38, 0, 0), (38, .ifCond .eq 5, 41, 43, 0), (41, .iconst 0, 42, 0, 0), (42, .ireturn, 43, 0, 0), (43, .iload_n 2, 44, 0, 0), (44, .tableswitch 74 6 10 #[36, 50, 56, 62, 68], 80, 0, 0)],
  [(80, .aload_n 0, 81, 0, 0), (81, .iload_n 1, 82, 0, 0), (82, .invokevirtual 273, 85, 0, 0), (85, .ifCond .eq 7, 88, 92, 0), (88, .iconst 1, 89, 0, 1), (89, .goto 4, 92, 93, 0), (92, .iconst 0, 93, 0, 0), (93, .ireturn, 94, 0, 0), (94, .aload_n 0, 95, 0, 0), (95, .iload_n 1, 96, 0, 0), (96, .invokevirtual 351, 99, 0, 0), (99, .ireturn, 100, 0, 0), (100, .aload_n 0, 101, 0, 0), (101, .iload_n 1, 102, 0, 0), (102, .invokevirtual 318, 105, 0, 0), (105, .ireturn, 106, 0, 0), (106, .aload_n 0, 107, 0, 0), (107, .iload_n 1, 108, 0, 0), (108, .invokevirtual 283, 111, 0, 0), (111, .ireturn, 112, 0, 0), (112, .aload_n 0, 113, 0, 0), (113, .iload_n 1, 114, 0, 0), (114, .invokevirtual 276, 117, 0, 0), (117, .ireturn, 118, 0, 0), (118, .aload_n 0, 119, 0, 0), (119, .iload_n 1, 120, 0, 0), (120, .iload_n 2, 121, 0, 0), (121, .invokevirtual 63, 124, 0, 0), (124, .ireturn, 125, 0, 0)]])
def m_X12_isNow : aM := (yX12_isNow, cX12_isNow, 3, (Option.none : Option Jvm.ClassFile.FieldType), [], [[(0, .aload_n 0, 1, 0, 0), (1, .getfield 13, 4, 0, 0), (4, .iload_n 1, 5, 0, 0), (5, .iconst 5, 6, 0, 5), (6, .invokestatic 60, 9, 0, 0), (9, .iload_n 2, 10, 0, 0), (10, .iastore, 11, 0, 0), (11, .return_, 12, 0, 0)]])
def m_X12_finishes : aM := (yX12_finishes, cX12_finishes, 2, (Option.none : Option Jvm.ClassFile.FieldType), [], [[(0, .aload_n 0, 1, 0, 0), (1, .getfield 13, 4, 0, 0), (4, .iload_n 1, 5, 0, 0), (5, .iconst 1, 6, 0, 1), (6, .invokestatic 60, 9, 0, 0), (9, .iconst 0, 10, 0, 0), (10, .iastore, 11, 0, 0), (11, .aload_n 0, 12, 0, 0), (12, .iload_n 1, 13, 0, 0), (13, .iconst 1, 14, 0, 1), (14, .invokevirtual 354, 17, 0, 0), (17, .return_, 18, 0, 0)]])
def m_X12_call : aM := (yX12_call, cX12_call, 3, (Option.some Jvm.ClassFile.FieldType.int), [], [[(0, .aload_n 0, 1, 0, 0), (1, .iconst 0, 2, 0, 0), (2, .putfield 3, 5, 0, 0), (5, .aload_n 0, 6, 0, 0), (6, .aload_n 0, 7, 0, 0), (7, .iload_n 1, 8, 0, 0), (8, .invokevirtual 289, 11, 0, 0), (11, .iconst 1, 12, 0, 1), (12, .invokevirtual 243, 15, 0, 0), (15, .ifCond .ne 24, 18, 39, 0), (18, .aload_n 0, 19, 0, 0), (19, .aload_n 0, 20, 0, 0), (20, .iload_n 1, 21, 0, 0), (21, .invokevirtual 280, 24, 0, 0), (24, .ifCond .ne 7, 27, 31, 0), (27, .iconst 1, 28, 0, 1), (28, .goto 4, 31, 32, 0), (31, .iconst 0, 32, 0, 0), (32, .iconst 2, 33, 0, 2), (33, .invokevirtual 243, 36, 0, 0), (36, .ifCond .eq 5, 39, 41, 0), (39, .iconst 0, 40, 0, 0), (40, .ireturn, 41, 0, 0), (41, .aload_n 0, 42, 0, 0), (42, .invokevirtual 357, 45, 0, 0), (45, .aload_n 0, 46, 0, 0), (46, .iload_n 1, 47, 0, 0), (47, .invokevirtual 276, 50, 0, 0), (50, .istore_n 2, 51, 0, 0), (51, .aload_n 0, 52, 0, 0), (52, .iload_n 1, 53, 0, 0), (53, .invokevirtual 360, 56, 0, 0), (56, .iload_n 2, 57, 0, 0), (57, .ireturn, 58, 0, 0)]])
def m_X12_put : aM := (yX12_put, cX12_put, 2, (Option.some Jvm.ClassFile.FieldType.int), [], [[(0, .aload_n 0, 1, 0, 0), (1, .iconst 0, 2, 0, 0), (2, .putfield 3, 5, 0, 0), (5, .aload_n 0, 6, 0, 0), (6, .aload_n 0, 7, 0, 0), (7, .iload_n 1, 8, 0, 0), (8, .invokevirtual 289, 11, 0, 0), (11, .iconst 1, 12, 0, 1), (12, .invokevirtual 243, 15, 0, 0), (15, .ifCond .ne 24, 18, 39, 0), (18, .aload_n 0, 19, 0, 0), (19, .aload_n 0, 20, 0, 0), (20, .iload_n 1, 21, 0, 0), (21, .invokevirtual 135, 24, 0, 0), (24, .ifCond .ne 7, 27, 31, 0), (27, .iconst 1, 28, 0, 1), (28, .goto 4, 31, 32, 0), (31, .iconst 0, 32, 0, 0), (32, .iconst 2, 33, 0, 2), (33, .invokevirtual 243, 36, 0, 0), (36, .ifCond .eq 5, 39, 41, 0), (39, .iconst 0, 40, 0, 0), (40, .ireturn, 41, 0, 0), (41, .aload_n 0, 42, 0, 0), (42, .invokevirtual 357, 45, 0, 0), (45, .aload_n 0, 46, 0, 0), (46, .getfield 13, 49, 0, 0), (49, .iload_n 1, 50, 0, 0), (50, .iconst 2, 51, 0, 2), (51, .invokestatic 60, 54, 0, 0), (54, .bipush 99, 56, 0, 99), (56, .aload_n 0, 57, 0, 0), (57, .iload_n 1, 58, 0, 0), (58, .iconst 2, 59, 0, 2), (59, .invokevirtual 63, 62, 0, 0), (62, .iconst 1, 63, 0, 1), (63, .iadd, 64, 0, 0)],
  [(64, .invokestatic 295, 67, 0, 0), (67, .iastore, 68, 0, 0), (68, .aload_n 0, 69, 0, 0), (69, .iload_n 1, 70, 0, 0), (70, .iconst 2, 71, 0, 2), (71, .invokevirtual 63, 74, 0, 0), (74, .ireturn, 75, 0, 0)]])
def m_X12_forget : aM := (yX12_forget, cX12_forget, 2, (Option.some Jvm.ClassFile.FieldType.int), [], [[(0, .aload_n 0, 1, 0, 0), (1, .iconst 0, 2, 0, 0), (2, .putfield 3, 5, 0, 0), (5, .aload_n 0, 6, 0, 0), (6, .aload_n 0, 7, 0, 0), (7, .iload_n 1, 8, 0, 0), (8, .invokevirtual 289, 11, 0, 0), (11, .iconst 1, 12, 0, 1), (12, .invokevirtual 243, 15, 0, 0), (15, .ifCond .ne 24, 18, 39, 0), (18, .aload_n 0, 19, 0, 0), (19, .aload_n 0, 20, 0, 0), (20, .iload_n 1, 21, 0, 0), (21, .invokevirtual 135, 24, 0, 0), (24, .ifCond .ne 7, 27, 31, 0), (27, .iconst 1, 28, 0, 1), (28, .goto 4, 31, 32, 0), (31, .iconst 0, 32, 0, 0), (32, .iconst 2, 33, 0, 2), (33, .invokevirtual 243, 36, 0, 0), (36, .ifCond .eq 5, 39, 41, 0), (39, .iconst 0, 40, 0, 0), (40, .ireturn, 41, 0, 0), (41, .aload_n 0, 42, 0, 0), (42, .invokevirtual 357, 45, 0, 0), (45, .aload_n 0, 46, 0, 0), (46, .iload_n 1, 47, 0, 0), (47, .iconst 2, 48, 0, 2), (48, .invokevirtual 354, 51, 0, 0), (51, .aload_n 0, 52, 0, 0), (52, .iload_n 1, 53, 0, 0), (53, .iconst 1, 54, 0, 1), (54, .invokevirtual 63, 57, 0, 0), (57, .ireturn, 58, 0, 0)]])
def m_X12_recall : aM := (yX12_recall, cX12_recall, 2, (Option.some Jvm.ClassFile.FieldType.int), [], [[(0, .aload_n 0, 1, 0, 0), (1, .iconst 0, 2, 0, 0), (2, .putfield 3, 5, 0, 0), (5, .aload_n 0, 6, 0, 0), (6, .aload_n 0, 7, 0, 0), (7, .iload_n 1, 8, 0, 0), (8, .invokevirtual 289, 11, 0, 0), (11, .iconst 1, 12, 0, 1), (12, .invokevirtual 243, 15, 0, 0), (15, .ifCond .ne 24, 18, 39, 0), (18, .aload_n 0, 19, 0, 0), (19, .aload_n 0, 20, 0, 0), (20, .iload_n 1, 21, 0, 0), (21, .invokevirtual 364, 24, 0, 0), (24, .ifCond .ne 7, 27, 31, 0), (27, .iconst 1, 28, 0, 1), (28, .goto 4, 31, 32, 0), (31, .iconst 0, 32, 0, 0), (32, .iconst 2, 33, 0, 2), (33, .invokevirtual 243, 36, 0, 0), (36, .ifCond .eq 5, 39, 41, 0), (39, .iconst 0, 40, 0, 0), (40, .ireturn, 41, 0, 0), (41, .aload_n 0, 42, 0, 0), (42, .invokevirtual 357, 45, 0, 0), (45, .aload_n 0, 46, 0, 0), (46, .iload_n 1, 47, 0, 0), (47, .iconst 0, 48, 0, 0), (48, .invokevirtual 354, 51, 0, 0), (51, .aload_n 0, 52, 0, 0), (52, .iload_n 1, 53, 0, 0), (53, .iconst 2, 54, 0, 2), (54, .invokevirtual 63, 57, 0, 0), (57, .ireturn, 58, 0, 0)]])
def m_X12_hand : aM := (yX12_hand, cX12_hand, 4, (Option.some Jvm.ClassFile.FieldType.int), [], [[(0, .aload_n 0, 1, 0, 0), (1, .iconst 0, 2, 0, 0), (2, .putfield 3, 5, 0, 0), (5, .aload_n 0, 6, 0, 0), (6, .aload_n 0, 7, 0, 0), (7, .iload_n 1, 8, 0, 0), (8, .invokevirtual 289, 11, 0, 0), (11, .ifCond .ne 11, 14, 22, 0), (14, .aload_n 0, 15, 0, 0), (15, .iload_n 2, 16, 0, 0), (16, .invokevirtual 342, 19, 0, 0), (19, .ifCond .eq 7, 22, 26, 0), (22, .iconst 1, 23, 0, 1), (23, .goto 4, 26, 27, 0), (26, .iconst 0, 27, 0, 0), (27, .iconst 1, 28, 0, 1), (28, .invokevirtual 243, 31, 0, 0), (31, .ifCond .ne 39, 34, 70, 0), (34, .aload_n 0, 35, 0, 0), (35, .aload_n 0, 36, 0, 0), (36, .iload_n 1, 37, 0, 0), (37, .iconst 0, 38, 0, 0), (38, .invokevirtual 63, 41, 0, 0), (41, .iload_n 2, 42, 0, 0), (42, .if_icmp .ne 7, 45, 49, 0), (45, .iconst 1, 46, 0, 1), (46, .goto 4, 49, 50, 0), (49, .iconst 0, 50, 0, 0), (50, .iconst 2, 51, 0, 2), (51, .invokevirtual 243, 54, 0, 0), (54, .ifCond .ne 16, 57, 70, 0), (57, .aload_n 0, 58, 0, 0), (58, .aload_n 0, 59, 0, 0), (59, .iload_n 1, 60, 0, 0), (60, .invokevirtual 246, 63, 0, 0), (63, .iconst 3, 64, 0, 3)],
  [(64, .invokevirtual 243, 67, 0, 0), (67, .ifCond .eq 5, 70, 72, 0), (70, .iconst 0, 71, 0, 0), (71, .ireturn, 72, 0, 0), (72, .aload_n 0, 73, 0, 0), (73, .invokevirtual 357, 76, 0, 0), (76, .aload_n 0, 77, 0, 0), (77, .iload_n 1, 78, 0, 0), (78, .iconst 0, 79, 0, 0), (79, .invokevirtual 63, 82, 0, 0), (82, .istore_n 3, 83, 0, 0), (83, .aload_n 0, 84, 0, 0), (84, .getfield 13, 87, 0, 0), (87, .iload_n 1, 88, 0, 0), (88, .iconst 0, 89, 0, 0), (89, .invokestatic 60, 92, 0, 0), (92, .iload_n 2, 93, 0, 0), (93, .iastore, 94, 0, 0), (94, .iload_n 3, 95, 0, 0), (95, .ireturn, 96, 0, 0)]])
def m_X12_lean : aM := (yX12_lean, cX12_lean, 4, (Option.some Jvm.ClassFile.FieldType.int), [], [[(0, .aload_n 0, 1, 0, 0), (1, .iconst 0, 2, 0, 0), (2, .putfield 3, 5, 0, 0), (5, .aload_n 0, 6, 0, 0), (6, .aload_n 0, 7, 0, 0), (7, .iload_n 1, 8, 0, 0), (8, .invokevirtual 289, 11, 0, 0), (11, .ifCond .ne 16, 14, 27, 0), (14, .iload_n 2, 15, 0, 0), (15, .iconst (-1), 16, 0, (-1)), (16, .if_icmp .eq 15, 19, 31, 0), (19, .aload_n 0, 20, 0, 0), (20, .iload_n 2, 21, 0, 0), (21, .invokevirtual 289, 24, 0, 0), (24, .ifCond .eq 7, 27, 31, 0), (27, .iconst 1, 28, 0, 1), (28, .goto 4, 31, 32, 0), (31, .iconst 0, 32, 0, 0), (32, .iconst 1, 33, 0, 1), (33, .invokevirtual 243, 36, 0, 0), (36, .ifCond .ne 21, 39, 57, 0), (39, .aload_n 0, 40, 0, 0), (40, .iload_n 1, 41, 0, 0), (41, .iload_n 2, 42, 0, 0), (42, .if_icmp .ne 7, 45, 49, 0), (45, .iconst 1, 46, 0, 1), (46, .goto 4, 49, 50, 0), (49, .iconst 0, 50, 0, 0), (50, .iconst 2, 51, 0, 2), (51, .invokevirtual 243, 54, 0, 0), (54, .ifCond .eq 5, 57, 59, 0), (57, .iconst 0, 58, 0, 0), (58, .ireturn, 59, 0, 0), (59, .aload_n 0, 60, 0, 0), (60, .invokevirtual 357, 63, 0, 0), (63, .aload_n 0, 64, 0, 0)],
  [(64, .iload_n 1, 65, 0, 0), (65, .iconst 4, 66, 0, 4), (66, .invokevirtual 63, 69, 0, 0), (69, .istore_n 3, 70, 0, 0), (70, .aload_n 0, 71, 0, 0), (71, .getfield 13, 74, 0, 0), (74, .iload_n 1, 75, 0, 0), (75, .iconst 4, 76, 0, 4), (76, .invokestatic 60, 79, 0, 0), (79, .iload_n 2, 80, 0, 0), (80, .iastore, 81, 0, 0), (81, .iload_n 3, 82, 0, 0), (82, .ireturn, 83, 0, 0)]])
def m_X12_free : aM := (yX12_free, cX12_free, 4, (Option.some Jvm.ClassFile.FieldType.int), [], [[(0, .aload_n 0, 1, 0, 0), (1, .iconst 0, 2, 0, 0), (2, .putfield 3, 5, 0, 0), (5, .aload_n 0, 6, 0, 0), (6, .aload_n 0, 7, 0, 0), (7, .iload_n 1, 8, 0, 0), (8, .invokevirtual 342, 11, 0, 0), (11, .iconst 1, 12, 0, 1), (12, .invokevirtual 243, 15, 0, 0), (15, .ifCond .ne 26, 18, 41, 0), (18, .aload_n 0, 19, 0, 0), (19, .iload_n 2, 20, 0, 0), (20, .iconst 0, 21, 0, 0), (21, .bipush 9, 23, 0, 9), (23, .invokestatic 70, 26, 0, 0), (26, .ifCond .ne 7, 29, 33, 0), (29, .iconst 1, 30, 0, 1), (30, .goto 4, 33, 34, 0), (33, .iconst 0, 34, 0, 0), (34, .iconst 2, 35, 0, 2), (35, .invokevirtual 243, 38, 0, 0), (38, .ifCond .eq 5, 41, 43, 0), (41, .iconst 0, 42, 0, 0), (42, .ireturn, 43, 0, 0), (43, .aload_n 0, 44, 0, 0), (44, .invokevirtual 357, 47, 0, 0), (47, .aload_n 0, 48, 0, 0), (48, .iload_n 1, 49, 0, 0), (49, .iconst 1, 50, 0, 1), (50, .invokevirtual 252, 53, 0, 0), (53, .istore_n 3, 54, 0, 0), (54, .aload_n 0, 55, 0, 0), (55, .getfield 13, 58, 0, 0), (58, .iload_n 1, 59, 0, 0), (59, .iconst 1, 60, 0, 1), (60, .invokestatic 56, 63, 0, 0), (63, .iload_n 2, 64, 0, 0)],
  [(64, .iastore, 65, 0, 0), (65, .iload_n 3, 66, 0, 0), (66, .ireturn, 67, 0, 0)]])
def m_X12_hasTool : aM := (yX12_hasTool, cX12_hasTool, 4, (Option.some Jvm.ClassFile.FieldType.boolean), [], [[(0, .aload_n 0, 1, 0, 0), (1, .iload_n 1, 2, 0, 0), (2, .iconst 3, 3, 0, 3), (3, .invokevirtual 63, 6, 0, 0), (6, .istore_n 3, 7, 0, 0), (7, .iload_n 3, 8, 0, 0), (8, .iconst (-1), 9, 0, (-1)), (9, .if_icmp .eq 23, 12, 32, 0), (12, .aload_n 0, 13, 0, 0), (13, .getfield 42, 16, 0, 0), (16, .iload_n 3, 17, 0, 0), (17, .iaload, 18, 0, 0), (18, .iconst (-1), 19, 0, (-1)), (19, .if_icmp .eq 13, 22, 32, 0), (22, .aload_n 0, 23, 0, 0), (23, .getfield 42, 26, 0, 0), (26, .iload_n 3, 27, 0, 0), (27, .iaload, 28, 0, 0), (28, .iload_n 2, 29, 0, 0), (29, .if_icmp .ne 7, 32, 36, 0), (32, .iconst 1, 33, 0, 1), (33, .goto 4, 36, 37, 0), (36, .iconst 0, 37, 0, 0), (37, .ireturn, 38, 0, 0)]])
def m_X12_works : aM := (yX12_works, cX12_works, 6, (Option.some Jvm.ClassFile.FieldType.int), [], [[(0, .aload_n 0, 1, 0, 0), (1, .iload_n 1, 2, 0, 0), (2, .iconst 1, 3, 0, 1), (3, .invokevirtual 252, 6, 0, 0), (6, .istore_n 2, 7, 0, 0), (7, .iconst 0, 8, 0, 0), (8, .istore_n 3, 9, 0, 0), (9, .iconst 0, 10, 0, 0), (10, .istore 4, 12, 0, 0), (12, .iload 4, 14, 0, 0), (14, .aload_n 0, 15, 0, 0), (15, .invokevirtual 74, 18, 0, 0), (18, .if_icmp .ge 127, 21, 145, 0), (21, .aload_n 0, 22, 0, 0), (22, .iload 4, 24, 0, 0), (24, .iconst 0, 25, 0, 0), (25, .invokevirtual 63, 28, 0, 0), (28, .iload_n 1, 29, 0, 0), (29, .if_icmp .ne 110, 32, 139, 0), (32, .aload_n 0, 33, 0, 0), (33, .iload 4, 35, 0, 0), (35, .invokevirtual 273, 38, 0, 0), (38, .ifCond .eq 101, 41, 139, 0), (41, .aload_n 0, 42, 0, 0), (42, .iload 4, 44, 0, 0), (44, .iload_n 1, 45, 0, 0), (45, .invokevirtual 367, 48, 0, 0), (48, .ifCond .ne 6, 51, 54, 0), (51, .goto 88, 54, 139, 0), (54, .iload_n 2, 55, 0, 0), (55, .aload_n 0, 56, 0, 0), (56, .iload 4, 58, 0, 0), (58, .iconst 1, 59, 0, 1), (59, .invokevirtual 63, 62, 0, 0), (62, .invokestatic 295, 65, 0, 0)],
  [(65, .istore 5, 67, 0, 0), (67, .iload 5, 69, 0, 0), (69, .ifCond .le 27, 72, 96, 0), (72, .aload_n 0, 73, 0, 0), (73, .iload 4, 75, 0, 0), (75, .iconst 3, 76, 0, 3), (76, .invokevirtual 63, 79, 0, 0), (79, .iconst (-1), 80, 0, (-1)), (80, .if_icmp .eq 16, 83, 96, 0), (83, .aload_n 0, 84, 0, 0), (84, .getfield 42, 87, 0, 0), (87, .aload_n 0, 88, 0, 0), (88, .iload 4, 90, 0, 0), (90, .iconst 3, 91, 0, 3), (91, .invokevirtual 63, 94, 0, 0), (94, .iload_n 1, 95, 0, 0), (95, .iastore, 96, 0, 0), (96, .iload_n 2, 97, 0, 0), (97, .iload 5, 99, 0, 0), (99, .isub, 100, 0, 0), (100, .istore_n 2, 101, 0, 0), (101, .aload_n 0, 102, 0, 0), (102, .getfield 13, 105, 0, 0), (105, .iload 4, 107, 0, 0), (107, .iconst 1, 108, 0, 1), (108, .invokestatic 60, 111, 0, 0), (111, .dup2, 112, 0, 0), (112, .iaload, 113, 0, 0), (113, .iload 5, 115, 0, 0), (115, .isub, 116, 0, 0), (116, .iastore, 117, 0, 0), (117, .aload_n 0, 118, 0, 0), (118, .iload 4, 120, 0, 0), (120, .iconst 1, 121, 0, 1), (121, .invokevirtual 63, 124, 0, 0), (124, .ifCond .le 6, 127, 130, 0), (127, .goto 12, 130, 139, 0)],
  [(130, .aload_n 0, 131, 0, 0), (131, .iload 4, 133, 0, 0), (133, .invokevirtual 360, 136, 0, 0), (136, .iinc 3 1, 139, 0, 1), (139, .iinc 4 1, 142, 0, 1), (142, .goto (-130), 145, 12, 0), (145, .iload_n 3, 146, 0, 0), (146, .ireturn, 147, 0, 0)]])
def m_X12_growsOlder : aM := (yX12_growsOlder, cX12_growsOlder, 3, (Option.none : Option Jvm.ClassFile.FieldType), [], [[(0, .aload_n 0, 1, 0, 0), (1, .iload_n 1, 2, 0, 0), (2, .invokevirtual 246, 5, 0, 0), (5, .ifCond .eq 4, 8, 9, 0), (8, .return_, 9, 0, 0), (9, .aload_n 0, 10, 0, 0), (10, .iload_n 1, 11, 0, 0), (11, .invokevirtual 135, 14, 0, 0), (14, .ifCond .eq 11, 17, 25, 0), (17, .aload_n 0, 18, 0, 0), (18, .iload_n 1, 19, 0, 0), (19, .invokevirtual 351, 22, 0, 0), (22, .goto 4, 25, 26, 0), (25, .iconst 0, 26, 0, 0), (26, .istore_n 2, 27, 0, 0), (27, .aload_n 0, 28, 0, 0), (28, .getfield 13, 31, 0, 0), (31, .iload_n 1, 32, 0, 0), (32, .iconst 2, 33, 0, 2), (33, .invokestatic 60, 36, 0, 0), (36, .bipush 99, 38, 0, 99), (38, .aload_n 0, 39, 0, 0), (39, .iload_n 1, 40, 0, 0), (40, .iconst 2, 41, 0, 2), (41, .invokevirtual 63, 44, 0, 0), (44, .iconst 1, 45, 0, 1), (45, .iadd, 46, 0, 0), (46, .invokestatic 295, 49, 0, 0), (49, .iastore, 50, 0, 0), (50, .aload_n 0, 51, 0, 0), (51, .getfield 13, 54, 0, 0), (54, .iload_n 1, 55, 0, 0), (55, .iconst 1, 56, 0, 1), (56, .invokestatic 60, 59, 0, 0), (59, .bipush 99, 61, 0, 99), (61, .aload_n 0, 62, 0, 0), (62, .iload_n 1, 63, 0, 0), (63, .iconst 1, 64, 0, 1)],
  [(64, .invokevirtual 63, 67, 0, 0), (67, .iload_n 2, 68, 0, 0), (68, .iadd, 69, 0, 0), (69, .invokestatic 295, 72, 0, 0), (72, .iastore, 73, 0, 0), (73, .return_, 74, 0, 0)]])
def m_X12_tells : aM := (yX12_tells, cX12_tells, 4, (Option.none : Option Jvm.ClassFile.FieldType), [], [[(0, .sipush 239, 3, 0, 239), (3, .istore_n 3, 4, 0, 0), (4, .iload_n 3, 5, 0, 0), (5, .iconst 4, 6, 0, 4), (6, .if_icmp .lt 29, 9, 35, 0), (9, .aload_n 0, 10, 0, 0), (10, .getfield 13, 13, 0, 0), (13, .bipush 95, 15, 0, 95), (15, .iload_n 3, 16, 0, 0), (16, .iadd, 17, 0, 0), (17, .aload_n 0, 18, 0, 0), (18, .getfield 13, 21, 0, 0), (21, .bipush 95, 23, 0, 95), (23, .iload_n 3, 24, 0, 0), (24, .iadd, 25, 0, 0), (25, .iconst 4, 26, 0, 4), (26, .isub, 27, 0, 0), (27, .iaload, 28, 0, 0), (28, .iastore, 29, 0, 0), (29, .iinc 3 (-1), 32, 0, (-1)), (32, .goto (-28), 35, 4, 0), (35, .aload_n 0, 36, 0, 0), (36, .getfield 13, 39, 0, 0), (39, .bipush 95, 41, 0, 95), (41, .aload_n 0, 42, 0, 0), (42, .getfield 13, 45, 0, 0), (45, .iconst 5, 46, 0, 5), (46, .iaload, 47, 0, 0), (47, .iastore, 48, 0, 0), (48, .aload_n 0, 49, 0, 0), (49, .getfield 13, 52, 0, 0), (52, .bipush 96, 54, 0, 96), (54, .iload_n 1, 55, 0, 0), (55, .iastore, 56, 0, 0), (56, .aload_n 0, 57, 0, 0), (57, .getfield 13, 60, 0, 0), (60, .bipush 97, 62, 0, 97), (62, .iload_n 2, 63, 0, 0), (63, .iastore, 64, 0, 0)],
  [(64, .aload_n 0, 65, 0, 0), (65, .getfield 13, 68, 0, 0), (68, .bipush 98, 70, 0, 98), (70, .aload_n 0, 71, 0, 0), (71, .iload_n 1, 72, 0, 0), (72, .invokevirtual 318, 75, 0, 0), (75, .iastore, 76, 0, 0), (76, .aload_n 0, 77, 0, 0), (77, .getfield 13, 80, 0, 0), (80, .bipush 9, 82, 0, 9), (82, .bipush 60, 84, 0, 60), (84, .aload_n 0, 85, 0, 0), (85, .getfield 13, 88, 0, 0), (88, .bipush 9, 90, 0, 9), (90, .iaload, 91, 0, 0), (91, .iconst 1, 92, 0, 1), (92, .iadd, 93, 0, 0), (93, .invokestatic 295, 96, 0, 0), (96, .iastore, 97, 0, 0), (97, .return_, 98, 0, 0)]])
def m_X12_goesBy : aM := (yX12_goesBy, cX12_goesBy, 3, (Option.none : Option Jvm.ClassFile.FieldType), [], [[(0, .iconst 0, 1, 0, 0), (1, .istore_n 1, 2, 0, 0), (2, .iload_n 1, 3, 0, 0), (3, .aload_n 0, 4, 0, 0), (4, .invokevirtual 74, 7, 0, 0), (7, .if_icmp .ge 40, 10, 47, 0), (10, .iconst 0, 11, 0, 0), (11, .istore_n 2, 12, 0, 0), (12, .iload_n 2, 13, 0, 0), (13, .aload_n 0, 14, 0, 0), (14, .invokevirtual 74, 17, 0, 0), (17, .if_icmp .ge 24, 20, 41, 0), (20, .aload_n 0, 21, 0, 0), (21, .iload_n 2, 22, 0, 0), (22, .invokevirtual 283, 25, 0, 0), (25, .iload_n 1, 26, 0, 0), (26, .if_icmp .ne 9, 29, 35, 0), (29, .aload_n 0, 30, 0, 0), (30, .iload_n 2, 31, 0, 0), (31, .iload_n 1, 32, 0, 0), (32, .invokevirtual 370, 35, 0, 0), (35, .iinc 2 1, 38, 0, 1), (38, .goto (-26), 41, 12, 0), (41, .iinc 1 1, 44, 0, 1), (44, .goto (-42), 47, 2, 0), (47, .return_, 48, 0, 0)]])
def m_X12_oneDay : aM := (yX12_oneDay, cX12_oneDay, 4, (Option.some Jvm.ClassFile.FieldType.int), [], [[(0, .iconst 0, 1, 0, 0), (1, .istore_n 2, 2, 0, 0), (2, .iconst 0, 3, 0, 0), (3, .istore_n 3, 4, 0, 0), (4, .iload_n 3, 5, 0, 0), (5, .bipush 6, 7, 0, 6), (7, .if_icmp .ge 16, 10, 23, 0), (10, .aload_n 0, 11, 0, 0), (11, .getfield 42, 14, 0, 0), (14, .iload_n 3, 15, 0, 0), (15, .iconst (-1), 16, 0, (-1)), (16, .iastore, 17, 0, 0), (17, .iinc 3 1, 20, 0, 1), (20, .goto (-16), 23, 4, 0), (23, .iconst 0, 24, 0, 0), (24, .istore_n 3, 25, 0, 0), (25, .iload_n 3, 26, 0, 0), (26, .aload_n 0, 27, 0, 0), (27, .invokevirtual 66, 30, 0, 0), (30, .if_icmp .ge 41, 33, 71, 0), (33, .iload_n 2, 34, 0, 0), (34, .iload_n 1, 35, 0, 0), (35, .ifCond .ne 23, 38, 58, 0), (38, .aload_n 0, 39, 0, 0), (39, .bipush 100, 41, 0, 100), (41, .invokevirtual 373, 44, 0, 0), (44, .aload_n 0, 45, 0, 0), (45, .getfield 13, 48, 0, 0), (48, .bipush 6, 50, 0, 6), (50, .iaload, 51, 0, 0), (51, .if_icmp .ge 7, 54, 58, 0), (54, .iconst 0, 55, 0, 0), (55, .goto 8, 58, 63, 0), (58, .aload_n 0, 59, 0, 0), (59, .iload_n 3, 60, 0, 0), (60, .invokevirtual 376, 63, 0, 0), (63, .iadd, 64, 0, 0)],
  [(64, .istore_n 2, 65, 0, 0), (65, .iinc 3 1, 68, 0, 1), (68, .goto (-43), 71, 25, 0), (71, .aload_n 0, 72, 0, 0), (72, .getfield 13, 75, 0, 0), (75, .iconst 4, 76, 0, 4), (76, .dup2, 77, 0, 0), (77, .iaload, 78, 0, 0), (78, .iconst 1, 79, 0, 1), (79, .iadd, 80, 0, 0), (80, .iastore, 81, 0, 0), (81, .aload_n 0, 82, 0, 0), (82, .getfield 13, 85, 0, 0), (85, .iconst 4, 86, 0, 4), (86, .iaload, 87, 0, 0), (87, .bipush 30, 89, 0, 30), (89, .if_icmp .le 51, 92, 140, 0), (92, .aload_n 0, 93, 0, 0), (93, .getfield 13, 96, 0, 0), (96, .iconst 4, 97, 0, 4), (97, .iconst 1, 98, 0, 1), (98, .iastore, 99, 0, 0), (99, .aload_n 0, 100, 0, 0), (100, .getfield 13, 103, 0, 0), (103, .iconst 5, 104, 0, 5), (104, .sipush 9999, 107, 0, 9999), (107, .aload_n 0, 108, 0, 0), (108, .getfield 13, 111, 0, 0), (111, .iconst 5, 112, 0, 5), (112, .iaload, 113, 0, 0), (113, .iconst 1, 114, 0, 1), (114, .iadd, 115, 0, 0), (115, .invokestatic 295, 118, 0, 0), (118, .iastore, 119, 0, 0), (119, .iconst 0, 120, 0, 0), (120, .istore_n 3, 121, 0, 0), (121, .iload_n 3, 122, 0, 0), (122, .aload_n 0, 123, 0, 0), (123, .invokevirtual 74, 126, 0, 0), (126, .if_icmp .ge 14, 129, 140, 0)],
  [(129, .aload_n 0, 130, 0, 0), (130, .iload_n 3, 131, 0, 0), (131, .invokevirtual 379, 134, 0, 0), (134, .iinc 3 1, 137, 0, 1), (137, .goto (-16), 140, 121, 0), (140, .aload_n 0, 141, 0, 0), (141, .getfield 13, 144, 0, 0), (144, .iconst 4, 145, 0, 4), (145, .iaload, 146, 0, 0), (146, .iconst 2, 147, 0, 2), (147, .if_icmp .ne 7, 150, 154, 0), (150, .aload_n 0, 151, 0, 0), (151, .invokevirtual 382, 154, 0, 0), (154, .iload_n 2, 155, 0, 0), (155, .ireturn, 156, 0, 0)]])
def m_X12_goesOn : aM := (yX12_goesOn, cX12_goesOn, 5, (Option.some Jvm.ClassFile.FieldType.int), [], [[(0, .iconst 0, 1, 0, 0), (1, .istore_n 3, 2, 0, 0), (2, .iconst 0, 3, 0, 0), (3, .istore 4, 5, 0, 0), (5, .iload 4, 7, 0, 0), (7, .iload_n 1, 8, 0, 0), (8, .if_icmp .ge 17, 11, 25, 0), (11, .iload_n 3, 12, 0, 0), (12, .aload_n 0, 13, 0, 0), (13, .iload_n 2, 14, 0, 0), (14, .invokevirtual 385, 17, 0, 0), (17, .iadd, 18, 0, 0), (18, .istore_n 3, 19, 0, 0), (19, .iinc 4 1, 22, 0, 1), (22, .goto (-17), 25, 5, 0), (25, .iload_n 3, 26, 0, 0), (26, .ireturn, 27, 0, 0)]])
def m_X12_keepsAll : aM := (yX12_keepsAll, cX12_keepsAll, 2, (Option.none : Option Jvm.ClassFile.FieldType), [], [[(0, .iconst 0, 1, 0, 0), (1, .istore_n 1, 2, 0, 0), (2, .iload_n 1, 3, 0, 0), (3, .sipush 335, 6, 0, 335), (6, .if_icmp .ge 21, 9, 27, 0), (9, .aload_n 0, 10, 0, 0), (10, .getfield 23, 13, 0, 0), (13, .iload_n 1, 14, 0, 0), (14, .aload_n 0, 15, 0, 0), (15, .getfield 13, 18, 0, 0), (18, .iload_n 1, 19, 0, 0), (19, .iaload, 20, 0, 0), (20, .iastore, 21, 0, 0), (21, .iinc 1 1, 24, 0, 1), (24, .goto (-22), 27, 2, 0), (27, .return_, 28, 0, 0)]])
def m_X12_bringsBack : aM := (yX12_bringsBack, cX12_bringsBack, 2, (Option.none : Option Jvm.ClassFile.FieldType), [], [[(0, .iconst 0, 1, 0, 0), (1, .istore_n 1, 2, 0, 0), (2, .iload_n 1, 3, 0, 0), (3, .sipush 335, 6, 0, 335), (6, .if_icmp .ge 21, 9, 27, 0), (9, .aload_n 0, 10, 0, 0), (10, .getfield 13, 13, 0, 0), (13, .iload_n 1, 14, 0, 0), (14, .aload_n 0, 15, 0, 0), (15, .getfield 23, 18, 0, 0), (18, .iload_n 1, 19, 0, 0), (19, .iaload, 20, 0, 0), (20, .iastore, 21, 0, 0), (21, .iinc 1 1, 24, 0, 1), (24, .goto (-22), 27, 2, 0), (27, .return_, 28, 0, 0)]])
def m_X12_days : aM := (yX12_days, cX12_days, 2, (Option.some Jvm.ClassFile.FieldType.int), [], [[(0, .aload_n 0, 1, 0, 0), (1, .iconst 0, 2, 0, 0), (2, .putfield 3, 5, 0, 0), (5, .aload_n 0, 6, 0, 0), (6, .iload_n 1, 7, 0, 0), (7, .iconst 1, 8, 0, 1), (8, .bipush 90, 10, 0, 90), (10, .invokestatic 70, 13, 0, 0), (13, .ifCond .ne 7, 16, 20, 0), (16, .iconst 1, 17, 0, 1), (17, .goto 4, 20, 21, 0), (20, .iconst 0, 21, 0, 0), (21, .iconst 1, 22, 0, 1), (22, .invokevirtual 243, 25, 0, 0), (25, .ifCond .eq 5, 28, 30, 0), (28, .iconst 0, 29, 0, 0), (29, .ireturn, 30, 0, 0), (30, .aload_n 0, 31, 0, 0), (31, .invokevirtual 357, 34, 0, 0), (34, .aload_n 0, 35, 0, 0), (35, .iload_n 1, 36, 0, 0), (36, .iconst 0, 37, 0, 0), (37, .invokevirtual 388, 40, 0, 0), (40, .ireturn, 41, 0, 0)]])
def m_X12_noDays : aM := (yX12_noDays, cX12_noDays, 1, (Option.some Jvm.ClassFile.FieldType.boolean), [], [[(0, .iload_n 0, 1, 0, 0), (1, .iconst 0, 2, 0, 0), (2, .bipush 90, 4, 0, 90), (4, .invokestatic 70, 7, 0, 0), (7, .ifCond .ne 7, 10, 14, 0), (10, .iconst 1, 11, 0, 1), (11, .goto 4, 14, 15, 0), (14, .iconst 0, 15, 0, 0), (15, .ireturn, 16, 0, 0)]])
def m_X12_ahead : aM := (yX12_ahead, cX12_ahead, 5, (Option.some Jvm.ClassFile.FieldType.int), [], [[(0, .aload_n 0, 1, 0, 0), (1, .iconst 0, 2, 0, 0), (2, .putfield 3, 5, 0, 0), (5, .aload_n 0, 6, 0, 0), (6, .aload_n 0, 7, 0, 0), (7, .iload_n 1, 8, 0, 0), (8, .invokevirtual 289, 11, 0, 0), (11, .iconst 1, 12, 0, 1), (12, .invokevirtual 243, 15, 0, 0), (15, .ifCond .ne 37, 18, 52, 0), (18, .aload_n 0, 19, 0, 0), (19, .iload_n 2, 20, 0, 0), (20, .invokestatic 392, 23, 0, 0), (23, .iconst 2, 24, 0, 2), (24, .invokevirtual 243, 27, 0, 0), (27, .ifCond .ne 25, 30, 52, 0), (30, .aload_n 0, 31, 0, 0), (31, .iload_n 3, 32, 0, 0), (32, .iconst 0, 33, 0, 0), (33, .iconst 2, 34, 0, 2), (34, .invokestatic 70, 37, 0, 0), (37, .ifCond .ne 7, 40, 44, 0), (40, .iconst 1, 41, 0, 1), (41, .goto 4, 44, 45, 0), (44, .iconst 0, 45, 0, 0), (45, .iconst 3, 46, 0, 3), (46, .invokevirtual 243, 49, 0, 0), (49, .ifCond .eq 5, 52, 54, 0), (52, .iconst 0, 53, 0, 0), (53, .ireturn, 54, 0, 0), (54, .aload_n 0, 55, 0, 0), (55, .invokevirtual 395, 58, 0, 0), (58, .aload_n 0, 59, 0, 0), (59, .iload_n 2, 60, 0, 0), (60, .iconst 1, 61, 0, 1), (61, .invokevirtual 388, 64, 0, 0)],
  [(64, .pop, 65, 0, 0), (65, .iload_n 3, 66, 0, 0), (66, .ifCond .ne 12, 69, 78, 0), (69, .aload_n 0, 70, 0, 0), (70, .iload_n 1, 71, 0, 0), (71, .iconst 1, 72, 0, 1), (72, .invokevirtual 63, 75, 0, 0), (75, .goto 23, 78, 98, 0), (78, .iload_n 3, 79, 0, 0), (79, .iconst 1, 80, 0, 1), (80, .if_icmp .ne 12, 83, 92, 0), (83, .aload_n 0, 84, 0, 0), (84, .iload_n 1, 85, 0, 0), (85, .iconst 2, 86, 0, 2), (86, .invokevirtual 63, 89, 0, 0), (89, .goto 9, 92, 98, 0), (92, .aload_n 0, 93, 0, 0), (93, .iload_n 1, 94, 0, 0), (94, .iconst 5, 95, 0, 5), (95, .invokevirtual 63, 98, 0, 0), (98, .istore 4, 100, 0, 0), (100, .aload_n 0, 101, 0, 0), (101, .invokevirtual 398, 104, 0, 0), (104, .iload 4, 106, 0, 0), (106, .ireturn, 107, 0, 0)]])
def m_X12_overIn : aM := (yX12_overIn, cX12_overIn, 6, (Option.some Jvm.ClassFile.FieldType.int), [], [[(0, .ldc_w 401, 3, 0, 0), (3, .istore_n 3, 4, 0, 0), (4, .iconst 0, 5, 0, 0), (5, .istore 4, 7, 0, 0), (7, .iload 4, 9, 0, 0), (9, .bipush 90, 11, 0, 90), (11, .if_icmp .gt 61, 14, 72, 0), (14, .iload_n 3, 15, 0, 0), (15, .ldc_w 401, 18, 0, 0), (18, .if_icmp .ne 54, 21, 72, 0), (21, .iload_n 2, 22, 0, 0), (22, .ifCond .eq 15, 25, 37, 0), (25, .iload_n 1, 26, 0, 0), (26, .aload_n 0, 27, 0, 0), (27, .iconst 1, 28, 0, 1), (28, .invokevirtual 324, 31, 0, 0), (31, .iconst (-1), 32, 0, (-1)), (32, .ixor, 33, 0, 0), (33, .iand, 34, 0, 0), (34, .goto 10, 37, 44, 0), (37, .iload_n 1, 38, 0, 0), (38, .aload_n 0, 39, 0, 0), (39, .iconst 0, 40, 0, 0), (40, .invokevirtual 324, 43, 0, 0), (43, .iand, 44, 0, 0), (44, .istore 5, 46, 0, 0), (46, .iload 5, 48, 0, 0), (48, .ifCond .ne 8, 51, 56, 0), (51, .iload 4, 53, 0, 0), (53, .goto 6, 56, 59, 0), (56, .ldc_w 401, 59, 0, 0), (59, .istore_n 3, 60, 0, 0), (60, .aload_n 0, 61, 0, 0), (61, .iconst 1, 62, 0, 1), (62, .invokevirtual 385, 65, 0, 0)],
  [(65, .pop, 66, 0, 0), (66, .iinc 4 1, 69, 0, 1), (69, .goto (-62), 72, 7, 0), (72, .aload_n 0, 73, 0, 0), (73, .invokevirtual 398, 76, 0, 0), (76, .iload_n 3, 77, 0, 0), (77, .ireturn, 78, 0, 0)]])
def m_X12_allDuties : aM := (yX12_allDuties, cX12_allDuties, 1, (Option.some Jvm.ClassFile.FieldType.int), [], [[(0, .iconst 1, 1, 0, 1), (1, .aload_n 0, 2, 0, 0), (2, .invokevirtual 74, 5, 0, 0), (5, .ishl, 6, 0, 0), (6, .iconst 1, 7, 0, 1), (7, .isub, 8, 0, 0), (8, .ireturn, 9, 0, 0)]])
def m_X12_allOver : aM := (yX12_allOver, cX12_allOver, 1, (Option.some Jvm.ClassFile.FieldType.int), [], [[(0, .aload_n 0, 1, 0, 0), (1, .invokevirtual 395, 4, 0, 0), (4, .aload_n 0, 5, 0, 0), (5, .aload_n 0, 6, 0, 0), (6, .invokevirtual 402, 9, 0, 0), (9, .iconst 0, 10, 0, 0), (10, .invokevirtual 405, 13, 0, 0), (13, .ireturn, 14, 0, 0)]])
def m_X12_orNone : aM := (yX12_orNone, cX12_orNone, 1, (Option.some Jvm.ClassFile.FieldType.int), [], [[(0, .iload_n 0, 1, 0, 0), (1, .ldc_w 401, 4, 0, 0), (4, .if_icmp .lt 7, 7, 11, 0), (7, .iconst (-1), 8, 0, (-1)), (8, .goto 4, 11, 12, 0), (11, .iload_n 0, 12, 0, 0), (12, .ireturn, 13, 0, 0)]])
def m_X12_done : aM := (yX12_done, cX12_done, 2, (Option.some Jvm.ClassFile.FieldType.int), [], [[(0, .aload_n 0, 1, 0, 0), (1, .iconst 0, 2, 0, 0), (2, .putfield 3, 5, 0, 0), (5, .aload_n 0, 6, 0, 0), (6, .aload_n 0, 7, 0, 0), (7, .iload_n 1, 8, 0, 0), (8, .invokevirtual 289, 11, 0, 0), (11, .iconst 1, 12, 0, 1), (12, .invokevirtual 243, 15, 0, 0), (15, .ifCond .eq 5, 18, 20, 0), (18, .iconst 0, 19, 0, 0), (19, .ireturn, 20, 0, 0), (20, .aload_n 0, 21, 0, 0), (21, .invokevirtual 395, 24, 0, 0), (24, .aload_n 0, 25, 0, 0), (25, .iconst 1, 26, 0, 1), (26, .iload_n 1, 27, 0, 0), (27, .ishl, 28, 0, 0), (28, .iconst 1, 29, 0, 1), (29, .invokevirtual 405, 32, 0, 0), (32, .invokestatic 408, 35, 0, 0), (35, .ireturn, 36, 0, 0)]])
def m_X12_all : aM := (yX12_all, cX12_all, 1, (Option.some Jvm.ClassFile.FieldType.int), [], [[(0, .aload_n 0, 1, 0, 0), (1, .iconst 0, 2, 0, 0), (2, .putfield 3, 5, 0, 0), (5, .aload_n 0, 6, 0, 0), (6, .invokevirtual 411, 9, 0, 0), (9, .invokestatic 408, 12, 0, 0), (12, .ireturn, 13, 0, 0)]])
def m_X12_overWith : aM := (yX12_overWith, cX12_overWith, 3, (Option.some Jvm.ClassFile.FieldType.int), [], [[(0, .aload_n 0, 1, 0, 0), (1, .invokevirtual 395, 4, 0, 0), (4, .aload_n 0, 5, 0, 0), (5, .getfield 13, 8, 0, 0), (8, .iload_n 1, 9, 0, 0), (9, .iconst 1, 10, 0, 1), (10, .invokestatic 56, 13, 0, 0), (13, .iload_n 2, 14, 0, 0), (14, .iastore, 15, 0, 0), (15, .aload_n 0, 16, 0, 0), (16, .aload_n 0, 17, 0, 0), (17, .invokevirtual 402, 20, 0, 0), (20, .iconst 0, 21, 0, 0), (21, .invokevirtual 405, 24, 0, 0), (24, .ireturn, 25, 0, 0)]])
def m_X12_help : aM := (yX12_help, cX12_help, 5, (Option.some Jvm.ClassFile.FieldType.int), [], [[(0, .aload_n 0, 1, 0, 0), (1, .iconst 0, 2, 0, 0), (2, .putfield 3, 5, 0, 0), (5, .iconst (-1), 6, 0, (-1)), (6, .istore_n 1, 7, 0, 0), (7, .aload_n 0, 8, 0, 0), (8, .invokevirtual 411, 11, 0, 0), (11, .istore_n 2, 12, 0, 0), (12, .iconst 0, 13, 0, 0), (13, .istore_n 3, 14, 0, 0), (14, .iload_n 3, 15, 0, 0), (15, .aload_n 0, 16, 0, 0), (16, .invokevirtual 66, 19, 0, 0), (19, .if_icmp .ge 48, 22, 67, 0), (22, .aload_n 0, 23, 0, 0), (23, .iload_n 3, 24, 0, 0), (24, .bipush 9, 26, 0, 9), (26, .aload_n 0, 27, 0, 0), (27, .iload_n 3, 28, 0, 0), (28, .iconst 1, 29, 0, 1), (29, .invokevirtual 252, 32, 0, 0), (32, .iconst 1, 33, 0, 1), (33, .iadd, 34, 0, 0), (34, .invokestatic 295, 37, 0, 0), (37, .invokevirtual 414, 40, 0, 0), (40, .istore 4, 42, 0, 0), (42, .iload 4, 44, 0, 0), (44, .iload_n 2, 45, 0, 0), (45, .if_icmp .ge 7, 48, 52, 0), (48, .iload_n 3, 49, 0, 0), (49, .goto 4, 52, 53, 0), (52, .iload_n 1, 53, 0, 0), (53, .istore_n 1, 54, 0, 0), (54, .iload_n 2, 55, 0, 0), (55, .iload 4, 57, 0, 0), (57, .invokestatic 295, 60, 0, 0), (60, .istore_n 2, 61, 0, 0), (61, .iinc 3 1, 64, 0, 1)],
  [(64, .goto (-50), 67, 14, 0), (67, .iload_n 1, 68, 0, 0), (68, .ireturn, 69, 0, 0)]])
def m_X12_crux : aM := (yX12_crux, cX12_crux, 5, (Option.some Jvm.ClassFile.FieldType.int), [], [[(0, .aload_n 0, 1, 0, 0), (1, .iconst 0, 2, 0, 0), (2, .putfield 3, 5, 0, 0), (5, .iconst (-1), 6, 0, (-1)), (6, .istore_n 1, 7, 0, 0), (7, .aload_n 0, 8, 0, 0), (8, .invokevirtual 411, 11, 0, 0), (11, .istore_n 2, 12, 0, 0), (12, .iconst 0, 13, 0, 0), (13, .istore_n 3, 14, 0, 0), (14, .iload_n 3, 15, 0, 0), (15, .aload_n 0, 16, 0, 0), (16, .invokevirtual 74, 19, 0, 0), (19, .if_icmp .ge 59, 22, 78, 0), (22, .aload_n 0, 23, 0, 0), (23, .iload_n 3, 24, 0, 0), (24, .invokevirtual 135, 27, 0, 0), (27, .ifCond .ne 6, 30, 33, 0), (30, .goto 42, 33, 72, 0), (33, .aload_n 0, 34, 0, 0), (34, .invokevirtual 395, 37, 0, 0), (37, .aload_n 0, 38, 0, 0), (38, .iload_n 3, 39, 0, 0), (39, .invokevirtual 360, 42, 0, 0), (42, .aload_n 0, 43, 0, 0), (43, .aload_n 0, 44, 0, 0), (44, .invokevirtual 402, 47, 0, 0), (47, .iconst 0, 48, 0, 0), (48, .invokevirtual 405, 51, 0, 0), (51, .istore 4, 53, 0, 0), (53, .iload 4, 55, 0, 0), (55, .iload_n 2, 56, 0, 0), (56, .if_icmp .ge 7, 59, 63, 0), (59, .iload_n 3, 60, 0, 0), (60, .goto 4, 63, 64, 0), (63, .iload_n 1, 64, 0, 0)],
  [(64, .istore_n 1, 65, 0, 0), (65, .iload_n 2, 66, 0, 0), (66, .iload 4, 68, 0, 0), (68, .invokestatic 295, 71, 0, 0), (71, .istore_n 2, 72, 0, 0), (72, .iinc 3 1, 75, 0, 1), (75, .goto (-61), 78, 14, 0), (78, .iload_n 1, 79, 0, 0), (79, .ireturn, 80, 0, 0)]])
def m_X12_sick : aM := (yX12_sick, cX12_sick, 4, (Option.some Jvm.ClassFile.FieldType.int), [], [[(0, .aload_n 0, 1, 0, 0), (1, .iconst 0, 2, 0, 0), (2, .putfield 3, 5, 0, 0), (5, .aload_n 0, 6, 0, 0), (6, .aload_n 0, 7, 0, 0), (7, .iload_n 1, 8, 0, 0), (8, .invokevirtual 342, 11, 0, 0), (11, .iconst 1, 12, 0, 1), (12, .invokevirtual 243, 15, 0, 0), (15, .ifCond .eq 5, 18, 20, 0), (18, .iconst 0, 19, 0, 0), (19, .ireturn, 20, 0, 0), (20, .aload_n 0, 21, 0, 0), (21, .invokevirtual 411, 24, 0, 0), (24, .istore_n 2, 25, 0, 0), (25, .aload_n 0, 26, 0, 0), (26, .iload_n 1, 27, 0, 0), (27, .iconst 0, 28, 0, 0), (28, .invokevirtual 414, 31, 0, 0), (31, .istore_n 3, 32, 0, 0), (32, .iload_n 2, 33, 0, 0), (33, .ldc_w 401, 36, 0, 0), (36, .if_icmp .ne 5, 39, 41, 0), (39, .iconst (-1), 40, 0, (-1)), (40, .ireturn, 41, 0, 0), (41, .iload_n 3, 42, 0, 0), (42, .ldc_w 401, 45, 0, 0), (45, .if_icmp .ne 9, 48, 54, 0), (48, .sipush 1000, 51, 0, 1000), (51, .goto 6, 54, 57, 0), (54, .iload_n 3, 55, 0, 0), (55, .iload_n 2, 56, 0, 0), (56, .isub, 57, 0, 0), (57, .ireturn, 58, 0, 0)]])
def m_X12_beforeOf : aM := (yX12_beforeOf, cX12_beforeOf, 4, (Option.some Jvm.ClassFile.FieldType.int), [], [[(0, .iconst 0, 1, 0, 0), (1, .istore_n 2, 2, 0, 0), (2, .aload_n 0, 3, 0, 0), (3, .iload_n 1, 4, 0, 0), (4, .iconst 4, 5, 0, 4), (5, .invokevirtual 63, 8, 0, 0), (8, .istore_n 3, 9, 0, 0), (9, .iload_n 3, 10, 0, 0), (10, .iconst (-1), 11, 0, (-1)), (11, .if_icmp .eq 27, 14, 38, 0), (14, .iload_n 2, 15, 0, 0), (15, .iload_n 3, 16, 0, 0), (16, .invokestatic 304, 19, 0, 0), (19, .ifCond .ne 19, 22, 38, 0), (22, .iload_n 2, 23, 0, 0), (23, .iconst 1, 24, 0, 1), (24, .iload_n 3, 25, 0, 0), (25, .ishl, 26, 0, 0), (26, .ior, 27, 0, 0), (27, .istore_n 2, 28, 0, 0), (28, .aload_n 0, 29, 0, 0), (29, .iload_n 3, 30, 0, 0), (30, .iconst 4, 31, 0, 4), (31, .invokevirtual 63, 34, 0, 0), (34, .istore_n 3, 35, 0, 0), (35, .goto (-26), 38, 9, 0), (38, .iload_n 2, 39, 0, 0), (39, .ireturn, 40, 0, 0)]])
def m_X12_ringOnes : aM := (yX12_ringOnes, cX12_ringOnes, 3, (Option.some Jvm.ClassFile.FieldType.int), [], [[(0, .iconst 0, 1, 0, 0), (1, .istore_n 1, 2, 0, 0), (2, .iconst 0, 3, 0, 0), (3, .istore_n 2, 4, 0, 0), (4, .iload_n 2, 5, 0, 0), (5, .aload_n 0, 6, 0, 0), (6, .invokevirtual 74, 9, 0, 0), (9, .if_icmp .ge 31, 12, 40, 0), (12, .iload_n 1, 13, 0, 0), (13, .aload_n 0, 14, 0, 0), (14, .iload_n 2, 15, 0, 0), (15, .invokevirtual 417, 18, 0, 0), (18, .iload_n 2, 19, 0, 0), (19, .invokestatic 304, 22, 0, 0), (22, .ifCond .eq 9, 25, 31, 0), (25, .iconst 1, 26, 0, 1), (26, .iload_n 2, 27, 0, 0), (27, .ishl, 28, 0, 0), (28, .goto 4, 31, 32, 0), (31, .iconst 0, 32, 0, 0), (32, .ior, 33, 0, 0), (33, .istore_n 1, 34, 0, 0), (34, .iinc 2 1, 37, 0, 1), (37, .goto (-33), 40, 4, 0), (40, .iload_n 1, 41, 0, 0), (41, .ireturn, 42, 0, 0)]])
def m_X12_ring : aM := (yX12_ring, cX12_ring, 1, (Option.some Jvm.ClassFile.FieldType.int), [], [[(0, .aload_n 0, 1, 0, 0), (1, .iconst 0, 2, 0, 0), (2, .putfield 3, 5, 0, 0), (5, .aload_n 0, 6, 0, 0), (6, .invokevirtual 420, 9, 0, 0), (9, .ireturn, 10, 0, 0)]])
def m_X12_before : aM := (yX12_before, cX12_before, 2, (Option.some Jvm.ClassFile.FieldType.int), [], [[(0, .aload_n 0, 1, 0, 0), (1, .iconst 0, 2, 0, 0), (2, .putfield 3, 5, 0, 0), (5, .aload_n 0, 6, 0, 0), (6, .aload_n 0, 7, 0, 0), (7, .iload_n 1, 8, 0, 0), (8, .invokevirtual 289, 11, 0, 0), (11, .iconst 1, 12, 0, 1), (12, .invokevirtual 243, 15, 0, 0), (15, .ifCond .eq 7, 18, 22, 0), (18, .iconst 0, 19, 0, 0), (19, .goto 8, 22, 27, 0), (22, .aload_n 0, 23, 0, 0), (23, .iload_n 1, 24, 0, 0), (24, .invokevirtual 417, 27, 0, 0), (27, .ireturn, 28, 0, 0)]])
def m_X12_after : aM := (yX12_after, cX12_after, 4, (Option.some Jvm.ClassFile.FieldType.int), [], [[(0, .aload_n 0, 1, 0, 0), (1, .iconst 0, 2, 0, 0), (2, .putfield 3, 5, 0, 0), (5, .aload_n 0, 6, 0, 0), (6, .aload_n 0, 7, 0, 0), (7, .iload_n 1, 8, 0, 0), (8, .invokevirtual 289, 11, 0, 0), (11, .iconst 1, 12, 0, 1), (12, .invokevirtual 243, 15, 0, 0), (15, .ifCond .eq 5, 18, 20, 0), (18, .iconst 0, 19, 0, 0), (19, .ireturn, 20, 0, 0), (20, .iconst 0, 21, 0, 0), (21, .istore_n 2, 22, 0, 0), (22, .iconst 0, 23, 0, 0), (23, .istore_n 3, 24, 0, 0), (24, .iload_n 3, 25, 0, 0), (25, .aload_n 0, 26, 0, 0), (26, .invokevirtual 74, 29, 0, 0), (29, .if_icmp .ge 31, 32, 60, 0), (32, .iload_n 2, 33, 0, 0), (33, .aload_n 0, 34, 0, 0), (34, .iload_n 3, 35, 0, 0), (35, .invokevirtual 417, 38, 0, 0), (38, .iload_n 1, 39, 0, 0), (39, .invokestatic 304, 42, 0, 0), (42, .ifCond .eq 9, 45, 51, 0), (45, .iconst 1, 46, 0, 1), (46, .iload_n 3, 47, 0, 0), (47, .ishl, 48, 0, 0), (48, .goto 4, 51, 52, 0), (51, .iconst 0, 52, 0, 0), (52, .ior, 53, 0, 0), (53, .istore_n 2, 54, 0, 0), (54, .iinc 3 1, 57, 0, 1), (57, .goto (-33), 60, 24, 0), (60, .iload_n 2, 61, 0, 0), (61, .ireturn, 62, 0, 0)]])
def m_X12_depth : aM := (yX12_depth, cX12_depth, 2, (Option.some Jvm.ClassFile.FieldType.int), [], [[(0, .aload_n 0, 1, 0, 0), (1, .iconst 0, 2, 0, 0), (2, .putfield 3, 5, 0, 0), (5, .aload_n 0, 6, 0, 0), (6, .aload_n 0, 7, 0, 0), (7, .iload_n 1, 8, 0, 0), (8, .invokevirtual 289, 11, 0, 0), (11, .iconst 1, 12, 0, 1), (12, .invokevirtual 243, 15, 0, 0), (15, .ifCond .eq 7, 18, 22, 0), (18, .iconst 0, 19, 0, 0), (19, .goto 19, 22, 38, 0), (22, .aload_n 0, 23, 0, 0), (23, .iload_n 1, 24, 0, 0), (24, .invokevirtual 417, 27, 0, 0), (27, .aload_n 0, 28, 0, 0), (28, .iconst 1, 29, 0, 1), (29, .invokevirtual 324, 32, 0, 0), (32, .iconst (-1), 33, 0, (-1)), (33, .ixor, 34, 0, 0), (34, .iand, 35, 0, 0), (35, .invokestatic 310, 38, 0, 0), (38, .ireturn, 39, 0, 0)]])
def m_X12_chainOf : aM := (yX12_chainOf, cX12_chainOf, 4, (Option.some Jvm.ClassFile.FieldType.int), [], [[(0, .iconst 0, 1, 0, 0), (1, .istore_n 2, 2, 0, 0), (2, .iload_n 1, 3, 0, 0), (3, .istore_n 3, 4, 0, 0), (4, .iload_n 3, 5, 0, 0), (5, .iconst (-1), 6, 0, (-1)), (6, .if_icmp .eq 45, 9, 51, 0), (9, .aload_n 0, 10, 0, 0), (10, .iload_n 3, 11, 0, 0), (11, .invokevirtual 246, 14, 0, 0), (14, .ifCond .ne 37, 17, 51, 0), (17, .iload_n 2, 18, 0, 0), (18, .iload_n 3, 19, 0, 0), (19, .invokestatic 304, 22, 0, 0), (22, .ifCond .ne 11, 25, 33, 0), (25, .aload_n 0, 26, 0, 0), (26, .iload_n 3, 27, 0, 0), (27, .invokevirtual 364, 30, 0, 0), (30, .ifCond .eq 5, 33, 35, 0), (33, .iconst (-1), 34, 0, (-1)), (34, .ireturn, 35, 0, 0), (35, .iload_n 2, 36, 0, 0), (36, .iconst 1, 37, 0, 1), (37, .iload_n 3, 38, 0, 0), (38, .ishl, 39, 0, 0), (39, .ior, 40, 0, 0), (40, .istore_n 2, 41, 0, 0), (41, .aload_n 0, 42, 0, 0), (42, .iload_n 3, 43, 0, 0), (43, .iconst 4, 44, 0, 4), (44, .invokevirtual 63, 47, 0, 0), (47, .istore_n 3, 48, 0, 0), (48, .goto (-44), 51, 4, 0), (51, .iload_n 2, 52, 0, 0), (52, .ireturn, 53, 0, 0)]])
def m_X12_soonOf : aM := (yX12_soonOf, cX12_soonOf, 3, (Option.some Jvm.ClassFile.FieldType.int), [], [[(0, .aload_n 0, 1, 0, 0), (1, .iload_n 1, 2, 0, 0), (2, .invokevirtual 135, 5, 0, 0), (5, .ifCond .ne 5, 8, 10, 0), (8, .iconst 0, 9, 0, 0), (9, .ireturn, 10, 0, 0), (10, .aload_n 0, 11, 0, 0), (11, .iload_n 1, 12, 0, 0), (12, .invokevirtual 423, 15, 0, 0), (15, .istore_n 2, 16, 0, 0), (16, .iload_n 2, 17, 0, 0), (17, .iconst (-1), 18, 0, (-1)), (18, .if_icmp .ne 7, 21, 25, 0), (21, .iconst (-1), 22, 0, (-1)), (22, .goto 8, 25, 30, 0), (25, .aload_n 0, 26, 0, 0), (26, .iload_n 2, 27, 0, 0), (27, .invokevirtual 330, 30, 0, 0), (30, .ireturn, 31, 0, 0)]])
def m_X12_soon : aM := (yX12_soon, cX12_soon, 2, (Option.some Jvm.ClassFile.FieldType.int), [], [[(0, .aload_n 0, 1, 0, 0), (1, .iconst 0, 2, 0, 0), (2, .putfield 3, 5, 0, 0), (5, .aload_n 0, 6, 0, 0), (6, .aload_n 0, 7, 0, 0), (7, .iload_n 1, 8, 0, 0), (8, .invokevirtual 289, 11, 0, 0), (11, .iconst 1, 12, 0, 1), (12, .invokevirtual 243, 15, 0, 0), (15, .ifCond .eq 7, 18, 22, 0), (18, .iconst 0, 19, 0, 0), (19, .goto 8, 22, 27, 0), (22, .aload_n 0, 23, 0, 0), (23, .iload_n 1, 24, 0, 0), (24, .invokevirtual 426, 27, 0, 0), (27, .ireturn, 28, 0, 0)]])
def m_X12_longest : aM := (yX12_longest, cX12_longest, 3, (Option.some Jvm.ClassFile.FieldType.int), [], [[(0, .aload_n 0, 1, 0, 0), (1, .iconst 0, 2, 0, 0), (2, .putfield 3, 5, 0, 0), (5, .iconst 0, 6, 0, 0), (6, .istore_n 1, 7, 0, 0), (7, .iconst 0, 8, 0, 0), (8, .istore_n 2, 9, 0, 0), (9, .iload_n 2, 10, 0, 0), (10, .aload_n 0, 11, 0, 0), (11, .invokevirtual 74, 14, 0, 0), (14, .if_icmp .ge 19, 17, 33, 0), (17, .iload_n 1, 18, 0, 0), (18, .aload_n 0, 19, 0, 0), (19, .iload_n 2, 20, 0, 0), (20, .invokevirtual 426, 23, 0, 0), (23, .invokestatic 265, 26, 0, 0), (26, .istore_n 1, 27, 0, 0), (27, .iinc 2 1, 30, 0, 1), (30, .goto (-21), 33, 9, 0), (33, .iload_n 1, 34, 0, 0), (34, .ireturn, 35, 0, 0)]])
def m_X12_olderOnes : aM := (yX12_olderOnes, cX12_olderOnes, 4, (Option.some Jvm.ClassFile.FieldType.int), [], [[(0, .iconst 0, 1, 0, 0), (1, .istore_n 2, 2, 0, 0), (2, .iconst 0, 3, 0, 0), (3, .istore_n 3, 4, 0, 0), (4, .iload_n 3, 5, 0, 0), (5, .aload_n 0, 6, 0, 0), (6, .invokevirtual 74, 9, 0, 0), (9, .if_icmp .ge 37, 12, 46, 0), (12, .iload_n 2, 13, 0, 0), (13, .aload_n 0, 14, 0, 0), (14, .iload_n 3, 15, 0, 0), (15, .invokevirtual 135, 18, 0, 0), (18, .ifCond .eq 19, 21, 37, 0), (21, .aload_n 0, 22, 0, 0), (22, .iload_n 3, 23, 0, 0), (23, .iconst 2, 24, 0, 2), (24, .invokevirtual 63, 27, 0, 0), (27, .iload_n 1, 28, 0, 0), (28, .if_icmp .le 9, 31, 37, 0), (31, .iconst 1, 32, 0, 1), (32, .iload_n 3, 33, 0, 0), (33, .ishl, 34, 0, 0), (34, .goto 4, 37, 38, 0), (37, .iconst 0, 38, 0, 0), (38, .ior, 39, 0, 0), (39, .istore_n 2, 40, 0, 0), (40, .iinc 3 1, 43, 0, 1), (43, .goto (-39), 46, 4, 0), (46, .iload_n 2, 47, 0, 0), (47, .ireturn, 48, 0, 0)]])
def m_X12_young : aM := (yX12_young, cX12_young, 5, (Option.some Jvm.ClassFile.FieldType.int), [], [[(0, .aload_n 0, 1, 0, 0), (1, .iconst 0, 2, 0, 0), (2, .putfield 3, 5, 0, 0), (5, .aload_n 0, 6, 0, 0), (6, .iload_n 1, 7, 0, 0), (7, .iconst 0, 8, 0, 0), (8, .bipush 98, 10, 0, 98), (10, .invokestatic 70, 13, 0, 0), (13, .ifCond .ne 7, 16, 20, 0), (16, .iconst 1, 17, 0, 1), (17, .goto 4, 20, 21, 0), (20, .iconst 0, 21, 0, 0), (21, .iconst 1, 22, 0, 1), (22, .invokevirtual 243, 25, 0, 0), (25, .ifCond .eq 5, 28, 30, 0), (28, .iconst 0, 29, 0, 0), (29, .ireturn, 30, 0, 0), (30, .aload_n 0, 31, 0, 0), (31, .iload_n 1, 32, 0, 0), (32, .invokevirtual 429, 35, 0, 0), (35, .istore_n 2, 36, 0, 0), (36, .iconst 0, 37, 0, 0), (37, .istore_n 3, 38, 0, 0), (38, .iconst 0, 39, 0, 0), (39, .istore 4, 41, 0, 0), (41, .iload 4, 43, 0, 0), (43, .aload_n 0, 44, 0, 0), (44, .invokevirtual 74, 47, 0, 0), (47, .if_icmp .ge 42, 50, 89, 0), (50, .iload_n 2, 51, 0, 0), (51, .iload 4, 53, 0, 0), (53, .invokestatic 304, 56, 0, 0), (56, .ifCond .ne 6, 59, 62, 0), (59, .goto 24, 62, 83, 0), (62, .aload_n 0, 63, 0, 0), (63, .iload 4, 65, 0, 0)],
  [(65, .invokevirtual 423, 68, 0, 0), (68, .iconst (-1), 69, 0, (-1)), (69, .if_icmp .ne 5, 72, 74, 0), (72, .iconst (-1), 73, 0, (-1)), (73, .ireturn, 74, 0, 0), (74, .iload_n 3, 75, 0, 0), (75, .aload_n 0, 76, 0, 0), (76, .iload 4, 78, 0, 0), (78, .invokevirtual 423, 81, 0, 0), (81, .ior, 82, 0, 0), (82, .istore_n 3, 83, 0, 0), (83, .iinc 4 1, 86, 0, 1), (86, .goto (-45), 89, 41, 0), (89, .aload_n 0, 90, 0, 0), (90, .iload_n 3, 91, 0, 0), (91, .invokevirtual 330, 94, 0, 0), (94, .ireturn, 95, 0, 0)]])
def m_X12_older : aM := (yX12_older, cX12_older, 2, (Option.some Jvm.ClassFile.FieldType.int), [], [[(0, .aload_n 0, 1, 0, 0), (1, .iconst 0, 2, 0, 0), (2, .putfield 3, 5, 0, 0), (5, .aload_n 0, 6, 0, 0), (6, .iload_n 1, 7, 0, 0), (7, .iconst 0, 8, 0, 0), (8, .bipush 99, 10, 0, 99), (10, .invokestatic 70, 13, 0, 0), (13, .ifCond .ne 7, 16, 20, 0), (16, .iconst 1, 17, 0, 1), (17, .goto 4, 20, 21, 0), (20, .iconst 0, 21, 0, 0), (21, .iconst 1, 22, 0, 1), (22, .invokevirtual 243, 25, 0, 0), (25, .ifCond .eq 7, 28, 32, 0), (28, .iconst 0, 29, 0, 0), (29, .goto 11, 32, 40, 0), (32, .aload_n 0, 33, 0, 0), (33, .iload_n 1, 34, 0, 0), (34, .invokevirtual 429, 37, 0, 0), (37, .invokestatic 310, 40, 0, 0), (40, .ireturn, 41, 0, 0)]])
def m_X12_leanWithin : aM := (yX12_leanWithin, cX12_leanWithin, 4, (Option.some Jvm.ClassFile.FieldType.boolean), [], [[(0, .iconst 1, 1, 0, 1), (1, .istore_n 2, 2, 0, 0), (2, .iconst 0, 3, 0, 0), (3, .istore_n 3, 4, 0, 0), (4, .iload_n 3, 5, 0, 0), (5, .aload_n 0, 6, 0, 0), (6, .invokevirtual 74, 9, 0, 0), (9, .if_icmp .ge 48, 12, 57, 0), (12, .iload_n 2, 13, 0, 0), (13, .ifCond .eq 36, 16, 49, 0), (16, .iload_n 1, 17, 0, 0), (17, .iload_n 3, 18, 0, 0), (18, .invokestatic 304, 21, 0, 0), (21, .ifCond .eq 24, 24, 45, 0), (24, .aload_n 0, 25, 0, 0), (25, .iload_n 3, 26, 0, 0), (26, .invokevirtual 249, 29, 0, 0), (29, .ifCond .ne 16, 32, 45, 0), (32, .iload_n 1, 33, 0, 0), (33, .aload_n 0, 34, 0, 0), (34, .iload_n 3, 35, 0, 0), (35, .iconst 4, 36, 0, 4), (36, .invokevirtual 63, 39, 0, 0), (39, .invokestatic 304, 42, 0, 0), (42, .ifCond .eq 7, 45, 49, 0), (45, .iconst 1, 46, 0, 1), (46, .goto 4, 49, 50, 0), (49, .iconst 0, 50, 0, 0), (50, .istore_n 2, 51, 0, 0), (51, .iinc 3 1, 54, 0, 1), (54, .goto (-50), 57, 4, 0), (57, .iload_n 2, 58, 0, 0), (58, .ireturn, 59, 0, 0)]])
def m_X12_toDo : aM := (yX12_toDo, cX12_toDo, 7, (Option.some Jvm.ClassFile.FieldType.int), [], [[(0, .aload_n 0, 1, 0, 0), (1, .iconst 0, 2, 0, 0), (2, .invokevirtual 324, 5, 0, 0), (5, .istore_n 2, 6, 0, 0), (6, .iconst 0, 7, 0, 0), (7, .istore_n 3, 8, 0, 0), (8, .aload_n 0, 9, 0, 0), (9, .iload_n 2, 10, 0, 0), (10, .invokevirtual 339, 13, 0, 0), (13, .istore 4, 15, 0, 0), (15, .iconst 1, 16, 0, 1), (16, .istore 5, 18, 0, 0), (18, .iload 5, 20, 0, 0), (20, .iload_n 2, 21, 0, 0), (21, .if_icmp .gt 75, 24, 96, 0), (24, .iload 5, 26, 0, 0), (26, .iload_n 2, 27, 0, 0), (27, .iconst (-1), 28, 0, (-1)), (28, .ixor, 29, 0, 0), (29, .iand, 30, 0, 0), (30, .ifCond .ne 60, 33, 90, 0), (33, .aload_n 0, 34, 0, 0), (34, .iload 5, 36, 0, 0), (36, .invokevirtual 330, 39, 0, 0), (39, .iload_n 1, 40, 0, 0), (40, .if_icmp .gt 50, 43, 90, 0), (43, .aload_n 0, 44, 0, 0), (44, .iload 5, 46, 0, 0), (46, .invokevirtual 432, 49, 0, 0), (49, .ifCond .ne 6, 52, 55, 0), (52, .goto 38, 55, 90, 0), (55, .aload_n 0, 56, 0, 0), (56, .iload_n 2, 57, 0, 0), (57, .iload 5, 59, 0, 0), (59, .iconst (-1), 60, 0, (-1)), (60, .ixor, 61, 0, 0), (61, .iand, 62, 0, 0), (62, .invokevirtual 339, 65, 0, 0)],
  [(65, .istore 6, 67, 0, 0), (67, .iload 6, 69, 0, 0), (69, .iload 4, 71, 0, 0), (71, .if_icmp .ge 8, 74, 79, 0), (74, .iload 5, 76, 0, 0), (76, .goto 4, 79, 80, 0), (79, .iload_n 3, 80, 0, 0), (80, .istore_n 3, 81, 0, 0), (81, .iload 4, 83, 0, 0), (83, .iload 6, 85, 0, 0), (85, .invokestatic 295, 88, 0, 0), (88, .istore 4, 90, 0, 0), (90, .iinc 5 1, 93, 0, 1), (93, .goto (-75), 96, 18, 0), (96, .iload_n 3, 97, 0, 0), (97, .ireturn, 98, 0, 0)]])
def m_X12_does : aM := (yX12_does, cX12_does, 4, (Option.some Jvm.ClassFile.FieldType.int), [], [[(0, .aload_n 0, 1, 0, 0), (1, .iconst 0, 2, 0, 0), (2, .putfield 3, 5, 0, 0), (5, .aload_n 0, 6, 0, 0), (6, .iload_n 1, 7, 0, 0), (7, .iconst 0, 8, 0, 0), (8, .bipush 99, 10, 0, 99), (10, .invokestatic 70, 13, 0, 0), (13, .ifCond .ne 7, 16, 20, 0), (16, .iconst 1, 17, 0, 1), (17, .goto 4, 20, 21, 0), (20, .iconst 0, 21, 0, 0), (21, .iconst 1, 22, 0, 1), (22, .invokevirtual 243, 25, 0, 0), (25, .ifCond .eq 5, 28, 30, 0), (28, .iconst 0, 29, 0, 0), (29, .ireturn, 30, 0, 0), (30, .aload_n 0, 31, 0, 0), (31, .iload_n 1, 32, 0, 0), (32, .invokevirtual 435, 35, 0, 0), (35, .istore_n 3, 36, 0, 0), (36, .iload_n 2, 37, 0, 0), (37, .ifCond .eq 19, 40, 56, 0), (40, .aload_n 0, 41, 0, 0), (41, .aload_n 0, 42, 0, 0), (42, .iconst 0, 43, 0, 0), (43, .invokevirtual 324, 46, 0, 0), (46, .iload_n 3, 47, 0, 0), (47, .iconst (-1), 48, 0, (-1)), (48, .ixor, 49, 0, 0), (49, .iand, 50, 0, 0), (50, .invokevirtual 339, 53, 0, 0), (53, .goto 4, 56, 57, 0), (56, .iload_n 3, 57, 0, 0), (57, .ireturn, 58, 0, 0)]])
def m_X12_isTold : aM := (yX12_isTold, cX12_isTold, 3, (Option.some Jvm.ClassFile.FieldType.boolean), [], [[(0, .aload_n 0, 1, 0, 0), (1, .getfield 84, 4, 0, 0), (4, .iconst 2, 5, 0, 2), (5, .irem, 6, 0, 0), (6, .ifCond .ne 16, 9, 22, 0), (9, .aload_n 0, 10, 0, 0), (10, .getfield 84, 13, 0, 0), (13, .bipush 40, 15, 0, 40), (15, .if_icmp .gt 7, 18, 22, 0), (18, .iconst 1, 19, 0, 1), (19, .goto 4, 22, 23, 0), (22, .iconst 0, 23, 0, 0), (23, .istore_n 1, 24, 0, 0), (24, .iconst 0, 25, 0, 0), (25, .istore_n 2, 26, 0, 0), (26, .iload_n 2, 27, 0, 0), (27, .aload_n 0, 28, 0, 0), (28, .getfield 84, 31, 0, 0), (31, .if_icmp .ge 62, 34, 93, 0), (34, .iload_n 1, 35, 0, 0), (35, .ifCond .eq 58, 38, 93, 0), (38, .aload_n 0, 39, 0, 0), (39, .getfield 29, 42, 0, 0), (42, .iload_n 2, 43, 0, 0), (43, .baload, 44, 0, 0), (44, .invokestatic 292, 47, 0, 0), (47, .ifCond .ne 38, 50, 85, 0), (50, .aload_n 0, 51, 0, 0), (51, .getfield 29, 54, 0, 0), (54, .iload_n 2, 55, 0, 0), (55, .iconst 1, 56, 0, 1), (56, .iadd, 57, 0, 0), (57, .baload, 58, 0, 0), (58, .invokestatic 292, 61, 0, 0), (61, .ifCond .ne 24, 64, 85, 0)],
  [(64, .aload_n 0, 65, 0, 0), (65, .getfield 29, 68, 0, 0), (68, .iload_n 2, 69, 0, 0), (69, .baload, 70, 0, 0), (70, .aload_n 0, 71, 0, 0), (71, .getfield 29, 74, 0, 0), (74, .iload_n 2, 75, 0, 0), (75, .iconst 1, 76, 0, 1), (76, .iadd, 77, 0, 0), (77, .baload, 78, 0, 0), (78, .if_icmp .gt 7, 81, 85, 0), (81, .iconst 1, 82, 0, 1), (82, .goto 4, 85, 86, 0), (85, .iconst 0, 86, 0, 0), (86, .istore_n 1, 87, 0, 0), (87, .iinc 2 2, 90, 0, 2), (90, .goto (-64), 93, 26, 0), (93, .iload_n 1, 94, 0, 0), (94, .ireturn, 95, 0, 0)]])
def m_X12_allThatFit : aM := (yX12_allThatFit, cX12_allThatFit, 5, (Option.some Jvm.ClassFile.FieldType.int), [], [[(0, .iconst 0, 1, 0, 0), (1, .istore_n 1, 2, 0, 0), (2, .iconst 0, 3, 0, 0), (3, .istore_n 2, 4, 0, 0), (4, .iload_n 2, 5, 0, 0), (5, .aload_n 0, 6, 0, 0), (6, .invokevirtual 66, 9, 0, 0), (9, .if_icmp .ge 81, 12, 90, 0), (12, .iconst 1, 13, 0, 1), (13, .istore_n 3, 14, 0, 0), (14, .iconst 0, 15, 0, 0), (15, .istore 4, 17, 0, 0), (17, .iload 4, 19, 0, 0), (19, .aload_n 0, 20, 0, 0), (20, .getfield 84, 23, 0, 0), (23, .if_icmp .ge 47, 26, 70, 0), (26, .iload_n 3, 27, 0, 0), (27, .ifCond .eq 35, 30, 62, 0), (30, .aload_n 0, 31, 0, 0), (31, .iload_n 2, 32, 0, 0), (32, .iconst 0, 33, 0, 0), (33, .invokevirtual 252, 36, 0, 0), (36, .aload_n 0, 37, 0, 0), (37, .getfield 29, 40, 0, 0), (40, .iload 4, 42, 0, 0), (42, .baload, 43, 0, 0), (43, .aload_n 0, 44, 0, 0), (44, .getfield 29, 47, 0, 0), (47, .iload 4, 49, 0, 0), (49, .iconst 1, 50, 0, 1), (50, .iadd, 51, 0, 0), (51, .baload, 52, 0, 0), (52, .invokestatic 70, 55, 0, 0), (55, .ifCond .eq 7, 58, 62, 0), (58, .iconst 1, 59, 0, 1), (59, .goto 4, 62, 63, 0), (62, .iconst 0, 63, 0, 0), (63, .istore_n 3, 64, 0, 0)],
  [(64, .iinc 4 2, 67, 0, 2), (67, .goto (-50), 70, 17, 0), (70, .iload_n 1, 71, 0, 0), (71, .iload_n 3, 72, 0, 0), (72, .ifCond .eq 9, 75, 81, 0), (75, .iconst 1, 76, 0, 1), (76, .iload_n 2, 77, 0, 0), (77, .ishl, 78, 0, 0), (78, .goto 4, 81, 82, 0), (81, .iconst 0, 82, 0, 0), (82, .ior, 83, 0, 0), (83, .istore_n 1, 84, 0, 0), (84, .iinc 2 1, 87, 0, 1), (87, .goto (-83), 90, 4, 0), (90, .iload_n 1, 91, 0, 0), (91, .ireturn, 92, 0, 0)]])
def m_X12_whose : aM := (yX12_whose, cX12_whose, 1, (Option.some Jvm.ClassFile.FieldType.int), [], [[(0, .aload_n 0, 1, 0, 0), (1, .invokevirtual 232, 4, 0, 0), (4, .aload_n 0, 5, 0, 0), (5, .aload_n 0, 6, 0, 0), (6, .invokevirtual 438, 9, 0, 0), (9, .ifCond .ne 7, 12, 16, 0), (12, .iconst 1, 13, 0, 1), (13, .goto 4, 16, 17, 0), (16, .iconst 0, 17, 0, 0), (17, .iconst 1, 18, 0, 1), (18, .invokevirtual 243, 21, 0, 0), (21, .ifCond .eq 7, 24, 28, 0), (24, .iconst 0, 25, 0, 0), (25, .goto 7, 28, 32, 0), (28, .aload_n 0, 29, 0, 0), (29, .invokevirtual 441, 32, 0, 0), (32, .ireturn, 33, 0, 0)]])
def m_X12_ask : aM := (yX12_ask, cX12_ask, 8, (Option.some Jvm.ClassFile.FieldType.int), [], [[(0, .aload_n 0, 1, 0, 0), (1, .invokevirtual 232, 4, 0, 0), (4, .aload_n 0, 5, 0, 0), (5, .aload_n 0, 6, 0, 0), (6, .invokevirtual 438, 9, 0, 0), (9, .ifCond .ne 7, 12, 16, 0), (12, .iconst 1, 13, 0, 1), (13, .goto 4, 16, 17, 0), (16, .iconst 0, 17, 0, 0), (17, .iconst 1, 18, 0, 1), (18, .invokevirtual 243, 21, 0, 0), (21, .ifCond .eq 5, 24, 26, 0), (24, .iconst 0, 25, 0, 0), (25, .ireturn, 26, 0, 0), (26, .aload_n 0, 27, 0, 0), (27, .invokevirtual 441, 30, 0, 0), (30, .istore_n 1, 31, 0, 0), (31, .iload_n 1, 32, 0, 0), (32, .invokestatic 310, 35, 0, 0), (35, .istore_n 2, 36, 0, 0), (36, .iconst (-1), 37, 0, (-1)), (37, .istore_n 3, 38, 0, 0), (38, .ldc_w 401, 41, 0, 0), (41, .istore 4, 43, 0, 0), (43, .iconst 0, 44, 0, 0), (44, .istore 5, 46, 0, 0), (46, .iload 5, 48, 0, 0), (48, .bipush 15, 50, 0, 15), (50, .if_icmp .ge 100, 53, 150, 0), (53, .iload_n 2, 54, 0, 0), (54, .iconst 1, 55, 0, 1), (55, .if_icmp .le 95, 58, 150, 0), (58, .iconst 0, 59, 0, 0), (59, .istore 6, 61, 0, 0), (61, .iconst 0, 62, 0, 0), (62, .istore 7, 64, 0, 0)],
  [(64, .iload 7, 66, 0, 0), (66, .aload_n 0, 67, 0, 0), (67, .invokevirtual 66, 70, 0, 0), (70, .if_icmp .ge 40, 73, 110, 0), (73, .iload 6, 75, 0, 0), (75, .iload_n 1, 76, 0, 0), (76, .iload 7, 78, 0, 0), (78, .invokestatic 304, 81, 0, 0), (81, .ifCond .eq 19, 84, 100, 0), (84, .aload_n 0, 85, 0, 0), (85, .iload 7, 87, 0, 0), (87, .iconst 0, 88, 0, 0), (88, .invokevirtual 252, 91, 0, 0), (91, .iload 5, 93, 0, 0), (93, .if_icmp .gt 7, 96, 100, 0), (96, .iconst 1, 97, 0, 1), (97, .goto 4, 100, 101, 0), (100, .iconst 0, 101, 0, 0), (101, .iadd, 102, 0, 0), (102, .istore 6, 104, 0, 0), (104, .iinc 7 1, 107, 0, 1), (107, .goto (-43), 110, 64, 0), (110, .iload 6, 112, 0, 0), (112, .iload_n 2, 113, 0, 0), (113, .iload 6, 115, 0, 0), (115, .isub, 116, 0, 0), (116, .invokestatic 265, 119, 0, 0), (119, .istore 7, 121, 0, 0), (121, .iload 7, 123, 0, 0), (123, .iload 4, 125, 0, 0), (125, .if_icmp .ge 8, 128, 133, 0)],
  [(128, .iload 5, 130, 0, 0), (130, .goto 4, 133, 134, 0), (133, .iload_n 3, 134, 0, 0), (134, .istore_n 3, 135, 0, 0), (135, .iload 4, 137, 0, 0), (137, .iload 7, 139, 0, 0), (139, .invokestatic 295, 142, 0, 0), (142, .istore 4, 144, 0, 0), (144, .iinc 5 1, 147, 0, 1), (147, .goto (-101), 150, 46, 0), (150, .iload_n 3, 151, 0, 0), (151, .ireturn, 152, 0, 0)]])
def m_X12_isGap : aM := (yX12_isGap, cX12_isGap, 4, (Option.some Jvm.ClassFile.FieldType.boolean), [], [[(0, .iload_n 1, 1, 0, 0), (1, .bipush 99, 3, 0, 99), (3, .if_icmp .ge 7, 6, 10, 0), (6, .iconst 1, 7, 0, 1), (7, .goto 4, 10, 11, 0), (10, .iconst 0, 11, 0, 0), (11, .istore_n 2, 12, 0, 0), (12, .iconst 0, 13, 0, 0), (13, .istore_n 3, 14, 0, 0), (14, .iload_n 3, 15, 0, 0), (15, .aload_n 0, 16, 0, 0), (16, .invokevirtual 74, 19, 0, 0), (19, .if_icmp .ge 37, 22, 56, 0), (22, .iload_n 2, 23, 0, 0), (23, .ifCond .eq 25, 26, 48, 0), (26, .aload_n 0, 27, 0, 0), (27, .iload_n 3, 28, 0, 0), (28, .invokevirtual 135, 31, 0, 0), (31, .ifCond .eq 13, 34, 44, 0), (34, .aload_n 0, 35, 0, 0), (35, .iload_n 3, 36, 0, 0), (36, .iconst 2, 37, 0, 2), (37, .invokevirtual 63, 40, 0, 0), (40, .iload_n 1, 41, 0, 0), (41, .if_icmp .eq 7, 44, 48, 0), (44, .iconst 1, 45, 0, 1), (45, .goto 4, 48, 49, 0), (48, .iconst 0, 49, 0, 0), (49, .istore_n 2, 50, 0, 0), (50, .iinc 3 1, 53, 0, 1), (53, .goto (-39), 56, 14, 0), (56, .iload_n 2, 57, 0, 0), (57, .ifCond .eq 15, 60, 72, 0), (60, .aload_n 0, 61, 0, 0), (61, .iload_n 1, 62, 0, 0), (62, .invokevirtual 429, 65, 0, 0)],
  [(65, .ifCond .eq 7, 68, 72, 0), (68, .iconst 1, 69, 0, 1), (69, .goto 4, 72, 73, 0), (72, .iconst 0, 73, 0, 0), (73, .ireturn, 74, 0, 0)]])
def m_X12_gap : aM := (yX12_gap, cX12_gap, 2, (Option.some Jvm.ClassFile.FieldType.int), [], [[(0, .aload_n 0, 1, 0, 0), (1, .iconst 0, 2, 0, 0), (2, .putfield 3, 5, 0, 0), (5, .iconst 0, 6, 0, 0), (6, .istore_n 1, 7, 0, 0), (7, .iload_n 1, 8, 0, 0), (8, .bipush 99, 10, 0, 99), (10, .if_icmp .ge 19, 13, 29, 0), (13, .aload_n 0, 14, 0, 0), (14, .iload_n 1, 15, 0, 0), (15, .invokevirtual 444, 18, 0, 0), (18, .ifCond .eq 5, 21, 23, 0), (21, .iload_n 1, 22, 0, 0), (22, .ireturn, 23, 0, 0), (23, .iinc 1 1, 26, 0, 1), (26, .goto (-19), 29, 7, 0), (29, .iconst (-1), 30, 0, (-1)), (30, .ireturn, 31, 0, 0)]])
def m_X12_lost : aM := (yX12_lost, cX12_lost, 1, (Option.some Jvm.ClassFile.FieldType.int), [], [[(0, .aload_n 0, 1, 0, 0), (1, .iconst 0, 2, 0, 0), (2, .putfield 3, 5, 0, 0), (5, .aload_n 0, 6, 0, 0), (6, .iconst 2, 7, 0, 2), (7, .invokevirtual 324, 10, 0, 0), (10, .ireturn, 11, 0, 0)]])
def m_X12_missed : aM := (yX12_missed, cX12_missed, 3, (Option.some Jvm.ClassFile.FieldType.int), [], [[(0, .aload_n 0, 1, 0, 0), (1, .iconst 0, 2, 0, 0), (2, .putfield 3, 5, 0, 0), (5, .iconst 0, 6, 0, 0), (6, .istore_n 1, 7, 0, 0), (7, .iconst 0, 8, 0, 0), (8, .istore_n 2, 9, 0, 0), (9, .iload_n 2, 10, 0, 0), (10, .aload_n 0, 11, 0, 0), (11, .invokevirtual 74, 14, 0, 0), (14, .if_icmp .ge 40, 17, 54, 0), (17, .iload_n 1, 18, 0, 0), (18, .aload_n 0, 19, 0, 0), (19, .iload_n 2, 20, 0, 0), (20, .invokevirtual 364, 23, 0, 0), (23, .ifCond .eq 22, 26, 45, 0), (26, .aload_n 0, 27, 0, 0), (27, .aload_n 0, 28, 0, 0), (28, .iload_n 2, 29, 0, 0), (29, .iconst 2, 30, 0, 2), (30, .invokevirtual 63, 33, 0, 0), (33, .invokevirtual 444, 36, 0, 0), (36, .ifCond .eq 9, 39, 45, 0), (39, .iconst 1, 40, 0, 1), (40, .iload_n 2, 41, 0, 0), (41, .ishl, 42, 0, 0), (42, .goto 4, 45, 46, 0), (45, .iconst 0, 46, 0, 0), (46, .ior, 47, 0, 0), (47, .istore_n 1, 48, 0, 0), (48, .iinc 2 1, 51, 0, 1), (51, .goto (-42), 54, 9, 0), (54, .iload_n 1, 55, 0, 0), (55, .ireturn, 56, 0, 0)]])
def m_X12_serves : aM := (yX12_serves, cX12_serves, 7, (Option.some Jvm.ClassFile.FieldType.boolean), [], [[(0, .aload_n 0, 1, 0, 0), (1, .iload_n 1, 2, 0, 0), (2, .invokevirtual 333, 5, 0, 0), (5, .aload_n 0, 6, 0, 0), (6, .iload_n 3, 7, 0, 0), (7, .iconst 1, 8, 0, 1), (8, .invokevirtual 63, 11, 0, 0), (11, .isub, 12, 0, 0), (12, .aload_n 0, 13, 0, 0), (13, .iload 4, 15, 0, 0), (15, .iconst 1, 16, 0, 1), (16, .invokevirtual 63, 19, 0, 0), (19, .iadd, 20, 0, 0), (20, .aload_n 0, 21, 0, 0), (21, .iload_n 1, 22, 0, 0), (22, .iconst 1, 23, 0, 1), (23, .invokevirtual 252, 26, 0, 0), (26, .invokestatic 336, 29, 0, 0), (29, .istore 5, 31, 0, 0), (31, .aload_n 0, 32, 0, 0), (32, .iload_n 2, 33, 0, 0), (33, .invokevirtual 333, 36, 0, 0), (36, .aload_n 0, 37, 0, 0), (37, .iload 4, 39, 0, 0), (39, .iconst 1, 40, 0, 1), (40, .invokevirtual 63, 43, 0, 0), (43, .isub, 44, 0, 0), (44, .aload_n 0, 45, 0, 0), (45, .iload_n 3, 46, 0, 0), (46, .iconst 1, 47, 0, 1), (47, .invokevirtual 63, 50, 0, 0), (50, .iadd, 51, 0, 0), (51, .aload_n 0, 52, 0, 0), (52, .iload_n 2, 53, 0, 0), (53, .iconst 1, 54, 0, 1), (54, .invokevirtual 252, 57, 0, 0), (57, .invokestatic 336, 60, 0, 0), (60, .istore 6, 62, 0, 0), (62, .iload 5, 64, 0, 0)],
  [(64, .aload_n 0, 65, 0, 0), (65, .iload_n 1, 66, 0, 0), (66, .invokevirtual 345, 69, 0, 0), (69, .if_icmp .gt 36, 72, 105, 0), (72, .iload 6, 74, 0, 0), (74, .aload_n 0, 75, 0, 0), (75, .iload_n 2, 76, 0, 0), (76, .invokevirtual 345, 79, 0, 0), (79, .if_icmp .gt 26, 82, 105, 0), (82, .iload 5, 84, 0, 0), (84, .iload 6, 86, 0, 0), (86, .iadd, 87, 0, 0), (87, .aload_n 0, 88, 0, 0), (88, .iload_n 1, 89, 0, 0), (89, .invokevirtual 345, 92, 0, 0), (92, .aload_n 0, 93, 0, 0), (93, .iload_n 2, 94, 0, 0), (94, .invokevirtual 345, 97, 0, 0), (97, .iadd, 98, 0, 0), (98, .if_icmp .ge 7, 101, 105, 0), (101, .iconst 1, 102, 0, 1), (102, .goto 4, 105, 106, 0), (105, .iconst 0, 106, 0, 0), (106, .ireturn, 107, 0, 0)]])
def m_X12_swap : aM := (yX12_swap, cX12_swap, 5, (Option.some Jvm.ClassFile.FieldType.int), [], [[(0, .aload_n 0, 1, 0, 0), (1, .iconst 0, 2, 0, 0), (2, .putfield 3, 5, 0, 0), (5, .aload_n 0, 6, 0, 0), (6, .aload_n 0, 7, 0, 0), (7, .iload_n 1, 8, 0, 0), (8, .invokevirtual 342, 11, 0, 0), (11, .ifCond .ne 11, 14, 22, 0), (14, .aload_n 0, 15, 0, 0), (15, .iload_n 2, 16, 0, 0), (16, .invokevirtual 342, 19, 0, 0), (19, .ifCond .eq 7, 22, 26, 0), (22, .iconst 1, 23, 0, 1), (23, .goto 4, 26, 27, 0), (26, .iconst 0, 27, 0, 0), (27, .iconst 1, 28, 0, 1), (28, .invokevirtual 243, 31, 0, 0), (31, .ifCond .ne 21, 34, 52, 0), (34, .aload_n 0, 35, 0, 0), (35, .iload_n 1, 36, 0, 0), (36, .iload_n 2, 37, 0, 0), (37, .if_icmp .ne 7, 40, 44, 0), (40, .iconst 1, 41, 0, 1), (41, .goto 4, 44, 45, 0), (44, .iconst 0, 45, 0, 0), (45, .iconst 2, 46, 0, 2), (46, .invokevirtual 243, 49, 0, 0), (49, .ifCond .eq 5, 52, 54, 0), (52, .iconst 0, 53, 0, 0), (53, .ireturn, 54, 0, 0), (54, .iconst 0, 55, 0, 0), (55, .istore_n 3, 56, 0, 0), (56, .iload_n 3, 57, 0, 0), (57, .aload_n 0, 58, 0, 0), (58, .invokevirtual 74, 61, 0, 0), (61, .if_icmp .ge 72, 64, 133, 0)],
  [(64, .iconst 0, 65, 0, 0), (65, .istore 4, 67, 0, 0), (67, .iload 4, 69, 0, 0), (69, .aload_n 0, 70, 0, 0), (70, .invokevirtual 74, 73, 0, 0), (73, .if_icmp .ge 54, 76, 127, 0), (76, .aload_n 0, 77, 0, 0), (77, .iload_n 1, 78, 0, 0), (78, .invokevirtual 327, 81, 0, 0), (81, .iload_n 3, 82, 0, 0), (82, .invokestatic 304, 85, 0, 0), (85, .ifCond .eq 36, 88, 121, 0), (88, .aload_n 0, 89, 0, 0), (89, .iload_n 2, 90, 0, 0), (90, .invokevirtual 327, 93, 0, 0), (93, .iload 4, 95, 0, 0), (95, .invokestatic 304, 98, 0, 0), (98, .ifCond .eq 23, 101, 121, 0), (101, .aload_n 0, 102, 0, 0), (102, .iload_n 1, 103, 0, 0), (103, .iload_n 2, 104, 0, 0), (104, .iload_n 3, 105, 0, 0), (105, .iload 4, 107, 0, 0), (107, .invokevirtual 447, 110, 0, 0), (110, .ifCond .eq 11, 113, 121, 0), (113, .bipush 12, 115, 0, 12), (115, .iload_n 3, 116, 0, 0), (116, .imul, 117, 0, 0), (117, .iload 4, 119, 0, 0), (119, .iadd, 120, 0, 0), (120, .ireturn, 121, 0, 0), (121, .iinc 4 1, 124, 0, 1), (124, .goto (-57), 127, 67, 0), (127, .iinc 3 1, 130, 0, 1)],
  [(130, .goto (-74), 133, 56, 0), (133, .iconst (-1), 134, 0, (-1)), (134, .ireturn, 135, 0, 0)]])
def m_X12_hasBy : aM := (yX12_hasBy, cX12_hasBy, 5, (Option.some Jvm.ClassFile.FieldType.int), [], [[(0, .aload_n 0, 1, 0, 0), (1, .iload_n 1, 2, 0, 0), (2, .invokevirtual 318, 5, 0, 0), (5, .istore 4, 7, 0, 0), (7, .iload_n 2, 8, 0, 0), (8, .iconst 1, 9, 0, 1), (9, .if_icmp .ne 16, 12, 25, 0), (12, .iload_n 3, 13, 0, 0), (13, .ifCond .ne 8, 16, 21, 0), (16, .iload 4, 18, 0, 0), (18, .goto 6, 21, 24, 0), (21, .iload 4, 23, 0, 0), (23, .ineg, 24, 0, 0), (24, .ireturn, 25, 0, 0), (25, .iload 4, 27, 0, 0), (27, .iload_n 3, 28, 0, 0), (28, .ifCond .ne 14, 31, 42, 0), (31, .aload_n 0, 32, 0, 0), (32, .iload_n 1, 33, 0, 0), (33, .iconst 1, 34, 0, 1), (34, .invokevirtual 63, 37, 0, 0), (37, .iconst 2, 38, 0, 2), (38, .idiv, 39, 0, 0), (39, .goto 9, 42, 48, 0), (42, .aload_n 0, 43, 0, 0), (43, .iload_n 1, 44, 0, 0), (44, .iconst 1, 45, 0, 1), (45, .invokevirtual 63, 48, 0, 0), (48, .isub, 49, 0, 0), (49, .ireturn, 50, 0, 0)]])
def m_X12_rests : aM := (yX12_rests, cX12_rests, 7, (Option.some Jvm.ClassFile.FieldType.int), [], [[(0, .aload_n 0, 1, 0, 0), (1, .iconst 0, 2, 0, 0), (2, .putfield 3, 5, 0, 0), (5, .aload_n 0, 6, 0, 0), (6, .aload_n 0, 7, 0, 0), (7, .iload_n 1, 8, 0, 0), (8, .invokevirtual 342, 11, 0, 0), (11, .ifCond .ne 19, 14, 30, 0), (14, .aload_n 0, 15, 0, 0), (15, .iload_n 2, 16, 0, 0), (16, .invokevirtual 342, 19, 0, 0), (19, .ifCond .ne 11, 22, 30, 0), (22, .aload_n 0, 23, 0, 0), (23, .iload_n 3, 24, 0, 0), (24, .invokevirtual 289, 27, 0, 0), (27, .ifCond .eq 7, 30, 34, 0), (30, .iconst 1, 31, 0, 1), (31, .goto 4, 34, 35, 0), (34, .iconst 0, 35, 0, 0), (35, .iconst 1, 36, 0, 1), (36, .invokevirtual 243, 39, 0, 0), (39, .ifCond .ne 21, 42, 60, 0), (42, .aload_n 0, 43, 0, 0), (43, .iload_n 1, 44, 0, 0), (44, .iload_n 2, 45, 0, 0), (45, .if_icmp .ne 7, 48, 52, 0), (48, .iconst 1, 49, 0, 1), (49, .goto 4, 52, 53, 0), (52, .iconst 0, 53, 0, 0), (53, .iconst 2, 54, 0, 2), (54, .invokevirtual 243, 57, 0, 0), (57, .ifCond .eq 5, 60, 62, 0), (60, .iconst 0, 61, 0, 0), (61, .ireturn, 62, 0, 0), (62, .iconst 0, 63, 0, 0), (63, .istore 4, 65, 0, 0)],
  [(65, .iconst 0, 66, 0, 0), (66, .istore 5, 68, 0, 0), (68, .iload 5, 70, 0, 0), (70, .iconst 2, 71, 0, 2), (71, .if_icmp .ge 88, 74, 159, 0), (74, .iconst 0, 75, 0, 0), (75, .istore 6, 77, 0, 0), (77, .iload 6, 79, 0, 0), (79, .iconst 2, 80, 0, 2), (80, .if_icmp .ge 73, 83, 153, 0), (83, .iload 4, 85, 0, 0), (85, .aload_n 0, 86, 0, 0), (86, .iload_n 3, 87, 0, 0), (87, .iload 5, 89, 0, 0), (89, .iload 6, 91, 0, 0), (91, .invokevirtual 451, 94, 0, 0), (94, .aload_n 0, 95, 0, 0), (95, .iload_n 3, 96, 0, 0), (96, .iconst 1, 97, 0, 1), (97, .iload 5, 99, 0, 0), (99, .isub, 100, 0, 0), (100, .iload 6, 102, 0, 0), (102, .invokevirtual 451, 105, 0, 0), (105, .if_icmp .lt 38, 108, 143, 0), (108, .aload_n 0, 109, 0, 0), (109, .iload_n 3, 110, 0, 0), (110, .iload 6, 112, 0, 0), (112, .iload 5, 114, 0, 0), (114, .invokevirtual 451, 117, 0, 0), (117, .aload_n 0, 118, 0, 0), (118, .iload_n 3, 119, 0, 0), (119, .iconst 1, 120, 0, 1), (120, .iload 6, 122, 0, 0), (122, .isub, 123, 0, 0), (123, .iload 5, 125, 0, 0), (125, .invokevirtual 451, 128, 0, 0)],
  [(128, .if_icmp .lt 15, 131, 143, 0), (131, .iconst 1, 132, 0, 1), (132, .iconst 2, 133, 0, 2), (133, .iload 5, 135, 0, 0), (135, .imul, 136, 0, 0), (136, .iload 6, 138, 0, 0), (138, .iadd, 139, 0, 0), (139, .ishl, 140, 0, 0), (140, .goto 4, 143, 144, 0), (143, .iconst 0, 144, 0, 0), (144, .ior, 145, 0, 0), (145, .istore 4, 147, 0, 0), (147, .iinc 6 1, 150, 0, 1), (150, .goto (-73), 153, 77, 0), (153, .iinc 5 1, 156, 0, 1), (156, .goto (-88), 159, 68, 0), (159, .iload 4, 161, 0, 0), (161, .ireturn, 162, 0, 0)]])
def m_X12_sponsor : aM := (yX12_sponsor, cX12_sponsor, 3, (Option.some Jvm.ClassFile.FieldType.int), [], [[(0, .aload_n 0, 1, 0, 0), (1, .iconst 0, 2, 0, 0), (2, .putfield 3, 5, 0, 0), (5, .iconst 0, 6, 0, 0), (6, .istore_n 1, 7, 0, 0), (7, .iconst 0, 8, 0, 0), (8, .istore_n 2, 9, 0, 0), (9, .iload_n 2, 10, 0, 0), (10, .aload_n 0, 11, 0, 0), (11, .invokevirtual 74, 14, 0, 0), (14, .if_icmp .ge 49, 17, 63, 0), (17, .iload_n 1, 18, 0, 0), (18, .aload_n 0, 19, 0, 0), (19, .iload_n 2, 20, 0, 0), (20, .invokevirtual 135, 23, 0, 0), (23, .ifCond .eq 31, 26, 54, 0), (26, .iconst 0, 27, 0, 0), (27, .aload_n 0, 28, 0, 0), (28, .getfield 13, 31, 0, 0), (31, .bipush 8, 33, 0, 8), (33, .iaload, 34, 0, 0), (34, .aload_n 0, 35, 0, 0), (35, .iload_n 2, 36, 0, 0), (36, .iconst 2, 37, 0, 2), (37, .invokevirtual 63, 40, 0, 0), (40, .imul, 41, 0, 0), (41, .aload_n 0, 42, 0, 0), (42, .iload_n 2, 43, 0, 0), (43, .iconst 1, 44, 0, 1), (44, .invokevirtual 63, 47, 0, 0), (47, .isub, 48, 0, 0), (48, .invokestatic 265, 51, 0, 0), (51, .goto 4, 54, 55, 0), (54, .iconst 0, 55, 0, 0), (55, .iadd, 56, 0, 0), (56, .istore_n 1, 57, 0, 0), (57, .iinc 2 1, 60, 0, 1), (60, .goto (-51), 63, 9, 0), (63, .iload_n 1, 64, 0, 0)],
  [(64, .ireturn, 65, 0, 0)]])
def m_X12_idle : aM := (yX12_idle, cX12_idle, 3, (Option.some Jvm.ClassFile.FieldType.int), [], [[(0, .aload_n 0, 1, 0, 0), (1, .iconst 0, 2, 0, 0), (2, .putfield 3, 5, 0, 0), (5, .iconst (-1), 6, 0, (-1)), (6, .istore_n 1, 7, 0, 0), (7, .iconst 0, 8, 0, 0), (8, .istore_n 2, 9, 0, 0), (9, .iload_n 2, 10, 0, 0), (10, .aload_n 0, 11, 0, 0), (11, .invokevirtual 66, 14, 0, 0), (14, .if_icmp .ge 29, 17, 43, 0), (17, .iload_n 1, 18, 0, 0), (18, .iconst (-1), 19, 0, (-1)), (19, .if_icmp .eq 16, 22, 35, 0), (22, .aload_n 0, 23, 0, 0), (23, .iload_n 2, 24, 0, 0), (24, .invokevirtual 333, 27, 0, 0), (27, .aload_n 0, 28, 0, 0), (28, .iload_n 1, 29, 0, 0), (29, .invokevirtual 333, 32, 0, 0), (32, .if_icmp .ge 5, 35, 37, 0), (35, .iload_n 2, 36, 0, 0), (36, .istore_n 1, 37, 0, 0), (37, .iinc 2 1, 40, 0, 1), (40, .goto (-31), 43, 9, 0), (43, .iload_n 1, 44, 0, 0), (44, .ireturn, 45, 0, 0)]])
def m_X12_worst : aM := (yX12_worst, cX12_worst, 3, (Option.some Jvm.ClassFile.FieldType.int), [], [[(0, .aload_n 0, 1, 0, 0), (1, .iconst 0, 2, 0, 0), (2, .putfield 3, 5, 0, 0), (5, .iconst (-1), 6, 0, (-1)), (6, .istore_n 1, 7, 0, 0), (7, .iconst 0, 8, 0, 0), (8, .istore_n 2, 9, 0, 0), (9, .iload_n 2, 10, 0, 0), (10, .aload_n 0, 11, 0, 0), (11, .invokevirtual 74, 14, 0, 0), (14, .if_icmp .ge 37, 17, 51, 0), (17, .aload_n 0, 18, 0, 0), (18, .iload_n 2, 19, 0, 0), (19, .invokevirtual 135, 22, 0, 0), (22, .ifCond .eq 23, 25, 45, 0), (25, .iload_n 1, 26, 0, 0), (26, .iconst (-1), 27, 0, (-1)), (27, .if_icmp .eq 16, 30, 43, 0), (30, .aload_n 0, 31, 0, 0), (31, .iload_n 2, 32, 0, 0), (32, .invokevirtual 318, 35, 0, 0), (35, .aload_n 0, 36, 0, 0), (36, .iload_n 1, 37, 0, 0), (37, .invokevirtual 318, 40, 0, 0), (40, .if_icmp .le 5, 43, 45, 0), (43, .iload_n 2, 44, 0, 0), (44, .istore_n 1, 45, 0, 0), (45, .iinc 2 1, 48, 0, 1), (48, .goto (-39), 51, 9, 0), (51, .iload_n 1, 52, 0, 0), (52, .ireturn, 53, 0, 0)]])
def m_X12_alike : aM := (yX12_alike, cX12_alike, 4, (Option.some Jvm.ClassFile.FieldType.int), [], [[(0, .aload_n 0, 1, 0, 0), (1, .iconst 0, 2, 0, 0), (2, .putfield 3, 5, 0, 0), (5, .iconst 0, 6, 0, 0), (6, .istore_n 1, 7, 0, 0), (7, .iconst 0, 8, 0, 0), (8, .istore_n 2, 9, 0, 0), (9, .iload_n 2, 10, 0, 0), (10, .aload_n 0, 11, 0, 0), (11, .invokevirtual 74, 14, 0, 0), (14, .if_icmp .ge 76, 17, 90, 0), (17, .iconst 0, 18, 0, 0), (18, .istore_n 3, 19, 0, 0), (19, .iload_n 3, 20, 0, 0), (20, .iload_n 2, 21, 0, 0), (21, .if_icmp .ge 63, 24, 84, 0), (24, .iload_n 1, 25, 0, 0), (25, .aload_n 0, 26, 0, 0), (26, .iload_n 2, 27, 0, 0), (27, .invokevirtual 135, 30, 0, 0), (30, .ifCond .eq 45, 33, 75, 0), (33, .aload_n 0, 34, 0, 0), (34, .iload_n 3, 35, 0, 0), (35, .invokevirtual 135, 38, 0, 0), (38, .ifCond .eq 37, 41, 75, 0), (41, .aload_n 0, 42, 0, 0), (42, .iload_n 2, 43, 0, 0), (43, .iconst 1, 44, 0, 1), (44, .invokevirtual 63, 47, 0, 0), (47, .aload_n 0, 48, 0, 0), (48, .iload_n 3, 49, 0, 0), (49, .iconst 1, 50, 0, 1), (50, .invokevirtual 63, 53, 0, 0), (53, .if_icmp .ne 22, 56, 75, 0), (56, .aload_n 0, 57, 0, 0), (57, .iload_n 2, 58, 0, 0), (58, .iconst 2, 59, 0, 2), (59, .invokevirtual 63, 62, 0, 0), (62, .aload_n 0, 63, 0, 0), (63, .iload_n 3, 64, 0, 0)],
  [(64, .iconst 2, 65, 0, 2), (65, .invokevirtual 63, 68, 0, 0), (68, .if_icmp .ne 7, 71, 75, 0), (71, .iconst 1, 72, 0, 1), (72, .goto 4, 75, 76, 0), (75, .iconst 0, 76, 0, 0), (76, .iadd, 77, 0, 0), (77, .istore_n 1, 78, 0, 0), (78, .iinc 3 1, 81, 0, 1), (81, .goto (-62), 84, 19, 0), (84, .iinc 2 1, 87, 0, 1), (87, .goto (-78), 90, 9, 0), (90, .iload_n 1, 91, 0, 0), (91, .ireturn, 92, 0, 0)]])
def m_X12_oddsOf : aM := (yX12_oddsOf, cX12_oddsOf, 9, (Option.some Jvm.ClassFile.FieldType.int), [], [[(0, .lconst 1, 1, 0, 0), (1, .lstore 4, 3, 0, 0), (3, .iconst 0, 4, 0, 0), (4, .istore 6, 6, 0, 0), (6, .iload 6, 8, 0, 0), (8, .bipush 6, 10, 0, 6), (10, .if_icmp .gt 26, 13, 36, 0), (13, .aload_n 0, 14, 0, 0), (14, .getfield 45, 17, 0, 0), (17, .iload 6, 19, 0, 0), (19, .iload 6, 21, 0, 0), (21, .ifCond .ne 7, 24, 28, 0), (24, .lconst 1, 25, 0, 0), (25, .goto 4, 28, 29, 0), (28, .lconst 0, 29, 0, 0), (29, .lastore, 30, 0, 0), (30, .iinc 6 1, 33, 0, 1), (33, .goto (-27), 36, 6, 0), (36, .iconst 0, 37, 0, 0), (37, .istore 6, 39, 0, 0), (39, .iload 6, 41, 0, 0), (41, .iload_n 1, 42, 0, 0), (42, .if_icmp .ge 74, 45, 116, 0), (45, .bipush 6, 47, 0, 6), (47, .istore 7, 49, 0, 0), (49, .iload 7, 51, 0, 0), (51, .ifCond .lt 51, 54, 102, 0), (54, .aload_n 0, 55, 0, 0), (55, .getfield 45, 58, 0, 0), (58, .iload 7, 60, 0, 0), (60, .aload_n 0, 61, 0, 0), (61, .getfield 45, 64, 0, 0)],
  [(64, .iload 7, 66, 0, 0), (66, .laload, 67, 0, 0), (67, .bipush 100, 69, 0, 100), (69, .iload_n 3, 70, 0, 0), (70, .isub, 71, 0, 0), (71, .i2l, 72, 0, 0), (72, .lmul, 73, 0, 0), (73, .iload 7, 75, 0, 0), (75, .ifCond .ne 7, 78, 82, 0), (78, .lconst 0, 79, 0, 0), (79, .goto 15, 82, 94, 0), (82, .aload_n 0, 83, 0, 0), (83, .getfield 45, 86, 0, 0), (86, .iload 7, 88, 0, 0), (88, .iconst 1, 89, 0, 1), (89, .isub, 90, 0, 0), (90, .laload, 91, 0, 0), (91, .iload_n 3, 92, 0, 0), (92, .i2l, 93, 0, 0), (93, .lmul, 94, 0, 0), (94, .ladd, 95, 0, 0), (95, .lastore, 96, 0, 0), (96, .iinc 7 (-1), 99, 0, (-1)), (99, .goto (-50), 102, 49, 0), (102, .lload 4, 104, 0, 0), (104, .ldc2_w 454, 107, 0, 0), (107, .lmul, 108, 0, 0), (108, .lstore 4, 110, 0, 0), (110, .iinc 6 1, 113, 0, 1), (113, .goto (-74), 116, 39, 0), (116, .lconst 0, 117, 0, 0), (117, .lstore 6, 119, 0, 0), (119, .iload_n 2, 120, 0, 0), (120, .istore 8, 122, 0, 0), (122, .iload 8, 124, 0, 0), (124, .bipush 6, 126, 0, 6), (126, .if_icmp .gt 21, 129, 147, 0)],
  [(129, .lload 6, 131, 0, 0), (131, .aload_n 0, 132, 0, 0), (132, .getfield 45, 135, 0, 0), (135, .iload 8, 137, 0, 0), (137, .laload, 138, 0, 0), (138, .ladd, 139, 0, 0), (139, .lstore 6, 141, 0, 0), (141, .iinc 8 1, 144, 0, 1), (144, .goto (-22), 147, 122, 0), (147, .ldc2_w 456, 150, 0, 0), (150, .lload 6, 152, 0, 0), (152, .lmul, 153, 0, 0), (153, .lload 4, 155, 0, 0), (155, .ldiv, 156, 0, 0), (156, .l2i, 157, 0, 0), (157, .ireturn, 158, 0, 0)]])
def m_X12_odds : aM := (yX12_odds, cX12_odds, 3, (Option.some Jvm.ClassFile.FieldType.int), [], [[(0, .aload_n 0, 1, 0, 0), (1, .iconst 0, 2, 0, 0), (2, .putfield 3, 5, 0, 0), (5, .aload_n 0, 6, 0, 0), (6, .iload_n 1, 7, 0, 0), (7, .iconst 0, 8, 0, 0), (8, .bipush 6, 10, 0, 6), (10, .invokestatic 70, 13, 0, 0), (13, .ifCond .eq 13, 16, 26, 0), (16, .iload_n 2, 17, 0, 0), (17, .iconst 0, 18, 0, 0), (18, .bipush 6, 20, 0, 6), (20, .invokestatic 70, 23, 0, 0), (23, .ifCond .ne 7, 26, 30, 0), (26, .iconst 1, 27, 0, 1), (27, .goto 4, 30, 31, 0), (30, .iconst 0, 31, 0, 0), (31, .iconst 1, 32, 0, 1), (32, .invokevirtual 243, 35, 0, 0), (35, .ifCond .eq 7, 38, 42, 0), (38, .iconst 0, 39, 0, 0), (39, .goto 16, 42, 55, 0), (42, .aload_n 0, 43, 0, 0), (43, .iload_n 1, 44, 0, 0), (44, .iload_n 2, 45, 0, 0), (45, .aload_n 0, 46, 0, 0), (46, .getfield 13, 49, 0, 0), (49, .bipush 6, 51, 0, 6), (51, .iaload, 52, 0, 0), (52, .invokevirtual 458, 55, 0, 0), (55, .ireturn, 56, 0, 0)]])
def m_X12_spare : aM := (yX12_spare, cX12_spare, 5, (Option.some Jvm.ClassFile.FieldType.int), [], [[(0, .aload_n 0, 1, 0, 0), (1, .iconst 0, 2, 0, 0), (2, .putfield 3, 5, 0, 0), (5, .aload_n 0, 6, 0, 0), (6, .aload_n 0, 7, 0, 0), (7, .iload_n 1, 8, 0, 0), (8, .invokevirtual 342, 11, 0, 0), (11, .iconst 1, 12, 0, 1), (12, .invokevirtual 243, 15, 0, 0), (15, .ifCond .ne 26, 18, 41, 0), (18, .aload_n 0, 19, 0, 0), (19, .iload_n 2, 20, 0, 0), (20, .iconst 1, 21, 0, 1), (21, .bipush 54, 23, 0, 54), (23, .invokestatic 70, 26, 0, 0), (26, .ifCond .ne 7, 29, 33, 0), (29, .iconst 1, 30, 0, 1), (30, .goto 4, 33, 34, 0), (33, .iconst 0, 34, 0, 0), (34, .iconst 2, 35, 0, 2), (35, .invokevirtual 243, 38, 0, 0), (38, .ifCond .eq 5, 41, 43, 0), (41, .iconst 0, 42, 0, 0), (42, .ireturn, 43, 0, 0), (43, .iload_n 2, 44, 0, 0), (44, .aload_n 0, 45, 0, 0), (45, .iload_n 1, 46, 0, 0), (46, .iconst 1, 47, 0, 1), (47, .invokevirtual 252, 50, 0, 0), (50, .invokestatic 336, 53, 0, 0), (53, .istore_n 3, 54, 0, 0), (54, .iconst 1, 55, 0, 1), (55, .istore 4, 57, 0, 0), (57, .iload 4, 59, 0, 0), (59, .bipush 6, 61, 0, 6), (61, .if_icmp .gt 41, 64, 102, 0)],
  [(64, .iload_n 3, 65, 0, 0), (65, .iload 4, 67, 0, 0), (67, .if_icmp .gt 29, 70, 96, 0), (70, .aload_n 0, 71, 0, 0), (71, .iload 4, 73, 0, 0), (73, .iload_n 3, 74, 0, 0), (74, .bipush 100, 76, 0, 100), (76, .aload_n 0, 77, 0, 0), (77, .getfield 13, 80, 0, 0), (80, .bipush 6, 82, 0, 6), (82, .iaload, 83, 0, 0), (83, .isub, 84, 0, 0), (84, .invokevirtual 458, 87, 0, 0), (87, .sipush 9000, 90, 0, 9000), (90, .if_icmp .lt 6, 93, 96, 0), (93, .iload 4, 95, 0, 0), (95, .ireturn, 96, 0, 0), (96, .iinc 4 1, 99, 0, 1), (99, .goto (-42), 102, 57, 0), (102, .iconst (-1), 103, 0, (-1)), (103, .ireturn, 104, 0, 0)]])
def m_X12_trial : aM := (yX12_trial, cX12_trial, 4, (Option.some Jvm.ClassFile.FieldType.int), [], [[(0, .aload_n 0, 1, 0, 0), (1, .iconst 0, 2, 0, 0), (2, .putfield 3, 5, 0, 0), (5, .aload_n 0, 6, 0, 0), (6, .iload_n 1, 7, 0, 0), (7, .invokestatic 392, 10, 0, 0), (10, .iconst 1, 11, 0, 1), (11, .invokevirtual 243, 14, 0, 0), (14, .ifCond .eq 5, 17, 19, 0), (17, .iconst 0, 18, 0, 0), (18, .ireturn, 19, 0, 0), (19, .aload_n 0, 20, 0, 0), (20, .invokevirtual 395, 23, 0, 0), (23, .aload_n 0, 24, 0, 0), (24, .iload_n 1, 25, 0, 0), (25, .iconst 0, 26, 0, 0), (26, .invokevirtual 388, 29, 0, 0), (29, .pop, 30, 0, 0), (30, .iload_n 2, 31, 0, 0), (31, .ifCond .eq 11, 34, 42, 0), (34, .aload_n 0, 35, 0, 0), (35, .iconst 1, 36, 0, 1), (36, .invokevirtual 324, 39, 0, 0), (39, .goto 12, 42, 51, 0), (42, .aload_n 0, 43, 0, 0), (43, .aload_n 0, 44, 0, 0), (44, .iconst 0, 45, 0, 0), (45, .invokevirtual 324, 48, 0, 0), (48, .invokevirtual 339, 51, 0, 0), (51, .istore_n 3, 52, 0, 0), (52, .aload_n 0, 53, 0, 0), (53, .invokevirtual 398, 56, 0, 0), (56, .iload_n 3, 57, 0, 0), (57, .ireturn, 58, 0, 0)]])
def m_X12_span : aM := (yX12_span, cX12_span, 6, (Option.some Jvm.ClassFile.FieldType.int), [], [[(0, .aload_n 0, 1, 0, 0), (1, .iconst 0, 2, 0, 0), (2, .putfield 3, 5, 0, 0), (5, .aload_n 0, 6, 0, 0), (6, .iload_n 1, 7, 0, 0), (7, .invokestatic 392, 10, 0, 0), (10, .iconst 1, 11, 0, 1), (11, .invokevirtual 243, 14, 0, 0), (14, .ifCond .eq 5, 17, 19, 0), (17, .iconst 0, 18, 0, 0), (18, .ireturn, 19, 0, 0), (19, .aload_n 0, 20, 0, 0), (20, .invokevirtual 395, 23, 0, 0), (23, .iconst (-1), 24, 0, (-1)), (24, .istore_n 3, 25, 0, 0), (25, .iconst 1, 26, 0, 1), (26, .istore 4, 28, 0, 0), (28, .iload 4, 30, 0, 0), (30, .bipush 6, 32, 0, 6), (32, .if_icmp .gt 69, 35, 101, 0), (35, .aload_n 0, 36, 0, 0), (36, .getfield 13, 39, 0, 0), (39, .bipush 10, 41, 0, 10), (41, .iload 4, 43, 0, 0), (43, .iastore, 44, 0, 0), (44, .aload_n 0, 45, 0, 0), (45, .iload_n 1, 46, 0, 0), (46, .iconst 0, 47, 0, 0), (47, .invokevirtual 388, 50, 0, 0), (50, .pop, 51, 0, 0), (51, .aload_n 0, 52, 0, 0), (52, .aload_n 0, 53, 0, 0), (53, .iconst 0, 54, 0, 0), (54, .invokevirtual 324, 57, 0, 0), (57, .invokevirtual 339, 60, 0, 0), (60, .istore 5, 62, 0, 0), (62, .aload_n 0, 63, 0, 0), (63, .invokevirtual 398, 66, 0, 0)],
  [(66, .iload_n 3, 67, 0, 0), (67, .ifCond .ge 8, 70, 75, 0), (70, .iload 5, 72, 0, 0), (72, .goto 22, 75, 94, 0), (75, .iload_n 2, 76, 0, 0), (76, .ifCond .eq 12, 79, 88, 0), (79, .iload_n 3, 80, 0, 0), (80, .iload 5, 82, 0, 0), (82, .invokestatic 265, 85, 0, 0), (85, .goto 9, 88, 94, 0), (88, .iload_n 3, 89, 0, 0), (89, .iload 5, 91, 0, 0), (91, .invokestatic 295, 94, 0, 0), (94, .istore_n 3, 95, 0, 0), (95, .iinc 4 1, 98, 0, 1), (98, .goto (-70), 101, 28, 0), (101, .iload_n 3, 102, 0, 0), (102, .ireturn, 103, 0, 0)]])
def m_X12_ofLog : aM := (yX12_ofLog, cX12_ofLog, 3, (Option.some Jvm.ClassFile.FieldType.int), [], [[(0, .aload_n 0, 1, 0, 0), (1, .getfield 13, 4, 0, 0), (4, .bipush 95, 6, 0, 95), (6, .iconst 4, 7, 0, 4), (7, .iload_n 1, 8, 0, 0), (8, .imul, 9, 0, 0), (9, .iadd, 10, 0, 0), (10, .iload_n 2, 11, 0, 0), (11, .iadd, 12, 0, 0), (12, .iaload, 13, 0, 0), (13, .ireturn, 14, 0, 0)]])
def m_X12_led : aM := (yX12_led, cX12_led, 6, (Option.some Jvm.ClassFile.FieldType.int), [], [[(0, .aload_n 0, 1, 0, 0), (1, .iconst 0, 2, 0, 0), (2, .putfield 3, 5, 0, 0), (5, .aload_n 0, 6, 0, 0), (6, .aload_n 0, 7, 0, 0), (7, .iload_n 1, 8, 0, 0), (8, .invokevirtual 289, 11, 0, 0), (11, .iconst 1, 12, 0, 1), (12, .invokevirtual 243, 15, 0, 0), (15, .ifCond .eq 5, 18, 20, 0), (18, .iconst 0, 19, 0, 0), (19, .ireturn, 20, 0, 0), (20, .iconst 0, 21, 0, 0), (21, .istore_n 3, 22, 0, 0), (22, .iconst (-1), 23, 0, (-1)), (23, .istore 4, 25, 0, 0), (25, .aload_n 0, 26, 0, 0), (26, .getfield 13, 29, 0, 0), (29, .bipush 9, 31, 0, 9), (31, .iaload, 32, 0, 0), (32, .iconst 1, 33, 0, 1), (33, .isub, 34, 0, 0), (34, .istore 5, 36, 0, 0), (36, .iload 5, 38, 0, 0), (38, .ifCond .lt 35, 41, 73, 0), (41, .aload_n 0, 42, 0, 0), (42, .iload 5, 44, 0, 0), (44, .iconst 1, 45, 0, 1), (45, .invokevirtual 461, 48, 0, 0), (48, .iload_n 1, 49, 0, 0), (49, .if_icmp .eq 6, 52, 55, 0), (52, .goto 15, 55, 67, 0), (55, .iinc 3 1, 58, 0, 1), (58, .aload_n 0, 59, 0, 0), (59, .iload 5, 61, 0, 0), (61, .iconst 0, 62, 0, 0), (62, .invokevirtual 461, 65, 0, 0)],
  [(65, .istore 4, 67, 0, 0), (67, .iinc 5 (-1), 70, 0, (-1)), (70, .goto (-34), 73, 36, 0), (73, .iload_n 2, 74, 0, 0), (74, .ifCond .eq 8, 77, 82, 0), (77, .iload 4, 79, 0, 0), (79, .goto 4, 82, 83, 0), (82, .iload_n 3, 83, 0, 0), (83, .ireturn, 84, 0, 0)]])
def m_X12_log : aM := (yX12_log, cX12_log, 3, (Option.some Jvm.ClassFile.FieldType.int), [], [[(0, .aload_n 0, 1, 0, 0), (1, .iconst 0, 2, 0, 0), (2, .putfield 3, 5, 0, 0), (5, .aload_n 0, 6, 0, 0), (6, .iload_n 2, 7, 0, 0), (7, .iconst 0, 8, 0, 0), (8, .iconst 3, 9, 0, 3), (9, .invokestatic 70, 12, 0, 0), (12, .ifCond .ne 7, 15, 19, 0), (15, .iconst 1, 16, 0, 1), (16, .goto 4, 19, 20, 0), (19, .iconst 0, 20, 0, 0), (20, .iconst 1, 21, 0, 1), (21, .invokevirtual 243, 24, 0, 0), (24, .ifCond .eq 5, 27, 29, 0), (27, .iconst 0, 28, 0, 0), (28, .ireturn, 29, 0, 0), (29, .iload_n 1, 30, 0, 0), (30, .iconst 0, 31, 0, 0), (31, .aload_n 0, 32, 0, 0), (32, .getfield 13, 35, 0, 0), (35, .bipush 9, 37, 0, 9), (37, .iaload, 38, 0, 0), (38, .iconst 1, 39, 0, 1), (39, .isub, 40, 0, 0), (40, .invokestatic 70, 43, 0, 0), (43, .ifCond .eq 12, 46, 55, 0), (46, .aload_n 0, 47, 0, 0), (47, .iload_n 1, 48, 0, 0), (48, .iload_n 2, 49, 0, 0), (49, .invokevirtual 461, 52, 0, 0), (52, .goto 4, 55, 56, 0), (55, .iconst (-1), 56, 0, (-1)), (56, .ireturn, 57, 0, 0)]])
def m_X12_seed : aM := (yX12_seed, cX12_seed, 3, (Option.some Jvm.ClassFile.FieldType.int), [], [[(0, .aload_n 0, 1, 0, 0), (1, .iconst 0, 2, 0, 0), (2, .putfield 3, 5, 0, 0), (5, .aload_n 0, 6, 0, 0), (6, .getfield 13, 9, 0, 0), (9, .bipush 10, 11, 0, 10), (11, .iaload, 12, 0, 0), (12, .istore_n 2, 13, 0, 0), (13, .aload_n 0, 14, 0, 0), (14, .getfield 13, 17, 0, 0), (17, .bipush 10, 19, 0, 10), (19, .iload_n 1, 20, 0, 0), (20, .iastore, 21, 0, 0), (21, .iload_n 2, 22, 0, 0), (22, .ireturn, 23, 0, 0)]])
def m_X12_readyOnes : aM := (yX12_readyOnes, cX12_readyOnes, 3, (Option.some Jvm.ClassFile.FieldType.int), [], [[(0, .iconst 0, 1, 0, 0), (1, .istore_n 1, 2, 0, 0), (2, .iconst 0, 3, 0, 0), (3, .istore_n 2, 4, 0, 0), (4, .iload_n 2, 5, 0, 0), (5, .aload_n 0, 6, 0, 0), (6, .invokevirtual 74, 9, 0, 0), (9, .if_icmp .ge 27, 12, 36, 0), (12, .iload_n 1, 13, 0, 0), (13, .aload_n 0, 14, 0, 0), (14, .iload_n 2, 15, 0, 0), (15, .invokevirtual 273, 18, 0, 0), (18, .ifCond .eq 9, 21, 27, 0), (21, .iconst 1, 22, 0, 1), (22, .iload_n 2, 23, 0, 0), (23, .ishl, 24, 0, 0), (24, .goto 4, 27, 28, 0), (27, .iconst 0, 28, 0, 0), (28, .ior, 29, 0, 0), (29, .istore_n 1, 30, 0, 0), (30, .iinc 2 1, 33, 0, 1), (33, .goto (-29), 36, 4, 0), (36, .iload_n 1, 37, 0, 0), (37, .ireturn, 38, 0, 0)]])
def m_X12_count : aM := (yX12_count, cX12_count, 2, (Option.some Jvm.ClassFile.FieldType.int), [], [[(0, .aload_n 0, 1, 0, 0), (1, .iconst 0, 2, 0, 0), (2, .putfield 3, 5, 0, 0), (5, .iload_n 1, 6, 0, 0), (6, .tableswitch 125 3 14 #[62, 125, 125, 125, 125, 125, 85, 91, 97, 102, 112, 120], 68, 0, 0)],
  [(68, .aload_n 0, 69, 0, 0), (69, .getfield 13, 72, 0, 0), (72, .iconst 3, 73, 0, 3), (73, .iaload, 74, 0, 0), (74, .iconst 1, 75, 0, 1), (75, .if_icmp .ne 14, 78, 89, 0), (78, .aload_n 0, 79, 0, 0), (79, .getfield 13, 82, 0, 0), (82, .sipush 335, 85, 0, 335), (85, .iaload, 86, 0, 0), (86, .goto 4, 89, 90, 0), (89, .iconst (-1), 90, 0, (-1)), (90, .ireturn, 91, 0, 0), (91, .aload_n 0, 92, 0, 0), (92, .iconst 0, 93, 0, 0), (93, .invokevirtual 324, 96, 0, 0), (96, .ireturn, 97, 0, 0), (97, .aload_n 0, 98, 0, 0), (98, .iconst 1, 99, 0, 1), (99, .invokevirtual 324, 102, 0, 0), (102, .ireturn, 103, 0, 0), (103, .aload_n 0, 104, 0, 0), (104, .invokevirtual 464, 107, 0, 0), (107, .ireturn, 108, 0, 0), (108, .aload_n 0, 109, 0, 0), (109, .aload_n 0, 110, 0, 0), (110, .iconst 0, 111, 0, 0), (111, .invokevirtual 324, 114, 0, 0), (114, .invokevirtual 339, 117, 0, 0), (117, .ireturn, 118, 0, 0), (118, .aload_n 0, 119, 0, 0), (119, .getfield 13, 122, 0, 0), (122, .bipush 9, 124, 0, 9), (124, .iaload, 125, 0, 0), (125, .ireturn, 126, 0, 0), (126, .aload_n 0, 127, 0, 0), (127, .getfield 53, 130, 0, 0)],
  [(130, .ireturn, 131, 0, 0), (131, .iload_n 1, 132, 0, 0), (132, .iconst 0, 133, 0, 0), (133, .bipush 8, 135, 0, 8), (135, .invokestatic 70, 138, 0, 0), (138, .ifCond .eq 12, 141, 150, 0), (141, .aload_n 0, 142, 0, 0), (142, .getfield 13, 145, 0, 0), (145, .iload_n 1, 146, 0, 0), (146, .iaload, 147, 0, 0), (147, .goto 4, 150, 151, 0), (150, .iconst (-1), 151, 0, (-1)), (151, .ireturn, 152, 0, 0)]])
theorem ok_X12_thrown : okM m_X12_thrown = true := okM_q (by decide +kernel)
theorem ok_X12_throwsIf : okM m_X12_throwsIf = true := okM_q (by decide +kernel)
theorem ok_X12_in : okM m_X12_in = true := okM_q (by decide +kernel)
theorem ok_X12_has : okM m_X12_has = true := okM_q (by decide +kernel)
theorem ok_X12_init : okM m_X12_init = true := okM_q (by decide +kernel)
theorem ok_X12_image : okM m_X12_image = true := okM_q (by decide +kernel)
theorem ok_X12_back : okM m_X12_back = true := okM_q (by decide +kernel)
theorem ok_X12_remembers : okM m_X12_remembers = true := okM_q (by decide +kernel)
theorem ok_X12_undo : okM m_X12_undo = true := okM_q (by decide +kernel)
theorem ok_X12_people : okM m_X12_people = true := okM_q (by decide +kernel)
theorem ok_X12_duties : okM m_X12_duties = true := okM_q (by decide +kernel)
theorem ok_X12_personAt : okM m_X12_personAt = true := okM_q (by decide +kernel)
theorem ok_X12_ofPerson : okM m_X12_ofPerson = true := okM_q (by decide +kernel)
theorem ok_X12_at : okM m_X12_at = true := okM_q (by decide +kernel)
theorem ok_X12_of : okM m_X12_of = true := okM_q (by decide +kernel)
theorem ok_X12_isWaiting : okM m_X12_isWaiting = true := okM_q (by decide +kernel)
theorem ok_X12_isDone : okM m_X12_isDone = true := okM_q (by decide +kernel)
theorem ok_X12_isForgotten : okM m_X12_isForgotten = true := okM_q (by decide +kernel)
theorem ok_X12_noPerson : okM m_X12_noPerson = true := okM_q (by decide +kernel)
theorem ok_X12_noDuty : okM m_X12_noDuty = true := okM_q (by decide +kernel)
theorem ok_X12_noKerb : okM m_X12_noKerb = true := okM_q (by decide +kernel)
theorem ok_X12_drawn : okM m_X12_drawn = true := okM_q (by decide +kernel)
theorem ok_X12_feed : okM m_X12_feed = true := okM_q (by decide +kernel)
theorem ok_X12_end : okM m_X12_end = true := okM_q (by decide +kernel)
theorem ok_X12_isAt : okM m_X12_isAt = true := okM_q (by decide +kernel)
theorem ok_X12_blanks : okM m_X12_blanks = true := okM_q (by decide +kernel)
theorem ok_X12_letters : okM m_X12_letters = true := okM_q (by decide +kernel)
theorem ok_X12_isWord : okM m_X12_isWord = true := okM_q (by decide +kernel)
theorem ok_X12_passes : okM m_X12_passes = true := okM_q (by decide +kernel)
theorem ok_X12_sign : okM m_X12_sign = true := okM_q (by decide +kernel)
theorem ok_X12_number : okM m_X12_number = true := okM_q (by decide +kernel)
theorem ok_X12_numberBehind : okM m_X12_numberBehind = true := okM_q (by decide +kernel)
theorem ok_X12_fault : okM m_X12_fault = true := okM_q (by decide +kernel)
theorem ok_X12_uses : okM m_X12_uses = true := okM_q (by decide +kernel)
theorem ok_X12_readNumber : okM m_X12_readNumber = true := okM_q (by decide +kernel)
theorem ok_X12_readPerson : okM m_X12_readPerson = true := okM_q (by decide +kernel)
theorem ok_X12_readDuty : okM m_X12_readDuty = true := okM_q (by decide +kernel)
theorem ok_X12_readForgotten : okM m_X12_readForgotten = true := okM_q (by decide +kernel)
theorem ok_X12_readStreetLine : okM m_X12_readStreetLine = true := okM_q (by decide +kernel)
theorem ok_X12_emits : okM m_X12_emits = true := okM_q (by decide +kernel)
theorem ok_X12_wordOfPart : okM m_X12_wordOfPart = true := okM_q (by decide +kernel)
theorem ok_X12_readPart : okM m_X12_readPart = true := okM_q (by decide +kernel)
theorem ok_X12_readSum : okM m_X12_readSum = true := okM_q (by decide +kernel)
theorem ok_X12_readTag : okM m_X12_readTag = true := okM_q (by decide +kernel)
theorem ok_X12_readAtom : okM m_X12_readAtom = true := okM_q (by decide +kernel)
theorem ok_X12_readAllOf : okM m_X12_readAllOf = true := okM_q (by decide +kernel)
theorem ok_X12_readCond : okM m_X12_readCond = true := okM_q (by decide +kernel)
theorem ok_X12_readLawLine : okM m_X12_readLawLine = true := okM_q (by decide +kernel)
theorem ok_X12_readLine : okM m_X12_readLine = true := okM_q (by decide +kernel)
theorem ok_X12_readAll : okM m_X12_readAll = true := okM_q (by decide +kernel)
theorem ok_X12_street : okM m_X12_street = true := okM_q (by decide +kernel)
theorem ok_X12_law : okM m_X12_law = true := okM_q (by decide +kernel)
theorem ok_X12_leansWell : okM m_X12_leansWell = true := okM_q (by decide +kernel)
theorem ok_X12_isReady : okM m_X12_isReady = true := okM_q (by decide +kernel)
theorem ok_X12_factOf : okM m_X12_factOf = true := okM_q (by decide +kernel)
theorem ok_X12_holdsLine : okM m_X12_holdsLine = true := okM_q (by decide +kernel)
theorem ok_X12_sumOf : okM m_X12_sumOf = true := okM_q (by decide +kernel)
theorem ok_X12_growsBy : okM m_X12_growsBy = true := okM_q (by decide +kernel)
theorem ok_X12_shamesBy : okM m_X12_shamesBy = true := okM_q (by decide +kernel)
theorem ok_X12_ofState : okM m_X12_ofState = true := okM_q (by decide +kernel)
theorem ok_X12_goesAhead : okM m_X12_goesAhead = true := okM_q (by decide +kernel)
theorem ok_X12_placeOf : okM m_X12_placeOf = true := okM_q (by decide +kernel)
theorem ok_X12_passesBy : okM m_X12_passesBy = true := okM_q (by decide +kernel)
theorem ok_X12_canBeCalled : okM m_X12_canBeCalled = true := okM_q (by decide +kernel)
theorem ok_X12_canOnes : okM m_X12_canOnes = true := okM_q (by decide +kernel)
theorem ok_X12_parade : okM m_X12_parade = true := okM_q (by decide +kernel)
theorem ok_X12_can : okM m_X12_can = true := okM_q (by decide +kernel)
theorem ok_X12_greets : okM m_X12_greets = true := okM_q (by decide +kernel)
theorem ok_X12_whereAt : okM m_X12_whereAt = true := okM_q (by decide +kernel)
theorem ok_X12_noHour : okM m_X12_noHour = true := okM_q (by decide +kernel)
theorem ok_X12_where : okM m_X12_where = true := okM_q (by decide +kernel)
theorem ok_X12_crowd : okM m_X12_crowd = true := okM_q (by decide +kernel)
theorem ok_X12_canAll : okM m_X12_canAll = true := okM_q (by decide +kernel)
theorem ok_X12_most : okM m_X12_most = true := okM_q (by decide +kernel)
theorem ok_X12_ownedBy : okM m_X12_ownedBy = true := okM_q (by decide +kernel)
theorem ok_X12_hoursOf : okM m_X12_hoursOf = true := okM_q (by decide +kernel)
theorem ok_X12_shameOf : okM m_X12_shameOf = true := okM_q (by decide +kernel)
theorem ok_X12_waitingOf : okM m_X12_waitingOf = true := okM_q (by decide +kernel)
theorem ok_X12_loadOf : okM m_X12_loadOf = true := okM_q (by decide +kernel)
theorem ok_X12_daysFor : okM m_X12_daysFor = true := okM_q (by decide +kernel)
theorem ok_X12_needsOf : okM m_X12_needsOf = true := okM_q (by decide +kernel)
theorem ok_X12_shareOf : okM m_X12_shareOf = true := okM_q (by decide +kernel)
theorem ok_X12_person : okM m_X12_person = true := okM_q (by decide +kernel)
theorem ok_X12_duty : okM m_X12_duty = true := okM_q (by decide +kernel)
theorem ok_X12_isNow : okM m_X12_isNow = true := okM_q (by decide +kernel)
theorem ok_X12_finishes : okM m_X12_finishes = true := okM_q (by decide +kernel)
theorem ok_X12_call : okM m_X12_call = true := okM_q (by decide +kernel)
theorem ok_X12_put : okM m_X12_put = true := okM_q (by decide +kernel)
theorem ok_X12_forget : okM m_X12_forget = true := okM_q (by decide +kernel)
theorem ok_X12_recall : okM m_X12_recall = true := okM_q (by decide +kernel)
theorem ok_X12_hand : okM m_X12_hand = true := okM_q (by decide +kernel)
theorem ok_X12_lean : okM m_X12_lean = true := okM_q (by decide +kernel)
theorem ok_X12_free : okM m_X12_free = true := okM_q (by decide +kernel)
theorem ok_X12_hasTool : okM m_X12_hasTool = true := okM_q (by decide +kernel)
theorem ok_X12_works : okM m_X12_works = true := okM_q (by decide +kernel)
theorem ok_X12_growsOlder : okM m_X12_growsOlder = true := okM_q (by decide +kernel)
theorem ok_X12_tells : okM m_X12_tells = true := okM_q (by decide +kernel)
theorem ok_X12_goesBy : okM m_X12_goesBy = true := okM_q (by decide +kernel)
theorem ok_X12_oneDay : okM m_X12_oneDay = true := okM_q (by decide +kernel)
theorem ok_X12_goesOn : okM m_X12_goesOn = true := okM_q (by decide +kernel)
theorem ok_X12_keepsAll : okM m_X12_keepsAll = true := okM_q (by decide +kernel)
theorem ok_X12_bringsBack : okM m_X12_bringsBack = true := okM_q (by decide +kernel)
theorem ok_X12_days : okM m_X12_days = true := okM_q (by decide +kernel)
theorem ok_X12_noDays : okM m_X12_noDays = true := okM_q (by decide +kernel)
theorem ok_X12_ahead : okM m_X12_ahead = true := okM_q (by decide +kernel)
theorem ok_X12_overIn : okM m_X12_overIn = true := okM_q (by decide +kernel)
theorem ok_X12_allDuties : okM m_X12_allDuties = true := okM_q (by decide +kernel)
theorem ok_X12_allOver : okM m_X12_allOver = true := okM_q (by decide +kernel)
theorem ok_X12_orNone : okM m_X12_orNone = true := okM_q (by decide +kernel)
theorem ok_X12_done : okM m_X12_done = true := okM_q (by decide +kernel)
theorem ok_X12_all : okM m_X12_all = true := okM_q (by decide +kernel)
theorem ok_X12_overWith : okM m_X12_overWith = true := okM_q (by decide +kernel)
theorem ok_X12_help : okM m_X12_help = true := okM_q (by decide +kernel)
theorem ok_X12_crux : okM m_X12_crux = true := okM_q (by decide +kernel)
theorem ok_X12_sick : okM m_X12_sick = true := okM_q (by decide +kernel)
theorem ok_X12_beforeOf : okM m_X12_beforeOf = true := okM_q (by decide +kernel)
theorem ok_X12_ringOnes : okM m_X12_ringOnes = true := okM_q (by decide +kernel)
theorem ok_X12_ring : okM m_X12_ring = true := okM_q (by decide +kernel)
theorem ok_X12_before : okM m_X12_before = true := okM_q (by decide +kernel)
theorem ok_X12_after : okM m_X12_after = true := okM_q (by decide +kernel)
theorem ok_X12_depth : okM m_X12_depth = true := okM_q (by decide +kernel)
theorem ok_X12_chainOf : okM m_X12_chainOf = true := okM_q (by decide +kernel)
theorem ok_X12_soonOf : okM m_X12_soonOf = true := okM_q (by decide +kernel)
theorem ok_X12_soon : okM m_X12_soon = true := okM_q (by decide +kernel)
theorem ok_X12_longest : okM m_X12_longest = true := okM_q (by decide +kernel)
theorem ok_X12_olderOnes : okM m_X12_olderOnes = true := okM_q (by decide +kernel)
theorem ok_X12_young : okM m_X12_young = true := okM_q (by decide +kernel)
theorem ok_X12_older : okM m_X12_older = true := okM_q (by decide +kernel)
theorem ok_X12_leanWithin : okM m_X12_leanWithin = true := okM_q (by decide +kernel)
theorem ok_X12_toDo : okM m_X12_toDo = true := okM_q (by decide +kernel)
theorem ok_X12_does : okM m_X12_does = true := okM_q (by decide +kernel)
theorem ok_X12_isTold : okM m_X12_isTold = true := okM_q (by decide +kernel)
theorem ok_X12_allThatFit : okM m_X12_allThatFit = true := okM_q (by decide +kernel)
theorem ok_X12_whose : okM m_X12_whose = true := okM_q (by decide +kernel)
theorem ok_X12_ask : okM m_X12_ask = true := okM_q (by decide +kernel)
theorem ok_X12_isGap : okM m_X12_isGap = true := okM_q (by decide +kernel)
theorem ok_X12_gap : okM m_X12_gap = true := okM_q (by decide +kernel)
theorem ok_X12_lost : okM m_X12_lost = true := okM_q (by decide +kernel)
theorem ok_X12_missed : okM m_X12_missed = true := okM_q (by decide +kernel)
theorem ok_X12_serves : okM m_X12_serves = true := okM_q (by decide +kernel)
theorem ok_X12_swap : okM m_X12_swap = true := okM_q (by decide +kernel)
theorem ok_X12_hasBy : okM m_X12_hasBy = true := okM_q (by decide +kernel)
theorem ok_X12_rests : okM m_X12_rests = true := okM_q (by decide +kernel)
theorem ok_X12_sponsor : okM m_X12_sponsor = true := okM_q (by decide +kernel)
theorem ok_X12_idle : okM m_X12_idle = true := okM_q (by decide +kernel)
theorem ok_X12_worst : okM m_X12_worst = true := okM_q (by decide +kernel)
theorem ok_X12_alike : okM m_X12_alike = true := okM_q (by decide +kernel)
theorem ok_X12_oddsOf : okM m_X12_oddsOf = true := okM_q (by decide +kernel)
theorem ok_X12_odds : okM m_X12_odds = true := okM_q (by decide +kernel)
theorem ok_X12_spare : okM m_X12_spare = true := okM_q (by decide +kernel)
theorem ok_X12_trial : okM m_X12_trial = true := okM_q (by decide +kernel)
theorem ok_X12_span : okM m_X12_span = true := okM_q (by decide +kernel)
theorem ok_X12_ofLog : okM m_X12_ofLog = true := okM_q (by decide +kernel)
theorem ok_X12_led : okM m_X12_led = true := okM_q (by decide +kernel)
theorem ok_X12_log : okM m_X12_log = true := okM_q (by decide +kernel)
theorem ok_X12_seed : okM m_X12_seed = true := okM_q (by decide +kernel)
theorem ok_X12_readyOnes : okM m_X12_readyOnes = true := okM_q (by decide +kernel)
theorem ok_X12_count : okM m_X12_count = true := okM_q (by decide +kernel)
end
section
/-! ===== the methods of the law and of the library, printed by program out of the listing ===== -/
def m_J6_bitCount_0f7a4 : aM := (yJ6_bitCount_0f7a4, cJ6_bitCount_0f7a4, 1, (Option.some Jvm.ClassFile.FieldType.int), [], [[(0, .iload_n 0, 1, 0, 0), (1, .iload_n 0, 2, 0, 0), (2, .iconst 1, 3, 0, 1), (3, .iushr, 4, 0, 0), (4, .ldc_w 265, 7, 0, 0), (7, .iand, 8, 0, 0), (8, .isub, 9, 0, 0), (9, .istore_n 0, 10, 0, 0), (10, .iload_n 0, 11, 0, 0), (11, .ldc_w 266, 14, 0, 0), (14, .iand, 15, 0, 0), (15, .iload_n 0, 16, 0, 0), (16, .iconst 2, 17, 0, 2), (17, .iushr, 18, 0, 0), (18, .ldc_w 266, 21, 0, 0), (21, .iand, 22, 0, 0), (22, .iadd, 23, 0, 0), (23, .istore_n 0, 24, 0, 0), (24, .iload_n 0, 25, 0, 0), (25, .iload_n 0, 26, 0, 0), (26, .iconst 4, 27, 0, 4), (27, .iushr, 28, 0, 0), (28, .iadd, 29, 0, 0), (29, .ldc_w 267, 32, 0, 0), (32, .iand, 33, 0, 0), (33, .istore_n 0, 34, 0, 0), (34, .iload_n 0, 35, 0, 0), (35, .iload_n 0, 36, 0, 0), (36, .bipush 8, 38, 0, 8), (38, .iushr, 39, 0, 0), (39, .iadd, 40, 0, 0), (40, .istore_n 0, 41, 0, 0), (41, .iload_n 0, 42, 0, 0), (42, .iload_n 0, 43, 0, 0), (43, .bipush 16, 45, 0, 16), (45, .iushr, 46, 0, 0), (46, .iadd, 47, 0, 0), (47, .istore_n 0, 48, 0, 0), (48, .iload_n 0, 49, 0, 0), (49, .bipush 63, 51, 0, 63), (51, .iand, 52, 0, 0), (52, .ireturn, 53, 0, 0)]])
def m_J0_length_8abf5 : aM := (yJ0_length_8abf5, cJ0_length_8abf5, 1, (Option.some Jvm.ClassFile.FieldType.int), [], [[(0, .aload_n 0, 1, 0, 0), (1, .getfield 9, 4, 0, 0), (4, .arraylength, 5, 0, 0), (5, .aload_n 0, 6, 0, 0), (6, .invokevirtual 335, 9, 0, 0), (9, .ishr, 10, 0, 0), (10, .ireturn, 11, 0, 0)]])
def m_J0_charAt_5068e : aM := (yJ0_charAt_5068e, cJ0_charAt_5068e, 2, (Option.some Jvm.ClassFile.FieldType.char), [], [[(0, .aload_n 0, 1, 0, 0), (1, .invokevirtual 492, 4, 0, 0), (4, .ifCond .eq 12, 7, 16, 0), (7, .aload_n 0, 8, 0, 0), (8, .getfield 9, 11, 0, 0), (11, .iload_n 1, 12, 0, 0), (12, .invokestatic 495, 15, 0, 0), (15, .ireturn, 16, 0, 0), (16, .aload_n 0, 17, 0, 0), (17, .getfield 9, 20, 0, 0), (20, .iload_n 1, 21, 0, 0), (21, .invokestatic 498, 24, 0, 0), (24, .ireturn, 25, 0, 0)]])
def m_J0_coder_7d493 : aM := (yJ0_coder_7d493, cJ0_coder_7d493, 1, (Option.some Jvm.ClassFile.FieldType.byte), [], [[(0, .getstatic 38, 3, 0, 0), (3, .ifCond .eq 10, 6, 13, 0), (6, .aload_n 0, 7, 0, 0), (7, .getfield 15, 10, 0, 0), (10, .goto 4, 13, 14, 0), (13, .iconst 1, 14, 0, 1), (14, .ireturn, 15, 0, 0)]])
def m_J0_isLatin1_aae02 : aM := (yJ0_isLatin1_aae02, cJ0_isLatin1_aae02, 1, (Option.some Jvm.ClassFile.FieldType.boolean), [], [[(0, .getstatic 38, 3, 0, 0), (3, .ifCond .eq 14, 6, 17, 0), (6, .aload_n 0, 7, 0, 0), (7, .getfield 15, 10, 0, 0), (10, .ifCond .ne 7, 13, 17, 0), (13, .iconst 1, 14, 0, 1), (14, .goto 4, 17, 18, 0), (17, .iconst 0, 18, 0, 0), (18, .ireturn, 19, 0, 0)]])
def m_J0_checkIndex_df160 : aM := (yJ0_checkIndex_df160, cJ0_checkIndex_df160, 2, (Option.none : Option Jvm.ClassFile.FieldType), [], [[(0, .iload_n 0, 1, 0, 0), (1, .iload_n 1, 2, 0, 0), (2, .getstatic 1053, 5, 0, 0), (5, .invokestatic 1059, 8, 0, 0), (8, .pop, 9, 0, 0), (9, .return_, 10, 0, 0)]])
def m_J1_charAt_3b067 : aM := (yJ1_charAt_3b067, cJ1_charAt_3b067, 2, (Option.some Jvm.ClassFile.FieldType.char), [], [[(0, .iload_n 1, 1, 0, 0), (1, .aload_n 0, 2, 0, 0), (2, .arraylength, 3, 0, 0), (3, .invokestatic 9, 6, 0, 0), (6, .aload_n 0, 7, 0, 0), (7, .iload_n 1, 8, 0, 0), (8, .baload, 9, 0, 0), (9, .sipush 255, 12, 0, 255), (12, .iand, 13, 0, 0), (13, .i2c, 14, 0, 0), (14, .ireturn, 15, 0, 0)]])
def m_J2_getChar_3b067 : aM := (yJ2_getChar_3b067, cJ2_getChar_3b067, 2, (Option.some Jvm.ClassFile.FieldType.char), [], [[(0, .getstatic 44, 3, 0, 0), (3, .ifCond .ne 25, 6, 28, 0), (6, .iload_n 1, 7, 0, 0), (7, .ifCond .lt 11, 10, 18, 0), (10, .iload_n 1, 11, 0, 0), (11, .aload_n 0, 12, 0, 0), (12, .invokestatic 48, 15, 0, 0), (15, .if_icmp .lt 13, 18, 28, 0), (18, .new 52, 21, 0, 0), (21, .dup, 22, 0, 0), (22, .ldc 54, 24, 0, 0), (24, .invokespecial 56, 27, 0, 0), (27, .athrow, 28, 0, 0), (28, .iload_n 1, 29, 0, 0), (29, .iconst 1, 30, 0, 1), (30, .ishl, 31, 0, 0), (31, .istore_n 1, 32, 0, 0), (32, .aload_n 0, 33, 0, 0), (33, .iload_n 1, 34, 0, 0), (34, .iinc 1 1, 37, 0, 1), (37, .baload, 38, 0, 0), (38, .sipush 255, 41, 0, 255), (41, .iand, 42, 0, 0), (42, .getstatic 59, 45, 0, 0), (45, .ishl, 46, 0, 0), (46, .aload_n 0, 47, 0, 0), (47, .iload_n 1, 48, 0, 0), (48, .baload, 49, 0, 0), (49, .sipush 255, 52, 0, 255), (52, .iand, 53, 0, 0), (53, .getstatic 63, 56, 0, 0), (56, .ishl, 57, 0, 0), (57, .ior, 58, 0, 0), (58, .i2c, 59, 0, 0), (59, .ireturn, 60, 0, 0)]])
def m_J2_length_9d52b : aM := (yJ2_length_9d52b, cJ2_length_9d52b, 1, (Option.some Jvm.ClassFile.FieldType.int), [], [[(0, .aload_n 0, 1, 0, 0), (1, .arraylength, 2, 0, 0), (2, .iconst 1, 3, 0, 1), (3, .ishr, 4, 0, 0), (4, .ireturn, 5, 0, 0)]])
def m_J2_charAt_3b067 : aM := (yJ2_charAt_3b067, cJ2_charAt_3b067, 2, (Option.some Jvm.ClassFile.FieldType.char), [], [[(0, .iload_n 1, 1, 0, 0), (1, .aload_n 0, 2, 0, 0), (2, .invokestatic 67, 5, 0, 0), (5, .aload_n 0, 6, 0, 0), (6, .iload_n 1, 7, 0, 0), (7, .invokestatic 71, 10, 0, 0), (10, .ireturn, 11, 0, 0)]])
def m_J2_checkIndex_2214a : aM := (yJ2_checkIndex_2214a, cJ2_checkIndex_2214a, 2, (Option.none : Option Jvm.ClassFile.FieldType), [], [[(0, .iload_n 0, 1, 0, 0), (1, .aload_n 1, 2, 0, 0), (2, .invokestatic 48, 5, 0, 0), (5, .invokestatic 414, 8, 0, 0), (8, .return_, 9, 0, 0)]])
def m_J3_checkIndex_8e157 : aM := (yJ3_checkIndex_8e157, cJ3_checkIndex_8e157, 3, (Option.some Jvm.ClassFile.FieldType.int), [], [[(0, .iload_n 0, 1, 0, 0), (1, .ifCond .lt 8, 4, 9, 0), (4, .iload_n 0, 5, 0, 0), (5, .iload_n 1, 6, 0, 0), (6, .if_icmp .lt 10, 9, 16, 0), (9, .aload_n 2, 10, 0, 0), (10, .iload_n 0, 11, 0, 0), (11, .iload_n 1, 12, 0, 0), (12, .invokestatic 95, 15, 0, 0), (15, .athrow, 16, 0, 0), (16, .iload_n 0, 17, 0, 0), (17, .ireturn, 18, 0, 0)]])
def m_L_street : aM := (yL_street, cL_street, 3, (Option.some Jvm.ClassFile.FieldType.int), [((0), (8), (11), (13)), ((0), (8), (14), (15))], [[(0, .aload_n 1, 1, 0, 0), (1, .iconst 0, 2, 0, 0), (2, .aload_n 0, 3, 0, 0), (3, .invokevirtual 7, 6, 0, 0), (6, .i2l, 7, 0, 0), (7, .lastore, 8, 0, 0), (8, .goto 9, 11, 17, 0), (11, .astore_n 2, 12, 0, 0), (12, .iconst 1, 13, 0, 1), (13, .ireturn, 14, 0, 0), (14, .astore_n 2, 15, 0, 0), (15, .iconst 2, 16, 0, 2), (16, .ireturn, 17, 0, 0), (17, .iconst 0, 18, 0, 0), (18, .ireturn, 19, 0, 0)]])
def m_L_law : aM := (yL_law, cL_law, 3, (Option.some Jvm.ClassFile.FieldType.int), [((0), (8), (11), (13))], [[(0, .aload_n 1, 1, 0, 0), (1, .iconst 0, 2, 0, 0), (2, .aload_n 0, 3, 0, 0), (3, .invokevirtual 17, 6, 0, 0), (6, .i2l, 7, 0, 0), (7, .lastore, 8, 0, 0), (8, .goto 6, 11, 14, 0), (11, .astore_n 2, 12, 0, 0), (12, .iconst 1, 13, 0, 1), (13, .ireturn, 14, 0, 0), (14, .iconst 0, 15, 0, 0), (15, .ireturn, 16, 0, 0)]])
def m_L_person : aM := (yL_person, cL_person, 5, (Option.some Jvm.ClassFile.FieldType.int), [((0), (10), (13), (24)), ((0), (10), (17), (26))], [[(0, .aload_n 3, 1, 0, 0), (1, .iconst 0, 2, 0, 0), (2, .aload_n 0, 3, 0, 0), (3, .iload_n 1, 4, 0, 0), (4, .iload_n 2, 5, 0, 0), (5, .invokevirtual 20, 8, 0, 0), (8, .i2l, 9, 0, 0), (9, .lastore, 10, 0, 0), (10, .goto 11, 13, 21, 0), (13, .astore 4, 15, 0, 0), (15, .iconst 1, 16, 0, 1), (16, .ireturn, 17, 0, 0), (17, .astore 4, 19, 0, 0), (19, .iconst 2, 20, 0, 2), (20, .ireturn, 21, 0, 0), (21, .iconst 0, 22, 0, 0), (22, .ireturn, 23, 0, 0)]])
def m_L_duty : aM := (yL_duty, cL_duty, 5, (Option.some Jvm.ClassFile.FieldType.int), [((0), (10), (13), (24)), ((0), (10), (17), (26))], [[(0, .aload_n 3, 1, 0, 0), (1, .iconst 0, 2, 0, 0), (2, .aload_n 0, 3, 0, 0), (3, .iload_n 1, 4, 0, 0), (4, .iload_n 2, 5, 0, 0), (5, .invokevirtual 28, 8, 0, 0), (8, .i2l, 9, 0, 0), (9, .lastore, 10, 0, 0), (10, .goto 11, 13, 21, 0), (13, .astore 4, 15, 0, 0), (15, .iconst 1, 16, 0, 1), (16, .ireturn, 17, 0, 0), (17, .astore 4, 19, 0, 0), (19, .iconst 2, 20, 0, 2), (20, .ireturn, 21, 0, 0), (21, .iconst 0, 22, 0, 0), (22, .ireturn, 23, 0, 0)]])
def m_L_call : aM := (yL_call, cL_call, 4, (Option.some Jvm.ClassFile.FieldType.int), [((0), (9), (12), (24)), ((0), (9), (15), (35))], [[(0, .aload_n 2, 1, 0, 0), (1, .iconst 0, 2, 0, 0), (2, .aload_n 0, 3, 0, 0), (3, .iload_n 1, 4, 0, 0), (4, .invokevirtual 31, 7, 0, 0), (7, .i2l, 8, 0, 0), (8, .lastore, 9, 0, 0), (9, .goto 9, 12, 18, 0), (12, .astore_n 3, 13, 0, 0), (13, .iconst 1, 14, 0, 1), (14, .ireturn, 15, 0, 0), (15, .astore_n 3, 16, 0, 0), (16, .iconst 2, 17, 0, 2), (17, .ireturn, 18, 0, 0), (18, .iconst 0, 19, 0, 0), (19, .ireturn, 20, 0, 0)]])
def m_L_put : aM := (yL_put, cL_put, 4, (Option.some Jvm.ClassFile.FieldType.int), [((0), (9), (12), (24)), ((0), (9), (15), (35))], [[(0, .aload_n 2, 1, 0, 0), (1, .iconst 0, 2, 0, 0), (2, .aload_n 0, 3, 0, 0), (3, .iload_n 1, 4, 0, 0), (4, .invokevirtual 37, 7, 0, 0), (7, .i2l, 8, 0, 0), (8, .lastore, 9, 0, 0), (9, .goto 9, 12, 18, 0), (12, .astore_n 3, 13, 0, 0), (13, .iconst 1, 14, 0, 1), (14, .ireturn, 15, 0, 0), (15, .astore_n 3, 16, 0, 0), (16, .iconst 2, 17, 0, 2), (17, .ireturn, 18, 0, 0), (18, .iconst 0, 19, 0, 0), (19, .ireturn, 20, 0, 0)]])
def m_L_forget : aM := (yL_forget, cL_forget, 4, (Option.some Jvm.ClassFile.FieldType.int), [((0), (9), (12), (24)), ((0), (9), (15), (35))], [[(0, .aload_n 2, 1, 0, 0), (1, .iconst 0, 2, 0, 0), (2, .aload_n 0, 3, 0, 0), (3, .iload_n 1, 4, 0, 0), (4, .invokevirtual 40, 7, 0, 0), (7, .i2l, 8, 0, 0), (8, .lastore, 9, 0, 0), (9, .goto 9, 12, 18, 0), (12, .astore_n 3, 13, 0, 0), (13, .iconst 1, 14, 0, 1), (14, .ireturn, 15, 0, 0), (15, .astore_n 3, 16, 0, 0), (16, .iconst 2, 17, 0, 2), (17, .ireturn, 18, 0, 0), (18, .iconst 0, 19, 0, 0), (19, .ireturn, 20, 0, 0)]])
def m_L_recall : aM := (yL_recall, cL_recall, 4, (Option.some Jvm.ClassFile.FieldType.int), [((0), (9), (12), (24)), ((0), (9), (15), (35))], [[(0, .aload_n 2, 1, 0, 0), (1, .iconst 0, 2, 0, 0), (2, .aload_n 0, 3, 0, 0), (3, .iload_n 1, 4, 0, 0), (4, .invokevirtual 43, 7, 0, 0), (7, .i2l, 8, 0, 0), (8, .lastore, 9, 0, 0), (9, .goto 9, 12, 18, 0), (12, .astore_n 3, 13, 0, 0), (13, .iconst 1, 14, 0, 1), (14, .ireturn, 15, 0, 0), (15, .astore_n 3, 16, 0, 0), (16, .iconst 2, 17, 0, 2), (17, .ireturn, 18, 0, 0), (18, .iconst 0, 19, 0, 0), (19, .ireturn, 20, 0, 0)]])
def m_L_hand : aM := (yL_hand, cL_hand, 5, (Option.some Jvm.ClassFile.FieldType.int), [((0), (10), (13), (24)), ((0), (10), (17), (13)), ((0), (10), (21), (35))], [[(0, .aload_n 3, 1, 0, 0), (1, .iconst 0, 2, 0, 0), (2, .aload_n 0, 3, 0, 0), (3, .iload_n 1, 4, 0, 0), (4, .iload_n 2, 5, 0, 0), (5, .invokevirtual 46, 8, 0, 0), (8, .i2l, 9, 0, 0), (9, .lastore, 10, 0, 0), (10, .goto 15, 13, 25, 0), (13, .astore 4, 15, 0, 0), (15, .iconst 1, 16, 0, 1), (16, .ireturn, 17, 0, 0), (17, .astore 4, 19, 0, 0), (19, .iconst 2, 20, 0, 2), (20, .ireturn, 21, 0, 0), (21, .astore 4, 23, 0, 0), (23, .iconst 3, 24, 0, 3), (24, .ireturn, 25, 0, 0), (25, .iconst 0, 26, 0, 0), (26, .ireturn, 27, 0, 0)]])
def m_L_lean : aM := (yL_lean, cL_lean, 5, (Option.some Jvm.ClassFile.FieldType.int), [((0), (10), (13), (24)), ((0), (10), (17), (13))], [[(0, .aload_n 3, 1, 0, 0), (1, .iconst 0, 2, 0, 0), (2, .aload_n 0, 3, 0, 0), (3, .iload_n 1, 4, 0, 0), (4, .iload_n 2, 5, 0, 0), (5, .invokevirtual 49, 8, 0, 0), (8, .i2l, 9, 0, 0), (9, .lastore, 10, 0, 0), (10, .goto 11, 13, 21, 0), (13, .astore 4, 15, 0, 0), (15, .iconst 1, 16, 0, 1), (16, .ireturn, 17, 0, 0), (17, .astore 4, 19, 0, 0), (19, .iconst 2, 20, 0, 2), (20, .ireturn, 21, 0, 0), (21, .iconst 0, 22, 0, 0), (22, .ireturn, 23, 0, 0)]])
def m_L_free : aM := (yL_free, cL_free, 5, (Option.some Jvm.ClassFile.FieldType.int), [((0), (10), (13), (24)), ((0), (10), (17), (13))], [[(0, .aload_n 3, 1, 0, 0), (1, .iconst 0, 2, 0, 0), (2, .aload_n 0, 3, 0, 0), (3, .iload_n 1, 4, 0, 0), (4, .iload_n 2, 5, 0, 0), (5, .invokevirtual 52, 8, 0, 0), (8, .i2l, 9, 0, 0), (9, .lastore, 10, 0, 0), (10, .goto 11, 13, 21, 0), (13, .astore 4, 15, 0, 0), (15, .iconst 1, 16, 0, 1), (16, .ireturn, 17, 0, 0), (17, .astore 4, 19, 0, 0), (19, .iconst 2, 20, 0, 2), (20, .ireturn, 21, 0, 0), (21, .iconst 0, 22, 0, 0), (22, .ireturn, 23, 0, 0)]])
def m_L_days : aM := (yL_days, cL_days, 4, (Option.some Jvm.ClassFile.FieldType.int), [((0), (9), (12), (13))], [[(0, .aload_n 2, 1, 0, 0), (1, .iconst 0, 2, 0, 0), (2, .aload_n 0, 3, 0, 0), (3, .iload_n 1, 4, 0, 0), (4, .invokevirtual 55, 7, 0, 0), (7, .i2l, 8, 0, 0), (8, .lastore, 9, 0, 0), (9, .goto 6, 12, 15, 0), (12, .astore_n 3, 13, 0, 0), (13, .iconst 1, 14, 0, 1), (14, .ireturn, 15, 0, 0), (15, .iconst 0, 16, 0, 0), (16, .ireturn, 17, 0, 0)]])
def m_L_greets : aM := (yL_greets, cL_greets, 5, (Option.some Jvm.ClassFile.FieldType.int), [((0), (10), (13), (24))], [[(0, .aload_n 3, 1, 0, 0), (1, .iconst 0, 2, 0, 0), (2, .aload_n 0, 3, 0, 0), (3, .iload_n 1, 4, 0, 0), (4, .iload_n 2, 5, 0, 0), (5, .invokevirtual 58, 8, 0, 0), (8, .i2l, 9, 0, 0), (9, .lastore, 10, 0, 0), (10, .goto 7, 13, 17, 0), (13, .astore 4, 15, 0, 0), (15, .iconst 1, 16, 0, 1), (16, .ireturn, 17, 0, 0), (17, .iconst 0, 18, 0, 0), (18, .ireturn, 19, 0, 0)]])
def m_L_where : aM := (yL_where, cL_where, 5, (Option.some Jvm.ClassFile.FieldType.int), [((0), (10), (13), (24)), ((0), (10), (17), (13))], [[(0, .aload_n 3, 1, 0, 0), (1, .iconst 0, 2, 0, 0), (2, .aload_n 0, 3, 0, 0), (3, .iload_n 1, 4, 0, 0), (4, .iload_n 2, 5, 0, 0), (5, .invokevirtual 61, 8, 0, 0), (8, .i2l, 9, 0, 0), (9, .lastore, 10, 0, 0), (10, .goto 11, 13, 21, 0), (13, .astore 4, 15, 0, 0), (15, .iconst 1, 16, 0, 1), (16, .ireturn, 17, 0, 0), (17, .astore 4, 19, 0, 0), (19, .iconst 2, 20, 0, 2), (20, .ireturn, 21, 0, 0), (21, .iconst 0, 22, 0, 0), (22, .ireturn, 23, 0, 0)]])
def m_L_crowd : aM := (yL_crowd, cL_crowd, 6, (Option.some Jvm.ClassFile.FieldType.int), [((0), (12), (15), (24)), ((0), (12), (19), (13))], [[(0, .aload 4, 2, 0, 0), (2, .iconst 0, 3, 0, 0), (3, .aload_n 0, 4, 0, 0), (4, .iload_n 1, 5, 0, 0), (5, .iload_n 2, 6, 0, 0), (6, .iload_n 3, 7, 0, 0), (7, .invokevirtual 64, 10, 0, 0), (10, .i2l, 11, 0, 0), (11, .lastore, 12, 0, 0), (12, .goto 11, 15, 23, 0), (15, .astore 5, 17, 0, 0), (17, .iconst 1, 18, 0, 1), (18, .ireturn, 19, 0, 0), (19, .astore 5, 21, 0, 0), (21, .iconst 2, 22, 0, 2), (22, .ireturn, 23, 0, 0), (23, .iconst 0, 24, 0, 0), (24, .ireturn, 25, 0, 0)]])
def m_L_does : aM := (yL_does, cL_does, 5, (Option.some Jvm.ClassFile.FieldType.int), [((0), (10), (13), (13))], [[(0, .aload_n 3, 1, 0, 0), (1, .iconst 0, 2, 0, 0), (2, .aload_n 0, 3, 0, 0), (3, .iload_n 1, 4, 0, 0), (4, .iload_n 2, 5, 0, 0), (5, .invokevirtual 68, 8, 0, 0), (8, .i2l, 9, 0, 0), (9, .lastore, 10, 0, 0), (10, .goto 7, 13, 17, 0), (13, .astore 4, 15, 0, 0), (15, .iconst 1, 16, 0, 1), (16, .ireturn, 17, 0, 0), (17, .iconst 0, 18, 0, 0), (18, .ireturn, 19, 0, 0)]])
def m_L_soon : aM := (yL_soon, cL_soon, 4, (Option.some Jvm.ClassFile.FieldType.int), [((0), (9), (12), (24))], [[(0, .aload_n 2, 1, 0, 0), (1, .iconst 0, 2, 0, 0), (2, .aload_n 0, 3, 0, 0), (3, .iload_n 1, 4, 0, 0), (4, .invokevirtual 72, 7, 0, 0), (7, .i2l, 8, 0, 0), (8, .lastore, 9, 0, 0), (9, .goto 6, 12, 15, 0), (12, .astore_n 3, 13, 0, 0), (13, .iconst 1, 14, 0, 1), (14, .ireturn, 15, 0, 0), (15, .iconst 0, 16, 0, 0), (16, .ireturn, 17, 0, 0)]])
def m_L_before : aM := (yL_before, cL_before, 4, (Option.some Jvm.ClassFile.FieldType.int), [((0), (9), (12), (24))], [[(0, .aload_n 2, 1, 0, 0), (1, .iconst 0, 2, 0, 0), (2, .aload_n 0, 3, 0, 0), (3, .iload_n 1, 4, 0, 0), (4, .invokevirtual 75, 7, 0, 0), (7, .i2l, 8, 0, 0), (8, .lastore, 9, 0, 0), (9, .goto 6, 12, 15, 0), (12, .astore_n 3, 13, 0, 0), (13, .iconst 1, 14, 0, 1), (14, .ireturn, 15, 0, 0), (15, .iconst 0, 16, 0, 0), (16, .ireturn, 17, 0, 0)]])
def m_L_after : aM := (yL_after, cL_after, 4, (Option.some Jvm.ClassFile.FieldType.int), [((0), (9), (12), (24))], [[(0, .aload_n 2, 1, 0, 0), (1, .iconst 0, 2, 0, 0), (2, .aload_n 0, 3, 0, 0), (3, .iload_n 1, 4, 0, 0), (4, .invokevirtual 78, 7, 0, 0), (7, .i2l, 8, 0, 0), (8, .lastore, 9, 0, 0), (9, .goto 6, 12, 15, 0), (12, .astore_n 3, 13, 0, 0), (13, .iconst 1, 14, 0, 1), (14, .ireturn, 15, 0, 0), (15, .iconst 0, 16, 0, 0), (16, .ireturn, 17, 0, 0)]])
def m_L_depth : aM := (yL_depth, cL_depth, 4, (Option.some Jvm.ClassFile.FieldType.int), [((0), (9), (12), (24))], [[(0, .aload_n 2, 1, 0, 0), (1, .iconst 0, 2, 0, 0), (2, .aload_n 0, 3, 0, 0), (3, .iload_n 1, 4, 0, 0), (4, .invokevirtual 81, 7, 0, 0), (7, .i2l, 8, 0, 0), (8, .lastore, 9, 0, 0), (9, .goto 6, 12, 15, 0), (12, .astore_n 3, 13, 0, 0), (13, .iconst 1, 14, 0, 1), (14, .ireturn, 15, 0, 0), (15, .iconst 0, 16, 0, 0), (16, .ireturn, 17, 0, 0)]])
def m_L_young : aM := (yL_young, cL_young, 4, (Option.some Jvm.ClassFile.FieldType.int), [((0), (9), (12), (13))], [[(0, .aload_n 2, 1, 0, 0), (1, .iconst 0, 2, 0, 0), (2, .aload_n 0, 3, 0, 0), (3, .iload_n 1, 4, 0, 0), (4, .invokevirtual 84, 7, 0, 0), (7, .i2l, 8, 0, 0), (8, .lastore, 9, 0, 0), (9, .goto 6, 12, 15, 0), (12, .astore_n 3, 13, 0, 0), (13, .iconst 1, 14, 0, 1), (14, .ireturn, 15, 0, 0), (15, .iconst 0, 16, 0, 0), (16, .ireturn, 17, 0, 0)]])
def m_L_older : aM := (yL_older, cL_older, 4, (Option.some Jvm.ClassFile.FieldType.int), [((0), (9), (12), (13))], [[(0, .aload_n 2, 1, 0, 0), (1, .iconst 0, 2, 0, 0), (2, .aload_n 0, 3, 0, 0), (3, .iload_n 1, 4, 0, 0), (4, .invokevirtual 87, 7, 0, 0), (7, .i2l, 8, 0, 0), (8, .lastore, 9, 0, 0), (9, .goto 6, 12, 15, 0), (12, .astore_n 3, 13, 0, 0), (13, .iconst 1, 14, 0, 1), (14, .ireturn, 15, 0, 0), (15, .iconst 0, 16, 0, 0), (16, .ireturn, 17, 0, 0)]])
def m_L_whose : aM := (yL_whose, cL_whose, 3, (Option.some Jvm.ClassFile.FieldType.int), [((0), (8), (11), (13))], [[(0, .aload_n 1, 1, 0, 0), (1, .iconst 0, 2, 0, 0), (2, .aload_n 0, 3, 0, 0), (3, .invokevirtual 90, 6, 0, 0), (6, .i2l, 7, 0, 0), (7, .lastore, 8, 0, 0), (8, .goto 6, 11, 14, 0), (11, .astore_n 2, 12, 0, 0), (12, .iconst 1, 13, 0, 1), (13, .ireturn, 14, 0, 0), (14, .iconst 0, 15, 0, 0), (15, .ireturn, 16, 0, 0)]])
def m_L_ask : aM := (yL_ask, cL_ask, 3, (Option.some Jvm.ClassFile.FieldType.int), [((0), (8), (11), (13))], [[(0, .aload_n 1, 1, 0, 0), (1, .iconst 0, 2, 0, 0), (2, .aload_n 0, 3, 0, 0), (3, .invokevirtual 93, 6, 0, 0), (6, .i2l, 7, 0, 0), (7, .lastore, 8, 0, 0), (8, .goto 6, 11, 14, 0), (11, .astore_n 2, 12, 0, 0), (12, .iconst 1, 13, 0, 1), (13, .ireturn, 14, 0, 0), (14, .iconst 0, 15, 0, 0), (15, .ireturn, 16, 0, 0)]])
def m_L_swap : aM := (yL_swap, cL_swap, 5, (Option.some Jvm.ClassFile.FieldType.int), [((0), (10), (13), (24)), ((0), (10), (17), (13))], [[(0, .aload_n 3, 1, 0, 0), (1, .iconst 0, 2, 0, 0), (2, .aload_n 0, 3, 0, 0), (3, .iload_n 1, 4, 0, 0), (4, .iload_n 2, 5, 0, 0), (5, .invokevirtual 96, 8, 0, 0), (8, .i2l, 9, 0, 0), (9, .lastore, 10, 0, 0), (10, .goto 11, 13, 21, 0), (13, .astore 4, 15, 0, 0), (15, .iconst 1, 16, 0, 1), (16, .ireturn, 17, 0, 0), (17, .astore 4, 19, 0, 0), (19, .iconst 2, 20, 0, 2), (20, .ireturn, 21, 0, 0), (21, .iconst 0, 22, 0, 0), (22, .ireturn, 23, 0, 0)]])
def m_L_rests : aM := (yL_rests, cL_rests, 6, (Option.some Jvm.ClassFile.FieldType.int), [((0), (12), (15), (24)), ((0), (12), (19), (13))], [[(0, .aload 4, 2, 0, 0), (2, .iconst 0, 3, 0, 0), (3, .aload_n 0, 4, 0, 0), (4, .iload_n 1, 5, 0, 0), (5, .iload_n 2, 6, 0, 0), (6, .iload_n 3, 7, 0, 0), (7, .invokevirtual 99, 10, 0, 0), (10, .i2l, 11, 0, 0), (11, .lastore, 12, 0, 0), (12, .goto 11, 15, 23, 0), (15, .astore 5, 17, 0, 0), (17, .iconst 1, 18, 0, 1), (18, .ireturn, 19, 0, 0), (19, .astore 5, 21, 0, 0), (21, .iconst 2, 22, 0, 2), (22, .ireturn, 23, 0, 0), (23, .iconst 0, 24, 0, 0), (24, .ireturn, 25, 0, 0)]])
def m_L_odds : aM := (yL_odds, cL_odds, 5, (Option.some Jvm.ClassFile.FieldType.int), [((0), (10), (13), (13))], [[(0, .aload_n 3, 1, 0, 0), (1, .iconst 0, 2, 0, 0), (2, .aload_n 0, 3, 0, 0), (3, .iload_n 1, 4, 0, 0), (4, .iload_n 2, 5, 0, 0), (5, .invokevirtual 102, 8, 0, 0), (8, .i2l, 9, 0, 0), (9, .lastore, 10, 0, 0), (10, .goto 7, 13, 17, 0), (13, .astore 4, 15, 0, 0), (15, .iconst 1, 16, 0, 1), (16, .ireturn, 17, 0, 0), (17, .iconst 0, 18, 0, 0), (18, .ireturn, 19, 0, 0)]])
def m_L_spare : aM := (yL_spare, cL_spare, 5, (Option.some Jvm.ClassFile.FieldType.int), [((0), (10), (13), (24)), ((0), (10), (17), (13))], [[(0, .aload_n 3, 1, 0, 0), (1, .iconst 0, 2, 0, 0), (2, .aload_n 0, 3, 0, 0), (3, .iload_n 1, 4, 0, 0), (4, .iload_n 2, 5, 0, 0), (5, .invokevirtual 105, 8, 0, 0), (8, .i2l, 9, 0, 0), (9, .lastore, 10, 0, 0), (10, .goto 11, 13, 21, 0), (13, .astore 4, 15, 0, 0), (15, .iconst 1, 16, 0, 1), (16, .ireturn, 17, 0, 0), (17, .astore 4, 19, 0, 0), (19, .iconst 2, 20, 0, 2), (20, .ireturn, 21, 0, 0), (21, .iconst 0, 22, 0, 0), (22, .ireturn, 23, 0, 0)]])
def m_L_done : aM := (yL_done, cL_done, 4, (Option.some Jvm.ClassFile.FieldType.int), [((0), (9), (12), (24))], [[(0, .aload_n 2, 1, 0, 0), (1, .iconst 0, 2, 0, 0), (2, .aload_n 0, 3, 0, 0), (3, .iload_n 1, 4, 0, 0), (4, .invokevirtual 108, 7, 0, 0), (7, .i2l, 8, 0, 0), (8, .lastore, 9, 0, 0), (9, .goto 6, 12, 15, 0), (12, .astore_n 3, 13, 0, 0), (13, .iconst 1, 14, 0, 1), (14, .ireturn, 15, 0, 0), (15, .iconst 0, 16, 0, 0), (16, .ireturn, 17, 0, 0)]])
def m_L_sick : aM := (yL_sick, cL_sick, 4, (Option.some Jvm.ClassFile.FieldType.int), [((0), (9), (12), (24))], [[(0, .aload_n 2, 1, 0, 0), (1, .iconst 0, 2, 0, 0), (2, .aload_n 0, 3, 0, 0), (3, .iload_n 1, 4, 0, 0), (4, .invokevirtual 111, 7, 0, 0), (7, .i2l, 8, 0, 0), (8, .lastore, 9, 0, 0), (9, .goto 6, 12, 15, 0), (12, .astore_n 3, 13, 0, 0), (13, .iconst 1, 14, 0, 1), (14, .ireturn, 15, 0, 0), (15, .iconst 0, 16, 0, 0), (16, .ireturn, 17, 0, 0)]])
def m_L_ahead : aM := (yL_ahead, cL_ahead, 6, (Option.some Jvm.ClassFile.FieldType.int), [((0), (12), (15), (24)), ((0), (12), (19), (13)), ((0), (12), (23), (26))], [[(0, .aload 4, 2, 0, 0), (2, .iconst 0, 3, 0, 0), (3, .aload_n 0, 4, 0, 0), (4, .iload_n 1, 5, 0, 0), (5, .iload_n 2, 6, 0, 0), (6, .iload_n 3, 7, 0, 0), (7, .invokevirtual 114, 10, 0, 0), (10, .i2l, 11, 0, 0), (11, .lastore, 12, 0, 0), (12, .goto 15, 15, 27, 0), (15, .astore 5, 17, 0, 0), (17, .iconst 1, 18, 0, 1), (18, .ireturn, 19, 0, 0), (19, .astore 5, 21, 0, 0), (21, .iconst 2, 22, 0, 2), (22, .ireturn, 23, 0, 0), (23, .astore 5, 25, 0, 0), (25, .iconst 3, 26, 0, 3), (26, .ireturn, 27, 0, 0), (27, .iconst 0, 28, 0, 0), (28, .ireturn, 29, 0, 0)]])
def m_L_trial : aM := (yL_trial, cL_trial, 5, (Option.some Jvm.ClassFile.FieldType.int), [((0), (10), (13), (13))], [[(0, .aload_n 3, 1, 0, 0), (1, .iconst 0, 2, 0, 0), (2, .aload_n 0, 3, 0, 0), (3, .iload_n 1, 4, 0, 0), (4, .iload_n 2, 5, 0, 0), (5, .invokevirtual 117, 8, 0, 0), (8, .i2l, 9, 0, 0), (9, .lastore, 10, 0, 0), (10, .goto 7, 13, 17, 0), (13, .astore 4, 15, 0, 0), (15, .iconst 1, 16, 0, 1), (16, .ireturn, 17, 0, 0), (17, .iconst 0, 18, 0, 0), (18, .ireturn, 19, 0, 0)]])
def m_L_span : aM := (yL_span, cL_span, 5, (Option.some Jvm.ClassFile.FieldType.int), [((0), (10), (13), (13))], [[(0, .aload_n 3, 1, 0, 0), (1, .iconst 0, 2, 0, 0), (2, .aload_n 0, 3, 0, 0), (3, .iload_n 1, 4, 0, 0), (4, .iload_n 2, 5, 0, 0), (5, .invokevirtual 120, 8, 0, 0), (8, .i2l, 9, 0, 0), (9, .lastore, 10, 0, 0), (10, .goto 7, 13, 17, 0), (13, .astore 4, 15, 0, 0), (15, .iconst 1, 16, 0, 1), (16, .ireturn, 17, 0, 0), (17, .iconst 0, 18, 0, 0), (18, .ireturn, 19, 0, 0)]])
def m_L_led : aM := (yL_led, cL_led, 5, (Option.some Jvm.ClassFile.FieldType.int), [((0), (10), (13), (24))], [[(0, .aload_n 3, 1, 0, 0), (1, .iconst 0, 2, 0, 0), (2, .aload_n 0, 3, 0, 0), (3, .iload_n 1, 4, 0, 0), (4, .iload_n 2, 5, 0, 0), (5, .invokevirtual 123, 8, 0, 0), (8, .i2l, 9, 0, 0), (9, .lastore, 10, 0, 0), (10, .goto 7, 13, 17, 0), (13, .astore 4, 15, 0, 0), (15, .iconst 1, 16, 0, 1), (16, .ireturn, 17, 0, 0), (17, .iconst 0, 18, 0, 0), (18, .ireturn, 19, 0, 0)]])
def m_L_log : aM := (yL_log, cL_log, 5, (Option.some Jvm.ClassFile.FieldType.int), [((0), (10), (13), (26))], [[(0, .aload_n 3, 1, 0, 0), (1, .iconst 0, 2, 0, 0), (2, .aload_n 0, 3, 0, 0), (3, .iload_n 1, 4, 0, 0), (4, .iload_n 2, 5, 0, 0), (5, .invokevirtual 126, 8, 0, 0), (8, .i2l, 9, 0, 0), (9, .lastore, 10, 0, 0), (10, .goto 7, 13, 17, 0), (13, .astore 4, 15, 0, 0), (15, .iconst 1, 16, 0, 1), (16, .ireturn, 17, 0, 0), (17, .iconst 0, 18, 0, 0), (18, .ireturn, 19, 0, 0)]])
theorem ok_J6_bitCount_0f7a4 : okM m_J6_bitCount_0f7a4 = true := okM_q (by decide +kernel)
theorem ok_J0_length_8abf5 : okM m_J0_length_8abf5 = true := okM_q (by decide +kernel)
theorem ok_J0_charAt_5068e : okM m_J0_charAt_5068e = true := okM_q (by decide +kernel)
theorem ok_J0_coder_7d493 : okM m_J0_coder_7d493 = true := okM_q (by decide +kernel)
theorem ok_J0_isLatin1_aae02 : okM m_J0_isLatin1_aae02 = true := okM_q (by decide +kernel)
theorem ok_J0_checkIndex_df160 : okM m_J0_checkIndex_df160 = true := okM_q (by decide +kernel)
theorem ok_J1_charAt_3b067 : okM m_J1_charAt_3b067 = true := okM_q (by decide +kernel)
theorem ok_J2_getChar_3b067 : okM m_J2_getChar_3b067 = true := okM_q (by decide +kernel)
theorem ok_J2_length_9d52b : okM m_J2_length_9d52b = true := okM_q (by decide +kernel)
theorem ok_J2_charAt_3b067 : okM m_J2_charAt_3b067 = true := okM_q (by decide +kernel)
theorem ok_J2_checkIndex_2214a : okM m_J2_checkIndex_2214a = true := okM_q (by decide +kernel)
theorem ok_J3_checkIndex_8e157 : okM m_J3_checkIndex_8e157 = true := okM_q (by decide +kernel)
theorem ok_L_street : okM m_L_street = true := okM_q (by decide +kernel)
theorem ok_L_law : okM m_L_law = true := okM_q (by decide +kernel)
theorem ok_L_person : okM m_L_person = true := okM_q (by decide +kernel)
theorem ok_L_duty : okM m_L_duty = true := okM_q (by decide +kernel)
theorem ok_L_call : okM m_L_call = true := okM_q (by decide +kernel)
theorem ok_L_put : okM m_L_put = true := okM_q (by decide +kernel)
theorem ok_L_forget : okM m_L_forget = true := okM_q (by decide +kernel)
theorem ok_L_recall : okM m_L_recall = true := okM_q (by decide +kernel)
theorem ok_L_hand : okM m_L_hand = true := okM_q (by decide +kernel)
theorem ok_L_lean : okM m_L_lean = true := okM_q (by decide +kernel)
theorem ok_L_free : okM m_L_free = true := okM_q (by decide +kernel)
theorem ok_L_days : okM m_L_days = true := okM_q (by decide +kernel)
theorem ok_L_greets : okM m_L_greets = true := okM_q (by decide +kernel)
theorem ok_L_where : okM m_L_where = true := okM_q (by decide +kernel)
theorem ok_L_crowd : okM m_L_crowd = true := okM_q (by decide +kernel)
theorem ok_L_does : okM m_L_does = true := okM_q (by decide +kernel)
theorem ok_L_soon : okM m_L_soon = true := okM_q (by decide +kernel)
theorem ok_L_before : okM m_L_before = true := okM_q (by decide +kernel)
theorem ok_L_after : okM m_L_after = true := okM_q (by decide +kernel)
theorem ok_L_depth : okM m_L_depth = true := okM_q (by decide +kernel)
theorem ok_L_young : okM m_L_young = true := okM_q (by decide +kernel)
theorem ok_L_older : okM m_L_older = true := okM_q (by decide +kernel)
theorem ok_L_whose : okM m_L_whose = true := okM_q (by decide +kernel)
theorem ok_L_ask : okM m_L_ask = true := okM_q (by decide +kernel)
theorem ok_L_swap : okM m_L_swap = true := okM_q (by decide +kernel)
theorem ok_L_rests : okM m_L_rests = true := okM_q (by decide +kernel)
theorem ok_L_odds : okM m_L_odds = true := okM_q (by decide +kernel)
theorem ok_L_spare : okM m_L_spare = true := okM_q (by decide +kernel)
theorem ok_L_done : okM m_L_done = true := okM_q (by decide +kernel)
theorem ok_L_sick : okM m_L_sick = true := okM_q (by decide +kernel)
theorem ok_L_ahead : okM m_L_ahead = true := okM_q (by decide +kernel)
theorem ok_L_trial : okM m_L_trial = true := okM_q (by decide +kernel)
theorem ok_L_span : okM m_L_span = true := okM_q (by decide +kernel)
theorem ok_L_led : okM m_L_led = true := okM_q (by decide +kernel)
theorem ok_L_log : okM m_L_log = true := okM_q (by decide +kernel)
end
section
/-! ===== links, printed by program out of the tables ===== -/
set_option maxRecDepth 20000 in
theorem awk_0 : ∀ w ∈ [u_lay RX0 TX0 0, u_lay RX0 TX0 1], w ∈ lw_tbl ∧ goodWord w = true := List.forall_mem_cons.mpr ⟨⟨inD2 (i := 71) rfl, rfl⟩, List.forall_mem_cons.mpr ⟨⟨inD2 (i := 73) rfl, rfl⟩, fun w hw => absurd hw List.not_mem_nil⟩⟩
set_option maxRecDepth 20000 in
theorem aok_0 : aOk ((RX0, TX0, 2), tyX0) := ⟨awk_0, nmX0, tyX0_ok⟩
set_option maxRecDepth 20000 in
theorem awk_1 : ∀ w ∈ [u_lay RX1 TX1 0, u_lay RX1 TX1 1, u_lay RX1 TX1 2], w ∈ lw_tbl ∧ goodWord w = true := List.forall_mem_cons.mpr ⟨⟨inD1 (i := 124) rfl, rfl⟩, List.forall_mem_cons.mpr ⟨⟨inD1 (i := 126) rfl, rfl⟩, List.forall_mem_cons.mpr ⟨⟨inD1 (i := 128) rfl, rfl⟩, fun w hw => absurd hw List.not_mem_nil⟩⟩⟩
set_option maxRecDepth 20000 in
theorem aok_1 : aOk ((RX1, TX1, 3), tyX1) := ⟨awk_1, nmX1, tyX1_ok⟩
set_option maxRecDepth 20000 in
theorem awk_2 : ∀ w ∈ [u_lay RX2 TX2 0, u_lay RX2 TX2 1, u_lay RX2 TX2 2, u_lay RX2 TX2 3, u_lay RX2 TX2 4, u_lay RX2 TX2 5, u_lay RX2 TX2 6, u_lay RX2 TX2 7, u_lay RX2 TX2 8], w ∈ lw_tbl ∧ goodWord w = true := List.forall_mem_cons.mpr ⟨⟨inD2 (i := 24) rfl, rfl⟩, List.forall_mem_cons.mpr ⟨⟨inD2 (i := 26) rfl, rfl⟩, List.forall_mem_cons.mpr ⟨⟨inD2 (i := 28) rfl, rfl⟩, List.forall_mem_cons.mpr ⟨⟨inD2 (i := 30) rfl, rfl⟩, List.forall_mem_cons.mpr ⟨⟨inD2 (i := 32) rfl, rfl⟩, List.forall_mem_cons.mpr ⟨⟨inD2 (i := 34) rfl, rfl⟩, List.forall_mem_cons.mpr ⟨⟨inD2 (i := 36) rfl, rfl⟩, List.forall_mem_cons.mpr ⟨⟨inD2 (i := 38) rfl, rfl⟩, List.forall_mem_cons.mpr ⟨⟨inD2 (i := 40) rfl, rfl⟩, fun w hw => absurd hw List.not_mem_nil⟩⟩⟩⟩⟩⟩⟩⟩⟩
set_option maxRecDepth 20000 in
theorem aok_2 : aOk ((RX2, TX2, 9), tyX2) := ⟨awk_2, nmX2, tyX2_ok⟩
set_option maxRecDepth 20000 in
theorem awk_3 : ∀ w ∈ [u_lay RX3 TX3 0, u_lay RX3 TX3 1, u_lay RX3 TX3 2, u_lay RX3 TX3 3, u_lay RX3 TX3 4, u_lay RX3 TX3 5], w ∈ lw_tbl ∧ goodWord w = true := List.forall_mem_cons.mpr ⟨⟨inD2 (i := 56) rfl, rfl⟩, List.forall_mem_cons.mpr ⟨⟨inD2 (i := 57) rfl, rfl⟩, List.forall_mem_cons.mpr ⟨⟨inD2 (i := 48) rfl, rfl⟩, List.forall_mem_cons.mpr ⟨⟨inD2 (i := 50) rfl, rfl⟩, List.forall_mem_cons.mpr ⟨⟨inD2 (i := 52) rfl, rfl⟩, List.forall_mem_cons.mpr ⟨⟨inD2 (i := 54) rfl, rfl⟩, fun w hw => absurd hw List.not_mem_nil⟩⟩⟩⟩⟩⟩
set_option maxRecDepth 20000 in
theorem aok_3 : aOk ((RX3, TX3, 6), tyX3) := ⟨awk_3, nmX3, tyX3_ok⟩
set_option maxRecDepth 20000 in
theorem awk_5 : ∀ w ∈ [u_lay RX5 TX5 0, u_lay RX5 TX5 1, u_lay RX5 TX5 2, u_lay RX5 TX5 3, u_lay RX5 TX5 4, u_lay RX5 TX5 5, u_lay RX5 TX5 6, u_lay RX5 TX5 7, u_lay RX5 TX5 8, u_lay RX5 TX5 9, u_lay RX5 TX5 10, u_lay RX5 TX5 11, u_lay RX5 TX5 12, u_lay RX5 TX5 13, u_lay RX5 TX5 14, u_lay RX5 TX5 15, u_lay RX5 TX5 16, u_lay RX5 TX5 17], w ∈ lw_tbl ∧ goodWord w = true := List.forall_mem_cons.mpr ⟨⟨inD1 (i := 190) rfl, rfl⟩, List.forall_mem_cons.mpr ⟨⟨inD1 (i := 192) rfl, rfl⟩, List.forall_mem_cons.mpr ⟨⟨inD1 (i := 194) rfl, rfl⟩, List.forall_mem_cons.mpr ⟨⟨inD1 (i := 196) rfl, rfl⟩, List.forall_mem_cons.mpr ⟨⟨inD1 (i := 198) rfl, rfl⟩, List.forall_mem_cons.mpr ⟨⟨inD1 (i := 200) rfl, rfl⟩, List.forall_mem_cons.mpr ⟨⟨inD1 (i := 202) rfl, rfl⟩, List.forall_mem_cons.mpr ⟨⟨inD1 (i := 204) rfl, rfl⟩, List.forall_mem_cons.mpr ⟨⟨inD1 (i := 206) rfl, rfl⟩, List.forall_mem_cons.mpr ⟨⟨inD1 (i := 208) rfl, rfl⟩, List.forall_mem_cons.mpr ⟨⟨inD1 (i := 210) rfl, rfl⟩, List.forall_mem_cons.mpr ⟨⟨inD1 (i := 212) rfl, rfl⟩, List.forall_mem_cons.mpr ⟨⟨inD1 (i := 214) rfl, rfl⟩, List.forall_mem_cons.mpr ⟨⟨inD1 (i := 216) rfl, rfl⟩, List.forall_mem_cons.mpr ⟨⟨inD1 (i := 218) rfl, rfl⟩, List.forall_mem_cons.mpr ⟨⟨inD1 (i := 220) rfl, rfl⟩, List.forall_mem_cons.mpr ⟨⟨inD1 (i := 222) rfl, rfl⟩, List.forall_mem_cons.mpr ⟨⟨inD1 (i := 224) rfl, rfl⟩, fun w hw => absurd hw List.not_mem_nil⟩⟩⟩⟩⟩⟩⟩⟩⟩⟩⟩⟩⟩⟩⟩⟩⟩⟩
set_option maxRecDepth 20000 in
theorem aok_5 : aOk ((RX5, TX5, 18), tyX5) := ⟨awk_5, nmX5, tyX5_ok⟩
set_option maxRecDepth 20000 in
theorem awk_6 : ∀ w ∈ [u_lay RX6 TX6 0, u_lay RX6 TX6 1, u_lay RX6 TX6 2], w ∈ lw_tbl ∧ goodWord w = true := List.forall_mem_cons.mpr ⟨⟨inD1 (i := 237) rfl, rfl⟩, List.forall_mem_cons.mpr ⟨⟨inD1 (i := 239) rfl, rfl⟩, List.forall_mem_cons.mpr ⟨⟨inD1 (i := 235) rfl, rfl⟩, fun w hw => absurd hw List.not_mem_nil⟩⟩⟩
set_option maxRecDepth 20000 in
theorem aok_6 : aOk ((RX6, TX6, 3), tyX6) := ⟨awk_6, nmX6, tyX6_ok⟩
set_option maxRecDepth 20000 in
theorem awk_7 : ∀ w ∈ [u_lay RX7 TX7 0, u_lay RX7 TX7 1], w ∈ lw_tbl ∧ goodWord w = true := List.forall_mem_cons.mpr ⟨⟨inD1 (i := 48) rfl, rfl⟩, List.forall_mem_cons.mpr ⟨⟨inD1 (i := 50) rfl, rfl⟩, fun w hw => absurd hw List.not_mem_nil⟩⟩
set_option maxRecDepth 20000 in
theorem aok_7 : aOk ((RX7, TX7, 2), tyX7) := ⟨awk_7, nmX7, tyX7_ok⟩
set_option maxRecDepth 20000 in
theorem awk_9 : ∀ w ∈ [u_lay RX9 TX9 0, u_lay RX9 TX9 1, u_lay RX9 TX9 2, u_lay RX9 TX9 3, u_lay RX9 TX9 4, u_lay RX9 TX9 5, u_lay RX9 TX9 6, u_lay RX9 TX9 7, u_lay RX9 TX9 8, u_lay RX9 TX9 9], w ∈ lw_tbl ∧ goodWord w = true := List.forall_mem_cons.mpr ⟨⟨inD1 (i := 86) rfl, rfl⟩, List.forall_mem_cons.mpr ⟨⟨inD1 (i := 88) rfl, rfl⟩, List.forall_mem_cons.mpr ⟨⟨inD1 (i := 90) rfl, rfl⟩, List.forall_mem_cons.mpr ⟨⟨inD1 (i := 92) rfl, rfl⟩, List.forall_mem_cons.mpr ⟨⟨inD1 (i := 94) rfl, rfl⟩, List.forall_mem_cons.mpr ⟨⟨inD1 (i := 96) rfl, rfl⟩, List.forall_mem_cons.mpr ⟨⟨inD1 (i := 98) rfl, rfl⟩, List.forall_mem_cons.mpr ⟨⟨inD1 (i := 100) rfl, rfl⟩, List.forall_mem_cons.mpr ⟨⟨inD1 (i := 102) rfl, rfl⟩, List.forall_mem_cons.mpr ⟨⟨inD1 (i := 104) rfl, rfl⟩, fun w hw => absurd hw List.not_mem_nil⟩⟩⟩⟩⟩⟩⟩⟩⟩⟩
set_option maxRecDepth 20000 in
theorem aok_9 : aOk ((RX9, TX9, 10), tyX9) := ⟨awk_9, nmX9, tyX9_ok⟩
set_option maxRecDepth 20000 in
theorem awk_11 : ∀ w ∈ [u_lay RX11 TX11 0, u_lay RX11 TX11 1, u_lay RX11 TX11 2, u_lay RX11 TX11 3, u_lay RX11 TX11 4, u_lay RX11 TX11 5, u_lay RX11 TX11 6, u_lay RX11 TX11 7, u_lay RX11 TX11 8, u_lay RX11 TX11 9, u_lay RX11 TX11 10, u_lay RX11 TX11 11, u_lay RX11 TX11 12, u_lay RX11 TX11 13], w ∈ lw_tbl ∧ goodWord w = true := List.forall_mem_cons.mpr ⟨⟨inD2 (i := 91) rfl, rfl⟩, List.forall_mem_cons.mpr ⟨⟨inD2 (i := 93) rfl, rfl⟩, List.forall_mem_cons.mpr ⟨⟨inD2 (i := 95) rfl, rfl⟩, List.forall_mem_cons.mpr ⟨⟨inD2 (i := 97) rfl, rfl⟩, List.forall_mem_cons.mpr ⟨⟨inD2 (i := 99) rfl, rfl⟩, List.forall_mem_cons.mpr ⟨⟨inD2 (i := 101) rfl, rfl⟩, List.forall_mem_cons.mpr ⟨⟨inD2 (i := 103) rfl, rfl⟩, List.forall_mem_cons.mpr ⟨⟨inD2 (i := 105) rfl, rfl⟩, List.forall_mem_cons.mpr ⟨⟨inD2 (i := 107) rfl, rfl⟩, List.forall_mem_cons.mpr ⟨⟨inD2 (i := 109) rfl, rfl⟩, List.forall_mem_cons.mpr ⟨⟨inD2 (i := 111) rfl, rfl⟩, List.forall_mem_cons.mpr ⟨⟨inD2 (i := 113) rfl, rfl⟩, List.forall_mem_cons.mpr ⟨⟨inD2 (i := 115) rfl, rfl⟩, List.forall_mem_cons.mpr ⟨⟨inD2 (i := 117) rfl, rfl⟩, fun w hw => absurd hw List.not_mem_nil⟩⟩⟩⟩⟩⟩⟩⟩⟩⟩⟩⟩⟩⟩
set_option maxRecDepth 20000 in
theorem aok_11 : aOk ((RX11, TX11, 14), tyX11) := ⟨awk_11, nmX11, tyX11_ok⟩
set_option maxRecDepth 20000 in
theorem awk_12 : ∀ w ∈ [u_lay RX12 TX12 0, u_lay RX12 TX12 1, u_lay RX12 TX12 2, u_lay RX12 TX12 3, u_lay RX12 TX12 4, u_lay RX12 TX12 5, u_lay RX12 TX12 6, u_lay RX12 TX12 7, u_lay RX12 TX12 8, u_lay RX12 TX12 9, u_lay RX12 TX12 10, u_lay RX12 TX12 11, u_lay RX12 TX12 12, u_lay RX12 TX12 13, u_lay RX12 TX12 14, u_lay RX12 TX12 15, u_lay RX12 TX12 16, u_lay RX12 TX12 17, u_lay RX12 TX12 18, u_lay RX12 TX12 19], w ∈ lw_tbl ∧ goodWord w = true := List.forall_mem_cons.mpr ⟨⟨inD7 (i := 55) rfl, rfl⟩, List.forall_mem_cons.mpr ⟨⟨inD7 (i := 57) rfl, rfl⟩, List.forall_mem_cons.mpr ⟨⟨inD7 (i := 59) rfl, rfl⟩, List.forall_mem_cons.mpr ⟨⟨inD7 (i := 61) rfl, rfl⟩, List.forall_mem_cons.mpr ⟨⟨inD7 (i := 63) rfl, rfl⟩, List.forall_mem_cons.mpr ⟨⟨inD7 (i := 65) rfl, rfl⟩, List.forall_mem_cons.mpr ⟨⟨inD7 (i := 67) rfl, rfl⟩, List.forall_mem_cons.mpr ⟨⟨inD7 (i := 69) rfl, rfl⟩, List.forall_mem_cons.mpr ⟨⟨inD7 (i := 71) rfl, rfl⟩, List.forall_mem_cons.mpr ⟨⟨inD7 (i := 73) rfl, rfl⟩, List.forall_mem_cons.mpr ⟨⟨inD7 (i := 75) rfl, rfl⟩, List.forall_mem_cons.mpr ⟨⟨inD7 (i := 77) rfl, rfl⟩, List.forall_mem_cons.mpr ⟨⟨inD7 (i := 79) rfl, rfl⟩, List.forall_mem_cons.mpr ⟨⟨inD7 (i := 81) rfl, rfl⟩, List.forall_mem_cons.mpr ⟨⟨inD7 (i := 83) rfl, rfl⟩, List.forall_mem_cons.mpr ⟨⟨inD7 (i := 85) rfl, rfl⟩, List.forall_mem_cons.mpr ⟨⟨inD7 (i := 87) rfl, rfl⟩, List.forall_mem_cons.mpr ⟨⟨inD7 (i := 89) rfl, rfl⟩, List.forall_mem_cons.mpr ⟨⟨inD7 (i := 91) rfl, rfl⟩, List.forall_mem_cons.mpr ⟨⟨inD7 (i := 93) rfl, rfl⟩, fun w hw => absurd hw List.not_mem_nil⟩⟩⟩⟩⟩⟩⟩⟩⟩⟩⟩⟩⟩⟩⟩⟩⟩⟩⟩⟩
set_option maxRecDepth 20000 in
theorem aok_12 : aOk ((RX12, TX12, 20), tyX12) := ⟨awk_12, nmX12, tyX12_ok⟩
set_option maxRecDepth 20000 in
theorem fX11_10_11 : LF RX11 10 11 0 ((RX11, TX11, 14), tyX11) := ⟨rfl, aok_11, by decide, RX11, inD2 (i := 77) rfl, Or.inl rfl⟩
set_option maxRecDepth 20000 in
theorem gfX11_10_11 : LFr RX11 10 11 0 := ⟨_, fX11_10_11, rfl⟩
set_option maxRecDepth 20000 in
theorem pfX11_10_11 : LPr RX11 "<init>" 10 11 0 := ⟨_, ⟨fX11_10_11, Or.inr ⟨rfl, rfl, rfl⟩⟩, rfl⟩
set_option maxRecDepth 20000 in
theorem fX11_19_11 : LF RX11 19 11 1 ((RX11, TX11, 14), tyX11) := ⟨rfl, aok_11, by decide, RX11, inD2 (i := 78) rfl, Or.inl rfl⟩
set_option maxRecDepth 20000 in
theorem gfX11_19_11 : LFr RX11 19 11 1 := ⟨_, fX11_19_11, rfl⟩
set_option maxRecDepth 20000 in
theorem pfX11_19_11 : LPr RX11 "<init>" 19 11 1 := ⟨_, ⟨fX11_19_11, Or.inr ⟨rfl, rfl, rfl⟩⟩, rfl⟩
set_option maxRecDepth 20000 in
theorem fX11_26_11 : LF RX11 26 11 2 ((RX11, TX11, 14), tyX11) := ⟨rfl, aok_11, by decide, RX11, inD2 (i := 79) rfl, Or.inl rfl⟩
set_option maxRecDepth 20000 in
theorem gfX11_26_11 : LFr RX11 26 11 2 := ⟨_, fX11_26_11, rfl⟩
set_option maxRecDepth 20000 in
theorem pfX11_26_11 : LPr RX11 "<init>" 26 11 2 := ⟨_, ⟨fX11_26_11, Or.inr ⟨rfl, rfl, rfl⟩⟩, rfl⟩
set_option maxRecDepth 20000 in
theorem fX11_30_11 : LF RX11 30 11 3 ((RX11, TX11, 14), tyX11) := ⟨rfl, aok_11, by decide, RX11, inD2 (i := 80) rfl, Or.inl rfl⟩
set_option maxRecDepth 20000 in
theorem gfX11_30_11 : LFi RX11 30 11 3 := ⟨_, fX11_30_11, rfl⟩
set_option maxRecDepth 20000 in
theorem pfX11_30_11 {nm : String} : LPi RX11 nm 30 11 3 := ⟨_, ⟨fX11_30_11, Or.inl rfl⟩, rfl⟩
set_option maxRecDepth 20000 in
theorem fX11_37_11 : LF RX11 37 11 4 ((RX11, TX11, 14), tyX11) := ⟨rfl, aok_11, by decide, RX11, inD2 (i := 81) rfl, Or.inl rfl⟩
set_option maxRecDepth 20000 in
theorem gfX11_37_11 : LFr RX11 37 11 4 := ⟨_, fX11_37_11, rfl⟩
set_option maxRecDepth 20000 in
theorem pfX11_37_11 : LPr RX11 "<init>" 37 11 4 := ⟨_, ⟨fX11_37_11, Or.inr ⟨rfl, rfl, rfl⟩⟩, rfl⟩
set_option maxRecDepth 20000 in
theorem fX11_44_11 : LF RX11 44 11 5 ((RX11, TX11, 14), tyX11) := ⟨rfl, aok_11, by decide, RX11, inD2 (i := 82) rfl, Or.inl rfl⟩
set_option maxRecDepth 20000 in
theorem gfX11_44_11 : LFr RX11 44 11 5 := ⟨_, fX11_44_11, rfl⟩
set_option maxRecDepth 20000 in
theorem pfX11_44_11 : LPr RX11 "<init>" 44 11 5 := ⟨_, ⟨fX11_44_11, Or.inr ⟨rfl, rfl, rfl⟩⟩, rfl⟩
set_option maxRecDepth 20000 in
theorem fX11_51_11 : LF RX11 51 11 6 ((RX11, TX11, 14), tyX11) := ⟨rfl, aok_11, by decide, RX11, inD2 (i := 83) rfl, Or.inl rfl⟩
set_option maxRecDepth 20000 in
theorem gfX11_51_11 : LFr RX11 51 11 6 := ⟨_, fX11_51_11, rfl⟩
set_option maxRecDepth 20000 in
theorem pfX11_51_11 : LPr RX11 "<init>" 51 11 6 := ⟨_, ⟨fX11_51_11, Or.inr ⟨rfl, rfl, rfl⟩⟩, rfl⟩
set_option maxRecDepth 20000 in
theorem fX11_55_11 : LF RX11 55 11 7 ((RX11, TX11, 14), tyX11) := ⟨rfl, aok_11, by decide, RX11, inD2 (i := 84) rfl, Or.inl rfl⟩
set_option maxRecDepth 20000 in
theorem gfX11_55_11 : LFr RX11 55 11 7 := ⟨_, fX11_55_11, rfl⟩
set_option maxRecDepth 20000 in
theorem pfX11_55_11 : LPr RX11 "<init>" 55 11 7 := ⟨_, ⟨fX11_55_11, Or.inr ⟨rfl, rfl, rfl⟩⟩, rfl⟩
set_option maxRecDepth 20000 in
theorem fX11_58_11 : LF RX11 58 11 8 ((RX11, TX11, 14), tyX11) := ⟨rfl, aok_11, by decide, RX11, inD2 (i := 85) rfl, Or.inl rfl⟩
set_option maxRecDepth 20000 in
theorem gfX11_58_11 : LFr RX11 58 11 8 := ⟨_, fX11_58_11, rfl⟩
set_option maxRecDepth 20000 in
theorem pfX11_58_11 : LPr RX11 "<init>" 58 11 8 := ⟨_, ⟨fX11_58_11, Or.inr ⟨rfl, rfl, rfl⟩⟩, rfl⟩
set_option maxRecDepth 20000 in
theorem fX11_61_11 : LF RX11 61 11 9 ((RX11, TX11, 14), tyX11) := ⟨rfl, aok_11, by decide, RX11, inD2 (i := 86) rfl, Or.inl rfl⟩
set_option maxRecDepth 20000 in
theorem gfX11_61_11 : LFr RX11 61 11 9 := ⟨_, fX11_61_11, rfl⟩
set_option maxRecDepth 20000 in
theorem pfX11_61_11 : LPr RX11 "<init>" 61 11 9 := ⟨_, ⟨fX11_61_11, Or.inr ⟨rfl, rfl, rfl⟩⟩, rfl⟩
set_option maxRecDepth 20000 in
theorem fX11_64_11 : LF RX11 64 11 11 ((RX11, TX11, 14), tyX11) := ⟨rfl, aok_11, by decide, RX11, inD2 (i := 88) rfl, Or.inl rfl⟩
set_option maxRecDepth 20000 in
theorem gfX11_64_11 : LFr RX11 64 11 11 := ⟨_, fX11_64_11, rfl⟩
set_option maxRecDepth 20000 in
theorem pfX11_64_11 : LPr RX11 "<init>" 64 11 11 := ⟨_, ⟨fX11_64_11, Or.inr ⟨rfl, rfl, rfl⟩⟩, rfl⟩
set_option maxRecDepth 20000 in
theorem fX11_68_7 : LF RX11 68 7 1 ((RX7, TX7, 2), tyX7) := ⟨rfl, aok_7, by decide, RX7, inD1 (i := 45) rfl, Or.inl rfl⟩
set_option maxRecDepth 20000 in
theorem gfX11_68_7 : LFi RX11 68 7 1 := ⟨_, fX11_68_7, rfl⟩
set_option maxRecDepth 20000 in
theorem pfX11_68_7 {nm : String} : LPi RX11 nm 68 7 1 := ⟨_, ⟨fX11_68_7, Or.inl rfl⟩, rfl⟩
set_option maxRecDepth 20000 in
theorem fX11_75_6 : LF RX11 75 6 2 ((RX6, TX6, 3), tyX6) := ⟨rfl, aok_6, by decide, RX6, inD1 (i := 228) rfl, Or.inl rfl⟩
set_option maxRecDepth 20000 in
theorem gfX11_75_6 : LFr RX11 75 6 2 := ⟨_, fX11_75_6, rfl⟩
set_option maxRecDepth 20000 in
theorem fX11_89_5 : LF RX11 89 5 16 ((RX5, TX5, 18), tyX5) := ⟨rfl, aok_5, by decide, RX5, inD1 (i := 187) rfl, Or.inl rfl⟩
set_option maxRecDepth 20000 in
theorem gfX11_89_5 : LFi RX11 89 5 16 := ⟨_, fX11_89_5, rfl⟩
set_option maxRecDepth 20000 in
theorem pfX11_89_5 {nm : String} : LPi RX11 nm 89 5 16 := ⟨_, ⟨fX11_89_5, Or.inl rfl⟩, rfl⟩
set_option maxRecDepth 20000 in
theorem fX11_95_11 : LF RX11 95 11 13 ((RX11, TX11, 14), tyX11) := ⟨rfl, aok_11, by decide, RX11, inD2 (i := 90) rfl, Or.inl rfl⟩
set_option maxRecDepth 20000 in
theorem gfX11_95_11 : LFi RX11 95 11 13 := ⟨_, fX11_95_11, rfl⟩
set_option maxRecDepth 20000 in
theorem pfX11_95_11 {nm : String} : LPi RX11 nm 95 11 13 := ⟨_, ⟨fX11_95_11, Or.inl rfl⟩, rfl⟩
set_option maxRecDepth 20000 in
theorem fX11_98_3 : LF RX11 98 3 2 ((RX3, TX3, 6), tyX3) := ⟨rfl, aok_3, by decide, RX3, inD2 (i := 44) rfl, Or.inl rfl⟩
set_option maxRecDepth 20000 in
theorem gfX11_98_3 : LFr RX11 98 3 2 := ⟨_, fX11_98_3, rfl⟩
set_option maxRecDepth 20000 in
theorem fX11_107_2 : LF RX11 107 2 0 ((RX2, TX2, 9), tyX2) := ⟨rfl, aok_2, by decide, RX2, inD2 (i := 15) rfl, Or.inl rfl⟩
set_option maxRecDepth 20000 in
theorem gfX11_107_2 : LFi RX11 107 2 0 := ⟨_, fX11_107_2, rfl⟩
set_option maxRecDepth 20000 in
theorem fX11_113_5 : LF RX11 113 5 1 ((RX5, TX5, 18), tyX5) := ⟨rfl, aok_5, by decide, RX5, inD1 (i := 135) rfl, Or.inl rfl⟩
set_option maxRecDepth 20000 in
theorem gfX11_113_5 : LFr RX11 113 5 1 := ⟨_, fX11_113_5, rfl⟩
set_option maxRecDepth 20000 in
theorem fX11_121_5 : LF RX11 121 5 2 ((RX5, TX5, 18), tyX5) := ⟨rfl, aok_5, by decide, RX5, inD1 (i := 139) rfl, Or.inl rfl⟩
set_option maxRecDepth 20000 in
theorem gfX11_121_5 : LFr RX11 121 5 2 := ⟨_, fX11_121_5, rfl⟩
set_option maxRecDepth 20000 in
theorem fX11_144_5 : LF RX11 144 5 4 ((RX5, TX5, 18), tyX5) := ⟨rfl, aok_5, by decide, RX5, inD1 (i := 148) rfl, Or.inl rfl⟩
set_option maxRecDepth 20000 in
theorem gfX11_144_5 : LFr RX11 144 5 4 := ⟨_, fX11_144_5, rfl⟩
set_option maxRecDepth 20000 in
theorem fX11_147_5 : LF RX11 147 5 5 ((RX5, TX5, 18), tyX5) := ⟨rfl, aok_5, by decide, RX5, inD1 (i := 153) rfl, Or.inl rfl⟩
set_option maxRecDepth 20000 in
theorem gfX11_147_5 : LFr RX11 147 5 5 := ⟨_, fX11_147_5, rfl⟩
set_option maxRecDepth 20000 in
theorem fX11_150_5 : LF RX11 150 5 6 ((RX5, TX5, 18), tyX5) := ⟨rfl, aok_5, by decide, RX5, inD1 (i := 157) rfl, Or.inl rfl⟩
set_option maxRecDepth 20000 in
theorem gfX11_150_5 : LFr RX11 150 5 6 := ⟨_, fX11_150_5, rfl⟩
set_option maxRecDepth 20000 in
theorem fX11_153_5 : LF RX11 153 5 7 ((RX5, TX5, 18), tyX5) := ⟨rfl, aok_5, by decide, RX5, inD1 (i := 159) rfl, Or.inl rfl⟩
set_option maxRecDepth 20000 in
theorem gfX11_153_5 : LFr RX11 153 5 7 := ⟨_, fX11_153_5, rfl⟩
set_option maxRecDepth 20000 in
theorem fX11_156_5 : LF RX11 156 5 8 ((RX5, TX5, 18), tyX5) := ⟨rfl, aok_5, by decide, RX5, inD1 (i := 164) rfl, Or.inl rfl⟩
set_option maxRecDepth 20000 in
theorem gfX11_156_5 : LFr RX11 156 5 8 := ⟨_, fX11_156_5, rfl⟩
set_option maxRecDepth 20000 in
theorem fX11_159_5 : LF RX11 159 5 9 ((RX5, TX5, 18), tyX5) := ⟨rfl, aok_5, by decide, RX5, inD1 (i := 167) rfl, Or.inl rfl⟩
set_option maxRecDepth 20000 in
theorem gfX11_159_5 : LFr RX11 159 5 9 := ⟨_, fX11_159_5, rfl⟩
set_option maxRecDepth 20000 in
theorem fX11_179_5 : LF RX11 179 5 0 ((RX5, TX5, 18), tyX5) := ⟨rfl, aok_5, by decide, RX5, inD1 (i := 133) rfl, Or.inl rfl⟩
set_option maxRecDepth 20000 in
theorem gfX11_179_5 : LFi RX11 179 5 0 := ⟨_, fX11_179_5, rfl⟩
set_option maxRecDepth 20000 in
theorem fX11_182_5 : LF RX11 182 5 3 ((RX5, TX5, 18), tyX5) := ⟨rfl, aok_5, by decide, RX5, inD1 (i := 145) rfl, Or.inl rfl⟩
set_option maxRecDepth 20000 in
theorem gfX11_182_5 : LFi RX11 182 5 3 := ⟨_, fX11_182_5, rfl⟩
set_option maxRecDepth 20000 in
theorem fX11_185_5 : LF RX11 185 5 10 ((RX5, TX5, 18), tyX5) := ⟨rfl, aok_5, by decide, RX5, inD1 (i := 170) rfl, Or.inl rfl⟩
set_option maxRecDepth 20000 in
theorem gfX11_185_5 : LFi RX11 185 5 10 := ⟨_, fX11_185_5, rfl⟩
set_option maxRecDepth 20000 in
theorem fX11_188_5 : LF RX11 188 5 11 ((RX5, TX5, 18), tyX5) := ⟨rfl, aok_5, by decide, RX5, inD1 (i := 174) rfl, Or.inl rfl⟩
set_option maxRecDepth 20000 in
theorem gfX11_188_5 : LFi RX11 188 5 11 := ⟨_, fX11_188_5, rfl⟩
set_option maxRecDepth 20000 in
theorem fX11_191_5 : LF RX11 191 5 12 ((RX5, TX5, 18), tyX5) := ⟨rfl, aok_5, by decide, RX5, inD1 (i := 177) rfl, Or.inl rfl⟩
set_option maxRecDepth 20000 in
theorem gfX11_191_5 : LFi RX11 191 5 12 := ⟨_, fX11_191_5, rfl⟩
set_option maxRecDepth 20000 in
theorem fX11_194_5 : LF RX11 194 5 13 ((RX5, TX5, 18), tyX5) := ⟨rfl, aok_5, by decide, RX5, inD1 (i := 180) rfl, Or.inl rfl⟩
set_option maxRecDepth 20000 in
theorem gfX11_194_5 : LFi RX11 194 5 13 := ⟨_, fX11_194_5, rfl⟩
set_option maxRecDepth 20000 in
theorem fX11_197_5 : LF RX11 197 5 14 ((RX5, TX5, 18), tyX5) := ⟨rfl, aok_5, by decide, RX5, inD1 (i := 183) rfl, Or.inl rfl⟩
set_option maxRecDepth 20000 in
theorem gfX11_197_5 : LFi RX11 197 5 14 := ⟨_, fX11_197_5, rfl⟩
set_option maxRecDepth 20000 in
theorem fX11_211_5 : LF RX11 211 5 17 ((RX5, TX5, 18), tyX5) := ⟨rfl, aok_5, by decide, RX5, inD1 (i := 189) rfl, Or.inl rfl⟩
set_option maxRecDepth 20000 in
theorem gfX11_211_5 : LFr RX11 211 5 17 := ⟨_, fX11_211_5, rfl⟩
set_option maxRecDepth 20000 in
theorem fX11_215_1 : LF RX11 215 1 0 ((RX1, TX1, 3), tyX1) := ⟨rfl, aok_1, by decide, RX1, inD1 (i := 121) rfl, Or.inl rfl⟩
set_option maxRecDepth 20000 in
theorem gfX11_215_1 : LFi RX11 215 1 0 := ⟨_, fX11_215_1, rfl⟩
set_option maxRecDepth 20000 in
theorem fX11_353_5 : LF RX11 353 5 15 ((RX5, TX5, 18), tyX5) := ⟨rfl, aok_5, by decide, RX5, inD1 (i := 185) rfl, Or.inl rfl⟩
set_option maxRecDepth 20000 in
theorem gfX11_353_5 : LFi RX11 353 5 15 := ⟨_, fX11_353_5, rfl⟩
set_option maxRecDepth 20000 in
theorem pfX11_353_5 {nm : String} : LPi RX11 nm 353 5 15 := ⟨_, ⟨fX11_353_5, Or.inl rfl⟩, rfl⟩
set_option maxRecDepth 20000 in
theorem fX11_368_11 : LF RX11 368 11 12 ((RX11, TX11, 14), tyX11) := ⟨rfl, aok_11, by decide, RX11, inD2 (i := 89) rfl, Or.inl rfl⟩
set_option maxRecDepth 20000 in
theorem gfX11_368_11 : LFi RX11 368 11 12 := ⟨_, fX11_368_11, rfl⟩
set_option maxRecDepth 20000 in
theorem pfX11_368_11 {nm : String} : LPi RX11 nm 368 11 12 := ⟨_, ⟨fX11_368_11, Or.inl rfl⟩, rfl⟩
set_option maxRecDepth 20000 in
theorem fX11_378_11 : LF RX11 378 11 10 ((RX11, TX11, 14), tyX11) := ⟨rfl, aok_11, by decide, RX11, inD2 (i := 87) rfl, Or.inl rfl⟩
set_option maxRecDepth 20000 in
theorem gfX11_378_11 : LFi RX11 378 11 10 := ⟨_, fX11_378_11, rfl⟩
set_option maxRecDepth 20000 in
theorem pfX11_378_11 {nm : String} : LPz RX11 nm 378 11 10 := ⟨_, ⟨fX11_378_11, Or.inl rfl⟩, rfl⟩
set_option maxRecDepth 20000 in
theorem fX0_9_0 : LF RX0 9 0 0 ((RX0, TX0, 2), tyX0) := ⟨rfl, aok_0, by decide, RX0, inD2 (i := 69) rfl, Or.inl rfl⟩
set_option maxRecDepth 20000 in
theorem gfX0_9_0 : LFr RX0 9 0 0 := ⟨_, fX0_9_0, rfl⟩
set_option maxRecDepth 20000 in
theorem pfX0_9_0 : LPr RX0 "<init>" 9 0 0 := ⟨_, ⟨fX0_9_0, Or.inr ⟨rfl, rfl, rfl⟩⟩, rfl⟩
set_option maxRecDepth 20000 in
theorem fX0_15_0 : LF RX0 15 0 1 ((RX0, TX0, 2), tyX0) := ⟨rfl, aok_0, by decide, RX0, inD2 (i := 70) rfl, Or.inl rfl⟩
set_option maxRecDepth 20000 in
theorem gfX0_15_0 : LFr RX0 15 0 1 := ⟨_, fX0_15_0, rfl⟩
set_option maxRecDepth 20000 in
theorem pfX0_15_0 : LPr RX0 "<init>" 15 0 1 := ⟨_, ⟨fX0_15_0, Or.inr ⟨rfl, rfl, rfl⟩⟩, rfl⟩
set_option maxRecDepth 20000 in
theorem fX0_24_5 : LF RX0 24 5 3 ((RX5, TX5, 18), tyX5) := ⟨rfl, aok_5, by decide, RX5, inD1 (i := 140) rfl, Or.inl rfl⟩
set_option maxRecDepth 20000 in
theorem gfX0_24_5 : LFi RX0 24 5 3 := ⟨_, fX0_24_5, rfl⟩
set_option maxRecDepth 20000 in
theorem fX0_49_5 : LF RX0 49 5 4 ((RX5, TX5, 18), tyX5) := ⟨rfl, aok_5, by decide, RX5, inD1 (i := 147) rfl, Or.inl rfl⟩
set_option maxRecDepth 20000 in
theorem gfX0_49_5 : LFr RX0 49 5 4 := ⟨_, fX0_49_5, rfl⟩
set_option maxRecDepth 20000 in
theorem fX0_68_5 : LF RX0 68 5 5 ((RX5, TX5, 18), tyX5) := ⟨rfl, aok_5, by decide, RX5, inD1 (i := 151) rfl, Or.inl rfl⟩
set_option maxRecDepth 20000 in
theorem gfX0_68_5 : LFr RX0 68 5 5 := ⟨_, fX0_68_5, rfl⟩
set_option maxRecDepth 20000 in
theorem fX0_81_5 : LF RX0 81 5 8 ((RX5, TX5, 18), tyX5) := ⟨rfl, aok_5, by decide, RX5, inD1 (i := 163) rfl, Or.inl rfl⟩
set_option maxRecDepth 20000 in
theorem gfX0_81_5 : LFr RX0 81 5 8 := ⟨_, fX0_81_5, rfl⟩
set_option maxRecDepth 20000 in
theorem fX0_94_5 : LF RX0 94 5 2 ((RX5, TX5, 18), tyX5) := ⟨rfl, aok_5, by decide, RX5, inD1 (i := 138) rfl, Or.inl rfl⟩
set_option maxRecDepth 20000 in
theorem gfX0_94_5 : LFr RX0 94 5 2 := ⟨_, fX0_94_5, rfl⟩
set_option maxRecDepth 20000 in
theorem fX1_11_1 : LF RX1 11 1 2 ((RX1, TX1, 3), tyX1) := ⟨rfl, aok_1, by decide, RX1, inD1 (i := 123) rfl, Or.inl rfl⟩
set_option maxRecDepth 20000 in
theorem gfX1_11_1 : LFr RX1 11 1 2 := ⟨_, fX1_11_1, rfl⟩
set_option maxRecDepth 20000 in
theorem pfX1_11_1 : LPr RX1 "<init>" 11 1 2 := ⟨_, ⟨fX1_11_1, Or.inr ⟨rfl, rfl, rfl⟩⟩, rfl⟩
set_option maxRecDepth 20000 in
theorem fX1_15_1 : LF RX1 15 1 0 ((RX1, TX1, 3), tyX1) := ⟨rfl, aok_1, by decide, RX1, inD1 (i := 120) rfl, Or.inl rfl⟩
set_option maxRecDepth 20000 in
theorem gfX1_15_1 : LFi RX1 15 1 0 := ⟨_, fX1_15_1, rfl⟩
set_option maxRecDepth 20000 in
theorem pfX1_15_1 {nm : String} : LPi RX1 nm 15 1 0 := ⟨_, ⟨fX1_15_1, Or.inl rfl⟩, rfl⟩
set_option maxRecDepth 20000 in
theorem fX1_19_1 : LF RX1 19 1 1 ((RX1, TX1, 3), tyX1) := ⟨rfl, aok_1, by decide, RX1, inD1 (i := 122) rfl, Or.inl rfl⟩
set_option maxRecDepth 20000 in
theorem gfX1_19_1 : LFi RX1 19 1 1 := ⟨_, fX1_19_1, rfl⟩
set_option maxRecDepth 20000 in
theorem pfX1_19_1 {nm : String} : LPi RX1 nm 19 1 1 := ⟨_, ⟨fX1_19_1, Or.inl rfl⟩, rfl⟩
set_option maxRecDepth 20000 in
theorem fX2_11_2 : LF RX2 11 2 0 ((RX2, TX2, 9), tyX2) := ⟨rfl, aok_2, by decide, RX2, inD2 (i := 14) rfl, Or.inl rfl⟩
set_option maxRecDepth 20000 in
theorem gfX2_11_2 : LFi RX2 11 2 0 := ⟨_, fX2_11_2, rfl⟩
set_option maxRecDepth 20000 in
theorem pfX2_11_2 {nm : String} : LPi RX2 nm 11 2 0 := ⟨_, ⟨fX2_11_2, Or.inl rfl⟩, rfl⟩
set_option maxRecDepth 20000 in
theorem fX2_15_2 : LF RX2 15 2 2 ((RX2, TX2, 9), tyX2) := ⟨rfl, aok_2, by decide, RX2, inD2 (i := 17) rfl, Or.inl rfl⟩
set_option maxRecDepth 20000 in
theorem gfX2_15_2 : LFr RX2 15 2 2 := ⟨_, fX2_15_2, rfl⟩
set_option maxRecDepth 20000 in
theorem pfX2_15_2 : LPr RX2 "<init>" 15 2 2 := ⟨_, ⟨fX2_15_2, Or.inr ⟨rfl, rfl, rfl⟩⟩, rfl⟩
set_option maxRecDepth 20000 in
theorem fX2_19_2 : LF RX2 19 2 3 ((RX2, TX2, 9), tyX2) := ⟨rfl, aok_2, by decide, RX2, inD2 (i := 18) rfl, Or.inl rfl⟩
set_option maxRecDepth 20000 in
theorem gfX2_19_2 : LFr RX2 19 2 3 := ⟨_, fX2_19_2, rfl⟩
set_option maxRecDepth 20000 in
theorem pfX2_19_2 : LPr RX2 "<init>" 19 2 3 := ⟨_, ⟨fX2_19_2, Or.inr ⟨rfl, rfl, rfl⟩⟩, rfl⟩
set_option maxRecDepth 20000 in
theorem fX2_22_2 : LF RX2 22 2 4 ((RX2, TX2, 9), tyX2) := ⟨rfl, aok_2, by decide, RX2, inD2 (i := 19) rfl, Or.inl rfl⟩
set_option maxRecDepth 20000 in
theorem gfX2_22_2 : LFr RX2 22 2 4 := ⟨_, fX2_22_2, rfl⟩
set_option maxRecDepth 20000 in
theorem pfX2_22_2 : LPr RX2 "<init>" 22 2 4 := ⟨_, ⟨fX2_22_2, Or.inr ⟨rfl, rfl, rfl⟩⟩, rfl⟩
set_option maxRecDepth 20000 in
theorem fX2_25_2 : LF RX2 25 2 5 ((RX2, TX2, 9), tyX2) := ⟨rfl, aok_2, by decide, RX2, inD2 (i := 20) rfl, Or.inl rfl⟩
set_option maxRecDepth 20000 in
theorem gfX2_25_2 : LFr RX2 25 2 5 := ⟨_, fX2_25_2, rfl⟩
set_option maxRecDepth 20000 in
theorem pfX2_25_2 : LPr RX2 "<init>" 25 2 5 := ⟨_, ⟨fX2_25_2, Or.inr ⟨rfl, rfl, rfl⟩⟩, rfl⟩
set_option maxRecDepth 20000 in
theorem fX2_28_2 : LF RX2 28 2 6 ((RX2, TX2, 9), tyX2) := ⟨rfl, aok_2, by decide, RX2, inD2 (i := 21) rfl, Or.inl rfl⟩
set_option maxRecDepth 20000 in
theorem gfX2_28_2 : LFr RX2 28 2 6 := ⟨_, fX2_28_2, rfl⟩
set_option maxRecDepth 20000 in
theorem pfX2_28_2 : LPr RX2 "<init>" 28 2 6 := ⟨_, ⟨fX2_28_2, Or.inr ⟨rfl, rfl, rfl⟩⟩, rfl⟩
set_option maxRecDepth 20000 in
theorem fX2_31_2 : LF RX2 31 2 7 ((RX2, TX2, 9), tyX2) := ⟨rfl, aok_2, by decide, RX2, inD2 (i := 22) rfl, Or.inl rfl⟩
set_option maxRecDepth 20000 in
theorem gfX2_31_2 : LFr RX2 31 2 7 := ⟨_, fX2_31_2, rfl⟩
set_option maxRecDepth 20000 in
theorem pfX2_31_2 : LPr RX2 "<init>" 31 2 7 := ⟨_, ⟨fX2_31_2, Or.inr ⟨rfl, rfl, rfl⟩⟩, rfl⟩
set_option maxRecDepth 20000 in
theorem fX2_34_2 : LF RX2 34 2 8 ((RX2, TX2, 9), tyX2) := ⟨rfl, aok_2, by decide, RX2, inD2 (i := 23) rfl, Or.inl rfl⟩
set_option maxRecDepth 20000 in
theorem gfX2_34_2 : LFr RX2 34 2 8 := ⟨_, fX2_34_2, rfl⟩
set_option maxRecDepth 20000 in
theorem pfX2_34_2 : LPr RX2 "<init>" 34 2 8 := ⟨_, ⟨fX2_34_2, Or.inr ⟨rfl, rfl, rfl⟩⟩, rfl⟩
set_option maxRecDepth 20000 in
theorem fX2_41_2 : LF RX2 41 2 1 ((RX2, TX2, 9), tyX2) := ⟨rfl, aok_2, by decide, RX2, inD2 (i := 16) rfl, Or.inl rfl⟩
set_option maxRecDepth 20000 in
theorem gfX2_41_2 : LFi RX2 41 2 1 := ⟨_, fX2_41_2, rfl⟩
set_option maxRecDepth 20000 in
theorem pfX2_41_2 {nm : String} : LPi RX2 nm 41 2 1 := ⟨_, ⟨fX2_41_2, Or.inl rfl⟩, rfl⟩
set_option maxRecDepth 20000 in
theorem fX2_56_5 : LF RX2 56 5 6 ((RX5, TX5, 18), tyX5) := ⟨rfl, aok_5, by decide, RX5, inD1 (i := 156) rfl, Or.inl rfl⟩
set_option maxRecDepth 20000 in
theorem gfX2_56_5 : LFr RX2 56 5 6 := ⟨_, fX2_56_5, rfl⟩
set_option maxRecDepth 20000 in
theorem fX2_71_5 : LF RX2 71 5 3 ((RX5, TX5, 18), tyX5) := ⟨rfl, aok_5, by decide, RX5, inD1 (i := 144) rfl, Or.inl rfl⟩
set_option maxRecDepth 20000 in
theorem gfX2_71_5 : LFi RX2 71 5 3 := ⟨_, fX2_71_5, rfl⟩
set_option maxRecDepth 20000 in
theorem fX2_82_5 : LF RX2 82 5 7 ((RX5, TX5, 18), tyX5) := ⟨rfl, aok_5, by decide, RX5, inD1 (i := 160) rfl, Or.inl rfl⟩
set_option maxRecDepth 20000 in
theorem gfX2_82_5 : LFr RX2 82 5 7 := ⟨_, fX2_82_5, rfl⟩
set_option maxRecDepth 20000 in
theorem fX2_85_5 : LF RX2 85 5 4 ((RX5, TX5, 18), tyX5) := ⟨rfl, aok_5, by decide, RX5, inD1 (i := 149) rfl, Or.inl rfl⟩
set_option maxRecDepth 20000 in
theorem gfX2_85_5 : LFr RX2 85 5 4 := ⟨_, fX2_85_5, rfl⟩
set_option maxRecDepth 20000 in
theorem fX2_92_5 : LF RX2 92 5 5 ((RX5, TX5, 18), tyX5) := ⟨rfl, aok_5, by decide, RX5, inD1 (i := 154) rfl, Or.inl rfl⟩
set_option maxRecDepth 20000 in
theorem gfX2_92_5 : LFr RX2 92 5 5 := ⟨_, fX2_92_5, rfl⟩
set_option maxRecDepth 20000 in
theorem fX2_95_5 : LF RX2 95 5 1 ((RX5, TX5, 18), tyX5) := ⟨rfl, aok_5, by decide, RX5, inD1 (i := 136) rfl, Or.inl rfl⟩
set_option maxRecDepth 20000 in
theorem gfX2_95_5 : LFr RX2 95 5 1 := ⟨_, fX2_95_5, rfl⟩
set_option maxRecDepth 20000 in
theorem fX2_98_5 : LF RX2 98 5 10 ((RX5, TX5, 18), tyX5) := ⟨rfl, aok_5, by decide, RX5, inD1 (i := 171) rfl, Or.inl rfl⟩
set_option maxRecDepth 20000 in
theorem gfX2_98_5 : LFi RX2 98 5 10 := ⟨_, fX2_98_5, rfl⟩
set_option maxRecDepth 20000 in
theorem fX3_14_3 : LF RX3 14 3 2 ((RX3, TX3, 6), tyX3) := ⟨rfl, aok_3, by decide, RX3, inD2 (i := 43) rfl, Or.inl rfl⟩
set_option maxRecDepth 20000 in
theorem gfX3_14_3 : LFr RX3 14 3 2 := ⟨_, fX3_14_3, rfl⟩
set_option maxRecDepth 20000 in
theorem pfX3_14_3 : LPr RX3 "<init>" 14 3 2 := ⟨_, ⟨fX3_14_3, Or.inr ⟨rfl, rfl, rfl⟩⟩, rfl⟩
set_option maxRecDepth 20000 in
theorem fX3_20_3 : LF RX3 20 3 3 ((RX3, TX3, 6), tyX3) := ⟨rfl, aok_3, by decide, RX3, inD2 (i := 45) rfl, Or.inl rfl⟩
set_option maxRecDepth 20000 in
theorem gfX3_20_3 : LFr RX3 20 3 3 := ⟨_, fX3_20_3, rfl⟩
set_option maxRecDepth 20000 in
theorem pfX3_20_3 : LPr RX3 "<init>" 20 3 3 := ⟨_, ⟨fX3_20_3, Or.inr ⟨rfl, rfl, rfl⟩⟩, rfl⟩
set_option maxRecDepth 20000 in
theorem fX3_28_3 : LF RX3 28 3 0 ((RX3, TX3, 6), tyX3) := ⟨rfl, aok_3, by decide, RX3, inD1 (i := 232) rfl, Or.inr (inD1 (i := 233) rfl)⟩
set_option maxRecDepth 20000 in
theorem gfX3_28_3 : LFr RX3 28 3 0 := ⟨_, fX3_28_3, rfl⟩
set_option maxRecDepth 20000 in
theorem wX3_42 : inT (.fieldLink RX3 42 "PutOffParade$Word" "IF" "LPutOffParade$Word;") := (inC4 (i := 95) rfl rfl)
set_option maxRecDepth 20000 in
theorem wX3_59 : inT (.fieldLink RX3 59 "PutOffParade$Word" "GROW" "LPutOffParade$Word;") := (inC4 (i := 77) rfl rfl)
set_option maxRecDepth 20000 in
theorem wX3_62 : inT (.fieldLink RX3 62 "PutOffParade$Word" "SHAME" "LPutOffParade$Word;") := (inC4 (i := 83) rfl rfl)
set_option maxRecDepth 20000 in
theorem wX3_65 : inT (.fieldLink RX3 65 "PutOffParade$Word" "EASE" "LPutOffParade$Word;") := (inC4 (i := 85) rfl rfl)
set_option maxRecDepth 20000 in
theorem fX3_68_3 : LF RX3 68 3 4 ((RX3, TX3, 6), tyX3) := ⟨rfl, aok_3, by decide, RX3, inD2 (i := 46) rfl, Or.inl rfl⟩
set_option maxRecDepth 20000 in
theorem gfX3_68_3 : LFi RX3 68 3 4 := ⟨_, fX3_68_3, rfl⟩
set_option maxRecDepth 20000 in
theorem pfX3_68_3 {nm : String} : LPi RX3 nm 68 3 4 := ⟨_, ⟨fX3_68_3, Or.inl rfl⟩, rfl⟩
set_option maxRecDepth 20000 in
theorem fX3_72_3 : LF RX3 72 3 5 ((RX3, TX3, 6), tyX3) := ⟨rfl, aok_3, by decide, RX3, inD2 (i := 47) rfl, Or.inl rfl⟩
set_option maxRecDepth 20000 in
theorem gfX3_72_3 : LFi RX3 72 3 5 := ⟨_, fX3_72_3, rfl⟩
set_option maxRecDepth 20000 in
theorem pfX3_72_3 {nm : String} : LPi RX3 nm 72 3 5 := ⟨_, ⟨fX3_72_3, Or.inl rfl⟩, rfl⟩
set_option maxRecDepth 20000 in
theorem fX3_96_9 : LF RX3 96 9 9 ((RX9, TX9, 10), tyX9) := ⟨rfl, aok_9, by decide, RX9, inD1 (i := 84) rfl, Or.inl rfl⟩
set_option maxRecDepth 20000 in
theorem gfX3_96_9 : LFr RX3 96 9 9 := ⟨_, fX3_96_9, rfl⟩
set_option maxRecDepth 20000 in
theorem wX3_99 : inT (.fieldLink RX3 99 "PutOffParade$Word" "AND" "LPutOffParade$Word;") := (inC4 (i := 155) rfl rfl)
set_option maxRecDepth 20000 in
theorem wX3_102 : inT (.fieldLink RX3 102 "PutOffParade$Word" "OR" "LPutOffParade$Word;") := (inC4 (i := 157) rfl rfl)
set_option maxRecDepth 20000 in
theorem wX3_105 : inT (.fieldLink RX3 105 "PutOffParade$Word" "NOT" "LPutOffParade$Word;") := (inC4 (i := 105) rfl rfl)
set_option maxRecDepth 20000 in
theorem wX3_123 : inT (.fieldLink RX3 123 "PutOffParade$Word" "READY" "LPutOffParade$Word;") := (inC4 (i := 121) rfl rfl)
set_option maxRecDepth 20000 in
theorem wX3_126 : inT (.fieldLink RX3 126 "PutOffParade$Word" "OLD" "LPutOffParade$Word;") := (inC4 (i := 127) rfl rfl)
set_option maxRecDepth 20000 in
theorem fX3_138_9 : LF RX3 138 9 6 ((RX9, TX9, 10), tyX9) := ⟨rfl, aok_9, by decide, RX9, inD1 (i := 77) rfl, Or.inl rfl⟩
set_option maxRecDepth 20000 in
theorem gfX3_138_9 : LFi RX3 138 9 6 := ⟨_, fX3_138_9, rfl⟩
set_option maxRecDepth 20000 in
theorem fX3_141_9 : LF RX3 141 9 8 ((RX9, TX9, 10), tyX9) := ⟨rfl, aok_9, by decide, RX9, inD1 (i := 82) rfl, Or.inl rfl⟩
set_option maxRecDepth 20000 in
theorem gfX3_141_9 : LFi RX3 141 9 8 := ⟨_, fX3_141_9, rfl⟩
set_option maxRecDepth 20000 in
theorem wX3_144 : inT (.fieldLink RX3 144 "PutOffParade$Word" "part" "I") := (inC10 (i := 53) rfl rfl)
set_option maxRecDepth 20000 in
theorem fX4_9_5 : LF RX4 9 5 8 ((RX5, TX5, 18), tyX5) := ⟨rfl, aok_5, by decide, RX5, inD1 (i := 162) rfl, Or.inl rfl⟩
set_option maxRecDepth 20000 in
theorem gfX4_9_5 : LFr RX4 9 5 8 := ⟨_, fX4_9_5, rfl⟩
set_option maxRecDepth 20000 in
theorem fX4_23_5 : LF RX4 23 5 3 ((RX5, TX5, 18), tyX5) := ⟨rfl, aok_5, by decide, RX5, inD1 (i := 143) rfl, Or.inl rfl⟩
set_option maxRecDepth 20000 in
theorem gfX4_23_5 : LFi RX4 23 5 3 := ⟨_, fX4_23_5, rfl⟩
set_option maxRecDepth 20000 in
theorem fX4_54_5 : LF RX4 54 5 5 ((RX5, TX5, 18), tyX5) := ⟨rfl, aok_5, by decide, RX5, inD1 (i := 152) rfl, Or.inl rfl⟩
set_option maxRecDepth 20000 in
theorem gfX4_54_5 : LFr RX4 54 5 5 := ⟨_, fX4_54_5, rfl⟩
set_option maxRecDepth 20000 in
theorem fX5_9_5 : LF RX5 9 5 1 ((RX5, TX5, 18), tyX5) := ⟨rfl, aok_5, by decide, RX5, inD1 (i := 134) rfl, Or.inl rfl⟩
set_option maxRecDepth 20000 in
theorem gfX5_9_5 : LFr RX5 9 5 1 := ⟨_, fX5_9_5, rfl⟩
set_option maxRecDepth 20000 in
theorem pfX5_9_5 : LPr RX5 "<init>" 9 5 1 := ⟨_, ⟨fX5_9_5, Or.inr ⟨rfl, rfl, rfl⟩⟩, rfl⟩
set_option maxRecDepth 20000 in
theorem fX5_15_5 : LF RX5 15 5 2 ((RX5, TX5, 18), tyX5) := ⟨rfl, aok_5, by decide, RX5, inD1 (i := 137) rfl, Or.inl rfl⟩
set_option maxRecDepth 20000 in
theorem gfX5_15_5 : LFr RX5 15 5 2 := ⟨_, fX5_15_5, rfl⟩
set_option maxRecDepth 20000 in
theorem pfX5_15_5 : LPr RX5 "<init>" 15 5 2 := ⟨_, ⟨fX5_15_5, Or.inr ⟨rfl, rfl, rfl⟩⟩, rfl⟩
set_option maxRecDepth 20000 in
theorem fX5_18_5 : LF RX5 18 5 4 ((RX5, TX5, 18), tyX5) := ⟨rfl, aok_5, by decide, RX5, inD1 (i := 146) rfl, Or.inl rfl⟩
set_option maxRecDepth 20000 in
theorem gfX5_18_5 : LFr RX5 18 5 4 := ⟨_, fX5_18_5, rfl⟩
set_option maxRecDepth 20000 in
theorem pfX5_18_5 : LPr RX5 "<init>" 18 5 4 := ⟨_, ⟨fX5_18_5, Or.inr ⟨rfl, rfl, rfl⟩⟩, rfl⟩
set_option maxRecDepth 20000 in
theorem fX5_21_5 : LF RX5 21 5 5 ((RX5, TX5, 18), tyX5) := ⟨rfl, aok_5, by decide, RX5, inD1 (i := 150) rfl, Or.inl rfl⟩
set_option maxRecDepth 20000 in
theorem gfX5_21_5 : LFr RX5 21 5 5 := ⟨_, fX5_21_5, rfl⟩
set_option maxRecDepth 20000 in
theorem pfX5_21_5 : LPr RX5 "<init>" 21 5 5 := ⟨_, ⟨fX5_21_5, Or.inr ⟨rfl, rfl, rfl⟩⟩, rfl⟩
set_option maxRecDepth 20000 in
theorem fX5_24_5 : LF RX5 24 5 6 ((RX5, TX5, 18), tyX5) := ⟨rfl, aok_5, by decide, RX5, inD1 (i := 155) rfl, Or.inl rfl⟩
set_option maxRecDepth 20000 in
theorem gfX5_24_5 : LFr RX5 24 5 6 := ⟨_, fX5_24_5, rfl⟩
set_option maxRecDepth 20000 in
theorem pfX5_24_5 : LPr RX5 "<init>" 24 5 6 := ⟨_, ⟨fX5_24_5, Or.inr ⟨rfl, rfl, rfl⟩⟩, rfl⟩
set_option maxRecDepth 20000 in
theorem fX5_27_5 : LF RX5 27 5 7 ((RX5, TX5, 18), tyX5) := ⟨rfl, aok_5, by decide, RX5, inD1 (i := 158) rfl, Or.inl rfl⟩
set_option maxRecDepth 20000 in
theorem gfX5_27_5 : LFr RX5 27 5 7 := ⟨_, fX5_27_5, rfl⟩
set_option maxRecDepth 20000 in
theorem pfX5_27_5 : LPr RX5 "<init>" 27 5 7 := ⟨_, ⟨fX5_27_5, Or.inr ⟨rfl, rfl, rfl⟩⟩, rfl⟩
set_option maxRecDepth 20000 in
theorem fX5_30_5 : LF RX5 30 5 8 ((RX5, TX5, 18), tyX5) := ⟨rfl, aok_5, by decide, RX5, inD1 (i := 161) rfl, Or.inl rfl⟩
set_option maxRecDepth 20000 in
theorem gfX5_30_5 : LFr RX5 30 5 8 := ⟨_, fX5_30_5, rfl⟩
set_option maxRecDepth 20000 in
theorem pfX5_30_5 : LPr RX5 "<init>" 30 5 8 := ⟨_, ⟨fX5_30_5, Or.inr ⟨rfl, rfl, rfl⟩⟩, rfl⟩
set_option maxRecDepth 20000 in
theorem fX5_33_5 : LF RX5 33 5 9 ((RX5, TX5, 18), tyX5) := ⟨rfl, aok_5, by decide, RX5, inD1 (i := 165) rfl, Or.inl rfl⟩
set_option maxRecDepth 20000 in
theorem gfX5_33_5 : LFr RX5 33 5 9 := ⟨_, fX5_33_5, rfl⟩
set_option maxRecDepth 20000 in
theorem pfX5_33_5 : LPr RX5 "<init>" 33 5 9 := ⟨_, ⟨fX5_33_5, Or.inr ⟨rfl, rfl, rfl⟩⟩, rfl⟩
set_option maxRecDepth 20000 in
theorem fX5_36_5 : LF RX5 36 5 10 ((RX5, TX5, 18), tyX5) := ⟨rfl, aok_5, by decide, RX5, inD1 (i := 168) rfl, Or.inl rfl⟩
set_option maxRecDepth 20000 in
theorem gfX5_36_5 : LFi RX5 36 5 10 := ⟨_, fX5_36_5, rfl⟩
set_option maxRecDepth 20000 in
theorem pfX5_36_5 {nm : String} : LPi RX5 nm 36 5 10 := ⟨_, ⟨fX5_36_5, Or.inl rfl⟩, rfl⟩
set_option maxRecDepth 20000 in
theorem fX5_40_5 : LF RX5 40 5 13 ((RX5, TX5, 18), tyX5) := ⟨rfl, aok_5, by decide, RX5, inD1 (i := 178) rfl, Or.inl rfl⟩
set_option maxRecDepth 20000 in
theorem gfX5_40_5 : LFi RX5 40 5 13 := ⟨_, fX5_40_5, rfl⟩
set_option maxRecDepth 20000 in
theorem pfX5_40_5 {nm : String} : LPi RX5 nm 40 5 13 := ⟨_, ⟨fX5_40_5, Or.inl rfl⟩, rfl⟩
set_option maxRecDepth 20000 in
theorem fX5_43_5 : LF RX5 43 5 14 ((RX5, TX5, 18), tyX5) := ⟨rfl, aok_5, by decide, RX5, inD1 (i := 181) rfl, Or.inl rfl⟩
set_option maxRecDepth 20000 in
theorem gfX5_43_5 : LFi RX5 43 5 14 := ⟨_, fX5_43_5, rfl⟩
set_option maxRecDepth 20000 in
theorem pfX5_43_5 {nm : String} : LPi RX5 nm 43 5 14 := ⟨_, ⟨fX5_43_5, Or.inl rfl⟩, rfl⟩
set_option maxRecDepth 20000 in
theorem fX5_46_5 : LF RX5 46 5 15 ((RX5, TX5, 18), tyX5) := ⟨rfl, aok_5, by decide, RX5, inD1 (i := 184) rfl, Or.inl rfl⟩
set_option maxRecDepth 20000 in
theorem gfX5_46_5 : LFi RX5 46 5 15 := ⟨_, fX5_46_5, rfl⟩
set_option maxRecDepth 20000 in
theorem pfX5_46_5 {nm : String} : LPi RX5 nm 46 5 15 := ⟨_, ⟨fX5_46_5, Or.inl rfl⟩, rfl⟩
set_option maxRecDepth 20000 in
theorem fX5_52_5 : LF RX5 52 5 17 ((RX5, TX5, 18), tyX5) := ⟨rfl, aok_5, by decide, RX5, inD1 (i := 188) rfl, Or.inl rfl⟩
set_option maxRecDepth 20000 in
theorem gfX5_52_5 : LFr RX5 52 5 17 := ⟨_, fX5_52_5, rfl⟩
set_option maxRecDepth 20000 in
theorem pfX5_52_5 : LPr RX5 "<init>" 52 5 17 := ⟨_, ⟨fX5_52_5, Or.inr ⟨rfl, rfl, rfl⟩⟩, rfl⟩
set_option maxRecDepth 20000 in
theorem fX5_56_5 : LF RX5 56 5 0 ((RX5, TX5, 18), tyX5) := ⟨rfl, aok_5, by decide, RX5, inD1 (i := 131) rfl, Or.inl rfl⟩
set_option maxRecDepth 20000 in
theorem gfX5_56_5 : LFi RX5 56 5 0 := ⟨_, fX5_56_5, rfl⟩
set_option maxRecDepth 20000 in
theorem pfX5_56_5 {nm : String} : LPi RX5 nm 56 5 0 := ⟨_, ⟨fX5_56_5, Or.inl rfl⟩, rfl⟩
set_option maxRecDepth 20000 in
theorem fX5_63_5 : LF RX5 63 5 3 ((RX5, TX5, 18), tyX5) := ⟨rfl, aok_5, by decide, RX5, inD1 (i := 141) rfl, Or.inl rfl⟩
set_option maxRecDepth 20000 in
theorem gfX5_63_5 : LFi RX5 63 5 3 := ⟨_, fX5_63_5, rfl⟩
set_option maxRecDepth 20000 in
theorem pfX5_63_5 {nm : String} : LPi RX5 nm 63 5 3 := ⟨_, ⟨fX5_63_5, Or.inl rfl⟩, rfl⟩
set_option maxRecDepth 20000 in
theorem fX5_66_5 : LF RX5 66 5 11 ((RX5, TX5, 18), tyX5) := ⟨rfl, aok_5, by decide, RX5, inD1 (i := 172) rfl, Or.inl rfl⟩
set_option maxRecDepth 20000 in
theorem gfX5_66_5 : LFi RX5 66 5 11 := ⟨_, fX5_66_5, rfl⟩
set_option maxRecDepth 20000 in
theorem pfX5_66_5 {nm : String} : LPi RX5 nm 66 5 11 := ⟨_, ⟨fX5_66_5, Or.inl rfl⟩, rfl⟩
set_option maxRecDepth 20000 in
theorem fX5_69_5 : LF RX5 69 5 12 ((RX5, TX5, 18), tyX5) := ⟨rfl, aok_5, by decide, RX5, inD1 (i := 175) rfl, Or.inl rfl⟩
set_option maxRecDepth 20000 in
theorem gfX5_69_5 : LFi RX5 69 5 12 := ⟨_, fX5_69_5, rfl⟩
set_option maxRecDepth 20000 in
theorem pfX5_69_5 {nm : String} : LPi RX5 nm 69 5 12 := ⟨_, ⟨fX5_69_5, Or.inl rfl⟩, rfl⟩
set_option maxRecDepth 20000 in
theorem fX5_72_5 : LF RX5 72 5 16 ((RX5, TX5, 18), tyX5) := ⟨rfl, aok_5, by decide, RX5, inD1 (i := 186) rfl, Or.inl rfl⟩
set_option maxRecDepth 20000 in
theorem gfX5_72_5 : LFi RX5 72 5 16 := ⟨_, fX5_72_5, rfl⟩
set_option maxRecDepth 20000 in
theorem pfX5_72_5 {nm : String} : LPi RX5 nm 72 5 16 := ⟨_, ⟨fX5_72_5, Or.inl rfl⟩, rfl⟩
set_option maxRecDepth 20000 in
theorem fX6_16_6 : LF RX6 16 6 2 ((RX6, TX6, 3), tyX6) := ⟨rfl, aok_6, by decide, RX6, inD1 (i := 227) rfl, Or.inl rfl⟩
set_option maxRecDepth 20000 in
theorem gfX6_16_6 : LFr RX6 16 6 2 := ⟨_, fX6_16_6, rfl⟩
set_option maxRecDepth 20000 in
theorem pfX6_16_6 : LPr RX6 "<init>" 16 6 2 := ⟨_, ⟨fX6_16_6, Or.inr ⟨rfl, rfl, rfl⟩⟩, rfl⟩
set_option maxRecDepth 20000 in
theorem fX6_20_6 : LF RX6 20 6 0 ((RX6, TX6, 3), tyX6) := ⟨rfl, aok_6, by decide, RX6, inD1 (i := 230) rfl, Or.inr (inD1 (i := 231) rfl)⟩
set_option maxRecDepth 20000 in
theorem gfX6_20_6 : LFr RX6 20 6 0 := ⟨_, fX6_20_6, rfl⟩
set_option maxRecDepth 20000 in
theorem fX6_24_9 : LF RX6 24 9 9 ((RX9, TX9, 10), tyX9) := ⟨rfl, aok_9, by decide, RX9, inD1 (i := 83) rfl, Or.inl rfl⟩
set_option maxRecDepth 20000 in
theorem gfX6_24_9 : LFr RX6 24 9 9 := ⟨_, fX6_24_9, rfl⟩
set_option maxRecDepth 20000 in
theorem wX6_30 : inT (.fieldLink RX6 30 "PutOffParade$Word" "PERSON" "LPutOffParade$Word;") := (inC4 (i := 166) rfl rfl)
set_option maxRecDepth 20000 in
theorem fX6_35_5 : LF RX6 35 5 0 ((RX5, TX5, 18), tyX5) := ⟨rfl, aok_5, by decide, RX5, inD1 (i := 132) rfl, Or.inl rfl⟩
set_option maxRecDepth 20000 in
theorem gfX6_35_5 : LFi RX6 35 5 0 := ⟨_, fX6_35_5, rfl⟩
set_option maxRecDepth 20000 in
theorem wX6_43 : inT (.fieldLink RX6 43 "PutOffParade$Word" "DUTY" "LPutOffParade$Word;") := (inC4 (i := 187) rfl rfl)
set_option maxRecDepth 20000 in
theorem fX6_46_5 : LF RX6 46 5 3 ((RX5, TX5, 18), tyX5) := ⟨rfl, aok_5, by decide, RX5, inD1 (i := 142) rfl, Or.inl rfl⟩
set_option maxRecDepth 20000 in
theorem gfX6_46_5 : LFi RX6 46 5 3 := ⟨_, fX6_46_5, rfl⟩
set_option maxRecDepth 20000 in
theorem wX6_52 : inT (.fieldLink RX6 52 "PutOffParade$Word" "FORGOTTEN" "LPutOffParade$Word;") := (inC4 (i := 207) rfl rfl)
set_option maxRecDepth 20000 in
theorem wX6_68 : inT (.fieldLink RX6 68 "PutOffParade$Word" "AT" "LPutOffParade$Word;") := (inC4 (i := 173) rfl rfl)
set_option maxRecDepth 20000 in
theorem wX6_75 : inT (.fieldLink RX6 75 "PutOffParade$Word" "FREE" "LPutOffParade$Word;") := (inC4 (i := 181) rfl rfl)
set_option maxRecDepth 20000 in
theorem wX6_82 : inT (.fieldLink RX6 82 "PutOffParade$Word" "OF" "LPutOffParade$Word;") := (inC4 (i := 193) rfl rfl)
set_option maxRecDepth 20000 in
theorem wX6_85 : inT (.fieldLink RX6 85 "PutOffParade$Word" "TAKES" "LPutOffParade$Word;") := (inC4 (i := 195) rfl rfl)
set_option maxRecDepth 20000 in
theorem wX6_88 : inT (.fieldLink RX6 88 "PutOffParade$Word" "AGE" "LPutOffParade$Word;") := (inC4 (i := 197) rfl rfl)
set_option maxRecDepth 20000 in
theorem wX6_91 : inT (.fieldLink RX6 91 "PutOffParade$Word" "TOOL" "LPutOffParade$Word;") := (inC4 (i := 199) rfl rfl)
set_option maxRecDepth 20000 in
theorem wX6_94 : inT (.fieldLink RX6 94 "PutOffParade$Word" "ON" "LPutOffParade$Word;") := (inC4 (i := 201) rfl rfl)
set_option maxRecDepth 20000 in
theorem fX6_101_9 : LF RX6 101 9 6 ((RX9, TX9, 10), tyX9) := ⟨rfl, aok_9, by decide, RX9, inD1 (i := 75) rfl, Or.inl rfl⟩
set_option maxRecDepth 20000 in
theorem gfX6_101_9 : LFi RX6 101 9 6 := ⟨_, fX6_101_9, rfl⟩
set_option maxRecDepth 20000 in
theorem fX6_104_9 : LF RX6 104 9 8 ((RX9, TX9, 10), tyX9) := ⟨rfl, aok_9, by decide, RX9, inD1 (i := 80) rfl, Or.inl rfl⟩
set_option maxRecDepth 20000 in
theorem gfX6_104_9 : LFi RX6 104 9 8 := ⟨_, fX6_104_9, rfl⟩
set_option maxRecDepth 20000 in
theorem fX6_111_5 : LF RX6 111 5 9 ((RX5, TX5, 18), tyX5) := ⟨rfl, aok_5, by decide, RX5, inD1 (i := 166) rfl, Or.inl rfl⟩
set_option maxRecDepth 20000 in
theorem gfX6_111_5 : LFr RX6 111 5 9 := ⟨_, fX6_111_5, rfl⟩
set_option maxRecDepth 20000 in
theorem wX6_119 : inT (.fieldLink RX6 119 "PutOffParade$Word" "ILL" "LPutOffParade$Word;") := (inC4 (i := 219) rfl rfl)
set_option maxRecDepth 20000 in
theorem fX6_122_5 : LF RX6 122 5 12 ((RX5, TX5, 18), tyX5) := ⟨rfl, aok_5, by decide, RX5, inD1 (i := 176) rfl, Or.inl rfl⟩
set_option maxRecDepth 20000 in
theorem gfX6_122_5 : LFi RX6 122 5 12 := ⟨_, fX6_122_5, rfl⟩
set_option maxRecDepth 20000 in
theorem pfX6_122_5 {nm : String} : LPi RX6 nm 122 5 12 := ⟨_, ⟨fX6_122_5, Or.inl rfl⟩, rfl⟩
set_option maxRecDepth 20000 in
theorem wX6_125 : inT (.fieldLink RX6 125 "PutOffParade$Word" "PACE" "LPutOffParade$Word;") := (inC4 (i := 221) rfl rfl)
set_option maxRecDepth 20000 in
theorem fX6_128_5 : LF RX6 128 5 13 ((RX5, TX5, 18), tyX5) := ⟨rfl, aok_5, by decide, RX5, inD1 (i := 179) rfl, Or.inl rfl⟩
set_option maxRecDepth 20000 in
theorem gfX6_128_5 : LFi RX6 128 5 13 := ⟨_, fX6_128_5, rfl⟩
set_option maxRecDepth 20000 in
theorem pfX6_128_5 {nm : String} : LPi RX6 nm 128 5 13 := ⟨_, ⟨fX6_128_5, Or.inl rfl⟩, rfl⟩
set_option maxRecDepth 20000 in
theorem wX6_131 : inT (.fieldLink RX6 131 "PutOffParade$Word" "PRICE" "LPutOffParade$Word;") := (inC4 (i := 223) rfl rfl)
set_option maxRecDepth 20000 in
theorem fX6_134_5 : LF RX6 134 5 14 ((RX5, TX5, 18), tyX5) := ⟨rfl, aok_5, by decide, RX5, inD1 (i := 182) rfl, Or.inl rfl⟩
set_option maxRecDepth 20000 in
theorem gfX6_134_5 : LFi RX6 134 5 14 := ⟨_, fX6_134_5, rfl⟩
set_option maxRecDepth 20000 in
theorem pfX6_134_5 {nm : String} : LPi RX6 nm 134 5 14 := ⟨_, ⟨fX6_134_5, Or.inl rfl⟩, rfl⟩
set_option maxRecDepth 20000 in
theorem wX6_137 : inT (.fieldLink RX6 137 "PutOffParade$Word" "DAY" "LPutOffParade$Word;") := (inC4 (i := 225) rfl rfl)
set_option maxRecDepth 20000 in
theorem fX6_140_5 : LF RX6 140 5 10 ((RX5, TX5, 18), tyX5) := ⟨rfl, aok_5, by decide, RX5, inD1 (i := 169) rfl, Or.inl rfl⟩
set_option maxRecDepth 20000 in
theorem gfX6_140_5 : LFi RX6 140 5 10 := ⟨_, fX6_140_5, rfl⟩
set_option maxRecDepth 20000 in
theorem pfX6_140_5 {nm : String} : LPi RX6 nm 140 5 10 := ⟨_, ⟨fX6_140_5, Or.inl rfl⟩, rfl⟩
set_option maxRecDepth 20000 in
theorem wX6_143 : inT (.fieldLink RX6 143 "PutOffParade$Word" "MONTH" "LPutOffParade$Word;") := (inC4 (i := 227) rfl rfl)
set_option maxRecDepth 20000 in
theorem fX6_146_5 : LF RX6 146 5 11 ((RX5, TX5, 18), tyX5) := ⟨rfl, aok_5, by decide, RX5, inD1 (i := 173) rfl, Or.inl rfl⟩
set_option maxRecDepth 20000 in
theorem gfX6_146_5 : LFi RX6 146 5 11 := ⟨_, fX6_146_5, rfl⟩
set_option maxRecDepth 20000 in
theorem pfX6_146_5 {nm : String} : LPi RX6 nm 146 5 11 := ⟨_, ⟨fX6_146_5, Or.inl rfl⟩, rfl⟩
set_option maxRecDepth 20000 in
theorem fX7_9_7 : LF RX7 9 7 0 ((RX7, TX7, 2), tyX7) := ⟨rfl, aok_7, by decide, RX7, inD1 (i := 44) rfl, Or.inl rfl⟩
set_option maxRecDepth 20000 in
theorem gfX7_9_7 : LFr RX7 9 7 0 := ⟨_, fX7_9_7, rfl⟩
set_option maxRecDepth 20000 in
theorem pfX7_9_7 : LPr RX7 "<init>" 9 7 0 := ⟨_, ⟨fX7_9_7, Or.inr ⟨rfl, rfl, rfl⟩⟩, rfl⟩
set_option maxRecDepth 20000 in
theorem fX7_15_7 : LF RX7 15 7 1 ((RX7, TX7, 2), tyX7) := ⟨rfl, aok_7, by decide, RX7, inD1 (i := 46) rfl, Or.inl rfl⟩
set_option maxRecDepth 20000 in
theorem gfX7_15_7 : LFi RX7 15 7 1 := ⟨_, fX7_15_7, rfl⟩
set_option maxRecDepth 20000 in
theorem pfX7_15_7 {nm : String} : LPi RX7 nm 15 7 1 := ⟨_, ⟨fX7_15_7, Or.inl rfl⟩, rfl⟩
set_option maxRecDepth 20000 in
theorem fX8_12_3 : LF RX8 12 3 0 ((RX3, TX3, 6), tyX3) := ⟨rfl, aok_3, by decide, RX8, inD1 (i := 229) rfl, Or.inl rfl⟩
set_option maxRecDepth 20000 in
theorem gfX8_12_3 : LFr RX8 12 3 0 := ⟨_, fX8_12_3, rfl⟩
set_option maxRecDepth 20000 in
theorem pfX8_12_3 : LPr RX8 "<init>" 12 3 0 := ⟨_, ⟨fX8_12_3, Or.inr ⟨rfl, rfl, rfl⟩⟩, rfl⟩
set_option maxRecDepth 20000 in
theorem fX8_12_6 : LF RX8 12 6 0 ((RX6, TX6, 3), tyX6) := ⟨rfl, aok_6, by decide, RX8, inD1 (i := 229) rfl, Or.inl rfl⟩
set_option maxRecDepth 20000 in
theorem gfX8_12_6 : LFr RX8 12 6 0 := ⟨_, fX8_12_6, rfl⟩
set_option maxRecDepth 20000 in
theorem pfX8_12_6 : LPr RX8 "<init>" 12 6 0 := ⟨_, ⟨fX8_12_6, Or.inr ⟨rfl, rfl, rfl⟩⟩, rfl⟩
set_option maxRecDepth 20000 in
theorem fX8_18_3 : LF RX8 18 3 1 ((RX3, TX3, 6), tyX3) := ⟨rfl, aok_3, by decide, RX8, inD1 (i := 234) rfl, Or.inl rfl⟩
set_option maxRecDepth 20000 in
theorem gfX8_18_3 : LFi RX8 18 3 1 := ⟨_, fX8_18_3, rfl⟩
set_option maxRecDepth 20000 in
theorem pfX8_18_3 : LPi RX8 "<init>" 18 3 1 := ⟨_, ⟨fX8_18_3, Or.inr ⟨rfl, rfl, rfl⟩⟩, rfl⟩
set_option maxRecDepth 20000 in
theorem fX8_18_6 : LF RX8 18 6 1 ((RX6, TX6, 3), tyX6) := ⟨rfl, aok_6, by decide, RX8, inD1 (i := 234) rfl, Or.inl rfl⟩
set_option maxRecDepth 20000 in
theorem gfX8_18_6 : LFi RX8 18 6 1 := ⟨_, fX8_18_6, rfl⟩
set_option maxRecDepth 20000 in
theorem pfX8_18_6 : LPi RX8 "<init>" 18 6 1 := ⟨_, ⟨fX8_18_6, Or.inr ⟨rfl, rfl, rfl⟩⟩, rfl⟩
set_option maxRecDepth 20000 in
theorem fX8_33_9 : LF RX8 33 9 7 ((RX9, TX9, 10), tyX9) := ⟨rfl, aok_9, by decide, RX9, inD1 (i := 78) rfl, Or.inl rfl⟩
set_option maxRecDepth 20000 in
theorem gfX8_33_9 : LFi RX8 33 9 7 := ⟨_, fX8_33_9, rfl⟩
set_option maxRecDepth 20000 in
theorem fX9_9_9 : LF RX9 9 9 0 ((RX9, TX9, 10), tyX9) := ⟨rfl, aok_9, by decide, RX9, inD1 (i := 69) rfl, Or.inl rfl⟩
set_option maxRecDepth 20000 in
theorem gfX9_9_9 : LFr RX9 9 9 0 := ⟨_, fX9_9_9, rfl⟩
set_option maxRecDepth 20000 in
theorem pfX9_9_9 : LPr RX9 "<init>" 9 9 0 := ⟨_, ⟨fX9_9_9, Or.inr ⟨rfl, rfl, rfl⟩⟩, rfl⟩
set_option maxRecDepth 20000 in
theorem fX9_15_9 : LF RX9 15 9 1 ((RX9, TX9, 10), tyX9) := ⟨rfl, aok_9, by decide, RX9, inD1 (i := 70) rfl, Or.inl rfl⟩
set_option maxRecDepth 20000 in
theorem gfX9_15_9 : LFr RX9 15 9 1 := ⟨_, fX9_15_9, rfl⟩
set_option maxRecDepth 20000 in
theorem pfX9_15_9 : LPr RX9 "<init>" 15 9 1 := ⟨_, ⟨fX9_15_9, Or.inr ⟨rfl, rfl, rfl⟩⟩, rfl⟩
set_option maxRecDepth 20000 in
theorem fX9_18_9 : LF RX9 18 9 2 ((RX9, TX9, 10), tyX9) := ⟨rfl, aok_9, by decide, RX9, inD1 (i := 71) rfl, Or.inl rfl⟩
set_option maxRecDepth 20000 in
theorem gfX9_18_9 : LFr RX9 18 9 2 := ⟨_, fX9_18_9, rfl⟩
set_option maxRecDepth 20000 in
theorem pfX9_18_9 : LPr RX9 "<init>" 18 9 2 := ⟨_, ⟨fX9_18_9, Or.inr ⟨rfl, rfl, rfl⟩⟩, rfl⟩
set_option maxRecDepth 20000 in
theorem fX9_21_9 : LF RX9 21 9 3 ((RX9, TX9, 10), tyX9) := ⟨rfl, aok_9, by decide, RX9, inD1 (i := 72) rfl, Or.inl rfl⟩
set_option maxRecDepth 20000 in
theorem gfX9_21_9 : LFr RX9 21 9 3 := ⟨_, fX9_21_9, rfl⟩
set_option maxRecDepth 20000 in
theorem pfX9_21_9 : LPr RX9 "<init>" 21 9 3 := ⟨_, ⟨fX9_21_9, Or.inr ⟨rfl, rfl, rfl⟩⟩, rfl⟩
set_option maxRecDepth 20000 in
theorem fX9_24_9 : LF RX9 24 9 4 ((RX9, TX9, 10), tyX9) := ⟨rfl, aok_9, by decide, RX9, inD1 (i := 73) rfl, Or.inl rfl⟩
set_option maxRecDepth 20000 in
theorem gfX9_24_9 : LFi RX9 24 9 4 := ⟨_, fX9_24_9, rfl⟩
set_option maxRecDepth 20000 in
theorem pfX9_24_9 {nm : String} : LPi RX9 nm 24 9 4 := ⟨_, ⟨fX9_24_9, Or.inl rfl⟩, rfl⟩
set_option maxRecDepth 20000 in
theorem fX9_28_7 : LF RX9 28 7 1 ((RX7, TX7, 2), tyX7) := ⟨rfl, aok_7, by decide, RX7, inD1 (i := 47) rfl, Or.inl rfl⟩
set_option maxRecDepth 20000 in
theorem gfX9_28_7 : LFi RX9 28 7 1 := ⟨_, fX9_28_7, rfl⟩
set_option maxRecDepth 20000 in
theorem fX9_52_9 : LF RX9 52 9 5 ((RX9, TX9, 10), tyX9) := ⟨rfl, aok_9, by decide, RX9, inD1 (i := 74) rfl, Or.inl rfl⟩
set_option maxRecDepth 20000 in
theorem gfX9_52_9 : LFi RX9 52 9 5 := ⟨_, fX9_52_9, rfl⟩
set_option maxRecDepth 20000 in
theorem pfX9_52_9 {nm : String} : LPi RX9 nm 52 9 5 := ⟨_, ⟨fX9_52_9, Or.inl rfl⟩, rfl⟩
set_option maxRecDepth 20000 in
theorem wX9_68 : inT (.fieldLink RX9 68 "PutOffParade$Tokens" "WORDS" "[LPutOffParade$Word;") := (inC4 (i := 0) rfl rfl)
set_option maxRecDepth 20000 in
theorem wX9_72 : inT (.fieldLink RX9 72 "PutOffParade$Word" "text" "Ljava/lang/String;") := (inC10 (i := 50) rfl rfl)
set_option maxRecDepth 20000 in
theorem fX9_97_9 : LF RX9 97 9 6 ((RX9, TX9, 10), tyX9) := ⟨rfl, aok_9, by decide, RX9, inD1 (i := 76) rfl, Or.inl rfl⟩
set_option maxRecDepth 20000 in
theorem gfX9_97_9 : LFi RX9 97 9 6 := ⟨_, fX9_97_9, rfl⟩
set_option maxRecDepth 20000 in
theorem pfX9_97_9 {nm : String} : LPi RX9 nm 97 9 6 := ⟨_, ⟨fX9_97_9, Or.inl rfl⟩, rfl⟩
set_option maxRecDepth 20000 in
theorem fX9_100_9 : LF RX9 100 9 7 ((RX9, TX9, 10), tyX9) := ⟨rfl, aok_9, by decide, RX9, inD1 (i := 79) rfl, Or.inl rfl⟩
set_option maxRecDepth 20000 in
theorem pfX9_100_9 {nm : String} : LPi RX9 nm 100 9 7 := ⟨_, ⟨fX9_100_9, Or.inl rfl⟩, rfl⟩
set_option maxRecDepth 20000 in
theorem fX9_103_9 : LF RX9 103 9 8 ((RX9, TX9, 10), tyX9) := ⟨rfl, aok_9, by decide, RX9, inD1 (i := 81) rfl, Or.inl rfl⟩
set_option maxRecDepth 20000 in
theorem gfX9_103_9 : LFi RX9 103 9 8 := ⟨_, fX9_103_9, rfl⟩
set_option maxRecDepth 20000 in
theorem pfX9_103_9 {nm : String} : LPi RX9 nm 103 9 8 := ⟨_, ⟨fX9_103_9, Or.inl rfl⟩, rfl⟩
set_option maxRecDepth 20000 in
theorem fX9_106_9 : LF RX9 106 9 9 ((RX9, TX9, 10), tyX9) := ⟨rfl, aok_9, by decide, RX9, inD1 (i := 85) rfl, Or.inl rfl⟩
set_option maxRecDepth 20000 in
theorem gfX9_106_9 : LFr RX9 106 9 9 := ⟨_, fX9_106_9, rfl⟩
set_option maxRecDepth 20000 in
theorem pfX9_106_9 {nm : String} : LPr RX9 nm 106 9 9 := ⟨_, ⟨fX9_106_9, Or.inl rfl⟩, rfl⟩
set_option maxRecDepth 20000 in
theorem fX12_3_12 : LF RX12 3 12 0 ((RX12, TX12, 20), tyX12) := ⟨rfl, aok_12, by decide, RX12, inD7 (i := 35) rfl, Or.inl rfl⟩
set_option maxRecDepth 20000 in
theorem gfX12_3_12 : LFi RX12 3 12 0 := ⟨_, fX12_3_12, rfl⟩
set_option maxRecDepth 20000 in
theorem pfX12_3_12 {nm : String} : LPi RX12 nm 3 12 0 := ⟨_, ⟨fX12_3_12, Or.inl rfl⟩, rfl⟩
set_option maxRecDepth 20000 in
theorem fX12_13_12 : LF RX12 13 12 1 ((RX12, TX12, 20), tyX12) := ⟨rfl, aok_12, by decide, RX12, inD7 (i := 36) rfl, Or.inl rfl⟩
set_option maxRecDepth 20000 in
theorem gfX12_13_12 : LFr RX12 13 12 1 := ⟨_, fX12_13_12, rfl⟩
set_option maxRecDepth 20000 in
theorem pfX12_13_12 : LPr RX12 "<init>" 13 12 1 := ⟨_, ⟨fX12_13_12, Or.inr ⟨rfl, rfl, rfl⟩⟩, rfl⟩
set_option maxRecDepth 20000 in
theorem fX12_17_12 : LF RX12 17 12 2 ((RX12, TX12, 20), tyX12) := ⟨rfl, aok_12, by decide, RX12, inD7 (i := 37) rfl, Or.inl rfl⟩
set_option maxRecDepth 20000 in
theorem gfX12_17_12 : LFr RX12 17 12 2 := ⟨_, fX12_17_12, rfl⟩
set_option maxRecDepth 20000 in
theorem pfX12_17_12 : LPr RX12 "<init>" 17 12 2 := ⟨_, ⟨fX12_17_12, Or.inr ⟨rfl, rfl, rfl⟩⟩, rfl⟩
set_option maxRecDepth 20000 in
theorem fX12_20_12 : LF RX12 20 12 3 ((RX12, TX12, 20), tyX12) := ⟨rfl, aok_12, by decide, RX12, inD7 (i := 38) rfl, Or.inl rfl⟩
set_option maxRecDepth 20000 in
theorem gfX12_20_12 : LFr RX12 20 12 3 := ⟨_, fX12_20_12, rfl⟩
set_option maxRecDepth 20000 in
theorem pfX12_20_12 : LPr RX12 "<init>" 20 12 3 := ⟨_, ⟨fX12_20_12, Or.inr ⟨rfl, rfl, rfl⟩⟩, rfl⟩
set_option maxRecDepth 20000 in
theorem fX12_23_12 : LF RX12 23 12 4 ((RX12, TX12, 20), tyX12) := ⟨rfl, aok_12, by decide, RX12, inD7 (i := 39) rfl, Or.inl rfl⟩
set_option maxRecDepth 20000 in
theorem gfX12_23_12 : LFr RX12 23 12 4 := ⟨_, fX12_23_12, rfl⟩
set_option maxRecDepth 20000 in
theorem pfX12_23_12 : LPr RX12 "<init>" 23 12 4 := ⟨_, ⟨fX12_23_12, Or.inr ⟨rfl, rfl, rfl⟩⟩, rfl⟩
set_option maxRecDepth 20000 in
theorem fX12_26_12 : LF RX12 26 12 5 ((RX12, TX12, 20), tyX12) := ⟨rfl, aok_12, by decide, RX12, inD7 (i := 40) rfl, Or.inl rfl⟩
set_option maxRecDepth 20000 in
theorem gfX12_26_12 : LFr RX12 26 12 5 := ⟨_, fX12_26_12, rfl⟩
set_option maxRecDepth 20000 in
theorem pfX12_26_12 : LPr RX12 "<init>" 26 12 5 := ⟨_, ⟨fX12_26_12, Or.inr ⟨rfl, rfl, rfl⟩⟩, rfl⟩
set_option maxRecDepth 20000 in
theorem fX12_29_12 : LF RX12 29 12 8 ((RX12, TX12, 20), tyX12) := ⟨rfl, aok_12, by decide, RX12, inD7 (i := 43) rfl, Or.inl rfl⟩
set_option maxRecDepth 20000 in
theorem gfX12_29_12 : LFr RX12 29 12 8 := ⟨_, fX12_29_12, rfl⟩
set_option maxRecDepth 20000 in
theorem pfX12_29_12 : LPr RX12 "<init>" 29 12 8 := ⟨_, ⟨fX12_29_12, Or.inr ⟨rfl, rfl, rfl⟩⟩, rfl⟩
set_option maxRecDepth 20000 in
theorem fX12_33_12 : LF RX12 33 12 14 ((RX12, TX12, 20), tyX12) := ⟨rfl, aok_12, by decide, RX12, inD7 (i := 49) rfl, Or.inl rfl⟩
set_option maxRecDepth 20000 in
theorem gfX12_33_12 : LFi RX12 33 12 14 := ⟨_, fX12_33_12, rfl⟩
set_option maxRecDepth 20000 in
theorem pfX12_33_12 {nm : String} : LPi RX12 nm 33 12 14 := ⟨_, ⟨fX12_33_12, Or.inl rfl⟩, rfl⟩
set_option maxRecDepth 20000 in
theorem fX12_36_12 : LF RX12 36 12 15 ((RX12, TX12, 20), tyX12) := ⟨rfl, aok_12, by decide, RX12, inD7 (i := 50) rfl, Or.inl rfl⟩
set_option maxRecDepth 20000 in
theorem gfX12_36_12 : LFr RX12 36 12 15 := ⟨_, fX12_36_12, rfl⟩
set_option maxRecDepth 20000 in
theorem pfX12_36_12 : LPr RX12 "<init>" 36 12 15 := ⟨_, ⟨fX12_36_12, Or.inr ⟨rfl, rfl, rfl⟩⟩, rfl⟩
set_option maxRecDepth 20000 in
theorem fX12_39_12 : LF RX12 39 12 17 ((RX12, TX12, 20), tyX12) := ⟨rfl, aok_12, by decide, RX12, inD7 (i := 52) rfl, Or.inl rfl⟩
set_option maxRecDepth 20000 in
theorem gfX12_39_12 : LFr RX12 39 12 17 := ⟨_, fX12_39_12, rfl⟩
set_option maxRecDepth 20000 in
theorem pfX12_39_12 : LPr RX12 "<init>" 39 12 17 := ⟨_, ⟨fX12_39_12, Or.inr ⟨rfl, rfl, rfl⟩⟩, rfl⟩
set_option maxRecDepth 20000 in
theorem fX12_42_12 : LF RX12 42 12 18 ((RX12, TX12, 20), tyX12) := ⟨rfl, aok_12, by decide, RX12, inD7 (i := 53) rfl, Or.inl rfl⟩
set_option maxRecDepth 20000 in
theorem gfX12_42_12 : LFr RX12 42 12 18 := ⟨_, fX12_42_12, rfl⟩
set_option maxRecDepth 20000 in
theorem pfX12_42_12 : LPr RX12 "<init>" 42 12 18 := ⟨_, ⟨fX12_42_12, Or.inr ⟨rfl, rfl, rfl⟩⟩, rfl⟩
set_option maxRecDepth 20000 in
theorem fX12_45_12 : LF RX12 45 12 19 ((RX12, TX12, 20), tyX12) := ⟨rfl, aok_12, by decide, RX12, inD7 (i := 54) rfl, Or.inl rfl⟩
set_option maxRecDepth 20000 in
theorem gfX12_45_12 : LFr RX12 45 12 19 := ⟨_, fX12_45_12, rfl⟩
set_option maxRecDepth 20000 in
theorem pfX12_45_12 : LPr RX12 "<init>" 45 12 19 := ⟨_, ⟨fX12_45_12, Or.inr ⟨rfl, rfl, rfl⟩⟩, rfl⟩
set_option maxRecDepth 20000 in
theorem fX12_49_12 : LF RX12 49 12 6 ((RX12, TX12, 20), tyX12) := ⟨rfl, aok_12, by decide, RX12, inD7 (i := 41) rfl, Or.inl rfl⟩
set_option maxRecDepth 20000 in
theorem gfX12_49_12 : LFi RX12 49 12 6 := ⟨_, fX12_49_12, rfl⟩
set_option maxRecDepth 20000 in
theorem pfX12_49_12 {nm : String} : LPz RX12 nm 49 12 6 := ⟨_, ⟨fX12_49_12, Or.inl rfl⟩, rfl⟩
set_option maxRecDepth 20000 in
theorem fX12_53_12 : LF RX12 53 12 7 ((RX12, TX12, 20), tyX12) := ⟨rfl, aok_12, by decide, RX12, inD7 (i := 42) rfl, Or.inl rfl⟩
set_option maxRecDepth 20000 in
theorem gfX12_53_12 : LFi RX12 53 12 7 := ⟨_, fX12_53_12, rfl⟩
set_option maxRecDepth 20000 in
theorem pfX12_53_12 {nm : String} : LPi RX12 nm 53 12 7 := ⟨_, ⟨fX12_53_12, Or.inl rfl⟩, rfl⟩
set_option maxRecDepth 20000 in
theorem fX12_78_12 : LF RX12 78 12 9 ((RX12, TX12, 20), tyX12) := ⟨rfl, aok_12, by decide, RX12, inD7 (i := 44) rfl, Or.inl rfl⟩
set_option maxRecDepth 20000 in
theorem gfX12_78_12 : LFi RX12 78 12 9 := ⟨_, fX12_78_12, rfl⟩
set_option maxRecDepth 20000 in
theorem pfX12_78_12 {nm : String} : LPi RX12 nm 78 12 9 := ⟨_, ⟨fX12_78_12, Or.inl rfl⟩, rfl⟩
set_option maxRecDepth 20000 in
theorem fX12_81_12 : LF RX12 81 12 10 ((RX12, TX12, 20), tyX12) := ⟨rfl, aok_12, by decide, RX12, inD7 (i := 45) rfl, Or.inl rfl⟩
set_option maxRecDepth 20000 in
theorem gfX12_81_12 : LFi RX12 81 12 10 := ⟨_, fX12_81_12, rfl⟩
set_option maxRecDepth 20000 in
theorem pfX12_81_12 {nm : String} : LPi RX12 nm 81 12 10 := ⟨_, ⟨fX12_81_12, Or.inl rfl⟩, rfl⟩
set_option maxRecDepth 20000 in
theorem fX12_84_12 : LF RX12 84 12 11 ((RX12, TX12, 20), tyX12) := ⟨rfl, aok_12, by decide, RX12, inD7 (i := 46) rfl, Or.inl rfl⟩
set_option maxRecDepth 20000 in
theorem gfX12_84_12 : LFi RX12 84 12 11 := ⟨_, fX12_84_12, rfl⟩
set_option maxRecDepth 20000 in
theorem pfX12_84_12 {nm : String} : LPi RX12 nm 84 12 11 := ⟨_, ⟨fX12_84_12, Or.inl rfl⟩, rfl⟩
set_option maxRecDepth 20000 in
theorem fX12_91_12 : LF RX12 91 12 12 ((RX12, TX12, 20), tyX12) := ⟨rfl, aok_12, by decide, RX12, inD7 (i := 47) rfl, Or.inl rfl⟩
set_option maxRecDepth 20000 in
theorem gfX12_91_12 : LFi RX12 91 12 12 := ⟨_, fX12_91_12, rfl⟩
set_option maxRecDepth 20000 in
theorem pfX12_91_12 {nm : String} : LPi RX12 nm 91 12 12 := ⟨_, ⟨fX12_91_12, Or.inl rfl⟩, rfl⟩
set_option maxRecDepth 20000 in
theorem fX12_168_12 : LF RX12 168 12 16 ((RX12, TX12, 20), tyX12) := ⟨rfl, aok_12, by decide, RX12, inD7 (i := 51) rfl, Or.inl rfl⟩
set_option maxRecDepth 20000 in
theorem gfX12_168_12 : LFi RX12 168 12 16 := ⟨_, fX12_168_12, rfl⟩
set_option maxRecDepth 20000 in
theorem pfX12_168_12 {nm : String} : LPi RX12 nm 168 12 16 := ⟨_, ⟨fX12_168_12, Or.inl rfl⟩, rfl⟩
set_option maxRecDepth 20000 in
theorem fX12_194_12 : LF RX12 194 12 13 ((RX12, TX12, 20), tyX12) := ⟨rfl, aok_12, by decide, RX12, inD7 (i := 48) rfl, Or.inl rfl⟩
set_option maxRecDepth 20000 in
theorem gfX12_194_12 : LFi RX12 194 12 13 := ⟨_, fX12_194_12, rfl⟩
set_option maxRecDepth 20000 in
theorem pfX12_194_12 {nm : String} : LPi RX12 nm 194 12 13 := ⟨_, ⟨fX12_194_12, Or.inl rfl⟩, rfl⟩
set_option maxRecDepth 20000 in
theorem wJ0_9 : inT (.fieldLink RJ0 9 "java/lang/String" "value" "[B") := (inC10 (i := 51) rfl rfl)
set_option maxRecDepth 20000 in
theorem wJ0_15 : inT (.fieldLink RJ0 15 "java/lang/String" "coder" "B") := (inC10 (i := 52) rfl rfl)
set_option maxRecDepth 20000 in
theorem wJ0_38 : inT (.fieldLink RJ0 38 "java/lang/String" "COMPACT_STRINGS" "Z") := (inC4 (i := 14) rfl rfl)
set_option maxRecDepth 20000 in
theorem wJ0_1053 : inT (.fieldLink RJ0 1053 "jdk/internal/util/Preconditions" "SIOOBE_FORMATTER" "Ljava/util/function/BiFunction;") := (inC4 (i := 30) rfl rfl)
set_option maxRecDepth 20000 in
theorem wJ2_44 : inT (.fieldLink RJ2 44 "java/lang/StringUTF16" "$assertionsDisabled" "Z") := (inC4 (i := 48) rfl rfl)
set_option maxRecDepth 20000 in
theorem wJ2_59 : inT (.fieldLink RJ2 59 "java/lang/StringUTF16" "HI_BYTE_SHIFT" "I") := (inC4 (i := 50) rfl rfl)
set_option maxRecDepth 20000 in
theorem wJ2_63 : inT (.fieldLink RJ2 63 "java/lang/StringUTF16" "LO_BYTE_SHIFT" "I") := (inC4 (i := 52) rfl rfl)
end
