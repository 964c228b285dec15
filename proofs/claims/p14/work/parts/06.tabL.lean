section
/-! ===== the methods of the law and of the library, printed by program out of the listing ===== -/
def m_J6_bitCount_0f7a4 : aM := (yJ6_bitCount_0f7a4, cJ6_bitCount_0f7a4, 1, (Option.some Jvm.ClassFile.FieldType.int), [], [[(0, .iload_n 0, 1, 0, 0), (1, .iload_n 0, 2, 0, 0), (2, .iconst 1, 3, 0, 1), (3, .iushr, 4, 0, 0), (4, .ldc_w 265, 7, 0, 0), (7, .iand, 8, 0, 0), (8, .isub, 9, 0, 0), (9, .istore_n 0, 10, 0, 0), (10, .iload_n 0, 11, 0, 0), (11, .ldc_w 266, 14, 0, 0), (14, .iand, 15, 0, 0), (15, .iload_n 0, 16, 0, 0), (16, .iconst 2, 17, 0, 2), (17, .iushr, 18, 0, 0), (18, .ldc_w 266, 21, 0, 0), (21, .iand, 22, 0, 0), (22, .iadd, 23, 0, 0), (23, .istore_n 0, 24, 0, 0), (24, .iload_n 0, 25, 0, 0), (25, .iload_n 0, 26, 0, 0), (26, .iconst 4, 27, 0, 4), (27, .iushr, 28, 0, 0), (28, .iadd, 29, 0, 0), (29, .ldc_w 267, 32, 0, 0), (32, .iand, 33, 0, 0), (33, .istore_n 0, 34, 0, 0), (34, .iload_n 0, 35, 0, 0), (35, .iload_n 0, 36, 0, 0), (36, .bipush 8, 38, 0, 8), (38, .iushr, 39, 0, 0), (39, .iadd, 40, 0, 0), (40, .istore_n 0, 41, 0, 0), (41, .iload_n 0, 42, 0, 0), (42, .iload_n 0, 43, 0, 0), (43, .bipush 16, 45, 0, 16), (45, .iushr, 46, 0, 0), (46, .iadd, 47, 0, 0), (47, .istore_n 0, 48, 0, 0), (48, .iload_n 0, 49, 0, 0), (49, .bipush 63, 51, 0, 63), (51, .iand, 52, 0, 0), (52, .ireturn, 53, 0, 0)]])
def m_J0_length_8abf5 : aM := (yJ0_length_8abf5, cJ0_length_8abf5, 1, (Option.some Jvm.ClassFile.FieldType.int), [], [[(0, .aload_n 0, 1, 0, 0), (1, .getfield 9, 4, 0, 0), (4, .arraylength, 5, 0, 0), (5, .aload_n 0, 6, 0, 0), (6, .invokevirtual 335, 9, 0, 0), (9, .ishr, 10, 0, 0), (10, .ireturn, 11, 0, 0)]])
def m_J0_charAt_5068e : aM := (yJ0_charAt_5068e, cJ0_charAt_5068e, 2, (Option.some Jvm.ClassFile.FieldType.char), [], [[(0, .aload_n 0, 1, 0, 0), (1, .invokevirtual 492, 4, 0, 0), (4, .ifCond .eq 12, 7, 16, 0), (7, .aload_n 0, 8, 0, 0), (8, .getfield 9, 11, 0, 0), (11, .iload_n 1, 12, 0, 0), (12, .invokestatic 495, 15, 0, 0), (15, .ireturn, 16, 0, 0), (16, .aload_n 0, 17, 0, 0), (17, .getfield 9, 20, 0, 0), (20, .iload_n 1, 21, 0, 0), (21, .invokestatic 498, 24, 0, 0), (24, .ireturn, 25, 0, 0)]])
def m_J0_coder_7d493 : aM := (yJ0_coder_7d493, cJ0_coder_7d493, 1, (Option.some Jvm.ClassFile.FieldType.byte), [], [[(0, .getstatic 38, 3, 0, 0), (3, .ifCond .eq 10, 6, 13, 0), (6, .aload_n 0, 7, 0, 0), (7, .getfield 15, 10, 0, 0), (10, .goto 4, 13, 14, 0), (13, .iconst 1, 14, 0, 1), (14, .ireturn, 15, 0, 0)]])
def m_J0_isLatin1_aae02 : aM := (yJ0_isLatin1_aae02, cJ0_isLatin1_aae02, 1, (Option.some Jvm.ClassFile.FieldType.boolean), [], [[(0, .getstatic 38, 3, 0, 0), (3, .ifCond .eq 14, 6, 17, 0), (6, .aload_n 0, 7, 0, 0), (7, .getfield 15, 10, 0, 0), (10, .ifCond .ne 7, 13, 17, 0), (13, .iconst 1, 14, 0, 1), (14, .goto 4, 17, 18, 0), (17, .iconst 0, 18, 0, 0), (18, .ireturn, 19, 0, 0)]])
def m_J0_checkIndex_df160 : aM := (yJ0_checkIndex_df160, cJ0_checkIndex_df160, 2, (Option.none : Option Jvm.ClassFile.FieldType), [], [[(0, .iload_n 0, 1, 0, 0), (1, .iload_n 1, 2, 0, 0), (2, .getstatic 1053, 5, 0, 0), (5, .invokestatic 1059, 8, 0, 0), (8, .pop, 9, 0, 0), (9, .return_, 10, 0, 0)]])
def m_J1_charAt_3b067 : aM := (yJ1_charAt_3b067, cJ1_charAt_3b067, 2, (Option.some Jvm.ClassFile.FieldType.char), [], [[(0, .iload_n 1, 1, 0, 0), (1, .aload_n 0, 2, 0, 0), (2, .arraylength, 3, 0, 0), (3, .invokestatic 9, 6, 0, 0), (6, .aload_n 0, 7, 0, 0), (7, .iload_n 1, 8, 0, 0), (8, .baload, 9, 0, 0), (9, .sipush 255, 12, 0, 255), (12, .iand, 13, 0, 0), (13, .i2c, 14, 0, 0), (14, .ireturn, 15, 0, 0)]])
def m_J2_getChar_3b067 : aM := (yJ2_getChar_3b067, cJ2_getChar_3b067, 2, (Option.some Jvm.ClassFile.FieldType.char), [], [[(0, .getstatic 44, 3, 0, 0), (3, .ifCond .ne 25, 6, 28, 0), (6, .iload_n 1, 7, 0, 0), (7, .ifCond .lt 11, 10, 18, 0), (10, .iload_n 1, 11, 0, 0), (11, .aload_n 0, 12, 0, 0), (12, .invokestatic 48, 15, 0, 0), (15, .if_icmp .lt 13, 18, 28, 0), (18, .new 52, 21, 0, 0), (21, .dup, 22, 0, 0), (22, .ldc 54, 24, 0, 0), (24, .invokespecial 56, 27, 0, 0), (27, .athrow, 28, 0, 0), (28, .iload_n 1, 29, 0, 0), (29, .iconst 1, 30, 0, 1), (30, .ishl, 31, 0, 0), (31, .istore_n 1, 32, 0, 0), (32, .aload_n 0, 33, 0, 0), (33, .iload_n 1, 34, 0, 0), (34, .iinc 1 1, 37, 0, 1), (37, .baload, 38, 0, 0), (38, .sipush 255, 41, 0, 255), (41, .iand, 42, 0, 0), (42, .getstatic 59, 45, 0, 0), (45, .ishl, 46, 0, 0), (46, .aload_n 0, 47, 0, 0), (47, .iload_n 1, 48, 0, 0), (48, .baload, 49, 0, 0), (49, .sipush 255, 52, 0, 255), (52, .iand, 53, 0, 0), (53, .getstatic 63, 56, 0, 0), (56, .ishl, 57, 0, 0), (57, .ior, 58, 0, 0), (58, .i2c, 59, 0, 0), (59, .ireturn, 60, 0, 0)]])
def m_J2_length_9d52b : aM := (yJ2_length_9d52b, cJ2_length_9d52b, 1, (Option.some Jvm.ClassFile.FieldType.int), [], [[(0, .aload_n 0, 1, 0, 0), (1, .arraylength, 2, 0, 0), (2, .iconst 1, 3, 0, 1), (3, .ishr, 4, 0, 0), (4, .ireturn, 5, 0, 0)]])
def m_J2_charAt_3b067 : aM := (yJ2_charAt_3b067, cJ2_charAt_3b067, 2, (Option.some Jvm.ClassFile.FieldType.char), [], [[(0, .iload_n 1, 1, 0, 0), (1, .aload_n 0, 2, 0, 0), (2, .invokestatic 67, 5, 0, 0), (5, .aload_n 0, 6, 0, 0), (6, .iload_n 1, 7, 0, 0), (7, .invokestatic 71, 10, 0, 0), (10, .ireturn, 11, 0, 0)]])
def m_J2_checkIndex_2214a : aM := (yJ2_checkIndex_2214a, cJ2_checkIndex_2214a, 2, (Option.none : Option Jvm.ClassFile.FieldType), [], [[(0, .iload_n 0, 1, 0, 0), (1, .aload_n 1, 2, 0, 0), (2, .invokestatic 48, 5, 0, 0), (5, .invokestatic 414, 8, 0, 0), (8, .return_, 9, 0, 0)]])
def m_J3_checkIndex_8e157 : aM := (yJ3_checkIndex_8e157, cJ3_checkIndex_8e157, 3, (Option.some Jvm.ClassFile.FieldType.int), [], [[(0, .iload_n 0, 1, 0, 0), (1, .ifCond .lt 8, 4, 9, 0), (4, .iload_n 0, 5, 0, 0), (5, .iload_n 1, 6, 0, 0), (6, .if_icmp .lt 10, 9, 16, 0), (9, .aload_n 2, 10, 0, 0), (10, .iload_n 0, 11, 0, 0), (11, .iload_n 1, 12, 0, 0), (12, .invokestatic 95, 15, 0, 0), (15, .athrow, 16, 0, 0), (16, .iload_n 0, 17, 0, 0), (17, .ireturn, 18, 0, 0)]])
def m_L_street : aM := (yL_street, cL_street, 3, (Option.some Jvm.ClassFile.FieldType.int), [((0), (8), (11), (13)), ((0), (8), (14), (15))], [[(0, .aload_n 1, 1, 0, 0), (1, .iconst 0, 2, 0, 0), (2, .aload_n 0, 3, 0, 0), (3, .invokevirtual 7, 6, 0, 0), (6, .i2l, 7, 0, 0), (7, .lastore, 8, 0, 0), (8, .goto 9, 11, 17, 0), (11, .astore_n 2, 12, 0, 0), (12, .iconst 1, 13, 0, 1), (13, .ireturn, 14, 0, 0), (14, .astore_n 2, 15, 0, 0), (15, .iconst 2, 16, 0, 2), (16, .ireturn, 17, 0, 0), (17, .iconst 0, 18, 0, 0), (18, .ireturn, 19, 0, 0)]])
def m_L_law : aM := (yL_law, cL_law, 3, (Option.some Jvm.ClassFile.FieldType.int), [((0), (8), (11), (13))], [[(0, .aload_n 1, 1, 0, 0), (1, .iconst 0, 2, 0, 0), (2, .aload_n 0, 3, 0, 0), (3, .invokevirtual 17, 6, 0, 0), (6, .i2l, 7, 0, 0), (7, .lastore, 8, 0, 0), (8, .goto 6, 11, 14, 0), (11, .astore_n 2, 12, 0, 0), (12, .iconst 1, 13, 0, 1), (13, .ireturn, 14, 0, 0), (14, .iconst 0, 15, 0, 0), (15, .ireturn, 16, 0, 0)]])
def m_L_person : aM := (yL_person, cL_person, 5, (Option.some Jvm.ClassFile.FieldType.int), [((0), (10), (13), (24)), ((0), (10), (17), (26))], [[(0, .aload_n 3, 1, 0, 0), (1, .iconst 0, 2, 0, 0), (2, .aload_n 0, 3, 0, 0), (3, .iload_n 1, 4, 0, 0), (4, .iload_n 2, 5, 0, 0), (5, .invokevirtual 20, 8, 0, 0), (8, .i2l, 9, 0, 0), (9, .lastore, 10, 0, 0), (10, .goto 11, 13, 21, 0), (13, .astore 4, 15, 0, 0), (15, .iconst 1, 16, 0, 1), (16, .ireturn, 17, 0, 0), (17, .astore 4, 19, 0, 0), (19, .iconst 2, 20, 0, 2), (20, .ireturn, 21, 0, 0), (21, .iconst 0, 22, 0, 0), (22, .ireturn, 23, 0, 0)]])
def m_L_duty : aM := (yL_duty, cL_duty, 5, (Option.some Jvm.ClassFile.FieldType.int), [((0), (10), (13), (24)), ((0), (10), (17), (26))], [[(0, .aload_n 3, 1, 0, 0), (1, .iconst 0, 2, 0, 0), (2, .aload_n 0, 3, 0, 0), (3, .iload_n 1, 4, 0, 0), (4, .iload_n 2, 5, 0, 0), (5, .invokevirtual 28, 8, 0, 0), (8, .i2l, 9, 0, 0), (9, .lastore, 10, 0, 0), (10, .goto 11, 13, 21, 0), (13, .astore 4, 15, 0, 0), (15, .iconst 1, 16, 0, 1), (16, .ireturn, 17, 0, 0), (17, .astore 4, 19, 0, 0), (19, .iconst 2, 20, 0, 2), (20, .ireturn, 21, 0, 0), (21, .iconst 0, 22, 0, 0), (22, .ireturn, 23, 0, 0)]])
def m_L_call : aM := (yL_call, cL_call, 4, (Option.some Jvm.ClassFile.FieldType.int), [((0), (9), (12), (24)), ((0), (9), (15), (35))], [[(0, .aload_n 2, 1, 0, 0), (1, .iconst 0, 2, 0, 0), (2, .aload_n 0, 3, 0, 0), (3, .iload_n 1, 4, 0, 0), (4, .invokevirtual 31, 7, 0, 0), (7, .i2l, 8, 0, 0), (8, .lastore, 9, 0, 0), (9, .goto 9, 12, 18, 0), (12, .astore_n 3, 13, 0, 0), (13, .iconst 1, 14, 0, 1), (14, .ireturn, 15, 0, 0), (15, .astore_n 3, 16, 0, 0), (16, .iconst 2, 17, 0, 2), (17, .ireturn, 18, 0, 0), (18, .iconst 0, 19, 0, 0), (19, .ireturn, 20, 0, 0)]])
def m_L_put : aM := (yL_put, cL_put, 4, (Option.some Jvm.ClassFile.FieldType.int), [((0), (9), (12), (24)), ((0), (9), (15), (35))], [[(0, .aload_n 2, 1, 0, 0), (1, .iconst 0, 2, 0, 0), (2, .aload_n 0, 3, 0, 0), (3, .iload_n 1, 4, 0, 0), (4, .invokevirtual 37, 7, 0, 0), (7, .i2l, 8, 0, 0), (8, .lastore, 9, 0, 0), (9, .goto 9, 12, 18, 0), (12, .astore_n 3, 13, 0, 0), (13, .iconst 1, 14, 0, 1), (14, .ireturn, 15, 0, 0), (15, .astore_n 3, 16, 0, 0), (16, .iconst 2, 17, 0, 2), (17, .ireturn, 18, 0, 0), (18, .iconst 0, 19, 0, 0), (19, .ireturn, 20, 0, 0)]])
def m_L_forget : aM := (yL_forget, cL_forget, 4, (Option.some Jvm.ClassFile.FieldType.int), [((0), (9), (12), (24)), ((0), (9), (15), (35))], [[(0, .aload_n 2, 1, 0, 0), (1, .iconst 0, 2, 0, 0), (2, .aload_n 0, 3, 0, 0), (3, .iload_n 1, 4, 0, 0), (4, .invokevirtual 40, 7, 0, 0), (7, .i2l, 8, 0, 0), (8, .lastore, 9, 0, 0), (9, .goto 9, 12, 18, 0), (12, .astore_n 3, 13, 0, 0), (13, .iconst 1, 14, 0, 1), (14, .ireturn, 15, 0, 0), (15, .astore_n 3, 16, 0, 0), (16, .iconst 2, 17, 0, 2), (17, .ireturn, 18, 0, 0), (18, .iconst 0, 19, 0, 0), (19, .ireturn, 20, 0, 0)]])
def m_L_recall : aM := (yL_recall, cL_recall, 4, (Option.some Jvm.ClassFile.FieldType.int), [((0), (9), (12), (24)), ((0), (9), (15), (35))], [[(0, .aload_n 2, 1, 0, 0), (1, .iconst 0, 2, 0, 0), (2, .aload_n 0, 3, 0, 0), (3, .iload_n 1, 4, 0, 0), (4, .invokevirtual 43, 7, 0, 0), (7, .i2l, 8, 0, 0), (8, .lastore, 9, 0, 0), (9, .goto 9, 12, 18, 0), (12, .astore_n 3, 13, 0, 0), (13, .iconst 1, 14, 0, 1), (14, .ireturn, 15, 0, 0), (15, .astore_n 3, 16, 0, 0), (16, .iconst 2, 17, 0, 2), (17, .ireturn, 18, 0, 0), (18, .iconst 0, 19, 0, 0), (19, .ireturn, 20, 0, 0)]])
def m_L_hand : aM := (yL_hand, cL_hand, 5, (Option.some Jvm.ClassFile.FieldType.int), [((0), (10), (13), (24)), ((0), (10), (17), (13)), ((0), (10), (21), (35))], [[(0, .aload_n 3, 1, 0, 0), (1, .iconst 0, 2, 0, 0), (2, .aload_n 0, 3, 0, 0), (3, .iload_n 1, 4, 0, 0), (4, .iload_n 2, 5, 0, 0), (5, .invokevirtual 46, 8, 0, 0), (8, .i2l, 9, 0, 0), (9, .lastore, 10, 0, 0), (10, .goto 15, 13, 25, 0), (13, .astore 4, 15, 0, 0), (15, .iconst 1, 16, 0, 1), (16, .ireturn, 17, 0, 0), (17, .astore 4, 19, 0, 0), (19, .iconst 2, 20, 0, 2), (20, .ireturn, 21, 0, 0), (21, .astore 4, 23, 0, 0), (23, .iconst 3, 24, 0, 3), (24, .ireturn, 25, 0, 0), (25, .iconst 0, 26, 0, 0), (26, .ireturn, 27, 0, 0)]])
def m_L_lean : aM := (yL_lean, cL_lean, 5, (Option.some Jvm.ClassFile.FieldType.int), [((0), (10), (13), (24)), ((0), (10), (17), (13))], [[(0, .aload_n 3, 1, 0, 0), (1, .iconst 0, 2, 0, 0), (2, .aload_n 0, 3, 0, 0), (3, .iload_n 1, 4, 0, 0), (4, .iload_n 2, 5, 0, 0), (5, .invokevirtual 49, 8, 0, 0), (8, .i2l, 9, 0, 0), (9, .lastore, 10, 0, 0), (10, .goto 11, 13, 21, 0), (13, .astore 4, 15, 0, 0), (15, .iconst 1, 16, 0, 1), (16, .ireturn, 17, 0, 0), (17, .astore 4, 19, 0, 0), (19, .iconst 2, 20, 0, 2), (20, .ireturn, 21, 0, 0), (21, .iconst 0, 22, 0, 0), (22, .ireturn, 23, 0, 0)]])
def m_L_free : aM := (yL_free, cL_free, 5, (Option.some Jvm.ClassFile.FieldType.int), [((0), (10), (13), (24)), ((0), (10), (17), (13))], [[(0, .aload_n 3, 1, 0, 0), (1, .iconst 0, 2, 0, 0), (2, .aload_n 0, 3, 0, 0), (3, .iload_n 1, 4, 0, 0), (4, .iload_n 2, 5, 0, 0), (5, .invokevirtual 52, 8, 0, 0), (8, .i2l, 9, 0, 0), (9, .lastore, 10, 0, 0), (10, .goto 11, 13, 21, 0), (13, .astore 4, 15, 0, 0), (15, .iconst 1, 16, 0, 1), (16, .ireturn, 17, 0, 0), (17, .astore 4, 19, 0, 0), (19, .iconst 2, 20, 0, 2), (20, .ireturn, 21, 0, 0), (21, .iconst 0, 22, 0, 0), (22, .ireturn, 23, 0, 0)]])
def m_L_days : aM := (yL_days, cL_days, 4, (Option.some Jvm.ClassFile.FieldType.int), [((0), (9), (12), (13))], [[(0, .aload_n 2, 1, 0, 0), (1, .iconst 0, 2, 0, 0), (2, .aload_n 0, 3, 0, 0), (3, .iload_n 1, 4, 0, 0), (4, .invokevirtual 55, 7, 0, 0), (7, .i2l, 8, 0, 0), (8, .lastore, 9, 0, 0), (9, .goto 6, 12, 15, 0), (12, .astore_n 3, 13, 0, 0), (13, .iconst 1, 14, 0, 1), (14, .ireturn, 15, 0, 0), (15, .iconst 0, 16, 0, 0), (16, .ireturn, 17, 0, 0)]])
def m_L_greets : aM := (yL_greets, cL_greets, 5, (Option.some Jvm.ClassFile.FieldType.int), [((0), (10), (13), (24))], [[(0, .aload_n 3, 1, 0, 0), (1, .iconst 0, 2, 0, 0), (2, .aload_n 0, 3, 0, 0), (3, .iload_n 1, 4, 0, 0), (4, .iload_n 2, 5, 0, 0), (5, .invokevirtual 58, 8, 0, 0), (8, .i2l, 9, 0, 0), (9, .lastore, 10, 0, 0), (10, .goto 7, 13, 17, 0), (13, .astore 4, 15, 0, 0), (15, .iconst 1, 16, 0, 1), (16, .ireturn, 17, 0, 0), (17, .iconst 0, 18, 0, 0), (18, .ireturn, 19, 0, 0)]])
def m_L_where : aM := (yL_where, cL_where, 5, (Option.some Jvm.ClassFile.FieldType.int), [((0), (10), (13), (24)), ((0), (10), (17), (13))], [[(0, .aload_n 3, 1, 0, 0), (1, .iconst 0, 2, 0, 0), (2, .aload_n 0, 3, 0, 0), (3, .iload_n 1, 4, 0, 0), (4, .iload_n 2, 5, 0, 0), (5, .invokevirtual 61, 8, 0, 0), (8, .i2l, 9, 0, 0), (9, .lastore, 10, 0, 0), (10, .goto 11, 13, 21, 0), (13, .astore 4, 15, 0, 0), (15, .iconst 1, 16, 0, 1), (16, .ireturn, 17, 0, 0), (17, .astore 4, 19, 0, 0), (19, .iconst 2, 20, 0, 2), (20, .ireturn, 21, 0, 0), (21, .iconst 0, 22, 0, 0), (22, .ireturn, 23, 0, 0)]])
def m_L_crowd : aM := (yL_crowd, cL_crowd, 6, (Option.some Jvm.ClassFile.FieldType.int), [((0), (12), (15), (24)), ((0), (12), (19), (13))], [[(0, .aload 4, 2, 0, 0), (2, .iconst 0, 3, 0, 0), (3, .aload_n 0, 4, 0, 0), (4, .iload_n 1, 5, 0, 0), (5, .iload_n 2, 6, 0, 0), (6, .iload_n 3, 7, 0, 0), (7, .invokevirtual 64, 10, 0, 0), (10, .i2l, 11, 0, 0), (11, .lastore, 12, 0, 0), (12, .goto 11, 15, 23, 0), (15, .astore 5, 17, 0, 0), (17, .iconst 1, 18, 0, 1), (18, .ireturn, 19, 0, 0), (19, .astore 5, 21, 0, 0), (21, .iconst 2, 22, 0, 2), (22, .ireturn, 23, 0, 0), (23, .iconst 0, 24, 0, 0), (24, .ireturn, 25, 0, 0)]])
def m_L_does : aM := (yL_does, cL_does, 5, (Option.some Jvm.ClassFile.FieldType.int), [((0), (10), (13), (13))], [[(0, .aload_n 3, 1, 0, 0), (1, .iconst 0, 2, 0, 0), (2, .aload_n 0, 3, 0, 0), (3, .iload_n 1, 4, 0, 0), (4, .iload_n 2, 5, 0, 0), (5, .invokevirtual 68, 8, 0, 0), (8, .i2l, 9, 0, 0), (9, .lastore, 10, 0, 0), (10, .goto 7, 13, 17, 0), (13, .astore 4, 15, 0, 0), (15, .iconst 1, 16, 0, 1), (16, .ireturn, 17, 0, 0), (17, .iconst 0, 18, 0, 0), (18, .ireturn, 19, 0, 0)]])
def m_L_soon : aM := (yL_soon, cL_soon, 4, (Option.some Jvm.ClassFile.FieldType.int), [((0), (9), (12), (24))], [[(0, .aload_n 2, 1, 0, 0), (1, .iconst 0, 2, 0, 0), (2, .aload_n 0, 3, 0, 0), (3, .iload_n 1, 4, 0, 0), (4, .invokevirtual 72, 7, 0, 0), (7, .i2l, 8, 0, 0), (8, .lastore, 9, 0, 0), (9, .goto 6, 12, 15, 0), (12, .astore_n 3, 13, 0, 0), (13, .iconst 1, 14, 0, 1), (14, .ireturn, 15, 0, 0), (15, .iconst 0, 16, 0, 0), (16, .ireturn, 17, 0, 0)]])
def m_L_before : aM := (yL_before, cL_before, 4, (Option.some Jvm.ClassFile.FieldType.int), [((0), (9), (12), (24))], [[(0, .aload_n 2, 1, 0, 0), (1, .iconst 0, 2, 0, 0), (2, .aload_n 0, 3, 0, 0), (3, .iload_n 1, 4, 0, 0), (4, .invokevirtual 75, 7, 0, 0), (7, .i2l, 8, 0, 0), (8, .lastore, 9, 0, 0), (9, .goto 6, 12, 15, 0), (12, .astore_n 3, 13, 0, 0), (13, .iconst 1, 14, 0, 1), (14, .ireturn, 15, 0, 0), (15, .iconst 0, 16, 0, 0), (16, .ireturn, 17, 0, 0)]])
def m_L_after : aM := (yL_after, cL_after, 4, (Option.some Jvm.ClassFile.FieldType.int), [((0), (9), (12), (24))], [[(0, .aload_n 2, 1, 0, 0), (1, .iconst 0, 2, 0, 0), (2, .aload_n 0, 3, 0, 0), (3, .iload_n 1, 4, 0, 0), (4, .invokevirtual 78, 7, 0, 0), (7, .i2l, 8, 0, 0), (8, .lastore, 9, 0, 0), (9, .goto 6, 12, 15, 0), (12, .astore_n 3, 13, 0, 0), (13, .iconst 1, 14, 0, 1), (14, .ireturn, 15, 0, 0), (15, .iconst 0, 16, 0, 0), (16, .ireturn, 17, 0, 0)]])
def m_L_depth : aM := (yL_depth, cL_depth, 4, (Option.some Jvm.ClassFile.FieldType.int), [((0), (9), (12), (24))], [[(0, .aload_n 2, 1, 0, 0), (1, .iconst 0, 2, 0, 0), (2, .aload_n 0, 3, 0, 0), (3, .iload_n 1, 4, 0, 0), (4, .invokevirtual 81, 7, 0, 0), (7, .i2l, 8, 0, 0), (8, .lastore, 9, 0, 0), (9, .goto 6, 12, 15, 0), (12, .astore_n 3, 13, 0, 0), (13, .iconst 1, 14, 0, 1), (14, .ireturn, 15, 0, 0), (15, .iconst 0, 16, 0, 0), (16, .ireturn, 17, 0, 0)]])
def m_L_young : aM := (yL_young, cL_young, 4, (Option.some Jvm.ClassFile.FieldType.int), [((0), (9), (12), (13))], [[(0, .aload_n 2, 1, 0, 0), (1, .iconst 0, 2, 0, 0), (2, .aload_n 0, 3, 0, 0), (3, .iload_n 1, 4, 0, 0), (4, .invokevirtual 84, 7, 0, 0), (7, .i2l, 8, 0, 0), (8, .lastore, 9, 0, 0), (9, .goto 6, 12, 15, 0), (12, .astore_n 3, 13, 0, 0), (13, .iconst 1, 14, 0, 1), (14, .ireturn, 15, 0, 0), (15, .iconst 0, 16, 0, 0), (16, .ireturn, 17, 0, 0)]])
def m_L_older : aM := (yL_older, cL_older, 4, (Option.some Jvm.ClassFile.FieldType.int), [((0), (9), (12), (13))], [[(0, .aload_n 2, 1, 0, 0), (1, .iconst 0, 2, 0, 0), (2, .aload_n 0, 3, 0, 0), (3, .iload_n 1, 4, 0, 0), (4, .invokevirtual 87, 7, 0, 0), (7, .i2l, 8, 0, 0), (8, .lastore, 9, 0, 0), (9, .goto 6, 12, 15, 0), (12, .astore_n 3, 13, 0, 0), (13, .iconst 1, 14, 0, 1), (14, .ireturn, 15, 0, 0), (15, .iconst 0, 16, 0, 0), (16, .ireturn, 17, 0, 0)]])
def m_L_whose : aM := (yL_whose, cL_whose, 3, (Option.some Jvm.ClassFile.FieldType.int), [((0), (8), (11), (13))], [[(0, .aload_n 1, 1, 0, 0), (1, .iconst 0, 2, 0, 0), (2, .aload_n 0, 3, 0, 0), (3, .invokevirtual 90, 6, 0, 0), (6, .i2l, 7, 0, 0), (7, .lastore, 8, 0, 0), (8, .goto 6, 11, 14, 0), (11, .astore_n 2, 12, 0, 0), (12, .iconst 1, 13, 0, 1), (13, .ireturn, 14, 0, 0), (14, .iconst 0, 15, 0, 0), (15, .ireturn, 16, 0, 0)]])
def m_L_ask : aM := (yL_ask, cL_ask, 3, (Option.some Jvm.ClassFile.FieldType.int), [((0), (8), (11), (13))], [[(0, .aload_n 1, 1, 0, 0), (1, .iconst 0, 2, 0, 0), (2, .aload_n 0, 3, 0, 0), (3, .invokevirtual 93, 6, 0, 0), (6, .i2l, 7, 0, 0), (7, .lastore, 8, 0, 0), (8, .goto 6, 11, 14, 0), (11, .astore_n 2, 12, 0, 0), (12, .iconst 1, 13, 0, 1), (13, .ireturn, 14, 0, 0), (14, .iconst 0, 15, 0, 0), (15, .ireturn, 16, 0, 0)]])
def m_L_swap : aM := (yL_swap, cL_swap, 5, (Option.some Jvm.ClassFile.FieldType.int), [((0), (10), (13), (24)), ((0), (10), (17), (13))], [[(0, .aload_n 3, 1, 0, 0), (1, .iconst 0, 2, 0, 0), (2, .aload_n 0, 3, 0, 0), (3, .iload_n 1, 4, 0, 0), (4, .iload_n 2, 5, 0, 0), (5, .invokevirtual 96, 8, 0, 0), (8, .i2l, 9, 0, 0), (9, .lastore, 10, 0, 0), (10, .goto 11, 13, 21, 0), (13, .astore 4, 15, 0, 0), (15, .iconst 1, 16, 0, 1), (16, .ireturn, 17, 0, 0), (17, .astore 4, 19, 0, 0), (19, .iconst 2, 20, 0, 2), (20, .ireturn, 21, 0, 0), (21, .iconst 0, 22, 0, 0), (22, .ireturn, 23, 0, 0)]])
def m_L_rests : aM := (yL_rests, cL_rests, 6, (Option.some Jvm.ClassFile.FieldType.int), [((0), (12), (15), (24)), ((0), (12), (19), (13))], [[(0, .aload 4, 2, 0, 0), (2, .iconst 0, 3, 0, 0), (3, .aload_n 0, 4, 0, 0), (4, .iload_n 1, 5, 0, 0), (5, .iload_n 2, 6, 0, 0), (6, .iload_n 3, 7, 0, 0), (7, .invokevirtual 99, 10, 0, 0), (10, .i2l, 11, 0, 0), (11, .lastore, 12, 0, 0), (12, .goto 11, 15, 23, 0), (15, .astore 5, 17, 0, 0), (17, .iconst 1, 18, 0, 1), (18, .ireturn, 19, 0, 0), (19, .astore 5, 21, 0, 0), (21, .iconst 2, 22, 0, 2), (22, .ireturn, 23, 0, 0), (23, .iconst 0, 24, 0, 0), (24, .ireturn, 25, 0, 0)]])
def m_L_odds : aM := (yL_odds, cL_odds, 5, (Option.some Jvm.ClassFile.FieldType.int), [((0), (10), (13), (13))], [[(0, .aload_n 3, 1, 0, 0), (1, .iconst 0, 2, 0, 0), (2, .aload_n 0, 3, 0, 0), (3, .iload_n 1, 4, 0, 0), (4, .iload_n 2, 5, 0, 0), (5, .invokevirtual 102, 8, 0, 0), (8, .i2l, 9, 0, 0), (9, .lastore, 10, 0, 0), (10, .goto 7, 13, 17, 0), (13, .astore 4, 15, 0, 0), (15, .iconst 1, 16, 0, 1), (16, .ireturn, 17, 0, 0), (17, .iconst 0, 18, 0, 0), (18, .ireturn, 19, 0, 0)]])
def m_L_spare : aM := (yL_spare, cL_spare, 5, (Option.some Jvm.ClassFile.FieldType.int), [((0), (10), (13), (24)), ((0), (10), (17), (13))], [[(0, .aload_n 3, 1, 0, 0), (1, .iconst 0, 2, 0, 0), (2, .aload_n 0, 3, 0, 0), (3, .iload_n 1, 4, 0, 0), (4, .iload_n 2, 5, 0, 0), (5, .invokevirtual 105, 8, 0, 0), (8, .i2l, 9, 0, 0), (9, .lastore, 10, 0, 0), (10, .goto 11, 13, 21, 0), (13, .astore 4, 15, 0, 0), (15, .iconst 1, 16, 0, 1), (16, .ireturn, 17, 0, 0), (17, .astore 4, 19, 0, 0), (19, .iconst 2, 20, 0, 2), (20, .ireturn, 21, 0, 0), (21, .iconst 0, 22, 0, 0), (22, .ireturn, 23, 0, 0)]])
def m_L_done : aM := (yL_done, cL_done, 4, (Option.some Jvm.ClassFile.FieldType.int), [((0), (9), (12), (24))], [[(0, .aload_n 2, 1, 0, 0), (1, .iconst 0, 2, 0, 0), (2, .aload_n 0, 3, 0, 0), (3, .iload_n 1, 4, 0, 0), (4, .invokevirtual 108, 7, 0, 0), (7, .i2l, 8, 0, 0), (8, .lastore, 9, 0, 0), (9, .goto 6, 12, 15, 0), (12, .astore_n 3, 13, 0, 0), (13, .iconst 1, 14, 0, 1), (14, .ireturn, 15, 0, 0), (15, .iconst 0, 16, 0, 0), (16, .ireturn, 17, 0, 0)]])
def m_L_sick : aM := (yL_sick, cL_sick, 4, (Option.some Jvm.ClassFile.FieldType.int), [((0), (9), (12), (24))], [[(0, .aload_n 2, 1, 0, 0), (1, .iconst 0, 2, 0, 0), (2, .aload_n 0, 3, 0, 0), (3, .iload_n 1, 4, 0, 0), (4, .invokevirtual 111, 7, 0, 0), (7, .i2l, 8, 0, 0), (8, .lastore, 9, 0, 0), (9, .goto 6, 12, 15, 0), (12, .astore_n 3, 13, 0, 0), (13, .iconst 1, 14, 0, 1), (14, .ireturn, 15, 0, 0), (15, .iconst 0, 16, 0, 0), (16, .ireturn, 17, 0, 0)]])
def m_L_ahead : aM := (yL_ahead, cL_ahead, 6, (Option.some Jvm.ClassFile.FieldType.int), [((0), (12), (15), (24)), ((0), (12), (19), (13)), ((0), (12), (23), (26))], [[(0, .aload 4, 2, 0, 0), (2, .iconst 0, 3, 0, 0), (3, .aload_n 0, 4, 0, 0), (4, .iload_n 1, 5, 0, 0), (5, .iload_n 2, 6, 0, 0), (6, .iload_n 3, 7, 0, 0), (7, .invokevirtual 114, 10, 0, 0), (10, .i2l, 11, 0, 0), (11, .lastore, 12, 0, 0), (12, .goto 15, 15, 27, 0), (15, .astore 5, 17, 0, 0), (17, .iconst 1, 18, 0, 1), (18, .ireturn, 19, 0, 0), (19, .astore 5, 21, 0, 0), (21, .iconst 2, 22, 0, 2), (22, .ireturn, 23, 0, 0), (23, .astore 5, 25, 0, 0), (25, .iconst 3, 26, 0, 3), (26, .ireturn, 27, 0, 0), (27, .iconst 0, 28, 0, 0), (28, .ireturn, 29, 0, 0)]])
def m_L_trial : aM := (yL_trial, cL_trial, 5, (Option.some Jvm.ClassFile.FieldType.int), [((0), (10), (13), (13))], [[(0, .aload_n 3, 1, 0, 0), (1, .iconst 0, 2, 0, 0), (2, .aload_n 0, 3, 0, 0), (3, .iload_n 1, 4, 0, 0), (4, .iload_n 2, 5, 0, 0), (5, .invokevirtual 117, 8, 0, 0), (8, .i2l, 9, 0, 0), (9, .lastore, 10, 0, 0), (10, .goto 7, 13, 17, 0), (13, .astore 4, 15, 0, 0), (15, .iconst 1, 16, 0, 1), (16, .ireturn, 17, 0, 0), (17, .iconst 0, 18, 0, 0), (18, .ireturn, 19, 0, 0)]])
def m_L_span : aM := (yL_span, cL_span, 5, (Option.some Jvm.ClassFile.FieldType.int), [((0), (10), (13), (13))], [[(0, .aload_n 3, 1, 0, 0), (1, .iconst 0, 2, 0, 0), (2, .aload_n 0, 3, 0, 0), (3, .iload_n 1, 4, 0, 0), (4, .iload_n 2, 5, 0, 0), (5, .invokevirtual 120, 8, 0, 0), (8, .i2l, 9, 0, 0), (9, .lastore, 10, 0, 0), (10, .goto 7, 13, 17, 0), (13, .astore 4, 15, 0, 0), (15, .iconst 1, 16, 0, 1), (16, .ireturn, 17, 0, 0), (17, .iconst 0, 18, 0, 0), (18, .ireturn, 19, 0, 0)]])
def m_L_led : aM := (yL_led, cL_led, 5, (Option.some Jvm.ClassFile.FieldType.int), [((0), (10), (13), (24))], [[(0, .aload_n 3, 1, 0, 0), (1, .iconst 0, 2, 0, 0), (2, .aload_n 0, 3, 0, 0), (3, .iload_n 1, 4, 0, 0), (4, .iload_n 2, 5, 0, 0), (5, .invokevirtual 123, 8, 0, 0), (8, .i2l, 9, 0, 0), (9, .lastore, 10, 0, 0), (10, .goto 7, 13, 17, 0), (13, .astore 4, 15, 0, 0), (15, .iconst 1, 16, 0, 1), (16, .ireturn, 17, 0, 0), (17, .iconst 0, 18, 0, 0), (18, .ireturn, 19, 0, 0)]])
def m_L_log : aM := (yL_log, cL_log, 5, (Option.some Jvm.ClassFile.FieldType.int), [((0), (10), (13), (26))], [[(0, .aload_n 3, 1, 0, 0), (1, .iconst 0, 2, 0, 0), (2, .aload_n 0, 3, 0, 0), (3, .iload_n 1, 4, 0, 0), (4, .iload_n 2, 5, 0, 0), (5, .invokevirtual 126, 8, 0, 0), (8, .i2l, 9, 0, 0), (9, .lastore, 10, 0, 0), (10, .goto 7, 13, 17, 0), (13, .astore 4, 15, 0, 0), (15, .iconst 1, 16, 0, 1), (16, .ireturn, 17, 0, 0), (17, .iconst 0, 18, 0, 0), (18, .ireturn, 19, 0, 0)]])
theorem ok_J6_bitCount_0f7a4 : okM m_J6_bitCount_0f7a4 = true := okM_q (by decide +kernel)
theorem ok_J0_length_8abf5 : okM m_J0_length_8abf5 = true := okM_q (by decide +kernel)
theorem ok_J0_charAt_5068e : okM m_J0_charAt_5068e = true := okM_q (by decide +kernel)
theorem ok_J0_coder_7d493 : okM m_J0_coder_7d493 = true := okM_q (by decide +kernel)
theorem ok_J0_isLatin1_aae02 : okM m_J0_isLatin1_aae02 = true := okM_q (by decide +kernel)
theorem ok_J0_checkIndex_df160 : okM m_J0_checkIndex_df160 = true := okM_q (by decide +kernel)
theorem ok_J1_charAt_3b067 : okM m_J1_charAt_3b067 = true := okM_q (by decide +kernel)
theorem ok_J2_getChar_3b067 : okM m_J2_getChar_3b067 = true := okM_q (by decide +kernel)
theorem ok_J2_length_9d52b : okM m_J2_length_9d52b = true := okM_q (by decide +kernel)
theorem ok_J2_charAt_3b067 : okM m_J2_charAt_3b067 = true := okM_q (by decide +kernel)
theorem ok_J2_checkIndex_2214a : okM m_J2_checkIndex_2214a = true := okM_q (by decide +kernel)
theorem ok_J3_checkIndex_8e157 : okM m_J3_checkIndex_8e157 = true := okM_q (by decide +kernel)
theorem ok_L_street : okM m_L_street = true := okM_q (by decide +kernel)
theorem ok_L_law : okM m_L_law = true := okM_q (by decide +kernel)
theorem ok_L_person : okM m_L_person = true := okM_q (by decide +kernel)
theorem ok_L_duty : okM m_L_duty = true := okM_q (by decide +kernel)
theorem ok_L_call : okM m_L_call = true := okM_q (by decide +kernel)
theorem ok_L_put : okM m_L_put = true := okM_q (by decide +kernel)
theorem ok_L_forget : okM m_L_forget = true := okM_q (by decide +kernel)
theorem ok_L_recall : okM m_L_recall = true := okM_q (by decide +kernel)
theorem ok_L_hand : okM m_L_hand = true := okM_q (by decide +kernel)
theorem ok_L_lean : okM m_L_lean = true := okM_q (by decide +kernel)
theorem ok_L_free : okM m_L_free = true := okM_q (by decide +kernel)
theorem ok_L_days : okM m_L_days = true := okM_q (by decide +kernel)
theorem ok_L_greets : okM m_L_greets = true := okM_q (by decide +kernel)
theorem ok_L_where : okM m_L_where = true := okM_q (by decide +kernel)
theorem ok_L_crowd : okM m_L_crowd = true := okM_q (by decide +kernel)
theorem ok_L_does : okM m_L_does = true := okM_q (by decide +kernel)
theorem ok_L_soon : okM m_L_soon = true := okM_q (by decide +kernel)
theorem ok_L_before : okM m_L_before = true := okM_q (by decide +kernel)
theorem ok_L_after : okM m_L_after = true := okM_q (by decide +kernel)
theorem ok_L_depth : okM m_L_depth = true := okM_q (by decide +kernel)
theorem ok_L_young : okM m_L_young = true := okM_q (by decide +kernel)
theorem ok_L_older : okM m_L_older = true := okM_q (by decide +kernel)
theorem ok_L_whose : okM m_L_whose = true := okM_q (by decide +kernel)
theorem ok_L_ask : okM m_L_ask = true := okM_q (by decide +kernel)
theorem ok_L_swap : okM m_L_swap = true := okM_q (by decide +kernel)
theorem ok_L_rests : okM m_L_rests = true := okM_q (by decide +kernel)
theorem ok_L_odds : okM m_L_odds = true := okM_q (by decide +kernel)
theorem ok_L_spare : okM m_L_spare = true := okM_q (by decide +kernel)
theorem ok_L_done : okM m_L_done = true := okM_q (by decide +kernel)
theorem ok_L_sick : okM m_L_sick = true := okM_q (by decide +kernel)
theorem ok_L_ahead : okM m_L_ahead = true := okM_q (by decide +kernel)
theorem ok_L_trial : okM m_L_trial = true := okM_q (by decide +kernel)
theorem ok_L_span : okM m_L_span = true := okM_q (by decide +kernel)
theorem ok_L_led : okM m_L_led = true := okM_q (by decide +kernel)
theorem ok_L_log : okM m_L_log = true := okM_q (by decide +kernel)
end
section
/-! ===== links, printed by program out of the tables ===== -/
set_option maxRecDepth 20000 in
theorem awk_0 : ∀ w ∈ [u_lay RX0 TX0 0, u_lay RX0 TX0 1], w ∈ lw_tbl ∧ goodWord w = true := List.forall_mem_cons.mpr ⟨⟨inD2 (i := 71) rfl, rfl⟩, List.forall_mem_cons.mpr ⟨⟨inD2 (i := 73) rfl, rfl⟩, fun w hw => absurd hw List.not_mem_nil⟩⟩
set_option maxRecDepth 20000 in
theorem aok_0 : aOk ((RX0, TX0, 2), tyX0) := ⟨awk_0, nmX0, tyX0_ok⟩
set_option maxRecDepth 20000 in
theorem awk_1 : ∀ w ∈ [u_lay RX1 TX1 0, u_lay RX1 TX1 1, u_lay RX1 TX1 2], w ∈ lw_tbl ∧ goodWord w = true := List.forall_mem_cons.mpr ⟨⟨inD1 (i := 124) rfl, rfl⟩, List.forall_mem_cons.mpr ⟨⟨inD1 (i := 126) rfl, rfl⟩, List.forall_mem_cons.mpr ⟨⟨inD1 (i := 128) rfl, rfl⟩, fun w hw => absurd hw List.not_mem_nil⟩⟩⟩
set_option maxRecDepth 20000 in
theorem aok_1 : aOk ((RX1, TX1, 3), tyX1) := ⟨awk_1, nmX1, tyX1_ok⟩
set_option maxRecDepth 20000 in
theorem awk_2 : ∀ w ∈ [u_lay RX2 TX2 0, u_lay RX2 TX2 1, u_lay RX2 TX2 2, u_lay RX2 TX2 3, u_lay RX2 TX2 4, u_lay RX2 TX2 5, u_lay RX2 TX2 6, u_lay RX2 TX2 7, u_lay RX2 TX2 8], w ∈ lw_tbl ∧ goodWord w = true := List.forall_mem_cons.mpr ⟨⟨inD2 (i := 24) rfl, rfl⟩, List.forall_mem_cons.mpr ⟨⟨inD2 (i := 26) rfl, rfl⟩, List.forall_mem_cons.mpr ⟨⟨inD2 (i := 28) rfl, rfl⟩, List.forall_mem_cons.mpr ⟨⟨inD2 (i := 30) rfl, rfl⟩, List.forall_mem_cons.mpr ⟨⟨inD2 (i := 32) rfl, rfl⟩, List.forall_mem_cons.mpr ⟨⟨inD2 (i := 34) rfl, rfl⟩, List.forall_mem_cons.mpr ⟨⟨inD2 (i := 36) rfl, rfl⟩, List.forall_mem_cons.mpr ⟨⟨inD2 (i := 38) rfl, rfl⟩, List.forall_mem_cons.mpr ⟨⟨inD2 (i := 40) rfl, rfl⟩, fun w hw => absurd hw List.not_mem_nil⟩⟩⟩⟩⟩⟩⟩⟩⟩
set_option maxRecDepth 20000 in
theorem aok_2 : aOk ((RX2, TX2, 9), tyX2) := ⟨awk_2, nmX2, tyX2_ok⟩
set_option maxRecDepth 20000 in
theorem awk_3 : ∀ w ∈ [u_lay RX3 TX3 0, u_lay RX3 TX3 1, u_lay RX3 TX3 2, u_lay RX3 TX3 3, u_lay RX3 TX3 4, u_lay RX3 TX3 5], w ∈ lw_tbl ∧ goodWord w = true := List.forall_mem_cons.mpr ⟨⟨inD2 (i := 56) rfl, rfl⟩, List.forall_mem_cons.mpr ⟨⟨inD2 (i := 57) rfl, rfl⟩, List.forall_mem_cons.mpr ⟨⟨inD2 (i := 48) rfl, rfl⟩, List.forall_mem_cons.mpr ⟨⟨inD2 (i := 50) rfl, rfl⟩, List.forall_mem_cons.mpr ⟨⟨inD2 (i := 52) rfl, rfl⟩, List.forall_mem_cons.mpr ⟨⟨inD2 (i := 54) rfl, rfl⟩, fun w hw => absurd hw List.not_mem_nil⟩⟩⟩⟩⟩⟩
set_option maxRecDepth 20000 in
theorem aok_3 : aOk ((RX3, TX3, 6), tyX3) := ⟨awk_3, nmX3, tyX3_ok⟩
set_option maxRecDepth 20000 in
theorem awk_5 : ∀ w ∈ [u_lay RX5 TX5 0, u_lay RX5 TX5 1, u_lay RX5 TX5 2, u_lay RX5 TX5 3, u_lay RX5 TX5 4, u_lay RX5 TX5 5, u_lay RX5 TX5 6, u_lay RX5 TX5 7, u_lay RX5 TX5 8, u_lay RX5 TX5 9, u_lay RX5 TX5 10, u_lay RX5 TX5 11, u_lay RX5 TX5 12, u_lay RX5 TX5 13, u_lay RX5 TX5 14, u_lay RX5 TX5 15, u_lay RX5 TX5 16, u_lay RX5 TX5 17], w ∈ lw_tbl ∧ goodWord w = true := List.forall_mem_cons.mpr ⟨⟨inD1 (i := 190) rfl, rfl⟩, List.forall_mem_cons.mpr ⟨⟨inD1 (i := 192) rfl, rfl⟩, List.forall_mem_cons.mpr ⟨⟨inD1 (i := 194) rfl, rfl⟩, List.forall_mem_cons.mpr ⟨⟨inD1 (i := 196) rfl, rfl⟩, List.forall_mem_cons.mpr ⟨⟨inD1 (i := 198) rfl, rfl⟩, List.forall_mem_cons.mpr ⟨⟨inD1 (i := 200) rfl, rfl⟩, List.forall_mem_cons.mpr ⟨⟨inD1 (i := 202) rfl, rfl⟩, List.forall_mem_cons.mpr ⟨⟨inD1 (i := 204) rfl, rfl⟩, List.forall_mem_cons.mpr ⟨⟨inD1 (i := 206) rfl, rfl⟩, List.forall_mem_cons.mpr ⟨⟨inD1 (i := 208) rfl, rfl⟩, List.forall_mem_cons.mpr ⟨⟨inD1 (i := 210) rfl, rfl⟩, List.forall_mem_cons.mpr ⟨⟨inD1 (i := 212) rfl, rfl⟩, List.forall_mem_cons.mpr ⟨⟨inD1 (i := 214) rfl, rfl⟩, List.forall_mem_cons.mpr ⟨⟨inD1 (i := 216) rfl, rfl⟩, List.forall_mem_cons.mpr ⟨⟨inD1 (i := 218) rfl, rfl⟩, List.forall_mem_cons.mpr ⟨⟨inD1 (i := 220) rfl, rfl⟩, List.forall_mem_cons.mpr ⟨⟨inD1 (i := 222) rfl, rfl⟩, List.forall_mem_cons.mpr ⟨⟨inD1 (i := 224) rfl, rfl⟩, fun w hw => absurd hw List.not_mem_nil⟩⟩⟩⟩⟩⟩⟩⟩⟩⟩⟩⟩⟩⟩⟩⟩⟩⟩
set_option maxRecDepth 20000 in
theorem aok_5 : aOk ((RX5, TX5, 18), tyX5) := ⟨awk_5, nmX5, tyX5_ok⟩
set_option maxRecDepth 20000 in
theorem awk_6 : ∀ w ∈ [u_lay RX6 TX6 0, u_lay RX6 TX6 1, u_lay RX6 TX6 2], w ∈ lw_tbl ∧ goodWord w = true := List.forall_mem_cons.mpr ⟨⟨inD1 (i := 237) rfl, rfl⟩, List.forall_mem_cons.mpr ⟨⟨inD1 (i := 239) rfl, rfl⟩, List.forall_mem_cons.mpr ⟨⟨inD1 (i := 235) rfl, rfl⟩, fun w hw => absurd hw List.not_mem_nil⟩⟩⟩
set_option maxRecDepth 20000 in
theorem aok_6 : aOk ((RX6, TX6, 3), tyX6) := ⟨awk_6, nmX6, tyX6_ok⟩
set_option maxRecDepth 20000 in
theorem awk_7 : ∀ w ∈ [u_lay RX7 TX7 0, u_lay RX7 TX7 1], w ∈ lw_tbl ∧ goodWord w = true := List.forall_mem_cons.mpr ⟨⟨inD1 (i := 48) rfl, rfl⟩, List.forall_mem_cons.mpr ⟨⟨inD1 (i := 50) rfl, rfl⟩, fun w hw => absurd hw List.not_mem_nil⟩⟩
set_option maxRecDepth 20000 in
theorem aok_7 : aOk ((RX7, TX7, 2), tyX7) := ⟨awk_7, nmX7, tyX7_ok⟩
set_option maxRecDepth 20000 in
theorem awk_9 : ∀ w ∈ [u_lay RX9 TX9 0, u_lay RX9 TX9 1, u_lay RX9 TX9 2, u_lay RX9 TX9 3, u_lay RX9 TX9 4, u_lay RX9 TX9 5, u_lay RX9 TX9 6, u_lay RX9 TX9 7, u_lay RX9 TX9 8, u_lay RX9 TX9 9], w ∈ lw_tbl ∧ goodWord w = true := List.forall_mem_cons.mpr ⟨⟨inD1 (i := 86) rfl, rfl⟩, List.forall_mem_cons.mpr ⟨⟨inD1 (i := 88) rfl, rfl⟩, List.forall_mem_cons.mpr ⟨⟨inD1 (i := 90) rfl, rfl⟩, List.forall_mem_cons.mpr ⟨⟨inD1 (i := 92) rfl, rfl⟩, List.forall_mem_cons.mpr ⟨⟨inD1 (i := 94) rfl, rfl⟩, List.forall_mem_cons.mpr ⟨⟨inD1 (i := 96) rfl, rfl⟩, List.forall_mem_cons.mpr ⟨⟨inD1 (i := 98) rfl, rfl⟩, List.forall_mem_cons.mpr ⟨⟨inD1 (i := 100) rfl, rfl⟩, List.forall_mem_cons.mpr ⟨⟨inD1 (i := 102) rfl, rfl⟩, List.forall_mem_cons.mpr ⟨⟨inD1 (i := 104) rfl, rfl⟩, fun w hw => absurd hw List.not_mem_nil⟩⟩⟩⟩⟩⟩⟩⟩⟩⟩
set_option maxRecDepth 20000 in
theorem aok_9 : aOk ((RX9, TX9, 10), tyX9) := ⟨awk_9, nmX9, tyX9_ok⟩
set_option maxRecDepth 20000 in
theorem awk_11 : ∀ w ∈ [u_lay RX11 TX11 0, u_lay RX11 TX11 1, u_lay RX11 TX11 2, u_lay RX11 TX11 3, u_lay RX11 TX11 4, u_lay RX11 TX11 5, u_lay RX11 TX11 6, u_lay RX11 TX11 7, u_lay RX11 TX11 8, u_lay RX11 TX11 9, u_lay RX11 TX11 10, u_lay RX11 TX11 11, u_lay RX11 TX11 12, u_lay RX11 TX11 13], w ∈ lw_tbl ∧ goodWord w = true := List.forall_mem_cons.mpr ⟨⟨inD2 (i := 91) rfl, rfl⟩, List.forall_mem_cons.mpr ⟨⟨inD2 (i := 93) rfl, rfl⟩, List.forall_mem_cons.mpr ⟨⟨inD2 (i := 95) rfl, rfl⟩, List.forall_mem_cons.mpr ⟨⟨inD2 (i := 97) rfl, rfl⟩, List.forall_mem_cons.mpr ⟨⟨inD2 (i := 99) rfl, rfl⟩, List.forall_mem_cons.mpr ⟨⟨inD2 (i := 101) rfl, rfl⟩, List.forall_mem_cons.mpr ⟨⟨inD2 (i := 103) rfl, rfl⟩, List.forall_mem_cons.mpr ⟨⟨inD2 (i := 105) rfl, rfl⟩, List.forall_mem_cons.mpr ⟨⟨inD2 (i := 107) rfl, rfl⟩, List.forall_mem_cons.mpr ⟨⟨inD2 (i := 109) rfl, rfl⟩, List.forall_mem_cons.mpr ⟨⟨inD2 (i := 111) rfl, rfl⟩, List.forall_mem_cons.mpr ⟨⟨inD2 (i := 113) rfl, rfl⟩, List.forall_mem_cons.mpr ⟨⟨inD2 (i := 115) rfl, rfl⟩, List.forall_mem_cons.mpr ⟨⟨inD2 (i := 117) rfl, rfl⟩, fun w hw => absurd hw List.not_mem_nil⟩⟩⟩⟩⟩⟩⟩⟩⟩⟩⟩⟩⟩⟩
set_option maxRecDepth 20000 in
theorem aok_11 : aOk ((RX11, TX11, 14), tyX11) := ⟨awk_11, nmX11, tyX11_ok⟩
set_option maxRecDepth 20000 in
theorem awk_12 : ∀ w ∈ [u_lay RX12 TX12 0, u_lay RX12 TX12 1, u_lay RX12 TX12 2, u_lay RX12 TX12 3, u_lay RX12 TX12 4, u_lay RX12 TX12 5, u_lay RX12 TX12 6, u_lay RX12 TX12 7, u_lay RX12 TX12 8, u_lay RX12 TX12 9, u_lay RX12 TX12 10, u_lay RX12 TX12 11, u_lay RX12 TX12 12, u_lay RX12 TX12 13, u_lay RX12 TX12 14, u_lay RX12 TX12 15, u_lay RX12 TX12 16, u_lay RX12 TX12 17, u_lay RX12 TX12 18, u_lay RX12 TX12 19], w ∈ lw_tbl ∧ goodWord w = true := List.forall_mem_cons.mpr ⟨⟨inD7 (i := 55) rfl, rfl⟩, List.forall_mem_cons.mpr ⟨⟨inD7 (i := 57) rfl, rfl⟩, List.forall_mem_cons.mpr ⟨⟨inD7 (i := 59) rfl, rfl⟩, List.forall_mem_cons.mpr ⟨⟨inD7 (i := 61) rfl, rfl⟩, List.forall_mem_cons.mpr ⟨⟨inD7 (i := 63) rfl, rfl⟩, List.forall_mem_cons.mpr ⟨⟨inD7 (i := 65) rfl, rfl⟩, List.forall_mem_cons.mpr ⟨⟨inD7 (i := 67) rfl, rfl⟩, List.forall_mem_cons.mpr ⟨⟨inD7 (i := 69) rfl, rfl⟩, List.forall_mem_cons.mpr ⟨⟨inD7 (i := 71) rfl, rfl⟩, List.forall_mem_cons.mpr ⟨⟨inD7 (i := 73) rfl, rfl⟩, List.forall_mem_cons.mpr ⟨⟨inD7 (i := 75) rfl, rfl⟩, List.forall_mem_cons.mpr ⟨⟨inD7 (i := 77) rfl, rfl⟩, List.forall_mem_cons.mpr ⟨⟨inD7 (i := 79) rfl, rfl⟩, List.forall_mem_cons.mpr ⟨⟨inD7 (i := 81) rfl, rfl⟩, List.forall_mem_cons.mpr ⟨⟨inD7 (i := 83) rfl, rfl⟩, List.forall_mem_cons.mpr ⟨⟨inD7 (i := 85) rfl, rfl⟩, List.forall_mem_cons.mpr ⟨⟨inD7 (i := 87) rfl, rfl⟩, List.forall_mem_cons.mpr ⟨⟨inD7 (i := 89) rfl, rfl⟩, List.forall_mem_cons.mpr ⟨⟨inD7 (i := 91) rfl, rfl⟩, List.forall_mem_cons.mpr ⟨⟨inD7 (i := 93) rfl, rfl⟩, fun w hw => absurd hw List.not_mem_nil⟩⟩⟩⟩⟩⟩⟩⟩⟩⟩⟩⟩⟩⟩⟩⟩⟩⟩⟩⟩
set_option maxRecDepth 20000 in
theorem aok_12 : aOk ((RX12, TX12, 20), tyX12) := ⟨awk_12, nmX12, tyX12_ok⟩
set_option maxRecDepth 20000 in
theorem fX11_10_11 : LF RX11 10 11 0 ((RX11, TX11, 14), tyX11) := ⟨rfl, aok_11, by decide, RX11, inD2 (i := 77) rfl, Or.inl rfl⟩
set_option maxRecDepth 20000 in
theorem gfX11_10_11 : LFr RX11 10 11 0 := ⟨_, fX11_10_11, rfl⟩
set_option maxRecDepth 20000 in
theorem pfX11_10_11 : LPr RX11 "<init>" 10 11 0 := ⟨_, ⟨fX11_10_11, Or.inr ⟨rfl, rfl, rfl⟩⟩, rfl⟩
set_option maxRecDepth 20000 in
theorem fX11_19_11 : LF RX11 19 11 1 ((RX11, TX11, 14), tyX11) := ⟨rfl, aok_11, by decide, RX11, inD2 (i := 78) rfl, Or.inl rfl⟩
set_option maxRecDepth 20000 in
theorem gfX11_19_11 : LFr RX11 19 11 1 := ⟨_, fX11_19_11, rfl⟩
set_option maxRecDepth 20000 in
theorem pfX11_19_11 : LPr RX11 "<init>" 19 11 1 := ⟨_, ⟨fX11_19_11, Or.inr ⟨rfl, rfl, rfl⟩⟩, rfl⟩
set_option maxRecDepth 20000 in
theorem fX11_26_11 : LF RX11 26 11 2 ((RX11, TX11, 14), tyX11) := ⟨rfl, aok_11, by decide, RX11, inD2 (i := 79) rfl, Or.inl rfl⟩
set_option maxRecDepth 20000 in
theorem gfX11_26_11 : LFr RX11 26 11 2 := ⟨_, fX11_26_11, rfl⟩
set_option maxRecDepth 20000 in
theorem pfX11_26_11 : LPr RX11 "<init>" 26 11 2 := ⟨_, ⟨fX11_26_11, Or.inr ⟨rfl, rfl, rfl⟩⟩, rfl⟩
set_option maxRecDepth 20000 in
theorem fX11_30_11 : LF RX11 30 11 3 ((RX11, TX11, 14), tyX11) := ⟨rfl, aok_11, by decide, RX11, inD2 (i := 80) rfl, Or.inl rfl⟩
set_option maxRecDepth 20000 in
theorem gfX11_30_11 : LFi RX11 30 11 3 := ⟨_, fX11_30_11, rfl⟩
set_option maxRecDepth 20000 in
theorem pfX11_30_11 {nm : String} : LPi RX11 nm 30 11 3 := ⟨_, ⟨fX11_30_11, Or.inl rfl⟩, rfl⟩
set_option maxRecDepth 20000 in
theorem fX11_37_11 : LF RX11 37 11 4 ((RX11, TX11, 14), tyX11) := ⟨rfl, aok_11, by decide, RX11, inD2 (i := 81) rfl, Or.inl rfl⟩
set_option maxRecDepth 20000 in
theorem gfX11_37_11 : LFr RX11 37 11 4 := ⟨_, fX11_37_11, rfl⟩
set_option maxRecDepth 20000 in
theorem pfX11_37_11 : LPr RX11 "<init>" 37 11 4 := ⟨_, ⟨fX11_37_11, Or.inr ⟨rfl, rfl, rfl⟩⟩, rfl⟩
set_option maxRecDepth 20000 in
theorem fX11_44_11 : LF RX11 44 11 5 ((RX11, TX11, 14), tyX11) := ⟨rfl, aok_11, by decide, RX11, inD2 (i := 82) rfl, Or.inl rfl⟩
set_option maxRecDepth 20000 in
theorem gfX11_44_11 : LFr RX11 44 11 5 := ⟨_, fX11_44_11, rfl⟩
set_option maxRecDepth 20000 in
theorem pfX11_44_11 : LPr RX11 "<init>" 44 11 5 := ⟨_, ⟨fX11_44_11, Or.inr ⟨rfl, rfl, rfl⟩⟩, rfl⟩
set_option maxRecDepth 20000 in
theorem fX11_51_11 : LF RX11 51 11 6 ((RX11, TX11, 14), tyX11) := ⟨rfl, aok_11, by decide, RX11, inD2 (i := 83) rfl, Or.inl rfl⟩
set_option maxRecDepth 20000 in
theorem gfX11_51_11 : LFr RX11 51 11 6 := ⟨_, fX11_51_11, rfl⟩
set_option maxRecDepth 20000 in
theorem pfX11_51_11 : LPr RX11 "<init>" 51 11 6 := ⟨_, ⟨fX11_51_11, Or.inr ⟨rfl, rfl, rfl⟩⟩, rfl⟩
set_option maxRecDepth 20000 in
theorem fX11_55_11 : LF RX11 55 11 7 ((RX11, TX11, 14), tyX11) := ⟨rfl, aok_11, by decide, RX11, inD2 (i := 84) rfl, Or.inl rfl⟩
set_option maxRecDepth 20000 in
theorem gfX11_55_11 : LFr RX11 55 11 7 := ⟨_, fX11_55_11, rfl⟩
set_option maxRecDepth 20000 in
theorem pfX11_55_11 : LPr RX11 "<init>" 55 11 7 := ⟨_, ⟨fX11_55_11, Or.inr ⟨rfl, rfl, rfl⟩⟩, rfl⟩
set_option maxRecDepth 20000 in
theorem fX11_58_11 : LF RX11 58 11 8 ((RX11, TX11, 14), tyX11) := ⟨rfl, aok_11, by decide, RX11, inD2 (i := 85) rfl, Or.inl rfl⟩
set_option maxRecDepth 20000 in
theorem gfX11_58_11 : LFr RX11 58 11 8 := ⟨_, fX11_58_11, rfl⟩
set_option maxRecDepth 20000 in
theorem pfX11_58_11 : LPr RX11 "<init>" 58 11 8 := ⟨_, ⟨fX11_58_11, Or.inr ⟨rfl, rfl, rfl⟩⟩, rfl⟩
set_option maxRecDepth 20000 in
theorem fX11_61_11 : LF RX11 61 11 9 ((RX11, TX11, 14), tyX11) := ⟨rfl, aok_11, by decide, RX11, inD2 (i := 86) rfl, Or.inl rfl⟩
set_option maxRecDepth 20000 in
theorem gfX11_61_11 : LFr RX11 61 11 9 := ⟨_, fX11_61_11, rfl⟩
set_option maxRecDepth 20000 in
theorem pfX11_61_11 : LPr RX11 "<init>" 61 11 9 := ⟨_, ⟨fX11_61_11, Or.inr ⟨rfl, rfl, rfl⟩⟩, rfl⟩
set_option maxRecDepth 20000 in
theorem fX11_64_11 : LF RX11 64 11 11 ((RX11, TX11, 14), tyX11) := ⟨rfl, aok_11, by decide, RX11, inD2 (i := 88) rfl, Or.inl rfl⟩
set_option maxRecDepth 20000 in
theorem gfX11_64_11 : LFr RX11 64 11 11 := ⟨_, fX11_64_11, rfl⟩
set_option maxRecDepth 20000 in
theorem pfX11_64_11 : LPr RX11 "<init>" 64 11 11 := ⟨_, ⟨fX11_64_11, Or.inr ⟨rfl, rfl, rfl⟩⟩, rfl⟩
set_option maxRecDepth 20000 in
theorem fX11_68_7 : LF RX11 68 7 1 ((RX7, TX7, 2), tyX7) := ⟨rfl, aok_7, by decide, RX7, inD1 (i := 45) rfl, Or.inl rfl⟩
set_option maxRecDepth 20000 in
theorem gfX11_68_7 : LFi RX11 68 7 1 := ⟨_, fX11_68_7, rfl⟩
set_option maxRecDepth 20000 in
theorem pfX11_68_7 {nm : String} : LPi RX11 nm 68 7 1 := ⟨_, ⟨fX11_68_7, Or.inl rfl⟩, rfl⟩
set_option maxRecDepth 20000 in
theorem fX11_75_6 : LF RX11 75 6 2 ((RX6, TX6, 3), tyX6) := ⟨rfl, aok_6, by decide, RX6, inD1 (i := 228) rfl, Or.inl rfl⟩
set_option maxRecDepth 20000 in
theorem gfX11_75_6 : LFr RX11 75 6 2 := ⟨_, fX11_75_6, rfl⟩
set_option maxRecDepth 20000 in
theorem fX11_89_5 : LF RX11 89 5 16 ((RX5, TX5, 18), tyX5) := ⟨rfl, aok_5, by decide, RX5, inD1 (i := 187) rfl, Or.inl rfl⟩
set_option maxRecDepth 20000 in
theorem gfX11_89_5 : LFi RX11 89 5 16 := ⟨_, fX11_89_5, rfl⟩
set_option maxRecDepth 20000 in
theorem pfX11_89_5 {nm : String} : LPi RX11 nm 89 5 16 := ⟨_, ⟨fX11_89_5, Or.inl rfl⟩, rfl⟩
set_option maxRecDepth 20000 in
theorem fX11_95_11 : LF RX11 95 11 13 ((RX11, TX11, 14), tyX11) := ⟨rfl, aok_11, by decide, RX11, inD2 (i := 90) rfl, Or.inl rfl⟩
set_option maxRecDepth 20000 in
theorem gfX11_95_11 : LFi RX11 95 11 13 := ⟨_, fX11_95_11, rfl⟩
set_option maxRecDepth 20000 in
theorem pfX11_95_11 {nm : String} : LPi RX11 nm 95 11 13 := ⟨_, ⟨fX11_95_11, Or.inl rfl⟩, rfl⟩
set_option maxRecDepth 20000 in
theorem fX11_98_3 : LF RX11 98 3 2 ((RX3, TX3, 6), tyX3) := ⟨rfl, aok_3, by decide, RX3, inD2 (i := 44) rfl, Or.inl rfl⟩
set_option maxRecDepth 20000 in
theorem gfX11_98_3 : LFr RX11 98 3 2 := ⟨_, fX11_98_3, rfl⟩
set_option maxRecDepth 20000 in
theorem fX11_107_2 : LF RX11 107 2 0 ((RX2, TX2, 9), tyX2) := ⟨rfl, aok_2, by decide, RX2, inD2 (i := 15) rfl, Or.inl rfl⟩
set_option maxRecDepth 20000 in
theorem gfX11_107_2 : LFi RX11 107 2 0 := ⟨_, fX11_107_2, rfl⟩
set_option maxRecDepth 20000 in
theorem fX11_113_5 : LF RX11 113 5 1 ((RX5, TX5, 18), tyX5) := ⟨rfl, aok_5, by decide, RX5, inD1 (i := 135) rfl, Or.inl rfl⟩
set_option maxRecDepth 20000 in
theorem gfX11_113_5 : LFr RX11 113 5 1 := ⟨_, fX11_113_5, rfl⟩
set_option maxRecDepth 20000 in
theorem fX11_121_5 : LF RX11 121 5 2 ((RX5, TX5, 18), tyX5) := ⟨rfl, aok_5, by decide, RX5, inD1 (i := 139) rfl, Or.inl rfl⟩
set_option maxRecDepth 20000 in
theorem gfX11_121_5 : LFr RX11 121 5 2 := ⟨_, fX11_121_5, rfl⟩
set_option maxRecDepth 20000 in
theorem fX11_144_5 : LF RX11 144 5 4 ((RX5, TX5, 18), tyX5) := ⟨rfl, aok_5, by decide, RX5, inD1 (i := 148) rfl, Or.inl rfl⟩
set_option maxRecDepth 20000 in
theorem gfX11_144_5 : LFr RX11 144 5 4 := ⟨_, fX11_144_5, rfl⟩
set_option maxRecDepth 20000 in
theorem fX11_147_5 : LF RX11 147 5 5 ((RX5, TX5, 18), tyX5) := ⟨rfl, aok_5, by decide, RX5, inD1 (i := 153) rfl, Or.inl rfl⟩
set_option maxRecDepth 20000 in
theorem gfX11_147_5 : LFr RX11 147 5 5 := ⟨_, fX11_147_5, rfl⟩
set_option maxRecDepth 20000 in
theorem fX11_150_5 : LF RX11 150 5 6 ((RX5, TX5, 18), tyX5) := ⟨rfl, aok_5, by decide, RX5, inD1 (i := 157) rfl, Or.inl rfl⟩
set_option maxRecDepth 20000 in
theorem gfX11_150_5 : LFr RX11 150 5 6 := ⟨_, fX11_150_5, rfl⟩
set_option maxRecDepth 20000 in
theorem fX11_153_5 : LF RX11 153 5 7 ((RX5, TX5, 18), tyX5) := ⟨rfl, aok_5, by decide, RX5, inD1 (i := 159) rfl, Or.inl rfl⟩
set_option maxRecDepth 20000 in
theorem gfX11_153_5 : LFr RX11 153 5 7 := ⟨_, fX11_153_5, rfl⟩
set_option maxRecDepth 20000 in
theorem fX11_156_5 : LF RX11 156 5 8 ((RX5, TX5, 18), tyX5) := ⟨rfl, aok_5, by decide, RX5, inD1 (i := 164) rfl, Or.inl rfl⟩
set_option maxRecDepth 20000 in
theorem gfX11_156_5 : LFr RX11 156 5 8 := ⟨_, fX11_156_5, rfl⟩
set_option maxRecDepth 20000 in
theorem fX11_159_5 : LF RX11 159 5 9 ((RX5, TX5, 18), tyX5) := ⟨rfl, aok_5, by decide, RX5, inD1 (i := 167) rfl, Or.inl rfl⟩
set_option maxRecDepth 20000 in
theorem gfX11_159_5 : LFr RX11 159 5 9 := ⟨_, fX11_159_5, rfl⟩
set_option maxRecDepth 20000 in
theorem fX11_179_5 : LF RX11 179 5 0 ((RX5, TX5, 18), tyX5) := ⟨rfl, aok_5, by decide, RX5, inD1 (i := 133) rfl, Or.inl rfl⟩
set_option maxRecDepth 20000 in
theorem gfX11_179_5 : LFi RX11 179 5 0 := ⟨_, fX11_179_5, rfl⟩
set_option maxRecDepth 20000 in
theorem fX11_182_5 : LF RX11 182 5 3 ((RX5, TX5, 18), tyX5) := ⟨rfl, aok_5, by decide, RX5, inD1 (i := 145) rfl, Or.inl rfl⟩
set_option maxRecDepth 20000 in
theorem gfX11_182_5 : LFi RX11 182 5 3 := ⟨_, fX11_182_5, rfl⟩
set_option maxRecDepth 20000 in
theorem fX11_185_5 : LF RX11 185 5 10 ((RX5, TX5, 18), tyX5) := ⟨rfl, aok_5, by decide, RX5, inD1 (i := 170) rfl, Or.inl rfl⟩
set_option maxRecDepth 20000 in
theorem gfX11_185_5 : LFi RX11 185 5 10 := ⟨_, fX11_185_5, rfl⟩
set_option maxRecDepth 20000 in
theorem fX11_188_5 : LF RX11 188 5 11 ((RX5, TX5, 18), tyX5) := ⟨rfl, aok_5, by decide, RX5, inD1 (i := 174) rfl, Or.inl rfl⟩
set_option maxRecDepth 20000 in
theorem gfX11_188_5 : LFi RX11 188 5 11 := ⟨_, fX11_188_5, rfl⟩
set_option maxRecDepth 20000 in
theorem fX11_191_5 : LF RX11 191 5 12 ((RX5, TX5, 18), tyX5) := ⟨rfl, aok_5, by decide, RX5, inD1 (i := 177) rfl, Or.inl rfl⟩
set_option maxRecDepth 20000 in
theorem gfX11_191_5 : LFi RX11 191 5 12 := ⟨_, fX11_191_5, rfl⟩
set_option maxRecDepth 20000 in
theorem fX11_194_5 : LF RX11 194 5 13 ((RX5, TX5, 18), tyX5) := ⟨rfl, aok_5, by decide, RX5, inD1 (i := 180) rfl, Or.inl rfl⟩
set_option maxRecDepth 20000 in
theorem gfX11_194_5 : LFi RX11 194 5 13 := ⟨_, fX11_194_5, rfl⟩
set_option maxRecDepth 20000 in
theorem fX11_197_5 : LF RX11 197 5 14 ((RX5, TX5, 18), tyX5) := ⟨rfl, aok_5, by decide, RX5, inD1 (i := 183) rfl, Or.inl rfl⟩
set_option maxRecDepth 20000 in
theorem gfX11_197_5 : LFi RX11 197 5 14 := ⟨_, fX11_197_5, rfl⟩
set_option maxRecDepth 20000 in
theorem fX11_211_5 : LF RX11 211 5 17 ((RX5, TX5, 18), tyX5) := ⟨rfl, aok_5, by decide, RX5, inD1 (i := 189) rfl, Or.inl rfl⟩
set_option maxRecDepth 20000 in
theorem gfX11_211_5 : LFr RX11 211 5 17 := ⟨_, fX11_211_5, rfl⟩
set_option maxRecDepth 20000 in
theorem fX11_215_1 : LF RX11 215 1 0 ((RX1, TX1, 3), tyX1) := ⟨rfl, aok_1, by decide, RX1, inD1 (i := 121) rfl, Or.inl rfl⟩
set_option maxRecDepth 20000 in
theorem gfX11_215_1 : LFi RX11 215 1 0 := ⟨_, fX11_215_1, rfl⟩
set_option maxRecDepth 20000 in
theorem fX11_353_5 : LF RX11 353 5 15 ((RX5, TX5, 18), tyX5) := ⟨rfl, aok_5, by decide, RX5, inD1 (i := 185) rfl, Or.inl rfl⟩
set_option maxRecDepth 20000 in
theorem gfX11_353_5 : LFi RX11 353 5 15 := ⟨_, fX11_353_5, rfl⟩
set_option maxRecDepth 20000 in
theorem pfX11_353_5 {nm : String} : LPi RX11 nm 353 5 15 := ⟨_, ⟨fX11_353_5, Or.inl rfl⟩, rfl⟩
set_option maxRecDepth 20000 in
theorem fX11_368_11 : LF RX11 368 11 12 ((RX11, TX11, 14), tyX11) := ⟨rfl, aok_11, by decide, RX11, inD2 (i := 89) rfl, Or.inl rfl⟩
set_option maxRecDepth 20000 in
theorem gfX11_368_11 : LFi RX11 368 11 12 := ⟨_, fX11_368_11, rfl⟩
set_option maxRecDepth 20000 in
theorem pfX11_368_11 {nm : String} : LPi RX11 nm 368 11 12 := ⟨_, ⟨fX11_368_11, Or.inl rfl⟩, rfl⟩
set_option maxRecDepth 20000 in
theorem fX11_378_11 : LF RX11 378 11 10 ((RX11, TX11, 14), tyX11) := ⟨rfl, aok_11, by decide, RX11, inD2 (i := 87) rfl, Or.inl rfl⟩
set_option maxRecDepth 20000 in
theorem gfX11_378_11 : LFi RX11 378 11 10 := ⟨_, fX11_378_11, rfl⟩
set_option maxRecDepth 20000 in
theorem pfX11_378_11 {nm : String} : LPz RX11 nm 378 11 10 := ⟨_, ⟨fX11_378_11, Or.inl rfl⟩, rfl⟩
set_option maxRecDepth 20000 in
theorem fX0_9_0 : LF RX0 9 0 0 ((RX0, TX0, 2), tyX0) := ⟨rfl, aok_0, by decide, RX0, inD2 (i := 69) rfl, Or.inl rfl⟩
set_option maxRecDepth 20000 in
theorem gfX0_9_0 : LFr RX0 9 0 0 := ⟨_, fX0_9_0, rfl⟩
set_option maxRecDepth 20000 in
theorem pfX0_9_0 : LPr RX0 "<init>" 9 0 0 := ⟨_, ⟨fX0_9_0, Or.inr ⟨rfl, rfl, rfl⟩⟩, rfl⟩
set_option maxRecDepth 20000 in
theorem fX0_15_0 : LF RX0 15 0 1 ((RX0, TX0, 2), tyX0) := ⟨rfl, aok_0, by decide, RX0, inD2 (i := 70) rfl, Or.inl rfl⟩
set_option maxRecDepth 20000 in
theorem gfX0_15_0 : LFr RX0 15 0 1 := ⟨_, fX0_15_0, rfl⟩
set_option maxRecDepth 20000 in
theorem pfX0_15_0 : LPr RX0 "<init>" 15 0 1 := ⟨_, ⟨fX0_15_0, Or.inr ⟨rfl, rfl, rfl⟩⟩, rfl⟩
set_option maxRecDepth 20000 in
theorem fX0_24_5 : LF RX0 24 5 3 ((RX5, TX5, 18), tyX5) := ⟨rfl, aok_5, by decide, RX5, inD1 (i := 140) rfl, Or.inl rfl⟩
set_option maxRecDepth 20000 in
theorem gfX0_24_5 : LFi RX0 24 5 3 := ⟨_, fX0_24_5, rfl⟩
set_option maxRecDepth 20000 in
theorem fX0_49_5 : LF RX0 49 5 4 ((RX5, TX5, 18), tyX5) := ⟨rfl, aok_5, by decide, RX5, inD1 (i := 147) rfl, Or.inl rfl⟩
set_option maxRecDepth 20000 in
theorem gfX0_49_5 : LFr RX0 49 5 4 := ⟨_, fX0_49_5, rfl⟩
set_option maxRecDepth 20000 in
theorem fX0_68_5 : LF RX0 68 5 5 ((RX5, TX5, 18), tyX5) := ⟨rfl, aok_5, by decide, RX5, inD1 (i := 151) rfl, Or.inl rfl⟩
set_option maxRecDepth 20000 in
theorem gfX0_68_5 : LFr RX0 68 5 5 := ⟨_, fX0_68_5, rfl⟩
set_option maxRecDepth 20000 in
theorem fX0_81_5 : LF RX0 81 5 8 ((RX5, TX5, 18), tyX5) := ⟨rfl, aok_5, by decide, RX5, inD1 (i := 163) rfl, Or.inl rfl⟩
set_option maxRecDepth 20000 in
theorem gfX0_81_5 : LFr RX0 81 5 8 := ⟨_, fX0_81_5, rfl⟩
set_option maxRecDepth 20000 in
theorem fX0_94_5 : LF RX0 94 5 2 ((RX5, TX5, 18), tyX5) := ⟨rfl, aok_5, by decide, RX5, inD1 (i := 138) rfl, Or.inl rfl⟩
set_option maxRecDepth 20000 in
theorem gfX0_94_5 : LFr RX0 94 5 2 := ⟨_, fX0_94_5, rfl⟩
set_option maxRecDepth 20000 in
theorem fX1_11_1 : LF RX1 11 1 2 ((RX1, TX1, 3), tyX1) := ⟨rfl, aok_1, by decide, RX1, inD1 (i := 123) rfl, Or.inl rfl⟩
set_option maxRecDepth 20000 in
theorem gfX1_11_1 : LFr RX1 11 1 2 := ⟨_, fX1_11_1, rfl⟩
set_option maxRecDepth 20000 in
theorem pfX1_11_1 : LPr RX1 "<init>" 11 1 2 := ⟨_, ⟨fX1_11_1, Or.inr ⟨rfl, rfl, rfl⟩⟩, rfl⟩
set_option maxRecDepth 20000 in
theorem fX1_15_1 : LF RX1 15 1 0 ((RX1, TX1, 3), tyX1) := ⟨rfl, aok_1, by decide, RX1, inD1 (i := 120) rfl, Or.inl rfl⟩
set_option maxRecDepth 20000 in
theorem gfX1_15_1 : LFi RX1 15 1 0 := ⟨_, fX1_15_1, rfl⟩
set_option maxRecDepth 20000 in
theorem pfX1_15_1 {nm : String} : LPi RX1 nm 15 1 0 := ⟨_, ⟨fX1_15_1, Or.inl rfl⟩, rfl⟩
set_option maxRecDepth 20000 in
theorem fX1_19_1 : LF RX1 19 1 1 ((RX1, TX1, 3), tyX1) := ⟨rfl, aok_1, by decide, RX1, inD1 (i := 122) rfl, Or.inl rfl⟩
set_option maxRecDepth 20000 in
theorem gfX1_19_1 : LFi RX1 19 1 1 := ⟨_, fX1_19_1, rfl⟩
set_option maxRecDepth 20000 in
theorem pfX1_19_1 {nm : String} : LPi RX1 nm 19 1 1 := ⟨_, ⟨fX1_19_1, Or.inl rfl⟩, rfl⟩
set_option maxRecDepth 20000 in
theorem fX2_11_2 : LF RX2 11 2 0 ((RX2, TX2, 9), tyX2) := ⟨rfl, aok_2, by decide, RX2, inD2 (i := 14) rfl, Or.inl rfl⟩
set_option maxRecDepth 20000 in
theorem gfX2_11_2 : LFi RX2 11 2 0 := ⟨_, fX2_11_2, rfl⟩
set_option maxRecDepth 20000 in
theorem pfX2_11_2 {nm : String} : LPi RX2 nm 11 2 0 := ⟨_, ⟨fX2_11_2, Or.inl rfl⟩, rfl⟩
set_option maxRecDepth 20000 in
theorem fX2_15_2 : LF RX2 15 2 2 ((RX2, TX2, 9), tyX2) := ⟨rfl, aok_2, by decide, RX2, inD2 (i := 17) rfl, Or.inl rfl⟩
set_option maxRecDepth 20000 in
theorem gfX2_15_2 : LFr RX2 15 2 2 := ⟨_, fX2_15_2, rfl⟩
set_option maxRecDepth 20000 in
theorem pfX2_15_2 : LPr RX2 "<init>" 15 2 2 := ⟨_, ⟨fX2_15_2, Or.inr ⟨rfl, rfl, rfl⟩⟩, rfl⟩
set_option maxRecDepth 20000 in
theorem fX2_19_2 : LF RX2 19 2 3 ((RX2, TX2, 9), tyX2) := ⟨rfl, aok_2, by decide, RX2, inD2 (i := 18) rfl, Or.inl rfl⟩
set_option maxRecDepth 20000 in
theorem gfX2_19_2 : LFr RX2 19 2 3 := ⟨_, fX2_19_2, rfl⟩
set_option maxRecDepth 20000 in
theorem pfX2_19_2 : LPr RX2 "<init>" 19 2 3 := ⟨_, ⟨fX2_19_2, Or.inr ⟨rfl, rfl, rfl⟩⟩, rfl⟩
set_option maxRecDepth 20000 in
theorem fX2_22_2 : LF RX2 22 2 4 ((RX2, TX2, 9), tyX2) := ⟨rfl, aok_2, by decide, RX2, inD2 (i := 19) rfl, Or.inl rfl⟩
set_option maxRecDepth 20000 in
theorem gfX2_22_2 : LFr RX2 22 2 4 := ⟨_, fX2_22_2, rfl⟩
set_option maxRecDepth 20000 in
theorem pfX2_22_2 : LPr RX2 "<init>" 22 2 4 := ⟨_, ⟨fX2_22_2, Or.inr ⟨rfl, rfl, rfl⟩⟩, rfl⟩
set_option maxRecDepth 20000 in
theorem fX2_25_2 : LF RX2 25 2 5 ((RX2, TX2, 9), tyX2) := ⟨rfl, aok_2, by decide, RX2, inD2 (i := 20) rfl, Or.inl rfl⟩
set_option maxRecDepth 20000 in
theorem gfX2_25_2 : LFr RX2 25 2 5 := ⟨_, fX2_25_2, rfl⟩
set_option maxRecDepth 20000 in
theorem pfX2_25_2 : LPr RX2 "<init>" 25 2 5 := ⟨_, ⟨fX2_25_2, Or.inr ⟨rfl, rfl, rfl⟩⟩, rfl⟩
set_option maxRecDepth 20000 in
theorem fX2_28_2 : LF RX2 28 2 6 ((RX2, TX2, 9), tyX2) := ⟨rfl, aok_2, by decide, RX2, inD2 (i := 21) rfl, Or.inl rfl⟩
set_option maxRecDepth 20000 in
theorem gfX2_28_2 : LFr RX2 28 2 6 := ⟨_, fX2_28_2, rfl⟩
set_option maxRecDepth 20000 in
theorem pfX2_28_2 : LPr RX2 "<init>" 28 2 6 := ⟨_, ⟨fX2_28_2, Or.inr ⟨rfl, rfl, rfl⟩⟩, rfl⟩
set_option maxRecDepth 20000 in
theorem fX2_31_2 : LF RX2 31 2 7 ((RX2, TX2, 9), tyX2) := ⟨rfl, aok_2, by decide, RX2, inD2 (i := 22) rfl, Or.inl rfl⟩
set_option maxRecDepth 20000 in
theorem gfX2_31_2 : LFr RX2 31 2 7 := ⟨_, fX2_31_2, rfl⟩
set_option maxRecDepth 20000 in
theorem pfX2_31_2 : LPr RX2 "<init>" 31 2 7 := ⟨_, ⟨fX2_31_2, Or.inr ⟨rfl, rfl, rfl⟩⟩, rfl⟩
set_option maxRecDepth 20000 in
theorem fX2_34_2 : LF RX2 34 2 8 ((RX2, TX2, 9), tyX2) := ⟨rfl, aok_2, by decide, RX2, inD2 (i := 23) rfl, Or.inl rfl⟩
set_option maxRecDepth 20000 in
theorem gfX2_34_2 : LFr RX2 34 2 8 := ⟨_, fX2_34_2, rfl⟩
set_option maxRecDepth 20000 in
theorem pfX2_34_2 : LPr RX2 "<init>" 34 2 8 := ⟨_, ⟨fX2_34_2, Or.inr ⟨rfl, rfl, rfl⟩⟩, rfl⟩
set_option maxRecDepth 20000 in
theorem fX2_41_2 : LF RX2 41 2 1 ((RX2, TX2, 9), tyX2) := ⟨rfl, aok_2, by decide, RX2, inD2 (i := 16) rfl, Or.inl rfl⟩
set_option maxRecDepth 20000 in
theorem gfX2_41_2 : LFi RX2 41 2 1 := ⟨_, fX2_41_2, rfl⟩
set_option maxRecDepth 20000 in
theorem pfX2_41_2 {nm : String} : LPi RX2 nm 41 2 1 := ⟨_, ⟨fX2_41_2, Or.inl rfl⟩, rfl⟩
set_option maxRecDepth 20000 in
theorem fX2_56_5 : LF RX2 56 5 6 ((RX5, TX5, 18), tyX5) := ⟨rfl, aok_5, by decide, RX5, inD1 (i := 156) rfl, Or.inl rfl⟩
set_option maxRecDepth 20000 in
theorem gfX2_56_5 : LFr RX2 56 5 6 := ⟨_, fX2_56_5, rfl⟩
set_option maxRecDepth 20000 in
theorem fX2_71_5 : LF RX2 71 5 3 ((RX5, TX5, 18), tyX5) := ⟨rfl, aok_5, by decide, RX5, inD1 (i := 144) rfl, Or.inl rfl⟩
set_option maxRecDepth 20000 in
theorem gfX2_71_5 : LFi RX2 71 5 3 := ⟨_, fX2_71_5, rfl⟩
set_option maxRecDepth 20000 in
theorem fX2_82_5 : LF RX2 82 5 7 ((RX5, TX5, 18), tyX5) := ⟨rfl, aok_5, by decide, RX5, inD1 (i := 160) rfl, Or.inl rfl⟩
set_option maxRecDepth 20000 in
theorem gfX2_82_5 : LFr RX2 82 5 7 := ⟨_, fX2_82_5, rfl⟩
set_option maxRecDepth 20000 in
theorem fX2_85_5 : LF RX2 85 5 4 ((RX5, TX5, 18), tyX5) := ⟨rfl, aok_5, by decide, RX5, inD1 (i := 149) rfl, Or.inl rfl⟩
set_option maxRecDepth 20000 in
theorem gfX2_85_5 : LFr RX2 85 5 4 := ⟨_, fX2_85_5, rfl⟩
set_option maxRecDepth 20000 in
theorem fX2_92_5 : LF RX2 92 5 5 ((RX5, TX5, 18), tyX5) := ⟨rfl, aok_5, by decide, RX5, inD1 (i := 154) rfl, Or.inl rfl⟩
set_option maxRecDepth 20000 in
theorem gfX2_92_5 : LFr RX2 92 5 5 := ⟨_, fX2_92_5, rfl⟩
set_option maxRecDepth 20000 in
theorem fX2_95_5 : LF RX2 95 5 1 ((RX5, TX5, 18), tyX5) := ⟨rfl, aok_5, by decide, RX5, inD1 (i := 136) rfl, Or.inl rfl⟩
set_option maxRecDepth 20000 in
theorem gfX2_95_5 : LFr RX2 95 5 1 := ⟨_, fX2_95_5, rfl⟩
set_option maxRecDepth 20000 in
theorem fX2_98_5 : LF RX2 98 5 10 ((RX5, TX5, 18), tyX5) := ⟨rfl, aok_5, by decide, RX5, inD1 (i := 171) rfl, Or.inl rfl⟩
set_option maxRecDepth 20000 in
theorem gfX2_98_5 : LFi RX2 98 5 10 := ⟨_, fX2_98_5, rfl⟩
set_option maxRecDepth 20000 in
theorem fX3_14_3 : LF RX3 14 3 2 ((RX3, TX3, 6), tyX3) := ⟨rfl, aok_3, by decide, RX3, inD2 (i := 43) rfl, Or.inl rfl⟩
set_option maxRecDepth 20000 in
theorem gfX3_14_3 : LFr RX3 14 3 2 := ⟨_, fX3_14_3, rfl⟩
set_option maxRecDepth 20000 in
theorem pfX3_14_3 : LPr RX3 "<init>" 14 3 2 := ⟨_, ⟨fX3_14_3, Or.inr ⟨rfl, rfl, rfl⟩⟩, rfl⟩
set_option maxRecDepth 20000 in
theorem fX3_20_3 : LF RX3 20 3 3 ((RX3, TX3, 6), tyX3) := ⟨rfl, aok_3, by decide, RX3, inD2 (i := 45) rfl, Or.inl rfl⟩
set_option maxRecDepth 20000 in
theorem gfX3_20_3 : LFr RX3 20 3 3 := ⟨_, fX3_20_3, rfl⟩
set_option maxRecDepth 20000 in
theorem pfX3_20_3 : LPr RX3 "<init>" 20 3 3 := ⟨_, ⟨fX3_20_3, Or.inr ⟨rfl, rfl, rfl⟩⟩, rfl⟩
set_option maxRecDepth 20000 in
theorem fX3_28_3 : LF RX3 28 3 0 ((RX3, TX3, 6), tyX3) := ⟨rfl, aok_3, by decide, RX3, inD1 (i := 232) rfl, Or.inr (inD1 (i := 233) rfl)⟩
set_option maxRecDepth 20000 in
theorem gfX3_28_3 : LFr RX3 28 3 0 := ⟨_, fX3_28_3, rfl⟩
set_option maxRecDepth 20000 in
theorem wX3_42 : inT (.fieldLink RX3 42 "PutOffParade$Word" "IF" "LPutOffParade$Word;") := (inC4 (i := 95) rfl rfl)
set_option maxRecDepth 20000 in
theorem wX3_59 : inT (.fieldLink RX3 59 "PutOffParade$Word" "GROW" "LPutOffParade$Word;") := (inC4 (i := 77) rfl rfl)
set_option maxRecDepth 20000 in
theorem wX3_62 : inT (.fieldLink RX3 62 "PutOffParade$Word" "SHAME" "LPutOffParade$Word;") := (inC4 (i := 83) rfl rfl)
set_option maxRecDepth 20000 in
theorem wX3_65 : inT (.fieldLink RX3 65 "PutOffParade$Word" "EASE" "LPutOffParade$Word;") := (inC4 (i := 85) rfl rfl)
set_option maxRecDepth 20000 in
theorem fX3_68_3 : LF RX3 68 3 4 ((RX3, TX3, 6), tyX3) := ⟨rfl, aok_3, by decide, RX3, inD2 (i := 46) rfl, Or.inl rfl⟩
set_option maxRecDepth 20000 in
theorem gfX3_68_3 : LFi RX3 68 3 4 := ⟨_, fX3_68_3, rfl⟩
set_option maxRecDepth 20000 in
theorem pfX3_68_3 {nm : String} : LPi RX3 nm 68 3 4 := ⟨_, ⟨fX3_68_3, Or.inl rfl⟩, rfl⟩
set_option maxRecDepth 20000 in
theorem fX3_72_3 : LF RX3 72 3 5 ((RX3, TX3, 6), tyX3) := ⟨rfl, aok_3, by decide, RX3, inD2 (i := 47) rfl, Or.inl rfl⟩
set_option maxRecDepth 20000 in
theorem gfX3_72_3 : LFi RX3 72 3 5 := ⟨_, fX3_72_3, rfl⟩
set_option maxRecDepth 20000 in
theorem pfX3_72_3 {nm : String} : LPi RX3 nm 72 3 5 := ⟨_, ⟨fX3_72_3, Or.inl rfl⟩, rfl⟩
set_option maxRecDepth 20000 in
theorem fX3_96_9 : LF RX3 96 9 9 ((RX9, TX9, 10), tyX9) := ⟨rfl, aok_9, by decide, RX9, inD1 (i := 84) rfl, Or.inl rfl⟩
set_option maxRecDepth 20000 in
theorem gfX3_96_9 : LFr RX3 96 9 9 := ⟨_, fX3_96_9, rfl⟩
set_option maxRecDepth 20000 in
theorem wX3_99 : inT (.fieldLink RX3 99 "PutOffParade$Word" "AND" "LPutOffParade$Word;") := (inC4 (i := 155) rfl rfl)
set_option maxRecDepth 20000 in
theorem wX3_102 : inT (.fieldLink RX3 102 "PutOffParade$Word" "OR" "LPutOffParade$Word;") := (inC4 (i := 157) rfl rfl)
set_option maxRecDepth 20000 in
theorem wX3_105 : inT (.fieldLink RX3 105 "PutOffParade$Word" "NOT" "LPutOffParade$Word;") := (inC4 (i := 105) rfl rfl)
set_option maxRecDepth 20000 in
theorem wX3_123 : inT (.fieldLink RX3 123 "PutOffParade$Word" "READY" "LPutOffParade$Word;") := (inC4 (i := 121) rfl rfl)
set_option maxRecDepth 20000 in
theorem wX3_126 : inT (.fieldLink RX3 126 "PutOffParade$Word" "OLD" "LPutOffParade$Word;") := (inC4 (i := 127) rfl rfl)
set_option maxRecDepth 20000 in
theorem fX3_138_9 : LF RX3 138 9 6 ((RX9, TX9, 10), tyX9) := ⟨rfl, aok_9, by decide, RX9, inD1 (i := 77) rfl, Or.inl rfl⟩
set_option maxRecDepth 20000 in
theorem gfX3_138_9 : LFi RX3 138 9 6 := ⟨_, fX3_138_9, rfl⟩
set_option maxRecDepth 20000 in
theorem fX3_141_9 : LF RX3 141 9 8 ((RX9, TX9, 10), tyX9) := ⟨rfl, aok_9, by decide, RX9, inD1 (i := 82) rfl, Or.inl rfl⟩
set_option maxRecDepth 20000 in
theorem gfX3_141_9 : LFi RX3 141 9 8 := ⟨_, fX3_141_9, rfl⟩
set_option maxRecDepth 20000 in
theorem wX3_144 : inT (.fieldLink RX3 144 "PutOffParade$Word" "part" "I") := (inC10 (i := 53) rfl rfl)
set_option maxRecDepth 20000 in
theorem fX4_9_5 : LF RX4 9 5 8 ((RX5, TX5, 18), tyX5) := ⟨rfl, aok_5, by decide, RX5, inD1 (i := 162) rfl, Or.inl rfl⟩
set_option maxRecDepth 20000 in
theorem gfX4_9_5 : LFr RX4 9 5 8 := ⟨_, fX4_9_5, rfl⟩
set_option maxRecDepth 20000 in
theorem fX4_23_5 : LF RX4 23 5 3 ((RX5, TX5, 18), tyX5) := ⟨rfl, aok_5, by decide, RX5, inD1 (i := 143) rfl, Or.inl rfl⟩
set_option maxRecDepth 20000 in
theorem gfX4_23_5 : LFi RX4 23 5 3 := ⟨_, fX4_23_5, rfl⟩
set_option maxRecDepth 20000 in
theorem fX4_54_5 : LF RX4 54 5 5 ((RX5, TX5, 18), tyX5) := ⟨rfl, aok_5, by decide, RX5, inD1 (i := 152) rfl, Or.inl rfl⟩
set_option maxRecDepth 20000 in
theorem gfX4_54_5 : LFr RX4 54 5 5 := ⟨_, fX4_54_5, rfl⟩
set_option maxRecDepth 20000 in
theorem fX5_9_5 : LF RX5 9 5 1 ((RX5, TX5, 18), tyX5) := ⟨rfl, aok_5, by decide, RX5, inD1 (i := 134) rfl, Or.inl rfl⟩
set_option maxRecDepth 20000 in
theorem gfX5_9_5 : LFr RX5 9 5 1 := ⟨_, fX5_9_5, rfl⟩
set_option maxRecDepth 20000 in
theorem pfX5_9_5 : LPr RX5 "<init>" 9 5 1 := ⟨_, ⟨fX5_9_5, Or.inr ⟨rfl, rfl, rfl⟩⟩, rfl⟩
set_option maxRecDepth 20000 in
theorem fX5_15_5 : LF RX5 15 5 2 ((RX5, TX5, 18), tyX5) := ⟨rfl, aok_5, by decide, RX5, inD1 (i := 137) rfl, Or.inl rfl⟩
set_option maxRecDepth 20000 in
theorem gfX5_15_5 : LFr RX5 15 5 2 := ⟨_, fX5_15_5, rfl⟩
set_option maxRecDepth 20000 in
theorem pfX5_15_5 : LPr RX5 "<init>" 15 5 2 := ⟨_, ⟨fX5_15_5, Or.inr ⟨rfl, rfl, rfl⟩⟩, rfl⟩
set_option maxRecDepth 20000 in
theorem fX5_18_5 : LF RX5 18 5 4 ((RX5, TX5, 18), tyX5) := ⟨rfl, aok_5, by decide, RX5, inD1 (i := 146) rfl, Or.inl rfl⟩
set_option maxRecDepth 20000 in
theorem gfX5_18_5 : LFr RX5 18 5 4 := ⟨_, fX5_18_5, rfl⟩
set_option maxRecDepth 20000 in
theorem pfX5_18_5 : LPr RX5 "<init>" 18 5 4 := ⟨_, ⟨fX5_18_5, Or.inr ⟨rfl, rfl, rfl⟩⟩, rfl⟩
set_option maxRecDepth 20000 in
theorem fX5_21_5 : LF RX5 21 5 5 ((RX5, TX5, 18), tyX5) := ⟨rfl, aok_5, by decide, RX5, inD1 (i := 150) rfl, Or.inl rfl⟩
set_option maxRecDepth 20000 in
theorem gfX5_21_5 : LFr RX5 21 5 5 := ⟨_, fX5_21_5, rfl⟩
set_option maxRecDepth 20000 in
theorem pfX5_21_5 : LPr RX5 "<init>" 21 5 5 := ⟨_, ⟨fX5_21_5, Or.inr ⟨rfl, rfl, rfl⟩⟩, rfl⟩
set_option maxRecDepth 20000 in
theorem fX5_24_5 : LF RX5 24 5 6 ((RX5, TX5, 18), tyX5) := ⟨rfl, aok_5, by decide, RX5, inD1 (i := 155) rfl, Or.inl rfl⟩
set_option maxRecDepth 20000 in
theorem gfX5_24_5 : LFr RX5 24 5 6 := ⟨_, fX5_24_5, rfl⟩
set_option maxRecDepth 20000 in
theorem pfX5_24_5 : LPr RX5 "<init>" 24 5 6 := ⟨_, ⟨fX5_24_5, Or.inr ⟨rfl, rfl, rfl⟩⟩, rfl⟩
set_option maxRecDepth 20000 in
theorem fX5_27_5 : LF RX5 27 5 7 ((RX5, TX5, 18), tyX5) := ⟨rfl, aok_5, by decide, RX5, inD1 (i := 158) rfl, Or.inl rfl⟩
set_option maxRecDepth 20000 in
theorem gfX5_27_5 : LFr RX5 27 5 7 := ⟨_, fX5_27_5, rfl⟩
set_option maxRecDepth 20000 in
theorem pfX5_27_5 : LPr RX5 "<init>" 27 5 7 := ⟨_, ⟨fX5_27_5, Or.inr ⟨rfl, rfl, rfl⟩⟩, rfl⟩
set_option maxRecDepth 20000 in
theorem fX5_30_5 : LF RX5 30 5 8 ((RX5, TX5, 18), tyX5) := ⟨rfl, aok_5, by decide, RX5, inD1 (i := 161) rfl, Or.inl rfl⟩
set_option maxRecDepth 20000 in
theorem gfX5_30_5 : LFr RX5 30 5 8 := ⟨_, fX5_30_5, rfl⟩
set_option maxRecDepth 20000 in
theorem pfX5_30_5 : LPr RX5 "<init>" 30 5 8 := ⟨_, ⟨fX5_30_5, Or.inr ⟨rfl, rfl, rfl⟩⟩, rfl⟩
set_option maxRecDepth 20000 in
theorem fX5_33_5 : LF RX5 33 5 9 ((RX5, TX5, 18), tyX5) := ⟨rfl, aok_5, by decide, RX5, inD1 (i := 165) rfl, Or.inl rfl⟩
set_option maxRecDepth 20000 in
theorem gfX5_33_5 : LFr RX5 33 5 9 := ⟨_, fX5_33_5, rfl⟩
set_option maxRecDepth 20000 in
theorem pfX5_33_5 : LPr RX5 "<init>" 33 5 9 := ⟨_, ⟨fX5_33_5, Or.inr ⟨rfl, rfl, rfl⟩⟩, rfl⟩
set_option maxRecDepth 20000 in
theorem fX5_36_5 : LF RX5 36 5 10 ((RX5, TX5, 18), tyX5) := ⟨rfl, aok_5, by decide, RX5, inD1 (i := 168) rfl, Or.inl rfl⟩
set_option maxRecDepth 20000 in
theorem gfX5_36_5 : LFi RX5 36 5 10 := ⟨_, fX5_36_5, rfl⟩
set_option maxRecDepth 20000 in
theorem pfX5_36_5 {nm : String} : LPi RX5 nm 36 5 10 := ⟨_, ⟨fX5_36_5, Or.inl rfl⟩, rfl⟩
set_option maxRecDepth 20000 in
theorem fX5_40_5 : LF RX5 40 5 13 ((RX5, TX5, 18), tyX5) := ⟨rfl, aok_5, by decide, RX5, inD1 (i := 178) rfl, Or.inl rfl⟩
set_option maxRecDepth 20000 in
theorem gfX5_40_5 : LFi RX5 40 5 13 := ⟨_, fX5_40_5, rfl⟩
set_option maxRecDepth 20000 in
theorem pfX5_40_5 {nm : String} : LPi RX5 nm 40 5 13 := ⟨_, ⟨fX5_40_5, Or.inl rfl⟩, rfl⟩
set_option maxRecDepth 20000 in
theorem fX5_43_5 : LF RX5 43 5 14 ((RX5, TX5, 18), tyX5) := ⟨rfl, aok_5, by decide, RX5, inD1 (i := 181) rfl, Or.inl rfl⟩
set_option maxRecDepth 20000 in
theorem gfX5_43_5 : LFi RX5 43 5 14 := ⟨_, fX5_43_5, rfl⟩
set_option maxRecDepth 20000 in
theorem pfX5_43_5 {nm : String} : LPi RX5 nm 43 5 14 := ⟨_, ⟨fX5_43_5, Or.inl rfl⟩, rfl⟩
set_option maxRecDepth 20000 in
theorem fX5_46_5 : LF RX5 46 5 15 ((RX5, TX5, 18), tyX5) := ⟨rfl, aok_5, by decide, RX5, inD1 (i := 184) rfl, Or.inl rfl⟩
set_option maxRecDepth 20000 in
theorem gfX5_46_5 : LFi RX5 46 5 15 := ⟨_, fX5_46_5, rfl⟩
set_option maxRecDepth 20000 in
theorem pfX5_46_5 {nm : String} : LPi RX5 nm 46 5 15 := ⟨_, ⟨fX5_46_5, Or.inl rfl⟩, rfl⟩
set_option maxRecDepth 20000 in
theorem fX5_52_5 : LF RX5 52 5 17 ((RX5, TX5, 18), tyX5) := ⟨rfl, aok_5, by decide, RX5, inD1 (i := 188) rfl, Or.inl rfl⟩
set_option maxRecDepth 20000 in
theorem gfX5_52_5 : LFr RX5 52 5 17 := ⟨_, fX5_52_5, rfl⟩
set_option maxRecDepth 20000 in
theorem pfX5_52_5 : LPr RX5 "<init>" 52 5 17 := ⟨_, ⟨fX5_52_5, Or.inr ⟨rfl, rfl, rfl⟩⟩, rfl⟩
set_option maxRecDepth 20000 in
theorem fX5_56_5 : LF RX5 56 5 0 ((RX5, TX5, 18), tyX5) := ⟨rfl, aok_5, by decide, RX5, inD1 (i := 131) rfl, Or.inl rfl⟩
set_option maxRecDepth 20000 in
theorem gfX5_56_5 : LFi RX5 56 5 0 := ⟨_, fX5_56_5, rfl⟩
set_option maxRecDepth 20000 in
theorem pfX5_56_5 {nm : String} : LPi RX5 nm 56 5 0 := ⟨_, ⟨fX5_56_5, Or.inl rfl⟩, rfl⟩
set_option maxRecDepth 20000 in
theorem fX5_63_5 : LF RX5 63 5 3 ((RX5, TX5, 18), tyX5) := ⟨rfl, aok_5, by decide, RX5, inD1 (i := 141) rfl, Or.inl rfl⟩
set_option maxRecDepth 20000 in
theorem gfX5_63_5 : LFi RX5 63 5 3 := ⟨_, fX5_63_5, rfl⟩
set_option maxRecDepth 20000 in
theorem pfX5_63_5 {nm : String} : LPi RX5 nm 63 5 3 := ⟨_, ⟨fX5_63_5, Or.inl rfl⟩, rfl⟩
set_option maxRecDepth 20000 in
theorem fX5_66_5 : LF RX5 66 5 11 ((RX5, TX5, 18), tyX5) := ⟨rfl, aok_5, by decide, RX5, inD1 (i := 172) rfl, Or.inl rfl⟩
set_option maxRecDepth 20000 in
theorem gfX5_66_5 : LFi RX5 66 5 11 := ⟨_, fX5_66_5, rfl⟩
set_option maxRecDepth 20000 in
theorem pfX5_66_5 {nm : String} : LPi RX5 nm 66 5 11 := ⟨_, ⟨fX5_66_5, Or.inl rfl⟩, rfl⟩
set_option maxRecDepth 20000 in
theorem fX5_69_5 : LF RX5 69 5 12 ((RX5, TX5, 18), tyX5) := ⟨rfl, aok_5, by decide, RX5, inD1 (i := 175) rfl, Or.inl rfl⟩
set_option maxRecDepth 20000 in
theorem gfX5_69_5 : LFi RX5 69 5 12 := ⟨_, fX5_69_5, rfl⟩
set_option maxRecDepth 20000 in
theorem pfX5_69_5 {nm : String} : LPi RX5 nm 69 5 12 := ⟨_, ⟨fX5_69_5, Or.inl rfl⟩, rfl⟩
set_option maxRecDepth 20000 in
theorem fX5_72_5 : LF RX5 72 5 16 ((RX5, TX5, 18), tyX5) := ⟨rfl, aok_5, by decide, RX5, inD1 (i := 186) rfl, Or.inl rfl⟩
set_option maxRecDepth 20000 in
theorem gfX5_72_5 : LFi RX5 72 5 16 := ⟨_, fX5_72_5, rfl⟩
set_option maxRecDepth 20000 in
theorem pfX5_72_5 {nm : String} : LPi RX5 nm 72 5 16 := ⟨_, ⟨fX5_72_5, Or.inl rfl⟩, rfl⟩
set_option maxRecDepth 20000 in
theorem fX6_16_6 : LF RX6 16 6 2 ((RX6, TX6, 3), tyX6) := ⟨rfl, aok_6, by decide, RX6, inD1 (i := 227) rfl, Or.inl rfl⟩
set_option maxRecDepth 20000 in
theorem gfX6_16_6 : LFr RX6 16 6 2 := ⟨_, fX6_16_6, rfl⟩
set_option maxRecDepth 20000 in
theorem pfX6_16_6 : LPr RX6 "<init>" 16 6 2 := ⟨_, ⟨fX6_16_6, Or.inr ⟨rfl, rfl, rfl⟩⟩, rfl⟩
set_option maxRecDepth 20000 in
theorem fX6_20_6 : LF RX6 20 6 0 ((RX6, TX6, 3), tyX6) := ⟨rfl, aok_6, by decide, RX6, inD1 (i := 230) rfl, Or.inr (inD1 (i := 231) rfl)⟩
set_option maxRecDepth 20000 in
theorem gfX6_20_6 : LFr RX6 20 6 0 := ⟨_, fX6_20_6, rfl⟩
set_option maxRecDepth 20000 in
theorem fX6_24_9 : LF RX6 24 9 9 ((RX9, TX9, 10), tyX9) := ⟨rfl, aok_9, by decide, RX9, inD1 (i := 83) rfl, Or.inl rfl⟩
set_option maxRecDepth 20000 in
theorem gfX6_24_9 : LFr RX6 24 9 9 := ⟨_, fX6_24_9, rfl⟩
set_option maxRecDepth 20000 in
theorem wX6_30 : inT (.fieldLink RX6 30 "PutOffParade$Word" "PERSON" "LPutOffParade$Word;") := (inC4 (i := 166) rfl rfl)
set_option maxRecDepth 20000 in
theorem fX6_35_5 : LF RX6 35 5 0 ((RX5, TX5, 18), tyX5) := ⟨rfl, aok_5, by decide, RX5, inD1 (i := 132) rfl, Or.inl rfl⟩
set_option maxRecDepth 20000 in
theorem gfX6_35_5 : LFi RX6 35 5 0 := ⟨_, fX6_35_5, rfl⟩
set_option maxRecDepth 20000 in
theorem wX6_43 : inT (.fieldLink RX6 43 "PutOffParade$Word" "DUTY" "LPutOffParade$Word;") := (inC4 (i := 187) rfl rfl)
set_option maxRecDepth 20000 in
theorem fX6_46_5 : LF RX6 46 5 3 ((RX5, TX5, 18), tyX5) := ⟨rfl, aok_5, by decide, RX5, inD1 (i := 142) rfl, Or.inl rfl⟩
set_option maxRecDepth 20000 in
theorem gfX6_46_5 : LFi RX6 46 5 3 := ⟨_, fX6_46_5, rfl⟩
set_option maxRecDepth 20000 in
theorem wX6_52 : inT (.fieldLink RX6 52 "PutOffParade$Word" "FORGOTTEN" "LPutOffParade$Word;") := (inC4 (i := 207) rfl rfl)
set_option maxRecDepth 20000 in
theorem wX6_68 : inT (.fieldLink RX6 68 "PutOffParade$Word" "AT" "LPutOffParade$Word;") := (inC4 (i := 173) rfl rfl)
set_option maxRecDepth 20000 in
theorem wX6_75 : inT (.fieldLink RX6 75 "PutOffParade$Word" "FREE" "LPutOffParade$Word;") := (inC4 (i := 181) rfl rfl)
set_option maxRecDepth 20000 in
theorem wX6_82 : inT (.fieldLink RX6 82 "PutOffParade$Word" "OF" "LPutOffParade$Word;") := (inC4 (i := 193) rfl rfl)
set_option maxRecDepth 20000 in
theorem wX6_85 : inT (.fieldLink RX6 85 "PutOffParade$Word" "TAKES" "LPutOffParade$Word;") := (inC4 (i := 195) rfl rfl)
set_option maxRecDepth 20000 in
theorem wX6_88 : inT (.fieldLink RX6 88 "PutOffParade$Word" "AGE" "LPutOffParade$Word;") := (inC4 (i := 197) rfl rfl)
set_option maxRecDepth 20000 in
theorem wX6_91 : inT (.fieldLink RX6 91 "PutOffParade$Word" "TOOL" "LPutOffParade$Word;") := (inC4 (i := 199) rfl rfl)
set_option maxRecDepth 20000 in
theorem wX6_94 : inT (.fieldLink RX6 94 "PutOffParade$Word" "ON" "LPutOffParade$Word;") := (inC4 (i := 201) rfl rfl)
set_option maxRecDepth 20000 in
theorem fX6_101_9 : LF RX6 101 9 6 ((RX9, TX9, 10), tyX9) := ⟨rfl, aok_9, by decide, RX9, inD1 (i := 75) rfl, Or.inl rfl⟩
set_option maxRecDepth 20000 in
theorem gfX6_101_9 : LFi RX6 101 9 6 := ⟨_, fX6_101_9, rfl⟩
set_option maxRecDepth 20000 in
theorem fX6_104_9 : LF RX6 104 9 8 ((RX9, TX9, 10), tyX9) := ⟨rfl, aok_9, by decide, RX9, inD1 (i := 80) rfl, Or.inl rfl⟩
set_option maxRecDepth 20000 in
theorem gfX6_104_9 : LFi RX6 104 9 8 := ⟨_, fX6_104_9, rfl⟩
set_option maxRecDepth 20000 in
theorem fX6_111_5 : LF RX6 111 5 9 ((RX5, TX5, 18), tyX5) := ⟨rfl, aok_5, by decide, RX5, inD1 (i := 166) rfl, Or.inl rfl⟩
set_option maxRecDepth 20000 in
theorem gfX6_111_5 : LFr RX6 111 5 9 := ⟨_, fX6_111_5, rfl⟩
set_option maxRecDepth 20000 in
theorem wX6_119 : inT (.fieldLink RX6 119 "PutOffParade$Word" "ILL" "LPutOffParade$Word;") := (inC4 (i := 219) rfl rfl)
set_option maxRecDepth 20000 in
theorem fX6_122_5 : LF RX6 122 5 12 ((RX5, TX5, 18), tyX5) := ⟨rfl, aok_5, by decide, RX5, inD1 (i := 176) rfl, Or.inl rfl⟩
set_option maxRecDepth 20000 in
theorem gfX6_122_5 : LFi RX6 122 5 12 := ⟨_, fX6_122_5, rfl⟩
set_option maxRecDepth 20000 in
theorem pfX6_122_5 {nm : String} : LPi RX6 nm 122 5 12 := ⟨_, ⟨fX6_122_5, Or.inl rfl⟩, rfl⟩
set_option maxRecDepth 20000 in
theorem wX6_125 : inT (.fieldLink RX6 125 "PutOffParade$Word" "PACE" "LPutOffParade$Word;") := (inC4 (i := 221) rfl rfl)
set_option maxRecDepth 20000 in
theorem fX6_128_5 : LF RX6 128 5 13 ((RX5, TX5, 18), tyX5) := ⟨rfl, aok_5, by decide, RX5, inD1 (i := 179) rfl, Or.inl rfl⟩
set_option maxRecDepth 20000 in
theorem gfX6_128_5 : LFi RX6 128 5 13 := ⟨_, fX6_128_5, rfl⟩
set_option maxRecDepth 20000 in
theorem pfX6_128_5 {nm : String} : LPi RX6 nm 128 5 13 := ⟨_, ⟨fX6_128_5, Or.inl rfl⟩, rfl⟩
set_option maxRecDepth 20000 in
theorem wX6_131 : inT (.fieldLink RX6 131 "PutOffParade$Word" "PRICE" "LPutOffParade$Word;") := (inC4 (i := 223) rfl rfl)
set_option maxRecDepth 20000 in
theorem fX6_134_5 : LF RX6 134 5 14 ((RX5, TX5, 18), tyX5) := ⟨rfl, aok_5, by decide, RX5, inD1 (i := 182) rfl, Or.inl rfl⟩
set_option maxRecDepth 20000 in
theorem gfX6_134_5 : LFi RX6 134 5 14 := ⟨_, fX6_134_5, rfl⟩
set_option maxRecDepth 20000 in
theorem pfX6_134_5 {nm : String} : LPi RX6 nm 134 5 14 := ⟨_, ⟨fX6_134_5, Or.inl rfl⟩, rfl⟩
set_option maxRecDepth 20000 in
theorem wX6_137 : inT (.fieldLink RX6 137 "PutOffParade$Word" "DAY" "LPutOffParade$Word;") := (inC4 (i := 225) rfl rfl)
set_option maxRecDepth 20000 in
theorem fX6_140_5 : LF RX6 140 5 10 ((RX5, TX5, 18), tyX5) := ⟨rfl, aok_5, by decide, RX5, inD1 (i := 169) rfl, Or.inl rfl⟩
set_option maxRecDepth 20000 in
theorem gfX6_140_5 : LFi RX6 140 5 10 := ⟨_, fX6_140_5, rfl⟩
set_option maxRecDepth 20000 in
theorem pfX6_140_5 {nm : String} : LPi RX6 nm 140 5 10 := ⟨_, ⟨fX6_140_5, Or.inl rfl⟩, rfl⟩
set_option maxRecDepth 20000 in
theorem wX6_143 : inT (.fieldLink RX6 143 "PutOffParade$Word" "MONTH" "LPutOffParade$Word;") := (inC4 (i := 227) rfl rfl)
set_option maxRecDepth 20000 in
theorem fX6_146_5 : LF RX6 146 5 11 ((RX5, TX5, 18), tyX5) := ⟨rfl, aok_5, by decide, RX5, inD1 (i := 173) rfl, Or.inl rfl⟩
set_option maxRecDepth 20000 in
theorem gfX6_146_5 : LFi RX6 146 5 11 := ⟨_, fX6_146_5, rfl⟩
set_option maxRecDepth 20000 in
theorem pfX6_146_5 {nm : String} : LPi RX6 nm 146 5 11 := ⟨_, ⟨fX6_146_5, Or.inl rfl⟩, rfl⟩
set_option maxRecDepth 20000 in
theorem fX7_9_7 : LF RX7 9 7 0 ((RX7, TX7, 2), tyX7) := ⟨rfl, aok_7, by decide, RX7, inD1 (i := 44) rfl, Or.inl rfl⟩
set_option maxRecDepth 20000 in
theorem gfX7_9_7 : LFr RX7 9 7 0 := ⟨_, fX7_9_7, rfl⟩
set_option maxRecDepth 20000 in
theorem pfX7_9_7 : LPr RX7 "<init>" 9 7 0 := ⟨_, ⟨fX7_9_7, Or.inr ⟨rfl, rfl, rfl⟩⟩, rfl⟩
set_option maxRecDepth 20000 in
theorem fX7_15_7 : LF RX7 15 7 1 ((RX7, TX7, 2), tyX7) := ⟨rfl, aok_7, by decide, RX7, inD1 (i := 46) rfl, Or.inl rfl⟩
set_option maxRecDepth 20000 in
theorem gfX7_15_7 : LFi RX7 15 7 1 := ⟨_, fX7_15_7, rfl⟩
set_option maxRecDepth 20000 in
theorem pfX7_15_7 {nm : String} : LPi RX7 nm 15 7 1 := ⟨_, ⟨fX7_15_7, Or.inl rfl⟩, rfl⟩
set_option maxRecDepth 20000 in
theorem fX8_12_3 : LF RX8 12 3 0 ((RX3, TX3, 6), tyX3) := ⟨rfl, aok_3, by decide, RX8, inD1 (i := 229) rfl, Or.inl rfl⟩
set_option maxRecDepth 20000 in
theorem gfX8_12_3 : LFr RX8 12 3 0 := ⟨_, fX8_12_3, rfl⟩
set_option maxRecDepth 20000 in
theorem pfX8_12_3 : LPr RX8 "<init>" 12 3 0 := ⟨_, ⟨fX8_12_3, Or.inr ⟨rfl, rfl, rfl⟩⟩, rfl⟩
set_option maxRecDepth 20000 in
theorem fX8_12_6 : LF RX8 12 6 0 ((RX6, TX6, 3), tyX6) := ⟨rfl, aok_6, by decide, RX8, inD1 (i := 229) rfl, Or.inl rfl⟩
set_option maxRecDepth 20000 in
theorem gfX8_12_6 : LFr RX8 12 6 0 := ⟨_, fX8_12_6, rfl⟩
set_option maxRecDepth 20000 in
theorem pfX8_12_6 : LPr RX8 "<init>" 12 6 0 := ⟨_, ⟨fX8_12_6, Or.inr ⟨rfl, rfl, rfl⟩⟩, rfl⟩
set_option maxRecDepth 20000 in
theorem fX8_18_3 : LF RX8 18 3 1 ((RX3, TX3, 6), tyX3) := ⟨rfl, aok_3, by decide, RX8, inD1 (i := 234) rfl, Or.inl rfl⟩
set_option maxRecDepth 20000 in
theorem gfX8_18_3 : LFi RX8 18 3 1 := ⟨_, fX8_18_3, rfl⟩
set_option maxRecDepth 20000 in
theorem pfX8_18_3 : LPi RX8 "<init>" 18 3 1 := ⟨_, ⟨fX8_18_3, Or.inr ⟨rfl, rfl, rfl⟩⟩, rfl⟩
set_option maxRecDepth 20000 in
theorem fX8_18_6 : LF RX8 18 6 1 ((RX6, TX6, 3), tyX6) := ⟨rfl, aok_6, by decide, RX8, inD1 (i := 234) rfl, Or.inl rfl⟩
set_option maxRecDepth 20000 in
theorem gfX8_18_6 : LFi RX8 18 6 1 := ⟨_, fX8_18_6, rfl⟩
set_option maxRecDepth 20000 in
theorem pfX8_18_6 : LPi RX8 "<init>" 18 6 1 := ⟨_, ⟨fX8_18_6, Or.inr ⟨rfl, rfl, rfl⟩⟩, rfl⟩
set_option maxRecDepth 20000 in
theorem fX8_33_9 : LF RX8 33 9 7 ((RX9, TX9, 10), tyX9) := ⟨rfl, aok_9, by decide, RX9, inD1 (i := 78) rfl, Or.inl rfl⟩
set_option maxRecDepth 20000 in
theorem gfX8_33_9 : LFi RX8 33 9 7 := ⟨_, fX8_33_9, rfl⟩
set_option maxRecDepth 20000 in
theorem fX9_9_9 : LF RX9 9 9 0 ((RX9, TX9, 10), tyX9) := ⟨rfl, aok_9, by decide, RX9, inD1 (i := 69) rfl, Or.inl rfl⟩
set_option maxRecDepth 20000 in
theorem gfX9_9_9 : LFr RX9 9 9 0 := ⟨_, fX9_9_9, rfl⟩
set_option maxRecDepth 20000 in
theorem pfX9_9_9 : LPr RX9 "<init>" 9 9 0 := ⟨_, ⟨fX9_9_9, Or.inr ⟨rfl, rfl, rfl⟩⟩, rfl⟩
set_option maxRecDepth 20000 in
theorem fX9_15_9 : LF RX9 15 9 1 ((RX9, TX9, 10), tyX9) := ⟨rfl, aok_9, by decide, RX9, inD1 (i := 70) rfl, Or.inl rfl⟩
set_option maxRecDepth 20000 in
theorem gfX9_15_9 : LFr RX9 15 9 1 := ⟨_, fX9_15_9, rfl⟩
set_option maxRecDepth 20000 in
theorem pfX9_15_9 : LPr RX9 "<init>" 15 9 1 := ⟨_, ⟨fX9_15_9, Or.inr ⟨rfl, rfl, rfl⟩⟩, rfl⟩
set_option maxRecDepth 20000 in
theorem fX9_18_9 : LF RX9 18 9 2 ((RX9, TX9, 10), tyX9) := ⟨rfl, aok_9, by decide, RX9, inD1 (i := 71) rfl, Or.inl rfl⟩
set_option maxRecDepth 20000 in
theorem gfX9_18_9 : LFr RX9 18 9 2 := ⟨_, fX9_18_9, rfl⟩
set_option maxRecDepth 20000 in
theorem pfX9_18_9 : LPr RX9 "<init>" 18 9 2 := ⟨_, ⟨fX9_18_9, Or.inr ⟨rfl, rfl, rfl⟩⟩, rfl⟩
set_option maxRecDepth 20000 in
theorem fX9_21_9 : LF RX9 21 9 3 ((RX9, TX9, 10), tyX9) := ⟨rfl, aok_9, by decide, RX9, inD1 (i := 72) rfl, Or.inl rfl⟩
set_option maxRecDepth 20000 in
theorem gfX9_21_9 : LFr RX9 21 9 3 := ⟨_, fX9_21_9, rfl⟩
set_option maxRecDepth 20000 in
theorem pfX9_21_9 : LPr RX9 "<init>" 21 9 3 := ⟨_, ⟨fX9_21_9, Or.inr ⟨rfl, rfl, rfl⟩⟩, rfl⟩
set_option maxRecDepth 20000 in
theorem fX9_24_9 : LF RX9 24 9 4 ((RX9, TX9, 10), tyX9) := ⟨rfl, aok_9, by decide, RX9, inD1 (i := 73) rfl, Or.inl rfl⟩
set_option maxRecDepth 20000 in
theorem gfX9_24_9 : LFi RX9 24 9 4 := ⟨_, fX9_24_9, rfl⟩
set_option maxRecDepth 20000 in
theorem pfX9_24_9 {nm : String} : LPi RX9 nm 24 9 4 := ⟨_, ⟨fX9_24_9, Or.inl rfl⟩, rfl⟩
set_option maxRecDepth 20000 in
theorem fX9_28_7 : LF RX9 28 7 1 ((RX7, TX7, 2), tyX7) := ⟨rfl, aok_7, by decide, RX7, inD1 (i := 47) rfl, Or.inl rfl⟩
set_option maxRecDepth 20000 in
theorem gfX9_28_7 : LFi RX9 28 7 1 := ⟨_, fX9_28_7, rfl⟩
set_option maxRecDepth 20000 in
theorem fX9_52_9 : LF RX9 52 9 5 ((RX9, TX9, 10), tyX9) := ⟨rfl, aok_9, by decide, RX9, inD1 (i := 74) rfl, Or.inl rfl⟩
set_option maxRecDepth 20000 in
theorem gfX9_52_9 : LFi RX9 52 9 5 := ⟨_, fX9_52_9, rfl⟩
set_option maxRecDepth 20000 in
theorem pfX9_52_9 {nm : String} : LPi RX9 nm 52 9 5 := ⟨_, ⟨fX9_52_9, Or.inl rfl⟩, rfl⟩
set_option maxRecDepth 20000 in
theorem wX9_68 : inT (.fieldLink RX9 68 "PutOffParade$Tokens" "WORDS" "[LPutOffParade$Word;") := (inC4 (i := 0) rfl rfl)
set_option maxRecDepth 20000 in
theorem wX9_72 : inT (.fieldLink RX9 72 "PutOffParade$Word" "text" "Ljava/lang/String;") := (inC10 (i := 50) rfl rfl)
set_option maxRecDepth 20000 in
theorem fX9_97_9 : LF RX9 97 9 6 ((RX9, TX9, 10), tyX9) := ⟨rfl, aok_9, by decide, RX9, inD1 (i := 76) rfl, Or.inl rfl⟩
set_option maxRecDepth 20000 in
theorem gfX9_97_9 : LFi RX9 97 9 6 := ⟨_, fX9_97_9, rfl⟩
set_option maxRecDepth 20000 in
theorem pfX9_97_9 {nm : String} : LPi RX9 nm 97 9 6 := ⟨_, ⟨fX9_97_9, Or.inl rfl⟩, rfl⟩
set_option maxRecDepth 20000 in
theorem fX9_100_9 : LF RX9 100 9 7 ((RX9, TX9, 10), tyX9) := ⟨rfl, aok_9, by decide, RX9, inD1 (i := 79) rfl, Or.inl rfl⟩
set_option maxRecDepth 20000 in
theorem pfX9_100_9 {nm : String} : LPi RX9 nm 100 9 7 := ⟨_, ⟨fX9_100_9, Or.inl rfl⟩, rfl⟩
set_option maxRecDepth 20000 in
theorem fX9_103_9 : LF RX9 103 9 8 ((RX9, TX9, 10), tyX9) := ⟨rfl, aok_9, by decide, RX9, inD1 (i := 81) rfl, Or.inl rfl⟩
set_option maxRecDepth 20000 in
theorem gfX9_103_9 : LFi RX9 103 9 8 := ⟨_, fX9_103_9, rfl⟩
set_option maxRecDepth 20000 in
theorem pfX9_103_9 {nm : String} : LPi RX9 nm 103 9 8 := ⟨_, ⟨fX9_103_9, Or.inl rfl⟩, rfl⟩
set_option maxRecDepth 20000 in
theorem fX9_106_9 : LF RX9 106 9 9 ((RX9, TX9, 10), tyX9) := ⟨rfl, aok_9, by decide, RX9, inD1 (i := 85) rfl, Or.inl rfl⟩
set_option maxRecDepth 20000 in
theorem gfX9_106_9 : LFr RX9 106 9 9 := ⟨_, fX9_106_9, rfl⟩
set_option maxRecDepth 20000 in
theorem pfX9_106_9 {nm : String} : LPr RX9 nm 106 9 9 := ⟨_, ⟨fX9_106_9, Or.inl rfl⟩, rfl⟩
set_option maxRecDepth 20000 in
theorem fX12_3_12 : LF RX12 3 12 0 ((RX12, TX12, 20), tyX12) := ⟨rfl, aok_12, by decide, RX12, inD7 (i := 35) rfl, Or.inl rfl⟩
set_option maxRecDepth 20000 in
theorem gfX12_3_12 : LFi RX12 3 12 0 := ⟨_, fX12_3_12, rfl⟩
set_option maxRecDepth 20000 in
theorem pfX12_3_12 {nm : String} : LPi RX12 nm 3 12 0 := ⟨_, ⟨fX12_3_12, Or.inl rfl⟩, rfl⟩
set_option maxRecDepth 20000 in
theorem fX12_13_12 : LF RX12 13 12 1 ((RX12, TX12, 20), tyX12) := ⟨rfl, aok_12, by decide, RX12, inD7 (i := 36) rfl, Or.inl rfl⟩
set_option maxRecDepth 20000 in
theorem gfX12_13_12 : LFr RX12 13 12 1 := ⟨_, fX12_13_12, rfl⟩
set_option maxRecDepth 20000 in
theorem pfX12_13_12 : LPr RX12 "<init>" 13 12 1 := ⟨_, ⟨fX12_13_12, Or.inr ⟨rfl, rfl, rfl⟩⟩, rfl⟩
set_option maxRecDepth 20000 in
theorem fX12_17_12 : LF RX12 17 12 2 ((RX12, TX12, 20), tyX12) := ⟨rfl, aok_12, by decide, RX12, inD7 (i := 37) rfl, Or.inl rfl⟩
set_option maxRecDepth 20000 in
theorem gfX12_17_12 : LFr RX12 17 12 2 := ⟨_, fX12_17_12, rfl⟩
set_option maxRecDepth 20000 in
theorem pfX12_17_12 : LPr RX12 "<init>" 17 12 2 := ⟨_, ⟨fX12_17_12, Or.inr ⟨rfl, rfl, rfl⟩⟩, rfl⟩
set_option maxRecDepth 20000 in
theorem fX12_20_12 : LF RX12 20 12 3 ((RX12, TX12, 20), tyX12) := ⟨rfl, aok_12, by decide, RX12, inD7 (i := 38) rfl, Or.inl rfl⟩
set_option maxRecDepth 20000 in
theorem gfX12_20_12 : LFr RX12 20 12 3 := ⟨_, fX12_20_12, rfl⟩
set_option maxRecDepth 20000 in
theorem pfX12_20_12 : LPr RX12 "<init>" 20 12 3 := ⟨_, ⟨fX12_20_12, Or.inr ⟨rfl, rfl, rfl⟩⟩, rfl⟩
set_option maxRecDepth 20000 in
theorem fX12_23_12 : LF RX12 23 12 4 ((RX12, TX12, 20), tyX12) := ⟨rfl, aok_12, by decide, RX12, inD7 (i := 39) rfl, Or.inl rfl⟩
set_option maxRecDepth 20000 in
theorem gfX12_23_12 : LFr RX12 23 12 4 := ⟨_, fX12_23_12, rfl⟩
set_option maxRecDepth 20000 in
theorem pfX12_23_12 : LPr RX12 "<init>" 23 12 4 := ⟨_, ⟨fX12_23_12, Or.inr ⟨rfl, rfl, rfl⟩⟩, rfl⟩
set_option maxRecDepth 20000 in
theorem fX12_26_12 : LF RX12 26 12 5 ((RX12, TX12, 20), tyX12) := ⟨rfl, aok_12, by decide, RX12, inD7 (i := 40) rfl, Or.inl rfl⟩
set_option maxRecDepth 20000 in
theorem gfX12_26_12 : LFr RX12 26 12 5 := ⟨_, fX12_26_12, rfl⟩
set_option maxRecDepth 20000 in
theorem pfX12_26_12 : LPr RX12 "<init>" 26 12 5 := ⟨_, ⟨fX12_26_12, Or.inr ⟨rfl, rfl, rfl⟩⟩, rfl⟩
set_option maxRecDepth 20000 in
theorem fX12_29_12 : LF RX12 29 12 8 ((RX12, TX12, 20), tyX12) := ⟨rfl, aok_12, by decide, RX12, inD7 (i := 43) rfl, Or.inl rfl⟩
set_option maxRecDepth 20000 in
theorem gfX12_29_12 : LFr RX12 29 12 8 := ⟨_, fX12_29_12, rfl⟩
set_option maxRecDepth 20000 in
theorem pfX12_29_12 : LPr RX12 "<init>" 29 12 8 := ⟨_, ⟨fX12_29_12, Or.inr ⟨rfl, rfl, rfl⟩⟩, rfl⟩
set_option maxRecDepth 20000 in
theorem fX12_33_12 : LF RX12 33 12 14 ((RX12, TX12, 20), tyX12) := ⟨rfl, aok_12, by decide, RX12, inD7 (i := 49) rfl, Or.inl rfl⟩
set_option maxRecDepth 20000 in
theorem gfX12_33_12 : LFi RX12 33 12 14 := ⟨_, fX12_33_12, rfl⟩
set_option maxRecDepth 20000 in
theorem pfX12_33_12 {nm : String} : LPi RX12 nm 33 12 14 := ⟨_, ⟨fX12_33_12, Or.inl rfl⟩, rfl⟩
set_option maxRecDepth 20000 in
theorem fX12_36_12 : LF RX12 36 12 15 ((RX12, TX12, 20), tyX12) := ⟨rfl, aok_12, by decide, RX12, inD7 (i := 50) rfl, Or.inl rfl⟩
set_option maxRecDepth 20000 in
theorem gfX12_36_12 : LFr RX12 36 12 15 := ⟨_, fX12_36_12, rfl⟩
set_option maxRecDepth 20000 in
theorem pfX12_36_12 : LPr RX12 "<init>" 36 12 15 := ⟨_, ⟨fX12_36_12, Or.inr ⟨rfl, rfl, rfl⟩⟩, rfl⟩
set_option maxRecDepth 20000 in
theorem fX12_39_12 : LF RX12 39 12 17 ((RX12, TX12, 20), tyX12) := ⟨rfl, aok_12, by decide, RX12, inD7 (i := 52) rfl, Or.inl rfl⟩
set_option maxRecDepth 20000 in
theorem gfX12_39_12 : LFr RX12 39 12 17 := ⟨_, fX12_39_12, rfl⟩
set_option maxRecDepth 20000 in
theorem pfX12_39_12 : LPr RX12 "<init>" 39 12 17 := ⟨_, ⟨fX12_39_12, Or.inr ⟨rfl, rfl, rfl⟩⟩, rfl⟩
set_option maxRecDepth 20000 in
theorem fX12_42_12 : LF RX12 42 12 18 ((RX12, TX12, 20), tyX12) := ⟨rfl, aok_12, by decide, RX12, inD7 (i := 53) rfl, Or.inl rfl⟩
set_option maxRecDepth 20000 in
theorem gfX12_42_12 : LFr RX12 42 12 18 := ⟨_, fX12_42_12, rfl⟩
set_option maxRecDepth 20000 in
theorem pfX12_42_12 : LPr RX12 "<init>" 42 12 18 := ⟨_, ⟨fX12_42_12, Or.inr ⟨rfl, rfl, rfl⟩⟩, rfl⟩
set_option maxRecDepth 20000 in
theorem fX12_45_12 : LF RX12 45 12 19 ((RX12, TX12, 20), tyX12) := ⟨rfl, aok_12, by decide, RX12, inD7 (i := 54) rfl, Or.inl rfl⟩
set_option maxRecDepth 20000 in
theorem gfX12_45_12 : LFr RX12 45 12 19 := ⟨_, fX12_45_12, rfl⟩
set_option maxRecDepth 20000 in
theorem pfX12_45_12 : LPr RX12 "<init>" 45 12 19 := ⟨_, ⟨fX12_45_12, Or.inr ⟨rfl, rfl, rfl⟩⟩, rfl⟩
set_option maxRecDepth 20000 in
theorem fX12_49_12 : LF RX12 49 12 6 ((RX12, TX12, 20), tyX12) := ⟨rfl, aok_12, by decide, RX12, inD7 (i := 41) rfl, Or.inl rfl⟩
set_option maxRecDepth 20000 in
theorem gfX12_49_12 : LFi RX12 49 12 6 := ⟨_, fX12_49_12, rfl⟩
set_option maxRecDepth 20000 in
theorem pfX12_49_12 {nm : String} : LPz RX12 nm 49 12 6 := ⟨_, ⟨fX12_49_12, Or.inl rfl⟩, rfl⟩
set_option maxRecDepth 20000 in
theorem fX12_53_12 : LF RX12 53 12 7 ((RX12, TX12, 20), tyX12) := ⟨rfl, aok_12, by decide, RX12, inD7 (i := 42) rfl, Or.inl rfl⟩
set_option maxRecDepth 20000 in
theorem gfX12_53_12 : LFi RX12 53 12 7 := ⟨_, fX12_53_12, rfl⟩
set_option maxRecDepth 20000 in
theorem pfX12_53_12 {nm : String} : LPi RX12 nm 53 12 7 := ⟨_, ⟨fX12_53_12, Or.inl rfl⟩, rfl⟩
set_option maxRecDepth 20000 in
theorem fX12_78_12 : LF RX12 78 12 9 ((RX12, TX12, 20), tyX12) := ⟨rfl, aok_12, by decide, RX12, inD7 (i := 44) rfl, Or.inl rfl⟩
set_option maxRecDepth 20000 in
theorem gfX12_78_12 : LFi RX12 78 12 9 := ⟨_, fX12_78_12, rfl⟩
set_option maxRecDepth 20000 in
theorem pfX12_78_12 {nm : String} : LPi RX12 nm 78 12 9 := ⟨_, ⟨fX12_78_12, Or.inl rfl⟩, rfl⟩
set_option maxRecDepth 20000 in
theorem fX12_81_12 : LF RX12 81 12 10 ((RX12, TX12, 20), tyX12) := ⟨rfl, aok_12, by decide, RX12, inD7 (i := 45) rfl, Or.inl rfl⟩
set_option maxRecDepth 20000 in
theorem gfX12_81_12 : LFi RX12 81 12 10 := ⟨_, fX12_81_12, rfl⟩
set_option maxRecDepth 20000 in
theorem pfX12_81_12 {nm : String} : LPi RX12 nm 81 12 10 := ⟨_, ⟨fX12_81_12, Or.inl rfl⟩, rfl⟩
set_option maxRecDepth 20000 in
theorem fX12_84_12 : LF RX12 84 12 11 ((RX12, TX12, 20), tyX12) := ⟨rfl, aok_12, by decide, RX12, inD7 (i := 46) rfl, Or.inl rfl⟩
set_option maxRecDepth 20000 in
theorem gfX12_84_12 : LFi RX12 84 12 11 := ⟨_, fX12_84_12, rfl⟩
set_option maxRecDepth 20000 in
theorem pfX12_84_12 {nm : String} : LPi RX12 nm 84 12 11 := ⟨_, ⟨fX12_84_12, Or.inl rfl⟩, rfl⟩
set_option maxRecDepth 20000 in
theorem fX12_91_12 : LF RX12 91 12 12 ((RX12, TX12, 20), tyX12) := ⟨rfl, aok_12, by decide, RX12, inD7 (i := 47) rfl, Or.inl rfl⟩
set_option maxRecDepth 20000 in
theorem gfX12_91_12 : LFi RX12 91 12 12 := ⟨_, fX12_91_12, rfl⟩
set_option maxRecDepth 20000 in
theorem pfX12_91_12 {nm : String} : LPi RX12 nm 91 12 12 := ⟨_, ⟨fX12_91_12, Or.inl rfl⟩, rfl⟩
set_option maxRecDepth 20000 in
theorem fX12_168_12 : LF RX12 168 12 16 ((RX12, TX12, 20), tyX12) := ⟨rfl, aok_12, by decide, RX12, inD7 (i := 51) rfl, Or.inl rfl⟩
set_option maxRecDepth 20000 in
theorem gfX12_168_12 : LFi RX12 168 12 16 := ⟨_, fX12_168_12, rfl⟩
set_option maxRecDepth 20000 in
theorem pfX12_168_12 {nm : String} : LPi RX12 nm 168 12 16 := ⟨_, ⟨fX12_168_12, Or.inl rfl⟩, rfl⟩
set_option maxRecDepth 20000 in
theorem fX12_194_12 : LF RX12 194 12 13 ((RX12, TX12, 20), tyX12) := ⟨rfl, aok_12, by decide, RX12, inD7 (i := 48) rfl, Or.inl rfl⟩
set_option maxRecDepth 20000 in
theorem gfX12_194_12 : LFi RX12 194 12 13 := ⟨_, fX12_194_12, rfl⟩
set_option maxRecDepth 20000 in
theorem pfX12_194_12 {nm : String} : LPi RX12 nm 194 12 13 := ⟨_, ⟨fX12_194_12, Or.inl rfl⟩, rfl⟩
set_option maxRecDepth 20000 in
theorem wJ0_9 : inT (.fieldLink RJ0 9 "java/lang/String" "value" "[B") := (inC10 (i := 51) rfl rfl)
set_option maxRecDepth 20000 in
theorem wJ0_15 : inT (.fieldLink RJ0 15 "java/lang/String" "coder" "B") := (inC10 (i := 52) rfl rfl)
set_option maxRecDepth 20000 in
theorem wJ0_38 : inT (.fieldLink RJ0 38 "java/lang/String" "COMPACT_STRINGS" "Z") := (inC4 (i := 14) rfl rfl)
set_option maxRecDepth 20000 in
theorem wJ0_1053 : inT (.fieldLink RJ0 1053 "jdk/internal/util/Preconditions" "SIOOBE_FORMATTER" "Ljava/util/function/BiFunction;") := (inC4 (i := 30) rfl rfl)
set_option maxRecDepth 20000 in
theorem wJ2_44 : inT (.fieldLink RJ2 44 "java/lang/StringUTF16" "$assertionsDisabled" "Z") := (inC4 (i := 48) rfl rfl)
set_option maxRecDepth 20000 in
theorem wJ2_59 : inT (.fieldLink RJ2 59 "java/lang/StringUTF16" "HI_BYTE_SHIFT" "I") := (inC4 (i := 50) rfl rfl)
set_option maxRecDepth 20000 in
theorem wJ2_63 : inT (.fieldLink RJ2 63 "java/lang/StringUTF16" "LO_BYTE_SHIFT" "I") := (inC4 (i := 52) rfl rfl)
end
