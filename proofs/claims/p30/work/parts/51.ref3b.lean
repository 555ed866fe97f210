theorem dX10_as_0 : decode cX10_as 0 = .ok (.aload_n 0, 1) := by decide +kernel
theorem dX10_as_1 : decode cX10_as 1 = .ok (.iload_n 1, 1) := by decide +kernel
theorem dX10_as_2 : decode cX10_as 2 = .ok (.iload_n 2, 1) := by decide +kernel
theorem dX10_as_3 : decode cX10_as 3 = .ok (.invokevirtual 208, 3) := by decide +kernel
theorem dX10_as_6 : decode cX10_as 6 = .ok (.ifCond .eq 15, 3) := by decide +kernel
theorem dX10_as_9 : decode cX10_as 9 = .ok (.iload_n 3, 1) := by decide +kernel
theorem dX10_as_10 : decode cX10_as 10 = .ok (.i2l, 1) := by decide +kernel
theorem dX10_as_11 : decode cX10_as 11 = .ok (.lconst 0, 1) := by decide +kernel
theorem dX10_as_12 : decode cX10_as 12 = .ok (.ldc2_w 199, 3) := by decide +kernel
theorem dX10_as_15 : decode cX10_as 15 = .ok (.invokestatic 51, 3) := by decide +kernel
theorem dX10_as_18 : decode cX10_as 18 = .ok (.ifCond .ne 6, 3) := by decide +kernel
theorem dX10_as_21 : decode cX10_as 21 = .ok (.ldc 177, 2) := by decide +kernel
theorem dX10_as_23 : decode cX10_as 23 = .ok (.ireturn, 1) := by decide +kernel
theorem dX10_as_24 : decode cX10_as 24 = .ok (.aload_n 0, 1) := by decide +kernel
theorem dX10_as_25 : decode cX10_as 25 = .ok (.getfield 7, 3) := by decide +kernel
theorem dX10_as_28 : decode cX10_as 28 = .ok (.iload_n 1, 1) := by decide +kernel
theorem dX10_as_29 : decode cX10_as 29 = .ok (.iload_n 2, 1) := by decide +kernel
theorem dX10_as_30 : decode cX10_as 30 = .ok (.iconst 0, 1) := by decide +kernel
theorem dX10_as_31 : decode cX10_as 31 = .ok (.invokestatic 62, 3) := by decide +kernel
theorem dX10_as_34 : decode cX10_as 34 = .ok (.istore 4, 2) := by decide +kernel
theorem dX10_as_36 : decode cX10_as 36 = .ok (.iload_n 3, 1) := by decide +kernel
theorem dX10_as_37 : decode cX10_as 37 = .ok (.ifCond .eq 26, 3) := by decide +kernel
theorem dX10_as_40 : decode cX10_as 40 = .ok (.iload_n 3, 1) := by decide +kernel
theorem dX10_as_41 : decode cX10_as 41 = .ok (.iload 4, 2) := by decide +kernel
theorem dX10_as_43 : decode cX10_as 43 = .ok (.if_icmp .eq 20, 3) := by decide +kernel
theorem dX10_as_46 : decode cX10_as 46 = .ok (.iload_n 3, 1) := by decide +kernel
theorem dX10_as_47 : decode cX10_as 47 = .ok (.iconst 1, 1) := by decide +kernel
theorem dX10_as_48 : decode cX10_as 48 = .ok (.if_icmp .ne 19, 3) := by decide +kernel
theorem dX10_as_51 : decode cX10_as 51 = .ok (.iload 4, 2) := by decide +kernel
theorem dX10_as_53 : decode cX10_as 53 = .ok (.iconst 2, 1) := by decide +kernel
theorem dX10_as_54 : decode cX10_as 54 = .ok (.if_icmp .eq 9, 3) := by decide +kernel
theorem dX10_as_57 : decode cX10_as 57 = .ok (.iload 4, 2) := by decide +kernel
theorem dX10_as_59 : decode cX10_as 59 = .ok (.iconst 3, 1) := by decide +kernel
theorem dX10_as_60 : decode cX10_as 60 = .ok (.if_icmp .ne 7, 3) := by decide +kernel
theorem dX10_as_63 : decode cX10_as 63 = .ok (.iload_n 2, 1) := by decide +kernel
theorem dX10_as_64 : decode cX10_as 64 = .ok (.goto 5, 3) := by decide +kernel
theorem dX10_as_67 : decode cX10_as 67 = .ok (.ldc 61, 2) := by decide +kernel
theorem dX10_as_69 : decode cX10_as 69 = .ok (.ireturn, 1) := by decide +kernel
theorem dX10_edition_0 : decode cX10_edition 0 = .ok (.aload_n 0, 1) := by decide +kernel
theorem dX10_edition_1 : decode cX10_edition 1 = .ok (.iload_n 1, 1) := by decide +kernel
theorem dX10_edition_2 : decode cX10_edition 2 = .ok (.invokevirtual 55, 3) := by decide +kernel
theorem dX10_edition_5 : decode cX10_edition 5 = .ok (.ifCond .eq 15, 3) := by decide +kernel
theorem dX10_edition_8 : decode cX10_edition 8 = .ok (.iload_n 2, 1) := by decide +kernel
theorem dX10_edition_9 : decode cX10_edition 9 = .ok (.i2l, 1) := by decide +kernel
theorem dX10_edition_10 : decode cX10_edition 10 = .ok (.lconst 0, 1) := by decide +kernel
theorem dX10_edition_11 : decode cX10_edition 11 = .ok (.ldc2_w 242, 3) := by decide +kernel
theorem dX10_edition_14 : decode cX10_edition 14 = .ok (.invokestatic 51, 3) := by decide +kernel
theorem dX10_edition_17 : decode cX10_edition 17 = .ok (.ifCond .ne 6, 3) := by decide +kernel
theorem dX10_edition_20 : decode cX10_edition 20 = .ok (.ldc 177, 2) := by decide +kernel
theorem dX10_edition_22 : decode cX10_edition 22 = .ok (.ireturn, 1) := by decide +kernel
theorem dX10_edition_23 : decode cX10_edition 23 = .ok (.iload_n 2, 1) := by decide +kernel
theorem dX10_edition_24 : decode cX10_edition 24 = .ok (.ifCond .ne 12, 3) := by decide +kernel
theorem dX10_edition_27 : decode cX10_edition 27 = .ok (.aload_n 0, 1) := by decide +kernel
theorem dX10_edition_28 : decode cX10_edition 28 = .ok (.getfield 7, 3) := by decide +kernel
theorem dX10_edition_31 : decode cX10_edition 31 = .ok (.iconst 3, 1) := by decide +kernel
theorem dX10_edition_32 : decode cX10_edition 32 = .ok (.iload_n 1, 1) := by decide +kernel
theorem dX10_edition_33 : decode cX10_edition 33 = .ok (.iadd, 1) := by decide +kernel
theorem dX10_edition_34 : decode cX10_edition 34 = .ok (.iaload, 1) := by decide +kernel
theorem dX10_edition_35 : decode cX10_edition 35 = .ok (.ireturn, 1) := by decide +kernel
theorem dX10_edition_36 : decode cX10_edition 36 = .ok (.aload_n 0, 1) := by decide +kernel
theorem dX10_edition_37 : decode cX10_edition 37 = .ok (.invokevirtual 221, 3) := by decide +kernel
theorem dX10_edition_40 : decode cX10_edition 40 = .ok (.iload_n 2, 1) := by decide +kernel
theorem dX10_edition_41 : decode cX10_edition 41 = .ok (.iconst 1, 1) := by decide +kernel
theorem dX10_edition_42 : decode cX10_edition 42 = .ok (.if_icmp .ne 9, 3) := by decide +kernel
theorem dX10_edition_45 : decode cX10_edition 45 = .ok (.aload_n 0, 1) := by decide +kernel
theorem dX10_edition_46 : decode cX10_edition 46 = .ok (.iload_n 1, 1) := by decide +kernel
theorem dX10_edition_47 : decode cX10_edition 47 = .ok (.invokevirtual 244, 3) := by decide +kernel
theorem dX10_edition_50 : decode cX10_edition 50 = .ok (.ireturn, 1) := by decide +kernel
theorem dX10_edition_51 : decode cX10_edition 51 = .ok (.aload_n 0, 1) := by decide +kernel
theorem dX10_edition_52 : decode cX10_edition 52 = .ok (.iload_n 1, 1) := by decide +kernel
theorem dX10_edition_53 : decode cX10_edition 53 = .ok (.aload_n 0, 1) := by decide +kernel
theorem dX10_edition_54 : decode cX10_edition 54 = .ok (.getfield 35, 3) := by decide +kernel
theorem dX10_edition_57 : decode cX10_edition 57 = .ok (.invokevirtual 247, 3) := by decide +kernel
theorem dX10_edition_60 : decode cX10_edition 60 = .ok (.iload_n 2, 1) := by decide +kernel
theorem dX10_edition_61 : decode cX10_edition 61 = .ok (.iconst 5, 1) := by decide +kernel
theorem dX10_edition_62 : decode cX10_edition 62 = .ok (.if_icmp .ge 16, 3) := by decide +kernel
theorem dX10_edition_65 : decode cX10_edition 65 = .ok (.aload_n 0, 1) := by decide +kernel
theorem dX10_edition_66 : decode cX10_edition 66 = .ok (.getfield 35, 3) := by decide +kernel
theorem dX10_edition_69 : decode cX10_edition 69 = .ok (.iload_n 2, 1) := by decide +kernel
theorem dX10_edition_70 : decode cX10_edition 70 = .ok (.iconst 2, 1) := by decide +kernel
theorem dX10_edition_71 : decode cX10_edition 71 = .ok (.isub, 1) := by decide +kernel
theorem dX10_edition_72 : decode cX10_edition 72 = .ok (.invokestatic 251, 3) := by decide +kernel
theorem dX10_edition_75 : decode cX10_edition 75 = .ok (.goto 9, 3) := by decide +kernel
theorem dX10_edition_78 : decode cX10_edition 78 = .ok (.aload_n 0, 1) := by decide +kernel
theorem dX10_edition_79 : decode cX10_edition 79 = .ok (.iload_n 1, 1) := by decide +kernel
theorem dX10_edition_80 : decode cX10_edition 80 = .ok (.iload_n 2, 1) := by decide +kernel
theorem dX10_edition_81 : decode cX10_edition 81 = .ok (.invokevirtual 255, 3) := by decide +kernel
theorem dX10_edition_84 : decode cX10_edition 84 = .ok (.ireturn, 1) := by decide +kernel
theorem dX10_number__0 : decode cX10_number_ 0 = .ok (.aload_n 0, 1) := by decide +kernel
theorem dX10_number__1 : decode cX10_number_ 1 = .ok (.iload_n 1, 1) := by decide +kernel
theorem dX10_number__2 : decode cX10_number_ 2 = .ok (.invokevirtual 55, 3) := by decide +kernel
theorem dX10_number__5 : decode cX10_number_ 5 = .ok (.ifCond .eq 21, 3) := by decide +kernel
theorem dX10_number__8 : decode cX10_number_ 8 = .ok (.aload_n 0, 1) := by decide +kernel
theorem dX10_number__9 : decode cX10_number_ 9 = .ok (.iload_n 2, 1) := by decide +kernel
theorem dX10_number__10 : decode cX10_number_ 10 = .ok (.invokevirtual 234, 3) := by decide +kernel
theorem dX10_number__13 : decode cX10_number_ 13 = .ok (.ifCond .eq 13, 3) := by decide +kernel
theorem dX10_number__16 : decode cX10_number_ 16 = .ok (.iload_n 3, 1) := by decide +kernel
theorem dX10_number__17 : decode cX10_number_ 17 = .ok (.i2l, 1) := by decide +kernel
theorem dX10_number__18 : decode cX10_number_ 18 = .ok (.lconst 0, 1) := by decide +kernel
theorem dX10_number__19 : decode cX10_number_ 19 = .ok (.lconst 1, 1) := by decide +kernel
theorem dX10_number__20 : decode cX10_number_ 20 = .ok (.invokestatic 51, 3) := by decide +kernel
theorem dX10_number__23 : decode cX10_number_ 23 = .ok (.ifCond .ne 6, 3) := by decide +kernel
theorem dX10_number__26 : decode cX10_number_ 26 = .ok (.ldc 177, 2) := by decide +kernel
theorem dX10_number__28 : decode cX10_number_ 28 = .ok (.ireturn, 1) := by decide +kernel
theorem dX10_number__29 : decode cX10_number_ 29 = .ok (.aload_n 0, 1) := by decide +kernel
theorem dX10_number__30 : decode cX10_number_ 30 = .ok (.invokevirtual 221, 3) := by decide +kernel
theorem dX10_number__33 : decode cX10_number_ 33 = .ok (.aload_n 0, 1) := by decide +kernel
theorem dX10_number__34 : decode cX10_number_ 34 = .ok (.iload_n 1, 1) := by decide +kernel
theorem dX10_number__35 : decode cX10_number_ 35 = .ok (.iload_n 2, 1) := by decide +kernel
theorem dX10_number__36 : decode cX10_number_ 36 = .ok (.invokevirtual 73, 3) := by decide +kernel
theorem dX10_number__39 : decode cX10_number_ 39 = .ok (.ifCond .ne 6, 3) := by decide +kernel
theorem dX10_number__42 : decode cX10_number_ 42 = .ok (.ldc 61, 2) := by decide +kernel
theorem dX10_number__44 : decode cX10_number_ 44 = .ok (.ireturn, 1) := by decide +kernel
theorem dX10_number__45 : decode cX10_number_ 45 = .ok (.iload_n 3, 1) := by decide +kernel
theorem dX10_number__46 : decode cX10_number_ 46 = .ok (.ifCond .ne 18, 3) := by decide +kernel
theorem dX10_number__49 : decode cX10_number_ 49 = .ok (.aload_n 0, 1) := by decide +kernel
theorem dX10_number__50 : decode cX10_number_ 50 = .ok (.getfield 29, 3) := by decide +kernel
theorem dX10_number__53 : decode cX10_number_ 53 = .ok (.sipush 200, 3) := by decide +kernel
theorem dX10_number__56 : decode cX10_number_ 56 = .ok (.iload_n 1, 1) := by decide +kernel
theorem dX10_number__57 : decode cX10_number_ 57 = .ok (.imul, 1) := by decide +kernel
theorem dX10_number__58 : decode cX10_number_ 58 = .ok (.iload_n 2, 1) := by decide +kernel
theorem dX10_number__59 : decode cX10_number_ 59 = .ok (.iadd, 1) := by decide +kernel
theorem dX10_number__60 : decode cX10_number_ 60 = .ok (.iaload, 1) := by decide +kernel
theorem dX10_number__61 : decode cX10_number_ 61 = .ok (.goto 15, 3) := by decide +kernel
theorem dX10_number__64 : decode cX10_number_ 64 = .ok (.aload_n 0, 1) := by decide +kernel
theorem dX10_number__65 : decode cX10_number_ 65 = .ok (.getfield 32, 3) := by decide +kernel
theorem dX10_number__68 : decode cX10_number_ 68 = .ok (.sipush 200, 3) := by decide +kernel
theorem dX10_number__71 : decode cX10_number_ 71 = .ok (.iload_n 1, 1) := by decide +kernel
theorem dX10_number__72 : decode cX10_number_ 72 = .ok (.imul, 1) := by decide +kernel
theorem dX10_number__73 : decode cX10_number_ 73 = .ok (.iload_n 2, 1) := by decide +kernel
theorem dX10_number__74 : decode cX10_number_ 74 = .ok (.iadd, 1) := by decide +kernel
theorem dX10_number__75 : decode cX10_number_ 75 = .ok (.iaload, 1) := by decide +kernel
theorem dX10_number__76 : decode cX10_number_ 76 = .ok (.ireturn, 1) := by decide +kernel
theorem dX10_meant_0 : decode cX10_meant 0 = .ok (.aload_n 0, 1) := by decide +kernel
theorem dX10_meant_1 : decode cX10_meant 1 = .ok (.iload_n 1, 1) := by decide +kernel
theorem dX10_meant_2 : decode cX10_meant 2 = .ok (.invokevirtual 55, 3) := by decide +kernel
theorem dX10_meant_5 : decode cX10_meant 5 = .ok (.ifCond .eq 28, 3) := by decide +kernel
theorem dX10_meant_8 : decode cX10_meant 8 = .ok (.iload_n 2, 1) := by decide +kernel
theorem dX10_meant_9 : decode cX10_meant 9 = .ok (.invokestatic 145, 3) := by decide +kernel
theorem dX10_meant_12 : decode cX10_meant 12 = .ok (.ifCond .eq 21, 3) := by decide +kernel
theorem dX10_meant_15 : decode cX10_meant 15 = .ok (.iload_n 3, 1) := by decide +kernel
theorem dX10_meant_16 : decode cX10_meant 16 = .ok (.ifCond .lt 17, 3) := by decide +kernel
theorem dX10_meant_19 : decode cX10_meant 19 = .ok (.iload_n 3, 1) := by decide +kernel
theorem dX10_meant_20 : decode cX10_meant 20 = .ok (.i2l, 1) := by decide +kernel
theorem dX10_meant_21 : decode cX10_meant 21 = .ok (.ldc2_w 211, 3) := by decide +kernel
theorem dX10_meant_24 : decode cX10_meant 24 = .ok (.ldc2_w 258, 3) := by decide +kernel
theorem dX10_meant_27 : decode cX10_meant 27 = .ok (.invokestatic 51, 3) := by decide +kernel
theorem dX10_meant_30 : decode cX10_meant 30 = .ok (.ifCond .eq 6, 3) := by decide +kernel
theorem dX10_meant_33 : decode cX10_meant 33 = .ok (.ldc 177, 2) := by decide +kernel
theorem dX10_meant_35 : decode cX10_meant 35 = .ok (.ireturn, 1) := by decide +kernel
theorem dX10_meant_36 : decode cX10_meant 36 = .ok (.aload_n 0, 1) := by decide +kernel
theorem dX10_meant_37 : decode cX10_meant 37 = .ok (.invokevirtual 221, 3) := by decide +kernel
theorem dX10_meant_40 : decode cX10_meant 40 = .ok (.iload_n 3, 1) := by decide +kernel
theorem dX10_meant_41 : decode cX10_meant 41 = .ok (.iconst 3, 1) := by decide +kernel
theorem dX10_meant_42 : decode cX10_meant 42 = .ok (.if_icmp .ge 11, 3) := by decide +kernel
theorem dX10_meant_45 : decode cX10_meant 45 = .ok (.aload_n 0, 1) := by decide +kernel
theorem dX10_meant_46 : decode cX10_meant 46 = .ok (.iload_n 1, 1) := by decide +kernel
theorem dX10_meant_47 : decode cX10_meant 47 = .ok (.iload_n 2, 1) := by decide +kernel
theorem dX10_meant_48 : decode cX10_meant 48 = .ok (.iload_n 3, 1) := by decide +kernel
theorem dX10_meant_49 : decode cX10_meant 49 = .ok (.invokevirtual 239, 3) := by decide +kernel
theorem dX10_meant_52 : decode cX10_meant 52 = .ok (.ireturn, 1) := by decide +kernel
theorem dX10_meant_53 : decode cX10_meant 53 = .ok (.iload_n 3, 1) := by decide +kernel
theorem dX10_meant_54 : decode cX10_meant 54 = .ok (.bipush 10, 2) := by decide +kernel
theorem dX10_meant_56 : decode cX10_meant 56 = .ok (.isub, 1) := by decide +kernel
theorem dX10_meant_57 : decode cX10_meant 57 = .ok (.istore 4, 2) := by decide +kernel
theorem dX10_meant_59 : decode cX10_meant 59 = .ok (.iconst 0, 1) := by decide +kernel
theorem dX10_meant_60 : decode cX10_meant 60 = .ok (.istore 5, 2) := by decide +kernel
theorem dX10_meant_62 : decode cX10_meant 62 = .ok (.iload 5, 2) := by decide +kernel
theorem dX10_meant_64 : decode cX10_meant 64 = .ok (.aload_n 0, 1) := by decide +kernel
theorem dX10_meant_65 : decode cX10_meant 65 = .ok (.getfield 7, 3) := by decide +kernel
theorem dX10_meant_68 : decode cX10_meant 68 = .ok (.iconst 0, 1) := by decide +kernel
theorem dX10_meant_69 : decode cX10_meant 69 = .ok (.iaload, 1) := by decide +kernel
theorem dX10_meant_70 : decode cX10_meant 70 = .ok (.if_icmp .ge 31, 3) := by decide +kernel
theorem dX10_meant_73 : decode cX10_meant 73 = .ok (.aload_n 0, 1) := by decide +kernel
theorem dX10_meant_74 : decode cX10_meant 74 = .ok (.iload_n 1, 1) := by decide +kernel
theorem dX10_meant_75 : decode cX10_meant 75 = .ok (.iload_n 2, 1) := by decide +kernel
theorem dX10_meant_76 : decode cX10_meant 76 = .ok (.iload 5, 2) := by decide +kernel
theorem dX10_meant_78 : decode cX10_meant 78 = .ok (.invokevirtual 69, 3) := by decide +kernel
theorem dX10_meant_81 : decode cX10_meant 81 = .ok (.ifCond .eq 14, 3) := by decide +kernel
theorem dX10_meant_84 : decode cX10_meant 84 = .ok (.iload 4, 2) := by decide +kernel
theorem dX10_meant_86 : decode cX10_meant 86 = .ok (.ifCond .ne 6, 3) := by decide +kernel
theorem dX10_meant_89 : decode cX10_meant 89 = .ok (.iload 5, 2) := by decide +kernel
theorem dX10_meant_91 : decode cX10_meant 91 = .ok (.ireturn, 1) := by decide +kernel
theorem dX10_meant_92 : decode cX10_meant 92 = .ok (.iinc 4 (-1), 3) := by decide +kernel
theorem dX10_meant_95 : decode cX10_meant 95 = .ok (.iinc 5 1, 3) := by decide +kernel
theorem dX10_meant_98 : decode cX10_meant 98 = .ok (.goto (-36), 3) := by decide +kernel
theorem dX10_meant_101 : decode cX10_meant 101 = .ok (.ldc 61, 2) := by decide +kernel
theorem dX10_meant_103 : decode cX10_meant 103 = .ok (.ireturn, 1) := by decide +kernel
theorem dX10_left_0 : decode cX10_left 0 = .ok (.aload_n 0, 1) := by decide +kernel
theorem dX10_left_1 : decode cX10_left 1 = .ok (.iload_n 1, 1) := by decide +kernel
theorem dX10_left_2 : decode cX10_left 2 = .ok (.invokevirtual 55, 3) := by decide +kernel
theorem dX10_left_5 : decode cX10_left 5 = .ok (.ifCond .eq 17, 3) := by decide +kernel
theorem dX10_left_8 : decode cX10_left 8 = .ok (.iload_n 2, 1) := by decide +kernel
theorem dX10_left_9 : decode cX10_left 9 = .ok (.ifCond .lt 13, 3) := by decide +kernel
theorem dX10_left_12 : decode cX10_left 12 = .ok (.iload_n 3, 1) := by decide +kernel
theorem dX10_left_13 : decode cX10_left 13 = .ok (.i2l, 1) := by decide +kernel
theorem dX10_left_14 : decode cX10_left 14 = .ok (.lconst 0, 1) := by decide +kernel
theorem dX10_left_15 : decode cX10_left 15 = .ok (.lconst 1, 1) := by decide +kernel
theorem dX10_left_16 : decode cX10_left 16 = .ok (.invokestatic 51, 3) := by decide +kernel
theorem dX10_left_19 : decode cX10_left 19 = .ok (.ifCond .ne 6, 3) := by decide +kernel
theorem dX10_left_22 : decode cX10_left 22 = .ok (.ldc 177, 2) := by decide +kernel
theorem dX10_left_24 : decode cX10_left 24 = .ok (.ireturn, 1) := by decide +kernel
theorem dX10_left_25 : decode cX10_left 25 = .ok (.aload_n 0, 1) := by decide +kernel
theorem dX10_left_26 : decode cX10_left 26 = .ok (.invokevirtual 221, 3) := by decide +kernel
theorem dX10_left_29 : decode cX10_left 29 = .ok (.iconst 0, 1) := by decide +kernel
theorem dX10_left_30 : decode cX10_left 30 = .ok (.istore 4, 2) := by decide +kernel
theorem dX10_left_32 : decode cX10_left 32 = .ok (.ldc 61, 2) := by decide +kernel
theorem dX10_left_34 : decode cX10_left 34 = .ok (.istore 5, 2) := by decide +kernel
theorem dX10_left_36 : decode cX10_left 36 = .ok (.iconst 0, 1) := by decide +kernel
theorem dX10_left_37 : decode cX10_left 37 = .ok (.istore 6, 2) := by decide +kernel
theorem dX10_left_39 : decode cX10_left 39 = .ok (.iload 6, 2) := by decide +kernel
theorem dX10_left_41 : decode cX10_left 41 = .ok (.aload_n 0, 1) := by decide +kernel
theorem dX10_left_42 : decode cX10_left 42 = .ok (.getfield 7, 3) := by decide +kernel
theorem dX10_left_45 : decode cX10_left 45 = .ok (.iconst 0, 1) := by decide +kernel
theorem dX10_left_46 : decode cX10_left 46 = .ok (.iaload, 1) := by decide +kernel
theorem dX10_left_47 : decode cX10_left 47 = .ok (.if_icmp .gt 98, 3) := by decide +kernel
theorem dX10_left_50 : decode cX10_left 50 = .ok (.iload 6, 2) := by decide +kernel
theorem dX10_left_52 : decode cX10_left 52 = .ok (.aload_n 0, 1) := by decide +kernel
theorem dX10_left_53 : decode cX10_left 53 = .ok (.getfield 7, 3) := by decide +kernel
theorem dX10_left_56 : decode cX10_left 56 = .ok (.iconst 0, 1) := by decide +kernel
theorem dX10_left_57 : decode cX10_left 57 = .ok (.iaload, 1) := by decide +kernel
theorem dX10_left_58 : decode cX10_left 58 = .ok (.if_icmp .ge 17, 3) := by decide +kernel
theorem dX10_left_61 : decode cX10_left 61 = .ok (.aload_n 0, 1) := by decide +kernel
theorem dX10_left_62 : decode cX10_left 62 = .ok (.iload_n 1, 1) := by decide +kernel
theorem dX10_left_63 : decode cX10_left 63 = .ok (.iload 6, 2) := by decide +kernel
theorem dX10_left_65 : decode cX10_left 65 = .ok (.invokevirtual 73, 3) := by decide +kernel
theorem dX10_left_68 : decode cX10_left 68 = .ok (.ifCond .ne 7, 3) := by decide +kernel
theorem dX10_left_71 : decode cX10_left 71 = .ok (.iconst 1, 1) := by decide +kernel
theorem dX10_left_72 : decode cX10_left 72 = .ok (.goto 4, 3) := by decide +kernel
theorem dX10_left_75 : decode cX10_left 75 = .ok (.iconst 0, 1) := by decide +kernel
theorem dX10_left_76 : decode cX10_left 76 = .ok (.istore 7, 2) := by decide +kernel
theorem dX10_left_78 : decode cX10_left 78 = .ok (.iload 7, 2) := by decide +kernel
theorem dX10_left_80 : decode cX10_left 80 = .ok (.ifCond .eq 15, 3) := by decide +kernel
theorem dX10_left_83 : decode cX10_left 83 = .ok (.iload 5, 2) := by decide +kernel
theorem dX10_left_85 : decode cX10_left 85 = .ok (.ldc 61, 2) := by decide +kernel
theorem dX10_left_87 : decode cX10_left 87 = .ok (.if_icmp .ne 8, 3) := by decide +kernel
theorem dX10_left_90 : decode cX10_left 90 = .ok (.iload 6, 2) := by decide +kernel
theorem dX10_left_92 : decode cX10_left 92 = .ok (.goto 5, 3) := by decide +kernel
theorem dX10_left_95 : decode cX10_left 95 = .ok (.iload 5, 2) := by decide +kernel
theorem dX10_left_97 : decode cX10_left 97 = .ok (.istore 5, 2) := by decide +kernel
theorem dX10_left_99 : decode cX10_left 99 = .ok (.iload 7, 2) := by decide +kernel
theorem dX10_left_101 : decode cX10_left 101 = .ok (.ifCond .ne 38, 3) := by decide +kernel
theorem dX10_left_104 : decode cX10_left 104 = .ok (.iload 5, 2) := by decide +kernel
theorem dX10_left_106 : decode cX10_left 106 = .ok (.ldc 61, 2) := by decide +kernel
theorem dX10_left_108 : decode cX10_left 108 = .ok (.if_icmp .eq 31, 3) := by decide +kernel
theorem dX10_left_111 : decode cX10_left 111 = .ok (.iload 4, 2) := by decide +kernel
theorem dX10_left_113 : decode cX10_left 113 = .ok (.iload_n 2, 1) := by decide +kernel
theorem dX10_left_114 : decode cX10_left 114 = .ok (.if_icmp .ne 18, 3) := by decide +kernel
theorem dX10_left_117 : decode cX10_left 117 = .ok (.iload_n 3, 1) := by decide +kernel
theorem dX10_left_118 : decode cX10_left 118 = .ok (.ifCond .ne 8, 3) := by decide +kernel
theorem dX10_left_121 : decode cX10_left 121 = .ok (.iload 5, 2) := by decide +kernel
theorem dX10_left_123 : decode cX10_left 123 = .ok (.goto 8, 3) := by decide +kernel
theorem dX10_left_126 : decode cX10_left 126 = .ok (.iload 6, 2) := by decide +kernel
theorem dX10_left_128 : decode cX10_left 128 = .ok (.iload 5, 2) := by decide +kernel
theorem dX10_left_130 : decode cX10_left 130 = .ok (.isub, 1) := by decide +kernel
theorem dX10_left_131 : decode cX10_left 131 = .ok (.ireturn, 1) := by decide +kernel
theorem dX10_left_132 : decode cX10_left 132 = .ok (.iinc 4 1, 3) := by decide +kernel
theorem dX10_left_135 : decode cX10_left 135 = .ok (.ldc 61, 2) := by decide +kernel
theorem dX10_left_137 : decode cX10_left 137 = .ok (.istore 5, 2) := by decide +kernel
theorem dX10_left_139 : decode cX10_left 139 = .ok (.iinc 6 1, 3) := by decide +kernel
theorem dX10_left_142 : decode cX10_left 142 = .ok (.goto (-103), 3) := by decide +kernel
theorem dX10_left_145 : decode cX10_left 145 = .ok (.ldc 61, 2) := by decide +kernel
theorem dX10_left_147 : decode cX10_left 147 = .ok (.ireturn, 1) := by decide +kernel
theorem dX10_in_0 : decode cX10_in 0 = .ok (.aload_n 0, 1) := by decide +kernel
theorem dX10_in_1 : decode cX10_in 1 = .ok (.iload_n 1, 1) := by decide +kernel
theorem dX10_in_2 : decode cX10_in 2 = .ok (.invokevirtual 55, 3) := by decide +kernel
theorem dX10_in_5 : decode cX10_in 5 = .ok (.ifCond .eq 31, 3) := by decide +kernel
theorem dX10_in_8 : decode cX10_in 8 = .ok (.iload_n 2, 1) := by decide +kernel
theorem dX10_in_9 : decode cX10_in 9 = .ok (.invokestatic 145, 3) := by decide +kernel
theorem dX10_in_12 : decode cX10_in 12 = .ok (.ifCond .eq 24, 3) := by decide +kernel
theorem dX10_in_15 : decode cX10_in 15 = .ok (.aload_n 0, 1) := by decide +kernel
theorem dX10_in_16 : decode cX10_in 16 = .ok (.iload_n 3, 1) := by decide +kernel
theorem dX10_in_17 : decode cX10_in 17 = .ok (.invokevirtual 55, 3) := by decide +kernel
theorem dX10_in_20 : decode cX10_in 20 = .ok (.ifCond .eq 16, 3) := by decide +kernel
theorem dX10_in_23 : decode cX10_in 23 = .ok (.iload 4, 2) := by decide +kernel
theorem dX10_in_25 : decode cX10_in 25 = .ok (.i2l, 1) := by decide +kernel
theorem dX10_in_26 : decode cX10_in 26 = .ok (.lconst 0, 1) := by decide +kernel
theorem dX10_in_27 : decode cX10_in 27 = .ok (.ldc2_w 219, 3) := by decide +kernel
theorem dX10_in_30 : decode cX10_in 30 = .ok (.invokestatic 51, 3) := by decide +kernel
theorem dX10_in_33 : decode cX10_in 33 = .ok (.ifCond .ne 6, 3) := by decide +kernel
theorem dX10_in_36 : decode cX10_in 36 = .ok (.ldc 177, 2) := by decide +kernel
theorem dX10_in_38 : decode cX10_in 38 = .ok (.ireturn, 1) := by decide +kernel
theorem dX10_in_39 : decode cX10_in 39 = .ok (.aload_n 0, 1) := by decide +kernel
theorem dX10_in_40 : decode cX10_in 40 = .ok (.invokevirtual 221, 3) := by decide +kernel
theorem dX10_in_43 : decode cX10_in 43 = .ok (.aload_n 0, 1) := by decide +kernel
theorem dX10_in_44 : decode cX10_in 44 = .ok (.getfield 35, 3) := by decide +kernel
theorem dX10_in_47 : decode cX10_in 47 = .ok (.invokestatic 87, 3) := by decide +kernel
theorem dX10_in_50 : decode cX10_in 50 = .ok (.aload_n 0, 1) := by decide +kernel
theorem dX10_in_51 : decode cX10_in 51 = .ok (.iload_n 1, 1) := by decide +kernel
theorem dX10_in_52 : decode cX10_in 52 = .ok (.iload_n 2, 1) := by decide +kernel
theorem dX10_in_53 : decode cX10_in 53 = .ok (.iload_n 3, 1) := by decide +kernel
theorem dX10_in_54 : decode cX10_in 54 = .ok (.aload_n 0, 1) := by decide +kernel
theorem dX10_in_55 : decode cX10_in 55 = .ok (.getfield 35, 3) := by decide +kernel
theorem dX10_in_58 : decode cX10_in 58 = .ok (.invokevirtual 91, 3) := by decide +kernel
theorem dX10_in_61 : decode cX10_in 61 = .ok (.aload_n 0, 1) := by decide +kernel
theorem dX10_in_62 : decode cX10_in 62 = .ok (.getfield 35, 3) := by decide +kernel
theorem dX10_in_65 : decode cX10_in 65 = .ok (.iload 4, 2) := by decide +kernel
theorem dX10_in_67 : decode cX10_in 67 = .ok (.invokestatic 251, 3) := by decide +kernel
theorem dX10_in_70 : decode cX10_in 70 = .ok (.ireturn, 1) := by decide +kernel
theorem dX10_through_0 : decode cX10_through 0 = .ok (.aload_n 0, 1) := by decide +kernel
theorem dX10_through_1 : decode cX10_through 1 = .ok (.iload_n 1, 1) := by decide +kernel
theorem dX10_through_2 : decode cX10_through 2 = .ok (.invokevirtual 55, 3) := by decide +kernel
theorem dX10_through_5 : decode cX10_through 5 = .ok (.ifCond .eq 40, 3) := by decide +kernel
theorem dX10_through_8 : decode cX10_through 8 = .ok (.iload_n 2, 1) := by decide +kernel
theorem dX10_through_9 : decode cX10_through 9 = .ok (.invokestatic 145, 3) := by decide +kernel
theorem dX10_through_12 : decode cX10_through 12 = .ok (.ifCond .eq 33, 3) := by decide +kernel
theorem dX10_through_15 : decode cX10_through 15 = .ok (.aload_n 0, 1) := by decide +kernel
theorem dX10_through_16 : decode cX10_through 16 = .ok (.iload_n 3, 1) := by decide +kernel
theorem dX10_through_17 : decode cX10_through 17 = .ok (.invokevirtual 55, 3) := by decide +kernel
theorem dX10_through_20 : decode cX10_through 20 = .ok (.ifCond .eq 25, 3) := by decide +kernel
theorem dX10_through_23 : decode cX10_through 23 = .ok (.aload_n 0, 1) := by decide +kernel
theorem dX10_through_24 : decode cX10_through 24 = .ok (.iload 4, 2) := by decide +kernel
theorem dX10_through_26 : decode cX10_through 26 = .ok (.invokevirtual 55, 3) := by decide +kernel
theorem dX10_through_29 : decode cX10_through 29 = .ok (.ifCond .eq 16, 3) := by decide +kernel
theorem dX10_through_32 : decode cX10_through 32 = .ok (.iload 5, 2) := by decide +kernel
theorem dX10_through_34 : decode cX10_through 34 = .ok (.i2l, 1) := by decide +kernel
theorem dX10_through_35 : decode cX10_through 35 = .ok (.lconst 0, 1) := by decide +kernel
theorem dX10_through_36 : decode cX10_through 36 = .ok (.ldc2_w 219, 3) := by decide +kernel
theorem dX10_through_39 : decode cX10_through 39 = .ok (.invokestatic 51, 3) := by decide +kernel
theorem dX10_through_42 : decode cX10_through 42 = .ok (.ifCond .ne 6, 3) := by decide +kernel
theorem dX10_through_45 : decode cX10_through 45 = .ok (.ldc 177, 2) := by decide +kernel
theorem dX10_through_47 : decode cX10_through 47 = .ok (.ireturn, 1) := by decide +kernel
theorem dX10_through_48 : decode cX10_through 48 = .ok (.aload_n 0, 1) := by decide +kernel
theorem dX10_through_49 : decode cX10_through 49 = .ok (.invokevirtual 221, 3) := by decide +kernel
theorem dX10_through_52 : decode cX10_through 52 = .ok (.aload_n 0, 1) := by decide +kernel
theorem dX10_through_53 : decode cX10_through 53 = .ok (.iload_n 1, 1) := by decide +kernel
theorem dX10_through_54 : decode cX10_through 54 = .ok (.iload_n 2, 1) := by decide +kernel
theorem dX10_through_55 : decode cX10_through 55 = .ok (.iload_n 3, 1) := by decide +kernel
theorem dX10_through_56 : decode cX10_through 56 = .ok (.iload 4, 2) := by decide +kernel
theorem dX10_through_58 : decode cX10_through 58 = .ok (.invokevirtual 260, 3) := by decide +kernel
theorem dX10_through_61 : decode cX10_through 61 = .ok (.aload_n 0, 1) := by decide +kernel
theorem dX10_through_62 : decode cX10_through 62 = .ok (.getfield 35, 3) := by decide +kernel
theorem dX10_through_65 : decode cX10_through 65 = .ok (.iload 5, 2) := by decide +kernel
theorem dX10_through_67 : decode cX10_through 67 = .ok (.invokestatic 251, 3) := by decide +kernel
theorem dX10_through_70 : decode cX10_through 70 = .ok (.ireturn, 1) := by decide +kernel
def w_X10_as : List Cond := .code yX10_as cX10_as 5 (some .int) :: ([.methodLink RX10 208 yX10_isStretch, .instanceMethod yX10_isStretch, .selects RX10 yX10_isStretch yX10_isStretch, .initialized RX10, .code yX10_isStretch cX10_isStretch 3 (some .boolean), .methodLink RX10 55 yX10_isEdition, .instanceMethod yX10_isEdition, .selects RX10 yX10_isEdition yX10_isEdition, .code yX10_isEdition cX10_isEdition 2 (some .boolean), .methodLink RX10 47 yX10_isWork, .instanceMethod yX10_isWork, .selects RX10 yX10_isWork yX10_isWork, .code yX10_isWork cX10_isWork 1 (some .boolean), .fieldLink RX10 7 "LineCitesModel" "now" "[I", .methodLink RX10 51 yX10_in0, .static yX10_in0, .code yX10_in0 cX10_in0 6 (some .boolean), .constant RX10 177 (-1000001), .constantLong RX10 199 (5), .methodLink RX10 62 yX10_of, .static yX10_of, .code yX10_of cX10_of 4 (some .int), .constant RX10 61 (-1000000)] ++ wsX100)
set_option maxRecDepth 20000 in
theorem g_X10_as_X10_isStretch : GoodIn w_X10_as (wsV RX10 208 RX10 yX10_isStretch w_X10_isStretch) := goodIn_r _ [1, 2, 3, 4, 5, 6, 7, 8, 4, 9, 10, 11, 12, 13, 14, 15, 16, 17, 24, 25, 26, 27, 28, 29, 30, 31, 32, 33, 34, 35, 36, 37, 38, 39, 40, 41, 42, 43, 44, 45, 46, 47, 48] rfl (by decide +kernel)
set_option maxRecDepth 20000 in
theorem g_X10_as_X10_in0 : GoodIn w_X10_as (wsS RX10 51 yX10_in0 w_X10_in0) := goodIn_r _ [15, 16, 4, 17] rfl (by decide +kernel)
set_option maxRecDepth 20000 in
theorem g_X10_as_X10_of : GoodIn w_X10_as (wsS RX10 62 yX10_of w_X10_of) := goodIn_r _ [20, 21, 4, 22] rfl (by decide +kernel)
set_option maxHeartbeats 4000000 in
set_option maxRecDepth 100000 in
theorem c_X10_as (l : Launch) (D : va_G) (h0 : Nat) (i_0 : Int32) (i_1 : Int32) (i_2 : Int32) (m_now : Nat) (m_draft : Nat) (m_past : Nat) (j_acts : Int32) (m_images : Nat) (m_kept : Nat) (m_tape : Nat) (j_taped : Int32) (j_at : Int32) (j_start : Int32) (j_token : Int32) (j_value : Int32) (j_fault : Int32) (j_place : Int32) (j_latest : Int32) (m_low : Nat) (m_high : Nat) (m_first : Nat) (m_second : Nat) (m_lines : Nat) (m_others : Nat) (j_shiftFirst : Int32) (j_shiftMany : Int32) (j_shiftLow : Int32) (j_shiftHigh : Int32) (kI : ClassId) (g_now : Nat → Int32) (hg_now : gV g_now) : Met l yX10_as w_X10_as ({ frames := 3, cells := 0, slots := 0, locals := 68 }) (va_Pc [.ref h0, .int i_0, .int i_1, .int i_2] (fun U => va_P D vwCl [(h0, .inr (10, [.ref m_now, .ref m_draft, .ref m_past, .int j_acts, .ref m_images, .ref m_kept, .ref m_tape, .int j_taped, .int j_at, .int j_start, .int j_token, .int j_value, .int j_fault, .int j_place, .int j_latest, .ref m_low, .ref m_high, .ref m_first, .ref m_second, .ref m_lines, .ref m_others, .int j_shiftFirst, .int j_shiftMany, .int j_shiftLow, .int j_shiftHigh])), (m_now, .inl (kI, 192, .inl g_now))] U.heap ∧ va_K D vwCl [(kI, .int)] U)) (va_Qi (fun (r : Int32) (_ : Unit) => True) (fun _ _ => True) (fun _ => False)) 0 0 (fun _ => False) := by
  refine Met.ofW (cc := cX10_as) (maxL := 5) (ret := (some .int)) (by decide) rfl ?_
  intro p e s m args below meth c s₁ B hml hv
  obtain ⟨rfl, hP, hK⟩ := hv
  have hx := B.exec
  have hb := B.bytes
  have hr := B.returns
  have hts := atoms_spec (ws := w_X10_as) B.pre
  have hown : s.vm.findClass RX10 = some m.cls := findClass_of_methodNamed B.named
  have hlocks := B.notSynchronized
  have hS : va_S (fun _ : Nat => False) s.heap s.heap [] := va_S.rf
  have hP : va_P D vwCl [(h0, .inr (10, [.ref m_now, .ref m_draft, .ref m_past, .int j_acts, .ref m_images, .ref m_kept, .ref m_tape, .int j_taped, .int j_at, .int j_start, .int j_token, .int j_value, .int j_fault, .int j_place, .int j_latest, .ref m_low, .ref m_high, .ref m_first, .ref m_second, .ref m_lines, .ref m_others, .int j_shiftFirst, .int j_shiftMany, .int j_shiftLow, .int j_shiftHigh])), (m_now, .inl (kI, 192, .inl g_now))] s.heap := hP
  have hl := lv_entry ([.ref h0, .int i_0, .int i_1, .int i_2]) (n := 5) (Nat.le_of_ble_eq_true rfl)
  rw [lg_entry_eq]
  generalize (lg_sl ([.ref h0, .int i_0, .int i_1, .int i_2]) ++ List.replicate (5 - (lg_sl ([.ref h0, .int i_0, .int i_1, .int i_2])).length) Slot.unset).toArray = ls at hl ⊢
  have hl : lv_has ls 5 [(0, .ref h0), (1, .int i_0), (2, .int i_1), (3, .int i_2)] := hl
  obtain ⟨H, hHe⟩ : ∃ H : Heap, H = s.heap := ⟨_, rfl⟩
  rw [← hHe] at hP
  have hS : va_S (fun _ : Nat => False) s.heap H [] := by rw [hHe]; exact hS
  refine pw_heap hHe ?_
  refine lv_aload_n hx hb dX10_as_0 rfl (lv_at hl 0 rfl) ?_
  refine lv_iload_n hx hb dX10_as_1 rfl (lv_at hl 1 rfl) ?_
  refine lv_iload_n hx hb dX10_as_2 rfl (lv_at hl 2 rfl) ?_
  have hPc := hP.sub (ws' := [(h0, .inr (10, [.ref m_now, .ref m_draft, .ref m_past, .int j_acts, .ref m_images, .ref m_kept, .ref m_tape, .int j_taped, .int j_at, .int j_start, .int j_token, .int j_value, .int j_fault, .int j_place, .int j_latest, .ref m_low, .ref m_high, .ref m_first, .ref m_second, .ref m_lines, .ref m_others, .int j_shiftFirst, .int j_shiftMany, .int j_shiftLow, .int j_shiftHigh])), (m_now, .inl (kI, 192, .inl g_now))]) [0, 1] rfl
  have hKc := hK.sub (tys' := [(kI, .int)]) [0] rfl
  refine va_calli (va_runV (As := [.int i_0, .int i_1]) (rest := []) ⟨hx, hb, hml, hown, hts⟩ (c_X10_isStretch l D h0 i_0 i_1 m_now m_draft m_past j_acts m_images m_kept m_tape j_taped j_at j_start j_token j_value j_fault j_place j_latest m_low m_high m_first m_second m_lines m_others j_shiftFirst j_shiftMany j_shiftLow j_shiftHigh kI g_now hg_now) (cwV 2 hts g_X10_as_X10_isStretch rfl rfl rfl (by decide +kernel) ⟨Nat.le_of_ble_eq_true rfl, Nat.le_of_ble_eq_true rfl⟩) ⟨fun a U g mk q => by obtain ⟨q0, qP, qK⟩ := q; exact ⟨q0, qP, va_K.moved (u := U) (U := U.calling g mk a) (Vm.Alike.refl U.vm) qK⟩, va_recv hKc hPc (ci := 10) (q0 := 0) rfl rfl, fun U hU hW => ⟨rfl, by rw [hU]; exact hPc, va_K.moved hW.alike hKc⟩⟩ rfl rfl hl.1 rfl (lv_room (Nat.le_of_ble_eq_true rfl)) dX10_as_3 ⟨Nat.le_of_ble_eq_true rfl, Nat.le_of_ble_eq_true rfl⟩) hS (fun _ _ h => h.elim) (fun _ h => h.elim) (fun r1 u t H1 locs ht hvm hw hB hz1 hk1 hS => ?_)
  have hP := pw_keep hP (fun q hq => hk1 q hq (fun h => h))
  generalize H1 = H at hP hS ⊢
  refine W.widen (k := 0) (n := 0) (Nat.le_of_ble_eq_true rfl) (Nat.le_of_ble_eq_true rfl) ?_
  have bor1 := hw.1
  have zor1 := pw_boolI bor1
  have hfr1 := hw.2
  refine lv_if_eq (tgt := 21) hx hb dX10_as_6 (by decide) (fun c2 => ?_) (fun c2 => ?_)
  · have nc2 : r1.toInt = 0 := pw_eq c2 rfl (by decide)
    refine lv_ldc hx hb hown (hts (.constant RX10 177 (-1000001)) (List.mem_of_getElem? (i := 18) rfl)) dX10_as_21 ?_
    exact W.iret (v := (-1000001)) hx hb hr (fun t ht hW => ⟨⟨(-1000001), (), rfl, trivial, trivial⟩, hS.F ht⟩) hS.2.2 dX10_as_23
  · have nc2 : r1.toInt ≠ 0 := pw_ne c2 rfl (by decide)
    refine lv_iload_n hx hb dX10_as_9 rfl (lv_at hl 3 rfl) ?_
    refine lv_i2l (v := i_2.toInt64) hx hb dX10_as_10 rfl ?_
    refine lv_lconst (v := 0) hx hb dX10_as_11 (by decide) ?_
    refine lv_ldc2 hx hb hown (hts (.constantLong RX10 199 (5)) (List.mem_of_getElem? (i := 19) rfl)) dX10_as_12 ?_
    have hPc := hP.sub (ws' := []) [] rfl
    have hKc := hK.sub (tys' := []) [] rfl
    refine va_calli (va_runS (As := [.long i_2.toInt64, .long 0, .long 5]) (rest := []) ⟨hx, hb, hml, hown, hts⟩ (c_X10_in0 l D i_2.toInt64 0 5) (cwS 3 hts g_X10_as_X10_in0 rfl rfl rfl (by decide +kernel) ⟨Nat.le_of_ble_eq_true rfl, Nat.le_of_ble_eq_true rfl⟩) ⟨fun a U g mk q => by obtain ⟨q0, qP, qK⟩ := q; exact ⟨q0, qP, va_K.moved (u := U) (U := U.calling g mk a) (Vm.Alike.refl U.vm) qK⟩, fun U hU hW => ⟨rfl, by rw [hU]; exact hPc, va_K.moved hW.alike hKc⟩⟩ rfl rfl hl.1 rfl (lv_room (Nat.le_of_ble_eq_true rfl)) dX10_as_15 ⟨Nat.le_of_ble_eq_true rfl, Nat.le_of_ble_eq_true rfl⟩) hS (fun _ _ h => h.elim) (fun _ h => h.elim) (fun r3 u t H1 locs ht hvm hw hB hz1 hk1 hS => ?_)
    have hP := pw_keep hP (fun q hq => hk1 q hq (fun h => h))
    generalize H1 = H at hP hS ⊢
    refine W.widen (k := 0) (n := 0) (Nat.le_of_ble_eq_true rfl) (Nat.le_of_ble_eq_true rfl) ?_
    have bor3 := hw.1
    have zor3 := pw_boolI bor3
    have hfr3 := hw.2
    have kl0 : (0 : Int64).toInt = 0 := by decide
    have kl5 : (5 : Int64).toInt = 5 := by decide
    try simp only [Int32.toInt_toInt64] at hfr3
    refine lv_if_ne (tgt := 24) hx hb dX10_as_18 (by decide) (fun c4 => ?_) (fun c4 => ?_)
    · have nc4 : r3.toInt ≠ 0 := pw_ne c4 rfl (by decide)
      refine lv_aload_n hx hb dX10_as_24 rfl (lv_at hl 0 rfl) ?_
      refine va_get (D := D) (ci := 10) (v := .ref m_now) (C := RX10) (T := TX10) (N := 25) hx hb hts (fun _ h => List.mem_cons_of_mem _ (List.mem_append_right _ h)) hown hK hP 0 rfl rfl 0 (by decide) (hts (.fieldLink RX10 7 "LineCitesModel" "now" "[I") (List.mem_of_getElem? (i := 14) rfl)) (fun _ h9 => h9) rfl dX10_as_25 ?_
      refine lv_iload_n hx hb dX10_as_28 rfl (lv_at hl 1 rfl) ?_
      refine lv_iload_n hx hb dX10_as_29 rfl (lv_at hl 2 rfl) ?_
      refine lv_iconst (v := 0) hx hb dX10_as_30 (by decide) ?_
      have kk0 : (0 : Int32).toInt = 0 := by decide
      have hPc := hP.sub (ws' := [(m_now, .inl (kI, 192, .inl g_now))]) [1] rfl
      have hKc := hK.sub (tys' := [(kI, .int)]) [0] rfl
      refine va_calli (va_runS (As := [.ref m_now, .int i_0, .int i_1, .int 0]) (rest := []) ⟨hx, hb, hml, hown, hts⟩ (c_X10_of l D m_now i_0 i_1 0 kI g_now i_0.toInt.toNat i_1.toInt.toNat 0 (by first | decide | omega) (by first | decide | omega) (by first | decide | omega) (by first | decide | omega) (by first | decide | omega) (by first | decide | omega) (by first | omega | decide | (have hz0 : (0 : Int32).toInt = 0 := (by decide); omega)) (by first | omega | decide | (have hz0 : (0 : Int32).toInt = 0 := (by decide); omega)) (by first | omega | decide | (have hz0 : (0 : Int32).toInt = 0 := (by decide); omega))) (cwS 4 hts g_X10_as_X10_of rfl rfl rfl (by decide +kernel) ⟨Nat.le_of_ble_eq_true rfl, Nat.le_of_ble_eq_true rfl⟩) ⟨fun a U g mk q => by obtain ⟨q0, qP, qK⟩ := q; exact ⟨q0, qP, va_K.moved (u := U) (U := U.calling g mk a) (Vm.Alike.refl U.vm) qK⟩, fun U hU hW => ⟨rfl, by rw [hU]; exact hPc, va_K.moved hW.alike hKc⟩⟩ rfl rfl hl.1 rfl (lv_room (Nat.le_of_ble_eq_true rfl)) dX10_as_31 ⟨Nat.le_of_ble_eq_true rfl, Nat.le_of_ble_eq_true rfl⟩) hS (fun _ _ h => h.elim) (fun _ h => h.elim) (fun r5 u t H1 locs ht hvm hw hB hz1 hk1 hS => ?_)
      have hP := pw_keep hP (fun q hq => hk1 q hq (fun h => h))
      generalize H1 = H at hP hS ⊢
      refine W.widen (k := 0) (n := 0) (Nat.le_of_ble_eq_true rfl) (Nat.le_of_ble_eq_true rfl) ?_
      have hfr5 := hw
      refine lv_istore (lv' := [(4, .int r5), (0, .ref h0), (1, .int i_0), (2, .int i_1), (3, .int i_2)]) hx hb dX10_as_34 hl (by decide) rfl (fun ls hl => ?_)
      refine lv_iload_n hx hb dX10_as_36 rfl (lv_at hl 4 rfl) ?_
      refine lv_if_eq (tgt := 63) hx hb dX10_as_37 (by decide) (fun c6 => ?_) (fun c6 => ?_)
      · have nc6 : i_2.toInt = 0 := pw_eq c6 rfl (by decide)
        refine lv_iload_n hx hb dX10_as_63 rfl (lv_at hl 3 rfl) ?_
        refine lv_goto (tgt := 69) hx hb dX10_as_64 (by decide) ?_
        exact W.iret (v := i_1) hx hb hr (fun t ht hW => ⟨⟨i_1, (), rfl, trivial, trivial⟩, hS.F ht⟩) hS.2.2 dX10_as_69
      · have nc6 : i_2.toInt ≠ 0 := pw_ne c6 rfl (by decide)
        refine lv_iload_n hx hb dX10_as_40 rfl (lv_at hl 4 rfl) ?_
        refine lv_iload hx hb dX10_as_41 (lv_at hl 0 rfl) ?_
        refine lv_icmp_eq (tgt := 63) hx hb dX10_as_43 (by decide) (fun c7 => ?_) (fun c7 => ?_)
        · have nc7 : i_2.toInt = r5.toInt := pw_eq c7 rfl rfl
          have mc7i_2 := pw_max i_2
          have mc7r5 := pw_max r5
          refine lv_iload_n hx hb dX10_as_63 rfl (lv_at hl 3 rfl) ?_
          refine lv_goto (tgt := 69) hx hb dX10_as_64 (by decide) ?_
          exact W.iret (v := i_1) hx hb hr (fun t ht hW => ⟨⟨i_1, (), rfl, trivial, trivial⟩, hS.F ht⟩) hS.2.2 dX10_as_69
        · have nc7 : i_2.toInt ≠ r5.toInt := pw_ne c7 rfl rfl
          have mc7i_2 := pw_max i_2
          have mc7r5 := pw_max r5
          refine lv_iload_n hx hb dX10_as_46 rfl (lv_at hl 4 rfl) ?_
          refine lv_iconst (v := 1) hx hb dX10_as_47 (by decide) ?_
          refine lv_icmp_ne (tgt := 67) hx hb dX10_as_48 (by decide) (fun c8 => ?_) (fun c8 => ?_)
          · have nc8 : i_2.toInt ≠ 1 := pw_ne c8 rfl (by decide)
            refine lv_ldc hx hb hown (hts (.constant RX10 61 (-1000000)) (List.mem_of_getElem? (i := 23) rfl)) dX10_as_67 ?_
            exact W.iret (v := (-1000000)) hx hb hr (fun t ht hW => ⟨⟨(-1000000), (), rfl, trivial, trivial⟩, hS.F ht⟩) hS.2.2 dX10_as_69
          · have nc8 : i_2.toInt = 1 := pw_eq c8 rfl (by decide)
            refine lv_iload hx hb dX10_as_51 (lv_at hl 0 rfl) ?_
            refine lv_iconst (v := 2) hx hb dX10_as_53 (by decide) ?_
            refine lv_icmp_eq (tgt := 63) hx hb dX10_as_54 (by decide) (fun c9 => ?_) (fun c9 => ?_)
            · have nc9 : r5.toInt = 2 := pw_eq c9 rfl (by decide)
              refine lv_iload_n hx hb dX10_as_63 rfl (lv_at hl 3 rfl) ?_
              refine lv_goto (tgt := 69) hx hb dX10_as_64 (by decide) ?_
              exact W.iret (v := i_1) hx hb hr (fun t ht hW => ⟨⟨i_1, (), rfl, trivial, trivial⟩, hS.F ht⟩) hS.2.2 dX10_as_69
            · have nc9 : r5.toInt ≠ 2 := pw_ne c9 rfl (by decide)
              refine lv_iload hx hb dX10_as_57 (lv_at hl 0 rfl) ?_
              refine lv_iconst (v := 3) hx hb dX10_as_59 (by decide) ?_
              refine lv_icmp_ne (tgt := 67) hx hb dX10_as_60 (by decide) (fun c10 => ?_) (fun c10 => ?_)
              · have nc10 : r5.toInt ≠ 3 := pw_ne c10 rfl (by decide)
                refine lv_ldc hx hb hown (hts (.constant RX10 61 (-1000000)) (List.mem_of_getElem? (i := 23) rfl)) dX10_as_67 ?_
                exact W.iret (v := (-1000000)) hx hb hr (fun t ht hW => ⟨⟨(-1000000), (), rfl, trivial, trivial⟩, hS.F ht⟩) hS.2.2 dX10_as_69
              · have nc10 : r5.toInt = 3 := pw_eq c10 rfl (by decide)
                refine lv_iload_n hx hb dX10_as_63 rfl (lv_at hl 3 rfl) ?_
                refine lv_goto (tgt := 69) hx hb dX10_as_64 (by decide) ?_
                exact W.iret (v := i_1) hx hb hr (fun t ht hW => ⟨⟨i_1, (), rfl, trivial, trivial⟩, hS.F ht⟩) hS.2.2 dX10_as_69
    · have nc4 : r3.toInt = 0 := pw_eq c4 rfl (by decide)
      refine lv_ldc hx hb hown (hts (.constant RX10 177 (-1000001)) (List.mem_of_getElem? (i := 18) rfl)) dX10_as_21 ?_
      exact W.iret (v := (-1000001)) hx hb hr (fun t ht hW => ⟨⟨(-1000001), (), rfl, trivial, trivial⟩, hS.F ht⟩) hS.2.2 dX10_as_23
def w_X10_edition : List Cond := .code yX10_edition cX10_edition 3 (some .int) :: ([.methodLink RX10 55 yX10_isEdition, .instanceMethod yX10_isEdition, .selects RX10 yX10_isEdition yX10_isEdition, .initialized RX10, .code yX10_isEdition cX10_isEdition 2 (some .boolean), .methodLink RX10 47 yX10_isWork, .instanceMethod yX10_isWork, .selects RX10 yX10_isWork yX10_isWork, .code yX10_isWork cX10_isWork 1 (some .boolean), .fieldLink RX10 7 "LineCitesModel" "now" "[I", .methodLink RX10 51 yX10_in0, .static yX10_in0, .code yX10_in0 cX10_in0 6 (some .boolean), .constant RX10 177 (-1000001), .constantLong RX10 242 (6), .methodLink RX10 221 yX10_lays, .instanceMethod yX10_lays, .selects RX10 yX10_lays yX10_lays, .code yX10_lays cX10_lays 9 none, .constant RX10 61 (-1000000), .fieldLink RX10 29 "LineCitesModel" "low" "[I", .fieldLink RX10 32 "LineCitesModel" "high" "[I", .methodLink RX10 66 yX10_stretchOf, .static yX10_stretchOf, .code yX10_stretchOf cX10_stretchOf 7 (some .int), .methodLink RX10 62 yX10_of, .static yX10_of, .code yX10_of cX10_of 4 (some .int), .fieldLink RX10 35 "LineCitesModel" "first" "[Z", .methodLink RX10 247 yX10_laysNumbers, .instanceMethod yX10_laysNumbers, .selects RX10 yX10_laysNumbers yX10_laysNumbers, .code yX10_laysNumbers cX10_laysNumbers 4 none, .methodLink RX10 87 yX10_clears, .static yX10_clears, .code yX10_clears cX10_clears 2 none, .methodLink RX10 73 yX10_hasNumber, .instanceMethod yX10_hasNumber, .selects RX10 yX10_hasNumber yX10_hasNumber, .code yX10_hasNumber cX10_hasNumber 3 (some .boolean), .methodLink RX10 255 yX10_numbersThat, .instanceMethod yX10_numbersThat, .selects RX10 yX10_numbersThat yX10_numbersThat, .code yX10_numbersThat cX10_numbersThat 6 (some .int), .methodLink RX10 239 yX10_meantBy, .instanceMethod yX10_meantBy, .selects RX10 yX10_meantBy yX10_meantBy, .code yX10_meantBy cX10_meantBy 8 (some .int), .methodLink RX10 69 yX10_isMeant, .instanceMethod yX10_isMeant, .selects RX10 yX10_isMeant yX10_isMeant, .code yX10_isMeant cX10_isMeant 4 (some .boolean), .methodLink RX10 251 yX10_told, .static yX10_told, .code yX10_told cX10_told 2 (some .int), .methodLink RX10 84 yX10_greatestOf, .static yX10_greatestOf, .code yX10_greatestOf cX10_greatestOf 3 (some .int), .methodLink RX10 81 yX10_leastOf, .static yX10_leastOf, .code yX10_leastOf cX10_leastOf 3 (some .int), .methodLink RX10 77 yX10_manyIn, .static yX10_manyIn, .code yX10_manyIn cX10_manyIn 3 (some .int), .methodLink RX10 244 yX10_linesWith, .instanceMethod yX10_linesWith, .selects RX10 yX10_linesWith yX10_linesWith, .code yX10_linesWith cX10_linesWith 4 (some .int)] ++ wsX100)
set_option maxRecDepth 20000 in
theorem g_X10_edition_X10_isEdition : GoodIn w_X10_edition (wsV RX10 55 RX10 yX10_isEdition w_X10_isEdition) := goodIn_r _ [1, 2, 3, 4, 5, 6, 7, 8, 4, 9, 10, 11, 12, 13, 69, 70, 71, 72, 73, 74, 75, 76, 77, 78, 79, 80, 81, 82, 83, 84, 85, 86, 87, 88, 89, 90, 91, 92, 93] rfl (by decide +kernel)
set_option maxRecDepth 20000 in
theorem g_X10_edition_X10_in0 : GoodIn w_X10_edition (wsS RX10 51 yX10_in0 w_X10_in0) := goodIn_r _ [11, 12, 4, 13] rfl (by decide +kernel)
set_option maxRecDepth 20000 in
theorem g_X10_edition_X10_lays : GoodIn w_X10_edition (wsV RX10 221 RX10 yX10_lays w_X10_lays) := goodIn_r _ [16, 17, 18, 4, 19, 10, 20, 21, 22, 23, 24, 4, 25, 26, 27, 28, 11, 12, 13, 69, 70, 71, 72, 73, 74, 75, 76, 77, 78, 79, 80, 81, 82, 83, 84, 85, 86, 87, 88, 89, 90, 91, 92, 93] rfl (by decide +kernel)
set_option maxRecDepth 20000 in
theorem g_X10_edition_X10_laysNumbers : GoodIn w_X10_edition (wsV RX10 247 RX10 yX10_laysNumbers w_X10_laysNumbers) := goodIn_r _ [30, 31, 32, 4, 33, 34, 35, 4, 36, 10, 37, 38, 39, 40, 21, 22, 69, 70, 71, 72, 73, 74, 75, 76, 77, 78, 79, 80, 81, 82, 83, 84, 85, 86, 87, 88, 89, 90, 91, 92, 93] rfl (by decide +kernel)
set_option maxRecDepth 20000 in
theorem g_X10_edition_X10_numbersThat : GoodIn w_X10_edition (wsV RX10 255 RX10 yX10_numbersThat w_X10_numbersThat) := goodIn_r _ [41, 42, 43, 4, 44, 29, 45, 46, 47, 4, 48, 20, 10, 49, 50, 51, 52, 21, 22, 69, 70, 71, 72, 73, 74, 75, 76, 77, 78, 79, 80, 81, 82, 83, 84, 85, 86, 87, 88, 89, 90, 91, 92, 93] rfl (by decide +kernel)
set_option maxRecDepth 20000 in
theorem g_X10_edition_X10_told : GoodIn w_X10_edition (wsS RX10 251 yX10_told w_X10_told) := goodIn_r _ [53, 54, 4, 55, 56, 57, 4, 58, 20, 59, 60, 61, 62, 63, 64] rfl (by decide +kernel)
set_option maxRecDepth 20000 in
theorem g_X10_edition_X10_linesWith : GoodIn w_X10_edition (wsV RX10 244 RX10 yX10_linesWith w_X10_linesWith) := goodIn_r _ [65, 66, 67, 4, 68, 10, 37, 38, 39, 4, 40, 21, 69, 70, 71, 72, 73, 74, 75, 76, 77, 78, 79, 80, 81, 82, 83, 84, 85, 86, 87, 88, 89, 90, 91, 92, 93] rfl (by decide +kernel)
set_option maxHeartbeats 4000000 in
set_option maxRecDepth 100000 in
theorem c_X10_edition (l : Launch) (D : va_G) (h0 : Nat) (i_0 : Int32) (i_1 : Int32) (m_now : Nat) (m_draft : Nat) (m_past : Nat) (j_acts : Int32) (m_images : Nat) (m_kept : Nat) (m_tape : Nat) (j_taped : Int32) (j_at : Int32) (j_start : Int32) (j_token : Int32) (j_value : Int32) (j_fault : Int32) (j_place : Int32) (j_latest : Int32) (m_low : Nat) (m_high : Nat) (m_first : Nat) (m_second : Nat) (m_lines : Nat) (m_others : Nat) (j_shiftFirst : Int32) (j_shiftMany : Int32) (j_shiftLow : Int32) (j_shiftHigh : Int32) (kI : ClassId) (g_now : Nat → Int32) (g_low : Nat → Int32) (g_high : Nat → Int32) (kZ : ClassId) (g_first : Nat → Int32) (sz : Nat) (hg_now : gV g_now) (hg_low : bP g_low) (hg_high : bP g_high) : Met l yX10_edition w_X10_edition ({ frames := 3, cells := 0, slots := 0, locals := 79 }) (va_Pc [.ref h0, .int i_0, .int i_1] (fun U => U.heap.size = sz ∧ va_P D vwCl [(h0, .inr (10, [.ref m_now, .ref m_draft, .ref m_past, .int j_acts, .ref m_images, .ref m_kept, .ref m_tape, .int j_taped, .int j_at, .int j_start, .int j_token, .int j_value, .int j_fault, .int j_place, .int j_latest, .ref m_low, .ref m_high, .ref m_first, .ref m_second, .ref m_lines, .ref m_others, .int j_shiftFirst, .int j_shiftMany, .int j_shiftLow, .int j_shiftHigh])), (m_now, .inl (kI, 192, .inl g_now)), (m_low, .inl (kI, 1000, .inl g_low)), (m_high, .inl (kI, 1000, .inl g_high)), (m_first, .inl (kZ, 1000, .inl g_first))] U.heap ∧ va_K D vwCl [(kI, .int), (kZ, .boolean)] U ∧ va_D (fun _ => True) [(h0, .inr (10, [.ref m_now, .ref m_draft, .ref m_past, .int j_acts, .ref m_images, .ref m_kept, .ref m_tape, .int j_taped, .int j_at, .int j_start, .int j_token, .int j_value, .int j_fault, .int j_place, .int j_latest, .ref m_low, .ref m_high, .ref m_first, .ref m_second, .ref m_lines, .ref m_others, .int j_shiftFirst, .int j_shiftMany, .int j_shiftLow, .int j_shiftHigh])), (m_now, .inl (kI, 192, .inl g_now)), (m_low, .inl (kI, 1000, .inl g_low)), (m_high, .inl (kI, 1000, .inl g_high)), (m_first, .inl (kZ, 1000, .inl g_first))])) (va_Qi (fun (r : Int32) (_ : Unit) => True) (fun (_ : Unit) t => ∃ (n_low : Nat → Int32) (n_high : Nat → Int32) (n_first : Nat → Int32), va_P D vwCl [(h0, .inr (10, [.ref m_now, .ref m_draft, .ref m_past, .int j_acts, .ref m_images, .ref m_kept, .ref m_tape, .int j_taped, .int j_at, .int j_start, .int j_token, .int j_value, .int j_fault, .int j_place, .int j_latest, .ref m_low, .ref m_high, .ref m_first, .ref m_second, .ref m_lines, .ref m_others, .int j_shiftFirst, .int j_shiftMany, .int j_shiftLow, .int j_shiftHigh])), (m_now, .inl (kI, 192, .inl g_now)), (m_low, .inl (kI, 1000, .inl n_low)), (m_high, .inl (kI, 1000, .inl n_high)), (m_first, .inl (kZ, 1000, .inl n_first))] t.heap ∧ va_K D vwCl [(kI, .int), (kZ, .boolean)] t ∧ va_D (va_A [(h0, .inr (10, [.ref m_now, .ref m_draft, .ref m_past, .int j_acts, .ref m_images, .ref m_kept, .ref m_tape, .int j_taped, .int j_at, .int j_start, .int j_token, .int j_value, .int j_fault, .int j_place, .int j_latest, .ref m_low, .ref m_high, .ref m_first, .ref m_second, .ref m_lines, .ref m_others, .int j_shiftFirst, .int j_shiftMany, .int j_shiftLow, .int j_shiftHigh])), (m_now, .inl (kI, 192, .inl g_now)), (m_low, .inl (kI, 1000, .inl g_low)), (m_high, .inl (kI, 1000, .inl g_high)), (m_first, .inl (kZ, 1000, .inl g_first))] sz) [(h0, .inr (10, [.ref m_now, .ref m_draft, .ref m_past, .int j_acts, .ref m_images, .ref m_kept, .ref m_tape, .int j_taped, .int j_at, .int j_start, .int j_token, .int j_value, .int j_fault, .int j_place, .int j_latest, .ref m_low, .ref m_high, .ref m_first, .ref m_second, .ref m_lines, .ref m_others, .int j_shiftFirst, .int j_shiftMany, .int j_shiftLow, .int j_shiftHigh])), (m_now, .inl (kI, 192, .inl g_now)), (m_low, .inl (kI, 1000, .inl n_low)), (m_high, .inl (kI, 1000, .inl n_high)), (m_first, .inl (kZ, 1000, .inl n_first))] ∧ bP n_low ∧ bP n_high) (va_A [(h0, .inr (10, [.ref m_now, .ref m_draft, .ref m_past, .int j_acts, .ref m_images, .ref m_kept, .ref m_tape, .int j_taped, .int j_at, .int j_start, .int j_token, .int j_value, .int j_fault, .int j_place, .int j_latest, .ref m_low, .ref m_high, .ref m_first, .ref m_second, .ref m_lines, .ref m_others, .int j_shiftFirst, .int j_shiftMany, .int j_shiftLow, .int j_shiftHigh])), (m_now, .inl (kI, 192, .inl g_now)), (m_low, .inl (kI, 1000, .inl g_low)), (m_high, .inl (kI, 1000, .inl g_high)), (m_first, .inl (kZ, 1000, .inl g_first))] sz)) 0 0 (va_A [(h0, .inr (10, [.ref m_now, .ref m_draft, .ref m_past, .int j_acts, .ref m_images, .ref m_kept, .ref m_tape, .int j_taped, .int j_at, .int j_start, .int j_token, .int j_value, .int j_fault, .int j_place, .int j_latest, .ref m_low, .ref m_high, .ref m_first, .ref m_second, .ref m_lines, .ref m_others, .int j_shiftFirst, .int j_shiftMany, .int j_shiftLow, .int j_shiftHigh])), (m_now, .inl (kI, 192, .inl g_now)), (m_low, .inl (kI, 1000, .inl g_low)), (m_high, .inl (kI, 1000, .inl g_high)), (m_first, .inl (kZ, 1000, .inl g_first))] sz) := by
  refine Met.ofW (cc := cX10_edition) (maxL := 3) (ret := (some .int)) (by decide) rfl ?_
  intro p e s m args below meth c s₁ B hml hv
  obtain ⟨rfl, hsz, hP, hK, hD0⟩ := hv
  have hx := B.exec
  have hb := B.bytes
  have hr := B.returns
  have hts := atoms_spec (ws := w_X10_edition) B.pre
  have hown : s.vm.findClass RX10 = some m.cls := findClass_of_methodNamed B.named
  have hlocks := B.notSynchronized
  subst hsz
  have hD := hD0.self (sz := s.heap.size)
  generalize hAe : va_A [(h0, .inr (10, [.ref m_now, .ref m_draft, .ref m_past, .int j_acts, .ref m_images, .ref m_kept, .ref m_tape, .int j_taped, .int j_at, .int j_start, .int j_token, .int j_value, .int j_fault, .int j_place, .int j_latest, .ref m_low, .ref m_high, .ref m_first, .ref m_second, .ref m_lines, .ref m_others, .int j_shiftFirst, .int j_shiftMany, .int j_shiftLow, .int j_shiftHigh])), (m_now, .inl (kI, 192, .inl g_now)), (m_low, .inl (kI, 1000, .inl g_low)), (m_high, .inl (kI, 1000, .inl g_high)), (m_first, .inl (kZ, 1000, .inl g_first))] s.heap.size = A at hD ⊢
  have hA : ∀ q : Nat, s.heap.size ≤ q → A q := fun q h => by rw [← hAe]; exact Or.inr h
  have hS : va_S A s.heap s.heap [] := va_S.rf
  have hP : va_P D vwCl [(h0, .inr (10, [.ref m_now, .ref m_draft, .ref m_past, .int j_acts, .ref m_images, .ref m_kept, .ref m_tape, .int j_taped, .int j_at, .int j_start, .int j_token, .int j_value, .int j_fault, .int j_place, .int j_latest, .ref m_low, .ref m_high, .ref m_first, .ref m_second, .ref m_lines, .ref m_others, .int j_shiftFirst, .int j_shiftMany, .int j_shiftLow, .int j_shiftHigh])), (m_now, .inl (kI, 192, .inl g_now)), (m_low, .inl (kI, 1000, .inl g_low)), (m_high, .inl (kI, 1000, .inl g_high)), (m_first, .inl (kZ, 1000, .inl g_first))] s.heap := hP
  have hl := lv_entry ([.ref h0, .int i_0, .int i_1]) (n := 3) (Nat.le_of_ble_eq_true rfl)
  rw [lg_entry_eq]
  generalize (lg_sl ([.ref h0, .int i_0, .int i_1]) ++ List.replicate (3 - (lg_sl ([.ref h0, .int i_0, .int i_1])).length) Slot.unset).toArray = ls at hl ⊢
  have hl : lv_has ls 3 [(0, .ref h0), (1, .int i_0), (2, .int i_1)] := hl
  obtain ⟨H, hHe⟩ : ∃ H : Heap, H = s.heap := ⟨_, rfl⟩
  rw [← hHe] at hP
  have hS : va_S A s.heap H [] := by rw [hHe]; exact hS
  refine pw_heap hHe ?_
  refine lv_aload_n hx hb dX10_edition_0 rfl (lv_at hl 0 rfl) ?_
  refine lv_iload_n hx hb dX10_edition_1 rfl (lv_at hl 1 rfl) ?_
  have hPc := hP.sub (ws' := [(h0, .inr (10, [.ref m_now, .ref m_draft, .ref m_past, .int j_acts, .ref m_images, .ref m_kept, .ref m_tape, .int j_taped, .int j_at, .int j_start, .int j_token, .int j_value, .int j_fault, .int j_place, .int j_latest, .ref m_low, .ref m_high, .ref m_first, .ref m_second, .ref m_lines, .ref m_others, .int j_shiftFirst, .int j_shiftMany, .int j_shiftLow, .int j_shiftHigh])), (m_now, .inl (kI, 192, .inl g_now))]) [0, 1] rfl
  have hKc := hK.sub (tys' := [(kI, .int)]) [0] rfl
  refine va_calli (va_runV (As := [.int i_0]) (rest := []) ⟨hx, hb, hml, hown, hts⟩ (c_X10_isEdition l D h0 i_0 m_now m_draft m_past j_acts m_images m_kept m_tape j_taped j_at j_start j_token j_value j_fault j_place j_latest m_low m_high m_first m_second m_lines m_others j_shiftFirst j_shiftMany j_shiftLow j_shiftHigh kI g_now hg_now) (cwV 1 hts g_X10_edition_X10_isEdition rfl rfl rfl (by decide +kernel) ⟨Nat.le_of_ble_eq_true rfl, Nat.le_of_ble_eq_true rfl⟩) ⟨fun a U g mk q => by obtain ⟨q0, qP, qK⟩ := q; exact ⟨q0, qP, va_K.moved (u := U) (U := U.calling g mk a) (Vm.Alike.refl U.vm) qK⟩, va_recv hKc hPc (ci := 10) (q0 := 0) rfl rfl, fun U hU hW => ⟨rfl, by rw [hU]; exact hPc, va_K.moved hW.alike hKc⟩⟩ rfl rfl hl.1 rfl (lv_room (Nat.le_of_ble_eq_true rfl)) dX10_edition_2 ⟨Nat.le_of_ble_eq_true rfl, Nat.le_of_ble_eq_true rfl⟩) hS (fun _ _ h => h.elim) (fun _ h => h.elim) (fun r1 u t H1 locs ht hvm hw hB hz1 hk1 hS => ?_)
  have hP := pw_keep hP (fun q hq => hk1 q hq (fun h => h))
  generalize H1 = H at hP hS ⊢
  refine W.widen (k := 0) (n := 0) (Nat.le_of_ble_eq_true rfl) (Nat.le_of_ble_eq_true rfl) ?_
  have bor1 := hw.1
  have zor1 := pw_boolI bor1
  have hfr1 := hw.2
  refine lv_if_eq (tgt := 20) hx hb dX10_edition_5 (by decide) (fun c2 => ?_) (fun c2 => ?_)
  · have nc2 : r1.toInt = 0 := pw_eq c2 rfl (by decide)
    refine lv_ldc hx hb hown (hts (.constant RX10 177 (-1000001)) (List.mem_of_getElem? (i := 14) rfl)) dX10_edition_20 ?_
    have hP9 := hP.sub (ws' := [(h0, .inr (10, [.ref m_now, .ref m_draft, .ref m_past, .int j_acts, .ref m_images, .ref m_kept, .ref m_tape, .int j_taped, .int j_at, .int j_start, .int j_token, .int j_value, .int j_fault, .int j_place, .int j_latest, .ref m_low, .ref m_high, .ref m_first, .ref m_second, .ref m_lines, .ref m_others, .int j_shiftFirst, .int j_shiftMany, .int j_shiftLow, .int j_shiftHigh])), (m_now, .inl (kI, 192, .inl g_now)), (m_low, .inl (kI, 1000, .inl g_low)), (m_high, .inl (kI, 1000, .inl g_high)), (m_first, .inl (kZ, 1000, .inl g_first))]) [0, 1, 2, 3, 4] rfl
    have hD9 := hD.sub (ws' := [(h0, .inr (10, [.ref m_now, .ref m_draft, .ref m_past, .int j_acts, .ref m_images, .ref m_kept, .ref m_tape, .int j_taped, .int j_at, .int j_start, .int j_token, .int j_value, .int j_fault, .int j_place, .int j_latest, .ref m_low, .ref m_high, .ref m_first, .ref m_second, .ref m_lines, .ref m_others, .int j_shiftFirst, .int j_shiftMany, .int j_shiftLow, .int j_shiftHigh])), (m_now, .inl (kI, 192, .inl g_now)), (m_low, .inl (kI, 1000, .inl g_low)), (m_high, .inl (kI, 1000, .inl g_high)), (m_first, .inl (kZ, 1000, .inl g_first))]) [0, 1, 2, 3, 4] (by decide) rfl
    have hK9 := hK.sub (tys' := [(kI, .int), (kZ, .boolean)]) [0, 1] rfl
    refine W.widen (k := 0) (n := 0) (Nat.le_of_ble_eq_true rfl) (Nat.le_of_ble_eq_true rfl) ?_
    exact W.iret (v := (-1000001)) hx hb hr (fun t ht hW => ⟨⟨(-1000001), (), rfl, trivial, g_low, g_high, g_first, by rw [ht]; exact hP9, va_K.moved hW.alike hK9, hD9, hg_low, hg_high⟩, hS.F ht⟩) hS.2.2 dX10_edition_22
  · have nc2 : r1.toInt ≠ 0 := pw_ne c2 rfl (by decide)
    refine lv_iload_n hx hb dX10_edition_8 rfl (lv_at hl 2 rfl) ?_
    refine lv_i2l (v := i_1.toInt64) hx hb dX10_edition_9 rfl ?_
    refine lv_lconst (v := 0) hx hb dX10_edition_10 (by decide) ?_
    refine lv_ldc2 hx hb hown (hts (.constantLong RX10 242 (6)) (List.mem_of_getElem? (i := 15) rfl)) dX10_edition_11 ?_
    have hPc := hP.sub (ws' := []) [] rfl
    have hKc := hK.sub (tys' := []) [] rfl
    refine va_calli (va_runS (As := [.long i_1.toInt64, .long 0, .long 6]) (rest := []) ⟨hx, hb, hml, hown, hts⟩ (c_X10_in0 l D i_1.toInt64 0 6) (cwS 3 hts g_X10_edition_X10_in0 rfl rfl rfl (by decide +kernel) ⟨Nat.le_of_ble_eq_true rfl, Nat.le_of_ble_eq_true rfl⟩) ⟨fun a U g mk q => by obtain ⟨q0, qP, qK⟩ := q; exact ⟨q0, qP, va_K.moved (u := U) (U := U.calling g mk a) (Vm.Alike.refl U.vm) qK⟩, fun U hU hW => ⟨rfl, by rw [hU]; exact hPc, va_K.moved hW.alike hKc⟩⟩ rfl rfl hl.1 rfl (lv_room (Nat.le_of_ble_eq_true rfl)) dX10_edition_14 ⟨Nat.le_of_ble_eq_true rfl, Nat.le_of_ble_eq_true rfl⟩) hS (fun _ _ h => h.elim) (fun _ h => h.elim) (fun r3 u t H1 locs ht hvm hw hB hz1 hk1 hS => ?_)
    have hP := pw_keep hP (fun q hq => hk1 q hq (fun h => h))
    generalize H1 = H at hP hS ⊢
    refine W.widen (k := 0) (n := 0) (Nat.le_of_ble_eq_true rfl) (Nat.le_of_ble_eq_true rfl) ?_
    have bor3 := hw.1
    have zor3 := pw_boolI bor3
    have hfr3 := hw.2
    have kl0 : (0 : Int64).toInt = 0 := by decide
    have kl6 : (6 : Int64).toInt = 6 := by decide
    try simp only [Int32.toInt_toInt64] at hfr3
    refine lv_if_ne (tgt := 23) hx hb dX10_edition_17 (by decide) (fun c4 => ?_) (fun c4 => ?_)
    · have nc4 : r3.toInt ≠ 0 := pw_ne c4 rfl (by decide)
      refine lv_iload_n hx hb dX10_edition_23 rfl (lv_at hl 2 rfl) ?_
      refine lv_if_ne (tgt := 36) hx hb dX10_edition_24 (by decide) (fun c5 => ?_) (fun c5 => ?_)
      · have nc5 : i_1.toInt ≠ 0 := pw_ne c5 rfl (by decide)
        refine lv_aload_n hx hb dX10_edition_36 rfl (lv_at hl 0 rfl) ?_
        have hPc := hP.sub (ws' := [(h0, .inr (10, [.ref m_now, .ref m_draft, .ref m_past, .int j_acts, .ref m_images, .ref m_kept, .ref m_tape, .int j_taped, .int j_at, .int j_start, .int j_token, .int j_value, .int j_fault, .int j_place, .int j_latest, .ref m_low, .ref m_high, .ref m_first, .ref m_second, .ref m_lines, .ref m_others, .int j_shiftFirst, .int j_shiftMany, .int j_shiftLow, .int j_shiftHigh])), (m_now, .inl (kI, 192, .inl g_now)), (m_low, .inl (kI, 1000, .inl g_low)), (m_high, .inl (kI, 1000, .inl g_high))]) [0, 1, 2, 3] rfl
        have hKc := hK.sub (tys' := [(kI, .int)]) [0] rfl
        have hDc := hD.sub (ws' := [(h0, .inr (10, [.ref m_now, .ref m_draft, .ref m_past, .int j_acts, .ref m_images, .ref m_kept, .ref m_tape, .int j_taped, .int j_at, .int j_start, .int j_token, .int j_value, .int j_fault, .int j_place, .int j_latest, .ref m_low, .ref m_high, .ref m_first, .ref m_second, .ref m_lines, .ref m_others, .int j_shiftFirst, .int j_shiftMany, .int j_shiftLow, .int j_shiftHigh])), (m_now, .inl (kI, 192, .inl g_now)), (m_low, .inl (kI, 1000, .inl g_low)), (m_high, .inl (kI, 1000, .inl g_high))]) [0, 1, 2, 3] (by decide) rfl
        have hFc := va_free (wc := [(h0, .inr (10, [.ref m_now, .ref m_draft, .ref m_past, .int j_acts, .ref m_images, .ref m_kept, .ref m_tape, .int j_taped, .int j_at, .int j_start, .int j_token, .int j_value, .int j_fault, .int j_place, .int j_latest, .ref m_low, .ref m_high, .ref m_first, .ref m_second, .ref m_lines, .ref m_others, .int j_shiftFirst, .int j_shiftMany, .int j_shiftLow, .int j_shiftHigh])), (m_now, .inl (kI, 192, .inl g_now)), (m_low, .inl (kI, 1000, .inl g_low)), (m_high, .inl (kI, 1000, .inl g_high))]) hD hS hA [0, 1, 2, 3] rfl
        refine va_callv (va_runV (As := []) (rest := []) ⟨hx, hb, hml, hown, hts⟩ (c_X10_lays l D h0 m_now m_draft m_past j_acts m_images m_kept m_tape j_taped j_at j_start j_token j_value j_fault j_place j_latest m_low m_high m_first m_second m_lines m_others j_shiftFirst j_shiftMany j_shiftLow j_shiftHigh kI g_now g_low g_high H.size hg_now hg_low hg_high) (cwV 0 hts g_X10_edition_X10_lays rfl rfl rfl (by decide +kernel) ⟨Nat.le_of_ble_eq_true rfl, Nat.le_of_ble_eq_true rfl⟩) ⟨fun a U g mk q => by obtain ⟨q0, q1, qP, qK, qD⟩ := q; exact ⟨q0, q1, qP, va_K.moved (u := U) (U := U.calling g mk a) (Vm.Alike.refl U.vm) qK, qD⟩, va_recv hKc hPc (ci := 10) (q0 := 0) rfl rfl, fun U hU hW => ⟨rfl, by rw [hU], by rw [hU]; exact hPc, va_K.moved hW.alike hKc, hDc.weaken (fun _ _ _ _ => trivial)⟩⟩ rfl rfl hl.1 rfl (lv_room (Nat.le_of_ble_eq_true rfl)) dX10_edition_37 ⟨Nat.le_of_ble_eq_true rfl, Nat.le_of_ble_eq_true rfl⟩) hS (fun q _ h => hFc q h) hFc (fun u t H1 locs ht hvm hw hB hz1 hk1 hS => ?_)
        obtain ⟨y7, y8, hP1, hK1, hD1, hy7, hy8⟩ := hB
        rw [ht] at hP1
        have hK1 := va_K.moved hvm.symm hK1
        obtain ⟨hP, hD⟩ := va_join (wr := [(m_first, .inl (kZ, 1000, .inl g_first))]) (w1 := [(h0, .inr (10, [.ref m_now, .ref m_draft, .ref m_past, .int j_acts, .ref m_images, .ref m_kept, .ref m_tape, .int j_taped, .int j_at, .int j_start, .int j_token, .int j_value, .int j_fault, .int j_place, .int j_latest, .ref m_low, .ref m_high, .ref m_first, .ref m_second, .ref m_lines, .ref m_others, .int j_shiftFirst, .int j_shiftMany, .int j_shiftLow, .int j_shiftHigh])), (m_now, .inl (kI, 192, .inl g_now)), (m_low, .inl (kI, 1000, .inl y7)), (m_high, .inl (kI, 1000, .inl y8))]) hP hD [0, 1, 2, 3] [4] rfl rfl (by decide) (by decide) hk1 hFc hP1 hD1
        have hK := (hK.sub (tys' := [(kI, .int), (kZ, .boolean)]) [0, 1] rfl).app hK1
        generalize H1 = H at hP hS ⊢
        have hP : va_P D vwCl [(m_first, .inl (kZ, 1000, .inl g_first)), (h0, .inr (10, [.ref m_now, .ref m_draft, .ref m_past, .int j_acts, .ref m_images, .ref m_kept, .ref m_tape, .int j_taped, .int j_at, .int j_start, .int j_token, .int j_value, .int j_fault, .int j_place, .int j_latest, .ref m_low, .ref m_high, .ref m_first, .ref m_second, .ref m_lines, .ref m_others, .int j_shiftFirst, .int j_shiftMany, .int j_shiftLow, .int j_shiftHigh])), (m_now, .inl (kI, 192, .inl g_now)), (m_low, .inl (kI, 1000, .inl y7)), (m_high, .inl (kI, 1000, .inl y8))] H := hP
        have hD : va_D A [(m_first, .inl (kZ, 1000, .inl g_first)), (h0, .inr (10, [.ref m_now, .ref m_draft, .ref m_past, .int j_acts, .ref m_images, .ref m_kept, .ref m_tape, .int j_taped, .int j_at, .int j_start, .int j_token, .int j_value, .int j_fault, .int j_place, .int j_latest, .ref m_low, .ref m_high, .ref m_first, .ref m_second, .ref m_lines, .ref m_others, .int j_shiftFirst, .int j_shiftMany, .int j_shiftLow, .int j_shiftHigh])), (m_now, .inl (kI, 192, .inl g_now)), (m_low, .inl (kI, 1000, .inl y7)), (m_high, .inl (kI, 1000, .inl y8))] := hD
        have hK : va_K D vwCl [(kI, .int), (kZ, .boolean), (kI, .int)] s := hK
        refine W.widen (k := 0) (n := 0) (Nat.le_of_ble_eq_true rfl) (Nat.le_of_ble_eq_true rfl) ?_
        refine lv_iload_n hx hb dX10_edition_40 rfl (lv_at hl 2 rfl) ?_
        refine lv_iconst (v := 1) hx hb dX10_edition_41 (by decide) ?_
        refine lv_icmp_ne (tgt := 51) hx hb dX10_edition_42 (by decide) (fun c9 => ?_) (fun c9 => ?_)
        · have nc9 : i_1.toInt ≠ 1 := pw_ne c9 rfl (by decide)
          refine lv_aload_n hx hb dX10_edition_51 rfl (lv_at hl 0 rfl) ?_
          refine lv_iload_n hx hb dX10_edition_52 rfl (lv_at hl 1 rfl) ?_
          refine lv_aload_n hx hb dX10_edition_53 rfl (lv_at hl 0 rfl) ?_
          refine va_get (D := D) (ci := 10) (v := .ref m_first) (C := RX10) (T := TX10) (N := 25) hx hb hts (fun _ h => List.mem_cons_of_mem _ (List.mem_append_right _ h)) hown hK hP 1 rfl rfl 17 (by decide) (hts (.fieldLink RX10 35 "LineCitesModel" "first" "[Z") (List.mem_of_getElem? (i := 29) rfl)) (fun _ h9 => h9) rfl dX10_edition_54 ?_
          have hPc := hP.sub (ws' := [(h0, .inr (10, [.ref m_now, .ref m_draft, .ref m_past, .int j_acts, .ref m_images, .ref m_kept, .ref m_tape, .int j_taped, .int j_at, .int j_start, .int j_token, .int j_value, .int j_fault, .int j_place, .int j_latest, .ref m_low, .ref m_high, .ref m_first, .ref m_second, .ref m_lines, .ref m_others, .int j_shiftFirst, .int j_shiftMany, .int j_shiftLow, .int j_shiftHigh])), (m_now, .inl (kI, 192, .inl g_now)), (m_low, .inl (kI, 1000, .inl y7)), (m_high, .inl (kI, 1000, .inl y8)), (m_first, .inl (kZ, 1000, .inl g_first))]) [1, 2, 3, 4, 0] rfl
          have hKc := hK.sub (tys' := [(kI, .int), (kZ, .boolean)]) [0, 1] rfl
          have hDc := hD.sub (ws' := [(h0, .inr (10, [.ref m_now, .ref m_draft, .ref m_past, .int j_acts, .ref m_images, .ref m_kept, .ref m_tape, .int j_taped, .int j_at, .int j_start, .int j_token, .int j_value, .int j_fault, .int j_place, .int j_latest, .ref m_low, .ref m_high, .ref m_first, .ref m_second, .ref m_lines, .ref m_others, .int j_shiftFirst, .int j_shiftMany, .int j_shiftLow, .int j_shiftHigh])), (m_now, .inl (kI, 192, .inl g_now)), (m_low, .inl (kI, 1000, .inl y7)), (m_high, .inl (kI, 1000, .inl y8)), (m_first, .inl (kZ, 1000, .inl g_first))]) [1, 2, 3, 4, 0] (by decide) rfl
          have hFc := va_free (wc := [(h0, .inr (10, [.ref m_now, .ref m_draft, .ref m_past, .int j_acts, .ref m_images, .ref m_kept, .ref m_tape, .int j_taped, .int j_at, .int j_start, .int j_token, .int j_value, .int j_fault, .int j_place, .int j_latest, .ref m_low, .ref m_high, .ref m_first, .ref m_second, .ref m_lines, .ref m_others, .int j_shiftFirst, .int j_shiftMany, .int j_shiftLow, .int j_shiftHigh])), (m_now, .inl (kI, 192, .inl g_now)), (m_low, .inl (kI, 1000, .inl y7)), (m_high, .inl (kI, 1000, .inl y8)), (m_first, .inl (kZ, 1000, .inl g_first))]) hD hS hA [1, 2, 3, 4, 0] rfl
          refine va_callv (va_runV (As := [.int i_0, .ref m_first]) (rest := []) ⟨hx, hb, hml, hown, hts⟩ (c_X10_laysNumbers l D h0 i_0 m_first m_now m_draft m_past j_acts m_images m_kept m_tape j_taped j_at j_start j_token j_value j_fault j_place j_latest m_low m_high m_first m_second m_lines m_others j_shiftFirst j_shiftMany j_shiftLow j_shiftHigh kI g_now y7 y8 kZ g_first H.size (by first | decide | omega) (by first | decide | omega) hg_now hy7 hy8) (cwV 2 hts g_X10_edition_X10_laysNumbers rfl rfl rfl (by decide +kernel) ⟨Nat.le_of_ble_eq_true rfl, Nat.le_of_ble_eq_true rfl⟩) ⟨fun a U g mk q => by obtain ⟨q0, q1, qP, qK, qD⟩ := q; exact ⟨q0, q1, qP, va_K.moved (u := U) (U := U.calling g mk a) (Vm.Alike.refl U.vm) qK, qD⟩, va_recv hKc hPc (ci := 10) (q0 := 0) rfl rfl, fun U hU hW => ⟨rfl, by rw [hU], by rw [hU]; exact hPc, va_K.moved hW.alike hKc, hDc.weaken (fun _ _ _ _ => trivial)⟩⟩ rfl rfl hl.1 rfl (lv_room (Nat.le_of_ble_eq_true rfl)) dX10_edition_57 ⟨Nat.le_of_ble_eq_true rfl, Nat.le_of_ble_eq_true rfl⟩) hS (fun q _ h => hFc q h) hFc (fun u t H1 locs ht hvm hw hB hz1 hk1 hS => ?_)
          obtain ⟨y11, hP1, hK1, hD1⟩ := hB
          rw [ht] at hP1
          have hK1 := va_K.moved hvm.symm hK1
          obtain ⟨hP, hD⟩ := va_join (wr := []) (w1 := [(h0, .inr (10, [.ref m_now, .ref m_draft, .ref m_past, .int j_acts, .ref m_images, .ref m_kept, .ref m_tape, .int j_taped, .int j_at, .int j_start, .int j_token, .int j_value, .int j_fault, .int j_place, .int j_latest, .ref m_low, .ref m_high, .ref m_first, .ref m_second, .ref m_lines, .ref m_others, .int j_shiftFirst, .int j_shiftMany, .int j_shiftLow, .int j_shiftHigh])), (m_now, .inl (kI, 192, .inl g_now)), (m_low, .inl (kI, 1000, .inl y7)), (m_high, .inl (kI, 1000, .inl y8)), (m_first, .inl (kZ, 1000, .inl y11))]) hP hD [1, 2, 3, 4, 0] [] rfl rfl (by decide) (by decide) hk1 hFc hP1 hD1
          have hK := (hK.sub (tys' := [(kI, .int), (kZ, .boolean), (kI, .int)]) [0, 1, 2] rfl).app hK1
          generalize H1 = H at hP hS ⊢
          have hP : va_P D vwCl [(h0, .inr (10, [.ref m_now, .ref m_draft, .ref m_past, .int j_acts, .ref m_images, .ref m_kept, .ref m_tape, .int j_taped, .int j_at, .int j_start, .int j_token, .int j_value, .int j_fault, .int j_place, .int j_latest, .ref m_low, .ref m_high, .ref m_first, .ref m_second, .ref m_lines, .ref m_others, .int j_shiftFirst, .int j_shiftMany, .int j_shiftLow, .int j_shiftHigh])), (m_now, .inl (kI, 192, .inl g_now)), (m_low, .inl (kI, 1000, .inl y7)), (m_high, .inl (kI, 1000, .inl y8)), (m_first, .inl (kZ, 1000, .inl y11))] H := hP
          have hD : va_D A [(h0, .inr (10, [.ref m_now, .ref m_draft, .ref m_past, .int j_acts, .ref m_images, .ref m_kept, .ref m_tape, .int j_taped, .int j_at, .int j_start, .int j_token, .int j_value, .int j_fault, .int j_place, .int j_latest, .ref m_low, .ref m_high, .ref m_first, .ref m_second, .ref m_lines, .ref m_others, .int j_shiftFirst, .int j_shiftMany, .int j_shiftLow, .int j_shiftHigh])), (m_now, .inl (kI, 192, .inl g_now)), (m_low, .inl (kI, 1000, .inl y7)), (m_high, .inl (kI, 1000, .inl y8)), (m_first, .inl (kZ, 1000, .inl y11))] := hD
          have hK : va_K D vwCl [(kI, .int), (kZ, .boolean), (kI, .int), (kI, .int), (kZ, .boolean)] s := hK
          refine W.widen (k := 0) (n := 0) (Nat.le_of_ble_eq_true rfl) (Nat.le_of_ble_eq_true rfl) ?_
          refine lv_iload_n hx hb dX10_edition_60 rfl (lv_at hl 2 rfl) ?_
          refine lv_iconst (v := 5) hx hb dX10_edition_61 (by decide) ?_
          refine lv_icmp_ge (tgt := 78) hx hb dX10_edition_62 (by decide) (fun c12 => ?_) (fun c12 => ?_)
          · have nc12 : 5 ≤ i_1.toInt := pw_le c12 (by decide) rfl
            refine lv_aload_n hx hb dX10_edition_78 rfl (lv_at hl 0 rfl) ?_
            refine lv_iload_n hx hb dX10_edition_79 rfl (lv_at hl 1 rfl) ?_
            refine lv_iload_n hx hb dX10_edition_80 rfl (lv_at hl 2 rfl) ?_
            have hPc := hP.sub (ws' := [(h0, .inr (10, [.ref m_now, .ref m_draft, .ref m_past, .int j_acts, .ref m_images, .ref m_kept, .ref m_tape, .int j_taped, .int j_at, .int j_start, .int j_token, .int j_value, .int j_fault, .int j_place, .int j_latest, .ref m_low, .ref m_high, .ref m_first, .ref m_second, .ref m_lines, .ref m_others, .int j_shiftFirst, .int j_shiftMany, .int j_shiftLow, .int j_shiftHigh])), (m_now, .inl (kI, 192, .inl g_now)), (m_low, .inl (kI, 1000, .inl y7)), (m_high, .inl (kI, 1000, .inl y8)), (m_first, .inl (kZ, 1000, .inl y11))]) [0, 1, 2, 3, 4] rfl
            have hKc := hK.sub (tys' := [(kI, .int), (kZ, .boolean)]) [0, 1] rfl
            refine va_calli (va_runV (As := [.int i_0, .int i_1]) (rest := []) ⟨hx, hb, hml, hown, hts⟩ (c_X10_numbersThat l D h0 i_0 i_1 m_now m_draft m_past j_acts m_images m_kept m_tape j_taped j_at j_start j_token j_value j_fault j_place j_latest m_low m_high m_first m_second m_lines m_others j_shiftFirst j_shiftMany j_shiftLow j_shiftHigh kI g_now y7 y8 kZ y11 (by first | decide | omega) (by first | decide | omega) hg_now hy7 hy8) (cwV 2 hts g_X10_edition_X10_numbersThat rfl rfl rfl (by decide +kernel) ⟨Nat.le_of_ble_eq_true rfl, Nat.le_of_ble_eq_true rfl⟩) ⟨fun a U g mk q => by obtain ⟨q0, qP, qK⟩ := q; exact ⟨q0, qP, va_K.moved (u := U) (U := U.calling g mk a) (Vm.Alike.refl U.vm) qK⟩, va_recv hKc hPc (ci := 10) (q0 := 0) rfl rfl, fun U hU hW => ⟨rfl, by rw [hU]; exact hPc, va_K.moved hW.alike hKc⟩⟩ rfl rfl hl.1 rfl (lv_room (Nat.le_of_ble_eq_true rfl)) dX10_edition_81 ⟨Nat.le_of_ble_eq_true rfl, Nat.le_of_ble_eq_true rfl⟩) hS (fun _ _ h => h.elim) (fun _ h => h.elim) (fun r13 u t H1 locs ht hvm hw hB hz1 hk1 hS => ?_)
            have hP := pw_keep hP (fun q hq => hk1 q hq (fun h => h))
            generalize H1 = H at hP hS ⊢
            refine W.widen (k := 0) (n := 0) (Nat.le_of_ble_eq_true rfl) (Nat.le_of_ble_eq_true rfl) ?_
            have hP9 := hP.sub (ws' := [(h0, .inr (10, [.ref m_now, .ref m_draft, .ref m_past, .int j_acts, .ref m_images, .ref m_kept, .ref m_tape, .int j_taped, .int j_at, .int j_start, .int j_token, .int j_value, .int j_fault, .int j_place, .int j_latest, .ref m_low, .ref m_high, .ref m_first, .ref m_second, .ref m_lines, .ref m_others, .int j_shiftFirst, .int j_shiftMany, .int j_shiftLow, .int j_shiftHigh])), (m_now, .inl (kI, 192, .inl g_now)), (m_low, .inl (kI, 1000, .inl y7)), (m_high, .inl (kI, 1000, .inl y8)), (m_first, .inl (kZ, 1000, .inl y11))]) [0, 1, 2, 3, 4] rfl
            have hD9 := hD.sub (ws' := [(h0, .inr (10, [.ref m_now, .ref m_draft, .ref m_past, .int j_acts, .ref m_images, .ref m_kept, .ref m_tape, .int j_taped, .int j_at, .int j_start, .int j_token, .int j_value, .int j_fault, .int j_place, .int j_latest, .ref m_low, .ref m_high, .ref m_first, .ref m_second, .ref m_lines, .ref m_others, .int j_shiftFirst, .int j_shiftMany, .int j_shiftLow, .int j_shiftHigh])), (m_now, .inl (kI, 192, .inl g_now)), (m_low, .inl (kI, 1000, .inl y7)), (m_high, .inl (kI, 1000, .inl y8)), (m_first, .inl (kZ, 1000, .inl y11))]) [0, 1, 2, 3, 4] (by decide) rfl
            have hK9 := hK.sub (tys' := [(kI, .int), (kZ, .boolean)]) [0, 1] rfl
            refine W.widen (k := 0) (n := 0) (Nat.le_of_ble_eq_true rfl) (Nat.le_of_ble_eq_true rfl) ?_
            exact W.iret (v := r13) hx hb hr (fun t ht hW => ⟨⟨r13, (), rfl, trivial, y7, y8, y11, by rw [ht]; exact hP9, va_K.moved hW.alike hK9, hD9, hy7, hy8⟩, hS.F ht⟩) hS.2.2 dX10_edition_84
          · have nc12 : i_1.toInt < 5 := pw_nle c12 (by decide) rfl
            refine lv_aload_n hx hb dX10_edition_65 rfl (lv_at hl 0 rfl) ?_
            refine va_get (D := D) (ci := 10) (v := .ref m_first) (C := RX10) (T := TX10) (N := 25) hx hb hts (fun _ h => List.mem_cons_of_mem _ (List.mem_append_right _ h)) hown hK hP 0 rfl rfl 17 (by decide) (hts (.fieldLink RX10 35 "LineCitesModel" "first" "[Z") (List.mem_of_getElem? (i := 29) rfl)) (fun _ h9 => h9) rfl dX10_edition_66 ?_
            refine lv_iload_n hx hb dX10_edition_69 rfl (lv_at hl 2 rfl) ?_
            refine lv_iconst (v := 2) hx hb dX10_edition_70 (by decide) ?_
            refine lv_isub hx hb dX10_edition_71 ?_
            refine lv_topi (fun x14 ex14 => ?_)
            have tx14 : x14.toInt = i_1.toInt - 2 := pw_subX ex14 rfl (by decide) (by omega) (by omega)
            have hPc := hP.sub (ws' := [(m_first, .inl (kZ, 1000, .inl y11))]) [4] rfl
            have hKc := hK.sub (tys' := [(kZ, .boolean)]) [1] rfl
            refine va_calli (va_runS (As := [.ref m_first, .int x14]) (rest := []) ⟨hx, hb, hml, hown, hts⟩ (c_X10_told l D m_first x14 kZ y11) (cwS 2 hts g_X10_edition_X10_told rfl rfl rfl (by decide +kernel) ⟨Nat.le_of_ble_eq_true rfl, Nat.le_of_ble_eq_true rfl⟩) ⟨fun a U g mk q => by obtain ⟨q0, qP, qK⟩ := q; exact ⟨q0, qP, va_K.moved (u := U) (U := U.calling g mk a) (Vm.Alike.refl U.vm) qK⟩, fun U hU hW => ⟨rfl, by rw [hU]; exact hPc, va_K.moved hW.alike hKc⟩⟩ rfl rfl hl.1 rfl (lv_room (Nat.le_of_ble_eq_true rfl)) dX10_edition_72 ⟨Nat.le_of_ble_eq_true rfl, Nat.le_of_ble_eq_true rfl⟩) hS (fun _ _ h => h.elim) (fun _ h => h.elim) (fun r15 u t H1 locs ht hvm hw hB hz1 hk1 hS => ?_)
            have hP := pw_keep hP (fun q hq => hk1 q hq (fun h => h))
            generalize H1 = H at hP hS ⊢
            refine W.widen (k := 0) (n := 0) (Nat.le_of_ble_eq_true rfl) (Nat.le_of_ble_eq_true rfl) ?_
            refine lv_goto (tgt := 84) hx hb dX10_edition_75 (by decide) ?_
            have hP9 := hP.sub (ws' := [(h0, .inr (10, [.ref m_now, .ref m_draft, .ref m_past, .int j_acts, .ref m_images, .ref m_kept, .ref m_tape, .int j_taped, .int j_at, .int j_start, .int j_token, .int j_value, .int j_fault, .int j_place, .int j_latest, .ref m_low, .ref m_high, .ref m_first, .ref m_second, .ref m_lines, .ref m_others, .int j_shiftFirst, .int j_shiftMany, .int j_shiftLow, .int j_shiftHigh])), (m_now, .inl (kI, 192, .inl g_now)), (m_low, .inl (kI, 1000, .inl y7)), (m_high, .inl (kI, 1000, .inl y8)), (m_first, .inl (kZ, 1000, .inl y11))]) [0, 1, 2, 3, 4] rfl
            have hD9 := hD.sub (ws' := [(h0, .inr (10, [.ref m_now, .ref m_draft, .ref m_past, .int j_acts, .ref m_images, .ref m_kept, .ref m_tape, .int j_taped, .int j_at, .int j_start, .int j_token, .int j_value, .int j_fault, .int j_place, .int j_latest, .ref m_low, .ref m_high, .ref m_first, .ref m_second, .ref m_lines, .ref m_others, .int j_shiftFirst, .int j_shiftMany, .int j_shiftLow, .int j_shiftHigh])), (m_now, .inl (kI, 192, .inl g_now)), (m_low, .inl (kI, 1000, .inl y7)), (m_high, .inl (kI, 1000, .inl y8)), (m_first, .inl (kZ, 1000, .inl y11))]) [0, 1, 2, 3, 4] (by decide) rfl
            have hK9 := hK.sub (tys' := [(kI, .int), (kZ, .boolean)]) [0, 1] rfl
            refine W.widen (k := 0) (n := 0) (Nat.le_of_ble_eq_true rfl) (Nat.le_of_ble_eq_true rfl) ?_
            exact W.iret (v := r15) hx hb hr (fun t ht hW => ⟨⟨r15, (), rfl, trivial, y7, y8, y11, by rw [ht]; exact hP9, va_K.moved hW.alike hK9, hD9, hy7, hy8⟩, hS.F ht⟩) hS.2.2 dX10_edition_84
        · have nc9 : i_1.toInt = 1 := pw_eq c9 rfl (by decide)
          refine lv_aload_n hx hb dX10_edition_45 rfl (lv_at hl 0 rfl) ?_
          refine lv_iload_n hx hb dX10_edition_46 rfl (lv_at hl 1 rfl) ?_
          have hPc := hP.sub (ws' := [(h0, .inr (10, [.ref m_now, .ref m_draft, .ref m_past, .int j_acts, .ref m_images, .ref m_kept, .ref m_tape, .int j_taped, .int j_at, .int j_start, .int j_token, .int j_value, .int j_fault, .int j_place, .int j_latest, .ref m_low, .ref m_high, .ref m_first, .ref m_second, .ref m_lines, .ref m_others, .int j_shiftFirst, .int j_shiftMany, .int j_shiftLow, .int j_shiftHigh])), (m_now, .inl (kI, 192, .inl g_now)), (m_low, .inl (kI, 1000, .inl y7))]) [1, 2, 3] rfl
          have hKc := hK.sub (tys' := [(kI, .int)]) [0] rfl
          refine va_calli (va_runV (As := [.int i_0]) (rest := []) ⟨hx, hb, hml, hown, hts⟩ (c_X10_linesWith l D h0 i_0 m_now m_draft m_past j_acts m_images m_kept m_tape j_taped j_at j_start j_token j_value j_fault j_place j_latest m_low m_high m_first m_second m_lines m_others j_shiftFirst j_shiftMany j_shiftLow j_shiftHigh kI g_now y7 (by first | decide | omega) (by first | decide | omega) hg_now hy7) (cwV 1 hts g_X10_edition_X10_linesWith rfl rfl rfl (by decide +kernel) ⟨Nat.le_of_ble_eq_true rfl, Nat.le_of_ble_eq_true rfl⟩) ⟨fun a U g mk q => by obtain ⟨q0, qP, qK⟩ := q; exact ⟨q0, qP, va_K.moved (u := U) (U := U.calling g mk a) (Vm.Alike.refl U.vm) qK⟩, va_recv hKc hPc (ci := 10) (q0 := 0) rfl rfl, fun U hU hW => ⟨rfl, by rw [hU]; exact hPc, va_K.moved hW.alike hKc⟩⟩ rfl rfl hl.1 rfl (lv_room (Nat.le_of_ble_eq_true rfl)) dX10_edition_47 ⟨Nat.le_of_ble_eq_true rfl, Nat.le_of_ble_eq_true rfl⟩) hS (fun _ _ h => h.elim) (fun _ h => h.elim) (fun r16 u t H1 locs ht hvm hw hB hz1 hk1 hS => ?_)
          have hP := pw_keep hP (fun q hq => hk1 q hq (fun h => h))
          generalize H1 = H at hP hS ⊢
          refine W.widen (k := 0) (n := 0) (Nat.le_of_ble_eq_true rfl) (Nat.le_of_ble_eq_true rfl) ?_
          have hP9 := hP.sub (ws' := [(h0, .inr (10, [.ref m_now, .ref m_draft, .ref m_past, .int j_acts, .ref m_images, .ref m_kept, .ref m_tape, .int j_taped, .int j_at, .int j_start, .int j_token, .int j_value, .int j_fault, .int j_place, .int j_latest, .ref m_low, .ref m_high, .ref m_first, .ref m_second, .ref m_lines, .ref m_others, .int j_shiftFirst, .int j_shiftMany, .int j_shiftLow, .int j_shiftHigh])), (m_now, .inl (kI, 192, .inl g_now)), (m_low, .inl (kI, 1000, .inl y7)), (m_high, .inl (kI, 1000, .inl y8)), (m_first, .inl (kZ, 1000, .inl g_first))]) [1, 2, 3, 4, 0] rfl
          have hD9 := hD.sub (ws' := [(h0, .inr (10, [.ref m_now, .ref m_draft, .ref m_past, .int j_acts, .ref m_images, .ref m_kept, .ref m_tape, .int j_taped, .int j_at, .int j_start, .int j_token, .int j_value, .int j_fault, .int j_place, .int j_latest, .ref m_low, .ref m_high, .ref m_first, .ref m_second, .ref m_lines, .ref m_others, .int j_shiftFirst, .int j_shiftMany, .int j_shiftLow, .int j_shiftHigh])), (m_now, .inl (kI, 192, .inl g_now)), (m_low, .inl (kI, 1000, .inl y7)), (m_high, .inl (kI, 1000, .inl y8)), (m_first, .inl (kZ, 1000, .inl g_first))]) [1, 2, 3, 4, 0] (by decide) rfl
          have hK9 := hK.sub (tys' := [(kI, .int), (kZ, .boolean)]) [0, 1] rfl
          refine W.widen (k := 0) (n := 0) (Nat.le_of_ble_eq_true rfl) (Nat.le_of_ble_eq_true rfl) ?_
          exact W.iret (v := r16) hx hb hr (fun t ht hW => ⟨⟨r16, (), rfl, trivial, y7, y8, g_first, by rw [ht]; exact hP9, va_K.moved hW.alike hK9, hD9, hy7, hy8⟩, hS.F ht⟩) hS.2.2 dX10_edition_50
      · have nc5 : i_1.toInt = 0 := pw_eq c5 rfl (by decide)
        refine lv_aload_n hx hb dX10_edition_27 rfl (lv_at hl 0 rfl) ?_
        refine va_get (D := D) (ci := 10) (v := .ref m_now) (C := RX10) (T := TX10) (N := 25) hx hb hts (fun _ h => List.mem_cons_of_mem _ (List.mem_append_right _ h)) hown hK hP 0 rfl rfl 0 (by decide) (hts (.fieldLink RX10 7 "LineCitesModel" "now" "[I") (List.mem_of_getElem? (i := 10) rfl)) (fun _ h9 => h9) rfl dX10_edition_28 ?_
        refine lv_iconst (v := 3) hx hb dX10_edition_31 (by decide) ?_
        refine lv_iload_n hx hb dX10_edition_32 rfl (lv_at hl 1 rfl) ?_
        refine lv_iadd hx hb dX10_edition_33 ?_
        refine lv_topi (fun x17 ex17 => ?_)
        have tx17 : x17.toInt = 3 + i_0.toInt := pw_addX ex17 (by decide) rfl (by omega) (by omega)
        refine va_iald hx hb hK hP 1 0 rfl rfl (vp_in_iff.mpr ⟨by omega, by omega⟩) dX10_edition_34 ?_
        refine lv_topi (fun x18 ex18 => ?_)
        have hP9 := hP.sub (ws' := [(h0, .inr (10, [.ref m_now, .ref m_draft, .ref m_past, .int j_acts, .ref m_images, .ref m_kept, .ref m_tape, .int j_taped, .int j_at, .int j_start, .int j_token, .int j_value, .int j_fault, .int j_place, .int j_latest, .ref m_low, .ref m_high, .ref m_first, .ref m_second, .ref m_lines, .ref m_others, .int j_shiftFirst, .int j_shiftMany, .int j_shiftLow, .int j_shiftHigh])), (m_now, .inl (kI, 192, .inl g_now)), (m_low, .inl (kI, 1000, .inl g_low)), (m_high, .inl (kI, 1000, .inl g_high)), (m_first, .inl (kZ, 1000, .inl g_first))]) [0, 1, 2, 3, 4] rfl
        have hD9 := hD.sub (ws' := [(h0, .inr (10, [.ref m_now, .ref m_draft, .ref m_past, .int j_acts, .ref m_images, .ref m_kept, .ref m_tape, .int j_taped, .int j_at, .int j_start, .int j_token, .int j_value, .int j_fault, .int j_place, .int j_latest, .ref m_low, .ref m_high, .ref m_first, .ref m_second, .ref m_lines, .ref m_others, .int j_shiftFirst, .int j_shiftMany, .int j_shiftLow, .int j_shiftHigh])), (m_now, .inl (kI, 192, .inl g_now)), (m_low, .inl (kI, 1000, .inl g_low)), (m_high, .inl (kI, 1000, .inl g_high)), (m_first, .inl (kZ, 1000, .inl g_first))]) [0, 1, 2, 3, 4] (by decide) rfl
        have hK9 := hK.sub (tys' := [(kI, .int), (kZ, .boolean)]) [0, 1] rfl
        refine W.widen (k := 0) (n := 0) (Nat.le_of_ble_eq_true rfl) (Nat.le_of_ble_eq_true rfl) ?_
        exact W.iret (v := x18) hx hb hr (fun t ht hW => ⟨⟨x18, (), rfl, trivial, g_low, g_high, g_first, by rw [ht]; exact hP9, va_K.moved hW.alike hK9, hD9, hg_low, hg_high⟩, hS.F ht⟩) hS.2.2 dX10_edition_35
    · have nc4 : r3.toInt = 0 := pw_eq c4 rfl (by decide)
      refine lv_ldc hx hb hown (hts (.constant RX10 177 (-1000001)) (List.mem_of_getElem? (i := 14) rfl)) dX10_edition_20 ?_
      have hP9 := hP.sub (ws' := [(h0, .inr (10, [.ref m_now, .ref m_draft, .ref m_past, .int j_acts, .ref m_images, .ref m_kept, .ref m_tape, .int j_taped, .int j_at, .int j_start, .int j_token, .int j_value, .int j_fault, .int j_place, .int j_latest, .ref m_low, .ref m_high, .ref m_first, .ref m_second, .ref m_lines, .ref m_others, .int j_shiftFirst, .int j_shiftMany, .int j_shiftLow, .int j_shiftHigh])), (m_now, .inl (kI, 192, .inl g_now)), (m_low, .inl (kI, 1000, .inl g_low)), (m_high, .inl (kI, 1000, .inl g_high)), (m_first, .inl (kZ, 1000, .inl g_first))]) [0, 1, 2, 3, 4] rfl
      have hD9 := hD.sub (ws' := [(h0, .inr (10, [.ref m_now, .ref m_draft, .ref m_past, .int j_acts, .ref m_images, .ref m_kept, .ref m_tape, .int j_taped, .int j_at, .int j_start, .int j_token, .int j_value, .int j_fault, .int j_place, .int j_latest, .ref m_low, .ref m_high, .ref m_first, .ref m_second, .ref m_lines, .ref m_others, .int j_shiftFirst, .int j_shiftMany, .int j_shiftLow, .int j_shiftHigh])), (m_now, .inl (kI, 192, .inl g_now)), (m_low, .inl (kI, 1000, .inl g_low)), (m_high, .inl (kI, 1000, .inl g_high)), (m_first, .inl (kZ, 1000, .inl g_first))]) [0, 1, 2, 3, 4] (by decide) rfl
      have hK9 := hK.sub (tys' := [(kI, .int), (kZ, .boolean)]) [0, 1] rfl
      refine W.widen (k := 0) (n := 0) (Nat.le_of_ble_eq_true rfl) (Nat.le_of_ble_eq_true rfl) ?_
      exact W.iret (v := (-1000001)) hx hb hr (fun t ht hW => ⟨⟨(-1000001), (), rfl, trivial, g_low, g_high, g_first, by rw [ht]; exact hP9, va_K.moved hW.alike hK9, hD9, hg_low, hg_high⟩, hS.F ht⟩) hS.2.2 dX10_edition_22
def w_X10_number_ : List Cond := .code yX10_number_ cX10_number_ 4 (some .int) :: ([.methodLink RX10 55 yX10_isEdition, .instanceMethod yX10_isEdition, .selects RX10 yX10_isEdition yX10_isEdition, .initialized RX10, .code yX10_isEdition cX10_isEdition 2 (some .boolean), .methodLink RX10 47 yX10_isWork, .instanceMethod yX10_isWork, .selects RX10 yX10_isWork yX10_isWork, .code yX10_isWork cX10_isWork 1 (some .boolean), .fieldLink RX10 7 "LineCitesModel" "now" "[I", .methodLink RX10 51 yX10_in0, .static yX10_in0, .code yX10_in0 cX10_in0 6 (some .boolean), .constant RX10 177 (-1000001), .methodLink RX10 234 yX10_isLine, .instanceMethod yX10_isLine, .selects RX10 yX10_isLine yX10_isLine, .code yX10_isLine cX10_isLine 2 (some .boolean), .methodLink RX10 221 yX10_lays, .instanceMethod yX10_lays, .selects RX10 yX10_lays yX10_lays, .code yX10_lays cX10_lays 9 none, .constant RX10 61 (-1000000), .fieldLink RX10 29 "LineCitesModel" "low" "[I", .fieldLink RX10 32 "LineCitesModel" "high" "[I", .methodLink RX10 66 yX10_stretchOf, .static yX10_stretchOf, .code yX10_stretchOf cX10_stretchOf 7 (some .int), .methodLink RX10 62 yX10_of, .static yX10_of, .code yX10_of cX10_of 4 (some .int), .methodLink RX10 73 yX10_hasNumber, .instanceMethod yX10_hasNumber, .selects RX10 yX10_hasNumber yX10_hasNumber, .code yX10_hasNumber cX10_hasNumber 3 (some .boolean)] ++ wsX100)
set_option maxRecDepth 20000 in
theorem g_X10_number__X10_isEdition : GoodIn w_X10_number_ (wsV RX10 55 RX10 yX10_isEdition w_X10_isEdition) := goodIn_r _ [1, 2, 3, 4, 5, 6, 7, 8, 4, 9, 10, 11, 12, 13, 36, 37, 38, 39, 40, 41, 42, 43, 44, 45, 46, 47, 48, 49, 50, 51, 52, 53, 54, 55, 56, 57, 58, 59, 60] rfl (by decide +kernel)
set_option maxRecDepth 20000 in
theorem g_X10_number__X10_isLine : GoodIn w_X10_number_ (wsV RX10 234 RX10 yX10_isLine w_X10_isLine) := goodIn_r _ [15, 16, 17, 4, 18, 10, 11, 12, 4, 13, 36, 37, 38, 39, 40, 41, 42, 43, 44, 45, 46, 47, 48, 49, 50, 51, 52, 53, 54, 55, 56, 57, 58, 59, 60] rfl (by decide +kernel)
set_option maxRecDepth 20000 in
theorem g_X10_number__X10_in0 : GoodIn w_X10_number_ (wsS RX10 51 yX10_in0 w_X10_in0) := goodIn_r _ [11, 12, 4, 13] rfl (by decide +kernel)
set_option maxRecDepth 20000 in
theorem g_X10_number__X10_lays : GoodIn w_X10_number_ (wsV RX10 221 RX10 yX10_lays w_X10_lays) := goodIn_r _ [19, 20, 21, 4, 22, 10, 23, 24, 25, 26, 27, 4, 28, 29, 30, 31, 11, 12, 13, 36, 37, 38, 39, 40, 41, 42, 43, 44, 45, 46, 47, 48, 49, 50, 51, 52, 53, 54, 55, 56, 57, 58, 59, 60] rfl (by decide +kernel)
set_option maxRecDepth 20000 in
theorem g_X10_number__X10_hasNumber : GoodIn w_X10_number_ (wsV RX10 73 RX10 yX10_hasNumber w_X10_hasNumber) := goodIn_r _ [32, 33, 34, 4, 35, 24, 36, 37, 38, 39, 40, 41, 42, 43, 44, 45, 46, 47, 48, 49, 50, 51, 52, 53, 54, 55, 56, 57, 58, 59, 60] rfl (by decide +kernel)
set_option maxHeartbeats 4000000 in
set_option maxRecDepth 100000 in
theorem c_X10_number_ (l : Launch) (D : va_G) (h0 : Nat) (i_0 : Int32) (i_1 : Int32) (i_2 : Int32) (m_now : Nat) (m_draft : Nat) (m_past : Nat) (j_acts : Int32) (m_images : Nat) (m_kept : Nat) (m_tape : Nat) (j_taped : Int32) (j_at : Int32) (j_start : Int32) (j_token : Int32) (j_value : Int32) (j_fault : Int32) (j_place : Int32) (j_latest : Int32) (m_low : Nat) (m_high : Nat) (m_first : Nat) (m_second : Nat) (m_lines : Nat) (m_others : Nat) (j_shiftFirst : Int32) (j_shiftMany : Int32) (j_shiftLow : Int32) (j_shiftHigh : Int32) (kI : ClassId) (g_now : Nat → Int32) (g_low : Nat → Int32) (g_high : Nat → Int32) (sz : Nat) (hg_now : gV g_now) (hg_low : bP g_low) (hg_high : bP g_high) : Met l yX10_number_ w_X10_number_ ({ frames := 3, cells := 0, slots := 0, locals := 79 }) (va_Pc [.ref h0, .int i_0, .int i_1, .int i_2] (fun U => U.heap.size = sz ∧ va_P D vwCl [(h0, .inr (10, [.ref m_now, .ref m_draft, .ref m_past, .int j_acts, .ref m_images, .ref m_kept, .ref m_tape, .int j_taped, .int j_at, .int j_start, .int j_token, .int j_value, .int j_fault, .int j_place, .int j_latest, .ref m_low, .ref m_high, .ref m_first, .ref m_second, .ref m_lines, .ref m_others, .int j_shiftFirst, .int j_shiftMany, .int j_shiftLow, .int j_shiftHigh])), (m_now, .inl (kI, 192, .inl g_now)), (m_low, .inl (kI, 1000, .inl g_low)), (m_high, .inl (kI, 1000, .inl g_high))] U.heap ∧ va_K D vwCl [(kI, .int)] U ∧ va_D (fun _ => True) [(h0, .inr (10, [.ref m_now, .ref m_draft, .ref m_past, .int j_acts, .ref m_images, .ref m_kept, .ref m_tape, .int j_taped, .int j_at, .int j_start, .int j_token, .int j_value, .int j_fault, .int j_place, .int j_latest, .ref m_low, .ref m_high, .ref m_first, .ref m_second, .ref m_lines, .ref m_others, .int j_shiftFirst, .int j_shiftMany, .int j_shiftLow, .int j_shiftHigh])), (m_now, .inl (kI, 192, .inl g_now)), (m_low, .inl (kI, 1000, .inl g_low)), (m_high, .inl (kI, 1000, .inl g_high))])) (va_Qi (fun (r : Int32) (_ : Unit) => True) (fun (_ : Unit) t => ∃ (n_low : Nat → Int32) (n_high : Nat → Int32), va_P D vwCl [(h0, .inr (10, [.ref m_now, .ref m_draft, .ref m_past, .int j_acts, .ref m_images, .ref m_kept, .ref m_tape, .int j_taped, .int j_at, .int j_start, .int j_token, .int j_value, .int j_fault, .int j_place, .int j_latest, .ref m_low, .ref m_high, .ref m_first, .ref m_second, .ref m_lines, .ref m_others, .int j_shiftFirst, .int j_shiftMany, .int j_shiftLow, .int j_shiftHigh])), (m_now, .inl (kI, 192, .inl g_now)), (m_low, .inl (kI, 1000, .inl n_low)), (m_high, .inl (kI, 1000, .inl n_high))] t.heap ∧ va_K D vwCl [(kI, .int)] t ∧ va_D (va_A [(h0, .inr (10, [.ref m_now, .ref m_draft, .ref m_past, .int j_acts, .ref m_images, .ref m_kept, .ref m_tape, .int j_taped, .int j_at, .int j_start, .int j_token, .int j_value, .int j_fault, .int j_place, .int j_latest, .ref m_low, .ref m_high, .ref m_first, .ref m_second, .ref m_lines, .ref m_others, .int j_shiftFirst, .int j_shiftMany, .int j_shiftLow, .int j_shiftHigh])), (m_now, .inl (kI, 192, .inl g_now)), (m_low, .inl (kI, 1000, .inl g_low)), (m_high, .inl (kI, 1000, .inl g_high))] sz) [(h0, .inr (10, [.ref m_now, .ref m_draft, .ref m_past, .int j_acts, .ref m_images, .ref m_kept, .ref m_tape, .int j_taped, .int j_at, .int j_start, .int j_token, .int j_value, .int j_fault, .int j_place, .int j_latest, .ref m_low, .ref m_high, .ref m_first, .ref m_second, .ref m_lines, .ref m_others, .int j_shiftFirst, .int j_shiftMany, .int j_shiftLow, .int j_shiftHigh])), (m_now, .inl (kI, 192, .inl g_now)), (m_low, .inl (kI, 1000, .inl n_low)), (m_high, .inl (kI, 1000, .inl n_high))] ∧ bP n_low ∧ bP n_high) (va_A [(h0, .inr (10, [.ref m_now, .ref m_draft, .ref m_past, .int j_acts, .ref m_images, .ref m_kept, .ref m_tape, .int j_taped, .int j_at, .int j_start, .int j_token, .int j_value, .int j_fault, .int j_place, .int j_latest, .ref m_low, .ref m_high, .ref m_first, .ref m_second, .ref m_lines, .ref m_others, .int j_shiftFirst, .int j_shiftMany, .int j_shiftLow, .int j_shiftHigh])), (m_now, .inl (kI, 192, .inl g_now)), (m_low, .inl (kI, 1000, .inl g_low)), (m_high, .inl (kI, 1000, .inl g_high))] sz)) 0 0 (va_A [(h0, .inr (10, [.ref m_now, .ref m_draft, .ref m_past, .int j_acts, .ref m_images, .ref m_kept, .ref m_tape, .int j_taped, .int j_at, .int j_start, .int j_token, .int j_value, .int j_fault, .int j_place, .int j_latest, .ref m_low, .ref m_high, .ref m_first, .ref m_second, .ref m_lines, .ref m_others, .int j_shiftFirst, .int j_shiftMany, .int j_shiftLow, .int j_shiftHigh])), (m_now, .inl (kI, 192, .inl g_now)), (m_low, .inl (kI, 1000, .inl g_low)), (m_high, .inl (kI, 1000, .inl g_high))] sz) := by
  refine Met.ofW (cc := cX10_number_) (maxL := 4) (ret := (some .int)) (by decide) rfl ?_
  intro p e s m args below meth c s₁ B hml hv
  obtain ⟨rfl, hsz, hP, hK, hD0⟩ := hv
  have hx := B.exec
  have hb := B.bytes
  have hr := B.returns
  have hts := atoms_spec (ws := w_X10_number_) B.pre
  have hown : s.vm.findClass RX10 = some m.cls := findClass_of_methodNamed B.named
  have hlocks := B.notSynchronized
  subst hsz
  have hD := hD0.self (sz := s.heap.size)
  generalize hAe : va_A [(h0, .inr (10, [.ref m_now, .ref m_draft, .ref m_past, .int j_acts, .ref m_images, .ref m_kept, .ref m_tape, .int j_taped, .int j_at, .int j_start, .int j_token, .int j_value, .int j_fault, .int j_place, .int j_latest, .ref m_low, .ref m_high, .ref m_first, .ref m_second, .ref m_lines, .ref m_others, .int j_shiftFirst, .int j_shiftMany, .int j_shiftLow, .int j_shiftHigh])), (m_now, .inl (kI, 192, .inl g_now)), (m_low, .inl (kI, 1000, .inl g_low)), (m_high, .inl (kI, 1000, .inl g_high))] s.heap.size = A at hD ⊢
  have hA : ∀ q : Nat, s.heap.size ≤ q → A q := fun q h => by rw [← hAe]; exact Or.inr h
  have hS : va_S A s.heap s.heap [] := va_S.rf
  have hP : va_P D vwCl [(h0, .inr (10, [.ref m_now, .ref m_draft, .ref m_past, .int j_acts, .ref m_images, .ref m_kept, .ref m_tape, .int j_taped, .int j_at, .int j_start, .int j_token, .int j_value, .int j_fault, .int j_place, .int j_latest, .ref m_low, .ref m_high, .ref m_first, .ref m_second, .ref m_lines, .ref m_others, .int j_shiftFirst, .int j_shiftMany, .int j_shiftLow, .int j_shiftHigh])), (m_now, .inl (kI, 192, .inl g_now)), (m_low, .inl (kI, 1000, .inl g_low)), (m_high, .inl (kI, 1000, .inl g_high))] s.heap := hP
  have hl := lv_entry ([.ref h0, .int i_0, .int i_1, .int i_2]) (n := 4) (Nat.le_of_ble_eq_true rfl)
  rw [lg_entry_eq]
  generalize (lg_sl ([.ref h0, .int i_0, .int i_1, .int i_2]) ++ List.replicate (4 - (lg_sl ([.ref h0, .int i_0, .int i_1, .int i_2])).length) Slot.unset).toArray = ls at hl ⊢
  have hl : lv_has ls 4 [(0, .ref h0), (1, .int i_0), (2, .int i_1), (3, .int i_2)] := hl
  obtain ⟨H, hHe⟩ : ∃ H : Heap, H = s.heap := ⟨_, rfl⟩
  rw [← hHe] at hP
  have hS : va_S A s.heap H [] := by rw [hHe]; exact hS
  refine pw_heap hHe ?_
  refine lv_aload_n hx hb dX10_number__0 rfl (lv_at hl 0 rfl) ?_
  refine lv_iload_n hx hb dX10_number__1 rfl (lv_at hl 1 rfl) ?_
  have hPc := hP.sub (ws' := [(h0, .inr (10, [.ref m_now, .ref m_draft, .ref m_past, .int j_acts, .ref m_images, .ref m_kept, .ref m_tape, .int j_taped, .int j_at, .int j_start, .int j_token, .int j_value, .int j_fault, .int j_place, .int j_latest, .ref m_low, .ref m_high, .ref m_first, .ref m_second, .ref m_lines, .ref m_others, .int j_shiftFirst, .int j_shiftMany, .int j_shiftLow, .int j_shiftHigh])), (m_now, .inl (kI, 192, .inl g_now))]) [0, 1] rfl
  have hKc := hK.sub (tys' := [(kI, .int)]) [0] rfl
  refine va_calli (va_runV (As := [.int i_0]) (rest := []) ⟨hx, hb, hml, hown, hts⟩ (c_X10_isEdition l D h0 i_0 m_now m_draft m_past j_acts m_images m_kept m_tape j_taped j_at j_start j_token j_value j_fault j_place j_latest m_low m_high m_first m_second m_lines m_others j_shiftFirst j_shiftMany j_shiftLow j_shiftHigh kI g_now hg_now) (cwV 1 hts g_X10_number__X10_isEdition rfl rfl rfl (by decide +kernel) ⟨Nat.le_of_ble_eq_true rfl, Nat.le_of_ble_eq_true rfl⟩) ⟨fun a U g mk q => by obtain ⟨q0, qP, qK⟩ := q; exact ⟨q0, qP, va_K.moved (u := U) (U := U.calling g mk a) (Vm.Alike.refl U.vm) qK⟩, va_recv hKc hPc (ci := 10) (q0 := 0) rfl rfl, fun U hU hW => ⟨rfl, by rw [hU]; exact hPc, va_K.moved hW.alike hKc⟩⟩ rfl rfl hl.1 rfl (lv_room (Nat.le_of_ble_eq_true rfl)) dX10_number__2 ⟨Nat.le_of_ble_eq_true rfl, Nat.le_of_ble_eq_true rfl⟩) hS (fun _ _ h => h.elim) (fun _ h => h.elim) (fun r1 u t H1 locs ht hvm hw hB hz1 hk1 hS => ?_)
  have hP := pw_keep hP (fun q hq => hk1 q hq (fun h => h))
  generalize H1 = H at hP hS ⊢
  refine W.widen (k := 0) (n := 0) (Nat.le_of_ble_eq_true rfl) (Nat.le_of_ble_eq_true rfl) ?_
  have bor1 := hw.1
  have zor1 := pw_boolI bor1
  have hfr1 := hw.2
  refine lv_if_eq (tgt := 26) hx hb dX10_number__5 (by decide) (fun c2 => ?_) (fun c2 => ?_)
  · have nc2 : r1.toInt = 0 := pw_eq c2 rfl (by decide)
    refine lv_ldc hx hb hown (hts (.constant RX10 177 (-1000001)) (List.mem_of_getElem? (i := 14) rfl)) dX10_number__26 ?_
    have hP9 := hP.sub (ws' := [(h0, .inr (10, [.ref m_now, .ref m_draft, .ref m_past, .int j_acts, .ref m_images, .ref m_kept, .ref m_tape, .int j_taped, .int j_at, .int j_start, .int j_token, .int j_value, .int j_fault, .int j_place, .int j_latest, .ref m_low, .ref m_high, .ref m_first, .ref m_second, .ref m_lines, .ref m_others, .int j_shiftFirst, .int j_shiftMany, .int j_shiftLow, .int j_shiftHigh])), (m_now, .inl (kI, 192, .inl g_now)), (m_low, .inl (kI, 1000, .inl g_low)), (m_high, .inl (kI, 1000, .inl g_high))]) [0, 1, 2, 3] rfl
    have hD9 := hD.sub (ws' := [(h0, .inr (10, [.ref m_now, .ref m_draft, .ref m_past, .int j_acts, .ref m_images, .ref m_kept, .ref m_tape, .int j_taped, .int j_at, .int j_start, .int j_token, .int j_value, .int j_fault, .int j_place, .int j_latest, .ref m_low, .ref m_high, .ref m_first, .ref m_second, .ref m_lines, .ref m_others, .int j_shiftFirst, .int j_shiftMany, .int j_shiftLow, .int j_shiftHigh])), (m_now, .inl (kI, 192, .inl g_now)), (m_low, .inl (kI, 1000, .inl g_low)), (m_high, .inl (kI, 1000, .inl g_high))]) [0, 1, 2, 3] (by decide) rfl
    have hK9 := hK.sub (tys' := [(kI, .int)]) [0] rfl
    refine W.widen (k := 0) (n := 0) (Nat.le_of_ble_eq_true rfl) (Nat.le_of_ble_eq_true rfl) ?_
    exact W.iret (v := (-1000001)) hx hb hr (fun t ht hW => ⟨⟨(-1000001), (), rfl, trivial, g_low, g_high, by rw [ht]; exact hP9, va_K.moved hW.alike hK9, hD9, hg_low, hg_high⟩, hS.F ht⟩) hS.2.2 dX10_number__28
  · have nc2 : r1.toInt ≠ 0 := pw_ne c2 rfl (by decide)
    refine lv_aload_n hx hb dX10_number__8 rfl (lv_at hl 0 rfl) ?_
    refine lv_iload_n hx hb dX10_number__9 rfl (lv_at hl 2 rfl) ?_
    have hPc := hP.sub (ws' := [(h0, .inr (10, [.ref m_now, .ref m_draft, .ref m_past, .int j_acts, .ref m_images, .ref m_kept, .ref m_tape, .int j_taped, .int j_at, .int j_start, .int j_token, .int j_value, .int j_fault, .int j_place, .int j_latest, .ref m_low, .ref m_high, .ref m_first, .ref m_second, .ref m_lines, .ref m_others, .int j_shiftFirst, .int j_shiftMany, .int j_shiftLow, .int j_shiftHigh])), (m_now, .inl (kI, 192, .inl g_now))]) [0, 1] rfl
    have hKc := hK.sub (tys' := [(kI, .int)]) [0] rfl
    refine va_calli (va_runV (As := [.int i_1]) (rest := []) ⟨hx, hb, hml, hown, hts⟩ (c_X10_isLine l D h0 i_1 m_now m_draft m_past j_acts m_images m_kept m_tape j_taped j_at j_start j_token j_value j_fault j_place j_latest m_low m_high m_first m_second m_lines m_others j_shiftFirst j_shiftMany j_shiftLow j_shiftHigh kI g_now hg_now) (cwV 1 hts g_X10_number__X10_isLine rfl rfl rfl (by decide +kernel) ⟨Nat.le_of_ble_eq_true rfl, Nat.le_of_ble_eq_true rfl⟩) ⟨fun a U g mk q => by obtain ⟨q0, qP, qK⟩ := q; exact ⟨q0, qP, va_K.moved (u := U) (U := U.calling g mk a) (Vm.Alike.refl U.vm) qK⟩, va_recv hKc hPc (ci := 10) (q0 := 0) rfl rfl, fun U hU hW => ⟨rfl, by rw [hU]; exact hPc, va_K.moved hW.alike hKc⟩⟩ rfl rfl hl.1 rfl (lv_room (Nat.le_of_ble_eq_true rfl)) dX10_number__10 ⟨Nat.le_of_ble_eq_true rfl, Nat.le_of_ble_eq_true rfl⟩) hS (fun _ _ h => h.elim) (fun _ h => h.elim) (fun r3 u t H1 locs ht hvm hw hB hz1 hk1 hS => ?_)
    have hP := pw_keep hP (fun q hq => hk1 q hq (fun h => h))
    generalize H1 = H at hP hS ⊢
    refine W.widen (k := 0) (n := 0) (Nat.le_of_ble_eq_true rfl) (Nat.le_of_ble_eq_true rfl) ?_
    have bor3 := hw.1
    have zor3 := pw_boolI bor3
    have hfr3 := hw.2
    refine lv_if_eq (tgt := 26) hx hb dX10_number__13 (by decide) (fun c4 => ?_) (fun c4 => ?_)
    · have nc4 : r3.toInt = 0 := pw_eq c4 rfl (by decide)
      refine lv_ldc hx hb hown (hts (.constant RX10 177 (-1000001)) (List.mem_of_getElem? (i := 14) rfl)) dX10_number__26 ?_
      have hP9 := hP.sub (ws' := [(h0, .inr (10, [.ref m_now, .ref m_draft, .ref m_past, .int j_acts, .ref m_images, .ref m_kept, .ref m_tape, .int j_taped, .int j_at, .int j_start, .int j_token, .int j_value, .int j_fault, .int j_place, .int j_latest, .ref m_low, .ref m_high, .ref m_first, .ref m_second, .ref m_lines, .ref m_others, .int j_shiftFirst, .int j_shiftMany, .int j_shiftLow, .int j_shiftHigh])), (m_now, .inl (kI, 192, .inl g_now)), (m_low, .inl (kI, 1000, .inl g_low)), (m_high, .inl (kI, 1000, .inl g_high))]) [0, 1, 2, 3] rfl
      have hD9 := hD.sub (ws' := [(h0, .inr (10, [.ref m_now, .ref m_draft, .ref m_past, .int j_acts, .ref m_images, .ref m_kept, .ref m_tape, .int j_taped, .int j_at, .int j_start, .int j_token, .int j_value, .int j_fault, .int j_place, .int j_latest, .ref m_low, .ref m_high, .ref m_first, .ref m_second, .ref m_lines, .ref m_others, .int j_shiftFirst, .int j_shiftMany, .int j_shiftLow, .int j_shiftHigh])), (m_now, .inl (kI, 192, .inl g_now)), (m_low, .inl (kI, 1000, .inl g_low)), (m_high, .inl (kI, 1000, .inl g_high))]) [0, 1, 2, 3] (by decide) rfl
      have hK9 := hK.sub (tys' := [(kI, .int)]) [0] rfl
      refine W.widen (k := 0) (n := 0) (Nat.le_of_ble_eq_true rfl) (Nat.le_of_ble_eq_true rfl) ?_
      exact W.iret (v := (-1000001)) hx hb hr (fun t ht hW => ⟨⟨(-1000001), (), rfl, trivial, g_low, g_high, by rw [ht]; exact hP9, va_K.moved hW.alike hK9, hD9, hg_low, hg_high⟩, hS.F ht⟩) hS.2.2 dX10_number__28
    · have nc4 : r3.toInt ≠ 0 := pw_ne c4 rfl (by decide)
      refine lv_iload_n hx hb dX10_number__16 rfl (lv_at hl 3 rfl) ?_
      refine lv_i2l (v := i_2.toInt64) hx hb dX10_number__17 rfl ?_
      refine lv_lconst (v := 0) hx hb dX10_number__18 (by decide) ?_
      refine lv_lconst (v := 1) hx hb dX10_number__19 (by decide) ?_
      have hPc := hP.sub (ws' := []) [] rfl
      have hKc := hK.sub (tys' := []) [] rfl
      refine va_calli (va_runS (As := [.long i_2.toInt64, .long 0, .long 1]) (rest := []) ⟨hx, hb, hml, hown, hts⟩ (c_X10_in0 l D i_2.toInt64 0 1) (cwS 3 hts g_X10_number__X10_in0 rfl rfl rfl (by decide +kernel) ⟨Nat.le_of_ble_eq_true rfl, Nat.le_of_ble_eq_true rfl⟩) ⟨fun a U g mk q => by obtain ⟨q0, qP, qK⟩ := q; exact ⟨q0, qP, va_K.moved (u := U) (U := U.calling g mk a) (Vm.Alike.refl U.vm) qK⟩, fun U hU hW => ⟨rfl, by rw [hU]; exact hPc, va_K.moved hW.alike hKc⟩⟩ rfl rfl hl.1 rfl (lv_room (Nat.le_of_ble_eq_true rfl)) dX10_number__20 ⟨Nat.le_of_ble_eq_true rfl, Nat.le_of_ble_eq_true rfl⟩) hS (fun _ _ h => h.elim) (fun _ h => h.elim) (fun r5 u t H1 locs ht hvm hw hB hz1 hk1 hS => ?_)
      have hP := pw_keep hP (fun q hq => hk1 q hq (fun h => h))
      generalize H1 = H at hP hS ⊢
      refine W.widen (k := 0) (n := 0) (Nat.le_of_ble_eq_true rfl) (Nat.le_of_ble_eq_true rfl) ?_
      have bor5 := hw.1
      have zor5 := pw_boolI bor5
      have hfr5 := hw.2
      have kl0 : (0 : Int64).toInt = 0 := by decide
      have kl1 : (1 : Int64).toInt = 1 := by decide
      try simp only [Int32.toInt_toInt64] at hfr5
      refine lv_if_ne (tgt := 29) hx hb dX10_number__23 (by decide) (fun c6 => ?_) (fun c6 => ?_)
      · have nc6 : r5.toInt ≠ 0 := pw_ne c6 rfl (by decide)
        refine lv_aload_n hx hb dX10_number__29 rfl (lv_at hl 0 rfl) ?_
        have hPc := hP.sub (ws' := [(h0, .inr (10, [.ref m_now, .ref m_draft, .ref m_past, .int j_acts, .ref m_images, .ref m_kept, .ref m_tape, .int j_taped, .int j_at, .int j_start, .int j_token, .int j_value, .int j_fault, .int j_place, .int j_latest, .ref m_low, .ref m_high, .ref m_first, .ref m_second, .ref m_lines, .ref m_others, .int j_shiftFirst, .int j_shiftMany, .int j_shiftLow, .int j_shiftHigh])), (m_now, .inl (kI, 192, .inl g_now)), (m_low, .inl (kI, 1000, .inl g_low)), (m_high, .inl (kI, 1000, .inl g_high))]) [0, 1, 2, 3] rfl
        have hKc := hK.sub (tys' := [(kI, .int)]) [0] rfl
        have hDc := hD.sub (ws' := [(h0, .inr (10, [.ref m_now, .ref m_draft, .ref m_past, .int j_acts, .ref m_images, .ref m_kept, .ref m_tape, .int j_taped, .int j_at, .int j_start, .int j_token, .int j_value, .int j_fault, .int j_place, .int j_latest, .ref m_low, .ref m_high, .ref m_first, .ref m_second, .ref m_lines, .ref m_others, .int j_shiftFirst, .int j_shiftMany, .int j_shiftLow, .int j_shiftHigh])), (m_now, .inl (kI, 192, .inl g_now)), (m_low, .inl (kI, 1000, .inl g_low)), (m_high, .inl (kI, 1000, .inl g_high))]) [0, 1, 2, 3] (by decide) rfl
        have hFc := va_free (wc := [(h0, .inr (10, [.ref m_now, .ref m_draft, .ref m_past, .int j_acts, .ref m_images, .ref m_kept, .ref m_tape, .int j_taped, .int j_at, .int j_start, .int j_token, .int j_value, .int j_fault, .int j_place, .int j_latest, .ref m_low, .ref m_high, .ref m_first, .ref m_second, .ref m_lines, .ref m_others, .int j_shiftFirst, .int j_shiftMany, .int j_shiftLow, .int j_shiftHigh])), (m_now, .inl (kI, 192, .inl g_now)), (m_low, .inl (kI, 1000, .inl g_low)), (m_high, .inl (kI, 1000, .inl g_high))]) hD hS hA [0, 1, 2, 3] rfl
        refine va_callv (va_runV (As := []) (rest := []) ⟨hx, hb, hml, hown, hts⟩ (c_X10_lays l D h0 m_now m_draft m_past j_acts m_images m_kept m_tape j_taped j_at j_start j_token j_value j_fault j_place j_latest m_low m_high m_first m_second m_lines m_others j_shiftFirst j_shiftMany j_shiftLow j_shiftHigh kI g_now g_low g_high H.size hg_now hg_low hg_high) (cwV 0 hts g_X10_number__X10_lays rfl rfl rfl (by decide +kernel) ⟨Nat.le_of_ble_eq_true rfl, Nat.le_of_ble_eq_true rfl⟩) ⟨fun a U g mk q => by obtain ⟨q0, q1, qP, qK, qD⟩ := q; exact ⟨q0, q1, qP, va_K.moved (u := U) (U := U.calling g mk a) (Vm.Alike.refl U.vm) qK, qD⟩, va_recv hKc hPc (ci := 10) (q0 := 0) rfl rfl, fun U hU hW => ⟨rfl, by rw [hU], by rw [hU]; exact hPc, va_K.moved hW.alike hKc, hDc.weaken (fun _ _ _ _ => trivial)⟩⟩ rfl rfl hl.1 rfl (lv_room (Nat.le_of_ble_eq_true rfl)) dX10_number__30 ⟨Nat.le_of_ble_eq_true rfl, Nat.le_of_ble_eq_true rfl⟩) hS (fun q _ h => hFc q h) hFc (fun u t H1 locs ht hvm hw hB hz1 hk1 hS => ?_)
        obtain ⟨y8, y9, hP1, hK1, hD1, hy8, hy9⟩ := hB
        rw [ht] at hP1
        have hK1 := va_K.moved hvm.symm hK1
        obtain ⟨hP, hD⟩ := va_join (wr := []) (w1 := [(h0, .inr (10, [.ref m_now, .ref m_draft, .ref m_past, .int j_acts, .ref m_images, .ref m_kept, .ref m_tape, .int j_taped, .int j_at, .int j_start, .int j_token, .int j_value, .int j_fault, .int j_place, .int j_latest, .ref m_low, .ref m_high, .ref m_first, .ref m_second, .ref m_lines, .ref m_others, .int j_shiftFirst, .int j_shiftMany, .int j_shiftLow, .int j_shiftHigh])), (m_now, .inl (kI, 192, .inl g_now)), (m_low, .inl (kI, 1000, .inl y8)), (m_high, .inl (kI, 1000, .inl y9))]) hP hD [0, 1, 2, 3] [] rfl rfl (by decide) (by decide) hk1 hFc hP1 hD1
        have hK := (hK.sub (tys' := [(kI, .int)]) [0] rfl).app hK1
        generalize H1 = H at hP hS ⊢
        have hP : va_P D vwCl [(h0, .inr (10, [.ref m_now, .ref m_draft, .ref m_past, .int j_acts, .ref m_images, .ref m_kept, .ref m_tape, .int j_taped, .int j_at, .int j_start, .int j_token, .int j_value, .int j_fault, .int j_place, .int j_latest, .ref m_low, .ref m_high, .ref m_first, .ref m_second, .ref m_lines, .ref m_others, .int j_shiftFirst, .int j_shiftMany, .int j_shiftLow, .int j_shiftHigh])), (m_now, .inl (kI, 192, .inl g_now)), (m_low, .inl (kI, 1000, .inl y8)), (m_high, .inl (kI, 1000, .inl y9))] H := hP
        have hD : va_D A [(h0, .inr (10, [.ref m_now, .ref m_draft, .ref m_past, .int j_acts, .ref m_images, .ref m_kept, .ref m_tape, .int j_taped, .int j_at, .int j_start, .int j_token, .int j_value, .int j_fault, .int j_place, .int j_latest, .ref m_low, .ref m_high, .ref m_first, .ref m_second, .ref m_lines, .ref m_others, .int j_shiftFirst, .int j_shiftMany, .int j_shiftLow, .int j_shiftHigh])), (m_now, .inl (kI, 192, .inl g_now)), (m_low, .inl (kI, 1000, .inl y8)), (m_high, .inl (kI, 1000, .inl y9))] := hD
        have hK : va_K D vwCl [(kI, .int), (kI, .int)] s := hK
        refine W.widen (k := 0) (n := 0) (Nat.le_of_ble_eq_true rfl) (Nat.le_of_ble_eq_true rfl) ?_
        refine lv_aload_n hx hb dX10_number__33 rfl (lv_at hl 0 rfl) ?_
        refine lv_iload_n hx hb dX10_number__34 rfl (lv_at hl 1 rfl) ?_
        refine lv_iload_n hx hb dX10_number__35 rfl (lv_at hl 2 rfl) ?_
        have hPc := hP.sub (ws' := [(h0, .inr (10, [.ref m_now, .ref m_draft, .ref m_past, .int j_acts, .ref m_images, .ref m_kept, .ref m_tape, .int j_taped, .int j_at, .int j_start, .int j_token, .int j_value, .int j_fault, .int j_place, .int j_latest, .ref m_low, .ref m_high, .ref m_first, .ref m_second, .ref m_lines, .ref m_others, .int j_shiftFirst, .int j_shiftMany, .int j_shiftLow, .int j_shiftHigh])), (m_low, .inl (kI, 1000, .inl y8))]) [0, 2] rfl
        have hKc := hK.sub (tys' := [(kI, .int)]) [0] rfl
        refine va_calli (va_runV (As := [.int i_0, .int i_1]) (rest := []) ⟨hx, hb, hml, hown, hts⟩ (c_X10_hasNumber l D h0 i_0 i_1 m_now m_draft m_past j_acts m_images m_kept m_tape j_taped j_at j_start j_token j_value j_fault j_place j_latest m_low m_high m_first m_second m_lines m_others j_shiftFirst j_shiftMany j_shiftLow j_shiftHigh kI y8 (by first | decide | omega) (by first | decide | omega) (by first | decide | omega) (by first | decide | omega) hy8) (cwV 2 hts g_X10_number__X10_hasNumber rfl rfl rfl (by decide +kernel) ⟨Nat.le_of_ble_eq_true rfl, Nat.le_of_ble_eq_true rfl⟩) ⟨fun a U g mk q => by obtain ⟨q0, qP, qK⟩ := q; exact ⟨q0, qP, va_K.moved (u := U) (U := U.calling g mk a) (Vm.Alike.refl U.vm) qK⟩, va_recv hKc hPc (ci := 10) (q0 := 0) rfl rfl, fun U hU hW => ⟨rfl, by rw [hU]; exact hPc, va_K.moved hW.alike hKc⟩⟩ rfl rfl hl.1 rfl (lv_room (Nat.le_of_ble_eq_true rfl)) dX10_number__36 ⟨Nat.le_of_ble_eq_true rfl, Nat.le_of_ble_eq_true rfl⟩) hS (fun _ _ h => h.elim) (fun _ h => h.elim) (fun r10 u t H1 locs ht hvm hw hB hz1 hk1 hS => ?_)
        have hP := pw_keep hP (fun q hq => hk1 q hq (fun h => h))
        generalize H1 = H at hP hS ⊢
        refine W.widen (k := 0) (n := 0) (Nat.le_of_ble_eq_true rfl) (Nat.le_of_ble_eq_true rfl) ?_
        have bor10 := hw.1
        have zor10 := pw_boolI bor10
        refine lv_if_ne (tgt := 45) hx hb dX10_number__39 (by decide) (fun c11 => ?_) (fun c11 => ?_)
        · have nc11 : r10.toInt ≠ 0 := pw_ne c11 rfl (by decide)
          refine lv_iload_n hx hb dX10_number__45 rfl (lv_at hl 3 rfl) ?_
          refine lv_if_ne (tgt := 64) hx hb dX10_number__46 (by decide) (fun c12 => ?_) (fun c12 => ?_)
          · have nc12 : i_2.toInt ≠ 0 := pw_ne c12 rfl (by decide)
            refine lv_aload_n hx hb dX10_number__64 rfl (lv_at hl 0 rfl) ?_
            refine va_get (D := D) (ci := 10) (v := .ref m_high) (C := RX10) (T := TX10) (N := 25) hx hb hts (fun _ h => List.mem_cons_of_mem _ (List.mem_append_right _ h)) hown hK hP 0 rfl rfl 16 (by decide) (hts (.fieldLink RX10 32 "LineCitesModel" "high" "[I") (List.mem_of_getElem? (i := 25) rfl)) (fun _ h9 => h9) rfl dX10_number__65 ?_
            refine lv_sipush (v := 200) hx hb dX10_number__68 (by decide) ?_
            refine lv_iload_n hx hb dX10_number__71 rfl (lv_at hl 1 rfl) ?_
            refine lv_imul hx hb dX10_number__72 ?_
            refine lv_topi (fun x13 ex13 => ?_)
            have tx13 : x13.toInt = 200 * i_0.toInt := pw_mulX ex13 (by decide) rfl (by omega) (by omega)
            refine lv_iload_n hx hb dX10_number__73 rfl (lv_at hl 2 rfl) ?_
            refine lv_iadd hx hb dX10_number__74 ?_
            refine lv_topi (fun x14 ex14 => ?_)
            have tx14 : x14.toInt = x13.toInt + i_1.toInt := pw_addX ex14 rfl rfl (by omega) (by omega)
            refine va_iald hx hb hK hP 3 0 rfl rfl (vp_in_iff.mpr ⟨by omega, by omega⟩) dX10_number__75 ?_
            refine lv_topi (fun x15 ex15 => ?_)
            have nx15 : 0 ≤ x15.toInt ∧ x15.toInt ≤ 999 := bP_at hy9 ex15
            have hP9 := hP.sub (ws' := [(h0, .inr (10, [.ref m_now, .ref m_draft, .ref m_past, .int j_acts, .ref m_images, .ref m_kept, .ref m_tape, .int j_taped, .int j_at, .int j_start, .int j_token, .int j_value, .int j_fault, .int j_place, .int j_latest, .ref m_low, .ref m_high, .ref m_first, .ref m_second, .ref m_lines, .ref m_others, .int j_shiftFirst, .int j_shiftMany, .int j_shiftLow, .int j_shiftHigh])), (m_now, .inl (kI, 192, .inl g_now)), (m_low, .inl (kI, 1000, .inl y8)), (m_high, .inl (kI, 1000, .inl y9))]) [0, 1, 2, 3] rfl
            have hD9 := hD.sub (ws' := [(h0, .inr (10, [.ref m_now, .ref m_draft, .ref m_past, .int j_acts, .ref m_images, .ref m_kept, .ref m_tape, .int j_taped, .int j_at, .int j_start, .int j_token, .int j_value, .int j_fault, .int j_place, .int j_latest, .ref m_low, .ref m_high, .ref m_first, .ref m_second, .ref m_lines, .ref m_others, .int j_shiftFirst, .int j_shiftMany, .int j_shiftLow, .int j_shiftHigh])), (m_now, .inl (kI, 192, .inl g_now)), (m_low, .inl (kI, 1000, .inl y8)), (m_high, .inl (kI, 1000, .inl y9))]) [0, 1, 2, 3] (by decide) rfl
            have hK9 := hK.sub (tys' := [(kI, .int)]) [0] rfl
            refine W.widen (k := 0) (n := 0) (Nat.le_of_ble_eq_true rfl) (Nat.le_of_ble_eq_true rfl) ?_
            exact W.iret (v := x15) hx hb hr (fun t ht hW => ⟨⟨x15, (), rfl, trivial, y8, y9, by rw [ht]; exact hP9, va_K.moved hW.alike hK9, hD9, hy8, hy9⟩, hS.F ht⟩) hS.2.2 dX10_number__76
          · have nc12 : i_2.toInt = 0 := pw_eq c12 rfl (by decide)
            refine lv_aload_n hx hb dX10_number__49 rfl (lv_at hl 0 rfl) ?_
            refine va_get (D := D) (ci := 10) (v := .ref m_low) (C := RX10) (T := TX10) (N := 25) hx hb hts (fun _ h => List.mem_cons_of_mem _ (List.mem_append_right _ h)) hown hK hP 0 rfl rfl 15 (by decide) (hts (.fieldLink RX10 29 "LineCitesModel" "low" "[I") (List.mem_of_getElem? (i := 24) rfl)) (fun _ h9 => h9) rfl dX10_number__50 ?_
            refine lv_sipush (v := 200) hx hb dX10_number__53 (by decide) ?_
            refine lv_iload_n hx hb dX10_number__56 rfl (lv_at hl 1 rfl) ?_
            refine lv_imul hx hb dX10_number__57 ?_
            refine lv_topi (fun x16 ex16 => ?_)
            have tx16 : x16.toInt = 200 * i_0.toInt := pw_mulX ex16 (by decide) rfl (by omega) (by omega)
            refine lv_iload_n hx hb dX10_number__58 rfl (lv_at hl 2 rfl) ?_
            refine lv_iadd hx hb dX10_number__59 ?_
            refine lv_topi (fun x17 ex17 => ?_)
            have tx17 : x17.toInt = x16.toInt + i_1.toInt := pw_addX ex17 rfl rfl (by omega) (by omega)
            refine va_iald hx hb hK hP 2 0 rfl rfl (vp_in_iff.mpr ⟨by omega, by omega⟩) dX10_number__60 ?_
            refine lv_topi (fun x18 ex18 => ?_)
            have nx18 : 0 ≤ x18.toInt ∧ x18.toInt ≤ 999 := bP_at hy8 ex18
            refine lv_goto (tgt := 76) hx hb dX10_number__61 (by decide) ?_
            have hP9 := hP.sub (ws' := [(h0, .inr (10, [.ref m_now, .ref m_draft, .ref m_past, .int j_acts, .ref m_images, .ref m_kept, .ref m_tape, .int j_taped, .int j_at, .int j_start, .int j_token, .int j_value, .int j_fault, .int j_place, .int j_latest, .ref m_low, .ref m_high, .ref m_first, .ref m_second, .ref m_lines, .ref m_others, .int j_shiftFirst, .int j_shiftMany, .int j_shiftLow, .int j_shiftHigh])), (m_now, .inl (kI, 192, .inl g_now)), (m_low, .inl (kI, 1000, .inl y8)), (m_high, .inl (kI, 1000, .inl y9))]) [0, 1, 2, 3] rfl
            have hD9 := hD.sub (ws' := [(h0, .inr (10, [.ref m_now, .ref m_draft, .ref m_past, .int j_acts, .ref m_images, .ref m_kept, .ref m_tape, .int j_taped, .int j_at, .int j_start, .int j_token, .int j_value, .int j_fault, .int j_place, .int j_latest, .ref m_low, .ref m_high, .ref m_first, .ref m_second, .ref m_lines, .ref m_others, .int j_shiftFirst, .int j_shiftMany, .int j_shiftLow, .int j_shiftHigh])), (m_now, .inl (kI, 192, .inl g_now)), (m_low, .inl (kI, 1000, .inl y8)), (m_high, .inl (kI, 1000, .inl y9))]) [0, 1, 2, 3] (by decide) rfl
            have hK9 := hK.sub (tys' := [(kI, .int)]) [0] rfl
            refine W.widen (k := 0) (n := 0) (Nat.le_of_ble_eq_true rfl) (Nat.le_of_ble_eq_true rfl) ?_
            exact W.iret (v := x18) hx hb hr (fun t ht hW => ⟨⟨x18, (), rfl, trivial, y8, y9, by rw [ht]; exact hP9, va_K.moved hW.alike hK9, hD9, hy8, hy9⟩, hS.F ht⟩) hS.2.2 dX10_number__76
        · have nc11 : r10.toInt = 0 := pw_eq c11 rfl (by decide)
          refine lv_ldc hx hb hown (hts (.constant RX10 61 (-1000000)) (List.mem_of_getElem? (i := 23) rfl)) dX10_number__42 ?_
          have hP9 := hP.sub (ws' := [(h0, .inr (10, [.ref m_now, .ref m_draft, .ref m_past, .int j_acts, .ref m_images, .ref m_kept, .ref m_tape, .int j_taped, .int j_at, .int j_start, .int j_token, .int j_value, .int j_fault, .int j_place, .int j_latest, .ref m_low, .ref m_high, .ref m_first, .ref m_second, .ref m_lines, .ref m_others, .int j_shiftFirst, .int j_shiftMany, .int j_shiftLow, .int j_shiftHigh])), (m_now, .inl (kI, 192, .inl g_now)), (m_low, .inl (kI, 1000, .inl y8)), (m_high, .inl (kI, 1000, .inl y9))]) [0, 1, 2, 3] rfl
          have hD9 := hD.sub (ws' := [(h0, .inr (10, [.ref m_now, .ref m_draft, .ref m_past, .int j_acts, .ref m_images, .ref m_kept, .ref m_tape, .int j_taped, .int j_at, .int j_start, .int j_token, .int j_value, .int j_fault, .int j_place, .int j_latest, .ref m_low, .ref m_high, .ref m_first, .ref m_second, .ref m_lines, .ref m_others, .int j_shiftFirst, .int j_shiftMany, .int j_shiftLow, .int j_shiftHigh])), (m_now, .inl (kI, 192, .inl g_now)), (m_low, .inl (kI, 1000, .inl y8)), (m_high, .inl (kI, 1000, .inl y9))]) [0, 1, 2, 3] (by decide) rfl
          have hK9 := hK.sub (tys' := [(kI, .int)]) [0] rfl
          refine W.widen (k := 0) (n := 0) (Nat.le_of_ble_eq_true rfl) (Nat.le_of_ble_eq_true rfl) ?_
          exact W.iret (v := (-1000000)) hx hb hr (fun t ht hW => ⟨⟨(-1000000), (), rfl, trivial, y8, y9, by rw [ht]; exact hP9, va_K.moved hW.alike hK9, hD9, hy8, hy9⟩, hS.F ht⟩) hS.2.2 dX10_number__44
      · have nc6 : r5.toInt = 0 := pw_eq c6 rfl (by decide)
        refine lv_ldc hx hb hown (hts (.constant RX10 177 (-1000001)) (List.mem_of_getElem? (i := 14) rfl)) dX10_number__26 ?_
        have hP9 := hP.sub (ws' := [(h0, .inr (10, [.ref m_now, .ref m_draft, .ref m_past, .int j_acts, .ref m_images, .ref m_kept, .ref m_tape, .int j_taped, .int j_at, .int j_start, .int j_token, .int j_value, .int j_fault, .int j_place, .int j_latest, .ref m_low, .ref m_high, .ref m_first, .ref m_second, .ref m_lines, .ref m_others, .int j_shiftFirst, .int j_shiftMany, .int j_shiftLow, .int j_shiftHigh])), (m_now, .inl (kI, 192, .inl g_now)), (m_low, .inl (kI, 1000, .inl g_low)), (m_high, .inl (kI, 1000, .inl g_high))]) [0, 1, 2, 3] rfl
        have hD9 := hD.sub (ws' := [(h0, .inr (10, [.ref m_now, .ref m_draft, .ref m_past, .int j_acts, .ref m_images, .ref m_kept, .ref m_tape, .int j_taped, .int j_at, .int j_start, .int j_token, .int j_value, .int j_fault, .int j_place, .int j_latest, .ref m_low, .ref m_high, .ref m_first, .ref m_second, .ref m_lines, .ref m_others, .int j_shiftFirst, .int j_shiftMany, .int j_shiftLow, .int j_shiftHigh])), (m_now, .inl (kI, 192, .inl g_now)), (m_low, .inl (kI, 1000, .inl g_low)), (m_high, .inl (kI, 1000, .inl g_high))]) [0, 1, 2, 3] (by decide) rfl
        have hK9 := hK.sub (tys' := [(kI, .int)]) [0] rfl
        refine W.widen (k := 0) (n := 0) (Nat.le_of_ble_eq_true rfl) (Nat.le_of_ble_eq_true rfl) ?_
        exact W.iret (v := (-1000001)) hx hb hr (fun t ht hW => ⟨⟨(-1000001), (), rfl, trivial, g_low, g_high, by rw [ht]; exact hP9, va_K.moved hW.alike hK9, hD9, hg_low, hg_high⟩, hS.F ht⟩) hS.2.2 dX10_number__28
def w_X10_meant : List Cond := .code yX10_meant cX10_meant 6 (some .int) :: ([.methodLink RX10 55 yX10_isEdition, .instanceMethod yX10_isEdition, .selects RX10 yX10_isEdition yX10_isEdition, .initialized RX10, .code yX10_isEdition cX10_isEdition 2 (some .boolean), .methodLink RX10 47 yX10_isWork, .instanceMethod yX10_isWork, .selects RX10 yX10_isWork yX10_isWork, .code yX10_isWork cX10_isWork 1 (some .boolean), .fieldLink RX10 7 "LineCitesModel" "now" "[I", .methodLink RX10 51 yX10_in0, .static yX10_in0, .code yX10_in0 cX10_in0 6 (some .boolean), .constant RX10 177 (-1000001), .methodLink RX10 145 yX10_isNumber, .static yX10_isNumber, .code yX10_isNumber cX10_isNumber 1 (some .boolean), .constantLong RX10 59 (999), .constantLong RX10 211 (3), .constantLong RX10 258 (9), .methodLink RX10 221 yX10_lays, .instanceMethod yX10_lays, .selects RX10 yX10_lays yX10_lays, .code yX10_lays cX10_lays 9 none, .constant RX10 61 (-1000000), .fieldLink RX10 29 "LineCitesModel" "low" "[I", .fieldLink RX10 32 "LineCitesModel" "high" "[I", .methodLink RX10 66 yX10_stretchOf, .static yX10_stretchOf, .code yX10_stretchOf cX10_stretchOf 7 (some .int), .methodLink RX10 62 yX10_of, .static yX10_of, .code yX10_of cX10_of 4 (some .int), .methodLink RX10 69 yX10_isMeant, .instanceMethod yX10_isMeant, .selects RX10 yX10_isMeant yX10_isMeant, .code yX10_isMeant cX10_isMeant 4 (some .boolean), .methodLink RX10 239 yX10_meantBy, .instanceMethod yX10_meantBy, .selects RX10 yX10_meantBy yX10_meantBy, .code yX10_meantBy cX10_meantBy 8 (some .int)] ++ wsX100)
set_option maxRecDepth 20000 in
theorem g_X10_meant_X10_isEdition : GoodIn w_X10_meant (wsV RX10 55 RX10 yX10_isEdition w_X10_isEdition) := goodIn_r _ [1, 2, 3, 4, 5, 6, 7, 8, 4, 9, 10, 11, 12, 13, 42, 43, 44, 45, 46, 47, 48, 49, 50, 51, 52, 53, 54, 55, 56, 57, 58, 59, 60, 61, 62, 63, 64, 65, 66] rfl (by decide +kernel)
set_option maxRecDepth 20000 in
theorem g_X10_meant_X10_isNumber : GoodIn w_X10_meant (wsS RX10 145 yX10_isNumber w_X10_isNumber) := goodIn_r _ [15, 16, 4, 17, 18, 11, 12, 4, 13] rfl (by decide +kernel)
set_option maxRecDepth 20000 in
theorem g_X10_meant_X10_in0 : GoodIn w_X10_meant (wsS RX10 51 yX10_in0 w_X10_in0) := goodIn_r _ [11, 12, 4, 13] rfl (by decide +kernel)
set_option maxRecDepth 20000 in
theorem g_X10_meant_X10_lays : GoodIn w_X10_meant (wsV RX10 221 RX10 yX10_lays w_X10_lays) := goodIn_r _ [21, 22, 23, 4, 24, 10, 25, 26, 27, 28, 29, 4, 30, 31, 32, 33, 11, 12, 13, 42, 43, 44, 45, 46, 47, 48, 49, 50, 51, 52, 53, 54, 55, 56, 57, 58, 59, 60, 61, 62, 63, 64, 65, 66] rfl (by decide +kernel)
set_option maxRecDepth 20000 in
theorem g_X10_meant_X10_isMeant : GoodIn w_X10_meant (wsV RX10 69 RX10 yX10_isMeant w_X10_isMeant) := goodIn_r _ [34, 35, 36, 4, 37, 26, 27, 42, 43, 44, 45, 46, 47, 48, 49, 50, 51, 52, 53, 54, 55, 56, 57, 58, 59, 60, 61, 62, 63, 64, 65, 66] rfl (by decide +kernel)
set_option maxRecDepth 20000 in
theorem g_X10_meant_X10_meantBy : GoodIn w_X10_meant (wsV RX10 239 RX10 yX10_meantBy w_X10_meantBy) := goodIn_r _ [38, 39, 40, 4, 41, 25, 10, 34, 35, 36, 4, 37, 26, 27, 42, 43, 44, 45, 46, 47, 48, 49, 50, 51, 52, 53, 54, 55, 56, 57, 58, 59, 60, 61, 62, 63, 64, 65, 66] rfl (by decide +kernel)
set_option maxHeartbeats 4000000 in
set_option maxRecDepth 100000 in
theorem c_X10_meant (l : Launch) (D : va_G) (h0 : Nat) (i_0 : Int32) (i_1 : Int32) (i_2 : Int32) (m_now : Nat) (m_draft : Nat) (m_past : Nat) (j_acts : Int32) (m_images : Nat) (m_kept : Nat) (m_tape : Nat) (j_taped : Int32) (j_at : Int32) (j_start : Int32) (j_token : Int32) (j_value : Int32) (j_fault : Int32) (j_place : Int32) (j_latest : Int32) (m_low : Nat) (m_high : Nat) (m_first : Nat) (m_second : Nat) (m_lines : Nat) (m_others : Nat) (j_shiftFirst : Int32) (j_shiftMany : Int32) (j_shiftLow : Int32) (j_shiftHigh : Int32) (kI : ClassId) (g_now : Nat → Int32) (g_low : Nat → Int32) (g_high : Nat → Int32) (sz : Nat) (hg_now : gV g_now) (hg_low : bP g_low) (hg_high : bP g_high) : Met l yX10_meant w_X10_meant ({ frames := 3, cells := 0, slots := 0, locals := 79 }) (va_Pc [.ref h0, .int i_0, .int i_1, .int i_2] (fun U => U.heap.size = sz ∧ va_P D vwCl [(h0, .inr (10, [.ref m_now, .ref m_draft, .ref m_past, .int j_acts, .ref m_images, .ref m_kept, .ref m_tape, .int j_taped, .int j_at, .int j_start, .int j_token, .int j_value, .int j_fault, .int j_place, .int j_latest, .ref m_low, .ref m_high, .ref m_first, .ref m_second, .ref m_lines, .ref m_others, .int j_shiftFirst, .int j_shiftMany, .int j_shiftLow, .int j_shiftHigh])), (m_now, .inl (kI, 192, .inl g_now)), (m_low, .inl (kI, 1000, .inl g_low)), (m_high, .inl (kI, 1000, .inl g_high))] U.heap ∧ va_K D vwCl [(kI, .int)] U ∧ va_D (fun _ => True) [(h0, .inr (10, [.ref m_now, .ref m_draft, .ref m_past, .int j_acts, .ref m_images, .ref m_kept, .ref m_tape, .int j_taped, .int j_at, .int j_start, .int j_token, .int j_value, .int j_fault, .int j_place, .int j_latest, .ref m_low, .ref m_high, .ref m_first, .ref m_second, .ref m_lines, .ref m_others, .int j_shiftFirst, .int j_shiftMany, .int j_shiftLow, .int j_shiftHigh])), (m_now, .inl (kI, 192, .inl g_now)), (m_low, .inl (kI, 1000, .inl g_low)), (m_high, .inl (kI, 1000, .inl g_high))])) (va_Qi (fun (r : Int32) (_ : Unit) => True) (fun (_ : Unit) t => ∃ (n_low : Nat → Int32) (n_high : Nat → Int32), va_P D vwCl [(h0, .inr (10, [.ref m_now, .ref m_draft, .ref m_past, .int j_acts, .ref m_images, .ref m_kept, .ref m_tape, .int j_taped, .int j_at, .int j_start, .int j_token, .int j_value, .int j_fault, .int j_place, .int j_latest, .ref m_low, .ref m_high, .ref m_first, .ref m_second, .ref m_lines, .ref m_others, .int j_shiftFirst, .int j_shiftMany, .int j_shiftLow, .int j_shiftHigh])), (m_now, .inl (kI, 192, .inl g_now)), (m_low, .inl (kI, 1000, .inl n_low)), (m_high, .inl (kI, 1000, .inl n_high))] t.heap ∧ va_K D vwCl [(kI, .int)] t ∧ va_D (va_A [(h0, .inr (10, [.ref m_now, .ref m_draft, .ref m_past, .int j_acts, .ref m_images, .ref m_kept, .ref m_tape, .int j_taped, .int j_at, .int j_start, .int j_token, .int j_value, .int j_fault, .int j_place, .int j_latest, .ref m_low, .ref m_high, .ref m_first, .ref m_second, .ref m_lines, .ref m_others, .int j_shiftFirst, .int j_shiftMany, .int j_shiftLow, .int j_shiftHigh])), (m_now, .inl (kI, 192, .inl g_now)), (m_low, .inl (kI, 1000, .inl g_low)), (m_high, .inl (kI, 1000, .inl g_high))] sz) [(h0, .inr (10, [.ref m_now, .ref m_draft, .ref m_past, .int j_acts, .ref m_images, .ref m_kept, .ref m_tape, .int j_taped, .int j_at, .int j_start, .int j_token, .int j_value, .int j_fault, .int j_place, .int j_latest, .ref m_low, .ref m_high, .ref m_first, .ref m_second, .ref m_lines, .ref m_others, .int j_shiftFirst, .int j_shiftMany, .int j_shiftLow, .int j_shiftHigh])), (m_now, .inl (kI, 192, .inl g_now)), (m_low, .inl (kI, 1000, .inl n_low)), (m_high, .inl (kI, 1000, .inl n_high))] ∧ bP n_low ∧ bP n_high) (va_A [(h0, .inr (10, [.ref m_now, .ref m_draft, .ref m_past, .int j_acts, .ref m_images, .ref m_kept, .ref m_tape, .int j_taped, .int j_at, .int j_start, .int j_token, .int j_value, .int j_fault, .int j_place, .int j_latest, .ref m_low, .ref m_high, .ref m_first, .ref m_second, .ref m_lines, .ref m_others, .int j_shiftFirst, .int j_shiftMany, .int j_shiftLow, .int j_shiftHigh])), (m_now, .inl (kI, 192, .inl g_now)), (m_low, .inl (kI, 1000, .inl g_low)), (m_high, .inl (kI, 1000, .inl g_high))] sz)) 0 0 (va_A [(h0, .inr (10, [.ref m_now, .ref m_draft, .ref m_past, .int j_acts, .ref m_images, .ref m_kept, .ref m_tape, .int j_taped, .int j_at, .int j_start, .int j_token, .int j_value, .int j_fault, .int j_place, .int j_latest, .ref m_low, .ref m_high, .ref m_first, .ref m_second, .ref m_lines, .ref m_others, .int j_shiftFirst, .int j_shiftMany, .int j_shiftLow, .int j_shiftHigh])), (m_now, .inl (kI, 192, .inl g_now)), (m_low, .inl (kI, 1000, .inl g_low)), (m_high, .inl (kI, 1000, .inl g_high))] sz) := by
  refine Met.ofW (cc := cX10_meant) (maxL := 6) (ret := (some .int)) (by decide) rfl ?_
  intro p e s m args below meth c s₁ B hml hv
  obtain ⟨rfl, hsz, hP, hK, hD0⟩ := hv
  have hx := B.exec
  have hb := B.bytes
  have hr := B.returns
  have hts := atoms_spec (ws := w_X10_meant) B.pre
  have hown : s.vm.findClass RX10 = some m.cls := findClass_of_methodNamed B.named
  have hlocks := B.notSynchronized
  subst hsz
  have hD := hD0.self (sz := s.heap.size)
  generalize hAe : va_A [(h0, .inr (10, [.ref m_now, .ref m_draft, .ref m_past, .int j_acts, .ref m_images, .ref m_kept, .ref m_tape, .int j_taped, .int j_at, .int j_start, .int j_token, .int j_value, .int j_fault, .int j_place, .int j_latest, .ref m_low, .ref m_high, .ref m_first, .ref m_second, .ref m_lines, .ref m_others, .int j_shiftFirst, .int j_shiftMany, .int j_shiftLow, .int j_shiftHigh])), (m_now, .inl (kI, 192, .inl g_now)), (m_low, .inl (kI, 1000, .inl g_low)), (m_high, .inl (kI, 1000, .inl g_high))] s.heap.size = A at hD ⊢
  have hA : ∀ q : Nat, s.heap.size ≤ q → A q := fun q h => by rw [← hAe]; exact Or.inr h
  have hS : va_S A s.heap s.heap [] := va_S.rf
  have hP : va_P D vwCl [(h0, .inr (10, [.ref m_now, .ref m_draft, .ref m_past, .int j_acts, .ref m_images, .ref m_kept, .ref m_tape, .int j_taped, .int j_at, .int j_start, .int j_token, .int j_value, .int j_fault, .int j_place, .int j_latest, .ref m_low, .ref m_high, .ref m_first, .ref m_second, .ref m_lines, .ref m_others, .int j_shiftFirst, .int j_shiftMany, .int j_shiftLow, .int j_shiftHigh])), (m_now, .inl (kI, 192, .inl g_now)), (m_low, .inl (kI, 1000, .inl g_low)), (m_high, .inl (kI, 1000, .inl g_high))] s.heap := hP
  have hl := lv_entry ([.ref h0, .int i_0, .int i_1, .int i_2]) (n := 6) (Nat.le_of_ble_eq_true rfl)
  rw [lg_entry_eq]
  generalize (lg_sl ([.ref h0, .int i_0, .int i_1, .int i_2]) ++ List.replicate (6 - (lg_sl ([.ref h0, .int i_0, .int i_1, .int i_2])).length) Slot.unset).toArray = ls at hl ⊢
  have hl : lv_has ls 6 [(0, .ref h0), (1, .int i_0), (2, .int i_1), (3, .int i_2)] := hl
  obtain ⟨H, hHe⟩ : ∃ H : Heap, H = s.heap := ⟨_, rfl⟩
  rw [← hHe] at hP
  have hS : va_S A s.heap H [] := by rw [hHe]; exact hS
  refine pw_heap hHe ?_
  refine lv_aload_n hx hb dX10_meant_0 rfl (lv_at hl 0 rfl) ?_
  refine lv_iload_n hx hb dX10_meant_1 rfl (lv_at hl 1 rfl) ?_
  have hPc := hP.sub (ws' := [(h0, .inr (10, [.ref m_now, .ref m_draft, .ref m_past, .int j_acts, .ref m_images, .ref m_kept, .ref m_tape, .int j_taped, .int j_at, .int j_start, .int j_token, .int j_value, .int j_fault, .int j_place, .int j_latest, .ref m_low, .ref m_high, .ref m_first, .ref m_second, .ref m_lines, .ref m_others, .int j_shiftFirst, .int j_shiftMany, .int j_shiftLow, .int j_shiftHigh])), (m_now, .inl (kI, 192, .inl g_now))]) [0, 1] rfl
  have hKc := hK.sub (tys' := [(kI, .int)]) [0] rfl
  refine va_calli (va_runV (As := [.int i_0]) (rest := []) ⟨hx, hb, hml, hown, hts⟩ (c_X10_isEdition l D h0 i_0 m_now m_draft m_past j_acts m_images m_kept m_tape j_taped j_at j_start j_token j_value j_fault j_place j_latest m_low m_high m_first m_second m_lines m_others j_shiftFirst j_shiftMany j_shiftLow j_shiftHigh kI g_now hg_now) (cwV 1 hts g_X10_meant_X10_isEdition rfl rfl rfl (by decide +kernel) ⟨Nat.le_of_ble_eq_true rfl, Nat.le_of_ble_eq_true rfl⟩) ⟨fun a U g mk q => by obtain ⟨q0, qP, qK⟩ := q; exact ⟨q0, qP, va_K.moved (u := U) (U := U.calling g mk a) (Vm.Alike.refl U.vm) qK⟩, va_recv hKc hPc (ci := 10) (q0 := 0) rfl rfl, fun U hU hW => ⟨rfl, by rw [hU]; exact hPc, va_K.moved hW.alike hKc⟩⟩ rfl rfl hl.1 rfl (lv_room (Nat.le_of_ble_eq_true rfl)) dX10_meant_2 ⟨Nat.le_of_ble_eq_true rfl, Nat.le_of_ble_eq_true rfl⟩) hS (fun _ _ h => h.elim) (fun _ h => h.elim) (fun r1 u t H1 locs ht hvm hw hB hz1 hk1 hS => ?_)
  have hP := pw_keep hP (fun q hq => hk1 q hq (fun h => h))
  generalize H1 = H at hP hS ⊢
  refine W.widen (k := 0) (n := 0) (Nat.le_of_ble_eq_true rfl) (Nat.le_of_ble_eq_true rfl) ?_
  have bor1 := hw.1
  have zor1 := pw_boolI bor1
  have hfr1 := hw.2
  refine lv_if_eq (tgt := 33) hx hb dX10_meant_5 (by decide) (fun c2 => ?_) (fun c2 => ?_)
  · have nc2 : r1.toInt = 0 := pw_eq c2 rfl (by decide)
    refine lv_ldc hx hb hown (hts (.constant RX10 177 (-1000001)) (List.mem_of_getElem? (i := 14) rfl)) dX10_meant_33 ?_
    have hP9 := hP.sub (ws' := [(h0, .inr (10, [.ref m_now, .ref m_draft, .ref m_past, .int j_acts, .ref m_images, .ref m_kept, .ref m_tape, .int j_taped, .int j_at, .int j_start, .int j_token, .int j_value, .int j_fault, .int j_place, .int j_latest, .ref m_low, .ref m_high, .ref m_first, .ref m_second, .ref m_lines, .ref m_others, .int j_shiftFirst, .int j_shiftMany, .int j_shiftLow, .int j_shiftHigh])), (m_now, .inl (kI, 192, .inl g_now)), (m_low, .inl (kI, 1000, .inl g_low)), (m_high, .inl (kI, 1000, .inl g_high))]) [0, 1, 2, 3] rfl
    have hD9 := hD.sub (ws' := [(h0, .inr (10, [.ref m_now, .ref m_draft, .ref m_past, .int j_acts, .ref m_images, .ref m_kept, .ref m_tape, .int j_taped, .int j_at, .int j_start, .int j_token, .int j_value, .int j_fault, .int j_place, .int j_latest, .ref m_low, .ref m_high, .ref m_first, .ref m_second, .ref m_lines, .ref m_others, .int j_shiftFirst, .int j_shiftMany, .int j_shiftLow, .int j_shiftHigh])), (m_now, .inl (kI, 192, .inl g_now)), (m_low, .inl (kI, 1000, .inl g_low)), (m_high, .inl (kI, 1000, .inl g_high))]) [0, 1, 2, 3] (by decide) rfl
    have hK9 := hK.sub (tys' := [(kI, .int)]) [0] rfl
    refine W.widen (k := 0) (n := 0) (Nat.le_of_ble_eq_true rfl) (Nat.le_of_ble_eq_true rfl) ?_
    exact W.iret (v := (-1000001)) hx hb hr (fun t ht hW => ⟨⟨(-1000001), (), rfl, trivial, g_low, g_high, by rw [ht]; exact hP9, va_K.moved hW.alike hK9, hD9, hg_low, hg_high⟩, hS.F ht⟩) hS.2.2 dX10_meant_35
  · have nc2 : r1.toInt ≠ 0 := pw_ne c2 rfl (by decide)
    refine lv_iload_n hx hb dX10_meant_8 rfl (lv_at hl 2 rfl) ?_
    have hPc := hP.sub (ws' := []) [] rfl
    have hKc := hK.sub (tys' := []) [] rfl
    refine va_calli (va_runS (As := [.int i_1]) (rest := []) ⟨hx, hb, hml, hown, hts⟩ (c_X10_isNumber l D i_1) (cwS 1 hts g_X10_meant_X10_isNumber rfl rfl rfl (by decide +kernel) ⟨Nat.le_of_ble_eq_true rfl, Nat.le_of_ble_eq_true rfl⟩) ⟨fun a U g mk q => by obtain ⟨q0, qP, qK⟩ := q; exact ⟨q0, qP, va_K.moved (u := U) (U := U.calling g mk a) (Vm.Alike.refl U.vm) qK⟩, fun U hU hW => ⟨rfl, by rw [hU]; exact hPc, va_K.moved hW.alike hKc⟩⟩ rfl rfl hl.1 rfl (lv_room (Nat.le_of_ble_eq_true rfl)) dX10_meant_9 ⟨Nat.le_of_ble_eq_true rfl, Nat.le_of_ble_eq_true rfl⟩) hS (fun _ _ h => h.elim) (fun _ h => h.elim) (fun r3 u t H1 locs ht hvm hw hB hz1 hk1 hS => ?_)
    have hP := pw_keep hP (fun q hq => hk1 q hq (fun h => h))
    generalize H1 = H at hP hS ⊢
    refine W.widen (k := 0) (n := 0) (Nat.le_of_ble_eq_true rfl) (Nat.le_of_ble_eq_true rfl) ?_
    have bor3 := hw.1
    have zor3 := pw_boolI bor3
    have hfr3 := hw.2
    refine lv_if_eq (tgt := 33) hx hb dX10_meant_12 (by decide) (fun c4 => ?_) (fun c4 => ?_)
    · have nc4 : r3.toInt = 0 := pw_eq c4 rfl (by decide)
      refine lv_ldc hx hb hown (hts (.constant RX10 177 (-1000001)) (List.mem_of_getElem? (i := 14) rfl)) dX10_meant_33 ?_
      have hP9 := hP.sub (ws' := [(h0, .inr (10, [.ref m_now, .ref m_draft, .ref m_past, .int j_acts, .ref m_images, .ref m_kept, .ref m_tape, .int j_taped, .int j_at, .int j_start, .int j_token, .int j_value, .int j_fault, .int j_place, .int j_latest, .ref m_low, .ref m_high, .ref m_first, .ref m_second, .ref m_lines, .ref m_others, .int j_shiftFirst, .int j_shiftMany, .int j_shiftLow, .int j_shiftHigh])), (m_now, .inl (kI, 192, .inl g_now)), (m_low, .inl (kI, 1000, .inl g_low)), (m_high, .inl (kI, 1000, .inl g_high))]) [0, 1, 2, 3] rfl
      have hD9 := hD.sub (ws' := [(h0, .inr (10, [.ref m_now, .ref m_draft, .ref m_past, .int j_acts, .ref m_images, .ref m_kept, .ref m_tape, .int j_taped, .int j_at, .int j_start, .int j_token, .int j_value, .int j_fault, .int j_place, .int j_latest, .ref m_low, .ref m_high, .ref m_first, .ref m_second, .ref m_lines, .ref m_others, .int j_shiftFirst, .int j_shiftMany, .int j_shiftLow, .int j_shiftHigh])), (m_now, .inl (kI, 192, .inl g_now)), (m_low, .inl (kI, 1000, .inl g_low)), (m_high, .inl (kI, 1000, .inl g_high))]) [0, 1, 2, 3] (by decide) rfl
      have hK9 := hK.sub (tys' := [(kI, .int)]) [0] rfl
      refine W.widen (k := 0) (n := 0) (Nat.le_of_ble_eq_true rfl) (Nat.le_of_ble_eq_true rfl) ?_
      exact W.iret (v := (-1000001)) hx hb hr (fun t ht hW => ⟨⟨(-1000001), (), rfl, trivial, g_low, g_high, by rw [ht]; exact hP9, va_K.moved hW.alike hK9, hD9, hg_low, hg_high⟩, hS.F ht⟩) hS.2.2 dX10_meant_35
    · have nc4 : r3.toInt ≠ 0 := pw_ne c4 rfl (by decide)
      refine lv_iload_n hx hb dX10_meant_15 rfl (lv_at hl 3 rfl) ?_
      refine lv_if_lt (tgt := 33) hx hb dX10_meant_16 (by decide) (fun c5 => ?_) (fun c5 => ?_)
      · have nc5 : i_2.toInt < 0 := pw_lt c5 rfl (by decide)
        refine lv_ldc hx hb hown (hts (.constant RX10 177 (-1000001)) (List.mem_of_getElem? (i := 14) rfl)) dX10_meant_33 ?_
        have hP9 := hP.sub (ws' := [(h0, .inr (10, [.ref m_now, .ref m_draft, .ref m_past, .int j_acts, .ref m_images, .ref m_kept, .ref m_tape, .int j_taped, .int j_at, .int j_start, .int j_token, .int j_value, .int j_fault, .int j_place, .int j_latest, .ref m_low, .ref m_high, .ref m_first, .ref m_second, .ref m_lines, .ref m_others, .int j_shiftFirst, .int j_shiftMany, .int j_shiftLow, .int j_shiftHigh])), (m_now, .inl (kI, 192, .inl g_now)), (m_low, .inl (kI, 1000, .inl g_low)), (m_high, .inl (kI, 1000, .inl g_high))]) [0, 1, 2, 3] rfl
        have hD9 := hD.sub (ws' := [(h0, .inr (10, [.ref m_now, .ref m_draft, .ref m_past, .int j_acts, .ref m_images, .ref m_kept, .ref m_tape, .int j_taped, .int j_at, .int j_start, .int j_token, .int j_value, .int j_fault, .int j_place, .int j_latest, .ref m_low, .ref m_high, .ref m_first, .ref m_second, .ref m_lines, .ref m_others, .int j_shiftFirst, .int j_shiftMany, .int j_shiftLow, .int j_shiftHigh])), (m_now, .inl (kI, 192, .inl g_now)), (m_low, .inl (kI, 1000, .inl g_low)), (m_high, .inl (kI, 1000, .inl g_high))]) [0, 1, 2, 3] (by decide) rfl
        have hK9 := hK.sub (tys' := [(kI, .int)]) [0] rfl
        refine W.widen (k := 0) (n := 0) (Nat.le_of_ble_eq_true rfl) (Nat.le_of_ble_eq_true rfl) ?_
        exact W.iret (v := (-1000001)) hx hb hr (fun t ht hW => ⟨⟨(-1000001), (), rfl, trivial, g_low, g_high, by rw [ht]; exact hP9, va_K.moved hW.alike hK9, hD9, hg_low, hg_high⟩, hS.F ht⟩) hS.2.2 dX10_meant_35
      · have nc5 : 0 ≤ i_2.toInt := pw_nlt c5 rfl (by decide)
        refine lv_iload_n hx hb dX10_meant_19 rfl (lv_at hl 3 rfl) ?_
        refine lv_i2l (v := i_2.toInt64) hx hb dX10_meant_20 rfl ?_
        refine lv_ldc2 hx hb hown (hts (.constantLong RX10 211 (3)) (List.mem_of_getElem? (i := 19) rfl)) dX10_meant_21 ?_
        refine lv_ldc2 hx hb hown (hts (.constantLong RX10 258 (9)) (List.mem_of_getElem? (i := 20) rfl)) dX10_meant_24 ?_
        have hPc := hP.sub (ws' := []) [] rfl
        have hKc := hK.sub (tys' := []) [] rfl
        refine va_calli (va_runS (As := [.long i_2.toInt64, .long 3, .long 9]) (rest := []) ⟨hx, hb, hml, hown, hts⟩ (c_X10_in0 l D i_2.toInt64 3 9) (cwS 3 hts g_X10_meant_X10_in0 rfl rfl rfl (by decide +kernel) ⟨Nat.le_of_ble_eq_true rfl, Nat.le_of_ble_eq_true rfl⟩) ⟨fun a U g mk q => by obtain ⟨q0, qP, qK⟩ := q; exact ⟨q0, qP, va_K.moved (u := U) (U := U.calling g mk a) (Vm.Alike.refl U.vm) qK⟩, fun U hU hW => ⟨rfl, by rw [hU]; exact hPc, va_K.moved hW.alike hKc⟩⟩ rfl rfl hl.1 rfl (lv_room (Nat.le_of_ble_eq_true rfl)) dX10_meant_27 ⟨Nat.le_of_ble_eq_true rfl, Nat.le_of_ble_eq_true rfl⟩) hS (fun _ _ h => h.elim) (fun _ h => h.elim) (fun r6 u t H1 locs ht hvm hw hB hz1 hk1 hS => ?_)
        have hP := pw_keep hP (fun q hq => hk1 q hq (fun h => h))
        generalize H1 = H at hP hS ⊢
        refine W.widen (k := 0) (n := 0) (Nat.le_of_ble_eq_true rfl) (Nat.le_of_ble_eq_true rfl) ?_
        have bor6 := hw.1
        have zor6 := pw_boolI bor6
        have hfr6 := hw.2
        have kl3 : (3 : Int64).toInt = 3 := by decide
        have kl9 : (9 : Int64).toInt = 9 := by decide
        try simp only [Int32.toInt_toInt64] at hfr6
        refine lv_if_eq (tgt := 36) hx hb dX10_meant_30 (by decide) (fun c7 => ?_) (fun c7 => ?_)
        · have nc7 : r6.toInt = 0 := pw_eq c7 rfl (by decide)
          refine lv_aload_n hx hb dX10_meant_36 rfl (lv_at hl 0 rfl) ?_
          have hPc := hP.sub (ws' := [(h0, .inr (10, [.ref m_now, .ref m_draft, .ref m_past, .int j_acts, .ref m_images, .ref m_kept, .ref m_tape, .int j_taped, .int j_at, .int j_start, .int j_token, .int j_value, .int j_fault, .int j_place, .int j_latest, .ref m_low, .ref m_high, .ref m_first, .ref m_second, .ref m_lines, .ref m_others, .int j_shiftFirst, .int j_shiftMany, .int j_shiftLow, .int j_shiftHigh])), (m_now, .inl (kI, 192, .inl g_now)), (m_low, .inl (kI, 1000, .inl g_low)), (m_high, .inl (kI, 1000, .inl g_high))]) [0, 1, 2, 3] rfl
          have hKc := hK.sub (tys' := [(kI, .int)]) [0] rfl
          have hDc := hD.sub (ws' := [(h0, .inr (10, [.ref m_now, .ref m_draft, .ref m_past, .int j_acts, .ref m_images, .ref m_kept, .ref m_tape, .int j_taped, .int j_at, .int j_start, .int j_token, .int j_value, .int j_fault, .int j_place, .int j_latest, .ref m_low, .ref m_high, .ref m_first, .ref m_second, .ref m_lines, .ref m_others, .int j_shiftFirst, .int j_shiftMany, .int j_shiftLow, .int j_shiftHigh])), (m_now, .inl (kI, 192, .inl g_now)), (m_low, .inl (kI, 1000, .inl g_low)), (m_high, .inl (kI, 1000, .inl g_high))]) [0, 1, 2, 3] (by decide) rfl
          have hFc := va_free (wc := [(h0, .inr (10, [.ref m_now, .ref m_draft, .ref m_past, .int j_acts, .ref m_images, .ref m_kept, .ref m_tape, .int j_taped, .int j_at, .int j_start, .int j_token, .int j_value, .int j_fault, .int j_place, .int j_latest, .ref m_low, .ref m_high, .ref m_first, .ref m_second, .ref m_lines, .ref m_others, .int j_shiftFirst, .int j_shiftMany, .int j_shiftLow, .int j_shiftHigh])), (m_now, .inl (kI, 192, .inl g_now)), (m_low, .inl (kI, 1000, .inl g_low)), (m_high, .inl (kI, 1000, .inl g_high))]) hD hS hA [0, 1, 2, 3] rfl
          refine va_callv (va_runV (As := []) (rest := []) ⟨hx, hb, hml, hown, hts⟩ (c_X10_lays l D h0 m_now m_draft m_past j_acts m_images m_kept m_tape j_taped j_at j_start j_token j_value j_fault j_place j_latest m_low m_high m_first m_second m_lines m_others j_shiftFirst j_shiftMany j_shiftLow j_shiftHigh kI g_now g_low g_high H.size hg_now hg_low hg_high) (cwV 0 hts g_X10_meant_X10_lays rfl rfl rfl (by decide +kernel) ⟨Nat.le_of_ble_eq_true rfl, Nat.le_of_ble_eq_true rfl⟩) ⟨fun a U g mk q => by obtain ⟨q0, q1, qP, qK, qD⟩ := q; exact ⟨q0, q1, qP, va_K.moved (u := U) (U := U.calling g mk a) (Vm.Alike.refl U.vm) qK, qD⟩, va_recv hKc hPc (ci := 10) (q0 := 0) rfl rfl, fun U hU hW => ⟨rfl, by rw [hU], by rw [hU]; exact hPc, va_K.moved hW.alike hKc, hDc.weaken (fun _ _ _ _ => trivial)⟩⟩ rfl rfl hl.1 rfl (lv_room (Nat.le_of_ble_eq_true rfl)) dX10_meant_37 ⟨Nat.le_of_ble_eq_true rfl, Nat.le_of_ble_eq_true rfl⟩) hS (fun q _ h => hFc q h) hFc (fun u t H1 locs ht hvm hw hB hz1 hk1 hS => ?_)
          obtain ⟨y9, y10, hP1, hK1, hD1, hy9, hy10⟩ := hB
          rw [ht] at hP1
          have hK1 := va_K.moved hvm.symm hK1
          obtain ⟨hP, hD⟩ := va_join (wr := []) (w1 := [(h0, .inr (10, [.ref m_now, .ref m_draft, .ref m_past, .int j_acts, .ref m_images, .ref m_kept, .ref m_tape, .int j_taped, .int j_at, .int j_start, .int j_token, .int j_value, .int j_fault, .int j_place, .int j_latest, .ref m_low, .ref m_high, .ref m_first, .ref m_second, .ref m_lines, .ref m_others, .int j_shiftFirst, .int j_shiftMany, .int j_shiftLow, .int j_shiftHigh])), (m_now, .inl (kI, 192, .inl g_now)), (m_low, .inl (kI, 1000, .inl y9)), (m_high, .inl (kI, 1000, .inl y10))]) hP hD [0, 1, 2, 3] [] rfl rfl (by decide) (by decide) hk1 hFc hP1 hD1
          have hK := (hK.sub (tys' := [(kI, .int)]) [0] rfl).app hK1
          generalize H1 = H at hP hS ⊢
          have hP : va_P D vwCl [(h0, .inr (10, [.ref m_now, .ref m_draft, .ref m_past, .int j_acts, .ref m_images, .ref m_kept, .ref m_tape, .int j_taped, .int j_at, .int j_start, .int j_token, .int j_value, .int j_fault, .int j_place, .int j_latest, .ref m_low, .ref m_high, .ref m_first, .ref m_second, .ref m_lines, .ref m_others, .int j_shiftFirst, .int j_shiftMany, .int j_shiftLow, .int j_shiftHigh])), (m_now, .inl (kI, 192, .inl g_now)), (m_low, .inl (kI, 1000, .inl y9)), (m_high, .inl (kI, 1000, .inl y10))] H := hP
          have hD : va_D A [(h0, .inr (10, [.ref m_now, .ref m_draft, .ref m_past, .int j_acts, .ref m_images, .ref m_kept, .ref m_tape, .int j_taped, .int j_at, .int j_start, .int j_token, .int j_value, .int j_fault, .int j_place, .int j_latest, .ref m_low, .ref m_high, .ref m_first, .ref m_second, .ref m_lines, .ref m_others, .int j_shiftFirst, .int j_shiftMany, .int j_shiftLow, .int j_shiftHigh])), (m_now, .inl (kI, 192, .inl g_now)), (m_low, .inl (kI, 1000, .inl y9)), (m_high, .inl (kI, 1000, .inl y10))] := hD
          have hK : va_K D vwCl [(kI, .int), (kI, .int)] s := hK
          refine W.widen (k := 0) (n := 0) (Nat.le_of_ble_eq_true rfl) (Nat.le_of_ble_eq_true rfl) ?_
          refine lv_iload_n hx hb dX10_meant_40 rfl (lv_at hl 3 rfl) ?_
          refine lv_iconst (v := 3) hx hb dX10_meant_41 (by decide) ?_
          refine lv_icmp_ge (tgt := 53) hx hb dX10_meant_42 (by decide) (fun c11 => ?_) (fun c11 => ?_)
          · have nc11 : 3 ≤ i_2.toInt := pw_le c11 (by decide) rfl
            refine lv_iload_n hx hb dX10_meant_53 rfl (lv_at hl 3 rfl) ?_
            refine lv_bipush (v := 10) hx hb dX10_meant_54 (by decide) ?_
            refine lv_isub hx hb dX10_meant_56 ?_
            refine lv_topi (fun x12 ex12 => ?_)
            have tx12 : x12.toInt = i_2.toInt - 10 := pw_subX ex12 rfl (by decide) (by have h9 := pw_min i_2; have h8 := pw_max i_2; omega) (by have h9 := pw_min i_2; have h8 := pw_max i_2; omega)
            refine lv_istore (lv' := [(4, .int x12), (0, .ref h0), (1, .int i_0), (2, .int i_1), (3, .int i_2)]) hx hb dX10_meant_57 hl (by decide) rfl (fun ls hl => ?_)
            refine lv_iconst (v := 0) hx hb dX10_meant_59 (by decide) ?_
            refine lv_istore (lv' := [(5, .int 0), (4, .int x12), (0, .ref h0), (1, .int i_0), (2, .int i_1), (3, .int i_2)]) hx hb dX10_meant_60 hl (by decide) rfl (fun ls hl => ?_)
            have hl9 : lv_has ls 6 [(0, .ref h0), (1, .int i_0), (2, .int i_1), (3, .int i_2), (4, .int x12), (5, .int 0)] := lv_sub hl [2, 3, 4, 5, 1, 0] rfl
            refine pw_loop (fun (zz : Int32 × Int32) H locs ls => match zz with | (v29, v30) => va_P D vwCl [(h0, .inr (10, [.ref m_now, .ref m_draft, .ref m_past, .int j_acts, .ref m_images, .ref m_kept, .ref m_tape, .int j_taped, .int j_at, .int j_start, .int j_token, .int j_value, .int j_fault, .int j_place, .int j_latest, .ref m_low, .ref m_high, .ref m_first, .ref m_second, .ref m_lines, .ref m_others, .int j_shiftFirst, .int j_shiftMany, .int j_shiftLow, .int j_shiftHigh])), (m_now, .inl (kI, 192, .inl g_now)), (m_low, .inl (kI, 1000, .inl y9)), (m_high, .inl (kI, 1000, .inl y10))] H ∧ va_D A [(h0, .inr (10, [.ref m_now, .ref m_draft, .ref m_past, .int j_acts, .ref m_images, .ref m_kept, .ref m_tape, .int j_taped, .int j_at, .int j_start, .int j_token, .int j_value, .int j_fault, .int j_place, .int j_latest, .ref m_low, .ref m_high, .ref m_first, .ref m_second, .ref m_lines, .ref m_others, .int j_shiftFirst, .int j_shiftMany, .int j_shiftLow, .int j_shiftHigh])), (m_now, .inl (kI, 192, .inl g_now)), (m_low, .inl (kI, 1000, .inl y9)), (m_high, .inl (kI, 1000, .inl y10))] ∧ va_S A s.heap H locs ∧ lv_has ls 6 [(0, .ref h0), (1, .int i_0), (2, .int i_1), (3, .int i_2), (4, .int v29), (5, .int v30)] ∧ 0 ≤ v30.toInt) (fun (zz : Int32 × Int32)  => match zz with | (v29, v30) => (2147483648 - v30.toInt).toNat) 0 0 (fun (zz : Int32 × Int32) ls => match zz with | (v29, v30) => F0 m 62 ls []) (fun zz H locs ls ih31 hI => ?_) (x12, 0) _ _ _ ⟨hP, hD, hS, hl9, (by decide)⟩
            obtain ⟨v29, v30⟩ := zz
            obtain ⟨hP, hD, hS, hl, bv30⟩ := hI
            have bv30 : 0 ≤ v30.toInt := bv30
            have hP : va_P D vwCl [(h0, .inr (10, [.ref m_now, .ref m_draft, .ref m_past, .int j_acts, .ref m_images, .ref m_kept, .ref m_tape, .int j_taped, .int j_at, .int j_start, .int j_token, .int j_value, .int j_fault, .int j_place, .int j_latest, .ref m_low, .ref m_high, .ref m_first, .ref m_second, .ref m_lines, .ref m_others, .int j_shiftFirst, .int j_shiftMany, .int j_shiftLow, .int j_shiftHigh])), (m_now, .inl (kI, 192, .inl g_now)), (m_low, .inl (kI, 1000, .inl y9)), (m_high, .inl (kI, 1000, .inl y10))] H := hP
            have hD : va_D A [(h0, .inr (10, [.ref m_now, .ref m_draft, .ref m_past, .int j_acts, .ref m_images, .ref m_kept, .ref m_tape, .int j_taped, .int j_at, .int j_start, .int j_token, .int j_value, .int j_fault, .int j_place, .int j_latest, .ref m_low, .ref m_high, .ref m_first, .ref m_second, .ref m_lines, .ref m_others, .int j_shiftFirst, .int j_shiftMany, .int j_shiftLow, .int j_shiftHigh])), (m_now, .inl (kI, 192, .inl g_now)), (m_low, .inl (kI, 1000, .inl y9)), (m_high, .inl (kI, 1000, .inl y10))] := hD
            have hK : va_K D vwCl [(kI, .int), (kI, .int)] s := hK
            have hl : lv_has ls 6 [(0, .ref h0), (1, .int i_0), (2, .int i_1), (3, .int i_2), (4, .int v29), (5, .int v30)] := hl
            refine W.eq (g2 := F0 m 62 ls []) rfl ?_
            refine lv_iload hx hb dX10_meant_62 (lv_at hl 5 rfl) ?_
            refine lv_aload_n hx hb dX10_meant_64 rfl (lv_at hl 0 rfl) ?_
            refine va_get (D := D) (ci := 10) (v := .ref m_now) (C := RX10) (T := TX10) (N := 25) hx hb hts (fun _ h => List.mem_cons_of_mem _ (List.mem_append_right _ h)) hown hK hP 0 rfl rfl 0 (by decide) (hts (.fieldLink RX10 7 "LineCitesModel" "now" "[I") (List.mem_of_getElem? (i := 10) rfl)) (fun _ h9 => h9) rfl dX10_meant_65 ?_
            refine lv_iconst (v := 0) hx hb dX10_meant_68 (by decide) ?_
            refine va_iald hx hb hK hP 1 0 rfl rfl (vp_in_iff.mpr (by decide)) dX10_meant_69 ?_
            refine lv_topi (fun x32 ex32 => ?_)
            have nx32 : 0 ≤ x32.toInt ∧ x32.toInt ≤ 200 := gV_0 hg_now ex32
            have zx32 := gV_00 ex32
            refine lv_icmp_ge (tgt := 101) hx hb dX10_meant_70 (by decide) (fun c33 => ?_) (fun c33 => ?_)
            · have nc33 : x32.toInt ≤ v30.toInt := pw_le c33 rfl rfl
              have mc33v30 := pw_max v30
              have mc33x32 := pw_max x32
              refine lv_ldc hx hb hown (hts (.constant RX10 61 (-1000000)) (List.mem_of_getElem? (i := 25) rfl)) dX10_meant_101 ?_
              have hP9 := hP.sub (ws' := [(h0, .inr (10, [.ref m_now, .ref m_draft, .ref m_past, .int j_acts, .ref m_images, .ref m_kept, .ref m_tape, .int j_taped, .int j_at, .int j_start, .int j_token, .int j_value, .int j_fault, .int j_place, .int j_latest, .ref m_low, .ref m_high, .ref m_first, .ref m_second, .ref m_lines, .ref m_others, .int j_shiftFirst, .int j_shiftMany, .int j_shiftLow, .int j_shiftHigh])), (m_now, .inl (kI, 192, .inl g_now)), (m_low, .inl (kI, 1000, .inl y9)), (m_high, .inl (kI, 1000, .inl y10))]) [0, 1, 2, 3] rfl
              have hD9 := hD.sub (ws' := [(h0, .inr (10, [.ref m_now, .ref m_draft, .ref m_past, .int j_acts, .ref m_images, .ref m_kept, .ref m_tape, .int j_taped, .int j_at, .int j_start, .int j_token, .int j_value, .int j_fault, .int j_place, .int j_latest, .ref m_low, .ref m_high, .ref m_first, .ref m_second, .ref m_lines, .ref m_others, .int j_shiftFirst, .int j_shiftMany, .int j_shiftLow, .int j_shiftHigh])), (m_now, .inl (kI, 192, .inl g_now)), (m_low, .inl (kI, 1000, .inl y9)), (m_high, .inl (kI, 1000, .inl y10))]) [0, 1, 2, 3] (by decide) rfl
              have hK9 := hK.sub (tys' := [(kI, .int)]) [0] rfl
              refine W.widen (k := 0) (n := 0) (Nat.le_of_ble_eq_true rfl) (Nat.le_of_ble_eq_true rfl) ?_
              exact W.iret (v := (-1000000)) hx hb hr (fun t ht hW => ⟨⟨(-1000000), (), rfl, trivial, y9, y10, by rw [ht]; exact hP9, va_K.moved hW.alike hK9, hD9, hy9, hy10⟩, hS.F ht⟩) hS.2.2 dX10_meant_103
            · have nc33 : v30.toInt < x32.toInt := pw_nle c33 rfl rfl
              have mc33v30 := pw_max v30
              have mc33x32 := pw_max x32
              refine lv_aload_n hx hb dX10_meant_73 rfl (lv_at hl 0 rfl) ?_
              refine lv_iload_n hx hb dX10_meant_74 rfl (lv_at hl 1 rfl) ?_
              refine lv_iload_n hx hb dX10_meant_75 rfl (lv_at hl 2 rfl) ?_
              refine lv_iload hx hb dX10_meant_76 (lv_at hl 5 rfl) ?_
              have hPc := hP.sub (ws' := [(h0, .inr (10, [.ref m_now, .ref m_draft, .ref m_past, .int j_acts, .ref m_images, .ref m_kept, .ref m_tape, .int j_taped, .int j_at, .int j_start, .int j_token, .int j_value, .int j_fault, .int j_place, .int j_latest, .ref m_low, .ref m_high, .ref m_first, .ref m_second, .ref m_lines, .ref m_others, .int j_shiftFirst, .int j_shiftMany, .int j_shiftLow, .int j_shiftHigh])), (m_low, .inl (kI, 1000, .inl y9)), (m_high, .inl (kI, 1000, .inl y10))]) [0, 2, 3] rfl
              have hKc := hK.sub (tys' := [(kI, .int)]) [0] rfl
              refine va_calli (va_runV (As := [.int i_0, .int i_1, .int v30]) (rest := []) ⟨hx, hb, hml, hown, hts⟩ (c_X10_isMeant l D h0 i_0 i_1 v30 m_now m_draft m_past j_acts m_images m_kept m_tape j_taped j_at j_start j_token j_value j_fault j_place j_latest m_low m_high m_first m_second m_lines m_others j_shiftFirst j_shiftMany j_shiftLow j_shiftHigh kI y9 y10 (by first | decide | omega) (by first | decide | omega) (by first | decide | omega) (by first | decide | omega) hy9 hy10) (cwV 3 hts g_X10_meant_X10_isMeant rfl rfl rfl (by decide +kernel) ⟨Nat.le_of_ble_eq_true rfl, Nat.le_of_ble_eq_true rfl⟩) ⟨fun a U g mk q => by obtain ⟨q0, qP, qK⟩ := q; exact ⟨q0, qP, va_K.moved (u := U) (U := U.calling g mk a) (Vm.Alike.refl U.vm) qK⟩, va_recv hKc hPc (ci := 10) (q0 := 0) rfl rfl, fun U hU hW => ⟨rfl, by rw [hU]; exact hPc, va_K.moved hW.alike hKc⟩⟩ rfl rfl hl.1 rfl (lv_room (Nat.le_of_ble_eq_true rfl)) dX10_meant_78 ⟨Nat.le_of_ble_eq_true rfl, Nat.le_of_ble_eq_true rfl⟩) hS (fun _ _ h => h.elim) (fun _ h => h.elim) (fun r34 u t H1 locs ht hvm hw hB hz1 hk1 hS => ?_)
              have hP := pw_keep hP (fun q hq => hk1 q hq (fun h => h))
              generalize H1 = H at hP hS ⊢
              refine W.widen (k := 0) (n := 0) (Nat.le_of_ble_eq_true rfl) (Nat.le_of_ble_eq_true rfl) ?_
              have bor34 := hw.1
              have zor34 := pw_boolI bor34
              refine lv_if_eq (tgt := 95) hx hb dX10_meant_81 (by decide) (fun c35 => ?_) (fun c35 => ?_)
              · have nc35 : r34.toInt = 0 := pw_eq c35 rfl (by decide)
                obtain ⟨x36, ex36⟩ : ∃ y : Int32, y = v30 + 1 := ⟨_, rfl⟩
                have tx36 : x36.toInt = v30.toInt + 1 := pw_addX ex36 rfl (by decide) (by omega) (by omega)
                refine lv_iinc (v := x36) (lv' := [(5, .int x36), (0, .ref h0), (1, .int i_0), (2, .int i_1), (3, .int i_2), (4, .int v29)]) hx hb dX10_meant_95 hl (k := 5) rfl (by rw [ex36]; rfl) (by decide) rfl (fun ls hl => ?_)
                refine lv_goto (tgt := 62) hx hb dX10_meant_98 (by decide) ?_
                have hP9 : va_P D vwCl [(h0, .inr (10, [.ref m_now, .ref m_draft, .ref m_past, .int j_acts, .ref m_images, .ref m_kept, .ref m_tape, .int j_taped, .int j_at, .int j_start, .int j_token, .int j_value, .int j_fault, .int j_place, .int j_latest, .ref m_low, .ref m_high, .ref m_first, .ref m_second, .ref m_lines, .ref m_others, .int j_shiftFirst, .int j_shiftMany, .int j_shiftLow, .int j_shiftHigh])), (m_now, .inl (kI, 192, .inl g_now)), (m_low, .inl (kI, 1000, .inl y9)), (m_high, .inl (kI, 1000, .inl y10))] H := hP.sub [0, 1, 2, 3] rfl
                have hD9 : va_D A [(h0, .inr (10, [.ref m_now, .ref m_draft, .ref m_past, .int j_acts, .ref m_images, .ref m_kept, .ref m_tape, .int j_taped, .int j_at, .int j_start, .int j_token, .int j_value, .int j_fault, .int j_place, .int j_latest, .ref m_low, .ref m_high, .ref m_first, .ref m_second, .ref m_lines, .ref m_others, .int j_shiftFirst, .int j_shiftMany, .int j_shiftLow, .int j_shiftHigh])), (m_now, .inl (kI, 192, .inl g_now)), (m_low, .inl (kI, 1000, .inl y9)), (m_high, .inl (kI, 1000, .inl y10))] := hD.sub [0, 1, 2, 3] (by decide) rfl
                have hl9 : lv_has ls 6 [(0, .ref h0), (1, .int i_0), (2, .int i_1), (3, .int i_2), (4, .int v29), (5, .int x36)] := lv_sub hl [1, 2, 3, 4, 5, 0] rfl
                refine W.widen (k := 0) (n := 0) (Nat.le_of_ble_eq_true rfl) (Nat.le_of_ble_eq_true rfl) ?_
                exact ih31 (v29, x36) _ _ _ (pw_up ex36 (by omega)) ⟨hP9, hD9, hS, hl9, (pw_upge ex36 (by omega) (by omega))⟩
              · have nc35 : r34.toInt ≠ 0 := pw_ne c35 rfl (by decide)
                refine lv_iload hx hb dX10_meant_84 (lv_at hl 4 rfl) ?_
                refine lv_if_ne (tgt := 92) hx hb dX10_meant_86 (by decide) (fun c37 => ?_) (fun c37 => ?_)
                · have nc37 : v29.toInt ≠ 0 := pw_ne c37 rfl (by decide)
                  obtain ⟨x38, ex38⟩ : ∃ y : Int32, y = v29 + (-1) := ⟨_, rfl⟩
                  refine lv_iinc (v := x38) (lv' := [(4, .int x38), (0, .ref h0), (1, .int i_0), (2, .int i_1), (3, .int i_2), (5, .int v30)]) hx hb dX10_meant_92 hl (k := 4) rfl (by rw [ex38]; rfl) (by decide) rfl (fun ls hl => ?_)
                  obtain ⟨x39, ex39⟩ : ∃ y : Int32, y = v30 + 1 := ⟨_, rfl⟩
                  have tx39 : x39.toInt = v30.toInt + 1 := pw_addX ex39 rfl (by decide) (by omega) (by omega)
                  refine lv_iinc (v := x39) (lv' := [(5, .int x39), (4, .int x38), (0, .ref h0), (1, .int i_0), (2, .int i_1), (3, .int i_2)]) hx hb dX10_meant_95 hl (k := 5) rfl (by rw [ex39]; rfl) (by decide) rfl (fun ls hl => ?_)
                  refine lv_goto (tgt := 62) hx hb dX10_meant_98 (by decide) ?_
                  have hP9 : va_P D vwCl [(h0, .inr (10, [.ref m_now, .ref m_draft, .ref m_past, .int j_acts, .ref m_images, .ref m_kept, .ref m_tape, .int j_taped, .int j_at, .int j_start, .int j_token, .int j_value, .int j_fault, .int j_place, .int j_latest, .ref m_low, .ref m_high, .ref m_first, .ref m_second, .ref m_lines, .ref m_others, .int j_shiftFirst, .int j_shiftMany, .int j_shiftLow, .int j_shiftHigh])), (m_now, .inl (kI, 192, .inl g_now)), (m_low, .inl (kI, 1000, .inl y9)), (m_high, .inl (kI, 1000, .inl y10))] H := hP.sub [0, 1, 2, 3] rfl
                  have hD9 : va_D A [(h0, .inr (10, [.ref m_now, .ref m_draft, .ref m_past, .int j_acts, .ref m_images, .ref m_kept, .ref m_tape, .int j_taped, .int j_at, .int j_start, .int j_token, .int j_value, .int j_fault, .int j_place, .int j_latest, .ref m_low, .ref m_high, .ref m_first, .ref m_second, .ref m_lines, .ref m_others, .int j_shiftFirst, .int j_shiftMany, .int j_shiftLow, .int j_shiftHigh])), (m_now, .inl (kI, 192, .inl g_now)), (m_low, .inl (kI, 1000, .inl y9)), (m_high, .inl (kI, 1000, .inl y10))] := hD.sub [0, 1, 2, 3] (by decide) rfl
                  have hl9 : lv_has ls 6 [(0, .ref h0), (1, .int i_0), (2, .int i_1), (3, .int i_2), (4, .int x38), (5, .int x39)] := lv_sub hl [2, 3, 4, 5, 1, 0] rfl
                  refine W.widen (k := 0) (n := 0) (Nat.le_of_ble_eq_true rfl) (Nat.le_of_ble_eq_true rfl) ?_
                  exact ih31 (x38, x39) _ _ _ (pw_up ex39 (by omega)) ⟨hP9, hD9, hS, hl9, (pw_upge ex39 (by omega) (by omega))⟩
                · have nc37 : v29.toInt = 0 := pw_eq c37 rfl (by decide)
                  refine lv_iload hx hb dX10_meant_89 (lv_at hl 5 rfl) ?_
                  have hP9 := hP.sub (ws' := [(h0, .inr (10, [.ref m_now, .ref m_draft, .ref m_past, .int j_acts, .ref m_images, .ref m_kept, .ref m_tape, .int j_taped, .int j_at, .int j_start, .int j_token, .int j_value, .int j_fault, .int j_place, .int j_latest, .ref m_low, .ref m_high, .ref m_first, .ref m_second, .ref m_lines, .ref m_others, .int j_shiftFirst, .int j_shiftMany, .int j_shiftLow, .int j_shiftHigh])), (m_now, .inl (kI, 192, .inl g_now)), (m_low, .inl (kI, 1000, .inl y9)), (m_high, .inl (kI, 1000, .inl y10))]) [0, 1, 2, 3] rfl
                  have hD9 := hD.sub (ws' := [(h0, .inr (10, [.ref m_now, .ref m_draft, .ref m_past, .int j_acts, .ref m_images, .ref m_kept, .ref m_tape, .int j_taped, .int j_at, .int j_start, .int j_token, .int j_value, .int j_fault, .int j_place, .int j_latest, .ref m_low, .ref m_high, .ref m_first, .ref m_second, .ref m_lines, .ref m_others, .int j_shiftFirst, .int j_shiftMany, .int j_shiftLow, .int j_shiftHigh])), (m_now, .inl (kI, 192, .inl g_now)), (m_low, .inl (kI, 1000, .inl y9)), (m_high, .inl (kI, 1000, .inl y10))]) [0, 1, 2, 3] (by decide) rfl
                  have hK9 := hK.sub (tys' := [(kI, .int)]) [0] rfl
                  refine W.widen (k := 0) (n := 0) (Nat.le_of_ble_eq_true rfl) (Nat.le_of_ble_eq_true rfl) ?_
                  exact W.iret (v := v30) hx hb hr (fun t ht hW => ⟨⟨v30, (), rfl, trivial, y9, y10, by rw [ht]; exact hP9, va_K.moved hW.alike hK9, hD9, hy9, hy10⟩, hS.F ht⟩) hS.2.2 dX10_meant_91
          · have nc11 : i_2.toInt < 3 := pw_nle c11 (by decide) rfl
            refine lv_aload_n hx hb dX10_meant_45 rfl (lv_at hl 0 rfl) ?_
            refine lv_iload_n hx hb dX10_meant_46 rfl (lv_at hl 1 rfl) ?_
            refine lv_iload_n hx hb dX10_meant_47 rfl (lv_at hl 2 rfl) ?_
            refine lv_iload_n hx hb dX10_meant_48 rfl (lv_at hl 3 rfl) ?_
            have hPc := hP.sub (ws' := [(h0, .inr (10, [.ref m_now, .ref m_draft, .ref m_past, .int j_acts, .ref m_images, .ref m_kept, .ref m_tape, .int j_taped, .int j_at, .int j_start, .int j_token, .int j_value, .int j_fault, .int j_place, .int j_latest, .ref m_low, .ref m_high, .ref m_first, .ref m_second, .ref m_lines, .ref m_others, .int j_shiftFirst, .int j_shiftMany, .int j_shiftLow, .int j_shiftHigh])), (m_now, .inl (kI, 192, .inl g_now)), (m_low, .inl (kI, 1000, .inl y9)), (m_high, .inl (kI, 1000, .inl y10))]) [0, 1, 2, 3] rfl
            have hKc := hK.sub (tys' := [(kI, .int)]) [0] rfl
            refine va_calli (va_runV (As := [.int i_0, .int i_1, .int i_2]) (rest := []) ⟨hx, hb, hml, hown, hts⟩ (c_X10_meantBy l D h0 i_0 i_1 i_2 m_now m_draft m_past j_acts m_images m_kept m_tape j_taped j_at j_start j_token j_value j_fault j_place j_latest m_low m_high m_first m_second m_lines m_others j_shiftFirst j_shiftMany j_shiftLow j_shiftHigh kI g_now y9 y10 (by first | decide | omega) (by first | decide | omega) hg_now hy9 hy10) (cwV 3 hts g_X10_meant_X10_meantBy rfl rfl rfl (by decide +kernel) ⟨Nat.le_of_ble_eq_true rfl, Nat.le_of_ble_eq_true rfl⟩) ⟨fun a U g mk q => by obtain ⟨q0, qP, qK⟩ := q; exact ⟨q0, qP, va_K.moved (u := U) (U := U.calling g mk a) (Vm.Alike.refl U.vm) qK⟩, va_recv hKc hPc (ci := 10) (q0 := 0) rfl rfl, fun U hU hW => ⟨rfl, by rw [hU]; exact hPc, va_K.moved hW.alike hKc⟩⟩ rfl rfl hl.1 rfl (lv_room (Nat.le_of_ble_eq_true rfl)) dX10_meant_49 ⟨Nat.le_of_ble_eq_true rfl, Nat.le_of_ble_eq_true rfl⟩) hS (fun _ _ h => h.elim) (fun _ h => h.elim) (fun r40 u t H1 locs ht hvm hw hB hz1 hk1 hS => ?_)
            have hP := pw_keep hP (fun q hq => hk1 q hq (fun h => h))
            generalize H1 = H at hP hS ⊢
            refine W.widen (k := 0) (n := 0) (Nat.le_of_ble_eq_true rfl) (Nat.le_of_ble_eq_true rfl) ?_
            have hP9 := hP.sub (ws' := [(h0, .inr (10, [.ref m_now, .ref m_draft, .ref m_past, .int j_acts, .ref m_images, .ref m_kept, .ref m_tape, .int j_taped, .int j_at, .int j_start, .int j_token, .int j_value, .int j_fault, .int j_place, .int j_latest, .ref m_low, .ref m_high, .ref m_first, .ref m_second, .ref m_lines, .ref m_others, .int j_shiftFirst, .int j_shiftMany, .int j_shiftLow, .int j_shiftHigh])), (m_now, .inl (kI, 192, .inl g_now)), (m_low, .inl (kI, 1000, .inl y9)), (m_high, .inl (kI, 1000, .inl y10))]) [0, 1, 2, 3] rfl
            have hD9 := hD.sub (ws' := [(h0, .inr (10, [.ref m_now, .ref m_draft, .ref m_past, .int j_acts, .ref m_images, .ref m_kept, .ref m_tape, .int j_taped, .int j_at, .int j_start, .int j_token, .int j_value, .int j_fault, .int j_place, .int j_latest, .ref m_low, .ref m_high, .ref m_first, .ref m_second, .ref m_lines, .ref m_others, .int j_shiftFirst, .int j_shiftMany, .int j_shiftLow, .int j_shiftHigh])), (m_now, .inl (kI, 192, .inl g_now)), (m_low, .inl (kI, 1000, .inl y9)), (m_high, .inl (kI, 1000, .inl y10))]) [0, 1, 2, 3] (by decide) rfl
            have hK9 := hK.sub (tys' := [(kI, .int)]) [0] rfl
            refine W.widen (k := 0) (n := 0) (Nat.le_of_ble_eq_true rfl) (Nat.le_of_ble_eq_true rfl) ?_
            exact W.iret (v := r40) hx hb hr (fun t ht hW => ⟨⟨r40, (), rfl, trivial, y9, y10, by rw [ht]; exact hP9, va_K.moved hW.alike hK9, hD9, hy9, hy10⟩, hS.F ht⟩) hS.2.2 dX10_meant_52
        · have nc7 : r6.toInt ≠ 0 := pw_ne c7 rfl (by decide)
          refine lv_ldc hx hb hown (hts (.constant RX10 177 (-1000001)) (List.mem_of_getElem? (i := 14) rfl)) dX10_meant_33 ?_
          have hP9 := hP.sub (ws' := [(h0, .inr (10, [.ref m_now, .ref m_draft, .ref m_past, .int j_acts, .ref m_images, .ref m_kept, .ref m_tape, .int j_taped, .int j_at, .int j_start, .int j_token, .int j_value, .int j_fault, .int j_place, .int j_latest, .ref m_low, .ref m_high, .ref m_first, .ref m_second, .ref m_lines, .ref m_others, .int j_shiftFirst, .int j_shiftMany, .int j_shiftLow, .int j_shiftHigh])), (m_now, .inl (kI, 192, .inl g_now)), (m_low, .inl (kI, 1000, .inl g_low)), (m_high, .inl (kI, 1000, .inl g_high))]) [0, 1, 2, 3] rfl
          have hD9 := hD.sub (ws' := [(h0, .inr (10, [.ref m_now, .ref m_draft, .ref m_past, .int j_acts, .ref m_images, .ref m_kept, .ref m_tape, .int j_taped, .int j_at, .int j_start, .int j_token, .int j_value, .int j_fault, .int j_place, .int j_latest, .ref m_low, .ref m_high, .ref m_first, .ref m_second, .ref m_lines, .ref m_others, .int j_shiftFirst, .int j_shiftMany, .int j_shiftLow, .int j_shiftHigh])), (m_now, .inl (kI, 192, .inl g_now)), (m_low, .inl (kI, 1000, .inl g_low)), (m_high, .inl (kI, 1000, .inl g_high))]) [0, 1, 2, 3] (by decide) rfl
          have hK9 := hK.sub (tys' := [(kI, .int)]) [0] rfl
          refine W.widen (k := 0) (n := 0) (Nat.le_of_ble_eq_true rfl) (Nat.le_of_ble_eq_true rfl) ?_
          exact W.iret (v := (-1000001)) hx hb hr (fun t ht hW => ⟨⟨(-1000001), (), rfl, trivial, g_low, g_high, by rw [ht]; exact hP9, va_K.moved hW.alike hK9, hD9, hg_low, hg_high⟩, hS.F ht⟩) hS.2.2 dX10_meant_35
def w_X10_left : List Cond := .code yX10_left cX10_left 8 (some .int) :: ([.methodLink RX10 55 yX10_isEdition, .instanceMethod yX10_isEdition, .selects RX10 yX10_isEdition yX10_isEdition, .initialized RX10, .code yX10_isEdition cX10_isEdition 2 (some .boolean), .methodLink RX10 47 yX10_isWork, .instanceMethod yX10_isWork, .selects RX10 yX10_isWork yX10_isWork, .code yX10_isWork cX10_isWork 1 (some .boolean), .fieldLink RX10 7 "LineCitesModel" "now" "[I", .methodLink RX10 51 yX10_in0, .static yX10_in0, .code yX10_in0 cX10_in0 6 (some .boolean), .constant RX10 177 (-1000001), .methodLink RX10 221 yX10_lays, .instanceMethod yX10_lays, .selects RX10 yX10_lays yX10_lays, .code yX10_lays cX10_lays 9 none, .constant RX10 61 (-1000000), .fieldLink RX10 29 "LineCitesModel" "low" "[I", .fieldLink RX10 32 "LineCitesModel" "high" "[I", .methodLink RX10 66 yX10_stretchOf, .static yX10_stretchOf, .code yX10_stretchOf cX10_stretchOf 7 (some .int), .methodLink RX10 62 yX10_of, .static yX10_of, .code yX10_of cX10_of 4 (some .int), .methodLink RX10 73 yX10_hasNumber, .instanceMethod yX10_hasNumber, .selects RX10 yX10_hasNumber yX10_hasNumber, .code yX10_hasNumber cX10_hasNumber 3 (some .boolean)] ++ wsX100)
set_option maxRecDepth 20000 in
theorem g_X10_left_X10_isEdition : GoodIn w_X10_left (wsV RX10 55 RX10 yX10_isEdition w_X10_isEdition) := goodIn_r _ [1, 2, 3, 4, 5, 6, 7, 8, 4, 9, 10, 11, 12, 13, 32, 33, 34, 35, 36, 37, 38, 39, 40, 41, 42, 43, 44, 45, 46, 47, 48, 49, 50, 51, 52, 53, 54, 55, 56] rfl (by decide +kernel)
set_option maxRecDepth 20000 in
theorem g_X10_left_X10_in0 : GoodIn w_X10_left (wsS RX10 51 yX10_in0 w_X10_in0) := goodIn_r _ [11, 12, 4, 13] rfl (by decide +kernel)
set_option maxRecDepth 20000 in
theorem g_X10_left_X10_lays : GoodIn w_X10_left (wsV RX10 221 RX10 yX10_lays w_X10_lays) := goodIn_r _ [15, 16, 17, 4, 18, 10, 19, 20, 21, 22, 23, 4, 24, 25, 26, 27, 11, 12, 13, 32, 33, 34, 35, 36, 37, 38, 39, 40, 41, 42, 43, 44, 45, 46, 47, 48, 49, 50, 51, 52, 53, 54, 55, 56] rfl (by decide +kernel)
set_option maxRecDepth 20000 in
theorem g_X10_left_X10_hasNumber : GoodIn w_X10_left (wsV RX10 73 RX10 yX10_hasNumber w_X10_hasNumber) := goodIn_r _ [28, 29, 30, 4, 31, 20, 32, 33, 34, 35, 36, 37, 38, 39, 40, 41, 42, 43, 44, 45, 46, 47, 48, 49, 50, 51, 52, 53, 54, 55, 56] rfl (by decide +kernel)
set_option maxHeartbeats 4000000 in
set_option maxRecDepth 100000 in
theorem c_X10_left (l : Launch) (D : va_G) (h0 : Nat) (i_0 : Int32) (i_1 : Int32) (i_2 : Int32) (m_now : Nat) (m_draft : Nat) (m_past : Nat) (j_acts : Int32) (m_images : Nat) (m_kept : Nat) (m_tape : Nat) (j_taped : Int32) (j_at : Int32) (j_start : Int32) (j_token : Int32) (j_value : Int32) (j_fault : Int32) (j_place : Int32) (j_latest : Int32) (m_low : Nat) (m_high : Nat) (m_first : Nat) (m_second : Nat) (m_lines : Nat) (m_others : Nat) (j_shiftFirst : Int32) (j_shiftMany : Int32) (j_shiftLow : Int32) (j_shiftHigh : Int32) (kI : ClassId) (g_now : Nat → Int32) (g_low : Nat → Int32) (g_high : Nat → Int32) (sz : Nat) (hg_now : gV g_now) (hg_low : bP g_low) (hg_high : bP g_high) : Met l yX10_left w_X10_left ({ frames := 3, cells := 0, slots := 0, locals := 79 }) (va_Pc [.ref h0, .int i_0, .int i_1, .int i_2] (fun U => U.heap.size = sz ∧ va_P D vwCl [(h0, .inr (10, [.ref m_now, .ref m_draft, .ref m_past, .int j_acts, .ref m_images, .ref m_kept, .ref m_tape, .int j_taped, .int j_at, .int j_start, .int j_token, .int j_value, .int j_fault, .int j_place, .int j_latest, .ref m_low, .ref m_high, .ref m_first, .ref m_second, .ref m_lines, .ref m_others, .int j_shiftFirst, .int j_shiftMany, .int j_shiftLow, .int j_shiftHigh])), (m_now, .inl (kI, 192, .inl g_now)), (m_low, .inl (kI, 1000, .inl g_low)), (m_high, .inl (kI, 1000, .inl g_high))] U.heap ∧ va_K D vwCl [(kI, .int)] U ∧ va_D (fun _ => True) [(h0, .inr (10, [.ref m_now, .ref m_draft, .ref m_past, .int j_acts, .ref m_images, .ref m_kept, .ref m_tape, .int j_taped, .int j_at, .int j_start, .int j_token, .int j_value, .int j_fault, .int j_place, .int j_latest, .ref m_low, .ref m_high, .ref m_first, .ref m_second, .ref m_lines, .ref m_others, .int j_shiftFirst, .int j_shiftMany, .int j_shiftLow, .int j_shiftHigh])), (m_now, .inl (kI, 192, .inl g_now)), (m_low, .inl (kI, 1000, .inl g_low)), (m_high, .inl (kI, 1000, .inl g_high))])) (va_Qi (fun (r : Int32) (_ : Unit) => True) (fun (_ : Unit) t => ∃ (n_low : Nat → Int32) (n_high : Nat → Int32), va_P D vwCl [(h0, .inr (10, [.ref m_now, .ref m_draft, .ref m_past, .int j_acts, .ref m_images, .ref m_kept, .ref m_tape, .int j_taped, .int j_at, .int j_start, .int j_token, .int j_value, .int j_fault, .int j_place, .int j_latest, .ref m_low, .ref m_high, .ref m_first, .ref m_second, .ref m_lines, .ref m_others, .int j_shiftFirst, .int j_shiftMany, .int j_shiftLow, .int j_shiftHigh])), (m_now, .inl (kI, 192, .inl g_now)), (m_low, .inl (kI, 1000, .inl n_low)), (m_high, .inl (kI, 1000, .inl n_high))] t.heap ∧ va_K D vwCl [(kI, .int)] t ∧ va_D (va_A [(h0, .inr (10, [.ref m_now, .ref m_draft, .ref m_past, .int j_acts, .ref m_images, .ref m_kept, .ref m_tape, .int j_taped, .int j_at, .int j_start, .int j_token, .int j_value, .int j_fault, .int j_place, .int j_latest, .ref m_low, .ref m_high, .ref m_first, .ref m_second, .ref m_lines, .ref m_others, .int j_shiftFirst, .int j_shiftMany, .int j_shiftLow, .int j_shiftHigh])), (m_now, .inl (kI, 192, .inl g_now)), (m_low, .inl (kI, 1000, .inl g_low)), (m_high, .inl (kI, 1000, .inl g_high))] sz) [(h0, .inr (10, [.ref m_now, .ref m_draft, .ref m_past, .int j_acts, .ref m_images, .ref m_kept, .ref m_tape, .int j_taped, .int j_at, .int j_start, .int j_token, .int j_value, .int j_fault, .int j_place, .int j_latest, .ref m_low, .ref m_high, .ref m_first, .ref m_second, .ref m_lines, .ref m_others, .int j_shiftFirst, .int j_shiftMany, .int j_shiftLow, .int j_shiftHigh])), (m_now, .inl (kI, 192, .inl g_now)), (m_low, .inl (kI, 1000, .inl n_low)), (m_high, .inl (kI, 1000, .inl n_high))] ∧ bP n_low ∧ bP n_high) (va_A [(h0, .inr (10, [.ref m_now, .ref m_draft, .ref m_past, .int j_acts, .ref m_images, .ref m_kept, .ref m_tape, .int j_taped, .int j_at, .int j_start, .int j_token, .int j_value, .int j_fault, .int j_place, .int j_latest, .ref m_low, .ref m_high, .ref m_first, .ref m_second, .ref m_lines, .ref m_others, .int j_shiftFirst, .int j_shiftMany, .int j_shiftLow, .int j_shiftHigh])), (m_now, .inl (kI, 192, .inl g_now)), (m_low, .inl (kI, 1000, .inl g_low)), (m_high, .inl (kI, 1000, .inl g_high))] sz)) 0 0 (va_A [(h0, .inr (10, [.ref m_now, .ref m_draft, .ref m_past, .int j_acts, .ref m_images, .ref m_kept, .ref m_tape, .int j_taped, .int j_at, .int j_start, .int j_token, .int j_value, .int j_fault, .int j_place, .int j_latest, .ref m_low, .ref m_high, .ref m_first, .ref m_second, .ref m_lines, .ref m_others, .int j_shiftFirst, .int j_shiftMany, .int j_shiftLow, .int j_shiftHigh])), (m_now, .inl (kI, 192, .inl g_now)), (m_low, .inl (kI, 1000, .inl g_low)), (m_high, .inl (kI, 1000, .inl g_high))] sz) := by
  refine Met.ofW (cc := cX10_left) (maxL := 8) (ret := (some .int)) (by decide) rfl ?_
  intro p e s m args below meth c s₁ B hml hv
  obtain ⟨rfl, hsz, hP, hK, hD0⟩ := hv
  have hx := B.exec
  have hb := B.bytes
  have hr := B.returns
  have hts := atoms_spec (ws := w_X10_left) B.pre
  have hown : s.vm.findClass RX10 = some m.cls := findClass_of_methodNamed B.named
  have hlocks := B.notSynchronized
  subst hsz
  have hD := hD0.self (sz := s.heap.size)
  generalize hAe : va_A [(h0, .inr (10, [.ref m_now, .ref m_draft, .ref m_past, .int j_acts, .ref m_images, .ref m_kept, .ref m_tape, .int j_taped, .int j_at, .int j_start, .int j_token, .int j_value, .int j_fault, .int j_place, .int j_latest, .ref m_low, .ref m_high, .ref m_first, .ref m_second, .ref m_lines, .ref m_others, .int j_shiftFirst, .int j_shiftMany, .int j_shiftLow, .int j_shiftHigh])), (m_now, .inl (kI, 192, .inl g_now)), (m_low, .inl (kI, 1000, .inl g_low)), (m_high, .inl (kI, 1000, .inl g_high))] s.heap.size = A at hD ⊢
  have hA : ∀ q : Nat, s.heap.size ≤ q → A q := fun q h => by rw [← hAe]; exact Or.inr h
  have hS : va_S A s.heap s.heap [] := va_S.rf
  have hP : va_P D vwCl [(h0, .inr (10, [.ref m_now, .ref m_draft, .ref m_past, .int j_acts, .ref m_images, .ref m_kept, .ref m_tape, .int j_taped, .int j_at, .int j_start, .int j_token, .int j_value, .int j_fault, .int j_place, .int j_latest, .ref m_low, .ref m_high, .ref m_first, .ref m_second, .ref m_lines, .ref m_others, .int j_shiftFirst, .int j_shiftMany, .int j_shiftLow, .int j_shiftHigh])), (m_now, .inl (kI, 192, .inl g_now)), (m_low, .inl (kI, 1000, .inl g_low)), (m_high, .inl (kI, 1000, .inl g_high))] s.heap := hP
  have hl := lv_entry ([.ref h0, .int i_0, .int i_1, .int i_2]) (n := 8) (Nat.le_of_ble_eq_true rfl)
  rw [lg_entry_eq]
  generalize (lg_sl ([.ref h0, .int i_0, .int i_1, .int i_2]) ++ List.replicate (8 - (lg_sl ([.ref h0, .int i_0, .int i_1, .int i_2])).length) Slot.unset).toArray = ls at hl ⊢
  have hl : lv_has ls 8 [(0, .ref h0), (1, .int i_0), (2, .int i_1), (3, .int i_2)] := hl
  obtain ⟨H, hHe⟩ : ∃ H : Heap, H = s.heap := ⟨_, rfl⟩
  rw [← hHe] at hP
  have hS : va_S A s.heap H [] := by rw [hHe]; exact hS
  refine pw_heap hHe ?_
  refine lv_aload_n hx hb dX10_left_0 rfl (lv_at hl 0 rfl) ?_
  refine lv_iload_n hx hb dX10_left_1 rfl (lv_at hl 1 rfl) ?_
  have hPc := hP.sub (ws' := [(h0, .inr (10, [.ref m_now, .ref m_draft, .ref m_past, .int j_acts, .ref m_images, .ref m_kept, .ref m_tape, .int j_taped, .int j_at, .int j_start, .int j_token, .int j_value, .int j_fault, .int j_place, .int j_latest, .ref m_low, .ref m_high, .ref m_first, .ref m_second, .ref m_lines, .ref m_others, .int j_shiftFirst, .int j_shiftMany, .int j_shiftLow, .int j_shiftHigh])), (m_now, .inl (kI, 192, .inl g_now))]) [0, 1] rfl
  have hKc := hK.sub (tys' := [(kI, .int)]) [0] rfl
  refine va_calli (va_runV (As := [.int i_0]) (rest := []) ⟨hx, hb, hml, hown, hts⟩ (c_X10_isEdition l D h0 i_0 m_now m_draft m_past j_acts m_images m_kept m_tape j_taped j_at j_start j_token j_value j_fault j_place j_latest m_low m_high m_first m_second m_lines m_others j_shiftFirst j_shiftMany j_shiftLow j_shiftHigh kI g_now hg_now) (cwV 1 hts g_X10_left_X10_isEdition rfl rfl rfl (by decide +kernel) ⟨Nat.le_of_ble_eq_true rfl, Nat.le_of_ble_eq_true rfl⟩) ⟨fun a U g mk q => by obtain ⟨q0, qP, qK⟩ := q; exact ⟨q0, qP, va_K.moved (u := U) (U := U.calling g mk a) (Vm.Alike.refl U.vm) qK⟩, va_recv hKc hPc (ci := 10) (q0 := 0) rfl rfl, fun U hU hW => ⟨rfl, by rw [hU]; exact hPc, va_K.moved hW.alike hKc⟩⟩ rfl rfl hl.1 rfl (lv_room (Nat.le_of_ble_eq_true rfl)) dX10_left_2 ⟨Nat.le_of_ble_eq_true rfl, Nat.le_of_ble_eq_true rfl⟩) hS (fun _ _ h => h.elim) (fun _ h => h.elim) (fun r1 u t H1 locs ht hvm hw hB hz1 hk1 hS => ?_)
  have hP := pw_keep hP (fun q hq => hk1 q hq (fun h => h))
  generalize H1 = H at hP hS ⊢
  refine W.widen (k := 0) (n := 0) (Nat.le_of_ble_eq_true rfl) (Nat.le_of_ble_eq_true rfl) ?_
  have bor1 := hw.1
  have zor1 := pw_boolI bor1
  have hfr1 := hw.2
  refine lv_if_eq (tgt := 22) hx hb dX10_left_5 (by decide) (fun c2 => ?_) (fun c2 => ?_)
  · have nc2 : r1.toInt = 0 := pw_eq c2 rfl (by decide)
    refine lv_ldc hx hb hown (hts (.constant RX10 177 (-1000001)) (List.mem_of_getElem? (i := 14) rfl)) dX10_left_22 ?_
    have hP9 := hP.sub (ws' := [(h0, .inr (10, [.ref m_now, .ref m_draft, .ref m_past, .int j_acts, .ref m_images, .ref m_kept, .ref m_tape, .int j_taped, .int j_at, .int j_start, .int j_token, .int j_value, .int j_fault, .int j_place, .int j_latest, .ref m_low, .ref m_high, .ref m_first, .ref m_second, .ref m_lines, .ref m_others, .int j_shiftFirst, .int j_shiftMany, .int j_shiftLow, .int j_shiftHigh])), (m_now, .inl (kI, 192, .inl g_now)), (m_low, .inl (kI, 1000, .inl g_low)), (m_high, .inl (kI, 1000, .inl g_high))]) [0, 1, 2, 3] rfl
    have hD9 := hD.sub (ws' := [(h0, .inr (10, [.ref m_now, .ref m_draft, .ref m_past, .int j_acts, .ref m_images, .ref m_kept, .ref m_tape, .int j_taped, .int j_at, .int j_start, .int j_token, .int j_value, .int j_fault, .int j_place, .int j_latest, .ref m_low, .ref m_high, .ref m_first, .ref m_second, .ref m_lines, .ref m_others, .int j_shiftFirst, .int j_shiftMany, .int j_shiftLow, .int j_shiftHigh])), (m_now, .inl (kI, 192, .inl g_now)), (m_low, .inl (kI, 1000, .inl g_low)), (m_high, .inl (kI, 1000, .inl g_high))]) [0, 1, 2, 3] (by decide) rfl
    have hK9 := hK.sub (tys' := [(kI, .int)]) [0] rfl
    refine W.widen (k := 0) (n := 0) (Nat.le_of_ble_eq_true rfl) (Nat.le_of_ble_eq_true rfl) ?_
    exact W.iret (v := (-1000001)) hx hb hr (fun t ht hW => ⟨⟨(-1000001), (), rfl, trivial, g_low, g_high, by rw [ht]; exact hP9, va_K.moved hW.alike hK9, hD9, hg_low, hg_high⟩, hS.F ht⟩) hS.2.2 dX10_left_24
  · have nc2 : r1.toInt ≠ 0 := pw_ne c2 rfl (by decide)
    refine lv_iload_n hx hb dX10_left_8 rfl (lv_at hl 2 rfl) ?_
    refine lv_if_lt (tgt := 22) hx hb dX10_left_9 (by decide) (fun c3 => ?_) (fun c3 => ?_)
    · have nc3 : i_1.toInt < 0 := pw_lt c3 rfl (by decide)
      refine lv_ldc hx hb hown (hts (.constant RX10 177 (-1000001)) (List.mem_of_getElem? (i := 14) rfl)) dX10_left_22 ?_
      have hP9 := hP.sub (ws' := [(h0, .inr (10, [.ref m_now, .ref m_draft, .ref m_past, .int j_acts, .ref m_images, .ref m_kept, .ref m_tape, .int j_taped, .int j_at, .int j_start, .int j_token, .int j_value, .int j_fault, .int j_place, .int j_latest, .ref m_low, .ref m_high, .ref m_first, .ref m_second, .ref m_lines, .ref m_others, .int j_shiftFirst, .int j_shiftMany, .int j_shiftLow, .int j_shiftHigh])), (m_now, .inl (kI, 192, .inl g_now)), (m_low, .inl (kI, 1000, .inl g_low)), (m_high, .inl (kI, 1000, .inl g_high))]) [0, 1, 2, 3] rfl
      have hD9 := hD.sub (ws' := [(h0, .inr (10, [.ref m_now, .ref m_draft, .ref m_past, .int j_acts, .ref m_images, .ref m_kept, .ref m_tape, .int j_taped, .int j_at, .int j_start, .int j_token, .int j_value, .int j_fault, .int j_place, .int j_latest, .ref m_low, .ref m_high, .ref m_first, .ref m_second, .ref m_lines, .ref m_others, .int j_shiftFirst, .int j_shiftMany, .int j_shiftLow, .int j_shiftHigh])), (m_now, .inl (kI, 192, .inl g_now)), (m_low, .inl (kI, 1000, .inl g_low)), (m_high, .inl (kI, 1000, .inl g_high))]) [0, 1, 2, 3] (by decide) rfl
      have hK9 := hK.sub (tys' := [(kI, .int)]) [0] rfl
      refine W.widen (k := 0) (n := 0) (Nat.le_of_ble_eq_true rfl) (Nat.le_of_ble_eq_true rfl) ?_
      exact W.iret (v := (-1000001)) hx hb hr (fun t ht hW => ⟨⟨(-1000001), (), rfl, trivial, g_low, g_high, by rw [ht]; exact hP9, va_K.moved hW.alike hK9, hD9, hg_low, hg_high⟩, hS.F ht⟩) hS.2.2 dX10_left_24
    · have nc3 : 0 ≤ i_1.toInt := pw_nlt c3 rfl (by decide)
      refine lv_iload_n hx hb dX10_left_12 rfl (lv_at hl 3 rfl) ?_
      refine lv_i2l (v := i_2.toInt64) hx hb dX10_left_13 rfl ?_
      refine lv_lconst (v := 0) hx hb dX10_left_14 (by decide) ?_
      refine lv_lconst (v := 1) hx hb dX10_left_15 (by decide) ?_
      have hPc := hP.sub (ws' := []) [] rfl
      have hKc := hK.sub (tys' := []) [] rfl
      refine va_calli (va_runS (As := [.long i_2.toInt64, .long 0, .long 1]) (rest := []) ⟨hx, hb, hml, hown, hts⟩ (c_X10_in0 l D i_2.toInt64 0 1) (cwS 3 hts g_X10_left_X10_in0 rfl rfl rfl (by decide +kernel) ⟨Nat.le_of_ble_eq_true rfl, Nat.le_of_ble_eq_true rfl⟩) ⟨fun a U g mk q => by obtain ⟨q0, qP, qK⟩ := q; exact ⟨q0, qP, va_K.moved (u := U) (U := U.calling g mk a) (Vm.Alike.refl U.vm) qK⟩, fun U hU hW => ⟨rfl, by rw [hU]; exact hPc, va_K.moved hW.alike hKc⟩⟩ rfl rfl hl.1 rfl (lv_room (Nat.le_of_ble_eq_true rfl)) dX10_left_16 ⟨Nat.le_of_ble_eq_true rfl, Nat.le_of_ble_eq_true rfl⟩) hS (fun _ _ h => h.elim) (fun _ h => h.elim) (fun r4 u t H1 locs ht hvm hw hB hz1 hk1 hS => ?_)
      have hP := pw_keep hP (fun q hq => hk1 q hq (fun h => h))
      generalize H1 = H at hP hS ⊢
      refine W.widen (k := 0) (n := 0) (Nat.le_of_ble_eq_true rfl) (Nat.le_of_ble_eq_true rfl) ?_
      have bor4 := hw.1
      have zor4 := pw_boolI bor4
      have hfr4 := hw.2
      have kl0 : (0 : Int64).toInt = 0 := by decide
      have kl1 : (1 : Int64).toInt = 1 := by decide
      try simp only [Int32.toInt_toInt64] at hfr4
      refine lv_if_ne (tgt := 25) hx hb dX10_left_19 (by decide) (fun c5 => ?_) (fun c5 => ?_)
      · have nc5 : r4.toInt ≠ 0 := pw_ne c5 rfl (by decide)
        refine lv_aload_n hx hb dX10_left_25 rfl (lv_at hl 0 rfl) ?_
        have hPc := hP.sub (ws' := [(h0, .inr (10, [.ref m_now, .ref m_draft, .ref m_past, .int j_acts, .ref m_images, .ref m_kept, .ref m_tape, .int j_taped, .int j_at, .int j_start, .int j_token, .int j_value, .int j_fault, .int j_place, .int j_latest, .ref m_low, .ref m_high, .ref m_first, .ref m_second, .ref m_lines, .ref m_others, .int j_shiftFirst, .int j_shiftMany, .int j_shiftLow, .int j_shiftHigh])), (m_now, .inl (kI, 192, .inl g_now)), (m_low, .inl (kI, 1000, .inl g_low)), (m_high, .inl (kI, 1000, .inl g_high))]) [0, 1, 2, 3] rfl
        have hKc := hK.sub (tys' := [(kI, .int)]) [0] rfl
        have hDc := hD.sub (ws' := [(h0, .inr (10, [.ref m_now, .ref m_draft, .ref m_past, .int j_acts, .ref m_images, .ref m_kept, .ref m_tape, .int j_taped, .int j_at, .int j_start, .int j_token, .int j_value, .int j_fault, .int j_place, .int j_latest, .ref m_low, .ref m_high, .ref m_first, .ref m_second, .ref m_lines, .ref m_others, .int j_shiftFirst, .int j_shiftMany, .int j_shiftLow, .int j_shiftHigh])), (m_now, .inl (kI, 192, .inl g_now)), (m_low, .inl (kI, 1000, .inl g_low)), (m_high, .inl (kI, 1000, .inl g_high))]) [0, 1, 2, 3] (by decide) rfl
        have hFc := va_free (wc := [(h0, .inr (10, [.ref m_now, .ref m_draft, .ref m_past, .int j_acts, .ref m_images, .ref m_kept, .ref m_tape, .int j_taped, .int j_at, .int j_start, .int j_token, .int j_value, .int j_fault, .int j_place, .int j_latest, .ref m_low, .ref m_high, .ref m_first, .ref m_second, .ref m_lines, .ref m_others, .int j_shiftFirst, .int j_shiftMany, .int j_shiftLow, .int j_shiftHigh])), (m_now, .inl (kI, 192, .inl g_now)), (m_low, .inl (kI, 1000, .inl g_low)), (m_high, .inl (kI, 1000, .inl g_high))]) hD hS hA [0, 1, 2, 3] rfl
        refine va_callv (va_runV (As := []) (rest := []) ⟨hx, hb, hml, hown, hts⟩ (c_X10_lays l D h0 m_now m_draft m_past j_acts m_images m_kept m_tape j_taped j_at j_start j_token j_value j_fault j_place j_latest m_low m_high m_first m_second m_lines m_others j_shiftFirst j_shiftMany j_shiftLow j_shiftHigh kI g_now g_low g_high H.size hg_now hg_low hg_high) (cwV 0 hts g_X10_left_X10_lays rfl rfl rfl (by decide +kernel) ⟨Nat.le_of_ble_eq_true rfl, Nat.le_of_ble_eq_true rfl⟩) ⟨fun a U g mk q => by obtain ⟨q0, q1, qP, qK, qD⟩ := q; exact ⟨q0, q1, qP, va_K.moved (u := U) (U := U.calling g mk a) (Vm.Alike.refl U.vm) qK, qD⟩, va_recv hKc hPc (ci := 10) (q0 := 0) rfl rfl, fun U hU hW => ⟨rfl, by rw [hU], by rw [hU]; exact hPc, va_K.moved hW.alike hKc, hDc.weaken (fun _ _ _ _ => trivial)⟩⟩ rfl rfl hl.1 rfl (lv_room (Nat.le_of_ble_eq_true rfl)) dX10_left_26 ⟨Nat.le_of_ble_eq_true rfl, Nat.le_of_ble_eq_true rfl⟩) hS (fun q _ h => hFc q h) hFc (fun u t H1 locs ht hvm hw hB hz1 hk1 hS => ?_)
        obtain ⟨y7, y8, hP1, hK1, hD1, hy7, hy8⟩ := hB
        rw [ht] at hP1
        have hK1 := va_K.moved hvm.symm hK1
        obtain ⟨hP, hD⟩ := va_join (wr := []) (w1 := [(h0, .inr (10, [.ref m_now, .ref m_draft, .ref m_past, .int j_acts, .ref m_images, .ref m_kept, .ref m_tape, .int j_taped, .int j_at, .int j_start, .int j_token, .int j_value, .int j_fault, .int j_place, .int j_latest, .ref m_low, .ref m_high, .ref m_first, .ref m_second, .ref m_lines, .ref m_others, .int j_shiftFirst, .int j_shiftMany, .int j_shiftLow, .int j_shiftHigh])), (m_now, .inl (kI, 192, .inl g_now)), (m_low, .inl (kI, 1000, .inl y7)), (m_high, .inl (kI, 1000, .inl y8))]) hP hD [0, 1, 2, 3] [] rfl rfl (by decide) (by decide) hk1 hFc hP1 hD1
        have hK := (hK.sub (tys' := [(kI, .int)]) [0] rfl).app hK1
        generalize H1 = H at hP hS ⊢
        have hP : va_P D vwCl [(h0, .inr (10, [.ref m_now, .ref m_draft, .ref m_past, .int j_acts, .ref m_images, .ref m_kept, .ref m_tape, .int j_taped, .int j_at, .int j_start, .int j_token, .int j_value, .int j_fault, .int j_place, .int j_latest, .ref m_low, .ref m_high, .ref m_first, .ref m_second, .ref m_lines, .ref m_others, .int j_shiftFirst, .int j_shiftMany, .int j_shiftLow, .int j_shiftHigh])), (m_now, .inl (kI, 192, .inl g_now)), (m_low, .inl (kI, 1000, .inl y7)), (m_high, .inl (kI, 1000, .inl y8))] H := hP
        have hD : va_D A [(h0, .inr (10, [.ref m_now, .ref m_draft, .ref m_past, .int j_acts, .ref m_images, .ref m_kept, .ref m_tape, .int j_taped, .int j_at, .int j_start, .int j_token, .int j_value, .int j_fault, .int j_place, .int j_latest, .ref m_low, .ref m_high, .ref m_first, .ref m_second, .ref m_lines, .ref m_others, .int j_shiftFirst, .int j_shiftMany, .int j_shiftLow, .int j_shiftHigh])), (m_now, .inl (kI, 192, .inl g_now)), (m_low, .inl (kI, 1000, .inl y7)), (m_high, .inl (kI, 1000, .inl y8))] := hD
        have hK : va_K D vwCl [(kI, .int), (kI, .int)] s := hK
        refine W.widen (k := 0) (n := 0) (Nat.le_of_ble_eq_true rfl) (Nat.le_of_ble_eq_true rfl) ?_
        refine lv_iconst (v := 0) hx hb dX10_left_29 (by decide) ?_
        refine lv_istore (lv' := [(4, .int 0), (0, .ref h0), (1, .int i_0), (2, .int i_1), (3, .int i_2)]) hx hb dX10_left_30 hl (by decide) rfl (fun ls hl => ?_)
        refine lv_ldc hx hb hown (hts (.constant RX10 61 (-1000000)) (List.mem_of_getElem? (i := 19) rfl)) dX10_left_32 ?_
        refine lv_istore (lv' := [(5, .int (-1000000)), (4, .int 0), (0, .ref h0), (1, .int i_0), (2, .int i_1), (3, .int i_2)]) hx hb dX10_left_34 hl (by decide) rfl (fun ls hl => ?_)
        refine lv_iconst (v := 0) hx hb dX10_left_36 (by decide) ?_
        refine lv_istore (lv' := [(6, .int 0), (5, .int (-1000000)), (4, .int 0), (0, .ref h0), (1, .int i_0), (2, .int i_1), (3, .int i_2)]) hx hb dX10_left_37 hl (by decide) rfl (fun ls hl => ?_)
        have hl9 : lv_has ls 8 [(0, .ref h0), (1, .int i_0), (2, .int i_1), (3, .int i_2), (4, .int 0), (5, .int (-1000000)), (6, .int 0)] := lv_sub hl [3, 4, 5, 6, 2, 1, 0] rfl
        refine pw_loop (fun (zz : Int32 × Int32 × Int32) H locs ls => match zz with | (v60, v61, v62) => va_P D vwCl [(h0, .inr (10, [.ref m_now, .ref m_draft, .ref m_past, .int j_acts, .ref m_images, .ref m_kept, .ref m_tape, .int j_taped, .int j_at, .int j_start, .int j_token, .int j_value, .int j_fault, .int j_place, .int j_latest, .ref m_low, .ref m_high, .ref m_first, .ref m_second, .ref m_lines, .ref m_others, .int j_shiftFirst, .int j_shiftMany, .int j_shiftLow, .int j_shiftHigh])), (m_now, .inl (kI, 192, .inl g_now)), (m_low, .inl (kI, 1000, .inl y7)), (m_high, .inl (kI, 1000, .inl y8))] H ∧ va_D A [(h0, .inr (10, [.ref m_now, .ref m_draft, .ref m_past, .int j_acts, .ref m_images, .ref m_kept, .ref m_tape, .int j_taped, .int j_at, .int j_start, .int j_token, .int j_value, .int j_fault, .int j_place, .int j_latest, .ref m_low, .ref m_high, .ref m_first, .ref m_second, .ref m_lines, .ref m_others, .int j_shiftFirst, .int j_shiftMany, .int j_shiftLow, .int j_shiftHigh])), (m_now, .inl (kI, 192, .inl g_now)), (m_low, .inl (kI, 1000, .inl y7)), (m_high, .inl (kI, 1000, .inl y8))] ∧ va_S A s.heap H locs ∧ lv_has ls 8 [(0, .ref h0), (1, .int i_0), (2, .int i_1), (3, .int i_2), (4, .int v60), (5, .int v61), (6, .int v62)] ∧ 0 ≤ v62.toInt) (fun (zz : Int32 × Int32 × Int32)  => match zz with | (v60, v61, v62) => (2147483648 - v62.toInt).toNat) 0 0 (fun (zz : Int32 × Int32 × Int32) ls => match zz with | (v60, v61, v62) => F0 m 39 ls []) (fun zz H locs ls ih63 hI => ?_) (0, (-1000000), 0) _ _ _ ⟨hP, hD, hS, hl9, (by decide)⟩
        obtain ⟨v60, v61, v62⟩ := zz
        obtain ⟨hP, hD, hS, hl, bv62⟩ := hI
        have bv62 : 0 ≤ v62.toInt := bv62
        have hP : va_P D vwCl [(h0, .inr (10, [.ref m_now, .ref m_draft, .ref m_past, .int j_acts, .ref m_images, .ref m_kept, .ref m_tape, .int j_taped, .int j_at, .int j_start, .int j_token, .int j_value, .int j_fault, .int j_place, .int j_latest, .ref m_low, .ref m_high, .ref m_first, .ref m_second, .ref m_lines, .ref m_others, .int j_shiftFirst, .int j_shiftMany, .int j_shiftLow, .int j_shiftHigh])), (m_now, .inl (kI, 192, .inl g_now)), (m_low, .inl (kI, 1000, .inl y7)), (m_high, .inl (kI, 1000, .inl y8))] H := hP
        have hD : va_D A [(h0, .inr (10, [.ref m_now, .ref m_draft, .ref m_past, .int j_acts, .ref m_images, .ref m_kept, .ref m_tape, .int j_taped, .int j_at, .int j_start, .int j_token, .int j_value, .int j_fault, .int j_place, .int j_latest, .ref m_low, .ref m_high, .ref m_first, .ref m_second, .ref m_lines, .ref m_others, .int j_shiftFirst, .int j_shiftMany, .int j_shiftLow, .int j_shiftHigh])), (m_now, .inl (kI, 192, .inl g_now)), (m_low, .inl (kI, 1000, .inl y7)), (m_high, .inl (kI, 1000, .inl y8))] := hD
        have hK : va_K D vwCl [(kI, .int), (kI, .int)] s := hK
        have hl : lv_has ls 8 [(0, .ref h0), (1, .int i_0), (2, .int i_1), (3, .int i_2), (4, .int v60), (5, .int v61), (6, .int v62)] := hl
        refine W.eq (g2 := F0 m 39 ls []) rfl ?_
        refine lv_iload hx hb dX10_left_39 (lv_at hl 6 rfl) ?_
        refine lv_aload_n hx hb dX10_left_41 rfl (lv_at hl 0 rfl) ?_
        refine va_get (D := D) (ci := 10) (v := .ref m_now) (C := RX10) (T := TX10) (N := 25) hx hb hts (fun _ h => List.mem_cons_of_mem _ (List.mem_append_right _ h)) hown hK hP 0 rfl rfl 0 (by decide) (hts (.fieldLink RX10 7 "LineCitesModel" "now" "[I") (List.mem_of_getElem? (i := 10) rfl)) (fun _ h9 => h9) rfl dX10_left_42 ?_
        refine lv_iconst (v := 0) hx hb dX10_left_45 (by decide) ?_
        refine va_iald hx hb hK hP 1 0 rfl rfl (vp_in_iff.mpr (by decide)) dX10_left_46 ?_
        refine lv_topi (fun x64 ex64 => ?_)
        have nx64 : 0 ≤ x64.toInt ∧ x64.toInt ≤ 200 := gV_0 hg_now ex64
        have zx64 := gV_00 ex64
        refine lv_icmp_gt (tgt := 145) hx hb dX10_left_47 (by decide) (fun c65 => ?_) (fun c65 => ?_)
        · have nc65 : x64.toInt < v62.toInt := pw_lt c65 rfl rfl
          have mc65v62 := pw_max v62
          have mc65x64 := pw_max x64
          refine lv_ldc hx hb hown (hts (.constant RX10 61 (-1000000)) (List.mem_of_getElem? (i := 19) rfl)) dX10_left_145 ?_
          have hP9 := hP.sub (ws' := [(h0, .inr (10, [.ref m_now, .ref m_draft, .ref m_past, .int j_acts, .ref m_images, .ref m_kept, .ref m_tape, .int j_taped, .int j_at, .int j_start, .int j_token, .int j_value, .int j_fault, .int j_place, .int j_latest, .ref m_low, .ref m_high, .ref m_first, .ref m_second, .ref m_lines, .ref m_others, .int j_shiftFirst, .int j_shiftMany, .int j_shiftLow, .int j_shiftHigh])), (m_now, .inl (kI, 192, .inl g_now)), (m_low, .inl (kI, 1000, .inl y7)), (m_high, .inl (kI, 1000, .inl y8))]) [0, 1, 2, 3] rfl
          have hD9 := hD.sub (ws' := [(h0, .inr (10, [.ref m_now, .ref m_draft, .ref m_past, .int j_acts, .ref m_images, .ref m_kept, .ref m_tape, .int j_taped, .int j_at, .int j_start, .int j_token, .int j_value, .int j_fault, .int j_place, .int j_latest, .ref m_low, .ref m_high, .ref m_first, .ref m_second, .ref m_lines, .ref m_others, .int j_shiftFirst, .int j_shiftMany, .int j_shiftLow, .int j_shiftHigh])), (m_now, .inl (kI, 192, .inl g_now)), (m_low, .inl (kI, 1000, .inl y7)), (m_high, .inl (kI, 1000, .inl y8))]) [0, 1, 2, 3] (by decide) rfl
          have hK9 := hK.sub (tys' := [(kI, .int)]) [0] rfl
          refine W.widen (k := 0) (n := 0) (Nat.le_of_ble_eq_true rfl) (Nat.le_of_ble_eq_true rfl) ?_
          exact W.iret (v := (-1000000)) hx hb hr (fun t ht hW => ⟨⟨(-1000000), (), rfl, trivial, y7, y8, by rw [ht]; exact hP9, va_K.moved hW.alike hK9, hD9, hy7, hy8⟩, hS.F ht⟩) hS.2.2 dX10_left_147
        · have nc65 : v62.toInt ≤ x64.toInt := pw_nlt c65 rfl rfl
          have mc65v62 := pw_max v62
          have mc65x64 := pw_max x64
          refine lv_iload hx hb dX10_left_50 (lv_at hl 6 rfl) ?_
          refine lv_aload_n hx hb dX10_left_52 rfl (lv_at hl 0 rfl) ?_
          refine va_get (D := D) (ci := 10) (v := .ref m_now) (C := RX10) (T := TX10) (N := 25) hx hb hts (fun _ h => List.mem_cons_of_mem _ (List.mem_append_right _ h)) hown hK hP 0 rfl rfl 0 (by decide) (hts (.fieldLink RX10 7 "LineCitesModel" "now" "[I") (List.mem_of_getElem? (i := 10) rfl)) (fun _ h9 => h9) rfl dX10_left_53 ?_
          refine lv_iconst (v := 0) hx hb dX10_left_56 (by decide) ?_
          refine va_iald hx hb hK hP 1 0 rfl rfl (vp_in_iff.mpr (by decide)) dX10_left_57 ?_
          refine lv_topi (fun x66 ex66 => ?_)
          have nx66 : 0 ≤ x66.toInt ∧ x66.toInt ≤ 200 := gV_0 hg_now ex66
          have zx66 := gV_00 ex66
          refine pw_join (fun (v70 : Int32) H locs ls => va_P D vwCl [(h0, .inr (10, [.ref m_now, .ref m_draft, .ref m_past, .int j_acts, .ref m_images, .ref m_kept, .ref m_tape, .int j_taped, .int j_at, .int j_start, .int j_token, .int j_value, .int j_fault, .int j_place, .int j_latest, .ref m_low, .ref m_high, .ref m_first, .ref m_second, .ref m_lines, .ref m_others, .int j_shiftFirst, .int j_shiftMany, .int j_shiftLow, .int j_shiftHigh])), (m_now, .inl (kI, 192, .inl g_now)), (m_low, .inl (kI, 1000, .inl y7)), (m_high, .inl (kI, 1000, .inl y8))] H ∧ va_D A [(h0, .inr (10, [.ref m_now, .ref m_draft, .ref m_past, .int j_acts, .ref m_images, .ref m_kept, .ref m_tape, .int j_taped, .int j_at, .int j_start, .int j_token, .int j_value, .int j_fault, .int j_place, .int j_latest, .ref m_low, .ref m_high, .ref m_first, .ref m_second, .ref m_lines, .ref m_others, .int j_shiftFirst, .int j_shiftMany, .int j_shiftLow, .int j_shiftHigh])), (m_now, .inl (kI, 192, .inl g_now)), (m_low, .inl (kI, 1000, .inl y7)), (m_high, .inl (kI, 1000, .inl y8))] ∧ va_S A s.heap H locs ∧ lv_has ls 8 [(0, .ref h0), (1, .int i_0), (2, .int i_1), (3, .int i_2), (4, .int v60), (5, .int v61), (6, .int v62)]) 0 0 (fun (v70 : Int32) ls => F0 m 76 ls [.int v70]) (fun v70 H locs ls hI => ?_) (fun hJ71 => ?_)
          ·
            obtain ⟨hP, hD, hS, hl⟩ := hI
            have hP : va_P D vwCl [(h0, .inr (10, [.ref m_now, .ref m_draft, .ref m_past, .int j_acts, .ref m_images, .ref m_kept, .ref m_tape, .int j_taped, .int j_at, .int j_start, .int j_token, .int j_value, .int j_fault, .int j_place, .int j_latest, .ref m_low, .ref m_high, .ref m_first, .ref m_second, .ref m_lines, .ref m_others, .int j_shiftFirst, .int j_shiftMany, .int j_shiftLow, .int j_shiftHigh])), (m_now, .inl (kI, 192, .inl g_now)), (m_low, .inl (kI, 1000, .inl y7)), (m_high, .inl (kI, 1000, .inl y8))] H := hP
            have hD : va_D A [(h0, .inr (10, [.ref m_now, .ref m_draft, .ref m_past, .int j_acts, .ref m_images, .ref m_kept, .ref m_tape, .int j_taped, .int j_at, .int j_start, .int j_token, .int j_value, .int j_fault, .int j_place, .int j_latest, .ref m_low, .ref m_high, .ref m_first, .ref m_second, .ref m_lines, .ref m_others, .int j_shiftFirst, .int j_shiftMany, .int j_shiftLow, .int j_shiftHigh])), (m_now, .inl (kI, 192, .inl g_now)), (m_low, .inl (kI, 1000, .inl y7)), (m_high, .inl (kI, 1000, .inl y8))] := hD
            have hK : va_K D vwCl [(kI, .int), (kI, .int)] s := hK
            have hl : lv_has ls 8 [(0, .ref h0), (1, .int i_0), (2, .int i_1), (3, .int i_2), (4, .int v60), (5, .int v61), (6, .int v62)] := hl
            refine W.eq (g2 := F0 m 76 ls [.int v70]) rfl ?_
            refine lv_istore (lv' := [(7, .int v70), (0, .ref h0), (1, .int i_0), (2, .int i_1), (3, .int i_2), (4, .int v60), (5, .int v61), (6, .int v62)]) hx hb dX10_left_76 hl (by decide) rfl (fun ls hl => ?_)
            refine lv_iload hx hb dX10_left_78 (lv_at hl 0 rfl) ?_
            refine pw_join (fun (v74 : Int32) H locs ls => va_P D vwCl [(h0, .inr (10, [.ref m_now, .ref m_draft, .ref m_past, .int j_acts, .ref m_images, .ref m_kept, .ref m_tape, .int j_taped, .int j_at, .int j_start, .int j_token, .int j_value, .int j_fault, .int j_place, .int j_latest, .ref m_low, .ref m_high, .ref m_first, .ref m_second, .ref m_lines, .ref m_others, .int j_shiftFirst, .int j_shiftMany, .int j_shiftLow, .int j_shiftHigh])), (m_now, .inl (kI, 192, .inl g_now)), (m_low, .inl (kI, 1000, .inl y7)), (m_high, .inl (kI, 1000, .inl y8))] H ∧ va_D A [(h0, .inr (10, [.ref m_now, .ref m_draft, .ref m_past, .int j_acts, .ref m_images, .ref m_kept, .ref m_tape, .int j_taped, .int j_at, .int j_start, .int j_token, .int j_value, .int j_fault, .int j_place, .int j_latest, .ref m_low, .ref m_high, .ref m_first, .ref m_second, .ref m_lines, .ref m_others, .int j_shiftFirst, .int j_shiftMany, .int j_shiftLow, .int j_shiftHigh])), (m_now, .inl (kI, 192, .inl g_now)), (m_low, .inl (kI, 1000, .inl y7)), (m_high, .inl (kI, 1000, .inl y8))] ∧ va_S A s.heap H locs ∧ lv_has ls 8 [(0, .ref h0), (1, .int i_0), (2, .int i_1), (3, .int i_2), (4, .int v60), (5, .int v61), (6, .int v62), (7, .int v70)]) 0 0 (fun (v74 : Int32) ls => F0 m 97 ls [.int v74]) (fun v74 H locs ls hI => ?_) (fun hJ75 => ?_)
            ·
              obtain ⟨hP, hD, hS, hl⟩ := hI
              have hP : va_P D vwCl [(h0, .inr (10, [.ref m_now, .ref m_draft, .ref m_past, .int j_acts, .ref m_images, .ref m_kept, .ref m_tape, .int j_taped, .int j_at, .int j_start, .int j_token, .int j_value, .int j_fault, .int j_place, .int j_latest, .ref m_low, .ref m_high, .ref m_first, .ref m_second, .ref m_lines, .ref m_others, .int j_shiftFirst, .int j_shiftMany, .int j_shiftLow, .int j_shiftHigh])), (m_now, .inl (kI, 192, .inl g_now)), (m_low, .inl (kI, 1000, .inl y7)), (m_high, .inl (kI, 1000, .inl y8))] H := hP
              have hD : va_D A [(h0, .inr (10, [.ref m_now, .ref m_draft, .ref m_past, .int j_acts, .ref m_images, .ref m_kept, .ref m_tape, .int j_taped, .int j_at, .int j_start, .int j_token, .int j_value, .int j_fault, .int j_place, .int j_latest, .ref m_low, .ref m_high, .ref m_first, .ref m_second, .ref m_lines, .ref m_others, .int j_shiftFirst, .int j_shiftMany, .int j_shiftLow, .int j_shiftHigh])), (m_now, .inl (kI, 192, .inl g_now)), (m_low, .inl (kI, 1000, .inl y7)), (m_high, .inl (kI, 1000, .inl y8))] := hD
              have hK : va_K D vwCl [(kI, .int), (kI, .int)] s := hK
              have hl : lv_has ls 8 [(0, .ref h0), (1, .int i_0), (2, .int i_1), (3, .int i_2), (4, .int v60), (5, .int v61), (6, .int v62), (7, .int v70)] := hl
              refine W.eq (g2 := F0 m 97 ls [.int v74]) rfl ?_
              refine lv_istore (lv' := [(5, .int v74), (0, .ref h0), (1, .int i_0), (2, .int i_1), (3, .int i_2), (4, .int v60), (6, .int v62), (7, .int v70)]) hx hb dX10_left_97 hl (by decide) rfl (fun ls hl => ?_)
              refine lv_iload hx hb dX10_left_99 (lv_at hl 7 rfl) ?_
              refine lv_if_ne (tgt := 139) hx hb dX10_left_101 (by decide) (fun c76 => ?_) (fun c76 => ?_)
              · have nc76 : v70.toInt ≠ 0 := pw_ne c76 rfl (by decide)
                obtain ⟨x77, ex77⟩ : ∃ y : Int32, y = v62 + 1 := ⟨_, rfl⟩
                have tx77 : x77.toInt = v62.toInt + 1 := pw_addX ex77 rfl (by decide) (by omega) (by omega)
                refine lv_iinc (v := x77) (lv' := [(6, .int x77), (5, .int v74), (0, .ref h0), (1, .int i_0), (2, .int i_1), (3, .int i_2), (4, .int v60), (7, .int v70)]) hx hb dX10_left_139 hl (k := 6) rfl (by rw [ex77]; rfl) (by decide) rfl (fun ls hl => ?_)
                refine lv_goto (tgt := 39) hx hb dX10_left_142 (by decide) ?_
                have hP9 : va_P D vwCl [(h0, .inr (10, [.ref m_now, .ref m_draft, .ref m_past, .int j_acts, .ref m_images, .ref m_kept, .ref m_tape, .int j_taped, .int j_at, .int j_start, .int j_token, .int j_value, .int j_fault, .int j_place, .int j_latest, .ref m_low, .ref m_high, .ref m_first, .ref m_second, .ref m_lines, .ref m_others, .int j_shiftFirst, .int j_shiftMany, .int j_shiftLow, .int j_shiftHigh])), (m_now, .inl (kI, 192, .inl g_now)), (m_low, .inl (kI, 1000, .inl y7)), (m_high, .inl (kI, 1000, .inl y8))] H := hP.sub [0, 1, 2, 3] rfl
                have hD9 : va_D A [(h0, .inr (10, [.ref m_now, .ref m_draft, .ref m_past, .int j_acts, .ref m_images, .ref m_kept, .ref m_tape, .int j_taped, .int j_at, .int j_start, .int j_token, .int j_value, .int j_fault, .int j_place, .int j_latest, .ref m_low, .ref m_high, .ref m_first, .ref m_second, .ref m_lines, .ref m_others, .int j_shiftFirst, .int j_shiftMany, .int j_shiftLow, .int j_shiftHigh])), (m_now, .inl (kI, 192, .inl g_now)), (m_low, .inl (kI, 1000, .inl y7)), (m_high, .inl (kI, 1000, .inl y8))] := hD.sub [0, 1, 2, 3] (by decide) rfl
                have hl9 : lv_has ls 8 [(0, .ref h0), (1, .int i_0), (2, .int i_1), (3, .int i_2), (4, .int v60), (5, .int v74), (6, .int x77)] := lv_sub hl [2, 3, 4, 5, 6, 1, 0] rfl
                refine W.widen (k := 0) (n := 0) (Nat.le_of_ble_eq_true rfl) (Nat.le_of_ble_eq_true rfl) ?_
                exact ih63 (v60, v74, x77) _ _ _ (pw_up ex77 (by omega)) ⟨hP9, hD9, hS, hl9, (pw_upge ex77 (by omega) (by omega))⟩
              · have nc76 : v70.toInt = 0 := pw_eq c76 rfl (by decide)
                refine lv_iload hx hb dX10_left_104 (lv_at hl 0 rfl) ?_
                refine lv_ldc hx hb hown (hts (.constant RX10 61 (-1000000)) (List.mem_of_getElem? (i := 19) rfl)) dX10_left_106 ?_
                refine lv_icmp_eq (tgt := 139) hx hb dX10_left_108 (by decide) (fun c78 => ?_) (fun c78 => ?_)
                · have nc78 : v74.toInt = (-1000000) := pw_eq c78 rfl (by decide)
                  obtain ⟨x79, ex79⟩ : ∃ y : Int32, y = v62 + 1 := ⟨_, rfl⟩
                  have tx79 : x79.toInt = v62.toInt + 1 := pw_addX ex79 rfl (by decide) (by omega) (by omega)
                  refine lv_iinc (v := x79) (lv' := [(6, .int x79), (5, .int v74), (0, .ref h0), (1, .int i_0), (2, .int i_1), (3, .int i_2), (4, .int v60), (7, .int v70)]) hx hb dX10_left_139 hl (k := 6) rfl (by rw [ex79]; rfl) (by decide) rfl (fun ls hl => ?_)
                  refine lv_goto (tgt := 39) hx hb dX10_left_142 (by decide) ?_
                  have hP9 : va_P D vwCl [(h0, .inr (10, [.ref m_now, .ref m_draft, .ref m_past, .int j_acts, .ref m_images, .ref m_kept, .ref m_tape, .int j_taped, .int j_at, .int j_start, .int j_token, .int j_value, .int j_fault, .int j_place, .int j_latest, .ref m_low, .ref m_high, .ref m_first, .ref m_second, .ref m_lines, .ref m_others, .int j_shiftFirst, .int j_shiftMany, .int j_shiftLow, .int j_shiftHigh])), (m_now, .inl (kI, 192, .inl g_now)), (m_low, .inl (kI, 1000, .inl y7)), (m_high, .inl (kI, 1000, .inl y8))] H := hP.sub [0, 1, 2, 3] rfl
                  have hD9 : va_D A [(h0, .inr (10, [.ref m_now, .ref m_draft, .ref m_past, .int j_acts, .ref m_images, .ref m_kept, .ref m_tape, .int j_taped, .int j_at, .int j_start, .int j_token, .int j_value, .int j_fault, .int j_place, .int j_latest, .ref m_low, .ref m_high, .ref m_first, .ref m_second, .ref m_lines, .ref m_others, .int j_shiftFirst, .int j_shiftMany, .int j_shiftLow, .int j_shiftHigh])), (m_now, .inl (kI, 192, .inl g_now)), (m_low, .inl (kI, 1000, .inl y7)), (m_high, .inl (kI, 1000, .inl y8))] := hD.sub [0, 1, 2, 3] (by decide) rfl
                  have hl9 : lv_has ls 8 [(0, .ref h0), (1, .int i_0), (2, .int i_1), (3, .int i_2), (4, .int v60), (5, .int v74), (6, .int x79)] := lv_sub hl [2, 3, 4, 5, 6, 1, 0] rfl
                  refine W.widen (k := 0) (n := 0) (Nat.le_of_ble_eq_true rfl) (Nat.le_of_ble_eq_true rfl) ?_
                  exact ih63 (v60, v74, x79) _ _ _ (pw_up ex79 (by omega)) ⟨hP9, hD9, hS, hl9, (pw_upge ex79 (by omega) (by omega))⟩
                · have nc78 : v74.toInt ≠ (-1000000) := pw_ne c78 rfl (by decide)
                  refine lv_iload hx hb dX10_left_111 (lv_at hl 5 rfl) ?_
                  refine lv_iload_n hx hb dX10_left_113 rfl (lv_at hl 3 rfl) ?_
                  refine lv_icmp_ne (tgt := 132) hx hb dX10_left_114 (by decide) (fun c80 => ?_) (fun c80 => ?_)
                  · have nc80 : v60.toInt ≠ i_1.toInt := pw_ne c80 rfl rfl
                    have mc80v60 := pw_max v60
                    have mc80i_1 := pw_max i_1
                    obtain ⟨x81, ex81⟩ : ∃ y : Int32, y = v60 + 1 := ⟨_, rfl⟩
                    refine lv_iinc (v := x81) (lv' := [(4, .int x81), (5, .int v74), (0, .ref h0), (1, .int i_0), (2, .int i_1), (3, .int i_2), (6, .int v62), (7, .int v70)]) hx hb dX10_left_132 hl (k := 5) rfl (by rw [ex81]; rfl) (by decide) rfl (fun ls hl => ?_)
                    refine lv_ldc hx hb hown (hts (.constant RX10 61 (-1000000)) (List.mem_of_getElem? (i := 19) rfl)) dX10_left_135 ?_
                    refine lv_istore (lv' := [(5, .int (-1000000)), (4, .int x81), (0, .ref h0), (1, .int i_0), (2, .int i_1), (3, .int i_2), (6, .int v62), (7, .int v70)]) hx hb dX10_left_137 hl (by decide) rfl (fun ls hl => ?_)
                    obtain ⟨x82, ex82⟩ : ∃ y : Int32, y = v62 + 1 := ⟨_, rfl⟩
                    have tx82 : x82.toInt = v62.toInt + 1 := pw_addX ex82 rfl (by decide) (by omega) (by omega)
                    refine lv_iinc (v := x82) (lv' := [(6, .int x82), (5, .int (-1000000)), (4, .int x81), (0, .ref h0), (1, .int i_0), (2, .int i_1), (3, .int i_2), (7, .int v70)]) hx hb dX10_left_139 hl (k := 6) rfl (by rw [ex82]; rfl) (by decide) rfl (fun ls hl => ?_)
                    refine lv_goto (tgt := 39) hx hb dX10_left_142 (by decide) ?_
                    have hP9 : va_P D vwCl [(h0, .inr (10, [.ref m_now, .ref m_draft, .ref m_past, .int j_acts, .ref m_images, .ref m_kept, .ref m_tape, .int j_taped, .int j_at, .int j_start, .int j_token, .int j_value, .int j_fault, .int j_place, .int j_latest, .ref m_low, .ref m_high, .ref m_first, .ref m_second, .ref m_lines, .ref m_others, .int j_shiftFirst, .int j_shiftMany, .int j_shiftLow, .int j_shiftHigh])), (m_now, .inl (kI, 192, .inl g_now)), (m_low, .inl (kI, 1000, .inl y7)), (m_high, .inl (kI, 1000, .inl y8))] H := hP.sub [0, 1, 2, 3] rfl
                    have hD9 : va_D A [(h0, .inr (10, [.ref m_now, .ref m_draft, .ref m_past, .int j_acts, .ref m_images, .ref m_kept, .ref m_tape, .int j_taped, .int j_at, .int j_start, .int j_token, .int j_value, .int j_fault, .int j_place, .int j_latest, .ref m_low, .ref m_high, .ref m_first, .ref m_second, .ref m_lines, .ref m_others, .int j_shiftFirst, .int j_shiftMany, .int j_shiftLow, .int j_shiftHigh])), (m_now, .inl (kI, 192, .inl g_now)), (m_low, .inl (kI, 1000, .inl y7)), (m_high, .inl (kI, 1000, .inl y8))] := hD.sub [0, 1, 2, 3] (by decide) rfl
                    have hl9 : lv_has ls 8 [(0, .ref h0), (1, .int i_0), (2, .int i_1), (3, .int i_2), (4, .int x81), (5, .int (-1000000)), (6, .int x82)] := lv_sub hl [3, 4, 5, 6, 2, 1, 0] rfl
                    refine W.widen (k := 0) (n := 0) (Nat.le_of_ble_eq_true rfl) (Nat.le_of_ble_eq_true rfl) ?_
                    exact ih63 (x81, (-1000000), x82) _ _ _ (pw_up ex82 (by omega)) ⟨hP9, hD9, hS, hl9, (pw_upge ex82 (by omega) (by omega))⟩
                  · have nc80 : v60.toInt = i_1.toInt := pw_eq c80 rfl rfl
                    have mc80v60 := pw_max v60
                    have mc80i_1 := pw_max i_1
                    refine lv_iload_n hx hb dX10_left_117 rfl (lv_at hl 4 rfl) ?_
                    refine lv_if_ne (tgt := 126) hx hb dX10_left_118 (by decide) (fun c83 => ?_) (fun c83 => ?_)
                    · have nc83 : i_2.toInt ≠ 0 := pw_ne c83 rfl (by decide)
                      refine lv_iload hx hb dX10_left_126 (lv_at hl 6 rfl) ?_
                      refine lv_iload hx hb dX10_left_128 (lv_at hl 0 rfl) ?_
                      refine lv_isub hx hb dX10_left_130 ?_
                      refine lv_topi (fun x84 ex84 => ?_)
                      have hP9 := hP.sub (ws' := [(h0, .inr (10, [.ref m_now, .ref m_draft, .ref m_past, .int j_acts, .ref m_images, .ref m_kept, .ref m_tape, .int j_taped, .int j_at, .int j_start, .int j_token, .int j_value, .int j_fault, .int j_place, .int j_latest, .ref m_low, .ref m_high, .ref m_first, .ref m_second, .ref m_lines, .ref m_others, .int j_shiftFirst, .int j_shiftMany, .int j_shiftLow, .int j_shiftHigh])), (m_now, .inl (kI, 192, .inl g_now)), (m_low, .inl (kI, 1000, .inl y7)), (m_high, .inl (kI, 1000, .inl y8))]) [0, 1, 2, 3] rfl
                      have hD9 := hD.sub (ws' := [(h0, .inr (10, [.ref m_now, .ref m_draft, .ref m_past, .int j_acts, .ref m_images, .ref m_kept, .ref m_tape, .int j_taped, .int j_at, .int j_start, .int j_token, .int j_value, .int j_fault, .int j_place, .int j_latest, .ref m_low, .ref m_high, .ref m_first, .ref m_second, .ref m_lines, .ref m_others, .int j_shiftFirst, .int j_shiftMany, .int j_shiftLow, .int j_shiftHigh])), (m_now, .inl (kI, 192, .inl g_now)), (m_low, .inl (kI, 1000, .inl y7)), (m_high, .inl (kI, 1000, .inl y8))]) [0, 1, 2, 3] (by decide) rfl
                      have hK9 := hK.sub (tys' := [(kI, .int)]) [0] rfl
                      refine W.widen (k := 0) (n := 0) (Nat.le_of_ble_eq_true rfl) (Nat.le_of_ble_eq_true rfl) ?_
                      exact W.iret (v := x84) hx hb hr (fun t ht hW => ⟨⟨x84, (), rfl, trivial, y7, y8, by rw [ht]; exact hP9, va_K.moved hW.alike hK9, hD9, hy7, hy8⟩, hS.F ht⟩) hS.2.2 dX10_left_131
                    · have nc83 : i_2.toInt = 0 := pw_eq c83 rfl (by decide)
                      refine lv_iload hx hb dX10_left_121 (lv_at hl 0 rfl) ?_
                      refine lv_goto (tgt := 131) hx hb dX10_left_123 (by decide) ?_
                      have hP9 := hP.sub (ws' := [(h0, .inr (10, [.ref m_now, .ref m_draft, .ref m_past, .int j_acts, .ref m_images, .ref m_kept, .ref m_tape, .int j_taped, .int j_at, .int j_start, .int j_token, .int j_value, .int j_fault, .int j_place, .int j_latest, .ref m_low, .ref m_high, .ref m_first, .ref m_second, .ref m_lines, .ref m_others, .int j_shiftFirst, .int j_shiftMany, .int j_shiftLow, .int j_shiftHigh])), (m_now, .inl (kI, 192, .inl g_now)), (m_low, .inl (kI, 1000, .inl y7)), (m_high, .inl (kI, 1000, .inl y8))]) [0, 1, 2, 3] rfl
                      have hD9 := hD.sub (ws' := [(h0, .inr (10, [.ref m_now, .ref m_draft, .ref m_past, .int j_acts, .ref m_images, .ref m_kept, .ref m_tape, .int j_taped, .int j_at, .int j_start, .int j_token, .int j_value, .int j_fault, .int j_place, .int j_latest, .ref m_low, .ref m_high, .ref m_first, .ref m_second, .ref m_lines, .ref m_others, .int j_shiftFirst, .int j_shiftMany, .int j_shiftLow, .int j_shiftHigh])), (m_now, .inl (kI, 192, .inl g_now)), (m_low, .inl (kI, 1000, .inl y7)), (m_high, .inl (kI, 1000, .inl y8))]) [0, 1, 2, 3] (by decide) rfl
                      have hK9 := hK.sub (tys' := [(kI, .int)]) [0] rfl
                      refine W.widen (k := 0) (n := 0) (Nat.le_of_ble_eq_true rfl) (Nat.le_of_ble_eq_true rfl) ?_
                      exact W.iret (v := v74) hx hb hr (fun t ht hW => ⟨⟨v74, (), rfl, trivial, y7, y8, by rw [ht]; exact hP9, va_K.moved hW.alike hK9, hD9, hy7, hy8⟩, hS.F ht⟩) hS.2.2 dX10_left_131
            ·
              refine lv_if_eq (tgt := 95) hx hb dX10_left_80 (by decide) (fun c85 => ?_) (fun c85 => ?_)
              · have nc85 : v70.toInt = 0 := pw_eq c85 rfl (by decide)
                refine lv_iload hx hb dX10_left_95 (lv_at hl 6 rfl) ?_
                have hP9 : va_P D vwCl [(h0, .inr (10, [.ref m_now, .ref m_draft, .ref m_past, .int j_acts, .ref m_images, .ref m_kept, .ref m_tape, .int j_taped, .int j_at, .int j_start, .int j_token, .int j_value, .int j_fault, .int j_place, .int j_latest, .ref m_low, .ref m_high, .ref m_first, .ref m_second, .ref m_lines, .ref m_others, .int j_shiftFirst, .int j_shiftMany, .int j_shiftLow, .int j_shiftHigh])), (m_now, .inl (kI, 192, .inl g_now)), (m_low, .inl (kI, 1000, .inl y7)), (m_high, .inl (kI, 1000, .inl y8))] H := hP.sub [0, 1, 2, 3] rfl
                have hD9 : va_D A [(h0, .inr (10, [.ref m_now, .ref m_draft, .ref m_past, .int j_acts, .ref m_images, .ref m_kept, .ref m_tape, .int j_taped, .int j_at, .int j_start, .int j_token, .int j_value, .int j_fault, .int j_place, .int j_latest, .ref m_low, .ref m_high, .ref m_first, .ref m_second, .ref m_lines, .ref m_others, .int j_shiftFirst, .int j_shiftMany, .int j_shiftLow, .int j_shiftHigh])), (m_now, .inl (kI, 192, .inl g_now)), (m_low, .inl (kI, 1000, .inl y7)), (m_high, .inl (kI, 1000, .inl y8))] := hD.sub [0, 1, 2, 3] (by decide) rfl
                have hl9 : lv_has ls 8 [(0, .ref h0), (1, .int i_0), (2, .int i_1), (3, .int i_2), (4, .int v60), (5, .int v61), (6, .int v62), (7, .int v70)] := lv_sub hl [1, 2, 3, 4, 5, 6, 7, 0] rfl
                refine W.widen (k := 0) (n := 0) (Nat.le_of_ble_eq_true rfl) (Nat.le_of_ble_eq_true rfl) ?_
                exact hJ75 v61 _ _ _ ⟨hP9, hD9, hS, hl9⟩
              · have nc85 : v70.toInt ≠ 0 := pw_ne c85 rfl (by decide)
                refine lv_iload hx hb dX10_left_83 (lv_at hl 6 rfl) ?_
                refine lv_ldc hx hb hown (hts (.constant RX10 61 (-1000000)) (List.mem_of_getElem? (i := 19) rfl)) dX10_left_85 ?_
                refine lv_icmp_ne (tgt := 95) hx hb dX10_left_87 (by decide) (fun c86 => ?_) (fun c86 => ?_)
                · have nc86 : v61.toInt ≠ (-1000000) := pw_ne c86 rfl (by decide)
                  refine lv_iload hx hb dX10_left_95 (lv_at hl 6 rfl) ?_
                  have hP9 : va_P D vwCl [(h0, .inr (10, [.ref m_now, .ref m_draft, .ref m_past, .int j_acts, .ref m_images, .ref m_kept, .ref m_tape, .int j_taped, .int j_at, .int j_start, .int j_token, .int j_value, .int j_fault, .int j_place, .int j_latest, .ref m_low, .ref m_high, .ref m_first, .ref m_second, .ref m_lines, .ref m_others, .int j_shiftFirst, .int j_shiftMany, .int j_shiftLow, .int j_shiftHigh])), (m_now, .inl (kI, 192, .inl g_now)), (m_low, .inl (kI, 1000, .inl y7)), (m_high, .inl (kI, 1000, .inl y8))] H := hP.sub [0, 1, 2, 3] rfl
                  have hD9 : va_D A [(h0, .inr (10, [.ref m_now, .ref m_draft, .ref m_past, .int j_acts, .ref m_images, .ref m_kept, .ref m_tape, .int j_taped, .int j_at, .int j_start, .int j_token, .int j_value, .int j_fault, .int j_place, .int j_latest, .ref m_low, .ref m_high, .ref m_first, .ref m_second, .ref m_lines, .ref m_others, .int j_shiftFirst, .int j_shiftMany, .int j_shiftLow, .int j_shiftHigh])), (m_now, .inl (kI, 192, .inl g_now)), (m_low, .inl (kI, 1000, .inl y7)), (m_high, .inl (kI, 1000, .inl y8))] := hD.sub [0, 1, 2, 3] (by decide) rfl
                  have hl9 : lv_has ls 8 [(0, .ref h0), (1, .int i_0), (2, .int i_1), (3, .int i_2), (4, .int v60), (5, .int v61), (6, .int v62), (7, .int v70)] := lv_sub hl [1, 2, 3, 4, 5, 6, 7, 0] rfl
                  refine W.widen (k := 0) (n := 0) (Nat.le_of_ble_eq_true rfl) (Nat.le_of_ble_eq_true rfl) ?_
                  exact hJ75 v61 _ _ _ ⟨hP9, hD9, hS, hl9⟩
                · have nc86 : v61.toInt = (-1000000) := pw_eq c86 rfl (by decide)
                  refine lv_iload hx hb dX10_left_90 (lv_at hl 7 rfl) ?_
                  refine lv_goto (tgt := 97) hx hb dX10_left_92 (by decide) ?_
                  have hP9 : va_P D vwCl [(h0, .inr (10, [.ref m_now, .ref m_draft, .ref m_past, .int j_acts, .ref m_images, .ref m_kept, .ref m_tape, .int j_taped, .int j_at, .int j_start, .int j_token, .int j_value, .int j_fault, .int j_place, .int j_latest, .ref m_low, .ref m_high, .ref m_first, .ref m_second, .ref m_lines, .ref m_others, .int j_shiftFirst, .int j_shiftMany, .int j_shiftLow, .int j_shiftHigh])), (m_now, .inl (kI, 192, .inl g_now)), (m_low, .inl (kI, 1000, .inl y7)), (m_high, .inl (kI, 1000, .inl y8))] H := hP.sub [0, 1, 2, 3] rfl
                  have hD9 : va_D A [(h0, .inr (10, [.ref m_now, .ref m_draft, .ref m_past, .int j_acts, .ref m_images, .ref m_kept, .ref m_tape, .int j_taped, .int j_at, .int j_start, .int j_token, .int j_value, .int j_fault, .int j_place, .int j_latest, .ref m_low, .ref m_high, .ref m_first, .ref m_second, .ref m_lines, .ref m_others, .int j_shiftFirst, .int j_shiftMany, .int j_shiftLow, .int j_shiftHigh])), (m_now, .inl (kI, 192, .inl g_now)), (m_low, .inl (kI, 1000, .inl y7)), (m_high, .inl (kI, 1000, .inl y8))] := hD.sub [0, 1, 2, 3] (by decide) rfl
                  have hl9 : lv_has ls 8 [(0, .ref h0), (1, .int i_0), (2, .int i_1), (3, .int i_2), (4, .int v60), (5, .int v61), (6, .int v62), (7, .int v70)] := lv_sub hl [1, 2, 3, 4, 5, 6, 7, 0] rfl
                  refine W.widen (k := 0) (n := 0) (Nat.le_of_ble_eq_true rfl) (Nat.le_of_ble_eq_true rfl) ?_
                  exact hJ75 v62 _ _ _ ⟨hP9, hD9, hS, hl9⟩
          ·
            refine lv_icmp_ge (tgt := 75) hx hb dX10_left_58 (by decide) (fun c87 => ?_) (fun c87 => ?_)
            · have nc87 : x66.toInt ≤ v62.toInt := pw_le c87 rfl rfl
              have mc87v62 := pw_max v62
              have mc87x66 := pw_max x66
              refine lv_iconst (v := 0) hx hb dX10_left_75 (by decide) ?_
              have hP9 : va_P D vwCl [(h0, .inr (10, [.ref m_now, .ref m_draft, .ref m_past, .int j_acts, .ref m_images, .ref m_kept, .ref m_tape, .int j_taped, .int j_at, .int j_start, .int j_token, .int j_value, .int j_fault, .int j_place, .int j_latest, .ref m_low, .ref m_high, .ref m_first, .ref m_second, .ref m_lines, .ref m_others, .int j_shiftFirst, .int j_shiftMany, .int j_shiftLow, .int j_shiftHigh])), (m_now, .inl (kI, 192, .inl g_now)), (m_low, .inl (kI, 1000, .inl y7)), (m_high, .inl (kI, 1000, .inl y8))] H := hP.sub [0, 1, 2, 3] rfl
              have hD9 : va_D A [(h0, .inr (10, [.ref m_now, .ref m_draft, .ref m_past, .int j_acts, .ref m_images, .ref m_kept, .ref m_tape, .int j_taped, .int j_at, .int j_start, .int j_token, .int j_value, .int j_fault, .int j_place, .int j_latest, .ref m_low, .ref m_high, .ref m_first, .ref m_second, .ref m_lines, .ref m_others, .int j_shiftFirst, .int j_shiftMany, .int j_shiftLow, .int j_shiftHigh])), (m_now, .inl (kI, 192, .inl g_now)), (m_low, .inl (kI, 1000, .inl y7)), (m_high, .inl (kI, 1000, .inl y8))] := hD.sub [0, 1, 2, 3] (by decide) rfl
              have hl9 : lv_has ls 8 [(0, .ref h0), (1, .int i_0), (2, .int i_1), (3, .int i_2), (4, .int v60), (5, .int v61), (6, .int v62)] := lv_sub hl [0, 1, 2, 3, 4, 5, 6] rfl
              refine W.widen (k := 0) (n := 0) (Nat.le_of_ble_eq_true rfl) (Nat.le_of_ble_eq_true rfl) ?_
              exact hJ71 0 _ _ _ ⟨hP9, hD9, hS, hl9⟩
            · have nc87 : v62.toInt < x66.toInt := pw_nle c87 rfl rfl
              have mc87v62 := pw_max v62
              have mc87x66 := pw_max x66
              refine lv_aload_n hx hb dX10_left_61 rfl (lv_at hl 0 rfl) ?_
              refine lv_iload_n hx hb dX10_left_62 rfl (lv_at hl 1 rfl) ?_
              refine lv_iload hx hb dX10_left_63 (lv_at hl 6 rfl) ?_
              have hPc := hP.sub (ws' := [(h0, .inr (10, [.ref m_now, .ref m_draft, .ref m_past, .int j_acts, .ref m_images, .ref m_kept, .ref m_tape, .int j_taped, .int j_at, .int j_start, .int j_token, .int j_value, .int j_fault, .int j_place, .int j_latest, .ref m_low, .ref m_high, .ref m_first, .ref m_second, .ref m_lines, .ref m_others, .int j_shiftFirst, .int j_shiftMany, .int j_shiftLow, .int j_shiftHigh])), (m_low, .inl (kI, 1000, .inl y7))]) [0, 2] rfl
              have hKc := hK.sub (tys' := [(kI, .int)]) [0] rfl
              refine va_calli (va_runV (As := [.int i_0, .int v62]) (rest := []) ⟨hx, hb, hml, hown, hts⟩ (c_X10_hasNumber l D h0 i_0 v62 m_now m_draft m_past j_acts m_images m_kept m_tape j_taped j_at j_start j_token j_value j_fault j_place j_latest m_low m_high m_first m_second m_lines m_others j_shiftFirst j_shiftMany j_shiftLow j_shiftHigh kI y7 (by first | decide | omega) (by first | decide | omega) (by first | decide | omega) (by first | decide | omega) hy7) (cwV 2 hts g_X10_left_X10_hasNumber rfl rfl rfl (by decide +kernel) ⟨Nat.le_of_ble_eq_true rfl, Nat.le_of_ble_eq_true rfl⟩) ⟨fun a U g mk q => by obtain ⟨q0, qP, qK⟩ := q; exact ⟨q0, qP, va_K.moved (u := U) (U := U.calling g mk a) (Vm.Alike.refl U.vm) qK⟩, va_recv hKc hPc (ci := 10) (q0 := 0) rfl rfl, fun U hU hW => ⟨rfl, by rw [hU]; exact hPc, va_K.moved hW.alike hKc⟩⟩ rfl rfl hl.1 rfl (lv_room (Nat.le_of_ble_eq_true rfl)) dX10_left_65 ⟨Nat.le_of_ble_eq_true rfl, Nat.le_of_ble_eq_true rfl⟩) hS (fun _ _ h => h.elim) (fun _ h => h.elim) (fun r88 u t H1 locs ht hvm hw hB hz1 hk1 hS => ?_)
              have hP := pw_keep hP (fun q hq => hk1 q hq (fun h => h))
              generalize H1 = H at hP hS ⊢
              refine W.widen (k := 0) (n := 0) (Nat.le_of_ble_eq_true rfl) (Nat.le_of_ble_eq_true rfl) ?_
              have bor88 := hw.1
              have zor88 := pw_boolI bor88
              refine lv_if_ne (tgt := 75) hx hb dX10_left_68 (by decide) (fun c89 => ?_) (fun c89 => ?_)
              · have nc89 : r88.toInt ≠ 0 := pw_ne c89 rfl (by decide)
                refine lv_iconst (v := 0) hx hb dX10_left_75 (by decide) ?_
                have hP9 : va_P D vwCl [(h0, .inr (10, [.ref m_now, .ref m_draft, .ref m_past, .int j_acts, .ref m_images, .ref m_kept, .ref m_tape, .int j_taped, .int j_at, .int j_start, .int j_token, .int j_value, .int j_fault, .int j_place, .int j_latest, .ref m_low, .ref m_high, .ref m_first, .ref m_second, .ref m_lines, .ref m_others, .int j_shiftFirst, .int j_shiftMany, .int j_shiftLow, .int j_shiftHigh])), (m_now, .inl (kI, 192, .inl g_now)), (m_low, .inl (kI, 1000, .inl y7)), (m_high, .inl (kI, 1000, .inl y8))] H := hP.sub [0, 1, 2, 3] rfl
                have hD9 : va_D A [(h0, .inr (10, [.ref m_now, .ref m_draft, .ref m_past, .int j_acts, .ref m_images, .ref m_kept, .ref m_tape, .int j_taped, .int j_at, .int j_start, .int j_token, .int j_value, .int j_fault, .int j_place, .int j_latest, .ref m_low, .ref m_high, .ref m_first, .ref m_second, .ref m_lines, .ref m_others, .int j_shiftFirst, .int j_shiftMany, .int j_shiftLow, .int j_shiftHigh])), (m_now, .inl (kI, 192, .inl g_now)), (m_low, .inl (kI, 1000, .inl y7)), (m_high, .inl (kI, 1000, .inl y8))] := hD.sub [0, 1, 2, 3] (by decide) rfl
                have hl9 : lv_has ls 8 [(0, .ref h0), (1, .int i_0), (2, .int i_1), (3, .int i_2), (4, .int v60), (5, .int v61), (6, .int v62)] := lv_sub hl [0, 1, 2, 3, 4, 5, 6] rfl
                refine W.widen (k := 0) (n := 0) (Nat.le_of_ble_eq_true rfl) (Nat.le_of_ble_eq_true rfl) ?_
                exact hJ71 0 _ _ _ ⟨hP9, hD9, hS, hl9⟩
              · have nc89 : r88.toInt = 0 := pw_eq c89 rfl (by decide)
                refine lv_iconst (v := 1) hx hb dX10_left_71 (by decide) ?_
                refine lv_goto (tgt := 76) hx hb dX10_left_72 (by decide) ?_
                have hP9 : va_P D vwCl [(h0, .inr (10, [.ref m_now, .ref m_draft, .ref m_past, .int j_acts, .ref m_images, .ref m_kept, .ref m_tape, .int j_taped, .int j_at, .int j_start, .int j_token, .int j_value, .int j_fault, .int j_place, .int j_latest, .ref m_low, .ref m_high, .ref m_first, .ref m_second, .ref m_lines, .ref m_others, .int j_shiftFirst, .int j_shiftMany, .int j_shiftLow, .int j_shiftHigh])), (m_now, .inl (kI, 192, .inl g_now)), (m_low, .inl (kI, 1000, .inl y7)), (m_high, .inl (kI, 1000, .inl y8))] H := hP.sub [0, 1, 2, 3] rfl
                have hD9 : va_D A [(h0, .inr (10, [.ref m_now, .ref m_draft, .ref m_past, .int j_acts, .ref m_images, .ref m_kept, .ref m_tape, .int j_taped, .int j_at, .int j_start, .int j_token, .int j_value, .int j_fault, .int j_place, .int j_latest, .ref m_low, .ref m_high, .ref m_first, .ref m_second, .ref m_lines, .ref m_others, .int j_shiftFirst, .int j_shiftMany, .int j_shiftLow, .int j_shiftHigh])), (m_now, .inl (kI, 192, .inl g_now)), (m_low, .inl (kI, 1000, .inl y7)), (m_high, .inl (kI, 1000, .inl y8))] := hD.sub [0, 1, 2, 3] (by decide) rfl
                have hl9 : lv_has ls 8 [(0, .ref h0), (1, .int i_0), (2, .int i_1), (3, .int i_2), (4, .int v60), (5, .int v61), (6, .int v62)] := lv_sub hl [0, 1, 2, 3, 4, 5, 6] rfl
                refine W.widen (k := 0) (n := 0) (Nat.le_of_ble_eq_true rfl) (Nat.le_of_ble_eq_true rfl) ?_
                exact hJ71 1 _ _ _ ⟨hP9, hD9, hS, hl9⟩
      · have nc5 : r4.toInt = 0 := pw_eq c5 rfl (by decide)
        refine lv_ldc hx hb hown (hts (.constant RX10 177 (-1000001)) (List.mem_of_getElem? (i := 14) rfl)) dX10_left_22 ?_
        have hP9 := hP.sub (ws' := [(h0, .inr (10, [.ref m_now, .ref m_draft, .ref m_past, .int j_acts, .ref m_images, .ref m_kept, .ref m_tape, .int j_taped, .int j_at, .int j_start, .int j_token, .int j_value, .int j_fault, .int j_place, .int j_latest, .ref m_low, .ref m_high, .ref m_first, .ref m_second, .ref m_lines, .ref m_others, .int j_shiftFirst, .int j_shiftMany, .int j_shiftLow, .int j_shiftHigh])), (m_now, .inl (kI, 192, .inl g_now)), (m_low, .inl (kI, 1000, .inl g_low)), (m_high, .inl (kI, 1000, .inl g_high))]) [0, 1, 2, 3] rfl
        have hD9 := hD.sub (ws' := [(h0, .inr (10, [.ref m_now, .ref m_draft, .ref m_past, .int j_acts, .ref m_images, .ref m_kept, .ref m_tape, .int j_taped, .int j_at, .int j_start, .int j_token, .int j_value, .int j_fault, .int j_place, .int j_latest, .ref m_low, .ref m_high, .ref m_first, .ref m_second, .ref m_lines, .ref m_others, .int j_shiftFirst, .int j_shiftMany, .int j_shiftLow, .int j_shiftHigh])), (m_now, .inl (kI, 192, .inl g_now)), (m_low, .inl (kI, 1000, .inl g_low)), (m_high, .inl (kI, 1000, .inl g_high))]) [0, 1, 2, 3] (by decide) rfl
        have hK9 := hK.sub (tys' := [(kI, .int)]) [0] rfl
        refine W.widen (k := 0) (n := 0) (Nat.le_of_ble_eq_true rfl) (Nat.le_of_ble_eq_true rfl) ?_
        exact W.iret (v := (-1000001)) hx hb hr (fun t ht hW => ⟨⟨(-1000001), (), rfl, trivial, g_low, g_high, by rw [ht]; exact hP9, va_K.moved hW.alike hK9, hD9, hg_low, hg_high⟩, hS.F ht⟩) hS.2.2 dX10_left_24
def w_X10_in : List Cond := .code yX10_in cX10_in 5 (some .int) :: ([.methodLink RX10 55 yX10_isEdition, .instanceMethod yX10_isEdition, .selects RX10 yX10_isEdition yX10_isEdition, .initialized RX10, .code yX10_isEdition cX10_isEdition 2 (some .boolean), .methodLink RX10 47 yX10_isWork, .instanceMethod yX10_isWork, .selects RX10 yX10_isWork yX10_isWork, .code yX10_isWork cX10_isWork 1 (some .boolean), .fieldLink RX10 7 "LineCitesModel" "now" "[I", .methodLink RX10 51 yX10_in0, .static yX10_in0, .code yX10_in0 cX10_in0 6 (some .boolean), .constant RX10 177 (-1000001), .methodLink RX10 145 yX10_isNumber, .static yX10_isNumber, .code yX10_isNumber cX10_isNumber 1 (some .boolean), .constantLong RX10 59 (999), .constantLong RX10 219 (2), .methodLink RX10 221 yX10_lays, .instanceMethod yX10_lays, .selects RX10 yX10_lays yX10_lays, .code yX10_lays cX10_lays 9 none, .constant RX10 61 (-1000000), .fieldLink RX10 29 "LineCitesModel" "low" "[I", .fieldLink RX10 32 "LineCitesModel" "high" "[I", .methodLink RX10 66 yX10_stretchOf, .static yX10_stretchOf, .code yX10_stretchOf cX10_stretchOf 7 (some .int), .methodLink RX10 62 yX10_of, .static yX10_of, .code yX10_of cX10_of 4 (some .int), .fieldLink RX10 35 "LineCitesModel" "first" "[Z", .methodLink RX10 87 yX10_clears, .static yX10_clears, .code yX10_clears cX10_clears 2 none, .methodLink RX10 91 yX10_comes, .instanceMethod yX10_comes, .selects RX10 yX10_comes yX10_comes, .code yX10_comes cX10_comes 6 none, .methodLink RX10 69 yX10_isMeant, .instanceMethod yX10_isMeant, .selects RX10 yX10_isMeant yX10_isMeant, .code yX10_isMeant cX10_isMeant 4 (some .boolean), .methodLink RX10 73 yX10_hasNumber, .instanceMethod yX10_hasNumber, .selects RX10 yX10_hasNumber yX10_hasNumber, .code yX10_hasNumber cX10_hasNumber 3 (some .boolean), .methodLink RX10 251 yX10_told, .static yX10_told, .code yX10_told cX10_told 2 (some .int), .methodLink RX10 84 yX10_greatestOf, .static yX10_greatestOf, .code yX10_greatestOf cX10_greatestOf 3 (some .int), .methodLink RX10 81 yX10_leastOf, .static yX10_leastOf, .code yX10_leastOf cX10_leastOf 3 (some .int), .methodLink RX10 77 yX10_manyIn, .static yX10_manyIn, .code yX10_manyIn cX10_manyIn 3 (some .int)] ++ wsX100)
set_option maxRecDepth 20000 in
theorem g_X10_in_X10_isEdition : GoodIn w_X10_in (wsV RX10 55 RX10 yX10_isEdition w_X10_isEdition) := goodIn_r _ [1, 2, 3, 4, 5, 6, 7, 8, 4, 9, 10, 11, 12, 13, 61, 62, 63, 64, 65, 66, 67, 68, 69, 70, 71, 72, 73, 74, 75, 76, 77, 78, 79, 80, 81, 82, 83, 84, 85] rfl (by decide +kernel)
set_option maxRecDepth 20000 in
theorem g_X10_in_X10_isNumber : GoodIn w_X10_in (wsS RX10 145 yX10_isNumber w_X10_isNumber) := goodIn_r _ [15, 16, 4, 17, 18, 11, 12, 4, 13] rfl (by decide +kernel)
set_option maxRecDepth 20000 in
theorem g_X10_in_X10_in0 : GoodIn w_X10_in (wsS RX10 51 yX10_in0 w_X10_in0) := goodIn_r _ [11, 12, 4, 13] rfl (by decide +kernel)
set_option maxRecDepth 20000 in
theorem g_X10_in_X10_lays : GoodIn w_X10_in (wsV RX10 221 RX10 yX10_lays w_X10_lays) := goodIn_r _ [20, 21, 22, 4, 23, 10, 24, 25, 26, 27, 28, 4, 29, 30, 31, 32, 11, 12, 13, 61, 62, 63, 64, 65, 66, 67, 68, 69, 70, 71, 72, 73, 74, 75, 76, 77, 78, 79, 80, 81, 82, 83, 84, 85] rfl (by decide +kernel)
set_option maxRecDepth 20000 in
theorem g_X10_in_X10_clears : GoodIn w_X10_in (wsS RX10 87 yX10_clears w_X10_clears) := goodIn_r _ [34, 35, 4, 36] rfl (by decide +kernel)
set_option maxRecDepth 20000 in
theorem g_X10_in_X10_comes : GoodIn w_X10_in (wsV RX10 91 RX10 yX10_comes w_X10_comes) := goodIn_r _ [37, 38, 39, 4, 40, 10, 41, 42, 43, 4, 44, 25, 26, 45, 46, 47, 48, 61, 62, 63, 64, 65, 66, 67, 68, 69, 70, 71, 72, 73, 74, 75, 76, 77, 78, 79, 80, 81, 82, 83, 84, 85] rfl (by decide +kernel)
set_option maxRecDepth 20000 in
theorem g_X10_in_X10_told : GoodIn w_X10_in (wsS RX10 251 yX10_told w_X10_told) := goodIn_r _ [49, 50, 4, 51, 52, 53, 4, 54, 24, 55, 56, 57, 58, 59, 60] rfl (by decide +kernel)
set_option maxHeartbeats 4000000 in
set_option maxRecDepth 100000 in
theorem c_X10_in (l : Launch) (D : va_G) (h0 : Nat) (i_0 : Int32) (i_1 : Int32) (i_2 : Int32) (i_3 : Int32) (m_now : Nat) (m_draft : Nat) (m_past : Nat) (j_acts : Int32) (m_images : Nat) (m_kept : Nat) (m_tape : Nat) (j_taped : Int32) (j_at : Int32) (j_start : Int32) (j_token : Int32) (j_value : Int32) (j_fault : Int32) (j_place : Int32) (j_latest : Int32) (m_low : Nat) (m_high : Nat) (m_first : Nat) (m_second : Nat) (m_lines : Nat) (m_others : Nat) (j_shiftFirst : Int32) (j_shiftMany : Int32) (j_shiftLow : Int32) (j_shiftHigh : Int32) (kI : ClassId) (g_now : Nat → Int32) (g_low : Nat → Int32) (g_high : Nat → Int32) (kZ : ClassId) (g_first : Nat → Int32) (sz : Nat) (hg_now : gV g_now) (hg_low : bP g_low) (hg_high : bP g_high) : Met l yX10_in w_X10_in ({ frames := 3, cells := 0, slots := 0, locals := 79 }) (va_Pc [.ref h0, .int i_0, .int i_1, .int i_2, .int i_3] (fun U => U.heap.size = sz ∧ va_P D vwCl [(h0, .inr (10, [.ref m_now, .ref m_draft, .ref m_past, .int j_acts, .ref m_images, .ref m_kept, .ref m_tape, .int j_taped, .int j_at, .int j_start, .int j_token, .int j_value, .int j_fault, .int j_place, .int j_latest, .ref m_low, .ref m_high, .ref m_first, .ref m_second, .ref m_lines, .ref m_others, .int j_shiftFirst, .int j_shiftMany, .int j_shiftLow, .int j_shiftHigh])), (m_now, .inl (kI, 192, .inl g_now)), (m_low, .inl (kI, 1000, .inl g_low)), (m_high, .inl (kI, 1000, .inl g_high)), (m_first, .inl (kZ, 1000, .inl g_first))] U.heap ∧ va_K D vwCl [(kI, .int), (kZ, .boolean)] U ∧ va_D (fun _ => True) [(h0, .inr (10, [.ref m_now, .ref m_draft, .ref m_past, .int j_acts, .ref m_images, .ref m_kept, .ref m_tape, .int j_taped, .int j_at, .int j_start, .int j_token, .int j_value, .int j_fault, .int j_place, .int j_latest, .ref m_low, .ref m_high, .ref m_first, .ref m_second, .ref m_lines, .ref m_others, .int j_shiftFirst, .int j_shiftMany, .int j_shiftLow, .int j_shiftHigh])), (m_now, .inl (kI, 192, .inl g_now)), (m_low, .inl (kI, 1000, .inl g_low)), (m_high, .inl (kI, 1000, .inl g_high)), (m_first, .inl (kZ, 1000, .inl g_first))])) (va_Qi (fun (r : Int32) (_ : Unit) => True) (fun (_ : Unit) t => ∃ (n_low : Nat → Int32) (n_high : Nat → Int32) (n_first : Nat → Int32), va_P D vwCl [(h0, .inr (10, [.ref m_now, .ref m_draft, .ref m_past, .int j_acts, .ref m_images, .ref m_kept, .ref m_tape, .int j_taped, .int j_at, .int j_start, .int j_token, .int j_value, .int j_fault, .int j_place, .int j_latest, .ref m_low, .ref m_high, .ref m_first, .ref m_second, .ref m_lines, .ref m_others, .int j_shiftFirst, .int j_shiftMany, .int j_shiftLow, .int j_shiftHigh])), (m_now, .inl (kI, 192, .inl g_now)), (m_low, .inl (kI, 1000, .inl n_low)), (m_high, .inl (kI, 1000, .inl n_high)), (m_first, .inl (kZ, 1000, .inl n_first))] t.heap ∧ va_K D vwCl [(kI, .int), (kZ, .boolean)] t ∧ va_D (va_A [(h0, .inr (10, [.ref m_now, .ref m_draft, .ref m_past, .int j_acts, .ref m_images, .ref m_kept, .ref m_tape, .int j_taped, .int j_at, .int j_start, .int j_token, .int j_value, .int j_fault, .int j_place, .int j_latest, .ref m_low, .ref m_high, .ref m_first, .ref m_second, .ref m_lines, .ref m_others, .int j_shiftFirst, .int j_shiftMany, .int j_shiftLow, .int j_shiftHigh])), (m_now, .inl (kI, 192, .inl g_now)), (m_low, .inl (kI, 1000, .inl g_low)), (m_high, .inl (kI, 1000, .inl g_high)), (m_first, .inl (kZ, 1000, .inl g_first))] sz) [(h0, .inr (10, [.ref m_now, .ref m_draft, .ref m_past, .int j_acts, .ref m_images, .ref m_kept, .ref m_tape, .int j_taped, .int j_at, .int j_start, .int j_token, .int j_value, .int j_fault, .int j_place, .int j_latest, .ref m_low, .ref m_high, .ref m_first, .ref m_second, .ref m_lines, .ref m_others, .int j_shiftFirst, .int j_shiftMany, .int j_shiftLow, .int j_shiftHigh])), (m_now, .inl (kI, 192, .inl g_now)), (m_low, .inl (kI, 1000, .inl n_low)), (m_high, .inl (kI, 1000, .inl n_high)), (m_first, .inl (kZ, 1000, .inl n_first))] ∧ bP n_low ∧ bP n_high) (va_A [(h0, .inr (10, [.ref m_now, .ref m_draft, .ref m_past, .int j_acts, .ref m_images, .ref m_kept, .ref m_tape, .int j_taped, .int j_at, .int j_start, .int j_token, .int j_value, .int j_fault, .int j_place, .int j_latest, .ref m_low, .ref m_high, .ref m_first, .ref m_second, .ref m_lines, .ref m_others, .int j_shiftFirst, .int j_shiftMany, .int j_shiftLow, .int j_shiftHigh])), (m_now, .inl (kI, 192, .inl g_now)), (m_low, .inl (kI, 1000, .inl g_low)), (m_high, .inl (kI, 1000, .inl g_high)), (m_first, .inl (kZ, 1000, .inl g_first))] sz)) 0 0 (va_A [(h0, .inr (10, [.ref m_now, .ref m_draft, .ref m_past, .int j_acts, .ref m_images, .ref m_kept, .ref m_tape, .int j_taped, .int j_at, .int j_start, .int j_token, .int j_value, .int j_fault, .int j_place, .int j_latest, .ref m_low, .ref m_high, .ref m_first, .ref m_second, .ref m_lines, .ref m_others, .int j_shiftFirst, .int j_shiftMany, .int j_shiftLow, .int j_shiftHigh])), (m_now, .inl (kI, 192, .inl g_now)), (m_low, .inl (kI, 1000, .inl g_low)), (m_high, .inl (kI, 1000, .inl g_high)), (m_first, .inl (kZ, 1000, .inl g_first))] sz) := by
  refine Met.ofW (cc := cX10_in) (maxL := 5) (ret := (some .int)) (by decide) rfl ?_
  intro p e s m args below meth c s₁ B hml hv
  obtain ⟨rfl, hsz, hP, hK, hD0⟩ := hv
  have hx := B.exec
  have hb := B.bytes
  have hr := B.returns
  have hts := atoms_spec (ws := w_X10_in) B.pre
  have hown : s.vm.findClass RX10 = some m.cls := findClass_of_methodNamed B.named
  have hlocks := B.notSynchronized
  subst hsz
  have hD := hD0.self (sz := s.heap.size)
  generalize hAe : va_A [(h0, .inr (10, [.ref m_now, .ref m_draft, .ref m_past, .int j_acts, .ref m_images, .ref m_kept, .ref m_tape, .int j_taped, .int j_at, .int j_start, .int j_token, .int j_value, .int j_fault, .int j_place, .int j_latest, .ref m_low, .ref m_high, .ref m_first, .ref m_second, .ref m_lines, .ref m_others, .int j_shiftFirst, .int j_shiftMany, .int j_shiftLow, .int j_shiftHigh])), (m_now, .inl (kI, 192, .inl g_now)), (m_low, .inl (kI, 1000, .inl g_low)), (m_high, .inl (kI, 1000, .inl g_high)), (m_first, .inl (kZ, 1000, .inl g_first))] s.heap.size = A at hD ⊢
  have hA : ∀ q : Nat, s.heap.size ≤ q → A q := fun q h => by rw [← hAe]; exact Or.inr h
  have hS : va_S A s.heap s.heap [] := va_S.rf
  have hP : va_P D vwCl [(h0, .inr (10, [.ref m_now, .ref m_draft, .ref m_past, .int j_acts, .ref m_images, .ref m_kept, .ref m_tape, .int j_taped, .int j_at, .int j_start, .int j_token, .int j_value, .int j_fault, .int j_place, .int j_latest, .ref m_low, .ref m_high, .ref m_first, .ref m_second, .ref m_lines, .ref m_others, .int j_shiftFirst, .int j_shiftMany, .int j_shiftLow, .int j_shiftHigh])), (m_now, .inl (kI, 192, .inl g_now)), (m_low, .inl (kI, 1000, .inl g_low)), (m_high, .inl (kI, 1000, .inl g_high)), (m_first, .inl (kZ, 1000, .inl g_first))] s.heap := hP
  have hl := lv_entry ([.ref h0, .int i_0, .int i_1, .int i_2, .int i_3]) (n := 5) (Nat.le_of_ble_eq_true rfl)
  rw [lg_entry_eq]
  generalize (lg_sl ([.ref h0, .int i_0, .int i_1, .int i_2, .int i_3]) ++ List.replicate (5 - (lg_sl ([.ref h0, .int i_0, .int i_1, .int i_2, .int i_3])).length) Slot.unset).toArray = ls at hl ⊢
  have hl : lv_has ls 5 [(0, .ref h0), (1, .int i_0), (2, .int i_1), (3, .int i_2), (4, .int i_3)] := hl
  obtain ⟨H, hHe⟩ : ∃ H : Heap, H = s.heap := ⟨_, rfl⟩
  rw [← hHe] at hP
  have hS : va_S A s.heap H [] := by rw [hHe]; exact hS
  refine pw_heap hHe ?_
  refine lv_aload_n hx hb dX10_in_0 rfl (lv_at hl 0 rfl) ?_
  refine lv_iload_n hx hb dX10_in_1 rfl (lv_at hl 1 rfl) ?_
  have hPc := hP.sub (ws' := [(h0, .inr (10, [.ref m_now, .ref m_draft, .ref m_past, .int j_acts, .ref m_images, .ref m_kept, .ref m_tape, .int j_taped, .int j_at, .int j_start, .int j_token, .int j_value, .int j_fault, .int j_place, .int j_latest, .ref m_low, .ref m_high, .ref m_first, .ref m_second, .ref m_lines, .ref m_others, .int j_shiftFirst, .int j_shiftMany, .int j_shiftLow, .int j_shiftHigh])), (m_now, .inl (kI, 192, .inl g_now))]) [0, 1] rfl
  have hKc := hK.sub (tys' := [(kI, .int)]) [0] rfl
  refine va_calli (va_runV (As := [.int i_0]) (rest := []) ⟨hx, hb, hml, hown, hts⟩ (c_X10_isEdition l D h0 i_0 m_now m_draft m_past j_acts m_images m_kept m_tape j_taped j_at j_start j_token j_value j_fault j_place j_latest m_low m_high m_first m_second m_lines m_others j_shiftFirst j_shiftMany j_shiftLow j_shiftHigh kI g_now hg_now) (cwV 1 hts g_X10_in_X10_isEdition rfl rfl rfl (by decide +kernel) ⟨Nat.le_of_ble_eq_true rfl, Nat.le_of_ble_eq_true rfl⟩) ⟨fun a U g mk q => by obtain ⟨q0, qP, qK⟩ := q; exact ⟨q0, qP, va_K.moved (u := U) (U := U.calling g mk a) (Vm.Alike.refl U.vm) qK⟩, va_recv hKc hPc (ci := 10) (q0 := 0) rfl rfl, fun U hU hW => ⟨rfl, by rw [hU]; exact hPc, va_K.moved hW.alike hKc⟩⟩ rfl rfl hl.1 rfl (lv_room (Nat.le_of_ble_eq_true rfl)) dX10_in_2 ⟨Nat.le_of_ble_eq_true rfl, Nat.le_of_ble_eq_true rfl⟩) hS (fun _ _ h => h.elim) (fun _ h => h.elim) (fun r1 u t H1 locs ht hvm hw hB hz1 hk1 hS => ?_)
  have hP := pw_keep hP (fun q hq => hk1 q hq (fun h => h))
  generalize H1 = H at hP hS ⊢
  refine W.widen (k := 0) (n := 0) (Nat.le_of_ble_eq_true rfl) (Nat.le_of_ble_eq_true rfl) ?_
  have bor1 := hw.1
  have zor1 := pw_boolI bor1
  have hfr1 := hw.2
  refine lv_if_eq (tgt := 36) hx hb dX10_in_5 (by decide) (fun c2 => ?_) (fun c2 => ?_)
  · have nc2 : r1.toInt = 0 := pw_eq c2 rfl (by decide)
    refine lv_ldc hx hb hown (hts (.constant RX10 177 (-1000001)) (List.mem_of_getElem? (i := 14) rfl)) dX10_in_36 ?_
    have hP9 := hP.sub (ws' := [(h0, .inr (10, [.ref m_now, .ref m_draft, .ref m_past, .int j_acts, .ref m_images, .ref m_kept, .ref m_tape, .int j_taped, .int j_at, .int j_start, .int j_token, .int j_value, .int j_fault, .int j_place, .int j_latest, .ref m_low, .ref m_high, .ref m_first, .ref m_second, .ref m_lines, .ref m_others, .int j_shiftFirst, .int j_shiftMany, .int j_shiftLow, .int j_shiftHigh])), (m_now, .inl (kI, 192, .inl g_now)), (m_low, .inl (kI, 1000, .inl g_low)), (m_high, .inl (kI, 1000, .inl g_high)), (m_first, .inl (kZ, 1000, .inl g_first))]) [0, 1, 2, 3, 4] rfl
    have hD9 := hD.sub (ws' := [(h0, .inr (10, [.ref m_now, .ref m_draft, .ref m_past, .int j_acts, .ref m_images, .ref m_kept, .ref m_tape, .int j_taped, .int j_at, .int j_start, .int j_token, .int j_value, .int j_fault, .int j_place, .int j_latest, .ref m_low, .ref m_high, .ref m_first, .ref m_second, .ref m_lines, .ref m_others, .int j_shiftFirst, .int j_shiftMany, .int j_shiftLow, .int j_shiftHigh])), (m_now, .inl (kI, 192, .inl g_now)), (m_low, .inl (kI, 1000, .inl g_low)), (m_high, .inl (kI, 1000, .inl g_high)), (m_first, .inl (kZ, 1000, .inl g_first))]) [0, 1, 2, 3, 4] (by decide) rfl
    have hK9 := hK.sub (tys' := [(kI, .int), (kZ, .boolean)]) [0, 1] rfl
    refine W.widen (k := 0) (n := 0) (Nat.le_of_ble_eq_true rfl) (Nat.le_of_ble_eq_true rfl) ?_
    exact W.iret (v := (-1000001)) hx hb hr (fun t ht hW => ⟨⟨(-1000001), (), rfl, trivial, g_low, g_high, g_first, by rw [ht]; exact hP9, va_K.moved hW.alike hK9, hD9, hg_low, hg_high⟩, hS.F ht⟩) hS.2.2 dX10_in_38
  · have nc2 : r1.toInt ≠ 0 := pw_ne c2 rfl (by decide)
    refine lv_iload_n hx hb dX10_in_8 rfl (lv_at hl 2 rfl) ?_
    have hPc := hP.sub (ws' := []) [] rfl
    have hKc := hK.sub (tys' := []) [] rfl
    refine va_calli (va_runS (As := [.int i_1]) (rest := []) ⟨hx, hb, hml, hown, hts⟩ (c_X10_isNumber l D i_1) (cwS 1 hts g_X10_in_X10_isNumber rfl rfl rfl (by decide +kernel) ⟨Nat.le_of_ble_eq_true rfl, Nat.le_of_ble_eq_true rfl⟩) ⟨fun a U g mk q => by obtain ⟨q0, qP, qK⟩ := q; exact ⟨q0, qP, va_K.moved (u := U) (U := U.calling g mk a) (Vm.Alike.refl U.vm) qK⟩, fun U hU hW => ⟨rfl, by rw [hU]; exact hPc, va_K.moved hW.alike hKc⟩⟩ rfl rfl hl.1 rfl (lv_room (Nat.le_of_ble_eq_true rfl)) dX10_in_9 ⟨Nat.le_of_ble_eq_true rfl, Nat.le_of_ble_eq_true rfl⟩) hS (fun _ _ h => h.elim) (fun _ h => h.elim) (fun r3 u t H1 locs ht hvm hw hB hz1 hk1 hS => ?_)
    have hP := pw_keep hP (fun q hq => hk1 q hq (fun h => h))
    generalize H1 = H at hP hS ⊢
    refine W.widen (k := 0) (n := 0) (Nat.le_of_ble_eq_true rfl) (Nat.le_of_ble_eq_true rfl) ?_
    have bor3 := hw.1
    have zor3 := pw_boolI bor3
    have hfr3 := hw.2
    refine lv_if_eq (tgt := 36) hx hb dX10_in_12 (by decide) (fun c4 => ?_) (fun c4 => ?_)
    · have nc4 : r3.toInt = 0 := pw_eq c4 rfl (by decide)
      refine lv_ldc hx hb hown (hts (.constant RX10 177 (-1000001)) (List.mem_of_getElem? (i := 14) rfl)) dX10_in_36 ?_
      have hP9 := hP.sub (ws' := [(h0, .inr (10, [.ref m_now, .ref m_draft, .ref m_past, .int j_acts, .ref m_images, .ref m_kept, .ref m_tape, .int j_taped, .int j_at, .int j_start, .int j_token, .int j_value, .int j_fault, .int j_place, .int j_latest, .ref m_low, .ref m_high, .ref m_first, .ref m_second, .ref m_lines, .ref m_others, .int j_shiftFirst, .int j_shiftMany, .int j_shiftLow, .int j_shiftHigh])), (m_now, .inl (kI, 192, .inl g_now)), (m_low, .inl (kI, 1000, .inl g_low)), (m_high, .inl (kI, 1000, .inl g_high)), (m_first, .inl (kZ, 1000, .inl g_first))]) [0, 1, 2, 3, 4] rfl
      have hD9 := hD.sub (ws' := [(h0, .inr (10, [.ref m_now, .ref m_draft, .ref m_past, .int j_acts, .ref m_images, .ref m_kept, .ref m_tape, .int j_taped, .int j_at, .int j_start, .int j_token, .int j_value, .int j_fault, .int j_place, .int j_latest, .ref m_low, .ref m_high, .ref m_first, .ref m_second, .ref m_lines, .ref m_others, .int j_shiftFirst, .int j_shiftMany, .int j_shiftLow, .int j_shiftHigh])), (m_now, .inl (kI, 192, .inl g_now)), (m_low, .inl (kI, 1000, .inl g_low)), (m_high, .inl (kI, 1000, .inl g_high)), (m_first, .inl (kZ, 1000, .inl g_first))]) [0, 1, 2, 3, 4] (by decide) rfl
      have hK9 := hK.sub (tys' := [(kI, .int), (kZ, .boolean)]) [0, 1] rfl
      refine W.widen (k := 0) (n := 0) (Nat.le_of_ble_eq_true rfl) (Nat.le_of_ble_eq_true rfl) ?_
      exact W.iret (v := (-1000001)) hx hb hr (fun t ht hW => ⟨⟨(-1000001), (), rfl, trivial, g_low, g_high, g_first, by rw [ht]; exact hP9, va_K.moved hW.alike hK9, hD9, hg_low, hg_high⟩, hS.F ht⟩) hS.2.2 dX10_in_38
    · have nc4 : r3.toInt ≠ 0 := pw_ne c4 rfl (by decide)
      refine lv_aload_n hx hb dX10_in_15 rfl (lv_at hl 0 rfl) ?_
      refine lv_iload_n hx hb dX10_in_16 rfl (lv_at hl 3 rfl) ?_
      have hPc := hP.sub (ws' := [(h0, .inr (10, [.ref m_now, .ref m_draft, .ref m_past, .int j_acts, .ref m_images, .ref m_kept, .ref m_tape, .int j_taped, .int j_at, .int j_start, .int j_token, .int j_value, .int j_fault, .int j_place, .int j_latest, .ref m_low, .ref m_high, .ref m_first, .ref m_second, .ref m_lines, .ref m_others, .int j_shiftFirst, .int j_shiftMany, .int j_shiftLow, .int j_shiftHigh])), (m_now, .inl (kI, 192, .inl g_now))]) [0, 1] rfl
      have hKc := hK.sub (tys' := [(kI, .int)]) [0] rfl
      refine va_calli (va_runV (As := [.int i_2]) (rest := []) ⟨hx, hb, hml, hown, hts⟩ (c_X10_isEdition l D h0 i_2 m_now m_draft m_past j_acts m_images m_kept m_tape j_taped j_at j_start j_token j_value j_fault j_place j_latest m_low m_high m_first m_second m_lines m_others j_shiftFirst j_shiftMany j_shiftLow j_shiftHigh kI g_now hg_now) (cwV 1 hts g_X10_in_X10_isEdition rfl rfl rfl (by decide +kernel) ⟨Nat.le_of_ble_eq_true rfl, Nat.le_of_ble_eq_true rfl⟩) ⟨fun a U g mk q => by obtain ⟨q0, qP, qK⟩ := q; exact ⟨q0, qP, va_K.moved (u := U) (U := U.calling g mk a) (Vm.Alike.refl U.vm) qK⟩, va_recv hKc hPc (ci := 10) (q0 := 0) rfl rfl, fun U hU hW => ⟨rfl, by rw [hU]; exact hPc, va_K.moved hW.alike hKc⟩⟩ rfl rfl hl.1 rfl (lv_room (Nat.le_of_ble_eq_true rfl)) dX10_in_17 ⟨Nat.le_of_ble_eq_true rfl, Nat.le_of_ble_eq_true rfl⟩) hS (fun _ _ h => h.elim) (fun _ h => h.elim) (fun r5 u t H1 locs ht hvm hw hB hz1 hk1 hS => ?_)
      have hP := pw_keep hP (fun q hq => hk1 q hq (fun h => h))
      generalize H1 = H at hP hS ⊢
      refine W.widen (k := 0) (n := 0) (Nat.le_of_ble_eq_true rfl) (Nat.le_of_ble_eq_true rfl) ?_
      have bor5 := hw.1
      have zor5 := pw_boolI bor5
      have hfr5 := hw.2
      refine lv_if_eq (tgt := 36) hx hb dX10_in_20 (by decide) (fun c6 => ?_) (fun c6 => ?_)
      · have nc6 : r5.toInt = 0 := pw_eq c6 rfl (by decide)
        refine lv_ldc hx hb hown (hts (.constant RX10 177 (-1000001)) (List.mem_of_getElem? (i := 14) rfl)) dX10_in_36 ?_
        have hP9 := hP.sub (ws' := [(h0, .inr (10, [.ref m_now, .ref m_draft, .ref m_past, .int j_acts, .ref m_images, .ref m_kept, .ref m_tape, .int j_taped, .int j_at, .int j_start, .int j_token, .int j_value, .int j_fault, .int j_place, .int j_latest, .ref m_low, .ref m_high, .ref m_first, .ref m_second, .ref m_lines, .ref m_others, .int j_shiftFirst, .int j_shiftMany, .int j_shiftLow, .int j_shiftHigh])), (m_now, .inl (kI, 192, .inl g_now)), (m_low, .inl (kI, 1000, .inl g_low)), (m_high, .inl (kI, 1000, .inl g_high)), (m_first, .inl (kZ, 1000, .inl g_first))]) [0, 1, 2, 3, 4] rfl
        have hD9 := hD.sub (ws' := [(h0, .inr (10, [.ref m_now, .ref m_draft, .ref m_past, .int j_acts, .ref m_images, .ref m_kept, .ref m_tape, .int j_taped, .int j_at, .int j_start, .int j_token, .int j_value, .int j_fault, .int j_place, .int j_latest, .ref m_low, .ref m_high, .ref m_first, .ref m_second, .ref m_lines, .ref m_others, .int j_shiftFirst, .int j_shiftMany, .int j_shiftLow, .int j_shiftHigh])), (m_now, .inl (kI, 192, .inl g_now)), (m_low, .inl (kI, 1000, .inl g_low)), (m_high, .inl (kI, 1000, .inl g_high)), (m_first, .inl (kZ, 1000, .inl g_first))]) [0, 1, 2, 3, 4] (by decide) rfl
        have hK9 := hK.sub (tys' := [(kI, .int), (kZ, .boolean)]) [0, 1] rfl
        refine W.widen (k := 0) (n := 0) (Nat.le_of_ble_eq_true rfl) (Nat.le_of_ble_eq_true rfl) ?_
        exact W.iret (v := (-1000001)) hx hb hr (fun t ht hW => ⟨⟨(-1000001), (), rfl, trivial, g_low, g_high, g_first, by rw [ht]; exact hP9, va_K.moved hW.alike hK9, hD9, hg_low, hg_high⟩, hS.F ht⟩) hS.2.2 dX10_in_38
      · have nc6 : r5.toInt ≠ 0 := pw_ne c6 rfl (by decide)
        refine lv_iload hx hb dX10_in_23 (lv_at hl 4 rfl) ?_
        refine lv_i2l (v := i_3.toInt64) hx hb dX10_in_25 rfl ?_
        refine lv_lconst (v := 0) hx hb dX10_in_26 (by decide) ?_
        refine lv_ldc2 hx hb hown (hts (.constantLong RX10 219 (2)) (List.mem_of_getElem? (i := 19) rfl)) dX10_in_27 ?_
        have hPc := hP.sub (ws' := []) [] rfl
        have hKc := hK.sub (tys' := []) [] rfl
        refine va_calli (va_runS (As := [.long i_3.toInt64, .long 0, .long 2]) (rest := []) ⟨hx, hb, hml, hown, hts⟩ (c_X10_in0 l D i_3.toInt64 0 2) (cwS 3 hts g_X10_in_X10_in0 rfl rfl rfl (by decide +kernel) ⟨Nat.le_of_ble_eq_true rfl, Nat.le_of_ble_eq_true rfl⟩) ⟨fun a U g mk q => by obtain ⟨q0, qP, qK⟩ := q; exact ⟨q0, qP, va_K.moved (u := U) (U := U.calling g mk a) (Vm.Alike.refl U.vm) qK⟩, fun U hU hW => ⟨rfl, by rw [hU]; exact hPc, va_K.moved hW.alike hKc⟩⟩ rfl rfl hl.1 rfl (lv_room (Nat.le_of_ble_eq_true rfl)) dX10_in_30 ⟨Nat.le_of_ble_eq_true rfl, Nat.le_of_ble_eq_true rfl⟩) hS (fun _ _ h => h.elim) (fun _ h => h.elim) (fun r7 u t H1 locs ht hvm hw hB hz1 hk1 hS => ?_)
        have hP := pw_keep hP (fun q hq => hk1 q hq (fun h => h))
        generalize H1 = H at hP hS ⊢
        refine W.widen (k := 0) (n := 0) (Nat.le_of_ble_eq_true rfl) (Nat.le_of_ble_eq_true rfl) ?_
        have bor7 := hw.1
        have zor7 := pw_boolI bor7
        have hfr7 := hw.2
        have kl0 : (0 : Int64).toInt = 0 := by decide
        have kl2 : (2 : Int64).toInt = 2 := by decide
        try simp only [Int32.toInt_toInt64] at hfr7
        refine lv_if_ne (tgt := 39) hx hb dX10_in_33 (by decide) (fun c8 => ?_) (fun c8 => ?_)
        · have nc8 : r7.toInt ≠ 0 := pw_ne c8 rfl (by decide)
          refine lv_aload_n hx hb dX10_in_39 rfl (lv_at hl 0 rfl) ?_
          have hPc := hP.sub (ws' := [(h0, .inr (10, [.ref m_now, .ref m_draft, .ref m_past, .int j_acts, .ref m_images, .ref m_kept, .ref m_tape, .int j_taped, .int j_at, .int j_start, .int j_token, .int j_value, .int j_fault, .int j_place, .int j_latest, .ref m_low, .ref m_high, .ref m_first, .ref m_second, .ref m_lines, .ref m_others, .int j_shiftFirst, .int j_shiftMany, .int j_shiftLow, .int j_shiftHigh])), (m_now, .inl (kI, 192, .inl g_now)), (m_low, .inl (kI, 1000, .inl g_low)), (m_high, .inl (kI, 1000, .inl g_high))]) [0, 1, 2, 3] rfl
          have hKc := hK.sub (tys' := [(kI, .int)]) [0] rfl
          have hDc := hD.sub (ws' := [(h0, .inr (10, [.ref m_now, .ref m_draft, .ref m_past, .int j_acts, .ref m_images, .ref m_kept, .ref m_tape, .int j_taped, .int j_at, .int j_start, .int j_token, .int j_value, .int j_fault, .int j_place, .int j_latest, .ref m_low, .ref m_high, .ref m_first, .ref m_second, .ref m_lines, .ref m_others, .int j_shiftFirst, .int j_shiftMany, .int j_shiftLow, .int j_shiftHigh])), (m_now, .inl (kI, 192, .inl g_now)), (m_low, .inl (kI, 1000, .inl g_low)), (m_high, .inl (kI, 1000, .inl g_high))]) [0, 1, 2, 3] (by decide) rfl
          have hFc := va_free (wc := [(h0, .inr (10, [.ref m_now, .ref m_draft, .ref m_past, .int j_acts, .ref m_images, .ref m_kept, .ref m_tape, .int j_taped, .int j_at, .int j_start, .int j_token, .int j_value, .int j_fault, .int j_place, .int j_latest, .ref m_low, .ref m_high, .ref m_first, .ref m_second, .ref m_lines, .ref m_others, .int j_shiftFirst, .int j_shiftMany, .int j_shiftLow, .int j_shiftHigh])), (m_now, .inl (kI, 192, .inl g_now)), (m_low, .inl (kI, 1000, .inl g_low)), (m_high, .inl (kI, 1000, .inl g_high))]) hD hS hA [0, 1, 2, 3] rfl
          refine va_callv (va_runV (As := []) (rest := []) ⟨hx, hb, hml, hown, hts⟩ (c_X10_lays l D h0 m_now m_draft m_past j_acts m_images m_kept m_tape j_taped j_at j_start j_token j_value j_fault j_place j_latest m_low m_high m_first m_second m_lines m_others j_shiftFirst j_shiftMany j_shiftLow j_shiftHigh kI g_now g_low g_high H.size hg_now hg_low hg_high) (cwV 0 hts g_X10_in_X10_lays rfl rfl rfl (by decide +kernel) ⟨Nat.le_of_ble_eq_true rfl, Nat.le_of_ble_eq_true rfl⟩) ⟨fun a U g mk q => by obtain ⟨q0, q1, qP, qK, qD⟩ := q; exact ⟨q0, q1, qP, va_K.moved (u := U) (U := U.calling g mk a) (Vm.Alike.refl U.vm) qK, qD⟩, va_recv hKc hPc (ci := 10) (q0 := 0) rfl rfl, fun U hU hW => ⟨rfl, by rw [hU], by rw [hU]; exact hPc, va_K.moved hW.alike hKc, hDc.weaken (fun _ _ _ _ => trivial)⟩⟩ rfl rfl hl.1 rfl (lv_room (Nat.le_of_ble_eq_true rfl)) dX10_in_40 ⟨Nat.le_of_ble_eq_true rfl, Nat.le_of_ble_eq_true rfl⟩) hS (fun q _ h => hFc q h) hFc (fun u t H1 locs ht hvm hw hB hz1 hk1 hS => ?_)
          obtain ⟨y10, y11, hP1, hK1, hD1, hy10, hy11⟩ := hB
          rw [ht] at hP1
          have hK1 := va_K.moved hvm.symm hK1
          obtain ⟨hP, hD⟩ := va_join (wr := [(m_first, .inl (kZ, 1000, .inl g_first))]) (w1 := [(h0, .inr (10, [.ref m_now, .ref m_draft, .ref m_past, .int j_acts, .ref m_images, .ref m_kept, .ref m_tape, .int j_taped, .int j_at, .int j_start, .int j_token, .int j_value, .int j_fault, .int j_place, .int j_latest, .ref m_low, .ref m_high, .ref m_first, .ref m_second, .ref m_lines, .ref m_others, .int j_shiftFirst, .int j_shiftMany, .int j_shiftLow, .int j_shiftHigh])), (m_now, .inl (kI, 192, .inl g_now)), (m_low, .inl (kI, 1000, .inl y10)), (m_high, .inl (kI, 1000, .inl y11))]) hP hD [0, 1, 2, 3] [4] rfl rfl (by decide) (by decide) hk1 hFc hP1 hD1
          have hK := (hK.sub (tys' := [(kI, .int), (kZ, .boolean)]) [0, 1] rfl).app hK1
          generalize H1 = H at hP hS ⊢
          have hP : va_P D vwCl [(m_first, .inl (kZ, 1000, .inl g_first)), (h0, .inr (10, [.ref m_now, .ref m_draft, .ref m_past, .int j_acts, .ref m_images, .ref m_kept, .ref m_tape, .int j_taped, .int j_at, .int j_start, .int j_token, .int j_value, .int j_fault, .int j_place, .int j_latest, .ref m_low, .ref m_high, .ref m_first, .ref m_second, .ref m_lines, .ref m_others, .int j_shiftFirst, .int j_shiftMany, .int j_shiftLow, .int j_shiftHigh])), (m_now, .inl (kI, 192, .inl g_now)), (m_low, .inl (kI, 1000, .inl y10)), (m_high, .inl (kI, 1000, .inl y11))] H := hP
          have hD : va_D A [(m_first, .inl (kZ, 1000, .inl g_first)), (h0, .inr (10, [.ref m_now, .ref m_draft, .ref m_past, .int j_acts, .ref m_images, .ref m_kept, .ref m_tape, .int j_taped, .int j_at, .int j_start, .int j_token, .int j_value, .int j_fault, .int j_place, .int j_latest, .ref m_low, .ref m_high, .ref m_first, .ref m_second, .ref m_lines, .ref m_others, .int j_shiftFirst, .int j_shiftMany, .int j_shiftLow, .int j_shiftHigh])), (m_now, .inl (kI, 192, .inl g_now)), (m_low, .inl (kI, 1000, .inl y10)), (m_high, .inl (kI, 1000, .inl y11))] := hD
          have hK : va_K D vwCl [(kI, .int), (kZ, .boolean), (kI, .int)] s := hK
          refine W.widen (k := 0) (n := 0) (Nat.le_of_ble_eq_true rfl) (Nat.le_of_ble_eq_true rfl) ?_
          refine lv_aload_n hx hb dX10_in_43 rfl (lv_at hl 0 rfl) ?_
          refine va_get (D := D) (ci := 10) (v := .ref m_first) (C := RX10) (T := TX10) (N := 25) hx hb hts (fun _ h => List.mem_cons_of_mem _ (List.mem_append_right _ h)) hown hK hP 1 rfl rfl 17 (by decide) (hts (.fieldLink RX10 35 "LineCitesModel" "first" "[Z") (List.mem_of_getElem? (i := 33) rfl)) (fun _ h9 => h9) rfl dX10_in_44 ?_
          have hPc := hP.sub (ws' := [(m_first, .inl (kZ, 1000, .inl g_first))]) [0] rfl
          have hKc := hK.sub (tys' := [(kZ, .boolean)]) [1] rfl
          have hDc := hD.sub (ws' := [(m_first, .inl (kZ, 1000, .inl g_first))]) [0] (by decide) rfl
          have hFc := va_free (wc := [(m_first, .inl (kZ, 1000, .inl g_first))]) hD hS hA [0] rfl
          refine va_callv (va_runS (As := [.ref m_first]) (rest := []) ⟨hx, hb, hml, hown, hts⟩ (c_X10_clears l D m_first kZ g_first H.size) (cwS 1 hts g_X10_in_X10_clears rfl rfl rfl (by decide +kernel) ⟨Nat.le_of_ble_eq_true rfl, Nat.le_of_ble_eq_true rfl⟩) ⟨fun a U g mk q => by obtain ⟨q0, q1, qP, qK, qD⟩ := q; exact ⟨q0, q1, qP, va_K.moved (u := U) (U := U.calling g mk a) (Vm.Alike.refl U.vm) qK, qD⟩, fun U hU hW => ⟨rfl, by rw [hU], by rw [hU]; exact hPc, va_K.moved hW.alike hKc, hDc.weaken (fun _ _ _ _ => trivial)⟩⟩ rfl rfl hl.1 rfl (lv_room (Nat.le_of_ble_eq_true rfl)) dX10_in_47 ⟨Nat.le_of_ble_eq_true rfl, Nat.le_of_ble_eq_true rfl⟩) hS (fun q _ h => hFc q h) hFc (fun u t H1 locs ht hvm hw hB hz1 hk1 hS => ?_)
          obtain ⟨y13, hP1, hK1, hD1⟩ := hB
          rw [ht] at hP1
          have hK1 := va_K.moved hvm.symm hK1
          obtain ⟨hP, hD⟩ := va_join (wr := [(h0, .inr (10, [.ref m_now, .ref m_draft, .ref m_past, .int j_acts, .ref m_images, .ref m_kept, .ref m_tape, .int j_taped, .int j_at, .int j_start, .int j_token, .int j_value, .int j_fault, .int j_place, .int j_latest, .ref m_low, .ref m_high, .ref m_first, .ref m_second, .ref m_lines, .ref m_others, .int j_shiftFirst, .int j_shiftMany, .int j_shiftLow, .int j_shiftHigh])), (m_now, .inl (kI, 192, .inl g_now)), (m_low, .inl (kI, 1000, .inl y10)), (m_high, .inl (kI, 1000, .inl y11))]) (w1 := [(m_first, .inl (kZ, 1000, .inl y13))]) hP hD [0] [1, 2, 3, 4] rfl rfl (by decide) (by decide) hk1 hFc hP1 hD1
          have hK := (hK.sub (tys' := [(kI, .int), (kZ, .boolean), (kI, .int)]) [0, 1, 2] rfl).app hK1
          generalize H1 = H at hP hS ⊢
          have hP : va_P D vwCl [(h0, .inr (10, [.ref m_now, .ref m_draft, .ref m_past, .int j_acts, .ref m_images, .ref m_kept, .ref m_tape, .int j_taped, .int j_at, .int j_start, .int j_token, .int j_value, .int j_fault, .int j_place, .int j_latest, .ref m_low, .ref m_high, .ref m_first, .ref m_second, .ref m_lines, .ref m_others, .int j_shiftFirst, .int j_shiftMany, .int j_shiftLow, .int j_shiftHigh])), (m_now, .inl (kI, 192, .inl g_now)), (m_low, .inl (kI, 1000, .inl y10)), (m_high, .inl (kI, 1000, .inl y11)), (m_first, .inl (kZ, 1000, .inl y13))] H := hP
          have hD : va_D A [(h0, .inr (10, [.ref m_now, .ref m_draft, .ref m_past, .int j_acts, .ref m_images, .ref m_kept, .ref m_tape, .int j_taped, .int j_at, .int j_start, .int j_token, .int j_value, .int j_fault, .int j_place, .int j_latest, .ref m_low, .ref m_high, .ref m_first, .ref m_second, .ref m_lines, .ref m_others, .int j_shiftFirst, .int j_shiftMany, .int j_shiftLow, .int j_shiftHigh])), (m_now, .inl (kI, 192, .inl g_now)), (m_low, .inl (kI, 1000, .inl y10)), (m_high, .inl (kI, 1000, .inl y11)), (m_first, .inl (kZ, 1000, .inl y13))] := hD
          have hK : va_K D vwCl [(kI, .int), (kZ, .boolean), (kI, .int), (kZ, .boolean)] s := hK
          refine W.widen (k := 0) (n := 0) (Nat.le_of_ble_eq_true rfl) (Nat.le_of_ble_eq_true rfl) ?_
          refine lv_aload_n hx hb dX10_in_50 rfl (lv_at hl 0 rfl) ?_
          refine lv_iload_n hx hb dX10_in_51 rfl (lv_at hl 1 rfl) ?_
          refine lv_iload_n hx hb dX10_in_52 rfl (lv_at hl 2 rfl) ?_
          refine lv_iload_n hx hb dX10_in_53 rfl (lv_at hl 3 rfl) ?_
          refine lv_aload_n hx hb dX10_in_54 rfl (lv_at hl 0 rfl) ?_
          refine va_get (D := D) (ci := 10) (v := .ref m_first) (C := RX10) (T := TX10) (N := 25) hx hb hts (fun _ h => List.mem_cons_of_mem _ (List.mem_append_right _ h)) hown hK hP 0 rfl rfl 17 (by decide) (hts (.fieldLink RX10 35 "LineCitesModel" "first" "[Z") (List.mem_of_getElem? (i := 33) rfl)) (fun _ h9 => h9) rfl dX10_in_55 ?_
          have hPc := hP.sub (ws' := [(h0, .inr (10, [.ref m_now, .ref m_draft, .ref m_past, .int j_acts, .ref m_images, .ref m_kept, .ref m_tape, .int j_taped, .int j_at, .int j_start, .int j_token, .int j_value, .int j_fault, .int j_place, .int j_latest, .ref m_low, .ref m_high, .ref m_first, .ref m_second, .ref m_lines, .ref m_others, .int j_shiftFirst, .int j_shiftMany, .int j_shiftLow, .int j_shiftHigh])), (m_now, .inl (kI, 192, .inl g_now)), (m_low, .inl (kI, 1000, .inl y10)), (m_high, .inl (kI, 1000, .inl y11)), (m_first, .inl (kZ, 1000, .inl y13))]) [0, 1, 2, 3, 4] rfl
          have hKc := hK.sub (tys' := [(kI, .int), (kZ, .boolean)]) [0, 1] rfl
          have hDc := hD.sub (ws' := [(h0, .inr (10, [.ref m_now, .ref m_draft, .ref m_past, .int j_acts, .ref m_images, .ref m_kept, .ref m_tape, .int j_taped, .int j_at, .int j_start, .int j_token, .int j_value, .int j_fault, .int j_place, .int j_latest, .ref m_low, .ref m_high, .ref m_first, .ref m_second, .ref m_lines, .ref m_others, .int j_shiftFirst, .int j_shiftMany, .int j_shiftLow, .int j_shiftHigh])), (m_now, .inl (kI, 192, .inl g_now)), (m_low, .inl (kI, 1000, .inl y10)), (m_high, .inl (kI, 1000, .inl y11)), (m_first, .inl (kZ, 1000, .inl y13))]) [0, 1, 2, 3, 4] (by decide) rfl
          have hFc := va_free (wc := [(h0, .inr (10, [.ref m_now, .ref m_draft, .ref m_past, .int j_acts, .ref m_images, .ref m_kept, .ref m_tape, .int j_taped, .int j_at, .int j_start, .int j_token, .int j_value, .int j_fault, .int j_place, .int j_latest, .ref m_low, .ref m_high, .ref m_first, .ref m_second, .ref m_lines, .ref m_others, .int j_shiftFirst, .int j_shiftMany, .int j_shiftLow, .int j_shiftHigh])), (m_now, .inl (kI, 192, .inl g_now)), (m_low, .inl (kI, 1000, .inl y10)), (m_high, .inl (kI, 1000, .inl y11)), (m_first, .inl (kZ, 1000, .inl y13))]) hD hS hA [0, 1, 2, 3, 4] rfl
          refine va_callv (va_runV (As := [.int i_0, .int i_1, .int i_2, .ref m_first]) (rest := []) ⟨hx, hb, hml, hown, hts⟩ (c_X10_comes l D h0 i_0 i_1 i_2 m_first m_now m_draft m_past j_acts m_images m_kept m_tape j_taped j_at j_start j_token j_value j_fault j_place j_latest m_low m_high m_first m_second m_lines m_others j_shiftFirst j_shiftMany j_shiftLow j_shiftHigh kI g_now y10 y11 kZ y13 H.size (by first | decide | omega) (by first | decide | omega) (by first | decide | omega) (by first | decide | omega) hg_now hy10 hy11) (cwV 4 hts g_X10_in_X10_comes rfl rfl rfl (by decide +kernel) ⟨Nat.le_of_ble_eq_true rfl, Nat.le_of_ble_eq_true rfl⟩) ⟨fun a U g mk q => by obtain ⟨q0, q1, qP, qK, qD⟩ := q; exact ⟨q0, q1, qP, va_K.moved (u := U) (U := U.calling g mk a) (Vm.Alike.refl U.vm) qK, qD⟩, va_recv hKc hPc (ci := 10) (q0 := 0) rfl rfl, fun U hU hW => ⟨rfl, by rw [hU], by rw [hU]; exact hPc, va_K.moved hW.alike hKc, hDc.weaken (fun _ _ _ _ => trivial)⟩⟩ rfl rfl hl.1 rfl (lv_room (Nat.le_of_ble_eq_true rfl)) dX10_in_58 ⟨Nat.le_of_ble_eq_true rfl, Nat.le_of_ble_eq_true rfl⟩) hS (fun q _ h => hFc q h) hFc (fun u t H1 locs ht hvm hw hB hz1 hk1 hS => ?_)
          obtain ⟨y15, hP1, hK1, hD1⟩ := hB
          rw [ht] at hP1
          have hK1 := va_K.moved hvm.symm hK1
          obtain ⟨hP, hD⟩ := va_join (wr := []) (w1 := [(h0, .inr (10, [.ref m_now, .ref m_draft, .ref m_past, .int j_acts, .ref m_images, .ref m_kept, .ref m_tape, .int j_taped, .int j_at, .int j_start, .int j_token, .int j_value, .int j_fault, .int j_place, .int j_latest, .ref m_low, .ref m_high, .ref m_first, .ref m_second, .ref m_lines, .ref m_others, .int j_shiftFirst, .int j_shiftMany, .int j_shiftLow, .int j_shiftHigh])), (m_now, .inl (kI, 192, .inl g_now)), (m_low, .inl (kI, 1000, .inl y10)), (m_high, .inl (kI, 1000, .inl y11)), (m_first, .inl (kZ, 1000, .inl y15))]) hP hD [0, 1, 2, 3, 4] [] rfl rfl (by decide) (by decide) hk1 hFc hP1 hD1
          have hK := (hK.sub (tys' := [(kI, .int), (kZ, .boolean), (kI, .int), (kZ, .boolean)]) [0, 1, 2, 3] rfl).app hK1
          generalize H1 = H at hP hS ⊢
          have hP : va_P D vwCl [(h0, .inr (10, [.ref m_now, .ref m_draft, .ref m_past, .int j_acts, .ref m_images, .ref m_kept, .ref m_tape, .int j_taped, .int j_at, .int j_start, .int j_token, .int j_value, .int j_fault, .int j_place, .int j_latest, .ref m_low, .ref m_high, .ref m_first, .ref m_second, .ref m_lines, .ref m_others, .int j_shiftFirst, .int j_shiftMany, .int j_shiftLow, .int j_shiftHigh])), (m_now, .inl (kI, 192, .inl g_now)), (m_low, .inl (kI, 1000, .inl y10)), (m_high, .inl (kI, 1000, .inl y11)), (m_first, .inl (kZ, 1000, .inl y15))] H := hP
          have hD : va_D A [(h0, .inr (10, [.ref m_now, .ref m_draft, .ref m_past, .int j_acts, .ref m_images, .ref m_kept, .ref m_tape, .int j_taped, .int j_at, .int j_start, .int j_token, .int j_value, .int j_fault, .int j_place, .int j_latest, .ref m_low, .ref m_high, .ref m_first, .ref m_second, .ref m_lines, .ref m_others, .int j_shiftFirst, .int j_shiftMany, .int j_shiftLow, .int j_shiftHigh])), (m_now, .inl (kI, 192, .inl g_now)), (m_low, .inl (kI, 1000, .inl y10)), (m_high, .inl (kI, 1000, .inl y11)), (m_first, .inl (kZ, 1000, .inl y15))] := hD
          have hK : va_K D vwCl [(kI, .int), (kZ, .boolean), (kI, .int), (kZ, .boolean), (kI, .int), (kZ, .boolean)] s := hK
          refine W.widen (k := 0) (n := 0) (Nat.le_of_ble_eq_true rfl) (Nat.le_of_ble_eq_true rfl) ?_
          refine lv_aload_n hx hb dX10_in_61 rfl (lv_at hl 0 rfl) ?_
          refine va_get (D := D) (ci := 10) (v := .ref m_first) (C := RX10) (T := TX10) (N := 25) hx hb hts (fun _ h => List.mem_cons_of_mem _ (List.mem_append_right _ h)) hown hK hP 0 rfl rfl 17 (by decide) (hts (.fieldLink RX10 35 "LineCitesModel" "first" "[Z") (List.mem_of_getElem? (i := 33) rfl)) (fun _ h9 => h9) rfl dX10_in_62 ?_
          refine lv_iload hx hb dX10_in_65 (lv_at hl 4 rfl) ?_
          have hPc := hP.sub (ws' := [(m_first, .inl (kZ, 1000, .inl y15))]) [4] rfl
          have hKc := hK.sub (tys' := [(kZ, .boolean)]) [1] rfl
          refine va_calli (va_runS (As := [.ref m_first, .int i_3]) (rest := []) ⟨hx, hb, hml, hown, hts⟩ (c_X10_told l D m_first i_3 kZ y15) (cwS 2 hts g_X10_in_X10_told rfl rfl rfl (by decide +kernel) ⟨Nat.le_of_ble_eq_true rfl, Nat.le_of_ble_eq_true rfl⟩) ⟨fun a U g mk q => by obtain ⟨q0, qP, qK⟩ := q; exact ⟨q0, qP, va_K.moved (u := U) (U := U.calling g mk a) (Vm.Alike.refl U.vm) qK⟩, fun U hU hW => ⟨rfl, by rw [hU]; exact hPc, va_K.moved hW.alike hKc⟩⟩ rfl rfl hl.1 rfl (lv_room (Nat.le_of_ble_eq_true rfl)) dX10_in_67 ⟨Nat.le_of_ble_eq_true rfl, Nat.le_of_ble_eq_true rfl⟩) hS (fun _ _ h => h.elim) (fun _ h => h.elim) (fun r16 u t H1 locs ht hvm hw hB hz1 hk1 hS => ?_)
          have hP := pw_keep hP (fun q hq => hk1 q hq (fun h => h))
          generalize H1 = H at hP hS ⊢
          refine W.widen (k := 0) (n := 0) (Nat.le_of_ble_eq_true rfl) (Nat.le_of_ble_eq_true rfl) ?_
          have hP9 := hP.sub (ws' := [(h0, .inr (10, [.ref m_now, .ref m_draft, .ref m_past, .int j_acts, .ref m_images, .ref m_kept, .ref m_tape, .int j_taped, .int j_at, .int j_start, .int j_token, .int j_value, .int j_fault, .int j_place, .int j_latest, .ref m_low, .ref m_high, .ref m_first, .ref m_second, .ref m_lines, .ref m_others, .int j_shiftFirst, .int j_shiftMany, .int j_shiftLow, .int j_shiftHigh])), (m_now, .inl (kI, 192, .inl g_now)), (m_low, .inl (kI, 1000, .inl y10)), (m_high, .inl (kI, 1000, .inl y11)), (m_first, .inl (kZ, 1000, .inl y15))]) [0, 1, 2, 3, 4] rfl
          have hD9 := hD.sub (ws' := [(h0, .inr (10, [.ref m_now, .ref m_draft, .ref m_past, .int j_acts, .ref m_images, .ref m_kept, .ref m_tape, .int j_taped, .int j_at, .int j_start, .int j_token, .int j_value, .int j_fault, .int j_place, .int j_latest, .ref m_low, .ref m_high, .ref m_first, .ref m_second, .ref m_lines, .ref m_others, .int j_shiftFirst, .int j_shiftMany, .int j_shiftLow, .int j_shiftHigh])), (m_now, .inl (kI, 192, .inl g_now)), (m_low, .inl (kI, 1000, .inl y10)), (m_high, .inl (kI, 1000, .inl y11)), (m_first, .inl (kZ, 1000, .inl y15))]) [0, 1, 2, 3, 4] (by decide) rfl
          have hK9 := hK.sub (tys' := [(kI, .int), (kZ, .boolean)]) [0, 1] rfl
          refine W.widen (k := 0) (n := 0) (Nat.le_of_ble_eq_true rfl) (Nat.le_of_ble_eq_true rfl) ?_
          exact W.iret (v := r16) hx hb hr (fun t ht hW => ⟨⟨r16, (), rfl, trivial, y10, y11, y15, by rw [ht]; exact hP9, va_K.moved hW.alike hK9, hD9, hy10, hy11⟩, hS.F ht⟩) hS.2.2 dX10_in_70
        · have nc8 : r7.toInt = 0 := pw_eq c8 rfl (by decide)
          refine lv_ldc hx hb hown (hts (.constant RX10 177 (-1000001)) (List.mem_of_getElem? (i := 14) rfl)) dX10_in_36 ?_
          have hP9 := hP.sub (ws' := [(h0, .inr (10, [.ref m_now, .ref m_draft, .ref m_past, .int j_acts, .ref m_images, .ref m_kept, .ref m_tape, .int j_taped, .int j_at, .int j_start, .int j_token, .int j_value, .int j_fault, .int j_place, .int j_latest, .ref m_low, .ref m_high, .ref m_first, .ref m_second, .ref m_lines, .ref m_others, .int j_shiftFirst, .int j_shiftMany, .int j_shiftLow, .int j_shiftHigh])), (m_now, .inl (kI, 192, .inl g_now)), (m_low, .inl (kI, 1000, .inl g_low)), (m_high, .inl (kI, 1000, .inl g_high)), (m_first, .inl (kZ, 1000, .inl g_first))]) [0, 1, 2, 3, 4] rfl
          have hD9 := hD.sub (ws' := [(h0, .inr (10, [.ref m_now, .ref m_draft, .ref m_past, .int j_acts, .ref m_images, .ref m_kept, .ref m_tape, .int j_taped, .int j_at, .int j_start, .int j_token, .int j_value, .int j_fault, .int j_place, .int j_latest, .ref m_low, .ref m_high, .ref m_first, .ref m_second, .ref m_lines, .ref m_others, .int j_shiftFirst, .int j_shiftMany, .int j_shiftLow, .int j_shiftHigh])), (m_now, .inl (kI, 192, .inl g_now)), (m_low, .inl (kI, 1000, .inl g_low)), (m_high, .inl (kI, 1000, .inl g_high)), (m_first, .inl (kZ, 1000, .inl g_first))]) [0, 1, 2, 3, 4] (by decide) rfl
          have hK9 := hK.sub (tys' := [(kI, .int), (kZ, .boolean)]) [0, 1] rfl
          refine W.widen (k := 0) (n := 0) (Nat.le_of_ble_eq_true rfl) (Nat.le_of_ble_eq_true rfl) ?_
          exact W.iret (v := (-1000001)) hx hb hr (fun t ht hW => ⟨⟨(-1000001), (), rfl, trivial, g_low, g_high, g_first, by rw [ht]; exact hP9, va_K.moved hW.alike hK9, hD9, hg_low, hg_high⟩, hS.F ht⟩) hS.2.2 dX10_in_38
def w_X10_through : List Cond := .code yX10_through cX10_through 6 (some .int) :: ([.methodLink RX10 55 yX10_isEdition, .instanceMethod yX10_isEdition, .selects RX10 yX10_isEdition yX10_isEdition, .initialized RX10, .code yX10_isEdition cX10_isEdition 2 (some .boolean), .methodLink RX10 47 yX10_isWork, .instanceMethod yX10_isWork, .selects RX10 yX10_isWork yX10_isWork, .code yX10_isWork cX10_isWork 1 (some .boolean), .fieldLink RX10 7 "LineCitesModel" "now" "[I", .methodLink RX10 51 yX10_in0, .static yX10_in0, .code yX10_in0 cX10_in0 6 (some .boolean), .constant RX10 177 (-1000001), .methodLink RX10 145 yX10_isNumber, .static yX10_isNumber, .code yX10_isNumber cX10_isNumber 1 (some .boolean), .constantLong RX10 59 (999), .constantLong RX10 219 (2), .methodLink RX10 221 yX10_lays, .instanceMethod yX10_lays, .selects RX10 yX10_lays yX10_lays, .code yX10_lays cX10_lays 9 none, .constant RX10 61 (-1000000), .fieldLink RX10 29 "LineCitesModel" "low" "[I", .fieldLink RX10 32 "LineCitesModel" "high" "[I", .methodLink RX10 66 yX10_stretchOf, .static yX10_stretchOf, .code yX10_stretchOf cX10_stretchOf 7 (some .int), .methodLink RX10 62 yX10_of, .static yX10_of, .code yX10_of cX10_of 4 (some .int), .methodLink RX10 260 yX10_goes, .instanceMethod yX10_goes, .selects RX10 yX10_goes yX10_goes, .code yX10_goes cX10_goes 6 none, .fieldLink RX10 38 "LineCitesModel" "second" "[Z", .methodLink RX10 87 yX10_clears, .static yX10_clears, .code yX10_clears cX10_clears 2 none, .methodLink RX10 91 yX10_comes, .instanceMethod yX10_comes, .selects RX10 yX10_comes yX10_comes, .code yX10_comes cX10_comes 6 none, .methodLink RX10 69 yX10_isMeant, .instanceMethod yX10_isMeant, .selects RX10 yX10_isMeant yX10_isMeant, .code yX10_isMeant cX10_isMeant 4 (some .boolean), .methodLink RX10 73 yX10_hasNumber, .instanceMethod yX10_hasNumber, .selects RX10 yX10_hasNumber yX10_hasNumber, .code yX10_hasNumber cX10_hasNumber 3 (some .boolean), .fieldLink RX10 35 "LineCitesModel" "first" "[Z", .methodLink RX10 251 yX10_told, .static yX10_told, .code yX10_told cX10_told 2 (some .int), .methodLink RX10 84 yX10_greatestOf, .static yX10_greatestOf, .code yX10_greatestOf cX10_greatestOf 3 (some .int), .methodLink RX10 81 yX10_leastOf, .static yX10_leastOf, .code yX10_leastOf cX10_leastOf 3 (some .int), .methodLink RX10 77 yX10_manyIn, .static yX10_manyIn, .code yX10_manyIn cX10_manyIn 3 (some .int)] ++ wsX100)
set_option maxRecDepth 20000 in
theorem g_X10_through_X10_isEdition : GoodIn w_X10_through (wsV RX10 55 RX10 yX10_isEdition w_X10_isEdition) := goodIn_r _ [1, 2, 3, 4, 5, 6, 7, 8, 4, 9, 10, 11, 12, 13, 66, 67, 68, 69, 70, 71, 72, 73, 74, 75, 76, 77, 78, 79, 80, 81, 82, 83, 84, 85, 86, 87, 88, 89, 90] rfl (by decide +kernel)
set_option maxRecDepth 20000 in
theorem g_X10_through_X10_isNumber : GoodIn w_X10_through (wsS RX10 145 yX10_isNumber w_X10_isNumber) := goodIn_r _ [15, 16, 4, 17, 18, 11, 12, 4, 13] rfl (by decide +kernel)
set_option maxRecDepth 20000 in
theorem g_X10_through_X10_in0 : GoodIn w_X10_through (wsS RX10 51 yX10_in0 w_X10_in0) := goodIn_r _ [11, 12, 4, 13] rfl (by decide +kernel)
set_option maxRecDepth 20000 in
theorem g_X10_through_X10_lays : GoodIn w_X10_through (wsV RX10 221 RX10 yX10_lays w_X10_lays) := goodIn_r _ [20, 21, 22, 4, 23, 10, 24, 25, 26, 27, 28, 4, 29, 30, 31, 32, 11, 12, 13, 66, 67, 68, 69, 70, 71, 72, 73, 74, 75, 76, 77, 78, 79, 80, 81, 82, 83, 84, 85, 86, 87, 88, 89, 90] rfl (by decide +kernel)
set_option maxRecDepth 20000 in
theorem g_X10_through_X10_goes : GoodIn w_X10_through (wsV RX10 260 RX10 yX10_goes w_X10_goes) := goodIn_r _ [33, 34, 35, 4, 36, 37, 38, 39, 4, 40, 41, 42, 43, 44, 10, 45, 46, 47, 48, 25, 26, 49, 50, 51, 52, 53, 66, 67, 68, 69, 70, 71, 72, 73, 74, 75, 76, 77, 78, 79, 80, 81, 82, 83, 84, 85, 86, 87, 88, 89, 90] rfl (by decide +kernel)
set_option maxRecDepth 20000 in
theorem g_X10_through_X10_told : GoodIn w_X10_through (wsS RX10 251 yX10_told w_X10_told) := goodIn_r _ [54, 55, 4, 56, 57, 58, 4, 59, 24, 60, 61, 62, 63, 64, 65] rfl (by decide +kernel)
set_option maxHeartbeats 4000000 in
set_option maxRecDepth 100000 in
theorem c_X10_through (l : Launch) (D : va_G) (h0 : Nat) (i_0 : Int32) (i_1 : Int32) (i_2 : Int32) (i_3 : Int32) (i_4 : Int32) (m_now : Nat) (m_draft : Nat) (m_past : Nat) (j_acts : Int32) (m_images : Nat) (m_kept : Nat) (m_tape : Nat) (j_taped : Int32) (j_at : Int32) (j_start : Int32) (j_token : Int32) (j_value : Int32) (j_fault : Int32) (j_place : Int32) (j_latest : Int32) (m_low : Nat) (m_high : Nat) (m_first : Nat) (m_second : Nat) (m_lines : Nat) (m_others : Nat) (j_shiftFirst : Int32) (j_shiftMany : Int32) (j_shiftLow : Int32) (j_shiftHigh : Int32) (kI : ClassId) (g_now : Nat → Int32) (g_low : Nat → Int32) (g_high : Nat → Int32) (kZ : ClassId) (g_first : Nat → Int32) (g_second : Nat → Int32) (sz : Nat) (hg_now : gV g_now) (hg_low : bP g_low) (hg_high : bP g_high) : Met l yX10_through w_X10_through ({ frames := 3, cells := 0, slots := 0, locals := 79 }) (va_Pc [.ref h0, .int i_0, .int i_1, .int i_2, .int i_3, .int i_4] (fun U => U.heap.size = sz ∧ va_P D vwCl [(h0, .inr (10, [.ref m_now, .ref m_draft, .ref m_past, .int j_acts, .ref m_images, .ref m_kept, .ref m_tape, .int j_taped, .int j_at, .int j_start, .int j_token, .int j_value, .int j_fault, .int j_place, .int j_latest, .ref m_low, .ref m_high, .ref m_first, .ref m_second, .ref m_lines, .ref m_others, .int j_shiftFirst, .int j_shiftMany, .int j_shiftLow, .int j_shiftHigh])), (m_now, .inl (kI, 192, .inl g_now)), (m_low, .inl (kI, 1000, .inl g_low)), (m_high, .inl (kI, 1000, .inl g_high)), (m_first, .inl (kZ, 1000, .inl g_first)), (m_second, .inl (kZ, 1000, .inl g_second))] U.heap ∧ va_K D vwCl [(kI, .int), (kZ, .boolean)] U ∧ va_D (fun _ => True) [(h0, .inr (10, [.ref m_now, .ref m_draft, .ref m_past, .int j_acts, .ref m_images, .ref m_kept, .ref m_tape, .int j_taped, .int j_at, .int j_start, .int j_token, .int j_value, .int j_fault, .int j_place, .int j_latest, .ref m_low, .ref m_high, .ref m_first, .ref m_second, .ref m_lines, .ref m_others, .int j_shiftFirst, .int j_shiftMany, .int j_shiftLow, .int j_shiftHigh])), (m_now, .inl (kI, 192, .inl g_now)), (m_low, .inl (kI, 1000, .inl g_low)), (m_high, .inl (kI, 1000, .inl g_high)), (m_first, .inl (kZ, 1000, .inl g_first)), (m_second, .inl (kZ, 1000, .inl g_second))])) (va_Qi (fun (r : Int32) (_ : Unit) => True) (fun (_ : Unit) t => ∃ (n_low : Nat → Int32) (n_high : Nat → Int32) (n_first : Nat → Int32) (n_second : Nat → Int32), va_P D vwCl [(h0, .inr (10, [.ref m_now, .ref m_draft, .ref m_past, .int j_acts, .ref m_images, .ref m_kept, .ref m_tape, .int j_taped, .int j_at, .int j_start, .int j_token, .int j_value, .int j_fault, .int j_place, .int j_latest, .ref m_low, .ref m_high, .ref m_first, .ref m_second, .ref m_lines, .ref m_others, .int j_shiftFirst, .int j_shiftMany, .int j_shiftLow, .int j_shiftHigh])), (m_now, .inl (kI, 192, .inl g_now)), (m_low, .inl (kI, 1000, .inl n_low)), (m_high, .inl (kI, 1000, .inl n_high)), (m_first, .inl (kZ, 1000, .inl n_first)), (m_second, .inl (kZ, 1000, .inl n_second))] t.heap ∧ va_K D vwCl [(kI, .int), (kZ, .boolean)] t ∧ va_D (va_A [(h0, .inr (10, [.ref m_now, .ref m_draft, .ref m_past, .int j_acts, .ref m_images, .ref m_kept, .ref m_tape, .int j_taped, .int j_at, .int j_start, .int j_token, .int j_value, .int j_fault, .int j_place, .int j_latest, .ref m_low, .ref m_high, .ref m_first, .ref m_second, .ref m_lines, .ref m_others, .int j_shiftFirst, .int j_shiftMany, .int j_shiftLow, .int j_shiftHigh])), (m_now, .inl (kI, 192, .inl g_now)), (m_low, .inl (kI, 1000, .inl g_low)), (m_high, .inl (kI, 1000, .inl g_high)), (m_first, .inl (kZ, 1000, .inl g_first)), (m_second, .inl (kZ, 1000, .inl g_second))] sz) [(h0, .inr (10, [.ref m_now, .ref m_draft, .ref m_past, .int j_acts, .ref m_images, .ref m_kept, .ref m_tape, .int j_taped, .int j_at, .int j_start, .int j_token, .int j_value, .int j_fault, .int j_place, .int j_latest, .ref m_low, .ref m_high, .ref m_first, .ref m_second, .ref m_lines, .ref m_others, .int j_shiftFirst, .int j_shiftMany, .int j_shiftLow, .int j_shiftHigh])), (m_now, .inl (kI, 192, .inl g_now)), (m_low, .inl (kI, 1000, .inl n_low)), (m_high, .inl (kI, 1000, .inl n_high)), (m_first, .inl (kZ, 1000, .inl n_first)), (m_second, .inl (kZ, 1000, .inl n_second))] ∧ bP n_low ∧ bP n_high) (va_A [(h0, .inr (10, [.ref m_now, .ref m_draft, .ref m_past, .int j_acts, .ref m_images, .ref m_kept, .ref m_tape, .int j_taped, .int j_at, .int j_start, .int j_token, .int j_value, .int j_fault, .int j_place, .int j_latest, .ref m_low, .ref m_high, .ref m_first, .ref m_second, .ref m_lines, .ref m_others, .int j_shiftFirst, .int j_shiftMany, .int j_shiftLow, .int j_shiftHigh])), (m_now, .inl (kI, 192, .inl g_now)), (m_low, .inl (kI, 1000, .inl g_low)), (m_high, .inl (kI, 1000, .inl g_high)), (m_first, .inl (kZ, 1000, .inl g_first)), (m_second, .inl (kZ, 1000, .inl g_second))] sz)) 0 0 (va_A [(h0, .inr (10, [.ref m_now, .ref m_draft, .ref m_past, .int j_acts, .ref m_images, .ref m_kept, .ref m_tape, .int j_taped, .int j_at, .int j_start, .int j_token, .int j_value, .int j_fault, .int j_place, .int j_latest, .ref m_low, .ref m_high, .ref m_first, .ref m_second, .ref m_lines, .ref m_others, .int j_shiftFirst, .int j_shiftMany, .int j_shiftLow, .int j_shiftHigh])), (m_now, .inl (kI, 192, .inl g_now)), (m_low, .inl (kI, 1000, .inl g_low)), (m_high, .inl (kI, 1000, .inl g_high)), (m_first, .inl (kZ, 1000, .inl g_first)), (m_second, .inl (kZ, 1000, .inl g_second))] sz) := by
  refine Met.ofW (cc := cX10_through) (maxL := 6) (ret := (some .int)) (by decide) rfl ?_
  intro p e s m args below meth c s₁ B hml hv
  obtain ⟨rfl, hsz, hP, hK, hD0⟩ := hv
  have hx := B.exec
  have hb := B.bytes
  have hr := B.returns
  have hts := atoms_spec (ws := w_X10_through) B.pre
  have hown : s.vm.findClass RX10 = some m.cls := findClass_of_methodNamed B.named
  have hlocks := B.notSynchronized
  subst hsz
  have hD := hD0.self (sz := s.heap.size)
  generalize hAe : va_A [(h0, .inr (10, [.ref m_now, .ref m_draft, .ref m_past, .int j_acts, .ref m_images, .ref m_kept, .ref m_tape, .int j_taped, .int j_at, .int j_start, .int j_token, .int j_value, .int j_fault, .int j_place, .int j_latest, .ref m_low, .ref m_high, .ref m_first, .ref m_second, .ref m_lines, .ref m_others, .int j_shiftFirst, .int j_shiftMany, .int j_shiftLow, .int j_shiftHigh])), (m_now, .inl (kI, 192, .inl g_now)), (m_low, .inl (kI, 1000, .inl g_low)), (m_high, .inl (kI, 1000, .inl g_high)), (m_first, .inl (kZ, 1000, .inl g_first)), (m_second, .inl (kZ, 1000, .inl g_second))] s.heap.size = A at hD ⊢
  have hA : ∀ q : Nat, s.heap.size ≤ q → A q := fun q h => by rw [← hAe]; exact Or.inr h
  have hS : va_S A s.heap s.heap [] := va_S.rf
  have hP : va_P D vwCl [(h0, .inr (10, [.ref m_now, .ref m_draft, .ref m_past, .int j_acts, .ref m_images, .ref m_kept, .ref m_tape, .int j_taped, .int j_at, .int j_start, .int j_token, .int j_value, .int j_fault, .int j_place, .int j_latest, .ref m_low, .ref m_high, .ref m_first, .ref m_second, .ref m_lines, .ref m_others, .int j_shiftFirst, .int j_shiftMany, .int j_shiftLow, .int j_shiftHigh])), (m_now, .inl (kI, 192, .inl g_now)), (m_low, .inl (kI, 1000, .inl g_low)), (m_high, .inl (kI, 1000, .inl g_high)), (m_first, .inl (kZ, 1000, .inl g_first)), (m_second, .inl (kZ, 1000, .inl g_second))] s.heap := hP
  have hl := lv_entry ([.ref h0, .int i_0, .int i_1, .int i_2, .int i_3, .int i_4]) (n := 6) (Nat.le_of_ble_eq_true rfl)
  rw [lg_entry_eq]
  generalize (lg_sl ([.ref h0, .int i_0, .int i_1, .int i_2, .int i_3, .int i_4]) ++ List.replicate (6 - (lg_sl ([.ref h0, .int i_0, .int i_1, .int i_2, .int i_3, .int i_4])).length) Slot.unset).toArray = ls at hl ⊢
  have hl : lv_has ls 6 [(0, .ref h0), (1, .int i_0), (2, .int i_1), (3, .int i_2), (4, .int i_3), (5, .int i_4)] := hl
  obtain ⟨H, hHe⟩ : ∃ H : Heap, H = s.heap := ⟨_, rfl⟩
  rw [← hHe] at hP
  have hS : va_S A s.heap H [] := by rw [hHe]; exact hS
  refine pw_heap hHe ?_
  refine lv_aload_n hx hb dX10_through_0 rfl (lv_at hl 0 rfl) ?_
  refine lv_iload_n hx hb dX10_through_1 rfl (lv_at hl 1 rfl) ?_
  have hPc := hP.sub (ws' := [(h0, .inr (10, [.ref m_now, .ref m_draft, .ref m_past, .int j_acts, .ref m_images, .ref m_kept, .ref m_tape, .int j_taped, .int j_at, .int j_start, .int j_token, .int j_value, .int j_fault, .int j_place, .int j_latest, .ref m_low, .ref m_high, .ref m_first, .ref m_second, .ref m_lines, .ref m_others, .int j_shiftFirst, .int j_shiftMany, .int j_shiftLow, .int j_shiftHigh])), (m_now, .inl (kI, 192, .inl g_now))]) [0, 1] rfl
  have hKc := hK.sub (tys' := [(kI, .int)]) [0] rfl
  refine va_calli (va_runV (As := [.int i_0]) (rest := []) ⟨hx, hb, hml, hown, hts⟩ (c_X10_isEdition l D h0 i_0 m_now m_draft m_past j_acts m_images m_kept m_tape j_taped j_at j_start j_token j_value j_fault j_place j_latest m_low m_high m_first m_second m_lines m_others j_shiftFirst j_shiftMany j_shiftLow j_shiftHigh kI g_now hg_now) (cwV 1 hts g_X10_through_X10_isEdition rfl rfl rfl (by decide +kernel) ⟨Nat.le_of_ble_eq_true rfl, Nat.le_of_ble_eq_true rfl⟩) ⟨fun a U g mk q => by obtain ⟨q0, qP, qK⟩ := q; exact ⟨q0, qP, va_K.moved (u := U) (U := U.calling g mk a) (Vm.Alike.refl U.vm) qK⟩, va_recv hKc hPc (ci := 10) (q0 := 0) rfl rfl, fun U hU hW => ⟨rfl, by rw [hU]; exact hPc, va_K.moved hW.alike hKc⟩⟩ rfl rfl hl.1 rfl (lv_room (Nat.le_of_ble_eq_true rfl)) dX10_through_2 ⟨Nat.le_of_ble_eq_true rfl, Nat.le_of_ble_eq_true rfl⟩) hS (fun _ _ h => h.elim) (fun _ h => h.elim) (fun r1 u t H1 locs ht hvm hw hB hz1 hk1 hS => ?_)
  have hP := pw_keep hP (fun q hq => hk1 q hq (fun h => h))
  generalize H1 = H at hP hS ⊢
  refine W.widen (k := 0) (n := 0) (Nat.le_of_ble_eq_true rfl) (Nat.le_of_ble_eq_true rfl) ?_
  have bor1 := hw.1
  have zor1 := pw_boolI bor1
  have hfr1 := hw.2
  refine lv_if_eq (tgt := 45) hx hb dX10_through_5 (by decide) (fun c2 => ?_) (fun c2 => ?_)
  · have nc2 : r1.toInt = 0 := pw_eq c2 rfl (by decide)
    refine lv_ldc hx hb hown (hts (.constant RX10 177 (-1000001)) (List.mem_of_getElem? (i := 14) rfl)) dX10_through_45 ?_
    have hP9 := hP.sub (ws' := [(h0, .inr (10, [.ref m_now, .ref m_draft, .ref m_past, .int j_acts, .ref m_images, .ref m_kept, .ref m_tape, .int j_taped, .int j_at, .int j_start, .int j_token, .int j_value, .int j_fault, .int j_place, .int j_latest, .ref m_low, .ref m_high, .ref m_first, .ref m_second, .ref m_lines, .ref m_others, .int j_shiftFirst, .int j_shiftMany, .int j_shiftLow, .int j_shiftHigh])), (m_now, .inl (kI, 192, .inl g_now)), (m_low, .inl (kI, 1000, .inl g_low)), (m_high, .inl (kI, 1000, .inl g_high)), (m_first, .inl (kZ, 1000, .inl g_first)), (m_second, .inl (kZ, 1000, .inl g_second))]) [0, 1, 2, 3, 4, 5] rfl
    have hD9 := hD.sub (ws' := [(h0, .inr (10, [.ref m_now, .ref m_draft, .ref m_past, .int j_acts, .ref m_images, .ref m_kept, .ref m_tape, .int j_taped, .int j_at, .int j_start, .int j_token, .int j_value, .int j_fault, .int j_place, .int j_latest, .ref m_low, .ref m_high, .ref m_first, .ref m_second, .ref m_lines, .ref m_others, .int j_shiftFirst, .int j_shiftMany, .int j_shiftLow, .int j_shiftHigh])), (m_now, .inl (kI, 192, .inl g_now)), (m_low, .inl (kI, 1000, .inl g_low)), (m_high, .inl (kI, 1000, .inl g_high)), (m_first, .inl (kZ, 1000, .inl g_first)), (m_second, .inl (kZ, 1000, .inl g_second))]) [0, 1, 2, 3, 4, 5] (by decide) rfl
    have hK9 := hK.sub (tys' := [(kI, .int), (kZ, .boolean)]) [0, 1] rfl
    refine W.widen (k := 0) (n := 0) (Nat.le_of_ble_eq_true rfl) (Nat.le_of_ble_eq_true rfl) ?_
    exact W.iret (v := (-1000001)) hx hb hr (fun t ht hW => ⟨⟨(-1000001), (), rfl, trivial, g_low, g_high, g_first, g_second, by rw [ht]; exact hP9, va_K.moved hW.alike hK9, hD9, hg_low, hg_high⟩, hS.F ht⟩) hS.2.2 dX10_through_47
  · have nc2 : r1.toInt ≠ 0 := pw_ne c2 rfl (by decide)
    refine lv_iload_n hx hb dX10_through_8 rfl (lv_at hl 2 rfl) ?_
    have hPc := hP.sub (ws' := []) [] rfl
    have hKc := hK.sub (tys' := []) [] rfl
    refine va_calli (va_runS (As := [.int i_1]) (rest := []) ⟨hx, hb, hml, hown, hts⟩ (c_X10_isNumber l D i_1) (cwS 1 hts g_X10_through_X10_isNumber rfl rfl rfl (by decide +kernel) ⟨Nat.le_of_ble_eq_true rfl, Nat.le_of_ble_eq_true rfl⟩) ⟨fun a U g mk q => by obtain ⟨q0, qP, qK⟩ := q; exact ⟨q0, qP, va_K.moved (u := U) (U := U.calling g mk a) (Vm.Alike.refl U.vm) qK⟩, fun U hU hW => ⟨rfl, by rw [hU]; exact hPc, va_K.moved hW.alike hKc⟩⟩ rfl rfl hl.1 rfl (lv_room (Nat.le_of_ble_eq_true rfl)) dX10_through_9 ⟨Nat.le_of_ble_eq_true rfl, Nat.le_of_ble_eq_true rfl⟩) hS (fun _ _ h => h.elim) (fun _ h => h.elim) (fun r3 u t H1 locs ht hvm hw hB hz1 hk1 hS => ?_)
    have hP := pw_keep hP (fun q hq => hk1 q hq (fun h => h))
    generalize H1 = H at hP hS ⊢
    refine W.widen (k := 0) (n := 0) (Nat.le_of_ble_eq_true rfl) (Nat.le_of_ble_eq_true rfl) ?_
    have bor3 := hw.1
    have zor3 := pw_boolI bor3
    have hfr3 := hw.2
    refine lv_if_eq (tgt := 45) hx hb dX10_through_12 (by decide) (fun c4 => ?_) (fun c4 => ?_)
    · have nc4 : r3.toInt = 0 := pw_eq c4 rfl (by decide)
      refine lv_ldc hx hb hown (hts (.constant RX10 177 (-1000001)) (List.mem_of_getElem? (i := 14) rfl)) dX10_through_45 ?_
      have hP9 := hP.sub (ws' := [(h0, .inr (10, [.ref m_now, .ref m_draft, .ref m_past, .int j_acts, .ref m_images, .ref m_kept, .ref m_tape, .int j_taped, .int j_at, .int j_start, .int j_token, .int j_value, .int j_fault, .int j_place, .int j_latest, .ref m_low, .ref m_high, .ref m_first, .ref m_second, .ref m_lines, .ref m_others, .int j_shiftFirst, .int j_shiftMany, .int j_shiftLow, .int j_shiftHigh])), (m_now, .inl (kI, 192, .inl g_now)), (m_low, .inl (kI, 1000, .inl g_low)), (m_high, .inl (kI, 1000, .inl g_high)), (m_first, .inl (kZ, 1000, .inl g_first)), (m_second, .inl (kZ, 1000, .inl g_second))]) [0, 1, 2, 3, 4, 5] rfl
      have hD9 := hD.sub (ws' := [(h0, .inr (10, [.ref m_now, .ref m_draft, .ref m_past, .int j_acts, .ref m_images, .ref m_kept, .ref m_tape, .int j_taped, .int j_at, .int j_start, .int j_token, .int j_value, .int j_fault, .int j_place, .int j_latest, .ref m_low, .ref m_high, .ref m_first, .ref m_second, .ref m_lines, .ref m_others, .int j_shiftFirst, .int j_shiftMany, .int j_shiftLow, .int j_shiftHigh])), (m_now, .inl (kI, 192, .inl g_now)), (m_low, .inl (kI, 1000, .inl g_low)), (m_high, .inl (kI, 1000, .inl g_high)), (m_first, .inl (kZ, 1000, .inl g_first)), (m_second, .inl (kZ, 1000, .inl g_second))]) [0, 1, 2, 3, 4, 5] (by decide) rfl
      have hK9 := hK.sub (tys' := [(kI, .int), (kZ, .boolean)]) [0, 1] rfl
      refine W.widen (k := 0) (n := 0) (Nat.le_of_ble_eq_true rfl) (Nat.le_of_ble_eq_true rfl) ?_
      exact W.iret (v := (-1000001)) hx hb hr (fun t ht hW => ⟨⟨(-1000001), (), rfl, trivial, g_low, g_high, g_first, g_second, by rw [ht]; exact hP9, va_K.moved hW.alike hK9, hD9, hg_low, hg_high⟩, hS.F ht⟩) hS.2.2 dX10_through_47
    · have nc4 : r3.toInt ≠ 0 := pw_ne c4 rfl (by decide)
      refine lv_aload_n hx hb dX10_through_15 rfl (lv_at hl 0 rfl) ?_
      refine lv_iload_n hx hb dX10_through_16 rfl (lv_at hl 3 rfl) ?_
      have hPc := hP.sub (ws' := [(h0, .inr (10, [.ref m_now, .ref m_draft, .ref m_past, .int j_acts, .ref m_images, .ref m_kept, .ref m_tape, .int j_taped, .int j_at, .int j_start, .int j_token, .int j_value, .int j_fault, .int j_place, .int j_latest, .ref m_low, .ref m_high, .ref m_first, .ref m_second, .ref m_lines, .ref m_others, .int j_shiftFirst, .int j_shiftMany, .int j_shiftLow, .int j_shiftHigh])), (m_now, .inl (kI, 192, .inl g_now))]) [0, 1] rfl
      have hKc := hK.sub (tys' := [(kI, .int)]) [0] rfl
      refine va_calli (va_runV (As := [.int i_2]) (rest := []) ⟨hx, hb, hml, hown, hts⟩ (c_X10_isEdition l D h0 i_2 m_now m_draft m_past j_acts m_images m_kept m_tape j_taped j_at j_start j_token j_value j_fault j_place j_latest m_low m_high m_first m_second m_lines m_others j_shiftFirst j_shiftMany j_shiftLow j_shiftHigh kI g_now hg_now) (cwV 1 hts g_X10_through_X10_isEdition rfl rfl rfl (by decide +kernel) ⟨Nat.le_of_ble_eq_true rfl, Nat.le_of_ble_eq_true rfl⟩) ⟨fun a U g mk q => by obtain ⟨q0, qP, qK⟩ := q; exact ⟨q0, qP, va_K.moved (u := U) (U := U.calling g mk a) (Vm.Alike.refl U.vm) qK⟩, va_recv hKc hPc (ci := 10) (q0 := 0) rfl rfl, fun U hU hW => ⟨rfl, by rw [hU]; exact hPc, va_K.moved hW.alike hKc⟩⟩ rfl rfl hl.1 rfl (lv_room (Nat.le_of_ble_eq_true rfl)) dX10_through_17 ⟨Nat.le_of_ble_eq_true rfl, Nat.le_of_ble_eq_true rfl⟩) hS (fun _ _ h => h.elim) (fun _ h => h.elim) (fun r5 u t H1 locs ht hvm hw hB hz1 hk1 hS => ?_)
      have hP := pw_keep hP (fun q hq => hk1 q hq (fun h => h))
      generalize H1 = H at hP hS ⊢
      refine W.widen (k := 0) (n := 0) (Nat.le_of_ble_eq_true rfl) (Nat.le_of_ble_eq_true rfl) ?_
      have bor5 := hw.1
      have zor5 := pw_boolI bor5
      have hfr5 := hw.2
      refine lv_if_eq (tgt := 45) hx hb dX10_through_20 (by decide) (fun c6 => ?_) (fun c6 => ?_)
      · have nc6 : r5.toInt = 0 := pw_eq c6 rfl (by decide)
        refine lv_ldc hx hb hown (hts (.constant RX10 177 (-1000001)) (List.mem_of_getElem? (i := 14) rfl)) dX10_through_45 ?_
        have hP9 := hP.sub (ws' := [(h0, .inr (10, [.ref m_now, .ref m_draft, .ref m_past, .int j_acts, .ref m_images, .ref m_kept, .ref m_tape, .int j_taped, .int j_at, .int j_start, .int j_token, .int j_value, .int j_fault, .int j_place, .int j_latest, .ref m_low, .ref m_high, .ref m_first, .ref m_second, .ref m_lines, .ref m_others, .int j_shiftFirst, .int j_shiftMany, .int j_shiftLow, .int j_shiftHigh])), (m_now, .inl (kI, 192, .inl g_now)), (m_low, .inl (kI, 1000, .inl g_low)), (m_high, .inl (kI, 1000, .inl g_high)), (m_first, .inl (kZ, 1000, .inl g_first)), (m_second, .inl (kZ, 1000, .inl g_second))]) [0, 1, 2, 3, 4, 5] rfl
        have hD9 := hD.sub (ws' := [(h0, .inr (10, [.ref m_now, .ref m_draft, .ref m_past, .int j_acts, .ref m_images, .ref m_kept, .ref m_tape, .int j_taped, .int j_at, .int j_start, .int j_token, .int j_value, .int j_fault, .int j_place, .int j_latest, .ref m_low, .ref m_high, .ref m_first, .ref m_second, .ref m_lines, .ref m_others, .int j_shiftFirst, .int j_shiftMany, .int j_shiftLow, .int j_shiftHigh])), (m_now, .inl (kI, 192, .inl g_now)), (m_low, .inl (kI, 1000, .inl g_low)), (m_high, .inl (kI, 1000, .inl g_high)), (m_first, .inl (kZ, 1000, .inl g_first)), (m_second, .inl (kZ, 1000, .inl g_second))]) [0, 1, 2, 3, 4, 5] (by decide) rfl
        have hK9 := hK.sub (tys' := [(kI, .int), (kZ, .boolean)]) [0, 1] rfl
        refine W.widen (k := 0) (n := 0) (Nat.le_of_ble_eq_true rfl) (Nat.le_of_ble_eq_true rfl) ?_
        exact W.iret (v := (-1000001)) hx hb hr (fun t ht hW => ⟨⟨(-1000001), (), rfl, trivial, g_low, g_high, g_first, g_second, by rw [ht]; exact hP9, va_K.moved hW.alike hK9, hD9, hg_low, hg_high⟩, hS.F ht⟩) hS.2.2 dX10_through_47
      · have nc6 : r5.toInt ≠ 0 := pw_ne c6 rfl (by decide)
        refine lv_aload_n hx hb dX10_through_23 rfl (lv_at hl 0 rfl) ?_
        refine lv_iload hx hb dX10_through_24 (lv_at hl 4 rfl) ?_
        have hPc := hP.sub (ws' := [(h0, .inr (10, [.ref m_now, .ref m_draft, .ref m_past, .int j_acts, .ref m_images, .ref m_kept, .ref m_tape, .int j_taped, .int j_at, .int j_start, .int j_token, .int j_value, .int j_fault, .int j_place, .int j_latest, .ref m_low, .ref m_high, .ref m_first, .ref m_second, .ref m_lines, .ref m_others, .int j_shiftFirst, .int j_shiftMany, .int j_shiftLow, .int j_shiftHigh])), (m_now, .inl (kI, 192, .inl g_now))]) [0, 1] rfl
        have hKc := hK.sub (tys' := [(kI, .int)]) [0] rfl
        refine va_calli (va_runV (As := [.int i_3]) (rest := []) ⟨hx, hb, hml, hown, hts⟩ (c_X10_isEdition l D h0 i_3 m_now m_draft m_past j_acts m_images m_kept m_tape j_taped j_at j_start j_token j_value j_fault j_place j_latest m_low m_high m_first m_second m_lines m_others j_shiftFirst j_shiftMany j_shiftLow j_shiftHigh kI g_now hg_now) (cwV 1 hts g_X10_through_X10_isEdition rfl rfl rfl (by decide +kernel) ⟨Nat.le_of_ble_eq_true rfl, Nat.le_of_ble_eq_true rfl⟩) ⟨fun a U g mk q => by obtain ⟨q0, qP, qK⟩ := q; exact ⟨q0, qP, va_K.moved (u := U) (U := U.calling g mk a) (Vm.Alike.refl U.vm) qK⟩, va_recv hKc hPc (ci := 10) (q0 := 0) rfl rfl, fun U hU hW => ⟨rfl, by rw [hU]; exact hPc, va_K.moved hW.alike hKc⟩⟩ rfl rfl hl.1 rfl (lv_room (Nat.le_of_ble_eq_true rfl)) dX10_through_26 ⟨Nat.le_of_ble_eq_true rfl, Nat.le_of_ble_eq_true rfl⟩) hS (fun _ _ h => h.elim) (fun _ h => h.elim) (fun r7 u t H1 locs ht hvm hw hB hz1 hk1 hS => ?_)
        have hP := pw_keep hP (fun q hq => hk1 q hq (fun h => h))
        generalize H1 = H at hP hS ⊢
        refine W.widen (k := 0) (n := 0) (Nat.le_of_ble_eq_true rfl) (Nat.le_of_ble_eq_true rfl) ?_
        have bor7 := hw.1
        have zor7 := pw_boolI bor7
        have hfr7 := hw.2
        refine lv_if_eq (tgt := 45) hx hb dX10_through_29 (by decide) (fun c8 => ?_) (fun c8 => ?_)
        · have nc8 : r7.toInt = 0 := pw_eq c8 rfl (by decide)
          refine lv_ldc hx hb hown (hts (.constant RX10 177 (-1000001)) (List.mem_of_getElem? (i := 14) rfl)) dX10_through_45 ?_
          have hP9 := hP.sub (ws' := [(h0, .inr (10, [.ref m_now, .ref m_draft, .ref m_past, .int j_acts, .ref m_images, .ref m_kept, .ref m_tape, .int j_taped, .int j_at, .int j_start, .int j_token, .int j_value, .int j_fault, .int j_place, .int j_latest, .ref m_low, .ref m_high, .ref m_first, .ref m_second, .ref m_lines, .ref m_others, .int j_shiftFirst, .int j_shiftMany, .int j_shiftLow, .int j_shiftHigh])), (m_now, .inl (kI, 192, .inl g_now)), (m_low, .inl (kI, 1000, .inl g_low)), (m_high, .inl (kI, 1000, .inl g_high)), (m_first, .inl (kZ, 1000, .inl g_first)), (m_second, .inl (kZ, 1000, .inl g_second))]) [0, 1, 2, 3, 4, 5] rfl
          have hD9 := hD.sub (ws' := [(h0, .inr (10, [.ref m_now, .ref m_draft, .ref m_past, .int j_acts, .ref m_images, .ref m_kept, .ref m_tape, .int j_taped, .int j_at, .int j_start, .int j_token, .int j_value, .int j_fault, .int j_place, .int j_latest, .ref m_low, .ref m_high, .ref m_first, .ref m_second, .ref m_lines, .ref m_others, .int j_shiftFirst, .int j_shiftMany, .int j_shiftLow, .int j_shiftHigh])), (m_now, .inl (kI, 192, .inl g_now)), (m_low, .inl (kI, 1000, .inl g_low)), (m_high, .inl (kI, 1000, .inl g_high)), (m_first, .inl (kZ, 1000, .inl g_first)), (m_second, .inl (kZ, 1000, .inl g_second))]) [0, 1, 2, 3, 4, 5] (by decide) rfl
          have hK9 := hK.sub (tys' := [(kI, .int), (kZ, .boolean)]) [0, 1] rfl
          refine W.widen (k := 0) (n := 0) (Nat.le_of_ble_eq_true rfl) (Nat.le_of_ble_eq_true rfl) ?_
          exact W.iret (v := (-1000001)) hx hb hr (fun t ht hW => ⟨⟨(-1000001), (), rfl, trivial, g_low, g_high, g_first, g_second, by rw [ht]; exact hP9, va_K.moved hW.alike hK9, hD9, hg_low, hg_high⟩, hS.F ht⟩) hS.2.2 dX10_through_47
        · have nc8 : r7.toInt ≠ 0 := pw_ne c8 rfl (by decide)
          refine lv_iload hx hb dX10_through_32 (lv_at hl 5 rfl) ?_
          refine lv_i2l (v := i_4.toInt64) hx hb dX10_through_34 rfl ?_
          refine lv_lconst (v := 0) hx hb dX10_through_35 (by decide) ?_
          refine lv_ldc2 hx hb hown (hts (.constantLong RX10 219 (2)) (List.mem_of_getElem? (i := 19) rfl)) dX10_through_36 ?_
          have hPc := hP.sub (ws' := []) [] rfl
          have hKc := hK.sub (tys' := []) [] rfl
          refine va_calli (va_runS (As := [.long i_4.toInt64, .long 0, .long 2]) (rest := []) ⟨hx, hb, hml, hown, hts⟩ (c_X10_in0 l D i_4.toInt64 0 2) (cwS 3 hts g_X10_through_X10_in0 rfl rfl rfl (by decide +kernel) ⟨Nat.le_of_ble_eq_true rfl, Nat.le_of_ble_eq_true rfl⟩) ⟨fun a U g mk q => by obtain ⟨q0, qP, qK⟩ := q; exact ⟨q0, qP, va_K.moved (u := U) (U := U.calling g mk a) (Vm.Alike.refl U.vm) qK⟩, fun U hU hW => ⟨rfl, by rw [hU]; exact hPc, va_K.moved hW.alike hKc⟩⟩ rfl rfl hl.1 rfl (lv_room (Nat.le_of_ble_eq_true rfl)) dX10_through_39 ⟨Nat.le_of_ble_eq_true rfl, Nat.le_of_ble_eq_true rfl⟩) hS (fun _ _ h => h.elim) (fun _ h => h.elim) (fun r9 u t H1 locs ht hvm hw hB hz1 hk1 hS => ?_)
          have hP := pw_keep hP (fun q hq => hk1 q hq (fun h => h))
          generalize H1 = H at hP hS ⊢
          refine W.widen (k := 0) (n := 0) (Nat.le_of_ble_eq_true rfl) (Nat.le_of_ble_eq_true rfl) ?_
          have bor9 := hw.1
          have zor9 := pw_boolI bor9
          have hfr9 := hw.2
          have kl0 : (0 : Int64).toInt = 0 := by decide
          have kl2 : (2 : Int64).toInt = 2 := by decide
          try simp only [Int32.toInt_toInt64] at hfr9
          refine lv_if_ne (tgt := 48) hx hb dX10_through_42 (by decide) (fun c10 => ?_) (fun c10 => ?_)
          · have nc10 : r9.toInt ≠ 0 := pw_ne c10 rfl (by decide)
            refine lv_aload_n hx hb dX10_through_48 rfl (lv_at hl 0 rfl) ?_
            have hPc := hP.sub (ws' := [(h0, .inr (10, [.ref m_now, .ref m_draft, .ref m_past, .int j_acts, .ref m_images, .ref m_kept, .ref m_tape, .int j_taped, .int j_at, .int j_start, .int j_token, .int j_value, .int j_fault, .int j_place, .int j_latest, .ref m_low, .ref m_high, .ref m_first, .ref m_second, .ref m_lines, .ref m_others, .int j_shiftFirst, .int j_shiftMany, .int j_shiftLow, .int j_shiftHigh])), (m_now, .inl (kI, 192, .inl g_now)), (m_low, .inl (kI, 1000, .inl g_low)), (m_high, .inl (kI, 1000, .inl g_high))]) [0, 1, 2, 3] rfl
            have hKc := hK.sub (tys' := [(kI, .int)]) [0] rfl
            have hDc := hD.sub (ws' := [(h0, .inr (10, [.ref m_now, .ref m_draft, .ref m_past, .int j_acts, .ref m_images, .ref m_kept, .ref m_tape, .int j_taped, .int j_at, .int j_start, .int j_token, .int j_value, .int j_fault, .int j_place, .int j_latest, .ref m_low, .ref m_high, .ref m_first, .ref m_second, .ref m_lines, .ref m_others, .int j_shiftFirst, .int j_shiftMany, .int j_shiftLow, .int j_shiftHigh])), (m_now, .inl (kI, 192, .inl g_now)), (m_low, .inl (kI, 1000, .inl g_low)), (m_high, .inl (kI, 1000, .inl g_high))]) [0, 1, 2, 3] (by decide) rfl
            have hFc := va_free (wc := [(h0, .inr (10, [.ref m_now, .ref m_draft, .ref m_past, .int j_acts, .ref m_images, .ref m_kept, .ref m_tape, .int j_taped, .int j_at, .int j_start, .int j_token, .int j_value, .int j_fault, .int j_place, .int j_latest, .ref m_low, .ref m_high, .ref m_first, .ref m_second, .ref m_lines, .ref m_others, .int j_shiftFirst, .int j_shiftMany, .int j_shiftLow, .int j_shiftHigh])), (m_now, .inl (kI, 192, .inl g_now)), (m_low, .inl (kI, 1000, .inl g_low)), (m_high, .inl (kI, 1000, .inl g_high))]) hD hS hA [0, 1, 2, 3] rfl
            refine va_callv (va_runV (As := []) (rest := []) ⟨hx, hb, hml, hown, hts⟩ (c_X10_lays l D h0 m_now m_draft m_past j_acts m_images m_kept m_tape j_taped j_at j_start j_token j_value j_fault j_place j_latest m_low m_high m_first m_second m_lines m_others j_shiftFirst j_shiftMany j_shiftLow j_shiftHigh kI g_now g_low g_high H.size hg_now hg_low hg_high) (cwV 0 hts g_X10_through_X10_lays rfl rfl rfl (by decide +kernel) ⟨Nat.le_of_ble_eq_true rfl, Nat.le_of_ble_eq_true rfl⟩) ⟨fun a U g mk q => by obtain ⟨q0, q1, qP, qK, qD⟩ := q; exact ⟨q0, q1, qP, va_K.moved (u := U) (U := U.calling g mk a) (Vm.Alike.refl U.vm) qK, qD⟩, va_recv hKc hPc (ci := 10) (q0 := 0) rfl rfl, fun U hU hW => ⟨rfl, by rw [hU], by rw [hU]; exact hPc, va_K.moved hW.alike hKc, hDc.weaken (fun _ _ _ _ => trivial)⟩⟩ rfl rfl hl.1 rfl (lv_room (Nat.le_of_ble_eq_true rfl)) dX10_through_49 ⟨Nat.le_of_ble_eq_true rfl, Nat.le_of_ble_eq_true rfl⟩) hS (fun q _ h => hFc q h) hFc (fun u t H1 locs ht hvm hw hB hz1 hk1 hS => ?_)
            obtain ⟨y12, y13, hP1, hK1, hD1, hy12, hy13⟩ := hB
            rw [ht] at hP1
            have hK1 := va_K.moved hvm.symm hK1
            obtain ⟨hP, hD⟩ := va_join (wr := [(m_first, .inl (kZ, 1000, .inl g_first)), (m_second, .inl (kZ, 1000, .inl g_second))]) (w1 := [(h0, .inr (10, [.ref m_now, .ref m_draft, .ref m_past, .int j_acts, .ref m_images, .ref m_kept, .ref m_tape, .int j_taped, .int j_at, .int j_start, .int j_token, .int j_value, .int j_fault, .int j_place, .int j_latest, .ref m_low, .ref m_high, .ref m_first, .ref m_second, .ref m_lines, .ref m_others, .int j_shiftFirst, .int j_shiftMany, .int j_shiftLow, .int j_shiftHigh])), (m_now, .inl (kI, 192, .inl g_now)), (m_low, .inl (kI, 1000, .inl y12)), (m_high, .inl (kI, 1000, .inl y13))]) hP hD [0, 1, 2, 3] [4, 5] rfl rfl (by decide) (by decide) hk1 hFc hP1 hD1
            have hK := (hK.sub (tys' := [(kI, .int), (kZ, .boolean)]) [0, 1] rfl).app hK1
            generalize H1 = H at hP hS ⊢
            have hP : va_P D vwCl [(m_first, .inl (kZ, 1000, .inl g_first)), (m_second, .inl (kZ, 1000, .inl g_second)), (h0, .inr (10, [.ref m_now, .ref m_draft, .ref m_past, .int j_acts, .ref m_images, .ref m_kept, .ref m_tape, .int j_taped, .int j_at, .int j_start, .int j_token, .int j_value, .int j_fault, .int j_place, .int j_latest, .ref m_low, .ref m_high, .ref m_first, .ref m_second, .ref m_lines, .ref m_others, .int j_shiftFirst, .int j_shiftMany, .int j_shiftLow, .int j_shiftHigh])), (m_now, .inl (kI, 192, .inl g_now)), (m_low, .inl (kI, 1000, .inl y12)), (m_high, .inl (kI, 1000, .inl y13))] H := hP
            have hD : va_D A [(m_first, .inl (kZ, 1000, .inl g_first)), (m_second, .inl (kZ, 1000, .inl g_second)), (h0, .inr (10, [.ref m_now, .ref m_draft, .ref m_past, .int j_acts, .ref m_images, .ref m_kept, .ref m_tape, .int j_taped, .int j_at, .int j_start, .int j_token, .int j_value, .int j_fault, .int j_place, .int j_latest, .ref m_low, .ref m_high, .ref m_first, .ref m_second, .ref m_lines, .ref m_others, .int j_shiftFirst, .int j_shiftMany, .int j_shiftLow, .int j_shiftHigh])), (m_now, .inl (kI, 192, .inl g_now)), (m_low, .inl (kI, 1000, .inl y12)), (m_high, .inl (kI, 1000, .inl y13))] := hD
            have hK : va_K D vwCl [(kI, .int), (kZ, .boolean), (kI, .int)] s := hK
            refine W.widen (k := 0) (n := 0) (Nat.le_of_ble_eq_true rfl) (Nat.le_of_ble_eq_true rfl) ?_
            refine lv_aload_n hx hb dX10_through_52 rfl (lv_at hl 0 rfl) ?_
            refine lv_iload_n hx hb dX10_through_53 rfl (lv_at hl 1 rfl) ?_
            refine lv_iload_n hx hb dX10_through_54 rfl (lv_at hl 2 rfl) ?_
            refine lv_iload_n hx hb dX10_through_55 rfl (lv_at hl 3 rfl) ?_
            refine lv_iload hx hb dX10_through_56 (lv_at hl 4 rfl) ?_
            have hPc := hP.sub (ws' := [(h0, .inr (10, [.ref m_now, .ref m_draft, .ref m_past, .int j_acts, .ref m_images, .ref m_kept, .ref m_tape, .int j_taped, .int j_at, .int j_start, .int j_token, .int j_value, .int j_fault, .int j_place, .int j_latest, .ref m_low, .ref m_high, .ref m_first, .ref m_second, .ref m_lines, .ref m_others, .int j_shiftFirst, .int j_shiftMany, .int j_shiftLow, .int j_shiftHigh])), (m_now, .inl (kI, 192, .inl g_now)), (m_low, .inl (kI, 1000, .inl y12)), (m_high, .inl (kI, 1000, .inl y13)), (m_first, .inl (kZ, 1000, .inl g_first)), (m_second, .inl (kZ, 1000, .inl g_second))]) [2, 3, 4, 5, 0, 1] rfl
            have hKc := hK.sub (tys' := [(kI, .int), (kZ, .boolean)]) [0, 1] rfl
            have hDc := hD.sub (ws' := [(h0, .inr (10, [.ref m_now, .ref m_draft, .ref m_past, .int j_acts, .ref m_images, .ref m_kept, .ref m_tape, .int j_taped, .int j_at, .int j_start, .int j_token, .int j_value, .int j_fault, .int j_place, .int j_latest, .ref m_low, .ref m_high, .ref m_first, .ref m_second, .ref m_lines, .ref m_others, .int j_shiftFirst, .int j_shiftMany, .int j_shiftLow, .int j_shiftHigh])), (m_now, .inl (kI, 192, .inl g_now)), (m_low, .inl (kI, 1000, .inl y12)), (m_high, .inl (kI, 1000, .inl y13)), (m_first, .inl (kZ, 1000, .inl g_first)), (m_second, .inl (kZ, 1000, .inl g_second))]) [2, 3, 4, 5, 0, 1] (by decide) rfl
            have hFc := va_free (wc := [(h0, .inr (10, [.ref m_now, .ref m_draft, .ref m_past, .int j_acts, .ref m_images, .ref m_kept, .ref m_tape, .int j_taped, .int j_at, .int j_start, .int j_token, .int j_value, .int j_fault, .int j_place, .int j_latest, .ref m_low, .ref m_high, .ref m_first, .ref m_second, .ref m_lines, .ref m_others, .int j_shiftFirst, .int j_shiftMany, .int j_shiftLow, .int j_shiftHigh])), (m_now, .inl (kI, 192, .inl g_now)), (m_low, .inl (kI, 1000, .inl y12)), (m_high, .inl (kI, 1000, .inl y13)), (m_first, .inl (kZ, 1000, .inl g_first)), (m_second, .inl (kZ, 1000, .inl g_second))]) hD hS hA [2, 3, 4, 5, 0, 1] rfl
            refine va_callv (va_runV (As := [.int i_0, .int i_1, .int i_2, .int i_3]) (rest := []) ⟨hx, hb, hml, hown, hts⟩ (c_X10_goes l D h0 i_0 i_1 i_2 i_3 m_now m_draft m_past j_acts m_images m_kept m_tape j_taped j_at j_start j_token j_value j_fault j_place j_latest m_low m_high m_first m_second m_lines m_others j_shiftFirst j_shiftMany j_shiftLow j_shiftHigh kI g_now y12 y13 kZ g_first g_second H.size (by first | decide | omega) (by first | decide | omega) (by first | decide | omega) (by first | decide | omega) (by first | decide | omega) (by first | decide | omega) hg_now hy12 hy13) (cwV 4 hts g_X10_through_X10_goes rfl rfl rfl (by decide +kernel) ⟨Nat.le_of_ble_eq_true rfl, Nat.le_of_ble_eq_true rfl⟩) ⟨fun a U g mk q => by obtain ⟨q0, q1, qP, qK, qD⟩ := q; exact ⟨q0, q1, qP, va_K.moved (u := U) (U := U.calling g mk a) (Vm.Alike.refl U.vm) qK, qD⟩, va_recv hKc hPc (ci := 10) (q0 := 0) rfl rfl, fun U hU hW => ⟨rfl, by rw [hU], by rw [hU]; exact hPc, va_K.moved hW.alike hKc, hDc.weaken (fun _ _ _ _ => trivial)⟩⟩ rfl rfl hl.1 rfl (lv_room (Nat.le_of_ble_eq_true rfl)) dX10_through_58 ⟨Nat.le_of_ble_eq_true rfl, Nat.le_of_ble_eq_true rfl⟩) hS (fun q _ h => hFc q h) hFc (fun u t H1 locs ht hvm hw hB hz1 hk1 hS => ?_)
            obtain ⟨y15, y16, hP1, hK1, hD1⟩ := hB
            rw [ht] at hP1
            have hK1 := va_K.moved hvm.symm hK1
            obtain ⟨hP, hD⟩ := va_join (wr := []) (w1 := [(h0, .inr (10, [.ref m_now, .ref m_draft, .ref m_past, .int j_acts, .ref m_images, .ref m_kept, .ref m_tape, .int j_taped, .int j_at, .int j_start, .int j_token, .int j_value, .int j_fault, .int j_place, .int j_latest, .ref m_low, .ref m_high, .ref m_first, .ref m_second, .ref m_lines, .ref m_others, .int j_shiftFirst, .int j_shiftMany, .int j_shiftLow, .int j_shiftHigh])), (m_now, .inl (kI, 192, .inl g_now)), (m_low, .inl (kI, 1000, .inl y12)), (m_high, .inl (kI, 1000, .inl y13)), (m_first, .inl (kZ, 1000, .inl y15)), (m_second, .inl (kZ, 1000, .inl y16))]) hP hD [2, 3, 4, 5, 0, 1] [] rfl rfl (by decide) (by decide) hk1 hFc hP1 hD1
            have hK := (hK.sub (tys' := [(kI, .int), (kZ, .boolean), (kI, .int)]) [0, 1, 2] rfl).app hK1
            generalize H1 = H at hP hS ⊢
            have hP : va_P D vwCl [(h0, .inr (10, [.ref m_now, .ref m_draft, .ref m_past, .int j_acts, .ref m_images, .ref m_kept, .ref m_tape, .int j_taped, .int j_at, .int j_start, .int j_token, .int j_value, .int j_fault, .int j_place, .int j_latest, .ref m_low, .ref m_high, .ref m_first, .ref m_second, .ref m_lines, .ref m_others, .int j_shiftFirst, .int j_shiftMany, .int j_shiftLow, .int j_shiftHigh])), (m_now, .inl (kI, 192, .inl g_now)), (m_low, .inl (kI, 1000, .inl y12)), (m_high, .inl (kI, 1000, .inl y13)), (m_first, .inl (kZ, 1000, .inl y15)), (m_second, .inl (kZ, 1000, .inl y16))] H := hP
            have hD : va_D A [(h0, .inr (10, [.ref m_now, .ref m_draft, .ref m_past, .int j_acts, .ref m_images, .ref m_kept, .ref m_tape, .int j_taped, .int j_at, .int j_start, .int j_token, .int j_value, .int j_fault, .int j_place, .int j_latest, .ref m_low, .ref m_high, .ref m_first, .ref m_second, .ref m_lines, .ref m_others, .int j_shiftFirst, .int j_shiftMany, .int j_shiftLow, .int j_shiftHigh])), (m_now, .inl (kI, 192, .inl g_now)), (m_low, .inl (kI, 1000, .inl y12)), (m_high, .inl (kI, 1000, .inl y13)), (m_first, .inl (kZ, 1000, .inl y15)), (m_second, .inl (kZ, 1000, .inl y16))] := hD
            have hK : va_K D vwCl [(kI, .int), (kZ, .boolean), (kI, .int), (kI, .int), (kZ, .boolean)] s := hK
            refine W.widen (k := 0) (n := 0) (Nat.le_of_ble_eq_true rfl) (Nat.le_of_ble_eq_true rfl) ?_
            refine lv_aload_n hx hb dX10_through_61 rfl (lv_at hl 0 rfl) ?_
            refine va_get (D := D) (ci := 10) (v := .ref m_first) (C := RX10) (T := TX10) (N := 25) hx hb hts (fun _ h => List.mem_cons_of_mem _ (List.mem_append_right _ h)) hown hK hP 0 rfl rfl 17 (by decide) (hts (.fieldLink RX10 35 "LineCitesModel" "first" "[Z") (List.mem_of_getElem? (i := 53) rfl)) (fun _ h9 => h9) rfl dX10_through_62 ?_
            refine lv_iload hx hb dX10_through_65 (lv_at hl 5 rfl) ?_
            have hPc := hP.sub (ws' := [(m_first, .inl (kZ, 1000, .inl y15))]) [4] rfl
            have hKc := hK.sub (tys' := [(kZ, .boolean)]) [1] rfl
            refine va_calli (va_runS (As := [.ref m_first, .int i_4]) (rest := []) ⟨hx, hb, hml, hown, hts⟩ (c_X10_told l D m_first i_4 kZ y15) (cwS 2 hts g_X10_through_X10_told rfl rfl rfl (by decide +kernel) ⟨Nat.le_of_ble_eq_true rfl, Nat.le_of_ble_eq_true rfl⟩) ⟨fun a U g mk q => by obtain ⟨q0, qP, qK⟩ := q; exact ⟨q0, qP, va_K.moved (u := U) (U := U.calling g mk a) (Vm.Alike.refl U.vm) qK⟩, fun U hU hW => ⟨rfl, by rw [hU]; exact hPc, va_K.moved hW.alike hKc⟩⟩ rfl rfl hl.1 rfl (lv_room (Nat.le_of_ble_eq_true rfl)) dX10_through_67 ⟨Nat.le_of_ble_eq_true rfl, Nat.le_of_ble_eq_true rfl⟩) hS (fun _ _ h => h.elim) (fun _ h => h.elim) (fun r17 u t H1 locs ht hvm hw hB hz1 hk1 hS => ?_)
            have hP := pw_keep hP (fun q hq => hk1 q hq (fun h => h))
            generalize H1 = H at hP hS ⊢
            refine W.widen (k := 0) (n := 0) (Nat.le_of_ble_eq_true rfl) (Nat.le_of_ble_eq_true rfl) ?_
            have hP9 := hP.sub (ws' := [(h0, .inr (10, [.ref m_now, .ref m_draft, .ref m_past, .int j_acts, .ref m_images, .ref m_kept, .ref m_tape, .int j_taped, .int j_at, .int j_start, .int j_token, .int j_value, .int j_fault, .int j_place, .int j_latest, .ref m_low, .ref m_high, .ref m_first, .ref m_second, .ref m_lines, .ref m_others, .int j_shiftFirst, .int j_shiftMany, .int j_shiftLow, .int j_shiftHigh])), (m_now, .inl (kI, 192, .inl g_now)), (m_low, .inl (kI, 1000, .inl y12)), (m_high, .inl (kI, 1000, .inl y13)), (m_first, .inl (kZ, 1000, .inl y15)), (m_second, .inl (kZ, 1000, .inl y16))]) [0, 1, 2, 3, 4, 5] rfl
            have hD9 := hD.sub (ws' := [(h0, .inr (10, [.ref m_now, .ref m_draft, .ref m_past, .int j_acts, .ref m_images, .ref m_kept, .ref m_tape, .int j_taped, .int j_at, .int j_start, .int j_token, .int j_value, .int j_fault, .int j_place, .int j_latest, .ref m_low, .ref m_high, .ref m_first, .ref m_second, .ref m_lines, .ref m_others, .int j_shiftFirst, .int j_shiftMany, .int j_shiftLow, .int j_shiftHigh])), (m_now, .inl (kI, 192, .inl g_now)), (m_low, .inl (kI, 1000, .inl y12)), (m_high, .inl (kI, 1000, .inl y13)), (m_first, .inl (kZ, 1000, .inl y15)), (m_second, .inl (kZ, 1000, .inl y16))]) [0, 1, 2, 3, 4, 5] (by decide) rfl
            have hK9 := hK.sub (tys' := [(kI, .int), (kZ, .boolean)]) [0, 1] rfl
            refine W.widen (k := 0) (n := 0) (Nat.le_of_ble_eq_true rfl) (Nat.le_of_ble_eq_true rfl) ?_
            exact W.iret (v := r17) hx hb hr (fun t ht hW => ⟨⟨r17, (), rfl, trivial, y12, y13, y15, y16, by rw [ht]; exact hP9, va_K.moved hW.alike hK9, hD9, hy12, hy13⟩, hS.F ht⟩) hS.2.2 dX10_through_70
          · have nc10 : r9.toInt = 0 := pw_eq c10 rfl (by decide)
            refine lv_ldc hx hb hown (hts (.constant RX10 177 (-1000001)) (List.mem_of_getElem? (i := 14) rfl)) dX10_through_45 ?_
            have hP9 := hP.sub (ws' := [(h0, .inr (10, [.ref m_now, .ref m_draft, .ref m_past, .int j_acts, .ref m_images, .ref m_kept, .ref m_tape, .int j_taped, .int j_at, .int j_start, .int j_token, .int j_value, .int j_fault, .int j_place, .int j_latest, .ref m_low, .ref m_high, .ref m_first, .ref m_second, .ref m_lines, .ref m_others, .int j_shiftFirst, .int j_shiftMany, .int j_shiftLow, .int j_shiftHigh])), (m_now, .inl (kI, 192, .inl g_now)), (m_low, .inl (kI, 1000, .inl g_low)), (m_high, .inl (kI, 1000, .inl g_high)), (m_first, .inl (kZ, 1000, .inl g_first)), (m_second, .inl (kZ, 1000, .inl g_second))]) [0, 1, 2, 3, 4, 5] rfl
            have hD9 := hD.sub (ws' := [(h0, .inr (10, [.ref m_now, .ref m_draft, .ref m_past, .int j_acts, .ref m_images, .ref m_kept, .ref m_tape, .int j_taped, .int j_at, .int j_start, .int j_token, .int j_value, .int j_fault, .int j_place, .int j_latest, .ref m_low, .ref m_high, .ref m_first, .ref m_second, .ref m_lines, .ref m_others, .int j_shiftFirst, .int j_shiftMany, .int j_shiftLow, .int j_shiftHigh])), (m_now, .inl (kI, 192, .inl g_now)), (m_low, .inl (kI, 1000, .inl g_low)), (m_high, .inl (kI, 1000, .inl g_high)), (m_first, .inl (kZ, 1000, .inl g_first)), (m_second, .inl (kZ, 1000, .inl g_second))]) [0, 1, 2, 3, 4, 5] (by decide) rfl
            have hK9 := hK.sub (tys' := [(kI, .int), (kZ, .boolean)]) [0, 1] rfl
            refine W.widen (k := 0) (n := 0) (Nat.le_of_ble_eq_true rfl) (Nat.le_of_ble_eq_true rfl) ?_
            exact W.iret (v := (-1000001)) hx hb hr (fun t ht hW => ⟨⟨(-1000001), (), rfl, trivial, g_low, g_high, g_first, g_second, by rw [ht]; exact hP9, va_K.moved hW.alike hK9, hD9, hg_low, hg_high⟩, hS.F ht⟩) hS.2.2 dX10_through_47
