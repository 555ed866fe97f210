theorem dX9_stretch_0 : decode cX9_stretch 0 = .ok (.aload_n 0, 1) := by decide +kernel
theorem dX9_stretch_1 : decode cX9_stretch 1 = .ok (.getfield 19, 3) := by decide +kernel
theorem dX9_stretch_4 : decode cX9_stretch 4 = .ok (.iload_n 1, 1) := by decide +kernel
theorem dX9_stretch_5 : decode cX9_stretch 5 = .ok (.iload_n 2, 1) := by decide +kernel
theorem dX9_stretch_6 : decode cX9_stretch 6 = .ok (.invokevirtual 156, 3) := by decide +kernel
theorem dX9_stretch_9 : decode cX9_stretch 9 = .ok (.ifCond .eq 12, 3) := by decide +kernel
theorem dX9_stretch_12 : decode cX9_stretch 12 = .ok (.iload_n 3, 1) := by decide +kernel
theorem dX9_stretch_13 : decode cX9_stretch 13 = .ok (.ifCond .lt 8, 3) := by decide +kernel
theorem dX9_stretch_16 : decode cX9_stretch 16 = .ok (.iload_n 3, 1) := by decide +kernel
theorem dX9_stretch_17 : decode cX9_stretch 17 = .ok (.iconst 4, 1) := by decide +kernel
theorem dX9_stretch_18 : decode cX9_stretch 18 = .ok (.if_icmp .le 6, 3) := by decide +kernel
theorem dX9_stretch_21 : decode cX9_stretch 21 = .ok (.ldc 88, 2) := by decide +kernel
theorem dX9_stretch_23 : decode cX9_stretch 23 = .ok (.ireturn, 1) := by decide +kernel
theorem dX9_stretch_24 : decode cX9_stretch 24 = .ok (.iload_n 3, 1) := by decide +kernel
theorem dX9_stretch_25 : decode cX9_stretch 25 = .ok (.iconst 4, 1) := by decide +kernel
theorem dX9_stretch_26 : decode cX9_stretch 26 = .ok (.if_icmp .ge 14, 3) := by decide +kernel
theorem dX9_stretch_29 : decode cX9_stretch 29 = .ok (.aload_n 0, 1) := by decide +kernel
theorem dX9_stretch_30 : decode cX9_stretch 30 = .ok (.getfield 19, 3) := by decide +kernel
theorem dX9_stretch_33 : decode cX9_stretch 33 = .ok (.iload_n 1, 1) := by decide +kernel
theorem dX9_stretch_34 : decode cX9_stretch 34 = .ok (.iload_n 2, 1) := by decide +kernel
theorem dX9_stretch_35 : decode cX9_stretch 35 = .ok (.iload_n 3, 1) := by decide +kernel
theorem dX9_stretch_36 : decode cX9_stretch 36 = .ok (.invokevirtual 164, 3) := by decide +kernel
theorem dX9_stretch_39 : decode cX9_stretch 39 = .ok (.ireturn, 1) := by decide +kernel
theorem dX9_stretch_40 : decode cX9_stretch 40 = .ok (.aload_n 0, 1) := by decide +kernel
theorem dX9_stretch_41 : decode cX9_stretch 41 = .ok (.getfield 19, 3) := by decide +kernel
theorem dX9_stretch_44 : decode cX9_stretch 44 = .ok (.iload_n 1, 1) := by decide +kernel
theorem dX9_stretch_45 : decode cX9_stretch 45 = .ok (.iload_n 2, 1) := by decide +kernel
theorem dX9_stretch_46 : decode cX9_stretch 46 = .ok (.iconst 0, 1) := by decide +kernel
theorem dX9_stretch_47 : decode cX9_stretch 47 = .ok (.invokevirtual 164, 3) := by decide +kernel
theorem dX9_stretch_50 : decode cX9_stretch 50 = .ok (.aload_n 0, 1) := by decide +kernel
theorem dX9_stretch_51 : decode cX9_stretch 51 = .ok (.getfield 19, 3) := by decide +kernel
theorem dX9_stretch_54 : decode cX9_stretch 54 = .ok (.iload_n 1, 1) := by decide +kernel
theorem dX9_stretch_55 : decode cX9_stretch 55 = .ok (.iload_n 2, 1) := by decide +kernel
theorem dX9_stretch_56 : decode cX9_stretch 56 = .ok (.iconst 2, 1) := by decide +kernel
theorem dX9_stretch_57 : decode cX9_stretch 57 = .ok (.invokevirtual 164, 3) := by decide +kernel
theorem dX9_stretch_60 : decode cX9_stretch 60 = .ok (.aload_n 0, 1) := by decide +kernel
theorem dX9_stretch_61 : decode cX9_stretch 61 = .ok (.getfield 19, 3) := by decide +kernel
theorem dX9_stretch_64 : decode cX9_stretch 64 = .ok (.iload_n 1, 1) := by decide +kernel
theorem dX9_stretch_65 : decode cX9_stretch 65 = .ok (.iload_n 2, 1) := by decide +kernel
theorem dX9_stretch_66 : decode cX9_stretch 66 = .ok (.iconst 3, 1) := by decide +kernel
theorem dX9_stretch_67 : decode cX9_stretch 67 = .ok (.invokevirtual 164, 3) := by decide +kernel
theorem dX9_stretch_70 : decode cX9_stretch 70 = .ok (.invokestatic 200, 3) := by decide +kernel
theorem dX9_stretch_73 : decode cX9_stretch 73 = .ok (.ireturn, 1) := by decide +kernel
theorem dX9_as_0 : decode cX9_as 0 = .ok (.aload_n 0, 1) := by decide +kernel
theorem dX9_as_1 : decode cX9_as 1 = .ok (.getfield 19, 3) := by decide +kernel
theorem dX9_as_4 : decode cX9_as 4 = .ok (.iload_n 1, 1) := by decide +kernel
theorem dX9_as_5 : decode cX9_as 5 = .ok (.iload_n 2, 1) := by decide +kernel
theorem dX9_as_6 : decode cX9_as 6 = .ok (.invokevirtual 156, 3) := by decide +kernel
theorem dX9_as_9 : decode cX9_as 9 = .ok (.ifCond .eq 12, 3) := by decide +kernel
theorem dX9_as_12 : decode cX9_as 12 = .ok (.iload_n 3, 1) := by decide +kernel
theorem dX9_as_13 : decode cX9_as 13 = .ok (.ifCond .lt 8, 3) := by decide +kernel
theorem dX9_as_16 : decode cX9_as 16 = .ok (.iload_n 3, 1) := by decide +kernel
theorem dX9_as_17 : decode cX9_as 17 = .ok (.iconst 5, 1) := by decide +kernel
theorem dX9_as_18 : decode cX9_as 18 = .ok (.if_icmp .le 6, 3) := by decide +kernel
theorem dX9_as_21 : decode cX9_as 21 = .ok (.ldc 88, 2) := by decide +kernel
theorem dX9_as_23 : decode cX9_as 23 = .ok (.ireturn, 1) := by decide +kernel
theorem dX9_as_24 : decode cX9_as 24 = .ok (.aload_n 0, 1) := by decide +kernel
theorem dX9_as_25 : decode cX9_as 25 = .ok (.getfield 19, 3) := by decide +kernel
theorem dX9_as_28 : decode cX9_as 28 = .ok (.iload_n 1, 1) := by decide +kernel
theorem dX9_as_29 : decode cX9_as 29 = .ok (.iload_n 2, 1) := by decide +kernel
theorem dX9_as_30 : decode cX9_as 30 = .ok (.iconst 0, 1) := by decide +kernel
theorem dX9_as_31 : decode cX9_as 31 = .ok (.invokevirtual 164, 3) := by decide +kernel
theorem dX9_as_34 : decode cX9_as 34 = .ok (.iload_n 3, 1) := by decide +kernel
theorem dX9_as_35 : decode cX9_as 35 = .ok (.invokestatic 203, 3) := by decide +kernel
theorem dX9_as_38 : decode cX9_as 38 = .ok (.ifCond .eq 7, 3) := by decide +kernel
theorem dX9_as_41 : decode cX9_as 41 = .ok (.iload_n 2, 1) := by decide +kernel
theorem dX9_as_42 : decode cX9_as 42 = .ok (.goto 5, 3) := by decide +kernel
theorem dX9_as_45 : decode cX9_as 45 = .ok (.ldc 206, 2) := by decide +kernel
theorem dX9_as_47 : decode cX9_as 47 = .ok (.ireturn, 1) := by decide +kernel
theorem dX9_edition_0 : decode cX9_edition 0 = .ok (.aload_n 0, 1) := by decide +kernel
theorem dX9_edition_1 : decode cX9_edition 1 = .ok (.getfield 19, 3) := by decide +kernel
theorem dX9_edition_4 : decode cX9_edition 4 = .ok (.iload_n 1, 1) := by decide +kernel
theorem dX9_edition_5 : decode cX9_edition 5 = .ok (.invokevirtual 138, 3) := by decide +kernel
theorem dX9_edition_8 : decode cX9_edition 8 = .ok (.ifCond .eq 13, 3) := by decide +kernel
theorem dX9_edition_11 : decode cX9_edition 11 = .ok (.iload_n 2, 1) := by decide +kernel
theorem dX9_edition_12 : decode cX9_edition 12 = .ok (.ifCond .lt 9, 3) := by decide +kernel
theorem dX9_edition_15 : decode cX9_edition 15 = .ok (.iload_n 2, 1) := by decide +kernel
theorem dX9_edition_16 : decode cX9_edition 16 = .ok (.bipush 6, 2) := by decide +kernel
theorem dX9_edition_18 : decode cX9_edition 18 = .ok (.if_icmp .le 6, 3) := by decide +kernel
theorem dX9_edition_21 : decode cX9_edition 21 = .ok (.ldc 88, 2) := by decide +kernel
theorem dX9_edition_23 : decode cX9_edition 23 = .ok (.ireturn, 1) := by decide +kernel
theorem dX9_edition_24 : decode cX9_edition 24 = .ok (.iload_n 2, 1) := by decide +kernel
theorem dX9_edition_25 : decode cX9_edition 25 = .ok (.ifCond .ne 12, 3) := by decide +kernel
theorem dX9_edition_28 : decode cX9_edition 28 = .ok (.aload_n 0, 1) := by decide +kernel
theorem dX9_edition_29 : decode cX9_edition 29 = .ok (.getfield 19, 3) := by decide +kernel
theorem dX9_edition_32 : decode cX9_edition 32 = .ok (.iload_n 1, 1) := by decide +kernel
theorem dX9_edition_33 : decode cX9_edition 33 = .ok (.invokevirtual 145, 3) := by decide +kernel
theorem dX9_edition_36 : decode cX9_edition 36 = .ok (.ireturn, 1) := by decide +kernel
theorem dX9_edition_37 : decode cX9_edition 37 = .ok (.aload_n 0, 1) := by decide +kernel
theorem dX9_edition_38 : decode cX9_edition 38 = .ok (.getfield 51, 3) := by decide +kernel
theorem dX9_edition_41 : decode cX9_edition 41 = .ok (.aload_n 0, 1) := by decide +kernel
theorem dX9_edition_42 : decode cX9_edition 42 = .ok (.getfield 19, 3) := by decide +kernel
theorem dX9_edition_45 : decode cX9_edition 45 = .ok (.iload_n 1, 1) := by decide +kernel
theorem dX9_edition_46 : decode cX9_edition 46 = .ok (.invokevirtual 207, 3) := by decide +kernel
theorem dX9_edition_49 : decode cX9_edition 49 = .ok (.iload_n 2, 1) := by decide +kernel
theorem dX9_edition_50 : decode cX9_edition 50 = .ok (.iconst 1, 1) := by decide +kernel
theorem dX9_edition_51 : decode cX9_edition 51 = .ok (.if_icmp .ne 11, 3) := by decide +kernel
theorem dX9_edition_54 : decode cX9_edition 54 = .ok (.aload_n 0, 1) := by decide +kernel
theorem dX9_edition_55 : decode cX9_edition 55 = .ok (.getfield 51, 3) := by decide +kernel
theorem dX9_edition_58 : decode cX9_edition 58 = .ok (.invokevirtual 211, 3) := by decide +kernel
theorem dX9_edition_61 : decode cX9_edition 61 = .ok (.ireturn, 1) := by decide +kernel
theorem dX9_edition_62 : decode cX9_edition 62 = .ok (.aload_n 0, 1) := by decide +kernel
theorem dX9_edition_63 : decode cX9_edition 63 = .ok (.getfield 64, 3) := by decide +kernel
theorem dX9_edition_66 : decode cX9_edition 66 = .ok (.aload_n 0, 1) := by decide +kernel
theorem dX9_edition_67 : decode cX9_edition 67 = .ok (.getfield 51, 3) := by decide +kernel
theorem dX9_edition_70 : decode cX9_edition 70 = .ok (.invokevirtual 214, 3) := by decide +kernel
theorem dX9_edition_73 : decode cX9_edition 73 = .ok (.iload_n 2, 1) := by decide +kernel
theorem dX9_edition_74 : decode cX9_edition 74 = .ok (.iconst 5, 1) := by decide +kernel
theorem dX9_edition_75 : decode cX9_edition 75 = .ok (.if_icmp .ne 11, 3) := by decide +kernel
theorem dX9_edition_78 : decode cX9_edition 78 = .ok (.aload_n 0, 1) := by decide +kernel
theorem dX9_edition_79 : decode cX9_edition 79 = .ok (.getfield 64, 3) := by decide +kernel
theorem dX9_edition_82 : decode cX9_edition 82 = .ok (.invokevirtual 218, 3) := by decide +kernel
theorem dX9_edition_85 : decode cX9_edition 85 = .ok (.ireturn, 1) := by decide +kernel
theorem dX9_edition_86 : decode cX9_edition 86 = .ok (.iload_n 2, 1) := by decide +kernel
theorem dX9_edition_87 : decode cX9_edition 87 = .ok (.bipush 6, 2) := by decide +kernel
theorem dX9_edition_89 : decode cX9_edition 89 = .ok (.if_icmp .ne 11, 3) := by decide +kernel
theorem dX9_edition_92 : decode cX9_edition 92 = .ok (.aload_n 0, 1) := by decide +kernel
theorem dX9_edition_93 : decode cX9_edition 93 = .ok (.getfield 64, 3) := by decide +kernel
theorem dX9_edition_96 : decode cX9_edition 96 = .ok (.invokevirtual 221, 3) := by decide +kernel
theorem dX9_edition_99 : decode cX9_edition 99 = .ok (.ireturn, 1) := by decide +kernel
theorem dX9_edition_100 : decode cX9_edition 100 = .ok (.aload_n 0, 1) := by decide +kernel
theorem dX9_edition_101 : decode cX9_edition 101 = .ok (.getfield 64, 3) := by decide +kernel
theorem dX9_edition_104 : decode cX9_edition 104 = .ok (.aload_n 0, 1) := by decide +kernel
theorem dX9_edition_105 : decode cX9_edition 105 = .ok (.getfield 74, 3) := by decide +kernel
theorem dX9_edition_108 : decode cX9_edition 108 = .ok (.invokevirtual 224, 3) := by decide +kernel
theorem dX9_edition_111 : decode cX9_edition 111 = .ok (.aload_n 0, 1) := by decide +kernel
theorem dX9_edition_112 : decode cX9_edition 112 = .ok (.getfield 74, 3) := by decide +kernel
theorem dX9_edition_115 : decode cX9_edition 115 = .ok (.iload_n 2, 1) := by decide +kernel
theorem dX9_edition_116 : decode cX9_edition 116 = .ok (.iconst 2, 1) := by decide +kernel
theorem dX9_edition_117 : decode cX9_edition 117 = .ok (.isub, 1) := by decide +kernel
theorem dX9_edition_118 : decode cX9_edition 118 = .ok (.invokevirtual 228, 3) := by decide +kernel
theorem dX9_edition_121 : decode cX9_edition 121 = .ok (.ireturn, 1) := by decide +kernel
theorem dX9_number_0 : decode cX9_number 0 = .ok (.aload_n 0, 1) := by decide +kernel
theorem dX9_number_1 : decode cX9_number 1 = .ok (.getfield 19, 3) := by decide +kernel
theorem dX9_number_4 : decode cX9_number 4 = .ok (.iload_n 1, 1) := by decide +kernel
theorem dX9_number_5 : decode cX9_number 5 = .ok (.invokevirtual 138, 3) := by decide +kernel
theorem dX9_number_8 : decode cX9_number 8 = .ok (.ifCond .eq 23, 3) := by decide +kernel
theorem dX9_number_11 : decode cX9_number 11 = .ok (.aload_n 0, 1) := by decide +kernel
theorem dX9_number_12 : decode cX9_number 12 = .ok (.getfield 19, 3) := by decide +kernel
theorem dX9_number_15 : decode cX9_number 15 = .ok (.iload_n 2, 1) := by decide +kernel
theorem dX9_number_16 : decode cX9_number 16 = .ok (.invokevirtual 191, 3) := by decide +kernel
theorem dX9_number_19 : decode cX9_number 19 = .ok (.ifCond .eq 12, 3) := by decide +kernel
theorem dX9_number_22 : decode cX9_number 22 = .ok (.iload_n 3, 1) := by decide +kernel
theorem dX9_number_23 : decode cX9_number 23 = .ok (.ifCond .lt 8, 3) := by decide +kernel
theorem dX9_number_26 : decode cX9_number 26 = .ok (.iload_n 3, 1) := by decide +kernel
theorem dX9_number_27 : decode cX9_number 27 = .ok (.iconst 1, 1) := by decide +kernel
theorem dX9_number_28 : decode cX9_number 28 = .ok (.if_icmp .le 6, 3) := by decide +kernel
theorem dX9_number_31 : decode cX9_number 31 = .ok (.ldc 88, 2) := by decide +kernel
theorem dX9_number_33 : decode cX9_number 33 = .ok (.ireturn, 1) := by decide +kernel
theorem dX9_number_34 : decode cX9_number 34 = .ok (.aload_n 0, 1) := by decide +kernel
theorem dX9_number_35 : decode cX9_number 35 = .ok (.getfield 51, 3) := by decide +kernel
theorem dX9_number_38 : decode cX9_number 38 = .ok (.aload_n 0, 1) := by decide +kernel
theorem dX9_number_39 : decode cX9_number 39 = .ok (.getfield 19, 3) := by decide +kernel
theorem dX9_number_42 : decode cX9_number 42 = .ok (.iload_n 1, 1) := by decide +kernel
theorem dX9_number_43 : decode cX9_number 43 = .ok (.invokevirtual 207, 3) := by decide +kernel
theorem dX9_number_46 : decode cX9_number 46 = .ok (.aload_n 0, 1) := by decide +kernel
theorem dX9_number_47 : decode cX9_number 47 = .ok (.getfield 51, 3) := by decide +kernel
theorem dX9_number_50 : decode cX9_number 50 = .ok (.iload_n 2, 1) := by decide +kernel
theorem dX9_number_51 : decode cX9_number 51 = .ok (.invokevirtual 231, 3) := by decide +kernel
theorem dX9_number_54 : decode cX9_number 54 = .ok (.ifCond .ne 6, 3) := by decide +kernel
theorem dX9_number_57 : decode cX9_number 57 = .ok (.ldc 206, 2) := by decide +kernel
theorem dX9_number_59 : decode cX9_number 59 = .ok (.ireturn, 1) := by decide +kernel
theorem dX9_number_60 : decode cX9_number 60 = .ok (.iload_n 3, 1) := by decide +kernel
theorem dX9_number_61 : decode cX9_number 61 = .ok (.ifCond .ne 14, 3) := by decide +kernel
theorem dX9_number_64 : decode cX9_number 64 = .ok (.aload_n 0, 1) := by decide +kernel
theorem dX9_number_65 : decode cX9_number 65 = .ok (.getfield 51, 3) := by decide +kernel
theorem dX9_number_68 : decode cX9_number 68 = .ok (.iload_n 2, 1) := by decide +kernel
theorem dX9_number_69 : decode cX9_number 69 = .ok (.invokevirtual 234, 3) := by decide +kernel
theorem dX9_number_72 : decode cX9_number 72 = .ok (.goto 11, 3) := by decide +kernel
theorem dX9_number_75 : decode cX9_number 75 = .ok (.aload_n 0, 1) := by decide +kernel
theorem dX9_number_76 : decode cX9_number 76 = .ok (.getfield 51, 3) := by decide +kernel
theorem dX9_number_79 : decode cX9_number 79 = .ok (.iload_n 2, 1) := by decide +kernel
theorem dX9_number_80 : decode cX9_number 80 = .ok (.invokevirtual 237, 3) := by decide +kernel
theorem dX9_number_83 : decode cX9_number 83 = .ok (.ireturn, 1) := by decide +kernel
theorem dX9_meant_0 : decode cX9_meant 0 = .ok (.aload_n 0, 1) := by decide +kernel
theorem dX9_meant_1 : decode cX9_meant 1 = .ok (.getfield 19, 3) := by decide +kernel
theorem dX9_meant_4 : decode cX9_meant 4 = .ok (.iload_n 1, 1) := by decide +kernel
theorem dX9_meant_5 : decode cX9_meant 5 = .ok (.invokevirtual 138, 3) := by decide +kernel
theorem dX9_meant_8 : decode cX9_meant 8 = .ok (.ifCond .eq 10, 3) := by decide +kernel
theorem dX9_meant_11 : decode cX9_meant 11 = .ok (.iload_n 2, 1) := by decide +kernel
theorem dX9_meant_12 : decode cX9_meant 12 = .ok (.invokestatic 172, 3) := by decide +kernel
theorem dX9_meant_15 : decode cX9_meant 15 = .ok (.ifCond .ne 6, 3) := by decide +kernel
theorem dX9_meant_18 : decode cX9_meant 18 = .ok (.ldc 88, 2) := by decide +kernel
theorem dX9_meant_20 : decode cX9_meant 20 = .ok (.ireturn, 1) := by decide +kernel
theorem dX9_meant_21 : decode cX9_meant 21 = .ok (.iload_n 3, 1) := by decide +kernel
theorem dX9_meant_22 : decode cX9_meant 22 = .ok (.ifCond .lt 14, 3) := by decide +kernel
theorem dX9_meant_25 : decode cX9_meant 25 = .ok (.iload_n 3, 1) := by decide +kernel
theorem dX9_meant_26 : decode cX9_meant 26 = .ok (.iconst 2, 1) := by decide +kernel
theorem dX9_meant_27 : decode cX9_meant 27 = .ok (.if_icmp .le 12, 3) := by decide +kernel
theorem dX9_meant_30 : decode cX9_meant 30 = .ok (.iload_n 3, 1) := by decide +kernel
theorem dX9_meant_31 : decode cX9_meant 31 = .ok (.bipush 10, 2) := by decide +kernel
theorem dX9_meant_33 : decode cX9_meant 33 = .ok (.if_icmp .ge 6, 3) := by decide +kernel
theorem dX9_meant_36 : decode cX9_meant 36 = .ok (.ldc 88, 2) := by decide +kernel
theorem dX9_meant_38 : decode cX9_meant 38 = .ok (.ireturn, 1) := by decide +kernel
theorem dX9_meant_39 : decode cX9_meant 39 = .ok (.aload_n 0, 1) := by decide +kernel
theorem dX9_meant_40 : decode cX9_meant 40 = .ok (.getfield 51, 3) := by decide +kernel
theorem dX9_meant_43 : decode cX9_meant 43 = .ok (.aload_n 0, 1) := by decide +kernel
theorem dX9_meant_44 : decode cX9_meant 44 = .ok (.getfield 19, 3) := by decide +kernel
theorem dX9_meant_47 : decode cX9_meant 47 = .ok (.iload_n 1, 1) := by decide +kernel
theorem dX9_meant_48 : decode cX9_meant 48 = .ok (.invokevirtual 207, 3) := by decide +kernel
theorem dX9_meant_51 : decode cX9_meant 51 = .ok (.iload_n 3, 1) := by decide +kernel
theorem dX9_meant_52 : decode cX9_meant 52 = .ok (.bipush 10, 2) := by decide +kernel
theorem dX9_meant_54 : decode cX9_meant 54 = .ok (.if_icmp .lt 16, 3) := by decide +kernel
theorem dX9_meant_57 : decode cX9_meant 57 = .ok (.aload_n 0, 1) := by decide +kernel
theorem dX9_meant_58 : decode cX9_meant 58 = .ok (.getfield 51, 3) := by decide +kernel
theorem dX9_meant_61 : decode cX9_meant 61 = .ok (.iload_n 2, 1) := by decide +kernel
theorem dX9_meant_62 : decode cX9_meant 62 = .ok (.iload_n 3, 1) := by decide +kernel
theorem dX9_meant_63 : decode cX9_meant 63 = .ok (.bipush 10, 2) := by decide +kernel
theorem dX9_meant_65 : decode cX9_meant 65 = .ok (.isub, 1) := by decide +kernel
theorem dX9_meant_66 : decode cX9_meant 66 = .ok (.invokevirtual 240, 3) := by decide +kernel
theorem dX9_meant_69 : decode cX9_meant 69 = .ok (.ireturn, 1) := by decide +kernel
theorem dX9_meant_70 : decode cX9_meant 70 = .ok (.aload_n 0, 1) := by decide +kernel
theorem dX9_meant_71 : decode cX9_meant 71 = .ok (.getfield 51, 3) := by decide +kernel
theorem dX9_meant_74 : decode cX9_meant 74 = .ok (.iload_n 2, 1) := by decide +kernel
theorem dX9_meant_75 : decode cX9_meant 75 = .ok (.iload_n 2, 1) := by decide +kernel
theorem dX9_meant_76 : decode cX9_meant 76 = .ok (.aload_n 0, 1) := by decide +kernel
theorem dX9_meant_77 : decode cX9_meant 77 = .ok (.getfield 74, 3) := by decide +kernel
theorem dX9_meant_80 : decode cX9_meant 80 = .ok (.invokevirtual 244, 3) := by decide +kernel
theorem dX9_meant_83 : decode cX9_meant 83 = .ok (.aload_n 0, 1) := by decide +kernel
theorem dX9_meant_84 : decode cX9_meant 84 = .ok (.getfield 74, 3) := by decide +kernel
theorem dX9_meant_87 : decode cX9_meant 87 = .ok (.iload_n 3, 1) := by decide +kernel
theorem dX9_meant_88 : decode cX9_meant 88 = .ok (.invokevirtual 228, 3) := by decide +kernel
theorem dX9_meant_91 : decode cX9_meant 91 = .ok (.ireturn, 1) := by decide +kernel
theorem dX9_left_0 : decode cX9_left 0 = .ok (.aload_n 0, 1) := by decide +kernel
theorem dX9_left_1 : decode cX9_left 1 = .ok (.getfield 19, 3) := by decide +kernel
theorem dX9_left_4 : decode cX9_left 4 = .ok (.iload_n 1, 1) := by decide +kernel
theorem dX9_left_5 : decode cX9_left 5 = .ok (.invokevirtual 138, 3) := by decide +kernel
theorem dX9_left_8 : decode cX9_left 8 = .ok (.ifCond .eq 16, 3) := by decide +kernel
theorem dX9_left_11 : decode cX9_left 11 = .ok (.iload_n 2, 1) := by decide +kernel
theorem dX9_left_12 : decode cX9_left 12 = .ok (.ifCond .lt 12, 3) := by decide +kernel
theorem dX9_left_15 : decode cX9_left 15 = .ok (.iload_n 3, 1) := by decide +kernel
theorem dX9_left_16 : decode cX9_left 16 = .ok (.ifCond .lt 8, 3) := by decide +kernel
theorem dX9_left_19 : decode cX9_left 19 = .ok (.iload_n 3, 1) := by decide +kernel
theorem dX9_left_20 : decode cX9_left 20 = .ok (.iconst 1, 1) := by decide +kernel
theorem dX9_left_21 : decode cX9_left 21 = .ok (.if_icmp .le 6, 3) := by decide +kernel
theorem dX9_left_24 : decode cX9_left 24 = .ok (.ldc 88, 2) := by decide +kernel
theorem dX9_left_26 : decode cX9_left 26 = .ok (.ireturn, 1) := by decide +kernel
theorem dX9_left_27 : decode cX9_left 27 = .ok (.aload_n 0, 1) := by decide +kernel
theorem dX9_left_28 : decode cX9_left 28 = .ok (.getfield 51, 3) := by decide +kernel
theorem dX9_left_31 : decode cX9_left 31 = .ok (.aload_n 0, 1) := by decide +kernel
theorem dX9_left_32 : decode cX9_left 32 = .ok (.getfield 19, 3) := by decide +kernel
theorem dX9_left_35 : decode cX9_left 35 = .ok (.iload_n 1, 1) := by decide +kernel
theorem dX9_left_36 : decode cX9_left 36 = .ok (.invokevirtual 207, 3) := by decide +kernel
theorem dX9_left_39 : decode cX9_left 39 = .ok (.iconst (-1), 1) := by decide +kernel
theorem dX9_left_40 : decode cX9_left 40 = .ok (.istore 4, 2) := by decide +kernel
theorem dX9_left_42 : decode cX9_left 42 = .ok (.iconst 0, 1) := by decide +kernel
theorem dX9_left_43 : decode cX9_left 43 = .ok (.istore 5, 2) := by decide +kernel
theorem dX9_left_45 : decode cX9_left 45 = .ok (.iload 5, 2) := by decide +kernel
theorem dX9_left_47 : decode cX9_left 47 = .ok (.aload_n 0, 1) := by decide +kernel
theorem dX9_left_48 : decode cX9_left 48 = .ok (.getfield 19, 3) := by decide +kernel
theorem dX9_left_51 : decode cX9_left 51 = .ok (.invokevirtual 248, 3) := by decide +kernel
theorem dX9_left_54 : decode cX9_left 54 = .ok (.if_icmp .ge 52, 3) := by decide +kernel
theorem dX9_left_57 : decode cX9_left 57 = .ok (.aload_n 0, 1) := by decide +kernel
theorem dX9_left_58 : decode cX9_left 58 = .ok (.getfield 51, 3) := by decide +kernel
theorem dX9_left_61 : decode cX9_left 61 = .ok (.iload 5, 2) := by decide +kernel
theorem dX9_left_63 : decode cX9_left 63 = .ok (.invokevirtual 251, 3) := by decide +kernel
theorem dX9_left_66 : decode cX9_left 66 = .ok (.ifCond .ne 6, 3) := by decide +kernel
theorem dX9_left_69 : decode cX9_left 69 = .ok (.goto 31, 3) := by decide +kernel
theorem dX9_left_72 : decode cX9_left 72 = .ok (.iinc 4 1, 3) := by decide +kernel
theorem dX9_left_75 : decode cX9_left 75 = .ok (.iload 4, 2) := by decide +kernel
theorem dX9_left_77 : decode cX9_left 77 = .ok (.iload_n 2, 1) := by decide +kernel
theorem dX9_left_78 : decode cX9_left 78 = .ok (.if_icmp .ne 22, 3) := by decide +kernel
theorem dX9_left_81 : decode cX9_left 81 = .ok (.iload_n 3, 1) := by decide +kernel
theorem dX9_left_82 : decode cX9_left 82 = .ok (.ifCond .ne 8, 3) := by decide +kernel
theorem dX9_left_85 : decode cX9_left 85 = .ok (.iload 5, 2) := by decide +kernel
theorem dX9_left_87 : decode cX9_left 87 = .ok (.goto 12, 3) := by decide +kernel
theorem dX9_left_90 : decode cX9_left 90 = .ok (.aload_n 0, 1) := by decide +kernel
theorem dX9_left_91 : decode cX9_left 91 = .ok (.getfield 51, 3) := by decide +kernel
theorem dX9_left_94 : decode cX9_left 94 = .ok (.iload 5, 2) := by decide +kernel
theorem dX9_left_96 : decode cX9_left 96 = .ok (.invokevirtual 254, 3) := by decide +kernel
theorem dX9_left_99 : decode cX9_left 99 = .ok (.ireturn, 1) := by decide +kernel
theorem dX9_left_100 : decode cX9_left 100 = .ok (.iinc 5 1, 3) := by decide +kernel
theorem dX9_left_103 : decode cX9_left 103 = .ok (.goto (-58), 3) := by decide +kernel
theorem dX9_left_106 : decode cX9_left 106 = .ok (.ldc 206, 2) := by decide +kernel
theorem dX9_left_108 : decode cX9_left 108 = .ok (.ireturn, 1) := by decide +kernel
theorem dX9_in_0 : decode cX9_in 0 = .ok (.aload_n 0, 1) := by decide +kernel
theorem dX9_in_1 : decode cX9_in 1 = .ok (.getfield 19, 3) := by decide +kernel
theorem dX9_in_4 : decode cX9_in 4 = .ok (.iload_n 1, 1) := by decide +kernel
theorem dX9_in_5 : decode cX9_in 5 = .ok (.invokevirtual 138, 3) := by decide +kernel
theorem dX9_in_8 : decode cX9_in 8 = .ok (.ifCond .eq 21, 3) := by decide +kernel
theorem dX9_in_11 : decode cX9_in 11 = .ok (.aload_n 0, 1) := by decide +kernel
theorem dX9_in_12 : decode cX9_in 12 = .ok (.getfield 19, 3) := by decide +kernel
theorem dX9_in_15 : decode cX9_in 15 = .ok (.iload_n 3, 1) := by decide +kernel
theorem dX9_in_16 : decode cX9_in 16 = .ok (.invokevirtual 138, 3) := by decide +kernel
theorem dX9_in_19 : decode cX9_in 19 = .ok (.ifCond .eq 10, 3) := by decide +kernel
theorem dX9_in_22 : decode cX9_in 22 = .ok (.iload_n 2, 1) := by decide +kernel
theorem dX9_in_23 : decode cX9_in 23 = .ok (.invokestatic 172, 3) := by decide +kernel
theorem dX9_in_26 : decode cX9_in 26 = .ok (.ifCond .ne 6, 3) := by decide +kernel
theorem dX9_in_29 : decode cX9_in 29 = .ok (.ldc 88, 2) := by decide +kernel
theorem dX9_in_31 : decode cX9_in 31 = .ok (.ireturn, 1) := by decide +kernel
theorem dX9_in_32 : decode cX9_in 32 = .ok (.iload 4, 2) := by decide +kernel
theorem dX9_in_34 : decode cX9_in 34 = .ok (.ifCond .lt 9, 3) := by decide +kernel
theorem dX9_in_37 : decode cX9_in 37 = .ok (.iload 4, 2) := by decide +kernel
theorem dX9_in_39 : decode cX9_in 39 = .ok (.iconst 2, 1) := by decide +kernel
theorem dX9_in_40 : decode cX9_in 40 = .ok (.if_icmp .le 6, 3) := by decide +kernel
theorem dX9_in_43 : decode cX9_in 43 = .ok (.ldc 88, 2) := by decide +kernel
theorem dX9_in_45 : decode cX9_in 45 = .ok (.ireturn, 1) := by decide +kernel
theorem dX9_in_46 : decode cX9_in 46 = .ok (.aload_n 0, 1) := by decide +kernel
theorem dX9_in_47 : decode cX9_in 47 = .ok (.getfield 51, 3) := by decide +kernel
theorem dX9_in_50 : decode cX9_in 50 = .ok (.aload_n 0, 1) := by decide +kernel
theorem dX9_in_51 : decode cX9_in 51 = .ok (.getfield 19, 3) := by decide +kernel
theorem dX9_in_54 : decode cX9_in 54 = .ok (.iload_n 1, 1) := by decide +kernel
theorem dX9_in_55 : decode cX9_in 55 = .ok (.invokevirtual 207, 3) := by decide +kernel
theorem dX9_in_58 : decode cX9_in 58 = .ok (.aload_n 0, 1) := by decide +kernel
theorem dX9_in_59 : decode cX9_in 59 = .ok (.getfield 55, 3) := by decide +kernel
theorem dX9_in_62 : decode cX9_in 62 = .ok (.aload_n 0, 1) := by decide +kernel
theorem dX9_in_63 : decode cX9_in 63 = .ok (.getfield 19, 3) := by decide +kernel
theorem dX9_in_66 : decode cX9_in 66 = .ok (.iload_n 3, 1) := by decide +kernel
theorem dX9_in_67 : decode cX9_in 67 = .ok (.invokevirtual 207, 3) := by decide +kernel
theorem dX9_in_70 : decode cX9_in 70 = .ok (.aload_n 0, 1) := by decide +kernel
theorem dX9_in_71 : decode cX9_in 71 = .ok (.getfield 85, 3) := by decide +kernel
theorem dX9_in_74 : decode cX9_in 74 = .ok (.iload_n 2, 1) := by decide +kernel
theorem dX9_in_75 : decode cX9_in 75 = .ok (.aload_n 0, 1) := by decide +kernel
theorem dX9_in_76 : decode cX9_in 76 = .ok (.getfield 51, 3) := by decide +kernel
theorem dX9_in_79 : decode cX9_in 79 = .ok (.aload_n 0, 1) := by decide +kernel
theorem dX9_in_80 : decode cX9_in 80 = .ok (.getfield 55, 3) := by decide +kernel
theorem dX9_in_83 : decode cX9_in 83 = .ok (.invokevirtual 257, 3) := by decide +kernel
theorem dX9_in_86 : decode cX9_in 86 = .ok (.aload_n 0, 1) := by decide +kernel
theorem dX9_in_87 : decode cX9_in 87 = .ok (.getfield 85, 3) := by decide +kernel
theorem dX9_in_90 : decode cX9_in 90 = .ok (.iload 4, 2) := by decide +kernel
theorem dX9_in_92 : decode cX9_in 92 = .ok (.invokevirtual 261, 3) := by decide +kernel
theorem dX9_in_95 : decode cX9_in 95 = .ok (.ireturn, 1) := by decide +kernel
theorem dX9_through_0 : decode cX9_through 0 = .ok (.aload_n 0, 1) := by decide +kernel
theorem dX9_through_1 : decode cX9_through 1 = .ok (.getfield 19, 3) := by decide +kernel
theorem dX9_through_4 : decode cX9_through 4 = .ok (.iload_n 1, 1) := by decide +kernel
theorem dX9_through_5 : decode cX9_through 5 = .ok (.invokevirtual 138, 3) := by decide +kernel
theorem dX9_through_8 : decode cX9_through 8 = .ok (.ifCond .eq 26, 3) := by decide +kernel
theorem dX9_through_11 : decode cX9_through 11 = .ok (.aload_n 0, 1) := by decide +kernel
theorem dX9_through_12 : decode cX9_through 12 = .ok (.getfield 19, 3) := by decide +kernel
theorem dX9_through_15 : decode cX9_through 15 = .ok (.iload 4, 2) := by decide +kernel
theorem dX9_through_17 : decode cX9_through 17 = .ok (.invokevirtual 138, 3) := by decide +kernel
theorem dX9_through_20 : decode cX9_through 20 = .ok (.ifCond .eq 14, 3) := by decide +kernel
theorem dX9_through_23 : decode cX9_through 23 = .ok (.aload_n 0, 1) := by decide +kernel
theorem dX9_through_24 : decode cX9_through 24 = .ok (.getfield 19, 3) := by decide +kernel
theorem dX9_through_27 : decode cX9_through 27 = .ok (.iload_n 3, 1) := by decide +kernel
theorem dX9_through_28 : decode cX9_through 28 = .ok (.invokevirtual 138, 3) := by decide +kernel
theorem dX9_through_31 : decode cX9_through 31 = .ok (.ifCond .ne 6, 3) := by decide +kernel
theorem dX9_through_34 : decode cX9_through 34 = .ok (.ldc 88, 2) := by decide +kernel
theorem dX9_through_36 : decode cX9_through 36 = .ok (.ireturn, 1) := by decide +kernel
theorem dX9_through_37 : decode cX9_through 37 = .ok (.iload_n 2, 1) := by decide +kernel
theorem dX9_through_38 : decode cX9_through 38 = .ok (.invokestatic 172, 3) := by decide +kernel
theorem dX9_through_41 : decode cX9_through 41 = .ok (.ifCond .eq 14, 3) := by decide +kernel
theorem dX9_through_44 : decode cX9_through 44 = .ok (.iload 5, 2) := by decide +kernel
theorem dX9_through_46 : decode cX9_through 46 = .ok (.ifCond .lt 9, 3) := by decide +kernel
theorem dX9_through_49 : decode cX9_through 49 = .ok (.iload 5, 2) := by decide +kernel
theorem dX9_through_51 : decode cX9_through 51 = .ok (.iconst 2, 1) := by decide +kernel
theorem dX9_through_52 : decode cX9_through 52 = .ok (.if_icmp .le 6, 3) := by decide +kernel
theorem dX9_through_55 : decode cX9_through 55 = .ok (.ldc 88, 2) := by decide +kernel
theorem dX9_through_57 : decode cX9_through 57 = .ok (.ireturn, 1) := by decide +kernel
theorem dX9_through_58 : decode cX9_through 58 = .ok (.aload_n 0, 1) := by decide +kernel
theorem dX9_through_59 : decode cX9_through 59 = .ok (.getfield 51, 3) := by decide +kernel
theorem dX9_through_62 : decode cX9_through 62 = .ok (.aload_n 0, 1) := by decide +kernel
theorem dX9_through_63 : decode cX9_through 63 = .ok (.getfield 19, 3) := by decide +kernel
theorem dX9_through_66 : decode cX9_through 66 = .ok (.iload_n 1, 1) := by decide +kernel
theorem dX9_through_67 : decode cX9_through 67 = .ok (.invokevirtual 207, 3) := by decide +kernel
theorem dX9_through_70 : decode cX9_through 70 = .ok (.aload_n 0, 1) := by decide +kernel
theorem dX9_through_71 : decode cX9_through 71 = .ok (.getfield 58, 3) := by decide +kernel
theorem dX9_through_74 : decode cX9_through 74 = .ok (.aload_n 0, 1) := by decide +kernel
theorem dX9_through_75 : decode cX9_through 75 = .ok (.getfield 19, 3) := by decide +kernel
theorem dX9_through_78 : decode cX9_through 78 = .ok (.iload_n 3, 1) := by decide +kernel
theorem dX9_through_79 : decode cX9_through 79 = .ok (.invokevirtual 207, 3) := by decide +kernel
theorem dX9_through_82 : decode cX9_through 82 = .ok (.aload_n 0, 1) := by decide +kernel
theorem dX9_through_83 : decode cX9_through 83 = .ok (.getfield 55, 3) := by decide +kernel
theorem dX9_through_86 : decode cX9_through 86 = .ok (.aload_n 0, 1) := by decide +kernel
theorem dX9_through_87 : decode cX9_through 87 = .ok (.getfield 19, 3) := by decide +kernel
theorem dX9_through_90 : decode cX9_through 90 = .ok (.iload 4, 2) := by decide +kernel
theorem dX9_through_92 : decode cX9_through 92 = .ok (.invokevirtual 207, 3) := by decide +kernel
theorem dX9_through_95 : decode cX9_through 95 = .ok (.aload_n 0, 1) := by decide +kernel
theorem dX9_through_96 : decode cX9_through 96 = .ok (.getfield 81, 3) := by decide +kernel
theorem dX9_through_99 : decode cX9_through 99 = .ok (.iload_n 2, 1) := by decide +kernel
theorem dX9_through_100 : decode cX9_through 100 = .ok (.aload_n 0, 1) := by decide +kernel
theorem dX9_through_101 : decode cX9_through 101 = .ok (.getfield 51, 3) := by decide +kernel
theorem dX9_through_104 : decode cX9_through 104 = .ok (.aload_n 0, 1) := by decide +kernel
theorem dX9_through_105 : decode cX9_through 105 = .ok (.getfield 58, 3) := by decide +kernel
theorem dX9_through_108 : decode cX9_through 108 = .ok (.invokevirtual 257, 3) := by decide +kernel
theorem dX9_through_111 : decode cX9_through 111 = .ok (.aload_n 0, 1) := by decide +kernel
theorem dX9_through_112 : decode cX9_through 112 = .ok (.getfield 85, 3) := by decide +kernel
theorem dX9_through_115 : decode cX9_through 115 = .ok (.aload_n 0, 1) := by decide +kernel
theorem dX9_through_116 : decode cX9_through 116 = .ok (.getfield 81, 3) := by decide +kernel
theorem dX9_through_119 : decode cX9_through 119 = .ok (.aload_n 0, 1) := by decide +kernel
theorem dX9_through_120 : decode cX9_through 120 = .ok (.getfield 58, 3) := by decide +kernel
theorem dX9_through_123 : decode cX9_through 123 = .ok (.aload_n 0, 1) := by decide +kernel
theorem dX9_through_124 : decode cX9_through 124 = .ok (.getfield 55, 3) := by decide +kernel
theorem dX9_through_127 : decode cX9_through 127 = .ok (.invokevirtual 262, 3) := by decide +kernel
theorem dX9_through_130 : decode cX9_through 130 = .ok (.aload_n 0, 1) := by decide +kernel
theorem dX9_through_131 : decode cX9_through 131 = .ok (.getfield 85, 3) := by decide +kernel
theorem dX9_through_134 : decode cX9_through 134 = .ok (.iload 5, 2) := by decide +kernel
theorem dX9_through_136 : decode cX9_through 136 = .ok (.invokevirtual 261, 3) := by decide +kernel
theorem dX9_through_139 : decode cX9_through 139 = .ok (.ireturn, 1) := by decide +kernel
theorem dX9_shift_0 : decode cX9_shift 0 = .ok (.aload_n 0, 1) := by decide +kernel
theorem dX9_shift_1 : decode cX9_shift 1 = .ok (.getfield 19, 3) := by decide +kernel
theorem dX9_shift_4 : decode cX9_shift 4 = .ok (.iload_n 1, 1) := by decide +kernel
theorem dX9_shift_5 : decode cX9_shift 5 = .ok (.invokevirtual 138, 3) := by decide +kernel
theorem dX9_shift_8 : decode cX9_shift 8 = .ok (.ifCond .eq 19, 3) := by decide +kernel
theorem dX9_shift_11 : decode cX9_shift 11 = .ok (.aload_n 0, 1) := by decide +kernel
theorem dX9_shift_12 : decode cX9_shift 12 = .ok (.getfield 19, 3) := by decide +kernel
theorem dX9_shift_15 : decode cX9_shift 15 = .ok (.iload_n 2, 1) := by decide +kernel
theorem dX9_shift_16 : decode cX9_shift 16 = .ok (.invokevirtual 138, 3) := by decide +kernel
theorem dX9_shift_19 : decode cX9_shift 19 = .ok (.ifCond .eq 8, 3) := by decide +kernel
theorem dX9_shift_22 : decode cX9_shift 22 = .ok (.iload_n 3, 1) := by decide +kernel
theorem dX9_shift_23 : decode cX9_shift 23 = .ok (.iconst (-1), 1) := by decide +kernel
theorem dX9_shift_24 : decode cX9_shift 24 = .ok (.if_icmp .ge 6, 3) := by decide +kernel
theorem dX9_shift_27 : decode cX9_shift 27 = .ok (.ldc 88, 2) := by decide +kernel
theorem dX9_shift_29 : decode cX9_shift 29 = .ok (.ireturn, 1) := by decide +kernel
theorem dX9_shift_30 : decode cX9_shift 30 = .ok (.iload 4, 2) := by decide +kernel
theorem dX9_shift_32 : decode cX9_shift 32 = .ok (.ifCond .lt 19, 3) := by decide +kernel
theorem dX9_shift_35 : decode cX9_shift 35 = .ok (.iload 4, 2) := by decide +kernel
theorem dX9_shift_37 : decode cX9_shift 37 = .ok (.iconst 2, 1) := by decide +kernel
theorem dX9_shift_38 : decode cX9_shift 38 = .ok (.if_icmp .gt 13, 3) := by decide +kernel
theorem dX9_shift_41 : decode cX9_shift 41 = .ok (.iload_n 3, 1) := by decide +kernel
theorem dX9_shift_42 : decode cX9_shift 42 = .ok (.iconst (-1), 1) := by decide +kernel
theorem dX9_shift_43 : decode cX9_shift 43 = .ok (.if_icmp .ne 11, 3) := by decide +kernel
theorem dX9_shift_46 : decode cX9_shift 46 = .ok (.iload 4, 2) := by decide +kernel
theorem dX9_shift_48 : decode cX9_shift 48 = .ok (.ifCond .eq 6, 3) := by decide +kernel
theorem dX9_shift_51 : decode cX9_shift 51 = .ok (.ldc 88, 2) := by decide +kernel
theorem dX9_shift_53 : decode cX9_shift 53 = .ok (.ireturn, 1) := by decide +kernel
theorem dX9_shift_54 : decode cX9_shift 54 = .ok (.aload_n 0, 1) := by decide +kernel
theorem dX9_shift_55 : decode cX9_shift 55 = .ok (.getfield 51, 3) := by decide +kernel
theorem dX9_shift_58 : decode cX9_shift 58 = .ok (.aload_n 0, 1) := by decide +kernel
theorem dX9_shift_59 : decode cX9_shift 59 = .ok (.getfield 19, 3) := by decide +kernel
theorem dX9_shift_62 : decode cX9_shift 62 = .ok (.iload_n 1, 1) := by decide +kernel
theorem dX9_shift_63 : decode cX9_shift 63 = .ok (.invokevirtual 207, 3) := by decide +kernel
theorem dX9_shift_66 : decode cX9_shift 66 = .ok (.aload_n 0, 1) := by decide +kernel
theorem dX9_shift_67 : decode cX9_shift 67 = .ok (.getfield 55, 3) := by decide +kernel
theorem dX9_shift_70 : decode cX9_shift 70 = .ok (.aload_n 0, 1) := by decide +kernel
theorem dX9_shift_71 : decode cX9_shift 71 = .ok (.getfield 19, 3) := by decide +kernel
theorem dX9_shift_74 : decode cX9_shift 74 = .ok (.iload_n 2, 1) := by decide +kernel
theorem dX9_shift_75 : decode cX9_shift 75 = .ok (.invokevirtual 207, 3) := by decide +kernel
theorem dX9_shift_78 : decode cX9_shift 78 = .ok (.aload_n 0, 1) := by decide +kernel
theorem dX9_shift_79 : decode cX9_shift 79 = .ok (.getfield 64, 3) := by decide +kernel
theorem dX9_shift_82 : decode cX9_shift 82 = .ok (.aload_n 0, 1) := by decide +kernel
theorem dX9_shift_83 : decode cX9_shift 83 = .ok (.getfield 51, 3) := by decide +kernel
theorem dX9_shift_86 : decode cX9_shift 86 = .ok (.aload_n 0, 1) := by decide +kernel
theorem dX9_shift_87 : decode cX9_shift 87 = .ok (.getfield 55, 3) := by decide +kernel
theorem dX9_shift_90 : decode cX9_shift 90 = .ok (.invokevirtual 266, 3) := by decide +kernel
theorem dX9_shift_93 : decode cX9_shift 93 = .ok (.aload_n 0, 1) := by decide +kernel
theorem dX9_shift_94 : decode cX9_shift 94 = .ok (.getfield 64, 3) := by decide +kernel
theorem dX9_shift_97 : decode cX9_shift 97 = .ok (.invokevirtual 270, 3) := by decide +kernel
theorem dX9_shift_100 : decode cX9_shift 100 = .ok (.iconst 0, 1) := by decide +kernel
theorem dX9_shift_101 : decode cX9_shift 101 = .ok (.istore 5, 2) := by decide +kernel
theorem dX9_shift_103 : decode cX9_shift 103 = .ok (.iconst 1, 1) := by decide +kernel
theorem dX9_shift_104 : decode cX9_shift 104 = .ok (.istore 6, 2) := by decide +kernel
theorem dX9_shift_106 : decode cX9_shift 106 = .ok (.iload 6, 2) := by decide +kernel
theorem dX9_shift_108 : decode cX9_shift 108 = .ok (.sipush 999, 3) := by decide +kernel
theorem dX9_shift_111 : decode cX9_shift 111 = .ok (.if_icmp .gt 38, 3) := by decide +kernel
theorem dX9_shift_114 : decode cX9_shift 114 = .ok (.aload_n 0, 1) := by decide +kernel
theorem dX9_shift_115 : decode cX9_shift 115 = .ok (.getfield 64, 3) := by decide +kernel
theorem dX9_shift_118 : decode cX9_shift 118 = .ok (.invokevirtual 273, 3) := by decide +kernel
theorem dX9_shift_121 : decode cX9_shift 121 = .ok (.ifCond .eq 28, 3) := by decide +kernel
theorem dX9_shift_124 : decode cX9_shift 124 = .ok (.iload 5, 2) := by decide +kernel
theorem dX9_shift_126 : decode cX9_shift 126 = .ok (.iload_n 3, 1) := by decide +kernel
theorem dX9_shift_127 : decode cX9_shift 127 = .ok (.if_icmp .ne 13, 3) := by decide +kernel
theorem dX9_shift_130 : decode cX9_shift 130 = .ok (.aload_n 0, 1) := by decide +kernel
theorem dX9_shift_131 : decode cX9_shift 131 = .ok (.getfield 64, 3) := by decide +kernel
theorem dX9_shift_134 : decode cX9_shift 134 = .ok (.iload 4, 2) := by decide +kernel
theorem dX9_shift_136 : decode cX9_shift 136 = .ok (.invokevirtual 276, 3) := by decide +kernel
theorem dX9_shift_139 : decode cX9_shift 139 = .ok (.ireturn, 1) := by decide +kernel
theorem dX9_shift_140 : decode cX9_shift 140 = .ok (.iinc 5 1, 3) := by decide +kernel
theorem dX9_shift_143 : decode cX9_shift 143 = .ok (.iinc 6 1, 3) := by decide +kernel
theorem dX9_shift_146 : decode cX9_shift 146 = .ok (.goto (-40), 3) := by decide +kernel
theorem dX9_shift_149 : decode cX9_shift 149 = .ok (.iload_n 3, 1) := by decide +kernel
theorem dX9_shift_150 : decode cX9_shift 150 = .ok (.iconst (-1), 1) := by decide +kernel
theorem dX9_shift_151 : decode cX9_shift 151 = .ok (.if_icmp .ne 8, 3) := by decide +kernel
theorem dX9_shift_154 : decode cX9_shift 154 = .ok (.iload 5, 2) := by decide +kernel
theorem dX9_shift_156 : decode cX9_shift 156 = .ok (.goto 5, 3) := by decide +kernel
theorem dX9_shift_159 : decode cX9_shift 159 = .ok (.ldc 206, 2) := by decide +kernel
theorem dX9_shift_161 : decode cX9_shift 161 = .ok (.ireturn, 1) := by decide +kernel
theorem dX9_table_0 : decode cX9_table 0 = .ok (.aload_n 0, 1) := by decide +kernel
theorem dX9_table_1 : decode cX9_table 1 = .ok (.getfield 19, 3) := by decide +kernel
theorem dX9_table_4 : decode cX9_table 4 = .ok (.iload_n 1, 1) := by decide +kernel
theorem dX9_table_5 : decode cX9_table 5 = .ok (.invokevirtual 138, 3) := by decide +kernel
theorem dX9_table_8 : decode cX9_table 8 = .ok (.ifCond .eq 23, 3) := by decide +kernel
theorem dX9_table_11 : decode cX9_table 11 = .ok (.aload_n 0, 1) := by decide +kernel
theorem dX9_table_12 : decode cX9_table 12 = .ok (.getfield 19, 3) := by decide +kernel
theorem dX9_table_15 : decode cX9_table 15 = .ok (.iload_n 2, 1) := by decide +kernel
theorem dX9_table_16 : decode cX9_table 16 = .ok (.invokevirtual 138, 3) := by decide +kernel
theorem dX9_table_19 : decode cX9_table 19 = .ok (.ifCond .eq 12, 3) := by decide +kernel
theorem dX9_table_22 : decode cX9_table 22 = .ok (.iload_n 3, 1) := by decide +kernel
theorem dX9_table_23 : decode cX9_table 23 = .ok (.ifCond .lt 8, 3) := by decide +kernel
theorem dX9_table_26 : decode cX9_table 26 = .ok (.iload_n 3, 1) := by decide +kernel
theorem dX9_table_27 : decode cX9_table 27 = .ok (.iconst 3, 1) := by decide +kernel
theorem dX9_table_28 : decode cX9_table 28 = .ok (.if_icmp .le 6, 3) := by decide +kernel
theorem dX9_table_31 : decode cX9_table 31 = .ok (.ldc 88, 2) := by decide +kernel
theorem dX9_table_33 : decode cX9_table 33 = .ok (.ireturn, 1) := by decide +kernel
theorem dX9_table_34 : decode cX9_table 34 = .ok (.aload_n 0, 1) := by decide +kernel
theorem dX9_table_35 : decode cX9_table 35 = .ok (.getfield 51, 3) := by decide +kernel
theorem dX9_table_38 : decode cX9_table 38 = .ok (.aload_n 0, 1) := by decide +kernel
theorem dX9_table_39 : decode cX9_table 39 = .ok (.getfield 19, 3) := by decide +kernel
theorem dX9_table_42 : decode cX9_table 42 = .ok (.iload_n 1, 1) := by decide +kernel
theorem dX9_table_43 : decode cX9_table 43 = .ok (.invokevirtual 207, 3) := by decide +kernel
theorem dX9_table_46 : decode cX9_table 46 = .ok (.aload_n 0, 1) := by decide +kernel
theorem dX9_table_47 : decode cX9_table 47 = .ok (.getfield 55, 3) := by decide +kernel
theorem dX9_table_50 : decode cX9_table 50 = .ok (.aload_n 0, 1) := by decide +kernel
theorem dX9_table_51 : decode cX9_table 51 = .ok (.getfield 19, 3) := by decide +kernel
theorem dX9_table_54 : decode cX9_table 54 = .ok (.iload_n 2, 1) := by decide +kernel
theorem dX9_table_55 : decode cX9_table 55 = .ok (.invokevirtual 207, 3) := by decide +kernel
theorem dX9_table_58 : decode cX9_table 58 = .ok (.aload_n 0, 1) := by decide +kernel
theorem dX9_table_59 : decode cX9_table 59 = .ok (.getfield 64, 3) := by decide +kernel
theorem dX9_table_62 : decode cX9_table 62 = .ok (.aload_n 0, 1) := by decide +kernel
theorem dX9_table_63 : decode cX9_table 63 = .ok (.getfield 51, 3) := by decide +kernel
theorem dX9_table_66 : decode cX9_table 66 = .ok (.invokevirtual 214, 3) := by decide +kernel
theorem dX9_table_69 : decode cX9_table 69 = .ok (.aload_n 0, 1) := by decide +kernel
theorem dX9_table_70 : decode cX9_table 70 = .ok (.getfield 64, 3) := by decide +kernel
theorem dX9_table_73 : decode cX9_table 73 = .ok (.invokevirtual 279, 3) := by decide +kernel
theorem dX9_table_76 : decode cX9_table 76 = .ok (.istore 4, 2) := by decide +kernel
theorem dX9_table_78 : decode cX9_table 78 = .ok (.aload_n 0, 1) := by decide +kernel
theorem dX9_table_79 : decode cX9_table 79 = .ok (.getfield 64, 3) := by decide +kernel
theorem dX9_table_82 : decode cX9_table 82 = .ok (.aload_n 0, 1) := by decide +kernel
theorem dX9_table_83 : decode cX9_table 83 = .ok (.getfield 51, 3) := by decide +kernel
theorem dX9_table_86 : decode cX9_table 86 = .ok (.aload_n 0, 1) := by decide +kernel
theorem dX9_table_87 : decode cX9_table 87 = .ok (.getfield 55, 3) := by decide +kernel
theorem dX9_table_90 : decode cX9_table 90 = .ok (.invokevirtual 266, 3) := by decide +kernel
theorem dX9_table_93 : decode cX9_table 93 = .ok (.iload_n 3, 1) := by decide +kernel
theorem dX9_table_94 : decode cX9_table 94 = .ok (.ifCond .ne 14, 3) := by decide +kernel
theorem dX9_table_97 : decode cX9_table 97 = .ok (.iload 4, 2) := by decide +kernel
theorem dX9_table_99 : decode cX9_table 99 = .ok (.aload_n 0, 1) := by decide +kernel
theorem dX9_table_100 : decode cX9_table 100 = .ok (.getfield 64, 3) := by decide +kernel
theorem dX9_table_103 : decode cX9_table 103 = .ok (.invokevirtual 279, 3) := by decide +kernel
theorem dX9_table_106 : decode cX9_table 106 = .ok (.isub, 1) := by decide +kernel
theorem dX9_table_107 : decode cX9_table 107 = .ok (.ireturn, 1) := by decide +kernel
theorem dX9_table_108 : decode cX9_table 108 = .ok (.iload_n 3, 1) := by decide +kernel
theorem dX9_table_109 : decode cX9_table 109 = .ok (.iconst 3, 1) := by decide +kernel
theorem dX9_table_110 : decode cX9_table 110 = .ok (.if_icmp .ge 12, 3) := by decide +kernel
theorem dX9_table_113 : decode cX9_table 113 = .ok (.aload_n 0, 1) := by decide +kernel
theorem dX9_table_114 : decode cX9_table 114 = .ok (.getfield 64, 3) := by decide +kernel
theorem dX9_table_117 : decode cX9_table 117 = .ok (.iload_n 3, 1) := by decide +kernel
theorem dX9_table_118 : decode cX9_table 118 = .ok (.invokevirtual 282, 3) := by decide +kernel
theorem dX9_table_121 : decode cX9_table 121 = .ok (.ireturn, 1) := by decide +kernel
theorem dX9_table_122 : decode cX9_table 122 = .ok (.aload_n 0, 1) := by decide +kernel
theorem dX9_table_123 : decode cX9_table 123 = .ok (.getfield 68, 3) := by decide +kernel
theorem dX9_table_126 : decode cX9_table 126 = .ok (.aload_n 0, 1) := by decide +kernel
theorem dX9_table_127 : decode cX9_table 127 = .ok (.getfield 55, 3) := by decide +kernel
theorem dX9_table_130 : decode cX9_table 130 = .ok (.aload_n 0, 1) := by decide +kernel
theorem dX9_table_131 : decode cX9_table 131 = .ok (.getfield 51, 3) := by decide +kernel
theorem dX9_table_134 : decode cX9_table 134 = .ok (.invokevirtual 266, 3) := by decide +kernel
theorem dX9_table_137 : decode cX9_table 137 = .ok (.aload_n 0, 1) := by decide +kernel
theorem dX9_table_138 : decode cX9_table 138 = .ok (.getfield 64, 3) := by decide +kernel
theorem dX9_table_141 : decode cX9_table 141 = .ok (.aload_n 0, 1) := by decide +kernel
theorem dX9_table_142 : decode cX9_table 142 = .ok (.getfield 51, 3) := by decide +kernel
theorem dX9_table_145 : decode cX9_table 145 = .ok (.aload_n 0, 1) := by decide +kernel
theorem dX9_table_146 : decode cX9_table 146 = .ok (.getfield 55, 3) := by decide +kernel
theorem dX9_table_149 : decode cX9_table 149 = .ok (.aload_n 0, 1) := by decide +kernel
theorem dX9_table_150 : decode cX9_table 150 = .ok (.getfield 68, 3) := by decide +kernel
theorem dX9_table_153 : decode cX9_table 153 = .ok (.invokevirtual 285, 3) := by decide +kernel
theorem dX9_table_156 : decode cX9_table 156 = .ok (.aload_n 0, 1) := by decide +kernel
theorem dX9_table_157 : decode cX9_table 157 = .ok (.getfield 64, 3) := by decide +kernel
theorem dX9_table_160 : decode cX9_table 160 = .ok (.iconst 1, 1) := by decide +kernel
theorem dX9_table_161 : decode cX9_table 161 = .ok (.invokevirtual 282, 3) := by decide +kernel
theorem dX9_table_164 : decode cX9_table 164 = .ok (.ireturn, 1) := by decide +kernel
theorem dX9_citation_0 : decode cX9_citation 0 = .ok (.aload_n 0, 1) := by decide +kernel
theorem dX9_citation_1 : decode cX9_citation 1 = .ok (.getfield 19, 3) := by decide +kernel
theorem dX9_citation_4 : decode cX9_citation 4 = .ok (.iload_n 1, 1) := by decide +kernel
theorem dX9_citation_5 : decode cX9_citation 5 = .ok (.invokevirtual 182, 3) := by decide +kernel
theorem dX9_citation_8 : decode cX9_citation 8 = .ok (.ifCond .eq 13, 3) := by decide +kernel
theorem dX9_citation_11 : decode cX9_citation 11 = .ok (.iload_n 2, 1) := by decide +kernel
theorem dX9_citation_12 : decode cX9_citation 12 = .ok (.ifCond .lt 9, 3) := by decide +kernel
theorem dX9_citation_15 : decode cX9_citation 15 = .ok (.iload_n 2, 1) := by decide +kernel
theorem dX9_citation_16 : decode cX9_citation 16 = .ok (.bipush 7, 2) := by decide +kernel
theorem dX9_citation_18 : decode cX9_citation 18 = .ok (.if_icmp .le 6, 3) := by decide +kernel
theorem dX9_citation_21 : decode cX9_citation 21 = .ok (.ldc 88, 2) := by decide +kernel
theorem dX9_citation_23 : decode cX9_citation 23 = .ok (.ireturn, 1) := by decide +kernel
theorem dX9_citation_24 : decode cX9_citation 24 = .ok (.iload_n 2, 1) := by decide +kernel
theorem dX9_citation_25 : decode cX9_citation 25 = .ok (.iconst 4, 1) := by decide +kernel
theorem dX9_citation_26 : decode cX9_citation 26 = .ok (.if_icmp .ge 13, 3) := by decide +kernel
theorem dX9_citation_29 : decode cX9_citation 29 = .ok (.aload_n 0, 1) := by decide +kernel
theorem dX9_citation_30 : decode cX9_citation 30 = .ok (.getfield 19, 3) := by decide +kernel
theorem dX9_citation_33 : decode cX9_citation 33 = .ok (.iload_n 1, 1) := by decide +kernel
theorem dX9_citation_34 : decode cX9_citation 34 = .ok (.iload_n 2, 1) := by decide +kernel
theorem dX9_citation_35 : decode cX9_citation 35 = .ok (.invokevirtual 292, 3) := by decide +kernel
theorem dX9_citation_38 : decode cX9_citation 38 = .ok (.ireturn, 1) := by decide +kernel
theorem dX9_citation_39 : decode cX9_citation 39 = .ok (.aload_n 0, 1) := by decide +kernel
theorem dX9_citation_40 : decode cX9_citation 40 = .ok (.iload_n 1, 1) := by decide +kernel
theorem dX9_citation_41 : decode cX9_citation 41 = .ok (.invokevirtual 178, 3) := by decide +kernel
theorem dX9_citation_44 : decode cX9_citation 44 = .ok (.iload_n 2, 1) := by decide +kernel
theorem dX9_citation_45 : decode cX9_citation 45 = .ok (.bipush 7, 2) := by decide +kernel
theorem dX9_citation_47 : decode cX9_citation 47 = .ok (.if_icmp .ne 19, 3) := by decide +kernel
theorem dX9_citation_50 : decode cX9_citation 50 = .ok (.aload_n 0, 1) := by decide +kernel
theorem dX9_citation_51 : decode cX9_citation 51 = .ok (.getfield 74, 3) := by decide +kernel
theorem dX9_citation_54 : decode cX9_citation 54 = .ok (.invokevirtual 295, 3) := by decide +kernel
theorem dX9_citation_57 : decode cX9_citation 57 = .ok (.ifCond .eq 7, 3) := by decide +kernel
theorem dX9_citation_60 : decode cX9_citation 60 = .ok (.iconst 1, 1) := by decide +kernel
theorem dX9_citation_61 : decode cX9_citation 61 = .ok (.goto 4, 3) := by decide +kernel
theorem dX9_citation_64 : decode cX9_citation 64 = .ok (.iconst 0, 1) := by decide +kernel
theorem dX9_citation_65 : decode cX9_citation 65 = .ok (.ireturn, 1) := by decide +kernel
theorem dX9_citation_66 : decode cX9_citation 66 = .ok (.aload_n 0, 1) := by decide +kernel
theorem dX9_citation_67 : decode cX9_citation 67 = .ok (.getfield 74, 3) := by decide +kernel
theorem dX9_citation_70 : decode cX9_citation 70 = .ok (.iload_n 2, 1) := by decide +kernel
theorem dX9_citation_71 : decode cX9_citation 71 = .ok (.iconst 4, 1) := by decide +kernel
theorem dX9_citation_72 : decode cX9_citation 72 = .ok (.isub, 1) := by decide +kernel
theorem dX9_citation_73 : decode cX9_citation 73 = .ok (.invokevirtual 228, 3) := by decide +kernel
theorem dX9_citation_76 : decode cX9_citation 76 = .ok (.ireturn, 1) := by decide +kernel
theorem dX9_turned_0 : decode cX9_turned 0 = .ok (.aload_n 0, 1) := by decide +kernel
theorem dX9_turned_1 : decode cX9_turned 1 = .ok (.getfield 19, 3) := by decide +kernel
theorem dX9_turned_4 : decode cX9_turned 4 = .ok (.iload_n 1, 1) := by decide +kernel
theorem dX9_turned_5 : decode cX9_turned 5 = .ok (.invokevirtual 182, 3) := by decide +kernel
theorem dX9_turned_8 : decode cX9_turned 8 = .ok (.ifCond .eq 14, 3) := by decide +kernel
theorem dX9_turned_11 : decode cX9_turned 11 = .ok (.aload_n 0, 1) := by decide +kernel
theorem dX9_turned_12 : decode cX9_turned 12 = .ok (.getfield 19, 3) := by decide +kernel
theorem dX9_turned_15 : decode cX9_turned 15 = .ok (.iload_n 2, 1) := by decide +kernel
theorem dX9_turned_16 : decode cX9_turned 16 = .ok (.invokevirtual 138, 3) := by decide +kernel
theorem dX9_turned_19 : decode cX9_turned 19 = .ok (.ifCond .ne 6, 3) := by decide +kernel
theorem dX9_turned_22 : decode cX9_turned 22 = .ok (.ldc 88, 2) := by decide +kernel
theorem dX9_turned_24 : decode cX9_turned 24 = .ok (.ireturn, 1) := by decide +kernel
theorem dX9_turned_25 : decode cX9_turned 25 = .ok (.iload_n 3, 1) := by decide +kernel
theorem dX9_turned_26 : decode cX9_turned 26 = .ok (.ifCond .lt 8, 3) := by decide +kernel
theorem dX9_turned_29 : decode cX9_turned 29 = .ok (.iload_n 3, 1) := by decide +kernel
theorem dX9_turned_30 : decode cX9_turned 30 = .ok (.iconst 2, 1) := by decide +kernel
theorem dX9_turned_31 : decode cX9_turned 31 = .ok (.if_icmp .le 6, 3) := by decide +kernel
theorem dX9_turned_34 : decode cX9_turned 34 = .ok (.ldc 88, 2) := by decide +kernel
theorem dX9_turned_36 : decode cX9_turned 36 = .ok (.ireturn, 1) := by decide +kernel
theorem dX9_turned_37 : decode cX9_turned 37 = .ok (.aload_n 0, 1) := by decide +kernel
theorem dX9_turned_38 : decode cX9_turned 38 = .ok (.aload_n 0, 1) := by decide +kernel
theorem dX9_turned_39 : decode cX9_turned 39 = .ok (.getfield 51, 3) := by decide +kernel
theorem dX9_turned_42 : decode cX9_turned 42 = .ok (.iload_n 1, 1) := by decide +kernel
theorem dX9_turned_43 : decode cX9_turned 43 = .ok (.invokevirtual 298, 3) := by decide +kernel
theorem dX9_turned_46 : decode cX9_turned 46 = .ok (.aload_n 0, 1) := by decide +kernel
theorem dX9_turned_47 : decode cX9_turned 47 = .ok (.getfield 55, 3) := by decide +kernel
theorem dX9_turned_50 : decode cX9_turned 50 = .ok (.aload_n 0, 1) := by decide +kernel
theorem dX9_turned_51 : decode cX9_turned 51 = .ok (.getfield 19, 3) := by decide +kernel
theorem dX9_turned_54 : decode cX9_turned 54 = .ok (.iload_n 2, 1) := by decide +kernel
theorem dX9_turned_55 : decode cX9_turned 55 = .ok (.invokevirtual 207, 3) := by decide +kernel
theorem dX9_turned_58 : decode cX9_turned 58 = .ok (.aload_n 0, 1) := by decide +kernel
theorem dX9_turned_59 : decode cX9_turned 59 = .ok (.getfield 19, 3) := by decide +kernel
theorem dX9_turned_62 : decode cX9_turned 62 = .ok (.iload_n 1, 1) := by decide +kernel
theorem dX9_turned_63 : decode cX9_turned 63 = .ok (.iconst 2, 1) := by decide +kernel
theorem dX9_turned_64 : decode cX9_turned 64 = .ok (.invokevirtual 292, 3) := by decide +kernel
theorem dX9_turned_67 : decode cX9_turned 67 = .ok (.istore 4, 2) := by decide +kernel
theorem dX9_turned_69 : decode cX9_turned 69 = .ok (.aload_n 0, 1) := by decide +kernel
theorem dX9_turned_70 : decode cX9_turned 70 = .ok (.getfield 19, 3) := by decide +kernel
theorem dX9_turned_73 : decode cX9_turned 73 = .ok (.iload_n 1, 1) := by decide +kernel
theorem dX9_turned_74 : decode cX9_turned 74 = .ok (.iconst 3, 1) := by decide +kernel
theorem dX9_turned_75 : decode cX9_turned 75 = .ok (.invokevirtual 292, 3) := by decide +kernel
theorem dX9_turned_78 : decode cX9_turned 78 = .ok (.istore 5, 2) := by decide +kernel
theorem dX9_turned_80 : decode cX9_turned 80 = .ok (.aload_n 0, 1) := by decide +kernel
theorem dX9_turned_81 : decode cX9_turned 81 = .ok (.getfield 74, 3) := by decide +kernel
theorem dX9_turned_84 : decode cX9_turned 84 = .ok (.invokevirtual 302, 3) := by decide +kernel
theorem dX9_turned_87 : decode cX9_turned 87 = .ok (.iconst 0, 1) := by decide +kernel
theorem dX9_turned_88 : decode cX9_turned 88 = .ok (.istore 6, 2) := by decide +kernel
theorem dX9_turned_90 : decode cX9_turned 90 = .ok (.iload 6, 2) := by decide +kernel
theorem dX9_turned_92 : decode cX9_turned 92 = .ok (.aload_n 0, 1) := by decide +kernel
theorem dX9_turned_93 : decode cX9_turned 93 = .ok (.getfield 19, 3) := by decide +kernel
theorem dX9_turned_96 : decode cX9_turned 96 = .ok (.invokevirtual 248, 3) := by decide +kernel
theorem dX9_turned_99 : decode cX9_turned 99 = .ok (.if_icmp .ge 72, 3) := by decide +kernel
theorem dX9_turned_102 : decode cX9_turned 102 = .ok (.aload_n 0, 1) := by decide +kernel
theorem dX9_turned_103 : decode cX9_turned 103 = .ok (.getfield 51, 3) := by decide +kernel
theorem dX9_turned_106 : decode cX9_turned 106 = .ok (.iload 6, 2) := by decide +kernel
theorem dX9_turned_108 : decode cX9_turned 108 = .ok (.iload 4, 2) := by decide +kernel
theorem dX9_turned_110 : decode cX9_turned 110 = .ok (.iload 5, 2) := by decide +kernel
theorem dX9_turned_112 : decode cX9_turned 112 = .ok (.invokevirtual 305, 3) := by decide +kernel
theorem dX9_turned_115 : decode cX9_turned 115 = .ok (.ifCond .eq 50, 3) := by decide +kernel
theorem dX9_turned_118 : decode cX9_turned 118 = .ok (.aload_n 0, 1) := by decide +kernel
theorem dX9_turned_119 : decode cX9_turned 119 = .ok (.getfield 55, 3) := by decide +kernel
theorem dX9_turned_122 : decode cX9_turned 122 = .ok (.iload 6, 2) := by decide +kernel
theorem dX9_turned_124 : decode cX9_turned 124 = .ok (.invokevirtual 231, 3) := by decide +kernel
theorem dX9_turned_127 : decode cX9_turned 127 = .ok (.ifCond .ne 6, 3) := by decide +kernel
theorem dX9_turned_130 : decode cX9_turned 130 = .ok (.goto 35, 3) := by decide +kernel
theorem dX9_turned_133 : decode cX9_turned 133 = .ok (.aload_n 0, 1) := by decide +kernel
theorem dX9_turned_134 : decode cX9_turned 134 = .ok (.getfield 74, 3) := by decide +kernel
theorem dX9_turned_137 : decode cX9_turned 137 = .ok (.aload_n 0, 1) := by decide +kernel
theorem dX9_turned_138 : decode cX9_turned 138 = .ok (.getfield 55, 3) := by decide +kernel
theorem dX9_turned_141 : decode cX9_turned 141 = .ok (.iload 6, 2) := by decide +kernel
theorem dX9_turned_143 : decode cX9_turned 143 = .ok (.invokevirtual 234, 3) := by decide +kernel
theorem dX9_turned_146 : decode cX9_turned 146 = .ok (.invokevirtual 309, 3) := by decide +kernel
theorem dX9_turned_149 : decode cX9_turned 149 = .ok (.aload_n 0, 1) := by decide +kernel
theorem dX9_turned_150 : decode cX9_turned 150 = .ok (.getfield 74, 3) := by decide +kernel
theorem dX9_turned_153 : decode cX9_turned 153 = .ok (.aload_n 0, 1) := by decide +kernel
theorem dX9_turned_154 : decode cX9_turned 154 = .ok (.getfield 55, 3) := by decide +kernel
theorem dX9_turned_157 : decode cX9_turned 157 = .ok (.iload 6, 2) := by decide +kernel
theorem dX9_turned_159 : decode cX9_turned 159 = .ok (.invokevirtual 237, 3) := by decide +kernel
theorem dX9_turned_162 : decode cX9_turned 162 = .ok (.invokevirtual 309, 3) := by decide +kernel
theorem dX9_turned_165 : decode cX9_turned 165 = .ok (.iinc 6 1, 3) := by decide +kernel
theorem dX9_turned_168 : decode cX9_turned 168 = .ok (.goto (-78), 3) := by decide +kernel
theorem dX9_turned_171 : decode cX9_turned 171 = .ok (.iload_n 3, 1) := by decide +kernel
theorem dX9_turned_172 : decode cX9_turned 172 = .ok (.iconst 2, 1) := by decide +kernel
theorem dX9_turned_173 : decode cX9_turned 173 = .ok (.if_icmp .ge 14, 3) := by decide +kernel
theorem dX9_turned_176 : decode cX9_turned 176 = .ok (.aload_n 0, 1) := by decide +kernel
theorem dX9_turned_177 : decode cX9_turned 177 = .ok (.getfield 74, 3) := by decide +kernel
theorem dX9_turned_180 : decode cX9_turned 180 = .ok (.iload_n 3, 1) := by decide +kernel
theorem dX9_turned_181 : decode cX9_turned 181 = .ok (.iconst 1, 1) := by decide +kernel
theorem dX9_turned_182 : decode cX9_turned 182 = .ok (.iadd, 1) := by decide +kernel
theorem dX9_turned_183 : decode cX9_turned 183 = .ok (.invokevirtual 228, 3) := by decide +kernel
theorem dX9_turned_186 : decode cX9_turned 186 = .ok (.ireturn, 1) := by decide +kernel
theorem dX9_turned_187 : decode cX9_turned 187 = .ok (.aload_n 0, 1) := by decide +kernel
theorem dX9_turned_188 : decode cX9_turned 188 = .ok (.getfield 74, 3) := by decide +kernel
theorem dX9_turned_191 : decode cX9_turned 191 = .ok (.invokevirtual 311, 3) := by decide +kernel
theorem dX9_turned_194 : decode cX9_turned 194 = .ok (.ifCond .ne 32, 3) := by decide +kernel
theorem dX9_turned_197 : decode cX9_turned 197 = .ok (.aload_n 0, 1) := by decide +kernel
theorem dX9_turned_198 : decode cX9_turned 198 = .ok (.iload 4, 2) := by decide +kernel
theorem dX9_turned_200 : decode cX9_turned 200 = .ok (.iload 5, 2) := by decide +kernel
theorem dX9_turned_202 : decode cX9_turned 202 = .ok (.aload_n 0, 1) := by decide +kernel
theorem dX9_turned_203 : decode cX9_turned 203 = .ok (.getfield 74, 3) := by decide +kernel
theorem dX9_turned_206 : decode cX9_turned 206 = .ok (.invokevirtual 314, 3) := by decide +kernel
theorem dX9_turned_209 : decode cX9_turned 209 = .ok (.aload_n 0, 1) := by decide +kernel
theorem dX9_turned_210 : decode cX9_turned 210 = .ok (.getfield 74, 3) := by decide +kernel
theorem dX9_turned_213 : decode cX9_turned 213 = .ok (.invokevirtual 317, 3) := by decide +kernel
theorem dX9_turned_216 : decode cX9_turned 216 = .ok (.invokevirtual 320, 3) := by decide +kernel
theorem dX9_turned_219 : decode cX9_turned 219 = .ok (.ifCond .eq 7, 3) := by decide +kernel
theorem dX9_turned_222 : decode cX9_turned 222 = .ok (.iconst 1, 1) := by decide +kernel
theorem dX9_turned_223 : decode cX9_turned 223 = .ok (.goto 4, 3) := by decide +kernel
theorem dX9_turned_226 : decode cX9_turned 226 = .ok (.iconst 0, 1) := by decide +kernel
theorem dX9_turned_227 : decode cX9_turned 227 = .ok (.ireturn, 1) := by decide +kernel
theorem dX9_meet_0 : decode cX9_meet 0 = .ok (.aload_n 0, 1) := by decide +kernel
theorem dX9_meet_1 : decode cX9_meet 1 = .ok (.getfield 19, 3) := by decide +kernel
theorem dX9_meet_4 : decode cX9_meet 4 = .ok (.iload_n 1, 1) := by decide +kernel
theorem dX9_meet_5 : decode cX9_meet 5 = .ok (.invokevirtual 182, 3) := by decide +kernel
theorem dX9_meet_8 : decode cX9_meet 8 = .ok (.ifCond .eq 23, 3) := by decide +kernel
theorem dX9_meet_11 : decode cX9_meet 11 = .ok (.aload_n 0, 1) := by decide +kernel
theorem dX9_meet_12 : decode cX9_meet 12 = .ok (.getfield 19, 3) := by decide +kernel
theorem dX9_meet_15 : decode cX9_meet 15 = .ok (.iload_n 2, 1) := by decide +kernel
theorem dX9_meet_16 : decode cX9_meet 16 = .ok (.invokevirtual 182, 3) := by decide +kernel
theorem dX9_meet_19 : decode cX9_meet 19 = .ok (.ifCond .eq 12, 3) := by decide +kernel
theorem dX9_meet_22 : decode cX9_meet 22 = .ok (.iload_n 3, 1) := by decide +kernel
theorem dX9_meet_23 : decode cX9_meet 23 = .ok (.ifCond .lt 8, 3) := by decide +kernel
theorem dX9_meet_26 : decode cX9_meet 26 = .ok (.iload_n 3, 1) := by decide +kernel
theorem dX9_meet_27 : decode cX9_meet 27 = .ok (.iconst 2, 1) := by decide +kernel
theorem dX9_meet_28 : decode cX9_meet 28 = .ok (.if_icmp .le 6, 3) := by decide +kernel
theorem dX9_meet_31 : decode cX9_meet 31 = .ok (.ldc 88, 2) := by decide +kernel
theorem dX9_meet_33 : decode cX9_meet 33 = .ok (.ireturn, 1) := by decide +kernel
theorem dX9_meet_34 : decode cX9_meet 34 = .ok (.aload_n 0, 1) := by decide +kernel
theorem dX9_meet_35 : decode cX9_meet 35 = .ok (.aload_n 0, 1) := by decide +kernel
theorem dX9_meet_36 : decode cX9_meet 36 = .ok (.getfield 51, 3) := by decide +kernel
theorem dX9_meet_39 : decode cX9_meet 39 = .ok (.iload_n 1, 1) := by decide +kernel
theorem dX9_meet_40 : decode cX9_meet 40 = .ok (.invokevirtual 298, 3) := by decide +kernel
theorem dX9_meet_43 : decode cX9_meet 43 = .ok (.aload_n 0, 1) := by decide +kernel
theorem dX9_meet_44 : decode cX9_meet 44 = .ok (.aload_n 0, 1) := by decide +kernel
theorem dX9_meet_45 : decode cX9_meet 45 = .ok (.getfield 55, 3) := by decide +kernel
theorem dX9_meet_48 : decode cX9_meet 48 = .ok (.iload_n 2, 1) := by decide +kernel
theorem dX9_meet_49 : decode cX9_meet 49 = .ok (.invokevirtual 298, 3) := by decide +kernel
theorem dX9_meet_52 : decode cX9_meet 52 = .ok (.iconst 0, 1) := by decide +kernel
theorem dX9_meet_53 : decode cX9_meet 53 = .ok (.istore 4, 2) := by decide +kernel
theorem dX9_meet_55 : decode cX9_meet 55 = .ok (.iconst 0, 1) := by decide +kernel
theorem dX9_meet_56 : decode cX9_meet 56 = .ok (.istore 5, 2) := by decide +kernel
theorem dX9_meet_58 : decode cX9_meet 58 = .ok (.iload 5, 2) := by decide +kernel
theorem dX9_meet_60 : decode cX9_meet 60 = .ok (.aload_n 0, 1) := by decide +kernel
theorem dX9_meet_61 : decode cX9_meet 61 = .ok (.getfield 19, 3) := by decide +kernel
theorem dX9_meet_64 : decode cX9_meet 64 = .ok (.invokevirtual 248, 3) := by decide +kernel
theorem dX9_meet_67 : decode cX9_meet 67 = .ok (.if_icmp .ge 74, 3) := by decide +kernel
theorem dX9_meet_70 : decode cX9_meet 70 = .ok (.aload_n 0, 1) := by decide +kernel
theorem dX9_meet_71 : decode cX9_meet 71 = .ok (.aload_n 0, 1) := by decide +kernel
theorem dX9_meet_72 : decode cX9_meet 72 = .ok (.getfield 51, 3) := by decide +kernel
theorem dX9_meet_75 : decode cX9_meet 75 = .ok (.iload 5, 2) := by decide +kernel
theorem dX9_meet_77 : decode cX9_meet 77 = .ok (.iload_n 1, 1) := by decide +kernel
theorem dX9_meet_78 : decode cX9_meet 78 = .ok (.invokevirtual 324, 3) := by decide +kernel
theorem dX9_meet_81 : decode cX9_meet 81 = .ok (.istore 6, 2) := by decide +kernel
theorem dX9_meet_83 : decode cX9_meet 83 = .ok (.aload_n 0, 1) := by decide +kernel
theorem dX9_meet_84 : decode cX9_meet 84 = .ok (.aload_n 0, 1) := by decide +kernel
theorem dX9_meet_85 : decode cX9_meet 85 = .ok (.getfield 55, 3) := by decide +kernel
theorem dX9_meet_88 : decode cX9_meet 88 = .ok (.iload 5, 2) := by decide +kernel
theorem dX9_meet_90 : decode cX9_meet 90 = .ok (.iload_n 2, 1) := by decide +kernel
theorem dX9_meet_91 : decode cX9_meet 91 = .ok (.invokevirtual 324, 3) := by decide +kernel
theorem dX9_meet_94 : decode cX9_meet 94 = .ok (.istore 7, 2) := by decide +kernel
theorem dX9_meet_96 : decode cX9_meet 96 = .ok (.iload_n 3, 1) := by decide +kernel
theorem dX9_meet_97 : decode cX9_meet 97 = .ok (.iconst 2, 1) := by decide +kernel
theorem dX9_meet_98 : decode cX9_meet 98 = .ok (.if_icmp .ne 11, 3) := by decide +kernel
theorem dX9_meet_101 : decode cX9_meet 101 = .ok (.iload 6, 2) := by decide +kernel
theorem dX9_meet_103 : decode cX9_meet 103 = .ok (.ifCond .ne 32, 3) := by decide +kernel
theorem dX9_meet_106 : decode cX9_meet 106 = .ok (.goto 8, 3) := by decide +kernel
theorem dX9_meet_109 : decode cX9_meet 109 = .ok (.iload 6, 2) := by decide +kernel
theorem dX9_meet_111 : decode cX9_meet 111 = .ok (.ifCond .eq 24, 3) := by decide +kernel
theorem dX9_meet_114 : decode cX9_meet 114 = .ok (.iload_n 3, 1) := by decide +kernel
theorem dX9_meet_115 : decode cX9_meet 115 = .ok (.iconst 1, 1) := by decide +kernel
theorem dX9_meet_116 : decode cX9_meet 116 = .ok (.if_icmp .ne 11, 3) := by decide +kernel
theorem dX9_meet_119 : decode cX9_meet 119 = .ok (.iload 7, 2) := by decide +kernel
theorem dX9_meet_121 : decode cX9_meet 121 = .ok (.ifCond .ne 14, 3) := by decide +kernel
theorem dX9_meet_124 : decode cX9_meet 124 = .ok (.goto 8, 3) := by decide +kernel
theorem dX9_meet_127 : decode cX9_meet 127 = .ok (.iload 7, 2) := by decide +kernel
theorem dX9_meet_129 : decode cX9_meet 129 = .ok (.ifCond .eq 6, 3) := by decide +kernel
theorem dX9_meet_132 : decode cX9_meet 132 = .ok (.iinc 4 1, 3) := by decide +kernel
theorem dX9_meet_135 : decode cX9_meet 135 = .ok (.iinc 5 1, 3) := by decide +kernel
theorem dX9_meet_138 : decode cX9_meet 138 = .ok (.goto (-80), 3) := by decide +kernel
theorem dX9_meet_141 : decode cX9_meet 141 = .ok (.iload 4, 2) := by decide +kernel
theorem dX9_meet_143 : decode cX9_meet 143 = .ok (.ireturn, 1) := by decide +kernel
theorem dX9_could_0 : decode cX9_could 0 = .ok (.aload_n 0, 1) := by decide +kernel
theorem dX9_could_1 : decode cX9_could 1 = .ok (.getfield 19, 3) := by decide +kernel
theorem dX9_could_4 : decode cX9_could 4 = .ok (.iload_n 1, 1) := by decide +kernel
theorem dX9_could_5 : decode cX9_could 5 = .ok (.invokevirtual 182, 3) := by decide +kernel
theorem dX9_could_8 : decode cX9_could 8 = .ok (.ifCond .eq 14, 3) := by decide +kernel
theorem dX9_could_11 : decode cX9_could 11 = .ok (.aload_n 0, 1) := by decide +kernel
theorem dX9_could_12 : decode cX9_could 12 = .ok (.getfield 19, 3) := by decide +kernel
theorem dX9_could_15 : decode cX9_could 15 = .ok (.iload_n 2, 1) := by decide +kernel
theorem dX9_could_16 : decode cX9_could 16 = .ok (.invokevirtual 191, 3) := by decide +kernel
theorem dX9_could_19 : decode cX9_could 19 = .ok (.ifCond .ne 6, 3) := by decide +kernel
theorem dX9_could_22 : decode cX9_could 22 = .ok (.ldc 88, 2) := by decide +kernel
theorem dX9_could_24 : decode cX9_could 24 = .ok (.ireturn, 1) := by decide +kernel
theorem dX9_could_25 : decode cX9_could 25 = .ok (.iconst 0, 1) := by decide +kernel
theorem dX9_could_26 : decode cX9_could 26 = .ok (.istore_n 3, 1) := by decide +kernel
theorem dX9_could_27 : decode cX9_could 27 = .ok (.iconst 0, 1) := by decide +kernel
theorem dX9_could_28 : decode cX9_could 28 = .ok (.istore 4, 2) := by decide +kernel
theorem dX9_could_30 : decode cX9_could 30 = .ok (.iload 4, 2) := by decide +kernel
theorem dX9_could_32 : decode cX9_could 32 = .ok (.aload_n 0, 1) := by decide +kernel
theorem dX9_could_33 : decode cX9_could 33 = .ok (.getfield 19, 3) := by decide +kernel
theorem dX9_could_36 : decode cX9_could 36 = .ok (.invokevirtual 126, 3) := by decide +kernel
theorem dX9_could_39 : decode cX9_could 39 = .ok (.if_icmp .ge 42, 3) := by decide +kernel
theorem dX9_could_42 : decode cX9_could 42 = .ok (.aload_n 0, 1) := by decide +kernel
theorem dX9_could_43 : decode cX9_could 43 = .ok (.getfield 51, 3) := by decide +kernel
theorem dX9_could_46 : decode cX9_could 46 = .ok (.aload_n 0, 1) := by decide +kernel
theorem dX9_could_47 : decode cX9_could 47 = .ok (.getfield 19, 3) := by decide +kernel
theorem dX9_could_50 : decode cX9_could 50 = .ok (.iload 4, 2) := by decide +kernel
theorem dX9_could_52 : decode cX9_could 52 = .ok (.invokevirtual 207, 3) := by decide +kernel
theorem dX9_could_55 : decode cX9_could 55 = .ok (.aload_n 0, 1) := by decide +kernel
theorem dX9_could_56 : decode cX9_could 56 = .ok (.aload_n 0, 1) := by decide +kernel
theorem dX9_could_57 : decode cX9_could 57 = .ok (.getfield 51, 3) := by decide +kernel
theorem dX9_could_60 : decode cX9_could 60 = .ok (.iload_n 2, 1) := by decide +kernel
theorem dX9_could_61 : decode cX9_could 61 = .ok (.iload_n 1, 1) := by decide +kernel
theorem dX9_could_62 : decode cX9_could 62 = .ok (.invokevirtual 324, 3) := by decide +kernel
theorem dX9_could_65 : decode cX9_could 65 = .ok (.ifCond .eq 10, 3) := by decide +kernel
theorem dX9_could_68 : decode cX9_could 68 = .ok (.iload_n 3, 1) := by decide +kernel
theorem dX9_could_69 : decode cX9_could 69 = .ok (.iconst 1, 1) := by decide +kernel
theorem dX9_could_70 : decode cX9_could 70 = .ok (.iload 4, 2) := by decide +kernel
theorem dX9_could_72 : decode cX9_could 72 = .ok (.ishl, 1) := by decide +kernel
theorem dX9_could_73 : decode cX9_could 73 = .ok (.ior, 1) := by decide +kernel
theorem dX9_could_74 : decode cX9_could 74 = .ok (.istore_n 3, 1) := by decide +kernel
theorem dX9_could_75 : decode cX9_could 75 = .ok (.iinc 4 1, 3) := by decide +kernel
theorem dX9_could_78 : decode cX9_could 78 = .ok (.goto (-48), 3) := by decide +kernel
theorem dX9_could_81 : decode cX9_could 81 = .ok (.iload_n 3, 1) := by decide +kernel
theorem dX9_could_82 : decode cX9_could 82 = .ok (.ireturn, 1) := by decide +kernel
theorem dX9_best_0 : decode cX9_best 0 = .ok (.aload_n 0, 1) := by decide +kernel
theorem dX9_best_1 : decode cX9_best 1 = .ok (.getfield 19, 3) := by decide +kernel
theorem dX9_best_4 : decode cX9_best 4 = .ok (.invokevirtual 248, 3) := by decide +kernel
theorem dX9_best_7 : decode cX9_best 7 = .ok (.ifCond .ne 6, 3) := by decide +kernel
theorem dX9_best_10 : decode cX9_best 10 = .ok (.ldc 137, 2) := by decide +kernel
theorem dX9_best_12 : decode cX9_best 12 = .ok (.ireturn, 1) := by decide +kernel
theorem dX9_best_13 : decode cX9_best 13 = .ok (.ldc 206, 2) := by decide +kernel
theorem dX9_best_15 : decode cX9_best 15 = .ok (.istore_n 1, 1) := by decide +kernel
theorem dX9_best_16 : decode cX9_best 16 = .ok (.iconst (-1), 1) := by decide +kernel
theorem dX9_best_17 : decode cX9_best 17 = .ok (.istore_n 2, 1) := by decide +kernel
theorem dX9_best_18 : decode cX9_best 18 = .ok (.iconst 0, 1) := by decide +kernel
theorem dX9_best_19 : decode cX9_best 19 = .ok (.istore_n 3, 1) := by decide +kernel
theorem dX9_best_20 : decode cX9_best 20 = .ok (.iload_n 3, 1) := by decide +kernel
theorem dX9_best_21 : decode cX9_best 21 = .ok (.aload_n 0, 1) := by decide +kernel
theorem dX9_best_22 : decode cX9_best 22 = .ok (.getfield 19, 3) := by decide +kernel
theorem dX9_best_25 : decode cX9_best 25 = .ok (.invokevirtual 126, 3) := by decide +kernel
theorem dX9_best_28 : decode cX9_best 28 = .ok (.if_icmp .ge 27, 3) := by decide +kernel
theorem dX9_best_31 : decode cX9_best 31 = .ok (.aload_n 0, 1) := by decide +kernel
theorem dX9_best_32 : decode cX9_best 32 = .ok (.iload_n 3, 1) := by decide +kernel
theorem dX9_best_33 : decode cX9_best 33 = .ok (.invokevirtual 328, 3) := by decide +kernel
theorem dX9_best_36 : decode cX9_best 36 = .ok (.istore 4, 2) := by decide +kernel
theorem dX9_best_38 : decode cX9_best 38 = .ok (.iload 4, 2) := by decide +kernel
theorem dX9_best_40 : decode cX9_best 40 = .ok (.iload_n 2, 1) := by decide +kernel
theorem dX9_best_41 : decode cX9_best 41 = .ok (.if_icmp .le 8, 3) := by decide +kernel
theorem dX9_best_44 : decode cX9_best 44 = .ok (.iload 4, 2) := by decide +kernel
theorem dX9_best_46 : decode cX9_best 46 = .ok (.istore_n 2, 1) := by decide +kernel
theorem dX9_best_47 : decode cX9_best 47 = .ok (.iload_n 3, 1) := by decide +kernel
theorem dX9_best_48 : decode cX9_best 48 = .ok (.istore_n 1, 1) := by decide +kernel
theorem dX9_best_49 : decode cX9_best 49 = .ok (.iinc 3 1, 3) := by decide +kernel
theorem dX9_best_52 : decode cX9_best 52 = .ok (.goto (-32), 3) := by decide +kernel
theorem dX9_best_55 : decode cX9_best 55 = .ok (.iload_n 1, 1) := by decide +kernel
theorem dX9_best_56 : decode cX9_best 56 = .ok (.ireturn, 1) := by decide +kernel
def w_X9_undo__z : List Cond := .code yX9_undo cX9_undo 1 (some .int) :: ([.fieldLink RX9 38 "LineCites" "acts" "LLineCites$Acts;", .fieldLink RX9 19 "LineCites" "now" "LLineCites$Work;", .methodLink RX9 132 yX0_takeBack, .instanceMethod yX0_takeBack, .selects RX0 yX0_takeBack yX0_takeBack, .initialized RX0, .code yX0_takeBack cX0_takeBack 4 (some .boolean), .fieldLink RX0 21 "LineCites$Acts" "next" "I", .fieldLink RX0 17 "LineCites$Acts" "size" "I", .constant RX9 137 (-1000002)] ++ wsX90 ++ wsX00)
set_option maxRecDepth 20000 in
theorem g_X9_undo__z_X0_takeBack__z : GoodIn w_X9_undo__z (wsV RX9 132 RX0 yX0_takeBack w_X0_takeBack__z) := goodIn_r _ [3, 4, 5, 6, 7, 8, 9, 25, 26, 27] rfl (by decide +kernel)
set_option maxHeartbeats 4000000 in
set_option maxRecDepth 100000 in
theorem c_X9_undo__z (l : Launch) (D : va_G) (h0 : Nat) (a_tape : Nat) (a_now : Nat) (a_draft : Nat) (a_reader : Nat) (a_acts : Nat) (a_images : Nat) (a_one : Nat) (a_other : Nat) (a_third : Nat) (a_spans : Nat) (a_back : Nat) (a_span : Nat) (a_middle : Nat) (a_reached : Nat) (a_ring : Nat) (i_nx : Int32) : Met l yX9_undo w_X9_undo__z ({ frames := 1, cells := 0, slots := 0, locals := 23 }) (va_Pc [.ref h0] (fun U => va_P D vwCl [(h0, .inr (9, [.ref a_tape, .ref a_now, .ref a_draft, .ref a_reader, .ref a_acts, .ref a_images, .ref a_one, .ref a_other, .ref a_third, .ref a_spans, .ref a_back, .ref a_span, .ref a_middle, .ref a_reached])), (a_acts, .inr (0, [.ref a_ring, .int i_nx, .int 0]))] U.heap ∧ va_K D vwCl [] U)) (va_Qi (fun (r : Int32) (_ : Unit) => r = (-1000002)) (fun _ _ => True) (fun _ => False)) 0 0 (fun _ => False) := by
  refine Met.ofW (cc := cX9_undo) (maxL := 1) (ret := (some .int)) (by decide) rfl ?_
  intro p e s m args below meth c s₁ B hml hv
  obtain ⟨rfl, hP, hK⟩ := hv
  have hx := B.exec
  have hb := B.bytes
  have hr := B.returns
  have hts := atoms_spec (ws := w_X9_undo__z) B.pre
  have hown : s.vm.findClass RX9 = some m.cls := findClass_of_methodNamed B.named
  have hlocks := B.notSynchronized
  have hS : va_S (fun _ : Nat => False) s.heap s.heap [] := va_S.rf
  have hP : va_P D vwCl [(h0, .inr (9, [.ref a_tape, .ref a_now, .ref a_draft, .ref a_reader, .ref a_acts, .ref a_images, .ref a_one, .ref a_other, .ref a_third, .ref a_spans, .ref a_back, .ref a_span, .ref a_middle, .ref a_reached])), (a_acts, .inr (0, [.ref a_ring, .int i_nx, .int 0]))] s.heap := hP
  have hl := lv_entry ([.ref h0]) (n := 1) (Nat.le_of_ble_eq_true rfl)
  rw [lg_entry_eq]
  generalize (lg_sl ([.ref h0]) ++ List.replicate (1 - (lg_sl ([.ref h0])).length) Slot.unset).toArray = ls at hl ⊢
  have hl : lv_has ls 1 [(0, .ref h0)] := hl
  obtain ⟨H, hHe⟩ : ∃ H : Heap, H = s.heap := ⟨_, rfl⟩
  rw [← hHe] at hP
  have hS : va_S (fun _ : Nat => False) s.heap H [] := by rw [hHe]; exact hS
  refine pw_heap hHe ?_
  refine lv_aload_n hx hb dX9_undo_0 rfl (lv_at hl 0 rfl) ?_
  refine va_get (D := D) (ci := 9) (v := .ref a_acts) (C := RX9) (T := TX9) (N := 14) hx hb hts (fun _ h => List.mem_cons_of_mem _ (List.mem_append_left _ (List.mem_append_right _ h))) hown hK hP 0 rfl rfl 4 (by decide) (hts (.fieldLink RX9 38 "LineCites" "acts" "LLineCites$Acts;") (List.mem_of_getElem? (i := 1) rfl)) (fun _ h9 => h9) rfl dX9_undo_1 ?_
  refine lv_aload_n hx hb dX9_undo_4 rfl (lv_at hl 0 rfl) ?_
  refine va_get (D := D) (ci := 9) (v := .ref a_now) (C := RX9) (T := TX9) (N := 14) hx hb hts (fun _ h => List.mem_cons_of_mem _ (List.mem_append_left _ (List.mem_append_right _ h))) hown hK hP 0 rfl rfl 1 (by decide) (hts (.fieldLink RX9 19 "LineCites" "now" "LLineCites$Work;") (List.mem_of_getElem? (i := 2) rfl)) (fun _ h9 => h9) rfl dX9_undo_5 ?_
  have hPc := hP.sub (ws' := [(a_acts, .inr (0, [.ref a_ring, .int i_nx, .int 0]))]) [1] rfl
  have hKc := hK.sub (tys' := []) [] rfl
  refine va_calli (va_runV (As := [.ref a_now]) (rest := []) ⟨hx, hb, hml, hown, hts⟩ (c_X0_takeBack__z l D a_acts a_now a_ring i_nx) (cwV 1 hts g_X9_undo__z_X0_takeBack__z rfl rfl rfl (by decide +kernel) ⟨Nat.le_of_ble_eq_true rfl, Nat.le_of_ble_eq_true rfl⟩) ⟨fun a U g mk q => by obtain ⟨q0, qP, qK⟩ := q; exact ⟨q0, qP, va_K.moved (u := U) (U := U.calling g mk a) (Vm.Alike.refl U.vm) qK⟩, va_recv hKc hPc (ci := 0) (q0 := 0) rfl rfl, fun U hU hW => ⟨rfl, by rw [hU]; exact hPc, va_K.moved hW.alike hKc⟩⟩ rfl rfl hl.1 rfl (lv_room (Nat.le_of_ble_eq_true rfl)) dX9_undo_8 ⟨Nat.le_of_ble_eq_true rfl, Nat.le_of_ble_eq_true rfl⟩) hS (fun _ _ h => h.elim) (fun _ h => h.elim) (fun r1 u t H1 locs ht hvm hw hB hz1 hk1 hS => ?_)
  have hP := pw_keep hP (fun q hq => hk1 q hq (fun h => h))
  generalize H1 = H at hP hS ⊢
  refine W.widen (k := 0) (n := 0) (Nat.le_of_ble_eq_true rfl) (Nat.le_of_ble_eq_true rfl) ?_
  obtain rfl : r1 = 0 := hw
  refine lv_if_eq (tgt := 24) hx hb dX9_undo_11 (by decide) (fun c2 => ?_) (fun c2 => absurd (by decide) c2)
  refine lv_ldc hx hb hown (hts (.constant RX9 137 (-1000002)) (List.mem_of_getElem? (i := 10) rfl)) dX9_undo_24 ?_
  exact W.iret (v := (-1000002)) hx hb hr (fun t ht hW => ⟨⟨(-1000002), (), rfl, rfl, trivial⟩, hS.F ht⟩) hS.2.2 dX9_undo_26
def w_X9_add__z : List Cond := .code yX9_add cX9_add 6 (some .int) :: ([.fieldLink RX9 19 "LineCites" "now" "LLineCites$Work;", .methodLink RX9 138 yX8_hasEdition, .instanceMethod yX8_hasEdition, .selects RX8 yX8_hasEdition yX8_hasEdition, .initialized RX8, .code yX8_hasEdition cX8_hasEdition 2 (some .boolean), .fieldLink RX8 37 "LineCites$Work" "editions" "I", .constant RX9 88 (-1000001)] ++ wsX90 ++ wsX80)
set_option maxRecDepth 20000 in
theorem g_X9_add__z_X8_hasEdition__z : GoodIn w_X9_add__z (wsV RX9 138 RX8 yX8_hasEdition w_X8_hasEdition__z) := goodIn_r _ [2, 3, 4, 5, 6, 7, 23, 24, 25, 26, 27, 28, 29, 30] rfl (by decide +kernel)
set_option maxHeartbeats 4000000 in
set_option maxRecDepth 100000 in
theorem c_X9_add__z (l : Launch) (D : va_G) (h0 : Nat) (i_0 : Int32) (i_1 : Int32) (i_2 : Int32) (i_3 : Int32) (i_4 : Int32) (a_tape : Nat) (a_now : Nat) (a_draft : Nat) (a_reader : Nat) (a_acts : Nat) (a_images : Nat) (a_one : Nat) (a_other : Nat) (a_third : Nat) (a_spans : Nat) (a_back : Nat) (a_span : Nat) (a_middle : Nat) (a_reached : Nat) (b_sc : Nat) (b_sp : Nat) (b_cp : Nat) (b_sn : Nat) (b_sl : Nat) : Met l yX9_add w_X9_add__z ({ frames := 1, cells := 0, slots := 0, locals := 21 }) (va_Pc [.ref h0, .int i_0, .int i_1, .int i_2, .int i_3, .int i_4] (fun U => va_P D vwCl [(h0, .inr (9, [.ref a_tape, .ref a_now, .ref a_draft, .ref a_reader, .ref a_acts, .ref a_images, .ref a_one, .ref a_other, .ref a_third, .ref a_spans, .ref a_back, .ref a_span, .ref a_middle, .ref a_reached])), (a_now, .inr (8, [.ref b_sc, .ref b_sp, .ref b_cp, .ref b_sn, .ref b_sl, .int 0, .int 0, .int 0]))] U.heap ∧ va_K D vwCl [] U)) (va_Qi (fun (r : Int32) (_ : Unit) => r = (-1000001)) (fun _ _ => True) (fun _ => False)) 0 0 (fun _ => False) := by
  refine Met.ofW (cc := cX9_add) (maxL := 6) (ret := (some .int)) (by decide) rfl ?_
  intro p e s m args below meth c s₁ B hml hv
  obtain ⟨rfl, hP, hK⟩ := hv
  have hx := B.exec
  have hb := B.bytes
  have hr := B.returns
  have hts := atoms_spec (ws := w_X9_add__z) B.pre
  have hown : s.vm.findClass RX9 = some m.cls := findClass_of_methodNamed B.named
  have hlocks := B.notSynchronized
  have hS : va_S (fun _ : Nat => False) s.heap s.heap [] := va_S.rf
  have hP : va_P D vwCl [(h0, .inr (9, [.ref a_tape, .ref a_now, .ref a_draft, .ref a_reader, .ref a_acts, .ref a_images, .ref a_one, .ref a_other, .ref a_third, .ref a_spans, .ref a_back, .ref a_span, .ref a_middle, .ref a_reached])), (a_now, .inr (8, [.ref b_sc, .ref b_sp, .ref b_cp, .ref b_sn, .ref b_sl, .int 0, .int 0, .int 0]))] s.heap := hP
  have hl := lv_entry ([.ref h0, .int i_0, .int i_1, .int i_2, .int i_3, .int i_4]) (n := 6) (Nat.le_of_ble_eq_true rfl)
  rw [lg_entry_eq]
  generalize (lg_sl ([.ref h0, .int i_0, .int i_1, .int i_2, .int i_3, .int i_4]) ++ List.replicate (6 - (lg_sl ([.ref h0, .int i_0, .int i_1, .int i_2, .int i_3, .int i_4])).length) Slot.unset).toArray = ls at hl ⊢
  have hl : lv_has ls 6 [(0, .ref h0), (1, .int i_0), (2, .int i_1), (3, .int i_2), (4, .int i_3), (5, .int i_4)] := hl
  obtain ⟨H, hHe⟩ : ∃ H : Heap, H = s.heap := ⟨_, rfl⟩
  rw [← hHe] at hP
  have hS : va_S (fun _ : Nat => False) s.heap H [] := by rw [hHe]; exact hS
  refine pw_heap hHe ?_
  refine lv_aload_n hx hb dX9_add_0 rfl (lv_at hl 0 rfl) ?_
  refine va_get (D := D) (ci := 9) (v := .ref a_now) (C := RX9) (T := TX9) (N := 14) hx hb hts (fun _ h => List.mem_cons_of_mem _ (List.mem_append_left _ (List.mem_append_right _ h))) hown hK hP 0 rfl rfl 1 (by decide) (hts (.fieldLink RX9 19 "LineCites" "now" "LLineCites$Work;") (List.mem_of_getElem? (i := 1) rfl)) (fun _ h9 => h9) rfl dX9_add_1 ?_
  refine lv_iload_n hx hb dX9_add_4 rfl (lv_at hl 1 rfl) ?_
  have hPc := hP.sub (ws' := [(a_now, .inr (8, [.ref b_sc, .ref b_sp, .ref b_cp, .ref b_sn, .ref b_sl, .int 0, .int 0, .int 0]))]) [1] rfl
  have hKc := hK.sub (tys' := []) [] rfl
  refine va_calli (va_runV (As := [.int i_0]) (rest := []) ⟨hx, hb, hml, hown, hts⟩ (c_X8_hasEdition__z l D a_now i_0 b_sc b_sp b_cp b_sn b_sl) (cwV 1 hts g_X9_add__z_X8_hasEdition__z rfl rfl rfl (by decide +kernel) ⟨Nat.le_of_ble_eq_true rfl, Nat.le_of_ble_eq_true rfl⟩) ⟨fun a U g mk q => by obtain ⟨q0, qP, qK⟩ := q; exact ⟨q0, qP, va_K.moved (u := U) (U := U.calling g mk a) (Vm.Alike.refl U.vm) qK⟩, va_recv hKc hPc (ci := 8) (q0 := 0) rfl rfl, fun U hU hW => ⟨rfl, by rw [hU]; exact hPc, va_K.moved hW.alike hKc⟩⟩ rfl rfl hl.1 rfl (lv_room (Nat.le_of_ble_eq_true rfl)) dX9_add_5 ⟨Nat.le_of_ble_eq_true rfl, Nat.le_of_ble_eq_true rfl⟩) hS (fun _ _ h => h.elim) (fun _ h => h.elim) (fun r1 u t H1 locs ht hvm hw hB hz1 hk1 hS => ?_)
  have hP := pw_keep hP (fun q hq => hk1 q hq (fun h => h))
  generalize H1 = H at hP hS ⊢
  refine W.widen (k := 0) (n := 0) (Nat.le_of_ble_eq_true rfl) (Nat.le_of_ble_eq_true rfl) ?_
  obtain rfl : r1 = 0 := hw
  refine lv_if_ne (tgt := 14) hx hb dX9_add_8 (by decide) (fun c2 => absurd (by decide) c2) (fun c2 => ?_)
  refine lv_ldc hx hb hown (hts (.constant RX9 88 (-1000001)) (List.mem_of_getElem? (i := 8) rfl)) dX9_add_11 ?_
  exact W.iret (v := (-1000001)) hx hb hr (fun t ht hW => ⟨⟨(-1000001), (), rfl, rfl, trivial⟩, hS.F ht⟩) hS.2.2 dX9_add_13
def w_X9_drop__z : List Cond := .code yX9_drop cX9_drop 3 (some .int) :: ([.fieldLink RX9 19 "LineCites" "now" "LLineCites$Work;", .methodLink RX9 156 yX8_hasStretch, .instanceMethod yX8_hasStretch, .selects RX8 yX8_hasStretch yX8_hasStretch, .initialized RX8, .code yX8_hasStretch cX8_hasStretch 3 (some .boolean), .methodLink RX8 47 yX8_stretchesOf, .instanceMethod yX8_stretchesOf, .selects RX8 yX8_stretchesOf yX8_stretchesOf, .code yX8_stretchesOf cX8_stretchesOf 2 (some .int), .methodLink RX8 43 yX8_hasEdition, .instanceMethod yX8_hasEdition, .selects RX8 yX8_hasEdition yX8_hasEdition, .code yX8_hasEdition cX8_hasEdition 2 (some .boolean), .fieldLink RX8 37 "LineCites$Work" "editions" "I", .constant RX9 88 (-1000001)] ++ wsX90 ++ wsX80)
set_option maxRecDepth 20000 in
theorem g_X9_drop__z_X8_hasStretch__z : GoodIn w_X9_drop__z (wsV RX9 156 RX8 yX8_hasStretch w_X8_hasStretch__z) := goodIn_r _ [2, 3, 4, 5, 6, 7, 8, 9, 5, 10, 11, 12, 13, 14, 15, 31, 32, 33, 34, 35, 36, 37, 38] rfl (by decide +kernel)
set_option maxHeartbeats 4000000 in
set_option maxRecDepth 100000 in
theorem c_X9_drop__z (l : Launch) (D : va_G) (h0 : Nat) (i_0 : Int32) (i_1 : Int32) (a_tape : Nat) (a_now : Nat) (a_draft : Nat) (a_reader : Nat) (a_acts : Nat) (a_images : Nat) (a_one : Nat) (a_other : Nat) (a_third : Nat) (a_spans : Nat) (a_back : Nat) (a_span : Nat) (a_middle : Nat) (a_reached : Nat) (b_sc : Nat) (b_sp : Nat) (b_cp : Nat) (b_sn : Nat) (b_sl : Nat) : Met l yX9_drop w_X9_drop__z ({ frames := 3, cells := 0, slots := 0, locals := 64 }) (va_Pc [.ref h0, .int i_0, .int i_1] (fun U => va_P D vwCl [(h0, .inr (9, [.ref a_tape, .ref a_now, .ref a_draft, .ref a_reader, .ref a_acts, .ref a_images, .ref a_one, .ref a_other, .ref a_third, .ref a_spans, .ref a_back, .ref a_span, .ref a_middle, .ref a_reached])), (a_now, .inr (8, [.ref b_sc, .ref b_sp, .ref b_cp, .ref b_sn, .ref b_sl, .int 0, .int 0, .int 0]))] U.heap ∧ va_K D vwCl [] U)) (va_Qi (fun (r : Int32) (_ : Unit) => r = (-1000001)) (fun _ _ => True) (fun _ => False)) 0 0 (fun _ => False) := by
  refine Met.ofW (cc := cX9_drop) (maxL := 3) (ret := (some .int)) (by decide) rfl ?_
  intro p e s m args below meth c s₁ B hml hv
  obtain ⟨rfl, hP, hK⟩ := hv
  have hx := B.exec
  have hb := B.bytes
  have hr := B.returns
  have hts := atoms_spec (ws := w_X9_drop__z) B.pre
  have hown : s.vm.findClass RX9 = some m.cls := findClass_of_methodNamed B.named
  have hlocks := B.notSynchronized
  have hS : va_S (fun _ : Nat => False) s.heap s.heap [] := va_S.rf
  have hP : va_P D vwCl [(h0, .inr (9, [.ref a_tape, .ref a_now, .ref a_draft, .ref a_reader, .ref a_acts, .ref a_images, .ref a_one, .ref a_other, .ref a_third, .ref a_spans, .ref a_back, .ref a_span, .ref a_middle, .ref a_reached])), (a_now, .inr (8, [.ref b_sc, .ref b_sp, .ref b_cp, .ref b_sn, .ref b_sl, .int 0, .int 0, .int 0]))] s.heap := hP
  have hl := lv_entry ([.ref h0, .int i_0, .int i_1]) (n := 3) (Nat.le_of_ble_eq_true rfl)
  rw [lg_entry_eq]
  generalize (lg_sl ([.ref h0, .int i_0, .int i_1]) ++ List.replicate (3 - (lg_sl ([.ref h0, .int i_0, .int i_1])).length) Slot.unset).toArray = ls at hl ⊢
  have hl : lv_has ls 3 [(0, .ref h0), (1, .int i_0), (2, .int i_1)] := hl
  obtain ⟨H, hHe⟩ : ∃ H : Heap, H = s.heap := ⟨_, rfl⟩
  rw [← hHe] at hP
  have hS : va_S (fun _ : Nat => False) s.heap H [] := by rw [hHe]; exact hS
  refine pw_heap hHe ?_
  refine lv_aload_n hx hb dX9_drop_0 rfl (lv_at hl 0 rfl) ?_
  refine va_get (D := D) (ci := 9) (v := .ref a_now) (C := RX9) (T := TX9) (N := 14) hx hb hts (fun _ h => List.mem_cons_of_mem _ (List.mem_append_left _ (List.mem_append_right _ h))) hown hK hP 0 rfl rfl 1 (by decide) (hts (.fieldLink RX9 19 "LineCites" "now" "LLineCites$Work;") (List.mem_of_getElem? (i := 1) rfl)) (fun _ h9 => h9) rfl dX9_drop_1 ?_
  refine lv_iload_n hx hb dX9_drop_4 rfl (lv_at hl 1 rfl) ?_
  refine lv_iload_n hx hb dX9_drop_5 rfl (lv_at hl 2 rfl) ?_
  have hPc := hP.sub (ws' := [(a_now, .inr (8, [.ref b_sc, .ref b_sp, .ref b_cp, .ref b_sn, .ref b_sl, .int 0, .int 0, .int 0]))]) [1] rfl
  have hKc := hK.sub (tys' := []) [] rfl
  refine va_calli (va_runV (As := [.int i_0, .int i_1]) (rest := []) ⟨hx, hb, hml, hown, hts⟩ (c_X8_hasStretch__z l D a_now i_0 i_1 b_sc b_sp b_cp b_sn b_sl) (cwV 2 hts g_X9_drop__z_X8_hasStretch__z rfl rfl rfl (by decide +kernel) ⟨Nat.le_of_ble_eq_true rfl, Nat.le_of_ble_eq_true rfl⟩) ⟨fun a U g mk q => by obtain ⟨q0, qP, qK⟩ := q; exact ⟨q0, qP, va_K.moved (u := U) (U := U.calling g mk a) (Vm.Alike.refl U.vm) qK⟩, va_recv hKc hPc (ci := 8) (q0 := 0) rfl rfl, fun U hU hW => ⟨rfl, by rw [hU]; exact hPc, va_K.moved hW.alike hKc⟩⟩ rfl rfl hl.1 rfl (lv_room (Nat.le_of_ble_eq_true rfl)) dX9_drop_6 ⟨Nat.le_of_ble_eq_true rfl, Nat.le_of_ble_eq_true rfl⟩) hS (fun _ _ h => h.elim) (fun _ h => h.elim) (fun r1 u t H1 locs ht hvm hw hB hz1 hk1 hS => ?_)
  have hP := pw_keep hP (fun q hq => hk1 q hq (fun h => h))
  generalize H1 = H at hP hS ⊢
  refine W.widen (k := 0) (n := 0) (Nat.le_of_ble_eq_true rfl) (Nat.le_of_ble_eq_true rfl) ?_
  obtain rfl : r1 = 0 := hw
  refine lv_if_ne (tgt := 15) hx hb dX9_drop_9 (by decide) (fun c2 => absurd (by decide) c2) (fun c2 => ?_)
  refine lv_ldc hx hb hown (hts (.constant RX9 88 (-1000001)) (List.mem_of_getElem? (i := 16) rfl)) dX9_drop_12 ?_
  exact W.iret (v := (-1000001)) hx hb hr (fun t ht hW => ⟨⟨(-1000001), (), rfl, rfl, trivial⟩, hS.F ht⟩) hS.2.2 dX9_drop_14
def w_X9_alter__z : List Cond := .code yX9_alter cX9_alter 10 (some .int) :: ([.fieldLink RX9 19 "LineCites" "now" "LLineCites$Work;", .methodLink RX9 156 yX8_hasStretch, .instanceMethod yX8_hasStretch, .selects RX8 yX8_hasStretch yX8_hasStretch, .initialized RX8, .code yX8_hasStretch cX8_hasStretch 3 (some .boolean), .methodLink RX8 47 yX8_stretchesOf, .instanceMethod yX8_stretchesOf, .selects RX8 yX8_stretchesOf yX8_stretchesOf, .code yX8_stretchesOf cX8_stretchesOf 2 (some .int), .methodLink RX8 43 yX8_hasEdition, .instanceMethod yX8_hasEdition, .selects RX8 yX8_hasEdition yX8_hasEdition, .code yX8_hasEdition cX8_hasEdition 2 (some .boolean), .fieldLink RX8 37 "LineCites$Work" "editions" "I", .constant RX9 88 (-1000001)] ++ wsX90 ++ wsX80)
set_option maxRecDepth 20000 in
theorem g_X9_alter__z_X8_hasStretch__z : GoodIn w_X9_alter__z (wsV RX9 156 RX8 yX8_hasStretch w_X8_hasStretch__z) := goodIn_r _ [2, 3, 4, 5, 6, 7, 8, 9, 5, 10, 11, 12, 13, 14, 15, 31, 32, 33, 34, 35, 36, 37, 38] rfl (by decide +kernel)
set_option maxHeartbeats 4000000 in
set_option maxRecDepth 100000 in
theorem c_X9_alter__z (l : Launch) (D : va_G) (h0 : Nat) (i_0 : Int32) (i_1 : Int32) (i_2 : Int32) (i_3 : Int32) (a_tape : Nat) (a_now : Nat) (a_draft : Nat) (a_reader : Nat) (a_acts : Nat) (a_images : Nat) (a_one : Nat) (a_other : Nat) (a_third : Nat) (a_spans : Nat) (a_back : Nat) (a_span : Nat) (a_middle : Nat) (a_reached : Nat) (b_sc : Nat) (b_sp : Nat) (b_cp : Nat) (b_sn : Nat) (b_sl : Nat) : Met l yX9_alter w_X9_alter__z ({ frames := 3, cells := 0, slots := 0, locals := 64 }) (va_Pc [.ref h0, .int i_0, .int i_1, .int i_2, .int i_3] (fun U => va_P D vwCl [(h0, .inr (9, [.ref a_tape, .ref a_now, .ref a_draft, .ref a_reader, .ref a_acts, .ref a_images, .ref a_one, .ref a_other, .ref a_third, .ref a_spans, .ref a_back, .ref a_span, .ref a_middle, .ref a_reached])), (a_now, .inr (8, [.ref b_sc, .ref b_sp, .ref b_cp, .ref b_sn, .ref b_sl, .int 0, .int 0, .int 0]))] U.heap ∧ va_K D vwCl [] U)) (va_Qi (fun (r : Int32) (_ : Unit) => r = (-1000001)) (fun _ _ => True) (fun _ => False)) 0 0 (fun _ => False) := by
  refine Met.ofW (cc := cX9_alter) (maxL := 10) (ret := (some .int)) (by decide) rfl ?_
  intro p e s m args below meth c s₁ B hml hv
  obtain ⟨rfl, hP, hK⟩ := hv
  have hx := B.exec
  have hb := B.bytes
  have hr := B.returns
  have hts := atoms_spec (ws := w_X9_alter__z) B.pre
  have hown : s.vm.findClass RX9 = some m.cls := findClass_of_methodNamed B.named
  have hlocks := B.notSynchronized
  have hS : va_S (fun _ : Nat => False) s.heap s.heap [] := va_S.rf
  have hP : va_P D vwCl [(h0, .inr (9, [.ref a_tape, .ref a_now, .ref a_draft, .ref a_reader, .ref a_acts, .ref a_images, .ref a_one, .ref a_other, .ref a_third, .ref a_spans, .ref a_back, .ref a_span, .ref a_middle, .ref a_reached])), (a_now, .inr (8, [.ref b_sc, .ref b_sp, .ref b_cp, .ref b_sn, .ref b_sl, .int 0, .int 0, .int 0]))] s.heap := hP
  have hl := lv_entry ([.ref h0, .int i_0, .int i_1, .int i_2, .int i_3]) (n := 10) (Nat.le_of_ble_eq_true rfl)
  rw [lg_entry_eq]
  generalize (lg_sl ([.ref h0, .int i_0, .int i_1, .int i_2, .int i_3]) ++ List.replicate (10 - (lg_sl ([.ref h0, .int i_0, .int i_1, .int i_2, .int i_3])).length) Slot.unset).toArray = ls at hl ⊢
  have hl : lv_has ls 10 [(0, .ref h0), (1, .int i_0), (2, .int i_1), (3, .int i_2), (4, .int i_3)] := hl
  obtain ⟨H, hHe⟩ : ∃ H : Heap, H = s.heap := ⟨_, rfl⟩
  rw [← hHe] at hP
  have hS : va_S (fun _ : Nat => False) s.heap H [] := by rw [hHe]; exact hS
  refine pw_heap hHe ?_
  refine lv_aload_n hx hb dX9_alter_0 rfl (lv_at hl 0 rfl) ?_
  refine va_get (D := D) (ci := 9) (v := .ref a_now) (C := RX9) (T := TX9) (N := 14) hx hb hts (fun _ h => List.mem_cons_of_mem _ (List.mem_append_left _ (List.mem_append_right _ h))) hown hK hP 0 rfl rfl 1 (by decide) (hts (.fieldLink RX9 19 "LineCites" "now" "LLineCites$Work;") (List.mem_of_getElem? (i := 1) rfl)) (fun _ h9 => h9) rfl dX9_alter_1 ?_
  refine lv_iload_n hx hb dX9_alter_4 rfl (lv_at hl 1 rfl) ?_
  refine lv_iload_n hx hb dX9_alter_5 rfl (lv_at hl 2 rfl) ?_
  have hPc := hP.sub (ws' := [(a_now, .inr (8, [.ref b_sc, .ref b_sp, .ref b_cp, .ref b_sn, .ref b_sl, .int 0, .int 0, .int 0]))]) [1] rfl
  have hKc := hK.sub (tys' := []) [] rfl
  refine va_calli (va_runV (As := [.int i_0, .int i_1]) (rest := []) ⟨hx, hb, hml, hown, hts⟩ (c_X8_hasStretch__z l D a_now i_0 i_1 b_sc b_sp b_cp b_sn b_sl) (cwV 2 hts g_X9_alter__z_X8_hasStretch__z rfl rfl rfl (by decide +kernel) ⟨Nat.le_of_ble_eq_true rfl, Nat.le_of_ble_eq_true rfl⟩) ⟨fun a U g mk q => by obtain ⟨q0, qP, qK⟩ := q; exact ⟨q0, qP, va_K.moved (u := U) (U := U.calling g mk a) (Vm.Alike.refl U.vm) qK⟩, va_recv hKc hPc (ci := 8) (q0 := 0) rfl rfl, fun U hU hW => ⟨rfl, by rw [hU]; exact hPc, va_K.moved hW.alike hKc⟩⟩ rfl rfl hl.1 rfl (lv_room (Nat.le_of_ble_eq_true rfl)) dX9_alter_6 ⟨Nat.le_of_ble_eq_true rfl, Nat.le_of_ble_eq_true rfl⟩) hS (fun _ _ h => h.elim) (fun _ h => h.elim) (fun r1 u t H1 locs ht hvm hw hB hz1 hk1 hS => ?_)
  have hP := pw_keep hP (fun q hq => hk1 q hq (fun h => h))
  generalize H1 = H at hP hS ⊢
  refine W.widen (k := 0) (n := 0) (Nat.le_of_ble_eq_true rfl) (Nat.le_of_ble_eq_true rfl) ?_
  obtain rfl : r1 = 0 := hw
  refine lv_if_eq (tgt := 21) hx hb dX9_alter_9 (by decide) (fun c2 => ?_) (fun c2 => absurd (by decide) c2)
  refine lv_ldc hx hb hown (hts (.constant RX9 88 (-1000001)) (List.mem_of_getElem? (i := 16) rfl)) dX9_alter_21 ?_
  exact W.iret (v := (-1000001)) hx hb hr (fun t ht hW => ⟨⟨(-1000001), (), rfl, rfl, trivial⟩, hS.F ht⟩) hS.2.2 dX9_alter_23
def w_X9_cite__z : List Cond := .code yX9_cite cX9_cite 6 (some .int) :: ([.constant RX9 88 (-1000001), .fieldLink RX9 19 "LineCites" "now" "LLineCites$Work;", .methodLink RX9 138 yX8_hasEdition, .instanceMethod yX8_hasEdition, .selects RX8 yX8_hasEdition yX8_hasEdition, .initialized RX8, .code yX8_hasEdition cX8_hasEdition 2 (some .boolean), .fieldLink RX8 37 "LineCites$Work" "editions" "I"] ++ wsX90 ++ wsX80)
set_option maxRecDepth 20000 in
theorem g_X9_cite__z_X8_hasEdition__z : GoodIn w_X9_cite__z (wsV RX9 138 RX8 yX8_hasEdition w_X8_hasEdition__z) := goodIn_r _ [3, 4, 5, 6, 7, 8, 23, 24, 25, 26, 27, 28, 29, 30] rfl (by decide +kernel)
set_option maxHeartbeats 4000000 in
set_option maxRecDepth 100000 in
theorem c_X9_cite__z (l : Launch) (D : va_G) (h0 : Nat) (i_0 : Int32) (i_1 : Int32) (i_2 : Int32) (i_3 : Int32) (i_4 : Int32) (a_tape : Nat) (a_now : Nat) (a_draft : Nat) (a_reader : Nat) (a_acts : Nat) (a_images : Nat) (a_one : Nat) (a_other : Nat) (a_third : Nat) (a_spans : Nat) (a_back : Nat) (a_span : Nat) (a_middle : Nat) (a_reached : Nat) (b_sc : Nat) (b_sp : Nat) (b_cp : Nat) (b_sn : Nat) (b_sl : Nat) : Met l yX9_cite w_X9_cite__z ({ frames := 1, cells := 0, slots := 0, locals := 21 }) (va_Pc [.ref h0, .int i_0, .int i_1, .int i_2, .int i_3, .int i_4] (fun U => va_P D vwCl [(h0, .inr (9, [.ref a_tape, .ref a_now, .ref a_draft, .ref a_reader, .ref a_acts, .ref a_images, .ref a_one, .ref a_other, .ref a_third, .ref a_spans, .ref a_back, .ref a_span, .ref a_middle, .ref a_reached])), (a_now, .inr (8, [.ref b_sc, .ref b_sp, .ref b_cp, .ref b_sn, .ref b_sl, .int 0, .int 0, .int 0]))] U.heap ∧ va_K D vwCl [] U)) (va_Qi (fun (r : Int32) (_ : Unit) => r = (-1000001)) (fun _ _ => True) (fun _ => False)) 0 0 (fun _ => False) := by
  refine Met.ofW (cc := cX9_cite) (maxL := 6) (ret := (some .int)) (by decide) rfl ?_
  intro p e s m args below meth c s₁ B hml hv
  obtain ⟨rfl, hP, hK⟩ := hv
  have hx := B.exec
  have hb := B.bytes
  have hr := B.returns
  have hts := atoms_spec (ws := w_X9_cite__z) B.pre
  have hown : s.vm.findClass RX9 = some m.cls := findClass_of_methodNamed B.named
  have hlocks := B.notSynchronized
  have hS : va_S (fun _ : Nat => False) s.heap s.heap [] := va_S.rf
  have hP : va_P D vwCl [(h0, .inr (9, [.ref a_tape, .ref a_now, .ref a_draft, .ref a_reader, .ref a_acts, .ref a_images, .ref a_one, .ref a_other, .ref a_third, .ref a_spans, .ref a_back, .ref a_span, .ref a_middle, .ref a_reached])), (a_now, .inr (8, [.ref b_sc, .ref b_sp, .ref b_cp, .ref b_sn, .ref b_sl, .int 0, .int 0, .int 0]))] s.heap := hP
  have hl := lv_entry ([.ref h0, .int i_0, .int i_1, .int i_2, .int i_3, .int i_4]) (n := 6) (Nat.le_of_ble_eq_true rfl)
  rw [lg_entry_eq]
  generalize (lg_sl ([.ref h0, .int i_0, .int i_1, .int i_2, .int i_3, .int i_4]) ++ List.replicate (6 - (lg_sl ([.ref h0, .int i_0, .int i_1, .int i_2, .int i_3, .int i_4])).length) Slot.unset).toArray = ls at hl ⊢
  have hl : lv_has ls 6 [(0, .ref h0), (1, .int i_0), (2, .int i_1), (3, .int i_2), (4, .int i_3), (5, .int i_4)] := hl
  obtain ⟨H, hHe⟩ : ∃ H : Heap, H = s.heap := ⟨_, rfl⟩
  rw [← hHe] at hP
  have hS : va_S (fun _ : Nat => False) s.heap H [] := by rw [hHe]; exact hS
  refine pw_heap hHe ?_
  refine lv_iload_n hx hb dX9_cite_0 rfl (lv_at hl 1 rfl) ?_
  refine lv_if_lt (tgt := 21) hx hb dX9_cite_1 (by decide) (fun c1 => ?_) (fun c1 => ?_)
  · have nc1 : i_0.toInt < 0 := pw_lt c1 rfl (by decide)
    refine lv_ldc hx hb hown (hts (.constant RX9 88 (-1000001)) (List.mem_of_getElem? (i := 1) rfl)) dX9_cite_21 ?_
    exact W.iret (v := (-1000001)) hx hb hr (fun t ht hW => ⟨⟨(-1000001), (), rfl, rfl, trivial⟩, hS.F ht⟩) hS.2.2 dX9_cite_23
  · have nc1 : 0 ≤ i_0.toInt := pw_nlt c1 rfl (by decide)
    refine lv_iload_n hx hb dX9_cite_4 rfl (lv_at hl 1 rfl) ?_
    refine lv_bipush (v := 8) hx hb dX9_cite_5 (by decide) ?_
    refine lv_icmp_ge (tgt := 21) hx hb dX9_cite_7 (by decide) (fun c2 => ?_) (fun c2 => ?_)
    · have nc2 : 8 ≤ i_0.toInt := pw_le c2 (by decide) rfl
      refine lv_ldc hx hb hown (hts (.constant RX9 88 (-1000001)) (List.mem_of_getElem? (i := 1) rfl)) dX9_cite_21 ?_
      exact W.iret (v := (-1000001)) hx hb hr (fun t ht hW => ⟨⟨(-1000001), (), rfl, rfl, trivial⟩, hS.F ht⟩) hS.2.2 dX9_cite_23
    · have nc2 : i_0.toInt < 8 := pw_nle c2 (by decide) rfl
      refine lv_aload_n hx hb dX9_cite_10 rfl (lv_at hl 0 rfl) ?_
      refine va_get (D := D) (ci := 9) (v := .ref a_now) (C := RX9) (T := TX9) (N := 14) hx hb hts (fun _ h => List.mem_cons_of_mem _ (List.mem_append_left _ (List.mem_append_right _ h))) hown hK hP 0 rfl rfl 1 (by decide) (hts (.fieldLink RX9 19 "LineCites" "now" "LLineCites$Work;") (List.mem_of_getElem? (i := 2) rfl)) (fun _ h9 => h9) rfl dX9_cite_11 ?_
      refine lv_iload_n hx hb dX9_cite_14 rfl (lv_at hl 2 rfl) ?_
      have hPc := hP.sub (ws' := [(a_now, .inr (8, [.ref b_sc, .ref b_sp, .ref b_cp, .ref b_sn, .ref b_sl, .int 0, .int 0, .int 0]))]) [1] rfl
      have hKc := hK.sub (tys' := []) [] rfl
      refine va_calli (va_runV (As := [.int i_1]) (rest := []) ⟨hx, hb, hml, hown, hts⟩ (c_X8_hasEdition__z l D a_now i_1 b_sc b_sp b_cp b_sn b_sl) (cwV 1 hts g_X9_cite__z_X8_hasEdition__z rfl rfl rfl (by decide +kernel) ⟨Nat.le_of_ble_eq_true rfl, Nat.le_of_ble_eq_true rfl⟩) ⟨fun a U g mk q => by obtain ⟨q0, qP, qK⟩ := q; exact ⟨q0, qP, va_K.moved (u := U) (U := U.calling g mk a) (Vm.Alike.refl U.vm) qK⟩, va_recv hKc hPc (ci := 8) (q0 := 0) rfl rfl, fun U hU hW => ⟨rfl, by rw [hU]; exact hPc, va_K.moved hW.alike hKc⟩⟩ rfl rfl hl.1 rfl (lv_room (Nat.le_of_ble_eq_true rfl)) dX9_cite_15 ⟨Nat.le_of_ble_eq_true rfl, Nat.le_of_ble_eq_true rfl⟩) hS (fun _ _ h => h.elim) (fun _ h => h.elim) (fun r3 u t H1 locs ht hvm hw hB hz1 hk1 hS => ?_)
      have hP := pw_keep hP (fun q hq => hk1 q hq (fun h => h))
      generalize H1 = H at hP hS ⊢
      refine W.widen (k := 0) (n := 0) (Nat.le_of_ble_eq_true rfl) (Nat.le_of_ble_eq_true rfl) ?_
      obtain rfl : r3 = 0 := hw
      refine lv_if_ne (tgt := 24) hx hb dX9_cite_18 (by decide) (fun c4 => absurd (by decide) c4) (fun c4 => ?_)
      refine lv_ldc hx hb hown (hts (.constant RX9 88 (-1000001)) (List.mem_of_getElem? (i := 1) rfl)) dX9_cite_21 ?_
      exact W.iret (v := (-1000001)) hx hb hr (fun t ht hW => ⟨⟨(-1000001), (), rfl, rfl, trivial⟩, hS.F ht⟩) hS.2.2 dX9_cite_23
def w_X9_see__z : List Cond := .code yX9_see cX9_see 3 (some .int) :: ([.methodLink RX9 172 yX9_isNumber, .static yX9_isNumber, .initialized RX9, .code yX9_isNumber cX9_isNumber 1 (some .boolean), .constant RX9 88 (-1000001), .fieldLink RX9 19 "LineCites" "now" "LLineCites$Work;", .methodLink RX9 191 yX8_hasLine, .instanceMethod yX8_hasLine, .selects RX8 yX8_hasLine yX8_hasLine, .initialized RX8, .code yX8_hasLine cX8_hasLine 2 (some .boolean), .fieldLink RX8 33 "LineCites$Work" "lines" "I"] ++ wsX90 ++ wsX80)
set_option maxRecDepth 20000 in
theorem g_X9_see__z_X9_isNumber : GoodIn w_X9_see__z (wsS RX9 172 yX9_isNumber w_X9_isNumber) := goodIn_r _ [1, 2, 3, 4] rfl (by decide +kernel)
set_option maxRecDepth 20000 in
theorem g_X9_see__z_X8_hasLine__z : GoodIn w_X9_see__z (wsV RX9 191 RX8 yX8_hasLine w_X8_hasLine__z) := goodIn_r _ [7, 8, 9, 10, 11, 12, 27, 28, 29, 30, 31, 32, 33, 34] rfl (by decide +kernel)
set_option maxHeartbeats 4000000 in
set_option maxRecDepth 100000 in
theorem c_X9_see__z (l : Launch) (D : va_G) (h0 : Nat) (i_0 : Int32) (i_1 : Int32) (a_tape : Nat) (a_now : Nat) (a_draft : Nat) (a_reader : Nat) (a_acts : Nat) (a_images : Nat) (a_one : Nat) (a_other : Nat) (a_third : Nat) (a_spans : Nat) (a_back : Nat) (a_span : Nat) (a_middle : Nat) (a_reached : Nat) (b_sc : Nat) (b_sp : Nat) (b_cp : Nat) (b_sn : Nat) (b_sl : Nat) : Met l yX9_see w_X9_see__z ({ frames := 1, cells := 0, slots := 0, locals := 21 }) (va_Pc [.ref h0, .int i_0, .int i_1] (fun U => va_P D vwCl [(h0, .inr (9, [.ref a_tape, .ref a_now, .ref a_draft, .ref a_reader, .ref a_acts, .ref a_images, .ref a_one, .ref a_other, .ref a_third, .ref a_spans, .ref a_back, .ref a_span, .ref a_middle, .ref a_reached])), (a_now, .inr (8, [.ref b_sc, .ref b_sp, .ref b_cp, .ref b_sn, .ref b_sl, .int 0, .int 0, .int 0]))] U.heap ∧ va_K D vwCl [] U)) (va_Qi (fun (r : Int32) (_ : Unit) => r = (-1000001)) (fun _ _ => True) (fun _ => False)) 0 0 (fun _ => False) := by
  refine Met.ofW (cc := cX9_see) (maxL := 3) (ret := (some .int)) (by decide) rfl ?_
  intro p e s m args below meth c s₁ B hml hv
  obtain ⟨rfl, hP, hK⟩ := hv
  have hx := B.exec
  have hb := B.bytes
  have hr := B.returns
  have hts := atoms_spec (ws := w_X9_see__z) B.pre
  have hown : s.vm.findClass RX9 = some m.cls := findClass_of_methodNamed B.named
  have hlocks := B.notSynchronized
  have hS : va_S (fun _ : Nat => False) s.heap s.heap [] := va_S.rf
  have hP : va_P D vwCl [(h0, .inr (9, [.ref a_tape, .ref a_now, .ref a_draft, .ref a_reader, .ref a_acts, .ref a_images, .ref a_one, .ref a_other, .ref a_third, .ref a_spans, .ref a_back, .ref a_span, .ref a_middle, .ref a_reached])), (a_now, .inr (8, [.ref b_sc, .ref b_sp, .ref b_cp, .ref b_sn, .ref b_sl, .int 0, .int 0, .int 0]))] s.heap := hP
  have hl := lv_entry ([.ref h0, .int i_0, .int i_1]) (n := 3) (Nat.le_of_ble_eq_true rfl)
  rw [lg_entry_eq]
  generalize (lg_sl ([.ref h0, .int i_0, .int i_1]) ++ List.replicate (3 - (lg_sl ([.ref h0, .int i_0, .int i_1])).length) Slot.unset).toArray = ls at hl ⊢
  have hl : lv_has ls 3 [(0, .ref h0), (1, .int i_0), (2, .int i_1)] := hl
  obtain ⟨H, hHe⟩ : ∃ H : Heap, H = s.heap := ⟨_, rfl⟩
  rw [← hHe] at hP
  have hS : va_S (fun _ : Nat => False) s.heap H [] := by rw [hHe]; exact hS
  refine pw_heap hHe ?_
  refine lv_iload_n hx hb dX9_see_0 rfl (lv_at hl 1 rfl) ?_
  have hPc := hP.sub (ws' := []) [] rfl
  have hKc := hK.sub (tys' := []) [] rfl
  refine va_calli (va_runS (As := [.int i_0]) (rest := []) ⟨hx, hb, hml, hown, hts⟩ (c_X9_isNumber l D i_0) (cwS 1 hts g_X9_see__z_X9_isNumber rfl rfl rfl (by decide +kernel) ⟨Nat.le_of_ble_eq_true rfl, Nat.le_of_ble_eq_true rfl⟩) ⟨fun a U g mk q => by obtain ⟨q0, qP, qK⟩ := q; exact ⟨q0, qP, va_K.moved (u := U) (U := U.calling g mk a) (Vm.Alike.refl U.vm) qK⟩, fun U hU hW => ⟨rfl, by rw [hU]; exact hPc, va_K.moved hW.alike hKc⟩⟩ rfl rfl hl.1 rfl (lv_room (Nat.le_of_ble_eq_true rfl)) dX9_see_1 ⟨Nat.le_of_ble_eq_true rfl, Nat.le_of_ble_eq_true rfl⟩) hS (fun _ _ h => h.elim) (fun _ h => h.elim) (fun r1 u t H1 locs ht hvm hw hB hz1 hk1 hS => ?_)
  have hP := pw_keep hP (fun q hq => hk1 q hq (fun h => h))
  generalize H1 = H at hP hS ⊢
  refine W.widen (k := 0) (n := 0) (Nat.le_of_ble_eq_true rfl) (Nat.le_of_ble_eq_true rfl) ?_
  have bor1 := hw.1
  have zor1 := pw_boolI bor1
  have hfr1 := hw.2
  refine lv_if_eq (tgt := 18) hx hb dX9_see_4 (by decide) (fun c2 => ?_) (fun c2 => ?_)
  · have nc2 : r1.toInt = 0 := pw_eq c2 rfl (by decide)
    refine lv_ldc hx hb hown (hts (.constant RX9 88 (-1000001)) (List.mem_of_getElem? (i := 5) rfl)) dX9_see_18 ?_
    exact W.iret (v := (-1000001)) hx hb hr (fun t ht hW => ⟨⟨(-1000001), (), rfl, rfl, trivial⟩, hS.F ht⟩) hS.2.2 dX9_see_20
  · have nc2 : r1.toInt ≠ 0 := pw_ne c2 rfl (by decide)
    refine lv_aload_n hx hb dX9_see_7 rfl (lv_at hl 0 rfl) ?_
    refine va_get (D := D) (ci := 9) (v := .ref a_now) (C := RX9) (T := TX9) (N := 14) hx hb hts (fun _ h => List.mem_cons_of_mem _ (List.mem_append_left _ (List.mem_append_right _ h))) hown hK hP 0 rfl rfl 1 (by decide) (hts (.fieldLink RX9 19 "LineCites" "now" "LLineCites$Work;") (List.mem_of_getElem? (i := 6) rfl)) (fun _ h9 => h9) rfl dX9_see_8 ?_
    refine lv_iload_n hx hb dX9_see_11 rfl (lv_at hl 2 rfl) ?_
    have hPc := hP.sub (ws' := [(a_now, .inr (8, [.ref b_sc, .ref b_sp, .ref b_cp, .ref b_sn, .ref b_sl, .int 0, .int 0, .int 0]))]) [1] rfl
    have hKc := hK.sub (tys' := []) [] rfl
    refine va_calli (va_runV (As := [.int i_1]) (rest := []) ⟨hx, hb, hml, hown, hts⟩ (c_X8_hasLine__z l D a_now i_1 b_sc b_sp b_cp b_sn b_sl) (cwV 1 hts g_X9_see__z_X8_hasLine__z rfl rfl rfl (by decide +kernel) ⟨Nat.le_of_ble_eq_true rfl, Nat.le_of_ble_eq_true rfl⟩) ⟨fun a U g mk q => by obtain ⟨q0, qP, qK⟩ := q; exact ⟨q0, qP, va_K.moved (u := U) (U := U.calling g mk a) (Vm.Alike.refl U.vm) qK⟩, va_recv hKc hPc (ci := 8) (q0 := 0) rfl rfl, fun U hU hW => ⟨rfl, by rw [hU]; exact hPc, va_K.moved hW.alike hKc⟩⟩ rfl rfl hl.1 rfl (lv_room (Nat.le_of_ble_eq_true rfl)) dX9_see_12 ⟨Nat.le_of_ble_eq_true rfl, Nat.le_of_ble_eq_true rfl⟩) hS (fun _ _ h => h.elim) (fun _ h => h.elim) (fun r3 u t H1 locs ht hvm hw hB hz1 hk1 hS => ?_)
    have hP := pw_keep hP (fun q hq => hk1 q hq (fun h => h))
    generalize H1 = H at hP hS ⊢
    refine W.widen (k := 0) (n := 0) (Nat.le_of_ble_eq_true rfl) (Nat.le_of_ble_eq_true rfl) ?_
    obtain rfl : r3 = 0 := hw
    refine lv_if_ne (tgt := 21) hx hb dX9_see_15 (by decide) (fun c4 => absurd (by decide) c4) (fun c4 => ?_)
    refine lv_ldc hx hb hown (hts (.constant RX9 88 (-1000001)) (List.mem_of_getElem? (i := 5) rfl)) dX9_see_18 ?_
    exact W.iret (v := (-1000001)) hx hb hr (fun t ht hW => ⟨⟨(-1000001), (), rfl, rfl, trivial⟩, hS.F ht⟩) hS.2.2 dX9_see_20
def w_X9_stretch__z : List Cond := .code yX9_stretch cX9_stretch 4 (some .int) :: ([.fieldLink RX9 19 "LineCites" "now" "LLineCites$Work;", .methodLink RX9 156 yX8_hasStretch, .instanceMethod yX8_hasStretch, .selects RX8 yX8_hasStretch yX8_hasStretch, .initialized RX8, .code yX8_hasStretch cX8_hasStretch 3 (some .boolean), .methodLink RX8 47 yX8_stretchesOf, .instanceMethod yX8_stretchesOf, .selects RX8 yX8_stretchesOf yX8_stretchesOf, .code yX8_stretchesOf cX8_stretchesOf 2 (some .int), .methodLink RX8 43 yX8_hasEdition, .instanceMethod yX8_hasEdition, .selects RX8 yX8_hasEdition yX8_hasEdition, .code yX8_hasEdition cX8_hasEdition 2 (some .boolean), .fieldLink RX8 37 "LineCites$Work" "editions" "I", .constant RX9 88 (-1000001)] ++ wsX90 ++ wsX80)
set_option maxRecDepth 20000 in
theorem g_X9_stretch__z_X8_hasStretch__z : GoodIn w_X9_stretch__z (wsV RX9 156 RX8 yX8_hasStretch w_X8_hasStretch__z) := goodIn_r _ [2, 3, 4, 5, 6, 7, 8, 9, 5, 10, 11, 12, 13, 14, 15, 31, 32, 33, 34, 35, 36, 37, 38] rfl (by decide +kernel)
set_option maxHeartbeats 4000000 in
set_option maxRecDepth 100000 in
theorem c_X9_stretch__z (l : Launch) (D : va_G) (h0 : Nat) (i_0 : Int32) (i_1 : Int32) (i_2 : Int32) (a_tape : Nat) (a_now : Nat) (a_draft : Nat) (a_reader : Nat) (a_acts : Nat) (a_images : Nat) (a_one : Nat) (a_other : Nat) (a_third : Nat) (a_spans : Nat) (a_back : Nat) (a_span : Nat) (a_middle : Nat) (a_reached : Nat) (b_sc : Nat) (b_sp : Nat) (b_cp : Nat) (b_sn : Nat) (b_sl : Nat) : Met l yX9_stretch w_X9_stretch__z ({ frames := 3, cells := 0, slots := 0, locals := 64 }) (va_Pc [.ref h0, .int i_0, .int i_1, .int i_2] (fun U => va_P D vwCl [(h0, .inr (9, [.ref a_tape, .ref a_now, .ref a_draft, .ref a_reader, .ref a_acts, .ref a_images, .ref a_one, .ref a_other, .ref a_third, .ref a_spans, .ref a_back, .ref a_span, .ref a_middle, .ref a_reached])), (a_now, .inr (8, [.ref b_sc, .ref b_sp, .ref b_cp, .ref b_sn, .ref b_sl, .int 0, .int 0, .int 0]))] U.heap ∧ va_K D vwCl [] U)) (va_Qi (fun (r : Int32) (_ : Unit) => r = (-1000001)) (fun _ _ => True) (fun _ => False)) 0 0 (fun _ => False) := by
  refine Met.ofW (cc := cX9_stretch) (maxL := 4) (ret := (some .int)) (by decide) rfl ?_
  intro p e s m args below meth c s₁ B hml hv
  obtain ⟨rfl, hP, hK⟩ := hv
  have hx := B.exec
  have hb := B.bytes
  have hr := B.returns
  have hts := atoms_spec (ws := w_X9_stretch__z) B.pre
  have hown : s.vm.findClass RX9 = some m.cls := findClass_of_methodNamed B.named
  have hlocks := B.notSynchronized
  have hS : va_S (fun _ : Nat => False) s.heap s.heap [] := va_S.rf
  have hP : va_P D vwCl [(h0, .inr (9, [.ref a_tape, .ref a_now, .ref a_draft, .ref a_reader, .ref a_acts, .ref a_images, .ref a_one, .ref a_other, .ref a_third, .ref a_spans, .ref a_back, .ref a_span, .ref a_middle, .ref a_reached])), (a_now, .inr (8, [.ref b_sc, .ref b_sp, .ref b_cp, .ref b_sn, .ref b_sl, .int 0, .int 0, .int 0]))] s.heap := hP
  have hl := lv_entry ([.ref h0, .int i_0, .int i_1, .int i_2]) (n := 4) (Nat.le_of_ble_eq_true rfl)
  rw [lg_entry_eq]
  generalize (lg_sl ([.ref h0, .int i_0, .int i_1, .int i_2]) ++ List.replicate (4 - (lg_sl ([.ref h0, .int i_0, .int i_1, .int i_2])).length) Slot.unset).toArray = ls at hl ⊢
  have hl : lv_has ls 4 [(0, .ref h0), (1, .int i_0), (2, .int i_1), (3, .int i_2)] := hl
  obtain ⟨H, hHe⟩ : ∃ H : Heap, H = s.heap := ⟨_, rfl⟩
  rw [← hHe] at hP
  have hS : va_S (fun _ : Nat => False) s.heap H [] := by rw [hHe]; exact hS
  refine pw_heap hHe ?_
  refine lv_aload_n hx hb dX9_stretch_0 rfl (lv_at hl 0 rfl) ?_
  refine va_get (D := D) (ci := 9) (v := .ref a_now) (C := RX9) (T := TX9) (N := 14) hx hb hts (fun _ h => List.mem_cons_of_mem _ (List.mem_append_left _ (List.mem_append_right _ h))) hown hK hP 0 rfl rfl 1 (by decide) (hts (.fieldLink RX9 19 "LineCites" "now" "LLineCites$Work;") (List.mem_of_getElem? (i := 1) rfl)) (fun _ h9 => h9) rfl dX9_stretch_1 ?_
  refine lv_iload_n hx hb dX9_stretch_4 rfl (lv_at hl 1 rfl) ?_
  refine lv_iload_n hx hb dX9_stretch_5 rfl (lv_at hl 2 rfl) ?_
  have hPc := hP.sub (ws' := [(a_now, .inr (8, [.ref b_sc, .ref b_sp, .ref b_cp, .ref b_sn, .ref b_sl, .int 0, .int 0, .int 0]))]) [1] rfl
  have hKc := hK.sub (tys' := []) [] rfl
  refine va_calli (va_runV (As := [.int i_0, .int i_1]) (rest := []) ⟨hx, hb, hml, hown, hts⟩ (c_X8_hasStretch__z l D a_now i_0 i_1 b_sc b_sp b_cp b_sn b_sl) (cwV 2 hts g_X9_stretch__z_X8_hasStretch__z rfl rfl rfl (by decide +kernel) ⟨Nat.le_of_ble_eq_true rfl, Nat.le_of_ble_eq_true rfl⟩) ⟨fun a U g mk q => by obtain ⟨q0, qP, qK⟩ := q; exact ⟨q0, qP, va_K.moved (u := U) (U := U.calling g mk a) (Vm.Alike.refl U.vm) qK⟩, va_recv hKc hPc (ci := 8) (q0 := 0) rfl rfl, fun U hU hW => ⟨rfl, by rw [hU]; exact hPc, va_K.moved hW.alike hKc⟩⟩ rfl rfl hl.1 rfl (lv_room (Nat.le_of_ble_eq_true rfl)) dX9_stretch_6 ⟨Nat.le_of_ble_eq_true rfl, Nat.le_of_ble_eq_true rfl⟩) hS (fun _ _ h => h.elim) (fun _ h => h.elim) (fun r1 u t H1 locs ht hvm hw hB hz1 hk1 hS => ?_)
  have hP := pw_keep hP (fun q hq => hk1 q hq (fun h => h))
  generalize H1 = H at hP hS ⊢
  refine W.widen (k := 0) (n := 0) (Nat.le_of_ble_eq_true rfl) (Nat.le_of_ble_eq_true rfl) ?_
  obtain rfl : r1 = 0 := hw
  refine lv_if_eq (tgt := 21) hx hb dX9_stretch_9 (by decide) (fun c2 => ?_) (fun c2 => absurd (by decide) c2)
  refine lv_ldc hx hb hown (hts (.constant RX9 88 (-1000001)) (List.mem_of_getElem? (i := 16) rfl)) dX9_stretch_21 ?_
  exact W.iret (v := (-1000001)) hx hb hr (fun t ht hW => ⟨⟨(-1000001), (), rfl, rfl, trivial⟩, hS.F ht⟩) hS.2.2 dX9_stretch_23
def w_X9_as__z : List Cond := .code yX9_as cX9_as 4 (some .int) :: ([.fieldLink RX9 19 "LineCites" "now" "LLineCites$Work;", .methodLink RX9 156 yX8_hasStretch, .instanceMethod yX8_hasStretch, .selects RX8 yX8_hasStretch yX8_hasStretch, .initialized RX8, .code yX8_hasStretch cX8_hasStretch 3 (some .boolean), .methodLink RX8 47 yX8_stretchesOf, .instanceMethod yX8_stretchesOf, .selects RX8 yX8_stretchesOf yX8_stretchesOf, .code yX8_stretchesOf cX8_stretchesOf 2 (some .int), .methodLink RX8 43 yX8_hasEdition, .instanceMethod yX8_hasEdition, .selects RX8 yX8_hasEdition yX8_hasEdition, .code yX8_hasEdition cX8_hasEdition 2 (some .boolean), .fieldLink RX8 37 "LineCites$Work" "editions" "I", .constant RX9 88 (-1000001)] ++ wsX90 ++ wsX80)
set_option maxRecDepth 20000 in
theorem g_X9_as__z_X8_hasStretch__z : GoodIn w_X9_as__z (wsV RX9 156 RX8 yX8_hasStretch w_X8_hasStretch__z) := goodIn_r _ [2, 3, 4, 5, 6, 7, 8, 9, 5, 10, 11, 12, 13, 14, 15, 31, 32, 33, 34, 35, 36, 37, 38] rfl (by decide +kernel)
set_option maxHeartbeats 4000000 in
set_option maxRecDepth 100000 in
theorem c_X9_as__z (l : Launch) (D : va_G) (h0 : Nat) (i_0 : Int32) (i_1 : Int32) (i_2 : Int32) (a_tape : Nat) (a_now : Nat) (a_draft : Nat) (a_reader : Nat) (a_acts : Nat) (a_images : Nat) (a_one : Nat) (a_other : Nat) (a_third : Nat) (a_spans : Nat) (a_back : Nat) (a_span : Nat) (a_middle : Nat) (a_reached : Nat) (b_sc : Nat) (b_sp : Nat) (b_cp : Nat) (b_sn : Nat) (b_sl : Nat) : Met l yX9_as w_X9_as__z ({ frames := 3, cells := 0, slots := 0, locals := 64 }) (va_Pc [.ref h0, .int i_0, .int i_1, .int i_2] (fun U => va_P D vwCl [(h0, .inr (9, [.ref a_tape, .ref a_now, .ref a_draft, .ref a_reader, .ref a_acts, .ref a_images, .ref a_one, .ref a_other, .ref a_third, .ref a_spans, .ref a_back, .ref a_span, .ref a_middle, .ref a_reached])), (a_now, .inr (8, [.ref b_sc, .ref b_sp, .ref b_cp, .ref b_sn, .ref b_sl, .int 0, .int 0, .int 0]))] U.heap ∧ va_K D vwCl [] U)) (va_Qi (fun (r : Int32) (_ : Unit) => r = (-1000001)) (fun _ _ => True) (fun _ => False)) 0 0 (fun _ => False) := by
  refine Met.ofW (cc := cX9_as) (maxL := 4) (ret := (some .int)) (by decide) rfl ?_
  intro p e s m args below meth c s₁ B hml hv
  obtain ⟨rfl, hP, hK⟩ := hv
  have hx := B.exec
  have hb := B.bytes
  have hr := B.returns
  have hts := atoms_spec (ws := w_X9_as__z) B.pre
  have hown : s.vm.findClass RX9 = some m.cls := findClass_of_methodNamed B.named
  have hlocks := B.notSynchronized
  have hS : va_S (fun _ : Nat => False) s.heap s.heap [] := va_S.rf
  have hP : va_P D vwCl [(h0, .inr (9, [.ref a_tape, .ref a_now, .ref a_draft, .ref a_reader, .ref a_acts, .ref a_images, .ref a_one, .ref a_other, .ref a_third, .ref a_spans, .ref a_back, .ref a_span, .ref a_middle, .ref a_reached])), (a_now, .inr (8, [.ref b_sc, .ref b_sp, .ref b_cp, .ref b_sn, .ref b_sl, .int 0, .int 0, .int 0]))] s.heap := hP
  have hl := lv_entry ([.ref h0, .int i_0, .int i_1, .int i_2]) (n := 4) (Nat.le_of_ble_eq_true rfl)
  rw [lg_entry_eq]
  generalize (lg_sl ([.ref h0, .int i_0, .int i_1, .int i_2]) ++ List.replicate (4 - (lg_sl ([.ref h0, .int i_0, .int i_1, .int i_2])).length) Slot.unset).toArray = ls at hl ⊢
  have hl : lv_has ls 4 [(0, .ref h0), (1, .int i_0), (2, .int i_1), (3, .int i_2)] := hl
  obtain ⟨H, hHe⟩ : ∃ H : Heap, H = s.heap := ⟨_, rfl⟩
  rw [← hHe] at hP
  have hS : va_S (fun _ : Nat => False) s.heap H [] := by rw [hHe]; exact hS
  refine pw_heap hHe ?_
  refine lv_aload_n hx hb dX9_as_0 rfl (lv_at hl 0 rfl) ?_
  refine va_get (D := D) (ci := 9) (v := .ref a_now) (C := RX9) (T := TX9) (N := 14) hx hb hts (fun _ h => List.mem_cons_of_mem _ (List.mem_append_left _ (List.mem_append_right _ h))) hown hK hP 0 rfl rfl 1 (by decide) (hts (.fieldLink RX9 19 "LineCites" "now" "LLineCites$Work;") (List.mem_of_getElem? (i := 1) rfl)) (fun _ h9 => h9) rfl dX9_as_1 ?_
  refine lv_iload_n hx hb dX9_as_4 rfl (lv_at hl 1 rfl) ?_
  refine lv_iload_n hx hb dX9_as_5 rfl (lv_at hl 2 rfl) ?_
  have hPc := hP.sub (ws' := [(a_now, .inr (8, [.ref b_sc, .ref b_sp, .ref b_cp, .ref b_sn, .ref b_sl, .int 0, .int 0, .int 0]))]) [1] rfl
  have hKc := hK.sub (tys' := []) [] rfl
  refine va_calli (va_runV (As := [.int i_0, .int i_1]) (rest := []) ⟨hx, hb, hml, hown, hts⟩ (c_X8_hasStretch__z l D a_now i_0 i_1 b_sc b_sp b_cp b_sn b_sl) (cwV 2 hts g_X9_as__z_X8_hasStretch__z rfl rfl rfl (by decide +kernel) ⟨Nat.le_of_ble_eq_true rfl, Nat.le_of_ble_eq_true rfl⟩) ⟨fun a U g mk q => by obtain ⟨q0, qP, qK⟩ := q; exact ⟨q0, qP, va_K.moved (u := U) (U := U.calling g mk a) (Vm.Alike.refl U.vm) qK⟩, va_recv hKc hPc (ci := 8) (q0 := 0) rfl rfl, fun U hU hW => ⟨rfl, by rw [hU]; exact hPc, va_K.moved hW.alike hKc⟩⟩ rfl rfl hl.1 rfl (lv_room (Nat.le_of_ble_eq_true rfl)) dX9_as_6 ⟨Nat.le_of_ble_eq_true rfl, Nat.le_of_ble_eq_true rfl⟩) hS (fun _ _ h => h.elim) (fun _ h => h.elim) (fun r1 u t H1 locs ht hvm hw hB hz1 hk1 hS => ?_)
  have hP := pw_keep hP (fun q hq => hk1 q hq (fun h => h))
  generalize H1 = H at hP hS ⊢
  refine W.widen (k := 0) (n := 0) (Nat.le_of_ble_eq_true rfl) (Nat.le_of_ble_eq_true rfl) ?_
  obtain rfl : r1 = 0 := hw
  refine lv_if_eq (tgt := 21) hx hb dX9_as_9 (by decide) (fun c2 => ?_) (fun c2 => absurd (by decide) c2)
  refine lv_ldc hx hb hown (hts (.constant RX9 88 (-1000001)) (List.mem_of_getElem? (i := 16) rfl)) dX9_as_21 ?_
  exact W.iret (v := (-1000001)) hx hb hr (fun t ht hW => ⟨⟨(-1000001), (), rfl, rfl, trivial⟩, hS.F ht⟩) hS.2.2 dX9_as_23
def w_X9_edition__z : List Cond := .code yX9_edition cX9_edition 3 (some .int) :: ([.fieldLink RX9 19 "LineCites" "now" "LLineCites$Work;", .methodLink RX9 138 yX8_hasEdition, .instanceMethod yX8_hasEdition, .selects RX8 yX8_hasEdition yX8_hasEdition, .initialized RX8, .code yX8_hasEdition cX8_hasEdition 2 (some .boolean), .fieldLink RX8 37 "LineCites$Work" "editions" "I", .constant RX9 88 (-1000001)] ++ wsX90 ++ wsX80)
set_option maxRecDepth 20000 in
theorem g_X9_edition__z_X8_hasEdition__z : GoodIn w_X9_edition__z (wsV RX9 138 RX8 yX8_hasEdition w_X8_hasEdition__z) := goodIn_r _ [2, 3, 4, 5, 6, 7, 23, 24, 25, 26, 27, 28, 29, 30] rfl (by decide +kernel)
set_option maxHeartbeats 4000000 in
set_option maxRecDepth 100000 in
theorem c_X9_edition__z (l : Launch) (D : va_G) (h0 : Nat) (i_0 : Int32) (i_1 : Int32) (a_tape : Nat) (a_now : Nat) (a_draft : Nat) (a_reader : Nat) (a_acts : Nat) (a_images : Nat) (a_one : Nat) (a_other : Nat) (a_third : Nat) (a_spans : Nat) (a_back : Nat) (a_span : Nat) (a_middle : Nat) (a_reached : Nat) (b_sc : Nat) (b_sp : Nat) (b_cp : Nat) (b_sn : Nat) (b_sl : Nat) : Met l yX9_edition w_X9_edition__z ({ frames := 1, cells := 0, slots := 0, locals := 21 }) (va_Pc [.ref h0, .int i_0, .int i_1] (fun U => va_P D vwCl [(h0, .inr (9, [.ref a_tape, .ref a_now, .ref a_draft, .ref a_reader, .ref a_acts, .ref a_images, .ref a_one, .ref a_other, .ref a_third, .ref a_spans, .ref a_back, .ref a_span, .ref a_middle, .ref a_reached])), (a_now, .inr (8, [.ref b_sc, .ref b_sp, .ref b_cp, .ref b_sn, .ref b_sl, .int 0, .int 0, .int 0]))] U.heap ∧ va_K D vwCl [] U)) (va_Qi (fun (r : Int32) (_ : Unit) => r = (-1000001)) (fun _ _ => True) (fun _ => False)) 0 0 (fun _ => False) := by
  refine Met.ofW (cc := cX9_edition) (maxL := 3) (ret := (some .int)) (by decide) rfl ?_
  intro p e s m args below meth c s₁ B hml hv
  obtain ⟨rfl, hP, hK⟩ := hv
  have hx := B.exec
  have hb := B.bytes
  have hr := B.returns
  have hts := atoms_spec (ws := w_X9_edition__z) B.pre
  have hown : s.vm.findClass RX9 = some m.cls := findClass_of_methodNamed B.named
  have hlocks := B.notSynchronized
  have hS : va_S (fun _ : Nat => False) s.heap s.heap [] := va_S.rf
  have hP : va_P D vwCl [(h0, .inr (9, [.ref a_tape, .ref a_now, .ref a_draft, .ref a_reader, .ref a_acts, .ref a_images, .ref a_one, .ref a_other, .ref a_third, .ref a_spans, .ref a_back, .ref a_span, .ref a_middle, .ref a_reached])), (a_now, .inr (8, [.ref b_sc, .ref b_sp, .ref b_cp, .ref b_sn, .ref b_sl, .int 0, .int 0, .int 0]))] s.heap := hP
  have hl := lv_entry ([.ref h0, .int i_0, .int i_1]) (n := 3) (Nat.le_of_ble_eq_true rfl)
  rw [lg_entry_eq]
  generalize (lg_sl ([.ref h0, .int i_0, .int i_1]) ++ List.replicate (3 - (lg_sl ([.ref h0, .int i_0, .int i_1])).length) Slot.unset).toArray = ls at hl ⊢
  have hl : lv_has ls 3 [(0, .ref h0), (1, .int i_0), (2, .int i_1)] := hl
  obtain ⟨H, hHe⟩ : ∃ H : Heap, H = s.heap := ⟨_, rfl⟩
  rw [← hHe] at hP
  have hS : va_S (fun _ : Nat => False) s.heap H [] := by rw [hHe]; exact hS
  refine pw_heap hHe ?_
  refine lv_aload_n hx hb dX9_edition_0 rfl (lv_at hl 0 rfl) ?_
  refine va_get (D := D) (ci := 9) (v := .ref a_now) (C := RX9) (T := TX9) (N := 14) hx hb hts (fun _ h => List.mem_cons_of_mem _ (List.mem_append_left _ (List.mem_append_right _ h))) hown hK hP 0 rfl rfl 1 (by decide) (hts (.fieldLink RX9 19 "LineCites" "now" "LLineCites$Work;") (List.mem_of_getElem? (i := 1) rfl)) (fun _ h9 => h9) rfl dX9_edition_1 ?_
  refine lv_iload_n hx hb dX9_edition_4 rfl (lv_at hl 1 rfl) ?_
  have hPc := hP.sub (ws' := [(a_now, .inr (8, [.ref b_sc, .ref b_sp, .ref b_cp, .ref b_sn, .ref b_sl, .int 0, .int 0, .int 0]))]) [1] rfl
  have hKc := hK.sub (tys' := []) [] rfl
  refine va_calli (va_runV (As := [.int i_0]) (rest := []) ⟨hx, hb, hml, hown, hts⟩ (c_X8_hasEdition__z l D a_now i_0 b_sc b_sp b_cp b_sn b_sl) (cwV 1 hts g_X9_edition__z_X8_hasEdition__z rfl rfl rfl (by decide +kernel) ⟨Nat.le_of_ble_eq_true rfl, Nat.le_of_ble_eq_true rfl⟩) ⟨fun a U g mk q => by obtain ⟨q0, qP, qK⟩ := q; exact ⟨q0, qP, va_K.moved (u := U) (U := U.calling g mk a) (Vm.Alike.refl U.vm) qK⟩, va_recv hKc hPc (ci := 8) (q0 := 0) rfl rfl, fun U hU hW => ⟨rfl, by rw [hU]; exact hPc, va_K.moved hW.alike hKc⟩⟩ rfl rfl hl.1 rfl (lv_room (Nat.le_of_ble_eq_true rfl)) dX9_edition_5 ⟨Nat.le_of_ble_eq_true rfl, Nat.le_of_ble_eq_true rfl⟩) hS (fun _ _ h => h.elim) (fun _ h => h.elim) (fun r1 u t H1 locs ht hvm hw hB hz1 hk1 hS => ?_)
  have hP := pw_keep hP (fun q hq => hk1 q hq (fun h => h))
  generalize H1 = H at hP hS ⊢
  refine W.widen (k := 0) (n := 0) (Nat.le_of_ble_eq_true rfl) (Nat.le_of_ble_eq_true rfl) ?_
  obtain rfl : r1 = 0 := hw
  refine lv_if_eq (tgt := 21) hx hb dX9_edition_8 (by decide) (fun c2 => ?_) (fun c2 => absurd (by decide) c2)
  refine lv_ldc hx hb hown (hts (.constant RX9 88 (-1000001)) (List.mem_of_getElem? (i := 8) rfl)) dX9_edition_21 ?_
  exact W.iret (v := (-1000001)) hx hb hr (fun t ht hW => ⟨⟨(-1000001), (), rfl, rfl, trivial⟩, hS.F ht⟩) hS.2.2 dX9_edition_23
def w_X9_number__z : List Cond := .code yX9_number cX9_number 4 (some .int) :: ([.fieldLink RX9 19 "LineCites" "now" "LLineCites$Work;", .methodLink RX9 138 yX8_hasEdition, .instanceMethod yX8_hasEdition, .selects RX8 yX8_hasEdition yX8_hasEdition, .initialized RX8, .code yX8_hasEdition cX8_hasEdition 2 (some .boolean), .fieldLink RX8 37 "LineCites$Work" "editions" "I", .constant RX9 88 (-1000001)] ++ wsX90 ++ wsX80)
set_option maxRecDepth 20000 in
theorem g_X9_number__z_X8_hasEdition__z : GoodIn w_X9_number__z (wsV RX9 138 RX8 yX8_hasEdition w_X8_hasEdition__z) := goodIn_r _ [2, 3, 4, 5, 6, 7, 23, 24, 25, 26, 27, 28, 29, 30] rfl (by decide +kernel)
set_option maxHeartbeats 4000000 in
set_option maxRecDepth 100000 in
theorem c_X9_number__z (l : Launch) (D : va_G) (h0 : Nat) (i_0 : Int32) (i_1 : Int32) (i_2 : Int32) (a_tape : Nat) (a_now : Nat) (a_draft : Nat) (a_reader : Nat) (a_acts : Nat) (a_images : Nat) (a_one : Nat) (a_other : Nat) (a_third : Nat) (a_spans : Nat) (a_back : Nat) (a_span : Nat) (a_middle : Nat) (a_reached : Nat) (b_sc : Nat) (b_sp : Nat) (b_cp : Nat) (b_sn : Nat) (b_sl : Nat) : Met l yX9_number w_X9_number__z ({ frames := 1, cells := 0, slots := 0, locals := 21 }) (va_Pc [.ref h0, .int i_0, .int i_1, .int i_2] (fun U => va_P D vwCl [(h0, .inr (9, [.ref a_tape, .ref a_now, .ref a_draft, .ref a_reader, .ref a_acts, .ref a_images, .ref a_one, .ref a_other, .ref a_third, .ref a_spans, .ref a_back, .ref a_span, .ref a_middle, .ref a_reached])), (a_now, .inr (8, [.ref b_sc, .ref b_sp, .ref b_cp, .ref b_sn, .ref b_sl, .int 0, .int 0, .int 0]))] U.heap ∧ va_K D vwCl [] U)) (va_Qi (fun (r : Int32) (_ : Unit) => r = (-1000001)) (fun _ _ => True) (fun _ => False)) 0 0 (fun _ => False) := by
  refine Met.ofW (cc := cX9_number) (maxL := 4) (ret := (some .int)) (by decide) rfl ?_
  intro p e s m args below meth c s₁ B hml hv
  obtain ⟨rfl, hP, hK⟩ := hv
  have hx := B.exec
  have hb := B.bytes
  have hr := B.returns
  have hts := atoms_spec (ws := w_X9_number__z) B.pre
  have hown : s.vm.findClass RX9 = some m.cls := findClass_of_methodNamed B.named
  have hlocks := B.notSynchronized
  have hS : va_S (fun _ : Nat => False) s.heap s.heap [] := va_S.rf
  have hP : va_P D vwCl [(h0, .inr (9, [.ref a_tape, .ref a_now, .ref a_draft, .ref a_reader, .ref a_acts, .ref a_images, .ref a_one, .ref a_other, .ref a_third, .ref a_spans, .ref a_back, .ref a_span, .ref a_middle, .ref a_reached])), (a_now, .inr (8, [.ref b_sc, .ref b_sp, .ref b_cp, .ref b_sn, .ref b_sl, .int 0, .int 0, .int 0]))] s.heap := hP
  have hl := lv_entry ([.ref h0, .int i_0, .int i_1, .int i_2]) (n := 4) (Nat.le_of_ble_eq_true rfl)
  rw [lg_entry_eq]
  generalize (lg_sl ([.ref h0, .int i_0, .int i_1, .int i_2]) ++ List.replicate (4 - (lg_sl ([.ref h0, .int i_0, .int i_1, .int i_2])).length) Slot.unset).toArray = ls at hl ⊢
  have hl : lv_has ls 4 [(0, .ref h0), (1, .int i_0), (2, .int i_1), (3, .int i_2)] := hl
  obtain ⟨H, hHe⟩ : ∃ H : Heap, H = s.heap := ⟨_, rfl⟩
  rw [← hHe] at hP
  have hS : va_S (fun _ : Nat => False) s.heap H [] := by rw [hHe]; exact hS
  refine pw_heap hHe ?_
  refine lv_aload_n hx hb dX9_number_0 rfl (lv_at hl 0 rfl) ?_
  refine va_get (D := D) (ci := 9) (v := .ref a_now) (C := RX9) (T := TX9) (N := 14) hx hb hts (fun _ h => List.mem_cons_of_mem _ (List.mem_append_left _ (List.mem_append_right _ h))) hown hK hP 0 rfl rfl 1 (by decide) (hts (.fieldLink RX9 19 "LineCites" "now" "LLineCites$Work;") (List.mem_of_getElem? (i := 1) rfl)) (fun _ h9 => h9) rfl dX9_number_1 ?_
  refine lv_iload_n hx hb dX9_number_4 rfl (lv_at hl 1 rfl) ?_
  have hPc := hP.sub (ws' := [(a_now, .inr (8, [.ref b_sc, .ref b_sp, .ref b_cp, .ref b_sn, .ref b_sl, .int 0, .int 0, .int 0]))]) [1] rfl
  have hKc := hK.sub (tys' := []) [] rfl
  refine va_calli (va_runV (As := [.int i_0]) (rest := []) ⟨hx, hb, hml, hown, hts⟩ (c_X8_hasEdition__z l D a_now i_0 b_sc b_sp b_cp b_sn b_sl) (cwV 1 hts g_X9_number__z_X8_hasEdition__z rfl rfl rfl (by decide +kernel) ⟨Nat.le_of_ble_eq_true rfl, Nat.le_of_ble_eq_true rfl⟩) ⟨fun a U g mk q => by obtain ⟨q0, qP, qK⟩ := q; exact ⟨q0, qP, va_K.moved (u := U) (U := U.calling g mk a) (Vm.Alike.refl U.vm) qK⟩, va_recv hKc hPc (ci := 8) (q0 := 0) rfl rfl, fun U hU hW => ⟨rfl, by rw [hU]; exact hPc, va_K.moved hW.alike hKc⟩⟩ rfl rfl hl.1 rfl (lv_room (Nat.le_of_ble_eq_true rfl)) dX9_number_5 ⟨Nat.le_of_ble_eq_true rfl, Nat.le_of_ble_eq_true rfl⟩) hS (fun _ _ h => h.elim) (fun _ h => h.elim) (fun r1 u t H1 locs ht hvm hw hB hz1 hk1 hS => ?_)
  have hP := pw_keep hP (fun q hq => hk1 q hq (fun h => h))
  generalize H1 = H at hP hS ⊢
  refine W.widen (k := 0) (n := 0) (Nat.le_of_ble_eq_true rfl) (Nat.le_of_ble_eq_true rfl) ?_
  obtain rfl : r1 = 0 := hw
  refine lv_if_eq (tgt := 31) hx hb dX9_number_8 (by decide) (fun c2 => ?_) (fun c2 => absurd (by decide) c2)
  refine lv_ldc hx hb hown (hts (.constant RX9 88 (-1000001)) (List.mem_of_getElem? (i := 8) rfl)) dX9_number_31 ?_
  exact W.iret (v := (-1000001)) hx hb hr (fun t ht hW => ⟨⟨(-1000001), (), rfl, rfl, trivial⟩, hS.F ht⟩) hS.2.2 dX9_number_33
def w_X9_meant__z : List Cond := .code yX9_meant cX9_meant 4 (some .int) :: ([.fieldLink RX9 19 "LineCites" "now" "LLineCites$Work;", .methodLink RX9 138 yX8_hasEdition, .instanceMethod yX8_hasEdition, .selects RX8 yX8_hasEdition yX8_hasEdition, .initialized RX8, .code yX8_hasEdition cX8_hasEdition 2 (some .boolean), .fieldLink RX8 37 "LineCites$Work" "editions" "I", .constant RX9 88 (-1000001)] ++ wsX90 ++ wsX80)
set_option maxRecDepth 20000 in
theorem g_X9_meant__z_X8_hasEdition__z : GoodIn w_X9_meant__z (wsV RX9 138 RX8 yX8_hasEdition w_X8_hasEdition__z) := goodIn_r _ [2, 3, 4, 5, 6, 7, 23, 24, 25, 26, 27, 28, 29, 30] rfl (by decide +kernel)
set_option maxHeartbeats 4000000 in
set_option maxRecDepth 100000 in
theorem c_X9_meant__z (l : Launch) (D : va_G) (h0 : Nat) (i_0 : Int32) (i_1 : Int32) (i_2 : Int32) (a_tape : Nat) (a_now : Nat) (a_draft : Nat) (a_reader : Nat) (a_acts : Nat) (a_images : Nat) (a_one : Nat) (a_other : Nat) (a_third : Nat) (a_spans : Nat) (a_back : Nat) (a_span : Nat) (a_middle : Nat) (a_reached : Nat) (b_sc : Nat) (b_sp : Nat) (b_cp : Nat) (b_sn : Nat) (b_sl : Nat) : Met l yX9_meant w_X9_meant__z ({ frames := 1, cells := 0, slots := 0, locals := 21 }) (va_Pc [.ref h0, .int i_0, .int i_1, .int i_2] (fun U => va_P D vwCl [(h0, .inr (9, [.ref a_tape, .ref a_now, .ref a_draft, .ref a_reader, .ref a_acts, .ref a_images, .ref a_one, .ref a_other, .ref a_third, .ref a_spans, .ref a_back, .ref a_span, .ref a_middle, .ref a_reached])), (a_now, .inr (8, [.ref b_sc, .ref b_sp, .ref b_cp, .ref b_sn, .ref b_sl, .int 0, .int 0, .int 0]))] U.heap ∧ va_K D vwCl [] U)) (va_Qi (fun (r : Int32) (_ : Unit) => r = (-1000001)) (fun _ _ => True) (fun _ => False)) 0 0 (fun _ => False) := by
  refine Met.ofW (cc := cX9_meant) (maxL := 4) (ret := (some .int)) (by decide) rfl ?_
  intro p e s m args below meth c s₁ B hml hv
  obtain ⟨rfl, hP, hK⟩ := hv
  have hx := B.exec
  have hb := B.bytes
  have hr := B.returns
  have hts := atoms_spec (ws := w_X9_meant__z) B.pre
  have hown : s.vm.findClass RX9 = some m.cls := findClass_of_methodNamed B.named
  have hlocks := B.notSynchronized
  have hS : va_S (fun _ : Nat => False) s.heap s.heap [] := va_S.rf
  have hP : va_P D vwCl [(h0, .inr (9, [.ref a_tape, .ref a_now, .ref a_draft, .ref a_reader, .ref a_acts, .ref a_images, .ref a_one, .ref a_other, .ref a_third, .ref a_spans, .ref a_back, .ref a_span, .ref a_middle, .ref a_reached])), (a_now, .inr (8, [.ref b_sc, .ref b_sp, .ref b_cp, .ref b_sn, .ref b_sl, .int 0, .int 0, .int 0]))] s.heap := hP
  have hl := lv_entry ([.ref h0, .int i_0, .int i_1, .int i_2]) (n := 4) (Nat.le_of_ble_eq_true rfl)
  rw [lg_entry_eq]
  generalize (lg_sl ([.ref h0, .int i_0, .int i_1, .int i_2]) ++ List.replicate (4 - (lg_sl ([.ref h0, .int i_0, .int i_1, .int i_2])).length) Slot.unset).toArray = ls at hl ⊢
  have hl : lv_has ls 4 [(0, .ref h0), (1, .int i_0), (2, .int i_1), (3, .int i_2)] := hl
  obtain ⟨H, hHe⟩ : ∃ H : Heap, H = s.heap := ⟨_, rfl⟩
  rw [← hHe] at hP
  have hS : va_S (fun _ : Nat => False) s.heap H [] := by rw [hHe]; exact hS
  refine pw_heap hHe ?_
  refine lv_aload_n hx hb dX9_meant_0 rfl (lv_at hl 0 rfl) ?_
  refine va_get (D := D) (ci := 9) (v := .ref a_now) (C := RX9) (T := TX9) (N := 14) hx hb hts (fun _ h => List.mem_cons_of_mem _ (List.mem_append_left _ (List.mem_append_right _ h))) hown hK hP 0 rfl rfl 1 (by decide) (hts (.fieldLink RX9 19 "LineCites" "now" "LLineCites$Work;") (List.mem_of_getElem? (i := 1) rfl)) (fun _ h9 => h9) rfl dX9_meant_1 ?_
  refine lv_iload_n hx hb dX9_meant_4 rfl (lv_at hl 1 rfl) ?_
  have hPc := hP.sub (ws' := [(a_now, .inr (8, [.ref b_sc, .ref b_sp, .ref b_cp, .ref b_sn, .ref b_sl, .int 0, .int 0, .int 0]))]) [1] rfl
  have hKc := hK.sub (tys' := []) [] rfl
  refine va_calli (va_runV (As := [.int i_0]) (rest := []) ⟨hx, hb, hml, hown, hts⟩ (c_X8_hasEdition__z l D a_now i_0 b_sc b_sp b_cp b_sn b_sl) (cwV 1 hts g_X9_meant__z_X8_hasEdition__z rfl rfl rfl (by decide +kernel) ⟨Nat.le_of_ble_eq_true rfl, Nat.le_of_ble_eq_true rfl⟩) ⟨fun a U g mk q => by obtain ⟨q0, qP, qK⟩ := q; exact ⟨q0, qP, va_K.moved (u := U) (U := U.calling g mk a) (Vm.Alike.refl U.vm) qK⟩, va_recv hKc hPc (ci := 8) (q0 := 0) rfl rfl, fun U hU hW => ⟨rfl, by rw [hU]; exact hPc, va_K.moved hW.alike hKc⟩⟩ rfl rfl hl.1 rfl (lv_room (Nat.le_of_ble_eq_true rfl)) dX9_meant_5 ⟨Nat.le_of_ble_eq_true rfl, Nat.le_of_ble_eq_true rfl⟩) hS (fun _ _ h => h.elim) (fun _ h => h.elim) (fun r1 u t H1 locs ht hvm hw hB hz1 hk1 hS => ?_)
  have hP := pw_keep hP (fun q hq => hk1 q hq (fun h => h))
  generalize H1 = H at hP hS ⊢
  refine W.widen (k := 0) (n := 0) (Nat.le_of_ble_eq_true rfl) (Nat.le_of_ble_eq_true rfl) ?_
  obtain rfl : r1 = 0 := hw
  refine lv_if_eq (tgt := 18) hx hb dX9_meant_8 (by decide) (fun c2 => ?_) (fun c2 => absurd (by decide) c2)
  refine lv_ldc hx hb hown (hts (.constant RX9 88 (-1000001)) (List.mem_of_getElem? (i := 8) rfl)) dX9_meant_18 ?_
  exact W.iret (v := (-1000001)) hx hb hr (fun t ht hW => ⟨⟨(-1000001), (), rfl, rfl, trivial⟩, hS.F ht⟩) hS.2.2 dX9_meant_20
def w_X9_left__z : List Cond := .code yX9_left cX9_left 6 (some .int) :: ([.fieldLink RX9 19 "LineCites" "now" "LLineCites$Work;", .methodLink RX9 138 yX8_hasEdition, .instanceMethod yX8_hasEdition, .selects RX8 yX8_hasEdition yX8_hasEdition, .initialized RX8, .code yX8_hasEdition cX8_hasEdition 2 (some .boolean), .fieldLink RX8 37 "LineCites$Work" "editions" "I", .constant RX9 88 (-1000001)] ++ wsX90 ++ wsX80)
set_option maxRecDepth 20000 in
theorem g_X9_left__z_X8_hasEdition__z : GoodIn w_X9_left__z (wsV RX9 138 RX8 yX8_hasEdition w_X8_hasEdition__z) := goodIn_r _ [2, 3, 4, 5, 6, 7, 23, 24, 25, 26, 27, 28, 29, 30] rfl (by decide +kernel)
set_option maxHeartbeats 4000000 in
set_option maxRecDepth 100000 in
theorem c_X9_left__z (l : Launch) (D : va_G) (h0 : Nat) (i_0 : Int32) (i_1 : Int32) (i_2 : Int32) (a_tape : Nat) (a_now : Nat) (a_draft : Nat) (a_reader : Nat) (a_acts : Nat) (a_images : Nat) (a_one : Nat) (a_other : Nat) (a_third : Nat) (a_spans : Nat) (a_back : Nat) (a_span : Nat) (a_middle : Nat) (a_reached : Nat) (b_sc : Nat) (b_sp : Nat) (b_cp : Nat) (b_sn : Nat) (b_sl : Nat) : Met l yX9_left w_X9_left__z ({ frames := 1, cells := 0, slots := 0, locals := 21 }) (va_Pc [.ref h0, .int i_0, .int i_1, .int i_2] (fun U => va_P D vwCl [(h0, .inr (9, [.ref a_tape, .ref a_now, .ref a_draft, .ref a_reader, .ref a_acts, .ref a_images, .ref a_one, .ref a_other, .ref a_third, .ref a_spans, .ref a_back, .ref a_span, .ref a_middle, .ref a_reached])), (a_now, .inr (8, [.ref b_sc, .ref b_sp, .ref b_cp, .ref b_sn, .ref b_sl, .int 0, .int 0, .int 0]))] U.heap ∧ va_K D vwCl [] U)) (va_Qi (fun (r : Int32) (_ : Unit) => r = (-1000001)) (fun _ _ => True) (fun _ => False)) 0 0 (fun _ => False) := by
  refine Met.ofW (cc := cX9_left) (maxL := 6) (ret := (some .int)) (by decide) rfl ?_
  intro p e s m args below meth c s₁ B hml hv
  obtain ⟨rfl, hP, hK⟩ := hv
  have hx := B.exec
  have hb := B.bytes
  have hr := B.returns
  have hts := atoms_spec (ws := w_X9_left__z) B.pre
  have hown : s.vm.findClass RX9 = some m.cls := findClass_of_methodNamed B.named
  have hlocks := B.notSynchronized
  have hS : va_S (fun _ : Nat => False) s.heap s.heap [] := va_S.rf
  have hP : va_P D vwCl [(h0, .inr (9, [.ref a_tape, .ref a_now, .ref a_draft, .ref a_reader, .ref a_acts, .ref a_images, .ref a_one, .ref a_other, .ref a_third, .ref a_spans, .ref a_back, .ref a_span, .ref a_middle, .ref a_reached])), (a_now, .inr (8, [.ref b_sc, .ref b_sp, .ref b_cp, .ref b_sn, .ref b_sl, .int 0, .int 0, .int 0]))] s.heap := hP
  have hl := lv_entry ([.ref h0, .int i_0, .int i_1, .int i_2]) (n := 6) (Nat.le_of_ble_eq_true rfl)
  rw [lg_entry_eq]
  generalize (lg_sl ([.ref h0, .int i_0, .int i_1, .int i_2]) ++ List.replicate (6 - (lg_sl ([.ref h0, .int i_0, .int i_1, .int i_2])).length) Slot.unset).toArray = ls at hl ⊢
  have hl : lv_has ls 6 [(0, .ref h0), (1, .int i_0), (2, .int i_1), (3, .int i_2)] := hl
  obtain ⟨H, hHe⟩ : ∃ H : Heap, H = s.heap := ⟨_, rfl⟩
  rw [← hHe] at hP
  have hS : va_S (fun _ : Nat => False) s.heap H [] := by rw [hHe]; exact hS
  refine pw_heap hHe ?_
  refine lv_aload_n hx hb dX9_left_0 rfl (lv_at hl 0 rfl) ?_
  refine va_get (D := D) (ci := 9) (v := .ref a_now) (C := RX9) (T := TX9) (N := 14) hx hb hts (fun _ h => List.mem_cons_of_mem _ (List.mem_append_left _ (List.mem_append_right _ h))) hown hK hP 0 rfl rfl 1 (by decide) (hts (.fieldLink RX9 19 "LineCites" "now" "LLineCites$Work;") (List.mem_of_getElem? (i := 1) rfl)) (fun _ h9 => h9) rfl dX9_left_1 ?_
  refine lv_iload_n hx hb dX9_left_4 rfl (lv_at hl 1 rfl) ?_
  have hPc := hP.sub (ws' := [(a_now, .inr (8, [.ref b_sc, .ref b_sp, .ref b_cp, .ref b_sn, .ref b_sl, .int 0, .int 0, .int 0]))]) [1] rfl
  have hKc := hK.sub (tys' := []) [] rfl
  refine va_calli (va_runV (As := [.int i_0]) (rest := []) ⟨hx, hb, hml, hown, hts⟩ (c_X8_hasEdition__z l D a_now i_0 b_sc b_sp b_cp b_sn b_sl) (cwV 1 hts g_X9_left__z_X8_hasEdition__z rfl rfl rfl (by decide +kernel) ⟨Nat.le_of_ble_eq_true rfl, Nat.le_of_ble_eq_true rfl⟩) ⟨fun a U g mk q => by obtain ⟨q0, qP, qK⟩ := q; exact ⟨q0, qP, va_K.moved (u := U) (U := U.calling g mk a) (Vm.Alike.refl U.vm) qK⟩, va_recv hKc hPc (ci := 8) (q0 := 0) rfl rfl, fun U hU hW => ⟨rfl, by rw [hU]; exact hPc, va_K.moved hW.alike hKc⟩⟩ rfl rfl hl.1 rfl (lv_room (Nat.le_of_ble_eq_true rfl)) dX9_left_5 ⟨Nat.le_of_ble_eq_true rfl, Nat.le_of_ble_eq_true rfl⟩) hS (fun _ _ h => h.elim) (fun _ h => h.elim) (fun r1 u t H1 locs ht hvm hw hB hz1 hk1 hS => ?_)
  have hP := pw_keep hP (fun q hq => hk1 q hq (fun h => h))
  generalize H1 = H at hP hS ⊢
  refine W.widen (k := 0) (n := 0) (Nat.le_of_ble_eq_true rfl) (Nat.le_of_ble_eq_true rfl) ?_
  obtain rfl : r1 = 0 := hw
  refine lv_if_eq (tgt := 24) hx hb dX9_left_8 (by decide) (fun c2 => ?_) (fun c2 => absurd (by decide) c2)
  refine lv_ldc hx hb hown (hts (.constant RX9 88 (-1000001)) (List.mem_of_getElem? (i := 8) rfl)) dX9_left_24 ?_
  exact W.iret (v := (-1000001)) hx hb hr (fun t ht hW => ⟨⟨(-1000001), (), rfl, rfl, trivial⟩, hS.F ht⟩) hS.2.2 dX9_left_26
def w_X9_in__z : List Cond := .code yX9_in cX9_in 5 (some .int) :: ([.fieldLink RX9 19 "LineCites" "now" "LLineCites$Work;", .methodLink RX9 138 yX8_hasEdition, .instanceMethod yX8_hasEdition, .selects RX8 yX8_hasEdition yX8_hasEdition, .initialized RX8, .code yX8_hasEdition cX8_hasEdition 2 (some .boolean), .fieldLink RX8 37 "LineCites$Work" "editions" "I", .constant RX9 88 (-1000001)] ++ wsX90 ++ wsX80)
set_option maxRecDepth 20000 in
theorem g_X9_in__z_X8_hasEdition__z : GoodIn w_X9_in__z (wsV RX9 138 RX8 yX8_hasEdition w_X8_hasEdition__z) := goodIn_r _ [2, 3, 4, 5, 6, 7, 23, 24, 25, 26, 27, 28, 29, 30] rfl (by decide +kernel)
set_option maxHeartbeats 4000000 in
set_option maxRecDepth 100000 in
theorem c_X9_in__z (l : Launch) (D : va_G) (h0 : Nat) (i_0 : Int32) (i_1 : Int32) (i_2 : Int32) (i_3 : Int32) (a_tape : Nat) (a_now : Nat) (a_draft : Nat) (a_reader : Nat) (a_acts : Nat) (a_images : Nat) (a_one : Nat) (a_other : Nat) (a_third : Nat) (a_spans : Nat) (a_back : Nat) (a_span : Nat) (a_middle : Nat) (a_reached : Nat) (b_sc : Nat) (b_sp : Nat) (b_cp : Nat) (b_sn : Nat) (b_sl : Nat) : Met l yX9_in w_X9_in__z ({ frames := 1, cells := 0, slots := 0, locals := 21 }) (va_Pc [.ref h0, .int i_0, .int i_1, .int i_2, .int i_3] (fun U => va_P D vwCl [(h0, .inr (9, [.ref a_tape, .ref a_now, .ref a_draft, .ref a_reader, .ref a_acts, .ref a_images, .ref a_one, .ref a_other, .ref a_third, .ref a_spans, .ref a_back, .ref a_span, .ref a_middle, .ref a_reached])), (a_now, .inr (8, [.ref b_sc, .ref b_sp, .ref b_cp, .ref b_sn, .ref b_sl, .int 0, .int 0, .int 0]))] U.heap ∧ va_K D vwCl [] U)) (va_Qi (fun (r : Int32) (_ : Unit) => r = (-1000001)) (fun _ _ => True) (fun _ => False)) 0 0 (fun _ => False) := by
  refine Met.ofW (cc := cX9_in) (maxL := 5) (ret := (some .int)) (by decide) rfl ?_
  intro p e s m args below meth c s₁ B hml hv
  obtain ⟨rfl, hP, hK⟩ := hv
  have hx := B.exec
  have hb := B.bytes
  have hr := B.returns
  have hts := atoms_spec (ws := w_X9_in__z) B.pre
  have hown : s.vm.findClass RX9 = some m.cls := findClass_of_methodNamed B.named
  have hlocks := B.notSynchronized
  have hS : va_S (fun _ : Nat => False) s.heap s.heap [] := va_S.rf
  have hP : va_P D vwCl [(h0, .inr (9, [.ref a_tape, .ref a_now, .ref a_draft, .ref a_reader, .ref a_acts, .ref a_images, .ref a_one, .ref a_other, .ref a_third, .ref a_spans, .ref a_back, .ref a_span, .ref a_middle, .ref a_reached])), (a_now, .inr (8, [.ref b_sc, .ref b_sp, .ref b_cp, .ref b_sn, .ref b_sl, .int 0, .int 0, .int 0]))] s.heap := hP
  have hl := lv_entry ([.ref h0, .int i_0, .int i_1, .int i_2, .int i_3]) (n := 5) (Nat.le_of_ble_eq_true rfl)
  rw [lg_entry_eq]
  generalize (lg_sl ([.ref h0, .int i_0, .int i_1, .int i_2, .int i_3]) ++ List.replicate (5 - (lg_sl ([.ref h0, .int i_0, .int i_1, .int i_2, .int i_3])).length) Slot.unset).toArray = ls at hl ⊢
  have hl : lv_has ls 5 [(0, .ref h0), (1, .int i_0), (2, .int i_1), (3, .int i_2), (4, .int i_3)] := hl
  obtain ⟨H, hHe⟩ : ∃ H : Heap, H = s.heap := ⟨_, rfl⟩
  rw [← hHe] at hP
  have hS : va_S (fun _ : Nat => False) s.heap H [] := by rw [hHe]; exact hS
  refine pw_heap hHe ?_
  refine lv_aload_n hx hb dX9_in_0 rfl (lv_at hl 0 rfl) ?_
  refine va_get (D := D) (ci := 9) (v := .ref a_now) (C := RX9) (T := TX9) (N := 14) hx hb hts (fun _ h => List.mem_cons_of_mem _ (List.mem_append_left _ (List.mem_append_right _ h))) hown hK hP 0 rfl rfl 1 (by decide) (hts (.fieldLink RX9 19 "LineCites" "now" "LLineCites$Work;") (List.mem_of_getElem? (i := 1) rfl)) (fun _ h9 => h9) rfl dX9_in_1 ?_
  refine lv_iload_n hx hb dX9_in_4 rfl (lv_at hl 1 rfl) ?_
  have hPc := hP.sub (ws' := [(a_now, .inr (8, [.ref b_sc, .ref b_sp, .ref b_cp, .ref b_sn, .ref b_sl, .int 0, .int 0, .int 0]))]) [1] rfl
  have hKc := hK.sub (tys' := []) [] rfl
  refine va_calli (va_runV (As := [.int i_0]) (rest := []) ⟨hx, hb, hml, hown, hts⟩ (c_X8_hasEdition__z l D a_now i_0 b_sc b_sp b_cp b_sn b_sl) (cwV 1 hts g_X9_in__z_X8_hasEdition__z rfl rfl rfl (by decide +kernel) ⟨Nat.le_of_ble_eq_true rfl, Nat.le_of_ble_eq_true rfl⟩) ⟨fun a U g mk q => by obtain ⟨q0, qP, qK⟩ := q; exact ⟨q0, qP, va_K.moved (u := U) (U := U.calling g mk a) (Vm.Alike.refl U.vm) qK⟩, va_recv hKc hPc (ci := 8) (q0 := 0) rfl rfl, fun U hU hW => ⟨rfl, by rw [hU]; exact hPc, va_K.moved hW.alike hKc⟩⟩ rfl rfl hl.1 rfl (lv_room (Nat.le_of_ble_eq_true rfl)) dX9_in_5 ⟨Nat.le_of_ble_eq_true rfl, Nat.le_of_ble_eq_true rfl⟩) hS (fun _ _ h => h.elim) (fun _ h => h.elim) (fun r1 u t H1 locs ht hvm hw hB hz1 hk1 hS => ?_)
  have hP := pw_keep hP (fun q hq => hk1 q hq (fun h => h))
  generalize H1 = H at hP hS ⊢
  refine W.widen (k := 0) (n := 0) (Nat.le_of_ble_eq_true rfl) (Nat.le_of_ble_eq_true rfl) ?_
  obtain rfl : r1 = 0 := hw
  refine lv_if_eq (tgt := 29) hx hb dX9_in_8 (by decide) (fun c2 => ?_) (fun c2 => absurd (by decide) c2)
  refine lv_ldc hx hb hown (hts (.constant RX9 88 (-1000001)) (List.mem_of_getElem? (i := 8) rfl)) dX9_in_29 ?_
  exact W.iret (v := (-1000001)) hx hb hr (fun t ht hW => ⟨⟨(-1000001), (), rfl, rfl, trivial⟩, hS.F ht⟩) hS.2.2 dX9_in_31
def w_X9_through__z : List Cond := .code yX9_through cX9_through 6 (some .int) :: ([.fieldLink RX9 19 "LineCites" "now" "LLineCites$Work;", .methodLink RX9 138 yX8_hasEdition, .instanceMethod yX8_hasEdition, .selects RX8 yX8_hasEdition yX8_hasEdition, .initialized RX8, .code yX8_hasEdition cX8_hasEdition 2 (some .boolean), .fieldLink RX8 37 "LineCites$Work" "editions" "I", .constant RX9 88 (-1000001)] ++ wsX90 ++ wsX80)
set_option maxRecDepth 20000 in
theorem g_X9_through__z_X8_hasEdition__z : GoodIn w_X9_through__z (wsV RX9 138 RX8 yX8_hasEdition w_X8_hasEdition__z) := goodIn_r _ [2, 3, 4, 5, 6, 7, 23, 24, 25, 26, 27, 28, 29, 30] rfl (by decide +kernel)
set_option maxHeartbeats 4000000 in
set_option maxRecDepth 100000 in
theorem c_X9_through__z (l : Launch) (D : va_G) (h0 : Nat) (i_0 : Int32) (i_1 : Int32) (i_2 : Int32) (i_3 : Int32) (i_4 : Int32) (a_tape : Nat) (a_now : Nat) (a_draft : Nat) (a_reader : Nat) (a_acts : Nat) (a_images : Nat) (a_one : Nat) (a_other : Nat) (a_third : Nat) (a_spans : Nat) (a_back : Nat) (a_span : Nat) (a_middle : Nat) (a_reached : Nat) (b_sc : Nat) (b_sp : Nat) (b_cp : Nat) (b_sn : Nat) (b_sl : Nat) : Met l yX9_through w_X9_through__z ({ frames := 1, cells := 0, slots := 0, locals := 21 }) (va_Pc [.ref h0, .int i_0, .int i_1, .int i_2, .int i_3, .int i_4] (fun U => va_P D vwCl [(h0, .inr (9, [.ref a_tape, .ref a_now, .ref a_draft, .ref a_reader, .ref a_acts, .ref a_images, .ref a_one, .ref a_other, .ref a_third, .ref a_spans, .ref a_back, .ref a_span, .ref a_middle, .ref a_reached])), (a_now, .inr (8, [.ref b_sc, .ref b_sp, .ref b_cp, .ref b_sn, .ref b_sl, .int 0, .int 0, .int 0]))] U.heap ∧ va_K D vwCl [] U)) (va_Qi (fun (r : Int32) (_ : Unit) => r = (-1000001)) (fun _ _ => True) (fun _ => False)) 0 0 (fun _ => False) := by
  refine Met.ofW (cc := cX9_through) (maxL := 6) (ret := (some .int)) (by decide) rfl ?_
  intro p e s m args below meth c s₁ B hml hv
  obtain ⟨rfl, hP, hK⟩ := hv
  have hx := B.exec
  have hb := B.bytes
  have hr := B.returns
  have hts := atoms_spec (ws := w_X9_through__z) B.pre
  have hown : s.vm.findClass RX9 = some m.cls := findClass_of_methodNamed B.named
  have hlocks := B.notSynchronized
  have hS : va_S (fun _ : Nat => False) s.heap s.heap [] := va_S.rf
  have hP : va_P D vwCl [(h0, .inr (9, [.ref a_tape, .ref a_now, .ref a_draft, .ref a_reader, .ref a_acts, .ref a_images, .ref a_one, .ref a_other, .ref a_third, .ref a_spans, .ref a_back, .ref a_span, .ref a_middle, .ref a_reached])), (a_now, .inr (8, [.ref b_sc, .ref b_sp, .ref b_cp, .ref b_sn, .ref b_sl, .int 0, .int 0, .int 0]))] s.heap := hP
  have hl := lv_entry ([.ref h0, .int i_0, .int i_1, .int i_2, .int i_3, .int i_4]) (n := 6) (Nat.le_of_ble_eq_true rfl)
  rw [lg_entry_eq]
  generalize (lg_sl ([.ref h0, .int i_0, .int i_1, .int i_2, .int i_3, .int i_4]) ++ List.replicate (6 - (lg_sl ([.ref h0, .int i_0, .int i_1, .int i_2, .int i_3, .int i_4])).length) Slot.unset).toArray = ls at hl ⊢
  have hl : lv_has ls 6 [(0, .ref h0), (1, .int i_0), (2, .int i_1), (3, .int i_2), (4, .int i_3), (5, .int i_4)] := hl
  obtain ⟨H, hHe⟩ : ∃ H : Heap, H = s.heap := ⟨_, rfl⟩
  rw [← hHe] at hP
  have hS : va_S (fun _ : Nat => False) s.heap H [] := by rw [hHe]; exact hS
  refine pw_heap hHe ?_
  refine lv_aload_n hx hb dX9_through_0 rfl (lv_at hl 0 rfl) ?_
  refine va_get (D := D) (ci := 9) (v := .ref a_now) (C := RX9) (T := TX9) (N := 14) hx hb hts (fun _ h => List.mem_cons_of_mem _ (List.mem_append_left _ (List.mem_append_right _ h))) hown hK hP 0 rfl rfl 1 (by decide) (hts (.fieldLink RX9 19 "LineCites" "now" "LLineCites$Work;") (List.mem_of_getElem? (i := 1) rfl)) (fun _ h9 => h9) rfl dX9_through_1 ?_
  refine lv_iload_n hx hb dX9_through_4 rfl (lv_at hl 1 rfl) ?_
  have hPc := hP.sub (ws' := [(a_now, .inr (8, [.ref b_sc, .ref b_sp, .ref b_cp, .ref b_sn, .ref b_sl, .int 0, .int 0, .int 0]))]) [1] rfl
  have hKc := hK.sub (tys' := []) [] rfl
  refine va_calli (va_runV (As := [.int i_0]) (rest := []) ⟨hx, hb, hml, hown, hts⟩ (c_X8_hasEdition__z l D a_now i_0 b_sc b_sp b_cp b_sn b_sl) (cwV 1 hts g_X9_through__z_X8_hasEdition__z rfl rfl rfl (by decide +kernel) ⟨Nat.le_of_ble_eq_true rfl, Nat.le_of_ble_eq_true rfl⟩) ⟨fun a U g mk q => by obtain ⟨q0, qP, qK⟩ := q; exact ⟨q0, qP, va_K.moved (u := U) (U := U.calling g mk a) (Vm.Alike.refl U.vm) qK⟩, va_recv hKc hPc (ci := 8) (q0 := 0) rfl rfl, fun U hU hW => ⟨rfl, by rw [hU]; exact hPc, va_K.moved hW.alike hKc⟩⟩ rfl rfl hl.1 rfl (lv_room (Nat.le_of_ble_eq_true rfl)) dX9_through_5 ⟨Nat.le_of_ble_eq_true rfl, Nat.le_of_ble_eq_true rfl⟩) hS (fun _ _ h => h.elim) (fun _ h => h.elim) (fun r1 u t H1 locs ht hvm hw hB hz1 hk1 hS => ?_)
  have hP := pw_keep hP (fun q hq => hk1 q hq (fun h => h))
  generalize H1 = H at hP hS ⊢
  refine W.widen (k := 0) (n := 0) (Nat.le_of_ble_eq_true rfl) (Nat.le_of_ble_eq_true rfl) ?_
  obtain rfl : r1 = 0 := hw
  refine lv_if_eq (tgt := 34) hx hb dX9_through_8 (by decide) (fun c2 => ?_) (fun c2 => absurd (by decide) c2)
  refine lv_ldc hx hb hown (hts (.constant RX9 88 (-1000001)) (List.mem_of_getElem? (i := 8) rfl)) dX9_through_34 ?_
  exact W.iret (v := (-1000001)) hx hb hr (fun t ht hW => ⟨⟨(-1000001), (), rfl, rfl, trivial⟩, hS.F ht⟩) hS.2.2 dX9_through_36
def w_X9_shift__z : List Cond := .code yX9_shift cX9_shift 7 (some .int) :: ([.fieldLink RX9 19 "LineCites" "now" "LLineCites$Work;", .methodLink RX9 138 yX8_hasEdition, .instanceMethod yX8_hasEdition, .selects RX8 yX8_hasEdition yX8_hasEdition, .initialized RX8, .code yX8_hasEdition cX8_hasEdition 2 (some .boolean), .fieldLink RX8 37 "LineCites$Work" "editions" "I", .constant RX9 88 (-1000001)] ++ wsX90 ++ wsX80)
set_option maxRecDepth 20000 in
theorem g_X9_shift__z_X8_hasEdition__z : GoodIn w_X9_shift__z (wsV RX9 138 RX8 yX8_hasEdition w_X8_hasEdition__z) := goodIn_r _ [2, 3, 4, 5, 6, 7, 23, 24, 25, 26, 27, 28, 29, 30] rfl (by decide +kernel)
set_option maxHeartbeats 4000000 in
set_option maxRecDepth 100000 in
theorem c_X9_shift__z (l : Launch) (D : va_G) (h0 : Nat) (i_0 : Int32) (i_1 : Int32) (i_2 : Int32) (i_3 : Int32) (a_tape : Nat) (a_now : Nat) (a_draft : Nat) (a_reader : Nat) (a_acts : Nat) (a_images : Nat) (a_one : Nat) (a_other : Nat) (a_third : Nat) (a_spans : Nat) (a_back : Nat) (a_span : Nat) (a_middle : Nat) (a_reached : Nat) (b_sc : Nat) (b_sp : Nat) (b_cp : Nat) (b_sn : Nat) (b_sl : Nat) : Met l yX9_shift w_X9_shift__z ({ frames := 1, cells := 0, slots := 0, locals := 21 }) (va_Pc [.ref h0, .int i_0, .int i_1, .int i_2, .int i_3] (fun U => va_P D vwCl [(h0, .inr (9, [.ref a_tape, .ref a_now, .ref a_draft, .ref a_reader, .ref a_acts, .ref a_images, .ref a_one, .ref a_other, .ref a_third, .ref a_spans, .ref a_back, .ref a_span, .ref a_middle, .ref a_reached])), (a_now, .inr (8, [.ref b_sc, .ref b_sp, .ref b_cp, .ref b_sn, .ref b_sl, .int 0, .int 0, .int 0]))] U.heap ∧ va_K D vwCl [] U)) (va_Qi (fun (r : Int32) (_ : Unit) => r = (-1000001)) (fun _ _ => True) (fun _ => False)) 0 0 (fun _ => False) := by
  refine Met.ofW (cc := cX9_shift) (maxL := 7) (ret := (some .int)) (by decide) rfl ?_
  intro p e s m args below meth c s₁ B hml hv
  obtain ⟨rfl, hP, hK⟩ := hv
  have hx := B.exec
  have hb := B.bytes
  have hr := B.returns
  have hts := atoms_spec (ws := w_X9_shift__z) B.pre
  have hown : s.vm.findClass RX9 = some m.cls := findClass_of_methodNamed B.named
  have hlocks := B.notSynchronized
  have hS : va_S (fun _ : Nat => False) s.heap s.heap [] := va_S.rf
  have hP : va_P D vwCl [(h0, .inr (9, [.ref a_tape, .ref a_now, .ref a_draft, .ref a_reader, .ref a_acts, .ref a_images, .ref a_one, .ref a_other, .ref a_third, .ref a_spans, .ref a_back, .ref a_span, .ref a_middle, .ref a_reached])), (a_now, .inr (8, [.ref b_sc, .ref b_sp, .ref b_cp, .ref b_sn, .ref b_sl, .int 0, .int 0, .int 0]))] s.heap := hP
  have hl := lv_entry ([.ref h0, .int i_0, .int i_1, .int i_2, .int i_3]) (n := 7) (Nat.le_of_ble_eq_true rfl)
  rw [lg_entry_eq]
  generalize (lg_sl ([.ref h0, .int i_0, .int i_1, .int i_2, .int i_3]) ++ List.replicate (7 - (lg_sl ([.ref h0, .int i_0, .int i_1, .int i_2, .int i_3])).length) Slot.unset).toArray = ls at hl ⊢
  have hl : lv_has ls 7 [(0, .ref h0), (1, .int i_0), (2, .int i_1), (3, .int i_2), (4, .int i_3)] := hl
  obtain ⟨H, hHe⟩ : ∃ H : Heap, H = s.heap := ⟨_, rfl⟩
  rw [← hHe] at hP
  have hS : va_S (fun _ : Nat => False) s.heap H [] := by rw [hHe]; exact hS
  refine pw_heap hHe ?_
  refine lv_aload_n hx hb dX9_shift_0 rfl (lv_at hl 0 rfl) ?_
  refine va_get (D := D) (ci := 9) (v := .ref a_now) (C := RX9) (T := TX9) (N := 14) hx hb hts (fun _ h => List.mem_cons_of_mem _ (List.mem_append_left _ (List.mem_append_right _ h))) hown hK hP 0 rfl rfl 1 (by decide) (hts (.fieldLink RX9 19 "LineCites" "now" "LLineCites$Work;") (List.mem_of_getElem? (i := 1) rfl)) (fun _ h9 => h9) rfl dX9_shift_1 ?_
  refine lv_iload_n hx hb dX9_shift_4 rfl (lv_at hl 1 rfl) ?_
  have hPc := hP.sub (ws' := [(a_now, .inr (8, [.ref b_sc, .ref b_sp, .ref b_cp, .ref b_sn, .ref b_sl, .int 0, .int 0, .int 0]))]) [1] rfl
  have hKc := hK.sub (tys' := []) [] rfl
  refine va_calli (va_runV (As := [.int i_0]) (rest := []) ⟨hx, hb, hml, hown, hts⟩ (c_X8_hasEdition__z l D a_now i_0 b_sc b_sp b_cp b_sn b_sl) (cwV 1 hts g_X9_shift__z_X8_hasEdition__z rfl rfl rfl (by decide +kernel) ⟨Nat.le_of_ble_eq_true rfl, Nat.le_of_ble_eq_true rfl⟩) ⟨fun a U g mk q => by obtain ⟨q0, qP, qK⟩ := q; exact ⟨q0, qP, va_K.moved (u := U) (U := U.calling g mk a) (Vm.Alike.refl U.vm) qK⟩, va_recv hKc hPc (ci := 8) (q0 := 0) rfl rfl, fun U hU hW => ⟨rfl, by rw [hU]; exact hPc, va_K.moved hW.alike hKc⟩⟩ rfl rfl hl.1 rfl (lv_room (Nat.le_of_ble_eq_true rfl)) dX9_shift_5 ⟨Nat.le_of_ble_eq_true rfl, Nat.le_of_ble_eq_true rfl⟩) hS (fun _ _ h => h.elim) (fun _ h => h.elim) (fun r1 u t H1 locs ht hvm hw hB hz1 hk1 hS => ?_)
  have hP := pw_keep hP (fun q hq => hk1 q hq (fun h => h))
  generalize H1 = H at hP hS ⊢
  refine W.widen (k := 0) (n := 0) (Nat.le_of_ble_eq_true rfl) (Nat.le_of_ble_eq_true rfl) ?_
  obtain rfl : r1 = 0 := hw
  refine lv_if_eq (tgt := 27) hx hb dX9_shift_8 (by decide) (fun c2 => ?_) (fun c2 => absurd (by decide) c2)
  refine lv_ldc hx hb hown (hts (.constant RX9 88 (-1000001)) (List.mem_of_getElem? (i := 8) rfl)) dX9_shift_27 ?_
  exact W.iret (v := (-1000001)) hx hb hr (fun t ht hW => ⟨⟨(-1000001), (), rfl, rfl, trivial⟩, hS.F ht⟩) hS.2.2 dX9_shift_29
def w_X9_table__z : List Cond := .code yX9_table cX9_table 5 (some .int) :: ([.fieldLink RX9 19 "LineCites" "now" "LLineCites$Work;", .methodLink RX9 138 yX8_hasEdition, .instanceMethod yX8_hasEdition, .selects RX8 yX8_hasEdition yX8_hasEdition, .initialized RX8, .code yX8_hasEdition cX8_hasEdition 2 (some .boolean), .fieldLink RX8 37 "LineCites$Work" "editions" "I", .constant RX9 88 (-1000001)] ++ wsX90 ++ wsX80)
set_option maxRecDepth 20000 in
theorem g_X9_table__z_X8_hasEdition__z : GoodIn w_X9_table__z (wsV RX9 138 RX8 yX8_hasEdition w_X8_hasEdition__z) := goodIn_r _ [2, 3, 4, 5, 6, 7, 23, 24, 25, 26, 27, 28, 29, 30] rfl (by decide +kernel)
set_option maxHeartbeats 4000000 in
set_option maxRecDepth 100000 in
theorem c_X9_table__z (l : Launch) (D : va_G) (h0 : Nat) (i_0 : Int32) (i_1 : Int32) (i_2 : Int32) (a_tape : Nat) (a_now : Nat) (a_draft : Nat) (a_reader : Nat) (a_acts : Nat) (a_images : Nat) (a_one : Nat) (a_other : Nat) (a_third : Nat) (a_spans : Nat) (a_back : Nat) (a_span : Nat) (a_middle : Nat) (a_reached : Nat) (b_sc : Nat) (b_sp : Nat) (b_cp : Nat) (b_sn : Nat) (b_sl : Nat) : Met l yX9_table w_X9_table__z ({ frames := 1, cells := 0, slots := 0, locals := 21 }) (va_Pc [.ref h0, .int i_0, .int i_1, .int i_2] (fun U => va_P D vwCl [(h0, .inr (9, [.ref a_tape, .ref a_now, .ref a_draft, .ref a_reader, .ref a_acts, .ref a_images, .ref a_one, .ref a_other, .ref a_third, .ref a_spans, .ref a_back, .ref a_span, .ref a_middle, .ref a_reached])), (a_now, .inr (8, [.ref b_sc, .ref b_sp, .ref b_cp, .ref b_sn, .ref b_sl, .int 0, .int 0, .int 0]))] U.heap ∧ va_K D vwCl [] U)) (va_Qi (fun (r : Int32) (_ : Unit) => r = (-1000001)) (fun _ _ => True) (fun _ => False)) 0 0 (fun _ => False) := by
  refine Met.ofW (cc := cX9_table) (maxL := 5) (ret := (some .int)) (by decide) rfl ?_
  intro p e s m args below meth c s₁ B hml hv
  obtain ⟨rfl, hP, hK⟩ := hv
  have hx := B.exec
  have hb := B.bytes
  have hr := B.returns
  have hts := atoms_spec (ws := w_X9_table__z) B.pre
  have hown : s.vm.findClass RX9 = some m.cls := findClass_of_methodNamed B.named
  have hlocks := B.notSynchronized
  have hS : va_S (fun _ : Nat => False) s.heap s.heap [] := va_S.rf
  have hP : va_P D vwCl [(h0, .inr (9, [.ref a_tape, .ref a_now, .ref a_draft, .ref a_reader, .ref a_acts, .ref a_images, .ref a_one, .ref a_other, .ref a_third, .ref a_spans, .ref a_back, .ref a_span, .ref a_middle, .ref a_reached])), (a_now, .inr (8, [.ref b_sc, .ref b_sp, .ref b_cp, .ref b_sn, .ref b_sl, .int 0, .int 0, .int 0]))] s.heap := hP
  have hl := lv_entry ([.ref h0, .int i_0, .int i_1, .int i_2]) (n := 5) (Nat.le_of_ble_eq_true rfl)
  rw [lg_entry_eq]
  generalize (lg_sl ([.ref h0, .int i_0, .int i_1, .int i_2]) ++ List.replicate (5 - (lg_sl ([.ref h0, .int i_0, .int i_1, .int i_2])).length) Slot.unset).toArray = ls at hl ⊢
  have hl : lv_has ls 5 [(0, .ref h0), (1, .int i_0), (2, .int i_1), (3, .int i_2)] := hl
  obtain ⟨H, hHe⟩ : ∃ H : Heap, H = s.heap := ⟨_, rfl⟩
  rw [← hHe] at hP
  have hS : va_S (fun _ : Nat => False) s.heap H [] := by rw [hHe]; exact hS
  refine pw_heap hHe ?_
  refine lv_aload_n hx hb dX9_table_0 rfl (lv_at hl 0 rfl) ?_
  refine va_get (D := D) (ci := 9) (v := .ref a_now) (C := RX9) (T := TX9) (N := 14) hx hb hts (fun _ h => List.mem_cons_of_mem _ (List.mem_append_left _ (List.mem_append_right _ h))) hown hK hP 0 rfl rfl 1 (by decide) (hts (.fieldLink RX9 19 "LineCites" "now" "LLineCites$Work;") (List.mem_of_getElem? (i := 1) rfl)) (fun _ h9 => h9) rfl dX9_table_1 ?_
  refine lv_iload_n hx hb dX9_table_4 rfl (lv_at hl 1 rfl) ?_
  have hPc := hP.sub (ws' := [(a_now, .inr (8, [.ref b_sc, .ref b_sp, .ref b_cp, .ref b_sn, .ref b_sl, .int 0, .int 0, .int 0]))]) [1] rfl
  have hKc := hK.sub (tys' := []) [] rfl
  refine va_calli (va_runV (As := [.int i_0]) (rest := []) ⟨hx, hb, hml, hown, hts⟩ (c_X8_hasEdition__z l D a_now i_0 b_sc b_sp b_cp b_sn b_sl) (cwV 1 hts g_X9_table__z_X8_hasEdition__z rfl rfl rfl (by decide +kernel) ⟨Nat.le_of_ble_eq_true rfl, Nat.le_of_ble_eq_true rfl⟩) ⟨fun a U g mk q => by obtain ⟨q0, qP, qK⟩ := q; exact ⟨q0, qP, va_K.moved (u := U) (U := U.calling g mk a) (Vm.Alike.refl U.vm) qK⟩, va_recv hKc hPc (ci := 8) (q0 := 0) rfl rfl, fun U hU hW => ⟨rfl, by rw [hU]; exact hPc, va_K.moved hW.alike hKc⟩⟩ rfl rfl hl.1 rfl (lv_room (Nat.le_of_ble_eq_true rfl)) dX9_table_5 ⟨Nat.le_of_ble_eq_true rfl, Nat.le_of_ble_eq_true rfl⟩) hS (fun _ _ h => h.elim) (fun _ h => h.elim) (fun r1 u t H1 locs ht hvm hw hB hz1 hk1 hS => ?_)
  have hP := pw_keep hP (fun q hq => hk1 q hq (fun h => h))
  generalize H1 = H at hP hS ⊢
  refine W.widen (k := 0) (n := 0) (Nat.le_of_ble_eq_true rfl) (Nat.le_of_ble_eq_true rfl) ?_
  obtain rfl : r1 = 0 := hw
  refine lv_if_eq (tgt := 31) hx hb dX9_table_8 (by decide) (fun c2 => ?_) (fun c2 => absurd (by decide) c2)
  refine lv_ldc hx hb hown (hts (.constant RX9 88 (-1000001)) (List.mem_of_getElem? (i := 8) rfl)) dX9_table_31 ?_
  exact W.iret (v := (-1000001)) hx hb hr (fun t ht hW => ⟨⟨(-1000001), (), rfl, rfl, trivial⟩, hS.F ht⟩) hS.2.2 dX9_table_33
def w_X9_share__z : List Cond := .code yX9_share cX9_share 6 (some .int) :: ([.fieldLink RX9 19 "LineCites" "now" "LLineCites$Work;", .methodLink RX9 138 yX8_hasEdition, .instanceMethod yX8_hasEdition, .selects RX8 yX8_hasEdition yX8_hasEdition, .initialized RX8, .code yX8_hasEdition cX8_hasEdition 2 (some .boolean), .fieldLink RX8 37 "LineCites$Work" "editions" "I", .constant RX9 88 (-1000001)] ++ wsX90 ++ wsX80)
set_option maxRecDepth 20000 in
theorem g_X9_share__z_X8_hasEdition__z : GoodIn w_X9_share__z (wsV RX9 138 RX8 yX8_hasEdition w_X8_hasEdition__z) := goodIn_r _ [2, 3, 4, 5, 6, 7, 23, 24, 25, 26, 27, 28, 29, 30] rfl (by decide +kernel)
set_option maxHeartbeats 4000000 in
set_option maxRecDepth 100000 in
theorem c_X9_share__z (l : Launch) (D : va_G) (h0 : Nat) (i_0 : Int32) (i_1 : Int32) (a_tape : Nat) (a_now : Nat) (a_draft : Nat) (a_reader : Nat) (a_acts : Nat) (a_images : Nat) (a_one : Nat) (a_other : Nat) (a_third : Nat) (a_spans : Nat) (a_back : Nat) (a_span : Nat) (a_middle : Nat) (a_reached : Nat) (b_sc : Nat) (b_sp : Nat) (b_cp : Nat) (b_sn : Nat) (b_sl : Nat) : Met l yX9_share w_X9_share__z ({ frames := 1, cells := 0, slots := 0, locals := 21 }) (va_Pc [.ref h0, .int i_0, .int i_1] (fun U => va_P D vwCl [(h0, .inr (9, [.ref a_tape, .ref a_now, .ref a_draft, .ref a_reader, .ref a_acts, .ref a_images, .ref a_one, .ref a_other, .ref a_third, .ref a_spans, .ref a_back, .ref a_span, .ref a_middle, .ref a_reached])), (a_now, .inr (8, [.ref b_sc, .ref b_sp, .ref b_cp, .ref b_sn, .ref b_sl, .int 0, .int 0, .int 0]))] U.heap ∧ va_K D vwCl [] U)) (va_Qi (fun (r : Int32) (_ : Unit) => r = (-1000001)) (fun _ _ => True) (fun _ => False)) 0 0 (fun _ => False) := by
  refine Met.ofW (cc := cX9_share) (maxL := 6) (ret := (some .int)) (by decide) rfl ?_
  intro p e s m args below meth c s₁ B hml hv
  obtain ⟨rfl, hP, hK⟩ := hv
  have hx := B.exec
  have hb := B.bytes
  have hr := B.returns
  have hts := atoms_spec (ws := w_X9_share__z) B.pre
  have hown : s.vm.findClass RX9 = some m.cls := findClass_of_methodNamed B.named
  have hlocks := B.notSynchronized
  have hS : va_S (fun _ : Nat => False) s.heap s.heap [] := va_S.rf
  have hP : va_P D vwCl [(h0, .inr (9, [.ref a_tape, .ref a_now, .ref a_draft, .ref a_reader, .ref a_acts, .ref a_images, .ref a_one, .ref a_other, .ref a_third, .ref a_spans, .ref a_back, .ref a_span, .ref a_middle, .ref a_reached])), (a_now, .inr (8, [.ref b_sc, .ref b_sp, .ref b_cp, .ref b_sn, .ref b_sl, .int 0, .int 0, .int 0]))] s.heap := hP
  have hl := lv_entry ([.ref h0, .int i_0, .int i_1]) (n := 6) (Nat.le_of_ble_eq_true rfl)
  rw [lg_entry_eq]
  generalize (lg_sl ([.ref h0, .int i_0, .int i_1]) ++ List.replicate (6 - (lg_sl ([.ref h0, .int i_0, .int i_1])).length) Slot.unset).toArray = ls at hl ⊢
  have hl : lv_has ls 6 [(0, .ref h0), (1, .int i_0), (2, .int i_1)] := hl
  obtain ⟨H, hHe⟩ : ∃ H : Heap, H = s.heap := ⟨_, rfl⟩
  rw [← hHe] at hP
  have hS : va_S (fun _ : Nat => False) s.heap H [] := by rw [hHe]; exact hS
  refine pw_heap hHe ?_
  refine lv_aload_n hx hb dX9_share_0 rfl (lv_at hl 0 rfl) ?_
  refine va_get (D := D) (ci := 9) (v := .ref a_now) (C := RX9) (T := TX9) (N := 14) hx hb hts (fun _ h => List.mem_cons_of_mem _ (List.mem_append_left _ (List.mem_append_right _ h))) hown hK hP 0 rfl rfl 1 (by decide) (hts (.fieldLink RX9 19 "LineCites" "now" "LLineCites$Work;") (List.mem_of_getElem? (i := 1) rfl)) (fun _ h9 => h9) rfl dX9_share_1 ?_
  refine lv_iload_n hx hb dX9_share_4 rfl (lv_at hl 1 rfl) ?_
  have hPc := hP.sub (ws' := [(a_now, .inr (8, [.ref b_sc, .ref b_sp, .ref b_cp, .ref b_sn, .ref b_sl, .int 0, .int 0, .int 0]))]) [1] rfl
  have hKc := hK.sub (tys' := []) [] rfl
  refine va_calli (va_runV (As := [.int i_0]) (rest := []) ⟨hx, hb, hml, hown, hts⟩ (c_X8_hasEdition__z l D a_now i_0 b_sc b_sp b_cp b_sn b_sl) (cwV 1 hts g_X9_share__z_X8_hasEdition__z rfl rfl rfl (by decide +kernel) ⟨Nat.le_of_ble_eq_true rfl, Nat.le_of_ble_eq_true rfl⟩) ⟨fun a U g mk q => by obtain ⟨q0, qP, qK⟩ := q; exact ⟨q0, qP, va_K.moved (u := U) (U := U.calling g mk a) (Vm.Alike.refl U.vm) qK⟩, va_recv hKc hPc (ci := 8) (q0 := 0) rfl rfl, fun U hU hW => ⟨rfl, by rw [hU]; exact hPc, va_K.moved hW.alike hKc⟩⟩ rfl rfl hl.1 rfl (lv_room (Nat.le_of_ble_eq_true rfl)) dX9_share_5 ⟨Nat.le_of_ble_eq_true rfl, Nat.le_of_ble_eq_true rfl⟩) hS (fun _ _ h => h.elim) (fun _ h => h.elim) (fun r1 u t H1 locs ht hvm hw hB hz1 hk1 hS => ?_)
  have hP := pw_keep hP (fun q hq => hk1 q hq (fun h => h))
  generalize H1 = H at hP hS ⊢
  refine W.widen (k := 0) (n := 0) (Nat.le_of_ble_eq_true rfl) (Nat.le_of_ble_eq_true rfl) ?_
  obtain rfl : r1 = 0 := hw
  refine lv_if_eq (tgt := 22) hx hb dX9_share_8 (by decide) (fun c2 => ?_) (fun c2 => absurd (by decide) c2)
  refine lv_ldc hx hb hown (hts (.constant RX9 88 (-1000001)) (List.mem_of_getElem? (i := 8) rfl)) dX9_share_22 ?_
  exact W.iret (v := (-1000001)) hx hb hr (fun t ht hW => ⟨⟨(-1000001), (), rfl, rfl, trivial⟩, hS.F ht⟩) hS.2.2 dX9_share_24
def w_X9_score__z : List Cond := .code yX9_score cX9_score 4 (some .int) :: ([.fieldLink RX9 19 "LineCites" "now" "LLineCites$Work;", .methodLink RX9 138 yX8_hasEdition, .instanceMethod yX8_hasEdition, .selects RX8 yX8_hasEdition yX8_hasEdition, .initialized RX8, .code yX8_hasEdition cX8_hasEdition 2 (some .boolean), .fieldLink RX8 37 "LineCites$Work" "editions" "I", .constant RX9 88 (-1000001)] ++ wsX90 ++ wsX80)
set_option maxRecDepth 20000 in
theorem g_X9_score__z_X8_hasEdition__z : GoodIn w_X9_score__z (wsV RX9 138 RX8 yX8_hasEdition w_X8_hasEdition__z) := goodIn_r _ [2, 3, 4, 5, 6, 7, 23, 24, 25, 26, 27, 28, 29, 30] rfl (by decide +kernel)
set_option maxHeartbeats 4000000 in
set_option maxRecDepth 100000 in
theorem c_X9_score__z (l : Launch) (D : va_G) (h0 : Nat) (i_0 : Int32) (i_1 : Int32) (a_tape : Nat) (a_now : Nat) (a_draft : Nat) (a_reader : Nat) (a_acts : Nat) (a_images : Nat) (a_one : Nat) (a_other : Nat) (a_third : Nat) (a_spans : Nat) (a_back : Nat) (a_span : Nat) (a_middle : Nat) (a_reached : Nat) (b_sc : Nat) (b_sp : Nat) (b_cp : Nat) (b_sn : Nat) (b_sl : Nat) : Met l yX9_score w_X9_score__z ({ frames := 1, cells := 0, slots := 0, locals := 21 }) (va_Pc [.ref h0, .int i_0, .int i_1] (fun U => va_P D vwCl [(h0, .inr (9, [.ref a_tape, .ref a_now, .ref a_draft, .ref a_reader, .ref a_acts, .ref a_images, .ref a_one, .ref a_other, .ref a_third, .ref a_spans, .ref a_back, .ref a_span, .ref a_middle, .ref a_reached])), (a_now, .inr (8, [.ref b_sc, .ref b_sp, .ref b_cp, .ref b_sn, .ref b_sl, .int 0, .int 0, .int 0]))] U.heap ∧ va_K D vwCl [] U)) (va_Qi (fun (r : Int32) (_ : Unit) => r = (-1000001)) (fun _ _ => True) (fun _ => False)) 0 0 (fun _ => False) := by
  refine Met.ofW (cc := cX9_score) (maxL := 4) (ret := (some .int)) (by decide) rfl ?_
  intro p e s m args below meth c s₁ B hml hv
  obtain ⟨rfl, hP, hK⟩ := hv
  have hx := B.exec
  have hb := B.bytes
  have hr := B.returns
  have hts := atoms_spec (ws := w_X9_score__z) B.pre
  have hown : s.vm.findClass RX9 = some m.cls := findClass_of_methodNamed B.named
  have hlocks := B.notSynchronized
  have hS : va_S (fun _ : Nat => False) s.heap s.heap [] := va_S.rf
  have hP : va_P D vwCl [(h0, .inr (9, [.ref a_tape, .ref a_now, .ref a_draft, .ref a_reader, .ref a_acts, .ref a_images, .ref a_one, .ref a_other, .ref a_third, .ref a_spans, .ref a_back, .ref a_span, .ref a_middle, .ref a_reached])), (a_now, .inr (8, [.ref b_sc, .ref b_sp, .ref b_cp, .ref b_sn, .ref b_sl, .int 0, .int 0, .int 0]))] s.heap := hP
  have hl := lv_entry ([.ref h0, .int i_0, .int i_1]) (n := 4) (Nat.le_of_ble_eq_true rfl)
  rw [lg_entry_eq]
  generalize (lg_sl ([.ref h0, .int i_0, .int i_1]) ++ List.replicate (4 - (lg_sl ([.ref h0, .int i_0, .int i_1])).length) Slot.unset).toArray = ls at hl ⊢
  have hl : lv_has ls 4 [(0, .ref h0), (1, .int i_0), (2, .int i_1)] := hl
  obtain ⟨H, hHe⟩ : ∃ H : Heap, H = s.heap := ⟨_, rfl⟩
  rw [← hHe] at hP
  have hS : va_S (fun _ : Nat => False) s.heap H [] := by rw [hHe]; exact hS
  refine pw_heap hHe ?_
  refine lv_aload_n hx hb dX9_score_0 rfl (lv_at hl 0 rfl) ?_
  refine va_get (D := D) (ci := 9) (v := .ref a_now) (C := RX9) (T := TX9) (N := 14) hx hb hts (fun _ h => List.mem_cons_of_mem _ (List.mem_append_left _ (List.mem_append_right _ h))) hown hK hP 0 rfl rfl 1 (by decide) (hts (.fieldLink RX9 19 "LineCites" "now" "LLineCites$Work;") (List.mem_of_getElem? (i := 1) rfl)) (fun _ h9 => h9) rfl dX9_score_1 ?_
  refine lv_iload_n hx hb dX9_score_4 rfl (lv_at hl 1 rfl) ?_
  have hPc := hP.sub (ws' := [(a_now, .inr (8, [.ref b_sc, .ref b_sp, .ref b_cp, .ref b_sn, .ref b_sl, .int 0, .int 0, .int 0]))]) [1] rfl
  have hKc := hK.sub (tys' := []) [] rfl
  refine va_calli (va_runV (As := [.int i_0]) (rest := []) ⟨hx, hb, hml, hown, hts⟩ (c_X8_hasEdition__z l D a_now i_0 b_sc b_sp b_cp b_sn b_sl) (cwV 1 hts g_X9_score__z_X8_hasEdition__z rfl rfl rfl (by decide +kernel) ⟨Nat.le_of_ble_eq_true rfl, Nat.le_of_ble_eq_true rfl⟩) ⟨fun a U g mk q => by obtain ⟨q0, qP, qK⟩ := q; exact ⟨q0, qP, va_K.moved (u := U) (U := U.calling g mk a) (Vm.Alike.refl U.vm) qK⟩, va_recv hKc hPc (ci := 8) (q0 := 0) rfl rfl, fun U hU hW => ⟨rfl, by rw [hU]; exact hPc, va_K.moved hW.alike hKc⟩⟩ rfl rfl hl.1 rfl (lv_room (Nat.le_of_ble_eq_true rfl)) dX9_score_5 ⟨Nat.le_of_ble_eq_true rfl, Nat.le_of_ble_eq_true rfl⟩) hS (fun _ _ h => h.elim) (fun _ h => h.elim) (fun r1 u t H1 locs ht hvm hw hB hz1 hk1 hS => ?_)
  have hP := pw_keep hP (fun q hq => hk1 q hq (fun h => h))
  generalize H1 = H at hP hS ⊢
  refine W.widen (k := 0) (n := 0) (Nat.le_of_ble_eq_true rfl) (Nat.le_of_ble_eq_true rfl) ?_
  obtain rfl : r1 = 0 := hw
  refine lv_if_eq (tgt := 20) hx hb dX9_score_8 (by decide) (fun c2 => ?_) (fun c2 => absurd (by decide) c2)
  refine lv_ldc hx hb hown (hts (.constant RX9 88 (-1000001)) (List.mem_of_getElem? (i := 8) rfl)) dX9_score_20 ?_
  exact W.iret (v := (-1000001)) hx hb hr (fun t ht hW => ⟨⟨(-1000001), (), rfl, rfl, trivial⟩, hS.F ht⟩) hS.2.2 dX9_score_22
def w_X9_strike__z : List Cond := .code yX9_strike cX9_strike 2 (some .int) :: ([.fieldLink RX9 19 "LineCites" "now" "LLineCites$Work;", .methodLink RX9 182 yX8_hasCitation, .instanceMethod yX8_hasCitation, .selects RX8 yX8_hasCitation yX8_hasCitation, .initialized RX8, .code yX8_hasCitation cX8_hasCitation 2 (some .boolean), .methodLink RX8 89 yX8_citedPart, .instanceMethod yX8_citedPart, .selects RX8 yX8_citedPart yX8_citedPart, .code yX8_citedPart cX8_citedPart 4 (some .int), .fieldLink RX8 18 "LineCites$Work" "citedParts" "[I", .constant RX9 88 (-1000001)] ++ wsX90 ++ wsX80)
set_option maxRecDepth 20000 in
theorem g_X9_strike__z_X8_hasCitation__z : GoodIn w_X9_strike__z (wsV RX9 182 RX8 yX8_hasCitation w_X8_hasCitation__z) := goodIn_r _ [2, 3, 4, 5, 6, 7, 8, 9, 5, 10, 11, 27, 28, 29, 30, 31, 32, 33, 34] rfl (by decide +kernel)
set_option maxHeartbeats 4000000 in
set_option maxRecDepth 100000 in
theorem c_X9_strike__z (l : Launch) (D : va_G) (h0 : Nat) (i_0 : Int32) (a_tape : Nat) (a_now : Nat) (a_draft : Nat) (a_reader : Nat) (a_acts : Nat) (a_images : Nat) (a_one : Nat) (a_other : Nat) (a_third : Nat) (a_spans : Nat) (a_back : Nat) (a_span : Nat) (a_middle : Nat) (a_reached : Nat) (b_sc : Nat) (b_sp : Nat) (b_cp : Nat) (b_sn : Nat) (b_sl : Nat) (kI : ClassId) : Met l yX9_strike w_X9_strike__z ({ frames := 2, cells := 0, slots := 0, locals := 44 }) (va_Pc [.ref h0, .int i_0] (fun U => va_P D vwCl [(h0, .inr (9, [.ref a_tape, .ref a_now, .ref a_draft, .ref a_reader, .ref a_acts, .ref a_images, .ref a_one, .ref a_other, .ref a_third, .ref a_spans, .ref a_back, .ref a_span, .ref a_middle, .ref a_reached])), (a_now, .inr (8, [.ref b_sc, .ref b_sp, .ref b_cp, .ref b_sn, .ref b_sl, .int 0, .int 0, .int 0])), (b_cp, .inl (kI, 32, .inl (fun _ => 0)))] U.heap ∧ va_K D vwCl [(kI, .int)] U)) (va_Qi (fun (r : Int32) (_ : Unit) => r = (-1000001)) (fun _ _ => True) (fun _ => False)) 0 0 (fun _ => False) := by
  refine Met.ofW (cc := cX9_strike) (maxL := 2) (ret := (some .int)) (by decide) rfl ?_
  intro p e s m args below meth c s₁ B hml hv
  obtain ⟨rfl, hP, hK⟩ := hv
  have hx := B.exec
  have hb := B.bytes
  have hr := B.returns
  have hts := atoms_spec (ws := w_X9_strike__z) B.pre
  have hown : s.vm.findClass RX9 = some m.cls := findClass_of_methodNamed B.named
  have hlocks := B.notSynchronized
  have hS : va_S (fun _ : Nat => False) s.heap s.heap [] := va_S.rf
  have hP : va_P D vwCl [(h0, .inr (9, [.ref a_tape, .ref a_now, .ref a_draft, .ref a_reader, .ref a_acts, .ref a_images, .ref a_one, .ref a_other, .ref a_third, .ref a_spans, .ref a_back, .ref a_span, .ref a_middle, .ref a_reached])), (a_now, .inr (8, [.ref b_sc, .ref b_sp, .ref b_cp, .ref b_sn, .ref b_sl, .int 0, .int 0, .int 0])), (b_cp, .inl (kI, 32, .inl (fun _ => 0)))] s.heap := hP
  have hl := lv_entry ([.ref h0, .int i_0]) (n := 2) (Nat.le_of_ble_eq_true rfl)
  rw [lg_entry_eq]
  generalize (lg_sl ([.ref h0, .int i_0]) ++ List.replicate (2 - (lg_sl ([.ref h0, .int i_0])).length) Slot.unset).toArray = ls at hl ⊢
  have hl : lv_has ls 2 [(0, .ref h0), (1, .int i_0)] := hl
  obtain ⟨H, hHe⟩ : ∃ H : Heap, H = s.heap := ⟨_, rfl⟩
  rw [← hHe] at hP
  have hS : va_S (fun _ : Nat => False) s.heap H [] := by rw [hHe]; exact hS
  refine pw_heap hHe ?_
  refine lv_aload_n hx hb dX9_strike_0 rfl (lv_at hl 0 rfl) ?_
  refine va_get (D := D) (ci := 9) (v := .ref a_now) (C := RX9) (T := TX9) (N := 14) hx hb hts (fun _ h => List.mem_cons_of_mem _ (List.mem_append_left _ (List.mem_append_right _ h))) hown hK hP 0 rfl rfl 1 (by decide) (hts (.fieldLink RX9 19 "LineCites" "now" "LLineCites$Work;") (List.mem_of_getElem? (i := 1) rfl)) (fun _ h9 => h9) rfl dX9_strike_1 ?_
  refine lv_iload_n hx hb dX9_strike_4 rfl (lv_at hl 1 rfl) ?_
  have hPc := hP.sub (ws' := [(a_now, .inr (8, [.ref b_sc, .ref b_sp, .ref b_cp, .ref b_sn, .ref b_sl, .int 0, .int 0, .int 0])), (b_cp, .inl (kI, 32, .inl (fun _ => 0)))]) [1, 2] rfl
  have hKc := hK.sub (tys' := [(kI, .int)]) [0] rfl
  refine va_calli (va_runV (As := [.int i_0]) (rest := []) ⟨hx, hb, hml, hown, hts⟩ (c_X8_hasCitation__z l D a_now i_0 b_sc b_sp b_cp b_sn b_sl kI) (cwV 1 hts g_X9_strike__z_X8_hasCitation__z rfl rfl rfl (by decide +kernel) ⟨Nat.le_of_ble_eq_true rfl, Nat.le_of_ble_eq_true rfl⟩) ⟨fun a U g mk q => by obtain ⟨q0, qP, qK⟩ := q; exact ⟨q0, qP, va_K.moved (u := U) (U := U.calling g mk a) (Vm.Alike.refl U.vm) qK⟩, va_recv hKc hPc (ci := 8) (q0 := 0) rfl rfl, fun U hU hW => ⟨rfl, by rw [hU]; exact hPc, va_K.moved hW.alike hKc⟩⟩ rfl rfl hl.1 rfl (lv_room (Nat.le_of_ble_eq_true rfl)) dX9_strike_5 ⟨Nat.le_of_ble_eq_true rfl, Nat.le_of_ble_eq_true rfl⟩) hS (fun _ _ h => h.elim) (fun _ h => h.elim) (fun r1 u t H1 locs ht hvm hw hB hz1 hk1 hS => ?_)
  have hP := pw_keep hP (fun q hq => hk1 q hq (fun h => h))
  generalize H1 = H at hP hS ⊢
  refine W.widen (k := 0) (n := 0) (Nat.le_of_ble_eq_true rfl) (Nat.le_of_ble_eq_true rfl) ?_
  obtain rfl : r1 = 0 := hw
  refine lv_if_ne (tgt := 14) hx hb dX9_strike_8 (by decide) (fun c2 => absurd (by decide) c2) (fun c2 => ?_)
  refine lv_ldc hx hb hown (hts (.constant RX9 88 (-1000001)) (List.mem_of_getElem? (i := 12) rfl)) dX9_strike_11 ?_
  exact W.iret (v := (-1000001)) hx hb hr (fun t ht hW => ⟨⟨(-1000001), (), rfl, rfl, trivial⟩, hS.F ht⟩) hS.2.2 dX9_strike_13
def w_X9_citation__z : List Cond := .code yX9_citation cX9_citation 3 (some .int) :: ([.fieldLink RX9 19 "LineCites" "now" "LLineCites$Work;", .methodLink RX9 182 yX8_hasCitation, .instanceMethod yX8_hasCitation, .selects RX8 yX8_hasCitation yX8_hasCitation, .initialized RX8, .code yX8_hasCitation cX8_hasCitation 2 (some .boolean), .methodLink RX8 89 yX8_citedPart, .instanceMethod yX8_citedPart, .selects RX8 yX8_citedPart yX8_citedPart, .code yX8_citedPart cX8_citedPart 4 (some .int), .fieldLink RX8 18 "LineCites$Work" "citedParts" "[I", .constant RX9 88 (-1000001)] ++ wsX90 ++ wsX80)
set_option maxRecDepth 20000 in
theorem g_X9_citation__z_X8_hasCitation__z : GoodIn w_X9_citation__z (wsV RX9 182 RX8 yX8_hasCitation w_X8_hasCitation__z) := goodIn_r _ [2, 3, 4, 5, 6, 7, 8, 9, 5, 10, 11, 27, 28, 29, 30, 31, 32, 33, 34] rfl (by decide +kernel)
set_option maxHeartbeats 4000000 in
set_option maxRecDepth 100000 in
theorem c_X9_citation__z (l : Launch) (D : va_G) (h0 : Nat) (i_0 : Int32) (i_1 : Int32) (a_tape : Nat) (a_now : Nat) (a_draft : Nat) (a_reader : Nat) (a_acts : Nat) (a_images : Nat) (a_one : Nat) (a_other : Nat) (a_third : Nat) (a_spans : Nat) (a_back : Nat) (a_span : Nat) (a_middle : Nat) (a_reached : Nat) (b_sc : Nat) (b_sp : Nat) (b_cp : Nat) (b_sn : Nat) (b_sl : Nat) (kI : ClassId) : Met l yX9_citation w_X9_citation__z ({ frames := 2, cells := 0, slots := 0, locals := 44 }) (va_Pc [.ref h0, .int i_0, .int i_1] (fun U => va_P D vwCl [(h0, .inr (9, [.ref a_tape, .ref a_now, .ref a_draft, .ref a_reader, .ref a_acts, .ref a_images, .ref a_one, .ref a_other, .ref a_third, .ref a_spans, .ref a_back, .ref a_span, .ref a_middle, .ref a_reached])), (a_now, .inr (8, [.ref b_sc, .ref b_sp, .ref b_cp, .ref b_sn, .ref b_sl, .int 0, .int 0, .int 0])), (b_cp, .inl (kI, 32, .inl (fun _ => 0)))] U.heap ∧ va_K D vwCl [(kI, .int)] U)) (va_Qi (fun (r : Int32) (_ : Unit) => r = (-1000001)) (fun _ _ => True) (fun _ => False)) 0 0 (fun _ => False) := by
  refine Met.ofW (cc := cX9_citation) (maxL := 3) (ret := (some .int)) (by decide) rfl ?_
  intro p e s m args below meth c s₁ B hml hv
  obtain ⟨rfl, hP, hK⟩ := hv
  have hx := B.exec
  have hb := B.bytes
  have hr := B.returns
  have hts := atoms_spec (ws := w_X9_citation__z) B.pre
  have hown : s.vm.findClass RX9 = some m.cls := findClass_of_methodNamed B.named
  have hlocks := B.notSynchronized
  have hS : va_S (fun _ : Nat => False) s.heap s.heap [] := va_S.rf
  have hP : va_P D vwCl [(h0, .inr (9, [.ref a_tape, .ref a_now, .ref a_draft, .ref a_reader, .ref a_acts, .ref a_images, .ref a_one, .ref a_other, .ref a_third, .ref a_spans, .ref a_back, .ref a_span, .ref a_middle, .ref a_reached])), (a_now, .inr (8, [.ref b_sc, .ref b_sp, .ref b_cp, .ref b_sn, .ref b_sl, .int 0, .int 0, .int 0])), (b_cp, .inl (kI, 32, .inl (fun _ => 0)))] s.heap := hP
  have hl := lv_entry ([.ref h0, .int i_0, .int i_1]) (n := 3) (Nat.le_of_ble_eq_true rfl)
  rw [lg_entry_eq]
  generalize (lg_sl ([.ref h0, .int i_0, .int i_1]) ++ List.replicate (3 - (lg_sl ([.ref h0, .int i_0, .int i_1])).length) Slot.unset).toArray = ls at hl ⊢
  have hl : lv_has ls 3 [(0, .ref h0), (1, .int i_0), (2, .int i_1)] := hl
  obtain ⟨H, hHe⟩ : ∃ H : Heap, H = s.heap := ⟨_, rfl⟩
  rw [← hHe] at hP
  have hS : va_S (fun _ : Nat => False) s.heap H [] := by rw [hHe]; exact hS
  refine pw_heap hHe ?_
  refine lv_aload_n hx hb dX9_citation_0 rfl (lv_at hl 0 rfl) ?_
  refine va_get (D := D) (ci := 9) (v := .ref a_now) (C := RX9) (T := TX9) (N := 14) hx hb hts (fun _ h => List.mem_cons_of_mem _ (List.mem_append_left _ (List.mem_append_right _ h))) hown hK hP 0 rfl rfl 1 (by decide) (hts (.fieldLink RX9 19 "LineCites" "now" "LLineCites$Work;") (List.mem_of_getElem? (i := 1) rfl)) (fun _ h9 => h9) rfl dX9_citation_1 ?_
  refine lv_iload_n hx hb dX9_citation_4 rfl (lv_at hl 1 rfl) ?_
  have hPc := hP.sub (ws' := [(a_now, .inr (8, [.ref b_sc, .ref b_sp, .ref b_cp, .ref b_sn, .ref b_sl, .int 0, .int 0, .int 0])), (b_cp, .inl (kI, 32, .inl (fun _ => 0)))]) [1, 2] rfl
  have hKc := hK.sub (tys' := [(kI, .int)]) [0] rfl
  refine va_calli (va_runV (As := [.int i_0]) (rest := []) ⟨hx, hb, hml, hown, hts⟩ (c_X8_hasCitation__z l D a_now i_0 b_sc b_sp b_cp b_sn b_sl kI) (cwV 1 hts g_X9_citation__z_X8_hasCitation__z rfl rfl rfl (by decide +kernel) ⟨Nat.le_of_ble_eq_true rfl, Nat.le_of_ble_eq_true rfl⟩) ⟨fun a U g mk q => by obtain ⟨q0, qP, qK⟩ := q; exact ⟨q0, qP, va_K.moved (u := U) (U := U.calling g mk a) (Vm.Alike.refl U.vm) qK⟩, va_recv hKc hPc (ci := 8) (q0 := 0) rfl rfl, fun U hU hW => ⟨rfl, by rw [hU]; exact hPc, va_K.moved hW.alike hKc⟩⟩ rfl rfl hl.1 rfl (lv_room (Nat.le_of_ble_eq_true rfl)) dX9_citation_5 ⟨Nat.le_of_ble_eq_true rfl, Nat.le_of_ble_eq_true rfl⟩) hS (fun _ _ h => h.elim) (fun _ h => h.elim) (fun r1 u t H1 locs ht hvm hw hB hz1 hk1 hS => ?_)
  have hP := pw_keep hP (fun q hq => hk1 q hq (fun h => h))
  generalize H1 = H at hP hS ⊢
  refine W.widen (k := 0) (n := 0) (Nat.le_of_ble_eq_true rfl) (Nat.le_of_ble_eq_true rfl) ?_
  obtain rfl : r1 = 0 := hw
  refine lv_if_eq (tgt := 21) hx hb dX9_citation_8 (by decide) (fun c2 => ?_) (fun c2 => absurd (by decide) c2)
  refine lv_ldc hx hb hown (hts (.constant RX9 88 (-1000001)) (List.mem_of_getElem? (i := 12) rfl)) dX9_citation_21 ?_
  exact W.iret (v := (-1000001)) hx hb hr (fun t ht hW => ⟨⟨(-1000001), (), rfl, rfl, trivial⟩, hS.F ht⟩) hS.2.2 dX9_citation_23
def w_X9_turned__z : List Cond := .code yX9_turned cX9_turned 7 (some .int) :: ([.fieldLink RX9 19 "LineCites" "now" "LLineCites$Work;", .methodLink RX9 182 yX8_hasCitation, .instanceMethod yX8_hasCitation, .selects RX8 yX8_hasCitation yX8_hasCitation, .initialized RX8, .code yX8_hasCitation cX8_hasCitation 2 (some .boolean), .methodLink RX8 89 yX8_citedPart, .instanceMethod yX8_citedPart, .selects RX8 yX8_citedPart yX8_citedPart, .code yX8_citedPart cX8_citedPart 4 (some .int), .fieldLink RX8 18 "LineCites$Work" "citedParts" "[I", .constant RX9 88 (-1000001)] ++ wsX90 ++ wsX80)
set_option maxRecDepth 20000 in
theorem g_X9_turned__z_X8_hasCitation__z : GoodIn w_X9_turned__z (wsV RX9 182 RX8 yX8_hasCitation w_X8_hasCitation__z) := goodIn_r _ [2, 3, 4, 5, 6, 7, 8, 9, 5, 10, 11, 27, 28, 29, 30, 31, 32, 33, 34] rfl (by decide +kernel)
set_option maxHeartbeats 4000000 in
set_option maxRecDepth 100000 in
theorem c_X9_turned__z (l : Launch) (D : va_G) (h0 : Nat) (i_0 : Int32) (i_1 : Int32) (i_2 : Int32) (a_tape : Nat) (a_now : Nat) (a_draft : Nat) (a_reader : Nat) (a_acts : Nat) (a_images : Nat) (a_one : Nat) (a_other : Nat) (a_third : Nat) (a_spans : Nat) (a_back : Nat) (a_span : Nat) (a_middle : Nat) (a_reached : Nat) (b_sc : Nat) (b_sp : Nat) (b_cp : Nat) (b_sn : Nat) (b_sl : Nat) (kI : ClassId) : Met l yX9_turned w_X9_turned__z ({ frames := 2, cells := 0, slots := 0, locals := 44 }) (va_Pc [.ref h0, .int i_0, .int i_1, .int i_2] (fun U => va_P D vwCl [(h0, .inr (9, [.ref a_tape, .ref a_now, .ref a_draft, .ref a_reader, .ref a_acts, .ref a_images, .ref a_one, .ref a_other, .ref a_third, .ref a_spans, .ref a_back, .ref a_span, .ref a_middle, .ref a_reached])), (a_now, .inr (8, [.ref b_sc, .ref b_sp, .ref b_cp, .ref b_sn, .ref b_sl, .int 0, .int 0, .int 0])), (b_cp, .inl (kI, 32, .inl (fun _ => 0)))] U.heap ∧ va_K D vwCl [(kI, .int)] U)) (va_Qi (fun (r : Int32) (_ : Unit) => r = (-1000001)) (fun _ _ => True) (fun _ => False)) 0 0 (fun _ => False) := by
  refine Met.ofW (cc := cX9_turned) (maxL := 7) (ret := (some .int)) (by decide) rfl ?_
  intro p e s m args below meth c s₁ B hml hv
  obtain ⟨rfl, hP, hK⟩ := hv
  have hx := B.exec
  have hb := B.bytes
  have hr := B.returns
  have hts := atoms_spec (ws := w_X9_turned__z) B.pre
  have hown : s.vm.findClass RX9 = some m.cls := findClass_of_methodNamed B.named
  have hlocks := B.notSynchronized
  have hS : va_S (fun _ : Nat => False) s.heap s.heap [] := va_S.rf
  have hP : va_P D vwCl [(h0, .inr (9, [.ref a_tape, .ref a_now, .ref a_draft, .ref a_reader, .ref a_acts, .ref a_images, .ref a_one, .ref a_other, .ref a_third, .ref a_spans, .ref a_back, .ref a_span, .ref a_middle, .ref a_reached])), (a_now, .inr (8, [.ref b_sc, .ref b_sp, .ref b_cp, .ref b_sn, .ref b_sl, .int 0, .int 0, .int 0])), (b_cp, .inl (kI, 32, .inl (fun _ => 0)))] s.heap := hP
  have hl := lv_entry ([.ref h0, .int i_0, .int i_1, .int i_2]) (n := 7) (Nat.le_of_ble_eq_true rfl)
  rw [lg_entry_eq]
  generalize (lg_sl ([.ref h0, .int i_0, .int i_1, .int i_2]) ++ List.replicate (7 - (lg_sl ([.ref h0, .int i_0, .int i_1, .int i_2])).length) Slot.unset).toArray = ls at hl ⊢
  have hl : lv_has ls 7 [(0, .ref h0), (1, .int i_0), (2, .int i_1), (3, .int i_2)] := hl
  obtain ⟨H, hHe⟩ : ∃ H : Heap, H = s.heap := ⟨_, rfl⟩
  rw [← hHe] at hP
  have hS : va_S (fun _ : Nat => False) s.heap H [] := by rw [hHe]; exact hS
  refine pw_heap hHe ?_
  refine lv_aload_n hx hb dX9_turned_0 rfl (lv_at hl 0 rfl) ?_
  refine va_get (D := D) (ci := 9) (v := .ref a_now) (C := RX9) (T := TX9) (N := 14) hx hb hts (fun _ h => List.mem_cons_of_mem _ (List.mem_append_left _ (List.mem_append_right _ h))) hown hK hP 0 rfl rfl 1 (by decide) (hts (.fieldLink RX9 19 "LineCites" "now" "LLineCites$Work;") (List.mem_of_getElem? (i := 1) rfl)) (fun _ h9 => h9) rfl dX9_turned_1 ?_
  refine lv_iload_n hx hb dX9_turned_4 rfl (lv_at hl 1 rfl) ?_
  have hPc := hP.sub (ws' := [(a_now, .inr (8, [.ref b_sc, .ref b_sp, .ref b_cp, .ref b_sn, .ref b_sl, .int 0, .int 0, .int 0])), (b_cp, .inl (kI, 32, .inl (fun _ => 0)))]) [1, 2] rfl
  have hKc := hK.sub (tys' := [(kI, .int)]) [0] rfl
  refine va_calli (va_runV (As := [.int i_0]) (rest := []) ⟨hx, hb, hml, hown, hts⟩ (c_X8_hasCitation__z l D a_now i_0 b_sc b_sp b_cp b_sn b_sl kI) (cwV 1 hts g_X9_turned__z_X8_hasCitation__z rfl rfl rfl (by decide +kernel) ⟨Nat.le_of_ble_eq_true rfl, Nat.le_of_ble_eq_true rfl⟩) ⟨fun a U g mk q => by obtain ⟨q0, qP, qK⟩ := q; exact ⟨q0, qP, va_K.moved (u := U) (U := U.calling g mk a) (Vm.Alike.refl U.vm) qK⟩, va_recv hKc hPc (ci := 8) (q0 := 0) rfl rfl, fun U hU hW => ⟨rfl, by rw [hU]; exact hPc, va_K.moved hW.alike hKc⟩⟩ rfl rfl hl.1 rfl (lv_room (Nat.le_of_ble_eq_true rfl)) dX9_turned_5 ⟨Nat.le_of_ble_eq_true rfl, Nat.le_of_ble_eq_true rfl⟩) hS (fun _ _ h => h.elim) (fun _ h => h.elim) (fun r1 u t H1 locs ht hvm hw hB hz1 hk1 hS => ?_)
  have hP := pw_keep hP (fun q hq => hk1 q hq (fun h => h))
  generalize H1 = H at hP hS ⊢
  refine W.widen (k := 0) (n := 0) (Nat.le_of_ble_eq_true rfl) (Nat.le_of_ble_eq_true rfl) ?_
  obtain rfl : r1 = 0 := hw
  refine lv_if_eq (tgt := 22) hx hb dX9_turned_8 (by decide) (fun c2 => ?_) (fun c2 => absurd (by decide) c2)
  refine lv_ldc hx hb hown (hts (.constant RX9 88 (-1000001)) (List.mem_of_getElem? (i := 12) rfl)) dX9_turned_22 ?_
  exact W.iret (v := (-1000001)) hx hb hr (fun t ht hW => ⟨⟨(-1000001), (), rfl, rfl, trivial⟩, hS.F ht⟩) hS.2.2 dX9_turned_24
def w_X9_meet__z : List Cond := .code yX9_meet cX9_meet 8 (some .int) :: ([.fieldLink RX9 19 "LineCites" "now" "LLineCites$Work;", .methodLink RX9 182 yX8_hasCitation, .instanceMethod yX8_hasCitation, .selects RX8 yX8_hasCitation yX8_hasCitation, .initialized RX8, .code yX8_hasCitation cX8_hasCitation 2 (some .boolean), .methodLink RX8 89 yX8_citedPart, .instanceMethod yX8_citedPart, .selects RX8 yX8_citedPart yX8_citedPart, .code yX8_citedPart cX8_citedPart 4 (some .int), .fieldLink RX8 18 "LineCites$Work" "citedParts" "[I", .constant RX9 88 (-1000001)] ++ wsX90 ++ wsX80)
set_option maxRecDepth 20000 in
theorem g_X9_meet__z_X8_hasCitation__z : GoodIn w_X9_meet__z (wsV RX9 182 RX8 yX8_hasCitation w_X8_hasCitation__z) := goodIn_r _ [2, 3, 4, 5, 6, 7, 8, 9, 5, 10, 11, 27, 28, 29, 30, 31, 32, 33, 34] rfl (by decide +kernel)
set_option maxHeartbeats 4000000 in
set_option maxRecDepth 100000 in
theorem c_X9_meet__z (l : Launch) (D : va_G) (h0 : Nat) (i_0 : Int32) (i_1 : Int32) (i_2 : Int32) (a_tape : Nat) (a_now : Nat) (a_draft : Nat) (a_reader : Nat) (a_acts : Nat) (a_images : Nat) (a_one : Nat) (a_other : Nat) (a_third : Nat) (a_spans : Nat) (a_back : Nat) (a_span : Nat) (a_middle : Nat) (a_reached : Nat) (b_sc : Nat) (b_sp : Nat) (b_cp : Nat) (b_sn : Nat) (b_sl : Nat) (kI : ClassId) : Met l yX9_meet w_X9_meet__z ({ frames := 2, cells := 0, slots := 0, locals := 44 }) (va_Pc [.ref h0, .int i_0, .int i_1, .int i_2] (fun U => va_P D vwCl [(h0, .inr (9, [.ref a_tape, .ref a_now, .ref a_draft, .ref a_reader, .ref a_acts, .ref a_images, .ref a_one, .ref a_other, .ref a_third, .ref a_spans, .ref a_back, .ref a_span, .ref a_middle, .ref a_reached])), (a_now, .inr (8, [.ref b_sc, .ref b_sp, .ref b_cp, .ref b_sn, .ref b_sl, .int 0, .int 0, .int 0])), (b_cp, .inl (kI, 32, .inl (fun _ => 0)))] U.heap ∧ va_K D vwCl [(kI, .int)] U)) (va_Qi (fun (r : Int32) (_ : Unit) => r = (-1000001)) (fun _ _ => True) (fun _ => False)) 0 0 (fun _ => False) := by
  refine Met.ofW (cc := cX9_meet) (maxL := 8) (ret := (some .int)) (by decide) rfl ?_
  intro p e s m args below meth c s₁ B hml hv
  obtain ⟨rfl, hP, hK⟩ := hv
  have hx := B.exec
  have hb := B.bytes
  have hr := B.returns
  have hts := atoms_spec (ws := w_X9_meet__z) B.pre
  have hown : s.vm.findClass RX9 = some m.cls := findClass_of_methodNamed B.named
  have hlocks := B.notSynchronized
  have hS : va_S (fun _ : Nat => False) s.heap s.heap [] := va_S.rf
  have hP : va_P D vwCl [(h0, .inr (9, [.ref a_tape, .ref a_now, .ref a_draft, .ref a_reader, .ref a_acts, .ref a_images, .ref a_one, .ref a_other, .ref a_third, .ref a_spans, .ref a_back, .ref a_span, .ref a_middle, .ref a_reached])), (a_now, .inr (8, [.ref b_sc, .ref b_sp, .ref b_cp, .ref b_sn, .ref b_sl, .int 0, .int 0, .int 0])), (b_cp, .inl (kI, 32, .inl (fun _ => 0)))] s.heap := hP
  have hl := lv_entry ([.ref h0, .int i_0, .int i_1, .int i_2]) (n := 8) (Nat.le_of_ble_eq_true rfl)
  rw [lg_entry_eq]
  generalize (lg_sl ([.ref h0, .int i_0, .int i_1, .int i_2]) ++ List.replicate (8 - (lg_sl ([.ref h0, .int i_0, .int i_1, .int i_2])).length) Slot.unset).toArray = ls at hl ⊢
  have hl : lv_has ls 8 [(0, .ref h0), (1, .int i_0), (2, .int i_1), (3, .int i_2)] := hl
  obtain ⟨H, hHe⟩ : ∃ H : Heap, H = s.heap := ⟨_, rfl⟩
  rw [← hHe] at hP
  have hS : va_S (fun _ : Nat => False) s.heap H [] := by rw [hHe]; exact hS
  refine pw_heap hHe ?_
  refine lv_aload_n hx hb dX9_meet_0 rfl (lv_at hl 0 rfl) ?_
  refine va_get (D := D) (ci := 9) (v := .ref a_now) (C := RX9) (T := TX9) (N := 14) hx hb hts (fun _ h => List.mem_cons_of_mem _ (List.mem_append_left _ (List.mem_append_right _ h))) hown hK hP 0 rfl rfl 1 (by decide) (hts (.fieldLink RX9 19 "LineCites" "now" "LLineCites$Work;") (List.mem_of_getElem? (i := 1) rfl)) (fun _ h9 => h9) rfl dX9_meet_1 ?_
  refine lv_iload_n hx hb dX9_meet_4 rfl (lv_at hl 1 rfl) ?_
  have hPc := hP.sub (ws' := [(a_now, .inr (8, [.ref b_sc, .ref b_sp, .ref b_cp, .ref b_sn, .ref b_sl, .int 0, .int 0, .int 0])), (b_cp, .inl (kI, 32, .inl (fun _ => 0)))]) [1, 2] rfl
  have hKc := hK.sub (tys' := [(kI, .int)]) [0] rfl
  refine va_calli (va_runV (As := [.int i_0]) (rest := []) ⟨hx, hb, hml, hown, hts⟩ (c_X8_hasCitation__z l D a_now i_0 b_sc b_sp b_cp b_sn b_sl kI) (cwV 1 hts g_X9_meet__z_X8_hasCitation__z rfl rfl rfl (by decide +kernel) ⟨Nat.le_of_ble_eq_true rfl, Nat.le_of_ble_eq_true rfl⟩) ⟨fun a U g mk q => by obtain ⟨q0, qP, qK⟩ := q; exact ⟨q0, qP, va_K.moved (u := U) (U := U.calling g mk a) (Vm.Alike.refl U.vm) qK⟩, va_recv hKc hPc (ci := 8) (q0 := 0) rfl rfl, fun U hU hW => ⟨rfl, by rw [hU]; exact hPc, va_K.moved hW.alike hKc⟩⟩ rfl rfl hl.1 rfl (lv_room (Nat.le_of_ble_eq_true rfl)) dX9_meet_5 ⟨Nat.le_of_ble_eq_true rfl, Nat.le_of_ble_eq_true rfl⟩) hS (fun _ _ h => h.elim) (fun _ h => h.elim) (fun r1 u t H1 locs ht hvm hw hB hz1 hk1 hS => ?_)
  have hP := pw_keep hP (fun q hq => hk1 q hq (fun h => h))
  generalize H1 = H at hP hS ⊢
  refine W.widen (k := 0) (n := 0) (Nat.le_of_ble_eq_true rfl) (Nat.le_of_ble_eq_true rfl) ?_
  obtain rfl : r1 = 0 := hw
  refine lv_if_eq (tgt := 31) hx hb dX9_meet_8 (by decide) (fun c2 => ?_) (fun c2 => absurd (by decide) c2)
  refine lv_ldc hx hb hown (hts (.constant RX9 88 (-1000001)) (List.mem_of_getElem? (i := 12) rfl)) dX9_meet_31 ?_
  exact W.iret (v := (-1000001)) hx hb hr (fun t ht hW => ⟨⟨(-1000001), (), rfl, rfl, trivial⟩, hS.F ht⟩) hS.2.2 dX9_meet_33
def w_X9_could__z : List Cond := .code yX9_could cX9_could 5 (some .int) :: ([.fieldLink RX9 19 "LineCites" "now" "LLineCites$Work;", .methodLink RX9 182 yX8_hasCitation, .instanceMethod yX8_hasCitation, .selects RX8 yX8_hasCitation yX8_hasCitation, .initialized RX8, .code yX8_hasCitation cX8_hasCitation 2 (some .boolean), .methodLink RX8 89 yX8_citedPart, .instanceMethod yX8_citedPart, .selects RX8 yX8_citedPart yX8_citedPart, .code yX8_citedPart cX8_citedPart 4 (some .int), .fieldLink RX8 18 "LineCites$Work" "citedParts" "[I", .constant RX9 88 (-1000001)] ++ wsX90 ++ wsX80)
set_option maxRecDepth 20000 in
theorem g_X9_could__z_X8_hasCitation__z : GoodIn w_X9_could__z (wsV RX9 182 RX8 yX8_hasCitation w_X8_hasCitation__z) := goodIn_r _ [2, 3, 4, 5, 6, 7, 8, 9, 5, 10, 11, 27, 28, 29, 30, 31, 32, 33, 34] rfl (by decide +kernel)
set_option maxHeartbeats 4000000 in
set_option maxRecDepth 100000 in
theorem c_X9_could__z (l : Launch) (D : va_G) (h0 : Nat) (i_0 : Int32) (i_1 : Int32) (a_tape : Nat) (a_now : Nat) (a_draft : Nat) (a_reader : Nat) (a_acts : Nat) (a_images : Nat) (a_one : Nat) (a_other : Nat) (a_third : Nat) (a_spans : Nat) (a_back : Nat) (a_span : Nat) (a_middle : Nat) (a_reached : Nat) (b_sc : Nat) (b_sp : Nat) (b_cp : Nat) (b_sn : Nat) (b_sl : Nat) (kI : ClassId) : Met l yX9_could w_X9_could__z ({ frames := 2, cells := 0, slots := 0, locals := 44 }) (va_Pc [.ref h0, .int i_0, .int i_1] (fun U => va_P D vwCl [(h0, .inr (9, [.ref a_tape, .ref a_now, .ref a_draft, .ref a_reader, .ref a_acts, .ref a_images, .ref a_one, .ref a_other, .ref a_third, .ref a_spans, .ref a_back, .ref a_span, .ref a_middle, .ref a_reached])), (a_now, .inr (8, [.ref b_sc, .ref b_sp, .ref b_cp, .ref b_sn, .ref b_sl, .int 0, .int 0, .int 0])), (b_cp, .inl (kI, 32, .inl (fun _ => 0)))] U.heap ∧ va_K D vwCl [(kI, .int)] U)) (va_Qi (fun (r : Int32) (_ : Unit) => r = (-1000001)) (fun _ _ => True) (fun _ => False)) 0 0 (fun _ => False) := by
  refine Met.ofW (cc := cX9_could) (maxL := 5) (ret := (some .int)) (by decide) rfl ?_
  intro p e s m args below meth c s₁ B hml hv
  obtain ⟨rfl, hP, hK⟩ := hv
  have hx := B.exec
  have hb := B.bytes
  have hr := B.returns
  have hts := atoms_spec (ws := w_X9_could__z) B.pre
  have hown : s.vm.findClass RX9 = some m.cls := findClass_of_methodNamed B.named
  have hlocks := B.notSynchronized
  have hS : va_S (fun _ : Nat => False) s.heap s.heap [] := va_S.rf
  have hP : va_P D vwCl [(h0, .inr (9, [.ref a_tape, .ref a_now, .ref a_draft, .ref a_reader, .ref a_acts, .ref a_images, .ref a_one, .ref a_other, .ref a_third, .ref a_spans, .ref a_back, .ref a_span, .ref a_middle, .ref a_reached])), (a_now, .inr (8, [.ref b_sc, .ref b_sp, .ref b_cp, .ref b_sn, .ref b_sl, .int 0, .int 0, .int 0])), (b_cp, .inl (kI, 32, .inl (fun _ => 0)))] s.heap := hP
  have hl := lv_entry ([.ref h0, .int i_0, .int i_1]) (n := 5) (Nat.le_of_ble_eq_true rfl)
  rw [lg_entry_eq]
  generalize (lg_sl ([.ref h0, .int i_0, .int i_1]) ++ List.replicate (5 - (lg_sl ([.ref h0, .int i_0, .int i_1])).length) Slot.unset).toArray = ls at hl ⊢
  have hl : lv_has ls 5 [(0, .ref h0), (1, .int i_0), (2, .int i_1)] := hl
  obtain ⟨H, hHe⟩ : ∃ H : Heap, H = s.heap := ⟨_, rfl⟩
  rw [← hHe] at hP
  have hS : va_S (fun _ : Nat => False) s.heap H [] := by rw [hHe]; exact hS
  refine pw_heap hHe ?_
  refine lv_aload_n hx hb dX9_could_0 rfl (lv_at hl 0 rfl) ?_
  refine va_get (D := D) (ci := 9) (v := .ref a_now) (C := RX9) (T := TX9) (N := 14) hx hb hts (fun _ h => List.mem_cons_of_mem _ (List.mem_append_left _ (List.mem_append_right _ h))) hown hK hP 0 rfl rfl 1 (by decide) (hts (.fieldLink RX9 19 "LineCites" "now" "LLineCites$Work;") (List.mem_of_getElem? (i := 1) rfl)) (fun _ h9 => h9) rfl dX9_could_1 ?_
  refine lv_iload_n hx hb dX9_could_4 rfl (lv_at hl 1 rfl) ?_
  have hPc := hP.sub (ws' := [(a_now, .inr (8, [.ref b_sc, .ref b_sp, .ref b_cp, .ref b_sn, .ref b_sl, .int 0, .int 0, .int 0])), (b_cp, .inl (kI, 32, .inl (fun _ => 0)))]) [1, 2] rfl
  have hKc := hK.sub (tys' := [(kI, .int)]) [0] rfl
  refine va_calli (va_runV (As := [.int i_0]) (rest := []) ⟨hx, hb, hml, hown, hts⟩ (c_X8_hasCitation__z l D a_now i_0 b_sc b_sp b_cp b_sn b_sl kI) (cwV 1 hts g_X9_could__z_X8_hasCitation__z rfl rfl rfl (by decide +kernel) ⟨Nat.le_of_ble_eq_true rfl, Nat.le_of_ble_eq_true rfl⟩) ⟨fun a U g mk q => by obtain ⟨q0, qP, qK⟩ := q; exact ⟨q0, qP, va_K.moved (u := U) (U := U.calling g mk a) (Vm.Alike.refl U.vm) qK⟩, va_recv hKc hPc (ci := 8) (q0 := 0) rfl rfl, fun U hU hW => ⟨rfl, by rw [hU]; exact hPc, va_K.moved hW.alike hKc⟩⟩ rfl rfl hl.1 rfl (lv_room (Nat.le_of_ble_eq_true rfl)) dX9_could_5 ⟨Nat.le_of_ble_eq_true rfl, Nat.le_of_ble_eq_true rfl⟩) hS (fun _ _ h => h.elim) (fun _ h => h.elim) (fun r1 u t H1 locs ht hvm hw hB hz1 hk1 hS => ?_)
  have hP := pw_keep hP (fun q hq => hk1 q hq (fun h => h))
  generalize H1 = H at hP hS ⊢
  refine W.widen (k := 0) (n := 0) (Nat.le_of_ble_eq_true rfl) (Nat.le_of_ble_eq_true rfl) ?_
  obtain rfl : r1 = 0 := hw
  refine lv_if_eq (tgt := 22) hx hb dX9_could_8 (by decide) (fun c2 => ?_) (fun c2 => absurd (by decide) c2)
  refine lv_ldc hx hb hown (hts (.constant RX9 88 (-1000001)) (List.mem_of_getElem? (i := 12) rfl)) dX9_could_22 ?_
  exact W.iret (v := (-1000001)) hx hb hr (fun t ht hW => ⟨⟨(-1000001), (), rfl, rfl, trivial⟩, hS.F ht⟩) hS.2.2 dX9_could_24
def w_X9_best__z : List Cond := .code yX9_best cX9_best 5 (some .int) :: ([.fieldLink RX9 19 "LineCites" "now" "LLineCites$Work;", .methodLink RX9 248 yX8_lines, .instanceMethod yX8_lines, .selects RX8 yX8_lines yX8_lines, .initialized RX8, .code yX8_lines cX8_lines 1 (some .int), .fieldLink RX8 33 "LineCites$Work" "lines" "I", .constant RX9 137 (-1000002)] ++ wsX90 ++ wsX80)
set_option maxRecDepth 20000 in
theorem g_X9_best__z_X8_lines__z : GoodIn w_X9_best__z (wsV RX9 248 RX8 yX8_lines w_X8_lines__z) := goodIn_r _ [2, 3, 4, 5, 6, 7, 23, 24, 25, 26, 27, 28, 29, 30] rfl (by decide +kernel)
set_option maxHeartbeats 4000000 in
set_option maxRecDepth 100000 in
theorem c_X9_best__z (l : Launch) (D : va_G) (h0 : Nat) (a_tape : Nat) (a_now : Nat) (a_draft : Nat) (a_reader : Nat) (a_acts : Nat) (a_images : Nat) (a_one : Nat) (a_other : Nat) (a_third : Nat) (a_spans : Nat) (a_back : Nat) (a_span : Nat) (a_middle : Nat) (a_reached : Nat) (b_sc : Nat) (b_sp : Nat) (b_cp : Nat) (b_sn : Nat) (b_sl : Nat) : Met l yX9_best w_X9_best__z ({ frames := 1, cells := 0, slots := 0, locals := 20 }) (va_Pc [.ref h0] (fun U => va_P D vwCl [(h0, .inr (9, [.ref a_tape, .ref a_now, .ref a_draft, .ref a_reader, .ref a_acts, .ref a_images, .ref a_one, .ref a_other, .ref a_third, .ref a_spans, .ref a_back, .ref a_span, .ref a_middle, .ref a_reached])), (a_now, .inr (8, [.ref b_sc, .ref b_sp, .ref b_cp, .ref b_sn, .ref b_sl, .int 0, .int 0, .int 0]))] U.heap ∧ va_K D vwCl [] U)) (va_Qi (fun (r : Int32) (_ : Unit) => r = (-1000002)) (fun _ _ => True) (fun _ => False)) 0 0 (fun _ => False) := by
  refine Met.ofW (cc := cX9_best) (maxL := 5) (ret := (some .int)) (by decide) rfl ?_
  intro p e s m args below meth c s₁ B hml hv
  obtain ⟨rfl, hP, hK⟩ := hv
  have hx := B.exec
  have hb := B.bytes
  have hr := B.returns
  have hts := atoms_spec (ws := w_X9_best__z) B.pre
  have hown : s.vm.findClass RX9 = some m.cls := findClass_of_methodNamed B.named
  have hlocks := B.notSynchronized
  have hS : va_S (fun _ : Nat => False) s.heap s.heap [] := va_S.rf
  have hP : va_P D vwCl [(h0, .inr (9, [.ref a_tape, .ref a_now, .ref a_draft, .ref a_reader, .ref a_acts, .ref a_images, .ref a_one, .ref a_other, .ref a_third, .ref a_spans, .ref a_back, .ref a_span, .ref a_middle, .ref a_reached])), (a_now, .inr (8, [.ref b_sc, .ref b_sp, .ref b_cp, .ref b_sn, .ref b_sl, .int 0, .int 0, .int 0]))] s.heap := hP
  have hl := lv_entry ([.ref h0]) (n := 5) (Nat.le_of_ble_eq_true rfl)
  rw [lg_entry_eq]
  generalize (lg_sl ([.ref h0]) ++ List.replicate (5 - (lg_sl ([.ref h0])).length) Slot.unset).toArray = ls at hl ⊢
  have hl : lv_has ls 5 [(0, .ref h0)] := hl
  obtain ⟨H, hHe⟩ : ∃ H : Heap, H = s.heap := ⟨_, rfl⟩
  rw [← hHe] at hP
  have hS : va_S (fun _ : Nat => False) s.heap H [] := by rw [hHe]; exact hS
  refine pw_heap hHe ?_
  refine lv_aload_n hx hb dX9_best_0 rfl (lv_at hl 0 rfl) ?_
  refine va_get (D := D) (ci := 9) (v := .ref a_now) (C := RX9) (T := TX9) (N := 14) hx hb hts (fun _ h => List.mem_cons_of_mem _ (List.mem_append_left _ (List.mem_append_right _ h))) hown hK hP 0 rfl rfl 1 (by decide) (hts (.fieldLink RX9 19 "LineCites" "now" "LLineCites$Work;") (List.mem_of_getElem? (i := 1) rfl)) (fun _ h9 => h9) rfl dX9_best_1 ?_
  have hPc := hP.sub (ws' := [(a_now, .inr (8, [.ref b_sc, .ref b_sp, .ref b_cp, .ref b_sn, .ref b_sl, .int 0, .int 0, .int 0]))]) [1] rfl
  have hKc := hK.sub (tys' := []) [] rfl
  refine va_calli (va_runV (As := []) (rest := []) ⟨hx, hb, hml, hown, hts⟩ (c_X8_lines__z l D a_now b_sc b_sp b_cp b_sn b_sl) (cwV 0 hts g_X9_best__z_X8_lines__z rfl rfl rfl (by decide +kernel) ⟨Nat.le_of_ble_eq_true rfl, Nat.le_of_ble_eq_true rfl⟩) ⟨fun a U g mk q => by obtain ⟨q0, qP, qK⟩ := q; exact ⟨q0, qP, va_K.moved (u := U) (U := U.calling g mk a) (Vm.Alike.refl U.vm) qK⟩, va_recv hKc hPc (ci := 8) (q0 := 0) rfl rfl, fun U hU hW => ⟨rfl, by rw [hU]; exact hPc, va_K.moved hW.alike hKc⟩⟩ rfl rfl hl.1 rfl (lv_room (Nat.le_of_ble_eq_true rfl)) dX9_best_4 ⟨Nat.le_of_ble_eq_true rfl, Nat.le_of_ble_eq_true rfl⟩) hS (fun _ _ h => h.elim) (fun _ h => h.elim) (fun r1 u t H1 locs ht hvm hw hB hz1 hk1 hS => ?_)
  have hP := pw_keep hP (fun q hq => hk1 q hq (fun h => h))
  generalize H1 = H at hP hS ⊢
  refine W.widen (k := 0) (n := 0) (Nat.le_of_ble_eq_true rfl) (Nat.le_of_ble_eq_true rfl) ?_
  obtain rfl : r1 = 0 := hw
  refine lv_if_ne (tgt := 13) hx hb dX9_best_7 (by decide) (fun c2 => absurd (by decide) c2) (fun c2 => ?_)
  refine lv_ldc hx hb hown (hts (.constant RX9 137 (-1000002)) (List.mem_of_getElem? (i := 8) rfl)) dX9_best_10 ?_
  exact W.iret (v := (-1000002)) hx hb hr (fun t ht hW => ⟨⟨(-1000002), (), rfl, rfl, trivial⟩, hS.F ht⟩) hS.2.2 dX9_best_12
def w_X9_image__z : List Cond := .code yX9_image cX9_image 3 (some .int) :: ([.constant RX9 88 (-1000001), .fieldLink RX9 44 "LineCites" "images" "[LLineCites$Image;", .fieldLink RX9 19 "LineCites" "now" "LLineCites$Work;", .methodLink RX9 248 yX8_lines, .instanceMethod yX8_lines, .selects RX8 yX8_lines yX8_lines, .initialized RX8, .code yX8_lines cX8_lines 1 (some .int), .fieldLink RX8 33 "LineCites$Work" "lines" "I", .constant RX9 137 (-1000002)] ++ wsX90 ++ wsX80)
set_option maxRecDepth 20000 in
theorem g_X9_image__z_X8_lines__z : GoodIn w_X9_image__z (wsV RX9 248 RX8 yX8_lines w_X8_lines__z) := goodIn_r _ [4, 5, 6, 7, 8, 9, 25, 26, 27, 28, 29, 30, 31, 32] rfl (by decide +kernel)
set_option maxHeartbeats 4000000 in
set_option maxRecDepth 100000 in
theorem c_X9_image__z (l : Launch) (D : va_G) (h0 : Nat) (i_0 : Int32) (a_tape : Nat) (a_now : Nat) (a_draft : Nat) (a_reader : Nat) (a_acts : Nat) (a_images : Nat) (a_one : Nat) (a_other : Nat) (a_third : Nat) (a_spans : Nat) (a_back : Nat) (a_span : Nat) (a_middle : Nat) (a_reached : Nat) (b_sc : Nat) (b_sp : Nat) (b_cp : Nat) (b_sn : Nat) (b_sl : Nat) (kM : ClassId) : Met l yX9_image w_X9_image__z ({ frames := 1, cells := 0, slots := 0, locals := 20 }) (va_Pc [.ref h0, .int i_0] (fun U => va_P D vwCl [(h0, .inr (9, [.ref a_tape, .ref a_now, .ref a_draft, .ref a_reader, .ref a_acts, .ref a_images, .ref a_one, .ref a_other, .ref a_third, .ref a_spans, .ref a_back, .ref a_span, .ref a_middle, .ref a_reached])), (a_now, .inr (8, [.ref b_sc, .ref b_sp, .ref b_cp, .ref b_sn, .ref b_sl, .int 0, .int 0, .int 0])), (a_images, .inl (kM, 2, .inr (.inr (.inr (.inr (fun _ => none))))))] U.heap ∧ va_K D vwCl [(kM, .object RX1)] U)) (va_Qi (fun (r : Int32) (_ : Unit) => r = sp_rng i_0 1 (-1000002) (-1000001)) (fun _ _ => True) (fun _ => False)) 0 0 (fun _ => False) := by
  refine Met.ofW (cc := cX9_image) (maxL := 3) (ret := (some .int)) (by decide) rfl ?_
  intro p e s m args below meth c s₁ B hml hv
  obtain ⟨rfl, hP, hK⟩ := hv
  have hx := B.exec
  have hb := B.bytes
  have hr := B.returns
  have hts := atoms_spec (ws := w_X9_image__z) B.pre
  have hown : s.vm.findClass RX9 = some m.cls := findClass_of_methodNamed B.named
  have hlocks := B.notSynchronized
  have hS : va_S (fun _ : Nat => False) s.heap s.heap [] := va_S.rf
  have hP : va_P D vwCl [(h0, .inr (9, [.ref a_tape, .ref a_now, .ref a_draft, .ref a_reader, .ref a_acts, .ref a_images, .ref a_one, .ref a_other, .ref a_third, .ref a_spans, .ref a_back, .ref a_span, .ref a_middle, .ref a_reached])), (a_now, .inr (8, [.ref b_sc, .ref b_sp, .ref b_cp, .ref b_sn, .ref b_sl, .int 0, .int 0, .int 0])), (a_images, .inl (kM, 2, .inr (.inr (.inr (.inr (fun _ => none))))))] s.heap := hP
  have hl := lv_entry ([.ref h0, .int i_0]) (n := 3) (Nat.le_of_ble_eq_true rfl)
  rw [lg_entry_eq]
  generalize (lg_sl ([.ref h0, .int i_0]) ++ List.replicate (3 - (lg_sl ([.ref h0, .int i_0])).length) Slot.unset).toArray = ls at hl ⊢
  have hl : lv_has ls 3 [(0, .ref h0), (1, .int i_0)] := hl
  obtain ⟨H, hHe⟩ : ∃ H : Heap, H = s.heap := ⟨_, rfl⟩
  rw [← hHe] at hP
  have hS : va_S (fun _ : Nat => False) s.heap H [] := by rw [hHe]; exact hS
  refine pw_heap hHe ?_
  refine lv_iload_n hx hb dX9_image_0 rfl (lv_at hl 1 rfl) ?_
  refine lv_if_lt (tgt := 13) hx hb dX9_image_1 (by decide) (fun c1 => ?_) (fun c1 => ?_)
  · have nc1 : i_0.toInt < 0 := pw_lt c1 rfl (by decide)
    refine lv_ldc hx hb hown (hts (.constant RX9 88 (-1000001)) (List.mem_of_getElem? (i := 1) rfl)) dX9_image_13 ?_
    exact W.iret (v := (-1000001)) hx hb hr (fun t ht hW => ⟨⟨(-1000001), (), rfl, sp_out (by omega), trivial⟩, hS.F ht⟩) hS.2.2 dX9_image_15
  · have nc1 : 0 ≤ i_0.toInt := pw_nlt c1 rfl (by decide)
    refine lv_iload_n hx hb dX9_image_4 rfl (lv_at hl 1 rfl) ?_
    refine lv_aload_n hx hb dX9_image_5 rfl (lv_at hl 0 rfl) ?_
    refine va_get (D := D) (ci := 9) (v := .ref a_images) (C := RX9) (T := TX9) (N := 14) hx hb hts (fun _ h => List.mem_cons_of_mem _ (List.mem_append_left _ (List.mem_append_right _ h))) hown hK hP 0 rfl rfl 5 (by decide) (hts (.fieldLink RX9 44 "LineCites" "images" "[LLineCites$Image;") (List.mem_of_getElem? (i := 2) rfl)) (fun _ h9 => h9) rfl dX9_image_6 ?_
    refine va_alen (v := 2) hx hb hK hP 2 0 rfl rfl rfl dX9_image_9 ?_
    refine lv_icmp_lt (tgt := 16) hx hb dX9_image_10 (by decide) (fun c2 => ?_) (fun c2 => ?_)
    · have nc2 : i_0.toInt < 2 := pw_lt c2 rfl (by decide)
      refine lv_aload_n hx hb dX9_image_16 rfl (lv_at hl 0 rfl) ?_
      refine va_get (D := D) (ci := 9) (v := .ref a_now) (C := RX9) (T := TX9) (N := 14) hx hb hts (fun _ h => List.mem_cons_of_mem _ (List.mem_append_left _ (List.mem_append_right _ h))) hown hK hP 0 rfl rfl 1 (by decide) (hts (.fieldLink RX9 19 "LineCites" "now" "LLineCites$Work;") (List.mem_of_getElem? (i := 3) rfl)) (fun _ h9 => h9) rfl dX9_image_17 ?_
      have hPc := hP.sub (ws' := [(a_now, .inr (8, [.ref b_sc, .ref b_sp, .ref b_cp, .ref b_sn, .ref b_sl, .int 0, .int 0, .int 0]))]) [1] rfl
      have hKc := hK.sub (tys' := []) [] rfl
      refine va_calli (va_runV (As := []) (rest := []) ⟨hx, hb, hml, hown, hts⟩ (c_X8_lines__z l D a_now b_sc b_sp b_cp b_sn b_sl) (cwV 0 hts g_X9_image__z_X8_lines__z rfl rfl rfl (by decide +kernel) ⟨Nat.le_of_ble_eq_true rfl, Nat.le_of_ble_eq_true rfl⟩) ⟨fun a U g mk q => by obtain ⟨q0, qP, qK⟩ := q; exact ⟨q0, qP, va_K.moved (u := U) (U := U.calling g mk a) (Vm.Alike.refl U.vm) qK⟩, va_recv hKc hPc (ci := 8) (q0 := 0) rfl rfl, fun U hU hW => ⟨rfl, by rw [hU]; exact hPc, va_K.moved hW.alike hKc⟩⟩ rfl rfl hl.1 rfl (lv_room (Nat.le_of_ble_eq_true rfl)) dX9_image_20 ⟨Nat.le_of_ble_eq_true rfl, Nat.le_of_ble_eq_true rfl⟩) hS (fun _ _ h => h.elim) (fun _ h => h.elim) (fun r3 u t H1 locs ht hvm hw hB hz1 hk1 hS => ?_)
      have hP := pw_keep hP (fun q hq => hk1 q hq (fun h => h))
      generalize H1 = H at hP hS ⊢
      refine W.widen (k := 0) (n := 0) (Nat.le_of_ble_eq_true rfl) (Nat.le_of_ble_eq_true rfl) ?_
      obtain rfl : r3 = 0 := hw
      refine lv_if_ne (tgt := 29) hx hb dX9_image_23 (by decide) (fun c4 => absurd (by decide) c4) (fun c4 => ?_)
      refine lv_ldc hx hb hown (hts (.constant RX9 137 (-1000002)) (List.mem_of_getElem? (i := 10) rfl)) dX9_image_26 ?_
      exact W.iret (v := (-1000002)) hx hb hr (fun t ht hW => ⟨⟨(-1000002), (), rfl, sp_in (by omega) (by omega), trivial⟩, hS.F ht⟩) hS.2.2 dX9_image_28
    · have nc2 : 2 ≤ i_0.toInt := pw_nlt c2 rfl (by decide)
      refine lv_ldc hx hb hown (hts (.constant RX9 88 (-1000001)) (List.mem_of_getElem? (i := 1) rfl)) dX9_image_13 ?_
      exact W.iret (v := (-1000001)) hx hb hr (fun t ht hW => ⟨⟨(-1000001), (), rfl, sp_out (by omega), trivial⟩, hS.F ht⟩) hS.2.2 dX9_image_15
def w_X9_restore__z : List Cond := .code yX9_restore cX9_restore 3 (some .int) :: ([.constant RX9 88 (-1000001), .fieldLink RX9 44 "LineCites" "images" "[LLineCites$Image;", .constant RX9 137 (-1000002)] ++ wsX90)
set_option maxHeartbeats 4000000 in
set_option maxRecDepth 100000 in
theorem c_X9_restore__z (l : Launch) (D : va_G) (h0 : Nat) (i_0 : Int32) (a_tape : Nat) (a_now : Nat) (a_draft : Nat) (a_reader : Nat) (a_acts : Nat) (a_images : Nat) (a_one : Nat) (a_other : Nat) (a_third : Nat) (a_spans : Nat) (a_back : Nat) (a_span : Nat) (a_middle : Nat) (a_reached : Nat) (kM : ClassId) : Met l yX9_restore w_X9_restore__z ({ frames := 0, cells := 0, slots := 0, locals := 0 }) (va_Pc [.ref h0, .int i_0] (fun U => va_P D vwCl [(h0, .inr (9, [.ref a_tape, .ref a_now, .ref a_draft, .ref a_reader, .ref a_acts, .ref a_images, .ref a_one, .ref a_other, .ref a_third, .ref a_spans, .ref a_back, .ref a_span, .ref a_middle, .ref a_reached])), (a_images, .inl (kM, 2, .inr (.inr (.inr (.inr (fun _ => none))))))] U.heap ∧ va_K D vwCl [(kM, .object RX1)] U)) (va_Qi (fun (r : Int32) (_ : Unit) => r = sp_rng i_0 1 (-1000002) (-1000001)) (fun _ _ => True) (fun _ => False)) 0 0 (fun _ => False) := by
  refine Met.ofW (cc := cX9_restore) (maxL := 3) (ret := (some .int)) (by decide) rfl ?_
  intro p e s m args below meth c s₁ B hml hv
  obtain ⟨rfl, hP, hK⟩ := hv
  have hx := B.exec
  have hb := B.bytes
  have hr := B.returns
  have hts := atoms_spec (ws := w_X9_restore__z) B.pre
  have hown : s.vm.findClass RX9 = some m.cls := findClass_of_methodNamed B.named
  have hlocks := B.notSynchronized
  have hS : va_S (fun _ : Nat => False) s.heap s.heap [] := va_S.rf
  have hP : va_P D vwCl [(h0, .inr (9, [.ref a_tape, .ref a_now, .ref a_draft, .ref a_reader, .ref a_acts, .ref a_images, .ref a_one, .ref a_other, .ref a_third, .ref a_spans, .ref a_back, .ref a_span, .ref a_middle, .ref a_reached])), (a_images, .inl (kM, 2, .inr (.inr (.inr (.inr (fun _ => none))))))] s.heap := hP
  have hl := lv_entry ([.ref h0, .int i_0]) (n := 3) (Nat.le_of_ble_eq_true rfl)
  rw [lg_entry_eq]
  generalize (lg_sl ([.ref h0, .int i_0]) ++ List.replicate (3 - (lg_sl ([.ref h0, .int i_0])).length) Slot.unset).toArray = ls at hl ⊢
  have hl : lv_has ls 3 [(0, .ref h0), (1, .int i_0)] := hl
  obtain ⟨H, hHe⟩ : ∃ H : Heap, H = s.heap := ⟨_, rfl⟩
  rw [← hHe] at hP
  have hS : va_S (fun _ : Nat => False) s.heap H [] := by rw [hHe]; exact hS
  refine pw_heap hHe ?_
  refine lv_iload_n hx hb dX9_restore_0 rfl (lv_at hl 1 rfl) ?_
  refine lv_if_lt (tgt := 13) hx hb dX9_restore_1 (by decide) (fun c1 => ?_) (fun c1 => ?_)
  · have nc1 : i_0.toInt < 0 := pw_lt c1 rfl (by decide)
    refine lv_ldc hx hb hown (hts (.constant RX9 88 (-1000001)) (List.mem_of_getElem? (i := 1) rfl)) dX9_restore_13 ?_
    exact W.iret (v := (-1000001)) hx hb hr (fun t ht hW => ⟨⟨(-1000001), (), rfl, sp_out (by omega), trivial⟩, hS.F ht⟩) hS.2.2 dX9_restore_15
  · have nc1 : 0 ≤ i_0.toInt := pw_nlt c1 rfl (by decide)
    refine lv_iload_n hx hb dX9_restore_4 rfl (lv_at hl 1 rfl) ?_
    refine lv_aload_n hx hb dX9_restore_5 rfl (lv_at hl 0 rfl) ?_
    refine va_get (D := D) (ci := 9) (v := .ref a_images) (C := RX9) (T := TX9) (N := 14) hx hb hts (fun _ h => List.mem_cons_of_mem _ (List.mem_append_right _ h)) hown hK hP 0 rfl rfl 5 (by decide) (hts (.fieldLink RX9 44 "LineCites" "images" "[LLineCites$Image;") (List.mem_of_getElem? (i := 2) rfl)) (fun _ h9 => h9) rfl dX9_restore_6 ?_
    refine va_alen (v := 2) hx hb hK hP 1 0 rfl rfl rfl dX9_restore_9 ?_
    refine lv_icmp_lt (tgt := 16) hx hb dX9_restore_10 (by decide) (fun c2 => ?_) (fun c2 => ?_)
    · have nc2 : i_0.toInt < 2 := pw_lt c2 rfl (by decide)
      refine lv_aload_n hx hb dX9_restore_16 rfl (lv_at hl 0 rfl) ?_
      refine va_get (D := D) (ci := 9) (v := .ref a_images) (C := RX9) (T := TX9) (N := 14) hx hb hts (fun _ h => List.mem_cons_of_mem _ (List.mem_append_right _ h)) hown hK hP 0 rfl rfl 5 (by decide) (hts (.fieldLink RX9 44 "LineCites" "images" "[LLineCites$Image;") (List.mem_of_getElem? (i := 2) rfl)) (fun _ h9 => h9) rfl dX9_restore_17 ?_
      refine lv_iload_n hx hb dX9_restore_20 rfl (lv_at hl 1 rfl) ?_
      refine va_aldq hx hb hK hP 1 0 rfl rfl (vp_in_iff.mpr ⟨by omega, by omega⟩) dX9_restore_21 ?_
      refine W.eq (g2 := F0 m 22 ls [.null]) rfl ?_
      refine lv_astore_nN (lv' := [(2, .null), (0, .ref h0), (1, .int i_0)]) hx hb dX9_restore_22 rfl hl (by decide) rfl (fun ls hl => ?_)
      refine lv_aload_nN hx hb dX9_restore_23 rfl (lv_at hl 0 rfl) ?_
      refine lv_ifnonnullN hx hb dX9_restore_24 ?_
      refine lv_ldc hx hb hown (hts (.constant RX9 137 (-1000002)) (List.mem_of_getElem? (i := 3) rfl)) dX9_restore_27 ?_
      exact W.iret (v := (-1000002)) hx hb hr (fun t ht hW => ⟨⟨(-1000002), (), rfl, sp_in (by omega) (by omega), trivial⟩, hS.F ht⟩) hS.2.2 dX9_restore_29
    · have nc2 : 2 ≤ i_0.toInt := pw_nlt c2 rfl (by decide)
      refine lv_ldc hx hb hown (hts (.constant RX9 88 (-1000001)) (List.mem_of_getElem? (i := 1) rfl)) dX9_restore_13 ?_
      exact W.iret (v := (-1000001)) hx hb hr (fun t ht hW => ⟨⟨(-1000001), (), rfl, sp_out (by omega), trivial⟩, hS.F ht⟩) hS.2.2 dX9_restore_15
