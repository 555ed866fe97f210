theorem dX9_fault_0 : decode cX9_fault 0 = .ok (.aload_n 0, 1) := by decide +kernel
theorem dX9_fault_1 : decode cX9_fault 1 = .ok (.getfield 10, 3) := by decide +kernel
theorem dX9_fault_4 : decode cX9_fault 4 = .ok (.invokevirtual 129, 3) := by decide +kernel
theorem dX9_fault_7 : decode cX9_fault 7 = .ok (.ireturn, 1) := by decide +kernel
theorem dX9_undo_0 : decode cX9_undo 0 = .ok (.aload_n 0, 1) := by decide +kernel
theorem dX9_undo_1 : decode cX9_undo 1 = .ok (.getfield 38, 3) := by decide +kernel
theorem dX9_undo_4 : decode cX9_undo 4 = .ok (.aload_n 0, 1) := by decide +kernel
theorem dX9_undo_5 : decode cX9_undo 5 = .ok (.getfield 19, 3) := by decide +kernel
theorem dX9_undo_8 : decode cX9_undo 8 = .ok (.invokevirtual 132, 3) := by decide +kernel
theorem dX9_undo_11 : decode cX9_undo 11 = .ok (.ifCond .eq 13, 3) := by decide +kernel
theorem dX9_undo_14 : decode cX9_undo 14 = .ok (.aload_n 0, 1) := by decide +kernel
theorem dX9_undo_15 : decode cX9_undo 15 = .ok (.getfield 38, 3) := by decide +kernel
theorem dX9_undo_18 : decode cX9_undo 18 = .ok (.invokevirtual 136, 3) := by decide +kernel
theorem dX9_undo_21 : decode cX9_undo 21 = .ok (.goto 5, 3) := by decide +kernel
theorem dX9_undo_24 : decode cX9_undo 24 = .ok (.ldc 137, 2) := by decide +kernel
theorem dX9_undo_26 : decode cX9_undo 26 = .ok (.ireturn, 1) := by decide +kernel
theorem dX9_add_0 : decode cX9_add 0 = .ok (.aload_n 0, 1) := by decide +kernel
theorem dX9_add_1 : decode cX9_add 1 = .ok (.getfield 19, 3) := by decide +kernel
theorem dX9_add_4 : decode cX9_add 4 = .ok (.iload_n 1, 1) := by decide +kernel
theorem dX9_add_5 : decode cX9_add 5 = .ok (.invokevirtual 138, 3) := by decide +kernel
theorem dX9_add_8 : decode cX9_add 8 = .ok (.ifCond .ne 6, 3) := by decide +kernel
theorem dX9_add_11 : decode cX9_add 11 = .ok (.ldc 88, 2) := by decide +kernel
theorem dX9_add_13 : decode cX9_add 13 = .ok (.ireturn, 1) := by decide +kernel
theorem dX9_add_14 : decode cX9_add 14 = .ok (.aload_n 0, 1) := by decide +kernel
theorem dX9_add_15 : decode cX9_add 15 = .ok (.getfield 19, 3) := by decide +kernel
theorem dX9_add_18 : decode cX9_add 18 = .ok (.iload_n 1, 1) := by decide +kernel
theorem dX9_add_19 : decode cX9_add 19 = .ok (.iconst (-1), 1) := by decide +kernel
theorem dX9_add_20 : decode cX9_add 20 = .ok (.iload_n 2, 1) := by decide +kernel
theorem dX9_add_21 : decode cX9_add 21 = .ok (.iload_n 3, 1) := by decide +kernel
theorem dX9_add_22 : decode cX9_add 22 = .ok (.iload 4, 2) := by decide +kernel
theorem dX9_add_24 : decode cX9_add 24 = .ok (.iload 5, 2) := by decide +kernel
theorem dX9_add_26 : decode cX9_add 26 = .ok (.invokevirtual 141, 3) := by decide +kernel
theorem dX9_add_29 : decode cX9_add 29 = .ok (.ifCond .ne 6, 3) := by decide +kernel
theorem dX9_add_32 : decode cX9_add 32 = .ok (.ldc 88, 2) := by decide +kernel
theorem dX9_add_34 : decode cX9_add 34 = .ok (.ireturn, 1) := by decide +kernel
theorem dX9_add_35 : decode cX9_add 35 = .ok (.aload_n 0, 1) := by decide +kernel
theorem dX9_add_36 : decode cX9_add 36 = .ok (.getfield 19, 3) := by decide +kernel
theorem dX9_add_39 : decode cX9_add 39 = .ok (.iload_n 1, 1) := by decide +kernel
theorem dX9_add_40 : decode cX9_add 40 = .ok (.invokevirtual 145, 3) := by decide +kernel
theorem dX9_add_43 : decode cX9_add 43 = .ok (.bipush 6, 2) := by decide +kernel
theorem dX9_add_45 : decode cX9_add 45 = .ok (.if_icmp .lt 6, 3) := by decide +kernel
theorem dX9_add_48 : decode cX9_add 48 = .ok (.ldc 97, 2) := by decide +kernel
theorem dX9_add_50 : decode cX9_add 50 = .ok (.ireturn, 1) := by decide +kernel
theorem dX9_add_51 : decode cX9_add 51 = .ok (.aload_n 0, 1) := by decide +kernel
theorem dX9_add_52 : decode cX9_add 52 = .ok (.getfield 38, 3) := by decide +kernel
theorem dX9_add_55 : decode cX9_add 55 = .ok (.aload_n 0, 1) := by decide +kernel
theorem dX9_add_56 : decode cX9_add 56 = .ok (.getfield 19, 3) := by decide +kernel
theorem dX9_add_59 : decode cX9_add 59 = .ok (.invokevirtual 149, 3) := by decide +kernel
theorem dX9_add_62 : decode cX9_add 62 = .ok (.aload_n 0, 1) := by decide +kernel
theorem dX9_add_63 : decode cX9_add 63 = .ok (.getfield 19, 3) := by decide +kernel
theorem dX9_add_66 : decode cX9_add 66 = .ok (.iload_n 1, 1) := by decide +kernel
theorem dX9_add_67 : decode cX9_add 67 = .ok (.iload_n 2, 1) := by decide +kernel
theorem dX9_add_68 : decode cX9_add 68 = .ok (.iload_n 3, 1) := by decide +kernel
theorem dX9_add_69 : decode cX9_add 69 = .ok (.iload 4, 2) := by decide +kernel
theorem dX9_add_71 : decode cX9_add 71 = .ok (.iload 5, 2) := by decide +kernel
theorem dX9_add_73 : decode cX9_add 73 = .ok (.invokevirtual 152, 3) := by decide +kernel
theorem dX9_add_76 : decode cX9_add 76 = .ok (.aload_n 0, 1) := by decide +kernel
theorem dX9_add_77 : decode cX9_add 77 = .ok (.getfield 19, 3) := by decide +kernel
theorem dX9_add_80 : decode cX9_add 80 = .ok (.iload_n 1, 1) := by decide +kernel
theorem dX9_add_81 : decode cX9_add 81 = .ok (.invokevirtual 145, 3) := by decide +kernel
theorem dX9_add_84 : decode cX9_add 84 = .ok (.ireturn, 1) := by decide +kernel
theorem dX9_drop_0 : decode cX9_drop 0 = .ok (.aload_n 0, 1) := by decide +kernel
theorem dX9_drop_1 : decode cX9_drop 1 = .ok (.getfield 19, 3) := by decide +kernel
theorem dX9_drop_4 : decode cX9_drop 4 = .ok (.iload_n 1, 1) := by decide +kernel
theorem dX9_drop_5 : decode cX9_drop 5 = .ok (.iload_n 2, 1) := by decide +kernel
theorem dX9_drop_6 : decode cX9_drop 6 = .ok (.invokevirtual 156, 3) := by decide +kernel
theorem dX9_drop_9 : decode cX9_drop 9 = .ok (.ifCond .ne 6, 3) := by decide +kernel
theorem dX9_drop_12 : decode cX9_drop 12 = .ok (.ldc 88, 2) := by decide +kernel
theorem dX9_drop_14 : decode cX9_drop 14 = .ok (.ireturn, 1) := by decide +kernel
theorem dX9_drop_15 : decode cX9_drop 15 = .ok (.aload_n 0, 1) := by decide +kernel
theorem dX9_drop_16 : decode cX9_drop 16 = .ok (.getfield 38, 3) := by decide +kernel
theorem dX9_drop_19 : decode cX9_drop 19 = .ok (.aload_n 0, 1) := by decide +kernel
theorem dX9_drop_20 : decode cX9_drop 20 = .ok (.getfield 19, 3) := by decide +kernel
theorem dX9_drop_23 : decode cX9_drop 23 = .ok (.invokevirtual 149, 3) := by decide +kernel
theorem dX9_drop_26 : decode cX9_drop 26 = .ok (.aload_n 0, 1) := by decide +kernel
theorem dX9_drop_27 : decode cX9_drop 27 = .ok (.getfield 19, 3) := by decide +kernel
theorem dX9_drop_30 : decode cX9_drop 30 = .ok (.iload_n 1, 1) := by decide +kernel
theorem dX9_drop_31 : decode cX9_drop 31 = .ok (.iload_n 2, 1) := by decide +kernel
theorem dX9_drop_32 : decode cX9_drop 32 = .ok (.invokevirtual 160, 3) := by decide +kernel
theorem dX9_drop_35 : decode cX9_drop 35 = .ok (.aload_n 0, 1) := by decide +kernel
theorem dX9_drop_36 : decode cX9_drop 36 = .ok (.getfield 19, 3) := by decide +kernel
theorem dX9_drop_39 : decode cX9_drop 39 = .ok (.iload_n 1, 1) := by decide +kernel
theorem dX9_drop_40 : decode cX9_drop 40 = .ok (.invokevirtual 145, 3) := by decide +kernel
theorem dX9_drop_43 : decode cX9_drop 43 = .ok (.ireturn, 1) := by decide +kernel
theorem dX9_alter_0 : decode cX9_alter 0 = .ok (.aload_n 0, 1) := by decide +kernel
theorem dX9_alter_1 : decode cX9_alter 1 = .ok (.getfield 19, 3) := by decide +kernel
theorem dX9_alter_4 : decode cX9_alter 4 = .ok (.iload_n 1, 1) := by decide +kernel
theorem dX9_alter_5 : decode cX9_alter 5 = .ok (.iload_n 2, 1) := by decide +kernel
theorem dX9_alter_6 : decode cX9_alter 6 = .ok (.invokevirtual 156, 3) := by decide +kernel
theorem dX9_alter_9 : decode cX9_alter 9 = .ok (.ifCond .eq 12, 3) := by decide +kernel
theorem dX9_alter_12 : decode cX9_alter 12 = .ok (.iload_n 3, 1) := by decide +kernel
theorem dX9_alter_13 : decode cX9_alter 13 = .ok (.ifCond .lt 8, 3) := by decide +kernel
theorem dX9_alter_16 : decode cX9_alter 16 = .ok (.iload_n 3, 1) := by decide +kernel
theorem dX9_alter_17 : decode cX9_alter 17 = .ok (.iconst 3, 1) := by decide +kernel
theorem dX9_alter_18 : decode cX9_alter 18 = .ok (.if_icmp .le 6, 3) := by decide +kernel
theorem dX9_alter_21 : decode cX9_alter 21 = .ok (.ldc 88, 2) := by decide +kernel
theorem dX9_alter_23 : decode cX9_alter 23 = .ok (.ireturn, 1) := by decide +kernel
theorem dX9_alter_24 : decode cX9_alter 24 = .ok (.iload_n 3, 1) := by decide +kernel
theorem dX9_alter_25 : decode cX9_alter 25 = .ok (.ifCond .ne 8, 3) := by decide +kernel
theorem dX9_alter_28 : decode cX9_alter 28 = .ok (.iload 4, 2) := by decide +kernel
theorem dX9_alter_30 : decode cX9_alter 30 = .ok (.goto 13, 3) := by decide +kernel
theorem dX9_alter_33 : decode cX9_alter 33 = .ok (.aload_n 0, 1) := by decide +kernel
theorem dX9_alter_34 : decode cX9_alter 34 = .ok (.getfield 19, 3) := by decide +kernel
theorem dX9_alter_37 : decode cX9_alter 37 = .ok (.iload_n 1, 1) := by decide +kernel
theorem dX9_alter_38 : decode cX9_alter 38 = .ok (.iload_n 2, 1) := by decide +kernel
theorem dX9_alter_39 : decode cX9_alter 39 = .ok (.iconst 0, 1) := by decide +kernel
theorem dX9_alter_40 : decode cX9_alter 40 = .ok (.invokevirtual 164, 3) := by decide +kernel
theorem dX9_alter_43 : decode cX9_alter 43 = .ok (.istore 5, 2) := by decide +kernel
theorem dX9_alter_45 : decode cX9_alter 45 = .ok (.iload_n 3, 1) := by decide +kernel
theorem dX9_alter_46 : decode cX9_alter 46 = .ok (.iconst 1, 1) := by decide +kernel
theorem dX9_alter_47 : decode cX9_alter 47 = .ok (.if_icmp .ne 8, 3) := by decide +kernel
theorem dX9_alter_50 : decode cX9_alter 50 = .ok (.iload 4, 2) := by decide +kernel
theorem dX9_alter_52 : decode cX9_alter 52 = .ok (.goto 13, 3) := by decide +kernel
theorem dX9_alter_55 : decode cX9_alter 55 = .ok (.aload_n 0, 1) := by decide +kernel
theorem dX9_alter_56 : decode cX9_alter 56 = .ok (.getfield 19, 3) := by decide +kernel
theorem dX9_alter_59 : decode cX9_alter 59 = .ok (.iload_n 1, 1) := by decide +kernel
theorem dX9_alter_60 : decode cX9_alter 60 = .ok (.iload_n 2, 1) := by decide +kernel
theorem dX9_alter_61 : decode cX9_alter 61 = .ok (.iconst 1, 1) := by decide +kernel
theorem dX9_alter_62 : decode cX9_alter 62 = .ok (.invokevirtual 164, 3) := by decide +kernel
theorem dX9_alter_65 : decode cX9_alter 65 = .ok (.istore 6, 2) := by decide +kernel
theorem dX9_alter_67 : decode cX9_alter 67 = .ok (.iload_n 3, 1) := by decide +kernel
theorem dX9_alter_68 : decode cX9_alter 68 = .ok (.iconst 2, 1) := by decide +kernel
theorem dX9_alter_69 : decode cX9_alter 69 = .ok (.if_icmp .ne 8, 3) := by decide +kernel
theorem dX9_alter_72 : decode cX9_alter 72 = .ok (.iload 4, 2) := by decide +kernel
theorem dX9_alter_74 : decode cX9_alter 74 = .ok (.goto 13, 3) := by decide +kernel
theorem dX9_alter_77 : decode cX9_alter 77 = .ok (.aload_n 0, 1) := by decide +kernel
theorem dX9_alter_78 : decode cX9_alter 78 = .ok (.getfield 19, 3) := by decide +kernel
theorem dX9_alter_81 : decode cX9_alter 81 = .ok (.iload_n 1, 1) := by decide +kernel
theorem dX9_alter_82 : decode cX9_alter 82 = .ok (.iload_n 2, 1) := by decide +kernel
theorem dX9_alter_83 : decode cX9_alter 83 = .ok (.iconst 2, 1) := by decide +kernel
theorem dX9_alter_84 : decode cX9_alter 84 = .ok (.invokevirtual 164, 3) := by decide +kernel
theorem dX9_alter_87 : decode cX9_alter 87 = .ok (.istore 7, 2) := by decide +kernel
theorem dX9_alter_89 : decode cX9_alter 89 = .ok (.iload_n 3, 1) := by decide +kernel
theorem dX9_alter_90 : decode cX9_alter 90 = .ok (.iconst 3, 1) := by decide +kernel
theorem dX9_alter_91 : decode cX9_alter 91 = .ok (.if_icmp .ne 8, 3) := by decide +kernel
theorem dX9_alter_94 : decode cX9_alter 94 = .ok (.iload 4, 2) := by decide +kernel
theorem dX9_alter_96 : decode cX9_alter 96 = .ok (.goto 13, 3) := by decide +kernel
theorem dX9_alter_99 : decode cX9_alter 99 = .ok (.aload_n 0, 1) := by decide +kernel
theorem dX9_alter_100 : decode cX9_alter 100 = .ok (.getfield 19, 3) := by decide +kernel
theorem dX9_alter_103 : decode cX9_alter 103 = .ok (.iload_n 1, 1) := by decide +kernel
theorem dX9_alter_104 : decode cX9_alter 104 = .ok (.iload_n 2, 1) := by decide +kernel
theorem dX9_alter_105 : decode cX9_alter 105 = .ok (.iconst 3, 1) := by decide +kernel
theorem dX9_alter_106 : decode cX9_alter 106 = .ok (.invokevirtual 164, 3) := by decide +kernel
theorem dX9_alter_109 : decode cX9_alter 109 = .ok (.istore 8, 2) := by decide +kernel
theorem dX9_alter_111 : decode cX9_alter 111 = .ok (.aload_n 0, 1) := by decide +kernel
theorem dX9_alter_112 : decode cX9_alter 112 = .ok (.getfield 19, 3) := by decide +kernel
theorem dX9_alter_115 : decode cX9_alter 115 = .ok (.iload_n 1, 1) := by decide +kernel
theorem dX9_alter_116 : decode cX9_alter 116 = .ok (.iload_n 2, 1) := by decide +kernel
theorem dX9_alter_117 : decode cX9_alter 117 = .ok (.iload 5, 2) := by decide +kernel
theorem dX9_alter_119 : decode cX9_alter 119 = .ok (.iload 6, 2) := by decide +kernel
theorem dX9_alter_121 : decode cX9_alter 121 = .ok (.iload 7, 2) := by decide +kernel
theorem dX9_alter_123 : decode cX9_alter 123 = .ok (.iload 8, 2) := by decide +kernel
theorem dX9_alter_125 : decode cX9_alter 125 = .ok (.invokevirtual 141, 3) := by decide +kernel
theorem dX9_alter_128 : decode cX9_alter 128 = .ok (.ifCond .ne 6, 3) := by decide +kernel
theorem dX9_alter_131 : decode cX9_alter 131 = .ok (.ldc 88, 2) := by decide +kernel
theorem dX9_alter_133 : decode cX9_alter 133 = .ok (.ireturn, 1) := by decide +kernel
theorem dX9_alter_134 : decode cX9_alter 134 = .ok (.aload_n 0, 1) := by decide +kernel
theorem dX9_alter_135 : decode cX9_alter 135 = .ok (.getfield 19, 3) := by decide +kernel
theorem dX9_alter_138 : decode cX9_alter 138 = .ok (.iload_n 1, 1) := by decide +kernel
theorem dX9_alter_139 : decode cX9_alter 139 = .ok (.iload_n 2, 1) := by decide +kernel
theorem dX9_alter_140 : decode cX9_alter 140 = .ok (.iload_n 3, 1) := by decide +kernel
theorem dX9_alter_141 : decode cX9_alter 141 = .ok (.invokevirtual 164, 3) := by decide +kernel
theorem dX9_alter_144 : decode cX9_alter 144 = .ok (.istore 9, 2) := by decide +kernel
theorem dX9_alter_146 : decode cX9_alter 146 = .ok (.aload_n 0, 1) := by decide +kernel
theorem dX9_alter_147 : decode cX9_alter 147 = .ok (.getfield 38, 3) := by decide +kernel
theorem dX9_alter_150 : decode cX9_alter 150 = .ok (.aload_n 0, 1) := by decide +kernel
theorem dX9_alter_151 : decode cX9_alter 151 = .ok (.getfield 19, 3) := by decide +kernel
theorem dX9_alter_154 : decode cX9_alter 154 = .ok (.invokevirtual 149, 3) := by decide +kernel
theorem dX9_alter_157 : decode cX9_alter 157 = .ok (.aload_n 0, 1) := by decide +kernel
theorem dX9_alter_158 : decode cX9_alter 158 = .ok (.getfield 19, 3) := by decide +kernel
theorem dX9_alter_161 : decode cX9_alter 161 = .ok (.iload_n 1, 1) := by decide +kernel
theorem dX9_alter_162 : decode cX9_alter 162 = .ok (.iload_n 2, 1) := by decide +kernel
theorem dX9_alter_163 : decode cX9_alter 163 = .ok (.iload_n 3, 1) := by decide +kernel
theorem dX9_alter_164 : decode cX9_alter 164 = .ok (.iload 4, 2) := by decide +kernel
theorem dX9_alter_166 : decode cX9_alter 166 = .ok (.invokevirtual 168, 3) := by decide +kernel
theorem dX9_alter_169 : decode cX9_alter 169 = .ok (.iload 9, 2) := by decide +kernel
theorem dX9_alter_171 : decode cX9_alter 171 = .ok (.ireturn, 1) := by decide +kernel
theorem dX9_cite_0 : decode cX9_cite 0 = .ok (.iload_n 1, 1) := by decide +kernel
theorem dX9_cite_1 : decode cX9_cite 1 = .ok (.ifCond .lt 20, 3) := by decide +kernel
theorem dX9_cite_4 : decode cX9_cite 4 = .ok (.iload_n 1, 1) := by decide +kernel
theorem dX9_cite_5 : decode cX9_cite 5 = .ok (.bipush 8, 2) := by decide +kernel
theorem dX9_cite_7 : decode cX9_cite 7 = .ok (.if_icmp .ge 14, 3) := by decide +kernel
theorem dX9_cite_10 : decode cX9_cite 10 = .ok (.aload_n 0, 1) := by decide +kernel
theorem dX9_cite_11 : decode cX9_cite 11 = .ok (.getfield 19, 3) := by decide +kernel
theorem dX9_cite_14 : decode cX9_cite 14 = .ok (.iload_n 2, 1) := by decide +kernel
theorem dX9_cite_15 : decode cX9_cite 15 = .ok (.invokevirtual 138, 3) := by decide +kernel
theorem dX9_cite_18 : decode cX9_cite 18 = .ok (.ifCond .ne 6, 3) := by decide +kernel
theorem dX9_cite_21 : decode cX9_cite 21 = .ok (.ldc 88, 2) := by decide +kernel
theorem dX9_cite_23 : decode cX9_cite 23 = .ok (.ireturn, 1) := by decide +kernel
theorem dX9_cite_24 : decode cX9_cite 24 = .ok (.iload_n 3, 1) := by decide +kernel
theorem dX9_cite_25 : decode cX9_cite 25 = .ok (.ifCond .lt 16, 3) := by decide +kernel
theorem dX9_cite_28 : decode cX9_cite 28 = .ok (.iload_n 3, 1) := by decide +kernel
theorem dX9_cite_29 : decode cX9_cite 29 = .ok (.iconst 2, 1) := by decide +kernel
theorem dX9_cite_30 : decode cX9_cite 30 = .ok (.if_icmp .gt 11, 3) := by decide +kernel
theorem dX9_cite_33 : decode cX9_cite 33 = .ok (.iload 4, 2) := by decide +kernel
theorem dX9_cite_35 : decode cX9_cite 35 = .ok (.invokestatic 172, 3) := by decide +kernel
theorem dX9_cite_38 : decode cX9_cite 38 = .ok (.ifCond .ne 6, 3) := by decide +kernel
theorem dX9_cite_41 : decode cX9_cite 41 = .ok (.ldc 88, 2) := by decide +kernel
theorem dX9_cite_43 : decode cX9_cite 43 = .ok (.ireturn, 1) := by decide +kernel
theorem dX9_cite_44 : decode cX9_cite 44 = .ok (.iload_n 3, 1) := by decide +kernel
theorem dX9_cite_45 : decode cX9_cite 45 = .ok (.ifCond .ne 21, 3) := by decide +kernel
theorem dX9_cite_48 : decode cX9_cite 48 = .ok (.iload 5, 2) := by decide +kernel
theorem dX9_cite_50 : decode cX9_cite 50 = .ok (.iload 4, 2) := by decide +kernel
theorem dX9_cite_52 : decode cX9_cite 52 = .ok (.if_icmp .lt 19, 3) := by decide +kernel
theorem dX9_cite_55 : decode cX9_cite 55 = .ok (.iload 5, 2) := by decide +kernel
theorem dX9_cite_57 : decode cX9_cite 57 = .ok (.sipush 999, 3) := by decide +kernel
theorem dX9_cite_60 : decode cX9_cite 60 = .ok (.if_icmp .le 14, 3) := by decide +kernel
theorem dX9_cite_63 : decode cX9_cite 63 = .ok (.goto 8, 3) := by decide +kernel
theorem dX9_cite_66 : decode cX9_cite 66 = .ok (.iload 5, 2) := by decide +kernel
theorem dX9_cite_68 : decode cX9_cite 68 = .ok (.ifCond .eq 6, 3) := by decide +kernel
theorem dX9_cite_71 : decode cX9_cite 71 = .ok (.ldc 88, 2) := by decide +kernel
theorem dX9_cite_73 : decode cX9_cite 73 = .ok (.ireturn, 1) := by decide +kernel
theorem dX9_cite_74 : decode cX9_cite 74 = .ok (.aload_n 0, 1) := by decide +kernel
theorem dX9_cite_75 : decode cX9_cite 75 = .ok (.getfield 38, 3) := by decide +kernel
theorem dX9_cite_78 : decode cX9_cite 78 = .ok (.aload_n 0, 1) := by decide +kernel
theorem dX9_cite_79 : decode cX9_cite 79 = .ok (.getfield 19, 3) := by decide +kernel
theorem dX9_cite_82 : decode cX9_cite 82 = .ok (.invokevirtual 149, 3) := by decide +kernel
theorem dX9_cite_85 : decode cX9_cite 85 = .ok (.aload_n 0, 1) := by decide +kernel
theorem dX9_cite_86 : decode cX9_cite 86 = .ok (.getfield 19, 3) := by decide +kernel
theorem dX9_cite_89 : decode cX9_cite 89 = .ok (.iload_n 1, 1) := by decide +kernel
theorem dX9_cite_90 : decode cX9_cite 90 = .ok (.iload_n 2, 1) := by decide +kernel
theorem dX9_cite_91 : decode cX9_cite 91 = .ok (.iload_n 3, 1) := by decide +kernel
theorem dX9_cite_92 : decode cX9_cite 92 = .ok (.iload 4, 2) := by decide +kernel
theorem dX9_cite_94 : decode cX9_cite 94 = .ok (.iload_n 3, 1) := by decide +kernel
theorem dX9_cite_95 : decode cX9_cite 95 = .ok (.ifCond .ne 8, 3) := by decide +kernel
theorem dX9_cite_98 : decode cX9_cite 98 = .ok (.iload 5, 2) := by decide +kernel
theorem dX9_cite_100 : decode cX9_cite 100 = .ok (.goto 7, 3) := by decide +kernel
theorem dX9_cite_103 : decode cX9_cite 103 = .ok (.iload 4, 2) := by decide +kernel
theorem dX9_cite_105 : decode cX9_cite 105 = .ok (.iload_n 3, 1) := by decide +kernel
theorem dX9_cite_106 : decode cX9_cite 106 = .ok (.iadd, 1) := by decide +kernel
theorem dX9_cite_107 : decode cX9_cite 107 = .ok (.invokevirtual 175, 3) := by decide +kernel
theorem dX9_cite_110 : decode cX9_cite 110 = .ok (.aload_n 0, 1) := by decide +kernel
theorem dX9_cite_111 : decode cX9_cite 111 = .ok (.iload_n 1, 1) := by decide +kernel
theorem dX9_cite_112 : decode cX9_cite 112 = .ok (.invokevirtual 178, 3) := by decide +kernel
theorem dX9_cite_115 : decode cX9_cite 115 = .ok (.aload_n 0, 1) := by decide +kernel
theorem dX9_cite_116 : decode cX9_cite 116 = .ok (.getfield 74, 3) := by decide +kernel
theorem dX9_cite_119 : decode cX9_cite 119 = .ok (.invokevirtual 181, 3) := by decide +kernel
theorem dX9_cite_122 : decode cX9_cite 122 = .ok (.ireturn, 1) := by decide +kernel
theorem dX9_see_0 : decode cX9_see 0 = .ok (.iload_n 1, 1) := by decide +kernel
theorem dX9_see_1 : decode cX9_see 1 = .ok (.invokestatic 172, 3) := by decide +kernel
theorem dX9_see_4 : decode cX9_see 4 = .ok (.ifCond .eq 14, 3) := by decide +kernel
theorem dX9_see_7 : decode cX9_see 7 = .ok (.aload_n 0, 1) := by decide +kernel
theorem dX9_see_8 : decode cX9_see 8 = .ok (.getfield 19, 3) := by decide +kernel
theorem dX9_see_11 : decode cX9_see 11 = .ok (.iload_n 2, 1) := by decide +kernel
theorem dX9_see_12 : decode cX9_see 12 = .ok (.invokevirtual 191, 3) := by decide +kernel
theorem dX9_see_15 : decode cX9_see 15 = .ok (.ifCond .ne 6, 3) := by decide +kernel
theorem dX9_see_18 : decode cX9_see 18 = .ok (.ldc 88, 2) := by decide +kernel
theorem dX9_see_20 : decode cX9_see 20 = .ok (.ireturn, 1) := by decide +kernel
theorem dX9_see_21 : decode cX9_see 21 = .ok (.aload_n 0, 1) := by decide +kernel
theorem dX9_see_22 : decode cX9_see 22 = .ok (.getfield 19, 3) := by decide +kernel
theorem dX9_see_25 : decode cX9_see 25 = .ok (.invokevirtual 194, 3) := by decide +kernel
theorem dX9_see_28 : decode cX9_see 28 = .ok (.bipush 12, 2) := by decide +kernel
theorem dX9_see_30 : decode cX9_see 30 = .ok (.if_icmp .lt 6, 3) := by decide +kernel
theorem dX9_see_33 : decode cX9_see 33 = .ok (.ldc 97, 2) := by decide +kernel
theorem dX9_see_35 : decode cX9_see 35 = .ok (.ireturn, 1) := by decide +kernel
theorem dX9_see_36 : decode cX9_see 36 = .ok (.aload_n 0, 1) := by decide +kernel
theorem dX9_see_37 : decode cX9_see 37 = .ok (.getfield 38, 3) := by decide +kernel
theorem dX9_see_40 : decode cX9_see 40 = .ok (.aload_n 0, 1) := by decide +kernel
theorem dX9_see_41 : decode cX9_see 41 = .ok (.getfield 19, 3) := by decide +kernel
theorem dX9_see_44 : decode cX9_see 44 = .ok (.invokevirtual 149, 3) := by decide +kernel
theorem dX9_see_47 : decode cX9_see 47 = .ok (.aload_n 0, 1) := by decide +kernel
theorem dX9_see_48 : decode cX9_see 48 = .ok (.getfield 19, 3) := by decide +kernel
theorem dX9_see_51 : decode cX9_see 51 = .ok (.iload_n 1, 1) := by decide +kernel
theorem dX9_see_52 : decode cX9_see 52 = .ok (.iload_n 2, 1) := by decide +kernel
theorem dX9_see_53 : decode cX9_see 53 = .ok (.invokevirtual 197, 3) := by decide +kernel
theorem dX9_see_56 : decode cX9_see 56 = .ok (.aload_n 0, 1) := by decide +kernel
theorem dX9_see_57 : decode cX9_see 57 = .ok (.getfield 19, 3) := by decide +kernel
theorem dX9_see_60 : decode cX9_see 60 = .ok (.invokevirtual 194, 3) := by decide +kernel
theorem dX9_see_63 : decode cX9_see 63 = .ok (.ireturn, 1) := by decide +kernel
theorem dX9_stretch_0 : decode cX9_stretch 0 = .ok (.aload_n 0, 1) := by decide +kernel
theorem dX9_stretch_1 : decode cX9_stretch 1 = .ok (.getfield 19, 3) := by decide +kernel
theorem dX9_stretch_4 : decode cX9_stretch 4 = .ok (.iload_n 1, 1) := by decide +kernel
theorem dX9_stretch_5 : decode cX9_stretch 5 = .ok (.iload_n 2, 1) := by decide +kernel
theorem dX9_stretch_6 : decode cX9_stretch 6 = .ok (.invokevirtual 156, 3) := by decide +kernel
theorem dX9_stretch_9 : decode cX9_stretch 9 = .ok (.ifCond .eq 12, 3) := by decide +kernel
theorem dX9_stretch_12 : decode cX9_stretch 12 = .ok (.iload_n 3, 1) := by decide +kernel
theorem dX9_stretch_13 : decode cX9_stretch 13 = .ok (.ifCond .lt 8, 3) := by decide +kernel
theorem dX9_stretch_16 : decode cX9_stretch 16 = .ok (.iload_n 3, 1) := by decide +kernel
theorem dX9_stretch_17 : decode cX9_stretch 17 = .ok (.iconst 4, 1) := by decide +kernel
theorem dX9_stretch_18 : decode cX9_stretch 18 = .ok (.if_icmp .le 6, 3) := by decide +kernel
theorem dX9_stretch_21 : decode cX9_stretch 21 = .ok (.ldc 88, 2) := by decide +kernel
theorem dX9_stretch_23 : decode cX9_stretch 23 = .ok (.ireturn, 1) := by decide +kernel
theorem dX9_stretch_24 : decode cX9_stretch 24 = .ok (.iload_n 3, 1) := by decide +kernel
theorem dX9_stretch_25 : decode cX9_stretch 25 = .ok (.iconst 4, 1) := by decide +kernel
theorem dX9_stretch_26 : decode cX9_stretch 26 = .ok (.if_icmp .ge 14, 3) := by decide +kernel
theorem dX9_stretch_29 : decode cX9_stretch 29 = .ok (.aload_n 0, 1) := by decide +kernel
theorem dX9_stretch_30 : decode cX9_stretch 30 = .ok (.getfield 19, 3) := by decide +kernel
theorem dX9_stretch_33 : decode cX9_stretch 33 = .ok (.iload_n 1, 1) := by decide +kernel
theorem dX9_stretch_34 : decode cX9_stretch 34 = .ok (.iload_n 2, 1) := by decide +kernel
theorem dX9_stretch_35 : decode cX9_stretch 35 = .ok (.iload_n 3, 1) := by decide +kernel
theorem dX9_stretch_36 : decode cX9_stretch 36 = .ok (.invokevirtual 164, 3) := by decide +kernel
theorem dX9_stretch_39 : decode cX9_stretch 39 = .ok (.ireturn, 1) := by decide +kernel
theorem dX9_stretch_40 : decode cX9_stretch 40 = .ok (.aload_n 0, 1) := by decide +kernel
theorem dX9_stretch_41 : decode cX9_stretch 41 = .ok (.getfield 19, 3) := by decide +kernel
theorem dX9_stretch_44 : decode cX9_stretch 44 = .ok (.iload_n 1, 1) := by decide +kernel
theorem dX9_stretch_45 : decode cX9_stretch 45 = .ok (.iload_n 2, 1) := by decide +kernel
theorem dX9_stretch_46 : decode cX9_stretch 46 = .ok (.iconst 0, 1) := by decide +kernel
theorem dX9_stretch_47 : decode cX9_stretch 47 = .ok (.invokevirtual 164, 3) := by decide +kernel
theorem dX9_stretch_50 : decode cX9_stretch 50 = .ok (.aload_n 0, 1) := by decide +kernel
theorem dX9_stretch_51 : decode cX9_stretch 51 = .ok (.getfield 19, 3) := by decide +kernel
theorem dX9_stretch_54 : decode cX9_stretch 54 = .ok (.iload_n 1, 1) := by decide +kernel
theorem dX9_stretch_55 : decode cX9_stretch 55 = .ok (.iload_n 2, 1) := by decide +kernel
theorem dX9_stretch_56 : decode cX9_stretch 56 = .ok (.iconst 2, 1) := by decide +kernel
theorem dX9_stretch_57 : decode cX9_stretch 57 = .ok (.invokevirtual 164, 3) := by decide +kernel
theorem dX9_stretch_60 : decode cX9_stretch 60 = .ok (.aload_n 0, 1) := by decide +kernel
theorem dX9_stretch_61 : decode cX9_stretch 61 = .ok (.getfield 19, 3) := by decide +kernel
theorem dX9_stretch_64 : decode cX9_stretch 64 = .ok (.iload_n 1, 1) := by decide +kernel
theorem dX9_stretch_65 : decode cX9_stretch 65 = .ok (.iload_n 2, 1) := by decide +kernel
theorem dX9_stretch_66 : decode cX9_stretch 66 = .ok (.iconst 3, 1) := by decide +kernel
theorem dX9_stretch_67 : decode cX9_stretch 67 = .ok (.invokevirtual 164, 3) := by decide +kernel
theorem dX9_stretch_70 : decode cX9_stretch 70 = .ok (.invokestatic 200, 3) := by decide +kernel
theorem dX9_stretch_73 : decode cX9_stretch 73 = .ok (.ireturn, 1) := by decide +kernel
theorem dX9_as_0 : decode cX9_as 0 = .ok (.aload_n 0, 1) := by decide +kernel
theorem dX9_as_1 : decode cX9_as 1 = .ok (.getfield 19, 3) := by decide +kernel
theorem dX9_as_4 : decode cX9_as 4 = .ok (.iload_n 1, 1) := by decide +kernel
theorem dX9_as_5 : decode cX9_as 5 = .ok (.iload_n 2, 1) := by decide +kernel
theorem dX9_as_6 : decode cX9_as 6 = .ok (.invokevirtual 156, 3) := by decide +kernel
theorem dX9_as_9 : decode cX9_as 9 = .ok (.ifCond .eq 12, 3) := by decide +kernel
theorem dX9_as_12 : decode cX9_as 12 = .ok (.iload_n 3, 1) := by decide +kernel
theorem dX9_as_13 : decode cX9_as 13 = .ok (.ifCond .lt 8, 3) := by decide +kernel
theorem dX9_as_16 : decode cX9_as 16 = .ok (.iload_n 3, 1) := by decide +kernel
theorem dX9_as_17 : decode cX9_as 17 = .ok (.iconst 5, 1) := by decide +kernel
theorem dX9_as_18 : decode cX9_as 18 = .ok (.if_icmp .le 6, 3) := by decide +kernel
theorem dX9_as_21 : decode cX9_as 21 = .ok (.ldc 88, 2) := by decide +kernel
theorem dX9_as_23 : decode cX9_as 23 = .ok (.ireturn, 1) := by decide +kernel
theorem dX9_as_24 : decode cX9_as 24 = .ok (.aload_n 0, 1) := by decide +kernel
theorem dX9_as_25 : decode cX9_as 25 = .ok (.getfield 19, 3) := by decide +kernel
theorem dX9_as_28 : decode cX9_as 28 = .ok (.iload_n 1, 1) := by decide +kernel
theorem dX9_as_29 : decode cX9_as 29 = .ok (.iload_n 2, 1) := by decide +kernel
theorem dX9_as_30 : decode cX9_as 30 = .ok (.iconst 0, 1) := by decide +kernel
theorem dX9_as_31 : decode cX9_as 31 = .ok (.invokevirtual 164, 3) := by decide +kernel
theorem dX9_as_34 : decode cX9_as 34 = .ok (.iload_n 3, 1) := by decide +kernel
theorem dX9_as_35 : decode cX9_as 35 = .ok (.invokestatic 203, 3) := by decide +kernel
theorem dX9_as_38 : decode cX9_as 38 = .ok (.ifCond .eq 7, 3) := by decide +kernel
theorem dX9_as_41 : decode cX9_as 41 = .ok (.iload_n 2, 1) := by decide +kernel
theorem dX9_as_42 : decode cX9_as 42 = .ok (.goto 5, 3) := by decide +kernel
theorem dX9_as_45 : decode cX9_as 45 = .ok (.ldc 206, 2) := by decide +kernel
theorem dX9_as_47 : decode cX9_as 47 = .ok (.ireturn, 1) := by decide +kernel
theorem dX9_edition_0 : decode cX9_edition 0 = .ok (.aload_n 0, 1) := by decide +kernel
theorem dX9_edition_1 : decode cX9_edition 1 = .ok (.getfield 19, 3) := by decide +kernel
theorem dX9_edition_4 : decode cX9_edition 4 = .ok (.iload_n 1, 1) := by decide +kernel
theorem dX9_edition_5 : decode cX9_edition 5 = .ok (.invokevirtual 138, 3) := by decide +kernel
theorem dX9_edition_8 : decode cX9_edition 8 = .ok (.ifCond .eq 13, 3) := by decide +kernel
theorem dX9_edition_11 : decode cX9_edition 11 = .ok (.iload_n 2, 1) := by decide +kernel
theorem dX9_edition_12 : decode cX9_edition 12 = .ok (.ifCond .lt 9, 3) := by decide +kernel
theorem dX9_edition_15 : decode cX9_edition 15 = .ok (.iload_n 2, 1) := by decide +kernel
theorem dX9_edition_16 : decode cX9_edition 16 = .ok (.bipush 6, 2) := by decide +kernel
theorem dX9_edition_18 : decode cX9_edition 18 = .ok (.if_icmp .le 6, 3) := by decide +kernel
theorem dX9_edition_21 : decode cX9_edition 21 = .ok (.ldc 88, 2) := by decide +kernel
theorem dX9_edition_23 : decode cX9_edition 23 = .ok (.ireturn, 1) := by decide +kernel
theorem dX9_edition_24 : decode cX9_edition 24 = .ok (.iload_n 2, 1) := by decide +kernel
theorem dX9_edition_25 : decode cX9_edition 25 = .ok (.ifCond .ne 12, 3) := by decide +kernel
theorem dX9_edition_28 : decode cX9_edition 28 = .ok (.aload_n 0, 1) := by decide +kernel
theorem dX9_edition_29 : decode cX9_edition 29 = .ok (.getfield 19, 3) := by decide +kernel
theorem dX9_edition_32 : decode cX9_edition 32 = .ok (.iload_n 1, 1) := by decide +kernel
theorem dX9_edition_33 : decode cX9_edition 33 = .ok (.invokevirtual 145, 3) := by decide +kernel
theorem dX9_edition_36 : decode cX9_edition 36 = .ok (.ireturn, 1) := by decide +kernel
theorem dX9_edition_37 : decode cX9_edition 37 = .ok (.aload_n 0, 1) := by decide +kernel
theorem dX9_edition_38 : decode cX9_edition 38 = .ok (.getfield 51, 3) := by decide +kernel
theorem dX9_edition_41 : decode cX9_edition 41 = .ok (.aload_n 0, 1) := by decide +kernel
theorem dX9_edition_42 : decode cX9_edition 42 = .ok (.getfield 19, 3) := by decide +kernel
theorem dX9_edition_45 : decode cX9_edition 45 = .ok (.iload_n 1, 1) := by decide +kernel
theorem dX9_edition_46 : decode cX9_edition 46 = .ok (.invokevirtual 207, 3) := by decide +kernel
theorem dX9_edition_49 : decode cX9_edition 49 = .ok (.iload_n 2, 1) := by decide +kernel
theorem dX9_edition_50 : decode cX9_edition 50 = .ok (.iconst 1, 1) := by decide +kernel
theorem dX9_edition_51 : decode cX9_edition 51 = .ok (.if_icmp .ne 11, 3) := by decide +kernel
theorem dX9_edition_54 : decode cX9_edition 54 = .ok (.aload_n 0, 1) := by decide +kernel
theorem dX9_edition_55 : decode cX9_edition 55 = .ok (.getfield 51, 3) := by decide +kernel
theorem dX9_edition_58 : decode cX9_edition 58 = .ok (.invokevirtual 211, 3) := by decide +kernel
theorem dX9_edition_61 : decode cX9_edition 61 = .ok (.ireturn, 1) := by decide +kernel
theorem dX9_edition_62 : decode cX9_edition 62 = .ok (.aload_n 0, 1) := by decide +kernel
theorem dX9_edition_63 : decode cX9_edition 63 = .ok (.getfield 64, 3) := by decide +kernel
theorem dX9_edition_66 : decode cX9_edition 66 = .ok (.aload_n 0, 1) := by decide +kernel
theorem dX9_edition_67 : decode cX9_edition 67 = .ok (.getfield 51, 3) := by decide +kernel
theorem dX9_edition_70 : decode cX9_edition 70 = .ok (.invokevirtual 214, 3) := by decide +kernel
theorem dX9_edition_73 : decode cX9_edition 73 = .ok (.iload_n 2, 1) := by decide +kernel
theorem dX9_edition_74 : decode cX9_edition 74 = .ok (.iconst 5, 1) := by decide +kernel
theorem dX9_edition_75 : decode cX9_edition 75 = .ok (.if_icmp .ne 11, 3) := by decide +kernel
theorem dX9_edition_78 : decode cX9_edition 78 = .ok (.aload_n 0, 1) := by decide +kernel
theorem dX9_edition_79 : decode cX9_edition 79 = .ok (.getfield 64, 3) := by decide +kernel
theorem dX9_edition_82 : decode cX9_edition 82 = .ok (.invokevirtual 218, 3) := by decide +kernel
theorem dX9_edition_85 : decode cX9_edition 85 = .ok (.ireturn, 1) := by decide +kernel
theorem dX9_edition_86 : decode cX9_edition 86 = .ok (.iload_n 2, 1) := by decide +kernel
theorem dX9_edition_87 : decode cX9_edition 87 = .ok (.bipush 6, 2) := by decide +kernel
theorem dX9_edition_89 : decode cX9_edition 89 = .ok (.if_icmp .ne 11, 3) := by decide +kernel
theorem dX9_edition_92 : decode cX9_edition 92 = .ok (.aload_n 0, 1) := by decide +kernel
theorem dX9_edition_93 : decode cX9_edition 93 = .ok (.getfield 64, 3) := by decide +kernel
theorem dX9_edition_96 : decode cX9_edition 96 = .ok (.invokevirtual 221, 3) := by decide +kernel
theorem dX9_edition_99 : decode cX9_edition 99 = .ok (.ireturn, 1) := by decide +kernel
theorem dX9_edition_100 : decode cX9_edition 100 = .ok (.aload_n 0, 1) := by decide +kernel
theorem dX9_edition_101 : decode cX9_edition 101 = .ok (.getfield 64, 3) := by decide +kernel
theorem dX9_edition_104 : decode cX9_edition 104 = .ok (.aload_n 0, 1) := by decide +kernel
theorem dX9_edition_105 : decode cX9_edition 105 = .ok (.getfield 74, 3) := by decide +kernel
theorem dX9_edition_108 : decode cX9_edition 108 = .ok (.invokevirtual 224, 3) := by decide +kernel
theorem dX9_edition_111 : decode cX9_edition 111 = .ok (.aload_n 0, 1) := by decide +kernel
theorem dX9_edition_112 : decode cX9_edition 112 = .ok (.getfield 74, 3) := by decide +kernel
theorem dX9_edition_115 : decode cX9_edition 115 = .ok (.iload_n 2, 1) := by decide +kernel
theorem dX9_edition_116 : decode cX9_edition 116 = .ok (.iconst 2, 1) := by decide +kernel
theorem dX9_edition_117 : decode cX9_edition 117 = .ok (.isub, 1) := by decide +kernel
theorem dX9_edition_118 : decode cX9_edition 118 = .ok (.invokevirtual 228, 3) := by decide +kernel
theorem dX9_edition_121 : decode cX9_edition 121 = .ok (.ireturn, 1) := by decide +kernel
theorem dX9_number_0 : decode cX9_number 0 = .ok (.aload_n 0, 1) := by decide +kernel
theorem dX9_number_1 : decode cX9_number 1 = .ok (.getfield 19, 3) := by decide +kernel
theorem dX9_number_4 : decode cX9_number 4 = .ok (.iload_n 1, 1) := by decide +kernel
theorem dX9_number_5 : decode cX9_number 5 = .ok (.invokevirtual 138, 3) := by decide +kernel
theorem dX9_number_8 : decode cX9_number 8 = .ok (.ifCond .eq 23, 3) := by decide +kernel
theorem dX9_number_11 : decode cX9_number 11 = .ok (.aload_n 0, 1) := by decide +kernel
theorem dX9_number_12 : decode cX9_number 12 = .ok (.getfield 19, 3) := by decide +kernel
theorem dX9_number_15 : decode cX9_number 15 = .ok (.iload_n 2, 1) := by decide +kernel
theorem dX9_number_16 : decode cX9_number 16 = .ok (.invokevirtual 191, 3) := by decide +kernel
theorem dX9_number_19 : decode cX9_number 19 = .ok (.ifCond .eq 12, 3) := by decide +kernel
theorem dX9_number_22 : decode cX9_number 22 = .ok (.iload_n 3, 1) := by decide +kernel
theorem dX9_number_23 : decode cX9_number 23 = .ok (.ifCond .lt 8, 3) := by decide +kernel
theorem dX9_number_26 : decode cX9_number 26 = .ok (.iload_n 3, 1) := by decide +kernel
theorem dX9_number_27 : decode cX9_number 27 = .ok (.iconst 1, 1) := by decide +kernel
theorem dX9_number_28 : decode cX9_number 28 = .ok (.if_icmp .le 6, 3) := by decide +kernel
theorem dX9_number_31 : decode cX9_number 31 = .ok (.ldc 88, 2) := by decide +kernel
theorem dX9_number_33 : decode cX9_number 33 = .ok (.ireturn, 1) := by decide +kernel
theorem dX9_number_34 : decode cX9_number 34 = .ok (.aload_n 0, 1) := by decide +kernel
theorem dX9_number_35 : decode cX9_number 35 = .ok (.getfield 51, 3) := by decide +kernel
theorem dX9_number_38 : decode cX9_number 38 = .ok (.aload_n 0, 1) := by decide +kernel
theorem dX9_number_39 : decode cX9_number 39 = .ok (.getfield 19, 3) := by decide +kernel
theorem dX9_number_42 : decode cX9_number 42 = .ok (.iload_n 1, 1) := by decide +kernel
theorem dX9_number_43 : decode cX9_number 43 = .ok (.invokevirtual 207, 3) := by decide +kernel
theorem dX9_number_46 : decode cX9_number 46 = .ok (.aload_n 0, 1) := by decide +kernel
theorem dX9_number_47 : decode cX9_number 47 = .ok (.getfield 51, 3) := by decide +kernel
theorem dX9_number_50 : decode cX9_number 50 = .ok (.iload_n 2, 1) := by decide +kernel
theorem dX9_number_51 : decode cX9_number 51 = .ok (.invokevirtual 231, 3) := by decide +kernel
theorem dX9_number_54 : decode cX9_number 54 = .ok (.ifCond .ne 6, 3) := by decide +kernel
theorem dX9_number_57 : decode cX9_number 57 = .ok (.ldc 206, 2) := by decide +kernel
theorem dX9_number_59 : decode cX9_number 59 = .ok (.ireturn, 1) := by decide +kernel
theorem dX9_number_60 : decode cX9_number 60 = .ok (.iload_n 3, 1) := by decide +kernel
theorem dX9_number_61 : decode cX9_number 61 = .ok (.ifCond .ne 14, 3) := by decide +kernel
theorem dX9_number_64 : decode cX9_number 64 = .ok (.aload_n 0, 1) := by decide +kernel
theorem dX9_number_65 : decode cX9_number 65 = .ok (.getfield 51, 3) := by decide +kernel
theorem dX9_number_68 : decode cX9_number 68 = .ok (.iload_n 2, 1) := by decide +kernel
theorem dX9_number_69 : decode cX9_number 69 = .ok (.invokevirtual 234, 3) := by decide +kernel
theorem dX9_number_72 : decode cX9_number 72 = .ok (.goto 11, 3) := by decide +kernel
theorem dX9_number_75 : decode cX9_number 75 = .ok (.aload_n 0, 1) := by decide +kernel
theorem dX9_number_76 : decode cX9_number 76 = .ok (.getfield 51, 3) := by decide +kernel
theorem dX9_number_79 : decode cX9_number 79 = .ok (.iload_n 2, 1) := by decide +kernel
theorem dX9_number_80 : decode cX9_number 80 = .ok (.invokevirtual 237, 3) := by decide +kernel
theorem dX9_number_83 : decode cX9_number 83 = .ok (.ireturn, 1) := by decide +kernel
theorem dX9_meant_0 : decode cX9_meant 0 = .ok (.aload_n 0, 1) := by decide +kernel
theorem dX9_meant_1 : decode cX9_meant 1 = .ok (.getfield 19, 3) := by decide +kernel
theorem dX9_meant_4 : decode cX9_meant 4 = .ok (.iload_n 1, 1) := by decide +kernel
theorem dX9_meant_5 : decode cX9_meant 5 = .ok (.invokevirtual 138, 3) := by decide +kernel
theorem dX9_meant_8 : decode cX9_meant 8 = .ok (.ifCond .eq 10, 3) := by decide +kernel
theorem dX9_meant_11 : decode cX9_meant 11 = .ok (.iload_n 2, 1) := by decide +kernel
theorem dX9_meant_12 : decode cX9_meant 12 = .ok (.invokestatic 172, 3) := by decide +kernel
theorem dX9_meant_15 : decode cX9_meant 15 = .ok (.ifCond .ne 6, 3) := by decide +kernel
theorem dX9_meant_18 : decode cX9_meant 18 = .ok (.ldc 88, 2) := by decide +kernel
theorem dX9_meant_20 : decode cX9_meant 20 = .ok (.ireturn, 1) := by decide +kernel
theorem dX9_meant_21 : decode cX9_meant 21 = .ok (.iload_n 3, 1) := by decide +kernel
theorem dX9_meant_22 : decode cX9_meant 22 = .ok (.ifCond .lt 14, 3) := by decide +kernel
theorem dX9_meant_25 : decode cX9_meant 25 = .ok (.iload_n 3, 1) := by decide +kernel
theorem dX9_meant_26 : decode cX9_meant 26 = .ok (.iconst 2, 1) := by decide +kernel
theorem dX9_meant_27 : decode cX9_meant 27 = .ok (.if_icmp .le 12, 3) := by decide +kernel
theorem dX9_meant_30 : decode cX9_meant 30 = .ok (.iload_n 3, 1) := by decide +kernel
theorem dX9_meant_31 : decode cX9_meant 31 = .ok (.bipush 10, 2) := by decide +kernel
theorem dX9_meant_33 : decode cX9_meant 33 = .ok (.if_icmp .ge 6, 3) := by decide +kernel
theorem dX9_meant_36 : decode cX9_meant 36 = .ok (.ldc 88, 2) := by decide +kernel
theorem dX9_meant_38 : decode cX9_meant 38 = .ok (.ireturn, 1) := by decide +kernel
theorem dX9_meant_39 : decode cX9_meant 39 = .ok (.aload_n 0, 1) := by decide +kernel
theorem dX9_meant_40 : decode cX9_meant 40 = .ok (.getfield 51, 3) := by decide +kernel
theorem dX9_meant_43 : decode cX9_meant 43 = .ok (.aload_n 0, 1) := by decide +kernel
theorem dX9_meant_44 : decode cX9_meant 44 = .ok (.getfield 19, 3) := by decide +kernel
theorem dX9_meant_47 : decode cX9_meant 47 = .ok (.iload_n 1, 1) := by decide +kernel
theorem dX9_meant_48 : decode cX9_meant 48 = .ok (.invokevirtual 207, 3) := by decide +kernel
theorem dX9_meant_51 : decode cX9_meant 51 = .ok (.iload_n 3, 1) := by decide +kernel
theorem dX9_meant_52 : decode cX9_meant 52 = .ok (.bipush 10, 2) := by decide +kernel
theorem dX9_meant_54 : decode cX9_meant 54 = .ok (.if_icmp .lt 16, 3) := by decide +kernel
theorem dX9_meant_57 : decode cX9_meant 57 = .ok (.aload_n 0, 1) := by decide +kernel
theorem dX9_meant_58 : decode cX9_meant 58 = .ok (.getfield 51, 3) := by decide +kernel
theorem dX9_meant_61 : decode cX9_meant 61 = .ok (.iload_n 2, 1) := by decide +kernel
theorem dX9_meant_62 : decode cX9_meant 62 = .ok (.iload_n 3, 1) := by decide +kernel
theorem dX9_meant_63 : decode cX9_meant 63 = .ok (.bipush 10, 2) := by decide +kernel
theorem dX9_meant_65 : decode cX9_meant 65 = .ok (.isub, 1) := by decide +kernel
theorem dX9_meant_66 : decode cX9_meant 66 = .ok (.invokevirtual 240, 3) := by decide +kernel
theorem dX9_meant_69 : decode cX9_meant 69 = .ok (.ireturn, 1) := by decide +kernel
theorem dX9_meant_70 : decode cX9_meant 70 = .ok (.aload_n 0, 1) := by decide +kernel
theorem dX9_meant_71 : decode cX9_meant 71 = .ok (.getfield 51, 3) := by decide +kernel
theorem dX9_meant_74 : decode cX9_meant 74 = .ok (.iload_n 2, 1) := by decide +kernel
theorem dX9_meant_75 : decode cX9_meant 75 = .ok (.iload_n 2, 1) := by decide +kernel
theorem dX9_meant_76 : decode cX9_meant 76 = .ok (.aload_n 0, 1) := by decide +kernel
theorem dX9_meant_77 : decode cX9_meant 77 = .ok (.getfield 74, 3) := by decide +kernel
theorem dX9_meant_80 : decode cX9_meant 80 = .ok (.invokevirtual 244, 3) := by decide +kernel
theorem dX9_meant_83 : decode cX9_meant 83 = .ok (.aload_n 0, 1) := by decide +kernel
theorem dX9_meant_84 : decode cX9_meant 84 = .ok (.getfield 74, 3) := by decide +kernel
theorem dX9_meant_87 : decode cX9_meant 87 = .ok (.iload_n 3, 1) := by decide +kernel
theorem dX9_meant_88 : decode cX9_meant 88 = .ok (.invokevirtual 228, 3) := by decide +kernel
theorem dX9_meant_91 : decode cX9_meant 91 = .ok (.ireturn, 1) := by decide +kernel
theorem dX9_left_0 : decode cX9_left 0 = .ok (.aload_n 0, 1) := by decide +kernel
theorem dX9_left_1 : decode cX9_left 1 = .ok (.getfield 19, 3) := by decide +kernel
theorem dX9_left_4 : decode cX9_left 4 = .ok (.iload_n 1, 1) := by decide +kernel
theorem dX9_left_5 : decode cX9_left 5 = .ok (.invokevirtual 138, 3) := by decide +kernel
theorem dX9_left_8 : decode cX9_left 8 = .ok (.ifCond .eq 16, 3) := by decide +kernel
theorem dX9_left_11 : decode cX9_left 11 = .ok (.iload_n 2, 1) := by decide +kernel
theorem dX9_left_12 : decode cX9_left 12 = .ok (.ifCond .lt 12, 3) := by decide +kernel
theorem dX9_left_15 : decode cX9_left 15 = .ok (.iload_n 3, 1) := by decide +kernel
theorem dX9_left_16 : decode cX9_left 16 = .ok (.ifCond .lt 8, 3) := by decide +kernel
theorem dX9_left_19 : decode cX9_left 19 = .ok (.iload_n 3, 1) := by decide +kernel
theorem dX9_left_20 : decode cX9_left 20 = .ok (.iconst 1, 1) := by decide +kernel
theorem dX9_left_21 : decode cX9_left 21 = .ok (.if_icmp .le 6, 3) := by decide +kernel
theorem dX9_left_24 : decode cX9_left 24 = .ok (.ldc 88, 2) := by decide +kernel
theorem dX9_left_26 : decode cX9_left 26 = .ok (.ireturn, 1) := by decide +kernel
theorem dX9_left_27 : decode cX9_left 27 = .ok (.aload_n 0, 1) := by decide +kernel
theorem dX9_left_28 : decode cX9_left 28 = .ok (.getfield 51, 3) := by decide +kernel
theorem dX9_left_31 : decode cX9_left 31 = .ok (.aload_n 0, 1) := by decide +kernel
theorem dX9_left_32 : decode cX9_left 32 = .ok (.getfield 19, 3) := by decide +kernel
theorem dX9_left_35 : decode cX9_left 35 = .ok (.iload_n 1, 1) := by decide +kernel
theorem dX9_left_36 : decode cX9_left 36 = .ok (.invokevirtual 207, 3) := by decide +kernel
theorem dX9_left_39 : decode cX9_left 39 = .ok (.iconst (-1), 1) := by decide +kernel
theorem dX9_left_40 : decode cX9_left 40 = .ok (.istore 4, 2) := by decide +kernel
theorem dX9_left_42 : decode cX9_left 42 = .ok (.iconst 0, 1) := by decide +kernel
theorem dX9_left_43 : decode cX9_left 43 = .ok (.istore 5, 2) := by decide +kernel
theorem dX9_left_45 : decode cX9_left 45 = .ok (.iload 5, 2) := by decide +kernel
theorem dX9_left_47 : decode cX9_left 47 = .ok (.aload_n 0, 1) := by decide +kernel
theorem dX9_left_48 : decode cX9_left 48 = .ok (.getfield 19, 3) := by decide +kernel
theorem dX9_left_51 : decode cX9_left 51 = .ok (.invokevirtual 248, 3) := by decide +kernel
theorem dX9_left_54 : decode cX9_left 54 = .ok (.if_icmp .ge 52, 3) := by decide +kernel
theorem dX9_left_57 : decode cX9_left 57 = .ok (.aload_n 0, 1) := by decide +kernel
theorem dX9_left_58 : decode cX9_left 58 = .ok (.getfield 51, 3) := by decide +kernel
theorem dX9_left_61 : decode cX9_left 61 = .ok (.iload 5, 2) := by decide +kernel
theorem dX9_left_63 : decode cX9_left 63 = .ok (.invokevirtual 251, 3) := by decide +kernel
theorem dX9_left_66 : decode cX9_left 66 = .ok (.ifCond .ne 6, 3) := by decide +kernel
theorem dX9_left_69 : decode cX9_left 69 = .ok (.goto 31, 3) := by decide +kernel
theorem dX9_left_72 : decode cX9_left 72 = .ok (.iinc 4 1, 3) := by decide +kernel
theorem dX9_left_75 : decode cX9_left 75 = .ok (.iload 4, 2) := by decide +kernel
theorem dX9_left_77 : decode cX9_left 77 = .ok (.iload_n 2, 1) := by decide +kernel
theorem dX9_left_78 : decode cX9_left 78 = .ok (.if_icmp .ne 22, 3) := by decide +kernel
theorem dX9_left_81 : decode cX9_left 81 = .ok (.iload_n 3, 1) := by decide +kernel
theorem dX9_left_82 : decode cX9_left 82 = .ok (.ifCond .ne 8, 3) := by decide +kernel
theorem dX9_left_85 : decode cX9_left 85 = .ok (.iload 5, 2) := by decide +kernel
theorem dX9_left_87 : decode cX9_left 87 = .ok (.goto 12, 3) := by decide +kernel
theorem dX9_left_90 : decode cX9_left 90 = .ok (.aload_n 0, 1) := by decide +kernel
theorem dX9_left_91 : decode cX9_left 91 = .ok (.getfield 51, 3) := by decide +kernel
theorem dX9_left_94 : decode cX9_left 94 = .ok (.iload 5, 2) := by decide +kernel
theorem dX9_left_96 : decode cX9_left 96 = .ok (.invokevirtual 254, 3) := by decide +kernel
theorem dX9_left_99 : decode cX9_left 99 = .ok (.ireturn, 1) := by decide +kernel
theorem dX9_left_100 : decode cX9_left 100 = .ok (.iinc 5 1, 3) := by decide +kernel
theorem dX9_left_103 : decode cX9_left 103 = .ok (.goto (-58), 3) := by decide +kernel
theorem dX9_left_106 : decode cX9_left 106 = .ok (.ldc 206, 2) := by decide +kernel
theorem dX9_left_108 : decode cX9_left 108 = .ok (.ireturn, 1) := by decide +kernel
theorem dX9_in_0 : decode cX9_in 0 = .ok (.aload_n 0, 1) := by decide +kernel
theorem dX9_in_1 : decode cX9_in 1 = .ok (.getfield 19, 3) := by decide +kernel
theorem dX9_in_4 : decode cX9_in 4 = .ok (.iload_n 1, 1) := by decide +kernel
theorem dX9_in_5 : decode cX9_in 5 = .ok (.invokevirtual 138, 3) := by decide +kernel
theorem dX9_in_8 : decode cX9_in 8 = .ok (.ifCond .eq 21, 3) := by decide +kernel
theorem dX9_in_11 : decode cX9_in 11 = .ok (.aload_n 0, 1) := by decide +kernel
theorem dX9_in_12 : decode cX9_in 12 = .ok (.getfield 19, 3) := by decide +kernel
theorem dX9_in_15 : decode cX9_in 15 = .ok (.iload_n 3, 1) := by decide +kernel
theorem dX9_in_16 : decode cX9_in 16 = .ok (.invokevirtual 138, 3) := by decide +kernel
theorem dX9_in_19 : decode cX9_in 19 = .ok (.ifCond .eq 10, 3) := by decide +kernel
theorem dX9_in_22 : decode cX9_in 22 = .ok (.iload_n 2, 1) := by decide +kernel
theorem dX9_in_23 : decode cX9_in 23 = .ok (.invokestatic 172, 3) := by decide +kernel
theorem dX9_in_26 : decode cX9_in 26 = .ok (.ifCond .ne 6, 3) := by decide +kernel
theorem dX9_in_29 : decode cX9_in 29 = .ok (.ldc 88, 2) := by decide +kernel
theorem dX9_in_31 : decode cX9_in 31 = .ok (.ireturn, 1) := by decide +kernel
theorem dX9_in_32 : decode cX9_in 32 = .ok (.iload 4, 2) := by decide +kernel
theorem dX9_in_34 : decode cX9_in 34 = .ok (.ifCond .lt 9, 3) := by decide +kernel
theorem dX9_in_37 : decode cX9_in 37 = .ok (.iload 4, 2) := by decide +kernel
theorem dX9_in_39 : decode cX9_in 39 = .ok (.iconst 2, 1) := by decide +kernel
theorem dX9_in_40 : decode cX9_in 40 = .ok (.if_icmp .le 6, 3) := by decide +kernel
theorem dX9_in_43 : decode cX9_in 43 = .ok (.ldc 88, 2) := by decide +kernel
theorem dX9_in_45 : decode cX9_in 45 = .ok (.ireturn, 1) := by decide +kernel
theorem dX9_in_46 : decode cX9_in 46 = .ok (.aload_n 0, 1) := by decide +kernel
theorem dX9_in_47 : decode cX9_in 47 = .ok (.getfield 51, 3) := by decide +kernel
theorem dX9_in_50 : decode cX9_in 50 = .ok (.aload_n 0, 1) := by decide +kernel
theorem dX9_in_51 : decode cX9_in 51 = .ok (.getfield 19, 3) := by decide +kernel
theorem dX9_in_54 : decode cX9_in 54 = .ok (.iload_n 1, 1) := by decide +kernel
theorem dX9_in_55 : decode cX9_in 55 = .ok (.invokevirtual 207, 3) := by decide +kernel
theorem dX9_in_58 : decode cX9_in 58 = .ok (.aload_n 0, 1) := by decide +kernel
theorem dX9_in_59 : decode cX9_in 59 = .ok (.getfield 55, 3) := by decide +kernel
theorem dX9_in_62 : decode cX9_in 62 = .ok (.aload_n 0, 1) := by decide +kernel
theorem dX9_in_63 : decode cX9_in 63 = .ok (.getfield 19, 3) := by decide +kernel
theorem dX9_in_66 : decode cX9_in 66 = .ok (.iload_n 3, 1) := by decide +kernel
theorem dX9_in_67 : decode cX9_in 67 = .ok (.invokevirtual 207, 3) := by decide +kernel
theorem dX9_in_70 : decode cX9_in 70 = .ok (.aload_n 0, 1) := by decide +kernel
theorem dX9_in_71 : decode cX9_in 71 = .ok (.getfield 85, 3) := by decide +kernel
theorem dX9_in_74 : decode cX9_in 74 = .ok (.iload_n 2, 1) := by decide +kernel
theorem dX9_in_75 : decode cX9_in 75 = .ok (.aload_n 0, 1) := by decide +kernel
theorem dX9_in_76 : decode cX9_in 76 = .ok (.getfield 51, 3) := by decide +kernel
theorem dX9_in_79 : decode cX9_in 79 = .ok (.aload_n 0, 1) := by decide +kernel
theorem dX9_in_80 : decode cX9_in 80 = .ok (.getfield 55, 3) := by decide +kernel
theorem dX9_in_83 : decode cX9_in 83 = .ok (.invokevirtual 257, 3) := by decide +kernel
theorem dX9_in_86 : decode cX9_in 86 = .ok (.aload_n 0, 1) := by decide +kernel
theorem dX9_in_87 : decode cX9_in 87 = .ok (.getfield 85, 3) := by decide +kernel
theorem dX9_in_90 : decode cX9_in 90 = .ok (.iload 4, 2) := by decide +kernel
theorem dX9_in_92 : decode cX9_in 92 = .ok (.invokevirtual 261, 3) := by decide +kernel
theorem dX9_in_95 : decode cX9_in 95 = .ok (.ireturn, 1) := by decide +kernel
theorem dX9_through_0 : decode cX9_through 0 = .ok (.aload_n 0, 1) := by decide +kernel
theorem dX9_through_1 : decode cX9_through 1 = .ok (.getfield 19, 3) := by decide +kernel
theorem dX9_through_4 : decode cX9_through 4 = .ok (.iload_n 1, 1) := by decide +kernel
theorem dX9_through_5 : decode cX9_through 5 = .ok (.invokevirtual 138, 3) := by decide +kernel
theorem dX9_through_8 : decode cX9_through 8 = .ok (.ifCond .eq 26, 3) := by decide +kernel
theorem dX9_through_11 : decode cX9_through 11 = .ok (.aload_n 0, 1) := by decide +kernel
theorem dX9_through_12 : decode cX9_through 12 = .ok (.getfield 19, 3) := by decide +kernel
theorem dX9_through_15 : decode cX9_through 15 = .ok (.iload 4, 2) := by decide +kernel
theorem dX9_through_17 : decode cX9_through 17 = .ok (.invokevirtual 138, 3) := by decide +kernel
theorem dX9_through_20 : decode cX9_through 20 = .ok (.ifCond .eq 14, 3) := by decide +kernel
theorem dX9_through_23 : decode cX9_through 23 = .ok (.aload_n 0, 1) := by decide +kernel
theorem dX9_through_24 : decode cX9_through 24 = .ok (.getfield 19, 3) := by decide +kernel
theorem dX9_through_27 : decode cX9_through 27 = .ok (.iload_n 3, 1) := by decide +kernel
theorem dX9_through_28 : decode cX9_through 28 = .ok (.invokevirtual 138, 3) := by decide +kernel
theorem dX9_through_31 : decode cX9_through 31 = .ok (.ifCond .ne 6, 3) := by decide +kernel
theorem dX9_through_34 : decode cX9_through 34 = .ok (.ldc 88, 2) := by decide +kernel
theorem dX9_through_36 : decode cX9_through 36 = .ok (.ireturn, 1) := by decide +kernel
theorem dX9_through_37 : decode cX9_through 37 = .ok (.iload_n 2, 1) := by decide +kernel
theorem dX9_through_38 : decode cX9_through 38 = .ok (.invokestatic 172, 3) := by decide +kernel
theorem dX9_through_41 : decode cX9_through 41 = .ok (.ifCond .eq 14, 3) := by decide +kernel
theorem dX9_through_44 : decode cX9_through 44 = .ok (.iload 5, 2) := by decide +kernel
theorem dX9_through_46 : decode cX9_through 46 = .ok (.ifCond .lt 9, 3) := by decide +kernel
theorem dX9_through_49 : decode cX9_through 49 = .ok (.iload 5, 2) := by decide +kernel
theorem dX9_through_51 : decode cX9_through 51 = .ok (.iconst 2, 1) := by decide +kernel
theorem dX9_through_52 : decode cX9_through 52 = .ok (.if_icmp .le 6, 3) := by decide +kernel
theorem dX9_through_55 : decode cX9_through 55 = .ok (.ldc 88, 2) := by decide +kernel
theorem dX9_through_57 : decode cX9_through 57 = .ok (.ireturn, 1) := by decide +kernel
theorem dX9_through_58 : decode cX9_through 58 = .ok (.aload_n 0, 1) := by decide +kernel
theorem dX9_through_59 : decode cX9_through 59 = .ok (.getfield 51, 3) := by decide +kernel
theorem dX9_through_62 : decode cX9_through 62 = .ok (.aload_n 0, 1) := by decide +kernel
theorem dX9_through_63 : decode cX9_through 63 = .ok (.getfield 19, 3) := by decide +kernel
theorem dX9_through_66 : decode cX9_through 66 = .ok (.iload_n 1, 1) := by decide +kernel
theorem dX9_through_67 : decode cX9_through 67 = .ok (.invokevirtual 207, 3) := by decide +kernel
theorem dX9_through_70 : decode cX9_through 70 = .ok (.aload_n 0, 1) := by decide +kernel
theorem dX9_through_71 : decode cX9_through 71 = .ok (.getfield 58, 3) := by decide +kernel
theorem dX9_through_74 : decode cX9_through 74 = .ok (.aload_n 0, 1) := by decide +kernel
theorem dX9_through_75 : decode cX9_through 75 = .ok (.getfield 19, 3) := by decide +kernel
theorem dX9_through_78 : decode cX9_through 78 = .ok (.iload_n 3, 1) := by decide +kernel
theorem dX9_through_79 : decode cX9_through 79 = .ok (.invokevirtual 207, 3) := by decide +kernel
theorem dX9_through_82 : decode cX9_through 82 = .ok (.aload_n 0, 1) := by decide +kernel
theorem dX9_through_83 : decode cX9_through 83 = .ok (.getfield 55, 3) := by decide +kernel
theorem dX9_through_86 : decode cX9_through 86 = .ok (.aload_n 0, 1) := by decide +kernel
theorem dX9_through_87 : decode cX9_through 87 = .ok (.getfield 19, 3) := by decide +kernel
theorem dX9_through_90 : decode cX9_through 90 = .ok (.iload 4, 2) := by decide +kernel
theorem dX9_through_92 : decode cX9_through 92 = .ok (.invokevirtual 207, 3) := by decide +kernel
theorem dX9_through_95 : decode cX9_through 95 = .ok (.aload_n 0, 1) := by decide +kernel
theorem dX9_through_96 : decode cX9_through 96 = .ok (.getfield 81, 3) := by decide +kernel
theorem dX9_through_99 : decode cX9_through 99 = .ok (.iload_n 2, 1) := by decide +kernel
theorem dX9_through_100 : decode cX9_through 100 = .ok (.aload_n 0, 1) := by decide +kernel
theorem dX9_through_101 : decode cX9_through 101 = .ok (.getfield 51, 3) := by decide +kernel
theorem dX9_through_104 : decode cX9_through 104 = .ok (.aload_n 0, 1) := by decide +kernel
theorem dX9_through_105 : decode cX9_through 105 = .ok (.getfield 58, 3) := by decide +kernel
theorem dX9_through_108 : decode cX9_through 108 = .ok (.invokevirtual 257, 3) := by decide +kernel
theorem dX9_through_111 : decode cX9_through 111 = .ok (.aload_n 0, 1) := by decide +kernel
theorem dX9_through_112 : decode cX9_through 112 = .ok (.getfield 85, 3) := by decide +kernel
theorem dX9_through_115 : decode cX9_through 115 = .ok (.aload_n 0, 1) := by decide +kernel
theorem dX9_through_116 : decode cX9_through 116 = .ok (.getfield 81, 3) := by decide +kernel
theorem dX9_through_119 : decode cX9_through 119 = .ok (.aload_n 0, 1) := by decide +kernel
theorem dX9_through_120 : decode cX9_through 120 = .ok (.getfield 58, 3) := by decide +kernel
theorem dX9_through_123 : decode cX9_through 123 = .ok (.aload_n 0, 1) := by decide +kernel
theorem dX9_through_124 : decode cX9_through 124 = .ok (.getfield 55, 3) := by decide +kernel
theorem dX9_through_127 : decode cX9_through 127 = .ok (.invokevirtual 262, 3) := by decide +kernel
theorem dX9_through_130 : decode cX9_through 130 = .ok (.aload_n 0, 1) := by decide +kernel
theorem dX9_through_131 : decode cX9_through 131 = .ok (.getfield 85, 3) := by decide +kernel
theorem dX9_through_134 : decode cX9_through 134 = .ok (.iload 5, 2) := by decide +kernel
theorem dX9_through_136 : decode cX9_through 136 = .ok (.invokevirtual 261, 3) := by decide +kernel
theorem dX9_through_139 : decode cX9_through 139 = .ok (.ireturn, 1) := by decide +kernel
theorem dX9_shift_0 : decode cX9_shift 0 = .ok (.aload_n 0, 1) := by decide +kernel
theorem dX9_shift_1 : decode cX9_shift 1 = .ok (.getfield 19, 3) := by decide +kernel
theorem dX9_shift_4 : decode cX9_shift 4 = .ok (.iload_n 1, 1) := by decide +kernel
theorem dX9_shift_5 : decode cX9_shift 5 = .ok (.invokevirtual 138, 3) := by decide +kernel
theorem dX9_shift_8 : decode cX9_shift 8 = .ok (.ifCond .eq 19, 3) := by decide +kernel
theorem dX9_shift_11 : decode cX9_shift 11 = .ok (.aload_n 0, 1) := by decide +kernel
theorem dX9_shift_12 : decode cX9_shift 12 = .ok (.getfield 19, 3) := by decide +kernel
theorem dX9_shift_15 : decode cX9_shift 15 = .ok (.iload_n 2, 1) := by decide +kernel
theorem dX9_shift_16 : decode cX9_shift 16 = .ok (.invokevirtual 138, 3) := by decide +kernel
theorem dX9_shift_19 : decode cX9_shift 19 = .ok (.ifCond .eq 8, 3) := by decide +kernel
theorem dX9_shift_22 : decode cX9_shift 22 = .ok (.iload_n 3, 1) := by decide +kernel
theorem dX9_shift_23 : decode cX9_shift 23 = .ok (.iconst (-1), 1) := by decide +kernel
theorem dX9_shift_24 : decode cX9_shift 24 = .ok (.if_icmp .ge 6, 3) := by decide +kernel
theorem dX9_shift_27 : decode cX9_shift 27 = .ok (.ldc 88, 2) := by decide +kernel
theorem dX9_shift_29 : decode cX9_shift 29 = .ok (.ireturn, 1) := by decide +kernel
theorem dX9_shift_30 : decode cX9_shift 30 = .ok (.iload 4, 2) := by decide +kernel
theorem dX9_shift_32 : decode cX9_shift 32 = .ok (.ifCond .lt 19, 3) := by decide +kernel
theorem dX9_shift_35 : decode cX9_shift 35 = .ok (.iload 4, 2) := by decide +kernel
theorem dX9_shift_37 : decode cX9_shift 37 = .ok (.iconst 2, 1) := by decide +kernel
theorem dX9_shift_38 : decode cX9_shift 38 = .ok (.if_icmp .gt 13, 3) := by decide +kernel
theorem dX9_shift_41 : decode cX9_shift 41 = .ok (.iload_n 3, 1) := by decide +kernel
theorem dX9_shift_42 : decode cX9_shift 42 = .ok (.iconst (-1), 1) := by decide +kernel
theorem dX9_shift_43 : decode cX9_shift 43 = .ok (.if_icmp .ne 11, 3) := by decide +kernel
theorem dX9_shift_46 : decode cX9_shift 46 = .ok (.iload 4, 2) := by decide +kernel
theorem dX9_shift_48 : decode cX9_shift 48 = .ok (.ifCond .eq 6, 3) := by decide +kernel
theorem dX9_shift_51 : decode cX9_shift 51 = .ok (.ldc 88, 2) := by decide +kernel
theorem dX9_shift_53 : decode cX9_shift 53 = .ok (.ireturn, 1) := by decide +kernel
theorem dX9_shift_54 : decode cX9_shift 54 = .ok (.aload_n 0, 1) := by decide +kernel
theorem dX9_shift_55 : decode cX9_shift 55 = .ok (.getfield 51, 3) := by decide +kernel
theorem dX9_shift_58 : decode cX9_shift 58 = .ok (.aload_n 0, 1) := by decide +kernel
theorem dX9_shift_59 : decode cX9_shift 59 = .ok (.getfield 19, 3) := by decide +kernel
theorem dX9_shift_62 : decode cX9_shift 62 = .ok (.iload_n 1, 1) := by decide +kernel
theorem dX9_shift_63 : decode cX9_shift 63 = .ok (.invokevirtual 207, 3) := by decide +kernel
theorem dX9_shift_66 : decode cX9_shift 66 = .ok (.aload_n 0, 1) := by decide +kernel
theorem dX9_shift_67 : decode cX9_shift 67 = .ok (.getfield 55, 3) := by decide +kernel
theorem dX9_shift_70 : decode cX9_shift 70 = .ok (.aload_n 0, 1) := by decide +kernel
theorem dX9_shift_71 : decode cX9_shift 71 = .ok (.getfield 19, 3) := by decide +kernel
theorem dX9_shift_74 : decode cX9_shift 74 = .ok (.iload_n 2, 1) := by decide +kernel
theorem dX9_shift_75 : decode cX9_shift 75 = .ok (.invokevirtual 207, 3) := by decide +kernel
theorem dX9_shift_78 : decode cX9_shift 78 = .ok (.aload_n 0, 1) := by decide +kernel
theorem dX9_shift_79 : decode cX9_shift 79 = .ok (.getfield 64, 3) := by decide +kernel
theorem dX9_shift_82 : decode cX9_shift 82 = .ok (.aload_n 0, 1) := by decide +kernel
theorem dX9_shift_83 : decode cX9_shift 83 = .ok (.getfield 51, 3) := by decide +kernel
theorem dX9_shift_86 : decode cX9_shift 86 = .ok (.aload_n 0, 1) := by decide +kernel
theorem dX9_shift_87 : decode cX9_shift 87 = .ok (.getfield 55, 3) := by decide +kernel
theorem dX9_shift_90 : decode cX9_shift 90 = .ok (.invokevirtual 266, 3) := by decide +kernel
theorem dX9_shift_93 : decode cX9_shift 93 = .ok (.aload_n 0, 1) := by decide +kernel
theorem dX9_shift_94 : decode cX9_shift 94 = .ok (.getfield 64, 3) := by decide +kernel
theorem dX9_shift_97 : decode cX9_shift 97 = .ok (.invokevirtual 270, 3) := by decide +kernel
theorem dX9_shift_100 : decode cX9_shift 100 = .ok (.iconst 0, 1) := by decide +kernel
theorem dX9_shift_101 : decode cX9_shift 101 = .ok (.istore 5, 2) := by decide +kernel
theorem dX9_shift_103 : decode cX9_shift 103 = .ok (.iconst 1, 1) := by decide +kernel
theorem dX9_shift_104 : decode cX9_shift 104 = .ok (.istore 6, 2) := by decide +kernel
theorem dX9_shift_106 : decode cX9_shift 106 = .ok (.iload 6, 2) := by decide +kernel
theorem dX9_shift_108 : decode cX9_shift 108 = .ok (.sipush 999, 3) := by decide +kernel
theorem dX9_shift_111 : decode cX9_shift 111 = .ok (.if_icmp .gt 38, 3) := by decide +kernel
theorem dX9_shift_114 : decode cX9_shift 114 = .ok (.aload_n 0, 1) := by decide +kernel
theorem dX9_shift_115 : decode cX9_shift 115 = .ok (.getfield 64, 3) := by decide +kernel
theorem dX9_shift_118 : decode cX9_shift 118 = .ok (.invokevirtual 273, 3) := by decide +kernel
theorem dX9_shift_121 : decode cX9_shift 121 = .ok (.ifCond .eq 28, 3) := by decide +kernel
theorem dX9_shift_124 : decode cX9_shift 124 = .ok (.iload 5, 2) := by decide +kernel
theorem dX9_shift_126 : decode cX9_shift 126 = .ok (.iload_n 3, 1) := by decide +kernel
theorem dX9_shift_127 : decode cX9_shift 127 = .ok (.if_icmp .ne 13, 3) := by decide +kernel
theorem dX9_shift_130 : decode cX9_shift 130 = .ok (.aload_n 0, 1) := by decide +kernel
theorem dX9_shift_131 : decode cX9_shift 131 = .ok (.getfield 64, 3) := by decide +kernel
theorem dX9_shift_134 : decode cX9_shift 134 = .ok (.iload 4, 2) := by decide +kernel
theorem dX9_shift_136 : decode cX9_shift 136 = .ok (.invokevirtual 276, 3) := by decide +kernel
theorem dX9_shift_139 : decode cX9_shift 139 = .ok (.ireturn, 1) := by decide +kernel
theorem dX9_shift_140 : decode cX9_shift 140 = .ok (.iinc 5 1, 3) := by decide +kernel
theorem dX9_shift_143 : decode cX9_shift 143 = .ok (.iinc 6 1, 3) := by decide +kernel
theorem dX9_shift_146 : decode cX9_shift 146 = .ok (.goto (-40), 3) := by decide +kernel
theorem dX9_shift_149 : decode cX9_shift 149 = .ok (.iload_n 3, 1) := by decide +kernel
theorem dX9_shift_150 : decode cX9_shift 150 = .ok (.iconst (-1), 1) := by decide +kernel
theorem dX9_shift_151 : decode cX9_shift 151 = .ok (.if_icmp .ne 8, 3) := by decide +kernel
theorem dX9_shift_154 : decode cX9_shift 154 = .ok (.iload 5, 2) := by decide +kernel
theorem dX9_shift_156 : decode cX9_shift 156 = .ok (.goto 5, 3) := by decide +kernel
theorem dX9_shift_159 : decode cX9_shift 159 = .ok (.ldc 206, 2) := by decide +kernel
theorem dX9_shift_161 : decode cX9_shift 161 = .ok (.ireturn, 1) := by decide +kernel
theorem dX9_table_0 : decode cX9_table 0 = .ok (.aload_n 0, 1) := by decide +kernel
theorem dX9_table_1 : decode cX9_table 1 = .ok (.getfield 19, 3) := by decide +kernel
theorem dX9_table_4 : decode cX9_table 4 = .ok (.iload_n 1, 1) := by decide +kernel
theorem dX9_table_5 : decode cX9_table 5 = .ok (.invokevirtual 138, 3) := by decide +kernel
theorem dX9_table_8 : decode cX9_table 8 = .ok (.ifCond .eq 23, 3) := by decide +kernel
theorem dX9_table_11 : decode cX9_table 11 = .ok (.aload_n 0, 1) := by decide +kernel
theorem dX9_table_12 : decode cX9_table 12 = .ok (.getfield 19, 3) := by decide +kernel
theorem dX9_table_15 : decode cX9_table 15 = .ok (.iload_n 2, 1) := by decide +kernel
theorem dX9_table_16 : decode cX9_table 16 = .ok (.invokevirtual 138, 3) := by decide +kernel
theorem dX9_table_19 : decode cX9_table 19 = .ok (.ifCond .eq 12, 3) := by decide +kernel
theorem dX9_table_22 : decode cX9_table 22 = .ok (.iload_n 3, 1) := by decide +kernel
theorem dX9_table_23 : decode cX9_table 23 = .ok (.ifCond .lt 8, 3) := by decide +kernel
theorem dX9_table_26 : decode cX9_table 26 = .ok (.iload_n 3, 1) := by decide +kernel
theorem dX9_table_27 : decode cX9_table 27 = .ok (.iconst 3, 1) := by decide +kernel
theorem dX9_table_28 : decode cX9_table 28 = .ok (.if_icmp .le 6, 3) := by decide +kernel
theorem dX9_table_31 : decode cX9_table 31 = .ok (.ldc 88, 2) := by decide +kernel
theorem dX9_table_33 : decode cX9_table 33 = .ok (.ireturn, 1) := by decide +kernel
theorem dX9_table_34 : decode cX9_table 34 = .ok (.aload_n 0, 1) := by decide +kernel
theorem dX9_table_35 : decode cX9_table 35 = .ok (.getfield 51, 3) := by decide +kernel
theorem dX9_table_38 : decode cX9_table 38 = .ok (.aload_n 0, 1) := by decide +kernel
theorem dX9_table_39 : decode cX9_table 39 = .ok (.getfield 19, 3) := by decide +kernel
theorem dX9_table_42 : decode cX9_table 42 = .ok (.iload_n 1, 1) := by decide +kernel
theorem dX9_table_43 : decode cX9_table 43 = .ok (.invokevirtual 207, 3) := by decide +kernel
theorem dX9_table_46 : decode cX9_table 46 = .ok (.aload_n 0, 1) := by decide +kernel
theorem dX9_table_47 : decode cX9_table 47 = .ok (.getfield 55, 3) := by decide +kernel
theorem dX9_table_50 : decode cX9_table 50 = .ok (.aload_n 0, 1) := by decide +kernel
theorem dX9_table_51 : decode cX9_table 51 = .ok (.getfield 19, 3) := by decide +kernel
theorem dX9_table_54 : decode cX9_table 54 = .ok (.iload_n 2, 1) := by decide +kernel
theorem dX9_table_55 : decode cX9_table 55 = .ok (.invokevirtual 207, 3) := by decide +kernel
theorem dX9_table_58 : decode cX9_table 58 = .ok (.aload_n 0, 1) := by decide +kernel
theorem dX9_table_59 : decode cX9_table 59 = .ok (.getfield 64, 3) := by decide +kernel
theorem dX9_table_62 : decode cX9_table 62 = .ok (.aload_n 0, 1) := by decide +kernel
theorem dX9_table_63 : decode cX9_table 63 = .ok (.getfield 51, 3) := by decide +kernel
theorem dX9_table_66 : decode cX9_table 66 = .ok (.invokevirtual 214, 3) := by decide +kernel
theorem dX9_table_69 : decode cX9_table 69 = .ok (.aload_n 0, 1) := by decide +kernel
theorem dX9_table_70 : decode cX9_table 70 = .ok (.getfield 64, 3) := by decide +kernel
theorem dX9_table_73 : decode cX9_table 73 = .ok (.invokevirtual 279, 3) := by decide +kernel
theorem dX9_table_76 : decode cX9_table 76 = .ok (.istore 4, 2) := by decide +kernel
theorem dX9_table_78 : decode cX9_table 78 = .ok (.aload_n 0, 1) := by decide +kernel
theorem dX9_table_79 : decode cX9_table 79 = .ok (.getfield 64, 3) := by decide +kernel
theorem dX9_table_82 : decode cX9_table 82 = .ok (.aload_n 0, 1) := by decide +kernel
theorem dX9_table_83 : decode cX9_table 83 = .ok (.getfield 51, 3) := by decide +kernel
theorem dX9_table_86 : decode cX9_table 86 = .ok (.aload_n 0, 1) := by decide +kernel
theorem dX9_table_87 : decode cX9_table 87 = .ok (.getfield 55, 3) := by decide +kernel
theorem dX9_table_90 : decode cX9_table 90 = .ok (.invokevirtual 266, 3) := by decide +kernel
theorem dX9_table_93 : decode cX9_table 93 = .ok (.iload_n 3, 1) := by decide +kernel
theorem dX9_table_94 : decode cX9_table 94 = .ok (.ifCond .ne 14, 3) := by decide +kernel
theorem dX9_table_97 : decode cX9_table 97 = .ok (.iload 4, 2) := by decide +kernel
theorem dX9_table_99 : decode cX9_table 99 = .ok (.aload_n 0, 1) := by decide +kernel
theorem dX9_table_100 : decode cX9_table 100 = .ok (.getfield 64, 3) := by decide +kernel
theorem dX9_table_103 : decode cX9_table 103 = .ok (.invokevirtual 279, 3) := by decide +kernel
theorem dX9_table_106 : decode cX9_table 106 = .ok (.isub, 1) := by decide +kernel
theorem dX9_table_107 : decode cX9_table 107 = .ok (.ireturn, 1) := by decide +kernel
theorem dX9_table_108 : decode cX9_table 108 = .ok (.iload_n 3, 1) := by decide +kernel
theorem dX9_table_109 : decode cX9_table 109 = .ok (.iconst 3, 1) := by decide +kernel
theorem dX9_table_110 : decode cX9_table 110 = .ok (.if_icmp .ge 12, 3) := by decide +kernel
theorem dX9_table_113 : decode cX9_table 113 = .ok (.aload_n 0, 1) := by decide +kernel
theorem dX9_table_114 : decode cX9_table 114 = .ok (.getfield 64, 3) := by decide +kernel
theorem dX9_table_117 : decode cX9_table 117 = .ok (.iload_n 3, 1) := by decide +kernel
theorem dX9_table_118 : decode cX9_table 118 = .ok (.invokevirtual 282, 3) := by decide +kernel
theorem dX9_table_121 : decode cX9_table 121 = .ok (.ireturn, 1) := by decide +kernel
theorem dX9_table_122 : decode cX9_table 122 = .ok (.aload_n 0, 1) := by decide +kernel
theorem dX9_table_123 : decode cX9_table 123 = .ok (.getfield 68, 3) := by decide +kernel
theorem dX9_table_126 : decode cX9_table 126 = .ok (.aload_n 0, 1) := by decide +kernel
theorem dX9_table_127 : decode cX9_table 127 = .ok (.getfield 55, 3) := by decide +kernel
theorem dX9_table_130 : decode cX9_table 130 = .ok (.aload_n 0, 1) := by decide +kernel
theorem dX9_table_131 : decode cX9_table 131 = .ok (.getfield 51, 3) := by decide +kernel
theorem dX9_table_134 : decode cX9_table 134 = .ok (.invokevirtual 266, 3) := by decide +kernel
theorem dX9_table_137 : decode cX9_table 137 = .ok (.aload_n 0, 1) := by decide +kernel
theorem dX9_table_138 : decode cX9_table 138 = .ok (.getfield 64, 3) := by decide +kernel
theorem dX9_table_141 : decode cX9_table 141 = .ok (.aload_n 0, 1) := by decide +kernel
theorem dX9_table_142 : decode cX9_table 142 = .ok (.getfield 51, 3) := by decide +kernel
theorem dX9_table_145 : decode cX9_table 145 = .ok (.aload_n 0, 1) := by decide +kernel
theorem dX9_table_146 : decode cX9_table 146 = .ok (.getfield 55, 3) := by decide +kernel
theorem dX9_table_149 : decode cX9_table 149 = .ok (.aload_n 0, 1) := by decide +kernel
theorem dX9_table_150 : decode cX9_table 150 = .ok (.getfield 68, 3) := by decide +kernel
theorem dX9_table_153 : decode cX9_table 153 = .ok (.invokevirtual 285, 3) := by decide +kernel
theorem dX9_table_156 : decode cX9_table 156 = .ok (.aload_n 0, 1) := by decide +kernel
theorem dX9_table_157 : decode cX9_table 157 = .ok (.getfield 64, 3) := by decide +kernel
theorem dX9_table_160 : decode cX9_table 160 = .ok (.iconst 1, 1) := by decide +kernel
theorem dX9_table_161 : decode cX9_table 161 = .ok (.invokevirtual 282, 3) := by decide +kernel
theorem dX9_table_164 : decode cX9_table 164 = .ok (.ireturn, 1) := by decide +kernel
theorem dX9_share_0 : decode cX9_share 0 = .ok (.aload_n 0, 1) := by decide +kernel
theorem dX9_share_1 : decode cX9_share 1 = .ok (.getfield 19, 3) := by decide +kernel
theorem dX9_share_4 : decode cX9_share 4 = .ok (.iload_n 1, 1) := by decide +kernel
theorem dX9_share_5 : decode cX9_share 5 = .ok (.invokevirtual 138, 3) := by decide +kernel
theorem dX9_share_8 : decode cX9_share 8 = .ok (.ifCond .eq 14, 3) := by decide +kernel
theorem dX9_share_11 : decode cX9_share 11 = .ok (.aload_n 0, 1) := by decide +kernel
theorem dX9_share_12 : decode cX9_share 12 = .ok (.getfield 19, 3) := by decide +kernel
theorem dX9_share_15 : decode cX9_share 15 = .ok (.iload_n 2, 1) := by decide +kernel
theorem dX9_share_16 : decode cX9_share 16 = .ok (.invokevirtual 138, 3) := by decide +kernel
theorem dX9_share_19 : decode cX9_share 19 = .ok (.ifCond .ne 6, 3) := by decide +kernel
theorem dX9_share_22 : decode cX9_share 22 = .ok (.ldc 88, 2) := by decide +kernel
theorem dX9_share_24 : decode cX9_share 24 = .ok (.ireturn, 1) := by decide +kernel
theorem dX9_share_25 : decode cX9_share 25 = .ok (.aload_n 0, 1) := by decide +kernel
theorem dX9_share_26 : decode cX9_share 26 = .ok (.getfield 51, 3) := by decide +kernel
theorem dX9_share_29 : decode cX9_share 29 = .ok (.aload_n 0, 1) := by decide +kernel
theorem dX9_share_30 : decode cX9_share 30 = .ok (.getfield 19, 3) := by decide +kernel
theorem dX9_share_33 : decode cX9_share 33 = .ok (.iload_n 1, 1) := by decide +kernel
theorem dX9_share_34 : decode cX9_share 34 = .ok (.invokevirtual 207, 3) := by decide +kernel
theorem dX9_share_37 : decode cX9_share 37 = .ok (.aload_n 0, 1) := by decide +kernel
theorem dX9_share_38 : decode cX9_share 38 = .ok (.getfield 55, 3) := by decide +kernel
theorem dX9_share_41 : decode cX9_share 41 = .ok (.aload_n 0, 1) := by decide +kernel
theorem dX9_share_42 : decode cX9_share 42 = .ok (.getfield 19, 3) := by decide +kernel
theorem dX9_share_45 : decode cX9_share 45 = .ok (.iload_n 2, 1) := by decide +kernel
theorem dX9_share_46 : decode cX9_share 46 = .ok (.invokevirtual 207, 3) := by decide +kernel
theorem dX9_share_49 : decode cX9_share 49 = .ok (.iconst 0, 1) := by decide +kernel
theorem dX9_share_50 : decode cX9_share 50 = .ok (.istore_n 3, 1) := by decide +kernel
theorem dX9_share_51 : decode cX9_share 51 = .ok (.iconst 0, 1) := by decide +kernel
theorem dX9_share_52 : decode cX9_share 52 = .ok (.istore 4, 2) := by decide +kernel
theorem dX9_share_54 : decode cX9_share 54 = .ok (.iconst 0, 1) := by decide +kernel
theorem dX9_share_55 : decode cX9_share 55 = .ok (.istore 5, 2) := by decide +kernel
theorem dX9_share_57 : decode cX9_share 57 = .ok (.iload 5, 2) := by decide +kernel
theorem dX9_share_59 : decode cX9_share 59 = .ok (.aload_n 0, 1) := by decide +kernel
theorem dX9_share_60 : decode cX9_share 60 = .ok (.getfield 19, 3) := by decide +kernel
theorem dX9_share_63 : decode cX9_share 63 = .ok (.invokevirtual 248, 3) := by decide +kernel
theorem dX9_share_66 : decode cX9_share 66 = .ok (.if_icmp .ge 63, 3) := by decide +kernel
theorem dX9_share_69 : decode cX9_share 69 = .ok (.aload_n 0, 1) := by decide +kernel
theorem dX9_share_70 : decode cX9_share 70 = .ok (.getfield 51, 3) := by decide +kernel
theorem dX9_share_73 : decode cX9_share 73 = .ok (.iload 5, 2) := by decide +kernel
theorem dX9_share_75 : decode cX9_share 75 = .ok (.invokevirtual 231, 3) := by decide +kernel
theorem dX9_share_78 : decode cX9_share 78 = .ok (.ifCond .eq 18, 3) := by decide +kernel
theorem dX9_share_81 : decode cX9_share 81 = .ok (.aload_n 0, 1) := by decide +kernel
theorem dX9_share_82 : decode cX9_share 82 = .ok (.getfield 55, 3) := by decide +kernel
theorem dX9_share_85 : decode cX9_share 85 = .ok (.iload 5, 2) := by decide +kernel
theorem dX9_share_87 : decode cX9_share 87 = .ok (.invokevirtual 231, 3) := by decide +kernel
theorem dX9_share_90 : decode cX9_share 90 = .ok (.ifCond .eq 6, 3) := by decide +kernel
theorem dX9_share_93 : decode cX9_share 93 = .ok (.iinc 3 1, 3) := by decide +kernel
theorem dX9_share_96 : decode cX9_share 96 = .ok (.aload_n 0, 1) := by decide +kernel
theorem dX9_share_97 : decode cX9_share 97 = .ok (.getfield 51, 3) := by decide +kernel
theorem dX9_share_100 : decode cX9_share 100 = .ok (.iload 5, 2) := by decide +kernel
theorem dX9_share_102 : decode cX9_share 102 = .ok (.invokevirtual 231, 3) := by decide +kernel
theorem dX9_share_105 : decode cX9_share 105 = .ok (.ifCond .ne 15, 3) := by decide +kernel
theorem dX9_share_108 : decode cX9_share 108 = .ok (.aload_n 0, 1) := by decide +kernel
theorem dX9_share_109 : decode cX9_share 109 = .ok (.getfield 55, 3) := by decide +kernel
theorem dX9_share_112 : decode cX9_share 112 = .ok (.iload 5, 2) := by decide +kernel
theorem dX9_share_114 : decode cX9_share 114 = .ok (.invokevirtual 231, 3) := by decide +kernel
theorem dX9_share_117 : decode cX9_share 117 = .ok (.ifCond .eq 6, 3) := by decide +kernel
theorem dX9_share_120 : decode cX9_share 120 = .ok (.iinc 4 1, 3) := by decide +kernel
theorem dX9_share_123 : decode cX9_share 123 = .ok (.iinc 5 1, 3) := by decide +kernel
theorem dX9_share_126 : decode cX9_share 126 = .ok (.goto (-69), 3) := by decide +kernel
theorem dX9_share_129 : decode cX9_share 129 = .ok (.iload_n 3, 1) := by decide +kernel
theorem dX9_share_130 : decode cX9_share 130 = .ok (.iload 4, 2) := by decide +kernel
theorem dX9_share_132 : decode cX9_share 132 = .ok (.invokestatic 289, 3) := by decide +kernel
theorem dX9_share_135 : decode cX9_share 135 = .ok (.ireturn, 1) := by decide +kernel
theorem dX9_score_0 : decode cX9_score 0 = .ok (.aload_n 0, 1) := by decide +kernel
theorem dX9_score_1 : decode cX9_score 1 = .ok (.getfield 19, 3) := by decide +kernel
theorem dX9_score_4 : decode cX9_score 4 = .ok (.iload_n 1, 1) := by decide +kernel
theorem dX9_score_5 : decode cX9_score 5 = .ok (.invokevirtual 138, 3) := by decide +kernel
theorem dX9_score_8 : decode cX9_score 8 = .ok (.ifCond .eq 12, 3) := by decide +kernel
theorem dX9_score_11 : decode cX9_score 11 = .ok (.iload_n 2, 1) := by decide +kernel
theorem dX9_score_12 : decode cX9_score 12 = .ok (.ifCond .lt 8, 3) := by decide +kernel
theorem dX9_score_15 : decode cX9_score 15 = .ok (.iload_n 2, 1) := by decide +kernel
theorem dX9_score_16 : decode cX9_score 16 = .ok (.iconst 1, 1) := by decide +kernel
theorem dX9_score_17 : decode cX9_score 17 = .ok (.if_icmp .le 6, 3) := by decide +kernel
theorem dX9_score_20 : decode cX9_score 20 = .ok (.ldc 88, 2) := by decide +kernel
theorem dX9_score_22 : decode cX9_score 22 = .ok (.ireturn, 1) := by decide +kernel
theorem dX9_score_23 : decode cX9_score 23 = .ok (.aload_n 0, 1) := by decide +kernel
theorem dX9_score_24 : decode cX9_score 24 = .ok (.iload_n 1, 1) := by decide +kernel
theorem dX9_score_25 : decode cX9_score 25 = .ok (.invokevirtual 328, 3) := by decide +kernel
theorem dX9_score_28 : decode cX9_score 28 = .ok (.istore_n 3, 1) := by decide +kernel
theorem dX9_score_29 : decode cX9_score 29 = .ok (.iload_n 2, 1) := by decide +kernel
theorem dX9_score_30 : decode cX9_score 30 = .ok (.ifCond .ne 7, 3) := by decide +kernel
theorem dX9_score_33 : decode cX9_score 33 = .ok (.iload_n 3, 1) := by decide +kernel
theorem dX9_score_34 : decode cX9_score 34 = .ok (.goto 14, 3) := by decide +kernel
theorem dX9_score_37 : decode cX9_score 37 = .ok (.iload_n 3, 1) := by decide +kernel
theorem dX9_score_38 : decode cX9_score 38 = .ok (.aload_n 0, 1) := by decide +kernel
theorem dX9_score_39 : decode cX9_score 39 = .ok (.getfield 19, 3) := by decide +kernel
theorem dX9_score_42 : decode cX9_score 42 = .ok (.invokevirtual 194, 3) := by decide +kernel
theorem dX9_score_45 : decode cX9_score 45 = .ok (.invokestatic 289, 3) := by decide +kernel
theorem dX9_score_48 : decode cX9_score 48 = .ok (.ireturn, 1) := by decide +kernel
theorem dX9_strike_0 : decode cX9_strike 0 = .ok (.aload_n 0, 1) := by decide +kernel
theorem dX9_strike_1 : decode cX9_strike 1 = .ok (.getfield 19, 3) := by decide +kernel
theorem dX9_strike_4 : decode cX9_strike 4 = .ok (.iload_n 1, 1) := by decide +kernel
theorem dX9_strike_5 : decode cX9_strike 5 = .ok (.invokevirtual 182, 3) := by decide +kernel
theorem dX9_strike_8 : decode cX9_strike 8 = .ok (.ifCond .ne 6, 3) := by decide +kernel
theorem dX9_strike_11 : decode cX9_strike 11 = .ok (.ldc 88, 2) := by decide +kernel
theorem dX9_strike_13 : decode cX9_strike 13 = .ok (.ireturn, 1) := by decide +kernel
theorem dX9_strike_14 : decode cX9_strike 14 = .ok (.aload_n 0, 1) := by decide +kernel
theorem dX9_strike_15 : decode cX9_strike 15 = .ok (.getfield 38, 3) := by decide +kernel
theorem dX9_strike_18 : decode cX9_strike 18 = .ok (.aload_n 0, 1) := by decide +kernel
theorem dX9_strike_19 : decode cX9_strike 19 = .ok (.getfield 19, 3) := by decide +kernel
theorem dX9_strike_22 : decode cX9_strike 22 = .ok (.invokevirtual 149, 3) := by decide +kernel
theorem dX9_strike_25 : decode cX9_strike 25 = .ok (.aload_n 0, 1) := by decide +kernel
theorem dX9_strike_26 : decode cX9_strike 26 = .ok (.getfield 19, 3) := by decide +kernel
theorem dX9_strike_29 : decode cX9_strike 29 = .ok (.iload_n 1, 1) := by decide +kernel
theorem dX9_strike_30 : decode cX9_strike 30 = .ok (.invokevirtual 185, 3) := by decide +kernel
theorem dX9_strike_33 : decode cX9_strike 33 = .ok (.aload_n 0, 1) := by decide +kernel
theorem dX9_strike_34 : decode cX9_strike 34 = .ok (.getfield 19, 3) := by decide +kernel
theorem dX9_strike_37 : decode cX9_strike 37 = .ok (.invokevirtual 188, 3) := by decide +kernel
theorem dX9_strike_40 : decode cX9_strike 40 = .ok (.ireturn, 1) := by decide +kernel
theorem dX9_citation_0 : decode cX9_citation 0 = .ok (.aload_n 0, 1) := by decide +kernel
theorem dX9_citation_1 : decode cX9_citation 1 = .ok (.getfield 19, 3) := by decide +kernel
theorem dX9_citation_4 : decode cX9_citation 4 = .ok (.iload_n 1, 1) := by decide +kernel
theorem dX9_citation_5 : decode cX9_citation 5 = .ok (.invokevirtual 182, 3) := by decide +kernel
theorem dX9_citation_8 : decode cX9_citation 8 = .ok (.ifCond .eq 13, 3) := by decide +kernel
theorem dX9_citation_11 : decode cX9_citation 11 = .ok (.iload_n 2, 1) := by decide +kernel
theorem dX9_citation_12 : decode cX9_citation 12 = .ok (.ifCond .lt 9, 3) := by decide +kernel
theorem dX9_citation_15 : decode cX9_citation 15 = .ok (.iload_n 2, 1) := by decide +kernel
theorem dX9_citation_16 : decode cX9_citation 16 = .ok (.bipush 7, 2) := by decide +kernel
theorem dX9_citation_18 : decode cX9_citation 18 = .ok (.if_icmp .le 6, 3) := by decide +kernel
theorem dX9_citation_21 : decode cX9_citation 21 = .ok (.ldc 88, 2) := by decide +kernel
theorem dX9_citation_23 : decode cX9_citation 23 = .ok (.ireturn, 1) := by decide +kernel
theorem dX9_citation_24 : decode cX9_citation 24 = .ok (.iload_n 2, 1) := by decide +kernel
theorem dX9_citation_25 : decode cX9_citation 25 = .ok (.iconst 4, 1) := by decide +kernel
theorem dX9_citation_26 : decode cX9_citation 26 = .ok (.if_icmp .ge 13, 3) := by decide +kernel
theorem dX9_citation_29 : decode cX9_citation 29 = .ok (.aload_n 0, 1) := by decide +kernel
theorem dX9_citation_30 : decode cX9_citation 30 = .ok (.getfield 19, 3) := by decide +kernel
theorem dX9_citation_33 : decode cX9_citation 33 = .ok (.iload_n 1, 1) := by decide +kernel
theorem dX9_citation_34 : decode cX9_citation 34 = .ok (.iload_n 2, 1) := by decide +kernel
theorem dX9_citation_35 : decode cX9_citation 35 = .ok (.invokevirtual 292, 3) := by decide +kernel
theorem dX9_citation_38 : decode cX9_citation 38 = .ok (.ireturn, 1) := by decide +kernel
theorem dX9_citation_39 : decode cX9_citation 39 = .ok (.aload_n 0, 1) := by decide +kernel
theorem dX9_citation_40 : decode cX9_citation 40 = .ok (.iload_n 1, 1) := by decide +kernel
theorem dX9_citation_41 : decode cX9_citation 41 = .ok (.invokevirtual 178, 3) := by decide +kernel
theorem dX9_citation_44 : decode cX9_citation 44 = .ok (.iload_n 2, 1) := by decide +kernel
theorem dX9_citation_45 : decode cX9_citation 45 = .ok (.bipush 7, 2) := by decide +kernel
theorem dX9_citation_47 : decode cX9_citation 47 = .ok (.if_icmp .ne 19, 3) := by decide +kernel
theorem dX9_citation_50 : decode cX9_citation 50 = .ok (.aload_n 0, 1) := by decide +kernel
theorem dX9_citation_51 : decode cX9_citation 51 = .ok (.getfield 74, 3) := by decide +kernel
theorem dX9_citation_54 : decode cX9_citation 54 = .ok (.invokevirtual 295, 3) := by decide +kernel
theorem dX9_citation_57 : decode cX9_citation 57 = .ok (.ifCond .eq 7, 3) := by decide +kernel
theorem dX9_citation_60 : decode cX9_citation 60 = .ok (.iconst 1, 1) := by decide +kernel
theorem dX9_citation_61 : decode cX9_citation 61 = .ok (.goto 4, 3) := by decide +kernel
theorem dX9_citation_64 : decode cX9_citation 64 = .ok (.iconst 0, 1) := by decide +kernel
theorem dX9_citation_65 : decode cX9_citation 65 = .ok (.ireturn, 1) := by decide +kernel
theorem dX9_citation_66 : decode cX9_citation 66 = .ok (.aload_n 0, 1) := by decide +kernel
theorem dX9_citation_67 : decode cX9_citation 67 = .ok (.getfield 74, 3) := by decide +kernel
theorem dX9_citation_70 : decode cX9_citation 70 = .ok (.iload_n 2, 1) := by decide +kernel
theorem dX9_citation_71 : decode cX9_citation 71 = .ok (.iconst 4, 1) := by decide +kernel
theorem dX9_citation_72 : decode cX9_citation 72 = .ok (.isub, 1) := by decide +kernel
theorem dX9_citation_73 : decode cX9_citation 73 = .ok (.invokevirtual 228, 3) := by decide +kernel
theorem dX9_citation_76 : decode cX9_citation 76 = .ok (.ireturn, 1) := by decide +kernel
theorem dX9_turned_0 : decode cX9_turned 0 = .ok (.aload_n 0, 1) := by decide +kernel
theorem dX9_turned_1 : decode cX9_turned 1 = .ok (.getfield 19, 3) := by decide +kernel
theorem dX9_turned_4 : decode cX9_turned 4 = .ok (.iload_n 1, 1) := by decide +kernel
theorem dX9_turned_5 : decode cX9_turned 5 = .ok (.invokevirtual 182, 3) := by decide +kernel
theorem dX9_turned_8 : decode cX9_turned 8 = .ok (.ifCond .eq 14, 3) := by decide +kernel
theorem dX9_turned_11 : decode cX9_turned 11 = .ok (.aload_n 0, 1) := by decide +kernel
theorem dX9_turned_12 : decode cX9_turned 12 = .ok (.getfield 19, 3) := by decide +kernel
theorem dX9_turned_15 : decode cX9_turned 15 = .ok (.iload_n 2, 1) := by decide +kernel
theorem dX9_turned_16 : decode cX9_turned 16 = .ok (.invokevirtual 138, 3) := by decide +kernel
theorem dX9_turned_19 : decode cX9_turned 19 = .ok (.ifCond .ne 6, 3) := by decide +kernel
theorem dX9_turned_22 : decode cX9_turned 22 = .ok (.ldc 88, 2) := by decide +kernel
theorem dX9_turned_24 : decode cX9_turned 24 = .ok (.ireturn, 1) := by decide +kernel
theorem dX9_turned_25 : decode cX9_turned 25 = .ok (.iload_n 3, 1) := by decide +kernel
theorem dX9_turned_26 : decode cX9_turned 26 = .ok (.ifCond .lt 8, 3) := by decide +kernel
theorem dX9_turned_29 : decode cX9_turned 29 = .ok (.iload_n 3, 1) := by decide +kernel
theorem dX9_turned_30 : decode cX9_turned 30 = .ok (.iconst 2, 1) := by decide +kernel
theorem dX9_turned_31 : decode cX9_turned 31 = .ok (.if_icmp .le 6, 3) := by decide +kernel
theorem dX9_turned_34 : decode cX9_turned 34 = .ok (.ldc 88, 2) := by decide +kernel
theorem dX9_turned_36 : decode cX9_turned 36 = .ok (.ireturn, 1) := by decide +kernel
theorem dX9_turned_37 : decode cX9_turned 37 = .ok (.aload_n 0, 1) := by decide +kernel
theorem dX9_turned_38 : decode cX9_turned 38 = .ok (.aload_n 0, 1) := by decide +kernel
theorem dX9_turned_39 : decode cX9_turned 39 = .ok (.getfield 51, 3) := by decide +kernel
theorem dX9_turned_42 : decode cX9_turned 42 = .ok (.iload_n 1, 1) := by decide +kernel
theorem dX9_turned_43 : decode cX9_turned 43 = .ok (.invokevirtual 298, 3) := by decide +kernel
theorem dX9_turned_46 : decode cX9_turned 46 = .ok (.aload_n 0, 1) := by decide +kernel
theorem dX9_turned_47 : decode cX9_turned 47 = .ok (.getfield 55, 3) := by decide +kernel
theorem dX9_turned_50 : decode cX9_turned 50 = .ok (.aload_n 0, 1) := by decide +kernel
theorem dX9_turned_51 : decode cX9_turned 51 = .ok (.getfield 19, 3) := by decide +kernel
theorem dX9_turned_54 : decode cX9_turned 54 = .ok (.iload_n 2, 1) := by decide +kernel
theorem dX9_turned_55 : decode cX9_turned 55 = .ok (.invokevirtual 207, 3) := by decide +kernel
theorem dX9_turned_58 : decode cX9_turned 58 = .ok (.aload_n 0, 1) := by decide +kernel
theorem dX9_turned_59 : decode cX9_turned 59 = .ok (.getfield 19, 3) := by decide +kernel
theorem dX9_turned_62 : decode cX9_turned 62 = .ok (.iload_n 1, 1) := by decide +kernel
theorem dX9_turned_63 : decode cX9_turned 63 = .ok (.iconst 2, 1) := by decide +kernel
theorem dX9_turned_64 : decode cX9_turned 64 = .ok (.invokevirtual 292, 3) := by decide +kernel
theorem dX9_turned_67 : decode cX9_turned 67 = .ok (.istore 4, 2) := by decide +kernel
theorem dX9_turned_69 : decode cX9_turned 69 = .ok (.aload_n 0, 1) := by decide +kernel
theorem dX9_turned_70 : decode cX9_turned 70 = .ok (.getfield 19, 3) := by decide +kernel
theorem dX9_turned_73 : decode cX9_turned 73 = .ok (.iload_n 1, 1) := by decide +kernel
theorem dX9_turned_74 : decode cX9_turned 74 = .ok (.iconst 3, 1) := by decide +kernel
theorem dX9_turned_75 : decode cX9_turned 75 = .ok (.invokevirtual 292, 3) := by decide +kernel
theorem dX9_turned_78 : decode cX9_turned 78 = .ok (.istore 5, 2) := by decide +kernel
theorem dX9_turned_80 : decode cX9_turned 80 = .ok (.aload_n 0, 1) := by decide +kernel
theorem dX9_turned_81 : decode cX9_turned 81 = .ok (.getfield 74, 3) := by decide +kernel
theorem dX9_turned_84 : decode cX9_turned 84 = .ok (.invokevirtual 302, 3) := by decide +kernel
theorem dX9_turned_87 : decode cX9_turned 87 = .ok (.iconst 0, 1) := by decide +kernel
theorem dX9_turned_88 : decode cX9_turned 88 = .ok (.istore 6, 2) := by decide +kernel
theorem dX9_turned_90 : decode cX9_turned 90 = .ok (.iload 6, 2) := by decide +kernel
theorem dX9_turned_92 : decode cX9_turned 92 = .ok (.aload_n 0, 1) := by decide +kernel
theorem dX9_turned_93 : decode cX9_turned 93 = .ok (.getfield 19, 3) := by decide +kernel
theorem dX9_turned_96 : decode cX9_turned 96 = .ok (.invokevirtual 248, 3) := by decide +kernel
theorem dX9_turned_99 : decode cX9_turned 99 = .ok (.if_icmp .ge 72, 3) := by decide +kernel
theorem dX9_turned_102 : decode cX9_turned 102 = .ok (.aload_n 0, 1) := by decide +kernel
theorem dX9_turned_103 : decode cX9_turned 103 = .ok (.getfield 51, 3) := by decide +kernel
theorem dX9_turned_106 : decode cX9_turned 106 = .ok (.iload 6, 2) := by decide +kernel
theorem dX9_turned_108 : decode cX9_turned 108 = .ok (.iload 4, 2) := by decide +kernel
theorem dX9_turned_110 : decode cX9_turned 110 = .ok (.iload 5, 2) := by decide +kernel
theorem dX9_turned_112 : decode cX9_turned 112 = .ok (.invokevirtual 305, 3) := by decide +kernel
theorem dX9_turned_115 : decode cX9_turned 115 = .ok (.ifCond .eq 50, 3) := by decide +kernel
theorem dX9_turned_118 : decode cX9_turned 118 = .ok (.aload_n 0, 1) := by decide +kernel
theorem dX9_turned_119 : decode cX9_turned 119 = .ok (.getfield 55, 3) := by decide +kernel
theorem dX9_turned_122 : decode cX9_turned 122 = .ok (.iload 6, 2) := by decide +kernel
theorem dX9_turned_124 : decode cX9_turned 124 = .ok (.invokevirtual 231, 3) := by decide +kernel
theorem dX9_turned_127 : decode cX9_turned 127 = .ok (.ifCond .ne 6, 3) := by decide +kernel
theorem dX9_turned_130 : decode cX9_turned 130 = .ok (.goto 35, 3) := by decide +kernel
theorem dX9_turned_133 : decode cX9_turned 133 = .ok (.aload_n 0, 1) := by decide +kernel
theorem dX9_turned_134 : decode cX9_turned 134 = .ok (.getfield 74, 3) := by decide +kernel
theorem dX9_turned_137 : decode cX9_turned 137 = .ok (.aload_n 0, 1) := by decide +kernel
theorem dX9_turned_138 : decode cX9_turned 138 = .ok (.getfield 55, 3) := by decide +kernel
theorem dX9_turned_141 : decode cX9_turned 141 = .ok (.iload 6, 2) := by decide +kernel
theorem dX9_turned_143 : decode cX9_turned 143 = .ok (.invokevirtual 234, 3) := by decide +kernel
theorem dX9_turned_146 : decode cX9_turned 146 = .ok (.invokevirtual 309, 3) := by decide +kernel
theorem dX9_turned_149 : decode cX9_turned 149 = .ok (.aload_n 0, 1) := by decide +kernel
theorem dX9_turned_150 : decode cX9_turned 150 = .ok (.getfield 74, 3) := by decide +kernel
theorem dX9_turned_153 : decode cX9_turned 153 = .ok (.aload_n 0, 1) := by decide +kernel
theorem dX9_turned_154 : decode cX9_turned 154 = .ok (.getfield 55, 3) := by decide +kernel
theorem dX9_turned_157 : decode cX9_turned 157 = .ok (.iload 6, 2) := by decide +kernel
theorem dX9_turned_159 : decode cX9_turned 159 = .ok (.invokevirtual 237, 3) := by decide +kernel
theorem dX9_turned_162 : decode cX9_turned 162 = .ok (.invokevirtual 309, 3) := by decide +kernel
theorem dX9_turned_165 : decode cX9_turned 165 = .ok (.iinc 6 1, 3) := by decide +kernel
theorem dX9_turned_168 : decode cX9_turned 168 = .ok (.goto (-78), 3) := by decide +kernel
theorem dX9_turned_171 : decode cX9_turned 171 = .ok (.iload_n 3, 1) := by decide +kernel
theorem dX9_turned_172 : decode cX9_turned 172 = .ok (.iconst 2, 1) := by decide +kernel
theorem dX9_turned_173 : decode cX9_turned 173 = .ok (.if_icmp .ge 14, 3) := by decide +kernel
theorem dX9_turned_176 : decode cX9_turned 176 = .ok (.aload_n 0, 1) := by decide +kernel
theorem dX9_turned_177 : decode cX9_turned 177 = .ok (.getfield 74, 3) := by decide +kernel
theorem dX9_turned_180 : decode cX9_turned 180 = .ok (.iload_n 3, 1) := by decide +kernel
theorem dX9_turned_181 : decode cX9_turned 181 = .ok (.iconst 1, 1) := by decide +kernel
theorem dX9_turned_182 : decode cX9_turned 182 = .ok (.iadd, 1) := by decide +kernel
theorem dX9_turned_183 : decode cX9_turned 183 = .ok (.invokevirtual 228, 3) := by decide +kernel
theorem dX9_turned_186 : decode cX9_turned 186 = .ok (.ireturn, 1) := by decide +kernel
theorem dX9_turned_187 : decode cX9_turned 187 = .ok (.aload_n 0, 1) := by decide +kernel
theorem dX9_turned_188 : decode cX9_turned 188 = .ok (.getfield 74, 3) := by decide +kernel
theorem dX9_turned_191 : decode cX9_turned 191 = .ok (.invokevirtual 311, 3) := by decide +kernel
theorem dX9_turned_194 : decode cX9_turned 194 = .ok (.ifCond .ne 32, 3) := by decide +kernel
theorem dX9_turned_197 : decode cX9_turned 197 = .ok (.aload_n 0, 1) := by decide +kernel
theorem dX9_turned_198 : decode cX9_turned 198 = .ok (.iload 4, 2) := by decide +kernel
theorem dX9_turned_200 : decode cX9_turned 200 = .ok (.iload 5, 2) := by decide +kernel
theorem dX9_turned_202 : decode cX9_turned 202 = .ok (.aload_n 0, 1) := by decide +kernel
theorem dX9_turned_203 : decode cX9_turned 203 = .ok (.getfield 74, 3) := by decide +kernel
theorem dX9_turned_206 : decode cX9_turned 206 = .ok (.invokevirtual 314, 3) := by decide +kernel
theorem dX9_turned_209 : decode cX9_turned 209 = .ok (.aload_n 0, 1) := by decide +kernel
theorem dX9_turned_210 : decode cX9_turned 210 = .ok (.getfield 74, 3) := by decide +kernel
theorem dX9_turned_213 : decode cX9_turned 213 = .ok (.invokevirtual 317, 3) := by decide +kernel
theorem dX9_turned_216 : decode cX9_turned 216 = .ok (.invokevirtual 320, 3) := by decide +kernel
theorem dX9_turned_219 : decode cX9_turned 219 = .ok (.ifCond .eq 7, 3) := by decide +kernel
theorem dX9_turned_222 : decode cX9_turned 222 = .ok (.iconst 1, 1) := by decide +kernel
theorem dX9_turned_223 : decode cX9_turned 223 = .ok (.goto 4, 3) := by decide +kernel
theorem dX9_turned_226 : decode cX9_turned 226 = .ok (.iconst 0, 1) := by decide +kernel
theorem dX9_turned_227 : decode cX9_turned 227 = .ok (.ireturn, 1) := by decide +kernel
theorem dX9_meet_0 : decode cX9_meet 0 = .ok (.aload_n 0, 1) := by decide +kernel
theorem dX9_meet_1 : decode cX9_meet 1 = .ok (.getfield 19, 3) := by decide +kernel
theorem dX9_meet_4 : decode cX9_meet 4 = .ok (.iload_n 1, 1) := by decide +kernel
theorem dX9_meet_5 : decode cX9_meet 5 = .ok (.invokevirtual 182, 3) := by decide +kernel
theorem dX9_meet_8 : decode cX9_meet 8 = .ok (.ifCond .eq 23, 3) := by decide +kernel
theorem dX9_meet_11 : decode cX9_meet 11 = .ok (.aload_n 0, 1) := by decide +kernel
theorem dX9_meet_12 : decode cX9_meet 12 = .ok (.getfield 19, 3) := by decide +kernel
theorem dX9_meet_15 : decode cX9_meet 15 = .ok (.iload_n 2, 1) := by decide +kernel
theorem dX9_meet_16 : decode cX9_meet 16 = .ok (.invokevirtual 182, 3) := by decide +kernel
theorem dX9_meet_19 : decode cX9_meet 19 = .ok (.ifCond .eq 12, 3) := by decide +kernel
theorem dX9_meet_22 : decode cX9_meet 22 = .ok (.iload_n 3, 1) := by decide +kernel
theorem dX9_meet_23 : decode cX9_meet 23 = .ok (.ifCond .lt 8, 3) := by decide +kernel
theorem dX9_meet_26 : decode cX9_meet 26 = .ok (.iload_n 3, 1) := by decide +kernel
theorem dX9_meet_27 : decode cX9_meet 27 = .ok (.iconst 2, 1) := by decide +kernel
theorem dX9_meet_28 : decode cX9_meet 28 = .ok (.if_icmp .le 6, 3) := by decide +kernel
theorem dX9_meet_31 : decode cX9_meet 31 = .ok (.ldc 88, 2) := by decide +kernel
theorem dX9_meet_33 : decode cX9_meet 33 = .ok (.ireturn, 1) := by decide +kernel
theorem dX9_meet_34 : decode cX9_meet 34 = .ok (.aload_n 0, 1) := by decide +kernel
theorem dX9_meet_35 : decode cX9_meet 35 = .ok (.aload_n 0, 1) := by decide +kernel
theorem dX9_meet_36 : decode cX9_meet 36 = .ok (.getfield 51, 3) := by decide +kernel
theorem dX9_meet_39 : decode cX9_meet 39 = .ok (.iload_n 1, 1) := by decide +kernel
theorem dX9_meet_40 : decode cX9_meet 40 = .ok (.invokevirtual 298, 3) := by decide +kernel
theorem dX9_meet_43 : decode cX9_meet 43 = .ok (.aload_n 0, 1) := by decide +kernel
theorem dX9_meet_44 : decode cX9_meet 44 = .ok (.aload_n 0, 1) := by decide +kernel
theorem dX9_meet_45 : decode cX9_meet 45 = .ok (.getfield 55, 3) := by decide +kernel
theorem dX9_meet_48 : decode cX9_meet 48 = .ok (.iload_n 2, 1) := by decide +kernel
theorem dX9_meet_49 : decode cX9_meet 49 = .ok (.invokevirtual 298, 3) := by decide +kernel
theorem dX9_meet_52 : decode cX9_meet 52 = .ok (.iconst 0, 1) := by decide +kernel
theorem dX9_meet_53 : decode cX9_meet 53 = .ok (.istore 4, 2) := by decide +kernel
theorem dX9_meet_55 : decode cX9_meet 55 = .ok (.iconst 0, 1) := by decide +kernel
theorem dX9_meet_56 : decode cX9_meet 56 = .ok (.istore 5, 2) := by decide +kernel
theorem dX9_meet_58 : decode cX9_meet 58 = .ok (.iload 5, 2) := by decide +kernel
theorem dX9_meet_60 : decode cX9_meet 60 = .ok (.aload_n 0, 1) := by decide +kernel
theorem dX9_meet_61 : decode cX9_meet 61 = .ok (.getfield 19, 3) := by decide +kernel
theorem dX9_meet_64 : decode cX9_meet 64 = .ok (.invokevirtual 248, 3) := by decide +kernel
theorem dX9_meet_67 : decode cX9_meet 67 = .ok (.if_icmp .ge 74, 3) := by decide +kernel
theorem dX9_meet_70 : decode cX9_meet 70 = .ok (.aload_n 0, 1) := by decide +kernel
theorem dX9_meet_71 : decode cX9_meet 71 = .ok (.aload_n 0, 1) := by decide +kernel
theorem dX9_meet_72 : decode cX9_meet 72 = .ok (.getfield 51, 3) := by decide +kernel
theorem dX9_meet_75 : decode cX9_meet 75 = .ok (.iload 5, 2) := by decide +kernel
theorem dX9_meet_77 : decode cX9_meet 77 = .ok (.iload_n 1, 1) := by decide +kernel
theorem dX9_meet_78 : decode cX9_meet 78 = .ok (.invokevirtual 324, 3) := by decide +kernel
theorem dX9_meet_81 : decode cX9_meet 81 = .ok (.istore 6, 2) := by decide +kernel
theorem dX9_meet_83 : decode cX9_meet 83 = .ok (.aload_n 0, 1) := by decide +kernel
theorem dX9_meet_84 : decode cX9_meet 84 = .ok (.aload_n 0, 1) := by decide +kernel
theorem dX9_meet_85 : decode cX9_meet 85 = .ok (.getfield 55, 3) := by decide +kernel
theorem dX9_meet_88 : decode cX9_meet 88 = .ok (.iload 5, 2) := by decide +kernel
theorem dX9_meet_90 : decode cX9_meet 90 = .ok (.iload_n 2, 1) := by decide +kernel
theorem dX9_meet_91 : decode cX9_meet 91 = .ok (.invokevirtual 324, 3) := by decide +kernel
theorem dX9_meet_94 : decode cX9_meet 94 = .ok (.istore 7, 2) := by decide +kernel
theorem dX9_meet_96 : decode cX9_meet 96 = .ok (.iload_n 3, 1) := by decide +kernel
theorem dX9_meet_97 : decode cX9_meet 97 = .ok (.iconst 2, 1) := by decide +kernel
theorem dX9_meet_98 : decode cX9_meet 98 = .ok (.if_icmp .ne 11, 3) := by decide +kernel
theorem dX9_meet_101 : decode cX9_meet 101 = .ok (.iload 6, 2) := by decide +kernel
theorem dX9_meet_103 : decode cX9_meet 103 = .ok (.ifCond .ne 32, 3) := by decide +kernel
theorem dX9_meet_106 : decode cX9_meet 106 = .ok (.goto 8, 3) := by decide +kernel
theorem dX9_meet_109 : decode cX9_meet 109 = .ok (.iload 6, 2) := by decide +kernel
theorem dX9_meet_111 : decode cX9_meet 111 = .ok (.ifCond .eq 24, 3) := by decide +kernel
theorem dX9_meet_114 : decode cX9_meet 114 = .ok (.iload_n 3, 1) := by decide +kernel
theorem dX9_meet_115 : decode cX9_meet 115 = .ok (.iconst 1, 1) := by decide +kernel
theorem dX9_meet_116 : decode cX9_meet 116 = .ok (.if_icmp .ne 11, 3) := by decide +kernel
theorem dX9_meet_119 : decode cX9_meet 119 = .ok (.iload 7, 2) := by decide +kernel
theorem dX9_meet_121 : decode cX9_meet 121 = .ok (.ifCond .ne 14, 3) := by decide +kernel
theorem dX9_meet_124 : decode cX9_meet 124 = .ok (.goto 8, 3) := by decide +kernel
theorem dX9_meet_127 : decode cX9_meet 127 = .ok (.iload 7, 2) := by decide +kernel
theorem dX9_meet_129 : decode cX9_meet 129 = .ok (.ifCond .eq 6, 3) := by decide +kernel
theorem dX9_meet_132 : decode cX9_meet 132 = .ok (.iinc 4 1, 3) := by decide +kernel
theorem dX9_meet_135 : decode cX9_meet 135 = .ok (.iinc 5 1, 3) := by decide +kernel
theorem dX9_meet_138 : decode cX9_meet 138 = .ok (.goto (-80), 3) := by decide +kernel
theorem dX9_meet_141 : decode cX9_meet 141 = .ok (.iload 4, 2) := by decide +kernel
theorem dX9_meet_143 : decode cX9_meet 143 = .ok (.ireturn, 1) := by decide +kernel
theorem dX9_could_0 : decode cX9_could 0 = .ok (.aload_n 0, 1) := by decide +kernel
theorem dX9_could_1 : decode cX9_could 1 = .ok (.getfield 19, 3) := by decide +kernel
theorem dX9_could_4 : decode cX9_could 4 = .ok (.iload_n 1, 1) := by decide +kernel
theorem dX9_could_5 : decode cX9_could 5 = .ok (.invokevirtual 182, 3) := by decide +kernel
theorem dX9_could_8 : decode cX9_could 8 = .ok (.ifCond .eq 14, 3) := by decide +kernel
theorem dX9_could_11 : decode cX9_could 11 = .ok (.aload_n 0, 1) := by decide +kernel
theorem dX9_could_12 : decode cX9_could 12 = .ok (.getfield 19, 3) := by decide +kernel
theorem dX9_could_15 : decode cX9_could 15 = .ok (.iload_n 2, 1) := by decide +kernel
theorem dX9_could_16 : decode cX9_could 16 = .ok (.invokevirtual 191, 3) := by decide +kernel
theorem dX9_could_19 : decode cX9_could 19 = .ok (.ifCond .ne 6, 3) := by decide +kernel
theorem dX9_could_22 : decode cX9_could 22 = .ok (.ldc 88, 2) := by decide +kernel
theorem dX9_could_24 : decode cX9_could 24 = .ok (.ireturn, 1) := by decide +kernel
theorem dX9_could_25 : decode cX9_could 25 = .ok (.iconst 0, 1) := by decide +kernel
theorem dX9_could_26 : decode cX9_could 26 = .ok (.istore_n 3, 1) := by decide +kernel
theorem dX9_could_27 : decode cX9_could 27 = .ok (.iconst 0, 1) := by decide +kernel
theorem dX9_could_28 : decode cX9_could 28 = .ok (.istore 4, 2) := by decide +kernel
theorem dX9_could_30 : decode cX9_could 30 = .ok (.iload 4, 2) := by decide +kernel
theorem dX9_could_32 : decode cX9_could 32 = .ok (.aload_n 0, 1) := by decide +kernel
theorem dX9_could_33 : decode cX9_could 33 = .ok (.getfield 19, 3) := by decide +kernel
theorem dX9_could_36 : decode cX9_could 36 = .ok (.invokevirtual 126, 3) := by decide +kernel
theorem dX9_could_39 : decode cX9_could 39 = .ok (.if_icmp .ge 42, 3) := by decide +kernel
theorem dX9_could_42 : decode cX9_could 42 = .ok (.aload_n 0, 1) := by decide +kernel
theorem dX9_could_43 : decode cX9_could 43 = .ok (.getfield 51, 3) := by decide +kernel
theorem dX9_could_46 : decode cX9_could 46 = .ok (.aload_n 0, 1) := by decide +kernel
theorem dX9_could_47 : decode cX9_could 47 = .ok (.getfield 19, 3) := by decide +kernel
theorem dX9_could_50 : decode cX9_could 50 = .ok (.iload 4, 2) := by decide +kernel
theorem dX9_could_52 : decode cX9_could 52 = .ok (.invokevirtual 207, 3) := by decide +kernel
theorem dX9_could_55 : decode cX9_could 55 = .ok (.aload_n 0, 1) := by decide +kernel
theorem dX9_could_56 : decode cX9_could 56 = .ok (.aload_n 0, 1) := by decide +kernel
theorem dX9_could_57 : decode cX9_could 57 = .ok (.getfield 51, 3) := by decide +kernel
theorem dX9_could_60 : decode cX9_could 60 = .ok (.iload_n 2, 1) := by decide +kernel
theorem dX9_could_61 : decode cX9_could 61 = .ok (.iload_n 1, 1) := by decide +kernel
theorem dX9_could_62 : decode cX9_could 62 = .ok (.invokevirtual 324, 3) := by decide +kernel
theorem dX9_could_65 : decode cX9_could 65 = .ok (.ifCond .eq 10, 3) := by decide +kernel
theorem dX9_could_68 : decode cX9_could 68 = .ok (.iload_n 3, 1) := by decide +kernel
theorem dX9_could_69 : decode cX9_could 69 = .ok (.iconst 1, 1) := by decide +kernel
theorem dX9_could_70 : decode cX9_could 70 = .ok (.iload 4, 2) := by decide +kernel
theorem dX9_could_72 : decode cX9_could 72 = .ok (.ishl, 1) := by decide +kernel
theorem dX9_could_73 : decode cX9_could 73 = .ok (.ior, 1) := by decide +kernel
theorem dX9_could_74 : decode cX9_could 74 = .ok (.istore_n 3, 1) := by decide +kernel
theorem dX9_could_75 : decode cX9_could 75 = .ok (.iinc 4 1, 3) := by decide +kernel
theorem dX9_could_78 : decode cX9_could 78 = .ok (.goto (-48), 3) := by decide +kernel
theorem dX9_could_81 : decode cX9_could 81 = .ok (.iload_n 3, 1) := by decide +kernel
theorem dX9_could_82 : decode cX9_could 82 = .ok (.ireturn, 1) := by decide +kernel
theorem dX9_best_0 : decode cX9_best 0 = .ok (.aload_n 0, 1) := by decide +kernel
theorem dX9_best_1 : decode cX9_best 1 = .ok (.getfield 19, 3) := by decide +kernel
theorem dX9_best_4 : decode cX9_best 4 = .ok (.invokevirtual 248, 3) := by decide +kernel
theorem dX9_best_7 : decode cX9_best 7 = .ok (.ifCond .ne 6, 3) := by decide +kernel
theorem dX9_best_10 : decode cX9_best 10 = .ok (.ldc 137, 2) := by decide +kernel
theorem dX9_best_12 : decode cX9_best 12 = .ok (.ireturn, 1) := by decide +kernel
theorem dX9_best_13 : decode cX9_best 13 = .ok (.ldc 206, 2) := by decide +kernel
theorem dX9_best_15 : decode cX9_best 15 = .ok (.istore_n 1, 1) := by decide +kernel
theorem dX9_best_16 : decode cX9_best 16 = .ok (.iconst (-1), 1) := by decide +kernel
theorem dX9_best_17 : decode cX9_best 17 = .ok (.istore_n 2, 1) := by decide +kernel
theorem dX9_best_18 : decode cX9_best 18 = .ok (.iconst 0, 1) := by decide +kernel
theorem dX9_best_19 : decode cX9_best 19 = .ok (.istore_n 3, 1) := by decide +kernel
theorem dX9_best_20 : decode cX9_best 20 = .ok (.iload_n 3, 1) := by decide +kernel
theorem dX9_best_21 : decode cX9_best 21 = .ok (.aload_n 0, 1) := by decide +kernel
theorem dX9_best_22 : decode cX9_best 22 = .ok (.getfield 19, 3) := by decide +kernel
theorem dX9_best_25 : decode cX9_best 25 = .ok (.invokevirtual 126, 3) := by decide +kernel
theorem dX9_best_28 : decode cX9_best 28 = .ok (.if_icmp .ge 27, 3) := by decide +kernel
theorem dX9_best_31 : decode cX9_best 31 = .ok (.aload_n 0, 1) := by decide +kernel
theorem dX9_best_32 : decode cX9_best 32 = .ok (.iload_n 3, 1) := by decide +kernel
theorem dX9_best_33 : decode cX9_best 33 = .ok (.invokevirtual 328, 3) := by decide +kernel
theorem dX9_best_36 : decode cX9_best 36 = .ok (.istore 4, 2) := by decide +kernel
theorem dX9_best_38 : decode cX9_best 38 = .ok (.iload 4, 2) := by decide +kernel
theorem dX9_best_40 : decode cX9_best 40 = .ok (.iload_n 2, 1) := by decide +kernel
theorem dX9_best_41 : decode cX9_best 41 = .ok (.if_icmp .le 8, 3) := by decide +kernel
theorem dX9_best_44 : decode cX9_best 44 = .ok (.iload 4, 2) := by decide +kernel
theorem dX9_best_46 : decode cX9_best 46 = .ok (.istore_n 2, 1) := by decide +kernel
theorem dX9_best_47 : decode cX9_best 47 = .ok (.iload_n 3, 1) := by decide +kernel
theorem dX9_best_48 : decode cX9_best 48 = .ok (.istore_n 1, 1) := by decide +kernel
theorem dX9_best_49 : decode cX9_best 49 = .ok (.iinc 3 1, 3) := by decide +kernel
theorem dX9_best_52 : decode cX9_best 52 = .ok (.goto (-32), 3) := by decide +kernel
theorem dX9_best_55 : decode cX9_best 55 = .ok (.iload_n 1, 1) := by decide +kernel
theorem dX9_best_56 : decode cX9_best 56 = .ok (.ireturn, 1) := by decide +kernel
theorem dX9_image_0 : decode cX9_image 0 = .ok (.iload_n 1, 1) := by decide +kernel
theorem dX9_image_1 : decode cX9_image 1 = .ok (.ifCond .lt 12, 3) := by decide +kernel
theorem dX9_image_4 : decode cX9_image 4 = .ok (.iload_n 1, 1) := by decide +kernel
theorem dX9_image_5 : decode cX9_image 5 = .ok (.aload_n 0, 1) := by decide +kernel
theorem dX9_image_6 : decode cX9_image 6 = .ok (.getfield 44, 3) := by decide +kernel
theorem dX9_image_9 : decode cX9_image 9 = .ok (.arraylength, 1) := by decide +kernel
theorem dX9_image_10 : decode cX9_image 10 = .ok (.if_icmp .lt 6, 3) := by decide +kernel
theorem dX9_image_13 : decode cX9_image 13 = .ok (.ldc 88, 2) := by decide +kernel
theorem dX9_image_15 : decode cX9_image 15 = .ok (.ireturn, 1) := by decide +kernel
theorem dX9_image_16 : decode cX9_image 16 = .ok (.aload_n 0, 1) := by decide +kernel
theorem dX9_image_17 : decode cX9_image 17 = .ok (.getfield 19, 3) := by decide +kernel
theorem dX9_image_20 : decode cX9_image 20 = .ok (.invokevirtual 248, 3) := by decide +kernel
theorem dX9_image_23 : decode cX9_image 23 = .ok (.ifCond .ne 6, 3) := by decide +kernel
theorem dX9_image_26 : decode cX9_image 26 = .ok (.ldc 137, 2) := by decide +kernel
theorem dX9_image_28 : decode cX9_image 28 = .ok (.ireturn, 1) := by decide +kernel
theorem dX9_image_29 : decode cX9_image 29 = .ok (.aload_n 0, 1) := by decide +kernel
theorem dX9_image_30 : decode cX9_image 30 = .ok (.getfield 44, 3) := by decide +kernel
theorem dX9_image_33 : decode cX9_image 33 = .ok (.iload_n 1, 1) := by decide +kernel
theorem dX9_image_34 : decode cX9_image 34 = .ok (.aaload, 1) := by decide +kernel
theorem dX9_image_35 : decode cX9_image 35 = .ok (.astore_n 2, 1) := by decide +kernel
theorem dX9_image_36 : decode cX9_image 36 = .ok (.aload_n 2, 1) := by decide +kernel
theorem dX9_image_37 : decode cX9_image 37 = .ok (.ifnonnull 18, 3) := by decide +kernel
theorem dX9_image_40 : decode cX9_image 40 = .ok (.new 42, 3) := by decide +kernel
theorem dX9_image_43 : decode cX9_image 43 = .ok (.dup, 1) := by decide +kernel
theorem dX9_image_44 : decode cX9_image 44 = .ok (.invokespecial 331, 3) := by decide +kernel
theorem dX9_image_47 : decode cX9_image 47 = .ok (.astore_n 2, 1) := by decide +kernel
theorem dX9_image_48 : decode cX9_image 48 = .ok (.aload_n 0, 1) := by decide +kernel
theorem dX9_image_49 : decode cX9_image 49 = .ok (.getfield 44, 3) := by decide +kernel
theorem dX9_image_52 : decode cX9_image 52 = .ok (.iload_n 1, 1) := by decide +kernel
theorem dX9_image_53 : decode cX9_image 53 = .ok (.aload_n 2, 1) := by decide +kernel
theorem dX9_image_54 : decode cX9_image 54 = .ok (.aastore, 1) := by decide +kernel
theorem dX9_image_55 : decode cX9_image 55 = .ok (.aload_n 2, 1) := by decide +kernel
theorem dX9_image_56 : decode cX9_image 56 = .ok (.getfield 332, 3) := by decide +kernel
theorem dX9_image_59 : decode cX9_image 59 = .ok (.aload_n 0, 1) := by decide +kernel
theorem dX9_image_60 : decode cX9_image 60 = .ok (.getfield 19, 3) := by decide +kernel
theorem dX9_image_63 : decode cX9_image 63 = .ok (.invokevirtual 119, 3) := by decide +kernel
theorem dX9_image_66 : decode cX9_image 66 = .ok (.aload_n 2, 1) := by decide +kernel
theorem dX9_image_67 : decode cX9_image 67 = .ok (.getfield 335, 3) := by decide +kernel
theorem dX9_image_70 : decode cX9_image 70 = .ok (.aload_n 0, 1) := by decide +kernel
theorem dX9_image_71 : decode cX9_image 71 = .ok (.getfield 10, 3) := by decide +kernel
theorem dX9_image_74 : decode cX9_image 74 = .ok (.invokevirtual 336, 3) := by decide +kernel
theorem dX9_image_77 : decode cX9_image 77 = .ok (.iconst 1, 1) := by decide +kernel
theorem dX9_image_78 : decode cX9_image 78 = .ok (.ireturn, 1) := by decide +kernel
theorem dX9_restore_0 : decode cX9_restore 0 = .ok (.iload_n 1, 1) := by decide +kernel
theorem dX9_restore_1 : decode cX9_restore 1 = .ok (.ifCond .lt 12, 3) := by decide +kernel
theorem dX9_restore_4 : decode cX9_restore 4 = .ok (.iload_n 1, 1) := by decide +kernel
theorem dX9_restore_5 : decode cX9_restore 5 = .ok (.aload_n 0, 1) := by decide +kernel
theorem dX9_restore_6 : decode cX9_restore 6 = .ok (.getfield 44, 3) := by decide +kernel
theorem dX9_restore_9 : decode cX9_restore 9 = .ok (.arraylength, 1) := by decide +kernel
theorem dX9_restore_10 : decode cX9_restore 10 = .ok (.if_icmp .lt 6, 3) := by decide +kernel
theorem dX9_restore_13 : decode cX9_restore 13 = .ok (.ldc 88, 2) := by decide +kernel
theorem dX9_restore_15 : decode cX9_restore 15 = .ok (.ireturn, 1) := by decide +kernel
theorem dX9_restore_16 : decode cX9_restore 16 = .ok (.aload_n 0, 1) := by decide +kernel
theorem dX9_restore_17 : decode cX9_restore 17 = .ok (.getfield 44, 3) := by decide +kernel
theorem dX9_restore_20 : decode cX9_restore 20 = .ok (.iload_n 1, 1) := by decide +kernel
theorem dX9_restore_21 : decode cX9_restore 21 = .ok (.aaload, 1) := by decide +kernel
theorem dX9_restore_22 : decode cX9_restore 22 = .ok (.astore_n 2, 1) := by decide +kernel
theorem dX9_restore_23 : decode cX9_restore 23 = .ok (.aload_n 2, 1) := by decide +kernel
theorem dX9_restore_24 : decode cX9_restore 24 = .ok (.ifnonnull 6, 3) := by decide +kernel
theorem dX9_restore_27 : decode cX9_restore 27 = .ok (.ldc 137, 2) := by decide +kernel
theorem dX9_restore_29 : decode cX9_restore 29 = .ok (.ireturn, 1) := by decide +kernel
theorem dX9_restore_30 : decode cX9_restore 30 = .ok (.aload_n 0, 1) := by decide +kernel
theorem dX9_restore_31 : decode cX9_restore 31 = .ok (.getfield 19, 3) := by decide +kernel
theorem dX9_restore_34 : decode cX9_restore 34 = .ok (.aload_n 2, 1) := by decide +kernel
theorem dX9_restore_35 : decode cX9_restore 35 = .ok (.getfield 332, 3) := by decide +kernel
theorem dX9_restore_38 : decode cX9_restore 38 = .ok (.invokevirtual 119, 3) := by decide +kernel
theorem dX9_restore_41 : decode cX9_restore 41 = .ok (.aload_n 0, 1) := by decide +kernel
theorem dX9_restore_42 : decode cX9_restore 42 = .ok (.getfield 10, 3) := by decide +kernel
theorem dX9_restore_45 : decode cX9_restore 45 = .ok (.aload_n 2, 1) := by decide +kernel
theorem dX9_restore_46 : decode cX9_restore 46 = .ok (.getfield 335, 3) := by decide +kernel
theorem dX9_restore_49 : decode cX9_restore 49 = .ok (.invokevirtual 336, 3) := by decide +kernel
theorem dX9_restore_52 : decode cX9_restore 52 = .ok (.aload_n 0, 1) := by decide +kernel
theorem dX9_restore_53 : decode cX9_restore 53 = .ok (.getfield 38, 3) := by decide +kernel
theorem dX9_restore_56 : decode cX9_restore 56 = .ok (.invokevirtual 123, 3) := by decide +kernel
theorem dX9_restore_59 : decode cX9_restore 59 = .ok (.iconst 1, 1) := by decide +kernel
theorem dX9_restore_60 : decode cX9_restore 60 = .ok (.ireturn, 1) := by decide +kernel
theorem dX9_count_0 : decode cX9_count 0 = .ok (.iload_n 1, 1) := by decide +kernel
theorem dX9_count_1 : decode cX9_count 1 = .ok (.tableswitch 99 0 6 #[43, 51, 59, 67, 75, 83, 91], 43) := by decide +kernel
theorem dX9_count_44 : decode cX9_count 44 = .ok (.aload_n 0, 1) := by decide +kernel
theorem dX9_count_45 : decode cX9_count 45 = .ok (.getfield 19, 3) := by decide +kernel
theorem dX9_count_48 : decode cX9_count 48 = .ok (.invokevirtual 248, 3) := by decide +kernel
theorem dX9_count_51 : decode cX9_count 51 = .ok (.ireturn, 1) := by decide +kernel
theorem dX9_count_52 : decode cX9_count 52 = .ok (.aload_n 0, 1) := by decide +kernel
theorem dX9_count_53 : decode cX9_count 53 = .ok (.getfield 19, 3) := by decide +kernel
theorem dX9_count_56 : decode cX9_count 56 = .ok (.invokevirtual 126, 3) := by decide +kernel
theorem dX9_count_59 : decode cX9_count 59 = .ok (.ireturn, 1) := by decide +kernel
theorem dX9_count_60 : decode cX9_count 60 = .ok (.aload_n 0, 1) := by decide +kernel
theorem dX9_count_61 : decode cX9_count 61 = .ok (.getfield 19, 3) := by decide +kernel
theorem dX9_count_64 : decode cX9_count 64 = .ok (.invokevirtual 339, 3) := by decide +kernel
theorem dX9_count_67 : decode cX9_count 67 = .ok (.ireturn, 1) := by decide +kernel
theorem dX9_count_68 : decode cX9_count 68 = .ok (.aload_n 0, 1) := by decide +kernel
theorem dX9_count_69 : decode cX9_count 69 = .ok (.getfield 19, 3) := by decide +kernel
theorem dX9_count_72 : decode cX9_count 72 = .ok (.invokevirtual 188, 3) := by decide +kernel
theorem dX9_count_75 : decode cX9_count 75 = .ok (.ireturn, 1) := by decide +kernel
theorem dX9_count_76 : decode cX9_count 76 = .ok (.aload_n 0, 1) := by decide +kernel
theorem dX9_count_77 : decode cX9_count 77 = .ok (.getfield 19, 3) := by decide +kernel
theorem dX9_count_80 : decode cX9_count 80 = .ok (.invokevirtual 194, 3) := by decide +kernel
theorem dX9_count_83 : decode cX9_count 83 = .ok (.ireturn, 1) := by decide +kernel
theorem dX9_count_84 : decode cX9_count 84 = .ok (.aload_n 0, 1) := by decide +kernel
theorem dX9_count_85 : decode cX9_count 85 = .ok (.getfield 38, 3) := by decide +kernel
theorem dX9_count_88 : decode cX9_count 88 = .ok (.invokevirtual 136, 3) := by decide +kernel
theorem dX9_count_91 : decode cX9_count 91 = .ok (.ireturn, 1) := by decide +kernel
theorem dX9_count_92 : decode cX9_count 92 = .ok (.aload_n 0, 1) := by decide +kernel
theorem dX9_count_93 : decode cX9_count 93 = .ok (.getfield 10, 3) := by decide +kernel
theorem dX9_count_96 : decode cX9_count 96 = .ok (.invokevirtual 93, 3) := by decide +kernel
theorem dX9_count_99 : decode cX9_count 99 = .ok (.ireturn, 1) := by decide +kernel
theorem dX9_count_100 : decode cX9_count 100 = .ok (.ldc 88, 2) := by decide +kernel
theorem dX9_count_102 : decode cX9_count 102 = .ok (.ireturn, 1) := by decide +kernel
def w_X9_fault : List Cond := .code yX9_fault cX9_fault 1 (some .int) :: ([.fieldLink RX9 10 "LineCites" "tape" "LLineCites$Tape;", .methodLink RX9 129 yX7_latestFault, .instanceMethod yX7_latestFault, .selects RX7 yX7_latestFault yX7_latestFault, .initialized RX7, .code yX7_latestFault cX7_latestFault 1 (some .int), .fieldLink RX7 19 "LineCites$Tape" "latestFault" "I"] ++ wsX90 ++ wsX70)
set_option maxRecDepth 20000 in
theorem g_X9_fault_X7_latestFault : GoodIn w_X9_fault (wsV RX9 129 RX7 yX7_latestFault w_X7_latestFault) := goodIn_r _ [2, 3, 4, 5, 6, 7, 22, 23, 24] rfl (by decide +kernel)
set_option maxHeartbeats 4000000 in
set_option maxRecDepth 100000 in
theorem c_X9_fault (l : Launch) (D : va_G) (h0 : Nat) (a_tape : Nat) (a_now : Nat) (a_draft : Nat) (a_reader : Nat) (a_acts : Nat) (a_images : Nat) (a_one : Nat) (a_other : Nat) (a_third : Nat) (a_spans : Nat) (a_back : Nat) (a_span : Nat) (a_middle : Nat) (a_reached : Nat) (a_b : Nat) : Met l yX9_fault w_X9_fault ({ frames := 1, cells := 0, slots := 0, locals := 20 }) (va_Pc [.ref h0] (fun U => va_P D vwCl [(h0, .inr (9, [.ref a_tape, .ref a_now, .ref a_draft, .ref a_reader, .ref a_acts, .ref a_images, .ref a_one, .ref a_other, .ref a_third, .ref a_spans, .ref a_back, .ref a_span, .ref a_middle, .ref a_reached])), (a_tape, .inr (7, [.ref a_b, .int 0, .int 0]))] U.heap ∧ va_K D vwCl [] U)) (va_Qi (fun (r : Int32) (_ : Unit) => r = 0) (fun _ _ => True) (fun _ => False)) 0 0 (fun _ => False) := by
  refine Met.ofW (cc := cX9_fault) (maxL := 1) (ret := (some .int)) (by decide) rfl ?_
  intro p e s m args below meth c s₁ B hml hv
  obtain ⟨rfl, hP, hK⟩ := hv
  have hx := B.exec
  have hb := B.bytes
  have hr := B.returns
  have hts := atoms_spec (ws := w_X9_fault) B.pre
  have hown : s.vm.findClass RX9 = some m.cls := findClass_of_methodNamed B.named
  have hlocks := B.notSynchronized
  have hS : va_S (fun _ : Nat => False) s.heap s.heap [] := va_S.rf
  have hP : va_P D vwCl [(h0, .inr (9, [.ref a_tape, .ref a_now, .ref a_draft, .ref a_reader, .ref a_acts, .ref a_images, .ref a_one, .ref a_other, .ref a_third, .ref a_spans, .ref a_back, .ref a_span, .ref a_middle, .ref a_reached])), (a_tape, .inr (7, [.ref a_b, .int 0, .int 0]))] s.heap := hP
  have hl := lv_entry ([.ref h0]) (n := 1) (Nat.le_of_ble_eq_true rfl)
  rw [lg_entry_eq]
  generalize (lg_sl ([.ref h0]) ++ List.replicate (1 - (lg_sl ([.ref h0])).length) Slot.unset).toArray = ls at hl ⊢
  have hl : lv_has ls 1 [(0, .ref h0)] := hl
  obtain ⟨H, hHe⟩ : ∃ H : Heap, H = s.heap := ⟨_, rfl⟩
  rw [← hHe] at hP
  have hS : va_S (fun _ : Nat => False) s.heap H [] := by rw [hHe]; exact hS
  refine pw_heap hHe ?_
  refine lv_aload_n hx hb dX9_fault_0 rfl (lv_at hl 0 rfl) ?_
  refine va_get (D := D) (ci := 9) (v := .ref a_tape) (C := RX9) (T := TX9) (N := 14) hx hb hts (fun _ h => List.mem_cons_of_mem _ (List.mem_append_left _ (List.mem_append_right _ h))) hown hK hP 0 rfl rfl 0 (by decide) (hts (.fieldLink RX9 10 "LineCites" "tape" "LLineCites$Tape;") (List.mem_of_getElem? (i := 1) rfl)) (fun _ h9 => h9) rfl dX9_fault_1 ?_
  have hPc := hP.sub (ws' := [(a_tape, .inr (7, [.ref a_b, .int 0, .int 0]))]) [1] rfl
  have hKc := hK.sub (tys' := []) [] rfl
  refine va_calli (va_runV (As := []) (rest := []) ⟨hx, hb, hml, hown, hts⟩ (c_X7_latestFault l D a_tape a_b) (cwV 0 hts g_X9_fault_X7_latestFault rfl rfl rfl (by decide +kernel) ⟨Nat.le_of_ble_eq_true rfl, Nat.le_of_ble_eq_true rfl⟩) ⟨fun a U g mk q => by obtain ⟨q0, qP, qK⟩ := q; exact ⟨q0, qP, va_K.moved (u := U) (U := U.calling g mk a) (Vm.Alike.refl U.vm) qK⟩, va_recv hKc hPc (ci := 7) (q0 := 0) rfl rfl, fun U hU hW => ⟨rfl, by rw [hU]; exact hPc, va_K.moved hW.alike hKc⟩⟩ rfl rfl hl.1 rfl (lv_room (Nat.le_of_ble_eq_true rfl)) dX9_fault_4 ⟨Nat.le_of_ble_eq_true rfl, Nat.le_of_ble_eq_true rfl⟩) hS (fun _ _ h => h.elim) (fun _ h => h.elim) (fun r1 u t H1 locs ht hvm hw hB hz1 hk1 hS => ?_)
  have hP := pw_keep hP (fun q hq => hk1 q hq (fun h => h))
  generalize H1 = H at hP hS ⊢
  refine W.widen (k := 0) (n := 0) (Nat.le_of_ble_eq_true rfl) (Nat.le_of_ble_eq_true rfl) ?_
  obtain rfl : r1 = 0 := hw
  exact W.iret (v := 0) hx hb hr (fun t ht hW => ⟨⟨0, (), rfl, rfl, trivial⟩, hS.F ht⟩) hS.2.2 dX9_fault_7
def w_X9_undo : List Cond := .code yX9_undo cX9_undo 1 (some .int) :: ([.fieldLink RX9 38 "LineCites" "acts" "LLineCites$Acts;", .fieldLink RX9 19 "LineCites" "now" "LLineCites$Work;", .methodLink RX9 132 yX0_takeBack, .instanceMethod yX0_takeBack, .selects RX0 yX0_takeBack yX0_takeBack, .initialized RX0, .code yX0_takeBack cX0_takeBack 4 (some .boolean), .fieldLink RX0 21 "LineCites$Acts" "next" "I", .fieldLink RX0 17 "LineCites$Acts" "size" "I", .constant RX9 137 (-1000002)] ++ wsX90 ++ wsX00)
set_option maxRecDepth 20000 in
theorem g_X9_undo_X0_takeBack : GoodIn w_X9_undo (wsV RX9 132 RX0 yX0_takeBack w_X0_takeBack) := goodIn_r _ [3, 4, 5, 6, 7, 8, 9, 25, 26, 27] rfl (by decide +kernel)
set_option maxHeartbeats 4000000 in
set_option maxRecDepth 100000 in
theorem c_X9_undo (l : Launch) (D : va_G) (h0 : Nat) (a_tape : Nat) (a_now : Nat) (a_draft : Nat) (a_reader : Nat) (a_acts : Nat) (a_images : Nat) (a_one : Nat) (a_other : Nat) (a_third : Nat) (a_spans : Nat) (a_back : Nat) (a_span : Nat) (a_middle : Nat) (a_reached : Nat) (a_ring : Nat) : Met l yX9_undo w_X9_undo ({ frames := 1, cells := 0, slots := 0, locals := 23 }) (va_Pc [.ref h0] (fun U => va_P D vwCl [(h0, .inr (9, [.ref a_tape, .ref a_now, .ref a_draft, .ref a_reader, .ref a_acts, .ref a_images, .ref a_one, .ref a_other, .ref a_third, .ref a_spans, .ref a_back, .ref a_span, .ref a_middle, .ref a_reached])), (a_acts, .inr (0, [.ref a_ring, .int 0, .int 0]))] U.heap ∧ va_K D vwCl [] U)) (va_Qi (fun (r : Int32) (_ : Unit) => r = (-1000002)) (fun _ _ => True) (fun _ => False)) 0 0 (fun _ => False) := by
  refine Met.ofW (cc := cX9_undo) (maxL := 1) (ret := (some .int)) (by decide) rfl ?_
  intro p e s m args below meth c s₁ B hml hv
  obtain ⟨rfl, hP, hK⟩ := hv
  have hx := B.exec
  have hb := B.bytes
  have hr := B.returns
  have hts := atoms_spec (ws := w_X9_undo) B.pre
  have hown : s.vm.findClass RX9 = some m.cls := findClass_of_methodNamed B.named
  have hlocks := B.notSynchronized
  have hS : va_S (fun _ : Nat => False) s.heap s.heap [] := va_S.rf
  have hP : va_P D vwCl [(h0, .inr (9, [.ref a_tape, .ref a_now, .ref a_draft, .ref a_reader, .ref a_acts, .ref a_images, .ref a_one, .ref a_other, .ref a_third, .ref a_spans, .ref a_back, .ref a_span, .ref a_middle, .ref a_reached])), (a_acts, .inr (0, [.ref a_ring, .int 0, .int 0]))] s.heap := hP
  have hl := lv_entry ([.ref h0]) (n := 1) (Nat.le_of_ble_eq_true rfl)
  rw [lg_entry_eq]
  generalize (lg_sl ([.ref h0]) ++ List.replicate (1 - (lg_sl ([.ref h0])).length) Slot.unset).toArray = ls at hl ⊢
  have hl : lv_has ls 1 [(0, .ref h0)] := hl
  obtain ⟨H, hHe⟩ : ∃ H : Heap, H = s.heap := ⟨_, rfl⟩
  rw [← hHe] at hP
  have hS : va_S (fun _ : Nat => False) s.heap H [] := by rw [hHe]; exact hS
  refine pw_heap hHe ?_
  refine lv_aload_n hx hb dX9_undo_0 rfl (lv_at hl 0 rfl) ?_
  refine va_get (D := D) (ci := 9) (v := .ref a_acts) (C := RX9) (T := TX9) (N := 14) hx hb hts (fun _ h => List.mem_cons_of_mem _ (List.mem_append_left _ (List.mem_append_right _ h))) hown hK hP 0 rfl rfl 4 (by decide) (hts (.fieldLink RX9 38 "LineCites" "acts" "LLineCites$Acts;") (List.mem_of_getElem? (i := 1) rfl)) (fun _ h9 => h9) rfl dX9_undo_1 ?_
  refine lv_aload_n hx hb dX9_undo_4 rfl (lv_at hl 0 rfl) ?_
  refine va_get (D := D) (ci := 9) (v := .ref a_now) (C := RX9) (T := TX9) (N := 14) hx hb hts (fun _ h => List.mem_cons_of_mem _ (List.mem_append_left _ (List.mem_append_right _ h))) hown hK hP 0 rfl rfl 1 (by decide) (hts (.fieldLink RX9 19 "LineCites" "now" "LLineCites$Work;") (List.mem_of_getElem? (i := 2) rfl)) (fun _ h9 => h9) rfl dX9_undo_5 ?_
  have hPc := hP.sub (ws' := [(a_acts, .inr (0, [.ref a_ring, .int 0, .int 0]))]) [1] rfl
  have hKc := hK.sub (tys' := []) [] rfl
  refine va_calli (va_runV (As := [.ref a_now]) (rest := []) ⟨hx, hb, hml, hown, hts⟩ (c_X0_takeBack l D a_acts a_now a_ring) (cwV 1 hts g_X9_undo_X0_takeBack rfl rfl rfl (by decide +kernel) ⟨Nat.le_of_ble_eq_true rfl, Nat.le_of_ble_eq_true rfl⟩) ⟨fun a U g mk q => by obtain ⟨q0, qP, qK⟩ := q; exact ⟨q0, qP, va_K.moved (u := U) (U := U.calling g mk a) (Vm.Alike.refl U.vm) qK⟩, va_recv hKc hPc (ci := 0) (q0 := 0) rfl rfl, fun U hU hW => ⟨rfl, by rw [hU]; exact hPc, va_K.moved hW.alike hKc⟩⟩ rfl rfl hl.1 rfl (lv_room (Nat.le_of_ble_eq_true rfl)) dX9_undo_8 ⟨Nat.le_of_ble_eq_true rfl, Nat.le_of_ble_eq_true rfl⟩) hS (fun _ _ h => h.elim) (fun _ h => h.elim) (fun r1 u t H1 locs ht hvm hw hB hz1 hk1 hS => ?_)
  have hP := pw_keep hP (fun q hq => hk1 q hq (fun h => h))
  generalize H1 = H at hP hS ⊢
  refine W.widen (k := 0) (n := 0) (Nat.le_of_ble_eq_true rfl) (Nat.le_of_ble_eq_true rfl) ?_
  obtain rfl : r1 = 0 := hw
  refine lv_if_eq (tgt := 24) hx hb dX9_undo_11 (by decide) (fun c2 => ?_) (fun c2 => absurd (by decide) c2)
  refine lv_ldc hx hb hown (hts (.constant RX9 137 (-1000002)) (List.mem_of_getElem? (i := 10) rfl)) dX9_undo_24 ?_
  exact W.iret (v := (-1000002)) hx hb hr (fun t ht hW => ⟨⟨(-1000002), (), rfl, rfl, trivial⟩, hS.F ht⟩) hS.2.2 dX9_undo_26
def w_X9_add : List Cond := .code yX9_add cX9_add 6 (some .int) :: ([.fieldLink RX9 19 "LineCites" "now" "LLineCites$Work;", .methodLink RX9 138 yX8_hasEdition, .instanceMethod yX8_hasEdition, .selects RX8 yX8_hasEdition yX8_hasEdition, .initialized RX8, .code yX8_hasEdition cX8_hasEdition 2 (some .boolean), .fieldLink RX8 37 "LineCites$Work" "editions" "I", .constant RX9 88 (-1000001)] ++ wsX90 ++ wsX80)
set_option maxRecDepth 20000 in
theorem g_X9_add_X8_hasEdition : GoodIn w_X9_add (wsV RX9 138 RX8 yX8_hasEdition w_X8_hasEdition) := goodIn_r _ [2, 3, 4, 5, 6, 7, 23, 24, 25, 26, 27, 28, 29, 30] rfl (by decide +kernel)
set_option maxHeartbeats 4000000 in
set_option maxRecDepth 100000 in
theorem c_X9_add (l : Launch) (D : va_G) (h0 : Nat) (i_0 : Int32) (i_1 : Int32) (i_2 : Int32) (i_3 : Int32) (i_4 : Int32) (a_tape : Nat) (a_now : Nat) (a_draft : Nat) (a_reader : Nat) (a_acts : Nat) (a_images : Nat) (a_one : Nat) (a_other : Nat) (a_third : Nat) (a_spans : Nat) (a_back : Nat) (a_span : Nat) (a_middle : Nat) (a_reached : Nat) (b_sc : Nat) (b_sp : Nat) (b_cp : Nat) (b_sn : Nat) (b_sl : Nat) : Met l yX9_add w_X9_add ({ frames := 1, cells := 0, slots := 0, locals := 21 }) (va_Pc [.ref h0, .int i_0, .int i_1, .int i_2, .int i_3, .int i_4] (fun U => va_P D vwCl [(h0, .inr (9, [.ref a_tape, .ref a_now, .ref a_draft, .ref a_reader, .ref a_acts, .ref a_images, .ref a_one, .ref a_other, .ref a_third, .ref a_spans, .ref a_back, .ref a_span, .ref a_middle, .ref a_reached])), (a_now, .inr (8, [.ref b_sc, .ref b_sp, .ref b_cp, .ref b_sn, .ref b_sl, .int 0, .int 0, .int 0]))] U.heap ∧ va_K D vwCl [] U)) (va_Qi (fun (r : Int32) (_ : Unit) => r = (-1000001)) (fun _ _ => True) (fun _ => False)) 0 0 (fun _ => False) := by
  refine Met.ofW (cc := cX9_add) (maxL := 6) (ret := (some .int)) (by decide) rfl ?_
  intro p e s m args below meth c s₁ B hml hv
  obtain ⟨rfl, hP, hK⟩ := hv
  have hx := B.exec
  have hb := B.bytes
  have hr := B.returns
  have hts := atoms_spec (ws := w_X9_add) B.pre
  have hown : s.vm.findClass RX9 = some m.cls := findClass_of_methodNamed B.named
  have hlocks := B.notSynchronized
  have hS : va_S (fun _ : Nat => False) s.heap s.heap [] := va_S.rf
  have hP : va_P D vwCl [(h0, .inr (9, [.ref a_tape, .ref a_now, .ref a_draft, .ref a_reader, .ref a_acts, .ref a_images, .ref a_one, .ref a_other, .ref a_third, .ref a_spans, .ref a_back, .ref a_span, .ref a_middle, .ref a_reached])), (a_now, .inr (8, [.ref b_sc, .ref b_sp, .ref b_cp, .ref b_sn, .ref b_sl, .int 0, .int 0, .int 0]))] s.heap := hP
  have hl := lv_entry ([.ref h0, .int i_0, .int i_1, .int i_2, .int i_3, .int i_4]) (n := 6) (Nat.le_of_ble_eq_true rfl)
  rw [lg_entry_eq]
  generalize (lg_sl ([.ref h0, .int i_0, .int i_1, .int i_2, .int i_3, .int i_4]) ++ List.replicate (6 - (lg_sl ([.ref h0, .int i_0, .int i_1, .int i_2, .int i_3, .int i_4])).length) Slot.unset).toArray = ls at hl ⊢
  have hl : lv_has ls 6 [(0, .ref h0), (1, .int i_0), (2, .int i_1), (3, .int i_2), (4, .int i_3), (5, .int i_4)] := hl
  obtain ⟨H, hHe⟩ : ∃ H : Heap, H = s.heap := ⟨_, rfl⟩
  rw [← hHe] at hP
  have hS : va_S (fun _ : Nat => False) s.heap H [] := by rw [hHe]; exact hS
  refine pw_heap hHe ?_
  refine lv_aload_n hx hb dX9_add_0 rfl (lv_at hl 0 rfl) ?_
  refine va_get (D := D) (ci := 9) (v := .ref a_now) (C := RX9) (T := TX9) (N := 14) hx hb hts (fun _ h => List.mem_cons_of_mem _ (List.mem_append_left _ (List.mem_append_right _ h))) hown hK hP 0 rfl rfl 1 (by decide) (hts (.fieldLink RX9 19 "LineCites" "now" "LLineCites$Work;") (List.mem_of_getElem? (i := 1) rfl)) (fun _ h9 => h9) rfl dX9_add_1 ?_
  refine lv_iload_n hx hb dX9_add_4 rfl (lv_at hl 1 rfl) ?_
  have hPc := hP.sub (ws' := [(a_now, .inr (8, [.ref b_sc, .ref b_sp, .ref b_cp, .ref b_sn, .ref b_sl, .int 0, .int 0, .int 0]))]) [1] rfl
  have hKc := hK.sub (tys' := []) [] rfl
  refine va_calli (va_runV (As := [.int i_0]) (rest := []) ⟨hx, hb, hml, hown, hts⟩ (c_X8_hasEdition l D a_now i_0 b_sc b_sp b_cp b_sn b_sl) (cwV 1 hts g_X9_add_X8_hasEdition rfl rfl rfl (by decide +kernel) ⟨Nat.le_of_ble_eq_true rfl, Nat.le_of_ble_eq_true rfl⟩) ⟨fun a U g mk q => by obtain ⟨q0, qP, qK⟩ := q; exact ⟨q0, qP, va_K.moved (u := U) (U := U.calling g mk a) (Vm.Alike.refl U.vm) qK⟩, va_recv hKc hPc (ci := 8) (q0 := 0) rfl rfl, fun U hU hW => ⟨rfl, by rw [hU]; exact hPc, va_K.moved hW.alike hKc⟩⟩ rfl rfl hl.1 rfl (lv_room (Nat.le_of_ble_eq_true rfl)) dX9_add_5 ⟨Nat.le_of_ble_eq_true rfl, Nat.le_of_ble_eq_true rfl⟩) hS (fun _ _ h => h.elim) (fun _ h => h.elim) (fun r1 u t H1 locs ht hvm hw hB hz1 hk1 hS => ?_)
  have hP := pw_keep hP (fun q hq => hk1 q hq (fun h => h))
  generalize H1 = H at hP hS ⊢
  refine W.widen (k := 0) (n := 0) (Nat.le_of_ble_eq_true rfl) (Nat.le_of_ble_eq_true rfl) ?_
  obtain rfl : r1 = 0 := hw
  refine lv_if_ne (tgt := 14) hx hb dX9_add_8 (by decide) (fun c2 => absurd (by decide) c2) (fun c2 => ?_)
  refine lv_ldc hx hb hown (hts (.constant RX9 88 (-1000001)) (List.mem_of_getElem? (i := 8) rfl)) dX9_add_11 ?_
  exact W.iret (v := (-1000001)) hx hb hr (fun t ht hW => ⟨⟨(-1000001), (), rfl, rfl, trivial⟩, hS.F ht⟩) hS.2.2 dX9_add_13
def w_X9_drop : List Cond := .code yX9_drop cX9_drop 3 (some .int) :: ([.fieldLink RX9 19 "LineCites" "now" "LLineCites$Work;", .methodLink RX9 156 yX8_hasStretch, .instanceMethod yX8_hasStretch, .selects RX8 yX8_hasStretch yX8_hasStretch, .initialized RX8, .code yX8_hasStretch cX8_hasStretch 3 (some .boolean), .methodLink RX8 47 yX8_stretchesOf, .instanceMethod yX8_stretchesOf, .selects RX8 yX8_stretchesOf yX8_stretchesOf, .code yX8_stretchesOf cX8_stretchesOf 2 (some .int), .methodLink RX8 43 yX8_hasEdition, .instanceMethod yX8_hasEdition, .selects RX8 yX8_hasEdition yX8_hasEdition, .code yX8_hasEdition cX8_hasEdition 2 (some .boolean), .fieldLink RX8 37 "LineCites$Work" "editions" "I", .constant RX9 88 (-1000001)] ++ wsX90 ++ wsX80)
set_option maxRecDepth 20000 in
theorem g_X9_drop_X8_hasStretch : GoodIn w_X9_drop (wsV RX9 156 RX8 yX8_hasStretch w_X8_hasStretch) := goodIn_r _ [2, 3, 4, 5, 6, 7, 8, 9, 5, 10, 11, 12, 13, 14, 15, 31, 32, 33, 34, 35, 36, 37, 38] rfl (by decide +kernel)
set_option maxHeartbeats 4000000 in
set_option maxRecDepth 100000 in
theorem c_X9_drop (l : Launch) (D : va_G) (h0 : Nat) (i_0 : Int32) (i_1 : Int32) (a_tape : Nat) (a_now : Nat) (a_draft : Nat) (a_reader : Nat) (a_acts : Nat) (a_images : Nat) (a_one : Nat) (a_other : Nat) (a_third : Nat) (a_spans : Nat) (a_back : Nat) (a_span : Nat) (a_middle : Nat) (a_reached : Nat) (b_sc : Nat) (b_sp : Nat) (b_cp : Nat) (b_sn : Nat) (b_sl : Nat) : Met l yX9_drop w_X9_drop ({ frames := 3, cells := 0, slots := 0, locals := 64 }) (va_Pc [.ref h0, .int i_0, .int i_1] (fun U => va_P D vwCl [(h0, .inr (9, [.ref a_tape, .ref a_now, .ref a_draft, .ref a_reader, .ref a_acts, .ref a_images, .ref a_one, .ref a_other, .ref a_third, .ref a_spans, .ref a_back, .ref a_span, .ref a_middle, .ref a_reached])), (a_now, .inr (8, [.ref b_sc, .ref b_sp, .ref b_cp, .ref b_sn, .ref b_sl, .int 0, .int 0, .int 0]))] U.heap ∧ va_K D vwCl [] U)) (va_Qi (fun (r : Int32) (_ : Unit) => r = (-1000001)) (fun _ _ => True) (fun _ => False)) 0 0 (fun _ => False) := by
  refine Met.ofW (cc := cX9_drop) (maxL := 3) (ret := (some .int)) (by decide) rfl ?_
  intro p e s m args below meth c s₁ B hml hv
  obtain ⟨rfl, hP, hK⟩ := hv
  have hx := B.exec
  have hb := B.bytes
  have hr := B.returns
  have hts := atoms_spec (ws := w_X9_drop) B.pre
  have hown : s.vm.findClass RX9 = some m.cls := findClass_of_methodNamed B.named
  have hlocks := B.notSynchronized
  have hS : va_S (fun _ : Nat => False) s.heap s.heap [] := va_S.rf
  have hP : va_P D vwCl [(h0, .inr (9, [.ref a_tape, .ref a_now, .ref a_draft, .ref a_reader, .ref a_acts, .ref a_images, .ref a_one, .ref a_other, .ref a_third, .ref a_spans, .ref a_back, .ref a_span, .ref a_middle, .ref a_reached])), (a_now, .inr (8, [.ref b_sc, .ref b_sp, .ref b_cp, .ref b_sn, .ref b_sl, .int 0, .int 0, .int 0]))] s.heap := hP
  have hl := lv_entry ([.ref h0, .int i_0, .int i_1]) (n := 3) (Nat.le_of_ble_eq_true rfl)
  rw [lg_entry_eq]
  generalize (lg_sl ([.ref h0, .int i_0, .int i_1]) ++ List.replicate (3 - (lg_sl ([.ref h0, .int i_0, .int i_1])).length) Slot.unset).toArray = ls at hl ⊢
  have hl : lv_has ls 3 [(0, .ref h0), (1, .int i_0), (2, .int i_1)] := hl
  obtain ⟨H, hHe⟩ : ∃ H : Heap, H = s.heap := ⟨_, rfl⟩
  rw [← hHe] at hP
  have hS : va_S (fun _ : Nat => False) s.heap H [] := by rw [hHe]; exact hS
  refine pw_heap hHe ?_
  refine lv_aload_n hx hb dX9_drop_0 rfl (lv_at hl 0 rfl) ?_
  refine va_get (D := D) (ci := 9) (v := .ref a_now) (C := RX9) (T := TX9) (N := 14) hx hb hts (fun _ h => List.mem_cons_of_mem _ (List.mem_append_left _ (List.mem_append_right _ h))) hown hK hP 0 rfl rfl 1 (by decide) (hts (.fieldLink RX9 19 "LineCites" "now" "LLineCites$Work;") (List.mem_of_getElem? (i := 1) rfl)) (fun _ h9 => h9) rfl dX9_drop_1 ?_
  refine lv_iload_n hx hb dX9_drop_4 rfl (lv_at hl 1 rfl) ?_
  refine lv_iload_n hx hb dX9_drop_5 rfl (lv_at hl 2 rfl) ?_
  have hPc := hP.sub (ws' := [(a_now, .inr (8, [.ref b_sc, .ref b_sp, .ref b_cp, .ref b_sn, .ref b_sl, .int 0, .int 0, .int 0]))]) [1] rfl
  have hKc := hK.sub (tys' := []) [] rfl
  refine va_calli (va_runV (As := [.int i_0, .int i_1]) (rest := []) ⟨hx, hb, hml, hown, hts⟩ (c_X8_hasStretch l D a_now i_0 i_1 b_sc b_sp b_cp b_sn b_sl) (cwV 2 hts g_X9_drop_X8_hasStretch rfl rfl rfl (by decide +kernel) ⟨Nat.le_of_ble_eq_true rfl, Nat.le_of_ble_eq_true rfl⟩) ⟨fun a U g mk q => by obtain ⟨q0, qP, qK⟩ := q; exact ⟨q0, qP, va_K.moved (u := U) (U := U.calling g mk a) (Vm.Alike.refl U.vm) qK⟩, va_recv hKc hPc (ci := 8) (q0 := 0) rfl rfl, fun U hU hW => ⟨rfl, by rw [hU]; exact hPc, va_K.moved hW.alike hKc⟩⟩ rfl rfl hl.1 rfl (lv_room (Nat.le_of_ble_eq_true rfl)) dX9_drop_6 ⟨Nat.le_of_ble_eq_true rfl, Nat.le_of_ble_eq_true rfl⟩) hS (fun _ _ h => h.elim) (fun _ h => h.elim) (fun r1 u t H1 locs ht hvm hw hB hz1 hk1 hS => ?_)
  have hP := pw_keep hP (fun q hq => hk1 q hq (fun h => h))
  generalize H1 = H at hP hS ⊢
  refine W.widen (k := 0) (n := 0) (Nat.le_of_ble_eq_true rfl) (Nat.le_of_ble_eq_true rfl) ?_
  obtain rfl : r1 = 0 := hw
  refine lv_if_ne (tgt := 15) hx hb dX9_drop_9 (by decide) (fun c2 => absurd (by decide) c2) (fun c2 => ?_)
  refine lv_ldc hx hb hown (hts (.constant RX9 88 (-1000001)) (List.mem_of_getElem? (i := 16) rfl)) dX9_drop_12 ?_
  exact W.iret (v := (-1000001)) hx hb hr (fun t ht hW => ⟨⟨(-1000001), (), rfl, rfl, trivial⟩, hS.F ht⟩) hS.2.2 dX9_drop_14
def w_X9_alter : List Cond := .code yX9_alter cX9_alter 10 (some .int) :: ([.fieldLink RX9 19 "LineCites" "now" "LLineCites$Work;", .methodLink RX9 156 yX8_hasStretch, .instanceMethod yX8_hasStretch, .selects RX8 yX8_hasStretch yX8_hasStretch, .initialized RX8, .code yX8_hasStretch cX8_hasStretch 3 (some .boolean), .methodLink RX8 47 yX8_stretchesOf, .instanceMethod yX8_stretchesOf, .selects RX8 yX8_stretchesOf yX8_stretchesOf, .code yX8_stretchesOf cX8_stretchesOf 2 (some .int), .methodLink RX8 43 yX8_hasEdition, .instanceMethod yX8_hasEdition, .selects RX8 yX8_hasEdition yX8_hasEdition, .code yX8_hasEdition cX8_hasEdition 2 (some .boolean), .fieldLink RX8 37 "LineCites$Work" "editions" "I", .constant RX9 88 (-1000001)] ++ wsX90 ++ wsX80)
set_option maxRecDepth 20000 in
theorem g_X9_alter_X8_hasStretch : GoodIn w_X9_alter (wsV RX9 156 RX8 yX8_hasStretch w_X8_hasStretch) := goodIn_r _ [2, 3, 4, 5, 6, 7, 8, 9, 5, 10, 11, 12, 13, 14, 15, 31, 32, 33, 34, 35, 36, 37, 38] rfl (by decide +kernel)
set_option maxHeartbeats 4000000 in
set_option maxRecDepth 100000 in
theorem c_X9_alter (l : Launch) (D : va_G) (h0 : Nat) (i_0 : Int32) (i_1 : Int32) (i_2 : Int32) (i_3 : Int32) (a_tape : Nat) (a_now : Nat) (a_draft : Nat) (a_reader : Nat) (a_acts : Nat) (a_images : Nat) (a_one : Nat) (a_other : Nat) (a_third : Nat) (a_spans : Nat) (a_back : Nat) (a_span : Nat) (a_middle : Nat) (a_reached : Nat) (b_sc : Nat) (b_sp : Nat) (b_cp : Nat) (b_sn : Nat) (b_sl : Nat) : Met l yX9_alter w_X9_alter ({ frames := 3, cells := 0, slots := 0, locals := 64 }) (va_Pc [.ref h0, .int i_0, .int i_1, .int i_2, .int i_3] (fun U => va_P D vwCl [(h0, .inr (9, [.ref a_tape, .ref a_now, .ref a_draft, .ref a_reader, .ref a_acts, .ref a_images, .ref a_one, .ref a_other, .ref a_third, .ref a_spans, .ref a_back, .ref a_span, .ref a_middle, .ref a_reached])), (a_now, .inr (8, [.ref b_sc, .ref b_sp, .ref b_cp, .ref b_sn, .ref b_sl, .int 0, .int 0, .int 0]))] U.heap ∧ va_K D vwCl [] U)) (va_Qi (fun (r : Int32) (_ : Unit) => r = (-1000001)) (fun _ _ => True) (fun _ => False)) 0 0 (fun _ => False) := by
  refine Met.ofW (cc := cX9_alter) (maxL := 10) (ret := (some .int)) (by decide) rfl ?_
  intro p e s m args below meth c s₁ B hml hv
  obtain ⟨rfl, hP, hK⟩ := hv
  have hx := B.exec
  have hb := B.bytes
  have hr := B.returns
  have hts := atoms_spec (ws := w_X9_alter) B.pre
  have hown : s.vm.findClass RX9 = some m.cls := findClass_of_methodNamed B.named
  have hlocks := B.notSynchronized
  have hS : va_S (fun _ : Nat => False) s.heap s.heap [] := va_S.rf
  have hP : va_P D vwCl [(h0, .inr (9, [.ref a_tape, .ref a_now, .ref a_draft, .ref a_reader, .ref a_acts, .ref a_images, .ref a_one, .ref a_other, .ref a_third, .ref a_spans, .ref a_back, .ref a_span, .ref a_middle, .ref a_reached])), (a_now, .inr (8, [.ref b_sc, .ref b_sp, .ref b_cp, .ref b_sn, .ref b_sl, .int 0, .int 0, .int 0]))] s.heap := hP
  have hl := lv_entry ([.ref h0, .int i_0, .int i_1, .int i_2, .int i_3]) (n := 10) (Nat.le_of_ble_eq_true rfl)
  rw [lg_entry_eq]
  generalize (lg_sl ([.ref h0, .int i_0, .int i_1, .int i_2, .int i_3]) ++ List.replicate (10 - (lg_sl ([.ref h0, .int i_0, .int i_1, .int i_2, .int i_3])).length) Slot.unset).toArray = ls at hl ⊢
  have hl : lv_has ls 10 [(0, .ref h0), (1, .int i_0), (2, .int i_1), (3, .int i_2), (4, .int i_3)] := hl
  obtain ⟨H, hHe⟩ : ∃ H : Heap, H = s.heap := ⟨_, rfl⟩
  rw [← hHe] at hP
  have hS : va_S (fun _ : Nat => False) s.heap H [] := by rw [hHe]; exact hS
  refine pw_heap hHe ?_
  refine lv_aload_n hx hb dX9_alter_0 rfl (lv_at hl 0 rfl) ?_
  refine va_get (D := D) (ci := 9) (v := .ref a_now) (C := RX9) (T := TX9) (N := 14) hx hb hts (fun _ h => List.mem_cons_of_mem _ (List.mem_append_left _ (List.mem_append_right _ h))) hown hK hP 0 rfl rfl 1 (by decide) (hts (.fieldLink RX9 19 "LineCites" "now" "LLineCites$Work;") (List.mem_of_getElem? (i := 1) rfl)) (fun _ h9 => h9) rfl dX9_alter_1 ?_
  refine lv_iload_n hx hb dX9_alter_4 rfl (lv_at hl 1 rfl) ?_
  refine lv_iload_n hx hb dX9_alter_5 rfl (lv_at hl 2 rfl) ?_
  have hPc := hP.sub (ws' := [(a_now, .inr (8, [.ref b_sc, .ref b_sp, .ref b_cp, .ref b_sn, .ref b_sl, .int 0, .int 0, .int 0]))]) [1] rfl
  have hKc := hK.sub (tys' := []) [] rfl
  refine va_calli (va_runV (As := [.int i_0, .int i_1]) (rest := []) ⟨hx, hb, hml, hown, hts⟩ (c_X8_hasStretch l D a_now i_0 i_1 b_sc b_sp b_cp b_sn b_sl) (cwV 2 hts g_X9_alter_X8_hasStretch rfl rfl rfl (by decide +kernel) ⟨Nat.le_of_ble_eq_true rfl, Nat.le_of_ble_eq_true rfl⟩) ⟨fun a U g mk q => by obtain ⟨q0, qP, qK⟩ := q; exact ⟨q0, qP, va_K.moved (u := U) (U := U.calling g mk a) (Vm.Alike.refl U.vm) qK⟩, va_recv hKc hPc (ci := 8) (q0 := 0) rfl rfl, fun U hU hW => ⟨rfl, by rw [hU]; exact hPc, va_K.moved hW.alike hKc⟩⟩ rfl rfl hl.1 rfl (lv_room (Nat.le_of_ble_eq_true rfl)) dX9_alter_6 ⟨Nat.le_of_ble_eq_true rfl, Nat.le_of_ble_eq_true rfl⟩) hS (fun _ _ h => h.elim) (fun _ h => h.elim) (fun r1 u t H1 locs ht hvm hw hB hz1 hk1 hS => ?_)
  have hP := pw_keep hP (fun q hq => hk1 q hq (fun h => h))
  generalize H1 = H at hP hS ⊢
  refine W.widen (k := 0) (n := 0) (Nat.le_of_ble_eq_true rfl) (Nat.le_of_ble_eq_true rfl) ?_
  obtain rfl : r1 = 0 := hw
  refine lv_if_eq (tgt := 21) hx hb dX9_alter_9 (by decide) (fun c2 => ?_) (fun c2 => absurd (by decide) c2)
  refine lv_ldc hx hb hown (hts (.constant RX9 88 (-1000001)) (List.mem_of_getElem? (i := 16) rfl)) dX9_alter_21 ?_
  exact W.iret (v := (-1000001)) hx hb hr (fun t ht hW => ⟨⟨(-1000001), (), rfl, rfl, trivial⟩, hS.F ht⟩) hS.2.2 dX9_alter_23
def w_X9_cite : List Cond := .code yX9_cite cX9_cite 6 (some .int) :: ([.constant RX9 88 (-1000001), .fieldLink RX9 19 "LineCites" "now" "LLineCites$Work;", .methodLink RX9 138 yX8_hasEdition, .instanceMethod yX8_hasEdition, .selects RX8 yX8_hasEdition yX8_hasEdition, .initialized RX8, .code yX8_hasEdition cX8_hasEdition 2 (some .boolean), .fieldLink RX8 37 "LineCites$Work" "editions" "I"] ++ wsX90 ++ wsX80)
set_option maxRecDepth 20000 in
theorem g_X9_cite_X8_hasEdition : GoodIn w_X9_cite (wsV RX9 138 RX8 yX8_hasEdition w_X8_hasEdition) := goodIn_r _ [3, 4, 5, 6, 7, 8, 23, 24, 25, 26, 27, 28, 29, 30] rfl (by decide +kernel)
set_option maxHeartbeats 4000000 in
set_option maxRecDepth 100000 in
theorem c_X9_cite (l : Launch) (D : va_G) (h0 : Nat) (i_0 : Int32) (i_1 : Int32) (i_2 : Int32) (i_3 : Int32) (i_4 : Int32) (a_tape : Nat) (a_now : Nat) (a_draft : Nat) (a_reader : Nat) (a_acts : Nat) (a_images : Nat) (a_one : Nat) (a_other : Nat) (a_third : Nat) (a_spans : Nat) (a_back : Nat) (a_span : Nat) (a_middle : Nat) (a_reached : Nat) (b_sc : Nat) (b_sp : Nat) (b_cp : Nat) (b_sn : Nat) (b_sl : Nat) : Met l yX9_cite w_X9_cite ({ frames := 1, cells := 0, slots := 0, locals := 21 }) (va_Pc [.ref h0, .int i_0, .int i_1, .int i_2, .int i_3, .int i_4] (fun U => va_P D vwCl [(h0, .inr (9, [.ref a_tape, .ref a_now, .ref a_draft, .ref a_reader, .ref a_acts, .ref a_images, .ref a_one, .ref a_other, .ref a_third, .ref a_spans, .ref a_back, .ref a_span, .ref a_middle, .ref a_reached])), (a_now, .inr (8, [.ref b_sc, .ref b_sp, .ref b_cp, .ref b_sn, .ref b_sl, .int 0, .int 0, .int 0]))] U.heap ∧ va_K D vwCl [] U)) (va_Qi (fun (r : Int32) (_ : Unit) => r = (-1000001)) (fun _ _ => True) (fun _ => False)) 0 0 (fun _ => False) := by
  refine Met.ofW (cc := cX9_cite) (maxL := 6) (ret := (some .int)) (by decide) rfl ?_
  intro p e s m args below meth c s₁ B hml hv
  obtain ⟨rfl, hP, hK⟩ := hv
  have hx := B.exec
  have hb := B.bytes
  have hr := B.returns
  have hts := atoms_spec (ws := w_X9_cite) B.pre
  have hown : s.vm.findClass RX9 = some m.cls := findClass_of_methodNamed B.named
  have hlocks := B.notSynchronized
  have hS : va_S (fun _ : Nat => False) s.heap s.heap [] := va_S.rf
  have hP : va_P D vwCl [(h0, .inr (9, [.ref a_tape, .ref a_now, .ref a_draft, .ref a_reader, .ref a_acts, .ref a_images, .ref a_one, .ref a_other, .ref a_third, .ref a_spans, .ref a_back, .ref a_span, .ref a_middle, .ref a_reached])), (a_now, .inr (8, [.ref b_sc, .ref b_sp, .ref b_cp, .ref b_sn, .ref b_sl, .int 0, .int 0, .int 0]))] s.heap := hP
  have hl := lv_entry ([.ref h0, .int i_0, .int i_1, .int i_2, .int i_3, .int i_4]) (n := 6) (Nat.le_of_ble_eq_true rfl)
  rw [lg_entry_eq]
  generalize (lg_sl ([.ref h0, .int i_0, .int i_1, .int i_2, .int i_3, .int i_4]) ++ List.replicate (6 - (lg_sl ([.ref h0, .int i_0, .int i_1, .int i_2, .int i_3, .int i_4])).length) Slot.unset).toArray = ls at hl ⊢
  have hl : lv_has ls 6 [(0, .ref h0), (1, .int i_0), (2, .int i_1), (3, .int i_2), (4, .int i_3), (5, .int i_4)] := hl
  obtain ⟨H, hHe⟩ : ∃ H : Heap, H = s.heap := ⟨_, rfl⟩
  rw [← hHe] at hP
  have hS : va_S (fun _ : Nat => False) s.heap H [] := by rw [hHe]; exact hS
  refine pw_heap hHe ?_
  refine lv_iload_n hx hb dX9_cite_0 rfl (lv_at hl 1 rfl) ?_
  refine lv_if_lt (tgt := 21) hx hb dX9_cite_1 (by decide) (fun c1 => ?_) (fun c1 => ?_)
  · have nc1 : i_0.toInt < 0 := pw_lt c1 rfl (by decide)
    refine lv_ldc hx hb hown (hts (.constant RX9 88 (-1000001)) (List.mem_of_getElem? (i := 1) rfl)) dX9_cite_21 ?_
    exact W.iret (v := (-1000001)) hx hb hr (fun t ht hW => ⟨⟨(-1000001), (), rfl, rfl, trivial⟩, hS.F ht⟩) hS.2.2 dX9_cite_23
  · have nc1 : 0 ≤ i_0.toInt := pw_nlt c1 rfl (by decide)
    refine lv_iload_n hx hb dX9_cite_4 rfl (lv_at hl 1 rfl) ?_
    refine lv_bipush (v := 8) hx hb dX9_cite_5 (by decide) ?_
    refine lv_icmp_ge (tgt := 21) hx hb dX9_cite_7 (by decide) (fun c2 => ?_) (fun c2 => ?_)
    · have nc2 : 8 ≤ i_0.toInt := pw_le c2 (by decide) rfl
      refine lv_ldc hx hb hown (hts (.constant RX9 88 (-1000001)) (List.mem_of_getElem? (i := 1) rfl)) dX9_cite_21 ?_
      exact W.iret (v := (-1000001)) hx hb hr (fun t ht hW => ⟨⟨(-1000001), (), rfl, rfl, trivial⟩, hS.F ht⟩) hS.2.2 dX9_cite_23
    · have nc2 : i_0.toInt < 8 := pw_nle c2 (by decide) rfl
      refine lv_aload_n hx hb dX9_cite_10 rfl (lv_at hl 0 rfl) ?_
      refine va_get (D := D) (ci := 9) (v := .ref a_now) (C := RX9) (T := TX9) (N := 14) hx hb hts (fun _ h => List.mem_cons_of_mem _ (List.mem_append_left _ (List.mem_append_right _ h))) hown hK hP 0 rfl rfl 1 (by decide) (hts (.fieldLink RX9 19 "LineCites" "now" "LLineCites$Work;") (List.mem_of_getElem? (i := 2) rfl)) (fun _ h9 => h9) rfl dX9_cite_11 ?_
      refine lv_iload_n hx hb dX9_cite_14 rfl (lv_at hl 2 rfl) ?_
      have hPc := hP.sub (ws' := [(a_now, .inr (8, [.ref b_sc, .ref b_sp, .ref b_cp, .ref b_sn, .ref b_sl, .int 0, .int 0, .int 0]))]) [1] rfl
      have hKc := hK.sub (tys' := []) [] rfl
      refine va_calli (va_runV (As := [.int i_1]) (rest := []) ⟨hx, hb, hml, hown, hts⟩ (c_X8_hasEdition l D a_now i_1 b_sc b_sp b_cp b_sn b_sl) (cwV 1 hts g_X9_cite_X8_hasEdition rfl rfl rfl (by decide +kernel) ⟨Nat.le_of_ble_eq_true rfl, Nat.le_of_ble_eq_true rfl⟩) ⟨fun a U g mk q => by obtain ⟨q0, qP, qK⟩ := q; exact ⟨q0, qP, va_K.moved (u := U) (U := U.calling g mk a) (Vm.Alike.refl U.vm) qK⟩, va_recv hKc hPc (ci := 8) (q0 := 0) rfl rfl, fun U hU hW => ⟨rfl, by rw [hU]; exact hPc, va_K.moved hW.alike hKc⟩⟩ rfl rfl hl.1 rfl (lv_room (Nat.le_of_ble_eq_true rfl)) dX9_cite_15 ⟨Nat.le_of_ble_eq_true rfl, Nat.le_of_ble_eq_true rfl⟩) hS (fun _ _ h => h.elim) (fun _ h => h.elim) (fun r3 u t H1 locs ht hvm hw hB hz1 hk1 hS => ?_)
      have hP := pw_keep hP (fun q hq => hk1 q hq (fun h => h))
      generalize H1 = H at hP hS ⊢
      refine W.widen (k := 0) (n := 0) (Nat.le_of_ble_eq_true rfl) (Nat.le_of_ble_eq_true rfl) ?_
      obtain rfl : r3 = 0 := hw
      refine lv_if_ne (tgt := 24) hx hb dX9_cite_18 (by decide) (fun c4 => absurd (by decide) c4) (fun c4 => ?_)
      refine lv_ldc hx hb hown (hts (.constant RX9 88 (-1000001)) (List.mem_of_getElem? (i := 1) rfl)) dX9_cite_21 ?_
      exact W.iret (v := (-1000001)) hx hb hr (fun t ht hW => ⟨⟨(-1000001), (), rfl, rfl, trivial⟩, hS.F ht⟩) hS.2.2 dX9_cite_23
def w_X9_see : List Cond := .code yX9_see cX9_see 3 (some .int) :: ([.methodLink RX9 172 yX9_isNumber, .static yX9_isNumber, .initialized RX9, .code yX9_isNumber cX9_isNumber 1 (some .boolean), .constant RX9 88 (-1000001), .fieldLink RX9 19 "LineCites" "now" "LLineCites$Work;", .methodLink RX9 191 yX8_hasLine, .instanceMethod yX8_hasLine, .selects RX8 yX8_hasLine yX8_hasLine, .initialized RX8, .code yX8_hasLine cX8_hasLine 2 (some .boolean), .fieldLink RX8 33 "LineCites$Work" "lines" "I"] ++ wsX90 ++ wsX80)
set_option maxRecDepth 20000 in
theorem g_X9_see_X9_isNumber : GoodIn w_X9_see (wsS RX9 172 yX9_isNumber w_X9_isNumber) := goodIn_r _ [1, 2, 3, 4] rfl (by decide +kernel)
set_option maxRecDepth 20000 in
theorem g_X9_see_X8_hasLine : GoodIn w_X9_see (wsV RX9 191 RX8 yX8_hasLine w_X8_hasLine) := goodIn_r _ [7, 8, 9, 10, 11, 12, 27, 28, 29, 30, 31, 32, 33, 34] rfl (by decide +kernel)
set_option maxHeartbeats 4000000 in
set_option maxRecDepth 100000 in
theorem c_X9_see (l : Launch) (D : va_G) (h0 : Nat) (i_0 : Int32) (i_1 : Int32) (a_tape : Nat) (a_now : Nat) (a_draft : Nat) (a_reader : Nat) (a_acts : Nat) (a_images : Nat) (a_one : Nat) (a_other : Nat) (a_third : Nat) (a_spans : Nat) (a_back : Nat) (a_span : Nat) (a_middle : Nat) (a_reached : Nat) (b_sc : Nat) (b_sp : Nat) (b_cp : Nat) (b_sn : Nat) (b_sl : Nat) : Met l yX9_see w_X9_see ({ frames := 1, cells := 0, slots := 0, locals := 21 }) (va_Pc [.ref h0, .int i_0, .int i_1] (fun U => va_P D vwCl [(h0, .inr (9, [.ref a_tape, .ref a_now, .ref a_draft, .ref a_reader, .ref a_acts, .ref a_images, .ref a_one, .ref a_other, .ref a_third, .ref a_spans, .ref a_back, .ref a_span, .ref a_middle, .ref a_reached])), (a_now, .inr (8, [.ref b_sc, .ref b_sp, .ref b_cp, .ref b_sn, .ref b_sl, .int 0, .int 0, .int 0]))] U.heap ∧ va_K D vwCl [] U)) (va_Qi (fun (r : Int32) (_ : Unit) => r = (-1000001)) (fun _ _ => True) (fun _ => False)) 0 0 (fun _ => False) := by
  refine Met.ofW (cc := cX9_see) (maxL := 3) (ret := (some .int)) (by decide) rfl ?_
  intro p e s m args below meth c s₁ B hml hv
  obtain ⟨rfl, hP, hK⟩ := hv
  have hx := B.exec
  have hb := B.bytes
  have hr := B.returns
  have hts := atoms_spec (ws := w_X9_see) B.pre
  have hown : s.vm.findClass RX9 = some m.cls := findClass_of_methodNamed B.named
  have hlocks := B.notSynchronized
  have hS : va_S (fun _ : Nat => False) s.heap s.heap [] := va_S.rf
  have hP : va_P D vwCl [(h0, .inr (9, [.ref a_tape, .ref a_now, .ref a_draft, .ref a_reader, .ref a_acts, .ref a_images, .ref a_one, .ref a_other, .ref a_third, .ref a_spans, .ref a_back, .ref a_span, .ref a_middle, .ref a_reached])), (a_now, .inr (8, [.ref b_sc, .ref b_sp, .ref b_cp, .ref b_sn, .ref b_sl, .int 0, .int 0, .int 0]))] s.heap := hP
  have hl := lv_entry ([.ref h0, .int i_0, .int i_1]) (n := 3) (Nat.le_of_ble_eq_true rfl)
  rw [lg_entry_eq]
  generalize (lg_sl ([.ref h0, .int i_0, .int i_1]) ++ List.replicate (3 - (lg_sl ([.ref h0, .int i_0, .int i_1])).length) Slot.unset).toArray = ls at hl ⊢
  have hl : lv_has ls 3 [(0, .ref h0), (1, .int i_0), (2, .int i_1)] := hl
  obtain ⟨H, hHe⟩ : ∃ H : Heap, H = s.heap := ⟨_, rfl⟩
  rw [← hHe] at hP
  have hS : va_S (fun _ : Nat => False) s.heap H [] := by rw [hHe]; exact hS
  refine pw_heap hHe ?_
  refine lv_iload_n hx hb dX9_see_0 rfl (lv_at hl 1 rfl) ?_
  have hPc := hP.sub (ws' := []) [] rfl
  have hKc := hK.sub (tys' := []) [] rfl
  refine va_calli (va_runS (As := [.int i_0]) (rest := []) ⟨hx, hb, hml, hown, hts⟩ (c_X9_isNumber l D i_0) (cwS 1 hts g_X9_see_X9_isNumber rfl rfl rfl (by decide +kernel) ⟨Nat.le_of_ble_eq_true rfl, Nat.le_of_ble_eq_true rfl⟩) ⟨fun a U g mk q => by obtain ⟨q0, qP, qK⟩ := q; exact ⟨q0, qP, va_K.moved (u := U) (U := U.calling g mk a) (Vm.Alike.refl U.vm) qK⟩, fun U hU hW => ⟨rfl, by rw [hU]; exact hPc, va_K.moved hW.alike hKc⟩⟩ rfl rfl hl.1 rfl (lv_room (Nat.le_of_ble_eq_true rfl)) dX9_see_1 ⟨Nat.le_of_ble_eq_true rfl, Nat.le_of_ble_eq_true rfl⟩) hS (fun _ _ h => h.elim) (fun _ h => h.elim) (fun r1 u t H1 locs ht hvm hw hB hz1 hk1 hS => ?_)
  have hP := pw_keep hP (fun q hq => hk1 q hq (fun h => h))
  generalize H1 = H at hP hS ⊢
  refine W.widen (k := 0) (n := 0) (Nat.le_of_ble_eq_true rfl) (Nat.le_of_ble_eq_true rfl) ?_
  refine lv_if_eq (tgt := 18) hx hb dX9_see_4 (by decide) (fun c2 => ?_) (fun c2 => ?_)
  · have nc2 : r1.toInt = 0 := pw_eq c2 rfl (by decide)
    refine lv_ldc hx hb hown (hts (.constant RX9 88 (-1000001)) (List.mem_of_getElem? (i := 5) rfl)) dX9_see_18 ?_
    exact W.iret (v := (-1000001)) hx hb hr (fun t ht hW => ⟨⟨(-1000001), (), rfl, rfl, trivial⟩, hS.F ht⟩) hS.2.2 dX9_see_20
  · have nc2 : r1.toInt ≠ 0 := pw_ne c2 rfl (by decide)
    refine lv_aload_n hx hb dX9_see_7 rfl (lv_at hl 0 rfl) ?_
    refine va_get (D := D) (ci := 9) (v := .ref a_now) (C := RX9) (T := TX9) (N := 14) hx hb hts (fun _ h => List.mem_cons_of_mem _ (List.mem_append_left _ (List.mem_append_right _ h))) hown hK hP 0 rfl rfl 1 (by decide) (hts (.fieldLink RX9 19 "LineCites" "now" "LLineCites$Work;") (List.mem_of_getElem? (i := 6) rfl)) (fun _ h9 => h9) rfl dX9_see_8 ?_
    refine lv_iload_n hx hb dX9_see_11 rfl (lv_at hl 2 rfl) ?_
    have hPc := hP.sub (ws' := [(a_now, .inr (8, [.ref b_sc, .ref b_sp, .ref b_cp, .ref b_sn, .ref b_sl, .int 0, .int 0, .int 0]))]) [1] rfl
    have hKc := hK.sub (tys' := []) [] rfl
    refine va_calli (va_runV (As := [.int i_1]) (rest := []) ⟨hx, hb, hml, hown, hts⟩ (c_X8_hasLine l D a_now i_1 b_sc b_sp b_cp b_sn b_sl) (cwV 1 hts g_X9_see_X8_hasLine rfl rfl rfl (by decide +kernel) ⟨Nat.le_of_ble_eq_true rfl, Nat.le_of_ble_eq_true rfl⟩) ⟨fun a U g mk q => by obtain ⟨q0, qP, qK⟩ := q; exact ⟨q0, qP, va_K.moved (u := U) (U := U.calling g mk a) (Vm.Alike.refl U.vm) qK⟩, va_recv hKc hPc (ci := 8) (q0 := 0) rfl rfl, fun U hU hW => ⟨rfl, by rw [hU]; exact hPc, va_K.moved hW.alike hKc⟩⟩ rfl rfl hl.1 rfl (lv_room (Nat.le_of_ble_eq_true rfl)) dX9_see_12 ⟨Nat.le_of_ble_eq_true rfl, Nat.le_of_ble_eq_true rfl⟩) hS (fun _ _ h => h.elim) (fun _ h => h.elim) (fun r3 u t H1 locs ht hvm hw hB hz1 hk1 hS => ?_)
    have hP := pw_keep hP (fun q hq => hk1 q hq (fun h => h))
    generalize H1 = H at hP hS ⊢
    refine W.widen (k := 0) (n := 0) (Nat.le_of_ble_eq_true rfl) (Nat.le_of_ble_eq_true rfl) ?_
    obtain rfl : r3 = 0 := hw
    refine lv_if_ne (tgt := 21) hx hb dX9_see_15 (by decide) (fun c4 => absurd (by decide) c4) (fun c4 => ?_)
    refine lv_ldc hx hb hown (hts (.constant RX9 88 (-1000001)) (List.mem_of_getElem? (i := 5) rfl)) dX9_see_18 ?_
    exact W.iret (v := (-1000001)) hx hb hr (fun t ht hW => ⟨⟨(-1000001), (), rfl, rfl, trivial⟩, hS.F ht⟩) hS.2.2 dX9_see_20
def w_X9_stretch : List Cond := .code yX9_stretch cX9_stretch 4 (some .int) :: ([.fieldLink RX9 19 "LineCites" "now" "LLineCites$Work;", .methodLink RX9 156 yX8_hasStretch, .instanceMethod yX8_hasStretch, .selects RX8 yX8_hasStretch yX8_hasStretch, .initialized RX8, .code yX8_hasStretch cX8_hasStretch 3 (some .boolean), .methodLink RX8 47 yX8_stretchesOf, .instanceMethod yX8_stretchesOf, .selects RX8 yX8_stretchesOf yX8_stretchesOf, .code yX8_stretchesOf cX8_stretchesOf 2 (some .int), .methodLink RX8 43 yX8_hasEdition, .instanceMethod yX8_hasEdition, .selects RX8 yX8_hasEdition yX8_hasEdition, .code yX8_hasEdition cX8_hasEdition 2 (some .boolean), .fieldLink RX8 37 "LineCites$Work" "editions" "I", .constant RX9 88 (-1000001)] ++ wsX90 ++ wsX80)
set_option maxRecDepth 20000 in
theorem g_X9_stretch_X8_hasStretch : GoodIn w_X9_stretch (wsV RX9 156 RX8 yX8_hasStretch w_X8_hasStretch) := goodIn_r _ [2, 3, 4, 5, 6, 7, 8, 9, 5, 10, 11, 12, 13, 14, 15, 31, 32, 33, 34, 35, 36, 37, 38] rfl (by decide +kernel)
set_option maxHeartbeats 4000000 in
set_option maxRecDepth 100000 in
theorem c_X9_stretch (l : Launch) (D : va_G) (h0 : Nat) (i_0 : Int32) (i_1 : Int32) (i_2 : Int32) (a_tape : Nat) (a_now : Nat) (a_draft : Nat) (a_reader : Nat) (a_acts : Nat) (a_images : Nat) (a_one : Nat) (a_other : Nat) (a_third : Nat) (a_spans : Nat) (a_back : Nat) (a_span : Nat) (a_middle : Nat) (a_reached : Nat) (b_sc : Nat) (b_sp : Nat) (b_cp : Nat) (b_sn : Nat) (b_sl : Nat) : Met l yX9_stretch w_X9_stretch ({ frames := 3, cells := 0, slots := 0, locals := 64 }) (va_Pc [.ref h0, .int i_0, .int i_1, .int i_2] (fun U => va_P D vwCl [(h0, .inr (9, [.ref a_tape, .ref a_now, .ref a_draft, .ref a_reader, .ref a_acts, .ref a_images, .ref a_one, .ref a_other, .ref a_third, .ref a_spans, .ref a_back, .ref a_span, .ref a_middle, .ref a_reached])), (a_now, .inr (8, [.ref b_sc, .ref b_sp, .ref b_cp, .ref b_sn, .ref b_sl, .int 0, .int 0, .int 0]))] U.heap ∧ va_K D vwCl [] U)) (va_Qi (fun (r : Int32) (_ : Unit) => r = (-1000001)) (fun _ _ => True) (fun _ => False)) 0 0 (fun _ => False) := by
  refine Met.ofW (cc := cX9_stretch) (maxL := 4) (ret := (some .int)) (by decide) rfl ?_
  intro p e s m args below meth c s₁ B hml hv
  obtain ⟨rfl, hP, hK⟩ := hv
  have hx := B.exec
  have hb := B.bytes
  have hr := B.returns
  have hts := atoms_spec (ws := w_X9_stretch) B.pre
  have hown : s.vm.findClass RX9 = some m.cls := findClass_of_methodNamed B.named
  have hlocks := B.notSynchronized
  have hS : va_S (fun _ : Nat => False) s.heap s.heap [] := va_S.rf
  have hP : va_P D vwCl [(h0, .inr (9, [.ref a_tape, .ref a_now, .ref a_draft, .ref a_reader, .ref a_acts, .ref a_images, .ref a_one, .ref a_other, .ref a_third, .ref a_spans, .ref a_back, .ref a_span, .ref a_middle, .ref a_reached])), (a_now, .inr (8, [.ref b_sc, .ref b_sp, .ref b_cp, .ref b_sn, .ref b_sl, .int 0, .int 0, .int 0]))] s.heap := hP
  have hl := lv_entry ([.ref h0, .int i_0, .int i_1, .int i_2]) (n := 4) (Nat.le_of_ble_eq_true rfl)
  rw [lg_entry_eq]
  generalize (lg_sl ([.ref h0, .int i_0, .int i_1, .int i_2]) ++ List.replicate (4 - (lg_sl ([.ref h0, .int i_0, .int i_1, .int i_2])).length) Slot.unset).toArray = ls at hl ⊢
  have hl : lv_has ls 4 [(0, .ref h0), (1, .int i_0), (2, .int i_1), (3, .int i_2)] := hl
  obtain ⟨H, hHe⟩ : ∃ H : Heap, H = s.heap := ⟨_, rfl⟩
  rw [← hHe] at hP
  have hS : va_S (fun _ : Nat => False) s.heap H [] := by rw [hHe]; exact hS
  refine pw_heap hHe ?_
  refine lv_aload_n hx hb dX9_stretch_0 rfl (lv_at hl 0 rfl) ?_
  refine va_get (D := D) (ci := 9) (v := .ref a_now) (C := RX9) (T := TX9) (N := 14) hx hb hts (fun _ h => List.mem_cons_of_mem _ (List.mem_append_left _ (List.mem_append_right _ h))) hown hK hP 0 rfl rfl 1 (by decide) (hts (.fieldLink RX9 19 "LineCites" "now" "LLineCites$Work;") (List.mem_of_getElem? (i := 1) rfl)) (fun _ h9 => h9) rfl dX9_stretch_1 ?_
  refine lv_iload_n hx hb dX9_stretch_4 rfl (lv_at hl 1 rfl) ?_
  refine lv_iload_n hx hb dX9_stretch_5 rfl (lv_at hl 2 rfl) ?_
  have hPc := hP.sub (ws' := [(a_now, .inr (8, [.ref b_sc, .ref b_sp, .ref b_cp, .ref b_sn, .ref b_sl, .int 0, .int 0, .int 0]))]) [1] rfl
  have hKc := hK.sub (tys' := []) [] rfl
  refine va_calli (va_runV (As := [.int i_0, .int i_1]) (rest := []) ⟨hx, hb, hml, hown, hts⟩ (c_X8_hasStretch l D a_now i_0 i_1 b_sc b_sp b_cp b_sn b_sl) (cwV 2 hts g_X9_stretch_X8_hasStretch rfl rfl rfl (by decide +kernel) ⟨Nat.le_of_ble_eq_true rfl, Nat.le_of_ble_eq_true rfl⟩) ⟨fun a U g mk q => by obtain ⟨q0, qP, qK⟩ := q; exact ⟨q0, qP, va_K.moved (u := U) (U := U.calling g mk a) (Vm.Alike.refl U.vm) qK⟩, va_recv hKc hPc (ci := 8) (q0 := 0) rfl rfl, fun U hU hW => ⟨rfl, by rw [hU]; exact hPc, va_K.moved hW.alike hKc⟩⟩ rfl rfl hl.1 rfl (lv_room (Nat.le_of_ble_eq_true rfl)) dX9_stretch_6 ⟨Nat.le_of_ble_eq_true rfl, Nat.le_of_ble_eq_true rfl⟩) hS (fun _ _ h => h.elim) (fun _ h => h.elim) (fun r1 u t H1 locs ht hvm hw hB hz1 hk1 hS => ?_)
  have hP := pw_keep hP (fun q hq => hk1 q hq (fun h => h))
  generalize H1 = H at hP hS ⊢
  refine W.widen (k := 0) (n := 0) (Nat.le_of_ble_eq_true rfl) (Nat.le_of_ble_eq_true rfl) ?_
  obtain rfl : r1 = 0 := hw
  refine lv_if_eq (tgt := 21) hx hb dX9_stretch_9 (by decide) (fun c2 => ?_) (fun c2 => absurd (by decide) c2)
  refine lv_ldc hx hb hown (hts (.constant RX9 88 (-1000001)) (List.mem_of_getElem? (i := 16) rfl)) dX9_stretch_21 ?_
  exact W.iret (v := (-1000001)) hx hb hr (fun t ht hW => ⟨⟨(-1000001), (), rfl, rfl, trivial⟩, hS.F ht⟩) hS.2.2 dX9_stretch_23
def w_X9_as : List Cond := .code yX9_as cX9_as 4 (some .int) :: ([.fieldLink RX9 19 "LineCites" "now" "LLineCites$Work;", .methodLink RX9 156 yX8_hasStretch, .instanceMethod yX8_hasStretch, .selects RX8 yX8_hasStretch yX8_hasStretch, .initialized RX8, .code yX8_hasStretch cX8_hasStretch 3 (some .boolean), .methodLink RX8 47 yX8_stretchesOf, .instanceMethod yX8_stretchesOf, .selects RX8 yX8_stretchesOf yX8_stretchesOf, .code yX8_stretchesOf cX8_stretchesOf 2 (some .int), .methodLink RX8 43 yX8_hasEdition, .instanceMethod yX8_hasEdition, .selects RX8 yX8_hasEdition yX8_hasEdition, .code yX8_hasEdition cX8_hasEdition 2 (some .boolean), .fieldLink RX8 37 "LineCites$Work" "editions" "I", .constant RX9 88 (-1000001)] ++ wsX90 ++ wsX80)
set_option maxRecDepth 20000 in
theorem g_X9_as_X8_hasStretch : GoodIn w_X9_as (wsV RX9 156 RX8 yX8_hasStretch w_X8_hasStretch) := goodIn_r _ [2, 3, 4, 5, 6, 7, 8, 9, 5, 10, 11, 12, 13, 14, 15, 31, 32, 33, 34, 35, 36, 37, 38] rfl (by decide +kernel)
set_option maxHeartbeats 4000000 in
set_option maxRecDepth 100000 in
theorem c_X9_as (l : Launch) (D : va_G) (h0 : Nat) (i_0 : Int32) (i_1 : Int32) (i_2 : Int32) (a_tape : Nat) (a_now : Nat) (a_draft : Nat) (a_reader : Nat) (a_acts : Nat) (a_images : Nat) (a_one : Nat) (a_other : Nat) (a_third : Nat) (a_spans : Nat) (a_back : Nat) (a_span : Nat) (a_middle : Nat) (a_reached : Nat) (b_sc : Nat) (b_sp : Nat) (b_cp : Nat) (b_sn : Nat) (b_sl : Nat) : Met l yX9_as w_X9_as ({ frames := 3, cells := 0, slots := 0, locals := 64 }) (va_Pc [.ref h0, .int i_0, .int i_1, .int i_2] (fun U => va_P D vwCl [(h0, .inr (9, [.ref a_tape, .ref a_now, .ref a_draft, .ref a_reader, .ref a_acts, .ref a_images, .ref a_one, .ref a_other, .ref a_third, .ref a_spans, .ref a_back, .ref a_span, .ref a_middle, .ref a_reached])), (a_now, .inr (8, [.ref b_sc, .ref b_sp, .ref b_cp, .ref b_sn, .ref b_sl, .int 0, .int 0, .int 0]))] U.heap ∧ va_K D vwCl [] U)) (va_Qi (fun (r : Int32) (_ : Unit) => r = (-1000001)) (fun _ _ => True) (fun _ => False)) 0 0 (fun _ => False) := by
  refine Met.ofW (cc := cX9_as) (maxL := 4) (ret := (some .int)) (by decide) rfl ?_
  intro p e s m args below meth c s₁ B hml hv
  obtain ⟨rfl, hP, hK⟩ := hv
  have hx := B.exec
  have hb := B.bytes
  have hr := B.returns
  have hts := atoms_spec (ws := w_X9_as) B.pre
  have hown : s.vm.findClass RX9 = some m.cls := findClass_of_methodNamed B.named
  have hlocks := B.notSynchronized
  have hS : va_S (fun _ : Nat => False) s.heap s.heap [] := va_S.rf
  have hP : va_P D vwCl [(h0, .inr (9, [.ref a_tape, .ref a_now, .ref a_draft, .ref a_reader, .ref a_acts, .ref a_images, .ref a_one, .ref a_other, .ref a_third, .ref a_spans, .ref a_back, .ref a_span, .ref a_middle, .ref a_reached])), (a_now, .inr (8, [.ref b_sc, .ref b_sp, .ref b_cp, .ref b_sn, .ref b_sl, .int 0, .int 0, .int 0]))] s.heap := hP
  have hl := lv_entry ([.ref h0, .int i_0, .int i_1, .int i_2]) (n := 4) (Nat.le_of_ble_eq_true rfl)
  rw [lg_entry_eq]
  generalize (lg_sl ([.ref h0, .int i_0, .int i_1, .int i_2]) ++ List.replicate (4 - (lg_sl ([.ref h0, .int i_0, .int i_1, .int i_2])).length) Slot.unset).toArray = ls at hl ⊢
  have hl : lv_has ls 4 [(0, .ref h0), (1, .int i_0), (2, .int i_1), (3, .int i_2)] := hl
  obtain ⟨H, hHe⟩ : ∃ H : Heap, H = s.heap := ⟨_, rfl⟩
  rw [← hHe] at hP
  have hS : va_S (fun _ : Nat => False) s.heap H [] := by rw [hHe]; exact hS
  refine pw_heap hHe ?_
  refine lv_aload_n hx hb dX9_as_0 rfl (lv_at hl 0 rfl) ?_
  refine va_get (D := D) (ci := 9) (v := .ref a_now) (C := RX9) (T := TX9) (N := 14) hx hb hts (fun _ h => List.mem_cons_of_mem _ (List.mem_append_left _ (List.mem_append_right _ h))) hown hK hP 0 rfl rfl 1 (by decide) (hts (.fieldLink RX9 19 "LineCites" "now" "LLineCites$Work;") (List.mem_of_getElem? (i := 1) rfl)) (fun _ h9 => h9) rfl dX9_as_1 ?_
  refine lv_iload_n hx hb dX9_as_4 rfl (lv_at hl 1 rfl) ?_
  refine lv_iload_n hx hb dX9_as_5 rfl (lv_at hl 2 rfl) ?_
  have hPc := hP.sub (ws' := [(a_now, .inr (8, [.ref b_sc, .ref b_sp, .ref b_cp, .ref b_sn, .ref b_sl, .int 0, .int 0, .int 0]))]) [1] rfl
  have hKc := hK.sub (tys' := []) [] rfl
  refine va_calli (va_runV (As := [.int i_0, .int i_1]) (rest := []) ⟨hx, hb, hml, hown, hts⟩ (c_X8_hasStretch l D a_now i_0 i_1 b_sc b_sp b_cp b_sn b_sl) (cwV 2 hts g_X9_as_X8_hasStretch rfl rfl rfl (by decide +kernel) ⟨Nat.le_of_ble_eq_true rfl, Nat.le_of_ble_eq_true rfl⟩) ⟨fun a U g mk q => by obtain ⟨q0, qP, qK⟩ := q; exact ⟨q0, qP, va_K.moved (u := U) (U := U.calling g mk a) (Vm.Alike.refl U.vm) qK⟩, va_recv hKc hPc (ci := 8) (q0 := 0) rfl rfl, fun U hU hW => ⟨rfl, by rw [hU]; exact hPc, va_K.moved hW.alike hKc⟩⟩ rfl rfl hl.1 rfl (lv_room (Nat.le_of_ble_eq_true rfl)) dX9_as_6 ⟨Nat.le_of_ble_eq_true rfl, Nat.le_of_ble_eq_true rfl⟩) hS (fun _ _ h => h.elim) (fun _ h => h.elim) (fun r1 u t H1 locs ht hvm hw hB hz1 hk1 hS => ?_)
  have hP := pw_keep hP (fun q hq => hk1 q hq (fun h => h))
  generalize H1 = H at hP hS ⊢
  refine W.widen (k := 0) (n := 0) (Nat.le_of_ble_eq_true rfl) (Nat.le_of_ble_eq_true rfl) ?_
  obtain rfl : r1 = 0 := hw
  refine lv_if_eq (tgt := 21) hx hb dX9_as_9 (by decide) (fun c2 => ?_) (fun c2 => absurd (by decide) c2)
  refine lv_ldc hx hb hown (hts (.constant RX9 88 (-1000001)) (List.mem_of_getElem? (i := 16) rfl)) dX9_as_21 ?_
  exact W.iret (v := (-1000001)) hx hb hr (fun t ht hW => ⟨⟨(-1000001), (), rfl, rfl, trivial⟩, hS.F ht⟩) hS.2.2 dX9_as_23
def w_X9_edition : List Cond := .code yX9_edition cX9_edition 3 (some .int) :: ([.fieldLink RX9 19 "LineCites" "now" "LLineCites$Work;", .methodLink RX9 138 yX8_hasEdition, .instanceMethod yX8_hasEdition, .selects RX8 yX8_hasEdition yX8_hasEdition, .initialized RX8, .code yX8_hasEdition cX8_hasEdition 2 (some .boolean), .fieldLink RX8 37 "LineCites$Work" "editions" "I", .constant RX9 88 (-1000001)] ++ wsX90 ++ wsX80)
set_option maxRecDepth 20000 in
theorem g_X9_edition_X8_hasEdition : GoodIn w_X9_edition (wsV RX9 138 RX8 yX8_hasEdition w_X8_hasEdition) := goodIn_r _ [2, 3, 4, 5, 6, 7, 23, 24, 25, 26, 27, 28, 29, 30] rfl (by decide +kernel)
set_option maxHeartbeats 4000000 in
set_option maxRecDepth 100000 in
theorem c_X9_edition (l : Launch) (D : va_G) (h0 : Nat) (i_0 : Int32) (i_1 : Int32) (a_tape : Nat) (a_now : Nat) (a_draft : Nat) (a_reader : Nat) (a_acts : Nat) (a_images : Nat) (a_one : Nat) (a_other : Nat) (a_third : Nat) (a_spans : Nat) (a_back : Nat) (a_span : Nat) (a_middle : Nat) (a_reached : Nat) (b_sc : Nat) (b_sp : Nat) (b_cp : Nat) (b_sn : Nat) (b_sl : Nat) : Met l yX9_edition w_X9_edition ({ frames := 1, cells := 0, slots := 0, locals := 21 }) (va_Pc [.ref h0, .int i_0, .int i_1] (fun U => va_P D vwCl [(h0, .inr (9, [.ref a_tape, .ref a_now, .ref a_draft, .ref a_reader, .ref a_acts, .ref a_images, .ref a_one, .ref a_other, .ref a_third, .ref a_spans, .ref a_back, .ref a_span, .ref a_middle, .ref a_reached])), (a_now, .inr (8, [.ref b_sc, .ref b_sp, .ref b_cp, .ref b_sn, .ref b_sl, .int 0, .int 0, .int 0]))] U.heap ∧ va_K D vwCl [] U)) (va_Qi (fun (r : Int32) (_ : Unit) => r = (-1000001)) (fun _ _ => True) (fun _ => False)) 0 0 (fun _ => False) := by
  refine Met.ofW (cc := cX9_edition) (maxL := 3) (ret := (some .int)) (by decide) rfl ?_
  intro p e s m args below meth c s₁ B hml hv
  obtain ⟨rfl, hP, hK⟩ := hv
  have hx := B.exec
  have hb := B.bytes
  have hr := B.returns
  have hts := atoms_spec (ws := w_X9_edition) B.pre
  have hown : s.vm.findClass RX9 = some m.cls := findClass_of_methodNamed B.named
  have hlocks := B.notSynchronized
  have hS : va_S (fun _ : Nat => False) s.heap s.heap [] := va_S.rf
  have hP : va_P D vwCl [(h0, .inr (9, [.ref a_tape, .ref a_now, .ref a_draft, .ref a_reader, .ref a_acts, .ref a_images, .ref a_one, .ref a_other, .ref a_third, .ref a_spans, .ref a_back, .ref a_span, .ref a_middle, .ref a_reached])), (a_now, .inr (8, [.ref b_sc, .ref b_sp, .ref b_cp, .ref b_sn, .ref b_sl, .int 0, .int 0, .int 0]))] s.heap := hP
  have hl := lv_entry ([.ref h0, .int i_0, .int i_1]) (n := 3) (Nat.le_of_ble_eq_true rfl)
  rw [lg_entry_eq]
  generalize (lg_sl ([.ref h0, .int i_0, .int i_1]) ++ List.replicate (3 - (lg_sl ([.ref h0, .int i_0, .int i_1])).length) Slot.unset).toArray = ls at hl ⊢
  have hl : lv_has ls 3 [(0, .ref h0), (1, .int i_0), (2, .int i_1)] := hl
  obtain ⟨H, hHe⟩ : ∃ H : Heap, H = s.heap := ⟨_, rfl⟩
  rw [← hHe] at hP
  have hS : va_S (fun _ : Nat => False) s.heap H [] := by rw [hHe]; exact hS
  refine pw_heap hHe ?_
  refine lv_aload_n hx hb dX9_edition_0 rfl (lv_at hl 0 rfl) ?_
  refine va_get (D := D) (ci := 9) (v := .ref a_now) (C := RX9) (T := TX9) (N := 14) hx hb hts (fun _ h => List.mem_cons_of_mem _ (List.mem_append_left _ (List.mem_append_right _ h))) hown hK hP 0 rfl rfl 1 (by decide) (hts (.fieldLink RX9 19 "LineCites" "now" "LLineCites$Work;") (List.mem_of_getElem? (i := 1) rfl)) (fun _ h9 => h9) rfl dX9_edition_1 ?_
  refine lv_iload_n hx hb dX9_edition_4 rfl (lv_at hl 1 rfl) ?_
  have hPc := hP.sub (ws' := [(a_now, .inr (8, [.ref b_sc, .ref b_sp, .ref b_cp, .ref b_sn, .ref b_sl, .int 0, .int 0, .int 0]))]) [1] rfl
  have hKc := hK.sub (tys' := []) [] rfl
  refine va_calli (va_runV (As := [.int i_0]) (rest := []) ⟨hx, hb, hml, hown, hts⟩ (c_X8_hasEdition l D a_now i_0 b_sc b_sp b_cp b_sn b_sl) (cwV 1 hts g_X9_edition_X8_hasEdition rfl rfl rfl (by decide +kernel) ⟨Nat.le_of_ble_eq_true rfl, Nat.le_of_ble_eq_true rfl⟩) ⟨fun a U g mk q => by obtain ⟨q0, qP, qK⟩ := q; exact ⟨q0, qP, va_K.moved (u := U) (U := U.calling g mk a) (Vm.Alike.refl U.vm) qK⟩, va_recv hKc hPc (ci := 8) (q0 := 0) rfl rfl, fun U hU hW => ⟨rfl, by rw [hU]; exact hPc, va_K.moved hW.alike hKc⟩⟩ rfl rfl hl.1 rfl (lv_room (Nat.le_of_ble_eq_true rfl)) dX9_edition_5 ⟨Nat.le_of_ble_eq_true rfl, Nat.le_of_ble_eq_true rfl⟩) hS (fun _ _ h => h.elim) (fun _ h => h.elim) (fun r1 u t H1 locs ht hvm hw hB hz1 hk1 hS => ?_)
  have hP := pw_keep hP (fun q hq => hk1 q hq (fun h => h))
  generalize H1 = H at hP hS ⊢
  refine W.widen (k := 0) (n := 0) (Nat.le_of_ble_eq_true rfl) (Nat.le_of_ble_eq_true rfl) ?_
  obtain rfl : r1 = 0 := hw
  refine lv_if_eq (tgt := 21) hx hb dX9_edition_8 (by decide) (fun c2 => ?_) (fun c2 => absurd (by decide) c2)
  refine lv_ldc hx hb hown (hts (.constant RX9 88 (-1000001)) (List.mem_of_getElem? (i := 8) rfl)) dX9_edition_21 ?_
  exact W.iret (v := (-1000001)) hx hb hr (fun t ht hW => ⟨⟨(-1000001), (), rfl, rfl, trivial⟩, hS.F ht⟩) hS.2.2 dX9_edition_23
def w_X9_number : List Cond := .code yX9_number cX9_number 4 (some .int) :: ([.fieldLink RX9 19 "LineCites" "now" "LLineCites$Work;", .methodLink RX9 138 yX8_hasEdition, .instanceMethod yX8_hasEdition, .selects RX8 yX8_hasEdition yX8_hasEdition, .initialized RX8, .code yX8_hasEdition cX8_hasEdition 2 (some .boolean), .fieldLink RX8 37 "LineCites$Work" "editions" "I", .constant RX9 88 (-1000001)] ++ wsX90 ++ wsX80)
set_option maxRecDepth 20000 in
theorem g_X9_number_X8_hasEdition : GoodIn w_X9_number (wsV RX9 138 RX8 yX8_hasEdition w_X8_hasEdition) := goodIn_r _ [2, 3, 4, 5, 6, 7, 23, 24, 25, 26, 27, 28, 29, 30] rfl (by decide +kernel)
set_option maxHeartbeats 4000000 in
set_option maxRecDepth 100000 in
theorem c_X9_number (l : Launch) (D : va_G) (h0 : Nat) (i_0 : Int32) (i_1 : Int32) (i_2 : Int32) (a_tape : Nat) (a_now : Nat) (a_draft : Nat) (a_reader : Nat) (a_acts : Nat) (a_images : Nat) (a_one : Nat) (a_other : Nat) (a_third : Nat) (a_spans : Nat) (a_back : Nat) (a_span : Nat) (a_middle : Nat) (a_reached : Nat) (b_sc : Nat) (b_sp : Nat) (b_cp : Nat) (b_sn : Nat) (b_sl : Nat) : Met l yX9_number w_X9_number ({ frames := 1, cells := 0, slots := 0, locals := 21 }) (va_Pc [.ref h0, .int i_0, .int i_1, .int i_2] (fun U => va_P D vwCl [(h0, .inr (9, [.ref a_tape, .ref a_now, .ref a_draft, .ref a_reader, .ref a_acts, .ref a_images, .ref a_one, .ref a_other, .ref a_third, .ref a_spans, .ref a_back, .ref a_span, .ref a_middle, .ref a_reached])), (a_now, .inr (8, [.ref b_sc, .ref b_sp, .ref b_cp, .ref b_sn, .ref b_sl, .int 0, .int 0, .int 0]))] U.heap ∧ va_K D vwCl [] U)) (va_Qi (fun (r : Int32) (_ : Unit) => r = (-1000001)) (fun _ _ => True) (fun _ => False)) 0 0 (fun _ => False) := by
  refine Met.ofW (cc := cX9_number) (maxL := 4) (ret := (some .int)) (by decide) rfl ?_
  intro p e s m args below meth c s₁ B hml hv
  obtain ⟨rfl, hP, hK⟩ := hv
  have hx := B.exec
  have hb := B.bytes
  have hr := B.returns
  have hts := atoms_spec (ws := w_X9_number) B.pre
  have hown : s.vm.findClass RX9 = some m.cls := findClass_of_methodNamed B.named
  have hlocks := B.notSynchronized
  have hS : va_S (fun _ : Nat => False) s.heap s.heap [] := va_S.rf
  have hP : va_P D vwCl [(h0, .inr (9, [.ref a_tape, .ref a_now, .ref a_draft, .ref a_reader, .ref a_acts, .ref a_images, .ref a_one, .ref a_other, .ref a_third, .ref a_spans, .ref a_back, .ref a_span, .ref a_middle, .ref a_reached])), (a_now, .inr (8, [.ref b_sc, .ref b_sp, .ref b_cp, .ref b_sn, .ref b_sl, .int 0, .int 0, .int 0]))] s.heap := hP
  have hl := lv_entry ([.ref h0, .int i_0, .int i_1, .int i_2]) (n := 4) (Nat.le_of_ble_eq_true rfl)
  rw [lg_entry_eq]
  generalize (lg_sl ([.ref h0, .int i_0, .int i_1, .int i_2]) ++ List.replicate (4 - (lg_sl ([.ref h0, .int i_0, .int i_1, .int i_2])).length) Slot.unset).toArray = ls at hl ⊢
  have hl : lv_has ls 4 [(0, .ref h0), (1, .int i_0), (2, .int i_1), (3, .int i_2)] := hl
  obtain ⟨H, hHe⟩ : ∃ H : Heap, H = s.heap := ⟨_, rfl⟩
  rw [← hHe] at hP
  have hS : va_S (fun _ : Nat => False) s.heap H [] := by rw [hHe]; exact hS
  refine pw_heap hHe ?_
  refine lv_aload_n hx hb dX9_number_0 rfl (lv_at hl 0 rfl) ?_
  refine va_get (D := D) (ci := 9) (v := .ref a_now) (C := RX9) (T := TX9) (N := 14) hx hb hts (fun _ h => List.mem_cons_of_mem _ (List.mem_append_left _ (List.mem_append_right _ h))) hown hK hP 0 rfl rfl 1 (by decide) (hts (.fieldLink RX9 19 "LineCites" "now" "LLineCites$Work;") (List.mem_of_getElem? (i := 1) rfl)) (fun _ h9 => h9) rfl dX9_number_1 ?_
  refine lv_iload_n hx hb dX9_number_4 rfl (lv_at hl 1 rfl) ?_
  have hPc := hP.sub (ws' := [(a_now, .inr (8, [.ref b_sc, .ref b_sp, .ref b_cp, .ref b_sn, .ref b_sl, .int 0, .int 0, .int 0]))]) [1] rfl
  have hKc := hK.sub (tys' := []) [] rfl
  refine va_calli (va_runV (As := [.int i_0]) (rest := []) ⟨hx, hb, hml, hown, hts⟩ (c_X8_hasEdition l D a_now i_0 b_sc b_sp b_cp b_sn b_sl) (cwV 1 hts g_X9_number_X8_hasEdition rfl rfl rfl (by decide +kernel) ⟨Nat.le_of_ble_eq_true rfl, Nat.le_of_ble_eq_true rfl⟩) ⟨fun a U g mk q => by obtain ⟨q0, qP, qK⟩ := q; exact ⟨q0, qP, va_K.moved (u := U) (U := U.calling g mk a) (Vm.Alike.refl U.vm) qK⟩, va_recv hKc hPc (ci := 8) (q0 := 0) rfl rfl, fun U hU hW => ⟨rfl, by rw [hU]; exact hPc, va_K.moved hW.alike hKc⟩⟩ rfl rfl hl.1 rfl (lv_room (Nat.le_of_ble_eq_true rfl)) dX9_number_5 ⟨Nat.le_of_ble_eq_true rfl, Nat.le_of_ble_eq_true rfl⟩) hS (fun _ _ h => h.elim) (fun _ h => h.elim) (fun r1 u t H1 locs ht hvm hw hB hz1 hk1 hS => ?_)
  have hP := pw_keep hP (fun q hq => hk1 q hq (fun h => h))
  generalize H1 = H at hP hS ⊢
  refine W.widen (k := 0) (n := 0) (Nat.le_of_ble_eq_true rfl) (Nat.le_of_ble_eq_true rfl) ?_
  obtain rfl : r1 = 0 := hw
  refine lv_if_eq (tgt := 31) hx hb dX9_number_8 (by decide) (fun c2 => ?_) (fun c2 => absurd (by decide) c2)
  refine lv_ldc hx hb hown (hts (.constant RX9 88 (-1000001)) (List.mem_of_getElem? (i := 8) rfl)) dX9_number_31 ?_
  exact W.iret (v := (-1000001)) hx hb hr (fun t ht hW => ⟨⟨(-1000001), (), rfl, rfl, trivial⟩, hS.F ht⟩) hS.2.2 dX9_number_33
def w_X9_meant : List Cond := .code yX9_meant cX9_meant 4 (some .int) :: ([.fieldLink RX9 19 "LineCites" "now" "LLineCites$Work;", .methodLink RX9 138 yX8_hasEdition, .instanceMethod yX8_hasEdition, .selects RX8 yX8_hasEdition yX8_hasEdition, .initialized RX8, .code yX8_hasEdition cX8_hasEdition 2 (some .boolean), .fieldLink RX8 37 "LineCites$Work" "editions" "I", .constant RX9 88 (-1000001)] ++ wsX90 ++ wsX80)
set_option maxRecDepth 20000 in
theorem g_X9_meant_X8_hasEdition : GoodIn w_X9_meant (wsV RX9 138 RX8 yX8_hasEdition w_X8_hasEdition) := goodIn_r _ [2, 3, 4, 5, 6, 7, 23, 24, 25, 26, 27, 28, 29, 30] rfl (by decide +kernel)
set_option maxHeartbeats 4000000 in
set_option maxRecDepth 100000 in
theorem c_X9_meant (l : Launch) (D : va_G) (h0 : Nat) (i_0 : Int32) (i_1 : Int32) (i_2 : Int32) (a_tape : Nat) (a_now : Nat) (a_draft : Nat) (a_reader : Nat) (a_acts : Nat) (a_images : Nat) (a_one : Nat) (a_other : Nat) (a_third : Nat) (a_spans : Nat) (a_back : Nat) (a_span : Nat) (a_middle : Nat) (a_reached : Nat) (b_sc : Nat) (b_sp : Nat) (b_cp : Nat) (b_sn : Nat) (b_sl : Nat) : Met l yX9_meant w_X9_meant ({ frames := 1, cells := 0, slots := 0, locals := 21 }) (va_Pc [.ref h0, .int i_0, .int i_1, .int i_2] (fun U => va_P D vwCl [(h0, .inr (9, [.ref a_tape, .ref a_now, .ref a_draft, .ref a_reader, .ref a_acts, .ref a_images, .ref a_one, .ref a_other, .ref a_third, .ref a_spans, .ref a_back, .ref a_span, .ref a_middle, .ref a_reached])), (a_now, .inr (8, [.ref b_sc, .ref b_sp, .ref b_cp, .ref b_sn, .ref b_sl, .int 0, .int 0, .int 0]))] U.heap ∧ va_K D vwCl [] U)) (va_Qi (fun (r : Int32) (_ : Unit) => r = (-1000001)) (fun _ _ => True) (fun _ => False)) 0 0 (fun _ => False) := by
  refine Met.ofW (cc := cX9_meant) (maxL := 4) (ret := (some .int)) (by decide) rfl ?_
  intro p e s m args below meth c s₁ B hml hv
  obtain ⟨rfl, hP, hK⟩ := hv
  have hx := B.exec
  have hb := B.bytes
  have hr := B.returns
  have hts := atoms_spec (ws := w_X9_meant) B.pre
  have hown : s.vm.findClass RX9 = some m.cls := findClass_of_methodNamed B.named
  have hlocks := B.notSynchronized
  have hS : va_S (fun _ : Nat => False) s.heap s.heap [] := va_S.rf
  have hP : va_P D vwCl [(h0, .inr (9, [.ref a_tape, .ref a_now, .ref a_draft, .ref a_reader, .ref a_acts, .ref a_images, .ref a_one, .ref a_other, .ref a_third, .ref a_spans, .ref a_back, .ref a_span, .ref a_middle, .ref a_reached])), (a_now, .inr (8, [.ref b_sc, .ref b_sp, .ref b_cp, .ref b_sn, .ref b_sl, .int 0, .int 0, .int 0]))] s.heap := hP
  have hl := lv_entry ([.ref h0, .int i_0, .int i_1, .int i_2]) (n := 4) (Nat.le_of_ble_eq_true rfl)
  rw [lg_entry_eq]
  generalize (lg_sl ([.ref h0, .int i_0, .int i_1, .int i_2]) ++ List.replicate (4 - (lg_sl ([.ref h0, .int i_0, .int i_1, .int i_2])).length) Slot.unset).toArray = ls at hl ⊢
  have hl : lv_has ls 4 [(0, .ref h0), (1, .int i_0), (2, .int i_1), (3, .int i_2)] := hl
  obtain ⟨H, hHe⟩ : ∃ H : Heap, H = s.heap := ⟨_, rfl⟩
  rw [← hHe] at hP
  have hS : va_S (fun _ : Nat => False) s.heap H [] := by rw [hHe]; exact hS
  refine pw_heap hHe ?_
  refine lv_aload_n hx hb dX9_meant_0 rfl (lv_at hl 0 rfl) ?_
  refine va_get (D := D) (ci := 9) (v := .ref a_now) (C := RX9) (T := TX9) (N := 14) hx hb hts (fun _ h => List.mem_cons_of_mem _ (List.mem_append_left _ (List.mem_append_right _ h))) hown hK hP 0 rfl rfl 1 (by decide) (hts (.fieldLink RX9 19 "LineCites" "now" "LLineCites$Work;") (List.mem_of_getElem? (i := 1) rfl)) (fun _ h9 => h9) rfl dX9_meant_1 ?_
  refine lv_iload_n hx hb dX9_meant_4 rfl (lv_at hl 1 rfl) ?_
  have hPc := hP.sub (ws' := [(a_now, .inr (8, [.ref b_sc, .ref b_sp, .ref b_cp, .ref b_sn, .ref b_sl, .int 0, .int 0, .int 0]))]) [1] rfl
  have hKc := hK.sub (tys' := []) [] rfl
  refine va_calli (va_runV (As := [.int i_0]) (rest := []) ⟨hx, hb, hml, hown, hts⟩ (c_X8_hasEdition l D a_now i_0 b_sc b_sp b_cp b_sn b_sl) (cwV 1 hts g_X9_meant_X8_hasEdition rfl rfl rfl (by decide +kernel) ⟨Nat.le_of_ble_eq_true rfl, Nat.le_of_ble_eq_true rfl⟩) ⟨fun a U g mk q => by obtain ⟨q0, qP, qK⟩ := q; exact ⟨q0, qP, va_K.moved (u := U) (U := U.calling g mk a) (Vm.Alike.refl U.vm) qK⟩, va_recv hKc hPc (ci := 8) (q0 := 0) rfl rfl, fun U hU hW => ⟨rfl, by rw [hU]; exact hPc, va_K.moved hW.alike hKc⟩⟩ rfl rfl hl.1 rfl (lv_room (Nat.le_of_ble_eq_true rfl)) dX9_meant_5 ⟨Nat.le_of_ble_eq_true rfl, Nat.le_of_ble_eq_true rfl⟩) hS (fun _ _ h => h.elim) (fun _ h => h.elim) (fun r1 u t H1 locs ht hvm hw hB hz1 hk1 hS => ?_)
  have hP := pw_keep hP (fun q hq => hk1 q hq (fun h => h))
  generalize H1 = H at hP hS ⊢
  refine W.widen (k := 0) (n := 0) (Nat.le_of_ble_eq_true rfl) (Nat.le_of_ble_eq_true rfl) ?_
  obtain rfl : r1 = 0 := hw
  refine lv_if_eq (tgt := 18) hx hb dX9_meant_8 (by decide) (fun c2 => ?_) (fun c2 => absurd (by decide) c2)
  refine lv_ldc hx hb hown (hts (.constant RX9 88 (-1000001)) (List.mem_of_getElem? (i := 8) rfl)) dX9_meant_18 ?_
  exact W.iret (v := (-1000001)) hx hb hr (fun t ht hW => ⟨⟨(-1000001), (), rfl, rfl, trivial⟩, hS.F ht⟩) hS.2.2 dX9_meant_20
def w_X9_left : List Cond := .code yX9_left cX9_left 6 (some .int) :: ([.fieldLink RX9 19 "LineCites" "now" "LLineCites$Work;", .methodLink RX9 138 yX8_hasEdition, .instanceMethod yX8_hasEdition, .selects RX8 yX8_hasEdition yX8_hasEdition, .initialized RX8, .code yX8_hasEdition cX8_hasEdition 2 (some .boolean), .fieldLink RX8 37 "LineCites$Work" "editions" "I", .constant RX9 88 (-1000001)] ++ wsX90 ++ wsX80)
set_option maxRecDepth 20000 in
theorem g_X9_left_X8_hasEdition : GoodIn w_X9_left (wsV RX9 138 RX8 yX8_hasEdition w_X8_hasEdition) := goodIn_r _ [2, 3, 4, 5, 6, 7, 23, 24, 25, 26, 27, 28, 29, 30] rfl (by decide +kernel)
set_option maxHeartbeats 4000000 in
set_option maxRecDepth 100000 in
theorem c_X9_left (l : Launch) (D : va_G) (h0 : Nat) (i_0 : Int32) (i_1 : Int32) (i_2 : Int32) (a_tape : Nat) (a_now : Nat) (a_draft : Nat) (a_reader : Nat) (a_acts : Nat) (a_images : Nat) (a_one : Nat) (a_other : Nat) (a_third : Nat) (a_spans : Nat) (a_back : Nat) (a_span : Nat) (a_middle : Nat) (a_reached : Nat) (b_sc : Nat) (b_sp : Nat) (b_cp : Nat) (b_sn : Nat) (b_sl : Nat) : Met l yX9_left w_X9_left ({ frames := 1, cells := 0, slots := 0, locals := 21 }) (va_Pc [.ref h0, .int i_0, .int i_1, .int i_2] (fun U => va_P D vwCl [(h0, .inr (9, [.ref a_tape, .ref a_now, .ref a_draft, .ref a_reader, .ref a_acts, .ref a_images, .ref a_one, .ref a_other, .ref a_third, .ref a_spans, .ref a_back, .ref a_span, .ref a_middle, .ref a_reached])), (a_now, .inr (8, [.ref b_sc, .ref b_sp, .ref b_cp, .ref b_sn, .ref b_sl, .int 0, .int 0, .int 0]))] U.heap ∧ va_K D vwCl [] U)) (va_Qi (fun (r : Int32) (_ : Unit) => r = (-1000001)) (fun _ _ => True) (fun _ => False)) 0 0 (fun _ => False) := by
  refine Met.ofW (cc := cX9_left) (maxL := 6) (ret := (some .int)) (by decide) rfl ?_
  intro p e s m args below meth c s₁ B hml hv
  obtain ⟨rfl, hP, hK⟩ := hv
  have hx := B.exec
  have hb := B.bytes
  have hr := B.returns
  have hts := atoms_spec (ws := w_X9_left) B.pre
  have hown : s.vm.findClass RX9 = some m.cls := findClass_of_methodNamed B.named
  have hlocks := B.notSynchronized
  have hS : va_S (fun _ : Nat => False) s.heap s.heap [] := va_S.rf
  have hP : va_P D vwCl [(h0, .inr (9, [.ref a_tape, .ref a_now, .ref a_draft, .ref a_reader, .ref a_acts, .ref a_images, .ref a_one, .ref a_other, .ref a_third, .ref a_spans, .ref a_back, .ref a_span, .ref a_middle, .ref a_reached])), (a_now, .inr (8, [.ref b_sc, .ref b_sp, .ref b_cp, .ref b_sn, .ref b_sl, .int 0, .int 0, .int 0]))] s.heap := hP
  have hl := lv_entry ([.ref h0, .int i_0, .int i_1, .int i_2]) (n := 6) (Nat.le_of_ble_eq_true rfl)
  rw [lg_entry_eq]
  generalize (lg_sl ([.ref h0, .int i_0, .int i_1, .int i_2]) ++ List.replicate (6 - (lg_sl ([.ref h0, .int i_0, .int i_1, .int i_2])).length) Slot.unset).toArray = ls at hl ⊢
  have hl : lv_has ls 6 [(0, .ref h0), (1, .int i_0), (2, .int i_1), (3, .int i_2)] := hl
  obtain ⟨H, hHe⟩ : ∃ H : Heap, H = s.heap := ⟨_, rfl⟩
  rw [← hHe] at hP
  have hS : va_S (fun _ : Nat => False) s.heap H [] := by rw [hHe]; exact hS
  refine pw_heap hHe ?_
  refine lv_aload_n hx hb dX9_left_0 rfl (lv_at hl 0 rfl) ?_
  refine va_get (D := D) (ci := 9) (v := .ref a_now) (C := RX9) (T := TX9) (N := 14) hx hb hts (fun _ h => List.mem_cons_of_mem _ (List.mem_append_left _ (List.mem_append_right _ h))) hown hK hP 0 rfl rfl 1 (by decide) (hts (.fieldLink RX9 19 "LineCites" "now" "LLineCites$Work;") (List.mem_of_getElem? (i := 1) rfl)) (fun _ h9 => h9) rfl dX9_left_1 ?_
  refine lv_iload_n hx hb dX9_left_4 rfl (lv_at hl 1 rfl) ?_
  have hPc := hP.sub (ws' := [(a_now, .inr (8, [.ref b_sc, .ref b_sp, .ref b_cp, .ref b_sn, .ref b_sl, .int 0, .int 0, .int 0]))]) [1] rfl
  have hKc := hK.sub (tys' := []) [] rfl
  refine va_calli (va_runV (As := [.int i_0]) (rest := []) ⟨hx, hb, hml, hown, hts⟩ (c_X8_hasEdition l D a_now i_0 b_sc b_sp b_cp b_sn b_sl) (cwV 1 hts g_X9_left_X8_hasEdition rfl rfl rfl (by decide +kernel) ⟨Nat.le_of_ble_eq_true rfl, Nat.le_of_ble_eq_true rfl⟩) ⟨fun a U g mk q => by obtain ⟨q0, qP, qK⟩ := q; exact ⟨q0, qP, va_K.moved (u := U) (U := U.calling g mk a) (Vm.Alike.refl U.vm) qK⟩, va_recv hKc hPc (ci := 8) (q0 := 0) rfl rfl, fun U hU hW => ⟨rfl, by rw [hU]; exact hPc, va_K.moved hW.alike hKc⟩⟩ rfl rfl hl.1 rfl (lv_room (Nat.le_of_ble_eq_true rfl)) dX9_left_5 ⟨Nat.le_of_ble_eq_true rfl, Nat.le_of_ble_eq_true rfl⟩) hS (fun _ _ h => h.elim) (fun _ h => h.elim) (fun r1 u t H1 locs ht hvm hw hB hz1 hk1 hS => ?_)
  have hP := pw_keep hP (fun q hq => hk1 q hq (fun h => h))
  generalize H1 = H at hP hS ⊢
  refine W.widen (k := 0) (n := 0) (Nat.le_of_ble_eq_true rfl) (Nat.le_of_ble_eq_true rfl) ?_
  obtain rfl : r1 = 0 := hw
  refine lv_if_eq (tgt := 24) hx hb dX9_left_8 (by decide) (fun c2 => ?_) (fun c2 => absurd (by decide) c2)
  refine lv_ldc hx hb hown (hts (.constant RX9 88 (-1000001)) (List.mem_of_getElem? (i := 8) rfl)) dX9_left_24 ?_
  exact W.iret (v := (-1000001)) hx hb hr (fun t ht hW => ⟨⟨(-1000001), (), rfl, rfl, trivial⟩, hS.F ht⟩) hS.2.2 dX9_left_26
def w_X9_in : List Cond := .code yX9_in cX9_in 5 (some .int) :: ([.fieldLink RX9 19 "LineCites" "now" "LLineCites$Work;", .methodLink RX9 138 yX8_hasEdition, .instanceMethod yX8_hasEdition, .selects RX8 yX8_hasEdition yX8_hasEdition, .initialized RX8, .code yX8_hasEdition cX8_hasEdition 2 (some .boolean), .fieldLink RX8 37 "LineCites$Work" "editions" "I", .constant RX9 88 (-1000001)] ++ wsX90 ++ wsX80)
set_option maxRecDepth 20000 in
theorem g_X9_in_X8_hasEdition : GoodIn w_X9_in (wsV RX9 138 RX8 yX8_hasEdition w_X8_hasEdition) := goodIn_r _ [2, 3, 4, 5, 6, 7, 23, 24, 25, 26, 27, 28, 29, 30] rfl (by decide +kernel)
set_option maxHeartbeats 4000000 in
set_option maxRecDepth 100000 in
theorem c_X9_in (l : Launch) (D : va_G) (h0 : Nat) (i_0 : Int32) (i_1 : Int32) (i_2 : Int32) (i_3 : Int32) (a_tape : Nat) (a_now : Nat) (a_draft : Nat) (a_reader : Nat) (a_acts : Nat) (a_images : Nat) (a_one : Nat) (a_other : Nat) (a_third : Nat) (a_spans : Nat) (a_back : Nat) (a_span : Nat) (a_middle : Nat) (a_reached : Nat) (b_sc : Nat) (b_sp : Nat) (b_cp : Nat) (b_sn : Nat) (b_sl : Nat) : Met l yX9_in w_X9_in ({ frames := 1, cells := 0, slots := 0, locals := 21 }) (va_Pc [.ref h0, .int i_0, .int i_1, .int i_2, .int i_3] (fun U => va_P D vwCl [(h0, .inr (9, [.ref a_tape, .ref a_now, .ref a_draft, .ref a_reader, .ref a_acts, .ref a_images, .ref a_one, .ref a_other, .ref a_third, .ref a_spans, .ref a_back, .ref a_span, .ref a_middle, .ref a_reached])), (a_now, .inr (8, [.ref b_sc, .ref b_sp, .ref b_cp, .ref b_sn, .ref b_sl, .int 0, .int 0, .int 0]))] U.heap ∧ va_K D vwCl [] U)) (va_Qi (fun (r : Int32) (_ : Unit) => r = (-1000001)) (fun _ _ => True) (fun _ => False)) 0 0 (fun _ => False) := by
  refine Met.ofW (cc := cX9_in) (maxL := 5) (ret := (some .int)) (by decide) rfl ?_
  intro p e s m args below meth c s₁ B hml hv
  obtain ⟨rfl, hP, hK⟩ := hv
  have hx := B.exec
  have hb := B.bytes
  have hr := B.returns
  have hts := atoms_spec (ws := w_X9_in) B.pre
  have hown : s.vm.findClass RX9 = some m.cls := findClass_of_methodNamed B.named
  have hlocks := B.notSynchronized
  have hS : va_S (fun _ : Nat => False) s.heap s.heap [] := va_S.rf
  have hP : va_P D vwCl [(h0, .inr (9, [.ref a_tape, .ref a_now, .ref a_draft, .ref a_reader, .ref a_acts, .ref a_images, .ref a_one, .ref a_other, .ref a_third, .ref a_spans, .ref a_back, .ref a_span, .ref a_middle, .ref a_reached])), (a_now, .inr (8, [.ref b_sc, .ref b_sp, .ref b_cp, .ref b_sn, .ref b_sl, .int 0, .int 0, .int 0]))] s.heap := hP
  have hl := lv_entry ([.ref h0, .int i_0, .int i_1, .int i_2, .int i_3]) (n := 5) (Nat.le_of_ble_eq_true rfl)
  rw [lg_entry_eq]
  generalize (lg_sl ([.ref h0, .int i_0, .int i_1, .int i_2, .int i_3]) ++ List.replicate (5 - (lg_sl ([.ref h0, .int i_0, .int i_1, .int i_2, .int i_3])).length) Slot.unset).toArray = ls at hl ⊢
  have hl : lv_has ls 5 [(0, .ref h0), (1, .int i_0), (2, .int i_1), (3, .int i_2), (4, .int i_3)] := hl
  obtain ⟨H, hHe⟩ : ∃ H : Heap, H = s.heap := ⟨_, rfl⟩
  rw [← hHe] at hP
  have hS : va_S (fun _ : Nat => False) s.heap H [] := by rw [hHe]; exact hS
  refine pw_heap hHe ?_
  refine lv_aload_n hx hb dX9_in_0 rfl (lv_at hl 0 rfl) ?_
  refine va_get (D := D) (ci := 9) (v := .ref a_now) (C := RX9) (T := TX9) (N := 14) hx hb hts (fun _ h => List.mem_cons_of_mem _ (List.mem_append_left _ (List.mem_append_right _ h))) hown hK hP 0 rfl rfl 1 (by decide) (hts (.fieldLink RX9 19 "LineCites" "now" "LLineCites$Work;") (List.mem_of_getElem? (i := 1) rfl)) (fun _ h9 => h9) rfl dX9_in_1 ?_
  refine lv_iload_n hx hb dX9_in_4 rfl (lv_at hl 1 rfl) ?_
  have hPc := hP.sub (ws' := [(a_now, .inr (8, [.ref b_sc, .ref b_sp, .ref b_cp, .ref b_sn, .ref b_sl, .int 0, .int 0, .int 0]))]) [1] rfl
  have hKc := hK.sub (tys' := []) [] rfl
  refine va_calli (va_runV (As := [.int i_0]) (rest := []) ⟨hx, hb, hml, hown, hts⟩ (c_X8_hasEdition l D a_now i_0 b_sc b_sp b_cp b_sn b_sl) (cwV 1 hts g_X9_in_X8_hasEdition rfl rfl rfl (by decide +kernel) ⟨Nat.le_of_ble_eq_true rfl, Nat.le_of_ble_eq_true rfl⟩) ⟨fun a U g mk q => by obtain ⟨q0, qP, qK⟩ := q; exact ⟨q0, qP, va_K.moved (u := U) (U := U.calling g mk a) (Vm.Alike.refl U.vm) qK⟩, va_recv hKc hPc (ci := 8) (q0 := 0) rfl rfl, fun U hU hW => ⟨rfl, by rw [hU]; exact hPc, va_K.moved hW.alike hKc⟩⟩ rfl rfl hl.1 rfl (lv_room (Nat.le_of_ble_eq_true rfl)) dX9_in_5 ⟨Nat.le_of_ble_eq_true rfl, Nat.le_of_ble_eq_true rfl⟩) hS (fun _ _ h => h.elim) (fun _ h => h.elim) (fun r1 u t H1 locs ht hvm hw hB hz1 hk1 hS => ?_)
  have hP := pw_keep hP (fun q hq => hk1 q hq (fun h => h))
  generalize H1 = H at hP hS ⊢
  refine W.widen (k := 0) (n := 0) (Nat.le_of_ble_eq_true rfl) (Nat.le_of_ble_eq_true rfl) ?_
  obtain rfl : r1 = 0 := hw
  refine lv_if_eq (tgt := 29) hx hb dX9_in_8 (by decide) (fun c2 => ?_) (fun c2 => absurd (by decide) c2)
  refine lv_ldc hx hb hown (hts (.constant RX9 88 (-1000001)) (List.mem_of_getElem? (i := 8) rfl)) dX9_in_29 ?_
  exact W.iret (v := (-1000001)) hx hb hr (fun t ht hW => ⟨⟨(-1000001), (), rfl, rfl, trivial⟩, hS.F ht⟩) hS.2.2 dX9_in_31
def w_X9_through : List Cond := .code yX9_through cX9_through 6 (some .int) :: ([.fieldLink RX9 19 "LineCites" "now" "LLineCites$Work;", .methodLink RX9 138 yX8_hasEdition, .instanceMethod yX8_hasEdition, .selects RX8 yX8_hasEdition yX8_hasEdition, .initialized RX8, .code yX8_hasEdition cX8_hasEdition 2 (some .boolean), .fieldLink RX8 37 "LineCites$Work" "editions" "I", .constant RX9 88 (-1000001)] ++ wsX90 ++ wsX80)
set_option maxRecDepth 20000 in
theorem g_X9_through_X8_hasEdition : GoodIn w_X9_through (wsV RX9 138 RX8 yX8_hasEdition w_X8_hasEdition) := goodIn_r _ [2, 3, 4, 5, 6, 7, 23, 24, 25, 26, 27, 28, 29, 30] rfl (by decide +kernel)
set_option maxHeartbeats 4000000 in
set_option maxRecDepth 100000 in
theorem c_X9_through (l : Launch) (D : va_G) (h0 : Nat) (i_0 : Int32) (i_1 : Int32) (i_2 : Int32) (i_3 : Int32) (i_4 : Int32) (a_tape : Nat) (a_now : Nat) (a_draft : Nat) (a_reader : Nat) (a_acts : Nat) (a_images : Nat) (a_one : Nat) (a_other : Nat) (a_third : Nat) (a_spans : Nat) (a_back : Nat) (a_span : Nat) (a_middle : Nat) (a_reached : Nat) (b_sc : Nat) (b_sp : Nat) (b_cp : Nat) (b_sn : Nat) (b_sl : Nat) : Met l yX9_through w_X9_through ({ frames := 1, cells := 0, slots := 0, locals := 21 }) (va_Pc [.ref h0, .int i_0, .int i_1, .int i_2, .int i_3, .int i_4] (fun U => va_P D vwCl [(h0, .inr (9, [.ref a_tape, .ref a_now, .ref a_draft, .ref a_reader, .ref a_acts, .ref a_images, .ref a_one, .ref a_other, .ref a_third, .ref a_spans, .ref a_back, .ref a_span, .ref a_middle, .ref a_reached])), (a_now, .inr (8, [.ref b_sc, .ref b_sp, .ref b_cp, .ref b_sn, .ref b_sl, .int 0, .int 0, .int 0]))] U.heap ∧ va_K D vwCl [] U)) (va_Qi (fun (r : Int32) (_ : Unit) => r = (-1000001)) (fun _ _ => True) (fun _ => False)) 0 0 (fun _ => False) := by
  refine Met.ofW (cc := cX9_through) (maxL := 6) (ret := (some .int)) (by decide) rfl ?_
  intro p e s m args below meth c s₁ B hml hv
  obtain ⟨rfl, hP, hK⟩ := hv
  have hx := B.exec
  have hb := B.bytes
  have hr := B.returns
  have hts := atoms_spec (ws := w_X9_through) B.pre
  have hown : s.vm.findClass RX9 = some m.cls := findClass_of_methodNamed B.named
  have hlocks := B.notSynchronized
  have hS : va_S (fun _ : Nat => False) s.heap s.heap [] := va_S.rf
  have hP : va_P D vwCl [(h0, .inr (9, [.ref a_tape, .ref a_now, .ref a_draft, .ref a_reader, .ref a_acts, .ref a_images, .ref a_one, .ref a_other, .ref a_third, .ref a_spans, .ref a_back, .ref a_span, .ref a_middle, .ref a_reached])), (a_now, .inr (8, [.ref b_sc, .ref b_sp, .ref b_cp, .ref b_sn, .ref b_sl, .int 0, .int 0, .int 0]))] s.heap := hP
  have hl := lv_entry ([.ref h0, .int i_0, .int i_1, .int i_2, .int i_3, .int i_4]) (n := 6) (Nat.le_of_ble_eq_true rfl)
  rw [lg_entry_eq]
  generalize (lg_sl ([.ref h0, .int i_0, .int i_1, .int i_2, .int i_3, .int i_4]) ++ List.replicate (6 - (lg_sl ([.ref h0, .int i_0, .int i_1, .int i_2, .int i_3, .int i_4])).length) Slot.unset).toArray = ls at hl ⊢
  have hl : lv_has ls 6 [(0, .ref h0), (1, .int i_0), (2, .int i_1), (3, .int i_2), (4, .int i_3), (5, .int i_4)] := hl
  obtain ⟨H, hHe⟩ : ∃ H : Heap, H = s.heap := ⟨_, rfl⟩
  rw [← hHe] at hP
  have hS : va_S (fun _ : Nat => False) s.heap H [] := by rw [hHe]; exact hS
  refine pw_heap hHe ?_
  refine lv_aload_n hx hb dX9_through_0 rfl (lv_at hl 0 rfl) ?_
  refine va_get (D := D) (ci := 9) (v := .ref a_now) (C := RX9) (T := TX9) (N := 14) hx hb hts (fun _ h => List.mem_cons_of_mem _ (List.mem_append_left _ (List.mem_append_right _ h))) hown hK hP 0 rfl rfl 1 (by decide) (hts (.fieldLink RX9 19 "LineCites" "now" "LLineCites$Work;") (List.mem_of_getElem? (i := 1) rfl)) (fun _ h9 => h9) rfl dX9_through_1 ?_
  refine lv_iload_n hx hb dX9_through_4 rfl (lv_at hl 1 rfl) ?_
  have hPc := hP.sub (ws' := [(a_now, .inr (8, [.ref b_sc, .ref b_sp, .ref b_cp, .ref b_sn, .ref b_sl, .int 0, .int 0, .int 0]))]) [1] rfl
  have hKc := hK.sub (tys' := []) [] rfl
  refine va_calli (va_runV (As := [.int i_0]) (rest := []) ⟨hx, hb, hml, hown, hts⟩ (c_X8_hasEdition l D a_now i_0 b_sc b_sp b_cp b_sn b_sl) (cwV 1 hts g_X9_through_X8_hasEdition rfl rfl rfl (by decide +kernel) ⟨Nat.le_of_ble_eq_true rfl, Nat.le_of_ble_eq_true rfl⟩) ⟨fun a U g mk q => by obtain ⟨q0, qP, qK⟩ := q; exact ⟨q0, qP, va_K.moved (u := U) (U := U.calling g mk a) (Vm.Alike.refl U.vm) qK⟩, va_recv hKc hPc (ci := 8) (q0 := 0) rfl rfl, fun U hU hW => ⟨rfl, by rw [hU]; exact hPc, va_K.moved hW.alike hKc⟩⟩ rfl rfl hl.1 rfl (lv_room (Nat.le_of_ble_eq_true rfl)) dX9_through_5 ⟨Nat.le_of_ble_eq_true rfl, Nat.le_of_ble_eq_true rfl⟩) hS (fun _ _ h => h.elim) (fun _ h => h.elim) (fun r1 u t H1 locs ht hvm hw hB hz1 hk1 hS => ?_)
  have hP := pw_keep hP (fun q hq => hk1 q hq (fun h => h))
  generalize H1 = H at hP hS ⊢
  refine W.widen (k := 0) (n := 0) (Nat.le_of_ble_eq_true rfl) (Nat.le_of_ble_eq_true rfl) ?_
  obtain rfl : r1 = 0 := hw
  refine lv_if_eq (tgt := 34) hx hb dX9_through_8 (by decide) (fun c2 => ?_) (fun c2 => absurd (by decide) c2)
  refine lv_ldc hx hb hown (hts (.constant RX9 88 (-1000001)) (List.mem_of_getElem? (i := 8) rfl)) dX9_through_34 ?_
  exact W.iret (v := (-1000001)) hx hb hr (fun t ht hW => ⟨⟨(-1000001), (), rfl, rfl, trivial⟩, hS.F ht⟩) hS.2.2 dX9_through_36
def w_X9_shift : List Cond := .code yX9_shift cX9_shift 7 (some .int) :: ([.fieldLink RX9 19 "LineCites" "now" "LLineCites$Work;", .methodLink RX9 138 yX8_hasEdition, .instanceMethod yX8_hasEdition, .selects RX8 yX8_hasEdition yX8_hasEdition, .initialized RX8, .code yX8_hasEdition cX8_hasEdition 2 (some .boolean), .fieldLink RX8 37 "LineCites$Work" "editions" "I", .constant RX9 88 (-1000001)] ++ wsX90 ++ wsX80)
set_option maxRecDepth 20000 in
theorem g_X9_shift_X8_hasEdition : GoodIn w_X9_shift (wsV RX9 138 RX8 yX8_hasEdition w_X8_hasEdition) := goodIn_r _ [2, 3, 4, 5, 6, 7, 23, 24, 25, 26, 27, 28, 29, 30] rfl (by decide +kernel)
set_option maxHeartbeats 4000000 in
set_option maxRecDepth 100000 in
theorem c_X9_shift (l : Launch) (D : va_G) (h0 : Nat) (i_0 : Int32) (i_1 : Int32) (i_2 : Int32) (i_3 : Int32) (a_tape : Nat) (a_now : Nat) (a_draft : Nat) (a_reader : Nat) (a_acts : Nat) (a_images : Nat) (a_one : Nat) (a_other : Nat) (a_third : Nat) (a_spans : Nat) (a_back : Nat) (a_span : Nat) (a_middle : Nat) (a_reached : Nat) (b_sc : Nat) (b_sp : Nat) (b_cp : Nat) (b_sn : Nat) (b_sl : Nat) : Met l yX9_shift w_X9_shift ({ frames := 1, cells := 0, slots := 0, locals := 21 }) (va_Pc [.ref h0, .int i_0, .int i_1, .int i_2, .int i_3] (fun U => va_P D vwCl [(h0, .inr (9, [.ref a_tape, .ref a_now, .ref a_draft, .ref a_reader, .ref a_acts, .ref a_images, .ref a_one, .ref a_other, .ref a_third, .ref a_spans, .ref a_back, .ref a_span, .ref a_middle, .ref a_reached])), (a_now, .inr (8, [.ref b_sc, .ref b_sp, .ref b_cp, .ref b_sn, .ref b_sl, .int 0, .int 0, .int 0]))] U.heap ∧ va_K D vwCl [] U)) (va_Qi (fun (r : Int32) (_ : Unit) => r = (-1000001)) (fun _ _ => True) (fun _ => False)) 0 0 (fun _ => False) := by
  refine Met.ofW (cc := cX9_shift) (maxL := 7) (ret := (some .int)) (by decide) rfl ?_
  intro p e s m args below meth c s₁ B hml hv
  obtain ⟨rfl, hP, hK⟩ := hv
  have hx := B.exec
  have hb := B.bytes
  have hr := B.returns
  have hts := atoms_spec (ws := w_X9_shift) B.pre
  have hown : s.vm.findClass RX9 = some m.cls := findClass_of_methodNamed B.named
  have hlocks := B.notSynchronized
  have hS : va_S (fun _ : Nat => False) s.heap s.heap [] := va_S.rf
  have hP : va_P D vwCl [(h0, .inr (9, [.ref a_tape, .ref a_now, .ref a_draft, .ref a_reader, .ref a_acts, .ref a_images, .ref a_one, .ref a_other, .ref a_third, .ref a_spans, .ref a_back, .ref a_span, .ref a_middle, .ref a_reached])), (a_now, .inr (8, [.ref b_sc, .ref b_sp, .ref b_cp, .ref b_sn, .ref b_sl, .int 0, .int 0, .int 0]))] s.heap := hP
  have hl := lv_entry ([.ref h0, .int i_0, .int i_1, .int i_2, .int i_3]) (n := 7) (Nat.le_of_ble_eq_true rfl)
  rw [lg_entry_eq]
  generalize (lg_sl ([.ref h0, .int i_0, .int i_1, .int i_2, .int i_3]) ++ List.replicate (7 - (lg_sl ([.ref h0, .int i_0, .int i_1, .int i_2, .int i_3])).length) Slot.unset).toArray = ls at hl ⊢
  have hl : lv_has ls 7 [(0, .ref h0), (1, .int i_0), (2, .int i_1), (3, .int i_2), (4, .int i_3)] := hl
  obtain ⟨H, hHe⟩ : ∃ H : Heap, H = s.heap := ⟨_, rfl⟩
  rw [← hHe] at hP
  have hS : va_S (fun _ : Nat => False) s.heap H [] := by rw [hHe]; exact hS
  refine pw_heap hHe ?_
  refine lv_aload_n hx hb dX9_shift_0 rfl (lv_at hl 0 rfl) ?_
  refine va_get (D := D) (ci := 9) (v := .ref a_now) (C := RX9) (T := TX9) (N := 14) hx hb hts (fun _ h => List.mem_cons_of_mem _ (List.mem_append_left _ (List.mem_append_right _ h))) hown hK hP 0 rfl rfl 1 (by decide) (hts (.fieldLink RX9 19 "LineCites" "now" "LLineCites$Work;") (List.mem_of_getElem? (i := 1) rfl)) (fun _ h9 => h9) rfl dX9_shift_1 ?_
  refine lv_iload_n hx hb dX9_shift_4 rfl (lv_at hl 1 rfl) ?_
  have hPc := hP.sub (ws' := [(a_now, .inr (8, [.ref b_sc, .ref b_sp, .ref b_cp, .ref b_sn, .ref b_sl, .int 0, .int 0, .int 0]))]) [1] rfl
  have hKc := hK.sub (tys' := []) [] rfl
  refine va_calli (va_runV (As := [.int i_0]) (rest := []) ⟨hx, hb, hml, hown, hts⟩ (c_X8_hasEdition l D a_now i_0 b_sc b_sp b_cp b_sn b_sl) (cwV 1 hts g_X9_shift_X8_hasEdition rfl rfl rfl (by decide +kernel) ⟨Nat.le_of_ble_eq_true rfl, Nat.le_of_ble_eq_true rfl⟩) ⟨fun a U g mk q => by obtain ⟨q0, qP, qK⟩ := q; exact ⟨q0, qP, va_K.moved (u := U) (U := U.calling g mk a) (Vm.Alike.refl U.vm) qK⟩, va_recv hKc hPc (ci := 8) (q0 := 0) rfl rfl, fun U hU hW => ⟨rfl, by rw [hU]; exact hPc, va_K.moved hW.alike hKc⟩⟩ rfl rfl hl.1 rfl (lv_room (Nat.le_of_ble_eq_true rfl)) dX9_shift_5 ⟨Nat.le_of_ble_eq_true rfl, Nat.le_of_ble_eq_true rfl⟩) hS (fun _ _ h => h.elim) (fun _ h => h.elim) (fun r1 u t H1 locs ht hvm hw hB hz1 hk1 hS => ?_)
  have hP := pw_keep hP (fun q hq => hk1 q hq (fun h => h))
  generalize H1 = H at hP hS ⊢
  refine W.widen (k := 0) (n := 0) (Nat.le_of_ble_eq_true rfl) (Nat.le_of_ble_eq_true rfl) ?_
  obtain rfl : r1 = 0 := hw
  refine lv_if_eq (tgt := 27) hx hb dX9_shift_8 (by decide) (fun c2 => ?_) (fun c2 => absurd (by decide) c2)
  refine lv_ldc hx hb hown (hts (.constant RX9 88 (-1000001)) (List.mem_of_getElem? (i := 8) rfl)) dX9_shift_27 ?_
  exact W.iret (v := (-1000001)) hx hb hr (fun t ht hW => ⟨⟨(-1000001), (), rfl, rfl, trivial⟩, hS.F ht⟩) hS.2.2 dX9_shift_29
def w_X9_table : List Cond := .code yX9_table cX9_table 5 (some .int) :: ([.fieldLink RX9 19 "LineCites" "now" "LLineCites$Work;", .methodLink RX9 138 yX8_hasEdition, .instanceMethod yX8_hasEdition, .selects RX8 yX8_hasEdition yX8_hasEdition, .initialized RX8, .code yX8_hasEdition cX8_hasEdition 2 (some .boolean), .fieldLink RX8 37 "LineCites$Work" "editions" "I", .constant RX9 88 (-1000001)] ++ wsX90 ++ wsX80)
set_option maxRecDepth 20000 in
theorem g_X9_table_X8_hasEdition : GoodIn w_X9_table (wsV RX9 138 RX8 yX8_hasEdition w_X8_hasEdition) := goodIn_r _ [2, 3, 4, 5, 6, 7, 23, 24, 25, 26, 27, 28, 29, 30] rfl (by decide +kernel)
set_option maxHeartbeats 4000000 in
set_option maxRecDepth 100000 in
theorem c_X9_table (l : Launch) (D : va_G) (h0 : Nat) (i_0 : Int32) (i_1 : Int32) (i_2 : Int32) (a_tape : Nat) (a_now : Nat) (a_draft : Nat) (a_reader : Nat) (a_acts : Nat) (a_images : Nat) (a_one : Nat) (a_other : Nat) (a_third : Nat) (a_spans : Nat) (a_back : Nat) (a_span : Nat) (a_middle : Nat) (a_reached : Nat) (b_sc : Nat) (b_sp : Nat) (b_cp : Nat) (b_sn : Nat) (b_sl : Nat) : Met l yX9_table w_X9_table ({ frames := 1, cells := 0, slots := 0, locals := 21 }) (va_Pc [.ref h0, .int i_0, .int i_1, .int i_2] (fun U => va_P D vwCl [(h0, .inr (9, [.ref a_tape, .ref a_now, .ref a_draft, .ref a_reader, .ref a_acts, .ref a_images, .ref a_one, .ref a_other, .ref a_third, .ref a_spans, .ref a_back, .ref a_span, .ref a_middle, .ref a_reached])), (a_now, .inr (8, [.ref b_sc, .ref b_sp, .ref b_cp, .ref b_sn, .ref b_sl, .int 0, .int 0, .int 0]))] U.heap ∧ va_K D vwCl [] U)) (va_Qi (fun (r : Int32) (_ : Unit) => r = (-1000001)) (fun _ _ => True) (fun _ => False)) 0 0 (fun _ => False) := by
  refine Met.ofW (cc := cX9_table) (maxL := 5) (ret := (some .int)) (by decide) rfl ?_
  intro p e s m args below meth c s₁ B hml hv
  obtain ⟨rfl, hP, hK⟩ := hv
  have hx := B.exec
  have hb := B.bytes
  have hr := B.returns
  have hts := atoms_spec (ws := w_X9_table) B.pre
  have hown : s.vm.findClass RX9 = some m.cls := findClass_of_methodNamed B.named
  have hlocks := B.notSynchronized
  have hS : va_S (fun _ : Nat => False) s.heap s.heap [] := va_S.rf
  have hP : va_P D vwCl [(h0, .inr (9, [.ref a_tape, .ref a_now, .ref a_draft, .ref a_reader, .ref a_acts, .ref a_images, .ref a_one, .ref a_other, .ref a_third, .ref a_spans, .ref a_back, .ref a_span, .ref a_middle, .ref a_reached])), (a_now, .inr (8, [.ref b_sc, .ref b_sp, .ref b_cp, .ref b_sn, .ref b_sl, .int 0, .int 0, .int 0]))] s.heap := hP
  have hl := lv_entry ([.ref h0, .int i_0, .int i_1, .int i_2]) (n := 5) (Nat.le_of_ble_eq_true rfl)
  rw [lg_entry_eq]
  generalize (lg_sl ([.ref h0, .int i_0, .int i_1, .int i_2]) ++ List.replicate (5 - (lg_sl ([.ref h0, .int i_0, .int i_1, .int i_2])).length) Slot.unset).toArray = ls at hl ⊢
  have hl : lv_has ls 5 [(0, .ref h0), (1, .int i_0), (2, .int i_1), (3, .int i_2)] := hl
  obtain ⟨H, hHe⟩ : ∃ H : Heap, H = s.heap := ⟨_, rfl⟩
  rw [← hHe] at hP
  have hS : va_S (fun _ : Nat => False) s.heap H [] := by rw [hHe]; exact hS
  refine pw_heap hHe ?_
  refine lv_aload_n hx hb dX9_table_0 rfl (lv_at hl 0 rfl) ?_
  refine va_get (D := D) (ci := 9) (v := .ref a_now) (C := RX9) (T := TX9) (N := 14) hx hb hts (fun _ h => List.mem_cons_of_mem _ (List.mem_append_left _ (List.mem_append_right _ h))) hown hK hP 0 rfl rfl 1 (by decide) (hts (.fieldLink RX9 19 "LineCites" "now" "LLineCites$Work;") (List.mem_of_getElem? (i := 1) rfl)) (fun _ h9 => h9) rfl dX9_table_1 ?_
  refine lv_iload_n hx hb dX9_table_4 rfl (lv_at hl 1 rfl) ?_
  have hPc := hP.sub (ws' := [(a_now, .inr (8, [.ref b_sc, .ref b_sp, .ref b_cp, .ref b_sn, .ref b_sl, .int 0, .int 0, .int 0]))]) [1] rfl
  have hKc := hK.sub (tys' := []) [] rfl
  refine va_calli (va_runV (As := [.int i_0]) (rest := []) ⟨hx, hb, hml, hown, hts⟩ (c_X8_hasEdition l D a_now i_0 b_sc b_sp b_cp b_sn b_sl) (cwV 1 hts g_X9_table_X8_hasEdition rfl rfl rfl (by decide +kernel) ⟨Nat.le_of_ble_eq_true rfl, Nat.le_of_ble_eq_true rfl⟩) ⟨fun a U g mk q => by obtain ⟨q0, qP, qK⟩ := q; exact ⟨q0, qP, va_K.moved (u := U) (U := U.calling g mk a) (Vm.Alike.refl U.vm) qK⟩, va_recv hKc hPc (ci := 8) (q0 := 0) rfl rfl, fun U hU hW => ⟨rfl, by rw [hU]; exact hPc, va_K.moved hW.alike hKc⟩⟩ rfl rfl hl.1 rfl (lv_room (Nat.le_of_ble_eq_true rfl)) dX9_table_5 ⟨Nat.le_of_ble_eq_true rfl, Nat.le_of_ble_eq_true rfl⟩) hS (fun _ _ h => h.elim) (fun _ h => h.elim) (fun r1 u t H1 locs ht hvm hw hB hz1 hk1 hS => ?_)
  have hP := pw_keep hP (fun q hq => hk1 q hq (fun h => h))
  generalize H1 = H at hP hS ⊢
  refine W.widen (k := 0) (n := 0) (Nat.le_of_ble_eq_true rfl) (Nat.le_of_ble_eq_true rfl) ?_
  obtain rfl : r1 = 0 := hw
  refine lv_if_eq (tgt := 31) hx hb dX9_table_8 (by decide) (fun c2 => ?_) (fun c2 => absurd (by decide) c2)
  refine lv_ldc hx hb hown (hts (.constant RX9 88 (-1000001)) (List.mem_of_getElem? (i := 8) rfl)) dX9_table_31 ?_
  exact W.iret (v := (-1000001)) hx hb hr (fun t ht hW => ⟨⟨(-1000001), (), rfl, rfl, trivial⟩, hS.F ht⟩) hS.2.2 dX9_table_33
def w_X9_share : List Cond := .code yX9_share cX9_share 6 (some .int) :: ([.fieldLink RX9 19 "LineCites" "now" "LLineCites$Work;", .methodLink RX9 138 yX8_hasEdition, .instanceMethod yX8_hasEdition, .selects RX8 yX8_hasEdition yX8_hasEdition, .initialized RX8, .code yX8_hasEdition cX8_hasEdition 2 (some .boolean), .fieldLink RX8 37 "LineCites$Work" "editions" "I", .constant RX9 88 (-1000001)] ++ wsX90 ++ wsX80)
set_option maxRecDepth 20000 in
theorem g_X9_share_X8_hasEdition : GoodIn w_X9_share (wsV RX9 138 RX8 yX8_hasEdition w_X8_hasEdition) := goodIn_r _ [2, 3, 4, 5, 6, 7, 23, 24, 25, 26, 27, 28, 29, 30] rfl (by decide +kernel)
set_option maxHeartbeats 4000000 in
set_option maxRecDepth 100000 in
theorem c_X9_share (l : Launch) (D : va_G) (h0 : Nat) (i_0 : Int32) (i_1 : Int32) (a_tape : Nat) (a_now : Nat) (a_draft : Nat) (a_reader : Nat) (a_acts : Nat) (a_images : Nat) (a_one : Nat) (a_other : Nat) (a_third : Nat) (a_spans : Nat) (a_back : Nat) (a_span : Nat) (a_middle : Nat) (a_reached : Nat) (b_sc : Nat) (b_sp : Nat) (b_cp : Nat) (b_sn : Nat) (b_sl : Nat) : Met l yX9_share w_X9_share ({ frames := 1, cells := 0, slots := 0, locals := 21 }) (va_Pc [.ref h0, .int i_0, .int i_1] (fun U => va_P D vwCl [(h0, .inr (9, [.ref a_tape, .ref a_now, .ref a_draft, .ref a_reader, .ref a_acts, .ref a_images, .ref a_one, .ref a_other, .ref a_third, .ref a_spans, .ref a_back, .ref a_span, .ref a_middle, .ref a_reached])), (a_now, .inr (8, [.ref b_sc, .ref b_sp, .ref b_cp, .ref b_sn, .ref b_sl, .int 0, .int 0, .int 0]))] U.heap ∧ va_K D vwCl [] U)) (va_Qi (fun (r : Int32) (_ : Unit) => r = (-1000001)) (fun _ _ => True) (fun _ => False)) 0 0 (fun _ => False) := by
  refine Met.ofW (cc := cX9_share) (maxL := 6) (ret := (some .int)) (by decide) rfl ?_
  intro p e s m args below meth c s₁ B hml hv
  obtain ⟨rfl, hP, hK⟩ := hv
  have hx := B.exec
  have hb := B.bytes
  have hr := B.returns
  have hts := atoms_spec (ws := w_X9_share) B.pre
  have hown : s.vm.findClass RX9 = some m.cls := findClass_of_methodNamed B.named
  have hlocks := B.notSynchronized
  have hS : va_S (fun _ : Nat => False) s.heap s.heap [] := va_S.rf
  have hP : va_P D vwCl [(h0, .inr (9, [.ref a_tape, .ref a_now, .ref a_draft, .ref a_reader, .ref a_acts, .ref a_images, .ref a_one, .ref a_other, .ref a_third, .ref a_spans, .ref a_back, .ref a_span, .ref a_middle, .ref a_reached])), (a_now, .inr (8, [.ref b_sc, .ref b_sp, .ref b_cp, .ref b_sn, .ref b_sl, .int 0, .int 0, .int 0]))] s.heap := hP
  have hl := lv_entry ([.ref h0, .int i_0, .int i_1]) (n := 6) (Nat.le_of_ble_eq_true rfl)
  rw [lg_entry_eq]
  generalize (lg_sl ([.ref h0, .int i_0, .int i_1]) ++ List.replicate (6 - (lg_sl ([.ref h0, .int i_0, .int i_1])).length) Slot.unset).toArray = ls at hl ⊢
  have hl : lv_has ls 6 [(0, .ref h0), (1, .int i_0), (2, .int i_1)] := hl
  obtain ⟨H, hHe⟩ : ∃ H : Heap, H = s.heap := ⟨_, rfl⟩
  rw [← hHe] at hP
  have hS : va_S (fun _ : Nat => False) s.heap H [] := by rw [hHe]; exact hS
  refine pw_heap hHe ?_
  refine lv_aload_n hx hb dX9_share_0 rfl (lv_at hl 0 rfl) ?_
  refine va_get (D := D) (ci := 9) (v := .ref a_now) (C := RX9) (T := TX9) (N := 14) hx hb hts (fun _ h => List.mem_cons_of_mem _ (List.mem_append_left _ (List.mem_append_right _ h))) hown hK hP 0 rfl rfl 1 (by decide) (hts (.fieldLink RX9 19 "LineCites" "now" "LLineCites$Work;") (List.mem_of_getElem? (i := 1) rfl)) (fun _ h9 => h9) rfl dX9_share_1 ?_
  refine lv_iload_n hx hb dX9_share_4 rfl (lv_at hl 1 rfl) ?_
  have hPc := hP.sub (ws' := [(a_now, .inr (8, [.ref b_sc, .ref b_sp, .ref b_cp, .ref b_sn, .ref b_sl, .int 0, .int 0, .int 0]))]) [1] rfl
  have hKc := hK.sub (tys' := []) [] rfl
  refine va_calli (va_runV (As := [.int i_0]) (rest := []) ⟨hx, hb, hml, hown, hts⟩ (c_X8_hasEdition l D a_now i_0 b_sc b_sp b_cp b_sn b_sl) (cwV 1 hts g_X9_share_X8_hasEdition rfl rfl rfl (by decide +kernel) ⟨Nat.le_of_ble_eq_true rfl, Nat.le_of_ble_eq_true rfl⟩) ⟨fun a U g mk q => by obtain ⟨q0, qP, qK⟩ := q; exact ⟨q0, qP, va_K.moved (u := U) (U := U.calling g mk a) (Vm.Alike.refl U.vm) qK⟩, va_recv hKc hPc (ci := 8) (q0 := 0) rfl rfl, fun U hU hW => ⟨rfl, by rw [hU]; exact hPc, va_K.moved hW.alike hKc⟩⟩ rfl rfl hl.1 rfl (lv_room (Nat.le_of_ble_eq_true rfl)) dX9_share_5 ⟨Nat.le_of_ble_eq_true rfl, Nat.le_of_ble_eq_true rfl⟩) hS (fun _ _ h => h.elim) (fun _ h => h.elim) (fun r1 u t H1 locs ht hvm hw hB hz1 hk1 hS => ?_)
  have hP := pw_keep hP (fun q hq => hk1 q hq (fun h => h))
  generalize H1 = H at hP hS ⊢
  refine W.widen (k := 0) (n := 0) (Nat.le_of_ble_eq_true rfl) (Nat.le_of_ble_eq_true rfl) ?_
  obtain rfl : r1 = 0 := hw
  refine lv_if_eq (tgt := 22) hx hb dX9_share_8 (by decide) (fun c2 => ?_) (fun c2 => absurd (by decide) c2)
  refine lv_ldc hx hb hown (hts (.constant RX9 88 (-1000001)) (List.mem_of_getElem? (i := 8) rfl)) dX9_share_22 ?_
  exact W.iret (v := (-1000001)) hx hb hr (fun t ht hW => ⟨⟨(-1000001), (), rfl, rfl, trivial⟩, hS.F ht⟩) hS.2.2 dX9_share_24
def w_X9_score : List Cond := .code yX9_score cX9_score 4 (some .int) :: ([.fieldLink RX9 19 "LineCites" "now" "LLineCites$Work;", .methodLink RX9 138 yX8_hasEdition, .instanceMethod yX8_hasEdition, .selects RX8 yX8_hasEdition yX8_hasEdition, .initialized RX8, .code yX8_hasEdition cX8_hasEdition 2 (some .boolean), .fieldLink RX8 37 "LineCites$Work" "editions" "I", .constant RX9 88 (-1000001)] ++ wsX90 ++ wsX80)
set_option maxRecDepth 20000 in
theorem g_X9_score_X8_hasEdition : GoodIn w_X9_score (wsV RX9 138 RX8 yX8_hasEdition w_X8_hasEdition) := goodIn_r _ [2, 3, 4, 5, 6, 7, 23, 24, 25, 26, 27, 28, 29, 30] rfl (by decide +kernel)
set_option maxHeartbeats 4000000 in
set_option maxRecDepth 100000 in
theorem c_X9_score (l : Launch) (D : va_G) (h0 : Nat) (i_0 : Int32) (i_1 : Int32) (a_tape : Nat) (a_now : Nat) (a_draft : Nat) (a_reader : Nat) (a_acts : Nat) (a_images : Nat) (a_one : Nat) (a_other : Nat) (a_third : Nat) (a_spans : Nat) (a_back : Nat) (a_span : Nat) (a_middle : Nat) (a_reached : Nat) (b_sc : Nat) (b_sp : Nat) (b_cp : Nat) (b_sn : Nat) (b_sl : Nat) : Met l yX9_score w_X9_score ({ frames := 1, cells := 0, slots := 0, locals := 21 }) (va_Pc [.ref h0, .int i_0, .int i_1] (fun U => va_P D vwCl [(h0, .inr (9, [.ref a_tape, .ref a_now, .ref a_draft, .ref a_reader, .ref a_acts, .ref a_images, .ref a_one, .ref a_other, .ref a_third, .ref a_spans, .ref a_back, .ref a_span, .ref a_middle, .ref a_reached])), (a_now, .inr (8, [.ref b_sc, .ref b_sp, .ref b_cp, .ref b_sn, .ref b_sl, .int 0, .int 0, .int 0]))] U.heap ∧ va_K D vwCl [] U)) (va_Qi (fun (r : Int32) (_ : Unit) => r = (-1000001)) (fun _ _ => True) (fun _ => False)) 0 0 (fun _ => False) := by
  refine Met.ofW (cc := cX9_score) (maxL := 4) (ret := (some .int)) (by decide) rfl ?_
  intro p e s m args below meth c s₁ B hml hv
  obtain ⟨rfl, hP, hK⟩ := hv
  have hx := B.exec
  have hb := B.bytes
  have hr := B.returns
  have hts := atoms_spec (ws := w_X9_score) B.pre
  have hown : s.vm.findClass RX9 = some m.cls := findClass_of_methodNamed B.named
  have hlocks := B.notSynchronized
  have hS : va_S (fun _ : Nat => False) s.heap s.heap [] := va_S.rf
  have hP : va_P D vwCl [(h0, .inr (9, [.ref a_tape, .ref a_now, .ref a_draft, .ref a_reader, .ref a_acts, .ref a_images, .ref a_one, .ref a_other, .ref a_third, .ref a_spans, .ref a_back, .ref a_span, .ref a_middle, .ref a_reached])), (a_now, .inr (8, [.ref b_sc, .ref b_sp, .ref b_cp, .ref b_sn, .ref b_sl, .int 0, .int 0, .int 0]))] s.heap := hP
  have hl := lv_entry ([.ref h0, .int i_0, .int i_1]) (n := 4) (Nat.le_of_ble_eq_true rfl)
  rw [lg_entry_eq]
  generalize (lg_sl ([.ref h0, .int i_0, .int i_1]) ++ List.replicate (4 - (lg_sl ([.ref h0, .int i_0, .int i_1])).length) Slot.unset).toArray = ls at hl ⊢
  have hl : lv_has ls 4 [(0, .ref h0), (1, .int i_0), (2, .int i_1)] := hl
  obtain ⟨H, hHe⟩ : ∃ H : Heap, H = s.heap := ⟨_, rfl⟩
  rw [← hHe] at hP
  have hS : va_S (fun _ : Nat => False) s.heap H [] := by rw [hHe]; exact hS
  refine pw_heap hHe ?_
  refine lv_aload_n hx hb dX9_score_0 rfl (lv_at hl 0 rfl) ?_
  refine va_get (D := D) (ci := 9) (v := .ref a_now) (C := RX9) (T := TX9) (N := 14) hx hb hts (fun _ h => List.mem_cons_of_mem _ (List.mem_append_left _ (List.mem_append_right _ h))) hown hK hP 0 rfl rfl 1 (by decide) (hts (.fieldLink RX9 19 "LineCites" "now" "LLineCites$Work;") (List.mem_of_getElem? (i := 1) rfl)) (fun _ h9 => h9) rfl dX9_score_1 ?_
  refine lv_iload_n hx hb dX9_score_4 rfl (lv_at hl 1 rfl) ?_
  have hPc := hP.sub (ws' := [(a_now, .inr (8, [.ref b_sc, .ref b_sp, .ref b_cp, .ref b_sn, .ref b_sl, .int 0, .int 0, .int 0]))]) [1] rfl
  have hKc := hK.sub (tys' := []) [] rfl
  refine va_calli (va_runV (As := [.int i_0]) (rest := []) ⟨hx, hb, hml, hown, hts⟩ (c_X8_hasEdition l D a_now i_0 b_sc b_sp b_cp b_sn b_sl) (cwV 1 hts g_X9_score_X8_hasEdition rfl rfl rfl (by decide +kernel) ⟨Nat.le_of_ble_eq_true rfl, Nat.le_of_ble_eq_true rfl⟩) ⟨fun a U g mk q => by obtain ⟨q0, qP, qK⟩ := q; exact ⟨q0, qP, va_K.moved (u := U) (U := U.calling g mk a) (Vm.Alike.refl U.vm) qK⟩, va_recv hKc hPc (ci := 8) (q0 := 0) rfl rfl, fun U hU hW => ⟨rfl, by rw [hU]; exact hPc, va_K.moved hW.alike hKc⟩⟩ rfl rfl hl.1 rfl (lv_room (Nat.le_of_ble_eq_true rfl)) dX9_score_5 ⟨Nat.le_of_ble_eq_true rfl, Nat.le_of_ble_eq_true rfl⟩) hS (fun _ _ h => h.elim) (fun _ h => h.elim) (fun r1 u t H1 locs ht hvm hw hB hz1 hk1 hS => ?_)
  have hP := pw_keep hP (fun q hq => hk1 q hq (fun h => h))
  generalize H1 = H at hP hS ⊢
  refine W.widen (k := 0) (n := 0) (Nat.le_of_ble_eq_true rfl) (Nat.le_of_ble_eq_true rfl) ?_
  obtain rfl : r1 = 0 := hw
  refine lv_if_eq (tgt := 20) hx hb dX9_score_8 (by decide) (fun c2 => ?_) (fun c2 => absurd (by decide) c2)
  refine lv_ldc hx hb hown (hts (.constant RX9 88 (-1000001)) (List.mem_of_getElem? (i := 8) rfl)) dX9_score_20 ?_
  exact W.iret (v := (-1000001)) hx hb hr (fun t ht hW => ⟨⟨(-1000001), (), rfl, rfl, trivial⟩, hS.F ht⟩) hS.2.2 dX9_score_22
def w_X9_strike : List Cond := .code yX9_strike cX9_strike 2 (some .int) :: ([.fieldLink RX9 19 "LineCites" "now" "LLineCites$Work;", .methodLink RX9 182 yX8_hasCitation, .instanceMethod yX8_hasCitation, .selects RX8 yX8_hasCitation yX8_hasCitation, .initialized RX8, .code yX8_hasCitation cX8_hasCitation 2 (some .boolean), .methodLink RX8 89 yX8_citedPart, .instanceMethod yX8_citedPart, .selects RX8 yX8_citedPart yX8_citedPart, .code yX8_citedPart cX8_citedPart 4 (some .int), .fieldLink RX8 18 "LineCites$Work" "citedParts" "[I", .constant RX9 88 (-1000001)] ++ wsX90 ++ wsX80)
set_option maxRecDepth 20000 in
theorem g_X9_strike_X8_hasCitation : GoodIn w_X9_strike (wsV RX9 182 RX8 yX8_hasCitation w_X8_hasCitation) := goodIn_r _ [2, 3, 4, 5, 6, 7, 8, 9, 5, 10, 11, 27, 28, 29, 30, 31, 32, 33, 34] rfl (by decide +kernel)
set_option maxHeartbeats 4000000 in
set_option maxRecDepth 100000 in
theorem c_X9_strike (l : Launch) (D : va_G) (h0 : Nat) (i_0 : Int32) (a_tape : Nat) (a_now : Nat) (a_draft : Nat) (a_reader : Nat) (a_acts : Nat) (a_images : Nat) (a_one : Nat) (a_other : Nat) (a_third : Nat) (a_spans : Nat) (a_back : Nat) (a_span : Nat) (a_middle : Nat) (a_reached : Nat) (b_sc : Nat) (b_sp : Nat) (b_cp : Nat) (b_sn : Nat) (b_sl : Nat) (k_c : ClassId) : Met l yX9_strike w_X9_strike ({ frames := 2, cells := 0, slots := 0, locals := 44 }) (va_Pc [.ref h0, .int i_0] (fun U => va_P D vwCl [(h0, .inr (9, [.ref a_tape, .ref a_now, .ref a_draft, .ref a_reader, .ref a_acts, .ref a_images, .ref a_one, .ref a_other, .ref a_third, .ref a_spans, .ref a_back, .ref a_span, .ref a_middle, .ref a_reached])), (a_now, .inr (8, [.ref b_sc, .ref b_sp, .ref b_cp, .ref b_sn, .ref b_sl, .int 0, .int 0, .int 0])), (b_cp, .inl (k_c, 32, .inl (fun _ => 0)))] U.heap ∧ va_K D vwCl [(k_c, .int)] U)) (va_Qi (fun (r : Int32) (_ : Unit) => r = (-1000001)) (fun _ _ => True) (fun _ => False)) 0 0 (fun _ => False) := by
  refine Met.ofW (cc := cX9_strike) (maxL := 2) (ret := (some .int)) (by decide) rfl ?_
  intro p e s m args below meth c s₁ B hml hv
  obtain ⟨rfl, hP, hK⟩ := hv
  have hx := B.exec
  have hb := B.bytes
  have hr := B.returns
  have hts := atoms_spec (ws := w_X9_strike) B.pre
  have hown : s.vm.findClass RX9 = some m.cls := findClass_of_methodNamed B.named
  have hlocks := B.notSynchronized
  have hS : va_S (fun _ : Nat => False) s.heap s.heap [] := va_S.rf
  have hP : va_P D vwCl [(h0, .inr (9, [.ref a_tape, .ref a_now, .ref a_draft, .ref a_reader, .ref a_acts, .ref a_images, .ref a_one, .ref a_other, .ref a_third, .ref a_spans, .ref a_back, .ref a_span, .ref a_middle, .ref a_reached])), (a_now, .inr (8, [.ref b_sc, .ref b_sp, .ref b_cp, .ref b_sn, .ref b_sl, .int 0, .int 0, .int 0])), (b_cp, .inl (k_c, 32, .inl (fun _ => 0)))] s.heap := hP
  have hl := lv_entry ([.ref h0, .int i_0]) (n := 2) (Nat.le_of_ble_eq_true rfl)
  rw [lg_entry_eq]
  generalize (lg_sl ([.ref h0, .int i_0]) ++ List.replicate (2 - (lg_sl ([.ref h0, .int i_0])).length) Slot.unset).toArray = ls at hl ⊢
  have hl : lv_has ls 2 [(0, .ref h0), (1, .int i_0)] := hl
  obtain ⟨H, hHe⟩ : ∃ H : Heap, H = s.heap := ⟨_, rfl⟩
  rw [← hHe] at hP
  have hS : va_S (fun _ : Nat => False) s.heap H [] := by rw [hHe]; exact hS
  refine pw_heap hHe ?_
  refine lv_aload_n hx hb dX9_strike_0 rfl (lv_at hl 0 rfl) ?_
  refine va_get (D := D) (ci := 9) (v := .ref a_now) (C := RX9) (T := TX9) (N := 14) hx hb hts (fun _ h => List.mem_cons_of_mem _ (List.mem_append_left _ (List.mem_append_right _ h))) hown hK hP 0 rfl rfl 1 (by decide) (hts (.fieldLink RX9 19 "LineCites" "now" "LLineCites$Work;") (List.mem_of_getElem? (i := 1) rfl)) (fun _ h9 => h9) rfl dX9_strike_1 ?_
  refine lv_iload_n hx hb dX9_strike_4 rfl (lv_at hl 1 rfl) ?_
  have hPc := hP.sub (ws' := [(a_now, .inr (8, [.ref b_sc, .ref b_sp, .ref b_cp, .ref b_sn, .ref b_sl, .int 0, .int 0, .int 0])), (b_cp, .inl (k_c, 32, .inl (fun _ => 0)))]) [1, 2] rfl
  have hKc := hK.sub (tys' := [(k_c, .int)]) [0] rfl
  refine va_calli (va_runV (As := [.int i_0]) (rest := []) ⟨hx, hb, hml, hown, hts⟩ (c_X8_hasCitation l D a_now i_0 b_sc b_sp b_cp b_sn b_sl k_c) (cwV 1 hts g_X9_strike_X8_hasCitation rfl rfl rfl (by decide +kernel) ⟨Nat.le_of_ble_eq_true rfl, Nat.le_of_ble_eq_true rfl⟩) ⟨fun a U g mk q => by obtain ⟨q0, qP, qK⟩ := q; exact ⟨q0, qP, va_K.moved (u := U) (U := U.calling g mk a) (Vm.Alike.refl U.vm) qK⟩, va_recv hKc hPc (ci := 8) (q0 := 0) rfl rfl, fun U hU hW => ⟨rfl, by rw [hU]; exact hPc, va_K.moved hW.alike hKc⟩⟩ rfl rfl hl.1 rfl (lv_room (Nat.le_of_ble_eq_true rfl)) dX9_strike_5 ⟨Nat.le_of_ble_eq_true rfl, Nat.le_of_ble_eq_true rfl⟩) hS (fun _ _ h => h.elim) (fun _ h => h.elim) (fun r1 u t H1 locs ht hvm hw hB hz1 hk1 hS => ?_)
  have hP := pw_keep hP (fun q hq => hk1 q hq (fun h => h))
  generalize H1 = H at hP hS ⊢
  refine W.widen (k := 0) (n := 0) (Nat.le_of_ble_eq_true rfl) (Nat.le_of_ble_eq_true rfl) ?_
  obtain rfl : r1 = 0 := hw
  refine lv_if_ne (tgt := 14) hx hb dX9_strike_8 (by decide) (fun c2 => absurd (by decide) c2) (fun c2 => ?_)
  refine lv_ldc hx hb hown (hts (.constant RX9 88 (-1000001)) (List.mem_of_getElem? (i := 12) rfl)) dX9_strike_11 ?_
  exact W.iret (v := (-1000001)) hx hb hr (fun t ht hW => ⟨⟨(-1000001), (), rfl, rfl, trivial⟩, hS.F ht⟩) hS.2.2 dX9_strike_13
def w_X9_citation : List Cond := .code yX9_citation cX9_citation 3 (some .int) :: ([.fieldLink RX9 19 "LineCites" "now" "LLineCites$Work;", .methodLink RX9 182 yX8_hasCitation, .instanceMethod yX8_hasCitation, .selects RX8 yX8_hasCitation yX8_hasCitation, .initialized RX8, .code yX8_hasCitation cX8_hasCitation 2 (some .boolean), .methodLink RX8 89 yX8_citedPart, .instanceMethod yX8_citedPart, .selects RX8 yX8_citedPart yX8_citedPart, .code yX8_citedPart cX8_citedPart 4 (some .int), .fieldLink RX8 18 "LineCites$Work" "citedParts" "[I", .constant RX9 88 (-1000001)] ++ wsX90 ++ wsX80)
set_option maxRecDepth 20000 in
theorem g_X9_citation_X8_hasCitation : GoodIn w_X9_citation (wsV RX9 182 RX8 yX8_hasCitation w_X8_hasCitation) := goodIn_r _ [2, 3, 4, 5, 6, 7, 8, 9, 5, 10, 11, 27, 28, 29, 30, 31, 32, 33, 34] rfl (by decide +kernel)
set_option maxHeartbeats 4000000 in
set_option maxRecDepth 100000 in
theorem c_X9_citation (l : Launch) (D : va_G) (h0 : Nat) (i_0 : Int32) (i_1 : Int32) (a_tape : Nat) (a_now : Nat) (a_draft : Nat) (a_reader : Nat) (a_acts : Nat) (a_images : Nat) (a_one : Nat) (a_other : Nat) (a_third : Nat) (a_spans : Nat) (a_back : Nat) (a_span : Nat) (a_middle : Nat) (a_reached : Nat) (b_sc : Nat) (b_sp : Nat) (b_cp : Nat) (b_sn : Nat) (b_sl : Nat) (k_c : ClassId) : Met l yX9_citation w_X9_citation ({ frames := 2, cells := 0, slots := 0, locals := 44 }) (va_Pc [.ref h0, .int i_0, .int i_1] (fun U => va_P D vwCl [(h0, .inr (9, [.ref a_tape, .ref a_now, .ref a_draft, .ref a_reader, .ref a_acts, .ref a_images, .ref a_one, .ref a_other, .ref a_third, .ref a_spans, .ref a_back, .ref a_span, .ref a_middle, .ref a_reached])), (a_now, .inr (8, [.ref b_sc, .ref b_sp, .ref b_cp, .ref b_sn, .ref b_sl, .int 0, .int 0, .int 0])), (b_cp, .inl (k_c, 32, .inl (fun _ => 0)))] U.heap ∧ va_K D vwCl [(k_c, .int)] U)) (va_Qi (fun (r : Int32) (_ : Unit) => r = (-1000001)) (fun _ _ => True) (fun _ => False)) 0 0 (fun _ => False) := by
  refine Met.ofW (cc := cX9_citation) (maxL := 3) (ret := (some .int)) (by decide) rfl ?_
  intro p e s m args below meth c s₁ B hml hv
  obtain ⟨rfl, hP, hK⟩ := hv
  have hx := B.exec
  have hb := B.bytes
  have hr := B.returns
  have hts := atoms_spec (ws := w_X9_citation) B.pre
  have hown : s.vm.findClass RX9 = some m.cls := findClass_of_methodNamed B.named
  have hlocks := B.notSynchronized
  have hS : va_S (fun _ : Nat => False) s.heap s.heap [] := va_S.rf
  have hP : va_P D vwCl [(h0, .inr (9, [.ref a_tape, .ref a_now, .ref a_draft, .ref a_reader, .ref a_acts, .ref a_images, .ref a_one, .ref a_other, .ref a_third, .ref a_spans, .ref a_back, .ref a_span, .ref a_middle, .ref a_reached])), (a_now, .inr (8, [.ref b_sc, .ref b_sp, .ref b_cp, .ref b_sn, .ref b_sl, .int 0, .int 0, .int 0])), (b_cp, .inl (k_c, 32, .inl (fun _ => 0)))] s.heap := hP
  have hl := lv_entry ([.ref h0, .int i_0, .int i_1]) (n := 3) (Nat.le_of_ble_eq_true rfl)
  rw [lg_entry_eq]
  generalize (lg_sl ([.ref h0, .int i_0, .int i_1]) ++ List.replicate (3 - (lg_sl ([.ref h0, .int i_0, .int i_1])).length) Slot.unset).toArray = ls at hl ⊢
  have hl : lv_has ls 3 [(0, .ref h0), (1, .int i_0), (2, .int i_1)] := hl
  obtain ⟨H, hHe⟩ : ∃ H : Heap, H = s.heap := ⟨_, rfl⟩
  rw [← hHe] at hP
  have hS : va_S (fun _ : Nat => False) s.heap H [] := by rw [hHe]; exact hS
  refine pw_heap hHe ?_
  refine lv_aload_n hx hb dX9_citation_0 rfl (lv_at hl 0 rfl) ?_
  refine va_get (D := D) (ci := 9) (v := .ref a_now) (C := RX9) (T := TX9) (N := 14) hx hb hts (fun _ h => List.mem_cons_of_mem _ (List.mem_append_left _ (List.mem_append_right _ h))) hown hK hP 0 rfl rfl 1 (by decide) (hts (.fieldLink RX9 19 "LineCites" "now" "LLineCites$Work;") (List.mem_of_getElem? (i := 1) rfl)) (fun _ h9 => h9) rfl dX9_citation_1 ?_
  refine lv_iload_n hx hb dX9_citation_4 rfl (lv_at hl 1 rfl) ?_
  have hPc := hP.sub (ws' := [(a_now, .inr (8, [.ref b_sc, .ref b_sp, .ref b_cp, .ref b_sn, .ref b_sl, .int 0, .int 0, .int 0])), (b_cp, .inl (k_c, 32, .inl (fun _ => 0)))]) [1, 2] rfl
  have hKc := hK.sub (tys' := [(k_c, .int)]) [0] rfl
  refine va_calli (va_runV (As := [.int i_0]) (rest := []) ⟨hx, hb, hml, hown, hts⟩ (c_X8_hasCitation l D a_now i_0 b_sc b_sp b_cp b_sn b_sl k_c) (cwV 1 hts g_X9_citation_X8_hasCitation rfl rfl rfl (by decide +kernel) ⟨Nat.le_of_ble_eq_true rfl, Nat.le_of_ble_eq_true rfl⟩) ⟨fun a U g mk q => by obtain ⟨q0, qP, qK⟩ := q; exact ⟨q0, qP, va_K.moved (u := U) (U := U.calling g mk a) (Vm.Alike.refl U.vm) qK⟩, va_recv hKc hPc (ci := 8) (q0 := 0) rfl rfl, fun U hU hW => ⟨rfl, by rw [hU]; exact hPc, va_K.moved hW.alike hKc⟩⟩ rfl rfl hl.1 rfl (lv_room (Nat.le_of_ble_eq_true rfl)) dX9_citation_5 ⟨Nat.le_of_ble_eq_true rfl, Nat.le_of_ble_eq_true rfl⟩) hS (fun _ _ h => h.elim) (fun _ h => h.elim) (fun r1 u t H1 locs ht hvm hw hB hz1 hk1 hS => ?_)
  have hP := pw_keep hP (fun q hq => hk1 q hq (fun h => h))
  generalize H1 = H at hP hS ⊢
  refine W.widen (k := 0) (n := 0) (Nat.le_of_ble_eq_true rfl) (Nat.le_of_ble_eq_true rfl) ?_
  obtain rfl : r1 = 0 := hw
  refine lv_if_eq (tgt := 21) hx hb dX9_citation_8 (by decide) (fun c2 => ?_) (fun c2 => absurd (by decide) c2)
  refine lv_ldc hx hb hown (hts (.constant RX9 88 (-1000001)) (List.mem_of_getElem? (i := 12) rfl)) dX9_citation_21 ?_
  exact W.iret (v := (-1000001)) hx hb hr (fun t ht hW => ⟨⟨(-1000001), (), rfl, rfl, trivial⟩, hS.F ht⟩) hS.2.2 dX9_citation_23
def w_X9_turned : List Cond := .code yX9_turned cX9_turned 7 (some .int) :: ([.fieldLink RX9 19 "LineCites" "now" "LLineCites$Work;", .methodLink RX9 182 yX8_hasCitation, .instanceMethod yX8_hasCitation, .selects RX8 yX8_hasCitation yX8_hasCitation, .initialized RX8, .code yX8_hasCitation cX8_hasCitation 2 (some .boolean), .methodLink RX8 89 yX8_citedPart, .instanceMethod yX8_citedPart, .selects RX8 yX8_citedPart yX8_citedPart, .code yX8_citedPart cX8_citedPart 4 (some .int), .fieldLink RX8 18 "LineCites$Work" "citedParts" "[I", .constant RX9 88 (-1000001)] ++ wsX90 ++ wsX80)
set_option maxRecDepth 20000 in
theorem g_X9_turned_X8_hasCitation : GoodIn w_X9_turned (wsV RX9 182 RX8 yX8_hasCitation w_X8_hasCitation) := goodIn_r _ [2, 3, 4, 5, 6, 7, 8, 9, 5, 10, 11, 27, 28, 29, 30, 31, 32, 33, 34] rfl (by decide +kernel)
set_option maxHeartbeats 4000000 in
set_option maxRecDepth 100000 in
theorem c_X9_turned (l : Launch) (D : va_G) (h0 : Nat) (i_0 : Int32) (i_1 : Int32) (i_2 : Int32) (a_tape : Nat) (a_now : Nat) (a_draft : Nat) (a_reader : Nat) (a_acts : Nat) (a_images : Nat) (a_one : Nat) (a_other : Nat) (a_third : Nat) (a_spans : Nat) (a_back : Nat) (a_span : Nat) (a_middle : Nat) (a_reached : Nat) (b_sc : Nat) (b_sp : Nat) (b_cp : Nat) (b_sn : Nat) (b_sl : Nat) (k_c : ClassId) : Met l yX9_turned w_X9_turned ({ frames := 2, cells := 0, slots := 0, locals := 44 }) (va_Pc [.ref h0, .int i_0, .int i_1, .int i_2] (fun U => va_P D vwCl [(h0, .inr (9, [.ref a_tape, .ref a_now, .ref a_draft, .ref a_reader, .ref a_acts, .ref a_images, .ref a_one, .ref a_other, .ref a_third, .ref a_spans, .ref a_back, .ref a_span, .ref a_middle, .ref a_reached])), (a_now, .inr (8, [.ref b_sc, .ref b_sp, .ref b_cp, .ref b_sn, .ref b_sl, .int 0, .int 0, .int 0])), (b_cp, .inl (k_c, 32, .inl (fun _ => 0)))] U.heap ∧ va_K D vwCl [(k_c, .int)] U)) (va_Qi (fun (r : Int32) (_ : Unit) => r = (-1000001)) (fun _ _ => True) (fun _ => False)) 0 0 (fun _ => False) := by
  refine Met.ofW (cc := cX9_turned) (maxL := 7) (ret := (some .int)) (by decide) rfl ?_
  intro p e s m args below meth c s₁ B hml hv
  obtain ⟨rfl, hP, hK⟩ := hv
  have hx := B.exec
  have hb := B.bytes
  have hr := B.returns
  have hts := atoms_spec (ws := w_X9_turned) B.pre
  have hown : s.vm.findClass RX9 = some m.cls := findClass_of_methodNamed B.named
  have hlocks := B.notSynchronized
  have hS : va_S (fun _ : Nat => False) s.heap s.heap [] := va_S.rf
  have hP : va_P D vwCl [(h0, .inr (9, [.ref a_tape, .ref a_now, .ref a_draft, .ref a_reader, .ref a_acts, .ref a_images, .ref a_one, .ref a_other, .ref a_third, .ref a_spans, .ref a_back, .ref a_span, .ref a_middle, .ref a_reached])), (a_now, .inr (8, [.ref b_sc, .ref b_sp, .ref b_cp, .ref b_sn, .ref b_sl, .int 0, .int 0, .int 0])), (b_cp, .inl (k_c, 32, .inl (fun _ => 0)))] s.heap := hP
  have hl := lv_entry ([.ref h0, .int i_0, .int i_1, .int i_2]) (n := 7) (Nat.le_of_ble_eq_true rfl)
  rw [lg_entry_eq]
  generalize (lg_sl ([.ref h0, .int i_0, .int i_1, .int i_2]) ++ List.replicate (7 - (lg_sl ([.ref h0, .int i_0, .int i_1, .int i_2])).length) Slot.unset).toArray = ls at hl ⊢
  have hl : lv_has ls 7 [(0, .ref h0), (1, .int i_0), (2, .int i_1), (3, .int i_2)] := hl
  obtain ⟨H, hHe⟩ : ∃ H : Heap, H = s.heap := ⟨_, rfl⟩
  rw [← hHe] at hP
  have hS : va_S (fun _ : Nat => False) s.heap H [] := by rw [hHe]; exact hS
  refine pw_heap hHe ?_
  refine lv_aload_n hx hb dX9_turned_0 rfl (lv_at hl 0 rfl) ?_
  refine va_get (D := D) (ci := 9) (v := .ref a_now) (C := RX9) (T := TX9) (N := 14) hx hb hts (fun _ h => List.mem_cons_of_mem _ (List.mem_append_left _ (List.mem_append_right _ h))) hown hK hP 0 rfl rfl 1 (by decide) (hts (.fieldLink RX9 19 "LineCites" "now" "LLineCites$Work;") (List.mem_of_getElem? (i := 1) rfl)) (fun _ h9 => h9) rfl dX9_turned_1 ?_
  refine lv_iload_n hx hb dX9_turned_4 rfl (lv_at hl 1 rfl) ?_
  have hPc := hP.sub (ws' := [(a_now, .inr (8, [.ref b_sc, .ref b_sp, .ref b_cp, .ref b_sn, .ref b_sl, .int 0, .int 0, .int 0])), (b_cp, .inl (k_c, 32, .inl (fun _ => 0)))]) [1, 2] rfl
  have hKc := hK.sub (tys' := [(k_c, .int)]) [0] rfl
  refine va_calli (va_runV (As := [.int i_0]) (rest := []) ⟨hx, hb, hml, hown, hts⟩ (c_X8_hasCitation l D a_now i_0 b_sc b_sp b_cp b_sn b_sl k_c) (cwV 1 hts g_X9_turned_X8_hasCitation rfl rfl rfl (by decide +kernel) ⟨Nat.le_of_ble_eq_true rfl, Nat.le_of_ble_eq_true rfl⟩) ⟨fun a U g mk q => by obtain ⟨q0, qP, qK⟩ := q; exact ⟨q0, qP, va_K.moved (u := U) (U := U.calling g mk a) (Vm.Alike.refl U.vm) qK⟩, va_recv hKc hPc (ci := 8) (q0 := 0) rfl rfl, fun U hU hW => ⟨rfl, by rw [hU]; exact hPc, va_K.moved hW.alike hKc⟩⟩ rfl rfl hl.1 rfl (lv_room (Nat.le_of_ble_eq_true rfl)) dX9_turned_5 ⟨Nat.le_of_ble_eq_true rfl, Nat.le_of_ble_eq_true rfl⟩) hS (fun _ _ h => h.elim) (fun _ h => h.elim) (fun r1 u t H1 locs ht hvm hw hB hz1 hk1 hS => ?_)
  have hP := pw_keep hP (fun q hq => hk1 q hq (fun h => h))
  generalize H1 = H at hP hS ⊢
  refine W.widen (k := 0) (n := 0) (Nat.le_of_ble_eq_true rfl) (Nat.le_of_ble_eq_true rfl) ?_
  obtain rfl : r1 = 0 := hw
  refine lv_if_eq (tgt := 22) hx hb dX9_turned_8 (by decide) (fun c2 => ?_) (fun c2 => absurd (by decide) c2)
  refine lv_ldc hx hb hown (hts (.constant RX9 88 (-1000001)) (List.mem_of_getElem? (i := 12) rfl)) dX9_turned_22 ?_
  exact W.iret (v := (-1000001)) hx hb hr (fun t ht hW => ⟨⟨(-1000001), (), rfl, rfl, trivial⟩, hS.F ht⟩) hS.2.2 dX9_turned_24
def w_X9_meet : List Cond := .code yX9_meet cX9_meet 8 (some .int) :: ([.fieldLink RX9 19 "LineCites" "now" "LLineCites$Work;", .methodLink RX9 182 yX8_hasCitation, .instanceMethod yX8_hasCitation, .selects RX8 yX8_hasCitation yX8_hasCitation, .initialized RX8, .code yX8_hasCitation cX8_hasCitation 2 (some .boolean), .methodLink RX8 89 yX8_citedPart, .instanceMethod yX8_citedPart, .selects RX8 yX8_citedPart yX8_citedPart, .code yX8_citedPart cX8_citedPart 4 (some .int), .fieldLink RX8 18 "LineCites$Work" "citedParts" "[I", .constant RX9 88 (-1000001)] ++ wsX90 ++ wsX80)
set_option maxRecDepth 20000 in
theorem g_X9_meet_X8_hasCitation : GoodIn w_X9_meet (wsV RX9 182 RX8 yX8_hasCitation w_X8_hasCitation) := goodIn_r _ [2, 3, 4, 5, 6, 7, 8, 9, 5, 10, 11, 27, 28, 29, 30, 31, 32, 33, 34] rfl (by decide +kernel)
set_option maxHeartbeats 4000000 in
set_option maxRecDepth 100000 in
theorem c_X9_meet (l : Launch) (D : va_G) (h0 : Nat) (i_0 : Int32) (i_1 : Int32) (i_2 : Int32) (a_tape : Nat) (a_now : Nat) (a_draft : Nat) (a_reader : Nat) (a_acts : Nat) (a_images : Nat) (a_one : Nat) (a_other : Nat) (a_third : Nat) (a_spans : Nat) (a_back : Nat) (a_span : Nat) (a_middle : Nat) (a_reached : Nat) (b_sc : Nat) (b_sp : Nat) (b_cp : Nat) (b_sn : Nat) (b_sl : Nat) (k_c : ClassId) : Met l yX9_meet w_X9_meet ({ frames := 2, cells := 0, slots := 0, locals := 44 }) (va_Pc [.ref h0, .int i_0, .int i_1, .int i_2] (fun U => va_P D vwCl [(h0, .inr (9, [.ref a_tape, .ref a_now, .ref a_draft, .ref a_reader, .ref a_acts, .ref a_images, .ref a_one, .ref a_other, .ref a_third, .ref a_spans, .ref a_back, .ref a_span, .ref a_middle, .ref a_reached])), (a_now, .inr (8, [.ref b_sc, .ref b_sp, .ref b_cp, .ref b_sn, .ref b_sl, .int 0, .int 0, .int 0])), (b_cp, .inl (k_c, 32, .inl (fun _ => 0)))] U.heap ∧ va_K D vwCl [(k_c, .int)] U)) (va_Qi (fun (r : Int32) (_ : Unit) => r = (-1000001)) (fun _ _ => True) (fun _ => False)) 0 0 (fun _ => False) := by
  refine Met.ofW (cc := cX9_meet) (maxL := 8) (ret := (some .int)) (by decide) rfl ?_
  intro p e s m args below meth c s₁ B hml hv
  obtain ⟨rfl, hP, hK⟩ := hv
  have hx := B.exec
  have hb := B.bytes
  have hr := B.returns
  have hts := atoms_spec (ws := w_X9_meet) B.pre
  have hown : s.vm.findClass RX9 = some m.cls := findClass_of_methodNamed B.named
  have hlocks := B.notSynchronized
  have hS : va_S (fun _ : Nat => False) s.heap s.heap [] := va_S.rf
  have hP : va_P D vwCl [(h0, .inr (9, [.ref a_tape, .ref a_now, .ref a_draft, .ref a_reader, .ref a_acts, .ref a_images, .ref a_one, .ref a_other, .ref a_third, .ref a_spans, .ref a_back, .ref a_span, .ref a_middle, .ref a_reached])), (a_now, .inr (8, [.ref b_sc, .ref b_sp, .ref b_cp, .ref b_sn, .ref b_sl, .int 0, .int 0, .int 0])), (b_cp, .inl (k_c, 32, .inl (fun _ => 0)))] s.heap := hP
  have hl := lv_entry ([.ref h0, .int i_0, .int i_1, .int i_2]) (n := 8) (Nat.le_of_ble_eq_true rfl)
  rw [lg_entry_eq]
  generalize (lg_sl ([.ref h0, .int i_0, .int i_1, .int i_2]) ++ List.replicate (8 - (lg_sl ([.ref h0, .int i_0, .int i_1, .int i_2])).length) Slot.unset).toArray = ls at hl ⊢
  have hl : lv_has ls 8 [(0, .ref h0), (1, .int i_0), (2, .int i_1), (3, .int i_2)] := hl
  obtain ⟨H, hHe⟩ : ∃ H : Heap, H = s.heap := ⟨_, rfl⟩
  rw [← hHe] at hP
  have hS : va_S (fun _ : Nat => False) s.heap H [] := by rw [hHe]; exact hS
  refine pw_heap hHe ?_
  refine lv_aload_n hx hb dX9_meet_0 rfl (lv_at hl 0 rfl) ?_
  refine va_get (D := D) (ci := 9) (v := .ref a_now) (C := RX9) (T := TX9) (N := 14) hx hb hts (fun _ h => List.mem_cons_of_mem _ (List.mem_append_left _ (List.mem_append_right _ h))) hown hK hP 0 rfl rfl 1 (by decide) (hts (.fieldLink RX9 19 "LineCites" "now" "LLineCites$Work;") (List.mem_of_getElem? (i := 1) rfl)) (fun _ h9 => h9) rfl dX9_meet_1 ?_
  refine lv_iload_n hx hb dX9_meet_4 rfl (lv_at hl 1 rfl) ?_
  have hPc := hP.sub (ws' := [(a_now, .inr (8, [.ref b_sc, .ref b_sp, .ref b_cp, .ref b_sn, .ref b_sl, .int 0, .int 0, .int 0])), (b_cp, .inl (k_c, 32, .inl (fun _ => 0)))]) [1, 2] rfl
  have hKc := hK.sub (tys' := [(k_c, .int)]) [0] rfl
  refine va_calli (va_runV (As := [.int i_0]) (rest := []) ⟨hx, hb, hml, hown, hts⟩ (c_X8_hasCitation l D a_now i_0 b_sc b_sp b_cp b_sn b_sl k_c) (cwV 1 hts g_X9_meet_X8_hasCitation rfl rfl rfl (by decide +kernel) ⟨Nat.le_of_ble_eq_true rfl, Nat.le_of_ble_eq_true rfl⟩) ⟨fun a U g mk q => by obtain ⟨q0, qP, qK⟩ := q; exact ⟨q0, qP, va_K.moved (u := U) (U := U.calling g mk a) (Vm.Alike.refl U.vm) qK⟩, va_recv hKc hPc (ci := 8) (q0 := 0) rfl rfl, fun U hU hW => ⟨rfl, by rw [hU]; exact hPc, va_K.moved hW.alike hKc⟩⟩ rfl rfl hl.1 rfl (lv_room (Nat.le_of_ble_eq_true rfl)) dX9_meet_5 ⟨Nat.le_of_ble_eq_true rfl, Nat.le_of_ble_eq_true rfl⟩) hS (fun _ _ h => h.elim) (fun _ h => h.elim) (fun r1 u t H1 locs ht hvm hw hB hz1 hk1 hS => ?_)
  have hP := pw_keep hP (fun q hq => hk1 q hq (fun h => h))
  generalize H1 = H at hP hS ⊢
  refine W.widen (k := 0) (n := 0) (Nat.le_of_ble_eq_true rfl) (Nat.le_of_ble_eq_true rfl) ?_
  obtain rfl : r1 = 0 := hw
  refine lv_if_eq (tgt := 31) hx hb dX9_meet_8 (by decide) (fun c2 => ?_) (fun c2 => absurd (by decide) c2)
  refine lv_ldc hx hb hown (hts (.constant RX9 88 (-1000001)) (List.mem_of_getElem? (i := 12) rfl)) dX9_meet_31 ?_
  exact W.iret (v := (-1000001)) hx hb hr (fun t ht hW => ⟨⟨(-1000001), (), rfl, rfl, trivial⟩, hS.F ht⟩) hS.2.2 dX9_meet_33
def w_X9_could : List Cond := .code yX9_could cX9_could 5 (some .int) :: ([.fieldLink RX9 19 "LineCites" "now" "LLineCites$Work;", .methodLink RX9 182 yX8_hasCitation, .instanceMethod yX8_hasCitation, .selects RX8 yX8_hasCitation yX8_hasCitation, .initialized RX8, .code yX8_hasCitation cX8_hasCitation 2 (some .boolean), .methodLink RX8 89 yX8_citedPart, .instanceMethod yX8_citedPart, .selects RX8 yX8_citedPart yX8_citedPart, .code yX8_citedPart cX8_citedPart 4 (some .int), .fieldLink RX8 18 "LineCites$Work" "citedParts" "[I", .constant RX9 88 (-1000001)] ++ wsX90 ++ wsX80)
set_option maxRecDepth 20000 in
theorem g_X9_could_X8_hasCitation : GoodIn w_X9_could (wsV RX9 182 RX8 yX8_hasCitation w_X8_hasCitation) := goodIn_r _ [2, 3, 4, 5, 6, 7, 8, 9, 5, 10, 11, 27, 28, 29, 30, 31, 32, 33, 34] rfl (by decide +kernel)
set_option maxHeartbeats 4000000 in
set_option maxRecDepth 100000 in
theorem c_X9_could (l : Launch) (D : va_G) (h0 : Nat) (i_0 : Int32) (i_1 : Int32) (a_tape : Nat) (a_now : Nat) (a_draft : Nat) (a_reader : Nat) (a_acts : Nat) (a_images : Nat) (a_one : Nat) (a_other : Nat) (a_third : Nat) (a_spans : Nat) (a_back : Nat) (a_span : Nat) (a_middle : Nat) (a_reached : Nat) (b_sc : Nat) (b_sp : Nat) (b_cp : Nat) (b_sn : Nat) (b_sl : Nat) (k_c : ClassId) : Met l yX9_could w_X9_could ({ frames := 2, cells := 0, slots := 0, locals := 44 }) (va_Pc [.ref h0, .int i_0, .int i_1] (fun U => va_P D vwCl [(h0, .inr (9, [.ref a_tape, .ref a_now, .ref a_draft, .ref a_reader, .ref a_acts, .ref a_images, .ref a_one, .ref a_other, .ref a_third, .ref a_spans, .ref a_back, .ref a_span, .ref a_middle, .ref a_reached])), (a_now, .inr (8, [.ref b_sc, .ref b_sp, .ref b_cp, .ref b_sn, .ref b_sl, .int 0, .int 0, .int 0])), (b_cp, .inl (k_c, 32, .inl (fun _ => 0)))] U.heap ∧ va_K D vwCl [(k_c, .int)] U)) (va_Qi (fun (r : Int32) (_ : Unit) => r = (-1000001)) (fun _ _ => True) (fun _ => False)) 0 0 (fun _ => False) := by
  refine Met.ofW (cc := cX9_could) (maxL := 5) (ret := (some .int)) (by decide) rfl ?_
  intro p e s m args below meth c s₁ B hml hv
  obtain ⟨rfl, hP, hK⟩ := hv
  have hx := B.exec
  have hb := B.bytes
  have hr := B.returns
  have hts := atoms_spec (ws := w_X9_could) B.pre
  have hown : s.vm.findClass RX9 = some m.cls := findClass_of_methodNamed B.named
  have hlocks := B.notSynchronized
  have hS : va_S (fun _ : Nat => False) s.heap s.heap [] := va_S.rf
  have hP : va_P D vwCl [(h0, .inr (9, [.ref a_tape, .ref a_now, .ref a_draft, .ref a_reader, .ref a_acts, .ref a_images, .ref a_one, .ref a_other, .ref a_third, .ref a_spans, .ref a_back, .ref a_span, .ref a_middle, .ref a_reached])), (a_now, .inr (8, [.ref b_sc, .ref b_sp, .ref b_cp, .ref b_sn, .ref b_sl, .int 0, .int 0, .int 0])), (b_cp, .inl (k_c, 32, .inl (fun _ => 0)))] s.heap := hP
  have hl := lv_entry ([.ref h0, .int i_0, .int i_1]) (n := 5) (Nat.le_of_ble_eq_true rfl)
  rw [lg_entry_eq]
  generalize (lg_sl ([.ref h0, .int i_0, .int i_1]) ++ List.replicate (5 - (lg_sl ([.ref h0, .int i_0, .int i_1])).length) Slot.unset).toArray = ls at hl ⊢
  have hl : lv_has ls 5 [(0, .ref h0), (1, .int i_0), (2, .int i_1)] := hl
  obtain ⟨H, hHe⟩ : ∃ H : Heap, H = s.heap := ⟨_, rfl⟩
  rw [← hHe] at hP
  have hS : va_S (fun _ : Nat => False) s.heap H [] := by rw [hHe]; exact hS
  refine pw_heap hHe ?_
  refine lv_aload_n hx hb dX9_could_0 rfl (lv_at hl 0 rfl) ?_
  refine va_get (D := D) (ci := 9) (v := .ref a_now) (C := RX9) (T := TX9) (N := 14) hx hb hts (fun _ h => List.mem_cons_of_mem _ (List.mem_append_left _ (List.mem_append_right _ h))) hown hK hP 0 rfl rfl 1 (by decide) (hts (.fieldLink RX9 19 "LineCites" "now" "LLineCites$Work;") (List.mem_of_getElem? (i := 1) rfl)) (fun _ h9 => h9) rfl dX9_could_1 ?_
  refine lv_iload_n hx hb dX9_could_4 rfl (lv_at hl 1 rfl) ?_
  have hPc := hP.sub (ws' := [(a_now, .inr (8, [.ref b_sc, .ref b_sp, .ref b_cp, .ref b_sn, .ref b_sl, .int 0, .int 0, .int 0])), (b_cp, .inl (k_c, 32, .inl (fun _ => 0)))]) [1, 2] rfl
  have hKc := hK.sub (tys' := [(k_c, .int)]) [0] rfl
  refine va_calli (va_runV (As := [.int i_0]) (rest := []) ⟨hx, hb, hml, hown, hts⟩ (c_X8_hasCitation l D a_now i_0 b_sc b_sp b_cp b_sn b_sl k_c) (cwV 1 hts g_X9_could_X8_hasCitation rfl rfl rfl (by decide +kernel) ⟨Nat.le_of_ble_eq_true rfl, Nat.le_of_ble_eq_true rfl⟩) ⟨fun a U g mk q => by obtain ⟨q0, qP, qK⟩ := q; exact ⟨q0, qP, va_K.moved (u := U) (U := U.calling g mk a) (Vm.Alike.refl U.vm) qK⟩, va_recv hKc hPc (ci := 8) (q0 := 0) rfl rfl, fun U hU hW => ⟨rfl, by rw [hU]; exact hPc, va_K.moved hW.alike hKc⟩⟩ rfl rfl hl.1 rfl (lv_room (Nat.le_of_ble_eq_true rfl)) dX9_could_5 ⟨Nat.le_of_ble_eq_true rfl, Nat.le_of_ble_eq_true rfl⟩) hS (fun _ _ h => h.elim) (fun _ h => h.elim) (fun r1 u t H1 locs ht hvm hw hB hz1 hk1 hS => ?_)
  have hP := pw_keep hP (fun q hq => hk1 q hq (fun h => h))
  generalize H1 = H at hP hS ⊢
  refine W.widen (k := 0) (n := 0) (Nat.le_of_ble_eq_true rfl) (Nat.le_of_ble_eq_true rfl) ?_
  obtain rfl : r1 = 0 := hw
  refine lv_if_eq (tgt := 22) hx hb dX9_could_8 (by decide) (fun c2 => ?_) (fun c2 => absurd (by decide) c2)
  refine lv_ldc hx hb hown (hts (.constant RX9 88 (-1000001)) (List.mem_of_getElem? (i := 12) rfl)) dX9_could_22 ?_
  exact W.iret (v := (-1000001)) hx hb hr (fun t ht hW => ⟨⟨(-1000001), (), rfl, rfl, trivial⟩, hS.F ht⟩) hS.2.2 dX9_could_24
def w_X9_best : List Cond := .code yX9_best cX9_best 5 (some .int) :: ([.fieldLink RX9 19 "LineCites" "now" "LLineCites$Work;", .methodLink RX9 248 yX8_lines, .instanceMethod yX8_lines, .selects RX8 yX8_lines yX8_lines, .initialized RX8, .code yX8_lines cX8_lines 1 (some .int), .fieldLink RX8 33 "LineCites$Work" "lines" "I", .constant RX9 137 (-1000002)] ++ wsX90 ++ wsX80)
set_option maxRecDepth 20000 in
theorem g_X9_best_X8_lines : GoodIn w_X9_best (wsV RX9 248 RX8 yX8_lines w_X8_lines) := goodIn_r _ [2, 3, 4, 5, 6, 7, 23, 24, 25, 26, 27, 28, 29, 30] rfl (by decide +kernel)
set_option maxHeartbeats 4000000 in
set_option maxRecDepth 100000 in
theorem c_X9_best (l : Launch) (D : va_G) (h0 : Nat) (a_tape : Nat) (a_now : Nat) (a_draft : Nat) (a_reader : Nat) (a_acts : Nat) (a_images : Nat) (a_one : Nat) (a_other : Nat) (a_third : Nat) (a_spans : Nat) (a_back : Nat) (a_span : Nat) (a_middle : Nat) (a_reached : Nat) (b_sc : Nat) (b_sp : Nat) (b_cp : Nat) (b_sn : Nat) (b_sl : Nat) : Met l yX9_best w_X9_best ({ frames := 1, cells := 0, slots := 0, locals := 20 }) (va_Pc [.ref h0] (fun U => va_P D vwCl [(h0, .inr (9, [.ref a_tape, .ref a_now, .ref a_draft, .ref a_reader, .ref a_acts, .ref a_images, .ref a_one, .ref a_other, .ref a_third, .ref a_spans, .ref a_back, .ref a_span, .ref a_middle, .ref a_reached])), (a_now, .inr (8, [.ref b_sc, .ref b_sp, .ref b_cp, .ref b_sn, .ref b_sl, .int 0, .int 0, .int 0]))] U.heap ∧ va_K D vwCl [] U)) (va_Qi (fun (r : Int32) (_ : Unit) => r = (-1000002)) (fun _ _ => True) (fun _ => False)) 0 0 (fun _ => False) := by
  refine Met.ofW (cc := cX9_best) (maxL := 5) (ret := (some .int)) (by decide) rfl ?_
  intro p e s m args below meth c s₁ B hml hv
  obtain ⟨rfl, hP, hK⟩ := hv
  have hx := B.exec
  have hb := B.bytes
  have hr := B.returns
  have hts := atoms_spec (ws := w_X9_best) B.pre
  have hown : s.vm.findClass RX9 = some m.cls := findClass_of_methodNamed B.named
  have hlocks := B.notSynchronized
  have hS : va_S (fun _ : Nat => False) s.heap s.heap [] := va_S.rf
  have hP : va_P D vwCl [(h0, .inr (9, [.ref a_tape, .ref a_now, .ref a_draft, .ref a_reader, .ref a_acts, .ref a_images, .ref a_one, .ref a_other, .ref a_third, .ref a_spans, .ref a_back, .ref a_span, .ref a_middle, .ref a_reached])), (a_now, .inr (8, [.ref b_sc, .ref b_sp, .ref b_cp, .ref b_sn, .ref b_sl, .int 0, .int 0, .int 0]))] s.heap := hP
  have hl := lv_entry ([.ref h0]) (n := 5) (Nat.le_of_ble_eq_true rfl)
  rw [lg_entry_eq]
  generalize (lg_sl ([.ref h0]) ++ List.replicate (5 - (lg_sl ([.ref h0])).length) Slot.unset).toArray = ls at hl ⊢
  have hl : lv_has ls 5 [(0, .ref h0)] := hl
  obtain ⟨H, hHe⟩ : ∃ H : Heap, H = s.heap := ⟨_, rfl⟩
  rw [← hHe] at hP
  have hS : va_S (fun _ : Nat => False) s.heap H [] := by rw [hHe]; exact hS
  refine pw_heap hHe ?_
  refine lv_aload_n hx hb dX9_best_0 rfl (lv_at hl 0 rfl) ?_
  refine va_get (D := D) (ci := 9) (v := .ref a_now) (C := RX9) (T := TX9) (N := 14) hx hb hts (fun _ h => List.mem_cons_of_mem _ (List.mem_append_left _ (List.mem_append_right _ h))) hown hK hP 0 rfl rfl 1 (by decide) (hts (.fieldLink RX9 19 "LineCites" "now" "LLineCites$Work;") (List.mem_of_getElem? (i := 1) rfl)) (fun _ h9 => h9) rfl dX9_best_1 ?_
  have hPc := hP.sub (ws' := [(a_now, .inr (8, [.ref b_sc, .ref b_sp, .ref b_cp, .ref b_sn, .ref b_sl, .int 0, .int 0, .int 0]))]) [1] rfl
  have hKc := hK.sub (tys' := []) [] rfl
  refine va_calli (va_runV (As := []) (rest := []) ⟨hx, hb, hml, hown, hts⟩ (c_X8_lines l D a_now b_sc b_sp b_cp b_sn b_sl) (cwV 0 hts g_X9_best_X8_lines rfl rfl rfl (by decide +kernel) ⟨Nat.le_of_ble_eq_true rfl, Nat.le_of_ble_eq_true rfl⟩) ⟨fun a U g mk q => by obtain ⟨q0, qP, qK⟩ := q; exact ⟨q0, qP, va_K.moved (u := U) (U := U.calling g mk a) (Vm.Alike.refl U.vm) qK⟩, va_recv hKc hPc (ci := 8) (q0 := 0) rfl rfl, fun U hU hW => ⟨rfl, by rw [hU]; exact hPc, va_K.moved hW.alike hKc⟩⟩ rfl rfl hl.1 rfl (lv_room (Nat.le_of_ble_eq_true rfl)) dX9_best_4 ⟨Nat.le_of_ble_eq_true rfl, Nat.le_of_ble_eq_true rfl⟩) hS (fun _ _ h => h.elim) (fun _ h => h.elim) (fun r1 u t H1 locs ht hvm hw hB hz1 hk1 hS => ?_)
  have hP := pw_keep hP (fun q hq => hk1 q hq (fun h => h))
  generalize H1 = H at hP hS ⊢
  refine W.widen (k := 0) (n := 0) (Nat.le_of_ble_eq_true rfl) (Nat.le_of_ble_eq_true rfl) ?_
  obtain rfl : r1 = 0 := hw
  refine lv_if_ne (tgt := 13) hx hb dX9_best_7 (by decide) (fun c2 => absurd (by decide) c2) (fun c2 => ?_)
  refine lv_ldc hx hb hown (hts (.constant RX9 137 (-1000002)) (List.mem_of_getElem? (i := 8) rfl)) dX9_best_10 ?_
  exact W.iret (v := (-1000002)) hx hb hr (fun t ht hW => ⟨⟨(-1000002), (), rfl, rfl, trivial⟩, hS.F ht⟩) hS.2.2 dX9_best_12
def w_X9_image : List Cond := .code yX9_image cX9_image 3 (some .int) :: ([.constant RX9 88 (-1000001), .fieldLink RX9 44 "LineCites" "images" "[LLineCites$Image;", .fieldLink RX9 19 "LineCites" "now" "LLineCites$Work;", .methodLink RX9 248 yX8_lines, .instanceMethod yX8_lines, .selects RX8 yX8_lines yX8_lines, .initialized RX8, .code yX8_lines cX8_lines 1 (some .int), .fieldLink RX8 33 "LineCites$Work" "lines" "I", .constant RX9 137 (-1000002)] ++ wsX90 ++ wsX80)
set_option maxRecDepth 20000 in
theorem g_X9_image_X8_lines : GoodIn w_X9_image (wsV RX9 248 RX8 yX8_lines w_X8_lines) := goodIn_r _ [4, 5, 6, 7, 8, 9, 25, 26, 27, 28, 29, 30, 31, 32] rfl (by decide +kernel)
set_option maxHeartbeats 4000000 in
set_option maxRecDepth 100000 in
theorem c_X9_image (l : Launch) (D : va_G) (h0 : Nat) (i_0 : Int32) (a_tape : Nat) (a_now : Nat) (a_draft : Nat) (a_reader : Nat) (a_acts : Nat) (a_images : Nat) (a_one : Nat) (a_other : Nat) (a_third : Nat) (a_spans : Nat) (a_back : Nat) (a_span : Nat) (a_middle : Nat) (a_reached : Nat) (b_sc : Nat) (b_sp : Nat) (b_cp : Nat) (b_sn : Nat) (b_sl : Nat) (k_i : ClassId) : Met l yX9_image w_X9_image ({ frames := 1, cells := 0, slots := 0, locals := 20 }) (va_Pc [.ref h0, .int i_0] (fun U => va_P D vwCl [(h0, .inr (9, [.ref a_tape, .ref a_now, .ref a_draft, .ref a_reader, .ref a_acts, .ref a_images, .ref a_one, .ref a_other, .ref a_third, .ref a_spans, .ref a_back, .ref a_span, .ref a_middle, .ref a_reached])), (a_now, .inr (8, [.ref b_sc, .ref b_sp, .ref b_cp, .ref b_sn, .ref b_sl, .int 0, .int 0, .int 0])), (a_images, .inl (k_i, 2, .inr (.inr (.inr (.inr (fun _ => none))))))] U.heap ∧ va_K D vwCl [(k_i, .object RX1)] U)) (va_Qi (fun (r : Int32) (_ : Unit) => r = sp_rng i_0 1 (-1000002) (-1000001)) (fun _ _ => True) (fun _ => False)) 0 0 (fun _ => False) := by
  refine Met.ofW (cc := cX9_image) (maxL := 3) (ret := (some .int)) (by decide) rfl ?_
  intro p e s m args below meth c s₁ B hml hv
  obtain ⟨rfl, hP, hK⟩ := hv
  have hx := B.exec
  have hb := B.bytes
  have hr := B.returns
  have hts := atoms_spec (ws := w_X9_image) B.pre
  have hown : s.vm.findClass RX9 = some m.cls := findClass_of_methodNamed B.named
  have hlocks := B.notSynchronized
  have hS : va_S (fun _ : Nat => False) s.heap s.heap [] := va_S.rf
  have hP : va_P D vwCl [(h0, .inr (9, [.ref a_tape, .ref a_now, .ref a_draft, .ref a_reader, .ref a_acts, .ref a_images, .ref a_one, .ref a_other, .ref a_third, .ref a_spans, .ref a_back, .ref a_span, .ref a_middle, .ref a_reached])), (a_now, .inr (8, [.ref b_sc, .ref b_sp, .ref b_cp, .ref b_sn, .ref b_sl, .int 0, .int 0, .int 0])), (a_images, .inl (k_i, 2, .inr (.inr (.inr (.inr (fun _ => none))))))] s.heap := hP
  have hl := lv_entry ([.ref h0, .int i_0]) (n := 3) (Nat.le_of_ble_eq_true rfl)
  rw [lg_entry_eq]
  generalize (lg_sl ([.ref h0, .int i_0]) ++ List.replicate (3 - (lg_sl ([.ref h0, .int i_0])).length) Slot.unset).toArray = ls at hl ⊢
  have hl : lv_has ls 3 [(0, .ref h0), (1, .int i_0)] := hl
  obtain ⟨H, hHe⟩ : ∃ H : Heap, H = s.heap := ⟨_, rfl⟩
  rw [← hHe] at hP
  have hS : va_S (fun _ : Nat => False) s.heap H [] := by rw [hHe]; exact hS
  refine pw_heap hHe ?_
  refine lv_iload_n hx hb dX9_image_0 rfl (lv_at hl 1 rfl) ?_
  refine lv_if_lt (tgt := 13) hx hb dX9_image_1 (by decide) (fun c1 => ?_) (fun c1 => ?_)
  · have nc1 : i_0.toInt < 0 := pw_lt c1 rfl (by decide)
    refine lv_ldc hx hb hown (hts (.constant RX9 88 (-1000001)) (List.mem_of_getElem? (i := 1) rfl)) dX9_image_13 ?_
    exact W.iret (v := (-1000001)) hx hb hr (fun t ht hW => ⟨⟨(-1000001), (), rfl, sp_out (by omega), trivial⟩, hS.F ht⟩) hS.2.2 dX9_image_15
  · have nc1 : 0 ≤ i_0.toInt := pw_nlt c1 rfl (by decide)
    refine lv_iload_n hx hb dX9_image_4 rfl (lv_at hl 1 rfl) ?_
    refine lv_aload_n hx hb dX9_image_5 rfl (lv_at hl 0 rfl) ?_
    refine va_get (D := D) (ci := 9) (v := .ref a_images) (C := RX9) (T := TX9) (N := 14) hx hb hts (fun _ h => List.mem_cons_of_mem _ (List.mem_append_left _ (List.mem_append_right _ h))) hown hK hP 0 rfl rfl 5 (by decide) (hts (.fieldLink RX9 44 "LineCites" "images" "[LLineCites$Image;") (List.mem_of_getElem? (i := 2) rfl)) (fun _ h9 => h9) rfl dX9_image_6 ?_
    refine va_alen (v := 2) hx hb hK hP 2 0 rfl rfl (by decide) dX9_image_9 ?_
    refine lv_icmp_lt (tgt := 16) hx hb dX9_image_10 (by decide) (fun c2 => ?_) (fun c2 => ?_)
    · have nc2 : i_0.toInt < 2 := pw_lt c2 rfl (by decide)
      refine lv_aload_n hx hb dX9_image_16 rfl (lv_at hl 0 rfl) ?_
      refine va_get (D := D) (ci := 9) (v := .ref a_now) (C := RX9) (T := TX9) (N := 14) hx hb hts (fun _ h => List.mem_cons_of_mem _ (List.mem_append_left _ (List.mem_append_right _ h))) hown hK hP 0 rfl rfl 1 (by decide) (hts (.fieldLink RX9 19 "LineCites" "now" "LLineCites$Work;") (List.mem_of_getElem? (i := 3) rfl)) (fun _ h9 => h9) rfl dX9_image_17 ?_
      have hPc := hP.sub (ws' := [(a_now, .inr (8, [.ref b_sc, .ref b_sp, .ref b_cp, .ref b_sn, .ref b_sl, .int 0, .int 0, .int 0]))]) [1] rfl
      have hKc := hK.sub (tys' := []) [] rfl
      refine va_calli (va_runV (As := []) (rest := []) ⟨hx, hb, hml, hown, hts⟩ (c_X8_lines l D a_now b_sc b_sp b_cp b_sn b_sl) (cwV 0 hts g_X9_image_X8_lines rfl rfl rfl (by decide +kernel) ⟨Nat.le_of_ble_eq_true rfl, Nat.le_of_ble_eq_true rfl⟩) ⟨fun a U g mk q => by obtain ⟨q0, qP, qK⟩ := q; exact ⟨q0, qP, va_K.moved (u := U) (U := U.calling g mk a) (Vm.Alike.refl U.vm) qK⟩, va_recv hKc hPc (ci := 8) (q0 := 0) rfl rfl, fun U hU hW => ⟨rfl, by rw [hU]; exact hPc, va_K.moved hW.alike hKc⟩⟩ rfl rfl hl.1 rfl (lv_room (Nat.le_of_ble_eq_true rfl)) dX9_image_20 ⟨Nat.le_of_ble_eq_true rfl, Nat.le_of_ble_eq_true rfl⟩) hS (fun _ _ h => h.elim) (fun _ h => h.elim) (fun r3 u t H1 locs ht hvm hw hB hz1 hk1 hS => ?_)
      have hP := pw_keep hP (fun q hq => hk1 q hq (fun h => h))
      generalize H1 = H at hP hS ⊢
      refine W.widen (k := 0) (n := 0) (Nat.le_of_ble_eq_true rfl) (Nat.le_of_ble_eq_true rfl) ?_
      obtain rfl : r3 = 0 := hw
      refine lv_if_ne (tgt := 29) hx hb dX9_image_23 (by decide) (fun c4 => absurd (by decide) c4) (fun c4 => ?_)
      refine lv_ldc hx hb hown (hts (.constant RX9 137 (-1000002)) (List.mem_of_getElem? (i := 10) rfl)) dX9_image_26 ?_
      exact W.iret (v := (-1000002)) hx hb hr (fun t ht hW => ⟨⟨(-1000002), (), rfl, sp_in (by omega) (by omega), trivial⟩, hS.F ht⟩) hS.2.2 dX9_image_28
    · have nc2 : 2 ≤ i_0.toInt := pw_nlt c2 rfl (by decide)
      refine lv_ldc hx hb hown (hts (.constant RX9 88 (-1000001)) (List.mem_of_getElem? (i := 1) rfl)) dX9_image_13 ?_
      exact W.iret (v := (-1000001)) hx hb hr (fun t ht hW => ⟨⟨(-1000001), (), rfl, sp_out (by omega), trivial⟩, hS.F ht⟩) hS.2.2 dX9_image_15
def w_X9_restore : List Cond := .code yX9_restore cX9_restore 3 (some .int) :: ([.constant RX9 88 (-1000001), .fieldLink RX9 44 "LineCites" "images" "[LLineCites$Image;", .constant RX9 137 (-1000002)] ++ wsX90)
set_option maxHeartbeats 4000000 in
set_option maxRecDepth 100000 in
theorem c_X9_restore (l : Launch) (D : va_G) (h0 : Nat) (i_0 : Int32) (a_tape : Nat) (a_now : Nat) (a_draft : Nat) (a_reader : Nat) (a_acts : Nat) (a_images : Nat) (a_one : Nat) (a_other : Nat) (a_third : Nat) (a_spans : Nat) (a_back : Nat) (a_span : Nat) (a_middle : Nat) (a_reached : Nat) (k_i : ClassId) : Met l yX9_restore w_X9_restore ({ frames := 0, cells := 0, slots := 0, locals := 0 }) (va_Pc [.ref h0, .int i_0] (fun U => va_P D vwCl [(h0, .inr (9, [.ref a_tape, .ref a_now, .ref a_draft, .ref a_reader, .ref a_acts, .ref a_images, .ref a_one, .ref a_other, .ref a_third, .ref a_spans, .ref a_back, .ref a_span, .ref a_middle, .ref a_reached])), (a_images, .inl (k_i, 2, .inr (.inr (.inr (.inr (fun _ => none))))))] U.heap ∧ va_K D vwCl [(k_i, .object RX1)] U)) (va_Qi (fun (r : Int32) (_ : Unit) => r = sp_rng i_0 1 (-1000002) (-1000001)) (fun _ _ => True) (fun _ => False)) 0 0 (fun _ => False) := by
  refine Met.ofW (cc := cX9_restore) (maxL := 3) (ret := (some .int)) (by decide) rfl ?_
  intro p e s m args below meth c s₁ B hml hv
  obtain ⟨rfl, hP, hK⟩ := hv
  have hx := B.exec
  have hb := B.bytes
  have hr := B.returns
  have hts := atoms_spec (ws := w_X9_restore) B.pre
  have hown : s.vm.findClass RX9 = some m.cls := findClass_of_methodNamed B.named
  have hlocks := B.notSynchronized
  have hS : va_S (fun _ : Nat => False) s.heap s.heap [] := va_S.rf
  have hP : va_P D vwCl [(h0, .inr (9, [.ref a_tape, .ref a_now, .ref a_draft, .ref a_reader, .ref a_acts, .ref a_images, .ref a_one, .ref a_other, .ref a_third, .ref a_spans, .ref a_back, .ref a_span, .ref a_middle, .ref a_reached])), (a_images, .inl (k_i, 2, .inr (.inr (.inr (.inr (fun _ => none))))))] s.heap := hP
  have hl := lv_entry ([.ref h0, .int i_0]) (n := 3) (Nat.le_of_ble_eq_true rfl)
  rw [lg_entry_eq]
  generalize (lg_sl ([.ref h0, .int i_0]) ++ List.replicate (3 - (lg_sl ([.ref h0, .int i_0])).length) Slot.unset).toArray = ls at hl ⊢
  have hl : lv_has ls 3 [(0, .ref h0), (1, .int i_0)] := hl
  obtain ⟨H, hHe⟩ : ∃ H : Heap, H = s.heap := ⟨_, rfl⟩
  rw [← hHe] at hP
  have hS : va_S (fun _ : Nat => False) s.heap H [] := by rw [hHe]; exact hS
  refine pw_heap hHe ?_
  refine lv_iload_n hx hb dX9_restore_0 rfl (lv_at hl 1 rfl) ?_
  refine lv_if_lt (tgt := 13) hx hb dX9_restore_1 (by decide) (fun c1 => ?_) (fun c1 => ?_)
  · have nc1 : i_0.toInt < 0 := pw_lt c1 rfl (by decide)
    refine lv_ldc hx hb hown (hts (.constant RX9 88 (-1000001)) (List.mem_of_getElem? (i := 1) rfl)) dX9_restore_13 ?_
    exact W.iret (v := (-1000001)) hx hb hr (fun t ht hW => ⟨⟨(-1000001), (), rfl, sp_out (by omega), trivial⟩, hS.F ht⟩) hS.2.2 dX9_restore_15
  · have nc1 : 0 ≤ i_0.toInt := pw_nlt c1 rfl (by decide)
    refine lv_iload_n hx hb dX9_restore_4 rfl (lv_at hl 1 rfl) ?_
    refine lv_aload_n hx hb dX9_restore_5 rfl (lv_at hl 0 rfl) ?_
    refine va_get (D := D) (ci := 9) (v := .ref a_images) (C := RX9) (T := TX9) (N := 14) hx hb hts (fun _ h => List.mem_cons_of_mem _ (List.mem_append_right _ h)) hown hK hP 0 rfl rfl 5 (by decide) (hts (.fieldLink RX9 44 "LineCites" "images" "[LLineCites$Image;") (List.mem_of_getElem? (i := 2) rfl)) (fun _ h9 => h9) rfl dX9_restore_6 ?_
    refine va_alen (v := 2) hx hb hK hP 1 0 rfl rfl (by decide) dX9_restore_9 ?_
    refine lv_icmp_lt (tgt := 16) hx hb dX9_restore_10 (by decide) (fun c2 => ?_) (fun c2 => ?_)
    · have nc2 : i_0.toInt < 2 := pw_lt c2 rfl (by decide)
      refine lv_aload_n hx hb dX9_restore_16 rfl (lv_at hl 0 rfl) ?_
      refine va_get (D := D) (ci := 9) (v := .ref a_images) (C := RX9) (T := TX9) (N := 14) hx hb hts (fun _ h => List.mem_cons_of_mem _ (List.mem_append_right _ h)) hown hK hP 0 rfl rfl 5 (by decide) (hts (.fieldLink RX9 44 "LineCites" "images" "[LLineCites$Image;") (List.mem_of_getElem? (i := 2) rfl)) (fun _ h9 => h9) rfl dX9_restore_17 ?_
      refine lv_iload_n hx hb dX9_restore_20 rfl (lv_at hl 1 rfl) ?_
      refine va_aldq hx hb hK hP 1 0 rfl rfl (vp_in_iff.mpr ⟨by omega, by omega⟩) dX9_restore_21 ?_
      refine W.eq (g2 := F0 m 22 ls [.null]) rfl ?_
      refine lv_astore_nN (lv' := [(2, .null), (0, .ref h0), (1, .int i_0)]) hx hb dX9_restore_22 rfl hl (by decide) rfl (fun ls hl => ?_)
      refine lv_aload_nN hx hb dX9_restore_23 rfl (lv_at hl 0 rfl) ?_
      refine lv_ifnonnullN hx hb dX9_restore_24 ?_
      refine lv_ldc hx hb hown (hts (.constant RX9 137 (-1000002)) (List.mem_of_getElem? (i := 3) rfl)) dX9_restore_27 ?_
      exact W.iret (v := (-1000002)) hx hb hr (fun t ht hW => ⟨⟨(-1000002), (), rfl, sp_in (by omega) (by omega), trivial⟩, hS.F ht⟩) hS.2.2 dX9_restore_29
    · have nc2 : 2 ≤ i_0.toInt := pw_nlt c2 rfl (by decide)
      refine lv_ldc hx hb hown (hts (.constant RX9 88 (-1000001)) (List.mem_of_getElem? (i := 1) rfl)) dX9_restore_13 ?_
      exact W.iret (v := (-1000001)) hx hb hr (fun t ht hW => ⟨⟨(-1000001), (), rfl, sp_out (by omega), trivial⟩, hS.F ht⟩) hS.2.2 dX9_restore_15
def w_X9_count : List Cond := .code yX9_count cX9_count 2 (some .int) :: ([.constant RX9 88 (-1000001), .fieldLink RX9 19 "LineCites" "now" "LLineCites$Work;", .methodLink RX9 248 yX8_lines, .instanceMethod yX8_lines, .selects RX8 yX8_lines yX8_lines, .initialized RX8, .code yX8_lines cX8_lines 1 (some .int), .fieldLink RX8 33 "LineCites$Work" "lines" "I", .methodLink RX9 126 yX8_editions, .instanceMethod yX8_editions, .selects RX8 yX8_editions yX8_editions, .code yX8_editions cX8_editions 1 (some .int), .fieldLink RX8 37 "LineCites$Work" "editions" "I", .methodLink RX9 339 yX8_stretches, .instanceMethod yX8_stretches, .selects RX8 yX8_stretches yX8_stretches, .code yX8_stretches cX8_stretches 3 (some .int), .methodLink RX9 188 yX8_citations, .instanceMethod yX8_citations, .selects RX8 yX8_citations yX8_citations, .code yX8_citations cX8_citations 3 (some .int), .methodLink RX8 97 yX8_hasCitation, .instanceMethod yX8_hasCitation, .selects RX8 yX8_hasCitation yX8_hasCitation, .code yX8_hasCitation cX8_hasCitation 2 (some .boolean), .methodLink RX8 89 yX8_citedPart, .instanceMethod yX8_citedPart, .selects RX8 yX8_citedPart yX8_citedPart, .code yX8_citedPart cX8_citedPart 4 (some .int), .fieldLink RX8 18 "LineCites$Work" "citedParts" "[I", .methodLink RX9 194 yX8_seen, .instanceMethod yX8_seen, .selects RX8 yX8_seen yX8_seen, .code yX8_seen cX8_seen 1 (some .int), .fieldLink RX8 40 "LineCites$Work" "seen" "I", .fieldLink RX9 38 "LineCites" "acts" "LLineCites$Acts;", .methodLink RX9 136 yX0_size, .instanceMethod yX0_size, .selects RX0 yX0_size yX0_size, .initialized RX0, .code yX0_size cX0_size 1 (some .int), .fieldLink RX0 17 "LineCites$Acts" "size" "I", .fieldLink RX9 10 "LineCites" "tape" "LLineCites$Tape;", .methodLink RX9 93 yX7_size, .instanceMethod yX7_size, .selects RX7 yX7_size yX7_size, .initialized RX7, .code yX7_size cX7_size 1 (some .int), .fieldLink RX7 15 "LineCites$Tape" "size" "I"] ++ wsX90 ++ wsX80 ++ wsX00 ++ wsX70)
set_option maxRecDepth 20000 in
theorem g_X9_count_X8_lines : GoodIn w_X9_count (wsV RX9 248 RX8 yX8_lines w_X8_lines) := goodIn_r _ [3, 4, 5, 6, 7, 8, 64, 65, 66, 67, 68, 69, 70, 71] rfl (by decide +kernel)
set_option maxRecDepth 20000 in
theorem g_X9_count_X8_editions : GoodIn w_X9_count (wsV RX9 126 RX8 yX8_editions w_X8_editions) := goodIn_r _ [9, 10, 11, 6, 12, 13, 64, 65, 66, 67, 68, 69, 70, 71] rfl (by decide +kernel)
set_option maxRecDepth 20000 in
theorem g_X9_count_X8_stretches : GoodIn w_X9_count (wsV RX9 339 RX8 yX8_stretches w_X8_stretches) := goodIn_r _ [14, 15, 16, 6, 17, 13, 64, 65, 66, 67, 68, 69, 70, 71] rfl (by decide +kernel)
set_option maxRecDepth 20000 in
theorem g_X9_count_X8_citations : GoodIn w_X9_count (wsV RX9 188 RX8 yX8_citations w_X8_citations) := goodIn_r _ [18, 19, 20, 6, 21, 22, 23, 24, 6, 25, 26, 27, 28, 29, 30, 64, 65, 66, 67, 68, 69, 70, 71] rfl (by decide +kernel)
set_option maxRecDepth 20000 in
theorem g_X9_count_X8_seen : GoodIn w_X9_count (wsV RX9 194 RX8 yX8_seen w_X8_seen) := goodIn_r _ [31, 32, 33, 6, 34, 35, 64, 65, 66, 67, 68, 69, 70, 71] rfl (by decide +kernel)
set_option maxRecDepth 20000 in
theorem g_X9_count_X0_size : GoodIn w_X9_count (wsV RX9 136 RX0 yX0_size w_X0_size) := goodIn_r _ [37, 38, 39, 40, 41, 42, 72, 73, 74] rfl (by decide +kernel)
set_option maxRecDepth 20000 in
theorem g_X9_count_X7_size : GoodIn w_X9_count (wsV RX9 93 RX7 yX7_size w_X7_size) := goodIn_r _ [44, 45, 46, 47, 48, 49, 75, 76, 77] rfl (by decide +kernel)
set_option maxHeartbeats 4000000 in
set_option maxRecDepth 100000 in
theorem c_X9_count (l : Launch) (D : va_G) (h0 : Nat) (i_0 : Int32) (a_tape : Nat) (a_now : Nat) (a_draft : Nat) (a_reader : Nat) (a_acts : Nat) (a_images : Nat) (a_one : Nat) (a_other : Nat) (a_third : Nat) (a_spans : Nat) (a_back : Nat) (a_span : Nat) (a_middle : Nat) (a_reached : Nat) (b_sc : Nat) (b_sp : Nat) (b_cp : Nat) (b_sn : Nat) (b_sl : Nat) (k_c : ClassId) (a_ring : Nat) (a_b : Nat) : Met l yX9_count w_X9_count ({ frames := 3, cells := 0, slots := 0, locals := 66 }) (va_Pc [.ref h0, .int i_0] (fun U => va_P D vwCl [(h0, .inr (9, [.ref a_tape, .ref a_now, .ref a_draft, .ref a_reader, .ref a_acts, .ref a_images, .ref a_one, .ref a_other, .ref a_third, .ref a_spans, .ref a_back, .ref a_span, .ref a_middle, .ref a_reached])), (a_now, .inr (8, [.ref b_sc, .ref b_sp, .ref b_cp, .ref b_sn, .ref b_sl, .int 0, .int 0, .int 0])), (b_cp, .inl (k_c, 32, .inl (fun _ => 0))), (a_acts, .inr (0, [.ref a_ring, .int 0, .int 0])), (a_tape, .inr (7, [.ref a_b, .int 0, .int 0]))] U.heap ∧ va_K D vwCl [(k_c, .int)] U)) (va_Qi (fun (r : Int32) (_ : Unit) => r = sp_rng i_0 6 0 (-1000001)) (fun _ _ => True) (fun _ => False)) 0 0 (fun _ => False) := by
  refine Met.ofW (cc := cX9_count) (maxL := 2) (ret := (some .int)) (by decide) rfl ?_
  intro p e s m args below meth c s₁ B hml hv
  obtain ⟨rfl, hP, hK⟩ := hv
  have hx := B.exec
  have hb := B.bytes
  have hr := B.returns
  have hts := atoms_spec (ws := w_X9_count) B.pre
  have hown : s.vm.findClass RX9 = some m.cls := findClass_of_methodNamed B.named
  have hlocks := B.notSynchronized
  have hS : va_S (fun _ : Nat => False) s.heap s.heap [] := va_S.rf
  have hP : va_P D vwCl [(h0, .inr (9, [.ref a_tape, .ref a_now, .ref a_draft, .ref a_reader, .ref a_acts, .ref a_images, .ref a_one, .ref a_other, .ref a_third, .ref a_spans, .ref a_back, .ref a_span, .ref a_middle, .ref a_reached])), (a_now, .inr (8, [.ref b_sc, .ref b_sp, .ref b_cp, .ref b_sn, .ref b_sl, .int 0, .int 0, .int 0])), (b_cp, .inl (k_c, 32, .inl (fun _ => 0))), (a_acts, .inr (0, [.ref a_ring, .int 0, .int 0])), (a_tape, .inr (7, [.ref a_b, .int 0, .int 0]))] s.heap := hP
  have hl := lv_entry ([.ref h0, .int i_0]) (n := 2) (Nat.le_of_ble_eq_true rfl)
  rw [lg_entry_eq]
  generalize (lg_sl ([.ref h0, .int i_0]) ++ List.replicate (2 - (lg_sl ([.ref h0, .int i_0])).length) Slot.unset).toArray = ls at hl ⊢
  have hl : lv_has ls 2 [(0, .ref h0), (1, .int i_0)] := hl
  obtain ⟨H, hHe⟩ : ∃ H : Heap, H = s.heap := ⟨_, rfl⟩
  rw [← hHe] at hP
  have hS : va_S (fun _ : Nat => False) s.heap H [] := by rw [hHe]; exact hS
  refine pw_heap hHe ?_
  refine lv_iload_n hx hb dX9_count_0 rfl (lv_at hl 1 rfl) ?_
  rcases pw_sw7 i_0 with h8 | rfl | rfl | rfl | rfl | rfl | rfl | rfl
  · refine lv_tableOut (tgt := 100) hx hb dX9_count_1 h8 (by decide) ?_
    refine lv_ldc hx hb hown (hts (.constant RX9 88 (-1000001)) (List.mem_of_getElem? (i := 1) rfl)) dX9_count_100 ?_
    exact W.iret (v := (-1000001)) hx hb hr (fun t ht hW => ⟨⟨(-1000001), (), rfl, sp_out (by omega), trivial⟩, hS.F ht⟩) hS.2.2 dX9_count_102
  · refine lv_tableIn (tgt := 44) hx hb dX9_count_1 (by decide) (by decide) rfl (by decide) ?_
    refine lv_aload_n hx hb dX9_count_44 rfl (lv_at hl 0 rfl) ?_
    refine va_get (D := D) (ci := 9) (v := .ref a_now) (C := RX9) (T := TX9) (N := 14) hx hb hts (fun _ h => List.mem_cons_of_mem _ (List.mem_append_left _ (List.mem_append_left _ (List.mem_append_left _ (List.mem_append_right _ h))))) hown hK hP 0 rfl rfl 1 (by decide) (hts (.fieldLink RX9 19 "LineCites" "now" "LLineCites$Work;") (List.mem_of_getElem? (i := 2) rfl)) (fun _ h9 => h9) rfl dX9_count_45 ?_
    have hPc := hP.sub (ws' := [(a_now, .inr (8, [.ref b_sc, .ref b_sp, .ref b_cp, .ref b_sn, .ref b_sl, .int 0, .int 0, .int 0]))]) [1] rfl
    have hKc := hK.sub (tys' := []) [] rfl
    refine va_calli (va_runV (As := []) (rest := []) ⟨hx, hb, hml, hown, hts⟩ (c_X8_lines l D a_now b_sc b_sp b_cp b_sn b_sl) (cwV 0 hts g_X9_count_X8_lines rfl rfl rfl (by decide +kernel) ⟨Nat.le_of_ble_eq_true rfl, Nat.le_of_ble_eq_true rfl⟩) ⟨fun a U g mk q => by obtain ⟨q0, qP, qK⟩ := q; exact ⟨q0, qP, va_K.moved (u := U) (U := U.calling g mk a) (Vm.Alike.refl U.vm) qK⟩, va_recv hKc hPc (ci := 8) (q0 := 0) rfl rfl, fun U hU hW => ⟨rfl, by rw [hU]; exact hPc, va_K.moved hW.alike hKc⟩⟩ rfl rfl hl.1 rfl (lv_room (Nat.le_of_ble_eq_true rfl)) dX9_count_48 ⟨Nat.le_of_ble_eq_true rfl, Nat.le_of_ble_eq_true rfl⟩) hS (fun _ _ h => h.elim) (fun _ h => h.elim) (fun r1 u t H1 locs ht hvm hw hB hz1 hk1 hS => ?_)
    have hP := pw_keep hP (fun q hq => hk1 q hq (fun h => h))
    generalize H1 = H at hP hS ⊢
    refine W.widen (k := 0) (n := 0) (Nat.le_of_ble_eq_true rfl) (Nat.le_of_ble_eq_true rfl) ?_
    obtain rfl : r1 = 0 := hw
    exact W.iret (v := 0) hx hb hr (fun t ht hW => ⟨⟨0, (), rfl, rfl, trivial⟩, hS.F ht⟩) hS.2.2 dX9_count_51
  · refine lv_tableIn (tgt := 52) hx hb dX9_count_1 (by decide) (by decide) rfl (by decide) ?_
    refine lv_aload_n hx hb dX9_count_52 rfl (lv_at hl 0 rfl) ?_
    refine va_get (D := D) (ci := 9) (v := .ref a_now) (C := RX9) (T := TX9) (N := 14) hx hb hts (fun _ h => List.mem_cons_of_mem _ (List.mem_append_left _ (List.mem_append_left _ (List.mem_append_left _ (List.mem_append_right _ h))))) hown hK hP 0 rfl rfl 1 (by decide) (hts (.fieldLink RX9 19 "LineCites" "now" "LLineCites$Work;") (List.mem_of_getElem? (i := 2) rfl)) (fun _ h9 => h9) rfl dX9_count_53 ?_
    have hPc := hP.sub (ws' := [(a_now, .inr (8, [.ref b_sc, .ref b_sp, .ref b_cp, .ref b_sn, .ref b_sl, .int 0, .int 0, .int 0]))]) [1] rfl
    have hKc := hK.sub (tys' := []) [] rfl
    refine va_calli (va_runV (As := []) (rest := []) ⟨hx, hb, hml, hown, hts⟩ (c_X8_editions l D a_now b_sc b_sp b_cp b_sn b_sl) (cwV 0 hts g_X9_count_X8_editions rfl rfl rfl (by decide +kernel) ⟨Nat.le_of_ble_eq_true rfl, Nat.le_of_ble_eq_true rfl⟩) ⟨fun a U g mk q => by obtain ⟨q0, qP, qK⟩ := q; exact ⟨q0, qP, va_K.moved (u := U) (U := U.calling g mk a) (Vm.Alike.refl U.vm) qK⟩, va_recv hKc hPc (ci := 8) (q0 := 0) rfl rfl, fun U hU hW => ⟨rfl, by rw [hU]; exact hPc, va_K.moved hW.alike hKc⟩⟩ rfl rfl hl.1 rfl (lv_room (Nat.le_of_ble_eq_true rfl)) dX9_count_56 ⟨Nat.le_of_ble_eq_true rfl, Nat.le_of_ble_eq_true rfl⟩) hS (fun _ _ h => h.elim) (fun _ h => h.elim) (fun r2 u t H1 locs ht hvm hw hB hz1 hk1 hS => ?_)
    have hP := pw_keep hP (fun q hq => hk1 q hq (fun h => h))
    generalize H1 = H at hP hS ⊢
    refine W.widen (k := 0) (n := 0) (Nat.le_of_ble_eq_true rfl) (Nat.le_of_ble_eq_true rfl) ?_
    obtain rfl : r2 = 0 := hw
    exact W.iret (v := 0) hx hb hr (fun t ht hW => ⟨⟨0, (), rfl, rfl, trivial⟩, hS.F ht⟩) hS.2.2 dX9_count_59
  · refine lv_tableIn (tgt := 60) hx hb dX9_count_1 (by decide) (by decide) rfl (by decide) ?_
    refine lv_aload_n hx hb dX9_count_60 rfl (lv_at hl 0 rfl) ?_
    refine va_get (D := D) (ci := 9) (v := .ref a_now) (C := RX9) (T := TX9) (N := 14) hx hb hts (fun _ h => List.mem_cons_of_mem _ (List.mem_append_left _ (List.mem_append_left _ (List.mem_append_left _ (List.mem_append_right _ h))))) hown hK hP 0 rfl rfl 1 (by decide) (hts (.fieldLink RX9 19 "LineCites" "now" "LLineCites$Work;") (List.mem_of_getElem? (i := 2) rfl)) (fun _ h9 => h9) rfl dX9_count_61 ?_
    have hPc := hP.sub (ws' := [(a_now, .inr (8, [.ref b_sc, .ref b_sp, .ref b_cp, .ref b_sn, .ref b_sl, .int 0, .int 0, .int 0]))]) [1] rfl
    have hKc := hK.sub (tys' := []) [] rfl
    refine va_calli (va_runV (As := []) (rest := []) ⟨hx, hb, hml, hown, hts⟩ (c_X8_stretches l D a_now b_sc b_sp b_cp b_sn b_sl) (cwV 0 hts g_X9_count_X8_stretches rfl rfl rfl (by decide +kernel) ⟨Nat.le_of_ble_eq_true rfl, Nat.le_of_ble_eq_true rfl⟩) ⟨fun a U g mk q => by obtain ⟨q0, qP, qK⟩ := q; exact ⟨q0, qP, va_K.moved (u := U) (U := U.calling g mk a) (Vm.Alike.refl U.vm) qK⟩, va_recv hKc hPc (ci := 8) (q0 := 0) rfl rfl, fun U hU hW => ⟨rfl, by rw [hU]; exact hPc, va_K.moved hW.alike hKc⟩⟩ rfl rfl hl.1 rfl (lv_room (Nat.le_of_ble_eq_true rfl)) dX9_count_64 ⟨Nat.le_of_ble_eq_true rfl, Nat.le_of_ble_eq_true rfl⟩) hS (fun _ _ h => h.elim) (fun _ h => h.elim) (fun r3 u t H1 locs ht hvm hw hB hz1 hk1 hS => ?_)
    have hP := pw_keep hP (fun q hq => hk1 q hq (fun h => h))
    generalize H1 = H at hP hS ⊢
    refine W.widen (k := 0) (n := 0) (Nat.le_of_ble_eq_true rfl) (Nat.le_of_ble_eq_true rfl) ?_
    obtain rfl : r3 = 0 := hw
    exact W.iret (v := 0) hx hb hr (fun t ht hW => ⟨⟨0, (), rfl, rfl, trivial⟩, hS.F ht⟩) hS.2.2 dX9_count_67
  · refine lv_tableIn (tgt := 68) hx hb dX9_count_1 (by decide) (by decide) rfl (by decide) ?_
    refine lv_aload_n hx hb dX9_count_68 rfl (lv_at hl 0 rfl) ?_
    refine va_get (D := D) (ci := 9) (v := .ref a_now) (C := RX9) (T := TX9) (N := 14) hx hb hts (fun _ h => List.mem_cons_of_mem _ (List.mem_append_left _ (List.mem_append_left _ (List.mem_append_left _ (List.mem_append_right _ h))))) hown hK hP 0 rfl rfl 1 (by decide) (hts (.fieldLink RX9 19 "LineCites" "now" "LLineCites$Work;") (List.mem_of_getElem? (i := 2) rfl)) (fun _ h9 => h9) rfl dX9_count_69 ?_
    have hPc := hP.sub (ws' := [(a_now, .inr (8, [.ref b_sc, .ref b_sp, .ref b_cp, .ref b_sn, .ref b_sl, .int 0, .int 0, .int 0])), (b_cp, .inl (k_c, 32, .inl (fun _ => 0)))]) [1, 2] rfl
    have hKc := hK.sub (tys' := [(k_c, .int)]) [0] rfl
    refine va_calli (va_runV (As := []) (rest := []) ⟨hx, hb, hml, hown, hts⟩ (c_X8_citations l D a_now b_sc b_sp b_cp b_sn b_sl k_c) (cwV 0 hts g_X9_count_X8_citations rfl rfl rfl (by decide +kernel) ⟨Nat.le_of_ble_eq_true rfl, Nat.le_of_ble_eq_true rfl⟩) ⟨fun a U g mk q => by obtain ⟨q0, qP, qK⟩ := q; exact ⟨q0, qP, va_K.moved (u := U) (U := U.calling g mk a) (Vm.Alike.refl U.vm) qK⟩, va_recv hKc hPc (ci := 8) (q0 := 0) rfl rfl, fun U hU hW => ⟨rfl, by rw [hU]; exact hPc, va_K.moved hW.alike hKc⟩⟩ rfl rfl hl.1 rfl (lv_room (Nat.le_of_ble_eq_true rfl)) dX9_count_72 ⟨Nat.le_of_ble_eq_true rfl, Nat.le_of_ble_eq_true rfl⟩) hS (fun _ _ h => h.elim) (fun _ h => h.elim) (fun r4 u t H1 locs ht hvm hw hB hz1 hk1 hS => ?_)
    have hP := pw_keep hP (fun q hq => hk1 q hq (fun h => h))
    generalize H1 = H at hP hS ⊢
    refine W.widen (k := 0) (n := 0) (Nat.le_of_ble_eq_true rfl) (Nat.le_of_ble_eq_true rfl) ?_
    obtain rfl : r4 = 0 := hw
    exact W.iret (v := 0) hx hb hr (fun t ht hW => ⟨⟨0, (), rfl, rfl, trivial⟩, hS.F ht⟩) hS.2.2 dX9_count_75
  · refine lv_tableIn (tgt := 76) hx hb dX9_count_1 (by decide) (by decide) rfl (by decide) ?_
    refine lv_aload_n hx hb dX9_count_76 rfl (lv_at hl 0 rfl) ?_
    refine va_get (D := D) (ci := 9) (v := .ref a_now) (C := RX9) (T := TX9) (N := 14) hx hb hts (fun _ h => List.mem_cons_of_mem _ (List.mem_append_left _ (List.mem_append_left _ (List.mem_append_left _ (List.mem_append_right _ h))))) hown hK hP 0 rfl rfl 1 (by decide) (hts (.fieldLink RX9 19 "LineCites" "now" "LLineCites$Work;") (List.mem_of_getElem? (i := 2) rfl)) (fun _ h9 => h9) rfl dX9_count_77 ?_
    have hPc := hP.sub (ws' := [(a_now, .inr (8, [.ref b_sc, .ref b_sp, .ref b_cp, .ref b_sn, .ref b_sl, .int 0, .int 0, .int 0]))]) [1] rfl
    have hKc := hK.sub (tys' := []) [] rfl
    refine va_calli (va_runV (As := []) (rest := []) ⟨hx, hb, hml, hown, hts⟩ (c_X8_seen l D a_now b_sc b_sp b_cp b_sn b_sl) (cwV 0 hts g_X9_count_X8_seen rfl rfl rfl (by decide +kernel) ⟨Nat.le_of_ble_eq_true rfl, Nat.le_of_ble_eq_true rfl⟩) ⟨fun a U g mk q => by obtain ⟨q0, qP, qK⟩ := q; exact ⟨q0, qP, va_K.moved (u := U) (U := U.calling g mk a) (Vm.Alike.refl U.vm) qK⟩, va_recv hKc hPc (ci := 8) (q0 := 0) rfl rfl, fun U hU hW => ⟨rfl, by rw [hU]; exact hPc, va_K.moved hW.alike hKc⟩⟩ rfl rfl hl.1 rfl (lv_room (Nat.le_of_ble_eq_true rfl)) dX9_count_80 ⟨Nat.le_of_ble_eq_true rfl, Nat.le_of_ble_eq_true rfl⟩) hS (fun _ _ h => h.elim) (fun _ h => h.elim) (fun r5 u t H1 locs ht hvm hw hB hz1 hk1 hS => ?_)
    have hP := pw_keep hP (fun q hq => hk1 q hq (fun h => h))
    generalize H1 = H at hP hS ⊢
    refine W.widen (k := 0) (n := 0) (Nat.le_of_ble_eq_true rfl) (Nat.le_of_ble_eq_true rfl) ?_
    obtain rfl : r5 = 0 := hw
    exact W.iret (v := 0) hx hb hr (fun t ht hW => ⟨⟨0, (), rfl, rfl, trivial⟩, hS.F ht⟩) hS.2.2 dX9_count_83
  · refine lv_tableIn (tgt := 84) hx hb dX9_count_1 (by decide) (by decide) rfl (by decide) ?_
    refine lv_aload_n hx hb dX9_count_84 rfl (lv_at hl 0 rfl) ?_
    refine va_get (D := D) (ci := 9) (v := .ref a_acts) (C := RX9) (T := TX9) (N := 14) hx hb hts (fun _ h => List.mem_cons_of_mem _ (List.mem_append_left _ (List.mem_append_left _ (List.mem_append_left _ (List.mem_append_right _ h))))) hown hK hP 0 rfl rfl 4 (by decide) (hts (.fieldLink RX9 38 "LineCites" "acts" "LLineCites$Acts;") (List.mem_of_getElem? (i := 36) rfl)) (fun _ h9 => h9) rfl dX9_count_85 ?_
    have hPc := hP.sub (ws' := [(a_acts, .inr (0, [.ref a_ring, .int 0, .int 0]))]) [3] rfl
    have hKc := hK.sub (tys' := []) [] rfl
    refine va_calli (va_runV (As := []) (rest := []) ⟨hx, hb, hml, hown, hts⟩ (c_X0_size l D a_acts a_ring) (cwV 0 hts g_X9_count_X0_size rfl rfl rfl (by decide +kernel) ⟨Nat.le_of_ble_eq_true rfl, Nat.le_of_ble_eq_true rfl⟩) ⟨fun a U g mk q => by obtain ⟨q0, qP, qK⟩ := q; exact ⟨q0, qP, va_K.moved (u := U) (U := U.calling g mk a) (Vm.Alike.refl U.vm) qK⟩, va_recv hKc hPc (ci := 0) (q0 := 0) rfl rfl, fun U hU hW => ⟨rfl, by rw [hU]; exact hPc, va_K.moved hW.alike hKc⟩⟩ rfl rfl hl.1 rfl (lv_room (Nat.le_of_ble_eq_true rfl)) dX9_count_88 ⟨Nat.le_of_ble_eq_true rfl, Nat.le_of_ble_eq_true rfl⟩) hS (fun _ _ h => h.elim) (fun _ h => h.elim) (fun r6 u t H1 locs ht hvm hw hB hz1 hk1 hS => ?_)
    have hP := pw_keep hP (fun q hq => hk1 q hq (fun h => h))
    generalize H1 = H at hP hS ⊢
    refine W.widen (k := 0) (n := 0) (Nat.le_of_ble_eq_true rfl) (Nat.le_of_ble_eq_true rfl) ?_
    obtain rfl : r6 = 0 := hw
    exact W.iret (v := 0) hx hb hr (fun t ht hW => ⟨⟨0, (), rfl, rfl, trivial⟩, hS.F ht⟩) hS.2.2 dX9_count_91
  · refine lv_tableIn (tgt := 92) hx hb dX9_count_1 (by decide) (by decide) rfl (by decide) ?_
    refine lv_aload_n hx hb dX9_count_92 rfl (lv_at hl 0 rfl) ?_
    refine va_get (D := D) (ci := 9) (v := .ref a_tape) (C := RX9) (T := TX9) (N := 14) hx hb hts (fun _ h => List.mem_cons_of_mem _ (List.mem_append_left _ (List.mem_append_left _ (List.mem_append_left _ (List.mem_append_right _ h))))) hown hK hP 0 rfl rfl 0 (by decide) (hts (.fieldLink RX9 10 "LineCites" "tape" "LLineCites$Tape;") (List.mem_of_getElem? (i := 43) rfl)) (fun _ h9 => h9) rfl dX9_count_93 ?_
    have hPc := hP.sub (ws' := [(a_tape, .inr (7, [.ref a_b, .int 0, .int 0]))]) [4] rfl
    have hKc := hK.sub (tys' := []) [] rfl
    refine va_calli (va_runV (As := []) (rest := []) ⟨hx, hb, hml, hown, hts⟩ (c_X7_size l D a_tape a_b) (cwV 0 hts g_X9_count_X7_size rfl rfl rfl (by decide +kernel) ⟨Nat.le_of_ble_eq_true rfl, Nat.le_of_ble_eq_true rfl⟩) ⟨fun a U g mk q => by obtain ⟨q0, qP, qK⟩ := q; exact ⟨q0, qP, va_K.moved (u := U) (U := U.calling g mk a) (Vm.Alike.refl U.vm) qK⟩, va_recv hKc hPc (ci := 7) (q0 := 0) rfl rfl, fun U hU hW => ⟨rfl, by rw [hU]; exact hPc, va_K.moved hW.alike hKc⟩⟩ rfl rfl hl.1 rfl (lv_room (Nat.le_of_ble_eq_true rfl)) dX9_count_96 ⟨Nat.le_of_ble_eq_true rfl, Nat.le_of_ble_eq_true rfl⟩) hS (fun _ _ h => h.elim) (fun _ h => h.elim) (fun r7 u t H1 locs ht hvm hw hB hz1 hk1 hS => ?_)
    have hP := pw_keep hP (fun q hq => hk1 q hq (fun h => h))
    generalize H1 = H at hP hS ⊢
    refine W.widen (k := 0) (n := 0) (Nat.le_of_ble_eq_true rfl) (Nat.le_of_ble_eq_true rfl) ?_
    obtain rfl : r7 = 0 := hw
    exact W.iret (v := 0) hx hb hr (fun t ht hW => ⟨⟨0, (), rfl, rfl, trivial⟩, hS.F ht⟩) hS.2.2 dX9_count_99
