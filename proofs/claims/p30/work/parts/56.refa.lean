theorem dX10_add_0 : decode cX10_add 0 = .ok (.aload_n 0, 1) := by decide +kernel
theorem dX10_add_1 : decode cX10_add 1 = .ok (.iload_n 1, 1) := by decide +kernel
theorem dX10_add_2 : decode cX10_add 2 = .ok (.invokevirtual 55, 3) := by decide +kernel
theorem dX10_add_5 : decode cX10_add 5 = .ok (.ifCond .eq 19, 3) := by decide +kernel
theorem dX10_add_8 : decode cX10_add 8 = .ok (.aload_n 0, 1) := by decide +kernel
theorem dX10_add_9 : decode cX10_add 9 = .ok (.iload_n 1, 1) := by decide +kernel
theorem dX10_add_10 : decode cX10_add 10 = .ok (.iload_n 2, 1) := by decide +kernel
theorem dX10_add_11 : decode cX10_add 11 = .ok (.iload_n 3, 1) := by decide +kernel
theorem dX10_add_12 : decode cX10_add 12 = .ok (.iload 4, 2) := by decide +kernel
theorem dX10_add_14 : decode cX10_add 14 = .ok (.iload 5, 2) := by decide +kernel
theorem dX10_add_16 : decode cX10_add 16 = .ok (.ldc 61, 2) := by decide +kernel
theorem dX10_add_18 : decode cX10_add 18 = .ok (.invokevirtual 201, 3) := by decide +kernel
theorem dX10_add_21 : decode cX10_add 21 = .ok (.ifCond .ne 6, 3) := by decide +kernel
theorem dX10_add_24 : decode cX10_add 24 = .ok (.ldc 177, 2) := by decide +kernel
theorem dX10_add_26 : decode cX10_add 26 = .ok (.ireturn, 1) := by decide +kernel
theorem dX10_add_27 : decode cX10_add 27 = .ok (.aload_n 0, 1) := by decide +kernel
theorem dX10_add_28 : decode cX10_add 28 = .ok (.getfield 7, 3) := by decide +kernel
theorem dX10_add_31 : decode cX10_add 31 = .ok (.iconst 3, 1) := by decide +kernel
theorem dX10_add_32 : decode cX10_add 32 = .ok (.iload_n 1, 1) := by decide +kernel
theorem dX10_add_33 : decode cX10_add 33 = .ok (.iadd, 1) := by decide +kernel
theorem dX10_add_34 : decode cX10_add 34 = .ok (.iaload, 1) := by decide +kernel
theorem dX10_add_35 : decode cX10_add 35 = .ok (.bipush 6, 2) := by decide +kernel
theorem dX10_add_37 : decode cX10_add 37 = .ok (.if_icmp .ne 6, 3) := by decide +kernel
theorem dX10_add_40 : decode cX10_add 40 = .ok (.ldc 178, 2) := by decide +kernel
theorem dX10_add_42 : decode cX10_add 42 = .ok (.ireturn, 1) := by decide +kernel
theorem dX10_add_43 : decode cX10_add 43 = .ok (.aload_n 0, 1) := by decide +kernel
theorem dX10_add_44 : decode cX10_add 44 = .ok (.invokevirtual 205, 3) := by decide +kernel
theorem dX10_add_47 : decode cX10_add 47 = .ok (.aload_n 0, 1) := by decide +kernel
theorem dX10_add_48 : decode cX10_add 48 = .ok (.getfield 7, 3) := by decide +kernel
theorem dX10_add_51 : decode cX10_add 51 = .ok (.iload_n 1, 1) := by decide +kernel
theorem dX10_add_52 : decode cX10_add 52 = .ok (.iload_n 2, 1) := by decide +kernel
theorem dX10_add_53 : decode cX10_add 53 = .ok (.iload_n 3, 1) := by decide +kernel
theorem dX10_add_54 : decode cX10_add 54 = .ok (.iload 4, 2) := by decide +kernel
theorem dX10_add_56 : decode cX10_add 56 = .ok (.iload 5, 2) := by decide +kernel
theorem dX10_add_58 : decode cX10_add 58 = .ok (.invokestatic 171, 3) := by decide +kernel
theorem dX10_add_61 : decode cX10_add 61 = .ok (.aload_n 0, 1) := by decide +kernel
theorem dX10_add_62 : decode cX10_add 62 = .ok (.getfield 7, 3) := by decide +kernel
theorem dX10_add_65 : decode cX10_add 65 = .ok (.iconst 3, 1) := by decide +kernel
theorem dX10_add_66 : decode cX10_add 66 = .ok (.iload_n 1, 1) := by decide +kernel
theorem dX10_add_67 : decode cX10_add 67 = .ok (.iadd, 1) := by decide +kernel
theorem dX10_add_68 : decode cX10_add 68 = .ok (.iaload, 1) := by decide +kernel
theorem dX10_add_69 : decode cX10_add 69 = .ok (.ireturn, 1) := by decide +kernel
theorem dX10_drop_0 : decode cX10_drop 0 = .ok (.aload_n 0, 1) := by decide +kernel
theorem dX10_drop_1 : decode cX10_drop 1 = .ok (.iload_n 1, 1) := by decide +kernel
theorem dX10_drop_2 : decode cX10_drop 2 = .ok (.iload_n 2, 1) := by decide +kernel
theorem dX10_drop_3 : decode cX10_drop 3 = .ok (.invokevirtual 208, 3) := by decide +kernel
theorem dX10_drop_6 : decode cX10_drop 6 = .ok (.ifCond .ne 6, 3) := by decide +kernel
theorem dX10_drop_9 : decode cX10_drop 9 = .ok (.ldc 177, 2) := by decide +kernel
theorem dX10_drop_11 : decode cX10_drop 11 = .ok (.ireturn, 1) := by decide +kernel
theorem dX10_drop_12 : decode cX10_drop 12 = .ok (.aload_n 0, 1) := by decide +kernel
theorem dX10_drop_13 : decode cX10_drop 13 = .ok (.invokevirtual 205, 3) := by decide +kernel
theorem dX10_drop_16 : decode cX10_drop 16 = .ok (.iconst 4, 1) := by decide +kernel
theorem dX10_drop_17 : decode cX10_drop 17 = .ok (.iload_n 2, 1) := by decide +kernel
theorem dX10_drop_18 : decode cX10_drop 18 = .ok (.imul, 1) := by decide +kernel
theorem dX10_drop_19 : decode cX10_drop 19 = .ok (.istore_n 3, 1) := by decide +kernel
theorem dX10_drop_20 : decode cX10_drop 20 = .ok (.iload_n 3, 1) := by decide +kernel
theorem dX10_drop_21 : decode cX10_drop 21 = .ok (.bipush 20, 2) := by decide +kernel
theorem dX10_drop_23 : decode cX10_drop 23 = .ok (.if_icmp .ge 39, 3) := by decide +kernel
theorem dX10_drop_26 : decode cX10_drop 26 = .ok (.aload_n 0, 1) := by decide +kernel
theorem dX10_drop_27 : decode cX10_drop 27 = .ok (.getfield 7, 3) := by decide +kernel
theorem dX10_drop_30 : decode cX10_drop 30 = .ok (.bipush 8, 2) := by decide +kernel
theorem dX10_drop_32 : decode cX10_drop 32 = .ok (.bipush 24, 2) := by decide +kernel
theorem dX10_drop_34 : decode cX10_drop 34 = .ok (.iload_n 1, 1) := by decide +kernel
theorem dX10_drop_35 : decode cX10_drop 35 = .ok (.imul, 1) := by decide +kernel
theorem dX10_drop_36 : decode cX10_drop 36 = .ok (.iadd, 1) := by decide +kernel
theorem dX10_drop_37 : decode cX10_drop 37 = .ok (.iload_n 3, 1) := by decide +kernel
theorem dX10_drop_38 : decode cX10_drop 38 = .ok (.iadd, 1) := by decide +kernel
theorem dX10_drop_39 : decode cX10_drop 39 = .ok (.aload_n 0, 1) := by decide +kernel
theorem dX10_drop_40 : decode cX10_drop 40 = .ok (.getfield 7, 3) := by decide +kernel
theorem dX10_drop_43 : decode cX10_drop 43 = .ok (.bipush 8, 2) := by decide +kernel
theorem dX10_drop_45 : decode cX10_drop 45 = .ok (.bipush 24, 2) := by decide +kernel
theorem dX10_drop_47 : decode cX10_drop 47 = .ok (.iload_n 1, 1) := by decide +kernel
theorem dX10_drop_48 : decode cX10_drop 48 = .ok (.imul, 1) := by decide +kernel
theorem dX10_drop_49 : decode cX10_drop 49 = .ok (.iadd, 1) := by decide +kernel
theorem dX10_drop_50 : decode cX10_drop 50 = .ok (.iload_n 3, 1) := by decide +kernel
theorem dX10_drop_51 : decode cX10_drop 51 = .ok (.iadd, 1) := by decide +kernel
theorem dX10_drop_52 : decode cX10_drop 52 = .ok (.iconst 4, 1) := by decide +kernel
theorem dX10_drop_53 : decode cX10_drop 53 = .ok (.iadd, 1) := by decide +kernel
theorem dX10_drop_54 : decode cX10_drop 54 = .ok (.iaload, 1) := by decide +kernel
theorem dX10_drop_55 : decode cX10_drop 55 = .ok (.iastore, 1) := by decide +kernel
theorem dX10_drop_56 : decode cX10_drop 56 = .ok (.iinc 3 1, 3) := by decide +kernel
theorem dX10_drop_59 : decode cX10_drop 59 = .ok (.goto (-39), 3) := by decide +kernel
theorem dX10_drop_62 : decode cX10_drop 62 = .ok (.aload_n 0, 1) := by decide +kernel
theorem dX10_drop_63 : decode cX10_drop 63 = .ok (.getfield 7, 3) := by decide +kernel
theorem dX10_drop_66 : decode cX10_drop 66 = .ok (.iconst 3, 1) := by decide +kernel
theorem dX10_drop_67 : decode cX10_drop 67 = .ok (.iload_n 1, 1) := by decide +kernel
theorem dX10_drop_68 : decode cX10_drop 68 = .ok (.iadd, 1) := by decide +kernel
theorem dX10_drop_69 : decode cX10_drop 69 = .ok (.dup2, 1) := by decide +kernel
theorem dX10_drop_70 : decode cX10_drop 70 = .ok (.iaload, 1) := by decide +kernel
theorem dX10_drop_71 : decode cX10_drop 71 = .ok (.iconst 1, 1) := by decide +kernel
theorem dX10_drop_72 : decode cX10_drop 72 = .ok (.isub, 1) := by decide +kernel
theorem dX10_drop_73 : decode cX10_drop 73 = .ok (.iastore, 1) := by decide +kernel
theorem dX10_drop_74 : decode cX10_drop 74 = .ok (.aload_n 0, 1) := by decide +kernel
theorem dX10_drop_75 : decode cX10_drop 75 = .ok (.getfield 7, 3) := by decide +kernel
theorem dX10_drop_78 : decode cX10_drop 78 = .ok (.iconst 3, 1) := by decide +kernel
theorem dX10_drop_79 : decode cX10_drop 79 = .ok (.iload_n 1, 1) := by decide +kernel
theorem dX10_drop_80 : decode cX10_drop 80 = .ok (.iadd, 1) := by decide +kernel
theorem dX10_drop_81 : decode cX10_drop 81 = .ok (.iaload, 1) := by decide +kernel
theorem dX10_drop_82 : decode cX10_drop 82 = .ok (.ireturn, 1) := by decide +kernel
theorem dX10_alter_0 : decode cX10_alter 0 = .ok (.aload_n 0, 1) := by decide +kernel
theorem dX10_alter_1 : decode cX10_alter 1 = .ok (.iload_n 1, 1) := by decide +kernel
theorem dX10_alter_2 : decode cX10_alter 2 = .ok (.iload_n 2, 1) := by decide +kernel
theorem dX10_alter_3 : decode cX10_alter 3 = .ok (.invokevirtual 208, 3) := by decide +kernel
theorem dX10_alter_6 : decode cX10_alter 6 = .ok (.ifCond .eq 15, 3) := by decide +kernel
theorem dX10_alter_9 : decode cX10_alter 9 = .ok (.iload_n 3, 1) := by decide +kernel
theorem dX10_alter_10 : decode cX10_alter 10 = .ok (.i2l, 1) := by decide +kernel
theorem dX10_alter_11 : decode cX10_alter 11 = .ok (.lconst 0, 1) := by decide +kernel
theorem dX10_alter_12 : decode cX10_alter 12 = .ok (.ldc2_w 211, 3) := by decide +kernel
theorem dX10_alter_15 : decode cX10_alter 15 = .ok (.invokestatic 51, 3) := by decide +kernel
theorem dX10_alter_18 : decode cX10_alter 18 = .ok (.ifCond .ne 6, 3) := by decide +kernel
theorem dX10_alter_21 : decode cX10_alter 21 = .ok (.ldc 177, 2) := by decide +kernel
theorem dX10_alter_23 : decode cX10_alter 23 = .ok (.ireturn, 1) := by decide +kernel
theorem dX10_alter_24 : decode cX10_alter 24 = .ok (.iload_n 3, 1) := by decide +kernel
theorem dX10_alter_25 : decode cX10_alter 25 = .ok (.ifCond .ne 8, 3) := by decide +kernel
theorem dX10_alter_28 : decode cX10_alter 28 = .ok (.iload 4, 2) := by decide +kernel
theorem dX10_alter_30 : decode cX10_alter 30 = .ok (.goto 13, 3) := by decide +kernel
theorem dX10_alter_33 : decode cX10_alter 33 = .ok (.aload_n 0, 1) := by decide +kernel
theorem dX10_alter_34 : decode cX10_alter 34 = .ok (.getfield 7, 3) := by decide +kernel
theorem dX10_alter_37 : decode cX10_alter 37 = .ok (.iload_n 1, 1) := by decide +kernel
theorem dX10_alter_38 : decode cX10_alter 38 = .ok (.iload_n 2, 1) := by decide +kernel
theorem dX10_alter_39 : decode cX10_alter 39 = .ok (.iconst 0, 1) := by decide +kernel
theorem dX10_alter_40 : decode cX10_alter 40 = .ok (.invokestatic 62, 3) := by decide +kernel
theorem dX10_alter_43 : decode cX10_alter 43 = .ok (.istore 5, 2) := by decide +kernel
theorem dX10_alter_45 : decode cX10_alter 45 = .ok (.iload_n 3, 1) := by decide +kernel
theorem dX10_alter_46 : decode cX10_alter 46 = .ok (.iconst 1, 1) := by decide +kernel
theorem dX10_alter_47 : decode cX10_alter 47 = .ok (.if_icmp .ne 8, 3) := by decide +kernel
theorem dX10_alter_50 : decode cX10_alter 50 = .ok (.iload 4, 2) := by decide +kernel
theorem dX10_alter_52 : decode cX10_alter 52 = .ok (.goto 13, 3) := by decide +kernel
theorem dX10_alter_55 : decode cX10_alter 55 = .ok (.aload_n 0, 1) := by decide +kernel
theorem dX10_alter_56 : decode cX10_alter 56 = .ok (.getfield 7, 3) := by decide +kernel
theorem dX10_alter_59 : decode cX10_alter 59 = .ok (.iload_n 1, 1) := by decide +kernel
theorem dX10_alter_60 : decode cX10_alter 60 = .ok (.iload_n 2, 1) := by decide +kernel
theorem dX10_alter_61 : decode cX10_alter 61 = .ok (.iconst 1, 1) := by decide +kernel
theorem dX10_alter_62 : decode cX10_alter 62 = .ok (.invokestatic 62, 3) := by decide +kernel
theorem dX10_alter_65 : decode cX10_alter 65 = .ok (.istore 6, 2) := by decide +kernel
theorem dX10_alter_67 : decode cX10_alter 67 = .ok (.iload_n 3, 1) := by decide +kernel
theorem dX10_alter_68 : decode cX10_alter 68 = .ok (.iconst 2, 1) := by decide +kernel
theorem dX10_alter_69 : decode cX10_alter 69 = .ok (.if_icmp .ne 8, 3) := by decide +kernel
theorem dX10_alter_72 : decode cX10_alter 72 = .ok (.iload 4, 2) := by decide +kernel
theorem dX10_alter_74 : decode cX10_alter 74 = .ok (.goto 13, 3) := by decide +kernel
theorem dX10_alter_77 : decode cX10_alter 77 = .ok (.aload_n 0, 1) := by decide +kernel
theorem dX10_alter_78 : decode cX10_alter 78 = .ok (.getfield 7, 3) := by decide +kernel
theorem dX10_alter_81 : decode cX10_alter 81 = .ok (.iload_n 1, 1) := by decide +kernel
theorem dX10_alter_82 : decode cX10_alter 82 = .ok (.iload_n 2, 1) := by decide +kernel
theorem dX10_alter_83 : decode cX10_alter 83 = .ok (.iconst 2, 1) := by decide +kernel
theorem dX10_alter_84 : decode cX10_alter 84 = .ok (.invokestatic 62, 3) := by decide +kernel
theorem dX10_alter_87 : decode cX10_alter 87 = .ok (.istore 7, 2) := by decide +kernel
theorem dX10_alter_89 : decode cX10_alter 89 = .ok (.iload_n 3, 1) := by decide +kernel
theorem dX10_alter_90 : decode cX10_alter 90 = .ok (.iconst 3, 1) := by decide +kernel
theorem dX10_alter_91 : decode cX10_alter 91 = .ok (.if_icmp .ne 8, 3) := by decide +kernel
theorem dX10_alter_94 : decode cX10_alter 94 = .ok (.iload 4, 2) := by decide +kernel
theorem dX10_alter_96 : decode cX10_alter 96 = .ok (.goto 13, 3) := by decide +kernel
theorem dX10_alter_99 : decode cX10_alter 99 = .ok (.aload_n 0, 1) := by decide +kernel
theorem dX10_alter_100 : decode cX10_alter 100 = .ok (.getfield 7, 3) := by decide +kernel
theorem dX10_alter_103 : decode cX10_alter 103 = .ok (.iload_n 1, 1) := by decide +kernel
theorem dX10_alter_104 : decode cX10_alter 104 = .ok (.iload_n 2, 1) := by decide +kernel
theorem dX10_alter_105 : decode cX10_alter 105 = .ok (.iconst 3, 1) := by decide +kernel
theorem dX10_alter_106 : decode cX10_alter 106 = .ok (.invokestatic 62, 3) := by decide +kernel
theorem dX10_alter_109 : decode cX10_alter 109 = .ok (.istore 8, 2) := by decide +kernel
theorem dX10_alter_111 : decode cX10_alter 111 = .ok (.aload_n 0, 1) := by decide +kernel
theorem dX10_alter_112 : decode cX10_alter 112 = .ok (.iload_n 1, 1) := by decide +kernel
theorem dX10_alter_113 : decode cX10_alter 113 = .ok (.iload 5, 2) := by decide +kernel
theorem dX10_alter_115 : decode cX10_alter 115 = .ok (.iload 6, 2) := by decide +kernel
theorem dX10_alter_117 : decode cX10_alter 117 = .ok (.iload 7, 2) := by decide +kernel
theorem dX10_alter_119 : decode cX10_alter 119 = .ok (.iload 8, 2) := by decide +kernel
theorem dX10_alter_121 : decode cX10_alter 121 = .ok (.iload_n 2, 1) := by decide +kernel
theorem dX10_alter_122 : decode cX10_alter 122 = .ok (.invokevirtual 201, 3) := by decide +kernel
theorem dX10_alter_125 : decode cX10_alter 125 = .ok (.ifCond .ne 6, 3) := by decide +kernel
theorem dX10_alter_128 : decode cX10_alter 128 = .ok (.ldc 177, 2) := by decide +kernel
theorem dX10_alter_130 : decode cX10_alter 130 = .ok (.ireturn, 1) := by decide +kernel
theorem dX10_alter_131 : decode cX10_alter 131 = .ok (.aload_n 0, 1) := by decide +kernel
theorem dX10_alter_132 : decode cX10_alter 132 = .ok (.invokevirtual 205, 3) := by decide +kernel
theorem dX10_alter_135 : decode cX10_alter 135 = .ok (.aload_n 0, 1) := by decide +kernel
theorem dX10_alter_136 : decode cX10_alter 136 = .ok (.getfield 7, 3) := by decide +kernel
theorem dX10_alter_139 : decode cX10_alter 139 = .ok (.iload_n 1, 1) := by decide +kernel
theorem dX10_alter_140 : decode cX10_alter 140 = .ok (.iload_n 2, 1) := by decide +kernel
theorem dX10_alter_141 : decode cX10_alter 141 = .ok (.iload_n 3, 1) := by decide +kernel
theorem dX10_alter_142 : decode cX10_alter 142 = .ok (.invokestatic 62, 3) := by decide +kernel
theorem dX10_alter_145 : decode cX10_alter 145 = .ok (.istore 9, 2) := by decide +kernel
theorem dX10_alter_147 : decode cX10_alter 147 = .ok (.aload_n 0, 1) := by decide +kernel
theorem dX10_alter_148 : decode cX10_alter 148 = .ok (.getfield 7, 3) := by decide +kernel
theorem dX10_alter_151 : decode cX10_alter 151 = .ok (.bipush 8, 2) := by decide +kernel
theorem dX10_alter_153 : decode cX10_alter 153 = .ok (.bipush 24, 2) := by decide +kernel
theorem dX10_alter_155 : decode cX10_alter 155 = .ok (.iload_n 1, 1) := by decide +kernel
theorem dX10_alter_156 : decode cX10_alter 156 = .ok (.imul, 1) := by decide +kernel
theorem dX10_alter_157 : decode cX10_alter 157 = .ok (.iadd, 1) := by decide +kernel
theorem dX10_alter_158 : decode cX10_alter 158 = .ok (.iconst 4, 1) := by decide +kernel
theorem dX10_alter_159 : decode cX10_alter 159 = .ok (.iload_n 2, 1) := by decide +kernel
theorem dX10_alter_160 : decode cX10_alter 160 = .ok (.imul, 1) := by decide +kernel
theorem dX10_alter_161 : decode cX10_alter 161 = .ok (.iadd, 1) := by decide +kernel
theorem dX10_alter_162 : decode cX10_alter 162 = .ok (.iload_n 3, 1) := by decide +kernel
theorem dX10_alter_163 : decode cX10_alter 163 = .ok (.iadd, 1) := by decide +kernel
theorem dX10_alter_164 : decode cX10_alter 164 = .ok (.iload 4, 2) := by decide +kernel
theorem dX10_alter_166 : decode cX10_alter 166 = .ok (.iastore, 1) := by decide +kernel
theorem dX10_alter_167 : decode cX10_alter 167 = .ok (.iload 9, 2) := by decide +kernel
theorem dX10_alter_169 : decode cX10_alter 169 = .ok (.ireturn, 1) := by decide +kernel
theorem dX10_strike_0 : decode cX10_strike 0 = .ok (.aload_n 0, 1) := by decide +kernel
theorem dX10_strike_1 : decode cX10_strike 1 = .ok (.iload_n 1, 1) := by decide +kernel
theorem dX10_strike_2 : decode cX10_strike 2 = .ok (.invokevirtual 228, 3) := by decide +kernel
theorem dX10_strike_5 : decode cX10_strike 5 = .ok (.ifCond .ne 6, 3) := by decide +kernel
theorem dX10_strike_8 : decode cX10_strike 8 = .ok (.ldc 177, 2) := by decide +kernel
theorem dX10_strike_10 : decode cX10_strike 10 = .ok (.ireturn, 1) := by decide +kernel
theorem dX10_strike_11 : decode cX10_strike 11 = .ok (.aload_n 0, 1) := by decide +kernel
theorem dX10_strike_12 : decode cX10_strike 12 = .ok (.invokevirtual 205, 3) := by decide +kernel
theorem dX10_strike_15 : decode cX10_strike 15 = .ok (.iconst 0, 1) := by decide +kernel
theorem dX10_strike_16 : decode cX10_strike 16 = .ok (.istore_n 2, 1) := by decide +kernel
theorem dX10_strike_17 : decode cX10_strike 17 = .ok (.iload_n 2, 1) := by decide +kernel
theorem dX10_strike_18 : decode cX10_strike 18 = .ok (.iconst 5, 1) := by decide +kernel
theorem dX10_strike_19 : decode cX10_strike 19 = .ok (.if_icmp .ge 24, 3) := by decide +kernel
theorem dX10_strike_22 : decode cX10_strike 22 = .ok (.aload_n 0, 1) := by decide +kernel
theorem dX10_strike_23 : decode cX10_strike 23 = .ok (.getfield 7, 3) := by decide +kernel
theorem dX10_strike_26 : decode cX10_strike 26 = .ok (.sipush 128, 3) := by decide +kernel
theorem dX10_strike_29 : decode cX10_strike 29 = .ok (.iconst 5, 1) := by decide +kernel
theorem dX10_strike_30 : decode cX10_strike 30 = .ok (.iload_n 1, 1) := by decide +kernel
theorem dX10_strike_31 : decode cX10_strike 31 = .ok (.imul, 1) := by decide +kernel
theorem dX10_strike_32 : decode cX10_strike 32 = .ok (.iadd, 1) := by decide +kernel
theorem dX10_strike_33 : decode cX10_strike 33 = .ok (.iload_n 2, 1) := by decide +kernel
theorem dX10_strike_34 : decode cX10_strike 34 = .ok (.iadd, 1) := by decide +kernel
theorem dX10_strike_35 : decode cX10_strike 35 = .ok (.iconst 0, 1) := by decide +kernel
theorem dX10_strike_36 : decode cX10_strike 36 = .ok (.iastore, 1) := by decide +kernel
theorem dX10_strike_37 : decode cX10_strike 37 = .ok (.iinc 2 1, 3) := by decide +kernel
theorem dX10_strike_40 : decode cX10_strike 40 = .ok (.goto (-23), 3) := by decide +kernel
theorem dX10_strike_43 : decode cX10_strike 43 = .ok (.aload_n 0, 1) := by decide +kernel
theorem dX10_strike_44 : decode cX10_strike 44 = .ok (.invokevirtual 231, 3) := by decide +kernel
theorem dX10_strike_47 : decode cX10_strike 47 = .ok (.ireturn, 1) := by decide +kernel
theorem dX10_see_0 : decode cX10_see 0 = .ok (.iload_n 1, 1) := by decide +kernel
theorem dX10_see_1 : decode cX10_see 1 = .ok (.invokestatic 145, 3) := by decide +kernel
theorem dX10_see_4 : decode cX10_see 4 = .ok (.ifCond .eq 11, 3) := by decide +kernel
theorem dX10_see_7 : decode cX10_see 7 = .ok (.aload_n 0, 1) := by decide +kernel
theorem dX10_see_8 : decode cX10_see 8 = .ok (.iload_n 2, 1) := by decide +kernel
theorem dX10_see_9 : decode cX10_see 9 = .ok (.invokevirtual 234, 3) := by decide +kernel
theorem dX10_see_12 : decode cX10_see 12 = .ok (.ifCond .ne 6, 3) := by decide +kernel
theorem dX10_see_15 : decode cX10_see 15 = .ok (.ldc 177, 2) := by decide +kernel
theorem dX10_see_17 : decode cX10_see 17 = .ok (.ireturn, 1) := by decide +kernel
theorem dX10_see_18 : decode cX10_see 18 = .ok (.aload_n 0, 1) := by decide +kernel
theorem dX10_see_19 : decode cX10_see 19 = .ok (.getfield 7, 3) := by decide +kernel
theorem dX10_see_22 : decode cX10_see 22 = .ok (.iconst 2, 1) := by decide +kernel
theorem dX10_see_23 : decode cX10_see 23 = .ok (.iaload, 1) := by decide +kernel
theorem dX10_see_24 : decode cX10_see 24 = .ok (.bipush 12, 2) := by decide +kernel
theorem dX10_see_26 : decode cX10_see 26 = .ok (.if_icmp .ne 6, 3) := by decide +kernel
theorem dX10_see_29 : decode cX10_see 29 = .ok (.ldc 178, 2) := by decide +kernel
theorem dX10_see_31 : decode cX10_see 31 = .ok (.ireturn, 1) := by decide +kernel
theorem dX10_see_32 : decode cX10_see 32 = .ok (.aload_n 0, 1) := by decide +kernel
theorem dX10_see_33 : decode cX10_see 33 = .ok (.invokevirtual 205, 3) := by decide +kernel
theorem dX10_see_36 : decode cX10_see 36 = .ok (.aload_n 0, 1) := by decide +kernel
theorem dX10_see_37 : decode cX10_see 37 = .ok (.getfield 7, 3) := by decide +kernel
theorem dX10_see_40 : decode cX10_see 40 = .ok (.sipush 168, 3) := by decide +kernel
theorem dX10_see_43 : decode cX10_see 43 = .ok (.iconst 2, 1) := by decide +kernel
theorem dX10_see_44 : decode cX10_see 44 = .ok (.aload_n 0, 1) := by decide +kernel
theorem dX10_see_45 : decode cX10_see 45 = .ok (.getfield 7, 3) := by decide +kernel
theorem dX10_see_48 : decode cX10_see 48 = .ok (.iconst 2, 1) := by decide +kernel
theorem dX10_see_49 : decode cX10_see 49 = .ok (.iaload, 1) := by decide +kernel
theorem dX10_see_50 : decode cX10_see 50 = .ok (.imul, 1) := by decide +kernel
theorem dX10_see_51 : decode cX10_see 51 = .ok (.iadd, 1) := by decide +kernel
theorem dX10_see_52 : decode cX10_see 52 = .ok (.iload_n 1, 1) := by decide +kernel
theorem dX10_see_53 : decode cX10_see 53 = .ok (.iastore, 1) := by decide +kernel
theorem dX10_see_54 : decode cX10_see 54 = .ok (.aload_n 0, 1) := by decide +kernel
theorem dX10_see_55 : decode cX10_see 55 = .ok (.getfield 7, 3) := by decide +kernel
theorem dX10_see_58 : decode cX10_see 58 = .ok (.sipush 168, 3) := by decide +kernel
theorem dX10_see_61 : decode cX10_see 61 = .ok (.iconst 2, 1) := by decide +kernel
theorem dX10_see_62 : decode cX10_see 62 = .ok (.aload_n 0, 1) := by decide +kernel
theorem dX10_see_63 : decode cX10_see 63 = .ok (.getfield 7, 3) := by decide +kernel
theorem dX10_see_66 : decode cX10_see 66 = .ok (.iconst 2, 1) := by decide +kernel
theorem dX10_see_67 : decode cX10_see 67 = .ok (.iaload, 1) := by decide +kernel
theorem dX10_see_68 : decode cX10_see 68 = .ok (.imul, 1) := by decide +kernel
theorem dX10_see_69 : decode cX10_see 69 = .ok (.iadd, 1) := by decide +kernel
theorem dX10_see_70 : decode cX10_see 70 = .ok (.iconst 1, 1) := by decide +kernel
theorem dX10_see_71 : decode cX10_see 71 = .ok (.iadd, 1) := by decide +kernel
theorem dX10_see_72 : decode cX10_see 72 = .ok (.iload_n 2, 1) := by decide +kernel
theorem dX10_see_73 : decode cX10_see 73 = .ok (.iastore, 1) := by decide +kernel
theorem dX10_see_74 : decode cX10_see 74 = .ok (.aload_n 0, 1) := by decide +kernel
theorem dX10_see_75 : decode cX10_see 75 = .ok (.getfield 7, 3) := by decide +kernel
theorem dX10_see_78 : decode cX10_see 78 = .ok (.iconst 2, 1) := by decide +kernel
theorem dX10_see_79 : decode cX10_see 79 = .ok (.dup2, 1) := by decide +kernel
theorem dX10_see_80 : decode cX10_see 80 = .ok (.iaload, 1) := by decide +kernel
theorem dX10_see_81 : decode cX10_see 81 = .ok (.iconst 1, 1) := by decide +kernel
theorem dX10_see_82 : decode cX10_see 82 = .ok (.iadd, 1) := by decide +kernel
theorem dX10_see_83 : decode cX10_see 83 = .ok (.iastore, 1) := by decide +kernel
theorem dX10_see_84 : decode cX10_see 84 = .ok (.aload_n 0, 1) := by decide +kernel
theorem dX10_see_85 : decode cX10_see 85 = .ok (.getfield 7, 3) := by decide +kernel
theorem dX10_see_88 : decode cX10_see 88 = .ok (.iconst 2, 1) := by decide +kernel
theorem dX10_see_89 : decode cX10_see 89 = .ok (.iaload, 1) := by decide +kernel
theorem dX10_see_90 : decode cX10_see 90 = .ok (.ireturn, 1) := by decide +kernel
def w_X10_add : List Cond := .code yX10_add cX10_add 6 (some .int) :: ([.methodLink RX10 55 yX10_isEdition, .instanceMethod yX10_isEdition, .selects RX10 yX10_isEdition yX10_isEdition, .initialized RX10, .code yX10_isEdition cX10_isEdition 2 (some .boolean), .methodLink RX10 47 yX10_isWork, .instanceMethod yX10_isWork, .selects RX10 yX10_isWork yX10_isWork, .code yX10_isWork cX10_isWork 1 (some .boolean), .fieldLink RX10 7 "LineCitesModel" "now" "[I", .methodLink RX10 51 yX10_in0, .static yX10_in0, .code yX10_in0 cX10_in0 6 (some .boolean), .constant RX10 177 (-1000001), .constant RX10 61 (-1000000), .methodLink RX10 201 yX10_isGood, .instanceMethod yX10_isGood, .selects RX10 yX10_isGood yX10_isGood, .code yX10_isGood cX10_isGood 7 (some .boolean), .constantLong RX10 199 (5), .methodLink RX10 156 yX10_isFrom, .static yX10_isFrom, .code yX10_isFrom cX10_isFrom 4 (some .boolean), .methodLink RX10 66 yX10_stretchOf, .static yX10_stretchOf, .code yX10_stretchOf cX10_stretchOf 7 (some .int), .methodLink RX10 62 yX10_of, .static yX10_of, .code yX10_of cX10_of 4 (some .int), .methodLink RX10 164 yX10_isMany, .static yX10_isMany, .code yX10_isMany cX10_isMany 7 (some .boolean), .methodLink RX10 168 yX10_isFirst, .static yX10_isFirst, .code yX10_isFirst cX10_isFirst 3 (some .boolean), .methodLink RX10 145 yX10_isNumber, .static yX10_isNumber, .code yX10_isNumber cX10_isNumber 1 (some .boolean), .constantLong RX10 59 (999), .methodLink RX10 148 yX10_greatest, .static yX10_greatest, .code yX10_greatest cX10_greatest 3 (some .int), .methodLink RX10 205 yX10_notes, .instanceMethod yX10_notes, .selects RX10 yX10_notes yX10_notes, .code yX10_notes cX10_notes 2 none, .fieldLink RX10 195 "LineCitesModel" "acts" "I", .fieldLink RX10 16 "LineCitesModel" "past" "[I", .methodLink RX10 191 yX10_copies, .static yX10_copies, .code yX10_copies cX10_copies 5 none, .methodLink RX10 171 yX10_puts, .static yX10_puts, .code yX10_puts cX10_puts 7 none, .constant RX10 178 (-1000003)] ++ wsX100)
set_option maxRecDepth 20000 in
theorem g_X10_add_X10_isEdition : GoodIn w_X10_add (wsV RX10 55 RX10 yX10_isEdition w_X10_isEdition) := goodIn_r _ [1, 2, 3, 4, 5, 6, 7, 8, 4, 9, 10, 11, 12, 13, 56, 57, 58, 59, 60, 61, 62, 63, 64, 65, 66, 67, 68, 69, 70, 71, 72, 73, 74, 75, 76, 77, 78, 79, 80] rfl (by decide +kernel)
set_option maxRecDepth 20000 in
theorem g_X10_add_X10_isGood : GoodIn w_X10_add (wsV RX10 201 RX10 yX10_isGood w_X10_isGood) := goodIn_r _ [16, 17, 18, 4, 19, 20, 11, 12, 4, 13, 10, 21, 22, 23, 24, 25, 26, 15, 27, 28, 29, 30, 31, 32, 33, 34, 35, 36, 37, 38, 39, 40, 41, 42, 56, 57, 58, 59, 60, 61, 62, 63, 64, 65, 66, 67, 68, 69, 70, 71, 72, 73, 74, 75, 76, 77, 78, 79, 80] rfl (by decide +kernel)
set_option maxRecDepth 20000 in
theorem g_X10_add_X10_notes : GoodIn w_X10_add (wsV RX10 205 RX10 yX10_notes w_X10_notes) := goodIn_r _ [43, 44, 45, 4, 46, 47, 10, 48, 49, 50, 4, 51, 56, 57, 58, 59, 60, 61, 62, 63, 64, 65, 66, 67, 68, 69, 70, 71, 72, 73, 74, 75, 76, 77, 78, 79, 80] rfl (by decide +kernel)
set_option maxRecDepth 20000 in
theorem g_X10_add_X10_puts : GoodIn w_X10_add (wsS RX10 171 yX10_puts w_X10_puts) := goodIn_r _ [52, 53, 4, 54] rfl (by decide +kernel)
set_option maxHeartbeats 4000000 in
set_option maxRecDepth 100000 in
theorem c_X10_add (l : Launch) (D : va_G) (h0 : Nat) (i_0 : Int32) (i_1 : Int32) (i_2 : Int32) (i_3 : Int32) (i_4 : Int32) (m_now : Nat) (m_draft : Nat) (m_past : Nat) (j_acts : Int32) (m_images : Nat) (m_kept : Nat) (m_tape : Nat) (j_taped : Int32) (j_at : Int32) (j_start : Int32) (j_token : Int32) (j_value : Int32) (j_fault : Int32) (j_place : Int32) (j_latest : Int32) (m_low : Nat) (m_high : Nat) (m_first : Nat) (m_second : Nat) (m_lines : Nat) (m_others : Nat) (j_shiftFirst : Int32) (j_shiftMany : Int32) (j_shiftLow : Int32) (j_shiftHigh : Int32) (kI : ClassId) (g_now : Nat → Int32) (g_past : Nat → Int32) (sz : Nat) (hN1 : 1 ≤ (g_now 0).toInt) (h0j_acts : 0 ≤ j_acts.toInt) (h1j_acts : j_acts.toInt ≤ 10) (hPb : pB g_past j_acts.toInt) (hg_now : gV g_now) : Met l yX10_add w_X10_add ({ frames := 4, cells := 0, slots := 0, locals := 103 }) (va_Pc [.ref h0, .int i_0, .int i_1, .int i_2, .int i_3, .int i_4] (fun U => U.heap.size = sz ∧ va_P D vwCl [(h0, .inr (10, [.ref m_now, .ref m_draft, .ref m_past, .int j_acts, .ref m_images, .ref m_kept, .ref m_tape, .int j_taped, .int j_at, .int j_start, .int j_token, .int j_value, .int j_fault, .int j_place, .int j_latest, .ref m_low, .ref m_high, .ref m_first, .ref m_second, .ref m_lines, .ref m_others, .int j_shiftFirst, .int j_shiftMany, .int j_shiftLow, .int j_shiftHigh])), (m_now, .inl (kI, 192, .inl g_now)), (m_past, .inl (kI, 1920, .inl g_past))] U.heap ∧ va_K D vwCl [(kI, .int)] U ∧ va_D (fun _ => True) [(h0, .inr (10, [.ref m_now, .ref m_draft, .ref m_past, .int j_acts, .ref m_images, .ref m_kept, .ref m_tape, .int j_taped, .int j_at, .int j_start, .int j_token, .int j_value, .int j_fault, .int j_place, .int j_latest, .ref m_low, .ref m_high, .ref m_first, .ref m_second, .ref m_lines, .ref m_others, .int j_shiftFirst, .int j_shiftMany, .int j_shiftLow, .int j_shiftHigh])), (m_now, .inl (kI, 192, .inl g_now)), (m_past, .inl (kI, 1920, .inl g_past))])) (va_Qi (fun (r : Int32) (_ : Unit) => True) (fun (_ : Unit) t => ∃ (n_acts : Int32) (n_now : Nat → Int32) (n_past : Nat → Int32), va_P D vwCl [(h0, .inr (10, [.ref m_now, .ref m_draft, .ref m_past, .int n_acts, .ref m_images, .ref m_kept, .ref m_tape, .int j_taped, .int j_at, .int j_start, .int j_token, .int j_value, .int j_fault, .int j_place, .int j_latest, .ref m_low, .ref m_high, .ref m_first, .ref m_second, .ref m_lines, .ref m_others, .int j_shiftFirst, .int j_shiftMany, .int j_shiftLow, .int j_shiftHigh])), (m_now, .inl (kI, 192, .inl n_now)), (m_past, .inl (kI, 1920, .inl n_past))] t.heap ∧ va_K D vwCl [(kI, .int)] t ∧ va_D (va_A [(h0, .inr (10, [.ref m_now, .ref m_draft, .ref m_past, .int j_acts, .ref m_images, .ref m_kept, .ref m_tape, .int j_taped, .int j_at, .int j_start, .int j_token, .int j_value, .int j_fault, .int j_place, .int j_latest, .ref m_low, .ref m_high, .ref m_first, .ref m_second, .ref m_lines, .ref m_others, .int j_shiftFirst, .int j_shiftMany, .int j_shiftLow, .int j_shiftHigh])), (m_now, .inl (kI, 192, .inl g_now)), (m_past, .inl (kI, 1920, .inl g_past))] sz) [(h0, .inr (10, [.ref m_now, .ref m_draft, .ref m_past, .int n_acts, .ref m_images, .ref m_kept, .ref m_tape, .int j_taped, .int j_at, .int j_start, .int j_token, .int j_value, .int j_fault, .int j_place, .int j_latest, .ref m_low, .ref m_high, .ref m_first, .ref m_second, .ref m_lines, .ref m_others, .int j_shiftFirst, .int j_shiftMany, .int j_shiftLow, .int j_shiftHigh])), (m_now, .inl (kI, 192, .inl n_now)), (m_past, .inl (kI, 1920, .inl n_past))] ∧ gV n_now ∧ 1 ≤ (n_now 0).toInt ∧ (0 ≤ n_acts.toInt ∧ n_acts.toInt ≤ 10) ∧ pB n_past n_acts.toInt) (va_A [(h0, .inr (10, [.ref m_now, .ref m_draft, .ref m_past, .int j_acts, .ref m_images, .ref m_kept, .ref m_tape, .int j_taped, .int j_at, .int j_start, .int j_token, .int j_value, .int j_fault, .int j_place, .int j_latest, .ref m_low, .ref m_high, .ref m_first, .ref m_second, .ref m_lines, .ref m_others, .int j_shiftFirst, .int j_shiftMany, .int j_shiftLow, .int j_shiftHigh])), (m_now, .inl (kI, 192, .inl g_now)), (m_past, .inl (kI, 1920, .inl g_past))] sz)) 0 0 (va_A [(h0, .inr (10, [.ref m_now, .ref m_draft, .ref m_past, .int j_acts, .ref m_images, .ref m_kept, .ref m_tape, .int j_taped, .int j_at, .int j_start, .int j_token, .int j_value, .int j_fault, .int j_place, .int j_latest, .ref m_low, .ref m_high, .ref m_first, .ref m_second, .ref m_lines, .ref m_others, .int j_shiftFirst, .int j_shiftMany, .int j_shiftLow, .int j_shiftHigh])), (m_now, .inl (kI, 192, .inl g_now)), (m_past, .inl (kI, 1920, .inl g_past))] sz) := by
  refine Met.ofW (cc := cX10_add) (maxL := 6) (ret := (some .int)) (by decide) rfl ?_
  intro p e s m args below meth c s₁ B hml hv
  obtain ⟨rfl, hsz, hP, hK, hD0⟩ := hv
  have hx := B.exec
  have hb := B.bytes
  have hr := B.returns
  have hts := atoms_spec (ws := w_X10_add) B.pre
  have hown : s.vm.findClass RX10 = some m.cls := findClass_of_methodNamed B.named
  have hlocks := B.notSynchronized
  subst hsz
  have hD := hD0.self (sz := s.heap.size)
  generalize hAe : va_A [(h0, .inr (10, [.ref m_now, .ref m_draft, .ref m_past, .int j_acts, .ref m_images, .ref m_kept, .ref m_tape, .int j_taped, .int j_at, .int j_start, .int j_token, .int j_value, .int j_fault, .int j_place, .int j_latest, .ref m_low, .ref m_high, .ref m_first, .ref m_second, .ref m_lines, .ref m_others, .int j_shiftFirst, .int j_shiftMany, .int j_shiftLow, .int j_shiftHigh])), (m_now, .inl (kI, 192, .inl g_now)), (m_past, .inl (kI, 1920, .inl g_past))] s.heap.size = A at hD ⊢
  have hA : ∀ q : Nat, s.heap.size ≤ q → A q := fun q h => by rw [← hAe]; exact Or.inr h
  have hS : va_S A s.heap s.heap [] := va_S.rf
  have hP : va_P D vwCl [(h0, .inr (10, [.ref m_now, .ref m_draft, .ref m_past, .int j_acts, .ref m_images, .ref m_kept, .ref m_tape, .int j_taped, .int j_at, .int j_start, .int j_token, .int j_value, .int j_fault, .int j_place, .int j_latest, .ref m_low, .ref m_high, .ref m_first, .ref m_second, .ref m_lines, .ref m_others, .int j_shiftFirst, .int j_shiftMany, .int j_shiftLow, .int j_shiftHigh])), (m_now, .inl (kI, 192, .inl g_now)), (m_past, .inl (kI, 1920, .inl g_past))] s.heap := hP
  have hl := lv_entry ([.ref h0, .int i_0, .int i_1, .int i_2, .int i_3, .int i_4]) (n := 6) (Nat.le_of_ble_eq_true rfl)
  rw [lg_entry_eq]
  generalize (lg_sl ([.ref h0, .int i_0, .int i_1, .int i_2, .int i_3, .int i_4]) ++ List.replicate (6 - (lg_sl ([.ref h0, .int i_0, .int i_1, .int i_2, .int i_3, .int i_4])).length) Slot.unset).toArray = ls at hl ⊢
  have hl : lv_has ls 6 [(0, .ref h0), (1, .int i_0), (2, .int i_1), (3, .int i_2), (4, .int i_3), (5, .int i_4)] := hl
  obtain ⟨H, hHe⟩ : ∃ H : Heap, H = s.heap := ⟨_, rfl⟩
  rw [← hHe] at hP
  have hS : va_S A s.heap H [] := by rw [hHe]; exact hS
  refine pw_heap hHe ?_
  refine lv_aload_n hx hb dX10_add_0 rfl (lv_at hl 0 rfl) ?_
  refine lv_iload_n hx hb dX10_add_1 rfl (lv_at hl 1 rfl) ?_
  have hPc := hP.sub (ws' := [(h0, .inr (10, [.ref m_now, .ref m_draft, .ref m_past, .int j_acts, .ref m_images, .ref m_kept, .ref m_tape, .int j_taped, .int j_at, .int j_start, .int j_token, .int j_value, .int j_fault, .int j_place, .int j_latest, .ref m_low, .ref m_high, .ref m_first, .ref m_second, .ref m_lines, .ref m_others, .int j_shiftFirst, .int j_shiftMany, .int j_shiftLow, .int j_shiftHigh])), (m_now, .inl (kI, 192, .inl g_now))]) [0, 1] rfl
  have hKc := hK.sub (tys' := [(kI, .int)]) [0] rfl
  refine va_calli (va_runV (As := [.int i_0]) (rest := []) ⟨hx, hb, hml, hown, hts⟩ (c_X10_isEdition l D h0 i_0 m_now m_draft m_past j_acts m_images m_kept m_tape j_taped j_at j_start j_token j_value j_fault j_place j_latest m_low m_high m_first m_second m_lines m_others j_shiftFirst j_shiftMany j_shiftLow j_shiftHigh kI g_now hg_now) (cwV 1 hts g_X10_add_X10_isEdition rfl rfl rfl (by decide +kernel) ⟨Nat.le_of_ble_eq_true rfl, Nat.le_of_ble_eq_true rfl⟩) ⟨fun a U g mk q => by obtain ⟨q0, qP, qK⟩ := q; exact ⟨q0, qP, va_K.moved (u := U) (U := U.calling g mk a) (Vm.Alike.refl U.vm) qK⟩, va_recv hKc hPc (ci := 10) (q0 := 0) rfl rfl, fun U hU hW => ⟨rfl, by rw [hU]; exact hPc, va_K.moved hW.alike hKc⟩⟩ rfl rfl hl.1 rfl (lv_room (Nat.le_of_ble_eq_true rfl)) dX10_add_2 ⟨Nat.le_of_ble_eq_true rfl, Nat.le_of_ble_eq_true rfl⟩) hS (fun _ _ h => h.elim) (fun _ h => h.elim) (fun r1 u t H1 locs ht hvm hw hB hz1 hk1 hS => ?_)
  have hP := pw_keep hP (fun q hq => hk1 q hq (fun h => h))
  generalize H1 = H at hP hS ⊢
  refine W.widen (k := 0) (n := 0) (Nat.le_of_ble_eq_true rfl) (Nat.le_of_ble_eq_true rfl) ?_
  have bor1 := hw.1
  have zor1 := pw_boolI bor1
  have hfr1 := hw.2
  refine lv_if_eq (tgt := 24) hx hb dX10_add_5 (by decide) (fun c2 => ?_) (fun c2 => ?_)
  · have nc2 : r1.toInt = 0 := pw_eq c2 rfl (by decide)
    refine lv_ldc hx hb hown (hts (.constant RX10 177 (-1000001)) (List.mem_of_getElem? (i := 14) rfl)) dX10_add_24 ?_
    have hP9 := hP.sub (ws' := [(h0, .inr (10, [.ref m_now, .ref m_draft, .ref m_past, .int j_acts, .ref m_images, .ref m_kept, .ref m_tape, .int j_taped, .int j_at, .int j_start, .int j_token, .int j_value, .int j_fault, .int j_place, .int j_latest, .ref m_low, .ref m_high, .ref m_first, .ref m_second, .ref m_lines, .ref m_others, .int j_shiftFirst, .int j_shiftMany, .int j_shiftLow, .int j_shiftHigh])), (m_now, .inl (kI, 192, .inl g_now)), (m_past, .inl (kI, 1920, .inl g_past))]) [0, 1, 2] rfl
    have hD9 := hD.sub (ws' := [(h0, .inr (10, [.ref m_now, .ref m_draft, .ref m_past, .int j_acts, .ref m_images, .ref m_kept, .ref m_tape, .int j_taped, .int j_at, .int j_start, .int j_token, .int j_value, .int j_fault, .int j_place, .int j_latest, .ref m_low, .ref m_high, .ref m_first, .ref m_second, .ref m_lines, .ref m_others, .int j_shiftFirst, .int j_shiftMany, .int j_shiftLow, .int j_shiftHigh])), (m_now, .inl (kI, 192, .inl g_now)), (m_past, .inl (kI, 1920, .inl g_past))]) [0, 1, 2] (by decide) rfl
    have hK9 := hK.sub (tys' := [(kI, .int)]) [0] rfl
    refine W.widen (k := 0) (n := 0) (Nat.le_of_ble_eq_true rfl) (Nat.le_of_ble_eq_true rfl) ?_
    exact W.iret (v := (-1000001)) hx hb hr (fun t ht hW => ⟨⟨(-1000001), (), rfl, trivial, j_acts, g_now, g_past, by rw [ht]; exact hP9, va_K.moved hW.alike hK9, hD9, hg_now, hN1, (by omega), hPb⟩, hS.F ht⟩) hS.2.2 dX10_add_26
  · have nc2 : r1.toInt ≠ 0 := pw_ne c2 rfl (by decide)
    refine lv_aload_n hx hb dX10_add_8 rfl (lv_at hl 0 rfl) ?_
    refine lv_iload_n hx hb dX10_add_9 rfl (lv_at hl 1 rfl) ?_
    refine lv_iload_n hx hb dX10_add_10 rfl (lv_at hl 2 rfl) ?_
    refine lv_iload_n hx hb dX10_add_11 rfl (lv_at hl 3 rfl) ?_
    refine lv_iload hx hb dX10_add_12 (lv_at hl 4 rfl) ?_
    refine lv_iload hx hb dX10_add_14 (lv_at hl 5 rfl) ?_
    refine lv_ldc hx hb hown (hts (.constant RX10 61 (-1000000)) (List.mem_of_getElem? (i := 15) rfl)) dX10_add_16 ?_
    have hPc := hP.sub (ws' := [(h0, .inr (10, [.ref m_now, .ref m_draft, .ref m_past, .int j_acts, .ref m_images, .ref m_kept, .ref m_tape, .int j_taped, .int j_at, .int j_start, .int j_token, .int j_value, .int j_fault, .int j_place, .int j_latest, .ref m_low, .ref m_high, .ref m_first, .ref m_second, .ref m_lines, .ref m_others, .int j_shiftFirst, .int j_shiftMany, .int j_shiftLow, .int j_shiftHigh])), (m_now, .inl (kI, 192, .inl g_now))]) [0, 1] rfl
    have hKc := hK.sub (tys' := [(kI, .int)]) [0] rfl
    refine va_calli (va_runV (As := [.int i_0, .int i_1, .int i_2, .int i_3, .int i_4, .int (-1000000)]) (rest := []) ⟨hx, hb, hml, hown, hts⟩ (c_X10_isGood l D h0 i_0 i_1 i_2 i_3 i_4 (-1000000) m_now m_draft m_past j_acts m_images m_kept m_tape j_taped j_at j_start j_token j_value j_fault j_place j_latest m_low m_high m_first m_second m_lines m_others j_shiftFirst j_shiftMany j_shiftLow j_shiftHigh kI g_now (by first | decide | omega) (by first | decide | omega) hg_now) (cwV 6 hts g_X10_add_X10_isGood rfl rfl rfl (by decide +kernel) ⟨Nat.le_of_ble_eq_true rfl, Nat.le_of_ble_eq_true rfl⟩) ⟨fun a U g mk q => by obtain ⟨q0, qP, qK⟩ := q; exact ⟨q0, qP, va_K.moved (u := U) (U := U.calling g mk a) (Vm.Alike.refl U.vm) qK⟩, va_recv hKc hPc (ci := 10) (q0 := 0) rfl rfl, fun U hU hW => ⟨rfl, by rw [hU]; exact hPc, va_K.moved hW.alike hKc⟩⟩ rfl rfl hl.1 rfl (lv_room (Nat.le_of_ble_eq_true rfl)) dX10_add_18 ⟨Nat.le_of_ble_eq_true rfl, Nat.le_of_ble_eq_true rfl⟩) hS (fun _ _ h => h.elim) (fun _ h => h.elim) (fun r3 u t H1 locs ht hvm hw hB hz1 hk1 hS => ?_)
    have hP := pw_keep hP (fun q hq => hk1 q hq (fun h => h))
    generalize H1 = H at hP hS ⊢
    refine W.widen (k := 0) (n := 0) (Nat.le_of_ble_eq_true rfl) (Nat.le_of_ble_eq_true rfl) ?_
    have bor3 := hw.1
    have zor3 := pw_boolI bor3
    have hfr3 := hw.2
    refine lv_if_ne (tgt := 27) hx hb dX10_add_21 (by decide) (fun c4 => ?_) (fun c4 => ?_)
    · have nc4 : r3.toInt ≠ 0 := pw_ne c4 rfl (by decide)
      have hvS : vS i_1.toInt i_2.toInt i_3.toInt i_4.toInt := by
        rcases hfr3 with q | q
        · omega
        · exact q.2
      refine lv_aload_n hx hb dX10_add_27 rfl (lv_at hl 0 rfl) ?_
      refine va_get (D := D) (ci := 10) (v := .ref m_now) (C := RX10) (T := TX10) (N := 25) hx hb hts (fun _ h => List.mem_cons_of_mem _ (List.mem_append_right _ h)) hown hK hP 0 rfl rfl 0 (by decide) (hts (.fieldLink RX10 7 "LineCitesModel" "now" "[I") (List.mem_of_getElem? (i := 10) rfl)) (fun _ h9 => h9) rfl dX10_add_28 ?_
      refine lv_iconst (v := 3) hx hb dX10_add_31 (by decide) ?_
      refine lv_iload_n hx hb dX10_add_32 rfl (lv_at hl 1 rfl) ?_
      refine lv_iadd hx hb dX10_add_33 ?_
      refine lv_topi (fun x5 ex5 => ?_)
      have tx5 : x5.toInt = 3 + i_0.toInt := pw_addX ex5 (by decide) rfl (by omega) (by omega)
      refine va_iald hx hb hK hP 1 0 rfl rfl (vp_in_iff.mpr ⟨by omega, by omega⟩) dX10_add_34 ?_
      refine lv_topi (fun x6 ex6 => ?_)
      have nx6 : 0 ≤ x6.toInt ∧ x6.toInt ≤ 6 := gV_m hg_now ex6 (by omega) (by omega)
      have zx6 := pC_at (a := 3 + i_0.toInt.toNat) ex6 (by omega)
      refine lv_bipush (v := 6) hx hb dX10_add_35 (by decide) ?_
      refine lv_icmp_ne (tgt := 43) hx hb dX10_add_37 (by decide) (fun c7 => ?_) (fun c7 => ?_)
      · have nc7 : x6.toInt ≠ 6 := pw_ne c7 rfl (by decide)
        refine lv_aload_n hx hb dX10_add_43 rfl (lv_at hl 0 rfl) ?_
        have hPc := hP.sub (ws' := [(h0, .inr (10, [.ref m_now, .ref m_draft, .ref m_past, .int j_acts, .ref m_images, .ref m_kept, .ref m_tape, .int j_taped, .int j_at, .int j_start, .int j_token, .int j_value, .int j_fault, .int j_place, .int j_latest, .ref m_low, .ref m_high, .ref m_first, .ref m_second, .ref m_lines, .ref m_others, .int j_shiftFirst, .int j_shiftMany, .int j_shiftLow, .int j_shiftHigh])), (m_now, .inl (kI, 192, .inl g_now)), (m_past, .inl (kI, 1920, .inl g_past))]) [0, 1, 2] rfl
        have hKc := hK.sub (tys' := [(kI, .int)]) [0] rfl
        have hDc := hD.sub (ws' := [(h0, .inr (10, [.ref m_now, .ref m_draft, .ref m_past, .int j_acts, .ref m_images, .ref m_kept, .ref m_tape, .int j_taped, .int j_at, .int j_start, .int j_token, .int j_value, .int j_fault, .int j_place, .int j_latest, .ref m_low, .ref m_high, .ref m_first, .ref m_second, .ref m_lines, .ref m_others, .int j_shiftFirst, .int j_shiftMany, .int j_shiftLow, .int j_shiftHigh])), (m_now, .inl (kI, 192, .inl g_now)), (m_past, .inl (kI, 1920, .inl g_past))]) [0, 1, 2] (by decide) rfl
        have hFc := va_free (wc := [(h0, .inr (10, [.ref m_now, .ref m_draft, .ref m_past, .int j_acts, .ref m_images, .ref m_kept, .ref m_tape, .int j_taped, .int j_at, .int j_start, .int j_token, .int j_value, .int j_fault, .int j_place, .int j_latest, .ref m_low, .ref m_high, .ref m_first, .ref m_second, .ref m_lines, .ref m_others, .int j_shiftFirst, .int j_shiftMany, .int j_shiftLow, .int j_shiftHigh])), (m_now, .inl (kI, 192, .inl g_now)), (m_past, .inl (kI, 1920, .inl g_past))]) hD hS hA [0, 1, 2] rfl
        refine va_callv (va_runV (As := []) (rest := []) ⟨hx, hb, hml, hown, hts⟩ (c_X10_notes l D h0 m_now m_draft m_past j_acts m_images m_kept m_tape j_taped j_at j_start j_token j_value j_fault j_place j_latest m_low m_high m_first m_second m_lines m_others j_shiftFirst j_shiftMany j_shiftLow j_shiftHigh kI g_now g_past H.size hN1 (by first | decide | omega) (by first | decide | omega) hPb hg_now) (cwV 0 hts g_X10_add_X10_notes rfl rfl rfl (by decide +kernel) ⟨Nat.le_of_ble_eq_true rfl, Nat.le_of_ble_eq_true rfl⟩) ⟨fun a U g mk q => by obtain ⟨q0, q1, qP, qK, qD⟩ := q; exact ⟨q0, q1, qP, va_K.moved (u := U) (U := U.calling g mk a) (Vm.Alike.refl U.vm) qK, qD⟩, va_recv hKc hPc (ci := 10) (q0 := 0) rfl rfl, fun U hU hW => ⟨rfl, by rw [hU], by rw [hU]; exact hPc, va_K.moved hW.alike hKc, hDc.weaken (fun _ _ _ _ => trivial)⟩⟩ rfl rfl hl.1 rfl (lv_room (Nat.le_of_ble_eq_true rfl)) dX10_add_44 ⟨Nat.le_of_ble_eq_true rfl, Nat.le_of_ble_eq_true rfl⟩) hS (fun q _ h => hFc q h) hFc (fun u t H1 locs ht hvm hw hB hz1 hk1 hS => ?_)
        obtain ⟨y9, y10, hP1, hK1, hD1, px0_r8, px1_r8⟩ := hB
        rw [ht] at hP1
        have hK1 := va_K.moved hvm.symm hK1
        obtain ⟨hP, hD⟩ := va_join (wr := []) (w1 := [(h0, .inr (10, [.ref m_now, .ref m_draft, .ref m_past, .int y9, .ref m_images, .ref m_kept, .ref m_tape, .int j_taped, .int j_at, .int j_start, .int j_token, .int j_value, .int j_fault, .int j_place, .int j_latest, .ref m_low, .ref m_high, .ref m_first, .ref m_second, .ref m_lines, .ref m_others, .int j_shiftFirst, .int j_shiftMany, .int j_shiftLow, .int j_shiftHigh])), (m_now, .inl (kI, 192, .inl g_now)), (m_past, .inl (kI, 1920, .inl y10))]) hP hD [0, 1, 2] [] rfl rfl (by decide) (by decide) hk1 hFc hP1 hD1
        have hK := (hK.sub (tys' := [(kI, .int)]) [0] rfl).app hK1
        generalize H1 = H at hP hS ⊢
        have hP : va_P D vwCl [(h0, .inr (10, [.ref m_now, .ref m_draft, .ref m_past, .int y9, .ref m_images, .ref m_kept, .ref m_tape, .int j_taped, .int j_at, .int j_start, .int j_token, .int j_value, .int j_fault, .int j_place, .int j_latest, .ref m_low, .ref m_high, .ref m_first, .ref m_second, .ref m_lines, .ref m_others, .int j_shiftFirst, .int j_shiftMany, .int j_shiftLow, .int j_shiftHigh])), (m_now, .inl (kI, 192, .inl g_now)), (m_past, .inl (kI, 1920, .inl y10))] H := hP
        have hD : va_D A [(h0, .inr (10, [.ref m_now, .ref m_draft, .ref m_past, .int y9, .ref m_images, .ref m_kept, .ref m_tape, .int j_taped, .int j_at, .int j_start, .int j_token, .int j_value, .int j_fault, .int j_place, .int j_latest, .ref m_low, .ref m_high, .ref m_first, .ref m_second, .ref m_lines, .ref m_others, .int j_shiftFirst, .int j_shiftMany, .int j_shiftLow, .int j_shiftHigh])), (m_now, .inl (kI, 192, .inl g_now)), (m_past, .inl (kI, 1920, .inl y10))] := hD
        have hK : va_K D vwCl [(kI, .int), (kI, .int)] s := hK
        refine W.widen (k := 0) (n := 0) (Nat.le_of_ble_eq_true rfl) (Nat.le_of_ble_eq_true rfl) ?_
        refine lv_aload_n hx hb dX10_add_47 rfl (lv_at hl 0 rfl) ?_
        refine va_get (D := D) (ci := 10) (v := .ref m_now) (C := RX10) (T := TX10) (N := 25) hx hb hts (fun _ h => List.mem_cons_of_mem _ (List.mem_append_right _ h)) hown hK hP 0 rfl rfl 0 (by decide) (hts (.fieldLink RX10 7 "LineCitesModel" "now" "[I") (List.mem_of_getElem? (i := 10) rfl)) (fun _ h9 => h9) rfl dX10_add_48 ?_
        refine lv_iload_n hx hb dX10_add_51 rfl (lv_at hl 1 rfl) ?_
        refine lv_iload_n hx hb dX10_add_52 rfl (lv_at hl 2 rfl) ?_
        refine lv_iload_n hx hb dX10_add_53 rfl (lv_at hl 3 rfl) ?_
        refine lv_iload hx hb dX10_add_54 (lv_at hl 4 rfl) ?_
        refine lv_iload hx hb dX10_add_56 (lv_at hl 5 rfl) ?_
        have hPc := hP.sub (ws' := [(m_now, .inl (kI, 192, .inl g_now))]) [1] rfl
        have hKc := hK.sub (tys' := [(kI, .int)]) [0] rfl
        have hDc := hD.sub (ws' := [(m_now, .inl (kI, 192, .inl g_now))]) [1] (by decide) rfl
        have hFc := va_free (wc := [(m_now, .inl (kI, 192, .inl g_now))]) hD hS hA [1] rfl
        refine va_callv (va_runS (As := [.ref m_now, .int i_0, .int i_1, .int i_2, .int i_3, .int i_4]) (rest := []) ⟨hx, hb, hml, hown, hts⟩ (c_X10_puts l D m_now i_0 i_1 i_2 i_3 i_4 kI g_now i_0.toInt.toNat H.size (by first | omega | decide | (have hz0 : (0 : Int32).toInt = 0 := (by decide); omega)) (by first | decide | omega) (by first | decide | omega) (by first | omega | decide | (have hz0 : (0 : Int32).toInt = 0 := (by decide); omega)) hvS hg_now) (cwS 6 hts g_X10_add_X10_puts rfl rfl rfl (by decide +kernel) ⟨Nat.le_of_ble_eq_true rfl, Nat.le_of_ble_eq_true rfl⟩) ⟨fun a U g mk q => by obtain ⟨q0, q1, qP, qK, qD⟩ := q; exact ⟨q0, q1, qP, va_K.moved (u := U) (U := U.calling g mk a) (Vm.Alike.refl U.vm) qK, qD⟩, fun U hU hW => ⟨rfl, by rw [hU], by rw [hU]; exact hPc, va_K.moved hW.alike hKc, hDc.weaken (fun _ _ _ _ => trivial)⟩⟩ rfl rfl hl.1 rfl (lv_room (Nat.le_of_ble_eq_true rfl)) dX10_add_58 ⟨Nat.le_of_ble_eq_true rfl, Nat.le_of_ble_eq_true rfl⟩) hS (fun q _ h => hFc q h) hFc (fun u t H1 locs ht hvm hw hB hz1 hk1 hS => ?_)
        obtain ⟨y12, hP1, hK1, hD1, hy12, px0_r11⟩ := hB
        rw [ht] at hP1
        have hK1 := va_K.moved hvm.symm hK1
        obtain ⟨hP, hD⟩ := va_join (wr := [(h0, .inr (10, [.ref m_now, .ref m_draft, .ref m_past, .int y9, .ref m_images, .ref m_kept, .ref m_tape, .int j_taped, .int j_at, .int j_start, .int j_token, .int j_value, .int j_fault, .int j_place, .int j_latest, .ref m_low, .ref m_high, .ref m_first, .ref m_second, .ref m_lines, .ref m_others, .int j_shiftFirst, .int j_shiftMany, .int j_shiftLow, .int j_shiftHigh])), (m_past, .inl (kI, 1920, .inl y10))]) (w1 := [(m_now, .inl (kI, 192, .inl y12))]) hP hD [1] [0, 2] rfl rfl (by decide) (by decide) hk1 hFc hP1 hD1
        have hK := (hK.sub (tys' := [(kI, .int), (kI, .int)]) [0, 1] rfl).app hK1
        generalize H1 = H at hP hS ⊢
        have hP : va_P D vwCl [(h0, .inr (10, [.ref m_now, .ref m_draft, .ref m_past, .int y9, .ref m_images, .ref m_kept, .ref m_tape, .int j_taped, .int j_at, .int j_start, .int j_token, .int j_value, .int j_fault, .int j_place, .int j_latest, .ref m_low, .ref m_high, .ref m_first, .ref m_second, .ref m_lines, .ref m_others, .int j_shiftFirst, .int j_shiftMany, .int j_shiftLow, .int j_shiftHigh])), (m_past, .inl (kI, 1920, .inl y10)), (m_now, .inl (kI, 192, .inl y12))] H := hP
        have hD : va_D A [(h0, .inr (10, [.ref m_now, .ref m_draft, .ref m_past, .int y9, .ref m_images, .ref m_kept, .ref m_tape, .int j_taped, .int j_at, .int j_start, .int j_token, .int j_value, .int j_fault, .int j_place, .int j_latest, .ref m_low, .ref m_high, .ref m_first, .ref m_second, .ref m_lines, .ref m_others, .int j_shiftFirst, .int j_shiftMany, .int j_shiftLow, .int j_shiftHigh])), (m_past, .inl (kI, 1920, .inl y10)), (m_now, .inl (kI, 192, .inl y12))] := hD
        have hK : va_K D vwCl [(kI, .int), (kI, .int), (kI, .int)] s := hK
        refine W.widen (k := 0) (n := 0) (Nat.le_of_ble_eq_true rfl) (Nat.le_of_ble_eq_true rfl) ?_
        have hz0 := px0_r11.hr 0 (by omega) (by omega)
        refine lv_aload_n hx hb dX10_add_61 rfl (lv_at hl 0 rfl) ?_
        refine va_get (D := D) (ci := 10) (v := .ref m_now) (C := RX10) (T := TX10) (N := 25) hx hb hts (fun _ h => List.mem_cons_of_mem _ (List.mem_append_right _ h)) hown hK hP 0 rfl rfl 0 (by decide) (hts (.fieldLink RX10 7 "LineCitesModel" "now" "[I") (List.mem_of_getElem? (i := 10) rfl)) (fun _ h9 => h9) rfl dX10_add_62 ?_
        refine lv_iconst (v := 3) hx hb dX10_add_65 (by decide) ?_
        refine lv_iload_n hx hb dX10_add_66 rfl (lv_at hl 1 rfl) ?_
        refine lv_iadd hx hb dX10_add_67 ?_
        refine lv_topi (fun x13 ex13 => ?_)
        have tx13 : x13.toInt = 3 + i_0.toInt := pw_addX ex13 (by decide) rfl (by omega) (by omega)
        refine va_iald hx hb hK hP 2 0 rfl rfl (vp_in_iff.mpr ⟨by omega, by omega⟩) dX10_add_68 ?_
        refine lv_topi (fun x14 ex14 => ?_)
        have hP9 := hP.sub (ws' := [(h0, .inr (10, [.ref m_now, .ref m_draft, .ref m_past, .int y9, .ref m_images, .ref m_kept, .ref m_tape, .int j_taped, .int j_at, .int j_start, .int j_token, .int j_value, .int j_fault, .int j_place, .int j_latest, .ref m_low, .ref m_high, .ref m_first, .ref m_second, .ref m_lines, .ref m_others, .int j_shiftFirst, .int j_shiftMany, .int j_shiftLow, .int j_shiftHigh])), (m_now, .inl (kI, 192, .inl y12)), (m_past, .inl (kI, 1920, .inl y10))]) [0, 2, 1] rfl
        have hD9 := hD.sub (ws' := [(h0, .inr (10, [.ref m_now, .ref m_draft, .ref m_past, .int y9, .ref m_images, .ref m_kept, .ref m_tape, .int j_taped, .int j_at, .int j_start, .int j_token, .int j_value, .int j_fault, .int j_place, .int j_latest, .ref m_low, .ref m_high, .ref m_first, .ref m_second, .ref m_lines, .ref m_others, .int j_shiftFirst, .int j_shiftMany, .int j_shiftLow, .int j_shiftHigh])), (m_now, .inl (kI, 192, .inl y12)), (m_past, .inl (kI, 1920, .inl y10))]) [0, 2, 1] (by decide) rfl
        have hK9 := hK.sub (tys' := [(kI, .int)]) [0] rfl
        refine W.widen (k := 0) (n := 0) (Nat.le_of_ble_eq_true rfl) (Nat.le_of_ble_eq_true rfl) ?_
        exact W.iret (v := x14) hx hb hr (fun t ht hW => ⟨⟨x14, (), rfl, trivial, y9, y12, y10, by rw [ht]; exact hP9, va_K.moved hW.alike hK9, hD9, hy12, (by rw [hz0]; exact hN1), px0_r8, px1_r8⟩, hS.F ht⟩) hS.2.2 dX10_add_69
      · have nc7 : x6.toInt = 6 := pw_eq c7 rfl (by decide)
        refine lv_ldc hx hb hown (hts (.constant RX10 178 (-1000003)) (List.mem_of_getElem? (i := 55) rfl)) dX10_add_40 ?_
        have hP9 := hP.sub (ws' := [(h0, .inr (10, [.ref m_now, .ref m_draft, .ref m_past, .int j_acts, .ref m_images, .ref m_kept, .ref m_tape, .int j_taped, .int j_at, .int j_start, .int j_token, .int j_value, .int j_fault, .int j_place, .int j_latest, .ref m_low, .ref m_high, .ref m_first, .ref m_second, .ref m_lines, .ref m_others, .int j_shiftFirst, .int j_shiftMany, .int j_shiftLow, .int j_shiftHigh])), (m_now, .inl (kI, 192, .inl g_now)), (m_past, .inl (kI, 1920, .inl g_past))]) [0, 1, 2] rfl
        have hD9 := hD.sub (ws' := [(h0, .inr (10, [.ref m_now, .ref m_draft, .ref m_past, .int j_acts, .ref m_images, .ref m_kept, .ref m_tape, .int j_taped, .int j_at, .int j_start, .int j_token, .int j_value, .int j_fault, .int j_place, .int j_latest, .ref m_low, .ref m_high, .ref m_first, .ref m_second, .ref m_lines, .ref m_others, .int j_shiftFirst, .int j_shiftMany, .int j_shiftLow, .int j_shiftHigh])), (m_now, .inl (kI, 192, .inl g_now)), (m_past, .inl (kI, 1920, .inl g_past))]) [0, 1, 2] (by decide) rfl
        have hK9 := hK.sub (tys' := [(kI, .int)]) [0] rfl
        refine W.widen (k := 0) (n := 0) (Nat.le_of_ble_eq_true rfl) (Nat.le_of_ble_eq_true rfl) ?_
        exact W.iret (v := (-1000003)) hx hb hr (fun t ht hW => ⟨⟨(-1000003), (), rfl, trivial, j_acts, g_now, g_past, by rw [ht]; exact hP9, va_K.moved hW.alike hK9, hD9, hg_now, hN1, (by omega), hPb⟩, hS.F ht⟩) hS.2.2 dX10_add_42
    · have nc4 : r3.toInt = 0 := pw_eq c4 rfl (by decide)
      refine lv_ldc hx hb hown (hts (.constant RX10 177 (-1000001)) (List.mem_of_getElem? (i := 14) rfl)) dX10_add_24 ?_
      have hP9 := hP.sub (ws' := [(h0, .inr (10, [.ref m_now, .ref m_draft, .ref m_past, .int j_acts, .ref m_images, .ref m_kept, .ref m_tape, .int j_taped, .int j_at, .int j_start, .int j_token, .int j_value, .int j_fault, .int j_place, .int j_latest, .ref m_low, .ref m_high, .ref m_first, .ref m_second, .ref m_lines, .ref m_others, .int j_shiftFirst, .int j_shiftMany, .int j_shiftLow, .int j_shiftHigh])), (m_now, .inl (kI, 192, .inl g_now)), (m_past, .inl (kI, 1920, .inl g_past))]) [0, 1, 2] rfl
      have hD9 := hD.sub (ws' := [(h0, .inr (10, [.ref m_now, .ref m_draft, .ref m_past, .int j_acts, .ref m_images, .ref m_kept, .ref m_tape, .int j_taped, .int j_at, .int j_start, .int j_token, .int j_value, .int j_fault, .int j_place, .int j_latest, .ref m_low, .ref m_high, .ref m_first, .ref m_second, .ref m_lines, .ref m_others, .int j_shiftFirst, .int j_shiftMany, .int j_shiftLow, .int j_shiftHigh])), (m_now, .inl (kI, 192, .inl g_now)), (m_past, .inl (kI, 1920, .inl g_past))]) [0, 1, 2] (by decide) rfl
      have hK9 := hK.sub (tys' := [(kI, .int)]) [0] rfl
      refine W.widen (k := 0) (n := 0) (Nat.le_of_ble_eq_true rfl) (Nat.le_of_ble_eq_true rfl) ?_
      exact W.iret (v := (-1000001)) hx hb hr (fun t ht hW => ⟨⟨(-1000001), (), rfl, trivial, j_acts, g_now, g_past, by rw [ht]; exact hP9, va_K.moved hW.alike hK9, hD9, hg_now, hN1, (by omega), hPb⟩, hS.F ht⟩) hS.2.2 dX10_add_26
def w_X10_drop : List Cond := .code yX10_drop cX10_drop 4 (some .int) :: ([.methodLink RX10 208 yX10_isStretch, .instanceMethod yX10_isStretch, .selects RX10 yX10_isStretch yX10_isStretch, .initialized RX10, .code yX10_isStretch cX10_isStretch 3 (some .boolean), .methodLink RX10 55 yX10_isEdition, .instanceMethod yX10_isEdition, .selects RX10 yX10_isEdition yX10_isEdition, .code yX10_isEdition cX10_isEdition 2 (some .boolean), .methodLink RX10 47 yX10_isWork, .instanceMethod yX10_isWork, .selects RX10 yX10_isWork yX10_isWork, .code yX10_isWork cX10_isWork 1 (some .boolean), .fieldLink RX10 7 "LineCitesModel" "now" "[I", .methodLink RX10 51 yX10_in0, .static yX10_in0, .code yX10_in0 cX10_in0 6 (some .boolean), .methodLink RX10 205 yX10_notes, .instanceMethod yX10_notes, .selects RX10 yX10_notes yX10_notes, .code yX10_notes cX10_notes 2 none, .fieldLink RX10 195 "LineCitesModel" "acts" "I", .fieldLink RX10 16 "LineCitesModel" "past" "[I", .methodLink RX10 191 yX10_copies, .static yX10_copies, .code yX10_copies cX10_copies 5 none, .constant RX10 177 (-1000001)] ++ wsX100)
set_option maxRecDepth 20000 in
theorem g_X10_drop_X10_isStretch : GoodIn w_X10_drop (wsV RX10 208 RX10 yX10_isStretch w_X10_isStretch) := goodIn_r _ [1, 2, 3, 4, 5, 6, 7, 8, 4, 9, 10, 11, 12, 13, 14, 15, 16, 17, 28, 29, 30, 31, 32, 33, 34, 35, 36, 37, 38, 39, 40, 41, 42, 43, 44, 45, 46, 47, 48, 49, 50, 51, 52] rfl (by decide +kernel)
set_option maxRecDepth 20000 in
theorem g_X10_drop_X10_notes : GoodIn w_X10_drop (wsV RX10 205 RX10 yX10_notes w_X10_notes) := goodIn_r _ [18, 19, 20, 4, 21, 22, 14, 23, 24, 25, 4, 26, 28, 29, 30, 31, 32, 33, 34, 35, 36, 37, 38, 39, 40, 41, 42, 43, 44, 45, 46, 47, 48, 49, 50, 51, 52] rfl (by decide +kernel)
set_option maxHeartbeats 4000000 in
set_option maxRecDepth 100000 in
theorem c_X10_drop (l : Launch) (D : va_G) (h0 : Nat) (i_0 : Int32) (i_1 : Int32) (m_now : Nat) (m_draft : Nat) (m_past : Nat) (j_acts : Int32) (m_images : Nat) (m_kept : Nat) (m_tape : Nat) (j_taped : Int32) (j_at : Int32) (j_start : Int32) (j_token : Int32) (j_value : Int32) (j_fault : Int32) (j_place : Int32) (j_latest : Int32) (m_low : Nat) (m_high : Nat) (m_first : Nat) (m_second : Nat) (m_lines : Nat) (m_others : Nat) (j_shiftFirst : Int32) (j_shiftMany : Int32) (j_shiftLow : Int32) (j_shiftHigh : Int32) (kI : ClassId) (g_now : Nat → Int32) (g_past : Nat → Int32) (sz : Nat) (hN1 : 1 ≤ (g_now 0).toInt) (h0j_acts : 0 ≤ j_acts.toInt) (h1j_acts : j_acts.toInt ≤ 10) (hPb : pB g_past j_acts.toInt) (hg_now : gV g_now) : Met l yX10_drop w_X10_drop ({ frames := 3, cells := 0, slots := 0, locals := 68 }) (va_Pc [.ref h0, .int i_0, .int i_1] (fun U => U.heap.size = sz ∧ va_P D vwCl [(h0, .inr (10, [.ref m_now, .ref m_draft, .ref m_past, .int j_acts, .ref m_images, .ref m_kept, .ref m_tape, .int j_taped, .int j_at, .int j_start, .int j_token, .int j_value, .int j_fault, .int j_place, .int j_latest, .ref m_low, .ref m_high, .ref m_first, .ref m_second, .ref m_lines, .ref m_others, .int j_shiftFirst, .int j_shiftMany, .int j_shiftLow, .int j_shiftHigh])), (m_now, .inl (kI, 192, .inl g_now)), (m_past, .inl (kI, 1920, .inl g_past))] U.heap ∧ va_K D vwCl [(kI, .int)] U ∧ va_D (fun _ => True) [(h0, .inr (10, [.ref m_now, .ref m_draft, .ref m_past, .int j_acts, .ref m_images, .ref m_kept, .ref m_tape, .int j_taped, .int j_at, .int j_start, .int j_token, .int j_value, .int j_fault, .int j_place, .int j_latest, .ref m_low, .ref m_high, .ref m_first, .ref m_second, .ref m_lines, .ref m_others, .int j_shiftFirst, .int j_shiftMany, .int j_shiftLow, .int j_shiftHigh])), (m_now, .inl (kI, 192, .inl g_now)), (m_past, .inl (kI, 1920, .inl g_past))])) (va_Qi (fun (r : Int32) (_ : Unit) => True) (fun (_ : Unit) t => ∃ (n_acts : Int32) (n_now : Nat → Int32) (n_past : Nat → Int32), va_P D vwCl [(h0, .inr (10, [.ref m_now, .ref m_draft, .ref m_past, .int n_acts, .ref m_images, .ref m_kept, .ref m_tape, .int j_taped, .int j_at, .int j_start, .int j_token, .int j_value, .int j_fault, .int j_place, .int j_latest, .ref m_low, .ref m_high, .ref m_first, .ref m_second, .ref m_lines, .ref m_others, .int j_shiftFirst, .int j_shiftMany, .int j_shiftLow, .int j_shiftHigh])), (m_now, .inl (kI, 192, .inl n_now)), (m_past, .inl (kI, 1920, .inl n_past))] t.heap ∧ va_K D vwCl [(kI, .int)] t ∧ va_D (va_A [(h0, .inr (10, [.ref m_now, .ref m_draft, .ref m_past, .int j_acts, .ref m_images, .ref m_kept, .ref m_tape, .int j_taped, .int j_at, .int j_start, .int j_token, .int j_value, .int j_fault, .int j_place, .int j_latest, .ref m_low, .ref m_high, .ref m_first, .ref m_second, .ref m_lines, .ref m_others, .int j_shiftFirst, .int j_shiftMany, .int j_shiftLow, .int j_shiftHigh])), (m_now, .inl (kI, 192, .inl g_now)), (m_past, .inl (kI, 1920, .inl g_past))] sz) [(h0, .inr (10, [.ref m_now, .ref m_draft, .ref m_past, .int n_acts, .ref m_images, .ref m_kept, .ref m_tape, .int j_taped, .int j_at, .int j_start, .int j_token, .int j_value, .int j_fault, .int j_place, .int j_latest, .ref m_low, .ref m_high, .ref m_first, .ref m_second, .ref m_lines, .ref m_others, .int j_shiftFirst, .int j_shiftMany, .int j_shiftLow, .int j_shiftHigh])), (m_now, .inl (kI, 192, .inl n_now)), (m_past, .inl (kI, 1920, .inl n_past))] ∧ gV n_now ∧ 1 ≤ (n_now 0).toInt ∧ (0 ≤ n_acts.toInt ∧ n_acts.toInt ≤ 10) ∧ pB n_past n_acts.toInt) (va_A [(h0, .inr (10, [.ref m_now, .ref m_draft, .ref m_past, .int j_acts, .ref m_images, .ref m_kept, .ref m_tape, .int j_taped, .int j_at, .int j_start, .int j_token, .int j_value, .int j_fault, .int j_place, .int j_latest, .ref m_low, .ref m_high, .ref m_first, .ref m_second, .ref m_lines, .ref m_others, .int j_shiftFirst, .int j_shiftMany, .int j_shiftLow, .int j_shiftHigh])), (m_now, .inl (kI, 192, .inl g_now)), (m_past, .inl (kI, 1920, .inl g_past))] sz)) 0 0 (va_A [(h0, .inr (10, [.ref m_now, .ref m_draft, .ref m_past, .int j_acts, .ref m_images, .ref m_kept, .ref m_tape, .int j_taped, .int j_at, .int j_start, .int j_token, .int j_value, .int j_fault, .int j_place, .int j_latest, .ref m_low, .ref m_high, .ref m_first, .ref m_second, .ref m_lines, .ref m_others, .int j_shiftFirst, .int j_shiftMany, .int j_shiftLow, .int j_shiftHigh])), (m_now, .inl (kI, 192, .inl g_now)), (m_past, .inl (kI, 1920, .inl g_past))] sz) := by
  refine Met.ofW (cc := cX10_drop) (maxL := 4) (ret := (some .int)) (by decide) rfl ?_
  intro p e s m args below meth c s₁ B hml hv
  obtain ⟨rfl, hsz, hP, hK, hD0⟩ := hv
  have hx := B.exec
  have hb := B.bytes
  have hr := B.returns
  have hts := atoms_spec (ws := w_X10_drop) B.pre
  have hown : s.vm.findClass RX10 = some m.cls := findClass_of_methodNamed B.named
  have hlocks := B.notSynchronized
  subst hsz
  have hD := hD0.self (sz := s.heap.size)
  generalize hAe : va_A [(h0, .inr (10, [.ref m_now, .ref m_draft, .ref m_past, .int j_acts, .ref m_images, .ref m_kept, .ref m_tape, .int j_taped, .int j_at, .int j_start, .int j_token, .int j_value, .int j_fault, .int j_place, .int j_latest, .ref m_low, .ref m_high, .ref m_first, .ref m_second, .ref m_lines, .ref m_others, .int j_shiftFirst, .int j_shiftMany, .int j_shiftLow, .int j_shiftHigh])), (m_now, .inl (kI, 192, .inl g_now)), (m_past, .inl (kI, 1920, .inl g_past))] s.heap.size = A at hD ⊢
  have hA : ∀ q : Nat, s.heap.size ≤ q → A q := fun q h => by rw [← hAe]; exact Or.inr h
  have hS : va_S A s.heap s.heap [] := va_S.rf
  have hP : va_P D vwCl [(h0, .inr (10, [.ref m_now, .ref m_draft, .ref m_past, .int j_acts, .ref m_images, .ref m_kept, .ref m_tape, .int j_taped, .int j_at, .int j_start, .int j_token, .int j_value, .int j_fault, .int j_place, .int j_latest, .ref m_low, .ref m_high, .ref m_first, .ref m_second, .ref m_lines, .ref m_others, .int j_shiftFirst, .int j_shiftMany, .int j_shiftLow, .int j_shiftHigh])), (m_now, .inl (kI, 192, .inl g_now)), (m_past, .inl (kI, 1920, .inl g_past))] s.heap := hP
  have hl := lv_entry ([.ref h0, .int i_0, .int i_1]) (n := 4) (Nat.le_of_ble_eq_true rfl)
  rw [lg_entry_eq]
  generalize (lg_sl ([.ref h0, .int i_0, .int i_1]) ++ List.replicate (4 - (lg_sl ([.ref h0, .int i_0, .int i_1])).length) Slot.unset).toArray = ls at hl ⊢
  have hl : lv_has ls 4 [(0, .ref h0), (1, .int i_0), (2, .int i_1)] := hl
  obtain ⟨H, hHe⟩ : ∃ H : Heap, H = s.heap := ⟨_, rfl⟩
  rw [← hHe] at hP
  have hS : va_S A s.heap H [] := by rw [hHe]; exact hS
  refine pw_heap hHe ?_
  refine lv_aload_n hx hb dX10_drop_0 rfl (lv_at hl 0 rfl) ?_
  refine lv_iload_n hx hb dX10_drop_1 rfl (lv_at hl 1 rfl) ?_
  refine lv_iload_n hx hb dX10_drop_2 rfl (lv_at hl 2 rfl) ?_
  have hPc := hP.sub (ws' := [(h0, .inr (10, [.ref m_now, .ref m_draft, .ref m_past, .int j_acts, .ref m_images, .ref m_kept, .ref m_tape, .int j_taped, .int j_at, .int j_start, .int j_token, .int j_value, .int j_fault, .int j_place, .int j_latest, .ref m_low, .ref m_high, .ref m_first, .ref m_second, .ref m_lines, .ref m_others, .int j_shiftFirst, .int j_shiftMany, .int j_shiftLow, .int j_shiftHigh])), (m_now, .inl (kI, 192, .inl g_now))]) [0, 1] rfl
  have hKc := hK.sub (tys' := [(kI, .int)]) [0] rfl
  refine va_calli (va_runV (As := [.int i_0, .int i_1]) (rest := []) ⟨hx, hb, hml, hown, hts⟩ (c_X10_isStretch l D h0 i_0 i_1 m_now m_draft m_past j_acts m_images m_kept m_tape j_taped j_at j_start j_token j_value j_fault j_place j_latest m_low m_high m_first m_second m_lines m_others j_shiftFirst j_shiftMany j_shiftLow j_shiftHigh kI g_now hg_now) (cwV 2 hts g_X10_drop_X10_isStretch rfl rfl rfl (by decide +kernel) ⟨Nat.le_of_ble_eq_true rfl, Nat.le_of_ble_eq_true rfl⟩) ⟨fun a U g mk q => by obtain ⟨q0, qP, qK⟩ := q; exact ⟨q0, qP, va_K.moved (u := U) (U := U.calling g mk a) (Vm.Alike.refl U.vm) qK⟩, va_recv hKc hPc (ci := 10) (q0 := 0) rfl rfl, fun U hU hW => ⟨rfl, by rw [hU]; exact hPc, va_K.moved hW.alike hKc⟩⟩ rfl rfl hl.1 rfl (lv_room (Nat.le_of_ble_eq_true rfl)) dX10_drop_3 ⟨Nat.le_of_ble_eq_true rfl, Nat.le_of_ble_eq_true rfl⟩) hS (fun _ _ h => h.elim) (fun _ h => h.elim) (fun r1 u t H1 locs ht hvm hw hB hz1 hk1 hS => ?_)
  have hP := pw_keep hP (fun q hq => hk1 q hq (fun h => h))
  generalize H1 = H at hP hS ⊢
  refine W.widen (k := 0) (n := 0) (Nat.le_of_ble_eq_true rfl) (Nat.le_of_ble_eq_true rfl) ?_
  have bor1 := hw.1
  have zor1 := pw_boolI bor1
  have hfr1 := hw.2
  refine lv_if_ne (tgt := 12) hx hb dX10_drop_6 (by decide) (fun c2 => ?_) (fun c2 => ?_)
  · have nc2 : r1.toInt ≠ 0 := pw_ne c2 rfl (by decide)
    refine lv_aload_n hx hb dX10_drop_12 rfl (lv_at hl 0 rfl) ?_
    have hPc := hP.sub (ws' := [(h0, .inr (10, [.ref m_now, .ref m_draft, .ref m_past, .int j_acts, .ref m_images, .ref m_kept, .ref m_tape, .int j_taped, .int j_at, .int j_start, .int j_token, .int j_value, .int j_fault, .int j_place, .int j_latest, .ref m_low, .ref m_high, .ref m_first, .ref m_second, .ref m_lines, .ref m_others, .int j_shiftFirst, .int j_shiftMany, .int j_shiftLow, .int j_shiftHigh])), (m_now, .inl (kI, 192, .inl g_now)), (m_past, .inl (kI, 1920, .inl g_past))]) [0, 1, 2] rfl
    have hKc := hK.sub (tys' := [(kI, .int)]) [0] rfl
    have hDc := hD.sub (ws' := [(h0, .inr (10, [.ref m_now, .ref m_draft, .ref m_past, .int j_acts, .ref m_images, .ref m_kept, .ref m_tape, .int j_taped, .int j_at, .int j_start, .int j_token, .int j_value, .int j_fault, .int j_place, .int j_latest, .ref m_low, .ref m_high, .ref m_first, .ref m_second, .ref m_lines, .ref m_others, .int j_shiftFirst, .int j_shiftMany, .int j_shiftLow, .int j_shiftHigh])), (m_now, .inl (kI, 192, .inl g_now)), (m_past, .inl (kI, 1920, .inl g_past))]) [0, 1, 2] (by decide) rfl
    have hFc := va_free (wc := [(h0, .inr (10, [.ref m_now, .ref m_draft, .ref m_past, .int j_acts, .ref m_images, .ref m_kept, .ref m_tape, .int j_taped, .int j_at, .int j_start, .int j_token, .int j_value, .int j_fault, .int j_place, .int j_latest, .ref m_low, .ref m_high, .ref m_first, .ref m_second, .ref m_lines, .ref m_others, .int j_shiftFirst, .int j_shiftMany, .int j_shiftLow, .int j_shiftHigh])), (m_now, .inl (kI, 192, .inl g_now)), (m_past, .inl (kI, 1920, .inl g_past))]) hD hS hA [0, 1, 2] rfl
    refine va_callv (va_runV (As := []) (rest := []) ⟨hx, hb, hml, hown, hts⟩ (c_X10_notes l D h0 m_now m_draft m_past j_acts m_images m_kept m_tape j_taped j_at j_start j_token j_value j_fault j_place j_latest m_low m_high m_first m_second m_lines m_others j_shiftFirst j_shiftMany j_shiftLow j_shiftHigh kI g_now g_past H.size hN1 (by first | decide | omega) (by first | decide | omega) hPb hg_now) (cwV 0 hts g_X10_drop_X10_notes rfl rfl rfl (by decide +kernel) ⟨Nat.le_of_ble_eq_true rfl, Nat.le_of_ble_eq_true rfl⟩) ⟨fun a U g mk q => by obtain ⟨q0, q1, qP, qK, qD⟩ := q; exact ⟨q0, q1, qP, va_K.moved (u := U) (U := U.calling g mk a) (Vm.Alike.refl U.vm) qK, qD⟩, va_recv hKc hPc (ci := 10) (q0 := 0) rfl rfl, fun U hU hW => ⟨rfl, by rw [hU], by rw [hU]; exact hPc, va_K.moved hW.alike hKc, hDc.weaken (fun _ _ _ _ => trivial)⟩⟩ rfl rfl hl.1 rfl (lv_room (Nat.le_of_ble_eq_true rfl)) dX10_drop_13 ⟨Nat.le_of_ble_eq_true rfl, Nat.le_of_ble_eq_true rfl⟩) hS (fun q _ h => hFc q h) hFc (fun u t H1 locs ht hvm hw hB hz1 hk1 hS => ?_)
    obtain ⟨y4, y5, hP1, hK1, hD1, px0_r3, px1_r3⟩ := hB
    rw [ht] at hP1
    have hK1 := va_K.moved hvm.symm hK1
    obtain ⟨hP, hD⟩ := va_join (wr := []) (w1 := [(h0, .inr (10, [.ref m_now, .ref m_draft, .ref m_past, .int y4, .ref m_images, .ref m_kept, .ref m_tape, .int j_taped, .int j_at, .int j_start, .int j_token, .int j_value, .int j_fault, .int j_place, .int j_latest, .ref m_low, .ref m_high, .ref m_first, .ref m_second, .ref m_lines, .ref m_others, .int j_shiftFirst, .int j_shiftMany, .int j_shiftLow, .int j_shiftHigh])), (m_now, .inl (kI, 192, .inl g_now)), (m_past, .inl (kI, 1920, .inl y5))]) hP hD [0, 1, 2] [] rfl rfl (by decide) (by decide) hk1 hFc hP1 hD1
    have hK := (hK.sub (tys' := [(kI, .int)]) [0] rfl).app hK1
    generalize H1 = H at hP hS ⊢
    have hP : va_P D vwCl [(h0, .inr (10, [.ref m_now, .ref m_draft, .ref m_past, .int y4, .ref m_images, .ref m_kept, .ref m_tape, .int j_taped, .int j_at, .int j_start, .int j_token, .int j_value, .int j_fault, .int j_place, .int j_latest, .ref m_low, .ref m_high, .ref m_first, .ref m_second, .ref m_lines, .ref m_others, .int j_shiftFirst, .int j_shiftMany, .int j_shiftLow, .int j_shiftHigh])), (m_now, .inl (kI, 192, .inl g_now)), (m_past, .inl (kI, 1920, .inl y5))] H := hP
    have hD : va_D A [(h0, .inr (10, [.ref m_now, .ref m_draft, .ref m_past, .int y4, .ref m_images, .ref m_kept, .ref m_tape, .int j_taped, .int j_at, .int j_start, .int j_token, .int j_value, .int j_fault, .int j_place, .int j_latest, .ref m_low, .ref m_high, .ref m_first, .ref m_second, .ref m_lines, .ref m_others, .int j_shiftFirst, .int j_shiftMany, .int j_shiftLow, .int j_shiftHigh])), (m_now, .inl (kI, 192, .inl g_now)), (m_past, .inl (kI, 1920, .inl y5))] := hD
    have hK : va_K D vwCl [(kI, .int), (kI, .int)] s := hK
    refine W.widen (k := 0) (n := 0) (Nat.le_of_ble_eq_true rfl) (Nat.le_of_ble_eq_true rfl) ?_
    refine lv_iconst (v := 4) hx hb dX10_drop_16 (by decide) ?_
    refine lv_iload_n hx hb dX10_drop_17 rfl (lv_at hl 2 rfl) ?_
    refine lv_imul hx hb dX10_drop_18 ?_
    refine lv_topi (fun x6 ex6 => ?_)
    have tx6 : x6.toInt = 4 * i_1.toInt := pw_mulX ex6 (by decide) rfl (by omega) (by omega)
    refine lv_istore_n (lv' := [(3, .int x6), (0, .ref h0), (1, .int i_0), (2, .int i_1)]) hx hb dX10_drop_19 rfl hl (by decide) rfl (fun ls hl => ?_)
    have hl9 : lv_has ls 4 [(0, .ref h0), (1, .int i_0), (2, .int i_1), (3, .int x6)] := lv_sub hl [1, 2, 3, 0] rfl
    refine pw_loop (fun (zz : Int32 × (Nat → Int32)) H locs ls => match zz with | (v43, f44) => va_P D vwCl [(h0, .inr (10, [.ref m_now, .ref m_draft, .ref m_past, .int y4, .ref m_images, .ref m_kept, .ref m_tape, .int j_taped, .int j_at, .int j_start, .int j_token, .int j_value, .int j_fault, .int j_place, .int j_latest, .ref m_low, .ref m_high, .ref m_first, .ref m_second, .ref m_lines, .ref m_others, .int j_shiftFirst, .int j_shiftMany, .int j_shiftLow, .int j_shiftHigh])), (m_now, .inl (kI, 192, .inl f44)), (m_past, .inl (kI, 1920, .inl y5))] H ∧ va_D A [(h0, .inr (10, [.ref m_now, .ref m_draft, .ref m_past, .int y4, .ref m_images, .ref m_kept, .ref m_tape, .int j_taped, .int j_at, .int j_start, .int j_token, .int j_value, .int j_fault, .int j_place, .int j_latest, .ref m_low, .ref m_high, .ref m_first, .ref m_second, .ref m_lines, .ref m_others, .int j_shiftFirst, .int j_shiftMany, .int j_shiftLow, .int j_shiftHigh])), (m_now, .inl (kI, 192, .inl f44)), (m_past, .inl (kI, 1920, .inl y5))] ∧ va_S A s.heap H locs ∧ lv_has ls 4 [(0, .ref h0), (1, .int i_0), (2, .int i_1), (3, .int v43)] ∧ (4 * i_1.toInt ≤ v43.toInt ∧ v43.toInt ≤ 20) ∧ drI f44 g_now (8 + 24 * i_0.toInt.toNat + 4 * i_1.toInt.toNat) (8 + 24 * i_0.toInt.toNat) v43.toInt) (fun (zz : Int32 × (Nat → Int32))  => match zz with | (v43, f44) => (2147483648 - v43.toInt).toNat) 0 0 (fun (zz : Int32 × (Nat → Int32)) ls => match zz with | (v43, f44) => F0 m 20 ls []) (fun zz H locs ls ih45 hI => ?_) (x6, g_now) _ _ _ ⟨hP, hD, hS, hl9, (by omega), (drI_0 (by omega))⟩
    obtain ⟨v43, f44⟩ := zz
    obtain ⟨hP, hD, hS, hl, bdr, hdr⟩ := hI
    have bdr : (4 * i_1.toInt ≤ v43.toInt ∧ v43.toInt ≤ 20) := bdr
    have hdr : drI f44 g_now (8 + 24 * i_0.toInt.toNat + 4 * i_1.toInt.toNat) (8 + 24 * i_0.toInt.toNat) v43.toInt := hdr
    have hP : va_P D vwCl [(h0, .inr (10, [.ref m_now, .ref m_draft, .ref m_past, .int y4, .ref m_images, .ref m_kept, .ref m_tape, .int j_taped, .int j_at, .int j_start, .int j_token, .int j_value, .int j_fault, .int j_place, .int j_latest, .ref m_low, .ref m_high, .ref m_first, .ref m_second, .ref m_lines, .ref m_others, .int j_shiftFirst, .int j_shiftMany, .int j_shiftLow, .int j_shiftHigh])), (m_now, .inl (kI, 192, .inl f44)), (m_past, .inl (kI, 1920, .inl y5))] H := hP
    have hD : va_D A [(h0, .inr (10, [.ref m_now, .ref m_draft, .ref m_past, .int y4, .ref m_images, .ref m_kept, .ref m_tape, .int j_taped, .int j_at, .int j_start, .int j_token, .int j_value, .int j_fault, .int j_place, .int j_latest, .ref m_low, .ref m_high, .ref m_first, .ref m_second, .ref m_lines, .ref m_others, .int j_shiftFirst, .int j_shiftMany, .int j_shiftLow, .int j_shiftHigh])), (m_now, .inl (kI, 192, .inl f44)), (m_past, .inl (kI, 1920, .inl y5))] := hD
    have hK : va_K D vwCl [(kI, .int), (kI, .int)] s := hK
    have hl : lv_has ls 4 [(0, .ref h0), (1, .int i_0), (2, .int i_1), (3, .int v43)] := hl
    refine W.eq (g2 := F0 m 20 ls []) rfl ?_
    refine lv_iload_n hx hb dX10_drop_20 rfl (lv_at hl 3 rfl) ?_
    refine lv_bipush (v := 20) hx hb dX10_drop_21 (by decide) ?_
    refine lv_icmp_ge (tgt := 62) hx hb dX10_drop_23 (by decide) (fun c46 => ?_) (fun c46 => ?_)
    · have nc46 : 20 ≤ v43.toInt := pw_le c46 (by decide) rfl
      refine lv_aload_n hx hb dX10_drop_62 rfl (lv_at hl 0 rfl) ?_
      refine va_get (D := D) (ci := 10) (v := .ref m_now) (C := RX10) (T := TX10) (N := 25) hx hb hts (fun _ h => List.mem_cons_of_mem _ (List.mem_append_right _ h)) hown hK hP 0 rfl rfl 0 (by decide) (hts (.fieldLink RX10 7 "LineCitesModel" "now" "[I") (List.mem_of_getElem? (i := 14) rfl)) (fun _ h9 => h9) rfl dX10_drop_63 ?_
      refine lv_iconst (v := 3) hx hb dX10_drop_66 (by decide) ?_
      refine lv_iload_n hx hb dX10_drop_67 rfl (lv_at hl 1 rfl) ?_
      refine lv_iadd hx hb dX10_drop_68 ?_
      refine lv_topi (fun x47 ex47 => ?_)
      have tx47 : x47.toInt = 3 + i_0.toInt := pw_addX ex47 (by decide) rfl (by omega) (by omega)
      refine lv_dup2_11 hx hb dX10_drop_69 rfl rfl ?_
      refine va_iald hx hb hK hP 1 0 rfl rfl (vp_in_iff.mpr ⟨by omega, by omega⟩) dX10_drop_70 ?_
      refine lv_topi (fun x48 ex48 => ?_)
      refine lv_iconst (v := 1) hx hb dX10_drop_71 (by decide) ?_
      refine lv_isub hx hb dX10_drop_72 ?_
      refine lv_topi (fun x49 ex49 => ?_)
      refine va_iast hx hb hK hP hD hS 1 0 rfl rfl (vp_in_iff.mpr ⟨by omega, by omega⟩) dX10_drop_73 (fun H locs hP hD hS => ?_)
      obtain ⟨g50, eg50⟩ : ∃ g : Nat → Int32, g = upd f44 (x47 : Int32).toNatClampNeg x49 := ⟨_, rfl⟩
      have hP : va_P D vwCl [(h0, .inr (10, [.ref m_now, .ref m_draft, .ref m_past, .int y4, .ref m_images, .ref m_kept, .ref m_tape, .int j_taped, .int j_at, .int j_start, .int j_token, .int j_value, .int j_fault, .int j_place, .int j_latest, .ref m_low, .ref m_high, .ref m_first, .ref m_second, .ref m_lines, .ref m_others, .int j_shiftFirst, .int j_shiftMany, .int j_shiftLow, .int j_shiftHigh])), (m_now, .inl (kI, 192, .inl (upd f44 (x47 : Int32).toNatClampNeg x49))), (m_past, .inl (kI, 1920, .inl y5))] H := hP
      have hD : va_D A [(h0, .inr (10, [.ref m_now, .ref m_draft, .ref m_past, .int y4, .ref m_images, .ref m_kept, .ref m_tape, .int j_taped, .int j_at, .int j_start, .int j_token, .int j_value, .int j_fault, .int j_place, .int j_latest, .ref m_low, .ref m_high, .ref m_first, .ref m_second, .ref m_lines, .ref m_others, .int j_shiftFirst, .int j_shiftMany, .int j_shiftLow, .int j_shiftHigh])), (m_now, .inl (kI, 192, .inl (upd f44 (x47 : Int32).toNatClampNeg x49))), (m_past, .inl (kI, 1920, .inl y5))] := hD
      have hK : va_K D vwCl [(kI, .int), (kI, .int)] s := hK
      rw [← eg50] at hP hD
      refine lv_aload_n hx hb dX10_drop_74 rfl (lv_at hl 0 rfl) ?_
      refine va_get (D := D) (ci := 10) (v := .ref m_now) (C := RX10) (T := TX10) (N := 25) hx hb hts (fun _ h => List.mem_cons_of_mem _ (List.mem_append_right _ h)) hown hK hP 0 rfl rfl 0 (by decide) (hts (.fieldLink RX10 7 "LineCitesModel" "now" "[I") (List.mem_of_getElem? (i := 14) rfl)) (fun _ h9 => h9) rfl dX10_drop_75 ?_
      refine lv_iconst (v := 3) hx hb dX10_drop_78 (by decide) ?_
      refine lv_iload_n hx hb dX10_drop_79 rfl (lv_at hl 1 rfl) ?_
      refine lv_iadd hx hb dX10_drop_80 ?_
      refine lv_topi (fun x51 ex51 => ?_)
      have tx51 : x51.toInt = 3 + i_0.toInt := pw_addX ex51 (by decide) rfl (by omega) (by omega)
      refine va_iald hx hb hK hP 1 0 rfl rfl (vp_in_iff.mpr ⟨by omega, by omega⟩) dX10_drop_81 ?_
      refine lv_topi (fun x52 ex52 => ?_)
      have hgd := gV_dr (e := i_0.toInt.toNat) (s := i_1.toInt.toNat) hg_now (by omega) (by omega) hdr (by omega) ex48 (by omega) ex49 eg50
      have hg50 := hgd.1
      have hz0 := hgd.2
      have hP9 := hP.sub (ws' := [(h0, .inr (10, [.ref m_now, .ref m_draft, .ref m_past, .int y4, .ref m_images, .ref m_kept, .ref m_tape, .int j_taped, .int j_at, .int j_start, .int j_token, .int j_value, .int j_fault, .int j_place, .int j_latest, .ref m_low, .ref m_high, .ref m_first, .ref m_second, .ref m_lines, .ref m_others, .int j_shiftFirst, .int j_shiftMany, .int j_shiftLow, .int j_shiftHigh])), (m_now, .inl (kI, 192, .inl g50)), (m_past, .inl (kI, 1920, .inl y5))]) [0, 1, 2] rfl
      have hD9 := hD.sub (ws' := [(h0, .inr (10, [.ref m_now, .ref m_draft, .ref m_past, .int y4, .ref m_images, .ref m_kept, .ref m_tape, .int j_taped, .int j_at, .int j_start, .int j_token, .int j_value, .int j_fault, .int j_place, .int j_latest, .ref m_low, .ref m_high, .ref m_first, .ref m_second, .ref m_lines, .ref m_others, .int j_shiftFirst, .int j_shiftMany, .int j_shiftLow, .int j_shiftHigh])), (m_now, .inl (kI, 192, .inl g50)), (m_past, .inl (kI, 1920, .inl y5))]) [0, 1, 2] (by decide) rfl
      have hK9 := hK.sub (tys' := [(kI, .int)]) [0] rfl
      refine W.widen (k := 0) (n := 0) (Nat.le_of_ble_eq_true rfl) (Nat.le_of_ble_eq_true rfl) ?_
      exact W.iret (v := x52) hx hb hr (fun t ht hW => ⟨⟨x52, (), rfl, trivial, y4, g50, y5, by rw [ht]; exact hP9, va_K.moved hW.alike hK9, hD9, hg50, (by rw [hz0]; exact hN1), px0_r3, px1_r3⟩, hS.F ht⟩) hS.2.2 dX10_drop_82
    · have nc46 : v43.toInt < 20 := pw_nle c46 (by decide) rfl
      refine lv_aload_n hx hb dX10_drop_26 rfl (lv_at hl 0 rfl) ?_
      refine va_get (D := D) (ci := 10) (v := .ref m_now) (C := RX10) (T := TX10) (N := 25) hx hb hts (fun _ h => List.mem_cons_of_mem _ (List.mem_append_right _ h)) hown hK hP 0 rfl rfl 0 (by decide) (hts (.fieldLink RX10 7 "LineCitesModel" "now" "[I") (List.mem_of_getElem? (i := 14) rfl)) (fun _ h9 => h9) rfl dX10_drop_27 ?_
      refine lv_bipush (v := 8) hx hb dX10_drop_30 (by decide) ?_
      refine lv_bipush (v := 24) hx hb dX10_drop_32 (by decide) ?_
      refine lv_iload_n hx hb dX10_drop_34 rfl (lv_at hl 1 rfl) ?_
      refine lv_imul hx hb dX10_drop_35 ?_
      refine lv_topi (fun x53 ex53 => ?_)
      have tx53 : x53.toInt = 24 * i_0.toInt := pw_mulX ex53 (by decide) rfl (by omega) (by omega)
      refine lv_iadd hx hb dX10_drop_36 ?_
      refine lv_topi (fun x54 ex54 => ?_)
      have tx54 : x54.toInt = 8 + x53.toInt := pw_addX ex54 (by decide) rfl (by omega) (by omega)
      refine lv_iload_n hx hb dX10_drop_37 rfl (lv_at hl 3 rfl) ?_
      refine lv_iadd hx hb dX10_drop_38 ?_
      refine lv_topi (fun x55 ex55 => ?_)
      have tx55 : x55.toInt = x54.toInt + v43.toInt := pw_addX ex55 rfl rfl (by omega) (by omega)
      refine lv_aload_n hx hb dX10_drop_39 rfl (lv_at hl 0 rfl) ?_
      refine va_get (D := D) (ci := 10) (v := .ref m_now) (C := RX10) (T := TX10) (N := 25) hx hb hts (fun _ h => List.mem_cons_of_mem _ (List.mem_append_right _ h)) hown hK hP 0 rfl rfl 0 (by decide) (hts (.fieldLink RX10 7 "LineCitesModel" "now" "[I") (List.mem_of_getElem? (i := 14) rfl)) (fun _ h9 => h9) rfl dX10_drop_40 ?_
      refine lv_bipush (v := 8) hx hb dX10_drop_43 (by decide) ?_
      refine lv_bipush (v := 24) hx hb dX10_drop_45 (by decide) ?_
      refine lv_iload_n hx hb dX10_drop_47 rfl (lv_at hl 1 rfl) ?_
      refine lv_imul hx hb dX10_drop_48 ?_
      refine lv_topi (fun x56 ex56 => ?_)
      have tx56 : x56.toInt = 24 * i_0.toInt := pw_mulX ex56 (by decide) rfl (by omega) (by omega)
      refine lv_iadd hx hb dX10_drop_49 ?_
      refine lv_topi (fun x57 ex57 => ?_)
      have tx57 : x57.toInt = 8 + x56.toInt := pw_addX ex57 (by decide) rfl (by omega) (by omega)
      refine lv_iload_n hx hb dX10_drop_50 rfl (lv_at hl 3 rfl) ?_
      refine lv_iadd hx hb dX10_drop_51 ?_
      refine lv_topi (fun x58 ex58 => ?_)
      have tx58 : x58.toInt = x57.toInt + v43.toInt := pw_addX ex58 rfl rfl (by omega) (by omega)
      refine lv_iconst (v := 4) hx hb dX10_drop_52 (by decide) ?_
      refine lv_iadd hx hb dX10_drop_53 ?_
      refine lv_topi (fun x59 ex59 => ?_)
      have tx59 : x59.toInt = x58.toInt + 4 := pw_addX ex59 rfl (by decide) (by omega) (by omega)
      refine va_iald hx hb hK hP 1 0 rfl rfl (vp_in_iff.mpr ⟨by omega, by omega⟩) dX10_drop_54 ?_
      refine lv_topi (fun x60 ex60 => ?_)
      refine va_iast hx hb hK hP hD hS 1 0 rfl rfl (vp_in_iff.mpr ⟨by omega, by omega⟩) dX10_drop_55 (fun H locs hP hD hS => ?_)
      obtain ⟨g61, eg61⟩ : ∃ g : Nat → Int32, g = upd f44 (x55 : Int32).toNatClampNeg x60 := ⟨_, rfl⟩
      have hP : va_P D vwCl [(h0, .inr (10, [.ref m_now, .ref m_draft, .ref m_past, .int y4, .ref m_images, .ref m_kept, .ref m_tape, .int j_taped, .int j_at, .int j_start, .int j_token, .int j_value, .int j_fault, .int j_place, .int j_latest, .ref m_low, .ref m_high, .ref m_first, .ref m_second, .ref m_lines, .ref m_others, .int j_shiftFirst, .int j_shiftMany, .int j_shiftLow, .int j_shiftHigh])), (m_now, .inl (kI, 192, .inl (upd f44 (x55 : Int32).toNatClampNeg x60))), (m_past, .inl (kI, 1920, .inl y5))] H := hP
      have hD : va_D A [(h0, .inr (10, [.ref m_now, .ref m_draft, .ref m_past, .int y4, .ref m_images, .ref m_kept, .ref m_tape, .int j_taped, .int j_at, .int j_start, .int j_token, .int j_value, .int j_fault, .int j_place, .int j_latest, .ref m_low, .ref m_high, .ref m_first, .ref m_second, .ref m_lines, .ref m_others, .int j_shiftFirst, .int j_shiftMany, .int j_shiftLow, .int j_shiftHigh])), (m_now, .inl (kI, 192, .inl (upd f44 (x55 : Int32).toNatClampNeg x60))), (m_past, .inl (kI, 1920, .inl y5))] := hD
      have hK : va_K D vwCl [(kI, .int), (kI, .int)] s := hK
      rw [← eg61] at hP hD
      obtain ⟨x62, ex62⟩ : ∃ y : Int32, y = v43 + 1 := ⟨_, rfl⟩
      have tx62 : x62.toInt = v43.toInt + 1 := pw_addX ex62 rfl (by decide) (by omega) (by omega)
      refine lv_iinc (v := x62) (lv' := [(3, .int x62), (0, .ref h0), (1, .int i_0), (2, .int i_1)]) hx hb dX10_drop_56 hl (k := 3) rfl (by rw [ex62]; rfl) (by decide) rfl (fun ls hl => ?_)
      refine lv_goto (tgt := 20) hx hb dX10_drop_59 (by decide) ?_
      have hP9 : va_P D vwCl [(h0, .inr (10, [.ref m_now, .ref m_draft, .ref m_past, .int y4, .ref m_images, .ref m_kept, .ref m_tape, .int j_taped, .int j_at, .int j_start, .int j_token, .int j_value, .int j_fault, .int j_place, .int j_latest, .ref m_low, .ref m_high, .ref m_first, .ref m_second, .ref m_lines, .ref m_others, .int j_shiftFirst, .int j_shiftMany, .int j_shiftLow, .int j_shiftHigh])), (m_now, .inl (kI, 192, .inl g61)), (m_past, .inl (kI, 1920, .inl y5))] H := hP.sub [0, 1, 2] rfl
      have hD9 : va_D A [(h0, .inr (10, [.ref m_now, .ref m_draft, .ref m_past, .int y4, .ref m_images, .ref m_kept, .ref m_tape, .int j_taped, .int j_at, .int j_start, .int j_token, .int j_value, .int j_fault, .int j_place, .int j_latest, .ref m_low, .ref m_high, .ref m_first, .ref m_second, .ref m_lines, .ref m_others, .int j_shiftFirst, .int j_shiftMany, .int j_shiftLow, .int j_shiftHigh])), (m_now, .inl (kI, 192, .inl g61)), (m_past, .inl (kI, 1920, .inl y5))] := hD.sub [0, 1, 2] (by decide) rfl
      have hl9 : lv_has ls 4 [(0, .ref h0), (1, .int i_0), (2, .int i_1), (3, .int x62)] := lv_sub hl [1, 2, 3, 0] rfl
      refine W.widen (k := 0) (n := 0) (Nat.le_of_ble_eq_true rfl) (Nat.le_of_ble_eq_true rfl) ?_
      exact ih45 (x62, g61) _ _ _ (pw_up ex62 (by omega)) ⟨hP9, hD9, hS, hl9, (by omega), (drI_up hdr (by omega) eg61 (by omega) ex60 (by omega) (by omega))⟩
  · have nc2 : r1.toInt = 0 := pw_eq c2 rfl (by decide)
    refine lv_ldc hx hb hown (hts (.constant RX10 177 (-1000001)) (List.mem_of_getElem? (i := 27) rfl)) dX10_drop_9 ?_
    have hP9 := hP.sub (ws' := [(h0, .inr (10, [.ref m_now, .ref m_draft, .ref m_past, .int j_acts, .ref m_images, .ref m_kept, .ref m_tape, .int j_taped, .int j_at, .int j_start, .int j_token, .int j_value, .int j_fault, .int j_place, .int j_latest, .ref m_low, .ref m_high, .ref m_first, .ref m_second, .ref m_lines, .ref m_others, .int j_shiftFirst, .int j_shiftMany, .int j_shiftLow, .int j_shiftHigh])), (m_now, .inl (kI, 192, .inl g_now)), (m_past, .inl (kI, 1920, .inl g_past))]) [0, 1, 2] rfl
    have hD9 := hD.sub (ws' := [(h0, .inr (10, [.ref m_now, .ref m_draft, .ref m_past, .int j_acts, .ref m_images, .ref m_kept, .ref m_tape, .int j_taped, .int j_at, .int j_start, .int j_token, .int j_value, .int j_fault, .int j_place, .int j_latest, .ref m_low, .ref m_high, .ref m_first, .ref m_second, .ref m_lines, .ref m_others, .int j_shiftFirst, .int j_shiftMany, .int j_shiftLow, .int j_shiftHigh])), (m_now, .inl (kI, 192, .inl g_now)), (m_past, .inl (kI, 1920, .inl g_past))]) [0, 1, 2] (by decide) rfl
    have hK9 := hK.sub (tys' := [(kI, .int)]) [0] rfl
    refine W.widen (k := 0) (n := 0) (Nat.le_of_ble_eq_true rfl) (Nat.le_of_ble_eq_true rfl) ?_
    exact W.iret (v := (-1000001)) hx hb hr (fun t ht hW => ⟨⟨(-1000001), (), rfl, trivial, j_acts, g_now, g_past, by rw [ht]; exact hP9, va_K.moved hW.alike hK9, hD9, hg_now, hN1, (by omega), hPb⟩, hS.F ht⟩) hS.2.2 dX10_drop_11
def w_X10_alter : List Cond := .code yX10_alter cX10_alter 10 (some .int) :: ([.methodLink RX10 208 yX10_isStretch, .instanceMethod yX10_isStretch, .selects RX10 yX10_isStretch yX10_isStretch, .initialized RX10, .code yX10_isStretch cX10_isStretch 3 (some .boolean), .methodLink RX10 55 yX10_isEdition, .instanceMethod yX10_isEdition, .selects RX10 yX10_isEdition yX10_isEdition, .code yX10_isEdition cX10_isEdition 2 (some .boolean), .methodLink RX10 47 yX10_isWork, .instanceMethod yX10_isWork, .selects RX10 yX10_isWork yX10_isWork, .code yX10_isWork cX10_isWork 1 (some .boolean), .fieldLink RX10 7 "LineCitesModel" "now" "[I", .methodLink RX10 51 yX10_in0, .static yX10_in0, .code yX10_in0 cX10_in0 6 (some .boolean), .constant RX10 177 (-1000001), .constantLong RX10 211 (3), .methodLink RX10 62 yX10_of, .static yX10_of, .code yX10_of cX10_of 4 (some .int), .methodLink RX10 201 yX10_isGood, .instanceMethod yX10_isGood, .selects RX10 yX10_isGood yX10_isGood, .code yX10_isGood cX10_isGood 7 (some .boolean), .constantLong RX10 199 (5), .methodLink RX10 156 yX10_isFrom, .static yX10_isFrom, .code yX10_isFrom cX10_isFrom 4 (some .boolean), .methodLink RX10 66 yX10_stretchOf, .static yX10_stretchOf, .code yX10_stretchOf cX10_stretchOf 7 (some .int), .constant RX10 61 (-1000000), .methodLink RX10 164 yX10_isMany, .static yX10_isMany, .code yX10_isMany cX10_isMany 7 (some .boolean), .methodLink RX10 168 yX10_isFirst, .static yX10_isFirst, .code yX10_isFirst cX10_isFirst 3 (some .boolean), .methodLink RX10 145 yX10_isNumber, .static yX10_isNumber, .code yX10_isNumber cX10_isNumber 1 (some .boolean), .constantLong RX10 59 (999), .methodLink RX10 148 yX10_greatest, .static yX10_greatest, .code yX10_greatest cX10_greatest 3 (some .int), .methodLink RX10 205 yX10_notes, .instanceMethod yX10_notes, .selects RX10 yX10_notes yX10_notes, .code yX10_notes cX10_notes 2 none, .fieldLink RX10 195 "LineCitesModel" "acts" "I", .fieldLink RX10 16 "LineCitesModel" "past" "[I", .methodLink RX10 191 yX10_copies, .static yX10_copies, .code yX10_copies cX10_copies 5 none] ++ wsX100)
set_option maxRecDepth 20000 in
theorem g_X10_alter_X10_isStretch : GoodIn w_X10_alter (wsV RX10 208 RX10 yX10_isStretch w_X10_isStretch) := goodIn_r _ [1, 2, 3, 4, 5, 6, 7, 8, 4, 9, 10, 11, 12, 13, 14, 15, 16, 17, 57, 58, 59, 60, 61, 62, 63, 64, 65, 66, 67, 68, 69, 70, 71, 72, 73, 74, 75, 76, 77, 78, 79, 80, 81] rfl (by decide +kernel)
set_option maxRecDepth 20000 in
theorem g_X10_alter_X10_in0 : GoodIn w_X10_alter (wsS RX10 51 yX10_in0 w_X10_in0) := goodIn_r _ [15, 16, 4, 17] rfl (by decide +kernel)
set_option maxRecDepth 20000 in
theorem g_X10_alter_X10_of : GoodIn w_X10_alter (wsS RX10 62 yX10_of w_X10_of) := goodIn_r _ [20, 21, 4, 22] rfl (by decide +kernel)
set_option maxRecDepth 20000 in
theorem g_X10_alter_X10_isGood : GoodIn w_X10_alter (wsV RX10 201 RX10 yX10_isGood w_X10_isGood) := goodIn_r _ [23, 24, 25, 4, 26, 27, 15, 16, 4, 17, 14, 28, 29, 30, 31, 32, 33, 34, 20, 21, 22, 35, 36, 37, 38, 39, 40, 41, 42, 43, 44, 45, 46, 47, 57, 58, 59, 60, 61, 62, 63, 64, 65, 66, 67, 68, 69, 70, 71, 72, 73, 74, 75, 76, 77, 78, 79, 80, 81] rfl (by decide +kernel)
set_option maxRecDepth 20000 in
theorem g_X10_alter_X10_notes : GoodIn w_X10_alter (wsV RX10 205 RX10 yX10_notes w_X10_notes) := goodIn_r _ [48, 49, 50, 4, 51, 52, 14, 53, 54, 55, 4, 56, 57, 58, 59, 60, 61, 62, 63, 64, 65, 66, 67, 68, 69, 70, 71, 72, 73, 74, 75, 76, 77, 78, 79, 80, 81] rfl (by decide +kernel)
set_option maxHeartbeats 4000000 in
set_option maxRecDepth 100000 in
theorem c_X10_alter (l : Launch) (D : va_G) (h0 : Nat) (i_0 : Int32) (i_1 : Int32) (i_2 : Int32) (i_3 : Int32) (m_now : Nat) (m_draft : Nat) (m_past : Nat) (j_acts : Int32) (m_images : Nat) (m_kept : Nat) (m_tape : Nat) (j_taped : Int32) (j_at : Int32) (j_start : Int32) (j_token : Int32) (j_value : Int32) (j_fault : Int32) (j_place : Int32) (j_latest : Int32) (m_low : Nat) (m_high : Nat) (m_first : Nat) (m_second : Nat) (m_lines : Nat) (m_others : Nat) (j_shiftFirst : Int32) (j_shiftMany : Int32) (j_shiftLow : Int32) (j_shiftHigh : Int32) (kI : ClassId) (g_now : Nat → Int32) (g_past : Nat → Int32) (sz : Nat) (hN1 : 1 ≤ (g_now 0).toInt) (h0j_acts : 0 ≤ j_acts.toInt) (h1j_acts : j_acts.toInt ≤ 10) (hPb : pB g_past j_acts.toInt) (hg_now : gV g_now) : Met l yX10_alter w_X10_alter ({ frames := 4, cells := 0, slots := 0, locals := 103 }) (va_Pc [.ref h0, .int i_0, .int i_1, .int i_2, .int i_3] (fun U => U.heap.size = sz ∧ va_P D vwCl [(h0, .inr (10, [.ref m_now, .ref m_draft, .ref m_past, .int j_acts, .ref m_images, .ref m_kept, .ref m_tape, .int j_taped, .int j_at, .int j_start, .int j_token, .int j_value, .int j_fault, .int j_place, .int j_latest, .ref m_low, .ref m_high, .ref m_first, .ref m_second, .ref m_lines, .ref m_others, .int j_shiftFirst, .int j_shiftMany, .int j_shiftLow, .int j_shiftHigh])), (m_now, .inl (kI, 192, .inl g_now)), (m_past, .inl (kI, 1920, .inl g_past))] U.heap ∧ va_K D vwCl [(kI, .int)] U ∧ va_D (fun _ => True) [(h0, .inr (10, [.ref m_now, .ref m_draft, .ref m_past, .int j_acts, .ref m_images, .ref m_kept, .ref m_tape, .int j_taped, .int j_at, .int j_start, .int j_token, .int j_value, .int j_fault, .int j_place, .int j_latest, .ref m_low, .ref m_high, .ref m_first, .ref m_second, .ref m_lines, .ref m_others, .int j_shiftFirst, .int j_shiftMany, .int j_shiftLow, .int j_shiftHigh])), (m_now, .inl (kI, 192, .inl g_now)), (m_past, .inl (kI, 1920, .inl g_past))])) (va_Qi (fun (r : Int32) (_ : Unit) => True) (fun (_ : Unit) t => ∃ (n_acts : Int32) (n_now : Nat → Int32) (n_past : Nat → Int32), va_P D vwCl [(h0, .inr (10, [.ref m_now, .ref m_draft, .ref m_past, .int n_acts, .ref m_images, .ref m_kept, .ref m_tape, .int j_taped, .int j_at, .int j_start, .int j_token, .int j_value, .int j_fault, .int j_place, .int j_latest, .ref m_low, .ref m_high, .ref m_first, .ref m_second, .ref m_lines, .ref m_others, .int j_shiftFirst, .int j_shiftMany, .int j_shiftLow, .int j_shiftHigh])), (m_now, .inl (kI, 192, .inl n_now)), (m_past, .inl (kI, 1920, .inl n_past))] t.heap ∧ va_K D vwCl [(kI, .int)] t ∧ va_D (va_A [(h0, .inr (10, [.ref m_now, .ref m_draft, .ref m_past, .int j_acts, .ref m_images, .ref m_kept, .ref m_tape, .int j_taped, .int j_at, .int j_start, .int j_token, .int j_value, .int j_fault, .int j_place, .int j_latest, .ref m_low, .ref m_high, .ref m_first, .ref m_second, .ref m_lines, .ref m_others, .int j_shiftFirst, .int j_shiftMany, .int j_shiftLow, .int j_shiftHigh])), (m_now, .inl (kI, 192, .inl g_now)), (m_past, .inl (kI, 1920, .inl g_past))] sz) [(h0, .inr (10, [.ref m_now, .ref m_draft, .ref m_past, .int n_acts, .ref m_images, .ref m_kept, .ref m_tape, .int j_taped, .int j_at, .int j_start, .int j_token, .int j_value, .int j_fault, .int j_place, .int j_latest, .ref m_low, .ref m_high, .ref m_first, .ref m_second, .ref m_lines, .ref m_others, .int j_shiftFirst, .int j_shiftMany, .int j_shiftLow, .int j_shiftHigh])), (m_now, .inl (kI, 192, .inl n_now)), (m_past, .inl (kI, 1920, .inl n_past))] ∧ gV n_now ∧ 1 ≤ (n_now 0).toInt ∧ (0 ≤ n_acts.toInt ∧ n_acts.toInt ≤ 10) ∧ pB n_past n_acts.toInt) (va_A [(h0, .inr (10, [.ref m_now, .ref m_draft, .ref m_past, .int j_acts, .ref m_images, .ref m_kept, .ref m_tape, .int j_taped, .int j_at, .int j_start, .int j_token, .int j_value, .int j_fault, .int j_place, .int j_latest, .ref m_low, .ref m_high, .ref m_first, .ref m_second, .ref m_lines, .ref m_others, .int j_shiftFirst, .int j_shiftMany, .int j_shiftLow, .int j_shiftHigh])), (m_now, .inl (kI, 192, .inl g_now)), (m_past, .inl (kI, 1920, .inl g_past))] sz)) 0 0 (va_A [(h0, .inr (10, [.ref m_now, .ref m_draft, .ref m_past, .int j_acts, .ref m_images, .ref m_kept, .ref m_tape, .int j_taped, .int j_at, .int j_start, .int j_token, .int j_value, .int j_fault, .int j_place, .int j_latest, .ref m_low, .ref m_high, .ref m_first, .ref m_second, .ref m_lines, .ref m_others, .int j_shiftFirst, .int j_shiftMany, .int j_shiftLow, .int j_shiftHigh])), (m_now, .inl (kI, 192, .inl g_now)), (m_past, .inl (kI, 1920, .inl g_past))] sz) := by
  refine Met.ofW (cc := cX10_alter) (maxL := 10) (ret := (some .int)) (by decide) rfl ?_
  intro p e s m args below meth c s₁ B hml hv
  obtain ⟨rfl, hsz, hP, hK, hD0⟩ := hv
  have hx := B.exec
  have hb := B.bytes
  have hr := B.returns
  have hts := atoms_spec (ws := w_X10_alter) B.pre
  have hown : s.vm.findClass RX10 = some m.cls := findClass_of_methodNamed B.named
  have hlocks := B.notSynchronized
  subst hsz
  have hD := hD0.self (sz := s.heap.size)
  generalize hAe : va_A [(h0, .inr (10, [.ref m_now, .ref m_draft, .ref m_past, .int j_acts, .ref m_images, .ref m_kept, .ref m_tape, .int j_taped, .int j_at, .int j_start, .int j_token, .int j_value, .int j_fault, .int j_place, .int j_latest, .ref m_low, .ref m_high, .ref m_first, .ref m_second, .ref m_lines, .ref m_others, .int j_shiftFirst, .int j_shiftMany, .int j_shiftLow, .int j_shiftHigh])), (m_now, .inl (kI, 192, .inl g_now)), (m_past, .inl (kI, 1920, .inl g_past))] s.heap.size = A at hD ⊢
  have hA : ∀ q : Nat, s.heap.size ≤ q → A q := fun q h => by rw [← hAe]; exact Or.inr h
  have hS : va_S A s.heap s.heap [] := va_S.rf
  have hP : va_P D vwCl [(h0, .inr (10, [.ref m_now, .ref m_draft, .ref m_past, .int j_acts, .ref m_images, .ref m_kept, .ref m_tape, .int j_taped, .int j_at, .int j_start, .int j_token, .int j_value, .int j_fault, .int j_place, .int j_latest, .ref m_low, .ref m_high, .ref m_first, .ref m_second, .ref m_lines, .ref m_others, .int j_shiftFirst, .int j_shiftMany, .int j_shiftLow, .int j_shiftHigh])), (m_now, .inl (kI, 192, .inl g_now)), (m_past, .inl (kI, 1920, .inl g_past))] s.heap := hP
  have hl := lv_entry ([.ref h0, .int i_0, .int i_1, .int i_2, .int i_3]) (n := 10) (Nat.le_of_ble_eq_true rfl)
  rw [lg_entry_eq]
  generalize (lg_sl ([.ref h0, .int i_0, .int i_1, .int i_2, .int i_3]) ++ List.replicate (10 - (lg_sl ([.ref h0, .int i_0, .int i_1, .int i_2, .int i_3])).length) Slot.unset).toArray = ls at hl ⊢
  have hl : lv_has ls 10 [(0, .ref h0), (1, .int i_0), (2, .int i_1), (3, .int i_2), (4, .int i_3)] := hl
  obtain ⟨H, hHe⟩ : ∃ H : Heap, H = s.heap := ⟨_, rfl⟩
  rw [← hHe] at hP
  have hS : va_S A s.heap H [] := by rw [hHe]; exact hS
  refine pw_heap hHe ?_
  refine lv_aload_n hx hb dX10_alter_0 rfl (lv_at hl 0 rfl) ?_
  refine lv_iload_n hx hb dX10_alter_1 rfl (lv_at hl 1 rfl) ?_
  refine lv_iload_n hx hb dX10_alter_2 rfl (lv_at hl 2 rfl) ?_
  have hPc := hP.sub (ws' := [(h0, .inr (10, [.ref m_now, .ref m_draft, .ref m_past, .int j_acts, .ref m_images, .ref m_kept, .ref m_tape, .int j_taped, .int j_at, .int j_start, .int j_token, .int j_value, .int j_fault, .int j_place, .int j_latest, .ref m_low, .ref m_high, .ref m_first, .ref m_second, .ref m_lines, .ref m_others, .int j_shiftFirst, .int j_shiftMany, .int j_shiftLow, .int j_shiftHigh])), (m_now, .inl (kI, 192, .inl g_now))]) [0, 1] rfl
  have hKc := hK.sub (tys' := [(kI, .int)]) [0] rfl
  refine va_calli (va_runV (As := [.int i_0, .int i_1]) (rest := []) ⟨hx, hb, hml, hown, hts⟩ (c_X10_isStretch l D h0 i_0 i_1 m_now m_draft m_past j_acts m_images m_kept m_tape j_taped j_at j_start j_token j_value j_fault j_place j_latest m_low m_high m_first m_second m_lines m_others j_shiftFirst j_shiftMany j_shiftLow j_shiftHigh kI g_now hg_now) (cwV 2 hts g_X10_alter_X10_isStretch rfl rfl rfl (by decide +kernel) ⟨Nat.le_of_ble_eq_true rfl, Nat.le_of_ble_eq_true rfl⟩) ⟨fun a U g mk q => by obtain ⟨q0, qP, qK⟩ := q; exact ⟨q0, qP, va_K.moved (u := U) (U := U.calling g mk a) (Vm.Alike.refl U.vm) qK⟩, va_recv hKc hPc (ci := 10) (q0 := 0) rfl rfl, fun U hU hW => ⟨rfl, by rw [hU]; exact hPc, va_K.moved hW.alike hKc⟩⟩ rfl rfl hl.1 rfl (lv_room (Nat.le_of_ble_eq_true rfl)) dX10_alter_3 ⟨Nat.le_of_ble_eq_true rfl, Nat.le_of_ble_eq_true rfl⟩) hS (fun _ _ h => h.elim) (fun _ h => h.elim) (fun r1 u t H1 locs ht hvm hw hB hz1 hk1 hS => ?_)
  have hP := pw_keep hP (fun q hq => hk1 q hq (fun h => h))
  generalize H1 = H at hP hS ⊢
  refine W.widen (k := 0) (n := 0) (Nat.le_of_ble_eq_true rfl) (Nat.le_of_ble_eq_true rfl) ?_
  have bor1 := hw.1
  have zor1 := pw_boolI bor1
  have hfr1 := hw.2
  refine lv_if_eq (tgt := 21) hx hb dX10_alter_6 (by decide) (fun c2 => ?_) (fun c2 => ?_)
  · have nc2 : r1.toInt = 0 := pw_eq c2 rfl (by decide)
    refine lv_ldc hx hb hown (hts (.constant RX10 177 (-1000001)) (List.mem_of_getElem? (i := 18) rfl)) dX10_alter_21 ?_
    have hP9 := hP.sub (ws' := [(h0, .inr (10, [.ref m_now, .ref m_draft, .ref m_past, .int j_acts, .ref m_images, .ref m_kept, .ref m_tape, .int j_taped, .int j_at, .int j_start, .int j_token, .int j_value, .int j_fault, .int j_place, .int j_latest, .ref m_low, .ref m_high, .ref m_first, .ref m_second, .ref m_lines, .ref m_others, .int j_shiftFirst, .int j_shiftMany, .int j_shiftLow, .int j_shiftHigh])), (m_now, .inl (kI, 192, .inl g_now)), (m_past, .inl (kI, 1920, .inl g_past))]) [0, 1, 2] rfl
    have hD9 := hD.sub (ws' := [(h0, .inr (10, [.ref m_now, .ref m_draft, .ref m_past, .int j_acts, .ref m_images, .ref m_kept, .ref m_tape, .int j_taped, .int j_at, .int j_start, .int j_token, .int j_value, .int j_fault, .int j_place, .int j_latest, .ref m_low, .ref m_high, .ref m_first, .ref m_second, .ref m_lines, .ref m_others, .int j_shiftFirst, .int j_shiftMany, .int j_shiftLow, .int j_shiftHigh])), (m_now, .inl (kI, 192, .inl g_now)), (m_past, .inl (kI, 1920, .inl g_past))]) [0, 1, 2] (by decide) rfl
    have hK9 := hK.sub (tys' := [(kI, .int)]) [0] rfl
    refine W.widen (k := 0) (n := 0) (Nat.le_of_ble_eq_true rfl) (Nat.le_of_ble_eq_true rfl) ?_
    exact W.iret (v := (-1000001)) hx hb hr (fun t ht hW => ⟨⟨(-1000001), (), rfl, trivial, j_acts, g_now, g_past, by rw [ht]; exact hP9, va_K.moved hW.alike hK9, hD9, hg_now, hN1, (by omega), hPb⟩, hS.F ht⟩) hS.2.2 dX10_alter_23
  · have nc2 : r1.toInt ≠ 0 := pw_ne c2 rfl (by decide)
    refine lv_iload_n hx hb dX10_alter_9 rfl (lv_at hl 3 rfl) ?_
    refine lv_i2l (v := i_2.toInt64) hx hb dX10_alter_10 rfl ?_
    refine lv_lconst (v := 0) hx hb dX10_alter_11 (by decide) ?_
    refine lv_ldc2 hx hb hown (hts (.constantLong RX10 211 (3)) (List.mem_of_getElem? (i := 19) rfl)) dX10_alter_12 ?_
    have hPc := hP.sub (ws' := []) [] rfl
    have hKc := hK.sub (tys' := []) [] rfl
    refine va_calli (va_runS (As := [.long i_2.toInt64, .long 0, .long 3]) (rest := []) ⟨hx, hb, hml, hown, hts⟩ (c_X10_in0 l D i_2.toInt64 0 3) (cwS 3 hts g_X10_alter_X10_in0 rfl rfl rfl (by decide +kernel) ⟨Nat.le_of_ble_eq_true rfl, Nat.le_of_ble_eq_true rfl⟩) ⟨fun a U g mk q => by obtain ⟨q0, qP, qK⟩ := q; exact ⟨q0, qP, va_K.moved (u := U) (U := U.calling g mk a) (Vm.Alike.refl U.vm) qK⟩, fun U hU hW => ⟨rfl, by rw [hU]; exact hPc, va_K.moved hW.alike hKc⟩⟩ rfl rfl hl.1 rfl (lv_room (Nat.le_of_ble_eq_true rfl)) dX10_alter_15 ⟨Nat.le_of_ble_eq_true rfl, Nat.le_of_ble_eq_true rfl⟩) hS (fun _ _ h => h.elim) (fun _ h => h.elim) (fun r3 u t H1 locs ht hvm hw hB hz1 hk1 hS => ?_)
    have hP := pw_keep hP (fun q hq => hk1 q hq (fun h => h))
    generalize H1 = H at hP hS ⊢
    refine W.widen (k := 0) (n := 0) (Nat.le_of_ble_eq_true rfl) (Nat.le_of_ble_eq_true rfl) ?_
    have bor3 := hw.1
    have zor3 := pw_boolI bor3
    have hfr3 := hw.2
    have kl0 : (0 : Int64).toInt = 0 := by decide
    have kl3 : (3 : Int64).toInt = 3 := by decide
    try simp only [Int32.toInt_toInt64] at hfr3
    refine lv_if_ne (tgt := 24) hx hb dX10_alter_18 (by decide) (fun c4 => ?_) (fun c4 => ?_)
    · have nc4 : r3.toInt ≠ 0 := pw_ne c4 rfl (by decide)
      refine lv_iload_n hx hb dX10_alter_24 rfl (lv_at hl 3 rfl) ?_
      refine lv_if_ne (tgt := 33) hx hb dX10_alter_25 (by decide) (fun c5 => ?_) (fun c5 => ?_)
      · have nc5 : i_2.toInt ≠ 0 := pw_ne c5 rfl (by decide)
        refine lv_aload_n hx hb dX10_alter_33 rfl (lv_at hl 0 rfl) ?_
        refine va_get (D := D) (ci := 10) (v := .ref m_now) (C := RX10) (T := TX10) (N := 25) hx hb hts (fun _ h => List.mem_cons_of_mem _ (List.mem_append_right _ h)) hown hK hP 0 rfl rfl 0 (by decide) (hts (.fieldLink RX10 7 "LineCitesModel" "now" "[I") (List.mem_of_getElem? (i := 14) rfl)) (fun _ h9 => h9) rfl dX10_alter_34 ?_
        refine lv_iload_n hx hb dX10_alter_37 rfl (lv_at hl 1 rfl) ?_
        refine lv_iload_n hx hb dX10_alter_38 rfl (lv_at hl 2 rfl) ?_
        refine lv_iconst (v := 0) hx hb dX10_alter_39 (by decide) ?_
        have kk0 : (0 : Int32).toInt = 0 := by decide
        have hPc := hP.sub (ws' := [(m_now, .inl (kI, 192, .inl g_now))]) [1] rfl
        have hKc := hK.sub (tys' := [(kI, .int)]) [0] rfl
        refine va_calli (va_runS (As := [.ref m_now, .int i_0, .int i_1, .int 0]) (rest := []) ⟨hx, hb, hml, hown, hts⟩ (c_X10_of l D m_now i_0 i_1 0 kI g_now i_0.toInt.toNat i_1.toInt.toNat 0 (by first | decide | omega) (by first | decide | omega) (by first | decide | omega) (by first | decide | omega) (by first | decide | omega) (by first | decide | omega) (by first | omega | decide | (have hz0 : (0 : Int32).toInt = 0 := (by decide); omega)) (by first | omega | decide | (have hz0 : (0 : Int32).toInt = 0 := (by decide); omega)) (by first | omega | decide | (have hz0 : (0 : Int32).toInt = 0 := (by decide); omega))) (cwS 4 hts g_X10_alter_X10_of rfl rfl rfl (by decide +kernel) ⟨Nat.le_of_ble_eq_true rfl, Nat.le_of_ble_eq_true rfl⟩) ⟨fun a U g mk q => by obtain ⟨q0, qP, qK⟩ := q; exact ⟨q0, qP, va_K.moved (u := U) (U := U.calling g mk a) (Vm.Alike.refl U.vm) qK⟩, fun U hU hW => ⟨rfl, by rw [hU]; exact hPc, va_K.moved hW.alike hKc⟩⟩ rfl rfl hl.1 rfl (lv_room (Nat.le_of_ble_eq_true rfl)) dX10_alter_40 ⟨Nat.le_of_ble_eq_true rfl, Nat.le_of_ble_eq_true rfl⟩) hS (fun _ _ h => h.elim) (fun _ h => h.elim) (fun r6 u t H1 locs ht hvm hw hB hz1 hk1 hS => ?_)
        have hP := pw_keep hP (fun q hq => hk1 q hq (fun h => h))
        generalize H1 = H at hP hS ⊢
        refine W.widen (k := 0) (n := 0) (Nat.le_of_ble_eq_true rfl) (Nat.le_of_ble_eq_true rfl) ?_
        have hfr6 := hw
        refine lv_istore (lv' := [(5, .int r6), (0, .ref h0), (1, .int i_0), (2, .int i_1), (3, .int i_2), (4, .int i_3)]) hx hb dX10_alter_43 hl (by decide) rfl (fun ls hl => ?_)
        refine lv_iload_n hx hb dX10_alter_45 rfl (lv_at hl 4 rfl) ?_
        refine lv_iconst (v := 1) hx hb dX10_alter_46 (by decide) ?_
        refine lv_icmp_ne (tgt := 55) hx hb dX10_alter_47 (by decide) (fun c7 => ?_) (fun c7 => ?_)
        · have nc7 : i_2.toInt ≠ 1 := pw_ne c7 rfl (by decide)
          refine lv_aload_n hx hb dX10_alter_55 rfl (lv_at hl 1 rfl) ?_
          refine va_get (D := D) (ci := 10) (v := .ref m_now) (C := RX10) (T := TX10) (N := 25) hx hb hts (fun _ h => List.mem_cons_of_mem _ (List.mem_append_right _ h)) hown hK hP 0 rfl rfl 0 (by decide) (hts (.fieldLink RX10 7 "LineCitesModel" "now" "[I") (List.mem_of_getElem? (i := 14) rfl)) (fun _ h9 => h9) rfl dX10_alter_56 ?_
          refine lv_iload_n hx hb dX10_alter_59 rfl (lv_at hl 2 rfl) ?_
          refine lv_iload_n hx hb dX10_alter_60 rfl (lv_at hl 3 rfl) ?_
          refine lv_iconst (v := 1) hx hb dX10_alter_61 (by decide) ?_
          have kk1 : (1 : Int32).toInt = 1 := by decide
          have hPc := hP.sub (ws' := [(m_now, .inl (kI, 192, .inl g_now))]) [1] rfl
          have hKc := hK.sub (tys' := [(kI, .int)]) [0] rfl
          refine va_calli (va_runS (As := [.ref m_now, .int i_0, .int i_1, .int 1]) (rest := []) ⟨hx, hb, hml, hown, hts⟩ (c_X10_of l D m_now i_0 i_1 1 kI g_now i_0.toInt.toNat i_1.toInt.toNat 1 (by first | decide | omega) (by first | decide | omega) (by first | decide | omega) (by first | decide | omega) (by first | decide | omega) (by first | decide | omega) (by first | omega | decide | (have hz0 : (0 : Int32).toInt = 0 := (by decide); omega)) (by first | omega | decide | (have hz0 : (0 : Int32).toInt = 0 := (by decide); omega)) (by first | omega | decide | (have hz0 : (0 : Int32).toInt = 0 := (by decide); omega))) (cwS 4 hts g_X10_alter_X10_of rfl rfl rfl (by decide +kernel) ⟨Nat.le_of_ble_eq_true rfl, Nat.le_of_ble_eq_true rfl⟩) ⟨fun a U g mk q => by obtain ⟨q0, qP, qK⟩ := q; exact ⟨q0, qP, va_K.moved (u := U) (U := U.calling g mk a) (Vm.Alike.refl U.vm) qK⟩, fun U hU hW => ⟨rfl, by rw [hU]; exact hPc, va_K.moved hW.alike hKc⟩⟩ rfl rfl hl.1 rfl (lv_room (Nat.le_of_ble_eq_true rfl)) dX10_alter_62 ⟨Nat.le_of_ble_eq_true rfl, Nat.le_of_ble_eq_true rfl⟩) hS (fun _ _ h => h.elim) (fun _ h => h.elim) (fun r8 u t H1 locs ht hvm hw hB hz1 hk1 hS => ?_)
          have hP := pw_keep hP (fun q hq => hk1 q hq (fun h => h))
          generalize H1 = H at hP hS ⊢
          refine W.widen (k := 0) (n := 0) (Nat.le_of_ble_eq_true rfl) (Nat.le_of_ble_eq_true rfl) ?_
          have hfr8 := hw
          refine lv_istore (lv' := [(6, .int r8), (5, .int r6), (0, .ref h0), (1, .int i_0), (2, .int i_1), (3, .int i_2), (4, .int i_3)]) hx hb dX10_alter_65 hl (by decide) rfl (fun ls hl => ?_)
          refine lv_iload_n hx hb dX10_alter_67 rfl (lv_at hl 5 rfl) ?_
          refine lv_iconst (v := 2) hx hb dX10_alter_68 (by decide) ?_
          refine lv_icmp_ne (tgt := 77) hx hb dX10_alter_69 (by decide) (fun c9 => ?_) (fun c9 => ?_)
          · have nc9 : i_2.toInt ≠ 2 := pw_ne c9 rfl (by decide)
            refine lv_aload_n hx hb dX10_alter_77 rfl (lv_at hl 2 rfl) ?_
            refine va_get (D := D) (ci := 10) (v := .ref m_now) (C := RX10) (T := TX10) (N := 25) hx hb hts (fun _ h => List.mem_cons_of_mem _ (List.mem_append_right _ h)) hown hK hP 0 rfl rfl 0 (by decide) (hts (.fieldLink RX10 7 "LineCitesModel" "now" "[I") (List.mem_of_getElem? (i := 14) rfl)) (fun _ h9 => h9) rfl dX10_alter_78 ?_
            refine lv_iload_n hx hb dX10_alter_81 rfl (lv_at hl 3 rfl) ?_
            refine lv_iload_n hx hb dX10_alter_82 rfl (lv_at hl 4 rfl) ?_
            refine lv_iconst (v := 2) hx hb dX10_alter_83 (by decide) ?_
            have kk2 : (2 : Int32).toInt = 2 := by decide
            have hPc := hP.sub (ws' := [(m_now, .inl (kI, 192, .inl g_now))]) [1] rfl
            have hKc := hK.sub (tys' := [(kI, .int)]) [0] rfl
            refine va_calli (va_runS (As := [.ref m_now, .int i_0, .int i_1, .int 2]) (rest := []) ⟨hx, hb, hml, hown, hts⟩ (c_X10_of l D m_now i_0 i_1 2 kI g_now i_0.toInt.toNat i_1.toInt.toNat 2 (by first | decide | omega) (by first | decide | omega) (by first | decide | omega) (by first | decide | omega) (by first | decide | omega) (by first | decide | omega) (by first | omega | decide | (have hz0 : (0 : Int32).toInt = 0 := (by decide); omega)) (by first | omega | decide | (have hz0 : (0 : Int32).toInt = 0 := (by decide); omega)) (by first | omega | decide | (have hz0 : (0 : Int32).toInt = 0 := (by decide); omega))) (cwS 4 hts g_X10_alter_X10_of rfl rfl rfl (by decide +kernel) ⟨Nat.le_of_ble_eq_true rfl, Nat.le_of_ble_eq_true rfl⟩) ⟨fun a U g mk q => by obtain ⟨q0, qP, qK⟩ := q; exact ⟨q0, qP, va_K.moved (u := U) (U := U.calling g mk a) (Vm.Alike.refl U.vm) qK⟩, fun U hU hW => ⟨rfl, by rw [hU]; exact hPc, va_K.moved hW.alike hKc⟩⟩ rfl rfl hl.1 rfl (lv_room (Nat.le_of_ble_eq_true rfl)) dX10_alter_84 ⟨Nat.le_of_ble_eq_true rfl, Nat.le_of_ble_eq_true rfl⟩) hS (fun _ _ h => h.elim) (fun _ h => h.elim) (fun r10 u t H1 locs ht hvm hw hB hz1 hk1 hS => ?_)
            have hP := pw_keep hP (fun q hq => hk1 q hq (fun h => h))
            generalize H1 = H at hP hS ⊢
            refine W.widen (k := 0) (n := 0) (Nat.le_of_ble_eq_true rfl) (Nat.le_of_ble_eq_true rfl) ?_
            have hfr10 := hw
            refine lv_istore (lv' := [(7, .int r10), (6, .int r8), (5, .int r6), (0, .ref h0), (1, .int i_0), (2, .int i_1), (3, .int i_2), (4, .int i_3)]) hx hb dX10_alter_87 hl (by decide) rfl (fun ls hl => ?_)
            refine lv_iload_n hx hb dX10_alter_89 rfl (lv_at hl 6 rfl) ?_
            refine lv_iconst (v := 3) hx hb dX10_alter_90 (by decide) ?_
            refine lv_icmp_ne (tgt := 99) hx hb dX10_alter_91 (by decide) (fun c11 => False.elim (by have nn : i_2.toInt ≠ 3 := pw_ne c11 rfl (by decide); omega)) (fun c11 => ?_)
            have nc11 : i_2.toInt = 3 := pw_eq c11 rfl (by decide)
            refine lv_iload hx hb dX10_alter_94 (lv_at hl 7 rfl) ?_
            refine lv_goto (tgt := 109) hx hb dX10_alter_96 (by decide) ?_
            refine lv_istore (lv' := [(8, .int i_3), (7, .int r10), (6, .int r8), (5, .int r6), (0, .ref h0), (1, .int i_0), (2, .int i_1), (3, .int i_2), (4, .int i_3)]) hx hb dX10_alter_109 hl (by decide) rfl (fun ls hl => ?_)
            refine lv_aload_n hx hb dX10_alter_111 rfl (lv_at hl 4 rfl) ?_
            refine lv_iload_n hx hb dX10_alter_112 rfl (lv_at hl 5 rfl) ?_
            refine lv_iload hx hb dX10_alter_113 (lv_at hl 3 rfl) ?_
            refine lv_iload hx hb dX10_alter_115 (lv_at hl 2 rfl) ?_
            refine lv_iload hx hb dX10_alter_117 (lv_at hl 1 rfl) ?_
            refine lv_iload hx hb dX10_alter_119 (lv_at hl 0 rfl) ?_
            refine lv_iload_n hx hb dX10_alter_121 rfl (lv_at hl 6 rfl) ?_
            have hPc := hP.sub (ws' := [(h0, .inr (10, [.ref m_now, .ref m_draft, .ref m_past, .int j_acts, .ref m_images, .ref m_kept, .ref m_tape, .int j_taped, .int j_at, .int j_start, .int j_token, .int j_value, .int j_fault, .int j_place, .int j_latest, .ref m_low, .ref m_high, .ref m_first, .ref m_second, .ref m_lines, .ref m_others, .int j_shiftFirst, .int j_shiftMany, .int j_shiftLow, .int j_shiftHigh])), (m_now, .inl (kI, 192, .inl g_now))]) [0, 1] rfl
            have hKc := hK.sub (tys' := [(kI, .int)]) [0] rfl
            refine va_calli (va_runV (As := [.int i_0, .int r6, .int r8, .int r10, .int i_3, .int i_1]) (rest := []) ⟨hx, hb, hml, hown, hts⟩ (c_X10_isGood l D h0 i_0 r6 r8 r10 i_3 i_1 m_now m_draft m_past j_acts m_images m_kept m_tape j_taped j_at j_start j_token j_value j_fault j_place j_latest m_low m_high m_first m_second m_lines m_others j_shiftFirst j_shiftMany j_shiftLow j_shiftHigh kI g_now (by first | decide | omega) (by first | decide | omega) hg_now) (cwV 6 hts g_X10_alter_X10_isGood rfl rfl rfl (by decide +kernel) ⟨Nat.le_of_ble_eq_true rfl, Nat.le_of_ble_eq_true rfl⟩) ⟨fun a U g mk q => by obtain ⟨q0, qP, qK⟩ := q; exact ⟨q0, qP, va_K.moved (u := U) (U := U.calling g mk a) (Vm.Alike.refl U.vm) qK⟩, va_recv hKc hPc (ci := 10) (q0 := 0) rfl rfl, fun U hU hW => ⟨rfl, by rw [hU]; exact hPc, va_K.moved hW.alike hKc⟩⟩ rfl rfl hl.1 rfl (lv_room (Nat.le_of_ble_eq_true rfl)) dX10_alter_122 ⟨Nat.le_of_ble_eq_true rfl, Nat.le_of_ble_eq_true rfl⟩) hS (fun _ _ h => h.elim) (fun _ h => h.elim) (fun r12 u t H1 locs ht hvm hw hB hz1 hk1 hS => ?_)
            have hP := pw_keep hP (fun q hq => hk1 q hq (fun h => h))
            generalize H1 = H at hP hS ⊢
            refine W.widen (k := 0) (n := 0) (Nat.le_of_ble_eq_true rfl) (Nat.le_of_ble_eq_true rfl) ?_
            have bor12 := hw.1
            have zor12 := pw_boolI bor12
            have hfr12 := hw.2
            refine lv_if_ne (tgt := 131) hx hb dX10_alter_125 (by decide) (fun c13 => ?_) (fun c13 => ?_)
            · have nc13 : r12.toInt ≠ 0 := pw_ne c13 rfl (by decide)
              have hvS : vS r6.toInt r8.toInt r10.toInt i_3.toInt := by
                rcases hfr12 with q | q
                · omega
                · exact q.2
              refine lv_aload_n hx hb dX10_alter_131 rfl (lv_at hl 4 rfl) ?_
              have hPc := hP.sub (ws' := [(h0, .inr (10, [.ref m_now, .ref m_draft, .ref m_past, .int j_acts, .ref m_images, .ref m_kept, .ref m_tape, .int j_taped, .int j_at, .int j_start, .int j_token, .int j_value, .int j_fault, .int j_place, .int j_latest, .ref m_low, .ref m_high, .ref m_first, .ref m_second, .ref m_lines, .ref m_others, .int j_shiftFirst, .int j_shiftMany, .int j_shiftLow, .int j_shiftHigh])), (m_now, .inl (kI, 192, .inl g_now)), (m_past, .inl (kI, 1920, .inl g_past))]) [0, 1, 2] rfl
              have hKc := hK.sub (tys' := [(kI, .int)]) [0] rfl
              have hDc := hD.sub (ws' := [(h0, .inr (10, [.ref m_now, .ref m_draft, .ref m_past, .int j_acts, .ref m_images, .ref m_kept, .ref m_tape, .int j_taped, .int j_at, .int j_start, .int j_token, .int j_value, .int j_fault, .int j_place, .int j_latest, .ref m_low, .ref m_high, .ref m_first, .ref m_second, .ref m_lines, .ref m_others, .int j_shiftFirst, .int j_shiftMany, .int j_shiftLow, .int j_shiftHigh])), (m_now, .inl (kI, 192, .inl g_now)), (m_past, .inl (kI, 1920, .inl g_past))]) [0, 1, 2] (by decide) rfl
              have hFc := va_free (wc := [(h0, .inr (10, [.ref m_now, .ref m_draft, .ref m_past, .int j_acts, .ref m_images, .ref m_kept, .ref m_tape, .int j_taped, .int j_at, .int j_start, .int j_token, .int j_value, .int j_fault, .int j_place, .int j_latest, .ref m_low, .ref m_high, .ref m_first, .ref m_second, .ref m_lines, .ref m_others, .int j_shiftFirst, .int j_shiftMany, .int j_shiftLow, .int j_shiftHigh])), (m_now, .inl (kI, 192, .inl g_now)), (m_past, .inl (kI, 1920, .inl g_past))]) hD hS hA [0, 1, 2] rfl
              refine va_callv (va_runV (As := []) (rest := []) ⟨hx, hb, hml, hown, hts⟩ (c_X10_notes l D h0 m_now m_draft m_past j_acts m_images m_kept m_tape j_taped j_at j_start j_token j_value j_fault j_place j_latest m_low m_high m_first m_second m_lines m_others j_shiftFirst j_shiftMany j_shiftLow j_shiftHigh kI g_now g_past H.size hN1 (by first | decide | omega) (by first | decide | omega) hPb hg_now) (cwV 0 hts g_X10_alter_X10_notes rfl rfl rfl (by decide +kernel) ⟨Nat.le_of_ble_eq_true rfl, Nat.le_of_ble_eq_true rfl⟩) ⟨fun a U g mk q => by obtain ⟨q0, q1, qP, qK, qD⟩ := q; exact ⟨q0, q1, qP, va_K.moved (u := U) (U := U.calling g mk a) (Vm.Alike.refl U.vm) qK, qD⟩, va_recv hKc hPc (ci := 10) (q0 := 0) rfl rfl, fun U hU hW => ⟨rfl, by rw [hU], by rw [hU]; exact hPc, va_K.moved hW.alike hKc, hDc.weaken (fun _ _ _ _ => trivial)⟩⟩ rfl rfl hl.1 rfl (lv_room (Nat.le_of_ble_eq_true rfl)) dX10_alter_132 ⟨Nat.le_of_ble_eq_true rfl, Nat.le_of_ble_eq_true rfl⟩) hS (fun q _ h => hFc q h) hFc (fun u t H1 locs ht hvm hw hB hz1 hk1 hS => ?_)
              obtain ⟨y15, y16, hP1, hK1, hD1, px0_r14, px1_r14⟩ := hB
              rw [ht] at hP1
              have hK1 := va_K.moved hvm.symm hK1
              obtain ⟨hP, hD⟩ := va_join (wr := []) (w1 := [(h0, .inr (10, [.ref m_now, .ref m_draft, .ref m_past, .int y15, .ref m_images, .ref m_kept, .ref m_tape, .int j_taped, .int j_at, .int j_start, .int j_token, .int j_value, .int j_fault, .int j_place, .int j_latest, .ref m_low, .ref m_high, .ref m_first, .ref m_second, .ref m_lines, .ref m_others, .int j_shiftFirst, .int j_shiftMany, .int j_shiftLow, .int j_shiftHigh])), (m_now, .inl (kI, 192, .inl g_now)), (m_past, .inl (kI, 1920, .inl y16))]) hP hD [0, 1, 2] [] rfl rfl (by decide) (by decide) hk1 hFc hP1 hD1
              have hK := (hK.sub (tys' := [(kI, .int)]) [0] rfl).app hK1
              generalize H1 = H at hP hS ⊢
              have hP : va_P D vwCl [(h0, .inr (10, [.ref m_now, .ref m_draft, .ref m_past, .int y15, .ref m_images, .ref m_kept, .ref m_tape, .int j_taped, .int j_at, .int j_start, .int j_token, .int j_value, .int j_fault, .int j_place, .int j_latest, .ref m_low, .ref m_high, .ref m_first, .ref m_second, .ref m_lines, .ref m_others, .int j_shiftFirst, .int j_shiftMany, .int j_shiftLow, .int j_shiftHigh])), (m_now, .inl (kI, 192, .inl g_now)), (m_past, .inl (kI, 1920, .inl y16))] H := hP
              have hD : va_D A [(h0, .inr (10, [.ref m_now, .ref m_draft, .ref m_past, .int y15, .ref m_images, .ref m_kept, .ref m_tape, .int j_taped, .int j_at, .int j_start, .int j_token, .int j_value, .int j_fault, .int j_place, .int j_latest, .ref m_low, .ref m_high, .ref m_first, .ref m_second, .ref m_lines, .ref m_others, .int j_shiftFirst, .int j_shiftMany, .int j_shiftLow, .int j_shiftHigh])), (m_now, .inl (kI, 192, .inl g_now)), (m_past, .inl (kI, 1920, .inl y16))] := hD
              have hK : va_K D vwCl [(kI, .int), (kI, .int)] s := hK
              refine W.widen (k := 0) (n := 0) (Nat.le_of_ble_eq_true rfl) (Nat.le_of_ble_eq_true rfl) ?_
              refine lv_aload_n hx hb dX10_alter_135 rfl (lv_at hl 4 rfl) ?_
              refine va_get (D := D) (ci := 10) (v := .ref m_now) (C := RX10) (T := TX10) (N := 25) hx hb hts (fun _ h => List.mem_cons_of_mem _ (List.mem_append_right _ h)) hown hK hP 0 rfl rfl 0 (by decide) (hts (.fieldLink RX10 7 "LineCitesModel" "now" "[I") (List.mem_of_getElem? (i := 14) rfl)) (fun _ h9 => h9) rfl dX10_alter_136 ?_
              refine lv_iload_n hx hb dX10_alter_139 rfl (lv_at hl 5 rfl) ?_
              refine lv_iload_n hx hb dX10_alter_140 rfl (lv_at hl 6 rfl) ?_
              refine lv_iload_n hx hb dX10_alter_141 rfl (lv_at hl 7 rfl) ?_
              have hPc := hP.sub (ws' := [(m_now, .inl (kI, 192, .inl g_now))]) [1] rfl
              have hKc := hK.sub (tys' := [(kI, .int)]) [0] rfl
              refine va_calli (va_runS (As := [.ref m_now, .int i_0, .int i_1, .int i_2]) (rest := []) ⟨hx, hb, hml, hown, hts⟩ (c_X10_of l D m_now i_0 i_1 i_2 kI g_now i_0.toInt.toNat i_1.toInt.toNat i_2.toInt.toNat (by first | decide | omega) (by first | decide | omega) (by first | decide | omega) (by first | decide | omega) (by first | decide | omega) (by first | decide | omega) (by first | omega | decide | (have hz0 : (0 : Int32).toInt = 0 := (by decide); omega)) (by first | omega | decide | (have hz0 : (0 : Int32).toInt = 0 := (by decide); omega)) (by first | omega | decide | (have hz0 : (0 : Int32).toInt = 0 := (by decide); omega))) (cwS 4 hts g_X10_alter_X10_of rfl rfl rfl (by decide +kernel) ⟨Nat.le_of_ble_eq_true rfl, Nat.le_of_ble_eq_true rfl⟩) ⟨fun a U g mk q => by obtain ⟨q0, qP, qK⟩ := q; exact ⟨q0, qP, va_K.moved (u := U) (U := U.calling g mk a) (Vm.Alike.refl U.vm) qK⟩, fun U hU hW => ⟨rfl, by rw [hU]; exact hPc, va_K.moved hW.alike hKc⟩⟩ rfl rfl hl.1 rfl (lv_room (Nat.le_of_ble_eq_true rfl)) dX10_alter_142 ⟨Nat.le_of_ble_eq_true rfl, Nat.le_of_ble_eq_true rfl⟩) hS (fun _ _ h => h.elim) (fun _ h => h.elim) (fun r17 u t H1 locs ht hvm hw hB hz1 hk1 hS => ?_)
              have hP := pw_keep hP (fun q hq => hk1 q hq (fun h => h))
              generalize H1 = H at hP hS ⊢
              refine W.widen (k := 0) (n := 0) (Nat.le_of_ble_eq_true rfl) (Nat.le_of_ble_eq_true rfl) ?_
              have hfr17 := hw
              refine lv_istore (lv' := [(9, .int r17), (8, .int i_3), (7, .int r10), (6, .int r8), (5, .int r6), (0, .ref h0), (1, .int i_0), (2, .int i_1), (3, .int i_2), (4, .int i_3)]) hx hb dX10_alter_145 hl (by decide) rfl (fun ls hl => ?_)
              refine lv_aload_n hx hb dX10_alter_147 rfl (lv_at hl 5 rfl) ?_
              refine va_get (D := D) (ci := 10) (v := .ref m_now) (C := RX10) (T := TX10) (N := 25) hx hb hts (fun _ h => List.mem_cons_of_mem _ (List.mem_append_right _ h)) hown hK hP 0 rfl rfl 0 (by decide) (hts (.fieldLink RX10 7 "LineCitesModel" "now" "[I") (List.mem_of_getElem? (i := 14) rfl)) (fun _ h9 => h9) rfl dX10_alter_148 ?_
              refine lv_bipush (v := 8) hx hb dX10_alter_151 (by decide) ?_
              refine lv_bipush (v := 24) hx hb dX10_alter_153 (by decide) ?_
              refine lv_iload_n hx hb dX10_alter_155 rfl (lv_at hl 6 rfl) ?_
              refine lv_imul hx hb dX10_alter_156 ?_
              refine lv_topi (fun x18 ex18 => ?_)
              have tx18 : x18.toInt = 24 * i_0.toInt := pw_mulX ex18 (by decide) rfl (by omega) (by omega)
              refine lv_iadd hx hb dX10_alter_157 ?_
              refine lv_topi (fun x19 ex19 => ?_)
              have tx19 : x19.toInt = 8 + x18.toInt := pw_addX ex19 (by decide) rfl (by omega) (by omega)
              refine lv_iconst (v := 4) hx hb dX10_alter_158 (by decide) ?_
              refine lv_iload_n hx hb dX10_alter_159 rfl (lv_at hl 7 rfl) ?_
              refine lv_imul hx hb dX10_alter_160 ?_
              refine lv_topi (fun x20 ex20 => ?_)
              have tx20 : x20.toInt = 4 * i_1.toInt := pw_mulX ex20 (by decide) rfl (by omega) (by omega)
              refine lv_iadd hx hb dX10_alter_161 ?_
              refine lv_topi (fun x21 ex21 => ?_)
              have tx21 : x21.toInt = x19.toInt + x20.toInt := pw_addX ex21 rfl rfl (by omega) (by omega)
              refine lv_iload_n hx hb dX10_alter_162 rfl (lv_at hl 8 rfl) ?_
              refine lv_iadd hx hb dX10_alter_163 ?_
              refine lv_topi (fun x22 ex22 => ?_)
              have tx22 : x22.toInt = x21.toInt + i_2.toInt := pw_addX ex22 rfl rfl (by omega) (by omega)
              refine lv_iload hx hb dX10_alter_164 (lv_at hl 9 rfl) ?_
              refine va_iast hx hb hK hP hD hS 1 0 rfl rfl (vp_in_iff.mpr ⟨by omega, by omega⟩) dX10_alter_166 (fun H locs hP hD hS => ?_)
              obtain ⟨g23, eg23⟩ : ∃ g : Nat → Int32, g = upd g_now (x22 : Int32).toNatClampNeg i_3 := ⟨_, rfl⟩
              have hP : va_P D vwCl [(h0, .inr (10, [.ref m_now, .ref m_draft, .ref m_past, .int y15, .ref m_images, .ref m_kept, .ref m_tape, .int j_taped, .int j_at, .int j_start, .int j_token, .int j_value, .int j_fault, .int j_place, .int j_latest, .ref m_low, .ref m_high, .ref m_first, .ref m_second, .ref m_lines, .ref m_others, .int j_shiftFirst, .int j_shiftMany, .int j_shiftLow, .int j_shiftHigh])), (m_now, .inl (kI, 192, .inl (upd g_now (x22 : Int32).toNatClampNeg i_3))), (m_past, .inl (kI, 1920, .inl y16))] H := hP
              have hD : va_D A [(h0, .inr (10, [.ref m_now, .ref m_draft, .ref m_past, .int y15, .ref m_images, .ref m_kept, .ref m_tape, .int j_taped, .int j_at, .int j_start, .int j_token, .int j_value, .int j_fault, .int j_place, .int j_latest, .ref m_low, .ref m_high, .ref m_first, .ref m_second, .ref m_lines, .ref m_others, .int j_shiftFirst, .int j_shiftMany, .int j_shiftLow, .int j_shiftHigh])), (m_now, .inl (kI, 192, .inl (upd g_now (x22 : Int32).toNatClampNeg i_3))), (m_past, .inl (kI, 1920, .inl y16))] := hD
              have hK : va_K D vwCl [(kI, .int), (kI, .int)] s := hK
              rw [← eg23] at hP hD
              refine lv_iload hx hb dX10_alter_167 (lv_at hl 0 rfl) ?_
              have hgd := gV_al (e := i_0.toInt.toNat) (s := i_1.toInt.toNat) (w := 3) hg_now (by omega) (by omega) (by decide) (by omega) eg23 hvS (by rw [if_neg (by decide)]; exact hfr6) (by rw [if_neg (by decide)]; exact hfr8) (by rw [if_neg (by decide)]; exact hfr10) (by rw [if_pos rfl])
              have hg23 := hgd.1
              have hz0 := hgd.2
              have hP9 := hP.sub (ws' := [(h0, .inr (10, [.ref m_now, .ref m_draft, .ref m_past, .int y15, .ref m_images, .ref m_kept, .ref m_tape, .int j_taped, .int j_at, .int j_start, .int j_token, .int j_value, .int j_fault, .int j_place, .int j_latest, .ref m_low, .ref m_high, .ref m_first, .ref m_second, .ref m_lines, .ref m_others, .int j_shiftFirst, .int j_shiftMany, .int j_shiftLow, .int j_shiftHigh])), (m_now, .inl (kI, 192, .inl g23)), (m_past, .inl (kI, 1920, .inl y16))]) [0, 1, 2] rfl
              have hD9 := hD.sub (ws' := [(h0, .inr (10, [.ref m_now, .ref m_draft, .ref m_past, .int y15, .ref m_images, .ref m_kept, .ref m_tape, .int j_taped, .int j_at, .int j_start, .int j_token, .int j_value, .int j_fault, .int j_place, .int j_latest, .ref m_low, .ref m_high, .ref m_first, .ref m_second, .ref m_lines, .ref m_others, .int j_shiftFirst, .int j_shiftMany, .int j_shiftLow, .int j_shiftHigh])), (m_now, .inl (kI, 192, .inl g23)), (m_past, .inl (kI, 1920, .inl y16))]) [0, 1, 2] (by decide) rfl
              have hK9 := hK.sub (tys' := [(kI, .int)]) [0] rfl
              refine W.widen (k := 0) (n := 0) (Nat.le_of_ble_eq_true rfl) (Nat.le_of_ble_eq_true rfl) ?_
              exact W.iret (v := r17) hx hb hr (fun t ht hW => ⟨⟨r17, (), rfl, trivial, y15, g23, y16, by rw [ht]; exact hP9, va_K.moved hW.alike hK9, hD9, hg23, (by rw [hz0]; exact hN1), px0_r14, px1_r14⟩, hS.F ht⟩) hS.2.2 dX10_alter_169
            · have nc13 : r12.toInt = 0 := pw_eq c13 rfl (by decide)
              refine lv_ldc hx hb hown (hts (.constant RX10 177 (-1000001)) (List.mem_of_getElem? (i := 18) rfl)) dX10_alter_128 ?_
              have hP9 := hP.sub (ws' := [(h0, .inr (10, [.ref m_now, .ref m_draft, .ref m_past, .int j_acts, .ref m_images, .ref m_kept, .ref m_tape, .int j_taped, .int j_at, .int j_start, .int j_token, .int j_value, .int j_fault, .int j_place, .int j_latest, .ref m_low, .ref m_high, .ref m_first, .ref m_second, .ref m_lines, .ref m_others, .int j_shiftFirst, .int j_shiftMany, .int j_shiftLow, .int j_shiftHigh])), (m_now, .inl (kI, 192, .inl g_now)), (m_past, .inl (kI, 1920, .inl g_past))]) [0, 1, 2] rfl
              have hD9 := hD.sub (ws' := [(h0, .inr (10, [.ref m_now, .ref m_draft, .ref m_past, .int j_acts, .ref m_images, .ref m_kept, .ref m_tape, .int j_taped, .int j_at, .int j_start, .int j_token, .int j_value, .int j_fault, .int j_place, .int j_latest, .ref m_low, .ref m_high, .ref m_first, .ref m_second, .ref m_lines, .ref m_others, .int j_shiftFirst, .int j_shiftMany, .int j_shiftLow, .int j_shiftHigh])), (m_now, .inl (kI, 192, .inl g_now)), (m_past, .inl (kI, 1920, .inl g_past))]) [0, 1, 2] (by decide) rfl
              have hK9 := hK.sub (tys' := [(kI, .int)]) [0] rfl
              refine W.widen (k := 0) (n := 0) (Nat.le_of_ble_eq_true rfl) (Nat.le_of_ble_eq_true rfl) ?_
              exact W.iret (v := (-1000001)) hx hb hr (fun t ht hW => ⟨⟨(-1000001), (), rfl, trivial, j_acts, g_now, g_past, by rw [ht]; exact hP9, va_K.moved hW.alike hK9, hD9, hg_now, hN1, (by omega), hPb⟩, hS.F ht⟩) hS.2.2 dX10_alter_130
          · have nc9 : i_2.toInt = 2 := pw_eq c9 rfl (by decide)
            refine lv_iload hx hb dX10_alter_72 (lv_at hl 6 rfl) ?_
            refine lv_goto (tgt := 87) hx hb dX10_alter_74 (by decide) ?_
            refine lv_istore (lv' := [(7, .int i_3), (6, .int r8), (5, .int r6), (0, .ref h0), (1, .int i_0), (2, .int i_1), (3, .int i_2), (4, .int i_3)]) hx hb dX10_alter_87 hl (by decide) rfl (fun ls hl => ?_)
            refine lv_iload_n hx hb dX10_alter_89 rfl (lv_at hl 6 rfl) ?_
            refine lv_iconst (v := 3) hx hb dX10_alter_90 (by decide) ?_
            refine lv_icmp_ne (tgt := 99) hx hb dX10_alter_91 (by decide) (fun c24 => ?_) (fun c24 => False.elim (by have nn : i_2.toInt = 3 := pw_eq c24 rfl (by decide); omega))
            have nc24 : i_2.toInt ≠ 3 := pw_ne c24 rfl (by decide)
            refine lv_aload_n hx hb dX10_alter_99 rfl (lv_at hl 3 rfl) ?_
            refine va_get (D := D) (ci := 10) (v := .ref m_now) (C := RX10) (T := TX10) (N := 25) hx hb hts (fun _ h => List.mem_cons_of_mem _ (List.mem_append_right _ h)) hown hK hP 0 rfl rfl 0 (by decide) (hts (.fieldLink RX10 7 "LineCitesModel" "now" "[I") (List.mem_of_getElem? (i := 14) rfl)) (fun _ h9 => h9) rfl dX10_alter_100 ?_
            refine lv_iload_n hx hb dX10_alter_103 rfl (lv_at hl 4 rfl) ?_
            refine lv_iload_n hx hb dX10_alter_104 rfl (lv_at hl 5 rfl) ?_
            refine lv_iconst (v := 3) hx hb dX10_alter_105 (by decide) ?_
            have kk3 : (3 : Int32).toInt = 3 := by decide
            have hPc := hP.sub (ws' := [(m_now, .inl (kI, 192, .inl g_now))]) [1] rfl
            have hKc := hK.sub (tys' := [(kI, .int)]) [0] rfl
            refine va_calli (va_runS (As := [.ref m_now, .int i_0, .int i_1, .int 3]) (rest := []) ⟨hx, hb, hml, hown, hts⟩ (c_X10_of l D m_now i_0 i_1 3 kI g_now i_0.toInt.toNat i_1.toInt.toNat 3 (by first | decide | omega) (by first | decide | omega) (by first | decide | omega) (by first | decide | omega) (by first | decide | omega) (by first | decide | omega) (by first | omega | decide | (have hz0 : (0 : Int32).toInt = 0 := (by decide); omega)) (by first | omega | decide | (have hz0 : (0 : Int32).toInt = 0 := (by decide); omega)) (by first | omega | decide | (have hz0 : (0 : Int32).toInt = 0 := (by decide); omega))) (cwS 4 hts g_X10_alter_X10_of rfl rfl rfl (by decide +kernel) ⟨Nat.le_of_ble_eq_true rfl, Nat.le_of_ble_eq_true rfl⟩) ⟨fun a U g mk q => by obtain ⟨q0, qP, qK⟩ := q; exact ⟨q0, qP, va_K.moved (u := U) (U := U.calling g mk a) (Vm.Alike.refl U.vm) qK⟩, fun U hU hW => ⟨rfl, by rw [hU]; exact hPc, va_K.moved hW.alike hKc⟩⟩ rfl rfl hl.1 rfl (lv_room (Nat.le_of_ble_eq_true rfl)) dX10_alter_106 ⟨Nat.le_of_ble_eq_true rfl, Nat.le_of_ble_eq_true rfl⟩) hS (fun _ _ h => h.elim) (fun _ h => h.elim) (fun r25 u t H1 locs ht hvm hw hB hz1 hk1 hS => ?_)
            have hP := pw_keep hP (fun q hq => hk1 q hq (fun h => h))
            generalize H1 = H at hP hS ⊢
            refine W.widen (k := 0) (n := 0) (Nat.le_of_ble_eq_true rfl) (Nat.le_of_ble_eq_true rfl) ?_
            have hfr25 := hw
            refine lv_istore (lv' := [(8, .int r25), (7, .int i_3), (6, .int r8), (5, .int r6), (0, .ref h0), (1, .int i_0), (2, .int i_1), (3, .int i_2), (4, .int i_3)]) hx hb dX10_alter_109 hl (by decide) rfl (fun ls hl => ?_)
            refine lv_aload_n hx hb dX10_alter_111 rfl (lv_at hl 4 rfl) ?_
            refine lv_iload_n hx hb dX10_alter_112 rfl (lv_at hl 5 rfl) ?_
            refine lv_iload hx hb dX10_alter_113 (lv_at hl 3 rfl) ?_
            refine lv_iload hx hb dX10_alter_115 (lv_at hl 2 rfl) ?_
            refine lv_iload hx hb dX10_alter_117 (lv_at hl 1 rfl) ?_
            refine lv_iload hx hb dX10_alter_119 (lv_at hl 0 rfl) ?_
            refine lv_iload_n hx hb dX10_alter_121 rfl (lv_at hl 6 rfl) ?_
            have hPc := hP.sub (ws' := [(h0, .inr (10, [.ref m_now, .ref m_draft, .ref m_past, .int j_acts, .ref m_images, .ref m_kept, .ref m_tape, .int j_taped, .int j_at, .int j_start, .int j_token, .int j_value, .int j_fault, .int j_place, .int j_latest, .ref m_low, .ref m_high, .ref m_first, .ref m_second, .ref m_lines, .ref m_others, .int j_shiftFirst, .int j_shiftMany, .int j_shiftLow, .int j_shiftHigh])), (m_now, .inl (kI, 192, .inl g_now))]) [0, 1] rfl
            have hKc := hK.sub (tys' := [(kI, .int)]) [0] rfl
            refine va_calli (va_runV (As := [.int i_0, .int r6, .int r8, .int i_3, .int r25, .int i_1]) (rest := []) ⟨hx, hb, hml, hown, hts⟩ (c_X10_isGood l D h0 i_0 r6 r8 i_3 r25 i_1 m_now m_draft m_past j_acts m_images m_kept m_tape j_taped j_at j_start j_token j_value j_fault j_place j_latest m_low m_high m_first m_second m_lines m_others j_shiftFirst j_shiftMany j_shiftLow j_shiftHigh kI g_now (by first | decide | omega) (by first | decide | omega) hg_now) (cwV 6 hts g_X10_alter_X10_isGood rfl rfl rfl (by decide +kernel) ⟨Nat.le_of_ble_eq_true rfl, Nat.le_of_ble_eq_true rfl⟩) ⟨fun a U g mk q => by obtain ⟨q0, qP, qK⟩ := q; exact ⟨q0, qP, va_K.moved (u := U) (U := U.calling g mk a) (Vm.Alike.refl U.vm) qK⟩, va_recv hKc hPc (ci := 10) (q0 := 0) rfl rfl, fun U hU hW => ⟨rfl, by rw [hU]; exact hPc, va_K.moved hW.alike hKc⟩⟩ rfl rfl hl.1 rfl (lv_room (Nat.le_of_ble_eq_true rfl)) dX10_alter_122 ⟨Nat.le_of_ble_eq_true rfl, Nat.le_of_ble_eq_true rfl⟩) hS (fun _ _ h => h.elim) (fun _ h => h.elim) (fun r26 u t H1 locs ht hvm hw hB hz1 hk1 hS => ?_)
            have hP := pw_keep hP (fun q hq => hk1 q hq (fun h => h))
            generalize H1 = H at hP hS ⊢
            refine W.widen (k := 0) (n := 0) (Nat.le_of_ble_eq_true rfl) (Nat.le_of_ble_eq_true rfl) ?_
            have bor26 := hw.1
            have zor26 := pw_boolI bor26
            have hfr26 := hw.2
            refine lv_if_ne (tgt := 131) hx hb dX10_alter_125 (by decide) (fun c27 => ?_) (fun c27 => ?_)
            · have nc27 : r26.toInt ≠ 0 := pw_ne c27 rfl (by decide)
              have hvS : vS r6.toInt r8.toInt i_3.toInt r25.toInt := by
                rcases hfr26 with q | q
                · omega
                · exact q.2
              refine lv_aload_n hx hb dX10_alter_131 rfl (lv_at hl 4 rfl) ?_
              have hPc := hP.sub (ws' := [(h0, .inr (10, [.ref m_now, .ref m_draft, .ref m_past, .int j_acts, .ref m_images, .ref m_kept, .ref m_tape, .int j_taped, .int j_at, .int j_start, .int j_token, .int j_value, .int j_fault, .int j_place, .int j_latest, .ref m_low, .ref m_high, .ref m_first, .ref m_second, .ref m_lines, .ref m_others, .int j_shiftFirst, .int j_shiftMany, .int j_shiftLow, .int j_shiftHigh])), (m_now, .inl (kI, 192, .inl g_now)), (m_past, .inl (kI, 1920, .inl g_past))]) [0, 1, 2] rfl
              have hKc := hK.sub (tys' := [(kI, .int)]) [0] rfl
              have hDc := hD.sub (ws' := [(h0, .inr (10, [.ref m_now, .ref m_draft, .ref m_past, .int j_acts, .ref m_images, .ref m_kept, .ref m_tape, .int j_taped, .int j_at, .int j_start, .int j_token, .int j_value, .int j_fault, .int j_place, .int j_latest, .ref m_low, .ref m_high, .ref m_first, .ref m_second, .ref m_lines, .ref m_others, .int j_shiftFirst, .int j_shiftMany, .int j_shiftLow, .int j_shiftHigh])), (m_now, .inl (kI, 192, .inl g_now)), (m_past, .inl (kI, 1920, .inl g_past))]) [0, 1, 2] (by decide) rfl
              have hFc := va_free (wc := [(h0, .inr (10, [.ref m_now, .ref m_draft, .ref m_past, .int j_acts, .ref m_images, .ref m_kept, .ref m_tape, .int j_taped, .int j_at, .int j_start, .int j_token, .int j_value, .int j_fault, .int j_place, .int j_latest, .ref m_low, .ref m_high, .ref m_first, .ref m_second, .ref m_lines, .ref m_others, .int j_shiftFirst, .int j_shiftMany, .int j_shiftLow, .int j_shiftHigh])), (m_now, .inl (kI, 192, .inl g_now)), (m_past, .inl (kI, 1920, .inl g_past))]) hD hS hA [0, 1, 2] rfl
              refine va_callv (va_runV (As := []) (rest := []) ⟨hx, hb, hml, hown, hts⟩ (c_X10_notes l D h0 m_now m_draft m_past j_acts m_images m_kept m_tape j_taped j_at j_start j_token j_value j_fault j_place j_latest m_low m_high m_first m_second m_lines m_others j_shiftFirst j_shiftMany j_shiftLow j_shiftHigh kI g_now g_past H.size hN1 (by first | decide | omega) (by first | decide | omega) hPb hg_now) (cwV 0 hts g_X10_alter_X10_notes rfl rfl rfl (by decide +kernel) ⟨Nat.le_of_ble_eq_true rfl, Nat.le_of_ble_eq_true rfl⟩) ⟨fun a U g mk q => by obtain ⟨q0, q1, qP, qK, qD⟩ := q; exact ⟨q0, q1, qP, va_K.moved (u := U) (U := U.calling g mk a) (Vm.Alike.refl U.vm) qK, qD⟩, va_recv hKc hPc (ci := 10) (q0 := 0) rfl rfl, fun U hU hW => ⟨rfl, by rw [hU], by rw [hU]; exact hPc, va_K.moved hW.alike hKc, hDc.weaken (fun _ _ _ _ => trivial)⟩⟩ rfl rfl hl.1 rfl (lv_room (Nat.le_of_ble_eq_true rfl)) dX10_alter_132 ⟨Nat.le_of_ble_eq_true rfl, Nat.le_of_ble_eq_true rfl⟩) hS (fun q _ h => hFc q h) hFc (fun u t H1 locs ht hvm hw hB hz1 hk1 hS => ?_)
              obtain ⟨y29, y30, hP1, hK1, hD1, px0_r28, px1_r28⟩ := hB
              rw [ht] at hP1
              have hK1 := va_K.moved hvm.symm hK1
              obtain ⟨hP, hD⟩ := va_join (wr := []) (w1 := [(h0, .inr (10, [.ref m_now, .ref m_draft, .ref m_past, .int y29, .ref m_images, .ref m_kept, .ref m_tape, .int j_taped, .int j_at, .int j_start, .int j_token, .int j_value, .int j_fault, .int j_place, .int j_latest, .ref m_low, .ref m_high, .ref m_first, .ref m_second, .ref m_lines, .ref m_others, .int j_shiftFirst, .int j_shiftMany, .int j_shiftLow, .int j_shiftHigh])), (m_now, .inl (kI, 192, .inl g_now)), (m_past, .inl (kI, 1920, .inl y30))]) hP hD [0, 1, 2] [] rfl rfl (by decide) (by decide) hk1 hFc hP1 hD1
              have hK := (hK.sub (tys' := [(kI, .int)]) [0] rfl).app hK1
              generalize H1 = H at hP hS ⊢
              have hP : va_P D vwCl [(h0, .inr (10, [.ref m_now, .ref m_draft, .ref m_past, .int y29, .ref m_images, .ref m_kept, .ref m_tape, .int j_taped, .int j_at, .int j_start, .int j_token, .int j_value, .int j_fault, .int j_place, .int j_latest, .ref m_low, .ref m_high, .ref m_first, .ref m_second, .ref m_lines, .ref m_others, .int j_shiftFirst, .int j_shiftMany, .int j_shiftLow, .int j_shiftHigh])), (m_now, .inl (kI, 192, .inl g_now)), (m_past, .inl (kI, 1920, .inl y30))] H := hP
              have hD : va_D A [(h0, .inr (10, [.ref m_now, .ref m_draft, .ref m_past, .int y29, .ref m_images, .ref m_kept, .ref m_tape, .int j_taped, .int j_at, .int j_start, .int j_token, .int j_value, .int j_fault, .int j_place, .int j_latest, .ref m_low, .ref m_high, .ref m_first, .ref m_second, .ref m_lines, .ref m_others, .int j_shiftFirst, .int j_shiftMany, .int j_shiftLow, .int j_shiftHigh])), (m_now, .inl (kI, 192, .inl g_now)), (m_past, .inl (kI, 1920, .inl y30))] := hD
              have hK : va_K D vwCl [(kI, .int), (kI, .int)] s := hK
              refine W.widen (k := 0) (n := 0) (Nat.le_of_ble_eq_true rfl) (Nat.le_of_ble_eq_true rfl) ?_
              refine lv_aload_n hx hb dX10_alter_135 rfl (lv_at hl 4 rfl) ?_
              refine va_get (D := D) (ci := 10) (v := .ref m_now) (C := RX10) (T := TX10) (N := 25) hx hb hts (fun _ h => List.mem_cons_of_mem _ (List.mem_append_right _ h)) hown hK hP 0 rfl rfl 0 (by decide) (hts (.fieldLink RX10 7 "LineCitesModel" "now" "[I") (List.mem_of_getElem? (i := 14) rfl)) (fun _ h9 => h9) rfl dX10_alter_136 ?_
              refine lv_iload_n hx hb dX10_alter_139 rfl (lv_at hl 5 rfl) ?_
              refine lv_iload_n hx hb dX10_alter_140 rfl (lv_at hl 6 rfl) ?_
              refine lv_iload_n hx hb dX10_alter_141 rfl (lv_at hl 7 rfl) ?_
              have hPc := hP.sub (ws' := [(m_now, .inl (kI, 192, .inl g_now))]) [1] rfl
              have hKc := hK.sub (tys' := [(kI, .int)]) [0] rfl
              refine va_calli (va_runS (As := [.ref m_now, .int i_0, .int i_1, .int i_2]) (rest := []) ⟨hx, hb, hml, hown, hts⟩ (c_X10_of l D m_now i_0 i_1 i_2 kI g_now i_0.toInt.toNat i_1.toInt.toNat i_2.toInt.toNat (by first | decide | omega) (by first | decide | omega) (by first | decide | omega) (by first | decide | omega) (by first | decide | omega) (by first | decide | omega) (by first | omega | decide | (have hz0 : (0 : Int32).toInt = 0 := (by decide); omega)) (by first | omega | decide | (have hz0 : (0 : Int32).toInt = 0 := (by decide); omega)) (by first | omega | decide | (have hz0 : (0 : Int32).toInt = 0 := (by decide); omega))) (cwS 4 hts g_X10_alter_X10_of rfl rfl rfl (by decide +kernel) ⟨Nat.le_of_ble_eq_true rfl, Nat.le_of_ble_eq_true rfl⟩) ⟨fun a U g mk q => by obtain ⟨q0, qP, qK⟩ := q; exact ⟨q0, qP, va_K.moved (u := U) (U := U.calling g mk a) (Vm.Alike.refl U.vm) qK⟩, fun U hU hW => ⟨rfl, by rw [hU]; exact hPc, va_K.moved hW.alike hKc⟩⟩ rfl rfl hl.1 rfl (lv_room (Nat.le_of_ble_eq_true rfl)) dX10_alter_142 ⟨Nat.le_of_ble_eq_true rfl, Nat.le_of_ble_eq_true rfl⟩) hS (fun _ _ h => h.elim) (fun _ h => h.elim) (fun r31 u t H1 locs ht hvm hw hB hz1 hk1 hS => ?_)
              have hP := pw_keep hP (fun q hq => hk1 q hq (fun h => h))
              generalize H1 = H at hP hS ⊢
              refine W.widen (k := 0) (n := 0) (Nat.le_of_ble_eq_true rfl) (Nat.le_of_ble_eq_true rfl) ?_
              have hfr31 := hw
              refine lv_istore (lv' := [(9, .int r31), (8, .int r25), (7, .int i_3), (6, .int r8), (5, .int r6), (0, .ref h0), (1, .int i_0), (2, .int i_1), (3, .int i_2), (4, .int i_3)]) hx hb dX10_alter_145 hl (by decide) rfl (fun ls hl => ?_)
              refine lv_aload_n hx hb dX10_alter_147 rfl (lv_at hl 5 rfl) ?_
              refine va_get (D := D) (ci := 10) (v := .ref m_now) (C := RX10) (T := TX10) (N := 25) hx hb hts (fun _ h => List.mem_cons_of_mem _ (List.mem_append_right _ h)) hown hK hP 0 rfl rfl 0 (by decide) (hts (.fieldLink RX10 7 "LineCitesModel" "now" "[I") (List.mem_of_getElem? (i := 14) rfl)) (fun _ h9 => h9) rfl dX10_alter_148 ?_
              refine lv_bipush (v := 8) hx hb dX10_alter_151 (by decide) ?_
              refine lv_bipush (v := 24) hx hb dX10_alter_153 (by decide) ?_
              refine lv_iload_n hx hb dX10_alter_155 rfl (lv_at hl 6 rfl) ?_
              refine lv_imul hx hb dX10_alter_156 ?_
              refine lv_topi (fun x32 ex32 => ?_)
              have tx32 : x32.toInt = 24 * i_0.toInt := pw_mulX ex32 (by decide) rfl (by omega) (by omega)
              refine lv_iadd hx hb dX10_alter_157 ?_
              refine lv_topi (fun x33 ex33 => ?_)
              have tx33 : x33.toInt = 8 + x32.toInt := pw_addX ex33 (by decide) rfl (by omega) (by omega)
              refine lv_iconst (v := 4) hx hb dX10_alter_158 (by decide) ?_
              refine lv_iload_n hx hb dX10_alter_159 rfl (lv_at hl 7 rfl) ?_
              refine lv_imul hx hb dX10_alter_160 ?_
              refine lv_topi (fun x34 ex34 => ?_)
              have tx34 : x34.toInt = 4 * i_1.toInt := pw_mulX ex34 (by decide) rfl (by omega) (by omega)
              refine lv_iadd hx hb dX10_alter_161 ?_
              refine lv_topi (fun x35 ex35 => ?_)
              have tx35 : x35.toInt = x33.toInt + x34.toInt := pw_addX ex35 rfl rfl (by omega) (by omega)
              refine lv_iload_n hx hb dX10_alter_162 rfl (lv_at hl 8 rfl) ?_
              refine lv_iadd hx hb dX10_alter_163 ?_
              refine lv_topi (fun x36 ex36 => ?_)
              have tx36 : x36.toInt = x35.toInt + i_2.toInt := pw_addX ex36 rfl rfl (by omega) (by omega)
              refine lv_iload hx hb dX10_alter_164 (lv_at hl 9 rfl) ?_
              refine va_iast hx hb hK hP hD hS 1 0 rfl rfl (vp_in_iff.mpr ⟨by omega, by omega⟩) dX10_alter_166 (fun H locs hP hD hS => ?_)
              obtain ⟨g37, eg37⟩ : ∃ g : Nat → Int32, g = upd g_now (x36 : Int32).toNatClampNeg i_3 := ⟨_, rfl⟩
              have hP : va_P D vwCl [(h0, .inr (10, [.ref m_now, .ref m_draft, .ref m_past, .int y29, .ref m_images, .ref m_kept, .ref m_tape, .int j_taped, .int j_at, .int j_start, .int j_token, .int j_value, .int j_fault, .int j_place, .int j_latest, .ref m_low, .ref m_high, .ref m_first, .ref m_second, .ref m_lines, .ref m_others, .int j_shiftFirst, .int j_shiftMany, .int j_shiftLow, .int j_shiftHigh])), (m_now, .inl (kI, 192, .inl (upd g_now (x36 : Int32).toNatClampNeg i_3))), (m_past, .inl (kI, 1920, .inl y30))] H := hP
              have hD : va_D A [(h0, .inr (10, [.ref m_now, .ref m_draft, .ref m_past, .int y29, .ref m_images, .ref m_kept, .ref m_tape, .int j_taped, .int j_at, .int j_start, .int j_token, .int j_value, .int j_fault, .int j_place, .int j_latest, .ref m_low, .ref m_high, .ref m_first, .ref m_second, .ref m_lines, .ref m_others, .int j_shiftFirst, .int j_shiftMany, .int j_shiftLow, .int j_shiftHigh])), (m_now, .inl (kI, 192, .inl (upd g_now (x36 : Int32).toNatClampNeg i_3))), (m_past, .inl (kI, 1920, .inl y30))] := hD
              have hK : va_K D vwCl [(kI, .int), (kI, .int)] s := hK
              rw [← eg37] at hP hD
              refine lv_iload hx hb dX10_alter_167 (lv_at hl 0 rfl) ?_
              have hgd := gV_al (e := i_0.toInt.toNat) (s := i_1.toInt.toNat) (w := 2) hg_now (by omega) (by omega) (by decide) (by omega) eg37 hvS (by rw [if_neg (by decide)]; exact hfr6) (by rw [if_neg (by decide)]; exact hfr8) (by rw [if_pos rfl]) (by rw [if_neg (by decide)]; exact hfr25)
              have hg37 := hgd.1
              have hz0 := hgd.2
              have hP9 := hP.sub (ws' := [(h0, .inr (10, [.ref m_now, .ref m_draft, .ref m_past, .int y29, .ref m_images, .ref m_kept, .ref m_tape, .int j_taped, .int j_at, .int j_start, .int j_token, .int j_value, .int j_fault, .int j_place, .int j_latest, .ref m_low, .ref m_high, .ref m_first, .ref m_second, .ref m_lines, .ref m_others, .int j_shiftFirst, .int j_shiftMany, .int j_shiftLow, .int j_shiftHigh])), (m_now, .inl (kI, 192, .inl g37)), (m_past, .inl (kI, 1920, .inl y30))]) [0, 1, 2] rfl
              have hD9 := hD.sub (ws' := [(h0, .inr (10, [.ref m_now, .ref m_draft, .ref m_past, .int y29, .ref m_images, .ref m_kept, .ref m_tape, .int j_taped, .int j_at, .int j_start, .int j_token, .int j_value, .int j_fault, .int j_place, .int j_latest, .ref m_low, .ref m_high, .ref m_first, .ref m_second, .ref m_lines, .ref m_others, .int j_shiftFirst, .int j_shiftMany, .int j_shiftLow, .int j_shiftHigh])), (m_now, .inl (kI, 192, .inl g37)), (m_past, .inl (kI, 1920, .inl y30))]) [0, 1, 2] (by decide) rfl
              have hK9 := hK.sub (tys' := [(kI, .int)]) [0] rfl
              refine W.widen (k := 0) (n := 0) (Nat.le_of_ble_eq_true rfl) (Nat.le_of_ble_eq_true rfl) ?_
              exact W.iret (v := r31) hx hb hr (fun t ht hW => ⟨⟨r31, (), rfl, trivial, y29, g37, y30, by rw [ht]; exact hP9, va_K.moved hW.alike hK9, hD9, hg37, (by rw [hz0]; exact hN1), px0_r28, px1_r28⟩, hS.F ht⟩) hS.2.2 dX10_alter_169
            · have nc27 : r26.toInt = 0 := pw_eq c27 rfl (by decide)
              refine lv_ldc hx hb hown (hts (.constant RX10 177 (-1000001)) (List.mem_of_getElem? (i := 18) rfl)) dX10_alter_128 ?_
              have hP9 := hP.sub (ws' := [(h0, .inr (10, [.ref m_now, .ref m_draft, .ref m_past, .int j_acts, .ref m_images, .ref m_kept, .ref m_tape, .int j_taped, .int j_at, .int j_start, .int j_token, .int j_value, .int j_fault, .int j_place, .int j_latest, .ref m_low, .ref m_high, .ref m_first, .ref m_second, .ref m_lines, .ref m_others, .int j_shiftFirst, .int j_shiftMany, .int j_shiftLow, .int j_shiftHigh])), (m_now, .inl (kI, 192, .inl g_now)), (m_past, .inl (kI, 1920, .inl g_past))]) [0, 1, 2] rfl
              have hD9 := hD.sub (ws' := [(h0, .inr (10, [.ref m_now, .ref m_draft, .ref m_past, .int j_acts, .ref m_images, .ref m_kept, .ref m_tape, .int j_taped, .int j_at, .int j_start, .int j_token, .int j_value, .int j_fault, .int j_place, .int j_latest, .ref m_low, .ref m_high, .ref m_first, .ref m_second, .ref m_lines, .ref m_others, .int j_shiftFirst, .int j_shiftMany, .int j_shiftLow, .int j_shiftHigh])), (m_now, .inl (kI, 192, .inl g_now)), (m_past, .inl (kI, 1920, .inl g_past))]) [0, 1, 2] (by decide) rfl
              have hK9 := hK.sub (tys' := [(kI, .int)]) [0] rfl
              refine W.widen (k := 0) (n := 0) (Nat.le_of_ble_eq_true rfl) (Nat.le_of_ble_eq_true rfl) ?_
              exact W.iret (v := (-1000001)) hx hb hr (fun t ht hW => ⟨⟨(-1000001), (), rfl, trivial, j_acts, g_now, g_past, by rw [ht]; exact hP9, va_K.moved hW.alike hK9, hD9, hg_now, hN1, (by omega), hPb⟩, hS.F ht⟩) hS.2.2 dX10_alter_130
        · have nc7 : i_2.toInt = 1 := pw_eq c7 rfl (by decide)
          refine lv_iload hx hb dX10_alter_50 (lv_at hl 5 rfl) ?_
          refine lv_goto (tgt := 65) hx hb dX10_alter_52 (by decide) ?_
          refine lv_istore (lv' := [(6, .int i_3), (5, .int r6), (0, .ref h0), (1, .int i_0), (2, .int i_1), (3, .int i_2), (4, .int i_3)]) hx hb dX10_alter_65 hl (by decide) rfl (fun ls hl => ?_)
          refine lv_iload_n hx hb dX10_alter_67 rfl (lv_at hl 5 rfl) ?_
          refine lv_iconst (v := 2) hx hb dX10_alter_68 (by decide) ?_
          refine lv_icmp_ne (tgt := 77) hx hb dX10_alter_69 (by decide) (fun c38 => ?_) (fun c38 => False.elim (by have nn : i_2.toInt = 2 := pw_eq c38 rfl (by decide); omega))
          have nc38 : i_2.toInt ≠ 2 := pw_ne c38 rfl (by decide)
          refine lv_aload_n hx hb dX10_alter_77 rfl (lv_at hl 2 rfl) ?_
          refine va_get (D := D) (ci := 10) (v := .ref m_now) (C := RX10) (T := TX10) (N := 25) hx hb hts (fun _ h => List.mem_cons_of_mem _ (List.mem_append_right _ h)) hown hK hP 0 rfl rfl 0 (by decide) (hts (.fieldLink RX10 7 "LineCitesModel" "now" "[I") (List.mem_of_getElem? (i := 14) rfl)) (fun _ h9 => h9) rfl dX10_alter_78 ?_
          refine lv_iload_n hx hb dX10_alter_81 rfl (lv_at hl 3 rfl) ?_
          refine lv_iload_n hx hb dX10_alter_82 rfl (lv_at hl 4 rfl) ?_
          refine lv_iconst (v := 2) hx hb dX10_alter_83 (by decide) ?_
          have kk2 : (2 : Int32).toInt = 2 := by decide
          have hPc := hP.sub (ws' := [(m_now, .inl (kI, 192, .inl g_now))]) [1] rfl
          have hKc := hK.sub (tys' := [(kI, .int)]) [0] rfl
          refine va_calli (va_runS (As := [.ref m_now, .int i_0, .int i_1, .int 2]) (rest := []) ⟨hx, hb, hml, hown, hts⟩ (c_X10_of l D m_now i_0 i_1 2 kI g_now i_0.toInt.toNat i_1.toInt.toNat 2 (by first | decide | omega) (by first | decide | omega) (by first | decide | omega) (by first | decide | omega) (by first | decide | omega) (by first | decide | omega) (by first | omega | decide | (have hz0 : (0 : Int32).toInt = 0 := (by decide); omega)) (by first | omega | decide | (have hz0 : (0 : Int32).toInt = 0 := (by decide); omega)) (by first | omega | decide | (have hz0 : (0 : Int32).toInt = 0 := (by decide); omega))) (cwS 4 hts g_X10_alter_X10_of rfl rfl rfl (by decide +kernel) ⟨Nat.le_of_ble_eq_true rfl, Nat.le_of_ble_eq_true rfl⟩) ⟨fun a U g mk q => by obtain ⟨q0, qP, qK⟩ := q; exact ⟨q0, qP, va_K.moved (u := U) (U := U.calling g mk a) (Vm.Alike.refl U.vm) qK⟩, fun U hU hW => ⟨rfl, by rw [hU]; exact hPc, va_K.moved hW.alike hKc⟩⟩ rfl rfl hl.1 rfl (lv_room (Nat.le_of_ble_eq_true rfl)) dX10_alter_84 ⟨Nat.le_of_ble_eq_true rfl, Nat.le_of_ble_eq_true rfl⟩) hS (fun _ _ h => h.elim) (fun _ h => h.elim) (fun r39 u t H1 locs ht hvm hw hB hz1 hk1 hS => ?_)
          have hP := pw_keep hP (fun q hq => hk1 q hq (fun h => h))
          generalize H1 = H at hP hS ⊢
          refine W.widen (k := 0) (n := 0) (Nat.le_of_ble_eq_true rfl) (Nat.le_of_ble_eq_true rfl) ?_
          have hfr39 := hw
          refine lv_istore (lv' := [(7, .int r39), (6, .int i_3), (5, .int r6), (0, .ref h0), (1, .int i_0), (2, .int i_1), (3, .int i_2), (4, .int i_3)]) hx hb dX10_alter_87 hl (by decide) rfl (fun ls hl => ?_)
          refine lv_iload_n hx hb dX10_alter_89 rfl (lv_at hl 6 rfl) ?_
          refine lv_iconst (v := 3) hx hb dX10_alter_90 (by decide) ?_
          refine lv_icmp_ne (tgt := 99) hx hb dX10_alter_91 (by decide) (fun c40 => ?_) (fun c40 => False.elim (by have nn : i_2.toInt = 3 := pw_eq c40 rfl (by decide); omega))
          have nc40 : i_2.toInt ≠ 3 := pw_ne c40 rfl (by decide)
          refine lv_aload_n hx hb dX10_alter_99 rfl (lv_at hl 3 rfl) ?_
          refine va_get (D := D) (ci := 10) (v := .ref m_now) (C := RX10) (T := TX10) (N := 25) hx hb hts (fun _ h => List.mem_cons_of_mem _ (List.mem_append_right _ h)) hown hK hP 0 rfl rfl 0 (by decide) (hts (.fieldLink RX10 7 "LineCitesModel" "now" "[I") (List.mem_of_getElem? (i := 14) rfl)) (fun _ h9 => h9) rfl dX10_alter_100 ?_
          refine lv_iload_n hx hb dX10_alter_103 rfl (lv_at hl 4 rfl) ?_
          refine lv_iload_n hx hb dX10_alter_104 rfl (lv_at hl 5 rfl) ?_
          refine lv_iconst (v := 3) hx hb dX10_alter_105 (by decide) ?_
          have kk3 : (3 : Int32).toInt = 3 := by decide
          have hPc := hP.sub (ws' := [(m_now, .inl (kI, 192, .inl g_now))]) [1] rfl
          have hKc := hK.sub (tys' := [(kI, .int)]) [0] rfl
          refine va_calli (va_runS (As := [.ref m_now, .int i_0, .int i_1, .int 3]) (rest := []) ⟨hx, hb, hml, hown, hts⟩ (c_X10_of l D m_now i_0 i_1 3 kI g_now i_0.toInt.toNat i_1.toInt.toNat 3 (by first | decide | omega) (by first | decide | omega) (by first | decide | omega) (by first | decide | omega) (by first | decide | omega) (by first | decide | omega) (by first | omega | decide | (have hz0 : (0 : Int32).toInt = 0 := (by decide); omega)) (by first | omega | decide | (have hz0 : (0 : Int32).toInt = 0 := (by decide); omega)) (by first | omega | decide | (have hz0 : (0 : Int32).toInt = 0 := (by decide); omega))) (cwS 4 hts g_X10_alter_X10_of rfl rfl rfl (by decide +kernel) ⟨Nat.le_of_ble_eq_true rfl, Nat.le_of_ble_eq_true rfl⟩) ⟨fun a U g mk q => by obtain ⟨q0, qP, qK⟩ := q; exact ⟨q0, qP, va_K.moved (u := U) (U := U.calling g mk a) (Vm.Alike.refl U.vm) qK⟩, fun U hU hW => ⟨rfl, by rw [hU]; exact hPc, va_K.moved hW.alike hKc⟩⟩ rfl rfl hl.1 rfl (lv_room (Nat.le_of_ble_eq_true rfl)) dX10_alter_106 ⟨Nat.le_of_ble_eq_true rfl, Nat.le_of_ble_eq_true rfl⟩) hS (fun _ _ h => h.elim) (fun _ h => h.elim) (fun r41 u t H1 locs ht hvm hw hB hz1 hk1 hS => ?_)
          have hP := pw_keep hP (fun q hq => hk1 q hq (fun h => h))
          generalize H1 = H at hP hS ⊢
          refine W.widen (k := 0) (n := 0) (Nat.le_of_ble_eq_true rfl) (Nat.le_of_ble_eq_true rfl) ?_
          have hfr41 := hw
          refine lv_istore (lv' := [(8, .int r41), (7, .int r39), (6, .int i_3), (5, .int r6), (0, .ref h0), (1, .int i_0), (2, .int i_1), (3, .int i_2), (4, .int i_3)]) hx hb dX10_alter_109 hl (by decide) rfl (fun ls hl => ?_)
          refine lv_aload_n hx hb dX10_alter_111 rfl (lv_at hl 4 rfl) ?_
          refine lv_iload_n hx hb dX10_alter_112 rfl (lv_at hl 5 rfl) ?_
          refine lv_iload hx hb dX10_alter_113 (lv_at hl 3 rfl) ?_
          refine lv_iload hx hb dX10_alter_115 (lv_at hl 2 rfl) ?_
          refine lv_iload hx hb dX10_alter_117 (lv_at hl 1 rfl) ?_
          refine lv_iload hx hb dX10_alter_119 (lv_at hl 0 rfl) ?_
          refine lv_iload_n hx hb dX10_alter_121 rfl (lv_at hl 6 rfl) ?_
          have hPc := hP.sub (ws' := [(h0, .inr (10, [.ref m_now, .ref m_draft, .ref m_past, .int j_acts, .ref m_images, .ref m_kept, .ref m_tape, .int j_taped, .int j_at, .int j_start, .int j_token, .int j_value, .int j_fault, .int j_place, .int j_latest, .ref m_low, .ref m_high, .ref m_first, .ref m_second, .ref m_lines, .ref m_others, .int j_shiftFirst, .int j_shiftMany, .int j_shiftLow, .int j_shiftHigh])), (m_now, .inl (kI, 192, .inl g_now))]) [0, 1] rfl
          have hKc := hK.sub (tys' := [(kI, .int)]) [0] rfl
          refine va_calli (va_runV (As := [.int i_0, .int r6, .int i_3, .int r39, .int r41, .int i_1]) (rest := []) ⟨hx, hb, hml, hown, hts⟩ (c_X10_isGood l D h0 i_0 r6 i_3 r39 r41 i_1 m_now m_draft m_past j_acts m_images m_kept m_tape j_taped j_at j_start j_token j_value j_fault j_place j_latest m_low m_high m_first m_second m_lines m_others j_shiftFirst j_shiftMany j_shiftLow j_shiftHigh kI g_now (by first | decide | omega) (by first | decide | omega) hg_now) (cwV 6 hts g_X10_alter_X10_isGood rfl rfl rfl (by decide +kernel) ⟨Nat.le_of_ble_eq_true rfl, Nat.le_of_ble_eq_true rfl⟩) ⟨fun a U g mk q => by obtain ⟨q0, qP, qK⟩ := q; exact ⟨q0, qP, va_K.moved (u := U) (U := U.calling g mk a) (Vm.Alike.refl U.vm) qK⟩, va_recv hKc hPc (ci := 10) (q0 := 0) rfl rfl, fun U hU hW => ⟨rfl, by rw [hU]; exact hPc, va_K.moved hW.alike hKc⟩⟩ rfl rfl hl.1 rfl (lv_room (Nat.le_of_ble_eq_true rfl)) dX10_alter_122 ⟨Nat.le_of_ble_eq_true rfl, Nat.le_of_ble_eq_true rfl⟩) hS (fun _ _ h => h.elim) (fun _ h => h.elim) (fun r42 u t H1 locs ht hvm hw hB hz1 hk1 hS => ?_)
          have hP := pw_keep hP (fun q hq => hk1 q hq (fun h => h))
          generalize H1 = H at hP hS ⊢
          refine W.widen (k := 0) (n := 0) (Nat.le_of_ble_eq_true rfl) (Nat.le_of_ble_eq_true rfl) ?_
          have bor42 := hw.1
          have zor42 := pw_boolI bor42
          have hfr42 := hw.2
          refine lv_if_ne (tgt := 131) hx hb dX10_alter_125 (by decide) (fun c43 => ?_) (fun c43 => ?_)
          · have nc43 : r42.toInt ≠ 0 := pw_ne c43 rfl (by decide)
            have hvS : vS r6.toInt i_3.toInt r39.toInt r41.toInt := by
              rcases hfr42 with q | q
              · omega
              · exact q.2
            refine lv_aload_n hx hb dX10_alter_131 rfl (lv_at hl 4 rfl) ?_
            have hPc := hP.sub (ws' := [(h0, .inr (10, [.ref m_now, .ref m_draft, .ref m_past, .int j_acts, .ref m_images, .ref m_kept, .ref m_tape, .int j_taped, .int j_at, .int j_start, .int j_token, .int j_value, .int j_fault, .int j_place, .int j_latest, .ref m_low, .ref m_high, .ref m_first, .ref m_second, .ref m_lines, .ref m_others, .int j_shiftFirst, .int j_shiftMany, .int j_shiftLow, .int j_shiftHigh])), (m_now, .inl (kI, 192, .inl g_now)), (m_past, .inl (kI, 1920, .inl g_past))]) [0, 1, 2] rfl
            have hKc := hK.sub (tys' := [(kI, .int)]) [0] rfl
            have hDc := hD.sub (ws' := [(h0, .inr (10, [.ref m_now, .ref m_draft, .ref m_past, .int j_acts, .ref m_images, .ref m_kept, .ref m_tape, .int j_taped, .int j_at, .int j_start, .int j_token, .int j_value, .int j_fault, .int j_place, .int j_latest, .ref m_low, .ref m_high, .ref m_first, .ref m_second, .ref m_lines, .ref m_others, .int j_shiftFirst, .int j_shiftMany, .int j_shiftLow, .int j_shiftHigh])), (m_now, .inl (kI, 192, .inl g_now)), (m_past, .inl (kI, 1920, .inl g_past))]) [0, 1, 2] (by decide) rfl
            have hFc := va_free (wc := [(h0, .inr (10, [.ref m_now, .ref m_draft, .ref m_past, .int j_acts, .ref m_images, .ref m_kept, .ref m_tape, .int j_taped, .int j_at, .int j_start, .int j_token, .int j_value, .int j_fault, .int j_place, .int j_latest, .ref m_low, .ref m_high, .ref m_first, .ref m_second, .ref m_lines, .ref m_others, .int j_shiftFirst, .int j_shiftMany, .int j_shiftLow, .int j_shiftHigh])), (m_now, .inl (kI, 192, .inl g_now)), (m_past, .inl (kI, 1920, .inl g_past))]) hD hS hA [0, 1, 2] rfl
            refine va_callv (va_runV (As := []) (rest := []) ⟨hx, hb, hml, hown, hts⟩ (c_X10_notes l D h0 m_now m_draft m_past j_acts m_images m_kept m_tape j_taped j_at j_start j_token j_value j_fault j_place j_latest m_low m_high m_first m_second m_lines m_others j_shiftFirst j_shiftMany j_shiftLow j_shiftHigh kI g_now g_past H.size hN1 (by first | decide | omega) (by first | decide | omega) hPb hg_now) (cwV 0 hts g_X10_alter_X10_notes rfl rfl rfl (by decide +kernel) ⟨Nat.le_of_ble_eq_true rfl, Nat.le_of_ble_eq_true rfl⟩) ⟨fun a U g mk q => by obtain ⟨q0, q1, qP, qK, qD⟩ := q; exact ⟨q0, q1, qP, va_K.moved (u := U) (U := U.calling g mk a) (Vm.Alike.refl U.vm) qK, qD⟩, va_recv hKc hPc (ci := 10) (q0 := 0) rfl rfl, fun U hU hW => ⟨rfl, by rw [hU], by rw [hU]; exact hPc, va_K.moved hW.alike hKc, hDc.weaken (fun _ _ _ _ => trivial)⟩⟩ rfl rfl hl.1 rfl (lv_room (Nat.le_of_ble_eq_true rfl)) dX10_alter_132 ⟨Nat.le_of_ble_eq_true rfl, Nat.le_of_ble_eq_true rfl⟩) hS (fun q _ h => hFc q h) hFc (fun u t H1 locs ht hvm hw hB hz1 hk1 hS => ?_)
            obtain ⟨y45, y46, hP1, hK1, hD1, px0_r44, px1_r44⟩ := hB
            rw [ht] at hP1
            have hK1 := va_K.moved hvm.symm hK1
            obtain ⟨hP, hD⟩ := va_join (wr := []) (w1 := [(h0, .inr (10, [.ref m_now, .ref m_draft, .ref m_past, .int y45, .ref m_images, .ref m_kept, .ref m_tape, .int j_taped, .int j_at, .int j_start, .int j_token, .int j_value, .int j_fault, .int j_place, .int j_latest, .ref m_low, .ref m_high, .ref m_first, .ref m_second, .ref m_lines, .ref m_others, .int j_shiftFirst, .int j_shiftMany, .int j_shiftLow, .int j_shiftHigh])), (m_now, .inl (kI, 192, .inl g_now)), (m_past, .inl (kI, 1920, .inl y46))]) hP hD [0, 1, 2] [] rfl rfl (by decide) (by decide) hk1 hFc hP1 hD1
            have hK := (hK.sub (tys' := [(kI, .int)]) [0] rfl).app hK1
            generalize H1 = H at hP hS ⊢
            have hP : va_P D vwCl [(h0, .inr (10, [.ref m_now, .ref m_draft, .ref m_past, .int y45, .ref m_images, .ref m_kept, .ref m_tape, .int j_taped, .int j_at, .int j_start, .int j_token, .int j_value, .int j_fault, .int j_place, .int j_latest, .ref m_low, .ref m_high, .ref m_first, .ref m_second, .ref m_lines, .ref m_others, .int j_shiftFirst, .int j_shiftMany, .int j_shiftLow, .int j_shiftHigh])), (m_now, .inl (kI, 192, .inl g_now)), (m_past, .inl (kI, 1920, .inl y46))] H := hP
            have hD : va_D A [(h0, .inr (10, [.ref m_now, .ref m_draft, .ref m_past, .int y45, .ref m_images, .ref m_kept, .ref m_tape, .int j_taped, .int j_at, .int j_start, .int j_token, .int j_value, .int j_fault, .int j_place, .int j_latest, .ref m_low, .ref m_high, .ref m_first, .ref m_second, .ref m_lines, .ref m_others, .int j_shiftFirst, .int j_shiftMany, .int j_shiftLow, .int j_shiftHigh])), (m_now, .inl (kI, 192, .inl g_now)), (m_past, .inl (kI, 1920, .inl y46))] := hD
            have hK : va_K D vwCl [(kI, .int), (kI, .int)] s := hK
            refine W.widen (k := 0) (n := 0) (Nat.le_of_ble_eq_true rfl) (Nat.le_of_ble_eq_true rfl) ?_
            refine lv_aload_n hx hb dX10_alter_135 rfl (lv_at hl 4 rfl) ?_
            refine va_get (D := D) (ci := 10) (v := .ref m_now) (C := RX10) (T := TX10) (N := 25) hx hb hts (fun _ h => List.mem_cons_of_mem _ (List.mem_append_right _ h)) hown hK hP 0 rfl rfl 0 (by decide) (hts (.fieldLink RX10 7 "LineCitesModel" "now" "[I") (List.mem_of_getElem? (i := 14) rfl)) (fun _ h9 => h9) rfl dX10_alter_136 ?_
            refine lv_iload_n hx hb dX10_alter_139 rfl (lv_at hl 5 rfl) ?_
            refine lv_iload_n hx hb dX10_alter_140 rfl (lv_at hl 6 rfl) ?_
            refine lv_iload_n hx hb dX10_alter_141 rfl (lv_at hl 7 rfl) ?_
            have hPc := hP.sub (ws' := [(m_now, .inl (kI, 192, .inl g_now))]) [1] rfl
            have hKc := hK.sub (tys' := [(kI, .int)]) [0] rfl
            refine va_calli (va_runS (As := [.ref m_now, .int i_0, .int i_1, .int i_2]) (rest := []) ⟨hx, hb, hml, hown, hts⟩ (c_X10_of l D m_now i_0 i_1 i_2 kI g_now i_0.toInt.toNat i_1.toInt.toNat i_2.toInt.toNat (by first | decide | omega) (by first | decide | omega) (by first | decide | omega) (by first | decide | omega) (by first | decide | omega) (by first | decide | omega) (by first | omega | decide | (have hz0 : (0 : Int32).toInt = 0 := (by decide); omega)) (by first | omega | decide | (have hz0 : (0 : Int32).toInt = 0 := (by decide); omega)) (by first | omega | decide | (have hz0 : (0 : Int32).toInt = 0 := (by decide); omega))) (cwS 4 hts g_X10_alter_X10_of rfl rfl rfl (by decide +kernel) ⟨Nat.le_of_ble_eq_true rfl, Nat.le_of_ble_eq_true rfl⟩) ⟨fun a U g mk q => by obtain ⟨q0, qP, qK⟩ := q; exact ⟨q0, qP, va_K.moved (u := U) (U := U.calling g mk a) (Vm.Alike.refl U.vm) qK⟩, fun U hU hW => ⟨rfl, by rw [hU]; exact hPc, va_K.moved hW.alike hKc⟩⟩ rfl rfl hl.1 rfl (lv_room (Nat.le_of_ble_eq_true rfl)) dX10_alter_142 ⟨Nat.le_of_ble_eq_true rfl, Nat.le_of_ble_eq_true rfl⟩) hS (fun _ _ h => h.elim) (fun _ h => h.elim) (fun r47 u t H1 locs ht hvm hw hB hz1 hk1 hS => ?_)
            have hP := pw_keep hP (fun q hq => hk1 q hq (fun h => h))
            generalize H1 = H at hP hS ⊢
            refine W.widen (k := 0) (n := 0) (Nat.le_of_ble_eq_true rfl) (Nat.le_of_ble_eq_true rfl) ?_
            have hfr47 := hw
            refine lv_istore (lv' := [(9, .int r47), (8, .int r41), (7, .int r39), (6, .int i_3), (5, .int r6), (0, .ref h0), (1, .int i_0), (2, .int i_1), (3, .int i_2), (4, .int i_3)]) hx hb dX10_alter_145 hl (by decide) rfl (fun ls hl => ?_)
            refine lv_aload_n hx hb dX10_alter_147 rfl (lv_at hl 5 rfl) ?_
            refine va_get (D := D) (ci := 10) (v := .ref m_now) (C := RX10) (T := TX10) (N := 25) hx hb hts (fun _ h => List.mem_cons_of_mem _ (List.mem_append_right _ h)) hown hK hP 0 rfl rfl 0 (by decide) (hts (.fieldLink RX10 7 "LineCitesModel" "now" "[I") (List.mem_of_getElem? (i := 14) rfl)) (fun _ h9 => h9) rfl dX10_alter_148 ?_
            refine lv_bipush (v := 8) hx hb dX10_alter_151 (by decide) ?_
            refine lv_bipush (v := 24) hx hb dX10_alter_153 (by decide) ?_
            refine lv_iload_n hx hb dX10_alter_155 rfl (lv_at hl 6 rfl) ?_
            refine lv_imul hx hb dX10_alter_156 ?_
            refine lv_topi (fun x48 ex48 => ?_)
            have tx48 : x48.toInt = 24 * i_0.toInt := pw_mulX ex48 (by decide) rfl (by omega) (by omega)
            refine lv_iadd hx hb dX10_alter_157 ?_
            refine lv_topi (fun x49 ex49 => ?_)
            have tx49 : x49.toInt = 8 + x48.toInt := pw_addX ex49 (by decide) rfl (by omega) (by omega)
            refine lv_iconst (v := 4) hx hb dX10_alter_158 (by decide) ?_
            refine lv_iload_n hx hb dX10_alter_159 rfl (lv_at hl 7 rfl) ?_
            refine lv_imul hx hb dX10_alter_160 ?_
            refine lv_topi (fun x50 ex50 => ?_)
            have tx50 : x50.toInt = 4 * i_1.toInt := pw_mulX ex50 (by decide) rfl (by omega) (by omega)
            refine lv_iadd hx hb dX10_alter_161 ?_
            refine lv_topi (fun x51 ex51 => ?_)
            have tx51 : x51.toInt = x49.toInt + x50.toInt := pw_addX ex51 rfl rfl (by omega) (by omega)
            refine lv_iload_n hx hb dX10_alter_162 rfl (lv_at hl 8 rfl) ?_
            refine lv_iadd hx hb dX10_alter_163 ?_
            refine lv_topi (fun x52 ex52 => ?_)
            have tx52 : x52.toInt = x51.toInt + i_2.toInt := pw_addX ex52 rfl rfl (by omega) (by omega)
            refine lv_iload hx hb dX10_alter_164 (lv_at hl 9 rfl) ?_
            refine va_iast hx hb hK hP hD hS 1 0 rfl rfl (vp_in_iff.mpr ⟨by omega, by omega⟩) dX10_alter_166 (fun H locs hP hD hS => ?_)
            obtain ⟨g53, eg53⟩ : ∃ g : Nat → Int32, g = upd g_now (x52 : Int32).toNatClampNeg i_3 := ⟨_, rfl⟩
            have hP : va_P D vwCl [(h0, .inr (10, [.ref m_now, .ref m_draft, .ref m_past, .int y45, .ref m_images, .ref m_kept, .ref m_tape, .int j_taped, .int j_at, .int j_start, .int j_token, .int j_value, .int j_fault, .int j_place, .int j_latest, .ref m_low, .ref m_high, .ref m_first, .ref m_second, .ref m_lines, .ref m_others, .int j_shiftFirst, .int j_shiftMany, .int j_shiftLow, .int j_shiftHigh])), (m_now, .inl (kI, 192, .inl (upd g_now (x52 : Int32).toNatClampNeg i_3))), (m_past, .inl (kI, 1920, .inl y46))] H := hP
            have hD : va_D A [(h0, .inr (10, [.ref m_now, .ref m_draft, .ref m_past, .int y45, .ref m_images, .ref m_kept, .ref m_tape, .int j_taped, .int j_at, .int j_start, .int j_token, .int j_value, .int j_fault, .int j_place, .int j_latest, .ref m_low, .ref m_high, .ref m_first, .ref m_second, .ref m_lines, .ref m_others, .int j_shiftFirst, .int j_shiftMany, .int j_shiftLow, .int j_shiftHigh])), (m_now, .inl (kI, 192, .inl (upd g_now (x52 : Int32).toNatClampNeg i_3))), (m_past, .inl (kI, 1920, .inl y46))] := hD
            have hK : va_K D vwCl [(kI, .int), (kI, .int)] s := hK
            rw [← eg53] at hP hD
            refine lv_iload hx hb dX10_alter_167 (lv_at hl 0 rfl) ?_
            have hgd := gV_al (e := i_0.toInt.toNat) (s := i_1.toInt.toNat) (w := 1) hg_now (by omega) (by omega) (by decide) (by omega) eg53 hvS (by rw [if_neg (by decide)]; exact hfr6) (by rw [if_pos rfl]) (by rw [if_neg (by decide)]; exact hfr39) (by rw [if_neg (by decide)]; exact hfr41)
            have hg53 := hgd.1
            have hz0 := hgd.2
            have hP9 := hP.sub (ws' := [(h0, .inr (10, [.ref m_now, .ref m_draft, .ref m_past, .int y45, .ref m_images, .ref m_kept, .ref m_tape, .int j_taped, .int j_at, .int j_start, .int j_token, .int j_value, .int j_fault, .int j_place, .int j_latest, .ref m_low, .ref m_high, .ref m_first, .ref m_second, .ref m_lines, .ref m_others, .int j_shiftFirst, .int j_shiftMany, .int j_shiftLow, .int j_shiftHigh])), (m_now, .inl (kI, 192, .inl g53)), (m_past, .inl (kI, 1920, .inl y46))]) [0, 1, 2] rfl
            have hD9 := hD.sub (ws' := [(h0, .inr (10, [.ref m_now, .ref m_draft, .ref m_past, .int y45, .ref m_images, .ref m_kept, .ref m_tape, .int j_taped, .int j_at, .int j_start, .int j_token, .int j_value, .int j_fault, .int j_place, .int j_latest, .ref m_low, .ref m_high, .ref m_first, .ref m_second, .ref m_lines, .ref m_others, .int j_shiftFirst, .int j_shiftMany, .int j_shiftLow, .int j_shiftHigh])), (m_now, .inl (kI, 192, .inl g53)), (m_past, .inl (kI, 1920, .inl y46))]) [0, 1, 2] (by decide) rfl
            have hK9 := hK.sub (tys' := [(kI, .int)]) [0] rfl
            refine W.widen (k := 0) (n := 0) (Nat.le_of_ble_eq_true rfl) (Nat.le_of_ble_eq_true rfl) ?_
            exact W.iret (v := r47) hx hb hr (fun t ht hW => ⟨⟨r47, (), rfl, trivial, y45, g53, y46, by rw [ht]; exact hP9, va_K.moved hW.alike hK9, hD9, hg53, (by rw [hz0]; exact hN1), px0_r44, px1_r44⟩, hS.F ht⟩) hS.2.2 dX10_alter_169
          · have nc43 : r42.toInt = 0 := pw_eq c43 rfl (by decide)
            refine lv_ldc hx hb hown (hts (.constant RX10 177 (-1000001)) (List.mem_of_getElem? (i := 18) rfl)) dX10_alter_128 ?_
            have hP9 := hP.sub (ws' := [(h0, .inr (10, [.ref m_now, .ref m_draft, .ref m_past, .int j_acts, .ref m_images, .ref m_kept, .ref m_tape, .int j_taped, .int j_at, .int j_start, .int j_token, .int j_value, .int j_fault, .int j_place, .int j_latest, .ref m_low, .ref m_high, .ref m_first, .ref m_second, .ref m_lines, .ref m_others, .int j_shiftFirst, .int j_shiftMany, .int j_shiftLow, .int j_shiftHigh])), (m_now, .inl (kI, 192, .inl g_now)), (m_past, .inl (kI, 1920, .inl g_past))]) [0, 1, 2] rfl
            have hD9 := hD.sub (ws' := [(h0, .inr (10, [.ref m_now, .ref m_draft, .ref m_past, .int j_acts, .ref m_images, .ref m_kept, .ref m_tape, .int j_taped, .int j_at, .int j_start, .int j_token, .int j_value, .int j_fault, .int j_place, .int j_latest, .ref m_low, .ref m_high, .ref m_first, .ref m_second, .ref m_lines, .ref m_others, .int j_shiftFirst, .int j_shiftMany, .int j_shiftLow, .int j_shiftHigh])), (m_now, .inl (kI, 192, .inl g_now)), (m_past, .inl (kI, 1920, .inl g_past))]) [0, 1, 2] (by decide) rfl
            have hK9 := hK.sub (tys' := [(kI, .int)]) [0] rfl
            refine W.widen (k := 0) (n := 0) (Nat.le_of_ble_eq_true rfl) (Nat.le_of_ble_eq_true rfl) ?_
            exact W.iret (v := (-1000001)) hx hb hr (fun t ht hW => ⟨⟨(-1000001), (), rfl, trivial, j_acts, g_now, g_past, by rw [ht]; exact hP9, va_K.moved hW.alike hK9, hD9, hg_now, hN1, (by omega), hPb⟩, hS.F ht⟩) hS.2.2 dX10_alter_130
      · have nc5 : i_2.toInt = 0 := pw_eq c5 rfl (by decide)
        refine lv_iload hx hb dX10_alter_28 (lv_at hl 4 rfl) ?_
        refine lv_goto (tgt := 43) hx hb dX10_alter_30 (by decide) ?_
        refine lv_istore (lv' := [(5, .int i_3), (0, .ref h0), (1, .int i_0), (2, .int i_1), (3, .int i_2), (4, .int i_3)]) hx hb dX10_alter_43 hl (by decide) rfl (fun ls hl => ?_)
        refine lv_iload_n hx hb dX10_alter_45 rfl (lv_at hl 4 rfl) ?_
        refine lv_iconst (v := 1) hx hb dX10_alter_46 (by decide) ?_
        refine lv_icmp_ne (tgt := 55) hx hb dX10_alter_47 (by decide) (fun c54 => ?_) (fun c54 => False.elim (by have nn : i_2.toInt = 1 := pw_eq c54 rfl (by decide); omega))
        have nc54 : i_2.toInt ≠ 1 := pw_ne c54 rfl (by decide)
        refine lv_aload_n hx hb dX10_alter_55 rfl (lv_at hl 1 rfl) ?_
        refine va_get (D := D) (ci := 10) (v := .ref m_now) (C := RX10) (T := TX10) (N := 25) hx hb hts (fun _ h => List.mem_cons_of_mem _ (List.mem_append_right _ h)) hown hK hP 0 rfl rfl 0 (by decide) (hts (.fieldLink RX10 7 "LineCitesModel" "now" "[I") (List.mem_of_getElem? (i := 14) rfl)) (fun _ h9 => h9) rfl dX10_alter_56 ?_
        refine lv_iload_n hx hb dX10_alter_59 rfl (lv_at hl 2 rfl) ?_
        refine lv_iload_n hx hb dX10_alter_60 rfl (lv_at hl 3 rfl) ?_
        refine lv_iconst (v := 1) hx hb dX10_alter_61 (by decide) ?_
        have kk1 : (1 : Int32).toInt = 1 := by decide
        have hPc := hP.sub (ws' := [(m_now, .inl (kI, 192, .inl g_now))]) [1] rfl
        have hKc := hK.sub (tys' := [(kI, .int)]) [0] rfl
        refine va_calli (va_runS (As := [.ref m_now, .int i_0, .int i_1, .int 1]) (rest := []) ⟨hx, hb, hml, hown, hts⟩ (c_X10_of l D m_now i_0 i_1 1 kI g_now i_0.toInt.toNat i_1.toInt.toNat 1 (by first | decide | omega) (by first | decide | omega) (by first | decide | omega) (by first | decide | omega) (by first | decide | omega) (by first | decide | omega) (by first | omega | decide | (have hz0 : (0 : Int32).toInt = 0 := (by decide); omega)) (by first | omega | decide | (have hz0 : (0 : Int32).toInt = 0 := (by decide); omega)) (by first | omega | decide | (have hz0 : (0 : Int32).toInt = 0 := (by decide); omega))) (cwS 4 hts g_X10_alter_X10_of rfl rfl rfl (by decide +kernel) ⟨Nat.le_of_ble_eq_true rfl, Nat.le_of_ble_eq_true rfl⟩) ⟨fun a U g mk q => by obtain ⟨q0, qP, qK⟩ := q; exact ⟨q0, qP, va_K.moved (u := U) (U := U.calling g mk a) (Vm.Alike.refl U.vm) qK⟩, fun U hU hW => ⟨rfl, by rw [hU]; exact hPc, va_K.moved hW.alike hKc⟩⟩ rfl rfl hl.1 rfl (lv_room (Nat.le_of_ble_eq_true rfl)) dX10_alter_62 ⟨Nat.le_of_ble_eq_true rfl, Nat.le_of_ble_eq_true rfl⟩) hS (fun _ _ h => h.elim) (fun _ h => h.elim) (fun r55 u t H1 locs ht hvm hw hB hz1 hk1 hS => ?_)
        have hP := pw_keep hP (fun q hq => hk1 q hq (fun h => h))
        generalize H1 = H at hP hS ⊢
        refine W.widen (k := 0) (n := 0) (Nat.le_of_ble_eq_true rfl) (Nat.le_of_ble_eq_true rfl) ?_
        have hfr55 := hw
        refine lv_istore (lv' := [(6, .int r55), (5, .int i_3), (0, .ref h0), (1, .int i_0), (2, .int i_1), (3, .int i_2), (4, .int i_3)]) hx hb dX10_alter_65 hl (by decide) rfl (fun ls hl => ?_)
        refine lv_iload_n hx hb dX10_alter_67 rfl (lv_at hl 5 rfl) ?_
        refine lv_iconst (v := 2) hx hb dX10_alter_68 (by decide) ?_
        refine lv_icmp_ne (tgt := 77) hx hb dX10_alter_69 (by decide) (fun c56 => ?_) (fun c56 => False.elim (by have nn : i_2.toInt = 2 := pw_eq c56 rfl (by decide); omega))
        have nc56 : i_2.toInt ≠ 2 := pw_ne c56 rfl (by decide)
        refine lv_aload_n hx hb dX10_alter_77 rfl (lv_at hl 2 rfl) ?_
        refine va_get (D := D) (ci := 10) (v := .ref m_now) (C := RX10) (T := TX10) (N := 25) hx hb hts (fun _ h => List.mem_cons_of_mem _ (List.mem_append_right _ h)) hown hK hP 0 rfl rfl 0 (by decide) (hts (.fieldLink RX10 7 "LineCitesModel" "now" "[I") (List.mem_of_getElem? (i := 14) rfl)) (fun _ h9 => h9) rfl dX10_alter_78 ?_
        refine lv_iload_n hx hb dX10_alter_81 rfl (lv_at hl 3 rfl) ?_
        refine lv_iload_n hx hb dX10_alter_82 rfl (lv_at hl 4 rfl) ?_
        refine lv_iconst (v := 2) hx hb dX10_alter_83 (by decide) ?_
        have kk2 : (2 : Int32).toInt = 2 := by decide
        have hPc := hP.sub (ws' := [(m_now, .inl (kI, 192, .inl g_now))]) [1] rfl
        have hKc := hK.sub (tys' := [(kI, .int)]) [0] rfl
        refine va_calli (va_runS (As := [.ref m_now, .int i_0, .int i_1, .int 2]) (rest := []) ⟨hx, hb, hml, hown, hts⟩ (c_X10_of l D m_now i_0 i_1 2 kI g_now i_0.toInt.toNat i_1.toInt.toNat 2 (by first | decide | omega) (by first | decide | omega) (by first | decide | omega) (by first | decide | omega) (by first | decide | omega) (by first | decide | omega) (by first | omega | decide | (have hz0 : (0 : Int32).toInt = 0 := (by decide); omega)) (by first | omega | decide | (have hz0 : (0 : Int32).toInt = 0 := (by decide); omega)) (by first | omega | decide | (have hz0 : (0 : Int32).toInt = 0 := (by decide); omega))) (cwS 4 hts g_X10_alter_X10_of rfl rfl rfl (by decide +kernel) ⟨Nat.le_of_ble_eq_true rfl, Nat.le_of_ble_eq_true rfl⟩) ⟨fun a U g mk q => by obtain ⟨q0, qP, qK⟩ := q; exact ⟨q0, qP, va_K.moved (u := U) (U := U.calling g mk a) (Vm.Alike.refl U.vm) qK⟩, fun U hU hW => ⟨rfl, by rw [hU]; exact hPc, va_K.moved hW.alike hKc⟩⟩ rfl rfl hl.1 rfl (lv_room (Nat.le_of_ble_eq_true rfl)) dX10_alter_84 ⟨Nat.le_of_ble_eq_true rfl, Nat.le_of_ble_eq_true rfl⟩) hS (fun _ _ h => h.elim) (fun _ h => h.elim) (fun r57 u t H1 locs ht hvm hw hB hz1 hk1 hS => ?_)
        have hP := pw_keep hP (fun q hq => hk1 q hq (fun h => h))
        generalize H1 = H at hP hS ⊢
        refine W.widen (k := 0) (n := 0) (Nat.le_of_ble_eq_true rfl) (Nat.le_of_ble_eq_true rfl) ?_
        have hfr57 := hw
        refine lv_istore (lv' := [(7, .int r57), (6, .int r55), (5, .int i_3), (0, .ref h0), (1, .int i_0), (2, .int i_1), (3, .int i_2), (4, .int i_3)]) hx hb dX10_alter_87 hl (by decide) rfl (fun ls hl => ?_)
        refine lv_iload_n hx hb dX10_alter_89 rfl (lv_at hl 6 rfl) ?_
        refine lv_iconst (v := 3) hx hb dX10_alter_90 (by decide) ?_
        refine lv_icmp_ne (tgt := 99) hx hb dX10_alter_91 (by decide) (fun c58 => ?_) (fun c58 => False.elim (by have nn : i_2.toInt = 3 := pw_eq c58 rfl (by decide); omega))
        have nc58 : i_2.toInt ≠ 3 := pw_ne c58 rfl (by decide)
        refine lv_aload_n hx hb dX10_alter_99 rfl (lv_at hl 3 rfl) ?_
        refine va_get (D := D) (ci := 10) (v := .ref m_now) (C := RX10) (T := TX10) (N := 25) hx hb hts (fun _ h => List.mem_cons_of_mem _ (List.mem_append_right _ h)) hown hK hP 0 rfl rfl 0 (by decide) (hts (.fieldLink RX10 7 "LineCitesModel" "now" "[I") (List.mem_of_getElem? (i := 14) rfl)) (fun _ h9 => h9) rfl dX10_alter_100 ?_
        refine lv_iload_n hx hb dX10_alter_103 rfl (lv_at hl 4 rfl) ?_
        refine lv_iload_n hx hb dX10_alter_104 rfl (lv_at hl 5 rfl) ?_
        refine lv_iconst (v := 3) hx hb dX10_alter_105 (by decide) ?_
        have kk3 : (3 : Int32).toInt = 3 := by decide
        have hPc := hP.sub (ws' := [(m_now, .inl (kI, 192, .inl g_now))]) [1] rfl
        have hKc := hK.sub (tys' := [(kI, .int)]) [0] rfl
        refine va_calli (va_runS (As := [.ref m_now, .int i_0, .int i_1, .int 3]) (rest := []) ⟨hx, hb, hml, hown, hts⟩ (c_X10_of l D m_now i_0 i_1 3 kI g_now i_0.toInt.toNat i_1.toInt.toNat 3 (by first | decide | omega) (by first | decide | omega) (by first | decide | omega) (by first | decide | omega) (by first | decide | omega) (by first | decide | omega) (by first | omega | decide | (have hz0 : (0 : Int32).toInt = 0 := (by decide); omega)) (by first | omega | decide | (have hz0 : (0 : Int32).toInt = 0 := (by decide); omega)) (by first | omega | decide | (have hz0 : (0 : Int32).toInt = 0 := (by decide); omega))) (cwS 4 hts g_X10_alter_X10_of rfl rfl rfl (by decide +kernel) ⟨Nat.le_of_ble_eq_true rfl, Nat.le_of_ble_eq_true rfl⟩) ⟨fun a U g mk q => by obtain ⟨q0, qP, qK⟩ := q; exact ⟨q0, qP, va_K.moved (u := U) (U := U.calling g mk a) (Vm.Alike.refl U.vm) qK⟩, fun U hU hW => ⟨rfl, by rw [hU]; exact hPc, va_K.moved hW.alike hKc⟩⟩ rfl rfl hl.1 rfl (lv_room (Nat.le_of_ble_eq_true rfl)) dX10_alter_106 ⟨Nat.le_of_ble_eq_true rfl, Nat.le_of_ble_eq_true rfl⟩) hS (fun _ _ h => h.elim) (fun _ h => h.elim) (fun r59 u t H1 locs ht hvm hw hB hz1 hk1 hS => ?_)
        have hP := pw_keep hP (fun q hq => hk1 q hq (fun h => h))
        generalize H1 = H at hP hS ⊢
        refine W.widen (k := 0) (n := 0) (Nat.le_of_ble_eq_true rfl) (Nat.le_of_ble_eq_true rfl) ?_
        have hfr59 := hw
        refine lv_istore (lv' := [(8, .int r59), (7, .int r57), (6, .int r55), (5, .int i_3), (0, .ref h0), (1, .int i_0), (2, .int i_1), (3, .int i_2), (4, .int i_3)]) hx hb dX10_alter_109 hl (by decide) rfl (fun ls hl => ?_)
        refine lv_aload_n hx hb dX10_alter_111 rfl (lv_at hl 4 rfl) ?_
        refine lv_iload_n hx hb dX10_alter_112 rfl (lv_at hl 5 rfl) ?_
        refine lv_iload hx hb dX10_alter_113 (lv_at hl 3 rfl) ?_
        refine lv_iload hx hb dX10_alter_115 (lv_at hl 2 rfl) ?_
        refine lv_iload hx hb dX10_alter_117 (lv_at hl 1 rfl) ?_
        refine lv_iload hx hb dX10_alter_119 (lv_at hl 0 rfl) ?_
        refine lv_iload_n hx hb dX10_alter_121 rfl (lv_at hl 6 rfl) ?_
        have hPc := hP.sub (ws' := [(h0, .inr (10, [.ref m_now, .ref m_draft, .ref m_past, .int j_acts, .ref m_images, .ref m_kept, .ref m_tape, .int j_taped, .int j_at, .int j_start, .int j_token, .int j_value, .int j_fault, .int j_place, .int j_latest, .ref m_low, .ref m_high, .ref m_first, .ref m_second, .ref m_lines, .ref m_others, .int j_shiftFirst, .int j_shiftMany, .int j_shiftLow, .int j_shiftHigh])), (m_now, .inl (kI, 192, .inl g_now))]) [0, 1] rfl
        have hKc := hK.sub (tys' := [(kI, .int)]) [0] rfl
        refine va_calli (va_runV (As := [.int i_0, .int i_3, .int r55, .int r57, .int r59, .int i_1]) (rest := []) ⟨hx, hb, hml, hown, hts⟩ (c_X10_isGood l D h0 i_0 i_3 r55 r57 r59 i_1 m_now m_draft m_past j_acts m_images m_kept m_tape j_taped j_at j_start j_token j_value j_fault j_place j_latest m_low m_high m_first m_second m_lines m_others j_shiftFirst j_shiftMany j_shiftLow j_shiftHigh kI g_now (by first | decide | omega) (by first | decide | omega) hg_now) (cwV 6 hts g_X10_alter_X10_isGood rfl rfl rfl (by decide +kernel) ⟨Nat.le_of_ble_eq_true rfl, Nat.le_of_ble_eq_true rfl⟩) ⟨fun a U g mk q => by obtain ⟨q0, qP, qK⟩ := q; exact ⟨q0, qP, va_K.moved (u := U) (U := U.calling g mk a) (Vm.Alike.refl U.vm) qK⟩, va_recv hKc hPc (ci := 10) (q0 := 0) rfl rfl, fun U hU hW => ⟨rfl, by rw [hU]; exact hPc, va_K.moved hW.alike hKc⟩⟩ rfl rfl hl.1 rfl (lv_room (Nat.le_of_ble_eq_true rfl)) dX10_alter_122 ⟨Nat.le_of_ble_eq_true rfl, Nat.le_of_ble_eq_true rfl⟩) hS (fun _ _ h => h.elim) (fun _ h => h.elim) (fun r60 u t H1 locs ht hvm hw hB hz1 hk1 hS => ?_)
        have hP := pw_keep hP (fun q hq => hk1 q hq (fun h => h))
        generalize H1 = H at hP hS ⊢
        refine W.widen (k := 0) (n := 0) (Nat.le_of_ble_eq_true rfl) (Nat.le_of_ble_eq_true rfl) ?_
        have bor60 := hw.1
        have zor60 := pw_boolI bor60
        have hfr60 := hw.2
        refine lv_if_ne (tgt := 131) hx hb dX10_alter_125 (by decide) (fun c61 => ?_) (fun c61 => ?_)
        · have nc61 : r60.toInt ≠ 0 := pw_ne c61 rfl (by decide)
          have hvS : vS i_3.toInt r55.toInt r57.toInt r59.toInt := by
            rcases hfr60 with q | q
            · omega
            · exact q.2
          refine lv_aload_n hx hb dX10_alter_131 rfl (lv_at hl 4 rfl) ?_
          have hPc := hP.sub (ws' := [(h0, .inr (10, [.ref m_now, .ref m_draft, .ref m_past, .int j_acts, .ref m_images, .ref m_kept, .ref m_tape, .int j_taped, .int j_at, .int j_start, .int j_token, .int j_value, .int j_fault, .int j_place, .int j_latest, .ref m_low, .ref m_high, .ref m_first, .ref m_second, .ref m_lines, .ref m_others, .int j_shiftFirst, .int j_shiftMany, .int j_shiftLow, .int j_shiftHigh])), (m_now, .inl (kI, 192, .inl g_now)), (m_past, .inl (kI, 1920, .inl g_past))]) [0, 1, 2] rfl
          have hKc := hK.sub (tys' := [(kI, .int)]) [0] rfl
          have hDc := hD.sub (ws' := [(h0, .inr (10, [.ref m_now, .ref m_draft, .ref m_past, .int j_acts, .ref m_images, .ref m_kept, .ref m_tape, .int j_taped, .int j_at, .int j_start, .int j_token, .int j_value, .int j_fault, .int j_place, .int j_latest, .ref m_low, .ref m_high, .ref m_first, .ref m_second, .ref m_lines, .ref m_others, .int j_shiftFirst, .int j_shiftMany, .int j_shiftLow, .int j_shiftHigh])), (m_now, .inl (kI, 192, .inl g_now)), (m_past, .inl (kI, 1920, .inl g_past))]) [0, 1, 2] (by decide) rfl
          have hFc := va_free (wc := [(h0, .inr (10, [.ref m_now, .ref m_draft, .ref m_past, .int j_acts, .ref m_images, .ref m_kept, .ref m_tape, .int j_taped, .int j_at, .int j_start, .int j_token, .int j_value, .int j_fault, .int j_place, .int j_latest, .ref m_low, .ref m_high, .ref m_first, .ref m_second, .ref m_lines, .ref m_others, .int j_shiftFirst, .int j_shiftMany, .int j_shiftLow, .int j_shiftHigh])), (m_now, .inl (kI, 192, .inl g_now)), (m_past, .inl (kI, 1920, .inl g_past))]) hD hS hA [0, 1, 2] rfl
          refine va_callv (va_runV (As := []) (rest := []) ⟨hx, hb, hml, hown, hts⟩ (c_X10_notes l D h0 m_now m_draft m_past j_acts m_images m_kept m_tape j_taped j_at j_start j_token j_value j_fault j_place j_latest m_low m_high m_first m_second m_lines m_others j_shiftFirst j_shiftMany j_shiftLow j_shiftHigh kI g_now g_past H.size hN1 (by first | decide | omega) (by first | decide | omega) hPb hg_now) (cwV 0 hts g_X10_alter_X10_notes rfl rfl rfl (by decide +kernel) ⟨Nat.le_of_ble_eq_true rfl, Nat.le_of_ble_eq_true rfl⟩) ⟨fun a U g mk q => by obtain ⟨q0, q1, qP, qK, qD⟩ := q; exact ⟨q0, q1, qP, va_K.moved (u := U) (U := U.calling g mk a) (Vm.Alike.refl U.vm) qK, qD⟩, va_recv hKc hPc (ci := 10) (q0 := 0) rfl rfl, fun U hU hW => ⟨rfl, by rw [hU], by rw [hU]; exact hPc, va_K.moved hW.alike hKc, hDc.weaken (fun _ _ _ _ => trivial)⟩⟩ rfl rfl hl.1 rfl (lv_room (Nat.le_of_ble_eq_true rfl)) dX10_alter_132 ⟨Nat.le_of_ble_eq_true rfl, Nat.le_of_ble_eq_true rfl⟩) hS (fun q _ h => hFc q h) hFc (fun u t H1 locs ht hvm hw hB hz1 hk1 hS => ?_)
          obtain ⟨y63, y64, hP1, hK1, hD1, px0_r62, px1_r62⟩ := hB
          rw [ht] at hP1
          have hK1 := va_K.moved hvm.symm hK1
          obtain ⟨hP, hD⟩ := va_join (wr := []) (w1 := [(h0, .inr (10, [.ref m_now, .ref m_draft, .ref m_past, .int y63, .ref m_images, .ref m_kept, .ref m_tape, .int j_taped, .int j_at, .int j_start, .int j_token, .int j_value, .int j_fault, .int j_place, .int j_latest, .ref m_low, .ref m_high, .ref m_first, .ref m_second, .ref m_lines, .ref m_others, .int j_shiftFirst, .int j_shiftMany, .int j_shiftLow, .int j_shiftHigh])), (m_now, .inl (kI, 192, .inl g_now)), (m_past, .inl (kI, 1920, .inl y64))]) hP hD [0, 1, 2] [] rfl rfl (by decide) (by decide) hk1 hFc hP1 hD1
          have hK := (hK.sub (tys' := [(kI, .int)]) [0] rfl).app hK1
          generalize H1 = H at hP hS ⊢
          have hP : va_P D vwCl [(h0, .inr (10, [.ref m_now, .ref m_draft, .ref m_past, .int y63, .ref m_images, .ref m_kept, .ref m_tape, .int j_taped, .int j_at, .int j_start, .int j_token, .int j_value, .int j_fault, .int j_place, .int j_latest, .ref m_low, .ref m_high, .ref m_first, .ref m_second, .ref m_lines, .ref m_others, .int j_shiftFirst, .int j_shiftMany, .int j_shiftLow, .int j_shiftHigh])), (m_now, .inl (kI, 192, .inl g_now)), (m_past, .inl (kI, 1920, .inl y64))] H := hP
          have hD : va_D A [(h0, .inr (10, [.ref m_now, .ref m_draft, .ref m_past, .int y63, .ref m_images, .ref m_kept, .ref m_tape, .int j_taped, .int j_at, .int j_start, .int j_token, .int j_value, .int j_fault, .int j_place, .int j_latest, .ref m_low, .ref m_high, .ref m_first, .ref m_second, .ref m_lines, .ref m_others, .int j_shiftFirst, .int j_shiftMany, .int j_shiftLow, .int j_shiftHigh])), (m_now, .inl (kI, 192, .inl g_now)), (m_past, .inl (kI, 1920, .inl y64))] := hD
          have hK : va_K D vwCl [(kI, .int), (kI, .int)] s := hK
          refine W.widen (k := 0) (n := 0) (Nat.le_of_ble_eq_true rfl) (Nat.le_of_ble_eq_true rfl) ?_
          refine lv_aload_n hx hb dX10_alter_135 rfl (lv_at hl 4 rfl) ?_
          refine va_get (D := D) (ci := 10) (v := .ref m_now) (C := RX10) (T := TX10) (N := 25) hx hb hts (fun _ h => List.mem_cons_of_mem _ (List.mem_append_right _ h)) hown hK hP 0 rfl rfl 0 (by decide) (hts (.fieldLink RX10 7 "LineCitesModel" "now" "[I") (List.mem_of_getElem? (i := 14) rfl)) (fun _ h9 => h9) rfl dX10_alter_136 ?_
          refine lv_iload_n hx hb dX10_alter_139 rfl (lv_at hl 5 rfl) ?_
          refine lv_iload_n hx hb dX10_alter_140 rfl (lv_at hl 6 rfl) ?_
          refine lv_iload_n hx hb dX10_alter_141 rfl (lv_at hl 7 rfl) ?_
          have hPc := hP.sub (ws' := [(m_now, .inl (kI, 192, .inl g_now))]) [1] rfl
          have hKc := hK.sub (tys' := [(kI, .int)]) [0] rfl
          refine va_calli (va_runS (As := [.ref m_now, .int i_0, .int i_1, .int i_2]) (rest := []) ⟨hx, hb, hml, hown, hts⟩ (c_X10_of l D m_now i_0 i_1 i_2 kI g_now i_0.toInt.toNat i_1.toInt.toNat i_2.toInt.toNat (by first | decide | omega) (by first | decide | omega) (by first | decide | omega) (by first | decide | omega) (by first | decide | omega) (by first | decide | omega) (by first | omega | decide | (have hz0 : (0 : Int32).toInt = 0 := (by decide); omega)) (by first | omega | decide | (have hz0 : (0 : Int32).toInt = 0 := (by decide); omega)) (by first | omega | decide | (have hz0 : (0 : Int32).toInt = 0 := (by decide); omega))) (cwS 4 hts g_X10_alter_X10_of rfl rfl rfl (by decide +kernel) ⟨Nat.le_of_ble_eq_true rfl, Nat.le_of_ble_eq_true rfl⟩) ⟨fun a U g mk q => by obtain ⟨q0, qP, qK⟩ := q; exact ⟨q0, qP, va_K.moved (u := U) (U := U.calling g mk a) (Vm.Alike.refl U.vm) qK⟩, fun U hU hW => ⟨rfl, by rw [hU]; exact hPc, va_K.moved hW.alike hKc⟩⟩ rfl rfl hl.1 rfl (lv_room (Nat.le_of_ble_eq_true rfl)) dX10_alter_142 ⟨Nat.le_of_ble_eq_true rfl, Nat.le_of_ble_eq_true rfl⟩) hS (fun _ _ h => h.elim) (fun _ h => h.elim) (fun r65 u t H1 locs ht hvm hw hB hz1 hk1 hS => ?_)
          have hP := pw_keep hP (fun q hq => hk1 q hq (fun h => h))
          generalize H1 = H at hP hS ⊢
          refine W.widen (k := 0) (n := 0) (Nat.le_of_ble_eq_true rfl) (Nat.le_of_ble_eq_true rfl) ?_
          have hfr65 := hw
          refine lv_istore (lv' := [(9, .int r65), (8, .int r59), (7, .int r57), (6, .int r55), (5, .int i_3), (0, .ref h0), (1, .int i_0), (2, .int i_1), (3, .int i_2), (4, .int i_3)]) hx hb dX10_alter_145 hl (by decide) rfl (fun ls hl => ?_)
          refine lv_aload_n hx hb dX10_alter_147 rfl (lv_at hl 5 rfl) ?_
          refine va_get (D := D) (ci := 10) (v := .ref m_now) (C := RX10) (T := TX10) (N := 25) hx hb hts (fun _ h => List.mem_cons_of_mem _ (List.mem_append_right _ h)) hown hK hP 0 rfl rfl 0 (by decide) (hts (.fieldLink RX10 7 "LineCitesModel" "now" "[I") (List.mem_of_getElem? (i := 14) rfl)) (fun _ h9 => h9) rfl dX10_alter_148 ?_
          refine lv_bipush (v := 8) hx hb dX10_alter_151 (by decide) ?_
          refine lv_bipush (v := 24) hx hb dX10_alter_153 (by decide) ?_
          refine lv_iload_n hx hb dX10_alter_155 rfl (lv_at hl 6 rfl) ?_
          refine lv_imul hx hb dX10_alter_156 ?_
          refine lv_topi (fun x66 ex66 => ?_)
          have tx66 : x66.toInt = 24 * i_0.toInt := pw_mulX ex66 (by decide) rfl (by omega) (by omega)
          refine lv_iadd hx hb dX10_alter_157 ?_
          refine lv_topi (fun x67 ex67 => ?_)
          have tx67 : x67.toInt = 8 + x66.toInt := pw_addX ex67 (by decide) rfl (by omega) (by omega)
          refine lv_iconst (v := 4) hx hb dX10_alter_158 (by decide) ?_
          refine lv_iload_n hx hb dX10_alter_159 rfl (lv_at hl 7 rfl) ?_
          refine lv_imul hx hb dX10_alter_160 ?_
          refine lv_topi (fun x68 ex68 => ?_)
          have tx68 : x68.toInt = 4 * i_1.toInt := pw_mulX ex68 (by decide) rfl (by omega) (by omega)
          refine lv_iadd hx hb dX10_alter_161 ?_
          refine lv_topi (fun x69 ex69 => ?_)
          have tx69 : x69.toInt = x67.toInt + x68.toInt := pw_addX ex69 rfl rfl (by omega) (by omega)
          refine lv_iload_n hx hb dX10_alter_162 rfl (lv_at hl 8 rfl) ?_
          refine lv_iadd hx hb dX10_alter_163 ?_
          refine lv_topi (fun x70 ex70 => ?_)
          have tx70 : x70.toInt = x69.toInt + i_2.toInt := pw_addX ex70 rfl rfl (by omega) (by omega)
          refine lv_iload hx hb dX10_alter_164 (lv_at hl 9 rfl) ?_
          refine va_iast hx hb hK hP hD hS 1 0 rfl rfl (vp_in_iff.mpr ⟨by omega, by omega⟩) dX10_alter_166 (fun H locs hP hD hS => ?_)
          obtain ⟨g71, eg71⟩ : ∃ g : Nat → Int32, g = upd g_now (x70 : Int32).toNatClampNeg i_3 := ⟨_, rfl⟩
          have hP : va_P D vwCl [(h0, .inr (10, [.ref m_now, .ref m_draft, .ref m_past, .int y63, .ref m_images, .ref m_kept, .ref m_tape, .int j_taped, .int j_at, .int j_start, .int j_token, .int j_value, .int j_fault, .int j_place, .int j_latest, .ref m_low, .ref m_high, .ref m_first, .ref m_second, .ref m_lines, .ref m_others, .int j_shiftFirst, .int j_shiftMany, .int j_shiftLow, .int j_shiftHigh])), (m_now, .inl (kI, 192, .inl (upd g_now (x70 : Int32).toNatClampNeg i_3))), (m_past, .inl (kI, 1920, .inl y64))] H := hP
          have hD : va_D A [(h0, .inr (10, [.ref m_now, .ref m_draft, .ref m_past, .int y63, .ref m_images, .ref m_kept, .ref m_tape, .int j_taped, .int j_at, .int j_start, .int j_token, .int j_value, .int j_fault, .int j_place, .int j_latest, .ref m_low, .ref m_high, .ref m_first, .ref m_second, .ref m_lines, .ref m_others, .int j_shiftFirst, .int j_shiftMany, .int j_shiftLow, .int j_shiftHigh])), (m_now, .inl (kI, 192, .inl (upd g_now (x70 : Int32).toNatClampNeg i_3))), (m_past, .inl (kI, 1920, .inl y64))] := hD
          have hK : va_K D vwCl [(kI, .int), (kI, .int)] s := hK
          rw [← eg71] at hP hD
          refine lv_iload hx hb dX10_alter_167 (lv_at hl 0 rfl) ?_
          have hgd := gV_al (e := i_0.toInt.toNat) (s := i_1.toInt.toNat) (w := 0) hg_now (by omega) (by omega) (by decide) (by omega) eg71 hvS (by rw [if_pos rfl]) (by rw [if_neg (by decide)]; exact hfr55) (by rw [if_neg (by decide)]; exact hfr57) (by rw [if_neg (by decide)]; exact hfr59)
          have hg71 := hgd.1
          have hz0 := hgd.2
          have hP9 := hP.sub (ws' := [(h0, .inr (10, [.ref m_now, .ref m_draft, .ref m_past, .int y63, .ref m_images, .ref m_kept, .ref m_tape, .int j_taped, .int j_at, .int j_start, .int j_token, .int j_value, .int j_fault, .int j_place, .int j_latest, .ref m_low, .ref m_high, .ref m_first, .ref m_second, .ref m_lines, .ref m_others, .int j_shiftFirst, .int j_shiftMany, .int j_shiftLow, .int j_shiftHigh])), (m_now, .inl (kI, 192, .inl g71)), (m_past, .inl (kI, 1920, .inl y64))]) [0, 1, 2] rfl
          have hD9 := hD.sub (ws' := [(h0, .inr (10, [.ref m_now, .ref m_draft, .ref m_past, .int y63, .ref m_images, .ref m_kept, .ref m_tape, .int j_taped, .int j_at, .int j_start, .int j_token, .int j_value, .int j_fault, .int j_place, .int j_latest, .ref m_low, .ref m_high, .ref m_first, .ref m_second, .ref m_lines, .ref m_others, .int j_shiftFirst, .int j_shiftMany, .int j_shiftLow, .int j_shiftHigh])), (m_now, .inl (kI, 192, .inl g71)), (m_past, .inl (kI, 1920, .inl y64))]) [0, 1, 2] (by decide) rfl
          have hK9 := hK.sub (tys' := [(kI, .int)]) [0] rfl
          refine W.widen (k := 0) (n := 0) (Nat.le_of_ble_eq_true rfl) (Nat.le_of_ble_eq_true rfl) ?_
          exact W.iret (v := r65) hx hb hr (fun t ht hW => ⟨⟨r65, (), rfl, trivial, y63, g71, y64, by rw [ht]; exact hP9, va_K.moved hW.alike hK9, hD9, hg71, (by rw [hz0]; exact hN1), px0_r62, px1_r62⟩, hS.F ht⟩) hS.2.2 dX10_alter_169
        · have nc61 : r60.toInt = 0 := pw_eq c61 rfl (by decide)
          refine lv_ldc hx hb hown (hts (.constant RX10 177 (-1000001)) (List.mem_of_getElem? (i := 18) rfl)) dX10_alter_128 ?_
          have hP9 := hP.sub (ws' := [(h0, .inr (10, [.ref m_now, .ref m_draft, .ref m_past, .int j_acts, .ref m_images, .ref m_kept, .ref m_tape, .int j_taped, .int j_at, .int j_start, .int j_token, .int j_value, .int j_fault, .int j_place, .int j_latest, .ref m_low, .ref m_high, .ref m_first, .ref m_second, .ref m_lines, .ref m_others, .int j_shiftFirst, .int j_shiftMany, .int j_shiftLow, .int j_shiftHigh])), (m_now, .inl (kI, 192, .inl g_now)), (m_past, .inl (kI, 1920, .inl g_past))]) [0, 1, 2] rfl
          have hD9 := hD.sub (ws' := [(h0, .inr (10, [.ref m_now, .ref m_draft, .ref m_past, .int j_acts, .ref m_images, .ref m_kept, .ref m_tape, .int j_taped, .int j_at, .int j_start, .int j_token, .int j_value, .int j_fault, .int j_place, .int j_latest, .ref m_low, .ref m_high, .ref m_first, .ref m_second, .ref m_lines, .ref m_others, .int j_shiftFirst, .int j_shiftMany, .int j_shiftLow, .int j_shiftHigh])), (m_now, .inl (kI, 192, .inl g_now)), (m_past, .inl (kI, 1920, .inl g_past))]) [0, 1, 2] (by decide) rfl
          have hK9 := hK.sub (tys' := [(kI, .int)]) [0] rfl
          refine W.widen (k := 0) (n := 0) (Nat.le_of_ble_eq_true rfl) (Nat.le_of_ble_eq_true rfl) ?_
          exact W.iret (v := (-1000001)) hx hb hr (fun t ht hW => ⟨⟨(-1000001), (), rfl, trivial, j_acts, g_now, g_past, by rw [ht]; exact hP9, va_K.moved hW.alike hK9, hD9, hg_now, hN1, (by omega), hPb⟩, hS.F ht⟩) hS.2.2 dX10_alter_130
    · have nc4 : r3.toInt = 0 := pw_eq c4 rfl (by decide)
      refine lv_ldc hx hb hown (hts (.constant RX10 177 (-1000001)) (List.mem_of_getElem? (i := 18) rfl)) dX10_alter_21 ?_
      have hP9 := hP.sub (ws' := [(h0, .inr (10, [.ref m_now, .ref m_draft, .ref m_past, .int j_acts, .ref m_images, .ref m_kept, .ref m_tape, .int j_taped, .int j_at, .int j_start, .int j_token, .int j_value, .int j_fault, .int j_place, .int j_latest, .ref m_low, .ref m_high, .ref m_first, .ref m_second, .ref m_lines, .ref m_others, .int j_shiftFirst, .int j_shiftMany, .int j_shiftLow, .int j_shiftHigh])), (m_now, .inl (kI, 192, .inl g_now)), (m_past, .inl (kI, 1920, .inl g_past))]) [0, 1, 2] rfl
      have hD9 := hD.sub (ws' := [(h0, .inr (10, [.ref m_now, .ref m_draft, .ref m_past, .int j_acts, .ref m_images, .ref m_kept, .ref m_tape, .int j_taped, .int j_at, .int j_start, .int j_token, .int j_value, .int j_fault, .int j_place, .int j_latest, .ref m_low, .ref m_high, .ref m_first, .ref m_second, .ref m_lines, .ref m_others, .int j_shiftFirst, .int j_shiftMany, .int j_shiftLow, .int j_shiftHigh])), (m_now, .inl (kI, 192, .inl g_now)), (m_past, .inl (kI, 1920, .inl g_past))]) [0, 1, 2] (by decide) rfl
      have hK9 := hK.sub (tys' := [(kI, .int)]) [0] rfl
      refine W.widen (k := 0) (n := 0) (Nat.le_of_ble_eq_true rfl) (Nat.le_of_ble_eq_true rfl) ?_
      exact W.iret (v := (-1000001)) hx hb hr (fun t ht hW => ⟨⟨(-1000001), (), rfl, trivial, j_acts, g_now, g_past, by rw [ht]; exact hP9, va_K.moved hW.alike hK9, hD9, hg_now, hN1, (by omega), hPb⟩, hS.F ht⟩) hS.2.2 dX10_alter_23
def w_X10_strike : List Cond := .code yX10_strike cX10_strike 3 (some .int) :: ([.methodLink RX10 228 yX10_isCitation, .instanceMethod yX10_isCitation, .selects RX10 yX10_isCitation yX10_isCitation, .initialized RX10, .code yX10_isCitation cX10_isCitation 2 (some .boolean), .constantLong RX10 213 (7), .methodLink RX10 51 yX10_in0, .static yX10_in0, .code yX10_in0 cX10_in0 6 (some .boolean), .methodLink RX10 215 yX10_cited, .instanceMethod yX10_cited, .selects RX10 yX10_cited yX10_cited, .code yX10_cited cX10_cited 3 (some .int), .fieldLink RX10 7 "LineCitesModel" "now" "[I", .methodLink RX10 205 yX10_notes, .instanceMethod yX10_notes, .selects RX10 yX10_notes yX10_notes, .code yX10_notes cX10_notes 2 none, .fieldLink RX10 195 "LineCitesModel" "acts" "I", .fieldLink RX10 16 "LineCitesModel" "past" "[I", .methodLink RX10 191 yX10_copies, .static yX10_copies, .code yX10_copies cX10_copies 5 none, .methodLink RX10 231 yX10_citations, .instanceMethod yX10_citations, .selects RX10 yX10_citations yX10_citations, .code yX10_citations cX10_citations 3 (some .int), .constant RX10 177 (-1000001)] ++ wsX100)
set_option maxRecDepth 20000 in
theorem g_X10_strike_X10_isCitation : GoodIn w_X10_strike (wsV RX10 228 RX10 yX10_isCitation w_X10_isCitation) := goodIn_r _ [1, 2, 3, 4, 5, 6, 7, 8, 4, 9, 10, 11, 12, 13, 14, 29, 30, 31, 32, 33, 34, 35, 36, 37, 38, 39, 40, 41, 42, 43, 44, 45, 46, 47, 48, 49, 50, 51, 52, 53] rfl (by decide +kernel)
set_option maxRecDepth 20000 in
theorem g_X10_strike_X10_notes : GoodIn w_X10_strike (wsV RX10 205 RX10 yX10_notes w_X10_notes) := goodIn_r _ [15, 16, 17, 4, 18, 19, 14, 20, 21, 22, 4, 23, 29, 30, 31, 32, 33, 34, 35, 36, 37, 38, 39, 40, 41, 42, 43, 44, 45, 46, 47, 48, 49, 50, 51, 52, 53] rfl (by decide +kernel)
set_option maxRecDepth 20000 in
theorem g_X10_strike_X10_citations : GoodIn w_X10_strike (wsV RX10 231 RX10 yX10_citations w_X10_citations) := goodIn_r _ [24, 25, 26, 4, 27, 10, 11, 12, 4, 13, 14, 29, 30, 31, 32, 33, 34, 35, 36, 37, 38, 39, 40, 41, 42, 43, 44, 45, 46, 47, 48, 49, 50, 51, 52, 53] rfl (by decide +kernel)
set_option maxHeartbeats 4000000 in
set_option maxRecDepth 100000 in
theorem c_X10_strike (l : Launch) (D : va_G) (h0 : Nat) (i_0 : Int32) (m_now : Nat) (m_draft : Nat) (m_past : Nat) (j_acts : Int32) (m_images : Nat) (m_kept : Nat) (m_tape : Nat) (j_taped : Int32) (j_at : Int32) (j_start : Int32) (j_token : Int32) (j_value : Int32) (j_fault : Int32) (j_place : Int32) (j_latest : Int32) (m_low : Nat) (m_high : Nat) (m_first : Nat) (m_second : Nat) (m_lines : Nat) (m_others : Nat) (j_shiftFirst : Int32) (j_shiftMany : Int32) (j_shiftLow : Int32) (j_shiftHigh : Int32) (kI : ClassId) (g_now : Nat → Int32) (g_past : Nat → Int32) (sz : Nat) (hN1 : 1 ≤ (g_now 0).toInt) (h0j_acts : 0 ≤ j_acts.toInt) (h1j_acts : j_acts.toInt ≤ 10) (hPb : pB g_past j_acts.toInt) (hg_now : gV g_now) : Met l yX10_strike w_X10_strike ({ frames := 2, cells := 0, slots := 0, locals := 46 }) (va_Pc [.ref h0, .int i_0] (fun U => U.heap.size = sz ∧ va_P D vwCl [(h0, .inr (10, [.ref m_now, .ref m_draft, .ref m_past, .int j_acts, .ref m_images, .ref m_kept, .ref m_tape, .int j_taped, .int j_at, .int j_start, .int j_token, .int j_value, .int j_fault, .int j_place, .int j_latest, .ref m_low, .ref m_high, .ref m_first, .ref m_second, .ref m_lines, .ref m_others, .int j_shiftFirst, .int j_shiftMany, .int j_shiftLow, .int j_shiftHigh])), (m_now, .inl (kI, 192, .inl g_now)), (m_past, .inl (kI, 1920, .inl g_past))] U.heap ∧ va_K D vwCl [(kI, .int)] U ∧ va_D (fun _ => True) [(h0, .inr (10, [.ref m_now, .ref m_draft, .ref m_past, .int j_acts, .ref m_images, .ref m_kept, .ref m_tape, .int j_taped, .int j_at, .int j_start, .int j_token, .int j_value, .int j_fault, .int j_place, .int j_latest, .ref m_low, .ref m_high, .ref m_first, .ref m_second, .ref m_lines, .ref m_others, .int j_shiftFirst, .int j_shiftMany, .int j_shiftLow, .int j_shiftHigh])), (m_now, .inl (kI, 192, .inl g_now)), (m_past, .inl (kI, 1920, .inl g_past))])) (va_Qi (fun (r : Int32) (_ : Unit) => True) (fun (_ : Unit) t => ∃ (n_acts : Int32) (n_now : Nat → Int32) (n_past : Nat → Int32), va_P D vwCl [(h0, .inr (10, [.ref m_now, .ref m_draft, .ref m_past, .int n_acts, .ref m_images, .ref m_kept, .ref m_tape, .int j_taped, .int j_at, .int j_start, .int j_token, .int j_value, .int j_fault, .int j_place, .int j_latest, .ref m_low, .ref m_high, .ref m_first, .ref m_second, .ref m_lines, .ref m_others, .int j_shiftFirst, .int j_shiftMany, .int j_shiftLow, .int j_shiftHigh])), (m_now, .inl (kI, 192, .inl n_now)), (m_past, .inl (kI, 1920, .inl n_past))] t.heap ∧ va_K D vwCl [(kI, .int)] t ∧ va_D (va_A [(h0, .inr (10, [.ref m_now, .ref m_draft, .ref m_past, .int j_acts, .ref m_images, .ref m_kept, .ref m_tape, .int j_taped, .int j_at, .int j_start, .int j_token, .int j_value, .int j_fault, .int j_place, .int j_latest, .ref m_low, .ref m_high, .ref m_first, .ref m_second, .ref m_lines, .ref m_others, .int j_shiftFirst, .int j_shiftMany, .int j_shiftLow, .int j_shiftHigh])), (m_now, .inl (kI, 192, .inl g_now)), (m_past, .inl (kI, 1920, .inl g_past))] sz) [(h0, .inr (10, [.ref m_now, .ref m_draft, .ref m_past, .int n_acts, .ref m_images, .ref m_kept, .ref m_tape, .int j_taped, .int j_at, .int j_start, .int j_token, .int j_value, .int j_fault, .int j_place, .int j_latest, .ref m_low, .ref m_high, .ref m_first, .ref m_second, .ref m_lines, .ref m_others, .int j_shiftFirst, .int j_shiftMany, .int j_shiftLow, .int j_shiftHigh])), (m_now, .inl (kI, 192, .inl n_now)), (m_past, .inl (kI, 1920, .inl n_past))] ∧ gV n_now ∧ 1 ≤ (n_now 0).toInt ∧ (0 ≤ n_acts.toInt ∧ n_acts.toInt ≤ 10) ∧ pB n_past n_acts.toInt) (va_A [(h0, .inr (10, [.ref m_now, .ref m_draft, .ref m_past, .int j_acts, .ref m_images, .ref m_kept, .ref m_tape, .int j_taped, .int j_at, .int j_start, .int j_token, .int j_value, .int j_fault, .int j_place, .int j_latest, .ref m_low, .ref m_high, .ref m_first, .ref m_second, .ref m_lines, .ref m_others, .int j_shiftFirst, .int j_shiftMany, .int j_shiftLow, .int j_shiftHigh])), (m_now, .inl (kI, 192, .inl g_now)), (m_past, .inl (kI, 1920, .inl g_past))] sz)) 0 0 (va_A [(h0, .inr (10, [.ref m_now, .ref m_draft, .ref m_past, .int j_acts, .ref m_images, .ref m_kept, .ref m_tape, .int j_taped, .int j_at, .int j_start, .int j_token, .int j_value, .int j_fault, .int j_place, .int j_latest, .ref m_low, .ref m_high, .ref m_first, .ref m_second, .ref m_lines, .ref m_others, .int j_shiftFirst, .int j_shiftMany, .int j_shiftLow, .int j_shiftHigh])), (m_now, .inl (kI, 192, .inl g_now)), (m_past, .inl (kI, 1920, .inl g_past))] sz) := by
  refine Met.ofW (cc := cX10_strike) (maxL := 3) (ret := (some .int)) (by decide) rfl ?_
  intro p e s m args below meth c s₁ B hml hv
  obtain ⟨rfl, hsz, hP, hK, hD0⟩ := hv
  have hx := B.exec
  have hb := B.bytes
  have hr := B.returns
  have hts := atoms_spec (ws := w_X10_strike) B.pre
  have hown : s.vm.findClass RX10 = some m.cls := findClass_of_methodNamed B.named
  have hlocks := B.notSynchronized
  subst hsz
  have hD := hD0.self (sz := s.heap.size)
  generalize hAe : va_A [(h0, .inr (10, [.ref m_now, .ref m_draft, .ref m_past, .int j_acts, .ref m_images, .ref m_kept, .ref m_tape, .int j_taped, .int j_at, .int j_start, .int j_token, .int j_value, .int j_fault, .int j_place, .int j_latest, .ref m_low, .ref m_high, .ref m_first, .ref m_second, .ref m_lines, .ref m_others, .int j_shiftFirst, .int j_shiftMany, .int j_shiftLow, .int j_shiftHigh])), (m_now, .inl (kI, 192, .inl g_now)), (m_past, .inl (kI, 1920, .inl g_past))] s.heap.size = A at hD ⊢
  have hA : ∀ q : Nat, s.heap.size ≤ q → A q := fun q h => by rw [← hAe]; exact Or.inr h
  have hS : va_S A s.heap s.heap [] := va_S.rf
  have hP : va_P D vwCl [(h0, .inr (10, [.ref m_now, .ref m_draft, .ref m_past, .int j_acts, .ref m_images, .ref m_kept, .ref m_tape, .int j_taped, .int j_at, .int j_start, .int j_token, .int j_value, .int j_fault, .int j_place, .int j_latest, .ref m_low, .ref m_high, .ref m_first, .ref m_second, .ref m_lines, .ref m_others, .int j_shiftFirst, .int j_shiftMany, .int j_shiftLow, .int j_shiftHigh])), (m_now, .inl (kI, 192, .inl g_now)), (m_past, .inl (kI, 1920, .inl g_past))] s.heap := hP
  have hl := lv_entry ([.ref h0, .int i_0]) (n := 3) (Nat.le_of_ble_eq_true rfl)
  rw [lg_entry_eq]
  generalize (lg_sl ([.ref h0, .int i_0]) ++ List.replicate (3 - (lg_sl ([.ref h0, .int i_0])).length) Slot.unset).toArray = ls at hl ⊢
  have hl : lv_has ls 3 [(0, .ref h0), (1, .int i_0)] := hl
  obtain ⟨H, hHe⟩ : ∃ H : Heap, H = s.heap := ⟨_, rfl⟩
  rw [← hHe] at hP
  have hS : va_S A s.heap H [] := by rw [hHe]; exact hS
  refine pw_heap hHe ?_
  refine lv_aload_n hx hb dX10_strike_0 rfl (lv_at hl 0 rfl) ?_
  refine lv_iload_n hx hb dX10_strike_1 rfl (lv_at hl 1 rfl) ?_
  have hPc := hP.sub (ws' := [(h0, .inr (10, [.ref m_now, .ref m_draft, .ref m_past, .int j_acts, .ref m_images, .ref m_kept, .ref m_tape, .int j_taped, .int j_at, .int j_start, .int j_token, .int j_value, .int j_fault, .int j_place, .int j_latest, .ref m_low, .ref m_high, .ref m_first, .ref m_second, .ref m_lines, .ref m_others, .int j_shiftFirst, .int j_shiftMany, .int j_shiftLow, .int j_shiftHigh])), (m_now, .inl (kI, 192, .inl g_now))]) [0, 1] rfl
  have hKc := hK.sub (tys' := [(kI, .int)]) [0] rfl
  refine va_calli (va_runV (As := [.int i_0]) (rest := []) ⟨hx, hb, hml, hown, hts⟩ (c_X10_isCitation l D h0 i_0 m_now m_draft m_past j_acts m_images m_kept m_tape j_taped j_at j_start j_token j_value j_fault j_place j_latest m_low m_high m_first m_second m_lines m_others j_shiftFirst j_shiftMany j_shiftLow j_shiftHigh kI g_now) (cwV 1 hts g_X10_strike_X10_isCitation rfl rfl rfl (by decide +kernel) ⟨Nat.le_of_ble_eq_true rfl, Nat.le_of_ble_eq_true rfl⟩) ⟨fun a U g mk q => by obtain ⟨q0, qP, qK⟩ := q; exact ⟨q0, qP, va_K.moved (u := U) (U := U.calling g mk a) (Vm.Alike.refl U.vm) qK⟩, va_recv hKc hPc (ci := 10) (q0 := 0) rfl rfl, fun U hU hW => ⟨rfl, by rw [hU]; exact hPc, va_K.moved hW.alike hKc⟩⟩ rfl rfl hl.1 rfl (lv_room (Nat.le_of_ble_eq_true rfl)) dX10_strike_2 ⟨Nat.le_of_ble_eq_true rfl, Nat.le_of_ble_eq_true rfl⟩) hS (fun _ _ h => h.elim) (fun _ h => h.elim) (fun r1 u t H1 locs ht hvm hw hB hz1 hk1 hS => ?_)
  have hP := pw_keep hP (fun q hq => hk1 q hq (fun h => h))
  generalize H1 = H at hP hS ⊢
  refine W.widen (k := 0) (n := 0) (Nat.le_of_ble_eq_true rfl) (Nat.le_of_ble_eq_true rfl) ?_
  have bor1 := hw.1
  have zor1 := pw_boolI bor1
  have hfr1 := hw.2
  refine lv_if_ne (tgt := 11) hx hb dX10_strike_5 (by decide) (fun c2 => ?_) (fun c2 => ?_)
  · have nc2 : r1.toInt ≠ 0 := pw_ne c2 rfl (by decide)
    refine lv_aload_n hx hb dX10_strike_11 rfl (lv_at hl 0 rfl) ?_
    have hPc := hP.sub (ws' := [(h0, .inr (10, [.ref m_now, .ref m_draft, .ref m_past, .int j_acts, .ref m_images, .ref m_kept, .ref m_tape, .int j_taped, .int j_at, .int j_start, .int j_token, .int j_value, .int j_fault, .int j_place, .int j_latest, .ref m_low, .ref m_high, .ref m_first, .ref m_second, .ref m_lines, .ref m_others, .int j_shiftFirst, .int j_shiftMany, .int j_shiftLow, .int j_shiftHigh])), (m_now, .inl (kI, 192, .inl g_now)), (m_past, .inl (kI, 1920, .inl g_past))]) [0, 1, 2] rfl
    have hKc := hK.sub (tys' := [(kI, .int)]) [0] rfl
    have hDc := hD.sub (ws' := [(h0, .inr (10, [.ref m_now, .ref m_draft, .ref m_past, .int j_acts, .ref m_images, .ref m_kept, .ref m_tape, .int j_taped, .int j_at, .int j_start, .int j_token, .int j_value, .int j_fault, .int j_place, .int j_latest, .ref m_low, .ref m_high, .ref m_first, .ref m_second, .ref m_lines, .ref m_others, .int j_shiftFirst, .int j_shiftMany, .int j_shiftLow, .int j_shiftHigh])), (m_now, .inl (kI, 192, .inl g_now)), (m_past, .inl (kI, 1920, .inl g_past))]) [0, 1, 2] (by decide) rfl
    have hFc := va_free (wc := [(h0, .inr (10, [.ref m_now, .ref m_draft, .ref m_past, .int j_acts, .ref m_images, .ref m_kept, .ref m_tape, .int j_taped, .int j_at, .int j_start, .int j_token, .int j_value, .int j_fault, .int j_place, .int j_latest, .ref m_low, .ref m_high, .ref m_first, .ref m_second, .ref m_lines, .ref m_others, .int j_shiftFirst, .int j_shiftMany, .int j_shiftLow, .int j_shiftHigh])), (m_now, .inl (kI, 192, .inl g_now)), (m_past, .inl (kI, 1920, .inl g_past))]) hD hS hA [0, 1, 2] rfl
    refine va_callv (va_runV (As := []) (rest := []) ⟨hx, hb, hml, hown, hts⟩ (c_X10_notes l D h0 m_now m_draft m_past j_acts m_images m_kept m_tape j_taped j_at j_start j_token j_value j_fault j_place j_latest m_low m_high m_first m_second m_lines m_others j_shiftFirst j_shiftMany j_shiftLow j_shiftHigh kI g_now g_past H.size hN1 (by first | decide | omega) (by first | decide | omega) hPb hg_now) (cwV 0 hts g_X10_strike_X10_notes rfl rfl rfl (by decide +kernel) ⟨Nat.le_of_ble_eq_true rfl, Nat.le_of_ble_eq_true rfl⟩) ⟨fun a U g mk q => by obtain ⟨q0, q1, qP, qK, qD⟩ := q; exact ⟨q0, q1, qP, va_K.moved (u := U) (U := U.calling g mk a) (Vm.Alike.refl U.vm) qK, qD⟩, va_recv hKc hPc (ci := 10) (q0 := 0) rfl rfl, fun U hU hW => ⟨rfl, by rw [hU], by rw [hU]; exact hPc, va_K.moved hW.alike hKc, hDc.weaken (fun _ _ _ _ => trivial)⟩⟩ rfl rfl hl.1 rfl (lv_room (Nat.le_of_ble_eq_true rfl)) dX10_strike_12 ⟨Nat.le_of_ble_eq_true rfl, Nat.le_of_ble_eq_true rfl⟩) hS (fun q _ h => hFc q h) hFc (fun u t H1 locs ht hvm hw hB hz1 hk1 hS => ?_)
    obtain ⟨y4, y5, hP1, hK1, hD1, px0_r3, px1_r3⟩ := hB
    rw [ht] at hP1
    have hK1 := va_K.moved hvm.symm hK1
    obtain ⟨hP, hD⟩ := va_join (wr := []) (w1 := [(h0, .inr (10, [.ref m_now, .ref m_draft, .ref m_past, .int y4, .ref m_images, .ref m_kept, .ref m_tape, .int j_taped, .int j_at, .int j_start, .int j_token, .int j_value, .int j_fault, .int j_place, .int j_latest, .ref m_low, .ref m_high, .ref m_first, .ref m_second, .ref m_lines, .ref m_others, .int j_shiftFirst, .int j_shiftMany, .int j_shiftLow, .int j_shiftHigh])), (m_now, .inl (kI, 192, .inl g_now)), (m_past, .inl (kI, 1920, .inl y5))]) hP hD [0, 1, 2] [] rfl rfl (by decide) (by decide) hk1 hFc hP1 hD1
    have hK := (hK.sub (tys' := [(kI, .int)]) [0] rfl).app hK1
    generalize H1 = H at hP hS ⊢
    have hP : va_P D vwCl [(h0, .inr (10, [.ref m_now, .ref m_draft, .ref m_past, .int y4, .ref m_images, .ref m_kept, .ref m_tape, .int j_taped, .int j_at, .int j_start, .int j_token, .int j_value, .int j_fault, .int j_place, .int j_latest, .ref m_low, .ref m_high, .ref m_first, .ref m_second, .ref m_lines, .ref m_others, .int j_shiftFirst, .int j_shiftMany, .int j_shiftLow, .int j_shiftHigh])), (m_now, .inl (kI, 192, .inl g_now)), (m_past, .inl (kI, 1920, .inl y5))] H := hP
    have hD : va_D A [(h0, .inr (10, [.ref m_now, .ref m_draft, .ref m_past, .int y4, .ref m_images, .ref m_kept, .ref m_tape, .int j_taped, .int j_at, .int j_start, .int j_token, .int j_value, .int j_fault, .int j_place, .int j_latest, .ref m_low, .ref m_high, .ref m_first, .ref m_second, .ref m_lines, .ref m_others, .int j_shiftFirst, .int j_shiftMany, .int j_shiftLow, .int j_shiftHigh])), (m_now, .inl (kI, 192, .inl g_now)), (m_past, .inl (kI, 1920, .inl y5))] := hD
    have hK : va_K D vwCl [(kI, .int), (kI, .int)] s := hK
    refine W.widen (k := 0) (n := 0) (Nat.le_of_ble_eq_true rfl) (Nat.le_of_ble_eq_true rfl) ?_
    refine lv_iconst (v := 0) hx hb dX10_strike_15 (by decide) ?_
    refine lv_istore_n (lv' := [(2, .int 0), (0, .ref h0), (1, .int i_0)]) hx hb dX10_strike_16 rfl hl (by decide) rfl (fun ls hl => ?_)
    have hl9 : lv_has ls 3 [(0, .ref h0), (1, .int i_0), (2, .int 0)] := lv_sub hl [1, 2, 0] rfl
    refine pw_loop (fun (zz : Int32 × (Nat → Int32)) H locs ls => match zz with | (v20, f21) => va_P D vwCl [(h0, .inr (10, [.ref m_now, .ref m_draft, .ref m_past, .int y4, .ref m_images, .ref m_kept, .ref m_tape, .int j_taped, .int j_at, .int j_start, .int j_token, .int j_value, .int j_fault, .int j_place, .int j_latest, .ref m_low, .ref m_high, .ref m_first, .ref m_second, .ref m_lines, .ref m_others, .int j_shiftFirst, .int j_shiftMany, .int j_shiftLow, .int j_shiftHigh])), (m_now, .inl (kI, 192, .inl f21)), (m_past, .inl (kI, 1920, .inl y5))] H ∧ va_D A [(h0, .inr (10, [.ref m_now, .ref m_draft, .ref m_past, .int y4, .ref m_images, .ref m_kept, .ref m_tape, .int j_taped, .int j_at, .int j_start, .int j_token, .int j_value, .int j_fault, .int j_place, .int j_latest, .ref m_low, .ref m_high, .ref m_first, .ref m_second, .ref m_lines, .ref m_others, .int j_shiftFirst, .int j_shiftMany, .int j_shiftLow, .int j_shiftHigh])), (m_now, .inl (kI, 192, .inl f21)), (m_past, .inl (kI, 1920, .inl y5))] ∧ va_S A s.heap H locs ∧ lv_has ls 3 [(0, .ref h0), (1, .int i_0), (2, .int v20)] ∧ (0 ≤ v20.toInt ∧ v20.toInt ≤ 5) ∧ zrI f21 g_now (128 + 5 * i_0.toInt.toNat) v20.toInt) (fun (zz : Int32 × (Nat → Int32))  => match zz with | (v20, f21) => (2147483648 - v20.toInt).toNat) 0 0 (fun (zz : Int32 × (Nat → Int32)) ls => match zz with | (v20, f21) => F0 m 17 ls []) (fun zz H locs ls ih22 hI => ?_) (0, g_now) _ _ _ ⟨hP, hD, hS, hl9, (by decide), (zrI_0 (by decide))⟩
    obtain ⟨v20, f21⟩ := zz
    obtain ⟨hP, hD, hS, hl, bv20, hzr⟩ := hI
    have bv20 : (0 ≤ v20.toInt ∧ v20.toInt ≤ 5) := bv20
    have hzr : zrI f21 g_now (128 + 5 * i_0.toInt.toNat) v20.toInt := hzr
    have hP : va_P D vwCl [(h0, .inr (10, [.ref m_now, .ref m_draft, .ref m_past, .int y4, .ref m_images, .ref m_kept, .ref m_tape, .int j_taped, .int j_at, .int j_start, .int j_token, .int j_value, .int j_fault, .int j_place, .int j_latest, .ref m_low, .ref m_high, .ref m_first, .ref m_second, .ref m_lines, .ref m_others, .int j_shiftFirst, .int j_shiftMany, .int j_shiftLow, .int j_shiftHigh])), (m_now, .inl (kI, 192, .inl f21)), (m_past, .inl (kI, 1920, .inl y5))] H := hP
    have hD : va_D A [(h0, .inr (10, [.ref m_now, .ref m_draft, .ref m_past, .int y4, .ref m_images, .ref m_kept, .ref m_tape, .int j_taped, .int j_at, .int j_start, .int j_token, .int j_value, .int j_fault, .int j_place, .int j_latest, .ref m_low, .ref m_high, .ref m_first, .ref m_second, .ref m_lines, .ref m_others, .int j_shiftFirst, .int j_shiftMany, .int j_shiftLow, .int j_shiftHigh])), (m_now, .inl (kI, 192, .inl f21)), (m_past, .inl (kI, 1920, .inl y5))] := hD
    have hK : va_K D vwCl [(kI, .int), (kI, .int)] s := hK
    have hl : lv_has ls 3 [(0, .ref h0), (1, .int i_0), (2, .int v20)] := hl
    refine W.eq (g2 := F0 m 17 ls []) rfl ?_
    refine lv_iload_n hx hb dX10_strike_17 rfl (lv_at hl 2 rfl) ?_
    refine lv_iconst (v := 5) hx hb dX10_strike_18 (by decide) ?_
    refine lv_icmp_ge (tgt := 43) hx hb dX10_strike_19 (by decide) (fun c23 => ?_) (fun c23 => ?_)
    · have nc23 : 5 ≤ v20.toInt := pw_le c23 (by decide) rfl
      refine lv_aload_n hx hb dX10_strike_43 rfl (lv_at hl 0 rfl) ?_
      have hPc := hP.sub (ws' := [(h0, .inr (10, [.ref m_now, .ref m_draft, .ref m_past, .int y4, .ref m_images, .ref m_kept, .ref m_tape, .int j_taped, .int j_at, .int j_start, .int j_token, .int j_value, .int j_fault, .int j_place, .int j_latest, .ref m_low, .ref m_high, .ref m_first, .ref m_second, .ref m_lines, .ref m_others, .int j_shiftFirst, .int j_shiftMany, .int j_shiftLow, .int j_shiftHigh])), (m_now, .inl (kI, 192, .inl f21))]) [0, 1] rfl
      have hKc := hK.sub (tys' := [(kI, .int)]) [0] rfl
      refine va_calli (va_runV (As := []) (rest := []) ⟨hx, hb, hml, hown, hts⟩ (c_X10_citations l D h0 m_now m_draft m_past y4 m_images m_kept m_tape j_taped j_at j_start j_token j_value j_fault j_place j_latest m_low m_high m_first m_second m_lines m_others j_shiftFirst j_shiftMany j_shiftLow j_shiftHigh kI f21) (cwV 0 hts g_X10_strike_X10_citations rfl rfl rfl (by decide +kernel) ⟨Nat.le_of_ble_eq_true rfl, Nat.le_of_ble_eq_true rfl⟩) ⟨fun a U g mk q => by obtain ⟨q0, qP, qK⟩ := q; exact ⟨q0, qP, va_K.moved (u := U) (U := U.calling g mk a) (Vm.Alike.refl U.vm) qK⟩, va_recv hKc hPc (ci := 10) (q0 := 0) rfl rfl, fun U hU hW => ⟨rfl, by rw [hU]; exact hPc, va_K.moved hW.alike hKc⟩⟩ rfl rfl hl.1 rfl (lv_room (Nat.le_of_ble_eq_true rfl)) dX10_strike_44 ⟨Nat.le_of_ble_eq_true rfl, Nat.le_of_ble_eq_true rfl⟩) hS (fun _ _ h => h.elim) (fun _ h => h.elim) (fun r24 u t H1 locs ht hvm hw hB hz1 hk1 hS => ?_)
      have hP := pw_keep hP (fun q hq => hk1 q hq (fun h => h))
      generalize H1 = H at hP hS ⊢
      refine W.widen (k := 0) (n := 0) (Nat.le_of_ble_eq_true rfl) (Nat.le_of_ble_eq_true rfl) ?_
      have hgd := gV_zr (c := i_0.toInt.toNat) hg_now hzr (by omega) (by omega)
      have hf21 := hgd.1
      have hz0 := hgd.2
      have hP9 := hP.sub (ws' := [(h0, .inr (10, [.ref m_now, .ref m_draft, .ref m_past, .int y4, .ref m_images, .ref m_kept, .ref m_tape, .int j_taped, .int j_at, .int j_start, .int j_token, .int j_value, .int j_fault, .int j_place, .int j_latest, .ref m_low, .ref m_high, .ref m_first, .ref m_second, .ref m_lines, .ref m_others, .int j_shiftFirst, .int j_shiftMany, .int j_shiftLow, .int j_shiftHigh])), (m_now, .inl (kI, 192, .inl f21)), (m_past, .inl (kI, 1920, .inl y5))]) [0, 1, 2] rfl
      have hD9 := hD.sub (ws' := [(h0, .inr (10, [.ref m_now, .ref m_draft, .ref m_past, .int y4, .ref m_images, .ref m_kept, .ref m_tape, .int j_taped, .int j_at, .int j_start, .int j_token, .int j_value, .int j_fault, .int j_place, .int j_latest, .ref m_low, .ref m_high, .ref m_first, .ref m_second, .ref m_lines, .ref m_others, .int j_shiftFirst, .int j_shiftMany, .int j_shiftLow, .int j_shiftHigh])), (m_now, .inl (kI, 192, .inl f21)), (m_past, .inl (kI, 1920, .inl y5))]) [0, 1, 2] (by decide) rfl
      have hK9 := hK.sub (tys' := [(kI, .int)]) [0] rfl
      refine W.widen (k := 0) (n := 0) (Nat.le_of_ble_eq_true rfl) (Nat.le_of_ble_eq_true rfl) ?_
      exact W.iret (v := r24) hx hb hr (fun t ht hW => ⟨⟨r24, (), rfl, trivial, y4, f21, y5, by rw [ht]; exact hP9, va_K.moved hW.alike hK9, hD9, hf21, (by rw [hz0]; exact hN1), px0_r3, px1_r3⟩, hS.F ht⟩) hS.2.2 dX10_strike_47
    · have nc23 : v20.toInt < 5 := pw_nle c23 (by decide) rfl
      refine lv_aload_n hx hb dX10_strike_22 rfl (lv_at hl 0 rfl) ?_
      refine va_get (D := D) (ci := 10) (v := .ref m_now) (C := RX10) (T := TX10) (N := 25) hx hb hts (fun _ h => List.mem_cons_of_mem _ (List.mem_append_right _ h)) hown hK hP 0 rfl rfl 0 (by decide) (hts (.fieldLink RX10 7 "LineCitesModel" "now" "[I") (List.mem_of_getElem? (i := 14) rfl)) (fun _ h9 => h9) rfl dX10_strike_23 ?_
      refine lv_sipush (v := 128) hx hb dX10_strike_26 (by decide) ?_
      refine lv_iconst (v := 5) hx hb dX10_strike_29 (by decide) ?_
      refine lv_iload_n hx hb dX10_strike_30 rfl (lv_at hl 1 rfl) ?_
      refine lv_imul hx hb dX10_strike_31 ?_
      refine lv_topi (fun x25 ex25 => ?_)
      have tx25 : x25.toInt = 5 * i_0.toInt := pw_mulX ex25 (by decide) rfl (by omega) (by omega)
      refine lv_iadd hx hb dX10_strike_32 ?_
      refine lv_topi (fun x26 ex26 => ?_)
      have tx26 : x26.toInt = 128 + x25.toInt := pw_addX ex26 (by decide) rfl (by omega) (by omega)
      refine lv_iload_n hx hb dX10_strike_33 rfl (lv_at hl 2 rfl) ?_
      refine lv_iadd hx hb dX10_strike_34 ?_
      refine lv_topi (fun x27 ex27 => ?_)
      have tx27 : x27.toInt = x26.toInt + v20.toInt := pw_addX ex27 rfl rfl (by omega) (by omega)
      refine lv_iconst (v := 0) hx hb dX10_strike_35 (by decide) ?_
      refine va_iast hx hb hK hP hD hS 1 0 rfl rfl (vp_in_iff.mpr ⟨by omega, by omega⟩) dX10_strike_36 (fun H locs hP hD hS => ?_)
      obtain ⟨g28, eg28⟩ : ∃ g : Nat → Int32, g = upd f21 (x27 : Int32).toNatClampNeg 0 := ⟨_, rfl⟩
      have hP : va_P D vwCl [(h0, .inr (10, [.ref m_now, .ref m_draft, .ref m_past, .int y4, .ref m_images, .ref m_kept, .ref m_tape, .int j_taped, .int j_at, .int j_start, .int j_token, .int j_value, .int j_fault, .int j_place, .int j_latest, .ref m_low, .ref m_high, .ref m_first, .ref m_second, .ref m_lines, .ref m_others, .int j_shiftFirst, .int j_shiftMany, .int j_shiftLow, .int j_shiftHigh])), (m_now, .inl (kI, 192, .inl (upd f21 (x27 : Int32).toNatClampNeg 0))), (m_past, .inl (kI, 1920, .inl y5))] H := hP
      have hD : va_D A [(h0, .inr (10, [.ref m_now, .ref m_draft, .ref m_past, .int y4, .ref m_images, .ref m_kept, .ref m_tape, .int j_taped, .int j_at, .int j_start, .int j_token, .int j_value, .int j_fault, .int j_place, .int j_latest, .ref m_low, .ref m_high, .ref m_first, .ref m_second, .ref m_lines, .ref m_others, .int j_shiftFirst, .int j_shiftMany, .int j_shiftLow, .int j_shiftHigh])), (m_now, .inl (kI, 192, .inl (upd f21 (x27 : Int32).toNatClampNeg 0))), (m_past, .inl (kI, 1920, .inl y5))] := hD
      have hK : va_K D vwCl [(kI, .int), (kI, .int)] s := hK
      rw [← eg28] at hP hD
      obtain ⟨x29, ex29⟩ : ∃ y : Int32, y = v20 + 1 := ⟨_, rfl⟩
      have tx29 : x29.toInt = v20.toInt + 1 := pw_addX ex29 rfl (by decide) (by omega) (by omega)
      refine lv_iinc (v := x29) (lv' := [(2, .int x29), (0, .ref h0), (1, .int i_0)]) hx hb dX10_strike_37 hl (k := 2) rfl (by rw [ex29]; rfl) (by decide) rfl (fun ls hl => ?_)
      refine lv_goto (tgt := 17) hx hb dX10_strike_40 (by decide) ?_
      have hP9 : va_P D vwCl [(h0, .inr (10, [.ref m_now, .ref m_draft, .ref m_past, .int y4, .ref m_images, .ref m_kept, .ref m_tape, .int j_taped, .int j_at, .int j_start, .int j_token, .int j_value, .int j_fault, .int j_place, .int j_latest, .ref m_low, .ref m_high, .ref m_first, .ref m_second, .ref m_lines, .ref m_others, .int j_shiftFirst, .int j_shiftMany, .int j_shiftLow, .int j_shiftHigh])), (m_now, .inl (kI, 192, .inl g28)), (m_past, .inl (kI, 1920, .inl y5))] H := hP.sub [0, 1, 2] rfl
      have hD9 : va_D A [(h0, .inr (10, [.ref m_now, .ref m_draft, .ref m_past, .int y4, .ref m_images, .ref m_kept, .ref m_tape, .int j_taped, .int j_at, .int j_start, .int j_token, .int j_value, .int j_fault, .int j_place, .int j_latest, .ref m_low, .ref m_high, .ref m_first, .ref m_second, .ref m_lines, .ref m_others, .int j_shiftFirst, .int j_shiftMany, .int j_shiftLow, .int j_shiftHigh])), (m_now, .inl (kI, 192, .inl g28)), (m_past, .inl (kI, 1920, .inl y5))] := hD.sub [0, 1, 2] (by decide) rfl
      have hl9 : lv_has ls 3 [(0, .ref h0), (1, .int i_0), (2, .int x29)] := lv_sub hl [1, 2, 0] rfl
      refine W.widen (k := 0) (n := 0) (Nat.le_of_ble_eq_true rfl) (Nat.le_of_ble_eq_true rfl) ?_
      exact ih22 (x29, g28) _ _ _ (pw_up ex29 (by omega)) ⟨hP9, hD9, hS, hl9, (by omega), (zrI_up hzr (by omega) eg28 (by omega) (pw_add1 ex29 (by omega)))⟩
  · have nc2 : r1.toInt = 0 := pw_eq c2 rfl (by decide)
    refine lv_ldc hx hb hown (hts (.constant RX10 177 (-1000001)) (List.mem_of_getElem? (i := 28) rfl)) dX10_strike_8 ?_
    have hP9 := hP.sub (ws' := [(h0, .inr (10, [.ref m_now, .ref m_draft, .ref m_past, .int j_acts, .ref m_images, .ref m_kept, .ref m_tape, .int j_taped, .int j_at, .int j_start, .int j_token, .int j_value, .int j_fault, .int j_place, .int j_latest, .ref m_low, .ref m_high, .ref m_first, .ref m_second, .ref m_lines, .ref m_others, .int j_shiftFirst, .int j_shiftMany, .int j_shiftLow, .int j_shiftHigh])), (m_now, .inl (kI, 192, .inl g_now)), (m_past, .inl (kI, 1920, .inl g_past))]) [0, 1, 2] rfl
    have hD9 := hD.sub (ws' := [(h0, .inr (10, [.ref m_now, .ref m_draft, .ref m_past, .int j_acts, .ref m_images, .ref m_kept, .ref m_tape, .int j_taped, .int j_at, .int j_start, .int j_token, .int j_value, .int j_fault, .int j_place, .int j_latest, .ref m_low, .ref m_high, .ref m_first, .ref m_second, .ref m_lines, .ref m_others, .int j_shiftFirst, .int j_shiftMany, .int j_shiftLow, .int j_shiftHigh])), (m_now, .inl (kI, 192, .inl g_now)), (m_past, .inl (kI, 1920, .inl g_past))]) [0, 1, 2] (by decide) rfl
    have hK9 := hK.sub (tys' := [(kI, .int)]) [0] rfl
    refine W.widen (k := 0) (n := 0) (Nat.le_of_ble_eq_true rfl) (Nat.le_of_ble_eq_true rfl) ?_
    exact W.iret (v := (-1000001)) hx hb hr (fun t ht hW => ⟨⟨(-1000001), (), rfl, trivial, j_acts, g_now, g_past, by rw [ht]; exact hP9, va_K.moved hW.alike hK9, hD9, hg_now, hN1, (by omega), hPb⟩, hS.F ht⟩) hS.2.2 dX10_strike_10
def w_X10_see : List Cond := .code yX10_see cX10_see 3 (some .int) :: ([.methodLink RX10 145 yX10_isNumber, .static yX10_isNumber, .initialized RX10, .code yX10_isNumber cX10_isNumber 1 (some .boolean), .constantLong RX10 59 (999), .methodLink RX10 51 yX10_in0, .static yX10_in0, .code yX10_in0 cX10_in0 6 (some .boolean), .constant RX10 177 (-1000001), .methodLink RX10 234 yX10_isLine, .instanceMethod yX10_isLine, .selects RX10 yX10_isLine yX10_isLine, .code yX10_isLine cX10_isLine 2 (some .boolean), .fieldLink RX10 7 "LineCitesModel" "now" "[I", .methodLink RX10 205 yX10_notes, .instanceMethod yX10_notes, .selects RX10 yX10_notes yX10_notes, .code yX10_notes cX10_notes 2 none, .fieldLink RX10 195 "LineCitesModel" "acts" "I", .fieldLink RX10 16 "LineCitesModel" "past" "[I", .methodLink RX10 191 yX10_copies, .static yX10_copies, .code yX10_copies cX10_copies 5 none, .constant RX10 178 (-1000003)] ++ wsX100)
set_option maxRecDepth 20000 in
theorem g_X10_see_X10_isNumber : GoodIn w_X10_see (wsS RX10 145 yX10_isNumber w_X10_isNumber) := goodIn_r _ [1, 2, 3, 4, 5, 6, 7, 3, 8] rfl (by decide +kernel)
set_option maxRecDepth 20000 in
theorem g_X10_see_X10_isLine : GoodIn w_X10_see (wsV RX10 234 RX10 yX10_isLine w_X10_isLine) := goodIn_r _ [10, 11, 12, 3, 13, 14, 6, 7, 3, 8, 25, 26, 27, 28, 29, 30, 31, 32, 33, 34, 35, 36, 37, 38, 39, 40, 41, 42, 43, 44, 45, 46, 47, 48, 49] rfl (by decide +kernel)
set_option maxRecDepth 20000 in
theorem g_X10_see_X10_notes : GoodIn w_X10_see (wsV RX10 205 RX10 yX10_notes w_X10_notes) := goodIn_r _ [15, 16, 17, 3, 18, 19, 14, 20, 21, 22, 3, 23, 25, 26, 27, 28, 29, 30, 31, 32, 33, 34, 35, 36, 37, 38, 39, 40, 41, 42, 43, 44, 45, 46, 47, 48, 49] rfl (by decide +kernel)
set_option maxHeartbeats 4000000 in
set_option maxRecDepth 100000 in
theorem c_X10_see (l : Launch) (D : va_G) (h0 : Nat) (i_0 : Int32) (i_1 : Int32) (m_now : Nat) (m_draft : Nat) (m_past : Nat) (j_acts : Int32) (m_images : Nat) (m_kept : Nat) (m_tape : Nat) (j_taped : Int32) (j_at : Int32) (j_start : Int32) (j_token : Int32) (j_value : Int32) (j_fault : Int32) (j_place : Int32) (j_latest : Int32) (m_low : Nat) (m_high : Nat) (m_first : Nat) (m_second : Nat) (m_lines : Nat) (m_others : Nat) (j_shiftFirst : Int32) (j_shiftMany : Int32) (j_shiftLow : Int32) (j_shiftHigh : Int32) (kI : ClassId) (g_now : Nat → Int32) (g_past : Nat → Int32) (sz : Nat) (hN1 : 1 ≤ (g_now 0).toInt) (h0j_acts : 0 ≤ j_acts.toInt) (h1j_acts : j_acts.toInt ≤ 10) (hPb : pB g_past j_acts.toInt) (hg_now : gV g_now) : Met l yX10_see w_X10_see ({ frames := 2, cells := 0, slots := 0, locals := 46 }) (va_Pc [.ref h0, .int i_0, .int i_1] (fun U => U.heap.size = sz ∧ va_P D vwCl [(h0, .inr (10, [.ref m_now, .ref m_draft, .ref m_past, .int j_acts, .ref m_images, .ref m_kept, .ref m_tape, .int j_taped, .int j_at, .int j_start, .int j_token, .int j_value, .int j_fault, .int j_place, .int j_latest, .ref m_low, .ref m_high, .ref m_first, .ref m_second, .ref m_lines, .ref m_others, .int j_shiftFirst, .int j_shiftMany, .int j_shiftLow, .int j_shiftHigh])), (m_now, .inl (kI, 192, .inl g_now)), (m_past, .inl (kI, 1920, .inl g_past))] U.heap ∧ va_K D vwCl [(kI, .int)] U ∧ va_D (fun _ => True) [(h0, .inr (10, [.ref m_now, .ref m_draft, .ref m_past, .int j_acts, .ref m_images, .ref m_kept, .ref m_tape, .int j_taped, .int j_at, .int j_start, .int j_token, .int j_value, .int j_fault, .int j_place, .int j_latest, .ref m_low, .ref m_high, .ref m_first, .ref m_second, .ref m_lines, .ref m_others, .int j_shiftFirst, .int j_shiftMany, .int j_shiftLow, .int j_shiftHigh])), (m_now, .inl (kI, 192, .inl g_now)), (m_past, .inl (kI, 1920, .inl g_past))])) (va_Qi (fun (r : Int32) (_ : Unit) => True) (fun (_ : Unit) t => ∃ (n_acts : Int32) (n_now : Nat → Int32) (n_past : Nat → Int32), va_P D vwCl [(h0, .inr (10, [.ref m_now, .ref m_draft, .ref m_past, .int n_acts, .ref m_images, .ref m_kept, .ref m_tape, .int j_taped, .int j_at, .int j_start, .int j_token, .int j_value, .int j_fault, .int j_place, .int j_latest, .ref m_low, .ref m_high, .ref m_first, .ref m_second, .ref m_lines, .ref m_others, .int j_shiftFirst, .int j_shiftMany, .int j_shiftLow, .int j_shiftHigh])), (m_now, .inl (kI, 192, .inl n_now)), (m_past, .inl (kI, 1920, .inl n_past))] t.heap ∧ va_K D vwCl [(kI, .int)] t ∧ va_D (va_A [(h0, .inr (10, [.ref m_now, .ref m_draft, .ref m_past, .int j_acts, .ref m_images, .ref m_kept, .ref m_tape, .int j_taped, .int j_at, .int j_start, .int j_token, .int j_value, .int j_fault, .int j_place, .int j_latest, .ref m_low, .ref m_high, .ref m_first, .ref m_second, .ref m_lines, .ref m_others, .int j_shiftFirst, .int j_shiftMany, .int j_shiftLow, .int j_shiftHigh])), (m_now, .inl (kI, 192, .inl g_now)), (m_past, .inl (kI, 1920, .inl g_past))] sz) [(h0, .inr (10, [.ref m_now, .ref m_draft, .ref m_past, .int n_acts, .ref m_images, .ref m_kept, .ref m_tape, .int j_taped, .int j_at, .int j_start, .int j_token, .int j_value, .int j_fault, .int j_place, .int j_latest, .ref m_low, .ref m_high, .ref m_first, .ref m_second, .ref m_lines, .ref m_others, .int j_shiftFirst, .int j_shiftMany, .int j_shiftLow, .int j_shiftHigh])), (m_now, .inl (kI, 192, .inl n_now)), (m_past, .inl (kI, 1920, .inl n_past))] ∧ gV n_now ∧ 1 ≤ (n_now 0).toInt ∧ (0 ≤ n_acts.toInt ∧ n_acts.toInt ≤ 10) ∧ pB n_past n_acts.toInt) (va_A [(h0, .inr (10, [.ref m_now, .ref m_draft, .ref m_past, .int j_acts, .ref m_images, .ref m_kept, .ref m_tape, .int j_taped, .int j_at, .int j_start, .int j_token, .int j_value, .int j_fault, .int j_place, .int j_latest, .ref m_low, .ref m_high, .ref m_first, .ref m_second, .ref m_lines, .ref m_others, .int j_shiftFirst, .int j_shiftMany, .int j_shiftLow, .int j_shiftHigh])), (m_now, .inl (kI, 192, .inl g_now)), (m_past, .inl (kI, 1920, .inl g_past))] sz)) 0 0 (va_A [(h0, .inr (10, [.ref m_now, .ref m_draft, .ref m_past, .int j_acts, .ref m_images, .ref m_kept, .ref m_tape, .int j_taped, .int j_at, .int j_start, .int j_token, .int j_value, .int j_fault, .int j_place, .int j_latest, .ref m_low, .ref m_high, .ref m_first, .ref m_second, .ref m_lines, .ref m_others, .int j_shiftFirst, .int j_shiftMany, .int j_shiftLow, .int j_shiftHigh])), (m_now, .inl (kI, 192, .inl g_now)), (m_past, .inl (kI, 1920, .inl g_past))] sz) := by
  refine Met.ofW (cc := cX10_see) (maxL := 3) (ret := (some .int)) (by decide) rfl ?_
  intro p e s m args below meth c s₁ B hml hv
  obtain ⟨rfl, hsz, hP, hK, hD0⟩ := hv
  have hx := B.exec
  have hb := B.bytes
  have hr := B.returns
  have hts := atoms_spec (ws := w_X10_see) B.pre
  have hown : s.vm.findClass RX10 = some m.cls := findClass_of_methodNamed B.named
  have hlocks := B.notSynchronized
  subst hsz
  have hD := hD0.self (sz := s.heap.size)
  generalize hAe : va_A [(h0, .inr (10, [.ref m_now, .ref m_draft, .ref m_past, .int j_acts, .ref m_images, .ref m_kept, .ref m_tape, .int j_taped, .int j_at, .int j_start, .int j_token, .int j_value, .int j_fault, .int j_place, .int j_latest, .ref m_low, .ref m_high, .ref m_first, .ref m_second, .ref m_lines, .ref m_others, .int j_shiftFirst, .int j_shiftMany, .int j_shiftLow, .int j_shiftHigh])), (m_now, .inl (kI, 192, .inl g_now)), (m_past, .inl (kI, 1920, .inl g_past))] s.heap.size = A at hD ⊢
  have hA : ∀ q : Nat, s.heap.size ≤ q → A q := fun q h => by rw [← hAe]; exact Or.inr h
  have hS : va_S A s.heap s.heap [] := va_S.rf
  have hP : va_P D vwCl [(h0, .inr (10, [.ref m_now, .ref m_draft, .ref m_past, .int j_acts, .ref m_images, .ref m_kept, .ref m_tape, .int j_taped, .int j_at, .int j_start, .int j_token, .int j_value, .int j_fault, .int j_place, .int j_latest, .ref m_low, .ref m_high, .ref m_first, .ref m_second, .ref m_lines, .ref m_others, .int j_shiftFirst, .int j_shiftMany, .int j_shiftLow, .int j_shiftHigh])), (m_now, .inl (kI, 192, .inl g_now)), (m_past, .inl (kI, 1920, .inl g_past))] s.heap := hP
  have hl := lv_entry ([.ref h0, .int i_0, .int i_1]) (n := 3) (Nat.le_of_ble_eq_true rfl)
  rw [lg_entry_eq]
  generalize (lg_sl ([.ref h0, .int i_0, .int i_1]) ++ List.replicate (3 - (lg_sl ([.ref h0, .int i_0, .int i_1])).length) Slot.unset).toArray = ls at hl ⊢
  have hl : lv_has ls 3 [(0, .ref h0), (1, .int i_0), (2, .int i_1)] := hl
  obtain ⟨H, hHe⟩ : ∃ H : Heap, H = s.heap := ⟨_, rfl⟩
  rw [← hHe] at hP
  have hS : va_S A s.heap H [] := by rw [hHe]; exact hS
  refine pw_heap hHe ?_
  refine lv_iload_n hx hb dX10_see_0 rfl (lv_at hl 1 rfl) ?_
  have hPc := hP.sub (ws' := []) [] rfl
  have hKc := hK.sub (tys' := []) [] rfl
  refine va_calli (va_runS (As := [.int i_0]) (rest := []) ⟨hx, hb, hml, hown, hts⟩ (c_X10_isNumber l D i_0) (cwS 1 hts g_X10_see_X10_isNumber rfl rfl rfl (by decide +kernel) ⟨Nat.le_of_ble_eq_true rfl, Nat.le_of_ble_eq_true rfl⟩) ⟨fun a U g mk q => by obtain ⟨q0, qP, qK⟩ := q; exact ⟨q0, qP, va_K.moved (u := U) (U := U.calling g mk a) (Vm.Alike.refl U.vm) qK⟩, fun U hU hW => ⟨rfl, by rw [hU]; exact hPc, va_K.moved hW.alike hKc⟩⟩ rfl rfl hl.1 rfl (lv_room (Nat.le_of_ble_eq_true rfl)) dX10_see_1 ⟨Nat.le_of_ble_eq_true rfl, Nat.le_of_ble_eq_true rfl⟩) hS (fun _ _ h => h.elim) (fun _ h => h.elim) (fun r1 u t H1 locs ht hvm hw hB hz1 hk1 hS => ?_)
  have hP := pw_keep hP (fun q hq => hk1 q hq (fun h => h))
  generalize H1 = H at hP hS ⊢
  refine W.widen (k := 0) (n := 0) (Nat.le_of_ble_eq_true rfl) (Nat.le_of_ble_eq_true rfl) ?_
  have bor1 := hw.1
  have zor1 := pw_boolI bor1
  have hfr1 := hw.2
  refine lv_if_eq (tgt := 15) hx hb dX10_see_4 (by decide) (fun c2 => ?_) (fun c2 => ?_)
  · have nc2 : r1.toInt = 0 := pw_eq c2 rfl (by decide)
    refine lv_ldc hx hb hown (hts (.constant RX10 177 (-1000001)) (List.mem_of_getElem? (i := 9) rfl)) dX10_see_15 ?_
    have hP9 := hP.sub (ws' := [(h0, .inr (10, [.ref m_now, .ref m_draft, .ref m_past, .int j_acts, .ref m_images, .ref m_kept, .ref m_tape, .int j_taped, .int j_at, .int j_start, .int j_token, .int j_value, .int j_fault, .int j_place, .int j_latest, .ref m_low, .ref m_high, .ref m_first, .ref m_second, .ref m_lines, .ref m_others, .int j_shiftFirst, .int j_shiftMany, .int j_shiftLow, .int j_shiftHigh])), (m_now, .inl (kI, 192, .inl g_now)), (m_past, .inl (kI, 1920, .inl g_past))]) [0, 1, 2] rfl
    have hD9 := hD.sub (ws' := [(h0, .inr (10, [.ref m_now, .ref m_draft, .ref m_past, .int j_acts, .ref m_images, .ref m_kept, .ref m_tape, .int j_taped, .int j_at, .int j_start, .int j_token, .int j_value, .int j_fault, .int j_place, .int j_latest, .ref m_low, .ref m_high, .ref m_first, .ref m_second, .ref m_lines, .ref m_others, .int j_shiftFirst, .int j_shiftMany, .int j_shiftLow, .int j_shiftHigh])), (m_now, .inl (kI, 192, .inl g_now)), (m_past, .inl (kI, 1920, .inl g_past))]) [0, 1, 2] (by decide) rfl
    have hK9 := hK.sub (tys' := [(kI, .int)]) [0] rfl
    refine W.widen (k := 0) (n := 0) (Nat.le_of_ble_eq_true rfl) (Nat.le_of_ble_eq_true rfl) ?_
    exact W.iret (v := (-1000001)) hx hb hr (fun t ht hW => ⟨⟨(-1000001), (), rfl, trivial, j_acts, g_now, g_past, by rw [ht]; exact hP9, va_K.moved hW.alike hK9, hD9, hg_now, hN1, (by omega), hPb⟩, hS.F ht⟩) hS.2.2 dX10_see_17
  · have nc2 : r1.toInt ≠ 0 := pw_ne c2 rfl (by decide)
    refine lv_aload_n hx hb dX10_see_7 rfl (lv_at hl 0 rfl) ?_
    refine lv_iload_n hx hb dX10_see_8 rfl (lv_at hl 2 rfl) ?_
    have hPc := hP.sub (ws' := [(h0, .inr (10, [.ref m_now, .ref m_draft, .ref m_past, .int j_acts, .ref m_images, .ref m_kept, .ref m_tape, .int j_taped, .int j_at, .int j_start, .int j_token, .int j_value, .int j_fault, .int j_place, .int j_latest, .ref m_low, .ref m_high, .ref m_first, .ref m_second, .ref m_lines, .ref m_others, .int j_shiftFirst, .int j_shiftMany, .int j_shiftLow, .int j_shiftHigh])), (m_now, .inl (kI, 192, .inl g_now))]) [0, 1] rfl
    have hKc := hK.sub (tys' := [(kI, .int)]) [0] rfl
    refine va_calli (va_runV (As := [.int i_1]) (rest := []) ⟨hx, hb, hml, hown, hts⟩ (c_X10_isLine l D h0 i_1 m_now m_draft m_past j_acts m_images m_kept m_tape j_taped j_at j_start j_token j_value j_fault j_place j_latest m_low m_high m_first m_second m_lines m_others j_shiftFirst j_shiftMany j_shiftLow j_shiftHigh kI g_now hg_now) (cwV 1 hts g_X10_see_X10_isLine rfl rfl rfl (by decide +kernel) ⟨Nat.le_of_ble_eq_true rfl, Nat.le_of_ble_eq_true rfl⟩) ⟨fun a U g mk q => by obtain ⟨q0, qP, qK⟩ := q; exact ⟨q0, qP, va_K.moved (u := U) (U := U.calling g mk a) (Vm.Alike.refl U.vm) qK⟩, va_recv hKc hPc (ci := 10) (q0 := 0) rfl rfl, fun U hU hW => ⟨rfl, by rw [hU]; exact hPc, va_K.moved hW.alike hKc⟩⟩ rfl rfl hl.1 rfl (lv_room (Nat.le_of_ble_eq_true rfl)) dX10_see_9 ⟨Nat.le_of_ble_eq_true rfl, Nat.le_of_ble_eq_true rfl⟩) hS (fun _ _ h => h.elim) (fun _ h => h.elim) (fun r3 u t H1 locs ht hvm hw hB hz1 hk1 hS => ?_)
    have hP := pw_keep hP (fun q hq => hk1 q hq (fun h => h))
    generalize H1 = H at hP hS ⊢
    refine W.widen (k := 0) (n := 0) (Nat.le_of_ble_eq_true rfl) (Nat.le_of_ble_eq_true rfl) ?_
    have bor3 := hw.1
    have zor3 := pw_boolI bor3
    have hfr3 := hw.2
    refine lv_if_ne (tgt := 18) hx hb dX10_see_12 (by decide) (fun c4 => ?_) (fun c4 => ?_)
    · have nc4 : r3.toInt ≠ 0 := pw_ne c4 rfl (by decide)
      refine lv_aload_n hx hb dX10_see_18 rfl (lv_at hl 0 rfl) ?_
      refine va_get (D := D) (ci := 10) (v := .ref m_now) (C := RX10) (T := TX10) (N := 25) hx hb hts (fun _ h => List.mem_cons_of_mem _ (List.mem_append_right _ h)) hown hK hP 0 rfl rfl 0 (by decide) (hts (.fieldLink RX10 7 "LineCitesModel" "now" "[I") (List.mem_of_getElem? (i := 14) rfl)) (fun _ h9 => h9) rfl dX10_see_19 ?_
      refine lv_iconst (v := 2) hx hb dX10_see_22 (by decide) ?_
      refine va_iald hx hb hK hP 1 0 rfl rfl (vp_in_iff.mpr (by decide)) dX10_see_23 ?_
      refine lv_topi (fun x5 ex5 => ?_)
      have nx5 : 0 ≤ x5.toInt ∧ x5.toInt ≤ 12 := gV_2 hg_now ex5
      refine lv_bipush (v := 12) hx hb dX10_see_24 (by decide) ?_
      refine lv_icmp_ne (tgt := 32) hx hb dX10_see_26 (by decide) (fun c6 => ?_) (fun c6 => ?_)
      · have nc6 : x5.toInt ≠ 12 := pw_ne c6 rfl (by decide)
        refine lv_aload_n hx hb dX10_see_32 rfl (lv_at hl 0 rfl) ?_
        have hPc := hP.sub (ws' := [(h0, .inr (10, [.ref m_now, .ref m_draft, .ref m_past, .int j_acts, .ref m_images, .ref m_kept, .ref m_tape, .int j_taped, .int j_at, .int j_start, .int j_token, .int j_value, .int j_fault, .int j_place, .int j_latest, .ref m_low, .ref m_high, .ref m_first, .ref m_second, .ref m_lines, .ref m_others, .int j_shiftFirst, .int j_shiftMany, .int j_shiftLow, .int j_shiftHigh])), (m_now, .inl (kI, 192, .inl g_now)), (m_past, .inl (kI, 1920, .inl g_past))]) [0, 1, 2] rfl
        have hKc := hK.sub (tys' := [(kI, .int)]) [0] rfl
        have hDc := hD.sub (ws' := [(h0, .inr (10, [.ref m_now, .ref m_draft, .ref m_past, .int j_acts, .ref m_images, .ref m_kept, .ref m_tape, .int j_taped, .int j_at, .int j_start, .int j_token, .int j_value, .int j_fault, .int j_place, .int j_latest, .ref m_low, .ref m_high, .ref m_first, .ref m_second, .ref m_lines, .ref m_others, .int j_shiftFirst, .int j_shiftMany, .int j_shiftLow, .int j_shiftHigh])), (m_now, .inl (kI, 192, .inl g_now)), (m_past, .inl (kI, 1920, .inl g_past))]) [0, 1, 2] (by decide) rfl
        have hFc := va_free (wc := [(h0, .inr (10, [.ref m_now, .ref m_draft, .ref m_past, .int j_acts, .ref m_images, .ref m_kept, .ref m_tape, .int j_taped, .int j_at, .int j_start, .int j_token, .int j_value, .int j_fault, .int j_place, .int j_latest, .ref m_low, .ref m_high, .ref m_first, .ref m_second, .ref m_lines, .ref m_others, .int j_shiftFirst, .int j_shiftMany, .int j_shiftLow, .int j_shiftHigh])), (m_now, .inl (kI, 192, .inl g_now)), (m_past, .inl (kI, 1920, .inl g_past))]) hD hS hA [0, 1, 2] rfl
        refine va_callv (va_runV (As := []) (rest := []) ⟨hx, hb, hml, hown, hts⟩ (c_X10_notes l D h0 m_now m_draft m_past j_acts m_images m_kept m_tape j_taped j_at j_start j_token j_value j_fault j_place j_latest m_low m_high m_first m_second m_lines m_others j_shiftFirst j_shiftMany j_shiftLow j_shiftHigh kI g_now g_past H.size hN1 (by first | decide | omega) (by first | decide | omega) hPb hg_now) (cwV 0 hts g_X10_see_X10_notes rfl rfl rfl (by decide +kernel) ⟨Nat.le_of_ble_eq_true rfl, Nat.le_of_ble_eq_true rfl⟩) ⟨fun a U g mk q => by obtain ⟨q0, q1, qP, qK, qD⟩ := q; exact ⟨q0, q1, qP, va_K.moved (u := U) (U := U.calling g mk a) (Vm.Alike.refl U.vm) qK, qD⟩, va_recv hKc hPc (ci := 10) (q0 := 0) rfl rfl, fun U hU hW => ⟨rfl, by rw [hU], by rw [hU]; exact hPc, va_K.moved hW.alike hKc, hDc.weaken (fun _ _ _ _ => trivial)⟩⟩ rfl rfl hl.1 rfl (lv_room (Nat.le_of_ble_eq_true rfl)) dX10_see_33 ⟨Nat.le_of_ble_eq_true rfl, Nat.le_of_ble_eq_true rfl⟩) hS (fun q _ h => hFc q h) hFc (fun u t H1 locs ht hvm hw hB hz1 hk1 hS => ?_)
        obtain ⟨y8, y9, hP1, hK1, hD1, px0_r7, px1_r7⟩ := hB
        rw [ht] at hP1
        have hK1 := va_K.moved hvm.symm hK1
        obtain ⟨hP, hD⟩ := va_join (wr := []) (w1 := [(h0, .inr (10, [.ref m_now, .ref m_draft, .ref m_past, .int y8, .ref m_images, .ref m_kept, .ref m_tape, .int j_taped, .int j_at, .int j_start, .int j_token, .int j_value, .int j_fault, .int j_place, .int j_latest, .ref m_low, .ref m_high, .ref m_first, .ref m_second, .ref m_lines, .ref m_others, .int j_shiftFirst, .int j_shiftMany, .int j_shiftLow, .int j_shiftHigh])), (m_now, .inl (kI, 192, .inl g_now)), (m_past, .inl (kI, 1920, .inl y9))]) hP hD [0, 1, 2] [] rfl rfl (by decide) (by decide) hk1 hFc hP1 hD1
        have hK := (hK.sub (tys' := [(kI, .int)]) [0] rfl).app hK1
        generalize H1 = H at hP hS ⊢
        have hP : va_P D vwCl [(h0, .inr (10, [.ref m_now, .ref m_draft, .ref m_past, .int y8, .ref m_images, .ref m_kept, .ref m_tape, .int j_taped, .int j_at, .int j_start, .int j_token, .int j_value, .int j_fault, .int j_place, .int j_latest, .ref m_low, .ref m_high, .ref m_first, .ref m_second, .ref m_lines, .ref m_others, .int j_shiftFirst, .int j_shiftMany, .int j_shiftLow, .int j_shiftHigh])), (m_now, .inl (kI, 192, .inl g_now)), (m_past, .inl (kI, 1920, .inl y9))] H := hP
        have hD : va_D A [(h0, .inr (10, [.ref m_now, .ref m_draft, .ref m_past, .int y8, .ref m_images, .ref m_kept, .ref m_tape, .int j_taped, .int j_at, .int j_start, .int j_token, .int j_value, .int j_fault, .int j_place, .int j_latest, .ref m_low, .ref m_high, .ref m_first, .ref m_second, .ref m_lines, .ref m_others, .int j_shiftFirst, .int j_shiftMany, .int j_shiftLow, .int j_shiftHigh])), (m_now, .inl (kI, 192, .inl g_now)), (m_past, .inl (kI, 1920, .inl y9))] := hD
        have hK : va_K D vwCl [(kI, .int), (kI, .int)] s := hK
        refine W.widen (k := 0) (n := 0) (Nat.le_of_ble_eq_true rfl) (Nat.le_of_ble_eq_true rfl) ?_
        refine lv_aload_n hx hb dX10_see_36 rfl (lv_at hl 0 rfl) ?_
        refine va_get (D := D) (ci := 10) (v := .ref m_now) (C := RX10) (T := TX10) (N := 25) hx hb hts (fun _ h => List.mem_cons_of_mem _ (List.mem_append_right _ h)) hown hK hP 0 rfl rfl 0 (by decide) (hts (.fieldLink RX10 7 "LineCitesModel" "now" "[I") (List.mem_of_getElem? (i := 14) rfl)) (fun _ h9 => h9) rfl dX10_see_37 ?_
        refine lv_sipush (v := 168) hx hb dX10_see_40 (by decide) ?_
        refine lv_iconst (v := 2) hx hb dX10_see_43 (by decide) ?_
        refine lv_aload_n hx hb dX10_see_44 rfl (lv_at hl 0 rfl) ?_
        refine va_get (D := D) (ci := 10) (v := .ref m_now) (C := RX10) (T := TX10) (N := 25) hx hb hts (fun _ h => List.mem_cons_of_mem _ (List.mem_append_right _ h)) hown hK hP 0 rfl rfl 0 (by decide) (hts (.fieldLink RX10 7 "LineCitesModel" "now" "[I") (List.mem_of_getElem? (i := 14) rfl)) (fun _ h9 => h9) rfl dX10_see_45 ?_
        refine lv_iconst (v := 2) hx hb dX10_see_48 (by decide) ?_
        refine va_iald hx hb hK hP 1 0 rfl rfl (vp_in_iff.mpr (by decide)) dX10_see_49 ?_
        refine lv_topi (fun x10 ex10 => ?_)
        have qx10 : x10.toInt = x5.toInt := by rw [ex10, ex5]
        refine lv_imul hx hb dX10_see_50 ?_
        refine lv_topi (fun x11 ex11 => ?_)
        have tx11 : x11.toInt = 2 * x10.toInt := pw_mulX ex11 (by decide) rfl (by omega) (by omega)
        refine lv_iadd hx hb dX10_see_51 ?_
        refine lv_topi (fun x12 ex12 => ?_)
        have tx12 : x12.toInt = 168 + x11.toInt := pw_addX ex12 (by decide) rfl (by omega) (by omega)
        refine lv_iload_n hx hb dX10_see_52 rfl (lv_at hl 1 rfl) ?_
        refine va_iast hx hb hK hP hD hS 1 0 rfl rfl (vp_in_iff.mpr ⟨by omega, by omega⟩) dX10_see_53 (fun H locs hP hD hS => ?_)
        obtain ⟨g13, eg13⟩ : ∃ g : Nat → Int32, g = upd g_now (x12 : Int32).toNatClampNeg i_0 := ⟨_, rfl⟩
        have hP : va_P D vwCl [(h0, .inr (10, [.ref m_now, .ref m_draft, .ref m_past, .int y8, .ref m_images, .ref m_kept, .ref m_tape, .int j_taped, .int j_at, .int j_start, .int j_token, .int j_value, .int j_fault, .int j_place, .int j_latest, .ref m_low, .ref m_high, .ref m_first, .ref m_second, .ref m_lines, .ref m_others, .int j_shiftFirst, .int j_shiftMany, .int j_shiftLow, .int j_shiftHigh])), (m_now, .inl (kI, 192, .inl (upd g_now (x12 : Int32).toNatClampNeg i_0))), (m_past, .inl (kI, 1920, .inl y9))] H := hP
        have hD : va_D A [(h0, .inr (10, [.ref m_now, .ref m_draft, .ref m_past, .int y8, .ref m_images, .ref m_kept, .ref m_tape, .int j_taped, .int j_at, .int j_start, .int j_token, .int j_value, .int j_fault, .int j_place, .int j_latest, .ref m_low, .ref m_high, .ref m_first, .ref m_second, .ref m_lines, .ref m_others, .int j_shiftFirst, .int j_shiftMany, .int j_shiftLow, .int j_shiftHigh])), (m_now, .inl (kI, 192, .inl (upd g_now (x12 : Int32).toNatClampNeg i_0))), (m_past, .inl (kI, 1920, .inl y9))] := hD
        have hK : va_K D vwCl [(kI, .int), (kI, .int)] s := hK
        rw [← eg13] at hP hD
        refine lv_aload_n hx hb dX10_see_54 rfl (lv_at hl 0 rfl) ?_
        refine va_get (D := D) (ci := 10) (v := .ref m_now) (C := RX10) (T := TX10) (N := 25) hx hb hts (fun _ h => List.mem_cons_of_mem _ (List.mem_append_right _ h)) hown hK hP 0 rfl rfl 0 (by decide) (hts (.fieldLink RX10 7 "LineCitesModel" "now" "[I") (List.mem_of_getElem? (i := 14) rfl)) (fun _ h9 => h9) rfl dX10_see_55 ?_
        refine lv_sipush (v := 168) hx hb dX10_see_58 (by decide) ?_
        refine lv_iconst (v := 2) hx hb dX10_see_61 (by decide) ?_
        refine lv_aload_n hx hb dX10_see_62 rfl (lv_at hl 0 rfl) ?_
        refine va_get (D := D) (ci := 10) (v := .ref m_now) (C := RX10) (T := TX10) (N := 25) hx hb hts (fun _ h => List.mem_cons_of_mem _ (List.mem_append_right _ h)) hown hK hP 0 rfl rfl 0 (by decide) (hts (.fieldLink RX10 7 "LineCitesModel" "now" "[I") (List.mem_of_getElem? (i := 14) rfl)) (fun _ h9 => h9) rfl dX10_see_63 ?_
        refine lv_iconst (v := 2) hx hb dX10_see_66 (by decide) ?_
        refine va_iald hx hb hK hP 1 0 rfl rfl (vp_in_iff.mpr (by decide)) dX10_see_67 ?_
        refine lv_topi (fun x14 ex14 => ?_)
        have qx14 : x14.toInt = x10.toInt := upd_o2 eg13 ex14 (by omega) ex10
        refine lv_imul hx hb dX10_see_68 ?_
        refine lv_topi (fun x15 ex15 => ?_)
        have tx15 : x15.toInt = 2 * x14.toInt := pw_mulX ex15 (by decide) rfl (by omega) (by omega)
        refine lv_iadd hx hb dX10_see_69 ?_
        refine lv_topi (fun x16 ex16 => ?_)
        have tx16 : x16.toInt = 168 + x15.toInt := pw_addX ex16 (by decide) rfl (by omega) (by omega)
        refine lv_iconst (v := 1) hx hb dX10_see_70 (by decide) ?_
        refine lv_iadd hx hb dX10_see_71 ?_
        refine lv_topi (fun x17 ex17 => ?_)
        have tx17 : x17.toInt = x16.toInt + 1 := pw_addX ex17 rfl (by decide) (by omega) (by omega)
        refine lv_iload_n hx hb dX10_see_72 rfl (lv_at hl 2 rfl) ?_
        refine va_iast hx hb hK hP hD hS 1 0 rfl rfl (vp_in_iff.mpr ⟨by omega, by omega⟩) dX10_see_73 (fun H locs hP hD hS => ?_)
        obtain ⟨g18, eg18⟩ : ∃ g : Nat → Int32, g = upd g13 (x17 : Int32).toNatClampNeg i_1 := ⟨_, rfl⟩
        have hP : va_P D vwCl [(h0, .inr (10, [.ref m_now, .ref m_draft, .ref m_past, .int y8, .ref m_images, .ref m_kept, .ref m_tape, .int j_taped, .int j_at, .int j_start, .int j_token, .int j_value, .int j_fault, .int j_place, .int j_latest, .ref m_low, .ref m_high, .ref m_first, .ref m_second, .ref m_lines, .ref m_others, .int j_shiftFirst, .int j_shiftMany, .int j_shiftLow, .int j_shiftHigh])), (m_now, .inl (kI, 192, .inl (upd g13 (x17 : Int32).toNatClampNeg i_1))), (m_past, .inl (kI, 1920, .inl y9))] H := hP
        have hD : va_D A [(h0, .inr (10, [.ref m_now, .ref m_draft, .ref m_past, .int y8, .ref m_images, .ref m_kept, .ref m_tape, .int j_taped, .int j_at, .int j_start, .int j_token, .int j_value, .int j_fault, .int j_place, .int j_latest, .ref m_low, .ref m_high, .ref m_first, .ref m_second, .ref m_lines, .ref m_others, .int j_shiftFirst, .int j_shiftMany, .int j_shiftLow, .int j_shiftHigh])), (m_now, .inl (kI, 192, .inl (upd g13 (x17 : Int32).toNatClampNeg i_1))), (m_past, .inl (kI, 1920, .inl y9))] := hD
        have hK : va_K D vwCl [(kI, .int), (kI, .int)] s := hK
        rw [← eg18] at hP hD
        refine lv_aload_n hx hb dX10_see_74 rfl (lv_at hl 0 rfl) ?_
        refine va_get (D := D) (ci := 10) (v := .ref m_now) (C := RX10) (T := TX10) (N := 25) hx hb hts (fun _ h => List.mem_cons_of_mem _ (List.mem_append_right _ h)) hown hK hP 0 rfl rfl 0 (by decide) (hts (.fieldLink RX10 7 "LineCitesModel" "now" "[I") (List.mem_of_getElem? (i := 14) rfl)) (fun _ h9 => h9) rfl dX10_see_75 ?_
        refine lv_iconst (v := 2) hx hb dX10_see_78 (by decide) ?_
        refine lv_dup2_11 hx hb dX10_see_79 rfl rfl ?_
        refine va_iald hx hb hK hP 1 0 rfl rfl (vp_in_iff.mpr (by decide)) dX10_see_80 ?_
        refine lv_topi (fun x19 ex19 => ?_)
        refine lv_iconst (v := 1) hx hb dX10_see_81 (by decide) ?_
        refine lv_iadd hx hb dX10_see_82 ?_
        refine lv_topi (fun x20 ex20 => ?_)
        refine va_iast hx hb hK hP hD hS 1 0 rfl rfl (vp_in_iff.mpr (by decide)) dX10_see_83 (fun H locs hP hD hS => ?_)
        obtain ⟨g21, eg21⟩ : ∃ g : Nat → Int32, g = upd g18 (2 : Int32).toNatClampNeg x20 := ⟨_, rfl⟩
        have hP : va_P D vwCl [(h0, .inr (10, [.ref m_now, .ref m_draft, .ref m_past, .int y8, .ref m_images, .ref m_kept, .ref m_tape, .int j_taped, .int j_at, .int j_start, .int j_token, .int j_value, .int j_fault, .int j_place, .int j_latest, .ref m_low, .ref m_high, .ref m_first, .ref m_second, .ref m_lines, .ref m_others, .int j_shiftFirst, .int j_shiftMany, .int j_shiftLow, .int j_shiftHigh])), (m_now, .inl (kI, 192, .inl (upd g18 (2 : Int32).toNatClampNeg x20))), (m_past, .inl (kI, 1920, .inl y9))] H := hP
        have hD : va_D A [(h0, .inr (10, [.ref m_now, .ref m_draft, .ref m_past, .int y8, .ref m_images, .ref m_kept, .ref m_tape, .int j_taped, .int j_at, .int j_start, .int j_token, .int j_value, .int j_fault, .int j_place, .int j_latest, .ref m_low, .ref m_high, .ref m_first, .ref m_second, .ref m_lines, .ref m_others, .int j_shiftFirst, .int j_shiftMany, .int j_shiftLow, .int j_shiftHigh])), (m_now, .inl (kI, 192, .inl (upd g18 (2 : Int32).toNatClampNeg x20))), (m_past, .inl (kI, 1920, .inl y9))] := hD
        have hK : va_K D vwCl [(kI, .int), (kI, .int)] s := hK
        rw [← eg21] at hP hD
        refine lv_aload_n hx hb dX10_see_84 rfl (lv_at hl 0 rfl) ?_
        refine va_get (D := D) (ci := 10) (v := .ref m_now) (C := RX10) (T := TX10) (N := 25) hx hb hts (fun _ h => List.mem_cons_of_mem _ (List.mem_append_right _ h)) hown hK hP 0 rfl rfl 0 (by decide) (hts (.fieldLink RX10 7 "LineCitesModel" "now" "[I") (List.mem_of_getElem? (i := 14) rfl)) (fun _ h9 => h9) rfl dX10_see_85 ?_
        refine lv_iconst (v := 2) hx hb dX10_see_88 (by decide) ?_
        refine va_iald hx hb hK hP 1 0 rfl rfl (vp_in_iff.mpr (by decide)) dX10_see_89 ?_
        refine lv_topi (fun x22 ex22 => ?_)
        have hgd := gV_se (n := x10.toInt) hg_now ex10 rfl (by omega) (by omega) eg13 (by omega) ex14 eg18 (by intro q; omega) ex19 ex20 eg21 (by omega) (by omega)
        have hg21 := hgd.1
        have hz0 := hgd.2
        have hP9 := hP.sub (ws' := [(h0, .inr (10, [.ref m_now, .ref m_draft, .ref m_past, .int y8, .ref m_images, .ref m_kept, .ref m_tape, .int j_taped, .int j_at, .int j_start, .int j_token, .int j_value, .int j_fault, .int j_place, .int j_latest, .ref m_low, .ref m_high, .ref m_first, .ref m_second, .ref m_lines, .ref m_others, .int j_shiftFirst, .int j_shiftMany, .int j_shiftLow, .int j_shiftHigh])), (m_now, .inl (kI, 192, .inl g21)), (m_past, .inl (kI, 1920, .inl y9))]) [0, 1, 2] rfl
        have hD9 := hD.sub (ws' := [(h0, .inr (10, [.ref m_now, .ref m_draft, .ref m_past, .int y8, .ref m_images, .ref m_kept, .ref m_tape, .int j_taped, .int j_at, .int j_start, .int j_token, .int j_value, .int j_fault, .int j_place, .int j_latest, .ref m_low, .ref m_high, .ref m_first, .ref m_second, .ref m_lines, .ref m_others, .int j_shiftFirst, .int j_shiftMany, .int j_shiftLow, .int j_shiftHigh])), (m_now, .inl (kI, 192, .inl g21)), (m_past, .inl (kI, 1920, .inl y9))]) [0, 1, 2] (by decide) rfl
        have hK9 := hK.sub (tys' := [(kI, .int)]) [0] rfl
        refine W.widen (k := 0) (n := 0) (Nat.le_of_ble_eq_true rfl) (Nat.le_of_ble_eq_true rfl) ?_
        exact W.iret (v := x22) hx hb hr (fun t ht hW => ⟨⟨x22, (), rfl, trivial, y8, g21, y9, by rw [ht]; exact hP9, va_K.moved hW.alike hK9, hD9, hg21, (by rw [hz0]; exact hN1), px0_r7, px1_r7⟩, hS.F ht⟩) hS.2.2 dX10_see_90
      · have nc6 : x5.toInt = 12 := pw_eq c6 rfl (by decide)
        refine lv_ldc hx hb hown (hts (.constant RX10 178 (-1000003)) (List.mem_of_getElem? (i := 24) rfl)) dX10_see_29 ?_
        have hP9 := hP.sub (ws' := [(h0, .inr (10, [.ref m_now, .ref m_draft, .ref m_past, .int j_acts, .ref m_images, .ref m_kept, .ref m_tape, .int j_taped, .int j_at, .int j_start, .int j_token, .int j_value, .int j_fault, .int j_place, .int j_latest, .ref m_low, .ref m_high, .ref m_first, .ref m_second, .ref m_lines, .ref m_others, .int j_shiftFirst, .int j_shiftMany, .int j_shiftLow, .int j_shiftHigh])), (m_now, .inl (kI, 192, .inl g_now)), (m_past, .inl (kI, 1920, .inl g_past))]) [0, 1, 2] rfl
        have hD9 := hD.sub (ws' := [(h0, .inr (10, [.ref m_now, .ref m_draft, .ref m_past, .int j_acts, .ref m_images, .ref m_kept, .ref m_tape, .int j_taped, .int j_at, .int j_start, .int j_token, .int j_value, .int j_fault, .int j_place, .int j_latest, .ref m_low, .ref m_high, .ref m_first, .ref m_second, .ref m_lines, .ref m_others, .int j_shiftFirst, .int j_shiftMany, .int j_shiftLow, .int j_shiftHigh])), (m_now, .inl (kI, 192, .inl g_now)), (m_past, .inl (kI, 1920, .inl g_past))]) [0, 1, 2] (by decide) rfl
        have hK9 := hK.sub (tys' := [(kI, .int)]) [0] rfl
        refine W.widen (k := 0) (n := 0) (Nat.le_of_ble_eq_true rfl) (Nat.le_of_ble_eq_true rfl) ?_
        exact W.iret (v := (-1000003)) hx hb hr (fun t ht hW => ⟨⟨(-1000003), (), rfl, trivial, j_acts, g_now, g_past, by rw [ht]; exact hP9, va_K.moved hW.alike hK9, hD9, hg_now, hN1, (by omega), hPb⟩, hS.F ht⟩) hS.2.2 dX10_see_31
    · have nc4 : r3.toInt = 0 := pw_eq c4 rfl (by decide)
      refine lv_ldc hx hb hown (hts (.constant RX10 177 (-1000001)) (List.mem_of_getElem? (i := 9) rfl)) dX10_see_15 ?_
      have hP9 := hP.sub (ws' := [(h0, .inr (10, [.ref m_now, .ref m_draft, .ref m_past, .int j_acts, .ref m_images, .ref m_kept, .ref m_tape, .int j_taped, .int j_at, .int j_start, .int j_token, .int j_value, .int j_fault, .int j_place, .int j_latest, .ref m_low, .ref m_high, .ref m_first, .ref m_second, .ref m_lines, .ref m_others, .int j_shiftFirst, .int j_shiftMany, .int j_shiftLow, .int j_shiftHigh])), (m_now, .inl (kI, 192, .inl g_now)), (m_past, .inl (kI, 1920, .inl g_past))]) [0, 1, 2] rfl
      have hD9 := hD.sub (ws' := [(h0, .inr (10, [.ref m_now, .ref m_draft, .ref m_past, .int j_acts, .ref m_images, .ref m_kept, .ref m_tape, .int j_taped, .int j_at, .int j_start, .int j_token, .int j_value, .int j_fault, .int j_place, .int j_latest, .ref m_low, .ref m_high, .ref m_first, .ref m_second, .ref m_lines, .ref m_others, .int j_shiftFirst, .int j_shiftMany, .int j_shiftLow, .int j_shiftHigh])), (m_now, .inl (kI, 192, .inl g_now)), (m_past, .inl (kI, 1920, .inl g_past))]) [0, 1, 2] (by decide) rfl
      have hK9 := hK.sub (tys' := [(kI, .int)]) [0] rfl
      refine W.widen (k := 0) (n := 0) (Nat.le_of_ble_eq_true rfl) (Nat.le_of_ble_eq_true rfl) ?_
      exact W.iret (v := (-1000001)) hx hb hr (fun t ht hW => ⟨⟨(-1000001), (), rfl, trivial, j_acts, g_now, g_past, by rw [ht]; exact hP9, va_K.moved hW.alike hK9, hD9, hg_now, hN1, (by omega), hPb⟩, hS.F ht⟩) hS.2.2 dX10_see_17
