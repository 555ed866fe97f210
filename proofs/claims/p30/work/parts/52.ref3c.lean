theorem dX10_shift_0 : decode cX10_shift 0 = .ok (.aload_n 0, 1) := by decide +kernel
theorem dX10_shift_1 : decode cX10_shift 1 = .ok (.iload_n 1, 1) := by decide +kernel
theorem dX10_shift_2 : decode cX10_shift 2 = .ok (.invokevirtual 55, 3) := by decide +kernel
theorem dX10_shift_5 : decode cX10_shift 5 = .ok (.ifCond .eq 37, 3) := by decide +kernel
theorem dX10_shift_8 : decode cX10_shift 8 = .ok (.aload_n 0, 1) := by decide +kernel
theorem dX10_shift_9 : decode cX10_shift 9 = .ok (.iload_n 2, 1) := by decide +kernel
theorem dX10_shift_10 : decode cX10_shift 10 = .ok (.invokevirtual 55, 3) := by decide +kernel
theorem dX10_shift_13 : decode cX10_shift 13 = .ok (.ifCond .eq 29, 3) := by decide +kernel
theorem dX10_shift_16 : decode cX10_shift 16 = .ok (.iload_n 3, 1) := by decide +kernel
theorem dX10_shift_17 : decode cX10_shift 17 = .ok (.iconst (-1), 1) := by decide +kernel
theorem dX10_shift_18 : decode cX10_shift 18 = .ok (.if_icmp .lt 24, 3) := by decide +kernel
theorem dX10_shift_21 : decode cX10_shift 21 = .ok (.iload 4, 2) := by decide +kernel
theorem dX10_shift_23 : decode cX10_shift 23 = .ok (.i2l, 1) := by decide +kernel
theorem dX10_shift_24 : decode cX10_shift 24 = .ok (.lconst 0, 1) := by decide +kernel
theorem dX10_shift_25 : decode cX10_shift 25 = .ok (.iload_n 3, 1) := by decide +kernel
theorem dX10_shift_26 : decode cX10_shift 26 = .ok (.ifCond .ge 7, 3) := by decide +kernel
theorem dX10_shift_29 : decode cX10_shift 29 = .ok (.lconst 0, 1) := by decide +kernel
theorem dX10_shift_30 : decode cX10_shift 30 = .ok (.goto 6, 3) := by decide +kernel
theorem dX10_shift_33 : decode cX10_shift 33 = .ok (.ldc2_w 219, 3) := by decide +kernel
theorem dX10_shift_36 : decode cX10_shift 36 = .ok (.invokestatic 51, 3) := by decide +kernel
theorem dX10_shift_39 : decode cX10_shift 39 = .ok (.ifCond .ne 6, 3) := by decide +kernel
theorem dX10_shift_42 : decode cX10_shift 42 = .ok (.ldc 177, 2) := by decide +kernel
theorem dX10_shift_44 : decode cX10_shift 44 = .ok (.ireturn, 1) := by decide +kernel
theorem dX10_shift_45 : decode cX10_shift 45 = .ok (.aload_n 0, 1) := by decide +kernel
theorem dX10_shift_46 : decode cX10_shift 46 = .ok (.invokevirtual 221, 3) := by decide +kernel
theorem dX10_shift_49 : decode cX10_shift 49 = .ok (.iconst 0, 1) := by decide +kernel
theorem dX10_shift_50 : decode cX10_shift 50 = .ok (.istore 5, 2) := by decide +kernel
theorem dX10_shift_52 : decode cX10_shift 52 = .ok (.aload_n 0, 1) := by decide +kernel
theorem dX10_shift_53 : decode cX10_shift 53 = .ok (.iconst 0, 1) := by decide +kernel
theorem dX10_shift_54 : decode cX10_shift 54 = .ok (.putfield 264, 3) := by decide +kernel
theorem dX10_shift_57 : decode cX10_shift 57 = .ok (.iconst 1, 1) := by decide +kernel
theorem dX10_shift_58 : decode cX10_shift 58 = .ok (.istore 6, 2) := by decide +kernel
theorem dX10_shift_60 : decode cX10_shift 60 = .ok (.iload 6, 2) := by decide +kernel
theorem dX10_shift_62 : decode cX10_shift 62 = .ok (.sipush 1000, 3) := by decide +kernel
theorem dX10_shift_65 : decode cX10_shift 65 = .ok (.if_icmp .ge 104, 3) := by decide +kernel
theorem dX10_shift_68 : decode cX10_shift 68 = .ok (.aload_n 0, 1) := by decide +kernel
theorem dX10_shift_69 : decode cX10_shift 69 = .ok (.getfield 35, 3) := by decide +kernel
theorem dX10_shift_72 : decode cX10_shift 72 = .ok (.invokestatic 87, 3) := by decide +kernel
theorem dX10_shift_75 : decode cX10_shift 75 = .ok (.aload_n 0, 1) := by decide +kernel
theorem dX10_shift_76 : decode cX10_shift 76 = .ok (.iload_n 1, 1) := by decide +kernel
theorem dX10_shift_77 : decode cX10_shift 77 = .ok (.iload 6, 2) := by decide +kernel
theorem dX10_shift_79 : decode cX10_shift 79 = .ok (.iload_n 2, 1) := by decide +kernel
theorem dX10_shift_80 : decode cX10_shift 80 = .ok (.aload_n 0, 1) := by decide +kernel
theorem dX10_shift_81 : decode cX10_shift 81 = .ok (.getfield 35, 3) := by decide +kernel
theorem dX10_shift_84 : decode cX10_shift 84 = .ok (.invokevirtual 91, 3) := by decide +kernel
theorem dX10_shift_87 : decode cX10_shift 87 = .ok (.aload_n 0, 1) := by decide +kernel
theorem dX10_shift_88 : decode cX10_shift 88 = .ok (.getfield 35, 3) := by decide +kernel
theorem dX10_shift_91 : decode cX10_shift 91 = .ok (.invokestatic 81, 3) := by decide +kernel
theorem dX10_shift_94 : decode cX10_shift 94 = .ok (.istore 7, 2) := by decide +kernel
theorem dX10_shift_96 : decode cX10_shift 96 = .ok (.iload 7, 2) := by decide +kernel
theorem dX10_shift_98 : decode cX10_shift 98 = .ok (.ldc 61, 2) := by decide +kernel
theorem dX10_shift_100 : decode cX10_shift 100 = .ok (.if_icmp .eq 63, 3) := by decide +kernel
theorem dX10_shift_103 : decode cX10_shift 103 = .ok (.aload_n 0, 1) := by decide +kernel
theorem dX10_shift_104 : decode cX10_shift 104 = .ok (.getfield 264, 3) := by decide +kernel
theorem dX10_shift_107 : decode cX10_shift 107 = .ok (.ifCond .ne 8, 3) := by decide +kernel
theorem dX10_shift_110 : decode cX10_shift 110 = .ok (.ldc 61, 2) := by decide +kernel
theorem dX10_shift_112 : decode cX10_shift 112 = .ok (.goto 9, 3) := by decide +kernel
theorem dX10_shift_115 : decode cX10_shift 115 = .ok (.aload_n 0, 1) := by decide +kernel
theorem dX10_shift_116 : decode cX10_shift 116 = .ok (.iload 4, 2) := by decide +kernel
theorem dX10_shift_118 : decode cX10_shift 118 = .ok (.invokevirtual 276, 3) := by decide +kernel
theorem dX10_shift_121 : decode cX10_shift 121 = .ok (.istore 8, 2) := by decide +kernel
theorem dX10_shift_123 : decode cX10_shift 123 = .ok (.aload_n 0, 1) := by decide +kernel
theorem dX10_shift_124 : decode cX10_shift 124 = .ok (.iload 6, 2) := by decide +kernel
theorem dX10_shift_126 : decode cX10_shift 126 = .ok (.iload 7, 2) := by decide +kernel
theorem dX10_shift_128 : decode cX10_shift 128 = .ok (.aload_n 0, 1) := by decide +kernel
theorem dX10_shift_129 : decode cX10_shift 129 = .ok (.getfield 35, 3) := by decide +kernel
theorem dX10_shift_132 : decode cX10_shift 132 = .ok (.invokestatic 84, 3) := by decide +kernel
theorem dX10_shift_135 : decode cX10_shift 135 = .ok (.invokevirtual 279, 3) := by decide +kernel
theorem dX10_shift_138 : decode cX10_shift 138 = .ok (.istore 9, 2) := by decide +kernel
theorem dX10_shift_140 : decode cX10_shift 140 = .ok (.iload 9, 2) := by decide +kernel
theorem dX10_shift_142 : decode cX10_shift 142 = .ok (.ifCond .ne 21, 3) := by decide +kernel
theorem dX10_shift_145 : decode cX10_shift 145 = .ok (.iinc 5 1, 3) := by decide +kernel
theorem dX10_shift_148 : decode cX10_shift 148 = .ok (.iload_n 3, 1) := by decide +kernel
theorem dX10_shift_149 : decode cX10_shift 149 = .ok (.ifCond .lt 14, 3) := by decide +kernel
theorem dX10_shift_152 : decode cX10_shift 152 = .ok (.iload 5, 2) := by decide +kernel
theorem dX10_shift_154 : decode cX10_shift 154 = .ok (.iload_n 3, 1) := by decide +kernel
theorem dX10_shift_155 : decode cX10_shift 155 = .ok (.iconst 2, 1) := by decide +kernel
theorem dX10_shift_156 : decode cX10_shift 156 = .ok (.iadd, 1) := by decide +kernel
theorem dX10_shift_157 : decode cX10_shift 157 = .ok (.if_icmp .ne 6, 3) := by decide +kernel
theorem dX10_shift_160 : decode cX10_shift 160 = .ok (.iload 8, 2) := by decide +kernel
theorem dX10_shift_162 : decode cX10_shift 162 = .ok (.ireturn, 1) := by decide +kernel
theorem dX10_shift_163 : decode cX10_shift 163 = .ok (.iinc 6 1, 3) := by decide +kernel
theorem dX10_shift_166 : decode cX10_shift 166 = .ok (.goto (-106), 3) := by decide +kernel
theorem dX10_shift_169 : decode cX10_shift 169 = .ok (.iload_n 3, 1) := by decide +kernel
theorem dX10_shift_170 : decode cX10_shift 170 = .ok (.ifCond .ge 8, 3) := by decide +kernel
theorem dX10_shift_173 : decode cX10_shift 173 = .ok (.iload 5, 2) := by decide +kernel
theorem dX10_shift_175 : decode cX10_shift 175 = .ok (.goto 22, 3) := by decide +kernel
theorem dX10_shift_178 : decode cX10_shift 178 = .ok (.iload 5, 2) := by decide +kernel
theorem dX10_shift_180 : decode cX10_shift 180 = .ok (.iload_n 3, 1) := by decide +kernel
theorem dX10_shift_181 : decode cX10_shift 181 = .ok (.iconst 1, 1) := by decide +kernel
theorem dX10_shift_182 : decode cX10_shift 182 = .ok (.iadd, 1) := by decide +kernel
theorem dX10_shift_183 : decode cX10_shift 183 = .ok (.if_icmp .ne 12, 3) := by decide +kernel
theorem dX10_shift_186 : decode cX10_shift 186 = .ok (.aload_n 0, 1) := by decide +kernel
theorem dX10_shift_187 : decode cX10_shift 187 = .ok (.iload 4, 2) := by decide +kernel
theorem dX10_shift_189 : decode cX10_shift 189 = .ok (.invokevirtual 276, 3) := by decide +kernel
theorem dX10_shift_192 : decode cX10_shift 192 = .ok (.goto 5, 3) := by decide +kernel
theorem dX10_shift_195 : decode cX10_shift 195 = .ok (.ldc 61, 2) := by decide +kernel
theorem dX10_shift_197 : decode cX10_shift 197 = .ok (.ireturn, 1) := by decide +kernel
theorem dX10_table_0 : decode cX10_table 0 = .ok (.aload_n 0, 1) := by decide +kernel
theorem dX10_table_1 : decode cX10_table 1 = .ok (.iload_n 1, 1) := by decide +kernel
theorem dX10_table_2 : decode cX10_table 2 = .ok (.invokevirtual 55, 3) := by decide +kernel
theorem dX10_table_5 : decode cX10_table 5 = .ok (.ifCond .eq 23, 3) := by decide +kernel
theorem dX10_table_8 : decode cX10_table 8 = .ok (.aload_n 0, 1) := by decide +kernel
theorem dX10_table_9 : decode cX10_table 9 = .ok (.iload_n 2, 1) := by decide +kernel
theorem dX10_table_10 : decode cX10_table 10 = .ok (.invokevirtual 55, 3) := by decide +kernel
theorem dX10_table_13 : decode cX10_table 13 = .ok (.ifCond .eq 15, 3) := by decide +kernel
theorem dX10_table_16 : decode cX10_table 16 = .ok (.iload_n 3, 1) := by decide +kernel
theorem dX10_table_17 : decode cX10_table 17 = .ok (.i2l, 1) := by decide +kernel
theorem dX10_table_18 : decode cX10_table 18 = .ok (.lconst 0, 1) := by decide +kernel
theorem dX10_table_19 : decode cX10_table 19 = .ok (.ldc2_w 211, 3) := by decide +kernel
theorem dX10_table_22 : decode cX10_table 22 = .ok (.invokestatic 51, 3) := by decide +kernel
theorem dX10_table_25 : decode cX10_table 25 = .ok (.ifCond .ne 6, 3) := by decide +kernel
theorem dX10_table_28 : decode cX10_table 28 = .ok (.ldc 177, 2) := by decide +kernel
theorem dX10_table_30 : decode cX10_table 30 = .ok (.ireturn, 1) := by decide +kernel
theorem dX10_table_31 : decode cX10_table 31 = .ok (.aload_n 0, 1) := by decide +kernel
theorem dX10_table_32 : decode cX10_table 32 = .ok (.invokevirtual 221, 3) := by decide +kernel
theorem dX10_table_35 : decode cX10_table 35 = .ok (.iconst 0, 1) := by decide +kernel
theorem dX10_table_36 : decode cX10_table 36 = .ok (.istore 4, 2) := by decide +kernel
theorem dX10_table_38 : decode cX10_table 38 = .ok (.iconst 1, 1) := by decide +kernel
theorem dX10_table_39 : decode cX10_table 39 = .ok (.istore 5, 2) := by decide +kernel
theorem dX10_table_41 : decode cX10_table 41 = .ok (.iload 5, 2) := by decide +kernel
theorem dX10_table_43 : decode cX10_table 43 = .ok (.sipush 1000, 3) := by decide +kernel
theorem dX10_table_46 : decode cX10_table 46 = .ok (.if_icmp .ge 122, 3) := by decide +kernel
theorem dX10_table_49 : decode cX10_table 49 = .ok (.aload_n 0, 1) := by decide +kernel
theorem dX10_table_50 : decode cX10_table 50 = .ok (.iload_n 1, 1) := by decide +kernel
theorem dX10_table_51 : decode cX10_table 51 = .ok (.iload 5, 2) := by decide +kernel
theorem dX10_table_53 : decode cX10_table 53 = .ok (.iconst 0, 1) := by decide +kernel
theorem dX10_table_54 : decode cX10_table 54 = .ok (.invokevirtual 239, 3) := by decide +kernel
theorem dX10_table_57 : decode cX10_table 57 = .ok (.ifCond .le 105, 3) := by decide +kernel
theorem dX10_table_60 : decode cX10_table 60 = .ok (.aload_n 0, 1) := by decide +kernel
theorem dX10_table_61 : decode cX10_table 61 = .ok (.getfield 35, 3) := by decide +kernel
theorem dX10_table_64 : decode cX10_table 64 = .ok (.invokestatic 87, 3) := by decide +kernel
theorem dX10_table_67 : decode cX10_table 67 = .ok (.aload_n 0, 1) := by decide +kernel
theorem dX10_table_68 : decode cX10_table 68 = .ok (.iload_n 1, 1) := by decide +kernel
theorem dX10_table_69 : decode cX10_table 69 = .ok (.iload 5, 2) := by decide +kernel
theorem dX10_table_71 : decode cX10_table 71 = .ok (.iload_n 2, 1) := by decide +kernel
theorem dX10_table_72 : decode cX10_table 72 = .ok (.aload_n 0, 1) := by decide +kernel
theorem dX10_table_73 : decode cX10_table 73 = .ok (.getfield 35, 3) := by decide +kernel
theorem dX10_table_76 : decode cX10_table 76 = .ok (.invokevirtual 91, 3) := by decide +kernel
theorem dX10_table_79 : decode cX10_table 79 = .ok (.aload_n 0, 1) := by decide +kernel
theorem dX10_table_80 : decode cX10_table 80 = .ok (.getfield 35, 3) := by decide +kernel
theorem dX10_table_83 : decode cX10_table 83 = .ok (.invokestatic 77, 3) := by decide +kernel
theorem dX10_table_86 : decode cX10_table 86 = .ok (.istore 6, 2) := by decide +kernel
theorem dX10_table_88 : decode cX10_table 88 = .ok (.iload_n 3, 1) := by decide +kernel
theorem dX10_table_89 : decode cX10_table 89 = .ok (.iconst 3, 1) := by decide +kernel
theorem dX10_table_90 : decode cX10_table 90 = .ok (.if_icmp .ne 46, 3) := by decide +kernel
theorem dX10_table_93 : decode cX10_table 93 = .ok (.aload_n 0, 1) := by decide +kernel
theorem dX10_table_94 : decode cX10_table 94 = .ok (.iload_n 1, 1) := by decide +kernel
theorem dX10_table_95 : decode cX10_table 95 = .ok (.iload 5, 2) := by decide +kernel
theorem dX10_table_97 : decode cX10_table 97 = .ok (.iload_n 2, 1) := by decide +kernel
theorem dX10_table_98 : decode cX10_table 98 = .ok (.iload_n 1, 1) := by decide +kernel
theorem dX10_table_99 : decode cX10_table 99 = .ok (.invokevirtual 260, 3) := by decide +kernel
theorem dX10_table_102 : decode cX10_table 102 = .ok (.iload 4, 2) := by decide +kernel
theorem dX10_table_104 : decode cX10_table 104 = .ok (.aload_n 0, 1) := by decide +kernel
theorem dX10_table_105 : decode cX10_table 105 = .ok (.getfield 35, 3) := by decide +kernel
theorem dX10_table_108 : decode cX10_table 108 = .ok (.invokestatic 77, 3) := by decide +kernel
theorem dX10_table_111 : decode cX10_table 111 = .ok (.iconst 1, 1) := by decide +kernel
theorem dX10_table_112 : decode cX10_table 112 = .ok (.if_icmp .ne 17, 3) := by decide +kernel
theorem dX10_table_115 : decode cX10_table 115 = .ok (.aload_n 0, 1) := by decide +kernel
theorem dX10_table_116 : decode cX10_table 116 = .ok (.getfield 35, 3) := by decide +kernel
theorem dX10_table_119 : decode cX10_table 119 = .ok (.iload 5, 2) := by decide +kernel
theorem dX10_table_121 : decode cX10_table 121 = .ok (.baload, 1) := by decide +kernel
theorem dX10_table_122 : decode cX10_table 122 = .ok (.ifCond .eq 7, 3) := by decide +kernel
theorem dX10_table_125 : decode cX10_table 125 = .ok (.iconst 1, 1) := by decide +kernel
theorem dX10_table_126 : decode cX10_table 126 = .ok (.goto 4, 3) := by decide +kernel
theorem dX10_table_129 : decode cX10_table 129 = .ok (.iconst 0, 1) := by decide +kernel
theorem dX10_table_130 : decode cX10_table 130 = .ok (.iadd, 1) := by decide +kernel
theorem dX10_table_131 : decode cX10_table 131 = .ok (.istore 4, 2) := by decide +kernel
theorem dX10_table_133 : decode cX10_table 133 = .ok (.goto 29, 3) := by decide +kernel
theorem dX10_table_136 : decode cX10_table 136 = .ok (.iload 4, 2) := by decide +kernel
theorem dX10_table_138 : decode cX10_table 138 = .ok (.iload_n 3, 1) := by decide +kernel
theorem dX10_table_139 : decode cX10_table 139 = .ok (.iload 6, 2) := by decide +kernel
theorem dX10_table_141 : decode cX10_table 141 = .ok (.iconst 2, 1) := by decide +kernel
theorem dX10_table_142 : decode cX10_table 142 = .ok (.if_icmp .ge 8, 3) := by decide +kernel
theorem dX10_table_145 : decode cX10_table 145 = .ok (.iload 6, 2) := by decide +kernel
theorem dX10_table_147 : decode cX10_table 147 = .ok (.goto 4, 3) := by decide +kernel
theorem dX10_table_150 : decode cX10_table 150 = .ok (.iconst 2, 1) := by decide +kernel
theorem dX10_table_151 : decode cX10_table 151 = .ok (.if_icmp .ne 7, 3) := by decide +kernel
theorem dX10_table_154 : decode cX10_table 154 = .ok (.iconst 1, 1) := by decide +kernel
theorem dX10_table_155 : decode cX10_table 155 = .ok (.goto 4, 3) := by decide +kernel
theorem dX10_table_158 : decode cX10_table 158 = .ok (.iconst 0, 1) := by decide +kernel
theorem dX10_table_159 : decode cX10_table 159 = .ok (.iadd, 1) := by decide +kernel
theorem dX10_table_160 : decode cX10_table 160 = .ok (.istore 4, 2) := by decide +kernel
theorem dX10_table_162 : decode cX10_table 162 = .ok (.iinc 5 1, 3) := by decide +kernel
theorem dX10_table_165 : decode cX10_table 165 = .ok (.goto (-124), 3) := by decide +kernel
theorem dX10_table_168 : decode cX10_table 168 = .ok (.iload 4, 2) := by decide +kernel
theorem dX10_table_170 : decode cX10_table 170 = .ok (.ireturn, 1) := by decide +kernel
theorem dX10_share_0 : decode cX10_share 0 = .ok (.aload_n 0, 1) := by decide +kernel
theorem dX10_share_1 : decode cX10_share 1 = .ok (.iload_n 1, 1) := by decide +kernel
theorem dX10_share_2 : decode cX10_share 2 = .ok (.invokevirtual 55, 3) := by decide +kernel
theorem dX10_share_5 : decode cX10_share 5 = .ok (.ifCond .eq 11, 3) := by decide +kernel
theorem dX10_share_8 : decode cX10_share 8 = .ok (.aload_n 0, 1) := by decide +kernel
theorem dX10_share_9 : decode cX10_share 9 = .ok (.iload_n 2, 1) := by decide +kernel
theorem dX10_share_10 : decode cX10_share 10 = .ok (.invokevirtual 55, 3) := by decide +kernel
theorem dX10_share_13 : decode cX10_share 13 = .ok (.ifCond .ne 6, 3) := by decide +kernel
theorem dX10_share_16 : decode cX10_share 16 = .ok (.ldc 177, 2) := by decide +kernel
theorem dX10_share_18 : decode cX10_share 18 = .ok (.ireturn, 1) := by decide +kernel
theorem dX10_share_19 : decode cX10_share 19 = .ok (.aload_n 0, 1) := by decide +kernel
theorem dX10_share_20 : decode cX10_share 20 = .ok (.invokevirtual 221, 3) := by decide +kernel
theorem dX10_share_23 : decode cX10_share 23 = .ok (.iconst 0, 1) := by decide +kernel
theorem dX10_share_24 : decode cX10_share 24 = .ok (.istore_n 3, 1) := by decide +kernel
theorem dX10_share_25 : decode cX10_share 25 = .ok (.iconst 0, 1) := by decide +kernel
theorem dX10_share_26 : decode cX10_share 26 = .ok (.istore 4, 2) := by decide +kernel
theorem dX10_share_28 : decode cX10_share 28 = .ok (.iconst 0, 1) := by decide +kernel
theorem dX10_share_29 : decode cX10_share 29 = .ok (.istore 5, 2) := by decide +kernel
theorem dX10_share_31 : decode cX10_share 31 = .ok (.iload 5, 2) := by decide +kernel
theorem dX10_share_33 : decode cX10_share 33 = .ok (.aload_n 0, 1) := by decide +kernel
theorem dX10_share_34 : decode cX10_share 34 = .ok (.getfield 7, 3) := by decide +kernel
theorem dX10_share_37 : decode cX10_share 37 = .ok (.iconst 0, 1) := by decide +kernel
theorem dX10_share_38 : decode cX10_share 38 = .ok (.iaload, 1) := by decide +kernel
theorem dX10_share_39 : decode cX10_share 39 = .ok (.if_icmp .ge 67, 3) := by decide +kernel
theorem dX10_share_42 : decode cX10_share 42 = .ok (.iload_n 3, 1) := by decide +kernel
theorem dX10_share_43 : decode cX10_share 43 = .ok (.aload_n 0, 1) := by decide +kernel
theorem dX10_share_44 : decode cX10_share 44 = .ok (.iload_n 1, 1) := by decide +kernel
theorem dX10_share_45 : decode cX10_share 45 = .ok (.iload 5, 2) := by decide +kernel
theorem dX10_share_47 : decode cX10_share 47 = .ok (.invokevirtual 73, 3) := by decide +kernel
theorem dX10_share_50 : decode cX10_share 50 = .ok (.ifCond .eq 17, 3) := by decide +kernel
theorem dX10_share_53 : decode cX10_share 53 = .ok (.aload_n 0, 1) := by decide +kernel
theorem dX10_share_54 : decode cX10_share 54 = .ok (.iload_n 2, 1) := by decide +kernel
theorem dX10_share_55 : decode cX10_share 55 = .ok (.iload 5, 2) := by decide +kernel
theorem dX10_share_57 : decode cX10_share 57 = .ok (.invokevirtual 73, 3) := by decide +kernel
theorem dX10_share_60 : decode cX10_share 60 = .ok (.ifCond .eq 7, 3) := by decide +kernel
theorem dX10_share_63 : decode cX10_share 63 = .ok (.iconst 1, 1) := by decide +kernel
theorem dX10_share_64 : decode cX10_share 64 = .ok (.goto 4, 3) := by decide +kernel
theorem dX10_share_67 : decode cX10_share 67 = .ok (.iconst 0, 1) := by decide +kernel
theorem dX10_share_68 : decode cX10_share 68 = .ok (.iadd, 1) := by decide +kernel
theorem dX10_share_69 : decode cX10_share 69 = .ok (.istore_n 3, 1) := by decide +kernel
theorem dX10_share_70 : decode cX10_share 70 = .ok (.iload 4, 2) := by decide +kernel
theorem dX10_share_72 : decode cX10_share 72 = .ok (.aload_n 0, 1) := by decide +kernel
theorem dX10_share_73 : decode cX10_share 73 = .ok (.iload_n 1, 1) := by decide +kernel
theorem dX10_share_74 : decode cX10_share 74 = .ok (.iload 5, 2) := by decide +kernel
theorem dX10_share_76 : decode cX10_share 76 = .ok (.invokevirtual 73, 3) := by decide +kernel
theorem dX10_share_79 : decode cX10_share 79 = .ok (.ifCond .ne 13, 3) := by decide +kernel
theorem dX10_share_82 : decode cX10_share 82 = .ok (.aload_n 0, 1) := by decide +kernel
theorem dX10_share_83 : decode cX10_share 83 = .ok (.iload_n 2, 1) := by decide +kernel
theorem dX10_share_84 : decode cX10_share 84 = .ok (.iload 5, 2) := by decide +kernel
theorem dX10_share_86 : decode cX10_share 86 = .ok (.invokevirtual 73, 3) := by decide +kernel
theorem dX10_share_89 : decode cX10_share 89 = .ok (.ifCond .eq 7, 3) := by decide +kernel
theorem dX10_share_92 : decode cX10_share 92 = .ok (.iconst 1, 1) := by decide +kernel
theorem dX10_share_93 : decode cX10_share 93 = .ok (.goto 4, 3) := by decide +kernel
theorem dX10_share_96 : decode cX10_share 96 = .ok (.iconst 0, 1) := by decide +kernel
theorem dX10_share_97 : decode cX10_share 97 = .ok (.iadd, 1) := by decide +kernel
theorem dX10_share_98 : decode cX10_share 98 = .ok (.istore 4, 2) := by decide +kernel
theorem dX10_share_100 : decode cX10_share 100 = .ok (.iinc 5 1, 3) := by decide +kernel
theorem dX10_share_103 : decode cX10_share 103 = .ok (.goto (-72), 3) := by decide +kernel
theorem dX10_share_106 : decode cX10_share 106 = .ok (.iload 4, 2) := by decide +kernel
theorem dX10_share_108 : decode cX10_share 108 = .ok (.ifCond .ne 8, 3) := by decide +kernel
theorem dX10_share_111 : decode cX10_share 111 = .ok (.ldc 61, 2) := by decide +kernel
theorem dX10_share_113 : decode cX10_share 113 = .ok (.goto 9, 3) := by decide +kernel
theorem dX10_share_116 : decode cX10_share 116 = .ok (.iload_n 3, 1) := by decide +kernel
theorem dX10_share_117 : decode cX10_share 117 = .ok (.iload 4, 2) := by decide +kernel
theorem dX10_share_119 : decode cX10_share 119 = .ok (.invokestatic 283, 3) := by decide +kernel
theorem dX10_share_122 : decode cX10_share 122 = .ok (.ireturn, 1) := by decide +kernel
theorem dX10_score_0 : decode cX10_score 0 = .ok (.aload_n 0, 1) := by decide +kernel
theorem dX10_score_1 : decode cX10_score 1 = .ok (.iload_n 1, 1) := by decide +kernel
theorem dX10_score_2 : decode cX10_score 2 = .ok (.invokevirtual 55, 3) := by decide +kernel
theorem dX10_score_5 : decode cX10_score 5 = .ok (.ifCond .eq 13, 3) := by decide +kernel
theorem dX10_score_8 : decode cX10_score 8 = .ok (.iload_n 2, 1) := by decide +kernel
theorem dX10_score_9 : decode cX10_score 9 = .ok (.i2l, 1) := by decide +kernel
theorem dX10_score_10 : decode cX10_score 10 = .ok (.lconst 0, 1) := by decide +kernel
theorem dX10_score_11 : decode cX10_score 11 = .ok (.lconst 1, 1) := by decide +kernel
theorem dX10_score_12 : decode cX10_score 12 = .ok (.invokestatic 51, 3) := by decide +kernel
theorem dX10_score_15 : decode cX10_score 15 = .ok (.ifCond .ne 6, 3) := by decide +kernel
theorem dX10_score_18 : decode cX10_score 18 = .ok (.ldc 177, 2) := by decide +kernel
theorem dX10_score_20 : decode cX10_score 20 = .ok (.ireturn, 1) := by decide +kernel
theorem dX10_score_21 : decode cX10_score 21 = .ok (.aload_n 0, 1) := by decide +kernel
theorem dX10_score_22 : decode cX10_score 22 = .ok (.invokevirtual 221, 3) := by decide +kernel
theorem dX10_score_25 : decode cX10_score 25 = .ok (.aload_n 0, 1) := by decide +kernel
theorem dX10_score_26 : decode cX10_score 26 = .ok (.iload_n 1, 1) := by decide +kernel
theorem dX10_score_27 : decode cX10_score 27 = .ok (.invokevirtual 292, 3) := by decide +kernel
theorem dX10_score_30 : decode cX10_score 30 = .ok (.istore_n 3, 1) := by decide +kernel
theorem dX10_score_31 : decode cX10_score 31 = .ok (.iload_n 2, 1) := by decide +kernel
theorem dX10_score_32 : decode cX10_score 32 = .ok (.ifCond .ne 7, 3) := by decide +kernel
theorem dX10_score_35 : decode cX10_score 35 = .ok (.iload_n 3, 1) := by decide +kernel
theorem dX10_score_36 : decode cX10_score 36 = .ok (.goto 27, 3) := by decide +kernel
theorem dX10_score_39 : decode cX10_score 39 = .ok (.aload_n 0, 1) := by decide +kernel
theorem dX10_score_40 : decode cX10_score 40 = .ok (.getfield 7, 3) := by decide +kernel
theorem dX10_score_43 : decode cX10_score 43 = .ok (.iconst 2, 1) := by decide +kernel
theorem dX10_score_44 : decode cX10_score 44 = .ok (.iaload, 1) := by decide +kernel
theorem dX10_score_45 : decode cX10_score 45 = .ok (.ifCond .ne 8, 3) := by decide +kernel
theorem dX10_score_48 : decode cX10_score 48 = .ok (.ldc 61, 2) := by decide +kernel
theorem dX10_score_50 : decode cX10_score 50 = .ok (.goto 13, 3) := by decide +kernel
theorem dX10_score_53 : decode cX10_score 53 = .ok (.iload_n 3, 1) := by decide +kernel
theorem dX10_score_54 : decode cX10_score 54 = .ok (.aload_n 0, 1) := by decide +kernel
theorem dX10_score_55 : decode cX10_score 55 = .ok (.getfield 7, 3) := by decide +kernel
theorem dX10_score_58 : decode cX10_score 58 = .ok (.iconst 2, 1) := by decide +kernel
theorem dX10_score_59 : decode cX10_score 59 = .ok (.iaload, 1) := by decide +kernel
theorem dX10_score_60 : decode cX10_score 60 = .ok (.invokestatic 283, 3) := by decide +kernel
theorem dX10_score_63 : decode cX10_score 63 = .ok (.ireturn, 1) := by decide +kernel
theorem dX10_best_0 : decode cX10_best 0 = .ok (.aload_n 0, 1) := by decide +kernel
theorem dX10_best_1 : decode cX10_best 1 = .ok (.invokevirtual 47, 3) := by decide +kernel
theorem dX10_best_4 : decode cX10_best 4 = .ok (.ifCond .ne 6, 3) := by decide +kernel
theorem dX10_best_7 : decode cX10_best 7 = .ok (.ldc 198, 2) := by decide +kernel
theorem dX10_best_9 : decode cX10_best 9 = .ok (.ireturn, 1) := by decide +kernel
theorem dX10_best_10 : decode cX10_best 10 = .ok (.aload_n 0, 1) := by decide +kernel
theorem dX10_best_11 : decode cX10_best 11 = .ok (.invokevirtual 221, 3) := by decide +kernel
theorem dX10_best_14 : decode cX10_best 14 = .ok (.ldc 61, 2) := by decide +kernel
theorem dX10_best_16 : decode cX10_best 16 = .ok (.istore_n 1, 1) := by decide +kernel
theorem dX10_best_17 : decode cX10_best 17 = .ok (.iconst 0, 1) := by decide +kernel
theorem dX10_best_18 : decode cX10_best 18 = .ok (.istore_n 2, 1) := by decide +kernel
theorem dX10_best_19 : decode cX10_best 19 = .ok (.iconst 0, 1) := by decide +kernel
theorem dX10_best_20 : decode cX10_best 20 = .ok (.istore_n 3, 1) := by decide +kernel
theorem dX10_best_21 : decode cX10_best 21 = .ok (.iload_n 3, 1) := by decide +kernel
theorem dX10_best_22 : decode cX10_best 22 = .ok (.aload_n 0, 1) := by decide +kernel
theorem dX10_best_23 : decode cX10_best 23 = .ok (.getfield 7, 3) := by decide +kernel
theorem dX10_best_26 : decode cX10_best 26 = .ok (.iconst 1, 1) := by decide +kernel
theorem dX10_best_27 : decode cX10_best 27 = .ok (.iaload, 1) := by decide +kernel
theorem dX10_best_28 : decode cX10_best 28 = .ok (.if_icmp .ge 58, 3) := by decide +kernel
theorem dX10_best_31 : decode cX10_best 31 = .ok (.aload_n 0, 1) := by decide +kernel
theorem dX10_best_32 : decode cX10_best 32 = .ok (.iload_n 3, 1) := by decide +kernel
theorem dX10_best_33 : decode cX10_best 33 = .ok (.invokevirtual 292, 3) := by decide +kernel
theorem dX10_best_36 : decode cX10_best 36 = .ok (.istore 4, 2) := by decide +kernel
theorem dX10_best_38 : decode cX10_best 38 = .ok (.iload_n 1, 1) := by decide +kernel
theorem dX10_best_39 : decode cX10_best 39 = .ok (.ldc 61, 2) := by decide +kernel
theorem dX10_best_41 : decode cX10_best 41 = .ok (.if_icmp .eq 9, 3) := by decide +kernel
theorem dX10_best_44 : decode cX10_best 44 = .ok (.iload 4, 2) := by decide +kernel
theorem dX10_best_46 : decode cX10_best 46 = .ok (.iload_n 2, 1) := by decide +kernel
theorem dX10_best_47 : decode cX10_best 47 = .ok (.if_icmp .le 7, 3) := by decide +kernel
theorem dX10_best_50 : decode cX10_best 50 = .ok (.iconst 1, 1) := by decide +kernel
theorem dX10_best_51 : decode cX10_best 51 = .ok (.goto 4, 3) := by decide +kernel
theorem dX10_best_54 : decode cX10_best 54 = .ok (.iconst 0, 1) := by decide +kernel
theorem dX10_best_55 : decode cX10_best 55 = .ok (.istore 5, 2) := by decide +kernel
theorem dX10_best_57 : decode cX10_best 57 = .ok (.iload 5, 2) := by decide +kernel
theorem dX10_best_59 : decode cX10_best 59 = .ok (.ifCond .eq 7, 3) := by decide +kernel
theorem dX10_best_62 : decode cX10_best 62 = .ok (.iload_n 3, 1) := by decide +kernel
theorem dX10_best_63 : decode cX10_best 63 = .ok (.goto 4, 3) := by decide +kernel
theorem dX10_best_66 : decode cX10_best 66 = .ok (.iload_n 1, 1) := by decide +kernel
theorem dX10_best_67 : decode cX10_best 67 = .ok (.istore_n 1, 1) := by decide +kernel
theorem dX10_best_68 : decode cX10_best 68 = .ok (.iload 5, 2) := by decide +kernel
theorem dX10_best_70 : decode cX10_best 70 = .ok (.ifCond .eq 8, 3) := by decide +kernel
theorem dX10_best_73 : decode cX10_best 73 = .ok (.iload 4, 2) := by decide +kernel
theorem dX10_best_75 : decode cX10_best 75 = .ok (.goto 4, 3) := by decide +kernel
theorem dX10_best_78 : decode cX10_best 78 = .ok (.iload_n 2, 1) := by decide +kernel
theorem dX10_best_79 : decode cX10_best 79 = .ok (.istore_n 2, 1) := by decide +kernel
theorem dX10_best_80 : decode cX10_best 80 = .ok (.iinc 3 1, 3) := by decide +kernel
theorem dX10_best_83 : decode cX10_best 83 = .ok (.goto (-62), 3) := by decide +kernel
theorem dX10_best_86 : decode cX10_best 86 = .ok (.iload_n 1, 1) := by decide +kernel
theorem dX10_best_87 : decode cX10_best 87 = .ok (.ireturn, 1) := by decide +kernel
def w_X10_shift : List Cond := .code yX10_shift cX10_shift 10 (some .int) :: ([.methodLink RX10 55 yX10_isEdition, .instanceMethod yX10_isEdition, .selects RX10 yX10_isEdition yX10_isEdition, .initialized RX10, .code yX10_isEdition cX10_isEdition 2 (some .boolean), .methodLink RX10 47 yX10_isWork, .instanceMethod yX10_isWork, .selects RX10 yX10_isWork yX10_isWork, .code yX10_isWork cX10_isWork 1 (some .boolean), .fieldLink RX10 7 "LineCitesModel" "now" "[I", .methodLink RX10 51 yX10_in0, .static yX10_in0, .code yX10_in0 cX10_in0 6 (some .boolean), .constant RX10 177 (-1000001), .constantLong RX10 219 (2), .methodLink RX10 221 yX10_lays, .instanceMethod yX10_lays, .selects RX10 yX10_lays yX10_lays, .code yX10_lays cX10_lays 9 none, .constant RX10 61 (-1000000), .fieldLink RX10 29 "LineCitesModel" "low" "[I", .fieldLink RX10 32 "LineCitesModel" "high" "[I", .methodLink RX10 66 yX10_stretchOf, .static yX10_stretchOf, .code yX10_stretchOf cX10_stretchOf 7 (some .int), .methodLink RX10 62 yX10_of, .static yX10_of, .code yX10_of cX10_of 4 (some .int), .fieldLink RX10 264 "LineCitesModel" "shiftMany" "I", .fieldLink RX10 35 "LineCitesModel" "first" "[Z", .methodLink RX10 87 yX10_clears, .static yX10_clears, .code yX10_clears cX10_clears 2 none, .methodLink RX10 91 yX10_comes, .instanceMethod yX10_comes, .selects RX10 yX10_comes yX10_comes, .code yX10_comes cX10_comes 6 none, .methodLink RX10 69 yX10_isMeant, .instanceMethod yX10_isMeant, .selects RX10 yX10_isMeant yX10_isMeant, .code yX10_isMeant cX10_isMeant 4 (some .boolean), .methodLink RX10 73 yX10_hasNumber, .instanceMethod yX10_hasNumber, .selects RX10 yX10_hasNumber yX10_hasNumber, .code yX10_hasNumber cX10_hasNumber 3 (some .boolean), .methodLink RX10 81 yX10_leastOf, .static yX10_leastOf, .code yX10_leastOf cX10_leastOf 3 (some .int), .methodLink RX10 84 yX10_greatestOf, .static yX10_greatestOf, .code yX10_greatestOf cX10_greatestOf 3 (some .int), .methodLink RX10 279 yX10_isMore, .instanceMethod yX10_isMore, .selects RX10 yX10_isMore yX10_isMore, .code yX10_isMore cX10_isMore 5 (some .boolean), .fieldLink RX10 267 "LineCitesModel" "shiftFirst" "I", .fieldLink RX10 273 "LineCitesModel" "shiftLow" "I", .fieldLink RX10 270 "LineCitesModel" "shiftHigh" "I", .methodLink RX10 276 yX10_toldShift, .instanceMethod yX10_toldShift, .selects RX10 yX10_toldShift yX10_toldShift, .code yX10_toldShift cX10_toldShift 3 (some .int)] ++ wsX100)
set_option maxRecDepth 20000 in
theorem g_X10_shift_X10_isEdition : GoodIn w_X10_shift (wsV RX10 55 RX10 yX10_isEdition w_X10_isEdition) := goodIn_r _ [1, 2, 3, 4, 5, 6, 7, 8, 4, 9, 10, 11, 12, 13, 63, 64, 65, 66, 67, 68, 69, 70, 71, 72, 73, 74, 75, 76, 77, 78, 79, 80, 81, 82, 83, 84, 85, 86, 87] rfl (by decide +kernel)
set_option maxRecDepth 20000 in
theorem g_X10_shift_X10_in0 : GoodIn w_X10_shift (wsS RX10 51 yX10_in0 w_X10_in0) := goodIn_r _ [11, 12, 4, 13] rfl (by decide +kernel)
set_option maxRecDepth 20000 in
theorem g_X10_shift_X10_lays : GoodIn w_X10_shift (wsV RX10 221 RX10 yX10_lays w_X10_lays) := goodIn_r _ [16, 17, 18, 4, 19, 10, 20, 21, 22, 23, 24, 4, 25, 26, 27, 28, 11, 12, 13, 63, 64, 65, 66, 67, 68, 69, 70, 71, 72, 73, 74, 75, 76, 77, 78, 79, 80, 81, 82, 83, 84, 85, 86, 87] rfl (by decide +kernel)
set_option maxRecDepth 20000 in
theorem g_X10_shift_X10_clears : GoodIn w_X10_shift (wsS RX10 87 yX10_clears w_X10_clears) := goodIn_r _ [31, 32, 4, 33] rfl (by decide +kernel)
set_option maxRecDepth 20000 in
theorem g_X10_shift_X10_comes : GoodIn w_X10_shift (wsV RX10 91 RX10 yX10_comes w_X10_comes) := goodIn_r _ [34, 35, 36, 4, 37, 10, 38, 39, 40, 4, 41, 21, 22, 42, 43, 44, 45, 63, 64, 65, 66, 67, 68, 69, 70, 71, 72, 73, 74, 75, 76, 77, 78, 79, 80, 81, 82, 83, 84, 85, 86, 87] rfl (by decide +kernel)
set_option maxRecDepth 20000 in
theorem g_X10_shift_X10_leastOf : GoodIn w_X10_shift (wsS RX10 81 yX10_leastOf w_X10_leastOf) := goodIn_r _ [46, 47, 4, 48, 20] rfl (by decide +kernel)
set_option maxRecDepth 20000 in
theorem g_X10_shift_X10_greatestOf : GoodIn w_X10_shift (wsS RX10 84 yX10_greatestOf w_X10_greatestOf) := goodIn_r _ [49, 50, 4, 51, 20] rfl (by decide +kernel)
set_option maxRecDepth 20000 in
theorem g_X10_shift_X10_isMore : GoodIn w_X10_shift (wsV RX10 279 RX10 yX10_isMore w_X10_isMore) := goodIn_r _ [52, 53, 54, 4, 55, 29, 56, 57, 58, 63, 64, 65, 66, 67, 68, 69, 70, 71, 72, 73, 74, 75, 76, 77, 78, 79, 80, 81, 82, 83, 84, 85, 86, 87] rfl (by decide +kernel)
set_option maxRecDepth 20000 in
theorem g_X10_shift_X10_toldShift : GoodIn w_X10_shift (wsV RX10 276 RX10 yX10_toldShift w_X10_toldShift) := goodIn_r _ [59, 60, 61, 4, 62, 57, 58, 29, 56, 63, 64, 65, 66, 67, 68, 69, 70, 71, 72, 73, 74, 75, 76, 77, 78, 79, 80, 81, 82, 83, 84, 85, 86, 87] rfl (by decide +kernel)
set_option maxHeartbeats 4000000 in
set_option maxRecDepth 100000 in
theorem c_X10_shift (l : Launch) (D : va_G) (h0 : Nat) (i_0 : Int32) (i_1 : Int32) (i_2 : Int32) (i_3 : Int32) (m_now : Nat) (m_draft : Nat) (m_past : Nat) (j_acts : Int32) (m_images : Nat) (m_kept : Nat) (m_tape : Nat) (j_taped : Int32) (j_at : Int32) (j_start : Int32) (j_token : Int32) (j_value : Int32) (j_fault : Int32) (j_place : Int32) (j_latest : Int32) (m_low : Nat) (m_high : Nat) (m_first : Nat) (m_second : Nat) (m_lines : Nat) (m_others : Nat) (j_shiftFirst : Int32) (j_shiftMany : Int32) (j_shiftLow : Int32) (j_shiftHigh : Int32) (kI : ClassId) (g_now : Nat → Int32) (g_low : Nat → Int32) (g_high : Nat → Int32) (kZ : ClassId) (g_first : Nat → Int32) (sz : Nat) (hg_now : gV g_now) (hg_low : bP g_low) (hg_high : bP g_high) : Met l yX10_shift w_X10_shift ({ frames := 3, cells := 0, slots := 0, locals := 79 }) (va_Pc [.ref h0, .int i_0, .int i_1, .int i_2, .int i_3] (fun U => U.heap.size = sz ∧ va_P D vwCl [(h0, .inr (10, [.ref m_now, .ref m_draft, .ref m_past, .int j_acts, .ref m_images, .ref m_kept, .ref m_tape, .int j_taped, .int j_at, .int j_start, .int j_token, .int j_value, .int j_fault, .int j_place, .int j_latest, .ref m_low, .ref m_high, .ref m_first, .ref m_second, .ref m_lines, .ref m_others, .int j_shiftFirst, .int j_shiftMany, .int j_shiftLow, .int j_shiftHigh])), (m_now, .inl (kI, 192, .inl g_now)), (m_low, .inl (kI, 1000, .inl g_low)), (m_high, .inl (kI, 1000, .inl g_high)), (m_first, .inl (kZ, 1000, .inl g_first))] U.heap ∧ va_K D vwCl [(kI, .int), (kZ, .boolean)] U ∧ va_D (fun _ => True) [(h0, .inr (10, [.ref m_now, .ref m_draft, .ref m_past, .int j_acts, .ref m_images, .ref m_kept, .ref m_tape, .int j_taped, .int j_at, .int j_start, .int j_token, .int j_value, .int j_fault, .int j_place, .int j_latest, .ref m_low, .ref m_high, .ref m_first, .ref m_second, .ref m_lines, .ref m_others, .int j_shiftFirst, .int j_shiftMany, .int j_shiftLow, .int j_shiftHigh])), (m_now, .inl (kI, 192, .inl g_now)), (m_low, .inl (kI, 1000, .inl g_low)), (m_high, .inl (kI, 1000, .inl g_high)), (m_first, .inl (kZ, 1000, .inl g_first))])) (va_Qi (fun (r : Int32) (_ : Unit) => True) (fun (_ : Unit) t => ∃ (n_low : Nat → Int32) (n_high : Nat → Int32) (n_first : Nat → Int32) (n_shiftFirst : Int32) (n_shiftMany : Int32) (n_shiftLow : Int32) (n_shiftHigh : Int32), va_P D vwCl [(h0, .inr (10, [.ref m_now, .ref m_draft, .ref m_past, .int j_acts, .ref m_images, .ref m_kept, .ref m_tape, .int j_taped, .int j_at, .int j_start, .int j_token, .int j_value, .int j_fault, .int j_place, .int j_latest, .ref m_low, .ref m_high, .ref m_first, .ref m_second, .ref m_lines, .ref m_others, .int n_shiftFirst, .int n_shiftMany, .int n_shiftLow, .int n_shiftHigh])), (m_now, .inl (kI, 192, .inl g_now)), (m_low, .inl (kI, 1000, .inl n_low)), (m_high, .inl (kI, 1000, .inl n_high)), (m_first, .inl (kZ, 1000, .inl n_first))] t.heap ∧ va_K D vwCl [(kI, .int), (kZ, .boolean)] t ∧ va_D (va_A [(h0, .inr (10, [.ref m_now, .ref m_draft, .ref m_past, .int j_acts, .ref m_images, .ref m_kept, .ref m_tape, .int j_taped, .int j_at, .int j_start, .int j_token, .int j_value, .int j_fault, .int j_place, .int j_latest, .ref m_low, .ref m_high, .ref m_first, .ref m_second, .ref m_lines, .ref m_others, .int j_shiftFirst, .int j_shiftMany, .int j_shiftLow, .int j_shiftHigh])), (m_now, .inl (kI, 192, .inl g_now)), (m_low, .inl (kI, 1000, .inl g_low)), (m_high, .inl (kI, 1000, .inl g_high)), (m_first, .inl (kZ, 1000, .inl g_first))] sz) [(h0, .inr (10, [.ref m_now, .ref m_draft, .ref m_past, .int j_acts, .ref m_images, .ref m_kept, .ref m_tape, .int j_taped, .int j_at, .int j_start, .int j_token, .int j_value, .int j_fault, .int j_place, .int j_latest, .ref m_low, .ref m_high, .ref m_first, .ref m_second, .ref m_lines, .ref m_others, .int n_shiftFirst, .int n_shiftMany, .int n_shiftLow, .int n_shiftHigh])), (m_now, .inl (kI, 192, .inl g_now)), (m_low, .inl (kI, 1000, .inl n_low)), (m_high, .inl (kI, 1000, .inl n_high)), (m_first, .inl (kZ, 1000, .inl n_first))] ∧ bP n_low ∧ bP n_high) (va_A [(h0, .inr (10, [.ref m_now, .ref m_draft, .ref m_past, .int j_acts, .ref m_images, .ref m_kept, .ref m_tape, .int j_taped, .int j_at, .int j_start, .int j_token, .int j_value, .int j_fault, .int j_place, .int j_latest, .ref m_low, .ref m_high, .ref m_first, .ref m_second, .ref m_lines, .ref m_others, .int j_shiftFirst, .int j_shiftMany, .int j_shiftLow, .int j_shiftHigh])), (m_now, .inl (kI, 192, .inl g_now)), (m_low, .inl (kI, 1000, .inl g_low)), (m_high, .inl (kI, 1000, .inl g_high)), (m_first, .inl (kZ, 1000, .inl g_first))] sz)) 0 0 (va_A [(h0, .inr (10, [.ref m_now, .ref m_draft, .ref m_past, .int j_acts, .ref m_images, .ref m_kept, .ref m_tape, .int j_taped, .int j_at, .int j_start, .int j_token, .int j_value, .int j_fault, .int j_place, .int j_latest, .ref m_low, .ref m_high, .ref m_first, .ref m_second, .ref m_lines, .ref m_others, .int j_shiftFirst, .int j_shiftMany, .int j_shiftLow, .int j_shiftHigh])), (m_now, .inl (kI, 192, .inl g_now)), (m_low, .inl (kI, 1000, .inl g_low)), (m_high, .inl (kI, 1000, .inl g_high)), (m_first, .inl (kZ, 1000, .inl g_first))] sz) := by
  refine Met.ofW (cc := cX10_shift) (maxL := 10) (ret := (some .int)) (by decide) rfl ?_
  intro p e s m args below meth c s₁ B hml hv
  obtain ⟨rfl, hsz, hP, hK, hD0⟩ := hv
  have hx := B.exec
  have hb := B.bytes
  have hr := B.returns
  have hts := atoms_spec (ws := w_X10_shift) B.pre
  have hown : s.vm.findClass RX10 = some m.cls := findClass_of_methodNamed B.named
  have hlocks := B.notSynchronized
  subst hsz
  have hD := hD0.self (sz := s.heap.size)
  generalize hAe : va_A [(h0, .inr (10, [.ref m_now, .ref m_draft, .ref m_past, .int j_acts, .ref m_images, .ref m_kept, .ref m_tape, .int j_taped, .int j_at, .int j_start, .int j_token, .int j_value, .int j_fault, .int j_place, .int j_latest, .ref m_low, .ref m_high, .ref m_first, .ref m_second, .ref m_lines, .ref m_others, .int j_shiftFirst, .int j_shiftMany, .int j_shiftLow, .int j_shiftHigh])), (m_now, .inl (kI, 192, .inl g_now)), (m_low, .inl (kI, 1000, .inl g_low)), (m_high, .inl (kI, 1000, .inl g_high)), (m_first, .inl (kZ, 1000, .inl g_first))] s.heap.size = A at hD ⊢
  have hA : ∀ q : Nat, s.heap.size ≤ q → A q := fun q h => by rw [← hAe]; exact Or.inr h
  have hS : va_S A s.heap s.heap [] := va_S.rf
  have hP : va_P D vwCl [(h0, .inr (10, [.ref m_now, .ref m_draft, .ref m_past, .int j_acts, .ref m_images, .ref m_kept, .ref m_tape, .int j_taped, .int j_at, .int j_start, .int j_token, .int j_value, .int j_fault, .int j_place, .int j_latest, .ref m_low, .ref m_high, .ref m_first, .ref m_second, .ref m_lines, .ref m_others, .int j_shiftFirst, .int j_shiftMany, .int j_shiftLow, .int j_shiftHigh])), (m_now, .inl (kI, 192, .inl g_now)), (m_low, .inl (kI, 1000, .inl g_low)), (m_high, .inl (kI, 1000, .inl g_high)), (m_first, .inl (kZ, 1000, .inl g_first))] s.heap := hP
  have hl := lv_entry ([.ref h0, .int i_0, .int i_1, .int i_2, .int i_3]) (n := 10) (Nat.le_of_ble_eq_true rfl)
  rw [lg_entry_eq]
  generalize (lg_sl ([.ref h0, .int i_0, .int i_1, .int i_2, .int i_3]) ++ List.replicate (10 - (lg_sl ([.ref h0, .int i_0, .int i_1, .int i_2, .int i_3])).length) Slot.unset).toArray = ls at hl ⊢
  have hl : lv_has ls 10 [(0, .ref h0), (1, .int i_0), (2, .int i_1), (3, .int i_2), (4, .int i_3)] := hl
  obtain ⟨H, hHe⟩ : ∃ H : Heap, H = s.heap := ⟨_, rfl⟩
  rw [← hHe] at hP
  have hS : va_S A s.heap H [] := by rw [hHe]; exact hS
  refine pw_heap hHe ?_
  refine lv_aload_n hx hb dX10_shift_0 rfl (lv_at hl 0 rfl) ?_
  refine lv_iload_n hx hb dX10_shift_1 rfl (lv_at hl 1 rfl) ?_
  have hPc := hP.sub (ws' := [(h0, .inr (10, [.ref m_now, .ref m_draft, .ref m_past, .int j_acts, .ref m_images, .ref m_kept, .ref m_tape, .int j_taped, .int j_at, .int j_start, .int j_token, .int j_value, .int j_fault, .int j_place, .int j_latest, .ref m_low, .ref m_high, .ref m_first, .ref m_second, .ref m_lines, .ref m_others, .int j_shiftFirst, .int j_shiftMany, .int j_shiftLow, .int j_shiftHigh])), (m_now, .inl (kI, 192, .inl g_now))]) [0, 1] rfl
  have hKc := hK.sub (tys' := [(kI, .int)]) [0] rfl
  refine va_calli (va_runV (As := [.int i_0]) (rest := []) ⟨hx, hb, hml, hown, hts⟩ (c_X10_isEdition l D h0 i_0 m_now m_draft m_past j_acts m_images m_kept m_tape j_taped j_at j_start j_token j_value j_fault j_place j_latest m_low m_high m_first m_second m_lines m_others j_shiftFirst j_shiftMany j_shiftLow j_shiftHigh kI g_now hg_now) (cwV 1 hts g_X10_shift_X10_isEdition rfl rfl rfl (by decide +kernel) ⟨Nat.le_of_ble_eq_true rfl, Nat.le_of_ble_eq_true rfl⟩) ⟨fun a U g mk q => by obtain ⟨q0, qP, qK⟩ := q; exact ⟨q0, qP, va_K.moved (u := U) (U := U.calling g mk a) (Vm.Alike.refl U.vm) qK⟩, va_recv hKc hPc (ci := 10) (q0 := 0) rfl rfl, fun U hU hW => ⟨rfl, by rw [hU]; exact hPc, va_K.moved hW.alike hKc⟩⟩ rfl rfl hl.1 rfl (lv_room (Nat.le_of_ble_eq_true rfl)) dX10_shift_2 ⟨Nat.le_of_ble_eq_true rfl, Nat.le_of_ble_eq_true rfl⟩) hS (fun _ _ h => h.elim) (fun _ h => h.elim) (fun r1 u t H1 locs ht hvm hw hB hz1 hk1 hS => ?_)
  have hP := pw_keep hP (fun q hq => hk1 q hq (fun h => h))
  generalize H1 = H at hP hS ⊢
  refine W.widen (k := 0) (n := 0) (Nat.le_of_ble_eq_true rfl) (Nat.le_of_ble_eq_true rfl) ?_
  have bor1 := hw.1
  have zor1 := pw_boolI bor1
  have hfr1 := hw.2
  refine lv_if_eq (tgt := 42) hx hb dX10_shift_5 (by decide) (fun c2 => ?_) (fun c2 => ?_)
  · have nc2 : r1.toInt = 0 := pw_eq c2 rfl (by decide)
    refine lv_ldc hx hb hown (hts (.constant RX10 177 (-1000001)) (List.mem_of_getElem? (i := 14) rfl)) dX10_shift_42 ?_
    have hP9 := hP.sub (ws' := [(h0, .inr (10, [.ref m_now, .ref m_draft, .ref m_past, .int j_acts, .ref m_images, .ref m_kept, .ref m_tape, .int j_taped, .int j_at, .int j_start, .int j_token, .int j_value, .int j_fault, .int j_place, .int j_latest, .ref m_low, .ref m_high, .ref m_first, .ref m_second, .ref m_lines, .ref m_others, .int j_shiftFirst, .int j_shiftMany, .int j_shiftLow, .int j_shiftHigh])), (m_now, .inl (kI, 192, .inl g_now)), (m_low, .inl (kI, 1000, .inl g_low)), (m_high, .inl (kI, 1000, .inl g_high)), (m_first, .inl (kZ, 1000, .inl g_first))]) [0, 1, 2, 3, 4] rfl
    have hD9 := hD.sub (ws' := [(h0, .inr (10, [.ref m_now, .ref m_draft, .ref m_past, .int j_acts, .ref m_images, .ref m_kept, .ref m_tape, .int j_taped, .int j_at, .int j_start, .int j_token, .int j_value, .int j_fault, .int j_place, .int j_latest, .ref m_low, .ref m_high, .ref m_first, .ref m_second, .ref m_lines, .ref m_others, .int j_shiftFirst, .int j_shiftMany, .int j_shiftLow, .int j_shiftHigh])), (m_now, .inl (kI, 192, .inl g_now)), (m_low, .inl (kI, 1000, .inl g_low)), (m_high, .inl (kI, 1000, .inl g_high)), (m_first, .inl (kZ, 1000, .inl g_first))]) [0, 1, 2, 3, 4] (by decide) rfl
    have hK9 := hK.sub (tys' := [(kI, .int), (kZ, .boolean)]) [0, 1] rfl
    refine W.widen (k := 0) (n := 0) (Nat.le_of_ble_eq_true rfl) (Nat.le_of_ble_eq_true rfl) ?_
    exact W.iret (v := (-1000001)) hx hb hr (fun t ht hW => ⟨⟨(-1000001), (), rfl, trivial, g_low, g_high, g_first, j_shiftFirst, j_shiftMany, j_shiftLow, j_shiftHigh, by rw [ht]; exact hP9, va_K.moved hW.alike hK9, hD9, hg_low, hg_high⟩, hS.F ht⟩) hS.2.2 dX10_shift_44
  · have nc2 : r1.toInt ≠ 0 := pw_ne c2 rfl (by decide)
    refine lv_aload_n hx hb dX10_shift_8 rfl (lv_at hl 0 rfl) ?_
    refine lv_iload_n hx hb dX10_shift_9 rfl (lv_at hl 2 rfl) ?_
    have hPc := hP.sub (ws' := [(h0, .inr (10, [.ref m_now, .ref m_draft, .ref m_past, .int j_acts, .ref m_images, .ref m_kept, .ref m_tape, .int j_taped, .int j_at, .int j_start, .int j_token, .int j_value, .int j_fault, .int j_place, .int j_latest, .ref m_low, .ref m_high, .ref m_first, .ref m_second, .ref m_lines, .ref m_others, .int j_shiftFirst, .int j_shiftMany, .int j_shiftLow, .int j_shiftHigh])), (m_now, .inl (kI, 192, .inl g_now))]) [0, 1] rfl
    have hKc := hK.sub (tys' := [(kI, .int)]) [0] rfl
    refine va_calli (va_runV (As := [.int i_1]) (rest := []) ⟨hx, hb, hml, hown, hts⟩ (c_X10_isEdition l D h0 i_1 m_now m_draft m_past j_acts m_images m_kept m_tape j_taped j_at j_start j_token j_value j_fault j_place j_latest m_low m_high m_first m_second m_lines m_others j_shiftFirst j_shiftMany j_shiftLow j_shiftHigh kI g_now hg_now) (cwV 1 hts g_X10_shift_X10_isEdition rfl rfl rfl (by decide +kernel) ⟨Nat.le_of_ble_eq_true rfl, Nat.le_of_ble_eq_true rfl⟩) ⟨fun a U g mk q => by obtain ⟨q0, qP, qK⟩ := q; exact ⟨q0, qP, va_K.moved (u := U) (U := U.calling g mk a) (Vm.Alike.refl U.vm) qK⟩, va_recv hKc hPc (ci := 10) (q0 := 0) rfl rfl, fun U hU hW => ⟨rfl, by rw [hU]; exact hPc, va_K.moved hW.alike hKc⟩⟩ rfl rfl hl.1 rfl (lv_room (Nat.le_of_ble_eq_true rfl)) dX10_shift_10 ⟨Nat.le_of_ble_eq_true rfl, Nat.le_of_ble_eq_true rfl⟩) hS (fun _ _ h => h.elim) (fun _ h => h.elim) (fun r3 u t H1 locs ht hvm hw hB hz1 hk1 hS => ?_)
    have hP := pw_keep hP (fun q hq => hk1 q hq (fun h => h))
    generalize H1 = H at hP hS ⊢
    refine W.widen (k := 0) (n := 0) (Nat.le_of_ble_eq_true rfl) (Nat.le_of_ble_eq_true rfl) ?_
    have bor3 := hw.1
    have zor3 := pw_boolI bor3
    have hfr3 := hw.2
    refine lv_if_eq (tgt := 42) hx hb dX10_shift_13 (by decide) (fun c4 => ?_) (fun c4 => ?_)
    · have nc4 : r3.toInt = 0 := pw_eq c4 rfl (by decide)
      refine lv_ldc hx hb hown (hts (.constant RX10 177 (-1000001)) (List.mem_of_getElem? (i := 14) rfl)) dX10_shift_42 ?_
      have hP9 := hP.sub (ws' := [(h0, .inr (10, [.ref m_now, .ref m_draft, .ref m_past, .int j_acts, .ref m_images, .ref m_kept, .ref m_tape, .int j_taped, .int j_at, .int j_start, .int j_token, .int j_value, .int j_fault, .int j_place, .int j_latest, .ref m_low, .ref m_high, .ref m_first, .ref m_second, .ref m_lines, .ref m_others, .int j_shiftFirst, .int j_shiftMany, .int j_shiftLow, .int j_shiftHigh])), (m_now, .inl (kI, 192, .inl g_now)), (m_low, .inl (kI, 1000, .inl g_low)), (m_high, .inl (kI, 1000, .inl g_high)), (m_first, .inl (kZ, 1000, .inl g_first))]) [0, 1, 2, 3, 4] rfl
      have hD9 := hD.sub (ws' := [(h0, .inr (10, [.ref m_now, .ref m_draft, .ref m_past, .int j_acts, .ref m_images, .ref m_kept, .ref m_tape, .int j_taped, .int j_at, .int j_start, .int j_token, .int j_value, .int j_fault, .int j_place, .int j_latest, .ref m_low, .ref m_high, .ref m_first, .ref m_second, .ref m_lines, .ref m_others, .int j_shiftFirst, .int j_shiftMany, .int j_shiftLow, .int j_shiftHigh])), (m_now, .inl (kI, 192, .inl g_now)), (m_low, .inl (kI, 1000, .inl g_low)), (m_high, .inl (kI, 1000, .inl g_high)), (m_first, .inl (kZ, 1000, .inl g_first))]) [0, 1, 2, 3, 4] (by decide) rfl
      have hK9 := hK.sub (tys' := [(kI, .int), (kZ, .boolean)]) [0, 1] rfl
      refine W.widen (k := 0) (n := 0) (Nat.le_of_ble_eq_true rfl) (Nat.le_of_ble_eq_true rfl) ?_
      exact W.iret (v := (-1000001)) hx hb hr (fun t ht hW => ⟨⟨(-1000001), (), rfl, trivial, g_low, g_high, g_first, j_shiftFirst, j_shiftMany, j_shiftLow, j_shiftHigh, by rw [ht]; exact hP9, va_K.moved hW.alike hK9, hD9, hg_low, hg_high⟩, hS.F ht⟩) hS.2.2 dX10_shift_44
    · have nc4 : r3.toInt ≠ 0 := pw_ne c4 rfl (by decide)
      refine lv_iload_n hx hb dX10_shift_16 rfl (lv_at hl 3 rfl) ?_
      refine lv_iconst (v := (-1)) hx hb dX10_shift_17 (by decide) ?_
      refine lv_icmp_lt (tgt := 42) hx hb dX10_shift_18 (by decide) (fun c5 => ?_) (fun c5 => ?_)
      · have nc5 : i_2.toInt < (-1) := pw_lt c5 rfl (by decide)
        refine lv_ldc hx hb hown (hts (.constant RX10 177 (-1000001)) (List.mem_of_getElem? (i := 14) rfl)) dX10_shift_42 ?_
        have hP9 := hP.sub (ws' := [(h0, .inr (10, [.ref m_now, .ref m_draft, .ref m_past, .int j_acts, .ref m_images, .ref m_kept, .ref m_tape, .int j_taped, .int j_at, .int j_start, .int j_token, .int j_value, .int j_fault, .int j_place, .int j_latest, .ref m_low, .ref m_high, .ref m_first, .ref m_second, .ref m_lines, .ref m_others, .int j_shiftFirst, .int j_shiftMany, .int j_shiftLow, .int j_shiftHigh])), (m_now, .inl (kI, 192, .inl g_now)), (m_low, .inl (kI, 1000, .inl g_low)), (m_high, .inl (kI, 1000, .inl g_high)), (m_first, .inl (kZ, 1000, .inl g_first))]) [0, 1, 2, 3, 4] rfl
        have hD9 := hD.sub (ws' := [(h0, .inr (10, [.ref m_now, .ref m_draft, .ref m_past, .int j_acts, .ref m_images, .ref m_kept, .ref m_tape, .int j_taped, .int j_at, .int j_start, .int j_token, .int j_value, .int j_fault, .int j_place, .int j_latest, .ref m_low, .ref m_high, .ref m_first, .ref m_second, .ref m_lines, .ref m_others, .int j_shiftFirst, .int j_shiftMany, .int j_shiftLow, .int j_shiftHigh])), (m_now, .inl (kI, 192, .inl g_now)), (m_low, .inl (kI, 1000, .inl g_low)), (m_high, .inl (kI, 1000, .inl g_high)), (m_first, .inl (kZ, 1000, .inl g_first))]) [0, 1, 2, 3, 4] (by decide) rfl
        have hK9 := hK.sub (tys' := [(kI, .int), (kZ, .boolean)]) [0, 1] rfl
        refine W.widen (k := 0) (n := 0) (Nat.le_of_ble_eq_true rfl) (Nat.le_of_ble_eq_true rfl) ?_
        exact W.iret (v := (-1000001)) hx hb hr (fun t ht hW => ⟨⟨(-1000001), (), rfl, trivial, g_low, g_high, g_first, j_shiftFirst, j_shiftMany, j_shiftLow, j_shiftHigh, by rw [ht]; exact hP9, va_K.moved hW.alike hK9, hD9, hg_low, hg_high⟩, hS.F ht⟩) hS.2.2 dX10_shift_44
      · have nc5 : (-1) ≤ i_2.toInt := pw_nlt c5 rfl (by decide)
        refine lv_iload hx hb dX10_shift_21 (lv_at hl 4 rfl) ?_
        refine lv_i2l (v := i_3.toInt64) hx hb dX10_shift_23 rfl ?_
        refine lv_lconst (v := 0) hx hb dX10_shift_24 (by decide) ?_
        refine lv_iload_n hx hb dX10_shift_25 rfl (lv_at hl 3 rfl) ?_
        refine pw_join (fun (zz : Int64 × Int64) H locs ls => match zz with | (v7, v8) => va_P D vwCl [(h0, .inr (10, [.ref m_now, .ref m_draft, .ref m_past, .int j_acts, .ref m_images, .ref m_kept, .ref m_tape, .int j_taped, .int j_at, .int j_start, .int j_token, .int j_value, .int j_fault, .int j_place, .int j_latest, .ref m_low, .ref m_high, .ref m_first, .ref m_second, .ref m_lines, .ref m_others, .int j_shiftFirst, .int j_shiftMany, .int j_shiftLow, .int j_shiftHigh])), (m_now, .inl (kI, 192, .inl g_now)), (m_low, .inl (kI, 1000, .inl g_low)), (m_high, .inl (kI, 1000, .inl g_high)), (m_first, .inl (kZ, 1000, .inl g_first))] H ∧ va_D A [(h0, .inr (10, [.ref m_now, .ref m_draft, .ref m_past, .int j_acts, .ref m_images, .ref m_kept, .ref m_tape, .int j_taped, .int j_at, .int j_start, .int j_token, .int j_value, .int j_fault, .int j_place, .int j_latest, .ref m_low, .ref m_high, .ref m_first, .ref m_second, .ref m_lines, .ref m_others, .int j_shiftFirst, .int j_shiftMany, .int j_shiftLow, .int j_shiftHigh])), (m_now, .inl (kI, 192, .inl g_now)), (m_low, .inl (kI, 1000, .inl g_low)), (m_high, .inl (kI, 1000, .inl g_high)), (m_first, .inl (kZ, 1000, .inl g_first))] ∧ va_S A s.heap H locs ∧ lv_has ls 10 [(0, .ref h0), (1, .int i_0), (2, .int i_1), (3, .int i_2), (4, .int i_3)]) 0 0 (fun (zz : Int64 × Int64) ls => match zz with | (v7, v8) => F0 m 36 ls [.long v7, .long 0, .long v8]) (fun zz H locs ls hI => ?_) (fun hJ9 => ?_)
        ·
          obtain ⟨v7, v8⟩ := zz
          obtain ⟨hP, hD, hS, hl⟩ := hI
          have hP : va_P D vwCl [(h0, .inr (10, [.ref m_now, .ref m_draft, .ref m_past, .int j_acts, .ref m_images, .ref m_kept, .ref m_tape, .int j_taped, .int j_at, .int j_start, .int j_token, .int j_value, .int j_fault, .int j_place, .int j_latest, .ref m_low, .ref m_high, .ref m_first, .ref m_second, .ref m_lines, .ref m_others, .int j_shiftFirst, .int j_shiftMany, .int j_shiftLow, .int j_shiftHigh])), (m_now, .inl (kI, 192, .inl g_now)), (m_low, .inl (kI, 1000, .inl g_low)), (m_high, .inl (kI, 1000, .inl g_high)), (m_first, .inl (kZ, 1000, .inl g_first))] H := hP
          have hD : va_D A [(h0, .inr (10, [.ref m_now, .ref m_draft, .ref m_past, .int j_acts, .ref m_images, .ref m_kept, .ref m_tape, .int j_taped, .int j_at, .int j_start, .int j_token, .int j_value, .int j_fault, .int j_place, .int j_latest, .ref m_low, .ref m_high, .ref m_first, .ref m_second, .ref m_lines, .ref m_others, .int j_shiftFirst, .int j_shiftMany, .int j_shiftLow, .int j_shiftHigh])), (m_now, .inl (kI, 192, .inl g_now)), (m_low, .inl (kI, 1000, .inl g_low)), (m_high, .inl (kI, 1000, .inl g_high)), (m_first, .inl (kZ, 1000, .inl g_first))] := hD
          have hK : va_K D vwCl [(kI, .int), (kZ, .boolean)] s := hK
          have hl : lv_has ls 10 [(0, .ref h0), (1, .int i_0), (2, .int i_1), (3, .int i_2), (4, .int i_3)] := hl
          refine W.eq (g2 := F0 m 36 ls [.long v7, .long 0, .long v8]) rfl ?_
          have hPc := hP.sub (ws' := []) [] rfl
          have hKc := hK.sub (tys' := []) [] rfl
          refine va_calli (va_runS (As := [.long v8, .long 0, .long v7]) (rest := []) ⟨hx, hb, hml, hown, hts⟩ (c_X10_in0 l D v8 0 v7) (cwS 3 hts g_X10_shift_X10_in0 rfl rfl rfl (by decide +kernel) ⟨Nat.le_of_ble_eq_true rfl, Nat.le_of_ble_eq_true rfl⟩) ⟨fun a U g mk q => by obtain ⟨q0, qP, qK⟩ := q; exact ⟨q0, qP, va_K.moved (u := U) (U := U.calling g mk a) (Vm.Alike.refl U.vm) qK⟩, fun U hU hW => ⟨rfl, by rw [hU]; exact hPc, va_K.moved hW.alike hKc⟩⟩ rfl rfl hl.1 rfl (lv_room (Nat.le_of_ble_eq_true rfl)) dX10_shift_36 ⟨Nat.le_of_ble_eq_true rfl, Nat.le_of_ble_eq_true rfl⟩) hS (fun _ _ h => h.elim) (fun _ h => h.elim) (fun r10 u t H1 locs ht hvm hw hB hz1 hk1 hS => ?_)
          have hP := pw_keep hP (fun q hq => hk1 q hq (fun h => h))
          generalize H1 = H at hP hS ⊢
          refine W.widen (k := 0) (n := 0) (Nat.le_of_ble_eq_true rfl) (Nat.le_of_ble_eq_true rfl) ?_
          have bor10 := hw.1
          have zor10 := pw_boolI bor10
          have hfr10 := hw.2
          have kl0 : (0 : Int64).toInt = 0 := by decide
          try simp only [Int32.toInt_toInt64] at hfr10
          refine lv_if_ne (tgt := 45) hx hb dX10_shift_39 (by decide) (fun c11 => ?_) (fun c11 => ?_)
          · have nc11 : r10.toInt ≠ 0 := pw_ne c11 rfl (by decide)
            refine lv_aload_n hx hb dX10_shift_45 rfl (lv_at hl 0 rfl) ?_
            have hPc := hP.sub (ws' := [(h0, .inr (10, [.ref m_now, .ref m_draft, .ref m_past, .int j_acts, .ref m_images, .ref m_kept, .ref m_tape, .int j_taped, .int j_at, .int j_start, .int j_token, .int j_value, .int j_fault, .int j_place, .int j_latest, .ref m_low, .ref m_high, .ref m_first, .ref m_second, .ref m_lines, .ref m_others, .int j_shiftFirst, .int j_shiftMany, .int j_shiftLow, .int j_shiftHigh])), (m_now, .inl (kI, 192, .inl g_now)), (m_low, .inl (kI, 1000, .inl g_low)), (m_high, .inl (kI, 1000, .inl g_high))]) [0, 1, 2, 3] rfl
            have hKc := hK.sub (tys' := [(kI, .int)]) [0] rfl
            have hDc := hD.sub (ws' := [(h0, .inr (10, [.ref m_now, .ref m_draft, .ref m_past, .int j_acts, .ref m_images, .ref m_kept, .ref m_tape, .int j_taped, .int j_at, .int j_start, .int j_token, .int j_value, .int j_fault, .int j_place, .int j_latest, .ref m_low, .ref m_high, .ref m_first, .ref m_second, .ref m_lines, .ref m_others, .int j_shiftFirst, .int j_shiftMany, .int j_shiftLow, .int j_shiftHigh])), (m_now, .inl (kI, 192, .inl g_now)), (m_low, .inl (kI, 1000, .inl g_low)), (m_high, .inl (kI, 1000, .inl g_high))]) [0, 1, 2, 3] (by decide) rfl
            have hFc := va_free (wc := [(h0, .inr (10, [.ref m_now, .ref m_draft, .ref m_past, .int j_acts, .ref m_images, .ref m_kept, .ref m_tape, .int j_taped, .int j_at, .int j_start, .int j_token, .int j_value, .int j_fault, .int j_place, .int j_latest, .ref m_low, .ref m_high, .ref m_first, .ref m_second, .ref m_lines, .ref m_others, .int j_shiftFirst, .int j_shiftMany, .int j_shiftLow, .int j_shiftHigh])), (m_now, .inl (kI, 192, .inl g_now)), (m_low, .inl (kI, 1000, .inl g_low)), (m_high, .inl (kI, 1000, .inl g_high))]) hD hS hA [0, 1, 2, 3] rfl
            refine va_callv (va_runV (As := []) (rest := []) ⟨hx, hb, hml, hown, hts⟩ (c_X10_lays l D h0 m_now m_draft m_past j_acts m_images m_kept m_tape j_taped j_at j_start j_token j_value j_fault j_place j_latest m_low m_high m_first m_second m_lines m_others j_shiftFirst j_shiftMany j_shiftLow j_shiftHigh kI g_now g_low g_high H.size hg_now hg_low hg_high) (cwV 0 hts g_X10_shift_X10_lays rfl rfl rfl (by decide +kernel) ⟨Nat.le_of_ble_eq_true rfl, Nat.le_of_ble_eq_true rfl⟩) ⟨fun a U g mk q => by obtain ⟨q0, q1, qP, qK, qD⟩ := q; exact ⟨q0, q1, qP, va_K.moved (u := U) (U := U.calling g mk a) (Vm.Alike.refl U.vm) qK, qD⟩, va_recv hKc hPc (ci := 10) (q0 := 0) rfl rfl, fun U hU hW => ⟨rfl, by rw [hU], by rw [hU]; exact hPc, va_K.moved hW.alike hKc, hDc.weaken (fun _ _ _ _ => trivial)⟩⟩ rfl rfl hl.1 rfl (lv_room (Nat.le_of_ble_eq_true rfl)) dX10_shift_46 ⟨Nat.le_of_ble_eq_true rfl, Nat.le_of_ble_eq_true rfl⟩) hS (fun q _ h => hFc q h) hFc (fun u t H1 locs ht hvm hw hB hz1 hk1 hS => ?_)
            obtain ⟨y13, y14, hP1, hK1, hD1, hy13, hy14⟩ := hB
            rw [ht] at hP1
            have hK1 := va_K.moved hvm.symm hK1
            obtain ⟨hP, hD⟩ := va_join (wr := [(m_first, .inl (kZ, 1000, .inl g_first))]) (w1 := [(h0, .inr (10, [.ref m_now, .ref m_draft, .ref m_past, .int j_acts, .ref m_images, .ref m_kept, .ref m_tape, .int j_taped, .int j_at, .int j_start, .int j_token, .int j_value, .int j_fault, .int j_place, .int j_latest, .ref m_low, .ref m_high, .ref m_first, .ref m_second, .ref m_lines, .ref m_others, .int j_shiftFirst, .int j_shiftMany, .int j_shiftLow, .int j_shiftHigh])), (m_now, .inl (kI, 192, .inl g_now)), (m_low, .inl (kI, 1000, .inl y13)), (m_high, .inl (kI, 1000, .inl y14))]) hP hD [0, 1, 2, 3] [4] rfl rfl (by decide) (by decide) hk1 hFc hP1 hD1
            have hK := (hK.sub (tys' := [(kI, .int), (kZ, .boolean)]) [0, 1] rfl).app hK1
            generalize H1 = H at hP hS ⊢
            have hP : va_P D vwCl [(m_first, .inl (kZ, 1000, .inl g_first)), (h0, .inr (10, [.ref m_now, .ref m_draft, .ref m_past, .int j_acts, .ref m_images, .ref m_kept, .ref m_tape, .int j_taped, .int j_at, .int j_start, .int j_token, .int j_value, .int j_fault, .int j_place, .int j_latest, .ref m_low, .ref m_high, .ref m_first, .ref m_second, .ref m_lines, .ref m_others, .int j_shiftFirst, .int j_shiftMany, .int j_shiftLow, .int j_shiftHigh])), (m_now, .inl (kI, 192, .inl g_now)), (m_low, .inl (kI, 1000, .inl y13)), (m_high, .inl (kI, 1000, .inl y14))] H := hP
            have hD : va_D A [(m_first, .inl (kZ, 1000, .inl g_first)), (h0, .inr (10, [.ref m_now, .ref m_draft, .ref m_past, .int j_acts, .ref m_images, .ref m_kept, .ref m_tape, .int j_taped, .int j_at, .int j_start, .int j_token, .int j_value, .int j_fault, .int j_place, .int j_latest, .ref m_low, .ref m_high, .ref m_first, .ref m_second, .ref m_lines, .ref m_others, .int j_shiftFirst, .int j_shiftMany, .int j_shiftLow, .int j_shiftHigh])), (m_now, .inl (kI, 192, .inl g_now)), (m_low, .inl (kI, 1000, .inl y13)), (m_high, .inl (kI, 1000, .inl y14))] := hD
            have hK : va_K D vwCl [(kI, .int), (kZ, .boolean), (kI, .int)] s := hK
            refine W.widen (k := 0) (n := 0) (Nat.le_of_ble_eq_true rfl) (Nat.le_of_ble_eq_true rfl) ?_
            refine lv_iconst (v := 0) hx hb dX10_shift_49 (by decide) ?_
            refine lv_istore (lv' := [(5, .int 0), (0, .ref h0), (1, .int i_0), (2, .int i_1), (3, .int i_2), (4, .int i_3)]) hx hb dX10_shift_50 hl (by decide) rfl (fun ls hl => ?_)
            refine lv_aload_n hx hb dX10_shift_52 rfl (lv_at hl 1 rfl) ?_
            refine lv_iconst (v := 0) hx hb dX10_shift_53 (by decide) ?_
            refine va_put (D := D) (ci := 10) (v := .int 0) (ty := .int) (C := RX10) (T := TX10) (N := 25) hx hb hts (fun _ h => List.mem_cons_of_mem _ (List.mem_append_right _ h)) tyX10 tyX10_ok nmX10 hown hK hP hD hS 1 rfl rfl 22 (by decide) (hts (.fieldLink RX10 264 "LineCitesModel" "shiftMany" "I") (List.mem_of_getElem? (i := 29) rfl)) (fun _ h9 => h9) rfl (by decide +kernel) rfl rfl (Nat.le_of_ble_eq_true rfl) dX10_shift_54 (fun H locs hP hD hS => ?_)
            have hP : va_P D vwCl [(m_first, .inl (kZ, 1000, .inl g_first)), (h0, .inr (10, [.ref m_now, .ref m_draft, .ref m_past, .int j_acts, .ref m_images, .ref m_kept, .ref m_tape, .int j_taped, .int j_at, .int j_start, .int j_token, .int j_value, .int j_fault, .int j_place, .int j_latest, .ref m_low, .ref m_high, .ref m_first, .ref m_second, .ref m_lines, .ref m_others, .int j_shiftFirst, .int 0, .int j_shiftLow, .int j_shiftHigh])), (m_now, .inl (kI, 192, .inl g_now)), (m_low, .inl (kI, 1000, .inl y13)), (m_high, .inl (kI, 1000, .inl y14))] H := hP
            have hD : va_D A [(m_first, .inl (kZ, 1000, .inl g_first)), (h0, .inr (10, [.ref m_now, .ref m_draft, .ref m_past, .int j_acts, .ref m_images, .ref m_kept, .ref m_tape, .int j_taped, .int j_at, .int j_start, .int j_token, .int j_value, .int j_fault, .int j_place, .int j_latest, .ref m_low, .ref m_high, .ref m_first, .ref m_second, .ref m_lines, .ref m_others, .int j_shiftFirst, .int 0, .int j_shiftLow, .int j_shiftHigh])), (m_now, .inl (kI, 192, .inl g_now)), (m_low, .inl (kI, 1000, .inl y13)), (m_high, .inl (kI, 1000, .inl y14))] := hD
            have hK : va_K D vwCl [(kI, .int), (kZ, .boolean), (kI, .int)] s := hK
            refine lv_iconst (v := 1) hx hb dX10_shift_57 (by decide) ?_
            refine lv_istore (lv' := [(6, .int 1), (5, .int 0), (0, .ref h0), (1, .int i_0), (2, .int i_1), (3, .int i_2), (4, .int i_3)]) hx hb dX10_shift_58 hl (by decide) rfl (fun ls hl => ?_)
            have hl9 : lv_has ls 10 [(0, .ref h0), (1, .int i_0), (2, .int i_1), (3, .int i_2), (4, .int i_3), (5, .int 0), (6, .int 1)] := lv_sub hl [2, 3, 4, 5, 6, 1, 0] rfl
            refine pw_loop (fun (zz : Int32 × Int32 × (Nat → Int32) × Int32 × Int32 × Int32 × Int32) H locs ls => match zz with | (v72, v73, f74, v75, v76, v77, v78) => va_P D vwCl [(m_first, .inl (kZ, 1000, .inl f74)), (h0, .inr (10, [.ref m_now, .ref m_draft, .ref m_past, .int j_acts, .ref m_images, .ref m_kept, .ref m_tape, .int j_taped, .int j_at, .int j_start, .int j_token, .int j_value, .int j_fault, .int j_place, .int j_latest, .ref m_low, .ref m_high, .ref m_first, .ref m_second, .ref m_lines, .ref m_others, .int v75, .int v76, .int v77, .int v78])), (m_now, .inl (kI, 192, .inl g_now)), (m_low, .inl (kI, 1000, .inl y13)), (m_high, .inl (kI, 1000, .inl y14))] H ∧ va_D A [(m_first, .inl (kZ, 1000, .inl f74)), (h0, .inr (10, [.ref m_now, .ref m_draft, .ref m_past, .int j_acts, .ref m_images, .ref m_kept, .ref m_tape, .int j_taped, .int j_at, .int j_start, .int j_token, .int j_value, .int j_fault, .int j_place, .int j_latest, .ref m_low, .ref m_high, .ref m_first, .ref m_second, .ref m_lines, .ref m_others, .int v75, .int v76, .int v77, .int v78])), (m_now, .inl (kI, 192, .inl g_now)), (m_low, .inl (kI, 1000, .inl y13)), (m_high, .inl (kI, 1000, .inl y14))] ∧ va_S A s.heap H locs ∧ lv_has ls 10 [(0, .ref h0), (1, .int i_0), (2, .int i_1), (3, .int i_2), (4, .int i_3), (5, .int v72), (6, .int v73)] ∧ 1 ≤ v73.toInt) (fun (zz : Int32 × Int32 × (Nat → Int32) × Int32 × Int32 × Int32 × Int32)  => match zz with | (v72, v73, f74, v75, v76, v77, v78) => (2147483648 - v73.toInt).toNat) 0 0 (fun (zz : Int32 × Int32 × (Nat → Int32) × Int32 × Int32 × Int32 × Int32) ls => match zz with | (v72, v73, f74, v75, v76, v77, v78) => F0 m 60 ls []) (fun zz H locs ls ih79 hI => ?_) (0, 1, g_first, j_shiftFirst, 0, j_shiftLow, j_shiftHigh) _ _ _ ⟨hP, hD, hS, hl9, (by decide)⟩
            obtain ⟨v72, v73, f74, v75, v76, v77, v78⟩ := zz
            obtain ⟨hP, hD, hS, hl, bv73⟩ := hI
            have bv73 : 1 ≤ v73.toInt := bv73
            have hP : va_P D vwCl [(m_first, .inl (kZ, 1000, .inl f74)), (h0, .inr (10, [.ref m_now, .ref m_draft, .ref m_past, .int j_acts, .ref m_images, .ref m_kept, .ref m_tape, .int j_taped, .int j_at, .int j_start, .int j_token, .int j_value, .int j_fault, .int j_place, .int j_latest, .ref m_low, .ref m_high, .ref m_first, .ref m_second, .ref m_lines, .ref m_others, .int v75, .int v76, .int v77, .int v78])), (m_now, .inl (kI, 192, .inl g_now)), (m_low, .inl (kI, 1000, .inl y13)), (m_high, .inl (kI, 1000, .inl y14))] H := hP
            have hD : va_D A [(m_first, .inl (kZ, 1000, .inl f74)), (h0, .inr (10, [.ref m_now, .ref m_draft, .ref m_past, .int j_acts, .ref m_images, .ref m_kept, .ref m_tape, .int j_taped, .int j_at, .int j_start, .int j_token, .int j_value, .int j_fault, .int j_place, .int j_latest, .ref m_low, .ref m_high, .ref m_first, .ref m_second, .ref m_lines, .ref m_others, .int v75, .int v76, .int v77, .int v78])), (m_now, .inl (kI, 192, .inl g_now)), (m_low, .inl (kI, 1000, .inl y13)), (m_high, .inl (kI, 1000, .inl y14))] := hD
            have hK : va_K D vwCl [(kI, .int), (kZ, .boolean), (kI, .int)] s := hK
            have hl : lv_has ls 10 [(0, .ref h0), (1, .int i_0), (2, .int i_1), (3, .int i_2), (4, .int i_3), (5, .int v72), (6, .int v73)] := hl
            refine W.eq (g2 := F0 m 60 ls []) rfl ?_
            refine lv_iload hx hb dX10_shift_60 (lv_at hl 6 rfl) ?_
            refine lv_sipush (v := 1000) hx hb dX10_shift_62 (by decide) ?_
            refine lv_icmp_ge (tgt := 169) hx hb dX10_shift_65 (by decide) (fun c80 => ?_) (fun c80 => ?_)
            · have nc80 : 1000 ≤ v73.toInt := pw_le c80 (by decide) rfl
              refine lv_iload_n hx hb dX10_shift_169 rfl (lv_at hl 3 rfl) ?_
              refine lv_if_ge (tgt := 178) hx hb dX10_shift_170 (by decide) (fun c81 => ?_) (fun c81 => ?_)
              · have nc81 : 0 ≤ i_2.toInt := pw_le c81 (by decide) rfl
                refine lv_iload hx hb dX10_shift_178 (lv_at hl 5 rfl) ?_
                refine lv_iload_n hx hb dX10_shift_180 rfl (lv_at hl 3 rfl) ?_
                refine lv_iconst (v := 1) hx hb dX10_shift_181 (by decide) ?_
                refine lv_iadd hx hb dX10_shift_182 ?_
                refine lv_topi (fun x82 ex82 => ?_)
                refine lv_icmp_ne (tgt := 195) hx hb dX10_shift_183 (by decide) (fun c83 => ?_) (fun c83 => ?_)
                · have nc83 : v72.toInt ≠ x82.toInt := pw_ne c83 rfl rfl
                  have mc83v72 := pw_max v72
                  have mc83x82 := pw_max x82
                  refine lv_ldc hx hb hown (hts (.constant RX10 61 (-1000000)) (List.mem_of_getElem? (i := 20) rfl)) dX10_shift_195 ?_
                  have hP9 := hP.sub (ws' := [(h0, .inr (10, [.ref m_now, .ref m_draft, .ref m_past, .int j_acts, .ref m_images, .ref m_kept, .ref m_tape, .int j_taped, .int j_at, .int j_start, .int j_token, .int j_value, .int j_fault, .int j_place, .int j_latest, .ref m_low, .ref m_high, .ref m_first, .ref m_second, .ref m_lines, .ref m_others, .int v75, .int v76, .int v77, .int v78])), (m_now, .inl (kI, 192, .inl g_now)), (m_low, .inl (kI, 1000, .inl y13)), (m_high, .inl (kI, 1000, .inl y14)), (m_first, .inl (kZ, 1000, .inl f74))]) [1, 2, 3, 4, 0] rfl
                  have hD9 := hD.sub (ws' := [(h0, .inr (10, [.ref m_now, .ref m_draft, .ref m_past, .int j_acts, .ref m_images, .ref m_kept, .ref m_tape, .int j_taped, .int j_at, .int j_start, .int j_token, .int j_value, .int j_fault, .int j_place, .int j_latest, .ref m_low, .ref m_high, .ref m_first, .ref m_second, .ref m_lines, .ref m_others, .int v75, .int v76, .int v77, .int v78])), (m_now, .inl (kI, 192, .inl g_now)), (m_low, .inl (kI, 1000, .inl y13)), (m_high, .inl (kI, 1000, .inl y14)), (m_first, .inl (kZ, 1000, .inl f74))]) [1, 2, 3, 4, 0] (by decide) rfl
                  have hK9 := hK.sub (tys' := [(kI, .int), (kZ, .boolean)]) [0, 1] rfl
                  refine W.widen (k := 0) (n := 0) (Nat.le_of_ble_eq_true rfl) (Nat.le_of_ble_eq_true rfl) ?_
                  exact W.iret (v := (-1000000)) hx hb hr (fun t ht hW => ⟨⟨(-1000000), (), rfl, trivial, y13, y14, f74, v75, v76, v77, v78, by rw [ht]; exact hP9, va_K.moved hW.alike hK9, hD9, hy13, hy14⟩, hS.F ht⟩) hS.2.2 dX10_shift_197
                · have nc83 : v72.toInt = x82.toInt := pw_eq c83 rfl rfl
                  have mc83v72 := pw_max v72
                  have mc83x82 := pw_max x82
                  refine lv_aload_n hx hb dX10_shift_186 rfl (lv_at hl 0 rfl) ?_
                  refine lv_iload hx hb dX10_shift_187 (lv_at hl 4 rfl) ?_
                  have hPc := hP.sub (ws' := [(h0, .inr (10, [.ref m_now, .ref m_draft, .ref m_past, .int j_acts, .ref m_images, .ref m_kept, .ref m_tape, .int j_taped, .int j_at, .int j_start, .int j_token, .int j_value, .int j_fault, .int j_place, .int j_latest, .ref m_low, .ref m_high, .ref m_first, .ref m_second, .ref m_lines, .ref m_others, .int v75, .int v76, .int v77, .int v78]))]) [1] rfl
                  have hKc := hK.sub (tys' := []) [] rfl
                  refine va_calli (va_runV (As := [.int i_3]) (rest := []) ⟨hx, hb, hml, hown, hts⟩ (c_X10_toldShift l D h0 i_3 m_now m_draft m_past j_acts m_images m_kept m_tape j_taped j_at j_start j_token j_value j_fault j_place j_latest m_low m_high m_first m_second m_lines m_others v75 v76 v77 v78) (cwV 1 hts g_X10_shift_X10_toldShift rfl rfl rfl (by decide +kernel) ⟨Nat.le_of_ble_eq_true rfl, Nat.le_of_ble_eq_true rfl⟩) ⟨fun a U g mk q => by obtain ⟨q0, qP, qK⟩ := q; exact ⟨q0, qP, va_K.moved (u := U) (U := U.calling g mk a) (Vm.Alike.refl U.vm) qK⟩, va_recv hKc hPc (ci := 10) (q0 := 0) rfl rfl, fun U hU hW => ⟨rfl, by rw [hU]; exact hPc, va_K.moved hW.alike hKc⟩⟩ rfl rfl hl.1 rfl (lv_room (Nat.le_of_ble_eq_true rfl)) dX10_shift_189 ⟨Nat.le_of_ble_eq_true rfl, Nat.le_of_ble_eq_true rfl⟩) hS (fun _ _ h => h.elim) (fun _ h => h.elim) (fun r84 u t H1 locs ht hvm hw hB hz1 hk1 hS => ?_)
                  have hP := pw_keep hP (fun q hq => hk1 q hq (fun h => h))
                  generalize H1 = H at hP hS ⊢
                  refine W.widen (k := 0) (n := 0) (Nat.le_of_ble_eq_true rfl) (Nat.le_of_ble_eq_true rfl) ?_
                  refine lv_goto (tgt := 197) hx hb dX10_shift_192 (by decide) ?_
                  have hP9 := hP.sub (ws' := [(h0, .inr (10, [.ref m_now, .ref m_draft, .ref m_past, .int j_acts, .ref m_images, .ref m_kept, .ref m_tape, .int j_taped, .int j_at, .int j_start, .int j_token, .int j_value, .int j_fault, .int j_place, .int j_latest, .ref m_low, .ref m_high, .ref m_first, .ref m_second, .ref m_lines, .ref m_others, .int v75, .int v76, .int v77, .int v78])), (m_now, .inl (kI, 192, .inl g_now)), (m_low, .inl (kI, 1000, .inl y13)), (m_high, .inl (kI, 1000, .inl y14)), (m_first, .inl (kZ, 1000, .inl f74))]) [1, 2, 3, 4, 0] rfl
                  have hD9 := hD.sub (ws' := [(h0, .inr (10, [.ref m_now, .ref m_draft, .ref m_past, .int j_acts, .ref m_images, .ref m_kept, .ref m_tape, .int j_taped, .int j_at, .int j_start, .int j_token, .int j_value, .int j_fault, .int j_place, .int j_latest, .ref m_low, .ref m_high, .ref m_first, .ref m_second, .ref m_lines, .ref m_others, .int v75, .int v76, .int v77, .int v78])), (m_now, .inl (kI, 192, .inl g_now)), (m_low, .inl (kI, 1000, .inl y13)), (m_high, .inl (kI, 1000, .inl y14)), (m_first, .inl (kZ, 1000, .inl f74))]) [1, 2, 3, 4, 0] (by decide) rfl
                  have hK9 := hK.sub (tys' := [(kI, .int), (kZ, .boolean)]) [0, 1] rfl
                  refine W.widen (k := 0) (n := 0) (Nat.le_of_ble_eq_true rfl) (Nat.le_of_ble_eq_true rfl) ?_
                  exact W.iret (v := r84) hx hb hr (fun t ht hW => ⟨⟨r84, (), rfl, trivial, y13, y14, f74, v75, v76, v77, v78, by rw [ht]; exact hP9, va_K.moved hW.alike hK9, hD9, hy13, hy14⟩, hS.F ht⟩) hS.2.2 dX10_shift_197
              · have nc81 : i_2.toInt < 0 := pw_nle c81 (by decide) rfl
                refine lv_iload hx hb dX10_shift_173 (lv_at hl 5 rfl) ?_
                refine lv_goto (tgt := 197) hx hb dX10_shift_175 (by decide) ?_
                have hP9 := hP.sub (ws' := [(h0, .inr (10, [.ref m_now, .ref m_draft, .ref m_past, .int j_acts, .ref m_images, .ref m_kept, .ref m_tape, .int j_taped, .int j_at, .int j_start, .int j_token, .int j_value, .int j_fault, .int j_place, .int j_latest, .ref m_low, .ref m_high, .ref m_first, .ref m_second, .ref m_lines, .ref m_others, .int v75, .int v76, .int v77, .int v78])), (m_now, .inl (kI, 192, .inl g_now)), (m_low, .inl (kI, 1000, .inl y13)), (m_high, .inl (kI, 1000, .inl y14)), (m_first, .inl (kZ, 1000, .inl f74))]) [1, 2, 3, 4, 0] rfl
                have hD9 := hD.sub (ws' := [(h0, .inr (10, [.ref m_now, .ref m_draft, .ref m_past, .int j_acts, .ref m_images, .ref m_kept, .ref m_tape, .int j_taped, .int j_at, .int j_start, .int j_token, .int j_value, .int j_fault, .int j_place, .int j_latest, .ref m_low, .ref m_high, .ref m_first, .ref m_second, .ref m_lines, .ref m_others, .int v75, .int v76, .int v77, .int v78])), (m_now, .inl (kI, 192, .inl g_now)), (m_low, .inl (kI, 1000, .inl y13)), (m_high, .inl (kI, 1000, .inl y14)), (m_first, .inl (kZ, 1000, .inl f74))]) [1, 2, 3, 4, 0] (by decide) rfl
                have hK9 := hK.sub (tys' := [(kI, .int), (kZ, .boolean)]) [0, 1] rfl
                refine W.widen (k := 0) (n := 0) (Nat.le_of_ble_eq_true rfl) (Nat.le_of_ble_eq_true rfl) ?_
                exact W.iret (v := v72) hx hb hr (fun t ht hW => ⟨⟨v72, (), rfl, trivial, y13, y14, f74, v75, v76, v77, v78, by rw [ht]; exact hP9, va_K.moved hW.alike hK9, hD9, hy13, hy14⟩, hS.F ht⟩) hS.2.2 dX10_shift_197
            · have nc80 : v73.toInt < 1000 := pw_nle c80 (by decide) rfl
              refine lv_aload_n hx hb dX10_shift_68 rfl (lv_at hl 0 rfl) ?_
              refine va_get (D := D) (ci := 10) (v := .ref m_first) (C := RX10) (T := TX10) (N := 25) hx hb hts (fun _ h => List.mem_cons_of_mem _ (List.mem_append_right _ h)) hown hK hP 1 rfl rfl 17 (by decide) (hts (.fieldLink RX10 35 "LineCitesModel" "first" "[Z") (List.mem_of_getElem? (i := 30) rfl)) (fun _ h9 => h9) rfl dX10_shift_69 ?_
              have hPc := hP.sub (ws' := [(m_first, .inl (kZ, 1000, .inl f74))]) [0] rfl
              have hKc := hK.sub (tys' := [(kZ, .boolean)]) [1] rfl
              have hDc := hD.sub (ws' := [(m_first, .inl (kZ, 1000, .inl f74))]) [0] (by decide) rfl
              have hFc := va_free (wc := [(m_first, .inl (kZ, 1000, .inl f74))]) hD hS hA [0] rfl
              refine va_callv (va_runS (As := [.ref m_first]) (rest := []) ⟨hx, hb, hml, hown, hts⟩ (c_X10_clears l D m_first kZ f74 H.size) (cwS 1 hts g_X10_shift_X10_clears rfl rfl rfl (by decide +kernel) ⟨Nat.le_of_ble_eq_true rfl, Nat.le_of_ble_eq_true rfl⟩) ⟨fun a U g mk q => by obtain ⟨q0, q1, qP, qK, qD⟩ := q; exact ⟨q0, q1, qP, va_K.moved (u := U) (U := U.calling g mk a) (Vm.Alike.refl U.vm) qK, qD⟩, fun U hU hW => ⟨rfl, by rw [hU], by rw [hU]; exact hPc, va_K.moved hW.alike hKc, hDc.weaken (fun _ _ _ _ => trivial)⟩⟩ rfl rfl hl.1 rfl (lv_room (Nat.le_of_ble_eq_true rfl)) dX10_shift_72 ⟨Nat.le_of_ble_eq_true rfl, Nat.le_of_ble_eq_true rfl⟩) hS (fun q _ h => hFc q h) hFc (fun u t H1 locs ht hvm hw hB hz1 hk1 hS => ?_)
              obtain ⟨y86, hP1, hK1, hD1⟩ := hB
              rw [ht] at hP1
              have hK1 := va_K.moved hvm.symm hK1
              obtain ⟨hP, hD⟩ := va_join (wr := [(h0, .inr (10, [.ref m_now, .ref m_draft, .ref m_past, .int j_acts, .ref m_images, .ref m_kept, .ref m_tape, .int j_taped, .int j_at, .int j_start, .int j_token, .int j_value, .int j_fault, .int j_place, .int j_latest, .ref m_low, .ref m_high, .ref m_first, .ref m_second, .ref m_lines, .ref m_others, .int v75, .int v76, .int v77, .int v78])), (m_now, .inl (kI, 192, .inl g_now)), (m_low, .inl (kI, 1000, .inl y13)), (m_high, .inl (kI, 1000, .inl y14))]) (w1 := [(m_first, .inl (kZ, 1000, .inl y86))]) hP hD [0] [1, 2, 3, 4] rfl rfl (by decide) (by decide) hk1 hFc hP1 hD1
              have hK := (hK.sub (tys' := [(kI, .int), (kZ, .boolean), (kI, .int)]) [0, 1, 2] rfl).app hK1
              generalize H1 = H at hP hS ⊢
              have hP : va_P D vwCl [(h0, .inr (10, [.ref m_now, .ref m_draft, .ref m_past, .int j_acts, .ref m_images, .ref m_kept, .ref m_tape, .int j_taped, .int j_at, .int j_start, .int j_token, .int j_value, .int j_fault, .int j_place, .int j_latest, .ref m_low, .ref m_high, .ref m_first, .ref m_second, .ref m_lines, .ref m_others, .int v75, .int v76, .int v77, .int v78])), (m_now, .inl (kI, 192, .inl g_now)), (m_low, .inl (kI, 1000, .inl y13)), (m_high, .inl (kI, 1000, .inl y14)), (m_first, .inl (kZ, 1000, .inl y86))] H := hP
              have hD : va_D A [(h0, .inr (10, [.ref m_now, .ref m_draft, .ref m_past, .int j_acts, .ref m_images, .ref m_kept, .ref m_tape, .int j_taped, .int j_at, .int j_start, .int j_token, .int j_value, .int j_fault, .int j_place, .int j_latest, .ref m_low, .ref m_high, .ref m_first, .ref m_second, .ref m_lines, .ref m_others, .int v75, .int v76, .int v77, .int v78])), (m_now, .inl (kI, 192, .inl g_now)), (m_low, .inl (kI, 1000, .inl y13)), (m_high, .inl (kI, 1000, .inl y14)), (m_first, .inl (kZ, 1000, .inl y86))] := hD
              have hK : va_K D vwCl [(kI, .int), (kZ, .boolean), (kI, .int), (kZ, .boolean)] s := hK
              refine W.widen (k := 0) (n := 0) (Nat.le_of_ble_eq_true rfl) (Nat.le_of_ble_eq_true rfl) ?_
              refine lv_aload_n hx hb dX10_shift_75 rfl (lv_at hl 0 rfl) ?_
              refine lv_iload_n hx hb dX10_shift_76 rfl (lv_at hl 1 rfl) ?_
              refine lv_iload hx hb dX10_shift_77 (lv_at hl 6 rfl) ?_
              refine lv_iload_n hx hb dX10_shift_79 rfl (lv_at hl 2 rfl) ?_
              refine lv_aload_n hx hb dX10_shift_80 rfl (lv_at hl 0 rfl) ?_
              refine va_get (D := D) (ci := 10) (v := .ref m_first) (C := RX10) (T := TX10) (N := 25) hx hb hts (fun _ h => List.mem_cons_of_mem _ (List.mem_append_right _ h)) hown hK hP 0 rfl rfl 17 (by decide) (hts (.fieldLink RX10 35 "LineCitesModel" "first" "[Z") (List.mem_of_getElem? (i := 30) rfl)) (fun _ h9 => h9) rfl dX10_shift_81 ?_
              have hPc := hP.sub (ws' := [(h0, .inr (10, [.ref m_now, .ref m_draft, .ref m_past, .int j_acts, .ref m_images, .ref m_kept, .ref m_tape, .int j_taped, .int j_at, .int j_start, .int j_token, .int j_value, .int j_fault, .int j_place, .int j_latest, .ref m_low, .ref m_high, .ref m_first, .ref m_second, .ref m_lines, .ref m_others, .int v75, .int v76, .int v77, .int v78])), (m_now, .inl (kI, 192, .inl g_now)), (m_low, .inl (kI, 1000, .inl y13)), (m_high, .inl (kI, 1000, .inl y14)), (m_first, .inl (kZ, 1000, .inl y86))]) [0, 1, 2, 3, 4] rfl
              have hKc := hK.sub (tys' := [(kI, .int), (kZ, .boolean)]) [0, 1] rfl
              have hDc := hD.sub (ws' := [(h0, .inr (10, [.ref m_now, .ref m_draft, .ref m_past, .int j_acts, .ref m_images, .ref m_kept, .ref m_tape, .int j_taped, .int j_at, .int j_start, .int j_token, .int j_value, .int j_fault, .int j_place, .int j_latest, .ref m_low, .ref m_high, .ref m_first, .ref m_second, .ref m_lines, .ref m_others, .int v75, .int v76, .int v77, .int v78])), (m_now, .inl (kI, 192, .inl g_now)), (m_low, .inl (kI, 1000, .inl y13)), (m_high, .inl (kI, 1000, .inl y14)), (m_first, .inl (kZ, 1000, .inl y86))]) [0, 1, 2, 3, 4] (by decide) rfl
              have hFc := va_free (wc := [(h0, .inr (10, [.ref m_now, .ref m_draft, .ref m_past, .int j_acts, .ref m_images, .ref m_kept, .ref m_tape, .int j_taped, .int j_at, .int j_start, .int j_token, .int j_value, .int j_fault, .int j_place, .int j_latest, .ref m_low, .ref m_high, .ref m_first, .ref m_second, .ref m_lines, .ref m_others, .int v75, .int v76, .int v77, .int v78])), (m_now, .inl (kI, 192, .inl g_now)), (m_low, .inl (kI, 1000, .inl y13)), (m_high, .inl (kI, 1000, .inl y14)), (m_first, .inl (kZ, 1000, .inl y86))]) hD hS hA [0, 1, 2, 3, 4] rfl
              refine va_callv (va_runV (As := [.int i_0, .int v73, .int i_1, .ref m_first]) (rest := []) ⟨hx, hb, hml, hown, hts⟩ (c_X10_comes l D h0 i_0 v73 i_1 m_first m_now m_draft m_past j_acts m_images m_kept m_tape j_taped j_at j_start j_token j_value j_fault j_place j_latest m_low m_high m_first m_second m_lines m_others v75 v76 v77 v78 kI g_now y13 y14 kZ y86 H.size (by first | decide | omega) (by first | decide | omega) (by first | decide | omega) (by first | decide | omega) hg_now hy13 hy14) (cwV 4 hts g_X10_shift_X10_comes rfl rfl rfl (by decide +kernel) ⟨Nat.le_of_ble_eq_true rfl, Nat.le_of_ble_eq_true rfl⟩) ⟨fun a U g mk q => by obtain ⟨q0, q1, qP, qK, qD⟩ := q; exact ⟨q0, q1, qP, va_K.moved (u := U) (U := U.calling g mk a) (Vm.Alike.refl U.vm) qK, qD⟩, va_recv hKc hPc (ci := 10) (q0 := 0) rfl rfl, fun U hU hW => ⟨rfl, by rw [hU], by rw [hU]; exact hPc, va_K.moved hW.alike hKc, hDc.weaken (fun _ _ _ _ => trivial)⟩⟩ rfl rfl hl.1 rfl (lv_room (Nat.le_of_ble_eq_true rfl)) dX10_shift_84 ⟨Nat.le_of_ble_eq_true rfl, Nat.le_of_ble_eq_true rfl⟩) hS (fun q _ h => hFc q h) hFc (fun u t H1 locs ht hvm hw hB hz1 hk1 hS => ?_)
              obtain ⟨y88, hP1, hK1, hD1⟩ := hB
              rw [ht] at hP1
              have hK1 := va_K.moved hvm.symm hK1
              obtain ⟨hP, hD⟩ := va_join (wr := []) (w1 := [(h0, .inr (10, [.ref m_now, .ref m_draft, .ref m_past, .int j_acts, .ref m_images, .ref m_kept, .ref m_tape, .int j_taped, .int j_at, .int j_start, .int j_token, .int j_value, .int j_fault, .int j_place, .int j_latest, .ref m_low, .ref m_high, .ref m_first, .ref m_second, .ref m_lines, .ref m_others, .int v75, .int v76, .int v77, .int v78])), (m_now, .inl (kI, 192, .inl g_now)), (m_low, .inl (kI, 1000, .inl y13)), (m_high, .inl (kI, 1000, .inl y14)), (m_first, .inl (kZ, 1000, .inl y88))]) hP hD [0, 1, 2, 3, 4] [] rfl rfl (by decide) (by decide) hk1 hFc hP1 hD1
              have hK := (hK.sub (tys' := [(kI, .int), (kZ, .boolean), (kI, .int), (kZ, .boolean)]) [0, 1, 2, 3] rfl).app hK1
              generalize H1 = H at hP hS ⊢
              have hP : va_P D vwCl [(h0, .inr (10, [.ref m_now, .ref m_draft, .ref m_past, .int j_acts, .ref m_images, .ref m_kept, .ref m_tape, .int j_taped, .int j_at, .int j_start, .int j_token, .int j_value, .int j_fault, .int j_place, .int j_latest, .ref m_low, .ref m_high, .ref m_first, .ref m_second, .ref m_lines, .ref m_others, .int v75, .int v76, .int v77, .int v78])), (m_now, .inl (kI, 192, .inl g_now)), (m_low, .inl (kI, 1000, .inl y13)), (m_high, .inl (kI, 1000, .inl y14)), (m_first, .inl (kZ, 1000, .inl y88))] H := hP
              have hD : va_D A [(h0, .inr (10, [.ref m_now, .ref m_draft, .ref m_past, .int j_acts, .ref m_images, .ref m_kept, .ref m_tape, .int j_taped, .int j_at, .int j_start, .int j_token, .int j_value, .int j_fault, .int j_place, .int j_latest, .ref m_low, .ref m_high, .ref m_first, .ref m_second, .ref m_lines, .ref m_others, .int v75, .int v76, .int v77, .int v78])), (m_now, .inl (kI, 192, .inl g_now)), (m_low, .inl (kI, 1000, .inl y13)), (m_high, .inl (kI, 1000, .inl y14)), (m_first, .inl (kZ, 1000, .inl y88))] := hD
              have hK : va_K D vwCl [(kI, .int), (kZ, .boolean), (kI, .int), (kZ, .boolean), (kI, .int), (kZ, .boolean)] s := hK
              refine W.widen (k := 0) (n := 0) (Nat.le_of_ble_eq_true rfl) (Nat.le_of_ble_eq_true rfl) ?_
              refine lv_aload_n hx hb dX10_shift_87 rfl (lv_at hl 0 rfl) ?_
              refine va_get (D := D) (ci := 10) (v := .ref m_first) (C := RX10) (T := TX10) (N := 25) hx hb hts (fun _ h => List.mem_cons_of_mem _ (List.mem_append_right _ h)) hown hK hP 0 rfl rfl 17 (by decide) (hts (.fieldLink RX10 35 "LineCitesModel" "first" "[Z") (List.mem_of_getElem? (i := 30) rfl)) (fun _ h9 => h9) rfl dX10_shift_88 ?_
              have hPc := hP.sub (ws' := [(m_first, .inl (kZ, 1000, .inl y88))]) [4] rfl
              have hKc := hK.sub (tys' := [(kZ, .boolean)]) [1] rfl
              refine va_calli (va_runS (As := [.ref m_first]) (rest := []) ⟨hx, hb, hml, hown, hts⟩ (c_X10_leastOf l D m_first kZ y88) (cwS 1 hts g_X10_shift_X10_leastOf rfl rfl rfl (by decide +kernel) ⟨Nat.le_of_ble_eq_true rfl, Nat.le_of_ble_eq_true rfl⟩) ⟨fun a U g mk q => by obtain ⟨q0, qP, qK⟩ := q; exact ⟨q0, qP, va_K.moved (u := U) (U := U.calling g mk a) (Vm.Alike.refl U.vm) qK⟩, fun U hU hW => ⟨rfl, by rw [hU]; exact hPc, va_K.moved hW.alike hKc⟩⟩ rfl rfl hl.1 rfl (lv_room (Nat.le_of_ble_eq_true rfl)) dX10_shift_91 ⟨Nat.le_of_ble_eq_true rfl, Nat.le_of_ble_eq_true rfl⟩) hS (fun _ _ h => h.elim) (fun _ h => h.elim) (fun r89 u t H1 locs ht hvm hw hB hz1 hk1 hS => ?_)
              have hP := pw_keep hP (fun q hq => hk1 q hq (fun h => h))
              generalize H1 = H at hP hS ⊢
              refine W.widen (k := 0) (n := 0) (Nat.le_of_ble_eq_true rfl) (Nat.le_of_ble_eq_true rfl) ?_
              refine lv_istore (lv' := [(7, .int r89), (0, .ref h0), (1, .int i_0), (2, .int i_1), (3, .int i_2), (4, .int i_3), (5, .int v72), (6, .int v73)]) hx hb dX10_shift_94 hl (by decide) rfl (fun ls hl => ?_)
              refine lv_iload hx hb dX10_shift_96 (lv_at hl 0 rfl) ?_
              refine lv_ldc hx hb hown (hts (.constant RX10 61 (-1000000)) (List.mem_of_getElem? (i := 20) rfl)) dX10_shift_98 ?_
              refine lv_icmp_eq (tgt := 163) hx hb dX10_shift_100 (by decide) (fun c90 => ?_) (fun c90 => ?_)
              · have nc90 : r89.toInt = (-1000000) := pw_eq c90 rfl (by decide)
                obtain ⟨x91, ex91⟩ : ∃ y : Int32, y = v73 + 1 := ⟨_, rfl⟩
                have tx91 : x91.toInt = v73.toInt + 1 := pw_addX ex91 rfl (by decide) (by omega) (by omega)
                refine lv_iinc (v := x91) (lv' := [(6, .int x91), (7, .int r89), (0, .ref h0), (1, .int i_0), (2, .int i_1), (3, .int i_2), (4, .int i_3), (5, .int v72)]) hx hb dX10_shift_163 hl (k := 7) rfl (by rw [ex91]; rfl) (by decide) rfl (fun ls hl => ?_)
                refine lv_goto (tgt := 60) hx hb dX10_shift_166 (by decide) ?_
                have hP9 : va_P D vwCl [(m_first, .inl (kZ, 1000, .inl y88)), (h0, .inr (10, [.ref m_now, .ref m_draft, .ref m_past, .int j_acts, .ref m_images, .ref m_kept, .ref m_tape, .int j_taped, .int j_at, .int j_start, .int j_token, .int j_value, .int j_fault, .int j_place, .int j_latest, .ref m_low, .ref m_high, .ref m_first, .ref m_second, .ref m_lines, .ref m_others, .int v75, .int v76, .int v77, .int v78])), (m_now, .inl (kI, 192, .inl g_now)), (m_low, .inl (kI, 1000, .inl y13)), (m_high, .inl (kI, 1000, .inl y14))] H := hP.sub [4, 0, 1, 2, 3] rfl
                have hD9 : va_D A [(m_first, .inl (kZ, 1000, .inl y88)), (h0, .inr (10, [.ref m_now, .ref m_draft, .ref m_past, .int j_acts, .ref m_images, .ref m_kept, .ref m_tape, .int j_taped, .int j_at, .int j_start, .int j_token, .int j_value, .int j_fault, .int j_place, .int j_latest, .ref m_low, .ref m_high, .ref m_first, .ref m_second, .ref m_lines, .ref m_others, .int v75, .int v76, .int v77, .int v78])), (m_now, .inl (kI, 192, .inl g_now)), (m_low, .inl (kI, 1000, .inl y13)), (m_high, .inl (kI, 1000, .inl y14))] := hD.sub [4, 0, 1, 2, 3] (by decide) rfl
                have hl9 : lv_has ls 10 [(0, .ref h0), (1, .int i_0), (2, .int i_1), (3, .int i_2), (4, .int i_3), (5, .int v72), (6, .int x91)] := lv_sub hl [2, 3, 4, 5, 6, 7, 0] rfl
                refine W.widen (k := 0) (n := 0) (Nat.le_of_ble_eq_true rfl) (Nat.le_of_ble_eq_true rfl) ?_
                exact ih79 (v72, x91, y88, v75, v76, v77, v78) _ _ _ (pw_up ex91 (by omega)) ⟨hP9, hD9, hS, hl9, (pw_upge ex91 (by omega) (by omega))⟩
              · have nc90 : r89.toInt ≠ (-1000000) := pw_ne c90 rfl (by decide)
                refine lv_aload_n hx hb dX10_shift_103 rfl (lv_at hl 1 rfl) ?_
                refine va_get (D := D) (ci := 10) (v := .int v76) (C := RX10) (T := TX10) (N := 25) hx hb hts (fun _ h => List.mem_cons_of_mem _ (List.mem_append_right _ h)) hown hK hP 0 rfl rfl 22 (by decide) (hts (.fieldLink RX10 264 "LineCitesModel" "shiftMany" "I") (List.mem_of_getElem? (i := 29) rfl)) (fun _ h9 => h9) rfl dX10_shift_104 ?_
                refine pw_join (fun (v94 : Int32) H locs ls => va_P D vwCl [(h0, .inr (10, [.ref m_now, .ref m_draft, .ref m_past, .int j_acts, .ref m_images, .ref m_kept, .ref m_tape, .int j_taped, .int j_at, .int j_start, .int j_token, .int j_value, .int j_fault, .int j_place, .int j_latest, .ref m_low, .ref m_high, .ref m_first, .ref m_second, .ref m_lines, .ref m_others, .int v75, .int v76, .int v77, .int v78])), (m_now, .inl (kI, 192, .inl g_now)), (m_low, .inl (kI, 1000, .inl y13)), (m_high, .inl (kI, 1000, .inl y14)), (m_first, .inl (kZ, 1000, .inl y88))] H ∧ va_D A [(h0, .inr (10, [.ref m_now, .ref m_draft, .ref m_past, .int j_acts, .ref m_images, .ref m_kept, .ref m_tape, .int j_taped, .int j_at, .int j_start, .int j_token, .int j_value, .int j_fault, .int j_place, .int j_latest, .ref m_low, .ref m_high, .ref m_first, .ref m_second, .ref m_lines, .ref m_others, .int v75, .int v76, .int v77, .int v78])), (m_now, .inl (kI, 192, .inl g_now)), (m_low, .inl (kI, 1000, .inl y13)), (m_high, .inl (kI, 1000, .inl y14)), (m_first, .inl (kZ, 1000, .inl y88))] ∧ va_S A s.heap H locs ∧ lv_has ls 10 [(0, .ref h0), (1, .int i_0), (2, .int i_1), (3, .int i_2), (4, .int i_3), (5, .int v72), (6, .int v73), (7, .int r89)]) 0 0 (fun (v94 : Int32) ls => F0 m 121 ls [.int v94]) (fun v94 H locs ls hI => ?_) (fun hJ95 => ?_)
                ·
                  obtain ⟨hP, hD, hS, hl⟩ := hI
                  have hP : va_P D vwCl [(h0, .inr (10, [.ref m_now, .ref m_draft, .ref m_past, .int j_acts, .ref m_images, .ref m_kept, .ref m_tape, .int j_taped, .int j_at, .int j_start, .int j_token, .int j_value, .int j_fault, .int j_place, .int j_latest, .ref m_low, .ref m_high, .ref m_first, .ref m_second, .ref m_lines, .ref m_others, .int v75, .int v76, .int v77, .int v78])), (m_now, .inl (kI, 192, .inl g_now)), (m_low, .inl (kI, 1000, .inl y13)), (m_high, .inl (kI, 1000, .inl y14)), (m_first, .inl (kZ, 1000, .inl y88))] H := hP
                  have hD : va_D A [(h0, .inr (10, [.ref m_now, .ref m_draft, .ref m_past, .int j_acts, .ref m_images, .ref m_kept, .ref m_tape, .int j_taped, .int j_at, .int j_start, .int j_token, .int j_value, .int j_fault, .int j_place, .int j_latest, .ref m_low, .ref m_high, .ref m_first, .ref m_second, .ref m_lines, .ref m_others, .int v75, .int v76, .int v77, .int v78])), (m_now, .inl (kI, 192, .inl g_now)), (m_low, .inl (kI, 1000, .inl y13)), (m_high, .inl (kI, 1000, .inl y14)), (m_first, .inl (kZ, 1000, .inl y88))] := hD
                  have hK : va_K D vwCl [(kI, .int), (kZ, .boolean), (kI, .int), (kZ, .boolean), (kI, .int), (kZ, .boolean)] s := hK
                  have hl : lv_has ls 10 [(0, .ref h0), (1, .int i_0), (2, .int i_1), (3, .int i_2), (4, .int i_3), (5, .int v72), (6, .int v73), (7, .int r89)] := hl
                  refine W.eq (g2 := F0 m 121 ls [.int v94]) rfl ?_
                  refine lv_istore (lv' := [(8, .int v94), (0, .ref h0), (1, .int i_0), (2, .int i_1), (3, .int i_2), (4, .int i_3), (5, .int v72), (6, .int v73), (7, .int r89)]) hx hb dX10_shift_121 hl (by decide) rfl (fun ls hl => ?_)
                  refine lv_aload_n hx hb dX10_shift_123 rfl (lv_at hl 1 rfl) ?_
                  refine lv_iload hx hb dX10_shift_124 (lv_at hl 7 rfl) ?_
                  refine lv_iload hx hb dX10_shift_126 (lv_at hl 8 rfl) ?_
                  refine lv_aload_n hx hb dX10_shift_128 rfl (lv_at hl 1 rfl) ?_
                  refine va_get (D := D) (ci := 10) (v := .ref m_first) (C := RX10) (T := TX10) (N := 25) hx hb hts (fun _ h => List.mem_cons_of_mem _ (List.mem_append_right _ h)) hown hK hP 0 rfl rfl 17 (by decide) (hts (.fieldLink RX10 35 "LineCitesModel" "first" "[Z") (List.mem_of_getElem? (i := 30) rfl)) (fun _ h9 => h9) rfl dX10_shift_129 ?_
                  have hPc := hP.sub (ws' := [(m_first, .inl (kZ, 1000, .inl y88))]) [4] rfl
                  have hKc := hK.sub (tys' := [(kZ, .boolean)]) [1] rfl
                  refine va_calli (va_runS (As := [.ref m_first]) (rest := [.int r89, .int v73, .ref h0]) ⟨hx, hb, hml, hown, hts⟩ (c_X10_greatestOf l D m_first kZ y88) (cwS 1 hts g_X10_shift_X10_greatestOf rfl rfl rfl (by decide +kernel) ⟨Nat.le_of_ble_eq_true rfl, Nat.le_of_ble_eq_true rfl⟩) ⟨fun a U g mk q => by obtain ⟨q0, qP, qK⟩ := q; exact ⟨q0, qP, va_K.moved (u := U) (U := U.calling g mk a) (Vm.Alike.refl U.vm) qK⟩, fun U hU hW => ⟨rfl, by rw [hU]; exact hPc, va_K.moved hW.alike hKc⟩⟩ rfl rfl hl.1 rfl (lv_room (Nat.le_of_ble_eq_true rfl)) dX10_shift_132 ⟨Nat.le_of_ble_eq_true rfl, Nat.le_of_ble_eq_true rfl⟩) hS (fun _ _ h => h.elim) (fun _ h => h.elim) (fun r96 u t H1 locs ht hvm hw hB hz1 hk1 hS => ?_)
                  have hP := pw_keep hP (fun q hq => hk1 q hq (fun h => h))
                  generalize H1 = H at hP hS ⊢
                  refine W.widen (k := 0) (n := 0) (Nat.le_of_ble_eq_true rfl) (Nat.le_of_ble_eq_true rfl) ?_
                  have hPc := hP.sub (ws' := [(h0, .inr (10, [.ref m_now, .ref m_draft, .ref m_past, .int j_acts, .ref m_images, .ref m_kept, .ref m_tape, .int j_taped, .int j_at, .int j_start, .int j_token, .int j_value, .int j_fault, .int j_place, .int j_latest, .ref m_low, .ref m_high, .ref m_first, .ref m_second, .ref m_lines, .ref m_others, .int v75, .int v76, .int v77, .int v78]))]) [0] rfl
                  have hKc := hK.sub (tys' := []) [] rfl
                  have hDc := hD.sub (ws' := [(h0, .inr (10, [.ref m_now, .ref m_draft, .ref m_past, .int j_acts, .ref m_images, .ref m_kept, .ref m_tape, .int j_taped, .int j_at, .int j_start, .int j_token, .int j_value, .int j_fault, .int j_place, .int j_latest, .ref m_low, .ref m_high, .ref m_first, .ref m_second, .ref m_lines, .ref m_others, .int v75, .int v76, .int v77, .int v78]))]) [0] (by decide) rfl
                  have hFc := va_free (wc := [(h0, .inr (10, [.ref m_now, .ref m_draft, .ref m_past, .int j_acts, .ref m_images, .ref m_kept, .ref m_tape, .int j_taped, .int j_at, .int j_start, .int j_token, .int j_value, .int j_fault, .int j_place, .int j_latest, .ref m_low, .ref m_high, .ref m_first, .ref m_second, .ref m_lines, .ref m_others, .int v75, .int v76, .int v77, .int v78]))]) hD hS hA [0] rfl
                  refine va_calli (va_runV (As := [.int v73, .int r89, .int r96]) (rest := []) ⟨hx, hb, hml, hown, hts⟩ (c_X10_isMore l D h0 v73 r89 r96 m_now m_draft m_past j_acts m_images m_kept m_tape j_taped j_at j_start j_token j_value j_fault j_place j_latest m_low m_high m_first m_second m_lines m_others v75 v76 v77 v78 H.size) (cwV 3 hts g_X10_shift_X10_isMore rfl rfl rfl (by decide +kernel) ⟨Nat.le_of_ble_eq_true rfl, Nat.le_of_ble_eq_true rfl⟩) ⟨fun a U g mk q => by obtain ⟨q0, q1, qP, qK, qD⟩ := q; exact ⟨q0, q1, qP, va_K.moved (u := U) (U := U.calling g mk a) (Vm.Alike.refl U.vm) qK, qD⟩, va_recv hKc hPc (ci := 10) (q0 := 0) rfl rfl, fun U hU hW => ⟨rfl, by rw [hU], by rw [hU]; exact hPc, va_K.moved hW.alike hKc, hDc.weaken (fun _ _ _ _ => trivial)⟩⟩ rfl rfl hl.1 rfl (lv_room (Nat.le_of_ble_eq_true rfl)) dX10_shift_135 ⟨Nat.le_of_ble_eq_true rfl, Nat.le_of_ble_eq_true rfl⟩) hS (fun q _ h => hFc q h) hFc (fun r97 u t H1 locs ht hvm hw hB hz1 hk1 hS => ?_)
                  obtain ⟨y98, y99, y100, y101, hP1, hK1, hD1⟩ := hB
                  rw [ht] at hP1
                  have hK1 := va_K.moved hvm.symm hK1
                  obtain ⟨hP, hD⟩ := va_join (wr := [(m_now, .inl (kI, 192, .inl g_now)), (m_low, .inl (kI, 1000, .inl y13)), (m_high, .inl (kI, 1000, .inl y14)), (m_first, .inl (kZ, 1000, .inl y88))]) (w1 := [(h0, .inr (10, [.ref m_now, .ref m_draft, .ref m_past, .int j_acts, .ref m_images, .ref m_kept, .ref m_tape, .int j_taped, .int j_at, .int j_start, .int j_token, .int j_value, .int j_fault, .int j_place, .int j_latest, .ref m_low, .ref m_high, .ref m_first, .ref m_second, .ref m_lines, .ref m_others, .int y98, .int y99, .int y100, .int y101]))]) hP hD [0] [1, 2, 3, 4] rfl rfl (by decide) (by decide) hk1 hFc hP1 hD1
                  have hK := (hK.sub (tys' := [(kI, .int), (kZ, .boolean), (kI, .int), (kZ, .boolean), (kI, .int), (kZ, .boolean)]) [0, 1, 2, 3, 4, 5] rfl).app hK1
                  generalize H1 = H at hP hS ⊢
                  have hP : va_P D vwCl [(m_now, .inl (kI, 192, .inl g_now)), (m_low, .inl (kI, 1000, .inl y13)), (m_high, .inl (kI, 1000, .inl y14)), (m_first, .inl (kZ, 1000, .inl y88)), (h0, .inr (10, [.ref m_now, .ref m_draft, .ref m_past, .int j_acts, .ref m_images, .ref m_kept, .ref m_tape, .int j_taped, .int j_at, .int j_start, .int j_token, .int j_value, .int j_fault, .int j_place, .int j_latest, .ref m_low, .ref m_high, .ref m_first, .ref m_second, .ref m_lines, .ref m_others, .int y98, .int y99, .int y100, .int y101]))] H := hP
                  have hD : va_D A [(m_now, .inl (kI, 192, .inl g_now)), (m_low, .inl (kI, 1000, .inl y13)), (m_high, .inl (kI, 1000, .inl y14)), (m_first, .inl (kZ, 1000, .inl y88)), (h0, .inr (10, [.ref m_now, .ref m_draft, .ref m_past, .int j_acts, .ref m_images, .ref m_kept, .ref m_tape, .int j_taped, .int j_at, .int j_start, .int j_token, .int j_value, .int j_fault, .int j_place, .int j_latest, .ref m_low, .ref m_high, .ref m_first, .ref m_second, .ref m_lines, .ref m_others, .int y98, .int y99, .int y100, .int y101]))] := hD
                  have hK : va_K D vwCl [(kI, .int), (kZ, .boolean), (kI, .int), (kZ, .boolean), (kI, .int), (kZ, .boolean)] s := hK
                  refine W.widen (k := 0) (n := 0) (Nat.le_of_ble_eq_true rfl) (Nat.le_of_ble_eq_true rfl) ?_
                  have bor97 := hw.1
                  have zor97 := pw_boolI bor97
                  refine lv_istore (lv' := [(9, .int r97), (8, .int v94), (0, .ref h0), (1, .int i_0), (2, .int i_1), (3, .int i_2), (4, .int i_3), (5, .int v72), (6, .int v73), (7, .int r89)]) hx hb dX10_shift_138 hl (by decide) rfl (fun ls hl => ?_)
                  refine lv_iload hx hb dX10_shift_140 (lv_at hl 0 rfl) ?_
                  refine lv_if_ne (tgt := 163) hx hb dX10_shift_142 (by decide) (fun c102 => ?_) (fun c102 => ?_)
                  · have nc102 : r97.toInt ≠ 0 := pw_ne c102 rfl (by decide)
                    obtain ⟨x103, ex103⟩ : ∃ y : Int32, y = v73 + 1 := ⟨_, rfl⟩
                    have tx103 : x103.toInt = v73.toInt + 1 := pw_addX ex103 rfl (by decide) (by omega) (by omega)
                    refine lv_iinc (v := x103) (lv' := [(6, .int x103), (9, .int r97), (8, .int v94), (0, .ref h0), (1, .int i_0), (2, .int i_1), (3, .int i_2), (4, .int i_3), (5, .int v72), (7, .int r89)]) hx hb dX10_shift_163 hl (k := 8) rfl (by rw [ex103]; rfl) (by decide) rfl (fun ls hl => ?_)
                    refine lv_goto (tgt := 60) hx hb dX10_shift_166 (by decide) ?_
                    have hP9 : va_P D vwCl [(m_first, .inl (kZ, 1000, .inl y88)), (h0, .inr (10, [.ref m_now, .ref m_draft, .ref m_past, .int j_acts, .ref m_images, .ref m_kept, .ref m_tape, .int j_taped, .int j_at, .int j_start, .int j_token, .int j_value, .int j_fault, .int j_place, .int j_latest, .ref m_low, .ref m_high, .ref m_first, .ref m_second, .ref m_lines, .ref m_others, .int y98, .int y99, .int y100, .int y101])), (m_now, .inl (kI, 192, .inl g_now)), (m_low, .inl (kI, 1000, .inl y13)), (m_high, .inl (kI, 1000, .inl y14))] H := hP.sub [3, 4, 0, 1, 2] rfl
                    have hD9 : va_D A [(m_first, .inl (kZ, 1000, .inl y88)), (h0, .inr (10, [.ref m_now, .ref m_draft, .ref m_past, .int j_acts, .ref m_images, .ref m_kept, .ref m_tape, .int j_taped, .int j_at, .int j_start, .int j_token, .int j_value, .int j_fault, .int j_place, .int j_latest, .ref m_low, .ref m_high, .ref m_first, .ref m_second, .ref m_lines, .ref m_others, .int y98, .int y99, .int y100, .int y101])), (m_now, .inl (kI, 192, .inl g_now)), (m_low, .inl (kI, 1000, .inl y13)), (m_high, .inl (kI, 1000, .inl y14))] := hD.sub [3, 4, 0, 1, 2] (by decide) rfl
                    have hl9 : lv_has ls 10 [(0, .ref h0), (1, .int i_0), (2, .int i_1), (3, .int i_2), (4, .int i_3), (5, .int v72), (6, .int x103)] := lv_sub hl [3, 4, 5, 6, 7, 8, 0] rfl
                    refine W.widen (k := 0) (n := 0) (Nat.le_of_ble_eq_true rfl) (Nat.le_of_ble_eq_true rfl) ?_
                    exact ih79 (v72, x103, y88, y98, y99, y100, y101) _ _ _ (pw_up ex103 (by omega)) ⟨hP9, hD9, hS, hl9, (pw_upge ex103 (by omega) (by omega))⟩
                  · have nc102 : r97.toInt = 0 := pw_eq c102 rfl (by decide)
                    obtain ⟨x104, ex104⟩ : ∃ y : Int32, y = v72 + 1 := ⟨_, rfl⟩
                    refine lv_iinc (v := x104) (lv' := [(5, .int x104), (9, .int r97), (8, .int v94), (0, .ref h0), (1, .int i_0), (2, .int i_1), (3, .int i_2), (4, .int i_3), (6, .int v73), (7, .int r89)]) hx hb dX10_shift_145 hl (k := 7) rfl (by rw [ex104]; rfl) (by decide) rfl (fun ls hl => ?_)
                    refine lv_iload_n hx hb dX10_shift_148 rfl (lv_at hl 6 rfl) ?_
                    refine lv_if_lt (tgt := 163) hx hb dX10_shift_149 (by decide) (fun c105 => ?_) (fun c105 => ?_)
                    · have nc105 : i_2.toInt < 0 := pw_lt c105 rfl (by decide)
                      obtain ⟨x106, ex106⟩ : ∃ y : Int32, y = v73 + 1 := ⟨_, rfl⟩
                      have tx106 : x106.toInt = v73.toInt + 1 := pw_addX ex106 rfl (by decide) (by omega) (by omega)
                      refine lv_iinc (v := x106) (lv' := [(6, .int x106), (5, .int x104), (9, .int r97), (8, .int v94), (0, .ref h0), (1, .int i_0), (2, .int i_1), (3, .int i_2), (4, .int i_3), (7, .int r89)]) hx hb dX10_shift_163 hl (k := 8) rfl (by rw [ex106]; rfl) (by decide) rfl (fun ls hl => ?_)
                      refine lv_goto (tgt := 60) hx hb dX10_shift_166 (by decide) ?_
                      have hP9 : va_P D vwCl [(m_first, .inl (kZ, 1000, .inl y88)), (h0, .inr (10, [.ref m_now, .ref m_draft, .ref m_past, .int j_acts, .ref m_images, .ref m_kept, .ref m_tape, .int j_taped, .int j_at, .int j_start, .int j_token, .int j_value, .int j_fault, .int j_place, .int j_latest, .ref m_low, .ref m_high, .ref m_first, .ref m_second, .ref m_lines, .ref m_others, .int y98, .int y99, .int y100, .int y101])), (m_now, .inl (kI, 192, .inl g_now)), (m_low, .inl (kI, 1000, .inl y13)), (m_high, .inl (kI, 1000, .inl y14))] H := hP.sub [3, 4, 0, 1, 2] rfl
                      have hD9 : va_D A [(m_first, .inl (kZ, 1000, .inl y88)), (h0, .inr (10, [.ref m_now, .ref m_draft, .ref m_past, .int j_acts, .ref m_images, .ref m_kept, .ref m_tape, .int j_taped, .int j_at, .int j_start, .int j_token, .int j_value, .int j_fault, .int j_place, .int j_latest, .ref m_low, .ref m_high, .ref m_first, .ref m_second, .ref m_lines, .ref m_others, .int y98, .int y99, .int y100, .int y101])), (m_now, .inl (kI, 192, .inl g_now)), (m_low, .inl (kI, 1000, .inl y13)), (m_high, .inl (kI, 1000, .inl y14))] := hD.sub [3, 4, 0, 1, 2] (by decide) rfl
                      have hl9 : lv_has ls 10 [(0, .ref h0), (1, .int i_0), (2, .int i_1), (3, .int i_2), (4, .int i_3), (5, .int x104), (6, .int x106)] := lv_sub hl [4, 5, 6, 7, 8, 1, 0] rfl
                      refine W.widen (k := 0) (n := 0) (Nat.le_of_ble_eq_true rfl) (Nat.le_of_ble_eq_true rfl) ?_
                      exact ih79 (x104, x106, y88, y98, y99, y100, y101) _ _ _ (pw_up ex106 (by omega)) ⟨hP9, hD9, hS, hl9, (pw_upge ex106 (by omega) (by omega))⟩
                    · have nc105 : 0 ≤ i_2.toInt := pw_nlt c105 rfl (by decide)
                      refine lv_iload hx hb dX10_shift_152 (lv_at hl 0 rfl) ?_
                      refine lv_iload_n hx hb dX10_shift_154 rfl (lv_at hl 6 rfl) ?_
                      refine lv_iconst (v := 2) hx hb dX10_shift_155 (by decide) ?_
                      refine lv_iadd hx hb dX10_shift_156 ?_
                      refine lv_topi (fun x107 ex107 => ?_)
                      refine lv_icmp_ne (tgt := 163) hx hb dX10_shift_157 (by decide) (fun c108 => ?_) (fun c108 => ?_)
                      · have nc108 : x104.toInt ≠ x107.toInt := pw_ne c108 rfl rfl
                        have mc108x104 := pw_max x104
                        have mc108x107 := pw_max x107
                        obtain ⟨x109, ex109⟩ : ∃ y : Int32, y = v73 + 1 := ⟨_, rfl⟩
                        have tx109 : x109.toInt = v73.toInt + 1 := pw_addX ex109 rfl (by decide) (by omega) (by omega)
                        refine lv_iinc (v := x109) (lv' := [(6, .int x109), (5, .int x104), (9, .int r97), (8, .int v94), (0, .ref h0), (1, .int i_0), (2, .int i_1), (3, .int i_2), (4, .int i_3), (7, .int r89)]) hx hb dX10_shift_163 hl (k := 8) rfl (by rw [ex109]; rfl) (by decide) rfl (fun ls hl => ?_)
                        refine lv_goto (tgt := 60) hx hb dX10_shift_166 (by decide) ?_
                        have hP9 : va_P D vwCl [(m_first, .inl (kZ, 1000, .inl y88)), (h0, .inr (10, [.ref m_now, .ref m_draft, .ref m_past, .int j_acts, .ref m_images, .ref m_kept, .ref m_tape, .int j_taped, .int j_at, .int j_start, .int j_token, .int j_value, .int j_fault, .int j_place, .int j_latest, .ref m_low, .ref m_high, .ref m_first, .ref m_second, .ref m_lines, .ref m_others, .int y98, .int y99, .int y100, .int y101])), (m_now, .inl (kI, 192, .inl g_now)), (m_low, .inl (kI, 1000, .inl y13)), (m_high, .inl (kI, 1000, .inl y14))] H := hP.sub [3, 4, 0, 1, 2] rfl
                        have hD9 : va_D A [(m_first, .inl (kZ, 1000, .inl y88)), (h0, .inr (10, [.ref m_now, .ref m_draft, .ref m_past, .int j_acts, .ref m_images, .ref m_kept, .ref m_tape, .int j_taped, .int j_at, .int j_start, .int j_token, .int j_value, .int j_fault, .int j_place, .int j_latest, .ref m_low, .ref m_high, .ref m_first, .ref m_second, .ref m_lines, .ref m_others, .int y98, .int y99, .int y100, .int y101])), (m_now, .inl (kI, 192, .inl g_now)), (m_low, .inl (kI, 1000, .inl y13)), (m_high, .inl (kI, 1000, .inl y14))] := hD.sub [3, 4, 0, 1, 2] (by decide) rfl
                        have hl9 : lv_has ls 10 [(0, .ref h0), (1, .int i_0), (2, .int i_1), (3, .int i_2), (4, .int i_3), (5, .int x104), (6, .int x109)] := lv_sub hl [4, 5, 6, 7, 8, 1, 0] rfl
                        refine W.widen (k := 0) (n := 0) (Nat.le_of_ble_eq_true rfl) (Nat.le_of_ble_eq_true rfl) ?_
                        exact ih79 (x104, x109, y88, y98, y99, y100, y101) _ _ _ (pw_up ex109 (by omega)) ⟨hP9, hD9, hS, hl9, (pw_upge ex109 (by omega) (by omega))⟩
                      · have nc108 : x104.toInt = x107.toInt := pw_eq c108 rfl rfl
                        have mc108x104 := pw_max x104
                        have mc108x107 := pw_max x107
                        refine lv_iload hx hb dX10_shift_160 (lv_at hl 2 rfl) ?_
                        have hP9 := hP.sub (ws' := [(h0, .inr (10, [.ref m_now, .ref m_draft, .ref m_past, .int j_acts, .ref m_images, .ref m_kept, .ref m_tape, .int j_taped, .int j_at, .int j_start, .int j_token, .int j_value, .int j_fault, .int j_place, .int j_latest, .ref m_low, .ref m_high, .ref m_first, .ref m_second, .ref m_lines, .ref m_others, .int y98, .int y99, .int y100, .int y101])), (m_now, .inl (kI, 192, .inl g_now)), (m_low, .inl (kI, 1000, .inl y13)), (m_high, .inl (kI, 1000, .inl y14)), (m_first, .inl (kZ, 1000, .inl y88))]) [4, 0, 1, 2, 3] rfl
                        have hD9 := hD.sub (ws' := [(h0, .inr (10, [.ref m_now, .ref m_draft, .ref m_past, .int j_acts, .ref m_images, .ref m_kept, .ref m_tape, .int j_taped, .int j_at, .int j_start, .int j_token, .int j_value, .int j_fault, .int j_place, .int j_latest, .ref m_low, .ref m_high, .ref m_first, .ref m_second, .ref m_lines, .ref m_others, .int y98, .int y99, .int y100, .int y101])), (m_now, .inl (kI, 192, .inl g_now)), (m_low, .inl (kI, 1000, .inl y13)), (m_high, .inl (kI, 1000, .inl y14)), (m_first, .inl (kZ, 1000, .inl y88))]) [4, 0, 1, 2, 3] (by decide) rfl
                        have hK9 := hK.sub (tys' := [(kI, .int), (kZ, .boolean)]) [0, 1] rfl
                        refine W.widen (k := 0) (n := 0) (Nat.le_of_ble_eq_true rfl) (Nat.le_of_ble_eq_true rfl) ?_
                        exact W.iret (v := v94) hx hb hr (fun t ht hW => ⟨⟨v94, (), rfl, trivial, y13, y14, y88, y98, y99, y100, y101, by rw [ht]; exact hP9, va_K.moved hW.alike hK9, hD9, hy13, hy14⟩, hS.F ht⟩) hS.2.2 dX10_shift_162
                ·
                  refine lv_if_ne (tgt := 115) hx hb dX10_shift_107 (by decide) (fun c110 => ?_) (fun c110 => ?_)
                  · have nc110 : v76.toInt ≠ 0 := pw_ne c110 rfl (by decide)
                    refine lv_aload_n hx hb dX10_shift_115 rfl (lv_at hl 1 rfl) ?_
                    refine lv_iload hx hb dX10_shift_116 (lv_at hl 5 rfl) ?_
                    have hPc := hP.sub (ws' := [(h0, .inr (10, [.ref m_now, .ref m_draft, .ref m_past, .int j_acts, .ref m_images, .ref m_kept, .ref m_tape, .int j_taped, .int j_at, .int j_start, .int j_token, .int j_value, .int j_fault, .int j_place, .int j_latest, .ref m_low, .ref m_high, .ref m_first, .ref m_second, .ref m_lines, .ref m_others, .int v75, .int v76, .int v77, .int v78]))]) [0] rfl
                    have hKc := hK.sub (tys' := []) [] rfl
                    refine va_calli (va_runV (As := [.int i_3]) (rest := []) ⟨hx, hb, hml, hown, hts⟩ (c_X10_toldShift l D h0 i_3 m_now m_draft m_past j_acts m_images m_kept m_tape j_taped j_at j_start j_token j_value j_fault j_place j_latest m_low m_high m_first m_second m_lines m_others v75 v76 v77 v78) (cwV 1 hts g_X10_shift_X10_toldShift rfl rfl rfl (by decide +kernel) ⟨Nat.le_of_ble_eq_true rfl, Nat.le_of_ble_eq_true rfl⟩) ⟨fun a U g mk q => by obtain ⟨q0, qP, qK⟩ := q; exact ⟨q0, qP, va_K.moved (u := U) (U := U.calling g mk a) (Vm.Alike.refl U.vm) qK⟩, va_recv hKc hPc (ci := 10) (q0 := 0) rfl rfl, fun U hU hW => ⟨rfl, by rw [hU]; exact hPc, va_K.moved hW.alike hKc⟩⟩ rfl rfl hl.1 rfl (lv_room (Nat.le_of_ble_eq_true rfl)) dX10_shift_118 ⟨Nat.le_of_ble_eq_true rfl, Nat.le_of_ble_eq_true rfl⟩) hS (fun _ _ h => h.elim) (fun _ h => h.elim) (fun r111 u t H1 locs ht hvm hw hB hz1 hk1 hS => ?_)
                    have hP := pw_keep hP (fun q hq => hk1 q hq (fun h => h))
                    generalize H1 = H at hP hS ⊢
                    refine W.widen (k := 0) (n := 0) (Nat.le_of_ble_eq_true rfl) (Nat.le_of_ble_eq_true rfl) ?_
                    have hP9 : va_P D vwCl [(h0, .inr (10, [.ref m_now, .ref m_draft, .ref m_past, .int j_acts, .ref m_images, .ref m_kept, .ref m_tape, .int j_taped, .int j_at, .int j_start, .int j_token, .int j_value, .int j_fault, .int j_place, .int j_latest, .ref m_low, .ref m_high, .ref m_first, .ref m_second, .ref m_lines, .ref m_others, .int v75, .int v76, .int v77, .int v78])), (m_now, .inl (kI, 192, .inl g_now)), (m_low, .inl (kI, 1000, .inl y13)), (m_high, .inl (kI, 1000, .inl y14)), (m_first, .inl (kZ, 1000, .inl y88))] H := hP.sub [0, 1, 2, 3, 4] rfl
                    have hD9 : va_D A [(h0, .inr (10, [.ref m_now, .ref m_draft, .ref m_past, .int j_acts, .ref m_images, .ref m_kept, .ref m_tape, .int j_taped, .int j_at, .int j_start, .int j_token, .int j_value, .int j_fault, .int j_place, .int j_latest, .ref m_low, .ref m_high, .ref m_first, .ref m_second, .ref m_lines, .ref m_others, .int v75, .int v76, .int v77, .int v78])), (m_now, .inl (kI, 192, .inl g_now)), (m_low, .inl (kI, 1000, .inl y13)), (m_high, .inl (kI, 1000, .inl y14)), (m_first, .inl (kZ, 1000, .inl y88))] := hD.sub [0, 1, 2, 3, 4] (by decide) rfl
                    have hl9 : lv_has ls 10 [(0, .ref h0), (1, .int i_0), (2, .int i_1), (3, .int i_2), (4, .int i_3), (5, .int v72), (6, .int v73), (7, .int r89)] := lv_sub hl [1, 2, 3, 4, 5, 6, 7, 0] rfl
                    refine W.widen (k := 0) (n := 0) (Nat.le_of_ble_eq_true rfl) (Nat.le_of_ble_eq_true rfl) ?_
                    exact hJ95 r111 _ _ _ ⟨hP9, hD9, hS, hl9⟩
                  · have nc110 : v76.toInt = 0 := pw_eq c110 rfl (by decide)
                    refine lv_ldc hx hb hown (hts (.constant RX10 61 (-1000000)) (List.mem_of_getElem? (i := 20) rfl)) dX10_shift_110 ?_
                    refine lv_goto (tgt := 121) hx hb dX10_shift_112 (by decide) ?_
                    have hP9 : va_P D vwCl [(h0, .inr (10, [.ref m_now, .ref m_draft, .ref m_past, .int j_acts, .ref m_images, .ref m_kept, .ref m_tape, .int j_taped, .int j_at, .int j_start, .int j_token, .int j_value, .int j_fault, .int j_place, .int j_latest, .ref m_low, .ref m_high, .ref m_first, .ref m_second, .ref m_lines, .ref m_others, .int v75, .int v76, .int v77, .int v78])), (m_now, .inl (kI, 192, .inl g_now)), (m_low, .inl (kI, 1000, .inl y13)), (m_high, .inl (kI, 1000, .inl y14)), (m_first, .inl (kZ, 1000, .inl y88))] H := hP.sub [0, 1, 2, 3, 4] rfl
                    have hD9 : va_D A [(h0, .inr (10, [.ref m_now, .ref m_draft, .ref m_past, .int j_acts, .ref m_images, .ref m_kept, .ref m_tape, .int j_taped, .int j_at, .int j_start, .int j_token, .int j_value, .int j_fault, .int j_place, .int j_latest, .ref m_low, .ref m_high, .ref m_first, .ref m_second, .ref m_lines, .ref m_others, .int v75, .int v76, .int v77, .int v78])), (m_now, .inl (kI, 192, .inl g_now)), (m_low, .inl (kI, 1000, .inl y13)), (m_high, .inl (kI, 1000, .inl y14)), (m_first, .inl (kZ, 1000, .inl y88))] := hD.sub [0, 1, 2, 3, 4] (by decide) rfl
                    have hl9 : lv_has ls 10 [(0, .ref h0), (1, .int i_0), (2, .int i_1), (3, .int i_2), (4, .int i_3), (5, .int v72), (6, .int v73), (7, .int r89)] := lv_sub hl [1, 2, 3, 4, 5, 6, 7, 0] rfl
                    refine W.widen (k := 0) (n := 0) (Nat.le_of_ble_eq_true rfl) (Nat.le_of_ble_eq_true rfl) ?_
                    exact hJ95 (-1000000) _ _ _ ⟨hP9, hD9, hS, hl9⟩
          · have nc11 : r10.toInt = 0 := pw_eq c11 rfl (by decide)
            refine lv_ldc hx hb hown (hts (.constant RX10 177 (-1000001)) (List.mem_of_getElem? (i := 14) rfl)) dX10_shift_42 ?_
            have hP9 := hP.sub (ws' := [(h0, .inr (10, [.ref m_now, .ref m_draft, .ref m_past, .int j_acts, .ref m_images, .ref m_kept, .ref m_tape, .int j_taped, .int j_at, .int j_start, .int j_token, .int j_value, .int j_fault, .int j_place, .int j_latest, .ref m_low, .ref m_high, .ref m_first, .ref m_second, .ref m_lines, .ref m_others, .int j_shiftFirst, .int j_shiftMany, .int j_shiftLow, .int j_shiftHigh])), (m_now, .inl (kI, 192, .inl g_now)), (m_low, .inl (kI, 1000, .inl g_low)), (m_high, .inl (kI, 1000, .inl g_high)), (m_first, .inl (kZ, 1000, .inl g_first))]) [0, 1, 2, 3, 4] rfl
            have hD9 := hD.sub (ws' := [(h0, .inr (10, [.ref m_now, .ref m_draft, .ref m_past, .int j_acts, .ref m_images, .ref m_kept, .ref m_tape, .int j_taped, .int j_at, .int j_start, .int j_token, .int j_value, .int j_fault, .int j_place, .int j_latest, .ref m_low, .ref m_high, .ref m_first, .ref m_second, .ref m_lines, .ref m_others, .int j_shiftFirst, .int j_shiftMany, .int j_shiftLow, .int j_shiftHigh])), (m_now, .inl (kI, 192, .inl g_now)), (m_low, .inl (kI, 1000, .inl g_low)), (m_high, .inl (kI, 1000, .inl g_high)), (m_first, .inl (kZ, 1000, .inl g_first))]) [0, 1, 2, 3, 4] (by decide) rfl
            have hK9 := hK.sub (tys' := [(kI, .int), (kZ, .boolean)]) [0, 1] rfl
            refine W.widen (k := 0) (n := 0) (Nat.le_of_ble_eq_true rfl) (Nat.le_of_ble_eq_true rfl) ?_
            exact W.iret (v := (-1000001)) hx hb hr (fun t ht hW => ⟨⟨(-1000001), (), rfl, trivial, g_low, g_high, g_first, j_shiftFirst, j_shiftMany, j_shiftLow, j_shiftHigh, by rw [ht]; exact hP9, va_K.moved hW.alike hK9, hD9, hg_low, hg_high⟩, hS.F ht⟩) hS.2.2 dX10_shift_44
        ·
          refine lv_if_ge (tgt := 33) hx hb dX10_shift_26 (by decide) (fun c112 => ?_) (fun c112 => ?_)
          · have nc112 : 0 ≤ i_2.toInt := pw_le c112 (by decide) rfl
            refine lv_ldc2 hx hb hown (hts (.constantLong RX10 219 (2)) (List.mem_of_getElem? (i := 15) rfl)) dX10_shift_33 ?_
            have hP9 : va_P D vwCl [(h0, .inr (10, [.ref m_now, .ref m_draft, .ref m_past, .int j_acts, .ref m_images, .ref m_kept, .ref m_tape, .int j_taped, .int j_at, .int j_start, .int j_token, .int j_value, .int j_fault, .int j_place, .int j_latest, .ref m_low, .ref m_high, .ref m_first, .ref m_second, .ref m_lines, .ref m_others, .int j_shiftFirst, .int j_shiftMany, .int j_shiftLow, .int j_shiftHigh])), (m_now, .inl (kI, 192, .inl g_now)), (m_low, .inl (kI, 1000, .inl g_low)), (m_high, .inl (kI, 1000, .inl g_high)), (m_first, .inl (kZ, 1000, .inl g_first))] H := hP.sub [0, 1, 2, 3, 4] rfl
            have hD9 : va_D A [(h0, .inr (10, [.ref m_now, .ref m_draft, .ref m_past, .int j_acts, .ref m_images, .ref m_kept, .ref m_tape, .int j_taped, .int j_at, .int j_start, .int j_token, .int j_value, .int j_fault, .int j_place, .int j_latest, .ref m_low, .ref m_high, .ref m_first, .ref m_second, .ref m_lines, .ref m_others, .int j_shiftFirst, .int j_shiftMany, .int j_shiftLow, .int j_shiftHigh])), (m_now, .inl (kI, 192, .inl g_now)), (m_low, .inl (kI, 1000, .inl g_low)), (m_high, .inl (kI, 1000, .inl g_high)), (m_first, .inl (kZ, 1000, .inl g_first))] := hD.sub [0, 1, 2, 3, 4] (by decide) rfl
            have hl9 : lv_has ls 10 [(0, .ref h0), (1, .int i_0), (2, .int i_1), (3, .int i_2), (4, .int i_3)] := lv_sub hl [0, 1, 2, 3, 4] rfl
            refine W.widen (k := 0) (n := 0) (Nat.le_of_ble_eq_true rfl) (Nat.le_of_ble_eq_true rfl) ?_
            exact hJ9 (2, i_3.toInt64) _ _ _ ⟨hP9, hD9, hS, hl9⟩
          · have nc112 : i_2.toInt < 0 := pw_nle c112 (by decide) rfl
            refine lv_lconst (v := 0) hx hb dX10_shift_29 (by decide) ?_
            refine lv_goto (tgt := 36) hx hb dX10_shift_30 (by decide) ?_
            have hP9 : va_P D vwCl [(h0, .inr (10, [.ref m_now, .ref m_draft, .ref m_past, .int j_acts, .ref m_images, .ref m_kept, .ref m_tape, .int j_taped, .int j_at, .int j_start, .int j_token, .int j_value, .int j_fault, .int j_place, .int j_latest, .ref m_low, .ref m_high, .ref m_first, .ref m_second, .ref m_lines, .ref m_others, .int j_shiftFirst, .int j_shiftMany, .int j_shiftLow, .int j_shiftHigh])), (m_now, .inl (kI, 192, .inl g_now)), (m_low, .inl (kI, 1000, .inl g_low)), (m_high, .inl (kI, 1000, .inl g_high)), (m_first, .inl (kZ, 1000, .inl g_first))] H := hP.sub [0, 1, 2, 3, 4] rfl
            have hD9 : va_D A [(h0, .inr (10, [.ref m_now, .ref m_draft, .ref m_past, .int j_acts, .ref m_images, .ref m_kept, .ref m_tape, .int j_taped, .int j_at, .int j_start, .int j_token, .int j_value, .int j_fault, .int j_place, .int j_latest, .ref m_low, .ref m_high, .ref m_first, .ref m_second, .ref m_lines, .ref m_others, .int j_shiftFirst, .int j_shiftMany, .int j_shiftLow, .int j_shiftHigh])), (m_now, .inl (kI, 192, .inl g_now)), (m_low, .inl (kI, 1000, .inl g_low)), (m_high, .inl (kI, 1000, .inl g_high)), (m_first, .inl (kZ, 1000, .inl g_first))] := hD.sub [0, 1, 2, 3, 4] (by decide) rfl
            have hl9 : lv_has ls 10 [(0, .ref h0), (1, .int i_0), (2, .int i_1), (3, .int i_2), (4, .int i_3)] := lv_sub hl [0, 1, 2, 3, 4] rfl
            refine W.widen (k := 0) (n := 0) (Nat.le_of_ble_eq_true rfl) (Nat.le_of_ble_eq_true rfl) ?_
            exact hJ9 (0, i_3.toInt64) _ _ _ ⟨hP9, hD9, hS, hl9⟩
def w_X10_table : List Cond := .code yX10_table cX10_table 7 (some .int) :: ([.methodLink RX10 55 yX10_isEdition, .instanceMethod yX10_isEdition, .selects RX10 yX10_isEdition yX10_isEdition, .initialized RX10, .code yX10_isEdition cX10_isEdition 2 (some .boolean), .methodLink RX10 47 yX10_isWork, .instanceMethod yX10_isWork, .selects RX10 yX10_isWork yX10_isWork, .code yX10_isWork cX10_isWork 1 (some .boolean), .fieldLink RX10 7 "LineCitesModel" "now" "[I", .methodLink RX10 51 yX10_in0, .static yX10_in0, .code yX10_in0 cX10_in0 6 (some .boolean), .constant RX10 177 (-1000001), .constantLong RX10 211 (3), .methodLink RX10 221 yX10_lays, .instanceMethod yX10_lays, .selects RX10 yX10_lays yX10_lays, .code yX10_lays cX10_lays 9 none, .constant RX10 61 (-1000000), .fieldLink RX10 29 "LineCitesModel" "low" "[I", .fieldLink RX10 32 "LineCitesModel" "high" "[I", .methodLink RX10 66 yX10_stretchOf, .static yX10_stretchOf, .code yX10_stretchOf cX10_stretchOf 7 (some .int), .methodLink RX10 62 yX10_of, .static yX10_of, .code yX10_of cX10_of 4 (some .int), .methodLink RX10 239 yX10_meantBy, .instanceMethod yX10_meantBy, .selects RX10 yX10_meantBy yX10_meantBy, .code yX10_meantBy cX10_meantBy 8 (some .int), .methodLink RX10 69 yX10_isMeant, .instanceMethod yX10_isMeant, .selects RX10 yX10_isMeant yX10_isMeant, .code yX10_isMeant cX10_isMeant 4 (some .boolean), .fieldLink RX10 35 "LineCitesModel" "first" "[Z", .methodLink RX10 87 yX10_clears, .static yX10_clears, .code yX10_clears cX10_clears 2 none, .methodLink RX10 91 yX10_comes, .instanceMethod yX10_comes, .selects RX10 yX10_comes yX10_comes, .code yX10_comes cX10_comes 6 none, .methodLink RX10 73 yX10_hasNumber, .instanceMethod yX10_hasNumber, .selects RX10 yX10_hasNumber yX10_hasNumber, .code yX10_hasNumber cX10_hasNumber 3 (some .boolean), .methodLink RX10 77 yX10_manyIn, .static yX10_manyIn, .code yX10_manyIn cX10_manyIn 3 (some .int), .methodLink RX10 260 yX10_goes, .instanceMethod yX10_goes, .selects RX10 yX10_goes yX10_goes, .code yX10_goes cX10_goes 6 none, .fieldLink RX10 38 "LineCitesModel" "second" "[Z"] ++ wsX100)
set_option maxRecDepth 20000 in
theorem g_X10_table_X10_isEdition : GoodIn w_X10_table (wsV RX10 55 RX10 yX10_isEdition w_X10_isEdition) := goodIn_r _ [1, 2, 3, 4, 5, 6, 7, 8, 4, 9, 10, 11, 12, 13, 57, 58, 59, 60, 61, 62, 63, 64, 65, 66, 67, 68, 69, 70, 71, 72, 73, 74, 75, 76, 77, 78, 79, 80, 81] rfl (by decide +kernel)
set_option maxRecDepth 20000 in
theorem g_X10_table_X10_in0 : GoodIn w_X10_table (wsS RX10 51 yX10_in0 w_X10_in0) := goodIn_r _ [11, 12, 4, 13] rfl (by decide +kernel)
set_option maxRecDepth 20000 in
theorem g_X10_table_X10_lays : GoodIn w_X10_table (wsV RX10 221 RX10 yX10_lays w_X10_lays) := goodIn_r _ [16, 17, 18, 4, 19, 10, 20, 21, 22, 23, 24, 4, 25, 26, 27, 28, 11, 12, 13, 57, 58, 59, 60, 61, 62, 63, 64, 65, 66, 67, 68, 69, 70, 71, 72, 73, 74, 75, 76, 77, 78, 79, 80, 81] rfl (by decide +kernel)
set_option maxRecDepth 20000 in
theorem g_X10_table_X10_meantBy : GoodIn w_X10_table (wsV RX10 239 RX10 yX10_meantBy w_X10_meantBy) := goodIn_r _ [29, 30, 31, 4, 32, 20, 10, 33, 34, 35, 4, 36, 21, 22, 57, 58, 59, 60, 61, 62, 63, 64, 65, 66, 67, 68, 69, 70, 71, 72, 73, 74, 75, 76, 77, 78, 79, 80, 81] rfl (by decide +kernel)
set_option maxRecDepth 20000 in
theorem g_X10_table_X10_clears : GoodIn w_X10_table (wsS RX10 87 yX10_clears w_X10_clears) := goodIn_r _ [38, 39, 4, 40] rfl (by decide +kernel)
set_option maxRecDepth 20000 in
theorem g_X10_table_X10_comes : GoodIn w_X10_table (wsV RX10 91 RX10 yX10_comes w_X10_comes) := goodIn_r _ [41, 42, 43, 4, 44, 10, 33, 34, 35, 4, 36, 21, 22, 45, 46, 47, 48, 57, 58, 59, 60, 61, 62, 63, 64, 65, 66, 67, 68, 69, 70, 71, 72, 73, 74, 75, 76, 77, 78, 79, 80, 81] rfl (by decide +kernel)
set_option maxRecDepth 20000 in
theorem g_X10_table_X10_manyIn : GoodIn w_X10_table (wsS RX10 77 yX10_manyIn w_X10_manyIn) := goodIn_r _ [49, 50, 4, 51] rfl (by decide +kernel)
set_option maxRecDepth 20000 in
theorem g_X10_table_X10_goes : GoodIn w_X10_table (wsV RX10 260 RX10 yX10_goes w_X10_goes) := goodIn_r _ [52, 53, 54, 4, 55, 56, 38, 39, 4, 40, 41, 42, 43, 44, 10, 33, 34, 35, 36, 21, 22, 45, 46, 47, 48, 37, 57, 58, 59, 60, 61, 62, 63, 64, 65, 66, 67, 68, 69, 70, 71, 72, 73, 74, 75, 76, 77, 78, 79, 80, 81] rfl (by decide +kernel)
set_option maxHeartbeats 4000000 in
set_option maxRecDepth 100000 in
theorem c_X10_table (l : Launch) (D : va_G) (h0 : Nat) (i_0 : Int32) (i_1 : Int32) (i_2 : Int32) (m_now : Nat) (m_draft : Nat) (m_past : Nat) (j_acts : Int32) (m_images : Nat) (m_kept : Nat) (m_tape : Nat) (j_taped : Int32) (j_at : Int32) (j_start : Int32) (j_token : Int32) (j_value : Int32) (j_fault : Int32) (j_place : Int32) (j_latest : Int32) (m_low : Nat) (m_high : Nat) (m_first : Nat) (m_second : Nat) (m_lines : Nat) (m_others : Nat) (j_shiftFirst : Int32) (j_shiftMany : Int32) (j_shiftLow : Int32) (j_shiftHigh : Int32) (kI : ClassId) (g_now : Nat → Int32) (g_low : Nat → Int32) (g_high : Nat → Int32) (kZ : ClassId) (g_first : Nat → Int32) (g_second : Nat → Int32) (sz : Nat) (hg_now : gV g_now) (hg_low : bP g_low) (hg_high : bP g_high) : Met l yX10_table w_X10_table ({ frames := 3, cells := 0, slots := 0, locals := 79 }) (va_Pc [.ref h0, .int i_0, .int i_1, .int i_2] (fun U => U.heap.size = sz ∧ va_P D vwCl [(h0, .inr (10, [.ref m_now, .ref m_draft, .ref m_past, .int j_acts, .ref m_images, .ref m_kept, .ref m_tape, .int j_taped, .int j_at, .int j_start, .int j_token, .int j_value, .int j_fault, .int j_place, .int j_latest, .ref m_low, .ref m_high, .ref m_first, .ref m_second, .ref m_lines, .ref m_others, .int j_shiftFirst, .int j_shiftMany, .int j_shiftLow, .int j_shiftHigh])), (m_now, .inl (kI, 192, .inl g_now)), (m_low, .inl (kI, 1000, .inl g_low)), (m_high, .inl (kI, 1000, .inl g_high)), (m_first, .inl (kZ, 1000, .inl g_first)), (m_second, .inl (kZ, 1000, .inl g_second))] U.heap ∧ va_K D vwCl [(kI, .int), (kZ, .boolean)] U ∧ va_D (fun _ => True) [(h0, .inr (10, [.ref m_now, .ref m_draft, .ref m_past, .int j_acts, .ref m_images, .ref m_kept, .ref m_tape, .int j_taped, .int j_at, .int j_start, .int j_token, .int j_value, .int j_fault, .int j_place, .int j_latest, .ref m_low, .ref m_high, .ref m_first, .ref m_second, .ref m_lines, .ref m_others, .int j_shiftFirst, .int j_shiftMany, .int j_shiftLow, .int j_shiftHigh])), (m_now, .inl (kI, 192, .inl g_now)), (m_low, .inl (kI, 1000, .inl g_low)), (m_high, .inl (kI, 1000, .inl g_high)), (m_first, .inl (kZ, 1000, .inl g_first)), (m_second, .inl (kZ, 1000, .inl g_second))])) (va_Qi (fun (r : Int32) (_ : Unit) => True) (fun (_ : Unit) t => ∃ (n_low : Nat → Int32) (n_high : Nat → Int32) (n_first : Nat → Int32) (n_second : Nat → Int32), va_P D vwCl [(h0, .inr (10, [.ref m_now, .ref m_draft, .ref m_past, .int j_acts, .ref m_images, .ref m_kept, .ref m_tape, .int j_taped, .int j_at, .int j_start, .int j_token, .int j_value, .int j_fault, .int j_place, .int j_latest, .ref m_low, .ref m_high, .ref m_first, .ref m_second, .ref m_lines, .ref m_others, .int j_shiftFirst, .int j_shiftMany, .int j_shiftLow, .int j_shiftHigh])), (m_now, .inl (kI, 192, .inl g_now)), (m_low, .inl (kI, 1000, .inl n_low)), (m_high, .inl (kI, 1000, .inl n_high)), (m_first, .inl (kZ, 1000, .inl n_first)), (m_second, .inl (kZ, 1000, .inl n_second))] t.heap ∧ va_K D vwCl [(kI, .int), (kZ, .boolean)] t ∧ va_D (va_A [(h0, .inr (10, [.ref m_now, .ref m_draft, .ref m_past, .int j_acts, .ref m_images, .ref m_kept, .ref m_tape, .int j_taped, .int j_at, .int j_start, .int j_token, .int j_value, .int j_fault, .int j_place, .int j_latest, .ref m_low, .ref m_high, .ref m_first, .ref m_second, .ref m_lines, .ref m_others, .int j_shiftFirst, .int j_shiftMany, .int j_shiftLow, .int j_shiftHigh])), (m_now, .inl (kI, 192, .inl g_now)), (m_low, .inl (kI, 1000, .inl g_low)), (m_high, .inl (kI, 1000, .inl g_high)), (m_first, .inl (kZ, 1000, .inl g_first)), (m_second, .inl (kZ, 1000, .inl g_second))] sz) [(h0, .inr (10, [.ref m_now, .ref m_draft, .ref m_past, .int j_acts, .ref m_images, .ref m_kept, .ref m_tape, .int j_taped, .int j_at, .int j_start, .int j_token, .int j_value, .int j_fault, .int j_place, .int j_latest, .ref m_low, .ref m_high, .ref m_first, .ref m_second, .ref m_lines, .ref m_others, .int j_shiftFirst, .int j_shiftMany, .int j_shiftLow, .int j_shiftHigh])), (m_now, .inl (kI, 192, .inl g_now)), (m_low, .inl (kI, 1000, .inl n_low)), (m_high, .inl (kI, 1000, .inl n_high)), (m_first, .inl (kZ, 1000, .inl n_first)), (m_second, .inl (kZ, 1000, .inl n_second))] ∧ bP n_low ∧ bP n_high) (va_A [(h0, .inr (10, [.ref m_now, .ref m_draft, .ref m_past, .int j_acts, .ref m_images, .ref m_kept, .ref m_tape, .int j_taped, .int j_at, .int j_start, .int j_token, .int j_value, .int j_fault, .int j_place, .int j_latest, .ref m_low, .ref m_high, .ref m_first, .ref m_second, .ref m_lines, .ref m_others, .int j_shiftFirst, .int j_shiftMany, .int j_shiftLow, .int j_shiftHigh])), (m_now, .inl (kI, 192, .inl g_now)), (m_low, .inl (kI, 1000, .inl g_low)), (m_high, .inl (kI, 1000, .inl g_high)), (m_first, .inl (kZ, 1000, .inl g_first)), (m_second, .inl (kZ, 1000, .inl g_second))] sz)) 0 0 (va_A [(h0, .inr (10, [.ref m_now, .ref m_draft, .ref m_past, .int j_acts, .ref m_images, .ref m_kept, .ref m_tape, .int j_taped, .int j_at, .int j_start, .int j_token, .int j_value, .int j_fault, .int j_place, .int j_latest, .ref m_low, .ref m_high, .ref m_first, .ref m_second, .ref m_lines, .ref m_others, .int j_shiftFirst, .int j_shiftMany, .int j_shiftLow, .int j_shiftHigh])), (m_now, .inl (kI, 192, .inl g_now)), (m_low, .inl (kI, 1000, .inl g_low)), (m_high, .inl (kI, 1000, .inl g_high)), (m_first, .inl (kZ, 1000, .inl g_first)), (m_second, .inl (kZ, 1000, .inl g_second))] sz) := by
  refine Met.ofW (cc := cX10_table) (maxL := 7) (ret := (some .int)) (by decide) rfl ?_
  intro p e s m args below meth c s₁ B hml hv
  obtain ⟨rfl, hsz, hP, hK, hD0⟩ := hv
  have hx := B.exec
  have hb := B.bytes
  have hr := B.returns
  have hts := atoms_spec (ws := w_X10_table) B.pre
  have hown : s.vm.findClass RX10 = some m.cls := findClass_of_methodNamed B.named
  have hlocks := B.notSynchronized
  subst hsz
  have hD := hD0.self (sz := s.heap.size)
  generalize hAe : va_A [(h0, .inr (10, [.ref m_now, .ref m_draft, .ref m_past, .int j_acts, .ref m_images, .ref m_kept, .ref m_tape, .int j_taped, .int j_at, .int j_start, .int j_token, .int j_value, .int j_fault, .int j_place, .int j_latest, .ref m_low, .ref m_high, .ref m_first, .ref m_second, .ref m_lines, .ref m_others, .int j_shiftFirst, .int j_shiftMany, .int j_shiftLow, .int j_shiftHigh])), (m_now, .inl (kI, 192, .inl g_now)), (m_low, .inl (kI, 1000, .inl g_low)), (m_high, .inl (kI, 1000, .inl g_high)), (m_first, .inl (kZ, 1000, .inl g_first)), (m_second, .inl (kZ, 1000, .inl g_second))] s.heap.size = A at hD ⊢
  have hA : ∀ q : Nat, s.heap.size ≤ q → A q := fun q h => by rw [← hAe]; exact Or.inr h
  have hS : va_S A s.heap s.heap [] := va_S.rf
  have hP : va_P D vwCl [(h0, .inr (10, [.ref m_now, .ref m_draft, .ref m_past, .int j_acts, .ref m_images, .ref m_kept, .ref m_tape, .int j_taped, .int j_at, .int j_start, .int j_token, .int j_value, .int j_fault, .int j_place, .int j_latest, .ref m_low, .ref m_high, .ref m_first, .ref m_second, .ref m_lines, .ref m_others, .int j_shiftFirst, .int j_shiftMany, .int j_shiftLow, .int j_shiftHigh])), (m_now, .inl (kI, 192, .inl g_now)), (m_low, .inl (kI, 1000, .inl g_low)), (m_high, .inl (kI, 1000, .inl g_high)), (m_first, .inl (kZ, 1000, .inl g_first)), (m_second, .inl (kZ, 1000, .inl g_second))] s.heap := hP
  have hl := lv_entry ([.ref h0, .int i_0, .int i_1, .int i_2]) (n := 7) (Nat.le_of_ble_eq_true rfl)
  rw [lg_entry_eq]
  generalize (lg_sl ([.ref h0, .int i_0, .int i_1, .int i_2]) ++ List.replicate (7 - (lg_sl ([.ref h0, .int i_0, .int i_1, .int i_2])).length) Slot.unset).toArray = ls at hl ⊢
  have hl : lv_has ls 7 [(0, .ref h0), (1, .int i_0), (2, .int i_1), (3, .int i_2)] := hl
  obtain ⟨H, hHe⟩ : ∃ H : Heap, H = s.heap := ⟨_, rfl⟩
  rw [← hHe] at hP
  have hS : va_S A s.heap H [] := by rw [hHe]; exact hS
  refine pw_heap hHe ?_
  refine lv_aload_n hx hb dX10_table_0 rfl (lv_at hl 0 rfl) ?_
  refine lv_iload_n hx hb dX10_table_1 rfl (lv_at hl 1 rfl) ?_
  have hPc := hP.sub (ws' := [(h0, .inr (10, [.ref m_now, .ref m_draft, .ref m_past, .int j_acts, .ref m_images, .ref m_kept, .ref m_tape, .int j_taped, .int j_at, .int j_start, .int j_token, .int j_value, .int j_fault, .int j_place, .int j_latest, .ref m_low, .ref m_high, .ref m_first, .ref m_second, .ref m_lines, .ref m_others, .int j_shiftFirst, .int j_shiftMany, .int j_shiftLow, .int j_shiftHigh])), (m_now, .inl (kI, 192, .inl g_now))]) [0, 1] rfl
  have hKc := hK.sub (tys' := [(kI, .int)]) [0] rfl
  refine va_calli (va_runV (As := [.int i_0]) (rest := []) ⟨hx, hb, hml, hown, hts⟩ (c_X10_isEdition l D h0 i_0 m_now m_draft m_past j_acts m_images m_kept m_tape j_taped j_at j_start j_token j_value j_fault j_place j_latest m_low m_high m_first m_second m_lines m_others j_shiftFirst j_shiftMany j_shiftLow j_shiftHigh kI g_now hg_now) (cwV 1 hts g_X10_table_X10_isEdition rfl rfl rfl (by decide +kernel) ⟨Nat.le_of_ble_eq_true rfl, Nat.le_of_ble_eq_true rfl⟩) ⟨fun a U g mk q => by obtain ⟨q0, qP, qK⟩ := q; exact ⟨q0, qP, va_K.moved (u := U) (U := U.calling g mk a) (Vm.Alike.refl U.vm) qK⟩, va_recv hKc hPc (ci := 10) (q0 := 0) rfl rfl, fun U hU hW => ⟨rfl, by rw [hU]; exact hPc, va_K.moved hW.alike hKc⟩⟩ rfl rfl hl.1 rfl (lv_room (Nat.le_of_ble_eq_true rfl)) dX10_table_2 ⟨Nat.le_of_ble_eq_true rfl, Nat.le_of_ble_eq_true rfl⟩) hS (fun _ _ h => h.elim) (fun _ h => h.elim) (fun r1 u t H1 locs ht hvm hw hB hz1 hk1 hS => ?_)
  have hP := pw_keep hP (fun q hq => hk1 q hq (fun h => h))
  generalize H1 = H at hP hS ⊢
  refine W.widen (k := 0) (n := 0) (Nat.le_of_ble_eq_true rfl) (Nat.le_of_ble_eq_true rfl) ?_
  have bor1 := hw.1
  have zor1 := pw_boolI bor1
  have hfr1 := hw.2
  refine lv_if_eq (tgt := 28) hx hb dX10_table_5 (by decide) (fun c2 => ?_) (fun c2 => ?_)
  · have nc2 : r1.toInt = 0 := pw_eq c2 rfl (by decide)
    refine lv_ldc hx hb hown (hts (.constant RX10 177 (-1000001)) (List.mem_of_getElem? (i := 14) rfl)) dX10_table_28 ?_
    have hP9 := hP.sub (ws' := [(h0, .inr (10, [.ref m_now, .ref m_draft, .ref m_past, .int j_acts, .ref m_images, .ref m_kept, .ref m_tape, .int j_taped, .int j_at, .int j_start, .int j_token, .int j_value, .int j_fault, .int j_place, .int j_latest, .ref m_low, .ref m_high, .ref m_first, .ref m_second, .ref m_lines, .ref m_others, .int j_shiftFirst, .int j_shiftMany, .int j_shiftLow, .int j_shiftHigh])), (m_now, .inl (kI, 192, .inl g_now)), (m_low, .inl (kI, 1000, .inl g_low)), (m_high, .inl (kI, 1000, .inl g_high)), (m_first, .inl (kZ, 1000, .inl g_first)), (m_second, .inl (kZ, 1000, .inl g_second))]) [0, 1, 2, 3, 4, 5] rfl
    have hD9 := hD.sub (ws' := [(h0, .inr (10, [.ref m_now, .ref m_draft, .ref m_past, .int j_acts, .ref m_images, .ref m_kept, .ref m_tape, .int j_taped, .int j_at, .int j_start, .int j_token, .int j_value, .int j_fault, .int j_place, .int j_latest, .ref m_low, .ref m_high, .ref m_first, .ref m_second, .ref m_lines, .ref m_others, .int j_shiftFirst, .int j_shiftMany, .int j_shiftLow, .int j_shiftHigh])), (m_now, .inl (kI, 192, .inl g_now)), (m_low, .inl (kI, 1000, .inl g_low)), (m_high, .inl (kI, 1000, .inl g_high)), (m_first, .inl (kZ, 1000, .inl g_first)), (m_second, .inl (kZ, 1000, .inl g_second))]) [0, 1, 2, 3, 4, 5] (by decide) rfl
    have hK9 := hK.sub (tys' := [(kI, .int), (kZ, .boolean)]) [0, 1] rfl
    refine W.widen (k := 0) (n := 0) (Nat.le_of_ble_eq_true rfl) (Nat.le_of_ble_eq_true rfl) ?_
    exact W.iret (v := (-1000001)) hx hb hr (fun t ht hW => ⟨⟨(-1000001), (), rfl, trivial, g_low, g_high, g_first, g_second, by rw [ht]; exact hP9, va_K.moved hW.alike hK9, hD9, hg_low, hg_high⟩, hS.F ht⟩) hS.2.2 dX10_table_30
  · have nc2 : r1.toInt ≠ 0 := pw_ne c2 rfl (by decide)
    refine lv_aload_n hx hb dX10_table_8 rfl (lv_at hl 0 rfl) ?_
    refine lv_iload_n hx hb dX10_table_9 rfl (lv_at hl 2 rfl) ?_
    have hPc := hP.sub (ws' := [(h0, .inr (10, [.ref m_now, .ref m_draft, .ref m_past, .int j_acts, .ref m_images, .ref m_kept, .ref m_tape, .int j_taped, .int j_at, .int j_start, .int j_token, .int j_value, .int j_fault, .int j_place, .int j_latest, .ref m_low, .ref m_high, .ref m_first, .ref m_second, .ref m_lines, .ref m_others, .int j_shiftFirst, .int j_shiftMany, .int j_shiftLow, .int j_shiftHigh])), (m_now, .inl (kI, 192, .inl g_now))]) [0, 1] rfl
    have hKc := hK.sub (tys' := [(kI, .int)]) [0] rfl
    refine va_calli (va_runV (As := [.int i_1]) (rest := []) ⟨hx, hb, hml, hown, hts⟩ (c_X10_isEdition l D h0 i_1 m_now m_draft m_past j_acts m_images m_kept m_tape j_taped j_at j_start j_token j_value j_fault j_place j_latest m_low m_high m_first m_second m_lines m_others j_shiftFirst j_shiftMany j_shiftLow j_shiftHigh kI g_now hg_now) (cwV 1 hts g_X10_table_X10_isEdition rfl rfl rfl (by decide +kernel) ⟨Nat.le_of_ble_eq_true rfl, Nat.le_of_ble_eq_true rfl⟩) ⟨fun a U g mk q => by obtain ⟨q0, qP, qK⟩ := q; exact ⟨q0, qP, va_K.moved (u := U) (U := U.calling g mk a) (Vm.Alike.refl U.vm) qK⟩, va_recv hKc hPc (ci := 10) (q0 := 0) rfl rfl, fun U hU hW => ⟨rfl, by rw [hU]; exact hPc, va_K.moved hW.alike hKc⟩⟩ rfl rfl hl.1 rfl (lv_room (Nat.le_of_ble_eq_true rfl)) dX10_table_10 ⟨Nat.le_of_ble_eq_true rfl, Nat.le_of_ble_eq_true rfl⟩) hS (fun _ _ h => h.elim) (fun _ h => h.elim) (fun r3 u t H1 locs ht hvm hw hB hz1 hk1 hS => ?_)
    have hP := pw_keep hP (fun q hq => hk1 q hq (fun h => h))
    generalize H1 = H at hP hS ⊢
    refine W.widen (k := 0) (n := 0) (Nat.le_of_ble_eq_true rfl) (Nat.le_of_ble_eq_true rfl) ?_
    have bor3 := hw.1
    have zor3 := pw_boolI bor3
    have hfr3 := hw.2
    refine lv_if_eq (tgt := 28) hx hb dX10_table_13 (by decide) (fun c4 => ?_) (fun c4 => ?_)
    · have nc4 : r3.toInt = 0 := pw_eq c4 rfl (by decide)
      refine lv_ldc hx hb hown (hts (.constant RX10 177 (-1000001)) (List.mem_of_getElem? (i := 14) rfl)) dX10_table_28 ?_
      have hP9 := hP.sub (ws' := [(h0, .inr (10, [.ref m_now, .ref m_draft, .ref m_past, .int j_acts, .ref m_images, .ref m_kept, .ref m_tape, .int j_taped, .int j_at, .int j_start, .int j_token, .int j_value, .int j_fault, .int j_place, .int j_latest, .ref m_low, .ref m_high, .ref m_first, .ref m_second, .ref m_lines, .ref m_others, .int j_shiftFirst, .int j_shiftMany, .int j_shiftLow, .int j_shiftHigh])), (m_now, .inl (kI, 192, .inl g_now)), (m_low, .inl (kI, 1000, .inl g_low)), (m_high, .inl (kI, 1000, .inl g_high)), (m_first, .inl (kZ, 1000, .inl g_first)), (m_second, .inl (kZ, 1000, .inl g_second))]) [0, 1, 2, 3, 4, 5] rfl
      have hD9 := hD.sub (ws' := [(h0, .inr (10, [.ref m_now, .ref m_draft, .ref m_past, .int j_acts, .ref m_images, .ref m_kept, .ref m_tape, .int j_taped, .int j_at, .int j_start, .int j_token, .int j_value, .int j_fault, .int j_place, .int j_latest, .ref m_low, .ref m_high, .ref m_first, .ref m_second, .ref m_lines, .ref m_others, .int j_shiftFirst, .int j_shiftMany, .int j_shiftLow, .int j_shiftHigh])), (m_now, .inl (kI, 192, .inl g_now)), (m_low, .inl (kI, 1000, .inl g_low)), (m_high, .inl (kI, 1000, .inl g_high)), (m_first, .inl (kZ, 1000, .inl g_first)), (m_second, .inl (kZ, 1000, .inl g_second))]) [0, 1, 2, 3, 4, 5] (by decide) rfl
      have hK9 := hK.sub (tys' := [(kI, .int), (kZ, .boolean)]) [0, 1] rfl
      refine W.widen (k := 0) (n := 0) (Nat.le_of_ble_eq_true rfl) (Nat.le_of_ble_eq_true rfl) ?_
      exact W.iret (v := (-1000001)) hx hb hr (fun t ht hW => ⟨⟨(-1000001), (), rfl, trivial, g_low, g_high, g_first, g_second, by rw [ht]; exact hP9, va_K.moved hW.alike hK9, hD9, hg_low, hg_high⟩, hS.F ht⟩) hS.2.2 dX10_table_30
    · have nc4 : r3.toInt ≠ 0 := pw_ne c4 rfl (by decide)
      refine lv_iload_n hx hb dX10_table_16 rfl (lv_at hl 3 rfl) ?_
      refine lv_i2l (v := i_2.toInt64) hx hb dX10_table_17 rfl ?_
      refine lv_lconst (v := 0) hx hb dX10_table_18 (by decide) ?_
      refine lv_ldc2 hx hb hown (hts (.constantLong RX10 211 (3)) (List.mem_of_getElem? (i := 15) rfl)) dX10_table_19 ?_
      have hPc := hP.sub (ws' := []) [] rfl
      have hKc := hK.sub (tys' := []) [] rfl
      refine va_calli (va_runS (As := [.long i_2.toInt64, .long 0, .long 3]) (rest := []) ⟨hx, hb, hml, hown, hts⟩ (c_X10_in0 l D i_2.toInt64 0 3) (cwS 3 hts g_X10_table_X10_in0 rfl rfl rfl (by decide +kernel) ⟨Nat.le_of_ble_eq_true rfl, Nat.le_of_ble_eq_true rfl⟩) ⟨fun a U g mk q => by obtain ⟨q0, qP, qK⟩ := q; exact ⟨q0, qP, va_K.moved (u := U) (U := U.calling g mk a) (Vm.Alike.refl U.vm) qK⟩, fun U hU hW => ⟨rfl, by rw [hU]; exact hPc, va_K.moved hW.alike hKc⟩⟩ rfl rfl hl.1 rfl (lv_room (Nat.le_of_ble_eq_true rfl)) dX10_table_22 ⟨Nat.le_of_ble_eq_true rfl, Nat.le_of_ble_eq_true rfl⟩) hS (fun _ _ h => h.elim) (fun _ h => h.elim) (fun r5 u t H1 locs ht hvm hw hB hz1 hk1 hS => ?_)
      have hP := pw_keep hP (fun q hq => hk1 q hq (fun h => h))
      generalize H1 = H at hP hS ⊢
      refine W.widen (k := 0) (n := 0) (Nat.le_of_ble_eq_true rfl) (Nat.le_of_ble_eq_true rfl) ?_
      have bor5 := hw.1
      have zor5 := pw_boolI bor5
      have hfr5 := hw.2
      have kl0 : (0 : Int64).toInt = 0 := by decide
      have kl3 : (3 : Int64).toInt = 3 := by decide
      try simp only [Int32.toInt_toInt64] at hfr5
      refine lv_if_ne (tgt := 31) hx hb dX10_table_25 (by decide) (fun c6 => ?_) (fun c6 => ?_)
      · have nc6 : r5.toInt ≠ 0 := pw_ne c6 rfl (by decide)
        refine lv_aload_n hx hb dX10_table_31 rfl (lv_at hl 0 rfl) ?_
        have hPc := hP.sub (ws' := [(h0, .inr (10, [.ref m_now, .ref m_draft, .ref m_past, .int j_acts, .ref m_images, .ref m_kept, .ref m_tape, .int j_taped, .int j_at, .int j_start, .int j_token, .int j_value, .int j_fault, .int j_place, .int j_latest, .ref m_low, .ref m_high, .ref m_first, .ref m_second, .ref m_lines, .ref m_others, .int j_shiftFirst, .int j_shiftMany, .int j_shiftLow, .int j_shiftHigh])), (m_now, .inl (kI, 192, .inl g_now)), (m_low, .inl (kI, 1000, .inl g_low)), (m_high, .inl (kI, 1000, .inl g_high))]) [0, 1, 2, 3] rfl
        have hKc := hK.sub (tys' := [(kI, .int)]) [0] rfl
        have hDc := hD.sub (ws' := [(h0, .inr (10, [.ref m_now, .ref m_draft, .ref m_past, .int j_acts, .ref m_images, .ref m_kept, .ref m_tape, .int j_taped, .int j_at, .int j_start, .int j_token, .int j_value, .int j_fault, .int j_place, .int j_latest, .ref m_low, .ref m_high, .ref m_first, .ref m_second, .ref m_lines, .ref m_others, .int j_shiftFirst, .int j_shiftMany, .int j_shiftLow, .int j_shiftHigh])), (m_now, .inl (kI, 192, .inl g_now)), (m_low, .inl (kI, 1000, .inl g_low)), (m_high, .inl (kI, 1000, .inl g_high))]) [0, 1, 2, 3] (by decide) rfl
        have hFc := va_free (wc := [(h0, .inr (10, [.ref m_now, .ref m_draft, .ref m_past, .int j_acts, .ref m_images, .ref m_kept, .ref m_tape, .int j_taped, .int j_at, .int j_start, .int j_token, .int j_value, .int j_fault, .int j_place, .int j_latest, .ref m_low, .ref m_high, .ref m_first, .ref m_second, .ref m_lines, .ref m_others, .int j_shiftFirst, .int j_shiftMany, .int j_shiftLow, .int j_shiftHigh])), (m_now, .inl (kI, 192, .inl g_now)), (m_low, .inl (kI, 1000, .inl g_low)), (m_high, .inl (kI, 1000, .inl g_high))]) hD hS hA [0, 1, 2, 3] rfl
        refine va_callv (va_runV (As := []) (rest := []) ⟨hx, hb, hml, hown, hts⟩ (c_X10_lays l D h0 m_now m_draft m_past j_acts m_images m_kept m_tape j_taped j_at j_start j_token j_value j_fault j_place j_latest m_low m_high m_first m_second m_lines m_others j_shiftFirst j_shiftMany j_shiftLow j_shiftHigh kI g_now g_low g_high H.size hg_now hg_low hg_high) (cwV 0 hts g_X10_table_X10_lays rfl rfl rfl (by decide +kernel) ⟨Nat.le_of_ble_eq_true rfl, Nat.le_of_ble_eq_true rfl⟩) ⟨fun a U g mk q => by obtain ⟨q0, q1, qP, qK, qD⟩ := q; exact ⟨q0, q1, qP, va_K.moved (u := U) (U := U.calling g mk a) (Vm.Alike.refl U.vm) qK, qD⟩, va_recv hKc hPc (ci := 10) (q0 := 0) rfl rfl, fun U hU hW => ⟨rfl, by rw [hU], by rw [hU]; exact hPc, va_K.moved hW.alike hKc, hDc.weaken (fun _ _ _ _ => trivial)⟩⟩ rfl rfl hl.1 rfl (lv_room (Nat.le_of_ble_eq_true rfl)) dX10_table_32 ⟨Nat.le_of_ble_eq_true rfl, Nat.le_of_ble_eq_true rfl⟩) hS (fun q _ h => hFc q h) hFc (fun u t H1 locs ht hvm hw hB hz1 hk1 hS => ?_)
        obtain ⟨y8, y9, hP1, hK1, hD1, hy8, hy9⟩ := hB
        rw [ht] at hP1
        have hK1 := va_K.moved hvm.symm hK1
        obtain ⟨hP, hD⟩ := va_join (wr := [(m_first, .inl (kZ, 1000, .inl g_first)), (m_second, .inl (kZ, 1000, .inl g_second))]) (w1 := [(h0, .inr (10, [.ref m_now, .ref m_draft, .ref m_past, .int j_acts, .ref m_images, .ref m_kept, .ref m_tape, .int j_taped, .int j_at, .int j_start, .int j_token, .int j_value, .int j_fault, .int j_place, .int j_latest, .ref m_low, .ref m_high, .ref m_first, .ref m_second, .ref m_lines, .ref m_others, .int j_shiftFirst, .int j_shiftMany, .int j_shiftLow, .int j_shiftHigh])), (m_now, .inl (kI, 192, .inl g_now)), (m_low, .inl (kI, 1000, .inl y8)), (m_high, .inl (kI, 1000, .inl y9))]) hP hD [0, 1, 2, 3] [4, 5] rfl rfl (by decide) (by decide) hk1 hFc hP1 hD1
        have hK := (hK.sub (tys' := [(kI, .int), (kZ, .boolean)]) [0, 1] rfl).app hK1
        generalize H1 = H at hP hS ⊢
        have hP : va_P D vwCl [(m_first, .inl (kZ, 1000, .inl g_first)), (m_second, .inl (kZ, 1000, .inl g_second)), (h0, .inr (10, [.ref m_now, .ref m_draft, .ref m_past, .int j_acts, .ref m_images, .ref m_kept, .ref m_tape, .int j_taped, .int j_at, .int j_start, .int j_token, .int j_value, .int j_fault, .int j_place, .int j_latest, .ref m_low, .ref m_high, .ref m_first, .ref m_second, .ref m_lines, .ref m_others, .int j_shiftFirst, .int j_shiftMany, .int j_shiftLow, .int j_shiftHigh])), (m_now, .inl (kI, 192, .inl g_now)), (m_low, .inl (kI, 1000, .inl y8)), (m_high, .inl (kI, 1000, .inl y9))] H := hP
        have hD : va_D A [(m_first, .inl (kZ, 1000, .inl g_first)), (m_second, .inl (kZ, 1000, .inl g_second)), (h0, .inr (10, [.ref m_now, .ref m_draft, .ref m_past, .int j_acts, .ref m_images, .ref m_kept, .ref m_tape, .int j_taped, .int j_at, .int j_start, .int j_token, .int j_value, .int j_fault, .int j_place, .int j_latest, .ref m_low, .ref m_high, .ref m_first, .ref m_second, .ref m_lines, .ref m_others, .int j_shiftFirst, .int j_shiftMany, .int j_shiftLow, .int j_shiftHigh])), (m_now, .inl (kI, 192, .inl g_now)), (m_low, .inl (kI, 1000, .inl y8)), (m_high, .inl (kI, 1000, .inl y9))] := hD
        have hK : va_K D vwCl [(kI, .int), (kZ, .boolean), (kI, .int)] s := hK
        refine W.widen (k := 0) (n := 0) (Nat.le_of_ble_eq_true rfl) (Nat.le_of_ble_eq_true rfl) ?_
        refine lv_iconst (v := 0) hx hb dX10_table_35 (by decide) ?_
        refine lv_istore (lv' := [(4, .int 0), (0, .ref h0), (1, .int i_0), (2, .int i_1), (3, .int i_2)]) hx hb dX10_table_36 hl (by decide) rfl (fun ls hl => ?_)
        refine lv_iconst (v := 1) hx hb dX10_table_38 (by decide) ?_
        refine lv_istore (lv' := [(5, .int 1), (4, .int 0), (0, .ref h0), (1, .int i_0), (2, .int i_1), (3, .int i_2)]) hx hb dX10_table_39 hl (by decide) rfl (fun ls hl => ?_)
        have hl9 : lv_has ls 7 [(0, .ref h0), (1, .int i_0), (2, .int i_1), (3, .int i_2), (4, .int 0), (5, .int 1)] := lv_sub hl [2, 3, 4, 5, 1, 0] rfl
        refine pw_loop (fun (zz : Int32 × Int32 × (Nat → Int32) × (Nat → Int32)) H locs ls => match zz with | (v208, v209, f210, f211) => va_P D vwCl [(m_first, .inl (kZ, 1000, .inl f210)), (m_second, .inl (kZ, 1000, .inl f211)), (h0, .inr (10, [.ref m_now, .ref m_draft, .ref m_past, .int j_acts, .ref m_images, .ref m_kept, .ref m_tape, .int j_taped, .int j_at, .int j_start, .int j_token, .int j_value, .int j_fault, .int j_place, .int j_latest, .ref m_low, .ref m_high, .ref m_first, .ref m_second, .ref m_lines, .ref m_others, .int j_shiftFirst, .int j_shiftMany, .int j_shiftLow, .int j_shiftHigh])), (m_now, .inl (kI, 192, .inl g_now)), (m_low, .inl (kI, 1000, .inl y8)), (m_high, .inl (kI, 1000, .inl y9))] H ∧ va_D A [(m_first, .inl (kZ, 1000, .inl f210)), (m_second, .inl (kZ, 1000, .inl f211)), (h0, .inr (10, [.ref m_now, .ref m_draft, .ref m_past, .int j_acts, .ref m_images, .ref m_kept, .ref m_tape, .int j_taped, .int j_at, .int j_start, .int j_token, .int j_value, .int j_fault, .int j_place, .int j_latest, .ref m_low, .ref m_high, .ref m_first, .ref m_second, .ref m_lines, .ref m_others, .int j_shiftFirst, .int j_shiftMany, .int j_shiftLow, .int j_shiftHigh])), (m_now, .inl (kI, 192, .inl g_now)), (m_low, .inl (kI, 1000, .inl y8)), (m_high, .inl (kI, 1000, .inl y9))] ∧ va_S A s.heap H locs ∧ lv_has ls 7 [(0, .ref h0), (1, .int i_0), (2, .int i_1), (3, .int i_2), (4, .int v208), (5, .int v209)] ∧ 1 ≤ v209.toInt) (fun (zz : Int32 × Int32 × (Nat → Int32) × (Nat → Int32))  => match zz with | (v208, v209, f210, f211) => (2147483648 - v209.toInt).toNat) 0 0 (fun (zz : Int32 × Int32 × (Nat → Int32) × (Nat → Int32)) ls => match zz with | (v208, v209, f210, f211) => F0 m 41 ls []) (fun zz H locs ls ih212 hI => ?_) (0, 1, g_first, g_second) _ _ _ ⟨hP, hD, hS, hl9, (by decide)⟩
        obtain ⟨v208, v209, f210, f211⟩ := zz
        obtain ⟨hP, hD, hS, hl, bv209⟩ := hI
        have bv209 : 1 ≤ v209.toInt := bv209
        have hP : va_P D vwCl [(m_first, .inl (kZ, 1000, .inl f210)), (m_second, .inl (kZ, 1000, .inl f211)), (h0, .inr (10, [.ref m_now, .ref m_draft, .ref m_past, .int j_acts, .ref m_images, .ref m_kept, .ref m_tape, .int j_taped, .int j_at, .int j_start, .int j_token, .int j_value, .int j_fault, .int j_place, .int j_latest, .ref m_low, .ref m_high, .ref m_first, .ref m_second, .ref m_lines, .ref m_others, .int j_shiftFirst, .int j_shiftMany, .int j_shiftLow, .int j_shiftHigh])), (m_now, .inl (kI, 192, .inl g_now)), (m_low, .inl (kI, 1000, .inl y8)), (m_high, .inl (kI, 1000, .inl y9))] H := hP
        have hD : va_D A [(m_first, .inl (kZ, 1000, .inl f210)), (m_second, .inl (kZ, 1000, .inl f211)), (h0, .inr (10, [.ref m_now, .ref m_draft, .ref m_past, .int j_acts, .ref m_images, .ref m_kept, .ref m_tape, .int j_taped, .int j_at, .int j_start, .int j_token, .int j_value, .int j_fault, .int j_place, .int j_latest, .ref m_low, .ref m_high, .ref m_first, .ref m_second, .ref m_lines, .ref m_others, .int j_shiftFirst, .int j_shiftMany, .int j_shiftLow, .int j_shiftHigh])), (m_now, .inl (kI, 192, .inl g_now)), (m_low, .inl (kI, 1000, .inl y8)), (m_high, .inl (kI, 1000, .inl y9))] := hD
        have hK : va_K D vwCl [(kI, .int), (kZ, .boolean), (kI, .int)] s := hK
        have hl : lv_has ls 7 [(0, .ref h0), (1, .int i_0), (2, .int i_1), (3, .int i_2), (4, .int v208), (5, .int v209)] := hl
        refine W.eq (g2 := F0 m 41 ls []) rfl ?_
        refine lv_iload hx hb dX10_table_41 (lv_at hl 5 rfl) ?_
        refine lv_sipush (v := 1000) hx hb dX10_table_43 (by decide) ?_
        refine lv_icmp_ge (tgt := 168) hx hb dX10_table_46 (by decide) (fun c278 => ?_) (fun c278 => ?_)
        · have nc278 : 1000 ≤ v209.toInt := pw_le c278 (by decide) rfl
          refine lv_iload hx hb dX10_table_168 (lv_at hl 4 rfl) ?_
          have hP9 := hP.sub (ws' := [(h0, .inr (10, [.ref m_now, .ref m_draft, .ref m_past, .int j_acts, .ref m_images, .ref m_kept, .ref m_tape, .int j_taped, .int j_at, .int j_start, .int j_token, .int j_value, .int j_fault, .int j_place, .int j_latest, .ref m_low, .ref m_high, .ref m_first, .ref m_second, .ref m_lines, .ref m_others, .int j_shiftFirst, .int j_shiftMany, .int j_shiftLow, .int j_shiftHigh])), (m_now, .inl (kI, 192, .inl g_now)), (m_low, .inl (kI, 1000, .inl y8)), (m_high, .inl (kI, 1000, .inl y9)), (m_first, .inl (kZ, 1000, .inl f210)), (m_second, .inl (kZ, 1000, .inl f211))]) [2, 3, 4, 5, 0, 1] rfl
          have hD9 := hD.sub (ws' := [(h0, .inr (10, [.ref m_now, .ref m_draft, .ref m_past, .int j_acts, .ref m_images, .ref m_kept, .ref m_tape, .int j_taped, .int j_at, .int j_start, .int j_token, .int j_value, .int j_fault, .int j_place, .int j_latest, .ref m_low, .ref m_high, .ref m_first, .ref m_second, .ref m_lines, .ref m_others, .int j_shiftFirst, .int j_shiftMany, .int j_shiftLow, .int j_shiftHigh])), (m_now, .inl (kI, 192, .inl g_now)), (m_low, .inl (kI, 1000, .inl y8)), (m_high, .inl (kI, 1000, .inl y9)), (m_first, .inl (kZ, 1000, .inl f210)), (m_second, .inl (kZ, 1000, .inl f211))]) [2, 3, 4, 5, 0, 1] (by decide) rfl
          have hK9 := hK.sub (tys' := [(kI, .int), (kZ, .boolean)]) [0, 1] rfl
          refine W.widen (k := 0) (n := 0) (Nat.le_of_ble_eq_true rfl) (Nat.le_of_ble_eq_true rfl) ?_
          exact W.iret (v := v208) hx hb hr (fun t ht hW => ⟨⟨v208, (), rfl, trivial, y8, y9, f210, f211, by rw [ht]; exact hP9, va_K.moved hW.alike hK9, hD9, hy8, hy9⟩, hS.F ht⟩) hS.2.2 dX10_table_170
        · have nc278 : v209.toInt < 1000 := pw_nle c278 (by decide) rfl
          refine lv_aload_n hx hb dX10_table_49 rfl (lv_at hl 0 rfl) ?_
          refine lv_iload_n hx hb dX10_table_50 rfl (lv_at hl 1 rfl) ?_
          refine lv_iload hx hb dX10_table_51 (lv_at hl 5 rfl) ?_
          refine lv_iconst (v := 0) hx hb dX10_table_53 (by decide) ?_
          have hPc := hP.sub (ws' := [(h0, .inr (10, [.ref m_now, .ref m_draft, .ref m_past, .int j_acts, .ref m_images, .ref m_kept, .ref m_tape, .int j_taped, .int j_at, .int j_start, .int j_token, .int j_value, .int j_fault, .int j_place, .int j_latest, .ref m_low, .ref m_high, .ref m_first, .ref m_second, .ref m_lines, .ref m_others, .int j_shiftFirst, .int j_shiftMany, .int j_shiftLow, .int j_shiftHigh])), (m_now, .inl (kI, 192, .inl g_now)), (m_low, .inl (kI, 1000, .inl y8)), (m_high, .inl (kI, 1000, .inl y9))]) [2, 3, 4, 5] rfl
          have hKc := hK.sub (tys' := [(kI, .int)]) [0] rfl
          refine va_calli (va_runV (As := [.int i_0, .int v209, .int 0]) (rest := []) ⟨hx, hb, hml, hown, hts⟩ (c_X10_meantBy l D h0 i_0 v209 0 m_now m_draft m_past j_acts m_images m_kept m_tape j_taped j_at j_start j_token j_value j_fault j_place j_latest m_low m_high m_first m_second m_lines m_others j_shiftFirst j_shiftMany j_shiftLow j_shiftHigh kI g_now y8 y9 (by first | decide | omega) (by first | decide | omega) hg_now hy8 hy9) (cwV 3 hts g_X10_table_X10_meantBy rfl rfl rfl (by decide +kernel) ⟨Nat.le_of_ble_eq_true rfl, Nat.le_of_ble_eq_true rfl⟩) ⟨fun a U g mk q => by obtain ⟨q0, qP, qK⟩ := q; exact ⟨q0, qP, va_K.moved (u := U) (U := U.calling g mk a) (Vm.Alike.refl U.vm) qK⟩, va_recv hKc hPc (ci := 10) (q0 := 0) rfl rfl, fun U hU hW => ⟨rfl, by rw [hU]; exact hPc, va_K.moved hW.alike hKc⟩⟩ rfl rfl hl.1 rfl (lv_room (Nat.le_of_ble_eq_true rfl)) dX10_table_54 ⟨Nat.le_of_ble_eq_true rfl, Nat.le_of_ble_eq_true rfl⟩) hS (fun _ _ h => h.elim) (fun _ h => h.elim) (fun r279 u t H1 locs ht hvm hw hB hz1 hk1 hS => ?_)
          have hP := pw_keep hP (fun q hq => hk1 q hq (fun h => h))
          generalize H1 = H at hP hS ⊢
          refine W.widen (k := 0) (n := 0) (Nat.le_of_ble_eq_true rfl) (Nat.le_of_ble_eq_true rfl) ?_
          refine pw_join (fun (zz : Int32 × (Nat → Int32) × (Nat → Int32)) H locs ls => match zz with | (v309, f310, f311) => va_P D vwCl [(m_first, .inl (kZ, 1000, .inl f310)), (m_second, .inl (kZ, 1000, .inl f311)), (h0, .inr (10, [.ref m_now, .ref m_draft, .ref m_past, .int j_acts, .ref m_images, .ref m_kept, .ref m_tape, .int j_taped, .int j_at, .int j_start, .int j_token, .int j_value, .int j_fault, .int j_place, .int j_latest, .ref m_low, .ref m_high, .ref m_first, .ref m_second, .ref m_lines, .ref m_others, .int j_shiftFirst, .int j_shiftMany, .int j_shiftLow, .int j_shiftHigh])), (m_now, .inl (kI, 192, .inl g_now)), (m_low, .inl (kI, 1000, .inl y8)), (m_high, .inl (kI, 1000, .inl y9))] H ∧ va_D A [(m_first, .inl (kZ, 1000, .inl f310)), (m_second, .inl (kZ, 1000, .inl f311)), (h0, .inr (10, [.ref m_now, .ref m_draft, .ref m_past, .int j_acts, .ref m_images, .ref m_kept, .ref m_tape, .int j_taped, .int j_at, .int j_start, .int j_token, .int j_value, .int j_fault, .int j_place, .int j_latest, .ref m_low, .ref m_high, .ref m_first, .ref m_second, .ref m_lines, .ref m_others, .int j_shiftFirst, .int j_shiftMany, .int j_shiftLow, .int j_shiftHigh])), (m_now, .inl (kI, 192, .inl g_now)), (m_low, .inl (kI, 1000, .inl y8)), (m_high, .inl (kI, 1000, .inl y9))] ∧ va_S A s.heap H locs ∧ lv_has ls 7 [(0, .ref h0), (1, .int i_0), (2, .int i_1), (3, .int i_2), (4, .int v309), (5, .int v209)]) 0 0 (fun (zz : Int32 × (Nat → Int32) × (Nat → Int32)) ls => match zz with | (v309, f310, f311) => F0 m 162 ls []) (fun zz H locs ls hI => ?_) (fun hJ312 => ?_)
          ·
            obtain ⟨v309, f310, f311⟩ := zz
            obtain ⟨hP, hD, hS, hl⟩ := hI
            have hP : va_P D vwCl [(m_first, .inl (kZ, 1000, .inl f310)), (m_second, .inl (kZ, 1000, .inl f311)), (h0, .inr (10, [.ref m_now, .ref m_draft, .ref m_past, .int j_acts, .ref m_images, .ref m_kept, .ref m_tape, .int j_taped, .int j_at, .int j_start, .int j_token, .int j_value, .int j_fault, .int j_place, .int j_latest, .ref m_low, .ref m_high, .ref m_first, .ref m_second, .ref m_lines, .ref m_others, .int j_shiftFirst, .int j_shiftMany, .int j_shiftLow, .int j_shiftHigh])), (m_now, .inl (kI, 192, .inl g_now)), (m_low, .inl (kI, 1000, .inl y8)), (m_high, .inl (kI, 1000, .inl y9))] H := hP
            have hD : va_D A [(m_first, .inl (kZ, 1000, .inl f310)), (m_second, .inl (kZ, 1000, .inl f311)), (h0, .inr (10, [.ref m_now, .ref m_draft, .ref m_past, .int j_acts, .ref m_images, .ref m_kept, .ref m_tape, .int j_taped, .int j_at, .int j_start, .int j_token, .int j_value, .int j_fault, .int j_place, .int j_latest, .ref m_low, .ref m_high, .ref m_first, .ref m_second, .ref m_lines, .ref m_others, .int j_shiftFirst, .int j_shiftMany, .int j_shiftLow, .int j_shiftHigh])), (m_now, .inl (kI, 192, .inl g_now)), (m_low, .inl (kI, 1000, .inl y8)), (m_high, .inl (kI, 1000, .inl y9))] := hD
            have hK : va_K D vwCl [(kI, .int), (kZ, .boolean), (kI, .int)] s := hK
            have hl : lv_has ls 7 [(0, .ref h0), (1, .int i_0), (2, .int i_1), (3, .int i_2), (4, .int v309), (5, .int v209)] := hl
            refine W.eq (g2 := F0 m 162 ls []) rfl ?_
            obtain ⟨x313, ex313⟩ : ∃ y : Int32, y = v209 + 1 := ⟨_, rfl⟩
            have tx313 : x313.toInt = v209.toInt + 1 := pw_addX ex313 rfl (by decide) (by omega) (by omega)
            refine lv_iinc (v := x313) (lv' := [(5, .int x313), (0, .ref h0), (1, .int i_0), (2, .int i_1), (3, .int i_2), (4, .int v309)]) hx hb dX10_table_162 hl (k := 5) rfl (by rw [ex313]; rfl) (by decide) rfl (fun ls hl => ?_)
            refine lv_goto (tgt := 41) hx hb dX10_table_165 (by decide) ?_
            have hP9 : va_P D vwCl [(m_first, .inl (kZ, 1000, .inl f310)), (m_second, .inl (kZ, 1000, .inl f311)), (h0, .inr (10, [.ref m_now, .ref m_draft, .ref m_past, .int j_acts, .ref m_images, .ref m_kept, .ref m_tape, .int j_taped, .int j_at, .int j_start, .int j_token, .int j_value, .int j_fault, .int j_place, .int j_latest, .ref m_low, .ref m_high, .ref m_first, .ref m_second, .ref m_lines, .ref m_others, .int j_shiftFirst, .int j_shiftMany, .int j_shiftLow, .int j_shiftHigh])), (m_now, .inl (kI, 192, .inl g_now)), (m_low, .inl (kI, 1000, .inl y8)), (m_high, .inl (kI, 1000, .inl y9))] H := hP.sub [0, 1, 2, 3, 4, 5] rfl
            have hD9 : va_D A [(m_first, .inl (kZ, 1000, .inl f310)), (m_second, .inl (kZ, 1000, .inl f311)), (h0, .inr (10, [.ref m_now, .ref m_draft, .ref m_past, .int j_acts, .ref m_images, .ref m_kept, .ref m_tape, .int j_taped, .int j_at, .int j_start, .int j_token, .int j_value, .int j_fault, .int j_place, .int j_latest, .ref m_low, .ref m_high, .ref m_first, .ref m_second, .ref m_lines, .ref m_others, .int j_shiftFirst, .int j_shiftMany, .int j_shiftLow, .int j_shiftHigh])), (m_now, .inl (kI, 192, .inl g_now)), (m_low, .inl (kI, 1000, .inl y8)), (m_high, .inl (kI, 1000, .inl y9))] := hD.sub [0, 1, 2, 3, 4, 5] (by decide) rfl
            have hl9 : lv_has ls 7 [(0, .ref h0), (1, .int i_0), (2, .int i_1), (3, .int i_2), (4, .int v309), (5, .int x313)] := lv_sub hl [1, 2, 3, 4, 5, 0] rfl
            refine W.widen (k := 0) (n := 0) (Nat.le_of_ble_eq_true rfl) (Nat.le_of_ble_eq_true rfl) ?_
            exact ih212 (v309, x313, f310, f311) _ _ _ (pw_up ex313 (by omega)) ⟨hP9, hD9, hS, hl9, (pw_upge ex313 (by omega) (by omega))⟩
          ·
            refine lv_if_le (tgt := 162) hx hb dX10_table_57 (by decide) (fun c314 => ?_) (fun c314 => ?_)
            · have nc314 : r279.toInt ≤ 0 := pw_le c314 rfl (by decide)
              have hP9 : va_P D vwCl [(m_first, .inl (kZ, 1000, .inl f210)), (m_second, .inl (kZ, 1000, .inl f211)), (h0, .inr (10, [.ref m_now, .ref m_draft, .ref m_past, .int j_acts, .ref m_images, .ref m_kept, .ref m_tape, .int j_taped, .int j_at, .int j_start, .int j_token, .int j_value, .int j_fault, .int j_place, .int j_latest, .ref m_low, .ref m_high, .ref m_first, .ref m_second, .ref m_lines, .ref m_others, .int j_shiftFirst, .int j_shiftMany, .int j_shiftLow, .int j_shiftHigh])), (m_now, .inl (kI, 192, .inl g_now)), (m_low, .inl (kI, 1000, .inl y8)), (m_high, .inl (kI, 1000, .inl y9))] H := hP.sub [0, 1, 2, 3, 4, 5] rfl
              have hD9 : va_D A [(m_first, .inl (kZ, 1000, .inl f210)), (m_second, .inl (kZ, 1000, .inl f211)), (h0, .inr (10, [.ref m_now, .ref m_draft, .ref m_past, .int j_acts, .ref m_images, .ref m_kept, .ref m_tape, .int j_taped, .int j_at, .int j_start, .int j_token, .int j_value, .int j_fault, .int j_place, .int j_latest, .ref m_low, .ref m_high, .ref m_first, .ref m_second, .ref m_lines, .ref m_others, .int j_shiftFirst, .int j_shiftMany, .int j_shiftLow, .int j_shiftHigh])), (m_now, .inl (kI, 192, .inl g_now)), (m_low, .inl (kI, 1000, .inl y8)), (m_high, .inl (kI, 1000, .inl y9))] := hD.sub [0, 1, 2, 3, 4, 5] (by decide) rfl
              have hl9 : lv_has ls 7 [(0, .ref h0), (1, .int i_0), (2, .int i_1), (3, .int i_2), (4, .int v208), (5, .int v209)] := lv_sub hl [0, 1, 2, 3, 4, 5] rfl
              refine W.widen (k := 0) (n := 0) (Nat.le_of_ble_eq_true rfl) (Nat.le_of_ble_eq_true rfl) ?_
              exact hJ312 (v208, f210, f211) _ _ _ ⟨hP9, hD9, hS, hl9⟩
            · have nc314 : 0 < r279.toInt := pw_nle c314 rfl (by decide)
              refine lv_aload_n hx hb dX10_table_60 rfl (lv_at hl 0 rfl) ?_
              refine va_get (D := D) (ci := 10) (v := .ref m_first) (C := RX10) (T := TX10) (N := 25) hx hb hts (fun _ h => List.mem_cons_of_mem _ (List.mem_append_right _ h)) hown hK hP 2 rfl rfl 17 (by decide) (hts (.fieldLink RX10 35 "LineCitesModel" "first" "[Z") (List.mem_of_getElem? (i := 37) rfl)) (fun _ h9 => h9) rfl dX10_table_61 ?_
              have hPc := hP.sub (ws' := [(m_first, .inl (kZ, 1000, .inl f210))]) [0] rfl
              have hKc := hK.sub (tys' := [(kZ, .boolean)]) [1] rfl
              have hDc := hD.sub (ws' := [(m_first, .inl (kZ, 1000, .inl f210))]) [0] (by decide) rfl
              have hFc := va_free (wc := [(m_first, .inl (kZ, 1000, .inl f210))]) hD hS hA [0] rfl
              refine va_callv (va_runS (As := [.ref m_first]) (rest := []) ⟨hx, hb, hml, hown, hts⟩ (c_X10_clears l D m_first kZ f210 H.size) (cwS 1 hts g_X10_table_X10_clears rfl rfl rfl (by decide +kernel) ⟨Nat.le_of_ble_eq_true rfl, Nat.le_of_ble_eq_true rfl⟩) ⟨fun a U g mk q => by obtain ⟨q0, q1, qP, qK, qD⟩ := q; exact ⟨q0, q1, qP, va_K.moved (u := U) (U := U.calling g mk a) (Vm.Alike.refl U.vm) qK, qD⟩, fun U hU hW => ⟨rfl, by rw [hU], by rw [hU]; exact hPc, va_K.moved hW.alike hKc, hDc.weaken (fun _ _ _ _ => trivial)⟩⟩ rfl rfl hl.1 rfl (lv_room (Nat.le_of_ble_eq_true rfl)) dX10_table_64 ⟨Nat.le_of_ble_eq_true rfl, Nat.le_of_ble_eq_true rfl⟩) hS (fun q _ h => hFc q h) hFc (fun u t H1 locs ht hvm hw hB hz1 hk1 hS => ?_)
              obtain ⟨y316, hP1, hK1, hD1⟩ := hB
              rw [ht] at hP1
              have hK1 := va_K.moved hvm.symm hK1
              obtain ⟨hP, hD⟩ := va_join (wr := [(m_second, .inl (kZ, 1000, .inl f211)), (h0, .inr (10, [.ref m_now, .ref m_draft, .ref m_past, .int j_acts, .ref m_images, .ref m_kept, .ref m_tape, .int j_taped, .int j_at, .int j_start, .int j_token, .int j_value, .int j_fault, .int j_place, .int j_latest, .ref m_low, .ref m_high, .ref m_first, .ref m_second, .ref m_lines, .ref m_others, .int j_shiftFirst, .int j_shiftMany, .int j_shiftLow, .int j_shiftHigh])), (m_now, .inl (kI, 192, .inl g_now)), (m_low, .inl (kI, 1000, .inl y8)), (m_high, .inl (kI, 1000, .inl y9))]) (w1 := [(m_first, .inl (kZ, 1000, .inl y316))]) hP hD [0] [1, 2, 3, 4, 5] rfl rfl (by decide) (by decide) hk1 hFc hP1 hD1
              have hK := (hK.sub (tys' := [(kI, .int), (kZ, .boolean), (kI, .int)]) [0, 1, 2] rfl).app hK1
              generalize H1 = H at hP hS ⊢
              have hP : va_P D vwCl [(m_second, .inl (kZ, 1000, .inl f211)), (h0, .inr (10, [.ref m_now, .ref m_draft, .ref m_past, .int j_acts, .ref m_images, .ref m_kept, .ref m_tape, .int j_taped, .int j_at, .int j_start, .int j_token, .int j_value, .int j_fault, .int j_place, .int j_latest, .ref m_low, .ref m_high, .ref m_first, .ref m_second, .ref m_lines, .ref m_others, .int j_shiftFirst, .int j_shiftMany, .int j_shiftLow, .int j_shiftHigh])), (m_now, .inl (kI, 192, .inl g_now)), (m_low, .inl (kI, 1000, .inl y8)), (m_high, .inl (kI, 1000, .inl y9)), (m_first, .inl (kZ, 1000, .inl y316))] H := hP
              have hD : va_D A [(m_second, .inl (kZ, 1000, .inl f211)), (h0, .inr (10, [.ref m_now, .ref m_draft, .ref m_past, .int j_acts, .ref m_images, .ref m_kept, .ref m_tape, .int j_taped, .int j_at, .int j_start, .int j_token, .int j_value, .int j_fault, .int j_place, .int j_latest, .ref m_low, .ref m_high, .ref m_first, .ref m_second, .ref m_lines, .ref m_others, .int j_shiftFirst, .int j_shiftMany, .int j_shiftLow, .int j_shiftHigh])), (m_now, .inl (kI, 192, .inl g_now)), (m_low, .inl (kI, 1000, .inl y8)), (m_high, .inl (kI, 1000, .inl y9)), (m_first, .inl (kZ, 1000, .inl y316))] := hD
              have hK : va_K D vwCl [(kI, .int), (kZ, .boolean), (kI, .int), (kZ, .boolean)] s := hK
              refine W.widen (k := 0) (n := 0) (Nat.le_of_ble_eq_true rfl) (Nat.le_of_ble_eq_true rfl) ?_
              refine lv_aload_n hx hb dX10_table_67 rfl (lv_at hl 0 rfl) ?_
              refine lv_iload_n hx hb dX10_table_68 rfl (lv_at hl 1 rfl) ?_
              refine lv_iload hx hb dX10_table_69 (lv_at hl 5 rfl) ?_
              refine lv_iload_n hx hb dX10_table_71 rfl (lv_at hl 2 rfl) ?_
              refine lv_aload_n hx hb dX10_table_72 rfl (lv_at hl 0 rfl) ?_
              refine va_get (D := D) (ci := 10) (v := .ref m_first) (C := RX10) (T := TX10) (N := 25) hx hb hts (fun _ h => List.mem_cons_of_mem _ (List.mem_append_right _ h)) hown hK hP 1 rfl rfl 17 (by decide) (hts (.fieldLink RX10 35 "LineCitesModel" "first" "[Z") (List.mem_of_getElem? (i := 37) rfl)) (fun _ h9 => h9) rfl dX10_table_73 ?_
              have hPc := hP.sub (ws' := [(h0, .inr (10, [.ref m_now, .ref m_draft, .ref m_past, .int j_acts, .ref m_images, .ref m_kept, .ref m_tape, .int j_taped, .int j_at, .int j_start, .int j_token, .int j_value, .int j_fault, .int j_place, .int j_latest, .ref m_low, .ref m_high, .ref m_first, .ref m_second, .ref m_lines, .ref m_others, .int j_shiftFirst, .int j_shiftMany, .int j_shiftLow, .int j_shiftHigh])), (m_now, .inl (kI, 192, .inl g_now)), (m_low, .inl (kI, 1000, .inl y8)), (m_high, .inl (kI, 1000, .inl y9)), (m_first, .inl (kZ, 1000, .inl y316))]) [1, 2, 3, 4, 5] rfl
              have hKc := hK.sub (tys' := [(kI, .int), (kZ, .boolean)]) [0, 1] rfl
              have hDc := hD.sub (ws' := [(h0, .inr (10, [.ref m_now, .ref m_draft, .ref m_past, .int j_acts, .ref m_images, .ref m_kept, .ref m_tape, .int j_taped, .int j_at, .int j_start, .int j_token, .int j_value, .int j_fault, .int j_place, .int j_latest, .ref m_low, .ref m_high, .ref m_first, .ref m_second, .ref m_lines, .ref m_others, .int j_shiftFirst, .int j_shiftMany, .int j_shiftLow, .int j_shiftHigh])), (m_now, .inl (kI, 192, .inl g_now)), (m_low, .inl (kI, 1000, .inl y8)), (m_high, .inl (kI, 1000, .inl y9)), (m_first, .inl (kZ, 1000, .inl y316))]) [1, 2, 3, 4, 5] (by decide) rfl
              have hFc := va_free (wc := [(h0, .inr (10, [.ref m_now, .ref m_draft, .ref m_past, .int j_acts, .ref m_images, .ref m_kept, .ref m_tape, .int j_taped, .int j_at, .int j_start, .int j_token, .int j_value, .int j_fault, .int j_place, .int j_latest, .ref m_low, .ref m_high, .ref m_first, .ref m_second, .ref m_lines, .ref m_others, .int j_shiftFirst, .int j_shiftMany, .int j_shiftLow, .int j_shiftHigh])), (m_now, .inl (kI, 192, .inl g_now)), (m_low, .inl (kI, 1000, .inl y8)), (m_high, .inl (kI, 1000, .inl y9)), (m_first, .inl (kZ, 1000, .inl y316))]) hD hS hA [1, 2, 3, 4, 5] rfl
              refine va_callv (va_runV (As := [.int i_0, .int v209, .int i_1, .ref m_first]) (rest := []) ⟨hx, hb, hml, hown, hts⟩ (c_X10_comes l D h0 i_0 v209 i_1 m_first m_now m_draft m_past j_acts m_images m_kept m_tape j_taped j_at j_start j_token j_value j_fault j_place j_latest m_low m_high m_first m_second m_lines m_others j_shiftFirst j_shiftMany j_shiftLow j_shiftHigh kI g_now y8 y9 kZ y316 H.size (by first | decide | omega) (by first | decide | omega) (by first | decide | omega) (by first | decide | omega) hg_now hy8 hy9) (cwV 4 hts g_X10_table_X10_comes rfl rfl rfl (by decide +kernel) ⟨Nat.le_of_ble_eq_true rfl, Nat.le_of_ble_eq_true rfl⟩) ⟨fun a U g mk q => by obtain ⟨q0, q1, qP, qK, qD⟩ := q; exact ⟨q0, q1, qP, va_K.moved (u := U) (U := U.calling g mk a) (Vm.Alike.refl U.vm) qK, qD⟩, va_recv hKc hPc (ci := 10) (q0 := 0) rfl rfl, fun U hU hW => ⟨rfl, by rw [hU], by rw [hU]; exact hPc, va_K.moved hW.alike hKc, hDc.weaken (fun _ _ _ _ => trivial)⟩⟩ rfl rfl hl.1 rfl (lv_room (Nat.le_of_ble_eq_true rfl)) dX10_table_76 ⟨Nat.le_of_ble_eq_true rfl, Nat.le_of_ble_eq_true rfl⟩) hS (fun q _ h => hFc q h) hFc (fun u t H1 locs ht hvm hw hB hz1 hk1 hS => ?_)
              obtain ⟨y318, hP1, hK1, hD1⟩ := hB
              rw [ht] at hP1
              have hK1 := va_K.moved hvm.symm hK1
              obtain ⟨hP, hD⟩ := va_join (wr := [(m_second, .inl (kZ, 1000, .inl f211))]) (w1 := [(h0, .inr (10, [.ref m_now, .ref m_draft, .ref m_past, .int j_acts, .ref m_images, .ref m_kept, .ref m_tape, .int j_taped, .int j_at, .int j_start, .int j_token, .int j_value, .int j_fault, .int j_place, .int j_latest, .ref m_low, .ref m_high, .ref m_first, .ref m_second, .ref m_lines, .ref m_others, .int j_shiftFirst, .int j_shiftMany, .int j_shiftLow, .int j_shiftHigh])), (m_now, .inl (kI, 192, .inl g_now)), (m_low, .inl (kI, 1000, .inl y8)), (m_high, .inl (kI, 1000, .inl y9)), (m_first, .inl (kZ, 1000, .inl y318))]) hP hD [1, 2, 3, 4, 5] [0] rfl rfl (by decide) (by decide) hk1 hFc hP1 hD1
              have hK := (hK.sub (tys' := [(kI, .int), (kZ, .boolean), (kI, .int), (kZ, .boolean)]) [0, 1, 2, 3] rfl).app hK1
              generalize H1 = H at hP hS ⊢
              have hP : va_P D vwCl [(m_second, .inl (kZ, 1000, .inl f211)), (h0, .inr (10, [.ref m_now, .ref m_draft, .ref m_past, .int j_acts, .ref m_images, .ref m_kept, .ref m_tape, .int j_taped, .int j_at, .int j_start, .int j_token, .int j_value, .int j_fault, .int j_place, .int j_latest, .ref m_low, .ref m_high, .ref m_first, .ref m_second, .ref m_lines, .ref m_others, .int j_shiftFirst, .int j_shiftMany, .int j_shiftLow, .int j_shiftHigh])), (m_now, .inl (kI, 192, .inl g_now)), (m_low, .inl (kI, 1000, .inl y8)), (m_high, .inl (kI, 1000, .inl y9)), (m_first, .inl (kZ, 1000, .inl y318))] H := hP
              have hD : va_D A [(m_second, .inl (kZ, 1000, .inl f211)), (h0, .inr (10, [.ref m_now, .ref m_draft, .ref m_past, .int j_acts, .ref m_images, .ref m_kept, .ref m_tape, .int j_taped, .int j_at, .int j_start, .int j_token, .int j_value, .int j_fault, .int j_place, .int j_latest, .ref m_low, .ref m_high, .ref m_first, .ref m_second, .ref m_lines, .ref m_others, .int j_shiftFirst, .int j_shiftMany, .int j_shiftLow, .int j_shiftHigh])), (m_now, .inl (kI, 192, .inl g_now)), (m_low, .inl (kI, 1000, .inl y8)), (m_high, .inl (kI, 1000, .inl y9)), (m_first, .inl (kZ, 1000, .inl y318))] := hD
              have hK : va_K D vwCl [(kI, .int), (kZ, .boolean), (kI, .int), (kZ, .boolean), (kI, .int), (kZ, .boolean)] s := hK
              refine W.widen (k := 0) (n := 0) (Nat.le_of_ble_eq_true rfl) (Nat.le_of_ble_eq_true rfl) ?_
              refine lv_aload_n hx hb dX10_table_79 rfl (lv_at hl 0 rfl) ?_
              refine va_get (D := D) (ci := 10) (v := .ref m_first) (C := RX10) (T := TX10) (N := 25) hx hb hts (fun _ h => List.mem_cons_of_mem _ (List.mem_append_right _ h)) hown hK hP 1 rfl rfl 17 (by decide) (hts (.fieldLink RX10 35 "LineCitesModel" "first" "[Z") (List.mem_of_getElem? (i := 37) rfl)) (fun _ h9 => h9) rfl dX10_table_80 ?_
              have hPc := hP.sub (ws' := [(m_first, .inl (kZ, 1000, .inl y318))]) [5] rfl
              have hKc := hK.sub (tys' := [(kZ, .boolean)]) [1] rfl
              refine va_calli (va_runS (As := [.ref m_first]) (rest := []) ⟨hx, hb, hml, hown, hts⟩ (c_X10_manyIn l D m_first kZ y318) (cwS 1 hts g_X10_table_X10_manyIn rfl rfl rfl (by decide +kernel) ⟨Nat.le_of_ble_eq_true rfl, Nat.le_of_ble_eq_true rfl⟩) ⟨fun a U g mk q => by obtain ⟨q0, qP, qK⟩ := q; exact ⟨q0, qP, va_K.moved (u := U) (U := U.calling g mk a) (Vm.Alike.refl U.vm) qK⟩, fun U hU hW => ⟨rfl, by rw [hU]; exact hPc, va_K.moved hW.alike hKc⟩⟩ rfl rfl hl.1 rfl (lv_room (Nat.le_of_ble_eq_true rfl)) dX10_table_83 ⟨Nat.le_of_ble_eq_true rfl, Nat.le_of_ble_eq_true rfl⟩) hS (fun _ _ h => h.elim) (fun _ h => h.elim) (fun r319 u t H1 locs ht hvm hw hB hz1 hk1 hS => ?_)
              have hP := pw_keep hP (fun q hq => hk1 q hq (fun h => h))
              generalize H1 = H at hP hS ⊢
              refine W.widen (k := 0) (n := 0) (Nat.le_of_ble_eq_true rfl) (Nat.le_of_ble_eq_true rfl) ?_
              refine lv_istore (lv' := [(6, .int r319), (0, .ref h0), (1, .int i_0), (2, .int i_1), (3, .int i_2), (4, .int v208), (5, .int v209)]) hx hb dX10_table_86 hl (by decide) rfl (fun ls hl => ?_)
              refine lv_iload_n hx hb dX10_table_88 rfl (lv_at hl 4 rfl) ?_
              refine lv_iconst (v := 3) hx hb dX10_table_89 (by decide) ?_
              refine lv_icmp_ne (tgt := 136) hx hb dX10_table_90 (by decide) (fun c320 => ?_) (fun c320 => ?_)
              · have nc320 : i_2.toInt ≠ 3 := pw_ne c320 rfl (by decide)
                refine lv_iload hx hb dX10_table_136 (lv_at hl 5 rfl) ?_
                refine lv_iload_n hx hb dX10_table_138 rfl (lv_at hl 4 rfl) ?_
                refine lv_iload hx hb dX10_table_139 (lv_at hl 0 rfl) ?_
                refine lv_iconst (v := 2) hx hb dX10_table_141 (by decide) ?_
                refine pw_join (fun (v322 : Int32) H locs ls => va_P D vwCl [(m_second, .inl (kZ, 1000, .inl f211)), (h0, .inr (10, [.ref m_now, .ref m_draft, .ref m_past, .int j_acts, .ref m_images, .ref m_kept, .ref m_tape, .int j_taped, .int j_at, .int j_start, .int j_token, .int j_value, .int j_fault, .int j_place, .int j_latest, .ref m_low, .ref m_high, .ref m_first, .ref m_second, .ref m_lines, .ref m_others, .int j_shiftFirst, .int j_shiftMany, .int j_shiftLow, .int j_shiftHigh])), (m_now, .inl (kI, 192, .inl g_now)), (m_low, .inl (kI, 1000, .inl y8)), (m_high, .inl (kI, 1000, .inl y9)), (m_first, .inl (kZ, 1000, .inl y318))] H ∧ va_D A [(m_second, .inl (kZ, 1000, .inl f211)), (h0, .inr (10, [.ref m_now, .ref m_draft, .ref m_past, .int j_acts, .ref m_images, .ref m_kept, .ref m_tape, .int j_taped, .int j_at, .int j_start, .int j_token, .int j_value, .int j_fault, .int j_place, .int j_latest, .ref m_low, .ref m_high, .ref m_first, .ref m_second, .ref m_lines, .ref m_others, .int j_shiftFirst, .int j_shiftMany, .int j_shiftLow, .int j_shiftHigh])), (m_now, .inl (kI, 192, .inl g_now)), (m_low, .inl (kI, 1000, .inl y8)), (m_high, .inl (kI, 1000, .inl y9)), (m_first, .inl (kZ, 1000, .inl y318))] ∧ va_S A s.heap H locs ∧ lv_has ls 7 [(0, .ref h0), (1, .int i_0), (2, .int i_1), (3, .int i_2), (4, .int v208), (5, .int v209), (6, .int r319)]) 0 0 (fun (v322 : Int32) ls => F0 m 151 ls [.int v322, .int i_2, .int v208]) (fun v322 H locs ls hI => ?_) (fun hJ323 => ?_)
                ·
                  obtain ⟨hP, hD, hS, hl⟩ := hI
                  have hP : va_P D vwCl [(m_second, .inl (kZ, 1000, .inl f211)), (h0, .inr (10, [.ref m_now, .ref m_draft, .ref m_past, .int j_acts, .ref m_images, .ref m_kept, .ref m_tape, .int j_taped, .int j_at, .int j_start, .int j_token, .int j_value, .int j_fault, .int j_place, .int j_latest, .ref m_low, .ref m_high, .ref m_first, .ref m_second, .ref m_lines, .ref m_others, .int j_shiftFirst, .int j_shiftMany, .int j_shiftLow, .int j_shiftHigh])), (m_now, .inl (kI, 192, .inl g_now)), (m_low, .inl (kI, 1000, .inl y8)), (m_high, .inl (kI, 1000, .inl y9)), (m_first, .inl (kZ, 1000, .inl y318))] H := hP
                  have hD : va_D A [(m_second, .inl (kZ, 1000, .inl f211)), (h0, .inr (10, [.ref m_now, .ref m_draft, .ref m_past, .int j_acts, .ref m_images, .ref m_kept, .ref m_tape, .int j_taped, .int j_at, .int j_start, .int j_token, .int j_value, .int j_fault, .int j_place, .int j_latest, .ref m_low, .ref m_high, .ref m_first, .ref m_second, .ref m_lines, .ref m_others, .int j_shiftFirst, .int j_shiftMany, .int j_shiftLow, .int j_shiftHigh])), (m_now, .inl (kI, 192, .inl g_now)), (m_low, .inl (kI, 1000, .inl y8)), (m_high, .inl (kI, 1000, .inl y9)), (m_first, .inl (kZ, 1000, .inl y318))] := hD
                  have hK : va_K D vwCl [(kI, .int), (kZ, .boolean), (kI, .int), (kZ, .boolean), (kI, .int), (kZ, .boolean)] s := hK
                  have hl : lv_has ls 7 [(0, .ref h0), (1, .int i_0), (2, .int i_1), (3, .int i_2), (4, .int v208), (5, .int v209), (6, .int r319)] := hl
                  refine W.eq (g2 := F0 m 151 ls [.int v322, .int i_2, .int v208]) rfl ?_
                  refine pw_join (fun (v325 : Int32) H locs ls => va_P D vwCl [(m_second, .inl (kZ, 1000, .inl f211)), (h0, .inr (10, [.ref m_now, .ref m_draft, .ref m_past, .int j_acts, .ref m_images, .ref m_kept, .ref m_tape, .int j_taped, .int j_at, .int j_start, .int j_token, .int j_value, .int j_fault, .int j_place, .int j_latest, .ref m_low, .ref m_high, .ref m_first, .ref m_second, .ref m_lines, .ref m_others, .int j_shiftFirst, .int j_shiftMany, .int j_shiftLow, .int j_shiftHigh])), (m_now, .inl (kI, 192, .inl g_now)), (m_low, .inl (kI, 1000, .inl y8)), (m_high, .inl (kI, 1000, .inl y9)), (m_first, .inl (kZ, 1000, .inl y318))] H ∧ va_D A [(m_second, .inl (kZ, 1000, .inl f211)), (h0, .inr (10, [.ref m_now, .ref m_draft, .ref m_past, .int j_acts, .ref m_images, .ref m_kept, .ref m_tape, .int j_taped, .int j_at, .int j_start, .int j_token, .int j_value, .int j_fault, .int j_place, .int j_latest, .ref m_low, .ref m_high, .ref m_first, .ref m_second, .ref m_lines, .ref m_others, .int j_shiftFirst, .int j_shiftMany, .int j_shiftLow, .int j_shiftHigh])), (m_now, .inl (kI, 192, .inl g_now)), (m_low, .inl (kI, 1000, .inl y8)), (m_high, .inl (kI, 1000, .inl y9)), (m_first, .inl (kZ, 1000, .inl y318))] ∧ va_S A s.heap H locs ∧ lv_has ls 7 [(0, .ref h0), (1, .int i_0), (2, .int i_1), (3, .int i_2), (4, .int v208), (5, .int v209), (6, .int r319)]) 0 0 (fun (v325 : Int32) ls => F0 m 159 ls [.int v325, .int v208]) (fun v325 H locs ls hI => ?_) (fun hJ326 => ?_)
                  ·
                    obtain ⟨hP, hD, hS, hl⟩ := hI
                    have hP : va_P D vwCl [(m_second, .inl (kZ, 1000, .inl f211)), (h0, .inr (10, [.ref m_now, .ref m_draft, .ref m_past, .int j_acts, .ref m_images, .ref m_kept, .ref m_tape, .int j_taped, .int j_at, .int j_start, .int j_token, .int j_value, .int j_fault, .int j_place, .int j_latest, .ref m_low, .ref m_high, .ref m_first, .ref m_second, .ref m_lines, .ref m_others, .int j_shiftFirst, .int j_shiftMany, .int j_shiftLow, .int j_shiftHigh])), (m_now, .inl (kI, 192, .inl g_now)), (m_low, .inl (kI, 1000, .inl y8)), (m_high, .inl (kI, 1000, .inl y9)), (m_first, .inl (kZ, 1000, .inl y318))] H := hP
                    have hD : va_D A [(m_second, .inl (kZ, 1000, .inl f211)), (h0, .inr (10, [.ref m_now, .ref m_draft, .ref m_past, .int j_acts, .ref m_images, .ref m_kept, .ref m_tape, .int j_taped, .int j_at, .int j_start, .int j_token, .int j_value, .int j_fault, .int j_place, .int j_latest, .ref m_low, .ref m_high, .ref m_first, .ref m_second, .ref m_lines, .ref m_others, .int j_shiftFirst, .int j_shiftMany, .int j_shiftLow, .int j_shiftHigh])), (m_now, .inl (kI, 192, .inl g_now)), (m_low, .inl (kI, 1000, .inl y8)), (m_high, .inl (kI, 1000, .inl y9)), (m_first, .inl (kZ, 1000, .inl y318))] := hD
                    have hK : va_K D vwCl [(kI, .int), (kZ, .boolean), (kI, .int), (kZ, .boolean), (kI, .int), (kZ, .boolean)] s := hK
                    have hl : lv_has ls 7 [(0, .ref h0), (1, .int i_0), (2, .int i_1), (3, .int i_2), (4, .int v208), (5, .int v209), (6, .int r319)] := hl
                    refine W.eq (g2 := F0 m 159 ls [.int v325, .int v208]) rfl ?_
                    refine lv_iadd hx hb dX10_table_159 ?_
                    refine lv_topi (fun x327 ex327 => ?_)
                    refine lv_istore (lv' := [(4, .int x327), (0, .ref h0), (1, .int i_0), (2, .int i_1), (3, .int i_2), (5, .int v209), (6, .int r319)]) hx hb dX10_table_160 hl (by decide) rfl (fun ls hl => ?_)
                    have hP9 : va_P D vwCl [(m_first, .inl (kZ, 1000, .inl y318)), (m_second, .inl (kZ, 1000, .inl f211)), (h0, .inr (10, [.ref m_now, .ref m_draft, .ref m_past, .int j_acts, .ref m_images, .ref m_kept, .ref m_tape, .int j_taped, .int j_at, .int j_start, .int j_token, .int j_value, .int j_fault, .int j_place, .int j_latest, .ref m_low, .ref m_high, .ref m_first, .ref m_second, .ref m_lines, .ref m_others, .int j_shiftFirst, .int j_shiftMany, .int j_shiftLow, .int j_shiftHigh])), (m_now, .inl (kI, 192, .inl g_now)), (m_low, .inl (kI, 1000, .inl y8)), (m_high, .inl (kI, 1000, .inl y9))] H := hP.sub [5, 0, 1, 2, 3, 4] rfl
                    have hD9 : va_D A [(m_first, .inl (kZ, 1000, .inl y318)), (m_second, .inl (kZ, 1000, .inl f211)), (h0, .inr (10, [.ref m_now, .ref m_draft, .ref m_past, .int j_acts, .ref m_images, .ref m_kept, .ref m_tape, .int j_taped, .int j_at, .int j_start, .int j_token, .int j_value, .int j_fault, .int j_place, .int j_latest, .ref m_low, .ref m_high, .ref m_first, .ref m_second, .ref m_lines, .ref m_others, .int j_shiftFirst, .int j_shiftMany, .int j_shiftLow, .int j_shiftHigh])), (m_now, .inl (kI, 192, .inl g_now)), (m_low, .inl (kI, 1000, .inl y8)), (m_high, .inl (kI, 1000, .inl y9))] := hD.sub [5, 0, 1, 2, 3, 4] (by decide) rfl
                    have hl9 : lv_has ls 7 [(0, .ref h0), (1, .int i_0), (2, .int i_1), (3, .int i_2), (4, .int x327), (5, .int v209)] := lv_sub hl [1, 2, 3, 4, 0, 5] rfl
                    refine W.widen (k := 0) (n := 0) (Nat.le_of_ble_eq_true rfl) (Nat.le_of_ble_eq_true rfl) ?_
                    exact hJ312 (x327, y318, f211) _ _ _ ⟨hP9, hD9, hS, hl9⟩
                  ·
                    refine lv_icmp_ne (tgt := 158) hx hb dX10_table_151 (by decide) (fun c328 => ?_) (fun c328 => ?_)
                    · have nc328 : i_2.toInt ≠ v322.toInt := pw_ne c328 rfl rfl
                      have mc328i_2 := pw_max i_2
                      have mc328v322 := pw_max v322
                      refine lv_iconst (v := 0) hx hb dX10_table_158 (by decide) ?_
                      have hP9 : va_P D vwCl [(m_second, .inl (kZ, 1000, .inl f211)), (h0, .inr (10, [.ref m_now, .ref m_draft, .ref m_past, .int j_acts, .ref m_images, .ref m_kept, .ref m_tape, .int j_taped, .int j_at, .int j_start, .int j_token, .int j_value, .int j_fault, .int j_place, .int j_latest, .ref m_low, .ref m_high, .ref m_first, .ref m_second, .ref m_lines, .ref m_others, .int j_shiftFirst, .int j_shiftMany, .int j_shiftLow, .int j_shiftHigh])), (m_now, .inl (kI, 192, .inl g_now)), (m_low, .inl (kI, 1000, .inl y8)), (m_high, .inl (kI, 1000, .inl y9)), (m_first, .inl (kZ, 1000, .inl y318))] H := hP.sub [0, 1, 2, 3, 4, 5] rfl
                      have hD9 : va_D A [(m_second, .inl (kZ, 1000, .inl f211)), (h0, .inr (10, [.ref m_now, .ref m_draft, .ref m_past, .int j_acts, .ref m_images, .ref m_kept, .ref m_tape, .int j_taped, .int j_at, .int j_start, .int j_token, .int j_value, .int j_fault, .int j_place, .int j_latest, .ref m_low, .ref m_high, .ref m_first, .ref m_second, .ref m_lines, .ref m_others, .int j_shiftFirst, .int j_shiftMany, .int j_shiftLow, .int j_shiftHigh])), (m_now, .inl (kI, 192, .inl g_now)), (m_low, .inl (kI, 1000, .inl y8)), (m_high, .inl (kI, 1000, .inl y9)), (m_first, .inl (kZ, 1000, .inl y318))] := hD.sub [0, 1, 2, 3, 4, 5] (by decide) rfl
                      have hl9 : lv_has ls 7 [(0, .ref h0), (1, .int i_0), (2, .int i_1), (3, .int i_2), (4, .int v208), (5, .int v209), (6, .int r319)] := lv_sub hl [0, 1, 2, 3, 4, 5, 6] rfl
                      refine W.widen (k := 0) (n := 0) (Nat.le_of_ble_eq_true rfl) (Nat.le_of_ble_eq_true rfl) ?_
                      exact hJ326 0 _ _ _ ⟨hP9, hD9, hS, hl9⟩
                    · have nc328 : i_2.toInt = v322.toInt := pw_eq c328 rfl rfl
                      have mc328i_2 := pw_max i_2
                      have mc328v322 := pw_max v322
                      refine lv_iconst (v := 1) hx hb dX10_table_154 (by decide) ?_
                      refine lv_goto (tgt := 159) hx hb dX10_table_155 (by decide) ?_
                      have hP9 : va_P D vwCl [(m_second, .inl (kZ, 1000, .inl f211)), (h0, .inr (10, [.ref m_now, .ref m_draft, .ref m_past, .int j_acts, .ref m_images, .ref m_kept, .ref m_tape, .int j_taped, .int j_at, .int j_start, .int j_token, .int j_value, .int j_fault, .int j_place, .int j_latest, .ref m_low, .ref m_high, .ref m_first, .ref m_second, .ref m_lines, .ref m_others, .int j_shiftFirst, .int j_shiftMany, .int j_shiftLow, .int j_shiftHigh])), (m_now, .inl (kI, 192, .inl g_now)), (m_low, .inl (kI, 1000, .inl y8)), (m_high, .inl (kI, 1000, .inl y9)), (m_first, .inl (kZ, 1000, .inl y318))] H := hP.sub [0, 1, 2, 3, 4, 5] rfl
                      have hD9 : va_D A [(m_second, .inl (kZ, 1000, .inl f211)), (h0, .inr (10, [.ref m_now, .ref m_draft, .ref m_past, .int j_acts, .ref m_images, .ref m_kept, .ref m_tape, .int j_taped, .int j_at, .int j_start, .int j_token, .int j_value, .int j_fault, .int j_place, .int j_latest, .ref m_low, .ref m_high, .ref m_first, .ref m_second, .ref m_lines, .ref m_others, .int j_shiftFirst, .int j_shiftMany, .int j_shiftLow, .int j_shiftHigh])), (m_now, .inl (kI, 192, .inl g_now)), (m_low, .inl (kI, 1000, .inl y8)), (m_high, .inl (kI, 1000, .inl y9)), (m_first, .inl (kZ, 1000, .inl y318))] := hD.sub [0, 1, 2, 3, 4, 5] (by decide) rfl
                      have hl9 : lv_has ls 7 [(0, .ref h0), (1, .int i_0), (2, .int i_1), (3, .int i_2), (4, .int v208), (5, .int v209), (6, .int r319)] := lv_sub hl [0, 1, 2, 3, 4, 5, 6] rfl
                      refine W.widen (k := 0) (n := 0) (Nat.le_of_ble_eq_true rfl) (Nat.le_of_ble_eq_true rfl) ?_
                      exact hJ326 1 _ _ _ ⟨hP9, hD9, hS, hl9⟩
                ·
                  refine lv_icmp_ge (tgt := 150) hx hb dX10_table_142 (by decide) (fun c329 => ?_) (fun c329 => ?_)
                  · have nc329 : 2 ≤ r319.toInt := pw_le c329 (by decide) rfl
                    refine lv_iconst (v := 2) hx hb dX10_table_150 (by decide) ?_
                    have hP9 : va_P D vwCl [(m_second, .inl (kZ, 1000, .inl f211)), (h0, .inr (10, [.ref m_now, .ref m_draft, .ref m_past, .int j_acts, .ref m_images, .ref m_kept, .ref m_tape, .int j_taped, .int j_at, .int j_start, .int j_token, .int j_value, .int j_fault, .int j_place, .int j_latest, .ref m_low, .ref m_high, .ref m_first, .ref m_second, .ref m_lines, .ref m_others, .int j_shiftFirst, .int j_shiftMany, .int j_shiftLow, .int j_shiftHigh])), (m_now, .inl (kI, 192, .inl g_now)), (m_low, .inl (kI, 1000, .inl y8)), (m_high, .inl (kI, 1000, .inl y9)), (m_first, .inl (kZ, 1000, .inl y318))] H := hP.sub [0, 1, 2, 3, 4, 5] rfl
                    have hD9 : va_D A [(m_second, .inl (kZ, 1000, .inl f211)), (h0, .inr (10, [.ref m_now, .ref m_draft, .ref m_past, .int j_acts, .ref m_images, .ref m_kept, .ref m_tape, .int j_taped, .int j_at, .int j_start, .int j_token, .int j_value, .int j_fault, .int j_place, .int j_latest, .ref m_low, .ref m_high, .ref m_first, .ref m_second, .ref m_lines, .ref m_others, .int j_shiftFirst, .int j_shiftMany, .int j_shiftLow, .int j_shiftHigh])), (m_now, .inl (kI, 192, .inl g_now)), (m_low, .inl (kI, 1000, .inl y8)), (m_high, .inl (kI, 1000, .inl y9)), (m_first, .inl (kZ, 1000, .inl y318))] := hD.sub [0, 1, 2, 3, 4, 5] (by decide) rfl
                    have hl9 : lv_has ls 7 [(0, .ref h0), (1, .int i_0), (2, .int i_1), (3, .int i_2), (4, .int v208), (5, .int v209), (6, .int r319)] := lv_sub hl [1, 2, 3, 4, 5, 6, 0] rfl
                    refine W.widen (k := 0) (n := 0) (Nat.le_of_ble_eq_true rfl) (Nat.le_of_ble_eq_true rfl) ?_
                    exact hJ323 2 _ _ _ ⟨hP9, hD9, hS, hl9⟩
                  · have nc329 : r319.toInt < 2 := pw_nle c329 (by decide) rfl
                    refine lv_iload hx hb dX10_table_145 (lv_at hl 0 rfl) ?_
                    refine lv_goto (tgt := 151) hx hb dX10_table_147 (by decide) ?_
                    have hP9 : va_P D vwCl [(m_second, .inl (kZ, 1000, .inl f211)), (h0, .inr (10, [.ref m_now, .ref m_draft, .ref m_past, .int j_acts, .ref m_images, .ref m_kept, .ref m_tape, .int j_taped, .int j_at, .int j_start, .int j_token, .int j_value, .int j_fault, .int j_place, .int j_latest, .ref m_low, .ref m_high, .ref m_first, .ref m_second, .ref m_lines, .ref m_others, .int j_shiftFirst, .int j_shiftMany, .int j_shiftLow, .int j_shiftHigh])), (m_now, .inl (kI, 192, .inl g_now)), (m_low, .inl (kI, 1000, .inl y8)), (m_high, .inl (kI, 1000, .inl y9)), (m_first, .inl (kZ, 1000, .inl y318))] H := hP.sub [0, 1, 2, 3, 4, 5] rfl
                    have hD9 : va_D A [(m_second, .inl (kZ, 1000, .inl f211)), (h0, .inr (10, [.ref m_now, .ref m_draft, .ref m_past, .int j_acts, .ref m_images, .ref m_kept, .ref m_tape, .int j_taped, .int j_at, .int j_start, .int j_token, .int j_value, .int j_fault, .int j_place, .int j_latest, .ref m_low, .ref m_high, .ref m_first, .ref m_second, .ref m_lines, .ref m_others, .int j_shiftFirst, .int j_shiftMany, .int j_shiftLow, .int j_shiftHigh])), (m_now, .inl (kI, 192, .inl g_now)), (m_low, .inl (kI, 1000, .inl y8)), (m_high, .inl (kI, 1000, .inl y9)), (m_first, .inl (kZ, 1000, .inl y318))] := hD.sub [0, 1, 2, 3, 4, 5] (by decide) rfl
                    have hl9 : lv_has ls 7 [(0, .ref h0), (1, .int i_0), (2, .int i_1), (3, .int i_2), (4, .int v208), (5, .int v209), (6, .int r319)] := lv_sub hl [1, 2, 3, 4, 5, 6, 0] rfl
                    refine W.widen (k := 0) (n := 0) (Nat.le_of_ble_eq_true rfl) (Nat.le_of_ble_eq_true rfl) ?_
                    exact hJ323 r319 _ _ _ ⟨hP9, hD9, hS, hl9⟩
              · have nc320 : i_2.toInt = 3 := pw_eq c320 rfl (by decide)
                refine lv_aload_n hx hb dX10_table_93 rfl (lv_at hl 1 rfl) ?_
                refine lv_iload_n hx hb dX10_table_94 rfl (lv_at hl 2 rfl) ?_
                refine lv_iload hx hb dX10_table_95 (lv_at hl 6 rfl) ?_
                refine lv_iload_n hx hb dX10_table_97 rfl (lv_at hl 3 rfl) ?_
                refine lv_iload_n hx hb dX10_table_98 rfl (lv_at hl 2 rfl) ?_
                have hPc := hP.sub (ws' := [(h0, .inr (10, [.ref m_now, .ref m_draft, .ref m_past, .int j_acts, .ref m_images, .ref m_kept, .ref m_tape, .int j_taped, .int j_at, .int j_start, .int j_token, .int j_value, .int j_fault, .int j_place, .int j_latest, .ref m_low, .ref m_high, .ref m_first, .ref m_second, .ref m_lines, .ref m_others, .int j_shiftFirst, .int j_shiftMany, .int j_shiftLow, .int j_shiftHigh])), (m_now, .inl (kI, 192, .inl g_now)), (m_low, .inl (kI, 1000, .inl y8)), (m_high, .inl (kI, 1000, .inl y9)), (m_first, .inl (kZ, 1000, .inl y318)), (m_second, .inl (kZ, 1000, .inl f211))]) [1, 2, 3, 4, 5, 0] rfl
                have hKc := hK.sub (tys' := [(kI, .int), (kZ, .boolean)]) [0, 1] rfl
                have hDc := hD.sub (ws' := [(h0, .inr (10, [.ref m_now, .ref m_draft, .ref m_past, .int j_acts, .ref m_images, .ref m_kept, .ref m_tape, .int j_taped, .int j_at, .int j_start, .int j_token, .int j_value, .int j_fault, .int j_place, .int j_latest, .ref m_low, .ref m_high, .ref m_first, .ref m_second, .ref m_lines, .ref m_others, .int j_shiftFirst, .int j_shiftMany, .int j_shiftLow, .int j_shiftHigh])), (m_now, .inl (kI, 192, .inl g_now)), (m_low, .inl (kI, 1000, .inl y8)), (m_high, .inl (kI, 1000, .inl y9)), (m_first, .inl (kZ, 1000, .inl y318)), (m_second, .inl (kZ, 1000, .inl f211))]) [1, 2, 3, 4, 5, 0] (by decide) rfl
                have hFc := va_free (wc := [(h0, .inr (10, [.ref m_now, .ref m_draft, .ref m_past, .int j_acts, .ref m_images, .ref m_kept, .ref m_tape, .int j_taped, .int j_at, .int j_start, .int j_token, .int j_value, .int j_fault, .int j_place, .int j_latest, .ref m_low, .ref m_high, .ref m_first, .ref m_second, .ref m_lines, .ref m_others, .int j_shiftFirst, .int j_shiftMany, .int j_shiftLow, .int j_shiftHigh])), (m_now, .inl (kI, 192, .inl g_now)), (m_low, .inl (kI, 1000, .inl y8)), (m_high, .inl (kI, 1000, .inl y9)), (m_first, .inl (kZ, 1000, .inl y318)), (m_second, .inl (kZ, 1000, .inl f211))]) hD hS hA [1, 2, 3, 4, 5, 0] rfl
                refine va_callv (va_runV (As := [.int i_0, .int v209, .int i_1, .int i_0]) (rest := []) ⟨hx, hb, hml, hown, hts⟩ (c_X10_goes l D h0 i_0 v209 i_1 i_0 m_now m_draft m_past j_acts m_images m_kept m_tape j_taped j_at j_start j_token j_value j_fault j_place j_latest m_low m_high m_first m_second m_lines m_others j_shiftFirst j_shiftMany j_shiftLow j_shiftHigh kI g_now y8 y9 kZ y318 f211 H.size (by first | decide | omega) (by first | decide | omega) (by first | decide | omega) (by first | decide | omega) (by first | decide | omega) (by first | decide | omega) hg_now hy8 hy9) (cwV 4 hts g_X10_table_X10_goes rfl rfl rfl (by decide +kernel) ⟨Nat.le_of_ble_eq_true rfl, Nat.le_of_ble_eq_true rfl⟩) ⟨fun a U g mk q => by obtain ⟨q0, q1, qP, qK, qD⟩ := q; exact ⟨q0, q1, qP, va_K.moved (u := U) (U := U.calling g mk a) (Vm.Alike.refl U.vm) qK, qD⟩, va_recv hKc hPc (ci := 10) (q0 := 0) rfl rfl, fun U hU hW => ⟨rfl, by rw [hU], by rw [hU]; exact hPc, va_K.moved hW.alike hKc, hDc.weaken (fun _ _ _ _ => trivial)⟩⟩ rfl rfl hl.1 rfl (lv_room (Nat.le_of_ble_eq_true rfl)) dX10_table_99 ⟨Nat.le_of_ble_eq_true rfl, Nat.le_of_ble_eq_true rfl⟩) hS (fun q _ h => hFc q h) hFc (fun u t H1 locs ht hvm hw hB hz1 hk1 hS => ?_)
                obtain ⟨y331, y332, hP1, hK1, hD1⟩ := hB
                rw [ht] at hP1
                have hK1 := va_K.moved hvm.symm hK1
                obtain ⟨hP, hD⟩ := va_join (wr := []) (w1 := [(h0, .inr (10, [.ref m_now, .ref m_draft, .ref m_past, .int j_acts, .ref m_images, .ref m_kept, .ref m_tape, .int j_taped, .int j_at, .int j_start, .int j_token, .int j_value, .int j_fault, .int j_place, .int j_latest, .ref m_low, .ref m_high, .ref m_first, .ref m_second, .ref m_lines, .ref m_others, .int j_shiftFirst, .int j_shiftMany, .int j_shiftLow, .int j_shiftHigh])), (m_now, .inl (kI, 192, .inl g_now)), (m_low, .inl (kI, 1000, .inl y8)), (m_high, .inl (kI, 1000, .inl y9)), (m_first, .inl (kZ, 1000, .inl y331)), (m_second, .inl (kZ, 1000, .inl y332))]) hP hD [1, 2, 3, 4, 5, 0] [] rfl rfl (by decide) (by decide) hk1 hFc hP1 hD1
                have hK := (hK.sub (tys' := [(kI, .int), (kZ, .boolean), (kI, .int), (kZ, .boolean), (kI, .int), (kZ, .boolean)]) [0, 1, 2, 3, 4, 5] rfl).app hK1
                generalize H1 = H at hP hS ⊢
                have hP : va_P D vwCl [(h0, .inr (10, [.ref m_now, .ref m_draft, .ref m_past, .int j_acts, .ref m_images, .ref m_kept, .ref m_tape, .int j_taped, .int j_at, .int j_start, .int j_token, .int j_value, .int j_fault, .int j_place, .int j_latest, .ref m_low, .ref m_high, .ref m_first, .ref m_second, .ref m_lines, .ref m_others, .int j_shiftFirst, .int j_shiftMany, .int j_shiftLow, .int j_shiftHigh])), (m_now, .inl (kI, 192, .inl g_now)), (m_low, .inl (kI, 1000, .inl y8)), (m_high, .inl (kI, 1000, .inl y9)), (m_first, .inl (kZ, 1000, .inl y331)), (m_second, .inl (kZ, 1000, .inl y332))] H := hP
                have hD : va_D A [(h0, .inr (10, [.ref m_now, .ref m_draft, .ref m_past, .int j_acts, .ref m_images, .ref m_kept, .ref m_tape, .int j_taped, .int j_at, .int j_start, .int j_token, .int j_value, .int j_fault, .int j_place, .int j_latest, .ref m_low, .ref m_high, .ref m_first, .ref m_second, .ref m_lines, .ref m_others, .int j_shiftFirst, .int j_shiftMany, .int j_shiftLow, .int j_shiftHigh])), (m_now, .inl (kI, 192, .inl g_now)), (m_low, .inl (kI, 1000, .inl y8)), (m_high, .inl (kI, 1000, .inl y9)), (m_first, .inl (kZ, 1000, .inl y331)), (m_second, .inl (kZ, 1000, .inl y332))] := hD
                have hK : va_K D vwCl [(kI, .int), (kZ, .boolean), (kI, .int), (kZ, .boolean), (kI, .int), (kZ, .boolean), (kI, .int), (kZ, .boolean)] s := hK
                refine W.widen (k := 0) (n := 0) (Nat.le_of_ble_eq_true rfl) (Nat.le_of_ble_eq_true rfl) ?_
                refine lv_iload hx hb dX10_table_102 (lv_at hl 5 rfl) ?_
                refine lv_aload_n hx hb dX10_table_104 rfl (lv_at hl 1 rfl) ?_
                refine va_get (D := D) (ci := 10) (v := .ref m_first) (C := RX10) (T := TX10) (N := 25) hx hb hts (fun _ h => List.mem_cons_of_mem _ (List.mem_append_right _ h)) hown hK hP 0 rfl rfl 17 (by decide) (hts (.fieldLink RX10 35 "LineCitesModel" "first" "[Z") (List.mem_of_getElem? (i := 37) rfl)) (fun _ h9 => h9) rfl dX10_table_105 ?_
                have hPc := hP.sub (ws' := [(m_first, .inl (kZ, 1000, .inl y331))]) [4] rfl
                have hKc := hK.sub (tys' := [(kZ, .boolean)]) [1] rfl
                refine va_calli (va_runS (As := [.ref m_first]) (rest := [.int v208]) ⟨hx, hb, hml, hown, hts⟩ (c_X10_manyIn l D m_first kZ y331) (cwS 1 hts g_X10_table_X10_manyIn rfl rfl rfl (by decide +kernel) ⟨Nat.le_of_ble_eq_true rfl, Nat.le_of_ble_eq_true rfl⟩) ⟨fun a U g mk q => by obtain ⟨q0, qP, qK⟩ := q; exact ⟨q0, qP, va_K.moved (u := U) (U := U.calling g mk a) (Vm.Alike.refl U.vm) qK⟩, fun U hU hW => ⟨rfl, by rw [hU]; exact hPc, va_K.moved hW.alike hKc⟩⟩ rfl rfl hl.1 rfl (lv_room (Nat.le_of_ble_eq_true rfl)) dX10_table_108 ⟨Nat.le_of_ble_eq_true rfl, Nat.le_of_ble_eq_true rfl⟩) hS (fun _ _ h => h.elim) (fun _ h => h.elim) (fun r333 u t H1 locs ht hvm hw hB hz1 hk1 hS => ?_)
                have hP := pw_keep hP (fun q hq => hk1 q hq (fun h => h))
                generalize H1 = H at hP hS ⊢
                refine W.widen (k := 0) (n := 0) (Nat.le_of_ble_eq_true rfl) (Nat.le_of_ble_eq_true rfl) ?_
                refine lv_iconst (v := 1) hx hb dX10_table_111 (by decide) ?_
                refine pw_join (fun (v337 : Int32) H locs ls => va_P D vwCl [(h0, .inr (10, [.ref m_now, .ref m_draft, .ref m_past, .int j_acts, .ref m_images, .ref m_kept, .ref m_tape, .int j_taped, .int j_at, .int j_start, .int j_token, .int j_value, .int j_fault, .int j_place, .int j_latest, .ref m_low, .ref m_high, .ref m_first, .ref m_second, .ref m_lines, .ref m_others, .int j_shiftFirst, .int j_shiftMany, .int j_shiftLow, .int j_shiftHigh])), (m_now, .inl (kI, 192, .inl g_now)), (m_low, .inl (kI, 1000, .inl y8)), (m_high, .inl (kI, 1000, .inl y9)), (m_first, .inl (kZ, 1000, .inl y331)), (m_second, .inl (kZ, 1000, .inl y332))] H ∧ va_D A [(h0, .inr (10, [.ref m_now, .ref m_draft, .ref m_past, .int j_acts, .ref m_images, .ref m_kept, .ref m_tape, .int j_taped, .int j_at, .int j_start, .int j_token, .int j_value, .int j_fault, .int j_place, .int j_latest, .ref m_low, .ref m_high, .ref m_first, .ref m_second, .ref m_lines, .ref m_others, .int j_shiftFirst, .int j_shiftMany, .int j_shiftLow, .int j_shiftHigh])), (m_now, .inl (kI, 192, .inl g_now)), (m_low, .inl (kI, 1000, .inl y8)), (m_high, .inl (kI, 1000, .inl y9)), (m_first, .inl (kZ, 1000, .inl y331)), (m_second, .inl (kZ, 1000, .inl y332))] ∧ va_S A s.heap H locs ∧ lv_has ls 7 [(0, .ref h0), (1, .int i_0), (2, .int i_1), (3, .int i_2), (4, .int v208), (5, .int v209), (6, .int r319)]) 0 0 (fun (v337 : Int32) ls => F0 m 130 ls [.int v337, .int v208]) (fun v337 H locs ls hI => ?_) (fun hJ338 => ?_)
                ·
                  obtain ⟨hP, hD, hS, hl⟩ := hI
                  have hP : va_P D vwCl [(h0, .inr (10, [.ref m_now, .ref m_draft, .ref m_past, .int j_acts, .ref m_images, .ref m_kept, .ref m_tape, .int j_taped, .int j_at, .int j_start, .int j_token, .int j_value, .int j_fault, .int j_place, .int j_latest, .ref m_low, .ref m_high, .ref m_first, .ref m_second, .ref m_lines, .ref m_others, .int j_shiftFirst, .int j_shiftMany, .int j_shiftLow, .int j_shiftHigh])), (m_now, .inl (kI, 192, .inl g_now)), (m_low, .inl (kI, 1000, .inl y8)), (m_high, .inl (kI, 1000, .inl y9)), (m_first, .inl (kZ, 1000, .inl y331)), (m_second, .inl (kZ, 1000, .inl y332))] H := hP
                  have hD : va_D A [(h0, .inr (10, [.ref m_now, .ref m_draft, .ref m_past, .int j_acts, .ref m_images, .ref m_kept, .ref m_tape, .int j_taped, .int j_at, .int j_start, .int j_token, .int j_value, .int j_fault, .int j_place, .int j_latest, .ref m_low, .ref m_high, .ref m_first, .ref m_second, .ref m_lines, .ref m_others, .int j_shiftFirst, .int j_shiftMany, .int j_shiftLow, .int j_shiftHigh])), (m_now, .inl (kI, 192, .inl g_now)), (m_low, .inl (kI, 1000, .inl y8)), (m_high, .inl (kI, 1000, .inl y9)), (m_first, .inl (kZ, 1000, .inl y331)), (m_second, .inl (kZ, 1000, .inl y332))] := hD
                  have hK : va_K D vwCl [(kI, .int), (kZ, .boolean), (kI, .int), (kZ, .boolean), (kI, .int), (kZ, .boolean), (kI, .int), (kZ, .boolean)] s := hK
                  have hl : lv_has ls 7 [(0, .ref h0), (1, .int i_0), (2, .int i_1), (3, .int i_2), (4, .int v208), (5, .int v209), (6, .int r319)] := hl
                  refine W.eq (g2 := F0 m 130 ls [.int v337, .int v208]) rfl ?_
                  refine lv_iadd hx hb dX10_table_130 ?_
                  refine lv_topi (fun x339 ex339 => ?_)
                  refine lv_istore (lv' := [(4, .int x339), (0, .ref h0), (1, .int i_0), (2, .int i_1), (3, .int i_2), (5, .int v209), (6, .int r319)]) hx hb dX10_table_131 hl (by decide) rfl (fun ls hl => ?_)
                  refine lv_goto (tgt := 162) hx hb dX10_table_133 (by decide) ?_
                  have hP9 : va_P D vwCl [(m_first, .inl (kZ, 1000, .inl y331)), (m_second, .inl (kZ, 1000, .inl y332)), (h0, .inr (10, [.ref m_now, .ref m_draft, .ref m_past, .int j_acts, .ref m_images, .ref m_kept, .ref m_tape, .int j_taped, .int j_at, .int j_start, .int j_token, .int j_value, .int j_fault, .int j_place, .int j_latest, .ref m_low, .ref m_high, .ref m_first, .ref m_second, .ref m_lines, .ref m_others, .int j_shiftFirst, .int j_shiftMany, .int j_shiftLow, .int j_shiftHigh])), (m_now, .inl (kI, 192, .inl g_now)), (m_low, .inl (kI, 1000, .inl y8)), (m_high, .inl (kI, 1000, .inl y9))] H := hP.sub [4, 5, 0, 1, 2, 3] rfl
                  have hD9 : va_D A [(m_first, .inl (kZ, 1000, .inl y331)), (m_second, .inl (kZ, 1000, .inl y332)), (h0, .inr (10, [.ref m_now, .ref m_draft, .ref m_past, .int j_acts, .ref m_images, .ref m_kept, .ref m_tape, .int j_taped, .int j_at, .int j_start, .int j_token, .int j_value, .int j_fault, .int j_place, .int j_latest, .ref m_low, .ref m_high, .ref m_first, .ref m_second, .ref m_lines, .ref m_others, .int j_shiftFirst, .int j_shiftMany, .int j_shiftLow, .int j_shiftHigh])), (m_now, .inl (kI, 192, .inl g_now)), (m_low, .inl (kI, 1000, .inl y8)), (m_high, .inl (kI, 1000, .inl y9))] := hD.sub [4, 5, 0, 1, 2, 3] (by decide) rfl
                  have hl9 : lv_has ls 7 [(0, .ref h0), (1, .int i_0), (2, .int i_1), (3, .int i_2), (4, .int x339), (5, .int v209)] := lv_sub hl [1, 2, 3, 4, 0, 5] rfl
                  refine W.widen (k := 0) (n := 0) (Nat.le_of_ble_eq_true rfl) (Nat.le_of_ble_eq_true rfl) ?_
                  exact hJ312 (x339, y331, y332) _ _ _ ⟨hP9, hD9, hS, hl9⟩
                ·
                  refine lv_icmp_ne (tgt := 129) hx hb dX10_table_112 (by decide) (fun c340 => ?_) (fun c340 => ?_)
                  · have nc340 : r333.toInt ≠ 1 := pw_ne c340 rfl (by decide)
                    refine lv_iconst (v := 0) hx hb dX10_table_129 (by decide) ?_
                    have hP9 : va_P D vwCl [(h0, .inr (10, [.ref m_now, .ref m_draft, .ref m_past, .int j_acts, .ref m_images, .ref m_kept, .ref m_tape, .int j_taped, .int j_at, .int j_start, .int j_token, .int j_value, .int j_fault, .int j_place, .int j_latest, .ref m_low, .ref m_high, .ref m_first, .ref m_second, .ref m_lines, .ref m_others, .int j_shiftFirst, .int j_shiftMany, .int j_shiftLow, .int j_shiftHigh])), (m_now, .inl (kI, 192, .inl g_now)), (m_low, .inl (kI, 1000, .inl y8)), (m_high, .inl (kI, 1000, .inl y9)), (m_first, .inl (kZ, 1000, .inl y331)), (m_second, .inl (kZ, 1000, .inl y332))] H := hP.sub [0, 1, 2, 3, 4, 5] rfl
                    have hD9 : va_D A [(h0, .inr (10, [.ref m_now, .ref m_draft, .ref m_past, .int j_acts, .ref m_images, .ref m_kept, .ref m_tape, .int j_taped, .int j_at, .int j_start, .int j_token, .int j_value, .int j_fault, .int j_place, .int j_latest, .ref m_low, .ref m_high, .ref m_first, .ref m_second, .ref m_lines, .ref m_others, .int j_shiftFirst, .int j_shiftMany, .int j_shiftLow, .int j_shiftHigh])), (m_now, .inl (kI, 192, .inl g_now)), (m_low, .inl (kI, 1000, .inl y8)), (m_high, .inl (kI, 1000, .inl y9)), (m_first, .inl (kZ, 1000, .inl y331)), (m_second, .inl (kZ, 1000, .inl y332))] := hD.sub [0, 1, 2, 3, 4, 5] (by decide) rfl
                    have hl9 : lv_has ls 7 [(0, .ref h0), (1, .int i_0), (2, .int i_1), (3, .int i_2), (4, .int v208), (5, .int v209), (6, .int r319)] := lv_sub hl [1, 2, 3, 4, 5, 6, 0] rfl
                    refine W.widen (k := 0) (n := 0) (Nat.le_of_ble_eq_true rfl) (Nat.le_of_ble_eq_true rfl) ?_
                    exact hJ338 0 _ _ _ ⟨hP9, hD9, hS, hl9⟩
                  · have nc340 : r333.toInt = 1 := pw_eq c340 rfl (by decide)
                    refine lv_aload_n hx hb dX10_table_115 rfl (lv_at hl 1 rfl) ?_
                    refine va_get (D := D) (ci := 10) (v := .ref m_first) (C := RX10) (T := TX10) (N := 25) hx hb hts (fun _ h => List.mem_cons_of_mem _ (List.mem_append_right _ h)) hown hK hP 0 rfl rfl 17 (by decide) (hts (.fieldLink RX10 35 "LineCitesModel" "first" "[Z") (List.mem_of_getElem? (i := 37) rfl)) (fun _ h9 => h9) rfl dX10_table_116 ?_
                    refine lv_iload hx hb dX10_table_119 (lv_at hl 6 rfl) ?_
                    refine va_zald hx hb hK hP 4 1 rfl rfl (vp_in_iff.mpr ⟨by omega, by omega⟩) dX10_table_121 ?_
                    refine lv_topi (fun x341 ex341 => ?_)
                    refine lv_if_eq (tgt := 129) hx hb dX10_table_122 (by decide) (fun c342 => ?_) (fun c342 => ?_)
                    · have nc342 : x341.toInt = 0 := pw_eq c342 rfl (by decide)
                      refine lv_iconst (v := 0) hx hb dX10_table_129 (by decide) ?_
                      have hP9 : va_P D vwCl [(h0, .inr (10, [.ref m_now, .ref m_draft, .ref m_past, .int j_acts, .ref m_images, .ref m_kept, .ref m_tape, .int j_taped, .int j_at, .int j_start, .int j_token, .int j_value, .int j_fault, .int j_place, .int j_latest, .ref m_low, .ref m_high, .ref m_first, .ref m_second, .ref m_lines, .ref m_others, .int j_shiftFirst, .int j_shiftMany, .int j_shiftLow, .int j_shiftHigh])), (m_now, .inl (kI, 192, .inl g_now)), (m_low, .inl (kI, 1000, .inl y8)), (m_high, .inl (kI, 1000, .inl y9)), (m_first, .inl (kZ, 1000, .inl y331)), (m_second, .inl (kZ, 1000, .inl y332))] H := hP.sub [0, 1, 2, 3, 4, 5] rfl
                      have hD9 : va_D A [(h0, .inr (10, [.ref m_now, .ref m_draft, .ref m_past, .int j_acts, .ref m_images, .ref m_kept, .ref m_tape, .int j_taped, .int j_at, .int j_start, .int j_token, .int j_value, .int j_fault, .int j_place, .int j_latest, .ref m_low, .ref m_high, .ref m_first, .ref m_second, .ref m_lines, .ref m_others, .int j_shiftFirst, .int j_shiftMany, .int j_shiftLow, .int j_shiftHigh])), (m_now, .inl (kI, 192, .inl g_now)), (m_low, .inl (kI, 1000, .inl y8)), (m_high, .inl (kI, 1000, .inl y9)), (m_first, .inl (kZ, 1000, .inl y331)), (m_second, .inl (kZ, 1000, .inl y332))] := hD.sub [0, 1, 2, 3, 4, 5] (by decide) rfl
                      have hl9 : lv_has ls 7 [(0, .ref h0), (1, .int i_0), (2, .int i_1), (3, .int i_2), (4, .int v208), (5, .int v209), (6, .int r319)] := lv_sub hl [1, 2, 3, 4, 5, 6, 0] rfl
                      refine W.widen (k := 0) (n := 0) (Nat.le_of_ble_eq_true rfl) (Nat.le_of_ble_eq_true rfl) ?_
                      exact hJ338 0 _ _ _ ⟨hP9, hD9, hS, hl9⟩
                    · have nc342 : x341.toInt ≠ 0 := pw_ne c342 rfl (by decide)
                      refine lv_iconst (v := 1) hx hb dX10_table_125 (by decide) ?_
                      refine lv_goto (tgt := 130) hx hb dX10_table_126 (by decide) ?_
                      have hP9 : va_P D vwCl [(h0, .inr (10, [.ref m_now, .ref m_draft, .ref m_past, .int j_acts, .ref m_images, .ref m_kept, .ref m_tape, .int j_taped, .int j_at, .int j_start, .int j_token, .int j_value, .int j_fault, .int j_place, .int j_latest, .ref m_low, .ref m_high, .ref m_first, .ref m_second, .ref m_lines, .ref m_others, .int j_shiftFirst, .int j_shiftMany, .int j_shiftLow, .int j_shiftHigh])), (m_now, .inl (kI, 192, .inl g_now)), (m_low, .inl (kI, 1000, .inl y8)), (m_high, .inl (kI, 1000, .inl y9)), (m_first, .inl (kZ, 1000, .inl y331)), (m_second, .inl (kZ, 1000, .inl y332))] H := hP.sub [0, 1, 2, 3, 4, 5] rfl
                      have hD9 : va_D A [(h0, .inr (10, [.ref m_now, .ref m_draft, .ref m_past, .int j_acts, .ref m_images, .ref m_kept, .ref m_tape, .int j_taped, .int j_at, .int j_start, .int j_token, .int j_value, .int j_fault, .int j_place, .int j_latest, .ref m_low, .ref m_high, .ref m_first, .ref m_second, .ref m_lines, .ref m_others, .int j_shiftFirst, .int j_shiftMany, .int j_shiftLow, .int j_shiftHigh])), (m_now, .inl (kI, 192, .inl g_now)), (m_low, .inl (kI, 1000, .inl y8)), (m_high, .inl (kI, 1000, .inl y9)), (m_first, .inl (kZ, 1000, .inl y331)), (m_second, .inl (kZ, 1000, .inl y332))] := hD.sub [0, 1, 2, 3, 4, 5] (by decide) rfl
                      have hl9 : lv_has ls 7 [(0, .ref h0), (1, .int i_0), (2, .int i_1), (3, .int i_2), (4, .int v208), (5, .int v209), (6, .int r319)] := lv_sub hl [1, 2, 3, 4, 5, 6, 0] rfl
                      refine W.widen (k := 0) (n := 0) (Nat.le_of_ble_eq_true rfl) (Nat.le_of_ble_eq_true rfl) ?_
                      exact hJ338 1 _ _ _ ⟨hP9, hD9, hS, hl9⟩
      · have nc6 : r5.toInt = 0 := pw_eq c6 rfl (by decide)
        refine lv_ldc hx hb hown (hts (.constant RX10 177 (-1000001)) (List.mem_of_getElem? (i := 14) rfl)) dX10_table_28 ?_
        have hP9 := hP.sub (ws' := [(h0, .inr (10, [.ref m_now, .ref m_draft, .ref m_past, .int j_acts, .ref m_images, .ref m_kept, .ref m_tape, .int j_taped, .int j_at, .int j_start, .int j_token, .int j_value, .int j_fault, .int j_place, .int j_latest, .ref m_low, .ref m_high, .ref m_first, .ref m_second, .ref m_lines, .ref m_others, .int j_shiftFirst, .int j_shiftMany, .int j_shiftLow, .int j_shiftHigh])), (m_now, .inl (kI, 192, .inl g_now)), (m_low, .inl (kI, 1000, .inl g_low)), (m_high, .inl (kI, 1000, .inl g_high)), (m_first, .inl (kZ, 1000, .inl g_first)), (m_second, .inl (kZ, 1000, .inl g_second))]) [0, 1, 2, 3, 4, 5] rfl
        have hD9 := hD.sub (ws' := [(h0, .inr (10, [.ref m_now, .ref m_draft, .ref m_past, .int j_acts, .ref m_images, .ref m_kept, .ref m_tape, .int j_taped, .int j_at, .int j_start, .int j_token, .int j_value, .int j_fault, .int j_place, .int j_latest, .ref m_low, .ref m_high, .ref m_first, .ref m_second, .ref m_lines, .ref m_others, .int j_shiftFirst, .int j_shiftMany, .int j_shiftLow, .int j_shiftHigh])), (m_now, .inl (kI, 192, .inl g_now)), (m_low, .inl (kI, 1000, .inl g_low)), (m_high, .inl (kI, 1000, .inl g_high)), (m_first, .inl (kZ, 1000, .inl g_first)), (m_second, .inl (kZ, 1000, .inl g_second))]) [0, 1, 2, 3, 4, 5] (by decide) rfl
        have hK9 := hK.sub (tys' := [(kI, .int), (kZ, .boolean)]) [0, 1] rfl
        refine W.widen (k := 0) (n := 0) (Nat.le_of_ble_eq_true rfl) (Nat.le_of_ble_eq_true rfl) ?_
        exact W.iret (v := (-1000001)) hx hb hr (fun t ht hW => ⟨⟨(-1000001), (), rfl, trivial, g_low, g_high, g_first, g_second, by rw [ht]; exact hP9, va_K.moved hW.alike hK9, hD9, hg_low, hg_high⟩, hS.F ht⟩) hS.2.2 dX10_table_30
def w_X10_share : List Cond := .code yX10_share cX10_share 6 (some .int) :: ([.methodLink RX10 55 yX10_isEdition, .instanceMethod yX10_isEdition, .selects RX10 yX10_isEdition yX10_isEdition, .initialized RX10, .code yX10_isEdition cX10_isEdition 2 (some .boolean), .methodLink RX10 47 yX10_isWork, .instanceMethod yX10_isWork, .selects RX10 yX10_isWork yX10_isWork, .code yX10_isWork cX10_isWork 1 (some .boolean), .fieldLink RX10 7 "LineCitesModel" "now" "[I", .methodLink RX10 51 yX10_in0, .static yX10_in0, .code yX10_in0 cX10_in0 6 (some .boolean), .constant RX10 177 (-1000001), .methodLink RX10 221 yX10_lays, .instanceMethod yX10_lays, .selects RX10 yX10_lays yX10_lays, .code yX10_lays cX10_lays 9 none, .constant RX10 61 (-1000000), .fieldLink RX10 29 "LineCitesModel" "low" "[I", .fieldLink RX10 32 "LineCitesModel" "high" "[I", .methodLink RX10 66 yX10_stretchOf, .static yX10_stretchOf, .code yX10_stretchOf cX10_stretchOf 7 (some .int), .methodLink RX10 62 yX10_of, .static yX10_of, .code yX10_of cX10_of 4 (some .int), .methodLink RX10 73 yX10_hasNumber, .instanceMethod yX10_hasNumber, .selects RX10 yX10_hasNumber yX10_hasNumber, .code yX10_hasNumber cX10_hasNumber 3 (some .boolean), .methodLink RX10 283 yX10_thousandths, .static yX10_thousandths, .code yX10_thousandths cX10_thousandths 2 (some .int), .constantFloat RX10 282 (1148846080)] ++ wsX100)
set_option maxRecDepth 20000 in
theorem g_X10_share_X10_isEdition : GoodIn w_X10_share (wsV RX10 55 RX10 yX10_isEdition w_X10_isEdition) := goodIn_r _ [1, 2, 3, 4, 5, 6, 7, 8, 4, 9, 10, 11, 12, 13, 36, 37, 38, 39, 40, 41, 42, 43, 44, 45, 46, 47, 48, 49, 50, 51, 52, 53, 54, 55, 56, 57, 58, 59, 60] rfl (by decide +kernel)
set_option maxRecDepth 20000 in
theorem g_X10_share_X10_lays : GoodIn w_X10_share (wsV RX10 221 RX10 yX10_lays w_X10_lays) := goodIn_r _ [15, 16, 17, 4, 18, 10, 19, 20, 21, 22, 23, 4, 24, 25, 26, 27, 11, 12, 13, 36, 37, 38, 39, 40, 41, 42, 43, 44, 45, 46, 47, 48, 49, 50, 51, 52, 53, 54, 55, 56, 57, 58, 59, 60] rfl (by decide +kernel)
set_option maxRecDepth 20000 in
theorem g_X10_share_X10_hasNumber : GoodIn w_X10_share (wsV RX10 73 RX10 yX10_hasNumber w_X10_hasNumber) := goodIn_r _ [28, 29, 30, 4, 31, 20, 36, 37, 38, 39, 40, 41, 42, 43, 44, 45, 46, 47, 48, 49, 50, 51, 52, 53, 54, 55, 56, 57, 58, 59, 60] rfl (by decide +kernel)
set_option maxRecDepth 20000 in
theorem g_X10_share_X10_thousandths : GoodIn w_X10_share (wsS RX10 283 yX10_thousandths w_X10_thousandths) := goodIn_r _ [32, 33, 4, 34, 35] rfl (by decide +kernel)
set_option maxHeartbeats 4000000 in
set_option maxRecDepth 100000 in
theorem c_X10_share (l : Launch) (D : va_G) (h0 : Nat) (i_0 : Int32) (i_1 : Int32) (m_now : Nat) (m_draft : Nat) (m_past : Nat) (j_acts : Int32) (m_images : Nat) (m_kept : Nat) (m_tape : Nat) (j_taped : Int32) (j_at : Int32) (j_start : Int32) (j_token : Int32) (j_value : Int32) (j_fault : Int32) (j_place : Int32) (j_latest : Int32) (m_low : Nat) (m_high : Nat) (m_first : Nat) (m_second : Nat) (m_lines : Nat) (m_others : Nat) (j_shiftFirst : Int32) (j_shiftMany : Int32) (j_shiftLow : Int32) (j_shiftHigh : Int32) (kI : ClassId) (g_now : Nat → Int32) (g_low : Nat → Int32) (g_high : Nat → Int32) (sz : Nat) (hg_now : gV g_now) (hg_low : bP g_low) (hg_high : bP g_high) : MetD lw_cs l yX10_share w_X10_share ({ frames := 3, cells := 0, slots := 0, locals := 79 }) (va_Pc [.ref h0, .int i_0, .int i_1] (fun U => U.heap.size = sz ∧ va_P D vwCl [(h0, .inr (10, [.ref m_now, .ref m_draft, .ref m_past, .int j_acts, .ref m_images, .ref m_kept, .ref m_tape, .int j_taped, .int j_at, .int j_start, .int j_token, .int j_value, .int j_fault, .int j_place, .int j_latest, .ref m_low, .ref m_high, .ref m_first, .ref m_second, .ref m_lines, .ref m_others, .int j_shiftFirst, .int j_shiftMany, .int j_shiftLow, .int j_shiftHigh])), (m_now, .inl (kI, 192, .inl g_now)), (m_low, .inl (kI, 1000, .inl g_low)), (m_high, .inl (kI, 1000, .inl g_high))] U.heap ∧ va_K D vwCl [(kI, .int)] U ∧ va_D (fun _ => True) [(h0, .inr (10, [.ref m_now, .ref m_draft, .ref m_past, .int j_acts, .ref m_images, .ref m_kept, .ref m_tape, .int j_taped, .int j_at, .int j_start, .int j_token, .int j_value, .int j_fault, .int j_place, .int j_latest, .ref m_low, .ref m_high, .ref m_first, .ref m_second, .ref m_lines, .ref m_others, .int j_shiftFirst, .int j_shiftMany, .int j_shiftLow, .int j_shiftHigh])), (m_now, .inl (kI, 192, .inl g_now)), (m_low, .inl (kI, 1000, .inl g_low)), (m_high, .inl (kI, 1000, .inl g_high))])) (va_Qi (fun (r : Int32) (_ : Unit) => True) (fun (_ : Unit) t => ∃ (n_low : Nat → Int32) (n_high : Nat → Int32), va_P D vwCl [(h0, .inr (10, [.ref m_now, .ref m_draft, .ref m_past, .int j_acts, .ref m_images, .ref m_kept, .ref m_tape, .int j_taped, .int j_at, .int j_start, .int j_token, .int j_value, .int j_fault, .int j_place, .int j_latest, .ref m_low, .ref m_high, .ref m_first, .ref m_second, .ref m_lines, .ref m_others, .int j_shiftFirst, .int j_shiftMany, .int j_shiftLow, .int j_shiftHigh])), (m_now, .inl (kI, 192, .inl g_now)), (m_low, .inl (kI, 1000, .inl n_low)), (m_high, .inl (kI, 1000, .inl n_high))] t.heap ∧ va_K D vwCl [(kI, .int)] t ∧ va_D (va_A [(h0, .inr (10, [.ref m_now, .ref m_draft, .ref m_past, .int j_acts, .ref m_images, .ref m_kept, .ref m_tape, .int j_taped, .int j_at, .int j_start, .int j_token, .int j_value, .int j_fault, .int j_place, .int j_latest, .ref m_low, .ref m_high, .ref m_first, .ref m_second, .ref m_lines, .ref m_others, .int j_shiftFirst, .int j_shiftMany, .int j_shiftLow, .int j_shiftHigh])), (m_now, .inl (kI, 192, .inl g_now)), (m_low, .inl (kI, 1000, .inl g_low)), (m_high, .inl (kI, 1000, .inl g_high))] sz) [(h0, .inr (10, [.ref m_now, .ref m_draft, .ref m_past, .int j_acts, .ref m_images, .ref m_kept, .ref m_tape, .int j_taped, .int j_at, .int j_start, .int j_token, .int j_value, .int j_fault, .int j_place, .int j_latest, .ref m_low, .ref m_high, .ref m_first, .ref m_second, .ref m_lines, .ref m_others, .int j_shiftFirst, .int j_shiftMany, .int j_shiftLow, .int j_shiftHigh])), (m_now, .inl (kI, 192, .inl g_now)), (m_low, .inl (kI, 1000, .inl n_low)), (m_high, .inl (kI, 1000, .inl n_high))] ∧ bP n_low ∧ bP n_high) (va_A [(h0, .inr (10, [.ref m_now, .ref m_draft, .ref m_past, .int j_acts, .ref m_images, .ref m_kept, .ref m_tape, .int j_taped, .int j_at, .int j_start, .int j_token, .int j_value, .int j_fault, .int j_place, .int j_latest, .ref m_low, .ref m_high, .ref m_first, .ref m_second, .ref m_lines, .ref m_others, .int j_shiftFirst, .int j_shiftMany, .int j_shiftLow, .int j_shiftHigh])), (m_now, .inl (kI, 192, .inl g_now)), (m_low, .inl (kI, 1000, .inl g_low)), (m_high, .inl (kI, 1000, .inl g_high))] sz)) 0 0 (va_A [(h0, .inr (10, [.ref m_now, .ref m_draft, .ref m_past, .int j_acts, .ref m_images, .ref m_kept, .ref m_tape, .int j_taped, .int j_at, .int j_start, .int j_token, .int j_value, .int j_fault, .int j_place, .int j_latest, .ref m_low, .ref m_high, .ref m_first, .ref m_second, .ref m_lines, .ref m_others, .int j_shiftFirst, .int j_shiftMany, .int j_shiftLow, .int j_shiftHigh])), (m_now, .inl (kI, 192, .inl g_now)), (m_low, .inl (kI, 1000, .inl g_low)), (m_high, .inl (kI, 1000, .inl g_high))] sz) := by
  refine MetD.ofW (cs := lw_cs) (cc := cX10_share) (maxL := 6) (ret := (some .int)) (by decide) rfl ?_
  intro p e s m args below meth c s₁ B hml hv hdd
  obtain ⟨d0, hd0, hde⟩ : ∃ d0, s.drawn.sameBut d0 lw_cs ∧ d0 = s.drawn := ⟨_, hdd, rfl⟩
  rw [← hde]
  obtain ⟨rfl, hsz, hP, hK, hD0⟩ := hv
  have hx := B.exec
  have hb := B.bytes
  have hr := B.returns
  have hts0 := atoms_spec (ws := w_X10_share) B.pre
  have hts := dr_words hts0 d0
  have hown : s.vm.findClass RX10 = some m.cls := findClass_of_methodNamed B.named
  have hlocks := B.notSynchronized
  subst hsz
  have hD := hD0.self (sz := s.heap.size)
  generalize hAe : va_A [(h0, .inr (10, [.ref m_now, .ref m_draft, .ref m_past, .int j_acts, .ref m_images, .ref m_kept, .ref m_tape, .int j_taped, .int j_at, .int j_start, .int j_token, .int j_value, .int j_fault, .int j_place, .int j_latest, .ref m_low, .ref m_high, .ref m_first, .ref m_second, .ref m_lines, .ref m_others, .int j_shiftFirst, .int j_shiftMany, .int j_shiftLow, .int j_shiftHigh])), (m_now, .inl (kI, 192, .inl g_now)), (m_low, .inl (kI, 1000, .inl g_low)), (m_high, .inl (kI, 1000, .inl g_high))] s.heap.size = A at hD ⊢
  have hA : ∀ q : Nat, s.heap.size ≤ q → A q := fun q h => by rw [← hAe]; exact Or.inr h
  have hS : va_S A s.heap s.heap [] := va_S.rf
  have hP : va_P D vwCl [(h0, .inr (10, [.ref m_now, .ref m_draft, .ref m_past, .int j_acts, .ref m_images, .ref m_kept, .ref m_tape, .int j_taped, .int j_at, .int j_start, .int j_token, .int j_value, .int j_fault, .int j_place, .int j_latest, .ref m_low, .ref m_high, .ref m_first, .ref m_second, .ref m_lines, .ref m_others, .int j_shiftFirst, .int j_shiftMany, .int j_shiftLow, .int j_shiftHigh])), (m_now, .inl (kI, 192, .inl g_now)), (m_low, .inl (kI, 1000, .inl g_low)), (m_high, .inl (kI, 1000, .inl g_high))] s.heap := hP
  have hl := lv_entry ([.ref h0, .int i_0, .int i_1]) (n := 6) (Nat.le_of_ble_eq_true rfl)
  rw [lg_entry_eq]
  generalize (lg_sl ([.ref h0, .int i_0, .int i_1]) ++ List.replicate (6 - (lg_sl ([.ref h0, .int i_0, .int i_1])).length) Slot.unset).toArray = ls at hl ⊢
  have hl : lv_has ls 6 [(0, .ref h0), (1, .int i_0), (2, .int i_1)] := hl
  obtain ⟨H, hHe⟩ : ∃ H : Heap, H = s.heap := ⟨_, rfl⟩
  rw [← hHe] at hP
  have hS : va_S A s.heap H [] := by rw [hHe]; exact hS
  have hown : (s.setDrawn d0).vm.findClass RX10 = some m.cls := hown
  have hK : va_K D vwCl [(kI, .int)] (s.setDrawn d0) := hK
  refine pw_heap (s := s.setDrawn d0) hHe ?_
  refine lv_aload_n hx hb dX10_share_0 rfl (lv_at hl 0 rfl) ?_
  refine lv_iload_n hx hb dX10_share_1 rfl (lv_at hl 1 rfl) ?_
  have hPc := hP.sub (ws' := [(h0, .inr (10, [.ref m_now, .ref m_draft, .ref m_past, .int j_acts, .ref m_images, .ref m_kept, .ref m_tape, .int j_taped, .int j_at, .int j_start, .int j_token, .int j_value, .int j_fault, .int j_place, .int j_latest, .ref m_low, .ref m_high, .ref m_first, .ref m_second, .ref m_lines, .ref m_others, .int j_shiftFirst, .int j_shiftMany, .int j_shiftLow, .int j_shiftHigh])), (m_now, .inl (kI, 192, .inl g_now))]) [0, 1] rfl
  have hKc := hK.sub (tys' := [(kI, .int)]) [0] rfl
  refine va_calli (va_runV (As := [.int i_0]) (rest := []) ⟨hx, hb, hml, hown, hts⟩ (c_X10_isEdition l D h0 i_0 m_now m_draft m_past j_acts m_images m_kept m_tape j_taped j_at j_start j_token j_value j_fault j_place j_latest m_low m_high m_first m_second m_lines m_others j_shiftFirst j_shiftMany j_shiftLow j_shiftHigh kI g_now hg_now) (cwV 1 hts g_X10_share_X10_isEdition rfl rfl rfl (by decide +kernel) ⟨Nat.le_of_ble_eq_true rfl, Nat.le_of_ble_eq_true rfl⟩) ⟨fun a U g mk q => by obtain ⟨q0, qP, qK⟩ := q; exact ⟨q0, qP, va_K.moved (u := U) (U := U.calling g mk a) (Vm.Alike.refl U.vm) qK⟩, va_recv hKc hPc (ci := 10) (q0 := 0) rfl rfl, fun U hU hW => ⟨rfl, by rw [hU]; exact hPc, va_K.moved hW.alike hKc⟩⟩ rfl rfl hl.1 rfl (lv_room (Nat.le_of_ble_eq_true rfl)) dX10_share_2 ⟨Nat.le_of_ble_eq_true rfl, Nat.le_of_ble_eq_true rfl⟩) hS (fun _ _ h => h.elim) (fun _ h => h.elim) (fun r1 u t H1 locs ht hvm hw hB hz1 hk1 hS => ?_)
  have hP := pw_keep hP (fun q hq => hk1 q hq (fun h => h))
  generalize H1 = H at hP hS ⊢
  refine W.widen (k := 0) (n := 0) (Nat.le_of_ble_eq_true rfl) (Nat.le_of_ble_eq_true rfl) ?_
  have bor1 := hw.1
  have zor1 := pw_boolI bor1
  have hfr1 := hw.2
  refine lv_if_eq (tgt := 16) hx hb dX10_share_5 (by decide) (fun c2 => ?_) (fun c2 => ?_)
  · have nc2 : r1.toInt = 0 := pw_eq c2 rfl (by decide)
    refine lv_ldc hx hb hown (hts (.constant RX10 177 (-1000001)) (List.mem_of_getElem? (i := 14) rfl)) dX10_share_16 ?_
    refine W.endD hd0 ?_
    have hP9 := hP.sub (ws' := [(h0, .inr (10, [.ref m_now, .ref m_draft, .ref m_past, .int j_acts, .ref m_images, .ref m_kept, .ref m_tape, .int j_taped, .int j_at, .int j_start, .int j_token, .int j_value, .int j_fault, .int j_place, .int j_latest, .ref m_low, .ref m_high, .ref m_first, .ref m_second, .ref m_lines, .ref m_others, .int j_shiftFirst, .int j_shiftMany, .int j_shiftLow, .int j_shiftHigh])), (m_now, .inl (kI, 192, .inl g_now)), (m_low, .inl (kI, 1000, .inl g_low)), (m_high, .inl (kI, 1000, .inl g_high))]) [0, 1, 2, 3] rfl
    have hD9 := hD.sub (ws' := [(h0, .inr (10, [.ref m_now, .ref m_draft, .ref m_past, .int j_acts, .ref m_images, .ref m_kept, .ref m_tape, .int j_taped, .int j_at, .int j_start, .int j_token, .int j_value, .int j_fault, .int j_place, .int j_latest, .ref m_low, .ref m_high, .ref m_first, .ref m_second, .ref m_lines, .ref m_others, .int j_shiftFirst, .int j_shiftMany, .int j_shiftLow, .int j_shiftHigh])), (m_now, .inl (kI, 192, .inl g_now)), (m_low, .inl (kI, 1000, .inl g_low)), (m_high, .inl (kI, 1000, .inl g_high))]) [0, 1, 2, 3] (by decide) rfl
    have hK9 := hK.sub (tys' := [(kI, .int)]) [0] rfl
    refine W.widen (k := 0) (n := 0) (Nat.le_of_ble_eq_true rfl) (Nat.le_of_ble_eq_true rfl) ?_
    exact W.iret (v := (-1000001)) hx hb hr (fun t ht hW => ⟨⟨(-1000001), (), rfl, trivial, g_low, g_high, by rw [ht]; exact hP9, va_K.moved hW.alike hK9, hD9, hg_low, hg_high⟩, hS.F ht⟩) hS.2.2 dX10_share_18
  · have nc2 : r1.toInt ≠ 0 := pw_ne c2 rfl (by decide)
    refine lv_aload_n hx hb dX10_share_8 rfl (lv_at hl 0 rfl) ?_
    refine lv_iload_n hx hb dX10_share_9 rfl (lv_at hl 2 rfl) ?_
    have hPc := hP.sub (ws' := [(h0, .inr (10, [.ref m_now, .ref m_draft, .ref m_past, .int j_acts, .ref m_images, .ref m_kept, .ref m_tape, .int j_taped, .int j_at, .int j_start, .int j_token, .int j_value, .int j_fault, .int j_place, .int j_latest, .ref m_low, .ref m_high, .ref m_first, .ref m_second, .ref m_lines, .ref m_others, .int j_shiftFirst, .int j_shiftMany, .int j_shiftLow, .int j_shiftHigh])), (m_now, .inl (kI, 192, .inl g_now))]) [0, 1] rfl
    have hKc := hK.sub (tys' := [(kI, .int)]) [0] rfl
    refine va_calli (va_runV (As := [.int i_1]) (rest := []) ⟨hx, hb, hml, hown, hts⟩ (c_X10_isEdition l D h0 i_1 m_now m_draft m_past j_acts m_images m_kept m_tape j_taped j_at j_start j_token j_value j_fault j_place j_latest m_low m_high m_first m_second m_lines m_others j_shiftFirst j_shiftMany j_shiftLow j_shiftHigh kI g_now hg_now) (cwV 1 hts g_X10_share_X10_isEdition rfl rfl rfl (by decide +kernel) ⟨Nat.le_of_ble_eq_true rfl, Nat.le_of_ble_eq_true rfl⟩) ⟨fun a U g mk q => by obtain ⟨q0, qP, qK⟩ := q; exact ⟨q0, qP, va_K.moved (u := U) (U := U.calling g mk a) (Vm.Alike.refl U.vm) qK⟩, va_recv hKc hPc (ci := 10) (q0 := 0) rfl rfl, fun U hU hW => ⟨rfl, by rw [hU]; exact hPc, va_K.moved hW.alike hKc⟩⟩ rfl rfl hl.1 rfl (lv_room (Nat.le_of_ble_eq_true rfl)) dX10_share_10 ⟨Nat.le_of_ble_eq_true rfl, Nat.le_of_ble_eq_true rfl⟩) hS (fun _ _ h => h.elim) (fun _ h => h.elim) (fun r3 u t H1 locs ht hvm hw hB hz1 hk1 hS => ?_)
    have hP := pw_keep hP (fun q hq => hk1 q hq (fun h => h))
    generalize H1 = H at hP hS ⊢
    refine W.widen (k := 0) (n := 0) (Nat.le_of_ble_eq_true rfl) (Nat.le_of_ble_eq_true rfl) ?_
    have bor3 := hw.1
    have zor3 := pw_boolI bor3
    have hfr3 := hw.2
    refine lv_if_ne (tgt := 19) hx hb dX10_share_13 (by decide) (fun c4 => ?_) (fun c4 => ?_)
    · have nc4 : r3.toInt ≠ 0 := pw_ne c4 rfl (by decide)
      refine lv_aload_n hx hb dX10_share_19 rfl (lv_at hl 0 rfl) ?_
      have hPc := hP.sub (ws' := [(h0, .inr (10, [.ref m_now, .ref m_draft, .ref m_past, .int j_acts, .ref m_images, .ref m_kept, .ref m_tape, .int j_taped, .int j_at, .int j_start, .int j_token, .int j_value, .int j_fault, .int j_place, .int j_latest, .ref m_low, .ref m_high, .ref m_first, .ref m_second, .ref m_lines, .ref m_others, .int j_shiftFirst, .int j_shiftMany, .int j_shiftLow, .int j_shiftHigh])), (m_now, .inl (kI, 192, .inl g_now)), (m_low, .inl (kI, 1000, .inl g_low)), (m_high, .inl (kI, 1000, .inl g_high))]) [0, 1, 2, 3] rfl
      have hKc := hK.sub (tys' := [(kI, .int)]) [0] rfl
      have hDc := hD.sub (ws' := [(h0, .inr (10, [.ref m_now, .ref m_draft, .ref m_past, .int j_acts, .ref m_images, .ref m_kept, .ref m_tape, .int j_taped, .int j_at, .int j_start, .int j_token, .int j_value, .int j_fault, .int j_place, .int j_latest, .ref m_low, .ref m_high, .ref m_first, .ref m_second, .ref m_lines, .ref m_others, .int j_shiftFirst, .int j_shiftMany, .int j_shiftLow, .int j_shiftHigh])), (m_now, .inl (kI, 192, .inl g_now)), (m_low, .inl (kI, 1000, .inl g_low)), (m_high, .inl (kI, 1000, .inl g_high))]) [0, 1, 2, 3] (by decide) rfl
      have hFc := va_free (wc := [(h0, .inr (10, [.ref m_now, .ref m_draft, .ref m_past, .int j_acts, .ref m_images, .ref m_kept, .ref m_tape, .int j_taped, .int j_at, .int j_start, .int j_token, .int j_value, .int j_fault, .int j_place, .int j_latest, .ref m_low, .ref m_high, .ref m_first, .ref m_second, .ref m_lines, .ref m_others, .int j_shiftFirst, .int j_shiftMany, .int j_shiftLow, .int j_shiftHigh])), (m_now, .inl (kI, 192, .inl g_now)), (m_low, .inl (kI, 1000, .inl g_low)), (m_high, .inl (kI, 1000, .inl g_high))]) hD hS hA [0, 1, 2, 3] rfl
      refine va_callv (va_runV (As := []) (rest := []) ⟨hx, hb, hml, hown, hts⟩ (c_X10_lays l D h0 m_now m_draft m_past j_acts m_images m_kept m_tape j_taped j_at j_start j_token j_value j_fault j_place j_latest m_low m_high m_first m_second m_lines m_others j_shiftFirst j_shiftMany j_shiftLow j_shiftHigh kI g_now g_low g_high H.size hg_now hg_low hg_high) (cwV 0 hts g_X10_share_X10_lays rfl rfl rfl (by decide +kernel) ⟨Nat.le_of_ble_eq_true rfl, Nat.le_of_ble_eq_true rfl⟩) ⟨fun a U g mk q => by obtain ⟨q0, q1, qP, qK, qD⟩ := q; exact ⟨q0, q1, qP, va_K.moved (u := U) (U := U.calling g mk a) (Vm.Alike.refl U.vm) qK, qD⟩, va_recv hKc hPc (ci := 10) (q0 := 0) rfl rfl, fun U hU hW => ⟨rfl, by rw [hU], by rw [hU]; exact hPc, va_K.moved hW.alike hKc, hDc.weaken (fun _ _ _ _ => trivial)⟩⟩ rfl rfl hl.1 rfl (lv_room (Nat.le_of_ble_eq_true rfl)) dX10_share_20 ⟨Nat.le_of_ble_eq_true rfl, Nat.le_of_ble_eq_true rfl⟩) hS (fun q _ h => hFc q h) hFc (fun u t H1 locs ht hvm hw hB hz1 hk1 hS => ?_)
      obtain ⟨y6, y7, hP1, hK1, hD1, hy6, hy7⟩ := hB
      rw [ht] at hP1
      have hK1 := va_K.moved hvm.symm hK1
      obtain ⟨hP, hD⟩ := va_join (wr := []) (w1 := [(h0, .inr (10, [.ref m_now, .ref m_draft, .ref m_past, .int j_acts, .ref m_images, .ref m_kept, .ref m_tape, .int j_taped, .int j_at, .int j_start, .int j_token, .int j_value, .int j_fault, .int j_place, .int j_latest, .ref m_low, .ref m_high, .ref m_first, .ref m_second, .ref m_lines, .ref m_others, .int j_shiftFirst, .int j_shiftMany, .int j_shiftLow, .int j_shiftHigh])), (m_now, .inl (kI, 192, .inl g_now)), (m_low, .inl (kI, 1000, .inl y6)), (m_high, .inl (kI, 1000, .inl y7))]) hP hD [0, 1, 2, 3] [] rfl rfl (by decide) (by decide) hk1 hFc hP1 hD1
      have hK := (hK.sub (tys' := [(kI, .int)]) [0] rfl).app hK1
      generalize H1 = H at hP hS ⊢
      have hP : va_P D vwCl [(h0, .inr (10, [.ref m_now, .ref m_draft, .ref m_past, .int j_acts, .ref m_images, .ref m_kept, .ref m_tape, .int j_taped, .int j_at, .int j_start, .int j_token, .int j_value, .int j_fault, .int j_place, .int j_latest, .ref m_low, .ref m_high, .ref m_first, .ref m_second, .ref m_lines, .ref m_others, .int j_shiftFirst, .int j_shiftMany, .int j_shiftLow, .int j_shiftHigh])), (m_now, .inl (kI, 192, .inl g_now)), (m_low, .inl (kI, 1000, .inl y6)), (m_high, .inl (kI, 1000, .inl y7))] H := hP
      have hD : va_D A [(h0, .inr (10, [.ref m_now, .ref m_draft, .ref m_past, .int j_acts, .ref m_images, .ref m_kept, .ref m_tape, .int j_taped, .int j_at, .int j_start, .int j_token, .int j_value, .int j_fault, .int j_place, .int j_latest, .ref m_low, .ref m_high, .ref m_first, .ref m_second, .ref m_lines, .ref m_others, .int j_shiftFirst, .int j_shiftMany, .int j_shiftLow, .int j_shiftHigh])), (m_now, .inl (kI, 192, .inl g_now)), (m_low, .inl (kI, 1000, .inl y6)), (m_high, .inl (kI, 1000, .inl y7))] := hD
      have hK : va_K D vwCl [(kI, .int), (kI, .int)] (s.setDrawn d0) := hK
      refine W.widen (k := 0) (n := 0) (Nat.le_of_ble_eq_true rfl) (Nat.le_of_ble_eq_true rfl) ?_
      refine lv_iconst (v := 0) hx hb dX10_share_23 (by decide) ?_
      refine lv_istore_n (lv' := [(3, .int 0), (0, .ref h0), (1, .int i_0), (2, .int i_1)]) hx hb dX10_share_24 rfl hl (by decide) rfl (fun ls hl => ?_)
      refine lv_iconst (v := 0) hx hb dX10_share_25 (by decide) ?_
      refine lv_istore (lv' := [(4, .int 0), (3, .int 0), (0, .ref h0), (1, .int i_0), (2, .int i_1)]) hx hb dX10_share_26 hl (by decide) rfl (fun ls hl => ?_)
      refine lv_iconst (v := 0) hx hb dX10_share_28 (by decide) ?_
      refine lv_istore (lv' := [(5, .int 0), (4, .int 0), (3, .int 0), (0, .ref h0), (1, .int i_0), (2, .int i_1)]) hx hb dX10_share_29 hl (by decide) rfl (fun ls hl => ?_)
      have hl9 : lv_has ls 6 [(0, .ref h0), (1, .int i_0), (2, .int i_1), (3, .int 0), (4, .int 0), (5, .int 0)] := lv_sub hl [3, 4, 5, 2, 1, 0] rfl
      refine pw_loop (fun (zz : Int32 × Int32 × Int32) H locs ls => match zz with | (v103, v104, v105) => va_P D vwCl [(h0, .inr (10, [.ref m_now, .ref m_draft, .ref m_past, .int j_acts, .ref m_images, .ref m_kept, .ref m_tape, .int j_taped, .int j_at, .int j_start, .int j_token, .int j_value, .int j_fault, .int j_place, .int j_latest, .ref m_low, .ref m_high, .ref m_first, .ref m_second, .ref m_lines, .ref m_others, .int j_shiftFirst, .int j_shiftMany, .int j_shiftLow, .int j_shiftHigh])), (m_now, .inl (kI, 192, .inl g_now)), (m_low, .inl (kI, 1000, .inl y6)), (m_high, .inl (kI, 1000, .inl y7))] H ∧ va_D A [(h0, .inr (10, [.ref m_now, .ref m_draft, .ref m_past, .int j_acts, .ref m_images, .ref m_kept, .ref m_tape, .int j_taped, .int j_at, .int j_start, .int j_token, .int j_value, .int j_fault, .int j_place, .int j_latest, .ref m_low, .ref m_high, .ref m_first, .ref m_second, .ref m_lines, .ref m_others, .int j_shiftFirst, .int j_shiftMany, .int j_shiftLow, .int j_shiftHigh])), (m_now, .inl (kI, 192, .inl g_now)), (m_low, .inl (kI, 1000, .inl y6)), (m_high, .inl (kI, 1000, .inl y7))] ∧ va_S A s.heap H locs ∧ lv_has ls 6 [(0, .ref h0), (1, .int i_0), (2, .int i_1), (3, .int v103), (4, .int v104), (5, .int v105)] ∧ 0 ≤ v105.toInt) (fun (zz : Int32 × Int32 × Int32)  => match zz with | (v103, v104, v105) => (2147483648 - v105.toInt).toNat) 0 0 (fun (zz : Int32 × Int32 × Int32) ls => match zz with | (v103, v104, v105) => F0 m 31 ls []) (fun zz H locs ls ih106 hI => ?_) (0, 0, 0) _ _ _ ⟨hP, hD, hS, hl9, (by decide)⟩
      obtain ⟨v103, v104, v105⟩ := zz
      obtain ⟨hP, hD, hS, hl, bv105⟩ := hI
      have bv105 : 0 ≤ v105.toInt := bv105
      have hP : va_P D vwCl [(h0, .inr (10, [.ref m_now, .ref m_draft, .ref m_past, .int j_acts, .ref m_images, .ref m_kept, .ref m_tape, .int j_taped, .int j_at, .int j_start, .int j_token, .int j_value, .int j_fault, .int j_place, .int j_latest, .ref m_low, .ref m_high, .ref m_first, .ref m_second, .ref m_lines, .ref m_others, .int j_shiftFirst, .int j_shiftMany, .int j_shiftLow, .int j_shiftHigh])), (m_now, .inl (kI, 192, .inl g_now)), (m_low, .inl (kI, 1000, .inl y6)), (m_high, .inl (kI, 1000, .inl y7))] H := hP
      have hD : va_D A [(h0, .inr (10, [.ref m_now, .ref m_draft, .ref m_past, .int j_acts, .ref m_images, .ref m_kept, .ref m_tape, .int j_taped, .int j_at, .int j_start, .int j_token, .int j_value, .int j_fault, .int j_place, .int j_latest, .ref m_low, .ref m_high, .ref m_first, .ref m_second, .ref m_lines, .ref m_others, .int j_shiftFirst, .int j_shiftMany, .int j_shiftLow, .int j_shiftHigh])), (m_now, .inl (kI, 192, .inl g_now)), (m_low, .inl (kI, 1000, .inl y6)), (m_high, .inl (kI, 1000, .inl y7))] := hD
      have hK : va_K D vwCl [(kI, .int), (kI, .int)] (s.setDrawn d0) := hK
      have hl : lv_has ls 6 [(0, .ref h0), (1, .int i_0), (2, .int i_1), (3, .int v103), (4, .int v104), (5, .int v105)] := hl
      refine W.eq (g2 := F0 m 31 ls []) rfl ?_
      refine lv_iload hx hb dX10_share_31 (lv_at hl 5 rfl) ?_
      refine lv_aload_n hx hb dX10_share_33 rfl (lv_at hl 0 rfl) ?_
      refine va_get (D := D) (ci := 10) (v := .ref m_now) (C := RX10) (T := TX10) (N := 25) hx hb hts (fun _ h => List.mem_cons_of_mem _ (List.mem_append_right _ h)) hown hK hP 0 rfl rfl 0 (by decide) (hts (.fieldLink RX10 7 "LineCitesModel" "now" "[I") (List.mem_of_getElem? (i := 10) rfl)) (fun _ h9 => h9) rfl dX10_share_34 ?_
      refine lv_iconst (v := 0) hx hb dX10_share_37 (by decide) ?_
      refine va_iald hx hb hK hP 1 0 rfl rfl (vp_in_iff.mpr (by decide)) dX10_share_38 ?_
      refine lv_topi (fun x107 ex107 => ?_)
      have nx107 : 0 ≤ x107.toInt ∧ x107.toInt ≤ 200 := gV_0 hg_now ex107
      have zx107 := gV_00 ex107
      refine lv_icmp_ge (tgt := 106) hx hb dX10_share_39 (by decide) (fun c130 => ?_) (fun c130 => ?_)
      · have nc130 : x107.toInt ≤ v105.toInt := pw_le c130 rfl rfl
        have mc130v105 := pw_max v105
        have mc130x107 := pw_max x107
        refine lv_iload hx hb dX10_share_106 (lv_at hl 4 rfl) ?_
        refine lv_if_ne (tgt := 116) hx hb dX10_share_108 (by decide) (fun c131 => ?_) (fun c131 => ?_)
        · have nc131 : v104.toInt ≠ 0 := pw_ne c131 rfl (by decide)
          refine lv_iload_n hx hb dX10_share_116 rfl (lv_at hl 3 rfl) ?_
          refine lv_iload hx hb dX10_share_117 (lv_at hl 4 rfl) ?_
          have hPc := hP.sub (ws' := []) [] rfl
          have hKc := hK.sub (tys' := []) [] rfl
          refine va_calliD hd0 (va_runS_D (As := [.int v103, .int v104]) (rest := []) ⟨hx, hb, hml, hown, hts⟩ (c_X10_thousandths l D v103 v104) (cwS 2 hts g_X10_share_X10_thousandths rfl rfl rfl (by decide +kernel) ⟨Nat.le_of_ble_eq_true rfl, Nat.le_of_ble_eq_true rfl⟩) ⟨fun a U g mk q => by obtain ⟨q0, qP, qK⟩ := q; exact ⟨q0, qP, va_K.moved (u := U) (U := U.calling g mk a) (Vm.Alike.refl U.vm) qK⟩, fun U hU hW => ⟨rfl, by rw [hU]; exact hPc, va_K.moved hW.alike hKc⟩⟩ rfl rfl hl.1 rfl (lv_room (Nat.le_of_ble_eq_true rfl)) dX10_share_119 ⟨Nat.le_of_ble_eq_true rfl, Nat.le_of_ble_eq_true rfl⟩) hS (fun _ _ h => h.elim) (fun _ h => h.elim) (fun r132 u t H1 locs ht hvm hw hB hz1 hk1 hS dr133 hdr133 => ?_)
          have hts := dr_words hts0 dr133
          have hown : (s.setDrawn dr133).vm.findClass RX10 = some m.cls := hown
          have hK : va_K D vwCl [(kI, .int), (kI, .int)] (s.setDrawn dr133) := hK
          have hP := pw_keep hP (fun q hq => hk1 q hq (fun h => h))
          generalize H1 = H at hP hS ⊢
          refine W.widen (k := 0) (n := 0) (Nat.le_of_ble_eq_true rfl) (Nat.le_of_ble_eq_true rfl) ?_
          refine W.endD hdr133 ?_
          have hP9 := hP.sub (ws' := [(h0, .inr (10, [.ref m_now, .ref m_draft, .ref m_past, .int j_acts, .ref m_images, .ref m_kept, .ref m_tape, .int j_taped, .int j_at, .int j_start, .int j_token, .int j_value, .int j_fault, .int j_place, .int j_latest, .ref m_low, .ref m_high, .ref m_first, .ref m_second, .ref m_lines, .ref m_others, .int j_shiftFirst, .int j_shiftMany, .int j_shiftLow, .int j_shiftHigh])), (m_now, .inl (kI, 192, .inl g_now)), (m_low, .inl (kI, 1000, .inl y6)), (m_high, .inl (kI, 1000, .inl y7))]) [0, 1, 2, 3] rfl
          have hD9 := hD.sub (ws' := [(h0, .inr (10, [.ref m_now, .ref m_draft, .ref m_past, .int j_acts, .ref m_images, .ref m_kept, .ref m_tape, .int j_taped, .int j_at, .int j_start, .int j_token, .int j_value, .int j_fault, .int j_place, .int j_latest, .ref m_low, .ref m_high, .ref m_first, .ref m_second, .ref m_lines, .ref m_others, .int j_shiftFirst, .int j_shiftMany, .int j_shiftLow, .int j_shiftHigh])), (m_now, .inl (kI, 192, .inl g_now)), (m_low, .inl (kI, 1000, .inl y6)), (m_high, .inl (kI, 1000, .inl y7))]) [0, 1, 2, 3] (by decide) rfl
          have hK9 := hK.sub (tys' := [(kI, .int)]) [0] rfl
          refine W.widen (k := 0) (n := 0) (Nat.le_of_ble_eq_true rfl) (Nat.le_of_ble_eq_true rfl) ?_
          exact W.iret (v := r132) hx hb hr (fun t ht hW => ⟨⟨r132, (), rfl, trivial, y6, y7, by rw [ht]; exact hP9, va_K.moved hW.alike hK9, hD9, hy6, hy7⟩, hS.F ht⟩) hS.2.2 dX10_share_122
        · have nc131 : v104.toInt = 0 := pw_eq c131 rfl (by decide)
          refine lv_ldc hx hb hown (hts (.constant RX10 61 (-1000000)) (List.mem_of_getElem? (i := 19) rfl)) dX10_share_111 ?_
          refine lv_goto (tgt := 122) hx hb dX10_share_113 (by decide) ?_
          refine W.endD hd0 ?_
          have hP9 := hP.sub (ws' := [(h0, .inr (10, [.ref m_now, .ref m_draft, .ref m_past, .int j_acts, .ref m_images, .ref m_kept, .ref m_tape, .int j_taped, .int j_at, .int j_start, .int j_token, .int j_value, .int j_fault, .int j_place, .int j_latest, .ref m_low, .ref m_high, .ref m_first, .ref m_second, .ref m_lines, .ref m_others, .int j_shiftFirst, .int j_shiftMany, .int j_shiftLow, .int j_shiftHigh])), (m_now, .inl (kI, 192, .inl g_now)), (m_low, .inl (kI, 1000, .inl y6)), (m_high, .inl (kI, 1000, .inl y7))]) [0, 1, 2, 3] rfl
          have hD9 := hD.sub (ws' := [(h0, .inr (10, [.ref m_now, .ref m_draft, .ref m_past, .int j_acts, .ref m_images, .ref m_kept, .ref m_tape, .int j_taped, .int j_at, .int j_start, .int j_token, .int j_value, .int j_fault, .int j_place, .int j_latest, .ref m_low, .ref m_high, .ref m_first, .ref m_second, .ref m_lines, .ref m_others, .int j_shiftFirst, .int j_shiftMany, .int j_shiftLow, .int j_shiftHigh])), (m_now, .inl (kI, 192, .inl g_now)), (m_low, .inl (kI, 1000, .inl y6)), (m_high, .inl (kI, 1000, .inl y7))]) [0, 1, 2, 3] (by decide) rfl
          have hK9 := hK.sub (tys' := [(kI, .int)]) [0] rfl
          refine W.widen (k := 0) (n := 0) (Nat.le_of_ble_eq_true rfl) (Nat.le_of_ble_eq_true rfl) ?_
          exact W.iret (v := (-1000000)) hx hb hr (fun t ht hW => ⟨⟨(-1000000), (), rfl, trivial, y6, y7, by rw [ht]; exact hP9, va_K.moved hW.alike hK9, hD9, hy6, hy7⟩, hS.F ht⟩) hS.2.2 dX10_share_122
      · have nc130 : v105.toInt < x107.toInt := pw_nle c130 rfl rfl
        have mc130v105 := pw_max v105
        have mc130x107 := pw_max x107
        refine lv_iload_n hx hb dX10_share_42 rfl (lv_at hl 3 rfl) ?_
        refine lv_aload_n hx hb dX10_share_43 rfl (lv_at hl 0 rfl) ?_
        refine lv_iload_n hx hb dX10_share_44 rfl (lv_at hl 1 rfl) ?_
        refine lv_iload hx hb dX10_share_45 (lv_at hl 5 rfl) ?_
        have hPc := hP.sub (ws' := [(h0, .inr (10, [.ref m_now, .ref m_draft, .ref m_past, .int j_acts, .ref m_images, .ref m_kept, .ref m_tape, .int j_taped, .int j_at, .int j_start, .int j_token, .int j_value, .int j_fault, .int j_place, .int j_latest, .ref m_low, .ref m_high, .ref m_first, .ref m_second, .ref m_lines, .ref m_others, .int j_shiftFirst, .int j_shiftMany, .int j_shiftLow, .int j_shiftHigh])), (m_low, .inl (kI, 1000, .inl y6))]) [0, 2] rfl
        have hKc := hK.sub (tys' := [(kI, .int)]) [0] rfl
        refine va_calli (va_runV (As := [.int i_0, .int v105]) (rest := [.int v103]) ⟨hx, hb, hml, hown, hts⟩ (c_X10_hasNumber l D h0 i_0 v105 m_now m_draft m_past j_acts m_images m_kept m_tape j_taped j_at j_start j_token j_value j_fault j_place j_latest m_low m_high m_first m_second m_lines m_others j_shiftFirst j_shiftMany j_shiftLow j_shiftHigh kI y6 (by first | decide | omega) (by first | decide | omega) (by first | decide | omega) (by first | decide | omega) hy6) (cwV 2 hts g_X10_share_X10_hasNumber rfl rfl rfl (by decide +kernel) ⟨Nat.le_of_ble_eq_true rfl, Nat.le_of_ble_eq_true rfl⟩) ⟨fun a U g mk q => by obtain ⟨q0, qP, qK⟩ := q; exact ⟨q0, qP, va_K.moved (u := U) (U := U.calling g mk a) (Vm.Alike.refl U.vm) qK⟩, va_recv hKc hPc (ci := 10) (q0 := 0) rfl rfl, fun U hU hW => ⟨rfl, by rw [hU]; exact hPc, va_K.moved hW.alike hKc⟩⟩ rfl rfl hl.1 rfl (lv_room (Nat.le_of_ble_eq_true rfl)) dX10_share_47 ⟨Nat.le_of_ble_eq_true rfl, Nat.le_of_ble_eq_true rfl⟩) hS (fun _ _ h => h.elim) (fun _ h => h.elim) (fun r134 u t H1 locs ht hvm hw hB hz1 hk1 hS => ?_)
        have hP := pw_keep hP (fun q hq => hk1 q hq (fun h => h))
        generalize H1 = H at hP hS ⊢
        refine W.widen (k := 0) (n := 0) (Nat.le_of_ble_eq_true rfl) (Nat.le_of_ble_eq_true rfl) ?_
        have bor134 := hw.1
        have zor134 := pw_boolI bor134
        refine pw_join (fun (v138 : Int32) H locs ls => va_P D vwCl [(h0, .inr (10, [.ref m_now, .ref m_draft, .ref m_past, .int j_acts, .ref m_images, .ref m_kept, .ref m_tape, .int j_taped, .int j_at, .int j_start, .int j_token, .int j_value, .int j_fault, .int j_place, .int j_latest, .ref m_low, .ref m_high, .ref m_first, .ref m_second, .ref m_lines, .ref m_others, .int j_shiftFirst, .int j_shiftMany, .int j_shiftLow, .int j_shiftHigh])), (m_now, .inl (kI, 192, .inl g_now)), (m_low, .inl (kI, 1000, .inl y6)), (m_high, .inl (kI, 1000, .inl y7))] H ∧ va_D A [(h0, .inr (10, [.ref m_now, .ref m_draft, .ref m_past, .int j_acts, .ref m_images, .ref m_kept, .ref m_tape, .int j_taped, .int j_at, .int j_start, .int j_token, .int j_value, .int j_fault, .int j_place, .int j_latest, .ref m_low, .ref m_high, .ref m_first, .ref m_second, .ref m_lines, .ref m_others, .int j_shiftFirst, .int j_shiftMany, .int j_shiftLow, .int j_shiftHigh])), (m_now, .inl (kI, 192, .inl g_now)), (m_low, .inl (kI, 1000, .inl y6)), (m_high, .inl (kI, 1000, .inl y7))] ∧ va_S A s.heap H locs ∧ lv_has ls 6 [(0, .ref h0), (1, .int i_0), (2, .int i_1), (3, .int v103), (4, .int v104), (5, .int v105)]) 0 0 (fun (v138 : Int32) ls => F0 m 68 ls [.int v138, .int v103]) (fun v138 H locs ls hI => ?_) (fun hJ139 => ?_)
        ·
          obtain ⟨hP, hD, hS, hl⟩ := hI
          have hP : va_P D vwCl [(h0, .inr (10, [.ref m_now, .ref m_draft, .ref m_past, .int j_acts, .ref m_images, .ref m_kept, .ref m_tape, .int j_taped, .int j_at, .int j_start, .int j_token, .int j_value, .int j_fault, .int j_place, .int j_latest, .ref m_low, .ref m_high, .ref m_first, .ref m_second, .ref m_lines, .ref m_others, .int j_shiftFirst, .int j_shiftMany, .int j_shiftLow, .int j_shiftHigh])), (m_now, .inl (kI, 192, .inl g_now)), (m_low, .inl (kI, 1000, .inl y6)), (m_high, .inl (kI, 1000, .inl y7))] H := hP
          have hD : va_D A [(h0, .inr (10, [.ref m_now, .ref m_draft, .ref m_past, .int j_acts, .ref m_images, .ref m_kept, .ref m_tape, .int j_taped, .int j_at, .int j_start, .int j_token, .int j_value, .int j_fault, .int j_place, .int j_latest, .ref m_low, .ref m_high, .ref m_first, .ref m_second, .ref m_lines, .ref m_others, .int j_shiftFirst, .int j_shiftMany, .int j_shiftLow, .int j_shiftHigh])), (m_now, .inl (kI, 192, .inl g_now)), (m_low, .inl (kI, 1000, .inl y6)), (m_high, .inl (kI, 1000, .inl y7))] := hD
          have hK : va_K D vwCl [(kI, .int), (kI, .int)] (s.setDrawn d0) := hK
          have hl : lv_has ls 6 [(0, .ref h0), (1, .int i_0), (2, .int i_1), (3, .int v103), (4, .int v104), (5, .int v105)] := hl
          refine W.eq (g2 := F0 m 68 ls [.int v138, .int v103]) rfl ?_
          refine lv_iadd hx hb dX10_share_68 ?_
          refine lv_topi (fun x140 ex140 => ?_)
          refine lv_istore_n (lv' := [(3, .int x140), (0, .ref h0), (1, .int i_0), (2, .int i_1), (4, .int v104), (5, .int v105)]) hx hb dX10_share_69 rfl hl (by decide) rfl (fun ls hl => ?_)
          refine lv_iload hx hb dX10_share_70 (lv_at hl 4 rfl) ?_
          refine lv_aload_n hx hb dX10_share_72 rfl (lv_at hl 1 rfl) ?_
          refine lv_iload_n hx hb dX10_share_73 rfl (lv_at hl 2 rfl) ?_
          refine lv_iload hx hb dX10_share_74 (lv_at hl 5 rfl) ?_
          have hPc := hP.sub (ws' := [(h0, .inr (10, [.ref m_now, .ref m_draft, .ref m_past, .int j_acts, .ref m_images, .ref m_kept, .ref m_tape, .int j_taped, .int j_at, .int j_start, .int j_token, .int j_value, .int j_fault, .int j_place, .int j_latest, .ref m_low, .ref m_high, .ref m_first, .ref m_second, .ref m_lines, .ref m_others, .int j_shiftFirst, .int j_shiftMany, .int j_shiftLow, .int j_shiftHigh])), (m_low, .inl (kI, 1000, .inl y6))]) [0, 2] rfl
          have hKc := hK.sub (tys' := [(kI, .int)]) [0] rfl
          refine va_calli (va_runV (As := [.int i_0, .int v105]) (rest := [.int v104]) ⟨hx, hb, hml, hown, hts⟩ (c_X10_hasNumber l D h0 i_0 v105 m_now m_draft m_past j_acts m_images m_kept m_tape j_taped j_at j_start j_token j_value j_fault j_place j_latest m_low m_high m_first m_second m_lines m_others j_shiftFirst j_shiftMany j_shiftLow j_shiftHigh kI y6 (by first | decide | omega) (by first | decide | omega) (by first | decide | omega) (by first | decide | omega) hy6) (cwV 2 hts g_X10_share_X10_hasNumber rfl rfl rfl (by decide +kernel) ⟨Nat.le_of_ble_eq_true rfl, Nat.le_of_ble_eq_true rfl⟩) ⟨fun a U g mk q => by obtain ⟨q0, qP, qK⟩ := q; exact ⟨q0, qP, va_K.moved (u := U) (U := U.calling g mk a) (Vm.Alike.refl U.vm) qK⟩, va_recv hKc hPc (ci := 10) (q0 := 0) rfl rfl, fun U hU hW => ⟨rfl, by rw [hU]; exact hPc, va_K.moved hW.alike hKc⟩⟩ rfl rfl hl.1 rfl (lv_room (Nat.le_of_ble_eq_true rfl)) dX10_share_76 ⟨Nat.le_of_ble_eq_true rfl, Nat.le_of_ble_eq_true rfl⟩) hS (fun _ _ h => h.elim) (fun _ h => h.elim) (fun r141 u t H1 locs ht hvm hw hB hz1 hk1 hS => ?_)
          have hP := pw_keep hP (fun q hq => hk1 q hq (fun h => h))
          generalize H1 = H at hP hS ⊢
          refine W.widen (k := 0) (n := 0) (Nat.le_of_ble_eq_true rfl) (Nat.le_of_ble_eq_true rfl) ?_
          have bor141 := hw.1
          have zor141 := pw_boolI bor141
          refine pw_join (fun (v145 : Int32) H locs ls => va_P D vwCl [(h0, .inr (10, [.ref m_now, .ref m_draft, .ref m_past, .int j_acts, .ref m_images, .ref m_kept, .ref m_tape, .int j_taped, .int j_at, .int j_start, .int j_token, .int j_value, .int j_fault, .int j_place, .int j_latest, .ref m_low, .ref m_high, .ref m_first, .ref m_second, .ref m_lines, .ref m_others, .int j_shiftFirst, .int j_shiftMany, .int j_shiftLow, .int j_shiftHigh])), (m_now, .inl (kI, 192, .inl g_now)), (m_low, .inl (kI, 1000, .inl y6)), (m_high, .inl (kI, 1000, .inl y7))] H ∧ va_D A [(h0, .inr (10, [.ref m_now, .ref m_draft, .ref m_past, .int j_acts, .ref m_images, .ref m_kept, .ref m_tape, .int j_taped, .int j_at, .int j_start, .int j_token, .int j_value, .int j_fault, .int j_place, .int j_latest, .ref m_low, .ref m_high, .ref m_first, .ref m_second, .ref m_lines, .ref m_others, .int j_shiftFirst, .int j_shiftMany, .int j_shiftLow, .int j_shiftHigh])), (m_now, .inl (kI, 192, .inl g_now)), (m_low, .inl (kI, 1000, .inl y6)), (m_high, .inl (kI, 1000, .inl y7))] ∧ va_S A s.heap H locs ∧ lv_has ls 6 [(0, .ref h0), (1, .int i_0), (2, .int i_1), (3, .int x140), (4, .int v104), (5, .int v105)]) 0 0 (fun (v145 : Int32) ls => F0 m 97 ls [.int v145, .int v104]) (fun v145 H locs ls hI => ?_) (fun hJ146 => ?_)
          ·
            obtain ⟨hP, hD, hS, hl⟩ := hI
            have hP : va_P D vwCl [(h0, .inr (10, [.ref m_now, .ref m_draft, .ref m_past, .int j_acts, .ref m_images, .ref m_kept, .ref m_tape, .int j_taped, .int j_at, .int j_start, .int j_token, .int j_value, .int j_fault, .int j_place, .int j_latest, .ref m_low, .ref m_high, .ref m_first, .ref m_second, .ref m_lines, .ref m_others, .int j_shiftFirst, .int j_shiftMany, .int j_shiftLow, .int j_shiftHigh])), (m_now, .inl (kI, 192, .inl g_now)), (m_low, .inl (kI, 1000, .inl y6)), (m_high, .inl (kI, 1000, .inl y7))] H := hP
            have hD : va_D A [(h0, .inr (10, [.ref m_now, .ref m_draft, .ref m_past, .int j_acts, .ref m_images, .ref m_kept, .ref m_tape, .int j_taped, .int j_at, .int j_start, .int j_token, .int j_value, .int j_fault, .int j_place, .int j_latest, .ref m_low, .ref m_high, .ref m_first, .ref m_second, .ref m_lines, .ref m_others, .int j_shiftFirst, .int j_shiftMany, .int j_shiftLow, .int j_shiftHigh])), (m_now, .inl (kI, 192, .inl g_now)), (m_low, .inl (kI, 1000, .inl y6)), (m_high, .inl (kI, 1000, .inl y7))] := hD
            have hK : va_K D vwCl [(kI, .int), (kI, .int)] (s.setDrawn d0) := hK
            have hl : lv_has ls 6 [(0, .ref h0), (1, .int i_0), (2, .int i_1), (3, .int x140), (4, .int v104), (5, .int v105)] := hl
            refine W.eq (g2 := F0 m 97 ls [.int v145, .int v104]) rfl ?_
            refine lv_iadd hx hb dX10_share_97 ?_
            refine lv_topi (fun x147 ex147 => ?_)
            refine lv_istore (lv' := [(4, .int x147), (0, .ref h0), (1, .int i_0), (2, .int i_1), (3, .int x140), (5, .int v105)]) hx hb dX10_share_98 hl (by decide) rfl (fun ls hl => ?_)
            obtain ⟨x148, ex148⟩ : ∃ y : Int32, y = v105 + 1 := ⟨_, rfl⟩
            have tx148 : x148.toInt = v105.toInt + 1 := pw_addX ex148 rfl (by decide) (by omega) (by omega)
            refine lv_iinc (v := x148) (lv' := [(5, .int x148), (4, .int x147), (0, .ref h0), (1, .int i_0), (2, .int i_1), (3, .int x140)]) hx hb dX10_share_100 hl (k := 5) rfl (by rw [ex148]; rfl) (by decide) rfl (fun ls hl => ?_)
            refine lv_goto (tgt := 31) hx hb dX10_share_103 (by decide) ?_
            have hP9 : va_P D vwCl [(h0, .inr (10, [.ref m_now, .ref m_draft, .ref m_past, .int j_acts, .ref m_images, .ref m_kept, .ref m_tape, .int j_taped, .int j_at, .int j_start, .int j_token, .int j_value, .int j_fault, .int j_place, .int j_latest, .ref m_low, .ref m_high, .ref m_first, .ref m_second, .ref m_lines, .ref m_others, .int j_shiftFirst, .int j_shiftMany, .int j_shiftLow, .int j_shiftHigh])), (m_now, .inl (kI, 192, .inl g_now)), (m_low, .inl (kI, 1000, .inl y6)), (m_high, .inl (kI, 1000, .inl y7))] H := hP.sub [0, 1, 2, 3] rfl
            have hD9 : va_D A [(h0, .inr (10, [.ref m_now, .ref m_draft, .ref m_past, .int j_acts, .ref m_images, .ref m_kept, .ref m_tape, .int j_taped, .int j_at, .int j_start, .int j_token, .int j_value, .int j_fault, .int j_place, .int j_latest, .ref m_low, .ref m_high, .ref m_first, .ref m_second, .ref m_lines, .ref m_others, .int j_shiftFirst, .int j_shiftMany, .int j_shiftLow, .int j_shiftHigh])), (m_now, .inl (kI, 192, .inl g_now)), (m_low, .inl (kI, 1000, .inl y6)), (m_high, .inl (kI, 1000, .inl y7))] := hD.sub [0, 1, 2, 3] (by decide) rfl
            have hl9 : lv_has ls 6 [(0, .ref h0), (1, .int i_0), (2, .int i_1), (3, .int x140), (4, .int x147), (5, .int x148)] := lv_sub hl [2, 3, 4, 5, 1, 0] rfl
            refine W.widen (k := 0) (n := 0) (Nat.le_of_ble_eq_true rfl) (Nat.le_of_ble_eq_true rfl) ?_
            exact ih106 (x140, x147, x148) _ _ _ (pw_up ex148 (by omega)) ⟨hP9, hD9, hS, hl9, (pw_upge ex148 (by omega) (by omega))⟩
          ·
            refine lv_if_ne (tgt := 92) hx hb dX10_share_79 (by decide) (fun c149 => ?_) (fun c149 => ?_)
            · have nc149 : r141.toInt ≠ 0 := pw_ne c149 rfl (by decide)
              refine lv_iconst (v := 1) hx hb dX10_share_92 (by decide) ?_
              refine lv_goto (tgt := 97) hx hb dX10_share_93 (by decide) ?_
              have hP9 : va_P D vwCl [(h0, .inr (10, [.ref m_now, .ref m_draft, .ref m_past, .int j_acts, .ref m_images, .ref m_kept, .ref m_tape, .int j_taped, .int j_at, .int j_start, .int j_token, .int j_value, .int j_fault, .int j_place, .int j_latest, .ref m_low, .ref m_high, .ref m_first, .ref m_second, .ref m_lines, .ref m_others, .int j_shiftFirst, .int j_shiftMany, .int j_shiftLow, .int j_shiftHigh])), (m_now, .inl (kI, 192, .inl g_now)), (m_low, .inl (kI, 1000, .inl y6)), (m_high, .inl (kI, 1000, .inl y7))] H := hP.sub [0, 1, 2, 3] rfl
              have hD9 : va_D A [(h0, .inr (10, [.ref m_now, .ref m_draft, .ref m_past, .int j_acts, .ref m_images, .ref m_kept, .ref m_tape, .int j_taped, .int j_at, .int j_start, .int j_token, .int j_value, .int j_fault, .int j_place, .int j_latest, .ref m_low, .ref m_high, .ref m_first, .ref m_second, .ref m_lines, .ref m_others, .int j_shiftFirst, .int j_shiftMany, .int j_shiftLow, .int j_shiftHigh])), (m_now, .inl (kI, 192, .inl g_now)), (m_low, .inl (kI, 1000, .inl y6)), (m_high, .inl (kI, 1000, .inl y7))] := hD.sub [0, 1, 2, 3] (by decide) rfl
              have hl9 : lv_has ls 6 [(0, .ref h0), (1, .int i_0), (2, .int i_1), (3, .int x140), (4, .int v104), (5, .int v105)] := lv_sub hl [1, 2, 3, 0, 4, 5] rfl
              refine W.widen (k := 0) (n := 0) (Nat.le_of_ble_eq_true rfl) (Nat.le_of_ble_eq_true rfl) ?_
              exact hJ146 1 _ _ _ ⟨hP9, hD9, hS, hl9⟩
            · have nc149 : r141.toInt = 0 := pw_eq c149 rfl (by decide)
              refine lv_aload_n hx hb dX10_share_82 rfl (lv_at hl 1 rfl) ?_
              refine lv_iload_n hx hb dX10_share_83 rfl (lv_at hl 3 rfl) ?_
              refine lv_iload hx hb dX10_share_84 (lv_at hl 5 rfl) ?_
              have hPc := hP.sub (ws' := [(h0, .inr (10, [.ref m_now, .ref m_draft, .ref m_past, .int j_acts, .ref m_images, .ref m_kept, .ref m_tape, .int j_taped, .int j_at, .int j_start, .int j_token, .int j_value, .int j_fault, .int j_place, .int j_latest, .ref m_low, .ref m_high, .ref m_first, .ref m_second, .ref m_lines, .ref m_others, .int j_shiftFirst, .int j_shiftMany, .int j_shiftLow, .int j_shiftHigh])), (m_low, .inl (kI, 1000, .inl y6))]) [0, 2] rfl
              have hKc := hK.sub (tys' := [(kI, .int)]) [0] rfl
              refine va_calli (va_runV (As := [.int i_1, .int v105]) (rest := [.int v104]) ⟨hx, hb, hml, hown, hts⟩ (c_X10_hasNumber l D h0 i_1 v105 m_now m_draft m_past j_acts m_images m_kept m_tape j_taped j_at j_start j_token j_value j_fault j_place j_latest m_low m_high m_first m_second m_lines m_others j_shiftFirst j_shiftMany j_shiftLow j_shiftHigh kI y6 (by first | decide | omega) (by first | decide | omega) (by first | decide | omega) (by first | decide | omega) hy6) (cwV 2 hts g_X10_share_X10_hasNumber rfl rfl rfl (by decide +kernel) ⟨Nat.le_of_ble_eq_true rfl, Nat.le_of_ble_eq_true rfl⟩) ⟨fun a U g mk q => by obtain ⟨q0, qP, qK⟩ := q; exact ⟨q0, qP, va_K.moved (u := U) (U := U.calling g mk a) (Vm.Alike.refl U.vm) qK⟩, va_recv hKc hPc (ci := 10) (q0 := 0) rfl rfl, fun U hU hW => ⟨rfl, by rw [hU]; exact hPc, va_K.moved hW.alike hKc⟩⟩ rfl rfl hl.1 rfl (lv_room (Nat.le_of_ble_eq_true rfl)) dX10_share_86 ⟨Nat.le_of_ble_eq_true rfl, Nat.le_of_ble_eq_true rfl⟩) hS (fun _ _ h => h.elim) (fun _ h => h.elim) (fun r150 u t H1 locs ht hvm hw hB hz1 hk1 hS => ?_)
              have hP := pw_keep hP (fun q hq => hk1 q hq (fun h => h))
              generalize H1 = H at hP hS ⊢
              refine W.widen (k := 0) (n := 0) (Nat.le_of_ble_eq_true rfl) (Nat.le_of_ble_eq_true rfl) ?_
              have bor150 := hw.1
              have zor150 := pw_boolI bor150
              refine lv_if_eq (tgt := 96) hx hb dX10_share_89 (by decide) (fun c151 => ?_) (fun c151 => ?_)
              · have nc151 : r150.toInt = 0 := pw_eq c151 rfl (by decide)
                refine lv_iconst (v := 0) hx hb dX10_share_96 (by decide) ?_
                have hP9 : va_P D vwCl [(h0, .inr (10, [.ref m_now, .ref m_draft, .ref m_past, .int j_acts, .ref m_images, .ref m_kept, .ref m_tape, .int j_taped, .int j_at, .int j_start, .int j_token, .int j_value, .int j_fault, .int j_place, .int j_latest, .ref m_low, .ref m_high, .ref m_first, .ref m_second, .ref m_lines, .ref m_others, .int j_shiftFirst, .int j_shiftMany, .int j_shiftLow, .int j_shiftHigh])), (m_now, .inl (kI, 192, .inl g_now)), (m_low, .inl (kI, 1000, .inl y6)), (m_high, .inl (kI, 1000, .inl y7))] H := hP.sub [0, 1, 2, 3] rfl
                have hD9 : va_D A [(h0, .inr (10, [.ref m_now, .ref m_draft, .ref m_past, .int j_acts, .ref m_images, .ref m_kept, .ref m_tape, .int j_taped, .int j_at, .int j_start, .int j_token, .int j_value, .int j_fault, .int j_place, .int j_latest, .ref m_low, .ref m_high, .ref m_first, .ref m_second, .ref m_lines, .ref m_others, .int j_shiftFirst, .int j_shiftMany, .int j_shiftLow, .int j_shiftHigh])), (m_now, .inl (kI, 192, .inl g_now)), (m_low, .inl (kI, 1000, .inl y6)), (m_high, .inl (kI, 1000, .inl y7))] := hD.sub [0, 1, 2, 3] (by decide) rfl
                have hl9 : lv_has ls 6 [(0, .ref h0), (1, .int i_0), (2, .int i_1), (3, .int x140), (4, .int v104), (5, .int v105)] := lv_sub hl [1, 2, 3, 0, 4, 5] rfl
                refine W.widen (k := 0) (n := 0) (Nat.le_of_ble_eq_true rfl) (Nat.le_of_ble_eq_true rfl) ?_
                exact hJ146 0 _ _ _ ⟨hP9, hD9, hS, hl9⟩
              · have nc151 : r150.toInt ≠ 0 := pw_ne c151 rfl (by decide)
                refine lv_iconst (v := 1) hx hb dX10_share_92 (by decide) ?_
                refine lv_goto (tgt := 97) hx hb dX10_share_93 (by decide) ?_
                have hP9 : va_P D vwCl [(h0, .inr (10, [.ref m_now, .ref m_draft, .ref m_past, .int j_acts, .ref m_images, .ref m_kept, .ref m_tape, .int j_taped, .int j_at, .int j_start, .int j_token, .int j_value, .int j_fault, .int j_place, .int j_latest, .ref m_low, .ref m_high, .ref m_first, .ref m_second, .ref m_lines, .ref m_others, .int j_shiftFirst, .int j_shiftMany, .int j_shiftLow, .int j_shiftHigh])), (m_now, .inl (kI, 192, .inl g_now)), (m_low, .inl (kI, 1000, .inl y6)), (m_high, .inl (kI, 1000, .inl y7))] H := hP.sub [0, 1, 2, 3] rfl
                have hD9 : va_D A [(h0, .inr (10, [.ref m_now, .ref m_draft, .ref m_past, .int j_acts, .ref m_images, .ref m_kept, .ref m_tape, .int j_taped, .int j_at, .int j_start, .int j_token, .int j_value, .int j_fault, .int j_place, .int j_latest, .ref m_low, .ref m_high, .ref m_first, .ref m_second, .ref m_lines, .ref m_others, .int j_shiftFirst, .int j_shiftMany, .int j_shiftLow, .int j_shiftHigh])), (m_now, .inl (kI, 192, .inl g_now)), (m_low, .inl (kI, 1000, .inl y6)), (m_high, .inl (kI, 1000, .inl y7))] := hD.sub [0, 1, 2, 3] (by decide) rfl
                have hl9 : lv_has ls 6 [(0, .ref h0), (1, .int i_0), (2, .int i_1), (3, .int x140), (4, .int v104), (5, .int v105)] := lv_sub hl [1, 2, 3, 0, 4, 5] rfl
                refine W.widen (k := 0) (n := 0) (Nat.le_of_ble_eq_true rfl) (Nat.le_of_ble_eq_true rfl) ?_
                exact hJ146 1 _ _ _ ⟨hP9, hD9, hS, hl9⟩
        ·
          refine lv_if_eq (tgt := 67) hx hb dX10_share_50 (by decide) (fun c152 => ?_) (fun c152 => ?_)
          · have nc152 : r134.toInt = 0 := pw_eq c152 rfl (by decide)
            refine lv_iconst (v := 0) hx hb dX10_share_67 (by decide) ?_
            have hP9 : va_P D vwCl [(h0, .inr (10, [.ref m_now, .ref m_draft, .ref m_past, .int j_acts, .ref m_images, .ref m_kept, .ref m_tape, .int j_taped, .int j_at, .int j_start, .int j_token, .int j_value, .int j_fault, .int j_place, .int j_latest, .ref m_low, .ref m_high, .ref m_first, .ref m_second, .ref m_lines, .ref m_others, .int j_shiftFirst, .int j_shiftMany, .int j_shiftLow, .int j_shiftHigh])), (m_now, .inl (kI, 192, .inl g_now)), (m_low, .inl (kI, 1000, .inl y6)), (m_high, .inl (kI, 1000, .inl y7))] H := hP.sub [0, 1, 2, 3] rfl
            have hD9 : va_D A [(h0, .inr (10, [.ref m_now, .ref m_draft, .ref m_past, .int j_acts, .ref m_images, .ref m_kept, .ref m_tape, .int j_taped, .int j_at, .int j_start, .int j_token, .int j_value, .int j_fault, .int j_place, .int j_latest, .ref m_low, .ref m_high, .ref m_first, .ref m_second, .ref m_lines, .ref m_others, .int j_shiftFirst, .int j_shiftMany, .int j_shiftLow, .int j_shiftHigh])), (m_now, .inl (kI, 192, .inl g_now)), (m_low, .inl (kI, 1000, .inl y6)), (m_high, .inl (kI, 1000, .inl y7))] := hD.sub [0, 1, 2, 3] (by decide) rfl
            have hl9 : lv_has ls 6 [(0, .ref h0), (1, .int i_0), (2, .int i_1), (3, .int v103), (4, .int v104), (5, .int v105)] := lv_sub hl [0, 1, 2, 3, 4, 5] rfl
            refine W.widen (k := 0) (n := 0) (Nat.le_of_ble_eq_true rfl) (Nat.le_of_ble_eq_true rfl) ?_
            exact hJ139 0 _ _ _ ⟨hP9, hD9, hS, hl9⟩
          · have nc152 : r134.toInt ≠ 0 := pw_ne c152 rfl (by decide)
            refine lv_aload_n hx hb dX10_share_53 rfl (lv_at hl 0 rfl) ?_
            refine lv_iload_n hx hb dX10_share_54 rfl (lv_at hl 2 rfl) ?_
            refine lv_iload hx hb dX10_share_55 (lv_at hl 5 rfl) ?_
            have hPc := hP.sub (ws' := [(h0, .inr (10, [.ref m_now, .ref m_draft, .ref m_past, .int j_acts, .ref m_images, .ref m_kept, .ref m_tape, .int j_taped, .int j_at, .int j_start, .int j_token, .int j_value, .int j_fault, .int j_place, .int j_latest, .ref m_low, .ref m_high, .ref m_first, .ref m_second, .ref m_lines, .ref m_others, .int j_shiftFirst, .int j_shiftMany, .int j_shiftLow, .int j_shiftHigh])), (m_low, .inl (kI, 1000, .inl y6))]) [0, 2] rfl
            have hKc := hK.sub (tys' := [(kI, .int)]) [0] rfl
            refine va_calli (va_runV (As := [.int i_1, .int v105]) (rest := [.int v103]) ⟨hx, hb, hml, hown, hts⟩ (c_X10_hasNumber l D h0 i_1 v105 m_now m_draft m_past j_acts m_images m_kept m_tape j_taped j_at j_start j_token j_value j_fault j_place j_latest m_low m_high m_first m_second m_lines m_others j_shiftFirst j_shiftMany j_shiftLow j_shiftHigh kI y6 (by first | decide | omega) (by first | decide | omega) (by first | decide | omega) (by first | decide | omega) hy6) (cwV 2 hts g_X10_share_X10_hasNumber rfl rfl rfl (by decide +kernel) ⟨Nat.le_of_ble_eq_true rfl, Nat.le_of_ble_eq_true rfl⟩) ⟨fun a U g mk q => by obtain ⟨q0, qP, qK⟩ := q; exact ⟨q0, qP, va_K.moved (u := U) (U := U.calling g mk a) (Vm.Alike.refl U.vm) qK⟩, va_recv hKc hPc (ci := 10) (q0 := 0) rfl rfl, fun U hU hW => ⟨rfl, by rw [hU]; exact hPc, va_K.moved hW.alike hKc⟩⟩ rfl rfl hl.1 rfl (lv_room (Nat.le_of_ble_eq_true rfl)) dX10_share_57 ⟨Nat.le_of_ble_eq_true rfl, Nat.le_of_ble_eq_true rfl⟩) hS (fun _ _ h => h.elim) (fun _ h => h.elim) (fun r153 u t H1 locs ht hvm hw hB hz1 hk1 hS => ?_)
            have hP := pw_keep hP (fun q hq => hk1 q hq (fun h => h))
            generalize H1 = H at hP hS ⊢
            refine W.widen (k := 0) (n := 0) (Nat.le_of_ble_eq_true rfl) (Nat.le_of_ble_eq_true rfl) ?_
            have bor153 := hw.1
            have zor153 := pw_boolI bor153
            refine lv_if_eq (tgt := 67) hx hb dX10_share_60 (by decide) (fun c154 => ?_) (fun c154 => ?_)
            · have nc154 : r153.toInt = 0 := pw_eq c154 rfl (by decide)
              refine lv_iconst (v := 0) hx hb dX10_share_67 (by decide) ?_
              have hP9 : va_P D vwCl [(h0, .inr (10, [.ref m_now, .ref m_draft, .ref m_past, .int j_acts, .ref m_images, .ref m_kept, .ref m_tape, .int j_taped, .int j_at, .int j_start, .int j_token, .int j_value, .int j_fault, .int j_place, .int j_latest, .ref m_low, .ref m_high, .ref m_first, .ref m_second, .ref m_lines, .ref m_others, .int j_shiftFirst, .int j_shiftMany, .int j_shiftLow, .int j_shiftHigh])), (m_now, .inl (kI, 192, .inl g_now)), (m_low, .inl (kI, 1000, .inl y6)), (m_high, .inl (kI, 1000, .inl y7))] H := hP.sub [0, 1, 2, 3] rfl
              have hD9 : va_D A [(h0, .inr (10, [.ref m_now, .ref m_draft, .ref m_past, .int j_acts, .ref m_images, .ref m_kept, .ref m_tape, .int j_taped, .int j_at, .int j_start, .int j_token, .int j_value, .int j_fault, .int j_place, .int j_latest, .ref m_low, .ref m_high, .ref m_first, .ref m_second, .ref m_lines, .ref m_others, .int j_shiftFirst, .int j_shiftMany, .int j_shiftLow, .int j_shiftHigh])), (m_now, .inl (kI, 192, .inl g_now)), (m_low, .inl (kI, 1000, .inl y6)), (m_high, .inl (kI, 1000, .inl y7))] := hD.sub [0, 1, 2, 3] (by decide) rfl
              have hl9 : lv_has ls 6 [(0, .ref h0), (1, .int i_0), (2, .int i_1), (3, .int v103), (4, .int v104), (5, .int v105)] := lv_sub hl [0, 1, 2, 3, 4, 5] rfl
              refine W.widen (k := 0) (n := 0) (Nat.le_of_ble_eq_true rfl) (Nat.le_of_ble_eq_true rfl) ?_
              exact hJ139 0 _ _ _ ⟨hP9, hD9, hS, hl9⟩
            · have nc154 : r153.toInt ≠ 0 := pw_ne c154 rfl (by decide)
              refine lv_iconst (v := 1) hx hb dX10_share_63 (by decide) ?_
              refine lv_goto (tgt := 68) hx hb dX10_share_64 (by decide) ?_
              have hP9 : va_P D vwCl [(h0, .inr (10, [.ref m_now, .ref m_draft, .ref m_past, .int j_acts, .ref m_images, .ref m_kept, .ref m_tape, .int j_taped, .int j_at, .int j_start, .int j_token, .int j_value, .int j_fault, .int j_place, .int j_latest, .ref m_low, .ref m_high, .ref m_first, .ref m_second, .ref m_lines, .ref m_others, .int j_shiftFirst, .int j_shiftMany, .int j_shiftLow, .int j_shiftHigh])), (m_now, .inl (kI, 192, .inl g_now)), (m_low, .inl (kI, 1000, .inl y6)), (m_high, .inl (kI, 1000, .inl y7))] H := hP.sub [0, 1, 2, 3] rfl
              have hD9 : va_D A [(h0, .inr (10, [.ref m_now, .ref m_draft, .ref m_past, .int j_acts, .ref m_images, .ref m_kept, .ref m_tape, .int j_taped, .int j_at, .int j_start, .int j_token, .int j_value, .int j_fault, .int j_place, .int j_latest, .ref m_low, .ref m_high, .ref m_first, .ref m_second, .ref m_lines, .ref m_others, .int j_shiftFirst, .int j_shiftMany, .int j_shiftLow, .int j_shiftHigh])), (m_now, .inl (kI, 192, .inl g_now)), (m_low, .inl (kI, 1000, .inl y6)), (m_high, .inl (kI, 1000, .inl y7))] := hD.sub [0, 1, 2, 3] (by decide) rfl
              have hl9 : lv_has ls 6 [(0, .ref h0), (1, .int i_0), (2, .int i_1), (3, .int v103), (4, .int v104), (5, .int v105)] := lv_sub hl [0, 1, 2, 3, 4, 5] rfl
              refine W.widen (k := 0) (n := 0) (Nat.le_of_ble_eq_true rfl) (Nat.le_of_ble_eq_true rfl) ?_
              exact hJ139 1 _ _ _ ⟨hP9, hD9, hS, hl9⟩
    · have nc4 : r3.toInt = 0 := pw_eq c4 rfl (by decide)
      refine lv_ldc hx hb hown (hts (.constant RX10 177 (-1000001)) (List.mem_of_getElem? (i := 14) rfl)) dX10_share_16 ?_
      refine W.endD hd0 ?_
      have hP9 := hP.sub (ws' := [(h0, .inr (10, [.ref m_now, .ref m_draft, .ref m_past, .int j_acts, .ref m_images, .ref m_kept, .ref m_tape, .int j_taped, .int j_at, .int j_start, .int j_token, .int j_value, .int j_fault, .int j_place, .int j_latest, .ref m_low, .ref m_high, .ref m_first, .ref m_second, .ref m_lines, .ref m_others, .int j_shiftFirst, .int j_shiftMany, .int j_shiftLow, .int j_shiftHigh])), (m_now, .inl (kI, 192, .inl g_now)), (m_low, .inl (kI, 1000, .inl g_low)), (m_high, .inl (kI, 1000, .inl g_high))]) [0, 1, 2, 3] rfl
      have hD9 := hD.sub (ws' := [(h0, .inr (10, [.ref m_now, .ref m_draft, .ref m_past, .int j_acts, .ref m_images, .ref m_kept, .ref m_tape, .int j_taped, .int j_at, .int j_start, .int j_token, .int j_value, .int j_fault, .int j_place, .int j_latest, .ref m_low, .ref m_high, .ref m_first, .ref m_second, .ref m_lines, .ref m_others, .int j_shiftFirst, .int j_shiftMany, .int j_shiftLow, .int j_shiftHigh])), (m_now, .inl (kI, 192, .inl g_now)), (m_low, .inl (kI, 1000, .inl g_low)), (m_high, .inl (kI, 1000, .inl g_high))]) [0, 1, 2, 3] (by decide) rfl
      have hK9 := hK.sub (tys' := [(kI, .int)]) [0] rfl
      refine W.widen (k := 0) (n := 0) (Nat.le_of_ble_eq_true rfl) (Nat.le_of_ble_eq_true rfl) ?_
      exact W.iret (v := (-1000001)) hx hb hr (fun t ht hW => ⟨⟨(-1000001), (), rfl, trivial, g_low, g_high, by rw [ht]; exact hP9, va_K.moved hW.alike hK9, hD9, hg_low, hg_high⟩, hS.F ht⟩) hS.2.2 dX10_share_18
def w_X10_score : List Cond := .code yX10_score cX10_score 4 (some .int) :: ([.methodLink RX10 55 yX10_isEdition, .instanceMethod yX10_isEdition, .selects RX10 yX10_isEdition yX10_isEdition, .initialized RX10, .code yX10_isEdition cX10_isEdition 2 (some .boolean), .methodLink RX10 47 yX10_isWork, .instanceMethod yX10_isWork, .selects RX10 yX10_isWork yX10_isWork, .code yX10_isWork cX10_isWork 1 (some .boolean), .fieldLink RX10 7 "LineCitesModel" "now" "[I", .methodLink RX10 51 yX10_in0, .static yX10_in0, .code yX10_in0 cX10_in0 6 (some .boolean), .constant RX10 177 (-1000001), .methodLink RX10 221 yX10_lays, .instanceMethod yX10_lays, .selects RX10 yX10_lays yX10_lays, .code yX10_lays cX10_lays 9 none, .constant RX10 61 (-1000000), .fieldLink RX10 29 "LineCitesModel" "low" "[I", .fieldLink RX10 32 "LineCitesModel" "high" "[I", .methodLink RX10 66 yX10_stretchOf, .static yX10_stretchOf, .code yX10_stretchOf cX10_stretchOf 7 (some .int), .methodLink RX10 62 yX10_of, .static yX10_of, .code yX10_of cX10_of 4 (some .int), .methodLink RX10 292 yX10_scoreOf, .instanceMethod yX10_scoreOf, .selects RX10 yX10_scoreOf yX10_scoreOf, .code yX10_scoreOf cX10_scoreOf 4 (some .int), .methodLink RX10 69 yX10_isMeant, .instanceMethod yX10_isMeant, .selects RX10 yX10_isMeant yX10_isMeant, .code yX10_isMeant cX10_isMeant 4 (some .boolean), .methodLink RX10 283 yX10_thousandths, .static yX10_thousandths, .code yX10_thousandths cX10_thousandths 2 (some .int), .constantFloat RX10 282 (1148846080)] ++ wsX100)
set_option maxRecDepth 20000 in
theorem g_X10_score_X10_isEdition : GoodIn w_X10_score (wsV RX10 55 RX10 yX10_isEdition w_X10_isEdition) := goodIn_r _ [1, 2, 3, 4, 5, 6, 7, 8, 4, 9, 10, 11, 12, 13, 40, 41, 42, 43, 44, 45, 46, 47, 48, 49, 50, 51, 52, 53, 54, 55, 56, 57, 58, 59, 60, 61, 62, 63, 64] rfl (by decide +kernel)
set_option maxRecDepth 20000 in
theorem g_X10_score_X10_in0 : GoodIn w_X10_score (wsS RX10 51 yX10_in0 w_X10_in0) := goodIn_r _ [11, 12, 4, 13] rfl (by decide +kernel)
set_option maxRecDepth 20000 in
theorem g_X10_score_X10_lays : GoodIn w_X10_score (wsV RX10 221 RX10 yX10_lays w_X10_lays) := goodIn_r _ [15, 16, 17, 4, 18, 10, 19, 20, 21, 22, 23, 4, 24, 25, 26, 27, 11, 12, 13, 40, 41, 42, 43, 44, 45, 46, 47, 48, 49, 50, 51, 52, 53, 54, 55, 56, 57, 58, 59, 60, 61, 62, 63, 64] rfl (by decide +kernel)
set_option maxRecDepth 20000 in
theorem g_X10_score_X10_scoreOf : GoodIn w_X10_score (wsV RX10 292 RX10 yX10_scoreOf w_X10_scoreOf) := goodIn_r _ [28, 29, 30, 4, 31, 10, 32, 33, 34, 4, 35, 20, 21, 40, 41, 42, 43, 44, 45, 46, 47, 48, 49, 50, 51, 52, 53, 54, 55, 56, 57, 58, 59, 60, 61, 62, 63, 64] rfl (by decide +kernel)
set_option maxRecDepth 20000 in
theorem g_X10_score_X10_thousandths : GoodIn w_X10_score (wsS RX10 283 yX10_thousandths w_X10_thousandths) := goodIn_r _ [36, 37, 4, 38, 39] rfl (by decide +kernel)
set_option maxHeartbeats 4000000 in
set_option maxRecDepth 100000 in
theorem c_X10_score (l : Launch) (D : va_G) (h0 : Nat) (i_0 : Int32) (i_1 : Int32) (m_now : Nat) (m_draft : Nat) (m_past : Nat) (j_acts : Int32) (m_images : Nat) (m_kept : Nat) (m_tape : Nat) (j_taped : Int32) (j_at : Int32) (j_start : Int32) (j_token : Int32) (j_value : Int32) (j_fault : Int32) (j_place : Int32) (j_latest : Int32) (m_low : Nat) (m_high : Nat) (m_first : Nat) (m_second : Nat) (m_lines : Nat) (m_others : Nat) (j_shiftFirst : Int32) (j_shiftMany : Int32) (j_shiftLow : Int32) (j_shiftHigh : Int32) (kI : ClassId) (g_now : Nat → Int32) (g_low : Nat → Int32) (g_high : Nat → Int32) (sz : Nat) (hg_now : gV g_now) (hg_low : bP g_low) (hg_high : bP g_high) : MetD lw_cs l yX10_score w_X10_score ({ frames := 3, cells := 0, slots := 0, locals := 79 }) (va_Pc [.ref h0, .int i_0, .int i_1] (fun U => U.heap.size = sz ∧ va_P D vwCl [(h0, .inr (10, [.ref m_now, .ref m_draft, .ref m_past, .int j_acts, .ref m_images, .ref m_kept, .ref m_tape, .int j_taped, .int j_at, .int j_start, .int j_token, .int j_value, .int j_fault, .int j_place, .int j_latest, .ref m_low, .ref m_high, .ref m_first, .ref m_second, .ref m_lines, .ref m_others, .int j_shiftFirst, .int j_shiftMany, .int j_shiftLow, .int j_shiftHigh])), (m_now, .inl (kI, 192, .inl g_now)), (m_low, .inl (kI, 1000, .inl g_low)), (m_high, .inl (kI, 1000, .inl g_high))] U.heap ∧ va_K D vwCl [(kI, .int)] U ∧ va_D (fun _ => True) [(h0, .inr (10, [.ref m_now, .ref m_draft, .ref m_past, .int j_acts, .ref m_images, .ref m_kept, .ref m_tape, .int j_taped, .int j_at, .int j_start, .int j_token, .int j_value, .int j_fault, .int j_place, .int j_latest, .ref m_low, .ref m_high, .ref m_first, .ref m_second, .ref m_lines, .ref m_others, .int j_shiftFirst, .int j_shiftMany, .int j_shiftLow, .int j_shiftHigh])), (m_now, .inl (kI, 192, .inl g_now)), (m_low, .inl (kI, 1000, .inl g_low)), (m_high, .inl (kI, 1000, .inl g_high))])) (va_Qi (fun (r : Int32) (_ : Unit) => True) (fun (_ : Unit) t => ∃ (n_low : Nat → Int32) (n_high : Nat → Int32), va_P D vwCl [(h0, .inr (10, [.ref m_now, .ref m_draft, .ref m_past, .int j_acts, .ref m_images, .ref m_kept, .ref m_tape, .int j_taped, .int j_at, .int j_start, .int j_token, .int j_value, .int j_fault, .int j_place, .int j_latest, .ref m_low, .ref m_high, .ref m_first, .ref m_second, .ref m_lines, .ref m_others, .int j_shiftFirst, .int j_shiftMany, .int j_shiftLow, .int j_shiftHigh])), (m_now, .inl (kI, 192, .inl g_now)), (m_low, .inl (kI, 1000, .inl n_low)), (m_high, .inl (kI, 1000, .inl n_high))] t.heap ∧ va_K D vwCl [(kI, .int)] t ∧ va_D (va_A [(h0, .inr (10, [.ref m_now, .ref m_draft, .ref m_past, .int j_acts, .ref m_images, .ref m_kept, .ref m_tape, .int j_taped, .int j_at, .int j_start, .int j_token, .int j_value, .int j_fault, .int j_place, .int j_latest, .ref m_low, .ref m_high, .ref m_first, .ref m_second, .ref m_lines, .ref m_others, .int j_shiftFirst, .int j_shiftMany, .int j_shiftLow, .int j_shiftHigh])), (m_now, .inl (kI, 192, .inl g_now)), (m_low, .inl (kI, 1000, .inl g_low)), (m_high, .inl (kI, 1000, .inl g_high))] sz) [(h0, .inr (10, [.ref m_now, .ref m_draft, .ref m_past, .int j_acts, .ref m_images, .ref m_kept, .ref m_tape, .int j_taped, .int j_at, .int j_start, .int j_token, .int j_value, .int j_fault, .int j_place, .int j_latest, .ref m_low, .ref m_high, .ref m_first, .ref m_second, .ref m_lines, .ref m_others, .int j_shiftFirst, .int j_shiftMany, .int j_shiftLow, .int j_shiftHigh])), (m_now, .inl (kI, 192, .inl g_now)), (m_low, .inl (kI, 1000, .inl n_low)), (m_high, .inl (kI, 1000, .inl n_high))] ∧ bP n_low ∧ bP n_high) (va_A [(h0, .inr (10, [.ref m_now, .ref m_draft, .ref m_past, .int j_acts, .ref m_images, .ref m_kept, .ref m_tape, .int j_taped, .int j_at, .int j_start, .int j_token, .int j_value, .int j_fault, .int j_place, .int j_latest, .ref m_low, .ref m_high, .ref m_first, .ref m_second, .ref m_lines, .ref m_others, .int j_shiftFirst, .int j_shiftMany, .int j_shiftLow, .int j_shiftHigh])), (m_now, .inl (kI, 192, .inl g_now)), (m_low, .inl (kI, 1000, .inl g_low)), (m_high, .inl (kI, 1000, .inl g_high))] sz)) 0 0 (va_A [(h0, .inr (10, [.ref m_now, .ref m_draft, .ref m_past, .int j_acts, .ref m_images, .ref m_kept, .ref m_tape, .int j_taped, .int j_at, .int j_start, .int j_token, .int j_value, .int j_fault, .int j_place, .int j_latest, .ref m_low, .ref m_high, .ref m_first, .ref m_second, .ref m_lines, .ref m_others, .int j_shiftFirst, .int j_shiftMany, .int j_shiftLow, .int j_shiftHigh])), (m_now, .inl (kI, 192, .inl g_now)), (m_low, .inl (kI, 1000, .inl g_low)), (m_high, .inl (kI, 1000, .inl g_high))] sz) := by
  refine MetD.ofW (cs := lw_cs) (cc := cX10_score) (maxL := 4) (ret := (some .int)) (by decide) rfl ?_
  intro p e s m args below meth c s₁ B hml hv hdd
  obtain ⟨d0, hd0, hde⟩ : ∃ d0, s.drawn.sameBut d0 lw_cs ∧ d0 = s.drawn := ⟨_, hdd, rfl⟩
  rw [← hde]
  obtain ⟨rfl, hsz, hP, hK, hD0⟩ := hv
  have hx := B.exec
  have hb := B.bytes
  have hr := B.returns
  have hts0 := atoms_spec (ws := w_X10_score) B.pre
  have hts := dr_words hts0 d0
  have hown : s.vm.findClass RX10 = some m.cls := findClass_of_methodNamed B.named
  have hlocks := B.notSynchronized
  subst hsz
  have hD := hD0.self (sz := s.heap.size)
  generalize hAe : va_A [(h0, .inr (10, [.ref m_now, .ref m_draft, .ref m_past, .int j_acts, .ref m_images, .ref m_kept, .ref m_tape, .int j_taped, .int j_at, .int j_start, .int j_token, .int j_value, .int j_fault, .int j_place, .int j_latest, .ref m_low, .ref m_high, .ref m_first, .ref m_second, .ref m_lines, .ref m_others, .int j_shiftFirst, .int j_shiftMany, .int j_shiftLow, .int j_shiftHigh])), (m_now, .inl (kI, 192, .inl g_now)), (m_low, .inl (kI, 1000, .inl g_low)), (m_high, .inl (kI, 1000, .inl g_high))] s.heap.size = A at hD ⊢
  have hA : ∀ q : Nat, s.heap.size ≤ q → A q := fun q h => by rw [← hAe]; exact Or.inr h
  have hS : va_S A s.heap s.heap [] := va_S.rf
  have hP : va_P D vwCl [(h0, .inr (10, [.ref m_now, .ref m_draft, .ref m_past, .int j_acts, .ref m_images, .ref m_kept, .ref m_tape, .int j_taped, .int j_at, .int j_start, .int j_token, .int j_value, .int j_fault, .int j_place, .int j_latest, .ref m_low, .ref m_high, .ref m_first, .ref m_second, .ref m_lines, .ref m_others, .int j_shiftFirst, .int j_shiftMany, .int j_shiftLow, .int j_shiftHigh])), (m_now, .inl (kI, 192, .inl g_now)), (m_low, .inl (kI, 1000, .inl g_low)), (m_high, .inl (kI, 1000, .inl g_high))] s.heap := hP
  have hl := lv_entry ([.ref h0, .int i_0, .int i_1]) (n := 4) (Nat.le_of_ble_eq_true rfl)
  rw [lg_entry_eq]
  generalize (lg_sl ([.ref h0, .int i_0, .int i_1]) ++ List.replicate (4 - (lg_sl ([.ref h0, .int i_0, .int i_1])).length) Slot.unset).toArray = ls at hl ⊢
  have hl : lv_has ls 4 [(0, .ref h0), (1, .int i_0), (2, .int i_1)] := hl
  obtain ⟨H, hHe⟩ : ∃ H : Heap, H = s.heap := ⟨_, rfl⟩
  rw [← hHe] at hP
  have hS : va_S A s.heap H [] := by rw [hHe]; exact hS
  have hown : (s.setDrawn d0).vm.findClass RX10 = some m.cls := hown
  have hK : va_K D vwCl [(kI, .int)] (s.setDrawn d0) := hK
  refine pw_heap (s := s.setDrawn d0) hHe ?_
  refine lv_aload_n hx hb dX10_score_0 rfl (lv_at hl 0 rfl) ?_
  refine lv_iload_n hx hb dX10_score_1 rfl (lv_at hl 1 rfl) ?_
  have hPc := hP.sub (ws' := [(h0, .inr (10, [.ref m_now, .ref m_draft, .ref m_past, .int j_acts, .ref m_images, .ref m_kept, .ref m_tape, .int j_taped, .int j_at, .int j_start, .int j_token, .int j_value, .int j_fault, .int j_place, .int j_latest, .ref m_low, .ref m_high, .ref m_first, .ref m_second, .ref m_lines, .ref m_others, .int j_shiftFirst, .int j_shiftMany, .int j_shiftLow, .int j_shiftHigh])), (m_now, .inl (kI, 192, .inl g_now))]) [0, 1] rfl
  have hKc := hK.sub (tys' := [(kI, .int)]) [0] rfl
  refine va_calli (va_runV (As := [.int i_0]) (rest := []) ⟨hx, hb, hml, hown, hts⟩ (c_X10_isEdition l D h0 i_0 m_now m_draft m_past j_acts m_images m_kept m_tape j_taped j_at j_start j_token j_value j_fault j_place j_latest m_low m_high m_first m_second m_lines m_others j_shiftFirst j_shiftMany j_shiftLow j_shiftHigh kI g_now hg_now) (cwV 1 hts g_X10_score_X10_isEdition rfl rfl rfl (by decide +kernel) ⟨Nat.le_of_ble_eq_true rfl, Nat.le_of_ble_eq_true rfl⟩) ⟨fun a U g mk q => by obtain ⟨q0, qP, qK⟩ := q; exact ⟨q0, qP, va_K.moved (u := U) (U := U.calling g mk a) (Vm.Alike.refl U.vm) qK⟩, va_recv hKc hPc (ci := 10) (q0 := 0) rfl rfl, fun U hU hW => ⟨rfl, by rw [hU]; exact hPc, va_K.moved hW.alike hKc⟩⟩ rfl rfl hl.1 rfl (lv_room (Nat.le_of_ble_eq_true rfl)) dX10_score_2 ⟨Nat.le_of_ble_eq_true rfl, Nat.le_of_ble_eq_true rfl⟩) hS (fun _ _ h => h.elim) (fun _ h => h.elim) (fun r1 u t H1 locs ht hvm hw hB hz1 hk1 hS => ?_)
  have hP := pw_keep hP (fun q hq => hk1 q hq (fun h => h))
  generalize H1 = H at hP hS ⊢
  refine W.widen (k := 0) (n := 0) (Nat.le_of_ble_eq_true rfl) (Nat.le_of_ble_eq_true rfl) ?_
  have bor1 := hw.1
  have zor1 := pw_boolI bor1
  have hfr1 := hw.2
  refine lv_if_eq (tgt := 18) hx hb dX10_score_5 (by decide) (fun c2 => ?_) (fun c2 => ?_)
  · have nc2 : r1.toInt = 0 := pw_eq c2 rfl (by decide)
    refine lv_ldc hx hb hown (hts (.constant RX10 177 (-1000001)) (List.mem_of_getElem? (i := 14) rfl)) dX10_score_18 ?_
    refine W.endD hd0 ?_
    have hP9 := hP.sub (ws' := [(h0, .inr (10, [.ref m_now, .ref m_draft, .ref m_past, .int j_acts, .ref m_images, .ref m_kept, .ref m_tape, .int j_taped, .int j_at, .int j_start, .int j_token, .int j_value, .int j_fault, .int j_place, .int j_latest, .ref m_low, .ref m_high, .ref m_first, .ref m_second, .ref m_lines, .ref m_others, .int j_shiftFirst, .int j_shiftMany, .int j_shiftLow, .int j_shiftHigh])), (m_now, .inl (kI, 192, .inl g_now)), (m_low, .inl (kI, 1000, .inl g_low)), (m_high, .inl (kI, 1000, .inl g_high))]) [0, 1, 2, 3] rfl
    have hD9 := hD.sub (ws' := [(h0, .inr (10, [.ref m_now, .ref m_draft, .ref m_past, .int j_acts, .ref m_images, .ref m_kept, .ref m_tape, .int j_taped, .int j_at, .int j_start, .int j_token, .int j_value, .int j_fault, .int j_place, .int j_latest, .ref m_low, .ref m_high, .ref m_first, .ref m_second, .ref m_lines, .ref m_others, .int j_shiftFirst, .int j_shiftMany, .int j_shiftLow, .int j_shiftHigh])), (m_now, .inl (kI, 192, .inl g_now)), (m_low, .inl (kI, 1000, .inl g_low)), (m_high, .inl (kI, 1000, .inl g_high))]) [0, 1, 2, 3] (by decide) rfl
    have hK9 := hK.sub (tys' := [(kI, .int)]) [0] rfl
    refine W.widen (k := 0) (n := 0) (Nat.le_of_ble_eq_true rfl) (Nat.le_of_ble_eq_true rfl) ?_
    exact W.iret (v := (-1000001)) hx hb hr (fun t ht hW => ⟨⟨(-1000001), (), rfl, trivial, g_low, g_high, by rw [ht]; exact hP9, va_K.moved hW.alike hK9, hD9, hg_low, hg_high⟩, hS.F ht⟩) hS.2.2 dX10_score_20
  · have nc2 : r1.toInt ≠ 0 := pw_ne c2 rfl (by decide)
    refine lv_iload_n hx hb dX10_score_8 rfl (lv_at hl 2 rfl) ?_
    refine lv_i2l (v := i_1.toInt64) hx hb dX10_score_9 rfl ?_
    refine lv_lconst (v := 0) hx hb dX10_score_10 (by decide) ?_
    refine lv_lconst (v := 1) hx hb dX10_score_11 (by decide) ?_
    have hPc := hP.sub (ws' := []) [] rfl
    have hKc := hK.sub (tys' := []) [] rfl
    refine va_calli (va_runS (As := [.long i_1.toInt64, .long 0, .long 1]) (rest := []) ⟨hx, hb, hml, hown, hts⟩ (c_X10_in0 l D i_1.toInt64 0 1) (cwS 3 hts g_X10_score_X10_in0 rfl rfl rfl (by decide +kernel) ⟨Nat.le_of_ble_eq_true rfl, Nat.le_of_ble_eq_true rfl⟩) ⟨fun a U g mk q => by obtain ⟨q0, qP, qK⟩ := q; exact ⟨q0, qP, va_K.moved (u := U) (U := U.calling g mk a) (Vm.Alike.refl U.vm) qK⟩, fun U hU hW => ⟨rfl, by rw [hU]; exact hPc, va_K.moved hW.alike hKc⟩⟩ rfl rfl hl.1 rfl (lv_room (Nat.le_of_ble_eq_true rfl)) dX10_score_12 ⟨Nat.le_of_ble_eq_true rfl, Nat.le_of_ble_eq_true rfl⟩) hS (fun _ _ h => h.elim) (fun _ h => h.elim) (fun r3 u t H1 locs ht hvm hw hB hz1 hk1 hS => ?_)
    have hP := pw_keep hP (fun q hq => hk1 q hq (fun h => h))
    generalize H1 = H at hP hS ⊢
    refine W.widen (k := 0) (n := 0) (Nat.le_of_ble_eq_true rfl) (Nat.le_of_ble_eq_true rfl) ?_
    have bor3 := hw.1
    have zor3 := pw_boolI bor3
    have hfr3 := hw.2
    have kl0 : (0 : Int64).toInt = 0 := by decide
    have kl1 : (1 : Int64).toInt = 1 := by decide
    try simp only [Int32.toInt_toInt64] at hfr3
    refine lv_if_ne (tgt := 21) hx hb dX10_score_15 (by decide) (fun c4 => ?_) (fun c4 => ?_)
    · have nc4 : r3.toInt ≠ 0 := pw_ne c4 rfl (by decide)
      refine lv_aload_n hx hb dX10_score_21 rfl (lv_at hl 0 rfl) ?_
      have hPc := hP.sub (ws' := [(h0, .inr (10, [.ref m_now, .ref m_draft, .ref m_past, .int j_acts, .ref m_images, .ref m_kept, .ref m_tape, .int j_taped, .int j_at, .int j_start, .int j_token, .int j_value, .int j_fault, .int j_place, .int j_latest, .ref m_low, .ref m_high, .ref m_first, .ref m_second, .ref m_lines, .ref m_others, .int j_shiftFirst, .int j_shiftMany, .int j_shiftLow, .int j_shiftHigh])), (m_now, .inl (kI, 192, .inl g_now)), (m_low, .inl (kI, 1000, .inl g_low)), (m_high, .inl (kI, 1000, .inl g_high))]) [0, 1, 2, 3] rfl
      have hKc := hK.sub (tys' := [(kI, .int)]) [0] rfl
      have hDc := hD.sub (ws' := [(h0, .inr (10, [.ref m_now, .ref m_draft, .ref m_past, .int j_acts, .ref m_images, .ref m_kept, .ref m_tape, .int j_taped, .int j_at, .int j_start, .int j_token, .int j_value, .int j_fault, .int j_place, .int j_latest, .ref m_low, .ref m_high, .ref m_first, .ref m_second, .ref m_lines, .ref m_others, .int j_shiftFirst, .int j_shiftMany, .int j_shiftLow, .int j_shiftHigh])), (m_now, .inl (kI, 192, .inl g_now)), (m_low, .inl (kI, 1000, .inl g_low)), (m_high, .inl (kI, 1000, .inl g_high))]) [0, 1, 2, 3] (by decide) rfl
      have hFc := va_free (wc := [(h0, .inr (10, [.ref m_now, .ref m_draft, .ref m_past, .int j_acts, .ref m_images, .ref m_kept, .ref m_tape, .int j_taped, .int j_at, .int j_start, .int j_token, .int j_value, .int j_fault, .int j_place, .int j_latest, .ref m_low, .ref m_high, .ref m_first, .ref m_second, .ref m_lines, .ref m_others, .int j_shiftFirst, .int j_shiftMany, .int j_shiftLow, .int j_shiftHigh])), (m_now, .inl (kI, 192, .inl g_now)), (m_low, .inl (kI, 1000, .inl g_low)), (m_high, .inl (kI, 1000, .inl g_high))]) hD hS hA [0, 1, 2, 3] rfl
      refine va_callv (va_runV (As := []) (rest := []) ⟨hx, hb, hml, hown, hts⟩ (c_X10_lays l D h0 m_now m_draft m_past j_acts m_images m_kept m_tape j_taped j_at j_start j_token j_value j_fault j_place j_latest m_low m_high m_first m_second m_lines m_others j_shiftFirst j_shiftMany j_shiftLow j_shiftHigh kI g_now g_low g_high H.size hg_now hg_low hg_high) (cwV 0 hts g_X10_score_X10_lays rfl rfl rfl (by decide +kernel) ⟨Nat.le_of_ble_eq_true rfl, Nat.le_of_ble_eq_true rfl⟩) ⟨fun a U g mk q => by obtain ⟨q0, q1, qP, qK, qD⟩ := q; exact ⟨q0, q1, qP, va_K.moved (u := U) (U := U.calling g mk a) (Vm.Alike.refl U.vm) qK, qD⟩, va_recv hKc hPc (ci := 10) (q0 := 0) rfl rfl, fun U hU hW => ⟨rfl, by rw [hU], by rw [hU]; exact hPc, va_K.moved hW.alike hKc, hDc.weaken (fun _ _ _ _ => trivial)⟩⟩ rfl rfl hl.1 rfl (lv_room (Nat.le_of_ble_eq_true rfl)) dX10_score_22 ⟨Nat.le_of_ble_eq_true rfl, Nat.le_of_ble_eq_true rfl⟩) hS (fun q _ h => hFc q h) hFc (fun u t H1 locs ht hvm hw hB hz1 hk1 hS => ?_)
      obtain ⟨y6, y7, hP1, hK1, hD1, hy6, hy7⟩ := hB
      rw [ht] at hP1
      have hK1 := va_K.moved hvm.symm hK1
      obtain ⟨hP, hD⟩ := va_join (wr := []) (w1 := [(h0, .inr (10, [.ref m_now, .ref m_draft, .ref m_past, .int j_acts, .ref m_images, .ref m_kept, .ref m_tape, .int j_taped, .int j_at, .int j_start, .int j_token, .int j_value, .int j_fault, .int j_place, .int j_latest, .ref m_low, .ref m_high, .ref m_first, .ref m_second, .ref m_lines, .ref m_others, .int j_shiftFirst, .int j_shiftMany, .int j_shiftLow, .int j_shiftHigh])), (m_now, .inl (kI, 192, .inl g_now)), (m_low, .inl (kI, 1000, .inl y6)), (m_high, .inl (kI, 1000, .inl y7))]) hP hD [0, 1, 2, 3] [] rfl rfl (by decide) (by decide) hk1 hFc hP1 hD1
      have hK := (hK.sub (tys' := [(kI, .int)]) [0] rfl).app hK1
      generalize H1 = H at hP hS ⊢
      have hP : va_P D vwCl [(h0, .inr (10, [.ref m_now, .ref m_draft, .ref m_past, .int j_acts, .ref m_images, .ref m_kept, .ref m_tape, .int j_taped, .int j_at, .int j_start, .int j_token, .int j_value, .int j_fault, .int j_place, .int j_latest, .ref m_low, .ref m_high, .ref m_first, .ref m_second, .ref m_lines, .ref m_others, .int j_shiftFirst, .int j_shiftMany, .int j_shiftLow, .int j_shiftHigh])), (m_now, .inl (kI, 192, .inl g_now)), (m_low, .inl (kI, 1000, .inl y6)), (m_high, .inl (kI, 1000, .inl y7))] H := hP
      have hD : va_D A [(h0, .inr (10, [.ref m_now, .ref m_draft, .ref m_past, .int j_acts, .ref m_images, .ref m_kept, .ref m_tape, .int j_taped, .int j_at, .int j_start, .int j_token, .int j_value, .int j_fault, .int j_place, .int j_latest, .ref m_low, .ref m_high, .ref m_first, .ref m_second, .ref m_lines, .ref m_others, .int j_shiftFirst, .int j_shiftMany, .int j_shiftLow, .int j_shiftHigh])), (m_now, .inl (kI, 192, .inl g_now)), (m_low, .inl (kI, 1000, .inl y6)), (m_high, .inl (kI, 1000, .inl y7))] := hD
      have hK : va_K D vwCl [(kI, .int), (kI, .int)] (s.setDrawn d0) := hK
      refine W.widen (k := 0) (n := 0) (Nat.le_of_ble_eq_true rfl) (Nat.le_of_ble_eq_true rfl) ?_
      refine lv_aload_n hx hb dX10_score_25 rfl (lv_at hl 0 rfl) ?_
      refine lv_iload_n hx hb dX10_score_26 rfl (lv_at hl 1 rfl) ?_
      have hPc := hP.sub (ws' := [(h0, .inr (10, [.ref m_now, .ref m_draft, .ref m_past, .int j_acts, .ref m_images, .ref m_kept, .ref m_tape, .int j_taped, .int j_at, .int j_start, .int j_token, .int j_value, .int j_fault, .int j_place, .int j_latest, .ref m_low, .ref m_high, .ref m_first, .ref m_second, .ref m_lines, .ref m_others, .int j_shiftFirst, .int j_shiftMany, .int j_shiftLow, .int j_shiftHigh])), (m_now, .inl (kI, 192, .inl g_now)), (m_low, .inl (kI, 1000, .inl y6)), (m_high, .inl (kI, 1000, .inl y7))]) [0, 1, 2, 3] rfl
      have hKc := hK.sub (tys' := [(kI, .int)]) [0] rfl
      refine va_calli (va_runV (As := [.int i_0]) (rest := []) ⟨hx, hb, hml, hown, hts⟩ (c_X10_scoreOf l D h0 i_0 m_now m_draft m_past j_acts m_images m_kept m_tape j_taped j_at j_start j_token j_value j_fault j_place j_latest m_low m_high m_first m_second m_lines m_others j_shiftFirst j_shiftMany j_shiftLow j_shiftHigh kI g_now y6 y7 (by first | decide | omega) (by first | decide | omega) hg_now hy6 hy7) (cwV 1 hts g_X10_score_X10_scoreOf rfl rfl rfl (by decide +kernel) ⟨Nat.le_of_ble_eq_true rfl, Nat.le_of_ble_eq_true rfl⟩) ⟨fun a U g mk q => by obtain ⟨q0, qP, qK⟩ := q; exact ⟨q0, qP, va_K.moved (u := U) (U := U.calling g mk a) (Vm.Alike.refl U.vm) qK⟩, va_recv hKc hPc (ci := 10) (q0 := 0) rfl rfl, fun U hU hW => ⟨rfl, by rw [hU]; exact hPc, va_K.moved hW.alike hKc⟩⟩ rfl rfl hl.1 rfl (lv_room (Nat.le_of_ble_eq_true rfl)) dX10_score_27 ⟨Nat.le_of_ble_eq_true rfl, Nat.le_of_ble_eq_true rfl⟩) hS (fun _ _ h => h.elim) (fun _ h => h.elim) (fun r8 u t H1 locs ht hvm hw hB hz1 hk1 hS => ?_)
      have hP := pw_keep hP (fun q hq => hk1 q hq (fun h => h))
      generalize H1 = H at hP hS ⊢
      refine W.widen (k := 0) (n := 0) (Nat.le_of_ble_eq_true rfl) (Nat.le_of_ble_eq_true rfl) ?_
      refine lv_istore_n (lv' := [(3, .int r8), (0, .ref h0), (1, .int i_0), (2, .int i_1)]) hx hb dX10_score_30 rfl hl (by decide) rfl (fun ls hl => ?_)
      refine lv_iload_n hx hb dX10_score_31 rfl (lv_at hl 3 rfl) ?_
      refine lv_if_ne (tgt := 39) hx hb dX10_score_32 (by decide) (fun c9 => ?_) (fun c9 => ?_)
      · have nc9 : i_1.toInt ≠ 0 := pw_ne c9 rfl (by decide)
        refine lv_aload_n hx hb dX10_score_39 rfl (lv_at hl 1 rfl) ?_
        refine va_get (D := D) (ci := 10) (v := .ref m_now) (C := RX10) (T := TX10) (N := 25) hx hb hts (fun _ h => List.mem_cons_of_mem _ (List.mem_append_right _ h)) hown hK hP 0 rfl rfl 0 (by decide) (hts (.fieldLink RX10 7 "LineCitesModel" "now" "[I") (List.mem_of_getElem? (i := 10) rfl)) (fun _ h9 => h9) rfl dX10_score_40 ?_
        refine lv_iconst (v := 2) hx hb dX10_score_43 (by decide) ?_
        refine va_iald hx hb hK hP 1 0 rfl rfl (vp_in_iff.mpr (by decide)) dX10_score_44 ?_
        refine lv_topi (fun x10 ex10 => ?_)
        have nx10 : 0 ≤ x10.toInt ∧ x10.toInt ≤ 12 := gV_2 hg_now ex10
        refine lv_if_ne (tgt := 53) hx hb dX10_score_45 (by decide) (fun c11 => ?_) (fun c11 => ?_)
        · have nc11 : x10.toInt ≠ 0 := pw_ne c11 rfl (by decide)
          refine lv_iload_n hx hb dX10_score_53 rfl (lv_at hl 0 rfl) ?_
          refine lv_aload_n hx hb dX10_score_54 rfl (lv_at hl 1 rfl) ?_
          refine va_get (D := D) (ci := 10) (v := .ref m_now) (C := RX10) (T := TX10) (N := 25) hx hb hts (fun _ h => List.mem_cons_of_mem _ (List.mem_append_right _ h)) hown hK hP 0 rfl rfl 0 (by decide) (hts (.fieldLink RX10 7 "LineCitesModel" "now" "[I") (List.mem_of_getElem? (i := 10) rfl)) (fun _ h9 => h9) rfl dX10_score_55 ?_
          refine lv_iconst (v := 2) hx hb dX10_score_58 (by decide) ?_
          refine va_iald hx hb hK hP 1 0 rfl rfl (vp_in_iff.mpr (by decide)) dX10_score_59 ?_
          refine lv_topi (fun x12 ex12 => ?_)
          have nx12 : 0 ≤ x12.toInt ∧ x12.toInt ≤ 12 := gV_2 hg_now ex12
          have hPc := hP.sub (ws' := []) [] rfl
          have hKc := hK.sub (tys' := []) [] rfl
          refine va_calliD hd0 (va_runS_D (As := [.int r8, .int x12]) (rest := []) ⟨hx, hb, hml, hown, hts⟩ (c_X10_thousandths l D r8 x12) (cwS 2 hts g_X10_score_X10_thousandths rfl rfl rfl (by decide +kernel) ⟨Nat.le_of_ble_eq_true rfl, Nat.le_of_ble_eq_true rfl⟩) ⟨fun a U g mk q => by obtain ⟨q0, qP, qK⟩ := q; exact ⟨q0, qP, va_K.moved (u := U) (U := U.calling g mk a) (Vm.Alike.refl U.vm) qK⟩, fun U hU hW => ⟨rfl, by rw [hU]; exact hPc, va_K.moved hW.alike hKc⟩⟩ rfl rfl hl.1 rfl (lv_room (Nat.le_of_ble_eq_true rfl)) dX10_score_60 ⟨Nat.le_of_ble_eq_true rfl, Nat.le_of_ble_eq_true rfl⟩) hS (fun _ _ h => h.elim) (fun _ h => h.elim) (fun r13 u t H1 locs ht hvm hw hB hz1 hk1 hS dr14 hdr14 => ?_)
          have hts := dr_words hts0 dr14
          have hown : (s.setDrawn dr14).vm.findClass RX10 = some m.cls := hown
          have hK : va_K D vwCl [(kI, .int), (kI, .int)] (s.setDrawn dr14) := hK
          have hP := pw_keep hP (fun q hq => hk1 q hq (fun h => h))
          generalize H1 = H at hP hS ⊢
          refine W.widen (k := 0) (n := 0) (Nat.le_of_ble_eq_true rfl) (Nat.le_of_ble_eq_true rfl) ?_
          refine W.endD hdr14 ?_
          have hP9 := hP.sub (ws' := [(h0, .inr (10, [.ref m_now, .ref m_draft, .ref m_past, .int j_acts, .ref m_images, .ref m_kept, .ref m_tape, .int j_taped, .int j_at, .int j_start, .int j_token, .int j_value, .int j_fault, .int j_place, .int j_latest, .ref m_low, .ref m_high, .ref m_first, .ref m_second, .ref m_lines, .ref m_others, .int j_shiftFirst, .int j_shiftMany, .int j_shiftLow, .int j_shiftHigh])), (m_now, .inl (kI, 192, .inl g_now)), (m_low, .inl (kI, 1000, .inl y6)), (m_high, .inl (kI, 1000, .inl y7))]) [0, 1, 2, 3] rfl
          have hD9 := hD.sub (ws' := [(h0, .inr (10, [.ref m_now, .ref m_draft, .ref m_past, .int j_acts, .ref m_images, .ref m_kept, .ref m_tape, .int j_taped, .int j_at, .int j_start, .int j_token, .int j_value, .int j_fault, .int j_place, .int j_latest, .ref m_low, .ref m_high, .ref m_first, .ref m_second, .ref m_lines, .ref m_others, .int j_shiftFirst, .int j_shiftMany, .int j_shiftLow, .int j_shiftHigh])), (m_now, .inl (kI, 192, .inl g_now)), (m_low, .inl (kI, 1000, .inl y6)), (m_high, .inl (kI, 1000, .inl y7))]) [0, 1, 2, 3] (by decide) rfl
          have hK9 := hK.sub (tys' := [(kI, .int)]) [0] rfl
          refine W.widen (k := 0) (n := 0) (Nat.le_of_ble_eq_true rfl) (Nat.le_of_ble_eq_true rfl) ?_
          exact W.iret (v := r13) hx hb hr (fun t ht hW => ⟨⟨r13, (), rfl, trivial, y6, y7, by rw [ht]; exact hP9, va_K.moved hW.alike hK9, hD9, hy6, hy7⟩, hS.F ht⟩) hS.2.2 dX10_score_63
        · have nc11 : x10.toInt = 0 := pw_eq c11 rfl (by decide)
          refine lv_ldc hx hb hown (hts (.constant RX10 61 (-1000000)) (List.mem_of_getElem? (i := 19) rfl)) dX10_score_48 ?_
          refine lv_goto (tgt := 63) hx hb dX10_score_50 (by decide) ?_
          refine W.endD hd0 ?_
          have hP9 := hP.sub (ws' := [(h0, .inr (10, [.ref m_now, .ref m_draft, .ref m_past, .int j_acts, .ref m_images, .ref m_kept, .ref m_tape, .int j_taped, .int j_at, .int j_start, .int j_token, .int j_value, .int j_fault, .int j_place, .int j_latest, .ref m_low, .ref m_high, .ref m_first, .ref m_second, .ref m_lines, .ref m_others, .int j_shiftFirst, .int j_shiftMany, .int j_shiftLow, .int j_shiftHigh])), (m_now, .inl (kI, 192, .inl g_now)), (m_low, .inl (kI, 1000, .inl y6)), (m_high, .inl (kI, 1000, .inl y7))]) [0, 1, 2, 3] rfl
          have hD9 := hD.sub (ws' := [(h0, .inr (10, [.ref m_now, .ref m_draft, .ref m_past, .int j_acts, .ref m_images, .ref m_kept, .ref m_tape, .int j_taped, .int j_at, .int j_start, .int j_token, .int j_value, .int j_fault, .int j_place, .int j_latest, .ref m_low, .ref m_high, .ref m_first, .ref m_second, .ref m_lines, .ref m_others, .int j_shiftFirst, .int j_shiftMany, .int j_shiftLow, .int j_shiftHigh])), (m_now, .inl (kI, 192, .inl g_now)), (m_low, .inl (kI, 1000, .inl y6)), (m_high, .inl (kI, 1000, .inl y7))]) [0, 1, 2, 3] (by decide) rfl
          have hK9 := hK.sub (tys' := [(kI, .int)]) [0] rfl
          refine W.widen (k := 0) (n := 0) (Nat.le_of_ble_eq_true rfl) (Nat.le_of_ble_eq_true rfl) ?_
          exact W.iret (v := (-1000000)) hx hb hr (fun t ht hW => ⟨⟨(-1000000), (), rfl, trivial, y6, y7, by rw [ht]; exact hP9, va_K.moved hW.alike hK9, hD9, hy6, hy7⟩, hS.F ht⟩) hS.2.2 dX10_score_63
      · have nc9 : i_1.toInt = 0 := pw_eq c9 rfl (by decide)
        refine lv_iload_n hx hb dX10_score_35 rfl (lv_at hl 0 rfl) ?_
        refine lv_goto (tgt := 63) hx hb dX10_score_36 (by decide) ?_
        refine W.endD hd0 ?_
        have hP9 := hP.sub (ws' := [(h0, .inr (10, [.ref m_now, .ref m_draft, .ref m_past, .int j_acts, .ref m_images, .ref m_kept, .ref m_tape, .int j_taped, .int j_at, .int j_start, .int j_token, .int j_value, .int j_fault, .int j_place, .int j_latest, .ref m_low, .ref m_high, .ref m_first, .ref m_second, .ref m_lines, .ref m_others, .int j_shiftFirst, .int j_shiftMany, .int j_shiftLow, .int j_shiftHigh])), (m_now, .inl (kI, 192, .inl g_now)), (m_low, .inl (kI, 1000, .inl y6)), (m_high, .inl (kI, 1000, .inl y7))]) [0, 1, 2, 3] rfl
        have hD9 := hD.sub (ws' := [(h0, .inr (10, [.ref m_now, .ref m_draft, .ref m_past, .int j_acts, .ref m_images, .ref m_kept, .ref m_tape, .int j_taped, .int j_at, .int j_start, .int j_token, .int j_value, .int j_fault, .int j_place, .int j_latest, .ref m_low, .ref m_high, .ref m_first, .ref m_second, .ref m_lines, .ref m_others, .int j_shiftFirst, .int j_shiftMany, .int j_shiftLow, .int j_shiftHigh])), (m_now, .inl (kI, 192, .inl g_now)), (m_low, .inl (kI, 1000, .inl y6)), (m_high, .inl (kI, 1000, .inl y7))]) [0, 1, 2, 3] (by decide) rfl
        have hK9 := hK.sub (tys' := [(kI, .int)]) [0] rfl
        refine W.widen (k := 0) (n := 0) (Nat.le_of_ble_eq_true rfl) (Nat.le_of_ble_eq_true rfl) ?_
        exact W.iret (v := r8) hx hb hr (fun t ht hW => ⟨⟨r8, (), rfl, trivial, y6, y7, by rw [ht]; exact hP9, va_K.moved hW.alike hK9, hD9, hy6, hy7⟩, hS.F ht⟩) hS.2.2 dX10_score_63
    · have nc4 : r3.toInt = 0 := pw_eq c4 rfl (by decide)
      refine lv_ldc hx hb hown (hts (.constant RX10 177 (-1000001)) (List.mem_of_getElem? (i := 14) rfl)) dX10_score_18 ?_
      refine W.endD hd0 ?_
      have hP9 := hP.sub (ws' := [(h0, .inr (10, [.ref m_now, .ref m_draft, .ref m_past, .int j_acts, .ref m_images, .ref m_kept, .ref m_tape, .int j_taped, .int j_at, .int j_start, .int j_token, .int j_value, .int j_fault, .int j_place, .int j_latest, .ref m_low, .ref m_high, .ref m_first, .ref m_second, .ref m_lines, .ref m_others, .int j_shiftFirst, .int j_shiftMany, .int j_shiftLow, .int j_shiftHigh])), (m_now, .inl (kI, 192, .inl g_now)), (m_low, .inl (kI, 1000, .inl g_low)), (m_high, .inl (kI, 1000, .inl g_high))]) [0, 1, 2, 3] rfl
      have hD9 := hD.sub (ws' := [(h0, .inr (10, [.ref m_now, .ref m_draft, .ref m_past, .int j_acts, .ref m_images, .ref m_kept, .ref m_tape, .int j_taped, .int j_at, .int j_start, .int j_token, .int j_value, .int j_fault, .int j_place, .int j_latest, .ref m_low, .ref m_high, .ref m_first, .ref m_second, .ref m_lines, .ref m_others, .int j_shiftFirst, .int j_shiftMany, .int j_shiftLow, .int j_shiftHigh])), (m_now, .inl (kI, 192, .inl g_now)), (m_low, .inl (kI, 1000, .inl g_low)), (m_high, .inl (kI, 1000, .inl g_high))]) [0, 1, 2, 3] (by decide) rfl
      have hK9 := hK.sub (tys' := [(kI, .int)]) [0] rfl
      refine W.widen (k := 0) (n := 0) (Nat.le_of_ble_eq_true rfl) (Nat.le_of_ble_eq_true rfl) ?_
      exact W.iret (v := (-1000001)) hx hb hr (fun t ht hW => ⟨⟨(-1000001), (), rfl, trivial, g_low, g_high, by rw [ht]; exact hP9, va_K.moved hW.alike hK9, hD9, hg_low, hg_high⟩, hS.F ht⟩) hS.2.2 dX10_score_20
def w_X10_best : List Cond := .code yX10_best cX10_best 6 (some .int) :: ([.methodLink RX10 47 yX10_isWork, .instanceMethod yX10_isWork, .selects RX10 yX10_isWork yX10_isWork, .initialized RX10, .code yX10_isWork cX10_isWork 1 (some .boolean), .fieldLink RX10 7 "LineCitesModel" "now" "[I", .methodLink RX10 221 yX10_lays, .instanceMethod yX10_lays, .selects RX10 yX10_lays yX10_lays, .code yX10_lays cX10_lays 9 none, .constant RX10 61 (-1000000), .fieldLink RX10 29 "LineCitesModel" "low" "[I", .fieldLink RX10 32 "LineCitesModel" "high" "[I", .methodLink RX10 66 yX10_stretchOf, .static yX10_stretchOf, .code yX10_stretchOf cX10_stretchOf 7 (some .int), .methodLink RX10 62 yX10_of, .static yX10_of, .code yX10_of cX10_of 4 (some .int), .methodLink RX10 51 yX10_in0, .static yX10_in0, .code yX10_in0 cX10_in0 6 (some .boolean), .methodLink RX10 292 yX10_scoreOf, .instanceMethod yX10_scoreOf, .selects RX10 yX10_scoreOf yX10_scoreOf, .code yX10_scoreOf cX10_scoreOf 4 (some .int), .methodLink RX10 69 yX10_isMeant, .instanceMethod yX10_isMeant, .selects RX10 yX10_isMeant yX10_isMeant, .code yX10_isMeant cX10_isMeant 4 (some .boolean), .constant RX10 198 (-1000002)] ++ wsX100)
set_option maxRecDepth 20000 in
theorem g_X10_best_X10_isWork : GoodIn w_X10_best (wsV RX10 47 RX10 yX10_isWork w_X10_isWork) := goodIn_r _ [1, 2, 3, 4, 5, 6, 32, 33, 34, 35, 36, 37, 38, 39, 40, 41, 42, 43, 44, 45, 46, 47, 48, 49, 50, 51, 52, 53, 54, 55, 56] rfl (by decide +kernel)
set_option maxRecDepth 20000 in
theorem g_X10_best_X10_lays : GoodIn w_X10_best (wsV RX10 221 RX10 yX10_lays w_X10_lays) := goodIn_r _ [7, 8, 9, 4, 10, 6, 11, 12, 13, 14, 15, 4, 16, 17, 18, 19, 20, 21, 22, 32, 33, 34, 35, 36, 37, 38, 39, 40, 41, 42, 43, 44, 45, 46, 47, 48, 49, 50, 51, 52, 53, 54, 55, 56] rfl (by decide +kernel)
set_option maxRecDepth 20000 in
theorem g_X10_best_X10_scoreOf : GoodIn w_X10_best (wsV RX10 292 RX10 yX10_scoreOf w_X10_scoreOf) := goodIn_r _ [23, 24, 25, 4, 26, 6, 27, 28, 29, 4, 30, 12, 13, 32, 33, 34, 35, 36, 37, 38, 39, 40, 41, 42, 43, 44, 45, 46, 47, 48, 49, 50, 51, 52, 53, 54, 55, 56] rfl (by decide +kernel)
set_option maxHeartbeats 4000000 in
set_option maxRecDepth 100000 in
theorem c_X10_best (l : Launch) (D : va_G) (h0 : Nat) (m_now : Nat) (m_draft : Nat) (m_past : Nat) (j_acts : Int32) (m_images : Nat) (m_kept : Nat) (m_tape : Nat) (j_taped : Int32) (j_at : Int32) (j_start : Int32) (j_token : Int32) (j_value : Int32) (j_fault : Int32) (j_place : Int32) (j_latest : Int32) (m_low : Nat) (m_high : Nat) (m_first : Nat) (m_second : Nat) (m_lines : Nat) (m_others : Nat) (j_shiftFirst : Int32) (j_shiftMany : Int32) (j_shiftLow : Int32) (j_shiftHigh : Int32) (kI : ClassId) (g_now : Nat → Int32) (g_low : Nat → Int32) (g_high : Nat → Int32) (sz : Nat) (hg_now : gV g_now) (hg_low : bP g_low) (hg_high : bP g_high) : Met l yX10_best w_X10_best ({ frames := 3, cells := 0, slots := 0, locals := 79 }) (va_Pc [.ref h0] (fun U => U.heap.size = sz ∧ va_P D vwCl [(h0, .inr (10, [.ref m_now, .ref m_draft, .ref m_past, .int j_acts, .ref m_images, .ref m_kept, .ref m_tape, .int j_taped, .int j_at, .int j_start, .int j_token, .int j_value, .int j_fault, .int j_place, .int j_latest, .ref m_low, .ref m_high, .ref m_first, .ref m_second, .ref m_lines, .ref m_others, .int j_shiftFirst, .int j_shiftMany, .int j_shiftLow, .int j_shiftHigh])), (m_now, .inl (kI, 192, .inl g_now)), (m_low, .inl (kI, 1000, .inl g_low)), (m_high, .inl (kI, 1000, .inl g_high))] U.heap ∧ va_K D vwCl [(kI, .int)] U ∧ va_D (fun _ => True) [(h0, .inr (10, [.ref m_now, .ref m_draft, .ref m_past, .int j_acts, .ref m_images, .ref m_kept, .ref m_tape, .int j_taped, .int j_at, .int j_start, .int j_token, .int j_value, .int j_fault, .int j_place, .int j_latest, .ref m_low, .ref m_high, .ref m_first, .ref m_second, .ref m_lines, .ref m_others, .int j_shiftFirst, .int j_shiftMany, .int j_shiftLow, .int j_shiftHigh])), (m_now, .inl (kI, 192, .inl g_now)), (m_low, .inl (kI, 1000, .inl g_low)), (m_high, .inl (kI, 1000, .inl g_high))])) (va_Qi (fun (r : Int32) (_ : Unit) => True) (fun (_ : Unit) t => ∃ (n_low : Nat → Int32) (n_high : Nat → Int32), va_P D vwCl [(h0, .inr (10, [.ref m_now, .ref m_draft, .ref m_past, .int j_acts, .ref m_images, .ref m_kept, .ref m_tape, .int j_taped, .int j_at, .int j_start, .int j_token, .int j_value, .int j_fault, .int j_place, .int j_latest, .ref m_low, .ref m_high, .ref m_first, .ref m_second, .ref m_lines, .ref m_others, .int j_shiftFirst, .int j_shiftMany, .int j_shiftLow, .int j_shiftHigh])), (m_now, .inl (kI, 192, .inl g_now)), (m_low, .inl (kI, 1000, .inl n_low)), (m_high, .inl (kI, 1000, .inl n_high))] t.heap ∧ va_K D vwCl [(kI, .int)] t ∧ va_D (va_A [(h0, .inr (10, [.ref m_now, .ref m_draft, .ref m_past, .int j_acts, .ref m_images, .ref m_kept, .ref m_tape, .int j_taped, .int j_at, .int j_start, .int j_token, .int j_value, .int j_fault, .int j_place, .int j_latest, .ref m_low, .ref m_high, .ref m_first, .ref m_second, .ref m_lines, .ref m_others, .int j_shiftFirst, .int j_shiftMany, .int j_shiftLow, .int j_shiftHigh])), (m_now, .inl (kI, 192, .inl g_now)), (m_low, .inl (kI, 1000, .inl g_low)), (m_high, .inl (kI, 1000, .inl g_high))] sz) [(h0, .inr (10, [.ref m_now, .ref m_draft, .ref m_past, .int j_acts, .ref m_images, .ref m_kept, .ref m_tape, .int j_taped, .int j_at, .int j_start, .int j_token, .int j_value, .int j_fault, .int j_place, .int j_latest, .ref m_low, .ref m_high, .ref m_first, .ref m_second, .ref m_lines, .ref m_others, .int j_shiftFirst, .int j_shiftMany, .int j_shiftLow, .int j_shiftHigh])), (m_now, .inl (kI, 192, .inl g_now)), (m_low, .inl (kI, 1000, .inl n_low)), (m_high, .inl (kI, 1000, .inl n_high))] ∧ bP n_low ∧ bP n_high) (va_A [(h0, .inr (10, [.ref m_now, .ref m_draft, .ref m_past, .int j_acts, .ref m_images, .ref m_kept, .ref m_tape, .int j_taped, .int j_at, .int j_start, .int j_token, .int j_value, .int j_fault, .int j_place, .int j_latest, .ref m_low, .ref m_high, .ref m_first, .ref m_second, .ref m_lines, .ref m_others, .int j_shiftFirst, .int j_shiftMany, .int j_shiftLow, .int j_shiftHigh])), (m_now, .inl (kI, 192, .inl g_now)), (m_low, .inl (kI, 1000, .inl g_low)), (m_high, .inl (kI, 1000, .inl g_high))] sz)) 0 0 (va_A [(h0, .inr (10, [.ref m_now, .ref m_draft, .ref m_past, .int j_acts, .ref m_images, .ref m_kept, .ref m_tape, .int j_taped, .int j_at, .int j_start, .int j_token, .int j_value, .int j_fault, .int j_place, .int j_latest, .ref m_low, .ref m_high, .ref m_first, .ref m_second, .ref m_lines, .ref m_others, .int j_shiftFirst, .int j_shiftMany, .int j_shiftLow, .int j_shiftHigh])), (m_now, .inl (kI, 192, .inl g_now)), (m_low, .inl (kI, 1000, .inl g_low)), (m_high, .inl (kI, 1000, .inl g_high))] sz) := by
  refine Met.ofW (cc := cX10_best) (maxL := 6) (ret := (some .int)) (by decide) rfl ?_
  intro p e s m args below meth c s₁ B hml hv
  obtain ⟨rfl, hsz, hP, hK, hD0⟩ := hv
  have hx := B.exec
  have hb := B.bytes
  have hr := B.returns
  have hts := atoms_spec (ws := w_X10_best) B.pre
  have hown : s.vm.findClass RX10 = some m.cls := findClass_of_methodNamed B.named
  have hlocks := B.notSynchronized
  subst hsz
  have hD := hD0.self (sz := s.heap.size)
  generalize hAe : va_A [(h0, .inr (10, [.ref m_now, .ref m_draft, .ref m_past, .int j_acts, .ref m_images, .ref m_kept, .ref m_tape, .int j_taped, .int j_at, .int j_start, .int j_token, .int j_value, .int j_fault, .int j_place, .int j_latest, .ref m_low, .ref m_high, .ref m_first, .ref m_second, .ref m_lines, .ref m_others, .int j_shiftFirst, .int j_shiftMany, .int j_shiftLow, .int j_shiftHigh])), (m_now, .inl (kI, 192, .inl g_now)), (m_low, .inl (kI, 1000, .inl g_low)), (m_high, .inl (kI, 1000, .inl g_high))] s.heap.size = A at hD ⊢
  have hA : ∀ q : Nat, s.heap.size ≤ q → A q := fun q h => by rw [← hAe]; exact Or.inr h
  have hS : va_S A s.heap s.heap [] := va_S.rf
  have hP : va_P D vwCl [(h0, .inr (10, [.ref m_now, .ref m_draft, .ref m_past, .int j_acts, .ref m_images, .ref m_kept, .ref m_tape, .int j_taped, .int j_at, .int j_start, .int j_token, .int j_value, .int j_fault, .int j_place, .int j_latest, .ref m_low, .ref m_high, .ref m_first, .ref m_second, .ref m_lines, .ref m_others, .int j_shiftFirst, .int j_shiftMany, .int j_shiftLow, .int j_shiftHigh])), (m_now, .inl (kI, 192, .inl g_now)), (m_low, .inl (kI, 1000, .inl g_low)), (m_high, .inl (kI, 1000, .inl g_high))] s.heap := hP
  have hl := lv_entry ([.ref h0]) (n := 6) (Nat.le_of_ble_eq_true rfl)
  rw [lg_entry_eq]
  generalize (lg_sl ([.ref h0]) ++ List.replicate (6 - (lg_sl ([.ref h0])).length) Slot.unset).toArray = ls at hl ⊢
  have hl : lv_has ls 6 [(0, .ref h0)] := hl
  obtain ⟨H, hHe⟩ : ∃ H : Heap, H = s.heap := ⟨_, rfl⟩
  rw [← hHe] at hP
  have hS : va_S A s.heap H [] := by rw [hHe]; exact hS
  refine pw_heap hHe ?_
  refine lv_aload_n hx hb dX10_best_0 rfl (lv_at hl 0 rfl) ?_
  have hPc := hP.sub (ws' := [(h0, .inr (10, [.ref m_now, .ref m_draft, .ref m_past, .int j_acts, .ref m_images, .ref m_kept, .ref m_tape, .int j_taped, .int j_at, .int j_start, .int j_token, .int j_value, .int j_fault, .int j_place, .int j_latest, .ref m_low, .ref m_high, .ref m_first, .ref m_second, .ref m_lines, .ref m_others, .int j_shiftFirst, .int j_shiftMany, .int j_shiftLow, .int j_shiftHigh])), (m_now, .inl (kI, 192, .inl g_now))]) [0, 1] rfl
  have hKc := hK.sub (tys' := [(kI, .int)]) [0] rfl
  refine va_calli (va_runV (As := []) (rest := []) ⟨hx, hb, hml, hown, hts⟩ (c_X10_isWork l D h0 m_now m_draft m_past j_acts m_images m_kept m_tape j_taped j_at j_start j_token j_value j_fault j_place j_latest m_low m_high m_first m_second m_lines m_others j_shiftFirst j_shiftMany j_shiftLow j_shiftHigh kI g_now hg_now) (cwV 0 hts g_X10_best_X10_isWork rfl rfl rfl (by decide +kernel) ⟨Nat.le_of_ble_eq_true rfl, Nat.le_of_ble_eq_true rfl⟩) ⟨fun a U g mk q => by obtain ⟨q0, qP, qK⟩ := q; exact ⟨q0, qP, va_K.moved (u := U) (U := U.calling g mk a) (Vm.Alike.refl U.vm) qK⟩, va_recv hKc hPc (ci := 10) (q0 := 0) rfl rfl, fun U hU hW => ⟨rfl, by rw [hU]; exact hPc, va_K.moved hW.alike hKc⟩⟩ rfl rfl hl.1 rfl (lv_room (Nat.le_of_ble_eq_true rfl)) dX10_best_1 ⟨Nat.le_of_ble_eq_true rfl, Nat.le_of_ble_eq_true rfl⟩) hS (fun _ _ h => h.elim) (fun _ h => h.elim) (fun r1 u t H1 locs ht hvm hw hB hz1 hk1 hS => ?_)
  have hP := pw_keep hP (fun q hq => hk1 q hq (fun h => h))
  generalize H1 = H at hP hS ⊢
  refine W.widen (k := 0) (n := 0) (Nat.le_of_ble_eq_true rfl) (Nat.le_of_ble_eq_true rfl) ?_
  have bor1 := hw.1
  have zor1 := pw_boolI bor1
  have hfr1 := hw.2
  refine lv_if_ne (tgt := 10) hx hb dX10_best_4 (by decide) (fun c2 => ?_) (fun c2 => ?_)
  · have nc2 : r1.toInt ≠ 0 := pw_ne c2 rfl (by decide)
    refine lv_aload_n hx hb dX10_best_10 rfl (lv_at hl 0 rfl) ?_
    have hPc := hP.sub (ws' := [(h0, .inr (10, [.ref m_now, .ref m_draft, .ref m_past, .int j_acts, .ref m_images, .ref m_kept, .ref m_tape, .int j_taped, .int j_at, .int j_start, .int j_token, .int j_value, .int j_fault, .int j_place, .int j_latest, .ref m_low, .ref m_high, .ref m_first, .ref m_second, .ref m_lines, .ref m_others, .int j_shiftFirst, .int j_shiftMany, .int j_shiftLow, .int j_shiftHigh])), (m_now, .inl (kI, 192, .inl g_now)), (m_low, .inl (kI, 1000, .inl g_low)), (m_high, .inl (kI, 1000, .inl g_high))]) [0, 1, 2, 3] rfl
    have hKc := hK.sub (tys' := [(kI, .int)]) [0] rfl
    have hDc := hD.sub (ws' := [(h0, .inr (10, [.ref m_now, .ref m_draft, .ref m_past, .int j_acts, .ref m_images, .ref m_kept, .ref m_tape, .int j_taped, .int j_at, .int j_start, .int j_token, .int j_value, .int j_fault, .int j_place, .int j_latest, .ref m_low, .ref m_high, .ref m_first, .ref m_second, .ref m_lines, .ref m_others, .int j_shiftFirst, .int j_shiftMany, .int j_shiftLow, .int j_shiftHigh])), (m_now, .inl (kI, 192, .inl g_now)), (m_low, .inl (kI, 1000, .inl g_low)), (m_high, .inl (kI, 1000, .inl g_high))]) [0, 1, 2, 3] (by decide) rfl
    have hFc := va_free (wc := [(h0, .inr (10, [.ref m_now, .ref m_draft, .ref m_past, .int j_acts, .ref m_images, .ref m_kept, .ref m_tape, .int j_taped, .int j_at, .int j_start, .int j_token, .int j_value, .int j_fault, .int j_place, .int j_latest, .ref m_low, .ref m_high, .ref m_first, .ref m_second, .ref m_lines, .ref m_others, .int j_shiftFirst, .int j_shiftMany, .int j_shiftLow, .int j_shiftHigh])), (m_now, .inl (kI, 192, .inl g_now)), (m_low, .inl (kI, 1000, .inl g_low)), (m_high, .inl (kI, 1000, .inl g_high))]) hD hS hA [0, 1, 2, 3] rfl
    refine va_callv (va_runV (As := []) (rest := []) ⟨hx, hb, hml, hown, hts⟩ (c_X10_lays l D h0 m_now m_draft m_past j_acts m_images m_kept m_tape j_taped j_at j_start j_token j_value j_fault j_place j_latest m_low m_high m_first m_second m_lines m_others j_shiftFirst j_shiftMany j_shiftLow j_shiftHigh kI g_now g_low g_high H.size hg_now hg_low hg_high) (cwV 0 hts g_X10_best_X10_lays rfl rfl rfl (by decide +kernel) ⟨Nat.le_of_ble_eq_true rfl, Nat.le_of_ble_eq_true rfl⟩) ⟨fun a U g mk q => by obtain ⟨q0, q1, qP, qK, qD⟩ := q; exact ⟨q0, q1, qP, va_K.moved (u := U) (U := U.calling g mk a) (Vm.Alike.refl U.vm) qK, qD⟩, va_recv hKc hPc (ci := 10) (q0 := 0) rfl rfl, fun U hU hW => ⟨rfl, by rw [hU], by rw [hU]; exact hPc, va_K.moved hW.alike hKc, hDc.weaken (fun _ _ _ _ => trivial)⟩⟩ rfl rfl hl.1 rfl (lv_room (Nat.le_of_ble_eq_true rfl)) dX10_best_11 ⟨Nat.le_of_ble_eq_true rfl, Nat.le_of_ble_eq_true rfl⟩) hS (fun q _ h => hFc q h) hFc (fun u t H1 locs ht hvm hw hB hz1 hk1 hS => ?_)
    obtain ⟨y4, y5, hP1, hK1, hD1, hy4, hy5⟩ := hB
    rw [ht] at hP1
    have hK1 := va_K.moved hvm.symm hK1
    obtain ⟨hP, hD⟩ := va_join (wr := []) (w1 := [(h0, .inr (10, [.ref m_now, .ref m_draft, .ref m_past, .int j_acts, .ref m_images, .ref m_kept, .ref m_tape, .int j_taped, .int j_at, .int j_start, .int j_token, .int j_value, .int j_fault, .int j_place, .int j_latest, .ref m_low, .ref m_high, .ref m_first, .ref m_second, .ref m_lines, .ref m_others, .int j_shiftFirst, .int j_shiftMany, .int j_shiftLow, .int j_shiftHigh])), (m_now, .inl (kI, 192, .inl g_now)), (m_low, .inl (kI, 1000, .inl y4)), (m_high, .inl (kI, 1000, .inl y5))]) hP hD [0, 1, 2, 3] [] rfl rfl (by decide) (by decide) hk1 hFc hP1 hD1
    have hK := (hK.sub (tys' := [(kI, .int)]) [0] rfl).app hK1
    generalize H1 = H at hP hS ⊢
    have hP : va_P D vwCl [(h0, .inr (10, [.ref m_now, .ref m_draft, .ref m_past, .int j_acts, .ref m_images, .ref m_kept, .ref m_tape, .int j_taped, .int j_at, .int j_start, .int j_token, .int j_value, .int j_fault, .int j_place, .int j_latest, .ref m_low, .ref m_high, .ref m_first, .ref m_second, .ref m_lines, .ref m_others, .int j_shiftFirst, .int j_shiftMany, .int j_shiftLow, .int j_shiftHigh])), (m_now, .inl (kI, 192, .inl g_now)), (m_low, .inl (kI, 1000, .inl y4)), (m_high, .inl (kI, 1000, .inl y5))] H := hP
    have hD : va_D A [(h0, .inr (10, [.ref m_now, .ref m_draft, .ref m_past, .int j_acts, .ref m_images, .ref m_kept, .ref m_tape, .int j_taped, .int j_at, .int j_start, .int j_token, .int j_value, .int j_fault, .int j_place, .int j_latest, .ref m_low, .ref m_high, .ref m_first, .ref m_second, .ref m_lines, .ref m_others, .int j_shiftFirst, .int j_shiftMany, .int j_shiftLow, .int j_shiftHigh])), (m_now, .inl (kI, 192, .inl g_now)), (m_low, .inl (kI, 1000, .inl y4)), (m_high, .inl (kI, 1000, .inl y5))] := hD
    have hK : va_K D vwCl [(kI, .int), (kI, .int)] s := hK
    refine W.widen (k := 0) (n := 0) (Nat.le_of_ble_eq_true rfl) (Nat.le_of_ble_eq_true rfl) ?_
    refine lv_ldc hx hb hown (hts (.constant RX10 61 (-1000000)) (List.mem_of_getElem? (i := 11) rfl)) dX10_best_14 ?_
    refine lv_istore_n (lv' := [(1, .int (-1000000)), (0, .ref h0)]) hx hb dX10_best_16 rfl hl (by decide) rfl (fun ls hl => ?_)
    refine lv_iconst (v := 0) hx hb dX10_best_17 (by decide) ?_
    refine lv_istore_n (lv' := [(2, .int 0), (1, .int (-1000000)), (0, .ref h0)]) hx hb dX10_best_18 rfl hl (by decide) rfl (fun ls hl => ?_)
    refine lv_iconst (v := 0) hx hb dX10_best_19 (by decide) ?_
    refine lv_istore_n (lv' := [(3, .int 0), (2, .int 0), (1, .int (-1000000)), (0, .ref h0)]) hx hb dX10_best_20 rfl hl (by decide) rfl (fun ls hl => ?_)
    have hl9 : lv_has ls 6 [(0, .ref h0), (1, .int (-1000000)), (2, .int 0), (3, .int 0)] := lv_sub hl [3, 2, 1, 0] rfl
    refine pw_loop (fun (zz : Int32 × Int32 × Int32) H locs ls => match zz with | (v55, v56, v57) => va_P D vwCl [(h0, .inr (10, [.ref m_now, .ref m_draft, .ref m_past, .int j_acts, .ref m_images, .ref m_kept, .ref m_tape, .int j_taped, .int j_at, .int j_start, .int j_token, .int j_value, .int j_fault, .int j_place, .int j_latest, .ref m_low, .ref m_high, .ref m_first, .ref m_second, .ref m_lines, .ref m_others, .int j_shiftFirst, .int j_shiftMany, .int j_shiftLow, .int j_shiftHigh])), (m_now, .inl (kI, 192, .inl g_now)), (m_low, .inl (kI, 1000, .inl y4)), (m_high, .inl (kI, 1000, .inl y5))] H ∧ va_D A [(h0, .inr (10, [.ref m_now, .ref m_draft, .ref m_past, .int j_acts, .ref m_images, .ref m_kept, .ref m_tape, .int j_taped, .int j_at, .int j_start, .int j_token, .int j_value, .int j_fault, .int j_place, .int j_latest, .ref m_low, .ref m_high, .ref m_first, .ref m_second, .ref m_lines, .ref m_others, .int j_shiftFirst, .int j_shiftMany, .int j_shiftLow, .int j_shiftHigh])), (m_now, .inl (kI, 192, .inl g_now)), (m_low, .inl (kI, 1000, .inl y4)), (m_high, .inl (kI, 1000, .inl y5))] ∧ va_S A s.heap H locs ∧ lv_has ls 6 [(0, .ref h0), (1, .int v55), (2, .int v56), (3, .int v57)] ∧ 0 ≤ v57.toInt) (fun (zz : Int32 × Int32 × Int32)  => match zz with | (v55, v56, v57) => (2147483648 - v57.toInt).toNat) 0 0 (fun (zz : Int32 × Int32 × Int32) ls => match zz with | (v55, v56, v57) => F0 m 21 ls []) (fun zz H locs ls ih58 hI => ?_) ((-1000000), 0, 0) _ _ _ ⟨hP, hD, hS, hl9, (by decide)⟩
    obtain ⟨v55, v56, v57⟩ := zz
    obtain ⟨hP, hD, hS, hl, bv57⟩ := hI
    have bv57 : 0 ≤ v57.toInt := bv57
    have hP : va_P D vwCl [(h0, .inr (10, [.ref m_now, .ref m_draft, .ref m_past, .int j_acts, .ref m_images, .ref m_kept, .ref m_tape, .int j_taped, .int j_at, .int j_start, .int j_token, .int j_value, .int j_fault, .int j_place, .int j_latest, .ref m_low, .ref m_high, .ref m_first, .ref m_second, .ref m_lines, .ref m_others, .int j_shiftFirst, .int j_shiftMany, .int j_shiftLow, .int j_shiftHigh])), (m_now, .inl (kI, 192, .inl g_now)), (m_low, .inl (kI, 1000, .inl y4)), (m_high, .inl (kI, 1000, .inl y5))] H := hP
    have hD : va_D A [(h0, .inr (10, [.ref m_now, .ref m_draft, .ref m_past, .int j_acts, .ref m_images, .ref m_kept, .ref m_tape, .int j_taped, .int j_at, .int j_start, .int j_token, .int j_value, .int j_fault, .int j_place, .int j_latest, .ref m_low, .ref m_high, .ref m_first, .ref m_second, .ref m_lines, .ref m_others, .int j_shiftFirst, .int j_shiftMany, .int j_shiftLow, .int j_shiftHigh])), (m_now, .inl (kI, 192, .inl g_now)), (m_low, .inl (kI, 1000, .inl y4)), (m_high, .inl (kI, 1000, .inl y5))] := hD
    have hK : va_K D vwCl [(kI, .int), (kI, .int)] s := hK
    have hl : lv_has ls 6 [(0, .ref h0), (1, .int v55), (2, .int v56), (3, .int v57)] := hl
    refine W.eq (g2 := F0 m 21 ls []) rfl ?_
    refine lv_iload_n hx hb dX10_best_21 rfl (lv_at hl 3 rfl) ?_
    refine lv_aload_n hx hb dX10_best_22 rfl (lv_at hl 0 rfl) ?_
    refine va_get (D := D) (ci := 10) (v := .ref m_now) (C := RX10) (T := TX10) (N := 25) hx hb hts (fun _ h => List.mem_cons_of_mem _ (List.mem_append_right _ h)) hown hK hP 0 rfl rfl 0 (by decide) (hts (.fieldLink RX10 7 "LineCitesModel" "now" "[I") (List.mem_of_getElem? (i := 6) rfl)) (fun _ h9 => h9) rfl dX10_best_23 ?_
    refine lv_iconst (v := 1) hx hb dX10_best_26 (by decide) ?_
    refine va_iald hx hb hK hP 1 0 rfl rfl (vp_in_iff.mpr (by decide)) dX10_best_27 ?_
    refine lv_topi (fun x59 ex59 => ?_)
    have nx59 : 0 ≤ x59.toInt ∧ x59.toInt ≤ 5 := gV_1 hg_now ex59
    refine lv_icmp_ge (tgt := 86) hx hb dX10_best_28 (by decide) (fun c77 => ?_) (fun c77 => ?_)
    · have nc77 : x59.toInt ≤ v57.toInt := pw_le c77 rfl rfl
      have mc77v57 := pw_max v57
      have mc77x59 := pw_max x59
      refine lv_iload_n hx hb dX10_best_86 rfl (lv_at hl 1 rfl) ?_
      have hP9 := hP.sub (ws' := [(h0, .inr (10, [.ref m_now, .ref m_draft, .ref m_past, .int j_acts, .ref m_images, .ref m_kept, .ref m_tape, .int j_taped, .int j_at, .int j_start, .int j_token, .int j_value, .int j_fault, .int j_place, .int j_latest, .ref m_low, .ref m_high, .ref m_first, .ref m_second, .ref m_lines, .ref m_others, .int j_shiftFirst, .int j_shiftMany, .int j_shiftLow, .int j_shiftHigh])), (m_now, .inl (kI, 192, .inl g_now)), (m_low, .inl (kI, 1000, .inl y4)), (m_high, .inl (kI, 1000, .inl y5))]) [0, 1, 2, 3] rfl
      have hD9 := hD.sub (ws' := [(h0, .inr (10, [.ref m_now, .ref m_draft, .ref m_past, .int j_acts, .ref m_images, .ref m_kept, .ref m_tape, .int j_taped, .int j_at, .int j_start, .int j_token, .int j_value, .int j_fault, .int j_place, .int j_latest, .ref m_low, .ref m_high, .ref m_first, .ref m_second, .ref m_lines, .ref m_others, .int j_shiftFirst, .int j_shiftMany, .int j_shiftLow, .int j_shiftHigh])), (m_now, .inl (kI, 192, .inl g_now)), (m_low, .inl (kI, 1000, .inl y4)), (m_high, .inl (kI, 1000, .inl y5))]) [0, 1, 2, 3] (by decide) rfl
      have hK9 := hK.sub (tys' := [(kI, .int)]) [0] rfl
      refine W.widen (k := 0) (n := 0) (Nat.le_of_ble_eq_true rfl) (Nat.le_of_ble_eq_true rfl) ?_
      exact W.iret (v := v55) hx hb hr (fun t ht hW => ⟨⟨v55, (), rfl, trivial, y4, y5, by rw [ht]; exact hP9, va_K.moved hW.alike hK9, hD9, hy4, hy5⟩, hS.F ht⟩) hS.2.2 dX10_best_87
    · have nc77 : v57.toInt < x59.toInt := pw_nle c77 rfl rfl
      have mc77v57 := pw_max v57
      have mc77x59 := pw_max x59
      refine lv_aload_n hx hb dX10_best_31 rfl (lv_at hl 0 rfl) ?_
      refine lv_iload_n hx hb dX10_best_32 rfl (lv_at hl 3 rfl) ?_
      have hPc := hP.sub (ws' := [(h0, .inr (10, [.ref m_now, .ref m_draft, .ref m_past, .int j_acts, .ref m_images, .ref m_kept, .ref m_tape, .int j_taped, .int j_at, .int j_start, .int j_token, .int j_value, .int j_fault, .int j_place, .int j_latest, .ref m_low, .ref m_high, .ref m_first, .ref m_second, .ref m_lines, .ref m_others, .int j_shiftFirst, .int j_shiftMany, .int j_shiftLow, .int j_shiftHigh])), (m_now, .inl (kI, 192, .inl g_now)), (m_low, .inl (kI, 1000, .inl y4)), (m_high, .inl (kI, 1000, .inl y5))]) [0, 1, 2, 3] rfl
      have hKc := hK.sub (tys' := [(kI, .int)]) [0] rfl
      refine va_calli (va_runV (As := [.int v57]) (rest := []) ⟨hx, hb, hml, hown, hts⟩ (c_X10_scoreOf l D h0 v57 m_now m_draft m_past j_acts m_images m_kept m_tape j_taped j_at j_start j_token j_value j_fault j_place j_latest m_low m_high m_first m_second m_lines m_others j_shiftFirst j_shiftMany j_shiftLow j_shiftHigh kI g_now y4 y5 (by first | decide | omega) (by first | decide | omega) hg_now hy4 hy5) (cwV 1 hts g_X10_best_X10_scoreOf rfl rfl rfl (by decide +kernel) ⟨Nat.le_of_ble_eq_true rfl, Nat.le_of_ble_eq_true rfl⟩) ⟨fun a U g mk q => by obtain ⟨q0, qP, qK⟩ := q; exact ⟨q0, qP, va_K.moved (u := U) (U := U.calling g mk a) (Vm.Alike.refl U.vm) qK⟩, va_recv hKc hPc (ci := 10) (q0 := 0) rfl rfl, fun U hU hW => ⟨rfl, by rw [hU]; exact hPc, va_K.moved hW.alike hKc⟩⟩ rfl rfl hl.1 rfl (lv_room (Nat.le_of_ble_eq_true rfl)) dX10_best_33 ⟨Nat.le_of_ble_eq_true rfl, Nat.le_of_ble_eq_true rfl⟩) hS (fun _ _ h => h.elim) (fun _ h => h.elim) (fun r78 u t H1 locs ht hvm hw hB hz1 hk1 hS => ?_)
      have hP := pw_keep hP (fun q hq => hk1 q hq (fun h => h))
      generalize H1 = H at hP hS ⊢
      refine W.widen (k := 0) (n := 0) (Nat.le_of_ble_eq_true rfl) (Nat.le_of_ble_eq_true rfl) ?_
      refine lv_istore (lv' := [(4, .int r78), (0, .ref h0), (1, .int v55), (2, .int v56), (3, .int v57)]) hx hb dX10_best_36 hl (by decide) rfl (fun ls hl => ?_)
      refine lv_iload_n hx hb dX10_best_38 rfl (lv_at hl 2 rfl) ?_
      refine lv_ldc hx hb hown (hts (.constant RX10 61 (-1000000)) (List.mem_of_getElem? (i := 11) rfl)) dX10_best_39 ?_
      refine pw_join (fun (v81 : Int32) H locs ls => va_P D vwCl [(h0, .inr (10, [.ref m_now, .ref m_draft, .ref m_past, .int j_acts, .ref m_images, .ref m_kept, .ref m_tape, .int j_taped, .int j_at, .int j_start, .int j_token, .int j_value, .int j_fault, .int j_place, .int j_latest, .ref m_low, .ref m_high, .ref m_first, .ref m_second, .ref m_lines, .ref m_others, .int j_shiftFirst, .int j_shiftMany, .int j_shiftLow, .int j_shiftHigh])), (m_now, .inl (kI, 192, .inl g_now)), (m_low, .inl (kI, 1000, .inl y4)), (m_high, .inl (kI, 1000, .inl y5))] H ∧ va_D A [(h0, .inr (10, [.ref m_now, .ref m_draft, .ref m_past, .int j_acts, .ref m_images, .ref m_kept, .ref m_tape, .int j_taped, .int j_at, .int j_start, .int j_token, .int j_value, .int j_fault, .int j_place, .int j_latest, .ref m_low, .ref m_high, .ref m_first, .ref m_second, .ref m_lines, .ref m_others, .int j_shiftFirst, .int j_shiftMany, .int j_shiftLow, .int j_shiftHigh])), (m_now, .inl (kI, 192, .inl g_now)), (m_low, .inl (kI, 1000, .inl y4)), (m_high, .inl (kI, 1000, .inl y5))] ∧ va_S A s.heap H locs ∧ lv_has ls 6 [(0, .ref h0), (1, .int v55), (2, .int v56), (3, .int v57), (4, .int r78)]) 0 0 (fun (v81 : Int32) ls => F0 m 55 ls [.int v81]) (fun v81 H locs ls hI => ?_) (fun hJ82 => ?_)
      ·
        obtain ⟨hP, hD, hS, hl⟩ := hI
        have hP : va_P D vwCl [(h0, .inr (10, [.ref m_now, .ref m_draft, .ref m_past, .int j_acts, .ref m_images, .ref m_kept, .ref m_tape, .int j_taped, .int j_at, .int j_start, .int j_token, .int j_value, .int j_fault, .int j_place, .int j_latest, .ref m_low, .ref m_high, .ref m_first, .ref m_second, .ref m_lines, .ref m_others, .int j_shiftFirst, .int j_shiftMany, .int j_shiftLow, .int j_shiftHigh])), (m_now, .inl (kI, 192, .inl g_now)), (m_low, .inl (kI, 1000, .inl y4)), (m_high, .inl (kI, 1000, .inl y5))] H := hP
        have hD : va_D A [(h0, .inr (10, [.ref m_now, .ref m_draft, .ref m_past, .int j_acts, .ref m_images, .ref m_kept, .ref m_tape, .int j_taped, .int j_at, .int j_start, .int j_token, .int j_value, .int j_fault, .int j_place, .int j_latest, .ref m_low, .ref m_high, .ref m_first, .ref m_second, .ref m_lines, .ref m_others, .int j_shiftFirst, .int j_shiftMany, .int j_shiftLow, .int j_shiftHigh])), (m_now, .inl (kI, 192, .inl g_now)), (m_low, .inl (kI, 1000, .inl y4)), (m_high, .inl (kI, 1000, .inl y5))] := hD
        have hK : va_K D vwCl [(kI, .int), (kI, .int)] s := hK
        have hl : lv_has ls 6 [(0, .ref h0), (1, .int v55), (2, .int v56), (3, .int v57), (4, .int r78)] := hl
        refine W.eq (g2 := F0 m 55 ls [.int v81]) rfl ?_
        refine lv_istore (lv' := [(5, .int v81), (0, .ref h0), (1, .int v55), (2, .int v56), (3, .int v57), (4, .int r78)]) hx hb dX10_best_55 hl (by decide) rfl (fun ls hl => ?_)
        refine lv_iload hx hb dX10_best_57 (lv_at hl 0 rfl) ?_
        refine pw_join (fun (v84 : Int32) H locs ls => va_P D vwCl [(h0, .inr (10, [.ref m_now, .ref m_draft, .ref m_past, .int j_acts, .ref m_images, .ref m_kept, .ref m_tape, .int j_taped, .int j_at, .int j_start, .int j_token, .int j_value, .int j_fault, .int j_place, .int j_latest, .ref m_low, .ref m_high, .ref m_first, .ref m_second, .ref m_lines, .ref m_others, .int j_shiftFirst, .int j_shiftMany, .int j_shiftLow, .int j_shiftHigh])), (m_now, .inl (kI, 192, .inl g_now)), (m_low, .inl (kI, 1000, .inl y4)), (m_high, .inl (kI, 1000, .inl y5))] H ∧ va_D A [(h0, .inr (10, [.ref m_now, .ref m_draft, .ref m_past, .int j_acts, .ref m_images, .ref m_kept, .ref m_tape, .int j_taped, .int j_at, .int j_start, .int j_token, .int j_value, .int j_fault, .int j_place, .int j_latest, .ref m_low, .ref m_high, .ref m_first, .ref m_second, .ref m_lines, .ref m_others, .int j_shiftFirst, .int j_shiftMany, .int j_shiftLow, .int j_shiftHigh])), (m_now, .inl (kI, 192, .inl g_now)), (m_low, .inl (kI, 1000, .inl y4)), (m_high, .inl (kI, 1000, .inl y5))] ∧ va_S A s.heap H locs ∧ lv_has ls 6 [(0, .ref h0), (1, .int v55), (2, .int v56), (3, .int v57), (4, .int r78), (5, .int v81)]) 0 0 (fun (v84 : Int32) ls => F0 m 67 ls [.int v84]) (fun v84 H locs ls hI => ?_) (fun hJ85 => ?_)
        ·
          obtain ⟨hP, hD, hS, hl⟩ := hI
          have hP : va_P D vwCl [(h0, .inr (10, [.ref m_now, .ref m_draft, .ref m_past, .int j_acts, .ref m_images, .ref m_kept, .ref m_tape, .int j_taped, .int j_at, .int j_start, .int j_token, .int j_value, .int j_fault, .int j_place, .int j_latest, .ref m_low, .ref m_high, .ref m_first, .ref m_second, .ref m_lines, .ref m_others, .int j_shiftFirst, .int j_shiftMany, .int j_shiftLow, .int j_shiftHigh])), (m_now, .inl (kI, 192, .inl g_now)), (m_low, .inl (kI, 1000, .inl y4)), (m_high, .inl (kI, 1000, .inl y5))] H := hP
          have hD : va_D A [(h0, .inr (10, [.ref m_now, .ref m_draft, .ref m_past, .int j_acts, .ref m_images, .ref m_kept, .ref m_tape, .int j_taped, .int j_at, .int j_start, .int j_token, .int j_value, .int j_fault, .int j_place, .int j_latest, .ref m_low, .ref m_high, .ref m_first, .ref m_second, .ref m_lines, .ref m_others, .int j_shiftFirst, .int j_shiftMany, .int j_shiftLow, .int j_shiftHigh])), (m_now, .inl (kI, 192, .inl g_now)), (m_low, .inl (kI, 1000, .inl y4)), (m_high, .inl (kI, 1000, .inl y5))] := hD
          have hK : va_K D vwCl [(kI, .int), (kI, .int)] s := hK
          have hl : lv_has ls 6 [(0, .ref h0), (1, .int v55), (2, .int v56), (3, .int v57), (4, .int r78), (5, .int v81)] := hl
          refine W.eq (g2 := F0 m 67 ls [.int v84]) rfl ?_
          refine lv_istore_n (lv' := [(1, .int v84), (0, .ref h0), (2, .int v56), (3, .int v57), (4, .int r78), (5, .int v81)]) hx hb dX10_best_67 rfl hl (by decide) rfl (fun ls hl => ?_)
          refine lv_iload hx hb dX10_best_68 (lv_at hl 5 rfl) ?_
          refine pw_join (fun (v87 : Int32) H locs ls => va_P D vwCl [(h0, .inr (10, [.ref m_now, .ref m_draft, .ref m_past, .int j_acts, .ref m_images, .ref m_kept, .ref m_tape, .int j_taped, .int j_at, .int j_start, .int j_token, .int j_value, .int j_fault, .int j_place, .int j_latest, .ref m_low, .ref m_high, .ref m_first, .ref m_second, .ref m_lines, .ref m_others, .int j_shiftFirst, .int j_shiftMany, .int j_shiftLow, .int j_shiftHigh])), (m_now, .inl (kI, 192, .inl g_now)), (m_low, .inl (kI, 1000, .inl y4)), (m_high, .inl (kI, 1000, .inl y5))] H ∧ va_D A [(h0, .inr (10, [.ref m_now, .ref m_draft, .ref m_past, .int j_acts, .ref m_images, .ref m_kept, .ref m_tape, .int j_taped, .int j_at, .int j_start, .int j_token, .int j_value, .int j_fault, .int j_place, .int j_latest, .ref m_low, .ref m_high, .ref m_first, .ref m_second, .ref m_lines, .ref m_others, .int j_shiftFirst, .int j_shiftMany, .int j_shiftLow, .int j_shiftHigh])), (m_now, .inl (kI, 192, .inl g_now)), (m_low, .inl (kI, 1000, .inl y4)), (m_high, .inl (kI, 1000, .inl y5))] ∧ va_S A s.heap H locs ∧ lv_has ls 6 [(0, .ref h0), (1, .int v84), (2, .int v56), (3, .int v57), (4, .int r78), (5, .int v81)]) 0 0 (fun (v87 : Int32) ls => F0 m 79 ls [.int v87]) (fun v87 H locs ls hI => ?_) (fun hJ88 => ?_)
          ·
            obtain ⟨hP, hD, hS, hl⟩ := hI
            have hP : va_P D vwCl [(h0, .inr (10, [.ref m_now, .ref m_draft, .ref m_past, .int j_acts, .ref m_images, .ref m_kept, .ref m_tape, .int j_taped, .int j_at, .int j_start, .int j_token, .int j_value, .int j_fault, .int j_place, .int j_latest, .ref m_low, .ref m_high, .ref m_first, .ref m_second, .ref m_lines, .ref m_others, .int j_shiftFirst, .int j_shiftMany, .int j_shiftLow, .int j_shiftHigh])), (m_now, .inl (kI, 192, .inl g_now)), (m_low, .inl (kI, 1000, .inl y4)), (m_high, .inl (kI, 1000, .inl y5))] H := hP
            have hD : va_D A [(h0, .inr (10, [.ref m_now, .ref m_draft, .ref m_past, .int j_acts, .ref m_images, .ref m_kept, .ref m_tape, .int j_taped, .int j_at, .int j_start, .int j_token, .int j_value, .int j_fault, .int j_place, .int j_latest, .ref m_low, .ref m_high, .ref m_first, .ref m_second, .ref m_lines, .ref m_others, .int j_shiftFirst, .int j_shiftMany, .int j_shiftLow, .int j_shiftHigh])), (m_now, .inl (kI, 192, .inl g_now)), (m_low, .inl (kI, 1000, .inl y4)), (m_high, .inl (kI, 1000, .inl y5))] := hD
            have hK : va_K D vwCl [(kI, .int), (kI, .int)] s := hK
            have hl : lv_has ls 6 [(0, .ref h0), (1, .int v84), (2, .int v56), (3, .int v57), (4, .int r78), (5, .int v81)] := hl
            refine W.eq (g2 := F0 m 79 ls [.int v87]) rfl ?_
            refine lv_istore_n (lv' := [(2, .int v87), (0, .ref h0), (1, .int v84), (3, .int v57), (4, .int r78), (5, .int v81)]) hx hb dX10_best_79 rfl hl (by decide) rfl (fun ls hl => ?_)
            obtain ⟨x89, ex89⟩ : ∃ y : Int32, y = v57 + 1 := ⟨_, rfl⟩
            have tx89 : x89.toInt = v57.toInt + 1 := pw_addX ex89 rfl (by decide) (by omega) (by omega)
            refine lv_iinc (v := x89) (lv' := [(3, .int x89), (2, .int v87), (0, .ref h0), (1, .int v84), (4, .int r78), (5, .int v81)]) hx hb dX10_best_80 hl (k := 3) rfl (by rw [ex89]; rfl) (by decide) rfl (fun ls hl => ?_)
            refine lv_goto (tgt := 21) hx hb dX10_best_83 (by decide) ?_
            have hP9 : va_P D vwCl [(h0, .inr (10, [.ref m_now, .ref m_draft, .ref m_past, .int j_acts, .ref m_images, .ref m_kept, .ref m_tape, .int j_taped, .int j_at, .int j_start, .int j_token, .int j_value, .int j_fault, .int j_place, .int j_latest, .ref m_low, .ref m_high, .ref m_first, .ref m_second, .ref m_lines, .ref m_others, .int j_shiftFirst, .int j_shiftMany, .int j_shiftLow, .int j_shiftHigh])), (m_now, .inl (kI, 192, .inl g_now)), (m_low, .inl (kI, 1000, .inl y4)), (m_high, .inl (kI, 1000, .inl y5))] H := hP.sub [0, 1, 2, 3] rfl
            have hD9 : va_D A [(h0, .inr (10, [.ref m_now, .ref m_draft, .ref m_past, .int j_acts, .ref m_images, .ref m_kept, .ref m_tape, .int j_taped, .int j_at, .int j_start, .int j_token, .int j_value, .int j_fault, .int j_place, .int j_latest, .ref m_low, .ref m_high, .ref m_first, .ref m_second, .ref m_lines, .ref m_others, .int j_shiftFirst, .int j_shiftMany, .int j_shiftLow, .int j_shiftHigh])), (m_now, .inl (kI, 192, .inl g_now)), (m_low, .inl (kI, 1000, .inl y4)), (m_high, .inl (kI, 1000, .inl y5))] := hD.sub [0, 1, 2, 3] (by decide) rfl
            have hl9 : lv_has ls 6 [(0, .ref h0), (1, .int v84), (2, .int v87), (3, .int x89)] := lv_sub hl [2, 3, 1, 0] rfl
            refine W.widen (k := 0) (n := 0) (Nat.le_of_ble_eq_true rfl) (Nat.le_of_ble_eq_true rfl) ?_
            exact ih58 (v84, v87, x89) _ _ _ (pw_up ex89 (by omega)) ⟨hP9, hD9, hS, hl9, (pw_upge ex89 (by omega) (by omega))⟩
          ·
            refine lv_if_eq (tgt := 78) hx hb dX10_best_70 (by decide) (fun c90 => ?_) (fun c90 => ?_)
            · have nc90 : v81.toInt = 0 := pw_eq c90 rfl (by decide)
              refine lv_iload_n hx hb dX10_best_78 rfl (lv_at hl 2 rfl) ?_
              have hP9 : va_P D vwCl [(h0, .inr (10, [.ref m_now, .ref m_draft, .ref m_past, .int j_acts, .ref m_images, .ref m_kept, .ref m_tape, .int j_taped, .int j_at, .int j_start, .int j_token, .int j_value, .int j_fault, .int j_place, .int j_latest, .ref m_low, .ref m_high, .ref m_first, .ref m_second, .ref m_lines, .ref m_others, .int j_shiftFirst, .int j_shiftMany, .int j_shiftLow, .int j_shiftHigh])), (m_now, .inl (kI, 192, .inl g_now)), (m_low, .inl (kI, 1000, .inl y4)), (m_high, .inl (kI, 1000, .inl y5))] H := hP.sub [0, 1, 2, 3] rfl
              have hD9 : va_D A [(h0, .inr (10, [.ref m_now, .ref m_draft, .ref m_past, .int j_acts, .ref m_images, .ref m_kept, .ref m_tape, .int j_taped, .int j_at, .int j_start, .int j_token, .int j_value, .int j_fault, .int j_place, .int j_latest, .ref m_low, .ref m_high, .ref m_first, .ref m_second, .ref m_lines, .ref m_others, .int j_shiftFirst, .int j_shiftMany, .int j_shiftLow, .int j_shiftHigh])), (m_now, .inl (kI, 192, .inl g_now)), (m_low, .inl (kI, 1000, .inl y4)), (m_high, .inl (kI, 1000, .inl y5))] := hD.sub [0, 1, 2, 3] (by decide) rfl
              have hl9 : lv_has ls 6 [(0, .ref h0), (1, .int v84), (2, .int v56), (3, .int v57), (4, .int r78), (5, .int v81)] := lv_sub hl [1, 0, 2, 3, 4, 5] rfl
              refine W.widen (k := 0) (n := 0) (Nat.le_of_ble_eq_true rfl) (Nat.le_of_ble_eq_true rfl) ?_
              exact hJ88 v56 _ _ _ ⟨hP9, hD9, hS, hl9⟩
            · have nc90 : v81.toInt ≠ 0 := pw_ne c90 rfl (by decide)
              refine lv_iload hx hb dX10_best_73 (lv_at hl 4 rfl) ?_
              refine lv_goto (tgt := 79) hx hb dX10_best_75 (by decide) ?_
              have hP9 : va_P D vwCl [(h0, .inr (10, [.ref m_now, .ref m_draft, .ref m_past, .int j_acts, .ref m_images, .ref m_kept, .ref m_tape, .int j_taped, .int j_at, .int j_start, .int j_token, .int j_value, .int j_fault, .int j_place, .int j_latest, .ref m_low, .ref m_high, .ref m_first, .ref m_second, .ref m_lines, .ref m_others, .int j_shiftFirst, .int j_shiftMany, .int j_shiftLow, .int j_shiftHigh])), (m_now, .inl (kI, 192, .inl g_now)), (m_low, .inl (kI, 1000, .inl y4)), (m_high, .inl (kI, 1000, .inl y5))] H := hP.sub [0, 1, 2, 3] rfl
              have hD9 : va_D A [(h0, .inr (10, [.ref m_now, .ref m_draft, .ref m_past, .int j_acts, .ref m_images, .ref m_kept, .ref m_tape, .int j_taped, .int j_at, .int j_start, .int j_token, .int j_value, .int j_fault, .int j_place, .int j_latest, .ref m_low, .ref m_high, .ref m_first, .ref m_second, .ref m_lines, .ref m_others, .int j_shiftFirst, .int j_shiftMany, .int j_shiftLow, .int j_shiftHigh])), (m_now, .inl (kI, 192, .inl g_now)), (m_low, .inl (kI, 1000, .inl y4)), (m_high, .inl (kI, 1000, .inl y5))] := hD.sub [0, 1, 2, 3] (by decide) rfl
              have hl9 : lv_has ls 6 [(0, .ref h0), (1, .int v84), (2, .int v56), (3, .int v57), (4, .int r78), (5, .int v81)] := lv_sub hl [1, 0, 2, 3, 4, 5] rfl
              refine W.widen (k := 0) (n := 0) (Nat.le_of_ble_eq_true rfl) (Nat.le_of_ble_eq_true rfl) ?_
              exact hJ88 r78 _ _ _ ⟨hP9, hD9, hS, hl9⟩
        ·
          refine lv_if_eq (tgt := 66) hx hb dX10_best_59 (by decide) (fun c91 => ?_) (fun c91 => ?_)
          · have nc91 : v81.toInt = 0 := pw_eq c91 rfl (by decide)
            refine lv_iload_n hx hb dX10_best_66 rfl (lv_at hl 2 rfl) ?_
            have hP9 : va_P D vwCl [(h0, .inr (10, [.ref m_now, .ref m_draft, .ref m_past, .int j_acts, .ref m_images, .ref m_kept, .ref m_tape, .int j_taped, .int j_at, .int j_start, .int j_token, .int j_value, .int j_fault, .int j_place, .int j_latest, .ref m_low, .ref m_high, .ref m_first, .ref m_second, .ref m_lines, .ref m_others, .int j_shiftFirst, .int j_shiftMany, .int j_shiftLow, .int j_shiftHigh])), (m_now, .inl (kI, 192, .inl g_now)), (m_low, .inl (kI, 1000, .inl y4)), (m_high, .inl (kI, 1000, .inl y5))] H := hP.sub [0, 1, 2, 3] rfl
            have hD9 : va_D A [(h0, .inr (10, [.ref m_now, .ref m_draft, .ref m_past, .int j_acts, .ref m_images, .ref m_kept, .ref m_tape, .int j_taped, .int j_at, .int j_start, .int j_token, .int j_value, .int j_fault, .int j_place, .int j_latest, .ref m_low, .ref m_high, .ref m_first, .ref m_second, .ref m_lines, .ref m_others, .int j_shiftFirst, .int j_shiftMany, .int j_shiftLow, .int j_shiftHigh])), (m_now, .inl (kI, 192, .inl g_now)), (m_low, .inl (kI, 1000, .inl y4)), (m_high, .inl (kI, 1000, .inl y5))] := hD.sub [0, 1, 2, 3] (by decide) rfl
            have hl9 : lv_has ls 6 [(0, .ref h0), (1, .int v55), (2, .int v56), (3, .int v57), (4, .int r78), (5, .int v81)] := lv_sub hl [1, 2, 3, 4, 5, 0] rfl
            refine W.widen (k := 0) (n := 0) (Nat.le_of_ble_eq_true rfl) (Nat.le_of_ble_eq_true rfl) ?_
            exact hJ85 v55 _ _ _ ⟨hP9, hD9, hS, hl9⟩
          · have nc91 : v81.toInt ≠ 0 := pw_ne c91 rfl (by decide)
            refine lv_iload_n hx hb dX10_best_62 rfl (lv_at hl 4 rfl) ?_
            refine lv_goto (tgt := 67) hx hb dX10_best_63 (by decide) ?_
            have hP9 : va_P D vwCl [(h0, .inr (10, [.ref m_now, .ref m_draft, .ref m_past, .int j_acts, .ref m_images, .ref m_kept, .ref m_tape, .int j_taped, .int j_at, .int j_start, .int j_token, .int j_value, .int j_fault, .int j_place, .int j_latest, .ref m_low, .ref m_high, .ref m_first, .ref m_second, .ref m_lines, .ref m_others, .int j_shiftFirst, .int j_shiftMany, .int j_shiftLow, .int j_shiftHigh])), (m_now, .inl (kI, 192, .inl g_now)), (m_low, .inl (kI, 1000, .inl y4)), (m_high, .inl (kI, 1000, .inl y5))] H := hP.sub [0, 1, 2, 3] rfl
            have hD9 : va_D A [(h0, .inr (10, [.ref m_now, .ref m_draft, .ref m_past, .int j_acts, .ref m_images, .ref m_kept, .ref m_tape, .int j_taped, .int j_at, .int j_start, .int j_token, .int j_value, .int j_fault, .int j_place, .int j_latest, .ref m_low, .ref m_high, .ref m_first, .ref m_second, .ref m_lines, .ref m_others, .int j_shiftFirst, .int j_shiftMany, .int j_shiftLow, .int j_shiftHigh])), (m_now, .inl (kI, 192, .inl g_now)), (m_low, .inl (kI, 1000, .inl y4)), (m_high, .inl (kI, 1000, .inl y5))] := hD.sub [0, 1, 2, 3] (by decide) rfl
            have hl9 : lv_has ls 6 [(0, .ref h0), (1, .int v55), (2, .int v56), (3, .int v57), (4, .int r78), (5, .int v81)] := lv_sub hl [1, 2, 3, 4, 5, 0] rfl
            refine W.widen (k := 0) (n := 0) (Nat.le_of_ble_eq_true rfl) (Nat.le_of_ble_eq_true rfl) ?_
            exact hJ85 v57 _ _ _ ⟨hP9, hD9, hS, hl9⟩
      ·
        refine lv_icmp_eq (tgt := 50) hx hb dX10_best_41 (by decide) (fun c92 => ?_) (fun c92 => ?_)
        · have nc92 : v55.toInt = (-1000000) := pw_eq c92 rfl (by decide)
          refine lv_iconst (v := 1) hx hb dX10_best_50 (by decide) ?_
          refine lv_goto (tgt := 55) hx hb dX10_best_51 (by decide) ?_
          have hP9 : va_P D vwCl [(h0, .inr (10, [.ref m_now, .ref m_draft, .ref m_past, .int j_acts, .ref m_images, .ref m_kept, .ref m_tape, .int j_taped, .int j_at, .int j_start, .int j_token, .int j_value, .int j_fault, .int j_place, .int j_latest, .ref m_low, .ref m_high, .ref m_first, .ref m_second, .ref m_lines, .ref m_others, .int j_shiftFirst, .int j_shiftMany, .int j_shiftLow, .int j_shiftHigh])), (m_now, .inl (kI, 192, .inl g_now)), (m_low, .inl (kI, 1000, .inl y4)), (m_high, .inl (kI, 1000, .inl y5))] H := hP.sub [0, 1, 2, 3] rfl
          have hD9 : va_D A [(h0, .inr (10, [.ref m_now, .ref m_draft, .ref m_past, .int j_acts, .ref m_images, .ref m_kept, .ref m_tape, .int j_taped, .int j_at, .int j_start, .int j_token, .int j_value, .int j_fault, .int j_place, .int j_latest, .ref m_low, .ref m_high, .ref m_first, .ref m_second, .ref m_lines, .ref m_others, .int j_shiftFirst, .int j_shiftMany, .int j_shiftLow, .int j_shiftHigh])), (m_now, .inl (kI, 192, .inl g_now)), (m_low, .inl (kI, 1000, .inl y4)), (m_high, .inl (kI, 1000, .inl y5))] := hD.sub [0, 1, 2, 3] (by decide) rfl
          have hl9 : lv_has ls 6 [(0, .ref h0), (1, .int v55), (2, .int v56), (3, .int v57), (4, .int r78)] := lv_sub hl [1, 2, 3, 4, 0] rfl
          refine W.widen (k := 0) (n := 0) (Nat.le_of_ble_eq_true rfl) (Nat.le_of_ble_eq_true rfl) ?_
          exact hJ82 1 _ _ _ ⟨hP9, hD9, hS, hl9⟩
        · have nc92 : v55.toInt ≠ (-1000000) := pw_ne c92 rfl (by decide)
          refine lv_iload hx hb dX10_best_44 (lv_at hl 0 rfl) ?_
          refine lv_iload_n hx hb dX10_best_46 rfl (lv_at hl 3 rfl) ?_
          refine lv_icmp_le (tgt := 54) hx hb dX10_best_47 (by decide) (fun c93 => ?_) (fun c93 => ?_)
          · have nc93 : r78.toInt ≤ v56.toInt := pw_le c93 rfl rfl
            have mc93r78 := pw_max r78
            have mc93v56 := pw_max v56
            refine lv_iconst (v := 0) hx hb dX10_best_54 (by decide) ?_
            have hP9 : va_P D vwCl [(h0, .inr (10, [.ref m_now, .ref m_draft, .ref m_past, .int j_acts, .ref m_images, .ref m_kept, .ref m_tape, .int j_taped, .int j_at, .int j_start, .int j_token, .int j_value, .int j_fault, .int j_place, .int j_latest, .ref m_low, .ref m_high, .ref m_first, .ref m_second, .ref m_lines, .ref m_others, .int j_shiftFirst, .int j_shiftMany, .int j_shiftLow, .int j_shiftHigh])), (m_now, .inl (kI, 192, .inl g_now)), (m_low, .inl (kI, 1000, .inl y4)), (m_high, .inl (kI, 1000, .inl y5))] H := hP.sub [0, 1, 2, 3] rfl
            have hD9 : va_D A [(h0, .inr (10, [.ref m_now, .ref m_draft, .ref m_past, .int j_acts, .ref m_images, .ref m_kept, .ref m_tape, .int j_taped, .int j_at, .int j_start, .int j_token, .int j_value, .int j_fault, .int j_place, .int j_latest, .ref m_low, .ref m_high, .ref m_first, .ref m_second, .ref m_lines, .ref m_others, .int j_shiftFirst, .int j_shiftMany, .int j_shiftLow, .int j_shiftHigh])), (m_now, .inl (kI, 192, .inl g_now)), (m_low, .inl (kI, 1000, .inl y4)), (m_high, .inl (kI, 1000, .inl y5))] := hD.sub [0, 1, 2, 3] (by decide) rfl
            have hl9 : lv_has ls 6 [(0, .ref h0), (1, .int v55), (2, .int v56), (3, .int v57), (4, .int r78)] := lv_sub hl [1, 2, 3, 4, 0] rfl
            refine W.widen (k := 0) (n := 0) (Nat.le_of_ble_eq_true rfl) (Nat.le_of_ble_eq_true rfl) ?_
            exact hJ82 0 _ _ _ ⟨hP9, hD9, hS, hl9⟩
          · have nc93 : v56.toInt < r78.toInt := pw_nle c93 rfl rfl
            have mc93r78 := pw_max r78
            have mc93v56 := pw_max v56
            refine lv_iconst (v := 1) hx hb dX10_best_50 (by decide) ?_
            refine lv_goto (tgt := 55) hx hb dX10_best_51 (by decide) ?_
            have hP9 : va_P D vwCl [(h0, .inr (10, [.ref m_now, .ref m_draft, .ref m_past, .int j_acts, .ref m_images, .ref m_kept, .ref m_tape, .int j_taped, .int j_at, .int j_start, .int j_token, .int j_value, .int j_fault, .int j_place, .int j_latest, .ref m_low, .ref m_high, .ref m_first, .ref m_second, .ref m_lines, .ref m_others, .int j_shiftFirst, .int j_shiftMany, .int j_shiftLow, .int j_shiftHigh])), (m_now, .inl (kI, 192, .inl g_now)), (m_low, .inl (kI, 1000, .inl y4)), (m_high, .inl (kI, 1000, .inl y5))] H := hP.sub [0, 1, 2, 3] rfl
            have hD9 : va_D A [(h0, .inr (10, [.ref m_now, .ref m_draft, .ref m_past, .int j_acts, .ref m_images, .ref m_kept, .ref m_tape, .int j_taped, .int j_at, .int j_start, .int j_token, .int j_value, .int j_fault, .int j_place, .int j_latest, .ref m_low, .ref m_high, .ref m_first, .ref m_second, .ref m_lines, .ref m_others, .int j_shiftFirst, .int j_shiftMany, .int j_shiftLow, .int j_shiftHigh])), (m_now, .inl (kI, 192, .inl g_now)), (m_low, .inl (kI, 1000, .inl y4)), (m_high, .inl (kI, 1000, .inl y5))] := hD.sub [0, 1, 2, 3] (by decide) rfl
            have hl9 : lv_has ls 6 [(0, .ref h0), (1, .int v55), (2, .int v56), (3, .int v57), (4, .int r78)] := lv_sub hl [1, 2, 3, 4, 0] rfl
            refine W.widen (k := 0) (n := 0) (Nat.le_of_ble_eq_true rfl) (Nat.le_of_ble_eq_true rfl) ?_
            exact hJ82 1 _ _ _ ⟨hP9, hD9, hS, hl9⟩
  · have nc2 : r1.toInt = 0 := pw_eq c2 rfl (by decide)
    refine lv_ldc hx hb hown (hts (.constant RX10 198 (-1000002)) (List.mem_of_getElem? (i := 31) rfl)) dX10_best_7 ?_
    have hP9 := hP.sub (ws' := [(h0, .inr (10, [.ref m_now, .ref m_draft, .ref m_past, .int j_acts, .ref m_images, .ref m_kept, .ref m_tape, .int j_taped, .int j_at, .int j_start, .int j_token, .int j_value, .int j_fault, .int j_place, .int j_latest, .ref m_low, .ref m_high, .ref m_first, .ref m_second, .ref m_lines, .ref m_others, .int j_shiftFirst, .int j_shiftMany, .int j_shiftLow, .int j_shiftHigh])), (m_now, .inl (kI, 192, .inl g_now)), (m_low, .inl (kI, 1000, .inl g_low)), (m_high, .inl (kI, 1000, .inl g_high))]) [0, 1, 2, 3] rfl
    have hD9 := hD.sub (ws' := [(h0, .inr (10, [.ref m_now, .ref m_draft, .ref m_past, .int j_acts, .ref m_images, .ref m_kept, .ref m_tape, .int j_taped, .int j_at, .int j_start, .int j_token, .int j_value, .int j_fault, .int j_place, .int j_latest, .ref m_low, .ref m_high, .ref m_first, .ref m_second, .ref m_lines, .ref m_others, .int j_shiftFirst, .int j_shiftMany, .int j_shiftLow, .int j_shiftHigh])), (m_now, .inl (kI, 192, .inl g_now)), (m_low, .inl (kI, 1000, .inl g_low)), (m_high, .inl (kI, 1000, .inl g_high))]) [0, 1, 2, 3] (by decide) rfl
    have hK9 := hK.sub (tys' := [(kI, .int)]) [0] rfl
    refine W.widen (k := 0) (n := 0) (Nat.le_of_ble_eq_true rfl) (Nat.le_of_ble_eq_true rfl) ?_
    exact W.iret (v := (-1000002)) hx hb hr (fun t ht hW => ⟨⟨(-1000002), (), rfl, trivial, g_low, g_high, by rw [ht]; exact hP9, va_K.moved hW.alike hK9, hD9, hg_low, hg_high⟩, hS.F ht⟩) hS.2.2 dX10_best_9
