theorem dX10_citation_0 : decode cX10_citation 0 = .ok (.aload_n 0, 1) := by decide +kernel
theorem dX10_citation_1 : decode cX10_citation 1 = .ok (.iload_n 1, 1) := by decide +kernel
theorem dX10_citation_2 : decode cX10_citation 2 = .ok (.invokevirtual 228, 3) := by decide +kernel
theorem dX10_citation_5 : decode cX10_citation 5 = .ok (.ifCond .eq 15, 3) := by decide +kernel
theorem dX10_citation_8 : decode cX10_citation 8 = .ok (.iload_n 2, 1) := by decide +kernel
theorem dX10_citation_9 : decode cX10_citation 9 = .ok (.i2l, 1) := by decide +kernel
theorem dX10_citation_10 : decode cX10_citation 10 = .ok (.lconst 0, 1) := by decide +kernel
theorem dX10_citation_11 : decode cX10_citation 11 = .ok (.ldc2_w 213, 3) := by decide +kernel
theorem dX10_citation_14 : decode cX10_citation 14 = .ok (.invokestatic 51, 3) := by decide +kernel
theorem dX10_citation_17 : decode cX10_citation 17 = .ok (.ifCond .ne 6, 3) := by decide +kernel
theorem dX10_citation_20 : decode cX10_citation 20 = .ok (.ldc 177, 2) := by decide +kernel
theorem dX10_citation_22 : decode cX10_citation 22 = .ok (.ireturn, 1) := by decide +kernel
theorem dX10_citation_23 : decode cX10_citation 23 = .ok (.iload_n 2, 1) := by decide +kernel
theorem dX10_citation_24 : decode cX10_citation 24 = .ok (.iconst 4, 1) := by decide +kernel
theorem dX10_citation_25 : decode cX10_citation 25 = .ok (.if_icmp .ge 25, 3) := by decide +kernel
theorem dX10_citation_28 : decode cX10_citation 28 = .ok (.iload_n 2, 1) := by decide +kernel
theorem dX10_citation_29 : decode cX10_citation 29 = .ok (.iconst 3, 1) := by decide +kernel
theorem dX10_citation_30 : decode cX10_citation 30 = .ok (.if_icmp .ge 14, 3) := by decide +kernel
theorem dX10_citation_33 : decode cX10_citation 33 = .ok (.aload_n 0, 1) := by decide +kernel
theorem dX10_citation_34 : decode cX10_citation 34 = .ok (.iload_n 1, 1) := by decide +kernel
theorem dX10_citation_35 : decode cX10_citation 35 = .ok (.iconst 1, 1) := by decide +kernel
theorem dX10_citation_36 : decode cX10_citation 36 = .ok (.iload_n 2, 1) := by decide +kernel
theorem dX10_citation_37 : decode cX10_citation 37 = .ok (.iadd, 1) := by decide +kernel
theorem dX10_citation_38 : decode cX10_citation 38 = .ok (.invokevirtual 215, 3) := by decide +kernel
theorem dX10_citation_41 : decode cX10_citation 41 = .ok (.goto 8, 3) := by decide +kernel
theorem dX10_citation_44 : decode cX10_citation 44 = .ok (.aload_n 0, 1) := by decide +kernel
theorem dX10_citation_45 : decode cX10_citation 45 = .ok (.iload_n 1, 1) := by decide +kernel
theorem dX10_citation_46 : decode cX10_citation 46 = .ok (.invokevirtual 286, 3) := by decide +kernel
theorem dX10_citation_49 : decode cX10_citation 49 = .ok (.ireturn, 1) := by decide +kernel
theorem dX10_citation_50 : decode cX10_citation 50 = .ok (.aload_n 0, 1) := by decide +kernel
theorem dX10_citation_51 : decode cX10_citation 51 = .ok (.invokevirtual 221, 3) := by decide +kernel
theorem dX10_citation_54 : decode cX10_citation 54 = .ok (.aload_n 0, 1) := by decide +kernel
theorem dX10_citation_55 : decode cX10_citation 55 = .ok (.iload_n 1, 1) := by decide +kernel
theorem dX10_citation_56 : decode cX10_citation 56 = .ok (.aload_n 0, 1) := by decide +kernel
theorem dX10_citation_57 : decode cX10_citation 57 = .ok (.iload_n 1, 1) := by decide +kernel
theorem dX10_citation_58 : decode cX10_citation 58 = .ok (.iconst 1, 1) := by decide +kernel
theorem dX10_citation_59 : decode cX10_citation 59 = .ok (.invokevirtual 215, 3) := by decide +kernel
theorem dX10_citation_62 : decode cX10_citation 62 = .ok (.aload_n 0, 1) := by decide +kernel
theorem dX10_citation_63 : decode cX10_citation 63 = .ok (.getfield 41, 3) := by decide +kernel
theorem dX10_citation_66 : decode cX10_citation 66 = .ok (.invokevirtual 224, 3) := by decide +kernel
theorem dX10_citation_69 : decode cX10_citation 69 = .ok (.aload_n 0, 1) := by decide +kernel
theorem dX10_citation_70 : decode cX10_citation 70 = .ok (.getfield 41, 3) := by decide +kernel
theorem dX10_citation_73 : decode cX10_citation 73 = .ok (.invokestatic 77, 3) := by decide +kernel
theorem dX10_citation_76 : decode cX10_citation 76 = .ok (.istore_n 3, 1) := by decide +kernel
theorem dX10_citation_77 : decode cX10_citation 77 = .ok (.iload_n 2, 1) := by decide +kernel
theorem dX10_citation_78 : decode cX10_citation 78 = .ok (.bipush 7, 2) := by decide +kernel
theorem dX10_citation_80 : decode cX10_citation 80 = .ok (.if_icmp .ge 14, 3) := by decide +kernel
theorem dX10_citation_83 : decode cX10_citation 83 = .ok (.aload_n 0, 1) := by decide +kernel
theorem dX10_citation_84 : decode cX10_citation 84 = .ok (.getfield 41, 3) := by decide +kernel
theorem dX10_citation_87 : decode cX10_citation 87 = .ok (.iload_n 2, 1) := by decide +kernel
theorem dX10_citation_88 : decode cX10_citation 88 = .ok (.iconst 4, 1) := by decide +kernel
theorem dX10_citation_89 : decode cX10_citation 89 = .ok (.isub, 1) := by decide +kernel
theorem dX10_citation_90 : decode cX10_citation 90 = .ok (.invokestatic 251, 3) := by decide +kernel
theorem dX10_citation_93 : decode cX10_citation 93 = .ok (.ireturn, 1) := by decide +kernel
theorem dX10_citation_94 : decode cX10_citation 94 = .ok (.iload_n 3, 1) := by decide +kernel
theorem dX10_citation_95 : decode cX10_citation 95 = .ok (.ifCond .le 28, 3) := by decide +kernel
theorem dX10_citation_98 : decode cX10_citation 98 = .ok (.aload_n 0, 1) := by decide +kernel
theorem dX10_citation_99 : decode cX10_citation 99 = .ok (.getfield 41, 3) := by decide +kernel
theorem dX10_citation_102 : decode cX10_citation 102 = .ok (.invokestatic 84, 3) := by decide +kernel
theorem dX10_citation_105 : decode cX10_citation 105 = .ok (.aload_n 0, 1) := by decide +kernel
theorem dX10_citation_106 : decode cX10_citation 106 = .ok (.getfield 41, 3) := by decide +kernel
theorem dX10_citation_109 : decode cX10_citation 109 = .ok (.invokestatic 81, 3) := by decide +kernel
theorem dX10_citation_112 : decode cX10_citation 112 = .ok (.isub, 1) := by decide +kernel
theorem dX10_citation_113 : decode cX10_citation 113 = .ok (.iconst 1, 1) := by decide +kernel
theorem dX10_citation_114 : decode cX10_citation 114 = .ok (.iadd, 1) := by decide +kernel
theorem dX10_citation_115 : decode cX10_citation 115 = .ok (.iload_n 3, 1) := by decide +kernel
theorem dX10_citation_116 : decode cX10_citation 116 = .ok (.if_icmp .ne 7, 3) := by decide +kernel
theorem dX10_citation_119 : decode cX10_citation 119 = .ok (.iconst 1, 1) := by decide +kernel
theorem dX10_citation_120 : decode cX10_citation 120 = .ok (.goto 4, 3) := by decide +kernel
theorem dX10_citation_123 : decode cX10_citation 123 = .ok (.iconst 0, 1) := by decide +kernel
theorem dX10_citation_124 : decode cX10_citation 124 = .ok (.ireturn, 1) := by decide +kernel
theorem dX10_turned_0 : decode cX10_turned 0 = .ok (.aload_n 0, 1) := by decide +kernel
theorem dX10_turned_1 : decode cX10_turned 1 = .ok (.iload_n 1, 1) := by decide +kernel
theorem dX10_turned_2 : decode cX10_turned 2 = .ok (.invokevirtual 228, 3) := by decide +kernel
theorem dX10_turned_5 : decode cX10_turned 5 = .ok (.ifCond .eq 23, 3) := by decide +kernel
theorem dX10_turned_8 : decode cX10_turned 8 = .ok (.aload_n 0, 1) := by decide +kernel
theorem dX10_turned_9 : decode cX10_turned 9 = .ok (.iload_n 2, 1) := by decide +kernel
theorem dX10_turned_10 : decode cX10_turned 10 = .ok (.invokevirtual 55, 3) := by decide +kernel
theorem dX10_turned_13 : decode cX10_turned 13 = .ok (.ifCond .eq 15, 3) := by decide +kernel
theorem dX10_turned_16 : decode cX10_turned 16 = .ok (.iload_n 3, 1) := by decide +kernel
theorem dX10_turned_17 : decode cX10_turned 17 = .ok (.i2l, 1) := by decide +kernel
theorem dX10_turned_18 : decode cX10_turned 18 = .ok (.lconst 0, 1) := by decide +kernel
theorem dX10_turned_19 : decode cX10_turned 19 = .ok (.ldc2_w 219, 3) := by decide +kernel
theorem dX10_turned_22 : decode cX10_turned 22 = .ok (.invokestatic 51, 3) := by decide +kernel
theorem dX10_turned_25 : decode cX10_turned 25 = .ok (.ifCond .ne 6, 3) := by decide +kernel
theorem dX10_turned_28 : decode cX10_turned 28 = .ok (.ldc 177, 2) := by decide +kernel
theorem dX10_turned_30 : decode cX10_turned 30 = .ok (.ireturn, 1) := by decide +kernel
theorem dX10_turned_31 : decode cX10_turned 31 = .ok (.aload_n 0, 1) := by decide +kernel
theorem dX10_turned_32 : decode cX10_turned 32 = .ok (.invokevirtual 221, 3) := by decide +kernel
theorem dX10_turned_35 : decode cX10_turned 35 = .ok (.aload_n 0, 1) := by decide +kernel
theorem dX10_turned_36 : decode cX10_turned 36 = .ok (.iload_n 1, 1) := by decide +kernel
theorem dX10_turned_37 : decode cX10_turned 37 = .ok (.aload_n 0, 1) := by decide +kernel
theorem dX10_turned_38 : decode cX10_turned 38 = .ok (.iload_n 1, 1) := by decide +kernel
theorem dX10_turned_39 : decode cX10_turned 39 = .ok (.iconst 1, 1) := by decide +kernel
theorem dX10_turned_40 : decode cX10_turned 40 = .ok (.invokevirtual 215, 3) := by decide +kernel
theorem dX10_turned_43 : decode cX10_turned 43 = .ok (.aload_n 0, 1) := by decide +kernel
theorem dX10_turned_44 : decode cX10_turned 44 = .ok (.getfield 41, 3) := by decide +kernel
theorem dX10_turned_47 : decode cX10_turned 47 = .ok (.invokevirtual 224, 3) := by decide +kernel
theorem dX10_turned_50 : decode cX10_turned 50 = .ok (.aload_n 0, 1) := by decide +kernel
theorem dX10_turned_51 : decode cX10_turned 51 = .ok (.getfield 35, 3) := by decide +kernel
theorem dX10_turned_54 : decode cX10_turned 54 = .ok (.invokestatic 87, 3) := by decide +kernel
theorem dX10_turned_57 : decode cX10_turned 57 = .ok (.iconst 0, 1) := by decide +kernel
theorem dX10_turned_58 : decode cX10_turned 58 = .ok (.istore 4, 2) := by decide +kernel
theorem dX10_turned_60 : decode cX10_turned 60 = .ok (.iload 4, 2) := by decide +kernel
theorem dX10_turned_62 : decode cX10_turned 62 = .ok (.aload_n 0, 1) := by decide +kernel
theorem dX10_turned_63 : decode cX10_turned 63 = .ok (.getfield 7, 3) := by decide +kernel
theorem dX10_turned_66 : decode cX10_turned 66 = .ok (.iconst 0, 1) := by decide +kernel
theorem dX10_turned_67 : decode cX10_turned 67 = .ok (.iaload, 1) := by decide +kernel
theorem dX10_turned_68 : decode cX10_turned 68 = .ok (.if_icmp .ge 67, 3) := by decide +kernel
theorem dX10_turned_71 : decode cX10_turned 71 = .ok (.aload_n 0, 1) := by decide +kernel
theorem dX10_turned_72 : decode cX10_turned 72 = .ok (.getfield 41, 3) := by decide +kernel
theorem dX10_turned_75 : decode cX10_turned 75 = .ok (.iload 4, 2) := by decide +kernel
theorem dX10_turned_77 : decode cX10_turned 77 = .ok (.baload, 1) := by decide +kernel
theorem dX10_turned_78 : decode cX10_turned 78 = .ok (.ifCond .eq 51, 3) := by decide +kernel
theorem dX10_turned_81 : decode cX10_turned 81 = .ok (.aload_n 0, 1) := by decide +kernel
theorem dX10_turned_82 : decode cX10_turned 82 = .ok (.iload_n 2, 1) := by decide +kernel
theorem dX10_turned_83 : decode cX10_turned 83 = .ok (.iload 4, 2) := by decide +kernel
theorem dX10_turned_85 : decode cX10_turned 85 = .ok (.invokevirtual 73, 3) := by decide +kernel
theorem dX10_turned_88 : decode cX10_turned 88 = .ok (.ifCond .eq 41, 3) := by decide +kernel
theorem dX10_turned_91 : decode cX10_turned 91 = .ok (.aload_n 0, 1) := by decide +kernel
theorem dX10_turned_92 : decode cX10_turned 92 = .ok (.getfield 35, 3) := by decide +kernel
theorem dX10_turned_95 : decode cX10_turned 95 = .ok (.aload_n 0, 1) := by decide +kernel
theorem dX10_turned_96 : decode cX10_turned 96 = .ok (.getfield 29, 3) := by decide +kernel
theorem dX10_turned_99 : decode cX10_turned 99 = .ok (.sipush 200, 3) := by decide +kernel
theorem dX10_turned_102 : decode cX10_turned 102 = .ok (.iload_n 2, 1) := by decide +kernel
theorem dX10_turned_103 : decode cX10_turned 103 = .ok (.imul, 1) := by decide +kernel
theorem dX10_turned_104 : decode cX10_turned 104 = .ok (.iload 4, 2) := by decide +kernel
theorem dX10_turned_106 : decode cX10_turned 106 = .ok (.iadd, 1) := by decide +kernel
theorem dX10_turned_107 : decode cX10_turned 107 = .ok (.iaload, 1) := by decide +kernel
theorem dX10_turned_108 : decode cX10_turned 108 = .ok (.iconst 1, 1) := by decide +kernel
theorem dX10_turned_109 : decode cX10_turned 109 = .ok (.bastore, 1) := by decide +kernel
theorem dX10_turned_110 : decode cX10_turned 110 = .ok (.aload_n 0, 1) := by decide +kernel
theorem dX10_turned_111 : decode cX10_turned 111 = .ok (.getfield 35, 3) := by decide +kernel
theorem dX10_turned_114 : decode cX10_turned 114 = .ok (.aload_n 0, 1) := by decide +kernel
theorem dX10_turned_115 : decode cX10_turned 115 = .ok (.getfield 32, 3) := by decide +kernel
theorem dX10_turned_118 : decode cX10_turned 118 = .ok (.sipush 200, 3) := by decide +kernel
theorem dX10_turned_121 : decode cX10_turned 121 = .ok (.iload_n 2, 1) := by decide +kernel
theorem dX10_turned_122 : decode cX10_turned 122 = .ok (.imul, 1) := by decide +kernel
theorem dX10_turned_123 : decode cX10_turned 123 = .ok (.iload 4, 2) := by decide +kernel
theorem dX10_turned_125 : decode cX10_turned 125 = .ok (.iadd, 1) := by decide +kernel
theorem dX10_turned_126 : decode cX10_turned 126 = .ok (.iaload, 1) := by decide +kernel
theorem dX10_turned_127 : decode cX10_turned 127 = .ok (.iconst 1, 1) := by decide +kernel
theorem dX10_turned_128 : decode cX10_turned 128 = .ok (.bastore, 1) := by decide +kernel
theorem dX10_turned_129 : decode cX10_turned 129 = .ok (.iinc 4 1, 3) := by decide +kernel
theorem dX10_turned_132 : decode cX10_turned 132 = .ok (.goto (-72), 3) := by decide +kernel
theorem dX10_turned_135 : decode cX10_turned 135 = .ok (.aload_n 0, 1) := by decide +kernel
theorem dX10_turned_136 : decode cX10_turned 136 = .ok (.getfield 35, 3) := by decide +kernel
theorem dX10_turned_139 : decode cX10_turned 139 = .ok (.invokestatic 81, 3) := by decide +kernel
theorem dX10_turned_142 : decode cX10_turned 142 = .ok (.istore 4, 2) := by decide +kernel
theorem dX10_turned_144 : decode cX10_turned 144 = .ok (.aload_n 0, 1) := by decide +kernel
theorem dX10_turned_145 : decode cX10_turned 145 = .ok (.getfield 35, 3) := by decide +kernel
theorem dX10_turned_148 : decode cX10_turned 148 = .ok (.invokestatic 84, 3) := by decide +kernel
theorem dX10_turned_151 : decode cX10_turned 151 = .ok (.istore 5, 2) := by decide +kernel
theorem dX10_turned_153 : decode cX10_turned 153 = .ok (.iload_n 3, 1) := by decide +kernel
theorem dX10_turned_154 : decode cX10_turned 154 = .ok (.iconst 2, 1) := by decide +kernel
theorem dX10_turned_155 : decode cX10_turned 155 = .ok (.if_icmp .ge 15, 3) := by decide +kernel
theorem dX10_turned_158 : decode cX10_turned 158 = .ok (.iload_n 3, 1) := by decide +kernel
theorem dX10_turned_159 : decode cX10_turned 159 = .ok (.ifCond .ne 8, 3) := by decide +kernel
theorem dX10_turned_162 : decode cX10_turned 162 = .ok (.iload 4, 2) := by decide +kernel
theorem dX10_turned_164 : decode cX10_turned 164 = .ok (.goto 5, 3) := by decide +kernel
theorem dX10_turned_167 : decode cX10_turned 167 = .ok (.iload 5, 2) := by decide +kernel
theorem dX10_turned_169 : decode cX10_turned 169 = .ok (.ireturn, 1) := by decide +kernel
theorem dX10_turned_170 : decode cX10_turned 170 = .ok (.aload_n 0, 1) := by decide +kernel
theorem dX10_turned_171 : decode cX10_turned 171 = .ok (.iload_n 2, 1) := by decide +kernel
theorem dX10_turned_172 : decode cX10_turned 172 = .ok (.iload 4, 2) := by decide +kernel
theorem dX10_turned_174 : decode cX10_turned 174 = .ok (.iload 5, 2) := by decide +kernel
theorem dX10_turned_176 : decode cX10_turned 176 = .ok (.aload_n 0, 1) := by decide +kernel
theorem dX10_turned_177 : decode cX10_turned 177 = .ok (.getfield 44, 3) := by decide +kernel
theorem dX10_turned_180 : decode cX10_turned 180 = .ok (.invokevirtual 289, 3) := by decide +kernel
theorem dX10_turned_183 : decode cX10_turned 183 = .ok (.iload 4, 2) := by decide +kernel
theorem dX10_turned_185 : decode cX10_turned 185 = .ok (.ldc 61, 2) := by decide +kernel
theorem dX10_turned_187 : decode cX10_turned 187 = .ok (.if_icmp .eq 7, 3) := by decide +kernel
theorem dX10_turned_190 : decode cX10_turned 190 = .ok (.iconst 1, 1) := by decide +kernel
theorem dX10_turned_191 : decode cX10_turned 191 = .ok (.goto 4, 3) := by decide +kernel
theorem dX10_turned_194 : decode cX10_turned 194 = .ok (.iconst 0, 1) := by decide +kernel
theorem dX10_turned_195 : decode cX10_turned 195 = .ok (.istore 6, 2) := by decide +kernel
theorem dX10_turned_197 : decode cX10_turned 197 = .ok (.iconst 0, 1) := by decide +kernel
theorem dX10_turned_198 : decode cX10_turned 198 = .ok (.istore 7, 2) := by decide +kernel
theorem dX10_turned_200 : decode cX10_turned 200 = .ok (.iload 7, 2) := by decide +kernel
theorem dX10_turned_202 : decode cX10_turned 202 = .ok (.aload_n 0, 1) := by decide +kernel
theorem dX10_turned_203 : decode cX10_turned 203 = .ok (.getfield 7, 3) := by decide +kernel
theorem dX10_turned_206 : decode cX10_turned 206 = .ok (.iconst 0, 1) := by decide +kernel
theorem dX10_turned_207 : decode cX10_turned 207 = .ok (.iaload, 1) := by decide +kernel
theorem dX10_turned_208 : decode cX10_turned 208 = .ok (.if_icmp .ge 38, 3) := by decide +kernel
theorem dX10_turned_211 : decode cX10_turned 211 = .ok (.iload 6, 2) := by decide +kernel
theorem dX10_turned_213 : decode cX10_turned 213 = .ok (.ifCond .eq 24, 3) := by decide +kernel
theorem dX10_turned_216 : decode cX10_turned 216 = .ok (.aload_n 0, 1) := by decide +kernel
theorem dX10_turned_217 : decode cX10_turned 217 = .ok (.getfield 41, 3) := by decide +kernel
theorem dX10_turned_220 : decode cX10_turned 220 = .ok (.iload 7, 2) := by decide +kernel
theorem dX10_turned_222 : decode cX10_turned 222 = .ok (.baload, 1) := by decide +kernel
theorem dX10_turned_223 : decode cX10_turned 223 = .ok (.aload_n 0, 1) := by decide +kernel
theorem dX10_turned_224 : decode cX10_turned 224 = .ok (.getfield 44, 3) := by decide +kernel
theorem dX10_turned_227 : decode cX10_turned 227 = .ok (.iload 7, 2) := by decide +kernel
theorem dX10_turned_229 : decode cX10_turned 229 = .ok (.baload, 1) := by decide +kernel
theorem dX10_turned_230 : decode cX10_turned 230 = .ok (.if_icmp .ne 7, 3) := by decide +kernel
theorem dX10_turned_233 : decode cX10_turned 233 = .ok (.iconst 1, 1) := by decide +kernel
theorem dX10_turned_234 : decode cX10_turned 234 = .ok (.goto 4, 3) := by decide +kernel
theorem dX10_turned_237 : decode cX10_turned 237 = .ok (.iconst 0, 1) := by decide +kernel
theorem dX10_turned_238 : decode cX10_turned 238 = .ok (.istore 6, 2) := by decide +kernel
theorem dX10_turned_240 : decode cX10_turned 240 = .ok (.iinc 7 1, 3) := by decide +kernel
theorem dX10_turned_243 : decode cX10_turned 243 = .ok (.goto (-43), 3) := by decide +kernel
theorem dX10_turned_246 : decode cX10_turned 246 = .ok (.iload 6, 2) := by decide +kernel
theorem dX10_turned_248 : decode cX10_turned 248 = .ok (.ifCond .eq 7, 3) := by decide +kernel
theorem dX10_turned_251 : decode cX10_turned 251 = .ok (.iconst 1, 1) := by decide +kernel
theorem dX10_turned_252 : decode cX10_turned 252 = .ok (.goto 4, 3) := by decide +kernel
theorem dX10_turned_255 : decode cX10_turned 255 = .ok (.iconst 0, 1) := by decide +kernel
theorem dX10_turned_256 : decode cX10_turned 256 = .ok (.ireturn, 1) := by decide +kernel
theorem dX10_meet_0 : decode cX10_meet 0 = .ok (.aload_n 0, 1) := by decide +kernel
theorem dX10_meet_1 : decode cX10_meet 1 = .ok (.iload_n 1, 1) := by decide +kernel
theorem dX10_meet_2 : decode cX10_meet 2 = .ok (.invokevirtual 228, 3) := by decide +kernel
theorem dX10_meet_5 : decode cX10_meet 5 = .ok (.ifCond .eq 23, 3) := by decide +kernel
theorem dX10_meet_8 : decode cX10_meet 8 = .ok (.aload_n 0, 1) := by decide +kernel
theorem dX10_meet_9 : decode cX10_meet 9 = .ok (.iload_n 2, 1) := by decide +kernel
theorem dX10_meet_10 : decode cX10_meet 10 = .ok (.invokevirtual 228, 3) := by decide +kernel
theorem dX10_meet_13 : decode cX10_meet 13 = .ok (.ifCond .eq 15, 3) := by decide +kernel
theorem dX10_meet_16 : decode cX10_meet 16 = .ok (.iload_n 3, 1) := by decide +kernel
theorem dX10_meet_17 : decode cX10_meet 17 = .ok (.i2l, 1) := by decide +kernel
theorem dX10_meet_18 : decode cX10_meet 18 = .ok (.lconst 0, 1) := by decide +kernel
theorem dX10_meet_19 : decode cX10_meet 19 = .ok (.ldc2_w 219, 3) := by decide +kernel
theorem dX10_meet_22 : decode cX10_meet 22 = .ok (.invokestatic 51, 3) := by decide +kernel
theorem dX10_meet_25 : decode cX10_meet 25 = .ok (.ifCond .ne 6, 3) := by decide +kernel
theorem dX10_meet_28 : decode cX10_meet 28 = .ok (.ldc 177, 2) := by decide +kernel
theorem dX10_meet_30 : decode cX10_meet 30 = .ok (.ireturn, 1) := by decide +kernel
theorem dX10_meet_31 : decode cX10_meet 31 = .ok (.aload_n 0, 1) := by decide +kernel
theorem dX10_meet_32 : decode cX10_meet 32 = .ok (.invokevirtual 221, 3) := by decide +kernel
theorem dX10_meet_35 : decode cX10_meet 35 = .ok (.aload_n 0, 1) := by decide +kernel
theorem dX10_meet_36 : decode cX10_meet 36 = .ok (.iload_n 1, 1) := by decide +kernel
theorem dX10_meet_37 : decode cX10_meet 37 = .ok (.aload_n 0, 1) := by decide +kernel
theorem dX10_meet_38 : decode cX10_meet 38 = .ok (.iload_n 1, 1) := by decide +kernel
theorem dX10_meet_39 : decode cX10_meet 39 = .ok (.iconst 1, 1) := by decide +kernel
theorem dX10_meet_40 : decode cX10_meet 40 = .ok (.invokevirtual 215, 3) := by decide +kernel
theorem dX10_meet_43 : decode cX10_meet 43 = .ok (.aload_n 0, 1) := by decide +kernel
theorem dX10_meet_44 : decode cX10_meet 44 = .ok (.getfield 41, 3) := by decide +kernel
theorem dX10_meet_47 : decode cX10_meet 47 = .ok (.invokevirtual 224, 3) := by decide +kernel
theorem dX10_meet_50 : decode cX10_meet 50 = .ok (.aload_n 0, 1) := by decide +kernel
theorem dX10_meet_51 : decode cX10_meet 51 = .ok (.iload_n 2, 1) := by decide +kernel
theorem dX10_meet_52 : decode cX10_meet 52 = .ok (.aload_n 0, 1) := by decide +kernel
theorem dX10_meet_53 : decode cX10_meet 53 = .ok (.iload_n 2, 1) := by decide +kernel
theorem dX10_meet_54 : decode cX10_meet 54 = .ok (.iconst 1, 1) := by decide +kernel
theorem dX10_meet_55 : decode cX10_meet 55 = .ok (.invokevirtual 215, 3) := by decide +kernel
theorem dX10_meet_58 : decode cX10_meet 58 = .ok (.aload_n 0, 1) := by decide +kernel
theorem dX10_meet_59 : decode cX10_meet 59 = .ok (.getfield 44, 3) := by decide +kernel
theorem dX10_meet_62 : decode cX10_meet 62 = .ok (.invokevirtual 224, 3) := by decide +kernel
theorem dX10_meet_65 : decode cX10_meet 65 = .ok (.iconst 0, 1) := by decide +kernel
theorem dX10_meet_66 : decode cX10_meet 66 = .ok (.istore 4, 2) := by decide +kernel
theorem dX10_meet_68 : decode cX10_meet 68 = .ok (.iconst 0, 1) := by decide +kernel
theorem dX10_meet_69 : decode cX10_meet 69 = .ok (.istore 5, 2) := by decide +kernel
theorem dX10_meet_71 : decode cX10_meet 71 = .ok (.iload 5, 2) := by decide +kernel
theorem dX10_meet_73 : decode cX10_meet 73 = .ok (.aload_n 0, 1) := by decide +kernel
theorem dX10_meet_74 : decode cX10_meet 74 = .ok (.getfield 7, 3) := by decide +kernel
theorem dX10_meet_77 : decode cX10_meet 77 = .ok (.iconst 0, 1) := by decide +kernel
theorem dX10_meet_78 : decode cX10_meet 78 = .ok (.iaload, 1) := by decide +kernel
theorem dX10_meet_79 : decode cX10_meet 79 = .ok (.if_icmp .ge 116, 3) := by decide +kernel
theorem dX10_meet_82 : decode cX10_meet 82 = .ok (.iload_n 3, 1) := by decide +kernel
theorem dX10_meet_83 : decode cX10_meet 83 = .ok (.ifCond .ne 31, 3) := by decide +kernel
theorem dX10_meet_86 : decode cX10_meet 86 = .ok (.aload_n 0, 1) := by decide +kernel
theorem dX10_meet_87 : decode cX10_meet 87 = .ok (.getfield 41, 3) := by decide +kernel
theorem dX10_meet_90 : decode cX10_meet 90 = .ok (.iload 5, 2) := by decide +kernel
theorem dX10_meet_92 : decode cX10_meet 92 = .ok (.baload, 1) := by decide +kernel
theorem dX10_meet_93 : decode cX10_meet 93 = .ok (.ifCond .eq 17, 3) := by decide +kernel
theorem dX10_meet_96 : decode cX10_meet 96 = .ok (.aload_n 0, 1) := by decide +kernel
theorem dX10_meet_97 : decode cX10_meet 97 = .ok (.getfield 44, 3) := by decide +kernel
theorem dX10_meet_100 : decode cX10_meet 100 = .ok (.iload 5, 2) := by decide +kernel
theorem dX10_meet_102 : decode cX10_meet 102 = .ok (.baload, 1) := by decide +kernel
theorem dX10_meet_103 : decode cX10_meet 103 = .ok (.ifCond .eq 7, 3) := by decide +kernel
theorem dX10_meet_106 : decode cX10_meet 106 = .ok (.iconst 1, 1) := by decide +kernel
theorem dX10_meet_107 : decode cX10_meet 107 = .ok (.goto 65, 3) := by decide +kernel
theorem dX10_meet_110 : decode cX10_meet 110 = .ok (.iconst 0, 1) := by decide +kernel
theorem dX10_meet_111 : decode cX10_meet 111 = .ok (.goto 61, 3) := by decide +kernel
theorem dX10_meet_114 : decode cX10_meet 114 = .ok (.iload_n 3, 1) := by decide +kernel
theorem dX10_meet_115 : decode cX10_meet 115 = .ok (.iconst 1, 1) := by decide +kernel
theorem dX10_meet_116 : decode cX10_meet 116 = .ok (.if_icmp .ne 31, 3) := by decide +kernel
theorem dX10_meet_119 : decode cX10_meet 119 = .ok (.aload_n 0, 1) := by decide +kernel
theorem dX10_meet_120 : decode cX10_meet 120 = .ok (.getfield 41, 3) := by decide +kernel
theorem dX10_meet_123 : decode cX10_meet 123 = .ok (.iload 5, 2) := by decide +kernel
theorem dX10_meet_125 : decode cX10_meet 125 = .ok (.baload, 1) := by decide +kernel
theorem dX10_meet_126 : decode cX10_meet 126 = .ok (.ifCond .eq 17, 3) := by decide +kernel
theorem dX10_meet_129 : decode cX10_meet 129 = .ok (.aload_n 0, 1) := by decide +kernel
theorem dX10_meet_130 : decode cX10_meet 130 = .ok (.getfield 44, 3) := by decide +kernel
theorem dX10_meet_133 : decode cX10_meet 133 = .ok (.iload 5, 2) := by decide +kernel
theorem dX10_meet_135 : decode cX10_meet 135 = .ok (.baload, 1) := by decide +kernel
theorem dX10_meet_136 : decode cX10_meet 136 = .ok (.ifCond .ne 7, 3) := by decide +kernel
theorem dX10_meet_139 : decode cX10_meet 139 = .ok (.iconst 1, 1) := by decide +kernel
theorem dX10_meet_140 : decode cX10_meet 140 = .ok (.goto 32, 3) := by decide +kernel
theorem dX10_meet_143 : decode cX10_meet 143 = .ok (.iconst 0, 1) := by decide +kernel
theorem dX10_meet_144 : decode cX10_meet 144 = .ok (.goto 28, 3) := by decide +kernel
theorem dX10_meet_147 : decode cX10_meet 147 = .ok (.aload_n 0, 1) := by decide +kernel
theorem dX10_meet_148 : decode cX10_meet 148 = .ok (.getfield 44, 3) := by decide +kernel
theorem dX10_meet_151 : decode cX10_meet 151 = .ok (.iload 5, 2) := by decide +kernel
theorem dX10_meet_153 : decode cX10_meet 153 = .ok (.baload, 1) := by decide +kernel
theorem dX10_meet_154 : decode cX10_meet 154 = .ok (.ifCond .eq 17, 3) := by decide +kernel
theorem dX10_meet_157 : decode cX10_meet 157 = .ok (.aload_n 0, 1) := by decide +kernel
theorem dX10_meet_158 : decode cX10_meet 158 = .ok (.getfield 41, 3) := by decide +kernel
theorem dX10_meet_161 : decode cX10_meet 161 = .ok (.iload 5, 2) := by decide +kernel
theorem dX10_meet_163 : decode cX10_meet 163 = .ok (.baload, 1) := by decide +kernel
theorem dX10_meet_164 : decode cX10_meet 164 = .ok (.ifCond .ne 7, 3) := by decide +kernel
theorem dX10_meet_167 : decode cX10_meet 167 = .ok (.iconst 1, 1) := by decide +kernel
theorem dX10_meet_168 : decode cX10_meet 168 = .ok (.goto 4, 3) := by decide +kernel
theorem dX10_meet_171 : decode cX10_meet 171 = .ok (.iconst 0, 1) := by decide +kernel
theorem dX10_meet_172 : decode cX10_meet 172 = .ok (.istore 6, 2) := by decide +kernel
theorem dX10_meet_174 : decode cX10_meet 174 = .ok (.iload 4, 2) := by decide +kernel
theorem dX10_meet_176 : decode cX10_meet 176 = .ok (.iload 6, 2) := by decide +kernel
theorem dX10_meet_178 : decode cX10_meet 178 = .ok (.ifCond .eq 7, 3) := by decide +kernel
theorem dX10_meet_181 : decode cX10_meet 181 = .ok (.iconst 1, 1) := by decide +kernel
theorem dX10_meet_182 : decode cX10_meet 182 = .ok (.goto 4, 3) := by decide +kernel
theorem dX10_meet_185 : decode cX10_meet 185 = .ok (.iconst 0, 1) := by decide +kernel
theorem dX10_meet_186 : decode cX10_meet 186 = .ok (.iadd, 1) := by decide +kernel
theorem dX10_meet_187 : decode cX10_meet 187 = .ok (.istore 4, 2) := by decide +kernel
theorem dX10_meet_189 : decode cX10_meet 189 = .ok (.iinc 5 1, 3) := by decide +kernel
theorem dX10_meet_192 : decode cX10_meet 192 = .ok (.goto (-121), 3) := by decide +kernel
theorem dX10_meet_195 : decode cX10_meet 195 = .ok (.iload 4, 2) := by decide +kernel
theorem dX10_meet_197 : decode cX10_meet 197 = .ok (.ireturn, 1) := by decide +kernel
theorem dX10_could_0 : decode cX10_could 0 = .ok (.aload_n 0, 1) := by decide +kernel
theorem dX10_could_1 : decode cX10_could 1 = .ok (.iload_n 1, 1) := by decide +kernel
theorem dX10_could_2 : decode cX10_could 2 = .ok (.invokevirtual 228, 3) := by decide +kernel
theorem dX10_could_5 : decode cX10_could 5 = .ok (.ifCond .eq 11, 3) := by decide +kernel
theorem dX10_could_8 : decode cX10_could 8 = .ok (.aload_n 0, 1) := by decide +kernel
theorem dX10_could_9 : decode cX10_could 9 = .ok (.iload_n 2, 1) := by decide +kernel
theorem dX10_could_10 : decode cX10_could 10 = .ok (.invokevirtual 234, 3) := by decide +kernel
theorem dX10_could_13 : decode cX10_could 13 = .ok (.ifCond .ne 6, 3) := by decide +kernel
theorem dX10_could_16 : decode cX10_could 16 = .ok (.ldc 177, 2) := by decide +kernel
theorem dX10_could_18 : decode cX10_could 18 = .ok (.ireturn, 1) := by decide +kernel
theorem dX10_could_19 : decode cX10_could 19 = .ok (.aload_n 0, 1) := by decide +kernel
theorem dX10_could_20 : decode cX10_could 20 = .ok (.invokevirtual 221, 3) := by decide +kernel
theorem dX10_could_23 : decode cX10_could 23 = .ok (.iconst 0, 1) := by decide +kernel
theorem dX10_could_24 : decode cX10_could 24 = .ok (.istore_n 3, 1) := by decide +kernel
theorem dX10_could_25 : decode cX10_could 25 = .ok (.iconst 0, 1) := by decide +kernel
theorem dX10_could_26 : decode cX10_could 26 = .ok (.istore 4, 2) := by decide +kernel
theorem dX10_could_28 : decode cX10_could 28 = .ok (.iload 4, 2) := by decide +kernel
theorem dX10_could_30 : decode cX10_could 30 = .ok (.aload_n 0, 1) := by decide +kernel
theorem dX10_could_31 : decode cX10_could 31 = .ok (.getfield 7, 3) := by decide +kernel
theorem dX10_could_34 : decode cX10_could 34 = .ok (.iconst 1, 1) := by decide +kernel
theorem dX10_could_35 : decode cX10_could 35 = .ok (.iaload, 1) := by decide +kernel
theorem dX10_could_36 : decode cX10_could 36 = .ok (.if_icmp .ge 40, 3) := by decide +kernel
theorem dX10_could_39 : decode cX10_could 39 = .ok (.aload_n 0, 1) := by decide +kernel
theorem dX10_could_40 : decode cX10_could 40 = .ok (.iload_n 1, 1) := by decide +kernel
theorem dX10_could_41 : decode cX10_could 41 = .ok (.iload 4, 2) := by decide +kernel
theorem dX10_could_43 : decode cX10_could 43 = .ok (.aload_n 0, 1) := by decide +kernel
theorem dX10_could_44 : decode cX10_could 44 = .ok (.getfield 41, 3) := by decide +kernel
theorem dX10_could_47 : decode cX10_could 47 = .ok (.invokevirtual 224, 3) := by decide +kernel
theorem dX10_could_50 : decode cX10_could 50 = .ok (.iload_n 3, 1) := by decide +kernel
theorem dX10_could_51 : decode cX10_could 51 = .ok (.aload_n 0, 1) := by decide +kernel
theorem dX10_could_52 : decode cX10_could 52 = .ok (.getfield 41, 3) := by decide +kernel
theorem dX10_could_55 : decode cX10_could 55 = .ok (.iload_n 2, 1) := by decide +kernel
theorem dX10_could_56 : decode cX10_could 56 = .ok (.baload, 1) := by decide +kernel
theorem dX10_could_57 : decode cX10_could 57 = .ok (.ifCond .eq 10, 3) := by decide +kernel
theorem dX10_could_60 : decode cX10_could 60 = .ok (.iconst 1, 1) := by decide +kernel
theorem dX10_could_61 : decode cX10_could 61 = .ok (.iload 4, 2) := by decide +kernel
theorem dX10_could_63 : decode cX10_could 63 = .ok (.ishl, 1) := by decide +kernel
theorem dX10_could_64 : decode cX10_could 64 = .ok (.goto 4, 3) := by decide +kernel
theorem dX10_could_67 : decode cX10_could 67 = .ok (.iconst 0, 1) := by decide +kernel
theorem dX10_could_68 : decode cX10_could 68 = .ok (.ior, 1) := by decide +kernel
theorem dX10_could_69 : decode cX10_could 69 = .ok (.istore_n 3, 1) := by decide +kernel
theorem dX10_could_70 : decode cX10_could 70 = .ok (.iinc 4 1, 3) := by decide +kernel
theorem dX10_could_73 : decode cX10_could 73 = .ok (.goto (-45), 3) := by decide +kernel
theorem dX10_could_76 : decode cX10_could 76 = .ok (.iload_n 3, 1) := by decide +kernel
theorem dX10_could_77 : decode cX10_could 77 = .ok (.ireturn, 1) := by decide +kernel
theorem dX10_fault_0 : decode cX10_fault 0 = .ok (.aload_n 0, 1) := by decide +kernel
theorem dX10_fault_1 : decode cX10_fault 1 = .ok (.getfield 187, 3) := by decide +kernel
theorem dX10_fault_4 : decode cX10_fault 4 = .ok (.ireturn, 1) := by decide +kernel
theorem dX10_count_0 : decode cX10_count 0 = .ok (.iload_n 1, 1) := by decide +kernel
theorem dX10_count_1 : decode cX10_count 1 = .ok (.tableswitch 84 0 6 #[43, 50, 57, 62, 67, 74, 79], 43) := by decide +kernel
theorem dX10_count_44 : decode cX10_count 44 = .ok (.aload_n 0, 1) := by decide +kernel
theorem dX10_count_45 : decode cX10_count 45 = .ok (.getfield 7, 3) := by decide +kernel
theorem dX10_count_48 : decode cX10_count 48 = .ok (.iconst 0, 1) := by decide +kernel
theorem dX10_count_49 : decode cX10_count 49 = .ok (.iaload, 1) := by decide +kernel
theorem dX10_count_50 : decode cX10_count 50 = .ok (.ireturn, 1) := by decide +kernel
theorem dX10_count_51 : decode cX10_count 51 = .ok (.aload_n 0, 1) := by decide +kernel
theorem dX10_count_52 : decode cX10_count 52 = .ok (.getfield 7, 3) := by decide +kernel
theorem dX10_count_55 : decode cX10_count 55 = .ok (.iconst 1, 1) := by decide +kernel
theorem dX10_count_56 : decode cX10_count 56 = .ok (.iaload, 1) := by decide +kernel
theorem dX10_count_57 : decode cX10_count 57 = .ok (.ireturn, 1) := by decide +kernel
theorem dX10_count_58 : decode cX10_count 58 = .ok (.aload_n 0, 1) := by decide +kernel
theorem dX10_count_59 : decode cX10_count 59 = .ok (.invokevirtual 295, 3) := by decide +kernel
theorem dX10_count_62 : decode cX10_count 62 = .ok (.ireturn, 1) := by decide +kernel
theorem dX10_count_63 : decode cX10_count 63 = .ok (.aload_n 0, 1) := by decide +kernel
theorem dX10_count_64 : decode cX10_count 64 = .ok (.invokevirtual 231, 3) := by decide +kernel
theorem dX10_count_67 : decode cX10_count 67 = .ok (.ireturn, 1) := by decide +kernel
theorem dX10_count_68 : decode cX10_count 68 = .ok (.aload_n 0, 1) := by decide +kernel
theorem dX10_count_69 : decode cX10_count 69 = .ok (.getfield 7, 3) := by decide +kernel
theorem dX10_count_72 : decode cX10_count 72 = .ok (.iconst 2, 1) := by decide +kernel
theorem dX10_count_73 : decode cX10_count 73 = .ok (.iaload, 1) := by decide +kernel
theorem dX10_count_74 : decode cX10_count 74 = .ok (.ireturn, 1) := by decide +kernel
theorem dX10_count_75 : decode cX10_count 75 = .ok (.aload_n 0, 1) := by decide +kernel
theorem dX10_count_76 : decode cX10_count 76 = .ok (.getfield 195, 3) := by decide +kernel
theorem dX10_count_79 : decode cX10_count 79 = .ok (.ireturn, 1) := by decide +kernel
theorem dX10_count_80 : decode cX10_count 80 = .ok (.aload_n 0, 1) := by decide +kernel
theorem dX10_count_81 : decode cX10_count 81 = .ok (.getfield 95, 3) := by decide +kernel
theorem dX10_count_84 : decode cX10_count 84 = .ok (.ireturn, 1) := by decide +kernel
theorem dX10_count_85 : decode cX10_count 85 = .ok (.ldc 177, 2) := by decide +kernel
theorem dX10_count_87 : decode cX10_count 87 = .ok (.ireturn, 1) := by decide +kernel
def w_X10_citation : List Cond := .code yX10_citation cX10_citation 4 (some .int) :: ([.methodLink RX10 228 yX10_isCitation, .instanceMethod yX10_isCitation, .selects RX10 yX10_isCitation yX10_isCitation, .initialized RX10, .code yX10_isCitation cX10_isCitation 2 (some .boolean), .constantLong RX10 213 (7), .methodLink RX10 51 yX10_in0, .static yX10_in0, .code yX10_in0 cX10_in0 6 (some .boolean), .methodLink RX10 215 yX10_cited, .instanceMethod yX10_cited, .selects RX10 yX10_cited yX10_cited, .code yX10_cited cX10_cited 3 (some .int), .fieldLink RX10 7 "LineCitesModel" "now" "[I", .constant RX10 177 (-1000001), .methodLink RX10 221 yX10_lays, .instanceMethod yX10_lays, .selects RX10 yX10_lays yX10_lays, .code yX10_lays cX10_lays 9 none, .constant RX10 61 (-1000000), .fieldLink RX10 29 "LineCitesModel" "low" "[I", .fieldLink RX10 32 "LineCitesModel" "high" "[I", .methodLink RX10 66 yX10_stretchOf, .static yX10_stretchOf, .code yX10_stretchOf cX10_stretchOf 7 (some .int), .methodLink RX10 62 yX10_of, .static yX10_of, .code yX10_of cX10_of 4 (some .int), .fieldLink RX10 41 "LineCitesModel" "lines" "[Z", .methodLink RX10 224 yX10_laysLines, .instanceMethod yX10_laysLines, .selects RX10 yX10_laysLines yX10_laysLines, .code yX10_laysLines cX10_laysLines 4 none, .methodLink RX10 286 yX10_lastOf, .instanceMethod yX10_lastOf, .selects RX10 yX10_lastOf yX10_lastOf, .code yX10_lastOf cX10_lastOf 2 (some .int), .methodLink RX10 289 yX10_laysSpan, .instanceMethod yX10_laysSpan, .selects RX10 yX10_laysSpan yX10_laysSpan, .code yX10_laysSpan cX10_laysSpan 7 none, .methodLink RX10 87 yX10_clears, .static yX10_clears, .code yX10_clears cX10_clears 2 none, .methodLink RX10 73 yX10_hasNumber, .instanceMethod yX10_hasNumber, .selects RX10 yX10_hasNumber yX10_hasNumber, .code yX10_hasNumber cX10_hasNumber 3 (some .boolean), .methodLink RX10 77 yX10_manyIn, .static yX10_manyIn, .code yX10_manyIn cX10_manyIn 3 (some .int), .methodLink RX10 84 yX10_greatestOf, .static yX10_greatestOf, .code yX10_greatestOf cX10_greatestOf 3 (some .int), .methodLink RX10 81 yX10_leastOf, .static yX10_leastOf, .code yX10_leastOf cX10_leastOf 3 (some .int), .methodLink RX10 251 yX10_told, .static yX10_told, .code yX10_told cX10_told 2 (some .int)] ++ wsX100)
set_option maxRecDepth 20000 in
theorem g_X10_citation_X10_isCitation : GoodIn w_X10_citation (wsV RX10 228 RX10 yX10_isCitation w_X10_isCitation) := goodIn_r _ [1, 2, 3, 4, 5, 6, 7, 8, 4, 9, 10, 11, 12, 13, 14, 61, 62, 63, 64, 65, 66, 67, 68, 69, 70, 71, 72, 73, 74, 75, 76, 77, 78, 79, 80, 81, 82, 83, 84, 85] rfl (by decide +kernel)
set_option maxRecDepth 20000 in
theorem g_X10_citation_X10_in0 : GoodIn w_X10_citation (wsS RX10 51 yX10_in0 w_X10_in0) := goodIn_r _ [7, 8, 4, 9] rfl (by decide +kernel)
set_option maxRecDepth 20000 in
theorem g_X10_citation_X10_lays : GoodIn w_X10_citation (wsV RX10 221 RX10 yX10_lays w_X10_lays) := goodIn_r _ [16, 17, 18, 4, 19, 14, 20, 21, 22, 23, 24, 4, 25, 26, 27, 28, 7, 8, 9, 61, 62, 63, 64, 65, 66, 67, 68, 69, 70, 71, 72, 73, 74, 75, 76, 77, 78, 79, 80, 81, 82, 83, 84, 85] rfl (by decide +kernel)
set_option maxRecDepth 20000 in
theorem g_X10_citation_X10_cited : GoodIn w_X10_citation (wsV RX10 215 RX10 yX10_cited w_X10_cited) := goodIn_r _ [10, 11, 12, 4, 13, 14, 61, 62, 63, 64, 65, 66, 67, 68, 69, 70, 71, 72, 73, 74, 75, 76, 77, 78, 79, 80, 81, 82, 83, 84, 85] rfl (by decide +kernel)
set_option maxRecDepth 20000 in
theorem g_X10_citation_X10_laysLines : GoodIn w_X10_citation (wsV RX10 224 RX10 yX10_laysLines w_X10_laysLines) := goodIn_r _ [30, 31, 32, 4, 33, 10, 11, 12, 4, 13, 14, 34, 35, 36, 37, 38, 39, 40, 41, 42, 43, 44, 45, 46, 47, 48, 21, 7, 8, 9, 22, 61, 62, 63, 64, 65, 66, 67, 68, 69, 70, 71, 72, 73, 74, 75, 76, 77, 78, 79, 80, 81, 82, 83, 84, 85] rfl (by decide +kernel)
set_option maxRecDepth 20000 in
theorem g_X10_citation_X10_manyIn__2 : GoodIn w_X10_citation (wsS RX10 77 yX10_manyIn w_X10_manyIn__2) := goodIn_r _ [49, 50, 4, 51] rfl (by decide +kernel)
set_option maxRecDepth 20000 in
theorem g_X10_citation_X10_greatestOf__2 : GoodIn w_X10_citation (wsS RX10 84 yX10_greatestOf w_X10_greatestOf__2) := goodIn_r _ [52, 53, 4, 54, 20] rfl (by decide +kernel)
set_option maxRecDepth 20000 in
theorem g_X10_citation_X10_leastOf__2 : GoodIn w_X10_citation (wsS RX10 81 yX10_leastOf w_X10_leastOf__2) := goodIn_r _ [55, 56, 4, 57, 20] rfl (by decide +kernel)
set_option maxRecDepth 20000 in
theorem g_X10_citation_X10_told__2 : GoodIn w_X10_citation (wsS RX10 251 yX10_told w_X10_told__2) := goodIn_r _ [58, 59, 4, 60, 52, 53, 4, 54, 20, 55, 56, 57, 49, 50, 51] rfl (by decide +kernel)
set_option maxRecDepth 20000 in
theorem g_X10_citation_X10_lastOf : GoodIn w_X10_citation (wsV RX10 286 RX10 yX10_lastOf w_X10_lastOf) := goodIn_r _ [34, 35, 36, 4, 37, 10, 11, 12, 4, 13, 14, 61, 62, 63, 64, 65, 66, 67, 68, 69, 70, 71, 72, 73, 74, 75, 76, 77, 78, 79, 80, 81, 82, 83, 84, 85] rfl (by decide +kernel)
set_option maxHeartbeats 4000000 in
set_option maxRecDepth 100000 in
theorem c_X10_citation (l : Launch) (D : va_G) (h0 : Nat) (i_0 : Int32) (i_1 : Int32) (m_now : Nat) (m_draft : Nat) (m_past : Nat) (j_acts : Int32) (m_images : Nat) (m_kept : Nat) (m_tape : Nat) (j_taped : Int32) (j_at : Int32) (j_start : Int32) (j_token : Int32) (j_value : Int32) (j_fault : Int32) (j_place : Int32) (j_latest : Int32) (m_low : Nat) (m_high : Nat) (m_first : Nat) (m_second : Nat) (m_lines : Nat) (m_others : Nat) (j_shiftFirst : Int32) (j_shiftMany : Int32) (j_shiftLow : Int32) (j_shiftHigh : Int32) (kI : ClassId) (g_now : Nat → Int32) (g_low : Nat → Int32) (g_high : Nat → Int32) (kZ : ClassId) (g_lines : Nat → Int32) (sz : Nat) (hg_now : gV g_now) (hg_low : bP g_low) (hg_high : bP g_high) : Met l yX10_citation w_X10_citation ({ frames := 3, cells := 0, slots := 0, locals := 79 }) (va_Pc [.ref h0, .int i_0, .int i_1] (fun U => U.heap.size = sz ∧ va_P D vwCl [(h0, .inr (10, [.ref m_now, .ref m_draft, .ref m_past, .int j_acts, .ref m_images, .ref m_kept, .ref m_tape, .int j_taped, .int j_at, .int j_start, .int j_token, .int j_value, .int j_fault, .int j_place, .int j_latest, .ref m_low, .ref m_high, .ref m_first, .ref m_second, .ref m_lines, .ref m_others, .int j_shiftFirst, .int j_shiftMany, .int j_shiftLow, .int j_shiftHigh])), (m_now, .inl (kI, 192, .inl g_now)), (m_low, .inl (kI, 1000, .inl g_low)), (m_high, .inl (kI, 1000, .inl g_high)), (m_lines, .inl (kZ, 200, .inl g_lines))] U.heap ∧ va_K D vwCl [(kI, .int), (kZ, .boolean)] U ∧ va_D (fun _ => True) [(h0, .inr (10, [.ref m_now, .ref m_draft, .ref m_past, .int j_acts, .ref m_images, .ref m_kept, .ref m_tape, .int j_taped, .int j_at, .int j_start, .int j_token, .int j_value, .int j_fault, .int j_place, .int j_latest, .ref m_low, .ref m_high, .ref m_first, .ref m_second, .ref m_lines, .ref m_others, .int j_shiftFirst, .int j_shiftMany, .int j_shiftLow, .int j_shiftHigh])), (m_now, .inl (kI, 192, .inl g_now)), (m_low, .inl (kI, 1000, .inl g_low)), (m_high, .inl (kI, 1000, .inl g_high)), (m_lines, .inl (kZ, 200, .inl g_lines))])) (va_Qi (fun (r : Int32) (_ : Unit) => True) (fun (_ : Unit) t => ∃ (n_low : Nat → Int32) (n_high : Nat → Int32) (n_lines : Nat → Int32), va_P D vwCl [(h0, .inr (10, [.ref m_now, .ref m_draft, .ref m_past, .int j_acts, .ref m_images, .ref m_kept, .ref m_tape, .int j_taped, .int j_at, .int j_start, .int j_token, .int j_value, .int j_fault, .int j_place, .int j_latest, .ref m_low, .ref m_high, .ref m_first, .ref m_second, .ref m_lines, .ref m_others, .int j_shiftFirst, .int j_shiftMany, .int j_shiftLow, .int j_shiftHigh])), (m_now, .inl (kI, 192, .inl g_now)), (m_low, .inl (kI, 1000, .inl n_low)), (m_high, .inl (kI, 1000, .inl n_high)), (m_lines, .inl (kZ, 200, .inl n_lines))] t.heap ∧ va_K D vwCl [(kI, .int), (kZ, .boolean)] t ∧ va_D (va_A [(h0, .inr (10, [.ref m_now, .ref m_draft, .ref m_past, .int j_acts, .ref m_images, .ref m_kept, .ref m_tape, .int j_taped, .int j_at, .int j_start, .int j_token, .int j_value, .int j_fault, .int j_place, .int j_latest, .ref m_low, .ref m_high, .ref m_first, .ref m_second, .ref m_lines, .ref m_others, .int j_shiftFirst, .int j_shiftMany, .int j_shiftLow, .int j_shiftHigh])), (m_now, .inl (kI, 192, .inl g_now)), (m_low, .inl (kI, 1000, .inl g_low)), (m_high, .inl (kI, 1000, .inl g_high)), (m_lines, .inl (kZ, 200, .inl g_lines))] sz) [(h0, .inr (10, [.ref m_now, .ref m_draft, .ref m_past, .int j_acts, .ref m_images, .ref m_kept, .ref m_tape, .int j_taped, .int j_at, .int j_start, .int j_token, .int j_value, .int j_fault, .int j_place, .int j_latest, .ref m_low, .ref m_high, .ref m_first, .ref m_second, .ref m_lines, .ref m_others, .int j_shiftFirst, .int j_shiftMany, .int j_shiftLow, .int j_shiftHigh])), (m_now, .inl (kI, 192, .inl g_now)), (m_low, .inl (kI, 1000, .inl n_low)), (m_high, .inl (kI, 1000, .inl n_high)), (m_lines, .inl (kZ, 200, .inl n_lines))] ∧ bP n_low ∧ bP n_high) (va_A [(h0, .inr (10, [.ref m_now, .ref m_draft, .ref m_past, .int j_acts, .ref m_images, .ref m_kept, .ref m_tape, .int j_taped, .int j_at, .int j_start, .int j_token, .int j_value, .int j_fault, .int j_place, .int j_latest, .ref m_low, .ref m_high, .ref m_first, .ref m_second, .ref m_lines, .ref m_others, .int j_shiftFirst, .int j_shiftMany, .int j_shiftLow, .int j_shiftHigh])), (m_now, .inl (kI, 192, .inl g_now)), (m_low, .inl (kI, 1000, .inl g_low)), (m_high, .inl (kI, 1000, .inl g_high)), (m_lines, .inl (kZ, 200, .inl g_lines))] sz)) 0 0 (va_A [(h0, .inr (10, [.ref m_now, .ref m_draft, .ref m_past, .int j_acts, .ref m_images, .ref m_kept, .ref m_tape, .int j_taped, .int j_at, .int j_start, .int j_token, .int j_value, .int j_fault, .int j_place, .int j_latest, .ref m_low, .ref m_high, .ref m_first, .ref m_second, .ref m_lines, .ref m_others, .int j_shiftFirst, .int j_shiftMany, .int j_shiftLow, .int j_shiftHigh])), (m_now, .inl (kI, 192, .inl g_now)), (m_low, .inl (kI, 1000, .inl g_low)), (m_high, .inl (kI, 1000, .inl g_high)), (m_lines, .inl (kZ, 200, .inl g_lines))] sz) := by
  refine Met.ofW (cc := cX10_citation) (maxL := 4) (ret := (some .int)) (by decide) rfl ?_
  intro p e s m args below meth c s₁ B hml hv
  obtain ⟨rfl, hsz, hP, hK, hD0⟩ := hv
  have hx := B.exec
  have hb := B.bytes
  have hr := B.returns
  have hts := atoms_spec (ws := w_X10_citation) B.pre
  have hown : s.vm.findClass RX10 = some m.cls := findClass_of_methodNamed B.named
  have hlocks := B.notSynchronized
  subst hsz
  have hD := hD0.self (sz := s.heap.size)
  generalize hAe : va_A [(h0, .inr (10, [.ref m_now, .ref m_draft, .ref m_past, .int j_acts, .ref m_images, .ref m_kept, .ref m_tape, .int j_taped, .int j_at, .int j_start, .int j_token, .int j_value, .int j_fault, .int j_place, .int j_latest, .ref m_low, .ref m_high, .ref m_first, .ref m_second, .ref m_lines, .ref m_others, .int j_shiftFirst, .int j_shiftMany, .int j_shiftLow, .int j_shiftHigh])), (m_now, .inl (kI, 192, .inl g_now)), (m_low, .inl (kI, 1000, .inl g_low)), (m_high, .inl (kI, 1000, .inl g_high)), (m_lines, .inl (kZ, 200, .inl g_lines))] s.heap.size = A at hD ⊢
  have hA : ∀ q : Nat, s.heap.size ≤ q → A q := fun q h => by rw [← hAe]; exact Or.inr h
  have hS : va_S A s.heap s.heap [] := va_S.rf
  have hP : va_P D vwCl [(h0, .inr (10, [.ref m_now, .ref m_draft, .ref m_past, .int j_acts, .ref m_images, .ref m_kept, .ref m_tape, .int j_taped, .int j_at, .int j_start, .int j_token, .int j_value, .int j_fault, .int j_place, .int j_latest, .ref m_low, .ref m_high, .ref m_first, .ref m_second, .ref m_lines, .ref m_others, .int j_shiftFirst, .int j_shiftMany, .int j_shiftLow, .int j_shiftHigh])), (m_now, .inl (kI, 192, .inl g_now)), (m_low, .inl (kI, 1000, .inl g_low)), (m_high, .inl (kI, 1000, .inl g_high)), (m_lines, .inl (kZ, 200, .inl g_lines))] s.heap := hP
  have hl := lv_entry ([.ref h0, .int i_0, .int i_1]) (n := 4) (Nat.le_of_ble_eq_true rfl)
  rw [lg_entry_eq]
  generalize (lg_sl ([.ref h0, .int i_0, .int i_1]) ++ List.replicate (4 - (lg_sl ([.ref h0, .int i_0, .int i_1])).length) Slot.unset).toArray = ls at hl ⊢
  have hl : lv_has ls 4 [(0, .ref h0), (1, .int i_0), (2, .int i_1)] := hl
  obtain ⟨H, hHe⟩ : ∃ H : Heap, H = s.heap := ⟨_, rfl⟩
  rw [← hHe] at hP
  have hS : va_S A s.heap H [] := by rw [hHe]; exact hS
  refine pw_heap hHe ?_
  refine lv_aload_n hx hb dX10_citation_0 rfl (lv_at hl 0 rfl) ?_
  refine lv_iload_n hx hb dX10_citation_1 rfl (lv_at hl 1 rfl) ?_
  have hPc := hP.sub (ws' := [(h0, .inr (10, [.ref m_now, .ref m_draft, .ref m_past, .int j_acts, .ref m_images, .ref m_kept, .ref m_tape, .int j_taped, .int j_at, .int j_start, .int j_token, .int j_value, .int j_fault, .int j_place, .int j_latest, .ref m_low, .ref m_high, .ref m_first, .ref m_second, .ref m_lines, .ref m_others, .int j_shiftFirst, .int j_shiftMany, .int j_shiftLow, .int j_shiftHigh])), (m_now, .inl (kI, 192, .inl g_now))]) [0, 1] rfl
  have hKc := hK.sub (tys' := [(kI, .int)]) [0] rfl
  refine va_calli (va_runV (As := [.int i_0]) (rest := []) ⟨hx, hb, hml, hown, hts⟩ (c_X10_isCitation l D h0 i_0 m_now m_draft m_past j_acts m_images m_kept m_tape j_taped j_at j_start j_token j_value j_fault j_place j_latest m_low m_high m_first m_second m_lines m_others j_shiftFirst j_shiftMany j_shiftLow j_shiftHigh kI g_now) (cwV 1 hts g_X10_citation_X10_isCitation rfl rfl rfl (by decide +kernel) ⟨Nat.le_of_ble_eq_true rfl, Nat.le_of_ble_eq_true rfl⟩) ⟨fun a U g mk q => by obtain ⟨q0, qP, qK⟩ := q; exact ⟨q0, qP, va_K.moved (u := U) (U := U.calling g mk a) (Vm.Alike.refl U.vm) qK⟩, va_recv hKc hPc (ci := 10) (q0 := 0) rfl rfl, fun U hU hW => ⟨rfl, by rw [hU]; exact hPc, va_K.moved hW.alike hKc⟩⟩ rfl rfl hl.1 rfl (lv_room (Nat.le_of_ble_eq_true rfl)) dX10_citation_2 ⟨Nat.le_of_ble_eq_true rfl, Nat.le_of_ble_eq_true rfl⟩) hS (fun _ _ h => h.elim) (fun _ h => h.elim) (fun r1 u t H1 locs ht hvm hw hB hz1 hk1 hS => ?_)
  have hP := pw_keep hP (fun q hq => hk1 q hq (fun h => h))
  generalize H1 = H at hP hS ⊢
  refine W.widen (k := 0) (n := 0) (Nat.le_of_ble_eq_true rfl) (Nat.le_of_ble_eq_true rfl) ?_
  have bor1 := hw.1
  have zor1 := pw_boolI bor1
  have hfr1 := hw.2
  refine lv_if_eq (tgt := 20) hx hb dX10_citation_5 (by decide) (fun c2 => ?_) (fun c2 => ?_)
  · have nc2 : r1.toInt = 0 := pw_eq c2 rfl (by decide)
    refine lv_ldc hx hb hown (hts (.constant RX10 177 (-1000001)) (List.mem_of_getElem? (i := 15) rfl)) dX10_citation_20 ?_
    have hP9 := hP.sub (ws' := [(h0, .inr (10, [.ref m_now, .ref m_draft, .ref m_past, .int j_acts, .ref m_images, .ref m_kept, .ref m_tape, .int j_taped, .int j_at, .int j_start, .int j_token, .int j_value, .int j_fault, .int j_place, .int j_latest, .ref m_low, .ref m_high, .ref m_first, .ref m_second, .ref m_lines, .ref m_others, .int j_shiftFirst, .int j_shiftMany, .int j_shiftLow, .int j_shiftHigh])), (m_now, .inl (kI, 192, .inl g_now)), (m_low, .inl (kI, 1000, .inl g_low)), (m_high, .inl (kI, 1000, .inl g_high)), (m_lines, .inl (kZ, 200, .inl g_lines))]) [0, 1, 2, 3, 4] rfl
    have hD9 := hD.sub (ws' := [(h0, .inr (10, [.ref m_now, .ref m_draft, .ref m_past, .int j_acts, .ref m_images, .ref m_kept, .ref m_tape, .int j_taped, .int j_at, .int j_start, .int j_token, .int j_value, .int j_fault, .int j_place, .int j_latest, .ref m_low, .ref m_high, .ref m_first, .ref m_second, .ref m_lines, .ref m_others, .int j_shiftFirst, .int j_shiftMany, .int j_shiftLow, .int j_shiftHigh])), (m_now, .inl (kI, 192, .inl g_now)), (m_low, .inl (kI, 1000, .inl g_low)), (m_high, .inl (kI, 1000, .inl g_high)), (m_lines, .inl (kZ, 200, .inl g_lines))]) [0, 1, 2, 3, 4] (by decide) rfl
    have hK9 := hK.sub (tys' := [(kI, .int), (kZ, .boolean)]) [0, 1] rfl
    refine W.widen (k := 0) (n := 0) (Nat.le_of_ble_eq_true rfl) (Nat.le_of_ble_eq_true rfl) ?_
    exact W.iret (v := (-1000001)) hx hb hr (fun t ht hW => ⟨⟨(-1000001), (), rfl, trivial, g_low, g_high, g_lines, by rw [ht]; exact hP9, va_K.moved hW.alike hK9, hD9, hg_low, hg_high⟩, hS.F ht⟩) hS.2.2 dX10_citation_22
  · have nc2 : r1.toInt ≠ 0 := pw_ne c2 rfl (by decide)
    refine lv_iload_n hx hb dX10_citation_8 rfl (lv_at hl 2 rfl) ?_
    refine lv_i2l (v := i_1.toInt64) hx hb dX10_citation_9 rfl ?_
    refine lv_lconst (v := 0) hx hb dX10_citation_10 (by decide) ?_
    refine lv_ldc2 hx hb hown (hts (.constantLong RX10 213 (7)) (List.mem_of_getElem? (i := 6) rfl)) dX10_citation_11 ?_
    have hPc := hP.sub (ws' := []) [] rfl
    have hKc := hK.sub (tys' := []) [] rfl
    refine va_calli (va_runS (As := [.long i_1.toInt64, .long 0, .long 7]) (rest := []) ⟨hx, hb, hml, hown, hts⟩ (c_X10_in0 l D i_1.toInt64 0 7) (cwS 3 hts g_X10_citation_X10_in0 rfl rfl rfl (by decide +kernel) ⟨Nat.le_of_ble_eq_true rfl, Nat.le_of_ble_eq_true rfl⟩) ⟨fun a U g mk q => by obtain ⟨q0, qP, qK⟩ := q; exact ⟨q0, qP, va_K.moved (u := U) (U := U.calling g mk a) (Vm.Alike.refl U.vm) qK⟩, fun U hU hW => ⟨rfl, by rw [hU]; exact hPc, va_K.moved hW.alike hKc⟩⟩ rfl rfl hl.1 rfl (lv_room (Nat.le_of_ble_eq_true rfl)) dX10_citation_14 ⟨Nat.le_of_ble_eq_true rfl, Nat.le_of_ble_eq_true rfl⟩) hS (fun _ _ h => h.elim) (fun _ h => h.elim) (fun r3 u t H1 locs ht hvm hw hB hz1 hk1 hS => ?_)
    have hP := pw_keep hP (fun q hq => hk1 q hq (fun h => h))
    generalize H1 = H at hP hS ⊢
    refine W.widen (k := 0) (n := 0) (Nat.le_of_ble_eq_true rfl) (Nat.le_of_ble_eq_true rfl) ?_
    have bor3 := hw.1
    have zor3 := pw_boolI bor3
    have hfr3 := hw.2
    have kl0 : (0 : Int64).toInt = 0 := by decide
    have kl7 : (7 : Int64).toInt = 7 := by decide
    try simp only [Int32.toInt_toInt64] at hfr3
    refine lv_if_ne (tgt := 23) hx hb dX10_citation_17 (by decide) (fun c4 => ?_) (fun c4 => ?_)
    · have nc4 : r3.toInt ≠ 0 := pw_ne c4 rfl (by decide)
      refine lv_iload_n hx hb dX10_citation_23 rfl (lv_at hl 2 rfl) ?_
      refine lv_iconst (v := 4) hx hb dX10_citation_24 (by decide) ?_
      refine lv_icmp_ge (tgt := 50) hx hb dX10_citation_25 (by decide) (fun c5 => ?_) (fun c5 => ?_)
      · have nc5 : 4 ≤ i_1.toInt := pw_le c5 (by decide) rfl
        refine lv_aload_n hx hb dX10_citation_50 rfl (lv_at hl 0 rfl) ?_
        have hPc := hP.sub (ws' := [(h0, .inr (10, [.ref m_now, .ref m_draft, .ref m_past, .int j_acts, .ref m_images, .ref m_kept, .ref m_tape, .int j_taped, .int j_at, .int j_start, .int j_token, .int j_value, .int j_fault, .int j_place, .int j_latest, .ref m_low, .ref m_high, .ref m_first, .ref m_second, .ref m_lines, .ref m_others, .int j_shiftFirst, .int j_shiftMany, .int j_shiftLow, .int j_shiftHigh])), (m_now, .inl (kI, 192, .inl g_now)), (m_low, .inl (kI, 1000, .inl g_low)), (m_high, .inl (kI, 1000, .inl g_high))]) [0, 1, 2, 3] rfl
        have hKc := hK.sub (tys' := [(kI, .int)]) [0] rfl
        have hDc := hD.sub (ws' := [(h0, .inr (10, [.ref m_now, .ref m_draft, .ref m_past, .int j_acts, .ref m_images, .ref m_kept, .ref m_tape, .int j_taped, .int j_at, .int j_start, .int j_token, .int j_value, .int j_fault, .int j_place, .int j_latest, .ref m_low, .ref m_high, .ref m_first, .ref m_second, .ref m_lines, .ref m_others, .int j_shiftFirst, .int j_shiftMany, .int j_shiftLow, .int j_shiftHigh])), (m_now, .inl (kI, 192, .inl g_now)), (m_low, .inl (kI, 1000, .inl g_low)), (m_high, .inl (kI, 1000, .inl g_high))]) [0, 1, 2, 3] (by decide) rfl
        have hFc := va_free (wc := [(h0, .inr (10, [.ref m_now, .ref m_draft, .ref m_past, .int j_acts, .ref m_images, .ref m_kept, .ref m_tape, .int j_taped, .int j_at, .int j_start, .int j_token, .int j_value, .int j_fault, .int j_place, .int j_latest, .ref m_low, .ref m_high, .ref m_first, .ref m_second, .ref m_lines, .ref m_others, .int j_shiftFirst, .int j_shiftMany, .int j_shiftLow, .int j_shiftHigh])), (m_now, .inl (kI, 192, .inl g_now)), (m_low, .inl (kI, 1000, .inl g_low)), (m_high, .inl (kI, 1000, .inl g_high))]) hD hS hA [0, 1, 2, 3] rfl
        refine va_callv (va_runV (As := []) (rest := []) ⟨hx, hb, hml, hown, hts⟩ (c_X10_lays l D h0 m_now m_draft m_past j_acts m_images m_kept m_tape j_taped j_at j_start j_token j_value j_fault j_place j_latest m_low m_high m_first m_second m_lines m_others j_shiftFirst j_shiftMany j_shiftLow j_shiftHigh kI g_now g_low g_high H.size hg_now hg_low hg_high) (cwV 0 hts g_X10_citation_X10_lays rfl rfl rfl (by decide +kernel) ⟨Nat.le_of_ble_eq_true rfl, Nat.le_of_ble_eq_true rfl⟩) ⟨fun a U g mk q => by obtain ⟨q0, q1, qP, qK, qD⟩ := q; exact ⟨q0, q1, qP, va_K.moved (u := U) (U := U.calling g mk a) (Vm.Alike.refl U.vm) qK, qD⟩, va_recv hKc hPc (ci := 10) (q0 := 0) rfl rfl, fun U hU hW => ⟨rfl, by rw [hU], by rw [hU]; exact hPc, va_K.moved hW.alike hKc, hDc.weaken (fun _ _ _ _ => trivial)⟩⟩ rfl rfl hl.1 rfl (lv_room (Nat.le_of_ble_eq_true rfl)) dX10_citation_51 ⟨Nat.le_of_ble_eq_true rfl, Nat.le_of_ble_eq_true rfl⟩) hS (fun q _ h => hFc q h) hFc (fun u t H1 locs ht hvm hw hB hz1 hk1 hS => ?_)
        obtain ⟨y7, y8, hP1, hK1, hD1, hy7, hy8⟩ := hB
        rw [ht] at hP1
        have hK1 := va_K.moved hvm.symm hK1
        obtain ⟨hP, hD⟩ := va_join (wr := [(m_lines, .inl (kZ, 200, .inl g_lines))]) (w1 := [(h0, .inr (10, [.ref m_now, .ref m_draft, .ref m_past, .int j_acts, .ref m_images, .ref m_kept, .ref m_tape, .int j_taped, .int j_at, .int j_start, .int j_token, .int j_value, .int j_fault, .int j_place, .int j_latest, .ref m_low, .ref m_high, .ref m_first, .ref m_second, .ref m_lines, .ref m_others, .int j_shiftFirst, .int j_shiftMany, .int j_shiftLow, .int j_shiftHigh])), (m_now, .inl (kI, 192, .inl g_now)), (m_low, .inl (kI, 1000, .inl y7)), (m_high, .inl (kI, 1000, .inl y8))]) hP hD [0, 1, 2, 3] [4] rfl rfl (by decide) (by decide) hk1 hFc hP1 hD1
        have hK := (hK.sub (tys' := [(kI, .int), (kZ, .boolean)]) [0, 1] rfl).app hK1
        generalize H1 = H at hP hS ⊢
        have hP : va_P D vwCl [(m_lines, .inl (kZ, 200, .inl g_lines)), (h0, .inr (10, [.ref m_now, .ref m_draft, .ref m_past, .int j_acts, .ref m_images, .ref m_kept, .ref m_tape, .int j_taped, .int j_at, .int j_start, .int j_token, .int j_value, .int j_fault, .int j_place, .int j_latest, .ref m_low, .ref m_high, .ref m_first, .ref m_second, .ref m_lines, .ref m_others, .int j_shiftFirst, .int j_shiftMany, .int j_shiftLow, .int j_shiftHigh])), (m_now, .inl (kI, 192, .inl g_now)), (m_low, .inl (kI, 1000, .inl y7)), (m_high, .inl (kI, 1000, .inl y8))] H := hP
        have hD : va_D A [(m_lines, .inl (kZ, 200, .inl g_lines)), (h0, .inr (10, [.ref m_now, .ref m_draft, .ref m_past, .int j_acts, .ref m_images, .ref m_kept, .ref m_tape, .int j_taped, .int j_at, .int j_start, .int j_token, .int j_value, .int j_fault, .int j_place, .int j_latest, .ref m_low, .ref m_high, .ref m_first, .ref m_second, .ref m_lines, .ref m_others, .int j_shiftFirst, .int j_shiftMany, .int j_shiftLow, .int j_shiftHigh])), (m_now, .inl (kI, 192, .inl g_now)), (m_low, .inl (kI, 1000, .inl y7)), (m_high, .inl (kI, 1000, .inl y8))] := hD
        have hK : va_K D vwCl [(kI, .int), (kZ, .boolean), (kI, .int)] s := hK
        refine W.widen (k := 0) (n := 0) (Nat.le_of_ble_eq_true rfl) (Nat.le_of_ble_eq_true rfl) ?_
        refine lv_aload_n hx hb dX10_citation_54 rfl (lv_at hl 0 rfl) ?_
        refine lv_iload_n hx hb dX10_citation_55 rfl (lv_at hl 1 rfl) ?_
        refine lv_aload_n hx hb dX10_citation_56 rfl (lv_at hl 0 rfl) ?_
        refine lv_iload_n hx hb dX10_citation_57 rfl (lv_at hl 1 rfl) ?_
        refine lv_iconst (v := 1) hx hb dX10_citation_58 (by decide) ?_
        have kk1 : (1 : Int32).toInt = 1 := by decide
        have hPc := hP.sub (ws' := [(h0, .inr (10, [.ref m_now, .ref m_draft, .ref m_past, .int j_acts, .ref m_images, .ref m_kept, .ref m_tape, .int j_taped, .int j_at, .int j_start, .int j_token, .int j_value, .int j_fault, .int j_place, .int j_latest, .ref m_low, .ref m_high, .ref m_first, .ref m_second, .ref m_lines, .ref m_others, .int j_shiftFirst, .int j_shiftMany, .int j_shiftLow, .int j_shiftHigh])), (m_now, .inl (kI, 192, .inl g_now))]) [1, 2] rfl
        have hKc := hK.sub (tys' := [(kI, .int)]) [0] rfl
        refine va_calli (va_runV (As := [.int i_0, .int 1]) (rest := [.int i_0, .ref h0]) ⟨hx, hb, hml, hown, hts⟩ (c_X10_cited l D h0 i_0 1 m_now m_draft m_past j_acts m_images m_kept m_tape j_taped j_at j_start j_token j_value j_fault j_place j_latest m_low m_high m_first m_second m_lines m_others j_shiftFirst j_shiftMany j_shiftLow j_shiftHigh kI g_now i_0.toInt.toNat 1 (by first | decide | omega) (by first | decide | omega) (by first | decide | omega) (by first | decide | omega) (by first | omega | decide | (have hz0 : (0 : Int32).toInt = 0 := (by decide); omega)) (by first | omega | decide | (have hz0 : (0 : Int32).toInt = 0 := (by decide); omega))) (cwV 2 hts g_X10_citation_X10_cited rfl rfl rfl (by decide +kernel) ⟨Nat.le_of_ble_eq_true rfl, Nat.le_of_ble_eq_true rfl⟩) ⟨fun a U g mk q => by obtain ⟨q0, qP, qK⟩ := q; exact ⟨q0, qP, va_K.moved (u := U) (U := U.calling g mk a) (Vm.Alike.refl U.vm) qK⟩, va_recv hKc hPc (ci := 10) (q0 := 0) rfl rfl, fun U hU hW => ⟨rfl, by rw [hU]; exact hPc, va_K.moved hW.alike hKc⟩⟩ rfl rfl hl.1 rfl (lv_room (Nat.le_of_ble_eq_true rfl)) dX10_citation_59 ⟨Nat.le_of_ble_eq_true rfl, Nat.le_of_ble_eq_true rfl⟩) hS (fun _ _ h => h.elim) (fun _ h => h.elim) (fun r9 u t H1 locs ht hvm hw hB hz1 hk1 hS => ?_)
        have hP := pw_keep hP (fun q hq => hk1 q hq (fun h => h))
        generalize H1 = H at hP hS ⊢
        refine W.widen (k := 0) (n := 0) (Nat.le_of_ble_eq_true rfl) (Nat.le_of_ble_eq_true rfl) ?_
        have hfr9 := hw
        have ncr9 := gV_c hg_now hfr9 (by omega)
        refine lv_aload_n hx hb dX10_citation_62 rfl (lv_at hl 0 rfl) ?_
        refine va_get (D := D) (ci := 10) (v := .ref m_lines) (C := RX10) (T := TX10) (N := 25) hx hb hts (fun _ h => List.mem_cons_of_mem _ (List.mem_append_right _ h)) hown hK hP 1 rfl rfl 19 (by decide) (hts (.fieldLink RX10 41 "LineCitesModel" "lines" "[Z") (List.mem_of_getElem? (i := 29) rfl)) (fun _ h9 => h9) rfl dX10_citation_63 ?_
        have hPc := hP.sub (ws' := [(h0, .inr (10, [.ref m_now, .ref m_draft, .ref m_past, .int j_acts, .ref m_images, .ref m_kept, .ref m_tape, .int j_taped, .int j_at, .int j_start, .int j_token, .int j_value, .int j_fault, .int j_place, .int j_latest, .ref m_low, .ref m_high, .ref m_first, .ref m_second, .ref m_lines, .ref m_others, .int j_shiftFirst, .int j_shiftMany, .int j_shiftLow, .int j_shiftHigh])), (m_now, .inl (kI, 192, .inl g_now)), (m_low, .inl (kI, 1000, .inl y7)), (m_high, .inl (kI, 1000, .inl y8)), (m_lines, .inl (kZ, 200, .inl g_lines))]) [1, 2, 3, 4, 0] rfl
        have hKc := hK.sub (tys' := [(kI, .int), (kZ, .boolean)]) [0, 1] rfl
        have hDc := hD.sub (ws' := [(h0, .inr (10, [.ref m_now, .ref m_draft, .ref m_past, .int j_acts, .ref m_images, .ref m_kept, .ref m_tape, .int j_taped, .int j_at, .int j_start, .int j_token, .int j_value, .int j_fault, .int j_place, .int j_latest, .ref m_low, .ref m_high, .ref m_first, .ref m_second, .ref m_lines, .ref m_others, .int j_shiftFirst, .int j_shiftMany, .int j_shiftLow, .int j_shiftHigh])), (m_now, .inl (kI, 192, .inl g_now)), (m_low, .inl (kI, 1000, .inl y7)), (m_high, .inl (kI, 1000, .inl y8)), (m_lines, .inl (kZ, 200, .inl g_lines))]) [1, 2, 3, 4, 0] (by decide) rfl
        have hFc := va_free (wc := [(h0, .inr (10, [.ref m_now, .ref m_draft, .ref m_past, .int j_acts, .ref m_images, .ref m_kept, .ref m_tape, .int j_taped, .int j_at, .int j_start, .int j_token, .int j_value, .int j_fault, .int j_place, .int j_latest, .ref m_low, .ref m_high, .ref m_first, .ref m_second, .ref m_lines, .ref m_others, .int j_shiftFirst, .int j_shiftMany, .int j_shiftLow, .int j_shiftHigh])), (m_now, .inl (kI, 192, .inl g_now)), (m_low, .inl (kI, 1000, .inl y7)), (m_high, .inl (kI, 1000, .inl y8)), (m_lines, .inl (kZ, 200, .inl g_lines))]) hD hS hA [1, 2, 3, 4, 0] rfl
        refine va_callv (va_runV (As := [.int i_0, .int r9, .ref m_lines]) (rest := []) ⟨hx, hb, hml, hown, hts⟩ (c_X10_laysLines l D h0 i_0 r9 m_lines m_now m_draft m_past j_acts m_images m_kept m_tape j_taped j_at j_start j_token j_value j_fault j_place j_latest m_low m_high m_first m_second m_lines m_others j_shiftFirst j_shiftMany j_shiftLow j_shiftHigh kI g_now y7 y8 kZ g_lines H.size (by first | decide | omega) (by first | decide | omega) (by first | decide | omega) (by first | decide | omega) hg_now hy7 hy8) (cwV 3 hts g_X10_citation_X10_laysLines rfl rfl rfl (by decide +kernel) ⟨Nat.le_of_ble_eq_true rfl, Nat.le_of_ble_eq_true rfl⟩) ⟨fun a U g mk q => by obtain ⟨q0, q1, qP, qK, qD⟩ := q; exact ⟨q0, q1, qP, va_K.moved (u := U) (U := U.calling g mk a) (Vm.Alike.refl U.vm) qK, qD⟩, va_recv hKc hPc (ci := 10) (q0 := 0) rfl rfl, fun U hU hW => ⟨rfl, by rw [hU], by rw [hU]; exact hPc, va_K.moved hW.alike hKc, hDc.weaken (fun _ _ _ _ => trivial)⟩⟩ rfl rfl hl.1 rfl (lv_room (Nat.le_of_ble_eq_true rfl)) dX10_citation_66 ⟨Nat.le_of_ble_eq_true rfl, Nat.le_of_ble_eq_true rfl⟩) hS (fun q _ h => hFc q h) hFc (fun u t H1 locs ht hvm hw hB hz1 hk1 hS => ?_)
        obtain ⟨y11, hP1, hK1, hD1⟩ := hB
        rw [ht] at hP1
        have hK1 := va_K.moved hvm.symm hK1
        obtain ⟨hP, hD⟩ := va_join (wr := []) (w1 := [(h0, .inr (10, [.ref m_now, .ref m_draft, .ref m_past, .int j_acts, .ref m_images, .ref m_kept, .ref m_tape, .int j_taped, .int j_at, .int j_start, .int j_token, .int j_value, .int j_fault, .int j_place, .int j_latest, .ref m_low, .ref m_high, .ref m_first, .ref m_second, .ref m_lines, .ref m_others, .int j_shiftFirst, .int j_shiftMany, .int j_shiftLow, .int j_shiftHigh])), (m_now, .inl (kI, 192, .inl g_now)), (m_low, .inl (kI, 1000, .inl y7)), (m_high, .inl (kI, 1000, .inl y8)), (m_lines, .inl (kZ, 200, .inl y11))]) hP hD [1, 2, 3, 4, 0] [] rfl rfl (by decide) (by decide) hk1 hFc hP1 hD1
        have hK := (hK.sub (tys' := [(kI, .int), (kZ, .boolean), (kI, .int)]) [0, 1, 2] rfl).app hK1
        generalize H1 = H at hP hS ⊢
        have hP : va_P D vwCl [(h0, .inr (10, [.ref m_now, .ref m_draft, .ref m_past, .int j_acts, .ref m_images, .ref m_kept, .ref m_tape, .int j_taped, .int j_at, .int j_start, .int j_token, .int j_value, .int j_fault, .int j_place, .int j_latest, .ref m_low, .ref m_high, .ref m_first, .ref m_second, .ref m_lines, .ref m_others, .int j_shiftFirst, .int j_shiftMany, .int j_shiftLow, .int j_shiftHigh])), (m_now, .inl (kI, 192, .inl g_now)), (m_low, .inl (kI, 1000, .inl y7)), (m_high, .inl (kI, 1000, .inl y8)), (m_lines, .inl (kZ, 200, .inl y11))] H := hP
        have hD : va_D A [(h0, .inr (10, [.ref m_now, .ref m_draft, .ref m_past, .int j_acts, .ref m_images, .ref m_kept, .ref m_tape, .int j_taped, .int j_at, .int j_start, .int j_token, .int j_value, .int j_fault, .int j_place, .int j_latest, .ref m_low, .ref m_high, .ref m_first, .ref m_second, .ref m_lines, .ref m_others, .int j_shiftFirst, .int j_shiftMany, .int j_shiftLow, .int j_shiftHigh])), (m_now, .inl (kI, 192, .inl g_now)), (m_low, .inl (kI, 1000, .inl y7)), (m_high, .inl (kI, 1000, .inl y8)), (m_lines, .inl (kZ, 200, .inl y11))] := hD
        have hK : va_K D vwCl [(kI, .int), (kZ, .boolean), (kI, .int), (kI, .int), (kZ, .boolean)] s := hK
        refine W.widen (k := 0) (n := 0) (Nat.le_of_ble_eq_true rfl) (Nat.le_of_ble_eq_true rfl) ?_
        refine lv_aload_n hx hb dX10_citation_69 rfl (lv_at hl 0 rfl) ?_
        refine va_get (D := D) (ci := 10) (v := .ref m_lines) (C := RX10) (T := TX10) (N := 25) hx hb hts (fun _ h => List.mem_cons_of_mem _ (List.mem_append_right _ h)) hown hK hP 0 rfl rfl 19 (by decide) (hts (.fieldLink RX10 41 "LineCitesModel" "lines" "[Z") (List.mem_of_getElem? (i := 29) rfl)) (fun _ h9 => h9) rfl dX10_citation_70 ?_
        have hPc := hP.sub (ws' := [(m_lines, .inl (kZ, 200, .inl y11))]) [4] rfl
        have hKc := hK.sub (tys' := [(kZ, .boolean)]) [1] rfl
        refine va_calli (va_runS (As := [.ref m_lines]) (rest := []) ⟨hx, hb, hml, hown, hts⟩ (c_X10_manyIn__2 l D m_lines kZ y11) (cwS 1 hts g_X10_citation_X10_manyIn__2 rfl rfl rfl (by decide +kernel) ⟨Nat.le_of_ble_eq_true rfl, Nat.le_of_ble_eq_true rfl⟩) ⟨fun a U g mk q => by obtain ⟨q0, qP, qK⟩ := q; exact ⟨q0, qP, va_K.moved (u := U) (U := U.calling g mk a) (Vm.Alike.refl U.vm) qK⟩, fun U hU hW => ⟨rfl, by rw [hU]; exact hPc, va_K.moved hW.alike hKc⟩⟩ rfl rfl hl.1 rfl (lv_room (Nat.le_of_ble_eq_true rfl)) dX10_citation_73 ⟨Nat.le_of_ble_eq_true rfl, Nat.le_of_ble_eq_true rfl⟩) hS (fun _ _ h => h.elim) (fun _ h => h.elim) (fun r12 u t H1 locs ht hvm hw hB hz1 hk1 hS => ?_)
        have hP := pw_keep hP (fun q hq => hk1 q hq (fun h => h))
        generalize H1 = H at hP hS ⊢
        refine W.widen (k := 0) (n := 0) (Nat.le_of_ble_eq_true rfl) (Nat.le_of_ble_eq_true rfl) ?_
        refine lv_istore_n (lv' := [(3, .int r12), (0, .ref h0), (1, .int i_0), (2, .int i_1)]) hx hb dX10_citation_76 rfl hl (by decide) rfl (fun ls hl => ?_)
        refine lv_iload_n hx hb dX10_citation_77 rfl (lv_at hl 3 rfl) ?_
        refine lv_bipush (v := 7) hx hb dX10_citation_78 (by decide) ?_
        refine lv_icmp_ge (tgt := 94) hx hb dX10_citation_80 (by decide) (fun c13 => ?_) (fun c13 => ?_)
        · have nc13 : 7 ≤ i_1.toInt := pw_le c13 (by decide) rfl
          refine lv_iload_n hx hb dX10_citation_94 rfl (lv_at hl 0 rfl) ?_
          refine lv_if_le (tgt := 123) hx hb dX10_citation_95 (by decide) (fun c14 => ?_) (fun c14 => ?_)
          · have nc14 : r12.toInt ≤ 0 := pw_le c14 rfl (by decide)
            refine lv_iconst (v := 0) hx hb dX10_citation_123 (by decide) ?_
            have hP9 := hP.sub (ws' := [(h0, .inr (10, [.ref m_now, .ref m_draft, .ref m_past, .int j_acts, .ref m_images, .ref m_kept, .ref m_tape, .int j_taped, .int j_at, .int j_start, .int j_token, .int j_value, .int j_fault, .int j_place, .int j_latest, .ref m_low, .ref m_high, .ref m_first, .ref m_second, .ref m_lines, .ref m_others, .int j_shiftFirst, .int j_shiftMany, .int j_shiftLow, .int j_shiftHigh])), (m_now, .inl (kI, 192, .inl g_now)), (m_low, .inl (kI, 1000, .inl y7)), (m_high, .inl (kI, 1000, .inl y8)), (m_lines, .inl (kZ, 200, .inl y11))]) [0, 1, 2, 3, 4] rfl
            have hD9 := hD.sub (ws' := [(h0, .inr (10, [.ref m_now, .ref m_draft, .ref m_past, .int j_acts, .ref m_images, .ref m_kept, .ref m_tape, .int j_taped, .int j_at, .int j_start, .int j_token, .int j_value, .int j_fault, .int j_place, .int j_latest, .ref m_low, .ref m_high, .ref m_first, .ref m_second, .ref m_lines, .ref m_others, .int j_shiftFirst, .int j_shiftMany, .int j_shiftLow, .int j_shiftHigh])), (m_now, .inl (kI, 192, .inl g_now)), (m_low, .inl (kI, 1000, .inl y7)), (m_high, .inl (kI, 1000, .inl y8)), (m_lines, .inl (kZ, 200, .inl y11))]) [0, 1, 2, 3, 4] (by decide) rfl
            have hK9 := hK.sub (tys' := [(kI, .int), (kZ, .boolean)]) [0, 1] rfl
            refine W.widen (k := 0) (n := 0) (Nat.le_of_ble_eq_true rfl) (Nat.le_of_ble_eq_true rfl) ?_
            exact W.iret (v := 0) hx hb hr (fun t ht hW => ⟨⟨0, (), rfl, trivial, y7, y8, y11, by rw [ht]; exact hP9, va_K.moved hW.alike hK9, hD9, hy7, hy8⟩, hS.F ht⟩) hS.2.2 dX10_citation_124
          · have nc14 : 0 < r12.toInt := pw_nle c14 rfl (by decide)
            refine lv_aload_n hx hb dX10_citation_98 rfl (lv_at hl 1 rfl) ?_
            refine va_get (D := D) (ci := 10) (v := .ref m_lines) (C := RX10) (T := TX10) (N := 25) hx hb hts (fun _ h => List.mem_cons_of_mem _ (List.mem_append_right _ h)) hown hK hP 0 rfl rfl 19 (by decide) (hts (.fieldLink RX10 41 "LineCitesModel" "lines" "[Z") (List.mem_of_getElem? (i := 29) rfl)) (fun _ h9 => h9) rfl dX10_citation_99 ?_
            have hPc := hP.sub (ws' := [(m_lines, .inl (kZ, 200, .inl y11))]) [4] rfl
            have hKc := hK.sub (tys' := [(kZ, .boolean)]) [1] rfl
            refine va_calli (va_runS (As := [.ref m_lines]) (rest := []) ⟨hx, hb, hml, hown, hts⟩ (c_X10_greatestOf__2 l D m_lines kZ y11) (cwS 1 hts g_X10_citation_X10_greatestOf__2 rfl rfl rfl (by decide +kernel) ⟨Nat.le_of_ble_eq_true rfl, Nat.le_of_ble_eq_true rfl⟩) ⟨fun a U g mk q => by obtain ⟨q0, qP, qK⟩ := q; exact ⟨q0, qP, va_K.moved (u := U) (U := U.calling g mk a) (Vm.Alike.refl U.vm) qK⟩, fun U hU hW => ⟨rfl, by rw [hU]; exact hPc, va_K.moved hW.alike hKc⟩⟩ rfl rfl hl.1 rfl (lv_room (Nat.le_of_ble_eq_true rfl)) dX10_citation_102 ⟨Nat.le_of_ble_eq_true rfl, Nat.le_of_ble_eq_true rfl⟩) hS (fun _ _ h => h.elim) (fun _ h => h.elim) (fun r15 u t H1 locs ht hvm hw hB hz1 hk1 hS => ?_)
            have hP := pw_keep hP (fun q hq => hk1 q hq (fun h => h))
            generalize H1 = H at hP hS ⊢
            refine W.widen (k := 0) (n := 0) (Nat.le_of_ble_eq_true rfl) (Nat.le_of_ble_eq_true rfl) ?_
            refine lv_aload_n hx hb dX10_citation_105 rfl (lv_at hl 1 rfl) ?_
            refine va_get (D := D) (ci := 10) (v := .ref m_lines) (C := RX10) (T := TX10) (N := 25) hx hb hts (fun _ h => List.mem_cons_of_mem _ (List.mem_append_right _ h)) hown hK hP 0 rfl rfl 19 (by decide) (hts (.fieldLink RX10 41 "LineCitesModel" "lines" "[Z") (List.mem_of_getElem? (i := 29) rfl)) (fun _ h9 => h9) rfl dX10_citation_106 ?_
            have hPc := hP.sub (ws' := [(m_lines, .inl (kZ, 200, .inl y11))]) [4] rfl
            have hKc := hK.sub (tys' := [(kZ, .boolean)]) [1] rfl
            refine va_calli (va_runS (As := [.ref m_lines]) (rest := [.int r15]) ⟨hx, hb, hml, hown, hts⟩ (c_X10_leastOf__2 l D m_lines kZ y11) (cwS 1 hts g_X10_citation_X10_leastOf__2 rfl rfl rfl (by decide +kernel) ⟨Nat.le_of_ble_eq_true rfl, Nat.le_of_ble_eq_true rfl⟩) ⟨fun a U g mk q => by obtain ⟨q0, qP, qK⟩ := q; exact ⟨q0, qP, va_K.moved (u := U) (U := U.calling g mk a) (Vm.Alike.refl U.vm) qK⟩, fun U hU hW => ⟨rfl, by rw [hU]; exact hPc, va_K.moved hW.alike hKc⟩⟩ rfl rfl hl.1 rfl (lv_room (Nat.le_of_ble_eq_true rfl)) dX10_citation_109 ⟨Nat.le_of_ble_eq_true rfl, Nat.le_of_ble_eq_true rfl⟩) hS (fun _ _ h => h.elim) (fun _ h => h.elim) (fun r16 u t H1 locs ht hvm hw hB hz1 hk1 hS => ?_)
            have hP := pw_keep hP (fun q hq => hk1 q hq (fun h => h))
            generalize H1 = H at hP hS ⊢
            refine W.widen (k := 0) (n := 0) (Nat.le_of_ble_eq_true rfl) (Nat.le_of_ble_eq_true rfl) ?_
            refine lv_isub hx hb dX10_citation_112 ?_
            refine lv_topi (fun x17 ex17 => ?_)
            refine lv_iconst (v := 1) hx hb dX10_citation_113 (by decide) ?_
            refine lv_iadd hx hb dX10_citation_114 ?_
            refine lv_topi (fun x18 ex18 => ?_)
            refine lv_iload_n hx hb dX10_citation_115 rfl (lv_at hl 0 rfl) ?_
            refine lv_icmp_ne (tgt := 123) hx hb dX10_citation_116 (by decide) (fun c19 => ?_) (fun c19 => ?_)
            · have nc19 : x18.toInt ≠ r12.toInt := pw_ne c19 rfl rfl
              have mc19x18 := pw_max x18
              have mc19r12 := pw_max r12
              refine lv_iconst (v := 0) hx hb dX10_citation_123 (by decide) ?_
              have hP9 := hP.sub (ws' := [(h0, .inr (10, [.ref m_now, .ref m_draft, .ref m_past, .int j_acts, .ref m_images, .ref m_kept, .ref m_tape, .int j_taped, .int j_at, .int j_start, .int j_token, .int j_value, .int j_fault, .int j_place, .int j_latest, .ref m_low, .ref m_high, .ref m_first, .ref m_second, .ref m_lines, .ref m_others, .int j_shiftFirst, .int j_shiftMany, .int j_shiftLow, .int j_shiftHigh])), (m_now, .inl (kI, 192, .inl g_now)), (m_low, .inl (kI, 1000, .inl y7)), (m_high, .inl (kI, 1000, .inl y8)), (m_lines, .inl (kZ, 200, .inl y11))]) [0, 1, 2, 3, 4] rfl
              have hD9 := hD.sub (ws' := [(h0, .inr (10, [.ref m_now, .ref m_draft, .ref m_past, .int j_acts, .ref m_images, .ref m_kept, .ref m_tape, .int j_taped, .int j_at, .int j_start, .int j_token, .int j_value, .int j_fault, .int j_place, .int j_latest, .ref m_low, .ref m_high, .ref m_first, .ref m_second, .ref m_lines, .ref m_others, .int j_shiftFirst, .int j_shiftMany, .int j_shiftLow, .int j_shiftHigh])), (m_now, .inl (kI, 192, .inl g_now)), (m_low, .inl (kI, 1000, .inl y7)), (m_high, .inl (kI, 1000, .inl y8)), (m_lines, .inl (kZ, 200, .inl y11))]) [0, 1, 2, 3, 4] (by decide) rfl
              have hK9 := hK.sub (tys' := [(kI, .int), (kZ, .boolean)]) [0, 1] rfl
              refine W.widen (k := 0) (n := 0) (Nat.le_of_ble_eq_true rfl) (Nat.le_of_ble_eq_true rfl) ?_
              exact W.iret (v := 0) hx hb hr (fun t ht hW => ⟨⟨0, (), rfl, trivial, y7, y8, y11, by rw [ht]; exact hP9, va_K.moved hW.alike hK9, hD9, hy7, hy8⟩, hS.F ht⟩) hS.2.2 dX10_citation_124
            · have nc19 : x18.toInt = r12.toInt := pw_eq c19 rfl rfl
              have mc19x18 := pw_max x18
              have mc19r12 := pw_max r12
              refine lv_iconst (v := 1) hx hb dX10_citation_119 (by decide) ?_
              refine lv_goto (tgt := 124) hx hb dX10_citation_120 (by decide) ?_
              have hP9 := hP.sub (ws' := [(h0, .inr (10, [.ref m_now, .ref m_draft, .ref m_past, .int j_acts, .ref m_images, .ref m_kept, .ref m_tape, .int j_taped, .int j_at, .int j_start, .int j_token, .int j_value, .int j_fault, .int j_place, .int j_latest, .ref m_low, .ref m_high, .ref m_first, .ref m_second, .ref m_lines, .ref m_others, .int j_shiftFirst, .int j_shiftMany, .int j_shiftLow, .int j_shiftHigh])), (m_now, .inl (kI, 192, .inl g_now)), (m_low, .inl (kI, 1000, .inl y7)), (m_high, .inl (kI, 1000, .inl y8)), (m_lines, .inl (kZ, 200, .inl y11))]) [0, 1, 2, 3, 4] rfl
              have hD9 := hD.sub (ws' := [(h0, .inr (10, [.ref m_now, .ref m_draft, .ref m_past, .int j_acts, .ref m_images, .ref m_kept, .ref m_tape, .int j_taped, .int j_at, .int j_start, .int j_token, .int j_value, .int j_fault, .int j_place, .int j_latest, .ref m_low, .ref m_high, .ref m_first, .ref m_second, .ref m_lines, .ref m_others, .int j_shiftFirst, .int j_shiftMany, .int j_shiftLow, .int j_shiftHigh])), (m_now, .inl (kI, 192, .inl g_now)), (m_low, .inl (kI, 1000, .inl y7)), (m_high, .inl (kI, 1000, .inl y8)), (m_lines, .inl (kZ, 200, .inl y11))]) [0, 1, 2, 3, 4] (by decide) rfl
              have hK9 := hK.sub (tys' := [(kI, .int), (kZ, .boolean)]) [0, 1] rfl
              refine W.widen (k := 0) (n := 0) (Nat.le_of_ble_eq_true rfl) (Nat.le_of_ble_eq_true rfl) ?_
              exact W.iret (v := 1) hx hb hr (fun t ht hW => ⟨⟨1, (), rfl, trivial, y7, y8, y11, by rw [ht]; exact hP9, va_K.moved hW.alike hK9, hD9, hy7, hy8⟩, hS.F ht⟩) hS.2.2 dX10_citation_124
        · have nc13 : i_1.toInt < 7 := pw_nle c13 (by decide) rfl
          refine lv_aload_n hx hb dX10_citation_83 rfl (lv_at hl 1 rfl) ?_
          refine va_get (D := D) (ci := 10) (v := .ref m_lines) (C := RX10) (T := TX10) (N := 25) hx hb hts (fun _ h => List.mem_cons_of_mem _ (List.mem_append_right _ h)) hown hK hP 0 rfl rfl 19 (by decide) (hts (.fieldLink RX10 41 "LineCitesModel" "lines" "[Z") (List.mem_of_getElem? (i := 29) rfl)) (fun _ h9 => h9) rfl dX10_citation_84 ?_
          refine lv_iload_n hx hb dX10_citation_87 rfl (lv_at hl 3 rfl) ?_
          refine lv_iconst (v := 4) hx hb dX10_citation_88 (by decide) ?_
          refine lv_isub hx hb dX10_citation_89 ?_
          refine lv_topi (fun x20 ex20 => ?_)
          have tx20 : x20.toInt = i_1.toInt - 4 := pw_subX ex20 rfl (by decide) (by omega) (by omega)
          have hPc := hP.sub (ws' := [(m_lines, .inl (kZ, 200, .inl y11))]) [4] rfl
          have hKc := hK.sub (tys' := [(kZ, .boolean)]) [1] rfl
          refine va_calli (va_runS (As := [.ref m_lines, .int x20]) (rest := []) ⟨hx, hb, hml, hown, hts⟩ (c_X10_told__2 l D m_lines x20 kZ y11) (cwS 2 hts g_X10_citation_X10_told__2 rfl rfl rfl (by decide +kernel) ⟨Nat.le_of_ble_eq_true rfl, Nat.le_of_ble_eq_true rfl⟩) ⟨fun a U g mk q => by obtain ⟨q0, qP, qK⟩ := q; exact ⟨q0, qP, va_K.moved (u := U) (U := U.calling g mk a) (Vm.Alike.refl U.vm) qK⟩, fun U hU hW => ⟨rfl, by rw [hU]; exact hPc, va_K.moved hW.alike hKc⟩⟩ rfl rfl hl.1 rfl (lv_room (Nat.le_of_ble_eq_true rfl)) dX10_citation_90 ⟨Nat.le_of_ble_eq_true rfl, Nat.le_of_ble_eq_true rfl⟩) hS (fun _ _ h => h.elim) (fun _ h => h.elim) (fun r21 u t H1 locs ht hvm hw hB hz1 hk1 hS => ?_)
          have hP := pw_keep hP (fun q hq => hk1 q hq (fun h => h))
          generalize H1 = H at hP hS ⊢
          refine W.widen (k := 0) (n := 0) (Nat.le_of_ble_eq_true rfl) (Nat.le_of_ble_eq_true rfl) ?_
          have hP9 := hP.sub (ws' := [(h0, .inr (10, [.ref m_now, .ref m_draft, .ref m_past, .int j_acts, .ref m_images, .ref m_kept, .ref m_tape, .int j_taped, .int j_at, .int j_start, .int j_token, .int j_value, .int j_fault, .int j_place, .int j_latest, .ref m_low, .ref m_high, .ref m_first, .ref m_second, .ref m_lines, .ref m_others, .int j_shiftFirst, .int j_shiftMany, .int j_shiftLow, .int j_shiftHigh])), (m_now, .inl (kI, 192, .inl g_now)), (m_low, .inl (kI, 1000, .inl y7)), (m_high, .inl (kI, 1000, .inl y8)), (m_lines, .inl (kZ, 200, .inl y11))]) [0, 1, 2, 3, 4] rfl
          have hD9 := hD.sub (ws' := [(h0, .inr (10, [.ref m_now, .ref m_draft, .ref m_past, .int j_acts, .ref m_images, .ref m_kept, .ref m_tape, .int j_taped, .int j_at, .int j_start, .int j_token, .int j_value, .int j_fault, .int j_place, .int j_latest, .ref m_low, .ref m_high, .ref m_first, .ref m_second, .ref m_lines, .ref m_others, .int j_shiftFirst, .int j_shiftMany, .int j_shiftLow, .int j_shiftHigh])), (m_now, .inl (kI, 192, .inl g_now)), (m_low, .inl (kI, 1000, .inl y7)), (m_high, .inl (kI, 1000, .inl y8)), (m_lines, .inl (kZ, 200, .inl y11))]) [0, 1, 2, 3, 4] (by decide) rfl
          have hK9 := hK.sub (tys' := [(kI, .int), (kZ, .boolean)]) [0, 1] rfl
          refine W.widen (k := 0) (n := 0) (Nat.le_of_ble_eq_true rfl) (Nat.le_of_ble_eq_true rfl) ?_
          exact W.iret (v := r21) hx hb hr (fun t ht hW => ⟨⟨r21, (), rfl, trivial, y7, y8, y11, by rw [ht]; exact hP9, va_K.moved hW.alike hK9, hD9, hy7, hy8⟩, hS.F ht⟩) hS.2.2 dX10_citation_93
      · have nc5 : i_1.toInt < 4 := pw_nle c5 (by decide) rfl
        refine lv_iload_n hx hb dX10_citation_28 rfl (lv_at hl 2 rfl) ?_
        refine lv_iconst (v := 3) hx hb dX10_citation_29 (by decide) ?_
        refine lv_icmp_ge (tgt := 44) hx hb dX10_citation_30 (by decide) (fun c22 => ?_) (fun c22 => ?_)
        · have nc22 : 3 ≤ i_1.toInt := pw_le c22 (by decide) rfl
          refine lv_aload_n hx hb dX10_citation_44 rfl (lv_at hl 0 rfl) ?_
          refine lv_iload_n hx hb dX10_citation_45 rfl (lv_at hl 1 rfl) ?_
          have hPc := hP.sub (ws' := [(h0, .inr (10, [.ref m_now, .ref m_draft, .ref m_past, .int j_acts, .ref m_images, .ref m_kept, .ref m_tape, .int j_taped, .int j_at, .int j_start, .int j_token, .int j_value, .int j_fault, .int j_place, .int j_latest, .ref m_low, .ref m_high, .ref m_first, .ref m_second, .ref m_lines, .ref m_others, .int j_shiftFirst, .int j_shiftMany, .int j_shiftLow, .int j_shiftHigh])), (m_now, .inl (kI, 192, .inl g_now))]) [0, 1] rfl
          have hKc := hK.sub (tys' := [(kI, .int)]) [0] rfl
          refine va_calli (va_runV (As := [.int i_0]) (rest := []) ⟨hx, hb, hml, hown, hts⟩ (c_X10_lastOf l D h0 i_0 m_now m_draft m_past j_acts m_images m_kept m_tape j_taped j_at j_start j_token j_value j_fault j_place j_latest m_low m_high m_first m_second m_lines m_others j_shiftFirst j_shiftMany j_shiftLow j_shiftHigh kI g_now (by first | decide | omega) (by first | decide | omega)) (cwV 1 hts g_X10_citation_X10_lastOf rfl rfl rfl (by decide +kernel) ⟨Nat.le_of_ble_eq_true rfl, Nat.le_of_ble_eq_true rfl⟩) ⟨fun a U g mk q => by obtain ⟨q0, qP, qK⟩ := q; exact ⟨q0, qP, va_K.moved (u := U) (U := U.calling g mk a) (Vm.Alike.refl U.vm) qK⟩, va_recv hKc hPc (ci := 10) (q0 := 0) rfl rfl, fun U hU hW => ⟨rfl, by rw [hU]; exact hPc, va_K.moved hW.alike hKc⟩⟩ rfl rfl hl.1 rfl (lv_room (Nat.le_of_ble_eq_true rfl)) dX10_citation_46 ⟨Nat.le_of_ble_eq_true rfl, Nat.le_of_ble_eq_true rfl⟩) hS (fun _ _ h => h.elim) (fun _ h => h.elim) (fun r23 u t H1 locs ht hvm hw hB hz1 hk1 hS => ?_)
          have hP := pw_keep hP (fun q hq => hk1 q hq (fun h => h))
          generalize H1 = H at hP hS ⊢
          refine W.widen (k := 0) (n := 0) (Nat.le_of_ble_eq_true rfl) (Nat.le_of_ble_eq_true rfl) ?_
          have hP9 := hP.sub (ws' := [(h0, .inr (10, [.ref m_now, .ref m_draft, .ref m_past, .int j_acts, .ref m_images, .ref m_kept, .ref m_tape, .int j_taped, .int j_at, .int j_start, .int j_token, .int j_value, .int j_fault, .int j_place, .int j_latest, .ref m_low, .ref m_high, .ref m_first, .ref m_second, .ref m_lines, .ref m_others, .int j_shiftFirst, .int j_shiftMany, .int j_shiftLow, .int j_shiftHigh])), (m_now, .inl (kI, 192, .inl g_now)), (m_low, .inl (kI, 1000, .inl g_low)), (m_high, .inl (kI, 1000, .inl g_high)), (m_lines, .inl (kZ, 200, .inl g_lines))]) [0, 1, 2, 3, 4] rfl
          have hD9 := hD.sub (ws' := [(h0, .inr (10, [.ref m_now, .ref m_draft, .ref m_past, .int j_acts, .ref m_images, .ref m_kept, .ref m_tape, .int j_taped, .int j_at, .int j_start, .int j_token, .int j_value, .int j_fault, .int j_place, .int j_latest, .ref m_low, .ref m_high, .ref m_first, .ref m_second, .ref m_lines, .ref m_others, .int j_shiftFirst, .int j_shiftMany, .int j_shiftLow, .int j_shiftHigh])), (m_now, .inl (kI, 192, .inl g_now)), (m_low, .inl (kI, 1000, .inl g_low)), (m_high, .inl (kI, 1000, .inl g_high)), (m_lines, .inl (kZ, 200, .inl g_lines))]) [0, 1, 2, 3, 4] (by decide) rfl
          have hK9 := hK.sub (tys' := [(kI, .int), (kZ, .boolean)]) [0, 1] rfl
          refine W.widen (k := 0) (n := 0) (Nat.le_of_ble_eq_true rfl) (Nat.le_of_ble_eq_true rfl) ?_
          exact W.iret (v := r23) hx hb hr (fun t ht hW => ⟨⟨r23, (), rfl, trivial, g_low, g_high, g_lines, by rw [ht]; exact hP9, va_K.moved hW.alike hK9, hD9, hg_low, hg_high⟩, hS.F ht⟩) hS.2.2 dX10_citation_49
        · have nc22 : i_1.toInt < 3 := pw_nle c22 (by decide) rfl
          refine lv_aload_n hx hb dX10_citation_33 rfl (lv_at hl 0 rfl) ?_
          refine lv_iload_n hx hb dX10_citation_34 rfl (lv_at hl 1 rfl) ?_
          refine lv_iconst (v := 1) hx hb dX10_citation_35 (by decide) ?_
          refine lv_iload_n hx hb dX10_citation_36 rfl (lv_at hl 2 rfl) ?_
          refine lv_iadd hx hb dX10_citation_37 ?_
          refine lv_topi (fun x24 ex24 => ?_)
          have tx24 : x24.toInt = 1 + i_1.toInt := pw_addX ex24 (by decide) rfl (by omega) (by omega)
          have hPc := hP.sub (ws' := [(h0, .inr (10, [.ref m_now, .ref m_draft, .ref m_past, .int j_acts, .ref m_images, .ref m_kept, .ref m_tape, .int j_taped, .int j_at, .int j_start, .int j_token, .int j_value, .int j_fault, .int j_place, .int j_latest, .ref m_low, .ref m_high, .ref m_first, .ref m_second, .ref m_lines, .ref m_others, .int j_shiftFirst, .int j_shiftMany, .int j_shiftLow, .int j_shiftHigh])), (m_now, .inl (kI, 192, .inl g_now))]) [0, 1] rfl
          have hKc := hK.sub (tys' := [(kI, .int)]) [0] rfl
          refine va_calli (va_runV (As := [.int i_0, .int x24]) (rest := []) ⟨hx, hb, hml, hown, hts⟩ (c_X10_cited l D h0 i_0 x24 m_now m_draft m_past j_acts m_images m_kept m_tape j_taped j_at j_start j_token j_value j_fault j_place j_latest m_low m_high m_first m_second m_lines m_others j_shiftFirst j_shiftMany j_shiftLow j_shiftHigh kI g_now i_0.toInt.toNat x24.toInt.toNat (by first | decide | omega) (by first | decide | omega) (by first | decide | omega) (by first | decide | omega) (by first | omega | decide | (have hz0 : (0 : Int32).toInt = 0 := (by decide); omega)) (by first | omega | decide | (have hz0 : (0 : Int32).toInt = 0 := (by decide); omega))) (cwV 2 hts g_X10_citation_X10_cited rfl rfl rfl (by decide +kernel) ⟨Nat.le_of_ble_eq_true rfl, Nat.le_of_ble_eq_true rfl⟩) ⟨fun a U g mk q => by obtain ⟨q0, qP, qK⟩ := q; exact ⟨q0, qP, va_K.moved (u := U) (U := U.calling g mk a) (Vm.Alike.refl U.vm) qK⟩, va_recv hKc hPc (ci := 10) (q0 := 0) rfl rfl, fun U hU hW => ⟨rfl, by rw [hU]; exact hPc, va_K.moved hW.alike hKc⟩⟩ rfl rfl hl.1 rfl (lv_room (Nat.le_of_ble_eq_true rfl)) dX10_citation_38 ⟨Nat.le_of_ble_eq_true rfl, Nat.le_of_ble_eq_true rfl⟩) hS (fun _ _ h => h.elim) (fun _ h => h.elim) (fun r25 u t H1 locs ht hvm hw hB hz1 hk1 hS => ?_)
          have hP := pw_keep hP (fun q hq => hk1 q hq (fun h => h))
          generalize H1 = H at hP hS ⊢
          refine W.widen (k := 0) (n := 0) (Nat.le_of_ble_eq_true rfl) (Nat.le_of_ble_eq_true rfl) ?_
          have hfr25 := hw
          refine lv_goto (tgt := 49) hx hb dX10_citation_41 (by decide) ?_
          have hP9 := hP.sub (ws' := [(h0, .inr (10, [.ref m_now, .ref m_draft, .ref m_past, .int j_acts, .ref m_images, .ref m_kept, .ref m_tape, .int j_taped, .int j_at, .int j_start, .int j_token, .int j_value, .int j_fault, .int j_place, .int j_latest, .ref m_low, .ref m_high, .ref m_first, .ref m_second, .ref m_lines, .ref m_others, .int j_shiftFirst, .int j_shiftMany, .int j_shiftLow, .int j_shiftHigh])), (m_now, .inl (kI, 192, .inl g_now)), (m_low, .inl (kI, 1000, .inl g_low)), (m_high, .inl (kI, 1000, .inl g_high)), (m_lines, .inl (kZ, 200, .inl g_lines))]) [0, 1, 2, 3, 4] rfl
          have hD9 := hD.sub (ws' := [(h0, .inr (10, [.ref m_now, .ref m_draft, .ref m_past, .int j_acts, .ref m_images, .ref m_kept, .ref m_tape, .int j_taped, .int j_at, .int j_start, .int j_token, .int j_value, .int j_fault, .int j_place, .int j_latest, .ref m_low, .ref m_high, .ref m_first, .ref m_second, .ref m_lines, .ref m_others, .int j_shiftFirst, .int j_shiftMany, .int j_shiftLow, .int j_shiftHigh])), (m_now, .inl (kI, 192, .inl g_now)), (m_low, .inl (kI, 1000, .inl g_low)), (m_high, .inl (kI, 1000, .inl g_high)), (m_lines, .inl (kZ, 200, .inl g_lines))]) [0, 1, 2, 3, 4] (by decide) rfl
          have hK9 := hK.sub (tys' := [(kI, .int), (kZ, .boolean)]) [0, 1] rfl
          refine W.widen (k := 0) (n := 0) (Nat.le_of_ble_eq_true rfl) (Nat.le_of_ble_eq_true rfl) ?_
          exact W.iret (v := r25) hx hb hr (fun t ht hW => ⟨⟨r25, (), rfl, trivial, g_low, g_high, g_lines, by rw [ht]; exact hP9, va_K.moved hW.alike hK9, hD9, hg_low, hg_high⟩, hS.F ht⟩) hS.2.2 dX10_citation_49
    · have nc4 : r3.toInt = 0 := pw_eq c4 rfl (by decide)
      refine lv_ldc hx hb hown (hts (.constant RX10 177 (-1000001)) (List.mem_of_getElem? (i := 15) rfl)) dX10_citation_20 ?_
      have hP9 := hP.sub (ws' := [(h0, .inr (10, [.ref m_now, .ref m_draft, .ref m_past, .int j_acts, .ref m_images, .ref m_kept, .ref m_tape, .int j_taped, .int j_at, .int j_start, .int j_token, .int j_value, .int j_fault, .int j_place, .int j_latest, .ref m_low, .ref m_high, .ref m_first, .ref m_second, .ref m_lines, .ref m_others, .int j_shiftFirst, .int j_shiftMany, .int j_shiftLow, .int j_shiftHigh])), (m_now, .inl (kI, 192, .inl g_now)), (m_low, .inl (kI, 1000, .inl g_low)), (m_high, .inl (kI, 1000, .inl g_high)), (m_lines, .inl (kZ, 200, .inl g_lines))]) [0, 1, 2, 3, 4] rfl
      have hD9 := hD.sub (ws' := [(h0, .inr (10, [.ref m_now, .ref m_draft, .ref m_past, .int j_acts, .ref m_images, .ref m_kept, .ref m_tape, .int j_taped, .int j_at, .int j_start, .int j_token, .int j_value, .int j_fault, .int j_place, .int j_latest, .ref m_low, .ref m_high, .ref m_first, .ref m_second, .ref m_lines, .ref m_others, .int j_shiftFirst, .int j_shiftMany, .int j_shiftLow, .int j_shiftHigh])), (m_now, .inl (kI, 192, .inl g_now)), (m_low, .inl (kI, 1000, .inl g_low)), (m_high, .inl (kI, 1000, .inl g_high)), (m_lines, .inl (kZ, 200, .inl g_lines))]) [0, 1, 2, 3, 4] (by decide) rfl
      have hK9 := hK.sub (tys' := [(kI, .int), (kZ, .boolean)]) [0, 1] rfl
      refine W.widen (k := 0) (n := 0) (Nat.le_of_ble_eq_true rfl) (Nat.le_of_ble_eq_true rfl) ?_
      exact W.iret (v := (-1000001)) hx hb hr (fun t ht hW => ⟨⟨(-1000001), (), rfl, trivial, g_low, g_high, g_lines, by rw [ht]; exact hP9, va_K.moved hW.alike hK9, hD9, hg_low, hg_high⟩, hS.F ht⟩) hS.2.2 dX10_citation_22
def w_X10_turned : List Cond := .code yX10_turned cX10_turned 8 (some .int) :: ([.methodLink RX10 228 yX10_isCitation, .instanceMethod yX10_isCitation, .selects RX10 yX10_isCitation yX10_isCitation, .initialized RX10, .code yX10_isCitation cX10_isCitation 2 (some .boolean), .constantLong RX10 213 (7), .methodLink RX10 51 yX10_in0, .static yX10_in0, .code yX10_in0 cX10_in0 6 (some .boolean), .methodLink RX10 215 yX10_cited, .instanceMethod yX10_cited, .selects RX10 yX10_cited yX10_cited, .code yX10_cited cX10_cited 3 (some .int), .fieldLink RX10 7 "LineCitesModel" "now" "[I", .constant RX10 177 (-1000001), .methodLink RX10 55 yX10_isEdition, .instanceMethod yX10_isEdition, .selects RX10 yX10_isEdition yX10_isEdition, .code yX10_isEdition cX10_isEdition 2 (some .boolean), .methodLink RX10 47 yX10_isWork, .instanceMethod yX10_isWork, .selects RX10 yX10_isWork yX10_isWork, .code yX10_isWork cX10_isWork 1 (some .boolean), .constantLong RX10 219 (2), .methodLink RX10 221 yX10_lays, .instanceMethod yX10_lays, .selects RX10 yX10_lays yX10_lays, .code yX10_lays cX10_lays 9 none, .constant RX10 61 (-1000000), .fieldLink RX10 29 "LineCitesModel" "low" "[I", .fieldLink RX10 32 "LineCitesModel" "high" "[I", .methodLink RX10 66 yX10_stretchOf, .static yX10_stretchOf, .code yX10_stretchOf cX10_stretchOf 7 (some .int), .methodLink RX10 62 yX10_of, .static yX10_of, .code yX10_of cX10_of 4 (some .int), .fieldLink RX10 41 "LineCitesModel" "lines" "[Z", .methodLink RX10 224 yX10_laysLines, .instanceMethod yX10_laysLines, .selects RX10 yX10_laysLines yX10_laysLines, .code yX10_laysLines cX10_laysLines 4 none, .methodLink RX10 286 yX10_lastOf, .instanceMethod yX10_lastOf, .selects RX10 yX10_lastOf yX10_lastOf, .code yX10_lastOf cX10_lastOf 2 (some .int), .methodLink RX10 289 yX10_laysSpan, .instanceMethod yX10_laysSpan, .selects RX10 yX10_laysSpan yX10_laysSpan, .code yX10_laysSpan cX10_laysSpan 7 none, .methodLink RX10 87 yX10_clears, .static yX10_clears, .code yX10_clears cX10_clears 2 none, .methodLink RX10 73 yX10_hasNumber, .instanceMethod yX10_hasNumber, .selects RX10 yX10_hasNumber yX10_hasNumber, .code yX10_hasNumber cX10_hasNumber 3 (some .boolean), .fieldLink RX10 35 "LineCitesModel" "first" "[Z", .methodLink RX10 81 yX10_leastOf, .static yX10_leastOf, .code yX10_leastOf cX10_leastOf 3 (some .int), .methodLink RX10 84 yX10_greatestOf, .static yX10_greatestOf, .code yX10_greatestOf cX10_greatestOf 3 (some .int), .fieldLink RX10 44 "LineCitesModel" "others" "[Z"] ++ wsX100)
set_option maxRecDepth 20000 in
theorem g_X10_turned_X10_isCitation : GoodIn w_X10_turned (wsV RX10 228 RX10 yX10_isCitation w_X10_isCitation) := goodIn_r _ [1, 2, 3, 4, 5, 6, 7, 8, 4, 9, 10, 11, 12, 13, 14, 66, 67, 68, 69, 70, 71, 72, 73, 74, 75, 76, 77, 78, 79, 80, 81, 82, 83, 84, 85, 86, 87, 88, 89, 90] rfl (by decide +kernel)
set_option maxRecDepth 20000 in
theorem g_X10_turned_X10_isEdition : GoodIn w_X10_turned (wsV RX10 55 RX10 yX10_isEdition w_X10_isEdition) := goodIn_r _ [16, 17, 18, 4, 19, 20, 21, 22, 4, 23, 14, 7, 8, 9, 66, 67, 68, 69, 70, 71, 72, 73, 74, 75, 76, 77, 78, 79, 80, 81, 82, 83, 84, 85, 86, 87, 88, 89, 90] rfl (by decide +kernel)
set_option maxRecDepth 20000 in
theorem g_X10_turned_X10_in0 : GoodIn w_X10_turned (wsS RX10 51 yX10_in0 w_X10_in0) := goodIn_r _ [7, 8, 4, 9] rfl (by decide +kernel)
set_option maxRecDepth 20000 in
theorem g_X10_turned_X10_lays : GoodIn w_X10_turned (wsV RX10 221 RX10 yX10_lays w_X10_lays) := goodIn_r _ [25, 26, 27, 4, 28, 14, 29, 30, 31, 32, 33, 4, 34, 35, 36, 37, 7, 8, 9, 66, 67, 68, 69, 70, 71, 72, 73, 74, 75, 76, 77, 78, 79, 80, 81, 82, 83, 84, 85, 86, 87, 88, 89, 90] rfl (by decide +kernel)
set_option maxRecDepth 20000 in
theorem g_X10_turned_X10_cited : GoodIn w_X10_turned (wsV RX10 215 RX10 yX10_cited w_X10_cited) := goodIn_r _ [10, 11, 12, 4, 13, 14, 66, 67, 68, 69, 70, 71, 72, 73, 74, 75, 76, 77, 78, 79, 80, 81, 82, 83, 84, 85, 86, 87, 88, 89, 90] rfl (by decide +kernel)
set_option maxRecDepth 20000 in
theorem g_X10_turned_X10_laysLines : GoodIn w_X10_turned (wsV RX10 224 RX10 yX10_laysLines w_X10_laysLines) := goodIn_r _ [39, 40, 41, 4, 42, 10, 11, 12, 4, 13, 14, 43, 44, 45, 46, 47, 48, 49, 50, 51, 52, 53, 54, 55, 56, 57, 30, 7, 8, 9, 31, 66, 67, 68, 69, 70, 71, 72, 73, 74, 75, 76, 77, 78, 79, 80, 81, 82, 83, 84, 85, 86, 87, 88, 89, 90] rfl (by decide +kernel)
set_option maxRecDepth 20000 in
theorem g_X10_turned_X10_clears : GoodIn w_X10_turned (wsS RX10 87 yX10_clears w_X10_clears) := goodIn_r _ [51, 52, 4, 53] rfl (by decide +kernel)
set_option maxRecDepth 20000 in
theorem g_X10_turned_X10_hasNumber : GoodIn w_X10_turned (wsV RX10 73 RX10 yX10_hasNumber w_X10_hasNumber) := goodIn_r _ [54, 55, 56, 4, 57, 30, 66, 67, 68, 69, 70, 71, 72, 73, 74, 75, 76, 77, 78, 79, 80, 81, 82, 83, 84, 85, 86, 87, 88, 89, 90] rfl (by decide +kernel)
set_option maxRecDepth 20000 in
theorem g_X10_turned_X10_leastOf : GoodIn w_X10_turned (wsS RX10 81 yX10_leastOf w_X10_leastOf) := goodIn_r _ [59, 60, 4, 61, 29] rfl (by decide +kernel)
set_option maxRecDepth 20000 in
theorem g_X10_turned_X10_greatestOf : GoodIn w_X10_turned (wsS RX10 84 yX10_greatestOf w_X10_greatestOf) := goodIn_r _ [62, 63, 4, 64, 29] rfl (by decide +kernel)
set_option maxRecDepth 20000 in
theorem g_X10_turned_X10_laysSpan : GoodIn w_X10_turned (wsV RX10 289 RX10 yX10_laysSpan w_X10_laysSpan) := goodIn_r _ [47, 48, 49, 4, 50, 51, 52, 4, 53, 14, 54, 55, 56, 57, 30, 7, 8, 9, 31, 66, 67, 68, 69, 70, 71, 72, 73, 74, 75, 76, 77, 78, 79, 80, 81, 82, 83, 84, 85, 86, 87, 88, 89, 90] rfl (by decide +kernel)
set_option maxHeartbeats 4000000 in
set_option maxRecDepth 100000 in
theorem c_X10_turned (l : Launch) (D : va_G) (h0 : Nat) (i_0 : Int32) (i_1 : Int32) (i_2 : Int32) (m_now : Nat) (m_draft : Nat) (m_past : Nat) (j_acts : Int32) (m_images : Nat) (m_kept : Nat) (m_tape : Nat) (j_taped : Int32) (j_at : Int32) (j_start : Int32) (j_token : Int32) (j_value : Int32) (j_fault : Int32) (j_place : Int32) (j_latest : Int32) (m_low : Nat) (m_high : Nat) (m_first : Nat) (m_second : Nat) (m_lines : Nat) (m_others : Nat) (j_shiftFirst : Int32) (j_shiftMany : Int32) (j_shiftLow : Int32) (j_shiftHigh : Int32) (kI : ClassId) (g_now : Nat → Int32) (g_low : Nat → Int32) (g_high : Nat → Int32) (kZ : ClassId) (g_first : Nat → Int32) (g_lines : Nat → Int32) (g_others : Nat → Int32) (sz : Nat) (hg_now : gV g_now) (hg_low : bP g_low) (hg_high : bP g_high) : Met l yX10_turned w_X10_turned ({ frames := 3, cells := 0, slots := 0, locals := 79 }) (va_Pc [.ref h0, .int i_0, .int i_1, .int i_2] (fun U => U.heap.size = sz ∧ va_P D vwCl [(h0, .inr (10, [.ref m_now, .ref m_draft, .ref m_past, .int j_acts, .ref m_images, .ref m_kept, .ref m_tape, .int j_taped, .int j_at, .int j_start, .int j_token, .int j_value, .int j_fault, .int j_place, .int j_latest, .ref m_low, .ref m_high, .ref m_first, .ref m_second, .ref m_lines, .ref m_others, .int j_shiftFirst, .int j_shiftMany, .int j_shiftLow, .int j_shiftHigh])), (m_now, .inl (kI, 192, .inl g_now)), (m_low, .inl (kI, 1000, .inl g_low)), (m_high, .inl (kI, 1000, .inl g_high)), (m_first, .inl (kZ, 1000, .inl g_first)), (m_lines, .inl (kZ, 200, .inl g_lines)), (m_others, .inl (kZ, 200, .inl g_others))] U.heap ∧ va_K D vwCl [(kI, .int), (kZ, .boolean)] U ∧ va_D (fun _ => True) [(h0, .inr (10, [.ref m_now, .ref m_draft, .ref m_past, .int j_acts, .ref m_images, .ref m_kept, .ref m_tape, .int j_taped, .int j_at, .int j_start, .int j_token, .int j_value, .int j_fault, .int j_place, .int j_latest, .ref m_low, .ref m_high, .ref m_first, .ref m_second, .ref m_lines, .ref m_others, .int j_shiftFirst, .int j_shiftMany, .int j_shiftLow, .int j_shiftHigh])), (m_now, .inl (kI, 192, .inl g_now)), (m_low, .inl (kI, 1000, .inl g_low)), (m_high, .inl (kI, 1000, .inl g_high)), (m_first, .inl (kZ, 1000, .inl g_first)), (m_lines, .inl (kZ, 200, .inl g_lines)), (m_others, .inl (kZ, 200, .inl g_others))])) (va_Qi (fun (r : Int32) (_ : Unit) => True) (fun (_ : Unit) t => ∃ (n_low : Nat → Int32) (n_high : Nat → Int32) (n_first : Nat → Int32) (n_lines : Nat → Int32) (n_others : Nat → Int32), va_P D vwCl [(h0, .inr (10, [.ref m_now, .ref m_draft, .ref m_past, .int j_acts, .ref m_images, .ref m_kept, .ref m_tape, .int j_taped, .int j_at, .int j_start, .int j_token, .int j_value, .int j_fault, .int j_place, .int j_latest, .ref m_low, .ref m_high, .ref m_first, .ref m_second, .ref m_lines, .ref m_others, .int j_shiftFirst, .int j_shiftMany, .int j_shiftLow, .int j_shiftHigh])), (m_now, .inl (kI, 192, .inl g_now)), (m_low, .inl (kI, 1000, .inl n_low)), (m_high, .inl (kI, 1000, .inl n_high)), (m_first, .inl (kZ, 1000, .inl n_first)), (m_lines, .inl (kZ, 200, .inl n_lines)), (m_others, .inl (kZ, 200, .inl n_others))] t.heap ∧ va_K D vwCl [(kI, .int), (kZ, .boolean)] t ∧ va_D (va_A [(h0, .inr (10, [.ref m_now, .ref m_draft, .ref m_past, .int j_acts, .ref m_images, .ref m_kept, .ref m_tape, .int j_taped, .int j_at, .int j_start, .int j_token, .int j_value, .int j_fault, .int j_place, .int j_latest, .ref m_low, .ref m_high, .ref m_first, .ref m_second, .ref m_lines, .ref m_others, .int j_shiftFirst, .int j_shiftMany, .int j_shiftLow, .int j_shiftHigh])), (m_now, .inl (kI, 192, .inl g_now)), (m_low, .inl (kI, 1000, .inl g_low)), (m_high, .inl (kI, 1000, .inl g_high)), (m_first, .inl (kZ, 1000, .inl g_first)), (m_lines, .inl (kZ, 200, .inl g_lines)), (m_others, .inl (kZ, 200, .inl g_others))] sz) [(h0, .inr (10, [.ref m_now, .ref m_draft, .ref m_past, .int j_acts, .ref m_images, .ref m_kept, .ref m_tape, .int j_taped, .int j_at, .int j_start, .int j_token, .int j_value, .int j_fault, .int j_place, .int j_latest, .ref m_low, .ref m_high, .ref m_first, .ref m_second, .ref m_lines, .ref m_others, .int j_shiftFirst, .int j_shiftMany, .int j_shiftLow, .int j_shiftHigh])), (m_now, .inl (kI, 192, .inl g_now)), (m_low, .inl (kI, 1000, .inl n_low)), (m_high, .inl (kI, 1000, .inl n_high)), (m_first, .inl (kZ, 1000, .inl n_first)), (m_lines, .inl (kZ, 200, .inl n_lines)), (m_others, .inl (kZ, 200, .inl n_others))] ∧ bP n_low ∧ bP n_high) (va_A [(h0, .inr (10, [.ref m_now, .ref m_draft, .ref m_past, .int j_acts, .ref m_images, .ref m_kept, .ref m_tape, .int j_taped, .int j_at, .int j_start, .int j_token, .int j_value, .int j_fault, .int j_place, .int j_latest, .ref m_low, .ref m_high, .ref m_first, .ref m_second, .ref m_lines, .ref m_others, .int j_shiftFirst, .int j_shiftMany, .int j_shiftLow, .int j_shiftHigh])), (m_now, .inl (kI, 192, .inl g_now)), (m_low, .inl (kI, 1000, .inl g_low)), (m_high, .inl (kI, 1000, .inl g_high)), (m_first, .inl (kZ, 1000, .inl g_first)), (m_lines, .inl (kZ, 200, .inl g_lines)), (m_others, .inl (kZ, 200, .inl g_others))] sz)) 0 0 (va_A [(h0, .inr (10, [.ref m_now, .ref m_draft, .ref m_past, .int j_acts, .ref m_images, .ref m_kept, .ref m_tape, .int j_taped, .int j_at, .int j_start, .int j_token, .int j_value, .int j_fault, .int j_place, .int j_latest, .ref m_low, .ref m_high, .ref m_first, .ref m_second, .ref m_lines, .ref m_others, .int j_shiftFirst, .int j_shiftMany, .int j_shiftLow, .int j_shiftHigh])), (m_now, .inl (kI, 192, .inl g_now)), (m_low, .inl (kI, 1000, .inl g_low)), (m_high, .inl (kI, 1000, .inl g_high)), (m_first, .inl (kZ, 1000, .inl g_first)), (m_lines, .inl (kZ, 200, .inl g_lines)), (m_others, .inl (kZ, 200, .inl g_others))] sz) := by
  refine Met.ofW (cc := cX10_turned) (maxL := 8) (ret := (some .int)) (by decide) rfl ?_
  intro p e s m args below meth c s₁ B hml hv
  obtain ⟨rfl, hsz, hP, hK, hD0⟩ := hv
  have hx := B.exec
  have hb := B.bytes
  have hr := B.returns
  have hts := atoms_spec (ws := w_X10_turned) B.pre
  have hown : s.vm.findClass RX10 = some m.cls := findClass_of_methodNamed B.named
  have hlocks := B.notSynchronized
  subst hsz
  have hD := hD0.self (sz := s.heap.size)
  generalize hAe : va_A [(h0, .inr (10, [.ref m_now, .ref m_draft, .ref m_past, .int j_acts, .ref m_images, .ref m_kept, .ref m_tape, .int j_taped, .int j_at, .int j_start, .int j_token, .int j_value, .int j_fault, .int j_place, .int j_latest, .ref m_low, .ref m_high, .ref m_first, .ref m_second, .ref m_lines, .ref m_others, .int j_shiftFirst, .int j_shiftMany, .int j_shiftLow, .int j_shiftHigh])), (m_now, .inl (kI, 192, .inl g_now)), (m_low, .inl (kI, 1000, .inl g_low)), (m_high, .inl (kI, 1000, .inl g_high)), (m_first, .inl (kZ, 1000, .inl g_first)), (m_lines, .inl (kZ, 200, .inl g_lines)), (m_others, .inl (kZ, 200, .inl g_others))] s.heap.size = A at hD ⊢
  have hA : ∀ q : Nat, s.heap.size ≤ q → A q := fun q h => by rw [← hAe]; exact Or.inr h
  have hS : va_S A s.heap s.heap [] := va_S.rf
  have hP : va_P D vwCl [(h0, .inr (10, [.ref m_now, .ref m_draft, .ref m_past, .int j_acts, .ref m_images, .ref m_kept, .ref m_tape, .int j_taped, .int j_at, .int j_start, .int j_token, .int j_value, .int j_fault, .int j_place, .int j_latest, .ref m_low, .ref m_high, .ref m_first, .ref m_second, .ref m_lines, .ref m_others, .int j_shiftFirst, .int j_shiftMany, .int j_shiftLow, .int j_shiftHigh])), (m_now, .inl (kI, 192, .inl g_now)), (m_low, .inl (kI, 1000, .inl g_low)), (m_high, .inl (kI, 1000, .inl g_high)), (m_first, .inl (kZ, 1000, .inl g_first)), (m_lines, .inl (kZ, 200, .inl g_lines)), (m_others, .inl (kZ, 200, .inl g_others))] s.heap := hP
  have hl := lv_entry ([.ref h0, .int i_0, .int i_1, .int i_2]) (n := 8) (Nat.le_of_ble_eq_true rfl)
  rw [lg_entry_eq]
  generalize (lg_sl ([.ref h0, .int i_0, .int i_1, .int i_2]) ++ List.replicate (8 - (lg_sl ([.ref h0, .int i_0, .int i_1, .int i_2])).length) Slot.unset).toArray = ls at hl ⊢
  have hl : lv_has ls 8 [(0, .ref h0), (1, .int i_0), (2, .int i_1), (3, .int i_2)] := hl
  obtain ⟨H, hHe⟩ : ∃ H : Heap, H = s.heap := ⟨_, rfl⟩
  rw [← hHe] at hP
  have hS : va_S A s.heap H [] := by rw [hHe]; exact hS
  refine pw_heap hHe ?_
  refine lv_aload_n hx hb dX10_turned_0 rfl (lv_at hl 0 rfl) ?_
  refine lv_iload_n hx hb dX10_turned_1 rfl (lv_at hl 1 rfl) ?_
  have hPc := hP.sub (ws' := [(h0, .inr (10, [.ref m_now, .ref m_draft, .ref m_past, .int j_acts, .ref m_images, .ref m_kept, .ref m_tape, .int j_taped, .int j_at, .int j_start, .int j_token, .int j_value, .int j_fault, .int j_place, .int j_latest, .ref m_low, .ref m_high, .ref m_first, .ref m_second, .ref m_lines, .ref m_others, .int j_shiftFirst, .int j_shiftMany, .int j_shiftLow, .int j_shiftHigh])), (m_now, .inl (kI, 192, .inl g_now))]) [0, 1] rfl
  have hKc := hK.sub (tys' := [(kI, .int)]) [0] rfl
  refine va_calli (va_runV (As := [.int i_0]) (rest := []) ⟨hx, hb, hml, hown, hts⟩ (c_X10_isCitation l D h0 i_0 m_now m_draft m_past j_acts m_images m_kept m_tape j_taped j_at j_start j_token j_value j_fault j_place j_latest m_low m_high m_first m_second m_lines m_others j_shiftFirst j_shiftMany j_shiftLow j_shiftHigh kI g_now) (cwV 1 hts g_X10_turned_X10_isCitation rfl rfl rfl (by decide +kernel) ⟨Nat.le_of_ble_eq_true rfl, Nat.le_of_ble_eq_true rfl⟩) ⟨fun a U g mk q => by obtain ⟨q0, qP, qK⟩ := q; exact ⟨q0, qP, va_K.moved (u := U) (U := U.calling g mk a) (Vm.Alike.refl U.vm) qK⟩, va_recv hKc hPc (ci := 10) (q0 := 0) rfl rfl, fun U hU hW => ⟨rfl, by rw [hU]; exact hPc, va_K.moved hW.alike hKc⟩⟩ rfl rfl hl.1 rfl (lv_room (Nat.le_of_ble_eq_true rfl)) dX10_turned_2 ⟨Nat.le_of_ble_eq_true rfl, Nat.le_of_ble_eq_true rfl⟩) hS (fun _ _ h => h.elim) (fun _ h => h.elim) (fun r1 u t H1 locs ht hvm hw hB hz1 hk1 hS => ?_)
  have hP := pw_keep hP (fun q hq => hk1 q hq (fun h => h))
  generalize H1 = H at hP hS ⊢
  refine W.widen (k := 0) (n := 0) (Nat.le_of_ble_eq_true rfl) (Nat.le_of_ble_eq_true rfl) ?_
  have bor1 := hw.1
  have zor1 := pw_boolI bor1
  have hfr1 := hw.2
  refine lv_if_eq (tgt := 28) hx hb dX10_turned_5 (by decide) (fun c2 => ?_) (fun c2 => ?_)
  · have nc2 : r1.toInt = 0 := pw_eq c2 rfl (by decide)
    refine lv_ldc hx hb hown (hts (.constant RX10 177 (-1000001)) (List.mem_of_getElem? (i := 15) rfl)) dX10_turned_28 ?_
    have hP9 := hP.sub (ws' := [(h0, .inr (10, [.ref m_now, .ref m_draft, .ref m_past, .int j_acts, .ref m_images, .ref m_kept, .ref m_tape, .int j_taped, .int j_at, .int j_start, .int j_token, .int j_value, .int j_fault, .int j_place, .int j_latest, .ref m_low, .ref m_high, .ref m_first, .ref m_second, .ref m_lines, .ref m_others, .int j_shiftFirst, .int j_shiftMany, .int j_shiftLow, .int j_shiftHigh])), (m_now, .inl (kI, 192, .inl g_now)), (m_low, .inl (kI, 1000, .inl g_low)), (m_high, .inl (kI, 1000, .inl g_high)), (m_first, .inl (kZ, 1000, .inl g_first)), (m_lines, .inl (kZ, 200, .inl g_lines)), (m_others, .inl (kZ, 200, .inl g_others))]) [0, 1, 2, 3, 4, 5, 6] rfl
    have hD9 := hD.sub (ws' := [(h0, .inr (10, [.ref m_now, .ref m_draft, .ref m_past, .int j_acts, .ref m_images, .ref m_kept, .ref m_tape, .int j_taped, .int j_at, .int j_start, .int j_token, .int j_value, .int j_fault, .int j_place, .int j_latest, .ref m_low, .ref m_high, .ref m_first, .ref m_second, .ref m_lines, .ref m_others, .int j_shiftFirst, .int j_shiftMany, .int j_shiftLow, .int j_shiftHigh])), (m_now, .inl (kI, 192, .inl g_now)), (m_low, .inl (kI, 1000, .inl g_low)), (m_high, .inl (kI, 1000, .inl g_high)), (m_first, .inl (kZ, 1000, .inl g_first)), (m_lines, .inl (kZ, 200, .inl g_lines)), (m_others, .inl (kZ, 200, .inl g_others))]) [0, 1, 2, 3, 4, 5, 6] (by decide) rfl
    have hK9 := hK.sub (tys' := [(kI, .int), (kZ, .boolean)]) [0, 1] rfl
    refine W.widen (k := 0) (n := 0) (Nat.le_of_ble_eq_true rfl) (Nat.le_of_ble_eq_true rfl) ?_
    exact W.iret (v := (-1000001)) hx hb hr (fun t ht hW => ⟨⟨(-1000001), (), rfl, trivial, g_low, g_high, g_first, g_lines, g_others, by rw [ht]; exact hP9, va_K.moved hW.alike hK9, hD9, hg_low, hg_high⟩, hS.F ht⟩) hS.2.2 dX10_turned_30
  · have nc2 : r1.toInt ≠ 0 := pw_ne c2 rfl (by decide)
    refine lv_aload_n hx hb dX10_turned_8 rfl (lv_at hl 0 rfl) ?_
    refine lv_iload_n hx hb dX10_turned_9 rfl (lv_at hl 2 rfl) ?_
    have hPc := hP.sub (ws' := [(h0, .inr (10, [.ref m_now, .ref m_draft, .ref m_past, .int j_acts, .ref m_images, .ref m_kept, .ref m_tape, .int j_taped, .int j_at, .int j_start, .int j_token, .int j_value, .int j_fault, .int j_place, .int j_latest, .ref m_low, .ref m_high, .ref m_first, .ref m_second, .ref m_lines, .ref m_others, .int j_shiftFirst, .int j_shiftMany, .int j_shiftLow, .int j_shiftHigh])), (m_now, .inl (kI, 192, .inl g_now))]) [0, 1] rfl
    have hKc := hK.sub (tys' := [(kI, .int)]) [0] rfl
    refine va_calli (va_runV (As := [.int i_1]) (rest := []) ⟨hx, hb, hml, hown, hts⟩ (c_X10_isEdition l D h0 i_1 m_now m_draft m_past j_acts m_images m_kept m_tape j_taped j_at j_start j_token j_value j_fault j_place j_latest m_low m_high m_first m_second m_lines m_others j_shiftFirst j_shiftMany j_shiftLow j_shiftHigh kI g_now hg_now) (cwV 1 hts g_X10_turned_X10_isEdition rfl rfl rfl (by decide +kernel) ⟨Nat.le_of_ble_eq_true rfl, Nat.le_of_ble_eq_true rfl⟩) ⟨fun a U g mk q => by obtain ⟨q0, qP, qK⟩ := q; exact ⟨q0, qP, va_K.moved (u := U) (U := U.calling g mk a) (Vm.Alike.refl U.vm) qK⟩, va_recv hKc hPc (ci := 10) (q0 := 0) rfl rfl, fun U hU hW => ⟨rfl, by rw [hU]; exact hPc, va_K.moved hW.alike hKc⟩⟩ rfl rfl hl.1 rfl (lv_room (Nat.le_of_ble_eq_true rfl)) dX10_turned_10 ⟨Nat.le_of_ble_eq_true rfl, Nat.le_of_ble_eq_true rfl⟩) hS (fun _ _ h => h.elim) (fun _ h => h.elim) (fun r3 u t H1 locs ht hvm hw hB hz1 hk1 hS => ?_)
    have hP := pw_keep hP (fun q hq => hk1 q hq (fun h => h))
    generalize H1 = H at hP hS ⊢
    refine W.widen (k := 0) (n := 0) (Nat.le_of_ble_eq_true rfl) (Nat.le_of_ble_eq_true rfl) ?_
    have bor3 := hw.1
    have zor3 := pw_boolI bor3
    have hfr3 := hw.2
    refine lv_if_eq (tgt := 28) hx hb dX10_turned_13 (by decide) (fun c4 => ?_) (fun c4 => ?_)
    · have nc4 : r3.toInt = 0 := pw_eq c4 rfl (by decide)
      refine lv_ldc hx hb hown (hts (.constant RX10 177 (-1000001)) (List.mem_of_getElem? (i := 15) rfl)) dX10_turned_28 ?_
      have hP9 := hP.sub (ws' := [(h0, .inr (10, [.ref m_now, .ref m_draft, .ref m_past, .int j_acts, .ref m_images, .ref m_kept, .ref m_tape, .int j_taped, .int j_at, .int j_start, .int j_token, .int j_value, .int j_fault, .int j_place, .int j_latest, .ref m_low, .ref m_high, .ref m_first, .ref m_second, .ref m_lines, .ref m_others, .int j_shiftFirst, .int j_shiftMany, .int j_shiftLow, .int j_shiftHigh])), (m_now, .inl (kI, 192, .inl g_now)), (m_low, .inl (kI, 1000, .inl g_low)), (m_high, .inl (kI, 1000, .inl g_high)), (m_first, .inl (kZ, 1000, .inl g_first)), (m_lines, .inl (kZ, 200, .inl g_lines)), (m_others, .inl (kZ, 200, .inl g_others))]) [0, 1, 2, 3, 4, 5, 6] rfl
      have hD9 := hD.sub (ws' := [(h0, .inr (10, [.ref m_now, .ref m_draft, .ref m_past, .int j_acts, .ref m_images, .ref m_kept, .ref m_tape, .int j_taped, .int j_at, .int j_start, .int j_token, .int j_value, .int j_fault, .int j_place, .int j_latest, .ref m_low, .ref m_high, .ref m_first, .ref m_second, .ref m_lines, .ref m_others, .int j_shiftFirst, .int j_shiftMany, .int j_shiftLow, .int j_shiftHigh])), (m_now, .inl (kI, 192, .inl g_now)), (m_low, .inl (kI, 1000, .inl g_low)), (m_high, .inl (kI, 1000, .inl g_high)), (m_first, .inl (kZ, 1000, .inl g_first)), (m_lines, .inl (kZ, 200, .inl g_lines)), (m_others, .inl (kZ, 200, .inl g_others))]) [0, 1, 2, 3, 4, 5, 6] (by decide) rfl
      have hK9 := hK.sub (tys' := [(kI, .int), (kZ, .boolean)]) [0, 1] rfl
      refine W.widen (k := 0) (n := 0) (Nat.le_of_ble_eq_true rfl) (Nat.le_of_ble_eq_true rfl) ?_
      exact W.iret (v := (-1000001)) hx hb hr (fun t ht hW => ⟨⟨(-1000001), (), rfl, trivial, g_low, g_high, g_first, g_lines, g_others, by rw [ht]; exact hP9, va_K.moved hW.alike hK9, hD9, hg_low, hg_high⟩, hS.F ht⟩) hS.2.2 dX10_turned_30
    · have nc4 : r3.toInt ≠ 0 := pw_ne c4 rfl (by decide)
      refine lv_iload_n hx hb dX10_turned_16 rfl (lv_at hl 3 rfl) ?_
      refine lv_i2l (v := i_2.toInt64) hx hb dX10_turned_17 rfl ?_
      refine lv_lconst (v := 0) hx hb dX10_turned_18 (by decide) ?_
      refine lv_ldc2 hx hb hown (hts (.constantLong RX10 219 (2)) (List.mem_of_getElem? (i := 24) rfl)) dX10_turned_19 ?_
      have hPc := hP.sub (ws' := []) [] rfl
      have hKc := hK.sub (tys' := []) [] rfl
      refine va_calli (va_runS (As := [.long i_2.toInt64, .long 0, .long 2]) (rest := []) ⟨hx, hb, hml, hown, hts⟩ (c_X10_in0 l D i_2.toInt64 0 2) (cwS 3 hts g_X10_turned_X10_in0 rfl rfl rfl (by decide +kernel) ⟨Nat.le_of_ble_eq_true rfl, Nat.le_of_ble_eq_true rfl⟩) ⟨fun a U g mk q => by obtain ⟨q0, qP, qK⟩ := q; exact ⟨q0, qP, va_K.moved (u := U) (U := U.calling g mk a) (Vm.Alike.refl U.vm) qK⟩, fun U hU hW => ⟨rfl, by rw [hU]; exact hPc, va_K.moved hW.alike hKc⟩⟩ rfl rfl hl.1 rfl (lv_room (Nat.le_of_ble_eq_true rfl)) dX10_turned_22 ⟨Nat.le_of_ble_eq_true rfl, Nat.le_of_ble_eq_true rfl⟩) hS (fun _ _ h => h.elim) (fun _ h => h.elim) (fun r5 u t H1 locs ht hvm hw hB hz1 hk1 hS => ?_)
      have hP := pw_keep hP (fun q hq => hk1 q hq (fun h => h))
      generalize H1 = H at hP hS ⊢
      refine W.widen (k := 0) (n := 0) (Nat.le_of_ble_eq_true rfl) (Nat.le_of_ble_eq_true rfl) ?_
      have bor5 := hw.1
      have zor5 := pw_boolI bor5
      have hfr5 := hw.2
      have kl0 : (0 : Int64).toInt = 0 := by decide
      have kl2 : (2 : Int64).toInt = 2 := by decide
      try simp only [Int32.toInt_toInt64] at hfr5
      refine lv_if_ne (tgt := 31) hx hb dX10_turned_25 (by decide) (fun c6 => ?_) (fun c6 => ?_)
      · have nc6 : r5.toInt ≠ 0 := pw_ne c6 rfl (by decide)
        refine lv_aload_n hx hb dX10_turned_31 rfl (lv_at hl 0 rfl) ?_
        have hPc := hP.sub (ws' := [(h0, .inr (10, [.ref m_now, .ref m_draft, .ref m_past, .int j_acts, .ref m_images, .ref m_kept, .ref m_tape, .int j_taped, .int j_at, .int j_start, .int j_token, .int j_value, .int j_fault, .int j_place, .int j_latest, .ref m_low, .ref m_high, .ref m_first, .ref m_second, .ref m_lines, .ref m_others, .int j_shiftFirst, .int j_shiftMany, .int j_shiftLow, .int j_shiftHigh])), (m_now, .inl (kI, 192, .inl g_now)), (m_low, .inl (kI, 1000, .inl g_low)), (m_high, .inl (kI, 1000, .inl g_high))]) [0, 1, 2, 3] rfl
        have hKc := hK.sub (tys' := [(kI, .int)]) [0] rfl
        have hDc := hD.sub (ws' := [(h0, .inr (10, [.ref m_now, .ref m_draft, .ref m_past, .int j_acts, .ref m_images, .ref m_kept, .ref m_tape, .int j_taped, .int j_at, .int j_start, .int j_token, .int j_value, .int j_fault, .int j_place, .int j_latest, .ref m_low, .ref m_high, .ref m_first, .ref m_second, .ref m_lines, .ref m_others, .int j_shiftFirst, .int j_shiftMany, .int j_shiftLow, .int j_shiftHigh])), (m_now, .inl (kI, 192, .inl g_now)), (m_low, .inl (kI, 1000, .inl g_low)), (m_high, .inl (kI, 1000, .inl g_high))]) [0, 1, 2, 3] (by decide) rfl
        have hFc := va_free (wc := [(h0, .inr (10, [.ref m_now, .ref m_draft, .ref m_past, .int j_acts, .ref m_images, .ref m_kept, .ref m_tape, .int j_taped, .int j_at, .int j_start, .int j_token, .int j_value, .int j_fault, .int j_place, .int j_latest, .ref m_low, .ref m_high, .ref m_first, .ref m_second, .ref m_lines, .ref m_others, .int j_shiftFirst, .int j_shiftMany, .int j_shiftLow, .int j_shiftHigh])), (m_now, .inl (kI, 192, .inl g_now)), (m_low, .inl (kI, 1000, .inl g_low)), (m_high, .inl (kI, 1000, .inl g_high))]) hD hS hA [0, 1, 2, 3] rfl
        refine va_callv (va_runV (As := []) (rest := []) ⟨hx, hb, hml, hown, hts⟩ (c_X10_lays l D h0 m_now m_draft m_past j_acts m_images m_kept m_tape j_taped j_at j_start j_token j_value j_fault j_place j_latest m_low m_high m_first m_second m_lines m_others j_shiftFirst j_shiftMany j_shiftLow j_shiftHigh kI g_now g_low g_high H.size hg_now hg_low hg_high) (cwV 0 hts g_X10_turned_X10_lays rfl rfl rfl (by decide +kernel) ⟨Nat.le_of_ble_eq_true rfl, Nat.le_of_ble_eq_true rfl⟩) ⟨fun a U g mk q => by obtain ⟨q0, q1, qP, qK, qD⟩ := q; exact ⟨q0, q1, qP, va_K.moved (u := U) (U := U.calling g mk a) (Vm.Alike.refl U.vm) qK, qD⟩, va_recv hKc hPc (ci := 10) (q0 := 0) rfl rfl, fun U hU hW => ⟨rfl, by rw [hU], by rw [hU]; exact hPc, va_K.moved hW.alike hKc, hDc.weaken (fun _ _ _ _ => trivial)⟩⟩ rfl rfl hl.1 rfl (lv_room (Nat.le_of_ble_eq_true rfl)) dX10_turned_32 ⟨Nat.le_of_ble_eq_true rfl, Nat.le_of_ble_eq_true rfl⟩) hS (fun q _ h => hFc q h) hFc (fun u t H1 locs ht hvm hw hB hz1 hk1 hS => ?_)
        obtain ⟨y8, y9, hP1, hK1, hD1, hy8, hy9⟩ := hB
        rw [ht] at hP1
        have hK1 := va_K.moved hvm.symm hK1
        obtain ⟨hP, hD⟩ := va_join (wr := [(m_first, .inl (kZ, 1000, .inl g_first)), (m_lines, .inl (kZ, 200, .inl g_lines)), (m_others, .inl (kZ, 200, .inl g_others))]) (w1 := [(h0, .inr (10, [.ref m_now, .ref m_draft, .ref m_past, .int j_acts, .ref m_images, .ref m_kept, .ref m_tape, .int j_taped, .int j_at, .int j_start, .int j_token, .int j_value, .int j_fault, .int j_place, .int j_latest, .ref m_low, .ref m_high, .ref m_first, .ref m_second, .ref m_lines, .ref m_others, .int j_shiftFirst, .int j_shiftMany, .int j_shiftLow, .int j_shiftHigh])), (m_now, .inl (kI, 192, .inl g_now)), (m_low, .inl (kI, 1000, .inl y8)), (m_high, .inl (kI, 1000, .inl y9))]) hP hD [0, 1, 2, 3] [4, 5, 6] rfl rfl (by decide) (by decide) hk1 hFc hP1 hD1
        have hK := (hK.sub (tys' := [(kI, .int), (kZ, .boolean)]) [0, 1] rfl).app hK1
        generalize H1 = H at hP hS ⊢
        have hP : va_P D vwCl [(m_first, .inl (kZ, 1000, .inl g_first)), (m_lines, .inl (kZ, 200, .inl g_lines)), (m_others, .inl (kZ, 200, .inl g_others)), (h0, .inr (10, [.ref m_now, .ref m_draft, .ref m_past, .int j_acts, .ref m_images, .ref m_kept, .ref m_tape, .int j_taped, .int j_at, .int j_start, .int j_token, .int j_value, .int j_fault, .int j_place, .int j_latest, .ref m_low, .ref m_high, .ref m_first, .ref m_second, .ref m_lines, .ref m_others, .int j_shiftFirst, .int j_shiftMany, .int j_shiftLow, .int j_shiftHigh])), (m_now, .inl (kI, 192, .inl g_now)), (m_low, .inl (kI, 1000, .inl y8)), (m_high, .inl (kI, 1000, .inl y9))] H := hP
        have hD : va_D A [(m_first, .inl (kZ, 1000, .inl g_first)), (m_lines, .inl (kZ, 200, .inl g_lines)), (m_others, .inl (kZ, 200, .inl g_others)), (h0, .inr (10, [.ref m_now, .ref m_draft, .ref m_past, .int j_acts, .ref m_images, .ref m_kept, .ref m_tape, .int j_taped, .int j_at, .int j_start, .int j_token, .int j_value, .int j_fault, .int j_place, .int j_latest, .ref m_low, .ref m_high, .ref m_first, .ref m_second, .ref m_lines, .ref m_others, .int j_shiftFirst, .int j_shiftMany, .int j_shiftLow, .int j_shiftHigh])), (m_now, .inl (kI, 192, .inl g_now)), (m_low, .inl (kI, 1000, .inl y8)), (m_high, .inl (kI, 1000, .inl y9))] := hD
        have hK : va_K D vwCl [(kI, .int), (kZ, .boolean), (kI, .int)] s := hK
        refine W.widen (k := 0) (n := 0) (Nat.le_of_ble_eq_true rfl) (Nat.le_of_ble_eq_true rfl) ?_
        refine lv_aload_n hx hb dX10_turned_35 rfl (lv_at hl 0 rfl) ?_
        refine lv_iload_n hx hb dX10_turned_36 rfl (lv_at hl 1 rfl) ?_
        refine lv_aload_n hx hb dX10_turned_37 rfl (lv_at hl 0 rfl) ?_
        refine lv_iload_n hx hb dX10_turned_38 rfl (lv_at hl 1 rfl) ?_
        refine lv_iconst (v := 1) hx hb dX10_turned_39 (by decide) ?_
        have kk1 : (1 : Int32).toInt = 1 := by decide
        have hPc := hP.sub (ws' := [(h0, .inr (10, [.ref m_now, .ref m_draft, .ref m_past, .int j_acts, .ref m_images, .ref m_kept, .ref m_tape, .int j_taped, .int j_at, .int j_start, .int j_token, .int j_value, .int j_fault, .int j_place, .int j_latest, .ref m_low, .ref m_high, .ref m_first, .ref m_second, .ref m_lines, .ref m_others, .int j_shiftFirst, .int j_shiftMany, .int j_shiftLow, .int j_shiftHigh])), (m_now, .inl (kI, 192, .inl g_now))]) [3, 4] rfl
        have hKc := hK.sub (tys' := [(kI, .int)]) [0] rfl
        refine va_calli (va_runV (As := [.int i_0, .int 1]) (rest := [.int i_0, .ref h0]) ⟨hx, hb, hml, hown, hts⟩ (c_X10_cited l D h0 i_0 1 m_now m_draft m_past j_acts m_images m_kept m_tape j_taped j_at j_start j_token j_value j_fault j_place j_latest m_low m_high m_first m_second m_lines m_others j_shiftFirst j_shiftMany j_shiftLow j_shiftHigh kI g_now i_0.toInt.toNat 1 (by first | decide | omega) (by first | decide | omega) (by first | decide | omega) (by first | decide | omega) (by first | omega | decide | (have hz0 : (0 : Int32).toInt = 0 := (by decide); omega)) (by first | omega | decide | (have hz0 : (0 : Int32).toInt = 0 := (by decide); omega))) (cwV 2 hts g_X10_turned_X10_cited rfl rfl rfl (by decide +kernel) ⟨Nat.le_of_ble_eq_true rfl, Nat.le_of_ble_eq_true rfl⟩) ⟨fun a U g mk q => by obtain ⟨q0, qP, qK⟩ := q; exact ⟨q0, qP, va_K.moved (u := U) (U := U.calling g mk a) (Vm.Alike.refl U.vm) qK⟩, va_recv hKc hPc (ci := 10) (q0 := 0) rfl rfl, fun U hU hW => ⟨rfl, by rw [hU]; exact hPc, va_K.moved hW.alike hKc⟩⟩ rfl rfl hl.1 rfl (lv_room (Nat.le_of_ble_eq_true rfl)) dX10_turned_40 ⟨Nat.le_of_ble_eq_true rfl, Nat.le_of_ble_eq_true rfl⟩) hS (fun _ _ h => h.elim) (fun _ h => h.elim) (fun r10 u t H1 locs ht hvm hw hB hz1 hk1 hS => ?_)
        have hP := pw_keep hP (fun q hq => hk1 q hq (fun h => h))
        generalize H1 = H at hP hS ⊢
        refine W.widen (k := 0) (n := 0) (Nat.le_of_ble_eq_true rfl) (Nat.le_of_ble_eq_true rfl) ?_
        have hfr10 := hw
        have ncr10 := gV_c hg_now hfr10 (by omega)
        refine lv_aload_n hx hb dX10_turned_43 rfl (lv_at hl 0 rfl) ?_
        refine va_get (D := D) (ci := 10) (v := .ref m_lines) (C := RX10) (T := TX10) (N := 25) hx hb hts (fun _ h => List.mem_cons_of_mem _ (List.mem_append_right _ h)) hown hK hP 3 rfl rfl 19 (by decide) (hts (.fieldLink RX10 41 "LineCitesModel" "lines" "[Z") (List.mem_of_getElem? (i := 38) rfl)) (fun _ h9 => h9) rfl dX10_turned_44 ?_
        have hPc := hP.sub (ws' := [(h0, .inr (10, [.ref m_now, .ref m_draft, .ref m_past, .int j_acts, .ref m_images, .ref m_kept, .ref m_tape, .int j_taped, .int j_at, .int j_start, .int j_token, .int j_value, .int j_fault, .int j_place, .int j_latest, .ref m_low, .ref m_high, .ref m_first, .ref m_second, .ref m_lines, .ref m_others, .int j_shiftFirst, .int j_shiftMany, .int j_shiftLow, .int j_shiftHigh])), (m_now, .inl (kI, 192, .inl g_now)), (m_low, .inl (kI, 1000, .inl y8)), (m_high, .inl (kI, 1000, .inl y9)), (m_lines, .inl (kZ, 200, .inl g_lines))]) [3, 4, 5, 6, 1] rfl
        have hKc := hK.sub (tys' := [(kI, .int), (kZ, .boolean)]) [0, 1] rfl
        have hDc := hD.sub (ws' := [(h0, .inr (10, [.ref m_now, .ref m_draft, .ref m_past, .int j_acts, .ref m_images, .ref m_kept, .ref m_tape, .int j_taped, .int j_at, .int j_start, .int j_token, .int j_value, .int j_fault, .int j_place, .int j_latest, .ref m_low, .ref m_high, .ref m_first, .ref m_second, .ref m_lines, .ref m_others, .int j_shiftFirst, .int j_shiftMany, .int j_shiftLow, .int j_shiftHigh])), (m_now, .inl (kI, 192, .inl g_now)), (m_low, .inl (kI, 1000, .inl y8)), (m_high, .inl (kI, 1000, .inl y9)), (m_lines, .inl (kZ, 200, .inl g_lines))]) [3, 4, 5, 6, 1] (by decide) rfl
        have hFc := va_free (wc := [(h0, .inr (10, [.ref m_now, .ref m_draft, .ref m_past, .int j_acts, .ref m_images, .ref m_kept, .ref m_tape, .int j_taped, .int j_at, .int j_start, .int j_token, .int j_value, .int j_fault, .int j_place, .int j_latest, .ref m_low, .ref m_high, .ref m_first, .ref m_second, .ref m_lines, .ref m_others, .int j_shiftFirst, .int j_shiftMany, .int j_shiftLow, .int j_shiftHigh])), (m_now, .inl (kI, 192, .inl g_now)), (m_low, .inl (kI, 1000, .inl y8)), (m_high, .inl (kI, 1000, .inl y9)), (m_lines, .inl (kZ, 200, .inl g_lines))]) hD hS hA [3, 4, 5, 6, 1] rfl
        refine va_callv (va_runV (As := [.int i_0, .int r10, .ref m_lines]) (rest := []) ⟨hx, hb, hml, hown, hts⟩ (c_X10_laysLines l D h0 i_0 r10 m_lines m_now m_draft m_past j_acts m_images m_kept m_tape j_taped j_at j_start j_token j_value j_fault j_place j_latest m_low m_high m_first m_second m_lines m_others j_shiftFirst j_shiftMany j_shiftLow j_shiftHigh kI g_now y8 y9 kZ g_lines H.size (by first | decide | omega) (by first | decide | omega) (by first | decide | omega) (by first | decide | omega) hg_now hy8 hy9) (cwV 3 hts g_X10_turned_X10_laysLines rfl rfl rfl (by decide +kernel) ⟨Nat.le_of_ble_eq_true rfl, Nat.le_of_ble_eq_true rfl⟩) ⟨fun a U g mk q => by obtain ⟨q0, q1, qP, qK, qD⟩ := q; exact ⟨q0, q1, qP, va_K.moved (u := U) (U := U.calling g mk a) (Vm.Alike.refl U.vm) qK, qD⟩, va_recv hKc hPc (ci := 10) (q0 := 0) rfl rfl, fun U hU hW => ⟨rfl, by rw [hU], by rw [hU]; exact hPc, va_K.moved hW.alike hKc, hDc.weaken (fun _ _ _ _ => trivial)⟩⟩ rfl rfl hl.1 rfl (lv_room (Nat.le_of_ble_eq_true rfl)) dX10_turned_47 ⟨Nat.le_of_ble_eq_true rfl, Nat.le_of_ble_eq_true rfl⟩) hS (fun q _ h => hFc q h) hFc (fun u t H1 locs ht hvm hw hB hz1 hk1 hS => ?_)
        obtain ⟨y12, hP1, hK1, hD1⟩ := hB
        rw [ht] at hP1
        have hK1 := va_K.moved hvm.symm hK1
        obtain ⟨hP, hD⟩ := va_join (wr := [(m_first, .inl (kZ, 1000, .inl g_first)), (m_others, .inl (kZ, 200, .inl g_others))]) (w1 := [(h0, .inr (10, [.ref m_now, .ref m_draft, .ref m_past, .int j_acts, .ref m_images, .ref m_kept, .ref m_tape, .int j_taped, .int j_at, .int j_start, .int j_token, .int j_value, .int j_fault, .int j_place, .int j_latest, .ref m_low, .ref m_high, .ref m_first, .ref m_second, .ref m_lines, .ref m_others, .int j_shiftFirst, .int j_shiftMany, .int j_shiftLow, .int j_shiftHigh])), (m_now, .inl (kI, 192, .inl g_now)), (m_low, .inl (kI, 1000, .inl y8)), (m_high, .inl (kI, 1000, .inl y9)), (m_lines, .inl (kZ, 200, .inl y12))]) hP hD [3, 4, 5, 6, 1] [0, 2] rfl rfl (by decide) (by decide) hk1 hFc hP1 hD1
        have hK := (hK.sub (tys' := [(kI, .int), (kZ, .boolean), (kI, .int)]) [0, 1, 2] rfl).app hK1
        generalize H1 = H at hP hS ⊢
        have hP : va_P D vwCl [(m_first, .inl (kZ, 1000, .inl g_first)), (m_others, .inl (kZ, 200, .inl g_others)), (h0, .inr (10, [.ref m_now, .ref m_draft, .ref m_past, .int j_acts, .ref m_images, .ref m_kept, .ref m_tape, .int j_taped, .int j_at, .int j_start, .int j_token, .int j_value, .int j_fault, .int j_place, .int j_latest, .ref m_low, .ref m_high, .ref m_first, .ref m_second, .ref m_lines, .ref m_others, .int j_shiftFirst, .int j_shiftMany, .int j_shiftLow, .int j_shiftHigh])), (m_now, .inl (kI, 192, .inl g_now)), (m_low, .inl (kI, 1000, .inl y8)), (m_high, .inl (kI, 1000, .inl y9)), (m_lines, .inl (kZ, 200, .inl y12))] H := hP
        have hD : va_D A [(m_first, .inl (kZ, 1000, .inl g_first)), (m_others, .inl (kZ, 200, .inl g_others)), (h0, .inr (10, [.ref m_now, .ref m_draft, .ref m_past, .int j_acts, .ref m_images, .ref m_kept, .ref m_tape, .int j_taped, .int j_at, .int j_start, .int j_token, .int j_value, .int j_fault, .int j_place, .int j_latest, .ref m_low, .ref m_high, .ref m_first, .ref m_second, .ref m_lines, .ref m_others, .int j_shiftFirst, .int j_shiftMany, .int j_shiftLow, .int j_shiftHigh])), (m_now, .inl (kI, 192, .inl g_now)), (m_low, .inl (kI, 1000, .inl y8)), (m_high, .inl (kI, 1000, .inl y9)), (m_lines, .inl (kZ, 200, .inl y12))] := hD
        have hK : va_K D vwCl [(kI, .int), (kZ, .boolean), (kI, .int), (kI, .int), (kZ, .boolean)] s := hK
        refine W.widen (k := 0) (n := 0) (Nat.le_of_ble_eq_true rfl) (Nat.le_of_ble_eq_true rfl) ?_
        refine lv_aload_n hx hb dX10_turned_50 rfl (lv_at hl 0 rfl) ?_
        refine va_get (D := D) (ci := 10) (v := .ref m_first) (C := RX10) (T := TX10) (N := 25) hx hb hts (fun _ h => List.mem_cons_of_mem _ (List.mem_append_right _ h)) hown hK hP 2 rfl rfl 17 (by decide) (hts (.fieldLink RX10 35 "LineCitesModel" "first" "[Z") (List.mem_of_getElem? (i := 58) rfl)) (fun _ h9 => h9) rfl dX10_turned_51 ?_
        have hPc := hP.sub (ws' := [(m_first, .inl (kZ, 1000, .inl g_first))]) [0] rfl
        have hKc := hK.sub (tys' := [(kZ, .boolean)]) [1] rfl
        have hDc := hD.sub (ws' := [(m_first, .inl (kZ, 1000, .inl g_first))]) [0] (by decide) rfl
        have hFc := va_free (wc := [(m_first, .inl (kZ, 1000, .inl g_first))]) hD hS hA [0] rfl
        refine va_callv (va_runS (As := [.ref m_first]) (rest := []) ⟨hx, hb, hml, hown, hts⟩ (c_X10_clears l D m_first kZ g_first H.size) (cwS 1 hts g_X10_turned_X10_clears rfl rfl rfl (by decide +kernel) ⟨Nat.le_of_ble_eq_true rfl, Nat.le_of_ble_eq_true rfl⟩) ⟨fun a U g mk q => by obtain ⟨q0, q1, qP, qK, qD⟩ := q; exact ⟨q0, q1, qP, va_K.moved (u := U) (U := U.calling g mk a) (Vm.Alike.refl U.vm) qK, qD⟩, fun U hU hW => ⟨rfl, by rw [hU], by rw [hU]; exact hPc, va_K.moved hW.alike hKc, hDc.weaken (fun _ _ _ _ => trivial)⟩⟩ rfl rfl hl.1 rfl (lv_room (Nat.le_of_ble_eq_true rfl)) dX10_turned_54 ⟨Nat.le_of_ble_eq_true rfl, Nat.le_of_ble_eq_true rfl⟩) hS (fun q _ h => hFc q h) hFc (fun u t H1 locs ht hvm hw hB hz1 hk1 hS => ?_)
        obtain ⟨y14, hP1, hK1, hD1⟩ := hB
        rw [ht] at hP1
        have hK1 := va_K.moved hvm.symm hK1
        obtain ⟨hP, hD⟩ := va_join (wr := [(m_others, .inl (kZ, 200, .inl g_others)), (h0, .inr (10, [.ref m_now, .ref m_draft, .ref m_past, .int j_acts, .ref m_images, .ref m_kept, .ref m_tape, .int j_taped, .int j_at, .int j_start, .int j_token, .int j_value, .int j_fault, .int j_place, .int j_latest, .ref m_low, .ref m_high, .ref m_first, .ref m_second, .ref m_lines, .ref m_others, .int j_shiftFirst, .int j_shiftMany, .int j_shiftLow, .int j_shiftHigh])), (m_now, .inl (kI, 192, .inl g_now)), (m_low, .inl (kI, 1000, .inl y8)), (m_high, .inl (kI, 1000, .inl y9)), (m_lines, .inl (kZ, 200, .inl y12))]) (w1 := [(m_first, .inl (kZ, 1000, .inl y14))]) hP hD [0] [1, 2, 3, 4, 5, 6] rfl rfl (by decide) (by decide) hk1 hFc hP1 hD1
        have hK := (hK.sub (tys' := [(kI, .int), (kZ, .boolean), (kI, .int), (kI, .int), (kZ, .boolean)]) [0, 1, 2, 3, 4] rfl).app hK1
        generalize H1 = H at hP hS ⊢
        have hP : va_P D vwCl [(m_others, .inl (kZ, 200, .inl g_others)), (h0, .inr (10, [.ref m_now, .ref m_draft, .ref m_past, .int j_acts, .ref m_images, .ref m_kept, .ref m_tape, .int j_taped, .int j_at, .int j_start, .int j_token, .int j_value, .int j_fault, .int j_place, .int j_latest, .ref m_low, .ref m_high, .ref m_first, .ref m_second, .ref m_lines, .ref m_others, .int j_shiftFirst, .int j_shiftMany, .int j_shiftLow, .int j_shiftHigh])), (m_now, .inl (kI, 192, .inl g_now)), (m_low, .inl (kI, 1000, .inl y8)), (m_high, .inl (kI, 1000, .inl y9)), (m_lines, .inl (kZ, 200, .inl y12)), (m_first, .inl (kZ, 1000, .inl y14))] H := hP
        have hD : va_D A [(m_others, .inl (kZ, 200, .inl g_others)), (h0, .inr (10, [.ref m_now, .ref m_draft, .ref m_past, .int j_acts, .ref m_images, .ref m_kept, .ref m_tape, .int j_taped, .int j_at, .int j_start, .int j_token, .int j_value, .int j_fault, .int j_place, .int j_latest, .ref m_low, .ref m_high, .ref m_first, .ref m_second, .ref m_lines, .ref m_others, .int j_shiftFirst, .int j_shiftMany, .int j_shiftLow, .int j_shiftHigh])), (m_now, .inl (kI, 192, .inl g_now)), (m_low, .inl (kI, 1000, .inl y8)), (m_high, .inl (kI, 1000, .inl y9)), (m_lines, .inl (kZ, 200, .inl y12)), (m_first, .inl (kZ, 1000, .inl y14))] := hD
        have hK : va_K D vwCl [(kI, .int), (kZ, .boolean), (kI, .int), (kI, .int), (kZ, .boolean), (kZ, .boolean)] s := hK
        refine W.widen (k := 0) (n := 0) (Nat.le_of_ble_eq_true rfl) (Nat.le_of_ble_eq_true rfl) ?_
        refine lv_iconst (v := 0) hx hb dX10_turned_57 (by decide) ?_
        refine lv_istore (lv' := [(4, .int 0), (0, .ref h0), (1, .int i_0), (2, .int i_1), (3, .int i_2)]) hx hb dX10_turned_58 hl (by decide) rfl (fun ls hl => ?_)
        have hl9 : lv_has ls 8 [(0, .ref h0), (1, .int i_0), (2, .int i_1), (3, .int i_2), (4, .int 0)] := lv_sub hl [1, 2, 3, 4, 0] rfl
        refine pw_loop (fun (zz : Int32 × (Nat → Int32)) H locs ls => match zz with | (v307, f308) => va_P D vwCl [(m_others, .inl (kZ, 200, .inl g_others)), (h0, .inr (10, [.ref m_now, .ref m_draft, .ref m_past, .int j_acts, .ref m_images, .ref m_kept, .ref m_tape, .int j_taped, .int j_at, .int j_start, .int j_token, .int j_value, .int j_fault, .int j_place, .int j_latest, .ref m_low, .ref m_high, .ref m_first, .ref m_second, .ref m_lines, .ref m_others, .int j_shiftFirst, .int j_shiftMany, .int j_shiftLow, .int j_shiftHigh])), (m_now, .inl (kI, 192, .inl g_now)), (m_low, .inl (kI, 1000, .inl y8)), (m_high, .inl (kI, 1000, .inl y9)), (m_lines, .inl (kZ, 200, .inl y12)), (m_first, .inl (kZ, 1000, .inl f308))] H ∧ va_D A [(m_others, .inl (kZ, 200, .inl g_others)), (h0, .inr (10, [.ref m_now, .ref m_draft, .ref m_past, .int j_acts, .ref m_images, .ref m_kept, .ref m_tape, .int j_taped, .int j_at, .int j_start, .int j_token, .int j_value, .int j_fault, .int j_place, .int j_latest, .ref m_low, .ref m_high, .ref m_first, .ref m_second, .ref m_lines, .ref m_others, .int j_shiftFirst, .int j_shiftMany, .int j_shiftLow, .int j_shiftHigh])), (m_now, .inl (kI, 192, .inl g_now)), (m_low, .inl (kI, 1000, .inl y8)), (m_high, .inl (kI, 1000, .inl y9)), (m_lines, .inl (kZ, 200, .inl y12)), (m_first, .inl (kZ, 1000, .inl f308))] ∧ va_S A s.heap H locs ∧ lv_has ls 8 [(0, .ref h0), (1, .int i_0), (2, .int i_1), (3, .int i_2), (4, .int v307)] ∧ 0 ≤ v307.toInt) (fun (zz : Int32 × (Nat → Int32))  => match zz with | (v307, f308) => (2147483648 - v307.toInt).toNat) 0 0 (fun (zz : Int32 × (Nat → Int32)) ls => match zz with | (v307, f308) => F0 m 60 ls []) (fun zz H locs ls ih309 hI => ?_) (0, y14) _ _ _ ⟨hP, hD, hS, hl9, (by decide)⟩
        obtain ⟨v307, f308⟩ := zz
        obtain ⟨hP, hD, hS, hl, bv307⟩ := hI
        have bv307 : 0 ≤ v307.toInt := bv307
        have hP : va_P D vwCl [(m_others, .inl (kZ, 200, .inl g_others)), (h0, .inr (10, [.ref m_now, .ref m_draft, .ref m_past, .int j_acts, .ref m_images, .ref m_kept, .ref m_tape, .int j_taped, .int j_at, .int j_start, .int j_token, .int j_value, .int j_fault, .int j_place, .int j_latest, .ref m_low, .ref m_high, .ref m_first, .ref m_second, .ref m_lines, .ref m_others, .int j_shiftFirst, .int j_shiftMany, .int j_shiftLow, .int j_shiftHigh])), (m_now, .inl (kI, 192, .inl g_now)), (m_low, .inl (kI, 1000, .inl y8)), (m_high, .inl (kI, 1000, .inl y9)), (m_lines, .inl (kZ, 200, .inl y12)), (m_first, .inl (kZ, 1000, .inl f308))] H := hP
        have hD : va_D A [(m_others, .inl (kZ, 200, .inl g_others)), (h0, .inr (10, [.ref m_now, .ref m_draft, .ref m_past, .int j_acts, .ref m_images, .ref m_kept, .ref m_tape, .int j_taped, .int j_at, .int j_start, .int j_token, .int j_value, .int j_fault, .int j_place, .int j_latest, .ref m_low, .ref m_high, .ref m_first, .ref m_second, .ref m_lines, .ref m_others, .int j_shiftFirst, .int j_shiftMany, .int j_shiftLow, .int j_shiftHigh])), (m_now, .inl (kI, 192, .inl g_now)), (m_low, .inl (kI, 1000, .inl y8)), (m_high, .inl (kI, 1000, .inl y9)), (m_lines, .inl (kZ, 200, .inl y12)), (m_first, .inl (kZ, 1000, .inl f308))] := hD
        have hK : va_K D vwCl [(kI, .int), (kZ, .boolean), (kI, .int), (kI, .int), (kZ, .boolean), (kZ, .boolean)] s := hK
        have hl : lv_has ls 8 [(0, .ref h0), (1, .int i_0), (2, .int i_1), (3, .int i_2), (4, .int v307)] := hl
        refine W.eq (g2 := F0 m 60 ls []) rfl ?_
        refine lv_iload hx hb dX10_turned_60 (lv_at hl 4 rfl) ?_
        refine lv_aload_n hx hb dX10_turned_62 rfl (lv_at hl 0 rfl) ?_
        refine va_get (D := D) (ci := 10) (v := .ref m_now) (C := RX10) (T := TX10) (N := 25) hx hb hts (fun _ h => List.mem_cons_of_mem _ (List.mem_append_right _ h)) hown hK hP 1 rfl rfl 0 (by decide) (hts (.fieldLink RX10 7 "LineCitesModel" "now" "[I") (List.mem_of_getElem? (i := 14) rfl)) (fun _ h9 => h9) rfl dX10_turned_63 ?_
        refine lv_iconst (v := 0) hx hb dX10_turned_66 (by decide) ?_
        refine va_iald hx hb hK hP 2 0 rfl rfl (vp_in_iff.mpr (by decide)) dX10_turned_67 ?_
        refine lv_topi (fun x310 ex310 => ?_)
        have nx310 : 0 ≤ x310.toInt ∧ x310.toInt ≤ 200 := gV_0 hg_now ex310
        have zx310 := gV_00 ex310
        refine lv_icmp_ge (tgt := 135) hx hb dX10_turned_68 (by decide) (fun c338 => ?_) (fun c338 => ?_)
        · have nc338 : x310.toInt ≤ v307.toInt := pw_le c338 rfl rfl
          have mc338v307 := pw_max v307
          have mc338x310 := pw_max x310
          refine lv_aload_n hx hb dX10_turned_135 rfl (lv_at hl 0 rfl) ?_
          refine va_get (D := D) (ci := 10) (v := .ref m_first) (C := RX10) (T := TX10) (N := 25) hx hb hts (fun _ h => List.mem_cons_of_mem _ (List.mem_append_right _ h)) hown hK hP 1 rfl rfl 17 (by decide) (hts (.fieldLink RX10 35 "LineCitesModel" "first" "[Z") (List.mem_of_getElem? (i := 58) rfl)) (fun _ h9 => h9) rfl dX10_turned_136 ?_
          have hPc := hP.sub (ws' := [(m_first, .inl (kZ, 1000, .inl f308))]) [6] rfl
          have hKc := hK.sub (tys' := [(kZ, .boolean)]) [1] rfl
          refine va_calli (va_runS (As := [.ref m_first]) (rest := []) ⟨hx, hb, hml, hown, hts⟩ (c_X10_leastOf l D m_first kZ f308) (cwS 1 hts g_X10_turned_X10_leastOf rfl rfl rfl (by decide +kernel) ⟨Nat.le_of_ble_eq_true rfl, Nat.le_of_ble_eq_true rfl⟩) ⟨fun a U g mk q => by obtain ⟨q0, qP, qK⟩ := q; exact ⟨q0, qP, va_K.moved (u := U) (U := U.calling g mk a) (Vm.Alike.refl U.vm) qK⟩, fun U hU hW => ⟨rfl, by rw [hU]; exact hPc, va_K.moved hW.alike hKc⟩⟩ rfl rfl hl.1 rfl (lv_room (Nat.le_of_ble_eq_true rfl)) dX10_turned_139 ⟨Nat.le_of_ble_eq_true rfl, Nat.le_of_ble_eq_true rfl⟩) hS (fun _ _ h => h.elim) (fun _ h => h.elim) (fun r339 u t H1 locs ht hvm hw hB hz1 hk1 hS => ?_)
          have hP := pw_keep hP (fun q hq => hk1 q hq (fun h => h))
          generalize H1 = H at hP hS ⊢
          refine W.widen (k := 0) (n := 0) (Nat.le_of_ble_eq_true rfl) (Nat.le_of_ble_eq_true rfl) ?_
          refine lv_istore (lv' := [(4, .int r339), (0, .ref h0), (1, .int i_0), (2, .int i_1), (3, .int i_2)]) hx hb dX10_turned_142 hl (by decide) rfl (fun ls hl => ?_)
          refine lv_aload_n hx hb dX10_turned_144 rfl (lv_at hl 1 rfl) ?_
          refine va_get (D := D) (ci := 10) (v := .ref m_first) (C := RX10) (T := TX10) (N := 25) hx hb hts (fun _ h => List.mem_cons_of_mem _ (List.mem_append_right _ h)) hown hK hP 1 rfl rfl 17 (by decide) (hts (.fieldLink RX10 35 "LineCitesModel" "first" "[Z") (List.mem_of_getElem? (i := 58) rfl)) (fun _ h9 => h9) rfl dX10_turned_145 ?_
          have hPc := hP.sub (ws' := [(m_first, .inl (kZ, 1000, .inl f308))]) [6] rfl
          have hKc := hK.sub (tys' := [(kZ, .boolean)]) [1] rfl
          refine va_calli (va_runS (As := [.ref m_first]) (rest := []) ⟨hx, hb, hml, hown, hts⟩ (c_X10_greatestOf l D m_first kZ f308) (cwS 1 hts g_X10_turned_X10_greatestOf rfl rfl rfl (by decide +kernel) ⟨Nat.le_of_ble_eq_true rfl, Nat.le_of_ble_eq_true rfl⟩) ⟨fun a U g mk q => by obtain ⟨q0, qP, qK⟩ := q; exact ⟨q0, qP, va_K.moved (u := U) (U := U.calling g mk a) (Vm.Alike.refl U.vm) qK⟩, fun U hU hW => ⟨rfl, by rw [hU]; exact hPc, va_K.moved hW.alike hKc⟩⟩ rfl rfl hl.1 rfl (lv_room (Nat.le_of_ble_eq_true rfl)) dX10_turned_148 ⟨Nat.le_of_ble_eq_true rfl, Nat.le_of_ble_eq_true rfl⟩) hS (fun _ _ h => h.elim) (fun _ h => h.elim) (fun r340 u t H1 locs ht hvm hw hB hz1 hk1 hS => ?_)
          have hP := pw_keep hP (fun q hq => hk1 q hq (fun h => h))
          generalize H1 = H at hP hS ⊢
          refine W.widen (k := 0) (n := 0) (Nat.le_of_ble_eq_true rfl) (Nat.le_of_ble_eq_true rfl) ?_
          refine lv_istore (lv' := [(5, .int r340), (4, .int r339), (0, .ref h0), (1, .int i_0), (2, .int i_1), (3, .int i_2)]) hx hb dX10_turned_151 hl (by decide) rfl (fun ls hl => ?_)
          refine lv_iload_n hx hb dX10_turned_153 rfl (lv_at hl 5 rfl) ?_
          refine lv_iconst (v := 2) hx hb dX10_turned_154 (by decide) ?_
          refine lv_icmp_ge (tgt := 170) hx hb dX10_turned_155 (by decide) (fun c341 => ?_) (fun c341 => ?_)
          · have nc341 : 2 ≤ i_2.toInt := pw_le c341 (by decide) rfl
            refine lv_aload_n hx hb dX10_turned_170 rfl (lv_at hl 2 rfl) ?_
            refine lv_iload_n hx hb dX10_turned_171 rfl (lv_at hl 4 rfl) ?_
            refine lv_iload hx hb dX10_turned_172 (lv_at hl 1 rfl) ?_
            refine lv_iload hx hb dX10_turned_174 (lv_at hl 0 rfl) ?_
            refine lv_aload_n hx hb dX10_turned_176 rfl (lv_at hl 2 rfl) ?_
            refine va_get (D := D) (ci := 10) (v := .ref m_others) (C := RX10) (T := TX10) (N := 25) hx hb hts (fun _ h => List.mem_cons_of_mem _ (List.mem_append_right _ h)) hown hK hP 1 rfl rfl 20 (by decide) (hts (.fieldLink RX10 44 "LineCitesModel" "others" "[Z") (List.mem_of_getElem? (i := 65) rfl)) (fun _ h9 => h9) rfl dX10_turned_177 ?_
            have hPc := hP.sub (ws' := [(h0, .inr (10, [.ref m_now, .ref m_draft, .ref m_past, .int j_acts, .ref m_images, .ref m_kept, .ref m_tape, .int j_taped, .int j_at, .int j_start, .int j_token, .int j_value, .int j_fault, .int j_place, .int j_latest, .ref m_low, .ref m_high, .ref m_first, .ref m_second, .ref m_lines, .ref m_others, .int j_shiftFirst, .int j_shiftMany, .int j_shiftLow, .int j_shiftHigh])), (m_now, .inl (kI, 192, .inl g_now)), (m_low, .inl (kI, 1000, .inl y8)), (m_high, .inl (kI, 1000, .inl y9)), (m_others, .inl (kZ, 200, .inl g_others))]) [1, 2, 3, 4, 0] rfl
            have hKc := hK.sub (tys' := [(kI, .int), (kZ, .boolean)]) [0, 1] rfl
            have hDc := hD.sub (ws' := [(h0, .inr (10, [.ref m_now, .ref m_draft, .ref m_past, .int j_acts, .ref m_images, .ref m_kept, .ref m_tape, .int j_taped, .int j_at, .int j_start, .int j_token, .int j_value, .int j_fault, .int j_place, .int j_latest, .ref m_low, .ref m_high, .ref m_first, .ref m_second, .ref m_lines, .ref m_others, .int j_shiftFirst, .int j_shiftMany, .int j_shiftLow, .int j_shiftHigh])), (m_now, .inl (kI, 192, .inl g_now)), (m_low, .inl (kI, 1000, .inl y8)), (m_high, .inl (kI, 1000, .inl y9)), (m_others, .inl (kZ, 200, .inl g_others))]) [1, 2, 3, 4, 0] (by decide) rfl
            have hFc := va_free (wc := [(h0, .inr (10, [.ref m_now, .ref m_draft, .ref m_past, .int j_acts, .ref m_images, .ref m_kept, .ref m_tape, .int j_taped, .int j_at, .int j_start, .int j_token, .int j_value, .int j_fault, .int j_place, .int j_latest, .ref m_low, .ref m_high, .ref m_first, .ref m_second, .ref m_lines, .ref m_others, .int j_shiftFirst, .int j_shiftMany, .int j_shiftLow, .int j_shiftHigh])), (m_now, .inl (kI, 192, .inl g_now)), (m_low, .inl (kI, 1000, .inl y8)), (m_high, .inl (kI, 1000, .inl y9)), (m_others, .inl (kZ, 200, .inl g_others))]) hD hS hA [1, 2, 3, 4, 0] rfl
            refine va_callv (va_runV (As := [.int i_1, .int r339, .int r340, .ref m_others]) (rest := []) ⟨hx, hb, hml, hown, hts⟩ (c_X10_laysSpan l D h0 i_1 r339 r340 m_others m_now m_draft m_past j_acts m_images m_kept m_tape j_taped j_at j_start j_token j_value j_fault j_place j_latest m_low m_high m_first m_second m_lines m_others j_shiftFirst j_shiftMany j_shiftLow j_shiftHigh kI g_now y8 y9 kZ g_others H.size (by first | decide | omega) (by first | decide | omega) hg_now hy8 hy9) (cwV 4 hts g_X10_turned_X10_laysSpan rfl rfl rfl (by decide +kernel) ⟨Nat.le_of_ble_eq_true rfl, Nat.le_of_ble_eq_true rfl⟩) ⟨fun a U g mk q => by obtain ⟨q0, q1, qP, qK, qD⟩ := q; exact ⟨q0, q1, qP, va_K.moved (u := U) (U := U.calling g mk a) (Vm.Alike.refl U.vm) qK, qD⟩, va_recv hKc hPc (ci := 10) (q0 := 0) rfl rfl, fun U hU hW => ⟨rfl, by rw [hU], by rw [hU]; exact hPc, va_K.moved hW.alike hKc, hDc.weaken (fun _ _ _ _ => trivial)⟩⟩ rfl rfl hl.1 rfl (lv_room (Nat.le_of_ble_eq_true rfl)) dX10_turned_180 ⟨Nat.le_of_ble_eq_true rfl, Nat.le_of_ble_eq_true rfl⟩) hS (fun q _ h => hFc q h) hFc (fun u t H1 locs ht hvm hw hB hz1 hk1 hS => ?_)
            obtain ⟨y343, hP1, hK1, hD1⟩ := hB
            rw [ht] at hP1
            have hK1 := va_K.moved hvm.symm hK1
            obtain ⟨hP, hD⟩ := va_join (wr := [(m_lines, .inl (kZ, 200, .inl y12)), (m_first, .inl (kZ, 1000, .inl f308))]) (w1 := [(h0, .inr (10, [.ref m_now, .ref m_draft, .ref m_past, .int j_acts, .ref m_images, .ref m_kept, .ref m_tape, .int j_taped, .int j_at, .int j_start, .int j_token, .int j_value, .int j_fault, .int j_place, .int j_latest, .ref m_low, .ref m_high, .ref m_first, .ref m_second, .ref m_lines, .ref m_others, .int j_shiftFirst, .int j_shiftMany, .int j_shiftLow, .int j_shiftHigh])), (m_now, .inl (kI, 192, .inl g_now)), (m_low, .inl (kI, 1000, .inl y8)), (m_high, .inl (kI, 1000, .inl y9)), (m_others, .inl (kZ, 200, .inl y343))]) hP hD [1, 2, 3, 4, 0] [5, 6] rfl rfl (by decide) (by decide) hk1 hFc hP1 hD1
            have hK := (hK.sub (tys' := [(kI, .int), (kZ, .boolean), (kI, .int), (kI, .int), (kZ, .boolean), (kZ, .boolean)]) [0, 1, 2, 3, 4, 5] rfl).app hK1
            generalize H1 = H at hP hS ⊢
            have hP : va_P D vwCl [(m_lines, .inl (kZ, 200, .inl y12)), (m_first, .inl (kZ, 1000, .inl f308)), (h0, .inr (10, [.ref m_now, .ref m_draft, .ref m_past, .int j_acts, .ref m_images, .ref m_kept, .ref m_tape, .int j_taped, .int j_at, .int j_start, .int j_token, .int j_value, .int j_fault, .int j_place, .int j_latest, .ref m_low, .ref m_high, .ref m_first, .ref m_second, .ref m_lines, .ref m_others, .int j_shiftFirst, .int j_shiftMany, .int j_shiftLow, .int j_shiftHigh])), (m_now, .inl (kI, 192, .inl g_now)), (m_low, .inl (kI, 1000, .inl y8)), (m_high, .inl (kI, 1000, .inl y9)), (m_others, .inl (kZ, 200, .inl y343))] H := hP
            have hD : va_D A [(m_lines, .inl (kZ, 200, .inl y12)), (m_first, .inl (kZ, 1000, .inl f308)), (h0, .inr (10, [.ref m_now, .ref m_draft, .ref m_past, .int j_acts, .ref m_images, .ref m_kept, .ref m_tape, .int j_taped, .int j_at, .int j_start, .int j_token, .int j_value, .int j_fault, .int j_place, .int j_latest, .ref m_low, .ref m_high, .ref m_first, .ref m_second, .ref m_lines, .ref m_others, .int j_shiftFirst, .int j_shiftMany, .int j_shiftLow, .int j_shiftHigh])), (m_now, .inl (kI, 192, .inl g_now)), (m_low, .inl (kI, 1000, .inl y8)), (m_high, .inl (kI, 1000, .inl y9)), (m_others, .inl (kZ, 200, .inl y343))] := hD
            have hK : va_K D vwCl [(kI, .int), (kZ, .boolean), (kI, .int), (kI, .int), (kZ, .boolean), (kZ, .boolean), (kI, .int), (kZ, .boolean)] s := hK
            refine W.widen (k := 0) (n := 0) (Nat.le_of_ble_eq_true rfl) (Nat.le_of_ble_eq_true rfl) ?_
            refine lv_iload hx hb dX10_turned_183 (lv_at hl 1 rfl) ?_
            refine lv_ldc hx hb hown (hts (.constant RX10 61 (-1000000)) (List.mem_of_getElem? (i := 29) rfl)) dX10_turned_185 ?_
            refine pw_join (fun (v345 : Int32) H locs ls => va_P D vwCl [(m_lines, .inl (kZ, 200, .inl y12)), (m_first, .inl (kZ, 1000, .inl f308)), (h0, .inr (10, [.ref m_now, .ref m_draft, .ref m_past, .int j_acts, .ref m_images, .ref m_kept, .ref m_tape, .int j_taped, .int j_at, .int j_start, .int j_token, .int j_value, .int j_fault, .int j_place, .int j_latest, .ref m_low, .ref m_high, .ref m_first, .ref m_second, .ref m_lines, .ref m_others, .int j_shiftFirst, .int j_shiftMany, .int j_shiftLow, .int j_shiftHigh])), (m_now, .inl (kI, 192, .inl g_now)), (m_low, .inl (kI, 1000, .inl y8)), (m_high, .inl (kI, 1000, .inl y9)), (m_others, .inl (kZ, 200, .inl y343))] H ∧ va_D A [(m_lines, .inl (kZ, 200, .inl y12)), (m_first, .inl (kZ, 1000, .inl f308)), (h0, .inr (10, [.ref m_now, .ref m_draft, .ref m_past, .int j_acts, .ref m_images, .ref m_kept, .ref m_tape, .int j_taped, .int j_at, .int j_start, .int j_token, .int j_value, .int j_fault, .int j_place, .int j_latest, .ref m_low, .ref m_high, .ref m_first, .ref m_second, .ref m_lines, .ref m_others, .int j_shiftFirst, .int j_shiftMany, .int j_shiftLow, .int j_shiftHigh])), (m_now, .inl (kI, 192, .inl g_now)), (m_low, .inl (kI, 1000, .inl y8)), (m_high, .inl (kI, 1000, .inl y9)), (m_others, .inl (kZ, 200, .inl y343))] ∧ va_S A s.heap H locs ∧ lv_has ls 8 [(0, .ref h0), (1, .int i_0), (2, .int i_1), (3, .int i_2), (4, .int r339), (5, .int r340)]) 0 0 (fun (v345 : Int32) ls => F0 m 195 ls [.int v345]) (fun v345 H locs ls hI => ?_) (fun hJ346 => ?_)
            ·
              obtain ⟨hP, hD, hS, hl⟩ := hI
              have hP : va_P D vwCl [(m_lines, .inl (kZ, 200, .inl y12)), (m_first, .inl (kZ, 1000, .inl f308)), (h0, .inr (10, [.ref m_now, .ref m_draft, .ref m_past, .int j_acts, .ref m_images, .ref m_kept, .ref m_tape, .int j_taped, .int j_at, .int j_start, .int j_token, .int j_value, .int j_fault, .int j_place, .int j_latest, .ref m_low, .ref m_high, .ref m_first, .ref m_second, .ref m_lines, .ref m_others, .int j_shiftFirst, .int j_shiftMany, .int j_shiftLow, .int j_shiftHigh])), (m_now, .inl (kI, 192, .inl g_now)), (m_low, .inl (kI, 1000, .inl y8)), (m_high, .inl (kI, 1000, .inl y9)), (m_others, .inl (kZ, 200, .inl y343))] H := hP
              have hD : va_D A [(m_lines, .inl (kZ, 200, .inl y12)), (m_first, .inl (kZ, 1000, .inl f308)), (h0, .inr (10, [.ref m_now, .ref m_draft, .ref m_past, .int j_acts, .ref m_images, .ref m_kept, .ref m_tape, .int j_taped, .int j_at, .int j_start, .int j_token, .int j_value, .int j_fault, .int j_place, .int j_latest, .ref m_low, .ref m_high, .ref m_first, .ref m_second, .ref m_lines, .ref m_others, .int j_shiftFirst, .int j_shiftMany, .int j_shiftLow, .int j_shiftHigh])), (m_now, .inl (kI, 192, .inl g_now)), (m_low, .inl (kI, 1000, .inl y8)), (m_high, .inl (kI, 1000, .inl y9)), (m_others, .inl (kZ, 200, .inl y343))] := hD
              have hK : va_K D vwCl [(kI, .int), (kZ, .boolean), (kI, .int), (kI, .int), (kZ, .boolean), (kZ, .boolean), (kI, .int), (kZ, .boolean)] s := hK
              have hl : lv_has ls 8 [(0, .ref h0), (1, .int i_0), (2, .int i_1), (3, .int i_2), (4, .int r339), (5, .int r340)] := hl
              refine W.eq (g2 := F0 m 195 ls [.int v345]) rfl ?_
              refine lv_istore (lv' := [(6, .int v345), (0, .ref h0), (1, .int i_0), (2, .int i_1), (3, .int i_2), (4, .int r339), (5, .int r340)]) hx hb dX10_turned_195 hl (by decide) rfl (fun ls hl => ?_)
              refine lv_iconst (v := 0) hx hb dX10_turned_197 (by decide) ?_
              refine lv_istore (lv' := [(7, .int 0), (6, .int v345), (0, .ref h0), (1, .int i_0), (2, .int i_1), (3, .int i_2), (4, .int r339), (5, .int r340)]) hx hb dX10_turned_198 hl (by decide) rfl (fun ls hl => ?_)
              have hl9 : lv_has ls 8 [(0, .ref h0), (1, .int i_0), (2, .int i_1), (3, .int i_2), (4, .int r339), (5, .int r340), (6, .int v345), (7, .int 0)] := lv_sub hl [2, 3, 4, 5, 6, 7, 1, 0] rfl
              refine pw_loop (fun (zz : Int32 × Int32) H locs ls => match zz with | (v399, v400) => va_P D vwCl [(m_lines, .inl (kZ, 200, .inl y12)), (m_first, .inl (kZ, 1000, .inl f308)), (h0, .inr (10, [.ref m_now, .ref m_draft, .ref m_past, .int j_acts, .ref m_images, .ref m_kept, .ref m_tape, .int j_taped, .int j_at, .int j_start, .int j_token, .int j_value, .int j_fault, .int j_place, .int j_latest, .ref m_low, .ref m_high, .ref m_first, .ref m_second, .ref m_lines, .ref m_others, .int j_shiftFirst, .int j_shiftMany, .int j_shiftLow, .int j_shiftHigh])), (m_now, .inl (kI, 192, .inl g_now)), (m_low, .inl (kI, 1000, .inl y8)), (m_high, .inl (kI, 1000, .inl y9)), (m_others, .inl (kZ, 200, .inl y343))] H ∧ va_D A [(m_lines, .inl (kZ, 200, .inl y12)), (m_first, .inl (kZ, 1000, .inl f308)), (h0, .inr (10, [.ref m_now, .ref m_draft, .ref m_past, .int j_acts, .ref m_images, .ref m_kept, .ref m_tape, .int j_taped, .int j_at, .int j_start, .int j_token, .int j_value, .int j_fault, .int j_place, .int j_latest, .ref m_low, .ref m_high, .ref m_first, .ref m_second, .ref m_lines, .ref m_others, .int j_shiftFirst, .int j_shiftMany, .int j_shiftLow, .int j_shiftHigh])), (m_now, .inl (kI, 192, .inl g_now)), (m_low, .inl (kI, 1000, .inl y8)), (m_high, .inl (kI, 1000, .inl y9)), (m_others, .inl (kZ, 200, .inl y343))] ∧ va_S A s.heap H locs ∧ lv_has ls 8 [(0, .ref h0), (1, .int i_0), (2, .int i_1), (3, .int i_2), (4, .int r339), (5, .int r340), (6, .int v399), (7, .int v400)] ∧ 0 ≤ v400.toInt) (fun (zz : Int32 × Int32)  => match zz with | (v399, v400) => (2147483648 - v400.toInt).toNat) 0 0 (fun (zz : Int32 × Int32) ls => match zz with | (v399, v400) => F0 m 200 ls []) (fun zz H locs ls ih401 hI => ?_) (v345, 0) _ _ _ ⟨hP, hD, hS, hl9, (by decide)⟩
              obtain ⟨v399, v400⟩ := zz
              obtain ⟨hP, hD, hS, hl, bv400⟩ := hI
              have bv400 : 0 ≤ v400.toInt := bv400
              have hP : va_P D vwCl [(m_lines, .inl (kZ, 200, .inl y12)), (m_first, .inl (kZ, 1000, .inl f308)), (h0, .inr (10, [.ref m_now, .ref m_draft, .ref m_past, .int j_acts, .ref m_images, .ref m_kept, .ref m_tape, .int j_taped, .int j_at, .int j_start, .int j_token, .int j_value, .int j_fault, .int j_place, .int j_latest, .ref m_low, .ref m_high, .ref m_first, .ref m_second, .ref m_lines, .ref m_others, .int j_shiftFirst, .int j_shiftMany, .int j_shiftLow, .int j_shiftHigh])), (m_now, .inl (kI, 192, .inl g_now)), (m_low, .inl (kI, 1000, .inl y8)), (m_high, .inl (kI, 1000, .inl y9)), (m_others, .inl (kZ, 200, .inl y343))] H := hP
              have hD : va_D A [(m_lines, .inl (kZ, 200, .inl y12)), (m_first, .inl (kZ, 1000, .inl f308)), (h0, .inr (10, [.ref m_now, .ref m_draft, .ref m_past, .int j_acts, .ref m_images, .ref m_kept, .ref m_tape, .int j_taped, .int j_at, .int j_start, .int j_token, .int j_value, .int j_fault, .int j_place, .int j_latest, .ref m_low, .ref m_high, .ref m_first, .ref m_second, .ref m_lines, .ref m_others, .int j_shiftFirst, .int j_shiftMany, .int j_shiftLow, .int j_shiftHigh])), (m_now, .inl (kI, 192, .inl g_now)), (m_low, .inl (kI, 1000, .inl y8)), (m_high, .inl (kI, 1000, .inl y9)), (m_others, .inl (kZ, 200, .inl y343))] := hD
              have hK : va_K D vwCl [(kI, .int), (kZ, .boolean), (kI, .int), (kI, .int), (kZ, .boolean), (kZ, .boolean), (kI, .int), (kZ, .boolean)] s := hK
              have hl : lv_has ls 8 [(0, .ref h0), (1, .int i_0), (2, .int i_1), (3, .int i_2), (4, .int r339), (5, .int r340), (6, .int v399), (7, .int v400)] := hl
              refine W.eq (g2 := F0 m 200 ls []) rfl ?_
              refine lv_iload hx hb dX10_turned_200 (lv_at hl 7 rfl) ?_
              refine lv_aload_n hx hb dX10_turned_202 rfl (lv_at hl 0 rfl) ?_
              refine va_get (D := D) (ci := 10) (v := .ref m_now) (C := RX10) (T := TX10) (N := 25) hx hb hts (fun _ h => List.mem_cons_of_mem _ (List.mem_append_right _ h)) hown hK hP 2 rfl rfl 0 (by decide) (hts (.fieldLink RX10 7 "LineCitesModel" "now" "[I") (List.mem_of_getElem? (i := 14) rfl)) (fun _ h9 => h9) rfl dX10_turned_203 ?_
              refine lv_iconst (v := 0) hx hb dX10_turned_206 (by decide) ?_
              refine va_iald hx hb hK hP 3 0 rfl rfl (vp_in_iff.mpr (by decide)) dX10_turned_207 ?_
              refine lv_topi (fun x402 ex402 => ?_)
              have nx402 : 0 ≤ x402.toInt ∧ x402.toInt ≤ 200 := gV_0 hg_now ex402
              have zx402 := gV_00 ex402
              refine lv_icmp_ge (tgt := 246) hx hb dX10_turned_208 (by decide) (fun c415 => ?_) (fun c415 => ?_)
              · have nc415 : x402.toInt ≤ v400.toInt := pw_le c415 rfl rfl
                have mc415v400 := pw_max v400
                have mc415x402 := pw_max x402
                refine lv_iload hx hb dX10_turned_246 (lv_at hl 6 rfl) ?_
                refine lv_if_eq (tgt := 255) hx hb dX10_turned_248 (by decide) (fun c416 => ?_) (fun c416 => ?_)
                · have nc416 : v399.toInt = 0 := pw_eq c416 rfl (by decide)
                  refine lv_iconst (v := 0) hx hb dX10_turned_255 (by decide) ?_
                  have hP9 := hP.sub (ws' := [(h0, .inr (10, [.ref m_now, .ref m_draft, .ref m_past, .int j_acts, .ref m_images, .ref m_kept, .ref m_tape, .int j_taped, .int j_at, .int j_start, .int j_token, .int j_value, .int j_fault, .int j_place, .int j_latest, .ref m_low, .ref m_high, .ref m_first, .ref m_second, .ref m_lines, .ref m_others, .int j_shiftFirst, .int j_shiftMany, .int j_shiftLow, .int j_shiftHigh])), (m_now, .inl (kI, 192, .inl g_now)), (m_low, .inl (kI, 1000, .inl y8)), (m_high, .inl (kI, 1000, .inl y9)), (m_first, .inl (kZ, 1000, .inl f308)), (m_lines, .inl (kZ, 200, .inl y12)), (m_others, .inl (kZ, 200, .inl y343))]) [2, 3, 4, 5, 1, 0, 6] rfl
                  have hD9 := hD.sub (ws' := [(h0, .inr (10, [.ref m_now, .ref m_draft, .ref m_past, .int j_acts, .ref m_images, .ref m_kept, .ref m_tape, .int j_taped, .int j_at, .int j_start, .int j_token, .int j_value, .int j_fault, .int j_place, .int j_latest, .ref m_low, .ref m_high, .ref m_first, .ref m_second, .ref m_lines, .ref m_others, .int j_shiftFirst, .int j_shiftMany, .int j_shiftLow, .int j_shiftHigh])), (m_now, .inl (kI, 192, .inl g_now)), (m_low, .inl (kI, 1000, .inl y8)), (m_high, .inl (kI, 1000, .inl y9)), (m_first, .inl (kZ, 1000, .inl f308)), (m_lines, .inl (kZ, 200, .inl y12)), (m_others, .inl (kZ, 200, .inl y343))]) [2, 3, 4, 5, 1, 0, 6] (by decide) rfl
                  have hK9 := hK.sub (tys' := [(kI, .int), (kZ, .boolean)]) [0, 1] rfl
                  refine W.widen (k := 0) (n := 0) (Nat.le_of_ble_eq_true rfl) (Nat.le_of_ble_eq_true rfl) ?_
                  exact W.iret (v := 0) hx hb hr (fun t ht hW => ⟨⟨0, (), rfl, trivial, y8, y9, f308, y12, y343, by rw [ht]; exact hP9, va_K.moved hW.alike hK9, hD9, hy8, hy9⟩, hS.F ht⟩) hS.2.2 dX10_turned_256
                · have nc416 : v399.toInt ≠ 0 := pw_ne c416 rfl (by decide)
                  refine lv_iconst (v := 1) hx hb dX10_turned_251 (by decide) ?_
                  refine lv_goto (tgt := 256) hx hb dX10_turned_252 (by decide) ?_
                  have hP9 := hP.sub (ws' := [(h0, .inr (10, [.ref m_now, .ref m_draft, .ref m_past, .int j_acts, .ref m_images, .ref m_kept, .ref m_tape, .int j_taped, .int j_at, .int j_start, .int j_token, .int j_value, .int j_fault, .int j_place, .int j_latest, .ref m_low, .ref m_high, .ref m_first, .ref m_second, .ref m_lines, .ref m_others, .int j_shiftFirst, .int j_shiftMany, .int j_shiftLow, .int j_shiftHigh])), (m_now, .inl (kI, 192, .inl g_now)), (m_low, .inl (kI, 1000, .inl y8)), (m_high, .inl (kI, 1000, .inl y9)), (m_first, .inl (kZ, 1000, .inl f308)), (m_lines, .inl (kZ, 200, .inl y12)), (m_others, .inl (kZ, 200, .inl y343))]) [2, 3, 4, 5, 1, 0, 6] rfl
                  have hD9 := hD.sub (ws' := [(h0, .inr (10, [.ref m_now, .ref m_draft, .ref m_past, .int j_acts, .ref m_images, .ref m_kept, .ref m_tape, .int j_taped, .int j_at, .int j_start, .int j_token, .int j_value, .int j_fault, .int j_place, .int j_latest, .ref m_low, .ref m_high, .ref m_first, .ref m_second, .ref m_lines, .ref m_others, .int j_shiftFirst, .int j_shiftMany, .int j_shiftLow, .int j_shiftHigh])), (m_now, .inl (kI, 192, .inl g_now)), (m_low, .inl (kI, 1000, .inl y8)), (m_high, .inl (kI, 1000, .inl y9)), (m_first, .inl (kZ, 1000, .inl f308)), (m_lines, .inl (kZ, 200, .inl y12)), (m_others, .inl (kZ, 200, .inl y343))]) [2, 3, 4, 5, 1, 0, 6] (by decide) rfl
                  have hK9 := hK.sub (tys' := [(kI, .int), (kZ, .boolean)]) [0, 1] rfl
                  refine W.widen (k := 0) (n := 0) (Nat.le_of_ble_eq_true rfl) (Nat.le_of_ble_eq_true rfl) ?_
                  exact W.iret (v := 1) hx hb hr (fun t ht hW => ⟨⟨1, (), rfl, trivial, y8, y9, f308, y12, y343, by rw [ht]; exact hP9, va_K.moved hW.alike hK9, hD9, hy8, hy9⟩, hS.F ht⟩) hS.2.2 dX10_turned_256
              · have nc415 : v400.toInt < x402.toInt := pw_nle c415 rfl rfl
                have mc415v400 := pw_max v400
                have mc415x402 := pw_max x402
                refine lv_iload hx hb dX10_turned_211 (lv_at hl 6 rfl) ?_
                refine pw_join (fun (v421 : Int32) H locs ls => va_P D vwCl [(m_lines, .inl (kZ, 200, .inl y12)), (m_first, .inl (kZ, 1000, .inl f308)), (h0, .inr (10, [.ref m_now, .ref m_draft, .ref m_past, .int j_acts, .ref m_images, .ref m_kept, .ref m_tape, .int j_taped, .int j_at, .int j_start, .int j_token, .int j_value, .int j_fault, .int j_place, .int j_latest, .ref m_low, .ref m_high, .ref m_first, .ref m_second, .ref m_lines, .ref m_others, .int j_shiftFirst, .int j_shiftMany, .int j_shiftLow, .int j_shiftHigh])), (m_now, .inl (kI, 192, .inl g_now)), (m_low, .inl (kI, 1000, .inl y8)), (m_high, .inl (kI, 1000, .inl y9)), (m_others, .inl (kZ, 200, .inl y343))] H ∧ va_D A [(m_lines, .inl (kZ, 200, .inl y12)), (m_first, .inl (kZ, 1000, .inl f308)), (h0, .inr (10, [.ref m_now, .ref m_draft, .ref m_past, .int j_acts, .ref m_images, .ref m_kept, .ref m_tape, .int j_taped, .int j_at, .int j_start, .int j_token, .int j_value, .int j_fault, .int j_place, .int j_latest, .ref m_low, .ref m_high, .ref m_first, .ref m_second, .ref m_lines, .ref m_others, .int j_shiftFirst, .int j_shiftMany, .int j_shiftLow, .int j_shiftHigh])), (m_now, .inl (kI, 192, .inl g_now)), (m_low, .inl (kI, 1000, .inl y8)), (m_high, .inl (kI, 1000, .inl y9)), (m_others, .inl (kZ, 200, .inl y343))] ∧ va_S A s.heap H locs ∧ lv_has ls 8 [(0, .ref h0), (1, .int i_0), (2, .int i_1), (3, .int i_2), (4, .int r339), (5, .int r340), (6, .int v399), (7, .int v400)]) 0 0 (fun (v421 : Int32) ls => F0 m 238 ls [.int v421]) (fun v421 H locs ls hI => ?_) (fun hJ422 => ?_)
                ·
                  obtain ⟨hP, hD, hS, hl⟩ := hI
                  have hP : va_P D vwCl [(m_lines, .inl (kZ, 200, .inl y12)), (m_first, .inl (kZ, 1000, .inl f308)), (h0, .inr (10, [.ref m_now, .ref m_draft, .ref m_past, .int j_acts, .ref m_images, .ref m_kept, .ref m_tape, .int j_taped, .int j_at, .int j_start, .int j_token, .int j_value, .int j_fault, .int j_place, .int j_latest, .ref m_low, .ref m_high, .ref m_first, .ref m_second, .ref m_lines, .ref m_others, .int j_shiftFirst, .int j_shiftMany, .int j_shiftLow, .int j_shiftHigh])), (m_now, .inl (kI, 192, .inl g_now)), (m_low, .inl (kI, 1000, .inl y8)), (m_high, .inl (kI, 1000, .inl y9)), (m_others, .inl (kZ, 200, .inl y343))] H := hP
                  have hD : va_D A [(m_lines, .inl (kZ, 200, .inl y12)), (m_first, .inl (kZ, 1000, .inl f308)), (h0, .inr (10, [.ref m_now, .ref m_draft, .ref m_past, .int j_acts, .ref m_images, .ref m_kept, .ref m_tape, .int j_taped, .int j_at, .int j_start, .int j_token, .int j_value, .int j_fault, .int j_place, .int j_latest, .ref m_low, .ref m_high, .ref m_first, .ref m_second, .ref m_lines, .ref m_others, .int j_shiftFirst, .int j_shiftMany, .int j_shiftLow, .int j_shiftHigh])), (m_now, .inl (kI, 192, .inl g_now)), (m_low, .inl (kI, 1000, .inl y8)), (m_high, .inl (kI, 1000, .inl y9)), (m_others, .inl (kZ, 200, .inl y343))] := hD
                  have hK : va_K D vwCl [(kI, .int), (kZ, .boolean), (kI, .int), (kI, .int), (kZ, .boolean), (kZ, .boolean), (kI, .int), (kZ, .boolean)] s := hK
                  have hl : lv_has ls 8 [(0, .ref h0), (1, .int i_0), (2, .int i_1), (3, .int i_2), (4, .int r339), (5, .int r340), (6, .int v399), (7, .int v400)] := hl
                  refine W.eq (g2 := F0 m 238 ls [.int v421]) rfl ?_
                  refine lv_istore (lv' := [(6, .int v421), (0, .ref h0), (1, .int i_0), (2, .int i_1), (3, .int i_2), (4, .int r339), (5, .int r340), (7, .int v400)]) hx hb dX10_turned_238 hl (by decide) rfl (fun ls hl => ?_)
                  obtain ⟨x423, ex423⟩ : ∃ y : Int32, y = v400 + 1 := ⟨_, rfl⟩
                  have tx423 : x423.toInt = v400.toInt + 1 := pw_addX ex423 rfl (by decide) (by omega) (by omega)
                  refine lv_iinc (v := x423) (lv' := [(7, .int x423), (6, .int v421), (0, .ref h0), (1, .int i_0), (2, .int i_1), (3, .int i_2), (4, .int r339), (5, .int r340)]) hx hb dX10_turned_240 hl (k := 7) rfl (by rw [ex423]; rfl) (by decide) rfl (fun ls hl => ?_)
                  refine lv_goto (tgt := 200) hx hb dX10_turned_243 (by decide) ?_
                  have hP9 : va_P D vwCl [(m_lines, .inl (kZ, 200, .inl y12)), (m_first, .inl (kZ, 1000, .inl f308)), (h0, .inr (10, [.ref m_now, .ref m_draft, .ref m_past, .int j_acts, .ref m_images, .ref m_kept, .ref m_tape, .int j_taped, .int j_at, .int j_start, .int j_token, .int j_value, .int j_fault, .int j_place, .int j_latest, .ref m_low, .ref m_high, .ref m_first, .ref m_second, .ref m_lines, .ref m_others, .int j_shiftFirst, .int j_shiftMany, .int j_shiftLow, .int j_shiftHigh])), (m_now, .inl (kI, 192, .inl g_now)), (m_low, .inl (kI, 1000, .inl y8)), (m_high, .inl (kI, 1000, .inl y9)), (m_others, .inl (kZ, 200, .inl y343))] H := hP.sub [0, 1, 2, 3, 4, 5, 6] rfl
                  have hD9 : va_D A [(m_lines, .inl (kZ, 200, .inl y12)), (m_first, .inl (kZ, 1000, .inl f308)), (h0, .inr (10, [.ref m_now, .ref m_draft, .ref m_past, .int j_acts, .ref m_images, .ref m_kept, .ref m_tape, .int j_taped, .int j_at, .int j_start, .int j_token, .int j_value, .int j_fault, .int j_place, .int j_latest, .ref m_low, .ref m_high, .ref m_first, .ref m_second, .ref m_lines, .ref m_others, .int j_shiftFirst, .int j_shiftMany, .int j_shiftLow, .int j_shiftHigh])), (m_now, .inl (kI, 192, .inl g_now)), (m_low, .inl (kI, 1000, .inl y8)), (m_high, .inl (kI, 1000, .inl y9)), (m_others, .inl (kZ, 200, .inl y343))] := hD.sub [0, 1, 2, 3, 4, 5, 6] (by decide) rfl
                  have hl9 : lv_has ls 8 [(0, .ref h0), (1, .int i_0), (2, .int i_1), (3, .int i_2), (4, .int r339), (5, .int r340), (6, .int v421), (7, .int x423)] := lv_sub hl [2, 3, 4, 5, 6, 7, 1, 0] rfl
                  refine W.widen (k := 0) (n := 0) (Nat.le_of_ble_eq_true rfl) (Nat.le_of_ble_eq_true rfl) ?_
                  exact ih401 (v421, x423) _ _ _ (pw_up ex423 (by omega)) ⟨hP9, hD9, hS, hl9, (pw_upge ex423 (by omega) (by omega))⟩
                ·
                  refine lv_if_eq (tgt := 237) hx hb dX10_turned_213 (by decide) (fun c424 => ?_) (fun c424 => ?_)
                  · have nc424 : v399.toInt = 0 := pw_eq c424 rfl (by decide)
                    refine lv_iconst (v := 0) hx hb dX10_turned_237 (by decide) ?_
                    have hP9 : va_P D vwCl [(m_lines, .inl (kZ, 200, .inl y12)), (m_first, .inl (kZ, 1000, .inl f308)), (h0, .inr (10, [.ref m_now, .ref m_draft, .ref m_past, .int j_acts, .ref m_images, .ref m_kept, .ref m_tape, .int j_taped, .int j_at, .int j_start, .int j_token, .int j_value, .int j_fault, .int j_place, .int j_latest, .ref m_low, .ref m_high, .ref m_first, .ref m_second, .ref m_lines, .ref m_others, .int j_shiftFirst, .int j_shiftMany, .int j_shiftLow, .int j_shiftHigh])), (m_now, .inl (kI, 192, .inl g_now)), (m_low, .inl (kI, 1000, .inl y8)), (m_high, .inl (kI, 1000, .inl y9)), (m_others, .inl (kZ, 200, .inl y343))] H := hP.sub [0, 1, 2, 3, 4, 5, 6] rfl
                    have hD9 : va_D A [(m_lines, .inl (kZ, 200, .inl y12)), (m_first, .inl (kZ, 1000, .inl f308)), (h0, .inr (10, [.ref m_now, .ref m_draft, .ref m_past, .int j_acts, .ref m_images, .ref m_kept, .ref m_tape, .int j_taped, .int j_at, .int j_start, .int j_token, .int j_value, .int j_fault, .int j_place, .int j_latest, .ref m_low, .ref m_high, .ref m_first, .ref m_second, .ref m_lines, .ref m_others, .int j_shiftFirst, .int j_shiftMany, .int j_shiftLow, .int j_shiftHigh])), (m_now, .inl (kI, 192, .inl g_now)), (m_low, .inl (kI, 1000, .inl y8)), (m_high, .inl (kI, 1000, .inl y9)), (m_others, .inl (kZ, 200, .inl y343))] := hD.sub [0, 1, 2, 3, 4, 5, 6] (by decide) rfl
                    have hl9 : lv_has ls 8 [(0, .ref h0), (1, .int i_0), (2, .int i_1), (3, .int i_2), (4, .int r339), (5, .int r340), (6, .int v399), (7, .int v400)] := lv_sub hl [0, 1, 2, 3, 4, 5, 6, 7] rfl
                    refine W.widen (k := 0) (n := 0) (Nat.le_of_ble_eq_true rfl) (Nat.le_of_ble_eq_true rfl) ?_
                    exact hJ422 0 _ _ _ ⟨hP9, hD9, hS, hl9⟩
                  · have nc424 : v399.toInt ≠ 0 := pw_ne c424 rfl (by decide)
                    refine lv_aload_n hx hb dX10_turned_216 rfl (lv_at hl 0 rfl) ?_
                    refine va_get (D := D) (ci := 10) (v := .ref m_lines) (C := RX10) (T := TX10) (N := 25) hx hb hts (fun _ h => List.mem_cons_of_mem _ (List.mem_append_right _ h)) hown hK hP 2 rfl rfl 19 (by decide) (hts (.fieldLink RX10 41 "LineCitesModel" "lines" "[Z") (List.mem_of_getElem? (i := 38) rfl)) (fun _ h9 => h9) rfl dX10_turned_217 ?_
                    refine lv_iload hx hb dX10_turned_220 (lv_at hl 7 rfl) ?_
                    refine va_zald hx hb hK hP 0 1 rfl rfl (vp_in_iff.mpr ⟨by omega, by omega⟩) dX10_turned_222 ?_
                    refine lv_topi (fun x425 ex425 => ?_)
                    refine lv_aload_n hx hb dX10_turned_223 rfl (lv_at hl 0 rfl) ?_
                    refine va_get (D := D) (ci := 10) (v := .ref m_others) (C := RX10) (T := TX10) (N := 25) hx hb hts (fun _ h => List.mem_cons_of_mem _ (List.mem_append_right _ h)) hown hK hP 2 rfl rfl 20 (by decide) (hts (.fieldLink RX10 44 "LineCitesModel" "others" "[Z") (List.mem_of_getElem? (i := 65) rfl)) (fun _ h9 => h9) rfl dX10_turned_224 ?_
                    refine lv_iload hx hb dX10_turned_227 (lv_at hl 7 rfl) ?_
                    refine va_zald hx hb hK hP 6 1 rfl rfl (vp_in_iff.mpr ⟨by omega, by omega⟩) dX10_turned_229 ?_
                    refine lv_topi (fun x426 ex426 => ?_)
                    refine lv_icmp_ne (tgt := 237) hx hb dX10_turned_230 (by decide) (fun c427 => ?_) (fun c427 => ?_)
                    · have nc427 : x425.toInt ≠ x426.toInt := pw_ne c427 rfl rfl
                      have mc427x425 := pw_max x425
                      have mc427x426 := pw_max x426
                      refine lv_iconst (v := 0) hx hb dX10_turned_237 (by decide) ?_
                      have hP9 : va_P D vwCl [(m_lines, .inl (kZ, 200, .inl y12)), (m_first, .inl (kZ, 1000, .inl f308)), (h0, .inr (10, [.ref m_now, .ref m_draft, .ref m_past, .int j_acts, .ref m_images, .ref m_kept, .ref m_tape, .int j_taped, .int j_at, .int j_start, .int j_token, .int j_value, .int j_fault, .int j_place, .int j_latest, .ref m_low, .ref m_high, .ref m_first, .ref m_second, .ref m_lines, .ref m_others, .int j_shiftFirst, .int j_shiftMany, .int j_shiftLow, .int j_shiftHigh])), (m_now, .inl (kI, 192, .inl g_now)), (m_low, .inl (kI, 1000, .inl y8)), (m_high, .inl (kI, 1000, .inl y9)), (m_others, .inl (kZ, 200, .inl y343))] H := hP.sub [0, 1, 2, 3, 4, 5, 6] rfl
                      have hD9 : va_D A [(m_lines, .inl (kZ, 200, .inl y12)), (m_first, .inl (kZ, 1000, .inl f308)), (h0, .inr (10, [.ref m_now, .ref m_draft, .ref m_past, .int j_acts, .ref m_images, .ref m_kept, .ref m_tape, .int j_taped, .int j_at, .int j_start, .int j_token, .int j_value, .int j_fault, .int j_place, .int j_latest, .ref m_low, .ref m_high, .ref m_first, .ref m_second, .ref m_lines, .ref m_others, .int j_shiftFirst, .int j_shiftMany, .int j_shiftLow, .int j_shiftHigh])), (m_now, .inl (kI, 192, .inl g_now)), (m_low, .inl (kI, 1000, .inl y8)), (m_high, .inl (kI, 1000, .inl y9)), (m_others, .inl (kZ, 200, .inl y343))] := hD.sub [0, 1, 2, 3, 4, 5, 6] (by decide) rfl
                      have hl9 : lv_has ls 8 [(0, .ref h0), (1, .int i_0), (2, .int i_1), (3, .int i_2), (4, .int r339), (5, .int r340), (6, .int v399), (7, .int v400)] := lv_sub hl [0, 1, 2, 3, 4, 5, 6, 7] rfl
                      refine W.widen (k := 0) (n := 0) (Nat.le_of_ble_eq_true rfl) (Nat.le_of_ble_eq_true rfl) ?_
                      exact hJ422 0 _ _ _ ⟨hP9, hD9, hS, hl9⟩
                    · have nc427 : x425.toInt = x426.toInt := pw_eq c427 rfl rfl
                      have mc427x425 := pw_max x425
                      have mc427x426 := pw_max x426
                      refine lv_iconst (v := 1) hx hb dX10_turned_233 (by decide) ?_
                      refine lv_goto (tgt := 238) hx hb dX10_turned_234 (by decide) ?_
                      have hP9 : va_P D vwCl [(m_lines, .inl (kZ, 200, .inl y12)), (m_first, .inl (kZ, 1000, .inl f308)), (h0, .inr (10, [.ref m_now, .ref m_draft, .ref m_past, .int j_acts, .ref m_images, .ref m_kept, .ref m_tape, .int j_taped, .int j_at, .int j_start, .int j_token, .int j_value, .int j_fault, .int j_place, .int j_latest, .ref m_low, .ref m_high, .ref m_first, .ref m_second, .ref m_lines, .ref m_others, .int j_shiftFirst, .int j_shiftMany, .int j_shiftLow, .int j_shiftHigh])), (m_now, .inl (kI, 192, .inl g_now)), (m_low, .inl (kI, 1000, .inl y8)), (m_high, .inl (kI, 1000, .inl y9)), (m_others, .inl (kZ, 200, .inl y343))] H := hP.sub [0, 1, 2, 3, 4, 5, 6] rfl
                      have hD9 : va_D A [(m_lines, .inl (kZ, 200, .inl y12)), (m_first, .inl (kZ, 1000, .inl f308)), (h0, .inr (10, [.ref m_now, .ref m_draft, .ref m_past, .int j_acts, .ref m_images, .ref m_kept, .ref m_tape, .int j_taped, .int j_at, .int j_start, .int j_token, .int j_value, .int j_fault, .int j_place, .int j_latest, .ref m_low, .ref m_high, .ref m_first, .ref m_second, .ref m_lines, .ref m_others, .int j_shiftFirst, .int j_shiftMany, .int j_shiftLow, .int j_shiftHigh])), (m_now, .inl (kI, 192, .inl g_now)), (m_low, .inl (kI, 1000, .inl y8)), (m_high, .inl (kI, 1000, .inl y9)), (m_others, .inl (kZ, 200, .inl y343))] := hD.sub [0, 1, 2, 3, 4, 5, 6] (by decide) rfl
                      have hl9 : lv_has ls 8 [(0, .ref h0), (1, .int i_0), (2, .int i_1), (3, .int i_2), (4, .int r339), (5, .int r340), (6, .int v399), (7, .int v400)] := lv_sub hl [0, 1, 2, 3, 4, 5, 6, 7] rfl
                      refine W.widen (k := 0) (n := 0) (Nat.le_of_ble_eq_true rfl) (Nat.le_of_ble_eq_true rfl) ?_
                      exact hJ422 1 _ _ _ ⟨hP9, hD9, hS, hl9⟩
            ·
              refine lv_icmp_eq (tgt := 194) hx hb dX10_turned_187 (by decide) (fun c428 => ?_) (fun c428 => ?_)
              · have nc428 : r339.toInt = (-1000000) := pw_eq c428 rfl (by decide)
                refine lv_iconst (v := 0) hx hb dX10_turned_194 (by decide) ?_
                have hP9 : va_P D vwCl [(m_lines, .inl (kZ, 200, .inl y12)), (m_first, .inl (kZ, 1000, .inl f308)), (h0, .inr (10, [.ref m_now, .ref m_draft, .ref m_past, .int j_acts, .ref m_images, .ref m_kept, .ref m_tape, .int j_taped, .int j_at, .int j_start, .int j_token, .int j_value, .int j_fault, .int j_place, .int j_latest, .ref m_low, .ref m_high, .ref m_first, .ref m_second, .ref m_lines, .ref m_others, .int j_shiftFirst, .int j_shiftMany, .int j_shiftLow, .int j_shiftHigh])), (m_now, .inl (kI, 192, .inl g_now)), (m_low, .inl (kI, 1000, .inl y8)), (m_high, .inl (kI, 1000, .inl y9)), (m_others, .inl (kZ, 200, .inl y343))] H := hP.sub [0, 1, 2, 3, 4, 5, 6] rfl
                have hD9 : va_D A [(m_lines, .inl (kZ, 200, .inl y12)), (m_first, .inl (kZ, 1000, .inl f308)), (h0, .inr (10, [.ref m_now, .ref m_draft, .ref m_past, .int j_acts, .ref m_images, .ref m_kept, .ref m_tape, .int j_taped, .int j_at, .int j_start, .int j_token, .int j_value, .int j_fault, .int j_place, .int j_latest, .ref m_low, .ref m_high, .ref m_first, .ref m_second, .ref m_lines, .ref m_others, .int j_shiftFirst, .int j_shiftMany, .int j_shiftLow, .int j_shiftHigh])), (m_now, .inl (kI, 192, .inl g_now)), (m_low, .inl (kI, 1000, .inl y8)), (m_high, .inl (kI, 1000, .inl y9)), (m_others, .inl (kZ, 200, .inl y343))] := hD.sub [0, 1, 2, 3, 4, 5, 6] (by decide) rfl
                have hl9 : lv_has ls 8 [(0, .ref h0), (1, .int i_0), (2, .int i_1), (3, .int i_2), (4, .int r339), (5, .int r340)] := lv_sub hl [2, 3, 4, 5, 1, 0] rfl
                refine W.widen (k := 0) (n := 0) (Nat.le_of_ble_eq_true rfl) (Nat.le_of_ble_eq_true rfl) ?_
                exact hJ346 0 _ _ _ ⟨hP9, hD9, hS, hl9⟩
              · have nc428 : r339.toInt ≠ (-1000000) := pw_ne c428 rfl (by decide)
                refine lv_iconst (v := 1) hx hb dX10_turned_190 (by decide) ?_
                refine lv_goto (tgt := 195) hx hb dX10_turned_191 (by decide) ?_
                have hP9 : va_P D vwCl [(m_lines, .inl (kZ, 200, .inl y12)), (m_first, .inl (kZ, 1000, .inl f308)), (h0, .inr (10, [.ref m_now, .ref m_draft, .ref m_past, .int j_acts, .ref m_images, .ref m_kept, .ref m_tape, .int j_taped, .int j_at, .int j_start, .int j_token, .int j_value, .int j_fault, .int j_place, .int j_latest, .ref m_low, .ref m_high, .ref m_first, .ref m_second, .ref m_lines, .ref m_others, .int j_shiftFirst, .int j_shiftMany, .int j_shiftLow, .int j_shiftHigh])), (m_now, .inl (kI, 192, .inl g_now)), (m_low, .inl (kI, 1000, .inl y8)), (m_high, .inl (kI, 1000, .inl y9)), (m_others, .inl (kZ, 200, .inl y343))] H := hP.sub [0, 1, 2, 3, 4, 5, 6] rfl
                have hD9 : va_D A [(m_lines, .inl (kZ, 200, .inl y12)), (m_first, .inl (kZ, 1000, .inl f308)), (h0, .inr (10, [.ref m_now, .ref m_draft, .ref m_past, .int j_acts, .ref m_images, .ref m_kept, .ref m_tape, .int j_taped, .int j_at, .int j_start, .int j_token, .int j_value, .int j_fault, .int j_place, .int j_latest, .ref m_low, .ref m_high, .ref m_first, .ref m_second, .ref m_lines, .ref m_others, .int j_shiftFirst, .int j_shiftMany, .int j_shiftLow, .int j_shiftHigh])), (m_now, .inl (kI, 192, .inl g_now)), (m_low, .inl (kI, 1000, .inl y8)), (m_high, .inl (kI, 1000, .inl y9)), (m_others, .inl (kZ, 200, .inl y343))] := hD.sub [0, 1, 2, 3, 4, 5, 6] (by decide) rfl
                have hl9 : lv_has ls 8 [(0, .ref h0), (1, .int i_0), (2, .int i_1), (3, .int i_2), (4, .int r339), (5, .int r340)] := lv_sub hl [2, 3, 4, 5, 1, 0] rfl
                refine W.widen (k := 0) (n := 0) (Nat.le_of_ble_eq_true rfl) (Nat.le_of_ble_eq_true rfl) ?_
                exact hJ346 1 _ _ _ ⟨hP9, hD9, hS, hl9⟩
          · have nc341 : i_2.toInt < 2 := pw_nle c341 (by decide) rfl
            refine lv_iload_n hx hb dX10_turned_158 rfl (lv_at hl 5 rfl) ?_
            refine lv_if_ne (tgt := 167) hx hb dX10_turned_159 (by decide) (fun c429 => ?_) (fun c429 => ?_)
            · have nc429 : i_2.toInt ≠ 0 := pw_ne c429 rfl (by decide)
              refine lv_iload hx hb dX10_turned_167 (lv_at hl 0 rfl) ?_
              have hP9 := hP.sub (ws' := [(h0, .inr (10, [.ref m_now, .ref m_draft, .ref m_past, .int j_acts, .ref m_images, .ref m_kept, .ref m_tape, .int j_taped, .int j_at, .int j_start, .int j_token, .int j_value, .int j_fault, .int j_place, .int j_latest, .ref m_low, .ref m_high, .ref m_first, .ref m_second, .ref m_lines, .ref m_others, .int j_shiftFirst, .int j_shiftMany, .int j_shiftLow, .int j_shiftHigh])), (m_now, .inl (kI, 192, .inl g_now)), (m_low, .inl (kI, 1000, .inl y8)), (m_high, .inl (kI, 1000, .inl y9)), (m_first, .inl (kZ, 1000, .inl f308)), (m_lines, .inl (kZ, 200, .inl y12)), (m_others, .inl (kZ, 200, .inl g_others))]) [1, 2, 3, 4, 6, 5, 0] rfl
              have hD9 := hD.sub (ws' := [(h0, .inr (10, [.ref m_now, .ref m_draft, .ref m_past, .int j_acts, .ref m_images, .ref m_kept, .ref m_tape, .int j_taped, .int j_at, .int j_start, .int j_token, .int j_value, .int j_fault, .int j_place, .int j_latest, .ref m_low, .ref m_high, .ref m_first, .ref m_second, .ref m_lines, .ref m_others, .int j_shiftFirst, .int j_shiftMany, .int j_shiftLow, .int j_shiftHigh])), (m_now, .inl (kI, 192, .inl g_now)), (m_low, .inl (kI, 1000, .inl y8)), (m_high, .inl (kI, 1000, .inl y9)), (m_first, .inl (kZ, 1000, .inl f308)), (m_lines, .inl (kZ, 200, .inl y12)), (m_others, .inl (kZ, 200, .inl g_others))]) [1, 2, 3, 4, 6, 5, 0] (by decide) rfl
              have hK9 := hK.sub (tys' := [(kI, .int), (kZ, .boolean)]) [0, 1] rfl
              refine W.widen (k := 0) (n := 0) (Nat.le_of_ble_eq_true rfl) (Nat.le_of_ble_eq_true rfl) ?_
              exact W.iret (v := r340) hx hb hr (fun t ht hW => ⟨⟨r340, (), rfl, trivial, y8, y9, f308, y12, g_others, by rw [ht]; exact hP9, va_K.moved hW.alike hK9, hD9, hy8, hy9⟩, hS.F ht⟩) hS.2.2 dX10_turned_169
            · have nc429 : i_2.toInt = 0 := pw_eq c429 rfl (by decide)
              refine lv_iload hx hb dX10_turned_162 (lv_at hl 1 rfl) ?_
              refine lv_goto (tgt := 169) hx hb dX10_turned_164 (by decide) ?_
              have hP9 := hP.sub (ws' := [(h0, .inr (10, [.ref m_now, .ref m_draft, .ref m_past, .int j_acts, .ref m_images, .ref m_kept, .ref m_tape, .int j_taped, .int j_at, .int j_start, .int j_token, .int j_value, .int j_fault, .int j_place, .int j_latest, .ref m_low, .ref m_high, .ref m_first, .ref m_second, .ref m_lines, .ref m_others, .int j_shiftFirst, .int j_shiftMany, .int j_shiftLow, .int j_shiftHigh])), (m_now, .inl (kI, 192, .inl g_now)), (m_low, .inl (kI, 1000, .inl y8)), (m_high, .inl (kI, 1000, .inl y9)), (m_first, .inl (kZ, 1000, .inl f308)), (m_lines, .inl (kZ, 200, .inl y12)), (m_others, .inl (kZ, 200, .inl g_others))]) [1, 2, 3, 4, 6, 5, 0] rfl
              have hD9 := hD.sub (ws' := [(h0, .inr (10, [.ref m_now, .ref m_draft, .ref m_past, .int j_acts, .ref m_images, .ref m_kept, .ref m_tape, .int j_taped, .int j_at, .int j_start, .int j_token, .int j_value, .int j_fault, .int j_place, .int j_latest, .ref m_low, .ref m_high, .ref m_first, .ref m_second, .ref m_lines, .ref m_others, .int j_shiftFirst, .int j_shiftMany, .int j_shiftLow, .int j_shiftHigh])), (m_now, .inl (kI, 192, .inl g_now)), (m_low, .inl (kI, 1000, .inl y8)), (m_high, .inl (kI, 1000, .inl y9)), (m_first, .inl (kZ, 1000, .inl f308)), (m_lines, .inl (kZ, 200, .inl y12)), (m_others, .inl (kZ, 200, .inl g_others))]) [1, 2, 3, 4, 6, 5, 0] (by decide) rfl
              have hK9 := hK.sub (tys' := [(kI, .int), (kZ, .boolean)]) [0, 1] rfl
              refine W.widen (k := 0) (n := 0) (Nat.le_of_ble_eq_true rfl) (Nat.le_of_ble_eq_true rfl) ?_
              exact W.iret (v := r339) hx hb hr (fun t ht hW => ⟨⟨r339, (), rfl, trivial, y8, y9, f308, y12, g_others, by rw [ht]; exact hP9, va_K.moved hW.alike hK9, hD9, hy8, hy9⟩, hS.F ht⟩) hS.2.2 dX10_turned_169
        · have nc338 : v307.toInt < x310.toInt := pw_nle c338 rfl rfl
          have mc338v307 := pw_max v307
          have mc338x310 := pw_max x310
          refine lv_aload_n hx hb dX10_turned_71 rfl (lv_at hl 0 rfl) ?_
          refine va_get (D := D) (ci := 10) (v := .ref m_lines) (C := RX10) (T := TX10) (N := 25) hx hb hts (fun _ h => List.mem_cons_of_mem _ (List.mem_append_right _ h)) hown hK hP 1 rfl rfl 19 (by decide) (hts (.fieldLink RX10 41 "LineCitesModel" "lines" "[Z") (List.mem_of_getElem? (i := 38) rfl)) (fun _ h9 => h9) rfl dX10_turned_72 ?_
          refine lv_iload hx hb dX10_turned_75 (lv_at hl 4 rfl) ?_
          refine va_zald hx hb hK hP 5 1 rfl rfl (vp_in_iff.mpr ⟨by omega, by omega⟩) dX10_turned_77 ?_
          refine lv_topi (fun x430 ex430 => ?_)
          refine pw_join (fun (f442 : Nat → Int32) H locs ls => va_P D vwCl [(m_others, .inl (kZ, 200, .inl g_others)), (h0, .inr (10, [.ref m_now, .ref m_draft, .ref m_past, .int j_acts, .ref m_images, .ref m_kept, .ref m_tape, .int j_taped, .int j_at, .int j_start, .int j_token, .int j_value, .int j_fault, .int j_place, .int j_latest, .ref m_low, .ref m_high, .ref m_first, .ref m_second, .ref m_lines, .ref m_others, .int j_shiftFirst, .int j_shiftMany, .int j_shiftLow, .int j_shiftHigh])), (m_now, .inl (kI, 192, .inl g_now)), (m_low, .inl (kI, 1000, .inl y8)), (m_high, .inl (kI, 1000, .inl y9)), (m_lines, .inl (kZ, 200, .inl y12)), (m_first, .inl (kZ, 1000, .inl f442))] H ∧ va_D A [(m_others, .inl (kZ, 200, .inl g_others)), (h0, .inr (10, [.ref m_now, .ref m_draft, .ref m_past, .int j_acts, .ref m_images, .ref m_kept, .ref m_tape, .int j_taped, .int j_at, .int j_start, .int j_token, .int j_value, .int j_fault, .int j_place, .int j_latest, .ref m_low, .ref m_high, .ref m_first, .ref m_second, .ref m_lines, .ref m_others, .int j_shiftFirst, .int j_shiftMany, .int j_shiftLow, .int j_shiftHigh])), (m_now, .inl (kI, 192, .inl g_now)), (m_low, .inl (kI, 1000, .inl y8)), (m_high, .inl (kI, 1000, .inl y9)), (m_lines, .inl (kZ, 200, .inl y12)), (m_first, .inl (kZ, 1000, .inl f442))] ∧ va_S A s.heap H locs ∧ lv_has ls 8 [(0, .ref h0), (1, .int i_0), (2, .int i_1), (3, .int i_2), (4, .int v307)]) 0 0 (fun (f442 : Nat → Int32) ls => F0 m 129 ls []) (fun f442 H locs ls hI => ?_) (fun hJ443 => ?_)
          ·
            obtain ⟨hP, hD, hS, hl⟩ := hI
            have hP : va_P D vwCl [(m_others, .inl (kZ, 200, .inl g_others)), (h0, .inr (10, [.ref m_now, .ref m_draft, .ref m_past, .int j_acts, .ref m_images, .ref m_kept, .ref m_tape, .int j_taped, .int j_at, .int j_start, .int j_token, .int j_value, .int j_fault, .int j_place, .int j_latest, .ref m_low, .ref m_high, .ref m_first, .ref m_second, .ref m_lines, .ref m_others, .int j_shiftFirst, .int j_shiftMany, .int j_shiftLow, .int j_shiftHigh])), (m_now, .inl (kI, 192, .inl g_now)), (m_low, .inl (kI, 1000, .inl y8)), (m_high, .inl (kI, 1000, .inl y9)), (m_lines, .inl (kZ, 200, .inl y12)), (m_first, .inl (kZ, 1000, .inl f442))] H := hP
            have hD : va_D A [(m_others, .inl (kZ, 200, .inl g_others)), (h0, .inr (10, [.ref m_now, .ref m_draft, .ref m_past, .int j_acts, .ref m_images, .ref m_kept, .ref m_tape, .int j_taped, .int j_at, .int j_start, .int j_token, .int j_value, .int j_fault, .int j_place, .int j_latest, .ref m_low, .ref m_high, .ref m_first, .ref m_second, .ref m_lines, .ref m_others, .int j_shiftFirst, .int j_shiftMany, .int j_shiftLow, .int j_shiftHigh])), (m_now, .inl (kI, 192, .inl g_now)), (m_low, .inl (kI, 1000, .inl y8)), (m_high, .inl (kI, 1000, .inl y9)), (m_lines, .inl (kZ, 200, .inl y12)), (m_first, .inl (kZ, 1000, .inl f442))] := hD
            have hK : va_K D vwCl [(kI, .int), (kZ, .boolean), (kI, .int), (kI, .int), (kZ, .boolean), (kZ, .boolean)] s := hK
            have hl : lv_has ls 8 [(0, .ref h0), (1, .int i_0), (2, .int i_1), (3, .int i_2), (4, .int v307)] := hl
            refine W.eq (g2 := F0 m 129 ls []) rfl ?_
            obtain ⟨x444, ex444⟩ : ∃ y : Int32, y = v307 + 1 := ⟨_, rfl⟩
            have tx444 : x444.toInt = v307.toInt + 1 := pw_addX ex444 rfl (by decide) (by omega) (by omega)
            refine lv_iinc (v := x444) (lv' := [(4, .int x444), (0, .ref h0), (1, .int i_0), (2, .int i_1), (3, .int i_2)]) hx hb dX10_turned_129 hl (k := 4) rfl (by rw [ex444]; rfl) (by decide) rfl (fun ls hl => ?_)
            refine lv_goto (tgt := 60) hx hb dX10_turned_132 (by decide) ?_
            have hP9 : va_P D vwCl [(m_others, .inl (kZ, 200, .inl g_others)), (h0, .inr (10, [.ref m_now, .ref m_draft, .ref m_past, .int j_acts, .ref m_images, .ref m_kept, .ref m_tape, .int j_taped, .int j_at, .int j_start, .int j_token, .int j_value, .int j_fault, .int j_place, .int j_latest, .ref m_low, .ref m_high, .ref m_first, .ref m_second, .ref m_lines, .ref m_others, .int j_shiftFirst, .int j_shiftMany, .int j_shiftLow, .int j_shiftHigh])), (m_now, .inl (kI, 192, .inl g_now)), (m_low, .inl (kI, 1000, .inl y8)), (m_high, .inl (kI, 1000, .inl y9)), (m_lines, .inl (kZ, 200, .inl y12)), (m_first, .inl (kZ, 1000, .inl f442))] H := hP.sub [0, 1, 2, 3, 4, 5, 6] rfl
            have hD9 : va_D A [(m_others, .inl (kZ, 200, .inl g_others)), (h0, .inr (10, [.ref m_now, .ref m_draft, .ref m_past, .int j_acts, .ref m_images, .ref m_kept, .ref m_tape, .int j_taped, .int j_at, .int j_start, .int j_token, .int j_value, .int j_fault, .int j_place, .int j_latest, .ref m_low, .ref m_high, .ref m_first, .ref m_second, .ref m_lines, .ref m_others, .int j_shiftFirst, .int j_shiftMany, .int j_shiftLow, .int j_shiftHigh])), (m_now, .inl (kI, 192, .inl g_now)), (m_low, .inl (kI, 1000, .inl y8)), (m_high, .inl (kI, 1000, .inl y9)), (m_lines, .inl (kZ, 200, .inl y12)), (m_first, .inl (kZ, 1000, .inl f442))] := hD.sub [0, 1, 2, 3, 4, 5, 6] (by decide) rfl
            have hl9 : lv_has ls 8 [(0, .ref h0), (1, .int i_0), (2, .int i_1), (3, .int i_2), (4, .int x444)] := lv_sub hl [1, 2, 3, 4, 0] rfl
            refine W.widen (k := 0) (n := 0) (Nat.le_of_ble_eq_true rfl) (Nat.le_of_ble_eq_true rfl) ?_
            exact ih309 (x444, f442) _ _ _ (pw_up ex444 (by omega)) ⟨hP9, hD9, hS, hl9, (pw_upge ex444 (by omega) (by omega))⟩
          ·
            refine lv_if_eq (tgt := 129) hx hb dX10_turned_78 (by decide) (fun c445 => ?_) (fun c445 => ?_)
            · have nc445 : x430.toInt = 0 := pw_eq c445 rfl (by decide)
              have hP9 : va_P D vwCl [(m_others, .inl (kZ, 200, .inl g_others)), (h0, .inr (10, [.ref m_now, .ref m_draft, .ref m_past, .int j_acts, .ref m_images, .ref m_kept, .ref m_tape, .int j_taped, .int j_at, .int j_start, .int j_token, .int j_value, .int j_fault, .int j_place, .int j_latest, .ref m_low, .ref m_high, .ref m_first, .ref m_second, .ref m_lines, .ref m_others, .int j_shiftFirst, .int j_shiftMany, .int j_shiftLow, .int j_shiftHigh])), (m_now, .inl (kI, 192, .inl g_now)), (m_low, .inl (kI, 1000, .inl y8)), (m_high, .inl (kI, 1000, .inl y9)), (m_lines, .inl (kZ, 200, .inl y12)), (m_first, .inl (kZ, 1000, .inl f308))] H := hP.sub [0, 1, 2, 3, 4, 5, 6] rfl
              have hD9 : va_D A [(m_others, .inl (kZ, 200, .inl g_others)), (h0, .inr (10, [.ref m_now, .ref m_draft, .ref m_past, .int j_acts, .ref m_images, .ref m_kept, .ref m_tape, .int j_taped, .int j_at, .int j_start, .int j_token, .int j_value, .int j_fault, .int j_place, .int j_latest, .ref m_low, .ref m_high, .ref m_first, .ref m_second, .ref m_lines, .ref m_others, .int j_shiftFirst, .int j_shiftMany, .int j_shiftLow, .int j_shiftHigh])), (m_now, .inl (kI, 192, .inl g_now)), (m_low, .inl (kI, 1000, .inl y8)), (m_high, .inl (kI, 1000, .inl y9)), (m_lines, .inl (kZ, 200, .inl y12)), (m_first, .inl (kZ, 1000, .inl f308))] := hD.sub [0, 1, 2, 3, 4, 5, 6] (by decide) rfl
              have hl9 : lv_has ls 8 [(0, .ref h0), (1, .int i_0), (2, .int i_1), (3, .int i_2), (4, .int v307)] := lv_sub hl [0, 1, 2, 3, 4] rfl
              refine W.widen (k := 0) (n := 0) (Nat.le_of_ble_eq_true rfl) (Nat.le_of_ble_eq_true rfl) ?_
              exact hJ443 f308 _ _ _ ⟨hP9, hD9, hS, hl9⟩
            · have nc445 : x430.toInt ≠ 0 := pw_ne c445 rfl (by decide)
              refine lv_aload_n hx hb dX10_turned_81 rfl (lv_at hl 0 rfl) ?_
              refine lv_iload_n hx hb dX10_turned_82 rfl (lv_at hl 2 rfl) ?_
              refine lv_iload hx hb dX10_turned_83 (lv_at hl 4 rfl) ?_
              have hPc := hP.sub (ws' := [(h0, .inr (10, [.ref m_now, .ref m_draft, .ref m_past, .int j_acts, .ref m_images, .ref m_kept, .ref m_tape, .int j_taped, .int j_at, .int j_start, .int j_token, .int j_value, .int j_fault, .int j_place, .int j_latest, .ref m_low, .ref m_high, .ref m_first, .ref m_second, .ref m_lines, .ref m_others, .int j_shiftFirst, .int j_shiftMany, .int j_shiftLow, .int j_shiftHigh])), (m_low, .inl (kI, 1000, .inl y8))]) [1, 3] rfl
              have hKc := hK.sub (tys' := [(kI, .int)]) [0] rfl
              refine va_calli (va_runV (As := [.int i_1, .int v307]) (rest := []) ⟨hx, hb, hml, hown, hts⟩ (c_X10_hasNumber l D h0 i_1 v307 m_now m_draft m_past j_acts m_images m_kept m_tape j_taped j_at j_start j_token j_value j_fault j_place j_latest m_low m_high m_first m_second m_lines m_others j_shiftFirst j_shiftMany j_shiftLow j_shiftHigh kI y8 (by first | decide | omega) (by first | decide | omega) (by first | decide | omega) (by first | decide | omega) hy8) (cwV 2 hts g_X10_turned_X10_hasNumber rfl rfl rfl (by decide +kernel) ⟨Nat.le_of_ble_eq_true rfl, Nat.le_of_ble_eq_true rfl⟩) ⟨fun a U g mk q => by obtain ⟨q0, qP, qK⟩ := q; exact ⟨q0, qP, va_K.moved (u := U) (U := U.calling g mk a) (Vm.Alike.refl U.vm) qK⟩, va_recv hKc hPc (ci := 10) (q0 := 0) rfl rfl, fun U hU hW => ⟨rfl, by rw [hU]; exact hPc, va_K.moved hW.alike hKc⟩⟩ rfl rfl hl.1 rfl (lv_room (Nat.le_of_ble_eq_true rfl)) dX10_turned_85 ⟨Nat.le_of_ble_eq_true rfl, Nat.le_of_ble_eq_true rfl⟩) hS (fun _ _ h => h.elim) (fun _ h => h.elim) (fun r446 u t H1 locs ht hvm hw hB hz1 hk1 hS => ?_)
              have hP := pw_keep hP (fun q hq => hk1 q hq (fun h => h))
              generalize H1 = H at hP hS ⊢
              refine W.widen (k := 0) (n := 0) (Nat.le_of_ble_eq_true rfl) (Nat.le_of_ble_eq_true rfl) ?_
              have bor446 := hw.1
              have zor446 := pw_boolI bor446
              refine lv_if_eq (tgt := 129) hx hb dX10_turned_88 (by decide) (fun c447 => ?_) (fun c447 => ?_)
              · have nc447 : r446.toInt = 0 := pw_eq c447 rfl (by decide)
                have hP9 : va_P D vwCl [(m_others, .inl (kZ, 200, .inl g_others)), (h0, .inr (10, [.ref m_now, .ref m_draft, .ref m_past, .int j_acts, .ref m_images, .ref m_kept, .ref m_tape, .int j_taped, .int j_at, .int j_start, .int j_token, .int j_value, .int j_fault, .int j_place, .int j_latest, .ref m_low, .ref m_high, .ref m_first, .ref m_second, .ref m_lines, .ref m_others, .int j_shiftFirst, .int j_shiftMany, .int j_shiftLow, .int j_shiftHigh])), (m_now, .inl (kI, 192, .inl g_now)), (m_low, .inl (kI, 1000, .inl y8)), (m_high, .inl (kI, 1000, .inl y9)), (m_lines, .inl (kZ, 200, .inl y12)), (m_first, .inl (kZ, 1000, .inl f308))] H := hP.sub [0, 1, 2, 3, 4, 5, 6] rfl
                have hD9 : va_D A [(m_others, .inl (kZ, 200, .inl g_others)), (h0, .inr (10, [.ref m_now, .ref m_draft, .ref m_past, .int j_acts, .ref m_images, .ref m_kept, .ref m_tape, .int j_taped, .int j_at, .int j_start, .int j_token, .int j_value, .int j_fault, .int j_place, .int j_latest, .ref m_low, .ref m_high, .ref m_first, .ref m_second, .ref m_lines, .ref m_others, .int j_shiftFirst, .int j_shiftMany, .int j_shiftLow, .int j_shiftHigh])), (m_now, .inl (kI, 192, .inl g_now)), (m_low, .inl (kI, 1000, .inl y8)), (m_high, .inl (kI, 1000, .inl y9)), (m_lines, .inl (kZ, 200, .inl y12)), (m_first, .inl (kZ, 1000, .inl f308))] := hD.sub [0, 1, 2, 3, 4, 5, 6] (by decide) rfl
                have hl9 : lv_has ls 8 [(0, .ref h0), (1, .int i_0), (2, .int i_1), (3, .int i_2), (4, .int v307)] := lv_sub hl [0, 1, 2, 3, 4] rfl
                refine W.widen (k := 0) (n := 0) (Nat.le_of_ble_eq_true rfl) (Nat.le_of_ble_eq_true rfl) ?_
                exact hJ443 f308 _ _ _ ⟨hP9, hD9, hS, hl9⟩
              · have nc447 : r446.toInt ≠ 0 := pw_ne c447 rfl (by decide)
                refine lv_aload_n hx hb dX10_turned_91 rfl (lv_at hl 0 rfl) ?_
                refine va_get (D := D) (ci := 10) (v := .ref m_first) (C := RX10) (T := TX10) (N := 25) hx hb hts (fun _ h => List.mem_cons_of_mem _ (List.mem_append_right _ h)) hown hK hP 1 rfl rfl 17 (by decide) (hts (.fieldLink RX10 35 "LineCitesModel" "first" "[Z") (List.mem_of_getElem? (i := 58) rfl)) (fun _ h9 => h9) rfl dX10_turned_92 ?_
                refine lv_aload_n hx hb dX10_turned_95 rfl (lv_at hl 0 rfl) ?_
                refine va_get (D := D) (ci := 10) (v := .ref m_low) (C := RX10) (T := TX10) (N := 25) hx hb hts (fun _ h => List.mem_cons_of_mem _ (List.mem_append_right _ h)) hown hK hP 1 rfl rfl 15 (by decide) (hts (.fieldLink RX10 29 "LineCitesModel" "low" "[I") (List.mem_of_getElem? (i := 30) rfl)) (fun _ h9 => h9) rfl dX10_turned_96 ?_
                refine lv_sipush (v := 200) hx hb dX10_turned_99 (by decide) ?_
                refine lv_iload_n hx hb dX10_turned_102 rfl (lv_at hl 2 rfl) ?_
                refine lv_imul hx hb dX10_turned_103 ?_
                refine lv_topi (fun x448 ex448 => ?_)
                have tx448 : x448.toInt = 200 * i_1.toInt := pw_mulX ex448 (by decide) rfl (by omega) (by omega)
                refine lv_iload hx hb dX10_turned_104 (lv_at hl 4 rfl) ?_
                refine lv_iadd hx hb dX10_turned_106 ?_
                refine lv_topi (fun x449 ex449 => ?_)
                have tx449 : x449.toInt = x448.toInt + v307.toInt := pw_addX ex449 rfl rfl (by omega) (by omega)
                refine va_iald hx hb hK hP 3 0 rfl rfl (vp_in_iff.mpr ⟨by omega, by omega⟩) dX10_turned_107 ?_
                refine lv_topi (fun x450 ex450 => ?_)
                have nx450 : 0 ≤ x450.toInt ∧ x450.toInt ≤ 999 := bP_at hy8 ex450
                refine lv_iconst (v := 1) hx hb dX10_turned_108 (by decide) ?_
                refine va_zast hx hb hK hP hD hS 6 1 rfl rfl (vp_in_iff.mpr ⟨by omega, by omega⟩) dX10_turned_109 (fun H locs hP hD hS => ?_)
                obtain ⟨g451, eg451⟩ : ∃ g : Nat → Int32, g = upd f308 (x450 : Int32).toNatClampNeg (vp_nar .boolean 1) := ⟨_, rfl⟩
                have hP : va_P D vwCl [(m_others, .inl (kZ, 200, .inl g_others)), (h0, .inr (10, [.ref m_now, .ref m_draft, .ref m_past, .int j_acts, .ref m_images, .ref m_kept, .ref m_tape, .int j_taped, .int j_at, .int j_start, .int j_token, .int j_value, .int j_fault, .int j_place, .int j_latest, .ref m_low, .ref m_high, .ref m_first, .ref m_second, .ref m_lines, .ref m_others, .int j_shiftFirst, .int j_shiftMany, .int j_shiftLow, .int j_shiftHigh])), (m_now, .inl (kI, 192, .inl g_now)), (m_low, .inl (kI, 1000, .inl y8)), (m_high, .inl (kI, 1000, .inl y9)), (m_lines, .inl (kZ, 200, .inl y12)), (m_first, .inl (kZ, 1000, .inl (upd f308 (x450 : Int32).toNatClampNeg (vp_nar .boolean 1))))] H := hP
                have hD : va_D A [(m_others, .inl (kZ, 200, .inl g_others)), (h0, .inr (10, [.ref m_now, .ref m_draft, .ref m_past, .int j_acts, .ref m_images, .ref m_kept, .ref m_tape, .int j_taped, .int j_at, .int j_start, .int j_token, .int j_value, .int j_fault, .int j_place, .int j_latest, .ref m_low, .ref m_high, .ref m_first, .ref m_second, .ref m_lines, .ref m_others, .int j_shiftFirst, .int j_shiftMany, .int j_shiftLow, .int j_shiftHigh])), (m_now, .inl (kI, 192, .inl g_now)), (m_low, .inl (kI, 1000, .inl y8)), (m_high, .inl (kI, 1000, .inl y9)), (m_lines, .inl (kZ, 200, .inl y12)), (m_first, .inl (kZ, 1000, .inl (upd f308 (x450 : Int32).toNatClampNeg (vp_nar .boolean 1))))] := hD
                have hK : va_K D vwCl [(kI, .int), (kZ, .boolean), (kI, .int), (kI, .int), (kZ, .boolean), (kZ, .boolean)] s := hK
                rw [← eg451] at hP hD
                refine lv_aload_n hx hb dX10_turned_110 rfl (lv_at hl 0 rfl) ?_
                refine va_get (D := D) (ci := 10) (v := .ref m_first) (C := RX10) (T := TX10) (N := 25) hx hb hts (fun _ h => List.mem_cons_of_mem _ (List.mem_append_right _ h)) hown hK hP 1 rfl rfl 17 (by decide) (hts (.fieldLink RX10 35 "LineCitesModel" "first" "[Z") (List.mem_of_getElem? (i := 58) rfl)) (fun _ h9 => h9) rfl dX10_turned_111 ?_
                refine lv_aload_n hx hb dX10_turned_114 rfl (lv_at hl 0 rfl) ?_
                refine va_get (D := D) (ci := 10) (v := .ref m_high) (C := RX10) (T := TX10) (N := 25) hx hb hts (fun _ h => List.mem_cons_of_mem _ (List.mem_append_right _ h)) hown hK hP 1 rfl rfl 16 (by decide) (hts (.fieldLink RX10 32 "LineCitesModel" "high" "[I") (List.mem_of_getElem? (i := 31) rfl)) (fun _ h9 => h9) rfl dX10_turned_115 ?_
                refine lv_sipush (v := 200) hx hb dX10_turned_118 (by decide) ?_
                refine lv_iload_n hx hb dX10_turned_121 rfl (lv_at hl 2 rfl) ?_
                refine lv_imul hx hb dX10_turned_122 ?_
                refine lv_topi (fun x452 ex452 => ?_)
                have tx452 : x452.toInt = 200 * i_1.toInt := pw_mulX ex452 (by decide) rfl (by omega) (by omega)
                refine lv_iload hx hb dX10_turned_123 (lv_at hl 4 rfl) ?_
                refine lv_iadd hx hb dX10_turned_125 ?_
                refine lv_topi (fun x453 ex453 => ?_)
                have tx453 : x453.toInt = x452.toInt + v307.toInt := pw_addX ex453 rfl rfl (by omega) (by omega)
                refine va_iald hx hb hK hP 4 0 rfl rfl (vp_in_iff.mpr ⟨by omega, by omega⟩) dX10_turned_126 ?_
                refine lv_topi (fun x454 ex454 => ?_)
                have nx454 : 0 ≤ x454.toInt ∧ x454.toInt ≤ 999 := bP_at hy9 ex454
                refine lv_iconst (v := 1) hx hb dX10_turned_127 (by decide) ?_
                refine va_zast hx hb hK hP hD hS 6 1 rfl rfl (vp_in_iff.mpr ⟨by omega, by omega⟩) dX10_turned_128 (fun H locs hP hD hS => ?_)
                obtain ⟨g455, eg455⟩ : ∃ g : Nat → Int32, g = upd g451 (x454 : Int32).toNatClampNeg (vp_nar .boolean 1) := ⟨_, rfl⟩
                have hP : va_P D vwCl [(m_others, .inl (kZ, 200, .inl g_others)), (h0, .inr (10, [.ref m_now, .ref m_draft, .ref m_past, .int j_acts, .ref m_images, .ref m_kept, .ref m_tape, .int j_taped, .int j_at, .int j_start, .int j_token, .int j_value, .int j_fault, .int j_place, .int j_latest, .ref m_low, .ref m_high, .ref m_first, .ref m_second, .ref m_lines, .ref m_others, .int j_shiftFirst, .int j_shiftMany, .int j_shiftLow, .int j_shiftHigh])), (m_now, .inl (kI, 192, .inl g_now)), (m_low, .inl (kI, 1000, .inl y8)), (m_high, .inl (kI, 1000, .inl y9)), (m_lines, .inl (kZ, 200, .inl y12)), (m_first, .inl (kZ, 1000, .inl (upd g451 (x454 : Int32).toNatClampNeg (vp_nar .boolean 1))))] H := hP
                have hD : va_D A [(m_others, .inl (kZ, 200, .inl g_others)), (h0, .inr (10, [.ref m_now, .ref m_draft, .ref m_past, .int j_acts, .ref m_images, .ref m_kept, .ref m_tape, .int j_taped, .int j_at, .int j_start, .int j_token, .int j_value, .int j_fault, .int j_place, .int j_latest, .ref m_low, .ref m_high, .ref m_first, .ref m_second, .ref m_lines, .ref m_others, .int j_shiftFirst, .int j_shiftMany, .int j_shiftLow, .int j_shiftHigh])), (m_now, .inl (kI, 192, .inl g_now)), (m_low, .inl (kI, 1000, .inl y8)), (m_high, .inl (kI, 1000, .inl y9)), (m_lines, .inl (kZ, 200, .inl y12)), (m_first, .inl (kZ, 1000, .inl (upd g451 (x454 : Int32).toNatClampNeg (vp_nar .boolean 1))))] := hD
                have hK : va_K D vwCl [(kI, .int), (kZ, .boolean), (kI, .int), (kI, .int), (kZ, .boolean), (kZ, .boolean)] s := hK
                rw [← eg455] at hP hD
                have hP9 : va_P D vwCl [(m_others, .inl (kZ, 200, .inl g_others)), (h0, .inr (10, [.ref m_now, .ref m_draft, .ref m_past, .int j_acts, .ref m_images, .ref m_kept, .ref m_tape, .int j_taped, .int j_at, .int j_start, .int j_token, .int j_value, .int j_fault, .int j_place, .int j_latest, .ref m_low, .ref m_high, .ref m_first, .ref m_second, .ref m_lines, .ref m_others, .int j_shiftFirst, .int j_shiftMany, .int j_shiftLow, .int j_shiftHigh])), (m_now, .inl (kI, 192, .inl g_now)), (m_low, .inl (kI, 1000, .inl y8)), (m_high, .inl (kI, 1000, .inl y9)), (m_lines, .inl (kZ, 200, .inl y12)), (m_first, .inl (kZ, 1000, .inl g455))] H := hP.sub [0, 1, 2, 3, 4, 5, 6] rfl
                have hD9 : va_D A [(m_others, .inl (kZ, 200, .inl g_others)), (h0, .inr (10, [.ref m_now, .ref m_draft, .ref m_past, .int j_acts, .ref m_images, .ref m_kept, .ref m_tape, .int j_taped, .int j_at, .int j_start, .int j_token, .int j_value, .int j_fault, .int j_place, .int j_latest, .ref m_low, .ref m_high, .ref m_first, .ref m_second, .ref m_lines, .ref m_others, .int j_shiftFirst, .int j_shiftMany, .int j_shiftLow, .int j_shiftHigh])), (m_now, .inl (kI, 192, .inl g_now)), (m_low, .inl (kI, 1000, .inl y8)), (m_high, .inl (kI, 1000, .inl y9)), (m_lines, .inl (kZ, 200, .inl y12)), (m_first, .inl (kZ, 1000, .inl g455))] := hD.sub [0, 1, 2, 3, 4, 5, 6] (by decide) rfl
                have hl9 : lv_has ls 8 [(0, .ref h0), (1, .int i_0), (2, .int i_1), (3, .int i_2), (4, .int v307)] := lv_sub hl [0, 1, 2, 3, 4] rfl
                refine W.widen (k := 0) (n := 0) (Nat.le_of_ble_eq_true rfl) (Nat.le_of_ble_eq_true rfl) ?_
                exact hJ443 g455 _ _ _ ⟨hP9, hD9, hS, hl9⟩
      · have nc6 : r5.toInt = 0 := pw_eq c6 rfl (by decide)
        refine lv_ldc hx hb hown (hts (.constant RX10 177 (-1000001)) (List.mem_of_getElem? (i := 15) rfl)) dX10_turned_28 ?_
        have hP9 := hP.sub (ws' := [(h0, .inr (10, [.ref m_now, .ref m_draft, .ref m_past, .int j_acts, .ref m_images, .ref m_kept, .ref m_tape, .int j_taped, .int j_at, .int j_start, .int j_token, .int j_value, .int j_fault, .int j_place, .int j_latest, .ref m_low, .ref m_high, .ref m_first, .ref m_second, .ref m_lines, .ref m_others, .int j_shiftFirst, .int j_shiftMany, .int j_shiftLow, .int j_shiftHigh])), (m_now, .inl (kI, 192, .inl g_now)), (m_low, .inl (kI, 1000, .inl g_low)), (m_high, .inl (kI, 1000, .inl g_high)), (m_first, .inl (kZ, 1000, .inl g_first)), (m_lines, .inl (kZ, 200, .inl g_lines)), (m_others, .inl (kZ, 200, .inl g_others))]) [0, 1, 2, 3, 4, 5, 6] rfl
        have hD9 := hD.sub (ws' := [(h0, .inr (10, [.ref m_now, .ref m_draft, .ref m_past, .int j_acts, .ref m_images, .ref m_kept, .ref m_tape, .int j_taped, .int j_at, .int j_start, .int j_token, .int j_value, .int j_fault, .int j_place, .int j_latest, .ref m_low, .ref m_high, .ref m_first, .ref m_second, .ref m_lines, .ref m_others, .int j_shiftFirst, .int j_shiftMany, .int j_shiftLow, .int j_shiftHigh])), (m_now, .inl (kI, 192, .inl g_now)), (m_low, .inl (kI, 1000, .inl g_low)), (m_high, .inl (kI, 1000, .inl g_high)), (m_first, .inl (kZ, 1000, .inl g_first)), (m_lines, .inl (kZ, 200, .inl g_lines)), (m_others, .inl (kZ, 200, .inl g_others))]) [0, 1, 2, 3, 4, 5, 6] (by decide) rfl
        have hK9 := hK.sub (tys' := [(kI, .int), (kZ, .boolean)]) [0, 1] rfl
        refine W.widen (k := 0) (n := 0) (Nat.le_of_ble_eq_true rfl) (Nat.le_of_ble_eq_true rfl) ?_
        exact W.iret (v := (-1000001)) hx hb hr (fun t ht hW => ⟨⟨(-1000001), (), rfl, trivial, g_low, g_high, g_first, g_lines, g_others, by rw [ht]; exact hP9, va_K.moved hW.alike hK9, hD9, hg_low, hg_high⟩, hS.F ht⟩) hS.2.2 dX10_turned_30
def w_X10_meet : List Cond := .code yX10_meet cX10_meet 7 (some .int) :: ([.methodLink RX10 228 yX10_isCitation, .instanceMethod yX10_isCitation, .selects RX10 yX10_isCitation yX10_isCitation, .initialized RX10, .code yX10_isCitation cX10_isCitation 2 (some .boolean), .constantLong RX10 213 (7), .methodLink RX10 51 yX10_in0, .static yX10_in0, .code yX10_in0 cX10_in0 6 (some .boolean), .methodLink RX10 215 yX10_cited, .instanceMethod yX10_cited, .selects RX10 yX10_cited yX10_cited, .code yX10_cited cX10_cited 3 (some .int), .fieldLink RX10 7 "LineCitesModel" "now" "[I", .constant RX10 177 (-1000001), .constantLong RX10 219 (2), .methodLink RX10 221 yX10_lays, .instanceMethod yX10_lays, .selects RX10 yX10_lays yX10_lays, .code yX10_lays cX10_lays 9 none, .constant RX10 61 (-1000000), .fieldLink RX10 29 "LineCitesModel" "low" "[I", .fieldLink RX10 32 "LineCitesModel" "high" "[I", .methodLink RX10 66 yX10_stretchOf, .static yX10_stretchOf, .code yX10_stretchOf cX10_stretchOf 7 (some .int), .methodLink RX10 62 yX10_of, .static yX10_of, .code yX10_of cX10_of 4 (some .int), .fieldLink RX10 41 "LineCitesModel" "lines" "[Z", .methodLink RX10 224 yX10_laysLines, .instanceMethod yX10_laysLines, .selects RX10 yX10_laysLines yX10_laysLines, .code yX10_laysLines cX10_laysLines 4 none, .methodLink RX10 286 yX10_lastOf, .instanceMethod yX10_lastOf, .selects RX10 yX10_lastOf yX10_lastOf, .code yX10_lastOf cX10_lastOf 2 (some .int), .methodLink RX10 289 yX10_laysSpan, .instanceMethod yX10_laysSpan, .selects RX10 yX10_laysSpan yX10_laysSpan, .code yX10_laysSpan cX10_laysSpan 7 none, .methodLink RX10 87 yX10_clears, .static yX10_clears, .code yX10_clears cX10_clears 2 none, .methodLink RX10 73 yX10_hasNumber, .instanceMethod yX10_hasNumber, .selects RX10 yX10_hasNumber yX10_hasNumber, .code yX10_hasNumber cX10_hasNumber 3 (some .boolean), .fieldLink RX10 44 "LineCitesModel" "others" "[Z"] ++ wsX100)
set_option maxRecDepth 20000 in
theorem g_X10_meet_X10_isCitation : GoodIn w_X10_meet (wsV RX10 228 RX10 yX10_isCitation w_X10_isCitation) := goodIn_r _ [1, 2, 3, 4, 5, 6, 7, 8, 4, 9, 10, 11, 12, 13, 14, 51, 52, 53, 54, 55, 56, 57, 58, 59, 60, 61, 62, 63, 64, 65, 66, 67, 68, 69, 70, 71, 72, 73, 74, 75] rfl (by decide +kernel)
set_option maxRecDepth 20000 in
theorem g_X10_meet_X10_in0 : GoodIn w_X10_meet (wsS RX10 51 yX10_in0 w_X10_in0) := goodIn_r _ [7, 8, 4, 9] rfl (by decide +kernel)
set_option maxRecDepth 20000 in
theorem g_X10_meet_X10_lays : GoodIn w_X10_meet (wsV RX10 221 RX10 yX10_lays w_X10_lays) := goodIn_r _ [17, 18, 19, 4, 20, 14, 21, 22, 23, 24, 25, 4, 26, 27, 28, 29, 7, 8, 9, 51, 52, 53, 54, 55, 56, 57, 58, 59, 60, 61, 62, 63, 64, 65, 66, 67, 68, 69, 70, 71, 72, 73, 74, 75] rfl (by decide +kernel)
set_option maxRecDepth 20000 in
theorem g_X10_meet_X10_cited : GoodIn w_X10_meet (wsV RX10 215 RX10 yX10_cited w_X10_cited) := goodIn_r _ [10, 11, 12, 4, 13, 14, 51, 52, 53, 54, 55, 56, 57, 58, 59, 60, 61, 62, 63, 64, 65, 66, 67, 68, 69, 70, 71, 72, 73, 74, 75] rfl (by decide +kernel)
set_option maxRecDepth 20000 in
theorem g_X10_meet_X10_laysLines : GoodIn w_X10_meet (wsV RX10 224 RX10 yX10_laysLines w_X10_laysLines) := goodIn_r _ [31, 32, 33, 4, 34, 10, 11, 12, 4, 13, 14, 35, 36, 37, 38, 39, 40, 41, 42, 43, 44, 45, 46, 47, 48, 49, 22, 7, 8, 9, 23, 51, 52, 53, 54, 55, 56, 57, 58, 59, 60, 61, 62, 63, 64, 65, 66, 67, 68, 69, 70, 71, 72, 73, 74, 75] rfl (by decide +kernel)
set_option maxHeartbeats 4000000 in
set_option maxRecDepth 100000 in
theorem c_X10_meet (l : Launch) (D : va_G) (h0 : Nat) (i_0 : Int32) (i_1 : Int32) (i_2 : Int32) (m_now : Nat) (m_draft : Nat) (m_past : Nat) (j_acts : Int32) (m_images : Nat) (m_kept : Nat) (m_tape : Nat) (j_taped : Int32) (j_at : Int32) (j_start : Int32) (j_token : Int32) (j_value : Int32) (j_fault : Int32) (j_place : Int32) (j_latest : Int32) (m_low : Nat) (m_high : Nat) (m_first : Nat) (m_second : Nat) (m_lines : Nat) (m_others : Nat) (j_shiftFirst : Int32) (j_shiftMany : Int32) (j_shiftLow : Int32) (j_shiftHigh : Int32) (kI : ClassId) (g_now : Nat → Int32) (g_low : Nat → Int32) (g_high : Nat → Int32) (kZ : ClassId) (g_lines : Nat → Int32) (g_others : Nat → Int32) (sz : Nat) (hg_now : gV g_now) (hg_low : bP g_low) (hg_high : bP g_high) : Met l yX10_meet w_X10_meet ({ frames := 3, cells := 0, slots := 0, locals := 79 }) (va_Pc [.ref h0, .int i_0, .int i_1, .int i_2] (fun U => U.heap.size = sz ∧ va_P D vwCl [(h0, .inr (10, [.ref m_now, .ref m_draft, .ref m_past, .int j_acts, .ref m_images, .ref m_kept, .ref m_tape, .int j_taped, .int j_at, .int j_start, .int j_token, .int j_value, .int j_fault, .int j_place, .int j_latest, .ref m_low, .ref m_high, .ref m_first, .ref m_second, .ref m_lines, .ref m_others, .int j_shiftFirst, .int j_shiftMany, .int j_shiftLow, .int j_shiftHigh])), (m_now, .inl (kI, 192, .inl g_now)), (m_low, .inl (kI, 1000, .inl g_low)), (m_high, .inl (kI, 1000, .inl g_high)), (m_lines, .inl (kZ, 200, .inl g_lines)), (m_others, .inl (kZ, 200, .inl g_others))] U.heap ∧ va_K D vwCl [(kI, .int), (kZ, .boolean)] U ∧ va_D (fun _ => True) [(h0, .inr (10, [.ref m_now, .ref m_draft, .ref m_past, .int j_acts, .ref m_images, .ref m_kept, .ref m_tape, .int j_taped, .int j_at, .int j_start, .int j_token, .int j_value, .int j_fault, .int j_place, .int j_latest, .ref m_low, .ref m_high, .ref m_first, .ref m_second, .ref m_lines, .ref m_others, .int j_shiftFirst, .int j_shiftMany, .int j_shiftLow, .int j_shiftHigh])), (m_now, .inl (kI, 192, .inl g_now)), (m_low, .inl (kI, 1000, .inl g_low)), (m_high, .inl (kI, 1000, .inl g_high)), (m_lines, .inl (kZ, 200, .inl g_lines)), (m_others, .inl (kZ, 200, .inl g_others))])) (va_Qi (fun (r : Int32) (_ : Unit) => True) (fun (_ : Unit) t => ∃ (n_low : Nat → Int32) (n_high : Nat → Int32) (n_lines : Nat → Int32) (n_others : Nat → Int32), va_P D vwCl [(h0, .inr (10, [.ref m_now, .ref m_draft, .ref m_past, .int j_acts, .ref m_images, .ref m_kept, .ref m_tape, .int j_taped, .int j_at, .int j_start, .int j_token, .int j_value, .int j_fault, .int j_place, .int j_latest, .ref m_low, .ref m_high, .ref m_first, .ref m_second, .ref m_lines, .ref m_others, .int j_shiftFirst, .int j_shiftMany, .int j_shiftLow, .int j_shiftHigh])), (m_now, .inl (kI, 192, .inl g_now)), (m_low, .inl (kI, 1000, .inl n_low)), (m_high, .inl (kI, 1000, .inl n_high)), (m_lines, .inl (kZ, 200, .inl n_lines)), (m_others, .inl (kZ, 200, .inl n_others))] t.heap ∧ va_K D vwCl [(kI, .int), (kZ, .boolean)] t ∧ va_D (va_A [(h0, .inr (10, [.ref m_now, .ref m_draft, .ref m_past, .int j_acts, .ref m_images, .ref m_kept, .ref m_tape, .int j_taped, .int j_at, .int j_start, .int j_token, .int j_value, .int j_fault, .int j_place, .int j_latest, .ref m_low, .ref m_high, .ref m_first, .ref m_second, .ref m_lines, .ref m_others, .int j_shiftFirst, .int j_shiftMany, .int j_shiftLow, .int j_shiftHigh])), (m_now, .inl (kI, 192, .inl g_now)), (m_low, .inl (kI, 1000, .inl g_low)), (m_high, .inl (kI, 1000, .inl g_high)), (m_lines, .inl (kZ, 200, .inl g_lines)), (m_others, .inl (kZ, 200, .inl g_others))] sz) [(h0, .inr (10, [.ref m_now, .ref m_draft, .ref m_past, .int j_acts, .ref m_images, .ref m_kept, .ref m_tape, .int j_taped, .int j_at, .int j_start, .int j_token, .int j_value, .int j_fault, .int j_place, .int j_latest, .ref m_low, .ref m_high, .ref m_first, .ref m_second, .ref m_lines, .ref m_others, .int j_shiftFirst, .int j_shiftMany, .int j_shiftLow, .int j_shiftHigh])), (m_now, .inl (kI, 192, .inl g_now)), (m_low, .inl (kI, 1000, .inl n_low)), (m_high, .inl (kI, 1000, .inl n_high)), (m_lines, .inl (kZ, 200, .inl n_lines)), (m_others, .inl (kZ, 200, .inl n_others))] ∧ bP n_low ∧ bP n_high) (va_A [(h0, .inr (10, [.ref m_now, .ref m_draft, .ref m_past, .int j_acts, .ref m_images, .ref m_kept, .ref m_tape, .int j_taped, .int j_at, .int j_start, .int j_token, .int j_value, .int j_fault, .int j_place, .int j_latest, .ref m_low, .ref m_high, .ref m_first, .ref m_second, .ref m_lines, .ref m_others, .int j_shiftFirst, .int j_shiftMany, .int j_shiftLow, .int j_shiftHigh])), (m_now, .inl (kI, 192, .inl g_now)), (m_low, .inl (kI, 1000, .inl g_low)), (m_high, .inl (kI, 1000, .inl g_high)), (m_lines, .inl (kZ, 200, .inl g_lines)), (m_others, .inl (kZ, 200, .inl g_others))] sz)) 0 0 (va_A [(h0, .inr (10, [.ref m_now, .ref m_draft, .ref m_past, .int j_acts, .ref m_images, .ref m_kept, .ref m_tape, .int j_taped, .int j_at, .int j_start, .int j_token, .int j_value, .int j_fault, .int j_place, .int j_latest, .ref m_low, .ref m_high, .ref m_first, .ref m_second, .ref m_lines, .ref m_others, .int j_shiftFirst, .int j_shiftMany, .int j_shiftLow, .int j_shiftHigh])), (m_now, .inl (kI, 192, .inl g_now)), (m_low, .inl (kI, 1000, .inl g_low)), (m_high, .inl (kI, 1000, .inl g_high)), (m_lines, .inl (kZ, 200, .inl g_lines)), (m_others, .inl (kZ, 200, .inl g_others))] sz) := by
  refine Met.ofW (cc := cX10_meet) (maxL := 7) (ret := (some .int)) (by decide) rfl ?_
  intro p e s m args below meth c s₁ B hml hv
  obtain ⟨rfl, hsz, hP, hK, hD0⟩ := hv
  have hx := B.exec
  have hb := B.bytes
  have hr := B.returns
  have hts := atoms_spec (ws := w_X10_meet) B.pre
  have hown : s.vm.findClass RX10 = some m.cls := findClass_of_methodNamed B.named
  have hlocks := B.notSynchronized
  subst hsz
  have hD := hD0.self (sz := s.heap.size)
  generalize hAe : va_A [(h0, .inr (10, [.ref m_now, .ref m_draft, .ref m_past, .int j_acts, .ref m_images, .ref m_kept, .ref m_tape, .int j_taped, .int j_at, .int j_start, .int j_token, .int j_value, .int j_fault, .int j_place, .int j_latest, .ref m_low, .ref m_high, .ref m_first, .ref m_second, .ref m_lines, .ref m_others, .int j_shiftFirst, .int j_shiftMany, .int j_shiftLow, .int j_shiftHigh])), (m_now, .inl (kI, 192, .inl g_now)), (m_low, .inl (kI, 1000, .inl g_low)), (m_high, .inl (kI, 1000, .inl g_high)), (m_lines, .inl (kZ, 200, .inl g_lines)), (m_others, .inl (kZ, 200, .inl g_others))] s.heap.size = A at hD ⊢
  have hA : ∀ q : Nat, s.heap.size ≤ q → A q := fun q h => by rw [← hAe]; exact Or.inr h
  have hS : va_S A s.heap s.heap [] := va_S.rf
  have hP : va_P D vwCl [(h0, .inr (10, [.ref m_now, .ref m_draft, .ref m_past, .int j_acts, .ref m_images, .ref m_kept, .ref m_tape, .int j_taped, .int j_at, .int j_start, .int j_token, .int j_value, .int j_fault, .int j_place, .int j_latest, .ref m_low, .ref m_high, .ref m_first, .ref m_second, .ref m_lines, .ref m_others, .int j_shiftFirst, .int j_shiftMany, .int j_shiftLow, .int j_shiftHigh])), (m_now, .inl (kI, 192, .inl g_now)), (m_low, .inl (kI, 1000, .inl g_low)), (m_high, .inl (kI, 1000, .inl g_high)), (m_lines, .inl (kZ, 200, .inl g_lines)), (m_others, .inl (kZ, 200, .inl g_others))] s.heap := hP
  have hl := lv_entry ([.ref h0, .int i_0, .int i_1, .int i_2]) (n := 7) (Nat.le_of_ble_eq_true rfl)
  rw [lg_entry_eq]
  generalize (lg_sl ([.ref h0, .int i_0, .int i_1, .int i_2]) ++ List.replicate (7 - (lg_sl ([.ref h0, .int i_0, .int i_1, .int i_2])).length) Slot.unset).toArray = ls at hl ⊢
  have hl : lv_has ls 7 [(0, .ref h0), (1, .int i_0), (2, .int i_1), (3, .int i_2)] := hl
  obtain ⟨H, hHe⟩ : ∃ H : Heap, H = s.heap := ⟨_, rfl⟩
  rw [← hHe] at hP
  have hS : va_S A s.heap H [] := by rw [hHe]; exact hS
  refine pw_heap hHe ?_
  refine lv_aload_n hx hb dX10_meet_0 rfl (lv_at hl 0 rfl) ?_
  refine lv_iload_n hx hb dX10_meet_1 rfl (lv_at hl 1 rfl) ?_
  have hPc := hP.sub (ws' := [(h0, .inr (10, [.ref m_now, .ref m_draft, .ref m_past, .int j_acts, .ref m_images, .ref m_kept, .ref m_tape, .int j_taped, .int j_at, .int j_start, .int j_token, .int j_value, .int j_fault, .int j_place, .int j_latest, .ref m_low, .ref m_high, .ref m_first, .ref m_second, .ref m_lines, .ref m_others, .int j_shiftFirst, .int j_shiftMany, .int j_shiftLow, .int j_shiftHigh])), (m_now, .inl (kI, 192, .inl g_now))]) [0, 1] rfl
  have hKc := hK.sub (tys' := [(kI, .int)]) [0] rfl
  refine va_calli (va_runV (As := [.int i_0]) (rest := []) ⟨hx, hb, hml, hown, hts⟩ (c_X10_isCitation l D h0 i_0 m_now m_draft m_past j_acts m_images m_kept m_tape j_taped j_at j_start j_token j_value j_fault j_place j_latest m_low m_high m_first m_second m_lines m_others j_shiftFirst j_shiftMany j_shiftLow j_shiftHigh kI g_now) (cwV 1 hts g_X10_meet_X10_isCitation rfl rfl rfl (by decide +kernel) ⟨Nat.le_of_ble_eq_true rfl, Nat.le_of_ble_eq_true rfl⟩) ⟨fun a U g mk q => by obtain ⟨q0, qP, qK⟩ := q; exact ⟨q0, qP, va_K.moved (u := U) (U := U.calling g mk a) (Vm.Alike.refl U.vm) qK⟩, va_recv hKc hPc (ci := 10) (q0 := 0) rfl rfl, fun U hU hW => ⟨rfl, by rw [hU]; exact hPc, va_K.moved hW.alike hKc⟩⟩ rfl rfl hl.1 rfl (lv_room (Nat.le_of_ble_eq_true rfl)) dX10_meet_2 ⟨Nat.le_of_ble_eq_true rfl, Nat.le_of_ble_eq_true rfl⟩) hS (fun _ _ h => h.elim) (fun _ h => h.elim) (fun r1 u t H1 locs ht hvm hw hB hz1 hk1 hS => ?_)
  have hP := pw_keep hP (fun q hq => hk1 q hq (fun h => h))
  generalize H1 = H at hP hS ⊢
  refine W.widen (k := 0) (n := 0) (Nat.le_of_ble_eq_true rfl) (Nat.le_of_ble_eq_true rfl) ?_
  have bor1 := hw.1
  have zor1 := pw_boolI bor1
  have hfr1 := hw.2
  refine lv_if_eq (tgt := 28) hx hb dX10_meet_5 (by decide) (fun c2 => ?_) (fun c2 => ?_)
  · have nc2 : r1.toInt = 0 := pw_eq c2 rfl (by decide)
    refine lv_ldc hx hb hown (hts (.constant RX10 177 (-1000001)) (List.mem_of_getElem? (i := 15) rfl)) dX10_meet_28 ?_
    have hP9 := hP.sub (ws' := [(h0, .inr (10, [.ref m_now, .ref m_draft, .ref m_past, .int j_acts, .ref m_images, .ref m_kept, .ref m_tape, .int j_taped, .int j_at, .int j_start, .int j_token, .int j_value, .int j_fault, .int j_place, .int j_latest, .ref m_low, .ref m_high, .ref m_first, .ref m_second, .ref m_lines, .ref m_others, .int j_shiftFirst, .int j_shiftMany, .int j_shiftLow, .int j_shiftHigh])), (m_now, .inl (kI, 192, .inl g_now)), (m_low, .inl (kI, 1000, .inl g_low)), (m_high, .inl (kI, 1000, .inl g_high)), (m_lines, .inl (kZ, 200, .inl g_lines)), (m_others, .inl (kZ, 200, .inl g_others))]) [0, 1, 2, 3, 4, 5] rfl
    have hD9 := hD.sub (ws' := [(h0, .inr (10, [.ref m_now, .ref m_draft, .ref m_past, .int j_acts, .ref m_images, .ref m_kept, .ref m_tape, .int j_taped, .int j_at, .int j_start, .int j_token, .int j_value, .int j_fault, .int j_place, .int j_latest, .ref m_low, .ref m_high, .ref m_first, .ref m_second, .ref m_lines, .ref m_others, .int j_shiftFirst, .int j_shiftMany, .int j_shiftLow, .int j_shiftHigh])), (m_now, .inl (kI, 192, .inl g_now)), (m_low, .inl (kI, 1000, .inl g_low)), (m_high, .inl (kI, 1000, .inl g_high)), (m_lines, .inl (kZ, 200, .inl g_lines)), (m_others, .inl (kZ, 200, .inl g_others))]) [0, 1, 2, 3, 4, 5] (by decide) rfl
    have hK9 := hK.sub (tys' := [(kI, .int), (kZ, .boolean)]) [0, 1] rfl
    refine W.widen (k := 0) (n := 0) (Nat.le_of_ble_eq_true rfl) (Nat.le_of_ble_eq_true rfl) ?_
    exact W.iret (v := (-1000001)) hx hb hr (fun t ht hW => ⟨⟨(-1000001), (), rfl, trivial, g_low, g_high, g_lines, g_others, by rw [ht]; exact hP9, va_K.moved hW.alike hK9, hD9, hg_low, hg_high⟩, hS.F ht⟩) hS.2.2 dX10_meet_30
  · have nc2 : r1.toInt ≠ 0 := pw_ne c2 rfl (by decide)
    refine lv_aload_n hx hb dX10_meet_8 rfl (lv_at hl 0 rfl) ?_
    refine lv_iload_n hx hb dX10_meet_9 rfl (lv_at hl 2 rfl) ?_
    have hPc := hP.sub (ws' := [(h0, .inr (10, [.ref m_now, .ref m_draft, .ref m_past, .int j_acts, .ref m_images, .ref m_kept, .ref m_tape, .int j_taped, .int j_at, .int j_start, .int j_token, .int j_value, .int j_fault, .int j_place, .int j_latest, .ref m_low, .ref m_high, .ref m_first, .ref m_second, .ref m_lines, .ref m_others, .int j_shiftFirst, .int j_shiftMany, .int j_shiftLow, .int j_shiftHigh])), (m_now, .inl (kI, 192, .inl g_now))]) [0, 1] rfl
    have hKc := hK.sub (tys' := [(kI, .int)]) [0] rfl
    refine va_calli (va_runV (As := [.int i_1]) (rest := []) ⟨hx, hb, hml, hown, hts⟩ (c_X10_isCitation l D h0 i_1 m_now m_draft m_past j_acts m_images m_kept m_tape j_taped j_at j_start j_token j_value j_fault j_place j_latest m_low m_high m_first m_second m_lines m_others j_shiftFirst j_shiftMany j_shiftLow j_shiftHigh kI g_now) (cwV 1 hts g_X10_meet_X10_isCitation rfl rfl rfl (by decide +kernel) ⟨Nat.le_of_ble_eq_true rfl, Nat.le_of_ble_eq_true rfl⟩) ⟨fun a U g mk q => by obtain ⟨q0, qP, qK⟩ := q; exact ⟨q0, qP, va_K.moved (u := U) (U := U.calling g mk a) (Vm.Alike.refl U.vm) qK⟩, va_recv hKc hPc (ci := 10) (q0 := 0) rfl rfl, fun U hU hW => ⟨rfl, by rw [hU]; exact hPc, va_K.moved hW.alike hKc⟩⟩ rfl rfl hl.1 rfl (lv_room (Nat.le_of_ble_eq_true rfl)) dX10_meet_10 ⟨Nat.le_of_ble_eq_true rfl, Nat.le_of_ble_eq_true rfl⟩) hS (fun _ _ h => h.elim) (fun _ h => h.elim) (fun r3 u t H1 locs ht hvm hw hB hz1 hk1 hS => ?_)
    have hP := pw_keep hP (fun q hq => hk1 q hq (fun h => h))
    generalize H1 = H at hP hS ⊢
    refine W.widen (k := 0) (n := 0) (Nat.le_of_ble_eq_true rfl) (Nat.le_of_ble_eq_true rfl) ?_
    have bor3 := hw.1
    have zor3 := pw_boolI bor3
    have hfr3 := hw.2
    refine lv_if_eq (tgt := 28) hx hb dX10_meet_13 (by decide) (fun c4 => ?_) (fun c4 => ?_)
    · have nc4 : r3.toInt = 0 := pw_eq c4 rfl (by decide)
      refine lv_ldc hx hb hown (hts (.constant RX10 177 (-1000001)) (List.mem_of_getElem? (i := 15) rfl)) dX10_meet_28 ?_
      have hP9 := hP.sub (ws' := [(h0, .inr (10, [.ref m_now, .ref m_draft, .ref m_past, .int j_acts, .ref m_images, .ref m_kept, .ref m_tape, .int j_taped, .int j_at, .int j_start, .int j_token, .int j_value, .int j_fault, .int j_place, .int j_latest, .ref m_low, .ref m_high, .ref m_first, .ref m_second, .ref m_lines, .ref m_others, .int j_shiftFirst, .int j_shiftMany, .int j_shiftLow, .int j_shiftHigh])), (m_now, .inl (kI, 192, .inl g_now)), (m_low, .inl (kI, 1000, .inl g_low)), (m_high, .inl (kI, 1000, .inl g_high)), (m_lines, .inl (kZ, 200, .inl g_lines)), (m_others, .inl (kZ, 200, .inl g_others))]) [0, 1, 2, 3, 4, 5] rfl
      have hD9 := hD.sub (ws' := [(h0, .inr (10, [.ref m_now, .ref m_draft, .ref m_past, .int j_acts, .ref m_images, .ref m_kept, .ref m_tape, .int j_taped, .int j_at, .int j_start, .int j_token, .int j_value, .int j_fault, .int j_place, .int j_latest, .ref m_low, .ref m_high, .ref m_first, .ref m_second, .ref m_lines, .ref m_others, .int j_shiftFirst, .int j_shiftMany, .int j_shiftLow, .int j_shiftHigh])), (m_now, .inl (kI, 192, .inl g_now)), (m_low, .inl (kI, 1000, .inl g_low)), (m_high, .inl (kI, 1000, .inl g_high)), (m_lines, .inl (kZ, 200, .inl g_lines)), (m_others, .inl (kZ, 200, .inl g_others))]) [0, 1, 2, 3, 4, 5] (by decide) rfl
      have hK9 := hK.sub (tys' := [(kI, .int), (kZ, .boolean)]) [0, 1] rfl
      refine W.widen (k := 0) (n := 0) (Nat.le_of_ble_eq_true rfl) (Nat.le_of_ble_eq_true rfl) ?_
      exact W.iret (v := (-1000001)) hx hb hr (fun t ht hW => ⟨⟨(-1000001), (), rfl, trivial, g_low, g_high, g_lines, g_others, by rw [ht]; exact hP9, va_K.moved hW.alike hK9, hD9, hg_low, hg_high⟩, hS.F ht⟩) hS.2.2 dX10_meet_30
    · have nc4 : r3.toInt ≠ 0 := pw_ne c4 rfl (by decide)
      refine lv_iload_n hx hb dX10_meet_16 rfl (lv_at hl 3 rfl) ?_
      refine lv_i2l (v := i_2.toInt64) hx hb dX10_meet_17 rfl ?_
      refine lv_lconst (v := 0) hx hb dX10_meet_18 (by decide) ?_
      refine lv_ldc2 hx hb hown (hts (.constantLong RX10 219 (2)) (List.mem_of_getElem? (i := 16) rfl)) dX10_meet_19 ?_
      have hPc := hP.sub (ws' := []) [] rfl
      have hKc := hK.sub (tys' := []) [] rfl
      refine va_calli (va_runS (As := [.long i_2.toInt64, .long 0, .long 2]) (rest := []) ⟨hx, hb, hml, hown, hts⟩ (c_X10_in0 l D i_2.toInt64 0 2) (cwS 3 hts g_X10_meet_X10_in0 rfl rfl rfl (by decide +kernel) ⟨Nat.le_of_ble_eq_true rfl, Nat.le_of_ble_eq_true rfl⟩) ⟨fun a U g mk q => by obtain ⟨q0, qP, qK⟩ := q; exact ⟨q0, qP, va_K.moved (u := U) (U := U.calling g mk a) (Vm.Alike.refl U.vm) qK⟩, fun U hU hW => ⟨rfl, by rw [hU]; exact hPc, va_K.moved hW.alike hKc⟩⟩ rfl rfl hl.1 rfl (lv_room (Nat.le_of_ble_eq_true rfl)) dX10_meet_22 ⟨Nat.le_of_ble_eq_true rfl, Nat.le_of_ble_eq_true rfl⟩) hS (fun _ _ h => h.elim) (fun _ h => h.elim) (fun r5 u t H1 locs ht hvm hw hB hz1 hk1 hS => ?_)
      have hP := pw_keep hP (fun q hq => hk1 q hq (fun h => h))
      generalize H1 = H at hP hS ⊢
      refine W.widen (k := 0) (n := 0) (Nat.le_of_ble_eq_true rfl) (Nat.le_of_ble_eq_true rfl) ?_
      have bor5 := hw.1
      have zor5 := pw_boolI bor5
      have hfr5 := hw.2
      have kl0 : (0 : Int64).toInt = 0 := by decide
      have kl2 : (2 : Int64).toInt = 2 := by decide
      try simp only [Int32.toInt_toInt64] at hfr5
      refine lv_if_ne (tgt := 31) hx hb dX10_meet_25 (by decide) (fun c6 => ?_) (fun c6 => ?_)
      · have nc6 : r5.toInt ≠ 0 := pw_ne c6 rfl (by decide)
        refine lv_aload_n hx hb dX10_meet_31 rfl (lv_at hl 0 rfl) ?_
        have hPc := hP.sub (ws' := [(h0, .inr (10, [.ref m_now, .ref m_draft, .ref m_past, .int j_acts, .ref m_images, .ref m_kept, .ref m_tape, .int j_taped, .int j_at, .int j_start, .int j_token, .int j_value, .int j_fault, .int j_place, .int j_latest, .ref m_low, .ref m_high, .ref m_first, .ref m_second, .ref m_lines, .ref m_others, .int j_shiftFirst, .int j_shiftMany, .int j_shiftLow, .int j_shiftHigh])), (m_now, .inl (kI, 192, .inl g_now)), (m_low, .inl (kI, 1000, .inl g_low)), (m_high, .inl (kI, 1000, .inl g_high))]) [0, 1, 2, 3] rfl
        have hKc := hK.sub (tys' := [(kI, .int)]) [0] rfl
        have hDc := hD.sub (ws' := [(h0, .inr (10, [.ref m_now, .ref m_draft, .ref m_past, .int j_acts, .ref m_images, .ref m_kept, .ref m_tape, .int j_taped, .int j_at, .int j_start, .int j_token, .int j_value, .int j_fault, .int j_place, .int j_latest, .ref m_low, .ref m_high, .ref m_first, .ref m_second, .ref m_lines, .ref m_others, .int j_shiftFirst, .int j_shiftMany, .int j_shiftLow, .int j_shiftHigh])), (m_now, .inl (kI, 192, .inl g_now)), (m_low, .inl (kI, 1000, .inl g_low)), (m_high, .inl (kI, 1000, .inl g_high))]) [0, 1, 2, 3] (by decide) rfl
        have hFc := va_free (wc := [(h0, .inr (10, [.ref m_now, .ref m_draft, .ref m_past, .int j_acts, .ref m_images, .ref m_kept, .ref m_tape, .int j_taped, .int j_at, .int j_start, .int j_token, .int j_value, .int j_fault, .int j_place, .int j_latest, .ref m_low, .ref m_high, .ref m_first, .ref m_second, .ref m_lines, .ref m_others, .int j_shiftFirst, .int j_shiftMany, .int j_shiftLow, .int j_shiftHigh])), (m_now, .inl (kI, 192, .inl g_now)), (m_low, .inl (kI, 1000, .inl g_low)), (m_high, .inl (kI, 1000, .inl g_high))]) hD hS hA [0, 1, 2, 3] rfl
        refine va_callv (va_runV (As := []) (rest := []) ⟨hx, hb, hml, hown, hts⟩ (c_X10_lays l D h0 m_now m_draft m_past j_acts m_images m_kept m_tape j_taped j_at j_start j_token j_value j_fault j_place j_latest m_low m_high m_first m_second m_lines m_others j_shiftFirst j_shiftMany j_shiftLow j_shiftHigh kI g_now g_low g_high H.size hg_now hg_low hg_high) (cwV 0 hts g_X10_meet_X10_lays rfl rfl rfl (by decide +kernel) ⟨Nat.le_of_ble_eq_true rfl, Nat.le_of_ble_eq_true rfl⟩) ⟨fun a U g mk q => by obtain ⟨q0, q1, qP, qK, qD⟩ := q; exact ⟨q0, q1, qP, va_K.moved (u := U) (U := U.calling g mk a) (Vm.Alike.refl U.vm) qK, qD⟩, va_recv hKc hPc (ci := 10) (q0 := 0) rfl rfl, fun U hU hW => ⟨rfl, by rw [hU], by rw [hU]; exact hPc, va_K.moved hW.alike hKc, hDc.weaken (fun _ _ _ _ => trivial)⟩⟩ rfl rfl hl.1 rfl (lv_room (Nat.le_of_ble_eq_true rfl)) dX10_meet_32 ⟨Nat.le_of_ble_eq_true rfl, Nat.le_of_ble_eq_true rfl⟩) hS (fun q _ h => hFc q h) hFc (fun u t H1 locs ht hvm hw hB hz1 hk1 hS => ?_)
        obtain ⟨y8, y9, hP1, hK1, hD1, hy8, hy9⟩ := hB
        rw [ht] at hP1
        have hK1 := va_K.moved hvm.symm hK1
        obtain ⟨hP, hD⟩ := va_join (wr := [(m_lines, .inl (kZ, 200, .inl g_lines)), (m_others, .inl (kZ, 200, .inl g_others))]) (w1 := [(h0, .inr (10, [.ref m_now, .ref m_draft, .ref m_past, .int j_acts, .ref m_images, .ref m_kept, .ref m_tape, .int j_taped, .int j_at, .int j_start, .int j_token, .int j_value, .int j_fault, .int j_place, .int j_latest, .ref m_low, .ref m_high, .ref m_first, .ref m_second, .ref m_lines, .ref m_others, .int j_shiftFirst, .int j_shiftMany, .int j_shiftLow, .int j_shiftHigh])), (m_now, .inl (kI, 192, .inl g_now)), (m_low, .inl (kI, 1000, .inl y8)), (m_high, .inl (kI, 1000, .inl y9))]) hP hD [0, 1, 2, 3] [4, 5] rfl rfl (by decide) (by decide) hk1 hFc hP1 hD1
        have hK := (hK.sub (tys' := [(kI, .int), (kZ, .boolean)]) [0, 1] rfl).app hK1
        generalize H1 = H at hP hS ⊢
        have hP : va_P D vwCl [(m_lines, .inl (kZ, 200, .inl g_lines)), (m_others, .inl (kZ, 200, .inl g_others)), (h0, .inr (10, [.ref m_now, .ref m_draft, .ref m_past, .int j_acts, .ref m_images, .ref m_kept, .ref m_tape, .int j_taped, .int j_at, .int j_start, .int j_token, .int j_value, .int j_fault, .int j_place, .int j_latest, .ref m_low, .ref m_high, .ref m_first, .ref m_second, .ref m_lines, .ref m_others, .int j_shiftFirst, .int j_shiftMany, .int j_shiftLow, .int j_shiftHigh])), (m_now, .inl (kI, 192, .inl g_now)), (m_low, .inl (kI, 1000, .inl y8)), (m_high, .inl (kI, 1000, .inl y9))] H := hP
        have hD : va_D A [(m_lines, .inl (kZ, 200, .inl g_lines)), (m_others, .inl (kZ, 200, .inl g_others)), (h0, .inr (10, [.ref m_now, .ref m_draft, .ref m_past, .int j_acts, .ref m_images, .ref m_kept, .ref m_tape, .int j_taped, .int j_at, .int j_start, .int j_token, .int j_value, .int j_fault, .int j_place, .int j_latest, .ref m_low, .ref m_high, .ref m_first, .ref m_second, .ref m_lines, .ref m_others, .int j_shiftFirst, .int j_shiftMany, .int j_shiftLow, .int j_shiftHigh])), (m_now, .inl (kI, 192, .inl g_now)), (m_low, .inl (kI, 1000, .inl y8)), (m_high, .inl (kI, 1000, .inl y9))] := hD
        have hK : va_K D vwCl [(kI, .int), (kZ, .boolean), (kI, .int)] s := hK
        refine W.widen (k := 0) (n := 0) (Nat.le_of_ble_eq_true rfl) (Nat.le_of_ble_eq_true rfl) ?_
        refine lv_aload_n hx hb dX10_meet_35 rfl (lv_at hl 0 rfl) ?_
        refine lv_iload_n hx hb dX10_meet_36 rfl (lv_at hl 1 rfl) ?_
        refine lv_aload_n hx hb dX10_meet_37 rfl (lv_at hl 0 rfl) ?_
        refine lv_iload_n hx hb dX10_meet_38 rfl (lv_at hl 1 rfl) ?_
        refine lv_iconst (v := 1) hx hb dX10_meet_39 (by decide) ?_
        have kk1 : (1 : Int32).toInt = 1 := by decide
        have hPc := hP.sub (ws' := [(h0, .inr (10, [.ref m_now, .ref m_draft, .ref m_past, .int j_acts, .ref m_images, .ref m_kept, .ref m_tape, .int j_taped, .int j_at, .int j_start, .int j_token, .int j_value, .int j_fault, .int j_place, .int j_latest, .ref m_low, .ref m_high, .ref m_first, .ref m_second, .ref m_lines, .ref m_others, .int j_shiftFirst, .int j_shiftMany, .int j_shiftLow, .int j_shiftHigh])), (m_now, .inl (kI, 192, .inl g_now))]) [2, 3] rfl
        have hKc := hK.sub (tys' := [(kI, .int)]) [0] rfl
        refine va_calli (va_runV (As := [.int i_0, .int 1]) (rest := [.int i_0, .ref h0]) ⟨hx, hb, hml, hown, hts⟩ (c_X10_cited l D h0 i_0 1 m_now m_draft m_past j_acts m_images m_kept m_tape j_taped j_at j_start j_token j_value j_fault j_place j_latest m_low m_high m_first m_second m_lines m_others j_shiftFirst j_shiftMany j_shiftLow j_shiftHigh kI g_now i_0.toInt.toNat 1 (by first | decide | omega) (by first | decide | omega) (by first | decide | omega) (by first | decide | omega) (by first | omega | decide | (have hz0 : (0 : Int32).toInt = 0 := (by decide); omega)) (by first | omega | decide | (have hz0 : (0 : Int32).toInt = 0 := (by decide); omega))) (cwV 2 hts g_X10_meet_X10_cited rfl rfl rfl (by decide +kernel) ⟨Nat.le_of_ble_eq_true rfl, Nat.le_of_ble_eq_true rfl⟩) ⟨fun a U g mk q => by obtain ⟨q0, qP, qK⟩ := q; exact ⟨q0, qP, va_K.moved (u := U) (U := U.calling g mk a) (Vm.Alike.refl U.vm) qK⟩, va_recv hKc hPc (ci := 10) (q0 := 0) rfl rfl, fun U hU hW => ⟨rfl, by rw [hU]; exact hPc, va_K.moved hW.alike hKc⟩⟩ rfl rfl hl.1 rfl (lv_room (Nat.le_of_ble_eq_true rfl)) dX10_meet_40 ⟨Nat.le_of_ble_eq_true rfl, Nat.le_of_ble_eq_true rfl⟩) hS (fun _ _ h => h.elim) (fun _ h => h.elim) (fun r10 u t H1 locs ht hvm hw hB hz1 hk1 hS => ?_)
        have hP := pw_keep hP (fun q hq => hk1 q hq (fun h => h))
        generalize H1 = H at hP hS ⊢
        refine W.widen (k := 0) (n := 0) (Nat.le_of_ble_eq_true rfl) (Nat.le_of_ble_eq_true rfl) ?_
        have hfr10 := hw
        have ncr10 := gV_c hg_now hfr10 (by omega)
        refine lv_aload_n hx hb dX10_meet_43 rfl (lv_at hl 0 rfl) ?_
        refine va_get (D := D) (ci := 10) (v := .ref m_lines) (C := RX10) (T := TX10) (N := 25) hx hb hts (fun _ h => List.mem_cons_of_mem _ (List.mem_append_right _ h)) hown hK hP 2 rfl rfl 19 (by decide) (hts (.fieldLink RX10 41 "LineCitesModel" "lines" "[Z") (List.mem_of_getElem? (i := 30) rfl)) (fun _ h9 => h9) rfl dX10_meet_44 ?_
        have hPc := hP.sub (ws' := [(h0, .inr (10, [.ref m_now, .ref m_draft, .ref m_past, .int j_acts, .ref m_images, .ref m_kept, .ref m_tape, .int j_taped, .int j_at, .int j_start, .int j_token, .int j_value, .int j_fault, .int j_place, .int j_latest, .ref m_low, .ref m_high, .ref m_first, .ref m_second, .ref m_lines, .ref m_others, .int j_shiftFirst, .int j_shiftMany, .int j_shiftLow, .int j_shiftHigh])), (m_now, .inl (kI, 192, .inl g_now)), (m_low, .inl (kI, 1000, .inl y8)), (m_high, .inl (kI, 1000, .inl y9)), (m_lines, .inl (kZ, 200, .inl g_lines))]) [2, 3, 4, 5, 0] rfl
        have hKc := hK.sub (tys' := [(kI, .int), (kZ, .boolean)]) [0, 1] rfl
        have hDc := hD.sub (ws' := [(h0, .inr (10, [.ref m_now, .ref m_draft, .ref m_past, .int j_acts, .ref m_images, .ref m_kept, .ref m_tape, .int j_taped, .int j_at, .int j_start, .int j_token, .int j_value, .int j_fault, .int j_place, .int j_latest, .ref m_low, .ref m_high, .ref m_first, .ref m_second, .ref m_lines, .ref m_others, .int j_shiftFirst, .int j_shiftMany, .int j_shiftLow, .int j_shiftHigh])), (m_now, .inl (kI, 192, .inl g_now)), (m_low, .inl (kI, 1000, .inl y8)), (m_high, .inl (kI, 1000, .inl y9)), (m_lines, .inl (kZ, 200, .inl g_lines))]) [2, 3, 4, 5, 0] (by decide) rfl
        have hFc := va_free (wc := [(h0, .inr (10, [.ref m_now, .ref m_draft, .ref m_past, .int j_acts, .ref m_images, .ref m_kept, .ref m_tape, .int j_taped, .int j_at, .int j_start, .int j_token, .int j_value, .int j_fault, .int j_place, .int j_latest, .ref m_low, .ref m_high, .ref m_first, .ref m_second, .ref m_lines, .ref m_others, .int j_shiftFirst, .int j_shiftMany, .int j_shiftLow, .int j_shiftHigh])), (m_now, .inl (kI, 192, .inl g_now)), (m_low, .inl (kI, 1000, .inl y8)), (m_high, .inl (kI, 1000, .inl y9)), (m_lines, .inl (kZ, 200, .inl g_lines))]) hD hS hA [2, 3, 4, 5, 0] rfl
        refine va_callv (va_runV (As := [.int i_0, .int r10, .ref m_lines]) (rest := []) ⟨hx, hb, hml, hown, hts⟩ (c_X10_laysLines l D h0 i_0 r10 m_lines m_now m_draft m_past j_acts m_images m_kept m_tape j_taped j_at j_start j_token j_value j_fault j_place j_latest m_low m_high m_first m_second m_lines m_others j_shiftFirst j_shiftMany j_shiftLow j_shiftHigh kI g_now y8 y9 kZ g_lines H.size (by first | decide | omega) (by first | decide | omega) (by first | decide | omega) (by first | decide | omega) hg_now hy8 hy9) (cwV 3 hts g_X10_meet_X10_laysLines rfl rfl rfl (by decide +kernel) ⟨Nat.le_of_ble_eq_true rfl, Nat.le_of_ble_eq_true rfl⟩) ⟨fun a U g mk q => by obtain ⟨q0, q1, qP, qK, qD⟩ := q; exact ⟨q0, q1, qP, va_K.moved (u := U) (U := U.calling g mk a) (Vm.Alike.refl U.vm) qK, qD⟩, va_recv hKc hPc (ci := 10) (q0 := 0) rfl rfl, fun U hU hW => ⟨rfl, by rw [hU], by rw [hU]; exact hPc, va_K.moved hW.alike hKc, hDc.weaken (fun _ _ _ _ => trivial)⟩⟩ rfl rfl hl.1 rfl (lv_room (Nat.le_of_ble_eq_true rfl)) dX10_meet_47 ⟨Nat.le_of_ble_eq_true rfl, Nat.le_of_ble_eq_true rfl⟩) hS (fun q _ h => hFc q h) hFc (fun u t H1 locs ht hvm hw hB hz1 hk1 hS => ?_)
        obtain ⟨y12, hP1, hK1, hD1⟩ := hB
        rw [ht] at hP1
        have hK1 := va_K.moved hvm.symm hK1
        obtain ⟨hP, hD⟩ := va_join (wr := [(m_others, .inl (kZ, 200, .inl g_others))]) (w1 := [(h0, .inr (10, [.ref m_now, .ref m_draft, .ref m_past, .int j_acts, .ref m_images, .ref m_kept, .ref m_tape, .int j_taped, .int j_at, .int j_start, .int j_token, .int j_value, .int j_fault, .int j_place, .int j_latest, .ref m_low, .ref m_high, .ref m_first, .ref m_second, .ref m_lines, .ref m_others, .int j_shiftFirst, .int j_shiftMany, .int j_shiftLow, .int j_shiftHigh])), (m_now, .inl (kI, 192, .inl g_now)), (m_low, .inl (kI, 1000, .inl y8)), (m_high, .inl (kI, 1000, .inl y9)), (m_lines, .inl (kZ, 200, .inl y12))]) hP hD [2, 3, 4, 5, 0] [1] rfl rfl (by decide) (by decide) hk1 hFc hP1 hD1
        have hK := (hK.sub (tys' := [(kI, .int), (kZ, .boolean), (kI, .int)]) [0, 1, 2] rfl).app hK1
        generalize H1 = H at hP hS ⊢
        have hP : va_P D vwCl [(m_others, .inl (kZ, 200, .inl g_others)), (h0, .inr (10, [.ref m_now, .ref m_draft, .ref m_past, .int j_acts, .ref m_images, .ref m_kept, .ref m_tape, .int j_taped, .int j_at, .int j_start, .int j_token, .int j_value, .int j_fault, .int j_place, .int j_latest, .ref m_low, .ref m_high, .ref m_first, .ref m_second, .ref m_lines, .ref m_others, .int j_shiftFirst, .int j_shiftMany, .int j_shiftLow, .int j_shiftHigh])), (m_now, .inl (kI, 192, .inl g_now)), (m_low, .inl (kI, 1000, .inl y8)), (m_high, .inl (kI, 1000, .inl y9)), (m_lines, .inl (kZ, 200, .inl y12))] H := hP
        have hD : va_D A [(m_others, .inl (kZ, 200, .inl g_others)), (h0, .inr (10, [.ref m_now, .ref m_draft, .ref m_past, .int j_acts, .ref m_images, .ref m_kept, .ref m_tape, .int j_taped, .int j_at, .int j_start, .int j_token, .int j_value, .int j_fault, .int j_place, .int j_latest, .ref m_low, .ref m_high, .ref m_first, .ref m_second, .ref m_lines, .ref m_others, .int j_shiftFirst, .int j_shiftMany, .int j_shiftLow, .int j_shiftHigh])), (m_now, .inl (kI, 192, .inl g_now)), (m_low, .inl (kI, 1000, .inl y8)), (m_high, .inl (kI, 1000, .inl y9)), (m_lines, .inl (kZ, 200, .inl y12))] := hD
        have hK : va_K D vwCl [(kI, .int), (kZ, .boolean), (kI, .int), (kI, .int), (kZ, .boolean)] s := hK
        refine W.widen (k := 0) (n := 0) (Nat.le_of_ble_eq_true rfl) (Nat.le_of_ble_eq_true rfl) ?_
        refine lv_aload_n hx hb dX10_meet_50 rfl (lv_at hl 0 rfl) ?_
        refine lv_iload_n hx hb dX10_meet_51 rfl (lv_at hl 2 rfl) ?_
        refine lv_aload_n hx hb dX10_meet_52 rfl (lv_at hl 0 rfl) ?_
        refine lv_iload_n hx hb dX10_meet_53 rfl (lv_at hl 2 rfl) ?_
        refine lv_iconst (v := 1) hx hb dX10_meet_54 (by decide) ?_
        have kk1 : (1 : Int32).toInt = 1 := by decide
        have hPc := hP.sub (ws' := [(h0, .inr (10, [.ref m_now, .ref m_draft, .ref m_past, .int j_acts, .ref m_images, .ref m_kept, .ref m_tape, .int j_taped, .int j_at, .int j_start, .int j_token, .int j_value, .int j_fault, .int j_place, .int j_latest, .ref m_low, .ref m_high, .ref m_first, .ref m_second, .ref m_lines, .ref m_others, .int j_shiftFirst, .int j_shiftMany, .int j_shiftLow, .int j_shiftHigh])), (m_now, .inl (kI, 192, .inl g_now))]) [1, 2] rfl
        have hKc := hK.sub (tys' := [(kI, .int)]) [0] rfl
        refine va_calli (va_runV (As := [.int i_1, .int 1]) (rest := [.int i_1, .ref h0]) ⟨hx, hb, hml, hown, hts⟩ (c_X10_cited l D h0 i_1 1 m_now m_draft m_past j_acts m_images m_kept m_tape j_taped j_at j_start j_token j_value j_fault j_place j_latest m_low m_high m_first m_second m_lines m_others j_shiftFirst j_shiftMany j_shiftLow j_shiftHigh kI g_now i_1.toInt.toNat 1 (by first | decide | omega) (by first | decide | omega) (by first | decide | omega) (by first | decide | omega) (by first | omega | decide | (have hz0 : (0 : Int32).toInt = 0 := (by decide); omega)) (by first | omega | decide | (have hz0 : (0 : Int32).toInt = 0 := (by decide); omega))) (cwV 2 hts g_X10_meet_X10_cited rfl rfl rfl (by decide +kernel) ⟨Nat.le_of_ble_eq_true rfl, Nat.le_of_ble_eq_true rfl⟩) ⟨fun a U g mk q => by obtain ⟨q0, qP, qK⟩ := q; exact ⟨q0, qP, va_K.moved (u := U) (U := U.calling g mk a) (Vm.Alike.refl U.vm) qK⟩, va_recv hKc hPc (ci := 10) (q0 := 0) rfl rfl, fun U hU hW => ⟨rfl, by rw [hU]; exact hPc, va_K.moved hW.alike hKc⟩⟩ rfl rfl hl.1 rfl (lv_room (Nat.le_of_ble_eq_true rfl)) dX10_meet_55 ⟨Nat.le_of_ble_eq_true rfl, Nat.le_of_ble_eq_true rfl⟩) hS (fun _ _ h => h.elim) (fun _ h => h.elim) (fun r13 u t H1 locs ht hvm hw hB hz1 hk1 hS => ?_)
        have hP := pw_keep hP (fun q hq => hk1 q hq (fun h => h))
        generalize H1 = H at hP hS ⊢
        refine W.widen (k := 0) (n := 0) (Nat.le_of_ble_eq_true rfl) (Nat.le_of_ble_eq_true rfl) ?_
        have hfr13 := hw
        have ncr13 := gV_c hg_now hfr13 (by omega)
        refine lv_aload_n hx hb dX10_meet_58 rfl (lv_at hl 0 rfl) ?_
        refine va_get (D := D) (ci := 10) (v := .ref m_others) (C := RX10) (T := TX10) (N := 25) hx hb hts (fun _ h => List.mem_cons_of_mem _ (List.mem_append_right _ h)) hown hK hP 1 rfl rfl 20 (by decide) (hts (.fieldLink RX10 44 "LineCitesModel" "others" "[Z") (List.mem_of_getElem? (i := 50) rfl)) (fun _ h9 => h9) rfl dX10_meet_59 ?_
        have hPc := hP.sub (ws' := [(h0, .inr (10, [.ref m_now, .ref m_draft, .ref m_past, .int j_acts, .ref m_images, .ref m_kept, .ref m_tape, .int j_taped, .int j_at, .int j_start, .int j_token, .int j_value, .int j_fault, .int j_place, .int j_latest, .ref m_low, .ref m_high, .ref m_first, .ref m_second, .ref m_lines, .ref m_others, .int j_shiftFirst, .int j_shiftMany, .int j_shiftLow, .int j_shiftHigh])), (m_now, .inl (kI, 192, .inl g_now)), (m_low, .inl (kI, 1000, .inl y8)), (m_high, .inl (kI, 1000, .inl y9)), (m_others, .inl (kZ, 200, .inl g_others))]) [1, 2, 3, 4, 0] rfl
        have hKc := hK.sub (tys' := [(kI, .int), (kZ, .boolean)]) [0, 1] rfl
        have hDc := hD.sub (ws' := [(h0, .inr (10, [.ref m_now, .ref m_draft, .ref m_past, .int j_acts, .ref m_images, .ref m_kept, .ref m_tape, .int j_taped, .int j_at, .int j_start, .int j_token, .int j_value, .int j_fault, .int j_place, .int j_latest, .ref m_low, .ref m_high, .ref m_first, .ref m_second, .ref m_lines, .ref m_others, .int j_shiftFirst, .int j_shiftMany, .int j_shiftLow, .int j_shiftHigh])), (m_now, .inl (kI, 192, .inl g_now)), (m_low, .inl (kI, 1000, .inl y8)), (m_high, .inl (kI, 1000, .inl y9)), (m_others, .inl (kZ, 200, .inl g_others))]) [1, 2, 3, 4, 0] (by decide) rfl
        have hFc := va_free (wc := [(h0, .inr (10, [.ref m_now, .ref m_draft, .ref m_past, .int j_acts, .ref m_images, .ref m_kept, .ref m_tape, .int j_taped, .int j_at, .int j_start, .int j_token, .int j_value, .int j_fault, .int j_place, .int j_latest, .ref m_low, .ref m_high, .ref m_first, .ref m_second, .ref m_lines, .ref m_others, .int j_shiftFirst, .int j_shiftMany, .int j_shiftLow, .int j_shiftHigh])), (m_now, .inl (kI, 192, .inl g_now)), (m_low, .inl (kI, 1000, .inl y8)), (m_high, .inl (kI, 1000, .inl y9)), (m_others, .inl (kZ, 200, .inl g_others))]) hD hS hA [1, 2, 3, 4, 0] rfl
        refine va_callv (va_runV (As := [.int i_1, .int r13, .ref m_others]) (rest := []) ⟨hx, hb, hml, hown, hts⟩ (c_X10_laysLines l D h0 i_1 r13 m_others m_now m_draft m_past j_acts m_images m_kept m_tape j_taped j_at j_start j_token j_value j_fault j_place j_latest m_low m_high m_first m_second m_lines m_others j_shiftFirst j_shiftMany j_shiftLow j_shiftHigh kI g_now y8 y9 kZ g_others H.size (by first | decide | omega) (by first | decide | omega) (by first | decide | omega) (by first | decide | omega) hg_now hy8 hy9) (cwV 3 hts g_X10_meet_X10_laysLines rfl rfl rfl (by decide +kernel) ⟨Nat.le_of_ble_eq_true rfl, Nat.le_of_ble_eq_true rfl⟩) ⟨fun a U g mk q => by obtain ⟨q0, q1, qP, qK, qD⟩ := q; exact ⟨q0, q1, qP, va_K.moved (u := U) (U := U.calling g mk a) (Vm.Alike.refl U.vm) qK, qD⟩, va_recv hKc hPc (ci := 10) (q0 := 0) rfl rfl, fun U hU hW => ⟨rfl, by rw [hU], by rw [hU]; exact hPc, va_K.moved hW.alike hKc, hDc.weaken (fun _ _ _ _ => trivial)⟩⟩ rfl rfl hl.1 rfl (lv_room (Nat.le_of_ble_eq_true rfl)) dX10_meet_62 ⟨Nat.le_of_ble_eq_true rfl, Nat.le_of_ble_eq_true rfl⟩) hS (fun q _ h => hFc q h) hFc (fun u t H1 locs ht hvm hw hB hz1 hk1 hS => ?_)
        obtain ⟨y15, hP1, hK1, hD1⟩ := hB
        rw [ht] at hP1
        have hK1 := va_K.moved hvm.symm hK1
        obtain ⟨hP, hD⟩ := va_join (wr := [(m_lines, .inl (kZ, 200, .inl y12))]) (w1 := [(h0, .inr (10, [.ref m_now, .ref m_draft, .ref m_past, .int j_acts, .ref m_images, .ref m_kept, .ref m_tape, .int j_taped, .int j_at, .int j_start, .int j_token, .int j_value, .int j_fault, .int j_place, .int j_latest, .ref m_low, .ref m_high, .ref m_first, .ref m_second, .ref m_lines, .ref m_others, .int j_shiftFirst, .int j_shiftMany, .int j_shiftLow, .int j_shiftHigh])), (m_now, .inl (kI, 192, .inl g_now)), (m_low, .inl (kI, 1000, .inl y8)), (m_high, .inl (kI, 1000, .inl y9)), (m_others, .inl (kZ, 200, .inl y15))]) hP hD [1, 2, 3, 4, 0] [5] rfl rfl (by decide) (by decide) hk1 hFc hP1 hD1
        have hK := (hK.sub (tys' := [(kI, .int), (kZ, .boolean), (kI, .int), (kI, .int), (kZ, .boolean)]) [0, 1, 2, 3, 4] rfl).app hK1
        generalize H1 = H at hP hS ⊢
        have hP : va_P D vwCl [(m_lines, .inl (kZ, 200, .inl y12)), (h0, .inr (10, [.ref m_now, .ref m_draft, .ref m_past, .int j_acts, .ref m_images, .ref m_kept, .ref m_tape, .int j_taped, .int j_at, .int j_start, .int j_token, .int j_value, .int j_fault, .int j_place, .int j_latest, .ref m_low, .ref m_high, .ref m_first, .ref m_second, .ref m_lines, .ref m_others, .int j_shiftFirst, .int j_shiftMany, .int j_shiftLow, .int j_shiftHigh])), (m_now, .inl (kI, 192, .inl g_now)), (m_low, .inl (kI, 1000, .inl y8)), (m_high, .inl (kI, 1000, .inl y9)), (m_others, .inl (kZ, 200, .inl y15))] H := hP
        have hD : va_D A [(m_lines, .inl (kZ, 200, .inl y12)), (h0, .inr (10, [.ref m_now, .ref m_draft, .ref m_past, .int j_acts, .ref m_images, .ref m_kept, .ref m_tape, .int j_taped, .int j_at, .int j_start, .int j_token, .int j_value, .int j_fault, .int j_place, .int j_latest, .ref m_low, .ref m_high, .ref m_first, .ref m_second, .ref m_lines, .ref m_others, .int j_shiftFirst, .int j_shiftMany, .int j_shiftLow, .int j_shiftHigh])), (m_now, .inl (kI, 192, .inl g_now)), (m_low, .inl (kI, 1000, .inl y8)), (m_high, .inl (kI, 1000, .inl y9)), (m_others, .inl (kZ, 200, .inl y15))] := hD
        have hK : va_K D vwCl [(kI, .int), (kZ, .boolean), (kI, .int), (kI, .int), (kZ, .boolean), (kI, .int), (kZ, .boolean)] s := hK
        refine W.widen (k := 0) (n := 0) (Nat.le_of_ble_eq_true rfl) (Nat.le_of_ble_eq_true rfl) ?_
        refine lv_iconst (v := 0) hx hb dX10_meet_65 (by decide) ?_
        refine lv_istore (lv' := [(4, .int 0), (0, .ref h0), (1, .int i_0), (2, .int i_1), (3, .int i_2)]) hx hb dX10_meet_66 hl (by decide) rfl (fun ls hl => ?_)
        refine lv_iconst (v := 0) hx hb dX10_meet_68 (by decide) ?_
        refine lv_istore (lv' := [(5, .int 0), (4, .int 0), (0, .ref h0), (1, .int i_0), (2, .int i_1), (3, .int i_2)]) hx hb dX10_meet_69 hl (by decide) rfl (fun ls hl => ?_)
        have hl9 : lv_has ls 7 [(0, .ref h0), (1, .int i_0), (2, .int i_1), (3, .int i_2), (4, .int 0), (5, .int 0)] := lv_sub hl [2, 3, 4, 5, 1, 0] rfl
        refine pw_loop (fun (zz : Int32 × Int32) H locs ls => match zz with | (v166, v167) => va_P D vwCl [(m_lines, .inl (kZ, 200, .inl y12)), (h0, .inr (10, [.ref m_now, .ref m_draft, .ref m_past, .int j_acts, .ref m_images, .ref m_kept, .ref m_tape, .int j_taped, .int j_at, .int j_start, .int j_token, .int j_value, .int j_fault, .int j_place, .int j_latest, .ref m_low, .ref m_high, .ref m_first, .ref m_second, .ref m_lines, .ref m_others, .int j_shiftFirst, .int j_shiftMany, .int j_shiftLow, .int j_shiftHigh])), (m_now, .inl (kI, 192, .inl g_now)), (m_low, .inl (kI, 1000, .inl y8)), (m_high, .inl (kI, 1000, .inl y9)), (m_others, .inl (kZ, 200, .inl y15))] H ∧ va_D A [(m_lines, .inl (kZ, 200, .inl y12)), (h0, .inr (10, [.ref m_now, .ref m_draft, .ref m_past, .int j_acts, .ref m_images, .ref m_kept, .ref m_tape, .int j_taped, .int j_at, .int j_start, .int j_token, .int j_value, .int j_fault, .int j_place, .int j_latest, .ref m_low, .ref m_high, .ref m_first, .ref m_second, .ref m_lines, .ref m_others, .int j_shiftFirst, .int j_shiftMany, .int j_shiftLow, .int j_shiftHigh])), (m_now, .inl (kI, 192, .inl g_now)), (m_low, .inl (kI, 1000, .inl y8)), (m_high, .inl (kI, 1000, .inl y9)), (m_others, .inl (kZ, 200, .inl y15))] ∧ va_S A s.heap H locs ∧ lv_has ls 7 [(0, .ref h0), (1, .int i_0), (2, .int i_1), (3, .int i_2), (4, .int v166), (5, .int v167)] ∧ 0 ≤ v167.toInt) (fun (zz : Int32 × Int32)  => match zz with | (v166, v167) => (2147483648 - v167.toInt).toNat) 0 0 (fun (zz : Int32 × Int32) ls => match zz with | (v166, v167) => F0 m 71 ls []) (fun zz H locs ls ih168 hI => ?_) (0, 0) _ _ _ ⟨hP, hD, hS, hl9, (by decide)⟩
        obtain ⟨v166, v167⟩ := zz
        obtain ⟨hP, hD, hS, hl, bv167⟩ := hI
        have bv167 : 0 ≤ v167.toInt := bv167
        have hP : va_P D vwCl [(m_lines, .inl (kZ, 200, .inl y12)), (h0, .inr (10, [.ref m_now, .ref m_draft, .ref m_past, .int j_acts, .ref m_images, .ref m_kept, .ref m_tape, .int j_taped, .int j_at, .int j_start, .int j_token, .int j_value, .int j_fault, .int j_place, .int j_latest, .ref m_low, .ref m_high, .ref m_first, .ref m_second, .ref m_lines, .ref m_others, .int j_shiftFirst, .int j_shiftMany, .int j_shiftLow, .int j_shiftHigh])), (m_now, .inl (kI, 192, .inl g_now)), (m_low, .inl (kI, 1000, .inl y8)), (m_high, .inl (kI, 1000, .inl y9)), (m_others, .inl (kZ, 200, .inl y15))] H := hP
        have hD : va_D A [(m_lines, .inl (kZ, 200, .inl y12)), (h0, .inr (10, [.ref m_now, .ref m_draft, .ref m_past, .int j_acts, .ref m_images, .ref m_kept, .ref m_tape, .int j_taped, .int j_at, .int j_start, .int j_token, .int j_value, .int j_fault, .int j_place, .int j_latest, .ref m_low, .ref m_high, .ref m_first, .ref m_second, .ref m_lines, .ref m_others, .int j_shiftFirst, .int j_shiftMany, .int j_shiftLow, .int j_shiftHigh])), (m_now, .inl (kI, 192, .inl g_now)), (m_low, .inl (kI, 1000, .inl y8)), (m_high, .inl (kI, 1000, .inl y9)), (m_others, .inl (kZ, 200, .inl y15))] := hD
        have hK : va_K D vwCl [(kI, .int), (kZ, .boolean), (kI, .int), (kI, .int), (kZ, .boolean), (kI, .int), (kZ, .boolean)] s := hK
        have hl : lv_has ls 7 [(0, .ref h0), (1, .int i_0), (2, .int i_1), (3, .int i_2), (4, .int v166), (5, .int v167)] := hl
        refine W.eq (g2 := F0 m 71 ls []) rfl ?_
        refine lv_iload hx hb dX10_meet_71 (lv_at hl 5 rfl) ?_
        refine lv_aload_n hx hb dX10_meet_73 rfl (lv_at hl 0 rfl) ?_
        refine va_get (D := D) (ci := 10) (v := .ref m_now) (C := RX10) (T := TX10) (N := 25) hx hb hts (fun _ h => List.mem_cons_of_mem _ (List.mem_append_right _ h)) hown hK hP 1 rfl rfl 0 (by decide) (hts (.fieldLink RX10 7 "LineCitesModel" "now" "[I") (List.mem_of_getElem? (i := 14) rfl)) (fun _ h9 => h9) rfl dX10_meet_74 ?_
        refine lv_iconst (v := 0) hx hb dX10_meet_77 (by decide) ?_
        refine va_iald hx hb hK hP 2 0 rfl rfl (vp_in_iff.mpr (by decide)) dX10_meet_78 ?_
        refine lv_topi (fun x169 ex169 => ?_)
        have nx169 : 0 ≤ x169.toInt ∧ x169.toInt ≤ 200 := gV_0 hg_now ex169
        have zx169 := gV_00 ex169
        refine lv_icmp_ge (tgt := 195) hx hb dX10_meet_79 (by decide) (fun c207 => ?_) (fun c207 => ?_)
        · have nc207 : x169.toInt ≤ v167.toInt := pw_le c207 rfl rfl
          have mc207v167 := pw_max v167
          have mc207x169 := pw_max x169
          refine lv_iload hx hb dX10_meet_195 (lv_at hl 4 rfl) ?_
          have hP9 := hP.sub (ws' := [(h0, .inr (10, [.ref m_now, .ref m_draft, .ref m_past, .int j_acts, .ref m_images, .ref m_kept, .ref m_tape, .int j_taped, .int j_at, .int j_start, .int j_token, .int j_value, .int j_fault, .int j_place, .int j_latest, .ref m_low, .ref m_high, .ref m_first, .ref m_second, .ref m_lines, .ref m_others, .int j_shiftFirst, .int j_shiftMany, .int j_shiftLow, .int j_shiftHigh])), (m_now, .inl (kI, 192, .inl g_now)), (m_low, .inl (kI, 1000, .inl y8)), (m_high, .inl (kI, 1000, .inl y9)), (m_lines, .inl (kZ, 200, .inl y12)), (m_others, .inl (kZ, 200, .inl y15))]) [1, 2, 3, 4, 0, 5] rfl
          have hD9 := hD.sub (ws' := [(h0, .inr (10, [.ref m_now, .ref m_draft, .ref m_past, .int j_acts, .ref m_images, .ref m_kept, .ref m_tape, .int j_taped, .int j_at, .int j_start, .int j_token, .int j_value, .int j_fault, .int j_place, .int j_latest, .ref m_low, .ref m_high, .ref m_first, .ref m_second, .ref m_lines, .ref m_others, .int j_shiftFirst, .int j_shiftMany, .int j_shiftLow, .int j_shiftHigh])), (m_now, .inl (kI, 192, .inl g_now)), (m_low, .inl (kI, 1000, .inl y8)), (m_high, .inl (kI, 1000, .inl y9)), (m_lines, .inl (kZ, 200, .inl y12)), (m_others, .inl (kZ, 200, .inl y15))]) [1, 2, 3, 4, 0, 5] (by decide) rfl
          have hK9 := hK.sub (tys' := [(kI, .int), (kZ, .boolean)]) [0, 1] rfl
          refine W.widen (k := 0) (n := 0) (Nat.le_of_ble_eq_true rfl) (Nat.le_of_ble_eq_true rfl) ?_
          exact W.iret (v := v166) hx hb hr (fun t ht hW => ⟨⟨v166, (), rfl, trivial, y8, y9, y12, y15, by rw [ht]; exact hP9, va_K.moved hW.alike hK9, hD9, hy8, hy9⟩, hS.F ht⟩) hS.2.2 dX10_meet_197
        · have nc207 : v167.toInt < x169.toInt := pw_nle c207 rfl rfl
          have mc207v167 := pw_max v167
          have mc207x169 := pw_max x169
          refine lv_iload_n hx hb dX10_meet_82 rfl (lv_at hl 3 rfl) ?_
          refine pw_join (fun (v222 : Int32) H locs ls => va_P D vwCl [(m_lines, .inl (kZ, 200, .inl y12)), (h0, .inr (10, [.ref m_now, .ref m_draft, .ref m_past, .int j_acts, .ref m_images, .ref m_kept, .ref m_tape, .int j_taped, .int j_at, .int j_start, .int j_token, .int j_value, .int j_fault, .int j_place, .int j_latest, .ref m_low, .ref m_high, .ref m_first, .ref m_second, .ref m_lines, .ref m_others, .int j_shiftFirst, .int j_shiftMany, .int j_shiftLow, .int j_shiftHigh])), (m_now, .inl (kI, 192, .inl g_now)), (m_low, .inl (kI, 1000, .inl y8)), (m_high, .inl (kI, 1000, .inl y9)), (m_others, .inl (kZ, 200, .inl y15))] H ∧ va_D A [(m_lines, .inl (kZ, 200, .inl y12)), (h0, .inr (10, [.ref m_now, .ref m_draft, .ref m_past, .int j_acts, .ref m_images, .ref m_kept, .ref m_tape, .int j_taped, .int j_at, .int j_start, .int j_token, .int j_value, .int j_fault, .int j_place, .int j_latest, .ref m_low, .ref m_high, .ref m_first, .ref m_second, .ref m_lines, .ref m_others, .int j_shiftFirst, .int j_shiftMany, .int j_shiftLow, .int j_shiftHigh])), (m_now, .inl (kI, 192, .inl g_now)), (m_low, .inl (kI, 1000, .inl y8)), (m_high, .inl (kI, 1000, .inl y9)), (m_others, .inl (kZ, 200, .inl y15))] ∧ va_S A s.heap H locs ∧ lv_has ls 7 [(0, .ref h0), (1, .int i_0), (2, .int i_1), (3, .int i_2), (4, .int v166), (5, .int v167)]) 0 0 (fun (v222 : Int32) ls => F0 m 172 ls [.int v222]) (fun v222 H locs ls hI => ?_) (fun hJ223 => ?_)
          ·
            obtain ⟨hP, hD, hS, hl⟩ := hI
            have hP : va_P D vwCl [(m_lines, .inl (kZ, 200, .inl y12)), (h0, .inr (10, [.ref m_now, .ref m_draft, .ref m_past, .int j_acts, .ref m_images, .ref m_kept, .ref m_tape, .int j_taped, .int j_at, .int j_start, .int j_token, .int j_value, .int j_fault, .int j_place, .int j_latest, .ref m_low, .ref m_high, .ref m_first, .ref m_second, .ref m_lines, .ref m_others, .int j_shiftFirst, .int j_shiftMany, .int j_shiftLow, .int j_shiftHigh])), (m_now, .inl (kI, 192, .inl g_now)), (m_low, .inl (kI, 1000, .inl y8)), (m_high, .inl (kI, 1000, .inl y9)), (m_others, .inl (kZ, 200, .inl y15))] H := hP
            have hD : va_D A [(m_lines, .inl (kZ, 200, .inl y12)), (h0, .inr (10, [.ref m_now, .ref m_draft, .ref m_past, .int j_acts, .ref m_images, .ref m_kept, .ref m_tape, .int j_taped, .int j_at, .int j_start, .int j_token, .int j_value, .int j_fault, .int j_place, .int j_latest, .ref m_low, .ref m_high, .ref m_first, .ref m_second, .ref m_lines, .ref m_others, .int j_shiftFirst, .int j_shiftMany, .int j_shiftLow, .int j_shiftHigh])), (m_now, .inl (kI, 192, .inl g_now)), (m_low, .inl (kI, 1000, .inl y8)), (m_high, .inl (kI, 1000, .inl y9)), (m_others, .inl (kZ, 200, .inl y15))] := hD
            have hK : va_K D vwCl [(kI, .int), (kZ, .boolean), (kI, .int), (kI, .int), (kZ, .boolean), (kI, .int), (kZ, .boolean)] s := hK
            have hl : lv_has ls 7 [(0, .ref h0), (1, .int i_0), (2, .int i_1), (3, .int i_2), (4, .int v166), (5, .int v167)] := hl
            refine W.eq (g2 := F0 m 172 ls [.int v222]) rfl ?_
            refine lv_istore (lv' := [(6, .int v222), (0, .ref h0), (1, .int i_0), (2, .int i_1), (3, .int i_2), (4, .int v166), (5, .int v167)]) hx hb dX10_meet_172 hl (by decide) rfl (fun ls hl => ?_)
            refine lv_iload hx hb dX10_meet_174 (lv_at hl 5 rfl) ?_
            refine lv_iload hx hb dX10_meet_176 (lv_at hl 0 rfl) ?_
            refine pw_join (fun (v225 : Int32) H locs ls => va_P D vwCl [(m_lines, .inl (kZ, 200, .inl y12)), (h0, .inr (10, [.ref m_now, .ref m_draft, .ref m_past, .int j_acts, .ref m_images, .ref m_kept, .ref m_tape, .int j_taped, .int j_at, .int j_start, .int j_token, .int j_value, .int j_fault, .int j_place, .int j_latest, .ref m_low, .ref m_high, .ref m_first, .ref m_second, .ref m_lines, .ref m_others, .int j_shiftFirst, .int j_shiftMany, .int j_shiftLow, .int j_shiftHigh])), (m_now, .inl (kI, 192, .inl g_now)), (m_low, .inl (kI, 1000, .inl y8)), (m_high, .inl (kI, 1000, .inl y9)), (m_others, .inl (kZ, 200, .inl y15))] H ∧ va_D A [(m_lines, .inl (kZ, 200, .inl y12)), (h0, .inr (10, [.ref m_now, .ref m_draft, .ref m_past, .int j_acts, .ref m_images, .ref m_kept, .ref m_tape, .int j_taped, .int j_at, .int j_start, .int j_token, .int j_value, .int j_fault, .int j_place, .int j_latest, .ref m_low, .ref m_high, .ref m_first, .ref m_second, .ref m_lines, .ref m_others, .int j_shiftFirst, .int j_shiftMany, .int j_shiftLow, .int j_shiftHigh])), (m_now, .inl (kI, 192, .inl g_now)), (m_low, .inl (kI, 1000, .inl y8)), (m_high, .inl (kI, 1000, .inl y9)), (m_others, .inl (kZ, 200, .inl y15))] ∧ va_S A s.heap H locs ∧ lv_has ls 7 [(0, .ref h0), (1, .int i_0), (2, .int i_1), (3, .int i_2), (4, .int v166), (5, .int v167), (6, .int v222)]) 0 0 (fun (v225 : Int32) ls => F0 m 186 ls [.int v225, .int v166]) (fun v225 H locs ls hI => ?_) (fun hJ226 => ?_)
            ·
              obtain ⟨hP, hD, hS, hl⟩ := hI
              have hP : va_P D vwCl [(m_lines, .inl (kZ, 200, .inl y12)), (h0, .inr (10, [.ref m_now, .ref m_draft, .ref m_past, .int j_acts, .ref m_images, .ref m_kept, .ref m_tape, .int j_taped, .int j_at, .int j_start, .int j_token, .int j_value, .int j_fault, .int j_place, .int j_latest, .ref m_low, .ref m_high, .ref m_first, .ref m_second, .ref m_lines, .ref m_others, .int j_shiftFirst, .int j_shiftMany, .int j_shiftLow, .int j_shiftHigh])), (m_now, .inl (kI, 192, .inl g_now)), (m_low, .inl (kI, 1000, .inl y8)), (m_high, .inl (kI, 1000, .inl y9)), (m_others, .inl (kZ, 200, .inl y15))] H := hP
              have hD : va_D A [(m_lines, .inl (kZ, 200, .inl y12)), (h0, .inr (10, [.ref m_now, .ref m_draft, .ref m_past, .int j_acts, .ref m_images, .ref m_kept, .ref m_tape, .int j_taped, .int j_at, .int j_start, .int j_token, .int j_value, .int j_fault, .int j_place, .int j_latest, .ref m_low, .ref m_high, .ref m_first, .ref m_second, .ref m_lines, .ref m_others, .int j_shiftFirst, .int j_shiftMany, .int j_shiftLow, .int j_shiftHigh])), (m_now, .inl (kI, 192, .inl g_now)), (m_low, .inl (kI, 1000, .inl y8)), (m_high, .inl (kI, 1000, .inl y9)), (m_others, .inl (kZ, 200, .inl y15))] := hD
              have hK : va_K D vwCl [(kI, .int), (kZ, .boolean), (kI, .int), (kI, .int), (kZ, .boolean), (kI, .int), (kZ, .boolean)] s := hK
              have hl : lv_has ls 7 [(0, .ref h0), (1, .int i_0), (2, .int i_1), (3, .int i_2), (4, .int v166), (5, .int v167), (6, .int v222)] := hl
              refine W.eq (g2 := F0 m 186 ls [.int v225, .int v166]) rfl ?_
              refine lv_iadd hx hb dX10_meet_186 ?_
              refine lv_topi (fun x227 ex227 => ?_)
              refine lv_istore (lv' := [(4, .int x227), (0, .ref h0), (1, .int i_0), (2, .int i_1), (3, .int i_2), (5, .int v167), (6, .int v222)]) hx hb dX10_meet_187 hl (by decide) rfl (fun ls hl => ?_)
              obtain ⟨x228, ex228⟩ : ∃ y : Int32, y = v167 + 1 := ⟨_, rfl⟩
              have tx228 : x228.toInt = v167.toInt + 1 := pw_addX ex228 rfl (by decide) (by omega) (by omega)
              refine lv_iinc (v := x228) (lv' := [(5, .int x228), (4, .int x227), (0, .ref h0), (1, .int i_0), (2, .int i_1), (3, .int i_2), (6, .int v222)]) hx hb dX10_meet_189 hl (k := 5) rfl (by rw [ex228]; rfl) (by decide) rfl (fun ls hl => ?_)
              refine lv_goto (tgt := 71) hx hb dX10_meet_192 (by decide) ?_
              have hP9 : va_P D vwCl [(m_lines, .inl (kZ, 200, .inl y12)), (h0, .inr (10, [.ref m_now, .ref m_draft, .ref m_past, .int j_acts, .ref m_images, .ref m_kept, .ref m_tape, .int j_taped, .int j_at, .int j_start, .int j_token, .int j_value, .int j_fault, .int j_place, .int j_latest, .ref m_low, .ref m_high, .ref m_first, .ref m_second, .ref m_lines, .ref m_others, .int j_shiftFirst, .int j_shiftMany, .int j_shiftLow, .int j_shiftHigh])), (m_now, .inl (kI, 192, .inl g_now)), (m_low, .inl (kI, 1000, .inl y8)), (m_high, .inl (kI, 1000, .inl y9)), (m_others, .inl (kZ, 200, .inl y15))] H := hP.sub [0, 1, 2, 3, 4, 5] rfl
              have hD9 : va_D A [(m_lines, .inl (kZ, 200, .inl y12)), (h0, .inr (10, [.ref m_now, .ref m_draft, .ref m_past, .int j_acts, .ref m_images, .ref m_kept, .ref m_tape, .int j_taped, .int j_at, .int j_start, .int j_token, .int j_value, .int j_fault, .int j_place, .int j_latest, .ref m_low, .ref m_high, .ref m_first, .ref m_second, .ref m_lines, .ref m_others, .int j_shiftFirst, .int j_shiftMany, .int j_shiftLow, .int j_shiftHigh])), (m_now, .inl (kI, 192, .inl g_now)), (m_low, .inl (kI, 1000, .inl y8)), (m_high, .inl (kI, 1000, .inl y9)), (m_others, .inl (kZ, 200, .inl y15))] := hD.sub [0, 1, 2, 3, 4, 5] (by decide) rfl
              have hl9 : lv_has ls 7 [(0, .ref h0), (1, .int i_0), (2, .int i_1), (3, .int i_2), (4, .int x227), (5, .int x228)] := lv_sub hl [2, 3, 4, 5, 1, 0] rfl
              refine W.widen (k := 0) (n := 0) (Nat.le_of_ble_eq_true rfl) (Nat.le_of_ble_eq_true rfl) ?_
              exact ih168 (x227, x228) _ _ _ (pw_up ex228 (by omega)) ⟨hP9, hD9, hS, hl9, (pw_upge ex228 (by omega) (by omega))⟩
            ·
              refine lv_if_eq (tgt := 185) hx hb dX10_meet_178 (by decide) (fun c229 => ?_) (fun c229 => ?_)
              · have nc229 : v222.toInt = 0 := pw_eq c229 rfl (by decide)
                refine lv_iconst (v := 0) hx hb dX10_meet_185 (by decide) ?_
                have hP9 : va_P D vwCl [(m_lines, .inl (kZ, 200, .inl y12)), (h0, .inr (10, [.ref m_now, .ref m_draft, .ref m_past, .int j_acts, .ref m_images, .ref m_kept, .ref m_tape, .int j_taped, .int j_at, .int j_start, .int j_token, .int j_value, .int j_fault, .int j_place, .int j_latest, .ref m_low, .ref m_high, .ref m_first, .ref m_second, .ref m_lines, .ref m_others, .int j_shiftFirst, .int j_shiftMany, .int j_shiftLow, .int j_shiftHigh])), (m_now, .inl (kI, 192, .inl g_now)), (m_low, .inl (kI, 1000, .inl y8)), (m_high, .inl (kI, 1000, .inl y9)), (m_others, .inl (kZ, 200, .inl y15))] H := hP.sub [0, 1, 2, 3, 4, 5] rfl
                have hD9 : va_D A [(m_lines, .inl (kZ, 200, .inl y12)), (h0, .inr (10, [.ref m_now, .ref m_draft, .ref m_past, .int j_acts, .ref m_images, .ref m_kept, .ref m_tape, .int j_taped, .int j_at, .int j_start, .int j_token, .int j_value, .int j_fault, .int j_place, .int j_latest, .ref m_low, .ref m_high, .ref m_first, .ref m_second, .ref m_lines, .ref m_others, .int j_shiftFirst, .int j_shiftMany, .int j_shiftLow, .int j_shiftHigh])), (m_now, .inl (kI, 192, .inl g_now)), (m_low, .inl (kI, 1000, .inl y8)), (m_high, .inl (kI, 1000, .inl y9)), (m_others, .inl (kZ, 200, .inl y15))] := hD.sub [0, 1, 2, 3, 4, 5] (by decide) rfl
                have hl9 : lv_has ls 7 [(0, .ref h0), (1, .int i_0), (2, .int i_1), (3, .int i_2), (4, .int v166), (5, .int v167), (6, .int v222)] := lv_sub hl [1, 2, 3, 4, 5, 6, 0] rfl
                refine W.widen (k := 0) (n := 0) (Nat.le_of_ble_eq_true rfl) (Nat.le_of_ble_eq_true rfl) ?_
                exact hJ226 0 _ _ _ ⟨hP9, hD9, hS, hl9⟩
              · have nc229 : v222.toInt ≠ 0 := pw_ne c229 rfl (by decide)
                refine lv_iconst (v := 1) hx hb dX10_meet_181 (by decide) ?_
                refine lv_goto (tgt := 186) hx hb dX10_meet_182 (by decide) ?_
                have hP9 : va_P D vwCl [(m_lines, .inl (kZ, 200, .inl y12)), (h0, .inr (10, [.ref m_now, .ref m_draft, .ref m_past, .int j_acts, .ref m_images, .ref m_kept, .ref m_tape, .int j_taped, .int j_at, .int j_start, .int j_token, .int j_value, .int j_fault, .int j_place, .int j_latest, .ref m_low, .ref m_high, .ref m_first, .ref m_second, .ref m_lines, .ref m_others, .int j_shiftFirst, .int j_shiftMany, .int j_shiftLow, .int j_shiftHigh])), (m_now, .inl (kI, 192, .inl g_now)), (m_low, .inl (kI, 1000, .inl y8)), (m_high, .inl (kI, 1000, .inl y9)), (m_others, .inl (kZ, 200, .inl y15))] H := hP.sub [0, 1, 2, 3, 4, 5] rfl
                have hD9 : va_D A [(m_lines, .inl (kZ, 200, .inl y12)), (h0, .inr (10, [.ref m_now, .ref m_draft, .ref m_past, .int j_acts, .ref m_images, .ref m_kept, .ref m_tape, .int j_taped, .int j_at, .int j_start, .int j_token, .int j_value, .int j_fault, .int j_place, .int j_latest, .ref m_low, .ref m_high, .ref m_first, .ref m_second, .ref m_lines, .ref m_others, .int j_shiftFirst, .int j_shiftMany, .int j_shiftLow, .int j_shiftHigh])), (m_now, .inl (kI, 192, .inl g_now)), (m_low, .inl (kI, 1000, .inl y8)), (m_high, .inl (kI, 1000, .inl y9)), (m_others, .inl (kZ, 200, .inl y15))] := hD.sub [0, 1, 2, 3, 4, 5] (by decide) rfl
                have hl9 : lv_has ls 7 [(0, .ref h0), (1, .int i_0), (2, .int i_1), (3, .int i_2), (4, .int v166), (5, .int v167), (6, .int v222)] := lv_sub hl [1, 2, 3, 4, 5, 6, 0] rfl
                refine W.widen (k := 0) (n := 0) (Nat.le_of_ble_eq_true rfl) (Nat.le_of_ble_eq_true rfl) ?_
                exact hJ226 1 _ _ _ ⟨hP9, hD9, hS, hl9⟩
          ·
            refine lv_if_ne (tgt := 114) hx hb dX10_meet_83 (by decide) (fun c230 => ?_) (fun c230 => ?_)
            · have nc230 : i_2.toInt ≠ 0 := pw_ne c230 rfl (by decide)
              refine lv_iload_n hx hb dX10_meet_114 rfl (lv_at hl 3 rfl) ?_
              refine lv_iconst (v := 1) hx hb dX10_meet_115 (by decide) ?_
              refine lv_icmp_ne (tgt := 147) hx hb dX10_meet_116 (by decide) (fun c231 => ?_) (fun c231 => ?_)
              · have nc231 : i_2.toInt ≠ 1 := pw_ne c231 rfl (by decide)
                refine lv_aload_n hx hb dX10_meet_147 rfl (lv_at hl 0 rfl) ?_
                refine va_get (D := D) (ci := 10) (v := .ref m_others) (C := RX10) (T := TX10) (N := 25) hx hb hts (fun _ h => List.mem_cons_of_mem _ (List.mem_append_right _ h)) hown hK hP 1 rfl rfl 20 (by decide) (hts (.fieldLink RX10 44 "LineCitesModel" "others" "[Z") (List.mem_of_getElem? (i := 50) rfl)) (fun _ h9 => h9) rfl dX10_meet_148 ?_
                refine lv_iload hx hb dX10_meet_151 (lv_at hl 5 rfl) ?_
                refine va_zald hx hb hK hP 5 1 rfl rfl (vp_in_iff.mpr ⟨by omega, by omega⟩) dX10_meet_153 ?_
                refine lv_topi (fun x232 ex232 => ?_)
                refine lv_if_eq (tgt := 171) hx hb dX10_meet_154 (by decide) (fun c233 => ?_) (fun c233 => ?_)
                · have nc233 : x232.toInt = 0 := pw_eq c233 rfl (by decide)
                  refine lv_iconst (v := 0) hx hb dX10_meet_171 (by decide) ?_
                  have hP9 : va_P D vwCl [(m_lines, .inl (kZ, 200, .inl y12)), (h0, .inr (10, [.ref m_now, .ref m_draft, .ref m_past, .int j_acts, .ref m_images, .ref m_kept, .ref m_tape, .int j_taped, .int j_at, .int j_start, .int j_token, .int j_value, .int j_fault, .int j_place, .int j_latest, .ref m_low, .ref m_high, .ref m_first, .ref m_second, .ref m_lines, .ref m_others, .int j_shiftFirst, .int j_shiftMany, .int j_shiftLow, .int j_shiftHigh])), (m_now, .inl (kI, 192, .inl g_now)), (m_low, .inl (kI, 1000, .inl y8)), (m_high, .inl (kI, 1000, .inl y9)), (m_others, .inl (kZ, 200, .inl y15))] H := hP.sub [0, 1, 2, 3, 4, 5] rfl
                  have hD9 : va_D A [(m_lines, .inl (kZ, 200, .inl y12)), (h0, .inr (10, [.ref m_now, .ref m_draft, .ref m_past, .int j_acts, .ref m_images, .ref m_kept, .ref m_tape, .int j_taped, .int j_at, .int j_start, .int j_token, .int j_value, .int j_fault, .int j_place, .int j_latest, .ref m_low, .ref m_high, .ref m_first, .ref m_second, .ref m_lines, .ref m_others, .int j_shiftFirst, .int j_shiftMany, .int j_shiftLow, .int j_shiftHigh])), (m_now, .inl (kI, 192, .inl g_now)), (m_low, .inl (kI, 1000, .inl y8)), (m_high, .inl (kI, 1000, .inl y9)), (m_others, .inl (kZ, 200, .inl y15))] := hD.sub [0, 1, 2, 3, 4, 5] (by decide) rfl
                  have hl9 : lv_has ls 7 [(0, .ref h0), (1, .int i_0), (2, .int i_1), (3, .int i_2), (4, .int v166), (5, .int v167)] := lv_sub hl [0, 1, 2, 3, 4, 5] rfl
                  refine W.widen (k := 0) (n := 0) (Nat.le_of_ble_eq_true rfl) (Nat.le_of_ble_eq_true rfl) ?_
                  exact hJ223 0 _ _ _ ⟨hP9, hD9, hS, hl9⟩
                · have nc233 : x232.toInt ≠ 0 := pw_ne c233 rfl (by decide)
                  refine lv_aload_n hx hb dX10_meet_157 rfl (lv_at hl 0 rfl) ?_
                  refine va_get (D := D) (ci := 10) (v := .ref m_lines) (C := RX10) (T := TX10) (N := 25) hx hb hts (fun _ h => List.mem_cons_of_mem _ (List.mem_append_right _ h)) hown hK hP 1 rfl rfl 19 (by decide) (hts (.fieldLink RX10 41 "LineCitesModel" "lines" "[Z") (List.mem_of_getElem? (i := 30) rfl)) (fun _ h9 => h9) rfl dX10_meet_158 ?_
                  refine lv_iload hx hb dX10_meet_161 (lv_at hl 5 rfl) ?_
                  refine va_zald hx hb hK hP 0 1 rfl rfl (vp_in_iff.mpr ⟨by omega, by omega⟩) dX10_meet_163 ?_
                  refine lv_topi (fun x234 ex234 => ?_)
                  refine lv_if_ne (tgt := 171) hx hb dX10_meet_164 (by decide) (fun c235 => ?_) (fun c235 => ?_)
                  · have nc235 : x234.toInt ≠ 0 := pw_ne c235 rfl (by decide)
                    refine lv_iconst (v := 0) hx hb dX10_meet_171 (by decide) ?_
                    have hP9 : va_P D vwCl [(m_lines, .inl (kZ, 200, .inl y12)), (h0, .inr (10, [.ref m_now, .ref m_draft, .ref m_past, .int j_acts, .ref m_images, .ref m_kept, .ref m_tape, .int j_taped, .int j_at, .int j_start, .int j_token, .int j_value, .int j_fault, .int j_place, .int j_latest, .ref m_low, .ref m_high, .ref m_first, .ref m_second, .ref m_lines, .ref m_others, .int j_shiftFirst, .int j_shiftMany, .int j_shiftLow, .int j_shiftHigh])), (m_now, .inl (kI, 192, .inl g_now)), (m_low, .inl (kI, 1000, .inl y8)), (m_high, .inl (kI, 1000, .inl y9)), (m_others, .inl (kZ, 200, .inl y15))] H := hP.sub [0, 1, 2, 3, 4, 5] rfl
                    have hD9 : va_D A [(m_lines, .inl (kZ, 200, .inl y12)), (h0, .inr (10, [.ref m_now, .ref m_draft, .ref m_past, .int j_acts, .ref m_images, .ref m_kept, .ref m_tape, .int j_taped, .int j_at, .int j_start, .int j_token, .int j_value, .int j_fault, .int j_place, .int j_latest, .ref m_low, .ref m_high, .ref m_first, .ref m_second, .ref m_lines, .ref m_others, .int j_shiftFirst, .int j_shiftMany, .int j_shiftLow, .int j_shiftHigh])), (m_now, .inl (kI, 192, .inl g_now)), (m_low, .inl (kI, 1000, .inl y8)), (m_high, .inl (kI, 1000, .inl y9)), (m_others, .inl (kZ, 200, .inl y15))] := hD.sub [0, 1, 2, 3, 4, 5] (by decide) rfl
                    have hl9 : lv_has ls 7 [(0, .ref h0), (1, .int i_0), (2, .int i_1), (3, .int i_2), (4, .int v166), (5, .int v167)] := lv_sub hl [0, 1, 2, 3, 4, 5] rfl
                    refine W.widen (k := 0) (n := 0) (Nat.le_of_ble_eq_true rfl) (Nat.le_of_ble_eq_true rfl) ?_
                    exact hJ223 0 _ _ _ ⟨hP9, hD9, hS, hl9⟩
                  · have nc235 : x234.toInt = 0 := pw_eq c235 rfl (by decide)
                    refine lv_iconst (v := 1) hx hb dX10_meet_167 (by decide) ?_
                    refine lv_goto (tgt := 172) hx hb dX10_meet_168 (by decide) ?_
                    have hP9 : va_P D vwCl [(m_lines, .inl (kZ, 200, .inl y12)), (h0, .inr (10, [.ref m_now, .ref m_draft, .ref m_past, .int j_acts, .ref m_images, .ref m_kept, .ref m_tape, .int j_taped, .int j_at, .int j_start, .int j_token, .int j_value, .int j_fault, .int j_place, .int j_latest, .ref m_low, .ref m_high, .ref m_first, .ref m_second, .ref m_lines, .ref m_others, .int j_shiftFirst, .int j_shiftMany, .int j_shiftLow, .int j_shiftHigh])), (m_now, .inl (kI, 192, .inl g_now)), (m_low, .inl (kI, 1000, .inl y8)), (m_high, .inl (kI, 1000, .inl y9)), (m_others, .inl (kZ, 200, .inl y15))] H := hP.sub [0, 1, 2, 3, 4, 5] rfl
                    have hD9 : va_D A [(m_lines, .inl (kZ, 200, .inl y12)), (h0, .inr (10, [.ref m_now, .ref m_draft, .ref m_past, .int j_acts, .ref m_images, .ref m_kept, .ref m_tape, .int j_taped, .int j_at, .int j_start, .int j_token, .int j_value, .int j_fault, .int j_place, .int j_latest, .ref m_low, .ref m_high, .ref m_first, .ref m_second, .ref m_lines, .ref m_others, .int j_shiftFirst, .int j_shiftMany, .int j_shiftLow, .int j_shiftHigh])), (m_now, .inl (kI, 192, .inl g_now)), (m_low, .inl (kI, 1000, .inl y8)), (m_high, .inl (kI, 1000, .inl y9)), (m_others, .inl (kZ, 200, .inl y15))] := hD.sub [0, 1, 2, 3, 4, 5] (by decide) rfl
                    have hl9 : lv_has ls 7 [(0, .ref h0), (1, .int i_0), (2, .int i_1), (3, .int i_2), (4, .int v166), (5, .int v167)] := lv_sub hl [0, 1, 2, 3, 4, 5] rfl
                    refine W.widen (k := 0) (n := 0) (Nat.le_of_ble_eq_true rfl) (Nat.le_of_ble_eq_true rfl) ?_
                    exact hJ223 1 _ _ _ ⟨hP9, hD9, hS, hl9⟩
              · have nc231 : i_2.toInt = 1 := pw_eq c231 rfl (by decide)
                refine lv_aload_n hx hb dX10_meet_119 rfl (lv_at hl 0 rfl) ?_
                refine va_get (D := D) (ci := 10) (v := .ref m_lines) (C := RX10) (T := TX10) (N := 25) hx hb hts (fun _ h => List.mem_cons_of_mem _ (List.mem_append_right _ h)) hown hK hP 1 rfl rfl 19 (by decide) (hts (.fieldLink RX10 41 "LineCitesModel" "lines" "[Z") (List.mem_of_getElem? (i := 30) rfl)) (fun _ h9 => h9) rfl dX10_meet_120 ?_
                refine lv_iload hx hb dX10_meet_123 (lv_at hl 5 rfl) ?_
                refine va_zald hx hb hK hP 0 1 rfl rfl (vp_in_iff.mpr ⟨by omega, by omega⟩) dX10_meet_125 ?_
                refine lv_topi (fun x236 ex236 => ?_)
                refine lv_if_eq (tgt := 143) hx hb dX10_meet_126 (by decide) (fun c237 => ?_) (fun c237 => ?_)
                · have nc237 : x236.toInt = 0 := pw_eq c237 rfl (by decide)
                  refine lv_iconst (v := 0) hx hb dX10_meet_143 (by decide) ?_
                  refine lv_goto (tgt := 172) hx hb dX10_meet_144 (by decide) ?_
                  have hP9 : va_P D vwCl [(m_lines, .inl (kZ, 200, .inl y12)), (h0, .inr (10, [.ref m_now, .ref m_draft, .ref m_past, .int j_acts, .ref m_images, .ref m_kept, .ref m_tape, .int j_taped, .int j_at, .int j_start, .int j_token, .int j_value, .int j_fault, .int j_place, .int j_latest, .ref m_low, .ref m_high, .ref m_first, .ref m_second, .ref m_lines, .ref m_others, .int j_shiftFirst, .int j_shiftMany, .int j_shiftLow, .int j_shiftHigh])), (m_now, .inl (kI, 192, .inl g_now)), (m_low, .inl (kI, 1000, .inl y8)), (m_high, .inl (kI, 1000, .inl y9)), (m_others, .inl (kZ, 200, .inl y15))] H := hP.sub [0, 1, 2, 3, 4, 5] rfl
                  have hD9 : va_D A [(m_lines, .inl (kZ, 200, .inl y12)), (h0, .inr (10, [.ref m_now, .ref m_draft, .ref m_past, .int j_acts, .ref m_images, .ref m_kept, .ref m_tape, .int j_taped, .int j_at, .int j_start, .int j_token, .int j_value, .int j_fault, .int j_place, .int j_latest, .ref m_low, .ref m_high, .ref m_first, .ref m_second, .ref m_lines, .ref m_others, .int j_shiftFirst, .int j_shiftMany, .int j_shiftLow, .int j_shiftHigh])), (m_now, .inl (kI, 192, .inl g_now)), (m_low, .inl (kI, 1000, .inl y8)), (m_high, .inl (kI, 1000, .inl y9)), (m_others, .inl (kZ, 200, .inl y15))] := hD.sub [0, 1, 2, 3, 4, 5] (by decide) rfl
                  have hl9 : lv_has ls 7 [(0, .ref h0), (1, .int i_0), (2, .int i_1), (3, .int i_2), (4, .int v166), (5, .int v167)] := lv_sub hl [0, 1, 2, 3, 4, 5] rfl
                  refine W.widen (k := 0) (n := 0) (Nat.le_of_ble_eq_true rfl) (Nat.le_of_ble_eq_true rfl) ?_
                  exact hJ223 0 _ _ _ ⟨hP9, hD9, hS, hl9⟩
                · have nc237 : x236.toInt ≠ 0 := pw_ne c237 rfl (by decide)
                  refine lv_aload_n hx hb dX10_meet_129 rfl (lv_at hl 0 rfl) ?_
                  refine va_get (D := D) (ci := 10) (v := .ref m_others) (C := RX10) (T := TX10) (N := 25) hx hb hts (fun _ h => List.mem_cons_of_mem _ (List.mem_append_right _ h)) hown hK hP 1 rfl rfl 20 (by decide) (hts (.fieldLink RX10 44 "LineCitesModel" "others" "[Z") (List.mem_of_getElem? (i := 50) rfl)) (fun _ h9 => h9) rfl dX10_meet_130 ?_
                  refine lv_iload hx hb dX10_meet_133 (lv_at hl 5 rfl) ?_
                  refine va_zald hx hb hK hP 5 1 rfl rfl (vp_in_iff.mpr ⟨by omega, by omega⟩) dX10_meet_135 ?_
                  refine lv_topi (fun x238 ex238 => ?_)
                  refine lv_if_ne (tgt := 143) hx hb dX10_meet_136 (by decide) (fun c239 => ?_) (fun c239 => ?_)
                  · have nc239 : x238.toInt ≠ 0 := pw_ne c239 rfl (by decide)
                    refine lv_iconst (v := 0) hx hb dX10_meet_143 (by decide) ?_
                    refine lv_goto (tgt := 172) hx hb dX10_meet_144 (by decide) ?_
                    have hP9 : va_P D vwCl [(m_lines, .inl (kZ, 200, .inl y12)), (h0, .inr (10, [.ref m_now, .ref m_draft, .ref m_past, .int j_acts, .ref m_images, .ref m_kept, .ref m_tape, .int j_taped, .int j_at, .int j_start, .int j_token, .int j_value, .int j_fault, .int j_place, .int j_latest, .ref m_low, .ref m_high, .ref m_first, .ref m_second, .ref m_lines, .ref m_others, .int j_shiftFirst, .int j_shiftMany, .int j_shiftLow, .int j_shiftHigh])), (m_now, .inl (kI, 192, .inl g_now)), (m_low, .inl (kI, 1000, .inl y8)), (m_high, .inl (kI, 1000, .inl y9)), (m_others, .inl (kZ, 200, .inl y15))] H := hP.sub [0, 1, 2, 3, 4, 5] rfl
                    have hD9 : va_D A [(m_lines, .inl (kZ, 200, .inl y12)), (h0, .inr (10, [.ref m_now, .ref m_draft, .ref m_past, .int j_acts, .ref m_images, .ref m_kept, .ref m_tape, .int j_taped, .int j_at, .int j_start, .int j_token, .int j_value, .int j_fault, .int j_place, .int j_latest, .ref m_low, .ref m_high, .ref m_first, .ref m_second, .ref m_lines, .ref m_others, .int j_shiftFirst, .int j_shiftMany, .int j_shiftLow, .int j_shiftHigh])), (m_now, .inl (kI, 192, .inl g_now)), (m_low, .inl (kI, 1000, .inl y8)), (m_high, .inl (kI, 1000, .inl y9)), (m_others, .inl (kZ, 200, .inl y15))] := hD.sub [0, 1, 2, 3, 4, 5] (by decide) rfl
                    have hl9 : lv_has ls 7 [(0, .ref h0), (1, .int i_0), (2, .int i_1), (3, .int i_2), (4, .int v166), (5, .int v167)] := lv_sub hl [0, 1, 2, 3, 4, 5] rfl
                    refine W.widen (k := 0) (n := 0) (Nat.le_of_ble_eq_true rfl) (Nat.le_of_ble_eq_true rfl) ?_
                    exact hJ223 0 _ _ _ ⟨hP9, hD9, hS, hl9⟩
                  · have nc239 : x238.toInt = 0 := pw_eq c239 rfl (by decide)
                    refine lv_iconst (v := 1) hx hb dX10_meet_139 (by decide) ?_
                    refine lv_goto (tgt := 172) hx hb dX10_meet_140 (by decide) ?_
                    have hP9 : va_P D vwCl [(m_lines, .inl (kZ, 200, .inl y12)), (h0, .inr (10, [.ref m_now, .ref m_draft, .ref m_past, .int j_acts, .ref m_images, .ref m_kept, .ref m_tape, .int j_taped, .int j_at, .int j_start, .int j_token, .int j_value, .int j_fault, .int j_place, .int j_latest, .ref m_low, .ref m_high, .ref m_first, .ref m_second, .ref m_lines, .ref m_others, .int j_shiftFirst, .int j_shiftMany, .int j_shiftLow, .int j_shiftHigh])), (m_now, .inl (kI, 192, .inl g_now)), (m_low, .inl (kI, 1000, .inl y8)), (m_high, .inl (kI, 1000, .inl y9)), (m_others, .inl (kZ, 200, .inl y15))] H := hP.sub [0, 1, 2, 3, 4, 5] rfl
                    have hD9 : va_D A [(m_lines, .inl (kZ, 200, .inl y12)), (h0, .inr (10, [.ref m_now, .ref m_draft, .ref m_past, .int j_acts, .ref m_images, .ref m_kept, .ref m_tape, .int j_taped, .int j_at, .int j_start, .int j_token, .int j_value, .int j_fault, .int j_place, .int j_latest, .ref m_low, .ref m_high, .ref m_first, .ref m_second, .ref m_lines, .ref m_others, .int j_shiftFirst, .int j_shiftMany, .int j_shiftLow, .int j_shiftHigh])), (m_now, .inl (kI, 192, .inl g_now)), (m_low, .inl (kI, 1000, .inl y8)), (m_high, .inl (kI, 1000, .inl y9)), (m_others, .inl (kZ, 200, .inl y15))] := hD.sub [0, 1, 2, 3, 4, 5] (by decide) rfl
                    have hl9 : lv_has ls 7 [(0, .ref h0), (1, .int i_0), (2, .int i_1), (3, .int i_2), (4, .int v166), (5, .int v167)] := lv_sub hl [0, 1, 2, 3, 4, 5] rfl
                    refine W.widen (k := 0) (n := 0) (Nat.le_of_ble_eq_true rfl) (Nat.le_of_ble_eq_true rfl) ?_
                    exact hJ223 1 _ _ _ ⟨hP9, hD9, hS, hl9⟩
            · have nc230 : i_2.toInt = 0 := pw_eq c230 rfl (by decide)
              refine lv_aload_n hx hb dX10_meet_86 rfl (lv_at hl 0 rfl) ?_
              refine va_get (D := D) (ci := 10) (v := .ref m_lines) (C := RX10) (T := TX10) (N := 25) hx hb hts (fun _ h => List.mem_cons_of_mem _ (List.mem_append_right _ h)) hown hK hP 1 rfl rfl 19 (by decide) (hts (.fieldLink RX10 41 "LineCitesModel" "lines" "[Z") (List.mem_of_getElem? (i := 30) rfl)) (fun _ h9 => h9) rfl dX10_meet_87 ?_
              refine lv_iload hx hb dX10_meet_90 (lv_at hl 5 rfl) ?_
              refine va_zald hx hb hK hP 0 1 rfl rfl (vp_in_iff.mpr ⟨by omega, by omega⟩) dX10_meet_92 ?_
              refine lv_topi (fun x240 ex240 => ?_)
              refine lv_if_eq (tgt := 110) hx hb dX10_meet_93 (by decide) (fun c241 => ?_) (fun c241 => ?_)
              · have nc241 : x240.toInt = 0 := pw_eq c241 rfl (by decide)
                refine lv_iconst (v := 0) hx hb dX10_meet_110 (by decide) ?_
                refine lv_goto (tgt := 172) hx hb dX10_meet_111 (by decide) ?_
                have hP9 : va_P D vwCl [(m_lines, .inl (kZ, 200, .inl y12)), (h0, .inr (10, [.ref m_now, .ref m_draft, .ref m_past, .int j_acts, .ref m_images, .ref m_kept, .ref m_tape, .int j_taped, .int j_at, .int j_start, .int j_token, .int j_value, .int j_fault, .int j_place, .int j_latest, .ref m_low, .ref m_high, .ref m_first, .ref m_second, .ref m_lines, .ref m_others, .int j_shiftFirst, .int j_shiftMany, .int j_shiftLow, .int j_shiftHigh])), (m_now, .inl (kI, 192, .inl g_now)), (m_low, .inl (kI, 1000, .inl y8)), (m_high, .inl (kI, 1000, .inl y9)), (m_others, .inl (kZ, 200, .inl y15))] H := hP.sub [0, 1, 2, 3, 4, 5] rfl
                have hD9 : va_D A [(m_lines, .inl (kZ, 200, .inl y12)), (h0, .inr (10, [.ref m_now, .ref m_draft, .ref m_past, .int j_acts, .ref m_images, .ref m_kept, .ref m_tape, .int j_taped, .int j_at, .int j_start, .int j_token, .int j_value, .int j_fault, .int j_place, .int j_latest, .ref m_low, .ref m_high, .ref m_first, .ref m_second, .ref m_lines, .ref m_others, .int j_shiftFirst, .int j_shiftMany, .int j_shiftLow, .int j_shiftHigh])), (m_now, .inl (kI, 192, .inl g_now)), (m_low, .inl (kI, 1000, .inl y8)), (m_high, .inl (kI, 1000, .inl y9)), (m_others, .inl (kZ, 200, .inl y15))] := hD.sub [0, 1, 2, 3, 4, 5] (by decide) rfl
                have hl9 : lv_has ls 7 [(0, .ref h0), (1, .int i_0), (2, .int i_1), (3, .int i_2), (4, .int v166), (5, .int v167)] := lv_sub hl [0, 1, 2, 3, 4, 5] rfl
                refine W.widen (k := 0) (n := 0) (Nat.le_of_ble_eq_true rfl) (Nat.le_of_ble_eq_true rfl) ?_
                exact hJ223 0 _ _ _ ⟨hP9, hD9, hS, hl9⟩
              · have nc241 : x240.toInt ≠ 0 := pw_ne c241 rfl (by decide)
                refine lv_aload_n hx hb dX10_meet_96 rfl (lv_at hl 0 rfl) ?_
                refine va_get (D := D) (ci := 10) (v := .ref m_others) (C := RX10) (T := TX10) (N := 25) hx hb hts (fun _ h => List.mem_cons_of_mem _ (List.mem_append_right _ h)) hown hK hP 1 rfl rfl 20 (by decide) (hts (.fieldLink RX10 44 "LineCitesModel" "others" "[Z") (List.mem_of_getElem? (i := 50) rfl)) (fun _ h9 => h9) rfl dX10_meet_97 ?_
                refine lv_iload hx hb dX10_meet_100 (lv_at hl 5 rfl) ?_
                refine va_zald hx hb hK hP 5 1 rfl rfl (vp_in_iff.mpr ⟨by omega, by omega⟩) dX10_meet_102 ?_
                refine lv_topi (fun x242 ex242 => ?_)
                refine lv_if_eq (tgt := 110) hx hb dX10_meet_103 (by decide) (fun c243 => ?_) (fun c243 => ?_)
                · have nc243 : x242.toInt = 0 := pw_eq c243 rfl (by decide)
                  refine lv_iconst (v := 0) hx hb dX10_meet_110 (by decide) ?_
                  refine lv_goto (tgt := 172) hx hb dX10_meet_111 (by decide) ?_
                  have hP9 : va_P D vwCl [(m_lines, .inl (kZ, 200, .inl y12)), (h0, .inr (10, [.ref m_now, .ref m_draft, .ref m_past, .int j_acts, .ref m_images, .ref m_kept, .ref m_tape, .int j_taped, .int j_at, .int j_start, .int j_token, .int j_value, .int j_fault, .int j_place, .int j_latest, .ref m_low, .ref m_high, .ref m_first, .ref m_second, .ref m_lines, .ref m_others, .int j_shiftFirst, .int j_shiftMany, .int j_shiftLow, .int j_shiftHigh])), (m_now, .inl (kI, 192, .inl g_now)), (m_low, .inl (kI, 1000, .inl y8)), (m_high, .inl (kI, 1000, .inl y9)), (m_others, .inl (kZ, 200, .inl y15))] H := hP.sub [0, 1, 2, 3, 4, 5] rfl
                  have hD9 : va_D A [(m_lines, .inl (kZ, 200, .inl y12)), (h0, .inr (10, [.ref m_now, .ref m_draft, .ref m_past, .int j_acts, .ref m_images, .ref m_kept, .ref m_tape, .int j_taped, .int j_at, .int j_start, .int j_token, .int j_value, .int j_fault, .int j_place, .int j_latest, .ref m_low, .ref m_high, .ref m_first, .ref m_second, .ref m_lines, .ref m_others, .int j_shiftFirst, .int j_shiftMany, .int j_shiftLow, .int j_shiftHigh])), (m_now, .inl (kI, 192, .inl g_now)), (m_low, .inl (kI, 1000, .inl y8)), (m_high, .inl (kI, 1000, .inl y9)), (m_others, .inl (kZ, 200, .inl y15))] := hD.sub [0, 1, 2, 3, 4, 5] (by decide) rfl
                  have hl9 : lv_has ls 7 [(0, .ref h0), (1, .int i_0), (2, .int i_1), (3, .int i_2), (4, .int v166), (5, .int v167)] := lv_sub hl [0, 1, 2, 3, 4, 5] rfl
                  refine W.widen (k := 0) (n := 0) (Nat.le_of_ble_eq_true rfl) (Nat.le_of_ble_eq_true rfl) ?_
                  exact hJ223 0 _ _ _ ⟨hP9, hD9, hS, hl9⟩
                · have nc243 : x242.toInt ≠ 0 := pw_ne c243 rfl (by decide)
                  refine lv_iconst (v := 1) hx hb dX10_meet_106 (by decide) ?_
                  refine lv_goto (tgt := 172) hx hb dX10_meet_107 (by decide) ?_
                  have hP9 : va_P D vwCl [(m_lines, .inl (kZ, 200, .inl y12)), (h0, .inr (10, [.ref m_now, .ref m_draft, .ref m_past, .int j_acts, .ref m_images, .ref m_kept, .ref m_tape, .int j_taped, .int j_at, .int j_start, .int j_token, .int j_value, .int j_fault, .int j_place, .int j_latest, .ref m_low, .ref m_high, .ref m_first, .ref m_second, .ref m_lines, .ref m_others, .int j_shiftFirst, .int j_shiftMany, .int j_shiftLow, .int j_shiftHigh])), (m_now, .inl (kI, 192, .inl g_now)), (m_low, .inl (kI, 1000, .inl y8)), (m_high, .inl (kI, 1000, .inl y9)), (m_others, .inl (kZ, 200, .inl y15))] H := hP.sub [0, 1, 2, 3, 4, 5] rfl
                  have hD9 : va_D A [(m_lines, .inl (kZ, 200, .inl y12)), (h0, .inr (10, [.ref m_now, .ref m_draft, .ref m_past, .int j_acts, .ref m_images, .ref m_kept, .ref m_tape, .int j_taped, .int j_at, .int j_start, .int j_token, .int j_value, .int j_fault, .int j_place, .int j_latest, .ref m_low, .ref m_high, .ref m_first, .ref m_second, .ref m_lines, .ref m_others, .int j_shiftFirst, .int j_shiftMany, .int j_shiftLow, .int j_shiftHigh])), (m_now, .inl (kI, 192, .inl g_now)), (m_low, .inl (kI, 1000, .inl y8)), (m_high, .inl (kI, 1000, .inl y9)), (m_others, .inl (kZ, 200, .inl y15))] := hD.sub [0, 1, 2, 3, 4, 5] (by decide) rfl
                  have hl9 : lv_has ls 7 [(0, .ref h0), (1, .int i_0), (2, .int i_1), (3, .int i_2), (4, .int v166), (5, .int v167)] := lv_sub hl [0, 1, 2, 3, 4, 5] rfl
                  refine W.widen (k := 0) (n := 0) (Nat.le_of_ble_eq_true rfl) (Nat.le_of_ble_eq_true rfl) ?_
                  exact hJ223 1 _ _ _ ⟨hP9, hD9, hS, hl9⟩
      · have nc6 : r5.toInt = 0 := pw_eq c6 rfl (by decide)
        refine lv_ldc hx hb hown (hts (.constant RX10 177 (-1000001)) (List.mem_of_getElem? (i := 15) rfl)) dX10_meet_28 ?_
        have hP9 := hP.sub (ws' := [(h0, .inr (10, [.ref m_now, .ref m_draft, .ref m_past, .int j_acts, .ref m_images, .ref m_kept, .ref m_tape, .int j_taped, .int j_at, .int j_start, .int j_token, .int j_value, .int j_fault, .int j_place, .int j_latest, .ref m_low, .ref m_high, .ref m_first, .ref m_second, .ref m_lines, .ref m_others, .int j_shiftFirst, .int j_shiftMany, .int j_shiftLow, .int j_shiftHigh])), (m_now, .inl (kI, 192, .inl g_now)), (m_low, .inl (kI, 1000, .inl g_low)), (m_high, .inl (kI, 1000, .inl g_high)), (m_lines, .inl (kZ, 200, .inl g_lines)), (m_others, .inl (kZ, 200, .inl g_others))]) [0, 1, 2, 3, 4, 5] rfl
        have hD9 := hD.sub (ws' := [(h0, .inr (10, [.ref m_now, .ref m_draft, .ref m_past, .int j_acts, .ref m_images, .ref m_kept, .ref m_tape, .int j_taped, .int j_at, .int j_start, .int j_token, .int j_value, .int j_fault, .int j_place, .int j_latest, .ref m_low, .ref m_high, .ref m_first, .ref m_second, .ref m_lines, .ref m_others, .int j_shiftFirst, .int j_shiftMany, .int j_shiftLow, .int j_shiftHigh])), (m_now, .inl (kI, 192, .inl g_now)), (m_low, .inl (kI, 1000, .inl g_low)), (m_high, .inl (kI, 1000, .inl g_high)), (m_lines, .inl (kZ, 200, .inl g_lines)), (m_others, .inl (kZ, 200, .inl g_others))]) [0, 1, 2, 3, 4, 5] (by decide) rfl
        have hK9 := hK.sub (tys' := [(kI, .int), (kZ, .boolean)]) [0, 1] rfl
        refine W.widen (k := 0) (n := 0) (Nat.le_of_ble_eq_true rfl) (Nat.le_of_ble_eq_true rfl) ?_
        exact W.iret (v := (-1000001)) hx hb hr (fun t ht hW => ⟨⟨(-1000001), (), rfl, trivial, g_low, g_high, g_lines, g_others, by rw [ht]; exact hP9, va_K.moved hW.alike hK9, hD9, hg_low, hg_high⟩, hS.F ht⟩) hS.2.2 dX10_meet_30
def w_X10_could : List Cond := .code yX10_could cX10_could 5 (some .int) :: ([.methodLink RX10 228 yX10_isCitation, .instanceMethod yX10_isCitation, .selects RX10 yX10_isCitation yX10_isCitation, .initialized RX10, .code yX10_isCitation cX10_isCitation 2 (some .boolean), .constantLong RX10 213 (7), .methodLink RX10 51 yX10_in0, .static yX10_in0, .code yX10_in0 cX10_in0 6 (some .boolean), .methodLink RX10 215 yX10_cited, .instanceMethod yX10_cited, .selects RX10 yX10_cited yX10_cited, .code yX10_cited cX10_cited 3 (some .int), .fieldLink RX10 7 "LineCitesModel" "now" "[I", .constant RX10 177 (-1000001), .methodLink RX10 234 yX10_isLine, .instanceMethod yX10_isLine, .selects RX10 yX10_isLine yX10_isLine, .code yX10_isLine cX10_isLine 2 (some .boolean), .methodLink RX10 221 yX10_lays, .instanceMethod yX10_lays, .selects RX10 yX10_lays yX10_lays, .code yX10_lays cX10_lays 9 none, .constant RX10 61 (-1000000), .fieldLink RX10 29 "LineCitesModel" "low" "[I", .fieldLink RX10 32 "LineCitesModel" "high" "[I", .methodLink RX10 66 yX10_stretchOf, .static yX10_stretchOf, .code yX10_stretchOf cX10_stretchOf 7 (some .int), .methodLink RX10 62 yX10_of, .static yX10_of, .code yX10_of cX10_of 4 (some .int), .fieldLink RX10 41 "LineCitesModel" "lines" "[Z", .methodLink RX10 224 yX10_laysLines, .instanceMethod yX10_laysLines, .selects RX10 yX10_laysLines yX10_laysLines, .code yX10_laysLines cX10_laysLines 4 none, .methodLink RX10 286 yX10_lastOf, .instanceMethod yX10_lastOf, .selects RX10 yX10_lastOf yX10_lastOf, .code yX10_lastOf cX10_lastOf 2 (some .int), .methodLink RX10 289 yX10_laysSpan, .instanceMethod yX10_laysSpan, .selects RX10 yX10_laysSpan yX10_laysSpan, .code yX10_laysSpan cX10_laysSpan 7 none, .methodLink RX10 87 yX10_clears, .static yX10_clears, .code yX10_clears cX10_clears 2 none, .methodLink RX10 73 yX10_hasNumber, .instanceMethod yX10_hasNumber, .selects RX10 yX10_hasNumber yX10_hasNumber, .code yX10_hasNumber cX10_hasNumber 3 (some .boolean)] ++ wsX100)
set_option maxRecDepth 20000 in
theorem g_X10_could_X10_isCitation : GoodIn w_X10_could (wsV RX10 228 RX10 yX10_isCitation w_X10_isCitation) := goodIn_r _ [1, 2, 3, 4, 5, 6, 7, 8, 4, 9, 10, 11, 12, 13, 14, 53, 54, 55, 56, 57, 58, 59, 60, 61, 62, 63, 64, 65, 66, 67, 68, 69, 70, 71, 72, 73, 74, 75, 76, 77] rfl (by decide +kernel)
set_option maxRecDepth 20000 in
theorem g_X10_could_X10_isLine : GoodIn w_X10_could (wsV RX10 234 RX10 yX10_isLine w_X10_isLine) := goodIn_r _ [16, 17, 18, 4, 19, 14, 7, 8, 4, 9, 53, 54, 55, 56, 57, 58, 59, 60, 61, 62, 63, 64, 65, 66, 67, 68, 69, 70, 71, 72, 73, 74, 75, 76, 77] rfl (by decide +kernel)
set_option maxRecDepth 20000 in
theorem g_X10_could_X10_lays : GoodIn w_X10_could (wsV RX10 221 RX10 yX10_lays w_X10_lays) := goodIn_r _ [20, 21, 22, 4, 23, 14, 24, 25, 26, 27, 28, 4, 29, 30, 31, 32, 7, 8, 9, 53, 54, 55, 56, 57, 58, 59, 60, 61, 62, 63, 64, 65, 66, 67, 68, 69, 70, 71, 72, 73, 74, 75, 76, 77] rfl (by decide +kernel)
set_option maxRecDepth 20000 in
theorem g_X10_could_X10_laysLines : GoodIn w_X10_could (wsV RX10 224 RX10 yX10_laysLines w_X10_laysLines) := goodIn_r _ [34, 35, 36, 4, 37, 10, 11, 12, 4, 13, 14, 38, 39, 40, 41, 42, 43, 44, 45, 46, 47, 48, 49, 50, 51, 52, 25, 7, 8, 9, 26, 53, 54, 55, 56, 57, 58, 59, 60, 61, 62, 63, 64, 65, 66, 67, 68, 69, 70, 71, 72, 73, 74, 75, 76, 77] rfl (by decide +kernel)
set_option maxHeartbeats 4000000 in
set_option maxRecDepth 100000 in
theorem c_X10_could (l : Launch) (D : va_G) (h0 : Nat) (i_0 : Int32) (i_1 : Int32) (m_now : Nat) (m_draft : Nat) (m_past : Nat) (j_acts : Int32) (m_images : Nat) (m_kept : Nat) (m_tape : Nat) (j_taped : Int32) (j_at : Int32) (j_start : Int32) (j_token : Int32) (j_value : Int32) (j_fault : Int32) (j_place : Int32) (j_latest : Int32) (m_low : Nat) (m_high : Nat) (m_first : Nat) (m_second : Nat) (m_lines : Nat) (m_others : Nat) (j_shiftFirst : Int32) (j_shiftMany : Int32) (j_shiftLow : Int32) (j_shiftHigh : Int32) (kI : ClassId) (g_now : Nat → Int32) (g_low : Nat → Int32) (g_high : Nat → Int32) (kZ : ClassId) (g_lines : Nat → Int32) (sz : Nat) (hg_now : gV g_now) (hg_low : bP g_low) (hg_high : bP g_high) : Met l yX10_could w_X10_could ({ frames := 3, cells := 0, slots := 0, locals := 79 }) (va_Pc [.ref h0, .int i_0, .int i_1] (fun U => U.heap.size = sz ∧ va_P D vwCl [(h0, .inr (10, [.ref m_now, .ref m_draft, .ref m_past, .int j_acts, .ref m_images, .ref m_kept, .ref m_tape, .int j_taped, .int j_at, .int j_start, .int j_token, .int j_value, .int j_fault, .int j_place, .int j_latest, .ref m_low, .ref m_high, .ref m_first, .ref m_second, .ref m_lines, .ref m_others, .int j_shiftFirst, .int j_shiftMany, .int j_shiftLow, .int j_shiftHigh])), (m_now, .inl (kI, 192, .inl g_now)), (m_low, .inl (kI, 1000, .inl g_low)), (m_high, .inl (kI, 1000, .inl g_high)), (m_lines, .inl (kZ, 200, .inl g_lines))] U.heap ∧ va_K D vwCl [(kI, .int), (kZ, .boolean)] U ∧ va_D (fun _ => True) [(h0, .inr (10, [.ref m_now, .ref m_draft, .ref m_past, .int j_acts, .ref m_images, .ref m_kept, .ref m_tape, .int j_taped, .int j_at, .int j_start, .int j_token, .int j_value, .int j_fault, .int j_place, .int j_latest, .ref m_low, .ref m_high, .ref m_first, .ref m_second, .ref m_lines, .ref m_others, .int j_shiftFirst, .int j_shiftMany, .int j_shiftLow, .int j_shiftHigh])), (m_now, .inl (kI, 192, .inl g_now)), (m_low, .inl (kI, 1000, .inl g_low)), (m_high, .inl (kI, 1000, .inl g_high)), (m_lines, .inl (kZ, 200, .inl g_lines))])) (va_Qi (fun (r : Int32) (_ : Unit) => True) (fun (_ : Unit) t => ∃ (n_low : Nat → Int32) (n_high : Nat → Int32) (n_lines : Nat → Int32), va_P D vwCl [(h0, .inr (10, [.ref m_now, .ref m_draft, .ref m_past, .int j_acts, .ref m_images, .ref m_kept, .ref m_tape, .int j_taped, .int j_at, .int j_start, .int j_token, .int j_value, .int j_fault, .int j_place, .int j_latest, .ref m_low, .ref m_high, .ref m_first, .ref m_second, .ref m_lines, .ref m_others, .int j_shiftFirst, .int j_shiftMany, .int j_shiftLow, .int j_shiftHigh])), (m_now, .inl (kI, 192, .inl g_now)), (m_low, .inl (kI, 1000, .inl n_low)), (m_high, .inl (kI, 1000, .inl n_high)), (m_lines, .inl (kZ, 200, .inl n_lines))] t.heap ∧ va_K D vwCl [(kI, .int), (kZ, .boolean)] t ∧ va_D (va_A [(h0, .inr (10, [.ref m_now, .ref m_draft, .ref m_past, .int j_acts, .ref m_images, .ref m_kept, .ref m_tape, .int j_taped, .int j_at, .int j_start, .int j_token, .int j_value, .int j_fault, .int j_place, .int j_latest, .ref m_low, .ref m_high, .ref m_first, .ref m_second, .ref m_lines, .ref m_others, .int j_shiftFirst, .int j_shiftMany, .int j_shiftLow, .int j_shiftHigh])), (m_now, .inl (kI, 192, .inl g_now)), (m_low, .inl (kI, 1000, .inl g_low)), (m_high, .inl (kI, 1000, .inl g_high)), (m_lines, .inl (kZ, 200, .inl g_lines))] sz) [(h0, .inr (10, [.ref m_now, .ref m_draft, .ref m_past, .int j_acts, .ref m_images, .ref m_kept, .ref m_tape, .int j_taped, .int j_at, .int j_start, .int j_token, .int j_value, .int j_fault, .int j_place, .int j_latest, .ref m_low, .ref m_high, .ref m_first, .ref m_second, .ref m_lines, .ref m_others, .int j_shiftFirst, .int j_shiftMany, .int j_shiftLow, .int j_shiftHigh])), (m_now, .inl (kI, 192, .inl g_now)), (m_low, .inl (kI, 1000, .inl n_low)), (m_high, .inl (kI, 1000, .inl n_high)), (m_lines, .inl (kZ, 200, .inl n_lines))] ∧ bP n_low ∧ bP n_high) (va_A [(h0, .inr (10, [.ref m_now, .ref m_draft, .ref m_past, .int j_acts, .ref m_images, .ref m_kept, .ref m_tape, .int j_taped, .int j_at, .int j_start, .int j_token, .int j_value, .int j_fault, .int j_place, .int j_latest, .ref m_low, .ref m_high, .ref m_first, .ref m_second, .ref m_lines, .ref m_others, .int j_shiftFirst, .int j_shiftMany, .int j_shiftLow, .int j_shiftHigh])), (m_now, .inl (kI, 192, .inl g_now)), (m_low, .inl (kI, 1000, .inl g_low)), (m_high, .inl (kI, 1000, .inl g_high)), (m_lines, .inl (kZ, 200, .inl g_lines))] sz)) 0 0 (va_A [(h0, .inr (10, [.ref m_now, .ref m_draft, .ref m_past, .int j_acts, .ref m_images, .ref m_kept, .ref m_tape, .int j_taped, .int j_at, .int j_start, .int j_token, .int j_value, .int j_fault, .int j_place, .int j_latest, .ref m_low, .ref m_high, .ref m_first, .ref m_second, .ref m_lines, .ref m_others, .int j_shiftFirst, .int j_shiftMany, .int j_shiftLow, .int j_shiftHigh])), (m_now, .inl (kI, 192, .inl g_now)), (m_low, .inl (kI, 1000, .inl g_low)), (m_high, .inl (kI, 1000, .inl g_high)), (m_lines, .inl (kZ, 200, .inl g_lines))] sz) := by
  refine Met.ofW (cc := cX10_could) (maxL := 5) (ret := (some .int)) (by decide) rfl ?_
  intro p e s m args below meth c s₁ B hml hv
  obtain ⟨rfl, hsz, hP, hK, hD0⟩ := hv
  have hx := B.exec
  have hb := B.bytes
  have hr := B.returns
  have hts := atoms_spec (ws := w_X10_could) B.pre
  have hown : s.vm.findClass RX10 = some m.cls := findClass_of_methodNamed B.named
  have hlocks := B.notSynchronized
  subst hsz
  have hD := hD0.self (sz := s.heap.size)
  generalize hAe : va_A [(h0, .inr (10, [.ref m_now, .ref m_draft, .ref m_past, .int j_acts, .ref m_images, .ref m_kept, .ref m_tape, .int j_taped, .int j_at, .int j_start, .int j_token, .int j_value, .int j_fault, .int j_place, .int j_latest, .ref m_low, .ref m_high, .ref m_first, .ref m_second, .ref m_lines, .ref m_others, .int j_shiftFirst, .int j_shiftMany, .int j_shiftLow, .int j_shiftHigh])), (m_now, .inl (kI, 192, .inl g_now)), (m_low, .inl (kI, 1000, .inl g_low)), (m_high, .inl (kI, 1000, .inl g_high)), (m_lines, .inl (kZ, 200, .inl g_lines))] s.heap.size = A at hD ⊢
  have hA : ∀ q : Nat, s.heap.size ≤ q → A q := fun q h => by rw [← hAe]; exact Or.inr h
  have hS : va_S A s.heap s.heap [] := va_S.rf
  have hP : va_P D vwCl [(h0, .inr (10, [.ref m_now, .ref m_draft, .ref m_past, .int j_acts, .ref m_images, .ref m_kept, .ref m_tape, .int j_taped, .int j_at, .int j_start, .int j_token, .int j_value, .int j_fault, .int j_place, .int j_latest, .ref m_low, .ref m_high, .ref m_first, .ref m_second, .ref m_lines, .ref m_others, .int j_shiftFirst, .int j_shiftMany, .int j_shiftLow, .int j_shiftHigh])), (m_now, .inl (kI, 192, .inl g_now)), (m_low, .inl (kI, 1000, .inl g_low)), (m_high, .inl (kI, 1000, .inl g_high)), (m_lines, .inl (kZ, 200, .inl g_lines))] s.heap := hP
  have hl := lv_entry ([.ref h0, .int i_0, .int i_1]) (n := 5) (Nat.le_of_ble_eq_true rfl)
  rw [lg_entry_eq]
  generalize (lg_sl ([.ref h0, .int i_0, .int i_1]) ++ List.replicate (5 - (lg_sl ([.ref h0, .int i_0, .int i_1])).length) Slot.unset).toArray = ls at hl ⊢
  have hl : lv_has ls 5 [(0, .ref h0), (1, .int i_0), (2, .int i_1)] := hl
  obtain ⟨H, hHe⟩ : ∃ H : Heap, H = s.heap := ⟨_, rfl⟩
  rw [← hHe] at hP
  have hS : va_S A s.heap H [] := by rw [hHe]; exact hS
  refine pw_heap hHe ?_
  refine lv_aload_n hx hb dX10_could_0 rfl (lv_at hl 0 rfl) ?_
  refine lv_iload_n hx hb dX10_could_1 rfl (lv_at hl 1 rfl) ?_
  have hPc := hP.sub (ws' := [(h0, .inr (10, [.ref m_now, .ref m_draft, .ref m_past, .int j_acts, .ref m_images, .ref m_kept, .ref m_tape, .int j_taped, .int j_at, .int j_start, .int j_token, .int j_value, .int j_fault, .int j_place, .int j_latest, .ref m_low, .ref m_high, .ref m_first, .ref m_second, .ref m_lines, .ref m_others, .int j_shiftFirst, .int j_shiftMany, .int j_shiftLow, .int j_shiftHigh])), (m_now, .inl (kI, 192, .inl g_now))]) [0, 1] rfl
  have hKc := hK.sub (tys' := [(kI, .int)]) [0] rfl
  refine va_calli (va_runV (As := [.int i_0]) (rest := []) ⟨hx, hb, hml, hown, hts⟩ (c_X10_isCitation l D h0 i_0 m_now m_draft m_past j_acts m_images m_kept m_tape j_taped j_at j_start j_token j_value j_fault j_place j_latest m_low m_high m_first m_second m_lines m_others j_shiftFirst j_shiftMany j_shiftLow j_shiftHigh kI g_now) (cwV 1 hts g_X10_could_X10_isCitation rfl rfl rfl (by decide +kernel) ⟨Nat.le_of_ble_eq_true rfl, Nat.le_of_ble_eq_true rfl⟩) ⟨fun a U g mk q => by obtain ⟨q0, qP, qK⟩ := q; exact ⟨q0, qP, va_K.moved (u := U) (U := U.calling g mk a) (Vm.Alike.refl U.vm) qK⟩, va_recv hKc hPc (ci := 10) (q0 := 0) rfl rfl, fun U hU hW => ⟨rfl, by rw [hU]; exact hPc, va_K.moved hW.alike hKc⟩⟩ rfl rfl hl.1 rfl (lv_room (Nat.le_of_ble_eq_true rfl)) dX10_could_2 ⟨Nat.le_of_ble_eq_true rfl, Nat.le_of_ble_eq_true rfl⟩) hS (fun _ _ h => h.elim) (fun _ h => h.elim) (fun r1 u t H1 locs ht hvm hw hB hz1 hk1 hS => ?_)
  have hP := pw_keep hP (fun q hq => hk1 q hq (fun h => h))
  generalize H1 = H at hP hS ⊢
  refine W.widen (k := 0) (n := 0) (Nat.le_of_ble_eq_true rfl) (Nat.le_of_ble_eq_true rfl) ?_
  have bor1 := hw.1
  have zor1 := pw_boolI bor1
  have hfr1 := hw.2
  refine lv_if_eq (tgt := 16) hx hb dX10_could_5 (by decide) (fun c2 => ?_) (fun c2 => ?_)
  · have nc2 : r1.toInt = 0 := pw_eq c2 rfl (by decide)
    refine lv_ldc hx hb hown (hts (.constant RX10 177 (-1000001)) (List.mem_of_getElem? (i := 15) rfl)) dX10_could_16 ?_
    have hP9 := hP.sub (ws' := [(h0, .inr (10, [.ref m_now, .ref m_draft, .ref m_past, .int j_acts, .ref m_images, .ref m_kept, .ref m_tape, .int j_taped, .int j_at, .int j_start, .int j_token, .int j_value, .int j_fault, .int j_place, .int j_latest, .ref m_low, .ref m_high, .ref m_first, .ref m_second, .ref m_lines, .ref m_others, .int j_shiftFirst, .int j_shiftMany, .int j_shiftLow, .int j_shiftHigh])), (m_now, .inl (kI, 192, .inl g_now)), (m_low, .inl (kI, 1000, .inl g_low)), (m_high, .inl (kI, 1000, .inl g_high)), (m_lines, .inl (kZ, 200, .inl g_lines))]) [0, 1, 2, 3, 4] rfl
    have hD9 := hD.sub (ws' := [(h0, .inr (10, [.ref m_now, .ref m_draft, .ref m_past, .int j_acts, .ref m_images, .ref m_kept, .ref m_tape, .int j_taped, .int j_at, .int j_start, .int j_token, .int j_value, .int j_fault, .int j_place, .int j_latest, .ref m_low, .ref m_high, .ref m_first, .ref m_second, .ref m_lines, .ref m_others, .int j_shiftFirst, .int j_shiftMany, .int j_shiftLow, .int j_shiftHigh])), (m_now, .inl (kI, 192, .inl g_now)), (m_low, .inl (kI, 1000, .inl g_low)), (m_high, .inl (kI, 1000, .inl g_high)), (m_lines, .inl (kZ, 200, .inl g_lines))]) [0, 1, 2, 3, 4] (by decide) rfl
    have hK9 := hK.sub (tys' := [(kI, .int), (kZ, .boolean)]) [0, 1] rfl
    refine W.widen (k := 0) (n := 0) (Nat.le_of_ble_eq_true rfl) (Nat.le_of_ble_eq_true rfl) ?_
    exact W.iret (v := (-1000001)) hx hb hr (fun t ht hW => ⟨⟨(-1000001), (), rfl, trivial, g_low, g_high, g_lines, by rw [ht]; exact hP9, va_K.moved hW.alike hK9, hD9, hg_low, hg_high⟩, hS.F ht⟩) hS.2.2 dX10_could_18
  · have nc2 : r1.toInt ≠ 0 := pw_ne c2 rfl (by decide)
    refine lv_aload_n hx hb dX10_could_8 rfl (lv_at hl 0 rfl) ?_
    refine lv_iload_n hx hb dX10_could_9 rfl (lv_at hl 2 rfl) ?_
    have hPc := hP.sub (ws' := [(h0, .inr (10, [.ref m_now, .ref m_draft, .ref m_past, .int j_acts, .ref m_images, .ref m_kept, .ref m_tape, .int j_taped, .int j_at, .int j_start, .int j_token, .int j_value, .int j_fault, .int j_place, .int j_latest, .ref m_low, .ref m_high, .ref m_first, .ref m_second, .ref m_lines, .ref m_others, .int j_shiftFirst, .int j_shiftMany, .int j_shiftLow, .int j_shiftHigh])), (m_now, .inl (kI, 192, .inl g_now))]) [0, 1] rfl
    have hKc := hK.sub (tys' := [(kI, .int)]) [0] rfl
    refine va_calli (va_runV (As := [.int i_1]) (rest := []) ⟨hx, hb, hml, hown, hts⟩ (c_X10_isLine l D h0 i_1 m_now m_draft m_past j_acts m_images m_kept m_tape j_taped j_at j_start j_token j_value j_fault j_place j_latest m_low m_high m_first m_second m_lines m_others j_shiftFirst j_shiftMany j_shiftLow j_shiftHigh kI g_now hg_now) (cwV 1 hts g_X10_could_X10_isLine rfl rfl rfl (by decide +kernel) ⟨Nat.le_of_ble_eq_true rfl, Nat.le_of_ble_eq_true rfl⟩) ⟨fun a U g mk q => by obtain ⟨q0, qP, qK⟩ := q; exact ⟨q0, qP, va_K.moved (u := U) (U := U.calling g mk a) (Vm.Alike.refl U.vm) qK⟩, va_recv hKc hPc (ci := 10) (q0 := 0) rfl rfl, fun U hU hW => ⟨rfl, by rw [hU]; exact hPc, va_K.moved hW.alike hKc⟩⟩ rfl rfl hl.1 rfl (lv_room (Nat.le_of_ble_eq_true rfl)) dX10_could_10 ⟨Nat.le_of_ble_eq_true rfl, Nat.le_of_ble_eq_true rfl⟩) hS (fun _ _ h => h.elim) (fun _ h => h.elim) (fun r3 u t H1 locs ht hvm hw hB hz1 hk1 hS => ?_)
    have hP := pw_keep hP (fun q hq => hk1 q hq (fun h => h))
    generalize H1 = H at hP hS ⊢
    refine W.widen (k := 0) (n := 0) (Nat.le_of_ble_eq_true rfl) (Nat.le_of_ble_eq_true rfl) ?_
    have bor3 := hw.1
    have zor3 := pw_boolI bor3
    have hfr3 := hw.2
    refine lv_if_ne (tgt := 19) hx hb dX10_could_13 (by decide) (fun c4 => ?_) (fun c4 => ?_)
    · have nc4 : r3.toInt ≠ 0 := pw_ne c4 rfl (by decide)
      refine lv_aload_n hx hb dX10_could_19 rfl (lv_at hl 0 rfl) ?_
      have hPc := hP.sub (ws' := [(h0, .inr (10, [.ref m_now, .ref m_draft, .ref m_past, .int j_acts, .ref m_images, .ref m_kept, .ref m_tape, .int j_taped, .int j_at, .int j_start, .int j_token, .int j_value, .int j_fault, .int j_place, .int j_latest, .ref m_low, .ref m_high, .ref m_first, .ref m_second, .ref m_lines, .ref m_others, .int j_shiftFirst, .int j_shiftMany, .int j_shiftLow, .int j_shiftHigh])), (m_now, .inl (kI, 192, .inl g_now)), (m_low, .inl (kI, 1000, .inl g_low)), (m_high, .inl (kI, 1000, .inl g_high))]) [0, 1, 2, 3] rfl
      have hKc := hK.sub (tys' := [(kI, .int)]) [0] rfl
      have hDc := hD.sub (ws' := [(h0, .inr (10, [.ref m_now, .ref m_draft, .ref m_past, .int j_acts, .ref m_images, .ref m_kept, .ref m_tape, .int j_taped, .int j_at, .int j_start, .int j_token, .int j_value, .int j_fault, .int j_place, .int j_latest, .ref m_low, .ref m_high, .ref m_first, .ref m_second, .ref m_lines, .ref m_others, .int j_shiftFirst, .int j_shiftMany, .int j_shiftLow, .int j_shiftHigh])), (m_now, .inl (kI, 192, .inl g_now)), (m_low, .inl (kI, 1000, .inl g_low)), (m_high, .inl (kI, 1000, .inl g_high))]) [0, 1, 2, 3] (by decide) rfl
      have hFc := va_free (wc := [(h0, .inr (10, [.ref m_now, .ref m_draft, .ref m_past, .int j_acts, .ref m_images, .ref m_kept, .ref m_tape, .int j_taped, .int j_at, .int j_start, .int j_token, .int j_value, .int j_fault, .int j_place, .int j_latest, .ref m_low, .ref m_high, .ref m_first, .ref m_second, .ref m_lines, .ref m_others, .int j_shiftFirst, .int j_shiftMany, .int j_shiftLow, .int j_shiftHigh])), (m_now, .inl (kI, 192, .inl g_now)), (m_low, .inl (kI, 1000, .inl g_low)), (m_high, .inl (kI, 1000, .inl g_high))]) hD hS hA [0, 1, 2, 3] rfl
      refine va_callv (va_runV (As := []) (rest := []) ⟨hx, hb, hml, hown, hts⟩ (c_X10_lays l D h0 m_now m_draft m_past j_acts m_images m_kept m_tape j_taped j_at j_start j_token j_value j_fault j_place j_latest m_low m_high m_first m_second m_lines m_others j_shiftFirst j_shiftMany j_shiftLow j_shiftHigh kI g_now g_low g_high H.size hg_now hg_low hg_high) (cwV 0 hts g_X10_could_X10_lays rfl rfl rfl (by decide +kernel) ⟨Nat.le_of_ble_eq_true rfl, Nat.le_of_ble_eq_true rfl⟩) ⟨fun a U g mk q => by obtain ⟨q0, q1, qP, qK, qD⟩ := q; exact ⟨q0, q1, qP, va_K.moved (u := U) (U := U.calling g mk a) (Vm.Alike.refl U.vm) qK, qD⟩, va_recv hKc hPc (ci := 10) (q0 := 0) rfl rfl, fun U hU hW => ⟨rfl, by rw [hU], by rw [hU]; exact hPc, va_K.moved hW.alike hKc, hDc.weaken (fun _ _ _ _ => trivial)⟩⟩ rfl rfl hl.1 rfl (lv_room (Nat.le_of_ble_eq_true rfl)) dX10_could_20 ⟨Nat.le_of_ble_eq_true rfl, Nat.le_of_ble_eq_true rfl⟩) hS (fun q _ h => hFc q h) hFc (fun u t H1 locs ht hvm hw hB hz1 hk1 hS => ?_)
      obtain ⟨y6, y7, hP1, hK1, hD1, hy6, hy7⟩ := hB
      rw [ht] at hP1
      have hK1 := va_K.moved hvm.symm hK1
      obtain ⟨hP, hD⟩ := va_join (wr := [(m_lines, .inl (kZ, 200, .inl g_lines))]) (w1 := [(h0, .inr (10, [.ref m_now, .ref m_draft, .ref m_past, .int j_acts, .ref m_images, .ref m_kept, .ref m_tape, .int j_taped, .int j_at, .int j_start, .int j_token, .int j_value, .int j_fault, .int j_place, .int j_latest, .ref m_low, .ref m_high, .ref m_first, .ref m_second, .ref m_lines, .ref m_others, .int j_shiftFirst, .int j_shiftMany, .int j_shiftLow, .int j_shiftHigh])), (m_now, .inl (kI, 192, .inl g_now)), (m_low, .inl (kI, 1000, .inl y6)), (m_high, .inl (kI, 1000, .inl y7))]) hP hD [0, 1, 2, 3] [4] rfl rfl (by decide) (by decide) hk1 hFc hP1 hD1
      have hK := (hK.sub (tys' := [(kI, .int), (kZ, .boolean)]) [0, 1] rfl).app hK1
      generalize H1 = H at hP hS ⊢
      have hP : va_P D vwCl [(m_lines, .inl (kZ, 200, .inl g_lines)), (h0, .inr (10, [.ref m_now, .ref m_draft, .ref m_past, .int j_acts, .ref m_images, .ref m_kept, .ref m_tape, .int j_taped, .int j_at, .int j_start, .int j_token, .int j_value, .int j_fault, .int j_place, .int j_latest, .ref m_low, .ref m_high, .ref m_first, .ref m_second, .ref m_lines, .ref m_others, .int j_shiftFirst, .int j_shiftMany, .int j_shiftLow, .int j_shiftHigh])), (m_now, .inl (kI, 192, .inl g_now)), (m_low, .inl (kI, 1000, .inl y6)), (m_high, .inl (kI, 1000, .inl y7))] H := hP
      have hD : va_D A [(m_lines, .inl (kZ, 200, .inl g_lines)), (h0, .inr (10, [.ref m_now, .ref m_draft, .ref m_past, .int j_acts, .ref m_images, .ref m_kept, .ref m_tape, .int j_taped, .int j_at, .int j_start, .int j_token, .int j_value, .int j_fault, .int j_place, .int j_latest, .ref m_low, .ref m_high, .ref m_first, .ref m_second, .ref m_lines, .ref m_others, .int j_shiftFirst, .int j_shiftMany, .int j_shiftLow, .int j_shiftHigh])), (m_now, .inl (kI, 192, .inl g_now)), (m_low, .inl (kI, 1000, .inl y6)), (m_high, .inl (kI, 1000, .inl y7))] := hD
      have hK : va_K D vwCl [(kI, .int), (kZ, .boolean), (kI, .int)] s := hK
      refine W.widen (k := 0) (n := 0) (Nat.le_of_ble_eq_true rfl) (Nat.le_of_ble_eq_true rfl) ?_
      refine lv_iconst (v := 0) hx hb dX10_could_23 (by decide) ?_
      refine lv_istore_n (lv' := [(3, .int 0), (0, .ref h0), (1, .int i_0), (2, .int i_1)]) hx hb dX10_could_24 rfl hl (by decide) rfl (fun ls hl => ?_)
      refine lv_iconst (v := 0) hx hb dX10_could_25 (by decide) ?_
      refine lv_istore (lv' := [(4, .int 0), (3, .int 0), (0, .ref h0), (1, .int i_0), (2, .int i_1)]) hx hb dX10_could_26 hl (by decide) rfl (fun ls hl => ?_)
      have hl9 : lv_has ls 5 [(0, .ref h0), (1, .int i_0), (2, .int i_1), (3, .int 0), (4, .int 0)] := lv_sub hl [2, 3, 4, 1, 0] rfl
      refine pw_loop (fun (zz : Int32 × Int32 × (Nat → Int32)) H locs ls => match zz with | (v59, v60, f61) => va_P D vwCl [(m_lines, .inl (kZ, 200, .inl f61)), (h0, .inr (10, [.ref m_now, .ref m_draft, .ref m_past, .int j_acts, .ref m_images, .ref m_kept, .ref m_tape, .int j_taped, .int j_at, .int j_start, .int j_token, .int j_value, .int j_fault, .int j_place, .int j_latest, .ref m_low, .ref m_high, .ref m_first, .ref m_second, .ref m_lines, .ref m_others, .int j_shiftFirst, .int j_shiftMany, .int j_shiftLow, .int j_shiftHigh])), (m_now, .inl (kI, 192, .inl g_now)), (m_low, .inl (kI, 1000, .inl y6)), (m_high, .inl (kI, 1000, .inl y7))] H ∧ va_D A [(m_lines, .inl (kZ, 200, .inl f61)), (h0, .inr (10, [.ref m_now, .ref m_draft, .ref m_past, .int j_acts, .ref m_images, .ref m_kept, .ref m_tape, .int j_taped, .int j_at, .int j_start, .int j_token, .int j_value, .int j_fault, .int j_place, .int j_latest, .ref m_low, .ref m_high, .ref m_first, .ref m_second, .ref m_lines, .ref m_others, .int j_shiftFirst, .int j_shiftMany, .int j_shiftLow, .int j_shiftHigh])), (m_now, .inl (kI, 192, .inl g_now)), (m_low, .inl (kI, 1000, .inl y6)), (m_high, .inl (kI, 1000, .inl y7))] ∧ va_S A s.heap H locs ∧ lv_has ls 5 [(0, .ref h0), (1, .int i_0), (2, .int i_1), (3, .int v59), (4, .int v60)] ∧ 0 ≤ v60.toInt) (fun (zz : Int32 × Int32 × (Nat → Int32))  => match zz with | (v59, v60, f61) => (2147483648 - v60.toInt).toNat) 0 0 (fun (zz : Int32 × Int32 × (Nat → Int32)) ls => match zz with | (v59, v60, f61) => F0 m 28 ls []) (fun zz H locs ls ih62 hI => ?_) (0, 0, g_lines) _ _ _ ⟨hP, hD, hS, hl9, (by decide)⟩
      obtain ⟨v59, v60, f61⟩ := zz
      obtain ⟨hP, hD, hS, hl, bv60⟩ := hI
      have bv60 : 0 ≤ v60.toInt := bv60
      have hP : va_P D vwCl [(m_lines, .inl (kZ, 200, .inl f61)), (h0, .inr (10, [.ref m_now, .ref m_draft, .ref m_past, .int j_acts, .ref m_images, .ref m_kept, .ref m_tape, .int j_taped, .int j_at, .int j_start, .int j_token, .int j_value, .int j_fault, .int j_place, .int j_latest, .ref m_low, .ref m_high, .ref m_first, .ref m_second, .ref m_lines, .ref m_others, .int j_shiftFirst, .int j_shiftMany, .int j_shiftLow, .int j_shiftHigh])), (m_now, .inl (kI, 192, .inl g_now)), (m_low, .inl (kI, 1000, .inl y6)), (m_high, .inl (kI, 1000, .inl y7))] H := hP
      have hD : va_D A [(m_lines, .inl (kZ, 200, .inl f61)), (h0, .inr (10, [.ref m_now, .ref m_draft, .ref m_past, .int j_acts, .ref m_images, .ref m_kept, .ref m_tape, .int j_taped, .int j_at, .int j_start, .int j_token, .int j_value, .int j_fault, .int j_place, .int j_latest, .ref m_low, .ref m_high, .ref m_first, .ref m_second, .ref m_lines, .ref m_others, .int j_shiftFirst, .int j_shiftMany, .int j_shiftLow, .int j_shiftHigh])), (m_now, .inl (kI, 192, .inl g_now)), (m_low, .inl (kI, 1000, .inl y6)), (m_high, .inl (kI, 1000, .inl y7))] := hD
      have hK : va_K D vwCl [(kI, .int), (kZ, .boolean), (kI, .int)] s := hK
      have hl : lv_has ls 5 [(0, .ref h0), (1, .int i_0), (2, .int i_1), (3, .int v59), (4, .int v60)] := hl
      refine W.eq (g2 := F0 m 28 ls []) rfl ?_
      refine lv_iload hx hb dX10_could_28 (lv_at hl 4 rfl) ?_
      refine lv_aload_n hx hb dX10_could_30 rfl (lv_at hl 0 rfl) ?_
      refine va_get (D := D) (ci := 10) (v := .ref m_now) (C := RX10) (T := TX10) (N := 25) hx hb hts (fun _ h => List.mem_cons_of_mem _ (List.mem_append_right _ h)) hown hK hP 1 rfl rfl 0 (by decide) (hts (.fieldLink RX10 7 "LineCitesModel" "now" "[I") (List.mem_of_getElem? (i := 14) rfl)) (fun _ h9 => h9) rfl dX10_could_31 ?_
      refine lv_iconst (v := 1) hx hb dX10_could_34 (by decide) ?_
      refine va_iald hx hb hK hP 2 0 rfl rfl (vp_in_iff.mpr (by decide)) dX10_could_35 ?_
      refine lv_topi (fun x63 ex63 => ?_)
      have nx63 : 0 ≤ x63.toInt ∧ x63.toInt ≤ 5 := gV_1 hg_now ex63
      refine lv_icmp_ge (tgt := 76) hx hb dX10_could_36 (by decide) (fun c76 => ?_) (fun c76 => ?_)
      · have nc76 : x63.toInt ≤ v60.toInt := pw_le c76 rfl rfl
        have mc76v60 := pw_max v60
        have mc76x63 := pw_max x63
        refine lv_iload_n hx hb dX10_could_76 rfl (lv_at hl 3 rfl) ?_
        have hP9 := hP.sub (ws' := [(h0, .inr (10, [.ref m_now, .ref m_draft, .ref m_past, .int j_acts, .ref m_images, .ref m_kept, .ref m_tape, .int j_taped, .int j_at, .int j_start, .int j_token, .int j_value, .int j_fault, .int j_place, .int j_latest, .ref m_low, .ref m_high, .ref m_first, .ref m_second, .ref m_lines, .ref m_others, .int j_shiftFirst, .int j_shiftMany, .int j_shiftLow, .int j_shiftHigh])), (m_now, .inl (kI, 192, .inl g_now)), (m_low, .inl (kI, 1000, .inl y6)), (m_high, .inl (kI, 1000, .inl y7)), (m_lines, .inl (kZ, 200, .inl f61))]) [1, 2, 3, 4, 0] rfl
        have hD9 := hD.sub (ws' := [(h0, .inr (10, [.ref m_now, .ref m_draft, .ref m_past, .int j_acts, .ref m_images, .ref m_kept, .ref m_tape, .int j_taped, .int j_at, .int j_start, .int j_token, .int j_value, .int j_fault, .int j_place, .int j_latest, .ref m_low, .ref m_high, .ref m_first, .ref m_second, .ref m_lines, .ref m_others, .int j_shiftFirst, .int j_shiftMany, .int j_shiftLow, .int j_shiftHigh])), (m_now, .inl (kI, 192, .inl g_now)), (m_low, .inl (kI, 1000, .inl y6)), (m_high, .inl (kI, 1000, .inl y7)), (m_lines, .inl (kZ, 200, .inl f61))]) [1, 2, 3, 4, 0] (by decide) rfl
        have hK9 := hK.sub (tys' := [(kI, .int), (kZ, .boolean)]) [0, 1] rfl
        refine W.widen (k := 0) (n := 0) (Nat.le_of_ble_eq_true rfl) (Nat.le_of_ble_eq_true rfl) ?_
        exact W.iret (v := v59) hx hb hr (fun t ht hW => ⟨⟨v59, (), rfl, trivial, y6, y7, f61, by rw [ht]; exact hP9, va_K.moved hW.alike hK9, hD9, hy6, hy7⟩, hS.F ht⟩) hS.2.2 dX10_could_77
      · have nc76 : v60.toInt < x63.toInt := pw_nle c76 rfl rfl
        have mc76v60 := pw_max v60
        have mc76x63 := pw_max x63
        refine lv_aload_n hx hb dX10_could_39 rfl (lv_at hl 0 rfl) ?_
        refine lv_iload_n hx hb dX10_could_40 rfl (lv_at hl 1 rfl) ?_
        refine lv_iload hx hb dX10_could_41 (lv_at hl 4 rfl) ?_
        refine lv_aload_n hx hb dX10_could_43 rfl (lv_at hl 0 rfl) ?_
        refine va_get (D := D) (ci := 10) (v := .ref m_lines) (C := RX10) (T := TX10) (N := 25) hx hb hts (fun _ h => List.mem_cons_of_mem _ (List.mem_append_right _ h)) hown hK hP 1 rfl rfl 19 (by decide) (hts (.fieldLink RX10 41 "LineCitesModel" "lines" "[Z") (List.mem_of_getElem? (i := 33) rfl)) (fun _ h9 => h9) rfl dX10_could_44 ?_
        have hPc := hP.sub (ws' := [(h0, .inr (10, [.ref m_now, .ref m_draft, .ref m_past, .int j_acts, .ref m_images, .ref m_kept, .ref m_tape, .int j_taped, .int j_at, .int j_start, .int j_token, .int j_value, .int j_fault, .int j_place, .int j_latest, .ref m_low, .ref m_high, .ref m_first, .ref m_second, .ref m_lines, .ref m_others, .int j_shiftFirst, .int j_shiftMany, .int j_shiftLow, .int j_shiftHigh])), (m_now, .inl (kI, 192, .inl g_now)), (m_low, .inl (kI, 1000, .inl y6)), (m_high, .inl (kI, 1000, .inl y7)), (m_lines, .inl (kZ, 200, .inl f61))]) [1, 2, 3, 4, 0] rfl
        have hKc := hK.sub (tys' := [(kI, .int), (kZ, .boolean)]) [0, 1] rfl
        have hDc := hD.sub (ws' := [(h0, .inr (10, [.ref m_now, .ref m_draft, .ref m_past, .int j_acts, .ref m_images, .ref m_kept, .ref m_tape, .int j_taped, .int j_at, .int j_start, .int j_token, .int j_value, .int j_fault, .int j_place, .int j_latest, .ref m_low, .ref m_high, .ref m_first, .ref m_second, .ref m_lines, .ref m_others, .int j_shiftFirst, .int j_shiftMany, .int j_shiftLow, .int j_shiftHigh])), (m_now, .inl (kI, 192, .inl g_now)), (m_low, .inl (kI, 1000, .inl y6)), (m_high, .inl (kI, 1000, .inl y7)), (m_lines, .inl (kZ, 200, .inl f61))]) [1, 2, 3, 4, 0] (by decide) rfl
        have hFc := va_free (wc := [(h0, .inr (10, [.ref m_now, .ref m_draft, .ref m_past, .int j_acts, .ref m_images, .ref m_kept, .ref m_tape, .int j_taped, .int j_at, .int j_start, .int j_token, .int j_value, .int j_fault, .int j_place, .int j_latest, .ref m_low, .ref m_high, .ref m_first, .ref m_second, .ref m_lines, .ref m_others, .int j_shiftFirst, .int j_shiftMany, .int j_shiftLow, .int j_shiftHigh])), (m_now, .inl (kI, 192, .inl g_now)), (m_low, .inl (kI, 1000, .inl y6)), (m_high, .inl (kI, 1000, .inl y7)), (m_lines, .inl (kZ, 200, .inl f61))]) hD hS hA [1, 2, 3, 4, 0] rfl
        refine va_callv (va_runV (As := [.int i_0, .int v60, .ref m_lines]) (rest := []) ⟨hx, hb, hml, hown, hts⟩ (c_X10_laysLines l D h0 i_0 v60 m_lines m_now m_draft m_past j_acts m_images m_kept m_tape j_taped j_at j_start j_token j_value j_fault j_place j_latest m_low m_high m_first m_second m_lines m_others j_shiftFirst j_shiftMany j_shiftLow j_shiftHigh kI g_now y6 y7 kZ f61 H.size (by first | decide | omega) (by first | decide | omega) (by first | decide | omega) (by first | decide | omega) hg_now hy6 hy7) (cwV 3 hts g_X10_could_X10_laysLines rfl rfl rfl (by decide +kernel) ⟨Nat.le_of_ble_eq_true rfl, Nat.le_of_ble_eq_true rfl⟩) ⟨fun a U g mk q => by obtain ⟨q0, q1, qP, qK, qD⟩ := q; exact ⟨q0, q1, qP, va_K.moved (u := U) (U := U.calling g mk a) (Vm.Alike.refl U.vm) qK, qD⟩, va_recv hKc hPc (ci := 10) (q0 := 0) rfl rfl, fun U hU hW => ⟨rfl, by rw [hU], by rw [hU]; exact hPc, va_K.moved hW.alike hKc, hDc.weaken (fun _ _ _ _ => trivial)⟩⟩ rfl rfl hl.1 rfl (lv_room (Nat.le_of_ble_eq_true rfl)) dX10_could_47 ⟨Nat.le_of_ble_eq_true rfl, Nat.le_of_ble_eq_true rfl⟩) hS (fun q _ h => hFc q h) hFc (fun u t H1 locs ht hvm hw hB hz1 hk1 hS => ?_)
        obtain ⟨y78, hP1, hK1, hD1⟩ := hB
        rw [ht] at hP1
        have hK1 := va_K.moved hvm.symm hK1
        obtain ⟨hP, hD⟩ := va_join (wr := []) (w1 := [(h0, .inr (10, [.ref m_now, .ref m_draft, .ref m_past, .int j_acts, .ref m_images, .ref m_kept, .ref m_tape, .int j_taped, .int j_at, .int j_start, .int j_token, .int j_value, .int j_fault, .int j_place, .int j_latest, .ref m_low, .ref m_high, .ref m_first, .ref m_second, .ref m_lines, .ref m_others, .int j_shiftFirst, .int j_shiftMany, .int j_shiftLow, .int j_shiftHigh])), (m_now, .inl (kI, 192, .inl g_now)), (m_low, .inl (kI, 1000, .inl y6)), (m_high, .inl (kI, 1000, .inl y7)), (m_lines, .inl (kZ, 200, .inl y78))]) hP hD [1, 2, 3, 4, 0] [] rfl rfl (by decide) (by decide) hk1 hFc hP1 hD1
        have hK := (hK.sub (tys' := [(kI, .int), (kZ, .boolean), (kI, .int)]) [0, 1, 2] rfl).app hK1
        generalize H1 = H at hP hS ⊢
        have hP : va_P D vwCl [(h0, .inr (10, [.ref m_now, .ref m_draft, .ref m_past, .int j_acts, .ref m_images, .ref m_kept, .ref m_tape, .int j_taped, .int j_at, .int j_start, .int j_token, .int j_value, .int j_fault, .int j_place, .int j_latest, .ref m_low, .ref m_high, .ref m_first, .ref m_second, .ref m_lines, .ref m_others, .int j_shiftFirst, .int j_shiftMany, .int j_shiftLow, .int j_shiftHigh])), (m_now, .inl (kI, 192, .inl g_now)), (m_low, .inl (kI, 1000, .inl y6)), (m_high, .inl (kI, 1000, .inl y7)), (m_lines, .inl (kZ, 200, .inl y78))] H := hP
        have hD : va_D A [(h0, .inr (10, [.ref m_now, .ref m_draft, .ref m_past, .int j_acts, .ref m_images, .ref m_kept, .ref m_tape, .int j_taped, .int j_at, .int j_start, .int j_token, .int j_value, .int j_fault, .int j_place, .int j_latest, .ref m_low, .ref m_high, .ref m_first, .ref m_second, .ref m_lines, .ref m_others, .int j_shiftFirst, .int j_shiftMany, .int j_shiftLow, .int j_shiftHigh])), (m_now, .inl (kI, 192, .inl g_now)), (m_low, .inl (kI, 1000, .inl y6)), (m_high, .inl (kI, 1000, .inl y7)), (m_lines, .inl (kZ, 200, .inl y78))] := hD
        have hK : va_K D vwCl [(kI, .int), (kZ, .boolean), (kI, .int), (kI, .int), (kZ, .boolean)] s := hK
        refine W.widen (k := 0) (n := 0) (Nat.le_of_ble_eq_true rfl) (Nat.le_of_ble_eq_true rfl) ?_
        refine lv_iload_n hx hb dX10_could_50 rfl (lv_at hl 3 rfl) ?_
        refine lv_aload_n hx hb dX10_could_51 rfl (lv_at hl 0 rfl) ?_
        refine va_get (D := D) (ci := 10) (v := .ref m_lines) (C := RX10) (T := TX10) (N := 25) hx hb hts (fun _ h => List.mem_cons_of_mem _ (List.mem_append_right _ h)) hown hK hP 0 rfl rfl 19 (by decide) (hts (.fieldLink RX10 41 "LineCitesModel" "lines" "[Z") (List.mem_of_getElem? (i := 33) rfl)) (fun _ h9 => h9) rfl dX10_could_52 ?_
        refine lv_iload_n hx hb dX10_could_55 rfl (lv_at hl 2 rfl) ?_
        refine va_zald hx hb hK hP 4 1 rfl rfl (vp_in_iff.mpr ⟨by omega, by omega⟩) dX10_could_56 ?_
        refine lv_topi (fun x79 ex79 => ?_)
        refine pw_join (fun (v82 : Int32) H locs ls => va_P D vwCl [(h0, .inr (10, [.ref m_now, .ref m_draft, .ref m_past, .int j_acts, .ref m_images, .ref m_kept, .ref m_tape, .int j_taped, .int j_at, .int j_start, .int j_token, .int j_value, .int j_fault, .int j_place, .int j_latest, .ref m_low, .ref m_high, .ref m_first, .ref m_second, .ref m_lines, .ref m_others, .int j_shiftFirst, .int j_shiftMany, .int j_shiftLow, .int j_shiftHigh])), (m_now, .inl (kI, 192, .inl g_now)), (m_low, .inl (kI, 1000, .inl y6)), (m_high, .inl (kI, 1000, .inl y7)), (m_lines, .inl (kZ, 200, .inl y78))] H ∧ va_D A [(h0, .inr (10, [.ref m_now, .ref m_draft, .ref m_past, .int j_acts, .ref m_images, .ref m_kept, .ref m_tape, .int j_taped, .int j_at, .int j_start, .int j_token, .int j_value, .int j_fault, .int j_place, .int j_latest, .ref m_low, .ref m_high, .ref m_first, .ref m_second, .ref m_lines, .ref m_others, .int j_shiftFirst, .int j_shiftMany, .int j_shiftLow, .int j_shiftHigh])), (m_now, .inl (kI, 192, .inl g_now)), (m_low, .inl (kI, 1000, .inl y6)), (m_high, .inl (kI, 1000, .inl y7)), (m_lines, .inl (kZ, 200, .inl y78))] ∧ va_S A s.heap H locs ∧ lv_has ls 5 [(0, .ref h0), (1, .int i_0), (2, .int i_1), (3, .int v59), (4, .int v60)]) 0 0 (fun (v82 : Int32) ls => F0 m 68 ls [.int v82, .int v59]) (fun v82 H locs ls hI => ?_) (fun hJ83 => ?_)
        ·
          obtain ⟨hP, hD, hS, hl⟩ := hI
          have hP : va_P D vwCl [(h0, .inr (10, [.ref m_now, .ref m_draft, .ref m_past, .int j_acts, .ref m_images, .ref m_kept, .ref m_tape, .int j_taped, .int j_at, .int j_start, .int j_token, .int j_value, .int j_fault, .int j_place, .int j_latest, .ref m_low, .ref m_high, .ref m_first, .ref m_second, .ref m_lines, .ref m_others, .int j_shiftFirst, .int j_shiftMany, .int j_shiftLow, .int j_shiftHigh])), (m_now, .inl (kI, 192, .inl g_now)), (m_low, .inl (kI, 1000, .inl y6)), (m_high, .inl (kI, 1000, .inl y7)), (m_lines, .inl (kZ, 200, .inl y78))] H := hP
          have hD : va_D A [(h0, .inr (10, [.ref m_now, .ref m_draft, .ref m_past, .int j_acts, .ref m_images, .ref m_kept, .ref m_tape, .int j_taped, .int j_at, .int j_start, .int j_token, .int j_value, .int j_fault, .int j_place, .int j_latest, .ref m_low, .ref m_high, .ref m_first, .ref m_second, .ref m_lines, .ref m_others, .int j_shiftFirst, .int j_shiftMany, .int j_shiftLow, .int j_shiftHigh])), (m_now, .inl (kI, 192, .inl g_now)), (m_low, .inl (kI, 1000, .inl y6)), (m_high, .inl (kI, 1000, .inl y7)), (m_lines, .inl (kZ, 200, .inl y78))] := hD
          have hK : va_K D vwCl [(kI, .int), (kZ, .boolean), (kI, .int), (kI, .int), (kZ, .boolean)] s := hK
          have hl : lv_has ls 5 [(0, .ref h0), (1, .int i_0), (2, .int i_1), (3, .int v59), (4, .int v60)] := hl
          refine W.eq (g2 := F0 m 68 ls [.int v82, .int v59]) rfl ?_
          refine lv_ior hx hb dX10_could_68 ?_
          refine lv_topi (fun x84 ex84 => ?_)
          refine lv_istore_n (lv' := [(3, .int x84), (0, .ref h0), (1, .int i_0), (2, .int i_1), (4, .int v60)]) hx hb dX10_could_69 rfl hl (by decide) rfl (fun ls hl => ?_)
          obtain ⟨x85, ex85⟩ : ∃ y : Int32, y = v60 + 1 := ⟨_, rfl⟩
          have tx85 : x85.toInt = v60.toInt + 1 := pw_addX ex85 rfl (by decide) (by omega) (by omega)
          refine lv_iinc (v := x85) (lv' := [(4, .int x85), (3, .int x84), (0, .ref h0), (1, .int i_0), (2, .int i_1)]) hx hb dX10_could_70 hl (k := 4) rfl (by rw [ex85]; rfl) (by decide) rfl (fun ls hl => ?_)
          refine lv_goto (tgt := 28) hx hb dX10_could_73 (by decide) ?_
          have hP9 : va_P D vwCl [(m_lines, .inl (kZ, 200, .inl y78)), (h0, .inr (10, [.ref m_now, .ref m_draft, .ref m_past, .int j_acts, .ref m_images, .ref m_kept, .ref m_tape, .int j_taped, .int j_at, .int j_start, .int j_token, .int j_value, .int j_fault, .int j_place, .int j_latest, .ref m_low, .ref m_high, .ref m_first, .ref m_second, .ref m_lines, .ref m_others, .int j_shiftFirst, .int j_shiftMany, .int j_shiftLow, .int j_shiftHigh])), (m_now, .inl (kI, 192, .inl g_now)), (m_low, .inl (kI, 1000, .inl y6)), (m_high, .inl (kI, 1000, .inl y7))] H := hP.sub [4, 0, 1, 2, 3] rfl
          have hD9 : va_D A [(m_lines, .inl (kZ, 200, .inl y78)), (h0, .inr (10, [.ref m_now, .ref m_draft, .ref m_past, .int j_acts, .ref m_images, .ref m_kept, .ref m_tape, .int j_taped, .int j_at, .int j_start, .int j_token, .int j_value, .int j_fault, .int j_place, .int j_latest, .ref m_low, .ref m_high, .ref m_first, .ref m_second, .ref m_lines, .ref m_others, .int j_shiftFirst, .int j_shiftMany, .int j_shiftLow, .int j_shiftHigh])), (m_now, .inl (kI, 192, .inl g_now)), (m_low, .inl (kI, 1000, .inl y6)), (m_high, .inl (kI, 1000, .inl y7))] := hD.sub [4, 0, 1, 2, 3] (by decide) rfl
          have hl9 : lv_has ls 5 [(0, .ref h0), (1, .int i_0), (2, .int i_1), (3, .int x84), (4, .int x85)] := lv_sub hl [2, 3, 4, 1, 0] rfl
          refine W.widen (k := 0) (n := 0) (Nat.le_of_ble_eq_true rfl) (Nat.le_of_ble_eq_true rfl) ?_
          exact ih62 (x84, x85, y78) _ _ _ (pw_up ex85 (by omega)) ⟨hP9, hD9, hS, hl9, (pw_upge ex85 (by omega) (by omega))⟩
        ·
          refine lv_if_eq (tgt := 67) hx hb dX10_could_57 (by decide) (fun c86 => ?_) (fun c86 => ?_)
          · have nc86 : x79.toInt = 0 := pw_eq c86 rfl (by decide)
            refine lv_iconst (v := 0) hx hb dX10_could_67 (by decide) ?_
            have hP9 : va_P D vwCl [(h0, .inr (10, [.ref m_now, .ref m_draft, .ref m_past, .int j_acts, .ref m_images, .ref m_kept, .ref m_tape, .int j_taped, .int j_at, .int j_start, .int j_token, .int j_value, .int j_fault, .int j_place, .int j_latest, .ref m_low, .ref m_high, .ref m_first, .ref m_second, .ref m_lines, .ref m_others, .int j_shiftFirst, .int j_shiftMany, .int j_shiftLow, .int j_shiftHigh])), (m_now, .inl (kI, 192, .inl g_now)), (m_low, .inl (kI, 1000, .inl y6)), (m_high, .inl (kI, 1000, .inl y7)), (m_lines, .inl (kZ, 200, .inl y78))] H := hP.sub [0, 1, 2, 3, 4] rfl
            have hD9 : va_D A [(h0, .inr (10, [.ref m_now, .ref m_draft, .ref m_past, .int j_acts, .ref m_images, .ref m_kept, .ref m_tape, .int j_taped, .int j_at, .int j_start, .int j_token, .int j_value, .int j_fault, .int j_place, .int j_latest, .ref m_low, .ref m_high, .ref m_first, .ref m_second, .ref m_lines, .ref m_others, .int j_shiftFirst, .int j_shiftMany, .int j_shiftLow, .int j_shiftHigh])), (m_now, .inl (kI, 192, .inl g_now)), (m_low, .inl (kI, 1000, .inl y6)), (m_high, .inl (kI, 1000, .inl y7)), (m_lines, .inl (kZ, 200, .inl y78))] := hD.sub [0, 1, 2, 3, 4] (by decide) rfl
            have hl9 : lv_has ls 5 [(0, .ref h0), (1, .int i_0), (2, .int i_1), (3, .int v59), (4, .int v60)] := lv_sub hl [0, 1, 2, 3, 4] rfl
            refine W.widen (k := 0) (n := 0) (Nat.le_of_ble_eq_true rfl) (Nat.le_of_ble_eq_true rfl) ?_
            exact hJ83 0 _ _ _ ⟨hP9, hD9, hS, hl9⟩
          · have nc86 : x79.toInt ≠ 0 := pw_ne c86 rfl (by decide)
            refine lv_iconst (v := 1) hx hb dX10_could_60 (by decide) ?_
            refine lv_iload hx hb dX10_could_61 (lv_at hl 4 rfl) ?_
            refine lv_ishl hx hb dX10_could_63 ?_
            refine lv_topi (fun x87 ex87 => ?_)
            refine lv_goto (tgt := 68) hx hb dX10_could_64 (by decide) ?_
            have hP9 : va_P D vwCl [(h0, .inr (10, [.ref m_now, .ref m_draft, .ref m_past, .int j_acts, .ref m_images, .ref m_kept, .ref m_tape, .int j_taped, .int j_at, .int j_start, .int j_token, .int j_value, .int j_fault, .int j_place, .int j_latest, .ref m_low, .ref m_high, .ref m_first, .ref m_second, .ref m_lines, .ref m_others, .int j_shiftFirst, .int j_shiftMany, .int j_shiftLow, .int j_shiftHigh])), (m_now, .inl (kI, 192, .inl g_now)), (m_low, .inl (kI, 1000, .inl y6)), (m_high, .inl (kI, 1000, .inl y7)), (m_lines, .inl (kZ, 200, .inl y78))] H := hP.sub [0, 1, 2, 3, 4] rfl
            have hD9 : va_D A [(h0, .inr (10, [.ref m_now, .ref m_draft, .ref m_past, .int j_acts, .ref m_images, .ref m_kept, .ref m_tape, .int j_taped, .int j_at, .int j_start, .int j_token, .int j_value, .int j_fault, .int j_place, .int j_latest, .ref m_low, .ref m_high, .ref m_first, .ref m_second, .ref m_lines, .ref m_others, .int j_shiftFirst, .int j_shiftMany, .int j_shiftLow, .int j_shiftHigh])), (m_now, .inl (kI, 192, .inl g_now)), (m_low, .inl (kI, 1000, .inl y6)), (m_high, .inl (kI, 1000, .inl y7)), (m_lines, .inl (kZ, 200, .inl y78))] := hD.sub [0, 1, 2, 3, 4] (by decide) rfl
            have hl9 : lv_has ls 5 [(0, .ref h0), (1, .int i_0), (2, .int i_1), (3, .int v59), (4, .int v60)] := lv_sub hl [0, 1, 2, 3, 4] rfl
            refine W.widen (k := 0) (n := 0) (Nat.le_of_ble_eq_true rfl) (Nat.le_of_ble_eq_true rfl) ?_
            exact hJ83 x87 _ _ _ ⟨hP9, hD9, hS, hl9⟩
    · have nc4 : r3.toInt = 0 := pw_eq c4 rfl (by decide)
      refine lv_ldc hx hb hown (hts (.constant RX10 177 (-1000001)) (List.mem_of_getElem? (i := 15) rfl)) dX10_could_16 ?_
      have hP9 := hP.sub (ws' := [(h0, .inr (10, [.ref m_now, .ref m_draft, .ref m_past, .int j_acts, .ref m_images, .ref m_kept, .ref m_tape, .int j_taped, .int j_at, .int j_start, .int j_token, .int j_value, .int j_fault, .int j_place, .int j_latest, .ref m_low, .ref m_high, .ref m_first, .ref m_second, .ref m_lines, .ref m_others, .int j_shiftFirst, .int j_shiftMany, .int j_shiftLow, .int j_shiftHigh])), (m_now, .inl (kI, 192, .inl g_now)), (m_low, .inl (kI, 1000, .inl g_low)), (m_high, .inl (kI, 1000, .inl g_high)), (m_lines, .inl (kZ, 200, .inl g_lines))]) [0, 1, 2, 3, 4] rfl
      have hD9 := hD.sub (ws' := [(h0, .inr (10, [.ref m_now, .ref m_draft, .ref m_past, .int j_acts, .ref m_images, .ref m_kept, .ref m_tape, .int j_taped, .int j_at, .int j_start, .int j_token, .int j_value, .int j_fault, .int j_place, .int j_latest, .ref m_low, .ref m_high, .ref m_first, .ref m_second, .ref m_lines, .ref m_others, .int j_shiftFirst, .int j_shiftMany, .int j_shiftLow, .int j_shiftHigh])), (m_now, .inl (kI, 192, .inl g_now)), (m_low, .inl (kI, 1000, .inl g_low)), (m_high, .inl (kI, 1000, .inl g_high)), (m_lines, .inl (kZ, 200, .inl g_lines))]) [0, 1, 2, 3, 4] (by decide) rfl
      have hK9 := hK.sub (tys' := [(kI, .int), (kZ, .boolean)]) [0, 1] rfl
      refine W.widen (k := 0) (n := 0) (Nat.le_of_ble_eq_true rfl) (Nat.le_of_ble_eq_true rfl) ?_
      exact W.iret (v := (-1000001)) hx hb hr (fun t ht hW => ⟨⟨(-1000001), (), rfl, trivial, g_low, g_high, g_lines, by rw [ht]; exact hP9, va_K.moved hW.alike hK9, hD9, hg_low, hg_high⟩, hS.F ht⟩) hS.2.2 dX10_could_18
def w_X10_fault : List Cond := .code yX10_fault cX10_fault 1 (some .int) :: ([.fieldLink RX10 187 "LineCitesModel" "latest" "I"] ++ wsX100)
set_option maxHeartbeats 4000000 in
set_option maxRecDepth 100000 in
theorem c_X10_fault (l : Launch) (D : va_G) (h0 : Nat) (m_now : Nat) (m_draft : Nat) (m_past : Nat) (j_acts : Int32) (m_images : Nat) (m_kept : Nat) (m_tape : Nat) (j_taped : Int32) (j_at : Int32) (j_start : Int32) (j_token : Int32) (j_value : Int32) (j_fault : Int32) (j_place : Int32) (j_latest : Int32) (m_low : Nat) (m_high : Nat) (m_first : Nat) (m_second : Nat) (m_lines : Nat) (m_others : Nat) (j_shiftFirst : Int32) (j_shiftMany : Int32) (j_shiftLow : Int32) (j_shiftHigh : Int32) : Met l yX10_fault w_X10_fault ({ frames := 0, cells := 0, slots := 0, locals := 0 }) (va_Pc [.ref h0] (fun U => va_P D vwCl [(h0, .inr (10, [.ref m_now, .ref m_draft, .ref m_past, .int j_acts, .ref m_images, .ref m_kept, .ref m_tape, .int j_taped, .int j_at, .int j_start, .int j_token, .int j_value, .int j_fault, .int j_place, .int j_latest, .ref m_low, .ref m_high, .ref m_first, .ref m_second, .ref m_lines, .ref m_others, .int j_shiftFirst, .int j_shiftMany, .int j_shiftLow, .int j_shiftHigh]))] U.heap ∧ va_K D vwCl [] U)) (va_Qi (fun (r : Int32) (_ : Unit) => True) (fun _ _ => True) (fun _ => False)) 0 0 (fun _ => False) := by
  refine Met.ofW (cc := cX10_fault) (maxL := 1) (ret := (some .int)) (by decide) rfl ?_
  intro p e s m args below meth c s₁ B hml hv
  obtain ⟨rfl, hP, hK⟩ := hv
  have hx := B.exec
  have hb := B.bytes
  have hr := B.returns
  have hts := atoms_spec (ws := w_X10_fault) B.pre
  have hown : s.vm.findClass RX10 = some m.cls := findClass_of_methodNamed B.named
  have hlocks := B.notSynchronized
  have hS : va_S (fun _ : Nat => False) s.heap s.heap [] := va_S.rf
  have hP : va_P D vwCl [(h0, .inr (10, [.ref m_now, .ref m_draft, .ref m_past, .int j_acts, .ref m_images, .ref m_kept, .ref m_tape, .int j_taped, .int j_at, .int j_start, .int j_token, .int j_value, .int j_fault, .int j_place, .int j_latest, .ref m_low, .ref m_high, .ref m_first, .ref m_second, .ref m_lines, .ref m_others, .int j_shiftFirst, .int j_shiftMany, .int j_shiftLow, .int j_shiftHigh]))] s.heap := hP
  have hl := lv_entry ([.ref h0]) (n := 1) (Nat.le_of_ble_eq_true rfl)
  rw [lg_entry_eq]
  generalize (lg_sl ([.ref h0]) ++ List.replicate (1 - (lg_sl ([.ref h0])).length) Slot.unset).toArray = ls at hl ⊢
  have hl : lv_has ls 1 [(0, .ref h0)] := hl
  obtain ⟨H, hHe⟩ : ∃ H : Heap, H = s.heap := ⟨_, rfl⟩
  rw [← hHe] at hP
  have hS : va_S (fun _ : Nat => False) s.heap H [] := by rw [hHe]; exact hS
  refine pw_heap hHe ?_
  refine lv_aload_n hx hb dX10_fault_0 rfl (lv_at hl 0 rfl) ?_
  refine va_get (D := D) (ci := 10) (v := .int j_latest) (C := RX10) (T := TX10) (N := 25) hx hb hts (fun _ h => List.mem_cons_of_mem _ (List.mem_append_right _ h)) hown hK hP 0 rfl rfl 14 (by decide) (hts (.fieldLink RX10 187 "LineCitesModel" "latest" "I") (List.mem_of_getElem? (i := 1) rfl)) (fun _ h9 => h9) rfl dX10_fault_1 ?_
  exact W.iret (v := j_latest) hx hb hr (fun t ht hW => ⟨⟨j_latest, (), rfl, trivial, trivial⟩, hS.F ht⟩) hS.2.2 dX10_fault_4
def w_X10_count : List Cond := .code yX10_count cX10_count 2 (some .int) :: ([.constant RX10 177 (-1000001), .fieldLink RX10 7 "LineCitesModel" "now" "[I", .methodLink RX10 295 yX10_allStretches, .instanceMethod yX10_allStretches, .selects RX10 yX10_allStretches yX10_allStretches, .initialized RX10, .code yX10_allStretches cX10_allStretches 3 (some .int), .methodLink RX10 231 yX10_citations, .instanceMethod yX10_citations, .selects RX10 yX10_citations yX10_citations, .code yX10_citations cX10_citations 3 (some .int), .methodLink RX10 215 yX10_cited, .instanceMethod yX10_cited, .selects RX10 yX10_cited yX10_cited, .code yX10_cited cX10_cited 3 (some .int), .fieldLink RX10 195 "LineCitesModel" "acts" "I", .fieldLink RX10 95 "LineCitesModel" "taped" "I"] ++ wsX100)
set_option maxRecDepth 20000 in
theorem g_X10_count_X10_allStretches : GoodIn w_X10_count (wsV RX10 295 RX10 yX10_allStretches w_X10_allStretches) := goodIn_r _ [3, 4, 5, 6, 7, 2, 18, 19, 20, 21, 22, 23, 24, 25, 26, 27, 28, 29, 30, 31, 32, 33, 34, 35, 36, 37, 38, 39, 40, 41, 42] rfl (by decide +kernel)
set_option maxRecDepth 20000 in
theorem g_X10_count_X10_citations : GoodIn w_X10_count (wsV RX10 231 RX10 yX10_citations w_X10_citations) := goodIn_r _ [8, 9, 10, 6, 11, 12, 13, 14, 6, 15, 2, 18, 19, 20, 21, 22, 23, 24, 25, 26, 27, 28, 29, 30, 31, 32, 33, 34, 35, 36, 37, 38, 39, 40, 41, 42] rfl (by decide +kernel)
set_option maxHeartbeats 4000000 in
set_option maxRecDepth 100000 in
theorem c_X10_count (l : Launch) (D : va_G) (h0 : Nat) (i_0 : Int32) (m_now : Nat) (m_draft : Nat) (m_past : Nat) (j_acts : Int32) (m_images : Nat) (m_kept : Nat) (m_tape : Nat) (j_taped : Int32) (j_at : Int32) (j_start : Int32) (j_token : Int32) (j_value : Int32) (j_fault : Int32) (j_place : Int32) (j_latest : Int32) (m_low : Nat) (m_high : Nat) (m_first : Nat) (m_second : Nat) (m_lines : Nat) (m_others : Nat) (j_shiftFirst : Int32) (j_shiftMany : Int32) (j_shiftLow : Int32) (j_shiftHigh : Int32) (kI : ClassId) (g_now : Nat → Int32) (hg_now : gV g_now) : Met l yX10_count w_X10_count ({ frames := 2, cells := 0, slots := 0, locals := 44 }) (va_Pc [.ref h0, .int i_0] (fun U => va_P D vwCl [(h0, .inr (10, [.ref m_now, .ref m_draft, .ref m_past, .int j_acts, .ref m_images, .ref m_kept, .ref m_tape, .int j_taped, .int j_at, .int j_start, .int j_token, .int j_value, .int j_fault, .int j_place, .int j_latest, .ref m_low, .ref m_high, .ref m_first, .ref m_second, .ref m_lines, .ref m_others, .int j_shiftFirst, .int j_shiftMany, .int j_shiftLow, .int j_shiftHigh])), (m_now, .inl (kI, 192, .inl g_now))] U.heap ∧ va_K D vwCl [(kI, .int)] U)) (va_Qi (fun (r : Int32) (_ : Unit) => True) (fun _ _ => True) (fun _ => False)) 0 0 (fun _ => False) := by
  refine Met.ofW (cc := cX10_count) (maxL := 2) (ret := (some .int)) (by decide) rfl ?_
  intro p e s m args below meth c s₁ B hml hv
  obtain ⟨rfl, hP, hK⟩ := hv
  have hx := B.exec
  have hb := B.bytes
  have hr := B.returns
  have hts := atoms_spec (ws := w_X10_count) B.pre
  have hown : s.vm.findClass RX10 = some m.cls := findClass_of_methodNamed B.named
  have hlocks := B.notSynchronized
  have hS : va_S (fun _ : Nat => False) s.heap s.heap [] := va_S.rf
  have hP : va_P D vwCl [(h0, .inr (10, [.ref m_now, .ref m_draft, .ref m_past, .int j_acts, .ref m_images, .ref m_kept, .ref m_tape, .int j_taped, .int j_at, .int j_start, .int j_token, .int j_value, .int j_fault, .int j_place, .int j_latest, .ref m_low, .ref m_high, .ref m_first, .ref m_second, .ref m_lines, .ref m_others, .int j_shiftFirst, .int j_shiftMany, .int j_shiftLow, .int j_shiftHigh])), (m_now, .inl (kI, 192, .inl g_now))] s.heap := hP
  have hl := lv_entry ([.ref h0, .int i_0]) (n := 2) (Nat.le_of_ble_eq_true rfl)
  rw [lg_entry_eq]
  generalize (lg_sl ([.ref h0, .int i_0]) ++ List.replicate (2 - (lg_sl ([.ref h0, .int i_0])).length) Slot.unset).toArray = ls at hl ⊢
  have hl : lv_has ls 2 [(0, .ref h0), (1, .int i_0)] := hl
  obtain ⟨H, hHe⟩ : ∃ H : Heap, H = s.heap := ⟨_, rfl⟩
  rw [← hHe] at hP
  have hS : va_S (fun _ : Nat => False) s.heap H [] := by rw [hHe]; exact hS
  refine pw_heap hHe ?_
  refine lv_iload_n hx hb dX10_count_0 rfl (lv_at hl 1 rfl) ?_
  rcases pw_sw7 i_0 with h8 | rfl | rfl | rfl | rfl | rfl | rfl | rfl
  · refine lv_tableOut (tgt := 85) hx hb dX10_count_1 h8 (by decide) ?_
    refine lv_ldc hx hb hown (hts (.constant RX10 177 (-1000001)) (List.mem_of_getElem? (i := 1) rfl)) dX10_count_85 ?_
    exact W.iret (v := (-1000001)) hx hb hr (fun t ht hW => ⟨⟨(-1000001), (), rfl, trivial, trivial⟩, hS.F ht⟩) hS.2.2 dX10_count_87
  · refine lv_tableIn (tgt := 44) hx hb dX10_count_1 (by decide) (by decide) rfl (by decide) ?_
    refine lv_aload_n hx hb dX10_count_44 rfl (lv_at hl 0 rfl) ?_
    refine va_get (D := D) (ci := 10) (v := .ref m_now) (C := RX10) (T := TX10) (N := 25) hx hb hts (fun _ h => List.mem_cons_of_mem _ (List.mem_append_right _ h)) hown hK hP 0 rfl rfl 0 (by decide) (hts (.fieldLink RX10 7 "LineCitesModel" "now" "[I") (List.mem_of_getElem? (i := 2) rfl)) (fun _ h9 => h9) rfl dX10_count_45 ?_
    refine lv_iconst (v := 0) hx hb dX10_count_48 (by decide) ?_
    refine va_iald hx hb hK hP 1 0 rfl rfl (vp_in_iff.mpr (by decide)) dX10_count_49 ?_
    refine lv_topi (fun x1 ex1 => ?_)
    have nx1 : 0 ≤ x1.toInt ∧ x1.toInt ≤ 200 := gV_0 hg_now ex1
    have zx1 := gV_00 ex1
    exact W.iret (v := x1) hx hb hr (fun t ht hW => ⟨⟨x1, (), rfl, trivial, trivial⟩, hS.F ht⟩) hS.2.2 dX10_count_50
  · refine lv_tableIn (tgt := 51) hx hb dX10_count_1 (by decide) (by decide) rfl (by decide) ?_
    refine lv_aload_n hx hb dX10_count_51 rfl (lv_at hl 0 rfl) ?_
    refine va_get (D := D) (ci := 10) (v := .ref m_now) (C := RX10) (T := TX10) (N := 25) hx hb hts (fun _ h => List.mem_cons_of_mem _ (List.mem_append_right _ h)) hown hK hP 0 rfl rfl 0 (by decide) (hts (.fieldLink RX10 7 "LineCitesModel" "now" "[I") (List.mem_of_getElem? (i := 2) rfl)) (fun _ h9 => h9) rfl dX10_count_52 ?_
    refine lv_iconst (v := 1) hx hb dX10_count_55 (by decide) ?_
    refine va_iald hx hb hK hP 1 0 rfl rfl (vp_in_iff.mpr (by decide)) dX10_count_56 ?_
    refine lv_topi (fun x2 ex2 => ?_)
    have nx2 : 0 ≤ x2.toInt ∧ x2.toInt ≤ 5 := gV_1 hg_now ex2
    exact W.iret (v := x2) hx hb hr (fun t ht hW => ⟨⟨x2, (), rfl, trivial, trivial⟩, hS.F ht⟩) hS.2.2 dX10_count_57
  · refine lv_tableIn (tgt := 58) hx hb dX10_count_1 (by decide) (by decide) rfl (by decide) ?_
    refine lv_aload_n hx hb dX10_count_58 rfl (lv_at hl 0 rfl) ?_
    have hPc := hP.sub (ws' := [(h0, .inr (10, [.ref m_now, .ref m_draft, .ref m_past, .int j_acts, .ref m_images, .ref m_kept, .ref m_tape, .int j_taped, .int j_at, .int j_start, .int j_token, .int j_value, .int j_fault, .int j_place, .int j_latest, .ref m_low, .ref m_high, .ref m_first, .ref m_second, .ref m_lines, .ref m_others, .int j_shiftFirst, .int j_shiftMany, .int j_shiftLow, .int j_shiftHigh])), (m_now, .inl (kI, 192, .inl g_now))]) [0, 1] rfl
    have hKc := hK.sub (tys' := [(kI, .int)]) [0] rfl
    refine va_calli (va_runV (As := []) (rest := []) ⟨hx, hb, hml, hown, hts⟩ (c_X10_allStretches l D h0 m_now m_draft m_past j_acts m_images m_kept m_tape j_taped j_at j_start j_token j_value j_fault j_place j_latest m_low m_high m_first m_second m_lines m_others j_shiftFirst j_shiftMany j_shiftLow j_shiftHigh kI g_now hg_now) (cwV 0 hts g_X10_count_X10_allStretches rfl rfl rfl (by decide +kernel) ⟨Nat.le_of_ble_eq_true rfl, Nat.le_of_ble_eq_true rfl⟩) ⟨fun a U g mk q => by obtain ⟨q0, qP, qK⟩ := q; exact ⟨q0, qP, va_K.moved (u := U) (U := U.calling g mk a) (Vm.Alike.refl U.vm) qK⟩, va_recv hKc hPc (ci := 10) (q0 := 0) rfl rfl, fun U hU hW => ⟨rfl, by rw [hU]; exact hPc, va_K.moved hW.alike hKc⟩⟩ rfl rfl hl.1 rfl (lv_room (Nat.le_of_ble_eq_true rfl)) dX10_count_59 ⟨Nat.le_of_ble_eq_true rfl, Nat.le_of_ble_eq_true rfl⟩) hS (fun _ _ h => h.elim) (fun _ h => h.elim) (fun r3 u t H1 locs ht hvm hw hB hz1 hk1 hS => ?_)
    have hP := pw_keep hP (fun q hq => hk1 q hq (fun h => h))
    generalize H1 = H at hP hS ⊢
    refine W.widen (k := 0) (n := 0) (Nat.le_of_ble_eq_true rfl) (Nat.le_of_ble_eq_true rfl) ?_
    exact W.iret (v := r3) hx hb hr (fun t ht hW => ⟨⟨r3, (), rfl, trivial, trivial⟩, hS.F ht⟩) hS.2.2 dX10_count_62
  · refine lv_tableIn (tgt := 63) hx hb dX10_count_1 (by decide) (by decide) rfl (by decide) ?_
    refine lv_aload_n hx hb dX10_count_63 rfl (lv_at hl 0 rfl) ?_
    have hPc := hP.sub (ws' := [(h0, .inr (10, [.ref m_now, .ref m_draft, .ref m_past, .int j_acts, .ref m_images, .ref m_kept, .ref m_tape, .int j_taped, .int j_at, .int j_start, .int j_token, .int j_value, .int j_fault, .int j_place, .int j_latest, .ref m_low, .ref m_high, .ref m_first, .ref m_second, .ref m_lines, .ref m_others, .int j_shiftFirst, .int j_shiftMany, .int j_shiftLow, .int j_shiftHigh])), (m_now, .inl (kI, 192, .inl g_now))]) [0, 1] rfl
    have hKc := hK.sub (tys' := [(kI, .int)]) [0] rfl
    refine va_calli (va_runV (As := []) (rest := []) ⟨hx, hb, hml, hown, hts⟩ (c_X10_citations l D h0 m_now m_draft m_past j_acts m_images m_kept m_tape j_taped j_at j_start j_token j_value j_fault j_place j_latest m_low m_high m_first m_second m_lines m_others j_shiftFirst j_shiftMany j_shiftLow j_shiftHigh kI g_now) (cwV 0 hts g_X10_count_X10_citations rfl rfl rfl (by decide +kernel) ⟨Nat.le_of_ble_eq_true rfl, Nat.le_of_ble_eq_true rfl⟩) ⟨fun a U g mk q => by obtain ⟨q0, qP, qK⟩ := q; exact ⟨q0, qP, va_K.moved (u := U) (U := U.calling g mk a) (Vm.Alike.refl U.vm) qK⟩, va_recv hKc hPc (ci := 10) (q0 := 0) rfl rfl, fun U hU hW => ⟨rfl, by rw [hU]; exact hPc, va_K.moved hW.alike hKc⟩⟩ rfl rfl hl.1 rfl (lv_room (Nat.le_of_ble_eq_true rfl)) dX10_count_64 ⟨Nat.le_of_ble_eq_true rfl, Nat.le_of_ble_eq_true rfl⟩) hS (fun _ _ h => h.elim) (fun _ h => h.elim) (fun r4 u t H1 locs ht hvm hw hB hz1 hk1 hS => ?_)
    have hP := pw_keep hP (fun q hq => hk1 q hq (fun h => h))
    generalize H1 = H at hP hS ⊢
    refine W.widen (k := 0) (n := 0) (Nat.le_of_ble_eq_true rfl) (Nat.le_of_ble_eq_true rfl) ?_
    exact W.iret (v := r4) hx hb hr (fun t ht hW => ⟨⟨r4, (), rfl, trivial, trivial⟩, hS.F ht⟩) hS.2.2 dX10_count_67
  · refine lv_tableIn (tgt := 68) hx hb dX10_count_1 (by decide) (by decide) rfl (by decide) ?_
    refine lv_aload_n hx hb dX10_count_68 rfl (lv_at hl 0 rfl) ?_
    refine va_get (D := D) (ci := 10) (v := .ref m_now) (C := RX10) (T := TX10) (N := 25) hx hb hts (fun _ h => List.mem_cons_of_mem _ (List.mem_append_right _ h)) hown hK hP 0 rfl rfl 0 (by decide) (hts (.fieldLink RX10 7 "LineCitesModel" "now" "[I") (List.mem_of_getElem? (i := 2) rfl)) (fun _ h9 => h9) rfl dX10_count_69 ?_
    refine lv_iconst (v := 2) hx hb dX10_count_72 (by decide) ?_
    refine va_iald hx hb hK hP 1 0 rfl rfl (vp_in_iff.mpr (by decide)) dX10_count_73 ?_
    refine lv_topi (fun x5 ex5 => ?_)
    have nx5 : 0 ≤ x5.toInt ∧ x5.toInt ≤ 12 := gV_2 hg_now ex5
    exact W.iret (v := x5) hx hb hr (fun t ht hW => ⟨⟨x5, (), rfl, trivial, trivial⟩, hS.F ht⟩) hS.2.2 dX10_count_74
  · refine lv_tableIn (tgt := 75) hx hb dX10_count_1 (by decide) (by decide) rfl (by decide) ?_
    refine lv_aload_n hx hb dX10_count_75 rfl (lv_at hl 0 rfl) ?_
    refine va_get (D := D) (ci := 10) (v := .int j_acts) (C := RX10) (T := TX10) (N := 25) hx hb hts (fun _ h => List.mem_cons_of_mem _ (List.mem_append_right _ h)) hown hK hP 0 rfl rfl 3 (by decide) (hts (.fieldLink RX10 195 "LineCitesModel" "acts" "I") (List.mem_of_getElem? (i := 16) rfl)) (fun _ h9 => h9) rfl dX10_count_76 ?_
    exact W.iret (v := j_acts) hx hb hr (fun t ht hW => ⟨⟨j_acts, (), rfl, trivial, trivial⟩, hS.F ht⟩) hS.2.2 dX10_count_79
  · refine lv_tableIn (tgt := 80) hx hb dX10_count_1 (by decide) (by decide) rfl (by decide) ?_
    refine lv_aload_n hx hb dX10_count_80 rfl (lv_at hl 0 rfl) ?_
    refine va_get (D := D) (ci := 10) (v := .int j_taped) (C := RX10) (T := TX10) (N := 25) hx hb hts (fun _ h => List.mem_cons_of_mem _ (List.mem_append_right _ h)) hown hK hP 0 rfl rfl 7 (by decide) (hts (.fieldLink RX10 95 "LineCitesModel" "taped" "I") (List.mem_of_getElem? (i := 17) rfl)) (fun _ h9 => h9) rfl dX10_count_81 ?_
    exact W.iret (v := j_taped) hx hb hr (fun t ht hW => ⟨⟨j_taped, (), rfl, trivial, trivial⟩, hS.F ht⟩) hS.2.2 dX10_count_84
