theorem dX10_init_0 : decode cX10_init 0 = .ok (.aload_n 0, 1) := by decide +kernel
theorem dX10_init_1 : decode cX10_init 1 = .ok (.invokespecial 1, 3) := by decide +kernel
theorem dX10_init_4 : decode cX10_init 4 = .ok (.aload_n 0, 1) := by decide +kernel
theorem dX10_init_5 : decode cX10_init 5 = .ok (.sipush 192, 3) := by decide +kernel
theorem dX10_init_8 : decode cX10_init 8 = .ok (.newarray .int, 2) := by decide +kernel
theorem dX10_init_10 : decode cX10_init 10 = .ok (.putfield 7, 3) := by decide +kernel
theorem dX10_init_13 : decode cX10_init 13 = .ok (.aload_n 0, 1) := by decide +kernel
theorem dX10_init_14 : decode cX10_init 14 = .ok (.sipush 192, 3) := by decide +kernel
theorem dX10_init_17 : decode cX10_init 17 = .ok (.newarray .int, 2) := by decide +kernel
theorem dX10_init_19 : decode cX10_init 19 = .ok (.putfield 13, 3) := by decide +kernel
theorem dX10_init_22 : decode cX10_init 22 = .ok (.aload_n 0, 1) := by decide +kernel
theorem dX10_init_23 : decode cX10_init 23 = .ok (.sipush 1920, 3) := by decide +kernel
theorem dX10_init_26 : decode cX10_init 26 = .ok (.newarray .int, 2) := by decide +kernel
theorem dX10_init_28 : decode cX10_init 28 = .ok (.putfield 16, 3) := by decide +kernel
theorem dX10_init_31 : decode cX10_init 31 = .ok (.aload_n 0, 1) := by decide +kernel
theorem dX10_init_32 : decode cX10_init 32 = .ok (.sipush 384, 3) := by decide +kernel
theorem dX10_init_35 : decode cX10_init 35 = .ok (.newarray .int, 2) := by decide +kernel
theorem dX10_init_37 : decode cX10_init 37 = .ok (.putfield 19, 3) := by decide +kernel
theorem dX10_init_40 : decode cX10_init 40 = .ok (.aload_n 0, 1) := by decide +kernel
theorem dX10_init_41 : decode cX10_init 41 = .ok (.iconst 2, 1) := by decide +kernel
theorem dX10_init_42 : decode cX10_init 42 = .ok (.newarray .boolean, 2) := by decide +kernel
theorem dX10_init_44 : decode cX10_init 44 = .ok (.putfield 22, 3) := by decide +kernel
theorem dX10_init_47 : decode cX10_init 47 = .ok (.aload_n 0, 1) := by decide +kernel
theorem dX10_init_48 : decode cX10_init 48 = .ok (.sipush 200, 3) := by decide +kernel
theorem dX10_init_51 : decode cX10_init 51 = .ok (.newarray .int, 2) := by decide +kernel
theorem dX10_init_53 : decode cX10_init 53 = .ok (.putfield 26, 3) := by decide +kernel
theorem dX10_init_56 : decode cX10_init 56 = .ok (.aload_n 0, 1) := by decide +kernel
theorem dX10_init_57 : decode cX10_init 57 = .ok (.sipush 1000, 3) := by decide +kernel
theorem dX10_init_60 : decode cX10_init 60 = .ok (.newarray .int, 2) := by decide +kernel
theorem dX10_init_62 : decode cX10_init 62 = .ok (.putfield 29, 3) := by decide +kernel
theorem dX10_init_65 : decode cX10_init 65 = .ok (.aload_n 0, 1) := by decide +kernel
theorem dX10_init_66 : decode cX10_init 66 = .ok (.sipush 1000, 3) := by decide +kernel
theorem dX10_init_69 : decode cX10_init 69 = .ok (.newarray .int, 2) := by decide +kernel
theorem dX10_init_71 : decode cX10_init 71 = .ok (.putfield 32, 3) := by decide +kernel
theorem dX10_init_74 : decode cX10_init 74 = .ok (.aload_n 0, 1) := by decide +kernel
theorem dX10_init_75 : decode cX10_init 75 = .ok (.sipush 1000, 3) := by decide +kernel
theorem dX10_init_78 : decode cX10_init 78 = .ok (.newarray .boolean, 2) := by decide +kernel
theorem dX10_init_80 : decode cX10_init 80 = .ok (.putfield 35, 3) := by decide +kernel
theorem dX10_init_83 : decode cX10_init 83 = .ok (.aload_n 0, 1) := by decide +kernel
theorem dX10_init_84 : decode cX10_init 84 = .ok (.sipush 1000, 3) := by decide +kernel
theorem dX10_init_87 : decode cX10_init 87 = .ok (.newarray .boolean, 2) := by decide +kernel
theorem dX10_init_89 : decode cX10_init 89 = .ok (.putfield 38, 3) := by decide +kernel
theorem dX10_init_92 : decode cX10_init 92 = .ok (.aload_n 0, 1) := by decide +kernel
theorem dX10_init_93 : decode cX10_init 93 = .ok (.sipush 200, 3) := by decide +kernel
theorem dX10_init_96 : decode cX10_init 96 = .ok (.newarray .boolean, 2) := by decide +kernel
theorem dX10_init_98 : decode cX10_init 98 = .ok (.putfield 41, 3) := by decide +kernel
theorem dX10_init_101 : decode cX10_init 101 = .ok (.aload_n 0, 1) := by decide +kernel
theorem dX10_init_102 : decode cX10_init 102 = .ok (.sipush 200, 3) := by decide +kernel
theorem dX10_init_105 : decode cX10_init 105 = .ok (.newarray .boolean, 2) := by decide +kernel
theorem dX10_init_107 : decode cX10_init 107 = .ok (.putfield 44, 3) := by decide +kernel
theorem dX10_init_110 : decode cX10_init 110 = .ok (.return_, 1) := by decide +kernel
theorem dX10_feed_0 : decode cX10_feed 0 = .ok (.iload_n 1, 1) := by decide +kernel
theorem dX10_feed_1 : decode cX10_feed 1 = .ok (.i2l, 1) := by decide +kernel
theorem dX10_feed_2 : decode cX10_feed 2 = .ok (.lconst 0, 1) := by decide +kernel
theorem dX10_feed_3 : decode cX10_feed 3 = .ok (.ldc2_w 175, 3) := by decide +kernel
theorem dX10_feed_6 : decode cX10_feed 6 = .ok (.invokestatic 51, 3) := by decide +kernel
theorem dX10_feed_9 : decode cX10_feed 9 = .ok (.ifCond .ne 6, 3) := by decide +kernel
theorem dX10_feed_12 : decode cX10_feed 12 = .ok (.ldc 177, 2) := by decide +kernel
theorem dX10_feed_14 : decode cX10_feed 14 = .ok (.ireturn, 1) := by decide +kernel
theorem dX10_feed_15 : decode cX10_feed 15 = .ok (.aload_n 0, 1) := by decide +kernel
theorem dX10_feed_16 : decode cX10_feed 16 = .ok (.getfield 95, 3) := by decide +kernel
theorem dX10_feed_19 : decode cX10_feed 19 = .ok (.sipush 200, 3) := by decide +kernel
theorem dX10_feed_22 : decode cX10_feed 22 = .ok (.if_icmp .ne 6, 3) := by decide +kernel
theorem dX10_feed_25 : decode cX10_feed 25 = .ok (.ldc 178, 2) := by decide +kernel
theorem dX10_feed_27 : decode cX10_feed 27 = .ok (.ireturn, 1) := by decide +kernel
theorem dX10_feed_28 : decode cX10_feed 28 = .ok (.aload_n 0, 1) := by decide +kernel
theorem dX10_feed_29 : decode cX10_feed 29 = .ok (.getfield 26, 3) := by decide +kernel
theorem dX10_feed_32 : decode cX10_feed 32 = .ok (.aload_n 0, 1) := by decide +kernel
theorem dX10_feed_33 : decode cX10_feed 33 = .ok (.getfield 95, 3) := by decide +kernel
theorem dX10_feed_36 : decode cX10_feed 36 = .ok (.iload_n 1, 1) := by decide +kernel
theorem dX10_feed_37 : decode cX10_feed 37 = .ok (.iastore, 1) := by decide +kernel
theorem dX10_feed_38 : decode cX10_feed 38 = .ok (.aload_n 0, 1) := by decide +kernel
theorem dX10_feed_39 : decode cX10_feed 39 = .ok (.dup, 1) := by decide +kernel
theorem dX10_feed_40 : decode cX10_feed 40 = .ok (.getfield 95, 3) := by decide +kernel
theorem dX10_feed_43 : decode cX10_feed 43 = .ok (.iconst 1, 1) := by decide +kernel
theorem dX10_feed_44 : decode cX10_feed 44 = .ok (.iadd, 1) := by decide +kernel
theorem dX10_feed_45 : decode cX10_feed 45 = .ok (.putfield 95, 3) := by decide +kernel
theorem dX10_feed_48 : decode cX10_feed 48 = .ok (.aload_n 0, 1) := by decide +kernel
theorem dX10_feed_49 : decode cX10_feed 49 = .ok (.getfield 95, 3) := by decide +kernel
theorem dX10_feed_52 : decode cX10_feed 52 = .ok (.ireturn, 1) := by decide +kernel
theorem dX10_byteAt_0 : decode cX10_byteAt 0 = .ok (.iload_n 1, 1) := by decide +kernel
theorem dX10_byteAt_1 : decode cX10_byteAt 1 = .ok (.aload_n 0, 1) := by decide +kernel
theorem dX10_byteAt_2 : decode cX10_byteAt 2 = .ok (.getfield 95, 3) := by decide +kernel
theorem dX10_byteAt_5 : decode cX10_byteAt 5 = .ok (.if_icmp .ge 12, 3) := by decide +kernel
theorem dX10_byteAt_8 : decode cX10_byteAt 8 = .ok (.aload_n 0, 1) := by decide +kernel
theorem dX10_byteAt_9 : decode cX10_byteAt 9 = .ok (.getfield 26, 3) := by decide +kernel
theorem dX10_byteAt_12 : decode cX10_byteAt 12 = .ok (.iload_n 1, 1) := by decide +kernel
theorem dX10_byteAt_13 : decode cX10_byteAt 13 = .ok (.iaload, 1) := by decide +kernel
theorem dX10_byteAt_14 : decode cX10_byteAt 14 = .ok (.goto 4, 3) := by decide +kernel
theorem dX10_byteAt_17 : decode cX10_byteAt 17 = .ok (.iconst (-1), 1) := by decide +kernel
theorem dX10_byteAt_18 : decode cX10_byteAt 18 = .ok (.ireturn, 1) := by decide +kernel
theorem dX10_reads_0 : decode cX10_reads 0 = .ok (.aload_n 0, 1) := by decide +kernel
theorem dX10_reads_1 : decode cX10_reads 1 = .ok (.aload_n 0, 1) := by decide +kernel
theorem dX10_reads_2 : decode cX10_reads 2 = .ok (.getfield 99, 3) := by decide +kernel
theorem dX10_reads_5 : decode cX10_reads 5 = .ok (.putfield 102, 3) := by decide +kernel
theorem dX10_reads_8 : decode cX10_reads 8 = .ok (.aload_n 0, 1) := by decide +kernel
theorem dX10_reads_9 : decode cX10_reads 9 = .ok (.aload_n 0, 1) := by decide +kernel
theorem dX10_reads_10 : decode cX10_reads 10 = .ok (.getfield 99, 3) := by decide +kernel
theorem dX10_reads_13 : decode cX10_reads 13 = .ok (.invokevirtual 105, 3) := by decide +kernel
theorem dX10_reads_16 : decode cX10_reads 16 = .ok (.istore_n 1, 1) := by decide +kernel
theorem dX10_reads_17 : decode cX10_reads 17 = .ok (.aload_n 0, 1) := by decide +kernel
theorem dX10_reads_18 : decode cX10_reads 18 = .ok (.iload_n 1, 1) := by decide +kernel
theorem dX10_reads_19 : decode cX10_reads 19 = .ok (.putfield 109, 3) := by decide +kernel
theorem dX10_reads_22 : decode cX10_reads 22 = .ok (.aload_n 0, 1) := by decide +kernel
theorem dX10_reads_23 : decode cX10_reads 23 = .ok (.dup, 1) := by decide +kernel
theorem dX10_reads_24 : decode cX10_reads 24 = .ok (.getfield 99, 3) := by decide +kernel
theorem dX10_reads_27 : decode cX10_reads 27 = .ok (.iload_n 1, 1) := by decide +kernel
theorem dX10_reads_28 : decode cX10_reads 28 = .ok (.ifCond .ge 7, 3) := by decide +kernel
theorem dX10_reads_31 : decode cX10_reads 31 = .ok (.iconst 0, 1) := by decide +kernel
theorem dX10_reads_32 : decode cX10_reads 32 = .ok (.goto 4, 3) := by decide +kernel
theorem dX10_reads_35 : decode cX10_reads 35 = .ok (.iconst 1, 1) := by decide +kernel
theorem dX10_reads_36 : decode cX10_reads 36 = .ok (.iadd, 1) := by decide +kernel
theorem dX10_reads_37 : decode cX10_reads 37 = .ok (.putfield 99, 3) := by decide +kernel
theorem dX10_reads_40 : decode cX10_reads 40 = .ok (.aload_n 0, 1) := by decide +kernel
theorem dX10_reads_41 : decode cX10_reads 41 = .ok (.iload_n 1, 1) := by decide +kernel
theorem dX10_reads_42 : decode cX10_reads 42 = .ok (.ifCond .ge 7, 3) := by decide +kernel
theorem dX10_reads_45 : decode cX10_reads 45 = .ok (.iconst 0, 1) := by decide +kernel
theorem dX10_reads_46 : decode cX10_reads 46 = .ok (.goto 56, 3) := by decide +kernel
theorem dX10_reads_49 : decode cX10_reads 49 = .ok (.iload_n 1, 1) := by decide +kernel
theorem dX10_reads_50 : decode cX10_reads 50 = .ok (.i2l, 1) := by decide +kernel
theorem dX10_reads_51 : decode cX10_reads 51 = .ok (.ldc2_w 112, 3) := by decide +kernel
theorem dX10_reads_54 : decode cX10_reads 54 = .ok (.ldc2_w 114, 3) := by decide +kernel
theorem dX10_reads_57 : decode cX10_reads 57 = .ok (.invokestatic 51, 3) := by decide +kernel
theorem dX10_reads_60 : decode cX10_reads 60 = .ok (.ifCond .eq 7, 3) := by decide +kernel
theorem dX10_reads_63 : decode cX10_reads 63 = .ok (.iconst 1, 1) := by decide +kernel
theorem dX10_reads_64 : decode cX10_reads 64 = .ok (.goto 38, 3) := by decide +kernel
theorem dX10_reads_67 : decode cX10_reads 67 = .ok (.iload_n 1, 1) := by decide +kernel
theorem dX10_reads_68 : decode cX10_reads 68 = .ok (.i2l, 1) := by decide +kernel
theorem dX10_reads_69 : decode cX10_reads 69 = .ok (.ldc2_w 116, 3) := by decide +kernel
theorem dX10_reads_72 : decode cX10_reads 72 = .ok (.ldc2_w 118, 3) := by decide +kernel
theorem dX10_reads_75 : decode cX10_reads 75 = .ok (.invokestatic 51, 3) := by decide +kernel
theorem dX10_reads_78 : decode cX10_reads 78 = .ok (.ifCond .eq 7, 3) := by decide +kernel
theorem dX10_reads_81 : decode cX10_reads 81 = .ok (.iconst 2, 1) := by decide +kernel
theorem dX10_reads_82 : decode cX10_reads 82 = .ok (.goto 20, 3) := by decide +kernel
theorem dX10_reads_85 : decode cX10_reads 85 = .ok (.iload_n 1, 1) := by decide +kernel
theorem dX10_reads_86 : decode cX10_reads 86 = .ok (.bipush 44, 2) := by decide +kernel
theorem dX10_reads_88 : decode cX10_reads 88 = .ok (.if_icmp .eq 9, 3) := by decide +kernel
theorem dX10_reads_91 : decode cX10_reads 91 = .ok (.iload_n 1, 1) := by decide +kernel
theorem dX10_reads_92 : decode cX10_reads 92 = .ok (.bipush 59, 2) := by decide +kernel
theorem dX10_reads_94 : decode cX10_reads 94 = .ok (.if_icmp .ne 7, 3) := by decide +kernel
theorem dX10_reads_97 : decode cX10_reads 97 = .ok (.iconst 3, 1) := by decide +kernel
theorem dX10_reads_98 : decode cX10_reads 98 = .ok (.goto 4, 3) := by decide +kernel
theorem dX10_reads_101 : decode cX10_reads 101 = .ok (.iconst 4, 1) := by decide +kernel
theorem dX10_reads_102 : decode cX10_reads 102 = .ok (.putfield 120, 3) := by decide +kernel
theorem dX10_reads_105 : decode cX10_reads 105 = .ok (.aload_n 0, 1) := by decide +kernel
theorem dX10_reads_106 : decode cX10_reads 106 = .ok (.getfield 120, 3) := by decide +kernel
theorem dX10_reads_109 : decode cX10_reads 109 = .ok (.iconst 2, 1) := by decide +kernel
theorem dX10_reads_110 : decode cX10_reads 110 = .ok (.if_icmp .ne 110, 3) := by decide +kernel
theorem dX10_reads_113 : decode cX10_reads 113 = .ok (.aload_n 0, 1) := by decide +kernel
theorem dX10_reads_114 : decode cX10_reads 114 = .ok (.iload_n 1, 1) := by decide +kernel
theorem dX10_reads_115 : decode cX10_reads 115 = .ok (.bipush 48, 2) := by decide +kernel
theorem dX10_reads_117 : decode cX10_reads 117 = .ok (.isub, 1) := by decide +kernel
theorem dX10_reads_118 : decode cX10_reads 118 = .ok (.putfield 109, 3) := by decide +kernel
theorem dX10_reads_121 : decode cX10_reads 121 = .ok (.aload_n 0, 1) := by decide +kernel
theorem dX10_reads_122 : decode cX10_reads 122 = .ok (.aload_n 0, 1) := by decide +kernel
theorem dX10_reads_123 : decode cX10_reads 123 = .ok (.getfield 99, 3) := by decide +kernel
theorem dX10_reads_126 : decode cX10_reads 126 = .ok (.invokevirtual 105, 3) := by decide +kernel
theorem dX10_reads_129 : decode cX10_reads 129 = .ok (.i2l, 1) := by decide +kernel
theorem dX10_reads_130 : decode cX10_reads 130 = .ok (.ldc2_w 116, 3) := by decide +kernel
theorem dX10_reads_133 : decode cX10_reads 133 = .ok (.ldc2_w 118, 3) := by decide +kernel
theorem dX10_reads_136 : decode cX10_reads 136 = .ok (.invokestatic 51, 3) := by decide +kernel
theorem dX10_reads_139 : decode cX10_reads 139 = .ok (.ifCond .eq 59, 3) := by decide +kernel
theorem dX10_reads_142 : decode cX10_reads 142 = .ok (.aload_n 0, 1) := by decide +kernel
theorem dX10_reads_143 : decode cX10_reads 143 = .ok (.aload_n 0, 1) := by decide +kernel
theorem dX10_reads_144 : decode cX10_reads 144 = .ok (.getfield 99, 3) := by decide +kernel
theorem dX10_reads_147 : decode cX10_reads 147 = .ok (.aload_n 0, 1) := by decide +kernel
theorem dX10_reads_148 : decode cX10_reads 148 = .ok (.getfield 102, 3) := by decide +kernel
theorem dX10_reads_151 : decode cX10_reads 151 = .ok (.isub, 1) := by decide +kernel
theorem dX10_reads_152 : decode cX10_reads 152 = .ok (.iconst 3, 1) := by decide +kernel
theorem dX10_reads_153 : decode cX10_reads 153 = .ok (.if_icmp .ge 25, 3) := by decide +kernel
theorem dX10_reads_156 : decode cX10_reads 156 = .ok (.bipush 10, 2) := by decide +kernel
theorem dX10_reads_158 : decode cX10_reads 158 = .ok (.aload_n 0, 1) := by decide +kernel
theorem dX10_reads_159 : decode cX10_reads 159 = .ok (.getfield 109, 3) := by decide +kernel
theorem dX10_reads_162 : decode cX10_reads 162 = .ok (.imul, 1) := by decide +kernel
theorem dX10_reads_163 : decode cX10_reads 163 = .ok (.aload_n 0, 1) := by decide +kernel
theorem dX10_reads_164 : decode cX10_reads 164 = .ok (.aload_n 0, 1) := by decide +kernel
theorem dX10_reads_165 : decode cX10_reads 165 = .ok (.getfield 99, 3) := by decide +kernel
theorem dX10_reads_168 : decode cX10_reads 168 = .ok (.invokevirtual 105, 3) := by decide +kernel
theorem dX10_reads_171 : decode cX10_reads 171 = .ok (.iadd, 1) := by decide +kernel
theorem dX10_reads_172 : decode cX10_reads 172 = .ok (.bipush 48, 2) := by decide +kernel
theorem dX10_reads_174 : decode cX10_reads 174 = .ok (.isub, 1) := by decide +kernel
theorem dX10_reads_175 : decode cX10_reads 175 = .ok (.goto 7, 3) := by decide +kernel
theorem dX10_reads_178 : decode cX10_reads 178 = .ok (.aload_n 0, 1) := by decide +kernel
theorem dX10_reads_179 : decode cX10_reads 179 = .ok (.getfield 109, 3) := by decide +kernel
theorem dX10_reads_182 : decode cX10_reads 182 = .ok (.putfield 109, 3) := by decide +kernel
theorem dX10_reads_185 : decode cX10_reads 185 = .ok (.aload_n 0, 1) := by decide +kernel
theorem dX10_reads_186 : decode cX10_reads 186 = .ok (.dup, 1) := by decide +kernel
theorem dX10_reads_187 : decode cX10_reads 187 = .ok (.getfield 99, 3) := by decide +kernel
theorem dX10_reads_190 : decode cX10_reads 190 = .ok (.iconst 1, 1) := by decide +kernel
theorem dX10_reads_191 : decode cX10_reads 191 = .ok (.iadd, 1) := by decide +kernel
theorem dX10_reads_192 : decode cX10_reads 192 = .ok (.putfield 99, 3) := by decide +kernel
theorem dX10_reads_195 : decode cX10_reads 195 = .ok (.goto (-74), 3) := by decide +kernel
theorem dX10_reads_198 : decode cX10_reads 198 = .ok (.aload_n 0, 1) := by decide +kernel
theorem dX10_reads_199 : decode cX10_reads 199 = .ok (.aload_n 0, 1) := by decide +kernel
theorem dX10_reads_200 : decode cX10_reads 200 = .ok (.getfield 99, 3) := by decide +kernel
theorem dX10_reads_203 : decode cX10_reads 203 = .ok (.aload_n 0, 1) := by decide +kernel
theorem dX10_reads_204 : decode cX10_reads 204 = .ok (.getfield 102, 3) := by decide +kernel
theorem dX10_reads_207 : decode cX10_reads 207 = .ok (.isub, 1) := by decide +kernel
theorem dX10_reads_208 : decode cX10_reads 208 = .ok (.iconst 3, 1) := by decide +kernel
theorem dX10_reads_209 : decode cX10_reads 209 = .ok (.if_icmp .le 7, 3) := by decide +kernel
theorem dX10_reads_212 : decode cX10_reads 212 = .ok (.iconst 4, 1) := by decide +kernel
theorem dX10_reads_213 : decode cX10_reads 213 = .ok (.goto 4, 3) := by decide +kernel
theorem dX10_reads_216 : decode cX10_reads 216 = .ok (.iconst 2, 1) := by decide +kernel
theorem dX10_reads_217 : decode cX10_reads 217 = .ok (.putfield 120, 3) := by decide +kernel
theorem dX10_reads_220 : decode cX10_reads 220 = .ok (.return_, 1) := by decide +kernel
theorem dX10_isLetter_0 : decode cX10_isLetter 0 = .ok (.aload_n 0, 1) := by decide +kernel
theorem dX10_isLetter_1 : decode cX10_isLetter 1 = .ok (.getfield 123, 3) := by decide +kernel
theorem dX10_isLetter_4 : decode cX10_isLetter 4 = .ok (.ifCond .ne 23, 3) := by decide +kernel
theorem dX10_isLetter_7 : decode cX10_isLetter 7 = .ok (.aload_n 0, 1) := by decide +kernel
theorem dX10_isLetter_8 : decode cX10_isLetter 8 = .ok (.getfield 120, 3) := by decide +kernel
theorem dX10_isLetter_11 : decode cX10_isLetter 11 = .ok (.iconst 1, 1) := by decide +kernel
theorem dX10_isLetter_12 : decode cX10_isLetter 12 = .ok (.if_icmp .ne 15, 3) := by decide +kernel
theorem dX10_isLetter_15 : decode cX10_isLetter 15 = .ok (.aload_n 0, 1) := by decide +kernel
theorem dX10_isLetter_16 : decode cX10_isLetter 16 = .ok (.getfield 109, 3) := by decide +kernel
theorem dX10_isLetter_19 : decode cX10_isLetter 19 = .ok (.iload_n 1, 1) := by decide +kernel
theorem dX10_isLetter_20 : decode cX10_isLetter 20 = .ok (.if_icmp .ne 7, 3) := by decide +kernel
theorem dX10_isLetter_23 : decode cX10_isLetter 23 = .ok (.iconst 1, 1) := by decide +kernel
theorem dX10_isLetter_24 : decode cX10_isLetter 24 = .ok (.goto 4, 3) := by decide +kernel
theorem dX10_isLetter_27 : decode cX10_isLetter 27 = .ok (.iconst 0, 1) := by decide +kernel
theorem dX10_isLetter_28 : decode cX10_isLetter 28 = .ok (.ireturn, 1) := by decide +kernel
theorem dX10_bad_0 : decode cX10_bad 0 = .ok (.aload_n 0, 1) := by decide +kernel
theorem dX10_bad_1 : decode cX10_bad 1 = .ok (.getfield 123, 3) := by decide +kernel
theorem dX10_bad_4 : decode cX10_bad 4 = .ok (.ifCond .ne 16, 3) := by decide +kernel
theorem dX10_bad_7 : decode cX10_bad 7 = .ok (.aload_n 0, 1) := by decide +kernel
theorem dX10_bad_8 : decode cX10_bad 8 = .ok (.iload_n 1, 1) := by decide +kernel
theorem dX10_bad_9 : decode cX10_bad 9 = .ok (.putfield 123, 3) := by decide +kernel
theorem dX10_bad_12 : decode cX10_bad 12 = .ok (.aload_n 0, 1) := by decide +kernel
theorem dX10_bad_13 : decode cX10_bad 13 = .ok (.aload_n 0, 1) := by decide +kernel
theorem dX10_bad_14 : decode cX10_bad 14 = .ok (.getfield 102, 3) := by decide +kernel
theorem dX10_bad_17 : decode cX10_bad 17 = .ok (.putfield 126, 3) := by decide +kernel
theorem dX10_bad_20 : decode cX10_bad 20 = .ok (.return_, 1) := by decide +kernel
theorem dX10_goesOn_0 : decode cX10_goesOn 0 = .ok (.aload_n 0, 1) := by decide +kernel
theorem dX10_goesOn_1 : decode cX10_goesOn 1 = .ok (.getfield 123, 3) := by decide +kernel
theorem dX10_goesOn_4 : decode cX10_goesOn 4 = .ok (.ifCond .ne 7, 3) := by decide +kernel
theorem dX10_goesOn_7 : decode cX10_goesOn 7 = .ok (.aload_n 0, 1) := by decide +kernel
theorem dX10_goesOn_8 : decode cX10_goesOn 8 = .ok (.invokevirtual 129, 3) := by decide +kernel
theorem dX10_goesOn_11 : decode cX10_goesOn 11 = .ok (.return_, 1) := by decide +kernel
theorem dX10_sign_0 : decode cX10_sign 0 = .ok (.aload_n 0, 1) := by decide +kernel
theorem dX10_sign_1 : decode cX10_sign 1 = .ok (.getfield 120, 3) := by decide +kernel
theorem dX10_sign_4 : decode cX10_sign 4 = .ok (.iconst 3, 1) := by decide +kernel
theorem dX10_sign_5 : decode cX10_sign 5 = .ok (.if_icmp .ne 11, 3) := by decide +kernel
theorem dX10_sign_8 : decode cX10_sign 8 = .ok (.aload_n 0, 1) := by decide +kernel
theorem dX10_sign_9 : decode cX10_sign 9 = .ok (.getfield 109, 3) := by decide +kernel
theorem dX10_sign_12 : decode cX10_sign 12 = .ok (.iload_n 1, 1) := by decide +kernel
theorem dX10_sign_13 : decode cX10_sign 13 = .ok (.if_icmp .eq 8, 3) := by decide +kernel
theorem dX10_sign_16 : decode cX10_sign 16 = .ok (.aload_n 0, 1) := by decide +kernel
theorem dX10_sign_17 : decode cX10_sign 17 = .ok (.iconst 1, 1) := by decide +kernel
theorem dX10_sign_18 : decode cX10_sign 18 = .ok (.invokevirtual 132, 3) := by decide +kernel
theorem dX10_sign_21 : decode cX10_sign 21 = .ok (.aload_n 0, 1) := by decide +kernel
theorem dX10_sign_22 : decode cX10_sign 22 = .ok (.invokevirtual 136, 3) := by decide +kernel
theorem dX10_sign_25 : decode cX10_sign 25 = .ok (.return_, 1) := by decide +kernel
theorem dX10_number_0 : decode cX10_number 0 = .ok (.aload_n 0, 1) := by decide +kernel
theorem dX10_number_1 : decode cX10_number 1 = .ok (.getfield 120, 3) := by decide +kernel
theorem dX10_number_4 : decode cX10_number 4 = .ok (.iconst 2, 1) := by decide +kernel
theorem dX10_number_5 : decode cX10_number 5 = .ok (.if_icmp .eq 11, 3) := by decide +kernel
theorem dX10_number_8 : decode cX10_number 8 = .ok (.aload_n 0, 1) := by decide +kernel
theorem dX10_number_9 : decode cX10_number 9 = .ok (.iconst 1, 1) := by decide +kernel
theorem dX10_number_10 : decode cX10_number 10 = .ok (.invokevirtual 132, 3) := by decide +kernel
theorem dX10_number_13 : decode cX10_number 13 = .ok (.goto 12, 3) := by decide +kernel
theorem dX10_number_16 : decode cX10_number 16 = .ok (.iload_n 1, 1) := by decide +kernel
theorem dX10_number_17 : decode cX10_number 17 = .ok (.ifCond .ne 8, 3) := by decide +kernel
theorem dX10_number_20 : decode cX10_number 20 = .ok (.aload_n 0, 1) := by decide +kernel
theorem dX10_number_21 : decode cX10_number 21 = .ok (.iconst 2, 1) := by decide +kernel
theorem dX10_number_22 : decode cX10_number 22 = .ok (.invokevirtual 132, 3) := by decide +kernel
theorem dX10_number_25 : decode cX10_number 25 = .ok (.aload_n 0, 1) := by decide +kernel
theorem dX10_number_26 : decode cX10_number 26 = .ok (.getfield 123, 3) := by decide +kernel
theorem dX10_number_29 : decode cX10_number 29 = .ok (.ifCond .ne 10, 3) := by decide +kernel
theorem dX10_number_32 : decode cX10_number 32 = .ok (.aload_n 0, 1) := by decide +kernel
theorem dX10_number_33 : decode cX10_number 33 = .ok (.getfield 109, 3) := by decide +kernel
theorem dX10_number_36 : decode cX10_number 36 = .ok (.goto 4, 3) := by decide +kernel
theorem dX10_number_39 : decode cX10_number 39 = .ok (.iconst 0, 1) := by decide +kernel
theorem dX10_number_40 : decode cX10_number 40 = .ok (.istore_n 3, 1) := by decide +kernel
theorem dX10_number_41 : decode cX10_number 41 = .ok (.aload_n 0, 1) := by decide +kernel
theorem dX10_number_42 : decode cX10_number 42 = .ok (.invokevirtual 136, 3) := by decide +kernel
theorem dX10_number_45 : decode cX10_number 45 = .ok (.aload_n 0, 1) := by decide +kernel
theorem dX10_number_46 : decode cX10_number 46 = .ok (.iload_n 2, 1) := by decide +kernel
theorem dX10_number_47 : decode cX10_number 47 = .ok (.invokevirtual 139, 3) := by decide +kernel
theorem dX10_number_50 : decode cX10_number 50 = .ok (.iload_n 3, 1) := by decide +kernel
theorem dX10_number_51 : decode cX10_number 51 = .ok (.ireturn, 1) := by decide +kernel
theorem dX10_work_0 : decode cX10_work 0 = .ok (.iconst 0, 1) := by decide +kernel
theorem dX10_work_1 : decode cX10_work 1 = .ok (.istore_n 1, 1) := by decide +kernel
theorem dX10_work_2 : decode cX10_work 2 = .ok (.iload_n 1, 1) := by decide +kernel
theorem dX10_work_3 : decode cX10_work 3 = .ok (.sipush 192, 3) := by decide +kernel
theorem dX10_work_6 : decode cX10_work 6 = .ok (.if_icmp .ge 16, 3) := by decide +kernel
theorem dX10_work_9 : decode cX10_work 9 = .ok (.aload_n 0, 1) := by decide +kernel
theorem dX10_work_10 : decode cX10_work 10 = .ok (.getfield 13, 3) := by decide +kernel
theorem dX10_work_13 : decode cX10_work 13 = .ok (.iload_n 1, 1) := by decide +kernel
theorem dX10_work_14 : decode cX10_work 14 = .ok (.iconst 0, 1) := by decide +kernel
theorem dX10_work_15 : decode cX10_work 15 = .ok (.iastore, 1) := by decide +kernel
theorem dX10_work_16 : decode cX10_work 16 = .ok (.iinc 1 1, 3) := by decide +kernel
theorem dX10_work_19 : decode cX10_work 19 = .ok (.goto (-17), 3) := by decide +kernel
theorem dX10_work_22 : decode cX10_work 22 = .ok (.aload_n 0, 1) := by decide +kernel
theorem dX10_work_23 : decode cX10_work 23 = .ok (.iconst 0, 1) := by decide +kernel
theorem dX10_work_24 : decode cX10_work 24 = .ok (.putfield 99, 3) := by decide +kernel
theorem dX10_work_27 : decode cX10_work 27 = .ok (.aload_n 0, 1) := by decide +kernel
theorem dX10_work_28 : decode cX10_work 28 = .ok (.iconst 0, 1) := by decide +kernel
theorem dX10_work_29 : decode cX10_work 29 = .ok (.putfield 123, 3) := by decide +kernel
theorem dX10_work_32 : decode cX10_work 32 = .ok (.aload_n 0, 1) := by decide +kernel
theorem dX10_work_33 : decode cX10_work 33 = .ok (.invokevirtual 129, 3) := by decide +kernel
theorem dX10_work_36 : decode cX10_work 36 = .ok (.aload_n 0, 1) := by decide +kernel
theorem dX10_work_37 : decode cX10_work 37 = .ok (.bipush 119, 2) := by decide +kernel
theorem dX10_work_39 : decode cX10_work 39 = .ok (.invokevirtual 142, 3) := by decide +kernel
theorem dX10_work_42 : decode cX10_work 42 = .ok (.ifCond .ne 8, 3) := by decide +kernel
theorem dX10_work_45 : decode cX10_work 45 = .ok (.aload_n 0, 1) := by decide +kernel
theorem dX10_work_46 : decode cX10_work 46 = .ok (.iconst 1, 1) := by decide +kernel
theorem dX10_work_47 : decode cX10_work 47 = .ok (.invokevirtual 132, 3) := by decide +kernel
theorem dX10_work_50 : decode cX10_work 50 = .ok (.aload_n 0, 1) := by decide +kernel
theorem dX10_work_51 : decode cX10_work 51 = .ok (.invokevirtual 136, 3) := by decide +kernel
theorem dX10_work_54 : decode cX10_work 54 = .ok (.aload_n 0, 1) := by decide +kernel
theorem dX10_work_55 : decode cX10_work 55 = .ok (.getfield 13, 3) := by decide +kernel
theorem dX10_work_58 : decode cX10_work 58 = .ok (.iconst 0, 1) := by decide +kernel
theorem dX10_work_59 : decode cX10_work 59 = .ok (.aload_n 0, 1) := by decide +kernel
theorem dX10_work_60 : decode cX10_work 60 = .ok (.aload_n 0, 1) := by decide +kernel
theorem dX10_work_61 : decode cX10_work 61 = .ok (.getfield 109, 3) := by decide +kernel
theorem dX10_work_64 : decode cX10_work 64 = .ok (.i2l, 1) := by decide +kernel
theorem dX10_work_65 : decode cX10_work 65 = .ok (.lconst 1, 1) := by decide +kernel
theorem dX10_work_66 : decode cX10_work 66 = .ok (.ldc2_w 182, 3) := by decide +kernel
theorem dX10_work_69 : decode cX10_work 69 = .ok (.invokestatic 51, 3) := by decide +kernel
theorem dX10_work_72 : decode cX10_work 72 = .ok (.bipush 59, 2) := by decide +kernel
theorem dX10_work_74 : decode cX10_work 74 = .ok (.invokevirtual 160, 3) := by decide +kernel
theorem dX10_work_77 : decode cX10_work 77 = .ok (.iastore, 1) := by decide +kernel
theorem dX10_work_78 : decode cX10_work 78 = .ok (.aload_n 0, 1) := by decide +kernel
theorem dX10_work_79 : decode cX10_work 79 = .ok (.bipush 101, 2) := by decide +kernel
theorem dX10_work_81 : decode cX10_work 81 = .ok (.invokevirtual 142, 3) := by decide +kernel
theorem dX10_work_84 : decode cX10_work 84 = .ok (.ifCond .eq 10, 3) := by decide +kernel
theorem dX10_work_87 : decode cX10_work 87 = .ok (.aload_n 0, 1) := by decide +kernel
theorem dX10_work_88 : decode cX10_work 88 = .ok (.invokevirtual 184, 3) := by decide +kernel
theorem dX10_work_91 : decode cX10_work 91 = .ok (.goto (-13), 3) := by decide +kernel
theorem dX10_work_94 : decode cX10_work 94 = .ok (.aload_n 0, 1) := by decide +kernel
theorem dX10_work_95 : decode cX10_work 95 = .ok (.getfield 120, 3) := by decide +kernel
theorem dX10_work_98 : decode cX10_work 98 = .ok (.ifCond .eq 8, 3) := by decide +kernel
theorem dX10_work_101 : decode cX10_work 101 = .ok (.aload_n 0, 1) := by decide +kernel
theorem dX10_work_102 : decode cX10_work 102 = .ok (.iconst 1, 1) := by decide +kernel
theorem dX10_work_103 : decode cX10_work 103 = .ok (.invokevirtual 132, 3) := by decide +kernel
theorem dX10_work_106 : decode cX10_work 106 = .ok (.aload_n 0, 1) := by decide +kernel
theorem dX10_work_107 : decode cX10_work 107 = .ok (.iconst 0, 1) := by decide +kernel
theorem dX10_work_108 : decode cX10_work 108 = .ok (.putfield 95, 3) := by decide +kernel
theorem dX10_work_111 : decode cX10_work 111 = .ok (.aload_n 0, 1) := by decide +kernel
theorem dX10_work_112 : decode cX10_work 112 = .ok (.getfield 123, 3) := by decide +kernel
theorem dX10_work_115 : decode cX10_work 115 = .ok (.ifCond .le 19, 3) := by decide +kernel
theorem dX10_work_118 : decode cX10_work 118 = .ok (.aload_n 0, 1) := by decide +kernel
theorem dX10_work_119 : decode cX10_work 119 = .ok (.aload_n 0, 1) := by decide +kernel
theorem dX10_work_120 : decode cX10_work 120 = .ok (.getfield 123, 3) := by decide +kernel
theorem dX10_work_123 : decode cX10_work 123 = .ok (.putfield 187, 3) := by decide +kernel
theorem dX10_work_126 : decode cX10_work 126 = .ok (.ldc 190, 2) := by decide +kernel
theorem dX10_work_128 : decode cX10_work 128 = .ok (.aload_n 0, 1) := by decide +kernel
theorem dX10_work_129 : decode cX10_work 129 = .ok (.getfield 126, 3) := by decide +kernel
theorem dX10_work_132 : decode cX10_work 132 = .ok (.isub, 1) := by decide +kernel
theorem dX10_work_133 : decode cX10_work 133 = .ok (.ireturn, 1) := by decide +kernel
theorem dX10_work_134 : decode cX10_work 134 = .ok (.aload_n 0, 1) := by decide +kernel
theorem dX10_work_135 : decode cX10_work 135 = .ok (.getfield 13, 3) := by decide +kernel
theorem dX10_work_138 : decode cX10_work 138 = .ok (.iconst 0, 1) := by decide +kernel
theorem dX10_work_139 : decode cX10_work 139 = .ok (.aload_n 0, 1) := by decide +kernel
theorem dX10_work_140 : decode cX10_work 140 = .ok (.getfield 7, 3) := by decide +kernel
theorem dX10_work_143 : decode cX10_work 143 = .ok (.iconst 0, 1) := by decide +kernel
theorem dX10_work_144 : decode cX10_work 144 = .ok (.invokestatic 191, 3) := by decide +kernel
theorem dX10_work_147 : decode cX10_work 147 = .ok (.aload_n 0, 1) := by decide +kernel
theorem dX10_work_148 : decode cX10_work 148 = .ok (.iconst 0, 1) := by decide +kernel
theorem dX10_work_149 : decode cX10_work 149 = .ok (.putfield 195, 3) := by decide +kernel
theorem dX10_work_152 : decode cX10_work 152 = .ok (.aload_n 0, 1) := by decide +kernel
theorem dX10_work_153 : decode cX10_work 153 = .ok (.getfield 7, 3) := by decide +kernel
theorem dX10_work_156 : decode cX10_work 156 = .ok (.iconst 1, 1) := by decide +kernel
theorem dX10_work_157 : decode cX10_work 157 = .ok (.iaload, 1) := by decide +kernel
theorem dX10_work_158 : decode cX10_work 158 = .ok (.ireturn, 1) := by decide +kernel
def w_X10_init : List Cond := .code yX10_init cX10_init 1 none :: ([.methodLink RX10 1 objectInit, .instanceMethod objectInit, .code objectInit ⟨#[0xb1]⟩ 1 none, .arrayClass .int, .fieldLink RX10 7 "LineCitesModel" "now" "[I", .fieldLink RX10 13 "LineCitesModel" "draft" "[I", .fieldLink RX10 16 "LineCitesModel" "past" "[I", .fieldLink RX10 19 "LineCitesModel" "images" "[I", .arrayClass .boolean, .fieldLink RX10 22 "LineCitesModel" "kept" "[Z", .fieldLink RX10 26 "LineCitesModel" "tape" "[I", .fieldLink RX10 29 "LineCitesModel" "low" "[I", .fieldLink RX10 32 "LineCitesModel" "high" "[I", .fieldLink RX10 35 "LineCitesModel" "first" "[Z", .fieldLink RX10 38 "LineCitesModel" "second" "[Z", .fieldLink RX10 41 "LineCitesModel" "lines" "[Z", .fieldLink RX10 44 "LineCitesModel" "others" "[Z"] ++ wsX100)
set_option maxHeartbeats 4000000 in
set_option maxRecDepth 100000 in
theorem c_X10_init (l : Launch) (D : va_G) (h0 : Nat) (sz : Nat) : Met l yX10_init w_X10_init ({ frames := 1, cells := 12, slots := 7290, locals := 12 }) (va_Pc [.ref h0] (fun U => U.heap.size = sz ∧ va_P D vwCl [(h0, .inr (10, [.null, .null, .null, .int 0, .null, .null, .null, .int 0, .int 0, .int 0, .int 0, .int 0, .int 0, .int 0, .int 0, .null, .null, .null, .null, .null, .null, .int 0, .int 0, .int 0, .int 0]))] U.heap ∧ va_K D vwCl [] U ∧ va_D (fun _ => True) [(h0, .inr (10, [.null, .null, .null, .int 0, .null, .null, .null, .int 0, .int 0, .int 0, .int 0, .int 0, .int 0, .int 0, .int 0, .null, .null, .null, .null, .null, .null, .int 0, .int 0, .int 0, .int 0]))])) (va_Qv (fun (_ : Unit) => True) (fun (_ : Unit) t => ∃ (m_now : Nat) (m_draft : Nat) (m_past : Nat) (m_images : Nat) (m_kept : Nat) (m_tape : Nat) (m_low : Nat) (m_high : Nat) (m_first : Nat) (m_second : Nat) (m_lines : Nat) (m_others : Nat) (k_n : ClassId) (k_d : ClassId) (k_t : ClassId) (k_k : ClassId), va_P D vwCl [(h0, .inr (10, [.ref m_now, .ref m_draft, .ref m_past, .int 0, .ref m_images, .ref m_kept, .ref m_tape, .int 0, .int 0, .int 0, .int 0, .int 0, .int 0, .int 0, .int 0, .ref m_low, .ref m_high, .ref m_first, .ref m_second, .ref m_lines, .ref m_others, .int 0, .int 0, .int 0, .int 0])), (m_now, .inl (k_n, 192, .inl (fun _ => 0))), (m_draft, .inl (k_d, 192, .inl (fun _ => 0))), (m_tape, .inl (k_t, 200, .inl (fun _ => 0))), (m_kept, .inl (k_k, 2, .inl (fun _ => 0)))] t.heap ∧ va_K D vwCl [(k_n, .int), (k_d, .int), (k_t, .int), (k_k, .boolean)] t ∧ va_D (va_A [(h0, .inr (10, [.null, .null, .null, .int 0, .null, .null, .null, .int 0, .int 0, .int 0, .int 0, .int 0, .int 0, .int 0, .int 0, .null, .null, .null, .null, .null, .null, .int 0, .int 0, .int 0, .int 0]))] sz) [(h0, .inr (10, [.ref m_now, .ref m_draft, .ref m_past, .int 0, .ref m_images, .ref m_kept, .ref m_tape, .int 0, .int 0, .int 0, .int 0, .int 0, .int 0, .int 0, .int 0, .ref m_low, .ref m_high, .ref m_first, .ref m_second, .ref m_lines, .ref m_others, .int 0, .int 0, .int 0, .int 0])), (m_now, .inl (k_n, 192, .inl (fun _ => 0))), (m_draft, .inl (k_d, 192, .inl (fun _ => 0))), (m_tape, .inl (k_t, 200, .inl (fun _ => 0))), (m_kept, .inl (k_k, 2, .inl (fun _ => 0)))]) (va_A [(h0, .inr (10, [.null, .null, .null, .int 0, .null, .null, .null, .int 0, .int 0, .int 0, .int 0, .int 0, .int 0, .int 0, .int 0, .null, .null, .null, .null, .null, .null, .int 0, .int 0, .int 0, .int 0]))] sz)) 12 7290 (va_A [(h0, .inr (10, [.null, .null, .null, .int 0, .null, .null, .null, .int 0, .int 0, .int 0, .int 0, .int 0, .int 0, .int 0, .int 0, .null, .null, .null, .null, .null, .null, .int 0, .int 0, .int 0, .int 0]))] sz) := by
  refine Met.ofW (cc := cX10_init) (maxL := 1) (ret := none) (by decide) rfl ?_
  intro p e s m args below meth c s₁ B hml hv
  obtain ⟨rfl, hsz, hP, hK, hD0⟩ := hv
  have hx := B.exec
  have hb := B.bytes
  have hr := B.returns
  have hts := atoms_spec (ws := w_X10_init) B.pre
  have hown : s.vm.findClass RX10 = some m.cls := findClass_of_methodNamed B.named
  have hlocks := B.notSynchronized
  have hin : meth.name = "<init>" := (name_of_methodNamed B.named B.method).1
  subst hsz
  have hD := hD0.self (sz := s.heap.size)
  generalize hAe : va_A [(h0, .inr (10, [.null, .null, .null, .int 0, .null, .null, .null, .int 0, .int 0, .int 0, .int 0, .int 0, .int 0, .int 0, .int 0, .null, .null, .null, .null, .null, .null, .int 0, .int 0, .int 0, .int 0]))] s.heap.size = A at hD ⊢
  have hA : ∀ q : Nat, s.heap.size ≤ q → A q := fun q h => by rw [← hAe]; exact Or.inr h
  have hS : va_S A s.heap s.heap [] := va_S.rf
  have hP : va_P D vwCl [(h0, .inr (10, [.null, .null, .null, .int 0, .null, .null, .null, .int 0, .int 0, .int 0, .int 0, .int 0, .int 0, .int 0, .int 0, .null, .null, .null, .null, .null, .null, .int 0, .int 0, .int 0, .int 0]))] s.heap := hP
  have hl := lv_entry ([.ref h0]) (n := 1) (Nat.le_of_ble_eq_true rfl)
  rw [lg_entry_eq]
  generalize (lg_sl ([.ref h0]) ++ List.replicate (1 - (lg_sl ([.ref h0])).length) Slot.unset).toArray = ls at hl ⊢
  have hl : lv_has ls 1 [(0, .ref h0)] := hl
  obtain ⟨H, hHe⟩ : ∃ H : Heap, H = s.heap := ⟨_, rfl⟩
  rw [← hHe] at hP
  have hS : va_S A s.heap H [] := by rw [hHe]; exact hS
  refine pw_heap hHe ?_
  refine lv_aload_n hx hb dX10_init_0 rfl (lv_at hl 0 rfl) ?_
  refine W.objInit hx hb hown (hts (.methodLink RX10 1 objectInit) (List.mem_of_getElem? (i := 1) rfl)) (hts (.instanceMethod objectInit) (List.mem_of_getElem? (i := 2) rfl)) (hts (.code objectInit ⟨#[0xb1]⟩ 1 none) (List.mem_of_getElem? (i := 3) rfl)) rfl (by rw [hml]; exact hl.1) rfl dX10_init_1 (Nat.le_of_ble_eq_true rfl) (Nat.le_of_ble_eq_true rfl) ?_
  refine W.eq (g2 := F0 m 4 ls []) rfl ?_
  refine lv_aload_n hx hb dX10_init_4 rfl (lv_at hl 0 rfl) ?_
  refine lv_sipush (v := 192) hx hb dX10_init_5 (by decide) ?_
  refine va_newa (atype := .int) (ty := .int) (a0 := (192, .inl (fun _ => 0))) (N' := 192) hx hb (hts (.arrayClass .int) (List.mem_of_getElem? (i := 4) rfl)) rfl hK hP hD hS hA (fun _ => rfl) (by decide) (by decide) (Nat.le_of_ble_eq_true rfl) (Nat.le_of_ble_eq_true rfl) (Nat.le_of_ble_eq_true rfl) dX10_init_8 (fun q1 k2 H hK hP hD hS => ?_)
  have hP : va_P D vwCl [(h0, .inr (10, [.null, .null, .null, .int 0, .null, .null, .null, .int 0, .int 0, .int 0, .int 0, .int 0, .int 0, .int 0, .int 0, .null, .null, .null, .null, .null, .null, .int 0, .int 0, .int 0, .int 0])), (q1, .inl (k2, 192, .inl (fun _ => 0)))] H := hP
  have hD : va_D A [(h0, .inr (10, [.null, .null, .null, .int 0, .null, .null, .null, .int 0, .int 0, .int 0, .int 0, .int 0, .int 0, .int 0, .int 0, .null, .null, .null, .null, .null, .null, .int 0, .int 0, .int 0, .int 0])), (q1, .inl (k2, 192, .inl (fun _ => 0)))] := hD
  have hK : va_K D vwCl [(k2, .int)] s := hK
  refine W.widen (k := 1) (n := 192) (Nat.le_of_ble_eq_true rfl) (Nat.le_of_ble_eq_true rfl) ?_
  refine va_putF (D := D) (ci := 10) (v := .ref q1) (ty := .array .int) (C := RX10) (T := TX10) (N := 25) hx hb hts (fun _ h => List.mem_cons_of_mem _ (List.mem_append_right _ h)) tyX10 tyX10_ok nmX10 hown hK hP hD hS 0 rfl rfl 0 (by decide) (hts (.fieldLink RX10 7 "LineCitesModel" "now" "[I") (List.mem_of_getElem? (i := 5) rfl)) (fun _ h9 => h9) rfl hin rfl (by decide +kernel) rfl rfl (Nat.le_of_ble_eq_true rfl) dX10_init_10 (fun H locs hP hD hS => ?_)
  have hP : va_P D vwCl [(h0, .inr (10, [.ref q1, .null, .null, .int 0, .null, .null, .null, .int 0, .int 0, .int 0, .int 0, .int 0, .int 0, .int 0, .int 0, .null, .null, .null, .null, .null, .null, .int 0, .int 0, .int 0, .int 0])), (q1, .inl (k2, 192, .inl (fun _ => 0)))] H := hP
  have hD : va_D A [(h0, .inr (10, [.ref q1, .null, .null, .int 0, .null, .null, .null, .int 0, .int 0, .int 0, .int 0, .int 0, .int 0, .int 0, .int 0, .null, .null, .null, .null, .null, .null, .int 0, .int 0, .int 0, .int 0])), (q1, .inl (k2, 192, .inl (fun _ => 0)))] := hD
  have hK : va_K D vwCl [(k2, .int)] s := hK
  refine lv_aload_n hx hb dX10_init_13 rfl (lv_at hl 0 rfl) ?_
  refine lv_sipush (v := 192) hx hb dX10_init_14 (by decide) ?_
  refine va_newa (atype := .int) (ty := .int) (a0 := (192, .inl (fun _ => 0))) (N' := 192) hx hb (hts (.arrayClass .int) (List.mem_of_getElem? (i := 4) rfl)) rfl hK hP hD hS hA (fun _ => rfl) (by decide) (by decide) (Nat.le_of_ble_eq_true rfl) (Nat.le_of_ble_eq_true rfl) (Nat.le_of_ble_eq_true rfl) dX10_init_17 (fun q3 k4 H hK hP hD hS => ?_)
  have hP : va_P D vwCl [(h0, .inr (10, [.ref q1, .null, .null, .int 0, .null, .null, .null, .int 0, .int 0, .int 0, .int 0, .int 0, .int 0, .int 0, .int 0, .null, .null, .null, .null, .null, .null, .int 0, .int 0, .int 0, .int 0])), (q1, .inl (k2, 192, .inl (fun _ => 0))), (q3, .inl (k4, 192, .inl (fun _ => 0)))] H := hP
  have hD : va_D A [(h0, .inr (10, [.ref q1, .null, .null, .int 0, .null, .null, .null, .int 0, .int 0, .int 0, .int 0, .int 0, .int 0, .int 0, .int 0, .null, .null, .null, .null, .null, .null, .int 0, .int 0, .int 0, .int 0])), (q1, .inl (k2, 192, .inl (fun _ => 0))), (q3, .inl (k4, 192, .inl (fun _ => 0)))] := hD
  have hK : va_K D vwCl [(k2, .int), (k4, .int)] s := hK
  refine W.widen (k := 2) (n := 384) (Nat.le_of_ble_eq_true rfl) (Nat.le_of_ble_eq_true rfl) ?_
  refine va_putF (D := D) (ci := 10) (v := .ref q3) (ty := .array .int) (C := RX10) (T := TX10) (N := 25) hx hb hts (fun _ h => List.mem_cons_of_mem _ (List.mem_append_right _ h)) tyX10 tyX10_ok nmX10 hown hK hP hD hS 0 rfl rfl 1 (by decide) (hts (.fieldLink RX10 13 "LineCitesModel" "draft" "[I") (List.mem_of_getElem? (i := 6) rfl)) (fun _ h9 => h9) rfl hin rfl (by decide +kernel) rfl rfl (Nat.le_of_ble_eq_true rfl) dX10_init_19 (fun H locs hP hD hS => ?_)
  have hP : va_P D vwCl [(h0, .inr (10, [.ref q1, .ref q3, .null, .int 0, .null, .null, .null, .int 0, .int 0, .int 0, .int 0, .int 0, .int 0, .int 0, .int 0, .null, .null, .null, .null, .null, .null, .int 0, .int 0, .int 0, .int 0])), (q1, .inl (k2, 192, .inl (fun _ => 0))), (q3, .inl (k4, 192, .inl (fun _ => 0)))] H := hP
  have hD : va_D A [(h0, .inr (10, [.ref q1, .ref q3, .null, .int 0, .null, .null, .null, .int 0, .int 0, .int 0, .int 0, .int 0, .int 0, .int 0, .int 0, .null, .null, .null, .null, .null, .null, .int 0, .int 0, .int 0, .int 0])), (q1, .inl (k2, 192, .inl (fun _ => 0))), (q3, .inl (k4, 192, .inl (fun _ => 0)))] := hD
  have hK : va_K D vwCl [(k2, .int), (k4, .int)] s := hK
  refine lv_aload_n hx hb dX10_init_22 rfl (lv_at hl 0 rfl) ?_
  refine lv_sipush (v := 1920) hx hb dX10_init_23 (by decide) ?_
  refine va_newa (atype := .int) (ty := .int) (a0 := (1920, .inl (fun _ => 0))) (N' := 1920) hx hb (hts (.arrayClass .int) (List.mem_of_getElem? (i := 4) rfl)) rfl hK hP hD hS hA (fun _ => rfl) (by decide) (by decide) (Nat.le_of_ble_eq_true rfl) (Nat.le_of_ble_eq_true rfl) (Nat.le_of_ble_eq_true rfl) dX10_init_26 (fun q5 k6 H hK hP hD hS => ?_)
  have hP : va_P D vwCl [(h0, .inr (10, [.ref q1, .ref q3, .null, .int 0, .null, .null, .null, .int 0, .int 0, .int 0, .int 0, .int 0, .int 0, .int 0, .int 0, .null, .null, .null, .null, .null, .null, .int 0, .int 0, .int 0, .int 0])), (q1, .inl (k2, 192, .inl (fun _ => 0))), (q3, .inl (k4, 192, .inl (fun _ => 0))), (q5, .inl (k6, 1920, .inl (fun _ => 0)))] H := hP
  have hD : va_D A [(h0, .inr (10, [.ref q1, .ref q3, .null, .int 0, .null, .null, .null, .int 0, .int 0, .int 0, .int 0, .int 0, .int 0, .int 0, .int 0, .null, .null, .null, .null, .null, .null, .int 0, .int 0, .int 0, .int 0])), (q1, .inl (k2, 192, .inl (fun _ => 0))), (q3, .inl (k4, 192, .inl (fun _ => 0))), (q5, .inl (k6, 1920, .inl (fun _ => 0)))] := hD
  have hK : va_K D vwCl [(k2, .int), (k4, .int), (k6, .int)] s := hK
  refine W.widen (k := 3) (n := 2304) (Nat.le_of_ble_eq_true rfl) (Nat.le_of_ble_eq_true rfl) ?_
  refine va_putF (D := D) (ci := 10) (v := .ref q5) (ty := .array .int) (C := RX10) (T := TX10) (N := 25) hx hb hts (fun _ h => List.mem_cons_of_mem _ (List.mem_append_right _ h)) tyX10 tyX10_ok nmX10 hown hK hP hD hS 0 rfl rfl 2 (by decide) (hts (.fieldLink RX10 16 "LineCitesModel" "past" "[I") (List.mem_of_getElem? (i := 7) rfl)) (fun _ h9 => h9) rfl hin rfl (by decide +kernel) rfl rfl (Nat.le_of_ble_eq_true rfl) dX10_init_28 (fun H locs hP hD hS => ?_)
  have hP : va_P D vwCl [(h0, .inr (10, [.ref q1, .ref q3, .ref q5, .int 0, .null, .null, .null, .int 0, .int 0, .int 0, .int 0, .int 0, .int 0, .int 0, .int 0, .null, .null, .null, .null, .null, .null, .int 0, .int 0, .int 0, .int 0])), (q1, .inl (k2, 192, .inl (fun _ => 0))), (q3, .inl (k4, 192, .inl (fun _ => 0))), (q5, .inl (k6, 1920, .inl (fun _ => 0)))] H := hP
  have hD : va_D A [(h0, .inr (10, [.ref q1, .ref q3, .ref q5, .int 0, .null, .null, .null, .int 0, .int 0, .int 0, .int 0, .int 0, .int 0, .int 0, .int 0, .null, .null, .null, .null, .null, .null, .int 0, .int 0, .int 0, .int 0])), (q1, .inl (k2, 192, .inl (fun _ => 0))), (q3, .inl (k4, 192, .inl (fun _ => 0))), (q5, .inl (k6, 1920, .inl (fun _ => 0)))] := hD
  have hK : va_K D vwCl [(k2, .int), (k4, .int), (k6, .int)] s := hK
  refine lv_aload_n hx hb dX10_init_31 rfl (lv_at hl 0 rfl) ?_
  refine lv_sipush (v := 384) hx hb dX10_init_32 (by decide) ?_
  refine va_newa (atype := .int) (ty := .int) (a0 := (384, .inl (fun _ => 0))) (N' := 384) hx hb (hts (.arrayClass .int) (List.mem_of_getElem? (i := 4) rfl)) rfl hK hP hD hS hA (fun _ => rfl) (by decide) (by decide) (Nat.le_of_ble_eq_true rfl) (Nat.le_of_ble_eq_true rfl) (Nat.le_of_ble_eq_true rfl) dX10_init_35 (fun q7 k8 H hK hP hD hS => ?_)
  have hP : va_P D vwCl [(h0, .inr (10, [.ref q1, .ref q3, .ref q5, .int 0, .null, .null, .null, .int 0, .int 0, .int 0, .int 0, .int 0, .int 0, .int 0, .int 0, .null, .null, .null, .null, .null, .null, .int 0, .int 0, .int 0, .int 0])), (q1, .inl (k2, 192, .inl (fun _ => 0))), (q3, .inl (k4, 192, .inl (fun _ => 0))), (q5, .inl (k6, 1920, .inl (fun _ => 0))), (q7, .inl (k8, 384, .inl (fun _ => 0)))] H := hP
  have hD : va_D A [(h0, .inr (10, [.ref q1, .ref q3, .ref q5, .int 0, .null, .null, .null, .int 0, .int 0, .int 0, .int 0, .int 0, .int 0, .int 0, .int 0, .null, .null, .null, .null, .null, .null, .int 0, .int 0, .int 0, .int 0])), (q1, .inl (k2, 192, .inl (fun _ => 0))), (q3, .inl (k4, 192, .inl (fun _ => 0))), (q5, .inl (k6, 1920, .inl (fun _ => 0))), (q7, .inl (k8, 384, .inl (fun _ => 0)))] := hD
  have hK : va_K D vwCl [(k2, .int), (k4, .int), (k6, .int), (k8, .int)] s := hK
  refine W.widen (k := 4) (n := 2688) (Nat.le_of_ble_eq_true rfl) (Nat.le_of_ble_eq_true rfl) ?_
  refine va_putF (D := D) (ci := 10) (v := .ref q7) (ty := .array .int) (C := RX10) (T := TX10) (N := 25) hx hb hts (fun _ h => List.mem_cons_of_mem _ (List.mem_append_right _ h)) tyX10 tyX10_ok nmX10 hown hK hP hD hS 0 rfl rfl 4 (by decide) (hts (.fieldLink RX10 19 "LineCitesModel" "images" "[I") (List.mem_of_getElem? (i := 8) rfl)) (fun _ h9 => h9) rfl hin rfl (by decide +kernel) rfl rfl (Nat.le_of_ble_eq_true rfl) dX10_init_37 (fun H locs hP hD hS => ?_)
  have hP : va_P D vwCl [(h0, .inr (10, [.ref q1, .ref q3, .ref q5, .int 0, .ref q7, .null, .null, .int 0, .int 0, .int 0, .int 0, .int 0, .int 0, .int 0, .int 0, .null, .null, .null, .null, .null, .null, .int 0, .int 0, .int 0, .int 0])), (q1, .inl (k2, 192, .inl (fun _ => 0))), (q3, .inl (k4, 192, .inl (fun _ => 0))), (q5, .inl (k6, 1920, .inl (fun _ => 0))), (q7, .inl (k8, 384, .inl (fun _ => 0)))] H := hP
  have hD : va_D A [(h0, .inr (10, [.ref q1, .ref q3, .ref q5, .int 0, .ref q7, .null, .null, .int 0, .int 0, .int 0, .int 0, .int 0, .int 0, .int 0, .int 0, .null, .null, .null, .null, .null, .null, .int 0, .int 0, .int 0, .int 0])), (q1, .inl (k2, 192, .inl (fun _ => 0))), (q3, .inl (k4, 192, .inl (fun _ => 0))), (q5, .inl (k6, 1920, .inl (fun _ => 0))), (q7, .inl (k8, 384, .inl (fun _ => 0)))] := hD
  have hK : va_K D vwCl [(k2, .int), (k4, .int), (k6, .int), (k8, .int)] s := hK
  refine lv_aload_n hx hb dX10_init_40 rfl (lv_at hl 0 rfl) ?_
  refine lv_iconst (v := 2) hx hb dX10_init_41 (by decide) ?_
  refine va_newa (atype := .boolean) (ty := .boolean) (a0 := (2, .inl (fun _ => 0))) (N' := 2) hx hb (hts (.arrayClass .boolean) (List.mem_of_getElem? (i := 9) rfl)) rfl hK hP hD hS hA (fun _ => rfl) (by decide) (by decide) (Nat.le_of_ble_eq_true rfl) (Nat.le_of_ble_eq_true rfl) (Nat.le_of_ble_eq_true rfl) dX10_init_42 (fun q9 k10 H hK hP hD hS => ?_)
  have hP : va_P D vwCl [(h0, .inr (10, [.ref q1, .ref q3, .ref q5, .int 0, .ref q7, .null, .null, .int 0, .int 0, .int 0, .int 0, .int 0, .int 0, .int 0, .int 0, .null, .null, .null, .null, .null, .null, .int 0, .int 0, .int 0, .int 0])), (q1, .inl (k2, 192, .inl (fun _ => 0))), (q3, .inl (k4, 192, .inl (fun _ => 0))), (q5, .inl (k6, 1920, .inl (fun _ => 0))), (q7, .inl (k8, 384, .inl (fun _ => 0))), (q9, .inl (k10, 2, .inl (fun _ => 0)))] H := hP
  have hD : va_D A [(h0, .inr (10, [.ref q1, .ref q3, .ref q5, .int 0, .ref q7, .null, .null, .int 0, .int 0, .int 0, .int 0, .int 0, .int 0, .int 0, .int 0, .null, .null, .null, .null, .null, .null, .int 0, .int 0, .int 0, .int 0])), (q1, .inl (k2, 192, .inl (fun _ => 0))), (q3, .inl (k4, 192, .inl (fun _ => 0))), (q5, .inl (k6, 1920, .inl (fun _ => 0))), (q7, .inl (k8, 384, .inl (fun _ => 0))), (q9, .inl (k10, 2, .inl (fun _ => 0)))] := hD
  have hK : va_K D vwCl [(k2, .int), (k4, .int), (k6, .int), (k8, .int), (k10, .boolean)] s := hK
  refine W.widen (k := 5) (n := 2690) (Nat.le_of_ble_eq_true rfl) (Nat.le_of_ble_eq_true rfl) ?_
  refine va_putF (D := D) (ci := 10) (v := .ref q9) (ty := .array .boolean) (C := RX10) (T := TX10) (N := 25) hx hb hts (fun _ h => List.mem_cons_of_mem _ (List.mem_append_right _ h)) tyX10 tyX10_ok nmX10 hown hK hP hD hS 0 rfl rfl 5 (by decide) (hts (.fieldLink RX10 22 "LineCitesModel" "kept" "[Z") (List.mem_of_getElem? (i := 10) rfl)) (fun _ h9 => h9) rfl hin rfl (by decide +kernel) rfl rfl (Nat.le_of_ble_eq_true rfl) dX10_init_44 (fun H locs hP hD hS => ?_)
  have hP : va_P D vwCl [(h0, .inr (10, [.ref q1, .ref q3, .ref q5, .int 0, .ref q7, .ref q9, .null, .int 0, .int 0, .int 0, .int 0, .int 0, .int 0, .int 0, .int 0, .null, .null, .null, .null, .null, .null, .int 0, .int 0, .int 0, .int 0])), (q1, .inl (k2, 192, .inl (fun _ => 0))), (q3, .inl (k4, 192, .inl (fun _ => 0))), (q5, .inl (k6, 1920, .inl (fun _ => 0))), (q7, .inl (k8, 384, .inl (fun _ => 0))), (q9, .inl (k10, 2, .inl (fun _ => 0)))] H := hP
  have hD : va_D A [(h0, .inr (10, [.ref q1, .ref q3, .ref q5, .int 0, .ref q7, .ref q9, .null, .int 0, .int 0, .int 0, .int 0, .int 0, .int 0, .int 0, .int 0, .null, .null, .null, .null, .null, .null, .int 0, .int 0, .int 0, .int 0])), (q1, .inl (k2, 192, .inl (fun _ => 0))), (q3, .inl (k4, 192, .inl (fun _ => 0))), (q5, .inl (k6, 1920, .inl (fun _ => 0))), (q7, .inl (k8, 384, .inl (fun _ => 0))), (q9, .inl (k10, 2, .inl (fun _ => 0)))] := hD
  have hK : va_K D vwCl [(k2, .int), (k4, .int), (k6, .int), (k8, .int), (k10, .boolean)] s := hK
  refine lv_aload_n hx hb dX10_init_47 rfl (lv_at hl 0 rfl) ?_
  refine lv_sipush (v := 200) hx hb dX10_init_48 (by decide) ?_
  refine va_newa (atype := .int) (ty := .int) (a0 := (200, .inl (fun _ => 0))) (N' := 200) hx hb (hts (.arrayClass .int) (List.mem_of_getElem? (i := 4) rfl)) rfl hK hP hD hS hA (fun _ => rfl) (by decide) (by decide) (Nat.le_of_ble_eq_true rfl) (Nat.le_of_ble_eq_true rfl) (Nat.le_of_ble_eq_true rfl) dX10_init_51 (fun q11 k12 H hK hP hD hS => ?_)
  have hP : va_P D vwCl [(h0, .inr (10, [.ref q1, .ref q3, .ref q5, .int 0, .ref q7, .ref q9, .null, .int 0, .int 0, .int 0, .int 0, .int 0, .int 0, .int 0, .int 0, .null, .null, .null, .null, .null, .null, .int 0, .int 0, .int 0, .int 0])), (q1, .inl (k2, 192, .inl (fun _ => 0))), (q3, .inl (k4, 192, .inl (fun _ => 0))), (q5, .inl (k6, 1920, .inl (fun _ => 0))), (q7, .inl (k8, 384, .inl (fun _ => 0))), (q9, .inl (k10, 2, .inl (fun _ => 0))), (q11, .inl (k12, 200, .inl (fun _ => 0)))] H := hP
  have hD : va_D A [(h0, .inr (10, [.ref q1, .ref q3, .ref q5, .int 0, .ref q7, .ref q9, .null, .int 0, .int 0, .int 0, .int 0, .int 0, .int 0, .int 0, .int 0, .null, .null, .null, .null, .null, .null, .int 0, .int 0, .int 0, .int 0])), (q1, .inl (k2, 192, .inl (fun _ => 0))), (q3, .inl (k4, 192, .inl (fun _ => 0))), (q5, .inl (k6, 1920, .inl (fun _ => 0))), (q7, .inl (k8, 384, .inl (fun _ => 0))), (q9, .inl (k10, 2, .inl (fun _ => 0))), (q11, .inl (k12, 200, .inl (fun _ => 0)))] := hD
  have hK : va_K D vwCl [(k2, .int), (k4, .int), (k6, .int), (k8, .int), (k10, .boolean), (k12, .int)] s := hK
  refine W.widen (k := 6) (n := 2890) (Nat.le_of_ble_eq_true rfl) (Nat.le_of_ble_eq_true rfl) ?_
  refine va_putF (D := D) (ci := 10) (v := .ref q11) (ty := .array .int) (C := RX10) (T := TX10) (N := 25) hx hb hts (fun _ h => List.mem_cons_of_mem _ (List.mem_append_right _ h)) tyX10 tyX10_ok nmX10 hown hK hP hD hS 0 rfl rfl 6 (by decide) (hts (.fieldLink RX10 26 "LineCitesModel" "tape" "[I") (List.mem_of_getElem? (i := 11) rfl)) (fun _ h9 => h9) rfl hin rfl (by decide +kernel) rfl rfl (Nat.le_of_ble_eq_true rfl) dX10_init_53 (fun H locs hP hD hS => ?_)
  have hP : va_P D vwCl [(h0, .inr (10, [.ref q1, .ref q3, .ref q5, .int 0, .ref q7, .ref q9, .ref q11, .int 0, .int 0, .int 0, .int 0, .int 0, .int 0, .int 0, .int 0, .null, .null, .null, .null, .null, .null, .int 0, .int 0, .int 0, .int 0])), (q1, .inl (k2, 192, .inl (fun _ => 0))), (q3, .inl (k4, 192, .inl (fun _ => 0))), (q5, .inl (k6, 1920, .inl (fun _ => 0))), (q7, .inl (k8, 384, .inl (fun _ => 0))), (q9, .inl (k10, 2, .inl (fun _ => 0))), (q11, .inl (k12, 200, .inl (fun _ => 0)))] H := hP
  have hD : va_D A [(h0, .inr (10, [.ref q1, .ref q3, .ref q5, .int 0, .ref q7, .ref q9, .ref q11, .int 0, .int 0, .int 0, .int 0, .int 0, .int 0, .int 0, .int 0, .null, .null, .null, .null, .null, .null, .int 0, .int 0, .int 0, .int 0])), (q1, .inl (k2, 192, .inl (fun _ => 0))), (q3, .inl (k4, 192, .inl (fun _ => 0))), (q5, .inl (k6, 1920, .inl (fun _ => 0))), (q7, .inl (k8, 384, .inl (fun _ => 0))), (q9, .inl (k10, 2, .inl (fun _ => 0))), (q11, .inl (k12, 200, .inl (fun _ => 0)))] := hD
  have hK : va_K D vwCl [(k2, .int), (k4, .int), (k6, .int), (k8, .int), (k10, .boolean), (k12, .int)] s := hK
  refine lv_aload_n hx hb dX10_init_56 rfl (lv_at hl 0 rfl) ?_
  refine lv_sipush (v := 1000) hx hb dX10_init_57 (by decide) ?_
  refine va_newa (atype := .int) (ty := .int) (a0 := (1000, .inl (fun _ => 0))) (N' := 1000) hx hb (hts (.arrayClass .int) (List.mem_of_getElem? (i := 4) rfl)) rfl hK hP hD hS hA (fun _ => rfl) (by decide) (by decide) (Nat.le_of_ble_eq_true rfl) (Nat.le_of_ble_eq_true rfl) (Nat.le_of_ble_eq_true rfl) dX10_init_60 (fun q13 k14 H hK hP hD hS => ?_)
  have hP : va_P D vwCl [(h0, .inr (10, [.ref q1, .ref q3, .ref q5, .int 0, .ref q7, .ref q9, .ref q11, .int 0, .int 0, .int 0, .int 0, .int 0, .int 0, .int 0, .int 0, .null, .null, .null, .null, .null, .null, .int 0, .int 0, .int 0, .int 0])), (q1, .inl (k2, 192, .inl (fun _ => 0))), (q3, .inl (k4, 192, .inl (fun _ => 0))), (q5, .inl (k6, 1920, .inl (fun _ => 0))), (q7, .inl (k8, 384, .inl (fun _ => 0))), (q9, .inl (k10, 2, .inl (fun _ => 0))), (q11, .inl (k12, 200, .inl (fun _ => 0))), (q13, .inl (k14, 1000, .inl (fun _ => 0)))] H := hP
  have hD : va_D A [(h0, .inr (10, [.ref q1, .ref q3, .ref q5, .int 0, .ref q7, .ref q9, .ref q11, .int 0, .int 0, .int 0, .int 0, .int 0, .int 0, .int 0, .int 0, .null, .null, .null, .null, .null, .null, .int 0, .int 0, .int 0, .int 0])), (q1, .inl (k2, 192, .inl (fun _ => 0))), (q3, .inl (k4, 192, .inl (fun _ => 0))), (q5, .inl (k6, 1920, .inl (fun _ => 0))), (q7, .inl (k8, 384, .inl (fun _ => 0))), (q9, .inl (k10, 2, .inl (fun _ => 0))), (q11, .inl (k12, 200, .inl (fun _ => 0))), (q13, .inl (k14, 1000, .inl (fun _ => 0)))] := hD
  have hK : va_K D vwCl [(k2, .int), (k4, .int), (k6, .int), (k8, .int), (k10, .boolean), (k12, .int), (k14, .int)] s := hK
  refine W.widen (k := 7) (n := 3890) (Nat.le_of_ble_eq_true rfl) (Nat.le_of_ble_eq_true rfl) ?_
  refine va_putF (D := D) (ci := 10) (v := .ref q13) (ty := .array .int) (C := RX10) (T := TX10) (N := 25) hx hb hts (fun _ h => List.mem_cons_of_mem _ (List.mem_append_right _ h)) tyX10 tyX10_ok nmX10 hown hK hP hD hS 0 rfl rfl 15 (by decide) (hts (.fieldLink RX10 29 "LineCitesModel" "low" "[I") (List.mem_of_getElem? (i := 12) rfl)) (fun _ h9 => h9) rfl hin rfl (by decide +kernel) rfl rfl (Nat.le_of_ble_eq_true rfl) dX10_init_62 (fun H locs hP hD hS => ?_)
  have hP : va_P D vwCl [(h0, .inr (10, [.ref q1, .ref q3, .ref q5, .int 0, .ref q7, .ref q9, .ref q11, .int 0, .int 0, .int 0, .int 0, .int 0, .int 0, .int 0, .int 0, .ref q13, .null, .null, .null, .null, .null, .int 0, .int 0, .int 0, .int 0])), (q1, .inl (k2, 192, .inl (fun _ => 0))), (q3, .inl (k4, 192, .inl (fun _ => 0))), (q5, .inl (k6, 1920, .inl (fun _ => 0))), (q7, .inl (k8, 384, .inl (fun _ => 0))), (q9, .inl (k10, 2, .inl (fun _ => 0))), (q11, .inl (k12, 200, .inl (fun _ => 0))), (q13, .inl (k14, 1000, .inl (fun _ => 0)))] H := hP
  have hD : va_D A [(h0, .inr (10, [.ref q1, .ref q3, .ref q5, .int 0, .ref q7, .ref q9, .ref q11, .int 0, .int 0, .int 0, .int 0, .int 0, .int 0, .int 0, .int 0, .ref q13, .null, .null, .null, .null, .null, .int 0, .int 0, .int 0, .int 0])), (q1, .inl (k2, 192, .inl (fun _ => 0))), (q3, .inl (k4, 192, .inl (fun _ => 0))), (q5, .inl (k6, 1920, .inl (fun _ => 0))), (q7, .inl (k8, 384, .inl (fun _ => 0))), (q9, .inl (k10, 2, .inl (fun _ => 0))), (q11, .inl (k12, 200, .inl (fun _ => 0))), (q13, .inl (k14, 1000, .inl (fun _ => 0)))] := hD
  have hK : va_K D vwCl [(k2, .int), (k4, .int), (k6, .int), (k8, .int), (k10, .boolean), (k12, .int), (k14, .int)] s := hK
  refine lv_aload_n hx hb dX10_init_65 rfl (lv_at hl 0 rfl) ?_
  refine lv_sipush (v := 1000) hx hb dX10_init_66 (by decide) ?_
  refine va_newa (atype := .int) (ty := .int) (a0 := (1000, .inl (fun _ => 0))) (N' := 1000) hx hb (hts (.arrayClass .int) (List.mem_of_getElem? (i := 4) rfl)) rfl hK hP hD hS hA (fun _ => rfl) (by decide) (by decide) (Nat.le_of_ble_eq_true rfl) (Nat.le_of_ble_eq_true rfl) (Nat.le_of_ble_eq_true rfl) dX10_init_69 (fun q15 k16 H hK hP hD hS => ?_)
  have hP : va_P D vwCl [(h0, .inr (10, [.ref q1, .ref q3, .ref q5, .int 0, .ref q7, .ref q9, .ref q11, .int 0, .int 0, .int 0, .int 0, .int 0, .int 0, .int 0, .int 0, .ref q13, .null, .null, .null, .null, .null, .int 0, .int 0, .int 0, .int 0])), (q1, .inl (k2, 192, .inl (fun _ => 0))), (q3, .inl (k4, 192, .inl (fun _ => 0))), (q5, .inl (k6, 1920, .inl (fun _ => 0))), (q7, .inl (k8, 384, .inl (fun _ => 0))), (q9, .inl (k10, 2, .inl (fun _ => 0))), (q11, .inl (k12, 200, .inl (fun _ => 0))), (q13, .inl (k14, 1000, .inl (fun _ => 0))), (q15, .inl (k16, 1000, .inl (fun _ => 0)))] H := hP
  have hD : va_D A [(h0, .inr (10, [.ref q1, .ref q3, .ref q5, .int 0, .ref q7, .ref q9, .ref q11, .int 0, .int 0, .int 0, .int 0, .int 0, .int 0, .int 0, .int 0, .ref q13, .null, .null, .null, .null, .null, .int 0, .int 0, .int 0, .int 0])), (q1, .inl (k2, 192, .inl (fun _ => 0))), (q3, .inl (k4, 192, .inl (fun _ => 0))), (q5, .inl (k6, 1920, .inl (fun _ => 0))), (q7, .inl (k8, 384, .inl (fun _ => 0))), (q9, .inl (k10, 2, .inl (fun _ => 0))), (q11, .inl (k12, 200, .inl (fun _ => 0))), (q13, .inl (k14, 1000, .inl (fun _ => 0))), (q15, .inl (k16, 1000, .inl (fun _ => 0)))] := hD
  have hK : va_K D vwCl [(k2, .int), (k4, .int), (k6, .int), (k8, .int), (k10, .boolean), (k12, .int), (k14, .int), (k16, .int)] s := hK
  refine W.widen (k := 8) (n := 4890) (Nat.le_of_ble_eq_true rfl) (Nat.le_of_ble_eq_true rfl) ?_
  refine va_putF (D := D) (ci := 10) (v := .ref q15) (ty := .array .int) (C := RX10) (T := TX10) (N := 25) hx hb hts (fun _ h => List.mem_cons_of_mem _ (List.mem_append_right _ h)) tyX10 tyX10_ok nmX10 hown hK hP hD hS 0 rfl rfl 16 (by decide) (hts (.fieldLink RX10 32 "LineCitesModel" "high" "[I") (List.mem_of_getElem? (i := 13) rfl)) (fun _ h9 => h9) rfl hin rfl (by decide +kernel) rfl rfl (Nat.le_of_ble_eq_true rfl) dX10_init_71 (fun H locs hP hD hS => ?_)
  have hP : va_P D vwCl [(h0, .inr (10, [.ref q1, .ref q3, .ref q5, .int 0, .ref q7, .ref q9, .ref q11, .int 0, .int 0, .int 0, .int 0, .int 0, .int 0, .int 0, .int 0, .ref q13, .ref q15, .null, .null, .null, .null, .int 0, .int 0, .int 0, .int 0])), (q1, .inl (k2, 192, .inl (fun _ => 0))), (q3, .inl (k4, 192, .inl (fun _ => 0))), (q5, .inl (k6, 1920, .inl (fun _ => 0))), (q7, .inl (k8, 384, .inl (fun _ => 0))), (q9, .inl (k10, 2, .inl (fun _ => 0))), (q11, .inl (k12, 200, .inl (fun _ => 0))), (q13, .inl (k14, 1000, .inl (fun _ => 0))), (q15, .inl (k16, 1000, .inl (fun _ => 0)))] H := hP
  have hD : va_D A [(h0, .inr (10, [.ref q1, .ref q3, .ref q5, .int 0, .ref q7, .ref q9, .ref q11, .int 0, .int 0, .int 0, .int 0, .int 0, .int 0, .int 0, .int 0, .ref q13, .ref q15, .null, .null, .null, .null, .int 0, .int 0, .int 0, .int 0])), (q1, .inl (k2, 192, .inl (fun _ => 0))), (q3, .inl (k4, 192, .inl (fun _ => 0))), (q5, .inl (k6, 1920, .inl (fun _ => 0))), (q7, .inl (k8, 384, .inl (fun _ => 0))), (q9, .inl (k10, 2, .inl (fun _ => 0))), (q11, .inl (k12, 200, .inl (fun _ => 0))), (q13, .inl (k14, 1000, .inl (fun _ => 0))), (q15, .inl (k16, 1000, .inl (fun _ => 0)))] := hD
  have hK : va_K D vwCl [(k2, .int), (k4, .int), (k6, .int), (k8, .int), (k10, .boolean), (k12, .int), (k14, .int), (k16, .int)] s := hK
  refine lv_aload_n hx hb dX10_init_74 rfl (lv_at hl 0 rfl) ?_
  refine lv_sipush (v := 1000) hx hb dX10_init_75 (by decide) ?_
  refine va_newa (atype := .boolean) (ty := .boolean) (a0 := (1000, .inl (fun _ => 0))) (N' := 1000) hx hb (hts (.arrayClass .boolean) (List.mem_of_getElem? (i := 9) rfl)) rfl hK hP hD hS hA (fun _ => rfl) (by decide) (by decide) (Nat.le_of_ble_eq_true rfl) (Nat.le_of_ble_eq_true rfl) (Nat.le_of_ble_eq_true rfl) dX10_init_78 (fun q17 k18 H hK hP hD hS => ?_)
  have hP : va_P D vwCl [(h0, .inr (10, [.ref q1, .ref q3, .ref q5, .int 0, .ref q7, .ref q9, .ref q11, .int 0, .int 0, .int 0, .int 0, .int 0, .int 0, .int 0, .int 0, .ref q13, .ref q15, .null, .null, .null, .null, .int 0, .int 0, .int 0, .int 0])), (q1, .inl (k2, 192, .inl (fun _ => 0))), (q3, .inl (k4, 192, .inl (fun _ => 0))), (q5, .inl (k6, 1920, .inl (fun _ => 0))), (q7, .inl (k8, 384, .inl (fun _ => 0))), (q9, .inl (k10, 2, .inl (fun _ => 0))), (q11, .inl (k12, 200, .inl (fun _ => 0))), (q13, .inl (k14, 1000, .inl (fun _ => 0))), (q15, .inl (k16, 1000, .inl (fun _ => 0))), (q17, .inl (k18, 1000, .inl (fun _ => 0)))] H := hP
  have hD : va_D A [(h0, .inr (10, [.ref q1, .ref q3, .ref q5, .int 0, .ref q7, .ref q9, .ref q11, .int 0, .int 0, .int 0, .int 0, .int 0, .int 0, .int 0, .int 0, .ref q13, .ref q15, .null, .null, .null, .null, .int 0, .int 0, .int 0, .int 0])), (q1, .inl (k2, 192, .inl (fun _ => 0))), (q3, .inl (k4, 192, .inl (fun _ => 0))), (q5, .inl (k6, 1920, .inl (fun _ => 0))), (q7, .inl (k8, 384, .inl (fun _ => 0))), (q9, .inl (k10, 2, .inl (fun _ => 0))), (q11, .inl (k12, 200, .inl (fun _ => 0))), (q13, .inl (k14, 1000, .inl (fun _ => 0))), (q15, .inl (k16, 1000, .inl (fun _ => 0))), (q17, .inl (k18, 1000, .inl (fun _ => 0)))] := hD
  have hK : va_K D vwCl [(k2, .int), (k4, .int), (k6, .int), (k8, .int), (k10, .boolean), (k12, .int), (k14, .int), (k16, .int), (k18, .boolean)] s := hK
  refine W.widen (k := 9) (n := 5890) (Nat.le_of_ble_eq_true rfl) (Nat.le_of_ble_eq_true rfl) ?_
  refine va_putF (D := D) (ci := 10) (v := .ref q17) (ty := .array .boolean) (C := RX10) (T := TX10) (N := 25) hx hb hts (fun _ h => List.mem_cons_of_mem _ (List.mem_append_right _ h)) tyX10 tyX10_ok nmX10 hown hK hP hD hS 0 rfl rfl 17 (by decide) (hts (.fieldLink RX10 35 "LineCitesModel" "first" "[Z") (List.mem_of_getElem? (i := 14) rfl)) (fun _ h9 => h9) rfl hin rfl (by decide +kernel) rfl rfl (Nat.le_of_ble_eq_true rfl) dX10_init_80 (fun H locs hP hD hS => ?_)
  have hP : va_P D vwCl [(h0, .inr (10, [.ref q1, .ref q3, .ref q5, .int 0, .ref q7, .ref q9, .ref q11, .int 0, .int 0, .int 0, .int 0, .int 0, .int 0, .int 0, .int 0, .ref q13, .ref q15, .ref q17, .null, .null, .null, .int 0, .int 0, .int 0, .int 0])), (q1, .inl (k2, 192, .inl (fun _ => 0))), (q3, .inl (k4, 192, .inl (fun _ => 0))), (q5, .inl (k6, 1920, .inl (fun _ => 0))), (q7, .inl (k8, 384, .inl (fun _ => 0))), (q9, .inl (k10, 2, .inl (fun _ => 0))), (q11, .inl (k12, 200, .inl (fun _ => 0))), (q13, .inl (k14, 1000, .inl (fun _ => 0))), (q15, .inl (k16, 1000, .inl (fun _ => 0))), (q17, .inl (k18, 1000, .inl (fun _ => 0)))] H := hP
  have hD : va_D A [(h0, .inr (10, [.ref q1, .ref q3, .ref q5, .int 0, .ref q7, .ref q9, .ref q11, .int 0, .int 0, .int 0, .int 0, .int 0, .int 0, .int 0, .int 0, .ref q13, .ref q15, .ref q17, .null, .null, .null, .int 0, .int 0, .int 0, .int 0])), (q1, .inl (k2, 192, .inl (fun _ => 0))), (q3, .inl (k4, 192, .inl (fun _ => 0))), (q5, .inl (k6, 1920, .inl (fun _ => 0))), (q7, .inl (k8, 384, .inl (fun _ => 0))), (q9, .inl (k10, 2, .inl (fun _ => 0))), (q11, .inl (k12, 200, .inl (fun _ => 0))), (q13, .inl (k14, 1000, .inl (fun _ => 0))), (q15, .inl (k16, 1000, .inl (fun _ => 0))), (q17, .inl (k18, 1000, .inl (fun _ => 0)))] := hD
  have hK : va_K D vwCl [(k2, .int), (k4, .int), (k6, .int), (k8, .int), (k10, .boolean), (k12, .int), (k14, .int), (k16, .int), (k18, .boolean)] s := hK
  refine lv_aload_n hx hb dX10_init_83 rfl (lv_at hl 0 rfl) ?_
  refine lv_sipush (v := 1000) hx hb dX10_init_84 (by decide) ?_
  refine va_newa (atype := .boolean) (ty := .boolean) (a0 := (1000, .inl (fun _ => 0))) (N' := 1000) hx hb (hts (.arrayClass .boolean) (List.mem_of_getElem? (i := 9) rfl)) rfl hK hP hD hS hA (fun _ => rfl) (by decide) (by decide) (Nat.le_of_ble_eq_true rfl) (Nat.le_of_ble_eq_true rfl) (Nat.le_of_ble_eq_true rfl) dX10_init_87 (fun q19 k20 H hK hP hD hS => ?_)
  have hP : va_P D vwCl [(h0, .inr (10, [.ref q1, .ref q3, .ref q5, .int 0, .ref q7, .ref q9, .ref q11, .int 0, .int 0, .int 0, .int 0, .int 0, .int 0, .int 0, .int 0, .ref q13, .ref q15, .ref q17, .null, .null, .null, .int 0, .int 0, .int 0, .int 0])), (q1, .inl (k2, 192, .inl (fun _ => 0))), (q3, .inl (k4, 192, .inl (fun _ => 0))), (q5, .inl (k6, 1920, .inl (fun _ => 0))), (q7, .inl (k8, 384, .inl (fun _ => 0))), (q9, .inl (k10, 2, .inl (fun _ => 0))), (q11, .inl (k12, 200, .inl (fun _ => 0))), (q13, .inl (k14, 1000, .inl (fun _ => 0))), (q15, .inl (k16, 1000, .inl (fun _ => 0))), (q17, .inl (k18, 1000, .inl (fun _ => 0))), (q19, .inl (k20, 1000, .inl (fun _ => 0)))] H := hP
  have hD : va_D A [(h0, .inr (10, [.ref q1, .ref q3, .ref q5, .int 0, .ref q7, .ref q9, .ref q11, .int 0, .int 0, .int 0, .int 0, .int 0, .int 0, .int 0, .int 0, .ref q13, .ref q15, .ref q17, .null, .null, .null, .int 0, .int 0, .int 0, .int 0])), (q1, .inl (k2, 192, .inl (fun _ => 0))), (q3, .inl (k4, 192, .inl (fun _ => 0))), (q5, .inl (k6, 1920, .inl (fun _ => 0))), (q7, .inl (k8, 384, .inl (fun _ => 0))), (q9, .inl (k10, 2, .inl (fun _ => 0))), (q11, .inl (k12, 200, .inl (fun _ => 0))), (q13, .inl (k14, 1000, .inl (fun _ => 0))), (q15, .inl (k16, 1000, .inl (fun _ => 0))), (q17, .inl (k18, 1000, .inl (fun _ => 0))), (q19, .inl (k20, 1000, .inl (fun _ => 0)))] := hD
  have hK : va_K D vwCl [(k2, .int), (k4, .int), (k6, .int), (k8, .int), (k10, .boolean), (k12, .int), (k14, .int), (k16, .int), (k18, .boolean), (k20, .boolean)] s := hK
  refine W.widen (k := 10) (n := 6890) (Nat.le_of_ble_eq_true rfl) (Nat.le_of_ble_eq_true rfl) ?_
  refine va_putF (D := D) (ci := 10) (v := .ref q19) (ty := .array .boolean) (C := RX10) (T := TX10) (N := 25) hx hb hts (fun _ h => List.mem_cons_of_mem _ (List.mem_append_right _ h)) tyX10 tyX10_ok nmX10 hown hK hP hD hS 0 rfl rfl 18 (by decide) (hts (.fieldLink RX10 38 "LineCitesModel" "second" "[Z") (List.mem_of_getElem? (i := 15) rfl)) (fun _ h9 => h9) rfl hin rfl (by decide +kernel) rfl rfl (Nat.le_of_ble_eq_true rfl) dX10_init_89 (fun H locs hP hD hS => ?_)
  have hP : va_P D vwCl [(h0, .inr (10, [.ref q1, .ref q3, .ref q5, .int 0, .ref q7, .ref q9, .ref q11, .int 0, .int 0, .int 0, .int 0, .int 0, .int 0, .int 0, .int 0, .ref q13, .ref q15, .ref q17, .ref q19, .null, .null, .int 0, .int 0, .int 0, .int 0])), (q1, .inl (k2, 192, .inl (fun _ => 0))), (q3, .inl (k4, 192, .inl (fun _ => 0))), (q5, .inl (k6, 1920, .inl (fun _ => 0))), (q7, .inl (k8, 384, .inl (fun _ => 0))), (q9, .inl (k10, 2, .inl (fun _ => 0))), (q11, .inl (k12, 200, .inl (fun _ => 0))), (q13, .inl (k14, 1000, .inl (fun _ => 0))), (q15, .inl (k16, 1000, .inl (fun _ => 0))), (q17, .inl (k18, 1000, .inl (fun _ => 0))), (q19, .inl (k20, 1000, .inl (fun _ => 0)))] H := hP
  have hD : va_D A [(h0, .inr (10, [.ref q1, .ref q3, .ref q5, .int 0, .ref q7, .ref q9, .ref q11, .int 0, .int 0, .int 0, .int 0, .int 0, .int 0, .int 0, .int 0, .ref q13, .ref q15, .ref q17, .ref q19, .null, .null, .int 0, .int 0, .int 0, .int 0])), (q1, .inl (k2, 192, .inl (fun _ => 0))), (q3, .inl (k4, 192, .inl (fun _ => 0))), (q5, .inl (k6, 1920, .inl (fun _ => 0))), (q7, .inl (k8, 384, .inl (fun _ => 0))), (q9, .inl (k10, 2, .inl (fun _ => 0))), (q11, .inl (k12, 200, .inl (fun _ => 0))), (q13, .inl (k14, 1000, .inl (fun _ => 0))), (q15, .inl (k16, 1000, .inl (fun _ => 0))), (q17, .inl (k18, 1000, .inl (fun _ => 0))), (q19, .inl (k20, 1000, .inl (fun _ => 0)))] := hD
  have hK : va_K D vwCl [(k2, .int), (k4, .int), (k6, .int), (k8, .int), (k10, .boolean), (k12, .int), (k14, .int), (k16, .int), (k18, .boolean), (k20, .boolean)] s := hK
  refine lv_aload_n hx hb dX10_init_92 rfl (lv_at hl 0 rfl) ?_
  refine lv_sipush (v := 200) hx hb dX10_init_93 (by decide) ?_
  refine va_newa (atype := .boolean) (ty := .boolean) (a0 := (200, .inl (fun _ => 0))) (N' := 200) hx hb (hts (.arrayClass .boolean) (List.mem_of_getElem? (i := 9) rfl)) rfl hK hP hD hS hA (fun _ => rfl) (by decide) (by decide) (Nat.le_of_ble_eq_true rfl) (Nat.le_of_ble_eq_true rfl) (Nat.le_of_ble_eq_true rfl) dX10_init_96 (fun q21 k22 H hK hP hD hS => ?_)
  have hP : va_P D vwCl [(h0, .inr (10, [.ref q1, .ref q3, .ref q5, .int 0, .ref q7, .ref q9, .ref q11, .int 0, .int 0, .int 0, .int 0, .int 0, .int 0, .int 0, .int 0, .ref q13, .ref q15, .ref q17, .ref q19, .null, .null, .int 0, .int 0, .int 0, .int 0])), (q1, .inl (k2, 192, .inl (fun _ => 0))), (q3, .inl (k4, 192, .inl (fun _ => 0))), (q5, .inl (k6, 1920, .inl (fun _ => 0))), (q7, .inl (k8, 384, .inl (fun _ => 0))), (q9, .inl (k10, 2, .inl (fun _ => 0))), (q11, .inl (k12, 200, .inl (fun _ => 0))), (q13, .inl (k14, 1000, .inl (fun _ => 0))), (q15, .inl (k16, 1000, .inl (fun _ => 0))), (q17, .inl (k18, 1000, .inl (fun _ => 0))), (q19, .inl (k20, 1000, .inl (fun _ => 0))), (q21, .inl (k22, 200, .inl (fun _ => 0)))] H := hP
  have hD : va_D A [(h0, .inr (10, [.ref q1, .ref q3, .ref q5, .int 0, .ref q7, .ref q9, .ref q11, .int 0, .int 0, .int 0, .int 0, .int 0, .int 0, .int 0, .int 0, .ref q13, .ref q15, .ref q17, .ref q19, .null, .null, .int 0, .int 0, .int 0, .int 0])), (q1, .inl (k2, 192, .inl (fun _ => 0))), (q3, .inl (k4, 192, .inl (fun _ => 0))), (q5, .inl (k6, 1920, .inl (fun _ => 0))), (q7, .inl (k8, 384, .inl (fun _ => 0))), (q9, .inl (k10, 2, .inl (fun _ => 0))), (q11, .inl (k12, 200, .inl (fun _ => 0))), (q13, .inl (k14, 1000, .inl (fun _ => 0))), (q15, .inl (k16, 1000, .inl (fun _ => 0))), (q17, .inl (k18, 1000, .inl (fun _ => 0))), (q19, .inl (k20, 1000, .inl (fun _ => 0))), (q21, .inl (k22, 200, .inl (fun _ => 0)))] := hD
  have hK : va_K D vwCl [(k2, .int), (k4, .int), (k6, .int), (k8, .int), (k10, .boolean), (k12, .int), (k14, .int), (k16, .int), (k18, .boolean), (k20, .boolean), (k22, .boolean)] s := hK
  refine W.widen (k := 11) (n := 7090) (Nat.le_of_ble_eq_true rfl) (Nat.le_of_ble_eq_true rfl) ?_
  refine va_putF (D := D) (ci := 10) (v := .ref q21) (ty := .array .boolean) (C := RX10) (T := TX10) (N := 25) hx hb hts (fun _ h => List.mem_cons_of_mem _ (List.mem_append_right _ h)) tyX10 tyX10_ok nmX10 hown hK hP hD hS 0 rfl rfl 19 (by decide) (hts (.fieldLink RX10 41 "LineCitesModel" "lines" "[Z") (List.mem_of_getElem? (i := 16) rfl)) (fun _ h9 => h9) rfl hin rfl (by decide +kernel) rfl rfl (Nat.le_of_ble_eq_true rfl) dX10_init_98 (fun H locs hP hD hS => ?_)
  have hP : va_P D vwCl [(h0, .inr (10, [.ref q1, .ref q3, .ref q5, .int 0, .ref q7, .ref q9, .ref q11, .int 0, .int 0, .int 0, .int 0, .int 0, .int 0, .int 0, .int 0, .ref q13, .ref q15, .ref q17, .ref q19, .ref q21, .null, .int 0, .int 0, .int 0, .int 0])), (q1, .inl (k2, 192, .inl (fun _ => 0))), (q3, .inl (k4, 192, .inl (fun _ => 0))), (q5, .inl (k6, 1920, .inl (fun _ => 0))), (q7, .inl (k8, 384, .inl (fun _ => 0))), (q9, .inl (k10, 2, .inl (fun _ => 0))), (q11, .inl (k12, 200, .inl (fun _ => 0))), (q13, .inl (k14, 1000, .inl (fun _ => 0))), (q15, .inl (k16, 1000, .inl (fun _ => 0))), (q17, .inl (k18, 1000, .inl (fun _ => 0))), (q19, .inl (k20, 1000, .inl (fun _ => 0))), (q21, .inl (k22, 200, .inl (fun _ => 0)))] H := hP
  have hD : va_D A [(h0, .inr (10, [.ref q1, .ref q3, .ref q5, .int 0, .ref q7, .ref q9, .ref q11, .int 0, .int 0, .int 0, .int 0, .int 0, .int 0, .int 0, .int 0, .ref q13, .ref q15, .ref q17, .ref q19, .ref q21, .null, .int 0, .int 0, .int 0, .int 0])), (q1, .inl (k2, 192, .inl (fun _ => 0))), (q3, .inl (k4, 192, .inl (fun _ => 0))), (q5, .inl (k6, 1920, .inl (fun _ => 0))), (q7, .inl (k8, 384, .inl (fun _ => 0))), (q9, .inl (k10, 2, .inl (fun _ => 0))), (q11, .inl (k12, 200, .inl (fun _ => 0))), (q13, .inl (k14, 1000, .inl (fun _ => 0))), (q15, .inl (k16, 1000, .inl (fun _ => 0))), (q17, .inl (k18, 1000, .inl (fun _ => 0))), (q19, .inl (k20, 1000, .inl (fun _ => 0))), (q21, .inl (k22, 200, .inl (fun _ => 0)))] := hD
  have hK : va_K D vwCl [(k2, .int), (k4, .int), (k6, .int), (k8, .int), (k10, .boolean), (k12, .int), (k14, .int), (k16, .int), (k18, .boolean), (k20, .boolean), (k22, .boolean)] s := hK
  refine lv_aload_n hx hb dX10_init_101 rfl (lv_at hl 0 rfl) ?_
  refine lv_sipush (v := 200) hx hb dX10_init_102 (by decide) ?_
  refine va_newa (atype := .boolean) (ty := .boolean) (a0 := (200, .inl (fun _ => 0))) (N' := 200) hx hb (hts (.arrayClass .boolean) (List.mem_of_getElem? (i := 9) rfl)) rfl hK hP hD hS hA (fun _ => rfl) (by decide) (by decide) (Nat.le_of_ble_eq_true rfl) (Nat.le_of_ble_eq_true rfl) (Nat.le_of_ble_eq_true rfl) dX10_init_105 (fun q23 k24 H hK hP hD hS => ?_)
  have hP : va_P D vwCl [(h0, .inr (10, [.ref q1, .ref q3, .ref q5, .int 0, .ref q7, .ref q9, .ref q11, .int 0, .int 0, .int 0, .int 0, .int 0, .int 0, .int 0, .int 0, .ref q13, .ref q15, .ref q17, .ref q19, .ref q21, .null, .int 0, .int 0, .int 0, .int 0])), (q1, .inl (k2, 192, .inl (fun _ => 0))), (q3, .inl (k4, 192, .inl (fun _ => 0))), (q5, .inl (k6, 1920, .inl (fun _ => 0))), (q7, .inl (k8, 384, .inl (fun _ => 0))), (q9, .inl (k10, 2, .inl (fun _ => 0))), (q11, .inl (k12, 200, .inl (fun _ => 0))), (q13, .inl (k14, 1000, .inl (fun _ => 0))), (q15, .inl (k16, 1000, .inl (fun _ => 0))), (q17, .inl (k18, 1000, .inl (fun _ => 0))), (q19, .inl (k20, 1000, .inl (fun _ => 0))), (q21, .inl (k22, 200, .inl (fun _ => 0))), (q23, .inl (k24, 200, .inl (fun _ => 0)))] H := hP
  have hD : va_D A [(h0, .inr (10, [.ref q1, .ref q3, .ref q5, .int 0, .ref q7, .ref q9, .ref q11, .int 0, .int 0, .int 0, .int 0, .int 0, .int 0, .int 0, .int 0, .ref q13, .ref q15, .ref q17, .ref q19, .ref q21, .null, .int 0, .int 0, .int 0, .int 0])), (q1, .inl (k2, 192, .inl (fun _ => 0))), (q3, .inl (k4, 192, .inl (fun _ => 0))), (q5, .inl (k6, 1920, .inl (fun _ => 0))), (q7, .inl (k8, 384, .inl (fun _ => 0))), (q9, .inl (k10, 2, .inl (fun _ => 0))), (q11, .inl (k12, 200, .inl (fun _ => 0))), (q13, .inl (k14, 1000, .inl (fun _ => 0))), (q15, .inl (k16, 1000, .inl (fun _ => 0))), (q17, .inl (k18, 1000, .inl (fun _ => 0))), (q19, .inl (k20, 1000, .inl (fun _ => 0))), (q21, .inl (k22, 200, .inl (fun _ => 0))), (q23, .inl (k24, 200, .inl (fun _ => 0)))] := hD
  have hK : va_K D vwCl [(k2, .int), (k4, .int), (k6, .int), (k8, .int), (k10, .boolean), (k12, .int), (k14, .int), (k16, .int), (k18, .boolean), (k20, .boolean), (k22, .boolean), (k24, .boolean)] s := hK
  refine W.widen (k := 12) (n := 7290) (Nat.le_of_ble_eq_true rfl) (Nat.le_of_ble_eq_true rfl) ?_
  refine va_putF (D := D) (ci := 10) (v := .ref q23) (ty := .array .boolean) (C := RX10) (T := TX10) (N := 25) hx hb hts (fun _ h => List.mem_cons_of_mem _ (List.mem_append_right _ h)) tyX10 tyX10_ok nmX10 hown hK hP hD hS 0 rfl rfl 20 (by decide) (hts (.fieldLink RX10 44 "LineCitesModel" "others" "[Z") (List.mem_of_getElem? (i := 17) rfl)) (fun _ h9 => h9) rfl hin rfl (by decide +kernel) rfl rfl (Nat.le_of_ble_eq_true rfl) dX10_init_107 (fun H locs hP hD hS => ?_)
  have hP : va_P D vwCl [(h0, .inr (10, [.ref q1, .ref q3, .ref q5, .int 0, .ref q7, .ref q9, .ref q11, .int 0, .int 0, .int 0, .int 0, .int 0, .int 0, .int 0, .int 0, .ref q13, .ref q15, .ref q17, .ref q19, .ref q21, .ref q23, .int 0, .int 0, .int 0, .int 0])), (q1, .inl (k2, 192, .inl (fun _ => 0))), (q3, .inl (k4, 192, .inl (fun _ => 0))), (q5, .inl (k6, 1920, .inl (fun _ => 0))), (q7, .inl (k8, 384, .inl (fun _ => 0))), (q9, .inl (k10, 2, .inl (fun _ => 0))), (q11, .inl (k12, 200, .inl (fun _ => 0))), (q13, .inl (k14, 1000, .inl (fun _ => 0))), (q15, .inl (k16, 1000, .inl (fun _ => 0))), (q17, .inl (k18, 1000, .inl (fun _ => 0))), (q19, .inl (k20, 1000, .inl (fun _ => 0))), (q21, .inl (k22, 200, .inl (fun _ => 0))), (q23, .inl (k24, 200, .inl (fun _ => 0)))] H := hP
  have hD : va_D A [(h0, .inr (10, [.ref q1, .ref q3, .ref q5, .int 0, .ref q7, .ref q9, .ref q11, .int 0, .int 0, .int 0, .int 0, .int 0, .int 0, .int 0, .int 0, .ref q13, .ref q15, .ref q17, .ref q19, .ref q21, .ref q23, .int 0, .int 0, .int 0, .int 0])), (q1, .inl (k2, 192, .inl (fun _ => 0))), (q3, .inl (k4, 192, .inl (fun _ => 0))), (q5, .inl (k6, 1920, .inl (fun _ => 0))), (q7, .inl (k8, 384, .inl (fun _ => 0))), (q9, .inl (k10, 2, .inl (fun _ => 0))), (q11, .inl (k12, 200, .inl (fun _ => 0))), (q13, .inl (k14, 1000, .inl (fun _ => 0))), (q15, .inl (k16, 1000, .inl (fun _ => 0))), (q17, .inl (k18, 1000, .inl (fun _ => 0))), (q19, .inl (k20, 1000, .inl (fun _ => 0))), (q21, .inl (k22, 200, .inl (fun _ => 0))), (q23, .inl (k24, 200, .inl (fun _ => 0)))] := hD
  have hK : va_K D vwCl [(k2, .int), (k4, .int), (k6, .int), (k8, .int), (k10, .boolean), (k12, .int), (k14, .int), (k16, .int), (k18, .boolean), (k20, .boolean), (k22, .boolean), (k24, .boolean)] s := hK
  have hP9 := hP.sub (ws' := [(h0, .inr (10, [.ref q1, .ref q3, .ref q5, .int 0, .ref q7, .ref q9, .ref q11, .int 0, .int 0, .int 0, .int 0, .int 0, .int 0, .int 0, .int 0, .ref q13, .ref q15, .ref q17, .ref q19, .ref q21, .ref q23, .int 0, .int 0, .int 0, .int 0])), (q1, .inl (k2, 192, .inl (fun _ => 0))), (q3, .inl (k4, 192, .inl (fun _ => 0))), (q11, .inl (k12, 200, .inl (fun _ => 0))), (q9, .inl (k10, 2, .inl (fun _ => 0)))]) [0, 1, 2, 6, 5] rfl
  have hD9 := hD.sub (ws' := [(h0, .inr (10, [.ref q1, .ref q3, .ref q5, .int 0, .ref q7, .ref q9, .ref q11, .int 0, .int 0, .int 0, .int 0, .int 0, .int 0, .int 0, .int 0, .ref q13, .ref q15, .ref q17, .ref q19, .ref q21, .ref q23, .int 0, .int 0, .int 0, .int 0])), (q1, .inl (k2, 192, .inl (fun _ => 0))), (q3, .inl (k4, 192, .inl (fun _ => 0))), (q11, .inl (k12, 200, .inl (fun _ => 0))), (q9, .inl (k10, 2, .inl (fun _ => 0)))]) [0, 1, 2, 6, 5] (by decide) rfl
  have hK9 := hK.sub (tys' := [(k2, .int), (k4, .int), (k12, .int), (k10, .boolean)]) [0, 1, 5, 4] rfl
  refine W.widen (k := 12) (n := 7290) (Nat.le_of_ble_eq_true rfl) (Nat.le_of_ble_eq_true rfl) ?_
  exact W.vret hx hb hr (fun t ht hW => ⟨⟨(), rfl, trivial, q1, q3, q5, q7, q9, q11, q13, q15, q17, q19, q21, q23, k2, k4, k12, k10, by rw [ht]; exact hP9, va_K.moved hW.alike hK9, hD9⟩, hS.F ht⟩) hS.2.2 dX10_init_110
def w_X10_feed : List Cond := .code yX10_feed cX10_feed 2 (some .int) :: ([.constantLong RX10 175 (255), .methodLink RX10 51 yX10_in0, .static yX10_in0, .initialized RX10, .code yX10_in0 cX10_in0 6 (some .boolean), .fieldLink RX10 95 "LineCitesModel" "taped" "I", .fieldLink RX10 26 "LineCitesModel" "tape" "[I", .constant RX10 177 (-1000001)] ++ wsX100)
set_option maxRecDepth 20000 in
theorem g_X10_feed_X10_in0 : GoodIn w_X10_feed (wsS RX10 51 yX10_in0 w_X10_in0) := goodIn_r _ [2, 3, 4, 5] rfl (by decide +kernel)
set_option maxHeartbeats 4000000 in
set_option maxRecDepth 100000 in
theorem c_X10_feed (l : Launch) (D : va_G) (h0 : Nat) (i_0 : Int32) (m_now : Nat) (m_draft : Nat) (m_past : Nat) (m_images : Nat) (m_kept : Nat) (m_tape : Nat) (m_low : Nat) (m_high : Nat) (m_first : Nat) (m_second : Nat) (m_lines : Nat) (m_others : Nat) (k_t : ClassId) (sz : Nat) : Met l yX10_feed w_X10_feed ({ frames := 1, cells := 0, slots := 0, locals := 25 }) (va_Pc [.ref h0, .int i_0] (fun U => U.heap.size = sz ∧ va_P D vwCl [(h0, .inr (10, [.ref m_now, .ref m_draft, .ref m_past, .int 0, .ref m_images, .ref m_kept, .ref m_tape, .int 0, .int 0, .int 0, .int 0, .int 0, .int 0, .int 0, .int 0, .ref m_low, .ref m_high, .ref m_first, .ref m_second, .ref m_lines, .ref m_others, .int 0, .int 0, .int 0, .int 0])), (m_tape, .inl (k_t, 200, .inl (fun _ => 0)))] U.heap ∧ va_K D vwCl [(k_t, .int)] U ∧ va_D (fun _ => True) [(h0, .inr (10, [.ref m_now, .ref m_draft, .ref m_past, .int 0, .ref m_images, .ref m_kept, .ref m_tape, .int 0, .int 0, .int 0, .int 0, .int 0, .int 0, .int 0, .int 0, .ref m_low, .ref m_high, .ref m_first, .ref m_second, .ref m_lines, .ref m_others, .int 0, .int 0, .int 0, .int 0])), (m_tape, .inl (k_t, 200, .inl (fun _ => 0)))])) (va_Qi (fun (r : Int32) (_ : Unit) => r = sp_rng i_0 255 1 (-1000001)) (fun (_ : Unit) t => va_P D vwCl [] t.heap ∧ va_K D vwCl [] t ∧ va_D (va_A [(h0, .inr (10, [.ref m_now, .ref m_draft, .ref m_past, .int 0, .ref m_images, .ref m_kept, .ref m_tape, .int 0, .int 0, .int 0, .int 0, .int 0, .int 0, .int 0, .int 0, .ref m_low, .ref m_high, .ref m_first, .ref m_second, .ref m_lines, .ref m_others, .int 0, .int 0, .int 0, .int 0])), (m_tape, .inl (k_t, 200, .inl (fun _ => 0)))] sz) []) (va_A [(h0, .inr (10, [.ref m_now, .ref m_draft, .ref m_past, .int 0, .ref m_images, .ref m_kept, .ref m_tape, .int 0, .int 0, .int 0, .int 0, .int 0, .int 0, .int 0, .int 0, .ref m_low, .ref m_high, .ref m_first, .ref m_second, .ref m_lines, .ref m_others, .int 0, .int 0, .int 0, .int 0])), (m_tape, .inl (k_t, 200, .inl (fun _ => 0)))] sz)) 0 0 (va_A [(h0, .inr (10, [.ref m_now, .ref m_draft, .ref m_past, .int 0, .ref m_images, .ref m_kept, .ref m_tape, .int 0, .int 0, .int 0, .int 0, .int 0, .int 0, .int 0, .int 0, .ref m_low, .ref m_high, .ref m_first, .ref m_second, .ref m_lines, .ref m_others, .int 0, .int 0, .int 0, .int 0])), (m_tape, .inl (k_t, 200, .inl (fun _ => 0)))] sz) := by
  refine Met.ofW (cc := cX10_feed) (maxL := 2) (ret := (some .int)) (by decide) rfl ?_
  intro p e s m args below meth c s₁ B hml hv
  obtain ⟨rfl, hsz, hP, hK, hD0⟩ := hv
  have hx := B.exec
  have hb := B.bytes
  have hr := B.returns
  have hts := atoms_spec (ws := w_X10_feed) B.pre
  have hown : s.vm.findClass RX10 = some m.cls := findClass_of_methodNamed B.named
  have hlocks := B.notSynchronized
  subst hsz
  have hD := hD0.self (sz := s.heap.size)
  generalize hAe : va_A [(h0, .inr (10, [.ref m_now, .ref m_draft, .ref m_past, .int 0, .ref m_images, .ref m_kept, .ref m_tape, .int 0, .int 0, .int 0, .int 0, .int 0, .int 0, .int 0, .int 0, .ref m_low, .ref m_high, .ref m_first, .ref m_second, .ref m_lines, .ref m_others, .int 0, .int 0, .int 0, .int 0])), (m_tape, .inl (k_t, 200, .inl (fun _ => 0)))] s.heap.size = A at hD ⊢
  have hA : ∀ q : Nat, s.heap.size ≤ q → A q := fun q h => by rw [← hAe]; exact Or.inr h
  have hS : va_S A s.heap s.heap [] := va_S.rf
  have hP : va_P D vwCl [(h0, .inr (10, [.ref m_now, .ref m_draft, .ref m_past, .int 0, .ref m_images, .ref m_kept, .ref m_tape, .int 0, .int 0, .int 0, .int 0, .int 0, .int 0, .int 0, .int 0, .ref m_low, .ref m_high, .ref m_first, .ref m_second, .ref m_lines, .ref m_others, .int 0, .int 0, .int 0, .int 0])), (m_tape, .inl (k_t, 200, .inl (fun _ => 0)))] s.heap := hP
  have hl := lv_entry ([.ref h0, .int i_0]) (n := 2) (Nat.le_of_ble_eq_true rfl)
  rw [lg_entry_eq]
  generalize (lg_sl ([.ref h0, .int i_0]) ++ List.replicate (2 - (lg_sl ([.ref h0, .int i_0])).length) Slot.unset).toArray = ls at hl ⊢
  have hl : lv_has ls 2 [(0, .ref h0), (1, .int i_0)] := hl
  obtain ⟨H, hHe⟩ : ∃ H : Heap, H = s.heap := ⟨_, rfl⟩
  rw [← hHe] at hP
  have hS : va_S A s.heap H [] := by rw [hHe]; exact hS
  refine pw_heap hHe ?_
  refine lv_iload_n hx hb dX10_feed_0 rfl (lv_at hl 1 rfl) ?_
  refine lv_i2l (v := i_0.toInt64) hx hb dX10_feed_1 rfl ?_
  refine lv_lconst (v := 0) hx hb dX10_feed_2 (by decide) ?_
  refine lv_ldc2 hx hb hown (hts (.constantLong RX10 175 (255)) (List.mem_of_getElem? (i := 1) rfl)) dX10_feed_3 ?_
  have hPc := hP.sub (ws' := []) [] rfl
  have hKc := hK.sub (tys' := []) [] rfl
  refine va_calli (va_runS (As := [.long i_0.toInt64, .long 0, .long 255]) (rest := []) ⟨hx, hb, hml, hown, hts⟩ (c_X10_in0 l D i_0.toInt64 0 255) (cwS 3 hts g_X10_feed_X10_in0 rfl rfl rfl (by decide +kernel) ⟨Nat.le_of_ble_eq_true rfl, Nat.le_of_ble_eq_true rfl⟩) ⟨fun a U g mk q => by obtain ⟨q0, qP, qK⟩ := q; exact ⟨q0, qP, va_K.moved (u := U) (U := U.calling g mk a) (Vm.Alike.refl U.vm) qK⟩, fun U hU hW => ⟨rfl, by rw [hU]; exact hPc, va_K.moved hW.alike hKc⟩⟩ rfl rfl hl.1 rfl (lv_room (Nat.le_of_ble_eq_true rfl)) dX10_feed_6 ⟨Nat.le_of_ble_eq_true rfl, Nat.le_of_ble_eq_true rfl⟩) hS (fun _ _ h => h.elim) (fun _ h => h.elim) (fun r1 u t H1 locs ht hvm hw hB hz1 hk1 hS => ?_)
  have hP := pw_keep hP (fun q hq => hk1 q hq (fun h => h))
  generalize H1 = H at hP hS ⊢
  refine W.widen (k := 0) (n := 0) (Nat.le_of_ble_eq_true rfl) (Nat.le_of_ble_eq_true rfl) ?_
  rcases hw with ⟨rfl, r1h0, r1h1⟩ | ⟨rfl, r1h0⟩
  · have nr1 : 0 ≤ i_0.toInt ∧ i_0.toInt ≤ 255 := pw_in0 r1h0 r1h1 (by decide) (by decide)
    refine lv_if_ne (tgt := 15) hx hb dX10_feed_9 (by decide) (fun c2 => ?_) (fun c2 => absurd c2 (by decide))
    refine lv_aload_n hx hb dX10_feed_15 rfl (lv_at hl 0 rfl) ?_
    refine va_get (D := D) (ci := 10) (v := .int 0) (C := RX10) (T := TX10) (N := 25) hx hb hts (fun _ h => List.mem_cons_of_mem _ (List.mem_append_right _ h)) hown hK hP 0 rfl rfl 7 (by decide) (hts (.fieldLink RX10 95 "LineCitesModel" "taped" "I") (List.mem_of_getElem? (i := 6) rfl)) (fun _ h9 => h9) rfl dX10_feed_16 ?_
    refine lv_sipush (v := 200) hx hb dX10_feed_19 (by decide) ?_
    refine lv_icmp_ne (tgt := 28) hx hb dX10_feed_22 (by decide) (fun c3 => ?_) (fun c3 => absurd c3 (by decide))
    refine lv_aload_n hx hb dX10_feed_28 rfl (lv_at hl 0 rfl) ?_
    refine va_get (D := D) (ci := 10) (v := .ref m_tape) (C := RX10) (T := TX10) (N := 25) hx hb hts (fun _ h => List.mem_cons_of_mem _ (List.mem_append_right _ h)) hown hK hP 0 rfl rfl 6 (by decide) (hts (.fieldLink RX10 26 "LineCitesModel" "tape" "[I") (List.mem_of_getElem? (i := 7) rfl)) (fun _ h9 => h9) rfl dX10_feed_29 ?_
    refine lv_aload_n hx hb dX10_feed_32 rfl (lv_at hl 0 rfl) ?_
    refine va_get (D := D) (ci := 10) (v := .int 0) (C := RX10) (T := TX10) (N := 25) hx hb hts (fun _ h => List.mem_cons_of_mem _ (List.mem_append_right _ h)) hown hK hP 0 rfl rfl 7 (by decide) (hts (.fieldLink RX10 95 "LineCitesModel" "taped" "I") (List.mem_of_getElem? (i := 6) rfl)) (fun _ h9 => h9) rfl dX10_feed_33 ?_
    refine lv_iload_n hx hb dX10_feed_36 rfl (lv_at hl 1 rfl) ?_
    refine va_iast hx hb hK hP hD hS 1 0 rfl rfl (vp_in_iff.mpr (by decide)) dX10_feed_37 (fun H locs hP hD hS => ?_)
    obtain ⟨g4, eg4⟩ : ∃ g : Nat → Int32, g = upd (fun _ => 0) (0 : Int32).toNatClampNeg i_0 := ⟨_, rfl⟩
    have hP : va_P D vwCl [(h0, .inr (10, [.ref m_now, .ref m_draft, .ref m_past, .int 0, .ref m_images, .ref m_kept, .ref m_tape, .int 0, .int 0, .int 0, .int 0, .int 0, .int 0, .int 0, .int 0, .ref m_low, .ref m_high, .ref m_first, .ref m_second, .ref m_lines, .ref m_others, .int 0, .int 0, .int 0, .int 0])), (m_tape, .inl (k_t, 200, .inl (upd (fun _ => 0) (0 : Int32).toNatClampNeg i_0)))] H := hP
    have hD : va_D A [(h0, .inr (10, [.ref m_now, .ref m_draft, .ref m_past, .int 0, .ref m_images, .ref m_kept, .ref m_tape, .int 0, .int 0, .int 0, .int 0, .int 0, .int 0, .int 0, .int 0, .ref m_low, .ref m_high, .ref m_first, .ref m_second, .ref m_lines, .ref m_others, .int 0, .int 0, .int 0, .int 0])), (m_tape, .inl (k_t, 200, .inl (upd (fun _ => 0) (0 : Int32).toNatClampNeg i_0)))] := hD
    have hK : va_K D vwCl [(k_t, .int)] s := hK
    rw [← eg4] at hP hD
    refine lv_aload_n hx hb dX10_feed_38 rfl (lv_at hl 0 rfl) ?_
    refine lv_dup hx hb dX10_feed_39 rfl ?_
    refine va_get (D := D) (ci := 10) (v := .int 0) (C := RX10) (T := TX10) (N := 25) hx hb hts (fun _ h => List.mem_cons_of_mem _ (List.mem_append_right _ h)) hown hK hP 0 rfl rfl 7 (by decide) (hts (.fieldLink RX10 95 "LineCitesModel" "taped" "I") (List.mem_of_getElem? (i := 6) rfl)) (fun _ h9 => h9) rfl dX10_feed_40 ?_
    refine lv_iconst (v := 1) hx hb dX10_feed_43 (by decide) ?_
    refine lv_iadd hx hb dX10_feed_44 ?_
    refine lv_topi (fun x5 ex5 => ?_)
    obtain rfl : x5 = 1 := ex5.trans (by decide)
    refine va_put (D := D) (ci := 10) (v := .int 1) (ty := .int) (C := RX10) (T := TX10) (N := 25) hx hb hts (fun _ h => List.mem_cons_of_mem _ (List.mem_append_right _ h)) tyX10 tyX10_ok nmX10 hown hK hP hD hS 0 rfl rfl 7 (by decide) (hts (.fieldLink RX10 95 "LineCitesModel" "taped" "I") (List.mem_of_getElem? (i := 6) rfl)) (fun _ h9 => h9) rfl (by decide +kernel) rfl rfl (Nat.le_of_ble_eq_true rfl) dX10_feed_45 (fun H locs hP hD hS => ?_)
    have hP : va_P D vwCl [(h0, .inr (10, [.ref m_now, .ref m_draft, .ref m_past, .int 0, .ref m_images, .ref m_kept, .ref m_tape, .int 1, .int 0, .int 0, .int 0, .int 0, .int 0, .int 0, .int 0, .ref m_low, .ref m_high, .ref m_first, .ref m_second, .ref m_lines, .ref m_others, .int 0, .int 0, .int 0, .int 0])), (m_tape, .inl (k_t, 200, .inl g4))] H := hP
    have hD : va_D A [(h0, .inr (10, [.ref m_now, .ref m_draft, .ref m_past, .int 0, .ref m_images, .ref m_kept, .ref m_tape, .int 1, .int 0, .int 0, .int 0, .int 0, .int 0, .int 0, .int 0, .ref m_low, .ref m_high, .ref m_first, .ref m_second, .ref m_lines, .ref m_others, .int 0, .int 0, .int 0, .int 0])), (m_tape, .inl (k_t, 200, .inl g4))] := hD
    have hK : va_K D vwCl [(k_t, .int)] s := hK
    refine lv_aload_n hx hb dX10_feed_48 rfl (lv_at hl 0 rfl) ?_
    refine va_get (D := D) (ci := 10) (v := .int 1) (C := RX10) (T := TX10) (N := 25) hx hb hts (fun _ h => List.mem_cons_of_mem _ (List.mem_append_right _ h)) hown hK hP 0 rfl rfl 7 (by decide) (hts (.fieldLink RX10 95 "LineCitesModel" "taped" "I") (List.mem_of_getElem? (i := 6) rfl)) (fun _ h9 => h9) rfl dX10_feed_49 ?_
    have hP9 := hP.sub (ws' := []) [] rfl
    have hD9 := hD.sub (ws' := []) [] (by decide) rfl
    have hK9 := hK.sub (tys' := []) [] rfl
    refine W.widen (k := 0) (n := 0) (Nat.le_of_ble_eq_true rfl) (Nat.le_of_ble_eq_true rfl) ?_
    exact W.iret (v := 1) hx hb hr (fun t ht hW => ⟨⟨1, (), rfl, sp_in (by omega) (by omega), by rw [ht]; exact hP9, va_K.moved hW.alike hK9, hD9⟩, hS.F ht⟩) hS.2.2 dX10_feed_52
  · have nr1 : ¬ (0 ≤ i_0.toInt ∧ i_0.toInt ≤ 255) := pw_nin0 r1h0 (by decide) (by decide)
    refine lv_if_ne (tgt := 15) hx hb dX10_feed_9 (by decide) (fun c6 => absurd (by decide) c6) (fun c6 => ?_)
    refine lv_ldc hx hb hown (hts (.constant RX10 177 (-1000001)) (List.mem_of_getElem? (i := 8) rfl)) dX10_feed_12 ?_
    have hP9 := hP.sub (ws' := []) [] rfl
    have hD9 := hD.sub (ws' := []) [] (by decide) rfl
    have hK9 := hK.sub (tys' := []) [] rfl
    refine W.widen (k := 0) (n := 0) (Nat.le_of_ble_eq_true rfl) (Nat.le_of_ble_eq_true rfl) ?_
    exact W.iret (v := (-1000001)) hx hb hr (fun t ht hW => ⟨⟨(-1000001), (), rfl, sp_out (by omega), by rw [ht]; exact hP9, va_K.moved hW.alike hK9, hD9⟩, hS.F ht⟩) hS.2.2 dX10_feed_14
def w_X10_byteAt : List Cond := .code yX10_byteAt cX10_byteAt 2 (some .int) :: ([.fieldLink RX10 95 "LineCitesModel" "taped" "I"] ++ wsX100)
set_option maxHeartbeats 4000000 in
set_option maxRecDepth 100000 in
theorem c_X10_byteAt (l : Launch) (D : va_G) (h0 : Nat) (m_now : Nat) (m_draft : Nat) (m_past : Nat) (m_images : Nat) (m_kept : Nat) (m_tape : Nat) (m_low : Nat) (m_high : Nat) (m_first : Nat) (m_second : Nat) (m_lines : Nat) (m_others : Nat) : Met l yX10_byteAt w_X10_byteAt ({ frames := 0, cells := 0, slots := 0, locals := 0 }) (va_Pc [.ref h0, .int 0] (fun U => va_P D vwCl [(h0, .inr (10, [.ref m_now, .ref m_draft, .ref m_past, .int 0, .ref m_images, .ref m_kept, .ref m_tape, .int 0, .int 0, .int 0, .int 0, .int 0, .int 0, .int 0, .int 0, .ref m_low, .ref m_high, .ref m_first, .ref m_second, .ref m_lines, .ref m_others, .int 0, .int 0, .int 0, .int 0]))] U.heap ∧ va_K D vwCl [] U)) (va_Qi (fun (r : Int32) (_ : Unit) => r = (-1)) (fun _ _ => True) (fun _ => False)) 0 0 (fun _ => False) := by
  refine Met.ofW (cc := cX10_byteAt) (maxL := 2) (ret := (some .int)) (by decide) rfl ?_
  intro p e s m args below meth c s₁ B hml hv
  obtain ⟨rfl, hP, hK⟩ := hv
  have hx := B.exec
  have hb := B.bytes
  have hr := B.returns
  have hts := atoms_spec (ws := w_X10_byteAt) B.pre
  have hown : s.vm.findClass RX10 = some m.cls := findClass_of_methodNamed B.named
  have hlocks := B.notSynchronized
  have hS : va_S (fun _ : Nat => False) s.heap s.heap [] := va_S.rf
  have hP : va_P D vwCl [(h0, .inr (10, [.ref m_now, .ref m_draft, .ref m_past, .int 0, .ref m_images, .ref m_kept, .ref m_tape, .int 0, .int 0, .int 0, .int 0, .int 0, .int 0, .int 0, .int 0, .ref m_low, .ref m_high, .ref m_first, .ref m_second, .ref m_lines, .ref m_others, .int 0, .int 0, .int 0, .int 0]))] s.heap := hP
  have hl := lv_entry ([.ref h0, .int 0]) (n := 2) (Nat.le_of_ble_eq_true rfl)
  rw [lg_entry_eq]
  generalize (lg_sl ([.ref h0, .int 0]) ++ List.replicate (2 - (lg_sl ([.ref h0, .int 0])).length) Slot.unset).toArray = ls at hl ⊢
  have hl : lv_has ls 2 [(0, .ref h0), (1, .int 0)] := hl
  obtain ⟨H, hHe⟩ : ∃ H : Heap, H = s.heap := ⟨_, rfl⟩
  rw [← hHe] at hP
  have hS : va_S (fun _ : Nat => False) s.heap H [] := by rw [hHe]; exact hS
  refine pw_heap hHe ?_
  refine lv_iload_n hx hb dX10_byteAt_0 rfl (lv_at hl 1 rfl) ?_
  refine lv_aload_n hx hb dX10_byteAt_1 rfl (lv_at hl 0 rfl) ?_
  refine va_get (D := D) (ci := 10) (v := .int 0) (C := RX10) (T := TX10) (N := 25) hx hb hts (fun _ h => List.mem_cons_of_mem _ (List.mem_append_right _ h)) hown hK hP 0 rfl rfl 7 (by decide) (hts (.fieldLink RX10 95 "LineCitesModel" "taped" "I") (List.mem_of_getElem? (i := 1) rfl)) (fun _ h9 => h9) rfl dX10_byteAt_2 ?_
  refine lv_icmp_ge (tgt := 17) hx hb dX10_byteAt_5 (by decide) (fun c1 => ?_) (fun c1 => absurd (by decide) c1)
  refine lv_iconst (v := (-1)) hx hb dX10_byteAt_17 (by decide) ?_
  exact W.iret (v := (-1)) hx hb hr (fun t ht hW => ⟨⟨(-1), (), rfl, rfl, trivial⟩, hS.F ht⟩) hS.2.2 dX10_byteAt_18
def w_X10_reads : List Cond := .code yX10_reads cX10_reads 2 none :: ([.fieldLink RX10 99 "LineCitesModel" "at" "I", .fieldLink RX10 102 "LineCitesModel" "start" "I", .methodLink RX10 105 yX10_byteAt, .instanceMethod yX10_byteAt, .selects RX10 yX10_byteAt yX10_byteAt, .initialized RX10, .code yX10_byteAt cX10_byteAt 2 (some .int), .fieldLink RX10 95 "LineCitesModel" "taped" "I", .fieldLink RX10 109 "LineCitesModel" "value" "I", .fieldLink RX10 120 "LineCitesModel" "token" "I"] ++ wsX100)
set_option maxRecDepth 20000 in
theorem g_X10_reads_X10_byteAt : GoodIn w_X10_reads (wsV RX10 105 RX10 yX10_byteAt w_X10_byteAt) := goodIn_r _ [3, 4, 5, 6, 7, 8, 11, 12, 13, 14, 15, 16, 17, 18, 19, 20, 21, 22, 23, 24, 25, 26, 27, 28, 29, 30, 31, 32, 33, 34, 35] rfl (by decide +kernel)
set_option maxHeartbeats 4000000 in
set_option maxRecDepth 100000 in
theorem c_X10_reads (l : Launch) (D : va_G) (h0 : Nat) (m_now : Nat) (m_draft : Nat) (m_past : Nat) (m_images : Nat) (m_kept : Nat) (m_tape : Nat) (m_low : Nat) (m_high : Nat) (m_first : Nat) (m_second : Nat) (m_lines : Nat) (m_others : Nat) (sz : Nat) : Met l yX10_reads w_X10_reads ({ frames := 1, cells := 0, slots := 0, locals := 21 }) (va_Pc [.ref h0] (fun U => U.heap.size = sz ∧ va_P D vwCl [(h0, .inr (10, [.ref m_now, .ref m_draft, .ref m_past, .int 0, .ref m_images, .ref m_kept, .ref m_tape, .int 0, .int 0, .int 0, .int 0, .int 0, .int 0, .int 0, .int 0, .ref m_low, .ref m_high, .ref m_first, .ref m_second, .ref m_lines, .ref m_others, .int 0, .int 0, .int 0, .int 0]))] U.heap ∧ va_K D vwCl [] U ∧ va_D (fun _ => True) [(h0, .inr (10, [.ref m_now, .ref m_draft, .ref m_past, .int 0, .ref m_images, .ref m_kept, .ref m_tape, .int 0, .int 0, .int 0, .int 0, .int 0, .int 0, .int 0, .int 0, .ref m_low, .ref m_high, .ref m_first, .ref m_second, .ref m_lines, .ref m_others, .int 0, .int 0, .int 0, .int 0]))])) (va_Qv (fun (_ : Unit) => True) (fun (_ : Unit) t => va_P D vwCl [(h0, .inr (10, [.ref m_now, .ref m_draft, .ref m_past, .int 0, .ref m_images, .ref m_kept, .ref m_tape, .int 0, .int 0, .int 0, .int 0, .int (-1), .int 0, .int 0, .int 0, .ref m_low, .ref m_high, .ref m_first, .ref m_second, .ref m_lines, .ref m_others, .int 0, .int 0, .int 0, .int 0]))] t.heap ∧ va_K D vwCl [] t ∧ va_D (va_A [(h0, .inr (10, [.ref m_now, .ref m_draft, .ref m_past, .int 0, .ref m_images, .ref m_kept, .ref m_tape, .int 0, .int 0, .int 0, .int 0, .int 0, .int 0, .int 0, .int 0, .ref m_low, .ref m_high, .ref m_first, .ref m_second, .ref m_lines, .ref m_others, .int 0, .int 0, .int 0, .int 0]))] sz) [(h0, .inr (10, [.ref m_now, .ref m_draft, .ref m_past, .int 0, .ref m_images, .ref m_kept, .ref m_tape, .int 0, .int 0, .int 0, .int 0, .int (-1), .int 0, .int 0, .int 0, .ref m_low, .ref m_high, .ref m_first, .ref m_second, .ref m_lines, .ref m_others, .int 0, .int 0, .int 0, .int 0]))]) (va_A [(h0, .inr (10, [.ref m_now, .ref m_draft, .ref m_past, .int 0, .ref m_images, .ref m_kept, .ref m_tape, .int 0, .int 0, .int 0, .int 0, .int 0, .int 0, .int 0, .int 0, .ref m_low, .ref m_high, .ref m_first, .ref m_second, .ref m_lines, .ref m_others, .int 0, .int 0, .int 0, .int 0]))] sz)) 0 0 (va_A [(h0, .inr (10, [.ref m_now, .ref m_draft, .ref m_past, .int 0, .ref m_images, .ref m_kept, .ref m_tape, .int 0, .int 0, .int 0, .int 0, .int 0, .int 0, .int 0, .int 0, .ref m_low, .ref m_high, .ref m_first, .ref m_second, .ref m_lines, .ref m_others, .int 0, .int 0, .int 0, .int 0]))] sz) := by
  refine Met.ofW (cc := cX10_reads) (maxL := 2) (ret := none) (by decide) rfl ?_
  intro p e s m args below meth c s₁ B hml hv
  obtain ⟨rfl, hsz, hP, hK, hD0⟩ := hv
  have hx := B.exec
  have hb := B.bytes
  have hr := B.returns
  have hts := atoms_spec (ws := w_X10_reads) B.pre
  have hown : s.vm.findClass RX10 = some m.cls := findClass_of_methodNamed B.named
  have hlocks := B.notSynchronized
  subst hsz
  have hD := hD0.self (sz := s.heap.size)
  generalize hAe : va_A [(h0, .inr (10, [.ref m_now, .ref m_draft, .ref m_past, .int 0, .ref m_images, .ref m_kept, .ref m_tape, .int 0, .int 0, .int 0, .int 0, .int 0, .int 0, .int 0, .int 0, .ref m_low, .ref m_high, .ref m_first, .ref m_second, .ref m_lines, .ref m_others, .int 0, .int 0, .int 0, .int 0]))] s.heap.size = A at hD ⊢
  have hA : ∀ q : Nat, s.heap.size ≤ q → A q := fun q h => by rw [← hAe]; exact Or.inr h
  have hS : va_S A s.heap s.heap [] := va_S.rf
  have hP : va_P D vwCl [(h0, .inr (10, [.ref m_now, .ref m_draft, .ref m_past, .int 0, .ref m_images, .ref m_kept, .ref m_tape, .int 0, .int 0, .int 0, .int 0, .int 0, .int 0, .int 0, .int 0, .ref m_low, .ref m_high, .ref m_first, .ref m_second, .ref m_lines, .ref m_others, .int 0, .int 0, .int 0, .int 0]))] s.heap := hP
  have hl := lv_entry ([.ref h0]) (n := 2) (Nat.le_of_ble_eq_true rfl)
  rw [lg_entry_eq]
  generalize (lg_sl ([.ref h0]) ++ List.replicate (2 - (lg_sl ([.ref h0])).length) Slot.unset).toArray = ls at hl ⊢
  have hl : lv_has ls 2 [(0, .ref h0)] := hl
  obtain ⟨H, hHe⟩ : ∃ H : Heap, H = s.heap := ⟨_, rfl⟩
  rw [← hHe] at hP
  have hS : va_S A s.heap H [] := by rw [hHe]; exact hS
  refine pw_heap hHe ?_
  refine lv_aload_n hx hb dX10_reads_0 rfl (lv_at hl 0 rfl) ?_
  refine lv_aload_n hx hb dX10_reads_1 rfl (lv_at hl 0 rfl) ?_
  refine va_get (D := D) (ci := 10) (v := .int 0) (C := RX10) (T := TX10) (N := 25) hx hb hts (fun _ h => List.mem_cons_of_mem _ (List.mem_append_right _ h)) hown hK hP 0 rfl rfl 8 (by decide) (hts (.fieldLink RX10 99 "LineCitesModel" "at" "I") (List.mem_of_getElem? (i := 1) rfl)) (fun _ h9 => h9) rfl dX10_reads_2 ?_
  refine va_put (D := D) (ci := 10) (v := .int 0) (ty := .int) (C := RX10) (T := TX10) (N := 25) hx hb hts (fun _ h => List.mem_cons_of_mem _ (List.mem_append_right _ h)) tyX10 tyX10_ok nmX10 hown hK hP hD hS 0 rfl rfl 9 (by decide) (hts (.fieldLink RX10 102 "LineCitesModel" "start" "I") (List.mem_of_getElem? (i := 2) rfl)) (fun _ h9 => h9) rfl (by decide +kernel) rfl rfl (Nat.le_of_ble_eq_true rfl) dX10_reads_5 (fun H locs hP hD hS => ?_)
  have hP : va_P D vwCl [(h0, .inr (10, [.ref m_now, .ref m_draft, .ref m_past, .int 0, .ref m_images, .ref m_kept, .ref m_tape, .int 0, .int 0, .int 0, .int 0, .int 0, .int 0, .int 0, .int 0, .ref m_low, .ref m_high, .ref m_first, .ref m_second, .ref m_lines, .ref m_others, .int 0, .int 0, .int 0, .int 0]))] H := hP
  have hD : va_D A [(h0, .inr (10, [.ref m_now, .ref m_draft, .ref m_past, .int 0, .ref m_images, .ref m_kept, .ref m_tape, .int 0, .int 0, .int 0, .int 0, .int 0, .int 0, .int 0, .int 0, .ref m_low, .ref m_high, .ref m_first, .ref m_second, .ref m_lines, .ref m_others, .int 0, .int 0, .int 0, .int 0]))] := hD
  have hK : va_K D vwCl [] s := hK
  refine lv_aload_n hx hb dX10_reads_8 rfl (lv_at hl 0 rfl) ?_
  refine lv_aload_n hx hb dX10_reads_9 rfl (lv_at hl 0 rfl) ?_
  refine va_get (D := D) (ci := 10) (v := .int 0) (C := RX10) (T := TX10) (N := 25) hx hb hts (fun _ h => List.mem_cons_of_mem _ (List.mem_append_right _ h)) hown hK hP 0 rfl rfl 8 (by decide) (hts (.fieldLink RX10 99 "LineCitesModel" "at" "I") (List.mem_of_getElem? (i := 1) rfl)) (fun _ h9 => h9) rfl dX10_reads_10 ?_
  have hPc := hP.sub (ws' := [(h0, .inr (10, [.ref m_now, .ref m_draft, .ref m_past, .int 0, .ref m_images, .ref m_kept, .ref m_tape, .int 0, .int 0, .int 0, .int 0, .int 0, .int 0, .int 0, .int 0, .ref m_low, .ref m_high, .ref m_first, .ref m_second, .ref m_lines, .ref m_others, .int 0, .int 0, .int 0, .int 0]))]) [0] rfl
  have hKc := hK.sub (tys' := []) [] rfl
  refine va_calli (va_runV (As := [.int 0]) (rest := []) ⟨hx, hb, hml, hown, hts⟩ (c_X10_byteAt l D h0 m_now m_draft m_past m_images m_kept m_tape m_low m_high m_first m_second m_lines m_others) (cwV 1 hts g_X10_reads_X10_byteAt rfl rfl rfl (by decide +kernel) ⟨Nat.le_of_ble_eq_true rfl, Nat.le_of_ble_eq_true rfl⟩) ⟨fun a U g mk q => by obtain ⟨q0, qP, qK⟩ := q; exact ⟨q0, qP, va_K.moved (u := U) (U := U.calling g mk a) (Vm.Alike.refl U.vm) qK⟩, va_recv hKc hPc (ci := 10) (q0 := 0) rfl rfl, fun U hU hW => ⟨rfl, by rw [hU]; exact hPc, va_K.moved hW.alike hKc⟩⟩ rfl rfl hl.1 rfl (lv_room (Nat.le_of_ble_eq_true rfl)) dX10_reads_13 ⟨Nat.le_of_ble_eq_true rfl, Nat.le_of_ble_eq_true rfl⟩) hS (fun _ _ h => h.elim) (fun _ h => h.elim) (fun r1 u t H1 locs ht hvm hw hB hz1 hk1 hS => ?_)
  have hP := pw_keep hP (fun q hq => hk1 q hq (fun h => h))
  generalize H1 = H at hP hS ⊢
  refine W.widen (k := 0) (n := 0) (Nat.le_of_ble_eq_true rfl) (Nat.le_of_ble_eq_true rfl) ?_
  obtain rfl : r1 = (-1) := hw
  refine lv_istore_n (lv' := [(1, .int (-1)), (0, .ref h0)]) hx hb dX10_reads_16 rfl hl (by decide) rfl (fun ls hl => ?_)
  refine lv_aload_n hx hb dX10_reads_17 rfl (lv_at hl 1 rfl) ?_
  refine lv_iload_n hx hb dX10_reads_18 rfl (lv_at hl 0 rfl) ?_
  refine va_put (D := D) (ci := 10) (v := .int (-1)) (ty := .int) (C := RX10) (T := TX10) (N := 25) hx hb hts (fun _ h => List.mem_cons_of_mem _ (List.mem_append_right _ h)) tyX10 tyX10_ok nmX10 hown hK hP hD hS 0 rfl rfl 11 (by decide) (hts (.fieldLink RX10 109 "LineCitesModel" "value" "I") (List.mem_of_getElem? (i := 9) rfl)) (fun _ h9 => h9) rfl (by decide +kernel) rfl rfl (Nat.le_of_ble_eq_true rfl) dX10_reads_19 (fun H locs hP hD hS => ?_)
  have hP : va_P D vwCl [(h0, .inr (10, [.ref m_now, .ref m_draft, .ref m_past, .int 0, .ref m_images, .ref m_kept, .ref m_tape, .int 0, .int 0, .int 0, .int 0, .int (-1), .int 0, .int 0, .int 0, .ref m_low, .ref m_high, .ref m_first, .ref m_second, .ref m_lines, .ref m_others, .int 0, .int 0, .int 0, .int 0]))] H := hP
  have hD : va_D A [(h0, .inr (10, [.ref m_now, .ref m_draft, .ref m_past, .int 0, .ref m_images, .ref m_kept, .ref m_tape, .int 0, .int 0, .int 0, .int 0, .int (-1), .int 0, .int 0, .int 0, .ref m_low, .ref m_high, .ref m_first, .ref m_second, .ref m_lines, .ref m_others, .int 0, .int 0, .int 0, .int 0]))] := hD
  have hK : va_K D vwCl [] s := hK
  refine lv_aload_n hx hb dX10_reads_22 rfl (lv_at hl 1 rfl) ?_
  refine lv_dup hx hb dX10_reads_23 rfl ?_
  refine va_get (D := D) (ci := 10) (v := .int 0) (C := RX10) (T := TX10) (N := 25) hx hb hts (fun _ h => List.mem_cons_of_mem _ (List.mem_append_right _ h)) hown hK hP 0 rfl rfl 8 (by decide) (hts (.fieldLink RX10 99 "LineCitesModel" "at" "I") (List.mem_of_getElem? (i := 1) rfl)) (fun _ h9 => h9) rfl dX10_reads_24 ?_
  refine lv_iload_n hx hb dX10_reads_27 rfl (lv_at hl 0 rfl) ?_
  refine lv_if_ge (tgt := 35) hx hb dX10_reads_28 (by decide) (fun c2 => absurd c2 (by decide)) (fun c2 => ?_)
  refine lv_iconst (v := 0) hx hb dX10_reads_31 (by decide) ?_
  refine lv_goto (tgt := 36) hx hb dX10_reads_32 (by decide) ?_
  refine lv_iadd hx hb dX10_reads_36 ?_
  refine lv_topi (fun x3 ex3 => ?_)
  obtain rfl : x3 = 0 := ex3.trans (by decide)
  refine va_put (D := D) (ci := 10) (v := .int 0) (ty := .int) (C := RX10) (T := TX10) (N := 25) hx hb hts (fun _ h => List.mem_cons_of_mem _ (List.mem_append_right _ h)) tyX10 tyX10_ok nmX10 hown hK hP hD hS 0 rfl rfl 8 (by decide) (hts (.fieldLink RX10 99 "LineCitesModel" "at" "I") (List.mem_of_getElem? (i := 1) rfl)) (fun _ h9 => h9) rfl (by decide +kernel) rfl rfl (Nat.le_of_ble_eq_true rfl) dX10_reads_37 (fun H locs hP hD hS => ?_)
  have hP : va_P D vwCl [(h0, .inr (10, [.ref m_now, .ref m_draft, .ref m_past, .int 0, .ref m_images, .ref m_kept, .ref m_tape, .int 0, .int 0, .int 0, .int 0, .int (-1), .int 0, .int 0, .int 0, .ref m_low, .ref m_high, .ref m_first, .ref m_second, .ref m_lines, .ref m_others, .int 0, .int 0, .int 0, .int 0]))] H := hP
  have hD : va_D A [(h0, .inr (10, [.ref m_now, .ref m_draft, .ref m_past, .int 0, .ref m_images, .ref m_kept, .ref m_tape, .int 0, .int 0, .int 0, .int 0, .int (-1), .int 0, .int 0, .int 0, .ref m_low, .ref m_high, .ref m_first, .ref m_second, .ref m_lines, .ref m_others, .int 0, .int 0, .int 0, .int 0]))] := hD
  have hK : va_K D vwCl [] s := hK
  refine lv_aload_n hx hb dX10_reads_40 rfl (lv_at hl 1 rfl) ?_
  refine lv_iload_n hx hb dX10_reads_41 rfl (lv_at hl 0 rfl) ?_
  refine lv_if_ge (tgt := 49) hx hb dX10_reads_42 (by decide) (fun c4 => absurd c4 (by decide)) (fun c4 => ?_)
  refine lv_iconst (v := 0) hx hb dX10_reads_45 (by decide) ?_
  refine lv_goto (tgt := 102) hx hb dX10_reads_46 (by decide) ?_
  refine va_put (D := D) (ci := 10) (v := .int 0) (ty := .int) (C := RX10) (T := TX10) (N := 25) hx hb hts (fun _ h => List.mem_cons_of_mem _ (List.mem_append_right _ h)) tyX10 tyX10_ok nmX10 hown hK hP hD hS 0 rfl rfl 10 (by decide) (hts (.fieldLink RX10 120 "LineCitesModel" "token" "I") (List.mem_of_getElem? (i := 10) rfl)) (fun _ h9 => h9) rfl (by decide +kernel) rfl rfl (Nat.le_of_ble_eq_true rfl) dX10_reads_102 (fun H locs hP hD hS => ?_)
  have hP : va_P D vwCl [(h0, .inr (10, [.ref m_now, .ref m_draft, .ref m_past, .int 0, .ref m_images, .ref m_kept, .ref m_tape, .int 0, .int 0, .int 0, .int 0, .int (-1), .int 0, .int 0, .int 0, .ref m_low, .ref m_high, .ref m_first, .ref m_second, .ref m_lines, .ref m_others, .int 0, .int 0, .int 0, .int 0]))] H := hP
  have hD : va_D A [(h0, .inr (10, [.ref m_now, .ref m_draft, .ref m_past, .int 0, .ref m_images, .ref m_kept, .ref m_tape, .int 0, .int 0, .int 0, .int 0, .int (-1), .int 0, .int 0, .int 0, .ref m_low, .ref m_high, .ref m_first, .ref m_second, .ref m_lines, .ref m_others, .int 0, .int 0, .int 0, .int 0]))] := hD
  have hK : va_K D vwCl [] s := hK
  refine lv_aload_n hx hb dX10_reads_105 rfl (lv_at hl 1 rfl) ?_
  refine va_get (D := D) (ci := 10) (v := .int 0) (C := RX10) (T := TX10) (N := 25) hx hb hts (fun _ h => List.mem_cons_of_mem _ (List.mem_append_right _ h)) hown hK hP 0 rfl rfl 10 (by decide) (hts (.fieldLink RX10 120 "LineCitesModel" "token" "I") (List.mem_of_getElem? (i := 10) rfl)) (fun _ h9 => h9) rfl dX10_reads_106 ?_
  refine lv_iconst (v := 2) hx hb dX10_reads_109 (by decide) ?_
  refine lv_icmp_ne (tgt := 220) hx hb dX10_reads_110 (by decide) (fun c5 => ?_) (fun c5 => absurd c5 (by decide))
  have hP9 := hP.sub (ws' := [(h0, .inr (10, [.ref m_now, .ref m_draft, .ref m_past, .int 0, .ref m_images, .ref m_kept, .ref m_tape, .int 0, .int 0, .int 0, .int 0, .int (-1), .int 0, .int 0, .int 0, .ref m_low, .ref m_high, .ref m_first, .ref m_second, .ref m_lines, .ref m_others, .int 0, .int 0, .int 0, .int 0]))]) [0] rfl
  have hD9 := hD.sub (ws' := [(h0, .inr (10, [.ref m_now, .ref m_draft, .ref m_past, .int 0, .ref m_images, .ref m_kept, .ref m_tape, .int 0, .int 0, .int 0, .int 0, .int (-1), .int 0, .int 0, .int 0, .ref m_low, .ref m_high, .ref m_first, .ref m_second, .ref m_lines, .ref m_others, .int 0, .int 0, .int 0, .int 0]))]) [0] (by decide) rfl
  have hK9 := hK.sub (tys' := []) [] rfl
  refine W.widen (k := 0) (n := 0) (Nat.le_of_ble_eq_true rfl) (Nat.le_of_ble_eq_true rfl) ?_
  exact W.vret hx hb hr (fun t ht hW => ⟨⟨(), rfl, trivial, by rw [ht]; exact hP9, va_K.moved hW.alike hK9, hD9⟩, hS.F ht⟩) hS.2.2 dX10_reads_220
def w_X10_isLetter__0 : List Cond := .code yX10_isLetter cX10_isLetter 2 (some .boolean) :: ([.fieldLink RX10 123 "LineCitesModel" "fault" "I", .fieldLink RX10 120 "LineCitesModel" "token" "I"] ++ wsX100)
set_option maxHeartbeats 4000000 in
set_option maxRecDepth 100000 in
theorem c_X10_isLetter__0 (l : Launch) (D : va_G) (h0 : Nat) (i_c : Int32) (m_now : Nat) (m_draft : Nat) (m_past : Nat) (m_images : Nat) (m_kept : Nat) (m_tape : Nat) (m_low : Nat) (m_high : Nat) (m_first : Nat) (m_second : Nat) (m_lines : Nat) (m_others : Nat) : Met l yX10_isLetter w_X10_isLetter__0 ({ frames := 0, cells := 0, slots := 0, locals := 0 }) (va_Pc [.ref h0, .int i_c] (fun U => va_P D vwCl [(h0, .inr (10, [.ref m_now, .ref m_draft, .ref m_past, .int 0, .ref m_images, .ref m_kept, .ref m_tape, .int 0, .int 0, .int 0, .int 0, .int (-1), .int 0, .int 0, .int 0, .ref m_low, .ref m_high, .ref m_first, .ref m_second, .ref m_lines, .ref m_others, .int 0, .int 0, .int 0, .int 0]))] U.heap ∧ va_K D vwCl [] U)) (va_Qi (fun (r : Int32) (_ : Unit) => r = 0) (fun _ _ => True) (fun _ => False)) 0 0 (fun _ => False) := by
  refine Met.ofW (cc := cX10_isLetter) (maxL := 2) (ret := (some .boolean)) (by decide) rfl ?_
  intro p e s m args below meth c s₁ B hml hv
  obtain ⟨rfl, hP, hK⟩ := hv
  have hx := B.exec
  have hb := B.bytes
  have hr := B.returns
  have hts := atoms_spec (ws := w_X10_isLetter__0) B.pre
  have hown : s.vm.findClass RX10 = some m.cls := findClass_of_methodNamed B.named
  have hlocks := B.notSynchronized
  have hS : va_S (fun _ : Nat => False) s.heap s.heap [] := va_S.rf
  have hP : va_P D vwCl [(h0, .inr (10, [.ref m_now, .ref m_draft, .ref m_past, .int 0, .ref m_images, .ref m_kept, .ref m_tape, .int 0, .int 0, .int 0, .int 0, .int (-1), .int 0, .int 0, .int 0, .ref m_low, .ref m_high, .ref m_first, .ref m_second, .ref m_lines, .ref m_others, .int 0, .int 0, .int 0, .int 0]))] s.heap := hP
  have hl := lv_entry ([.ref h0, .int i_c]) (n := 2) (Nat.le_of_ble_eq_true rfl)
  rw [lg_entry_eq]
  generalize (lg_sl ([.ref h0, .int i_c]) ++ List.replicate (2 - (lg_sl ([.ref h0, .int i_c])).length) Slot.unset).toArray = ls at hl ⊢
  have hl : lv_has ls 2 [(0, .ref h0), (1, .int i_c)] := hl
  obtain ⟨H, hHe⟩ : ∃ H : Heap, H = s.heap := ⟨_, rfl⟩
  rw [← hHe] at hP
  have hS : va_S (fun _ : Nat => False) s.heap H [] := by rw [hHe]; exact hS
  refine pw_heap hHe ?_
  refine lv_aload_n hx hb dX10_isLetter_0 rfl (lv_at hl 0 rfl) ?_
  refine va_get (D := D) (ci := 10) (v := .int 0) (C := RX10) (T := TX10) (N := 25) hx hb hts (fun _ h => List.mem_cons_of_mem _ (List.mem_append_right _ h)) hown hK hP 0 rfl rfl 12 (by decide) (hts (.fieldLink RX10 123 "LineCitesModel" "fault" "I") (List.mem_of_getElem? (i := 1) rfl)) (fun _ h9 => h9) rfl dX10_isLetter_1 ?_
  refine lv_if_ne (tgt := 27) hx hb dX10_isLetter_4 (by decide) (fun c1 => absurd (by decide) c1) (fun c1 => ?_)
  refine lv_aload_n hx hb dX10_isLetter_7 rfl (lv_at hl 0 rfl) ?_
  refine va_get (D := D) (ci := 10) (v := .int 0) (C := RX10) (T := TX10) (N := 25) hx hb hts (fun _ h => List.mem_cons_of_mem _ (List.mem_append_right _ h)) hown hK hP 0 rfl rfl 10 (by decide) (hts (.fieldLink RX10 120 "LineCitesModel" "token" "I") (List.mem_of_getElem? (i := 2) rfl)) (fun _ h9 => h9) rfl dX10_isLetter_8 ?_
  refine lv_iconst (v := 1) hx hb dX10_isLetter_11 (by decide) ?_
  refine lv_icmp_ne (tgt := 27) hx hb dX10_isLetter_12 (by decide) (fun c2 => ?_) (fun c2 => absurd c2 (by decide))
  refine lv_iconst (v := 0) hx hb dX10_isLetter_27 (by decide) ?_
  exact W.zret (v := 0) (ty := .boolean) hx hb hr rfl (fun t ht hW => ⟨⟨0, (), rfl, rfl, trivial⟩, hS.F ht⟩) hS.2.2 dX10_isLetter_28
def w_X10_isLetter__1 : List Cond := .code yX10_isLetter cX10_isLetter 2 (some .boolean) :: ([.fieldLink RX10 123 "LineCitesModel" "fault" "I"] ++ wsX100)
set_option maxHeartbeats 4000000 in
set_option maxRecDepth 100000 in
theorem c_X10_isLetter__1 (l : Launch) (D : va_G) (h0 : Nat) (i_c : Int32) (m_now : Nat) (m_draft : Nat) (m_past : Nat) (m_images : Nat) (m_kept : Nat) (m_tape : Nat) (m_low : Nat) (m_high : Nat) (m_first : Nat) (m_second : Nat) (m_lines : Nat) (m_others : Nat) : Met l yX10_isLetter w_X10_isLetter__1 ({ frames := 0, cells := 0, slots := 0, locals := 0 }) (va_Pc [.ref h0, .int i_c] (fun U => va_P D vwCl [(h0, .inr (10, [.ref m_now, .ref m_draft, .ref m_past, .int 0, .ref m_images, .ref m_kept, .ref m_tape, .int 0, .int 0, .int 0, .int 0, .int (-1), .int 1, .int 0, .int 0, .ref m_low, .ref m_high, .ref m_first, .ref m_second, .ref m_lines, .ref m_others, .int 0, .int 0, .int 0, .int 0]))] U.heap ∧ va_K D vwCl [] U)) (va_Qi (fun (r : Int32) (_ : Unit) => r = 0) (fun _ _ => True) (fun _ => False)) 0 0 (fun _ => False) := by
  refine Met.ofW (cc := cX10_isLetter) (maxL := 2) (ret := (some .boolean)) (by decide) rfl ?_
  intro p e s m args below meth c s₁ B hml hv
  obtain ⟨rfl, hP, hK⟩ := hv
  have hx := B.exec
  have hb := B.bytes
  have hr := B.returns
  have hts := atoms_spec (ws := w_X10_isLetter__1) B.pre
  have hown : s.vm.findClass RX10 = some m.cls := findClass_of_methodNamed B.named
  have hlocks := B.notSynchronized
  have hS : va_S (fun _ : Nat => False) s.heap s.heap [] := va_S.rf
  have hP : va_P D vwCl [(h0, .inr (10, [.ref m_now, .ref m_draft, .ref m_past, .int 0, .ref m_images, .ref m_kept, .ref m_tape, .int 0, .int 0, .int 0, .int 0, .int (-1), .int 1, .int 0, .int 0, .ref m_low, .ref m_high, .ref m_first, .ref m_second, .ref m_lines, .ref m_others, .int 0, .int 0, .int 0, .int 0]))] s.heap := hP
  have hl := lv_entry ([.ref h0, .int i_c]) (n := 2) (Nat.le_of_ble_eq_true rfl)
  rw [lg_entry_eq]
  generalize (lg_sl ([.ref h0, .int i_c]) ++ List.replicate (2 - (lg_sl ([.ref h0, .int i_c])).length) Slot.unset).toArray = ls at hl ⊢
  have hl : lv_has ls 2 [(0, .ref h0), (1, .int i_c)] := hl
  obtain ⟨H, hHe⟩ : ∃ H : Heap, H = s.heap := ⟨_, rfl⟩
  rw [← hHe] at hP
  have hS : va_S (fun _ : Nat => False) s.heap H [] := by rw [hHe]; exact hS
  refine pw_heap hHe ?_
  refine lv_aload_n hx hb dX10_isLetter_0 rfl (lv_at hl 0 rfl) ?_
  refine va_get (D := D) (ci := 10) (v := .int 1) (C := RX10) (T := TX10) (N := 25) hx hb hts (fun _ h => List.mem_cons_of_mem _ (List.mem_append_right _ h)) hown hK hP 0 rfl rfl 12 (by decide) (hts (.fieldLink RX10 123 "LineCitesModel" "fault" "I") (List.mem_of_getElem? (i := 1) rfl)) (fun _ h9 => h9) rfl dX10_isLetter_1 ?_
  refine lv_if_ne (tgt := 27) hx hb dX10_isLetter_4 (by decide) (fun c1 => ?_) (fun c1 => absurd c1 (by decide))
  refine lv_iconst (v := 0) hx hb dX10_isLetter_27 (by decide) ?_
  exact W.zret (v := 0) (ty := .boolean) hx hb hr rfl (fun t ht hW => ⟨⟨0, (), rfl, rfl, trivial⟩, hS.F ht⟩) hS.2.2 dX10_isLetter_28
def w_X10_bad__0 : List Cond := .code yX10_bad cX10_bad 2 none :: ([.fieldLink RX10 123 "LineCitesModel" "fault" "I", .fieldLink RX10 102 "LineCitesModel" "start" "I", .fieldLink RX10 126 "LineCitesModel" "place" "I"] ++ wsX100)
set_option maxHeartbeats 4000000 in
set_option maxRecDepth 100000 in
theorem c_X10_bad__0 (l : Launch) (D : va_G) (h0 : Nat) (m_now : Nat) (m_draft : Nat) (m_past : Nat) (m_images : Nat) (m_kept : Nat) (m_tape : Nat) (m_low : Nat) (m_high : Nat) (m_first : Nat) (m_second : Nat) (m_lines : Nat) (m_others : Nat) (sz : Nat) : Met l yX10_bad w_X10_bad__0 ({ frames := 0, cells := 0, slots := 0, locals := 0 }) (va_Pc [.ref h0, .int 1] (fun U => U.heap.size = sz ∧ va_P D vwCl [(h0, .inr (10, [.ref m_now, .ref m_draft, .ref m_past, .int 0, .ref m_images, .ref m_kept, .ref m_tape, .int 0, .int 0, .int 0, .int 0, .int (-1), .int 0, .int 0, .int 0, .ref m_low, .ref m_high, .ref m_first, .ref m_second, .ref m_lines, .ref m_others, .int 0, .int 0, .int 0, .int 0]))] U.heap ∧ va_K D vwCl [] U ∧ va_D (fun _ => True) [(h0, .inr (10, [.ref m_now, .ref m_draft, .ref m_past, .int 0, .ref m_images, .ref m_kept, .ref m_tape, .int 0, .int 0, .int 0, .int 0, .int (-1), .int 0, .int 0, .int 0, .ref m_low, .ref m_high, .ref m_first, .ref m_second, .ref m_lines, .ref m_others, .int 0, .int 0, .int 0, .int 0]))])) (va_Qv (fun (_ : Unit) => True) (fun (_ : Unit) t => va_P D vwCl [(h0, .inr (10, [.ref m_now, .ref m_draft, .ref m_past, .int 0, .ref m_images, .ref m_kept, .ref m_tape, .int 0, .int 0, .int 0, .int 0, .int (-1), .int 1, .int 0, .int 0, .ref m_low, .ref m_high, .ref m_first, .ref m_second, .ref m_lines, .ref m_others, .int 0, .int 0, .int 0, .int 0]))] t.heap ∧ va_K D vwCl [] t ∧ va_D (va_A [(h0, .inr (10, [.ref m_now, .ref m_draft, .ref m_past, .int 0, .ref m_images, .ref m_kept, .ref m_tape, .int 0, .int 0, .int 0, .int 0, .int (-1), .int 0, .int 0, .int 0, .ref m_low, .ref m_high, .ref m_first, .ref m_second, .ref m_lines, .ref m_others, .int 0, .int 0, .int 0, .int 0]))] sz) [(h0, .inr (10, [.ref m_now, .ref m_draft, .ref m_past, .int 0, .ref m_images, .ref m_kept, .ref m_tape, .int 0, .int 0, .int 0, .int 0, .int (-1), .int 1, .int 0, .int 0, .ref m_low, .ref m_high, .ref m_first, .ref m_second, .ref m_lines, .ref m_others, .int 0, .int 0, .int 0, .int 0]))]) (va_A [(h0, .inr (10, [.ref m_now, .ref m_draft, .ref m_past, .int 0, .ref m_images, .ref m_kept, .ref m_tape, .int 0, .int 0, .int 0, .int 0, .int (-1), .int 0, .int 0, .int 0, .ref m_low, .ref m_high, .ref m_first, .ref m_second, .ref m_lines, .ref m_others, .int 0, .int 0, .int 0, .int 0]))] sz)) 0 0 (va_A [(h0, .inr (10, [.ref m_now, .ref m_draft, .ref m_past, .int 0, .ref m_images, .ref m_kept, .ref m_tape, .int 0, .int 0, .int 0, .int 0, .int (-1), .int 0, .int 0, .int 0, .ref m_low, .ref m_high, .ref m_first, .ref m_second, .ref m_lines, .ref m_others, .int 0, .int 0, .int 0, .int 0]))] sz) := by
  refine Met.ofW (cc := cX10_bad) (maxL := 2) (ret := none) (by decide) rfl ?_
  intro p e s m args below meth c s₁ B hml hv
  obtain ⟨rfl, hsz, hP, hK, hD0⟩ := hv
  have hx := B.exec
  have hb := B.bytes
  have hr := B.returns
  have hts := atoms_spec (ws := w_X10_bad__0) B.pre
  have hown : s.vm.findClass RX10 = some m.cls := findClass_of_methodNamed B.named
  have hlocks := B.notSynchronized
  subst hsz
  have hD := hD0.self (sz := s.heap.size)
  generalize hAe : va_A [(h0, .inr (10, [.ref m_now, .ref m_draft, .ref m_past, .int 0, .ref m_images, .ref m_kept, .ref m_tape, .int 0, .int 0, .int 0, .int 0, .int (-1), .int 0, .int 0, .int 0, .ref m_low, .ref m_high, .ref m_first, .ref m_second, .ref m_lines, .ref m_others, .int 0, .int 0, .int 0, .int 0]))] s.heap.size = A at hD ⊢
  have hA : ∀ q : Nat, s.heap.size ≤ q → A q := fun q h => by rw [← hAe]; exact Or.inr h
  have hS : va_S A s.heap s.heap [] := va_S.rf
  have hP : va_P D vwCl [(h0, .inr (10, [.ref m_now, .ref m_draft, .ref m_past, .int 0, .ref m_images, .ref m_kept, .ref m_tape, .int 0, .int 0, .int 0, .int 0, .int (-1), .int 0, .int 0, .int 0, .ref m_low, .ref m_high, .ref m_first, .ref m_second, .ref m_lines, .ref m_others, .int 0, .int 0, .int 0, .int 0]))] s.heap := hP
  have hl := lv_entry ([.ref h0, .int 1]) (n := 2) (Nat.le_of_ble_eq_true rfl)
  rw [lg_entry_eq]
  generalize (lg_sl ([.ref h0, .int 1]) ++ List.replicate (2 - (lg_sl ([.ref h0, .int 1])).length) Slot.unset).toArray = ls at hl ⊢
  have hl : lv_has ls 2 [(0, .ref h0), (1, .int 1)] := hl
  obtain ⟨H, hHe⟩ : ∃ H : Heap, H = s.heap := ⟨_, rfl⟩
  rw [← hHe] at hP
  have hS : va_S A s.heap H [] := by rw [hHe]; exact hS
  refine pw_heap hHe ?_
  refine lv_aload_n hx hb dX10_bad_0 rfl (lv_at hl 0 rfl) ?_
  refine va_get (D := D) (ci := 10) (v := .int 0) (C := RX10) (T := TX10) (N := 25) hx hb hts (fun _ h => List.mem_cons_of_mem _ (List.mem_append_right _ h)) hown hK hP 0 rfl rfl 12 (by decide) (hts (.fieldLink RX10 123 "LineCitesModel" "fault" "I") (List.mem_of_getElem? (i := 1) rfl)) (fun _ h9 => h9) rfl dX10_bad_1 ?_
  refine lv_if_ne (tgt := 20) hx hb dX10_bad_4 (by decide) (fun c1 => absurd (by decide) c1) (fun c1 => ?_)
  refine lv_aload_n hx hb dX10_bad_7 rfl (lv_at hl 0 rfl) ?_
  refine lv_iload_n hx hb dX10_bad_8 rfl (lv_at hl 1 rfl) ?_
  refine va_put (D := D) (ci := 10) (v := .int 1) (ty := .int) (C := RX10) (T := TX10) (N := 25) hx hb hts (fun _ h => List.mem_cons_of_mem _ (List.mem_append_right _ h)) tyX10 tyX10_ok nmX10 hown hK hP hD hS 0 rfl rfl 12 (by decide) (hts (.fieldLink RX10 123 "LineCitesModel" "fault" "I") (List.mem_of_getElem? (i := 1) rfl)) (fun _ h9 => h9) rfl (by decide +kernel) rfl rfl (Nat.le_of_ble_eq_true rfl) dX10_bad_9 (fun H locs hP hD hS => ?_)
  have hP : va_P D vwCl [(h0, .inr (10, [.ref m_now, .ref m_draft, .ref m_past, .int 0, .ref m_images, .ref m_kept, .ref m_tape, .int 0, .int 0, .int 0, .int 0, .int (-1), .int 1, .int 0, .int 0, .ref m_low, .ref m_high, .ref m_first, .ref m_second, .ref m_lines, .ref m_others, .int 0, .int 0, .int 0, .int 0]))] H := hP
  have hD : va_D A [(h0, .inr (10, [.ref m_now, .ref m_draft, .ref m_past, .int 0, .ref m_images, .ref m_kept, .ref m_tape, .int 0, .int 0, .int 0, .int 0, .int (-1), .int 1, .int 0, .int 0, .ref m_low, .ref m_high, .ref m_first, .ref m_second, .ref m_lines, .ref m_others, .int 0, .int 0, .int 0, .int 0]))] := hD
  have hK : va_K D vwCl [] s := hK
  refine lv_aload_n hx hb dX10_bad_12 rfl (lv_at hl 0 rfl) ?_
  refine lv_aload_n hx hb dX10_bad_13 rfl (lv_at hl 0 rfl) ?_
  refine va_get (D := D) (ci := 10) (v := .int 0) (C := RX10) (T := TX10) (N := 25) hx hb hts (fun _ h => List.mem_cons_of_mem _ (List.mem_append_right _ h)) hown hK hP 0 rfl rfl 9 (by decide) (hts (.fieldLink RX10 102 "LineCitesModel" "start" "I") (List.mem_of_getElem? (i := 2) rfl)) (fun _ h9 => h9) rfl dX10_bad_14 ?_
  refine va_put (D := D) (ci := 10) (v := .int 0) (ty := .int) (C := RX10) (T := TX10) (N := 25) hx hb hts (fun _ h => List.mem_cons_of_mem _ (List.mem_append_right _ h)) tyX10 tyX10_ok nmX10 hown hK hP hD hS 0 rfl rfl 13 (by decide) (hts (.fieldLink RX10 126 "LineCitesModel" "place" "I") (List.mem_of_getElem? (i := 3) rfl)) (fun _ h9 => h9) rfl (by decide +kernel) rfl rfl (Nat.le_of_ble_eq_true rfl) dX10_bad_17 (fun H locs hP hD hS => ?_)
  have hP : va_P D vwCl [(h0, .inr (10, [.ref m_now, .ref m_draft, .ref m_past, .int 0, .ref m_images, .ref m_kept, .ref m_tape, .int 0, .int 0, .int 0, .int 0, .int (-1), .int 1, .int 0, .int 0, .ref m_low, .ref m_high, .ref m_first, .ref m_second, .ref m_lines, .ref m_others, .int 0, .int 0, .int 0, .int 0]))] H := hP
  have hD : va_D A [(h0, .inr (10, [.ref m_now, .ref m_draft, .ref m_past, .int 0, .ref m_images, .ref m_kept, .ref m_tape, .int 0, .int 0, .int 0, .int 0, .int (-1), .int 1, .int 0, .int 0, .ref m_low, .ref m_high, .ref m_first, .ref m_second, .ref m_lines, .ref m_others, .int 0, .int 0, .int 0, .int 0]))] := hD
  have hK : va_K D vwCl [] s := hK
  have hP9 := hP.sub (ws' := [(h0, .inr (10, [.ref m_now, .ref m_draft, .ref m_past, .int 0, .ref m_images, .ref m_kept, .ref m_tape, .int 0, .int 0, .int 0, .int 0, .int (-1), .int 1, .int 0, .int 0, .ref m_low, .ref m_high, .ref m_first, .ref m_second, .ref m_lines, .ref m_others, .int 0, .int 0, .int 0, .int 0]))]) [0] rfl
  have hD9 := hD.sub (ws' := [(h0, .inr (10, [.ref m_now, .ref m_draft, .ref m_past, .int 0, .ref m_images, .ref m_kept, .ref m_tape, .int 0, .int 0, .int 0, .int 0, .int (-1), .int 1, .int 0, .int 0, .ref m_low, .ref m_high, .ref m_first, .ref m_second, .ref m_lines, .ref m_others, .int 0, .int 0, .int 0, .int 0]))]) [0] (by decide) rfl
  have hK9 := hK.sub (tys' := []) [] rfl
  refine W.widen (k := 0) (n := 0) (Nat.le_of_ble_eq_true rfl) (Nat.le_of_ble_eq_true rfl) ?_
  exact W.vret hx hb hr (fun t ht hW => ⟨⟨(), rfl, trivial, by rw [ht]; exact hP9, va_K.moved hW.alike hK9, hD9⟩, hS.F ht⟩) hS.2.2 dX10_bad_20
def w_X10_bad__1 : List Cond := .code yX10_bad cX10_bad 2 none :: ([.fieldLink RX10 123 "LineCitesModel" "fault" "I"] ++ wsX100)
set_option maxHeartbeats 4000000 in
set_option maxRecDepth 100000 in
theorem c_X10_bad__1 (l : Launch) (D : va_G) (h0 : Nat) (m_now : Nat) (m_draft : Nat) (m_past : Nat) (m_images : Nat) (m_kept : Nat) (m_tape : Nat) (m_low : Nat) (m_high : Nat) (m_first : Nat) (m_second : Nat) (m_lines : Nat) (m_others : Nat) (sz : Nat) : Met l yX10_bad w_X10_bad__1 ({ frames := 0, cells := 0, slots := 0, locals := 0 }) (va_Pc [.ref h0, .int 1] (fun U => U.heap.size = sz ∧ va_P D vwCl [(h0, .inr (10, [.ref m_now, .ref m_draft, .ref m_past, .int 0, .ref m_images, .ref m_kept, .ref m_tape, .int 0, .int 0, .int 0, .int 0, .int (-1), .int 1, .int 0, .int 0, .ref m_low, .ref m_high, .ref m_first, .ref m_second, .ref m_lines, .ref m_others, .int 0, .int 0, .int 0, .int 0]))] U.heap ∧ va_K D vwCl [] U ∧ va_D (fun _ => True) [(h0, .inr (10, [.ref m_now, .ref m_draft, .ref m_past, .int 0, .ref m_images, .ref m_kept, .ref m_tape, .int 0, .int 0, .int 0, .int 0, .int (-1), .int 1, .int 0, .int 0, .ref m_low, .ref m_high, .ref m_first, .ref m_second, .ref m_lines, .ref m_others, .int 0, .int 0, .int 0, .int 0]))])) (va_Qv (fun (_ : Unit) => True) (fun (_ : Unit) t => va_P D vwCl [(h0, .inr (10, [.ref m_now, .ref m_draft, .ref m_past, .int 0, .ref m_images, .ref m_kept, .ref m_tape, .int 0, .int 0, .int 0, .int 0, .int (-1), .int 1, .int 0, .int 0, .ref m_low, .ref m_high, .ref m_first, .ref m_second, .ref m_lines, .ref m_others, .int 0, .int 0, .int 0, .int 0]))] t.heap ∧ va_K D vwCl [] t ∧ va_D (va_A [(h0, .inr (10, [.ref m_now, .ref m_draft, .ref m_past, .int 0, .ref m_images, .ref m_kept, .ref m_tape, .int 0, .int 0, .int 0, .int 0, .int (-1), .int 1, .int 0, .int 0, .ref m_low, .ref m_high, .ref m_first, .ref m_second, .ref m_lines, .ref m_others, .int 0, .int 0, .int 0, .int 0]))] sz) [(h0, .inr (10, [.ref m_now, .ref m_draft, .ref m_past, .int 0, .ref m_images, .ref m_kept, .ref m_tape, .int 0, .int 0, .int 0, .int 0, .int (-1), .int 1, .int 0, .int 0, .ref m_low, .ref m_high, .ref m_first, .ref m_second, .ref m_lines, .ref m_others, .int 0, .int 0, .int 0, .int 0]))]) (va_A [(h0, .inr (10, [.ref m_now, .ref m_draft, .ref m_past, .int 0, .ref m_images, .ref m_kept, .ref m_tape, .int 0, .int 0, .int 0, .int 0, .int (-1), .int 1, .int 0, .int 0, .ref m_low, .ref m_high, .ref m_first, .ref m_second, .ref m_lines, .ref m_others, .int 0, .int 0, .int 0, .int 0]))] sz)) 0 0 (va_A [(h0, .inr (10, [.ref m_now, .ref m_draft, .ref m_past, .int 0, .ref m_images, .ref m_kept, .ref m_tape, .int 0, .int 0, .int 0, .int 0, .int (-1), .int 1, .int 0, .int 0, .ref m_low, .ref m_high, .ref m_first, .ref m_second, .ref m_lines, .ref m_others, .int 0, .int 0, .int 0, .int 0]))] sz) := by
  refine Met.ofW (cc := cX10_bad) (maxL := 2) (ret := none) (by decide) rfl ?_
  intro p e s m args below meth c s₁ B hml hv
  obtain ⟨rfl, hsz, hP, hK, hD0⟩ := hv
  have hx := B.exec
  have hb := B.bytes
  have hr := B.returns
  have hts := atoms_spec (ws := w_X10_bad__1) B.pre
  have hown : s.vm.findClass RX10 = some m.cls := findClass_of_methodNamed B.named
  have hlocks := B.notSynchronized
  subst hsz
  have hD := hD0.self (sz := s.heap.size)
  generalize hAe : va_A [(h0, .inr (10, [.ref m_now, .ref m_draft, .ref m_past, .int 0, .ref m_images, .ref m_kept, .ref m_tape, .int 0, .int 0, .int 0, .int 0, .int (-1), .int 1, .int 0, .int 0, .ref m_low, .ref m_high, .ref m_first, .ref m_second, .ref m_lines, .ref m_others, .int 0, .int 0, .int 0, .int 0]))] s.heap.size = A at hD ⊢
  have hA : ∀ q : Nat, s.heap.size ≤ q → A q := fun q h => by rw [← hAe]; exact Or.inr h
  have hS : va_S A s.heap s.heap [] := va_S.rf
  have hP : va_P D vwCl [(h0, .inr (10, [.ref m_now, .ref m_draft, .ref m_past, .int 0, .ref m_images, .ref m_kept, .ref m_tape, .int 0, .int 0, .int 0, .int 0, .int (-1), .int 1, .int 0, .int 0, .ref m_low, .ref m_high, .ref m_first, .ref m_second, .ref m_lines, .ref m_others, .int 0, .int 0, .int 0, .int 0]))] s.heap := hP
  have hl := lv_entry ([.ref h0, .int 1]) (n := 2) (Nat.le_of_ble_eq_true rfl)
  rw [lg_entry_eq]
  generalize (lg_sl ([.ref h0, .int 1]) ++ List.replicate (2 - (lg_sl ([.ref h0, .int 1])).length) Slot.unset).toArray = ls at hl ⊢
  have hl : lv_has ls 2 [(0, .ref h0), (1, .int 1)] := hl
  obtain ⟨H, hHe⟩ : ∃ H : Heap, H = s.heap := ⟨_, rfl⟩
  rw [← hHe] at hP
  have hS : va_S A s.heap H [] := by rw [hHe]; exact hS
  refine pw_heap hHe ?_
  refine lv_aload_n hx hb dX10_bad_0 rfl (lv_at hl 0 rfl) ?_
  refine va_get (D := D) (ci := 10) (v := .int 1) (C := RX10) (T := TX10) (N := 25) hx hb hts (fun _ h => List.mem_cons_of_mem _ (List.mem_append_right _ h)) hown hK hP 0 rfl rfl 12 (by decide) (hts (.fieldLink RX10 123 "LineCitesModel" "fault" "I") (List.mem_of_getElem? (i := 1) rfl)) (fun _ h9 => h9) rfl dX10_bad_1 ?_
  refine lv_if_ne (tgt := 20) hx hb dX10_bad_4 (by decide) (fun c1 => ?_) (fun c1 => absurd c1 (by decide))
  have hP9 := hP.sub (ws' := [(h0, .inr (10, [.ref m_now, .ref m_draft, .ref m_past, .int 0, .ref m_images, .ref m_kept, .ref m_tape, .int 0, .int 0, .int 0, .int 0, .int (-1), .int 1, .int 0, .int 0, .ref m_low, .ref m_high, .ref m_first, .ref m_second, .ref m_lines, .ref m_others, .int 0, .int 0, .int 0, .int 0]))]) [0] rfl
  have hD9 := hD.sub (ws' := [(h0, .inr (10, [.ref m_now, .ref m_draft, .ref m_past, .int 0, .ref m_images, .ref m_kept, .ref m_tape, .int 0, .int 0, .int 0, .int 0, .int (-1), .int 1, .int 0, .int 0, .ref m_low, .ref m_high, .ref m_first, .ref m_second, .ref m_lines, .ref m_others, .int 0, .int 0, .int 0, .int 0]))]) [0] (by decide) rfl
  have hK9 := hK.sub (tys' := []) [] rfl
  refine W.widen (k := 0) (n := 0) (Nat.le_of_ble_eq_true rfl) (Nat.le_of_ble_eq_true rfl) ?_
  exact W.vret hx hb hr (fun t ht hW => ⟨⟨(), rfl, trivial, by rw [ht]; exact hP9, va_K.moved hW.alike hK9, hD9⟩, hS.F ht⟩) hS.2.2 dX10_bad_20
def w_X10_goesOn : List Cond := .code yX10_goesOn cX10_goesOn 1 none :: ([.fieldLink RX10 123 "LineCitesModel" "fault" "I"] ++ wsX100)
set_option maxHeartbeats 4000000 in
set_option maxRecDepth 100000 in
theorem c_X10_goesOn (l : Launch) (D : va_G) (h0 : Nat) (m_now : Nat) (m_draft : Nat) (m_past : Nat) (m_images : Nat) (m_kept : Nat) (m_tape : Nat) (m_low : Nat) (m_high : Nat) (m_first : Nat) (m_second : Nat) (m_lines : Nat) (m_others : Nat) (sz : Nat) : Met l yX10_goesOn w_X10_goesOn ({ frames := 0, cells := 0, slots := 0, locals := 0 }) (va_Pc [.ref h0] (fun U => U.heap.size = sz ∧ va_P D vwCl [(h0, .inr (10, [.ref m_now, .ref m_draft, .ref m_past, .int 0, .ref m_images, .ref m_kept, .ref m_tape, .int 0, .int 0, .int 0, .int 0, .int (-1), .int 1, .int 0, .int 0, .ref m_low, .ref m_high, .ref m_first, .ref m_second, .ref m_lines, .ref m_others, .int 0, .int 0, .int 0, .int 0]))] U.heap ∧ va_K D vwCl [] U ∧ va_D (fun _ => True) [(h0, .inr (10, [.ref m_now, .ref m_draft, .ref m_past, .int 0, .ref m_images, .ref m_kept, .ref m_tape, .int 0, .int 0, .int 0, .int 0, .int (-1), .int 1, .int 0, .int 0, .ref m_low, .ref m_high, .ref m_first, .ref m_second, .ref m_lines, .ref m_others, .int 0, .int 0, .int 0, .int 0]))])) (va_Qv (fun (_ : Unit) => True) (fun (_ : Unit) t => va_P D vwCl [(h0, .inr (10, [.ref m_now, .ref m_draft, .ref m_past, .int 0, .ref m_images, .ref m_kept, .ref m_tape, .int 0, .int 0, .int 0, .int 0, .int (-1), .int 1, .int 0, .int 0, .ref m_low, .ref m_high, .ref m_first, .ref m_second, .ref m_lines, .ref m_others, .int 0, .int 0, .int 0, .int 0]))] t.heap ∧ va_K D vwCl [] t ∧ va_D (va_A [(h0, .inr (10, [.ref m_now, .ref m_draft, .ref m_past, .int 0, .ref m_images, .ref m_kept, .ref m_tape, .int 0, .int 0, .int 0, .int 0, .int (-1), .int 1, .int 0, .int 0, .ref m_low, .ref m_high, .ref m_first, .ref m_second, .ref m_lines, .ref m_others, .int 0, .int 0, .int 0, .int 0]))] sz) [(h0, .inr (10, [.ref m_now, .ref m_draft, .ref m_past, .int 0, .ref m_images, .ref m_kept, .ref m_tape, .int 0, .int 0, .int 0, .int 0, .int (-1), .int 1, .int 0, .int 0, .ref m_low, .ref m_high, .ref m_first, .ref m_second, .ref m_lines, .ref m_others, .int 0, .int 0, .int 0, .int 0]))]) (va_A [(h0, .inr (10, [.ref m_now, .ref m_draft, .ref m_past, .int 0, .ref m_images, .ref m_kept, .ref m_tape, .int 0, .int 0, .int 0, .int 0, .int (-1), .int 1, .int 0, .int 0, .ref m_low, .ref m_high, .ref m_first, .ref m_second, .ref m_lines, .ref m_others, .int 0, .int 0, .int 0, .int 0]))] sz)) 0 0 (va_A [(h0, .inr (10, [.ref m_now, .ref m_draft, .ref m_past, .int 0, .ref m_images, .ref m_kept, .ref m_tape, .int 0, .int 0, .int 0, .int 0, .int (-1), .int 1, .int 0, .int 0, .ref m_low, .ref m_high, .ref m_first, .ref m_second, .ref m_lines, .ref m_others, .int 0, .int 0, .int 0, .int 0]))] sz) := by
  refine Met.ofW (cc := cX10_goesOn) (maxL := 1) (ret := none) (by decide) rfl ?_
  intro p e s m args below meth c s₁ B hml hv
  obtain ⟨rfl, hsz, hP, hK, hD0⟩ := hv
  have hx := B.exec
  have hb := B.bytes
  have hr := B.returns
  have hts := atoms_spec (ws := w_X10_goesOn) B.pre
  have hown : s.vm.findClass RX10 = some m.cls := findClass_of_methodNamed B.named
  have hlocks := B.notSynchronized
  subst hsz
  have hD := hD0.self (sz := s.heap.size)
  generalize hAe : va_A [(h0, .inr (10, [.ref m_now, .ref m_draft, .ref m_past, .int 0, .ref m_images, .ref m_kept, .ref m_tape, .int 0, .int 0, .int 0, .int 0, .int (-1), .int 1, .int 0, .int 0, .ref m_low, .ref m_high, .ref m_first, .ref m_second, .ref m_lines, .ref m_others, .int 0, .int 0, .int 0, .int 0]))] s.heap.size = A at hD ⊢
  have hA : ∀ q : Nat, s.heap.size ≤ q → A q := fun q h => by rw [← hAe]; exact Or.inr h
  have hS : va_S A s.heap s.heap [] := va_S.rf
  have hP : va_P D vwCl [(h0, .inr (10, [.ref m_now, .ref m_draft, .ref m_past, .int 0, .ref m_images, .ref m_kept, .ref m_tape, .int 0, .int 0, .int 0, .int 0, .int (-1), .int 1, .int 0, .int 0, .ref m_low, .ref m_high, .ref m_first, .ref m_second, .ref m_lines, .ref m_others, .int 0, .int 0, .int 0, .int 0]))] s.heap := hP
  have hl := lv_entry ([.ref h0]) (n := 1) (Nat.le_of_ble_eq_true rfl)
  rw [lg_entry_eq]
  generalize (lg_sl ([.ref h0]) ++ List.replicate (1 - (lg_sl ([.ref h0])).length) Slot.unset).toArray = ls at hl ⊢
  have hl : lv_has ls 1 [(0, .ref h0)] := hl
  obtain ⟨H, hHe⟩ : ∃ H : Heap, H = s.heap := ⟨_, rfl⟩
  rw [← hHe] at hP
  have hS : va_S A s.heap H [] := by rw [hHe]; exact hS
  refine pw_heap hHe ?_
  refine lv_aload_n hx hb dX10_goesOn_0 rfl (lv_at hl 0 rfl) ?_
  refine va_get (D := D) (ci := 10) (v := .int 1) (C := RX10) (T := TX10) (N := 25) hx hb hts (fun _ h => List.mem_cons_of_mem _ (List.mem_append_right _ h)) hown hK hP 0 rfl rfl 12 (by decide) (hts (.fieldLink RX10 123 "LineCitesModel" "fault" "I") (List.mem_of_getElem? (i := 1) rfl)) (fun _ h9 => h9) rfl dX10_goesOn_1 ?_
  refine lv_if_ne (tgt := 11) hx hb dX10_goesOn_4 (by decide) (fun c1 => ?_) (fun c1 => absurd c1 (by decide))
  have hP9 := hP.sub (ws' := [(h0, .inr (10, [.ref m_now, .ref m_draft, .ref m_past, .int 0, .ref m_images, .ref m_kept, .ref m_tape, .int 0, .int 0, .int 0, .int 0, .int (-1), .int 1, .int 0, .int 0, .ref m_low, .ref m_high, .ref m_first, .ref m_second, .ref m_lines, .ref m_others, .int 0, .int 0, .int 0, .int 0]))]) [0] rfl
  have hD9 := hD.sub (ws' := [(h0, .inr (10, [.ref m_now, .ref m_draft, .ref m_past, .int 0, .ref m_images, .ref m_kept, .ref m_tape, .int 0, .int 0, .int 0, .int 0, .int (-1), .int 1, .int 0, .int 0, .ref m_low, .ref m_high, .ref m_first, .ref m_second, .ref m_lines, .ref m_others, .int 0, .int 0, .int 0, .int 0]))]) [0] (by decide) rfl
  have hK9 := hK.sub (tys' := []) [] rfl
  refine W.widen (k := 0) (n := 0) (Nat.le_of_ble_eq_true rfl) (Nat.le_of_ble_eq_true rfl) ?_
  exact W.vret hx hb hr (fun t ht hW => ⟨⟨(), rfl, trivial, by rw [ht]; exact hP9, va_K.moved hW.alike hK9, hD9⟩, hS.F ht⟩) hS.2.2 dX10_goesOn_11
def w_X10_sign : List Cond := .code yX10_sign cX10_sign 2 none :: ([.fieldLink RX10 120 "LineCitesModel" "token" "I", .methodLink RX10 132 yX10_bad, .instanceMethod yX10_bad, .selects RX10 yX10_bad yX10_bad, .initialized RX10, .code yX10_bad cX10_bad 2 none, .fieldLink RX10 123 "LineCitesModel" "fault" "I", .methodLink RX10 136 yX10_goesOn, .instanceMethod yX10_goesOn, .selects RX10 yX10_goesOn yX10_goesOn, .code yX10_goesOn cX10_goesOn 1 none] ++ wsX100)
set_option maxRecDepth 20000 in
theorem g_X10_sign_X10_bad__1 : GoodIn w_X10_sign (wsV RX10 132 RX10 yX10_bad w_X10_bad__1) := goodIn_r _ [2, 3, 4, 5, 6, 7, 12, 13, 14, 15, 16, 17, 18, 19, 20, 21, 22, 23, 24, 25, 26, 27, 28, 29, 30, 31, 32, 33, 34, 35, 36] rfl (by decide +kernel)
set_option maxRecDepth 20000 in
theorem g_X10_sign_X10_goesOn : GoodIn w_X10_sign (wsV RX10 136 RX10 yX10_goesOn w_X10_goesOn) := goodIn_r _ [8, 9, 10, 5, 11, 7, 12, 13, 14, 15, 16, 17, 18, 19, 20, 21, 22, 23, 24, 25, 26, 27, 28, 29, 30, 31, 32, 33, 34, 35, 36] rfl (by decide +kernel)
set_option maxHeartbeats 4000000 in
set_option maxRecDepth 100000 in
theorem c_X10_sign (l : Launch) (D : va_G) (h0 : Nat) (m_now : Nat) (m_draft : Nat) (m_past : Nat) (m_images : Nat) (m_kept : Nat) (m_tape : Nat) (m_low : Nat) (m_high : Nat) (m_first : Nat) (m_second : Nat) (m_lines : Nat) (m_others : Nat) (sz : Nat) : Met l yX10_sign w_X10_sign ({ frames := 1, cells := 0, slots := 0, locals := 21 }) (va_Pc [.ref h0, .int 59] (fun U => U.heap.size = sz ∧ va_P D vwCl [(h0, .inr (10, [.ref m_now, .ref m_draft, .ref m_past, .int 0, .ref m_images, .ref m_kept, .ref m_tape, .int 0, .int 0, .int 0, .int 0, .int (-1), .int 1, .int 0, .int 0, .ref m_low, .ref m_high, .ref m_first, .ref m_second, .ref m_lines, .ref m_others, .int 0, .int 0, .int 0, .int 0]))] U.heap ∧ va_K D vwCl [] U ∧ va_D (fun _ => True) [(h0, .inr (10, [.ref m_now, .ref m_draft, .ref m_past, .int 0, .ref m_images, .ref m_kept, .ref m_tape, .int 0, .int 0, .int 0, .int 0, .int (-1), .int 1, .int 0, .int 0, .ref m_low, .ref m_high, .ref m_first, .ref m_second, .ref m_lines, .ref m_others, .int 0, .int 0, .int 0, .int 0]))])) (va_Qv (fun (_ : Unit) => True) (fun (_ : Unit) t => va_P D vwCl [(h0, .inr (10, [.ref m_now, .ref m_draft, .ref m_past, .int 0, .ref m_images, .ref m_kept, .ref m_tape, .int 0, .int 0, .int 0, .int 0, .int (-1), .int 1, .int 0, .int 0, .ref m_low, .ref m_high, .ref m_first, .ref m_second, .ref m_lines, .ref m_others, .int 0, .int 0, .int 0, .int 0]))] t.heap ∧ va_K D vwCl [] t ∧ va_D (va_A [(h0, .inr (10, [.ref m_now, .ref m_draft, .ref m_past, .int 0, .ref m_images, .ref m_kept, .ref m_tape, .int 0, .int 0, .int 0, .int 0, .int (-1), .int 1, .int 0, .int 0, .ref m_low, .ref m_high, .ref m_first, .ref m_second, .ref m_lines, .ref m_others, .int 0, .int 0, .int 0, .int 0]))] sz) [(h0, .inr (10, [.ref m_now, .ref m_draft, .ref m_past, .int 0, .ref m_images, .ref m_kept, .ref m_tape, .int 0, .int 0, .int 0, .int 0, .int (-1), .int 1, .int 0, .int 0, .ref m_low, .ref m_high, .ref m_first, .ref m_second, .ref m_lines, .ref m_others, .int 0, .int 0, .int 0, .int 0]))]) (va_A [(h0, .inr (10, [.ref m_now, .ref m_draft, .ref m_past, .int 0, .ref m_images, .ref m_kept, .ref m_tape, .int 0, .int 0, .int 0, .int 0, .int (-1), .int 1, .int 0, .int 0, .ref m_low, .ref m_high, .ref m_first, .ref m_second, .ref m_lines, .ref m_others, .int 0, .int 0, .int 0, .int 0]))] sz)) 0 0 (va_A [(h0, .inr (10, [.ref m_now, .ref m_draft, .ref m_past, .int 0, .ref m_images, .ref m_kept, .ref m_tape, .int 0, .int 0, .int 0, .int 0, .int (-1), .int 1, .int 0, .int 0, .ref m_low, .ref m_high, .ref m_first, .ref m_second, .ref m_lines, .ref m_others, .int 0, .int 0, .int 0, .int 0]))] sz) := by
  refine Met.ofW (cc := cX10_sign) (maxL := 2) (ret := none) (by decide) rfl ?_
  intro p e s m args below meth c s₁ B hml hv
  obtain ⟨rfl, hsz, hP, hK, hD0⟩ := hv
  have hx := B.exec
  have hb := B.bytes
  have hr := B.returns
  have hts := atoms_spec (ws := w_X10_sign) B.pre
  have hown : s.vm.findClass RX10 = some m.cls := findClass_of_methodNamed B.named
  have hlocks := B.notSynchronized
  subst hsz
  have hD := hD0.self (sz := s.heap.size)
  generalize hAe : va_A [(h0, .inr (10, [.ref m_now, .ref m_draft, .ref m_past, .int 0, .ref m_images, .ref m_kept, .ref m_tape, .int 0, .int 0, .int 0, .int 0, .int (-1), .int 1, .int 0, .int 0, .ref m_low, .ref m_high, .ref m_first, .ref m_second, .ref m_lines, .ref m_others, .int 0, .int 0, .int 0, .int 0]))] s.heap.size = A at hD ⊢
  have hA : ∀ q : Nat, s.heap.size ≤ q → A q := fun q h => by rw [← hAe]; exact Or.inr h
  have hS : va_S A s.heap s.heap [] := va_S.rf
  have hP : va_P D vwCl [(h0, .inr (10, [.ref m_now, .ref m_draft, .ref m_past, .int 0, .ref m_images, .ref m_kept, .ref m_tape, .int 0, .int 0, .int 0, .int 0, .int (-1), .int 1, .int 0, .int 0, .ref m_low, .ref m_high, .ref m_first, .ref m_second, .ref m_lines, .ref m_others, .int 0, .int 0, .int 0, .int 0]))] s.heap := hP
  have hl := lv_entry ([.ref h0, .int 59]) (n := 2) (Nat.le_of_ble_eq_true rfl)
  rw [lg_entry_eq]
  generalize (lg_sl ([.ref h0, .int 59]) ++ List.replicate (2 - (lg_sl ([.ref h0, .int 59])).length) Slot.unset).toArray = ls at hl ⊢
  have hl : lv_has ls 2 [(0, .ref h0), (1, .int 59)] := hl
  obtain ⟨H, hHe⟩ : ∃ H : Heap, H = s.heap := ⟨_, rfl⟩
  rw [← hHe] at hP
  have hS : va_S A s.heap H [] := by rw [hHe]; exact hS
  refine pw_heap hHe ?_
  refine lv_aload_n hx hb dX10_sign_0 rfl (lv_at hl 0 rfl) ?_
  refine va_get (D := D) (ci := 10) (v := .int 0) (C := RX10) (T := TX10) (N := 25) hx hb hts (fun _ h => List.mem_cons_of_mem _ (List.mem_append_right _ h)) hown hK hP 0 rfl rfl 10 (by decide) (hts (.fieldLink RX10 120 "LineCitesModel" "token" "I") (List.mem_of_getElem? (i := 1) rfl)) (fun _ h9 => h9) rfl dX10_sign_1 ?_
  refine lv_iconst (v := 3) hx hb dX10_sign_4 (by decide) ?_
  refine lv_icmp_ne (tgt := 16) hx hb dX10_sign_5 (by decide) (fun c1 => ?_) (fun c1 => absurd c1 (by decide))
  refine lv_aload_n hx hb dX10_sign_16 rfl (lv_at hl 0 rfl) ?_
  refine lv_iconst (v := 1) hx hb dX10_sign_17 (by decide) ?_
  have hPc := hP.sub (ws' := [(h0, .inr (10, [.ref m_now, .ref m_draft, .ref m_past, .int 0, .ref m_images, .ref m_kept, .ref m_tape, .int 0, .int 0, .int 0, .int 0, .int (-1), .int 1, .int 0, .int 0, .ref m_low, .ref m_high, .ref m_first, .ref m_second, .ref m_lines, .ref m_others, .int 0, .int 0, .int 0, .int 0]))]) [0] rfl
  have hKc := hK.sub (tys' := []) [] rfl
  have hDc := hD.sub (ws' := [(h0, .inr (10, [.ref m_now, .ref m_draft, .ref m_past, .int 0, .ref m_images, .ref m_kept, .ref m_tape, .int 0, .int 0, .int 0, .int 0, .int (-1), .int 1, .int 0, .int 0, .ref m_low, .ref m_high, .ref m_first, .ref m_second, .ref m_lines, .ref m_others, .int 0, .int 0, .int 0, .int 0]))]) [0] (by decide) rfl
  have hFc := va_free (wc := [(h0, .inr (10, [.ref m_now, .ref m_draft, .ref m_past, .int 0, .ref m_images, .ref m_kept, .ref m_tape, .int 0, .int 0, .int 0, .int 0, .int (-1), .int 1, .int 0, .int 0, .ref m_low, .ref m_high, .ref m_first, .ref m_second, .ref m_lines, .ref m_others, .int 0, .int 0, .int 0, .int 0]))]) hD hS hA [0] rfl
  refine va_callv (va_runV (As := [.int 1]) (rest := []) ⟨hx, hb, hml, hown, hts⟩ (c_X10_bad__1 l D h0 m_now m_draft m_past m_images m_kept m_tape m_low m_high m_first m_second m_lines m_others H.size) (cwV 1 hts g_X10_sign_X10_bad__1 rfl rfl rfl (by decide +kernel) ⟨Nat.le_of_ble_eq_true rfl, Nat.le_of_ble_eq_true rfl⟩) ⟨fun a U g mk q => by obtain ⟨q0, q1, qP, qK, qD⟩ := q; exact ⟨q0, q1, qP, va_K.moved (u := U) (U := U.calling g mk a) (Vm.Alike.refl U.vm) qK, qD⟩, va_recv hKc hPc (ci := 10) (q0 := 0) rfl rfl, fun U hU hW => ⟨rfl, by rw [hU], by rw [hU]; exact hPc, va_K.moved hW.alike hKc, hDc.weaken (fun _ _ _ _ => trivial)⟩⟩ rfl rfl hl.1 rfl (lv_room (Nat.le_of_ble_eq_true rfl)) dX10_sign_18 ⟨Nat.le_of_ble_eq_true rfl, Nat.le_of_ble_eq_true rfl⟩) hS (fun q _ h => hFc q h) hFc (fun u t H1 locs ht hvm hw hB hz1 hk1 hS => ?_)
  obtain ⟨hP1, hK1, hD1⟩ := hB
  rw [ht] at hP1
  have hK1 := va_K.moved hvm.symm hK1
  obtain ⟨hP, hD⟩ := va_join (wr := []) (w1 := [(h0, .inr (10, [.ref m_now, .ref m_draft, .ref m_past, .int 0, .ref m_images, .ref m_kept, .ref m_tape, .int 0, .int 0, .int 0, .int 0, .int (-1), .int 1, .int 0, .int 0, .ref m_low, .ref m_high, .ref m_first, .ref m_second, .ref m_lines, .ref m_others, .int 0, .int 0, .int 0, .int 0]))]) hP hD [0] [] rfl rfl (by decide) (by decide) hk1 hFc hP1 hD1
  have hK := (hK.sub (tys' := []) [] rfl).app hK1
  generalize H1 = H at hP hS ⊢
  have hP : va_P D vwCl [(h0, .inr (10, [.ref m_now, .ref m_draft, .ref m_past, .int 0, .ref m_images, .ref m_kept, .ref m_tape, .int 0, .int 0, .int 0, .int 0, .int (-1), .int 1, .int 0, .int 0, .ref m_low, .ref m_high, .ref m_first, .ref m_second, .ref m_lines, .ref m_others, .int 0, .int 0, .int 0, .int 0]))] H := hP
  have hD : va_D A [(h0, .inr (10, [.ref m_now, .ref m_draft, .ref m_past, .int 0, .ref m_images, .ref m_kept, .ref m_tape, .int 0, .int 0, .int 0, .int 0, .int (-1), .int 1, .int 0, .int 0, .ref m_low, .ref m_high, .ref m_first, .ref m_second, .ref m_lines, .ref m_others, .int 0, .int 0, .int 0, .int 0]))] := hD
  have hK : va_K D vwCl [] s := hK
  refine W.widen (k := 0) (n := 0) (Nat.le_of_ble_eq_true rfl) (Nat.le_of_ble_eq_true rfl) ?_
  refine lv_aload_n hx hb dX10_sign_21 rfl (lv_at hl 0 rfl) ?_
  have hPc := hP.sub (ws' := [(h0, .inr (10, [.ref m_now, .ref m_draft, .ref m_past, .int 0, .ref m_images, .ref m_kept, .ref m_tape, .int 0, .int 0, .int 0, .int 0, .int (-1), .int 1, .int 0, .int 0, .ref m_low, .ref m_high, .ref m_first, .ref m_second, .ref m_lines, .ref m_others, .int 0, .int 0, .int 0, .int 0]))]) [0] rfl
  have hKc := hK.sub (tys' := []) [] rfl
  have hDc := hD.sub (ws' := [(h0, .inr (10, [.ref m_now, .ref m_draft, .ref m_past, .int 0, .ref m_images, .ref m_kept, .ref m_tape, .int 0, .int 0, .int 0, .int 0, .int (-1), .int 1, .int 0, .int 0, .ref m_low, .ref m_high, .ref m_first, .ref m_second, .ref m_lines, .ref m_others, .int 0, .int 0, .int 0, .int 0]))]) [0] (by decide) rfl
  have hFc := va_free (wc := [(h0, .inr (10, [.ref m_now, .ref m_draft, .ref m_past, .int 0, .ref m_images, .ref m_kept, .ref m_tape, .int 0, .int 0, .int 0, .int 0, .int (-1), .int 1, .int 0, .int 0, .ref m_low, .ref m_high, .ref m_first, .ref m_second, .ref m_lines, .ref m_others, .int 0, .int 0, .int 0, .int 0]))]) hD hS hA [0] rfl
  refine va_callv (va_runV (As := []) (rest := []) ⟨hx, hb, hml, hown, hts⟩ (c_X10_goesOn l D h0 m_now m_draft m_past m_images m_kept m_tape m_low m_high m_first m_second m_lines m_others H.size) (cwV 0 hts g_X10_sign_X10_goesOn rfl rfl rfl (by decide +kernel) ⟨Nat.le_of_ble_eq_true rfl, Nat.le_of_ble_eq_true rfl⟩) ⟨fun a U g mk q => by obtain ⟨q0, q1, qP, qK, qD⟩ := q; exact ⟨q0, q1, qP, va_K.moved (u := U) (U := U.calling g mk a) (Vm.Alike.refl U.vm) qK, qD⟩, va_recv hKc hPc (ci := 10) (q0 := 0) rfl rfl, fun U hU hW => ⟨rfl, by rw [hU], by rw [hU]; exact hPc, va_K.moved hW.alike hKc, hDc.weaken (fun _ _ _ _ => trivial)⟩⟩ rfl rfl hl.1 rfl (lv_room (Nat.le_of_ble_eq_true rfl)) dX10_sign_22 ⟨Nat.le_of_ble_eq_true rfl, Nat.le_of_ble_eq_true rfl⟩) hS (fun q _ h => hFc q h) hFc (fun u t H1 locs ht hvm hw hB hz1 hk1 hS => ?_)
  obtain ⟨hP1, hK1, hD1⟩ := hB
  rw [ht] at hP1
  have hK1 := va_K.moved hvm.symm hK1
  obtain ⟨hP, hD⟩ := va_join (wr := []) (w1 := [(h0, .inr (10, [.ref m_now, .ref m_draft, .ref m_past, .int 0, .ref m_images, .ref m_kept, .ref m_tape, .int 0, .int 0, .int 0, .int 0, .int (-1), .int 1, .int 0, .int 0, .ref m_low, .ref m_high, .ref m_first, .ref m_second, .ref m_lines, .ref m_others, .int 0, .int 0, .int 0, .int 0]))]) hP hD [0] [] rfl rfl (by decide) (by decide) hk1 hFc hP1 hD1
  have hK := (hK.sub (tys' := []) [] rfl).app hK1
  generalize H1 = H at hP hS ⊢
  have hP : va_P D vwCl [(h0, .inr (10, [.ref m_now, .ref m_draft, .ref m_past, .int 0, .ref m_images, .ref m_kept, .ref m_tape, .int 0, .int 0, .int 0, .int 0, .int (-1), .int 1, .int 0, .int 0, .ref m_low, .ref m_high, .ref m_first, .ref m_second, .ref m_lines, .ref m_others, .int 0, .int 0, .int 0, .int 0]))] H := hP
  have hD : va_D A [(h0, .inr (10, [.ref m_now, .ref m_draft, .ref m_past, .int 0, .ref m_images, .ref m_kept, .ref m_tape, .int 0, .int 0, .int 0, .int 0, .int (-1), .int 1, .int 0, .int 0, .ref m_low, .ref m_high, .ref m_first, .ref m_second, .ref m_lines, .ref m_others, .int 0, .int 0, .int 0, .int 0]))] := hD
  have hK : va_K D vwCl [] s := hK
  refine W.widen (k := 0) (n := 0) (Nat.le_of_ble_eq_true rfl) (Nat.le_of_ble_eq_true rfl) ?_
  have hP9 := hP.sub (ws' := [(h0, .inr (10, [.ref m_now, .ref m_draft, .ref m_past, .int 0, .ref m_images, .ref m_kept, .ref m_tape, .int 0, .int 0, .int 0, .int 0, .int (-1), .int 1, .int 0, .int 0, .ref m_low, .ref m_high, .ref m_first, .ref m_second, .ref m_lines, .ref m_others, .int 0, .int 0, .int 0, .int 0]))]) [0] rfl
  have hD9 := hD.sub (ws' := [(h0, .inr (10, [.ref m_now, .ref m_draft, .ref m_past, .int 0, .ref m_images, .ref m_kept, .ref m_tape, .int 0, .int 0, .int 0, .int 0, .int (-1), .int 1, .int 0, .int 0, .ref m_low, .ref m_high, .ref m_first, .ref m_second, .ref m_lines, .ref m_others, .int 0, .int 0, .int 0, .int 0]))]) [0] (by decide) rfl
  have hK9 := hK.sub (tys' := []) [] rfl
  refine W.widen (k := 0) (n := 0) (Nat.le_of_ble_eq_true rfl) (Nat.le_of_ble_eq_true rfl) ?_
  exact W.vret hx hb hr (fun t ht hW => ⟨⟨(), rfl, trivial, by rw [ht]; exact hP9, va_K.moved hW.alike hK9, hD9⟩, hS.F ht⟩) hS.2.2 dX10_sign_25
def w_X10_number : List Cond := .code yX10_number cX10_number 4 (some .int) :: ([.fieldLink RX10 120 "LineCitesModel" "token" "I", .methodLink RX10 132 yX10_bad, .instanceMethod yX10_bad, .selects RX10 yX10_bad yX10_bad, .initialized RX10, .code yX10_bad cX10_bad 2 none, .fieldLink RX10 123 "LineCitesModel" "fault" "I", .methodLink RX10 136 yX10_goesOn, .instanceMethod yX10_goesOn, .selects RX10 yX10_goesOn yX10_goesOn, .code yX10_goesOn cX10_goesOn 1 none, .methodLink RX10 139 yX10_sign, .instanceMethod yX10_sign, .selects RX10 yX10_sign yX10_sign, .code yX10_sign cX10_sign 2 none] ++ wsX100)
set_option maxRecDepth 20000 in
theorem g_X10_number_X10_bad__1 : GoodIn w_X10_number (wsV RX10 132 RX10 yX10_bad w_X10_bad__1) := goodIn_r _ [2, 3, 4, 5, 6, 7, 16, 17, 18, 19, 20, 21, 22, 23, 24, 25, 26, 27, 28, 29, 30, 31, 32, 33, 34, 35, 36, 37, 38, 39, 40] rfl (by decide +kernel)
set_option maxRecDepth 20000 in
theorem g_X10_number_X10_goesOn : GoodIn w_X10_number (wsV RX10 136 RX10 yX10_goesOn w_X10_goesOn) := goodIn_r _ [8, 9, 10, 5, 11, 7, 16, 17, 18, 19, 20, 21, 22, 23, 24, 25, 26, 27, 28, 29, 30, 31, 32, 33, 34, 35, 36, 37, 38, 39, 40] rfl (by decide +kernel)
set_option maxRecDepth 20000 in
theorem g_X10_number_X10_sign : GoodIn w_X10_number (wsV RX10 139 RX10 yX10_sign w_X10_sign) := goodIn_r _ [12, 13, 14, 5, 15, 1, 2, 3, 4, 5, 6, 7, 8, 9, 10, 11, 16, 17, 18, 19, 20, 21, 22, 23, 24, 25, 26, 27, 28, 29, 30, 31, 32, 33, 34, 35, 36, 37, 38, 39, 40] rfl (by decide +kernel)
set_option maxHeartbeats 4000000 in
set_option maxRecDepth 100000 in
theorem c_X10_number (l : Launch) (D : va_G) (h0 : Nat) (m_now : Nat) (m_draft : Nat) (m_past : Nat) (m_images : Nat) (m_kept : Nat) (m_tape : Nat) (m_low : Nat) (m_high : Nat) (m_first : Nat) (m_second : Nat) (m_lines : Nat) (m_others : Nat) (sz : Nat) : Met l yX10_number w_X10_number ({ frames := 2, cells := 0, slots := 0, locals := 42 }) (va_Pc [.ref h0, .int 0, .int 59] (fun U => U.heap.size = sz ∧ va_P D vwCl [(h0, .inr (10, [.ref m_now, .ref m_draft, .ref m_past, .int 0, .ref m_images, .ref m_kept, .ref m_tape, .int 0, .int 0, .int 0, .int 0, .int (-1), .int 1, .int 0, .int 0, .ref m_low, .ref m_high, .ref m_first, .ref m_second, .ref m_lines, .ref m_others, .int 0, .int 0, .int 0, .int 0]))] U.heap ∧ va_K D vwCl [] U ∧ va_D (fun _ => True) [(h0, .inr (10, [.ref m_now, .ref m_draft, .ref m_past, .int 0, .ref m_images, .ref m_kept, .ref m_tape, .int 0, .int 0, .int 0, .int 0, .int (-1), .int 1, .int 0, .int 0, .ref m_low, .ref m_high, .ref m_first, .ref m_second, .ref m_lines, .ref m_others, .int 0, .int 0, .int 0, .int 0]))])) (va_Qi (fun (r : Int32) (_ : Unit) => r = 0) (fun (_ : Unit) t => va_P D vwCl [(h0, .inr (10, [.ref m_now, .ref m_draft, .ref m_past, .int 0, .ref m_images, .ref m_kept, .ref m_tape, .int 0, .int 0, .int 0, .int 0, .int (-1), .int 1, .int 0, .int 0, .ref m_low, .ref m_high, .ref m_first, .ref m_second, .ref m_lines, .ref m_others, .int 0, .int 0, .int 0, .int 0]))] t.heap ∧ va_K D vwCl [] t ∧ va_D (va_A [(h0, .inr (10, [.ref m_now, .ref m_draft, .ref m_past, .int 0, .ref m_images, .ref m_kept, .ref m_tape, .int 0, .int 0, .int 0, .int 0, .int (-1), .int 1, .int 0, .int 0, .ref m_low, .ref m_high, .ref m_first, .ref m_second, .ref m_lines, .ref m_others, .int 0, .int 0, .int 0, .int 0]))] sz) [(h0, .inr (10, [.ref m_now, .ref m_draft, .ref m_past, .int 0, .ref m_images, .ref m_kept, .ref m_tape, .int 0, .int 0, .int 0, .int 0, .int (-1), .int 1, .int 0, .int 0, .ref m_low, .ref m_high, .ref m_first, .ref m_second, .ref m_lines, .ref m_others, .int 0, .int 0, .int 0, .int 0]))]) (va_A [(h0, .inr (10, [.ref m_now, .ref m_draft, .ref m_past, .int 0, .ref m_images, .ref m_kept, .ref m_tape, .int 0, .int 0, .int 0, .int 0, .int (-1), .int 1, .int 0, .int 0, .ref m_low, .ref m_high, .ref m_first, .ref m_second, .ref m_lines, .ref m_others, .int 0, .int 0, .int 0, .int 0]))] sz)) 0 0 (va_A [(h0, .inr (10, [.ref m_now, .ref m_draft, .ref m_past, .int 0, .ref m_images, .ref m_kept, .ref m_tape, .int 0, .int 0, .int 0, .int 0, .int (-1), .int 1, .int 0, .int 0, .ref m_low, .ref m_high, .ref m_first, .ref m_second, .ref m_lines, .ref m_others, .int 0, .int 0, .int 0, .int 0]))] sz) := by
  refine Met.ofW (cc := cX10_number) (maxL := 4) (ret := (some .int)) (by decide) rfl ?_
  intro p e s m args below meth c s₁ B hml hv
  obtain ⟨rfl, hsz, hP, hK, hD0⟩ := hv
  have hx := B.exec
  have hb := B.bytes
  have hr := B.returns
  have hts := atoms_spec (ws := w_X10_number) B.pre
  have hown : s.vm.findClass RX10 = some m.cls := findClass_of_methodNamed B.named
  have hlocks := B.notSynchronized
  subst hsz
  have hD := hD0.self (sz := s.heap.size)
  generalize hAe : va_A [(h0, .inr (10, [.ref m_now, .ref m_draft, .ref m_past, .int 0, .ref m_images, .ref m_kept, .ref m_tape, .int 0, .int 0, .int 0, .int 0, .int (-1), .int 1, .int 0, .int 0, .ref m_low, .ref m_high, .ref m_first, .ref m_second, .ref m_lines, .ref m_others, .int 0, .int 0, .int 0, .int 0]))] s.heap.size = A at hD ⊢
  have hA : ∀ q : Nat, s.heap.size ≤ q → A q := fun q h => by rw [← hAe]; exact Or.inr h
  have hS : va_S A s.heap s.heap [] := va_S.rf
  have hP : va_P D vwCl [(h0, .inr (10, [.ref m_now, .ref m_draft, .ref m_past, .int 0, .ref m_images, .ref m_kept, .ref m_tape, .int 0, .int 0, .int 0, .int 0, .int (-1), .int 1, .int 0, .int 0, .ref m_low, .ref m_high, .ref m_first, .ref m_second, .ref m_lines, .ref m_others, .int 0, .int 0, .int 0, .int 0]))] s.heap := hP
  have hl := lv_entry ([.ref h0, .int 0, .int 59]) (n := 4) (Nat.le_of_ble_eq_true rfl)
  rw [lg_entry_eq]
  generalize (lg_sl ([.ref h0, .int 0, .int 59]) ++ List.replicate (4 - (lg_sl ([.ref h0, .int 0, .int 59])).length) Slot.unset).toArray = ls at hl ⊢
  have hl : lv_has ls 4 [(0, .ref h0), (1, .int 0), (2, .int 59)] := hl
  obtain ⟨H, hHe⟩ : ∃ H : Heap, H = s.heap := ⟨_, rfl⟩
  rw [← hHe] at hP
  have hS : va_S A s.heap H [] := by rw [hHe]; exact hS
  refine pw_heap hHe ?_
  refine lv_aload_n hx hb dX10_number_0 rfl (lv_at hl 0 rfl) ?_
  refine va_get (D := D) (ci := 10) (v := .int 0) (C := RX10) (T := TX10) (N := 25) hx hb hts (fun _ h => List.mem_cons_of_mem _ (List.mem_append_right _ h)) hown hK hP 0 rfl rfl 10 (by decide) (hts (.fieldLink RX10 120 "LineCitesModel" "token" "I") (List.mem_of_getElem? (i := 1) rfl)) (fun _ h9 => h9) rfl dX10_number_1 ?_
  refine lv_iconst (v := 2) hx hb dX10_number_4 (by decide) ?_
  refine lv_icmp_eq (tgt := 16) hx hb dX10_number_5 (by decide) (fun c1 => absurd c1 (by decide)) (fun c1 => ?_)
  refine lv_aload_n hx hb dX10_number_8 rfl (lv_at hl 0 rfl) ?_
  refine lv_iconst (v := 1) hx hb dX10_number_9 (by decide) ?_
  have hPc := hP.sub (ws' := [(h0, .inr (10, [.ref m_now, .ref m_draft, .ref m_past, .int 0, .ref m_images, .ref m_kept, .ref m_tape, .int 0, .int 0, .int 0, .int 0, .int (-1), .int 1, .int 0, .int 0, .ref m_low, .ref m_high, .ref m_first, .ref m_second, .ref m_lines, .ref m_others, .int 0, .int 0, .int 0, .int 0]))]) [0] rfl
  have hKc := hK.sub (tys' := []) [] rfl
  have hDc := hD.sub (ws' := [(h0, .inr (10, [.ref m_now, .ref m_draft, .ref m_past, .int 0, .ref m_images, .ref m_kept, .ref m_tape, .int 0, .int 0, .int 0, .int 0, .int (-1), .int 1, .int 0, .int 0, .ref m_low, .ref m_high, .ref m_first, .ref m_second, .ref m_lines, .ref m_others, .int 0, .int 0, .int 0, .int 0]))]) [0] (by decide) rfl
  have hFc := va_free (wc := [(h0, .inr (10, [.ref m_now, .ref m_draft, .ref m_past, .int 0, .ref m_images, .ref m_kept, .ref m_tape, .int 0, .int 0, .int 0, .int 0, .int (-1), .int 1, .int 0, .int 0, .ref m_low, .ref m_high, .ref m_first, .ref m_second, .ref m_lines, .ref m_others, .int 0, .int 0, .int 0, .int 0]))]) hD hS hA [0] rfl
  refine va_callv (va_runV (As := [.int 1]) (rest := []) ⟨hx, hb, hml, hown, hts⟩ (c_X10_bad__1 l D h0 m_now m_draft m_past m_images m_kept m_tape m_low m_high m_first m_second m_lines m_others H.size) (cwV 1 hts g_X10_number_X10_bad__1 rfl rfl rfl (by decide +kernel) ⟨Nat.le_of_ble_eq_true rfl, Nat.le_of_ble_eq_true rfl⟩) ⟨fun a U g mk q => by obtain ⟨q0, q1, qP, qK, qD⟩ := q; exact ⟨q0, q1, qP, va_K.moved (u := U) (U := U.calling g mk a) (Vm.Alike.refl U.vm) qK, qD⟩, va_recv hKc hPc (ci := 10) (q0 := 0) rfl rfl, fun U hU hW => ⟨rfl, by rw [hU], by rw [hU]; exact hPc, va_K.moved hW.alike hKc, hDc.weaken (fun _ _ _ _ => trivial)⟩⟩ rfl rfl hl.1 rfl (lv_room (Nat.le_of_ble_eq_true rfl)) dX10_number_10 ⟨Nat.le_of_ble_eq_true rfl, Nat.le_of_ble_eq_true rfl⟩) hS (fun q _ h => hFc q h) hFc (fun u t H1 locs ht hvm hw hB hz1 hk1 hS => ?_)
  obtain ⟨hP1, hK1, hD1⟩ := hB
  rw [ht] at hP1
  have hK1 := va_K.moved hvm.symm hK1
  obtain ⟨hP, hD⟩ := va_join (wr := []) (w1 := [(h0, .inr (10, [.ref m_now, .ref m_draft, .ref m_past, .int 0, .ref m_images, .ref m_kept, .ref m_tape, .int 0, .int 0, .int 0, .int 0, .int (-1), .int 1, .int 0, .int 0, .ref m_low, .ref m_high, .ref m_first, .ref m_second, .ref m_lines, .ref m_others, .int 0, .int 0, .int 0, .int 0]))]) hP hD [0] [] rfl rfl (by decide) (by decide) hk1 hFc hP1 hD1
  have hK := (hK.sub (tys' := []) [] rfl).app hK1
  generalize H1 = H at hP hS ⊢
  have hP : va_P D vwCl [(h0, .inr (10, [.ref m_now, .ref m_draft, .ref m_past, .int 0, .ref m_images, .ref m_kept, .ref m_tape, .int 0, .int 0, .int 0, .int 0, .int (-1), .int 1, .int 0, .int 0, .ref m_low, .ref m_high, .ref m_first, .ref m_second, .ref m_lines, .ref m_others, .int 0, .int 0, .int 0, .int 0]))] H := hP
  have hD : va_D A [(h0, .inr (10, [.ref m_now, .ref m_draft, .ref m_past, .int 0, .ref m_images, .ref m_kept, .ref m_tape, .int 0, .int 0, .int 0, .int 0, .int (-1), .int 1, .int 0, .int 0, .ref m_low, .ref m_high, .ref m_first, .ref m_second, .ref m_lines, .ref m_others, .int 0, .int 0, .int 0, .int 0]))] := hD
  have hK : va_K D vwCl [] s := hK
  refine W.widen (k := 0) (n := 0) (Nat.le_of_ble_eq_true rfl) (Nat.le_of_ble_eq_true rfl) ?_
  refine lv_goto (tgt := 25) hx hb dX10_number_13 (by decide) ?_
  refine lv_aload_n hx hb dX10_number_25 rfl (lv_at hl 0 rfl) ?_
  refine va_get (D := D) (ci := 10) (v := .int 1) (C := RX10) (T := TX10) (N := 25) hx hb hts (fun _ h => List.mem_cons_of_mem _ (List.mem_append_right _ h)) hown hK hP 0 rfl rfl 12 (by decide) (hts (.fieldLink RX10 123 "LineCitesModel" "fault" "I") (List.mem_of_getElem? (i := 7) rfl)) (fun _ h9 => h9) rfl dX10_number_26 ?_
  refine lv_if_ne (tgt := 39) hx hb dX10_number_29 (by decide) (fun c3 => ?_) (fun c3 => absurd c3 (by decide))
  refine lv_iconst (v := 0) hx hb dX10_number_39 (by decide) ?_
  refine lv_istore_n (lv' := [(3, .int 0), (0, .ref h0), (1, .int 0), (2, .int 59)]) hx hb dX10_number_40 rfl hl (by decide) rfl (fun ls hl => ?_)
  refine lv_aload_n hx hb dX10_number_41 rfl (lv_at hl 1 rfl) ?_
  have hPc := hP.sub (ws' := [(h0, .inr (10, [.ref m_now, .ref m_draft, .ref m_past, .int 0, .ref m_images, .ref m_kept, .ref m_tape, .int 0, .int 0, .int 0, .int 0, .int (-1), .int 1, .int 0, .int 0, .ref m_low, .ref m_high, .ref m_first, .ref m_second, .ref m_lines, .ref m_others, .int 0, .int 0, .int 0, .int 0]))]) [0] rfl
  have hKc := hK.sub (tys' := []) [] rfl
  have hDc := hD.sub (ws' := [(h0, .inr (10, [.ref m_now, .ref m_draft, .ref m_past, .int 0, .ref m_images, .ref m_kept, .ref m_tape, .int 0, .int 0, .int 0, .int 0, .int (-1), .int 1, .int 0, .int 0, .ref m_low, .ref m_high, .ref m_first, .ref m_second, .ref m_lines, .ref m_others, .int 0, .int 0, .int 0, .int 0]))]) [0] (by decide) rfl
  have hFc := va_free (wc := [(h0, .inr (10, [.ref m_now, .ref m_draft, .ref m_past, .int 0, .ref m_images, .ref m_kept, .ref m_tape, .int 0, .int 0, .int 0, .int 0, .int (-1), .int 1, .int 0, .int 0, .ref m_low, .ref m_high, .ref m_first, .ref m_second, .ref m_lines, .ref m_others, .int 0, .int 0, .int 0, .int 0]))]) hD hS hA [0] rfl
  refine va_callv (va_runV (As := []) (rest := []) ⟨hx, hb, hml, hown, hts⟩ (c_X10_goesOn l D h0 m_now m_draft m_past m_images m_kept m_tape m_low m_high m_first m_second m_lines m_others H.size) (cwV 0 hts g_X10_number_X10_goesOn rfl rfl rfl (by decide +kernel) ⟨Nat.le_of_ble_eq_true rfl, Nat.le_of_ble_eq_true rfl⟩) ⟨fun a U g mk q => by obtain ⟨q0, q1, qP, qK, qD⟩ := q; exact ⟨q0, q1, qP, va_K.moved (u := U) (U := U.calling g mk a) (Vm.Alike.refl U.vm) qK, qD⟩, va_recv hKc hPc (ci := 10) (q0 := 0) rfl rfl, fun U hU hW => ⟨rfl, by rw [hU], by rw [hU]; exact hPc, va_K.moved hW.alike hKc, hDc.weaken (fun _ _ _ _ => trivial)⟩⟩ rfl rfl hl.1 rfl (lv_room (Nat.le_of_ble_eq_true rfl)) dX10_number_42 ⟨Nat.le_of_ble_eq_true rfl, Nat.le_of_ble_eq_true rfl⟩) hS (fun q _ h => hFc q h) hFc (fun u t H1 locs ht hvm hw hB hz1 hk1 hS => ?_)
  obtain ⟨hP1, hK1, hD1⟩ := hB
  rw [ht] at hP1
  have hK1 := va_K.moved hvm.symm hK1
  obtain ⟨hP, hD⟩ := va_join (wr := []) (w1 := [(h0, .inr (10, [.ref m_now, .ref m_draft, .ref m_past, .int 0, .ref m_images, .ref m_kept, .ref m_tape, .int 0, .int 0, .int 0, .int 0, .int (-1), .int 1, .int 0, .int 0, .ref m_low, .ref m_high, .ref m_first, .ref m_second, .ref m_lines, .ref m_others, .int 0, .int 0, .int 0, .int 0]))]) hP hD [0] [] rfl rfl (by decide) (by decide) hk1 hFc hP1 hD1
  have hK := (hK.sub (tys' := []) [] rfl).app hK1
  generalize H1 = H at hP hS ⊢
  have hP : va_P D vwCl [(h0, .inr (10, [.ref m_now, .ref m_draft, .ref m_past, .int 0, .ref m_images, .ref m_kept, .ref m_tape, .int 0, .int 0, .int 0, .int 0, .int (-1), .int 1, .int 0, .int 0, .ref m_low, .ref m_high, .ref m_first, .ref m_second, .ref m_lines, .ref m_others, .int 0, .int 0, .int 0, .int 0]))] H := hP
  have hD : va_D A [(h0, .inr (10, [.ref m_now, .ref m_draft, .ref m_past, .int 0, .ref m_images, .ref m_kept, .ref m_tape, .int 0, .int 0, .int 0, .int 0, .int (-1), .int 1, .int 0, .int 0, .ref m_low, .ref m_high, .ref m_first, .ref m_second, .ref m_lines, .ref m_others, .int 0, .int 0, .int 0, .int 0]))] := hD
  have hK : va_K D vwCl [] s := hK
  refine W.widen (k := 0) (n := 0) (Nat.le_of_ble_eq_true rfl) (Nat.le_of_ble_eq_true rfl) ?_
  refine lv_aload_n hx hb dX10_number_45 rfl (lv_at hl 1 rfl) ?_
  refine lv_iload_n hx hb dX10_number_46 rfl (lv_at hl 3 rfl) ?_
  have hPc := hP.sub (ws' := [(h0, .inr (10, [.ref m_now, .ref m_draft, .ref m_past, .int 0, .ref m_images, .ref m_kept, .ref m_tape, .int 0, .int 0, .int 0, .int 0, .int (-1), .int 1, .int 0, .int 0, .ref m_low, .ref m_high, .ref m_first, .ref m_second, .ref m_lines, .ref m_others, .int 0, .int 0, .int 0, .int 0]))]) [0] rfl
  have hKc := hK.sub (tys' := []) [] rfl
  have hDc := hD.sub (ws' := [(h0, .inr (10, [.ref m_now, .ref m_draft, .ref m_past, .int 0, .ref m_images, .ref m_kept, .ref m_tape, .int 0, .int 0, .int 0, .int 0, .int (-1), .int 1, .int 0, .int 0, .ref m_low, .ref m_high, .ref m_first, .ref m_second, .ref m_lines, .ref m_others, .int 0, .int 0, .int 0, .int 0]))]) [0] (by decide) rfl
  have hFc := va_free (wc := [(h0, .inr (10, [.ref m_now, .ref m_draft, .ref m_past, .int 0, .ref m_images, .ref m_kept, .ref m_tape, .int 0, .int 0, .int 0, .int 0, .int (-1), .int 1, .int 0, .int 0, .ref m_low, .ref m_high, .ref m_first, .ref m_second, .ref m_lines, .ref m_others, .int 0, .int 0, .int 0, .int 0]))]) hD hS hA [0] rfl
  refine va_callv (va_runV (As := [.int 59]) (rest := []) ⟨hx, hb, hml, hown, hts⟩ (c_X10_sign l D h0 m_now m_draft m_past m_images m_kept m_tape m_low m_high m_first m_second m_lines m_others H.size) (cwV 1 hts g_X10_number_X10_sign rfl rfl rfl (by decide +kernel) ⟨Nat.le_of_ble_eq_true rfl, Nat.le_of_ble_eq_true rfl⟩) ⟨fun a U g mk q => by obtain ⟨q0, q1, qP, qK, qD⟩ := q; exact ⟨q0, q1, qP, va_K.moved (u := U) (U := U.calling g mk a) (Vm.Alike.refl U.vm) qK, qD⟩, va_recv hKc hPc (ci := 10) (q0 := 0) rfl rfl, fun U hU hW => ⟨rfl, by rw [hU], by rw [hU]; exact hPc, va_K.moved hW.alike hKc, hDc.weaken (fun _ _ _ _ => trivial)⟩⟩ rfl rfl hl.1 rfl (lv_room (Nat.le_of_ble_eq_true rfl)) dX10_number_47 ⟨Nat.le_of_ble_eq_true rfl, Nat.le_of_ble_eq_true rfl⟩) hS (fun q _ h => hFc q h) hFc (fun u t H1 locs ht hvm hw hB hz1 hk1 hS => ?_)
  obtain ⟨hP1, hK1, hD1⟩ := hB
  rw [ht] at hP1
  have hK1 := va_K.moved hvm.symm hK1
  obtain ⟨hP, hD⟩ := va_join (wr := []) (w1 := [(h0, .inr (10, [.ref m_now, .ref m_draft, .ref m_past, .int 0, .ref m_images, .ref m_kept, .ref m_tape, .int 0, .int 0, .int 0, .int 0, .int (-1), .int 1, .int 0, .int 0, .ref m_low, .ref m_high, .ref m_first, .ref m_second, .ref m_lines, .ref m_others, .int 0, .int 0, .int 0, .int 0]))]) hP hD [0] [] rfl rfl (by decide) (by decide) hk1 hFc hP1 hD1
  have hK := (hK.sub (tys' := []) [] rfl).app hK1
  generalize H1 = H at hP hS ⊢
  have hP : va_P D vwCl [(h0, .inr (10, [.ref m_now, .ref m_draft, .ref m_past, .int 0, .ref m_images, .ref m_kept, .ref m_tape, .int 0, .int 0, .int 0, .int 0, .int (-1), .int 1, .int 0, .int 0, .ref m_low, .ref m_high, .ref m_first, .ref m_second, .ref m_lines, .ref m_others, .int 0, .int 0, .int 0, .int 0]))] H := hP
  have hD : va_D A [(h0, .inr (10, [.ref m_now, .ref m_draft, .ref m_past, .int 0, .ref m_images, .ref m_kept, .ref m_tape, .int 0, .int 0, .int 0, .int 0, .int (-1), .int 1, .int 0, .int 0, .ref m_low, .ref m_high, .ref m_first, .ref m_second, .ref m_lines, .ref m_others, .int 0, .int 0, .int 0, .int 0]))] := hD
  have hK : va_K D vwCl [] s := hK
  refine W.widen (k := 0) (n := 0) (Nat.le_of_ble_eq_true rfl) (Nat.le_of_ble_eq_true rfl) ?_
  refine lv_iload_n hx hb dX10_number_50 rfl (lv_at hl 0 rfl) ?_
  have hP9 := hP.sub (ws' := [(h0, .inr (10, [.ref m_now, .ref m_draft, .ref m_past, .int 0, .ref m_images, .ref m_kept, .ref m_tape, .int 0, .int 0, .int 0, .int 0, .int (-1), .int 1, .int 0, .int 0, .ref m_low, .ref m_high, .ref m_first, .ref m_second, .ref m_lines, .ref m_others, .int 0, .int 0, .int 0, .int 0]))]) [0] rfl
  have hD9 := hD.sub (ws' := [(h0, .inr (10, [.ref m_now, .ref m_draft, .ref m_past, .int 0, .ref m_images, .ref m_kept, .ref m_tape, .int 0, .int 0, .int 0, .int 0, .int (-1), .int 1, .int 0, .int 0, .ref m_low, .ref m_high, .ref m_first, .ref m_second, .ref m_lines, .ref m_others, .int 0, .int 0, .int 0, .int 0]))]) [0] (by decide) rfl
  have hK9 := hK.sub (tys' := []) [] rfl
  refine W.widen (k := 0) (n := 0) (Nat.le_of_ble_eq_true rfl) (Nat.le_of_ble_eq_true rfl) ?_
  exact W.iret (v := 0) hx hb hr (fun t ht hW => ⟨⟨0, (), rfl, rfl, by rw [ht]; exact hP9, va_K.moved hW.alike hK9, hD9⟩, hS.F ht⟩) hS.2.2 dX10_number_51
set_option maxHeartbeats 4000000 in
set_option maxRecDepth 100000 in
theorem lp_X10_work {p : Program} {l : Launch} {e : Env} {R : Room} {s : State} {m : MethodId} {args : Array Value} {below : List Frame} {meth : Method} {c : Code} {cells slots : Nat} {Q : State → Prop} {A : Nat → Prop} {H0 : Heap} (hx : p.tables.exec = Jvm.exec) (hb : c.code = cX10_work) {Ts : List Cond} (hts : ∀ w ∈ Ts, w.before args s = true) (hin : ∀ w ∈ wsX100, w ∈ Ts) (hown : s.vm.findClass RX10 = some m.cls) (hlk : (Cond.fieldLink RX10 13 "LineCitesModel" "draft" "[I").before args s = true) (D : va_G) (h0 : Nat) (m_now : Nat) (m_draft : Nat) (m_past : Nat) (m_images : Nat) (m_kept : Nat) (m_tape : Nat) (m_low : Nat) (m_high : Nat) (m_first : Nat) (m_second : Nat) (m_lines : Nat) (m_others : Nat) (k_d : ClassId) (hK : va_K D vwCl [(k_d, .int)] s)
    (kk : ∀ (g : Nat → Int32) (H : Heap) (locs : List Loc) (ls : Array Slot), va_P D vwCl [(h0, .inr (10, [.ref m_now, .ref m_draft, .ref m_past, .int 0, .ref m_images, .ref m_kept, .ref m_tape, .int 0, .int 0, .int 0, .int 0, .int 0, .int 0, .int 0, .int 0, .ref m_low, .ref m_high, .ref m_first, .ref m_second, .ref m_lines, .ref m_others, .int 0, .int 0, .int 0, .int 0])), (m_draft, .inl (k_d, 192, .inl g))] H → va_D A [(h0, .inr (10, [.ref m_now, .ref m_draft, .ref m_past, .int 0, .ref m_images, .ref m_kept, .ref m_tape, .int 0, .int 0, .int 0, .int 0, .int 0, .int 0, .int 0, .int 0, .ref m_low, .ref m_high, .ref m_first, .ref m_second, .ref m_lines, .ref m_others, .int 0, .int 0, .int 0, .int 0])), (m_draft, .inl (k_d, 192, .inl g))] → va_S A H0 H locs → lv_has ls 2 [(1, .int 192), (0, .ref h0)] → W p l e R s m args below meth c H locs cells slots Q (F0 m 22 ls [])) :
    ∀ (n k : Nat) (g : Nat → Int32) (H : Heap) (locs : List Loc) (ls : Array Slot), k + n = 192 → va_P D vwCl [(h0, .inr (10, [.ref m_now, .ref m_draft, .ref m_past, .int 0, .ref m_images, .ref m_kept, .ref m_tape, .int 0, .int 0, .int 0, .int 0, .int 0, .int 0, .int 0, .int 0, .ref m_low, .ref m_high, .ref m_first, .ref m_second, .ref m_lines, .ref m_others, .int 0, .int 0, .int 0, .int 0])), (m_draft, .inl (k_d, 192, .inl g))] H → va_D A [(h0, .inr (10, [.ref m_now, .ref m_draft, .ref m_past, .int 0, .ref m_images, .ref m_kept, .ref m_tape, .int 0, .int 0, .int 0, .int 0, .int 0, .int 0, .int 0, .int 0, .ref m_low, .ref m_high, .ref m_first, .ref m_second, .ref m_lines, .ref m_others, .int 0, .int 0, .int 0, .int 0])), (m_draft, .inl (k_d, 192, .inl g))] → va_S A H0 H locs → lv_has ls 2 [(1, .int (nI k)), (0, .ref h0)] → W p l e R s m args below meth c H locs cells slots Q (F0 m 2 ls []) := by
  intro n
  induction n with
  | zero =>
    intro k g H locs ls hk hP hD hS hl
    obtain rfl : k = 192 := by omega
    have hl : lv_has ls 2 [(1, .int 192), (0, .ref h0)] := hl
    refine lv_iload_n hx hb dX10_work_2 rfl (lv_at hl 0 rfl) ?_
    refine lv_sipush (v := 192) hx hb dX10_work_3 (by decide) ?_
    refine lv_icmp_ge (tgt := 22) hx hb dX10_work_6 (by decide) (fun c1 => ?_) (fun c1 => absurd (by decide) c1)
    exact kk g H locs ls hP hD hS hl
  | succ n ih =>
    intro k g H locs ls hk hP hD hS hl
    obtain ⟨x, ex⟩ : ∃ x : Int32, x = nI k := ⟨_, rfl⟩
    rw [← ex] at hl
    refine lv_iload_n hx hb dX10_work_2 rfl (lv_at hl 0 rfl) ?_
    refine lv_sipush (v := 192) hx hb dX10_work_3 (by decide) ?_
    refine lv_icmp_ge (tgt := 22) hx hb dX10_work_6 (by decide) (fun c1 => absurd c1 (by rw [ex]; exact nI_ge (a := k) (b := 192) (by omega) (by decide))) (fun c1 => ?_)
    refine lv_aload_n hx hb dX10_work_9 rfl (lv_at hl 1 rfl) ?_
    refine va_get (D := D) (ci := 10) (v := .ref m_draft) (C := RX10) (T := TX10) (N := 25) hx hb hts hin hown hK hP 0 rfl rfl 1 (by decide) hlk (fun _ h9 => h9) rfl dX10_work_10 ?_
    refine lv_iload_n hx hb dX10_work_13 rfl (lv_at hl 0 rfl) ?_
    refine lv_iconst (v := 0) hx hb dX10_work_14 (by decide) ?_
    refine va_iast hx hb hK hP hD hS 1 0 rfl rfl (by rw [ex]; exact vp_in_nI (by omega) (by decide)) dX10_work_15 (fun H locs hP hD hS => ?_)
    obtain ⟨x2, ex2⟩ : ∃ y : Int32, y = x + 1 := ⟨_, rfl⟩
    refine lv_iinc (v := x2) (lv' := [(1, .int x2), (0, .ref h0)]) hx hb dX10_work_16 hl (k := 0) rfl (by rw [ex2]; rfl) (by decide) rfl (fun ls hl => ?_)
    refine lv_goto (tgt := 2) hx hb dX10_work_19 (by decide) ?_
    exact ih (k + 1) _ _ _ _ (by omega) hP hD hS (by rw [ex2, ex, nI_1] at hl; exact hl)
def w_X10_work : List Cond := .code yX10_work cX10_work 2 (some .int) :: ([.fieldLink RX10 13 "LineCitesModel" "draft" "[I", .fieldLink RX10 99 "LineCitesModel" "at" "I", .fieldLink RX10 123 "LineCitesModel" "fault" "I", .methodLink RX10 129 yX10_reads, .instanceMethod yX10_reads, .selects RX10 yX10_reads yX10_reads, .initialized RX10, .code yX10_reads cX10_reads 2 none, .fieldLink RX10 102 "LineCitesModel" "start" "I", .methodLink RX10 105 yX10_byteAt, .instanceMethod yX10_byteAt, .selects RX10 yX10_byteAt yX10_byteAt, .code yX10_byteAt cX10_byteAt 2 (some .int), .fieldLink RX10 95 "LineCitesModel" "taped" "I", .fieldLink RX10 109 "LineCitesModel" "value" "I", .fieldLink RX10 120 "LineCitesModel" "token" "I", .methodLink RX10 142 yX10_isLetter, .instanceMethod yX10_isLetter, .selects RX10 yX10_isLetter yX10_isLetter, .code yX10_isLetter cX10_isLetter 2 (some .boolean), .methodLink RX10 132 yX10_bad, .instanceMethod yX10_bad, .selects RX10 yX10_bad yX10_bad, .code yX10_bad cX10_bad 2 none, .fieldLink RX10 126 "LineCitesModel" "place" "I", .methodLink RX10 136 yX10_goesOn, .instanceMethod yX10_goesOn, .selects RX10 yX10_goesOn yX10_goesOn, .code yX10_goesOn cX10_goesOn 1 none, .constantLong RX10 182 (200), .methodLink RX10 51 yX10_in0, .static yX10_in0, .code yX10_in0 cX10_in0 6 (some .boolean), .methodLink RX10 160 yX10_number, .instanceMethod yX10_number, .selects RX10 yX10_number yX10_number, .code yX10_number cX10_number 4 (some .int), .methodLink RX10 139 yX10_sign, .instanceMethod yX10_sign, .selects RX10 yX10_sign yX10_sign, .code yX10_sign cX10_sign 2 none, .fieldLink RX10 187 "LineCitesModel" "latest" "I", .constant RX10 190 (-1000100)] ++ wsX100)
set_option maxRecDepth 20000 in
theorem g_X10_work_X10_reads : GoodIn w_X10_work (wsV RX10 129 RX10 yX10_reads w_X10_reads) := goodIn_r _ [4, 5, 6, 7, 8, 2, 9, 10, 11, 12, 7, 13, 14, 15, 16, 44, 45, 46, 47, 48, 49, 50, 51, 52, 53, 54, 55, 56, 57, 58, 59, 60, 61, 62, 63, 64, 65, 66, 67, 68] rfl (by decide +kernel)
set_option maxRecDepth 20000 in
theorem g_X10_work_X10_isLetter__0 : GoodIn w_X10_work (wsV RX10 142 RX10 yX10_isLetter w_X10_isLetter__0) := goodIn_r _ [17, 18, 19, 7, 20, 3, 16, 44, 45, 46, 47, 48, 49, 50, 51, 52, 53, 54, 55, 56, 57, 58, 59, 60, 61, 62, 63, 64, 65, 66, 67, 68] rfl (by decide +kernel)
set_option maxRecDepth 20000 in
theorem g_X10_work_X10_bad__0 : GoodIn w_X10_work (wsV RX10 132 RX10 yX10_bad w_X10_bad__0) := goodIn_r _ [21, 22, 23, 7, 24, 3, 9, 25, 44, 45, 46, 47, 48, 49, 50, 51, 52, 53, 54, 55, 56, 57, 58, 59, 60, 61, 62, 63, 64, 65, 66, 67, 68] rfl (by decide +kernel)
set_option maxRecDepth 20000 in
theorem g_X10_work_X10_goesOn : GoodIn w_X10_work (wsV RX10 136 RX10 yX10_goesOn w_X10_goesOn) := goodIn_r _ [26, 27, 28, 7, 29, 3, 44, 45, 46, 47, 48, 49, 50, 51, 52, 53, 54, 55, 56, 57, 58, 59, 60, 61, 62, 63, 64, 65, 66, 67, 68] rfl (by decide +kernel)
set_option maxRecDepth 20000 in
theorem g_X10_work_X10_in0 : GoodIn w_X10_work (wsS RX10 51 yX10_in0 w_X10_in0) := goodIn_r _ [31, 32, 7, 33] rfl (by decide +kernel)
set_option maxRecDepth 20000 in
theorem g_X10_work_X10_number : GoodIn w_X10_work (wsV RX10 160 RX10 yX10_number w_X10_number) := goodIn_r _ [34, 35, 36, 7, 37, 16, 21, 22, 23, 7, 24, 3, 26, 27, 28, 29, 38, 39, 40, 41, 44, 45, 46, 47, 48, 49, 50, 51, 52, 53, 54, 55, 56, 57, 58, 59, 60, 61, 62, 63, 64, 65, 66, 67, 68] rfl (by decide +kernel)
set_option maxRecDepth 20000 in
theorem g_X10_work_X10_isLetter__1 : GoodIn w_X10_work (wsV RX10 142 RX10 yX10_isLetter w_X10_isLetter__1) := goodIn_r _ [17, 18, 19, 7, 20, 3, 44, 45, 46, 47, 48, 49, 50, 51, 52, 53, 54, 55, 56, 57, 58, 59, 60, 61, 62, 63, 64, 65, 66, 67, 68] rfl (by decide +kernel)
set_option maxHeartbeats 4000000 in
set_option maxRecDepth 100000 in
theorem c_X10_work (l : Launch) (D : va_G) (h0 : Nat) (m_now : Nat) (m_draft : Nat) (m_past : Nat) (m_images : Nat) (m_kept : Nat) (m_tape : Nat) (m_low : Nat) (m_high : Nat) (m_first : Nat) (m_second : Nat) (m_lines : Nat) (m_others : Nat) (k_d : ClassId) (sz : Nat) : Met l yX10_work w_X10_work ({ frames := 3, cells := 0, slots := 0, locals := 65 }) (va_Pc [.ref h0] (fun U => U.heap.size = sz ∧ va_P D vwCl [(h0, .inr (10, [.ref m_now, .ref m_draft, .ref m_past, .int 0, .ref m_images, .ref m_kept, .ref m_tape, .int 0, .int 0, .int 0, .int 0, .int 0, .int 0, .int 0, .int 0, .ref m_low, .ref m_high, .ref m_first, .ref m_second, .ref m_lines, .ref m_others, .int 0, .int 0, .int 0, .int 0])), (m_draft, .inl (k_d, 192, .inl (fun _ => 0)))] U.heap ∧ va_K D vwCl [(k_d, .int)] U ∧ va_D (fun _ => True) [(h0, .inr (10, [.ref m_now, .ref m_draft, .ref m_past, .int 0, .ref m_images, .ref m_kept, .ref m_tape, .int 0, .int 0, .int 0, .int 0, .int 0, .int 0, .int 0, .int 0, .ref m_low, .ref m_high, .ref m_first, .ref m_second, .ref m_lines, .ref m_others, .int 0, .int 0, .int 0, .int 0])), (m_draft, .inl (k_d, 192, .inl (fun _ => 0)))])) (va_Qi (fun (r : Int32) (_ : Unit) => r = (-1000100)) (fun (_ : Unit) t => va_P D vwCl [] t.heap ∧ va_K D vwCl [] t ∧ va_D (va_A [(h0, .inr (10, [.ref m_now, .ref m_draft, .ref m_past, .int 0, .ref m_images, .ref m_kept, .ref m_tape, .int 0, .int 0, .int 0, .int 0, .int 0, .int 0, .int 0, .int 0, .ref m_low, .ref m_high, .ref m_first, .ref m_second, .ref m_lines, .ref m_others, .int 0, .int 0, .int 0, .int 0])), (m_draft, .inl (k_d, 192, .inl (fun _ => 0)))] sz) []) (va_A [(h0, .inr (10, [.ref m_now, .ref m_draft, .ref m_past, .int 0, .ref m_images, .ref m_kept, .ref m_tape, .int 0, .int 0, .int 0, .int 0, .int 0, .int 0, .int 0, .int 0, .ref m_low, .ref m_high, .ref m_first, .ref m_second, .ref m_lines, .ref m_others, .int 0, .int 0, .int 0, .int 0])), (m_draft, .inl (k_d, 192, .inl (fun _ => 0)))] sz)) 0 0 (va_A [(h0, .inr (10, [.ref m_now, .ref m_draft, .ref m_past, .int 0, .ref m_images, .ref m_kept, .ref m_tape, .int 0, .int 0, .int 0, .int 0, .int 0, .int 0, .int 0, .int 0, .ref m_low, .ref m_high, .ref m_first, .ref m_second, .ref m_lines, .ref m_others, .int 0, .int 0, .int 0, .int 0])), (m_draft, .inl (k_d, 192, .inl (fun _ => 0)))] sz) := by
  refine Met.ofW (cc := cX10_work) (maxL := 2) (ret := (some .int)) (by decide) rfl ?_
  intro p e s m args below meth c s₁ B hml hv
  obtain ⟨rfl, hsz, hP, hK, hD0⟩ := hv
  have hx := B.exec
  have hb := B.bytes
  have hr := B.returns
  have hts := atoms_spec (ws := w_X10_work) B.pre
  have hown : s.vm.findClass RX10 = some m.cls := findClass_of_methodNamed B.named
  have hlocks := B.notSynchronized
  subst hsz
  have hD := hD0.self (sz := s.heap.size)
  generalize hAe : va_A [(h0, .inr (10, [.ref m_now, .ref m_draft, .ref m_past, .int 0, .ref m_images, .ref m_kept, .ref m_tape, .int 0, .int 0, .int 0, .int 0, .int 0, .int 0, .int 0, .int 0, .ref m_low, .ref m_high, .ref m_first, .ref m_second, .ref m_lines, .ref m_others, .int 0, .int 0, .int 0, .int 0])), (m_draft, .inl (k_d, 192, .inl (fun _ => 0)))] s.heap.size = A at hD ⊢
  have hA : ∀ q : Nat, s.heap.size ≤ q → A q := fun q h => by rw [← hAe]; exact Or.inr h
  have hS : va_S A s.heap s.heap [] := va_S.rf
  have hP : va_P D vwCl [(h0, .inr (10, [.ref m_now, .ref m_draft, .ref m_past, .int 0, .ref m_images, .ref m_kept, .ref m_tape, .int 0, .int 0, .int 0, .int 0, .int 0, .int 0, .int 0, .int 0, .ref m_low, .ref m_high, .ref m_first, .ref m_second, .ref m_lines, .ref m_others, .int 0, .int 0, .int 0, .int 0])), (m_draft, .inl (k_d, 192, .inl (fun _ => 0)))] s.heap := hP
  have hl := lv_entry ([.ref h0]) (n := 2) (Nat.le_of_ble_eq_true rfl)
  rw [lg_entry_eq]
  generalize (lg_sl ([.ref h0]) ++ List.replicate (2 - (lg_sl ([.ref h0])).length) Slot.unset).toArray = ls at hl ⊢
  have hl : lv_has ls 2 [(0, .ref h0)] := hl
  obtain ⟨H, hHe⟩ : ∃ H : Heap, H = s.heap := ⟨_, rfl⟩
  rw [← hHe] at hP
  have hS : va_S A s.heap H [] := by rw [hHe]; exact hS
  refine pw_heap hHe ?_
  refine lv_iconst (v := 0) hx hb dX10_work_0 (by decide) ?_
  refine lv_istore_n (lv' := [(1, .int 0), (0, .ref h0)]) hx hb dX10_work_1 rfl hl (by decide) rfl (fun ls hl => ?_)
  refine lp_X10_work hx hb hts (fun _ h => List.mem_cons_of_mem _ (List.mem_append_right _ h)) hown (hts (.fieldLink RX10 13 "LineCitesModel" "draft" "[I") (List.mem_of_getElem? (i := 1) rfl)) D h0 m_now m_draft m_past m_images m_kept m_tape m_low m_high m_first m_second m_lines m_others k_d hK (fun g1 H locs ls hP hD hS hl => ?_) 192 0 _ _ _ _ (by decide) hP hD hS (show lv_has ls 2 [(1, .int (nI 0)), (0, .ref h0)] from hl)
  refine lv_aload_n hx hb dX10_work_22 rfl (lv_at hl 1 rfl) ?_
  refine lv_iconst (v := 0) hx hb dX10_work_23 (by decide) ?_
  refine va_put (D := D) (ci := 10) (v := .int 0) (ty := .int) (C := RX10) (T := TX10) (N := 25) hx hb hts (fun _ h => List.mem_cons_of_mem _ (List.mem_append_right _ h)) tyX10 tyX10_ok nmX10 hown hK hP hD hS 0 rfl rfl 8 (by decide) (hts (.fieldLink RX10 99 "LineCitesModel" "at" "I") (List.mem_of_getElem? (i := 2) rfl)) (fun _ h9 => h9) rfl (by decide +kernel) rfl rfl (Nat.le_of_ble_eq_true rfl) dX10_work_24 (fun H locs hP hD hS => ?_)
  have hP : va_P D vwCl [(h0, .inr (10, [.ref m_now, .ref m_draft, .ref m_past, .int 0, .ref m_images, .ref m_kept, .ref m_tape, .int 0, .int 0, .int 0, .int 0, .int 0, .int 0, .int 0, .int 0, .ref m_low, .ref m_high, .ref m_first, .ref m_second, .ref m_lines, .ref m_others, .int 0, .int 0, .int 0, .int 0])), (m_draft, .inl (k_d, 192, .inl g1))] H := hP
  have hD : va_D A [(h0, .inr (10, [.ref m_now, .ref m_draft, .ref m_past, .int 0, .ref m_images, .ref m_kept, .ref m_tape, .int 0, .int 0, .int 0, .int 0, .int 0, .int 0, .int 0, .int 0, .ref m_low, .ref m_high, .ref m_first, .ref m_second, .ref m_lines, .ref m_others, .int 0, .int 0, .int 0, .int 0])), (m_draft, .inl (k_d, 192, .inl g1))] := hD
  have hK : va_K D vwCl [(k_d, .int)] s := hK
  refine lv_aload_n hx hb dX10_work_27 rfl (lv_at hl 1 rfl) ?_
  refine lv_iconst (v := 0) hx hb dX10_work_28 (by decide) ?_
  refine va_put (D := D) (ci := 10) (v := .int 0) (ty := .int) (C := RX10) (T := TX10) (N := 25) hx hb hts (fun _ h => List.mem_cons_of_mem _ (List.mem_append_right _ h)) tyX10 tyX10_ok nmX10 hown hK hP hD hS 0 rfl rfl 12 (by decide) (hts (.fieldLink RX10 123 "LineCitesModel" "fault" "I") (List.mem_of_getElem? (i := 3) rfl)) (fun _ h9 => h9) rfl (by decide +kernel) rfl rfl (Nat.le_of_ble_eq_true rfl) dX10_work_29 (fun H locs hP hD hS => ?_)
  have hP : va_P D vwCl [(h0, .inr (10, [.ref m_now, .ref m_draft, .ref m_past, .int 0, .ref m_images, .ref m_kept, .ref m_tape, .int 0, .int 0, .int 0, .int 0, .int 0, .int 0, .int 0, .int 0, .ref m_low, .ref m_high, .ref m_first, .ref m_second, .ref m_lines, .ref m_others, .int 0, .int 0, .int 0, .int 0])), (m_draft, .inl (k_d, 192, .inl g1))] H := hP
  have hD : va_D A [(h0, .inr (10, [.ref m_now, .ref m_draft, .ref m_past, .int 0, .ref m_images, .ref m_kept, .ref m_tape, .int 0, .int 0, .int 0, .int 0, .int 0, .int 0, .int 0, .int 0, .ref m_low, .ref m_high, .ref m_first, .ref m_second, .ref m_lines, .ref m_others, .int 0, .int 0, .int 0, .int 0])), (m_draft, .inl (k_d, 192, .inl g1))] := hD
  have hK : va_K D vwCl [(k_d, .int)] s := hK
  refine lv_aload_n hx hb dX10_work_32 rfl (lv_at hl 1 rfl) ?_
  have hPc := hP.sub (ws' := [(h0, .inr (10, [.ref m_now, .ref m_draft, .ref m_past, .int 0, .ref m_images, .ref m_kept, .ref m_tape, .int 0, .int 0, .int 0, .int 0, .int 0, .int 0, .int 0, .int 0, .ref m_low, .ref m_high, .ref m_first, .ref m_second, .ref m_lines, .ref m_others, .int 0, .int 0, .int 0, .int 0]))]) [0] rfl
  have hKc := hK.sub (tys' := []) [] rfl
  have hDc := hD.sub (ws' := [(h0, .inr (10, [.ref m_now, .ref m_draft, .ref m_past, .int 0, .ref m_images, .ref m_kept, .ref m_tape, .int 0, .int 0, .int 0, .int 0, .int 0, .int 0, .int 0, .int 0, .ref m_low, .ref m_high, .ref m_first, .ref m_second, .ref m_lines, .ref m_others, .int 0, .int 0, .int 0, .int 0]))]) [0] (by decide) rfl
  have hFc := va_free (wc := [(h0, .inr (10, [.ref m_now, .ref m_draft, .ref m_past, .int 0, .ref m_images, .ref m_kept, .ref m_tape, .int 0, .int 0, .int 0, .int 0, .int 0, .int 0, .int 0, .int 0, .ref m_low, .ref m_high, .ref m_first, .ref m_second, .ref m_lines, .ref m_others, .int 0, .int 0, .int 0, .int 0]))]) hD hS hA [0] rfl
  refine va_callv (va_runV (As := []) (rest := []) ⟨hx, hb, hml, hown, hts⟩ (c_X10_reads l D h0 m_now m_draft m_past m_images m_kept m_tape m_low m_high m_first m_second m_lines m_others H.size) (cwV 0 hts g_X10_work_X10_reads rfl rfl rfl (by decide +kernel) ⟨Nat.le_of_ble_eq_true rfl, Nat.le_of_ble_eq_true rfl⟩) ⟨fun a U g mk q => by obtain ⟨q0, q1, qP, qK, qD⟩ := q; exact ⟨q0, q1, qP, va_K.moved (u := U) (U := U.calling g mk a) (Vm.Alike.refl U.vm) qK, qD⟩, va_recv hKc hPc (ci := 10) (q0 := 0) rfl rfl, fun U hU hW => ⟨rfl, by rw [hU], by rw [hU]; exact hPc, va_K.moved hW.alike hKc, hDc.weaken (fun _ _ _ _ => trivial)⟩⟩ rfl rfl hl.1 rfl (lv_room (Nat.le_of_ble_eq_true rfl)) dX10_work_33 ⟨Nat.le_of_ble_eq_true rfl, Nat.le_of_ble_eq_true rfl⟩) hS (fun q _ h => hFc q h) hFc (fun u t H1 locs ht hvm hw hB hz1 hk1 hS => ?_)
  obtain ⟨hP1, hK1, hD1⟩ := hB
  rw [ht] at hP1
  have hK1 := va_K.moved hvm.symm hK1
  obtain ⟨hP, hD⟩ := va_join (wr := [(m_draft, .inl (k_d, 192, .inl g1))]) (w1 := [(h0, .inr (10, [.ref m_now, .ref m_draft, .ref m_past, .int 0, .ref m_images, .ref m_kept, .ref m_tape, .int 0, .int 0, .int 0, .int 0, .int (-1), .int 0, .int 0, .int 0, .ref m_low, .ref m_high, .ref m_first, .ref m_second, .ref m_lines, .ref m_others, .int 0, .int 0, .int 0, .int 0]))]) hP hD [0] [1] rfl rfl (by decide) (by decide) hk1 hFc hP1 hD1
  have hK := (hK.sub (tys' := [(k_d, .int)]) [0] rfl).app hK1
  generalize H1 = H at hP hS ⊢
  have hP : va_P D vwCl [(m_draft, .inl (k_d, 192, .inl g1)), (h0, .inr (10, [.ref m_now, .ref m_draft, .ref m_past, .int 0, .ref m_images, .ref m_kept, .ref m_tape, .int 0, .int 0, .int 0, .int 0, .int (-1), .int 0, .int 0, .int 0, .ref m_low, .ref m_high, .ref m_first, .ref m_second, .ref m_lines, .ref m_others, .int 0, .int 0, .int 0, .int 0]))] H := hP
  have hD : va_D A [(m_draft, .inl (k_d, 192, .inl g1)), (h0, .inr (10, [.ref m_now, .ref m_draft, .ref m_past, .int 0, .ref m_images, .ref m_kept, .ref m_tape, .int 0, .int 0, .int 0, .int 0, .int (-1), .int 0, .int 0, .int 0, .ref m_low, .ref m_high, .ref m_first, .ref m_second, .ref m_lines, .ref m_others, .int 0, .int 0, .int 0, .int 0]))] := hD
  have hK : va_K D vwCl [(k_d, .int)] s := hK
  refine W.widen (k := 0) (n := 0) (Nat.le_of_ble_eq_true rfl) (Nat.le_of_ble_eq_true rfl) ?_
  refine lv_aload_n hx hb dX10_work_36 rfl (lv_at hl 1 rfl) ?_
  refine lv_bipush (v := 119) hx hb dX10_work_37 (by decide) ?_
  have hPc := hP.sub (ws' := [(h0, .inr (10, [.ref m_now, .ref m_draft, .ref m_past, .int 0, .ref m_images, .ref m_kept, .ref m_tape, .int 0, .int 0, .int 0, .int 0, .int (-1), .int 0, .int 0, .int 0, .ref m_low, .ref m_high, .ref m_first, .ref m_second, .ref m_lines, .ref m_others, .int 0, .int 0, .int 0, .int 0]))]) [1] rfl
  have hKc := hK.sub (tys' := []) [] rfl
  refine va_calli (va_runV (As := [.int 119]) (rest := []) ⟨hx, hb, hml, hown, hts⟩ (c_X10_isLetter__0 l D h0 119 m_now m_draft m_past m_images m_kept m_tape m_low m_high m_first m_second m_lines m_others) (cwV 1 hts g_X10_work_X10_isLetter__0 rfl rfl rfl (by decide +kernel) ⟨Nat.le_of_ble_eq_true rfl, Nat.le_of_ble_eq_true rfl⟩) ⟨fun a U g mk q => by obtain ⟨q0, qP, qK⟩ := q; exact ⟨q0, qP, va_K.moved (u := U) (U := U.calling g mk a) (Vm.Alike.refl U.vm) qK⟩, va_recv hKc hPc (ci := 10) (q0 := 0) rfl rfl, fun U hU hW => ⟨rfl, by rw [hU]; exact hPc, va_K.moved hW.alike hKc⟩⟩ rfl rfl hl.1 rfl (lv_room (Nat.le_of_ble_eq_true rfl)) dX10_work_39 ⟨Nat.le_of_ble_eq_true rfl, Nat.le_of_ble_eq_true rfl⟩) hS (fun _ _ h => h.elim) (fun _ h => h.elim) (fun r3 u t H1 locs ht hvm hw hB hz1 hk1 hS => ?_)
  have hP := pw_keep hP (fun q hq => hk1 q hq (fun h => h))
  generalize H1 = H at hP hS ⊢
  refine W.widen (k := 0) (n := 0) (Nat.le_of_ble_eq_true rfl) (Nat.le_of_ble_eq_true rfl) ?_
  obtain rfl : r3 = 0 := hw
  refine lv_if_ne (tgt := 50) hx hb dX10_work_42 (by decide) (fun c4 => absurd (by decide) c4) (fun c4 => ?_)
  refine lv_aload_n hx hb dX10_work_45 rfl (lv_at hl 1 rfl) ?_
  refine lv_iconst (v := 1) hx hb dX10_work_46 (by decide) ?_
  have hPc := hP.sub (ws' := [(h0, .inr (10, [.ref m_now, .ref m_draft, .ref m_past, .int 0, .ref m_images, .ref m_kept, .ref m_tape, .int 0, .int 0, .int 0, .int 0, .int (-1), .int 0, .int 0, .int 0, .ref m_low, .ref m_high, .ref m_first, .ref m_second, .ref m_lines, .ref m_others, .int 0, .int 0, .int 0, .int 0]))]) [1] rfl
  have hKc := hK.sub (tys' := []) [] rfl
  have hDc := hD.sub (ws' := [(h0, .inr (10, [.ref m_now, .ref m_draft, .ref m_past, .int 0, .ref m_images, .ref m_kept, .ref m_tape, .int 0, .int 0, .int 0, .int 0, .int (-1), .int 0, .int 0, .int 0, .ref m_low, .ref m_high, .ref m_first, .ref m_second, .ref m_lines, .ref m_others, .int 0, .int 0, .int 0, .int 0]))]) [1] (by decide) rfl
  have hFc := va_free (wc := [(h0, .inr (10, [.ref m_now, .ref m_draft, .ref m_past, .int 0, .ref m_images, .ref m_kept, .ref m_tape, .int 0, .int 0, .int 0, .int 0, .int (-1), .int 0, .int 0, .int 0, .ref m_low, .ref m_high, .ref m_first, .ref m_second, .ref m_lines, .ref m_others, .int 0, .int 0, .int 0, .int 0]))]) hD hS hA [1] rfl
  refine va_callv (va_runV (As := [.int 1]) (rest := []) ⟨hx, hb, hml, hown, hts⟩ (c_X10_bad__0 l D h0 m_now m_draft m_past m_images m_kept m_tape m_low m_high m_first m_second m_lines m_others H.size) (cwV 1 hts g_X10_work_X10_bad__0 rfl rfl rfl (by decide +kernel) ⟨Nat.le_of_ble_eq_true rfl, Nat.le_of_ble_eq_true rfl⟩) ⟨fun a U g mk q => by obtain ⟨q0, q1, qP, qK, qD⟩ := q; exact ⟨q0, q1, qP, va_K.moved (u := U) (U := U.calling g mk a) (Vm.Alike.refl U.vm) qK, qD⟩, va_recv hKc hPc (ci := 10) (q0 := 0) rfl rfl, fun U hU hW => ⟨rfl, by rw [hU], by rw [hU]; exact hPc, va_K.moved hW.alike hKc, hDc.weaken (fun _ _ _ _ => trivial)⟩⟩ rfl rfl hl.1 rfl (lv_room (Nat.le_of_ble_eq_true rfl)) dX10_work_47 ⟨Nat.le_of_ble_eq_true rfl, Nat.le_of_ble_eq_true rfl⟩) hS (fun q _ h => hFc q h) hFc (fun u t H1 locs ht hvm hw hB hz1 hk1 hS => ?_)
  obtain ⟨hP1, hK1, hD1⟩ := hB
  rw [ht] at hP1
  have hK1 := va_K.moved hvm.symm hK1
  obtain ⟨hP, hD⟩ := va_join (wr := [(m_draft, .inl (k_d, 192, .inl g1))]) (w1 := [(h0, .inr (10, [.ref m_now, .ref m_draft, .ref m_past, .int 0, .ref m_images, .ref m_kept, .ref m_tape, .int 0, .int 0, .int 0, .int 0, .int (-1), .int 1, .int 0, .int 0, .ref m_low, .ref m_high, .ref m_first, .ref m_second, .ref m_lines, .ref m_others, .int 0, .int 0, .int 0, .int 0]))]) hP hD [1] [0] rfl rfl (by decide) (by decide) hk1 hFc hP1 hD1
  have hK := (hK.sub (tys' := [(k_d, .int)]) [0] rfl).app hK1
  generalize H1 = H at hP hS ⊢
  have hP : va_P D vwCl [(m_draft, .inl (k_d, 192, .inl g1)), (h0, .inr (10, [.ref m_now, .ref m_draft, .ref m_past, .int 0, .ref m_images, .ref m_kept, .ref m_tape, .int 0, .int 0, .int 0, .int 0, .int (-1), .int 1, .int 0, .int 0, .ref m_low, .ref m_high, .ref m_first, .ref m_second, .ref m_lines, .ref m_others, .int 0, .int 0, .int 0, .int 0]))] H := hP
  have hD : va_D A [(m_draft, .inl (k_d, 192, .inl g1)), (h0, .inr (10, [.ref m_now, .ref m_draft, .ref m_past, .int 0, .ref m_images, .ref m_kept, .ref m_tape, .int 0, .int 0, .int 0, .int 0, .int (-1), .int 1, .int 0, .int 0, .ref m_low, .ref m_high, .ref m_first, .ref m_second, .ref m_lines, .ref m_others, .int 0, .int 0, .int 0, .int 0]))] := hD
  have hK : va_K D vwCl [(k_d, .int)] s := hK
  refine W.widen (k := 0) (n := 0) (Nat.le_of_ble_eq_true rfl) (Nat.le_of_ble_eq_true rfl) ?_
  refine lv_aload_n hx hb dX10_work_50 rfl (lv_at hl 1 rfl) ?_
  have hPc := hP.sub (ws' := [(h0, .inr (10, [.ref m_now, .ref m_draft, .ref m_past, .int 0, .ref m_images, .ref m_kept, .ref m_tape, .int 0, .int 0, .int 0, .int 0, .int (-1), .int 1, .int 0, .int 0, .ref m_low, .ref m_high, .ref m_first, .ref m_second, .ref m_lines, .ref m_others, .int 0, .int 0, .int 0, .int 0]))]) [1] rfl
  have hKc := hK.sub (tys' := []) [] rfl
  have hDc := hD.sub (ws' := [(h0, .inr (10, [.ref m_now, .ref m_draft, .ref m_past, .int 0, .ref m_images, .ref m_kept, .ref m_tape, .int 0, .int 0, .int 0, .int 0, .int (-1), .int 1, .int 0, .int 0, .ref m_low, .ref m_high, .ref m_first, .ref m_second, .ref m_lines, .ref m_others, .int 0, .int 0, .int 0, .int 0]))]) [1] (by decide) rfl
  have hFc := va_free (wc := [(h0, .inr (10, [.ref m_now, .ref m_draft, .ref m_past, .int 0, .ref m_images, .ref m_kept, .ref m_tape, .int 0, .int 0, .int 0, .int 0, .int (-1), .int 1, .int 0, .int 0, .ref m_low, .ref m_high, .ref m_first, .ref m_second, .ref m_lines, .ref m_others, .int 0, .int 0, .int 0, .int 0]))]) hD hS hA [1] rfl
  refine va_callv (va_runV (As := []) (rest := []) ⟨hx, hb, hml, hown, hts⟩ (c_X10_goesOn l D h0 m_now m_draft m_past m_images m_kept m_tape m_low m_high m_first m_second m_lines m_others H.size) (cwV 0 hts g_X10_work_X10_goesOn rfl rfl rfl (by decide +kernel) ⟨Nat.le_of_ble_eq_true rfl, Nat.le_of_ble_eq_true rfl⟩) ⟨fun a U g mk q => by obtain ⟨q0, q1, qP, qK, qD⟩ := q; exact ⟨q0, q1, qP, va_K.moved (u := U) (U := U.calling g mk a) (Vm.Alike.refl U.vm) qK, qD⟩, va_recv hKc hPc (ci := 10) (q0 := 0) rfl rfl, fun U hU hW => ⟨rfl, by rw [hU], by rw [hU]; exact hPc, va_K.moved hW.alike hKc, hDc.weaken (fun _ _ _ _ => trivial)⟩⟩ rfl rfl hl.1 rfl (lv_room (Nat.le_of_ble_eq_true rfl)) dX10_work_51 ⟨Nat.le_of_ble_eq_true rfl, Nat.le_of_ble_eq_true rfl⟩) hS (fun q _ h => hFc q h) hFc (fun u t H1 locs ht hvm hw hB hz1 hk1 hS => ?_)
  obtain ⟨hP1, hK1, hD1⟩ := hB
  rw [ht] at hP1
  have hK1 := va_K.moved hvm.symm hK1
  obtain ⟨hP, hD⟩ := va_join (wr := [(m_draft, .inl (k_d, 192, .inl g1))]) (w1 := [(h0, .inr (10, [.ref m_now, .ref m_draft, .ref m_past, .int 0, .ref m_images, .ref m_kept, .ref m_tape, .int 0, .int 0, .int 0, .int 0, .int (-1), .int 1, .int 0, .int 0, .ref m_low, .ref m_high, .ref m_first, .ref m_second, .ref m_lines, .ref m_others, .int 0, .int 0, .int 0, .int 0]))]) hP hD [1] [0] rfl rfl (by decide) (by decide) hk1 hFc hP1 hD1
  have hK := (hK.sub (tys' := [(k_d, .int)]) [0] rfl).app hK1
  generalize H1 = H at hP hS ⊢
  have hP : va_P D vwCl [(m_draft, .inl (k_d, 192, .inl g1)), (h0, .inr (10, [.ref m_now, .ref m_draft, .ref m_past, .int 0, .ref m_images, .ref m_kept, .ref m_tape, .int 0, .int 0, .int 0, .int 0, .int (-1), .int 1, .int 0, .int 0, .ref m_low, .ref m_high, .ref m_first, .ref m_second, .ref m_lines, .ref m_others, .int 0, .int 0, .int 0, .int 0]))] H := hP
  have hD : va_D A [(m_draft, .inl (k_d, 192, .inl g1)), (h0, .inr (10, [.ref m_now, .ref m_draft, .ref m_past, .int 0, .ref m_images, .ref m_kept, .ref m_tape, .int 0, .int 0, .int 0, .int 0, .int (-1), .int 1, .int 0, .int 0, .ref m_low, .ref m_high, .ref m_first, .ref m_second, .ref m_lines, .ref m_others, .int 0, .int 0, .int 0, .int 0]))] := hD
  have hK : va_K D vwCl [(k_d, .int)] s := hK
  refine W.widen (k := 0) (n := 0) (Nat.le_of_ble_eq_true rfl) (Nat.le_of_ble_eq_true rfl) ?_
  refine lv_aload_n hx hb dX10_work_54 rfl (lv_at hl 1 rfl) ?_
  refine va_get (D := D) (ci := 10) (v := .ref m_draft) (C := RX10) (T := TX10) (N := 25) hx hb hts (fun _ h => List.mem_cons_of_mem _ (List.mem_append_right _ h)) hown hK hP 1 rfl rfl 1 (by decide) (hts (.fieldLink RX10 13 "LineCitesModel" "draft" "[I") (List.mem_of_getElem? (i := 1) rfl)) (fun _ h9 => h9) rfl dX10_work_55 ?_
  refine lv_iconst (v := 0) hx hb dX10_work_58 (by decide) ?_
  refine lv_aload_n hx hb dX10_work_59 rfl (lv_at hl 1 rfl) ?_
  refine lv_aload_n hx hb dX10_work_60 rfl (lv_at hl 1 rfl) ?_
  refine va_get (D := D) (ci := 10) (v := .int (-1)) (C := RX10) (T := TX10) (N := 25) hx hb hts (fun _ h => List.mem_cons_of_mem _ (List.mem_append_right _ h)) hown hK hP 1 rfl rfl 11 (by decide) (hts (.fieldLink RX10 109 "LineCitesModel" "value" "I") (List.mem_of_getElem? (i := 15) rfl)) (fun _ h9 => h9) rfl dX10_work_61 ?_
  refine lv_i2l (v := (-1)) hx hb dX10_work_64 (by decide) ?_
  refine lv_lconst (v := 1) hx hb dX10_work_65 (by decide) ?_
  refine lv_ldc2 hx hb hown (hts (.constantLong RX10 182 (200)) (List.mem_of_getElem? (i := 30) rfl)) dX10_work_66 ?_
  have hPc := hP.sub (ws' := []) [] rfl
  have hKc := hK.sub (tys' := []) [] rfl
  refine va_calli (va_runS (As := [.long (-1), .long 1, .long 200]) (rest := [.ref h0, .int 0, .ref m_draft]) ⟨hx, hb, hml, hown, hts⟩ (c_X10_in0 l D (-1) 1 200) (cwS 3 hts g_X10_work_X10_in0 rfl rfl rfl (by decide +kernel) ⟨Nat.le_of_ble_eq_true rfl, Nat.le_of_ble_eq_true rfl⟩) ⟨fun a U g mk q => by obtain ⟨q0, qP, qK⟩ := q; exact ⟨q0, qP, va_K.moved (u := U) (U := U.calling g mk a) (Vm.Alike.refl U.vm) qK⟩, fun U hU hW => ⟨rfl, by rw [hU]; exact hPc, va_K.moved hW.alike hKc⟩⟩ rfl rfl hl.1 rfl (lv_room (Nat.le_of_ble_eq_true rfl)) dX10_work_69 ⟨Nat.le_of_ble_eq_true rfl, Nat.le_of_ble_eq_true rfl⟩) hS (fun _ _ h => h.elim) (fun _ h => h.elim) (fun r7 u t H1 locs ht hvm hw hB hz1 hk1 hS => ?_)
  have hP := pw_keep hP (fun q hq => hk1 q hq (fun h => h))
  generalize H1 = H at hP hS ⊢
  refine W.widen (k := 0) (n := 0) (Nat.le_of_ble_eq_true rfl) (Nat.le_of_ble_eq_true rfl) ?_
  rcases hw with ⟨rfl, r7h0, r7h1⟩ | ⟨rfl, r7h0⟩
  · exact False.elim (absurd r7h0 (by decide))
  ·
    refine lv_bipush (v := 59) hx hb dX10_work_72 (by decide) ?_
    have hPc := hP.sub (ws' := [(h0, .inr (10, [.ref m_now, .ref m_draft, .ref m_past, .int 0, .ref m_images, .ref m_kept, .ref m_tape, .int 0, .int 0, .int 0, .int 0, .int (-1), .int 1, .int 0, .int 0, .ref m_low, .ref m_high, .ref m_first, .ref m_second, .ref m_lines, .ref m_others, .int 0, .int 0, .int 0, .int 0]))]) [1] rfl
    have hKc := hK.sub (tys' := []) [] rfl
    have hDc := hD.sub (ws' := [(h0, .inr (10, [.ref m_now, .ref m_draft, .ref m_past, .int 0, .ref m_images, .ref m_kept, .ref m_tape, .int 0, .int 0, .int 0, .int 0, .int (-1), .int 1, .int 0, .int 0, .ref m_low, .ref m_high, .ref m_first, .ref m_second, .ref m_lines, .ref m_others, .int 0, .int 0, .int 0, .int 0]))]) [1] (by decide) rfl
    have hFc := va_free (wc := [(h0, .inr (10, [.ref m_now, .ref m_draft, .ref m_past, .int 0, .ref m_images, .ref m_kept, .ref m_tape, .int 0, .int 0, .int 0, .int 0, .int (-1), .int 1, .int 0, .int 0, .ref m_low, .ref m_high, .ref m_first, .ref m_second, .ref m_lines, .ref m_others, .int 0, .int 0, .int 0, .int 0]))]) hD hS hA [1] rfl
    refine va_calli (va_runV (As := [.int 0, .int 59]) (rest := [.int 0, .ref m_draft]) ⟨hx, hb, hml, hown, hts⟩ (c_X10_number l D h0 m_now m_draft m_past m_images m_kept m_tape m_low m_high m_first m_second m_lines m_others H.size) (cwV 2 hts g_X10_work_X10_number rfl rfl rfl (by decide +kernel) ⟨Nat.le_of_ble_eq_true rfl, Nat.le_of_ble_eq_true rfl⟩) ⟨fun a U g mk q => by obtain ⟨q0, q1, qP, qK, qD⟩ := q; exact ⟨q0, q1, qP, va_K.moved (u := U) (U := U.calling g mk a) (Vm.Alike.refl U.vm) qK, qD⟩, va_recv hKc hPc (ci := 10) (q0 := 0) rfl rfl, fun U hU hW => ⟨rfl, by rw [hU], by rw [hU]; exact hPc, va_K.moved hW.alike hKc, hDc.weaken (fun _ _ _ _ => trivial)⟩⟩ rfl rfl hl.1 rfl (lv_room (Nat.le_of_ble_eq_true rfl)) dX10_work_74 ⟨Nat.le_of_ble_eq_true rfl, Nat.le_of_ble_eq_true rfl⟩) hS (fun q _ h => hFc q h) hFc (fun r8 u t H1 locs ht hvm hw hB hz1 hk1 hS => ?_)
    obtain ⟨hP1, hK1, hD1⟩ := hB
    rw [ht] at hP1
    have hK1 := va_K.moved hvm.symm hK1
    obtain ⟨hP, hD⟩ := va_join (wr := [(m_draft, .inl (k_d, 192, .inl g1))]) (w1 := [(h0, .inr (10, [.ref m_now, .ref m_draft, .ref m_past, .int 0, .ref m_images, .ref m_kept, .ref m_tape, .int 0, .int 0, .int 0, .int 0, .int (-1), .int 1, .int 0, .int 0, .ref m_low, .ref m_high, .ref m_first, .ref m_second, .ref m_lines, .ref m_others, .int 0, .int 0, .int 0, .int 0]))]) hP hD [1] [0] rfl rfl (by decide) (by decide) hk1 hFc hP1 hD1
    have hK := (hK.sub (tys' := [(k_d, .int)]) [0] rfl).app hK1
    generalize H1 = H at hP hS ⊢
    have hP : va_P D vwCl [(m_draft, .inl (k_d, 192, .inl g1)), (h0, .inr (10, [.ref m_now, .ref m_draft, .ref m_past, .int 0, .ref m_images, .ref m_kept, .ref m_tape, .int 0, .int 0, .int 0, .int 0, .int (-1), .int 1, .int 0, .int 0, .ref m_low, .ref m_high, .ref m_first, .ref m_second, .ref m_lines, .ref m_others, .int 0, .int 0, .int 0, .int 0]))] H := hP
    have hD : va_D A [(m_draft, .inl (k_d, 192, .inl g1)), (h0, .inr (10, [.ref m_now, .ref m_draft, .ref m_past, .int 0, .ref m_images, .ref m_kept, .ref m_tape, .int 0, .int 0, .int 0, .int 0, .int (-1), .int 1, .int 0, .int 0, .ref m_low, .ref m_high, .ref m_first, .ref m_second, .ref m_lines, .ref m_others, .int 0, .int 0, .int 0, .int 0]))] := hD
    have hK : va_K D vwCl [(k_d, .int)] s := hK
    refine W.widen (k := 0) (n := 0) (Nat.le_of_ble_eq_true rfl) (Nat.le_of_ble_eq_true rfl) ?_
    obtain rfl : r8 = 0 := hw
    refine va_iast hx hb hK hP hD hS 0 0 rfl rfl (vp_in_iff.mpr (by decide)) dX10_work_77 (fun H locs hP hD hS => ?_)
    obtain ⟨g9, eg9⟩ : ∃ g : Nat → Int32, g = upd g1 (0 : Int32).toNatClampNeg 0 := ⟨_, rfl⟩
    have hP : va_P D vwCl [(m_draft, .inl (k_d, 192, .inl (upd g1 (0 : Int32).toNatClampNeg 0))), (h0, .inr (10, [.ref m_now, .ref m_draft, .ref m_past, .int 0, .ref m_images, .ref m_kept, .ref m_tape, .int 0, .int 0, .int 0, .int 0, .int (-1), .int 1, .int 0, .int 0, .ref m_low, .ref m_high, .ref m_first, .ref m_second, .ref m_lines, .ref m_others, .int 0, .int 0, .int 0, .int 0]))] H := hP
    have hD : va_D A [(m_draft, .inl (k_d, 192, .inl (upd g1 (0 : Int32).toNatClampNeg 0))), (h0, .inr (10, [.ref m_now, .ref m_draft, .ref m_past, .int 0, .ref m_images, .ref m_kept, .ref m_tape, .int 0, .int 0, .int 0, .int 0, .int (-1), .int 1, .int 0, .int 0, .ref m_low, .ref m_high, .ref m_first, .ref m_second, .ref m_lines, .ref m_others, .int 0, .int 0, .int 0, .int 0]))] := hD
    have hK : va_K D vwCl [(k_d, .int)] s := hK
    rw [← eg9] at hP hD
    refine lv_aload_n hx hb dX10_work_78 rfl (lv_at hl 1 rfl) ?_
    refine lv_bipush (v := 101) hx hb dX10_work_79 (by decide) ?_
    have hPc := hP.sub (ws' := [(h0, .inr (10, [.ref m_now, .ref m_draft, .ref m_past, .int 0, .ref m_images, .ref m_kept, .ref m_tape, .int 0, .int 0, .int 0, .int 0, .int (-1), .int 1, .int 0, .int 0, .ref m_low, .ref m_high, .ref m_first, .ref m_second, .ref m_lines, .ref m_others, .int 0, .int 0, .int 0, .int 0]))]) [1] rfl
    have hKc := hK.sub (tys' := []) [] rfl
    refine va_calli (va_runV (As := [.int 101]) (rest := []) ⟨hx, hb, hml, hown, hts⟩ (c_X10_isLetter__1 l D h0 101 m_now m_draft m_past m_images m_kept m_tape m_low m_high m_first m_second m_lines m_others) (cwV 1 hts g_X10_work_X10_isLetter__1 rfl rfl rfl (by decide +kernel) ⟨Nat.le_of_ble_eq_true rfl, Nat.le_of_ble_eq_true rfl⟩) ⟨fun a U g mk q => by obtain ⟨q0, qP, qK⟩ := q; exact ⟨q0, qP, va_K.moved (u := U) (U := U.calling g mk a) (Vm.Alike.refl U.vm) qK⟩, va_recv hKc hPc (ci := 10) (q0 := 0) rfl rfl, fun U hU hW => ⟨rfl, by rw [hU]; exact hPc, va_K.moved hW.alike hKc⟩⟩ rfl rfl hl.1 rfl (lv_room (Nat.le_of_ble_eq_true rfl)) dX10_work_81 ⟨Nat.le_of_ble_eq_true rfl, Nat.le_of_ble_eq_true rfl⟩) hS (fun _ _ h => h.elim) (fun _ h => h.elim) (fun r10 u t H1 locs ht hvm hw hB hz1 hk1 hS => ?_)
    have hP := pw_keep hP (fun q hq => hk1 q hq (fun h => h))
    generalize H1 = H at hP hS ⊢
    refine W.widen (k := 0) (n := 0) (Nat.le_of_ble_eq_true rfl) (Nat.le_of_ble_eq_true rfl) ?_
    obtain rfl : r10 = 0 := hw
    refine lv_if_eq (tgt := 94) hx hb dX10_work_84 (by decide) (fun c11 => ?_) (fun c11 => absurd (by decide) c11)
    refine lv_aload_n hx hb dX10_work_94 rfl (lv_at hl 1 rfl) ?_
    refine va_get (D := D) (ci := 10) (v := .int 0) (C := RX10) (T := TX10) (N := 25) hx hb hts (fun _ h => List.mem_cons_of_mem _ (List.mem_append_right _ h)) hown hK hP 1 rfl rfl 10 (by decide) (hts (.fieldLink RX10 120 "LineCitesModel" "token" "I") (List.mem_of_getElem? (i := 16) rfl)) (fun _ h9 => h9) rfl dX10_work_95 ?_
    refine lv_if_eq (tgt := 106) hx hb dX10_work_98 (by decide) (fun c12 => ?_) (fun c12 => absurd (by decide) c12)
    refine lv_aload_n hx hb dX10_work_106 rfl (lv_at hl 1 rfl) ?_
    refine lv_iconst (v := 0) hx hb dX10_work_107 (by decide) ?_
    refine va_put (D := D) (ci := 10) (v := .int 0) (ty := .int) (C := RX10) (T := TX10) (N := 25) hx hb hts (fun _ h => List.mem_cons_of_mem _ (List.mem_append_right _ h)) tyX10 tyX10_ok nmX10 hown hK hP hD hS 1 rfl rfl 7 (by decide) (hts (.fieldLink RX10 95 "LineCitesModel" "taped" "I") (List.mem_of_getElem? (i := 14) rfl)) (fun _ h9 => h9) rfl (by decide +kernel) rfl rfl (Nat.le_of_ble_eq_true rfl) dX10_work_108 (fun H locs hP hD hS => ?_)
    have hP : va_P D vwCl [(m_draft, .inl (k_d, 192, .inl g9)), (h0, .inr (10, [.ref m_now, .ref m_draft, .ref m_past, .int 0, .ref m_images, .ref m_kept, .ref m_tape, .int 0, .int 0, .int 0, .int 0, .int (-1), .int 1, .int 0, .int 0, .ref m_low, .ref m_high, .ref m_first, .ref m_second, .ref m_lines, .ref m_others, .int 0, .int 0, .int 0, .int 0]))] H := hP
    have hD : va_D A [(m_draft, .inl (k_d, 192, .inl g9)), (h0, .inr (10, [.ref m_now, .ref m_draft, .ref m_past, .int 0, .ref m_images, .ref m_kept, .ref m_tape, .int 0, .int 0, .int 0, .int 0, .int (-1), .int 1, .int 0, .int 0, .ref m_low, .ref m_high, .ref m_first, .ref m_second, .ref m_lines, .ref m_others, .int 0, .int 0, .int 0, .int 0]))] := hD
    have hK : va_K D vwCl [(k_d, .int)] s := hK
    refine lv_aload_n hx hb dX10_work_111 rfl (lv_at hl 1 rfl) ?_
    refine va_get (D := D) (ci := 10) (v := .int 1) (C := RX10) (T := TX10) (N := 25) hx hb hts (fun _ h => List.mem_cons_of_mem _ (List.mem_append_right _ h)) hown hK hP 1 rfl rfl 12 (by decide) (hts (.fieldLink RX10 123 "LineCitesModel" "fault" "I") (List.mem_of_getElem? (i := 3) rfl)) (fun _ h9 => h9) rfl dX10_work_112 ?_
    refine lv_if_le (tgt := 134) hx hb dX10_work_115 (by decide) (fun c13 => absurd c13 (by decide)) (fun c13 => ?_)
    refine lv_aload_n hx hb dX10_work_118 rfl (lv_at hl 1 rfl) ?_
    refine lv_aload_n hx hb dX10_work_119 rfl (lv_at hl 1 rfl) ?_
    refine va_get (D := D) (ci := 10) (v := .int 1) (C := RX10) (T := TX10) (N := 25) hx hb hts (fun _ h => List.mem_cons_of_mem _ (List.mem_append_right _ h)) hown hK hP 1 rfl rfl 12 (by decide) (hts (.fieldLink RX10 123 "LineCitesModel" "fault" "I") (List.mem_of_getElem? (i := 3) rfl)) (fun _ h9 => h9) rfl dX10_work_120 ?_
    refine va_put (D := D) (ci := 10) (v := .int 1) (ty := .int) (C := RX10) (T := TX10) (N := 25) hx hb hts (fun _ h => List.mem_cons_of_mem _ (List.mem_append_right _ h)) tyX10 tyX10_ok nmX10 hown hK hP hD hS 1 rfl rfl 14 (by decide) (hts (.fieldLink RX10 187 "LineCitesModel" "latest" "I") (List.mem_of_getElem? (i := 42) rfl)) (fun _ h9 => h9) rfl (by decide +kernel) rfl rfl (Nat.le_of_ble_eq_true rfl) dX10_work_123 (fun H locs hP hD hS => ?_)
    have hP : va_P D vwCl [(m_draft, .inl (k_d, 192, .inl g9)), (h0, .inr (10, [.ref m_now, .ref m_draft, .ref m_past, .int 0, .ref m_images, .ref m_kept, .ref m_tape, .int 0, .int 0, .int 0, .int 0, .int (-1), .int 1, .int 0, .int 1, .ref m_low, .ref m_high, .ref m_first, .ref m_second, .ref m_lines, .ref m_others, .int 0, .int 0, .int 0, .int 0]))] H := hP
    have hD : va_D A [(m_draft, .inl (k_d, 192, .inl g9)), (h0, .inr (10, [.ref m_now, .ref m_draft, .ref m_past, .int 0, .ref m_images, .ref m_kept, .ref m_tape, .int 0, .int 0, .int 0, .int 0, .int (-1), .int 1, .int 0, .int 1, .ref m_low, .ref m_high, .ref m_first, .ref m_second, .ref m_lines, .ref m_others, .int 0, .int 0, .int 0, .int 0]))] := hD
    have hK : va_K D vwCl [(k_d, .int)] s := hK
    refine lv_ldc hx hb hown (hts (.constant RX10 190 (-1000100)) (List.mem_of_getElem? (i := 43) rfl)) dX10_work_126 ?_
    refine lv_aload_n hx hb dX10_work_128 rfl (lv_at hl 1 rfl) ?_
    refine va_get (D := D) (ci := 10) (v := .int 0) (C := RX10) (T := TX10) (N := 25) hx hb hts (fun _ h => List.mem_cons_of_mem _ (List.mem_append_right _ h)) hown hK hP 1 rfl rfl 13 (by decide) (hts (.fieldLink RX10 126 "LineCitesModel" "place" "I") (List.mem_of_getElem? (i := 25) rfl)) (fun _ h9 => h9) rfl dX10_work_129 ?_
    refine lv_isub hx hb dX10_work_132 ?_
    refine lv_topi (fun x14 ex14 => ?_)
    obtain rfl : x14 = (-1000100) := ex14.trans (by decide)
    have hP9 := hP.sub (ws' := []) [] rfl
    have hD9 := hD.sub (ws' := []) [] (by decide) rfl
    have hK9 := hK.sub (tys' := []) [] rfl
    refine W.widen (k := 0) (n := 0) (Nat.le_of_ble_eq_true rfl) (Nat.le_of_ble_eq_true rfl) ?_
    exact W.iret (v := (-1000100)) hx hb hr (fun t ht hW => ⟨⟨(-1000100), (), rfl, rfl, by rw [ht]; exact hP9, va_K.moved hW.alike hK9, hD9⟩, hS.F ht⟩) hS.2.2 dX10_work_133
