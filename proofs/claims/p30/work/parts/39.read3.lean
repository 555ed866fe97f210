theorem dX4_readStretch_0 : decode cX4_readStretch 0 = .ok (.aload_n 0, 1) := by decide +kernel
theorem dX4_readStretch_1 : decode cX4_readStretch 1 = .ok (.getfield 48, 3) := by decide +kernel
theorem dX4_readStretch_4 : decode cX4_readStretch 4 = .ok (.invokestatic 61, 3) := by decide +kernel
theorem dX4_readStretch_7 : decode cX4_readStretch 7 = .ok (.istore_n 1, 1) := by decide +kernel
theorem dX4_readStretch_8 : decode cX4_readStretch 8 = .ok (.aload_n 0, 1) := by decide +kernel
theorem dX4_readStretch_9 : decode cX4_readStretch 9 = .ok (.getfield 15, 3) := by decide +kernel
theorem dX4_readStretch_12 : decode cX4_readStretch 12 = .ok (.invokevirtual 65, 3) := by decide +kernel
theorem dX4_readStretch_15 : decode cX4_readStretch 15 = .ok (.iconst 1, 1) := by decide +kernel
theorem dX4_readStretch_16 : decode cX4_readStretch 16 = .ok (.isub, 1) := by decide +kernel
theorem dX4_readStretch_17 : decode cX4_readStretch 17 = .ok (.istore_n 2, 1) := by decide +kernel
theorem dX4_readStretch_18 : decode cX4_readStretch 18 = .ok (.iload_n 1, 1) := by decide +kernel
theorem dX4_readStretch_19 : decode cX4_readStretch 19 = .ok (.ifCond .eq 7, 3) := by decide +kernel
theorem dX4_readStretch_22 : decode cX4_readStretch 22 = .ok (.iload_n 2, 1) := by decide +kernel
theorem dX4_readStretch_23 : decode cX4_readStretch 23 = .ok (.ifCond .ge 9, 3) := by decide +kernel
theorem dX4_readStretch_26 : decode cX4_readStretch 26 = .ok (.aload_n 0, 1) := by decide +kernel
theorem dX4_readStretch_27 : decode cX4_readStretch 27 = .ok (.iconst 1, 1) := by decide +kernel
theorem dX4_readStretch_28 : decode cX4_readStretch 28 = .ok (.invokevirtual 36, 3) := by decide +kernel
theorem dX4_readStretch_31 : decode cX4_readStretch 31 = .ok (.ireturn, 1) := by decide +kernel
theorem dX4_readStretch_32 : decode cX4_readStretch 32 = .ok (.aload_n 0, 1) := by decide +kernel
theorem dX4_readStretch_33 : decode cX4_readStretch 33 = .ok (.getfield 15, 3) := by decide +kernel
theorem dX4_readStretch_36 : decode cX4_readStretch 36 = .ok (.iload_n 2, 1) := by decide +kernel
theorem dX4_readStretch_37 : decode cX4_readStretch 37 = .ok (.invokevirtual 69, 3) := by decide +kernel
theorem dX4_readStretch_40 : decode cX4_readStretch 40 = .ok (.bipush 6, 2) := by decide +kernel
theorem dX4_readStretch_42 : decode cX4_readStretch 42 = .ok (.if_icmp .lt 9, 3) := by decide +kernel
theorem dX4_readStretch_45 : decode cX4_readStretch 45 = .ok (.aload_n 0, 1) := by decide +kernel
theorem dX4_readStretch_46 : decode cX4_readStretch 46 = .ok (.iconst 3, 1) := by decide +kernel
theorem dX4_readStretch_47 : decode cX4_readStretch 47 = .ok (.invokevirtual 36, 3) := by decide +kernel
theorem dX4_readStretch_50 : decode cX4_readStretch 50 = .ok (.ireturn, 1) := by decide +kernel
theorem dX4_readStretch_51 : decode cX4_readStretch 51 = .ok (.aload_n 0, 1) := by decide +kernel
theorem dX4_readStretch_52 : decode cX4_readStretch 52 = .ok (.bipush (-2), 2) := by decide +kernel
theorem dX4_readStretch_54 : decode cX4_readStretch 54 = .ok (.invokevirtual 29, 3) := by decide +kernel
theorem dX4_readStretch_57 : decode cX4_readStretch 57 = .ok (.ifCond .ne 5, 3) := by decide +kernel
theorem dX4_readStretch_60 : decode cX4_readStretch 60 = .ok (.iconst 0, 1) := by decide +kernel
theorem dX4_readStretch_61 : decode cX4_readStretch 61 = .ok (.ireturn, 1) := by decide +kernel
theorem dX4_readStretch_62 : decode cX4_readStretch 62 = .ok (.aload_n 0, 1) := by decide +kernel
theorem dX4_readStretch_63 : decode cX4_readStretch 63 = .ok (.getfield 33, 3) := by decide +kernel
theorem dX4_readStretch_66 : decode cX4_readStretch 66 = .ok (.istore_n 3, 1) := by decide +kernel
theorem dX4_readStretch_67 : decode cX4_readStretch 67 = .ok (.aload_n 0, 1) := by decide +kernel
theorem dX4_readStretch_68 : decode cX4_readStretch 68 = .ok (.getfield 15, 3) := by decide +kernel
theorem dX4_readStretch_71 : decode cX4_readStretch 71 = .ok (.iload_n 2, 1) := by decide +kernel
theorem dX4_readStretch_72 : decode cX4_readStretch 72 = .ok (.iconst (-1), 1) := by decide +kernel
theorem dX4_readStretch_73 : decode cX4_readStretch 73 = .ok (.iload_n 3, 1) := by decide +kernel
theorem dX4_readStretch_74 : decode cX4_readStretch 74 = .ok (.invokevirtual 72, 3) := by decide +kernel
theorem dX4_readStretch_77 : decode cX4_readStretch 77 = .ok (.ifCond .ne 9, 3) := by decide +kernel
theorem dX4_readStretch_80 : decode cX4_readStretch 80 = .ok (.aload_n 0, 1) := by decide +kernel
theorem dX4_readStretch_81 : decode cX4_readStretch 81 = .ok (.iconst 2, 1) := by decide +kernel
theorem dX4_readStretch_82 : decode cX4_readStretch 82 = .ok (.invokevirtual 36, 3) := by decide +kernel
theorem dX4_readStretch_85 : decode cX4_readStretch 85 = .ok (.ireturn, 1) := by decide +kernel
theorem dX4_readStretch_86 : decode cX4_readStretch 86 = .ok (.aload_n 0, 1) := by decide +kernel
theorem dX4_readStretch_87 : decode cX4_readStretch 87 = .ok (.bipush 44, 2) := by decide +kernel
theorem dX4_readStretch_89 : decode cX4_readStretch 89 = .ok (.invokevirtual 29, 3) := by decide +kernel
theorem dX4_readStretch_92 : decode cX4_readStretch 92 = .ok (.ifCond .eq 12, 3) := by decide +kernel
theorem dX4_readStretch_95 : decode cX4_readStretch 95 = .ok (.aload_n 0, 1) := by decide +kernel
theorem dX4_readStretch_96 : decode cX4_readStretch 96 = .ok (.bipush (-2), 2) := by decide +kernel
theorem dX4_readStretch_98 : decode cX4_readStretch 98 = .ok (.invokevirtual 29, 3) := by decide +kernel
theorem dX4_readStretch_101 : decode cX4_readStretch 101 = .ok (.ifCond .ne 5, 3) := by decide +kernel
theorem dX4_readStretch_104 : decode cX4_readStretch 104 = .ok (.iconst 0, 1) := by decide +kernel
theorem dX4_readStretch_105 : decode cX4_readStretch 105 = .ok (.ireturn, 1) := by decide +kernel
theorem dX4_readStretch_106 : decode cX4_readStretch 106 = .ok (.aload_n 0, 1) := by decide +kernel
theorem dX4_readStretch_107 : decode cX4_readStretch 107 = .ok (.getfield 33, 3) := by decide +kernel
theorem dX4_readStretch_110 : decode cX4_readStretch 110 = .ok (.istore 4, 2) := by decide +kernel
theorem dX4_readStretch_112 : decode cX4_readStretch 112 = .ok (.aload_n 0, 1) := by decide +kernel
theorem dX4_readStretch_113 : decode cX4_readStretch 113 = .ok (.getfield 15, 3) := by decide +kernel
theorem dX4_readStretch_116 : decode cX4_readStretch 116 = .ok (.iload_n 2, 1) := by decide +kernel
theorem dX4_readStretch_117 : decode cX4_readStretch 117 = .ok (.iconst (-1), 1) := by decide +kernel
theorem dX4_readStretch_118 : decode cX4_readStretch 118 = .ok (.iload_n 3, 1) := by decide +kernel
theorem dX4_readStretch_119 : decode cX4_readStretch 119 = .ok (.iload 4, 2) := by decide +kernel
theorem dX4_readStretch_121 : decode cX4_readStretch 121 = .ok (.invokevirtual 76, 3) := by decide +kernel
theorem dX4_readStretch_124 : decode cX4_readStretch 124 = .ok (.ifCond .ne 9, 3) := by decide +kernel
theorem dX4_readStretch_127 : decode cX4_readStretch 127 = .ok (.aload_n 0, 1) := by decide +kernel
theorem dX4_readStretch_128 : decode cX4_readStretch 128 = .ok (.iconst 2, 1) := by decide +kernel
theorem dX4_readStretch_129 : decode cX4_readStretch 129 = .ok (.invokevirtual 36, 3) := by decide +kernel
theorem dX4_readStretch_132 : decode cX4_readStretch 132 = .ok (.ireturn, 1) := by decide +kernel
theorem dX4_readStretch_133 : decode cX4_readStretch 133 = .ok (.aload_n 0, 1) := by decide +kernel
theorem dX4_readStretch_134 : decode cX4_readStretch 134 = .ok (.bipush 44, 2) := by decide +kernel
theorem dX4_readStretch_136 : decode cX4_readStretch 136 = .ok (.invokevirtual 29, 3) := by decide +kernel
theorem dX4_readStretch_139 : decode cX4_readStretch 139 = .ok (.ifCond .eq 12, 3) := by decide +kernel
theorem dX4_readStretch_142 : decode cX4_readStretch 142 = .ok (.aload_n 0, 1) := by decide +kernel
theorem dX4_readStretch_143 : decode cX4_readStretch 143 = .ok (.bipush (-2), 2) := by decide +kernel
theorem dX4_readStretch_145 : decode cX4_readStretch 145 = .ok (.invokevirtual 29, 3) := by decide +kernel
theorem dX4_readStretch_148 : decode cX4_readStretch 148 = .ok (.ifCond .ne 5, 3) := by decide +kernel
theorem dX4_readStretch_151 : decode cX4_readStretch 151 = .ok (.iconst 0, 1) := by decide +kernel
theorem dX4_readStretch_152 : decode cX4_readStretch 152 = .ok (.ireturn, 1) := by decide +kernel
theorem dX4_readStretch_153 : decode cX4_readStretch 153 = .ok (.aload_n 0, 1) := by decide +kernel
theorem dX4_readStretch_154 : decode cX4_readStretch 154 = .ok (.getfield 33, 3) := by decide +kernel
theorem dX4_readStretch_157 : decode cX4_readStretch 157 = .ok (.istore 5, 2) := by decide +kernel
theorem dX4_readStretch_159 : decode cX4_readStretch 159 = .ok (.aload_n 0, 1) := by decide +kernel
theorem dX4_readStretch_160 : decode cX4_readStretch 160 = .ok (.getfield 15, 3) := by decide +kernel
theorem dX4_readStretch_163 : decode cX4_readStretch 163 = .ok (.iload_n 1, 1) := by decide +kernel
theorem dX4_readStretch_164 : decode cX4_readStretch 164 = .ok (.iload 4, 2) := by decide +kernel
theorem dX4_readStretch_166 : decode cX4_readStretch 166 = .ok (.iload 5, 2) := by decide +kernel
theorem dX4_readStretch_168 : decode cX4_readStretch 168 = .ok (.invokevirtual 80, 3) := by decide +kernel
theorem dX4_readStretch_171 : decode cX4_readStretch 171 = .ok (.ifCond .ne 9, 3) := by decide +kernel
theorem dX4_readStretch_174 : decode cX4_readStretch 174 = .ok (.aload_n 0, 1) := by decide +kernel
theorem dX4_readStretch_175 : decode cX4_readStretch 175 = .ok (.iconst 2, 1) := by decide +kernel
theorem dX4_readStretch_176 : decode cX4_readStretch 176 = .ok (.invokevirtual 36, 3) := by decide +kernel
theorem dX4_readStretch_179 : decode cX4_readStretch 179 = .ok (.ireturn, 1) := by decide +kernel
theorem dX4_readStretch_180 : decode cX4_readStretch 180 = .ok (.aload_n 0, 1) := by decide +kernel
theorem dX4_readStretch_181 : decode cX4_readStretch 181 = .ok (.bipush 59, 2) := by decide +kernel
theorem dX4_readStretch_183 : decode cX4_readStretch 183 = .ok (.invokevirtual 29, 3) := by decide +kernel
theorem dX4_readStretch_186 : decode cX4_readStretch 186 = .ok (.ifCond .ne 5, 3) := by decide +kernel
theorem dX4_readStretch_189 : decode cX4_readStretch 189 = .ok (.iconst 0, 1) := by decide +kernel
theorem dX4_readStretch_190 : decode cX4_readStretch 190 = .ok (.ireturn, 1) := by decide +kernel
theorem dX4_readStretch_191 : decode cX4_readStretch 191 = .ok (.aload_n 0, 1) := by decide +kernel
theorem dX4_readStretch_192 : decode cX4_readStretch 192 = .ok (.getfield 15, 3) := by decide +kernel
theorem dX4_readStretch_195 : decode cX4_readStretch 195 = .ok (.iload_n 2, 1) := by decide +kernel
theorem dX4_readStretch_196 : decode cX4_readStretch 196 = .ok (.iload_n 1, 1) := by decide +kernel
theorem dX4_readStretch_197 : decode cX4_readStretch 197 = .ok (.iload_n 3, 1) := by decide +kernel
theorem dX4_readStretch_198 : decode cX4_readStretch 198 = .ok (.iload 4, 2) := by decide +kernel
theorem dX4_readStretch_200 : decode cX4_readStretch 200 = .ok (.iload 5, 2) := by decide +kernel
theorem dX4_readStretch_202 : decode cX4_readStretch 202 = .ok (.invokevirtual 83, 3) := by decide +kernel
theorem dX4_readStretch_205 : decode cX4_readStretch 205 = .ok (.iconst 1, 1) := by decide +kernel
theorem dX4_readStretch_206 : decode cX4_readStretch 206 = .ok (.ireturn, 1) := by decide +kernel
theorem dX4_readEdition_0 : decode cX4_readEdition 0 = .ok (.aload_n 0, 1) := by decide +kernel
theorem dX4_readEdition_1 : decode cX4_readEdition 1 = .ok (.getfield 15, 3) := by decide +kernel
theorem dX4_readEdition_4 : decode cX4_readEdition 4 = .ok (.invokevirtual 58, 3) := by decide +kernel
theorem dX4_readEdition_7 : decode cX4_readEdition 7 = .ok (.ifCond .ne 11, 3) := by decide +kernel
theorem dX4_readEdition_10 : decode cX4_readEdition 10 = .ok (.aload_n 0, 1) := by decide +kernel
theorem dX4_readEdition_11 : decode cX4_readEdition 11 = .ok (.iconst 3, 1) := by decide +kernel
theorem dX4_readEdition_12 : decode cX4_readEdition 12 = .ok (.invokevirtual 36, 3) := by decide +kernel
theorem dX4_readEdition_15 : decode cX4_readEdition 15 = .ok (.ifCond .eq 7, 3) := by decide +kernel
theorem dX4_readEdition_18 : decode cX4_readEdition 18 = .ok (.iconst 1, 1) := by decide +kernel
theorem dX4_readEdition_19 : decode cX4_readEdition 19 = .ok (.goto 4, 3) := by decide +kernel
theorem dX4_readEdition_22 : decode cX4_readEdition 22 = .ok (.iconst 0, 1) := by decide +kernel
theorem dX4_readEdition_23 : decode cX4_readEdition 23 = .ok (.ireturn, 1) := by decide +kernel
def w_X4_readStretch : List Cond := .code yX4_readStretch cX4_readStretch 6 (some .boolean) :: ([.fieldLink RX4 48 "LineCites$Reader" "token" "I", .methodLink RX4 61 yX4_kindOf, .static yX4_kindOf, .initialized RX4, .code yX4_kindOf cX4_kindOf 1 (some .int), .fieldLink RX4 15 "LineCites$Reader" "draft" "LLineCites$Work;", .methodLink RX4 65 yX8_editions, .instanceMethod yX8_editions, .selects RX8 yX8_editions yX8_editions, .initialized RX8, .code yX8_editions cX8_editions 1 (some .int), .fieldLink RX8 37 "LineCites$Work" "editions" "I", .methodLink RX4 36 yX4_refuse, .instanceMethod yX4_refuse, .selects RX4 yX4_refuse yX4_refuse, .code yX4_refuse cX4_refuse 2 (some .boolean), .fieldLink RX4 19 "LineCites$Reader" "faultNumber" "I", .methodLink RX4 69 yX8_stretchesOf, .instanceMethod yX8_stretchesOf, .selects RX8 yX8_stretchesOf yX8_stretchesOf, .code yX8_stretchesOf cX8_stretchesOf 2 (some .int), .methodLink RX8 43 yX8_hasEdition, .instanceMethod yX8_hasEdition, .selects RX8 yX8_hasEdition yX8_hasEdition, .code yX8_hasEdition cX8_hasEdition 2 (some .boolean), .fieldLink RX8 9 "LineCites$Work" "stretchCounts" "[I", .methodLink RX4 29 yX4_expect, .instanceMethod yX4_expect, .selects RX4 yX4_expect yX4_expect, .code yX4_expect cX4_expect 2 (some .boolean), .methodLink RX4 45 yX4_step, .instanceMethod yX4_step, .selects RX4 yX4_step yX4_step, .code yX4_step cX4_step 2 none, .fieldLink RX4 26 "LineCites$Reader" "at" "I", .fieldLink RX4 23 "LineCites$Reader" "place" "I", .fieldLink RX4 9 "LineCites$Reader" "tape" "LLineCites$Tape;", .methodLink RX4 87 yX7_size, .instanceMethod yX7_size, .selects RX7 yX7_size yX7_size, .initialized RX7, .code yX7_size cX7_size 1 (some .int), .fieldLink RX7 15 "LineCites$Tape" "size" "I", .methodLink RX4 92 yX7_byteAt, .instanceMethod yX7_byteAt, .selects RX7 yX7_byteAt yX7_byteAt, .code yX7_byteAt cX7_byteAt 2 (some .int), .fieldLink RX7 9 "LineCites$Tape" "bytes" "[B", .methodLink RX4 95 yX4_isFigure, .static yX4_isFigure, .code yX4_isFigure cX4_isFigure 1 (some .boolean), .methodLink RX4 98 yX4_stepOverFigures, .instanceMethod yX4_stepOverFigures, .selects RX4 yX4_stepOverFigures yX4_stepOverFigures, .code yX4_stepOverFigures cX4_stepOverFigures 1 none, .fieldLink RX4 33 "LineCites$Reader" "value" "I", .methodLink RX4 72 yX8_fromFits, .instanceMethod yX8_fromFits, .selects RX8 yX8_fromFits yX8_fromFits, .code yX8_fromFits cX8_fromFits 4 (some .boolean), .methodLink RX8 77 yX8_hasLine, .instanceMethod yX8_hasLine, .selects RX8 yX8_hasLine yX8_hasLine, .code yX8_hasLine cX8_hasLine 2 (some .boolean), .fieldLink RX8 33 "LineCites$Work" "lines" "I", .methodLink RX8 80 yX8_isFree, .instanceMethod yX8_isFree, .selects RX8 yX8_isFree yX8_isFree, .code yX8_isFree cX8_isFree 8 (some .boolean), .methodLink RX8 47 yX8_stretchesOf, .methodLink RX8 63 yX8_part, .instanceMethod yX8_part, .selects RX8 yX8_part yX8_part, .code yX8_part cX8_part 5 (some .int), .methodLink RX8 51 yX8_placeOf, .static yX8_placeOf, .code yX8_placeOf cX8_placeOf 3 (some .int), .fieldLink RX8 15 "LineCites$Work" "stretchParts" "[I", .methodLink RX4 76 yX8_manyFits, .instanceMethod yX8_manyFits, .selects RX8 yX8_manyFits yX8_manyFits, .code yX8_manyFits cX8_manyFits 5 (some .boolean), .methodLink RX4 80 yX8_firstFits, .instanceMethod yX8_firstFits, .selects RX8 yX8_firstFits yX8_firstFits, .code yX8_firstFits cX8_firstFits 4 (some .boolean), .initialized RX9, .static yX9_isNumber, .code yX9_isNumber cX9_isNumber 1 (some .boolean), .static yX9_greatestOf, .code yX9_greatestOf cX9_greatestOf 3 (some .int), .methodLink RX9 347 yX9_highOf, .static yX9_highOf, .code yX9_highOf cX9_highOf 5 (some .int), .methodLink RX9 343 yX9_lowOf, .static yX9_lowOf, .code yX9_lowOf cX9_lowOf 4 (some .int), .methodLink RX4 83 yX8_putStretch, .instanceMethod yX8_putStretch, .selects RX8 yX8_putStretch yX8_putStretch, .code yX8_putStretch cX8_putStretch 7 none, .methodLink RX8 55 yX8_setPart, .instanceMethod yX8_setPart, .selects RX8 yX8_setPart yX8_setPart, .code yX8_setPart cX8_setPart 6 none] ++ wsX40 ++ wsX80 ++ wsX70)
set_option maxRecDepth 20000 in
theorem g_X4_readStretch_X4_kindOf : GoodIn w_X4_readStretch (wsS RX4 61 yX4_kindOf w_X4_kindOf) := goodIn_r _ [2, 3, 4, 5] rfl (by decide +kernel)
set_option maxRecDepth 20000 in
theorem g_X4_readStretch_X8_editions : GoodIn w_X4_readStretch (wsV RX4 65 RX8 yX8_editions w_X8_editions) := goodIn_r _ [7, 8, 9, 10, 11, 12, 113, 114, 115, 116, 117, 118, 119, 120] rfl (by decide +kernel)
set_option maxRecDepth 20000 in
theorem g_X4_readStretch_X4_refuse : GoodIn w_X4_readStretch (wsV RX4 36 RX4 yX4_refuse w_X4_refuse) := goodIn_r _ [13, 14, 15, 4, 16, 17, 106, 107, 108, 109, 110, 111, 112] rfl (by decide +kernel)
set_option maxRecDepth 20000 in
theorem g_X4_readStretch_X8_stretchesOf__f : GoodIn w_X4_readStretch (wsV RX4 69 RX8 yX8_stretchesOf w_X8_stretchesOf__f) := goodIn_r _ [18, 19, 20, 10, 21, 22, 23, 24, 10, 25, 12, 26, 113, 114, 115, 116, 117, 118, 119, 120] rfl (by decide +kernel)
set_option maxRecDepth 20000 in
theorem g_X4_readStretch_X4_expect : GoodIn w_X4_readStretch (wsV RX4 29 RX4 yX4_expect w_X4_expect) := goodIn_r _ [27, 28, 29, 4, 30, 31, 32, 33, 4, 34, 35, 36, 37, 38, 39, 40, 41, 42, 43, 44, 45, 46, 47, 48, 49, 50, 51, 1, 52, 53, 54, 55, 56, 13, 14, 15, 16, 17, 106, 107, 108, 109, 110, 111, 112, 121, 122, 123] rfl (by decide +kernel)
set_option maxRecDepth 20000 in
theorem g_X4_readStretch_X8_fromFits__f : GoodIn w_X4_readStretch (wsV RX4 72 RX8 yX8_fromFits w_X8_fromFits__f) := goodIn_r _ [57, 58, 59, 10, 60, 61, 62, 63, 10, 64, 65, 66, 67, 68, 69, 70, 19, 20, 21, 22, 23, 24, 25, 12, 26, 71, 72, 73, 74, 75, 76, 77, 78, 113, 114, 115, 116, 117, 118, 119, 120] rfl (by decide +kernel)
set_option maxRecDepth 20000 in
theorem g_X4_readStretch_X8_manyFits__f : GoodIn w_X4_readStretch (wsV RX4 76 RX8 yX8_manyFits w_X8_manyFits__f) := goodIn_r _ [79, 80, 81, 10, 82, 65, 66, 67, 68, 10, 69, 70, 19, 20, 21, 22, 23, 24, 25, 12, 26, 71, 72, 73, 74, 75, 76, 77, 78, 113, 114, 115, 116, 117, 118, 119, 120] rfl (by decide +kernel)
set_option maxRecDepth 20000 in
theorem g_X4_readStretch_X8_firstFits__f : GoodIn w_X4_readStretch (wsV RX4 80 RX8 yX8_firstFits w_X8_firstFits__f) := goodIn_r _ [83, 84, 85, 10, 86, 87, 88, 89, 90, 91, 92, 93, 94, 95, 96, 97] rfl (by decide +kernel)
set_option maxRecDepth 20000 in
theorem g_X4_readStretch_X8_putStretch__f : GoodIn w_X4_readStretch (wsV RX4 83 RX8 yX8_putStretch w_X8_putStretch__f) := goodIn_r _ [98, 99, 100, 10, 101, 70, 19, 20, 10, 21, 22, 23, 24, 25, 12, 26, 102, 103, 104, 105, 75, 76, 77, 78, 113, 114, 115, 116, 117, 118, 119, 120] rfl (by decide +kernel)
set_option maxHeartbeats 4000000 in
set_option maxRecDepth 100000 in
theorem c_X4_readStretch (l : Launch) (D : va_G) (h0 : Nat) (a_tape : Nat) (a_d : Nat) (i_at : Int32) (i_tk : Int32) (i_pl : Int32) (i_vl : Int32) (i_fn : Int32) (y_by : Nat) (i_sz : Int32) (i_lf : Int32) (kB : ClassId) (g_by : Nat → Int32) (b_sc : Nat) (b_sp : Nat) (b_cp : Nat) (b_sn : Nat) (b_sl : Nat) (i_li : Int32) (i_ed : Int32) (i_se : Int32) (kI : ClassId) (g_b_sc : Nat → Int32) (g_b_sp : Nat → Int32) (a : Nat) (ke : Nat) (ps : List (Int × Int)) (sz : Nat) (h0i_sz : 0 ≤ i_sz.toInt) (h1i_sz : i_sz.toInt ≤ 200) (hna : i_at.toInt = ((a : Nat) : Int)) (hle : i_at.toInt ≤ i_sz.toInt) (h0i_ed : 0 ≤ i_ed.toInt) (h1i_ed : i_ed.toInt ≤ 5) (h0i_li : 1 ≤ i_li.toInt) (h1i_li : i_li.toInt ≤ 200) (hed : i_ed.toInt = 0 ∨ i_ed.toInt = (ke : Int) + 1) (hdR0 : 0 < i_ed.toInt → dR g_b_sc g_b_sp ke ps) (hg_b_sp : bP g_b_sp) : Met l yX4_readStretch w_X4_readStretch ({ frames := 4, cells := 0, slots := 0, locals := 97 }) (va_Pc [.ref h0] (fun U => U.heap.size = sz ∧ va_P D vwCl [(h0, .inr (4, [.ref a_tape, .ref a_d, .int i_at, .int i_tk, .int i_pl, .int i_vl, .int i_fn])), (a_tape, .inr (7, [.ref y_by, .int i_sz, .int i_lf])), (y_by, .inl (kB, 200, .inl g_by)), (a_d, .inr (8, [.ref b_sc, .ref b_sp, .ref b_cp, .ref b_sn, .ref b_sl, .int i_li, .int i_ed, .int i_se])), (b_sc, .inl (kI, 5, .inl g_b_sc)), (b_sp, .inl (kI, 120, .inl g_b_sp))] U.heap ∧ va_K D vwCl [(kI, .int), (kB, .byte)] U ∧ va_D (fun _ => True) [(h0, .inr (4, [.ref a_tape, .ref a_d, .int i_at, .int i_tk, .int i_pl, .int i_vl, .int i_fn])), (a_tape, .inr (7, [.ref y_by, .int i_sz, .int i_lf])), (y_by, .inl (kB, 200, .inl g_by)), (a_d, .inr (8, [.ref b_sc, .ref b_sp, .ref b_cp, .ref b_sn, .ref b_sl, .int i_li, .int i_ed, .int i_se])), (b_sc, .inl (kI, 5, .inl g_b_sc)), (b_sp, .inl (kI, 120, .inl g_b_sp))] ∧ va_Nw (.methodLinkNest RX8 83 yX9_isNumber "LineCites") U ∧ va_Nw (.methodLinkNest RX8 86 yX9_greatestOf "LineCites") U)) (va_Qi (fun (r : Int32) (_ : Unit) => (r = 0 ∨ r = 1) ∧ r.toInt = bI (0 < i_ed.toInt ∧ uStr (tC g_by) i_sz.toInt.toNat i_li.toInt i_tk.toInt a ps)) (fun (_ : Unit) t => ∃ (n_at : Int32) (n_tk : Int32) (n_pl : Int32) (n_vl : Int32) (n_fn : Int32) (n_sc : Nat → Int32) (n_sp : Nat → Int32), va_P D vwCl [(h0, .inr (4, [.ref a_tape, .ref a_d, .int n_at, .int n_tk, .int n_pl, .int n_vl, .int n_fn])), (a_tape, .inr (7, [.ref y_by, .int i_sz, .int i_lf])), (y_by, .inl (kB, 200, .inl g_by)), (a_d, .inr (8, [.ref b_sc, .ref b_sp, .ref b_cp, .ref b_sn, .ref b_sl, .int i_li, .int i_ed, .int i_se])), (b_sc, .inl (kI, 5, .inl n_sc)), (b_sp, .inl (kI, 120, .inl n_sp))] t.heap ∧ va_K D vwCl [(kI, .int), (kB, .byte)] t ∧ va_D (va_A [(h0, .inr (4, [.ref a_tape, .ref a_d, .int i_at, .int i_tk, .int i_pl, .int i_vl, .int i_fn])), (a_tape, .inr (7, [.ref y_by, .int i_sz, .int i_lf])), (y_by, .inl (kB, 200, .inl g_by)), (a_d, .inr (8, [.ref b_sc, .ref b_sp, .ref b_cp, .ref b_sn, .ref b_sl, .int i_li, .int i_ed, .int i_se])), (b_sc, .inl (kI, 5, .inl g_b_sc)), (b_sp, .inl (kI, 120, .inl g_b_sp))] sz) [(h0, .inr (4, [.ref a_tape, .ref a_d, .int n_at, .int n_tk, .int n_pl, .int n_vl, .int n_fn])), (a_tape, .inr (7, [.ref y_by, .int i_sz, .int i_lf])), (y_by, .inl (kB, 200, .inl g_by)), (a_d, .inr (8, [.ref b_sc, .ref b_sp, .ref b_cp, .ref b_sn, .ref b_sl, .int i_li, .int i_ed, .int i_se])), (b_sc, .inl (kI, 5, .inl n_sc)), (b_sp, .inl (kI, 120, .inl n_sp))] ∧ bP n_sp ∧ (bI (0 < i_ed.toInt ∧ uStr (tC g_by) i_sz.toInt.toNat i_li.toInt i_tk.toInt a ps) = 1 → dR n_sc n_sp ke (uPut (tC g_by) i_sz.toInt.toNat a ps)) ∧ (bI (0 < i_ed.toInt ∧ uStr (tC g_by) i_sz.toInt.toNat i_li.toInt i_tk.toInt a ps) = 1 → n_at.toInt = ((uNx6 (tC g_by) i_sz.toInt.toNat a : Nat) : Int)) ∧ (0 ≤ n_at.toInt ∧ n_at.toInt ≤ i_sz.toInt ∧ i_at.toInt ≤ n_at.toInt)) (va_A [(h0, .inr (4, [.ref a_tape, .ref a_d, .int i_at, .int i_tk, .int i_pl, .int i_vl, .int i_fn])), (a_tape, .inr (7, [.ref y_by, .int i_sz, .int i_lf])), (y_by, .inl (kB, 200, .inl g_by)), (a_d, .inr (8, [.ref b_sc, .ref b_sp, .ref b_cp, .ref b_sn, .ref b_sl, .int i_li, .int i_ed, .int i_se])), (b_sc, .inl (kI, 5, .inl g_b_sc)), (b_sp, .inl (kI, 120, .inl g_b_sp))] sz)) 0 0 (va_A [(h0, .inr (4, [.ref a_tape, .ref a_d, .int i_at, .int i_tk, .int i_pl, .int i_vl, .int i_fn])), (a_tape, .inr (7, [.ref y_by, .int i_sz, .int i_lf])), (y_by, .inl (kB, 200, .inl g_by)), (a_d, .inr (8, [.ref b_sc, .ref b_sp, .ref b_cp, .ref b_sn, .ref b_sl, .int i_li, .int i_ed, .int i_se])), (b_sc, .inl (kI, 5, .inl g_b_sc)), (b_sp, .inl (kI, 120, .inl g_b_sp))] sz) := by
  refine Met.ofW (cc := cX4_readStretch) (maxL := 6) (ret := (some .boolean)) (by decide) rfl ?_
  intro p e s m args below meth c s₁ B hml hv
  obtain ⟨rfl, hsz, hP, hK, hD0, hN8_83, hN8_86⟩ := hv
  have hx := B.exec
  have hb := B.bytes
  have hr := B.returns
  have hts := atoms_spec (ws := w_X4_readStretch) B.pre
  have hown : s.vm.findClass RX4 = some m.cls := findClass_of_methodNamed B.named
  have hlocks := B.notSynchronized
  subst hsz
  have hD := hD0.self (sz := s.heap.size)
  generalize hAe : va_A [(h0, .inr (4, [.ref a_tape, .ref a_d, .int i_at, .int i_tk, .int i_pl, .int i_vl, .int i_fn])), (a_tape, .inr (7, [.ref y_by, .int i_sz, .int i_lf])), (y_by, .inl (kB, 200, .inl g_by)), (a_d, .inr (8, [.ref b_sc, .ref b_sp, .ref b_cp, .ref b_sn, .ref b_sl, .int i_li, .int i_ed, .int i_se])), (b_sc, .inl (kI, 5, .inl g_b_sc)), (b_sp, .inl (kI, 120, .inl g_b_sp))] s.heap.size = A at hD ⊢
  have hA : ∀ q : Nat, s.heap.size ≤ q → A q := fun q h => by rw [← hAe]; exact Or.inr h
  have hS : va_S A s.heap s.heap [] := va_S.rf
  have hP : va_P D vwCl [(h0, .inr (4, [.ref a_tape, .ref a_d, .int i_at, .int i_tk, .int i_pl, .int i_vl, .int i_fn])), (a_tape, .inr (7, [.ref y_by, .int i_sz, .int i_lf])), (y_by, .inl (kB, 200, .inl g_by)), (a_d, .inr (8, [.ref b_sc, .ref b_sp, .ref b_cp, .ref b_sn, .ref b_sl, .int i_li, .int i_ed, .int i_se])), (b_sc, .inl (kI, 5, .inl g_b_sc)), (b_sp, .inl (kI, 120, .inl g_b_sp))] s.heap := hP
  have hl := lv_entry ([.ref h0]) (n := 6) (Nat.le_of_ble_eq_true rfl)
  rw [lg_entry_eq]
  generalize (lg_sl ([.ref h0]) ++ List.replicate (6 - (lg_sl ([.ref h0])).length) Slot.unset).toArray = ls at hl ⊢
  have hl : lv_has ls 6 [(0, .ref h0)] := hl
  obtain ⟨H, hHe⟩ : ∃ H : Heap, H = s.heap := ⟨_, rfl⟩
  rw [← hHe] at hP
  have hS : va_S A s.heap H [] := by rw [hHe]; exact hS
  refine pw_heap hHe ?_
  refine lv_aload_n hx hb dX4_readStretch_0 rfl (lv_at hl 0 rfl) ?_
  refine va_get (D := D) (ci := 4) (v := .int i_tk) (C := RX4) (T := TX4) (N := 7) hx hb hts (fun _ h => List.mem_cons_of_mem _ (List.mem_append_left _ (List.mem_append_left _ (List.mem_append_right _ h)))) hown hK hP 0 rfl rfl 3 (by decide) (hts (.fieldLink RX4 48 "LineCites$Reader" "token" "I") (List.mem_of_getElem? (i := 1) rfl)) (fun _ h9 => h9) rfl dX4_readStretch_1 ?_
  have hPc := hP.sub (ws' := []) [] rfl
  have hKc := hK.sub (tys' := []) [] rfl
  refine va_calli (va_runS (As := [.int i_tk]) (rest := []) ⟨hx, hb, hml, hown, hts⟩ (c_X4_kindOf l D i_tk) (cwS 1 hts g_X4_readStretch_X4_kindOf rfl rfl rfl (by decide +kernel) ⟨Nat.le_of_ble_eq_true rfl, Nat.le_of_ble_eq_true rfl⟩) ⟨fun a U g mk q => by obtain ⟨q0, qP, qK⟩ := q; exact ⟨q0, qP, va_K.moved (u := U) (U := U.calling g mk a) (Vm.Alike.refl U.vm) qK⟩, fun U hU hW => ⟨rfl, by rw [hU]; exact hPc, va_K.moved hW.alike hKc⟩⟩ rfl rfl hl.1 rfl (lv_room (Nat.le_of_ble_eq_true rfl)) dX4_readStretch_4 ⟨Nat.le_of_ble_eq_true rfl, Nat.le_of_ble_eq_true rfl⟩) hS (fun _ _ h => h.elim) (fun _ h => h.elim) (fun r1 u t H1 locs ht hvm hw hB hz1 hk1 hS => ?_)
  have hP := pw_keep hP (fun q hq => hk1 q hq (fun h => h))
  generalize H1 = H at hP hS ⊢
  refine W.widen (k := 0) (n := 0) (Nat.le_of_ble_eq_true rfl) (Nat.le_of_ble_eq_true rfl) ?_
  have hfr1 := hw
  refine lv_istore_n (lv' := [(1, .int r1), (0, .ref h0)]) hx hb dX4_readStretch_7 rfl hl (by decide) rfl (fun ls hl => ?_)
  refine lv_aload_n hx hb dX4_readStretch_8 rfl (lv_at hl 1 rfl) ?_
  refine va_get (D := D) (ci := 4) (v := .ref a_d) (C := RX4) (T := TX4) (N := 7) hx hb hts (fun _ h => List.mem_cons_of_mem _ (List.mem_append_left _ (List.mem_append_left _ (List.mem_append_right _ h)))) hown hK hP 0 rfl rfl 1 (by decide) (hts (.fieldLink RX4 15 "LineCites$Reader" "draft" "LLineCites$Work;") (List.mem_of_getElem? (i := 6) rfl)) (fun _ h9 => h9) rfl dX4_readStretch_9 ?_
  have hPc := hP.sub (ws' := [(a_d, .inr (8, [.ref b_sc, .ref b_sp, .ref b_cp, .ref b_sn, .ref b_sl, .int i_li, .int i_ed, .int i_se]))]) [3] rfl
  have hKc := hK.sub (tys' := []) [] rfl
  refine va_calli (va_runV (As := []) (rest := []) ⟨hx, hb, hml, hown, hts⟩ (c_X8_editions l D a_d b_sc b_sp b_cp b_sn b_sl i_li i_ed i_se) (cwV 0 hts g_X4_readStretch_X8_editions rfl rfl rfl (by decide +kernel) ⟨Nat.le_of_ble_eq_true rfl, Nat.le_of_ble_eq_true rfl⟩) ⟨fun a U g mk q => by obtain ⟨q0, qP, qK⟩ := q; exact ⟨q0, qP, va_K.moved (u := U) (U := U.calling g mk a) (Vm.Alike.refl U.vm) qK⟩, va_recv hKc hPc (ci := 8) (q0 := 0) rfl rfl, fun U hU hW => ⟨rfl, by rw [hU]; exact hPc, va_K.moved hW.alike hKc⟩⟩ rfl rfl hl.1 rfl (lv_room (Nat.le_of_ble_eq_true rfl)) dX4_readStretch_12 ⟨Nat.le_of_ble_eq_true rfl, Nat.le_of_ble_eq_true rfl⟩) hS (fun _ _ h => h.elim) (fun _ h => h.elim) (fun r2 u t H1 locs ht hvm hw hB hz1 hk1 hS => ?_)
  have hP := pw_keep hP (fun q hq => hk1 q hq (fun h => h))
  generalize H1 = H at hP hS ⊢
  refine W.widen (k := 0) (n := 0) (Nat.le_of_ble_eq_true rfl) (Nat.le_of_ble_eq_true rfl) ?_
  rw [show r2 = i_ed from hw]
  refine lv_iconst (v := 1) hx hb dX4_readStretch_15 (by decide) ?_
  refine lv_isub hx hb dX4_readStretch_16 ?_
  refine lv_topi (fun x3 ex3 => ?_)
  have tx3 : x3.toInt = i_ed.toInt - 1 := pw_subX ex3 rfl (by decide) (by omega) (by omega)
  refine lv_istore_n (lv' := [(2, .int x3), (1, .int r1), (0, .ref h0)]) hx hb dX4_readStretch_17 rfl hl (by decide) rfl (fun ls hl => ?_)
  refine lv_iload_n hx hb dX4_readStretch_18 rfl (lv_at hl 1 rfl) ?_
  refine lv_if_eq (tgt := 26) hx hb dX4_readStretch_19 (by decide) (fun c4 => ?_) (fun c4 => ?_)
  · have nc4 : r1.toInt = 0 := pw_eq c4 rfl (by decide)
    refine lv_aload_n hx hb dX4_readStretch_26 rfl (lv_at hl 2 rfl) ?_
    refine lv_iconst (v := 1) hx hb dX4_readStretch_27 (by decide) ?_
    have hPc := hP.sub (ws' := [(h0, .inr (4, [.ref a_tape, .ref a_d, .int i_at, .int i_tk, .int i_pl, .int i_vl, .int i_fn]))]) [0] rfl
    have hKc := hK.sub (tys' := []) [] rfl
    have hDc := hD.sub (ws' := [(h0, .inr (4, [.ref a_tape, .ref a_d, .int i_at, .int i_tk, .int i_pl, .int i_vl, .int i_fn]))]) [0] (by decide) rfl
    have hFc := va_free (wc := [(h0, .inr (4, [.ref a_tape, .ref a_d, .int i_at, .int i_tk, .int i_pl, .int i_vl, .int i_fn]))]) hD hS hA [0] rfl
    refine va_calli (va_runV (As := [.int 1]) (rest := []) ⟨hx, hb, hml, hown, hts⟩ (c_X4_refuse l D h0 1 a_tape a_d i_at i_tk i_pl i_vl i_fn H.size) (cwV 1 hts g_X4_readStretch_X4_refuse rfl rfl rfl (by decide +kernel) ⟨Nat.le_of_ble_eq_true rfl, Nat.le_of_ble_eq_true rfl⟩) ⟨fun a U g mk q => by obtain ⟨q0, q1, qP, qK, qD⟩ := q; exact ⟨q0, q1, qP, va_K.moved (u := U) (U := U.calling g mk a) (Vm.Alike.refl U.vm) qK, qD⟩, va_recv hKc hPc (ci := 4) (q0 := 0) rfl rfl, fun U hU hW => ⟨rfl, by rw [hU], by rw [hU]; exact hPc, va_K.moved hW.alike hKc, hDc.weaken (fun _ _ _ _ => trivial)⟩⟩ rfl rfl hl.1 rfl (lv_room (Nat.le_of_ble_eq_true rfl)) dX4_readStretch_28 ⟨Nat.le_of_ble_eq_true rfl, Nat.le_of_ble_eq_true rfl⟩) hS (fun q _ h => hFc q h) hFc (fun r5 u t H1 locs ht hvm hw hB hz1 hk1 hS => ?_)
    obtain ⟨hP1, hK1, hD1⟩ := hB
    rw [ht] at hP1
    have hK1 := va_K.moved hvm.symm hK1
    obtain ⟨hP, hD⟩ := va_join (wr := [(a_tape, .inr (7, [.ref y_by, .int i_sz, .int i_lf])), (y_by, .inl (kB, 200, .inl g_by)), (a_d, .inr (8, [.ref b_sc, .ref b_sp, .ref b_cp, .ref b_sn, .ref b_sl, .int i_li, .int i_ed, .int i_se])), (b_sc, .inl (kI, 5, .inl g_b_sc)), (b_sp, .inl (kI, 120, .inl g_b_sp))]) (w1 := [(h0, .inr (4, [.ref a_tape, .ref a_d, .int i_at, .int i_tk, .int i_pl, .int i_vl, .int 1]))]) hP hD [0] [1, 2, 3, 4, 5] rfl rfl (by decide) (by decide) hk1 hFc hP1 hD1
    have hK := (hK.sub (tys' := [(kI, .int), (kB, .byte)]) [0, 1] rfl).app hK1
    generalize H1 = H at hP hS ⊢
    have hP : va_P D vwCl [(a_tape, .inr (7, [.ref y_by, .int i_sz, .int i_lf])), (y_by, .inl (kB, 200, .inl g_by)), (a_d, .inr (8, [.ref b_sc, .ref b_sp, .ref b_cp, .ref b_sn, .ref b_sl, .int i_li, .int i_ed, .int i_se])), (b_sc, .inl (kI, 5, .inl g_b_sc)), (b_sp, .inl (kI, 120, .inl g_b_sp)), (h0, .inr (4, [.ref a_tape, .ref a_d, .int i_at, .int i_tk, .int i_pl, .int i_vl, .int 1]))] H := hP
    have hD : va_D A [(a_tape, .inr (7, [.ref y_by, .int i_sz, .int i_lf])), (y_by, .inl (kB, 200, .inl g_by)), (a_d, .inr (8, [.ref b_sc, .ref b_sp, .ref b_cp, .ref b_sn, .ref b_sl, .int i_li, .int i_ed, .int i_se])), (b_sc, .inl (kI, 5, .inl g_b_sc)), (b_sp, .inl (kI, 120, .inl g_b_sp)), (h0, .inr (4, [.ref a_tape, .ref a_d, .int i_at, .int i_tk, .int i_pl, .int i_vl, .int 1]))] := hD
    have hK : va_K D vwCl [(kI, .int), (kB, .byte)] s := hK
    refine W.widen (k := 0) (n := 0) (Nat.le_of_ble_eq_true rfl) (Nat.le_of_ble_eq_true rfl) ?_
    obtain rfl : r5 = 0 := hw
    have hno : ¬ (0 < i_ed.toInt ∧ uStr (tC g_by) i_sz.toInt.toNat i_li.toInt i_tk.toInt a ps) := fun q => by have q2 := q.2; have q3 := q.1; clear q; unfold uStr at q2; omega
    have hP9 := hP.sub (ws' := [(h0, .inr (4, [.ref a_tape, .ref a_d, .int i_at, .int i_tk, .int i_pl, .int i_vl, .int 1])), (a_tape, .inr (7, [.ref y_by, .int i_sz, .int i_lf])), (y_by, .inl (kB, 200, .inl g_by)), (a_d, .inr (8, [.ref b_sc, .ref b_sp, .ref b_cp, .ref b_sn, .ref b_sl, .int i_li, .int i_ed, .int i_se])), (b_sc, .inl (kI, 5, .inl g_b_sc)), (b_sp, .inl (kI, 120, .inl g_b_sp))]) [5, 0, 1, 2, 3, 4] rfl
    have hD9 := hD.sub (ws' := [(h0, .inr (4, [.ref a_tape, .ref a_d, .int i_at, .int i_tk, .int i_pl, .int i_vl, .int 1])), (a_tape, .inr (7, [.ref y_by, .int i_sz, .int i_lf])), (y_by, .inl (kB, 200, .inl g_by)), (a_d, .inr (8, [.ref b_sc, .ref b_sp, .ref b_cp, .ref b_sn, .ref b_sl, .int i_li, .int i_ed, .int i_se])), (b_sc, .inl (kI, 5, .inl g_b_sc)), (b_sp, .inl (kI, 120, .inl g_b_sp))]) [5, 0, 1, 2, 3, 4] (by decide) rfl
    have hK9 := hK.sub (tys' := [(kI, .int), (kB, .byte)]) [0, 1] rfl
    refine W.widen (k := 0) (n := 0) (Nat.le_of_ble_eq_true rfl) (Nat.le_of_ble_eq_true rfl) ?_
    exact W.zret (v := 0) (ty := .boolean) hx hb hr rfl (fun t ht hW => ⟨⟨0, (), rfl, ⟨Or.inl rfl, bI_no hno⟩, i_at, i_tk, i_pl, i_vl, 1, g_b_sc, g_b_sp, by rw [ht]; exact hP9, va_K.moved hW.alike hK9, hD9, hg_b_sp, (fun q => absurd (bI_1 q) hno), (fun q => absurd (bI_1 q) hno), (by omega)⟩, hS.F ht⟩) hS.2.2 dX4_readStretch_31
  · have nc4 : r1.toInt ≠ 0 := pw_ne c4 rfl (by decide)
    refine lv_iload_n hx hb dX4_readStretch_22 rfl (lv_at hl 0 rfl) ?_
    refine lv_if_ge (tgt := 32) hx hb dX4_readStretch_23 (by decide) (fun c6 => ?_) (fun c6 => ?_)
    · have nc6 : 0 ≤ x3.toInt := pw_le c6 (by decide) rfl
      have hdR := hdR0 (by omega)
      have hd1 := hdR.1
      have hd2 := hdR.2.1
      have gk := hfr1.2.2
      refine lv_aload_n hx hb dX4_readStretch_32 rfl (lv_at hl 2 rfl) ?_
      refine va_get (D := D) (ci := 4) (v := .ref a_d) (C := RX4) (T := TX4) (N := 7) hx hb hts (fun _ h => List.mem_cons_of_mem _ (List.mem_append_left _ (List.mem_append_left _ (List.mem_append_right _ h)))) hown hK hP 0 rfl rfl 1 (by decide) (hts (.fieldLink RX4 15 "LineCites$Reader" "draft" "LLineCites$Work;") (List.mem_of_getElem? (i := 6) rfl)) (fun _ h9 => h9) rfl dX4_readStretch_33 ?_
      refine lv_iload_n hx hb dX4_readStretch_36 rfl (lv_at hl 0 rfl) ?_
      have hPc := hP.sub (ws' := [(a_d, .inr (8, [.ref b_sc, .ref b_sp, .ref b_cp, .ref b_sn, .ref b_sl, .int i_li, .int i_ed, .int i_se])), (b_sc, .inl (kI, 5, .inl g_b_sc))]) [3, 4] rfl
      have hKc := hK.sub (tys' := [(kI, .int)]) [0] rfl
      refine va_calli (va_runV (As := [.int x3]) (rest := []) ⟨hx, hb, hml, hown, hts⟩ (c_X8_stretchesOf__f l D a_d x3 b_sc b_sp b_cp b_sn b_sl i_li i_ed i_se kI g_b_sc ke (by first | omega | decide | (have hz0 : (0 : Int32).toInt = 0 := (by decide); omega)) (by first | omega | decide | (have hz0 : (0 : Int32).toInt = 0 := (by decide); omega)) (by first | omega | decide | (have hz0 : (0 : Int32).toInt = 0 := (by decide); omega))) (cwV 1 hts g_X4_readStretch_X8_stretchesOf__f rfl rfl rfl (by decide +kernel) ⟨Nat.le_of_ble_eq_true rfl, Nat.le_of_ble_eq_true rfl⟩) ⟨fun a U g mk q => by obtain ⟨q0, qP, qK⟩ := q; exact ⟨q0, qP, va_K.moved (u := U) (U := U.calling g mk a) (Vm.Alike.refl U.vm) qK⟩, va_recv hKc hPc (ci := 8) (q0 := 0) rfl rfl, fun U hU hW => ⟨rfl, by rw [hU]; exact hPc, va_K.moved hW.alike hKc⟩⟩ rfl rfl hl.1 rfl (lv_room (Nat.le_of_ble_eq_true rfl)) dX4_readStretch_37 ⟨Nat.le_of_ble_eq_true rfl, Nat.le_of_ble_eq_true rfl⟩) hS (fun _ _ h => h.elim) (fun _ h => h.elim) (fun r7 u t H1 locs ht hvm hw hB hz1 hk1 hS => ?_)
      have hP := pw_keep hP (fun q hq => hk1 q hq (fun h => h))
      generalize H1 = H at hP hS ⊢
      refine W.widen (k := 0) (n := 0) (Nat.le_of_ble_eq_true rfl) (Nat.le_of_ble_eq_true rfl) ?_
      have hfr7 := hw
      refine lv_bipush (v := 6) hx hb dX4_readStretch_40 (by decide) ?_
      refine lv_icmp_lt (tgt := 51) hx hb dX4_readStretch_42 (by decide) (fun c8 => ?_) (fun c8 => ?_)
      · have nc8 : r7.toInt < 6 := pw_lt c8 rfl (by decide)
        have g1 : ps.length < 6 := by omega
        refine lv_aload_n hx hb dX4_readStretch_51 rfl (lv_at hl 2 rfl) ?_
        refine lv_bipush (v := (-2)) hx hb dX4_readStretch_52 (by decide) ?_
        have kkm2 : ((-2) : Int32).toInt = (-2) := by decide
        have hPc := hP.sub (ws' := [(h0, .inr (4, [.ref a_tape, .ref a_d, .int i_at, .int i_tk, .int i_pl, .int i_vl, .int i_fn])), (a_tape, .inr (7, [.ref y_by, .int i_sz, .int i_lf])), (y_by, .inl (kB, 200, .inl g_by))]) [0, 1, 2] rfl
        have hKc := hK.sub (tys' := [(kB, .byte)]) [1] rfl
        have hDc := hD.sub (ws' := [(h0, .inr (4, [.ref a_tape, .ref a_d, .int i_at, .int i_tk, .int i_pl, .int i_vl, .int i_fn])), (a_tape, .inr (7, [.ref y_by, .int i_sz, .int i_lf])), (y_by, .inl (kB, 200, .inl g_by))]) [0, 1, 2] (by decide) rfl
        have hFc := va_free (wc := [(h0, .inr (4, [.ref a_tape, .ref a_d, .int i_at, .int i_tk, .int i_pl, .int i_vl, .int i_fn])), (a_tape, .inr (7, [.ref y_by, .int i_sz, .int i_lf])), (y_by, .inl (kB, 200, .inl g_by))]) hD hS hA [0, 1, 2] rfl
        refine va_calli (va_runV (As := [.int (-2)]) (rest := []) ⟨hx, hb, hml, hown, hts⟩ (c_X4_expect l D h0 (-2) a_tape a_d i_at i_tk i_pl i_vl i_fn y_by i_sz i_lf kB g_by a H.size (by first | decide | omega) (by first | decide | omega) (by first | omega | decide | (have hz0 : (0 : Int32).toInt = 0 := (by decide); omega)) (by first | omega | decide | (have hz0 : (0 : Int32).toInt = 0 := (by decide); omega))) (cwV 1 hts g_X4_readStretch_X4_expect rfl rfl rfl (by decide +kernel) ⟨Nat.le_of_ble_eq_true rfl, Nat.le_of_ble_eq_true rfl⟩) ⟨fun a U g mk q => by obtain ⟨q0, q1, qP, qK, qD⟩ := q; exact ⟨q0, q1, qP, va_K.moved (u := U) (U := U.calling g mk a) (Vm.Alike.refl U.vm) qK, qD⟩, va_recv hKc hPc (ci := 4) (q0 := 0) rfl rfl, fun U hU hW => ⟨rfl, by rw [hU], by rw [hU]; exact hPc, va_K.moved hW.alike hKc, hDc.weaken (fun _ _ _ _ => trivial)⟩⟩ rfl rfl hl.1 rfl (lv_room (Nat.le_of_ble_eq_true rfl)) dX4_readStretch_54 ⟨Nat.le_of_ble_eq_true rfl, Nat.le_of_ble_eq_true rfl⟩) hS (fun q _ h => hFc q h) hFc (fun r9 u t H1 locs ht hvm hw hB hz1 hk1 hS => ?_)
        obtain ⟨y10, y11, y12, y13, hP1, hK1, hD1, px0_r9, px1_r9, px2_r9, px3_r9⟩ := hB
        rw [ht] at hP1
        have hK1 := va_K.moved hvm.symm hK1
        obtain ⟨hP, hD⟩ := va_join (wr := [(a_d, .inr (8, [.ref b_sc, .ref b_sp, .ref b_cp, .ref b_sn, .ref b_sl, .int i_li, .int i_ed, .int i_se])), (b_sc, .inl (kI, 5, .inl g_b_sc)), (b_sp, .inl (kI, 120, .inl g_b_sp))]) (w1 := [(h0, .inr (4, [.ref a_tape, .ref a_d, .int y10, .int y11, .int i_at, .int y12, .int y13])), (a_tape, .inr (7, [.ref y_by, .int i_sz, .int i_lf])), (y_by, .inl (kB, 200, .inl g_by))]) hP hD [0, 1, 2] [3, 4, 5] rfl rfl (by decide) (by decide) hk1 hFc hP1 hD1
        have hK := (hK.sub (tys' := [(kI, .int), (kB, .byte)]) [0, 1] rfl).app hK1
        generalize H1 = H at hP hS ⊢
        have hP : va_P D vwCl [(a_d, .inr (8, [.ref b_sc, .ref b_sp, .ref b_cp, .ref b_sn, .ref b_sl, .int i_li, .int i_ed, .int i_se])), (b_sc, .inl (kI, 5, .inl g_b_sc)), (b_sp, .inl (kI, 120, .inl g_b_sp)), (h0, .inr (4, [.ref a_tape, .ref a_d, .int y10, .int y11, .int i_at, .int y12, .int y13])), (a_tape, .inr (7, [.ref y_by, .int i_sz, .int i_lf])), (y_by, .inl (kB, 200, .inl g_by))] H := hP
        have hD : va_D A [(a_d, .inr (8, [.ref b_sc, .ref b_sp, .ref b_cp, .ref b_sn, .ref b_sl, .int i_li, .int i_ed, .int i_se])), (b_sc, .inl (kI, 5, .inl g_b_sc)), (b_sp, .inl (kI, 120, .inl g_b_sp)), (h0, .inr (4, [.ref a_tape, .ref a_d, .int y10, .int y11, .int i_at, .int y12, .int y13])), (a_tape, .inr (7, [.ref y_by, .int i_sz, .int i_lf])), (y_by, .inl (kB, 200, .inl g_by))] := hD
        have hK : va_K D vwCl [(kI, .int), (kB, .byte), (kB, .byte)] s := hK
        refine W.widen (k := 0) (n := 0) (Nat.le_of_ble_eq_true rfl) (Nat.le_of_ble_eq_true rfl) ?_
        have bor9 := hw.1
        have zor9 := pw_boolI bor9
        have hfr9 := hw.2
        refine lv_if_ne (tgt := 62) hx hb dX4_readStretch_57 (by decide) (fun c14 => ?_) (fun c14 => ?_)
        · have nc14 : r9.toInt ≠ 0 := pw_ne c14 rfl (by decide)
          have g2 : tTok (tC g_by) i_sz.toInt.toNat a = -2 := by omega
          have g2v : y12.toInt = tNum (tC g_by) i_sz.toInt.toNat a ∧ 0 ≤ y12.toInt ∧ y12.toInt ≤ 999 := px2_r9 (by omega)
          clear px2_r9 hfr9
          have bar9 := px3_r9.1
          have bbr9 := px3_r9.2.1
          have bcr9 := px3_r9.2.2.1
          clear px3_r9
          refine lv_aload_n hx hb dX4_readStretch_62 rfl (lv_at hl 2 rfl) ?_
          refine va_get (D := D) (ci := 4) (v := .int y12) (C := RX4) (T := TX4) (N := 7) hx hb hts (fun _ h => List.mem_cons_of_mem _ (List.mem_append_left _ (List.mem_append_left _ (List.mem_append_right _ h)))) hown hK hP 3 rfl rfl 5 (by decide) (hts (.fieldLink RX4 33 "LineCites$Reader" "value" "I") (List.mem_of_getElem? (i := 56) rfl)) (fun _ h9 => h9) rfl dX4_readStretch_63 ?_
          refine lv_istore_n (lv' := [(3, .int y12), (2, .int x3), (1, .int r1), (0, .ref h0)]) hx hb dX4_readStretch_66 rfl hl (by decide) rfl (fun ls hl => ?_)
          refine lv_aload_n hx hb dX4_readStretch_67 rfl (lv_at hl 3 rfl) ?_
          refine va_get (D := D) (ci := 4) (v := .ref a_d) (C := RX4) (T := TX4) (N := 7) hx hb hts (fun _ h => List.mem_cons_of_mem _ (List.mem_append_left _ (List.mem_append_left _ (List.mem_append_right _ h)))) hown hK hP 3 rfl rfl 1 (by decide) (hts (.fieldLink RX4 15 "LineCites$Reader" "draft" "LLineCites$Work;") (List.mem_of_getElem? (i := 6) rfl)) (fun _ h9 => h9) rfl dX4_readStretch_68 ?_
          refine lv_iload_n hx hb dX4_readStretch_71 rfl (lv_at hl 1 rfl) ?_
          refine lv_iconst (v := (-1)) hx hb dX4_readStretch_72 (by decide) ?_
          refine lv_iload_n hx hb dX4_readStretch_73 rfl (lv_at hl 0 rfl) ?_
          have kkm1 : ((-1) : Int32).toInt = (-1) := by decide
          have hPc := hP.sub (ws' := [(a_d, .inr (8, [.ref b_sc, .ref b_sp, .ref b_cp, .ref b_sn, .ref b_sl, .int i_li, .int i_ed, .int i_se])), (b_sc, .inl (kI, 5, .inl g_b_sc)), (b_sp, .inl (kI, 120, .inl g_b_sp))]) [0, 1, 2] rfl
          have hKc := hK.sub (tys' := [(kI, .int)]) [0] rfl
          refine va_calli (va_runV (As := [.int x3, .int (-1), .int y12]) (rest := []) ⟨hx, hb, hml, hown, hts⟩ (c_X8_fromFits__f l D a_d x3 y12 b_sc b_sp b_cp b_sn b_sl i_li i_ed i_se kI g_b_sc g_b_sp ke ps (by first | omega | decide | (have hz0 : (0 : Int32).toInt = 0 := (by decide); omega)) (by first | omega | decide | (have hz0 : (0 : Int32).toInt = 0 := (by decide); omega)) (by first | omega | decide | (have hz0 : (0 : Int32).toInt = 0 := (by decide); omega)) hdR (by first | decide | omega) (by first | decide | omega) (by first | decide | omega) (by first | decide | omega) hg_b_sp) (cwV 3 hts g_X4_readStretch_X8_fromFits__f rfl rfl rfl (by decide +kernel) ⟨Nat.le_of_ble_eq_true rfl, Nat.le_of_ble_eq_true rfl⟩) ⟨fun a U g mk q => by obtain ⟨q0, qP, qK⟩ := q; exact ⟨q0, qP, va_K.moved (u := U) (U := U.calling g mk a) (Vm.Alike.refl U.vm) qK⟩, va_recv hKc hPc (ci := 8) (q0 := 0) rfl rfl, fun U hU hW => ⟨rfl, by rw [hU]; exact hPc, va_K.moved hW.alike hKc⟩⟩ rfl rfl hl.1 rfl (lv_room (Nat.le_of_ble_eq_true rfl)) dX4_readStretch_74 ⟨Nat.le_of_ble_eq_true rfl, Nat.le_of_ble_eq_true rfl⟩) hS (fun _ _ h => h.elim) (fun _ h => h.elim) (fun r15 u t H1 locs ht hvm hw hB hz1 hk1 hS => ?_)
          have hP := pw_keep hP (fun q hq => hk1 q hq (fun h => h))
          generalize H1 = H at hP hS ⊢
          refine W.widen (k := 0) (n := 0) (Nat.le_of_ble_eq_true rfl) (Nat.le_of_ble_eq_true rfl) ?_
          have bor15 := hw.1
          have zor15 := pw_boolI bor15
          have hfr15 := hw.2
          refine lv_if_ne (tgt := 86) hx hb dX4_readStretch_77 (by decide) (fun c16 => ?_) (fun c16 => ?_)
          · have nc16 : r15.toInt ≠ 0 := pw_ne c16 rfl (by decide)
            have g3 : bI (uFrom i_li.toInt ps (tNum (tC g_by) i_sz.toInt.toNat a)) = 1 := by rw [← g2v.1]; omega
            have g3b := uFrom_b g3
            refine lv_aload_n hx hb dX4_readStretch_86 rfl (lv_at hl 3 rfl) ?_
            refine lv_bipush (v := 44) hx hb dX4_readStretch_87 (by decide) ?_
            have kk44 : (44 : Int32).toInt = 44 := by decide
            have hPc := hP.sub (ws' := [(h0, .inr (4, [.ref a_tape, .ref a_d, .int y10, .int y11, .int i_at, .int y12, .int y13])), (a_tape, .inr (7, [.ref y_by, .int i_sz, .int i_lf])), (y_by, .inl (kB, 200, .inl g_by))]) [3, 4, 5] rfl
            have hKc := hK.sub (tys' := [(kB, .byte)]) [1] rfl
            have hDc := hD.sub (ws' := [(h0, .inr (4, [.ref a_tape, .ref a_d, .int y10, .int y11, .int i_at, .int y12, .int y13])), (a_tape, .inr (7, [.ref y_by, .int i_sz, .int i_lf])), (y_by, .inl (kB, 200, .inl g_by))]) [3, 4, 5] (by decide) rfl
            have hFc := va_free (wc := [(h0, .inr (4, [.ref a_tape, .ref a_d, .int y10, .int y11, .int i_at, .int y12, .int y13])), (a_tape, .inr (7, [.ref y_by, .int i_sz, .int i_lf])), (y_by, .inl (kB, 200, .inl g_by))]) hD hS hA [3, 4, 5] rfl
            refine va_calli (va_runV (As := [.int 44]) (rest := []) ⟨hx, hb, hml, hown, hts⟩ (c_X4_expect l D h0 44 a_tape a_d y10 y11 i_at y12 y13 y_by i_sz i_lf kB g_by (tNx (tC g_by) i_sz.toInt.toNat a) H.size (by first | decide | omega) (by first | decide | omega) (by first | omega | decide | (have hz0 : (0 : Int32).toInt = 0 := (by decide); omega)) (by first | omega | decide | (have hz0 : (0 : Int32).toInt = 0 := (by decide); omega))) (cwV 1 hts g_X4_readStretch_X4_expect rfl rfl rfl (by decide +kernel) ⟨Nat.le_of_ble_eq_true rfl, Nat.le_of_ble_eq_true rfl⟩) ⟨fun a U g mk q => by obtain ⟨q0, q1, qP, qK, qD⟩ := q; exact ⟨q0, q1, qP, va_K.moved (u := U) (U := U.calling g mk a) (Vm.Alike.refl U.vm) qK, qD⟩, va_recv hKc hPc (ci := 4) (q0 := 0) rfl rfl, fun U hU hW => ⟨rfl, by rw [hU], by rw [hU]; exact hPc, va_K.moved hW.alike hKc, hDc.weaken (fun _ _ _ _ => trivial)⟩⟩ rfl rfl hl.1 rfl (lv_room (Nat.le_of_ble_eq_true rfl)) dX4_readStretch_89 ⟨Nat.le_of_ble_eq_true rfl, Nat.le_of_ble_eq_true rfl⟩) hS (fun q _ h => hFc q h) hFc (fun r17 u t H1 locs ht hvm hw hB hz1 hk1 hS => ?_)
            obtain ⟨y18, y19, y20, y21, hP1, hK1, hD1, px0_r17, px1_r17, px2_r17, px3_r17⟩ := hB
            rw [ht] at hP1
            have hK1 := va_K.moved hvm.symm hK1
            obtain ⟨hP, hD⟩ := va_join (wr := [(a_d, .inr (8, [.ref b_sc, .ref b_sp, .ref b_cp, .ref b_sn, .ref b_sl, .int i_li, .int i_ed, .int i_se])), (b_sc, .inl (kI, 5, .inl g_b_sc)), (b_sp, .inl (kI, 120, .inl g_b_sp))]) (w1 := [(h0, .inr (4, [.ref a_tape, .ref a_d, .int y18, .int y19, .int y10, .int y20, .int y21])), (a_tape, .inr (7, [.ref y_by, .int i_sz, .int i_lf])), (y_by, .inl (kB, 200, .inl g_by))]) hP hD [3, 4, 5] [0, 1, 2] rfl rfl (by decide) (by decide) hk1 hFc hP1 hD1
            have hK := (hK.sub (tys' := [(kI, .int), (kB, .byte), (kB, .byte)]) [0, 1, 2] rfl).app hK1
            generalize H1 = H at hP hS ⊢
            have hP : va_P D vwCl [(a_d, .inr (8, [.ref b_sc, .ref b_sp, .ref b_cp, .ref b_sn, .ref b_sl, .int i_li, .int i_ed, .int i_se])), (b_sc, .inl (kI, 5, .inl g_b_sc)), (b_sp, .inl (kI, 120, .inl g_b_sp)), (h0, .inr (4, [.ref a_tape, .ref a_d, .int y18, .int y19, .int y10, .int y20, .int y21])), (a_tape, .inr (7, [.ref y_by, .int i_sz, .int i_lf])), (y_by, .inl (kB, 200, .inl g_by))] H := hP
            have hD : va_D A [(a_d, .inr (8, [.ref b_sc, .ref b_sp, .ref b_cp, .ref b_sn, .ref b_sl, .int i_li, .int i_ed, .int i_se])), (b_sc, .inl (kI, 5, .inl g_b_sc)), (b_sp, .inl (kI, 120, .inl g_b_sp)), (h0, .inr (4, [.ref a_tape, .ref a_d, .int y18, .int y19, .int y10, .int y20, .int y21])), (a_tape, .inr (7, [.ref y_by, .int i_sz, .int i_lf])), (y_by, .inl (kB, 200, .inl g_by))] := hD
            have hK : va_K D vwCl [(kI, .int), (kB, .byte), (kB, .byte), (kB, .byte)] s := hK
            refine W.widen (k := 0) (n := 0) (Nat.le_of_ble_eq_true rfl) (Nat.le_of_ble_eq_true rfl) ?_
            have bor17 := hw.1
            have zor17 := pw_boolI bor17
            have hfr17 := hw.2
            refine lv_if_eq (tgt := 104) hx hb dX4_readStretch_92 (by decide) (fun c22 => ?_) (fun c22 => ?_)
            · have nc22 : r17.toInt = 0 := pw_eq c22 rfl (by decide)
              refine lv_iconst (v := 0) hx hb dX4_readStretch_104 (by decide) ?_
              have hno : ¬ (0 < i_ed.toInt ∧ uStr (tC g_by) i_sz.toInt.toNat i_li.toInt i_tk.toInt a ps) := fun q => by have q2 := q.2; have q3 := q.1; clear q; unfold uStr at q2; omega
              have hP9 := hP.sub (ws' := [(h0, .inr (4, [.ref a_tape, .ref a_d, .int y18, .int y19, .int y10, .int y20, .int y21])), (a_tape, .inr (7, [.ref y_by, .int i_sz, .int i_lf])), (y_by, .inl (kB, 200, .inl g_by)), (a_d, .inr (8, [.ref b_sc, .ref b_sp, .ref b_cp, .ref b_sn, .ref b_sl, .int i_li, .int i_ed, .int i_se])), (b_sc, .inl (kI, 5, .inl g_b_sc)), (b_sp, .inl (kI, 120, .inl g_b_sp))]) [3, 4, 5, 0, 1, 2] rfl
              have hD9 := hD.sub (ws' := [(h0, .inr (4, [.ref a_tape, .ref a_d, .int y18, .int y19, .int y10, .int y20, .int y21])), (a_tape, .inr (7, [.ref y_by, .int i_sz, .int i_lf])), (y_by, .inl (kB, 200, .inl g_by)), (a_d, .inr (8, [.ref b_sc, .ref b_sp, .ref b_cp, .ref b_sn, .ref b_sl, .int i_li, .int i_ed, .int i_se])), (b_sc, .inl (kI, 5, .inl g_b_sc)), (b_sp, .inl (kI, 120, .inl g_b_sp))]) [3, 4, 5, 0, 1, 2] (by decide) rfl
              have hK9 := hK.sub (tys' := [(kI, .int), (kB, .byte)]) [0, 1] rfl
              refine W.widen (k := 0) (n := 0) (Nat.le_of_ble_eq_true rfl) (Nat.le_of_ble_eq_true rfl) ?_
              exact W.zret (v := 0) (ty := .boolean) hx hb hr rfl (fun t ht hW => ⟨⟨0, (), rfl, ⟨Or.inl rfl, bI_no hno⟩, y18, y19, y10, y20, y21, g_b_sc, g_b_sp, by rw [ht]; exact hP9, va_K.moved hW.alike hK9, hD9, hg_b_sp, (fun q => absurd (bI_1 q) hno), (fun q => absurd (bI_1 q) hno), (by omega)⟩, hS.F ht⟩) hS.2.2 dX4_readStretch_105
            · have nc22 : r17.toInt ≠ 0 := pw_ne c22 rfl (by decide)
              have g4 : tTok (tC g_by) i_sz.toInt.toNat (tNx (tC g_by) i_sz.toInt.toNat a) = 44 := by omega
              clear px2_r17 hfr17
              have bar17 := px3_r17.1
              have bbr17 := px3_r17.2.1
              have bcr17 := px3_r17.2.2.1
              clear px3_r17
              refine lv_aload_n hx hb dX4_readStretch_95 rfl (lv_at hl 3 rfl) ?_
              refine lv_bipush (v := (-2)) hx hb dX4_readStretch_96 (by decide) ?_
              have kkm2 : ((-2) : Int32).toInt = (-2) := by decide
              have hPc := hP.sub (ws' := [(h0, .inr (4, [.ref a_tape, .ref a_d, .int y18, .int y19, .int y10, .int y20, .int y21])), (a_tape, .inr (7, [.ref y_by, .int i_sz, .int i_lf])), (y_by, .inl (kB, 200, .inl g_by))]) [3, 4, 5] rfl
              have hKc := hK.sub (tys' := [(kB, .byte)]) [1] rfl
              have hDc := hD.sub (ws' := [(h0, .inr (4, [.ref a_tape, .ref a_d, .int y18, .int y19, .int y10, .int y20, .int y21])), (a_tape, .inr (7, [.ref y_by, .int i_sz, .int i_lf])), (y_by, .inl (kB, 200, .inl g_by))]) [3, 4, 5] (by decide) rfl
              have hFc := va_free (wc := [(h0, .inr (4, [.ref a_tape, .ref a_d, .int y18, .int y19, .int y10, .int y20, .int y21])), (a_tape, .inr (7, [.ref y_by, .int i_sz, .int i_lf])), (y_by, .inl (kB, 200, .inl g_by))]) hD hS hA [3, 4, 5] rfl
              refine va_calli (va_runV (As := [.int (-2)]) (rest := []) ⟨hx, hb, hml, hown, hts⟩ (c_X4_expect l D h0 (-2) a_tape a_d y18 y19 y10 y20 y21 y_by i_sz i_lf kB g_by (tNx (tC g_by) i_sz.toInt.toNat (tNx (tC g_by) i_sz.toInt.toNat a)) H.size (by first | decide | omega) (by first | decide | omega) (by first | omega | decide | (have hz0 : (0 : Int32).toInt = 0 := (by decide); omega)) (by first | omega | decide | (have hz0 : (0 : Int32).toInt = 0 := (by decide); omega))) (cwV 1 hts g_X4_readStretch_X4_expect rfl rfl rfl (by decide +kernel) ⟨Nat.le_of_ble_eq_true rfl, Nat.le_of_ble_eq_true rfl⟩) ⟨fun a U g mk q => by obtain ⟨q0, q1, qP, qK, qD⟩ := q; exact ⟨q0, q1, qP, va_K.moved (u := U) (U := U.calling g mk a) (Vm.Alike.refl U.vm) qK, qD⟩, va_recv hKc hPc (ci := 4) (q0 := 0) rfl rfl, fun U hU hW => ⟨rfl, by rw [hU], by rw [hU]; exact hPc, va_K.moved hW.alike hKc, hDc.weaken (fun _ _ _ _ => trivial)⟩⟩ rfl rfl hl.1 rfl (lv_room (Nat.le_of_ble_eq_true rfl)) dX4_readStretch_98 ⟨Nat.le_of_ble_eq_true rfl, Nat.le_of_ble_eq_true rfl⟩) hS (fun q _ h => hFc q h) hFc (fun r23 u t H1 locs ht hvm hw hB hz1 hk1 hS => ?_)
              obtain ⟨y24, y25, y26, y27, hP1, hK1, hD1, px0_r23, px1_r23, px2_r23, px3_r23⟩ := hB
              rw [ht] at hP1
              have hK1 := va_K.moved hvm.symm hK1
              obtain ⟨hP, hD⟩ := va_join (wr := [(a_d, .inr (8, [.ref b_sc, .ref b_sp, .ref b_cp, .ref b_sn, .ref b_sl, .int i_li, .int i_ed, .int i_se])), (b_sc, .inl (kI, 5, .inl g_b_sc)), (b_sp, .inl (kI, 120, .inl g_b_sp))]) (w1 := [(h0, .inr (4, [.ref a_tape, .ref a_d, .int y24, .int y25, .int y18, .int y26, .int y27])), (a_tape, .inr (7, [.ref y_by, .int i_sz, .int i_lf])), (y_by, .inl (kB, 200, .inl g_by))]) hP hD [3, 4, 5] [0, 1, 2] rfl rfl (by decide) (by decide) hk1 hFc hP1 hD1
              have hK := (hK.sub (tys' := [(kI, .int), (kB, .byte), (kB, .byte), (kB, .byte)]) [0, 1, 2, 3] rfl).app hK1
              generalize H1 = H at hP hS ⊢
              have hP : va_P D vwCl [(a_d, .inr (8, [.ref b_sc, .ref b_sp, .ref b_cp, .ref b_sn, .ref b_sl, .int i_li, .int i_ed, .int i_se])), (b_sc, .inl (kI, 5, .inl g_b_sc)), (b_sp, .inl (kI, 120, .inl g_b_sp)), (h0, .inr (4, [.ref a_tape, .ref a_d, .int y24, .int y25, .int y18, .int y26, .int y27])), (a_tape, .inr (7, [.ref y_by, .int i_sz, .int i_lf])), (y_by, .inl (kB, 200, .inl g_by))] H := hP
              have hD : va_D A [(a_d, .inr (8, [.ref b_sc, .ref b_sp, .ref b_cp, .ref b_sn, .ref b_sl, .int i_li, .int i_ed, .int i_se])), (b_sc, .inl (kI, 5, .inl g_b_sc)), (b_sp, .inl (kI, 120, .inl g_b_sp)), (h0, .inr (4, [.ref a_tape, .ref a_d, .int y24, .int y25, .int y18, .int y26, .int y27])), (a_tape, .inr (7, [.ref y_by, .int i_sz, .int i_lf])), (y_by, .inl (kB, 200, .inl g_by))] := hD
              have hK : va_K D vwCl [(kI, .int), (kB, .byte), (kB, .byte), (kB, .byte), (kB, .byte)] s := hK
              refine W.widen (k := 0) (n := 0) (Nat.le_of_ble_eq_true rfl) (Nat.le_of_ble_eq_true rfl) ?_
              have bor23 := hw.1
              have zor23 := pw_boolI bor23
              have hfr23 := hw.2
              refine lv_if_ne (tgt := 106) hx hb dX4_readStretch_101 (by decide) (fun c28 => ?_) (fun c28 => ?_)
              · have nc28 : r23.toInt ≠ 0 := pw_ne c28 rfl (by decide)
                have g5 : tTok (tC g_by) i_sz.toInt.toNat (tNx (tC g_by) i_sz.toInt.toNat (tNx (tC g_by) i_sz.toInt.toNat a)) = -2 := by omega
                have g5v : y26.toInt = tNum (tC g_by) i_sz.toInt.toNat (tNx (tC g_by) i_sz.toInt.toNat (tNx (tC g_by) i_sz.toInt.toNat a)) ∧ 0 ≤ y26.toInt ∧ y26.toInt ≤ 999 := px2_r23 (by omega)
                clear px2_r23 hfr23
                have bar23 := px3_r23.1
                have bbr23 := px3_r23.2.1
                have bcr23 := px3_r23.2.2.1
                clear px3_r23
                refine lv_aload_n hx hb dX4_readStretch_106 rfl (lv_at hl 3 rfl) ?_
                refine va_get (D := D) (ci := 4) (v := .int y26) (C := RX4) (T := TX4) (N := 7) hx hb hts (fun _ h => List.mem_cons_of_mem _ (List.mem_append_left _ (List.mem_append_left _ (List.mem_append_right _ h)))) hown hK hP 3 rfl rfl 5 (by decide) (hts (.fieldLink RX4 33 "LineCites$Reader" "value" "I") (List.mem_of_getElem? (i := 56) rfl)) (fun _ h9 => h9) rfl dX4_readStretch_107 ?_
                refine lv_istore (lv' := [(4, .int y26), (3, .int y12), (2, .int x3), (1, .int r1), (0, .ref h0)]) hx hb dX4_readStretch_110 hl (by decide) rfl (fun ls hl => ?_)
                refine lv_aload_n hx hb dX4_readStretch_112 rfl (lv_at hl 4 rfl) ?_
                refine va_get (D := D) (ci := 4) (v := .ref a_d) (C := RX4) (T := TX4) (N := 7) hx hb hts (fun _ h => List.mem_cons_of_mem _ (List.mem_append_left _ (List.mem_append_left _ (List.mem_append_right _ h)))) hown hK hP 3 rfl rfl 1 (by decide) (hts (.fieldLink RX4 15 "LineCites$Reader" "draft" "LLineCites$Work;") (List.mem_of_getElem? (i := 6) rfl)) (fun _ h9 => h9) rfl dX4_readStretch_113 ?_
                refine lv_iload_n hx hb dX4_readStretch_116 rfl (lv_at hl 2 rfl) ?_
                refine lv_iconst (v := (-1)) hx hb dX4_readStretch_117 (by decide) ?_
                refine lv_iload_n hx hb dX4_readStretch_118 rfl (lv_at hl 1 rfl) ?_
                refine lv_iload hx hb dX4_readStretch_119 (lv_at hl 0 rfl) ?_
                have kkm1 : ((-1) : Int32).toInt = (-1) := by decide
                have hPc := hP.sub (ws' := [(a_d, .inr (8, [.ref b_sc, .ref b_sp, .ref b_cp, .ref b_sn, .ref b_sl, .int i_li, .int i_ed, .int i_se])), (b_sc, .inl (kI, 5, .inl g_b_sc)), (b_sp, .inl (kI, 120, .inl g_b_sp))]) [0, 1, 2] rfl
                have hKc := hK.sub (tys' := [(kI, .int)]) [0] rfl
                refine va_calli (va_runV (As := [.int x3, .int (-1), .int y12, .int y26]) (rest := []) ⟨hx, hb, hml, hown, hts⟩ (c_X8_manyFits__f l D a_d x3 y12 y26 b_sc b_sp b_cp b_sn b_sl i_li i_ed i_se kI g_b_sc g_b_sp ke ps (by first | omega | decide | (have hz0 : (0 : Int32).toInt = 0 := (by decide); omega)) (by first | omega | decide | (have hz0 : (0 : Int32).toInt = 0 := (by decide); omega)) (by first | omega | decide | (have hz0 : (0 : Int32).toInt = 0 := (by decide); omega)) hdR (by first | decide | omega) (by first | decide | omega) (by first | decide | omega) (by first | decide | omega) (by first | decide | omega) (by first | decide | omega) hg_b_sp) (cwV 4 hts g_X4_readStretch_X8_manyFits__f rfl rfl rfl (by decide +kernel) ⟨Nat.le_of_ble_eq_true rfl, Nat.le_of_ble_eq_true rfl⟩) ⟨fun a U g mk q => by obtain ⟨q0, qP, qK⟩ := q; exact ⟨q0, qP, va_K.moved (u := U) (U := U.calling g mk a) (Vm.Alike.refl U.vm) qK⟩, va_recv hKc hPc (ci := 8) (q0 := 0) rfl rfl, fun U hU hW => ⟨rfl, by rw [hU]; exact hPc, va_K.moved hW.alike hKc⟩⟩ rfl rfl hl.1 rfl (lv_room (Nat.le_of_ble_eq_true rfl)) dX4_readStretch_121 ⟨Nat.le_of_ble_eq_true rfl, Nat.le_of_ble_eq_true rfl⟩) hS (fun _ _ h => h.elim) (fun _ h => h.elim) (fun r29 u t H1 locs ht hvm hw hB hz1 hk1 hS => ?_)
                have hP := pw_keep hP (fun q hq => hk1 q hq (fun h => h))
                generalize H1 = H at hP hS ⊢
                refine W.widen (k := 0) (n := 0) (Nat.le_of_ble_eq_true rfl) (Nat.le_of_ble_eq_true rfl) ?_
                have bor29 := hw.1
                have zor29 := pw_boolI bor29
                have hfr29 := hw.2
                refine lv_if_ne (tgt := 133) hx hb dX4_readStretch_124 (by decide) (fun c30 => ?_) (fun c30 => ?_)
                · have nc30 : r29.toInt ≠ 0 := pw_ne c30 rfl (by decide)
                  have g6 : bI (uMany i_li.toInt ps (tNum (tC g_by) i_sz.toInt.toNat a) (tNum (tC g_by) i_sz.toInt.toNat (tNx (tC g_by) i_sz.toInt.toNat (tNx (tC g_by) i_sz.toInt.toNat a)))) = 1 := by rw [← g2v.1, ← g5v.1]; omega
                  have g6b := uMany_b g6
                  refine lv_aload_n hx hb dX4_readStretch_133 rfl (lv_at hl 4 rfl) ?_
                  refine lv_bipush (v := 44) hx hb dX4_readStretch_134 (by decide) ?_
                  have kk44 : (44 : Int32).toInt = 44 := by decide
                  have hPc := hP.sub (ws' := [(h0, .inr (4, [.ref a_tape, .ref a_d, .int y24, .int y25, .int y18, .int y26, .int y27])), (a_tape, .inr (7, [.ref y_by, .int i_sz, .int i_lf])), (y_by, .inl (kB, 200, .inl g_by))]) [3, 4, 5] rfl
                  have hKc := hK.sub (tys' := [(kB, .byte)]) [1] rfl
                  have hDc := hD.sub (ws' := [(h0, .inr (4, [.ref a_tape, .ref a_d, .int y24, .int y25, .int y18, .int y26, .int y27])), (a_tape, .inr (7, [.ref y_by, .int i_sz, .int i_lf])), (y_by, .inl (kB, 200, .inl g_by))]) [3, 4, 5] (by decide) rfl
                  have hFc := va_free (wc := [(h0, .inr (4, [.ref a_tape, .ref a_d, .int y24, .int y25, .int y18, .int y26, .int y27])), (a_tape, .inr (7, [.ref y_by, .int i_sz, .int i_lf])), (y_by, .inl (kB, 200, .inl g_by))]) hD hS hA [3, 4, 5] rfl
                  refine va_calli (va_runV (As := [.int 44]) (rest := []) ⟨hx, hb, hml, hown, hts⟩ (c_X4_expect l D h0 44 a_tape a_d y24 y25 y18 y26 y27 y_by i_sz i_lf kB g_by (tNx (tC g_by) i_sz.toInt.toNat (tNx (tC g_by) i_sz.toInt.toNat (tNx (tC g_by) i_sz.toInt.toNat a))) H.size (by first | decide | omega) (by first | decide | omega) (by first | omega | decide | (have hz0 : (0 : Int32).toInt = 0 := (by decide); omega)) (by first | omega | decide | (have hz0 : (0 : Int32).toInt = 0 := (by decide); omega))) (cwV 1 hts g_X4_readStretch_X4_expect rfl rfl rfl (by decide +kernel) ⟨Nat.le_of_ble_eq_true rfl, Nat.le_of_ble_eq_true rfl⟩) ⟨fun a U g mk q => by obtain ⟨q0, q1, qP, qK, qD⟩ := q; exact ⟨q0, q1, qP, va_K.moved (u := U) (U := U.calling g mk a) (Vm.Alike.refl U.vm) qK, qD⟩, va_recv hKc hPc (ci := 4) (q0 := 0) rfl rfl, fun U hU hW => ⟨rfl, by rw [hU], by rw [hU]; exact hPc, va_K.moved hW.alike hKc, hDc.weaken (fun _ _ _ _ => trivial)⟩⟩ rfl rfl hl.1 rfl (lv_room (Nat.le_of_ble_eq_true rfl)) dX4_readStretch_136 ⟨Nat.le_of_ble_eq_true rfl, Nat.le_of_ble_eq_true rfl⟩) hS (fun q _ h => hFc q h) hFc (fun r31 u t H1 locs ht hvm hw hB hz1 hk1 hS => ?_)
                  obtain ⟨y32, y33, y34, y35, hP1, hK1, hD1, px0_r31, px1_r31, px2_r31, px3_r31⟩ := hB
                  rw [ht] at hP1
                  have hK1 := va_K.moved hvm.symm hK1
                  obtain ⟨hP, hD⟩ := va_join (wr := [(a_d, .inr (8, [.ref b_sc, .ref b_sp, .ref b_cp, .ref b_sn, .ref b_sl, .int i_li, .int i_ed, .int i_se])), (b_sc, .inl (kI, 5, .inl g_b_sc)), (b_sp, .inl (kI, 120, .inl g_b_sp))]) (w1 := [(h0, .inr (4, [.ref a_tape, .ref a_d, .int y32, .int y33, .int y24, .int y34, .int y35])), (a_tape, .inr (7, [.ref y_by, .int i_sz, .int i_lf])), (y_by, .inl (kB, 200, .inl g_by))]) hP hD [3, 4, 5] [0, 1, 2] rfl rfl (by decide) (by decide) hk1 hFc hP1 hD1
                  have hK := (hK.sub (tys' := [(kI, .int), (kB, .byte), (kB, .byte), (kB, .byte), (kB, .byte)]) [0, 1, 2, 3, 4] rfl).app hK1
                  generalize H1 = H at hP hS ⊢
                  have hP : va_P D vwCl [(a_d, .inr (8, [.ref b_sc, .ref b_sp, .ref b_cp, .ref b_sn, .ref b_sl, .int i_li, .int i_ed, .int i_se])), (b_sc, .inl (kI, 5, .inl g_b_sc)), (b_sp, .inl (kI, 120, .inl g_b_sp)), (h0, .inr (4, [.ref a_tape, .ref a_d, .int y32, .int y33, .int y24, .int y34, .int y35])), (a_tape, .inr (7, [.ref y_by, .int i_sz, .int i_lf])), (y_by, .inl (kB, 200, .inl g_by))] H := hP
                  have hD : va_D A [(a_d, .inr (8, [.ref b_sc, .ref b_sp, .ref b_cp, .ref b_sn, .ref b_sl, .int i_li, .int i_ed, .int i_se])), (b_sc, .inl (kI, 5, .inl g_b_sc)), (b_sp, .inl (kI, 120, .inl g_b_sp)), (h0, .inr (4, [.ref a_tape, .ref a_d, .int y32, .int y33, .int y24, .int y34, .int y35])), (a_tape, .inr (7, [.ref y_by, .int i_sz, .int i_lf])), (y_by, .inl (kB, 200, .inl g_by))] := hD
                  have hK : va_K D vwCl [(kI, .int), (kB, .byte), (kB, .byte), (kB, .byte), (kB, .byte), (kB, .byte)] s := hK
                  refine W.widen (k := 0) (n := 0) (Nat.le_of_ble_eq_true rfl) (Nat.le_of_ble_eq_true rfl) ?_
                  have bor31 := hw.1
                  have zor31 := pw_boolI bor31
                  have hfr31 := hw.2
                  refine lv_if_eq (tgt := 151) hx hb dX4_readStretch_139 (by decide) (fun c36 => ?_) (fun c36 => ?_)
                  · have nc36 : r31.toInt = 0 := pw_eq c36 rfl (by decide)
                    refine lv_iconst (v := 0) hx hb dX4_readStretch_151 (by decide) ?_
                    have hno : ¬ (0 < i_ed.toInt ∧ uStr (tC g_by) i_sz.toInt.toNat i_li.toInt i_tk.toInt a ps) := fun q => by have q2 := q.2; have q3 := q.1; clear q; unfold uStr at q2; omega
                    have hP9 := hP.sub (ws' := [(h0, .inr (4, [.ref a_tape, .ref a_d, .int y32, .int y33, .int y24, .int y34, .int y35])), (a_tape, .inr (7, [.ref y_by, .int i_sz, .int i_lf])), (y_by, .inl (kB, 200, .inl g_by)), (a_d, .inr (8, [.ref b_sc, .ref b_sp, .ref b_cp, .ref b_sn, .ref b_sl, .int i_li, .int i_ed, .int i_se])), (b_sc, .inl (kI, 5, .inl g_b_sc)), (b_sp, .inl (kI, 120, .inl g_b_sp))]) [3, 4, 5, 0, 1, 2] rfl
                    have hD9 := hD.sub (ws' := [(h0, .inr (4, [.ref a_tape, .ref a_d, .int y32, .int y33, .int y24, .int y34, .int y35])), (a_tape, .inr (7, [.ref y_by, .int i_sz, .int i_lf])), (y_by, .inl (kB, 200, .inl g_by)), (a_d, .inr (8, [.ref b_sc, .ref b_sp, .ref b_cp, .ref b_sn, .ref b_sl, .int i_li, .int i_ed, .int i_se])), (b_sc, .inl (kI, 5, .inl g_b_sc)), (b_sp, .inl (kI, 120, .inl g_b_sp))]) [3, 4, 5, 0, 1, 2] (by decide) rfl
                    have hK9 := hK.sub (tys' := [(kI, .int), (kB, .byte)]) [0, 1] rfl
                    refine W.widen (k := 0) (n := 0) (Nat.le_of_ble_eq_true rfl) (Nat.le_of_ble_eq_true rfl) ?_
                    exact W.zret (v := 0) (ty := .boolean) hx hb hr rfl (fun t ht hW => ⟨⟨0, (), rfl, ⟨Or.inl rfl, bI_no hno⟩, y32, y33, y24, y34, y35, g_b_sc, g_b_sp, by rw [ht]; exact hP9, va_K.moved hW.alike hK9, hD9, hg_b_sp, (fun q => absurd (bI_1 q) hno), (fun q => absurd (bI_1 q) hno), (by omega)⟩, hS.F ht⟩) hS.2.2 dX4_readStretch_152
                  · have nc36 : r31.toInt ≠ 0 := pw_ne c36 rfl (by decide)
                    have g7 : tTok (tC g_by) i_sz.toInt.toNat (tNx (tC g_by) i_sz.toInt.toNat (tNx (tC g_by) i_sz.toInt.toNat (tNx (tC g_by) i_sz.toInt.toNat a))) = 44 := by omega
                    clear px2_r31 hfr31
                    have bar31 := px3_r31.1
                    have bbr31 := px3_r31.2.1
                    have bcr31 := px3_r31.2.2.1
                    clear px3_r31
                    refine lv_aload_n hx hb dX4_readStretch_142 rfl (lv_at hl 4 rfl) ?_
                    refine lv_bipush (v := (-2)) hx hb dX4_readStretch_143 (by decide) ?_
                    have kkm2 : ((-2) : Int32).toInt = (-2) := by decide
                    have hPc := hP.sub (ws' := [(h0, .inr (4, [.ref a_tape, .ref a_d, .int y32, .int y33, .int y24, .int y34, .int y35])), (a_tape, .inr (7, [.ref y_by, .int i_sz, .int i_lf])), (y_by, .inl (kB, 200, .inl g_by))]) [3, 4, 5] rfl
                    have hKc := hK.sub (tys' := [(kB, .byte)]) [1] rfl
                    have hDc := hD.sub (ws' := [(h0, .inr (4, [.ref a_tape, .ref a_d, .int y32, .int y33, .int y24, .int y34, .int y35])), (a_tape, .inr (7, [.ref y_by, .int i_sz, .int i_lf])), (y_by, .inl (kB, 200, .inl g_by))]) [3, 4, 5] (by decide) rfl
                    have hFc := va_free (wc := [(h0, .inr (4, [.ref a_tape, .ref a_d, .int y32, .int y33, .int y24, .int y34, .int y35])), (a_tape, .inr (7, [.ref y_by, .int i_sz, .int i_lf])), (y_by, .inl (kB, 200, .inl g_by))]) hD hS hA [3, 4, 5] rfl
                    refine va_calli (va_runV (As := [.int (-2)]) (rest := []) ⟨hx, hb, hml, hown, hts⟩ (c_X4_expect l D h0 (-2) a_tape a_d y32 y33 y24 y34 y35 y_by i_sz i_lf kB g_by (tNx (tC g_by) i_sz.toInt.toNat (tNx (tC g_by) i_sz.toInt.toNat (tNx (tC g_by) i_sz.toInt.toNat (tNx (tC g_by) i_sz.toInt.toNat a)))) H.size (by first | decide | omega) (by first | decide | omega) (by first | omega | decide | (have hz0 : (0 : Int32).toInt = 0 := (by decide); omega)) (by first | omega | decide | (have hz0 : (0 : Int32).toInt = 0 := (by decide); omega))) (cwV 1 hts g_X4_readStretch_X4_expect rfl rfl rfl (by decide +kernel) ⟨Nat.le_of_ble_eq_true rfl, Nat.le_of_ble_eq_true rfl⟩) ⟨fun a U g mk q => by obtain ⟨q0, q1, qP, qK, qD⟩ := q; exact ⟨q0, q1, qP, va_K.moved (u := U) (U := U.calling g mk a) (Vm.Alike.refl U.vm) qK, qD⟩, va_recv hKc hPc (ci := 4) (q0 := 0) rfl rfl, fun U hU hW => ⟨rfl, by rw [hU], by rw [hU]; exact hPc, va_K.moved hW.alike hKc, hDc.weaken (fun _ _ _ _ => trivial)⟩⟩ rfl rfl hl.1 rfl (lv_room (Nat.le_of_ble_eq_true rfl)) dX4_readStretch_145 ⟨Nat.le_of_ble_eq_true rfl, Nat.le_of_ble_eq_true rfl⟩) hS (fun q _ h => hFc q h) hFc (fun r37 u t H1 locs ht hvm hw hB hz1 hk1 hS => ?_)
                    obtain ⟨y38, y39, y40, y41, hP1, hK1, hD1, px0_r37, px1_r37, px2_r37, px3_r37⟩ := hB
                    rw [ht] at hP1
                    have hK1 := va_K.moved hvm.symm hK1
                    obtain ⟨hP, hD⟩ := va_join (wr := [(a_d, .inr (8, [.ref b_sc, .ref b_sp, .ref b_cp, .ref b_sn, .ref b_sl, .int i_li, .int i_ed, .int i_se])), (b_sc, .inl (kI, 5, .inl g_b_sc)), (b_sp, .inl (kI, 120, .inl g_b_sp))]) (w1 := [(h0, .inr (4, [.ref a_tape, .ref a_d, .int y38, .int y39, .int y32, .int y40, .int y41])), (a_tape, .inr (7, [.ref y_by, .int i_sz, .int i_lf])), (y_by, .inl (kB, 200, .inl g_by))]) hP hD [3, 4, 5] [0, 1, 2] rfl rfl (by decide) (by decide) hk1 hFc hP1 hD1
                    have hK := (hK.sub (tys' := [(kI, .int), (kB, .byte), (kB, .byte), (kB, .byte), (kB, .byte), (kB, .byte)]) [0, 1, 2, 3, 4, 5] rfl).app hK1
                    generalize H1 = H at hP hS ⊢
                    have hP : va_P D vwCl [(a_d, .inr (8, [.ref b_sc, .ref b_sp, .ref b_cp, .ref b_sn, .ref b_sl, .int i_li, .int i_ed, .int i_se])), (b_sc, .inl (kI, 5, .inl g_b_sc)), (b_sp, .inl (kI, 120, .inl g_b_sp)), (h0, .inr (4, [.ref a_tape, .ref a_d, .int y38, .int y39, .int y32, .int y40, .int y41])), (a_tape, .inr (7, [.ref y_by, .int i_sz, .int i_lf])), (y_by, .inl (kB, 200, .inl g_by))] H := hP
                    have hD : va_D A [(a_d, .inr (8, [.ref b_sc, .ref b_sp, .ref b_cp, .ref b_sn, .ref b_sl, .int i_li, .int i_ed, .int i_se])), (b_sc, .inl (kI, 5, .inl g_b_sc)), (b_sp, .inl (kI, 120, .inl g_b_sp)), (h0, .inr (4, [.ref a_tape, .ref a_d, .int y38, .int y39, .int y32, .int y40, .int y41])), (a_tape, .inr (7, [.ref y_by, .int i_sz, .int i_lf])), (y_by, .inl (kB, 200, .inl g_by))] := hD
                    have hK : va_K D vwCl [(kI, .int), (kB, .byte), (kB, .byte), (kB, .byte), (kB, .byte), (kB, .byte), (kB, .byte)] s := hK
                    refine W.widen (k := 0) (n := 0) (Nat.le_of_ble_eq_true rfl) (Nat.le_of_ble_eq_true rfl) ?_
                    have bor37 := hw.1
                    have zor37 := pw_boolI bor37
                    have hfr37 := hw.2
                    refine lv_if_ne (tgt := 153) hx hb dX4_readStretch_148 (by decide) (fun c42 => ?_) (fun c42 => ?_)
                    · have nc42 : r37.toInt ≠ 0 := pw_ne c42 rfl (by decide)
                      have g8 : tTok (tC g_by) i_sz.toInt.toNat (tNx (tC g_by) i_sz.toInt.toNat (tNx (tC g_by) i_sz.toInt.toNat (tNx (tC g_by) i_sz.toInt.toNat (tNx (tC g_by) i_sz.toInt.toNat a)))) = -2 := by omega
                      have g8v : y40.toInt = tNum (tC g_by) i_sz.toInt.toNat (tNx (tC g_by) i_sz.toInt.toNat (tNx (tC g_by) i_sz.toInt.toNat (tNx (tC g_by) i_sz.toInt.toNat (tNx (tC g_by) i_sz.toInt.toNat a)))) ∧ 0 ≤ y40.toInt ∧ y40.toInt ≤ 999 := px2_r37 (by omega)
                      clear px2_r37 hfr37
                      have bar37 := px3_r37.1
                      have bbr37 := px3_r37.2.1
                      have bcr37 := px3_r37.2.2.1
                      clear px3_r37
                      refine lv_aload_n hx hb dX4_readStretch_153 rfl (lv_at hl 4 rfl) ?_
                      refine va_get (D := D) (ci := 4) (v := .int y40) (C := RX4) (T := TX4) (N := 7) hx hb hts (fun _ h => List.mem_cons_of_mem _ (List.mem_append_left _ (List.mem_append_left _ (List.mem_append_right _ h)))) hown hK hP 3 rfl rfl 5 (by decide) (hts (.fieldLink RX4 33 "LineCites$Reader" "value" "I") (List.mem_of_getElem? (i := 56) rfl)) (fun _ h9 => h9) rfl dX4_readStretch_154 ?_
                      refine lv_istore (lv' := [(5, .int y40), (4, .int y26), (3, .int y12), (2, .int x3), (1, .int r1), (0, .ref h0)]) hx hb dX4_readStretch_157 hl (by decide) rfl (fun ls hl => ?_)
                      refine lv_aload_n hx hb dX4_readStretch_159 rfl (lv_at hl 5 rfl) ?_
                      refine va_get (D := D) (ci := 4) (v := .ref a_d) (C := RX4) (T := TX4) (N := 7) hx hb hts (fun _ h => List.mem_cons_of_mem _ (List.mem_append_left _ (List.mem_append_left _ (List.mem_append_right _ h)))) hown hK hP 3 rfl rfl 1 (by decide) (hts (.fieldLink RX4 15 "LineCites$Reader" "draft" "LLineCites$Work;") (List.mem_of_getElem? (i := 6) rfl)) (fun _ h9 => h9) rfl dX4_readStretch_160 ?_
                      refine lv_iload_n hx hb dX4_readStretch_163 rfl (lv_at hl 4 rfl) ?_
                      refine lv_iload hx hb dX4_readStretch_164 (lv_at hl 1 rfl) ?_
                      refine lv_iload hx hb dX4_readStretch_166 (lv_at hl 0 rfl) ?_
                      have hPc := hP.sub (ws' := [(a_d, .inr (8, [.ref b_sc, .ref b_sp, .ref b_cp, .ref b_sn, .ref b_sl, .int i_li, .int i_ed, .int i_se]))]) [0] rfl
                      have hKc := hK.sub (tys' := []) [] rfl
                      refine va_calli (va_runV (As := [.int r1, .int y26, .int y40]) (rest := []) ⟨hx, hb, hml, hown, hts⟩ (c_X8_firstFits__f l D a_d r1 y26 y40 b_sc b_sp b_cp b_sn b_sl i_li i_ed i_se (by first | decide | omega) (by first | decide | omega) (by first | decide | omega) (by first | decide | omega)) (cwV 3 hts g_X4_readStretch_X8_firstFits__f rfl rfl rfl (by decide +kernel) ⟨Nat.le_of_ble_eq_true rfl, Nat.le_of_ble_eq_true rfl⟩) ⟨fun a U g mk q => by obtain ⟨q0, qP, qK, qE0, qE1⟩ := q; exact ⟨q0, qP, va_K.moved (u := U) (U := U.calling g mk a) (Vm.Alike.refl U.vm) qK, va_Nw.same rfl rfl qE0, va_Nw.same rfl rfl qE1⟩, va_recv hKc hPc (ci := 8) (q0 := 0) rfl rfl, fun U hU hW => ⟨rfl, by rw [hU]; exact hPc, va_K.moved hW.alike hKc, va_Nw.warmM hW hN8_83, va_Nw.warmM hW hN8_86⟩⟩ rfl rfl hl.1 rfl (lv_room (Nat.le_of_ble_eq_true rfl)) dX4_readStretch_168 ⟨Nat.le_of_ble_eq_true rfl, Nat.le_of_ble_eq_true rfl⟩) hS (fun _ _ h => h.elim) (fun _ h => h.elim) (fun r43 u t H1 locs ht hvm hw hB hz1 hk1 hS => ?_)
                      have hP := pw_keep hP (fun q hq => hk1 q hq (fun h => h))
                      generalize H1 = H at hP hS ⊢
                      refine W.widen (k := 0) (n := 0) (Nat.le_of_ble_eq_true rfl) (Nat.le_of_ble_eq_true rfl) ?_
                      have bor43 := hw.1
                      have zor43 := pw_boolI bor43
                      have hfr43 := hw.2
                      refine lv_if_ne (tgt := 180) hx hb dX4_readStretch_171 (by decide) (fun c44 => ?_) (fun c44 => ?_)
                      · have nc44 : r43.toInt ≠ 0 := pw_ne c44 rfl (by decide)
                        have g9 := hfr43
                        rw [gk, g5v.1, g8v.1] at g9
                        clear hfr43
                        refine lv_aload_n hx hb dX4_readStretch_180 rfl (lv_at hl 5 rfl) ?_
                        refine lv_bipush (v := 59) hx hb dX4_readStretch_181 (by decide) ?_
                        have kk59 : (59 : Int32).toInt = 59 := by decide
                        have hPc := hP.sub (ws' := [(h0, .inr (4, [.ref a_tape, .ref a_d, .int y38, .int y39, .int y32, .int y40, .int y41])), (a_tape, .inr (7, [.ref y_by, .int i_sz, .int i_lf])), (y_by, .inl (kB, 200, .inl g_by))]) [3, 4, 5] rfl
                        have hKc := hK.sub (tys' := [(kB, .byte)]) [1] rfl
                        have hDc := hD.sub (ws' := [(h0, .inr (4, [.ref a_tape, .ref a_d, .int y38, .int y39, .int y32, .int y40, .int y41])), (a_tape, .inr (7, [.ref y_by, .int i_sz, .int i_lf])), (y_by, .inl (kB, 200, .inl g_by))]) [3, 4, 5] (by decide) rfl
                        have hFc := va_free (wc := [(h0, .inr (4, [.ref a_tape, .ref a_d, .int y38, .int y39, .int y32, .int y40, .int y41])), (a_tape, .inr (7, [.ref y_by, .int i_sz, .int i_lf])), (y_by, .inl (kB, 200, .inl g_by))]) hD hS hA [3, 4, 5] rfl
                        refine va_calli (va_runV (As := [.int 59]) (rest := []) ⟨hx, hb, hml, hown, hts⟩ (c_X4_expect l D h0 59 a_tape a_d y38 y39 y32 y40 y41 y_by i_sz i_lf kB g_by (tNx (tC g_by) i_sz.toInt.toNat (tNx (tC g_by) i_sz.toInt.toNat (tNx (tC g_by) i_sz.toInt.toNat (tNx (tC g_by) i_sz.toInt.toNat (tNx (tC g_by) i_sz.toInt.toNat a))))) H.size (by first | decide | omega) (by first | decide | omega) (by first | omega | decide | (have hz0 : (0 : Int32).toInt = 0 := (by decide); omega)) (by first | omega | decide | (have hz0 : (0 : Int32).toInt = 0 := (by decide); omega))) (cwV 1 hts g_X4_readStretch_X4_expect rfl rfl rfl (by decide +kernel) ⟨Nat.le_of_ble_eq_true rfl, Nat.le_of_ble_eq_true rfl⟩) ⟨fun a U g mk q => by obtain ⟨q0, q1, qP, qK, qD⟩ := q; exact ⟨q0, q1, qP, va_K.moved (u := U) (U := U.calling g mk a) (Vm.Alike.refl U.vm) qK, qD⟩, va_recv hKc hPc (ci := 4) (q0 := 0) rfl rfl, fun U hU hW => ⟨rfl, by rw [hU], by rw [hU]; exact hPc, va_K.moved hW.alike hKc, hDc.weaken (fun _ _ _ _ => trivial)⟩⟩ rfl rfl hl.1 rfl (lv_room (Nat.le_of_ble_eq_true rfl)) dX4_readStretch_183 ⟨Nat.le_of_ble_eq_true rfl, Nat.le_of_ble_eq_true rfl⟩) hS (fun q _ h => hFc q h) hFc (fun r45 u t H1 locs ht hvm hw hB hz1 hk1 hS => ?_)
                        obtain ⟨y46, y47, y48, y49, hP1, hK1, hD1, px0_r45, px1_r45, px2_r45, px3_r45⟩ := hB
                        rw [ht] at hP1
                        have hK1 := va_K.moved hvm.symm hK1
                        obtain ⟨hP, hD⟩ := va_join (wr := [(a_d, .inr (8, [.ref b_sc, .ref b_sp, .ref b_cp, .ref b_sn, .ref b_sl, .int i_li, .int i_ed, .int i_se])), (b_sc, .inl (kI, 5, .inl g_b_sc)), (b_sp, .inl (kI, 120, .inl g_b_sp))]) (w1 := [(h0, .inr (4, [.ref a_tape, .ref a_d, .int y46, .int y47, .int y38, .int y48, .int y49])), (a_tape, .inr (7, [.ref y_by, .int i_sz, .int i_lf])), (y_by, .inl (kB, 200, .inl g_by))]) hP hD [3, 4, 5] [0, 1, 2] rfl rfl (by decide) (by decide) hk1 hFc hP1 hD1
                        have hK := (hK.sub (tys' := [(kI, .int), (kB, .byte), (kB, .byte), (kB, .byte), (kB, .byte), (kB, .byte), (kB, .byte)]) [0, 1, 2, 3, 4, 5, 6] rfl).app hK1
                        generalize H1 = H at hP hS ⊢
                        have hP : va_P D vwCl [(a_d, .inr (8, [.ref b_sc, .ref b_sp, .ref b_cp, .ref b_sn, .ref b_sl, .int i_li, .int i_ed, .int i_se])), (b_sc, .inl (kI, 5, .inl g_b_sc)), (b_sp, .inl (kI, 120, .inl g_b_sp)), (h0, .inr (4, [.ref a_tape, .ref a_d, .int y46, .int y47, .int y38, .int y48, .int y49])), (a_tape, .inr (7, [.ref y_by, .int i_sz, .int i_lf])), (y_by, .inl (kB, 200, .inl g_by))] H := hP
                        have hD : va_D A [(a_d, .inr (8, [.ref b_sc, .ref b_sp, .ref b_cp, .ref b_sn, .ref b_sl, .int i_li, .int i_ed, .int i_se])), (b_sc, .inl (kI, 5, .inl g_b_sc)), (b_sp, .inl (kI, 120, .inl g_b_sp)), (h0, .inr (4, [.ref a_tape, .ref a_d, .int y46, .int y47, .int y38, .int y48, .int y49])), (a_tape, .inr (7, [.ref y_by, .int i_sz, .int i_lf])), (y_by, .inl (kB, 200, .inl g_by))] := hD
                        have hK : va_K D vwCl [(kI, .int), (kB, .byte), (kB, .byte), (kB, .byte), (kB, .byte), (kB, .byte), (kB, .byte), (kB, .byte)] s := hK
                        refine W.widen (k := 0) (n := 0) (Nat.le_of_ble_eq_true rfl) (Nat.le_of_ble_eq_true rfl) ?_
                        have bor45 := hw.1
                        have zor45 := pw_boolI bor45
                        have hfr45 := hw.2
                        refine lv_if_ne (tgt := 191) hx hb dX4_readStretch_186 (by decide) (fun c50 => ?_) (fun c50 => ?_)
                        · have nc50 : r45.toInt ≠ 0 := pw_ne c50 rfl (by decide)
                          have g10 : tTok (tC g_by) i_sz.toInt.toNat (tNx (tC g_by) i_sz.toInt.toNat (tNx (tC g_by) i_sz.toInt.toNat (tNx (tC g_by) i_sz.toInt.toNat (tNx (tC g_by) i_sz.toInt.toNat (tNx (tC g_by) i_sz.toInt.toNat a))))) = 59 := by omega
                          clear px2_r45 hfr45
                          have bar45 := px3_r45.1
                          have bbr45 := px3_r45.2.1
                          have bcr45 := px3_r45.2.2.1
                          clear px3_r45
                          refine lv_aload_n hx hb dX4_readStretch_191 rfl (lv_at hl 5 rfl) ?_
                          refine va_get (D := D) (ci := 4) (v := .ref a_d) (C := RX4) (T := TX4) (N := 7) hx hb hts (fun _ h => List.mem_cons_of_mem _ (List.mem_append_left _ (List.mem_append_left _ (List.mem_append_right _ h)))) hown hK hP 3 rfl rfl 1 (by decide) (hts (.fieldLink RX4 15 "LineCites$Reader" "draft" "LLineCites$Work;") (List.mem_of_getElem? (i := 6) rfl)) (fun _ h9 => h9) rfl dX4_readStretch_192 ?_
                          refine lv_iload_n hx hb dX4_readStretch_195 rfl (lv_at hl 3 rfl) ?_
                          refine lv_iload_n hx hb dX4_readStretch_196 rfl (lv_at hl 4 rfl) ?_
                          refine lv_iload_n hx hb dX4_readStretch_197 rfl (lv_at hl 2 rfl) ?_
                          refine lv_iload hx hb dX4_readStretch_198 (lv_at hl 1 rfl) ?_
                          refine lv_iload hx hb dX4_readStretch_200 (lv_at hl 0 rfl) ?_
                          have hPc := hP.sub (ws' := [(a_d, .inr (8, [.ref b_sc, .ref b_sp, .ref b_cp, .ref b_sn, .ref b_sl, .int i_li, .int i_ed, .int i_se])), (b_sc, .inl (kI, 5, .inl g_b_sc)), (b_sp, .inl (kI, 120, .inl g_b_sp))]) [0, 1, 2] rfl
                          have hKc := hK.sub (tys' := [(kI, .int)]) [0] rfl
                          have hDc := hD.sub (ws' := [(a_d, .inr (8, [.ref b_sc, .ref b_sp, .ref b_cp, .ref b_sn, .ref b_sl, .int i_li, .int i_ed, .int i_se])), (b_sc, .inl (kI, 5, .inl g_b_sc)), (b_sp, .inl (kI, 120, .inl g_b_sp))]) [0, 1, 2] (by decide) rfl
                          have hFc := va_free (wc := [(a_d, .inr (8, [.ref b_sc, .ref b_sp, .ref b_cp, .ref b_sn, .ref b_sl, .int i_li, .int i_ed, .int i_se])), (b_sc, .inl (kI, 5, .inl g_b_sc)), (b_sp, .inl (kI, 120, .inl g_b_sp))]) hD hS hA [0, 1, 2] rfl
                          refine va_callv (va_runV (As := [.int x3, .int r1, .int y12, .int y26, .int y40]) (rest := []) ⟨hx, hb, hml, hown, hts⟩ (c_X8_putStretch__f l D a_d x3 r1 y12 y26 y40 b_sc b_sp b_cp b_sn b_sl i_li i_ed i_se kI g_b_sc g_b_sp ke ps H.size (by first | omega | decide | (have hz0 : (0 : Int32).toInt = 0 := (by decide); omega)) (by first | omega | decide | (have hz0 : (0 : Int32).toInt = 0 := (by decide); omega)) (by first | omega | decide | (have hz0 : (0 : Int32).toInt = 0 := (by decide); omega)) hdR (by first | omega | decide | (have hz0 : (0 : Int32).toInt = 0 := (by decide); omega)) (by first | decide | omega) (by first | decide | omega) (by first | decide | omega) (by first | decide | omega) (by first | decide | omega) (by first | decide | omega) (by first | decide | omega) (by first | decide | omega) (by first | omega | decide | (have hz0 : (0 : Int32).toInt = 0 := (by decide); omega)) hg_b_sp) (cwV 5 hts g_X4_readStretch_X8_putStretch__f rfl rfl rfl (by decide +kernel) ⟨Nat.le_of_ble_eq_true rfl, Nat.le_of_ble_eq_true rfl⟩) ⟨fun a U g mk q => by obtain ⟨q0, q1, qP, qK, qD⟩ := q; exact ⟨q0, q1, qP, va_K.moved (u := U) (U := U.calling g mk a) (Vm.Alike.refl U.vm) qK, qD⟩, va_recv hKc hPc (ci := 8) (q0 := 0) rfl rfl, fun U hU hW => ⟨rfl, by rw [hU], by rw [hU]; exact hPc, va_K.moved hW.alike hKc, hDc.weaken (fun _ _ _ _ => trivial)⟩⟩ rfl rfl hl.1 rfl (lv_room (Nat.le_of_ble_eq_true rfl)) dX4_readStretch_202 ⟨Nat.le_of_ble_eq_true rfl, Nat.le_of_ble_eq_true rfl⟩) hS (fun q _ h => hFc q h) hFc (fun u t H1 locs ht hvm hw hB hz1 hk1 hS => ?_)
                          obtain ⟨y52, y53, hP1, hK1, hD1, hy53, hdR⟩ := hB
                          rw [ht] at hP1
                          have hK1 := va_K.moved hvm.symm hK1
                          obtain ⟨hP, hD⟩ := va_join (wr := [(h0, .inr (4, [.ref a_tape, .ref a_d, .int y46, .int y47, .int y38, .int y48, .int y49])), (a_tape, .inr (7, [.ref y_by, .int i_sz, .int i_lf])), (y_by, .inl (kB, 200, .inl g_by))]) (w1 := [(a_d, .inr (8, [.ref b_sc, .ref b_sp, .ref b_cp, .ref b_sn, .ref b_sl, .int i_li, .int i_ed, .int i_se])), (b_sc, .inl (kI, 5, .inl y52)), (b_sp, .inl (kI, 120, .inl y53))]) hP hD [0, 1, 2] [3, 4, 5] rfl rfl (by decide) (by decide) hk1 hFc hP1 hD1
                          have hK := (hK.sub (tys' := [(kI, .int), (kB, .byte), (kB, .byte), (kB, .byte), (kB, .byte), (kB, .byte), (kB, .byte), (kB, .byte)]) [0, 1, 2, 3, 4, 5, 6, 7] rfl).app hK1
                          generalize H1 = H at hP hS ⊢
                          have hP : va_P D vwCl [(h0, .inr (4, [.ref a_tape, .ref a_d, .int y46, .int y47, .int y38, .int y48, .int y49])), (a_tape, .inr (7, [.ref y_by, .int i_sz, .int i_lf])), (y_by, .inl (kB, 200, .inl g_by)), (a_d, .inr (8, [.ref b_sc, .ref b_sp, .ref b_cp, .ref b_sn, .ref b_sl, .int i_li, .int i_ed, .int i_se])), (b_sc, .inl (kI, 5, .inl y52)), (b_sp, .inl (kI, 120, .inl y53))] H := hP
                          have hD : va_D A [(h0, .inr (4, [.ref a_tape, .ref a_d, .int y46, .int y47, .int y38, .int y48, .int y49])), (a_tape, .inr (7, [.ref y_by, .int i_sz, .int i_lf])), (y_by, .inl (kB, 200, .inl g_by)), (a_d, .inr (8, [.ref b_sc, .ref b_sp, .ref b_cp, .ref b_sn, .ref b_sl, .int i_li, .int i_ed, .int i_se])), (b_sc, .inl (kI, 5, .inl y52)), (b_sp, .inl (kI, 120, .inl y53))] := hD
                          have hK : va_K D vwCl [(kI, .int), (kB, .byte), (kB, .byte), (kB, .byte), (kB, .byte), (kB, .byte), (kB, .byte), (kB, .byte), (kI, .int)] s := hK
                          refine W.widen (k := 0) (n := 0) (Nat.le_of_ble_eq_true rfl) (Nat.le_of_ble_eq_true rfl) ?_
                          refine lv_iconst (v := 1) hx hb dX4_readStretch_205 (by decide) ?_
                          have hyes : (0 < i_ed.toInt ∧ uStr (tC g_by) i_sz.toInt.toNat i_li.toInt i_tk.toInt a ps) := ⟨by omega, by unfold uStr; exact ⟨by omega, g1, g2, g3, g4, g5, g6, g7, g8, by omega, by omega, by omega, g10⟩⟩
                          have hP9 := hP.sub (ws' := [(h0, .inr (4, [.ref a_tape, .ref a_d, .int y46, .int y47, .int y38, .int y48, .int y49])), (a_tape, .inr (7, [.ref y_by, .int i_sz, .int i_lf])), (y_by, .inl (kB, 200, .inl g_by)), (a_d, .inr (8, [.ref b_sc, .ref b_sp, .ref b_cp, .ref b_sn, .ref b_sl, .int i_li, .int i_ed, .int i_se])), (b_sc, .inl (kI, 5, .inl y52)), (b_sp, .inl (kI, 120, .inl y53))]) [0, 1, 2, 3, 4, 5] rfl
                          have hD9 := hD.sub (ws' := [(h0, .inr (4, [.ref a_tape, .ref a_d, .int y46, .int y47, .int y38, .int y48, .int y49])), (a_tape, .inr (7, [.ref y_by, .int i_sz, .int i_lf])), (y_by, .inl (kB, 200, .inl g_by)), (a_d, .inr (8, [.ref b_sc, .ref b_sp, .ref b_cp, .ref b_sn, .ref b_sl, .int i_li, .int i_ed, .int i_se])), (b_sc, .inl (kI, 5, .inl y52)), (b_sp, .inl (kI, 120, .inl y53))]) [0, 1, 2, 3, 4, 5] (by decide) rfl
                          have hK9 := hK.sub (tys' := [(kI, .int), (kB, .byte)]) [0, 1] rfl
                          refine W.widen (k := 0) (n := 0) (Nat.le_of_ble_eq_true rfl) (Nat.le_of_ble_eq_true rfl) ?_
                          exact W.zret (v := 1) (ty := .boolean) hx hb hr rfl (fun t ht hW => ⟨⟨1, (), rfl, ⟨Or.inr rfl, bI_yes hyes⟩, y46, y47, y38, y48, y49, y52, y53, by rw [ht]; exact hP9, va_K.moved hW.alike hK9, hD9, hy53, (fun _ => by have h9 := hdR; rw [g2v.1, g5v.1] at h9; exact h9), (fun _ => px0_r45), (by omega)⟩, hS.F ht⟩) hS.2.2 dX4_readStretch_206
                        · have nc50 : r45.toInt = 0 := pw_eq c50 rfl (by decide)
                          refine lv_iconst (v := 0) hx hb dX4_readStretch_189 (by decide) ?_
                          have hno : ¬ (0 < i_ed.toInt ∧ uStr (tC g_by) i_sz.toInt.toNat i_li.toInt i_tk.toInt a ps) := fun q => by have q2 := q.2; have q3 := q.1; clear q; unfold uStr at q2; omega
                          have hP9 := hP.sub (ws' := [(h0, .inr (4, [.ref a_tape, .ref a_d, .int y46, .int y47, .int y38, .int y48, .int y49])), (a_tape, .inr (7, [.ref y_by, .int i_sz, .int i_lf])), (y_by, .inl (kB, 200, .inl g_by)), (a_d, .inr (8, [.ref b_sc, .ref b_sp, .ref b_cp, .ref b_sn, .ref b_sl, .int i_li, .int i_ed, .int i_se])), (b_sc, .inl (kI, 5, .inl g_b_sc)), (b_sp, .inl (kI, 120, .inl g_b_sp))]) [3, 4, 5, 0, 1, 2] rfl
                          have hD9 := hD.sub (ws' := [(h0, .inr (4, [.ref a_tape, .ref a_d, .int y46, .int y47, .int y38, .int y48, .int y49])), (a_tape, .inr (7, [.ref y_by, .int i_sz, .int i_lf])), (y_by, .inl (kB, 200, .inl g_by)), (a_d, .inr (8, [.ref b_sc, .ref b_sp, .ref b_cp, .ref b_sn, .ref b_sl, .int i_li, .int i_ed, .int i_se])), (b_sc, .inl (kI, 5, .inl g_b_sc)), (b_sp, .inl (kI, 120, .inl g_b_sp))]) [3, 4, 5, 0, 1, 2] (by decide) rfl
                          have hK9 := hK.sub (tys' := [(kI, .int), (kB, .byte)]) [0, 1] rfl
                          refine W.widen (k := 0) (n := 0) (Nat.le_of_ble_eq_true rfl) (Nat.le_of_ble_eq_true rfl) ?_
                          exact W.zret (v := 0) (ty := .boolean) hx hb hr rfl (fun t ht hW => ⟨⟨0, (), rfl, ⟨Or.inl rfl, bI_no hno⟩, y46, y47, y38, y48, y49, g_b_sc, g_b_sp, by rw [ht]; exact hP9, va_K.moved hW.alike hK9, hD9, hg_b_sp, (fun q => absurd (bI_1 q) hno), (fun q => absurd (bI_1 q) hno), (by omega)⟩, hS.F ht⟩) hS.2.2 dX4_readStretch_190
                      · have nc44 : r43.toInt = 0 := pw_eq c44 rfl (by decide)
                        have g9 := hfr43
                        rw [gk, g5v.1, g8v.1] at g9
                        clear hfr43
                        refine lv_aload_n hx hb dX4_readStretch_174 rfl (lv_at hl 5 rfl) ?_
                        refine lv_iconst (v := 2) hx hb dX4_readStretch_175 (by decide) ?_
                        have hPc := hP.sub (ws' := [(h0, .inr (4, [.ref a_tape, .ref a_d, .int y38, .int y39, .int y32, .int y40, .int y41]))]) [3] rfl
                        have hKc := hK.sub (tys' := []) [] rfl
                        have hDc := hD.sub (ws' := [(h0, .inr (4, [.ref a_tape, .ref a_d, .int y38, .int y39, .int y32, .int y40, .int y41]))]) [3] (by decide) rfl
                        have hFc := va_free (wc := [(h0, .inr (4, [.ref a_tape, .ref a_d, .int y38, .int y39, .int y32, .int y40, .int y41]))]) hD hS hA [3] rfl
                        refine va_calli (va_runV (As := [.int 2]) (rest := []) ⟨hx, hb, hml, hown, hts⟩ (c_X4_refuse l D h0 2 a_tape a_d y38 y39 y32 y40 y41 H.size) (cwV 1 hts g_X4_readStretch_X4_refuse rfl rfl rfl (by decide +kernel) ⟨Nat.le_of_ble_eq_true rfl, Nat.le_of_ble_eq_true rfl⟩) ⟨fun a U g mk q => by obtain ⟨q0, q1, qP, qK, qD⟩ := q; exact ⟨q0, q1, qP, va_K.moved (u := U) (U := U.calling g mk a) (Vm.Alike.refl U.vm) qK, qD⟩, va_recv hKc hPc (ci := 4) (q0 := 0) rfl rfl, fun U hU hW => ⟨rfl, by rw [hU], by rw [hU]; exact hPc, va_K.moved hW.alike hKc, hDc.weaken (fun _ _ _ _ => trivial)⟩⟩ rfl rfl hl.1 rfl (lv_room (Nat.le_of_ble_eq_true rfl)) dX4_readStretch_176 ⟨Nat.le_of_ble_eq_true rfl, Nat.le_of_ble_eq_true rfl⟩) hS (fun q _ h => hFc q h) hFc (fun r54 u t H1 locs ht hvm hw hB hz1 hk1 hS => ?_)
                        obtain ⟨hP1, hK1, hD1⟩ := hB
                        rw [ht] at hP1
                        have hK1 := va_K.moved hvm.symm hK1
                        obtain ⟨hP, hD⟩ := va_join (wr := [(a_d, .inr (8, [.ref b_sc, .ref b_sp, .ref b_cp, .ref b_sn, .ref b_sl, .int i_li, .int i_ed, .int i_se])), (b_sc, .inl (kI, 5, .inl g_b_sc)), (b_sp, .inl (kI, 120, .inl g_b_sp)), (a_tape, .inr (7, [.ref y_by, .int i_sz, .int i_lf])), (y_by, .inl (kB, 200, .inl g_by))]) (w1 := [(h0, .inr (4, [.ref a_tape, .ref a_d, .int y38, .int y39, .int y32, .int y40, .int 2]))]) hP hD [3] [0, 1, 2, 4, 5] rfl rfl (by decide) (by decide) hk1 hFc hP1 hD1
                        have hK := (hK.sub (tys' := [(kI, .int), (kB, .byte), (kB, .byte), (kB, .byte), (kB, .byte), (kB, .byte), (kB, .byte)]) [0, 1, 2, 3, 4, 5, 6] rfl).app hK1
                        generalize H1 = H at hP hS ⊢
                        have hP : va_P D vwCl [(a_d, .inr (8, [.ref b_sc, .ref b_sp, .ref b_cp, .ref b_sn, .ref b_sl, .int i_li, .int i_ed, .int i_se])), (b_sc, .inl (kI, 5, .inl g_b_sc)), (b_sp, .inl (kI, 120, .inl g_b_sp)), (a_tape, .inr (7, [.ref y_by, .int i_sz, .int i_lf])), (y_by, .inl (kB, 200, .inl g_by)), (h0, .inr (4, [.ref a_tape, .ref a_d, .int y38, .int y39, .int y32, .int y40, .int 2]))] H := hP
                        have hD : va_D A [(a_d, .inr (8, [.ref b_sc, .ref b_sp, .ref b_cp, .ref b_sn, .ref b_sl, .int i_li, .int i_ed, .int i_se])), (b_sc, .inl (kI, 5, .inl g_b_sc)), (b_sp, .inl (kI, 120, .inl g_b_sp)), (a_tape, .inr (7, [.ref y_by, .int i_sz, .int i_lf])), (y_by, .inl (kB, 200, .inl g_by)), (h0, .inr (4, [.ref a_tape, .ref a_d, .int y38, .int y39, .int y32, .int y40, .int 2]))] := hD
                        have hK : va_K D vwCl [(kI, .int), (kB, .byte), (kB, .byte), (kB, .byte), (kB, .byte), (kB, .byte), (kB, .byte)] s := hK
                        refine W.widen (k := 0) (n := 0) (Nat.le_of_ble_eq_true rfl) (Nat.le_of_ble_eq_true rfl) ?_
                        obtain rfl : r54 = 0 := hw
                        have hno : ¬ (0 < i_ed.toInt ∧ uStr (tC g_by) i_sz.toInt.toNat i_li.toInt i_tk.toInt a ps) := fun q => by have q2 := q.2; have q3 := q.1; clear q; unfold uStr at q2; omega
                        have hP9 := hP.sub (ws' := [(h0, .inr (4, [.ref a_tape, .ref a_d, .int y38, .int y39, .int y32, .int y40, .int 2])), (a_tape, .inr (7, [.ref y_by, .int i_sz, .int i_lf])), (y_by, .inl (kB, 200, .inl g_by)), (a_d, .inr (8, [.ref b_sc, .ref b_sp, .ref b_cp, .ref b_sn, .ref b_sl, .int i_li, .int i_ed, .int i_se])), (b_sc, .inl (kI, 5, .inl g_b_sc)), (b_sp, .inl (kI, 120, .inl g_b_sp))]) [5, 3, 4, 0, 1, 2] rfl
                        have hD9 := hD.sub (ws' := [(h0, .inr (4, [.ref a_tape, .ref a_d, .int y38, .int y39, .int y32, .int y40, .int 2])), (a_tape, .inr (7, [.ref y_by, .int i_sz, .int i_lf])), (y_by, .inl (kB, 200, .inl g_by)), (a_d, .inr (8, [.ref b_sc, .ref b_sp, .ref b_cp, .ref b_sn, .ref b_sl, .int i_li, .int i_ed, .int i_se])), (b_sc, .inl (kI, 5, .inl g_b_sc)), (b_sp, .inl (kI, 120, .inl g_b_sp))]) [5, 3, 4, 0, 1, 2] (by decide) rfl
                        have hK9 := hK.sub (tys' := [(kI, .int), (kB, .byte)]) [0, 1] rfl
                        refine W.widen (k := 0) (n := 0) (Nat.le_of_ble_eq_true rfl) (Nat.le_of_ble_eq_true rfl) ?_
                        exact W.zret (v := 0) (ty := .boolean) hx hb hr rfl (fun t ht hW => ⟨⟨0, (), rfl, ⟨Or.inl rfl, bI_no hno⟩, y38, y39, y32, y40, 2, g_b_sc, g_b_sp, by rw [ht]; exact hP9, va_K.moved hW.alike hK9, hD9, hg_b_sp, (fun q => absurd (bI_1 q) hno), (fun q => absurd (bI_1 q) hno), (by omega)⟩, hS.F ht⟩) hS.2.2 dX4_readStretch_179
                    · have nc42 : r37.toInt = 0 := pw_eq c42 rfl (by decide)
                      refine lv_iconst (v := 0) hx hb dX4_readStretch_151 (by decide) ?_
                      have hno : ¬ (0 < i_ed.toInt ∧ uStr (tC g_by) i_sz.toInt.toNat i_li.toInt i_tk.toInt a ps) := fun q => by have q2 := q.2; have q3 := q.1; clear q; unfold uStr at q2; omega
                      have hP9 := hP.sub (ws' := [(h0, .inr (4, [.ref a_tape, .ref a_d, .int y38, .int y39, .int y32, .int y40, .int y41])), (a_tape, .inr (7, [.ref y_by, .int i_sz, .int i_lf])), (y_by, .inl (kB, 200, .inl g_by)), (a_d, .inr (8, [.ref b_sc, .ref b_sp, .ref b_cp, .ref b_sn, .ref b_sl, .int i_li, .int i_ed, .int i_se])), (b_sc, .inl (kI, 5, .inl g_b_sc)), (b_sp, .inl (kI, 120, .inl g_b_sp))]) [3, 4, 5, 0, 1, 2] rfl
                      have hD9 := hD.sub (ws' := [(h0, .inr (4, [.ref a_tape, .ref a_d, .int y38, .int y39, .int y32, .int y40, .int y41])), (a_tape, .inr (7, [.ref y_by, .int i_sz, .int i_lf])), (y_by, .inl (kB, 200, .inl g_by)), (a_d, .inr (8, [.ref b_sc, .ref b_sp, .ref b_cp, .ref b_sn, .ref b_sl, .int i_li, .int i_ed, .int i_se])), (b_sc, .inl (kI, 5, .inl g_b_sc)), (b_sp, .inl (kI, 120, .inl g_b_sp))]) [3, 4, 5, 0, 1, 2] (by decide) rfl
                      have hK9 := hK.sub (tys' := [(kI, .int), (kB, .byte)]) [0, 1] rfl
                      refine W.widen (k := 0) (n := 0) (Nat.le_of_ble_eq_true rfl) (Nat.le_of_ble_eq_true rfl) ?_
                      exact W.zret (v := 0) (ty := .boolean) hx hb hr rfl (fun t ht hW => ⟨⟨0, (), rfl, ⟨Or.inl rfl, bI_no hno⟩, y38, y39, y32, y40, y41, g_b_sc, g_b_sp, by rw [ht]; exact hP9, va_K.moved hW.alike hK9, hD9, hg_b_sp, (fun q => absurd (bI_1 q) hno), (fun q => absurd (bI_1 q) hno), (by omega)⟩, hS.F ht⟩) hS.2.2 dX4_readStretch_152
                · have nc30 : r29.toInt = 0 := pw_eq c30 rfl (by decide)
                  have g6 : bI (uMany i_li.toInt ps (tNum (tC g_by) i_sz.toInt.toNat a) (tNum (tC g_by) i_sz.toInt.toNat (tNx (tC g_by) i_sz.toInt.toNat (tNx (tC g_by) i_sz.toInt.toNat a)))) = 0 := by rw [← g2v.1, ← g5v.1]; omega
                  refine lv_aload_n hx hb dX4_readStretch_127 rfl (lv_at hl 4 rfl) ?_
                  refine lv_iconst (v := 2) hx hb dX4_readStretch_128 (by decide) ?_
                  have hPc := hP.sub (ws' := [(h0, .inr (4, [.ref a_tape, .ref a_d, .int y24, .int y25, .int y18, .int y26, .int y27]))]) [3] rfl
                  have hKc := hK.sub (tys' := []) [] rfl
                  have hDc := hD.sub (ws' := [(h0, .inr (4, [.ref a_tape, .ref a_d, .int y24, .int y25, .int y18, .int y26, .int y27]))]) [3] (by decide) rfl
                  have hFc := va_free (wc := [(h0, .inr (4, [.ref a_tape, .ref a_d, .int y24, .int y25, .int y18, .int y26, .int y27]))]) hD hS hA [3] rfl
                  refine va_calli (va_runV (As := [.int 2]) (rest := []) ⟨hx, hb, hml, hown, hts⟩ (c_X4_refuse l D h0 2 a_tape a_d y24 y25 y18 y26 y27 H.size) (cwV 1 hts g_X4_readStretch_X4_refuse rfl rfl rfl (by decide +kernel) ⟨Nat.le_of_ble_eq_true rfl, Nat.le_of_ble_eq_true rfl⟩) ⟨fun a U g mk q => by obtain ⟨q0, q1, qP, qK, qD⟩ := q; exact ⟨q0, q1, qP, va_K.moved (u := U) (U := U.calling g mk a) (Vm.Alike.refl U.vm) qK, qD⟩, va_recv hKc hPc (ci := 4) (q0 := 0) rfl rfl, fun U hU hW => ⟨rfl, by rw [hU], by rw [hU]; exact hPc, va_K.moved hW.alike hKc, hDc.weaken (fun _ _ _ _ => trivial)⟩⟩ rfl rfl hl.1 rfl (lv_room (Nat.le_of_ble_eq_true rfl)) dX4_readStretch_129 ⟨Nat.le_of_ble_eq_true rfl, Nat.le_of_ble_eq_true rfl⟩) hS (fun q _ h => hFc q h) hFc (fun r55 u t H1 locs ht hvm hw hB hz1 hk1 hS => ?_)
                  obtain ⟨hP1, hK1, hD1⟩ := hB
                  rw [ht] at hP1
                  have hK1 := va_K.moved hvm.symm hK1
                  obtain ⟨hP, hD⟩ := va_join (wr := [(a_d, .inr (8, [.ref b_sc, .ref b_sp, .ref b_cp, .ref b_sn, .ref b_sl, .int i_li, .int i_ed, .int i_se])), (b_sc, .inl (kI, 5, .inl g_b_sc)), (b_sp, .inl (kI, 120, .inl g_b_sp)), (a_tape, .inr (7, [.ref y_by, .int i_sz, .int i_lf])), (y_by, .inl (kB, 200, .inl g_by))]) (w1 := [(h0, .inr (4, [.ref a_tape, .ref a_d, .int y24, .int y25, .int y18, .int y26, .int 2]))]) hP hD [3] [0, 1, 2, 4, 5] rfl rfl (by decide) (by decide) hk1 hFc hP1 hD1
                  have hK := (hK.sub (tys' := [(kI, .int), (kB, .byte), (kB, .byte), (kB, .byte), (kB, .byte)]) [0, 1, 2, 3, 4] rfl).app hK1
                  generalize H1 = H at hP hS ⊢
                  have hP : va_P D vwCl [(a_d, .inr (8, [.ref b_sc, .ref b_sp, .ref b_cp, .ref b_sn, .ref b_sl, .int i_li, .int i_ed, .int i_se])), (b_sc, .inl (kI, 5, .inl g_b_sc)), (b_sp, .inl (kI, 120, .inl g_b_sp)), (a_tape, .inr (7, [.ref y_by, .int i_sz, .int i_lf])), (y_by, .inl (kB, 200, .inl g_by)), (h0, .inr (4, [.ref a_tape, .ref a_d, .int y24, .int y25, .int y18, .int y26, .int 2]))] H := hP
                  have hD : va_D A [(a_d, .inr (8, [.ref b_sc, .ref b_sp, .ref b_cp, .ref b_sn, .ref b_sl, .int i_li, .int i_ed, .int i_se])), (b_sc, .inl (kI, 5, .inl g_b_sc)), (b_sp, .inl (kI, 120, .inl g_b_sp)), (a_tape, .inr (7, [.ref y_by, .int i_sz, .int i_lf])), (y_by, .inl (kB, 200, .inl g_by)), (h0, .inr (4, [.ref a_tape, .ref a_d, .int y24, .int y25, .int y18, .int y26, .int 2]))] := hD
                  have hK : va_K D vwCl [(kI, .int), (kB, .byte), (kB, .byte), (kB, .byte), (kB, .byte)] s := hK
                  refine W.widen (k := 0) (n := 0) (Nat.le_of_ble_eq_true rfl) (Nat.le_of_ble_eq_true rfl) ?_
                  obtain rfl : r55 = 0 := hw
                  have hno : ¬ (0 < i_ed.toInt ∧ uStr (tC g_by) i_sz.toInt.toNat i_li.toInt i_tk.toInt a ps) := fun q => by have q2 := q.2; have q3 := q.1; clear q; unfold uStr at q2; omega
                  have hP9 := hP.sub (ws' := [(h0, .inr (4, [.ref a_tape, .ref a_d, .int y24, .int y25, .int y18, .int y26, .int 2])), (a_tape, .inr (7, [.ref y_by, .int i_sz, .int i_lf])), (y_by, .inl (kB, 200, .inl g_by)), (a_d, .inr (8, [.ref b_sc, .ref b_sp, .ref b_cp, .ref b_sn, .ref b_sl, .int i_li, .int i_ed, .int i_se])), (b_sc, .inl (kI, 5, .inl g_b_sc)), (b_sp, .inl (kI, 120, .inl g_b_sp))]) [5, 3, 4, 0, 1, 2] rfl
                  have hD9 := hD.sub (ws' := [(h0, .inr (4, [.ref a_tape, .ref a_d, .int y24, .int y25, .int y18, .int y26, .int 2])), (a_tape, .inr (7, [.ref y_by, .int i_sz, .int i_lf])), (y_by, .inl (kB, 200, .inl g_by)), (a_d, .inr (8, [.ref b_sc, .ref b_sp, .ref b_cp, .ref b_sn, .ref b_sl, .int i_li, .int i_ed, .int i_se])), (b_sc, .inl (kI, 5, .inl g_b_sc)), (b_sp, .inl (kI, 120, .inl g_b_sp))]) [5, 3, 4, 0, 1, 2] (by decide) rfl
                  have hK9 := hK.sub (tys' := [(kI, .int), (kB, .byte)]) [0, 1] rfl
                  refine W.widen (k := 0) (n := 0) (Nat.le_of_ble_eq_true rfl) (Nat.le_of_ble_eq_true rfl) ?_
                  exact W.zret (v := 0) (ty := .boolean) hx hb hr rfl (fun t ht hW => ⟨⟨0, (), rfl, ⟨Or.inl rfl, bI_no hno⟩, y24, y25, y18, y26, 2, g_b_sc, g_b_sp, by rw [ht]; exact hP9, va_K.moved hW.alike hK9, hD9, hg_b_sp, (fun q => absurd (bI_1 q) hno), (fun q => absurd (bI_1 q) hno), (by omega)⟩, hS.F ht⟩) hS.2.2 dX4_readStretch_132
              · have nc28 : r23.toInt = 0 := pw_eq c28 rfl (by decide)
                refine lv_iconst (v := 0) hx hb dX4_readStretch_104 (by decide) ?_
                have hno : ¬ (0 < i_ed.toInt ∧ uStr (tC g_by) i_sz.toInt.toNat i_li.toInt i_tk.toInt a ps) := fun q => by have q2 := q.2; have q3 := q.1; clear q; unfold uStr at q2; omega
                have hP9 := hP.sub (ws' := [(h0, .inr (4, [.ref a_tape, .ref a_d, .int y24, .int y25, .int y18, .int y26, .int y27])), (a_tape, .inr (7, [.ref y_by, .int i_sz, .int i_lf])), (y_by, .inl (kB, 200, .inl g_by)), (a_d, .inr (8, [.ref b_sc, .ref b_sp, .ref b_cp, .ref b_sn, .ref b_sl, .int i_li, .int i_ed, .int i_se])), (b_sc, .inl (kI, 5, .inl g_b_sc)), (b_sp, .inl (kI, 120, .inl g_b_sp))]) [3, 4, 5, 0, 1, 2] rfl
                have hD9 := hD.sub (ws' := [(h0, .inr (4, [.ref a_tape, .ref a_d, .int y24, .int y25, .int y18, .int y26, .int y27])), (a_tape, .inr (7, [.ref y_by, .int i_sz, .int i_lf])), (y_by, .inl (kB, 200, .inl g_by)), (a_d, .inr (8, [.ref b_sc, .ref b_sp, .ref b_cp, .ref b_sn, .ref b_sl, .int i_li, .int i_ed, .int i_se])), (b_sc, .inl (kI, 5, .inl g_b_sc)), (b_sp, .inl (kI, 120, .inl g_b_sp))]) [3, 4, 5, 0, 1, 2] (by decide) rfl
                have hK9 := hK.sub (tys' := [(kI, .int), (kB, .byte)]) [0, 1] rfl
                refine W.widen (k := 0) (n := 0) (Nat.le_of_ble_eq_true rfl) (Nat.le_of_ble_eq_true rfl) ?_
                exact W.zret (v := 0) (ty := .boolean) hx hb hr rfl (fun t ht hW => ⟨⟨0, (), rfl, ⟨Or.inl rfl, bI_no hno⟩, y24, y25, y18, y26, y27, g_b_sc, g_b_sp, by rw [ht]; exact hP9, va_K.moved hW.alike hK9, hD9, hg_b_sp, (fun q => absurd (bI_1 q) hno), (fun q => absurd (bI_1 q) hno), (by omega)⟩, hS.F ht⟩) hS.2.2 dX4_readStretch_105
          · have nc16 : r15.toInt = 0 := pw_eq c16 rfl (by decide)
            have g3 : bI (uFrom i_li.toInt ps (tNum (tC g_by) i_sz.toInt.toNat a)) = 0 := by rw [← g2v.1]; omega
            refine lv_aload_n hx hb dX4_readStretch_80 rfl (lv_at hl 3 rfl) ?_
            refine lv_iconst (v := 2) hx hb dX4_readStretch_81 (by decide) ?_
            have hPc := hP.sub (ws' := [(h0, .inr (4, [.ref a_tape, .ref a_d, .int y10, .int y11, .int i_at, .int y12, .int y13]))]) [3] rfl
            have hKc := hK.sub (tys' := []) [] rfl
            have hDc := hD.sub (ws' := [(h0, .inr (4, [.ref a_tape, .ref a_d, .int y10, .int y11, .int i_at, .int y12, .int y13]))]) [3] (by decide) rfl
            have hFc := va_free (wc := [(h0, .inr (4, [.ref a_tape, .ref a_d, .int y10, .int y11, .int i_at, .int y12, .int y13]))]) hD hS hA [3] rfl
            refine va_calli (va_runV (As := [.int 2]) (rest := []) ⟨hx, hb, hml, hown, hts⟩ (c_X4_refuse l D h0 2 a_tape a_d y10 y11 i_at y12 y13 H.size) (cwV 1 hts g_X4_readStretch_X4_refuse rfl rfl rfl (by decide +kernel) ⟨Nat.le_of_ble_eq_true rfl, Nat.le_of_ble_eq_true rfl⟩) ⟨fun a U g mk q => by obtain ⟨q0, q1, qP, qK, qD⟩ := q; exact ⟨q0, q1, qP, va_K.moved (u := U) (U := U.calling g mk a) (Vm.Alike.refl U.vm) qK, qD⟩, va_recv hKc hPc (ci := 4) (q0 := 0) rfl rfl, fun U hU hW => ⟨rfl, by rw [hU], by rw [hU]; exact hPc, va_K.moved hW.alike hKc, hDc.weaken (fun _ _ _ _ => trivial)⟩⟩ rfl rfl hl.1 rfl (lv_room (Nat.le_of_ble_eq_true rfl)) dX4_readStretch_82 ⟨Nat.le_of_ble_eq_true rfl, Nat.le_of_ble_eq_true rfl⟩) hS (fun q _ h => hFc q h) hFc (fun r56 u t H1 locs ht hvm hw hB hz1 hk1 hS => ?_)
            obtain ⟨hP1, hK1, hD1⟩ := hB
            rw [ht] at hP1
            have hK1 := va_K.moved hvm.symm hK1
            obtain ⟨hP, hD⟩ := va_join (wr := [(a_d, .inr (8, [.ref b_sc, .ref b_sp, .ref b_cp, .ref b_sn, .ref b_sl, .int i_li, .int i_ed, .int i_se])), (b_sc, .inl (kI, 5, .inl g_b_sc)), (b_sp, .inl (kI, 120, .inl g_b_sp)), (a_tape, .inr (7, [.ref y_by, .int i_sz, .int i_lf])), (y_by, .inl (kB, 200, .inl g_by))]) (w1 := [(h0, .inr (4, [.ref a_tape, .ref a_d, .int y10, .int y11, .int i_at, .int y12, .int 2]))]) hP hD [3] [0, 1, 2, 4, 5] rfl rfl (by decide) (by decide) hk1 hFc hP1 hD1
            have hK := (hK.sub (tys' := [(kI, .int), (kB, .byte), (kB, .byte)]) [0, 1, 2] rfl).app hK1
            generalize H1 = H at hP hS ⊢
            have hP : va_P D vwCl [(a_d, .inr (8, [.ref b_sc, .ref b_sp, .ref b_cp, .ref b_sn, .ref b_sl, .int i_li, .int i_ed, .int i_se])), (b_sc, .inl (kI, 5, .inl g_b_sc)), (b_sp, .inl (kI, 120, .inl g_b_sp)), (a_tape, .inr (7, [.ref y_by, .int i_sz, .int i_lf])), (y_by, .inl (kB, 200, .inl g_by)), (h0, .inr (4, [.ref a_tape, .ref a_d, .int y10, .int y11, .int i_at, .int y12, .int 2]))] H := hP
            have hD : va_D A [(a_d, .inr (8, [.ref b_sc, .ref b_sp, .ref b_cp, .ref b_sn, .ref b_sl, .int i_li, .int i_ed, .int i_se])), (b_sc, .inl (kI, 5, .inl g_b_sc)), (b_sp, .inl (kI, 120, .inl g_b_sp)), (a_tape, .inr (7, [.ref y_by, .int i_sz, .int i_lf])), (y_by, .inl (kB, 200, .inl g_by)), (h0, .inr (4, [.ref a_tape, .ref a_d, .int y10, .int y11, .int i_at, .int y12, .int 2]))] := hD
            have hK : va_K D vwCl [(kI, .int), (kB, .byte), (kB, .byte)] s := hK
            refine W.widen (k := 0) (n := 0) (Nat.le_of_ble_eq_true rfl) (Nat.le_of_ble_eq_true rfl) ?_
            obtain rfl : r56 = 0 := hw
            have hno : ¬ (0 < i_ed.toInt ∧ uStr (tC g_by) i_sz.toInt.toNat i_li.toInt i_tk.toInt a ps) := fun q => by have q2 := q.2; have q3 := q.1; clear q; unfold uStr at q2; omega
            have hP9 := hP.sub (ws' := [(h0, .inr (4, [.ref a_tape, .ref a_d, .int y10, .int y11, .int i_at, .int y12, .int 2])), (a_tape, .inr (7, [.ref y_by, .int i_sz, .int i_lf])), (y_by, .inl (kB, 200, .inl g_by)), (a_d, .inr (8, [.ref b_sc, .ref b_sp, .ref b_cp, .ref b_sn, .ref b_sl, .int i_li, .int i_ed, .int i_se])), (b_sc, .inl (kI, 5, .inl g_b_sc)), (b_sp, .inl (kI, 120, .inl g_b_sp))]) [5, 3, 4, 0, 1, 2] rfl
            have hD9 := hD.sub (ws' := [(h0, .inr (4, [.ref a_tape, .ref a_d, .int y10, .int y11, .int i_at, .int y12, .int 2])), (a_tape, .inr (7, [.ref y_by, .int i_sz, .int i_lf])), (y_by, .inl (kB, 200, .inl g_by)), (a_d, .inr (8, [.ref b_sc, .ref b_sp, .ref b_cp, .ref b_sn, .ref b_sl, .int i_li, .int i_ed, .int i_se])), (b_sc, .inl (kI, 5, .inl g_b_sc)), (b_sp, .inl (kI, 120, .inl g_b_sp))]) [5, 3, 4, 0, 1, 2] (by decide) rfl
            have hK9 := hK.sub (tys' := [(kI, .int), (kB, .byte)]) [0, 1] rfl
            refine W.widen (k := 0) (n := 0) (Nat.le_of_ble_eq_true rfl) (Nat.le_of_ble_eq_true rfl) ?_
            exact W.zret (v := 0) (ty := .boolean) hx hb hr rfl (fun t ht hW => ⟨⟨0, (), rfl, ⟨Or.inl rfl, bI_no hno⟩, y10, y11, i_at, y12, 2, g_b_sc, g_b_sp, by rw [ht]; exact hP9, va_K.moved hW.alike hK9, hD9, hg_b_sp, (fun q => absurd (bI_1 q) hno), (fun q => absurd (bI_1 q) hno), (by omega)⟩, hS.F ht⟩) hS.2.2 dX4_readStretch_85
        · have nc14 : r9.toInt = 0 := pw_eq c14 rfl (by decide)
          refine lv_iconst (v := 0) hx hb dX4_readStretch_60 (by decide) ?_
          have hno : ¬ (0 < i_ed.toInt ∧ uStr (tC g_by) i_sz.toInt.toNat i_li.toInt i_tk.toInt a ps) := fun q => by have q2 := q.2; have q3 := q.1; clear q; unfold uStr at q2; omega
          have hP9 := hP.sub (ws' := [(h0, .inr (4, [.ref a_tape, .ref a_d, .int y10, .int y11, .int i_at, .int y12, .int y13])), (a_tape, .inr (7, [.ref y_by, .int i_sz, .int i_lf])), (y_by, .inl (kB, 200, .inl g_by)), (a_d, .inr (8, [.ref b_sc, .ref b_sp, .ref b_cp, .ref b_sn, .ref b_sl, .int i_li, .int i_ed, .int i_se])), (b_sc, .inl (kI, 5, .inl g_b_sc)), (b_sp, .inl (kI, 120, .inl g_b_sp))]) [3, 4, 5, 0, 1, 2] rfl
          have hD9 := hD.sub (ws' := [(h0, .inr (4, [.ref a_tape, .ref a_d, .int y10, .int y11, .int i_at, .int y12, .int y13])), (a_tape, .inr (7, [.ref y_by, .int i_sz, .int i_lf])), (y_by, .inl (kB, 200, .inl g_by)), (a_d, .inr (8, [.ref b_sc, .ref b_sp, .ref b_cp, .ref b_sn, .ref b_sl, .int i_li, .int i_ed, .int i_se])), (b_sc, .inl (kI, 5, .inl g_b_sc)), (b_sp, .inl (kI, 120, .inl g_b_sp))]) [3, 4, 5, 0, 1, 2] (by decide) rfl
          have hK9 := hK.sub (tys' := [(kI, .int), (kB, .byte)]) [0, 1] rfl
          refine W.widen (k := 0) (n := 0) (Nat.le_of_ble_eq_true rfl) (Nat.le_of_ble_eq_true rfl) ?_
          exact W.zret (v := 0) (ty := .boolean) hx hb hr rfl (fun t ht hW => ⟨⟨0, (), rfl, ⟨Or.inl rfl, bI_no hno⟩, y10, y11, i_at, y12, y13, g_b_sc, g_b_sp, by rw [ht]; exact hP9, va_K.moved hW.alike hK9, hD9, hg_b_sp, (fun q => absurd (bI_1 q) hno), (fun q => absurd (bI_1 q) hno), (by omega)⟩, hS.F ht⟩) hS.2.2 dX4_readStretch_61
      · have nc8 : 6 ≤ r7.toInt := pw_nlt c8 rfl (by decide)
        refine lv_aload_n hx hb dX4_readStretch_45 rfl (lv_at hl 2 rfl) ?_
        refine lv_iconst (v := 3) hx hb dX4_readStretch_46 (by decide) ?_
        have hPc := hP.sub (ws' := [(h0, .inr (4, [.ref a_tape, .ref a_d, .int i_at, .int i_tk, .int i_pl, .int i_vl, .int i_fn]))]) [0] rfl
        have hKc := hK.sub (tys' := []) [] rfl
        have hDc := hD.sub (ws' := [(h0, .inr (4, [.ref a_tape, .ref a_d, .int i_at, .int i_tk, .int i_pl, .int i_vl, .int i_fn]))]) [0] (by decide) rfl
        have hFc := va_free (wc := [(h0, .inr (4, [.ref a_tape, .ref a_d, .int i_at, .int i_tk, .int i_pl, .int i_vl, .int i_fn]))]) hD hS hA [0] rfl
        refine va_calli (va_runV (As := [.int 3]) (rest := []) ⟨hx, hb, hml, hown, hts⟩ (c_X4_refuse l D h0 3 a_tape a_d i_at i_tk i_pl i_vl i_fn H.size) (cwV 1 hts g_X4_readStretch_X4_refuse rfl rfl rfl (by decide +kernel) ⟨Nat.le_of_ble_eq_true rfl, Nat.le_of_ble_eq_true rfl⟩) ⟨fun a U g mk q => by obtain ⟨q0, q1, qP, qK, qD⟩ := q; exact ⟨q0, q1, qP, va_K.moved (u := U) (U := U.calling g mk a) (Vm.Alike.refl U.vm) qK, qD⟩, va_recv hKc hPc (ci := 4) (q0 := 0) rfl rfl, fun U hU hW => ⟨rfl, by rw [hU], by rw [hU]; exact hPc, va_K.moved hW.alike hKc, hDc.weaken (fun _ _ _ _ => trivial)⟩⟩ rfl rfl hl.1 rfl (lv_room (Nat.le_of_ble_eq_true rfl)) dX4_readStretch_47 ⟨Nat.le_of_ble_eq_true rfl, Nat.le_of_ble_eq_true rfl⟩) hS (fun q _ h => hFc q h) hFc (fun r57 u t H1 locs ht hvm hw hB hz1 hk1 hS => ?_)
        obtain ⟨hP1, hK1, hD1⟩ := hB
        rw [ht] at hP1
        have hK1 := va_K.moved hvm.symm hK1
        obtain ⟨hP, hD⟩ := va_join (wr := [(a_tape, .inr (7, [.ref y_by, .int i_sz, .int i_lf])), (y_by, .inl (kB, 200, .inl g_by)), (a_d, .inr (8, [.ref b_sc, .ref b_sp, .ref b_cp, .ref b_sn, .ref b_sl, .int i_li, .int i_ed, .int i_se])), (b_sc, .inl (kI, 5, .inl g_b_sc)), (b_sp, .inl (kI, 120, .inl g_b_sp))]) (w1 := [(h0, .inr (4, [.ref a_tape, .ref a_d, .int i_at, .int i_tk, .int i_pl, .int i_vl, .int 3]))]) hP hD [0] [1, 2, 3, 4, 5] rfl rfl (by decide) (by decide) hk1 hFc hP1 hD1
        have hK := (hK.sub (tys' := [(kI, .int), (kB, .byte)]) [0, 1] rfl).app hK1
        generalize H1 = H at hP hS ⊢
        have hP : va_P D vwCl [(a_tape, .inr (7, [.ref y_by, .int i_sz, .int i_lf])), (y_by, .inl (kB, 200, .inl g_by)), (a_d, .inr (8, [.ref b_sc, .ref b_sp, .ref b_cp, .ref b_sn, .ref b_sl, .int i_li, .int i_ed, .int i_se])), (b_sc, .inl (kI, 5, .inl g_b_sc)), (b_sp, .inl (kI, 120, .inl g_b_sp)), (h0, .inr (4, [.ref a_tape, .ref a_d, .int i_at, .int i_tk, .int i_pl, .int i_vl, .int 3]))] H := hP
        have hD : va_D A [(a_tape, .inr (7, [.ref y_by, .int i_sz, .int i_lf])), (y_by, .inl (kB, 200, .inl g_by)), (a_d, .inr (8, [.ref b_sc, .ref b_sp, .ref b_cp, .ref b_sn, .ref b_sl, .int i_li, .int i_ed, .int i_se])), (b_sc, .inl (kI, 5, .inl g_b_sc)), (b_sp, .inl (kI, 120, .inl g_b_sp)), (h0, .inr (4, [.ref a_tape, .ref a_d, .int i_at, .int i_tk, .int i_pl, .int i_vl, .int 3]))] := hD
        have hK : va_K D vwCl [(kI, .int), (kB, .byte)] s := hK
        refine W.widen (k := 0) (n := 0) (Nat.le_of_ble_eq_true rfl) (Nat.le_of_ble_eq_true rfl) ?_
        obtain rfl : r57 = 0 := hw
        have hno : ¬ (0 < i_ed.toInt ∧ uStr (tC g_by) i_sz.toInt.toNat i_li.toInt i_tk.toInt a ps) := fun q => by have q2 := q.2; have q3 := q.1; clear q; unfold uStr at q2; omega
        have hP9 := hP.sub (ws' := [(h0, .inr (4, [.ref a_tape, .ref a_d, .int i_at, .int i_tk, .int i_pl, .int i_vl, .int 3])), (a_tape, .inr (7, [.ref y_by, .int i_sz, .int i_lf])), (y_by, .inl (kB, 200, .inl g_by)), (a_d, .inr (8, [.ref b_sc, .ref b_sp, .ref b_cp, .ref b_sn, .ref b_sl, .int i_li, .int i_ed, .int i_se])), (b_sc, .inl (kI, 5, .inl g_b_sc)), (b_sp, .inl (kI, 120, .inl g_b_sp))]) [5, 0, 1, 2, 3, 4] rfl
        have hD9 := hD.sub (ws' := [(h0, .inr (4, [.ref a_tape, .ref a_d, .int i_at, .int i_tk, .int i_pl, .int i_vl, .int 3])), (a_tape, .inr (7, [.ref y_by, .int i_sz, .int i_lf])), (y_by, .inl (kB, 200, .inl g_by)), (a_d, .inr (8, [.ref b_sc, .ref b_sp, .ref b_cp, .ref b_sn, .ref b_sl, .int i_li, .int i_ed, .int i_se])), (b_sc, .inl (kI, 5, .inl g_b_sc)), (b_sp, .inl (kI, 120, .inl g_b_sp))]) [5, 0, 1, 2, 3, 4] (by decide) rfl
        have hK9 := hK.sub (tys' := [(kI, .int), (kB, .byte)]) [0, 1] rfl
        refine W.widen (k := 0) (n := 0) (Nat.le_of_ble_eq_true rfl) (Nat.le_of_ble_eq_true rfl) ?_
        exact W.zret (v := 0) (ty := .boolean) hx hb hr rfl (fun t ht hW => ⟨⟨0, (), rfl, ⟨Or.inl rfl, bI_no hno⟩, i_at, i_tk, i_pl, i_vl, 3, g_b_sc, g_b_sp, by rw [ht]; exact hP9, va_K.moved hW.alike hK9, hD9, hg_b_sp, (fun q => absurd (bI_1 q) hno), (fun q => absurd (bI_1 q) hno), (by omega)⟩, hS.F ht⟩) hS.2.2 dX4_readStretch_50
    · have nc6 : x3.toInt < 0 := pw_nle c6 (by decide) rfl
      refine lv_aload_n hx hb dX4_readStretch_26 rfl (lv_at hl 2 rfl) ?_
      refine lv_iconst (v := 1) hx hb dX4_readStretch_27 (by decide) ?_
      have hPc := hP.sub (ws' := [(h0, .inr (4, [.ref a_tape, .ref a_d, .int i_at, .int i_tk, .int i_pl, .int i_vl, .int i_fn]))]) [0] rfl
      have hKc := hK.sub (tys' := []) [] rfl
      have hDc := hD.sub (ws' := [(h0, .inr (4, [.ref a_tape, .ref a_d, .int i_at, .int i_tk, .int i_pl, .int i_vl, .int i_fn]))]) [0] (by decide) rfl
      have hFc := va_free (wc := [(h0, .inr (4, [.ref a_tape, .ref a_d, .int i_at, .int i_tk, .int i_pl, .int i_vl, .int i_fn]))]) hD hS hA [0] rfl
      refine va_calli (va_runV (As := [.int 1]) (rest := []) ⟨hx, hb, hml, hown, hts⟩ (c_X4_refuse l D h0 1 a_tape a_d i_at i_tk i_pl i_vl i_fn H.size) (cwV 1 hts g_X4_readStretch_X4_refuse rfl rfl rfl (by decide +kernel) ⟨Nat.le_of_ble_eq_true rfl, Nat.le_of_ble_eq_true rfl⟩) ⟨fun a U g mk q => by obtain ⟨q0, q1, qP, qK, qD⟩ := q; exact ⟨q0, q1, qP, va_K.moved (u := U) (U := U.calling g mk a) (Vm.Alike.refl U.vm) qK, qD⟩, va_recv hKc hPc (ci := 4) (q0 := 0) rfl rfl, fun U hU hW => ⟨rfl, by rw [hU], by rw [hU]; exact hPc, va_K.moved hW.alike hKc, hDc.weaken (fun _ _ _ _ => trivial)⟩⟩ rfl rfl hl.1 rfl (lv_room (Nat.le_of_ble_eq_true rfl)) dX4_readStretch_28 ⟨Nat.le_of_ble_eq_true rfl, Nat.le_of_ble_eq_true rfl⟩) hS (fun q _ h => hFc q h) hFc (fun r58 u t H1 locs ht hvm hw hB hz1 hk1 hS => ?_)
      obtain ⟨hP1, hK1, hD1⟩ := hB
      rw [ht] at hP1
      have hK1 := va_K.moved hvm.symm hK1
      obtain ⟨hP, hD⟩ := va_join (wr := [(a_tape, .inr (7, [.ref y_by, .int i_sz, .int i_lf])), (y_by, .inl (kB, 200, .inl g_by)), (a_d, .inr (8, [.ref b_sc, .ref b_sp, .ref b_cp, .ref b_sn, .ref b_sl, .int i_li, .int i_ed, .int i_se])), (b_sc, .inl (kI, 5, .inl g_b_sc)), (b_sp, .inl (kI, 120, .inl g_b_sp))]) (w1 := [(h0, .inr (4, [.ref a_tape, .ref a_d, .int i_at, .int i_tk, .int i_pl, .int i_vl, .int 1]))]) hP hD [0] [1, 2, 3, 4, 5] rfl rfl (by decide) (by decide) hk1 hFc hP1 hD1
      have hK := (hK.sub (tys' := [(kI, .int), (kB, .byte)]) [0, 1] rfl).app hK1
      generalize H1 = H at hP hS ⊢
      have hP : va_P D vwCl [(a_tape, .inr (7, [.ref y_by, .int i_sz, .int i_lf])), (y_by, .inl (kB, 200, .inl g_by)), (a_d, .inr (8, [.ref b_sc, .ref b_sp, .ref b_cp, .ref b_sn, .ref b_sl, .int i_li, .int i_ed, .int i_se])), (b_sc, .inl (kI, 5, .inl g_b_sc)), (b_sp, .inl (kI, 120, .inl g_b_sp)), (h0, .inr (4, [.ref a_tape, .ref a_d, .int i_at, .int i_tk, .int i_pl, .int i_vl, .int 1]))] H := hP
      have hD : va_D A [(a_tape, .inr (7, [.ref y_by, .int i_sz, .int i_lf])), (y_by, .inl (kB, 200, .inl g_by)), (a_d, .inr (8, [.ref b_sc, .ref b_sp, .ref b_cp, .ref b_sn, .ref b_sl, .int i_li, .int i_ed, .int i_se])), (b_sc, .inl (kI, 5, .inl g_b_sc)), (b_sp, .inl (kI, 120, .inl g_b_sp)), (h0, .inr (4, [.ref a_tape, .ref a_d, .int i_at, .int i_tk, .int i_pl, .int i_vl, .int 1]))] := hD
      have hK : va_K D vwCl [(kI, .int), (kB, .byte)] s := hK
      refine W.widen (k := 0) (n := 0) (Nat.le_of_ble_eq_true rfl) (Nat.le_of_ble_eq_true rfl) ?_
      obtain rfl : r58 = 0 := hw
      have hno : ¬ (0 < i_ed.toInt ∧ uStr (tC g_by) i_sz.toInt.toNat i_li.toInt i_tk.toInt a ps) := fun q => by have q2 := q.2; have q3 := q.1; clear q; unfold uStr at q2; omega
      have hP9 := hP.sub (ws' := [(h0, .inr (4, [.ref a_tape, .ref a_d, .int i_at, .int i_tk, .int i_pl, .int i_vl, .int 1])), (a_tape, .inr (7, [.ref y_by, .int i_sz, .int i_lf])), (y_by, .inl (kB, 200, .inl g_by)), (a_d, .inr (8, [.ref b_sc, .ref b_sp, .ref b_cp, .ref b_sn, .ref b_sl, .int i_li, .int i_ed, .int i_se])), (b_sc, .inl (kI, 5, .inl g_b_sc)), (b_sp, .inl (kI, 120, .inl g_b_sp))]) [5, 0, 1, 2, 3, 4] rfl
      have hD9 := hD.sub (ws' := [(h0, .inr (4, [.ref a_tape, .ref a_d, .int i_at, .int i_tk, .int i_pl, .int i_vl, .int 1])), (a_tape, .inr (7, [.ref y_by, .int i_sz, .int i_lf])), (y_by, .inl (kB, 200, .inl g_by)), (a_d, .inr (8, [.ref b_sc, .ref b_sp, .ref b_cp, .ref b_sn, .ref b_sl, .int i_li, .int i_ed, .int i_se])), (b_sc, .inl (kI, 5, .inl g_b_sc)), (b_sp, .inl (kI, 120, .inl g_b_sp))]) [5, 0, 1, 2, 3, 4] (by decide) rfl
      have hK9 := hK.sub (tys' := [(kI, .int), (kB, .byte)]) [0, 1] rfl
      refine W.widen (k := 0) (n := 0) (Nat.le_of_ble_eq_true rfl) (Nat.le_of_ble_eq_true rfl) ?_
      exact W.zret (v := 0) (ty := .boolean) hx hb hr rfl (fun t ht hW => ⟨⟨0, (), rfl, ⟨Or.inl rfl, bI_no hno⟩, i_at, i_tk, i_pl, i_vl, 1, g_b_sc, g_b_sp, by rw [ht]; exact hP9, va_K.moved hW.alike hK9, hD9, hg_b_sp, (fun q => absurd (bI_1 q) hno), (fun q => absurd (bI_1 q) hno), (by omega)⟩, hS.F ht⟩) hS.2.2 dX4_readStretch_31
def w_X8_putEdition__f : List Cond := .code yX8_putEdition cX8_putEdition 1 (some .boolean) :: ([.fieldLink RX8 37 "LineCites$Work" "editions" "I", .fieldLink RX8 9 "LineCites$Work" "stretchCounts" "[I"] ++ wsX80)
set_option maxHeartbeats 4000000 in
set_option maxRecDepth 100000 in
theorem c_X8_putEdition__f (l : Launch) (D : va_G) (h0 : Nat) (b_sc : Nat) (b_sp : Nat) (b_cp : Nat) (b_sn : Nat) (b_sl : Nat) (i_li : Int32) (i_ed : Int32) (i_se : Int32) (kI : ClassId) (g_b_sc : Nat → Int32) (sz : Nat) (h0i_ed : 0 ≤ i_ed.toInt) (h1i_ed : i_ed.toInt ≤ 5) : Met l yX8_putEdition w_X8_putEdition__f ({ frames := 0, cells := 0, slots := 0, locals := 0 }) (va_Pc [.ref h0] (fun U => U.heap.size = sz ∧ va_P D vwCl [(h0, .inr (8, [.ref b_sc, .ref b_sp, .ref b_cp, .ref b_sn, .ref b_sl, .int i_li, .int i_ed, .int i_se])), (b_sc, .inl (kI, 5, .inl g_b_sc))] U.heap ∧ va_K D vwCl [(kI, .int)] U ∧ va_D (fun _ => True) [(h0, .inr (8, [.ref b_sc, .ref b_sp, .ref b_cp, .ref b_sn, .ref b_sl, .int i_li, .int i_ed, .int i_se])), (b_sc, .inl (kI, 5, .inl g_b_sc))])) (va_Qi (fun (r : Int32) (_ : Unit) => (r = 0 ∨ r = 1) ∧ ((r.toInt = 1 ∧ i_ed.toInt < 5) ∨ (r.toInt = 0 ∧ i_ed.toInt = 5))) (fun (_ : Unit) t => ∃ (n_ed : Int32) (n_sc : Nat → Int32), va_P D vwCl [(h0, .inr (8, [.ref b_sc, .ref b_sp, .ref b_cp, .ref b_sn, .ref b_sl, .int i_li, .int n_ed, .int i_se])), (b_sc, .inl (kI, 5, .inl n_sc))] t.heap ∧ va_K D vwCl [(kI, .int)] t ∧ va_D (va_A [(h0, .inr (8, [.ref b_sc, .ref b_sp, .ref b_cp, .ref b_sn, .ref b_sl, .int i_li, .int i_ed, .int i_se])), (b_sc, .inl (kI, 5, .inl g_b_sc))] sz) [(h0, .inr (8, [.ref b_sc, .ref b_sp, .ref b_cp, .ref b_sn, .ref b_sl, .int i_li, .int n_ed, .int i_se])), (b_sc, .inl (kI, 5, .inl n_sc))] ∧ (i_ed.toInt < 5 → n_ed.toInt = i_ed.toInt + 1) ∧ (i_ed.toInt < 5 → ∀ sp : Nat → Int32, dR n_sc sp i_ed.toInt.toNat []) ∧ (0 ≤ n_ed.toInt ∧ n_ed.toInt ≤ 5)) (va_A [(h0, .inr (8, [.ref b_sc, .ref b_sp, .ref b_cp, .ref b_sn, .ref b_sl, .int i_li, .int i_ed, .int i_se])), (b_sc, .inl (kI, 5, .inl g_b_sc))] sz)) 0 0 (va_A [(h0, .inr (8, [.ref b_sc, .ref b_sp, .ref b_cp, .ref b_sn, .ref b_sl, .int i_li, .int i_ed, .int i_se])), (b_sc, .inl (kI, 5, .inl g_b_sc))] sz) := by
  refine Met.ofW (cc := cX8_putEdition) (maxL := 1) (ret := (some .boolean)) (by decide) rfl ?_
  intro p e s m args below meth c s₁ B hml hv
  obtain ⟨rfl, hsz, hP, hK, hD0⟩ := hv
  have hx := B.exec
  have hb := B.bytes
  have hr := B.returns
  have hts := atoms_spec (ws := w_X8_putEdition__f) B.pre
  have hown : s.vm.findClass RX8 = some m.cls := findClass_of_methodNamed B.named
  have hlocks := B.notSynchronized
  subst hsz
  have hD := hD0.self (sz := s.heap.size)
  generalize hAe : va_A [(h0, .inr (8, [.ref b_sc, .ref b_sp, .ref b_cp, .ref b_sn, .ref b_sl, .int i_li, .int i_ed, .int i_se])), (b_sc, .inl (kI, 5, .inl g_b_sc))] s.heap.size = A at hD ⊢
  have hA : ∀ q : Nat, s.heap.size ≤ q → A q := fun q h => by rw [← hAe]; exact Or.inr h
  have hS : va_S A s.heap s.heap [] := va_S.rf
  have hP : va_P D vwCl [(h0, .inr (8, [.ref b_sc, .ref b_sp, .ref b_cp, .ref b_sn, .ref b_sl, .int i_li, .int i_ed, .int i_se])), (b_sc, .inl (kI, 5, .inl g_b_sc))] s.heap := hP
  have hl := lv_entry ([.ref h0]) (n := 1) (Nat.le_of_ble_eq_true rfl)
  rw [lg_entry_eq]
  generalize (lg_sl ([.ref h0]) ++ List.replicate (1 - (lg_sl ([.ref h0])).length) Slot.unset).toArray = ls at hl ⊢
  have hl : lv_has ls 1 [(0, .ref h0)] := hl
  obtain ⟨H, hHe⟩ : ∃ H : Heap, H = s.heap := ⟨_, rfl⟩
  rw [← hHe] at hP
  have hS : va_S A s.heap H [] := by rw [hHe]; exact hS
  refine pw_heap hHe ?_
  refine lv_aload_n hx hb dX8_putEdition_0 rfl (lv_at hl 0 rfl) ?_
  refine va_get (D := D) (ci := 8) (v := .int i_ed) (C := RX8) (T := TX8) (N := 8) hx hb hts (fun _ h => List.mem_cons_of_mem _ (List.mem_append_right _ h)) hown hK hP 0 rfl rfl 6 (by decide) (hts (.fieldLink RX8 37 "LineCites$Work" "editions" "I") (List.mem_of_getElem? (i := 1) rfl)) (fun _ h9 => h9) rfl dX8_putEdition_1 ?_
  refine lv_if_lt (tgt := 19) hx hb dX8_putEdition_4 (by decide) (fun c1 => False.elim (by have nn : i_ed.toInt < 0 := pw_lt c1 rfl (by decide); omega)) (fun c1 => ?_)
  have nc1 : 0 ≤ i_ed.toInt := pw_nlt c1 rfl (by decide)
  refine lv_aload_n hx hb dX8_putEdition_7 rfl (lv_at hl 0 rfl) ?_
  refine va_get (D := D) (ci := 8) (v := .int i_ed) (C := RX8) (T := TX8) (N := 8) hx hb hts (fun _ h => List.mem_cons_of_mem _ (List.mem_append_right _ h)) hown hK hP 0 rfl rfl 6 (by decide) (hts (.fieldLink RX8 37 "LineCites$Work" "editions" "I") (List.mem_of_getElem? (i := 1) rfl)) (fun _ h9 => h9) rfl dX8_putEdition_8 ?_
  refine lv_aload_n hx hb dX8_putEdition_11 rfl (lv_at hl 0 rfl) ?_
  refine va_get (D := D) (ci := 8) (v := .ref b_sc) (C := RX8) (T := TX8) (N := 8) hx hb hts (fun _ h => List.mem_cons_of_mem _ (List.mem_append_right _ h)) hown hK hP 0 rfl rfl 0 (by decide) (hts (.fieldLink RX8 9 "LineCites$Work" "stretchCounts" "[I") (List.mem_of_getElem? (i := 2) rfl)) (fun _ h9 => h9) rfl dX8_putEdition_12 ?_
  refine va_alen (v := 5) hx hb hK hP 1 0 rfl rfl rfl dX8_putEdition_15 ?_
  refine lv_icmp_lt (tgt := 21) hx hb dX8_putEdition_16 (by decide) (fun c2 => ?_) (fun c2 => ?_)
  · have nc2 : i_ed.toInt < 5 := pw_lt c2 rfl (by decide)
    refine lv_aload_n hx hb dX8_putEdition_21 rfl (lv_at hl 0 rfl) ?_
    refine va_get (D := D) (ci := 8) (v := .ref b_sc) (C := RX8) (T := TX8) (N := 8) hx hb hts (fun _ h => List.mem_cons_of_mem _ (List.mem_append_right _ h)) hown hK hP 0 rfl rfl 0 (by decide) (hts (.fieldLink RX8 9 "LineCites$Work" "stretchCounts" "[I") (List.mem_of_getElem? (i := 2) rfl)) (fun _ h9 => h9) rfl dX8_putEdition_22 ?_
    refine lv_aload_n hx hb dX8_putEdition_25 rfl (lv_at hl 0 rfl) ?_
    refine va_get (D := D) (ci := 8) (v := .int i_ed) (C := RX8) (T := TX8) (N := 8) hx hb hts (fun _ h => List.mem_cons_of_mem _ (List.mem_append_right _ h)) hown hK hP 0 rfl rfl 6 (by decide) (hts (.fieldLink RX8 37 "LineCites$Work" "editions" "I") (List.mem_of_getElem? (i := 1) rfl)) (fun _ h9 => h9) rfl dX8_putEdition_26 ?_
    refine lv_iconst (v := 0) hx hb dX8_putEdition_29 (by decide) ?_
    refine va_iast hx hb hK hP hD hS 1 0 rfl rfl (vp_in_iff.mpr ⟨by omega, by omega⟩) dX8_putEdition_30 (fun H locs hP hD hS => ?_)
    obtain ⟨g3, eg3⟩ : ∃ g : Nat → Int32, g = upd g_b_sc (i_ed : Int32).toNatClampNeg 0 := ⟨_, rfl⟩
    have hP : va_P D vwCl [(h0, .inr (8, [.ref b_sc, .ref b_sp, .ref b_cp, .ref b_sn, .ref b_sl, .int i_li, .int i_ed, .int i_se])), (b_sc, .inl (kI, 5, .inl (upd g_b_sc (i_ed : Int32).toNatClampNeg 0)))] H := hP
    have hD : va_D A [(h0, .inr (8, [.ref b_sc, .ref b_sp, .ref b_cp, .ref b_sn, .ref b_sl, .int i_li, .int i_ed, .int i_se])), (b_sc, .inl (kI, 5, .inl (upd g_b_sc (i_ed : Int32).toNatClampNeg 0)))] := hD
    have hK : va_K D vwCl [(kI, .int)] s := hK
    rw [← eg3] at hP hD
    refine lv_aload_n hx hb dX8_putEdition_31 rfl (lv_at hl 0 rfl) ?_
    refine lv_dup hx hb dX8_putEdition_32 rfl ?_
    refine va_get (D := D) (ci := 8) (v := .int i_ed) (C := RX8) (T := TX8) (N := 8) hx hb hts (fun _ h => List.mem_cons_of_mem _ (List.mem_append_right _ h)) hown hK hP 0 rfl rfl 6 (by decide) (hts (.fieldLink RX8 37 "LineCites$Work" "editions" "I") (List.mem_of_getElem? (i := 1) rfl)) (fun _ h9 => h9) rfl dX8_putEdition_33 ?_
    refine lv_iconst (v := 1) hx hb dX8_putEdition_36 (by decide) ?_
    refine lv_iadd hx hb dX8_putEdition_37 ?_
    refine lv_topi (fun x4 ex4 => ?_)
    have tx4 : x4.toInt = i_ed.toInt + 1 := pw_addX ex4 rfl (by decide) (by omega) (by omega)
    refine va_put (D := D) (ci := 8) (v := .int x4) (ty := .int) (C := RX8) (T := TX8) (N := 8) hx hb hts (fun _ h => List.mem_cons_of_mem _ (List.mem_append_right _ h)) tyX8 tyX8_ok nmX8 hown hK hP hD hS 0 rfl rfl 6 (by decide) (hts (.fieldLink RX8 37 "LineCites$Work" "editions" "I") (List.mem_of_getElem? (i := 1) rfl)) (fun _ h9 => h9) rfl (by decide +kernel) rfl rfl (Nat.le_of_ble_eq_true rfl) dX8_putEdition_38 (fun H locs hP hD hS => ?_)
    have hP : va_P D vwCl [(h0, .inr (8, [.ref b_sc, .ref b_sp, .ref b_cp, .ref b_sn, .ref b_sl, .int i_li, .int x4, .int i_se])), (b_sc, .inl (kI, 5, .inl g3))] H := hP
    have hD : va_D A [(h0, .inr (8, [.ref b_sc, .ref b_sp, .ref b_cp, .ref b_sn, .ref b_sl, .int i_li, .int x4, .int i_se])), (b_sc, .inl (kI, 5, .inl g3))] := hD
    have hK : va_K D vwCl [(kI, .int)] s := hK
    refine lv_iconst (v := 1) hx hb dX8_putEdition_41 (by decide) ?_
    have hP9 := hP.sub (ws' := [(h0, .inr (8, [.ref b_sc, .ref b_sp, .ref b_cp, .ref b_sn, .ref b_sl, .int i_li, .int x4, .int i_se])), (b_sc, .inl (kI, 5, .inl g3))]) [0, 1] rfl
    have hD9 := hD.sub (ws' := [(h0, .inr (8, [.ref b_sc, .ref b_sp, .ref b_cp, .ref b_sn, .ref b_sl, .int i_li, .int x4, .int i_se])), (b_sc, .inl (kI, 5, .inl g3))]) [0, 1] (by decide) rfl
    have hK9 := hK.sub (tys' := [(kI, .int)]) [0] rfl
    refine W.widen (k := 0) (n := 0) (Nat.le_of_ble_eq_true rfl) (Nat.le_of_ble_eq_true rfl) ?_
    exact W.zret (v := 1) (ty := .boolean) hx hb hr rfl (fun t ht hW => ⟨⟨1, (), rfl, ⟨Or.inr rfl, (by have hv : (1 : Int32).toInt = 1 := (by decide); omega)⟩, x4, g3, by rw [ht]; exact hP9, va_K.moved hW.alike hK9, hD9, (by omega), (fun q sp => dR_0 eg3 (by omega)), (by omega)⟩, hS.F ht⟩) hS.2.2 dX8_putEdition_42
  · have nc2 : 5 ≤ i_ed.toInt := pw_nlt c2 rfl (by decide)
    refine lv_iconst (v := 0) hx hb dX8_putEdition_19 (by decide) ?_
    have hP9 := hP.sub (ws' := [(h0, .inr (8, [.ref b_sc, .ref b_sp, .ref b_cp, .ref b_sn, .ref b_sl, .int i_li, .int i_ed, .int i_se])), (b_sc, .inl (kI, 5, .inl g_b_sc))]) [0, 1] rfl
    have hD9 := hD.sub (ws' := [(h0, .inr (8, [.ref b_sc, .ref b_sp, .ref b_cp, .ref b_sn, .ref b_sl, .int i_li, .int i_ed, .int i_se])), (b_sc, .inl (kI, 5, .inl g_b_sc))]) [0, 1] (by decide) rfl
    have hK9 := hK.sub (tys' := [(kI, .int)]) [0] rfl
    refine W.widen (k := 0) (n := 0) (Nat.le_of_ble_eq_true rfl) (Nat.le_of_ble_eq_true rfl) ?_
    exact W.zret (v := 0) (ty := .boolean) hx hb hr rfl (fun t ht hW => ⟨⟨0, (), rfl, ⟨Or.inl rfl, (by have hv : (0 : Int32).toInt = 0 := (by decide); omega)⟩, i_ed, g_b_sc, by rw [ht]; exact hP9, va_K.moved hW.alike hK9, hD9, (by omega), (fun q => False.elim (by omega)), (by omega)⟩, hS.F ht⟩) hS.2.2 dX8_putEdition_20
def w_X4_readEdition : List Cond := .code yX4_readEdition cX4_readEdition 1 (some .boolean) :: ([.fieldLink RX4 15 "LineCites$Reader" "draft" "LLineCites$Work;", .methodLink RX4 58 yX8_putEdition, .instanceMethod yX8_putEdition, .selects RX8 yX8_putEdition yX8_putEdition, .initialized RX8, .code yX8_putEdition cX8_putEdition 1 (some .boolean), .fieldLink RX8 37 "LineCites$Work" "editions" "I", .fieldLink RX8 9 "LineCites$Work" "stretchCounts" "[I", .methodLink RX4 36 yX4_refuse, .instanceMethod yX4_refuse, .selects RX4 yX4_refuse yX4_refuse, .initialized RX4, .code yX4_refuse cX4_refuse 2 (some .boolean), .fieldLink RX4 19 "LineCites$Reader" "faultNumber" "I"] ++ wsX40 ++ wsX80)
set_option maxRecDepth 20000 in
theorem g_X4_readEdition_X8_putEdition__f : GoodIn w_X4_readEdition (wsV RX4 58 RX8 yX8_putEdition w_X8_putEdition__f) := goodIn_r _ [2, 3, 4, 5, 6, 7, 8, 22, 23, 24, 25, 26, 27, 28, 29] rfl (by decide +kernel)
set_option maxRecDepth 20000 in
theorem g_X4_readEdition_X4_refuse : GoodIn w_X4_readEdition (wsV RX4 36 RX4 yX4_refuse w_X4_refuse) := goodIn_r _ [9, 10, 11, 12, 13, 14, 15, 16, 17, 18, 19, 20, 21] rfl (by decide +kernel)
set_option maxHeartbeats 4000000 in
set_option maxRecDepth 100000 in
theorem c_X4_readEdition (l : Launch) (D : va_G) (h0 : Nat) (a_tape : Nat) (a_d : Nat) (i_at : Int32) (i_tk : Int32) (i_pl : Int32) (i_vl : Int32) (i_fn : Int32) (b_sc : Nat) (b_sp : Nat) (b_cp : Nat) (b_sn : Nat) (b_sl : Nat) (i_li : Int32) (i_ed : Int32) (i_se : Int32) (kI : ClassId) (g_b_sc : Nat → Int32) (sz : Nat) (h0i_ed : 0 ≤ i_ed.toInt) (h1i_ed : i_ed.toInt ≤ 5) : Met l yX4_readEdition w_X4_readEdition ({ frames := 1, cells := 0, slots := 0, locals := 21 }) (va_Pc [.ref h0] (fun U => U.heap.size = sz ∧ va_P D vwCl [(h0, .inr (4, [.ref a_tape, .ref a_d, .int i_at, .int i_tk, .int i_pl, .int i_vl, .int i_fn])), (a_d, .inr (8, [.ref b_sc, .ref b_sp, .ref b_cp, .ref b_sn, .ref b_sl, .int i_li, .int i_ed, .int i_se])), (b_sc, .inl (kI, 5, .inl g_b_sc))] U.heap ∧ va_K D vwCl [(kI, .int)] U ∧ va_D (fun _ => True) [(h0, .inr (4, [.ref a_tape, .ref a_d, .int i_at, .int i_tk, .int i_pl, .int i_vl, .int i_fn])), (a_d, .inr (8, [.ref b_sc, .ref b_sp, .ref b_cp, .ref b_sn, .ref b_sl, .int i_li, .int i_ed, .int i_se])), (b_sc, .inl (kI, 5, .inl g_b_sc))])) (va_Qi (fun (r : Int32) (_ : Unit) => (r = 0 ∨ r = 1) ∧ ((r.toInt = 1 ∧ i_ed.toInt < 5) ∨ (r.toInt = 0 ∧ i_ed.toInt = 5))) (fun (_ : Unit) t => ∃ (n_ed : Int32) (n_sc : Nat → Int32) (n_fn : Int32), va_P D vwCl [(h0, .inr (4, [.ref a_tape, .ref a_d, .int i_at, .int i_tk, .int i_pl, .int i_vl, .int n_fn])), (a_d, .inr (8, [.ref b_sc, .ref b_sp, .ref b_cp, .ref b_sn, .ref b_sl, .int i_li, .int n_ed, .int i_se])), (b_sc, .inl (kI, 5, .inl n_sc))] t.heap ∧ va_K D vwCl [(kI, .int)] t ∧ va_D (va_A [(h0, .inr (4, [.ref a_tape, .ref a_d, .int i_at, .int i_tk, .int i_pl, .int i_vl, .int i_fn])), (a_d, .inr (8, [.ref b_sc, .ref b_sp, .ref b_cp, .ref b_sn, .ref b_sl, .int i_li, .int i_ed, .int i_se])), (b_sc, .inl (kI, 5, .inl g_b_sc))] sz) [(h0, .inr (4, [.ref a_tape, .ref a_d, .int i_at, .int i_tk, .int i_pl, .int i_vl, .int n_fn])), (a_d, .inr (8, [.ref b_sc, .ref b_sp, .ref b_cp, .ref b_sn, .ref b_sl, .int i_li, .int n_ed, .int i_se])), (b_sc, .inl (kI, 5, .inl n_sc))] ∧ (i_ed.toInt < 5 → n_ed.toInt = i_ed.toInt + 1) ∧ (i_ed.toInt < 5 → ∀ sp : Nat → Int32, dR n_sc sp i_ed.toInt.toNat []) ∧ (0 ≤ n_ed.toInt ∧ n_ed.toInt ≤ 5)) (va_A [(h0, .inr (4, [.ref a_tape, .ref a_d, .int i_at, .int i_tk, .int i_pl, .int i_vl, .int i_fn])), (a_d, .inr (8, [.ref b_sc, .ref b_sp, .ref b_cp, .ref b_sn, .ref b_sl, .int i_li, .int i_ed, .int i_se])), (b_sc, .inl (kI, 5, .inl g_b_sc))] sz)) 0 0 (va_A [(h0, .inr (4, [.ref a_tape, .ref a_d, .int i_at, .int i_tk, .int i_pl, .int i_vl, .int i_fn])), (a_d, .inr (8, [.ref b_sc, .ref b_sp, .ref b_cp, .ref b_sn, .ref b_sl, .int i_li, .int i_ed, .int i_se])), (b_sc, .inl (kI, 5, .inl g_b_sc))] sz) := by
  refine Met.ofW (cc := cX4_readEdition) (maxL := 1) (ret := (some .boolean)) (by decide) rfl ?_
  intro p e s m args below meth c s₁ B hml hv
  obtain ⟨rfl, hsz, hP, hK, hD0⟩ := hv
  have hx := B.exec
  have hb := B.bytes
  have hr := B.returns
  have hts := atoms_spec (ws := w_X4_readEdition) B.pre
  have hown : s.vm.findClass RX4 = some m.cls := findClass_of_methodNamed B.named
  have hlocks := B.notSynchronized
  subst hsz
  have hD := hD0.self (sz := s.heap.size)
  generalize hAe : va_A [(h0, .inr (4, [.ref a_tape, .ref a_d, .int i_at, .int i_tk, .int i_pl, .int i_vl, .int i_fn])), (a_d, .inr (8, [.ref b_sc, .ref b_sp, .ref b_cp, .ref b_sn, .ref b_sl, .int i_li, .int i_ed, .int i_se])), (b_sc, .inl (kI, 5, .inl g_b_sc))] s.heap.size = A at hD ⊢
  have hA : ∀ q : Nat, s.heap.size ≤ q → A q := fun q h => by rw [← hAe]; exact Or.inr h
  have hS : va_S A s.heap s.heap [] := va_S.rf
  have hP : va_P D vwCl [(h0, .inr (4, [.ref a_tape, .ref a_d, .int i_at, .int i_tk, .int i_pl, .int i_vl, .int i_fn])), (a_d, .inr (8, [.ref b_sc, .ref b_sp, .ref b_cp, .ref b_sn, .ref b_sl, .int i_li, .int i_ed, .int i_se])), (b_sc, .inl (kI, 5, .inl g_b_sc))] s.heap := hP
  have hl := lv_entry ([.ref h0]) (n := 1) (Nat.le_of_ble_eq_true rfl)
  rw [lg_entry_eq]
  generalize (lg_sl ([.ref h0]) ++ List.replicate (1 - (lg_sl ([.ref h0])).length) Slot.unset).toArray = ls at hl ⊢
  have hl : lv_has ls 1 [(0, .ref h0)] := hl
  obtain ⟨H, hHe⟩ : ∃ H : Heap, H = s.heap := ⟨_, rfl⟩
  rw [← hHe] at hP
  have hS : va_S A s.heap H [] := by rw [hHe]; exact hS
  refine pw_heap hHe ?_
  refine lv_aload_n hx hb dX4_readEdition_0 rfl (lv_at hl 0 rfl) ?_
  refine va_get (D := D) (ci := 4) (v := .ref a_d) (C := RX4) (T := TX4) (N := 7) hx hb hts (fun _ h => List.mem_cons_of_mem _ (List.mem_append_left _ (List.mem_append_right _ h))) hown hK hP 0 rfl rfl 1 (by decide) (hts (.fieldLink RX4 15 "LineCites$Reader" "draft" "LLineCites$Work;") (List.mem_of_getElem? (i := 1) rfl)) (fun _ h9 => h9) rfl dX4_readEdition_1 ?_
  have hPc := hP.sub (ws' := [(a_d, .inr (8, [.ref b_sc, .ref b_sp, .ref b_cp, .ref b_sn, .ref b_sl, .int i_li, .int i_ed, .int i_se])), (b_sc, .inl (kI, 5, .inl g_b_sc))]) [1, 2] rfl
  have hKc := hK.sub (tys' := [(kI, .int)]) [0] rfl
  have hDc := hD.sub (ws' := [(a_d, .inr (8, [.ref b_sc, .ref b_sp, .ref b_cp, .ref b_sn, .ref b_sl, .int i_li, .int i_ed, .int i_se])), (b_sc, .inl (kI, 5, .inl g_b_sc))]) [1, 2] (by decide) rfl
  have hFc := va_free (wc := [(a_d, .inr (8, [.ref b_sc, .ref b_sp, .ref b_cp, .ref b_sn, .ref b_sl, .int i_li, .int i_ed, .int i_se])), (b_sc, .inl (kI, 5, .inl g_b_sc))]) hD hS hA [1, 2] rfl
  refine va_calli (va_runV (As := []) (rest := []) ⟨hx, hb, hml, hown, hts⟩ (c_X8_putEdition__f l D a_d b_sc b_sp b_cp b_sn b_sl i_li i_ed i_se kI g_b_sc H.size (by first | decide | omega) (by first | decide | omega)) (cwV 0 hts g_X4_readEdition_X8_putEdition__f rfl rfl rfl (by decide +kernel) ⟨Nat.le_of_ble_eq_true rfl, Nat.le_of_ble_eq_true rfl⟩) ⟨fun a U g mk q => by obtain ⟨q0, q1, qP, qK, qD⟩ := q; exact ⟨q0, q1, qP, va_K.moved (u := U) (U := U.calling g mk a) (Vm.Alike.refl U.vm) qK, qD⟩, va_recv hKc hPc (ci := 8) (q0 := 0) rfl rfl, fun U hU hW => ⟨rfl, by rw [hU], by rw [hU]; exact hPc, va_K.moved hW.alike hKc, hDc.weaken (fun _ _ _ _ => trivial)⟩⟩ rfl rfl hl.1 rfl (lv_room (Nat.le_of_ble_eq_true rfl)) dX4_readEdition_4 ⟨Nat.le_of_ble_eq_true rfl, Nat.le_of_ble_eq_true rfl⟩) hS (fun q _ h => hFc q h) hFc (fun r1 u t H1 locs ht hvm hw hB hz1 hk1 hS => ?_)
  obtain ⟨y2, y3, hP1, hK1, hD1, px0_r1, px1_r1, px2_r1⟩ := hB
  rw [ht] at hP1
  have hK1 := va_K.moved hvm.symm hK1
  obtain ⟨hP, hD⟩ := va_join (wr := [(h0, .inr (4, [.ref a_tape, .ref a_d, .int i_at, .int i_tk, .int i_pl, .int i_vl, .int i_fn]))]) (w1 := [(a_d, .inr (8, [.ref b_sc, .ref b_sp, .ref b_cp, .ref b_sn, .ref b_sl, .int i_li, .int y2, .int i_se])), (b_sc, .inl (kI, 5, .inl y3))]) hP hD [1, 2] [0] rfl rfl (by decide) (by decide) hk1 hFc hP1 hD1
  have hK := (hK.sub (tys' := [(kI, .int)]) [0] rfl).app hK1
  generalize H1 = H at hP hS ⊢
  have hP : va_P D vwCl [(h0, .inr (4, [.ref a_tape, .ref a_d, .int i_at, .int i_tk, .int i_pl, .int i_vl, .int i_fn])), (a_d, .inr (8, [.ref b_sc, .ref b_sp, .ref b_cp, .ref b_sn, .ref b_sl, .int i_li, .int y2, .int i_se])), (b_sc, .inl (kI, 5, .inl y3))] H := hP
  have hD : va_D A [(h0, .inr (4, [.ref a_tape, .ref a_d, .int i_at, .int i_tk, .int i_pl, .int i_vl, .int i_fn])), (a_d, .inr (8, [.ref b_sc, .ref b_sp, .ref b_cp, .ref b_sn, .ref b_sl, .int i_li, .int y2, .int i_se])), (b_sc, .inl (kI, 5, .inl y3))] := hD
  have hK : va_K D vwCl [(kI, .int), (kI, .int)] s := hK
  refine W.widen (k := 0) (n := 0) (Nat.le_of_ble_eq_true rfl) (Nat.le_of_ble_eq_true rfl) ?_
  have bor1 := hw.1
  have zor1 := pw_boolI bor1
  have hfr1 := hw.2
  refine lv_if_ne (tgt := 18) hx hb dX4_readEdition_7 (by decide) (fun c4 => ?_) (fun c4 => ?_)
  · have nc4 : r1.toInt ≠ 0 := pw_ne c4 rfl (by decide)
    refine lv_iconst (v := 1) hx hb dX4_readEdition_18 (by decide) ?_
    refine lv_goto (tgt := 23) hx hb dX4_readEdition_19 (by decide) ?_
    have hP9 := hP.sub (ws' := [(h0, .inr (4, [.ref a_tape, .ref a_d, .int i_at, .int i_tk, .int i_pl, .int i_vl, .int i_fn])), (a_d, .inr (8, [.ref b_sc, .ref b_sp, .ref b_cp, .ref b_sn, .ref b_sl, .int i_li, .int y2, .int i_se])), (b_sc, .inl (kI, 5, .inl y3))]) [0, 1, 2] rfl
    have hD9 := hD.sub (ws' := [(h0, .inr (4, [.ref a_tape, .ref a_d, .int i_at, .int i_tk, .int i_pl, .int i_vl, .int i_fn])), (a_d, .inr (8, [.ref b_sc, .ref b_sp, .ref b_cp, .ref b_sn, .ref b_sl, .int i_li, .int y2, .int i_se])), (b_sc, .inl (kI, 5, .inl y3))]) [0, 1, 2] (by decide) rfl
    have hK9 := hK.sub (tys' := [(kI, .int)]) [0] rfl
    refine W.widen (k := 0) (n := 0) (Nat.le_of_ble_eq_true rfl) (Nat.le_of_ble_eq_true rfl) ?_
    exact W.zret (v := 1) (ty := .boolean) hx hb hr rfl (fun t ht hW => ⟨⟨1, (), rfl, ⟨Or.inr rfl, (by have hv : (1 : Int32).toInt = 1 := (by decide); omega)⟩, y2, y3, i_fn, by rw [ht]; exact hP9, va_K.moved hW.alike hK9, hD9, (by omega), px1_r1, (by omega)⟩, hS.F ht⟩) hS.2.2 dX4_readEdition_23
  · have nc4 : r1.toInt = 0 := pw_eq c4 rfl (by decide)
    refine lv_aload_n hx hb dX4_readEdition_10 rfl (lv_at hl 0 rfl) ?_
    refine lv_iconst (v := 3) hx hb dX4_readEdition_11 (by decide) ?_
    have hPc := hP.sub (ws' := [(h0, .inr (4, [.ref a_tape, .ref a_d, .int i_at, .int i_tk, .int i_pl, .int i_vl, .int i_fn]))]) [0] rfl
    have hKc := hK.sub (tys' := []) [] rfl
    have hDc := hD.sub (ws' := [(h0, .inr (4, [.ref a_tape, .ref a_d, .int i_at, .int i_tk, .int i_pl, .int i_vl, .int i_fn]))]) [0] (by decide) rfl
    have hFc := va_free (wc := [(h0, .inr (4, [.ref a_tape, .ref a_d, .int i_at, .int i_tk, .int i_pl, .int i_vl, .int i_fn]))]) hD hS hA [0] rfl
    refine va_calli (va_runV (As := [.int 3]) (rest := []) ⟨hx, hb, hml, hown, hts⟩ (c_X4_refuse l D h0 3 a_tape a_d i_at i_tk i_pl i_vl i_fn H.size) (cwV 1 hts g_X4_readEdition_X4_refuse rfl rfl rfl (by decide +kernel) ⟨Nat.le_of_ble_eq_true rfl, Nat.le_of_ble_eq_true rfl⟩) ⟨fun a U g mk q => by obtain ⟨q0, q1, qP, qK, qD⟩ := q; exact ⟨q0, q1, qP, va_K.moved (u := U) (U := U.calling g mk a) (Vm.Alike.refl U.vm) qK, qD⟩, va_recv hKc hPc (ci := 4) (q0 := 0) rfl rfl, fun U hU hW => ⟨rfl, by rw [hU], by rw [hU]; exact hPc, va_K.moved hW.alike hKc, hDc.weaken (fun _ _ _ _ => trivial)⟩⟩ rfl rfl hl.1 rfl (lv_room (Nat.le_of_ble_eq_true rfl)) dX4_readEdition_12 ⟨Nat.le_of_ble_eq_true rfl, Nat.le_of_ble_eq_true rfl⟩) hS (fun q _ h => hFc q h) hFc (fun r5 u t H1 locs ht hvm hw hB hz1 hk1 hS => ?_)
    obtain ⟨hP1, hK1, hD1⟩ := hB
    rw [ht] at hP1
    have hK1 := va_K.moved hvm.symm hK1
    obtain ⟨hP, hD⟩ := va_join (wr := [(a_d, .inr (8, [.ref b_sc, .ref b_sp, .ref b_cp, .ref b_sn, .ref b_sl, .int i_li, .int y2, .int i_se])), (b_sc, .inl (kI, 5, .inl y3))]) (w1 := [(h0, .inr (4, [.ref a_tape, .ref a_d, .int i_at, .int i_tk, .int i_pl, .int i_vl, .int 3]))]) hP hD [0] [1, 2] rfl rfl (by decide) (by decide) hk1 hFc hP1 hD1
    have hK := (hK.sub (tys' := [(kI, .int), (kI, .int)]) [0, 1] rfl).app hK1
    generalize H1 = H at hP hS ⊢
    have hP : va_P D vwCl [(a_d, .inr (8, [.ref b_sc, .ref b_sp, .ref b_cp, .ref b_sn, .ref b_sl, .int i_li, .int y2, .int i_se])), (b_sc, .inl (kI, 5, .inl y3)), (h0, .inr (4, [.ref a_tape, .ref a_d, .int i_at, .int i_tk, .int i_pl, .int i_vl, .int 3]))] H := hP
    have hD : va_D A [(a_d, .inr (8, [.ref b_sc, .ref b_sp, .ref b_cp, .ref b_sn, .ref b_sl, .int i_li, .int y2, .int i_se])), (b_sc, .inl (kI, 5, .inl y3)), (h0, .inr (4, [.ref a_tape, .ref a_d, .int i_at, .int i_tk, .int i_pl, .int i_vl, .int 3]))] := hD
    have hK : va_K D vwCl [(kI, .int), (kI, .int)] s := hK
    refine W.widen (k := 0) (n := 0) (Nat.le_of_ble_eq_true rfl) (Nat.le_of_ble_eq_true rfl) ?_
    obtain rfl : r5 = 0 := hw
    refine lv_if_eq (tgt := 22) hx hb dX4_readEdition_15 (by decide) (fun c6 => ?_) (fun c6 => absurd (by decide) c6)
    refine lv_iconst (v := 0) hx hb dX4_readEdition_22 (by decide) ?_
    have hP9 := hP.sub (ws' := [(h0, .inr (4, [.ref a_tape, .ref a_d, .int i_at, .int i_tk, .int i_pl, .int i_vl, .int 3])), (a_d, .inr (8, [.ref b_sc, .ref b_sp, .ref b_cp, .ref b_sn, .ref b_sl, .int i_li, .int y2, .int i_se])), (b_sc, .inl (kI, 5, .inl y3))]) [2, 0, 1] rfl
    have hD9 := hD.sub (ws' := [(h0, .inr (4, [.ref a_tape, .ref a_d, .int i_at, .int i_tk, .int i_pl, .int i_vl, .int 3])), (a_d, .inr (8, [.ref b_sc, .ref b_sp, .ref b_cp, .ref b_sn, .ref b_sl, .int i_li, .int y2, .int i_se])), (b_sc, .inl (kI, 5, .inl y3))]) [2, 0, 1] (by decide) rfl
    have hK9 := hK.sub (tys' := [(kI, .int)]) [0] rfl
    refine W.widen (k := 0) (n := 0) (Nat.le_of_ble_eq_true rfl) (Nat.le_of_ble_eq_true rfl) ?_
    exact W.zret (v := 0) (ty := .boolean) hx hb hr rfl (fun t ht hW => ⟨⟨0, (), rfl, ⟨Or.inl rfl, (by have hv : (0 : Int32).toInt = 0 := (by decide); omega)⟩, y2, y3, 3, by rw [ht]; exact hP9, va_K.moved hW.alike hK9, hD9, (by omega), px1_r1, (by omega)⟩, hS.F ht⟩) hS.2.2 dX4_readEdition_23
