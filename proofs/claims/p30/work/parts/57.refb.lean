theorem dX10_cite_0 : decode cX10_cite 0 = .ok (.iload_n 1, 1) := by decide +kernel
theorem dX10_cite_1 : decode cX10_cite 1 = .ok (.i2l, 1) := by decide +kernel
theorem dX10_cite_2 : decode cX10_cite 2 = .ok (.lconst 0, 1) := by decide +kernel
theorem dX10_cite_3 : decode cX10_cite 3 = .ok (.ldc2_w 213, 3) := by decide +kernel
theorem dX10_cite_6 : decode cX10_cite 6 = .ok (.invokestatic 51, 3) := by decide +kernel
theorem dX10_cite_9 : decode cX10_cite 9 = .ok (.ifCond .eq 35, 3) := by decide +kernel
theorem dX10_cite_12 : decode cX10_cite 12 = .ok (.aload_n 0, 1) := by decide +kernel
theorem dX10_cite_13 : decode cX10_cite 13 = .ok (.iload_n 2, 1) := by decide +kernel
theorem dX10_cite_14 : decode cX10_cite 14 = .ok (.invokevirtual 55, 3) := by decide +kernel
theorem dX10_cite_17 : decode cX10_cite 17 = .ok (.ifCond .eq 27, 3) := by decide +kernel
theorem dX10_cite_20 : decode cX10_cite 20 = .ok (.iload_n 3, 1) := by decide +kernel
theorem dX10_cite_21 : decode cX10_cite 21 = .ok (.i2l, 1) := by decide +kernel
theorem dX10_cite_22 : decode cX10_cite 22 = .ok (.lconst 0, 1) := by decide +kernel
theorem dX10_cite_23 : decode cX10_cite 23 = .ok (.ldc2_w 219, 3) := by decide +kernel
theorem dX10_cite_26 : decode cX10_cite 26 = .ok (.invokestatic 51, 3) := by decide +kernel
theorem dX10_cite_29 : decode cX10_cite 29 = .ok (.ifCond .eq 15, 3) := by decide +kernel
theorem dX10_cite_32 : decode cX10_cite 32 = .ok (.iload 4, 2) := by decide +kernel
theorem dX10_cite_34 : decode cX10_cite 34 = .ok (.invokestatic 145, 3) := by decide +kernel
theorem dX10_cite_37 : decode cX10_cite 37 = .ok (.ifCond .eq 7, 3) := by decide +kernel
theorem dX10_cite_40 : decode cX10_cite 40 = .ok (.iconst 1, 1) := by decide +kernel
theorem dX10_cite_41 : decode cX10_cite 41 = .ok (.goto 4, 3) := by decide +kernel
theorem dX10_cite_44 : decode cX10_cite 44 = .ok (.iconst 0, 1) := by decide +kernel
theorem dX10_cite_45 : decode cX10_cite 45 = .ok (.istore 6, 2) := by decide +kernel
theorem dX10_cite_47 : decode cX10_cite 47 = .ok (.iload 6, 2) := by decide +kernel
theorem dX10_cite_49 : decode cX10_cite 49 = .ok (.ifCond .eq 30, 3) := by decide +kernel
theorem dX10_cite_52 : decode cX10_cite 52 = .ok (.iload_n 3, 1) := by decide +kernel
theorem dX10_cite_53 : decode cX10_cite 53 = .ok (.ifCond .ne 21, 3) := by decide +kernel
theorem dX10_cite_56 : decode cX10_cite 56 = .ok (.iload 5, 2) := by decide +kernel
theorem dX10_cite_58 : decode cX10_cite 58 = .ok (.i2l, 1) := by decide +kernel
theorem dX10_cite_59 : decode cX10_cite 59 = .ok (.iload 4, 2) := by decide +kernel
theorem dX10_cite_61 : decode cX10_cite 61 = .ok (.i2l, 1) := by decide +kernel
theorem dX10_cite_62 : decode cX10_cite 62 = .ok (.ldc2_w 59, 3) := by decide +kernel
theorem dX10_cite_65 : decode cX10_cite 65 = .ok (.invokestatic 51, 3) := by decide +kernel
theorem dX10_cite_68 : decode cX10_cite 68 = .ok (.ifCond .ne 14, 3) := by decide +kernel
theorem dX10_cite_71 : decode cX10_cite 71 = .ok (.goto 8, 3) := by decide +kernel
theorem dX10_cite_74 : decode cX10_cite 74 = .ok (.iload 5, 2) := by decide +kernel
theorem dX10_cite_76 : decode cX10_cite 76 = .ok (.ifCond .eq 6, 3) := by decide +kernel
theorem dX10_cite_79 : decode cX10_cite 79 = .ok (.ldc 177, 2) := by decide +kernel
theorem dX10_cite_81 : decode cX10_cite 81 = .ok (.ireturn, 1) := by decide +kernel
theorem dX10_cite_82 : decode cX10_cite 82 = .ok (.aload_n 0, 1) := by decide +kernel
theorem dX10_cite_83 : decode cX10_cite 83 = .ok (.invokevirtual 205, 3) := by decide +kernel
theorem dX10_cite_86 : decode cX10_cite 86 = .ok (.sipush 128, 3) := by decide +kernel
theorem dX10_cite_89 : decode cX10_cite 89 = .ok (.iconst 5, 1) := by decide +kernel
theorem dX10_cite_90 : decode cX10_cite 90 = .ok (.iload_n 1, 1) := by decide +kernel
theorem dX10_cite_91 : decode cX10_cite 91 = .ok (.imul, 1) := by decide +kernel
theorem dX10_cite_92 : decode cX10_cite 92 = .ok (.iadd, 1) := by decide +kernel
theorem dX10_cite_93 : decode cX10_cite 93 = .ok (.istore 7, 2) := by decide +kernel
theorem dX10_cite_95 : decode cX10_cite 95 = .ok (.aload_n 0, 1) := by decide +kernel
theorem dX10_cite_96 : decode cX10_cite 96 = .ok (.getfield 7, 3) := by decide +kernel
theorem dX10_cite_99 : decode cX10_cite 99 = .ok (.iload 7, 2) := by decide +kernel
theorem dX10_cite_101 : decode cX10_cite 101 = .ok (.iconst 1, 1) := by decide +kernel
theorem dX10_cite_102 : decode cX10_cite 102 = .ok (.iastore, 1) := by decide +kernel
theorem dX10_cite_103 : decode cX10_cite 103 = .ok (.aload_n 0, 1) := by decide +kernel
theorem dX10_cite_104 : decode cX10_cite 104 = .ok (.getfield 7, 3) := by decide +kernel
theorem dX10_cite_107 : decode cX10_cite 107 = .ok (.iload 7, 2) := by decide +kernel
theorem dX10_cite_109 : decode cX10_cite 109 = .ok (.iconst 1, 1) := by decide +kernel
theorem dX10_cite_110 : decode cX10_cite 110 = .ok (.iadd, 1) := by decide +kernel
theorem dX10_cite_111 : decode cX10_cite 111 = .ok (.iload_n 2, 1) := by decide +kernel
theorem dX10_cite_112 : decode cX10_cite 112 = .ok (.iastore, 1) := by decide +kernel
theorem dX10_cite_113 : decode cX10_cite 113 = .ok (.aload_n 0, 1) := by decide +kernel
theorem dX10_cite_114 : decode cX10_cite 114 = .ok (.getfield 7, 3) := by decide +kernel
theorem dX10_cite_117 : decode cX10_cite 117 = .ok (.iload 7, 2) := by decide +kernel
theorem dX10_cite_119 : decode cX10_cite 119 = .ok (.iconst 2, 1) := by decide +kernel
theorem dX10_cite_120 : decode cX10_cite 120 = .ok (.iadd, 1) := by decide +kernel
theorem dX10_cite_121 : decode cX10_cite 121 = .ok (.iload_n 3, 1) := by decide +kernel
theorem dX10_cite_122 : decode cX10_cite 122 = .ok (.iastore, 1) := by decide +kernel
theorem dX10_cite_123 : decode cX10_cite 123 = .ok (.aload_n 0, 1) := by decide +kernel
theorem dX10_cite_124 : decode cX10_cite 124 = .ok (.getfield 7, 3) := by decide +kernel
theorem dX10_cite_127 : decode cX10_cite 127 = .ok (.iload 7, 2) := by decide +kernel
theorem dX10_cite_129 : decode cX10_cite 129 = .ok (.iconst 3, 1) := by decide +kernel
theorem dX10_cite_130 : decode cX10_cite 130 = .ok (.iadd, 1) := by decide +kernel
theorem dX10_cite_131 : decode cX10_cite 131 = .ok (.iload 4, 2) := by decide +kernel
theorem dX10_cite_133 : decode cX10_cite 133 = .ok (.iastore, 1) := by decide +kernel
theorem dX10_cite_134 : decode cX10_cite 134 = .ok (.aload_n 0, 1) := by decide +kernel
theorem dX10_cite_135 : decode cX10_cite 135 = .ok (.getfield 7, 3) := by decide +kernel
theorem dX10_cite_138 : decode cX10_cite 138 = .ok (.iload 7, 2) := by decide +kernel
theorem dX10_cite_140 : decode cX10_cite 140 = .ok (.iconst 4, 1) := by decide +kernel
theorem dX10_cite_141 : decode cX10_cite 141 = .ok (.iadd, 1) := by decide +kernel
theorem dX10_cite_142 : decode cX10_cite 142 = .ok (.iload 5, 2) := by decide +kernel
theorem dX10_cite_144 : decode cX10_cite 144 = .ok (.iastore, 1) := by decide +kernel
theorem dX10_cite_145 : decode cX10_cite 145 = .ok (.aload_n 0, 1) := by decide +kernel
theorem dX10_cite_146 : decode cX10_cite 146 = .ok (.invokevirtual 221, 3) := by decide +kernel
theorem dX10_cite_149 : decode cX10_cite 149 = .ok (.aload_n 0, 1) := by decide +kernel
theorem dX10_cite_150 : decode cX10_cite 150 = .ok (.iload_n 1, 1) := by decide +kernel
theorem dX10_cite_151 : decode cX10_cite 151 = .ok (.iload_n 2, 1) := by decide +kernel
theorem dX10_cite_152 : decode cX10_cite 152 = .ok (.aload_n 0, 1) := by decide +kernel
theorem dX10_cite_153 : decode cX10_cite 153 = .ok (.getfield 41, 3) := by decide +kernel
theorem dX10_cite_156 : decode cX10_cite 156 = .ok (.invokevirtual 224, 3) := by decide +kernel
theorem dX10_cite_159 : decode cX10_cite 159 = .ok (.aload_n 0, 1) := by decide +kernel
theorem dX10_cite_160 : decode cX10_cite 160 = .ok (.getfield 41, 3) := by decide +kernel
theorem dX10_cite_163 : decode cX10_cite 163 = .ok (.invokestatic 77, 3) := by decide +kernel
theorem dX10_cite_166 : decode cX10_cite 166 = .ok (.ireturn, 1) := by decide +kernel
def w_X10_cite : List Cond := .code yX10_cite cX10_cite 8 (some .int) :: ([.constantLong RX10 213 (7), .methodLink RX10 51 yX10_in0, .static yX10_in0, .initialized RX10, .code yX10_in0 cX10_in0 6 (some .boolean), .constant RX10 177 (-1000001), .methodLink RX10 55 yX10_isEdition, .instanceMethod yX10_isEdition, .selects RX10 yX10_isEdition yX10_isEdition, .code yX10_isEdition cX10_isEdition 2 (some .boolean), .methodLink RX10 47 yX10_isWork, .instanceMethod yX10_isWork, .selects RX10 yX10_isWork yX10_isWork, .code yX10_isWork cX10_isWork 1 (some .boolean), .fieldLink RX10 7 "LineCitesModel" "now" "[I", .constantLong RX10 219 (2), .methodLink RX10 145 yX10_isNumber, .static yX10_isNumber, .code yX10_isNumber cX10_isNumber 1 (some .boolean), .constantLong RX10 59 (999), .methodLink RX10 205 yX10_notes, .instanceMethod yX10_notes, .selects RX10 yX10_notes yX10_notes, .code yX10_notes cX10_notes 2 none, .fieldLink RX10 195 "LineCitesModel" "acts" "I", .fieldLink RX10 16 "LineCitesModel" "past" "[I", .methodLink RX10 191 yX10_copies, .static yX10_copies, .code yX10_copies cX10_copies 5 none, .methodLink RX10 221 yX10_lays, .instanceMethod yX10_lays, .selects RX10 yX10_lays yX10_lays, .code yX10_lays cX10_lays 9 none, .constant RX10 61 (-1000000), .fieldLink RX10 29 "LineCitesModel" "low" "[I", .fieldLink RX10 32 "LineCitesModel" "high" "[I", .methodLink RX10 66 yX10_stretchOf, .static yX10_stretchOf, .code yX10_stretchOf cX10_stretchOf 7 (some .int), .methodLink RX10 62 yX10_of, .static yX10_of, .code yX10_of cX10_of 4 (some .int), .fieldLink RX10 41 "LineCitesModel" "lines" "[Z", .methodLink RX10 224 yX10_laysLines, .instanceMethod yX10_laysLines, .selects RX10 yX10_laysLines yX10_laysLines, .code yX10_laysLines cX10_laysLines 4 none, .methodLink RX10 215 yX10_cited, .instanceMethod yX10_cited, .selects RX10 yX10_cited yX10_cited, .code yX10_cited cX10_cited 3 (some .int), .methodLink RX10 286 yX10_lastOf, .instanceMethod yX10_lastOf, .selects RX10 yX10_lastOf yX10_lastOf, .code yX10_lastOf cX10_lastOf 2 (some .int), .methodLink RX10 289 yX10_laysSpan, .instanceMethod yX10_laysSpan, .selects RX10 yX10_laysSpan yX10_laysSpan, .code yX10_laysSpan cX10_laysSpan 7 none, .methodLink RX10 87 yX10_clears, .static yX10_clears, .code yX10_clears cX10_clears 2 none, .methodLink RX10 73 yX10_hasNumber, .instanceMethod yX10_hasNumber, .selects RX10 yX10_hasNumber yX10_hasNumber, .code yX10_hasNumber cX10_hasNumber 3 (some .boolean), .methodLink RX10 77 yX10_manyIn, .static yX10_manyIn, .code yX10_manyIn cX10_manyIn 3 (some .int)] ++ wsX100)
set_option maxRecDepth 20000 in
theorem g_X10_cite_X10_in0 : GoodIn w_X10_cite (wsS RX10 51 yX10_in0 w_X10_in0) := goodIn_r _ [2, 3, 4, 5] rfl (by decide +kernel)
set_option maxRecDepth 20000 in
theorem g_X10_cite_X10_isEdition : GoodIn w_X10_cite (wsV RX10 55 RX10 yX10_isEdition w_X10_isEdition) := goodIn_r _ [7, 8, 9, 4, 10, 11, 12, 13, 4, 14, 15, 2, 3, 5, 70, 71, 72, 73, 74, 75, 76, 77, 78, 79, 80, 81, 82, 83, 84, 85, 86, 87, 88, 89, 90, 91, 92, 93, 94] rfl (by decide +kernel)
set_option maxRecDepth 20000 in
theorem g_X10_cite_X10_isNumber : GoodIn w_X10_cite (wsS RX10 145 yX10_isNumber w_X10_isNumber) := goodIn_r _ [17, 18, 4, 19, 20, 2, 3, 4, 5] rfl (by decide +kernel)
set_option maxRecDepth 20000 in
theorem g_X10_cite_X10_notes : GoodIn w_X10_cite (wsV RX10 205 RX10 yX10_notes w_X10_notes) := goodIn_r _ [21, 22, 23, 4, 24, 25, 15, 26, 27, 28, 4, 29, 70, 71, 72, 73, 74, 75, 76, 77, 78, 79, 80, 81, 82, 83, 84, 85, 86, 87, 88, 89, 90, 91, 92, 93, 94] rfl (by decide +kernel)
set_option maxRecDepth 20000 in
theorem g_X10_cite_X10_lays : GoodIn w_X10_cite (wsV RX10 221 RX10 yX10_lays w_X10_lays) := goodIn_r _ [30, 31, 32, 4, 33, 15, 34, 35, 36, 37, 38, 4, 39, 40, 41, 42, 2, 3, 5, 70, 71, 72, 73, 74, 75, 76, 77, 78, 79, 80, 81, 82, 83, 84, 85, 86, 87, 88, 89, 90, 91, 92, 93, 94] rfl (by decide +kernel)
set_option maxRecDepth 20000 in
theorem g_X10_cite_X10_laysLines : GoodIn w_X10_cite (wsV RX10 224 RX10 yX10_laysLines w_X10_laysLines) := goodIn_r _ [44, 45, 46, 4, 47, 48, 49, 50, 4, 51, 15, 52, 53, 54, 55, 56, 57, 58, 59, 60, 61, 62, 63, 64, 65, 66, 35, 2, 3, 5, 36, 70, 71, 72, 73, 74, 75, 76, 77, 78, 79, 80, 81, 82, 83, 84, 85, 86, 87, 88, 89, 90, 91, 92, 93, 94] rfl (by decide +kernel)
set_option maxRecDepth 20000 in
theorem g_X10_cite_X10_manyIn__2 : GoodIn w_X10_cite (wsS RX10 77 yX10_manyIn w_X10_manyIn__2) := goodIn_r _ [67, 68, 4, 69] rfl (by decide +kernel)
set_option maxHeartbeats 4000000 in
set_option maxRecDepth 100000 in
theorem c_X10_cite (l : Launch) (D : va_G) (h0 : Nat) (i_0 : Int32) (i_1 : Int32) (i_2 : Int32) (i_3 : Int32) (i_4 : Int32) (m_now : Nat) (m_draft : Nat) (m_past : Nat) (j_acts : Int32) (m_images : Nat) (m_kept : Nat) (m_tape : Nat) (j_taped : Int32) (j_at : Int32) (j_start : Int32) (j_token : Int32) (j_value : Int32) (j_fault : Int32) (j_place : Int32) (j_latest : Int32) (m_low : Nat) (m_high : Nat) (m_first : Nat) (m_second : Nat) (m_lines : Nat) (m_others : Nat) (j_shiftFirst : Int32) (j_shiftMany : Int32) (j_shiftLow : Int32) (j_shiftHigh : Int32) (kI : ClassId) (g_now : Nat → Int32) (g_past : Nat → Int32) (g_low : Nat → Int32) (g_high : Nat → Int32) (kZ : ClassId) (g_lines : Nat → Int32) (sz : Nat) (hN1 : 1 ≤ (g_now 0).toInt) (h0j_acts : 0 ≤ j_acts.toInt) (h1j_acts : j_acts.toInt ≤ 10) (hPb : pB g_past j_acts.toInt) (hg_now : gV g_now) (hg_low : bP g_low) (hg_high : bP g_high) : Met l yX10_cite w_X10_cite ({ frames := 3, cells := 0, slots := 0, locals := 79 }) (va_Pc [.ref h0, .int i_0, .int i_1, .int i_2, .int i_3, .int i_4] (fun U => U.heap.size = sz ∧ va_P D vwCl [(h0, .inr (10, [.ref m_now, .ref m_draft, .ref m_past, .int j_acts, .ref m_images, .ref m_kept, .ref m_tape, .int j_taped, .int j_at, .int j_start, .int j_token, .int j_value, .int j_fault, .int j_place, .int j_latest, .ref m_low, .ref m_high, .ref m_first, .ref m_second, .ref m_lines, .ref m_others, .int j_shiftFirst, .int j_shiftMany, .int j_shiftLow, .int j_shiftHigh])), (m_now, .inl (kI, 192, .inl g_now)), (m_past, .inl (kI, 1920, .inl g_past)), (m_low, .inl (kI, 1000, .inl g_low)), (m_high, .inl (kI, 1000, .inl g_high)), (m_lines, .inl (kZ, 200, .inl g_lines))] U.heap ∧ va_K D vwCl [(kI, .int), (kZ, .boolean)] U ∧ va_D (fun _ => True) [(h0, .inr (10, [.ref m_now, .ref m_draft, .ref m_past, .int j_acts, .ref m_images, .ref m_kept, .ref m_tape, .int j_taped, .int j_at, .int j_start, .int j_token, .int j_value, .int j_fault, .int j_place, .int j_latest, .ref m_low, .ref m_high, .ref m_first, .ref m_second, .ref m_lines, .ref m_others, .int j_shiftFirst, .int j_shiftMany, .int j_shiftLow, .int j_shiftHigh])), (m_now, .inl (kI, 192, .inl g_now)), (m_past, .inl (kI, 1920, .inl g_past)), (m_low, .inl (kI, 1000, .inl g_low)), (m_high, .inl (kI, 1000, .inl g_high)), (m_lines, .inl (kZ, 200, .inl g_lines))])) (va_Qi (fun (r : Int32) (_ : Unit) => True) (fun (_ : Unit) t => ∃ (n_acts : Int32) (n_now : Nat → Int32) (n_past : Nat → Int32) (n_low : Nat → Int32) (n_high : Nat → Int32) (n_lines : Nat → Int32), va_P D vwCl [(h0, .inr (10, [.ref m_now, .ref m_draft, .ref m_past, .int n_acts, .ref m_images, .ref m_kept, .ref m_tape, .int j_taped, .int j_at, .int j_start, .int j_token, .int j_value, .int j_fault, .int j_place, .int j_latest, .ref m_low, .ref m_high, .ref m_first, .ref m_second, .ref m_lines, .ref m_others, .int j_shiftFirst, .int j_shiftMany, .int j_shiftLow, .int j_shiftHigh])), (m_now, .inl (kI, 192, .inl n_now)), (m_past, .inl (kI, 1920, .inl n_past)), (m_low, .inl (kI, 1000, .inl n_low)), (m_high, .inl (kI, 1000, .inl n_high)), (m_lines, .inl (kZ, 200, .inl n_lines))] t.heap ∧ va_K D vwCl [(kI, .int), (kZ, .boolean)] t ∧ va_D (va_A [(h0, .inr (10, [.ref m_now, .ref m_draft, .ref m_past, .int j_acts, .ref m_images, .ref m_kept, .ref m_tape, .int j_taped, .int j_at, .int j_start, .int j_token, .int j_value, .int j_fault, .int j_place, .int j_latest, .ref m_low, .ref m_high, .ref m_first, .ref m_second, .ref m_lines, .ref m_others, .int j_shiftFirst, .int j_shiftMany, .int j_shiftLow, .int j_shiftHigh])), (m_now, .inl (kI, 192, .inl g_now)), (m_past, .inl (kI, 1920, .inl g_past)), (m_low, .inl (kI, 1000, .inl g_low)), (m_high, .inl (kI, 1000, .inl g_high)), (m_lines, .inl (kZ, 200, .inl g_lines))] sz) [(h0, .inr (10, [.ref m_now, .ref m_draft, .ref m_past, .int n_acts, .ref m_images, .ref m_kept, .ref m_tape, .int j_taped, .int j_at, .int j_start, .int j_token, .int j_value, .int j_fault, .int j_place, .int j_latest, .ref m_low, .ref m_high, .ref m_first, .ref m_second, .ref m_lines, .ref m_others, .int j_shiftFirst, .int j_shiftMany, .int j_shiftLow, .int j_shiftHigh])), (m_now, .inl (kI, 192, .inl n_now)), (m_past, .inl (kI, 1920, .inl n_past)), (m_low, .inl (kI, 1000, .inl n_low)), (m_high, .inl (kI, 1000, .inl n_high)), (m_lines, .inl (kZ, 200, .inl n_lines))] ∧ gV n_now ∧ bP n_low ∧ bP n_high ∧ 1 ≤ (n_now 0).toInt ∧ (0 ≤ n_acts.toInt ∧ n_acts.toInt ≤ 10) ∧ pB n_past n_acts.toInt) (va_A [(h0, .inr (10, [.ref m_now, .ref m_draft, .ref m_past, .int j_acts, .ref m_images, .ref m_kept, .ref m_tape, .int j_taped, .int j_at, .int j_start, .int j_token, .int j_value, .int j_fault, .int j_place, .int j_latest, .ref m_low, .ref m_high, .ref m_first, .ref m_second, .ref m_lines, .ref m_others, .int j_shiftFirst, .int j_shiftMany, .int j_shiftLow, .int j_shiftHigh])), (m_now, .inl (kI, 192, .inl g_now)), (m_past, .inl (kI, 1920, .inl g_past)), (m_low, .inl (kI, 1000, .inl g_low)), (m_high, .inl (kI, 1000, .inl g_high)), (m_lines, .inl (kZ, 200, .inl g_lines))] sz)) 0 0 (va_A [(h0, .inr (10, [.ref m_now, .ref m_draft, .ref m_past, .int j_acts, .ref m_images, .ref m_kept, .ref m_tape, .int j_taped, .int j_at, .int j_start, .int j_token, .int j_value, .int j_fault, .int j_place, .int j_latest, .ref m_low, .ref m_high, .ref m_first, .ref m_second, .ref m_lines, .ref m_others, .int j_shiftFirst, .int j_shiftMany, .int j_shiftLow, .int j_shiftHigh])), (m_now, .inl (kI, 192, .inl g_now)), (m_past, .inl (kI, 1920, .inl g_past)), (m_low, .inl (kI, 1000, .inl g_low)), (m_high, .inl (kI, 1000, .inl g_high)), (m_lines, .inl (kZ, 200, .inl g_lines))] sz) := by
  refine Met.ofW (cc := cX10_cite) (maxL := 8) (ret := (some .int)) (by decide) rfl ?_
  intro p e s m args below meth c s₁ B hml hv
  obtain ⟨rfl, hsz, hP, hK, hD0⟩ := hv
  have hx := B.exec
  have hb := B.bytes
  have hr := B.returns
  have hts := atoms_spec (ws := w_X10_cite) B.pre
  have hown : s.vm.findClass RX10 = some m.cls := findClass_of_methodNamed B.named
  have hlocks := B.notSynchronized
  subst hsz
  have hD := hD0.self (sz := s.heap.size)
  generalize hAe : va_A [(h0, .inr (10, [.ref m_now, .ref m_draft, .ref m_past, .int j_acts, .ref m_images, .ref m_kept, .ref m_tape, .int j_taped, .int j_at, .int j_start, .int j_token, .int j_value, .int j_fault, .int j_place, .int j_latest, .ref m_low, .ref m_high, .ref m_first, .ref m_second, .ref m_lines, .ref m_others, .int j_shiftFirst, .int j_shiftMany, .int j_shiftLow, .int j_shiftHigh])), (m_now, .inl (kI, 192, .inl g_now)), (m_past, .inl (kI, 1920, .inl g_past)), (m_low, .inl (kI, 1000, .inl g_low)), (m_high, .inl (kI, 1000, .inl g_high)), (m_lines, .inl (kZ, 200, .inl g_lines))] s.heap.size = A at hD ⊢
  have hA : ∀ q : Nat, s.heap.size ≤ q → A q := fun q h => by rw [← hAe]; exact Or.inr h
  have hS : va_S A s.heap s.heap [] := va_S.rf
  have hP : va_P D vwCl [(h0, .inr (10, [.ref m_now, .ref m_draft, .ref m_past, .int j_acts, .ref m_images, .ref m_kept, .ref m_tape, .int j_taped, .int j_at, .int j_start, .int j_token, .int j_value, .int j_fault, .int j_place, .int j_latest, .ref m_low, .ref m_high, .ref m_first, .ref m_second, .ref m_lines, .ref m_others, .int j_shiftFirst, .int j_shiftMany, .int j_shiftLow, .int j_shiftHigh])), (m_now, .inl (kI, 192, .inl g_now)), (m_past, .inl (kI, 1920, .inl g_past)), (m_low, .inl (kI, 1000, .inl g_low)), (m_high, .inl (kI, 1000, .inl g_high)), (m_lines, .inl (kZ, 200, .inl g_lines))] s.heap := hP
  have hl := lv_entry ([.ref h0, .int i_0, .int i_1, .int i_2, .int i_3, .int i_4]) (n := 8) (Nat.le_of_ble_eq_true rfl)
  rw [lg_entry_eq]
  generalize (lg_sl ([.ref h0, .int i_0, .int i_1, .int i_2, .int i_3, .int i_4]) ++ List.replicate (8 - (lg_sl ([.ref h0, .int i_0, .int i_1, .int i_2, .int i_3, .int i_4])).length) Slot.unset).toArray = ls at hl ⊢
  have hl : lv_has ls 8 [(0, .ref h0), (1, .int i_0), (2, .int i_1), (3, .int i_2), (4, .int i_3), (5, .int i_4)] := hl
  obtain ⟨H, hHe⟩ : ∃ H : Heap, H = s.heap := ⟨_, rfl⟩
  rw [← hHe] at hP
  have hS : va_S A s.heap H [] := by rw [hHe]; exact hS
  refine pw_heap hHe ?_
  refine lv_iload_n hx hb dX10_cite_0 rfl (lv_at hl 1 rfl) ?_
  refine lv_i2l (v := i_0.toInt64) hx hb dX10_cite_1 rfl ?_
  refine lv_lconst (v := 0) hx hb dX10_cite_2 (by decide) ?_
  refine lv_ldc2 hx hb hown (hts (.constantLong RX10 213 (7)) (List.mem_of_getElem? (i := 1) rfl)) dX10_cite_3 ?_
  have hPc := hP.sub (ws' := []) [] rfl
  have hKc := hK.sub (tys' := []) [] rfl
  refine va_calli (va_runS (As := [.long i_0.toInt64, .long 0, .long 7]) (rest := []) ⟨hx, hb, hml, hown, hts⟩ (c_X10_in0 l D i_0.toInt64 0 7) (cwS 3 hts g_X10_cite_X10_in0 rfl rfl rfl (by decide +kernel) ⟨Nat.le_of_ble_eq_true rfl, Nat.le_of_ble_eq_true rfl⟩) ⟨fun a U g mk q => by obtain ⟨q0, qP, qK⟩ := q; exact ⟨q0, qP, va_K.moved (u := U) (U := U.calling g mk a) (Vm.Alike.refl U.vm) qK⟩, fun U hU hW => ⟨rfl, by rw [hU]; exact hPc, va_K.moved hW.alike hKc⟩⟩ rfl rfl hl.1 rfl (lv_room (Nat.le_of_ble_eq_true rfl)) dX10_cite_6 ⟨Nat.le_of_ble_eq_true rfl, Nat.le_of_ble_eq_true rfl⟩) hS (fun _ _ h => h.elim) (fun _ h => h.elim) (fun r1 u t H1 locs ht hvm hw hB hz1 hk1 hS => ?_)
  have hP := pw_keep hP (fun q hq => hk1 q hq (fun h => h))
  generalize H1 = H at hP hS ⊢
  refine W.widen (k := 0) (n := 0) (Nat.le_of_ble_eq_true rfl) (Nat.le_of_ble_eq_true rfl) ?_
  have bor1 := hw.1
  have zor1 := pw_boolI bor1
  have hfr1 := hw.2
  have kl0 : (0 : Int64).toInt = 0 := by decide
  have kl7 : (7 : Int64).toInt = 7 := by decide
  try simp only [Int32.toInt_toInt64] at hfr1
  refine lv_if_eq (tgt := 44) hx hb dX10_cite_9 (by decide) (fun c2 => ?_) (fun c2 => ?_)
  · have nc2 : r1.toInt = 0 := pw_eq c2 rfl (by decide)
    refine lv_iconst (v := 0) hx hb dX10_cite_44 (by decide) ?_
    refine lv_istore (lv' := [(6, .int 0), (0, .ref h0), (1, .int i_0), (2, .int i_1), (3, .int i_2), (4, .int i_3), (5, .int i_4)]) hx hb dX10_cite_45 hl (by decide) rfl (fun ls hl => ?_)
    refine lv_iload hx hb dX10_cite_47 (lv_at hl 0 rfl) ?_
    refine lv_if_eq (tgt := 79) hx hb dX10_cite_49 (by decide) (fun c3 => ?_) (fun c3 => absurd (by decide) c3)
    refine lv_ldc hx hb hown (hts (.constant RX10 177 (-1000001)) (List.mem_of_getElem? (i := 6) rfl)) dX10_cite_79 ?_
    have hP9 := hP.sub (ws' := [(h0, .inr (10, [.ref m_now, .ref m_draft, .ref m_past, .int j_acts, .ref m_images, .ref m_kept, .ref m_tape, .int j_taped, .int j_at, .int j_start, .int j_token, .int j_value, .int j_fault, .int j_place, .int j_latest, .ref m_low, .ref m_high, .ref m_first, .ref m_second, .ref m_lines, .ref m_others, .int j_shiftFirst, .int j_shiftMany, .int j_shiftLow, .int j_shiftHigh])), (m_now, .inl (kI, 192, .inl g_now)), (m_past, .inl (kI, 1920, .inl g_past)), (m_low, .inl (kI, 1000, .inl g_low)), (m_high, .inl (kI, 1000, .inl g_high)), (m_lines, .inl (kZ, 200, .inl g_lines))]) [0, 1, 2, 3, 4, 5] rfl
    have hD9 := hD.sub (ws' := [(h0, .inr (10, [.ref m_now, .ref m_draft, .ref m_past, .int j_acts, .ref m_images, .ref m_kept, .ref m_tape, .int j_taped, .int j_at, .int j_start, .int j_token, .int j_value, .int j_fault, .int j_place, .int j_latest, .ref m_low, .ref m_high, .ref m_first, .ref m_second, .ref m_lines, .ref m_others, .int j_shiftFirst, .int j_shiftMany, .int j_shiftLow, .int j_shiftHigh])), (m_now, .inl (kI, 192, .inl g_now)), (m_past, .inl (kI, 1920, .inl g_past)), (m_low, .inl (kI, 1000, .inl g_low)), (m_high, .inl (kI, 1000, .inl g_high)), (m_lines, .inl (kZ, 200, .inl g_lines))]) [0, 1, 2, 3, 4, 5] (by decide) rfl
    have hK9 := hK.sub (tys' := [(kI, .int), (kZ, .boolean)]) [0, 1] rfl
    refine W.widen (k := 0) (n := 0) (Nat.le_of_ble_eq_true rfl) (Nat.le_of_ble_eq_true rfl) ?_
    exact W.iret (v := (-1000001)) hx hb hr (fun t ht hW => ⟨⟨(-1000001), (), rfl, trivial, j_acts, g_now, g_past, g_low, g_high, g_lines, by rw [ht]; exact hP9, va_K.moved hW.alike hK9, hD9, hg_now, hg_low, hg_high, hN1, (by omega), hPb⟩, hS.F ht⟩) hS.2.2 dX10_cite_81
  · have nc2 : r1.toInt ≠ 0 := pw_ne c2 rfl (by decide)
    refine lv_aload_n hx hb dX10_cite_12 rfl (lv_at hl 0 rfl) ?_
    refine lv_iload_n hx hb dX10_cite_13 rfl (lv_at hl 2 rfl) ?_
    have hPc := hP.sub (ws' := [(h0, .inr (10, [.ref m_now, .ref m_draft, .ref m_past, .int j_acts, .ref m_images, .ref m_kept, .ref m_tape, .int j_taped, .int j_at, .int j_start, .int j_token, .int j_value, .int j_fault, .int j_place, .int j_latest, .ref m_low, .ref m_high, .ref m_first, .ref m_second, .ref m_lines, .ref m_others, .int j_shiftFirst, .int j_shiftMany, .int j_shiftLow, .int j_shiftHigh])), (m_now, .inl (kI, 192, .inl g_now))]) [0, 1] rfl
    have hKc := hK.sub (tys' := [(kI, .int)]) [0] rfl
    refine va_calli (va_runV (As := [.int i_1]) (rest := []) ⟨hx, hb, hml, hown, hts⟩ (c_X10_isEdition l D h0 i_1 m_now m_draft m_past j_acts m_images m_kept m_tape j_taped j_at j_start j_token j_value j_fault j_place j_latest m_low m_high m_first m_second m_lines m_others j_shiftFirst j_shiftMany j_shiftLow j_shiftHigh kI g_now hg_now) (cwV 1 hts g_X10_cite_X10_isEdition rfl rfl rfl (by decide +kernel) ⟨Nat.le_of_ble_eq_true rfl, Nat.le_of_ble_eq_true rfl⟩) ⟨fun a U g mk q => by obtain ⟨q0, qP, qK⟩ := q; exact ⟨q0, qP, va_K.moved (u := U) (U := U.calling g mk a) (Vm.Alike.refl U.vm) qK⟩, va_recv hKc hPc (ci := 10) (q0 := 0) rfl rfl, fun U hU hW => ⟨rfl, by rw [hU]; exact hPc, va_K.moved hW.alike hKc⟩⟩ rfl rfl hl.1 rfl (lv_room (Nat.le_of_ble_eq_true rfl)) dX10_cite_14 ⟨Nat.le_of_ble_eq_true rfl, Nat.le_of_ble_eq_true rfl⟩) hS (fun _ _ h => h.elim) (fun _ h => h.elim) (fun r4 u t H1 locs ht hvm hw hB hz1 hk1 hS => ?_)
    have hP := pw_keep hP (fun q hq => hk1 q hq (fun h => h))
    generalize H1 = H at hP hS ⊢
    refine W.widen (k := 0) (n := 0) (Nat.le_of_ble_eq_true rfl) (Nat.le_of_ble_eq_true rfl) ?_
    have bor4 := hw.1
    have zor4 := pw_boolI bor4
    have hfr4 := hw.2
    refine lv_if_eq (tgt := 44) hx hb dX10_cite_17 (by decide) (fun c5 => ?_) (fun c5 => ?_)
    · have nc5 : r4.toInt = 0 := pw_eq c5 rfl (by decide)
      refine lv_iconst (v := 0) hx hb dX10_cite_44 (by decide) ?_
      refine lv_istore (lv' := [(6, .int 0), (0, .ref h0), (1, .int i_0), (2, .int i_1), (3, .int i_2), (4, .int i_3), (5, .int i_4)]) hx hb dX10_cite_45 hl (by decide) rfl (fun ls hl => ?_)
      refine lv_iload hx hb dX10_cite_47 (lv_at hl 0 rfl) ?_
      refine lv_if_eq (tgt := 79) hx hb dX10_cite_49 (by decide) (fun c6 => ?_) (fun c6 => absurd (by decide) c6)
      refine lv_ldc hx hb hown (hts (.constant RX10 177 (-1000001)) (List.mem_of_getElem? (i := 6) rfl)) dX10_cite_79 ?_
      have hP9 := hP.sub (ws' := [(h0, .inr (10, [.ref m_now, .ref m_draft, .ref m_past, .int j_acts, .ref m_images, .ref m_kept, .ref m_tape, .int j_taped, .int j_at, .int j_start, .int j_token, .int j_value, .int j_fault, .int j_place, .int j_latest, .ref m_low, .ref m_high, .ref m_first, .ref m_second, .ref m_lines, .ref m_others, .int j_shiftFirst, .int j_shiftMany, .int j_shiftLow, .int j_shiftHigh])), (m_now, .inl (kI, 192, .inl g_now)), (m_past, .inl (kI, 1920, .inl g_past)), (m_low, .inl (kI, 1000, .inl g_low)), (m_high, .inl (kI, 1000, .inl g_high)), (m_lines, .inl (kZ, 200, .inl g_lines))]) [0, 1, 2, 3, 4, 5] rfl
      have hD9 := hD.sub (ws' := [(h0, .inr (10, [.ref m_now, .ref m_draft, .ref m_past, .int j_acts, .ref m_images, .ref m_kept, .ref m_tape, .int j_taped, .int j_at, .int j_start, .int j_token, .int j_value, .int j_fault, .int j_place, .int j_latest, .ref m_low, .ref m_high, .ref m_first, .ref m_second, .ref m_lines, .ref m_others, .int j_shiftFirst, .int j_shiftMany, .int j_shiftLow, .int j_shiftHigh])), (m_now, .inl (kI, 192, .inl g_now)), (m_past, .inl (kI, 1920, .inl g_past)), (m_low, .inl (kI, 1000, .inl g_low)), (m_high, .inl (kI, 1000, .inl g_high)), (m_lines, .inl (kZ, 200, .inl g_lines))]) [0, 1, 2, 3, 4, 5] (by decide) rfl
      have hK9 := hK.sub (tys' := [(kI, .int), (kZ, .boolean)]) [0, 1] rfl
      refine W.widen (k := 0) (n := 0) (Nat.le_of_ble_eq_true rfl) (Nat.le_of_ble_eq_true rfl) ?_
      exact W.iret (v := (-1000001)) hx hb hr (fun t ht hW => ⟨⟨(-1000001), (), rfl, trivial, j_acts, g_now, g_past, g_low, g_high, g_lines, by rw [ht]; exact hP9, va_K.moved hW.alike hK9, hD9, hg_now, hg_low, hg_high, hN1, (by omega), hPb⟩, hS.F ht⟩) hS.2.2 dX10_cite_81
    · have nc5 : r4.toInt ≠ 0 := pw_ne c5 rfl (by decide)
      refine lv_iload_n hx hb dX10_cite_20 rfl (lv_at hl 3 rfl) ?_
      refine lv_i2l (v := i_2.toInt64) hx hb dX10_cite_21 rfl ?_
      refine lv_lconst (v := 0) hx hb dX10_cite_22 (by decide) ?_
      refine lv_ldc2 hx hb hown (hts (.constantLong RX10 219 (2)) (List.mem_of_getElem? (i := 16) rfl)) dX10_cite_23 ?_
      have hPc := hP.sub (ws' := []) [] rfl
      have hKc := hK.sub (tys' := []) [] rfl
      refine va_calli (va_runS (As := [.long i_2.toInt64, .long 0, .long 2]) (rest := []) ⟨hx, hb, hml, hown, hts⟩ (c_X10_in0 l D i_2.toInt64 0 2) (cwS 3 hts g_X10_cite_X10_in0 rfl rfl rfl (by decide +kernel) ⟨Nat.le_of_ble_eq_true rfl, Nat.le_of_ble_eq_true rfl⟩) ⟨fun a U g mk q => by obtain ⟨q0, qP, qK⟩ := q; exact ⟨q0, qP, va_K.moved (u := U) (U := U.calling g mk a) (Vm.Alike.refl U.vm) qK⟩, fun U hU hW => ⟨rfl, by rw [hU]; exact hPc, va_K.moved hW.alike hKc⟩⟩ rfl rfl hl.1 rfl (lv_room (Nat.le_of_ble_eq_true rfl)) dX10_cite_26 ⟨Nat.le_of_ble_eq_true rfl, Nat.le_of_ble_eq_true rfl⟩) hS (fun _ _ h => h.elim) (fun _ h => h.elim) (fun r7 u t H1 locs ht hvm hw hB hz1 hk1 hS => ?_)
      have hP := pw_keep hP (fun q hq => hk1 q hq (fun h => h))
      generalize H1 = H at hP hS ⊢
      refine W.widen (k := 0) (n := 0) (Nat.le_of_ble_eq_true rfl) (Nat.le_of_ble_eq_true rfl) ?_
      have bor7 := hw.1
      have zor7 := pw_boolI bor7
      have hfr7 := hw.2
      have kl0 : (0 : Int64).toInt = 0 := by decide
      have kl2 : (2 : Int64).toInt = 2 := by decide
      try simp only [Int32.toInt_toInt64] at hfr7
      refine lv_if_eq (tgt := 44) hx hb dX10_cite_29 (by decide) (fun c8 => ?_) (fun c8 => ?_)
      · have nc8 : r7.toInt = 0 := pw_eq c8 rfl (by decide)
        refine lv_iconst (v := 0) hx hb dX10_cite_44 (by decide) ?_
        refine lv_istore (lv' := [(6, .int 0), (0, .ref h0), (1, .int i_0), (2, .int i_1), (3, .int i_2), (4, .int i_3), (5, .int i_4)]) hx hb dX10_cite_45 hl (by decide) rfl (fun ls hl => ?_)
        refine lv_iload hx hb dX10_cite_47 (lv_at hl 0 rfl) ?_
        refine lv_if_eq (tgt := 79) hx hb dX10_cite_49 (by decide) (fun c9 => ?_) (fun c9 => absurd (by decide) c9)
        refine lv_ldc hx hb hown (hts (.constant RX10 177 (-1000001)) (List.mem_of_getElem? (i := 6) rfl)) dX10_cite_79 ?_
        have hP9 := hP.sub (ws' := [(h0, .inr (10, [.ref m_now, .ref m_draft, .ref m_past, .int j_acts, .ref m_images, .ref m_kept, .ref m_tape, .int j_taped, .int j_at, .int j_start, .int j_token, .int j_value, .int j_fault, .int j_place, .int j_latest, .ref m_low, .ref m_high, .ref m_first, .ref m_second, .ref m_lines, .ref m_others, .int j_shiftFirst, .int j_shiftMany, .int j_shiftLow, .int j_shiftHigh])), (m_now, .inl (kI, 192, .inl g_now)), (m_past, .inl (kI, 1920, .inl g_past)), (m_low, .inl (kI, 1000, .inl g_low)), (m_high, .inl (kI, 1000, .inl g_high)), (m_lines, .inl (kZ, 200, .inl g_lines))]) [0, 1, 2, 3, 4, 5] rfl
        have hD9 := hD.sub (ws' := [(h0, .inr (10, [.ref m_now, .ref m_draft, .ref m_past, .int j_acts, .ref m_images, .ref m_kept, .ref m_tape, .int j_taped, .int j_at, .int j_start, .int j_token, .int j_value, .int j_fault, .int j_place, .int j_latest, .ref m_low, .ref m_high, .ref m_first, .ref m_second, .ref m_lines, .ref m_others, .int j_shiftFirst, .int j_shiftMany, .int j_shiftLow, .int j_shiftHigh])), (m_now, .inl (kI, 192, .inl g_now)), (m_past, .inl (kI, 1920, .inl g_past)), (m_low, .inl (kI, 1000, .inl g_low)), (m_high, .inl (kI, 1000, .inl g_high)), (m_lines, .inl (kZ, 200, .inl g_lines))]) [0, 1, 2, 3, 4, 5] (by decide) rfl
        have hK9 := hK.sub (tys' := [(kI, .int), (kZ, .boolean)]) [0, 1] rfl
        refine W.widen (k := 0) (n := 0) (Nat.le_of_ble_eq_true rfl) (Nat.le_of_ble_eq_true rfl) ?_
        exact W.iret (v := (-1000001)) hx hb hr (fun t ht hW => ⟨⟨(-1000001), (), rfl, trivial, j_acts, g_now, g_past, g_low, g_high, g_lines, by rw [ht]; exact hP9, va_K.moved hW.alike hK9, hD9, hg_now, hg_low, hg_high, hN1, (by omega), hPb⟩, hS.F ht⟩) hS.2.2 dX10_cite_81
      · have nc8 : r7.toInt ≠ 0 := pw_ne c8 rfl (by decide)
        refine lv_iload hx hb dX10_cite_32 (lv_at hl 4 rfl) ?_
        have hPc := hP.sub (ws' := []) [] rfl
        have hKc := hK.sub (tys' := []) [] rfl
        refine va_calli (va_runS (As := [.int i_3]) (rest := []) ⟨hx, hb, hml, hown, hts⟩ (c_X10_isNumber l D i_3) (cwS 1 hts g_X10_cite_X10_isNumber rfl rfl rfl (by decide +kernel) ⟨Nat.le_of_ble_eq_true rfl, Nat.le_of_ble_eq_true rfl⟩) ⟨fun a U g mk q => by obtain ⟨q0, qP, qK⟩ := q; exact ⟨q0, qP, va_K.moved (u := U) (U := U.calling g mk a) (Vm.Alike.refl U.vm) qK⟩, fun U hU hW => ⟨rfl, by rw [hU]; exact hPc, va_K.moved hW.alike hKc⟩⟩ rfl rfl hl.1 rfl (lv_room (Nat.le_of_ble_eq_true rfl)) dX10_cite_34 ⟨Nat.le_of_ble_eq_true rfl, Nat.le_of_ble_eq_true rfl⟩) hS (fun _ _ h => h.elim) (fun _ h => h.elim) (fun r10 u t H1 locs ht hvm hw hB hz1 hk1 hS => ?_)
        have hP := pw_keep hP (fun q hq => hk1 q hq (fun h => h))
        generalize H1 = H at hP hS ⊢
        refine W.widen (k := 0) (n := 0) (Nat.le_of_ble_eq_true rfl) (Nat.le_of_ble_eq_true rfl) ?_
        have bor10 := hw.1
        have zor10 := pw_boolI bor10
        have hfr10 := hw.2
        refine lv_if_eq (tgt := 44) hx hb dX10_cite_37 (by decide) (fun c11 => ?_) (fun c11 => ?_)
        · have nc11 : r10.toInt = 0 := pw_eq c11 rfl (by decide)
          refine lv_iconst (v := 0) hx hb dX10_cite_44 (by decide) ?_
          refine lv_istore (lv' := [(6, .int 0), (0, .ref h0), (1, .int i_0), (2, .int i_1), (3, .int i_2), (4, .int i_3), (5, .int i_4)]) hx hb dX10_cite_45 hl (by decide) rfl (fun ls hl => ?_)
          refine lv_iload hx hb dX10_cite_47 (lv_at hl 0 rfl) ?_
          refine lv_if_eq (tgt := 79) hx hb dX10_cite_49 (by decide) (fun c12 => ?_) (fun c12 => absurd (by decide) c12)
          refine lv_ldc hx hb hown (hts (.constant RX10 177 (-1000001)) (List.mem_of_getElem? (i := 6) rfl)) dX10_cite_79 ?_
          have hP9 := hP.sub (ws' := [(h0, .inr (10, [.ref m_now, .ref m_draft, .ref m_past, .int j_acts, .ref m_images, .ref m_kept, .ref m_tape, .int j_taped, .int j_at, .int j_start, .int j_token, .int j_value, .int j_fault, .int j_place, .int j_latest, .ref m_low, .ref m_high, .ref m_first, .ref m_second, .ref m_lines, .ref m_others, .int j_shiftFirst, .int j_shiftMany, .int j_shiftLow, .int j_shiftHigh])), (m_now, .inl (kI, 192, .inl g_now)), (m_past, .inl (kI, 1920, .inl g_past)), (m_low, .inl (kI, 1000, .inl g_low)), (m_high, .inl (kI, 1000, .inl g_high)), (m_lines, .inl (kZ, 200, .inl g_lines))]) [0, 1, 2, 3, 4, 5] rfl
          have hD9 := hD.sub (ws' := [(h0, .inr (10, [.ref m_now, .ref m_draft, .ref m_past, .int j_acts, .ref m_images, .ref m_kept, .ref m_tape, .int j_taped, .int j_at, .int j_start, .int j_token, .int j_value, .int j_fault, .int j_place, .int j_latest, .ref m_low, .ref m_high, .ref m_first, .ref m_second, .ref m_lines, .ref m_others, .int j_shiftFirst, .int j_shiftMany, .int j_shiftLow, .int j_shiftHigh])), (m_now, .inl (kI, 192, .inl g_now)), (m_past, .inl (kI, 1920, .inl g_past)), (m_low, .inl (kI, 1000, .inl g_low)), (m_high, .inl (kI, 1000, .inl g_high)), (m_lines, .inl (kZ, 200, .inl g_lines))]) [0, 1, 2, 3, 4, 5] (by decide) rfl
          have hK9 := hK.sub (tys' := [(kI, .int), (kZ, .boolean)]) [0, 1] rfl
          refine W.widen (k := 0) (n := 0) (Nat.le_of_ble_eq_true rfl) (Nat.le_of_ble_eq_true rfl) ?_
          exact W.iret (v := (-1000001)) hx hb hr (fun t ht hW => ⟨⟨(-1000001), (), rfl, trivial, j_acts, g_now, g_past, g_low, g_high, g_lines, by rw [ht]; exact hP9, va_K.moved hW.alike hK9, hD9, hg_now, hg_low, hg_high, hN1, (by omega), hPb⟩, hS.F ht⟩) hS.2.2 dX10_cite_81
        · have nc11 : r10.toInt ≠ 0 := pw_ne c11 rfl (by decide)
          refine lv_iconst (v := 1) hx hb dX10_cite_40 (by decide) ?_
          refine lv_goto (tgt := 45) hx hb dX10_cite_41 (by decide) ?_
          refine lv_istore (lv' := [(6, .int 1), (0, .ref h0), (1, .int i_0), (2, .int i_1), (3, .int i_2), (4, .int i_3), (5, .int i_4)]) hx hb dX10_cite_45 hl (by decide) rfl (fun ls hl => ?_)
          refine lv_iload hx hb dX10_cite_47 (lv_at hl 0 rfl) ?_
          refine lv_if_eq (tgt := 79) hx hb dX10_cite_49 (by decide) (fun c13 => absurd c13 (by decide)) (fun c13 => ?_)
          refine lv_iload_n hx hb dX10_cite_52 rfl (lv_at hl 4 rfl) ?_
          refine lv_if_ne (tgt := 74) hx hb dX10_cite_53 (by decide) (fun c14 => ?_) (fun c14 => ?_)
          · have nc14 : i_2.toInt ≠ 0 := pw_ne c14 rfl (by decide)
            refine lv_iload hx hb dX10_cite_74 (lv_at hl 6 rfl) ?_
            refine lv_if_eq (tgt := 82) hx hb dX10_cite_76 (by decide) (fun c15 => ?_) (fun c15 => ?_)
            · have nc15 : i_4.toInt = 0 := pw_eq c15 rfl (by decide)
              refine lv_aload_n hx hb dX10_cite_82 rfl (lv_at hl 1 rfl) ?_
              have hPc := hP.sub (ws' := [(h0, .inr (10, [.ref m_now, .ref m_draft, .ref m_past, .int j_acts, .ref m_images, .ref m_kept, .ref m_tape, .int j_taped, .int j_at, .int j_start, .int j_token, .int j_value, .int j_fault, .int j_place, .int j_latest, .ref m_low, .ref m_high, .ref m_first, .ref m_second, .ref m_lines, .ref m_others, .int j_shiftFirst, .int j_shiftMany, .int j_shiftLow, .int j_shiftHigh])), (m_now, .inl (kI, 192, .inl g_now)), (m_past, .inl (kI, 1920, .inl g_past))]) [0, 1, 2] rfl
              have hKc := hK.sub (tys' := [(kI, .int)]) [0] rfl
              have hDc := hD.sub (ws' := [(h0, .inr (10, [.ref m_now, .ref m_draft, .ref m_past, .int j_acts, .ref m_images, .ref m_kept, .ref m_tape, .int j_taped, .int j_at, .int j_start, .int j_token, .int j_value, .int j_fault, .int j_place, .int j_latest, .ref m_low, .ref m_high, .ref m_first, .ref m_second, .ref m_lines, .ref m_others, .int j_shiftFirst, .int j_shiftMany, .int j_shiftLow, .int j_shiftHigh])), (m_now, .inl (kI, 192, .inl g_now)), (m_past, .inl (kI, 1920, .inl g_past))]) [0, 1, 2] (by decide) rfl
              have hFc := va_free (wc := [(h0, .inr (10, [.ref m_now, .ref m_draft, .ref m_past, .int j_acts, .ref m_images, .ref m_kept, .ref m_tape, .int j_taped, .int j_at, .int j_start, .int j_token, .int j_value, .int j_fault, .int j_place, .int j_latest, .ref m_low, .ref m_high, .ref m_first, .ref m_second, .ref m_lines, .ref m_others, .int j_shiftFirst, .int j_shiftMany, .int j_shiftLow, .int j_shiftHigh])), (m_now, .inl (kI, 192, .inl g_now)), (m_past, .inl (kI, 1920, .inl g_past))]) hD hS hA [0, 1, 2] rfl
              refine va_callv (va_runV (As := []) (rest := []) ⟨hx, hb, hml, hown, hts⟩ (c_X10_notes l D h0 m_now m_draft m_past j_acts m_images m_kept m_tape j_taped j_at j_start j_token j_value j_fault j_place j_latest m_low m_high m_first m_second m_lines m_others j_shiftFirst j_shiftMany j_shiftLow j_shiftHigh kI g_now g_past H.size hN1 (by first | decide | omega) (by first | decide | omega) hPb hg_now) (cwV 0 hts g_X10_cite_X10_notes rfl rfl rfl (by decide +kernel) ⟨Nat.le_of_ble_eq_true rfl, Nat.le_of_ble_eq_true rfl⟩) ⟨fun a U g mk q => by obtain ⟨q0, q1, qP, qK, qD⟩ := q; exact ⟨q0, q1, qP, va_K.moved (u := U) (U := U.calling g mk a) (Vm.Alike.refl U.vm) qK, qD⟩, va_recv hKc hPc (ci := 10) (q0 := 0) rfl rfl, fun U hU hW => ⟨rfl, by rw [hU], by rw [hU]; exact hPc, va_K.moved hW.alike hKc, hDc.weaken (fun _ _ _ _ => trivial)⟩⟩ rfl rfl hl.1 rfl (lv_room (Nat.le_of_ble_eq_true rfl)) dX10_cite_83 ⟨Nat.le_of_ble_eq_true rfl, Nat.le_of_ble_eq_true rfl⟩) hS (fun q _ h => hFc q h) hFc (fun u t H1 locs ht hvm hw hB hz1 hk1 hS => ?_)
              obtain ⟨y17, y18, hP1, hK1, hD1, px0_r16, px1_r16⟩ := hB
              rw [ht] at hP1
              have hK1 := va_K.moved hvm.symm hK1
              obtain ⟨hP, hD⟩ := va_join (wr := [(m_low, .inl (kI, 1000, .inl g_low)), (m_high, .inl (kI, 1000, .inl g_high)), (m_lines, .inl (kZ, 200, .inl g_lines))]) (w1 := [(h0, .inr (10, [.ref m_now, .ref m_draft, .ref m_past, .int y17, .ref m_images, .ref m_kept, .ref m_tape, .int j_taped, .int j_at, .int j_start, .int j_token, .int j_value, .int j_fault, .int j_place, .int j_latest, .ref m_low, .ref m_high, .ref m_first, .ref m_second, .ref m_lines, .ref m_others, .int j_shiftFirst, .int j_shiftMany, .int j_shiftLow, .int j_shiftHigh])), (m_now, .inl (kI, 192, .inl g_now)), (m_past, .inl (kI, 1920, .inl y18))]) hP hD [0, 1, 2] [3, 4, 5] rfl rfl (by decide) (by decide) hk1 hFc hP1 hD1
              have hK := (hK.sub (tys' := [(kI, .int), (kZ, .boolean)]) [0, 1] rfl).app hK1
              generalize H1 = H at hP hS ⊢
              have hP : va_P D vwCl [(m_low, .inl (kI, 1000, .inl g_low)), (m_high, .inl (kI, 1000, .inl g_high)), (m_lines, .inl (kZ, 200, .inl g_lines)), (h0, .inr (10, [.ref m_now, .ref m_draft, .ref m_past, .int y17, .ref m_images, .ref m_kept, .ref m_tape, .int j_taped, .int j_at, .int j_start, .int j_token, .int j_value, .int j_fault, .int j_place, .int j_latest, .ref m_low, .ref m_high, .ref m_first, .ref m_second, .ref m_lines, .ref m_others, .int j_shiftFirst, .int j_shiftMany, .int j_shiftLow, .int j_shiftHigh])), (m_now, .inl (kI, 192, .inl g_now)), (m_past, .inl (kI, 1920, .inl y18))] H := hP
              have hD : va_D A [(m_low, .inl (kI, 1000, .inl g_low)), (m_high, .inl (kI, 1000, .inl g_high)), (m_lines, .inl (kZ, 200, .inl g_lines)), (h0, .inr (10, [.ref m_now, .ref m_draft, .ref m_past, .int y17, .ref m_images, .ref m_kept, .ref m_tape, .int j_taped, .int j_at, .int j_start, .int j_token, .int j_value, .int j_fault, .int j_place, .int j_latest, .ref m_low, .ref m_high, .ref m_first, .ref m_second, .ref m_lines, .ref m_others, .int j_shiftFirst, .int j_shiftMany, .int j_shiftLow, .int j_shiftHigh])), (m_now, .inl (kI, 192, .inl g_now)), (m_past, .inl (kI, 1920, .inl y18))] := hD
              have hK : va_K D vwCl [(kI, .int), (kZ, .boolean), (kI, .int)] s := hK
              refine W.widen (k := 0) (n := 0) (Nat.le_of_ble_eq_true rfl) (Nat.le_of_ble_eq_true rfl) ?_
              refine lv_sipush (v := 128) hx hb dX10_cite_86 (by decide) ?_
              refine lv_iconst (v := 5) hx hb dX10_cite_89 (by decide) ?_
              refine lv_iload_n hx hb dX10_cite_90 rfl (lv_at hl 2 rfl) ?_
              refine lv_imul hx hb dX10_cite_91 ?_
              refine lv_topi (fun x19 ex19 => ?_)
              have tx19 : x19.toInt = 5 * i_0.toInt := pw_mulX ex19 (by decide) rfl (by omega) (by omega)
              refine lv_iadd hx hb dX10_cite_92 ?_
              refine lv_topi (fun x20 ex20 => ?_)
              have tx20 : x20.toInt = 128 + x19.toInt := pw_addX ex20 (by decide) rfl (by omega) (by omega)
              refine lv_istore (lv' := [(7, .int x20), (6, .int 1), (0, .ref h0), (1, .int i_0), (2, .int i_1), (3, .int i_2), (4, .int i_3), (5, .int i_4)]) hx hb dX10_cite_93 hl (by decide) rfl (fun ls hl => ?_)
              refine lv_aload_n hx hb dX10_cite_95 rfl (lv_at hl 2 rfl) ?_
              refine va_get (D := D) (ci := 10) (v := .ref m_now) (C := RX10) (T := TX10) (N := 25) hx hb hts (fun _ h => List.mem_cons_of_mem _ (List.mem_append_right _ h)) hown hK hP 3 rfl rfl 0 (by decide) (hts (.fieldLink RX10 7 "LineCitesModel" "now" "[I") (List.mem_of_getElem? (i := 15) rfl)) (fun _ h9 => h9) rfl dX10_cite_96 ?_
              refine lv_iload hx hb dX10_cite_99 (lv_at hl 0 rfl) ?_
              refine lv_iconst (v := 1) hx hb dX10_cite_101 (by decide) ?_
              refine va_iast hx hb hK hP hD hS 4 0 rfl rfl (vp_in_iff.mpr ⟨by omega, by omega⟩) dX10_cite_102 (fun H locs hP hD hS => ?_)
              obtain ⟨g21, eg21⟩ : ∃ g : Nat → Int32, g = upd g_now (x20 : Int32).toNatClampNeg 1 := ⟨_, rfl⟩
              have hP : va_P D vwCl [(m_low, .inl (kI, 1000, .inl g_low)), (m_high, .inl (kI, 1000, .inl g_high)), (m_lines, .inl (kZ, 200, .inl g_lines)), (h0, .inr (10, [.ref m_now, .ref m_draft, .ref m_past, .int y17, .ref m_images, .ref m_kept, .ref m_tape, .int j_taped, .int j_at, .int j_start, .int j_token, .int j_value, .int j_fault, .int j_place, .int j_latest, .ref m_low, .ref m_high, .ref m_first, .ref m_second, .ref m_lines, .ref m_others, .int j_shiftFirst, .int j_shiftMany, .int j_shiftLow, .int j_shiftHigh])), (m_now, .inl (kI, 192, .inl (upd g_now (x20 : Int32).toNatClampNeg 1))), (m_past, .inl (kI, 1920, .inl y18))] H := hP
              have hD : va_D A [(m_low, .inl (kI, 1000, .inl g_low)), (m_high, .inl (kI, 1000, .inl g_high)), (m_lines, .inl (kZ, 200, .inl g_lines)), (h0, .inr (10, [.ref m_now, .ref m_draft, .ref m_past, .int y17, .ref m_images, .ref m_kept, .ref m_tape, .int j_taped, .int j_at, .int j_start, .int j_token, .int j_value, .int j_fault, .int j_place, .int j_latest, .ref m_low, .ref m_high, .ref m_first, .ref m_second, .ref m_lines, .ref m_others, .int j_shiftFirst, .int j_shiftMany, .int j_shiftLow, .int j_shiftHigh])), (m_now, .inl (kI, 192, .inl (upd g_now (x20 : Int32).toNatClampNeg 1))), (m_past, .inl (kI, 1920, .inl y18))] := hD
              have hK : va_K D vwCl [(kI, .int), (kZ, .boolean), (kI, .int)] s := hK
              rw [← eg21] at hP hD
              refine lv_aload_n hx hb dX10_cite_103 rfl (lv_at hl 2 rfl) ?_
              refine va_get (D := D) (ci := 10) (v := .ref m_now) (C := RX10) (T := TX10) (N := 25) hx hb hts (fun _ h => List.mem_cons_of_mem _ (List.mem_append_right _ h)) hown hK hP 3 rfl rfl 0 (by decide) (hts (.fieldLink RX10 7 "LineCitesModel" "now" "[I") (List.mem_of_getElem? (i := 15) rfl)) (fun _ h9 => h9) rfl dX10_cite_104 ?_
              refine lv_iload hx hb dX10_cite_107 (lv_at hl 0 rfl) ?_
              refine lv_iconst (v := 1) hx hb dX10_cite_109 (by decide) ?_
              refine lv_iadd hx hb dX10_cite_110 ?_
              refine lv_topi (fun x22 ex22 => ?_)
              have tx22 : x22.toInt = x20.toInt + 1 := pw_addX ex22 rfl (by decide) (by omega) (by omega)
              refine lv_iload_n hx hb dX10_cite_111 rfl (lv_at hl 4 rfl) ?_
              refine va_iast hx hb hK hP hD hS 4 0 rfl rfl (vp_in_iff.mpr ⟨by omega, by omega⟩) dX10_cite_112 (fun H locs hP hD hS => ?_)
              obtain ⟨g23, eg23⟩ : ∃ g : Nat → Int32, g = upd g21 (x22 : Int32).toNatClampNeg i_1 := ⟨_, rfl⟩
              have hP : va_P D vwCl [(m_low, .inl (kI, 1000, .inl g_low)), (m_high, .inl (kI, 1000, .inl g_high)), (m_lines, .inl (kZ, 200, .inl g_lines)), (h0, .inr (10, [.ref m_now, .ref m_draft, .ref m_past, .int y17, .ref m_images, .ref m_kept, .ref m_tape, .int j_taped, .int j_at, .int j_start, .int j_token, .int j_value, .int j_fault, .int j_place, .int j_latest, .ref m_low, .ref m_high, .ref m_first, .ref m_second, .ref m_lines, .ref m_others, .int j_shiftFirst, .int j_shiftMany, .int j_shiftLow, .int j_shiftHigh])), (m_now, .inl (kI, 192, .inl (upd g21 (x22 : Int32).toNatClampNeg i_1))), (m_past, .inl (kI, 1920, .inl y18))] H := hP
              have hD : va_D A [(m_low, .inl (kI, 1000, .inl g_low)), (m_high, .inl (kI, 1000, .inl g_high)), (m_lines, .inl (kZ, 200, .inl g_lines)), (h0, .inr (10, [.ref m_now, .ref m_draft, .ref m_past, .int y17, .ref m_images, .ref m_kept, .ref m_tape, .int j_taped, .int j_at, .int j_start, .int j_token, .int j_value, .int j_fault, .int j_place, .int j_latest, .ref m_low, .ref m_high, .ref m_first, .ref m_second, .ref m_lines, .ref m_others, .int j_shiftFirst, .int j_shiftMany, .int j_shiftLow, .int j_shiftHigh])), (m_now, .inl (kI, 192, .inl (upd g21 (x22 : Int32).toNatClampNeg i_1))), (m_past, .inl (kI, 1920, .inl y18))] := hD
              have hK : va_K D vwCl [(kI, .int), (kZ, .boolean), (kI, .int)] s := hK
              rw [← eg23] at hP hD
              refine lv_aload_n hx hb dX10_cite_113 rfl (lv_at hl 2 rfl) ?_
              refine va_get (D := D) (ci := 10) (v := .ref m_now) (C := RX10) (T := TX10) (N := 25) hx hb hts (fun _ h => List.mem_cons_of_mem _ (List.mem_append_right _ h)) hown hK hP 3 rfl rfl 0 (by decide) (hts (.fieldLink RX10 7 "LineCitesModel" "now" "[I") (List.mem_of_getElem? (i := 15) rfl)) (fun _ h9 => h9) rfl dX10_cite_114 ?_
              refine lv_iload hx hb dX10_cite_117 (lv_at hl 0 rfl) ?_
              refine lv_iconst (v := 2) hx hb dX10_cite_119 (by decide) ?_
              refine lv_iadd hx hb dX10_cite_120 ?_
              refine lv_topi (fun x24 ex24 => ?_)
              have tx24 : x24.toInt = x20.toInt + 2 := pw_addX ex24 rfl (by decide) (by omega) (by omega)
              refine lv_iload_n hx hb dX10_cite_121 rfl (lv_at hl 5 rfl) ?_
              refine va_iast hx hb hK hP hD hS 4 0 rfl rfl (vp_in_iff.mpr ⟨by omega, by omega⟩) dX10_cite_122 (fun H locs hP hD hS => ?_)
              obtain ⟨g25, eg25⟩ : ∃ g : Nat → Int32, g = upd g23 (x24 : Int32).toNatClampNeg i_2 := ⟨_, rfl⟩
              have hP : va_P D vwCl [(m_low, .inl (kI, 1000, .inl g_low)), (m_high, .inl (kI, 1000, .inl g_high)), (m_lines, .inl (kZ, 200, .inl g_lines)), (h0, .inr (10, [.ref m_now, .ref m_draft, .ref m_past, .int y17, .ref m_images, .ref m_kept, .ref m_tape, .int j_taped, .int j_at, .int j_start, .int j_token, .int j_value, .int j_fault, .int j_place, .int j_latest, .ref m_low, .ref m_high, .ref m_first, .ref m_second, .ref m_lines, .ref m_others, .int j_shiftFirst, .int j_shiftMany, .int j_shiftLow, .int j_shiftHigh])), (m_now, .inl (kI, 192, .inl (upd g23 (x24 : Int32).toNatClampNeg i_2))), (m_past, .inl (kI, 1920, .inl y18))] H := hP
              have hD : va_D A [(m_low, .inl (kI, 1000, .inl g_low)), (m_high, .inl (kI, 1000, .inl g_high)), (m_lines, .inl (kZ, 200, .inl g_lines)), (h0, .inr (10, [.ref m_now, .ref m_draft, .ref m_past, .int y17, .ref m_images, .ref m_kept, .ref m_tape, .int j_taped, .int j_at, .int j_start, .int j_token, .int j_value, .int j_fault, .int j_place, .int j_latest, .ref m_low, .ref m_high, .ref m_first, .ref m_second, .ref m_lines, .ref m_others, .int j_shiftFirst, .int j_shiftMany, .int j_shiftLow, .int j_shiftHigh])), (m_now, .inl (kI, 192, .inl (upd g23 (x24 : Int32).toNatClampNeg i_2))), (m_past, .inl (kI, 1920, .inl y18))] := hD
              have hK : va_K D vwCl [(kI, .int), (kZ, .boolean), (kI, .int)] s := hK
              rw [← eg25] at hP hD
              refine lv_aload_n hx hb dX10_cite_123 rfl (lv_at hl 2 rfl) ?_
              refine va_get (D := D) (ci := 10) (v := .ref m_now) (C := RX10) (T := TX10) (N := 25) hx hb hts (fun _ h => List.mem_cons_of_mem _ (List.mem_append_right _ h)) hown hK hP 3 rfl rfl 0 (by decide) (hts (.fieldLink RX10 7 "LineCitesModel" "now" "[I") (List.mem_of_getElem? (i := 15) rfl)) (fun _ h9 => h9) rfl dX10_cite_124 ?_
              refine lv_iload hx hb dX10_cite_127 (lv_at hl 0 rfl) ?_
              refine lv_iconst (v := 3) hx hb dX10_cite_129 (by decide) ?_
              refine lv_iadd hx hb dX10_cite_130 ?_
              refine lv_topi (fun x26 ex26 => ?_)
              have tx26 : x26.toInt = x20.toInt + 3 := pw_addX ex26 rfl (by decide) (by omega) (by omega)
              refine lv_iload hx hb dX10_cite_131 (lv_at hl 6 rfl) ?_
              refine va_iast hx hb hK hP hD hS 4 0 rfl rfl (vp_in_iff.mpr ⟨by omega, by omega⟩) dX10_cite_133 (fun H locs hP hD hS => ?_)
              obtain ⟨g27, eg27⟩ : ∃ g : Nat → Int32, g = upd g25 (x26 : Int32).toNatClampNeg i_3 := ⟨_, rfl⟩
              have hP : va_P D vwCl [(m_low, .inl (kI, 1000, .inl g_low)), (m_high, .inl (kI, 1000, .inl g_high)), (m_lines, .inl (kZ, 200, .inl g_lines)), (h0, .inr (10, [.ref m_now, .ref m_draft, .ref m_past, .int y17, .ref m_images, .ref m_kept, .ref m_tape, .int j_taped, .int j_at, .int j_start, .int j_token, .int j_value, .int j_fault, .int j_place, .int j_latest, .ref m_low, .ref m_high, .ref m_first, .ref m_second, .ref m_lines, .ref m_others, .int j_shiftFirst, .int j_shiftMany, .int j_shiftLow, .int j_shiftHigh])), (m_now, .inl (kI, 192, .inl (upd g25 (x26 : Int32).toNatClampNeg i_3))), (m_past, .inl (kI, 1920, .inl y18))] H := hP
              have hD : va_D A [(m_low, .inl (kI, 1000, .inl g_low)), (m_high, .inl (kI, 1000, .inl g_high)), (m_lines, .inl (kZ, 200, .inl g_lines)), (h0, .inr (10, [.ref m_now, .ref m_draft, .ref m_past, .int y17, .ref m_images, .ref m_kept, .ref m_tape, .int j_taped, .int j_at, .int j_start, .int j_token, .int j_value, .int j_fault, .int j_place, .int j_latest, .ref m_low, .ref m_high, .ref m_first, .ref m_second, .ref m_lines, .ref m_others, .int j_shiftFirst, .int j_shiftMany, .int j_shiftLow, .int j_shiftHigh])), (m_now, .inl (kI, 192, .inl (upd g25 (x26 : Int32).toNatClampNeg i_3))), (m_past, .inl (kI, 1920, .inl y18))] := hD
              have hK : va_K D vwCl [(kI, .int), (kZ, .boolean), (kI, .int)] s := hK
              rw [← eg27] at hP hD
              refine lv_aload_n hx hb dX10_cite_134 rfl (lv_at hl 2 rfl) ?_
              refine va_get (D := D) (ci := 10) (v := .ref m_now) (C := RX10) (T := TX10) (N := 25) hx hb hts (fun _ h => List.mem_cons_of_mem _ (List.mem_append_right _ h)) hown hK hP 3 rfl rfl 0 (by decide) (hts (.fieldLink RX10 7 "LineCitesModel" "now" "[I") (List.mem_of_getElem? (i := 15) rfl)) (fun _ h9 => h9) rfl dX10_cite_135 ?_
              refine lv_iload hx hb dX10_cite_138 (lv_at hl 0 rfl) ?_
              refine lv_iconst (v := 4) hx hb dX10_cite_140 (by decide) ?_
              refine lv_iadd hx hb dX10_cite_141 ?_
              refine lv_topi (fun x28 ex28 => ?_)
              have tx28 : x28.toInt = x20.toInt + 4 := pw_addX ex28 rfl (by decide) (by omega) (by omega)
              refine lv_iload hx hb dX10_cite_142 (lv_at hl 7 rfl) ?_
              refine va_iast hx hb hK hP hD hS 4 0 rfl rfl (vp_in_iff.mpr ⟨by omega, by omega⟩) dX10_cite_144 (fun H locs hP hD hS => ?_)
              obtain ⟨g29, eg29⟩ : ∃ g : Nat → Int32, g = upd g27 (x28 : Int32).toNatClampNeg i_4 := ⟨_, rfl⟩
              have hP : va_P D vwCl [(m_low, .inl (kI, 1000, .inl g_low)), (m_high, .inl (kI, 1000, .inl g_high)), (m_lines, .inl (kZ, 200, .inl g_lines)), (h0, .inr (10, [.ref m_now, .ref m_draft, .ref m_past, .int y17, .ref m_images, .ref m_kept, .ref m_tape, .int j_taped, .int j_at, .int j_start, .int j_token, .int j_value, .int j_fault, .int j_place, .int j_latest, .ref m_low, .ref m_high, .ref m_first, .ref m_second, .ref m_lines, .ref m_others, .int j_shiftFirst, .int j_shiftMany, .int j_shiftLow, .int j_shiftHigh])), (m_now, .inl (kI, 192, .inl (upd g27 (x28 : Int32).toNatClampNeg i_4))), (m_past, .inl (kI, 1920, .inl y18))] H := hP
              have hD : va_D A [(m_low, .inl (kI, 1000, .inl g_low)), (m_high, .inl (kI, 1000, .inl g_high)), (m_lines, .inl (kZ, 200, .inl g_lines)), (h0, .inr (10, [.ref m_now, .ref m_draft, .ref m_past, .int y17, .ref m_images, .ref m_kept, .ref m_tape, .int j_taped, .int j_at, .int j_start, .int j_token, .int j_value, .int j_fault, .int j_place, .int j_latest, .ref m_low, .ref m_high, .ref m_first, .ref m_second, .ref m_lines, .ref m_others, .int j_shiftFirst, .int j_shiftMany, .int j_shiftLow, .int j_shiftHigh])), (m_now, .inl (kI, 192, .inl (upd g27 (x28 : Int32).toNatClampNeg i_4))), (m_past, .inl (kI, 1920, .inl y18))] := hD
              have hK : va_K D vwCl [(kI, .int), (kZ, .boolean), (kI, .int)] s := hK
              rw [← eg29] at hP hD
              have hgd := gV_ci (c := i_0.toInt.toNat) hg_now (by omega) eg21 eg23 eg25 eg27 eg29 (by omega) (by omega) (by omega) (by omega) (by omega) (by omega) (by omega)
              have hg29 := hgd.1
              have hz0 := hgd.2
              refine lv_aload_n hx hb dX10_cite_145 rfl (lv_at hl 2 rfl) ?_
              have hPc := hP.sub (ws' := [(h0, .inr (10, [.ref m_now, .ref m_draft, .ref m_past, .int y17, .ref m_images, .ref m_kept, .ref m_tape, .int j_taped, .int j_at, .int j_start, .int j_token, .int j_value, .int j_fault, .int j_place, .int j_latest, .ref m_low, .ref m_high, .ref m_first, .ref m_second, .ref m_lines, .ref m_others, .int j_shiftFirst, .int j_shiftMany, .int j_shiftLow, .int j_shiftHigh])), (m_now, .inl (kI, 192, .inl g29)), (m_low, .inl (kI, 1000, .inl g_low)), (m_high, .inl (kI, 1000, .inl g_high))]) [3, 4, 0, 1] rfl
              have hKc := hK.sub (tys' := [(kI, .int)]) [0] rfl
              have hDc := hD.sub (ws' := [(h0, .inr (10, [.ref m_now, .ref m_draft, .ref m_past, .int y17, .ref m_images, .ref m_kept, .ref m_tape, .int j_taped, .int j_at, .int j_start, .int j_token, .int j_value, .int j_fault, .int j_place, .int j_latest, .ref m_low, .ref m_high, .ref m_first, .ref m_second, .ref m_lines, .ref m_others, .int j_shiftFirst, .int j_shiftMany, .int j_shiftLow, .int j_shiftHigh])), (m_now, .inl (kI, 192, .inl g29)), (m_low, .inl (kI, 1000, .inl g_low)), (m_high, .inl (kI, 1000, .inl g_high))]) [3, 4, 0, 1] (by decide) rfl
              have hFc := va_free (wc := [(h0, .inr (10, [.ref m_now, .ref m_draft, .ref m_past, .int y17, .ref m_images, .ref m_kept, .ref m_tape, .int j_taped, .int j_at, .int j_start, .int j_token, .int j_value, .int j_fault, .int j_place, .int j_latest, .ref m_low, .ref m_high, .ref m_first, .ref m_second, .ref m_lines, .ref m_others, .int j_shiftFirst, .int j_shiftMany, .int j_shiftLow, .int j_shiftHigh])), (m_now, .inl (kI, 192, .inl g29)), (m_low, .inl (kI, 1000, .inl g_low)), (m_high, .inl (kI, 1000, .inl g_high))]) hD hS hA [3, 4, 0, 1] rfl
              refine va_callv (va_runV (As := []) (rest := []) ⟨hx, hb, hml, hown, hts⟩ (c_X10_lays l D h0 m_now m_draft m_past y17 m_images m_kept m_tape j_taped j_at j_start j_token j_value j_fault j_place j_latest m_low m_high m_first m_second m_lines m_others j_shiftFirst j_shiftMany j_shiftLow j_shiftHigh kI g29 g_low g_high H.size hg29 hg_low hg_high) (cwV 0 hts g_X10_cite_X10_lays rfl rfl rfl (by decide +kernel) ⟨Nat.le_of_ble_eq_true rfl, Nat.le_of_ble_eq_true rfl⟩) ⟨fun a U g mk q => by obtain ⟨q0, q1, qP, qK, qD⟩ := q; exact ⟨q0, q1, qP, va_K.moved (u := U) (U := U.calling g mk a) (Vm.Alike.refl U.vm) qK, qD⟩, va_recv hKc hPc (ci := 10) (q0 := 0) rfl rfl, fun U hU hW => ⟨rfl, by rw [hU], by rw [hU]; exact hPc, va_K.moved hW.alike hKc, hDc.weaken (fun _ _ _ _ => trivial)⟩⟩ rfl rfl hl.1 rfl (lv_room (Nat.le_of_ble_eq_true rfl)) dX10_cite_146 ⟨Nat.le_of_ble_eq_true rfl, Nat.le_of_ble_eq_true rfl⟩) hS (fun q _ h => hFc q h) hFc (fun u t H1 locs ht hvm hw hB hz1 hk1 hS => ?_)
              obtain ⟨y31, y32, hP1, hK1, hD1, hy31, hy32⟩ := hB
              rw [ht] at hP1
              have hK1 := va_K.moved hvm.symm hK1
              obtain ⟨hP, hD⟩ := va_join (wr := [(m_lines, .inl (kZ, 200, .inl g_lines)), (m_past, .inl (kI, 1920, .inl y18))]) (w1 := [(h0, .inr (10, [.ref m_now, .ref m_draft, .ref m_past, .int y17, .ref m_images, .ref m_kept, .ref m_tape, .int j_taped, .int j_at, .int j_start, .int j_token, .int j_value, .int j_fault, .int j_place, .int j_latest, .ref m_low, .ref m_high, .ref m_first, .ref m_second, .ref m_lines, .ref m_others, .int j_shiftFirst, .int j_shiftMany, .int j_shiftLow, .int j_shiftHigh])), (m_now, .inl (kI, 192, .inl g29)), (m_low, .inl (kI, 1000, .inl y31)), (m_high, .inl (kI, 1000, .inl y32))]) hP hD [3, 4, 0, 1] [2, 5] rfl rfl (by decide) (by decide) hk1 hFc hP1 hD1
              have hK := (hK.sub (tys' := [(kI, .int), (kZ, .boolean), (kI, .int)]) [0, 1, 2] rfl).app hK1
              generalize H1 = H at hP hS ⊢
              have hP : va_P D vwCl [(m_lines, .inl (kZ, 200, .inl g_lines)), (m_past, .inl (kI, 1920, .inl y18)), (h0, .inr (10, [.ref m_now, .ref m_draft, .ref m_past, .int y17, .ref m_images, .ref m_kept, .ref m_tape, .int j_taped, .int j_at, .int j_start, .int j_token, .int j_value, .int j_fault, .int j_place, .int j_latest, .ref m_low, .ref m_high, .ref m_first, .ref m_second, .ref m_lines, .ref m_others, .int j_shiftFirst, .int j_shiftMany, .int j_shiftLow, .int j_shiftHigh])), (m_now, .inl (kI, 192, .inl g29)), (m_low, .inl (kI, 1000, .inl y31)), (m_high, .inl (kI, 1000, .inl y32))] H := hP
              have hD : va_D A [(m_lines, .inl (kZ, 200, .inl g_lines)), (m_past, .inl (kI, 1920, .inl y18)), (h0, .inr (10, [.ref m_now, .ref m_draft, .ref m_past, .int y17, .ref m_images, .ref m_kept, .ref m_tape, .int j_taped, .int j_at, .int j_start, .int j_token, .int j_value, .int j_fault, .int j_place, .int j_latest, .ref m_low, .ref m_high, .ref m_first, .ref m_second, .ref m_lines, .ref m_others, .int j_shiftFirst, .int j_shiftMany, .int j_shiftLow, .int j_shiftHigh])), (m_now, .inl (kI, 192, .inl g29)), (m_low, .inl (kI, 1000, .inl y31)), (m_high, .inl (kI, 1000, .inl y32))] := hD
              have hK : va_K D vwCl [(kI, .int), (kZ, .boolean), (kI, .int), (kI, .int)] s := hK
              refine W.widen (k := 0) (n := 0) (Nat.le_of_ble_eq_true rfl) (Nat.le_of_ble_eq_true rfl) ?_
              refine lv_aload_n hx hb dX10_cite_149 rfl (lv_at hl 2 rfl) ?_
              refine lv_iload_n hx hb dX10_cite_150 rfl (lv_at hl 3 rfl) ?_
              refine lv_iload_n hx hb dX10_cite_151 rfl (lv_at hl 4 rfl) ?_
              refine lv_aload_n hx hb dX10_cite_152 rfl (lv_at hl 2 rfl) ?_
              refine va_get (D := D) (ci := 10) (v := .ref m_lines) (C := RX10) (T := TX10) (N := 25) hx hb hts (fun _ h => List.mem_cons_of_mem _ (List.mem_append_right _ h)) hown hK hP 2 rfl rfl 19 (by decide) (hts (.fieldLink RX10 41 "LineCitesModel" "lines" "[Z") (List.mem_of_getElem? (i := 43) rfl)) (fun _ h9 => h9) rfl dX10_cite_153 ?_
              have hPc := hP.sub (ws' := [(h0, .inr (10, [.ref m_now, .ref m_draft, .ref m_past, .int y17, .ref m_images, .ref m_kept, .ref m_tape, .int j_taped, .int j_at, .int j_start, .int j_token, .int j_value, .int j_fault, .int j_place, .int j_latest, .ref m_low, .ref m_high, .ref m_first, .ref m_second, .ref m_lines, .ref m_others, .int j_shiftFirst, .int j_shiftMany, .int j_shiftLow, .int j_shiftHigh])), (m_now, .inl (kI, 192, .inl g29)), (m_low, .inl (kI, 1000, .inl y31)), (m_high, .inl (kI, 1000, .inl y32)), (m_lines, .inl (kZ, 200, .inl g_lines))]) [2, 3, 4, 5, 0] rfl
              have hKc := hK.sub (tys' := [(kI, .int), (kZ, .boolean)]) [0, 1] rfl
              have hDc := hD.sub (ws' := [(h0, .inr (10, [.ref m_now, .ref m_draft, .ref m_past, .int y17, .ref m_images, .ref m_kept, .ref m_tape, .int j_taped, .int j_at, .int j_start, .int j_token, .int j_value, .int j_fault, .int j_place, .int j_latest, .ref m_low, .ref m_high, .ref m_first, .ref m_second, .ref m_lines, .ref m_others, .int j_shiftFirst, .int j_shiftMany, .int j_shiftLow, .int j_shiftHigh])), (m_now, .inl (kI, 192, .inl g29)), (m_low, .inl (kI, 1000, .inl y31)), (m_high, .inl (kI, 1000, .inl y32)), (m_lines, .inl (kZ, 200, .inl g_lines))]) [2, 3, 4, 5, 0] (by decide) rfl
              have hFc := va_free (wc := [(h0, .inr (10, [.ref m_now, .ref m_draft, .ref m_past, .int y17, .ref m_images, .ref m_kept, .ref m_tape, .int j_taped, .int j_at, .int j_start, .int j_token, .int j_value, .int j_fault, .int j_place, .int j_latest, .ref m_low, .ref m_high, .ref m_first, .ref m_second, .ref m_lines, .ref m_others, .int j_shiftFirst, .int j_shiftMany, .int j_shiftLow, .int j_shiftHigh])), (m_now, .inl (kI, 192, .inl g29)), (m_low, .inl (kI, 1000, .inl y31)), (m_high, .inl (kI, 1000, .inl y32)), (m_lines, .inl (kZ, 200, .inl g_lines))]) hD hS hA [2, 3, 4, 5, 0] rfl
              refine va_callv (va_runV (As := [.int i_0, .int i_1, .ref m_lines]) (rest := []) ⟨hx, hb, hml, hown, hts⟩ (c_X10_laysLines l D h0 i_0 i_1 m_lines m_now m_draft m_past y17 m_images m_kept m_tape j_taped j_at j_start j_token j_value j_fault j_place j_latest m_low m_high m_first m_second m_lines m_others j_shiftFirst j_shiftMany j_shiftLow j_shiftHigh kI g29 y31 y32 kZ g_lines H.size (by first | decide | omega) (by first | decide | omega) (by first | decide | omega) (by first | decide | omega) hg29 hy31 hy32) (cwV 3 hts g_X10_cite_X10_laysLines rfl rfl rfl (by decide +kernel) ⟨Nat.le_of_ble_eq_true rfl, Nat.le_of_ble_eq_true rfl⟩) ⟨fun a U g mk q => by obtain ⟨q0, q1, qP, qK, qD⟩ := q; exact ⟨q0, q1, qP, va_K.moved (u := U) (U := U.calling g mk a) (Vm.Alike.refl U.vm) qK, qD⟩, va_recv hKc hPc (ci := 10) (q0 := 0) rfl rfl, fun U hU hW => ⟨rfl, by rw [hU], by rw [hU]; exact hPc, va_K.moved hW.alike hKc, hDc.weaken (fun _ _ _ _ => trivial)⟩⟩ rfl rfl hl.1 rfl (lv_room (Nat.le_of_ble_eq_true rfl)) dX10_cite_156 ⟨Nat.le_of_ble_eq_true rfl, Nat.le_of_ble_eq_true rfl⟩) hS (fun q _ h => hFc q h) hFc (fun u t H1 locs ht hvm hw hB hz1 hk1 hS => ?_)
              obtain ⟨y34, hP1, hK1, hD1⟩ := hB
              rw [ht] at hP1
              have hK1 := va_K.moved hvm.symm hK1
              obtain ⟨hP, hD⟩ := va_join (wr := [(m_past, .inl (kI, 1920, .inl y18))]) (w1 := [(h0, .inr (10, [.ref m_now, .ref m_draft, .ref m_past, .int y17, .ref m_images, .ref m_kept, .ref m_tape, .int j_taped, .int j_at, .int j_start, .int j_token, .int j_value, .int j_fault, .int j_place, .int j_latest, .ref m_low, .ref m_high, .ref m_first, .ref m_second, .ref m_lines, .ref m_others, .int j_shiftFirst, .int j_shiftMany, .int j_shiftLow, .int j_shiftHigh])), (m_now, .inl (kI, 192, .inl g29)), (m_low, .inl (kI, 1000, .inl y31)), (m_high, .inl (kI, 1000, .inl y32)), (m_lines, .inl (kZ, 200, .inl y34))]) hP hD [2, 3, 4, 5, 0] [1] rfl rfl (by decide) (by decide) hk1 hFc hP1 hD1
              have hK := (hK.sub (tys' := [(kI, .int), (kZ, .boolean), (kI, .int), (kI, .int)]) [0, 1, 2, 3] rfl).app hK1
              generalize H1 = H at hP hS ⊢
              have hP : va_P D vwCl [(m_past, .inl (kI, 1920, .inl y18)), (h0, .inr (10, [.ref m_now, .ref m_draft, .ref m_past, .int y17, .ref m_images, .ref m_kept, .ref m_tape, .int j_taped, .int j_at, .int j_start, .int j_token, .int j_value, .int j_fault, .int j_place, .int j_latest, .ref m_low, .ref m_high, .ref m_first, .ref m_second, .ref m_lines, .ref m_others, .int j_shiftFirst, .int j_shiftMany, .int j_shiftLow, .int j_shiftHigh])), (m_now, .inl (kI, 192, .inl g29)), (m_low, .inl (kI, 1000, .inl y31)), (m_high, .inl (kI, 1000, .inl y32)), (m_lines, .inl (kZ, 200, .inl y34))] H := hP
              have hD : va_D A [(m_past, .inl (kI, 1920, .inl y18)), (h0, .inr (10, [.ref m_now, .ref m_draft, .ref m_past, .int y17, .ref m_images, .ref m_kept, .ref m_tape, .int j_taped, .int j_at, .int j_start, .int j_token, .int j_value, .int j_fault, .int j_place, .int j_latest, .ref m_low, .ref m_high, .ref m_first, .ref m_second, .ref m_lines, .ref m_others, .int j_shiftFirst, .int j_shiftMany, .int j_shiftLow, .int j_shiftHigh])), (m_now, .inl (kI, 192, .inl g29)), (m_low, .inl (kI, 1000, .inl y31)), (m_high, .inl (kI, 1000, .inl y32)), (m_lines, .inl (kZ, 200, .inl y34))] := hD
              have hK : va_K D vwCl [(kI, .int), (kZ, .boolean), (kI, .int), (kI, .int), (kI, .int), (kZ, .boolean)] s := hK
              refine W.widen (k := 0) (n := 0) (Nat.le_of_ble_eq_true rfl) (Nat.le_of_ble_eq_true rfl) ?_
              refine lv_aload_n hx hb dX10_cite_159 rfl (lv_at hl 2 rfl) ?_
              refine va_get (D := D) (ci := 10) (v := .ref m_lines) (C := RX10) (T := TX10) (N := 25) hx hb hts (fun _ h => List.mem_cons_of_mem _ (List.mem_append_right _ h)) hown hK hP 1 rfl rfl 19 (by decide) (hts (.fieldLink RX10 41 "LineCitesModel" "lines" "[Z") (List.mem_of_getElem? (i := 43) rfl)) (fun _ h9 => h9) rfl dX10_cite_160 ?_
              have hPc := hP.sub (ws' := [(m_lines, .inl (kZ, 200, .inl y34))]) [5] rfl
              have hKc := hK.sub (tys' := [(kZ, .boolean)]) [1] rfl
              refine va_calli (va_runS (As := [.ref m_lines]) (rest := []) ⟨hx, hb, hml, hown, hts⟩ (c_X10_manyIn__2 l D m_lines kZ y34) (cwS 1 hts g_X10_cite_X10_manyIn__2 rfl rfl rfl (by decide +kernel) ⟨Nat.le_of_ble_eq_true rfl, Nat.le_of_ble_eq_true rfl⟩) ⟨fun a U g mk q => by obtain ⟨q0, qP, qK⟩ := q; exact ⟨q0, qP, va_K.moved (u := U) (U := U.calling g mk a) (Vm.Alike.refl U.vm) qK⟩, fun U hU hW => ⟨rfl, by rw [hU]; exact hPc, va_K.moved hW.alike hKc⟩⟩ rfl rfl hl.1 rfl (lv_room (Nat.le_of_ble_eq_true rfl)) dX10_cite_163 ⟨Nat.le_of_ble_eq_true rfl, Nat.le_of_ble_eq_true rfl⟩) hS (fun _ _ h => h.elim) (fun _ h => h.elim) (fun r35 u t H1 locs ht hvm hw hB hz1 hk1 hS => ?_)
              have hP := pw_keep hP (fun q hq => hk1 q hq (fun h => h))
              generalize H1 = H at hP hS ⊢
              refine W.widen (k := 0) (n := 0) (Nat.le_of_ble_eq_true rfl) (Nat.le_of_ble_eq_true rfl) ?_
              have hP9 := hP.sub (ws' := [(h0, .inr (10, [.ref m_now, .ref m_draft, .ref m_past, .int y17, .ref m_images, .ref m_kept, .ref m_tape, .int j_taped, .int j_at, .int j_start, .int j_token, .int j_value, .int j_fault, .int j_place, .int j_latest, .ref m_low, .ref m_high, .ref m_first, .ref m_second, .ref m_lines, .ref m_others, .int j_shiftFirst, .int j_shiftMany, .int j_shiftLow, .int j_shiftHigh])), (m_now, .inl (kI, 192, .inl g29)), (m_past, .inl (kI, 1920, .inl y18)), (m_low, .inl (kI, 1000, .inl y31)), (m_high, .inl (kI, 1000, .inl y32)), (m_lines, .inl (kZ, 200, .inl y34))]) [1, 2, 0, 3, 4, 5] rfl
              have hD9 := hD.sub (ws' := [(h0, .inr (10, [.ref m_now, .ref m_draft, .ref m_past, .int y17, .ref m_images, .ref m_kept, .ref m_tape, .int j_taped, .int j_at, .int j_start, .int j_token, .int j_value, .int j_fault, .int j_place, .int j_latest, .ref m_low, .ref m_high, .ref m_first, .ref m_second, .ref m_lines, .ref m_others, .int j_shiftFirst, .int j_shiftMany, .int j_shiftLow, .int j_shiftHigh])), (m_now, .inl (kI, 192, .inl g29)), (m_past, .inl (kI, 1920, .inl y18)), (m_low, .inl (kI, 1000, .inl y31)), (m_high, .inl (kI, 1000, .inl y32)), (m_lines, .inl (kZ, 200, .inl y34))]) [1, 2, 0, 3, 4, 5] (by decide) rfl
              have hK9 := hK.sub (tys' := [(kI, .int), (kZ, .boolean)]) [0, 1] rfl
              refine W.widen (k := 0) (n := 0) (Nat.le_of_ble_eq_true rfl) (Nat.le_of_ble_eq_true rfl) ?_
              exact W.iret (v := r35) hx hb hr (fun t ht hW => ⟨⟨r35, (), rfl, trivial, y17, g29, y18, y31, y32, y34, by rw [ht]; exact hP9, va_K.moved hW.alike hK9, hD9, hg29, hy31, hy32, (by rw [hz0]; exact hN1), px0_r16, px1_r16⟩, hS.F ht⟩) hS.2.2 dX10_cite_166
            · have nc15 : i_4.toInt ≠ 0 := pw_ne c15 rfl (by decide)
              refine lv_ldc hx hb hown (hts (.constant RX10 177 (-1000001)) (List.mem_of_getElem? (i := 6) rfl)) dX10_cite_79 ?_
              have hP9 := hP.sub (ws' := [(h0, .inr (10, [.ref m_now, .ref m_draft, .ref m_past, .int j_acts, .ref m_images, .ref m_kept, .ref m_tape, .int j_taped, .int j_at, .int j_start, .int j_token, .int j_value, .int j_fault, .int j_place, .int j_latest, .ref m_low, .ref m_high, .ref m_first, .ref m_second, .ref m_lines, .ref m_others, .int j_shiftFirst, .int j_shiftMany, .int j_shiftLow, .int j_shiftHigh])), (m_now, .inl (kI, 192, .inl g_now)), (m_past, .inl (kI, 1920, .inl g_past)), (m_low, .inl (kI, 1000, .inl g_low)), (m_high, .inl (kI, 1000, .inl g_high)), (m_lines, .inl (kZ, 200, .inl g_lines))]) [0, 1, 2, 3, 4, 5] rfl
              have hD9 := hD.sub (ws' := [(h0, .inr (10, [.ref m_now, .ref m_draft, .ref m_past, .int j_acts, .ref m_images, .ref m_kept, .ref m_tape, .int j_taped, .int j_at, .int j_start, .int j_token, .int j_value, .int j_fault, .int j_place, .int j_latest, .ref m_low, .ref m_high, .ref m_first, .ref m_second, .ref m_lines, .ref m_others, .int j_shiftFirst, .int j_shiftMany, .int j_shiftLow, .int j_shiftHigh])), (m_now, .inl (kI, 192, .inl g_now)), (m_past, .inl (kI, 1920, .inl g_past)), (m_low, .inl (kI, 1000, .inl g_low)), (m_high, .inl (kI, 1000, .inl g_high)), (m_lines, .inl (kZ, 200, .inl g_lines))]) [0, 1, 2, 3, 4, 5] (by decide) rfl
              have hK9 := hK.sub (tys' := [(kI, .int), (kZ, .boolean)]) [0, 1] rfl
              refine W.widen (k := 0) (n := 0) (Nat.le_of_ble_eq_true rfl) (Nat.le_of_ble_eq_true rfl) ?_
              exact W.iret (v := (-1000001)) hx hb hr (fun t ht hW => ⟨⟨(-1000001), (), rfl, trivial, j_acts, g_now, g_past, g_low, g_high, g_lines, by rw [ht]; exact hP9, va_K.moved hW.alike hK9, hD9, hg_now, hg_low, hg_high, hN1, (by omega), hPb⟩, hS.F ht⟩) hS.2.2 dX10_cite_81
          · have nc14 : i_2.toInt = 0 := pw_eq c14 rfl (by decide)
            refine lv_iload hx hb dX10_cite_56 (lv_at hl 6 rfl) ?_
            refine lv_i2l (v := i_4.toInt64) hx hb dX10_cite_58 rfl ?_
            refine lv_iload hx hb dX10_cite_59 (lv_at hl 5 rfl) ?_
            refine lv_i2l (v := i_3.toInt64) hx hb dX10_cite_61 rfl ?_
            refine lv_ldc2 hx hb hown (hts (.constantLong RX10 59 (999)) (List.mem_of_getElem? (i := 20) rfl)) dX10_cite_62 ?_
            have hPc := hP.sub (ws' := []) [] rfl
            have hKc := hK.sub (tys' := []) [] rfl
            refine va_calli (va_runS (As := [.long i_4.toInt64, .long i_3.toInt64, .long 999]) (rest := []) ⟨hx, hb, hml, hown, hts⟩ (c_X10_in0 l D i_4.toInt64 i_3.toInt64 999) (cwS 3 hts g_X10_cite_X10_in0 rfl rfl rfl (by decide +kernel) ⟨Nat.le_of_ble_eq_true rfl, Nat.le_of_ble_eq_true rfl⟩) ⟨fun a U g mk q => by obtain ⟨q0, qP, qK⟩ := q; exact ⟨q0, qP, va_K.moved (u := U) (U := U.calling g mk a) (Vm.Alike.refl U.vm) qK⟩, fun U hU hW => ⟨rfl, by rw [hU]; exact hPc, va_K.moved hW.alike hKc⟩⟩ rfl rfl hl.1 rfl (lv_room (Nat.le_of_ble_eq_true rfl)) dX10_cite_65 ⟨Nat.le_of_ble_eq_true rfl, Nat.le_of_ble_eq_true rfl⟩) hS (fun _ _ h => h.elim) (fun _ h => h.elim) (fun r36 u t H1 locs ht hvm hw hB hz1 hk1 hS => ?_)
            have hP := pw_keep hP (fun q hq => hk1 q hq (fun h => h))
            generalize H1 = H at hP hS ⊢
            refine W.widen (k := 0) (n := 0) (Nat.le_of_ble_eq_true rfl) (Nat.le_of_ble_eq_true rfl) ?_
            have bor36 := hw.1
            have zor36 := pw_boolI bor36
            have hfr36 := hw.2
            have kl999 : (999 : Int64).toInt = 999 := by decide
            try simp only [Int32.toInt_toInt64] at hfr36
            refine lv_if_ne (tgt := 82) hx hb dX10_cite_68 (by decide) (fun c37 => ?_) (fun c37 => ?_)
            · have nc37 : r36.toInt ≠ 0 := pw_ne c37 rfl (by decide)
              refine lv_aload_n hx hb dX10_cite_82 rfl (lv_at hl 1 rfl) ?_
              have hPc := hP.sub (ws' := [(h0, .inr (10, [.ref m_now, .ref m_draft, .ref m_past, .int j_acts, .ref m_images, .ref m_kept, .ref m_tape, .int j_taped, .int j_at, .int j_start, .int j_token, .int j_value, .int j_fault, .int j_place, .int j_latest, .ref m_low, .ref m_high, .ref m_first, .ref m_second, .ref m_lines, .ref m_others, .int j_shiftFirst, .int j_shiftMany, .int j_shiftLow, .int j_shiftHigh])), (m_now, .inl (kI, 192, .inl g_now)), (m_past, .inl (kI, 1920, .inl g_past))]) [0, 1, 2] rfl
              have hKc := hK.sub (tys' := [(kI, .int)]) [0] rfl
              have hDc := hD.sub (ws' := [(h0, .inr (10, [.ref m_now, .ref m_draft, .ref m_past, .int j_acts, .ref m_images, .ref m_kept, .ref m_tape, .int j_taped, .int j_at, .int j_start, .int j_token, .int j_value, .int j_fault, .int j_place, .int j_latest, .ref m_low, .ref m_high, .ref m_first, .ref m_second, .ref m_lines, .ref m_others, .int j_shiftFirst, .int j_shiftMany, .int j_shiftLow, .int j_shiftHigh])), (m_now, .inl (kI, 192, .inl g_now)), (m_past, .inl (kI, 1920, .inl g_past))]) [0, 1, 2] (by decide) rfl
              have hFc := va_free (wc := [(h0, .inr (10, [.ref m_now, .ref m_draft, .ref m_past, .int j_acts, .ref m_images, .ref m_kept, .ref m_tape, .int j_taped, .int j_at, .int j_start, .int j_token, .int j_value, .int j_fault, .int j_place, .int j_latest, .ref m_low, .ref m_high, .ref m_first, .ref m_second, .ref m_lines, .ref m_others, .int j_shiftFirst, .int j_shiftMany, .int j_shiftLow, .int j_shiftHigh])), (m_now, .inl (kI, 192, .inl g_now)), (m_past, .inl (kI, 1920, .inl g_past))]) hD hS hA [0, 1, 2] rfl
              refine va_callv (va_runV (As := []) (rest := []) ⟨hx, hb, hml, hown, hts⟩ (c_X10_notes l D h0 m_now m_draft m_past j_acts m_images m_kept m_tape j_taped j_at j_start j_token j_value j_fault j_place j_latest m_low m_high m_first m_second m_lines m_others j_shiftFirst j_shiftMany j_shiftLow j_shiftHigh kI g_now g_past H.size hN1 (by first | decide | omega) (by first | decide | omega) hPb hg_now) (cwV 0 hts g_X10_cite_X10_notes rfl rfl rfl (by decide +kernel) ⟨Nat.le_of_ble_eq_true rfl, Nat.le_of_ble_eq_true rfl⟩) ⟨fun a U g mk q => by obtain ⟨q0, q1, qP, qK, qD⟩ := q; exact ⟨q0, q1, qP, va_K.moved (u := U) (U := U.calling g mk a) (Vm.Alike.refl U.vm) qK, qD⟩, va_recv hKc hPc (ci := 10) (q0 := 0) rfl rfl, fun U hU hW => ⟨rfl, by rw [hU], by rw [hU]; exact hPc, va_K.moved hW.alike hKc, hDc.weaken (fun _ _ _ _ => trivial)⟩⟩ rfl rfl hl.1 rfl (lv_room (Nat.le_of_ble_eq_true rfl)) dX10_cite_83 ⟨Nat.le_of_ble_eq_true rfl, Nat.le_of_ble_eq_true rfl⟩) hS (fun q _ h => hFc q h) hFc (fun u t H1 locs ht hvm hw hB hz1 hk1 hS => ?_)
              obtain ⟨y39, y40, hP1, hK1, hD1, px0_r38, px1_r38⟩ := hB
              rw [ht] at hP1
              have hK1 := va_K.moved hvm.symm hK1
              obtain ⟨hP, hD⟩ := va_join (wr := [(m_low, .inl (kI, 1000, .inl g_low)), (m_high, .inl (kI, 1000, .inl g_high)), (m_lines, .inl (kZ, 200, .inl g_lines))]) (w1 := [(h0, .inr (10, [.ref m_now, .ref m_draft, .ref m_past, .int y39, .ref m_images, .ref m_kept, .ref m_tape, .int j_taped, .int j_at, .int j_start, .int j_token, .int j_value, .int j_fault, .int j_place, .int j_latest, .ref m_low, .ref m_high, .ref m_first, .ref m_second, .ref m_lines, .ref m_others, .int j_shiftFirst, .int j_shiftMany, .int j_shiftLow, .int j_shiftHigh])), (m_now, .inl (kI, 192, .inl g_now)), (m_past, .inl (kI, 1920, .inl y40))]) hP hD [0, 1, 2] [3, 4, 5] rfl rfl (by decide) (by decide) hk1 hFc hP1 hD1
              have hK := (hK.sub (tys' := [(kI, .int), (kZ, .boolean)]) [0, 1] rfl).app hK1
              generalize H1 = H at hP hS ⊢
              have hP : va_P D vwCl [(m_low, .inl (kI, 1000, .inl g_low)), (m_high, .inl (kI, 1000, .inl g_high)), (m_lines, .inl (kZ, 200, .inl g_lines)), (h0, .inr (10, [.ref m_now, .ref m_draft, .ref m_past, .int y39, .ref m_images, .ref m_kept, .ref m_tape, .int j_taped, .int j_at, .int j_start, .int j_token, .int j_value, .int j_fault, .int j_place, .int j_latest, .ref m_low, .ref m_high, .ref m_first, .ref m_second, .ref m_lines, .ref m_others, .int j_shiftFirst, .int j_shiftMany, .int j_shiftLow, .int j_shiftHigh])), (m_now, .inl (kI, 192, .inl g_now)), (m_past, .inl (kI, 1920, .inl y40))] H := hP
              have hD : va_D A [(m_low, .inl (kI, 1000, .inl g_low)), (m_high, .inl (kI, 1000, .inl g_high)), (m_lines, .inl (kZ, 200, .inl g_lines)), (h0, .inr (10, [.ref m_now, .ref m_draft, .ref m_past, .int y39, .ref m_images, .ref m_kept, .ref m_tape, .int j_taped, .int j_at, .int j_start, .int j_token, .int j_value, .int j_fault, .int j_place, .int j_latest, .ref m_low, .ref m_high, .ref m_first, .ref m_second, .ref m_lines, .ref m_others, .int j_shiftFirst, .int j_shiftMany, .int j_shiftLow, .int j_shiftHigh])), (m_now, .inl (kI, 192, .inl g_now)), (m_past, .inl (kI, 1920, .inl y40))] := hD
              have hK : va_K D vwCl [(kI, .int), (kZ, .boolean), (kI, .int)] s := hK
              refine W.widen (k := 0) (n := 0) (Nat.le_of_ble_eq_true rfl) (Nat.le_of_ble_eq_true rfl) ?_
              refine lv_sipush (v := 128) hx hb dX10_cite_86 (by decide) ?_
              refine lv_iconst (v := 5) hx hb dX10_cite_89 (by decide) ?_
              refine lv_iload_n hx hb dX10_cite_90 rfl (lv_at hl 2 rfl) ?_
              refine lv_imul hx hb dX10_cite_91 ?_
              refine lv_topi (fun x41 ex41 => ?_)
              have tx41 : x41.toInt = 5 * i_0.toInt := pw_mulX ex41 (by decide) rfl (by omega) (by omega)
              refine lv_iadd hx hb dX10_cite_92 ?_
              refine lv_topi (fun x42 ex42 => ?_)
              have tx42 : x42.toInt = 128 + x41.toInt := pw_addX ex42 (by decide) rfl (by omega) (by omega)
              refine lv_istore (lv' := [(7, .int x42), (6, .int 1), (0, .ref h0), (1, .int i_0), (2, .int i_1), (3, .int i_2), (4, .int i_3), (5, .int i_4)]) hx hb dX10_cite_93 hl (by decide) rfl (fun ls hl => ?_)
              refine lv_aload_n hx hb dX10_cite_95 rfl (lv_at hl 2 rfl) ?_
              refine va_get (D := D) (ci := 10) (v := .ref m_now) (C := RX10) (T := TX10) (N := 25) hx hb hts (fun _ h => List.mem_cons_of_mem _ (List.mem_append_right _ h)) hown hK hP 3 rfl rfl 0 (by decide) (hts (.fieldLink RX10 7 "LineCitesModel" "now" "[I") (List.mem_of_getElem? (i := 15) rfl)) (fun _ h9 => h9) rfl dX10_cite_96 ?_
              refine lv_iload hx hb dX10_cite_99 (lv_at hl 0 rfl) ?_
              refine lv_iconst (v := 1) hx hb dX10_cite_101 (by decide) ?_
              refine va_iast hx hb hK hP hD hS 4 0 rfl rfl (vp_in_iff.mpr ⟨by omega, by omega⟩) dX10_cite_102 (fun H locs hP hD hS => ?_)
              obtain ⟨g43, eg43⟩ : ∃ g : Nat → Int32, g = upd g_now (x42 : Int32).toNatClampNeg 1 := ⟨_, rfl⟩
              have hP : va_P D vwCl [(m_low, .inl (kI, 1000, .inl g_low)), (m_high, .inl (kI, 1000, .inl g_high)), (m_lines, .inl (kZ, 200, .inl g_lines)), (h0, .inr (10, [.ref m_now, .ref m_draft, .ref m_past, .int y39, .ref m_images, .ref m_kept, .ref m_tape, .int j_taped, .int j_at, .int j_start, .int j_token, .int j_value, .int j_fault, .int j_place, .int j_latest, .ref m_low, .ref m_high, .ref m_first, .ref m_second, .ref m_lines, .ref m_others, .int j_shiftFirst, .int j_shiftMany, .int j_shiftLow, .int j_shiftHigh])), (m_now, .inl (kI, 192, .inl (upd g_now (x42 : Int32).toNatClampNeg 1))), (m_past, .inl (kI, 1920, .inl y40))] H := hP
              have hD : va_D A [(m_low, .inl (kI, 1000, .inl g_low)), (m_high, .inl (kI, 1000, .inl g_high)), (m_lines, .inl (kZ, 200, .inl g_lines)), (h0, .inr (10, [.ref m_now, .ref m_draft, .ref m_past, .int y39, .ref m_images, .ref m_kept, .ref m_tape, .int j_taped, .int j_at, .int j_start, .int j_token, .int j_value, .int j_fault, .int j_place, .int j_latest, .ref m_low, .ref m_high, .ref m_first, .ref m_second, .ref m_lines, .ref m_others, .int j_shiftFirst, .int j_shiftMany, .int j_shiftLow, .int j_shiftHigh])), (m_now, .inl (kI, 192, .inl (upd g_now (x42 : Int32).toNatClampNeg 1))), (m_past, .inl (kI, 1920, .inl y40))] := hD
              have hK : va_K D vwCl [(kI, .int), (kZ, .boolean), (kI, .int)] s := hK
              rw [← eg43] at hP hD
              refine lv_aload_n hx hb dX10_cite_103 rfl (lv_at hl 2 rfl) ?_
              refine va_get (D := D) (ci := 10) (v := .ref m_now) (C := RX10) (T := TX10) (N := 25) hx hb hts (fun _ h => List.mem_cons_of_mem _ (List.mem_append_right _ h)) hown hK hP 3 rfl rfl 0 (by decide) (hts (.fieldLink RX10 7 "LineCitesModel" "now" "[I") (List.mem_of_getElem? (i := 15) rfl)) (fun _ h9 => h9) rfl dX10_cite_104 ?_
              refine lv_iload hx hb dX10_cite_107 (lv_at hl 0 rfl) ?_
              refine lv_iconst (v := 1) hx hb dX10_cite_109 (by decide) ?_
              refine lv_iadd hx hb dX10_cite_110 ?_
              refine lv_topi (fun x44 ex44 => ?_)
              have tx44 : x44.toInt = x42.toInt + 1 := pw_addX ex44 rfl (by decide) (by omega) (by omega)
              refine lv_iload_n hx hb dX10_cite_111 rfl (lv_at hl 4 rfl) ?_
              refine va_iast hx hb hK hP hD hS 4 0 rfl rfl (vp_in_iff.mpr ⟨by omega, by omega⟩) dX10_cite_112 (fun H locs hP hD hS => ?_)
              obtain ⟨g45, eg45⟩ : ∃ g : Nat → Int32, g = upd g43 (x44 : Int32).toNatClampNeg i_1 := ⟨_, rfl⟩
              have hP : va_P D vwCl [(m_low, .inl (kI, 1000, .inl g_low)), (m_high, .inl (kI, 1000, .inl g_high)), (m_lines, .inl (kZ, 200, .inl g_lines)), (h0, .inr (10, [.ref m_now, .ref m_draft, .ref m_past, .int y39, .ref m_images, .ref m_kept, .ref m_tape, .int j_taped, .int j_at, .int j_start, .int j_token, .int j_value, .int j_fault, .int j_place, .int j_latest, .ref m_low, .ref m_high, .ref m_first, .ref m_second, .ref m_lines, .ref m_others, .int j_shiftFirst, .int j_shiftMany, .int j_shiftLow, .int j_shiftHigh])), (m_now, .inl (kI, 192, .inl (upd g43 (x44 : Int32).toNatClampNeg i_1))), (m_past, .inl (kI, 1920, .inl y40))] H := hP
              have hD : va_D A [(m_low, .inl (kI, 1000, .inl g_low)), (m_high, .inl (kI, 1000, .inl g_high)), (m_lines, .inl (kZ, 200, .inl g_lines)), (h0, .inr (10, [.ref m_now, .ref m_draft, .ref m_past, .int y39, .ref m_images, .ref m_kept, .ref m_tape, .int j_taped, .int j_at, .int j_start, .int j_token, .int j_value, .int j_fault, .int j_place, .int j_latest, .ref m_low, .ref m_high, .ref m_first, .ref m_second, .ref m_lines, .ref m_others, .int j_shiftFirst, .int j_shiftMany, .int j_shiftLow, .int j_shiftHigh])), (m_now, .inl (kI, 192, .inl (upd g43 (x44 : Int32).toNatClampNeg i_1))), (m_past, .inl (kI, 1920, .inl y40))] := hD
              have hK : va_K D vwCl [(kI, .int), (kZ, .boolean), (kI, .int)] s := hK
              rw [← eg45] at hP hD
              refine lv_aload_n hx hb dX10_cite_113 rfl (lv_at hl 2 rfl) ?_
              refine va_get (D := D) (ci := 10) (v := .ref m_now) (C := RX10) (T := TX10) (N := 25) hx hb hts (fun _ h => List.mem_cons_of_mem _ (List.mem_append_right _ h)) hown hK hP 3 rfl rfl 0 (by decide) (hts (.fieldLink RX10 7 "LineCitesModel" "now" "[I") (List.mem_of_getElem? (i := 15) rfl)) (fun _ h9 => h9) rfl dX10_cite_114 ?_
              refine lv_iload hx hb dX10_cite_117 (lv_at hl 0 rfl) ?_
              refine lv_iconst (v := 2) hx hb dX10_cite_119 (by decide) ?_
              refine lv_iadd hx hb dX10_cite_120 ?_
              refine lv_topi (fun x46 ex46 => ?_)
              have tx46 : x46.toInt = x42.toInt + 2 := pw_addX ex46 rfl (by decide) (by omega) (by omega)
              refine lv_iload_n hx hb dX10_cite_121 rfl (lv_at hl 5 rfl) ?_
              refine va_iast hx hb hK hP hD hS 4 0 rfl rfl (vp_in_iff.mpr ⟨by omega, by omega⟩) dX10_cite_122 (fun H locs hP hD hS => ?_)
              obtain ⟨g47, eg47⟩ : ∃ g : Nat → Int32, g = upd g45 (x46 : Int32).toNatClampNeg i_2 := ⟨_, rfl⟩
              have hP : va_P D vwCl [(m_low, .inl (kI, 1000, .inl g_low)), (m_high, .inl (kI, 1000, .inl g_high)), (m_lines, .inl (kZ, 200, .inl g_lines)), (h0, .inr (10, [.ref m_now, .ref m_draft, .ref m_past, .int y39, .ref m_images, .ref m_kept, .ref m_tape, .int j_taped, .int j_at, .int j_start, .int j_token, .int j_value, .int j_fault, .int j_place, .int j_latest, .ref m_low, .ref m_high, .ref m_first, .ref m_second, .ref m_lines, .ref m_others, .int j_shiftFirst, .int j_shiftMany, .int j_shiftLow, .int j_shiftHigh])), (m_now, .inl (kI, 192, .inl (upd g45 (x46 : Int32).toNatClampNeg i_2))), (m_past, .inl (kI, 1920, .inl y40))] H := hP
              have hD : va_D A [(m_low, .inl (kI, 1000, .inl g_low)), (m_high, .inl (kI, 1000, .inl g_high)), (m_lines, .inl (kZ, 200, .inl g_lines)), (h0, .inr (10, [.ref m_now, .ref m_draft, .ref m_past, .int y39, .ref m_images, .ref m_kept, .ref m_tape, .int j_taped, .int j_at, .int j_start, .int j_token, .int j_value, .int j_fault, .int j_place, .int j_latest, .ref m_low, .ref m_high, .ref m_first, .ref m_second, .ref m_lines, .ref m_others, .int j_shiftFirst, .int j_shiftMany, .int j_shiftLow, .int j_shiftHigh])), (m_now, .inl (kI, 192, .inl (upd g45 (x46 : Int32).toNatClampNeg i_2))), (m_past, .inl (kI, 1920, .inl y40))] := hD
              have hK : va_K D vwCl [(kI, .int), (kZ, .boolean), (kI, .int)] s := hK
              rw [← eg47] at hP hD
              refine lv_aload_n hx hb dX10_cite_123 rfl (lv_at hl 2 rfl) ?_
              refine va_get (D := D) (ci := 10) (v := .ref m_now) (C := RX10) (T := TX10) (N := 25) hx hb hts (fun _ h => List.mem_cons_of_mem _ (List.mem_append_right _ h)) hown hK hP 3 rfl rfl 0 (by decide) (hts (.fieldLink RX10 7 "LineCitesModel" "now" "[I") (List.mem_of_getElem? (i := 15) rfl)) (fun _ h9 => h9) rfl dX10_cite_124 ?_
              refine lv_iload hx hb dX10_cite_127 (lv_at hl 0 rfl) ?_
              refine lv_iconst (v := 3) hx hb dX10_cite_129 (by decide) ?_
              refine lv_iadd hx hb dX10_cite_130 ?_
              refine lv_topi (fun x48 ex48 => ?_)
              have tx48 : x48.toInt = x42.toInt + 3 := pw_addX ex48 rfl (by decide) (by omega) (by omega)
              refine lv_iload hx hb dX10_cite_131 (lv_at hl 6 rfl) ?_
              refine va_iast hx hb hK hP hD hS 4 0 rfl rfl (vp_in_iff.mpr ⟨by omega, by omega⟩) dX10_cite_133 (fun H locs hP hD hS => ?_)
              obtain ⟨g49, eg49⟩ : ∃ g : Nat → Int32, g = upd g47 (x48 : Int32).toNatClampNeg i_3 := ⟨_, rfl⟩
              have hP : va_P D vwCl [(m_low, .inl (kI, 1000, .inl g_low)), (m_high, .inl (kI, 1000, .inl g_high)), (m_lines, .inl (kZ, 200, .inl g_lines)), (h0, .inr (10, [.ref m_now, .ref m_draft, .ref m_past, .int y39, .ref m_images, .ref m_kept, .ref m_tape, .int j_taped, .int j_at, .int j_start, .int j_token, .int j_value, .int j_fault, .int j_place, .int j_latest, .ref m_low, .ref m_high, .ref m_first, .ref m_second, .ref m_lines, .ref m_others, .int j_shiftFirst, .int j_shiftMany, .int j_shiftLow, .int j_shiftHigh])), (m_now, .inl (kI, 192, .inl (upd g47 (x48 : Int32).toNatClampNeg i_3))), (m_past, .inl (kI, 1920, .inl y40))] H := hP
              have hD : va_D A [(m_low, .inl (kI, 1000, .inl g_low)), (m_high, .inl (kI, 1000, .inl g_high)), (m_lines, .inl (kZ, 200, .inl g_lines)), (h0, .inr (10, [.ref m_now, .ref m_draft, .ref m_past, .int y39, .ref m_images, .ref m_kept, .ref m_tape, .int j_taped, .int j_at, .int j_start, .int j_token, .int j_value, .int j_fault, .int j_place, .int j_latest, .ref m_low, .ref m_high, .ref m_first, .ref m_second, .ref m_lines, .ref m_others, .int j_shiftFirst, .int j_shiftMany, .int j_shiftLow, .int j_shiftHigh])), (m_now, .inl (kI, 192, .inl (upd g47 (x48 : Int32).toNatClampNeg i_3))), (m_past, .inl (kI, 1920, .inl y40))] := hD
              have hK : va_K D vwCl [(kI, .int), (kZ, .boolean), (kI, .int)] s := hK
              rw [← eg49] at hP hD
              refine lv_aload_n hx hb dX10_cite_134 rfl (lv_at hl 2 rfl) ?_
              refine va_get (D := D) (ci := 10) (v := .ref m_now) (C := RX10) (T := TX10) (N := 25) hx hb hts (fun _ h => List.mem_cons_of_mem _ (List.mem_append_right _ h)) hown hK hP 3 rfl rfl 0 (by decide) (hts (.fieldLink RX10 7 "LineCitesModel" "now" "[I") (List.mem_of_getElem? (i := 15) rfl)) (fun _ h9 => h9) rfl dX10_cite_135 ?_
              refine lv_iload hx hb dX10_cite_138 (lv_at hl 0 rfl) ?_
              refine lv_iconst (v := 4) hx hb dX10_cite_140 (by decide) ?_
              refine lv_iadd hx hb dX10_cite_141 ?_
              refine lv_topi (fun x50 ex50 => ?_)
              have tx50 : x50.toInt = x42.toInt + 4 := pw_addX ex50 rfl (by decide) (by omega) (by omega)
              refine lv_iload hx hb dX10_cite_142 (lv_at hl 7 rfl) ?_
              refine va_iast hx hb hK hP hD hS 4 0 rfl rfl (vp_in_iff.mpr ⟨by omega, by omega⟩) dX10_cite_144 (fun H locs hP hD hS => ?_)
              obtain ⟨g51, eg51⟩ : ∃ g : Nat → Int32, g = upd g49 (x50 : Int32).toNatClampNeg i_4 := ⟨_, rfl⟩
              have hP : va_P D vwCl [(m_low, .inl (kI, 1000, .inl g_low)), (m_high, .inl (kI, 1000, .inl g_high)), (m_lines, .inl (kZ, 200, .inl g_lines)), (h0, .inr (10, [.ref m_now, .ref m_draft, .ref m_past, .int y39, .ref m_images, .ref m_kept, .ref m_tape, .int j_taped, .int j_at, .int j_start, .int j_token, .int j_value, .int j_fault, .int j_place, .int j_latest, .ref m_low, .ref m_high, .ref m_first, .ref m_second, .ref m_lines, .ref m_others, .int j_shiftFirst, .int j_shiftMany, .int j_shiftLow, .int j_shiftHigh])), (m_now, .inl (kI, 192, .inl (upd g49 (x50 : Int32).toNatClampNeg i_4))), (m_past, .inl (kI, 1920, .inl y40))] H := hP
              have hD : va_D A [(m_low, .inl (kI, 1000, .inl g_low)), (m_high, .inl (kI, 1000, .inl g_high)), (m_lines, .inl (kZ, 200, .inl g_lines)), (h0, .inr (10, [.ref m_now, .ref m_draft, .ref m_past, .int y39, .ref m_images, .ref m_kept, .ref m_tape, .int j_taped, .int j_at, .int j_start, .int j_token, .int j_value, .int j_fault, .int j_place, .int j_latest, .ref m_low, .ref m_high, .ref m_first, .ref m_second, .ref m_lines, .ref m_others, .int j_shiftFirst, .int j_shiftMany, .int j_shiftLow, .int j_shiftHigh])), (m_now, .inl (kI, 192, .inl (upd g49 (x50 : Int32).toNatClampNeg i_4))), (m_past, .inl (kI, 1920, .inl y40))] := hD
              have hK : va_K D vwCl [(kI, .int), (kZ, .boolean), (kI, .int)] s := hK
              rw [← eg51] at hP hD
              have hgd := gV_ci (c := i_0.toInt.toNat) hg_now (by omega) eg43 eg45 eg47 eg49 eg51 (by omega) (by omega) (by omega) (by omega) (by omega) (by omega) (by omega)
              have hg51 := hgd.1
              have hz0 := hgd.2
              refine lv_aload_n hx hb dX10_cite_145 rfl (lv_at hl 2 rfl) ?_
              have hPc := hP.sub (ws' := [(h0, .inr (10, [.ref m_now, .ref m_draft, .ref m_past, .int y39, .ref m_images, .ref m_kept, .ref m_tape, .int j_taped, .int j_at, .int j_start, .int j_token, .int j_value, .int j_fault, .int j_place, .int j_latest, .ref m_low, .ref m_high, .ref m_first, .ref m_second, .ref m_lines, .ref m_others, .int j_shiftFirst, .int j_shiftMany, .int j_shiftLow, .int j_shiftHigh])), (m_now, .inl (kI, 192, .inl g51)), (m_low, .inl (kI, 1000, .inl g_low)), (m_high, .inl (kI, 1000, .inl g_high))]) [3, 4, 0, 1] rfl
              have hKc := hK.sub (tys' := [(kI, .int)]) [0] rfl
              have hDc := hD.sub (ws' := [(h0, .inr (10, [.ref m_now, .ref m_draft, .ref m_past, .int y39, .ref m_images, .ref m_kept, .ref m_tape, .int j_taped, .int j_at, .int j_start, .int j_token, .int j_value, .int j_fault, .int j_place, .int j_latest, .ref m_low, .ref m_high, .ref m_first, .ref m_second, .ref m_lines, .ref m_others, .int j_shiftFirst, .int j_shiftMany, .int j_shiftLow, .int j_shiftHigh])), (m_now, .inl (kI, 192, .inl g51)), (m_low, .inl (kI, 1000, .inl g_low)), (m_high, .inl (kI, 1000, .inl g_high))]) [3, 4, 0, 1] (by decide) rfl
              have hFc := va_free (wc := [(h0, .inr (10, [.ref m_now, .ref m_draft, .ref m_past, .int y39, .ref m_images, .ref m_kept, .ref m_tape, .int j_taped, .int j_at, .int j_start, .int j_token, .int j_value, .int j_fault, .int j_place, .int j_latest, .ref m_low, .ref m_high, .ref m_first, .ref m_second, .ref m_lines, .ref m_others, .int j_shiftFirst, .int j_shiftMany, .int j_shiftLow, .int j_shiftHigh])), (m_now, .inl (kI, 192, .inl g51)), (m_low, .inl (kI, 1000, .inl g_low)), (m_high, .inl (kI, 1000, .inl g_high))]) hD hS hA [3, 4, 0, 1] rfl
              refine va_callv (va_runV (As := []) (rest := []) ⟨hx, hb, hml, hown, hts⟩ (c_X10_lays l D h0 m_now m_draft m_past y39 m_images m_kept m_tape j_taped j_at j_start j_token j_value j_fault j_place j_latest m_low m_high m_first m_second m_lines m_others j_shiftFirst j_shiftMany j_shiftLow j_shiftHigh kI g51 g_low g_high H.size hg51 hg_low hg_high) (cwV 0 hts g_X10_cite_X10_lays rfl rfl rfl (by decide +kernel) ⟨Nat.le_of_ble_eq_true rfl, Nat.le_of_ble_eq_true rfl⟩) ⟨fun a U g mk q => by obtain ⟨q0, q1, qP, qK, qD⟩ := q; exact ⟨q0, q1, qP, va_K.moved (u := U) (U := U.calling g mk a) (Vm.Alike.refl U.vm) qK, qD⟩, va_recv hKc hPc (ci := 10) (q0 := 0) rfl rfl, fun U hU hW => ⟨rfl, by rw [hU], by rw [hU]; exact hPc, va_K.moved hW.alike hKc, hDc.weaken (fun _ _ _ _ => trivial)⟩⟩ rfl rfl hl.1 rfl (lv_room (Nat.le_of_ble_eq_true rfl)) dX10_cite_146 ⟨Nat.le_of_ble_eq_true rfl, Nat.le_of_ble_eq_true rfl⟩) hS (fun q _ h => hFc q h) hFc (fun u t H1 locs ht hvm hw hB hz1 hk1 hS => ?_)
              obtain ⟨y53, y54, hP1, hK1, hD1, hy53, hy54⟩ := hB
              rw [ht] at hP1
              have hK1 := va_K.moved hvm.symm hK1
              obtain ⟨hP, hD⟩ := va_join (wr := [(m_lines, .inl (kZ, 200, .inl g_lines)), (m_past, .inl (kI, 1920, .inl y40))]) (w1 := [(h0, .inr (10, [.ref m_now, .ref m_draft, .ref m_past, .int y39, .ref m_images, .ref m_kept, .ref m_tape, .int j_taped, .int j_at, .int j_start, .int j_token, .int j_value, .int j_fault, .int j_place, .int j_latest, .ref m_low, .ref m_high, .ref m_first, .ref m_second, .ref m_lines, .ref m_others, .int j_shiftFirst, .int j_shiftMany, .int j_shiftLow, .int j_shiftHigh])), (m_now, .inl (kI, 192, .inl g51)), (m_low, .inl (kI, 1000, .inl y53)), (m_high, .inl (kI, 1000, .inl y54))]) hP hD [3, 4, 0, 1] [2, 5] rfl rfl (by decide) (by decide) hk1 hFc hP1 hD1
              have hK := (hK.sub (tys' := [(kI, .int), (kZ, .boolean), (kI, .int)]) [0, 1, 2] rfl).app hK1
              generalize H1 = H at hP hS ⊢
              have hP : va_P D vwCl [(m_lines, .inl (kZ, 200, .inl g_lines)), (m_past, .inl (kI, 1920, .inl y40)), (h0, .inr (10, [.ref m_now, .ref m_draft, .ref m_past, .int y39, .ref m_images, .ref m_kept, .ref m_tape, .int j_taped, .int j_at, .int j_start, .int j_token, .int j_value, .int j_fault, .int j_place, .int j_latest, .ref m_low, .ref m_high, .ref m_first, .ref m_second, .ref m_lines, .ref m_others, .int j_shiftFirst, .int j_shiftMany, .int j_shiftLow, .int j_shiftHigh])), (m_now, .inl (kI, 192, .inl g51)), (m_low, .inl (kI, 1000, .inl y53)), (m_high, .inl (kI, 1000, .inl y54))] H := hP
              have hD : va_D A [(m_lines, .inl (kZ, 200, .inl g_lines)), (m_past, .inl (kI, 1920, .inl y40)), (h0, .inr (10, [.ref m_now, .ref m_draft, .ref m_past, .int y39, .ref m_images, .ref m_kept, .ref m_tape, .int j_taped, .int j_at, .int j_start, .int j_token, .int j_value, .int j_fault, .int j_place, .int j_latest, .ref m_low, .ref m_high, .ref m_first, .ref m_second, .ref m_lines, .ref m_others, .int j_shiftFirst, .int j_shiftMany, .int j_shiftLow, .int j_shiftHigh])), (m_now, .inl (kI, 192, .inl g51)), (m_low, .inl (kI, 1000, .inl y53)), (m_high, .inl (kI, 1000, .inl y54))] := hD
              have hK : va_K D vwCl [(kI, .int), (kZ, .boolean), (kI, .int), (kI, .int)] s := hK
              refine W.widen (k := 0) (n := 0) (Nat.le_of_ble_eq_true rfl) (Nat.le_of_ble_eq_true rfl) ?_
              refine lv_aload_n hx hb dX10_cite_149 rfl (lv_at hl 2 rfl) ?_
              refine lv_iload_n hx hb dX10_cite_150 rfl (lv_at hl 3 rfl) ?_
              refine lv_iload_n hx hb dX10_cite_151 rfl (lv_at hl 4 rfl) ?_
              refine lv_aload_n hx hb dX10_cite_152 rfl (lv_at hl 2 rfl) ?_
              refine va_get (D := D) (ci := 10) (v := .ref m_lines) (C := RX10) (T := TX10) (N := 25) hx hb hts (fun _ h => List.mem_cons_of_mem _ (List.mem_append_right _ h)) hown hK hP 2 rfl rfl 19 (by decide) (hts (.fieldLink RX10 41 "LineCitesModel" "lines" "[Z") (List.mem_of_getElem? (i := 43) rfl)) (fun _ h9 => h9) rfl dX10_cite_153 ?_
              have hPc := hP.sub (ws' := [(h0, .inr (10, [.ref m_now, .ref m_draft, .ref m_past, .int y39, .ref m_images, .ref m_kept, .ref m_tape, .int j_taped, .int j_at, .int j_start, .int j_token, .int j_value, .int j_fault, .int j_place, .int j_latest, .ref m_low, .ref m_high, .ref m_first, .ref m_second, .ref m_lines, .ref m_others, .int j_shiftFirst, .int j_shiftMany, .int j_shiftLow, .int j_shiftHigh])), (m_now, .inl (kI, 192, .inl g51)), (m_low, .inl (kI, 1000, .inl y53)), (m_high, .inl (kI, 1000, .inl y54)), (m_lines, .inl (kZ, 200, .inl g_lines))]) [2, 3, 4, 5, 0] rfl
              have hKc := hK.sub (tys' := [(kI, .int), (kZ, .boolean)]) [0, 1] rfl
              have hDc := hD.sub (ws' := [(h0, .inr (10, [.ref m_now, .ref m_draft, .ref m_past, .int y39, .ref m_images, .ref m_kept, .ref m_tape, .int j_taped, .int j_at, .int j_start, .int j_token, .int j_value, .int j_fault, .int j_place, .int j_latest, .ref m_low, .ref m_high, .ref m_first, .ref m_second, .ref m_lines, .ref m_others, .int j_shiftFirst, .int j_shiftMany, .int j_shiftLow, .int j_shiftHigh])), (m_now, .inl (kI, 192, .inl g51)), (m_low, .inl (kI, 1000, .inl y53)), (m_high, .inl (kI, 1000, .inl y54)), (m_lines, .inl (kZ, 200, .inl g_lines))]) [2, 3, 4, 5, 0] (by decide) rfl
              have hFc := va_free (wc := [(h0, .inr (10, [.ref m_now, .ref m_draft, .ref m_past, .int y39, .ref m_images, .ref m_kept, .ref m_tape, .int j_taped, .int j_at, .int j_start, .int j_token, .int j_value, .int j_fault, .int j_place, .int j_latest, .ref m_low, .ref m_high, .ref m_first, .ref m_second, .ref m_lines, .ref m_others, .int j_shiftFirst, .int j_shiftMany, .int j_shiftLow, .int j_shiftHigh])), (m_now, .inl (kI, 192, .inl g51)), (m_low, .inl (kI, 1000, .inl y53)), (m_high, .inl (kI, 1000, .inl y54)), (m_lines, .inl (kZ, 200, .inl g_lines))]) hD hS hA [2, 3, 4, 5, 0] rfl
              refine va_callv (va_runV (As := [.int i_0, .int i_1, .ref m_lines]) (rest := []) ⟨hx, hb, hml, hown, hts⟩ (c_X10_laysLines l D h0 i_0 i_1 m_lines m_now m_draft m_past y39 m_images m_kept m_tape j_taped j_at j_start j_token j_value j_fault j_place j_latest m_low m_high m_first m_second m_lines m_others j_shiftFirst j_shiftMany j_shiftLow j_shiftHigh kI g51 y53 y54 kZ g_lines H.size (by first | decide | omega) (by first | decide | omega) (by first | decide | omega) (by first | decide | omega) hg51 hy53 hy54) (cwV 3 hts g_X10_cite_X10_laysLines rfl rfl rfl (by decide +kernel) ⟨Nat.le_of_ble_eq_true rfl, Nat.le_of_ble_eq_true rfl⟩) ⟨fun a U g mk q => by obtain ⟨q0, q1, qP, qK, qD⟩ := q; exact ⟨q0, q1, qP, va_K.moved (u := U) (U := U.calling g mk a) (Vm.Alike.refl U.vm) qK, qD⟩, va_recv hKc hPc (ci := 10) (q0 := 0) rfl rfl, fun U hU hW => ⟨rfl, by rw [hU], by rw [hU]; exact hPc, va_K.moved hW.alike hKc, hDc.weaken (fun _ _ _ _ => trivial)⟩⟩ rfl rfl hl.1 rfl (lv_room (Nat.le_of_ble_eq_true rfl)) dX10_cite_156 ⟨Nat.le_of_ble_eq_true rfl, Nat.le_of_ble_eq_true rfl⟩) hS (fun q _ h => hFc q h) hFc (fun u t H1 locs ht hvm hw hB hz1 hk1 hS => ?_)
              obtain ⟨y56, hP1, hK1, hD1⟩ := hB
              rw [ht] at hP1
              have hK1 := va_K.moved hvm.symm hK1
              obtain ⟨hP, hD⟩ := va_join (wr := [(m_past, .inl (kI, 1920, .inl y40))]) (w1 := [(h0, .inr (10, [.ref m_now, .ref m_draft, .ref m_past, .int y39, .ref m_images, .ref m_kept, .ref m_tape, .int j_taped, .int j_at, .int j_start, .int j_token, .int j_value, .int j_fault, .int j_place, .int j_latest, .ref m_low, .ref m_high, .ref m_first, .ref m_second, .ref m_lines, .ref m_others, .int j_shiftFirst, .int j_shiftMany, .int j_shiftLow, .int j_shiftHigh])), (m_now, .inl (kI, 192, .inl g51)), (m_low, .inl (kI, 1000, .inl y53)), (m_high, .inl (kI, 1000, .inl y54)), (m_lines, .inl (kZ, 200, .inl y56))]) hP hD [2, 3, 4, 5, 0] [1] rfl rfl (by decide) (by decide) hk1 hFc hP1 hD1
              have hK := (hK.sub (tys' := [(kI, .int), (kZ, .boolean), (kI, .int), (kI, .int)]) [0, 1, 2, 3] rfl).app hK1
              generalize H1 = H at hP hS ⊢
              have hP : va_P D vwCl [(m_past, .inl (kI, 1920, .inl y40)), (h0, .inr (10, [.ref m_now, .ref m_draft, .ref m_past, .int y39, .ref m_images, .ref m_kept, .ref m_tape, .int j_taped, .int j_at, .int j_start, .int j_token, .int j_value, .int j_fault, .int j_place, .int j_latest, .ref m_low, .ref m_high, .ref m_first, .ref m_second, .ref m_lines, .ref m_others, .int j_shiftFirst, .int j_shiftMany, .int j_shiftLow, .int j_shiftHigh])), (m_now, .inl (kI, 192, .inl g51)), (m_low, .inl (kI, 1000, .inl y53)), (m_high, .inl (kI, 1000, .inl y54)), (m_lines, .inl (kZ, 200, .inl y56))] H := hP
              have hD : va_D A [(m_past, .inl (kI, 1920, .inl y40)), (h0, .inr (10, [.ref m_now, .ref m_draft, .ref m_past, .int y39, .ref m_images, .ref m_kept, .ref m_tape, .int j_taped, .int j_at, .int j_start, .int j_token, .int j_value, .int j_fault, .int j_place, .int j_latest, .ref m_low, .ref m_high, .ref m_first, .ref m_second, .ref m_lines, .ref m_others, .int j_shiftFirst, .int j_shiftMany, .int j_shiftLow, .int j_shiftHigh])), (m_now, .inl (kI, 192, .inl g51)), (m_low, .inl (kI, 1000, .inl y53)), (m_high, .inl (kI, 1000, .inl y54)), (m_lines, .inl (kZ, 200, .inl y56))] := hD
              have hK : va_K D vwCl [(kI, .int), (kZ, .boolean), (kI, .int), (kI, .int), (kI, .int), (kZ, .boolean)] s := hK
              refine W.widen (k := 0) (n := 0) (Nat.le_of_ble_eq_true rfl) (Nat.le_of_ble_eq_true rfl) ?_
              refine lv_aload_n hx hb dX10_cite_159 rfl (lv_at hl 2 rfl) ?_
              refine va_get (D := D) (ci := 10) (v := .ref m_lines) (C := RX10) (T := TX10) (N := 25) hx hb hts (fun _ h => List.mem_cons_of_mem _ (List.mem_append_right _ h)) hown hK hP 1 rfl rfl 19 (by decide) (hts (.fieldLink RX10 41 "LineCitesModel" "lines" "[Z") (List.mem_of_getElem? (i := 43) rfl)) (fun _ h9 => h9) rfl dX10_cite_160 ?_
              have hPc := hP.sub (ws' := [(m_lines, .inl (kZ, 200, .inl y56))]) [5] rfl
              have hKc := hK.sub (tys' := [(kZ, .boolean)]) [1] rfl
              refine va_calli (va_runS (As := [.ref m_lines]) (rest := []) ⟨hx, hb, hml, hown, hts⟩ (c_X10_manyIn__2 l D m_lines kZ y56) (cwS 1 hts g_X10_cite_X10_manyIn__2 rfl rfl rfl (by decide +kernel) ⟨Nat.le_of_ble_eq_true rfl, Nat.le_of_ble_eq_true rfl⟩) ⟨fun a U g mk q => by obtain ⟨q0, qP, qK⟩ := q; exact ⟨q0, qP, va_K.moved (u := U) (U := U.calling g mk a) (Vm.Alike.refl U.vm) qK⟩, fun U hU hW => ⟨rfl, by rw [hU]; exact hPc, va_K.moved hW.alike hKc⟩⟩ rfl rfl hl.1 rfl (lv_room (Nat.le_of_ble_eq_true rfl)) dX10_cite_163 ⟨Nat.le_of_ble_eq_true rfl, Nat.le_of_ble_eq_true rfl⟩) hS (fun _ _ h => h.elim) (fun _ h => h.elim) (fun r57 u t H1 locs ht hvm hw hB hz1 hk1 hS => ?_)
              have hP := pw_keep hP (fun q hq => hk1 q hq (fun h => h))
              generalize H1 = H at hP hS ⊢
              refine W.widen (k := 0) (n := 0) (Nat.le_of_ble_eq_true rfl) (Nat.le_of_ble_eq_true rfl) ?_
              have hP9 := hP.sub (ws' := [(h0, .inr (10, [.ref m_now, .ref m_draft, .ref m_past, .int y39, .ref m_images, .ref m_kept, .ref m_tape, .int j_taped, .int j_at, .int j_start, .int j_token, .int j_value, .int j_fault, .int j_place, .int j_latest, .ref m_low, .ref m_high, .ref m_first, .ref m_second, .ref m_lines, .ref m_others, .int j_shiftFirst, .int j_shiftMany, .int j_shiftLow, .int j_shiftHigh])), (m_now, .inl (kI, 192, .inl g51)), (m_past, .inl (kI, 1920, .inl y40)), (m_low, .inl (kI, 1000, .inl y53)), (m_high, .inl (kI, 1000, .inl y54)), (m_lines, .inl (kZ, 200, .inl y56))]) [1, 2, 0, 3, 4, 5] rfl
              have hD9 := hD.sub (ws' := [(h0, .inr (10, [.ref m_now, .ref m_draft, .ref m_past, .int y39, .ref m_images, .ref m_kept, .ref m_tape, .int j_taped, .int j_at, .int j_start, .int j_token, .int j_value, .int j_fault, .int j_place, .int j_latest, .ref m_low, .ref m_high, .ref m_first, .ref m_second, .ref m_lines, .ref m_others, .int j_shiftFirst, .int j_shiftMany, .int j_shiftLow, .int j_shiftHigh])), (m_now, .inl (kI, 192, .inl g51)), (m_past, .inl (kI, 1920, .inl y40)), (m_low, .inl (kI, 1000, .inl y53)), (m_high, .inl (kI, 1000, .inl y54)), (m_lines, .inl (kZ, 200, .inl y56))]) [1, 2, 0, 3, 4, 5] (by decide) rfl
              have hK9 := hK.sub (tys' := [(kI, .int), (kZ, .boolean)]) [0, 1] rfl
              refine W.widen (k := 0) (n := 0) (Nat.le_of_ble_eq_true rfl) (Nat.le_of_ble_eq_true rfl) ?_
              exact W.iret (v := r57) hx hb hr (fun t ht hW => ⟨⟨r57, (), rfl, trivial, y39, g51, y40, y53, y54, y56, by rw [ht]; exact hP9, va_K.moved hW.alike hK9, hD9, hg51, hy53, hy54, (by rw [hz0]; exact hN1), px0_r38, px1_r38⟩, hS.F ht⟩) hS.2.2 dX10_cite_166
            · have nc37 : r36.toInt = 0 := pw_eq c37 rfl (by decide)
              refine lv_goto (tgt := 79) hx hb dX10_cite_71 (by decide) ?_
              refine lv_ldc hx hb hown (hts (.constant RX10 177 (-1000001)) (List.mem_of_getElem? (i := 6) rfl)) dX10_cite_79 ?_
              have hP9 := hP.sub (ws' := [(h0, .inr (10, [.ref m_now, .ref m_draft, .ref m_past, .int j_acts, .ref m_images, .ref m_kept, .ref m_tape, .int j_taped, .int j_at, .int j_start, .int j_token, .int j_value, .int j_fault, .int j_place, .int j_latest, .ref m_low, .ref m_high, .ref m_first, .ref m_second, .ref m_lines, .ref m_others, .int j_shiftFirst, .int j_shiftMany, .int j_shiftLow, .int j_shiftHigh])), (m_now, .inl (kI, 192, .inl g_now)), (m_past, .inl (kI, 1920, .inl g_past)), (m_low, .inl (kI, 1000, .inl g_low)), (m_high, .inl (kI, 1000, .inl g_high)), (m_lines, .inl (kZ, 200, .inl g_lines))]) [0, 1, 2, 3, 4, 5] rfl
              have hD9 := hD.sub (ws' := [(h0, .inr (10, [.ref m_now, .ref m_draft, .ref m_past, .int j_acts, .ref m_images, .ref m_kept, .ref m_tape, .int j_taped, .int j_at, .int j_start, .int j_token, .int j_value, .int j_fault, .int j_place, .int j_latest, .ref m_low, .ref m_high, .ref m_first, .ref m_second, .ref m_lines, .ref m_others, .int j_shiftFirst, .int j_shiftMany, .int j_shiftLow, .int j_shiftHigh])), (m_now, .inl (kI, 192, .inl g_now)), (m_past, .inl (kI, 1920, .inl g_past)), (m_low, .inl (kI, 1000, .inl g_low)), (m_high, .inl (kI, 1000, .inl g_high)), (m_lines, .inl (kZ, 200, .inl g_lines))]) [0, 1, 2, 3, 4, 5] (by decide) rfl
              have hK9 := hK.sub (tys' := [(kI, .int), (kZ, .boolean)]) [0, 1] rfl
              refine W.widen (k := 0) (n := 0) (Nat.le_of_ble_eq_true rfl) (Nat.le_of_ble_eq_true rfl) ?_
              exact W.iret (v := (-1000001)) hx hb hr (fun t ht hW => ⟨⟨(-1000001), (), rfl, trivial, j_acts, g_now, g_past, g_low, g_high, g_lines, by rw [ht]; exact hP9, va_K.moved hW.alike hK9, hD9, hg_now, hg_low, hg_high, hN1, (by omega), hPb⟩, hS.F ht⟩) hS.2.2 dX10_cite_81
