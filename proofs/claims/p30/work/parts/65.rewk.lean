theorem dX10_work_0 : decode cX10_work 0 = .ok (.iconst 0, 1) := by decide +kernel
theorem dX10_work_1 : decode cX10_work 1 = .ok (.istore_n 1, 1) := by decide +kernel
theorem dX10_work_2 : decode cX10_work 2 = .ok (.iload_n 1, 1) := by decide +kernel
theorem dX10_work_3 : decode cX10_work 3 = .ok (.sipush 192, 3) := by decide +kernel
theorem dX10_work_6 : decode cX10_work 6 = .ok (.if_icmp .ge 16, 3) := by decide +kernel
theorem dX10_work_9 : decode cX10_work 9 = .ok (.aload_n 0, 1) := by decide +kernel
theorem dX10_work_10 : decode cX10_work 10 = .ok (.getfield 13, 3) := by decide +kernel
theorem dX10_work_13 : decode cX10_work 13 = .ok (.iload_n 1, 1) := by decide +kernel
theorem dX10_work_14 : decode cX10_work 14 = .ok (.iconst 0, 1) := by decide +kernel
theorem dX10_work_15 : decode cX10_work 15 = .ok (.iastore, 1) := by decide +kernel
theorem dX10_work_16 : decode cX10_work 16 = .ok (.iinc 1 1, 3) := by decide +kernel
theorem dX10_work_19 : decode cX10_work 19 = .ok (.goto (-17), 3) := by decide +kernel
theorem dX10_work_22 : decode cX10_work 22 = .ok (.aload_n 0, 1) := by decide +kernel
theorem dX10_work_23 : decode cX10_work 23 = .ok (.iconst 0, 1) := by decide +kernel
theorem dX10_work_24 : decode cX10_work 24 = .ok (.putfield 99, 3) := by decide +kernel
theorem dX10_work_27 : decode cX10_work 27 = .ok (.aload_n 0, 1) := by decide +kernel
theorem dX10_work_28 : decode cX10_work 28 = .ok (.iconst 0, 1) := by decide +kernel
theorem dX10_work_29 : decode cX10_work 29 = .ok (.putfield 123, 3) := by decide +kernel
theorem dX10_work_32 : decode cX10_work 32 = .ok (.aload_n 0, 1) := by decide +kernel
theorem dX10_work_33 : decode cX10_work 33 = .ok (.invokevirtual 129, 3) := by decide +kernel
theorem dX10_work_36 : decode cX10_work 36 = .ok (.aload_n 0, 1) := by decide +kernel
theorem dX10_work_37 : decode cX10_work 37 = .ok (.bipush 119, 2) := by decide +kernel
theorem dX10_work_39 : decode cX10_work 39 = .ok (.invokevirtual 142, 3) := by decide +kernel
theorem dX10_work_42 : decode cX10_work 42 = .ok (.ifCond .ne 8, 3) := by decide +kernel
theorem dX10_work_45 : decode cX10_work 45 = .ok (.aload_n 0, 1) := by decide +kernel
theorem dX10_work_46 : decode cX10_work 46 = .ok (.iconst 1, 1) := by decide +kernel
theorem dX10_work_47 : decode cX10_work 47 = .ok (.invokevirtual 132, 3) := by decide +kernel
theorem dX10_work_50 : decode cX10_work 50 = .ok (.aload_n 0, 1) := by decide +kernel
theorem dX10_work_51 : decode cX10_work 51 = .ok (.invokevirtual 136, 3) := by decide +kernel
theorem dX10_work_54 : decode cX10_work 54 = .ok (.aload_n 0, 1) := by decide +kernel
theorem dX10_work_55 : decode cX10_work 55 = .ok (.getfield 13, 3) := by decide +kernel
theorem dX10_work_58 : decode cX10_work 58 = .ok (.iconst 0, 1) := by decide +kernel
theorem dX10_work_59 : decode cX10_work 59 = .ok (.aload_n 0, 1) := by decide +kernel
theorem dX10_work_60 : decode cX10_work 60 = .ok (.aload_n 0, 1) := by decide +kernel
theorem dX10_work_61 : decode cX10_work 61 = .ok (.getfield 109, 3) := by decide +kernel
theorem dX10_work_64 : decode cX10_work 64 = .ok (.i2l, 1) := by decide +kernel
theorem dX10_work_65 : decode cX10_work 65 = .ok (.lconst 1, 1) := by decide +kernel
theorem dX10_work_66 : decode cX10_work 66 = .ok (.ldc2_w 182, 3) := by decide +kernel
theorem dX10_work_69 : decode cX10_work 69 = .ok (.invokestatic 51, 3) := by decide +kernel
theorem dX10_work_72 : decode cX10_work 72 = .ok (.bipush 59, 2) := by decide +kernel
theorem dX10_work_74 : decode cX10_work 74 = .ok (.invokevirtual 160, 3) := by decide +kernel
theorem dX10_work_77 : decode cX10_work 77 = .ok (.iastore, 1) := by decide +kernel
theorem dX10_work_78 : decode cX10_work 78 = .ok (.aload_n 0, 1) := by decide +kernel
theorem dX10_work_79 : decode cX10_work 79 = .ok (.bipush 101, 2) := by decide +kernel
theorem dX10_work_81 : decode cX10_work 81 = .ok (.invokevirtual 142, 3) := by decide +kernel
theorem dX10_work_84 : decode cX10_work 84 = .ok (.ifCond .eq 10, 3) := by decide +kernel
theorem dX10_work_87 : decode cX10_work 87 = .ok (.aload_n 0, 1) := by decide +kernel
theorem dX10_work_88 : decode cX10_work 88 = .ok (.invokevirtual 184, 3) := by decide +kernel
theorem dX10_work_91 : decode cX10_work 91 = .ok (.goto (-13), 3) := by decide +kernel
theorem dX10_work_94 : decode cX10_work 94 = .ok (.aload_n 0, 1) := by decide +kernel
theorem dX10_work_95 : decode cX10_work 95 = .ok (.getfield 120, 3) := by decide +kernel
theorem dX10_work_98 : decode cX10_work 98 = .ok (.ifCond .eq 8, 3) := by decide +kernel
theorem dX10_work_101 : decode cX10_work 101 = .ok (.aload_n 0, 1) := by decide +kernel
theorem dX10_work_102 : decode cX10_work 102 = .ok (.iconst 1, 1) := by decide +kernel
theorem dX10_work_103 : decode cX10_work 103 = .ok (.invokevirtual 132, 3) := by decide +kernel
theorem dX10_work_106 : decode cX10_work 106 = .ok (.aload_n 0, 1) := by decide +kernel
theorem dX10_work_107 : decode cX10_work 107 = .ok (.iconst 0, 1) := by decide +kernel
theorem dX10_work_108 : decode cX10_work 108 = .ok (.putfield 95, 3) := by decide +kernel
theorem dX10_work_111 : decode cX10_work 111 = .ok (.aload_n 0, 1) := by decide +kernel
theorem dX10_work_112 : decode cX10_work 112 = .ok (.getfield 123, 3) := by decide +kernel
theorem dX10_work_115 : decode cX10_work 115 = .ok (.ifCond .le 19, 3) := by decide +kernel
theorem dX10_work_118 : decode cX10_work 118 = .ok (.aload_n 0, 1) := by decide +kernel
theorem dX10_work_119 : decode cX10_work 119 = .ok (.aload_n 0, 1) := by decide +kernel
theorem dX10_work_120 : decode cX10_work 120 = .ok (.getfield 123, 3) := by decide +kernel
theorem dX10_work_123 : decode cX10_work 123 = .ok (.putfield 187, 3) := by decide +kernel
theorem dX10_work_126 : decode cX10_work 126 = .ok (.ldc 190, 2) := by decide +kernel
theorem dX10_work_128 : decode cX10_work 128 = .ok (.aload_n 0, 1) := by decide +kernel
theorem dX10_work_129 : decode cX10_work 129 = .ok (.getfield 126, 3) := by decide +kernel
theorem dX10_work_132 : decode cX10_work 132 = .ok (.isub, 1) := by decide +kernel
theorem dX10_work_133 : decode cX10_work 133 = .ok (.ireturn, 1) := by decide +kernel
theorem dX10_work_134 : decode cX10_work 134 = .ok (.aload_n 0, 1) := by decide +kernel
theorem dX10_work_135 : decode cX10_work 135 = .ok (.getfield 13, 3) := by decide +kernel
theorem dX10_work_138 : decode cX10_work 138 = .ok (.iconst 0, 1) := by decide +kernel
theorem dX10_work_139 : decode cX10_work 139 = .ok (.aload_n 0, 1) := by decide +kernel
theorem dX10_work_140 : decode cX10_work 140 = .ok (.getfield 7, 3) := by decide +kernel
theorem dX10_work_143 : decode cX10_work 143 = .ok (.iconst 0, 1) := by decide +kernel
theorem dX10_work_144 : decode cX10_work 144 = .ok (.invokestatic 191, 3) := by decide +kernel
theorem dX10_work_147 : decode cX10_work 147 = .ok (.aload_n 0, 1) := by decide +kernel
theorem dX10_work_148 : decode cX10_work 148 = .ok (.iconst 0, 1) := by decide +kernel
theorem dX10_work_149 : decode cX10_work 149 = .ok (.putfield 195, 3) := by decide +kernel
theorem dX10_work_152 : decode cX10_work 152 = .ok (.aload_n 0, 1) := by decide +kernel
theorem dX10_work_153 : decode cX10_work 153 = .ok (.getfield 7, 3) := by decide +kernel
theorem dX10_work_156 : decode cX10_work 156 = .ok (.iconst 1, 1) := by decide +kernel
theorem dX10_work_157 : decode cX10_work 157 = .ok (.iaload, 1) := by decide +kernel
theorem dX10_work_158 : decode cX10_work 158 = .ok (.ireturn, 1) := by decide +kernel
def w_X10_work : List Cond := .code yX10_work cX10_work 2 (some .int) :: ([.fieldLink RX10 13 "LineCitesModel" "draft" "[I", .fieldLink RX10 99 "LineCitesModel" "at" "I", .fieldLink RX10 123 "LineCitesModel" "fault" "I", .methodLink RX10 129 yX10_reads, .instanceMethod yX10_reads, .selects RX10 yX10_reads yX10_reads, .initialized RX10, .code yX10_reads cX10_reads 2 none, .fieldLink RX10 102 "LineCitesModel" "start" "I", .methodLink RX10 105 yX10_byteAt, .instanceMethod yX10_byteAt, .selects RX10 yX10_byteAt yX10_byteAt, .code yX10_byteAt cX10_byteAt 2 (some .int), .fieldLink RX10 95 "LineCitesModel" "taped" "I", .fieldLink RX10 26 "LineCitesModel" "tape" "[I", .fieldLink RX10 109 "LineCitesModel" "value" "I", .constantLong RX10 112 (97), .constantLong RX10 114 (122), .methodLink RX10 51 yX10_in0, .static yX10_in0, .code yX10_in0 cX10_in0 6 (some .boolean), .constantLong RX10 116 (48), .constantLong RX10 118 (57), .fieldLink RX10 120 "LineCitesModel" "token" "I", .methodLink RX10 142 yX10_isLetter, .instanceMethod yX10_isLetter, .selects RX10 yX10_isLetter yX10_isLetter, .code yX10_isLetter cX10_isLetter 2 (some .boolean), .methodLink RX10 136 yX10_goesOn, .instanceMethod yX10_goesOn, .selects RX10 yX10_goesOn yX10_goesOn, .code yX10_goesOn cX10_goesOn 1 none, .constantLong RX10 182 (200), .methodLink RX10 160 yX10_number, .instanceMethod yX10_number, .selects RX10 yX10_number yX10_number, .code yX10_number cX10_number 4 (some .int), .methodLink RX10 139 yX10_sign, .instanceMethod yX10_sign, .selects RX10 yX10_sign yX10_sign, .code yX10_sign cX10_sign 2 none, .methodLink RX10 132 yX10_bad, .instanceMethod yX10_bad, .selects RX10 yX10_bad yX10_bad, .code yX10_bad cX10_bad 2 none, .fieldLink RX10 126 "LineCitesModel" "place" "I", .fieldLink RX10 7 "LineCitesModel" "now" "[I", .methodLink RX10 191 yX10_copies, .static yX10_copies, .code yX10_copies cX10_copies 5 none, .fieldLink RX10 195 "LineCitesModel" "acts" "I", .fieldLink RX10 187 "LineCitesModel" "latest" "I", .constant RX10 190 (-1000100), .methodLink RX10 184 yX10_readsEdition, .instanceMethod yX10_readsEdition, .selects RX10 yX10_readsEdition yX10_readsEdition, .code yX10_readsEdition cX10_readsEdition 2 none, .methodLink RX10 152 yX10_sort, .instanceMethod yX10_sort, .selects RX10 yX10_sort yX10_sort, .code yX10_sort cX10_sort 1 (some .int), .constant RX10 61 (-1000000), .methodLink RX10 179 yX10_readsStretch, .instanceMethod yX10_readsStretch, .selects RX10 yX10_readsStretch yX10_readsStretch, .code yX10_readsStretch cX10_readsStretch 7 none, .methodLink RX10 156 yX10_isFrom, .static yX10_isFrom, .code yX10_isFrom cX10_isFrom 4 (some .boolean), .methodLink RX10 66 yX10_stretchOf, .static yX10_stretchOf, .code yX10_stretchOf cX10_stretchOf 7 (some .int), .methodLink RX10 62 yX10_of, .static yX10_of, .code yX10_of cX10_of 4 (some .int), .methodLink RX10 164 yX10_isMany, .static yX10_isMany, .code yX10_isMany cX10_isMany 7 (some .boolean), .methodLink RX10 168 yX10_isFirst, .static yX10_isFirst, .code yX10_isFirst cX10_isFirst 3 (some .boolean), .methodLink RX10 145 yX10_isNumber, .static yX10_isNumber, .code yX10_isNumber cX10_isNumber 1 (some .boolean), .constantLong RX10 59 (999), .methodLink RX10 148 yX10_greatest, .static yX10_greatest, .code yX10_greatest cX10_greatest 3 (some .int), .methodLink RX10 171 yX10_puts, .static yX10_puts, .code yX10_puts cX10_puts 7 none] ++ wsX100)
set_option maxRecDepth 20000 in
theorem g_X10_work_X10_reads : GoodIn w_X10_work (wsV RX10 129 RX10 yX10_reads w_X10_reads) := goodIn_r _ [4, 5, 6, 7, 8, 2, 9, 10, 11, 12, 7, 13, 14, 15, 16, 17, 18, 19, 20, 21, 22, 23, 24, 92, 93, 94, 95, 96, 97, 98, 99, 100, 101, 102, 103, 104, 105, 106, 107, 108, 109, 110, 111, 112, 113, 114, 115, 116] rfl (by decide +kernel)
set_option maxRecDepth 20000 in
theorem g_X10_work_X10_isLetter : GoodIn w_X10_work (wsV RX10 142 RX10 yX10_isLetter w_X10_isLetter) := goodIn_r _ [25, 26, 27, 7, 28, 3, 24, 16, 92, 93, 94, 95, 96, 97, 98, 99, 100, 101, 102, 103, 104, 105, 106, 107, 108, 109, 110, 111, 112, 113, 114, 115, 116] rfl (by decide +kernel)
set_option maxRecDepth 20000 in
theorem g_X10_work_X10_goesOn : GoodIn w_X10_work (wsV RX10 136 RX10 yX10_goesOn w_X10_goesOn) := goodIn_r _ [29, 30, 31, 7, 32, 3, 4, 5, 6, 7, 8, 2, 9, 10, 11, 12, 13, 14, 15, 16, 17, 18, 19, 20, 21, 22, 23, 24, 92, 93, 94, 95, 96, 97, 98, 99, 100, 101, 102, 103, 104, 105, 106, 107, 108, 109, 110, 111, 112, 113, 114, 115, 116] rfl (by decide +kernel)
set_option maxRecDepth 20000 in
theorem g_X10_work_X10_in0 : GoodIn w_X10_work (wsS RX10 51 yX10_in0 w_X10_in0) := goodIn_r _ [19, 20, 7, 21] rfl (by decide +kernel)
set_option maxRecDepth 20000 in
theorem g_X10_work_X10_number : GoodIn w_X10_work (wsV RX10 160 RX10 yX10_number w_X10_number) := goodIn_r _ [34, 35, 36, 7, 37, 24, 3, 29, 30, 31, 7, 32, 4, 5, 6, 8, 2, 9, 10, 11, 12, 13, 14, 15, 16, 17, 18, 19, 20, 21, 22, 23, 38, 39, 40, 41, 42, 43, 44, 45, 46, 92, 93, 94, 95, 96, 97, 98, 99, 100, 101, 102, 103, 104, 105, 106, 107, 108, 109, 110, 111, 112, 113, 114, 115, 116] rfl (by decide +kernel)
set_option maxRecDepth 20000 in
theorem g_X10_work_X10_copies : GoodIn w_X10_work (wsS RX10 191 yX10_copies w_X10_copies) := goodIn_r _ [48, 49, 7, 50] rfl (by decide +kernel)
set_option maxRecDepth 20000 in
theorem g_X10_work_X10_bad : GoodIn w_X10_work (wsV RX10 132 RX10 yX10_bad w_X10_bad) := goodIn_r _ [42, 43, 44, 7, 45, 3, 9, 46, 92, 93, 94, 95, 96, 97, 98, 99, 100, 101, 102, 103, 104, 105, 106, 107, 108, 109, 110, 111, 112, 113, 114, 115, 116] rfl (by decide +kernel)
set_option maxRecDepth 20000 in
theorem g_X10_work_X10_readsEdition : GoodIn w_X10_work (wsV RX10 184 RX10 yX10_readsEdition w_X10_readsEdition) := goodIn_r _ [54, 55, 56, 7, 57, 1, 29, 30, 31, 7, 32, 3, 4, 5, 6, 8, 2, 9, 10, 11, 12, 13, 14, 15, 16, 17, 18, 19, 20, 21, 22, 23, 24, 58, 59, 60, 61, 25, 26, 27, 28, 62, 63, 64, 65, 66, 67, 68, 69, 70, 71, 72, 73, 74, 75, 34, 35, 36, 37, 38, 39, 40, 41, 42, 43, 44, 45, 46, 76, 77, 78, 79, 80, 81, 82, 83, 84, 85, 86, 87, 88, 89, 90, 91, 92, 93, 94, 95, 96, 97, 98, 99, 100, 101, 102, 103, 104, 105, 106, 107, 108, 109, 110, 111, 112, 113, 114, 115, 116] rfl (by decide +kernel)
set_option maxHeartbeats 4000000 in
set_option maxRecDepth 100000 in
theorem c_X10_work (l : Launch) (D : va_G) (h0 : Nat) (m_now : Nat) (m_draft : Nat) (m_past : Nat) (j_acts : Int32) (m_images : Nat) (m_kept : Nat) (m_tape : Nat) (j_taped : Int32) (j_at : Int32) (j_start : Int32) (j_token : Int32) (j_value : Int32) (j_fault : Int32) (j_place : Int32) (j_latest : Int32) (m_low : Nat) (m_high : Nat) (m_first : Nat) (m_second : Nat) (m_lines : Nat) (m_others : Nat) (j_shiftFirst : Int32) (j_shiftMany : Int32) (j_shiftLow : Int32) (j_shiftHigh : Int32) (kI : ClassId) (g_tape : Nat → Int32) (g_draft : Nat → Int32) (g_now : Nat → Int32) (sz : Nat) (h0j_taped : 0 ≤ j_taped.toInt) (h1j_taped : j_taped.toInt ≤ 200) (hg_tape : bT g_tape) : Met l yX10_work w_X10_work ({ frames := 7, cells := 0, slots := 0, locals := 157 }) (va_Pc [.ref h0] (fun U => U.heap.size = sz ∧ va_P D vwCl [(h0, .inr (10, [.ref m_now, .ref m_draft, .ref m_past, .int j_acts, .ref m_images, .ref m_kept, .ref m_tape, .int j_taped, .int j_at, .int j_start, .int j_token, .int j_value, .int j_fault, .int j_place, .int j_latest, .ref m_low, .ref m_high, .ref m_first, .ref m_second, .ref m_lines, .ref m_others, .int j_shiftFirst, .int j_shiftMany, .int j_shiftLow, .int j_shiftHigh])), (m_tape, .inl (kI, 200, .inl g_tape)), (m_draft, .inl (kI, 192, .inl g_draft)), (m_now, .inl (kI, 192, .inl g_now))] U.heap ∧ va_K D vwCl [(kI, .int)] U ∧ va_D (fun _ => True) [(h0, .inr (10, [.ref m_now, .ref m_draft, .ref m_past, .int j_acts, .ref m_images, .ref m_kept, .ref m_tape, .int j_taped, .int j_at, .int j_start, .int j_token, .int j_value, .int j_fault, .int j_place, .int j_latest, .ref m_low, .ref m_high, .ref m_first, .ref m_second, .ref m_lines, .ref m_others, .int j_shiftFirst, .int j_shiftMany, .int j_shiftLow, .int j_shiftHigh])), (m_tape, .inl (kI, 200, .inl g_tape)), (m_draft, .inl (kI, 192, .inl g_draft)), (m_now, .inl (kI, 192, .inl g_now))])) (va_Qi (fun (r : Int32) (_ : Unit) => True) (fun (_ : Unit) t => ∃ (n_start : Int32) (n_at : Int32) (n_token : Int32) (n_value : Int32) (n_fault : Int32) (n_place : Int32) (n_latest : Int32) (n_acts : Int32) (n_draft : Nat → Int32) (n_now : Nat → Int32), va_P D vwCl [(h0, .inr (10, [.ref m_now, .ref m_draft, .ref m_past, .int n_acts, .ref m_images, .ref m_kept, .ref m_tape, .int 0, .int n_at, .int n_start, .int n_token, .int n_value, .int n_fault, .int n_place, .int n_latest, .ref m_low, .ref m_high, .ref m_first, .ref m_second, .ref m_lines, .ref m_others, .int j_shiftFirst, .int j_shiftMany, .int j_shiftLow, .int j_shiftHigh])), (m_tape, .inl (kI, 200, .inl g_tape)), (m_draft, .inl (kI, 192, .inl n_draft)), (m_now, .inl (kI, 192, .inl n_now))] t.heap ∧ va_K D vwCl [(kI, .int)] t ∧ va_D (va_A [(h0, .inr (10, [.ref m_now, .ref m_draft, .ref m_past, .int j_acts, .ref m_images, .ref m_kept, .ref m_tape, .int j_taped, .int j_at, .int j_start, .int j_token, .int j_value, .int j_fault, .int j_place, .int j_latest, .ref m_low, .ref m_high, .ref m_first, .ref m_second, .ref m_lines, .ref m_others, .int j_shiftFirst, .int j_shiftMany, .int j_shiftLow, .int j_shiftHigh])), (m_tape, .inl (kI, 200, .inl g_tape)), (m_draft, .inl (kI, 192, .inl g_draft)), (m_now, .inl (kI, 192, .inl g_now))] sz) [(h0, .inr (10, [.ref m_now, .ref m_draft, .ref m_past, .int n_acts, .ref m_images, .ref m_kept, .ref m_tape, .int 0, .int n_at, .int n_start, .int n_token, .int n_value, .int n_fault, .int n_place, .int n_latest, .ref m_low, .ref m_high, .ref m_first, .ref m_second, .ref m_lines, .ref m_others, .int j_shiftFirst, .int j_shiftMany, .int j_shiftLow, .int j_shiftHigh])), (m_tape, .inl (kI, 200, .inl g_tape)), (m_draft, .inl (kI, 192, .inl n_draft)), (m_now, .inl (kI, 192, .inl n_now))] ∧ wkM (uWork (tR g_tape) j_taped.toInt.toNat) g_now j_acts n_now n_acts) (va_A [(h0, .inr (10, [.ref m_now, .ref m_draft, .ref m_past, .int j_acts, .ref m_images, .ref m_kept, .ref m_tape, .int j_taped, .int j_at, .int j_start, .int j_token, .int j_value, .int j_fault, .int j_place, .int j_latest, .ref m_low, .ref m_high, .ref m_first, .ref m_second, .ref m_lines, .ref m_others, .int j_shiftFirst, .int j_shiftMany, .int j_shiftLow, .int j_shiftHigh])), (m_tape, .inl (kI, 200, .inl g_tape)), (m_draft, .inl (kI, 192, .inl g_draft)), (m_now, .inl (kI, 192, .inl g_now))] sz)) 0 0 (va_A [(h0, .inr (10, [.ref m_now, .ref m_draft, .ref m_past, .int j_acts, .ref m_images, .ref m_kept, .ref m_tape, .int j_taped, .int j_at, .int j_start, .int j_token, .int j_value, .int j_fault, .int j_place, .int j_latest, .ref m_low, .ref m_high, .ref m_first, .ref m_second, .ref m_lines, .ref m_others, .int j_shiftFirst, .int j_shiftMany, .int j_shiftLow, .int j_shiftHigh])), (m_tape, .inl (kI, 200, .inl g_tape)), (m_draft, .inl (kI, 192, .inl g_draft)), (m_now, .inl (kI, 192, .inl g_now))] sz) := by
  refine Met.ofW (cc := cX10_work) (maxL := 2) (ret := (some .int)) (by decide) rfl ?_
  intro p e s m args below meth c s₁ B hml hv
  obtain ⟨rfl, hsz, hP, hK, hD0⟩ := hv
  have hx := B.exec
  have hb := B.bytes
  have hr := B.returns
  have hts := atoms_spec (ws := w_X10_work) B.pre
  have hown : s.vm.findClass RX10 = some m.cls := findClass_of_methodNamed B.named
  have hlocks := B.notSynchronized
  subst hsz
  have hD := hD0.self (sz := s.heap.size)
  generalize hAe : va_A [(h0, .inr (10, [.ref m_now, .ref m_draft, .ref m_past, .int j_acts, .ref m_images, .ref m_kept, .ref m_tape, .int j_taped, .int j_at, .int j_start, .int j_token, .int j_value, .int j_fault, .int j_place, .int j_latest, .ref m_low, .ref m_high, .ref m_first, .ref m_second, .ref m_lines, .ref m_others, .int j_shiftFirst, .int j_shiftMany, .int j_shiftLow, .int j_shiftHigh])), (m_tape, .inl (kI, 200, .inl g_tape)), (m_draft, .inl (kI, 192, .inl g_draft)), (m_now, .inl (kI, 192, .inl g_now))] s.heap.size = A at hD ⊢
  have hA : ∀ q : Nat, s.heap.size ≤ q → A q := fun q h => by rw [← hAe]; exact Or.inr h
  have hS : va_S A s.heap s.heap [] := va_S.rf
  have hP : va_P D vwCl [(h0, .inr (10, [.ref m_now, .ref m_draft, .ref m_past, .int j_acts, .ref m_images, .ref m_kept, .ref m_tape, .int j_taped, .int j_at, .int j_start, .int j_token, .int j_value, .int j_fault, .int j_place, .int j_latest, .ref m_low, .ref m_high, .ref m_first, .ref m_second, .ref m_lines, .ref m_others, .int j_shiftFirst, .int j_shiftMany, .int j_shiftLow, .int j_shiftHigh])), (m_tape, .inl (kI, 200, .inl g_tape)), (m_draft, .inl (kI, 192, .inl g_draft)), (m_now, .inl (kI, 192, .inl g_now))] s.heap := hP
  have hl := lv_entry ([.ref h0]) (n := 2) (Nat.le_of_ble_eq_true rfl)
  rw [lg_entry_eq]
  generalize (lg_sl ([.ref h0]) ++ List.replicate (2 - (lg_sl ([.ref h0])).length) Slot.unset).toArray = ls at hl ⊢
  have hl : lv_has ls 2 [(0, .ref h0)] := hl
  obtain ⟨H, hHe⟩ : ∃ H : Heap, H = s.heap := ⟨_, rfl⟩
  rw [← hHe] at hP
  have hS : va_S A s.heap H [] := by rw [hHe]; exact hS
  refine pw_heap hHe ?_
  refine lv_iconst (v := 0) hx hb dX10_work_0 (by decide) ?_
  refine lv_istore_n (lv' := [(1, .int 0), (0, .ref h0)]) hx hb dX10_work_1 rfl hl (by decide) rfl (fun ls hl => ?_)
  have hl9 : lv_has ls 2 [(0, .ref h0), (1, .int 0)] := lv_sub hl [1, 0] rfl
  refine pw_loop (fun (zz : Int32 × (Nat → Int32)) H locs ls => match zz with | (v146, f147) => va_P D vwCl [(h0, .inr (10, [.ref m_now, .ref m_draft, .ref m_past, .int j_acts, .ref m_images, .ref m_kept, .ref m_tape, .int j_taped, .int j_at, .int j_start, .int j_token, .int j_value, .int j_fault, .int j_place, .int j_latest, .ref m_low, .ref m_high, .ref m_first, .ref m_second, .ref m_lines, .ref m_others, .int j_shiftFirst, .int j_shiftMany, .int j_shiftLow, .int j_shiftHigh])), (m_tape, .inl (kI, 200, .inl g_tape)), (m_draft, .inl (kI, 192, .inl f147)), (m_now, .inl (kI, 192, .inl g_now))] H ∧ va_D A [(h0, .inr (10, [.ref m_now, .ref m_draft, .ref m_past, .int j_acts, .ref m_images, .ref m_kept, .ref m_tape, .int j_taped, .int j_at, .int j_start, .int j_token, .int j_value, .int j_fault, .int j_place, .int j_latest, .ref m_low, .ref m_high, .ref m_first, .ref m_second, .ref m_lines, .ref m_others, .int j_shiftFirst, .int j_shiftMany, .int j_shiftLow, .int j_shiftHigh])), (m_tape, .inl (kI, 200, .inl g_tape)), (m_draft, .inl (kI, 192, .inl f147)), (m_now, .inl (kI, 192, .inl g_now))] ∧ va_S A s.heap H locs ∧ lv_has ls 2 [(0, .ref h0), (1, .int v146)] ∧ (0 ≤ v146.toInt ∧ v146.toInt ≤ 192) ∧ zfI f147 v146.toInt) (fun (zz : Int32 × (Nat → Int32))  => match zz with | (v146, f147) => (2147483648 - v146.toInt).toNat) 0 0 (fun (zz : Int32 × (Nat → Int32)) ls => match zz with | (v146, f147) => F0 m 2 ls []) (fun zz H locs ls ih148 hI => ?_) (0, g_draft) _ _ _ ⟨hP, hD, hS, hl9, (by decide), (zfI_0 (by decide))⟩
  obtain ⟨v146, f147⟩ := zz
  obtain ⟨hP, hD, hS, hl, bv146, hzf⟩ := hI
  have bv146 : (0 ≤ v146.toInt ∧ v146.toInt ≤ 192) := bv146
  have hzf : zfI f147 v146.toInt := hzf
  have hP : va_P D vwCl [(h0, .inr (10, [.ref m_now, .ref m_draft, .ref m_past, .int j_acts, .ref m_images, .ref m_kept, .ref m_tape, .int j_taped, .int j_at, .int j_start, .int j_token, .int j_value, .int j_fault, .int j_place, .int j_latest, .ref m_low, .ref m_high, .ref m_first, .ref m_second, .ref m_lines, .ref m_others, .int j_shiftFirst, .int j_shiftMany, .int j_shiftLow, .int j_shiftHigh])), (m_tape, .inl (kI, 200, .inl g_tape)), (m_draft, .inl (kI, 192, .inl f147)), (m_now, .inl (kI, 192, .inl g_now))] H := hP
  have hD : va_D A [(h0, .inr (10, [.ref m_now, .ref m_draft, .ref m_past, .int j_acts, .ref m_images, .ref m_kept, .ref m_tape, .int j_taped, .int j_at, .int j_start, .int j_token, .int j_value, .int j_fault, .int j_place, .int j_latest, .ref m_low, .ref m_high, .ref m_first, .ref m_second, .ref m_lines, .ref m_others, .int j_shiftFirst, .int j_shiftMany, .int j_shiftLow, .int j_shiftHigh])), (m_tape, .inl (kI, 200, .inl g_tape)), (m_draft, .inl (kI, 192, .inl f147)), (m_now, .inl (kI, 192, .inl g_now))] := hD
  have hK : va_K D vwCl [(kI, .int)] s := hK
  have hl : lv_has ls 2 [(0, .ref h0), (1, .int v146)] := hl
  refine W.eq (g2 := F0 m 2 ls []) rfl ?_
  refine lv_iload_n hx hb dX10_work_2 rfl (lv_at hl 1 rfl) ?_
  refine lv_sipush (v := 192) hx hb dX10_work_3 (by decide) ?_
  refine lv_icmp_ge (tgt := 22) hx hb dX10_work_6 (by decide) (fun c152 => ?_) (fun c152 => ?_)
  · have nc152 : 192 ≤ v146.toInt := pw_le c152 (by decide) rfl
    refine lv_aload_n hx hb dX10_work_22 rfl (lv_at hl 0 rfl) ?_
    refine lv_iconst (v := 0) hx hb dX10_work_23 (by decide) ?_
    refine va_put (D := D) (ci := 10) (v := .int 0) (ty := .int) (C := RX10) (T := TX10) (N := 25) hx hb hts (fun _ h => List.mem_cons_of_mem _ (List.mem_append_right _ h)) tyX10 tyX10_ok nmX10 hown hK hP hD hS 0 rfl rfl 8 (by decide) (hts (.fieldLink RX10 99 "LineCitesModel" "at" "I") (List.mem_of_getElem? (i := 2) rfl)) (fun _ h9 => h9) rfl (by decide +kernel) rfl rfl (Nat.le_of_ble_eq_true rfl) dX10_work_24 (fun H locs hP hD hS => ?_)
    have hP : va_P D vwCl [(h0, .inr (10, [.ref m_now, .ref m_draft, .ref m_past, .int j_acts, .ref m_images, .ref m_kept, .ref m_tape, .int j_taped, .int 0, .int j_start, .int j_token, .int j_value, .int j_fault, .int j_place, .int j_latest, .ref m_low, .ref m_high, .ref m_first, .ref m_second, .ref m_lines, .ref m_others, .int j_shiftFirst, .int j_shiftMany, .int j_shiftLow, .int j_shiftHigh])), (m_tape, .inl (kI, 200, .inl g_tape)), (m_draft, .inl (kI, 192, .inl f147)), (m_now, .inl (kI, 192, .inl g_now))] H := hP
    have hD : va_D A [(h0, .inr (10, [.ref m_now, .ref m_draft, .ref m_past, .int j_acts, .ref m_images, .ref m_kept, .ref m_tape, .int j_taped, .int 0, .int j_start, .int j_token, .int j_value, .int j_fault, .int j_place, .int j_latest, .ref m_low, .ref m_high, .ref m_first, .ref m_second, .ref m_lines, .ref m_others, .int j_shiftFirst, .int j_shiftMany, .int j_shiftLow, .int j_shiftHigh])), (m_tape, .inl (kI, 200, .inl g_tape)), (m_draft, .inl (kI, 192, .inl f147)), (m_now, .inl (kI, 192, .inl g_now))] := hD
    have hK : va_K D vwCl [(kI, .int)] s := hK
    refine lv_aload_n hx hb dX10_work_27 rfl (lv_at hl 0 rfl) ?_
    refine lv_iconst (v := 0) hx hb dX10_work_28 (by decide) ?_
    refine va_put (D := D) (ci := 10) (v := .int 0) (ty := .int) (C := RX10) (T := TX10) (N := 25) hx hb hts (fun _ h => List.mem_cons_of_mem _ (List.mem_append_right _ h)) tyX10 tyX10_ok nmX10 hown hK hP hD hS 0 rfl rfl 12 (by decide) (hts (.fieldLink RX10 123 "LineCitesModel" "fault" "I") (List.mem_of_getElem? (i := 3) rfl)) (fun _ h9 => h9) rfl (by decide +kernel) rfl rfl (Nat.le_of_ble_eq_true rfl) dX10_work_29 (fun H locs hP hD hS => ?_)
    have hP : va_P D vwCl [(h0, .inr (10, [.ref m_now, .ref m_draft, .ref m_past, .int j_acts, .ref m_images, .ref m_kept, .ref m_tape, .int j_taped, .int 0, .int j_start, .int j_token, .int j_value, .int 0, .int j_place, .int j_latest, .ref m_low, .ref m_high, .ref m_first, .ref m_second, .ref m_lines, .ref m_others, .int j_shiftFirst, .int j_shiftMany, .int j_shiftLow, .int j_shiftHigh])), (m_tape, .inl (kI, 200, .inl g_tape)), (m_draft, .inl (kI, 192, .inl f147)), (m_now, .inl (kI, 192, .inl g_now))] H := hP
    have hD : va_D A [(h0, .inr (10, [.ref m_now, .ref m_draft, .ref m_past, .int j_acts, .ref m_images, .ref m_kept, .ref m_tape, .int j_taped, .int 0, .int j_start, .int j_token, .int j_value, .int 0, .int j_place, .int j_latest, .ref m_low, .ref m_high, .ref m_first, .ref m_second, .ref m_lines, .ref m_others, .int j_shiftFirst, .int j_shiftMany, .int j_shiftLow, .int j_shiftHigh])), (m_tape, .inl (kI, 200, .inl g_tape)), (m_draft, .inl (kI, 192, .inl f147)), (m_now, .inl (kI, 192, .inl g_now))] := hD
    have hK : va_K D vwCl [(kI, .int)] s := hK
    refine lv_aload_n hx hb dX10_work_32 rfl (lv_at hl 0 rfl) ?_
    have hPc := hP.sub (ws' := [(h0, .inr (10, [.ref m_now, .ref m_draft, .ref m_past, .int j_acts, .ref m_images, .ref m_kept, .ref m_tape, .int j_taped, .int 0, .int j_start, .int j_token, .int j_value, .int 0, .int j_place, .int j_latest, .ref m_low, .ref m_high, .ref m_first, .ref m_second, .ref m_lines, .ref m_others, .int j_shiftFirst, .int j_shiftMany, .int j_shiftLow, .int j_shiftHigh])), (m_tape, .inl (kI, 200, .inl g_tape))]) [0, 1] rfl
    have hKc := hK.sub (tys' := [(kI, .int)]) [0] rfl
    have hDc := hD.sub (ws' := [(h0, .inr (10, [.ref m_now, .ref m_draft, .ref m_past, .int j_acts, .ref m_images, .ref m_kept, .ref m_tape, .int j_taped, .int 0, .int j_start, .int j_token, .int j_value, .int 0, .int j_place, .int j_latest, .ref m_low, .ref m_high, .ref m_first, .ref m_second, .ref m_lines, .ref m_others, .int j_shiftFirst, .int j_shiftMany, .int j_shiftLow, .int j_shiftHigh])), (m_tape, .inl (kI, 200, .inl g_tape))]) [0, 1] (by decide) rfl
    have hFc := va_free (wc := [(h0, .inr (10, [.ref m_now, .ref m_draft, .ref m_past, .int j_acts, .ref m_images, .ref m_kept, .ref m_tape, .int j_taped, .int 0, .int j_start, .int j_token, .int j_value, .int 0, .int j_place, .int j_latest, .ref m_low, .ref m_high, .ref m_first, .ref m_second, .ref m_lines, .ref m_others, .int j_shiftFirst, .int j_shiftMany, .int j_shiftLow, .int j_shiftHigh])), (m_tape, .inl (kI, 200, .inl g_tape))]) hD hS hA [0, 1] rfl
    refine va_callv (va_runV (As := []) (rest := []) ⟨hx, hb, hml, hown, hts⟩ (c_X10_reads l D h0 m_now m_draft m_past j_acts m_images m_kept m_tape j_taped 0 j_start j_token j_value 0 j_place j_latest m_low m_high m_first m_second m_lines m_others j_shiftFirst j_shiftMany j_shiftLow j_shiftHigh kI g_tape 0 H.size (by first | decide | omega) (by first | decide | omega) (by first | omega | decide | (have hz0 : (0 : Int32).toInt = 0 := (by decide); omega)) (by first | omega | decide | (have hz0 : (0 : Int32).toInt = 0 := (by decide); omega)) hg_tape) (cwV 0 hts g_X10_work_X10_reads rfl rfl rfl (by decide +kernel) ⟨Nat.le_of_ble_eq_true rfl, Nat.le_of_ble_eq_true rfl⟩) ⟨fun a U g mk q => by obtain ⟨q0, q1, qP, qK, qD⟩ := q; exact ⟨q0, q1, qP, va_K.moved (u := U) (U := U.calling g mk a) (Vm.Alike.refl U.vm) qK, qD⟩, va_recv hKc hPc (ci := 10) (q0 := 0) rfl rfl, fun U hU hW => ⟨rfl, by rw [hU], by rw [hU]; exact hPc, va_K.moved hW.alike hKc, hDc.weaken (fun _ _ _ _ => trivial)⟩⟩ rfl rfl hl.1 rfl (lv_room (Nat.le_of_ble_eq_true rfl)) dX10_work_33 ⟨Nat.le_of_ble_eq_true rfl, Nat.le_of_ble_eq_true rfl⟩) hS (fun q _ h => hFc q h) hFc (fun u t H1 locs ht hvm hw hB hz1 hk1 hS => ?_)
    obtain ⟨y154, y155, y156, hP1, hK1, hD1, px0_r153⟩ := hB
    rw [ht] at hP1
    have hK1 := va_K.moved hvm.symm hK1
    obtain ⟨hP, hD⟩ := va_join (wr := [(m_draft, .inl (kI, 192, .inl f147)), (m_now, .inl (kI, 192, .inl g_now))]) (w1 := [(h0, .inr (10, [.ref m_now, .ref m_draft, .ref m_past, .int j_acts, .ref m_images, .ref m_kept, .ref m_tape, .int j_taped, .int y154, .int 0, .int y155, .int y156, .int 0, .int j_place, .int j_latest, .ref m_low, .ref m_high, .ref m_first, .ref m_second, .ref m_lines, .ref m_others, .int j_shiftFirst, .int j_shiftMany, .int j_shiftLow, .int j_shiftHigh])), (m_tape, .inl (kI, 200, .inl g_tape))]) hP hD [0, 1] [2, 3] rfl rfl (by decide) (by decide) hk1 hFc hP1 hD1
    have hK := (hK.sub (tys' := [(kI, .int)]) [0] rfl).app hK1
    generalize H1 = H at hP hS ⊢
    have hP : va_P D vwCl [(m_draft, .inl (kI, 192, .inl f147)), (m_now, .inl (kI, 192, .inl g_now)), (h0, .inr (10, [.ref m_now, .ref m_draft, .ref m_past, .int j_acts, .ref m_images, .ref m_kept, .ref m_tape, .int j_taped, .int y154, .int 0, .int y155, .int y156, .int 0, .int j_place, .int j_latest, .ref m_low, .ref m_high, .ref m_first, .ref m_second, .ref m_lines, .ref m_others, .int j_shiftFirst, .int j_shiftMany, .int j_shiftLow, .int j_shiftHigh])), (m_tape, .inl (kI, 200, .inl g_tape))] H := hP
    have hD : va_D A [(m_draft, .inl (kI, 192, .inl f147)), (m_now, .inl (kI, 192, .inl g_now)), (h0, .inr (10, [.ref m_now, .ref m_draft, .ref m_past, .int j_acts, .ref m_images, .ref m_kept, .ref m_tape, .int j_taped, .int y154, .int 0, .int y155, .int y156, .int 0, .int j_place, .int j_latest, .ref m_low, .ref m_high, .ref m_first, .ref m_second, .ref m_lines, .ref m_others, .int j_shiftFirst, .int j_shiftMany, .int j_shiftLow, .int j_shiftHigh])), (m_tape, .inl (kI, 200, .inl g_tape))] := hD
    have hK : va_K D vwCl [(kI, .int), (kI, .int)] s := hK
    refine W.widen (k := 0) (n := 0) (Nat.le_of_ble_eq_true rfl) (Nat.le_of_ble_eq_true rfl) ?_
    have hc0 := px0_r153
    have hw0 := cu_let (c := 119) hc0 (by decide) (by decide)
    have hca0 := cu_at hc0
    have kk0 : (0 : Int32).toInt = 0 := by decide
    refine lv_aload_n hx hb dX10_work_36 rfl (lv_at hl 0 rfl) ?_
    refine lv_bipush (v := 119) hx hb dX10_work_37 (by decide) ?_
    have kk119 : (119 : Int32).toInt = 119 := by decide
    have hPc := hP.sub (ws' := [(h0, .inr (10, [.ref m_now, .ref m_draft, .ref m_past, .int j_acts, .ref m_images, .ref m_kept, .ref m_tape, .int j_taped, .int y154, .int 0, .int y155, .int y156, .int 0, .int j_place, .int j_latest, .ref m_low, .ref m_high, .ref m_first, .ref m_second, .ref m_lines, .ref m_others, .int j_shiftFirst, .int j_shiftMany, .int j_shiftLow, .int j_shiftHigh]))]) [2] rfl
    have hKc := hK.sub (tys' := []) [] rfl
    refine va_calli (va_runV (As := [.int 119]) (rest := []) ⟨hx, hb, hml, hown, hts⟩ (c_X10_isLetter l D h0 119 m_now m_draft m_past j_acts m_images m_kept m_tape j_taped y154 0 y155 y156 0 j_place j_latest m_low m_high m_first m_second m_lines m_others j_shiftFirst j_shiftMany j_shiftLow j_shiftHigh) (cwV 1 hts g_X10_work_X10_isLetter rfl rfl rfl (by decide +kernel) ⟨Nat.le_of_ble_eq_true rfl, Nat.le_of_ble_eq_true rfl⟩) ⟨fun a U g mk q => by obtain ⟨q0, qP, qK⟩ := q; exact ⟨q0, qP, va_K.moved (u := U) (U := U.calling g mk a) (Vm.Alike.refl U.vm) qK⟩, va_recv hKc hPc (ci := 10) (q0 := 0) rfl rfl, fun U hU hW => ⟨rfl, by rw [hU]; exact hPc, va_K.moved hW.alike hKc⟩⟩ rfl rfl hl.1 rfl (lv_room (Nat.le_of_ble_eq_true rfl)) dX10_work_39 ⟨Nat.le_of_ble_eq_true rfl, Nat.le_of_ble_eq_true rfl⟩) hS (fun _ _ h => h.elim) (fun _ h => h.elim) (fun r157 u t H1 locs ht hvm hw hB hz1 hk1 hS => ?_)
    have hP := pw_keep hP (fun q hq => hk1 q hq (fun h => h))
    generalize H1 = H at hP hS ⊢
    refine W.widen (k := 0) (n := 0) (Nat.le_of_ble_eq_true rfl) (Nat.le_of_ble_eq_true rfl) ?_
    have bor157 := hw.1
    have zor157 := pw_boolI bor157
    have hfr157 := hw.2
    refine lv_if_ne (tgt := 50) hx hb dX10_work_42 (by decide) (fun c158 => ?_) (fun c158 => ?_)
    · have nc158 : r157.toInt ≠ 0 := pw_ne c158 rfl (by decide)
      have h119 : tTok (tR g_tape) j_taped.toInt.toNat 0 = 119 := by omega
      clear hw0 hfr157
      refine lv_aload_n hx hb dX10_work_50 rfl (lv_at hl 0 rfl) ?_
      have hPc := hP.sub (ws' := [(h0, .inr (10, [.ref m_now, .ref m_draft, .ref m_past, .int j_acts, .ref m_images, .ref m_kept, .ref m_tape, .int j_taped, .int y154, .int 0, .int y155, .int y156, .int 0, .int j_place, .int j_latest, .ref m_low, .ref m_high, .ref m_first, .ref m_second, .ref m_lines, .ref m_others, .int j_shiftFirst, .int j_shiftMany, .int j_shiftLow, .int j_shiftHigh])), (m_tape, .inl (kI, 200, .inl g_tape))]) [2, 3] rfl
      have hKc := hK.sub (tys' := [(kI, .int)]) [0] rfl
      have hDc := hD.sub (ws' := [(h0, .inr (10, [.ref m_now, .ref m_draft, .ref m_past, .int j_acts, .ref m_images, .ref m_kept, .ref m_tape, .int j_taped, .int y154, .int 0, .int y155, .int y156, .int 0, .int j_place, .int j_latest, .ref m_low, .ref m_high, .ref m_first, .ref m_second, .ref m_lines, .ref m_others, .int j_shiftFirst, .int j_shiftMany, .int j_shiftLow, .int j_shiftHigh])), (m_tape, .inl (kI, 200, .inl g_tape))]) [2, 3] (by decide) rfl
      have hFc := va_free (wc := [(h0, .inr (10, [.ref m_now, .ref m_draft, .ref m_past, .int j_acts, .ref m_images, .ref m_kept, .ref m_tape, .int j_taped, .int y154, .int 0, .int y155, .int y156, .int 0, .int j_place, .int j_latest, .ref m_low, .ref m_high, .ref m_first, .ref m_second, .ref m_lines, .ref m_others, .int j_shiftFirst, .int j_shiftMany, .int j_shiftLow, .int j_shiftHigh])), (m_tape, .inl (kI, 200, .inl g_tape))]) hD hS hA [2, 3] rfl
      refine va_callv (va_runV (As := []) (rest := []) ⟨hx, hb, hml, hown, hts⟩ (c_X10_goesOn l D h0 m_now m_draft m_past j_acts m_images m_kept m_tape j_taped y154 0 y155 y156 0 j_place j_latest m_low m_high m_first m_second m_lines m_others j_shiftFirst j_shiftMany j_shiftLow j_shiftHigh kI g_tape (tNx (tR g_tape) j_taped.toInt.toNat 0) H.size (by first | decide | omega) (by first | decide | omega) (by first | omega | decide | (have hz0 : (0 : Int32).toInt = 0 := (by decide); omega)) hg_tape) (cwV 0 hts g_X10_work_X10_goesOn rfl rfl rfl (by decide +kernel) ⟨Nat.le_of_ble_eq_true rfl, Nat.le_of_ble_eq_true rfl⟩) ⟨fun a U g mk q => by obtain ⟨q0, q1, qP, qK, qD⟩ := q; exact ⟨q0, q1, qP, va_K.moved (u := U) (U := U.calling g mk a) (Vm.Alike.refl U.vm) qK, qD⟩, va_recv hKc hPc (ci := 10) (q0 := 0) rfl rfl, fun U hU hW => ⟨rfl, by rw [hU], by rw [hU]; exact hPc, va_K.moved hW.alike hKc, hDc.weaken (fun _ _ _ _ => trivial)⟩⟩ rfl rfl hl.1 rfl (lv_room (Nat.le_of_ble_eq_true rfl)) dX10_work_51 ⟨Nat.le_of_ble_eq_true rfl, Nat.le_of_ble_eq_true rfl⟩) hS (fun q _ h => hFc q h) hFc (fun u t H1 locs ht hvm hw hB hz1 hk1 hS => ?_)
      obtain ⟨y160, y161, y162, y163, hP1, hK1, hD1, px0_r159⟩ := hB
      rw [ht] at hP1
      have hK1 := va_K.moved hvm.symm hK1
      obtain ⟨hP, hD⟩ := va_join (wr := [(m_draft, .inl (kI, 192, .inl f147)), (m_now, .inl (kI, 192, .inl g_now))]) (w1 := [(h0, .inr (10, [.ref m_now, .ref m_draft, .ref m_past, .int j_acts, .ref m_images, .ref m_kept, .ref m_tape, .int j_taped, .int y161, .int y160, .int y162, .int y163, .int 0, .int j_place, .int j_latest, .ref m_low, .ref m_high, .ref m_first, .ref m_second, .ref m_lines, .ref m_others, .int j_shiftFirst, .int j_shiftMany, .int j_shiftLow, .int j_shiftHigh])), (m_tape, .inl (kI, 200, .inl g_tape))]) hP hD [2, 3] [0, 1] rfl rfl (by decide) (by decide) hk1 hFc hP1 hD1
      have hK := (hK.sub (tys' := [(kI, .int), (kI, .int)]) [0, 1] rfl).app hK1
      generalize H1 = H at hP hS ⊢
      have hP : va_P D vwCl [(m_draft, .inl (kI, 192, .inl f147)), (m_now, .inl (kI, 192, .inl g_now)), (h0, .inr (10, [.ref m_now, .ref m_draft, .ref m_past, .int j_acts, .ref m_images, .ref m_kept, .ref m_tape, .int j_taped, .int y161, .int y160, .int y162, .int y163, .int 0, .int j_place, .int j_latest, .ref m_low, .ref m_high, .ref m_first, .ref m_second, .ref m_lines, .ref m_others, .int j_shiftFirst, .int j_shiftMany, .int j_shiftLow, .int j_shiftHigh])), (m_tape, .inl (kI, 200, .inl g_tape))] H := hP
      have hD : va_D A [(m_draft, .inl (kI, 192, .inl f147)), (m_now, .inl (kI, 192, .inl g_now)), (h0, .inr (10, [.ref m_now, .ref m_draft, .ref m_past, .int j_acts, .ref m_images, .ref m_kept, .ref m_tape, .int j_taped, .int y161, .int y160, .int y162, .int y163, .int 0, .int j_place, .int j_latest, .ref m_low, .ref m_high, .ref m_first, .ref m_second, .ref m_lines, .ref m_others, .int j_shiftFirst, .int j_shiftMany, .int j_shiftLow, .int j_shiftHigh])), (m_tape, .inl (kI, 200, .inl g_tape))] := hD
      have hK : va_K D vwCl [(kI, .int), (kI, .int), (kI, .int)] s := hK
      refine W.widen (k := 0) (n := 0) (Nat.le_of_ble_eq_true rfl) (Nat.le_of_ble_eq_true rfl) ?_
      have hcur : (0 : Int32).toInt = 0 → cuR (tR g_tape) j_taped.toInt.toNat (tNx (tR g_tape) j_taped.toInt.toNat 0) y161.toInt y162.toInt y163.toInt := fun z => px0_r159 z
      have hn1 := cu_num (hcur (by decide))
      refine lv_aload_n hx hb dX10_work_54 rfl (lv_at hl 0 rfl) ?_
      refine va_get (D := D) (ci := 10) (v := .ref m_draft) (C := RX10) (T := TX10) (N := 25) hx hb hts (fun _ h => List.mem_cons_of_mem _ (List.mem_append_right _ h)) hown hK hP 2 rfl rfl 1 (by decide) (hts (.fieldLink RX10 13 "LineCitesModel" "draft" "[I") (List.mem_of_getElem? (i := 1) rfl)) (fun _ h9 => h9) rfl dX10_work_55 ?_
      refine lv_iconst (v := 0) hx hb dX10_work_58 (by decide) ?_
      refine lv_aload_n hx hb dX10_work_59 rfl (lv_at hl 0 rfl) ?_
      refine lv_aload_n hx hb dX10_work_60 rfl (lv_at hl 0 rfl) ?_
      refine va_get (D := D) (ci := 10) (v := .int y163) (C := RX10) (T := TX10) (N := 25) hx hb hts (fun _ h => List.mem_cons_of_mem _ (List.mem_append_right _ h)) hown hK hP 2 rfl rfl 11 (by decide) (hts (.fieldLink RX10 109 "LineCitesModel" "value" "I") (List.mem_of_getElem? (i := 16) rfl)) (fun _ h9 => h9) rfl dX10_work_61 ?_
      refine lv_i2l (v := y163.toInt64) hx hb dX10_work_64 rfl ?_
      refine lv_lconst (v := 1) hx hb dX10_work_65 (by decide) ?_
      refine lv_ldc2 hx hb hown (hts (.constantLong RX10 182 (200)) (List.mem_of_getElem? (i := 33) rfl)) dX10_work_66 ?_
      have hPc := hP.sub (ws' := []) [] rfl
      have hKc := hK.sub (tys' := []) [] rfl
      refine va_calli (va_runS (As := [.long y163.toInt64, .long 1, .long 200]) (rest := [.ref h0, .int 0, .ref m_draft]) ⟨hx, hb, hml, hown, hts⟩ (c_X10_in0 l D y163.toInt64 1 200) (cwS 3 hts g_X10_work_X10_in0 rfl rfl rfl (by decide +kernel) ⟨Nat.le_of_ble_eq_true rfl, Nat.le_of_ble_eq_true rfl⟩) ⟨fun a U g mk q => by obtain ⟨q0, qP, qK⟩ := q; exact ⟨q0, qP, va_K.moved (u := U) (U := U.calling g mk a) (Vm.Alike.refl U.vm) qK⟩, fun U hU hW => ⟨rfl, by rw [hU]; exact hPc, va_K.moved hW.alike hKc⟩⟩ rfl rfl hl.1 rfl (lv_room (Nat.le_of_ble_eq_true rfl)) dX10_work_69 ⟨Nat.le_of_ble_eq_true rfl, Nat.le_of_ble_eq_true rfl⟩) hS (fun _ _ h => h.elim) (fun _ h => h.elim) (fun r164 u t H1 locs ht hvm hw hB hz1 hk1 hS => ?_)
      have hP := pw_keep hP (fun q hq => hk1 q hq (fun h => h))
      generalize H1 = H at hP hS ⊢
      refine W.widen (k := 0) (n := 0) (Nat.le_of_ble_eq_true rfl) (Nat.le_of_ble_eq_true rfl) ?_
      have bor164 := hw.1
      have zor164 := pw_boolI bor164
      have hfr164 := hw.2
      have kl1 : (1 : Int64).toInt = 1 := by decide
      have kl200 : (200 : Int64).toInt = 200 := by decide
      try simp only [Int32.toInt_toInt64] at hfr164
      refine lv_bipush (v := 59) hx hb dX10_work_72 (by decide) ?_
      have kk59 : (59 : Int32).toInt = 59 := by decide
      have hPc := hP.sub (ws' := [(h0, .inr (10, [.ref m_now, .ref m_draft, .ref m_past, .int j_acts, .ref m_images, .ref m_kept, .ref m_tape, .int j_taped, .int y161, .int y160, .int y162, .int y163, .int 0, .int j_place, .int j_latest, .ref m_low, .ref m_high, .ref m_first, .ref m_second, .ref m_lines, .ref m_others, .int j_shiftFirst, .int j_shiftMany, .int j_shiftLow, .int j_shiftHigh])), (m_tape, .inl (kI, 200, .inl g_tape))]) [2, 3] rfl
      have hKc := hK.sub (tys' := [(kI, .int)]) [0] rfl
      have hDc := hD.sub (ws' := [(h0, .inr (10, [.ref m_now, .ref m_draft, .ref m_past, .int j_acts, .ref m_images, .ref m_kept, .ref m_tape, .int j_taped, .int y161, .int y160, .int y162, .int y163, .int 0, .int j_place, .int j_latest, .ref m_low, .ref m_high, .ref m_first, .ref m_second, .ref m_lines, .ref m_others, .int j_shiftFirst, .int j_shiftMany, .int j_shiftLow, .int j_shiftHigh])), (m_tape, .inl (kI, 200, .inl g_tape))]) [2, 3] (by decide) rfl
      have hFc := va_free (wc := [(h0, .inr (10, [.ref m_now, .ref m_draft, .ref m_past, .int j_acts, .ref m_images, .ref m_kept, .ref m_tape, .int j_taped, .int y161, .int y160, .int y162, .int y163, .int 0, .int j_place, .int j_latest, .ref m_low, .ref m_high, .ref m_first, .ref m_second, .ref m_lines, .ref m_others, .int j_shiftFirst, .int j_shiftMany, .int j_shiftLow, .int j_shiftHigh])), (m_tape, .inl (kI, 200, .inl g_tape))]) hD hS hA [2, 3] rfl
      refine va_calli (va_runV (As := [.int r164, .int 59]) (rest := [.int 0, .ref m_draft]) ⟨hx, hb, hml, hown, hts⟩ (c_X10_number l D h0 r164 59 m_now m_draft m_past j_acts m_images m_kept m_tape j_taped y161 y160 y162 y163 0 j_place j_latest m_low m_high m_first m_second m_lines m_others j_shiftFirst j_shiftMany j_shiftLow j_shiftHigh kI g_tape (tNx (tR g_tape) j_taped.toInt.toNat 0) H.size (by first | decide | omega) (by first | decide | omega) (by first | decide | omega) (by first | decide | omega) (by first | omega | decide | (have hz0 : (0 : Int32).toInt = 0 := (by decide); omega)) hcur hg_tape) (cwV 2 hts g_X10_work_X10_number rfl rfl rfl (by decide +kernel) ⟨Nat.le_of_ble_eq_true rfl, Nat.le_of_ble_eq_true rfl⟩) ⟨fun a U g mk q => by obtain ⟨q0, q1, qP, qK, qD⟩ := q; exact ⟨q0, q1, qP, va_K.moved (u := U) (U := U.calling g mk a) (Vm.Alike.refl U.vm) qK, qD⟩, va_recv hKc hPc (ci := 10) (q0 := 0) rfl rfl, fun U hU hW => ⟨rfl, by rw [hU], by rw [hU]; exact hPc, va_K.moved hW.alike hKc, hDc.weaken (fun _ _ _ _ => trivial)⟩⟩ rfl rfl hl.1 rfl (lv_room (Nat.le_of_ble_eq_true rfl)) dX10_work_74 ⟨Nat.le_of_ble_eq_true rfl, Nat.le_of_ble_eq_true rfl⟩) hS (fun q _ h => hFc q h) hFc (fun r165 u t H1 locs ht hvm hw hB hz1 hk1 hS => ?_)
      obtain ⟨y166, y167, y168, y169, y170, y171, hP1, hK1, hD1, px0_r165, px1_r165, px2_r165⟩ := hB
      rw [ht] at hP1
      have hK1 := va_K.moved hvm.symm hK1
      obtain ⟨hP, hD⟩ := va_join (wr := [(m_draft, .inl (kI, 192, .inl f147)), (m_now, .inl (kI, 192, .inl g_now))]) (w1 := [(h0, .inr (10, [.ref m_now, .ref m_draft, .ref m_past, .int j_acts, .ref m_images, .ref m_kept, .ref m_tape, .int j_taped, .int y167, .int y166, .int y168, .int y169, .int y170, .int y171, .int j_latest, .ref m_low, .ref m_high, .ref m_first, .ref m_second, .ref m_lines, .ref m_others, .int j_shiftFirst, .int j_shiftMany, .int j_shiftLow, .int j_shiftHigh])), (m_tape, .inl (kI, 200, .inl g_tape))]) hP hD [2, 3] [0, 1] rfl rfl (by decide) (by decide) hk1 hFc hP1 hD1
      have hK := (hK.sub (tys' := [(kI, .int), (kI, .int), (kI, .int)]) [0, 1, 2] rfl).app hK1
      generalize H1 = H at hP hS ⊢
      have hP : va_P D vwCl [(m_draft, .inl (kI, 192, .inl f147)), (m_now, .inl (kI, 192, .inl g_now)), (h0, .inr (10, [.ref m_now, .ref m_draft, .ref m_past, .int j_acts, .ref m_images, .ref m_kept, .ref m_tape, .int j_taped, .int y167, .int y166, .int y168, .int y169, .int y170, .int y171, .int j_latest, .ref m_low, .ref m_high, .ref m_first, .ref m_second, .ref m_lines, .ref m_others, .int j_shiftFirst, .int j_shiftMany, .int j_shiftLow, .int j_shiftHigh])), (m_tape, .inl (kI, 200, .inl g_tape))] H := hP
      have hD : va_D A [(m_draft, .inl (kI, 192, .inl f147)), (m_now, .inl (kI, 192, .inl g_now)), (h0, .inr (10, [.ref m_now, .ref m_draft, .ref m_past, .int j_acts, .ref m_images, .ref m_kept, .ref m_tape, .int j_taped, .int y167, .int y166, .int y168, .int y169, .int y170, .int y171, .int j_latest, .ref m_low, .ref m_high, .ref m_first, .ref m_second, .ref m_lines, .ref m_others, .int j_shiftFirst, .int j_shiftMany, .int j_shiftLow, .int j_shiftHigh])), (m_tape, .inl (kI, 200, .inl g_tape))] := hD
      have hK : va_K D vwCl [(kI, .int), (kI, .int), (kI, .int), (kI, .int)] s := hK
      refine W.widen (k := 0) (n := 0) (Nat.le_of_ble_eq_true rfl) (Nat.le_of_ble_eq_true rfl) ?_
      have hfr165 := hw
      refine va_iast hx hb hK hP hD hS 0 0 rfl rfl (vp_in_iff.mpr (by decide)) dX10_work_77 (fun H locs hP hD hS => ?_)
      obtain ⟨g172, eg172⟩ : ∃ g : Nat → Int32, g = upd f147 (0 : Int32).toNatClampNeg r165 := ⟨_, rfl⟩
      have hP : va_P D vwCl [(m_draft, .inl (kI, 192, .inl (upd f147 (0 : Int32).toNatClampNeg r165))), (m_now, .inl (kI, 192, .inl g_now)), (h0, .inr (10, [.ref m_now, .ref m_draft, .ref m_past, .int j_acts, .ref m_images, .ref m_kept, .ref m_tape, .int j_taped, .int y167, .int y166, .int y168, .int y169, .int y170, .int y171, .int j_latest, .ref m_low, .ref m_high, .ref m_first, .ref m_second, .ref m_lines, .ref m_others, .int j_shiftFirst, .int j_shiftMany, .int j_shiftLow, .int j_shiftHigh])), (m_tape, .inl (kI, 200, .inl g_tape))] H := hP
      have hD : va_D A [(m_draft, .inl (kI, 192, .inl (upd f147 (0 : Int32).toNatClampNeg r165))), (m_now, .inl (kI, 192, .inl g_now)), (h0, .inr (10, [.ref m_now, .ref m_draft, .ref m_past, .int j_acts, .ref m_images, .ref m_kept, .ref m_tape, .int j_taped, .int y167, .int y166, .int y168, .int y169, .int y170, .int y171, .int j_latest, .ref m_low, .ref m_high, .ref m_first, .ref m_second, .ref m_lines, .ref m_others, .int j_shiftFirst, .int j_shiftMany, .int j_shiftLow, .int j_shiftHigh])), (m_tape, .inl (kI, 200, .inl g_tape))] := hD
      have hK : va_K D vwCl [(kI, .int), (kI, .int), (kI, .int), (kI, .int)] s := hK
      rw [← eg172] at hP hD
      have hr200 : 0 ≤ r165.toInt ∧ r165.toInt ≤ 200 := by omega
      have hl0 := gV_l0 hzf (by omega) eg172 hr200.1 hr200.2
      have hg172 := hl0.1
      have hou0 : (ouI (tR g_tape) j_taped.toInt.toNat (g172 0).toInt (bI (uWork (tR g_tape) j_taped.toInt.toNat)) y170.toInt y167.toInt y168.toInt y169.toInt g172) ∧ (y170.toInt = 0 → 1 ≤ (g172 0).toInt) := by
        rcases px0_r165 with ⟨z0, z1, z2, z3, z4⟩ | ⟨z0, z1⟩
        · have hr := (hfr165.resolve_right (fun y => y.1 ⟨z1, z2, z3⟩)).2.1
          have hv := (hn1.2 (hn1.1.mpr z2)).1
          have hi : 1 ≤ y163.toInt ∧ y163.toInt ≤ 200 := by omega
          have hh : uHead (tR g_tape) j_taped.toInt.toNat := ⟨h119, z2, by omega, by omega, z4.trans (by decide)⟩
          refine ⟨Or.inl ⟨z0, (tNx (tR g_tape) j_taped.toInt.toNat (tNx (tR g_tape) j_taped.toInt.toNat (tNx (tR g_tape) j_taped.toInt.toNat 0))), 0, [], px2_r165 z0, Nat.zero_le _, ?_, Or.inl hl0.2.2.1⟩, fun _ => by rw [hl0.2.1]; omega⟩
          rw [hl0.2.1, hr, show (g172 1).toInt.toNat = 0 by have := hl0.2.2.1; omega]
          exact wk_0 hh
        · refine ⟨Or.inr ⟨z0, px1_r165, wk_n (fun hh => z1 ⟨by decide, hh.2.1, ?_, hh.2.2.2.2.trans (by decide)⟩)⟩, fun z => False.elim (by omega)⟩
          have hv := (hn1.2 (hn1.1.mpr hh.2.1)).1
          have h3 := hh.2.2.1
          have h4 := hh.2.2.2.1
          omega
      have hL10 := hou0.2
      have hou0 := hou0.1
      clear px0_r165 hfr165 hfr164 hn1
      have hl9 : lv_has ls 2 [(0, .ref h0), (1, .int v146)] := lv_sub hl [0, 1] rfl
      refine pw_loop (fun (zz : (Nat → Int32) × Int32 × Int32 × Int32 × Int32 × Int32 × Int32) H locs ls => match zz with | (f222, v223, v224, v225, v226, v227, v228) => va_P D vwCl [(m_draft, .inl (kI, 192, .inl f222)), (m_now, .inl (kI, 192, .inl g_now)), (h0, .inr (10, [.ref m_now, .ref m_draft, .ref m_past, .int j_acts, .ref m_images, .ref m_kept, .ref m_tape, .int j_taped, .int v223, .int v224, .int v225, .int v226, .int v227, .int v228, .int j_latest, .ref m_low, .ref m_high, .ref m_first, .ref m_second, .ref m_lines, .ref m_others, .int j_shiftFirst, .int j_shiftMany, .int j_shiftLow, .int j_shiftHigh])), (m_tape, .inl (kI, 200, .inl g_tape))] H ∧ va_D A [(m_draft, .inl (kI, 192, .inl f222)), (m_now, .inl (kI, 192, .inl g_now)), (h0, .inr (10, [.ref m_now, .ref m_draft, .ref m_past, .int j_acts, .ref m_images, .ref m_kept, .ref m_tape, .int j_taped, .int v223, .int v224, .int v225, .int v226, .int v227, .int v228, .int j_latest, .ref m_low, .ref m_high, .ref m_first, .ref m_second, .ref m_lines, .ref m_others, .int j_shiftFirst, .int j_shiftMany, .int j_shiftLow, .int j_shiftHigh])), (m_tape, .inl (kI, 200, .inl g_tape))] ∧ va_S A s.heap H locs ∧ lv_has ls 2 [(0, .ref h0), (1, .int v146)] ∧ gV f222 ∧ ouI (tR g_tape) j_taped.toInt.toNat (g172 0).toInt (bI (uWork (tR g_tape) j_taped.toInt.toNat)) v227.toInt v223.toInt v225.toInt v226.toInt f222 ∧ (v227.toInt = 0 → dzI f222) ∧ (f222 0).toInt = (g172 0).toInt ∧ (v227.toInt = 0 → 1 ≤ (g172 0).toInt)) (fun (zz : (Nat → Int32) × Int32 × Int32 × Int32 × Int32 × Int32 × Int32)  => match zz with | (f222, v223, v224, v225, v226, v227, v228) => muO v227.toInt v223.toInt v225.toInt) 0 0 (fun (zz : (Nat → Int32) × Int32 × Int32 × Int32 × Int32 × Int32 × Int32) ls => match zz with | (f222, v223, v224, v225, v226, v227, v228) => F0 m 78 ls []) (fun zz H locs ls ih229 hI => ?_) (g172, y167, y166, y168, y169, y170, y171) _ _ _ ⟨hP, hD, hS, hl9, hg172, hou0, (fun _ => hl0.2.2.2), rfl, hL10⟩
      obtain ⟨f222, v223, v224, v225, v226, v227, v228⟩ := zz
      obtain ⟨hP, hD, hS, hl, hf222, hou, hdz0, hL0, hL1⟩ := hI
      have hou : ouI (tR g_tape) j_taped.toInt.toNat (g172 0).toInt (bI (uWork (tR g_tape) j_taped.toInt.toNat)) v227.toInt v223.toInt v225.toInt v226.toInt f222 := hou
      have hdz0 : (v227.toInt = 0 → dzI f222) := hdz0
      have hL0 : (f222 0).toInt = (g172 0).toInt := hL0
      have hL1 : (v227.toInt = 0 → 1 ≤ (g172 0).toInt) := hL1
      have hP : va_P D vwCl [(m_draft, .inl (kI, 192, .inl f222)), (m_now, .inl (kI, 192, .inl g_now)), (h0, .inr (10, [.ref m_now, .ref m_draft, .ref m_past, .int j_acts, .ref m_images, .ref m_kept, .ref m_tape, .int j_taped, .int v223, .int v224, .int v225, .int v226, .int v227, .int v228, .int j_latest, .ref m_low, .ref m_high, .ref m_first, .ref m_second, .ref m_lines, .ref m_others, .int j_shiftFirst, .int j_shiftMany, .int j_shiftLow, .int j_shiftHigh])), (m_tape, .inl (kI, 200, .inl g_tape))] H := hP
      have hD : va_D A [(m_draft, .inl (kI, 192, .inl f222)), (m_now, .inl (kI, 192, .inl g_now)), (h0, .inr (10, [.ref m_now, .ref m_draft, .ref m_past, .int j_acts, .ref m_images, .ref m_kept, .ref m_tape, .int j_taped, .int v223, .int v224, .int v225, .int v226, .int v227, .int v228, .int j_latest, .ref m_low, .ref m_high, .ref m_first, .ref m_second, .ref m_lines, .ref m_others, .int j_shiftFirst, .int j_shiftMany, .int j_shiftLow, .int j_shiftHigh])), (m_tape, .inl (kI, 200, .inl g_tape))] := hD
      have hK : va_K D vwCl [(kI, .int), (kI, .int), (kI, .int), (kI, .int)] s := hK
      have hl : lv_has ls 2 [(0, .ref h0), (1, .int v146)] := hl
      refine W.eq (g2 := F0 m 78 ls []) rfl ?_
      refine lv_aload_n hx hb dX10_work_78 rfl (lv_at hl 0 rfl) ?_
      refine lv_bipush (v := 101) hx hb dX10_work_79 (by decide) ?_
      have kk101 : (101 : Int32).toInt = 101 := by decide
      have hPc := hP.sub (ws' := [(h0, .inr (10, [.ref m_now, .ref m_draft, .ref m_past, .int j_acts, .ref m_images, .ref m_kept, .ref m_tape, .int j_taped, .int v223, .int v224, .int v225, .int v226, .int v227, .int v228, .int j_latest, .ref m_low, .ref m_high, .ref m_first, .ref m_second, .ref m_lines, .ref m_others, .int j_shiftFirst, .int j_shiftMany, .int j_shiftLow, .int j_shiftHigh]))]) [2] rfl
      have hKc := hK.sub (tys' := []) [] rfl
      refine va_calli (va_runV (As := [.int 101]) (rest := []) ⟨hx, hb, hml, hown, hts⟩ (c_X10_isLetter l D h0 101 m_now m_draft m_past j_acts m_images m_kept m_tape j_taped v223 v224 v225 v226 v227 v228 j_latest m_low m_high m_first m_second m_lines m_others j_shiftFirst j_shiftMany j_shiftLow j_shiftHigh) (cwV 1 hts g_X10_work_X10_isLetter rfl rfl rfl (by decide +kernel) ⟨Nat.le_of_ble_eq_true rfl, Nat.le_of_ble_eq_true rfl⟩) ⟨fun a U g mk q => by obtain ⟨q0, qP, qK⟩ := q; exact ⟨q0, qP, va_K.moved (u := U) (U := U.calling g mk a) (Vm.Alike.refl U.vm) qK⟩, va_recv hKc hPc (ci := 10) (q0 := 0) rfl rfl, fun U hU hW => ⟨rfl, by rw [hU]; exact hPc, va_K.moved hW.alike hKc⟩⟩ rfl rfl hl.1 rfl (lv_room (Nat.le_of_ble_eq_true rfl)) dX10_work_81 ⟨Nat.le_of_ble_eq_true rfl, Nat.le_of_ble_eq_true rfl⟩) hS (fun _ _ h => h.elim) (fun _ h => h.elim) (fun r230 u t H1 locs ht hvm hw hB hz1 hk1 hS => ?_)
      have hP := pw_keep hP (fun q hq => hk1 q hq (fun h => h))
      generalize H1 = H at hP hS ⊢
      refine W.widen (k := 0) (n := 0) (Nat.le_of_ble_eq_true rfl) (Nat.le_of_ble_eq_true rfl) ?_
      have bor230 := hw.1
      have zor230 := pw_boolI bor230
      have hfr230 := hw.2
      refine lv_if_eq (tgt := 94) hx hb dX10_work_84 (by decide) (fun c231 => ?_) (fun c231 => ?_)
      · have nc231 : r230.toInt = 0 := pw_eq c231 rfl (by decide)
        refine lv_aload_n hx hb dX10_work_94 rfl (lv_at hl 0 rfl) ?_
        refine va_get (D := D) (ci := 10) (v := .int v225) (C := RX10) (T := TX10) (N := 25) hx hb hts (fun _ h => List.mem_cons_of_mem _ (List.mem_append_right _ h)) hown hK hP 2 rfl rfl 10 (by decide) (hts (.fieldLink RX10 120 "LineCitesModel" "token" "I") (List.mem_of_getElem? (i := 24) rfl)) (fun _ h9 => h9) rfl dX10_work_95 ?_
        refine lv_if_eq (tgt := 106) hx hb dX10_work_98 (by decide) (fun c232 => ?_) (fun c232 => ?_)
        · have nc232 : v225.toInt = 0 := pw_eq c232 rfl (by decide)
          have hob := ou_b hou
          refine lv_aload_n hx hb dX10_work_106 rfl (lv_at hl 0 rfl) ?_
          refine lv_iconst (v := 0) hx hb dX10_work_107 (by decide) ?_
          refine va_put (D := D) (ci := 10) (v := .int 0) (ty := .int) (C := RX10) (T := TX10) (N := 25) hx hb hts (fun _ h => List.mem_cons_of_mem _ (List.mem_append_right _ h)) tyX10 tyX10_ok nmX10 hown hK hP hD hS 2 rfl rfl 7 (by decide) (hts (.fieldLink RX10 95 "LineCitesModel" "taped" "I") (List.mem_of_getElem? (i := 14) rfl)) (fun _ h9 => h9) rfl (by decide +kernel) rfl rfl (Nat.le_of_ble_eq_true rfl) dX10_work_108 (fun H locs hP hD hS => ?_)
          have hP : va_P D vwCl [(m_draft, .inl (kI, 192, .inl f222)), (m_now, .inl (kI, 192, .inl g_now)), (h0, .inr (10, [.ref m_now, .ref m_draft, .ref m_past, .int j_acts, .ref m_images, .ref m_kept, .ref m_tape, .int 0, .int v223, .int v224, .int v225, .int v226, .int v227, .int v228, .int j_latest, .ref m_low, .ref m_high, .ref m_first, .ref m_second, .ref m_lines, .ref m_others, .int j_shiftFirst, .int j_shiftMany, .int j_shiftLow, .int j_shiftHigh])), (m_tape, .inl (kI, 200, .inl g_tape))] H := hP
          have hD : va_D A [(m_draft, .inl (kI, 192, .inl f222)), (m_now, .inl (kI, 192, .inl g_now)), (h0, .inr (10, [.ref m_now, .ref m_draft, .ref m_past, .int j_acts, .ref m_images, .ref m_kept, .ref m_tape, .int 0, .int v223, .int v224, .int v225, .int v226, .int v227, .int v228, .int j_latest, .ref m_low, .ref m_high, .ref m_first, .ref m_second, .ref m_lines, .ref m_others, .int j_shiftFirst, .int j_shiftMany, .int j_shiftLow, .int j_shiftHigh])), (m_tape, .inl (kI, 200, .inl g_tape))] := hD
          have hK : va_K D vwCl [(kI, .int), (kI, .int), (kI, .int), (kI, .int)] s := hK
          refine lv_aload_n hx hb dX10_work_111 rfl (lv_at hl 0 rfl) ?_
          refine va_get (D := D) (ci := 10) (v := .int v227) (C := RX10) (T := TX10) (N := 25) hx hb hts (fun _ h => List.mem_cons_of_mem _ (List.mem_append_right _ h)) hown hK hP 2 rfl rfl 12 (by decide) (hts (.fieldLink RX10 123 "LineCitesModel" "fault" "I") (List.mem_of_getElem? (i := 3) rfl)) (fun _ h9 => h9) rfl dX10_work_112 ?_
          refine lv_if_le (tgt := 134) hx hb dX10_work_115 (by decide) (fun c233 => ?_) (fun c233 => ?_)
          · have nc233 : v227.toInt ≤ 0 := pw_le c233 rfl (by decide)
            have hX1 := ou_yes hou (by omega) (by omega) (by omega)
            refine lv_aload_n hx hb dX10_work_134 rfl (lv_at hl 0 rfl) ?_
            refine va_get (D := D) (ci := 10) (v := .ref m_draft) (C := RX10) (T := TX10) (N := 25) hx hb hts (fun _ h => List.mem_cons_of_mem _ (List.mem_append_right _ h)) hown hK hP 2 rfl rfl 1 (by decide) (hts (.fieldLink RX10 13 "LineCitesModel" "draft" "[I") (List.mem_of_getElem? (i := 1) rfl)) (fun _ h9 => h9) rfl dX10_work_135 ?_
            refine lv_iconst (v := 0) hx hb dX10_work_138 (by decide) ?_
            refine lv_aload_n hx hb dX10_work_139 rfl (lv_at hl 0 rfl) ?_
            refine va_get (D := D) (ci := 10) (v := .ref m_now) (C := RX10) (T := TX10) (N := 25) hx hb hts (fun _ h => List.mem_cons_of_mem _ (List.mem_append_right _ h)) hown hK hP 2 rfl rfl 0 (by decide) (hts (.fieldLink RX10 7 "LineCitesModel" "now" "[I") (List.mem_of_getElem? (i := 47) rfl)) (fun _ h9 => h9) rfl dX10_work_140 ?_
            refine lv_iconst (v := 0) hx hb dX10_work_143 (by decide) ?_
            have kk0 : (0 : Int32).toInt = 0 := by decide
            have kk0 : (0 : Int32).toInt = 0 := by decide
            have hPc := hP.sub (ws' := [(m_draft, .inl (kI, 192, .inl f222)), (m_now, .inl (kI, 192, .inl g_now))]) [0, 1] rfl
            have hKc := hK.sub (tys' := [(kI, .int)]) [0] rfl
            have hDc := hD.sub (ws' := [(m_draft, .inl (kI, 192, .inl f222)), (m_now, .inl (kI, 192, .inl g_now))]) [0, 1] (by decide) rfl
            have hFc := va_free (wc := [(m_draft, .inl (kI, 192, .inl f222)), (m_now, .inl (kI, 192, .inl g_now))]) hD hS hA [0, 1] rfl
            refine va_callv (va_runS (As := [.ref m_draft, .int 0, .ref m_now, .int 0]) (rest := []) ⟨hx, hb, hml, hown, hts⟩ (c_X10_copies l D m_draft 0 m_now 0 kI f222 g_now 0 0 H.size (by first | decide | omega) (by first | decide | omega) (by first | decide | omega) (by first | decide | omega) (by first | omega | decide | (have hz0 : (0 : Int32).toInt = 0 := (by decide); omega)) (by first | omega | decide | (have hz0 : (0 : Int32).toInt = 0 := (by decide); omega))) (cwS 4 hts g_X10_work_X10_copies rfl rfl rfl (by decide +kernel) ⟨Nat.le_of_ble_eq_true rfl, Nat.le_of_ble_eq_true rfl⟩) ⟨fun a U g mk q => by obtain ⟨q0, q1, qP, qK, qD⟩ := q; exact ⟨q0, q1, qP, va_K.moved (u := U) (U := U.calling g mk a) (Vm.Alike.refl U.vm) qK, qD⟩, fun U hU hW => ⟨rfl, by rw [hU], by rw [hU]; exact hPc, va_K.moved hW.alike hKc, hDc.weaken (fun _ _ _ _ => trivial)⟩⟩ rfl rfl hl.1 rfl (lv_room (Nat.le_of_ble_eq_true rfl)) dX10_work_144 ⟨Nat.le_of_ble_eq_true rfl, Nat.le_of_ble_eq_true rfl⟩) hS (fun q _ h => hFc q h) hFc (fun u t H1 locs ht hvm hw hB hz1 hk1 hS => ?_)
            obtain ⟨y235, hP1, hK1, hD1, px0_r234⟩ := hB
            rw [ht] at hP1
            have hK1 := va_K.moved hvm.symm hK1
            obtain ⟨hP, hD⟩ := va_join (wr := [(h0, .inr (10, [.ref m_now, .ref m_draft, .ref m_past, .int j_acts, .ref m_images, .ref m_kept, .ref m_tape, .int 0, .int v223, .int v224, .int v225, .int v226, .int v227, .int v228, .int j_latest, .ref m_low, .ref m_high, .ref m_first, .ref m_second, .ref m_lines, .ref m_others, .int j_shiftFirst, .int j_shiftMany, .int j_shiftLow, .int j_shiftHigh])), (m_tape, .inl (kI, 200, .inl g_tape))]) (w1 := [(m_draft, .inl (kI, 192, .inl f222)), (m_now, .inl (kI, 192, .inl y235))]) hP hD [0, 1] [2, 3] rfl rfl (by decide) (by decide) hk1 hFc hP1 hD1
            have hK := (hK.sub (tys' := [(kI, .int), (kI, .int), (kI, .int), (kI, .int)]) [0, 1, 2, 3] rfl).app hK1
            generalize H1 = H at hP hS ⊢
            have hP : va_P D vwCl [(h0, .inr (10, [.ref m_now, .ref m_draft, .ref m_past, .int j_acts, .ref m_images, .ref m_kept, .ref m_tape, .int 0, .int v223, .int v224, .int v225, .int v226, .int v227, .int v228, .int j_latest, .ref m_low, .ref m_high, .ref m_first, .ref m_second, .ref m_lines, .ref m_others, .int j_shiftFirst, .int j_shiftMany, .int j_shiftLow, .int j_shiftHigh])), (m_tape, .inl (kI, 200, .inl g_tape)), (m_draft, .inl (kI, 192, .inl f222)), (m_now, .inl (kI, 192, .inl y235))] H := hP
            have hD : va_D A [(h0, .inr (10, [.ref m_now, .ref m_draft, .ref m_past, .int j_acts, .ref m_images, .ref m_kept, .ref m_tape, .int 0, .int v223, .int v224, .int v225, .int v226, .int v227, .int v228, .int j_latest, .ref m_low, .ref m_high, .ref m_first, .ref m_second, .ref m_lines, .ref m_others, .int j_shiftFirst, .int j_shiftMany, .int j_shiftLow, .int j_shiftHigh])), (m_tape, .inl (kI, 200, .inl g_tape)), (m_draft, .inl (kI, 192, .inl f222)), (m_now, .inl (kI, 192, .inl y235))] := hD
            have hK : va_K D vwCl [(kI, .int), (kI, .int), (kI, .int), (kI, .int), (kI, .int)] s := hK
            refine W.widen (k := 0) (n := 0) (Nat.le_of_ble_eq_true rfl) (Nat.le_of_ble_eq_true rfl) ?_
            refine lv_aload_n hx hb dX10_work_147 rfl (lv_at hl 0 rfl) ?_
            refine lv_iconst (v := 0) hx hb dX10_work_148 (by decide) ?_
            refine va_put (D := D) (ci := 10) (v := .int 0) (ty := .int) (C := RX10) (T := TX10) (N := 25) hx hb hts (fun _ h => List.mem_cons_of_mem _ (List.mem_append_right _ h)) tyX10 tyX10_ok nmX10 hown hK hP hD hS 0 rfl rfl 3 (by decide) (hts (.fieldLink RX10 195 "LineCitesModel" "acts" "I") (List.mem_of_getElem? (i := 51) rfl)) (fun _ h9 => h9) rfl (by decide +kernel) rfl rfl (Nat.le_of_ble_eq_true rfl) dX10_work_149 (fun H locs hP hD hS => ?_)
            have hP : va_P D vwCl [(h0, .inr (10, [.ref m_now, .ref m_draft, .ref m_past, .int 0, .ref m_images, .ref m_kept, .ref m_tape, .int 0, .int v223, .int v224, .int v225, .int v226, .int v227, .int v228, .int j_latest, .ref m_low, .ref m_high, .ref m_first, .ref m_second, .ref m_lines, .ref m_others, .int j_shiftFirst, .int j_shiftMany, .int j_shiftLow, .int j_shiftHigh])), (m_tape, .inl (kI, 200, .inl g_tape)), (m_draft, .inl (kI, 192, .inl f222)), (m_now, .inl (kI, 192, .inl y235))] H := hP
            have hD : va_D A [(h0, .inr (10, [.ref m_now, .ref m_draft, .ref m_past, .int 0, .ref m_images, .ref m_kept, .ref m_tape, .int 0, .int v223, .int v224, .int v225, .int v226, .int v227, .int v228, .int j_latest, .ref m_low, .ref m_high, .ref m_first, .ref m_second, .ref m_lines, .ref m_others, .int j_shiftFirst, .int j_shiftMany, .int j_shiftLow, .int j_shiftHigh])), (m_tape, .inl (kI, 200, .inl g_tape)), (m_draft, .inl (kI, 192, .inl f222)), (m_now, .inl (kI, 192, .inl y235))] := hD
            have hK : va_K D vwCl [(kI, .int), (kI, .int), (kI, .int), (kI, .int), (kI, .int)] s := hK
            refine lv_aload_n hx hb dX10_work_152 rfl (lv_at hl 0 rfl) ?_
            refine va_get (D := D) (ci := 10) (v := .ref m_now) (C := RX10) (T := TX10) (N := 25) hx hb hts (fun _ h => List.mem_cons_of_mem _ (List.mem_append_right _ h)) hown hK hP 0 rfl rfl 0 (by decide) (hts (.fieldLink RX10 7 "LineCitesModel" "now" "[I") (List.mem_of_getElem? (i := 47) rfl)) (fun _ h9 => h9) rfl dX10_work_153 ?_
            refine lv_iconst (v := 1) hx hb dX10_work_156 (by decide) ?_
            refine va_iald hx hb hK hP 3 0 rfl rfl (vp_in_iff.mpr (by decide)) dX10_work_157 ?_
            refine lv_topi (fun x236 ex236 => ?_)
            have hP9 := hP.sub (ws' := [(h0, .inr (10, [.ref m_now, .ref m_draft, .ref m_past, .int 0, .ref m_images, .ref m_kept, .ref m_tape, .int 0, .int v223, .int v224, .int v225, .int v226, .int v227, .int v228, .int j_latest, .ref m_low, .ref m_high, .ref m_first, .ref m_second, .ref m_lines, .ref m_others, .int j_shiftFirst, .int j_shiftMany, .int j_shiftLow, .int j_shiftHigh])), (m_tape, .inl (kI, 200, .inl g_tape)), (m_draft, .inl (kI, 192, .inl f222)), (m_now, .inl (kI, 192, .inl y235))]) [0, 1, 2, 3] rfl
            have hD9 := hD.sub (ws' := [(h0, .inr (10, [.ref m_now, .ref m_draft, .ref m_past, .int 0, .ref m_images, .ref m_kept, .ref m_tape, .int 0, .int v223, .int v224, .int v225, .int v226, .int v227, .int v228, .int j_latest, .ref m_low, .ref m_high, .ref m_first, .ref m_second, .ref m_lines, .ref m_others, .int j_shiftFirst, .int j_shiftMany, .int j_shiftLow, .int j_shiftHigh])), (m_tape, .inl (kI, 200, .inl g_tape)), (m_draft, .inl (kI, 192, .inl f222)), (m_now, .inl (kI, 192, .inl y235))]) [0, 1, 2, 3] (by decide) rfl
            have hK9 := hK.sub (tys' := [(kI, .int)]) [0] rfl
            refine W.widen (k := 0) (n := 0) (Nat.le_of_ble_eq_true rfl) (Nat.le_of_ble_eq_true rfl) ?_
            exact W.iret (v := x236) hx hb hr (fun t ht hW => ⟨⟨x236, (), rfl, trivial, v224, v223, v225, v226, v227, v228, j_latest, 0, f222, y235, by rw [ht]; exact hP9, va_K.moved hW.alike hK9, hD9, (wkM_1 hX1 hf222 (by rw [hL0]; exact hL1 (by omega)) px0_r234)⟩, hS.F ht⟩) hS.2.2 dX10_work_158
          · have nc233 : 0 < v227.toInt := pw_nle c233 rfl (by decide)
            have hX0 := (ou_no hou (by omega)).2.2
            refine lv_aload_n hx hb dX10_work_118 rfl (lv_at hl 0 rfl) ?_
            refine lv_aload_n hx hb dX10_work_119 rfl (lv_at hl 0 rfl) ?_
            refine va_get (D := D) (ci := 10) (v := .int v227) (C := RX10) (T := TX10) (N := 25) hx hb hts (fun _ h => List.mem_cons_of_mem _ (List.mem_append_right _ h)) hown hK hP 2 rfl rfl 12 (by decide) (hts (.fieldLink RX10 123 "LineCitesModel" "fault" "I") (List.mem_of_getElem? (i := 3) rfl)) (fun _ h9 => h9) rfl dX10_work_120 ?_
            refine va_put (D := D) (ci := 10) (v := .int v227) (ty := .int) (C := RX10) (T := TX10) (N := 25) hx hb hts (fun _ h => List.mem_cons_of_mem _ (List.mem_append_right _ h)) tyX10 tyX10_ok nmX10 hown hK hP hD hS 2 rfl rfl 14 (by decide) (hts (.fieldLink RX10 187 "LineCitesModel" "latest" "I") (List.mem_of_getElem? (i := 52) rfl)) (fun _ h9 => h9) rfl (by decide +kernel) rfl rfl (Nat.le_of_ble_eq_true rfl) dX10_work_123 (fun H locs hP hD hS => ?_)
            have hP : va_P D vwCl [(m_draft, .inl (kI, 192, .inl f222)), (m_now, .inl (kI, 192, .inl g_now)), (h0, .inr (10, [.ref m_now, .ref m_draft, .ref m_past, .int j_acts, .ref m_images, .ref m_kept, .ref m_tape, .int 0, .int v223, .int v224, .int v225, .int v226, .int v227, .int v228, .int v227, .ref m_low, .ref m_high, .ref m_first, .ref m_second, .ref m_lines, .ref m_others, .int j_shiftFirst, .int j_shiftMany, .int j_shiftLow, .int j_shiftHigh])), (m_tape, .inl (kI, 200, .inl g_tape))] H := hP
            have hD : va_D A [(m_draft, .inl (kI, 192, .inl f222)), (m_now, .inl (kI, 192, .inl g_now)), (h0, .inr (10, [.ref m_now, .ref m_draft, .ref m_past, .int j_acts, .ref m_images, .ref m_kept, .ref m_tape, .int 0, .int v223, .int v224, .int v225, .int v226, .int v227, .int v228, .int v227, .ref m_low, .ref m_high, .ref m_first, .ref m_second, .ref m_lines, .ref m_others, .int j_shiftFirst, .int j_shiftMany, .int j_shiftLow, .int j_shiftHigh])), (m_tape, .inl (kI, 200, .inl g_tape))] := hD
            have hK : va_K D vwCl [(kI, .int), (kI, .int), (kI, .int), (kI, .int)] s := hK
            refine lv_ldc hx hb hown (hts (.constant RX10 190 (-1000100)) (List.mem_of_getElem? (i := 53) rfl)) dX10_work_126 ?_
            refine lv_aload_n hx hb dX10_work_128 rfl (lv_at hl 0 rfl) ?_
            refine va_get (D := D) (ci := 10) (v := .int v228) (C := RX10) (T := TX10) (N := 25) hx hb hts (fun _ h => List.mem_cons_of_mem _ (List.mem_append_right _ h)) hown hK hP 2 rfl rfl 13 (by decide) (hts (.fieldLink RX10 126 "LineCitesModel" "place" "I") (List.mem_of_getElem? (i := 46) rfl)) (fun _ h9 => h9) rfl dX10_work_129 ?_
            refine lv_isub hx hb dX10_work_132 ?_
            refine lv_topi (fun x237 ex237 => ?_)
            have hP9 := hP.sub (ws' := [(h0, .inr (10, [.ref m_now, .ref m_draft, .ref m_past, .int j_acts, .ref m_images, .ref m_kept, .ref m_tape, .int 0, .int v223, .int v224, .int v225, .int v226, .int v227, .int v228, .int v227, .ref m_low, .ref m_high, .ref m_first, .ref m_second, .ref m_lines, .ref m_others, .int j_shiftFirst, .int j_shiftMany, .int j_shiftLow, .int j_shiftHigh])), (m_tape, .inl (kI, 200, .inl g_tape)), (m_draft, .inl (kI, 192, .inl f222)), (m_now, .inl (kI, 192, .inl g_now))]) [2, 3, 0, 1] rfl
            have hD9 := hD.sub (ws' := [(h0, .inr (10, [.ref m_now, .ref m_draft, .ref m_past, .int j_acts, .ref m_images, .ref m_kept, .ref m_tape, .int 0, .int v223, .int v224, .int v225, .int v226, .int v227, .int v228, .int v227, .ref m_low, .ref m_high, .ref m_first, .ref m_second, .ref m_lines, .ref m_others, .int j_shiftFirst, .int j_shiftMany, .int j_shiftLow, .int j_shiftHigh])), (m_tape, .inl (kI, 200, .inl g_tape)), (m_draft, .inl (kI, 192, .inl f222)), (m_now, .inl (kI, 192, .inl g_now))]) [2, 3, 0, 1] (by decide) rfl
            have hK9 := hK.sub (tys' := [(kI, .int)]) [0] rfl
            refine W.widen (k := 0) (n := 0) (Nat.le_of_ble_eq_true rfl) (Nat.le_of_ble_eq_true rfl) ?_
            exact W.iret (v := x237) hx hb hr (fun t ht hW => ⟨⟨x237, (), rfl, trivial, v224, v223, v225, v226, v227, v228, v227, j_acts, f222, g_now, by rw [ht]; exact hP9, va_K.moved hW.alike hK9, hD9, (wkM_0 hX0)⟩, hS.F ht⟩) hS.2.2 dX10_work_133
        · have nc232 : v225.toInt ≠ 0 := pw_ne c232 rfl (by decide)
          have hX0 : (bI (uWork (tR g_tape) j_taped.toInt.toNat)) = 0 := by
            by_cases z : v227.toInt = 0
            · exact ou_bad hou z (by omega) (by omega) hf222.h1.1
            · exact (ou_no hou z).2.2
          have hob := ou_b hou
          refine lv_aload_n hx hb dX10_work_101 rfl (lv_at hl 0 rfl) ?_
          refine lv_iconst (v := 1) hx hb dX10_work_102 (by decide) ?_
          have kk1 : (1 : Int32).toInt = 1 := by decide
          have hPc := hP.sub (ws' := [(h0, .inr (10, [.ref m_now, .ref m_draft, .ref m_past, .int j_acts, .ref m_images, .ref m_kept, .ref m_tape, .int j_taped, .int v223, .int v224, .int v225, .int v226, .int v227, .int v228, .int j_latest, .ref m_low, .ref m_high, .ref m_first, .ref m_second, .ref m_lines, .ref m_others, .int j_shiftFirst, .int j_shiftMany, .int j_shiftLow, .int j_shiftHigh]))]) [2] rfl
          have hKc := hK.sub (tys' := []) [] rfl
          have hDc := hD.sub (ws' := [(h0, .inr (10, [.ref m_now, .ref m_draft, .ref m_past, .int j_acts, .ref m_images, .ref m_kept, .ref m_tape, .int j_taped, .int v223, .int v224, .int v225, .int v226, .int v227, .int v228, .int j_latest, .ref m_low, .ref m_high, .ref m_first, .ref m_second, .ref m_lines, .ref m_others, .int j_shiftFirst, .int j_shiftMany, .int j_shiftLow, .int j_shiftHigh]))]) [2] (by decide) rfl
          have hFc := va_free (wc := [(h0, .inr (10, [.ref m_now, .ref m_draft, .ref m_past, .int j_acts, .ref m_images, .ref m_kept, .ref m_tape, .int j_taped, .int v223, .int v224, .int v225, .int v226, .int v227, .int v228, .int j_latest, .ref m_low, .ref m_high, .ref m_first, .ref m_second, .ref m_lines, .ref m_others, .int j_shiftFirst, .int j_shiftMany, .int j_shiftLow, .int j_shiftHigh]))]) hD hS hA [2] rfl
          refine va_callv (va_runV (As := [.int 1]) (rest := []) ⟨hx, hb, hml, hown, hts⟩ (c_X10_bad l D h0 1 m_now m_draft m_past j_acts m_images m_kept m_tape j_taped v223 v224 v225 v226 v227 v228 j_latest m_low m_high m_first m_second m_lines m_others j_shiftFirst j_shiftMany j_shiftLow j_shiftHigh H.size) (cwV 1 hts g_X10_work_X10_bad rfl rfl rfl (by decide +kernel) ⟨Nat.le_of_ble_eq_true rfl, Nat.le_of_ble_eq_true rfl⟩) ⟨fun a U g mk q => by obtain ⟨q0, q1, qP, qK, qD⟩ := q; exact ⟨q0, q1, qP, va_K.moved (u := U) (U := U.calling g mk a) (Vm.Alike.refl U.vm) qK, qD⟩, va_recv hKc hPc (ci := 10) (q0 := 0) rfl rfl, fun U hU hW => ⟨rfl, by rw [hU], by rw [hU]; exact hPc, va_K.moved hW.alike hKc, hDc.weaken (fun _ _ _ _ => trivial)⟩⟩ rfl rfl hl.1 rfl (lv_room (Nat.le_of_ble_eq_true rfl)) dX10_work_103 ⟨Nat.le_of_ble_eq_true rfl, Nat.le_of_ble_eq_true rfl⟩) hS (fun q _ h => hFc q h) hFc (fun u t H1 locs ht hvm hw hB hz1 hk1 hS => ?_)
          obtain ⟨y239, y240, hP1, hK1, hD1, px0_r238⟩ := hB
          rw [ht] at hP1
          have hK1 := va_K.moved hvm.symm hK1
          obtain ⟨hP, hD⟩ := va_join (wr := [(m_draft, .inl (kI, 192, .inl f222)), (m_now, .inl (kI, 192, .inl g_now)), (m_tape, .inl (kI, 200, .inl g_tape))]) (w1 := [(h0, .inr (10, [.ref m_now, .ref m_draft, .ref m_past, .int j_acts, .ref m_images, .ref m_kept, .ref m_tape, .int j_taped, .int v223, .int v224, .int v225, .int v226, .int y239, .int y240, .int j_latest, .ref m_low, .ref m_high, .ref m_first, .ref m_second, .ref m_lines, .ref m_others, .int j_shiftFirst, .int j_shiftMany, .int j_shiftLow, .int j_shiftHigh]))]) hP hD [2] [0, 1, 3] rfl rfl (by decide) (by decide) hk1 hFc hP1 hD1
          have hK := (hK.sub (tys' := [(kI, .int), (kI, .int), (kI, .int), (kI, .int)]) [0, 1, 2, 3] rfl).app hK1
          generalize H1 = H at hP hS ⊢
          have hP : va_P D vwCl [(m_draft, .inl (kI, 192, .inl f222)), (m_now, .inl (kI, 192, .inl g_now)), (m_tape, .inl (kI, 200, .inl g_tape)), (h0, .inr (10, [.ref m_now, .ref m_draft, .ref m_past, .int j_acts, .ref m_images, .ref m_kept, .ref m_tape, .int j_taped, .int v223, .int v224, .int v225, .int v226, .int y239, .int y240, .int j_latest, .ref m_low, .ref m_high, .ref m_first, .ref m_second, .ref m_lines, .ref m_others, .int j_shiftFirst, .int j_shiftMany, .int j_shiftLow, .int j_shiftHigh]))] H := hP
          have hD : va_D A [(m_draft, .inl (kI, 192, .inl f222)), (m_now, .inl (kI, 192, .inl g_now)), (m_tape, .inl (kI, 200, .inl g_tape)), (h0, .inr (10, [.ref m_now, .ref m_draft, .ref m_past, .int j_acts, .ref m_images, .ref m_kept, .ref m_tape, .int j_taped, .int v223, .int v224, .int v225, .int v226, .int y239, .int y240, .int j_latest, .ref m_low, .ref m_high, .ref m_first, .ref m_second, .ref m_lines, .ref m_others, .int j_shiftFirst, .int j_shiftMany, .int j_shiftLow, .int j_shiftHigh]))] := hD
          have hK : va_K D vwCl [(kI, .int), (kI, .int), (kI, .int), (kI, .int)] s := hK
          refine W.widen (k := 0) (n := 0) (Nat.le_of_ble_eq_true rfl) (Nat.le_of_ble_eq_true rfl) ?_
          have nf3 : 1 ≤ y239.toInt := by have kk1 : (1 : Int32).toInt = 1 := (by decide); omega
          refine lv_aload_n hx hb dX10_work_106 rfl (lv_at hl 0 rfl) ?_
          refine lv_iconst (v := 0) hx hb dX10_work_107 (by decide) ?_
          refine va_put (D := D) (ci := 10) (v := .int 0) (ty := .int) (C := RX10) (T := TX10) (N := 25) hx hb hts (fun _ h => List.mem_cons_of_mem _ (List.mem_append_right _ h)) tyX10 tyX10_ok nmX10 hown hK hP hD hS 3 rfl rfl 7 (by decide) (hts (.fieldLink RX10 95 "LineCitesModel" "taped" "I") (List.mem_of_getElem? (i := 14) rfl)) (fun _ h9 => h9) rfl (by decide +kernel) rfl rfl (Nat.le_of_ble_eq_true rfl) dX10_work_108 (fun H locs hP hD hS => ?_)
          have hP : va_P D vwCl [(m_draft, .inl (kI, 192, .inl f222)), (m_now, .inl (kI, 192, .inl g_now)), (m_tape, .inl (kI, 200, .inl g_tape)), (h0, .inr (10, [.ref m_now, .ref m_draft, .ref m_past, .int j_acts, .ref m_images, .ref m_kept, .ref m_tape, .int 0, .int v223, .int v224, .int v225, .int v226, .int y239, .int y240, .int j_latest, .ref m_low, .ref m_high, .ref m_first, .ref m_second, .ref m_lines, .ref m_others, .int j_shiftFirst, .int j_shiftMany, .int j_shiftLow, .int j_shiftHigh]))] H := hP
          have hD : va_D A [(m_draft, .inl (kI, 192, .inl f222)), (m_now, .inl (kI, 192, .inl g_now)), (m_tape, .inl (kI, 200, .inl g_tape)), (h0, .inr (10, [.ref m_now, .ref m_draft, .ref m_past, .int j_acts, .ref m_images, .ref m_kept, .ref m_tape, .int 0, .int v223, .int v224, .int v225, .int v226, .int y239, .int y240, .int j_latest, .ref m_low, .ref m_high, .ref m_first, .ref m_second, .ref m_lines, .ref m_others, .int j_shiftFirst, .int j_shiftMany, .int j_shiftLow, .int j_shiftHigh]))] := hD
          have hK : va_K D vwCl [(kI, .int), (kI, .int), (kI, .int), (kI, .int)] s := hK
          refine lv_aload_n hx hb dX10_work_111 rfl (lv_at hl 0 rfl) ?_
          refine va_get (D := D) (ci := 10) (v := .int y239) (C := RX10) (T := TX10) (N := 25) hx hb hts (fun _ h => List.mem_cons_of_mem _ (List.mem_append_right _ h)) hown hK hP 3 rfl rfl 12 (by decide) (hts (.fieldLink RX10 123 "LineCitesModel" "fault" "I") (List.mem_of_getElem? (i := 3) rfl)) (fun _ h9 => h9) rfl dX10_work_112 ?_
          refine lv_if_le (tgt := 134) hx hb dX10_work_115 (by decide) (fun c241 => False.elim (by have nn : y239.toInt ≤ 0 := pw_le c241 rfl (by decide); omega)) (fun c241 => ?_)
          have nc241 : 0 < y239.toInt := pw_nle c241 rfl (by decide)
          refine lv_aload_n hx hb dX10_work_118 rfl (lv_at hl 0 rfl) ?_
          refine lv_aload_n hx hb dX10_work_119 rfl (lv_at hl 0 rfl) ?_
          refine va_get (D := D) (ci := 10) (v := .int y239) (C := RX10) (T := TX10) (N := 25) hx hb hts (fun _ h => List.mem_cons_of_mem _ (List.mem_append_right _ h)) hown hK hP 3 rfl rfl 12 (by decide) (hts (.fieldLink RX10 123 "LineCitesModel" "fault" "I") (List.mem_of_getElem? (i := 3) rfl)) (fun _ h9 => h9) rfl dX10_work_120 ?_
          refine va_put (D := D) (ci := 10) (v := .int y239) (ty := .int) (C := RX10) (T := TX10) (N := 25) hx hb hts (fun _ h => List.mem_cons_of_mem _ (List.mem_append_right _ h)) tyX10 tyX10_ok nmX10 hown hK hP hD hS 3 rfl rfl 14 (by decide) (hts (.fieldLink RX10 187 "LineCitesModel" "latest" "I") (List.mem_of_getElem? (i := 52) rfl)) (fun _ h9 => h9) rfl (by decide +kernel) rfl rfl (Nat.le_of_ble_eq_true rfl) dX10_work_123 (fun H locs hP hD hS => ?_)
          have hP : va_P D vwCl [(m_draft, .inl (kI, 192, .inl f222)), (m_now, .inl (kI, 192, .inl g_now)), (m_tape, .inl (kI, 200, .inl g_tape)), (h0, .inr (10, [.ref m_now, .ref m_draft, .ref m_past, .int j_acts, .ref m_images, .ref m_kept, .ref m_tape, .int 0, .int v223, .int v224, .int v225, .int v226, .int y239, .int y240, .int y239, .ref m_low, .ref m_high, .ref m_first, .ref m_second, .ref m_lines, .ref m_others, .int j_shiftFirst, .int j_shiftMany, .int j_shiftLow, .int j_shiftHigh]))] H := hP
          have hD : va_D A [(m_draft, .inl (kI, 192, .inl f222)), (m_now, .inl (kI, 192, .inl g_now)), (m_tape, .inl (kI, 200, .inl g_tape)), (h0, .inr (10, [.ref m_now, .ref m_draft, .ref m_past, .int j_acts, .ref m_images, .ref m_kept, .ref m_tape, .int 0, .int v223, .int v224, .int v225, .int v226, .int y239, .int y240, .int y239, .ref m_low, .ref m_high, .ref m_first, .ref m_second, .ref m_lines, .ref m_others, .int j_shiftFirst, .int j_shiftMany, .int j_shiftLow, .int j_shiftHigh]))] := hD
          have hK : va_K D vwCl [(kI, .int), (kI, .int), (kI, .int), (kI, .int)] s := hK
          refine lv_ldc hx hb hown (hts (.constant RX10 190 (-1000100)) (List.mem_of_getElem? (i := 53) rfl)) dX10_work_126 ?_
          refine lv_aload_n hx hb dX10_work_128 rfl (lv_at hl 0 rfl) ?_
          refine va_get (D := D) (ci := 10) (v := .int y240) (C := RX10) (T := TX10) (N := 25) hx hb hts (fun _ h => List.mem_cons_of_mem _ (List.mem_append_right _ h)) hown hK hP 3 rfl rfl 13 (by decide) (hts (.fieldLink RX10 126 "LineCitesModel" "place" "I") (List.mem_of_getElem? (i := 46) rfl)) (fun _ h9 => h9) rfl dX10_work_129 ?_
          refine lv_isub hx hb dX10_work_132 ?_
          refine lv_topi (fun x242 ex242 => ?_)
          have hP9 := hP.sub (ws' := [(h0, .inr (10, [.ref m_now, .ref m_draft, .ref m_past, .int j_acts, .ref m_images, .ref m_kept, .ref m_tape, .int 0, .int v223, .int v224, .int v225, .int v226, .int y239, .int y240, .int y239, .ref m_low, .ref m_high, .ref m_first, .ref m_second, .ref m_lines, .ref m_others, .int j_shiftFirst, .int j_shiftMany, .int j_shiftLow, .int j_shiftHigh])), (m_tape, .inl (kI, 200, .inl g_tape)), (m_draft, .inl (kI, 192, .inl f222)), (m_now, .inl (kI, 192, .inl g_now))]) [3, 2, 0, 1] rfl
          have hD9 := hD.sub (ws' := [(h0, .inr (10, [.ref m_now, .ref m_draft, .ref m_past, .int j_acts, .ref m_images, .ref m_kept, .ref m_tape, .int 0, .int v223, .int v224, .int v225, .int v226, .int y239, .int y240, .int y239, .ref m_low, .ref m_high, .ref m_first, .ref m_second, .ref m_lines, .ref m_others, .int j_shiftFirst, .int j_shiftMany, .int j_shiftLow, .int j_shiftHigh])), (m_tape, .inl (kI, 200, .inl g_tape)), (m_draft, .inl (kI, 192, .inl f222)), (m_now, .inl (kI, 192, .inl g_now))]) [3, 2, 0, 1] (by decide) rfl
          have hK9 := hK.sub (tys' := [(kI, .int)]) [0] rfl
          refine W.widen (k := 0) (n := 0) (Nat.le_of_ble_eq_true rfl) (Nat.le_of_ble_eq_true rfl) ?_
          exact W.iret (v := x242) hx hb hr (fun t ht hW => ⟨⟨x242, (), rfl, trivial, v224, v223, v225, v226, y239, y240, y239, j_acts, f222, g_now, by rw [ht]; exact hP9, va_K.moved hW.alike hK9, hD9, (wkM_0 hX0)⟩, hS.F ht⟩) hS.2.2 dX10_work_133
      · have nc231 : r230.toInt ≠ 0 := pw_ne c231 rfl (by decide)
        obtain ⟨q2, kq2, ps2, hcq, hkq, hX, hz9⟩ := ou_get hou (by omega)
        have hca := cu_at hcq
        have h101 : tTok (tR g_tape) j_taped.toInt.toNat q2 = 101 := (cu_let hcq (by decide) (by decide)).mp ⟨by omega, by omega⟩
        have hcur : v227.toInt = 0 → cuR (tR g_tape) j_taped.toInt.toNat q2 v223.toInt v225.toInt v226.toInt := fun _ => hcq
        have hdz := hdz0 (by omega)
        rw [← hL0] at hX
        refine lv_aload_n hx hb dX10_work_87 rfl (lv_at hl 0 rfl) ?_
        have hPc := hP.sub (ws' := [(h0, .inr (10, [.ref m_now, .ref m_draft, .ref m_past, .int j_acts, .ref m_images, .ref m_kept, .ref m_tape, .int j_taped, .int v223, .int v224, .int v225, .int v226, .int v227, .int v228, .int j_latest, .ref m_low, .ref m_high, .ref m_first, .ref m_second, .ref m_lines, .ref m_others, .int j_shiftFirst, .int j_shiftMany, .int j_shiftLow, .int j_shiftHigh])), (m_tape, .inl (kI, 200, .inl g_tape)), (m_draft, .inl (kI, 192, .inl f222))]) [2, 3, 0] rfl
        have hKc := hK.sub (tys' := [(kI, .int)]) [0] rfl
        have hDc := hD.sub (ws' := [(h0, .inr (10, [.ref m_now, .ref m_draft, .ref m_past, .int j_acts, .ref m_images, .ref m_kept, .ref m_tape, .int j_taped, .int v223, .int v224, .int v225, .int v226, .int v227, .int v228, .int j_latest, .ref m_low, .ref m_high, .ref m_first, .ref m_second, .ref m_lines, .ref m_others, .int j_shiftFirst, .int j_shiftMany, .int j_shiftLow, .int j_shiftHigh])), (m_tape, .inl (kI, 200, .inl g_tape)), (m_draft, .inl (kI, 192, .inl f222))]) [2, 3, 0] (by decide) rfl
        have hFc := va_free (wc := [(h0, .inr (10, [.ref m_now, .ref m_draft, .ref m_past, .int j_acts, .ref m_images, .ref m_kept, .ref m_tape, .int j_taped, .int v223, .int v224, .int v225, .int v226, .int v227, .int v228, .int j_latest, .ref m_low, .ref m_high, .ref m_first, .ref m_second, .ref m_lines, .ref m_others, .int j_shiftFirst, .int j_shiftMany, .int j_shiftLow, .int j_shiftHigh])), (m_tape, .inl (kI, 200, .inl g_tape)), (m_draft, .inl (kI, 192, .inl f222))]) hD hS hA [2, 3, 0] rfl
        refine va_callv (va_runV (As := []) (rest := []) ⟨hx, hb, hml, hown, hts⟩ (c_X10_readsEdition l D h0 m_now m_draft m_past j_acts m_images m_kept m_tape j_taped v223 v224 v225 v226 v227 v228 j_latest m_low m_high m_first m_second m_lines m_others j_shiftFirst j_shiftMany j_shiftLow j_shiftHigh kI g_tape f222 q2 kq2 (bI (uWork (tR g_tape) j_taped.toInt.toNat)) ps2 H.size (by first | decide | omega) (by first | decide | omega) (by first | omega | decide | (have hz0 : (0 : Int32).toInt = 0 := (by decide); omega)) hcur h101 hkq hX hdz hg_tape hf222) (cwV 0 hts g_X10_work_X10_readsEdition rfl rfl rfl (by decide +kernel) ⟨Nat.le_of_ble_eq_true rfl, Nat.le_of_ble_eq_true rfl⟩) ⟨fun a U g mk q => by obtain ⟨q0, q1, qP, qK, qD⟩ := q; exact ⟨q0, q1, qP, va_K.moved (u := U) (U := U.calling g mk a) (Vm.Alike.refl U.vm) qK, qD⟩, va_recv hKc hPc (ci := 10) (q0 := 0) rfl rfl, fun U hU hW => ⟨rfl, by rw [hU], by rw [hU]; exact hPc, va_K.moved hW.alike hKc, hDc.weaken (fun _ _ _ _ => trivial)⟩⟩ rfl rfl hl.1 rfl (lv_room (Nat.le_of_ble_eq_true rfl)) dX10_work_88 ⟨Nat.le_of_ble_eq_true rfl, Nat.le_of_ble_eq_true rfl⟩) hS (fun q _ h => hFc q h) hFc (fun u t H1 locs ht hvm hw hB hz1 hk1 hS => ?_)
        obtain ⟨y244, y245, y246, y247, y248, y249, y250, hP1, hK1, hD1, hy250, px0_r243, px1_r243, px2_r243, px3_r243⟩ := hB
        rw [ht] at hP1
        have hK1 := va_K.moved hvm.symm hK1
        obtain ⟨hP, hD⟩ := va_join (wr := [(m_now, .inl (kI, 192, .inl g_now))]) (w1 := [(h0, .inr (10, [.ref m_now, .ref m_draft, .ref m_past, .int j_acts, .ref m_images, .ref m_kept, .ref m_tape, .int j_taped, .int y245, .int y244, .int y246, .int y247, .int y248, .int y249, .int j_latest, .ref m_low, .ref m_high, .ref m_first, .ref m_second, .ref m_lines, .ref m_others, .int j_shiftFirst, .int j_shiftMany, .int j_shiftLow, .int j_shiftHigh])), (m_tape, .inl (kI, 200, .inl g_tape)), (m_draft, .inl (kI, 192, .inl y250))]) hP hD [2, 3, 0] [1] rfl rfl (by decide) (by decide) hk1 hFc hP1 hD1
        have hK := (hK.sub (tys' := [(kI, .int), (kI, .int), (kI, .int), (kI, .int)]) [0, 1, 2, 3] rfl).app hK1
        generalize H1 = H at hP hS ⊢
        have hP : va_P D vwCl [(m_now, .inl (kI, 192, .inl g_now)), (h0, .inr (10, [.ref m_now, .ref m_draft, .ref m_past, .int j_acts, .ref m_images, .ref m_kept, .ref m_tape, .int j_taped, .int y245, .int y244, .int y246, .int y247, .int y248, .int y249, .int j_latest, .ref m_low, .ref m_high, .ref m_first, .ref m_second, .ref m_lines, .ref m_others, .int j_shiftFirst, .int j_shiftMany, .int j_shiftLow, .int j_shiftHigh])), (m_tape, .inl (kI, 200, .inl g_tape)), (m_draft, .inl (kI, 192, .inl y250))] H := hP
        have hD : va_D A [(m_now, .inl (kI, 192, .inl g_now)), (h0, .inr (10, [.ref m_now, .ref m_draft, .ref m_past, .int j_acts, .ref m_images, .ref m_kept, .ref m_tape, .int j_taped, .int y245, .int y244, .int y246, .int y247, .int y248, .int y249, .int j_latest, .ref m_low, .ref m_high, .ref m_first, .ref m_second, .ref m_lines, .ref m_others, .int j_shiftFirst, .int j_shiftMany, .int j_shiftLow, .int j_shiftHigh])), (m_tape, .inl (kI, 200, .inl g_tape)), (m_draft, .inl (kI, 192, .inl y250))] := hD
        have hK : va_K D vwCl [(kI, .int), (kI, .int), (kI, .int), (kI, .int), (kI, .int)] s := hK
        refine W.widen (k := 0) (n := 0) (Nat.le_of_ble_eq_true rfl) (Nat.le_of_ble_eq_true rfl) ?_
        refine lv_goto (tgt := 78) hx hb dX10_work_91 (by decide) ?_
        have hP9 : va_P D vwCl [(m_draft, .inl (kI, 192, .inl y250)), (m_now, .inl (kI, 192, .inl g_now)), (h0, .inr (10, [.ref m_now, .ref m_draft, .ref m_past, .int j_acts, .ref m_images, .ref m_kept, .ref m_tape, .int j_taped, .int y245, .int y244, .int y246, .int y247, .int y248, .int y249, .int j_latest, .ref m_low, .ref m_high, .ref m_first, .ref m_second, .ref m_lines, .ref m_others, .int j_shiftFirst, .int j_shiftMany, .int j_shiftLow, .int j_shiftHigh])), (m_tape, .inl (kI, 200, .inl g_tape))] H := hP.sub [3, 0, 1, 2] rfl
        have hD9 : va_D A [(m_draft, .inl (kI, 192, .inl y250)), (m_now, .inl (kI, 192, .inl g_now)), (h0, .inr (10, [.ref m_now, .ref m_draft, .ref m_past, .int j_acts, .ref m_images, .ref m_kept, .ref m_tape, .int j_taped, .int y245, .int y244, .int y246, .int y247, .int y248, .int y249, .int j_latest, .ref m_low, .ref m_high, .ref m_first, .ref m_second, .ref m_lines, .ref m_others, .int j_shiftFirst, .int j_shiftMany, .int j_shiftLow, .int j_shiftHigh])), (m_tape, .inl (kI, 200, .inl g_tape))] := hD.sub [3, 0, 1, 2] (by decide) rfl
        have hl9 : lv_has ls 2 [(0, .ref h0), (1, .int v146)] := lv_sub hl [0, 1] rfl
        refine W.widen (k := 0) (n := 0) (Nat.le_of_ble_eq_true rfl) (Nat.le_of_ble_eq_true rfl) ?_
        exact ih229 (y250, y245, y244, y246, y247, y248, y249) _ _ _ (muO_lt (by omega) (by omega) px1_r243 (by omega) (by omega)) ⟨hP9, hD9, hS, hl9, hy250, (by have h9 := px0_r243; rw [hL0] at h9; exact h9), px2_r243, (px3_r243.trans hL0), (fun _ => hL1 (by omega))⟩
    · have nc158 : r157.toInt = 0 := pw_eq c158 rfl (by decide)
      have hnh : ¬ uHead (tR g_tape) j_taped.toInt.toNat := fun z => by have z1 := z.1; omega
      refine lv_aload_n hx hb dX10_work_45 rfl (lv_at hl 0 rfl) ?_
      refine lv_iconst (v := 1) hx hb dX10_work_46 (by decide) ?_
      have kk1 : (1 : Int32).toInt = 1 := by decide
      have hPc := hP.sub (ws' := [(h0, .inr (10, [.ref m_now, .ref m_draft, .ref m_past, .int j_acts, .ref m_images, .ref m_kept, .ref m_tape, .int j_taped, .int y154, .int 0, .int y155, .int y156, .int 0, .int j_place, .int j_latest, .ref m_low, .ref m_high, .ref m_first, .ref m_second, .ref m_lines, .ref m_others, .int j_shiftFirst, .int j_shiftMany, .int j_shiftLow, .int j_shiftHigh]))]) [2] rfl
      have hKc := hK.sub (tys' := []) [] rfl
      have hDc := hD.sub (ws' := [(h0, .inr (10, [.ref m_now, .ref m_draft, .ref m_past, .int j_acts, .ref m_images, .ref m_kept, .ref m_tape, .int j_taped, .int y154, .int 0, .int y155, .int y156, .int 0, .int j_place, .int j_latest, .ref m_low, .ref m_high, .ref m_first, .ref m_second, .ref m_lines, .ref m_others, .int j_shiftFirst, .int j_shiftMany, .int j_shiftLow, .int j_shiftHigh]))]) [2] (by decide) rfl
      have hFc := va_free (wc := [(h0, .inr (10, [.ref m_now, .ref m_draft, .ref m_past, .int j_acts, .ref m_images, .ref m_kept, .ref m_tape, .int j_taped, .int y154, .int 0, .int y155, .int y156, .int 0, .int j_place, .int j_latest, .ref m_low, .ref m_high, .ref m_first, .ref m_second, .ref m_lines, .ref m_others, .int j_shiftFirst, .int j_shiftMany, .int j_shiftLow, .int j_shiftHigh]))]) hD hS hA [2] rfl
      refine va_callv (va_runV (As := [.int 1]) (rest := []) ⟨hx, hb, hml, hown, hts⟩ (c_X10_bad l D h0 1 m_now m_draft m_past j_acts m_images m_kept m_tape j_taped y154 0 y155 y156 0 j_place j_latest m_low m_high m_first m_second m_lines m_others j_shiftFirst j_shiftMany j_shiftLow j_shiftHigh H.size) (cwV 1 hts g_X10_work_X10_bad rfl rfl rfl (by decide +kernel) ⟨Nat.le_of_ble_eq_true rfl, Nat.le_of_ble_eq_true rfl⟩) ⟨fun a U g mk q => by obtain ⟨q0, q1, qP, qK, qD⟩ := q; exact ⟨q0, q1, qP, va_K.moved (u := U) (U := U.calling g mk a) (Vm.Alike.refl U.vm) qK, qD⟩, va_recv hKc hPc (ci := 10) (q0 := 0) rfl rfl, fun U hU hW => ⟨rfl, by rw [hU], by rw [hU]; exact hPc, va_K.moved hW.alike hKc, hDc.weaken (fun _ _ _ _ => trivial)⟩⟩ rfl rfl hl.1 rfl (lv_room (Nat.le_of_ble_eq_true rfl)) dX10_work_47 ⟨Nat.le_of_ble_eq_true rfl, Nat.le_of_ble_eq_true rfl⟩) hS (fun q _ h => hFc q h) hFc (fun u t H1 locs ht hvm hw hB hz1 hk1 hS => ?_)
      obtain ⟨y252, y253, hP1, hK1, hD1, px0_r251⟩ := hB
      rw [ht] at hP1
      have hK1 := va_K.moved hvm.symm hK1
      obtain ⟨hP, hD⟩ := va_join (wr := [(m_draft, .inl (kI, 192, .inl f147)), (m_now, .inl (kI, 192, .inl g_now)), (m_tape, .inl (kI, 200, .inl g_tape))]) (w1 := [(h0, .inr (10, [.ref m_now, .ref m_draft, .ref m_past, .int j_acts, .ref m_images, .ref m_kept, .ref m_tape, .int j_taped, .int y154, .int 0, .int y155, .int y156, .int y252, .int y253, .int j_latest, .ref m_low, .ref m_high, .ref m_first, .ref m_second, .ref m_lines, .ref m_others, .int j_shiftFirst, .int j_shiftMany, .int j_shiftLow, .int j_shiftHigh]))]) hP hD [2] [0, 1, 3] rfl rfl (by decide) (by decide) hk1 hFc hP1 hD1
      have hK := (hK.sub (tys' := [(kI, .int), (kI, .int)]) [0, 1] rfl).app hK1
      generalize H1 = H at hP hS ⊢
      have hP : va_P D vwCl [(m_draft, .inl (kI, 192, .inl f147)), (m_now, .inl (kI, 192, .inl g_now)), (m_tape, .inl (kI, 200, .inl g_tape)), (h0, .inr (10, [.ref m_now, .ref m_draft, .ref m_past, .int j_acts, .ref m_images, .ref m_kept, .ref m_tape, .int j_taped, .int y154, .int 0, .int y155, .int y156, .int y252, .int y253, .int j_latest, .ref m_low, .ref m_high, .ref m_first, .ref m_second, .ref m_lines, .ref m_others, .int j_shiftFirst, .int j_shiftMany, .int j_shiftLow, .int j_shiftHigh]))] H := hP
      have hD : va_D A [(m_draft, .inl (kI, 192, .inl f147)), (m_now, .inl (kI, 192, .inl g_now)), (m_tape, .inl (kI, 200, .inl g_tape)), (h0, .inr (10, [.ref m_now, .ref m_draft, .ref m_past, .int j_acts, .ref m_images, .ref m_kept, .ref m_tape, .int j_taped, .int y154, .int 0, .int y155, .int y156, .int y252, .int y253, .int j_latest, .ref m_low, .ref m_high, .ref m_first, .ref m_second, .ref m_lines, .ref m_others, .int j_shiftFirst, .int j_shiftMany, .int j_shiftLow, .int j_shiftHigh]))] := hD
      have hK : va_K D vwCl [(kI, .int), (kI, .int)] s := hK
      refine W.widen (k := 0) (n := 0) (Nat.le_of_ble_eq_true rfl) (Nat.le_of_ble_eq_true rfl) ?_
      have nf1 : y252.toInt = 1 := by have kk1 : (1 : Int32).toInt = 1 := (by decide); omega
      clear hw0 hfr157
      refine lv_aload_n hx hb dX10_work_50 rfl (lv_at hl 0 rfl) ?_
      have hPc := hP.sub (ws' := [(h0, .inr (10, [.ref m_now, .ref m_draft, .ref m_past, .int j_acts, .ref m_images, .ref m_kept, .ref m_tape, .int j_taped, .int y154, .int 0, .int y155, .int y156, .int y252, .int y253, .int j_latest, .ref m_low, .ref m_high, .ref m_first, .ref m_second, .ref m_lines, .ref m_others, .int j_shiftFirst, .int j_shiftMany, .int j_shiftLow, .int j_shiftHigh])), (m_tape, .inl (kI, 200, .inl g_tape))]) [3, 2] rfl
      have hKc := hK.sub (tys' := [(kI, .int)]) [0] rfl
      have hDc := hD.sub (ws' := [(h0, .inr (10, [.ref m_now, .ref m_draft, .ref m_past, .int j_acts, .ref m_images, .ref m_kept, .ref m_tape, .int j_taped, .int y154, .int 0, .int y155, .int y156, .int y252, .int y253, .int j_latest, .ref m_low, .ref m_high, .ref m_first, .ref m_second, .ref m_lines, .ref m_others, .int j_shiftFirst, .int j_shiftMany, .int j_shiftLow, .int j_shiftHigh])), (m_tape, .inl (kI, 200, .inl g_tape))]) [3, 2] (by decide) rfl
      have hFc := va_free (wc := [(h0, .inr (10, [.ref m_now, .ref m_draft, .ref m_past, .int j_acts, .ref m_images, .ref m_kept, .ref m_tape, .int j_taped, .int y154, .int 0, .int y155, .int y156, .int y252, .int y253, .int j_latest, .ref m_low, .ref m_high, .ref m_first, .ref m_second, .ref m_lines, .ref m_others, .int j_shiftFirst, .int j_shiftMany, .int j_shiftLow, .int j_shiftHigh])), (m_tape, .inl (kI, 200, .inl g_tape))]) hD hS hA [3, 2] rfl
      refine va_callv (va_runV (As := []) (rest := []) ⟨hx, hb, hml, hown, hts⟩ (c_X10_goesOn l D h0 m_now m_draft m_past j_acts m_images m_kept m_tape j_taped y154 0 y155 y156 y252 y253 j_latest m_low m_high m_first m_second m_lines m_others j_shiftFirst j_shiftMany j_shiftLow j_shiftHigh kI g_tape (tNx (tR g_tape) j_taped.toInt.toNat 0) H.size (by first | decide | omega) (by first | decide | omega) (by first | omega | decide | (have hz0 : (0 : Int32).toInt = 0 := (by decide); omega)) hg_tape) (cwV 0 hts g_X10_work_X10_goesOn rfl rfl rfl (by decide +kernel) ⟨Nat.le_of_ble_eq_true rfl, Nat.le_of_ble_eq_true rfl⟩) ⟨fun a U g mk q => by obtain ⟨q0, q1, qP, qK, qD⟩ := q; exact ⟨q0, q1, qP, va_K.moved (u := U) (U := U.calling g mk a) (Vm.Alike.refl U.vm) qK, qD⟩, va_recv hKc hPc (ci := 10) (q0 := 0) rfl rfl, fun U hU hW => ⟨rfl, by rw [hU], by rw [hU]; exact hPc, va_K.moved hW.alike hKc, hDc.weaken (fun _ _ _ _ => trivial)⟩⟩ rfl rfl hl.1 rfl (lv_room (Nat.le_of_ble_eq_true rfl)) dX10_work_51 ⟨Nat.le_of_ble_eq_true rfl, Nat.le_of_ble_eq_true rfl⟩) hS (fun q _ h => hFc q h) hFc (fun u t H1 locs ht hvm hw hB hz1 hk1 hS => ?_)
      obtain ⟨y255, y256, y257, y258, hP1, hK1, hD1, px0_r254⟩ := hB
      rw [ht] at hP1
      have hK1 := va_K.moved hvm.symm hK1
      obtain ⟨hP, hD⟩ := va_join (wr := [(m_draft, .inl (kI, 192, .inl f147)), (m_now, .inl (kI, 192, .inl g_now))]) (w1 := [(h0, .inr (10, [.ref m_now, .ref m_draft, .ref m_past, .int j_acts, .ref m_images, .ref m_kept, .ref m_tape, .int j_taped, .int y256, .int y255, .int y257, .int y258, .int y252, .int y253, .int j_latest, .ref m_low, .ref m_high, .ref m_first, .ref m_second, .ref m_lines, .ref m_others, .int j_shiftFirst, .int j_shiftMany, .int j_shiftLow, .int j_shiftHigh])), (m_tape, .inl (kI, 200, .inl g_tape))]) hP hD [3, 2] [0, 1] rfl rfl (by decide) (by decide) hk1 hFc hP1 hD1
      have hK := (hK.sub (tys' := [(kI, .int), (kI, .int)]) [0, 1] rfl).app hK1
      generalize H1 = H at hP hS ⊢
      have hP : va_P D vwCl [(m_draft, .inl (kI, 192, .inl f147)), (m_now, .inl (kI, 192, .inl g_now)), (h0, .inr (10, [.ref m_now, .ref m_draft, .ref m_past, .int j_acts, .ref m_images, .ref m_kept, .ref m_tape, .int j_taped, .int y256, .int y255, .int y257, .int y258, .int y252, .int y253, .int j_latest, .ref m_low, .ref m_high, .ref m_first, .ref m_second, .ref m_lines, .ref m_others, .int j_shiftFirst, .int j_shiftMany, .int j_shiftLow, .int j_shiftHigh])), (m_tape, .inl (kI, 200, .inl g_tape))] H := hP
      have hD : va_D A [(m_draft, .inl (kI, 192, .inl f147)), (m_now, .inl (kI, 192, .inl g_now)), (h0, .inr (10, [.ref m_now, .ref m_draft, .ref m_past, .int j_acts, .ref m_images, .ref m_kept, .ref m_tape, .int j_taped, .int y256, .int y255, .int y257, .int y258, .int y252, .int y253, .int j_latest, .ref m_low, .ref m_high, .ref m_first, .ref m_second, .ref m_lines, .ref m_others, .int j_shiftFirst, .int j_shiftMany, .int j_shiftLow, .int j_shiftHigh])), (m_tape, .inl (kI, 200, .inl g_tape))] := hD
      have hK : va_K D vwCl [(kI, .int), (kI, .int), (kI, .int)] s := hK
      refine W.widen (k := 0) (n := 0) (Nat.le_of_ble_eq_true rfl) (Nat.le_of_ble_eq_true rfl) ?_
      have hcur : y252.toInt = 0 → cuR (tR g_tape) j_taped.toInt.toNat (tNx (tR g_tape) j_taped.toInt.toNat 0) y256.toInt y257.toInt y258.toInt := fun z => px0_r254 z
      refine lv_aload_n hx hb dX10_work_54 rfl (lv_at hl 0 rfl) ?_
      refine va_get (D := D) (ci := 10) (v := .ref m_draft) (C := RX10) (T := TX10) (N := 25) hx hb hts (fun _ h => List.mem_cons_of_mem _ (List.mem_append_right _ h)) hown hK hP 2 rfl rfl 1 (by decide) (hts (.fieldLink RX10 13 "LineCitesModel" "draft" "[I") (List.mem_of_getElem? (i := 1) rfl)) (fun _ h9 => h9) rfl dX10_work_55 ?_
      refine lv_iconst (v := 0) hx hb dX10_work_58 (by decide) ?_
      refine lv_aload_n hx hb dX10_work_59 rfl (lv_at hl 0 rfl) ?_
      refine lv_aload_n hx hb dX10_work_60 rfl (lv_at hl 0 rfl) ?_
      refine va_get (D := D) (ci := 10) (v := .int y258) (C := RX10) (T := TX10) (N := 25) hx hb hts (fun _ h => List.mem_cons_of_mem _ (List.mem_append_right _ h)) hown hK hP 2 rfl rfl 11 (by decide) (hts (.fieldLink RX10 109 "LineCitesModel" "value" "I") (List.mem_of_getElem? (i := 16) rfl)) (fun _ h9 => h9) rfl dX10_work_61 ?_
      refine lv_i2l (v := y258.toInt64) hx hb dX10_work_64 rfl ?_
      refine lv_lconst (v := 1) hx hb dX10_work_65 (by decide) ?_
      refine lv_ldc2 hx hb hown (hts (.constantLong RX10 182 (200)) (List.mem_of_getElem? (i := 33) rfl)) dX10_work_66 ?_
      have hPc := hP.sub (ws' := []) [] rfl
      have hKc := hK.sub (tys' := []) [] rfl
      refine va_calli (va_runS (As := [.long y258.toInt64, .long 1, .long 200]) (rest := [.ref h0, .int 0, .ref m_draft]) ⟨hx, hb, hml, hown, hts⟩ (c_X10_in0 l D y258.toInt64 1 200) (cwS 3 hts g_X10_work_X10_in0 rfl rfl rfl (by decide +kernel) ⟨Nat.le_of_ble_eq_true rfl, Nat.le_of_ble_eq_true rfl⟩) ⟨fun a U g mk q => by obtain ⟨q0, qP, qK⟩ := q; exact ⟨q0, qP, va_K.moved (u := U) (U := U.calling g mk a) (Vm.Alike.refl U.vm) qK⟩, fun U hU hW => ⟨rfl, by rw [hU]; exact hPc, va_K.moved hW.alike hKc⟩⟩ rfl rfl hl.1 rfl (lv_room (Nat.le_of_ble_eq_true rfl)) dX10_work_69 ⟨Nat.le_of_ble_eq_true rfl, Nat.le_of_ble_eq_true rfl⟩) hS (fun _ _ h => h.elim) (fun _ h => h.elim) (fun r259 u t H1 locs ht hvm hw hB hz1 hk1 hS => ?_)
      have hP := pw_keep hP (fun q hq => hk1 q hq (fun h => h))
      generalize H1 = H at hP hS ⊢
      refine W.widen (k := 0) (n := 0) (Nat.le_of_ble_eq_true rfl) (Nat.le_of_ble_eq_true rfl) ?_
      have bor259 := hw.1
      have zor259 := pw_boolI bor259
      have hfr259 := hw.2
      have kl1 : (1 : Int64).toInt = 1 := by decide
      have kl200 : (200 : Int64).toInt = 200 := by decide
      try simp only [Int32.toInt_toInt64] at hfr259
      refine lv_bipush (v := 59) hx hb dX10_work_72 (by decide) ?_
      have kk59 : (59 : Int32).toInt = 59 := by decide
      have hPc := hP.sub (ws' := [(h0, .inr (10, [.ref m_now, .ref m_draft, .ref m_past, .int j_acts, .ref m_images, .ref m_kept, .ref m_tape, .int j_taped, .int y256, .int y255, .int y257, .int y258, .int y252, .int y253, .int j_latest, .ref m_low, .ref m_high, .ref m_first, .ref m_second, .ref m_lines, .ref m_others, .int j_shiftFirst, .int j_shiftMany, .int j_shiftLow, .int j_shiftHigh])), (m_tape, .inl (kI, 200, .inl g_tape))]) [2, 3] rfl
      have hKc := hK.sub (tys' := [(kI, .int)]) [0] rfl
      have hDc := hD.sub (ws' := [(h0, .inr (10, [.ref m_now, .ref m_draft, .ref m_past, .int j_acts, .ref m_images, .ref m_kept, .ref m_tape, .int j_taped, .int y256, .int y255, .int y257, .int y258, .int y252, .int y253, .int j_latest, .ref m_low, .ref m_high, .ref m_first, .ref m_second, .ref m_lines, .ref m_others, .int j_shiftFirst, .int j_shiftMany, .int j_shiftLow, .int j_shiftHigh])), (m_tape, .inl (kI, 200, .inl g_tape))]) [2, 3] (by decide) rfl
      have hFc := va_free (wc := [(h0, .inr (10, [.ref m_now, .ref m_draft, .ref m_past, .int j_acts, .ref m_images, .ref m_kept, .ref m_tape, .int j_taped, .int y256, .int y255, .int y257, .int y258, .int y252, .int y253, .int j_latest, .ref m_low, .ref m_high, .ref m_first, .ref m_second, .ref m_lines, .ref m_others, .int j_shiftFirst, .int j_shiftMany, .int j_shiftLow, .int j_shiftHigh])), (m_tape, .inl (kI, 200, .inl g_tape))]) hD hS hA [2, 3] rfl
      refine va_calli (va_runV (As := [.int r259, .int 59]) (rest := [.int 0, .ref m_draft]) ⟨hx, hb, hml, hown, hts⟩ (c_X10_number l D h0 r259 59 m_now m_draft m_past j_acts m_images m_kept m_tape j_taped y256 y255 y257 y258 y252 y253 j_latest m_low m_high m_first m_second m_lines m_others j_shiftFirst j_shiftMany j_shiftLow j_shiftHigh kI g_tape (tNx (tR g_tape) j_taped.toInt.toNat 0) H.size (by first | decide | omega) (by first | decide | omega) (by first | decide | omega) (by first | decide | omega) (by first | omega | decide | (have hz0 : (0 : Int32).toInt = 0 := (by decide); omega)) hcur hg_tape) (cwV 2 hts g_X10_work_X10_number rfl rfl rfl (by decide +kernel) ⟨Nat.le_of_ble_eq_true rfl, Nat.le_of_ble_eq_true rfl⟩) ⟨fun a U g mk q => by obtain ⟨q0, q1, qP, qK, qD⟩ := q; exact ⟨q0, q1, qP, va_K.moved (u := U) (U := U.calling g mk a) (Vm.Alike.refl U.vm) qK, qD⟩, va_recv hKc hPc (ci := 10) (q0 := 0) rfl rfl, fun U hU hW => ⟨rfl, by rw [hU], by rw [hU]; exact hPc, va_K.moved hW.alike hKc, hDc.weaken (fun _ _ _ _ => trivial)⟩⟩ rfl rfl hl.1 rfl (lv_room (Nat.le_of_ble_eq_true rfl)) dX10_work_74 ⟨Nat.le_of_ble_eq_true rfl, Nat.le_of_ble_eq_true rfl⟩) hS (fun q _ h => hFc q h) hFc (fun r260 u t H1 locs ht hvm hw hB hz1 hk1 hS => ?_)
      obtain ⟨y261, y262, y263, y264, y265, y266, hP1, hK1, hD1, px0_r260, px1_r260, px2_r260⟩ := hB
      rw [ht] at hP1
      have hK1 := va_K.moved hvm.symm hK1
      obtain ⟨hP, hD⟩ := va_join (wr := [(m_draft, .inl (kI, 192, .inl f147)), (m_now, .inl (kI, 192, .inl g_now))]) (w1 := [(h0, .inr (10, [.ref m_now, .ref m_draft, .ref m_past, .int j_acts, .ref m_images, .ref m_kept, .ref m_tape, .int j_taped, .int y262, .int y261, .int y263, .int y264, .int y265, .int y266, .int j_latest, .ref m_low, .ref m_high, .ref m_first, .ref m_second, .ref m_lines, .ref m_others, .int j_shiftFirst, .int j_shiftMany, .int j_shiftLow, .int j_shiftHigh])), (m_tape, .inl (kI, 200, .inl g_tape))]) hP hD [2, 3] [0, 1] rfl rfl (by decide) (by decide) hk1 hFc hP1 hD1
      have hK := (hK.sub (tys' := [(kI, .int), (kI, .int), (kI, .int)]) [0, 1, 2] rfl).app hK1
      generalize H1 = H at hP hS ⊢
      have hP : va_P D vwCl [(m_draft, .inl (kI, 192, .inl f147)), (m_now, .inl (kI, 192, .inl g_now)), (h0, .inr (10, [.ref m_now, .ref m_draft, .ref m_past, .int j_acts, .ref m_images, .ref m_kept, .ref m_tape, .int j_taped, .int y262, .int y261, .int y263, .int y264, .int y265, .int y266, .int j_latest, .ref m_low, .ref m_high, .ref m_first, .ref m_second, .ref m_lines, .ref m_others, .int j_shiftFirst, .int j_shiftMany, .int j_shiftLow, .int j_shiftHigh])), (m_tape, .inl (kI, 200, .inl g_tape))] H := hP
      have hD : va_D A [(m_draft, .inl (kI, 192, .inl f147)), (m_now, .inl (kI, 192, .inl g_now)), (h0, .inr (10, [.ref m_now, .ref m_draft, .ref m_past, .int j_acts, .ref m_images, .ref m_kept, .ref m_tape, .int j_taped, .int y262, .int y261, .int y263, .int y264, .int y265, .int y266, .int j_latest, .ref m_low, .ref m_high, .ref m_first, .ref m_second, .ref m_lines, .ref m_others, .int j_shiftFirst, .int j_shiftMany, .int j_shiftLow, .int j_shiftHigh])), (m_tape, .inl (kI, 200, .inl g_tape))] := hD
      have hK : va_K D vwCl [(kI, .int), (kI, .int), (kI, .int), (kI, .int)] s := hK
      refine W.widen (k := 0) (n := 0) (Nat.le_of_ble_eq_true rfl) (Nat.le_of_ble_eq_true rfl) ?_
      have hfr260 := hw
      refine va_iast hx hb hK hP hD hS 0 0 rfl rfl (vp_in_iff.mpr (by decide)) dX10_work_77 (fun H locs hP hD hS => ?_)
      obtain ⟨g267, eg267⟩ : ∃ g : Nat → Int32, g = upd f147 (0 : Int32).toNatClampNeg r260 := ⟨_, rfl⟩
      have hP : va_P D vwCl [(m_draft, .inl (kI, 192, .inl (upd f147 (0 : Int32).toNatClampNeg r260))), (m_now, .inl (kI, 192, .inl g_now)), (h0, .inr (10, [.ref m_now, .ref m_draft, .ref m_past, .int j_acts, .ref m_images, .ref m_kept, .ref m_tape, .int j_taped, .int y262, .int y261, .int y263, .int y264, .int y265, .int y266, .int j_latest, .ref m_low, .ref m_high, .ref m_first, .ref m_second, .ref m_lines, .ref m_others, .int j_shiftFirst, .int j_shiftMany, .int j_shiftLow, .int j_shiftHigh])), (m_tape, .inl (kI, 200, .inl g_tape))] H := hP
      have hD : va_D A [(m_draft, .inl (kI, 192, .inl (upd f147 (0 : Int32).toNatClampNeg r260))), (m_now, .inl (kI, 192, .inl g_now)), (h0, .inr (10, [.ref m_now, .ref m_draft, .ref m_past, .int j_acts, .ref m_images, .ref m_kept, .ref m_tape, .int j_taped, .int y262, .int y261, .int y263, .int y264, .int y265, .int y266, .int j_latest, .ref m_low, .ref m_high, .ref m_first, .ref m_second, .ref m_lines, .ref m_others, .int j_shiftFirst, .int j_shiftMany, .int j_shiftLow, .int j_shiftHigh])), (m_tape, .inl (kI, 200, .inl g_tape))] := hD
      have hK : va_K D vwCl [(kI, .int), (kI, .int), (kI, .int), (kI, .int)] s := hK
      rw [← eg267] at hP hD
      have hr200 : 0 ≤ r260.toInt ∧ r260.toInt ≤ 200 := by omega
      have hl0 := gV_l0 hzf (by omega) eg267 hr200.1 hr200.2
      have hg267 := hl0.1
      have nf2 : 1 ≤ y265.toInt := by omega
      refine lv_aload_n hx hb dX10_work_78 rfl (lv_at hl 0 rfl) ?_
      refine lv_bipush (v := 101) hx hb dX10_work_79 (by decide) ?_
      have kk101 : (101 : Int32).toInt = 101 := by decide
      have hPc := hP.sub (ws' := [(h0, .inr (10, [.ref m_now, .ref m_draft, .ref m_past, .int j_acts, .ref m_images, .ref m_kept, .ref m_tape, .int j_taped, .int y262, .int y261, .int y263, .int y264, .int y265, .int y266, .int j_latest, .ref m_low, .ref m_high, .ref m_first, .ref m_second, .ref m_lines, .ref m_others, .int j_shiftFirst, .int j_shiftMany, .int j_shiftLow, .int j_shiftHigh]))]) [2] rfl
      have hKc := hK.sub (tys' := []) [] rfl
      refine va_calli (va_runV (As := [.int 101]) (rest := []) ⟨hx, hb, hml, hown, hts⟩ (c_X10_isLetter l D h0 101 m_now m_draft m_past j_acts m_images m_kept m_tape j_taped y262 y261 y263 y264 y265 y266 j_latest m_low m_high m_first m_second m_lines m_others j_shiftFirst j_shiftMany j_shiftLow j_shiftHigh) (cwV 1 hts g_X10_work_X10_isLetter rfl rfl rfl (by decide +kernel) ⟨Nat.le_of_ble_eq_true rfl, Nat.le_of_ble_eq_true rfl⟩) ⟨fun a U g mk q => by obtain ⟨q0, qP, qK⟩ := q; exact ⟨q0, qP, va_K.moved (u := U) (U := U.calling g mk a) (Vm.Alike.refl U.vm) qK⟩, va_recv hKc hPc (ci := 10) (q0 := 0) rfl rfl, fun U hU hW => ⟨rfl, by rw [hU]; exact hPc, va_K.moved hW.alike hKc⟩⟩ rfl rfl hl.1 rfl (lv_room (Nat.le_of_ble_eq_true rfl)) dX10_work_81 ⟨Nat.le_of_ble_eq_true rfl, Nat.le_of_ble_eq_true rfl⟩) hS (fun _ _ h => h.elim) (fun _ h => h.elim) (fun r278 u t H1 locs ht hvm hw hB hz1 hk1 hS => ?_)
      have hP := pw_keep hP (fun q hq => hk1 q hq (fun h => h))
      generalize H1 = H at hP hS ⊢
      refine W.widen (k := 0) (n := 0) (Nat.le_of_ble_eq_true rfl) (Nat.le_of_ble_eq_true rfl) ?_
      have bor278 := hw.1
      have zor278 := pw_boolI bor278
      have hfr278 := hw.2
      refine lv_if_eq (tgt := 94) hx hb dX10_work_84 (by decide) (fun c279 => ?_) (fun c279 => False.elim (by have nn : r278.toInt ≠ 0 := pw_ne c279 rfl (by decide); omega))
      have nc279 : r278.toInt = 0 := pw_eq c279 rfl (by decide)
      refine lv_aload_n hx hb dX10_work_94 rfl (lv_at hl 0 rfl) ?_
      refine va_get (D := D) (ci := 10) (v := .int y263) (C := RX10) (T := TX10) (N := 25) hx hb hts (fun _ h => List.mem_cons_of_mem _ (List.mem_append_right _ h)) hown hK hP 2 rfl rfl 10 (by decide) (hts (.fieldLink RX10 120 "LineCitesModel" "token" "I") (List.mem_of_getElem? (i := 24) rfl)) (fun _ h9 => h9) rfl dX10_work_95 ?_
      refine lv_if_eq (tgt := 106) hx hb dX10_work_98 (by decide) (fun c280 => ?_) (fun c280 => ?_)
      · have nc280 : y263.toInt = 0 := pw_eq c280 rfl (by decide)
        have nf3 : 1 ≤ y265.toInt := by have kk1 : (1 : Int32).toInt = 1 := (by decide); omega
        refine lv_aload_n hx hb dX10_work_106 rfl (lv_at hl 0 rfl) ?_
        refine lv_iconst (v := 0) hx hb dX10_work_107 (by decide) ?_
        refine va_put (D := D) (ci := 10) (v := .int 0) (ty := .int) (C := RX10) (T := TX10) (N := 25) hx hb hts (fun _ h => List.mem_cons_of_mem _ (List.mem_append_right _ h)) tyX10 tyX10_ok nmX10 hown hK hP hD hS 2 rfl rfl 7 (by decide) (hts (.fieldLink RX10 95 "LineCitesModel" "taped" "I") (List.mem_of_getElem? (i := 14) rfl)) (fun _ h9 => h9) rfl (by decide +kernel) rfl rfl (Nat.le_of_ble_eq_true rfl) dX10_work_108 (fun H locs hP hD hS => ?_)
        have hP : va_P D vwCl [(m_draft, .inl (kI, 192, .inl g267)), (m_now, .inl (kI, 192, .inl g_now)), (h0, .inr (10, [.ref m_now, .ref m_draft, .ref m_past, .int j_acts, .ref m_images, .ref m_kept, .ref m_tape, .int 0, .int y262, .int y261, .int y263, .int y264, .int y265, .int y266, .int j_latest, .ref m_low, .ref m_high, .ref m_first, .ref m_second, .ref m_lines, .ref m_others, .int j_shiftFirst, .int j_shiftMany, .int j_shiftLow, .int j_shiftHigh])), (m_tape, .inl (kI, 200, .inl g_tape))] H := hP
        have hD : va_D A [(m_draft, .inl (kI, 192, .inl g267)), (m_now, .inl (kI, 192, .inl g_now)), (h0, .inr (10, [.ref m_now, .ref m_draft, .ref m_past, .int j_acts, .ref m_images, .ref m_kept, .ref m_tape, .int 0, .int y262, .int y261, .int y263, .int y264, .int y265, .int y266, .int j_latest, .ref m_low, .ref m_high, .ref m_first, .ref m_second, .ref m_lines, .ref m_others, .int j_shiftFirst, .int j_shiftMany, .int j_shiftLow, .int j_shiftHigh])), (m_tape, .inl (kI, 200, .inl g_tape))] := hD
        have hK : va_K D vwCl [(kI, .int), (kI, .int), (kI, .int), (kI, .int)] s := hK
        refine lv_aload_n hx hb dX10_work_111 rfl (lv_at hl 0 rfl) ?_
        refine va_get (D := D) (ci := 10) (v := .int y265) (C := RX10) (T := TX10) (N := 25) hx hb hts (fun _ h => List.mem_cons_of_mem _ (List.mem_append_right _ h)) hown hK hP 2 rfl rfl 12 (by decide) (hts (.fieldLink RX10 123 "LineCitesModel" "fault" "I") (List.mem_of_getElem? (i := 3) rfl)) (fun _ h9 => h9) rfl dX10_work_112 ?_
        refine lv_if_le (tgt := 134) hx hb dX10_work_115 (by decide) (fun c281 => False.elim (by have nn : y265.toInt ≤ 0 := pw_le c281 rfl (by decide); omega)) (fun c281 => ?_)
        have nc281 : 0 < y265.toInt := pw_nle c281 rfl (by decide)
        have hX0 : (bI (uWork (tR g_tape) j_taped.toInt.toNat)) = 0 := wk_n hnh
        refine lv_aload_n hx hb dX10_work_118 rfl (lv_at hl 0 rfl) ?_
        refine lv_aload_n hx hb dX10_work_119 rfl (lv_at hl 0 rfl) ?_
        refine va_get (D := D) (ci := 10) (v := .int y265) (C := RX10) (T := TX10) (N := 25) hx hb hts (fun _ h => List.mem_cons_of_mem _ (List.mem_append_right _ h)) hown hK hP 2 rfl rfl 12 (by decide) (hts (.fieldLink RX10 123 "LineCitesModel" "fault" "I") (List.mem_of_getElem? (i := 3) rfl)) (fun _ h9 => h9) rfl dX10_work_120 ?_
        refine va_put (D := D) (ci := 10) (v := .int y265) (ty := .int) (C := RX10) (T := TX10) (N := 25) hx hb hts (fun _ h => List.mem_cons_of_mem _ (List.mem_append_right _ h)) tyX10 tyX10_ok nmX10 hown hK hP hD hS 2 rfl rfl 14 (by decide) (hts (.fieldLink RX10 187 "LineCitesModel" "latest" "I") (List.mem_of_getElem? (i := 52) rfl)) (fun _ h9 => h9) rfl (by decide +kernel) rfl rfl (Nat.le_of_ble_eq_true rfl) dX10_work_123 (fun H locs hP hD hS => ?_)
        have hP : va_P D vwCl [(m_draft, .inl (kI, 192, .inl g267)), (m_now, .inl (kI, 192, .inl g_now)), (h0, .inr (10, [.ref m_now, .ref m_draft, .ref m_past, .int j_acts, .ref m_images, .ref m_kept, .ref m_tape, .int 0, .int y262, .int y261, .int y263, .int y264, .int y265, .int y266, .int y265, .ref m_low, .ref m_high, .ref m_first, .ref m_second, .ref m_lines, .ref m_others, .int j_shiftFirst, .int j_shiftMany, .int j_shiftLow, .int j_shiftHigh])), (m_tape, .inl (kI, 200, .inl g_tape))] H := hP
        have hD : va_D A [(m_draft, .inl (kI, 192, .inl g267)), (m_now, .inl (kI, 192, .inl g_now)), (h0, .inr (10, [.ref m_now, .ref m_draft, .ref m_past, .int j_acts, .ref m_images, .ref m_kept, .ref m_tape, .int 0, .int y262, .int y261, .int y263, .int y264, .int y265, .int y266, .int y265, .ref m_low, .ref m_high, .ref m_first, .ref m_second, .ref m_lines, .ref m_others, .int j_shiftFirst, .int j_shiftMany, .int j_shiftLow, .int j_shiftHigh])), (m_tape, .inl (kI, 200, .inl g_tape))] := hD
        have hK : va_K D vwCl [(kI, .int), (kI, .int), (kI, .int), (kI, .int)] s := hK
        refine lv_ldc hx hb hown (hts (.constant RX10 190 (-1000100)) (List.mem_of_getElem? (i := 53) rfl)) dX10_work_126 ?_
        refine lv_aload_n hx hb dX10_work_128 rfl (lv_at hl 0 rfl) ?_
        refine va_get (D := D) (ci := 10) (v := .int y266) (C := RX10) (T := TX10) (N := 25) hx hb hts (fun _ h => List.mem_cons_of_mem _ (List.mem_append_right _ h)) hown hK hP 2 rfl rfl 13 (by decide) (hts (.fieldLink RX10 126 "LineCitesModel" "place" "I") (List.mem_of_getElem? (i := 46) rfl)) (fun _ h9 => h9) rfl dX10_work_129 ?_
        refine lv_isub hx hb dX10_work_132 ?_
        refine lv_topi (fun x282 ex282 => ?_)
        have hP9 := hP.sub (ws' := [(h0, .inr (10, [.ref m_now, .ref m_draft, .ref m_past, .int j_acts, .ref m_images, .ref m_kept, .ref m_tape, .int 0, .int y262, .int y261, .int y263, .int y264, .int y265, .int y266, .int y265, .ref m_low, .ref m_high, .ref m_first, .ref m_second, .ref m_lines, .ref m_others, .int j_shiftFirst, .int j_shiftMany, .int j_shiftLow, .int j_shiftHigh])), (m_tape, .inl (kI, 200, .inl g_tape)), (m_draft, .inl (kI, 192, .inl g267)), (m_now, .inl (kI, 192, .inl g_now))]) [2, 3, 0, 1] rfl
        have hD9 := hD.sub (ws' := [(h0, .inr (10, [.ref m_now, .ref m_draft, .ref m_past, .int j_acts, .ref m_images, .ref m_kept, .ref m_tape, .int 0, .int y262, .int y261, .int y263, .int y264, .int y265, .int y266, .int y265, .ref m_low, .ref m_high, .ref m_first, .ref m_second, .ref m_lines, .ref m_others, .int j_shiftFirst, .int j_shiftMany, .int j_shiftLow, .int j_shiftHigh])), (m_tape, .inl (kI, 200, .inl g_tape)), (m_draft, .inl (kI, 192, .inl g267)), (m_now, .inl (kI, 192, .inl g_now))]) [2, 3, 0, 1] (by decide) rfl
        have hK9 := hK.sub (tys' := [(kI, .int)]) [0] rfl
        refine W.widen (k := 0) (n := 0) (Nat.le_of_ble_eq_true rfl) (Nat.le_of_ble_eq_true rfl) ?_
        exact W.iret (v := x282) hx hb hr (fun t ht hW => ⟨⟨x282, (), rfl, trivial, y261, y262, y263, y264, y265, y266, y265, j_acts, g267, g_now, by rw [ht]; exact hP9, va_K.moved hW.alike hK9, hD9, (wkM_0 hX0)⟩, hS.F ht⟩) hS.2.2 dX10_work_133
      · have nc280 : y263.toInt ≠ 0 := pw_ne c280 rfl (by decide)
        refine lv_aload_n hx hb dX10_work_101 rfl (lv_at hl 0 rfl) ?_
        refine lv_iconst (v := 1) hx hb dX10_work_102 (by decide) ?_
        have kk1 : (1 : Int32).toInt = 1 := by decide
        have hPc := hP.sub (ws' := [(h0, .inr (10, [.ref m_now, .ref m_draft, .ref m_past, .int j_acts, .ref m_images, .ref m_kept, .ref m_tape, .int j_taped, .int y262, .int y261, .int y263, .int y264, .int y265, .int y266, .int j_latest, .ref m_low, .ref m_high, .ref m_first, .ref m_second, .ref m_lines, .ref m_others, .int j_shiftFirst, .int j_shiftMany, .int j_shiftLow, .int j_shiftHigh]))]) [2] rfl
        have hKc := hK.sub (tys' := []) [] rfl
        have hDc := hD.sub (ws' := [(h0, .inr (10, [.ref m_now, .ref m_draft, .ref m_past, .int j_acts, .ref m_images, .ref m_kept, .ref m_tape, .int j_taped, .int y262, .int y261, .int y263, .int y264, .int y265, .int y266, .int j_latest, .ref m_low, .ref m_high, .ref m_first, .ref m_second, .ref m_lines, .ref m_others, .int j_shiftFirst, .int j_shiftMany, .int j_shiftLow, .int j_shiftHigh]))]) [2] (by decide) rfl
        have hFc := va_free (wc := [(h0, .inr (10, [.ref m_now, .ref m_draft, .ref m_past, .int j_acts, .ref m_images, .ref m_kept, .ref m_tape, .int j_taped, .int y262, .int y261, .int y263, .int y264, .int y265, .int y266, .int j_latest, .ref m_low, .ref m_high, .ref m_first, .ref m_second, .ref m_lines, .ref m_others, .int j_shiftFirst, .int j_shiftMany, .int j_shiftLow, .int j_shiftHigh]))]) hD hS hA [2] rfl
        refine va_callv (va_runV (As := [.int 1]) (rest := []) ⟨hx, hb, hml, hown, hts⟩ (c_X10_bad l D h0 1 m_now m_draft m_past j_acts m_images m_kept m_tape j_taped y262 y261 y263 y264 y265 y266 j_latest m_low m_high m_first m_second m_lines m_others j_shiftFirst j_shiftMany j_shiftLow j_shiftHigh H.size) (cwV 1 hts g_X10_work_X10_bad rfl rfl rfl (by decide +kernel) ⟨Nat.le_of_ble_eq_true rfl, Nat.le_of_ble_eq_true rfl⟩) ⟨fun a U g mk q => by obtain ⟨q0, q1, qP, qK, qD⟩ := q; exact ⟨q0, q1, qP, va_K.moved (u := U) (U := U.calling g mk a) (Vm.Alike.refl U.vm) qK, qD⟩, va_recv hKc hPc (ci := 10) (q0 := 0) rfl rfl, fun U hU hW => ⟨rfl, by rw [hU], by rw [hU]; exact hPc, va_K.moved hW.alike hKc, hDc.weaken (fun _ _ _ _ => trivial)⟩⟩ rfl rfl hl.1 rfl (lv_room (Nat.le_of_ble_eq_true rfl)) dX10_work_103 ⟨Nat.le_of_ble_eq_true rfl, Nat.le_of_ble_eq_true rfl⟩) hS (fun q _ h => hFc q h) hFc (fun u t H1 locs ht hvm hw hB hz1 hk1 hS => ?_)
        obtain ⟨y284, y285, hP1, hK1, hD1, px0_r283⟩ := hB
        rw [ht] at hP1
        have hK1 := va_K.moved hvm.symm hK1
        obtain ⟨hP, hD⟩ := va_join (wr := [(m_draft, .inl (kI, 192, .inl g267)), (m_now, .inl (kI, 192, .inl g_now)), (m_tape, .inl (kI, 200, .inl g_tape))]) (w1 := [(h0, .inr (10, [.ref m_now, .ref m_draft, .ref m_past, .int j_acts, .ref m_images, .ref m_kept, .ref m_tape, .int j_taped, .int y262, .int y261, .int y263, .int y264, .int y284, .int y285, .int j_latest, .ref m_low, .ref m_high, .ref m_first, .ref m_second, .ref m_lines, .ref m_others, .int j_shiftFirst, .int j_shiftMany, .int j_shiftLow, .int j_shiftHigh]))]) hP hD [2] [0, 1, 3] rfl rfl (by decide) (by decide) hk1 hFc hP1 hD1
        have hK := (hK.sub (tys' := [(kI, .int), (kI, .int), (kI, .int), (kI, .int)]) [0, 1, 2, 3] rfl).app hK1
        generalize H1 = H at hP hS ⊢
        have hP : va_P D vwCl [(m_draft, .inl (kI, 192, .inl g267)), (m_now, .inl (kI, 192, .inl g_now)), (m_tape, .inl (kI, 200, .inl g_tape)), (h0, .inr (10, [.ref m_now, .ref m_draft, .ref m_past, .int j_acts, .ref m_images, .ref m_kept, .ref m_tape, .int j_taped, .int y262, .int y261, .int y263, .int y264, .int y284, .int y285, .int j_latest, .ref m_low, .ref m_high, .ref m_first, .ref m_second, .ref m_lines, .ref m_others, .int j_shiftFirst, .int j_shiftMany, .int j_shiftLow, .int j_shiftHigh]))] H := hP
        have hD : va_D A [(m_draft, .inl (kI, 192, .inl g267)), (m_now, .inl (kI, 192, .inl g_now)), (m_tape, .inl (kI, 200, .inl g_tape)), (h0, .inr (10, [.ref m_now, .ref m_draft, .ref m_past, .int j_acts, .ref m_images, .ref m_kept, .ref m_tape, .int j_taped, .int y262, .int y261, .int y263, .int y264, .int y284, .int y285, .int j_latest, .ref m_low, .ref m_high, .ref m_first, .ref m_second, .ref m_lines, .ref m_others, .int j_shiftFirst, .int j_shiftMany, .int j_shiftLow, .int j_shiftHigh]))] := hD
        have hK : va_K D vwCl [(kI, .int), (kI, .int), (kI, .int), (kI, .int)] s := hK
        refine W.widen (k := 0) (n := 0) (Nat.le_of_ble_eq_true rfl) (Nat.le_of_ble_eq_true rfl) ?_
        have nf3 : 1 ≤ y284.toInt := by have kk1 : (1 : Int32).toInt = 1 := (by decide); omega
        refine lv_aload_n hx hb dX10_work_106 rfl (lv_at hl 0 rfl) ?_
        refine lv_iconst (v := 0) hx hb dX10_work_107 (by decide) ?_
        refine va_put (D := D) (ci := 10) (v := .int 0) (ty := .int) (C := RX10) (T := TX10) (N := 25) hx hb hts (fun _ h => List.mem_cons_of_mem _ (List.mem_append_right _ h)) tyX10 tyX10_ok nmX10 hown hK hP hD hS 3 rfl rfl 7 (by decide) (hts (.fieldLink RX10 95 "LineCitesModel" "taped" "I") (List.mem_of_getElem? (i := 14) rfl)) (fun _ h9 => h9) rfl (by decide +kernel) rfl rfl (Nat.le_of_ble_eq_true rfl) dX10_work_108 (fun H locs hP hD hS => ?_)
        have hP : va_P D vwCl [(m_draft, .inl (kI, 192, .inl g267)), (m_now, .inl (kI, 192, .inl g_now)), (m_tape, .inl (kI, 200, .inl g_tape)), (h0, .inr (10, [.ref m_now, .ref m_draft, .ref m_past, .int j_acts, .ref m_images, .ref m_kept, .ref m_tape, .int 0, .int y262, .int y261, .int y263, .int y264, .int y284, .int y285, .int j_latest, .ref m_low, .ref m_high, .ref m_first, .ref m_second, .ref m_lines, .ref m_others, .int j_shiftFirst, .int j_shiftMany, .int j_shiftLow, .int j_shiftHigh]))] H := hP
        have hD : va_D A [(m_draft, .inl (kI, 192, .inl g267)), (m_now, .inl (kI, 192, .inl g_now)), (m_tape, .inl (kI, 200, .inl g_tape)), (h0, .inr (10, [.ref m_now, .ref m_draft, .ref m_past, .int j_acts, .ref m_images, .ref m_kept, .ref m_tape, .int 0, .int y262, .int y261, .int y263, .int y264, .int y284, .int y285, .int j_latest, .ref m_low, .ref m_high, .ref m_first, .ref m_second, .ref m_lines, .ref m_others, .int j_shiftFirst, .int j_shiftMany, .int j_shiftLow, .int j_shiftHigh]))] := hD
        have hK : va_K D vwCl [(kI, .int), (kI, .int), (kI, .int), (kI, .int)] s := hK
        refine lv_aload_n hx hb dX10_work_111 rfl (lv_at hl 0 rfl) ?_
        refine va_get (D := D) (ci := 10) (v := .int y284) (C := RX10) (T := TX10) (N := 25) hx hb hts (fun _ h => List.mem_cons_of_mem _ (List.mem_append_right _ h)) hown hK hP 3 rfl rfl 12 (by decide) (hts (.fieldLink RX10 123 "LineCitesModel" "fault" "I") (List.mem_of_getElem? (i := 3) rfl)) (fun _ h9 => h9) rfl dX10_work_112 ?_
        refine lv_if_le (tgt := 134) hx hb dX10_work_115 (by decide) (fun c286 => False.elim (by have nn : y284.toInt ≤ 0 := pw_le c286 rfl (by decide); omega)) (fun c286 => ?_)
        have nc286 : 0 < y284.toInt := pw_nle c286 rfl (by decide)
        have hX0 : (bI (uWork (tR g_tape) j_taped.toInt.toNat)) = 0 := wk_n hnh
        refine lv_aload_n hx hb dX10_work_118 rfl (lv_at hl 0 rfl) ?_
        refine lv_aload_n hx hb dX10_work_119 rfl (lv_at hl 0 rfl) ?_
        refine va_get (D := D) (ci := 10) (v := .int y284) (C := RX10) (T := TX10) (N := 25) hx hb hts (fun _ h => List.mem_cons_of_mem _ (List.mem_append_right _ h)) hown hK hP 3 rfl rfl 12 (by decide) (hts (.fieldLink RX10 123 "LineCitesModel" "fault" "I") (List.mem_of_getElem? (i := 3) rfl)) (fun _ h9 => h9) rfl dX10_work_120 ?_
        refine va_put (D := D) (ci := 10) (v := .int y284) (ty := .int) (C := RX10) (T := TX10) (N := 25) hx hb hts (fun _ h => List.mem_cons_of_mem _ (List.mem_append_right _ h)) tyX10 tyX10_ok nmX10 hown hK hP hD hS 3 rfl rfl 14 (by decide) (hts (.fieldLink RX10 187 "LineCitesModel" "latest" "I") (List.mem_of_getElem? (i := 52) rfl)) (fun _ h9 => h9) rfl (by decide +kernel) rfl rfl (Nat.le_of_ble_eq_true rfl) dX10_work_123 (fun H locs hP hD hS => ?_)
        have hP : va_P D vwCl [(m_draft, .inl (kI, 192, .inl g267)), (m_now, .inl (kI, 192, .inl g_now)), (m_tape, .inl (kI, 200, .inl g_tape)), (h0, .inr (10, [.ref m_now, .ref m_draft, .ref m_past, .int j_acts, .ref m_images, .ref m_kept, .ref m_tape, .int 0, .int y262, .int y261, .int y263, .int y264, .int y284, .int y285, .int y284, .ref m_low, .ref m_high, .ref m_first, .ref m_second, .ref m_lines, .ref m_others, .int j_shiftFirst, .int j_shiftMany, .int j_shiftLow, .int j_shiftHigh]))] H := hP
        have hD : va_D A [(m_draft, .inl (kI, 192, .inl g267)), (m_now, .inl (kI, 192, .inl g_now)), (m_tape, .inl (kI, 200, .inl g_tape)), (h0, .inr (10, [.ref m_now, .ref m_draft, .ref m_past, .int j_acts, .ref m_images, .ref m_kept, .ref m_tape, .int 0, .int y262, .int y261, .int y263, .int y264, .int y284, .int y285, .int y284, .ref m_low, .ref m_high, .ref m_first, .ref m_second, .ref m_lines, .ref m_others, .int j_shiftFirst, .int j_shiftMany, .int j_shiftLow, .int j_shiftHigh]))] := hD
        have hK : va_K D vwCl [(kI, .int), (kI, .int), (kI, .int), (kI, .int)] s := hK
        refine lv_ldc hx hb hown (hts (.constant RX10 190 (-1000100)) (List.mem_of_getElem? (i := 53) rfl)) dX10_work_126 ?_
        refine lv_aload_n hx hb dX10_work_128 rfl (lv_at hl 0 rfl) ?_
        refine va_get (D := D) (ci := 10) (v := .int y285) (C := RX10) (T := TX10) (N := 25) hx hb hts (fun _ h => List.mem_cons_of_mem _ (List.mem_append_right _ h)) hown hK hP 3 rfl rfl 13 (by decide) (hts (.fieldLink RX10 126 "LineCitesModel" "place" "I") (List.mem_of_getElem? (i := 46) rfl)) (fun _ h9 => h9) rfl dX10_work_129 ?_
        refine lv_isub hx hb dX10_work_132 ?_
        refine lv_topi (fun x287 ex287 => ?_)
        have hP9 := hP.sub (ws' := [(h0, .inr (10, [.ref m_now, .ref m_draft, .ref m_past, .int j_acts, .ref m_images, .ref m_kept, .ref m_tape, .int 0, .int y262, .int y261, .int y263, .int y264, .int y284, .int y285, .int y284, .ref m_low, .ref m_high, .ref m_first, .ref m_second, .ref m_lines, .ref m_others, .int j_shiftFirst, .int j_shiftMany, .int j_shiftLow, .int j_shiftHigh])), (m_tape, .inl (kI, 200, .inl g_tape)), (m_draft, .inl (kI, 192, .inl g267)), (m_now, .inl (kI, 192, .inl g_now))]) [3, 2, 0, 1] rfl
        have hD9 := hD.sub (ws' := [(h0, .inr (10, [.ref m_now, .ref m_draft, .ref m_past, .int j_acts, .ref m_images, .ref m_kept, .ref m_tape, .int 0, .int y262, .int y261, .int y263, .int y264, .int y284, .int y285, .int y284, .ref m_low, .ref m_high, .ref m_first, .ref m_second, .ref m_lines, .ref m_others, .int j_shiftFirst, .int j_shiftMany, .int j_shiftLow, .int j_shiftHigh])), (m_tape, .inl (kI, 200, .inl g_tape)), (m_draft, .inl (kI, 192, .inl g267)), (m_now, .inl (kI, 192, .inl g_now))]) [3, 2, 0, 1] (by decide) rfl
        have hK9 := hK.sub (tys' := [(kI, .int)]) [0] rfl
        refine W.widen (k := 0) (n := 0) (Nat.le_of_ble_eq_true rfl) (Nat.le_of_ble_eq_true rfl) ?_
        exact W.iret (v := x287) hx hb hr (fun t ht hW => ⟨⟨x287, (), rfl, trivial, y261, y262, y263, y264, y284, y285, y284, j_acts, g267, g_now, by rw [ht]; exact hP9, va_K.moved hW.alike hK9, hD9, (wkM_0 hX0)⟩, hS.F ht⟩) hS.2.2 dX10_work_133
  · have nc152 : v146.toInt < 192 := pw_nle c152 (by decide) rfl
    refine lv_aload_n hx hb dX10_work_9 rfl (lv_at hl 0 rfl) ?_
    refine va_get (D := D) (ci := 10) (v := .ref m_draft) (C := RX10) (T := TX10) (N := 25) hx hb hts (fun _ h => List.mem_cons_of_mem _ (List.mem_append_right _ h)) hown hK hP 0 rfl rfl 1 (by decide) (hts (.fieldLink RX10 13 "LineCitesModel" "draft" "[I") (List.mem_of_getElem? (i := 1) rfl)) (fun _ h9 => h9) rfl dX10_work_10 ?_
    refine lv_iload_n hx hb dX10_work_13 rfl (lv_at hl 1 rfl) ?_
    refine lv_iconst (v := 0) hx hb dX10_work_14 (by decide) ?_
    refine va_iast hx hb hK hP hD hS 2 0 rfl rfl (vp_in_iff.mpr ⟨by omega, by omega⟩) dX10_work_15 (fun H locs hP hD hS => ?_)
    obtain ⟨g288, eg288⟩ : ∃ g : Nat → Int32, g = upd f147 (v146 : Int32).toNatClampNeg 0 := ⟨_, rfl⟩
    have hP : va_P D vwCl [(h0, .inr (10, [.ref m_now, .ref m_draft, .ref m_past, .int j_acts, .ref m_images, .ref m_kept, .ref m_tape, .int j_taped, .int j_at, .int j_start, .int j_token, .int j_value, .int j_fault, .int j_place, .int j_latest, .ref m_low, .ref m_high, .ref m_first, .ref m_second, .ref m_lines, .ref m_others, .int j_shiftFirst, .int j_shiftMany, .int j_shiftLow, .int j_shiftHigh])), (m_tape, .inl (kI, 200, .inl g_tape)), (m_draft, .inl (kI, 192, .inl (upd f147 (v146 : Int32).toNatClampNeg 0))), (m_now, .inl (kI, 192, .inl g_now))] H := hP
    have hD : va_D A [(h0, .inr (10, [.ref m_now, .ref m_draft, .ref m_past, .int j_acts, .ref m_images, .ref m_kept, .ref m_tape, .int j_taped, .int j_at, .int j_start, .int j_token, .int j_value, .int j_fault, .int j_place, .int j_latest, .ref m_low, .ref m_high, .ref m_first, .ref m_second, .ref m_lines, .ref m_others, .int j_shiftFirst, .int j_shiftMany, .int j_shiftLow, .int j_shiftHigh])), (m_tape, .inl (kI, 200, .inl g_tape)), (m_draft, .inl (kI, 192, .inl (upd f147 (v146 : Int32).toNatClampNeg 0))), (m_now, .inl (kI, 192, .inl g_now))] := hD
    have hK : va_K D vwCl [(kI, .int)] s := hK
    rw [← eg288] at hP hD
    obtain ⟨x289, ex289⟩ : ∃ y : Int32, y = v146 + 1 := ⟨_, rfl⟩
    have tx289 : x289.toInt = v146.toInt + 1 := pw_addX ex289 rfl (by decide) (by omega) (by omega)
    refine lv_iinc (v := x289) (lv' := [(1, .int x289), (0, .ref h0)]) hx hb dX10_work_16 hl (k := 1) rfl (by rw [ex289]; rfl) (by decide) rfl (fun ls hl => ?_)
    refine lv_goto (tgt := 2) hx hb dX10_work_19 (by decide) ?_
    have hP9 : va_P D vwCl [(h0, .inr (10, [.ref m_now, .ref m_draft, .ref m_past, .int j_acts, .ref m_images, .ref m_kept, .ref m_tape, .int j_taped, .int j_at, .int j_start, .int j_token, .int j_value, .int j_fault, .int j_place, .int j_latest, .ref m_low, .ref m_high, .ref m_first, .ref m_second, .ref m_lines, .ref m_others, .int j_shiftFirst, .int j_shiftMany, .int j_shiftLow, .int j_shiftHigh])), (m_tape, .inl (kI, 200, .inl g_tape)), (m_draft, .inl (kI, 192, .inl g288)), (m_now, .inl (kI, 192, .inl g_now))] H := hP.sub [0, 1, 2, 3] rfl
    have hD9 : va_D A [(h0, .inr (10, [.ref m_now, .ref m_draft, .ref m_past, .int j_acts, .ref m_images, .ref m_kept, .ref m_tape, .int j_taped, .int j_at, .int j_start, .int j_token, .int j_value, .int j_fault, .int j_place, .int j_latest, .ref m_low, .ref m_high, .ref m_first, .ref m_second, .ref m_lines, .ref m_others, .int j_shiftFirst, .int j_shiftMany, .int j_shiftLow, .int j_shiftHigh])), (m_tape, .inl (kI, 200, .inl g_tape)), (m_draft, .inl (kI, 192, .inl g288)), (m_now, .inl (kI, 192, .inl g_now))] := hD.sub [0, 1, 2, 3] (by decide) rfl
    have hl9 : lv_has ls 2 [(0, .ref h0), (1, .int x289)] := lv_sub hl [1, 0] rfl
    refine W.widen (k := 0) (n := 0) (Nat.le_of_ble_eq_true rfl) (Nat.le_of_ble_eq_true rfl) ?_
    exact ih148 (x289, g288) _ _ _ (pw_up ex289 (by omega)) ⟨hP9, hD9, hS, hl9, (by omega), (zfI_up hzf (by omega) eg288 rfl (pw_add1 ex289 (by omega)))⟩
