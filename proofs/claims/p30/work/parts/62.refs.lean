theorem dX10_readsStretch_0 : decode cX10_readsStretch 0 = .ok (.aload_n 0, 1) := by decide +kernel
theorem dX10_readsStretch_1 : decode cX10_readsStretch 1 = .ok (.invokevirtual 152, 3) := by decide +kernel
theorem dX10_readsStretch_4 : decode cX10_readsStretch 4 = .ok (.istore_n 2, 1) := by decide +kernel
theorem dX10_readsStretch_5 : decode cX10_readsStretch 5 = .ok (.aload_n 0, 1) := by decide +kernel
theorem dX10_readsStretch_6 : decode cX10_readsStretch 6 = .ok (.getfield 13, 3) := by decide +kernel
theorem dX10_readsStretch_9 : decode cX10_readsStretch 9 = .ok (.iconst 3, 1) := by decide +kernel
theorem dX10_readsStretch_10 : decode cX10_readsStretch 10 = .ok (.iload_n 1, 1) := by decide +kernel
theorem dX10_readsStretch_11 : decode cX10_readsStretch 11 = .ok (.iadd, 1) := by decide +kernel
theorem dX10_readsStretch_12 : decode cX10_readsStretch 12 = .ok (.iaload, 1) := by decide +kernel
theorem dX10_readsStretch_13 : decode cX10_readsStretch 13 = .ok (.istore_n 3, 1) := by decide +kernel
theorem dX10_readsStretch_14 : decode cX10_readsStretch 14 = .ok (.iload_n 3, 1) := by decide +kernel
theorem dX10_readsStretch_15 : decode cX10_readsStretch 15 = .ok (.bipush 6, 2) := by decide +kernel
theorem dX10_readsStretch_17 : decode cX10_readsStretch 17 = .ok (.if_icmp .ne 8, 3) := by decide +kernel
theorem dX10_readsStretch_20 : decode cX10_readsStretch 20 = .ok (.aload_n 0, 1) := by decide +kernel
theorem dX10_readsStretch_21 : decode cX10_readsStretch 21 = .ok (.iconst 3, 1) := by decide +kernel
theorem dX10_readsStretch_22 : decode cX10_readsStretch 22 = .ok (.invokevirtual 132, 3) := by decide +kernel
theorem dX10_readsStretch_25 : decode cX10_readsStretch 25 = .ok (.aload_n 0, 1) := by decide +kernel
theorem dX10_readsStretch_26 : decode cX10_readsStretch 26 = .ok (.invokevirtual 136, 3) := by decide +kernel
theorem dX10_readsStretch_29 : decode cX10_readsStretch 29 = .ok (.aload_n 0, 1) := by decide +kernel
theorem dX10_readsStretch_30 : decode cX10_readsStretch 30 = .ok (.aload_n 0, 1) := by decide +kernel
theorem dX10_readsStretch_31 : decode cX10_readsStretch 31 = .ok (.getfield 13, 3) := by decide +kernel
theorem dX10_readsStretch_34 : decode cX10_readsStretch 34 = .ok (.iload_n 1, 1) := by decide +kernel
theorem dX10_readsStretch_35 : decode cX10_readsStretch 35 = .ok (.aload_n 0, 1) := by decide +kernel
theorem dX10_readsStretch_36 : decode cX10_readsStretch 36 = .ok (.getfield 109, 3) := by decide +kernel
theorem dX10_readsStretch_39 : decode cX10_readsStretch 39 = .ok (.ldc 61, 2) := by decide +kernel
theorem dX10_readsStretch_41 : decode cX10_readsStretch 41 = .ok (.invokestatic 156, 3) := by decide +kernel
theorem dX10_readsStretch_44 : decode cX10_readsStretch 44 = .ok (.bipush 44, 2) := by decide +kernel
theorem dX10_readsStretch_46 : decode cX10_readsStretch 46 = .ok (.invokevirtual 160, 3) := by decide +kernel
theorem dX10_readsStretch_49 : decode cX10_readsStretch 49 = .ok (.istore 4, 2) := by decide +kernel
theorem dX10_readsStretch_51 : decode cX10_readsStretch 51 = .ok (.aload_n 0, 1) := by decide +kernel
theorem dX10_readsStretch_52 : decode cX10_readsStretch 52 = .ok (.aload_n 0, 1) := by decide +kernel
theorem dX10_readsStretch_53 : decode cX10_readsStretch 53 = .ok (.getfield 123, 3) := by decide +kernel
theorem dX10_readsStretch_56 : decode cX10_readsStretch 56 = .ok (.ifCond .ne 26, 3) := by decide +kernel
theorem dX10_readsStretch_59 : decode cX10_readsStretch 59 = .ok (.aload_n 0, 1) := by decide +kernel
theorem dX10_readsStretch_60 : decode cX10_readsStretch 60 = .ok (.getfield 13, 3) := by decide +kernel
theorem dX10_readsStretch_63 : decode cX10_readsStretch 63 = .ok (.iload_n 1, 1) := by decide +kernel
theorem dX10_readsStretch_64 : decode cX10_readsStretch 64 = .ok (.iload 4, 2) := by decide +kernel
theorem dX10_readsStretch_66 : decode cX10_readsStretch 66 = .ok (.aload_n 0, 1) := by decide +kernel
theorem dX10_readsStretch_67 : decode cX10_readsStretch 67 = .ok (.getfield 109, 3) := by decide +kernel
theorem dX10_readsStretch_70 : decode cX10_readsStretch 70 = .ok (.ldc 61, 2) := by decide +kernel
theorem dX10_readsStretch_72 : decode cX10_readsStretch 72 = .ok (.invokestatic 164, 3) := by decide +kernel
theorem dX10_readsStretch_75 : decode cX10_readsStretch 75 = .ok (.ifCond .eq 7, 3) := by decide +kernel
theorem dX10_readsStretch_78 : decode cX10_readsStretch 78 = .ok (.iconst 1, 1) := by decide +kernel
theorem dX10_readsStretch_79 : decode cX10_readsStretch 79 = .ok (.goto 4, 3) := by decide +kernel
theorem dX10_readsStretch_82 : decode cX10_readsStretch 82 = .ok (.iconst 0, 1) := by decide +kernel
theorem dX10_readsStretch_83 : decode cX10_readsStretch 83 = .ok (.bipush 44, 2) := by decide +kernel
theorem dX10_readsStretch_85 : decode cX10_readsStretch 85 = .ok (.invokevirtual 160, 3) := by decide +kernel
theorem dX10_readsStretch_88 : decode cX10_readsStretch 88 = .ok (.istore 5, 2) := by decide +kernel
theorem dX10_readsStretch_90 : decode cX10_readsStretch 90 = .ok (.aload_n 0, 1) := by decide +kernel
theorem dX10_readsStretch_91 : decode cX10_readsStretch 91 = .ok (.aload_n 0, 1) := by decide +kernel
theorem dX10_readsStretch_92 : decode cX10_readsStretch 92 = .ok (.getfield 123, 3) := by decide +kernel
theorem dX10_readsStretch_95 : decode cX10_readsStretch 95 = .ok (.ifCond .ne 20, 3) := by decide +kernel
theorem dX10_readsStretch_98 : decode cX10_readsStretch 98 = .ok (.iload_n 2, 1) := by decide +kernel
theorem dX10_readsStretch_99 : decode cX10_readsStretch 99 = .ok (.iload 5, 2) := by decide +kernel
theorem dX10_readsStretch_101 : decode cX10_readsStretch 101 = .ok (.aload_n 0, 1) := by decide +kernel
theorem dX10_readsStretch_102 : decode cX10_readsStretch 102 = .ok (.getfield 109, 3) := by decide +kernel
theorem dX10_readsStretch_105 : decode cX10_readsStretch 105 = .ok (.invokestatic 168, 3) := by decide +kernel
theorem dX10_readsStretch_108 : decode cX10_readsStretch 108 = .ok (.ifCond .eq 7, 3) := by decide +kernel
theorem dX10_readsStretch_111 : decode cX10_readsStretch 111 = .ok (.iconst 1, 1) := by decide +kernel
theorem dX10_readsStretch_112 : decode cX10_readsStretch 112 = .ok (.goto 4, 3) := by decide +kernel
theorem dX10_readsStretch_115 : decode cX10_readsStretch 115 = .ok (.iconst 0, 1) := by decide +kernel
theorem dX10_readsStretch_116 : decode cX10_readsStretch 116 = .ok (.bipush 59, 2) := by decide +kernel
theorem dX10_readsStretch_118 : decode cX10_readsStretch 118 = .ok (.invokevirtual 160, 3) := by decide +kernel
theorem dX10_readsStretch_121 : decode cX10_readsStretch 121 = .ok (.istore 6, 2) := by decide +kernel
theorem dX10_readsStretch_123 : decode cX10_readsStretch 123 = .ok (.aload_n 0, 1) := by decide +kernel
theorem dX10_readsStretch_124 : decode cX10_readsStretch 124 = .ok (.getfield 123, 3) := by decide +kernel
theorem dX10_readsStretch_127 : decode cX10_readsStretch 127 = .ok (.ifCond .ne 18, 3) := by decide +kernel
theorem dX10_readsStretch_130 : decode cX10_readsStretch 130 = .ok (.aload_n 0, 1) := by decide +kernel
theorem dX10_readsStretch_131 : decode cX10_readsStretch 131 = .ok (.getfield 13, 3) := by decide +kernel
theorem dX10_readsStretch_134 : decode cX10_readsStretch 134 = .ok (.iload_n 1, 1) := by decide +kernel
theorem dX10_readsStretch_135 : decode cX10_readsStretch 135 = .ok (.iload_n 2, 1) := by decide +kernel
theorem dX10_readsStretch_136 : decode cX10_readsStretch 136 = .ok (.iload 4, 2) := by decide +kernel
theorem dX10_readsStretch_138 : decode cX10_readsStretch 138 = .ok (.iload 5, 2) := by decide +kernel
theorem dX10_readsStretch_140 : decode cX10_readsStretch 140 = .ok (.iload 6, 2) := by decide +kernel
theorem dX10_readsStretch_142 : decode cX10_readsStretch 142 = .ok (.invokestatic 171, 3) := by decide +kernel
theorem dX10_readsStretch_145 : decode cX10_readsStretch 145 = .ok (.return_, 1) := by decide +kernel
def w_X10_readsStretch : List Cond := .code yX10_readsStretch cX10_readsStretch 7 none :: ([.methodLink RX10 152 yX10_sort, .instanceMethod yX10_sort, .selects RX10 yX10_sort yX10_sort, .initialized RX10, .code yX10_sort cX10_sort 1 (some .int), .methodLink RX10 142 yX10_isLetter, .instanceMethod yX10_isLetter, .selects RX10 yX10_isLetter yX10_isLetter, .code yX10_isLetter cX10_isLetter 2 (some .boolean), .fieldLink RX10 123 "LineCitesModel" "fault" "I", .fieldLink RX10 120 "LineCitesModel" "token" "I", .fieldLink RX10 109 "LineCitesModel" "value" "I", .constant RX10 61 (-1000000), .fieldLink RX10 13 "LineCitesModel" "draft" "[I", .methodLink RX10 136 yX10_goesOn, .instanceMethod yX10_goesOn, .selects RX10 yX10_goesOn yX10_goesOn, .code yX10_goesOn cX10_goesOn 1 none, .methodLink RX10 129 yX10_reads, .instanceMethod yX10_reads, .selects RX10 yX10_reads yX10_reads, .code yX10_reads cX10_reads 2 none, .fieldLink RX10 99 "LineCitesModel" "at" "I", .fieldLink RX10 102 "LineCitesModel" "start" "I", .methodLink RX10 105 yX10_byteAt, .instanceMethod yX10_byteAt, .selects RX10 yX10_byteAt yX10_byteAt, .code yX10_byteAt cX10_byteAt 2 (some .int), .fieldLink RX10 95 "LineCitesModel" "taped" "I", .fieldLink RX10 26 "LineCitesModel" "tape" "[I", .constantLong RX10 112 (97), .constantLong RX10 114 (122), .methodLink RX10 51 yX10_in0, .static yX10_in0, .code yX10_in0 cX10_in0 6 (some .boolean), .constantLong RX10 116 (48), .constantLong RX10 118 (57), .methodLink RX10 156 yX10_isFrom, .static yX10_isFrom, .code yX10_isFrom cX10_isFrom 4 (some .boolean), .methodLink RX10 66 yX10_stretchOf, .static yX10_stretchOf, .code yX10_stretchOf cX10_stretchOf 7 (some .int), .methodLink RX10 62 yX10_of, .static yX10_of, .code yX10_of cX10_of 4 (some .int), .methodLink RX10 160 yX10_number, .instanceMethod yX10_number, .selects RX10 yX10_number yX10_number, .code yX10_number cX10_number 4 (some .int), .methodLink RX10 139 yX10_sign, .instanceMethod yX10_sign, .selects RX10 yX10_sign yX10_sign, .code yX10_sign cX10_sign 2 none, .methodLink RX10 132 yX10_bad, .instanceMethod yX10_bad, .selects RX10 yX10_bad yX10_bad, .code yX10_bad cX10_bad 2 none, .fieldLink RX10 126 "LineCitesModel" "place" "I", .methodLink RX10 164 yX10_isMany, .static yX10_isMany, .code yX10_isMany cX10_isMany 7 (some .boolean), .methodLink RX10 168 yX10_isFirst, .static yX10_isFirst, .code yX10_isFirst cX10_isFirst 3 (some .boolean), .methodLink RX10 145 yX10_isNumber, .static yX10_isNumber, .code yX10_isNumber cX10_isNumber 1 (some .boolean), .constantLong RX10 59 (999), .methodLink RX10 148 yX10_greatest, .static yX10_greatest, .code yX10_greatest cX10_greatest 3 (some .int), .methodLink RX10 171 yX10_puts, .static yX10_puts, .code yX10_puts cX10_puts 7 none] ++ wsX100)
set_option maxRecDepth 20000 in
theorem g_X10_readsStretch_X10_sort : GoodIn w_X10_readsStretch (wsV RX10 152 RX10 yX10_sort w_X10_sort) := goodIn_r _ [1, 2, 3, 4, 5, 6, 7, 8, 4, 9, 10, 11, 12, 13, 76, 77, 78, 79, 80, 81, 82, 83, 84, 85, 86, 87, 88, 89, 90, 91, 92, 93, 94, 95, 96, 97, 98, 99, 100] rfl (by decide +kernel)
set_option maxRecDepth 20000 in
theorem g_X10_readsStretch_X10_goesOn : GoodIn w_X10_readsStretch (wsV RX10 136 RX10 yX10_goesOn w_X10_goesOn) := goodIn_r _ [15, 16, 17, 4, 18, 10, 19, 20, 21, 4, 22, 23, 24, 25, 26, 27, 28, 29, 30, 12, 31, 32, 33, 34, 35, 36, 37, 11, 76, 77, 78, 79, 80, 81, 82, 83, 84, 85, 86, 87, 88, 89, 90, 91, 92, 93, 94, 95, 96, 97, 98, 99, 100] rfl (by decide +kernel)
set_option maxRecDepth 20000 in
theorem g_X10_readsStretch_X10_isFrom : GoodIn w_X10_readsStretch (wsS RX10 156 yX10_isFrom w_X10_isFrom) := goodIn_r _ [38, 39, 4, 40, 33, 34, 4, 35, 41, 42, 43, 13, 44, 45, 46] rfl (by decide +kernel)
set_option maxRecDepth 20000 in
theorem g_X10_readsStretch_X10_number : GoodIn w_X10_readsStretch (wsV RX10 160 RX10 yX10_number w_X10_number) := goodIn_r _ [47, 48, 49, 4, 50, 11, 10, 15, 16, 17, 4, 18, 19, 20, 21, 22, 23, 24, 25, 26, 27, 28, 29, 30, 12, 31, 32, 33, 34, 35, 36, 37, 51, 52, 53, 54, 55, 56, 57, 58, 59, 76, 77, 78, 79, 80, 81, 82, 83, 84, 85, 86, 87, 88, 89, 90, 91, 92, 93, 94, 95, 96, 97, 98, 99, 100] rfl (by decide +kernel)
set_option maxRecDepth 20000 in
theorem g_X10_readsStretch_X10_isMany : GoodIn w_X10_readsStretch (wsS RX10 164 yX10_isMany w_X10_isMany) := goodIn_r _ [60, 61, 4, 62, 33, 34, 4, 35, 41, 42, 43, 13, 44, 45, 46] rfl (by decide +kernel)
set_option maxRecDepth 20000 in
theorem g_X10_readsStretch_X10_isFirst : GoodIn w_X10_readsStretch (wsS RX10 168 yX10_isFirst w_X10_isFirst) := goodIn_r _ [63, 64, 4, 65, 66, 67, 4, 68, 69, 33, 34, 35, 70, 71, 72] rfl (by decide +kernel)
set_option maxRecDepth 20000 in
theorem g_X10_readsStretch_X10_puts : GoodIn w_X10_readsStretch (wsS RX10 171 yX10_puts w_X10_puts) := goodIn_r _ [73, 74, 4, 75] rfl (by decide +kernel)
set_option maxRecDepth 20000 in
theorem g_X10_readsStretch_X10_bad : GoodIn w_X10_readsStretch (wsV RX10 132 RX10 yX10_bad w_X10_bad) := goodIn_r _ [55, 56, 57, 4, 58, 10, 24, 59, 76, 77, 78, 79, 80, 81, 82, 83, 84, 85, 86, 87, 88, 89, 90, 91, 92, 93, 94, 95, 96, 97, 98, 99, 100] rfl (by decide +kernel)
set_option maxHeartbeats 4000000 in
set_option maxRecDepth 100000 in
theorem c_X10_readsStretch (l : Launch) (D : va_G) (h0 : Nat) (i_e : Int32) (m_now : Nat) (m_draft : Nat) (m_past : Nat) (j_acts : Int32) (m_images : Nat) (m_kept : Nat) (m_tape : Nat) (j_taped : Int32) (j_at : Int32) (j_start : Int32) (j_token : Int32) (j_value : Int32) (j_fault : Int32) (j_place : Int32) (j_latest : Int32) (m_low : Nat) (m_high : Nat) (m_first : Nat) (m_second : Nat) (m_lines : Nat) (m_others : Nat) (j_shiftFirst : Int32) (j_shiftMany : Int32) (j_shiftLow : Int32) (j_shiftHigh : Int32) (kI : ClassId) (g_tape : Nat → Int32) (g_draft : Nat → Int32) (q : Nat) (ke : Nat) (ps : List (Int × Int)) (sz : Nat) (h0j_taped : 0 ≤ j_taped.toInt) (h1j_taped : j_taped.toInt ≤ 200) (hf0 : j_fault.toInt = 0) (hcur : j_fault.toInt = 0 → cuR (tR g_tape) j_taped.toInt.toNat q j_at.toInt j_token.toInt j_value.toInt) (hnke : i_e.toInt = ((ke : Nat) : Int)) (h0i_e : 0 ≤ i_e.toInt) (h1i_e : i_e.toInt ≤ 4) (hdr : drR g_draft ke ps) (hkk : tKind (tTok (tR g_tape) j_taped.toInt.toNat q) ≠ 0) (hg_tape : bT g_tape) (hg_draft : gV g_draft) : Met l yX10_readsStretch w_X10_readsStretch ({ frames := 5, cells := 0, slots := 0, locals := 110 }) (va_Pc [.ref h0, .int i_e] (fun U => U.heap.size = sz ∧ va_P D vwCl [(h0, .inr (10, [.ref m_now, .ref m_draft, .ref m_past, .int j_acts, .ref m_images, .ref m_kept, .ref m_tape, .int j_taped, .int j_at, .int j_start, .int j_token, .int j_value, .int j_fault, .int j_place, .int j_latest, .ref m_low, .ref m_high, .ref m_first, .ref m_second, .ref m_lines, .ref m_others, .int j_shiftFirst, .int j_shiftMany, .int j_shiftLow, .int j_shiftHigh])), (m_tape, .inl (kI, 200, .inl g_tape)), (m_draft, .inl (kI, 192, .inl g_draft))] U.heap ∧ va_K D vwCl [(kI, .int)] U ∧ va_D (fun _ => True) [(h0, .inr (10, [.ref m_now, .ref m_draft, .ref m_past, .int j_acts, .ref m_images, .ref m_kept, .ref m_tape, .int j_taped, .int j_at, .int j_start, .int j_token, .int j_value, .int j_fault, .int j_place, .int j_latest, .ref m_low, .ref m_high, .ref m_first, .ref m_second, .ref m_lines, .ref m_others, .int j_shiftFirst, .int j_shiftMany, .int j_shiftLow, .int j_shiftHigh])), (m_tape, .inl (kI, 200, .inl g_tape)), (m_draft, .inl (kI, 192, .inl g_draft))])) (va_Qv (fun (_ : Unit) => True) (fun (_ : Unit) t => ∃ (n_start : Int32) (n_at : Int32) (n_token : Int32) (n_value : Int32) (n_fault : Int32) (n_place : Int32) (n_draft : Nat → Int32), va_P D vwCl [(h0, .inr (10, [.ref m_now, .ref m_draft, .ref m_past, .int j_acts, .ref m_images, .ref m_kept, .ref m_tape, .int j_taped, .int n_at, .int n_start, .int n_token, .int n_value, .int n_fault, .int n_place, .int j_latest, .ref m_low, .ref m_high, .ref m_first, .ref m_second, .ref m_lines, .ref m_others, .int j_shiftFirst, .int j_shiftMany, .int j_shiftLow, .int j_shiftHigh])), (m_tape, .inl (kI, 200, .inl g_tape)), (m_draft, .inl (kI, 192, .inl n_draft))] t.heap ∧ va_K D vwCl [(kI, .int)] t ∧ va_D (va_A [(h0, .inr (10, [.ref m_now, .ref m_draft, .ref m_past, .int j_acts, .ref m_images, .ref m_kept, .ref m_tape, .int j_taped, .int j_at, .int j_start, .int j_token, .int j_value, .int j_fault, .int j_place, .int j_latest, .ref m_low, .ref m_high, .ref m_first, .ref m_second, .ref m_lines, .ref m_others, .int j_shiftFirst, .int j_shiftMany, .int j_shiftLow, .int j_shiftHigh])), (m_tape, .inl (kI, 200, .inl g_tape)), (m_draft, .inl (kI, 192, .inl g_draft))] sz) [(h0, .inr (10, [.ref m_now, .ref m_draft, .ref m_past, .int j_acts, .ref m_images, .ref m_kept, .ref m_tape, .int j_taped, .int n_at, .int n_start, .int n_token, .int n_value, .int n_fault, .int n_place, .int j_latest, .ref m_low, .ref m_high, .ref m_first, .ref m_second, .ref m_lines, .ref m_others, .int j_shiftFirst, .int j_shiftMany, .int j_shiftLow, .int j_shiftHigh])), (m_tape, .inl (kI, 200, .inl g_tape)), (m_draft, .inl (kI, 192, .inl n_draft))] ∧ gV n_draft ∧ ((n_fault.toInt = 0 ∧ bI (uStr (tR g_tape) j_taped.toInt.toNat (g_draft 0).toInt (tTok (tR g_tape) j_taped.toInt.toNat q) (tNx (tR g_tape) j_taped.toInt.toNat q) ps) = 1) ∨ (1 ≤ n_fault.toInt ∧ bI (uStr (tR g_tape) j_taped.toInt.toNat (g_draft 0).toInt (tTok (tR g_tape) j_taped.toInt.toNat q) (tNx (tR g_tape) j_taped.toInt.toNat q) ps) = 0)) ∧ n_fault.toInt ≤ 3 ∧ (n_fault.toInt = 0 → cuR (tR g_tape) j_taped.toInt.toNat (uNx6 (tR g_tape) j_taped.toInt.toNat (tNx (tR g_tape) j_taped.toInt.toNat q)) n_at.toInt n_token.toInt n_value.toInt) ∧ (n_fault.toInt = 0 → drR n_draft ke (uPut (tR g_tape) j_taped.toInt.toNat (tNx (tR g_tape) j_taped.toInt.toNat q) ps)) ∧ (∀ j : Nat, j < 8 → j ≠ 3 + ke → n_draft j = g_draft j) ∧ (n_fault.toInt = 0 → j_at.toInt < n_at.toInt)) (va_A [(h0, .inr (10, [.ref m_now, .ref m_draft, .ref m_past, .int j_acts, .ref m_images, .ref m_kept, .ref m_tape, .int j_taped, .int j_at, .int j_start, .int j_token, .int j_value, .int j_fault, .int j_place, .int j_latest, .ref m_low, .ref m_high, .ref m_first, .ref m_second, .ref m_lines, .ref m_others, .int j_shiftFirst, .int j_shiftMany, .int j_shiftLow, .int j_shiftHigh])), (m_tape, .inl (kI, 200, .inl g_tape)), (m_draft, .inl (kI, 192, .inl g_draft))] sz)) 0 0 (va_A [(h0, .inr (10, [.ref m_now, .ref m_draft, .ref m_past, .int j_acts, .ref m_images, .ref m_kept, .ref m_tape, .int j_taped, .int j_at, .int j_start, .int j_token, .int j_value, .int j_fault, .int j_place, .int j_latest, .ref m_low, .ref m_high, .ref m_first, .ref m_second, .ref m_lines, .ref m_others, .int j_shiftFirst, .int j_shiftMany, .int j_shiftLow, .int j_shiftHigh])), (m_tape, .inl (kI, 200, .inl g_tape)), (m_draft, .inl (kI, 192, .inl g_draft))] sz) := by
  refine Met.ofW (cc := cX10_readsStretch) (maxL := 7) (ret := none) (by decide) rfl ?_
  intro p e s m args below meth c s₁ B hml hv
  obtain ⟨rfl, hsz, hP, hK, hD0⟩ := hv
  have hx := B.exec
  have hb := B.bytes
  have hr := B.returns
  have hts := atoms_spec (ws := w_X10_readsStretch) B.pre
  have hown : s.vm.findClass RX10 = some m.cls := findClass_of_methodNamed B.named
  have hlocks := B.notSynchronized
  subst hsz
  have hD := hD0.self (sz := s.heap.size)
  generalize hAe : va_A [(h0, .inr (10, [.ref m_now, .ref m_draft, .ref m_past, .int j_acts, .ref m_images, .ref m_kept, .ref m_tape, .int j_taped, .int j_at, .int j_start, .int j_token, .int j_value, .int j_fault, .int j_place, .int j_latest, .ref m_low, .ref m_high, .ref m_first, .ref m_second, .ref m_lines, .ref m_others, .int j_shiftFirst, .int j_shiftMany, .int j_shiftLow, .int j_shiftHigh])), (m_tape, .inl (kI, 200, .inl g_tape)), (m_draft, .inl (kI, 192, .inl g_draft))] s.heap.size = A at hD ⊢
  have hA : ∀ q : Nat, s.heap.size ≤ q → A q := fun q h => by rw [← hAe]; exact Or.inr h
  have hS : va_S A s.heap s.heap [] := va_S.rf
  have hP : va_P D vwCl [(h0, .inr (10, [.ref m_now, .ref m_draft, .ref m_past, .int j_acts, .ref m_images, .ref m_kept, .ref m_tape, .int j_taped, .int j_at, .int j_start, .int j_token, .int j_value, .int j_fault, .int j_place, .int j_latest, .ref m_low, .ref m_high, .ref m_first, .ref m_second, .ref m_lines, .ref m_others, .int j_shiftFirst, .int j_shiftMany, .int j_shiftLow, .int j_shiftHigh])), (m_tape, .inl (kI, 200, .inl g_tape)), (m_draft, .inl (kI, 192, .inl g_draft))] s.heap := hP
  have hl := lv_entry ([.ref h0, .int i_e]) (n := 7) (Nat.le_of_ble_eq_true rfl)
  rw [lg_entry_eq]
  generalize (lg_sl ([.ref h0, .int i_e]) ++ List.replicate (7 - (lg_sl ([.ref h0, .int i_e])).length) Slot.unset).toArray = ls at hl ⊢
  have hl : lv_has ls 7 [(0, .ref h0), (1, .int i_e)] := hl
  obtain ⟨H, hHe⟩ : ∃ H : Heap, H = s.heap := ⟨_, rfl⟩
  rw [← hHe] at hP
  have hS : va_S A s.heap H [] := by rw [hHe]; exact hS
  refine pw_heap hHe ?_
  have hs2 : j_at.toInt = (((tNx (tR g_tape) j_taped.toInt.toNat q) : Nat) : Int) ∧ j_at.toInt ≤ j_taped.toInt := by have w := cu_at (hcur hf0); omega
  have hck := cu_kind (hcur hf0)
  have hkr := tKind_rng (tTok (tR g_tape) j_taped.toInt.toNat q)
  have hL2 := hg_draft.h0.2
  have hd1 := hdr.1
  have hd2 := hdr.2.1
  refine lv_aload_n hx hb dX10_readsStretch_0 rfl (lv_at hl 0 rfl) ?_
  have hPc := hP.sub (ws' := [(h0, .inr (10, [.ref m_now, .ref m_draft, .ref m_past, .int j_acts, .ref m_images, .ref m_kept, .ref m_tape, .int j_taped, .int j_at, .int j_start, .int j_token, .int j_value, .int j_fault, .int j_place, .int j_latest, .ref m_low, .ref m_high, .ref m_first, .ref m_second, .ref m_lines, .ref m_others, .int j_shiftFirst, .int j_shiftMany, .int j_shiftLow, .int j_shiftHigh]))]) [0] rfl
  have hKc := hK.sub (tys' := []) [] rfl
  refine va_calli (va_runV (As := []) (rest := []) ⟨hx, hb, hml, hown, hts⟩ (c_X10_sort l D h0 m_now m_draft m_past j_acts m_images m_kept m_tape j_taped j_at j_start j_token j_value j_fault j_place j_latest m_low m_high m_first m_second m_lines m_others j_shiftFirst j_shiftMany j_shiftLow j_shiftHigh) (cwV 0 hts g_X10_readsStretch_X10_sort rfl rfl rfl (by decide +kernel) ⟨Nat.le_of_ble_eq_true rfl, Nat.le_of_ble_eq_true rfl⟩) ⟨fun a U g mk q => by obtain ⟨q0, qP, qK⟩ := q; exact ⟨q0, qP, va_K.moved (u := U) (U := U.calling g mk a) (Vm.Alike.refl U.vm) qK⟩, va_recv hKc hPc (ci := 10) (q0 := 0) rfl rfl, fun U hU hW => ⟨rfl, by rw [hU]; exact hPc, va_K.moved hW.alike hKc⟩⟩ rfl rfl hl.1 rfl (lv_room (Nat.le_of_ble_eq_true rfl)) dX10_readsStretch_1 ⟨Nat.le_of_ble_eq_true rfl, Nat.le_of_ble_eq_true rfl⟩) hS (fun _ _ h => h.elim) (fun _ h => h.elim) (fun r1 u t H1 locs ht hvm hw hB hz1 hk1 hS => ?_)
  have hP := pw_keep hP (fun q hq => hk1 q hq (fun h => h))
  generalize H1 = H at hP hS ⊢
  refine W.widen (k := 0) (n := 0) (Nat.le_of_ble_eq_true rfl) (Nat.le_of_ble_eq_true rfl) ?_
  have hfr1 := hw
  refine lv_istore_n (lv' := [(2, .int r1), (0, .ref h0), (1, .int i_e)]) hx hb dX10_readsStretch_4 rfl hl (by decide) rfl (fun ls hl => ?_)
  have gk : r1.toInt = tKind (tTok (tR g_tape) j_taped.toInt.toNat q) := by omega
  clear hfr1 hck
  refine lv_aload_n hx hb dX10_readsStretch_5 rfl (lv_at hl 1 rfl) ?_
  refine va_get (D := D) (ci := 10) (v := .ref m_draft) (C := RX10) (T := TX10) (N := 25) hx hb hts (fun _ h => List.mem_cons_of_mem _ (List.mem_append_right _ h)) hown hK hP 0 rfl rfl 1 (by decide) (hts (.fieldLink RX10 13 "LineCitesModel" "draft" "[I") (List.mem_of_getElem? (i := 14) rfl)) (fun _ h9 => h9) rfl dX10_readsStretch_6 ?_
  refine lv_iconst (v := 3) hx hb dX10_readsStretch_9 (by decide) ?_
  refine lv_iload_n hx hb dX10_readsStretch_10 rfl (lv_at hl 2 rfl) ?_
  refine lv_iadd hx hb dX10_readsStretch_11 ?_
  refine lv_topi (fun x2 ex2 => ?_)
  have tx2 : x2.toInt = 3 + i_e.toInt := pw_addX ex2 (by decide) rfl (by omega) (by omega)
  refine va_iald hx hb hK hP 2 0 rfl rfl (vp_in_iff.mpr ⟨by omega, by omega⟩) dX10_readsStretch_12 ?_
  refine lv_topi (fun x3 ex3 => ?_)
  have nx3 : 0 ≤ x3.toInt ∧ x3.toInt ≤ 6 := gV_m hg_draft ex3 (by omega) (by omega)
  have zx3 := pC_at (a := 3 + ke) ex3 (by omega)
  refine lv_istore_n (lv' := [(3, .int x3), (2, .int r1), (0, .ref h0), (1, .int i_e)]) hx hb dX10_readsStretch_13 rfl hl (by decide) rfl (fun ls hl => ?_)
  refine lv_iload_n hx hb dX10_readsStretch_14 rfl (lv_at hl 0 rfl) ?_
  refine lv_bipush (v := 6) hx hb dX10_readsStretch_15 (by decide) ?_
  refine lv_icmp_ne (tgt := 25) hx hb dX10_readsStretch_17 (by decide) (fun c4 => ?_) (fun c4 => ?_)
  · have nc4 : x3.toInt ≠ 6 := pw_ne c4 rfl (by decide)
    refine lv_aload_n hx hb dX10_readsStretch_25 rfl (lv_at hl 2 rfl) ?_
    have hPc := hP.sub (ws' := [(h0, .inr (10, [.ref m_now, .ref m_draft, .ref m_past, .int j_acts, .ref m_images, .ref m_kept, .ref m_tape, .int j_taped, .int j_at, .int j_start, .int j_token, .int j_value, .int j_fault, .int j_place, .int j_latest, .ref m_low, .ref m_high, .ref m_first, .ref m_second, .ref m_lines, .ref m_others, .int j_shiftFirst, .int j_shiftMany, .int j_shiftLow, .int j_shiftHigh])), (m_tape, .inl (kI, 200, .inl g_tape))]) [0, 1] rfl
    have hKc := hK.sub (tys' := [(kI, .int)]) [0] rfl
    have hDc := hD.sub (ws' := [(h0, .inr (10, [.ref m_now, .ref m_draft, .ref m_past, .int j_acts, .ref m_images, .ref m_kept, .ref m_tape, .int j_taped, .int j_at, .int j_start, .int j_token, .int j_value, .int j_fault, .int j_place, .int j_latest, .ref m_low, .ref m_high, .ref m_first, .ref m_second, .ref m_lines, .ref m_others, .int j_shiftFirst, .int j_shiftMany, .int j_shiftLow, .int j_shiftHigh])), (m_tape, .inl (kI, 200, .inl g_tape))]) [0, 1] (by decide) rfl
    have hFc := va_free (wc := [(h0, .inr (10, [.ref m_now, .ref m_draft, .ref m_past, .int j_acts, .ref m_images, .ref m_kept, .ref m_tape, .int j_taped, .int j_at, .int j_start, .int j_token, .int j_value, .int j_fault, .int j_place, .int j_latest, .ref m_low, .ref m_high, .ref m_first, .ref m_second, .ref m_lines, .ref m_others, .int j_shiftFirst, .int j_shiftMany, .int j_shiftLow, .int j_shiftHigh])), (m_tape, .inl (kI, 200, .inl g_tape))]) hD hS hA [0, 1] rfl
    refine va_callv (va_runV (As := []) (rest := []) ⟨hx, hb, hml, hown, hts⟩ (c_X10_goesOn l D h0 m_now m_draft m_past j_acts m_images m_kept m_tape j_taped j_at j_start j_token j_value j_fault j_place j_latest m_low m_high m_first m_second m_lines m_others j_shiftFirst j_shiftMany j_shiftLow j_shiftHigh kI g_tape (tNx (tR g_tape) j_taped.toInt.toNat q) H.size (by first | decide | omega) (by first | decide | omega) (by first | omega | decide | (have hz0 : (0 : Int32).toInt = 0 := (by decide); omega)) hg_tape) (cwV 0 hts g_X10_readsStretch_X10_goesOn rfl rfl rfl (by decide +kernel) ⟨Nat.le_of_ble_eq_true rfl, Nat.le_of_ble_eq_true rfl⟩) ⟨fun a U g mk q => by obtain ⟨q0, q1, qP, qK, qD⟩ := q; exact ⟨q0, q1, qP, va_K.moved (u := U) (U := U.calling g mk a) (Vm.Alike.refl U.vm) qK, qD⟩, va_recv hKc hPc (ci := 10) (q0 := 0) rfl rfl, fun U hU hW => ⟨rfl, by rw [hU], by rw [hU]; exact hPc, va_K.moved hW.alike hKc, hDc.weaken (fun _ _ _ _ => trivial)⟩⟩ rfl rfl hl.1 rfl (lv_room (Nat.le_of_ble_eq_true rfl)) dX10_readsStretch_26 ⟨Nat.le_of_ble_eq_true rfl, Nat.le_of_ble_eq_true rfl⟩) hS (fun q _ h => hFc q h) hFc (fun u t H1 locs ht hvm hw hB hz1 hk1 hS => ?_)
    obtain ⟨y6, y7, y8, y9, hP1, hK1, hD1, px0_r5⟩ := hB
    rw [ht] at hP1
    have hK1 := va_K.moved hvm.symm hK1
    obtain ⟨hP, hD⟩ := va_join (wr := [(m_draft, .inl (kI, 192, .inl g_draft))]) (w1 := [(h0, .inr (10, [.ref m_now, .ref m_draft, .ref m_past, .int j_acts, .ref m_images, .ref m_kept, .ref m_tape, .int j_taped, .int y7, .int y6, .int y8, .int y9, .int j_fault, .int j_place, .int j_latest, .ref m_low, .ref m_high, .ref m_first, .ref m_second, .ref m_lines, .ref m_others, .int j_shiftFirst, .int j_shiftMany, .int j_shiftLow, .int j_shiftHigh])), (m_tape, .inl (kI, 200, .inl g_tape))]) hP hD [0, 1] [2] rfl rfl (by decide) (by decide) hk1 hFc hP1 hD1
    have hK := (hK.sub (tys' := [(kI, .int)]) [0] rfl).app hK1
    generalize H1 = H at hP hS ⊢
    have hP : va_P D vwCl [(m_draft, .inl (kI, 192, .inl g_draft)), (h0, .inr (10, [.ref m_now, .ref m_draft, .ref m_past, .int j_acts, .ref m_images, .ref m_kept, .ref m_tape, .int j_taped, .int y7, .int y6, .int y8, .int y9, .int j_fault, .int j_place, .int j_latest, .ref m_low, .ref m_high, .ref m_first, .ref m_second, .ref m_lines, .ref m_others, .int j_shiftFirst, .int j_shiftMany, .int j_shiftLow, .int j_shiftHigh])), (m_tape, .inl (kI, 200, .inl g_tape))] H := hP
    have hD : va_D A [(m_draft, .inl (kI, 192, .inl g_draft)), (h0, .inr (10, [.ref m_now, .ref m_draft, .ref m_past, .int j_acts, .ref m_images, .ref m_kept, .ref m_tape, .int j_taped, .int y7, .int y6, .int y8, .int y9, .int j_fault, .int j_place, .int j_latest, .ref m_low, .ref m_high, .ref m_first, .ref m_second, .ref m_lines, .ref m_others, .int j_shiftFirst, .int j_shiftMany, .int j_shiftLow, .int j_shiftHigh])), (m_tape, .inl (kI, 200, .inl g_tape))] := hD
    have hK : va_K D vwCl [(kI, .int), (kI, .int)] s := hK
    refine W.widen (k := 0) (n := 0) (Nat.le_of_ble_eq_true rfl) (Nat.le_of_ble_eq_true rfl) ?_
    have hcur : j_fault.toInt = 0 → cuR (tR g_tape) j_taped.toInt.toNat (tNx (tR g_tape) j_taped.toInt.toNat q) y7.toInt y8.toInt y9.toInt := fun z => px0_r5 (by omega)
    have hn1 := cu_num (hcur (by omega))
    refine lv_aload_n hx hb dX10_readsStretch_29 rfl (lv_at hl 2 rfl) ?_
    refine lv_aload_n hx hb dX10_readsStretch_30 rfl (lv_at hl 2 rfl) ?_
    refine va_get (D := D) (ci := 10) (v := .ref m_draft) (C := RX10) (T := TX10) (N := 25) hx hb hts (fun _ h => List.mem_cons_of_mem _ (List.mem_append_right _ h)) hown hK hP 1 rfl rfl 1 (by decide) (hts (.fieldLink RX10 13 "LineCitesModel" "draft" "[I") (List.mem_of_getElem? (i := 14) rfl)) (fun _ h9 => h9) rfl dX10_readsStretch_31 ?_
    refine lv_iload_n hx hb dX10_readsStretch_34 rfl (lv_at hl 3 rfl) ?_
    refine lv_aload_n hx hb dX10_readsStretch_35 rfl (lv_at hl 2 rfl) ?_
    refine va_get (D := D) (ci := 10) (v := .int y9) (C := RX10) (T := TX10) (N := 25) hx hb hts (fun _ h => List.mem_cons_of_mem _ (List.mem_append_right _ h)) hown hK hP 1 rfl rfl 11 (by decide) (hts (.fieldLink RX10 109 "LineCitesModel" "value" "I") (List.mem_of_getElem? (i := 12) rfl)) (fun _ h9 => h9) rfl dX10_readsStretch_36 ?_
    refine lv_ldc hx hb hown (hts (.constant RX10 61 (-1000000)) (List.mem_of_getElem? (i := 13) rfl)) dX10_readsStretch_39 ?_
    have kkm1000000 : ((-1000000) : Int32).toInt = (-1000000) := by decide
    have hPc := hP.sub (ws' := [(m_draft, .inl (kI, 192, .inl g_draft))]) [0] rfl
    have hKc := hK.sub (tys' := [(kI, .int)]) [0] rfl
    refine va_calli (va_runS (As := [.ref m_draft, .int i_e, .int y9, .int (-1000000)]) (rest := [.ref h0]) ⟨hx, hb, hml, hown, hts⟩ (c_X10_isFrom l D m_draft i_e y9 (-1000000) kI g_draft ke (by first | omega | decide | (have hz0 : (0 : Int32).toInt = 0 := (by decide); omega)) (by first | decide | omega) (by first | decide | omega) hg_draft) (cwS 4 hts g_X10_readsStretch_X10_isFrom rfl rfl rfl (by decide +kernel) ⟨Nat.le_of_ble_eq_true rfl, Nat.le_of_ble_eq_true rfl⟩) ⟨fun a U g mk q => by obtain ⟨q0, qP, qK⟩ := q; exact ⟨q0, qP, va_K.moved (u := U) (U := U.calling g mk a) (Vm.Alike.refl U.vm) qK⟩, fun U hU hW => ⟨rfl, by rw [hU]; exact hPc, va_K.moved hW.alike hKc⟩⟩ rfl rfl hl.1 rfl (lv_room (Nat.le_of_ble_eq_true rfl)) dX10_readsStretch_41 ⟨Nat.le_of_ble_eq_true rfl, Nat.le_of_ble_eq_true rfl⟩) hS (fun _ _ h => h.elim) (fun _ h => h.elim) (fun r10 u t H1 locs ht hvm hw hB hz1 hk1 hS => ?_)
    have hP := pw_keep hP (fun q hq => hk1 q hq (fun h => h))
    generalize H1 = H at hP hS ⊢
    refine W.widen (k := 0) (n := 0) (Nat.le_of_ble_eq_true rfl) (Nat.le_of_ble_eq_true rfl) ?_
    have bor10 := hw.1
    have zor10 := pw_boolI bor10
    have hfr10 := hw.2
    rw [show ((-1000000) : Int32).toInt = (-1000000) from (by decide)] at hfr10
    have hbr10 : r10.toInt = 1 → (0 ≤ y9.toInt ∧ y9.toInt < (g_draft 0).toInt) := fun q => gFrom_b (hfr10.symm.trans q)
    refine lv_bipush (v := 44) hx hb dX10_readsStretch_44 (by decide) ?_
    have kk44 : (44 : Int32).toInt = 44 := by decide
    have hPc := hP.sub (ws' := [(h0, .inr (10, [.ref m_now, .ref m_draft, .ref m_past, .int j_acts, .ref m_images, .ref m_kept, .ref m_tape, .int j_taped, .int y7, .int y6, .int y8, .int y9, .int j_fault, .int j_place, .int j_latest, .ref m_low, .ref m_high, .ref m_first, .ref m_second, .ref m_lines, .ref m_others, .int j_shiftFirst, .int j_shiftMany, .int j_shiftLow, .int j_shiftHigh])), (m_tape, .inl (kI, 200, .inl g_tape))]) [1, 2] rfl
    have hKc := hK.sub (tys' := [(kI, .int)]) [0] rfl
    have hDc := hD.sub (ws' := [(h0, .inr (10, [.ref m_now, .ref m_draft, .ref m_past, .int j_acts, .ref m_images, .ref m_kept, .ref m_tape, .int j_taped, .int y7, .int y6, .int y8, .int y9, .int j_fault, .int j_place, .int j_latest, .ref m_low, .ref m_high, .ref m_first, .ref m_second, .ref m_lines, .ref m_others, .int j_shiftFirst, .int j_shiftMany, .int j_shiftLow, .int j_shiftHigh])), (m_tape, .inl (kI, 200, .inl g_tape))]) [1, 2] (by decide) rfl
    have hFc := va_free (wc := [(h0, .inr (10, [.ref m_now, .ref m_draft, .ref m_past, .int j_acts, .ref m_images, .ref m_kept, .ref m_tape, .int j_taped, .int y7, .int y6, .int y8, .int y9, .int j_fault, .int j_place, .int j_latest, .ref m_low, .ref m_high, .ref m_first, .ref m_second, .ref m_lines, .ref m_others, .int j_shiftFirst, .int j_shiftMany, .int j_shiftLow, .int j_shiftHigh])), (m_tape, .inl (kI, 200, .inl g_tape))]) hD hS hA [1, 2] rfl
    refine va_calli (va_runV (As := [.int r10, .int 44]) (rest := []) ⟨hx, hb, hml, hown, hts⟩ (c_X10_number l D h0 r10 44 m_now m_draft m_past j_acts m_images m_kept m_tape j_taped y7 y6 y8 y9 j_fault j_place j_latest m_low m_high m_first m_second m_lines m_others j_shiftFirst j_shiftMany j_shiftLow j_shiftHigh kI g_tape (tNx (tR g_tape) j_taped.toInt.toNat q) H.size (by first | decide | omega) (by first | decide | omega) (by first | decide | omega) (by first | decide | omega) (by first | omega | decide | (have hz0 : (0 : Int32).toInt = 0 := (by decide); omega)) hcur hg_tape) (cwV 2 hts g_X10_readsStretch_X10_number rfl rfl rfl (by decide +kernel) ⟨Nat.le_of_ble_eq_true rfl, Nat.le_of_ble_eq_true rfl⟩) ⟨fun a U g mk q => by obtain ⟨q0, q1, qP, qK, qD⟩ := q; exact ⟨q0, q1, qP, va_K.moved (u := U) (U := U.calling g mk a) (Vm.Alike.refl U.vm) qK, qD⟩, va_recv hKc hPc (ci := 10) (q0 := 0) rfl rfl, fun U hU hW => ⟨rfl, by rw [hU], by rw [hU]; exact hPc, va_K.moved hW.alike hKc, hDc.weaken (fun _ _ _ _ => trivial)⟩⟩ rfl rfl hl.1 rfl (lv_room (Nat.le_of_ble_eq_true rfl)) dX10_readsStretch_46 ⟨Nat.le_of_ble_eq_true rfl, Nat.le_of_ble_eq_true rfl⟩) hS (fun q _ h => hFc q h) hFc (fun r11 u t H1 locs ht hvm hw hB hz1 hk1 hS => ?_)
    obtain ⟨y12, y13, y14, y15, y16, y17, hP1, hK1, hD1, px0_r11, px1_r11, px2_r11⟩ := hB
    rw [ht] at hP1
    have hK1 := va_K.moved hvm.symm hK1
    obtain ⟨hP, hD⟩ := va_join (wr := [(m_draft, .inl (kI, 192, .inl g_draft))]) (w1 := [(h0, .inr (10, [.ref m_now, .ref m_draft, .ref m_past, .int j_acts, .ref m_images, .ref m_kept, .ref m_tape, .int j_taped, .int y13, .int y12, .int y14, .int y15, .int y16, .int y17, .int j_latest, .ref m_low, .ref m_high, .ref m_first, .ref m_second, .ref m_lines, .ref m_others, .int j_shiftFirst, .int j_shiftMany, .int j_shiftLow, .int j_shiftHigh])), (m_tape, .inl (kI, 200, .inl g_tape))]) hP hD [1, 2] [0] rfl rfl (by decide) (by decide) hk1 hFc hP1 hD1
    have hK := (hK.sub (tys' := [(kI, .int), (kI, .int)]) [0, 1] rfl).app hK1
    generalize H1 = H at hP hS ⊢
    have hP : va_P D vwCl [(m_draft, .inl (kI, 192, .inl g_draft)), (h0, .inr (10, [.ref m_now, .ref m_draft, .ref m_past, .int j_acts, .ref m_images, .ref m_kept, .ref m_tape, .int j_taped, .int y13, .int y12, .int y14, .int y15, .int y16, .int y17, .int j_latest, .ref m_low, .ref m_high, .ref m_first, .ref m_second, .ref m_lines, .ref m_others, .int j_shiftFirst, .int j_shiftMany, .int j_shiftLow, .int j_shiftHigh])), (m_tape, .inl (kI, 200, .inl g_tape))] H := hP
    have hD : va_D A [(m_draft, .inl (kI, 192, .inl g_draft)), (h0, .inr (10, [.ref m_now, .ref m_draft, .ref m_past, .int j_acts, .ref m_images, .ref m_kept, .ref m_tape, .int j_taped, .int y13, .int y12, .int y14, .int y15, .int y16, .int y17, .int j_latest, .ref m_low, .ref m_high, .ref m_first, .ref m_second, .ref m_lines, .ref m_others, .int j_shiftFirst, .int j_shiftMany, .int j_shiftLow, .int j_shiftHigh])), (m_tape, .inl (kI, 200, .inl g_tape))] := hD
    have hK : va_K D vwCl [(kI, .int), (kI, .int), (kI, .int)] s := hK
    refine W.widen (k := 0) (n := 0) (Nat.le_of_ble_eq_true rfl) (Nat.le_of_ble_eq_true rfl) ?_
    have hfr11 := hw
    have hcur := px2_r11
    clear hbr10
    have gu1 : r10.toInt = bI (uFrom (g_draft 0).toInt ps y9.toInt) := hfr10.trans (gFrom_u hdr rfl)
    refine lv_istore (lv' := [(4, .int r11), (3, .int x3), (2, .int r1), (0, .ref h0), (1, .int i_e)]) hx hb dX10_readsStretch_49 hl (by decide) rfl (fun ls hl => ?_)
    refine lv_aload_n hx hb dX10_readsStretch_51 rfl (lv_at hl 3 rfl) ?_
    refine lv_aload_n hx hb dX10_readsStretch_52 rfl (lv_at hl 3 rfl) ?_
    refine va_get (D := D) (ci := 10) (v := .int y16) (C := RX10) (T := TX10) (N := 25) hx hb hts (fun _ h => List.mem_cons_of_mem _ (List.mem_append_right _ h)) hown hK hP 1 rfl rfl 12 (by decide) (hts (.fieldLink RX10 123 "LineCitesModel" "fault" "I") (List.mem_of_getElem? (i := 10) rfl)) (fun _ h9 => h9) rfl dX10_readsStretch_53 ?_
    refine lv_if_ne (tgt := 82) hx hb dX10_readsStretch_56 (by decide) (fun c18 => ?_) (fun c18 => ?_)
    · have nc18 : y16.toInt ≠ 0 := pw_ne c18 rfl (by decide)
      have hno : ¬ (uStr (tR g_tape) j_taped.toInt.toNat (g_draft 0).toInt (tTok (tR g_tape) j_taped.toInt.toNat q) (tNx (tR g_tape) j_taped.toInt.toNat q) ps) := by
        intro z
        unfold uStr at z
        obtain ⟨z0, z1, z2, z3, z4, z5, z6, z7, z8, z9, z10, z11, z12⟩ := z
        have w := (px0_r11.resolve_left (fun y => by have y1 := y.1; omega)).2
        have e1 := (hn1.2 (hn1.1.mpr z2)).1
        exact w ⟨hf0, z2, (by rw [gu1, e1, z3]; decide), z4.trans (by decide)⟩
      have nf9 : 1 ≤ y16.toInt := by omega
      clear hn1 hfr11 px0_r11 gu1 hfr10
      refine lv_iconst (v := 0) hx hb dX10_readsStretch_82 (by decide) ?_
      refine lv_bipush (v := 44) hx hb dX10_readsStretch_83 (by decide) ?_
      have kk0 : (0 : Int32).toInt = 0 := by decide
      have kk44 : (44 : Int32).toInt = 44 := by decide
      have hPc := hP.sub (ws' := [(h0, .inr (10, [.ref m_now, .ref m_draft, .ref m_past, .int j_acts, .ref m_images, .ref m_kept, .ref m_tape, .int j_taped, .int y13, .int y12, .int y14, .int y15, .int y16, .int y17, .int j_latest, .ref m_low, .ref m_high, .ref m_first, .ref m_second, .ref m_lines, .ref m_others, .int j_shiftFirst, .int j_shiftMany, .int j_shiftLow, .int j_shiftHigh])), (m_tape, .inl (kI, 200, .inl g_tape))]) [1, 2] rfl
      have hKc := hK.sub (tys' := [(kI, .int)]) [0] rfl
      have hDc := hD.sub (ws' := [(h0, .inr (10, [.ref m_now, .ref m_draft, .ref m_past, .int j_acts, .ref m_images, .ref m_kept, .ref m_tape, .int j_taped, .int y13, .int y12, .int y14, .int y15, .int y16, .int y17, .int j_latest, .ref m_low, .ref m_high, .ref m_first, .ref m_second, .ref m_lines, .ref m_others, .int j_shiftFirst, .int j_shiftMany, .int j_shiftLow, .int j_shiftHigh])), (m_tape, .inl (kI, 200, .inl g_tape))]) [1, 2] (by decide) rfl
      have hFc := va_free (wc := [(h0, .inr (10, [.ref m_now, .ref m_draft, .ref m_past, .int j_acts, .ref m_images, .ref m_kept, .ref m_tape, .int j_taped, .int y13, .int y12, .int y14, .int y15, .int y16, .int y17, .int j_latest, .ref m_low, .ref m_high, .ref m_first, .ref m_second, .ref m_lines, .ref m_others, .int j_shiftFirst, .int j_shiftMany, .int j_shiftLow, .int j_shiftHigh])), (m_tape, .inl (kI, 200, .inl g_tape))]) hD hS hA [1, 2] rfl
      refine va_calli (va_runV (As := [.int 0, .int 44]) (rest := []) ⟨hx, hb, hml, hown, hts⟩ (c_X10_number l D h0 0 44 m_now m_draft m_past j_acts m_images m_kept m_tape j_taped y13 y12 y14 y15 y16 y17 j_latest m_low m_high m_first m_second m_lines m_others j_shiftFirst j_shiftMany j_shiftLow j_shiftHigh kI g_tape (tNx (tR g_tape) j_taped.toInt.toNat (tNx (tR g_tape) j_taped.toInt.toNat (tNx (tR g_tape) j_taped.toInt.toNat q))) H.size (by first | decide | omega) (by first | decide | omega) (by first | decide | omega) (by first | decide | omega) (by first | omega | decide | (have hz0 : (0 : Int32).toInt = 0 := (by decide); omega)) hcur hg_tape) (cwV 2 hts g_X10_readsStretch_X10_number rfl rfl rfl (by decide +kernel) ⟨Nat.le_of_ble_eq_true rfl, Nat.le_of_ble_eq_true rfl⟩) ⟨fun a U g mk q => by obtain ⟨q0, q1, qP, qK, qD⟩ := q; exact ⟨q0, q1, qP, va_K.moved (u := U) (U := U.calling g mk a) (Vm.Alike.refl U.vm) qK, qD⟩, va_recv hKc hPc (ci := 10) (q0 := 0) rfl rfl, fun U hU hW => ⟨rfl, by rw [hU], by rw [hU]; exact hPc, va_K.moved hW.alike hKc, hDc.weaken (fun _ _ _ _ => trivial)⟩⟩ rfl rfl hl.1 rfl (lv_room (Nat.le_of_ble_eq_true rfl)) dX10_readsStretch_85 ⟨Nat.le_of_ble_eq_true rfl, Nat.le_of_ble_eq_true rfl⟩) hS (fun q _ h => hFc q h) hFc (fun r19 u t H1 locs ht hvm hw hB hz1 hk1 hS => ?_)
      obtain ⟨y20, y21, y22, y23, y24, y25, hP1, hK1, hD1, px0_r19, px1_r19, px2_r19⟩ := hB
      rw [ht] at hP1
      have hK1 := va_K.moved hvm.symm hK1
      obtain ⟨hP, hD⟩ := va_join (wr := [(m_draft, .inl (kI, 192, .inl g_draft))]) (w1 := [(h0, .inr (10, [.ref m_now, .ref m_draft, .ref m_past, .int j_acts, .ref m_images, .ref m_kept, .ref m_tape, .int j_taped, .int y21, .int y20, .int y22, .int y23, .int y24, .int y25, .int j_latest, .ref m_low, .ref m_high, .ref m_first, .ref m_second, .ref m_lines, .ref m_others, .int j_shiftFirst, .int j_shiftMany, .int j_shiftLow, .int j_shiftHigh])), (m_tape, .inl (kI, 200, .inl g_tape))]) hP hD [1, 2] [0] rfl rfl (by decide) (by decide) hk1 hFc hP1 hD1
      have hK := (hK.sub (tys' := [(kI, .int), (kI, .int), (kI, .int)]) [0, 1, 2] rfl).app hK1
      generalize H1 = H at hP hS ⊢
      have hP : va_P D vwCl [(m_draft, .inl (kI, 192, .inl g_draft)), (h0, .inr (10, [.ref m_now, .ref m_draft, .ref m_past, .int j_acts, .ref m_images, .ref m_kept, .ref m_tape, .int j_taped, .int y21, .int y20, .int y22, .int y23, .int y24, .int y25, .int j_latest, .ref m_low, .ref m_high, .ref m_first, .ref m_second, .ref m_lines, .ref m_others, .int j_shiftFirst, .int j_shiftMany, .int j_shiftLow, .int j_shiftHigh])), (m_tape, .inl (kI, 200, .inl g_tape))] H := hP
      have hD : va_D A [(m_draft, .inl (kI, 192, .inl g_draft)), (h0, .inr (10, [.ref m_now, .ref m_draft, .ref m_past, .int j_acts, .ref m_images, .ref m_kept, .ref m_tape, .int j_taped, .int y21, .int y20, .int y22, .int y23, .int y24, .int y25, .int j_latest, .ref m_low, .ref m_high, .ref m_first, .ref m_second, .ref m_lines, .ref m_others, .int j_shiftFirst, .int j_shiftMany, .int j_shiftLow, .int j_shiftHigh])), (m_tape, .inl (kI, 200, .inl g_tape))] := hD
      have hK : va_K D vwCl [(kI, .int), (kI, .int), (kI, .int), (kI, .int)] s := hK
      refine W.widen (k := 0) (n := 0) (Nat.le_of_ble_eq_true rfl) (Nat.le_of_ble_eq_true rfl) ?_
      have hfr19 := hw
      have hcur := px2_r19
      have nfr19 : 1 ≤ y24.toInt := by omega
      clear px0_r19 hfr19
      refine lv_istore (lv' := [(5, .int r19), (4, .int r11), (3, .int x3), (2, .int r1), (0, .ref h0), (1, .int i_e)]) hx hb dX10_readsStretch_88 hl (by decide) rfl (fun ls hl => ?_)
      refine lv_aload_n hx hb dX10_readsStretch_90 rfl (lv_at hl 4 rfl) ?_
      refine lv_aload_n hx hb dX10_readsStretch_91 rfl (lv_at hl 4 rfl) ?_
      refine va_get (D := D) (ci := 10) (v := .int y24) (C := RX10) (T := TX10) (N := 25) hx hb hts (fun _ h => List.mem_cons_of_mem _ (List.mem_append_right _ h)) hown hK hP 1 rfl rfl 12 (by decide) (hts (.fieldLink RX10 123 "LineCitesModel" "fault" "I") (List.mem_of_getElem? (i := 10) rfl)) (fun _ h9 => h9) rfl dX10_readsStretch_92 ?_
      refine lv_if_ne (tgt := 115) hx hb dX10_readsStretch_95 (by decide) (fun c26 => ?_) (fun c26 => False.elim (by have nn : y24.toInt = 0 := pw_eq c26 rfl (by decide); omega))
      have nc26 : y24.toInt ≠ 0 := pw_ne c26 rfl (by decide)
      refine lv_iconst (v := 0) hx hb dX10_readsStretch_115 (by decide) ?_
      refine lv_bipush (v := 59) hx hb dX10_readsStretch_116 (by decide) ?_
      have kk0 : (0 : Int32).toInt = 0 := by decide
      have kk59 : (59 : Int32).toInt = 59 := by decide
      have hPc := hP.sub (ws' := [(h0, .inr (10, [.ref m_now, .ref m_draft, .ref m_past, .int j_acts, .ref m_images, .ref m_kept, .ref m_tape, .int j_taped, .int y21, .int y20, .int y22, .int y23, .int y24, .int y25, .int j_latest, .ref m_low, .ref m_high, .ref m_first, .ref m_second, .ref m_lines, .ref m_others, .int j_shiftFirst, .int j_shiftMany, .int j_shiftLow, .int j_shiftHigh])), (m_tape, .inl (kI, 200, .inl g_tape))]) [1, 2] rfl
      have hKc := hK.sub (tys' := [(kI, .int)]) [0] rfl
      have hDc := hD.sub (ws' := [(h0, .inr (10, [.ref m_now, .ref m_draft, .ref m_past, .int j_acts, .ref m_images, .ref m_kept, .ref m_tape, .int j_taped, .int y21, .int y20, .int y22, .int y23, .int y24, .int y25, .int j_latest, .ref m_low, .ref m_high, .ref m_first, .ref m_second, .ref m_lines, .ref m_others, .int j_shiftFirst, .int j_shiftMany, .int j_shiftLow, .int j_shiftHigh])), (m_tape, .inl (kI, 200, .inl g_tape))]) [1, 2] (by decide) rfl
      have hFc := va_free (wc := [(h0, .inr (10, [.ref m_now, .ref m_draft, .ref m_past, .int j_acts, .ref m_images, .ref m_kept, .ref m_tape, .int j_taped, .int y21, .int y20, .int y22, .int y23, .int y24, .int y25, .int j_latest, .ref m_low, .ref m_high, .ref m_first, .ref m_second, .ref m_lines, .ref m_others, .int j_shiftFirst, .int j_shiftMany, .int j_shiftLow, .int j_shiftHigh])), (m_tape, .inl (kI, 200, .inl g_tape))]) hD hS hA [1, 2] rfl
      refine va_calli (va_runV (As := [.int 0, .int 59]) (rest := []) ⟨hx, hb, hml, hown, hts⟩ (c_X10_number l D h0 0 59 m_now m_draft m_past j_acts m_images m_kept m_tape j_taped y21 y20 y22 y23 y24 y25 j_latest m_low m_high m_first m_second m_lines m_others j_shiftFirst j_shiftMany j_shiftLow j_shiftHigh kI g_tape (tNx (tR g_tape) j_taped.toInt.toNat (tNx (tR g_tape) j_taped.toInt.toNat (tNx (tR g_tape) j_taped.toInt.toNat (tNx (tR g_tape) j_taped.toInt.toNat (tNx (tR g_tape) j_taped.toInt.toNat q))))) H.size (by first | decide | omega) (by first | decide | omega) (by first | decide | omega) (by first | decide | omega) (by first | omega | decide | (have hz0 : (0 : Int32).toInt = 0 := (by decide); omega)) hcur hg_tape) (cwV 2 hts g_X10_readsStretch_X10_number rfl rfl rfl (by decide +kernel) ⟨Nat.le_of_ble_eq_true rfl, Nat.le_of_ble_eq_true rfl⟩) ⟨fun a U g mk q => by obtain ⟨q0, q1, qP, qK, qD⟩ := q; exact ⟨q0, q1, qP, va_K.moved (u := U) (U := U.calling g mk a) (Vm.Alike.refl U.vm) qK, qD⟩, va_recv hKc hPc (ci := 10) (q0 := 0) rfl rfl, fun U hU hW => ⟨rfl, by rw [hU], by rw [hU]; exact hPc, va_K.moved hW.alike hKc, hDc.weaken (fun _ _ _ _ => trivial)⟩⟩ rfl rfl hl.1 rfl (lv_room (Nat.le_of_ble_eq_true rfl)) dX10_readsStretch_118 ⟨Nat.le_of_ble_eq_true rfl, Nat.le_of_ble_eq_true rfl⟩) hS (fun q _ h => hFc q h) hFc (fun r27 u t H1 locs ht hvm hw hB hz1 hk1 hS => ?_)
      obtain ⟨y28, y29, y30, y31, y32, y33, hP1, hK1, hD1, px0_r27, px1_r27, px2_r27⟩ := hB
      rw [ht] at hP1
      have hK1 := va_K.moved hvm.symm hK1
      obtain ⟨hP, hD⟩ := va_join (wr := [(m_draft, .inl (kI, 192, .inl g_draft))]) (w1 := [(h0, .inr (10, [.ref m_now, .ref m_draft, .ref m_past, .int j_acts, .ref m_images, .ref m_kept, .ref m_tape, .int j_taped, .int y29, .int y28, .int y30, .int y31, .int y32, .int y33, .int j_latest, .ref m_low, .ref m_high, .ref m_first, .ref m_second, .ref m_lines, .ref m_others, .int j_shiftFirst, .int j_shiftMany, .int j_shiftLow, .int j_shiftHigh])), (m_tape, .inl (kI, 200, .inl g_tape))]) hP hD [1, 2] [0] rfl rfl (by decide) (by decide) hk1 hFc hP1 hD1
      have hK := (hK.sub (tys' := [(kI, .int), (kI, .int), (kI, .int), (kI, .int)]) [0, 1, 2, 3] rfl).app hK1
      generalize H1 = H at hP hS ⊢
      have hP : va_P D vwCl [(m_draft, .inl (kI, 192, .inl g_draft)), (h0, .inr (10, [.ref m_now, .ref m_draft, .ref m_past, .int j_acts, .ref m_images, .ref m_kept, .ref m_tape, .int j_taped, .int y29, .int y28, .int y30, .int y31, .int y32, .int y33, .int j_latest, .ref m_low, .ref m_high, .ref m_first, .ref m_second, .ref m_lines, .ref m_others, .int j_shiftFirst, .int j_shiftMany, .int j_shiftLow, .int j_shiftHigh])), (m_tape, .inl (kI, 200, .inl g_tape))] H := hP
      have hD : va_D A [(m_draft, .inl (kI, 192, .inl g_draft)), (h0, .inr (10, [.ref m_now, .ref m_draft, .ref m_past, .int j_acts, .ref m_images, .ref m_kept, .ref m_tape, .int j_taped, .int y29, .int y28, .int y30, .int y31, .int y32, .int y33, .int j_latest, .ref m_low, .ref m_high, .ref m_first, .ref m_second, .ref m_lines, .ref m_others, .int j_shiftFirst, .int j_shiftMany, .int j_shiftLow, .int j_shiftHigh])), (m_tape, .inl (kI, 200, .inl g_tape))] := hD
      have hK : va_K D vwCl [(kI, .int), (kI, .int), (kI, .int), (kI, .int), (kI, .int)] s := hK
      refine W.widen (k := 0) (n := 0) (Nat.le_of_ble_eq_true rfl) (Nat.le_of_ble_eq_true rfl) ?_
      have hfr27 := hw
      have hcur := px2_r27
      have nfr27 : 1 ≤ y32.toInt := by omega
      clear px0_r27 hfr27
      refine lv_istore (lv' := [(6, .int r27), (5, .int r19), (4, .int r11), (3, .int x3), (2, .int r1), (0, .ref h0), (1, .int i_e)]) hx hb dX10_readsStretch_121 hl (by decide) rfl (fun ls hl => ?_)
      refine lv_aload_n hx hb dX10_readsStretch_123 rfl (lv_at hl 5 rfl) ?_
      refine va_get (D := D) (ci := 10) (v := .int y32) (C := RX10) (T := TX10) (N := 25) hx hb hts (fun _ h => List.mem_cons_of_mem _ (List.mem_append_right _ h)) hown hK hP 1 rfl rfl 12 (by decide) (hts (.fieldLink RX10 123 "LineCitesModel" "fault" "I") (List.mem_of_getElem? (i := 10) rfl)) (fun _ h9 => h9) rfl dX10_readsStretch_124 ?_
      refine lv_if_ne (tgt := 145) hx hb dX10_readsStretch_127 (by decide) (fun c34 => ?_) (fun c34 => False.elim (by have nn : y32.toInt = 0 := pw_eq c34 rfl (by decide); omega))
      have nc34 : y32.toInt ≠ 0 := pw_ne c34 rfl (by decide)
      have hP9 := hP.sub (ws' := [(h0, .inr (10, [.ref m_now, .ref m_draft, .ref m_past, .int j_acts, .ref m_images, .ref m_kept, .ref m_tape, .int j_taped, .int y29, .int y28, .int y30, .int y31, .int y32, .int y33, .int j_latest, .ref m_low, .ref m_high, .ref m_first, .ref m_second, .ref m_lines, .ref m_others, .int j_shiftFirst, .int j_shiftMany, .int j_shiftLow, .int j_shiftHigh])), (m_tape, .inl (kI, 200, .inl g_tape)), (m_draft, .inl (kI, 192, .inl g_draft))]) [1, 2, 0] rfl
      have hD9 := hD.sub (ws' := [(h0, .inr (10, [.ref m_now, .ref m_draft, .ref m_past, .int j_acts, .ref m_images, .ref m_kept, .ref m_tape, .int j_taped, .int y29, .int y28, .int y30, .int y31, .int y32, .int y33, .int j_latest, .ref m_low, .ref m_high, .ref m_first, .ref m_second, .ref m_lines, .ref m_others, .int j_shiftFirst, .int j_shiftMany, .int j_shiftLow, .int j_shiftHigh])), (m_tape, .inl (kI, 200, .inl g_tape)), (m_draft, .inl (kI, 192, .inl g_draft))]) [1, 2, 0] (by decide) rfl
      have hK9 := hK.sub (tys' := [(kI, .int)]) [0] rfl
      refine W.widen (k := 0) (n := 0) (Nat.le_of_ble_eq_true rfl) (Nat.le_of_ble_eq_true rfl) ?_
      exact W.vret hx hb hr (fun t ht hW => ⟨⟨(), rfl, trivial, y28, y29, y30, y31, y32, y33, g_draft, by rw [ht]; exact hP9, va_K.moved hW.alike hK9, hD9, hg_draft, (Or.inr ⟨by omega, bI_f hno⟩), (by omega), (fun z => False.elim (by omega)), (fun z => False.elim (by omega)), (fun j hj hq => rfl), (fun z => False.elim (by omega))⟩, hS.F ht⟩) hS.2.2 dX10_readsStretch_145
    · have nc18 : y16.toInt = 0 := pw_eq c18 rfl (by decide)
      have gq := px0_r11.resolve_right (fun z => by have z1 := z.1; omega)
      have g2 := gq.2.2.1
      have g4 : tTok (tR g_tape) j_taped.toInt.toNat (tNx (tR g_tape) j_taped.toInt.toNat (tNx (tR g_tape) j_taped.toInt.toNat q)) = 44 := gq.2.2.2.2.trans (by decide)
      have g2v := hn1.2 (hn1.1.mpr g2)
      have gfr := (hfr11.resolve_right (fun z => z.1 ⟨gq.2.1, g2, gq.2.2.2.1⟩)).2.1
      have g3 : bI (uFrom (g_draft 0).toInt ps (tNum (tR g_tape) j_taped.toInt.toNat (tNx (tR g_tape) j_taped.toInt.toNat q))) = 1 := by rw [← g2v.1, ← gu1]; have w := gq.2.2.2.1; have w2 := zor10; omega
      have g3b := uFrom_b g3
      have hn3 := cu_num (hcur (by omega))
      clear hn1 hfr11 px0_r11 gq gu1 hfr10
      refine lv_aload_n hx hb dX10_readsStretch_59 rfl (lv_at hl 3 rfl) ?_
      refine va_get (D := D) (ci := 10) (v := .ref m_draft) (C := RX10) (T := TX10) (N := 25) hx hb hts (fun _ h => List.mem_cons_of_mem _ (List.mem_append_right _ h)) hown hK hP 1 rfl rfl 1 (by decide) (hts (.fieldLink RX10 13 "LineCitesModel" "draft" "[I") (List.mem_of_getElem? (i := 14) rfl)) (fun _ h9 => h9) rfl dX10_readsStretch_60 ?_
      refine lv_iload_n hx hb dX10_readsStretch_63 rfl (lv_at hl 4 rfl) ?_
      refine lv_iload hx hb dX10_readsStretch_64 (lv_at hl 0 rfl) ?_
      refine lv_aload_n hx hb dX10_readsStretch_66 rfl (lv_at hl 3 rfl) ?_
      refine va_get (D := D) (ci := 10) (v := .int y15) (C := RX10) (T := TX10) (N := 25) hx hb hts (fun _ h => List.mem_cons_of_mem _ (List.mem_append_right _ h)) hown hK hP 1 rfl rfl 11 (by decide) (hts (.fieldLink RX10 109 "LineCitesModel" "value" "I") (List.mem_of_getElem? (i := 12) rfl)) (fun _ h9 => h9) rfl dX10_readsStretch_67 ?_
      refine lv_ldc hx hb hown (hts (.constant RX10 61 (-1000000)) (List.mem_of_getElem? (i := 13) rfl)) dX10_readsStretch_70 ?_
      have kkm1000000 : ((-1000000) : Int32).toInt = (-1000000) := by decide
      have hPc := hP.sub (ws' := [(m_draft, .inl (kI, 192, .inl g_draft))]) [0] rfl
      have hKc := hK.sub (tys' := [(kI, .int)]) [0] rfl
      refine va_calli (va_runS (As := [.ref m_draft, .int i_e, .int r11, .int y15, .int (-1000000)]) (rest := [.ref h0]) ⟨hx, hb, hml, hown, hts⟩ (c_X10_isMany l D m_draft i_e r11 y15 (-1000000) kI g_draft ke (by first | omega | decide | (have hz0 : (0 : Int32).toInt = 0 := (by decide); omega)) (by first | decide | omega) (by first | decide | omega) (by first | decide | omega) (by first | decide | omega) hg_draft) (cwS 5 hts g_X10_readsStretch_X10_isMany rfl rfl rfl (by decide +kernel) ⟨Nat.le_of_ble_eq_true rfl, Nat.le_of_ble_eq_true rfl⟩) ⟨fun a U g mk q => by obtain ⟨q0, qP, qK⟩ := q; exact ⟨q0, qP, va_K.moved (u := U) (U := U.calling g mk a) (Vm.Alike.refl U.vm) qK⟩, fun U hU hW => ⟨rfl, by rw [hU]; exact hPc, va_K.moved hW.alike hKc⟩⟩ rfl rfl hl.1 rfl (lv_room (Nat.le_of_ble_eq_true rfl)) dX10_readsStretch_72 ⟨Nat.le_of_ble_eq_true rfl, Nat.le_of_ble_eq_true rfl⟩) hS (fun _ _ h => h.elim) (fun _ h => h.elim) (fun r35 u t H1 locs ht hvm hw hB hz1 hk1 hS => ?_)
      have hP := pw_keep hP (fun q hq => hk1 q hq (fun h => h))
      generalize H1 = H at hP hS ⊢
      refine W.widen (k := 0) (n := 0) (Nat.le_of_ble_eq_true rfl) (Nat.le_of_ble_eq_true rfl) ?_
      have bor35 := hw.1
      have zor35 := pw_boolI bor35
      have hfr35 := hw.2
      rw [show ((-1000000) : Int32).toInt = (-1000000) from (by decide)] at hfr35
      have hbr35 : r35.toInt = 1 → (1 ≤ y15.toInt ∧ y15.toInt ≤ (g_draft 0).toInt - r11.toInt) := fun q => gMany_b (hfr35.symm.trans q)
      refine lv_if_eq (tgt := 82) hx hb dX10_readsStretch_75 (by decide) (fun c36 => ?_) (fun c36 => ?_)
      · have nc36 : r35.toInt = 0 := pw_eq c36 rfl (by decide)
        have gu2 : r35.toInt = bI (uMany (g_draft 0).toInt ps r11.toInt y15.toInt) := hfr35.trans (gMany_u hdr rfl)
        have hno : ¬ (uStr (tR g_tape) j_taped.toInt.toNat (g_draft 0).toInt (tTok (tR g_tape) j_taped.toInt.toNat q) (tNx (tR g_tape) j_taped.toInt.toNat q) ps) := by
          intro z
          unfold uStr at z
          obtain ⟨z0, z1, z2, z3, z4, z5, z6, z7, z8, z9, z10, z11, z12⟩ := z
          have e1 := (hn3.2 (hn3.1.mpr z5)).1
          have w : r35.toInt = 1 := by rw [gu2, gfr, e1]; exact z6
          omega
        clear hn3 gu2 hfr35 hbr35
        refine lv_iconst (v := 0) hx hb dX10_readsStretch_82 (by decide) ?_
        refine lv_bipush (v := 44) hx hb dX10_readsStretch_83 (by decide) ?_
        have kk0 : (0 : Int32).toInt = 0 := by decide
        have kk44 : (44 : Int32).toInt = 44 := by decide
        have hPc := hP.sub (ws' := [(h0, .inr (10, [.ref m_now, .ref m_draft, .ref m_past, .int j_acts, .ref m_images, .ref m_kept, .ref m_tape, .int j_taped, .int y13, .int y12, .int y14, .int y15, .int y16, .int y17, .int j_latest, .ref m_low, .ref m_high, .ref m_first, .ref m_second, .ref m_lines, .ref m_others, .int j_shiftFirst, .int j_shiftMany, .int j_shiftLow, .int j_shiftHigh])), (m_tape, .inl (kI, 200, .inl g_tape))]) [1, 2] rfl
        have hKc := hK.sub (tys' := [(kI, .int)]) [0] rfl
        have hDc := hD.sub (ws' := [(h0, .inr (10, [.ref m_now, .ref m_draft, .ref m_past, .int j_acts, .ref m_images, .ref m_kept, .ref m_tape, .int j_taped, .int y13, .int y12, .int y14, .int y15, .int y16, .int y17, .int j_latest, .ref m_low, .ref m_high, .ref m_first, .ref m_second, .ref m_lines, .ref m_others, .int j_shiftFirst, .int j_shiftMany, .int j_shiftLow, .int j_shiftHigh])), (m_tape, .inl (kI, 200, .inl g_tape))]) [1, 2] (by decide) rfl
        have hFc := va_free (wc := [(h0, .inr (10, [.ref m_now, .ref m_draft, .ref m_past, .int j_acts, .ref m_images, .ref m_kept, .ref m_tape, .int j_taped, .int y13, .int y12, .int y14, .int y15, .int y16, .int y17, .int j_latest, .ref m_low, .ref m_high, .ref m_first, .ref m_second, .ref m_lines, .ref m_others, .int j_shiftFirst, .int j_shiftMany, .int j_shiftLow, .int j_shiftHigh])), (m_tape, .inl (kI, 200, .inl g_tape))]) hD hS hA [1, 2] rfl
        refine va_calli (va_runV (As := [.int 0, .int 44]) (rest := []) ⟨hx, hb, hml, hown, hts⟩ (c_X10_number l D h0 0 44 m_now m_draft m_past j_acts m_images m_kept m_tape j_taped y13 y12 y14 y15 y16 y17 j_latest m_low m_high m_first m_second m_lines m_others j_shiftFirst j_shiftMany j_shiftLow j_shiftHigh kI g_tape (tNx (tR g_tape) j_taped.toInt.toNat (tNx (tR g_tape) j_taped.toInt.toNat (tNx (tR g_tape) j_taped.toInt.toNat q))) H.size (by first | decide | omega) (by first | decide | omega) (by first | decide | omega) (by first | decide | omega) (by first | omega | decide | (have hz0 : (0 : Int32).toInt = 0 := (by decide); omega)) hcur hg_tape) (cwV 2 hts g_X10_readsStretch_X10_number rfl rfl rfl (by decide +kernel) ⟨Nat.le_of_ble_eq_true rfl, Nat.le_of_ble_eq_true rfl⟩) ⟨fun a U g mk q => by obtain ⟨q0, q1, qP, qK, qD⟩ := q; exact ⟨q0, q1, qP, va_K.moved (u := U) (U := U.calling g mk a) (Vm.Alike.refl U.vm) qK, qD⟩, va_recv hKc hPc (ci := 10) (q0 := 0) rfl rfl, fun U hU hW => ⟨rfl, by rw [hU], by rw [hU]; exact hPc, va_K.moved hW.alike hKc, hDc.weaken (fun _ _ _ _ => trivial)⟩⟩ rfl rfl hl.1 rfl (lv_room (Nat.le_of_ble_eq_true rfl)) dX10_readsStretch_85 ⟨Nat.le_of_ble_eq_true rfl, Nat.le_of_ble_eq_true rfl⟩) hS (fun q _ h => hFc q h) hFc (fun r37 u t H1 locs ht hvm hw hB hz1 hk1 hS => ?_)
        obtain ⟨y38, y39, y40, y41, y42, y43, hP1, hK1, hD1, px0_r37, px1_r37, px2_r37⟩ := hB
        rw [ht] at hP1
        have hK1 := va_K.moved hvm.symm hK1
        obtain ⟨hP, hD⟩ := va_join (wr := [(m_draft, .inl (kI, 192, .inl g_draft))]) (w1 := [(h0, .inr (10, [.ref m_now, .ref m_draft, .ref m_past, .int j_acts, .ref m_images, .ref m_kept, .ref m_tape, .int j_taped, .int y39, .int y38, .int y40, .int y41, .int y42, .int y43, .int j_latest, .ref m_low, .ref m_high, .ref m_first, .ref m_second, .ref m_lines, .ref m_others, .int j_shiftFirst, .int j_shiftMany, .int j_shiftLow, .int j_shiftHigh])), (m_tape, .inl (kI, 200, .inl g_tape))]) hP hD [1, 2] [0] rfl rfl (by decide) (by decide) hk1 hFc hP1 hD1
        have hK := (hK.sub (tys' := [(kI, .int), (kI, .int), (kI, .int)]) [0, 1, 2] rfl).app hK1
        generalize H1 = H at hP hS ⊢
        have hP : va_P D vwCl [(m_draft, .inl (kI, 192, .inl g_draft)), (h0, .inr (10, [.ref m_now, .ref m_draft, .ref m_past, .int j_acts, .ref m_images, .ref m_kept, .ref m_tape, .int j_taped, .int y39, .int y38, .int y40, .int y41, .int y42, .int y43, .int j_latest, .ref m_low, .ref m_high, .ref m_first, .ref m_second, .ref m_lines, .ref m_others, .int j_shiftFirst, .int j_shiftMany, .int j_shiftLow, .int j_shiftHigh])), (m_tape, .inl (kI, 200, .inl g_tape))] H := hP
        have hD : va_D A [(m_draft, .inl (kI, 192, .inl g_draft)), (h0, .inr (10, [.ref m_now, .ref m_draft, .ref m_past, .int j_acts, .ref m_images, .ref m_kept, .ref m_tape, .int j_taped, .int y39, .int y38, .int y40, .int y41, .int y42, .int y43, .int j_latest, .ref m_low, .ref m_high, .ref m_first, .ref m_second, .ref m_lines, .ref m_others, .int j_shiftFirst, .int j_shiftMany, .int j_shiftLow, .int j_shiftHigh])), (m_tape, .inl (kI, 200, .inl g_tape))] := hD
        have hK : va_K D vwCl [(kI, .int), (kI, .int), (kI, .int), (kI, .int)] s := hK
        refine W.widen (k := 0) (n := 0) (Nat.le_of_ble_eq_true rfl) (Nat.le_of_ble_eq_true rfl) ?_
        have hfr37 := hw
        have hcur := px2_r37
        have nfr37 : 1 ≤ y42.toInt := by omega
        clear px0_r37 hfr37
        refine lv_istore (lv' := [(5, .int r37), (4, .int r11), (3, .int x3), (2, .int r1), (0, .ref h0), (1, .int i_e)]) hx hb dX10_readsStretch_88 hl (by decide) rfl (fun ls hl => ?_)
        refine lv_aload_n hx hb dX10_readsStretch_90 rfl (lv_at hl 4 rfl) ?_
        refine lv_aload_n hx hb dX10_readsStretch_91 rfl (lv_at hl 4 rfl) ?_
        refine va_get (D := D) (ci := 10) (v := .int y42) (C := RX10) (T := TX10) (N := 25) hx hb hts (fun _ h => List.mem_cons_of_mem _ (List.mem_append_right _ h)) hown hK hP 1 rfl rfl 12 (by decide) (hts (.fieldLink RX10 123 "LineCitesModel" "fault" "I") (List.mem_of_getElem? (i := 10) rfl)) (fun _ h9 => h9) rfl dX10_readsStretch_92 ?_
        refine lv_if_ne (tgt := 115) hx hb dX10_readsStretch_95 (by decide) (fun c44 => ?_) (fun c44 => False.elim (by have nn : y42.toInt = 0 := pw_eq c44 rfl (by decide); omega))
        have nc44 : y42.toInt ≠ 0 := pw_ne c44 rfl (by decide)
        refine lv_iconst (v := 0) hx hb dX10_readsStretch_115 (by decide) ?_
        refine lv_bipush (v := 59) hx hb dX10_readsStretch_116 (by decide) ?_
        have kk0 : (0 : Int32).toInt = 0 := by decide
        have kk59 : (59 : Int32).toInt = 59 := by decide
        have hPc := hP.sub (ws' := [(h0, .inr (10, [.ref m_now, .ref m_draft, .ref m_past, .int j_acts, .ref m_images, .ref m_kept, .ref m_tape, .int j_taped, .int y39, .int y38, .int y40, .int y41, .int y42, .int y43, .int j_latest, .ref m_low, .ref m_high, .ref m_first, .ref m_second, .ref m_lines, .ref m_others, .int j_shiftFirst, .int j_shiftMany, .int j_shiftLow, .int j_shiftHigh])), (m_tape, .inl (kI, 200, .inl g_tape))]) [1, 2] rfl
        have hKc := hK.sub (tys' := [(kI, .int)]) [0] rfl
        have hDc := hD.sub (ws' := [(h0, .inr (10, [.ref m_now, .ref m_draft, .ref m_past, .int j_acts, .ref m_images, .ref m_kept, .ref m_tape, .int j_taped, .int y39, .int y38, .int y40, .int y41, .int y42, .int y43, .int j_latest, .ref m_low, .ref m_high, .ref m_first, .ref m_second, .ref m_lines, .ref m_others, .int j_shiftFirst, .int j_shiftMany, .int j_shiftLow, .int j_shiftHigh])), (m_tape, .inl (kI, 200, .inl g_tape))]) [1, 2] (by decide) rfl
        have hFc := va_free (wc := [(h0, .inr (10, [.ref m_now, .ref m_draft, .ref m_past, .int j_acts, .ref m_images, .ref m_kept, .ref m_tape, .int j_taped, .int y39, .int y38, .int y40, .int y41, .int y42, .int y43, .int j_latest, .ref m_low, .ref m_high, .ref m_first, .ref m_second, .ref m_lines, .ref m_others, .int j_shiftFirst, .int j_shiftMany, .int j_shiftLow, .int j_shiftHigh])), (m_tape, .inl (kI, 200, .inl g_tape))]) hD hS hA [1, 2] rfl
        refine va_calli (va_runV (As := [.int 0, .int 59]) (rest := []) ⟨hx, hb, hml, hown, hts⟩ (c_X10_number l D h0 0 59 m_now m_draft m_past j_acts m_images m_kept m_tape j_taped y39 y38 y40 y41 y42 y43 j_latest m_low m_high m_first m_second m_lines m_others j_shiftFirst j_shiftMany j_shiftLow j_shiftHigh kI g_tape (tNx (tR g_tape) j_taped.toInt.toNat (tNx (tR g_tape) j_taped.toInt.toNat (tNx (tR g_tape) j_taped.toInt.toNat (tNx (tR g_tape) j_taped.toInt.toNat (tNx (tR g_tape) j_taped.toInt.toNat q))))) H.size (by first | decide | omega) (by first | decide | omega) (by first | decide | omega) (by first | decide | omega) (by first | omega | decide | (have hz0 : (0 : Int32).toInt = 0 := (by decide); omega)) hcur hg_tape) (cwV 2 hts g_X10_readsStretch_X10_number rfl rfl rfl (by decide +kernel) ⟨Nat.le_of_ble_eq_true rfl, Nat.le_of_ble_eq_true rfl⟩) ⟨fun a U g mk q => by obtain ⟨q0, q1, qP, qK, qD⟩ := q; exact ⟨q0, q1, qP, va_K.moved (u := U) (U := U.calling g mk a) (Vm.Alike.refl U.vm) qK, qD⟩, va_recv hKc hPc (ci := 10) (q0 := 0) rfl rfl, fun U hU hW => ⟨rfl, by rw [hU], by rw [hU]; exact hPc, va_K.moved hW.alike hKc, hDc.weaken (fun _ _ _ _ => trivial)⟩⟩ rfl rfl hl.1 rfl (lv_room (Nat.le_of_ble_eq_true rfl)) dX10_readsStretch_118 ⟨Nat.le_of_ble_eq_true rfl, Nat.le_of_ble_eq_true rfl⟩) hS (fun q _ h => hFc q h) hFc (fun r45 u t H1 locs ht hvm hw hB hz1 hk1 hS => ?_)
        obtain ⟨y46, y47, y48, y49, y50, y51, hP1, hK1, hD1, px0_r45, px1_r45, px2_r45⟩ := hB
        rw [ht] at hP1
        have hK1 := va_K.moved hvm.symm hK1
        obtain ⟨hP, hD⟩ := va_join (wr := [(m_draft, .inl (kI, 192, .inl g_draft))]) (w1 := [(h0, .inr (10, [.ref m_now, .ref m_draft, .ref m_past, .int j_acts, .ref m_images, .ref m_kept, .ref m_tape, .int j_taped, .int y47, .int y46, .int y48, .int y49, .int y50, .int y51, .int j_latest, .ref m_low, .ref m_high, .ref m_first, .ref m_second, .ref m_lines, .ref m_others, .int j_shiftFirst, .int j_shiftMany, .int j_shiftLow, .int j_shiftHigh])), (m_tape, .inl (kI, 200, .inl g_tape))]) hP hD [1, 2] [0] rfl rfl (by decide) (by decide) hk1 hFc hP1 hD1
        have hK := (hK.sub (tys' := [(kI, .int), (kI, .int), (kI, .int), (kI, .int)]) [0, 1, 2, 3] rfl).app hK1
        generalize H1 = H at hP hS ⊢
        have hP : va_P D vwCl [(m_draft, .inl (kI, 192, .inl g_draft)), (h0, .inr (10, [.ref m_now, .ref m_draft, .ref m_past, .int j_acts, .ref m_images, .ref m_kept, .ref m_tape, .int j_taped, .int y47, .int y46, .int y48, .int y49, .int y50, .int y51, .int j_latest, .ref m_low, .ref m_high, .ref m_first, .ref m_second, .ref m_lines, .ref m_others, .int j_shiftFirst, .int j_shiftMany, .int j_shiftLow, .int j_shiftHigh])), (m_tape, .inl (kI, 200, .inl g_tape))] H := hP
        have hD : va_D A [(m_draft, .inl (kI, 192, .inl g_draft)), (h0, .inr (10, [.ref m_now, .ref m_draft, .ref m_past, .int j_acts, .ref m_images, .ref m_kept, .ref m_tape, .int j_taped, .int y47, .int y46, .int y48, .int y49, .int y50, .int y51, .int j_latest, .ref m_low, .ref m_high, .ref m_first, .ref m_second, .ref m_lines, .ref m_others, .int j_shiftFirst, .int j_shiftMany, .int j_shiftLow, .int j_shiftHigh])), (m_tape, .inl (kI, 200, .inl g_tape))] := hD
        have hK : va_K D vwCl [(kI, .int), (kI, .int), (kI, .int), (kI, .int), (kI, .int)] s := hK
        refine W.widen (k := 0) (n := 0) (Nat.le_of_ble_eq_true rfl) (Nat.le_of_ble_eq_true rfl) ?_
        have hfr45 := hw
        have hcur := px2_r45
        have nfr45 : 1 ≤ y50.toInt := by omega
        clear px0_r45 hfr45
        refine lv_istore (lv' := [(6, .int r45), (5, .int r37), (4, .int r11), (3, .int x3), (2, .int r1), (0, .ref h0), (1, .int i_e)]) hx hb dX10_readsStretch_121 hl (by decide) rfl (fun ls hl => ?_)
        refine lv_aload_n hx hb dX10_readsStretch_123 rfl (lv_at hl 5 rfl) ?_
        refine va_get (D := D) (ci := 10) (v := .int y50) (C := RX10) (T := TX10) (N := 25) hx hb hts (fun _ h => List.mem_cons_of_mem _ (List.mem_append_right _ h)) hown hK hP 1 rfl rfl 12 (by decide) (hts (.fieldLink RX10 123 "LineCitesModel" "fault" "I") (List.mem_of_getElem? (i := 10) rfl)) (fun _ h9 => h9) rfl dX10_readsStretch_124 ?_
        refine lv_if_ne (tgt := 145) hx hb dX10_readsStretch_127 (by decide) (fun c52 => ?_) (fun c52 => False.elim (by have nn : y50.toInt = 0 := pw_eq c52 rfl (by decide); omega))
        have nc52 : y50.toInt ≠ 0 := pw_ne c52 rfl (by decide)
        have hP9 := hP.sub (ws' := [(h0, .inr (10, [.ref m_now, .ref m_draft, .ref m_past, .int j_acts, .ref m_images, .ref m_kept, .ref m_tape, .int j_taped, .int y47, .int y46, .int y48, .int y49, .int y50, .int y51, .int j_latest, .ref m_low, .ref m_high, .ref m_first, .ref m_second, .ref m_lines, .ref m_others, .int j_shiftFirst, .int j_shiftMany, .int j_shiftLow, .int j_shiftHigh])), (m_tape, .inl (kI, 200, .inl g_tape)), (m_draft, .inl (kI, 192, .inl g_draft))]) [1, 2, 0] rfl
        have hD9 := hD.sub (ws' := [(h0, .inr (10, [.ref m_now, .ref m_draft, .ref m_past, .int j_acts, .ref m_images, .ref m_kept, .ref m_tape, .int j_taped, .int y47, .int y46, .int y48, .int y49, .int y50, .int y51, .int j_latest, .ref m_low, .ref m_high, .ref m_first, .ref m_second, .ref m_lines, .ref m_others, .int j_shiftFirst, .int j_shiftMany, .int j_shiftLow, .int j_shiftHigh])), (m_tape, .inl (kI, 200, .inl g_tape)), (m_draft, .inl (kI, 192, .inl g_draft))]) [1, 2, 0] (by decide) rfl
        have hK9 := hK.sub (tys' := [(kI, .int)]) [0] rfl
        refine W.widen (k := 0) (n := 0) (Nat.le_of_ble_eq_true rfl) (Nat.le_of_ble_eq_true rfl) ?_
        exact W.vret hx hb hr (fun t ht hW => ⟨⟨(), rfl, trivial, y46, y47, y48, y49, y50, y51, g_draft, by rw [ht]; exact hP9, va_K.moved hW.alike hK9, hD9, hg_draft, (Or.inr ⟨by omega, bI_f hno⟩), (by omega), (fun z => False.elim (by omega)), (fun z => False.elim (by omega)), (fun j hj hq => rfl), (fun z => False.elim (by omega))⟩, hS.F ht⟩) hS.2.2 dX10_readsStretch_145
      · have nc36 : r35.toInt ≠ 0 := pw_ne c36 rfl (by decide)
        have gu2 : r35.toInt = bI (uMany (g_draft 0).toInt ps r11.toInt y15.toInt) := hfr35.trans (gMany_u hdr rfl)
        clear hfr35 hbr35
        refine lv_iconst (v := 1) hx hb dX10_readsStretch_78 (by decide) ?_
        refine lv_goto (tgt := 83) hx hb dX10_readsStretch_79 (by decide) ?_
        refine lv_bipush (v := 44) hx hb dX10_readsStretch_83 (by decide) ?_
        have kk1 : (1 : Int32).toInt = 1 := by decide
        have kk44 : (44 : Int32).toInt = 44 := by decide
        have hPc := hP.sub (ws' := [(h0, .inr (10, [.ref m_now, .ref m_draft, .ref m_past, .int j_acts, .ref m_images, .ref m_kept, .ref m_tape, .int j_taped, .int y13, .int y12, .int y14, .int y15, .int y16, .int y17, .int j_latest, .ref m_low, .ref m_high, .ref m_first, .ref m_second, .ref m_lines, .ref m_others, .int j_shiftFirst, .int j_shiftMany, .int j_shiftLow, .int j_shiftHigh])), (m_tape, .inl (kI, 200, .inl g_tape))]) [1, 2] rfl
        have hKc := hK.sub (tys' := [(kI, .int)]) [0] rfl
        have hDc := hD.sub (ws' := [(h0, .inr (10, [.ref m_now, .ref m_draft, .ref m_past, .int j_acts, .ref m_images, .ref m_kept, .ref m_tape, .int j_taped, .int y13, .int y12, .int y14, .int y15, .int y16, .int y17, .int j_latest, .ref m_low, .ref m_high, .ref m_first, .ref m_second, .ref m_lines, .ref m_others, .int j_shiftFirst, .int j_shiftMany, .int j_shiftLow, .int j_shiftHigh])), (m_tape, .inl (kI, 200, .inl g_tape))]) [1, 2] (by decide) rfl
        have hFc := va_free (wc := [(h0, .inr (10, [.ref m_now, .ref m_draft, .ref m_past, .int j_acts, .ref m_images, .ref m_kept, .ref m_tape, .int j_taped, .int y13, .int y12, .int y14, .int y15, .int y16, .int y17, .int j_latest, .ref m_low, .ref m_high, .ref m_first, .ref m_second, .ref m_lines, .ref m_others, .int j_shiftFirst, .int j_shiftMany, .int j_shiftLow, .int j_shiftHigh])), (m_tape, .inl (kI, 200, .inl g_tape))]) hD hS hA [1, 2] rfl
        refine va_calli (va_runV (As := [.int 1, .int 44]) (rest := []) ⟨hx, hb, hml, hown, hts⟩ (c_X10_number l D h0 1 44 m_now m_draft m_past j_acts m_images m_kept m_tape j_taped y13 y12 y14 y15 y16 y17 j_latest m_low m_high m_first m_second m_lines m_others j_shiftFirst j_shiftMany j_shiftLow j_shiftHigh kI g_tape (tNx (tR g_tape) j_taped.toInt.toNat (tNx (tR g_tape) j_taped.toInt.toNat (tNx (tR g_tape) j_taped.toInt.toNat q))) H.size (by first | decide | omega) (by first | decide | omega) (by first | decide | omega) (by first | decide | omega) (by first | omega | decide | (have hz0 : (0 : Int32).toInt = 0 := (by decide); omega)) hcur hg_tape) (cwV 2 hts g_X10_readsStretch_X10_number rfl rfl rfl (by decide +kernel) ⟨Nat.le_of_ble_eq_true rfl, Nat.le_of_ble_eq_true rfl⟩) ⟨fun a U g mk q => by obtain ⟨q0, q1, qP, qK, qD⟩ := q; exact ⟨q0, q1, qP, va_K.moved (u := U) (U := U.calling g mk a) (Vm.Alike.refl U.vm) qK, qD⟩, va_recv hKc hPc (ci := 10) (q0 := 0) rfl rfl, fun U hU hW => ⟨rfl, by rw [hU], by rw [hU]; exact hPc, va_K.moved hW.alike hKc, hDc.weaken (fun _ _ _ _ => trivial)⟩⟩ rfl rfl hl.1 rfl (lv_room (Nat.le_of_ble_eq_true rfl)) dX10_readsStretch_85 ⟨Nat.le_of_ble_eq_true rfl, Nat.le_of_ble_eq_true rfl⟩) hS (fun q _ h => hFc q h) hFc (fun r53 u t H1 locs ht hvm hw hB hz1 hk1 hS => ?_)
        obtain ⟨y54, y55, y56, y57, y58, y59, hP1, hK1, hD1, px0_r53, px1_r53, px2_r53⟩ := hB
        rw [ht] at hP1
        have hK1 := va_K.moved hvm.symm hK1
        obtain ⟨hP, hD⟩ := va_join (wr := [(m_draft, .inl (kI, 192, .inl g_draft))]) (w1 := [(h0, .inr (10, [.ref m_now, .ref m_draft, .ref m_past, .int j_acts, .ref m_images, .ref m_kept, .ref m_tape, .int j_taped, .int y55, .int y54, .int y56, .int y57, .int y58, .int y59, .int j_latest, .ref m_low, .ref m_high, .ref m_first, .ref m_second, .ref m_lines, .ref m_others, .int j_shiftFirst, .int j_shiftMany, .int j_shiftLow, .int j_shiftHigh])), (m_tape, .inl (kI, 200, .inl g_tape))]) hP hD [1, 2] [0] rfl rfl (by decide) (by decide) hk1 hFc hP1 hD1
        have hK := (hK.sub (tys' := [(kI, .int), (kI, .int), (kI, .int)]) [0, 1, 2] rfl).app hK1
        generalize H1 = H at hP hS ⊢
        have hP : va_P D vwCl [(m_draft, .inl (kI, 192, .inl g_draft)), (h0, .inr (10, [.ref m_now, .ref m_draft, .ref m_past, .int j_acts, .ref m_images, .ref m_kept, .ref m_tape, .int j_taped, .int y55, .int y54, .int y56, .int y57, .int y58, .int y59, .int j_latest, .ref m_low, .ref m_high, .ref m_first, .ref m_second, .ref m_lines, .ref m_others, .int j_shiftFirst, .int j_shiftMany, .int j_shiftLow, .int j_shiftHigh])), (m_tape, .inl (kI, 200, .inl g_tape))] H := hP
        have hD : va_D A [(m_draft, .inl (kI, 192, .inl g_draft)), (h0, .inr (10, [.ref m_now, .ref m_draft, .ref m_past, .int j_acts, .ref m_images, .ref m_kept, .ref m_tape, .int j_taped, .int y55, .int y54, .int y56, .int y57, .int y58, .int y59, .int j_latest, .ref m_low, .ref m_high, .ref m_first, .ref m_second, .ref m_lines, .ref m_others, .int j_shiftFirst, .int j_shiftMany, .int j_shiftLow, .int j_shiftHigh])), (m_tape, .inl (kI, 200, .inl g_tape))] := hD
        have hK : va_K D vwCl [(kI, .int), (kI, .int), (kI, .int), (kI, .int)] s := hK
        refine W.widen (k := 0) (n := 0) (Nat.le_of_ble_eq_true rfl) (Nat.le_of_ble_eq_true rfl) ?_
        have hfr53 := hw
        have hcur := px2_r53
        refine lv_istore (lv' := [(5, .int r53), (4, .int r11), (3, .int x3), (2, .int r1), (0, .ref h0), (1, .int i_e)]) hx hb dX10_readsStretch_88 hl (by decide) rfl (fun ls hl => ?_)
        refine lv_aload_n hx hb dX10_readsStretch_90 rfl (lv_at hl 4 rfl) ?_
        refine lv_aload_n hx hb dX10_readsStretch_91 rfl (lv_at hl 4 rfl) ?_
        refine va_get (D := D) (ci := 10) (v := .int y58) (C := RX10) (T := TX10) (N := 25) hx hb hts (fun _ h => List.mem_cons_of_mem _ (List.mem_append_right _ h)) hown hK hP 1 rfl rfl 12 (by decide) (hts (.fieldLink RX10 123 "LineCitesModel" "fault" "I") (List.mem_of_getElem? (i := 10) rfl)) (fun _ h9 => h9) rfl dX10_readsStretch_92 ?_
        refine lv_if_ne (tgt := 115) hx hb dX10_readsStretch_95 (by decide) (fun c60 => ?_) (fun c60 => ?_)
        · have nc60 : y58.toInt ≠ 0 := pw_ne c60 rfl (by decide)
          have hno : ¬ (uStr (tR g_tape) j_taped.toInt.toNat (g_draft 0).toInt (tTok (tR g_tape) j_taped.toInt.toNat q) (tNx (tR g_tape) j_taped.toInt.toNat q) ps) := by
            intro z
            unfold uStr at z
            obtain ⟨z0, z1, z2, z3, z4, z5, z6, z7, z8, z9, z10, z11, z12⟩ := z
            have w := (px0_r53.resolve_left (fun y => by have y1 := y.1; omega)).2
            exact w ⟨by omega, z5, by decide, z7.trans (by decide)⟩
          have nf9 : 1 ≤ y58.toInt := by omega
          clear hn3 hfr53 px0_r53 gu2
          refine lv_iconst (v := 0) hx hb dX10_readsStretch_115 (by decide) ?_
          refine lv_bipush (v := 59) hx hb dX10_readsStretch_116 (by decide) ?_
          have kk0 : (0 : Int32).toInt = 0 := by decide
          have kk59 : (59 : Int32).toInt = 59 := by decide
          have hPc := hP.sub (ws' := [(h0, .inr (10, [.ref m_now, .ref m_draft, .ref m_past, .int j_acts, .ref m_images, .ref m_kept, .ref m_tape, .int j_taped, .int y55, .int y54, .int y56, .int y57, .int y58, .int y59, .int j_latest, .ref m_low, .ref m_high, .ref m_first, .ref m_second, .ref m_lines, .ref m_others, .int j_shiftFirst, .int j_shiftMany, .int j_shiftLow, .int j_shiftHigh])), (m_tape, .inl (kI, 200, .inl g_tape))]) [1, 2] rfl
          have hKc := hK.sub (tys' := [(kI, .int)]) [0] rfl
          have hDc := hD.sub (ws' := [(h0, .inr (10, [.ref m_now, .ref m_draft, .ref m_past, .int j_acts, .ref m_images, .ref m_kept, .ref m_tape, .int j_taped, .int y55, .int y54, .int y56, .int y57, .int y58, .int y59, .int j_latest, .ref m_low, .ref m_high, .ref m_first, .ref m_second, .ref m_lines, .ref m_others, .int j_shiftFirst, .int j_shiftMany, .int j_shiftLow, .int j_shiftHigh])), (m_tape, .inl (kI, 200, .inl g_tape))]) [1, 2] (by decide) rfl
          have hFc := va_free (wc := [(h0, .inr (10, [.ref m_now, .ref m_draft, .ref m_past, .int j_acts, .ref m_images, .ref m_kept, .ref m_tape, .int j_taped, .int y55, .int y54, .int y56, .int y57, .int y58, .int y59, .int j_latest, .ref m_low, .ref m_high, .ref m_first, .ref m_second, .ref m_lines, .ref m_others, .int j_shiftFirst, .int j_shiftMany, .int j_shiftLow, .int j_shiftHigh])), (m_tape, .inl (kI, 200, .inl g_tape))]) hD hS hA [1, 2] rfl
          refine va_calli (va_runV (As := [.int 0, .int 59]) (rest := []) ⟨hx, hb, hml, hown, hts⟩ (c_X10_number l D h0 0 59 m_now m_draft m_past j_acts m_images m_kept m_tape j_taped y55 y54 y56 y57 y58 y59 j_latest m_low m_high m_first m_second m_lines m_others j_shiftFirst j_shiftMany j_shiftLow j_shiftHigh kI g_tape (tNx (tR g_tape) j_taped.toInt.toNat (tNx (tR g_tape) j_taped.toInt.toNat (tNx (tR g_tape) j_taped.toInt.toNat (tNx (tR g_tape) j_taped.toInt.toNat (tNx (tR g_tape) j_taped.toInt.toNat q))))) H.size (by first | decide | omega) (by first | decide | omega) (by first | decide | omega) (by first | decide | omega) (by first | omega | decide | (have hz0 : (0 : Int32).toInt = 0 := (by decide); omega)) hcur hg_tape) (cwV 2 hts g_X10_readsStretch_X10_number rfl rfl rfl (by decide +kernel) ⟨Nat.le_of_ble_eq_true rfl, Nat.le_of_ble_eq_true rfl⟩) ⟨fun a U g mk q => by obtain ⟨q0, q1, qP, qK, qD⟩ := q; exact ⟨q0, q1, qP, va_K.moved (u := U) (U := U.calling g mk a) (Vm.Alike.refl U.vm) qK, qD⟩, va_recv hKc hPc (ci := 10) (q0 := 0) rfl rfl, fun U hU hW => ⟨rfl, by rw [hU], by rw [hU]; exact hPc, va_K.moved hW.alike hKc, hDc.weaken (fun _ _ _ _ => trivial)⟩⟩ rfl rfl hl.1 rfl (lv_room (Nat.le_of_ble_eq_true rfl)) dX10_readsStretch_118 ⟨Nat.le_of_ble_eq_true rfl, Nat.le_of_ble_eq_true rfl⟩) hS (fun q _ h => hFc q h) hFc (fun r61 u t H1 locs ht hvm hw hB hz1 hk1 hS => ?_)
          obtain ⟨y62, y63, y64, y65, y66, y67, hP1, hK1, hD1, px0_r61, px1_r61, px2_r61⟩ := hB
          rw [ht] at hP1
          have hK1 := va_K.moved hvm.symm hK1
          obtain ⟨hP, hD⟩ := va_join (wr := [(m_draft, .inl (kI, 192, .inl g_draft))]) (w1 := [(h0, .inr (10, [.ref m_now, .ref m_draft, .ref m_past, .int j_acts, .ref m_images, .ref m_kept, .ref m_tape, .int j_taped, .int y63, .int y62, .int y64, .int y65, .int y66, .int y67, .int j_latest, .ref m_low, .ref m_high, .ref m_first, .ref m_second, .ref m_lines, .ref m_others, .int j_shiftFirst, .int j_shiftMany, .int j_shiftLow, .int j_shiftHigh])), (m_tape, .inl (kI, 200, .inl g_tape))]) hP hD [1, 2] [0] rfl rfl (by decide) (by decide) hk1 hFc hP1 hD1
          have hK := (hK.sub (tys' := [(kI, .int), (kI, .int), (kI, .int), (kI, .int)]) [0, 1, 2, 3] rfl).app hK1
          generalize H1 = H at hP hS ⊢
          have hP : va_P D vwCl [(m_draft, .inl (kI, 192, .inl g_draft)), (h0, .inr (10, [.ref m_now, .ref m_draft, .ref m_past, .int j_acts, .ref m_images, .ref m_kept, .ref m_tape, .int j_taped, .int y63, .int y62, .int y64, .int y65, .int y66, .int y67, .int j_latest, .ref m_low, .ref m_high, .ref m_first, .ref m_second, .ref m_lines, .ref m_others, .int j_shiftFirst, .int j_shiftMany, .int j_shiftLow, .int j_shiftHigh])), (m_tape, .inl (kI, 200, .inl g_tape))] H := hP
          have hD : va_D A [(m_draft, .inl (kI, 192, .inl g_draft)), (h0, .inr (10, [.ref m_now, .ref m_draft, .ref m_past, .int j_acts, .ref m_images, .ref m_kept, .ref m_tape, .int j_taped, .int y63, .int y62, .int y64, .int y65, .int y66, .int y67, .int j_latest, .ref m_low, .ref m_high, .ref m_first, .ref m_second, .ref m_lines, .ref m_others, .int j_shiftFirst, .int j_shiftMany, .int j_shiftLow, .int j_shiftHigh])), (m_tape, .inl (kI, 200, .inl g_tape))] := hD
          have hK : va_K D vwCl [(kI, .int), (kI, .int), (kI, .int), (kI, .int), (kI, .int)] s := hK
          refine W.widen (k := 0) (n := 0) (Nat.le_of_ble_eq_true rfl) (Nat.le_of_ble_eq_true rfl) ?_
          have hfr61 := hw
          have hcur := px2_r61
          have nfr61 : 1 ≤ y66.toInt := by omega
          clear px0_r61 hfr61
          refine lv_istore (lv' := [(6, .int r61), (5, .int r53), (4, .int r11), (3, .int x3), (2, .int r1), (0, .ref h0), (1, .int i_e)]) hx hb dX10_readsStretch_121 hl (by decide) rfl (fun ls hl => ?_)
          refine lv_aload_n hx hb dX10_readsStretch_123 rfl (lv_at hl 5 rfl) ?_
          refine va_get (D := D) (ci := 10) (v := .int y66) (C := RX10) (T := TX10) (N := 25) hx hb hts (fun _ h => List.mem_cons_of_mem _ (List.mem_append_right _ h)) hown hK hP 1 rfl rfl 12 (by decide) (hts (.fieldLink RX10 123 "LineCitesModel" "fault" "I") (List.mem_of_getElem? (i := 10) rfl)) (fun _ h9 => h9) rfl dX10_readsStretch_124 ?_
          refine lv_if_ne (tgt := 145) hx hb dX10_readsStretch_127 (by decide) (fun c68 => ?_) (fun c68 => False.elim (by have nn : y66.toInt = 0 := pw_eq c68 rfl (by decide); omega))
          have nc68 : y66.toInt ≠ 0 := pw_ne c68 rfl (by decide)
          have hP9 := hP.sub (ws' := [(h0, .inr (10, [.ref m_now, .ref m_draft, .ref m_past, .int j_acts, .ref m_images, .ref m_kept, .ref m_tape, .int j_taped, .int y63, .int y62, .int y64, .int y65, .int y66, .int y67, .int j_latest, .ref m_low, .ref m_high, .ref m_first, .ref m_second, .ref m_lines, .ref m_others, .int j_shiftFirst, .int j_shiftMany, .int j_shiftLow, .int j_shiftHigh])), (m_tape, .inl (kI, 200, .inl g_tape)), (m_draft, .inl (kI, 192, .inl g_draft))]) [1, 2, 0] rfl
          have hD9 := hD.sub (ws' := [(h0, .inr (10, [.ref m_now, .ref m_draft, .ref m_past, .int j_acts, .ref m_images, .ref m_kept, .ref m_tape, .int j_taped, .int y63, .int y62, .int y64, .int y65, .int y66, .int y67, .int j_latest, .ref m_low, .ref m_high, .ref m_first, .ref m_second, .ref m_lines, .ref m_others, .int j_shiftFirst, .int j_shiftMany, .int j_shiftLow, .int j_shiftHigh])), (m_tape, .inl (kI, 200, .inl g_tape)), (m_draft, .inl (kI, 192, .inl g_draft))]) [1, 2, 0] (by decide) rfl
          have hK9 := hK.sub (tys' := [(kI, .int)]) [0] rfl
          refine W.widen (k := 0) (n := 0) (Nat.le_of_ble_eq_true rfl) (Nat.le_of_ble_eq_true rfl) ?_
          exact W.vret hx hb hr (fun t ht hW => ⟨⟨(), rfl, trivial, y62, y63, y64, y65, y66, y67, g_draft, by rw [ht]; exact hP9, va_K.moved hW.alike hK9, hD9, hg_draft, (Or.inr ⟨by omega, bI_f hno⟩), (by omega), (fun z => False.elim (by omega)), (fun z => False.elim (by omega)), (fun j hj hq => rfl), (fun z => False.elim (by omega))⟩, hS.F ht⟩) hS.2.2 dX10_readsStretch_145
        · have nc60 : y58.toInt = 0 := pw_eq c60 rfl (by decide)
          have gq := px0_r53.resolve_right (fun z => by have z1 := z.1; omega)
          have g5 := gq.2.2.1
          have g7 : tTok (tR g_tape) j_taped.toInt.toNat (tNx (tR g_tape) j_taped.toInt.toNat (tNx (tR g_tape) j_taped.toInt.toNat (tNx (tR g_tape) j_taped.toInt.toNat (tNx (tR g_tape) j_taped.toInt.toNat q)))) = 44 := gq.2.2.2.2.trans (by decide)
          have g5v := hn3.2 (hn3.1.mpr g5)
          have gmn := (hfr53.resolve_right (fun z => z.1 ⟨gq.2.1, g5, gq.2.2.2.1⟩)).2.1
          have g6 : bI (uMany (g_draft 0).toInt ps (tNum (tR g_tape) j_taped.toInt.toNat (tNx (tR g_tape) j_taped.toInt.toNat q)) (tNum (tR g_tape) j_taped.toInt.toNat (tNx (tR g_tape) j_taped.toInt.toNat (tNx (tR g_tape) j_taped.toInt.toNat (tNx (tR g_tape) j_taped.toInt.toNat q))))) = 1 := by rw [← gfr, ← g5v.1, ← gu2]; have w2 := zor35; omega
          have g6b := uMany_b g6
          have hn5 := cu_num (hcur (by omega))
          clear hn3 hfr53 px0_r53 gq gu2
          refine lv_iload_n hx hb dX10_readsStretch_98 rfl (lv_at hl 3 rfl) ?_
          refine lv_iload hx hb dX10_readsStretch_99 (lv_at hl 0 rfl) ?_
          refine lv_aload_n hx hb dX10_readsStretch_101 rfl (lv_at hl 4 rfl) ?_
          refine va_get (D := D) (ci := 10) (v := .int y57) (C := RX10) (T := TX10) (N := 25) hx hb hts (fun _ h => List.mem_cons_of_mem _ (List.mem_append_right _ h)) hown hK hP 1 rfl rfl 11 (by decide) (hts (.fieldLink RX10 109 "LineCitesModel" "value" "I") (List.mem_of_getElem? (i := 12) rfl)) (fun _ h9 => h9) rfl dX10_readsStretch_102 ?_
          have hPc := hP.sub (ws' := []) [] rfl
          have hKc := hK.sub (tys' := []) [] rfl
          refine va_calli (va_runS (As := [.int r1, .int r53, .int y57]) (rest := [.ref h0]) ⟨hx, hb, hml, hown, hts⟩ (c_X10_isFirst l D r1 r53 y57 (by first | decide | omega) (by first | decide | omega)) (cwS 3 hts g_X10_readsStretch_X10_isFirst rfl rfl rfl (by decide +kernel) ⟨Nat.le_of_ble_eq_true rfl, Nat.le_of_ble_eq_true rfl⟩) ⟨fun a U g mk q => by obtain ⟨q0, qP, qK⟩ := q; exact ⟨q0, qP, va_K.moved (u := U) (U := U.calling g mk a) (Vm.Alike.refl U.vm) qK⟩, fun U hU hW => ⟨rfl, by rw [hU]; exact hPc, va_K.moved hW.alike hKc⟩⟩ rfl rfl hl.1 rfl (lv_room (Nat.le_of_ble_eq_true rfl)) dX10_readsStretch_105 ⟨Nat.le_of_ble_eq_true rfl, Nat.le_of_ble_eq_true rfl⟩) hS (fun _ _ h => h.elim) (fun _ h => h.elim) (fun r69 u t H1 locs ht hvm hw hB hz1 hk1 hS => ?_)
          have hP := pw_keep hP (fun q hq => hk1 q hq (fun h => h))
          generalize H1 = H at hP hS ⊢
          refine W.widen (k := 0) (n := 0) (Nat.le_of_ble_eq_true rfl) (Nat.le_of_ble_eq_true rfl) ?_
          have bor69 := hw.1
          have zor69 := pw_boolI bor69
          have hfr69 := hw.2
          refine lv_if_eq (tgt := 115) hx hb dX10_readsStretch_108 (by decide) (fun c70 => ?_) (fun c70 => ?_)
          · have nc70 : r69.toInt = 0 := pw_eq c70 rfl (by decide)
            have hno : ¬ (uStr (tR g_tape) j_taped.toInt.toNat (g_draft 0).toInt (tTok (tR g_tape) j_taped.toInt.toNat q) (tNx (tR g_tape) j_taped.toInt.toNat q) ps) := by
              intro z
              unfold uStr at z
              obtain ⟨z0, z1, z2, z3, z4, z5, z6, z7, z8, z9, z10, z11, z12⟩ := z
              have e1 := (hn5.2 (hn5.1.mpr z8)).1
              have w := (hfr69.resolve_left (fun y => by have y1 := y.1; omega)).2
              exact w ((isF_tGr (by omega) (by omega)).mpr (by rw [gk, gmn, e1]; exact ⟨z9, z10, z11⟩))
            clear hn5 hfr69
            refine lv_iconst (v := 0) hx hb dX10_readsStretch_115 (by decide) ?_
            refine lv_bipush (v := 59) hx hb dX10_readsStretch_116 (by decide) ?_
            have kk0 : (0 : Int32).toInt = 0 := by decide
            have kk59 : (59 : Int32).toInt = 59 := by decide
            have hPc := hP.sub (ws' := [(h0, .inr (10, [.ref m_now, .ref m_draft, .ref m_past, .int j_acts, .ref m_images, .ref m_kept, .ref m_tape, .int j_taped, .int y55, .int y54, .int y56, .int y57, .int y58, .int y59, .int j_latest, .ref m_low, .ref m_high, .ref m_first, .ref m_second, .ref m_lines, .ref m_others, .int j_shiftFirst, .int j_shiftMany, .int j_shiftLow, .int j_shiftHigh])), (m_tape, .inl (kI, 200, .inl g_tape))]) [1, 2] rfl
            have hKc := hK.sub (tys' := [(kI, .int)]) [0] rfl
            have hDc := hD.sub (ws' := [(h0, .inr (10, [.ref m_now, .ref m_draft, .ref m_past, .int j_acts, .ref m_images, .ref m_kept, .ref m_tape, .int j_taped, .int y55, .int y54, .int y56, .int y57, .int y58, .int y59, .int j_latest, .ref m_low, .ref m_high, .ref m_first, .ref m_second, .ref m_lines, .ref m_others, .int j_shiftFirst, .int j_shiftMany, .int j_shiftLow, .int j_shiftHigh])), (m_tape, .inl (kI, 200, .inl g_tape))]) [1, 2] (by decide) rfl
            have hFc := va_free (wc := [(h0, .inr (10, [.ref m_now, .ref m_draft, .ref m_past, .int j_acts, .ref m_images, .ref m_kept, .ref m_tape, .int j_taped, .int y55, .int y54, .int y56, .int y57, .int y58, .int y59, .int j_latest, .ref m_low, .ref m_high, .ref m_first, .ref m_second, .ref m_lines, .ref m_others, .int j_shiftFirst, .int j_shiftMany, .int j_shiftLow, .int j_shiftHigh])), (m_tape, .inl (kI, 200, .inl g_tape))]) hD hS hA [1, 2] rfl
            refine va_calli (va_runV (As := [.int 0, .int 59]) (rest := []) ⟨hx, hb, hml, hown, hts⟩ (c_X10_number l D h0 0 59 m_now m_draft m_past j_acts m_images m_kept m_tape j_taped y55 y54 y56 y57 y58 y59 j_latest m_low m_high m_first m_second m_lines m_others j_shiftFirst j_shiftMany j_shiftLow j_shiftHigh kI g_tape (tNx (tR g_tape) j_taped.toInt.toNat (tNx (tR g_tape) j_taped.toInt.toNat (tNx (tR g_tape) j_taped.toInt.toNat (tNx (tR g_tape) j_taped.toInt.toNat (tNx (tR g_tape) j_taped.toInt.toNat q))))) H.size (by first | decide | omega) (by first | decide | omega) (by first | decide | omega) (by first | decide | omega) (by first | omega | decide | (have hz0 : (0 : Int32).toInt = 0 := (by decide); omega)) hcur hg_tape) (cwV 2 hts g_X10_readsStretch_X10_number rfl rfl rfl (by decide +kernel) ⟨Nat.le_of_ble_eq_true rfl, Nat.le_of_ble_eq_true rfl⟩) ⟨fun a U g mk q => by obtain ⟨q0, q1, qP, qK, qD⟩ := q; exact ⟨q0, q1, qP, va_K.moved (u := U) (U := U.calling g mk a) (Vm.Alike.refl U.vm) qK, qD⟩, va_recv hKc hPc (ci := 10) (q0 := 0) rfl rfl, fun U hU hW => ⟨rfl, by rw [hU], by rw [hU]; exact hPc, va_K.moved hW.alike hKc, hDc.weaken (fun _ _ _ _ => trivial)⟩⟩ rfl rfl hl.1 rfl (lv_room (Nat.le_of_ble_eq_true rfl)) dX10_readsStretch_118 ⟨Nat.le_of_ble_eq_true rfl, Nat.le_of_ble_eq_true rfl⟩) hS (fun q _ h => hFc q h) hFc (fun r71 u t H1 locs ht hvm hw hB hz1 hk1 hS => ?_)
            obtain ⟨y72, y73, y74, y75, y76, y77, hP1, hK1, hD1, px0_r71, px1_r71, px2_r71⟩ := hB
            rw [ht] at hP1
            have hK1 := va_K.moved hvm.symm hK1
            obtain ⟨hP, hD⟩ := va_join (wr := [(m_draft, .inl (kI, 192, .inl g_draft))]) (w1 := [(h0, .inr (10, [.ref m_now, .ref m_draft, .ref m_past, .int j_acts, .ref m_images, .ref m_kept, .ref m_tape, .int j_taped, .int y73, .int y72, .int y74, .int y75, .int y76, .int y77, .int j_latest, .ref m_low, .ref m_high, .ref m_first, .ref m_second, .ref m_lines, .ref m_others, .int j_shiftFirst, .int j_shiftMany, .int j_shiftLow, .int j_shiftHigh])), (m_tape, .inl (kI, 200, .inl g_tape))]) hP hD [1, 2] [0] rfl rfl (by decide) (by decide) hk1 hFc hP1 hD1
            have hK := (hK.sub (tys' := [(kI, .int), (kI, .int), (kI, .int), (kI, .int)]) [0, 1, 2, 3] rfl).app hK1
            generalize H1 = H at hP hS ⊢
            have hP : va_P D vwCl [(m_draft, .inl (kI, 192, .inl g_draft)), (h0, .inr (10, [.ref m_now, .ref m_draft, .ref m_past, .int j_acts, .ref m_images, .ref m_kept, .ref m_tape, .int j_taped, .int y73, .int y72, .int y74, .int y75, .int y76, .int y77, .int j_latest, .ref m_low, .ref m_high, .ref m_first, .ref m_second, .ref m_lines, .ref m_others, .int j_shiftFirst, .int j_shiftMany, .int j_shiftLow, .int j_shiftHigh])), (m_tape, .inl (kI, 200, .inl g_tape))] H := hP
            have hD : va_D A [(m_draft, .inl (kI, 192, .inl g_draft)), (h0, .inr (10, [.ref m_now, .ref m_draft, .ref m_past, .int j_acts, .ref m_images, .ref m_kept, .ref m_tape, .int j_taped, .int y73, .int y72, .int y74, .int y75, .int y76, .int y77, .int j_latest, .ref m_low, .ref m_high, .ref m_first, .ref m_second, .ref m_lines, .ref m_others, .int j_shiftFirst, .int j_shiftMany, .int j_shiftLow, .int j_shiftHigh])), (m_tape, .inl (kI, 200, .inl g_tape))] := hD
            have hK : va_K D vwCl [(kI, .int), (kI, .int), (kI, .int), (kI, .int), (kI, .int)] s := hK
            refine W.widen (k := 0) (n := 0) (Nat.le_of_ble_eq_true rfl) (Nat.le_of_ble_eq_true rfl) ?_
            have hfr71 := hw
            have hcur := px2_r71
            have nfr71 : 1 ≤ y76.toInt := by omega
            clear px0_r71 hfr71
            refine lv_istore (lv' := [(6, .int r71), (5, .int r53), (4, .int r11), (3, .int x3), (2, .int r1), (0, .ref h0), (1, .int i_e)]) hx hb dX10_readsStretch_121 hl (by decide) rfl (fun ls hl => ?_)
            refine lv_aload_n hx hb dX10_readsStretch_123 rfl (lv_at hl 5 rfl) ?_
            refine va_get (D := D) (ci := 10) (v := .int y76) (C := RX10) (T := TX10) (N := 25) hx hb hts (fun _ h => List.mem_cons_of_mem _ (List.mem_append_right _ h)) hown hK hP 1 rfl rfl 12 (by decide) (hts (.fieldLink RX10 123 "LineCitesModel" "fault" "I") (List.mem_of_getElem? (i := 10) rfl)) (fun _ h9 => h9) rfl dX10_readsStretch_124 ?_
            refine lv_if_ne (tgt := 145) hx hb dX10_readsStretch_127 (by decide) (fun c78 => ?_) (fun c78 => False.elim (by have nn : y76.toInt = 0 := pw_eq c78 rfl (by decide); omega))
            have nc78 : y76.toInt ≠ 0 := pw_ne c78 rfl (by decide)
            have hP9 := hP.sub (ws' := [(h0, .inr (10, [.ref m_now, .ref m_draft, .ref m_past, .int j_acts, .ref m_images, .ref m_kept, .ref m_tape, .int j_taped, .int y73, .int y72, .int y74, .int y75, .int y76, .int y77, .int j_latest, .ref m_low, .ref m_high, .ref m_first, .ref m_second, .ref m_lines, .ref m_others, .int j_shiftFirst, .int j_shiftMany, .int j_shiftLow, .int j_shiftHigh])), (m_tape, .inl (kI, 200, .inl g_tape)), (m_draft, .inl (kI, 192, .inl g_draft))]) [1, 2, 0] rfl
            have hD9 := hD.sub (ws' := [(h0, .inr (10, [.ref m_now, .ref m_draft, .ref m_past, .int j_acts, .ref m_images, .ref m_kept, .ref m_tape, .int j_taped, .int y73, .int y72, .int y74, .int y75, .int y76, .int y77, .int j_latest, .ref m_low, .ref m_high, .ref m_first, .ref m_second, .ref m_lines, .ref m_others, .int j_shiftFirst, .int j_shiftMany, .int j_shiftLow, .int j_shiftHigh])), (m_tape, .inl (kI, 200, .inl g_tape)), (m_draft, .inl (kI, 192, .inl g_draft))]) [1, 2, 0] (by decide) rfl
            have hK9 := hK.sub (tys' := [(kI, .int)]) [0] rfl
            refine W.widen (k := 0) (n := 0) (Nat.le_of_ble_eq_true rfl) (Nat.le_of_ble_eq_true rfl) ?_
            exact W.vret hx hb hr (fun t ht hW => ⟨⟨(), rfl, trivial, y72, y73, y74, y75, y76, y77, g_draft, by rw [ht]; exact hP9, va_K.moved hW.alike hK9, hD9, hg_draft, (Or.inr ⟨by omega, bI_f hno⟩), (by omega), (fun z => False.elim (by omega)), (fun z => False.elim (by omega)), (fun j hj hq => rfl), (fun z => False.elim (by omega))⟩, hS.F ht⟩) hS.2.2 dX10_readsStretch_145
          · have nc70 : r69.toInt ≠ 0 := pw_ne c70 rfl (by decide)
            refine lv_iconst (v := 1) hx hb dX10_readsStretch_111 (by decide) ?_
            refine lv_goto (tgt := 116) hx hb dX10_readsStretch_112 (by decide) ?_
            refine lv_bipush (v := 59) hx hb dX10_readsStretch_116 (by decide) ?_
            have kk1 : (1 : Int32).toInt = 1 := by decide
            have kk59 : (59 : Int32).toInt = 59 := by decide
            have hPc := hP.sub (ws' := [(h0, .inr (10, [.ref m_now, .ref m_draft, .ref m_past, .int j_acts, .ref m_images, .ref m_kept, .ref m_tape, .int j_taped, .int y55, .int y54, .int y56, .int y57, .int y58, .int y59, .int j_latest, .ref m_low, .ref m_high, .ref m_first, .ref m_second, .ref m_lines, .ref m_others, .int j_shiftFirst, .int j_shiftMany, .int j_shiftLow, .int j_shiftHigh])), (m_tape, .inl (kI, 200, .inl g_tape))]) [1, 2] rfl
            have hKc := hK.sub (tys' := [(kI, .int)]) [0] rfl
            have hDc := hD.sub (ws' := [(h0, .inr (10, [.ref m_now, .ref m_draft, .ref m_past, .int j_acts, .ref m_images, .ref m_kept, .ref m_tape, .int j_taped, .int y55, .int y54, .int y56, .int y57, .int y58, .int y59, .int j_latest, .ref m_low, .ref m_high, .ref m_first, .ref m_second, .ref m_lines, .ref m_others, .int j_shiftFirst, .int j_shiftMany, .int j_shiftLow, .int j_shiftHigh])), (m_tape, .inl (kI, 200, .inl g_tape))]) [1, 2] (by decide) rfl
            have hFc := va_free (wc := [(h0, .inr (10, [.ref m_now, .ref m_draft, .ref m_past, .int j_acts, .ref m_images, .ref m_kept, .ref m_tape, .int j_taped, .int y55, .int y54, .int y56, .int y57, .int y58, .int y59, .int j_latest, .ref m_low, .ref m_high, .ref m_first, .ref m_second, .ref m_lines, .ref m_others, .int j_shiftFirst, .int j_shiftMany, .int j_shiftLow, .int j_shiftHigh])), (m_tape, .inl (kI, 200, .inl g_tape))]) hD hS hA [1, 2] rfl
            refine va_calli (va_runV (As := [.int 1, .int 59]) (rest := []) ⟨hx, hb, hml, hown, hts⟩ (c_X10_number l D h0 1 59 m_now m_draft m_past j_acts m_images m_kept m_tape j_taped y55 y54 y56 y57 y58 y59 j_latest m_low m_high m_first m_second m_lines m_others j_shiftFirst j_shiftMany j_shiftLow j_shiftHigh kI g_tape (tNx (tR g_tape) j_taped.toInt.toNat (tNx (tR g_tape) j_taped.toInt.toNat (tNx (tR g_tape) j_taped.toInt.toNat (tNx (tR g_tape) j_taped.toInt.toNat (tNx (tR g_tape) j_taped.toInt.toNat q))))) H.size (by first | decide | omega) (by first | decide | omega) (by first | decide | omega) (by first | decide | omega) (by first | omega | decide | (have hz0 : (0 : Int32).toInt = 0 := (by decide); omega)) hcur hg_tape) (cwV 2 hts g_X10_readsStretch_X10_number rfl rfl rfl (by decide +kernel) ⟨Nat.le_of_ble_eq_true rfl, Nat.le_of_ble_eq_true rfl⟩) ⟨fun a U g mk q => by obtain ⟨q0, q1, qP, qK, qD⟩ := q; exact ⟨q0, q1, qP, va_K.moved (u := U) (U := U.calling g mk a) (Vm.Alike.refl U.vm) qK, qD⟩, va_recv hKc hPc (ci := 10) (q0 := 0) rfl rfl, fun U hU hW => ⟨rfl, by rw [hU], by rw [hU]; exact hPc, va_K.moved hW.alike hKc, hDc.weaken (fun _ _ _ _ => trivial)⟩⟩ rfl rfl hl.1 rfl (lv_room (Nat.le_of_ble_eq_true rfl)) dX10_readsStretch_118 ⟨Nat.le_of_ble_eq_true rfl, Nat.le_of_ble_eq_true rfl⟩) hS (fun q _ h => hFc q h) hFc (fun r79 u t H1 locs ht hvm hw hB hz1 hk1 hS => ?_)
            obtain ⟨y80, y81, y82, y83, y84, y85, hP1, hK1, hD1, px0_r79, px1_r79, px2_r79⟩ := hB
            rw [ht] at hP1
            have hK1 := va_K.moved hvm.symm hK1
            obtain ⟨hP, hD⟩ := va_join (wr := [(m_draft, .inl (kI, 192, .inl g_draft))]) (w1 := [(h0, .inr (10, [.ref m_now, .ref m_draft, .ref m_past, .int j_acts, .ref m_images, .ref m_kept, .ref m_tape, .int j_taped, .int y81, .int y80, .int y82, .int y83, .int y84, .int y85, .int j_latest, .ref m_low, .ref m_high, .ref m_first, .ref m_second, .ref m_lines, .ref m_others, .int j_shiftFirst, .int j_shiftMany, .int j_shiftLow, .int j_shiftHigh])), (m_tape, .inl (kI, 200, .inl g_tape))]) hP hD [1, 2] [0] rfl rfl (by decide) (by decide) hk1 hFc hP1 hD1
            have hK := (hK.sub (tys' := [(kI, .int), (kI, .int), (kI, .int), (kI, .int)]) [0, 1, 2, 3] rfl).app hK1
            generalize H1 = H at hP hS ⊢
            have hP : va_P D vwCl [(m_draft, .inl (kI, 192, .inl g_draft)), (h0, .inr (10, [.ref m_now, .ref m_draft, .ref m_past, .int j_acts, .ref m_images, .ref m_kept, .ref m_tape, .int j_taped, .int y81, .int y80, .int y82, .int y83, .int y84, .int y85, .int j_latest, .ref m_low, .ref m_high, .ref m_first, .ref m_second, .ref m_lines, .ref m_others, .int j_shiftFirst, .int j_shiftMany, .int j_shiftLow, .int j_shiftHigh])), (m_tape, .inl (kI, 200, .inl g_tape))] H := hP
            have hD : va_D A [(m_draft, .inl (kI, 192, .inl g_draft)), (h0, .inr (10, [.ref m_now, .ref m_draft, .ref m_past, .int j_acts, .ref m_images, .ref m_kept, .ref m_tape, .int j_taped, .int y81, .int y80, .int y82, .int y83, .int y84, .int y85, .int j_latest, .ref m_low, .ref m_high, .ref m_first, .ref m_second, .ref m_lines, .ref m_others, .int j_shiftFirst, .int j_shiftMany, .int j_shiftLow, .int j_shiftHigh])), (m_tape, .inl (kI, 200, .inl g_tape))] := hD
            have hK : va_K D vwCl [(kI, .int), (kI, .int), (kI, .int), (kI, .int), (kI, .int)] s := hK
            refine W.widen (k := 0) (n := 0) (Nat.le_of_ble_eq_true rfl) (Nat.le_of_ble_eq_true rfl) ?_
            have hfr79 := hw
            have hcur := px2_r79
            refine lv_istore (lv' := [(6, .int r79), (5, .int r53), (4, .int r11), (3, .int x3), (2, .int r1), (0, .ref h0), (1, .int i_e)]) hx hb dX10_readsStretch_121 hl (by decide) rfl (fun ls hl => ?_)
            refine lv_aload_n hx hb dX10_readsStretch_123 rfl (lv_at hl 5 rfl) ?_
            refine va_get (D := D) (ci := 10) (v := .int y84) (C := RX10) (T := TX10) (N := 25) hx hb hts (fun _ h => List.mem_cons_of_mem _ (List.mem_append_right _ h)) hown hK hP 1 rfl rfl 12 (by decide) (hts (.fieldLink RX10 123 "LineCitesModel" "fault" "I") (List.mem_of_getElem? (i := 10) rfl)) (fun _ h9 => h9) rfl dX10_readsStretch_124 ?_
            refine lv_if_ne (tgt := 145) hx hb dX10_readsStretch_127 (by decide) (fun c86 => ?_) (fun c86 => ?_)
            · have nc86 : y84.toInt ≠ 0 := pw_ne c86 rfl (by decide)
              have hno : ¬ (uStr (tR g_tape) j_taped.toInt.toNat (g_draft 0).toInt (tTok (tR g_tape) j_taped.toInt.toNat q) (tNx (tR g_tape) j_taped.toInt.toNat q) ps) := by
                intro z
                unfold uStr at z
                obtain ⟨z0, z1, z2, z3, z4, z5, z6, z7, z8, z9, z10, z11, z12⟩ := z
                have w := (px0_r79.resolve_left (fun y => by have y1 := y.1; omega)).2
                exact w ⟨by omega, z8, by decide, z12.trans (by decide)⟩
              have nf9 : 1 ≤ y84.toInt := by omega
              clear hn5 hfr79 px0_r79
              have hP9 := hP.sub (ws' := [(h0, .inr (10, [.ref m_now, .ref m_draft, .ref m_past, .int j_acts, .ref m_images, .ref m_kept, .ref m_tape, .int j_taped, .int y81, .int y80, .int y82, .int y83, .int y84, .int y85, .int j_latest, .ref m_low, .ref m_high, .ref m_first, .ref m_second, .ref m_lines, .ref m_others, .int j_shiftFirst, .int j_shiftMany, .int j_shiftLow, .int j_shiftHigh])), (m_tape, .inl (kI, 200, .inl g_tape)), (m_draft, .inl (kI, 192, .inl g_draft))]) [1, 2, 0] rfl
              have hD9 := hD.sub (ws' := [(h0, .inr (10, [.ref m_now, .ref m_draft, .ref m_past, .int j_acts, .ref m_images, .ref m_kept, .ref m_tape, .int j_taped, .int y81, .int y80, .int y82, .int y83, .int y84, .int y85, .int j_latest, .ref m_low, .ref m_high, .ref m_first, .ref m_second, .ref m_lines, .ref m_others, .int j_shiftFirst, .int j_shiftMany, .int j_shiftLow, .int j_shiftHigh])), (m_tape, .inl (kI, 200, .inl g_tape)), (m_draft, .inl (kI, 192, .inl g_draft))]) [1, 2, 0] (by decide) rfl
              have hK9 := hK.sub (tys' := [(kI, .int)]) [0] rfl
              refine W.widen (k := 0) (n := 0) (Nat.le_of_ble_eq_true rfl) (Nat.le_of_ble_eq_true rfl) ?_
              exact W.vret hx hb hr (fun t ht hW => ⟨⟨(), rfl, trivial, y80, y81, y82, y83, y84, y85, g_draft, by rw [ht]; exact hP9, va_K.moved hW.alike hK9, hD9, hg_draft, (Or.inr ⟨by omega, bI_f hno⟩), (by omega), (fun z => False.elim (by omega)), (fun z => False.elim (by omega)), (fun j hj hq => rfl), (fun z => False.elim (by omega))⟩, hS.F ht⟩) hS.2.2 dX10_readsStretch_145
            · have nc86 : y84.toInt = 0 := pw_eq c86 rfl (by decide)
              have gq := px0_r79.resolve_right (fun z => by have z1 := z.1; omega)
              have g8 := gq.2.2.1
              have g10 : tTok (tR g_tape) j_taped.toInt.toNat (tNx (tR g_tape) j_taped.toInt.toNat (tNx (tR g_tape) j_taped.toInt.toNat (tNx (tR g_tape) j_taped.toInt.toNat (tNx (tR g_tape) j_taped.toInt.toNat (tNx (tR g_tape) j_taped.toInt.toNat (tNx (tR g_tape) j_taped.toInt.toNat q)))))) = 59 := gq.2.2.2.2.trans (by decide)
              have g8v := hn5.2 (hn5.1.mpr g8)
              have gfi := (hfr79.resolve_right (fun z => z.1 ⟨gq.2.1, g8, gq.2.2.2.1⟩)).2.1
              have gFF := (hfr69.resolve_right (fun y => by have y1 := y.1; omega)).2
              clear hn5 hfr79 px0_r79 gq hfr69
              have g1 : ps.length < 6 := by omega
              have g11 := (isF_tGr (k := r1.toInt) (m := r53.toInt) (f := y57.toInt) (by omega) (by omega)).mp gFF
              have hvS : vS r1.toInt r11.toInt r53.toInt r79.toInt := by rw [gfi, ← g8v.1]; unfold vS; omega
              rw [gk, gmn, g8v.1] at g11
              refine lv_aload_n hx hb dX10_readsStretch_130 rfl (lv_at hl 5 rfl) ?_
              refine va_get (D := D) (ci := 10) (v := .ref m_draft) (C := RX10) (T := TX10) (N := 25) hx hb hts (fun _ h => List.mem_cons_of_mem _ (List.mem_append_right _ h)) hown hK hP 1 rfl rfl 1 (by decide) (hts (.fieldLink RX10 13 "LineCitesModel" "draft" "[I") (List.mem_of_getElem? (i := 14) rfl)) (fun _ h9 => h9) rfl dX10_readsStretch_131 ?_
              refine lv_iload_n hx hb dX10_readsStretch_134 rfl (lv_at hl 6 rfl) ?_
              refine lv_iload_n hx hb dX10_readsStretch_135 rfl (lv_at hl 4 rfl) ?_
              refine lv_iload hx hb dX10_readsStretch_136 (lv_at hl 2 rfl) ?_
              refine lv_iload hx hb dX10_readsStretch_138 (lv_at hl 1 rfl) ?_
              refine lv_iload hx hb dX10_readsStretch_140 (lv_at hl 0 rfl) ?_
              have hPc := hP.sub (ws' := [(m_draft, .inl (kI, 192, .inl g_draft))]) [0] rfl
              have hKc := hK.sub (tys' := [(kI, .int)]) [0] rfl
              have hDc := hD.sub (ws' := [(m_draft, .inl (kI, 192, .inl g_draft))]) [0] (by decide) rfl
              have hFc := va_free (wc := [(m_draft, .inl (kI, 192, .inl g_draft))]) hD hS hA [0] rfl
              refine va_callv (va_runS (As := [.ref m_draft, .int i_e, .int r1, .int r11, .int r53, .int r79]) (rest := []) ⟨hx, hb, hml, hown, hts⟩ (c_X10_puts l D m_draft i_e r1 r11 r53 r79 kI g_draft ke H.size (by first | omega | decide | (have hz0 : (0 : Int32).toInt = 0 := (by decide); omega)) (by first | decide | omega) (by first | decide | omega) (by first | omega | decide | (have hz0 : (0 : Int32).toInt = 0 := (by decide); omega)) hvS hg_draft) (cwS 6 hts g_X10_readsStretch_X10_puts rfl rfl rfl (by decide +kernel) ⟨Nat.le_of_ble_eq_true rfl, Nat.le_of_ble_eq_true rfl⟩) ⟨fun a U g mk q => by obtain ⟨q0, q1, qP, qK, qD⟩ := q; exact ⟨q0, q1, qP, va_K.moved (u := U) (U := U.calling g mk a) (Vm.Alike.refl U.vm) qK, qD⟩, fun U hU hW => ⟨rfl, by rw [hU], by rw [hU]; exact hPc, va_K.moved hW.alike hKc, hDc.weaken (fun _ _ _ _ => trivial)⟩⟩ rfl rfl hl.1 rfl (lv_room (Nat.le_of_ble_eq_true rfl)) dX10_readsStretch_142 ⟨Nat.le_of_ble_eq_true rfl, Nat.le_of_ble_eq_true rfl⟩) hS (fun q _ h => hFc q h) hFc (fun u t H1 locs ht hvm hw hB hz1 hk1 hS => ?_)
              obtain ⟨y88, hP1, hK1, hD1, hy88, px0_r87⟩ := hB
              rw [ht] at hP1
              have hK1 := va_K.moved hvm.symm hK1
              obtain ⟨hP, hD⟩ := va_join (wr := [(h0, .inr (10, [.ref m_now, .ref m_draft, .ref m_past, .int j_acts, .ref m_images, .ref m_kept, .ref m_tape, .int j_taped, .int y81, .int y80, .int y82, .int y83, .int y84, .int y85, .int j_latest, .ref m_low, .ref m_high, .ref m_first, .ref m_second, .ref m_lines, .ref m_others, .int j_shiftFirst, .int j_shiftMany, .int j_shiftLow, .int j_shiftHigh])), (m_tape, .inl (kI, 200, .inl g_tape))]) (w1 := [(m_draft, .inl (kI, 192, .inl y88))]) hP hD [0] [1, 2] rfl rfl (by decide) (by decide) hk1 hFc hP1 hD1
              have hK := (hK.sub (tys' := [(kI, .int), (kI, .int), (kI, .int), (kI, .int), (kI, .int)]) [0, 1, 2, 3, 4] rfl).app hK1
              generalize H1 = H at hP hS ⊢
              have hP : va_P D vwCl [(h0, .inr (10, [.ref m_now, .ref m_draft, .ref m_past, .int j_acts, .ref m_images, .ref m_kept, .ref m_tape, .int j_taped, .int y81, .int y80, .int y82, .int y83, .int y84, .int y85, .int j_latest, .ref m_low, .ref m_high, .ref m_first, .ref m_second, .ref m_lines, .ref m_others, .int j_shiftFirst, .int j_shiftMany, .int j_shiftLow, .int j_shiftHigh])), (m_tape, .inl (kI, 200, .inl g_tape)), (m_draft, .inl (kI, 192, .inl y88))] H := hP
              have hD : va_D A [(h0, .inr (10, [.ref m_now, .ref m_draft, .ref m_past, .int j_acts, .ref m_images, .ref m_kept, .ref m_tape, .int j_taped, .int y81, .int y80, .int y82, .int y83, .int y84, .int y85, .int j_latest, .ref m_low, .ref m_high, .ref m_first, .ref m_second, .ref m_lines, .ref m_others, .int j_shiftFirst, .int j_shiftMany, .int j_shiftLow, .int j_shiftHigh])), (m_tape, .inl (kI, 200, .inl g_tape)), (m_draft, .inl (kI, 192, .inl y88))] := hD
              have hK : va_K D vwCl [(kI, .int), (kI, .int), (kI, .int), (kI, .int), (kI, .int), (kI, .int)] s := hK
              refine W.widen (k := 0) (n := 0) (Nat.le_of_ble_eq_true rfl) (Nat.le_of_ble_eq_true rfl) ?_
              have hyes : (uStr (tR g_tape) j_taped.toInt.toNat (g_draft 0).toInt (tTok (tR g_tape) j_taped.toInt.toNat q) (tNx (tR g_tape) j_taped.toInt.toNat q) ps) := by unfold uStr; exact ⟨hkk, g1, g2, g3, g4, g5, g6, g7, g8, g11.1, g11.2.1, g11.2.2, g10⟩
              have hP9 := hP.sub (ws' := [(h0, .inr (10, [.ref m_now, .ref m_draft, .ref m_past, .int j_acts, .ref m_images, .ref m_kept, .ref m_tape, .int j_taped, .int y81, .int y80, .int y82, .int y83, .int y84, .int y85, .int j_latest, .ref m_low, .ref m_high, .ref m_first, .ref m_second, .ref m_lines, .ref m_others, .int j_shiftFirst, .int j_shiftMany, .int j_shiftLow, .int j_shiftHigh])), (m_tape, .inl (kI, 200, .inl g_tape)), (m_draft, .inl (kI, 192, .inl y88))]) [0, 1, 2] rfl
              have hD9 := hD.sub (ws' := [(h0, .inr (10, [.ref m_now, .ref m_draft, .ref m_past, .int j_acts, .ref m_images, .ref m_kept, .ref m_tape, .int j_taped, .int y81, .int y80, .int y82, .int y83, .int y84, .int y85, .int j_latest, .ref m_low, .ref m_high, .ref m_first, .ref m_second, .ref m_lines, .ref m_others, .int j_shiftFirst, .int j_shiftMany, .int j_shiftLow, .int j_shiftHigh])), (m_tape, .inl (kI, 200, .inl g_tape)), (m_draft, .inl (kI, 192, .inl y88))]) [0, 1, 2] (by decide) rfl
              have hK9 := hK.sub (tys' := [(kI, .int)]) [0] rfl
              refine W.widen (k := 0) (n := 0) (Nat.le_of_ble_eq_true rfl) (Nat.le_of_ble_eq_true rfl) ?_
              exact W.vret hx hb hr (fun t ht hW => ⟨⟨(), rfl, trivial, y80, y81, y82, y83, y84, y85, y88, by rw [ht]; exact hP9, va_K.moved hW.alike hK9, hD9, hy88, (Or.inl ⟨by omega, bI_t hyes⟩), (by omega), (fun z => hcur z), (fun _ => by have h9 := drR_put hdr g1 px0_r87 (by omega) (by omega) (by omega); rw [gfr, gmn] at h9; exact h9), (fun j hj hq => px0_r87.hr j hq (by omega)), (fun z => by have w := cu_at (hcur z); have w1 := tNx_of2 g2; have w2 := tNx_of2 g5; have w3 := tNx_ge (t := (tR g_tape)) (n := j_taped.toInt.toNat) (a := (tNx (tR g_tape) j_taped.toInt.toNat (tNx (tR g_tape) j_taped.toInt.toNat q))); have w4 := tNx_of2 g8; have w5 := tNx_ge (t := (tR g_tape)) (n := j_taped.toInt.toNat) (a := (tNx (tR g_tape) j_taped.toInt.toNat (tNx (tR g_tape) j_taped.toInt.toNat (tNx (tR g_tape) j_taped.toInt.toNat (tNx (tR g_tape) j_taped.toInt.toNat q))))); have w6 := tNx_ge (t := (tR g_tape)) (n := j_taped.toInt.toNat) (a := (tNx (tR g_tape) j_taped.toInt.toNat (tNx (tR g_tape) j_taped.toInt.toNat (tNx (tR g_tape) j_taped.toInt.toNat (tNx (tR g_tape) j_taped.toInt.toNat (tNx (tR g_tape) j_taped.toInt.toNat (tNx (tR g_tape) j_taped.toInt.toNat q))))))); omega)⟩, hS.F ht⟩) hS.2.2 dX10_readsStretch_145
  · have nc4 : x3.toInt = 6 := pw_eq c4 rfl (by decide)
    have hno : ¬ (uStr (tR g_tape) j_taped.toInt.toNat (g_draft 0).toInt (tTok (tR g_tape) j_taped.toInt.toNat q) (tNx (tR g_tape) j_taped.toInt.toNat q) ps) := by
      intro z
      unfold uStr at z
      obtain ⟨z0, z1, z2, z3, z4, z5, z6, z7, z8, z9, z10, z11, z12⟩ := z
      omega
    refine lv_aload_n hx hb dX10_readsStretch_20 rfl (lv_at hl 2 rfl) ?_
    refine lv_iconst (v := 3) hx hb dX10_readsStretch_21 (by decide) ?_
    have kk3 : (3 : Int32).toInt = 3 := by decide
    have hPc := hP.sub (ws' := [(h0, .inr (10, [.ref m_now, .ref m_draft, .ref m_past, .int j_acts, .ref m_images, .ref m_kept, .ref m_tape, .int j_taped, .int j_at, .int j_start, .int j_token, .int j_value, .int j_fault, .int j_place, .int j_latest, .ref m_low, .ref m_high, .ref m_first, .ref m_second, .ref m_lines, .ref m_others, .int j_shiftFirst, .int j_shiftMany, .int j_shiftLow, .int j_shiftHigh]))]) [0] rfl
    have hKc := hK.sub (tys' := []) [] rfl
    have hDc := hD.sub (ws' := [(h0, .inr (10, [.ref m_now, .ref m_draft, .ref m_past, .int j_acts, .ref m_images, .ref m_kept, .ref m_tape, .int j_taped, .int j_at, .int j_start, .int j_token, .int j_value, .int j_fault, .int j_place, .int j_latest, .ref m_low, .ref m_high, .ref m_first, .ref m_second, .ref m_lines, .ref m_others, .int j_shiftFirst, .int j_shiftMany, .int j_shiftLow, .int j_shiftHigh]))]) [0] (by decide) rfl
    have hFc := va_free (wc := [(h0, .inr (10, [.ref m_now, .ref m_draft, .ref m_past, .int j_acts, .ref m_images, .ref m_kept, .ref m_tape, .int j_taped, .int j_at, .int j_start, .int j_token, .int j_value, .int j_fault, .int j_place, .int j_latest, .ref m_low, .ref m_high, .ref m_first, .ref m_second, .ref m_lines, .ref m_others, .int j_shiftFirst, .int j_shiftMany, .int j_shiftLow, .int j_shiftHigh]))]) hD hS hA [0] rfl
    refine va_callv (va_runV (As := [.int 3]) (rest := []) ⟨hx, hb, hml, hown, hts⟩ (c_X10_bad l D h0 3 m_now m_draft m_past j_acts m_images m_kept m_tape j_taped j_at j_start j_token j_value j_fault j_place j_latest m_low m_high m_first m_second m_lines m_others j_shiftFirst j_shiftMany j_shiftLow j_shiftHigh H.size) (cwV 1 hts g_X10_readsStretch_X10_bad rfl rfl rfl (by decide +kernel) ⟨Nat.le_of_ble_eq_true rfl, Nat.le_of_ble_eq_true rfl⟩) ⟨fun a U g mk q => by obtain ⟨q0, q1, qP, qK, qD⟩ := q; exact ⟨q0, q1, qP, va_K.moved (u := U) (U := U.calling g mk a) (Vm.Alike.refl U.vm) qK, qD⟩, va_recv hKc hPc (ci := 10) (q0 := 0) rfl rfl, fun U hU hW => ⟨rfl, by rw [hU], by rw [hU]; exact hPc, va_K.moved hW.alike hKc, hDc.weaken (fun _ _ _ _ => trivial)⟩⟩ rfl rfl hl.1 rfl (lv_room (Nat.le_of_ble_eq_true rfl)) dX10_readsStretch_22 ⟨Nat.le_of_ble_eq_true rfl, Nat.le_of_ble_eq_true rfl⟩) hS (fun q _ h => hFc q h) hFc (fun u t H1 locs ht hvm hw hB hz1 hk1 hS => ?_)
    obtain ⟨y90, y91, hP1, hK1, hD1, px0_r89⟩ := hB
    rw [ht] at hP1
    have hK1 := va_K.moved hvm.symm hK1
    obtain ⟨hP, hD⟩ := va_join (wr := [(m_tape, .inl (kI, 200, .inl g_tape)), (m_draft, .inl (kI, 192, .inl g_draft))]) (w1 := [(h0, .inr (10, [.ref m_now, .ref m_draft, .ref m_past, .int j_acts, .ref m_images, .ref m_kept, .ref m_tape, .int j_taped, .int j_at, .int j_start, .int j_token, .int j_value, .int y90, .int y91, .int j_latest, .ref m_low, .ref m_high, .ref m_first, .ref m_second, .ref m_lines, .ref m_others, .int j_shiftFirst, .int j_shiftMany, .int j_shiftLow, .int j_shiftHigh]))]) hP hD [0] [1, 2] rfl rfl (by decide) (by decide) hk1 hFc hP1 hD1
    have hK := (hK.sub (tys' := [(kI, .int)]) [0] rfl).app hK1
    generalize H1 = H at hP hS ⊢
    have hP : va_P D vwCl [(m_tape, .inl (kI, 200, .inl g_tape)), (m_draft, .inl (kI, 192, .inl g_draft)), (h0, .inr (10, [.ref m_now, .ref m_draft, .ref m_past, .int j_acts, .ref m_images, .ref m_kept, .ref m_tape, .int j_taped, .int j_at, .int j_start, .int j_token, .int j_value, .int y90, .int y91, .int j_latest, .ref m_low, .ref m_high, .ref m_first, .ref m_second, .ref m_lines, .ref m_others, .int j_shiftFirst, .int j_shiftMany, .int j_shiftLow, .int j_shiftHigh]))] H := hP
    have hD : va_D A [(m_tape, .inl (kI, 200, .inl g_tape)), (m_draft, .inl (kI, 192, .inl g_draft)), (h0, .inr (10, [.ref m_now, .ref m_draft, .ref m_past, .int j_acts, .ref m_images, .ref m_kept, .ref m_tape, .int j_taped, .int j_at, .int j_start, .int j_token, .int j_value, .int y90, .int y91, .int j_latest, .ref m_low, .ref m_high, .ref m_first, .ref m_second, .ref m_lines, .ref m_others, .int j_shiftFirst, .int j_shiftMany, .int j_shiftLow, .int j_shiftHigh]))] := hD
    have hK : va_K D vwCl [(kI, .int)] s := hK
    refine W.widen (k := 0) (n := 0) (Nat.le_of_ble_eq_true rfl) (Nat.le_of_ble_eq_true rfl) ?_
    refine lv_aload_n hx hb dX10_readsStretch_25 rfl (lv_at hl 2 rfl) ?_
    have hPc := hP.sub (ws' := [(h0, .inr (10, [.ref m_now, .ref m_draft, .ref m_past, .int j_acts, .ref m_images, .ref m_kept, .ref m_tape, .int j_taped, .int j_at, .int j_start, .int j_token, .int j_value, .int y90, .int y91, .int j_latest, .ref m_low, .ref m_high, .ref m_first, .ref m_second, .ref m_lines, .ref m_others, .int j_shiftFirst, .int j_shiftMany, .int j_shiftLow, .int j_shiftHigh])), (m_tape, .inl (kI, 200, .inl g_tape))]) [2, 0] rfl
    have hKc := hK.sub (tys' := [(kI, .int)]) [0] rfl
    have hDc := hD.sub (ws' := [(h0, .inr (10, [.ref m_now, .ref m_draft, .ref m_past, .int j_acts, .ref m_images, .ref m_kept, .ref m_tape, .int j_taped, .int j_at, .int j_start, .int j_token, .int j_value, .int y90, .int y91, .int j_latest, .ref m_low, .ref m_high, .ref m_first, .ref m_second, .ref m_lines, .ref m_others, .int j_shiftFirst, .int j_shiftMany, .int j_shiftLow, .int j_shiftHigh])), (m_tape, .inl (kI, 200, .inl g_tape))]) [2, 0] (by decide) rfl
    have hFc := va_free (wc := [(h0, .inr (10, [.ref m_now, .ref m_draft, .ref m_past, .int j_acts, .ref m_images, .ref m_kept, .ref m_tape, .int j_taped, .int j_at, .int j_start, .int j_token, .int j_value, .int y90, .int y91, .int j_latest, .ref m_low, .ref m_high, .ref m_first, .ref m_second, .ref m_lines, .ref m_others, .int j_shiftFirst, .int j_shiftMany, .int j_shiftLow, .int j_shiftHigh])), (m_tape, .inl (kI, 200, .inl g_tape))]) hD hS hA [2, 0] rfl
    refine va_callv (va_runV (As := []) (rest := []) ⟨hx, hb, hml, hown, hts⟩ (c_X10_goesOn l D h0 m_now m_draft m_past j_acts m_images m_kept m_tape j_taped j_at j_start j_token j_value y90 y91 j_latest m_low m_high m_first m_second m_lines m_others j_shiftFirst j_shiftMany j_shiftLow j_shiftHigh kI g_tape (tNx (tR g_tape) j_taped.toInt.toNat q) H.size (by first | decide | omega) (by first | decide | omega) (by first | omega | decide | (have hz0 : (0 : Int32).toInt = 0 := (by decide); omega)) hg_tape) (cwV 0 hts g_X10_readsStretch_X10_goesOn rfl rfl rfl (by decide +kernel) ⟨Nat.le_of_ble_eq_true rfl, Nat.le_of_ble_eq_true rfl⟩) ⟨fun a U g mk q => by obtain ⟨q0, q1, qP, qK, qD⟩ := q; exact ⟨q0, q1, qP, va_K.moved (u := U) (U := U.calling g mk a) (Vm.Alike.refl U.vm) qK, qD⟩, va_recv hKc hPc (ci := 10) (q0 := 0) rfl rfl, fun U hU hW => ⟨rfl, by rw [hU], by rw [hU]; exact hPc, va_K.moved hW.alike hKc, hDc.weaken (fun _ _ _ _ => trivial)⟩⟩ rfl rfl hl.1 rfl (lv_room (Nat.le_of_ble_eq_true rfl)) dX10_readsStretch_26 ⟨Nat.le_of_ble_eq_true rfl, Nat.le_of_ble_eq_true rfl⟩) hS (fun q _ h => hFc q h) hFc (fun u t H1 locs ht hvm hw hB hz1 hk1 hS => ?_)
    obtain ⟨y93, y94, y95, y96, hP1, hK1, hD1, px0_r92⟩ := hB
    rw [ht] at hP1
    have hK1 := va_K.moved hvm.symm hK1
    obtain ⟨hP, hD⟩ := va_join (wr := [(m_draft, .inl (kI, 192, .inl g_draft))]) (w1 := [(h0, .inr (10, [.ref m_now, .ref m_draft, .ref m_past, .int j_acts, .ref m_images, .ref m_kept, .ref m_tape, .int j_taped, .int y94, .int y93, .int y95, .int y96, .int y90, .int y91, .int j_latest, .ref m_low, .ref m_high, .ref m_first, .ref m_second, .ref m_lines, .ref m_others, .int j_shiftFirst, .int j_shiftMany, .int j_shiftLow, .int j_shiftHigh])), (m_tape, .inl (kI, 200, .inl g_tape))]) hP hD [2, 0] [1] rfl rfl (by decide) (by decide) hk1 hFc hP1 hD1
    have hK := (hK.sub (tys' := [(kI, .int)]) [0] rfl).app hK1
    generalize H1 = H at hP hS ⊢
    have hP : va_P D vwCl [(m_draft, .inl (kI, 192, .inl g_draft)), (h0, .inr (10, [.ref m_now, .ref m_draft, .ref m_past, .int j_acts, .ref m_images, .ref m_kept, .ref m_tape, .int j_taped, .int y94, .int y93, .int y95, .int y96, .int y90, .int y91, .int j_latest, .ref m_low, .ref m_high, .ref m_first, .ref m_second, .ref m_lines, .ref m_others, .int j_shiftFirst, .int j_shiftMany, .int j_shiftLow, .int j_shiftHigh])), (m_tape, .inl (kI, 200, .inl g_tape))] H := hP
    have hD : va_D A [(m_draft, .inl (kI, 192, .inl g_draft)), (h0, .inr (10, [.ref m_now, .ref m_draft, .ref m_past, .int j_acts, .ref m_images, .ref m_kept, .ref m_tape, .int j_taped, .int y94, .int y93, .int y95, .int y96, .int y90, .int y91, .int j_latest, .ref m_low, .ref m_high, .ref m_first, .ref m_second, .ref m_lines, .ref m_others, .int j_shiftFirst, .int j_shiftMany, .int j_shiftLow, .int j_shiftHigh])), (m_tape, .inl (kI, 200, .inl g_tape))] := hD
    have hK : va_K D vwCl [(kI, .int), (kI, .int)] s := hK
    refine W.widen (k := 0) (n := 0) (Nat.le_of_ble_eq_true rfl) (Nat.le_of_ble_eq_true rfl) ?_
    have nf9 : 1 ≤ y90.toInt ∧ y90.toInt ≤ 3 := by omega
    clear px0_r89
    have hcur : y90.toInt = 0 → cuR (tR g_tape) j_taped.toInt.toNat (tNx (tR g_tape) j_taped.toInt.toNat q) y94.toInt y95.toInt y96.toInt := fun z => px0_r92 (by omega)
    refine lv_aload_n hx hb dX10_readsStretch_29 rfl (lv_at hl 2 rfl) ?_
    refine lv_aload_n hx hb dX10_readsStretch_30 rfl (lv_at hl 2 rfl) ?_
    refine va_get (D := D) (ci := 10) (v := .ref m_draft) (C := RX10) (T := TX10) (N := 25) hx hb hts (fun _ h => List.mem_cons_of_mem _ (List.mem_append_right _ h)) hown hK hP 1 rfl rfl 1 (by decide) (hts (.fieldLink RX10 13 "LineCitesModel" "draft" "[I") (List.mem_of_getElem? (i := 14) rfl)) (fun _ h9 => h9) rfl dX10_readsStretch_31 ?_
    refine lv_iload_n hx hb dX10_readsStretch_34 rfl (lv_at hl 3 rfl) ?_
    refine lv_aload_n hx hb dX10_readsStretch_35 rfl (lv_at hl 2 rfl) ?_
    refine va_get (D := D) (ci := 10) (v := .int y96) (C := RX10) (T := TX10) (N := 25) hx hb hts (fun _ h => List.mem_cons_of_mem _ (List.mem_append_right _ h)) hown hK hP 1 rfl rfl 11 (by decide) (hts (.fieldLink RX10 109 "LineCitesModel" "value" "I") (List.mem_of_getElem? (i := 12) rfl)) (fun _ h9 => h9) rfl dX10_readsStretch_36 ?_
    refine lv_ldc hx hb hown (hts (.constant RX10 61 (-1000000)) (List.mem_of_getElem? (i := 13) rfl)) dX10_readsStretch_39 ?_
    have kkm1000000 : ((-1000000) : Int32).toInt = (-1000000) := by decide
    have hPc := hP.sub (ws' := [(m_draft, .inl (kI, 192, .inl g_draft))]) [0] rfl
    have hKc := hK.sub (tys' := [(kI, .int)]) [0] rfl
    refine va_calli (va_runS (As := [.ref m_draft, .int i_e, .int y96, .int (-1000000)]) (rest := [.ref h0]) ⟨hx, hb, hml, hown, hts⟩ (c_X10_isFrom l D m_draft i_e y96 (-1000000) kI g_draft ke (by first | omega | decide | (have hz0 : (0 : Int32).toInt = 0 := (by decide); omega)) (by first | decide | omega) (by first | decide | omega) hg_draft) (cwS 4 hts g_X10_readsStretch_X10_isFrom rfl rfl rfl (by decide +kernel) ⟨Nat.le_of_ble_eq_true rfl, Nat.le_of_ble_eq_true rfl⟩) ⟨fun a U g mk q => by obtain ⟨q0, qP, qK⟩ := q; exact ⟨q0, qP, va_K.moved (u := U) (U := U.calling g mk a) (Vm.Alike.refl U.vm) qK⟩, fun U hU hW => ⟨rfl, by rw [hU]; exact hPc, va_K.moved hW.alike hKc⟩⟩ rfl rfl hl.1 rfl (lv_room (Nat.le_of_ble_eq_true rfl)) dX10_readsStretch_41 ⟨Nat.le_of_ble_eq_true rfl, Nat.le_of_ble_eq_true rfl⟩) hS (fun _ _ h => h.elim) (fun _ h => h.elim) (fun r97 u t H1 locs ht hvm hw hB hz1 hk1 hS => ?_)
    have hP := pw_keep hP (fun q hq => hk1 q hq (fun h => h))
    generalize H1 = H at hP hS ⊢
    refine W.widen (k := 0) (n := 0) (Nat.le_of_ble_eq_true rfl) (Nat.le_of_ble_eq_true rfl) ?_
    have bor97 := hw.1
    have zor97 := pw_boolI bor97
    have hfr97 := hw.2
    rw [show ((-1000000) : Int32).toInt = (-1000000) from (by decide)] at hfr97
    have hbr97 : r97.toInt = 1 → (0 ≤ y96.toInt ∧ y96.toInt < (g_draft 0).toInt) := fun q => gFrom_b (hfr97.symm.trans q)
    refine lv_bipush (v := 44) hx hb dX10_readsStretch_44 (by decide) ?_
    have kk44 : (44 : Int32).toInt = 44 := by decide
    have hPc := hP.sub (ws' := [(h0, .inr (10, [.ref m_now, .ref m_draft, .ref m_past, .int j_acts, .ref m_images, .ref m_kept, .ref m_tape, .int j_taped, .int y94, .int y93, .int y95, .int y96, .int y90, .int y91, .int j_latest, .ref m_low, .ref m_high, .ref m_first, .ref m_second, .ref m_lines, .ref m_others, .int j_shiftFirst, .int j_shiftMany, .int j_shiftLow, .int j_shiftHigh])), (m_tape, .inl (kI, 200, .inl g_tape))]) [1, 2] rfl
    have hKc := hK.sub (tys' := [(kI, .int)]) [0] rfl
    have hDc := hD.sub (ws' := [(h0, .inr (10, [.ref m_now, .ref m_draft, .ref m_past, .int j_acts, .ref m_images, .ref m_kept, .ref m_tape, .int j_taped, .int y94, .int y93, .int y95, .int y96, .int y90, .int y91, .int j_latest, .ref m_low, .ref m_high, .ref m_first, .ref m_second, .ref m_lines, .ref m_others, .int j_shiftFirst, .int j_shiftMany, .int j_shiftLow, .int j_shiftHigh])), (m_tape, .inl (kI, 200, .inl g_tape))]) [1, 2] (by decide) rfl
    have hFc := va_free (wc := [(h0, .inr (10, [.ref m_now, .ref m_draft, .ref m_past, .int j_acts, .ref m_images, .ref m_kept, .ref m_tape, .int j_taped, .int y94, .int y93, .int y95, .int y96, .int y90, .int y91, .int j_latest, .ref m_low, .ref m_high, .ref m_first, .ref m_second, .ref m_lines, .ref m_others, .int j_shiftFirst, .int j_shiftMany, .int j_shiftLow, .int j_shiftHigh])), (m_tape, .inl (kI, 200, .inl g_tape))]) hD hS hA [1, 2] rfl
    refine va_calli (va_runV (As := [.int r97, .int 44]) (rest := []) ⟨hx, hb, hml, hown, hts⟩ (c_X10_number l D h0 r97 44 m_now m_draft m_past j_acts m_images m_kept m_tape j_taped y94 y93 y95 y96 y90 y91 j_latest m_low m_high m_first m_second m_lines m_others j_shiftFirst j_shiftMany j_shiftLow j_shiftHigh kI g_tape (tNx (tR g_tape) j_taped.toInt.toNat q) H.size (by first | decide | omega) (by first | decide | omega) (by first | decide | omega) (by first | decide | omega) (by first | omega | decide | (have hz0 : (0 : Int32).toInt = 0 := (by decide); omega)) hcur hg_tape) (cwV 2 hts g_X10_readsStretch_X10_number rfl rfl rfl (by decide +kernel) ⟨Nat.le_of_ble_eq_true rfl, Nat.le_of_ble_eq_true rfl⟩) ⟨fun a U g mk q => by obtain ⟨q0, q1, qP, qK, qD⟩ := q; exact ⟨q0, q1, qP, va_K.moved (u := U) (U := U.calling g mk a) (Vm.Alike.refl U.vm) qK, qD⟩, va_recv hKc hPc (ci := 10) (q0 := 0) rfl rfl, fun U hU hW => ⟨rfl, by rw [hU], by rw [hU]; exact hPc, va_K.moved hW.alike hKc, hDc.weaken (fun _ _ _ _ => trivial)⟩⟩ rfl rfl hl.1 rfl (lv_room (Nat.le_of_ble_eq_true rfl)) dX10_readsStretch_46 ⟨Nat.le_of_ble_eq_true rfl, Nat.le_of_ble_eq_true rfl⟩) hS (fun q _ h => hFc q h) hFc (fun r98 u t H1 locs ht hvm hw hB hz1 hk1 hS => ?_)
    obtain ⟨y99, y100, y101, y102, y103, y104, hP1, hK1, hD1, px0_r98, px1_r98, px2_r98⟩ := hB
    rw [ht] at hP1
    have hK1 := va_K.moved hvm.symm hK1
    obtain ⟨hP, hD⟩ := va_join (wr := [(m_draft, .inl (kI, 192, .inl g_draft))]) (w1 := [(h0, .inr (10, [.ref m_now, .ref m_draft, .ref m_past, .int j_acts, .ref m_images, .ref m_kept, .ref m_tape, .int j_taped, .int y100, .int y99, .int y101, .int y102, .int y103, .int y104, .int j_latest, .ref m_low, .ref m_high, .ref m_first, .ref m_second, .ref m_lines, .ref m_others, .int j_shiftFirst, .int j_shiftMany, .int j_shiftLow, .int j_shiftHigh])), (m_tape, .inl (kI, 200, .inl g_tape))]) hP hD [1, 2] [0] rfl rfl (by decide) (by decide) hk1 hFc hP1 hD1
    have hK := (hK.sub (tys' := [(kI, .int), (kI, .int)]) [0, 1] rfl).app hK1
    generalize H1 = H at hP hS ⊢
    have hP : va_P D vwCl [(m_draft, .inl (kI, 192, .inl g_draft)), (h0, .inr (10, [.ref m_now, .ref m_draft, .ref m_past, .int j_acts, .ref m_images, .ref m_kept, .ref m_tape, .int j_taped, .int y100, .int y99, .int y101, .int y102, .int y103, .int y104, .int j_latest, .ref m_low, .ref m_high, .ref m_first, .ref m_second, .ref m_lines, .ref m_others, .int j_shiftFirst, .int j_shiftMany, .int j_shiftLow, .int j_shiftHigh])), (m_tape, .inl (kI, 200, .inl g_tape))] H := hP
    have hD : va_D A [(m_draft, .inl (kI, 192, .inl g_draft)), (h0, .inr (10, [.ref m_now, .ref m_draft, .ref m_past, .int j_acts, .ref m_images, .ref m_kept, .ref m_tape, .int j_taped, .int y100, .int y99, .int y101, .int y102, .int y103, .int y104, .int j_latest, .ref m_low, .ref m_high, .ref m_first, .ref m_second, .ref m_lines, .ref m_others, .int j_shiftFirst, .int j_shiftMany, .int j_shiftLow, .int j_shiftHigh])), (m_tape, .inl (kI, 200, .inl g_tape))] := hD
    have hK : va_K D vwCl [(kI, .int), (kI, .int), (kI, .int)] s := hK
    refine W.widen (k := 0) (n := 0) (Nat.le_of_ble_eq_true rfl) (Nat.le_of_ble_eq_true rfl) ?_
    have hfr98 := hw
    have hcur := px2_r98
    have nfr98 : 1 ≤ y103.toInt := by omega
    clear px0_r98 hfr98
    clear hbr97
    refine lv_istore (lv' := [(4, .int r98), (3, .int x3), (2, .int r1), (0, .ref h0), (1, .int i_e)]) hx hb dX10_readsStretch_49 hl (by decide) rfl (fun ls hl => ?_)
    refine lv_aload_n hx hb dX10_readsStretch_51 rfl (lv_at hl 3 rfl) ?_
    refine lv_aload_n hx hb dX10_readsStretch_52 rfl (lv_at hl 3 rfl) ?_
    refine va_get (D := D) (ci := 10) (v := .int y103) (C := RX10) (T := TX10) (N := 25) hx hb hts (fun _ h => List.mem_cons_of_mem _ (List.mem_append_right _ h)) hown hK hP 1 rfl rfl 12 (by decide) (hts (.fieldLink RX10 123 "LineCitesModel" "fault" "I") (List.mem_of_getElem? (i := 10) rfl)) (fun _ h9 => h9) rfl dX10_readsStretch_53 ?_
    refine lv_if_ne (tgt := 82) hx hb dX10_readsStretch_56 (by decide) (fun c105 => ?_) (fun c105 => False.elim (by have nn : y103.toInt = 0 := pw_eq c105 rfl (by decide); omega))
    have nc105 : y103.toInt ≠ 0 := pw_ne c105 rfl (by decide)
    refine lv_iconst (v := 0) hx hb dX10_readsStretch_82 (by decide) ?_
    refine lv_bipush (v := 44) hx hb dX10_readsStretch_83 (by decide) ?_
    have kk0 : (0 : Int32).toInt = 0 := by decide
    have kk44 : (44 : Int32).toInt = 44 := by decide
    have hPc := hP.sub (ws' := [(h0, .inr (10, [.ref m_now, .ref m_draft, .ref m_past, .int j_acts, .ref m_images, .ref m_kept, .ref m_tape, .int j_taped, .int y100, .int y99, .int y101, .int y102, .int y103, .int y104, .int j_latest, .ref m_low, .ref m_high, .ref m_first, .ref m_second, .ref m_lines, .ref m_others, .int j_shiftFirst, .int j_shiftMany, .int j_shiftLow, .int j_shiftHigh])), (m_tape, .inl (kI, 200, .inl g_tape))]) [1, 2] rfl
    have hKc := hK.sub (tys' := [(kI, .int)]) [0] rfl
    have hDc := hD.sub (ws' := [(h0, .inr (10, [.ref m_now, .ref m_draft, .ref m_past, .int j_acts, .ref m_images, .ref m_kept, .ref m_tape, .int j_taped, .int y100, .int y99, .int y101, .int y102, .int y103, .int y104, .int j_latest, .ref m_low, .ref m_high, .ref m_first, .ref m_second, .ref m_lines, .ref m_others, .int j_shiftFirst, .int j_shiftMany, .int j_shiftLow, .int j_shiftHigh])), (m_tape, .inl (kI, 200, .inl g_tape))]) [1, 2] (by decide) rfl
    have hFc := va_free (wc := [(h0, .inr (10, [.ref m_now, .ref m_draft, .ref m_past, .int j_acts, .ref m_images, .ref m_kept, .ref m_tape, .int j_taped, .int y100, .int y99, .int y101, .int y102, .int y103, .int y104, .int j_latest, .ref m_low, .ref m_high, .ref m_first, .ref m_second, .ref m_lines, .ref m_others, .int j_shiftFirst, .int j_shiftMany, .int j_shiftLow, .int j_shiftHigh])), (m_tape, .inl (kI, 200, .inl g_tape))]) hD hS hA [1, 2] rfl
    refine va_calli (va_runV (As := [.int 0, .int 44]) (rest := []) ⟨hx, hb, hml, hown, hts⟩ (c_X10_number l D h0 0 44 m_now m_draft m_past j_acts m_images m_kept m_tape j_taped y100 y99 y101 y102 y103 y104 j_latest m_low m_high m_first m_second m_lines m_others j_shiftFirst j_shiftMany j_shiftLow j_shiftHigh kI g_tape (tNx (tR g_tape) j_taped.toInt.toNat (tNx (tR g_tape) j_taped.toInt.toNat (tNx (tR g_tape) j_taped.toInt.toNat q))) H.size (by first | decide | omega) (by first | decide | omega) (by first | decide | omega) (by first | decide | omega) (by first | omega | decide | (have hz0 : (0 : Int32).toInt = 0 := (by decide); omega)) hcur hg_tape) (cwV 2 hts g_X10_readsStretch_X10_number rfl rfl rfl (by decide +kernel) ⟨Nat.le_of_ble_eq_true rfl, Nat.le_of_ble_eq_true rfl⟩) ⟨fun a U g mk q => by obtain ⟨q0, q1, qP, qK, qD⟩ := q; exact ⟨q0, q1, qP, va_K.moved (u := U) (U := U.calling g mk a) (Vm.Alike.refl U.vm) qK, qD⟩, va_recv hKc hPc (ci := 10) (q0 := 0) rfl rfl, fun U hU hW => ⟨rfl, by rw [hU], by rw [hU]; exact hPc, va_K.moved hW.alike hKc, hDc.weaken (fun _ _ _ _ => trivial)⟩⟩ rfl rfl hl.1 rfl (lv_room (Nat.le_of_ble_eq_true rfl)) dX10_readsStretch_85 ⟨Nat.le_of_ble_eq_true rfl, Nat.le_of_ble_eq_true rfl⟩) hS (fun q _ h => hFc q h) hFc (fun r106 u t H1 locs ht hvm hw hB hz1 hk1 hS => ?_)
    obtain ⟨y107, y108, y109, y110, y111, y112, hP1, hK1, hD1, px0_r106, px1_r106, px2_r106⟩ := hB
    rw [ht] at hP1
    have hK1 := va_K.moved hvm.symm hK1
    obtain ⟨hP, hD⟩ := va_join (wr := [(m_draft, .inl (kI, 192, .inl g_draft))]) (w1 := [(h0, .inr (10, [.ref m_now, .ref m_draft, .ref m_past, .int j_acts, .ref m_images, .ref m_kept, .ref m_tape, .int j_taped, .int y108, .int y107, .int y109, .int y110, .int y111, .int y112, .int j_latest, .ref m_low, .ref m_high, .ref m_first, .ref m_second, .ref m_lines, .ref m_others, .int j_shiftFirst, .int j_shiftMany, .int j_shiftLow, .int j_shiftHigh])), (m_tape, .inl (kI, 200, .inl g_tape))]) hP hD [1, 2] [0] rfl rfl (by decide) (by decide) hk1 hFc hP1 hD1
    have hK := (hK.sub (tys' := [(kI, .int), (kI, .int), (kI, .int)]) [0, 1, 2] rfl).app hK1
    generalize H1 = H at hP hS ⊢
    have hP : va_P D vwCl [(m_draft, .inl (kI, 192, .inl g_draft)), (h0, .inr (10, [.ref m_now, .ref m_draft, .ref m_past, .int j_acts, .ref m_images, .ref m_kept, .ref m_tape, .int j_taped, .int y108, .int y107, .int y109, .int y110, .int y111, .int y112, .int j_latest, .ref m_low, .ref m_high, .ref m_first, .ref m_second, .ref m_lines, .ref m_others, .int j_shiftFirst, .int j_shiftMany, .int j_shiftLow, .int j_shiftHigh])), (m_tape, .inl (kI, 200, .inl g_tape))] H := hP
    have hD : va_D A [(m_draft, .inl (kI, 192, .inl g_draft)), (h0, .inr (10, [.ref m_now, .ref m_draft, .ref m_past, .int j_acts, .ref m_images, .ref m_kept, .ref m_tape, .int j_taped, .int y108, .int y107, .int y109, .int y110, .int y111, .int y112, .int j_latest, .ref m_low, .ref m_high, .ref m_first, .ref m_second, .ref m_lines, .ref m_others, .int j_shiftFirst, .int j_shiftMany, .int j_shiftLow, .int j_shiftHigh])), (m_tape, .inl (kI, 200, .inl g_tape))] := hD
    have hK : va_K D vwCl [(kI, .int), (kI, .int), (kI, .int), (kI, .int)] s := hK
    refine W.widen (k := 0) (n := 0) (Nat.le_of_ble_eq_true rfl) (Nat.le_of_ble_eq_true rfl) ?_
    have hfr106 := hw
    have hcur := px2_r106
    have nfr106 : 1 ≤ y111.toInt := by omega
    clear px0_r106 hfr106
    refine lv_istore (lv' := [(5, .int r106), (4, .int r98), (3, .int x3), (2, .int r1), (0, .ref h0), (1, .int i_e)]) hx hb dX10_readsStretch_88 hl (by decide) rfl (fun ls hl => ?_)
    refine lv_aload_n hx hb dX10_readsStretch_90 rfl (lv_at hl 4 rfl) ?_
    refine lv_aload_n hx hb dX10_readsStretch_91 rfl (lv_at hl 4 rfl) ?_
    refine va_get (D := D) (ci := 10) (v := .int y111) (C := RX10) (T := TX10) (N := 25) hx hb hts (fun _ h => List.mem_cons_of_mem _ (List.mem_append_right _ h)) hown hK hP 1 rfl rfl 12 (by decide) (hts (.fieldLink RX10 123 "LineCitesModel" "fault" "I") (List.mem_of_getElem? (i := 10) rfl)) (fun _ h9 => h9) rfl dX10_readsStretch_92 ?_
    refine lv_if_ne (tgt := 115) hx hb dX10_readsStretch_95 (by decide) (fun c113 => ?_) (fun c113 => False.elim (by have nn : y111.toInt = 0 := pw_eq c113 rfl (by decide); omega))
    have nc113 : y111.toInt ≠ 0 := pw_ne c113 rfl (by decide)
    refine lv_iconst (v := 0) hx hb dX10_readsStretch_115 (by decide) ?_
    refine lv_bipush (v := 59) hx hb dX10_readsStretch_116 (by decide) ?_
    have kk0 : (0 : Int32).toInt = 0 := by decide
    have kk59 : (59 : Int32).toInt = 59 := by decide
    have hPc := hP.sub (ws' := [(h0, .inr (10, [.ref m_now, .ref m_draft, .ref m_past, .int j_acts, .ref m_images, .ref m_kept, .ref m_tape, .int j_taped, .int y108, .int y107, .int y109, .int y110, .int y111, .int y112, .int j_latest, .ref m_low, .ref m_high, .ref m_first, .ref m_second, .ref m_lines, .ref m_others, .int j_shiftFirst, .int j_shiftMany, .int j_shiftLow, .int j_shiftHigh])), (m_tape, .inl (kI, 200, .inl g_tape))]) [1, 2] rfl
    have hKc := hK.sub (tys' := [(kI, .int)]) [0] rfl
    have hDc := hD.sub (ws' := [(h0, .inr (10, [.ref m_now, .ref m_draft, .ref m_past, .int j_acts, .ref m_images, .ref m_kept, .ref m_tape, .int j_taped, .int y108, .int y107, .int y109, .int y110, .int y111, .int y112, .int j_latest, .ref m_low, .ref m_high, .ref m_first, .ref m_second, .ref m_lines, .ref m_others, .int j_shiftFirst, .int j_shiftMany, .int j_shiftLow, .int j_shiftHigh])), (m_tape, .inl (kI, 200, .inl g_tape))]) [1, 2] (by decide) rfl
    have hFc := va_free (wc := [(h0, .inr (10, [.ref m_now, .ref m_draft, .ref m_past, .int j_acts, .ref m_images, .ref m_kept, .ref m_tape, .int j_taped, .int y108, .int y107, .int y109, .int y110, .int y111, .int y112, .int j_latest, .ref m_low, .ref m_high, .ref m_first, .ref m_second, .ref m_lines, .ref m_others, .int j_shiftFirst, .int j_shiftMany, .int j_shiftLow, .int j_shiftHigh])), (m_tape, .inl (kI, 200, .inl g_tape))]) hD hS hA [1, 2] rfl
    refine va_calli (va_runV (As := [.int 0, .int 59]) (rest := []) ⟨hx, hb, hml, hown, hts⟩ (c_X10_number l D h0 0 59 m_now m_draft m_past j_acts m_images m_kept m_tape j_taped y108 y107 y109 y110 y111 y112 j_latest m_low m_high m_first m_second m_lines m_others j_shiftFirst j_shiftMany j_shiftLow j_shiftHigh kI g_tape (tNx (tR g_tape) j_taped.toInt.toNat (tNx (tR g_tape) j_taped.toInt.toNat (tNx (tR g_tape) j_taped.toInt.toNat (tNx (tR g_tape) j_taped.toInt.toNat (tNx (tR g_tape) j_taped.toInt.toNat q))))) H.size (by first | decide | omega) (by first | decide | omega) (by first | decide | omega) (by first | decide | omega) (by first | omega | decide | (have hz0 : (0 : Int32).toInt = 0 := (by decide); omega)) hcur hg_tape) (cwV 2 hts g_X10_readsStretch_X10_number rfl rfl rfl (by decide +kernel) ⟨Nat.le_of_ble_eq_true rfl, Nat.le_of_ble_eq_true rfl⟩) ⟨fun a U g mk q => by obtain ⟨q0, q1, qP, qK, qD⟩ := q; exact ⟨q0, q1, qP, va_K.moved (u := U) (U := U.calling g mk a) (Vm.Alike.refl U.vm) qK, qD⟩, va_recv hKc hPc (ci := 10) (q0 := 0) rfl rfl, fun U hU hW => ⟨rfl, by rw [hU], by rw [hU]; exact hPc, va_K.moved hW.alike hKc, hDc.weaken (fun _ _ _ _ => trivial)⟩⟩ rfl rfl hl.1 rfl (lv_room (Nat.le_of_ble_eq_true rfl)) dX10_readsStretch_118 ⟨Nat.le_of_ble_eq_true rfl, Nat.le_of_ble_eq_true rfl⟩) hS (fun q _ h => hFc q h) hFc (fun r114 u t H1 locs ht hvm hw hB hz1 hk1 hS => ?_)
    obtain ⟨y115, y116, y117, y118, y119, y120, hP1, hK1, hD1, px0_r114, px1_r114, px2_r114⟩ := hB
    rw [ht] at hP1
    have hK1 := va_K.moved hvm.symm hK1
    obtain ⟨hP, hD⟩ := va_join (wr := [(m_draft, .inl (kI, 192, .inl g_draft))]) (w1 := [(h0, .inr (10, [.ref m_now, .ref m_draft, .ref m_past, .int j_acts, .ref m_images, .ref m_kept, .ref m_tape, .int j_taped, .int y116, .int y115, .int y117, .int y118, .int y119, .int y120, .int j_latest, .ref m_low, .ref m_high, .ref m_first, .ref m_second, .ref m_lines, .ref m_others, .int j_shiftFirst, .int j_shiftMany, .int j_shiftLow, .int j_shiftHigh])), (m_tape, .inl (kI, 200, .inl g_tape))]) hP hD [1, 2] [0] rfl rfl (by decide) (by decide) hk1 hFc hP1 hD1
    have hK := (hK.sub (tys' := [(kI, .int), (kI, .int), (kI, .int), (kI, .int)]) [0, 1, 2, 3] rfl).app hK1
    generalize H1 = H at hP hS ⊢
    have hP : va_P D vwCl [(m_draft, .inl (kI, 192, .inl g_draft)), (h0, .inr (10, [.ref m_now, .ref m_draft, .ref m_past, .int j_acts, .ref m_images, .ref m_kept, .ref m_tape, .int j_taped, .int y116, .int y115, .int y117, .int y118, .int y119, .int y120, .int j_latest, .ref m_low, .ref m_high, .ref m_first, .ref m_second, .ref m_lines, .ref m_others, .int j_shiftFirst, .int j_shiftMany, .int j_shiftLow, .int j_shiftHigh])), (m_tape, .inl (kI, 200, .inl g_tape))] H := hP
    have hD : va_D A [(m_draft, .inl (kI, 192, .inl g_draft)), (h0, .inr (10, [.ref m_now, .ref m_draft, .ref m_past, .int j_acts, .ref m_images, .ref m_kept, .ref m_tape, .int j_taped, .int y116, .int y115, .int y117, .int y118, .int y119, .int y120, .int j_latest, .ref m_low, .ref m_high, .ref m_first, .ref m_second, .ref m_lines, .ref m_others, .int j_shiftFirst, .int j_shiftMany, .int j_shiftLow, .int j_shiftHigh])), (m_tape, .inl (kI, 200, .inl g_tape))] := hD
    have hK : va_K D vwCl [(kI, .int), (kI, .int), (kI, .int), (kI, .int), (kI, .int)] s := hK
    refine W.widen (k := 0) (n := 0) (Nat.le_of_ble_eq_true rfl) (Nat.le_of_ble_eq_true rfl) ?_
    have hfr114 := hw
    have hcur := px2_r114
    have nfr114 : 1 ≤ y119.toInt := by omega
    clear px0_r114 hfr114
    refine lv_istore (lv' := [(6, .int r114), (5, .int r106), (4, .int r98), (3, .int x3), (2, .int r1), (0, .ref h0), (1, .int i_e)]) hx hb dX10_readsStretch_121 hl (by decide) rfl (fun ls hl => ?_)
    refine lv_aload_n hx hb dX10_readsStretch_123 rfl (lv_at hl 5 rfl) ?_
    refine va_get (D := D) (ci := 10) (v := .int y119) (C := RX10) (T := TX10) (N := 25) hx hb hts (fun _ h => List.mem_cons_of_mem _ (List.mem_append_right _ h)) hown hK hP 1 rfl rfl 12 (by decide) (hts (.fieldLink RX10 123 "LineCitesModel" "fault" "I") (List.mem_of_getElem? (i := 10) rfl)) (fun _ h9 => h9) rfl dX10_readsStretch_124 ?_
    refine lv_if_ne (tgt := 145) hx hb dX10_readsStretch_127 (by decide) (fun c121 => ?_) (fun c121 => False.elim (by have nn : y119.toInt = 0 := pw_eq c121 rfl (by decide); omega))
    have nc121 : y119.toInt ≠ 0 := pw_ne c121 rfl (by decide)
    have hP9 := hP.sub (ws' := [(h0, .inr (10, [.ref m_now, .ref m_draft, .ref m_past, .int j_acts, .ref m_images, .ref m_kept, .ref m_tape, .int j_taped, .int y116, .int y115, .int y117, .int y118, .int y119, .int y120, .int j_latest, .ref m_low, .ref m_high, .ref m_first, .ref m_second, .ref m_lines, .ref m_others, .int j_shiftFirst, .int j_shiftMany, .int j_shiftLow, .int j_shiftHigh])), (m_tape, .inl (kI, 200, .inl g_tape)), (m_draft, .inl (kI, 192, .inl g_draft))]) [1, 2, 0] rfl
    have hD9 := hD.sub (ws' := [(h0, .inr (10, [.ref m_now, .ref m_draft, .ref m_past, .int j_acts, .ref m_images, .ref m_kept, .ref m_tape, .int j_taped, .int y116, .int y115, .int y117, .int y118, .int y119, .int y120, .int j_latest, .ref m_low, .ref m_high, .ref m_first, .ref m_second, .ref m_lines, .ref m_others, .int j_shiftFirst, .int j_shiftMany, .int j_shiftLow, .int j_shiftHigh])), (m_tape, .inl (kI, 200, .inl g_tape)), (m_draft, .inl (kI, 192, .inl g_draft))]) [1, 2, 0] (by decide) rfl
    have hK9 := hK.sub (tys' := [(kI, .int)]) [0] rfl
    refine W.widen (k := 0) (n := 0) (Nat.le_of_ble_eq_true rfl) (Nat.le_of_ble_eq_true rfl) ?_
    exact W.vret hx hb hr (fun t ht hW => ⟨⟨(), rfl, trivial, y115, y116, y117, y118, y119, y120, g_draft, by rw [ht]; exact hP9, va_K.moved hW.alike hK9, hD9, hg_draft, (Or.inr ⟨by omega, bI_f hno⟩), (by omega), (fun z => False.elim (by omega)), (fun z => False.elim (by omega)), (fun j hj hq => rfl), (fun z => False.elim (by omega))⟩, hS.F ht⟩) hS.2.2 dX10_readsStretch_145
