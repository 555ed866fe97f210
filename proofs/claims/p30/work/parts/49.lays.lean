theorem dX10_lays_0 : decode cX10_lays 0 = .ok (.iconst 0, 1) := by decide +kernel
theorem dX10_lays_1 : decode cX10_lays 1 = .ok (.istore_n 1, 1) := by decide +kernel
theorem dX10_lays_2 : decode cX10_lays 2 = .ok (.iload_n 1, 1) := by decide +kernel
theorem dX10_lays_3 : decode cX10_lays 3 = .ok (.sipush 1000, 3) := by decide +kernel
theorem dX10_lays_6 : decode cX10_lays 6 = .ok (.if_icmp .ge 221, 3) := by decide +kernel
theorem dX10_lays_9 : decode cX10_lays 9 = .ok (.iload_n 1, 1) := by decide +kernel
theorem dX10_lays_10 : decode cX10_lays 10 = .ok (.sipush 200, 3) := by decide +kernel
theorem dX10_lays_13 : decode cX10_lays 13 = .ok (.idiv, 1) := by decide +kernel
theorem dX10_lays_14 : decode cX10_lays 14 = .ok (.istore_n 2, 1) := by decide +kernel
theorem dX10_lays_15 : decode cX10_lays 15 = .ok (.iload_n 1, 1) := by decide +kernel
theorem dX10_lays_16 : decode cX10_lays 16 = .ok (.sipush 200, 3) := by decide +kernel
theorem dX10_lays_19 : decode cX10_lays 19 = .ok (.irem, 1) := by decide +kernel
theorem dX10_lays_20 : decode cX10_lays 20 = .ok (.istore_n 3, 1) := by decide +kernel
theorem dX10_lays_21 : decode cX10_lays 21 = .ok (.iload_n 2, 1) := by decide +kernel
theorem dX10_lays_22 : decode cX10_lays 22 = .ok (.aload_n 0, 1) := by decide +kernel
theorem dX10_lays_23 : decode cX10_lays 23 = .ok (.getfield 7, 3) := by decide +kernel
theorem dX10_lays_26 : decode cX10_lays 26 = .ok (.iconst 1, 1) := by decide +kernel
theorem dX10_lays_27 : decode cX10_lays 27 = .ok (.iaload, 1) := by decide +kernel
theorem dX10_lays_28 : decode cX10_lays 28 = .ok (.if_icmp .ge 27, 3) := by decide +kernel
theorem dX10_lays_31 : decode cX10_lays 31 = .ok (.iload_n 3, 1) := by decide +kernel
theorem dX10_lays_32 : decode cX10_lays 32 = .ok (.aload_n 0, 1) := by decide +kernel
theorem dX10_lays_33 : decode cX10_lays 33 = .ok (.getfield 7, 3) := by decide +kernel
theorem dX10_lays_36 : decode cX10_lays 36 = .ok (.iconst 0, 1) := by decide +kernel
theorem dX10_lays_37 : decode cX10_lays 37 = .ok (.iaload, 1) := by decide +kernel
theorem dX10_lays_38 : decode cX10_lays 38 = .ok (.if_icmp .ge 17, 3) := by decide +kernel
theorem dX10_lays_41 : decode cX10_lays 41 = .ok (.aload_n 0, 1) := by decide +kernel
theorem dX10_lays_42 : decode cX10_lays 42 = .ok (.getfield 7, 3) := by decide +kernel
theorem dX10_lays_45 : decode cX10_lays 45 = .ok (.iload_n 2, 1) := by decide +kernel
theorem dX10_lays_46 : decode cX10_lays 46 = .ok (.iload_n 3, 1) := by decide +kernel
theorem dX10_lays_47 : decode cX10_lays 47 = .ok (.ldc 61, 2) := by decide +kernel
theorem dX10_lays_49 : decode cX10_lays 49 = .ok (.invokestatic 66, 3) := by decide +kernel
theorem dX10_lays_52 : decode cX10_lays 52 = .ok (.goto 5, 3) := by decide +kernel
theorem dX10_lays_55 : decode cX10_lays 55 = .ok (.ldc 61, 2) := by decide +kernel
theorem dX10_lays_57 : decode cX10_lays 57 = .ok (.istore 4, 2) := by decide +kernel
theorem dX10_lays_59 : decode cX10_lays 59 = .ok (.aload_n 0, 1) := by decide +kernel
theorem dX10_lays_60 : decode cX10_lays 60 = .ok (.getfield 29, 3) := by decide +kernel
theorem dX10_lays_63 : decode cX10_lays 63 = .ok (.iload_n 1, 1) := by decide +kernel
theorem dX10_lays_64 : decode cX10_lays 64 = .ok (.iconst 0, 1) := by decide +kernel
theorem dX10_lays_65 : decode cX10_lays 65 = .ok (.iastore, 1) := by decide +kernel
theorem dX10_lays_66 : decode cX10_lays 66 = .ok (.aload_n 0, 1) := by decide +kernel
theorem dX10_lays_67 : decode cX10_lays 67 = .ok (.getfield 32, 3) := by decide +kernel
theorem dX10_lays_70 : decode cX10_lays 70 = .ok (.iload_n 1, 1) := by decide +kernel
theorem dX10_lays_71 : decode cX10_lays 71 = .ok (.iconst 0, 1) := by decide +kernel
theorem dX10_lays_72 : decode cX10_lays 72 = .ok (.iastore, 1) := by decide +kernel
theorem dX10_lays_73 : decode cX10_lays 73 = .ok (.iload 4, 2) := by decide +kernel
theorem dX10_lays_75 : decode cX10_lays 75 = .ok (.ldc 61, 2) := by decide +kernel
theorem dX10_lays_77 : decode cX10_lays 77 = .ok (.if_icmp .eq 144, 3) := by decide +kernel
theorem dX10_lays_80 : decode cX10_lays 80 = .ok (.aload_n 0, 1) := by decide +kernel
theorem dX10_lays_81 : decode cX10_lays 81 = .ok (.getfield 7, 3) := by decide +kernel
theorem dX10_lays_84 : decode cX10_lays 84 = .ok (.iload_n 2, 1) := by decide +kernel
theorem dX10_lays_85 : decode cX10_lays 85 = .ok (.iload 4, 2) := by decide +kernel
theorem dX10_lays_87 : decode cX10_lays 87 = .ok (.iconst 0, 1) := by decide +kernel
theorem dX10_lays_88 : decode cX10_lays 88 = .ok (.invokestatic 62, 3) := by decide +kernel
theorem dX10_lays_91 : decode cX10_lays 91 = .ok (.istore 5, 2) := by decide +kernel
theorem dX10_lays_93 : decode cX10_lays 93 = .ok (.iload_n 3, 1) := by decide +kernel
theorem dX10_lays_94 : decode cX10_lays 94 = .ok (.aload_n 0, 1) := by decide +kernel
theorem dX10_lays_95 : decode cX10_lays 95 = .ok (.getfield 7, 3) := by decide +kernel
theorem dX10_lays_98 : decode cX10_lays 98 = .ok (.iload_n 2, 1) := by decide +kernel
theorem dX10_lays_99 : decode cX10_lays 99 = .ok (.iload 4, 2) := by decide +kernel
theorem dX10_lays_101 : decode cX10_lays 101 = .ok (.iconst 1, 1) := by decide +kernel
theorem dX10_lays_102 : decode cX10_lays 102 = .ok (.invokestatic 62, 3) := by decide +kernel
theorem dX10_lays_105 : decode cX10_lays 105 = .ok (.isub, 1) := by decide +kernel
theorem dX10_lays_106 : decode cX10_lays 106 = .ok (.istore 6, 2) := by decide +kernel
theorem dX10_lays_108 : decode cX10_lays 108 = .ok (.aload_n 0, 1) := by decide +kernel
theorem dX10_lays_109 : decode cX10_lays 109 = .ok (.getfield 7, 3) := by decide +kernel
theorem dX10_lays_112 : decode cX10_lays 112 = .ok (.iload_n 2, 1) := by decide +kernel
theorem dX10_lays_113 : decode cX10_lays 113 = .ok (.iload 4, 2) := by decide +kernel
theorem dX10_lays_115 : decode cX10_lays 115 = .ok (.iconst 3, 1) := by decide +kernel
theorem dX10_lays_116 : decode cX10_lays 116 = .ok (.invokestatic 62, 3) := by decide +kernel
theorem dX10_lays_119 : decode cX10_lays 119 = .ok (.istore 7, 2) := by decide +kernel
theorem dX10_lays_121 : decode cX10_lays 121 = .ok (.aload_n 0, 1) := by decide +kernel
theorem dX10_lays_122 : decode cX10_lays 122 = .ok (.getfield 7, 3) := by decide +kernel
theorem dX10_lays_125 : decode cX10_lays 125 = .ok (.iload_n 2, 1) := by decide +kernel
theorem dX10_lays_126 : decode cX10_lays 126 = .ok (.iload 4, 2) := by decide +kernel
theorem dX10_lays_128 : decode cX10_lays 128 = .ok (.iconst 2, 1) := by decide +kernel
theorem dX10_lays_129 : decode cX10_lays 129 = .ok (.invokestatic 62, 3) := by decide +kernel
theorem dX10_lays_132 : decode cX10_lays 132 = .ok (.istore 8, 2) := by decide +kernel
theorem dX10_lays_134 : decode cX10_lays 134 = .ok (.aload_n 0, 1) := by decide +kernel
theorem dX10_lays_135 : decode cX10_lays 135 = .ok (.getfield 29, 3) := by decide +kernel
theorem dX10_lays_138 : decode cX10_lays 138 = .ok (.iload_n 1, 1) := by decide +kernel
theorem dX10_lays_139 : decode cX10_lays 139 = .ok (.iload 7, 2) := by decide +kernel
theorem dX10_lays_141 : decode cX10_lays 141 = .ok (.iload 5, 2) := by decide +kernel
theorem dX10_lays_143 : decode cX10_lays 143 = .ok (.iconst 2, 1) := by decide +kernel
theorem dX10_lays_144 : decode cX10_lays 144 = .ok (.if_icmp .ne 10, 3) := by decide +kernel
theorem dX10_lays_147 : decode cX10_lays 147 = .ok (.iconst 2, 1) := by decide +kernel
theorem dX10_lays_148 : decode cX10_lays 148 = .ok (.iload 6, 2) := by decide +kernel
theorem dX10_lays_150 : decode cX10_lays 150 = .ok (.imul, 1) := by decide +kernel
theorem dX10_lays_151 : decode cX10_lays 151 = .ok (.goto 44, 3) := by decide +kernel
theorem dX10_lays_154 : decode cX10_lays 154 = .ok (.iload 5, 2) := by decide +kernel
theorem dX10_lays_156 : decode cX10_lays 156 = .ok (.iconst 3, 1) := by decide +kernel
theorem dX10_lays_157 : decode cX10_lays 157 = .ok (.if_icmp .ne 10, 3) := by decide +kernel
theorem dX10_lays_160 : decode cX10_lays 160 = .ok (.iload 6, 2) := by decide +kernel
theorem dX10_lays_162 : decode cX10_lays 162 = .ok (.iconst 2, 1) := by decide +kernel
theorem dX10_lays_163 : decode cX10_lays 163 = .ok (.idiv, 1) := by decide +kernel
theorem dX10_lays_164 : decode cX10_lays 164 = .ok (.goto 31, 3) := by decide +kernel
theorem dX10_lays_167 : decode cX10_lays 167 = .ok (.iload 5, 2) := by decide +kernel
theorem dX10_lays_169 : decode cX10_lays 169 = .ok (.iconst 4, 1) := by decide +kernel
theorem dX10_lays_170 : decode cX10_lays 170 = .ok (.if_icmp .ne 13, 3) := by decide +kernel
theorem dX10_lays_173 : decode cX10_lays 173 = .ok (.iload 8, 2) := by decide +kernel
theorem dX10_lays_175 : decode cX10_lays 175 = .ok (.iconst 1, 1) := by decide +kernel
theorem dX10_lays_176 : decode cX10_lays 176 = .ok (.isub, 1) := by decide +kernel
theorem dX10_lays_177 : decode cX10_lays 177 = .ok (.iload 6, 2) := by decide +kernel
theorem dX10_lays_179 : decode cX10_lays 179 = .ok (.isub, 1) := by decide +kernel
theorem dX10_lays_180 : decode cX10_lays 180 = .ok (.goto 15, 3) := by decide +kernel
theorem dX10_lays_183 : decode cX10_lays 183 = .ok (.iload 5, 2) := by decide +kernel
theorem dX10_lays_185 : decode cX10_lays 185 = .ok (.iconst 5, 1) := by decide +kernel
theorem dX10_lays_186 : decode cX10_lays 186 = .ok (.if_icmp .ne 7, 3) := by decide +kernel
theorem dX10_lays_189 : decode cX10_lays 189 = .ok (.iconst 0, 1) := by decide +kernel
theorem dX10_lays_190 : decode cX10_lays 190 = .ok (.goto 5, 3) := by decide +kernel
theorem dX10_lays_193 : decode cX10_lays 193 = .ok (.iload 6, 2) := by decide +kernel
theorem dX10_lays_195 : decode cX10_lays 195 = .ok (.iadd, 1) := by decide +kernel
theorem dX10_lays_196 : decode cX10_lays 196 = .ok (.iastore, 1) := by decide +kernel
theorem dX10_lays_197 : decode cX10_lays 197 = .ok (.aload_n 0, 1) := by decide +kernel
theorem dX10_lays_198 : decode cX10_lays 198 = .ok (.getfield 32, 3) := by decide +kernel
theorem dX10_lays_201 : decode cX10_lays 201 = .ok (.iload_n 1, 1) := by decide +kernel
theorem dX10_lays_202 : decode cX10_lays 202 = .ok (.aload_n 0, 1) := by decide +kernel
theorem dX10_lays_203 : decode cX10_lays 203 = .ok (.getfield 29, 3) := by decide +kernel
theorem dX10_lays_206 : decode cX10_lays 206 = .ok (.iload_n 1, 1) := by decide +kernel
theorem dX10_lays_207 : decode cX10_lays 207 = .ok (.iaload, 1) := by decide +kernel
theorem dX10_lays_208 : decode cX10_lays 208 = .ok (.iload 5, 2) := by decide +kernel
theorem dX10_lays_210 : decode cX10_lays 210 = .ok (.iconst 2, 1) := by decide +kernel
theorem dX10_lays_211 : decode cX10_lays 211 = .ok (.if_icmp .ne 7, 3) := by decide +kernel
theorem dX10_lays_214 : decode cX10_lays 214 = .ok (.iconst 1, 1) := by decide +kernel
theorem dX10_lays_215 : decode cX10_lays 215 = .ok (.goto 4, 3) := by decide +kernel
theorem dX10_lays_218 : decode cX10_lays 218 = .ok (.iconst 0, 1) := by decide +kernel
theorem dX10_lays_219 : decode cX10_lays 219 = .ok (.iadd, 1) := by decide +kernel
theorem dX10_lays_220 : decode cX10_lays 220 = .ok (.iastore, 1) := by decide +kernel
theorem dX10_lays_221 : decode cX10_lays 221 = .ok (.iinc 1 1, 3) := by decide +kernel
theorem dX10_lays_224 : decode cX10_lays 224 = .ok (.goto (-222), 3) := by decide +kernel
theorem dX10_lays_227 : decode cX10_lays 227 = .ok (.return_, 1) := by decide +kernel
def w_X10_lays : List Cond := .code yX10_lays cX10_lays 9 none :: ([.fieldLink RX10 7 "LineCitesModel" "now" "[I", .constant RX10 61 (-1000000), .fieldLink RX10 29 "LineCitesModel" "low" "[I", .fieldLink RX10 32 "LineCitesModel" "high" "[I", .methodLink RX10 66 yX10_stretchOf, .static yX10_stretchOf, .initialized RX10, .code yX10_stretchOf cX10_stretchOf 7 (some .int), .methodLink RX10 62 yX10_of, .static yX10_of, .code yX10_of cX10_of 4 (some .int), .methodLink RX10 51 yX10_in0, .static yX10_in0, .code yX10_in0 cX10_in0 6 (some .boolean)] ++ wsX100)
set_option maxRecDepth 20000 in
theorem g_X10_lays_X10_stretchOf : GoodIn w_X10_lays (wsS RX10 66 yX10_stretchOf w_X10_stretchOf) := goodIn_r _ [5, 6, 7, 8, 2, 9, 10, 7, 11, 12, 13, 14] rfl (by decide +kernel)
set_option maxRecDepth 20000 in
theorem g_X10_lays_X10_of : GoodIn w_X10_lays (wsS RX10 62 yX10_of w_X10_of) := goodIn_r _ [9, 10, 7, 11] rfl (by decide +kernel)
set_option maxHeartbeats 4000000 in
set_option maxRecDepth 100000 in
theorem c_X10_lays (l : Launch) (D : va_G) (h0 : Nat) (m_now : Nat) (m_draft : Nat) (m_past : Nat) (j_acts : Int32) (m_images : Nat) (m_kept : Nat) (m_tape : Nat) (j_taped : Int32) (j_at : Int32) (j_start : Int32) (j_token : Int32) (j_value : Int32) (j_fault : Int32) (j_place : Int32) (j_latest : Int32) (m_low : Nat) (m_high : Nat) (m_first : Nat) (m_second : Nat) (m_lines : Nat) (m_others : Nat) (j_shiftFirst : Int32) (j_shiftMany : Int32) (j_shiftLow : Int32) (j_shiftHigh : Int32) (kI : ClassId) (g_now : Nat → Int32) (g_low : Nat → Int32) (g_high : Nat → Int32) (sz : Nat) (hg_now : gV g_now) (hg_low : bP g_low) (hg_high : bP g_high) : Met l yX10_lays w_X10_lays ({ frames := 2, cells := 0, slots := 0, locals := 51 }) (va_Pc [.ref h0] (fun U => U.heap.size = sz ∧ va_P D vwCl [(h0, .inr (10, [.ref m_now, .ref m_draft, .ref m_past, .int j_acts, .ref m_images, .ref m_kept, .ref m_tape, .int j_taped, .int j_at, .int j_start, .int j_token, .int j_value, .int j_fault, .int j_place, .int j_latest, .ref m_low, .ref m_high, .ref m_first, .ref m_second, .ref m_lines, .ref m_others, .int j_shiftFirst, .int j_shiftMany, .int j_shiftLow, .int j_shiftHigh])), (m_now, .inl (kI, 192, .inl g_now)), (m_low, .inl (kI, 1000, .inl g_low)), (m_high, .inl (kI, 1000, .inl g_high))] U.heap ∧ va_K D vwCl [(kI, .int)] U ∧ va_D (fun _ => True) [(h0, .inr (10, [.ref m_now, .ref m_draft, .ref m_past, .int j_acts, .ref m_images, .ref m_kept, .ref m_tape, .int j_taped, .int j_at, .int j_start, .int j_token, .int j_value, .int j_fault, .int j_place, .int j_latest, .ref m_low, .ref m_high, .ref m_first, .ref m_second, .ref m_lines, .ref m_others, .int j_shiftFirst, .int j_shiftMany, .int j_shiftLow, .int j_shiftHigh])), (m_now, .inl (kI, 192, .inl g_now)), (m_low, .inl (kI, 1000, .inl g_low)), (m_high, .inl (kI, 1000, .inl g_high))])) (va_Qv (fun (_ : Unit) => True) (fun (_ : Unit) t => ∃ (n_low : Nat → Int32) (n_high : Nat → Int32), va_P D vwCl [(h0, .inr (10, [.ref m_now, .ref m_draft, .ref m_past, .int j_acts, .ref m_images, .ref m_kept, .ref m_tape, .int j_taped, .int j_at, .int j_start, .int j_token, .int j_value, .int j_fault, .int j_place, .int j_latest, .ref m_low, .ref m_high, .ref m_first, .ref m_second, .ref m_lines, .ref m_others, .int j_shiftFirst, .int j_shiftMany, .int j_shiftLow, .int j_shiftHigh])), (m_now, .inl (kI, 192, .inl g_now)), (m_low, .inl (kI, 1000, .inl n_low)), (m_high, .inl (kI, 1000, .inl n_high))] t.heap ∧ va_K D vwCl [(kI, .int)] t ∧ va_D (va_A [(h0, .inr (10, [.ref m_now, .ref m_draft, .ref m_past, .int j_acts, .ref m_images, .ref m_kept, .ref m_tape, .int j_taped, .int j_at, .int j_start, .int j_token, .int j_value, .int j_fault, .int j_place, .int j_latest, .ref m_low, .ref m_high, .ref m_first, .ref m_second, .ref m_lines, .ref m_others, .int j_shiftFirst, .int j_shiftMany, .int j_shiftLow, .int j_shiftHigh])), (m_now, .inl (kI, 192, .inl g_now)), (m_low, .inl (kI, 1000, .inl g_low)), (m_high, .inl (kI, 1000, .inl g_high))] sz) [(h0, .inr (10, [.ref m_now, .ref m_draft, .ref m_past, .int j_acts, .ref m_images, .ref m_kept, .ref m_tape, .int j_taped, .int j_at, .int j_start, .int j_token, .int j_value, .int j_fault, .int j_place, .int j_latest, .ref m_low, .ref m_high, .ref m_first, .ref m_second, .ref m_lines, .ref m_others, .int j_shiftFirst, .int j_shiftMany, .int j_shiftLow, .int j_shiftHigh])), (m_now, .inl (kI, 192, .inl g_now)), (m_low, .inl (kI, 1000, .inl n_low)), (m_high, .inl (kI, 1000, .inl n_high))] ∧ bP n_low ∧ bP n_high) (va_A [(h0, .inr (10, [.ref m_now, .ref m_draft, .ref m_past, .int j_acts, .ref m_images, .ref m_kept, .ref m_tape, .int j_taped, .int j_at, .int j_start, .int j_token, .int j_value, .int j_fault, .int j_place, .int j_latest, .ref m_low, .ref m_high, .ref m_first, .ref m_second, .ref m_lines, .ref m_others, .int j_shiftFirst, .int j_shiftMany, .int j_shiftLow, .int j_shiftHigh])), (m_now, .inl (kI, 192, .inl g_now)), (m_low, .inl (kI, 1000, .inl g_low)), (m_high, .inl (kI, 1000, .inl g_high))] sz)) 0 0 (va_A [(h0, .inr (10, [.ref m_now, .ref m_draft, .ref m_past, .int j_acts, .ref m_images, .ref m_kept, .ref m_tape, .int j_taped, .int j_at, .int j_start, .int j_token, .int j_value, .int j_fault, .int j_place, .int j_latest, .ref m_low, .ref m_high, .ref m_first, .ref m_second, .ref m_lines, .ref m_others, .int j_shiftFirst, .int j_shiftMany, .int j_shiftLow, .int j_shiftHigh])), (m_now, .inl (kI, 192, .inl g_now)), (m_low, .inl (kI, 1000, .inl g_low)), (m_high, .inl (kI, 1000, .inl g_high))] sz) := by
  refine Met.ofW (cc := cX10_lays) (maxL := 9) (ret := none) (by decide) rfl ?_
  intro p e s m args below meth c s₁ B hml hv
  obtain ⟨rfl, hsz, hP, hK, hD0⟩ := hv
  have hx := B.exec
  have hb := B.bytes
  have hr := B.returns
  have hts := atoms_spec (ws := w_X10_lays) B.pre
  have hown : s.vm.findClass RX10 = some m.cls := findClass_of_methodNamed B.named
  have hlocks := B.notSynchronized
  subst hsz
  have hD := hD0.self (sz := s.heap.size)
  generalize hAe : va_A [(h0, .inr (10, [.ref m_now, .ref m_draft, .ref m_past, .int j_acts, .ref m_images, .ref m_kept, .ref m_tape, .int j_taped, .int j_at, .int j_start, .int j_token, .int j_value, .int j_fault, .int j_place, .int j_latest, .ref m_low, .ref m_high, .ref m_first, .ref m_second, .ref m_lines, .ref m_others, .int j_shiftFirst, .int j_shiftMany, .int j_shiftLow, .int j_shiftHigh])), (m_now, .inl (kI, 192, .inl g_now)), (m_low, .inl (kI, 1000, .inl g_low)), (m_high, .inl (kI, 1000, .inl g_high))] s.heap.size = A at hD ⊢
  have hA : ∀ q : Nat, s.heap.size ≤ q → A q := fun q h => by rw [← hAe]; exact Or.inr h
  have hS : va_S A s.heap s.heap [] := va_S.rf
  have hP : va_P D vwCl [(h0, .inr (10, [.ref m_now, .ref m_draft, .ref m_past, .int j_acts, .ref m_images, .ref m_kept, .ref m_tape, .int j_taped, .int j_at, .int j_start, .int j_token, .int j_value, .int j_fault, .int j_place, .int j_latest, .ref m_low, .ref m_high, .ref m_first, .ref m_second, .ref m_lines, .ref m_others, .int j_shiftFirst, .int j_shiftMany, .int j_shiftLow, .int j_shiftHigh])), (m_now, .inl (kI, 192, .inl g_now)), (m_low, .inl (kI, 1000, .inl g_low)), (m_high, .inl (kI, 1000, .inl g_high))] s.heap := hP
  have hl := lv_entry ([.ref h0]) (n := 9) (Nat.le_of_ble_eq_true rfl)
  rw [lg_entry_eq]
  generalize (lg_sl ([.ref h0]) ++ List.replicate (9 - (lg_sl ([.ref h0])).length) Slot.unset).toArray = ls at hl ⊢
  have hl : lv_has ls 9 [(0, .ref h0)] := hl
  obtain ⟨H, hHe⟩ : ∃ H : Heap, H = s.heap := ⟨_, rfl⟩
  rw [← hHe] at hP
  have hS : va_S A s.heap H [] := by rw [hHe]; exact hS
  refine pw_heap hHe ?_
  refine lv_iconst (v := 0) hx hb dX10_lays_0 (by decide) ?_
  refine lv_istore_n (lv' := [(1, .int 0), (0, .ref h0)]) hx hb dX10_lays_1 rfl hl (by decide) rfl (fun ls hl => ?_)
  have hl9 : lv_has ls 9 [(0, .ref h0), (1, .int 0)] := lv_sub hl [1, 0] rfl
  refine pw_loop (fun (zz : Int32 × (Nat → Int32) × (Nat → Int32)) H locs ls => match zz with | (v137, f138, f139) => va_P D vwCl [(h0, .inr (10, [.ref m_now, .ref m_draft, .ref m_past, .int j_acts, .ref m_images, .ref m_kept, .ref m_tape, .int j_taped, .int j_at, .int j_start, .int j_token, .int j_value, .int j_fault, .int j_place, .int j_latest, .ref m_low, .ref m_high, .ref m_first, .ref m_second, .ref m_lines, .ref m_others, .int j_shiftFirst, .int j_shiftMany, .int j_shiftLow, .int j_shiftHigh])), (m_now, .inl (kI, 192, .inl g_now)), (m_low, .inl (kI, 1000, .inl f138)), (m_high, .inl (kI, 1000, .inl f139))] H ∧ va_D A [(h0, .inr (10, [.ref m_now, .ref m_draft, .ref m_past, .int j_acts, .ref m_images, .ref m_kept, .ref m_tape, .int j_taped, .int j_at, .int j_start, .int j_token, .int j_value, .int j_fault, .int j_place, .int j_latest, .ref m_low, .ref m_high, .ref m_first, .ref m_second, .ref m_lines, .ref m_others, .int j_shiftFirst, .int j_shiftMany, .int j_shiftLow, .int j_shiftHigh])), (m_now, .inl (kI, 192, .inl g_now)), (m_low, .inl (kI, 1000, .inl f138)), (m_high, .inl (kI, 1000, .inl f139))] ∧ va_S A s.heap H locs ∧ lv_has ls 9 [(0, .ref h0), (1, .int v137)] ∧ bP f138 ∧ bP f139 ∧ 0 ≤ v137.toInt) (fun (zz : Int32 × (Nat → Int32) × (Nat → Int32))  => match zz with | (v137, f138, f139) => (2147483648 - v137.toInt).toNat) 0 0 (fun (zz : Int32 × (Nat → Int32) × (Nat → Int32)) ls => match zz with | (v137, f138, f139) => F0 m 2 ls []) (fun zz H locs ls ih140 hI => ?_) (0, g_low, g_high) _ _ _ ⟨hP, hD, hS, hl9, hg_low, hg_high, (by decide)⟩
  obtain ⟨v137, f138, f139⟩ := zz
  obtain ⟨hP, hD, hS, hl, hf138, hf139, bv137⟩ := hI
  have bv137 : 0 ≤ v137.toInt := bv137
  have hP : va_P D vwCl [(h0, .inr (10, [.ref m_now, .ref m_draft, .ref m_past, .int j_acts, .ref m_images, .ref m_kept, .ref m_tape, .int j_taped, .int j_at, .int j_start, .int j_token, .int j_value, .int j_fault, .int j_place, .int j_latest, .ref m_low, .ref m_high, .ref m_first, .ref m_second, .ref m_lines, .ref m_others, .int j_shiftFirst, .int j_shiftMany, .int j_shiftLow, .int j_shiftHigh])), (m_now, .inl (kI, 192, .inl g_now)), (m_low, .inl (kI, 1000, .inl f138)), (m_high, .inl (kI, 1000, .inl f139))] H := hP
  have hD : va_D A [(h0, .inr (10, [.ref m_now, .ref m_draft, .ref m_past, .int j_acts, .ref m_images, .ref m_kept, .ref m_tape, .int j_taped, .int j_at, .int j_start, .int j_token, .int j_value, .int j_fault, .int j_place, .int j_latest, .ref m_low, .ref m_high, .ref m_first, .ref m_second, .ref m_lines, .ref m_others, .int j_shiftFirst, .int j_shiftMany, .int j_shiftLow, .int j_shiftHigh])), (m_now, .inl (kI, 192, .inl g_now)), (m_low, .inl (kI, 1000, .inl f138)), (m_high, .inl (kI, 1000, .inl f139))] := hD
  have hK : va_K D vwCl [(kI, .int)] s := hK
  have hl : lv_has ls 9 [(0, .ref h0), (1, .int v137)] := hl
  refine W.eq (g2 := F0 m 2 ls []) rfl ?_
  refine lv_iload_n hx hb dX10_lays_2 rfl (lv_at hl 1 rfl) ?_
  refine lv_sipush (v := 1000) hx hb dX10_lays_3 (by decide) ?_
  refine lv_icmp_ge (tgt := 227) hx hb dX10_lays_6 (by decide) (fun c141 => ?_) (fun c141 => ?_)
  · have nc141 : 1000 ≤ v137.toInt := pw_le c141 (by decide) rfl
    have hP9 := hP.sub (ws' := [(h0, .inr (10, [.ref m_now, .ref m_draft, .ref m_past, .int j_acts, .ref m_images, .ref m_kept, .ref m_tape, .int j_taped, .int j_at, .int j_start, .int j_token, .int j_value, .int j_fault, .int j_place, .int j_latest, .ref m_low, .ref m_high, .ref m_first, .ref m_second, .ref m_lines, .ref m_others, .int j_shiftFirst, .int j_shiftMany, .int j_shiftLow, .int j_shiftHigh])), (m_now, .inl (kI, 192, .inl g_now)), (m_low, .inl (kI, 1000, .inl f138)), (m_high, .inl (kI, 1000, .inl f139))]) [0, 1, 2, 3] rfl
    have hD9 := hD.sub (ws' := [(h0, .inr (10, [.ref m_now, .ref m_draft, .ref m_past, .int j_acts, .ref m_images, .ref m_kept, .ref m_tape, .int j_taped, .int j_at, .int j_start, .int j_token, .int j_value, .int j_fault, .int j_place, .int j_latest, .ref m_low, .ref m_high, .ref m_first, .ref m_second, .ref m_lines, .ref m_others, .int j_shiftFirst, .int j_shiftMany, .int j_shiftLow, .int j_shiftHigh])), (m_now, .inl (kI, 192, .inl g_now)), (m_low, .inl (kI, 1000, .inl f138)), (m_high, .inl (kI, 1000, .inl f139))]) [0, 1, 2, 3] (by decide) rfl
    have hK9 := hK.sub (tys' := [(kI, .int)]) [0] rfl
    refine W.widen (k := 0) (n := 0) (Nat.le_of_ble_eq_true rfl) (Nat.le_of_ble_eq_true rfl) ?_
    exact W.vret hx hb hr (fun t ht hW => ⟨⟨(), rfl, trivial, f138, f139, by rw [ht]; exact hP9, va_K.moved hW.alike hK9, hD9, hf138, hf139⟩, hS.F ht⟩) hS.2.2 dX10_lays_227
  · have nc141 : v137.toInt < 1000 := pw_nle c141 (by decide) rfl
    refine lv_iload_n hx hb dX10_lays_9 rfl (lv_at hl 1 rfl) ?_
    refine lv_sipush (v := 200) hx hb dX10_lays_10 (by decide) ?_
    refine lv_idiv hx hb dX10_lays_13 (by decide) ?_
    refine lv_topi (fun x142 ex142 => ?_)
    have tx142 : x142.toInt = v137.toInt / 200 := pw_divc ex142 rfl (by omega) (by decide) (by decide)
    refine lv_istore_n (lv' := [(2, .int x142), (0, .ref h0), (1, .int v137)]) hx hb dX10_lays_14 rfl hl (by decide) rfl (fun ls hl => ?_)
    refine lv_iload_n hx hb dX10_lays_15 rfl (lv_at hl 2 rfl) ?_
    refine lv_sipush (v := 200) hx hb dX10_lays_16 (by decide) ?_
    refine lv_irem hx hb dX10_lays_19 (by decide) ?_
    refine lv_topi (fun x143 ex143 => ?_)
    have tx143 : x143.toInt = v137.toInt % 200 := pw_remc ex143 rfl (by omega) (by decide) (by decide)
    refine lv_istore_n (lv' := [(3, .int x143), (2, .int x142), (0, .ref h0), (1, .int v137)]) hx hb dX10_lays_20 rfl hl (by decide) rfl (fun ls hl => ?_)
    refine lv_iload_n hx hb dX10_lays_21 rfl (lv_at hl 1 rfl) ?_
    refine lv_aload_n hx hb dX10_lays_22 rfl (lv_at hl 2 rfl) ?_
    refine va_get (D := D) (ci := 10) (v := .ref m_now) (C := RX10) (T := TX10) (N := 25) hx hb hts (fun _ h => List.mem_cons_of_mem _ (List.mem_append_right _ h)) hown hK hP 0 rfl rfl 0 (by decide) (hts (.fieldLink RX10 7 "LineCitesModel" "now" "[I") (List.mem_of_getElem? (i := 1) rfl)) (fun _ h9 => h9) rfl dX10_lays_23 ?_
    refine lv_iconst (v := 1) hx hb dX10_lays_26 (by decide) ?_
    refine va_iald hx hb hK hP 1 0 rfl rfl (vp_in_iff.mpr (by decide)) dX10_lays_27 ?_
    refine lv_topi (fun x144 ex144 => ?_)
    have nx144 : 0 ≤ x144.toInt ∧ x144.toInt ≤ 5 := gV_1 hg_now ex144
    refine lv_icmp_ge (tgt := 55) hx hb dX10_lays_28 (by decide) (fun c145 => ?_) (fun c145 => ?_)
    · have nc145 : x144.toInt ≤ x142.toInt := pw_le c145 rfl rfl
      have mc145x142 := pw_max x142
      have mc145x144 := pw_max x144
      refine lv_ldc hx hb hown (hts (.constant RX10 61 (-1000000)) (List.mem_of_getElem? (i := 2) rfl)) dX10_lays_55 ?_
      refine lv_istore (lv' := [(4, .int (-1000000)), (3, .int x143), (2, .int x142), (0, .ref h0), (1, .int v137)]) hx hb dX10_lays_57 hl (by decide) rfl (fun ls hl => ?_)
      refine lv_aload_n hx hb dX10_lays_59 rfl (lv_at hl 3 rfl) ?_
      refine va_get (D := D) (ci := 10) (v := .ref m_low) (C := RX10) (T := TX10) (N := 25) hx hb hts (fun _ h => List.mem_cons_of_mem _ (List.mem_append_right _ h)) hown hK hP 0 rfl rfl 15 (by decide) (hts (.fieldLink RX10 29 "LineCitesModel" "low" "[I") (List.mem_of_getElem? (i := 3) rfl)) (fun _ h9 => h9) rfl dX10_lays_60 ?_
      refine lv_iload_n hx hb dX10_lays_63 rfl (lv_at hl 4 rfl) ?_
      refine lv_iconst (v := 0) hx hb dX10_lays_64 (by decide) ?_
      refine va_iast hx hb hK hP hD hS 2 0 rfl rfl (vp_in_iff.mpr ⟨by omega, by omega⟩) dX10_lays_65 (fun H locs hP hD hS => ?_)
      obtain ⟨g146, eg146⟩ : ∃ g : Nat → Int32, g = upd f138 (v137 : Int32).toNatClampNeg 0 := ⟨_, rfl⟩
      have hP : va_P D vwCl [(h0, .inr (10, [.ref m_now, .ref m_draft, .ref m_past, .int j_acts, .ref m_images, .ref m_kept, .ref m_tape, .int j_taped, .int j_at, .int j_start, .int j_token, .int j_value, .int j_fault, .int j_place, .int j_latest, .ref m_low, .ref m_high, .ref m_first, .ref m_second, .ref m_lines, .ref m_others, .int j_shiftFirst, .int j_shiftMany, .int j_shiftLow, .int j_shiftHigh])), (m_now, .inl (kI, 192, .inl g_now)), (m_low, .inl (kI, 1000, .inl (upd f138 (v137 : Int32).toNatClampNeg 0))), (m_high, .inl (kI, 1000, .inl f139))] H := hP
      have hD : va_D A [(h0, .inr (10, [.ref m_now, .ref m_draft, .ref m_past, .int j_acts, .ref m_images, .ref m_kept, .ref m_tape, .int j_taped, .int j_at, .int j_start, .int j_token, .int j_value, .int j_fault, .int j_place, .int j_latest, .ref m_low, .ref m_high, .ref m_first, .ref m_second, .ref m_lines, .ref m_others, .int j_shiftFirst, .int j_shiftMany, .int j_shiftLow, .int j_shiftHigh])), (m_now, .inl (kI, 192, .inl g_now)), (m_low, .inl (kI, 1000, .inl (upd f138 (v137 : Int32).toNatClampNeg 0))), (m_high, .inl (kI, 1000, .inl f139))] := hD
      have hK : va_K D vwCl [(kI, .int)] s := hK
      rw [← eg146] at hP hD
      have hg146 : bP g146 := bP_upd hf138 eg146 (by decide) (by decide)
      refine lv_aload_n hx hb dX10_lays_66 rfl (lv_at hl 3 rfl) ?_
      refine va_get (D := D) (ci := 10) (v := .ref m_high) (C := RX10) (T := TX10) (N := 25) hx hb hts (fun _ h => List.mem_cons_of_mem _ (List.mem_append_right _ h)) hown hK hP 0 rfl rfl 16 (by decide) (hts (.fieldLink RX10 32 "LineCitesModel" "high" "[I") (List.mem_of_getElem? (i := 4) rfl)) (fun _ h9 => h9) rfl dX10_lays_67 ?_
      refine lv_iload_n hx hb dX10_lays_70 rfl (lv_at hl 4 rfl) ?_
      refine lv_iconst (v := 0) hx hb dX10_lays_71 (by decide) ?_
      refine va_iast hx hb hK hP hD hS 3 0 rfl rfl (vp_in_iff.mpr ⟨by omega, by omega⟩) dX10_lays_72 (fun H locs hP hD hS => ?_)
      obtain ⟨g147, eg147⟩ : ∃ g : Nat → Int32, g = upd f139 (v137 : Int32).toNatClampNeg 0 := ⟨_, rfl⟩
      have hP : va_P D vwCl [(h0, .inr (10, [.ref m_now, .ref m_draft, .ref m_past, .int j_acts, .ref m_images, .ref m_kept, .ref m_tape, .int j_taped, .int j_at, .int j_start, .int j_token, .int j_value, .int j_fault, .int j_place, .int j_latest, .ref m_low, .ref m_high, .ref m_first, .ref m_second, .ref m_lines, .ref m_others, .int j_shiftFirst, .int j_shiftMany, .int j_shiftLow, .int j_shiftHigh])), (m_now, .inl (kI, 192, .inl g_now)), (m_low, .inl (kI, 1000, .inl g146)), (m_high, .inl (kI, 1000, .inl (upd f139 (v137 : Int32).toNatClampNeg 0)))] H := hP
      have hD : va_D A [(h0, .inr (10, [.ref m_now, .ref m_draft, .ref m_past, .int j_acts, .ref m_images, .ref m_kept, .ref m_tape, .int j_taped, .int j_at, .int j_start, .int j_token, .int j_value, .int j_fault, .int j_place, .int j_latest, .ref m_low, .ref m_high, .ref m_first, .ref m_second, .ref m_lines, .ref m_others, .int j_shiftFirst, .int j_shiftMany, .int j_shiftLow, .int j_shiftHigh])), (m_now, .inl (kI, 192, .inl g_now)), (m_low, .inl (kI, 1000, .inl g146)), (m_high, .inl (kI, 1000, .inl (upd f139 (v137 : Int32).toNatClampNeg 0)))] := hD
      have hK : va_K D vwCl [(kI, .int)] s := hK
      rw [← eg147] at hP hD
      have hg147 : bP g147 := bP_upd hf139 eg147 (by decide) (by decide)
      refine lv_iload hx hb dX10_lays_73 (lv_at hl 0 rfl) ?_
      refine lv_ldc hx hb hown (hts (.constant RX10 61 (-1000000)) (List.mem_of_getElem? (i := 2) rfl)) dX10_lays_75 ?_
      refine lv_icmp_eq (tgt := 221) hx hb dX10_lays_77 (by decide) (fun c148 => ?_) (fun c148 => absurd (by decide) c148)
      obtain ⟨x149, ex149⟩ : ∃ y : Int32, y = v137 + 1 := ⟨_, rfl⟩
      have tx149 : x149.toInt = v137.toInt + 1 := pw_addX ex149 rfl (by decide) (by omega) (by omega)
      refine lv_iinc (v := x149) (lv' := [(1, .int x149), (4, .int (-1000000)), (3, .int x143), (2, .int x142), (0, .ref h0)]) hx hb dX10_lays_221 hl (k := 4) rfl (by rw [ex149]; rfl) (by decide) rfl (fun ls hl => ?_)
      refine lv_goto (tgt := 2) hx hb dX10_lays_224 (by decide) ?_
      have hP9 : va_P D vwCl [(h0, .inr (10, [.ref m_now, .ref m_draft, .ref m_past, .int j_acts, .ref m_images, .ref m_kept, .ref m_tape, .int j_taped, .int j_at, .int j_start, .int j_token, .int j_value, .int j_fault, .int j_place, .int j_latest, .ref m_low, .ref m_high, .ref m_first, .ref m_second, .ref m_lines, .ref m_others, .int j_shiftFirst, .int j_shiftMany, .int j_shiftLow, .int j_shiftHigh])), (m_now, .inl (kI, 192, .inl g_now)), (m_low, .inl (kI, 1000, .inl g146)), (m_high, .inl (kI, 1000, .inl g147))] H := hP.sub [0, 1, 2, 3] rfl
      have hD9 : va_D A [(h0, .inr (10, [.ref m_now, .ref m_draft, .ref m_past, .int j_acts, .ref m_images, .ref m_kept, .ref m_tape, .int j_taped, .int j_at, .int j_start, .int j_token, .int j_value, .int j_fault, .int j_place, .int j_latest, .ref m_low, .ref m_high, .ref m_first, .ref m_second, .ref m_lines, .ref m_others, .int j_shiftFirst, .int j_shiftMany, .int j_shiftLow, .int j_shiftHigh])), (m_now, .inl (kI, 192, .inl g_now)), (m_low, .inl (kI, 1000, .inl g146)), (m_high, .inl (kI, 1000, .inl g147))] := hD.sub [0, 1, 2, 3] (by decide) rfl
      have hl9 : lv_has ls 9 [(0, .ref h0), (1, .int x149)] := lv_sub hl [4, 0] rfl
      refine W.widen (k := 0) (n := 0) (Nat.le_of_ble_eq_true rfl) (Nat.le_of_ble_eq_true rfl) ?_
      exact ih140 (x149, g146, g147) _ _ _ (pw_up ex149 (by omega)) ⟨hP9, hD9, hS, hl9, hg146, hg147, (pw_upge ex149 (by omega) (by omega))⟩
    · have nc145 : x142.toInt < x144.toInt := pw_nle c145 rfl rfl
      have mc145x142 := pw_max x142
      have mc145x144 := pw_max x144
      refine lv_iload_n hx hb dX10_lays_31 rfl (lv_at hl 0 rfl) ?_
      refine lv_aload_n hx hb dX10_lays_32 rfl (lv_at hl 2 rfl) ?_
      refine va_get (D := D) (ci := 10) (v := .ref m_now) (C := RX10) (T := TX10) (N := 25) hx hb hts (fun _ h => List.mem_cons_of_mem _ (List.mem_append_right _ h)) hown hK hP 0 rfl rfl 0 (by decide) (hts (.fieldLink RX10 7 "LineCitesModel" "now" "[I") (List.mem_of_getElem? (i := 1) rfl)) (fun _ h9 => h9) rfl dX10_lays_33 ?_
      refine lv_iconst (v := 0) hx hb dX10_lays_36 (by decide) ?_
      refine va_iald hx hb hK hP 1 0 rfl rfl (vp_in_iff.mpr (by decide)) dX10_lays_37 ?_
      refine lv_topi (fun x150 ex150 => ?_)
      have nx150 : 0 ≤ x150.toInt ∧ x150.toInt ≤ 200 := gV_0 hg_now ex150
      have zx150 := gV_00 ex150
      refine lv_icmp_ge (tgt := 55) hx hb dX10_lays_38 (by decide) (fun c151 => ?_) (fun c151 => ?_)
      · have nc151 : x150.toInt ≤ x143.toInt := pw_le c151 rfl rfl
        have mc151x143 := pw_max x143
        have mc151x150 := pw_max x150
        refine lv_ldc hx hb hown (hts (.constant RX10 61 (-1000000)) (List.mem_of_getElem? (i := 2) rfl)) dX10_lays_55 ?_
        refine lv_istore (lv' := [(4, .int (-1000000)), (3, .int x143), (2, .int x142), (0, .ref h0), (1, .int v137)]) hx hb dX10_lays_57 hl (by decide) rfl (fun ls hl => ?_)
        refine lv_aload_n hx hb dX10_lays_59 rfl (lv_at hl 3 rfl) ?_
        refine va_get (D := D) (ci := 10) (v := .ref m_low) (C := RX10) (T := TX10) (N := 25) hx hb hts (fun _ h => List.mem_cons_of_mem _ (List.mem_append_right _ h)) hown hK hP 0 rfl rfl 15 (by decide) (hts (.fieldLink RX10 29 "LineCitesModel" "low" "[I") (List.mem_of_getElem? (i := 3) rfl)) (fun _ h9 => h9) rfl dX10_lays_60 ?_
        refine lv_iload_n hx hb dX10_lays_63 rfl (lv_at hl 4 rfl) ?_
        refine lv_iconst (v := 0) hx hb dX10_lays_64 (by decide) ?_
        refine va_iast hx hb hK hP hD hS 2 0 rfl rfl (vp_in_iff.mpr ⟨by omega, by omega⟩) dX10_lays_65 (fun H locs hP hD hS => ?_)
        obtain ⟨g152, eg152⟩ : ∃ g : Nat → Int32, g = upd f138 (v137 : Int32).toNatClampNeg 0 := ⟨_, rfl⟩
        have hP : va_P D vwCl [(h0, .inr (10, [.ref m_now, .ref m_draft, .ref m_past, .int j_acts, .ref m_images, .ref m_kept, .ref m_tape, .int j_taped, .int j_at, .int j_start, .int j_token, .int j_value, .int j_fault, .int j_place, .int j_latest, .ref m_low, .ref m_high, .ref m_first, .ref m_second, .ref m_lines, .ref m_others, .int j_shiftFirst, .int j_shiftMany, .int j_shiftLow, .int j_shiftHigh])), (m_now, .inl (kI, 192, .inl g_now)), (m_low, .inl (kI, 1000, .inl (upd f138 (v137 : Int32).toNatClampNeg 0))), (m_high, .inl (kI, 1000, .inl f139))] H := hP
        have hD : va_D A [(h0, .inr (10, [.ref m_now, .ref m_draft, .ref m_past, .int j_acts, .ref m_images, .ref m_kept, .ref m_tape, .int j_taped, .int j_at, .int j_start, .int j_token, .int j_value, .int j_fault, .int j_place, .int j_latest, .ref m_low, .ref m_high, .ref m_first, .ref m_second, .ref m_lines, .ref m_others, .int j_shiftFirst, .int j_shiftMany, .int j_shiftLow, .int j_shiftHigh])), (m_now, .inl (kI, 192, .inl g_now)), (m_low, .inl (kI, 1000, .inl (upd f138 (v137 : Int32).toNatClampNeg 0))), (m_high, .inl (kI, 1000, .inl f139))] := hD
        have hK : va_K D vwCl [(kI, .int)] s := hK
        rw [← eg152] at hP hD
        have hg152 : bP g152 := bP_upd hf138 eg152 (by decide) (by decide)
        refine lv_aload_n hx hb dX10_lays_66 rfl (lv_at hl 3 rfl) ?_
        refine va_get (D := D) (ci := 10) (v := .ref m_high) (C := RX10) (T := TX10) (N := 25) hx hb hts (fun _ h => List.mem_cons_of_mem _ (List.mem_append_right _ h)) hown hK hP 0 rfl rfl 16 (by decide) (hts (.fieldLink RX10 32 "LineCitesModel" "high" "[I") (List.mem_of_getElem? (i := 4) rfl)) (fun _ h9 => h9) rfl dX10_lays_67 ?_
        refine lv_iload_n hx hb dX10_lays_70 rfl (lv_at hl 4 rfl) ?_
        refine lv_iconst (v := 0) hx hb dX10_lays_71 (by decide) ?_
        refine va_iast hx hb hK hP hD hS 3 0 rfl rfl (vp_in_iff.mpr ⟨by omega, by omega⟩) dX10_lays_72 (fun H locs hP hD hS => ?_)
        obtain ⟨g153, eg153⟩ : ∃ g : Nat → Int32, g = upd f139 (v137 : Int32).toNatClampNeg 0 := ⟨_, rfl⟩
        have hP : va_P D vwCl [(h0, .inr (10, [.ref m_now, .ref m_draft, .ref m_past, .int j_acts, .ref m_images, .ref m_kept, .ref m_tape, .int j_taped, .int j_at, .int j_start, .int j_token, .int j_value, .int j_fault, .int j_place, .int j_latest, .ref m_low, .ref m_high, .ref m_first, .ref m_second, .ref m_lines, .ref m_others, .int j_shiftFirst, .int j_shiftMany, .int j_shiftLow, .int j_shiftHigh])), (m_now, .inl (kI, 192, .inl g_now)), (m_low, .inl (kI, 1000, .inl g152)), (m_high, .inl (kI, 1000, .inl (upd f139 (v137 : Int32).toNatClampNeg 0)))] H := hP
        have hD : va_D A [(h0, .inr (10, [.ref m_now, .ref m_draft, .ref m_past, .int j_acts, .ref m_images, .ref m_kept, .ref m_tape, .int j_taped, .int j_at, .int j_start, .int j_token, .int j_value, .int j_fault, .int j_place, .int j_latest, .ref m_low, .ref m_high, .ref m_first, .ref m_second, .ref m_lines, .ref m_others, .int j_shiftFirst, .int j_shiftMany, .int j_shiftLow, .int j_shiftHigh])), (m_now, .inl (kI, 192, .inl g_now)), (m_low, .inl (kI, 1000, .inl g152)), (m_high, .inl (kI, 1000, .inl (upd f139 (v137 : Int32).toNatClampNeg 0)))] := hD
        have hK : va_K D vwCl [(kI, .int)] s := hK
        rw [← eg153] at hP hD
        have hg153 : bP g153 := bP_upd hf139 eg153 (by decide) (by decide)
        refine lv_iload hx hb dX10_lays_73 (lv_at hl 0 rfl) ?_
        refine lv_ldc hx hb hown (hts (.constant RX10 61 (-1000000)) (List.mem_of_getElem? (i := 2) rfl)) dX10_lays_75 ?_
        refine lv_icmp_eq (tgt := 221) hx hb dX10_lays_77 (by decide) (fun c154 => ?_) (fun c154 => absurd (by decide) c154)
        obtain ⟨x155, ex155⟩ : ∃ y : Int32, y = v137 + 1 := ⟨_, rfl⟩
        have tx155 : x155.toInt = v137.toInt + 1 := pw_addX ex155 rfl (by decide) (by omega) (by omega)
        refine lv_iinc (v := x155) (lv' := [(1, .int x155), (4, .int (-1000000)), (3, .int x143), (2, .int x142), (0, .ref h0)]) hx hb dX10_lays_221 hl (k := 4) rfl (by rw [ex155]; rfl) (by decide) rfl (fun ls hl => ?_)
        refine lv_goto (tgt := 2) hx hb dX10_lays_224 (by decide) ?_
        have hP9 : va_P D vwCl [(h0, .inr (10, [.ref m_now, .ref m_draft, .ref m_past, .int j_acts, .ref m_images, .ref m_kept, .ref m_tape, .int j_taped, .int j_at, .int j_start, .int j_token, .int j_value, .int j_fault, .int j_place, .int j_latest, .ref m_low, .ref m_high, .ref m_first, .ref m_second, .ref m_lines, .ref m_others, .int j_shiftFirst, .int j_shiftMany, .int j_shiftLow, .int j_shiftHigh])), (m_now, .inl (kI, 192, .inl g_now)), (m_low, .inl (kI, 1000, .inl g152)), (m_high, .inl (kI, 1000, .inl g153))] H := hP.sub [0, 1, 2, 3] rfl
        have hD9 : va_D A [(h0, .inr (10, [.ref m_now, .ref m_draft, .ref m_past, .int j_acts, .ref m_images, .ref m_kept, .ref m_tape, .int j_taped, .int j_at, .int j_start, .int j_token, .int j_value, .int j_fault, .int j_place, .int j_latest, .ref m_low, .ref m_high, .ref m_first, .ref m_second, .ref m_lines, .ref m_others, .int j_shiftFirst, .int j_shiftMany, .int j_shiftLow, .int j_shiftHigh])), (m_now, .inl (kI, 192, .inl g_now)), (m_low, .inl (kI, 1000, .inl g152)), (m_high, .inl (kI, 1000, .inl g153))] := hD.sub [0, 1, 2, 3] (by decide) rfl
        have hl9 : lv_has ls 9 [(0, .ref h0), (1, .int x155)] := lv_sub hl [4, 0] rfl
        refine W.widen (k := 0) (n := 0) (Nat.le_of_ble_eq_true rfl) (Nat.le_of_ble_eq_true rfl) ?_
        exact ih140 (x155, g152, g153) _ _ _ (pw_up ex155 (by omega)) ⟨hP9, hD9, hS, hl9, hg152, hg153, (pw_upge ex155 (by omega) (by omega))⟩
      · have nc151 : x143.toInt < x150.toInt := pw_nle c151 rfl rfl
        have mc151x143 := pw_max x143
        have mc151x150 := pw_max x150
        refine lv_aload_n hx hb dX10_lays_41 rfl (lv_at hl 2 rfl) ?_
        refine va_get (D := D) (ci := 10) (v := .ref m_now) (C := RX10) (T := TX10) (N := 25) hx hb hts (fun _ h => List.mem_cons_of_mem _ (List.mem_append_right _ h)) hown hK hP 0 rfl rfl 0 (by decide) (hts (.fieldLink RX10 7 "LineCitesModel" "now" "[I") (List.mem_of_getElem? (i := 1) rfl)) (fun _ h9 => h9) rfl dX10_lays_42 ?_
        refine lv_iload_n hx hb dX10_lays_45 rfl (lv_at hl 1 rfl) ?_
        refine lv_iload_n hx hb dX10_lays_46 rfl (lv_at hl 0 rfl) ?_
        refine lv_ldc hx hb hown (hts (.constant RX10 61 (-1000000)) (List.mem_of_getElem? (i := 2) rfl)) dX10_lays_47 ?_
        have kkm1000000 : ((-1000000) : Int32).toInt = (-1000000) := by decide
        have hPc := hP.sub (ws' := [(m_now, .inl (kI, 192, .inl g_now))]) [1] rfl
        have hKc := hK.sub (tys' := [(kI, .int)]) [0] rfl
        refine va_calli (va_runS (As := [.ref m_now, .int x142, .int x143, .int (-1000000)]) (rest := []) ⟨hx, hb, hml, hown, hts⟩ (c_X10_stretchOf l D m_now x142 x143 (-1000000) kI g_now x142.toInt.toNat (by first | omega | decide | (have hz0 : (0 : Int32).toInt = 0 := (by decide); omega)) (by first | decide | omega) (by first | decide | omega) hg_now) (cwS 4 hts g_X10_lays_X10_stretchOf rfl rfl rfl (by decide +kernel) ⟨Nat.le_of_ble_eq_true rfl, Nat.le_of_ble_eq_true rfl⟩) ⟨fun a U g mk q => by obtain ⟨q0, qP, qK⟩ := q; exact ⟨q0, qP, va_K.moved (u := U) (U := U.calling g mk a) (Vm.Alike.refl U.vm) qK⟩, fun U hU hW => ⟨rfl, by rw [hU]; exact hPc, va_K.moved hW.alike hKc⟩⟩ rfl rfl hl.1 rfl (lv_room (Nat.le_of_ble_eq_true rfl)) dX10_lays_49 ⟨Nat.le_of_ble_eq_true rfl, Nat.le_of_ble_eq_true rfl⟩) hS (fun _ _ h => h.elim) (fun _ h => h.elim) (fun r156 u t H1 locs ht hvm hw hB hz1 hk1 hS => ?_)
        have hP := pw_keep hP (fun q hq => hk1 q hq (fun h => h))
        generalize H1 = H at hP hS ⊢
        refine W.widen (k := 0) (n := 0) (Nat.le_of_ble_eq_true rfl) (Nat.le_of_ble_eq_true rfl) ?_
        have hfr156 := hw
        refine lv_goto (tgt := 57) hx hb dX10_lays_52 (by decide) ?_
        refine lv_istore (lv' := [(4, .int r156), (3, .int x143), (2, .int x142), (0, .ref h0), (1, .int v137)]) hx hb dX10_lays_57 hl (by decide) rfl (fun ls hl => ?_)
        refine lv_aload_n hx hb dX10_lays_59 rfl (lv_at hl 3 rfl) ?_
        refine va_get (D := D) (ci := 10) (v := .ref m_low) (C := RX10) (T := TX10) (N := 25) hx hb hts (fun _ h => List.mem_cons_of_mem _ (List.mem_append_right _ h)) hown hK hP 0 rfl rfl 15 (by decide) (hts (.fieldLink RX10 29 "LineCitesModel" "low" "[I") (List.mem_of_getElem? (i := 3) rfl)) (fun _ h9 => h9) rfl dX10_lays_60 ?_
        refine lv_iload_n hx hb dX10_lays_63 rfl (lv_at hl 4 rfl) ?_
        refine lv_iconst (v := 0) hx hb dX10_lays_64 (by decide) ?_
        refine va_iast hx hb hK hP hD hS 2 0 rfl rfl (vp_in_iff.mpr ⟨by omega, by omega⟩) dX10_lays_65 (fun H locs hP hD hS => ?_)
        obtain ⟨g157, eg157⟩ : ∃ g : Nat → Int32, g = upd f138 (v137 : Int32).toNatClampNeg 0 := ⟨_, rfl⟩
        have hP : va_P D vwCl [(h0, .inr (10, [.ref m_now, .ref m_draft, .ref m_past, .int j_acts, .ref m_images, .ref m_kept, .ref m_tape, .int j_taped, .int j_at, .int j_start, .int j_token, .int j_value, .int j_fault, .int j_place, .int j_latest, .ref m_low, .ref m_high, .ref m_first, .ref m_second, .ref m_lines, .ref m_others, .int j_shiftFirst, .int j_shiftMany, .int j_shiftLow, .int j_shiftHigh])), (m_now, .inl (kI, 192, .inl g_now)), (m_low, .inl (kI, 1000, .inl (upd f138 (v137 : Int32).toNatClampNeg 0))), (m_high, .inl (kI, 1000, .inl f139))] H := hP
        have hD : va_D A [(h0, .inr (10, [.ref m_now, .ref m_draft, .ref m_past, .int j_acts, .ref m_images, .ref m_kept, .ref m_tape, .int j_taped, .int j_at, .int j_start, .int j_token, .int j_value, .int j_fault, .int j_place, .int j_latest, .ref m_low, .ref m_high, .ref m_first, .ref m_second, .ref m_lines, .ref m_others, .int j_shiftFirst, .int j_shiftMany, .int j_shiftLow, .int j_shiftHigh])), (m_now, .inl (kI, 192, .inl g_now)), (m_low, .inl (kI, 1000, .inl (upd f138 (v137 : Int32).toNatClampNeg 0))), (m_high, .inl (kI, 1000, .inl f139))] := hD
        have hK : va_K D vwCl [(kI, .int)] s := hK
        rw [← eg157] at hP hD
        have hg157 : bP g157 := bP_upd hf138 eg157 (by decide) (by decide)
        refine lv_aload_n hx hb dX10_lays_66 rfl (lv_at hl 3 rfl) ?_
        refine va_get (D := D) (ci := 10) (v := .ref m_high) (C := RX10) (T := TX10) (N := 25) hx hb hts (fun _ h => List.mem_cons_of_mem _ (List.mem_append_right _ h)) hown hK hP 0 rfl rfl 16 (by decide) (hts (.fieldLink RX10 32 "LineCitesModel" "high" "[I") (List.mem_of_getElem? (i := 4) rfl)) (fun _ h9 => h9) rfl dX10_lays_67 ?_
        refine lv_iload_n hx hb dX10_lays_70 rfl (lv_at hl 4 rfl) ?_
        refine lv_iconst (v := 0) hx hb dX10_lays_71 (by decide) ?_
        refine va_iast hx hb hK hP hD hS 3 0 rfl rfl (vp_in_iff.mpr ⟨by omega, by omega⟩) dX10_lays_72 (fun H locs hP hD hS => ?_)
        obtain ⟨g158, eg158⟩ : ∃ g : Nat → Int32, g = upd f139 (v137 : Int32).toNatClampNeg 0 := ⟨_, rfl⟩
        have hP : va_P D vwCl [(h0, .inr (10, [.ref m_now, .ref m_draft, .ref m_past, .int j_acts, .ref m_images, .ref m_kept, .ref m_tape, .int j_taped, .int j_at, .int j_start, .int j_token, .int j_value, .int j_fault, .int j_place, .int j_latest, .ref m_low, .ref m_high, .ref m_first, .ref m_second, .ref m_lines, .ref m_others, .int j_shiftFirst, .int j_shiftMany, .int j_shiftLow, .int j_shiftHigh])), (m_now, .inl (kI, 192, .inl g_now)), (m_low, .inl (kI, 1000, .inl g157)), (m_high, .inl (kI, 1000, .inl (upd f139 (v137 : Int32).toNatClampNeg 0)))] H := hP
        have hD : va_D A [(h0, .inr (10, [.ref m_now, .ref m_draft, .ref m_past, .int j_acts, .ref m_images, .ref m_kept, .ref m_tape, .int j_taped, .int j_at, .int j_start, .int j_token, .int j_value, .int j_fault, .int j_place, .int j_latest, .ref m_low, .ref m_high, .ref m_first, .ref m_second, .ref m_lines, .ref m_others, .int j_shiftFirst, .int j_shiftMany, .int j_shiftLow, .int j_shiftHigh])), (m_now, .inl (kI, 192, .inl g_now)), (m_low, .inl (kI, 1000, .inl g157)), (m_high, .inl (kI, 1000, .inl (upd f139 (v137 : Int32).toNatClampNeg 0)))] := hD
        have hK : va_K D vwCl [(kI, .int)] s := hK
        rw [← eg158] at hP hD
        have hg158 : bP g158 := bP_upd hf139 eg158 (by decide) (by decide)
        refine lv_iload hx hb dX10_lays_73 (lv_at hl 0 rfl) ?_
        refine lv_ldc hx hb hown (hts (.constant RX10 61 (-1000000)) (List.mem_of_getElem? (i := 2) rfl)) dX10_lays_75 ?_
        refine lv_icmp_eq (tgt := 221) hx hb dX10_lays_77 (by decide) (fun c159 => ?_) (fun c159 => ?_)
        · have nc159 : r156.toInt = (-1000000) := pw_eq c159 rfl (by decide)
          obtain ⟨x160, ex160⟩ : ∃ y : Int32, y = v137 + 1 := ⟨_, rfl⟩
          have tx160 : x160.toInt = v137.toInt + 1 := pw_addX ex160 rfl (by decide) (by omega) (by omega)
          refine lv_iinc (v := x160) (lv' := [(1, .int x160), (4, .int r156), (3, .int x143), (2, .int x142), (0, .ref h0)]) hx hb dX10_lays_221 hl (k := 4) rfl (by rw [ex160]; rfl) (by decide) rfl (fun ls hl => ?_)
          refine lv_goto (tgt := 2) hx hb dX10_lays_224 (by decide) ?_
          have hP9 : va_P D vwCl [(h0, .inr (10, [.ref m_now, .ref m_draft, .ref m_past, .int j_acts, .ref m_images, .ref m_kept, .ref m_tape, .int j_taped, .int j_at, .int j_start, .int j_token, .int j_value, .int j_fault, .int j_place, .int j_latest, .ref m_low, .ref m_high, .ref m_first, .ref m_second, .ref m_lines, .ref m_others, .int j_shiftFirst, .int j_shiftMany, .int j_shiftLow, .int j_shiftHigh])), (m_now, .inl (kI, 192, .inl g_now)), (m_low, .inl (kI, 1000, .inl g157)), (m_high, .inl (kI, 1000, .inl g158))] H := hP.sub [0, 1, 2, 3] rfl
          have hD9 : va_D A [(h0, .inr (10, [.ref m_now, .ref m_draft, .ref m_past, .int j_acts, .ref m_images, .ref m_kept, .ref m_tape, .int j_taped, .int j_at, .int j_start, .int j_token, .int j_value, .int j_fault, .int j_place, .int j_latest, .ref m_low, .ref m_high, .ref m_first, .ref m_second, .ref m_lines, .ref m_others, .int j_shiftFirst, .int j_shiftMany, .int j_shiftLow, .int j_shiftHigh])), (m_now, .inl (kI, 192, .inl g_now)), (m_low, .inl (kI, 1000, .inl g157)), (m_high, .inl (kI, 1000, .inl g158))] := hD.sub [0, 1, 2, 3] (by decide) rfl
          have hl9 : lv_has ls 9 [(0, .ref h0), (1, .int x160)] := lv_sub hl [4, 0] rfl
          refine W.widen (k := 0) (n := 0) (Nat.le_of_ble_eq_true rfl) (Nat.le_of_ble_eq_true rfl) ?_
          exact ih140 (x160, g157, g158) _ _ _ (pw_up ex160 (by omega)) ⟨hP9, hD9, hS, hl9, hg157, hg158, (pw_upge ex160 (by omega) (by omega))⟩
        · have nc159 : r156.toInt ≠ (-1000000) := pw_ne c159 rfl (by decide)
          have hsi := soR_in hfr156 (by omega)
          have hcm := (hg_now.hm x142.toInt.toNat (by omega)).2
          have hvs := hg_now.hs x142.toInt.toNat r156.toInt.toNat (by omega) (by omega)
          unfold gS vS at hvs
          refine lv_aload_n hx hb dX10_lays_80 rfl (lv_at hl 3 rfl) ?_
          refine va_get (D := D) (ci := 10) (v := .ref m_now) (C := RX10) (T := TX10) (N := 25) hx hb hts (fun _ h => List.mem_cons_of_mem _ (List.mem_append_right _ h)) hown hK hP 0 rfl rfl 0 (by decide) (hts (.fieldLink RX10 7 "LineCitesModel" "now" "[I") (List.mem_of_getElem? (i := 1) rfl)) (fun _ h9 => h9) rfl dX10_lays_81 ?_
          refine lv_iload_n hx hb dX10_lays_84 rfl (lv_at hl 2 rfl) ?_
          refine lv_iload hx hb dX10_lays_85 (lv_at hl 0 rfl) ?_
          refine lv_iconst (v := 0) hx hb dX10_lays_87 (by decide) ?_
          have kk0 : (0 : Int32).toInt = 0 := by decide
          have hPc := hP.sub (ws' := [(m_now, .inl (kI, 192, .inl g_now))]) [1] rfl
          have hKc := hK.sub (tys' := [(kI, .int)]) [0] rfl
          refine va_calli (va_runS (As := [.ref m_now, .int x142, .int r156, .int 0]) (rest := []) ⟨hx, hb, hml, hown, hts⟩ (c_X10_of l D m_now x142 r156 0 kI g_now x142.toInt.toNat r156.toInt.toNat 0 (by first | decide | omega) (by first | decide | omega) (by first | decide | omega) (by first | decide | omega) (by first | decide | omega) (by first | decide | omega) (by first | omega | decide | (have hz0 : (0 : Int32).toInt = 0 := (by decide); omega)) (by first | omega | decide | (have hz0 : (0 : Int32).toInt = 0 := (by decide); omega)) (by first | omega | decide | (have hz0 : (0 : Int32).toInt = 0 := (by decide); omega))) (cwS 4 hts g_X10_lays_X10_of rfl rfl rfl (by decide +kernel) ⟨Nat.le_of_ble_eq_true rfl, Nat.le_of_ble_eq_true rfl⟩) ⟨fun a U g mk q => by obtain ⟨q0, qP, qK⟩ := q; exact ⟨q0, qP, va_K.moved (u := U) (U := U.calling g mk a) (Vm.Alike.refl U.vm) qK⟩, fun U hU hW => ⟨rfl, by rw [hU]; exact hPc, va_K.moved hW.alike hKc⟩⟩ rfl rfl hl.1 rfl (lv_room (Nat.le_of_ble_eq_true rfl)) dX10_lays_88 ⟨Nat.le_of_ble_eq_true rfl, Nat.le_of_ble_eq_true rfl⟩) hS (fun _ _ h => h.elim) (fun _ h => h.elim) (fun r161 u t H1 locs ht hvm hw hB hz1 hk1 hS => ?_)
          have hP := pw_keep hP (fun q hq => hk1 q hq (fun h => h))
          generalize H1 = H at hP hS ⊢
          refine W.widen (k := 0) (n := 0) (Nat.le_of_ble_eq_true rfl) (Nat.le_of_ble_eq_true rfl) ?_
          have hfr161 := hw
          refine lv_istore (lv' := [(5, .int r161), (4, .int r156), (3, .int x143), (2, .int x142), (0, .ref h0), (1, .int v137)]) hx hb dX10_lays_91 hl (by decide) rfl (fun ls hl => ?_)
          refine lv_iload_n hx hb dX10_lays_93 rfl (lv_at hl 2 rfl) ?_
          refine lv_aload_n hx hb dX10_lays_94 rfl (lv_at hl 4 rfl) ?_
          refine va_get (D := D) (ci := 10) (v := .ref m_now) (C := RX10) (T := TX10) (N := 25) hx hb hts (fun _ h => List.mem_cons_of_mem _ (List.mem_append_right _ h)) hown hK hP 0 rfl rfl 0 (by decide) (hts (.fieldLink RX10 7 "LineCitesModel" "now" "[I") (List.mem_of_getElem? (i := 1) rfl)) (fun _ h9 => h9) rfl dX10_lays_95 ?_
          refine lv_iload_n hx hb dX10_lays_98 rfl (lv_at hl 3 rfl) ?_
          refine lv_iload hx hb dX10_lays_99 (lv_at hl 1 rfl) ?_
          refine lv_iconst (v := 1) hx hb dX10_lays_101 (by decide) ?_
          have kk1 : (1 : Int32).toInt = 1 := by decide
          have hPc := hP.sub (ws' := [(m_now, .inl (kI, 192, .inl g_now))]) [1] rfl
          have hKc := hK.sub (tys' := [(kI, .int)]) [0] rfl
          refine va_calli (va_runS (As := [.ref m_now, .int x142, .int r156, .int 1]) (rest := [.int x143]) ⟨hx, hb, hml, hown, hts⟩ (c_X10_of l D m_now x142 r156 1 kI g_now x142.toInt.toNat r156.toInt.toNat 1 (by first | decide | omega) (by first | decide | omega) (by first | decide | omega) (by first | decide | omega) (by first | decide | omega) (by first | decide | omega) (by first | omega | decide | (have hz0 : (0 : Int32).toInt = 0 := (by decide); omega)) (by first | omega | decide | (have hz0 : (0 : Int32).toInt = 0 := (by decide); omega)) (by first | omega | decide | (have hz0 : (0 : Int32).toInt = 0 := (by decide); omega))) (cwS 4 hts g_X10_lays_X10_of rfl rfl rfl (by decide +kernel) ⟨Nat.le_of_ble_eq_true rfl, Nat.le_of_ble_eq_true rfl⟩) ⟨fun a U g mk q => by obtain ⟨q0, qP, qK⟩ := q; exact ⟨q0, qP, va_K.moved (u := U) (U := U.calling g mk a) (Vm.Alike.refl U.vm) qK⟩, fun U hU hW => ⟨rfl, by rw [hU]; exact hPc, va_K.moved hW.alike hKc⟩⟩ rfl rfl hl.1 rfl (lv_room (Nat.le_of_ble_eq_true rfl)) dX10_lays_102 ⟨Nat.le_of_ble_eq_true rfl, Nat.le_of_ble_eq_true rfl⟩) hS (fun _ _ h => h.elim) (fun _ h => h.elim) (fun r162 u t H1 locs ht hvm hw hB hz1 hk1 hS => ?_)
          have hP := pw_keep hP (fun q hq => hk1 q hq (fun h => h))
          generalize H1 = H at hP hS ⊢
          refine W.widen (k := 0) (n := 0) (Nat.le_of_ble_eq_true rfl) (Nat.le_of_ble_eq_true rfl) ?_
          have hfr162 := hw
          refine lv_isub hx hb dX10_lays_105 ?_
          refine lv_topi (fun x163 ex163 => ?_)
          have tx163 : x163.toInt = x143.toInt - r162.toInt := pw_subX ex163 rfl rfl (by omega) (by omega)
          refine lv_istore (lv' := [(6, .int x163), (5, .int r161), (4, .int r156), (3, .int x143), (2, .int x142), (0, .ref h0), (1, .int v137)]) hx hb dX10_lays_106 hl (by decide) rfl (fun ls hl => ?_)
          refine lv_aload_n hx hb dX10_lays_108 rfl (lv_at hl 5 rfl) ?_
          refine va_get (D := D) (ci := 10) (v := .ref m_now) (C := RX10) (T := TX10) (N := 25) hx hb hts (fun _ h => List.mem_cons_of_mem _ (List.mem_append_right _ h)) hown hK hP 0 rfl rfl 0 (by decide) (hts (.fieldLink RX10 7 "LineCitesModel" "now" "[I") (List.mem_of_getElem? (i := 1) rfl)) (fun _ h9 => h9) rfl dX10_lays_109 ?_
          refine lv_iload_n hx hb dX10_lays_112 rfl (lv_at hl 4 rfl) ?_
          refine lv_iload hx hb dX10_lays_113 (lv_at hl 2 rfl) ?_
          refine lv_iconst (v := 3) hx hb dX10_lays_115 (by decide) ?_
          have kk3 : (3 : Int32).toInt = 3 := by decide
          have hPc := hP.sub (ws' := [(m_now, .inl (kI, 192, .inl g_now))]) [1] rfl
          have hKc := hK.sub (tys' := [(kI, .int)]) [0] rfl
          refine va_calli (va_runS (As := [.ref m_now, .int x142, .int r156, .int 3]) (rest := []) ⟨hx, hb, hml, hown, hts⟩ (c_X10_of l D m_now x142 r156 3 kI g_now x142.toInt.toNat r156.toInt.toNat 3 (by first | decide | omega) (by first | decide | omega) (by first | decide | omega) (by first | decide | omega) (by first | decide | omega) (by first | decide | omega) (by first | omega | decide | (have hz0 : (0 : Int32).toInt = 0 := (by decide); omega)) (by first | omega | decide | (have hz0 : (0 : Int32).toInt = 0 := (by decide); omega)) (by first | omega | decide | (have hz0 : (0 : Int32).toInt = 0 := (by decide); omega))) (cwS 4 hts g_X10_lays_X10_of rfl rfl rfl (by decide +kernel) ⟨Nat.le_of_ble_eq_true rfl, Nat.le_of_ble_eq_true rfl⟩) ⟨fun a U g mk q => by obtain ⟨q0, qP, qK⟩ := q; exact ⟨q0, qP, va_K.moved (u := U) (U := U.calling g mk a) (Vm.Alike.refl U.vm) qK⟩, fun U hU hW => ⟨rfl, by rw [hU]; exact hPc, va_K.moved hW.alike hKc⟩⟩ rfl rfl hl.1 rfl (lv_room (Nat.le_of_ble_eq_true rfl)) dX10_lays_116 ⟨Nat.le_of_ble_eq_true rfl, Nat.le_of_ble_eq_true rfl⟩) hS (fun _ _ h => h.elim) (fun _ h => h.elim) (fun r164 u t H1 locs ht hvm hw hB hz1 hk1 hS => ?_)
          have hP := pw_keep hP (fun q hq => hk1 q hq (fun h => h))
          generalize H1 = H at hP hS ⊢
          refine W.widen (k := 0) (n := 0) (Nat.le_of_ble_eq_true rfl) (Nat.le_of_ble_eq_true rfl) ?_
          have hfr164 := hw
          refine lv_istore (lv' := [(7, .int r164), (6, .int x163), (5, .int r161), (4, .int r156), (3, .int x143), (2, .int x142), (0, .ref h0), (1, .int v137)]) hx hb dX10_lays_119 hl (by decide) rfl (fun ls hl => ?_)
          refine lv_aload_n hx hb dX10_lays_121 rfl (lv_at hl 6 rfl) ?_
          refine va_get (D := D) (ci := 10) (v := .ref m_now) (C := RX10) (T := TX10) (N := 25) hx hb hts (fun _ h => List.mem_cons_of_mem _ (List.mem_append_right _ h)) hown hK hP 0 rfl rfl 0 (by decide) (hts (.fieldLink RX10 7 "LineCitesModel" "now" "[I") (List.mem_of_getElem? (i := 1) rfl)) (fun _ h9 => h9) rfl dX10_lays_122 ?_
          refine lv_iload_n hx hb dX10_lays_125 rfl (lv_at hl 5 rfl) ?_
          refine lv_iload hx hb dX10_lays_126 (lv_at hl 3 rfl) ?_
          refine lv_iconst (v := 2) hx hb dX10_lays_128 (by decide) ?_
          have kk2 : (2 : Int32).toInt = 2 := by decide
          have hPc := hP.sub (ws' := [(m_now, .inl (kI, 192, .inl g_now))]) [1] rfl
          have hKc := hK.sub (tys' := [(kI, .int)]) [0] rfl
          refine va_calli (va_runS (As := [.ref m_now, .int x142, .int r156, .int 2]) (rest := []) ⟨hx, hb, hml, hown, hts⟩ (c_X10_of l D m_now x142 r156 2 kI g_now x142.toInt.toNat r156.toInt.toNat 2 (by first | decide | omega) (by first | decide | omega) (by first | decide | omega) (by first | decide | omega) (by first | decide | omega) (by first | decide | omega) (by first | omega | decide | (have hz0 : (0 : Int32).toInt = 0 := (by decide); omega)) (by first | omega | decide | (have hz0 : (0 : Int32).toInt = 0 := (by decide); omega)) (by first | omega | decide | (have hz0 : (0 : Int32).toInt = 0 := (by decide); omega))) (cwS 4 hts g_X10_lays_X10_of rfl rfl rfl (by decide +kernel) ⟨Nat.le_of_ble_eq_true rfl, Nat.le_of_ble_eq_true rfl⟩) ⟨fun a U g mk q => by obtain ⟨q0, qP, qK⟩ := q; exact ⟨q0, qP, va_K.moved (u := U) (U := U.calling g mk a) (Vm.Alike.refl U.vm) qK⟩, fun U hU hW => ⟨rfl, by rw [hU]; exact hPc, va_K.moved hW.alike hKc⟩⟩ rfl rfl hl.1 rfl (lv_room (Nat.le_of_ble_eq_true rfl)) dX10_lays_129 ⟨Nat.le_of_ble_eq_true rfl, Nat.le_of_ble_eq_true rfl⟩) hS (fun _ _ h => h.elim) (fun _ h => h.elim) (fun r165 u t H1 locs ht hvm hw hB hz1 hk1 hS => ?_)
          have hP := pw_keep hP (fun q hq => hk1 q hq (fun h => h))
          generalize H1 = H at hP hS ⊢
          refine W.widen (k := 0) (n := 0) (Nat.le_of_ble_eq_true rfl) (Nat.le_of_ble_eq_true rfl) ?_
          have hfr165 := hw
          refine lv_istore (lv' := [(8, .int r165), (7, .int r164), (6, .int x163), (5, .int r161), (4, .int r156), (3, .int x143), (2, .int x142), (0, .ref h0), (1, .int v137)]) hx hb dX10_lays_132 hl (by decide) rfl (fun ls hl => ?_)
          refine lv_aload_n hx hb dX10_lays_134 rfl (lv_at hl 7 rfl) ?_
          refine va_get (D := D) (ci := 10) (v := .ref m_low) (C := RX10) (T := TX10) (N := 25) hx hb hts (fun _ h => List.mem_cons_of_mem _ (List.mem_append_right _ h)) hown hK hP 0 rfl rfl 15 (by decide) (hts (.fieldLink RX10 29 "LineCitesModel" "low" "[I") (List.mem_of_getElem? (i := 3) rfl)) (fun _ h9 => h9) rfl dX10_lays_135 ?_
          refine lv_iload_n hx hb dX10_lays_138 rfl (lv_at hl 8 rfl) ?_
          refine lv_iload hx hb dX10_lays_139 (lv_at hl 1 rfl) ?_
          refine lv_iload hx hb dX10_lays_141 (lv_at hl 3 rfl) ?_
          refine lv_iconst (v := 2) hx hb dX10_lays_143 (by decide) ?_
          refine lv_icmp_ne (tgt := 154) hx hb dX10_lays_144 (by decide) (fun c166 => ?_) (fun c166 => ?_)
          · have nc166 : r161.toInt ≠ 2 := pw_ne c166 rfl (by decide)
            refine lv_iload hx hb dX10_lays_154 (lv_at hl 3 rfl) ?_
            refine lv_iconst (v := 3) hx hb dX10_lays_156 (by decide) ?_
            refine lv_icmp_ne (tgt := 167) hx hb dX10_lays_157 (by decide) (fun c167 => ?_) (fun c167 => ?_)
            · have nc167 : r161.toInt ≠ 3 := pw_ne c167 rfl (by decide)
              refine lv_iload hx hb dX10_lays_167 (lv_at hl 3 rfl) ?_
              refine lv_iconst (v := 4) hx hb dX10_lays_169 (by decide) ?_
              refine lv_icmp_ne (tgt := 183) hx hb dX10_lays_170 (by decide) (fun c168 => ?_) (fun c168 => ?_)
              · have nc168 : r161.toInt ≠ 4 := pw_ne c168 rfl (by decide)
                refine lv_iload hx hb dX10_lays_183 (lv_at hl 3 rfl) ?_
                refine lv_iconst (v := 5) hx hb dX10_lays_185 (by decide) ?_
                refine lv_icmp_ne (tgt := 193) hx hb dX10_lays_186 (by decide) (fun c169 => ?_) (fun c169 => ?_)
                · have nc169 : r161.toInt ≠ 5 := pw_ne c169 rfl (by decide)
                  refine lv_iload hx hb dX10_lays_193 (lv_at hl 2 rfl) ?_
                  refine lv_iadd hx hb dX10_lays_195 ?_
                  refine lv_topi (fun x170 ex170 => ?_)
                  have tx170 : x170.toInt = r164.toInt + x163.toInt := pw_addX ex170 rfl rfl (by omega) (by omega)
                  refine va_iast hx hb hK hP hD hS 2 0 rfl rfl (vp_in_iff.mpr ⟨by omega, by omega⟩) dX10_lays_196 (fun H locs hP hD hS => ?_)
                  obtain ⟨g171, eg171⟩ : ∃ g : Nat → Int32, g = upd g157 (v137 : Int32).toNatClampNeg x170 := ⟨_, rfl⟩
                  have hP : va_P D vwCl [(h0, .inr (10, [.ref m_now, .ref m_draft, .ref m_past, .int j_acts, .ref m_images, .ref m_kept, .ref m_tape, .int j_taped, .int j_at, .int j_start, .int j_token, .int j_value, .int j_fault, .int j_place, .int j_latest, .ref m_low, .ref m_high, .ref m_first, .ref m_second, .ref m_lines, .ref m_others, .int j_shiftFirst, .int j_shiftMany, .int j_shiftLow, .int j_shiftHigh])), (m_now, .inl (kI, 192, .inl g_now)), (m_low, .inl (kI, 1000, .inl (upd g157 (v137 : Int32).toNatClampNeg x170))), (m_high, .inl (kI, 1000, .inl g158))] H := hP
                  have hD : va_D A [(h0, .inr (10, [.ref m_now, .ref m_draft, .ref m_past, .int j_acts, .ref m_images, .ref m_kept, .ref m_tape, .int j_taped, .int j_at, .int j_start, .int j_token, .int j_value, .int j_fault, .int j_place, .int j_latest, .ref m_low, .ref m_high, .ref m_first, .ref m_second, .ref m_lines, .ref m_others, .int j_shiftFirst, .int j_shiftMany, .int j_shiftLow, .int j_shiftHigh])), (m_now, .inl (kI, 192, .inl g_now)), (m_low, .inl (kI, 1000, .inl (upd g157 (v137 : Int32).toNatClampNeg x170))), (m_high, .inl (kI, 1000, .inl g158))] := hD
                  have hK : va_K D vwCl [(kI, .int)] s := hK
                  rw [← eg171] at hP hD
                  have hg171 : bP g171 := bP_upd hg157 eg171 (by omega) (by omega)
                  refine lv_aload_n hx hb dX10_lays_197 rfl (lv_at hl 7 rfl) ?_
                  refine va_get (D := D) (ci := 10) (v := .ref m_high) (C := RX10) (T := TX10) (N := 25) hx hb hts (fun _ h => List.mem_cons_of_mem _ (List.mem_append_right _ h)) hown hK hP 0 rfl rfl 16 (by decide) (hts (.fieldLink RX10 32 "LineCitesModel" "high" "[I") (List.mem_of_getElem? (i := 4) rfl)) (fun _ h9 => h9) rfl dX10_lays_198 ?_
                  refine lv_iload_n hx hb dX10_lays_201 rfl (lv_at hl 8 rfl) ?_
                  refine lv_aload_n hx hb dX10_lays_202 rfl (lv_at hl 7 rfl) ?_
                  refine va_get (D := D) (ci := 10) (v := .ref m_low) (C := RX10) (T := TX10) (N := 25) hx hb hts (fun _ h => List.mem_cons_of_mem _ (List.mem_append_right _ h)) hown hK hP 0 rfl rfl 15 (by decide) (hts (.fieldLink RX10 29 "LineCitesModel" "low" "[I") (List.mem_of_getElem? (i := 3) rfl)) (fun _ h9 => h9) rfl dX10_lays_203 ?_
                  refine lv_iload_n hx hb dX10_lays_206 rfl (lv_at hl 8 rfl) ?_
                  refine va_iald hx hb hK hP 2 0 rfl rfl (vp_in_iff.mpr ⟨by omega, by omega⟩) dX10_lays_207 ?_
                  refine lv_topi (fun x172 ex172 => ?_)
                  have qx172 : x172.toInt = x170.toInt := by rw [ex172, eg171, upd_eq]
                  have nx172 : 0 ≤ x172.toInt ∧ x172.toInt ≤ 999 := bP_at hg171 ex172
                  refine lv_iload hx hb dX10_lays_208 (lv_at hl 3 rfl) ?_
                  refine lv_iconst (v := 2) hx hb dX10_lays_210 (by decide) ?_
                  refine lv_icmp_ne (tgt := 218) hx hb dX10_lays_211 (by decide) (fun c173 => ?_) (fun c173 => ?_)
                  · have nc173 : r161.toInt ≠ 2 := pw_ne c173 rfl (by decide)
                    refine lv_iconst (v := 0) hx hb dX10_lays_218 (by decide) ?_
                    refine lv_iadd hx hb dX10_lays_219 ?_
                    refine lv_topi (fun x174 ex174 => ?_)
                    have tx174 : x174.toInt = x172.toInt + 0 := pw_addX ex174 rfl (by decide) (by omega) (by omega)
                    refine va_iast hx hb hK hP hD hS 3 0 rfl rfl (vp_in_iff.mpr ⟨by omega, by omega⟩) dX10_lays_220 (fun H locs hP hD hS => ?_)
                    obtain ⟨g175, eg175⟩ : ∃ g : Nat → Int32, g = upd g158 (v137 : Int32).toNatClampNeg x174 := ⟨_, rfl⟩
                    have hP : va_P D vwCl [(h0, .inr (10, [.ref m_now, .ref m_draft, .ref m_past, .int j_acts, .ref m_images, .ref m_kept, .ref m_tape, .int j_taped, .int j_at, .int j_start, .int j_token, .int j_value, .int j_fault, .int j_place, .int j_latest, .ref m_low, .ref m_high, .ref m_first, .ref m_second, .ref m_lines, .ref m_others, .int j_shiftFirst, .int j_shiftMany, .int j_shiftLow, .int j_shiftHigh])), (m_now, .inl (kI, 192, .inl g_now)), (m_low, .inl (kI, 1000, .inl g171)), (m_high, .inl (kI, 1000, .inl (upd g158 (v137 : Int32).toNatClampNeg x174)))] H := hP
                    have hD : va_D A [(h0, .inr (10, [.ref m_now, .ref m_draft, .ref m_past, .int j_acts, .ref m_images, .ref m_kept, .ref m_tape, .int j_taped, .int j_at, .int j_start, .int j_token, .int j_value, .int j_fault, .int j_place, .int j_latest, .ref m_low, .ref m_high, .ref m_first, .ref m_second, .ref m_lines, .ref m_others, .int j_shiftFirst, .int j_shiftMany, .int j_shiftLow, .int j_shiftHigh])), (m_now, .inl (kI, 192, .inl g_now)), (m_low, .inl (kI, 1000, .inl g171)), (m_high, .inl (kI, 1000, .inl (upd g158 (v137 : Int32).toNatClampNeg x174)))] := hD
                    have hK : va_K D vwCl [(kI, .int)] s := hK
                    rw [← eg175] at hP hD
                    have hg175 : bP g175 := bP_upd hg158 eg175 (by omega) (by omega)
                    obtain ⟨x176, ex176⟩ : ∃ y : Int32, y = v137 + 1 := ⟨_, rfl⟩
                    have tx176 : x176.toInt = v137.toInt + 1 := pw_addX ex176 rfl (by decide) (by omega) (by omega)
                    refine lv_iinc (v := x176) (lv' := [(1, .int x176), (8, .int r165), (7, .int r164), (6, .int x163), (5, .int r161), (4, .int r156), (3, .int x143), (2, .int x142), (0, .ref h0)]) hx hb dX10_lays_221 hl (k := 8) rfl (by rw [ex176]; rfl) (by decide) rfl (fun ls hl => ?_)
                    refine lv_goto (tgt := 2) hx hb dX10_lays_224 (by decide) ?_
                    have hP9 : va_P D vwCl [(h0, .inr (10, [.ref m_now, .ref m_draft, .ref m_past, .int j_acts, .ref m_images, .ref m_kept, .ref m_tape, .int j_taped, .int j_at, .int j_start, .int j_token, .int j_value, .int j_fault, .int j_place, .int j_latest, .ref m_low, .ref m_high, .ref m_first, .ref m_second, .ref m_lines, .ref m_others, .int j_shiftFirst, .int j_shiftMany, .int j_shiftLow, .int j_shiftHigh])), (m_now, .inl (kI, 192, .inl g_now)), (m_low, .inl (kI, 1000, .inl g171)), (m_high, .inl (kI, 1000, .inl g175))] H := hP.sub [0, 1, 2, 3] rfl
                    have hD9 : va_D A [(h0, .inr (10, [.ref m_now, .ref m_draft, .ref m_past, .int j_acts, .ref m_images, .ref m_kept, .ref m_tape, .int j_taped, .int j_at, .int j_start, .int j_token, .int j_value, .int j_fault, .int j_place, .int j_latest, .ref m_low, .ref m_high, .ref m_first, .ref m_second, .ref m_lines, .ref m_others, .int j_shiftFirst, .int j_shiftMany, .int j_shiftLow, .int j_shiftHigh])), (m_now, .inl (kI, 192, .inl g_now)), (m_low, .inl (kI, 1000, .inl g171)), (m_high, .inl (kI, 1000, .inl g175))] := hD.sub [0, 1, 2, 3] (by decide) rfl
                    have hl9 : lv_has ls 9 [(0, .ref h0), (1, .int x176)] := lv_sub hl [8, 0] rfl
                    refine W.widen (k := 0) (n := 0) (Nat.le_of_ble_eq_true rfl) (Nat.le_of_ble_eq_true rfl) ?_
                    exact ih140 (x176, g171, g175) _ _ _ (pw_up ex176 (by omega)) ⟨hP9, hD9, hS, hl9, hg171, hg175, (pw_upge ex176 (by omega) (by omega))⟩
                  · have nc173 : r161.toInt = 2 := pw_eq c173 rfl (by decide)
                    refine lv_iconst (v := 1) hx hb dX10_lays_214 (by decide) ?_
                    refine lv_goto (tgt := 219) hx hb dX10_lays_215 (by decide) ?_
                    refine lv_iadd hx hb dX10_lays_219 ?_
                    refine lv_topi (fun x177 ex177 => ?_)
                    have tx177 : x177.toInt = x172.toInt + 1 := pw_addX ex177 rfl (by decide) (by omega) (by omega)
                    refine va_iast hx hb hK hP hD hS 3 0 rfl rfl (vp_in_iff.mpr ⟨by omega, by omega⟩) dX10_lays_220 (fun H locs hP hD hS => ?_)
                    obtain ⟨g178, eg178⟩ : ∃ g : Nat → Int32, g = upd g158 (v137 : Int32).toNatClampNeg x177 := ⟨_, rfl⟩
                    have hP : va_P D vwCl [(h0, .inr (10, [.ref m_now, .ref m_draft, .ref m_past, .int j_acts, .ref m_images, .ref m_kept, .ref m_tape, .int j_taped, .int j_at, .int j_start, .int j_token, .int j_value, .int j_fault, .int j_place, .int j_latest, .ref m_low, .ref m_high, .ref m_first, .ref m_second, .ref m_lines, .ref m_others, .int j_shiftFirst, .int j_shiftMany, .int j_shiftLow, .int j_shiftHigh])), (m_now, .inl (kI, 192, .inl g_now)), (m_low, .inl (kI, 1000, .inl g171)), (m_high, .inl (kI, 1000, .inl (upd g158 (v137 : Int32).toNatClampNeg x177)))] H := hP
                    have hD : va_D A [(h0, .inr (10, [.ref m_now, .ref m_draft, .ref m_past, .int j_acts, .ref m_images, .ref m_kept, .ref m_tape, .int j_taped, .int j_at, .int j_start, .int j_token, .int j_value, .int j_fault, .int j_place, .int j_latest, .ref m_low, .ref m_high, .ref m_first, .ref m_second, .ref m_lines, .ref m_others, .int j_shiftFirst, .int j_shiftMany, .int j_shiftLow, .int j_shiftHigh])), (m_now, .inl (kI, 192, .inl g_now)), (m_low, .inl (kI, 1000, .inl g171)), (m_high, .inl (kI, 1000, .inl (upd g158 (v137 : Int32).toNatClampNeg x177)))] := hD
                    have hK : va_K D vwCl [(kI, .int)] s := hK
                    rw [← eg178] at hP hD
                    have hg178 : bP g178 := bP_upd hg158 eg178 (by omega) (by omega)
                    obtain ⟨x179, ex179⟩ : ∃ y : Int32, y = v137 + 1 := ⟨_, rfl⟩
                    have tx179 : x179.toInt = v137.toInt + 1 := pw_addX ex179 rfl (by decide) (by omega) (by omega)
                    refine lv_iinc (v := x179) (lv' := [(1, .int x179), (8, .int r165), (7, .int r164), (6, .int x163), (5, .int r161), (4, .int r156), (3, .int x143), (2, .int x142), (0, .ref h0)]) hx hb dX10_lays_221 hl (k := 8) rfl (by rw [ex179]; rfl) (by decide) rfl (fun ls hl => ?_)
                    refine lv_goto (tgt := 2) hx hb dX10_lays_224 (by decide) ?_
                    have hP9 : va_P D vwCl [(h0, .inr (10, [.ref m_now, .ref m_draft, .ref m_past, .int j_acts, .ref m_images, .ref m_kept, .ref m_tape, .int j_taped, .int j_at, .int j_start, .int j_token, .int j_value, .int j_fault, .int j_place, .int j_latest, .ref m_low, .ref m_high, .ref m_first, .ref m_second, .ref m_lines, .ref m_others, .int j_shiftFirst, .int j_shiftMany, .int j_shiftLow, .int j_shiftHigh])), (m_now, .inl (kI, 192, .inl g_now)), (m_low, .inl (kI, 1000, .inl g171)), (m_high, .inl (kI, 1000, .inl g178))] H := hP.sub [0, 1, 2, 3] rfl
                    have hD9 : va_D A [(h0, .inr (10, [.ref m_now, .ref m_draft, .ref m_past, .int j_acts, .ref m_images, .ref m_kept, .ref m_tape, .int j_taped, .int j_at, .int j_start, .int j_token, .int j_value, .int j_fault, .int j_place, .int j_latest, .ref m_low, .ref m_high, .ref m_first, .ref m_second, .ref m_lines, .ref m_others, .int j_shiftFirst, .int j_shiftMany, .int j_shiftLow, .int j_shiftHigh])), (m_now, .inl (kI, 192, .inl g_now)), (m_low, .inl (kI, 1000, .inl g171)), (m_high, .inl (kI, 1000, .inl g178))] := hD.sub [0, 1, 2, 3] (by decide) rfl
                    have hl9 : lv_has ls 9 [(0, .ref h0), (1, .int x179)] := lv_sub hl [8, 0] rfl
                    refine W.widen (k := 0) (n := 0) (Nat.le_of_ble_eq_true rfl) (Nat.le_of_ble_eq_true rfl) ?_
                    exact ih140 (x179, g171, g178) _ _ _ (pw_up ex179 (by omega)) ⟨hP9, hD9, hS, hl9, hg171, hg178, (pw_upge ex179 (by omega) (by omega))⟩
                · have nc169 : r161.toInt = 5 := pw_eq c169 rfl (by decide)
                  refine lv_iconst (v := 0) hx hb dX10_lays_189 (by decide) ?_
                  refine lv_goto (tgt := 195) hx hb dX10_lays_190 (by decide) ?_
                  refine lv_iadd hx hb dX10_lays_195 ?_
                  refine lv_topi (fun x180 ex180 => ?_)
                  have tx180 : x180.toInt = r164.toInt + 0 := pw_addX ex180 rfl (by decide) (by omega) (by omega)
                  refine va_iast hx hb hK hP hD hS 2 0 rfl rfl (vp_in_iff.mpr ⟨by omega, by omega⟩) dX10_lays_196 (fun H locs hP hD hS => ?_)
                  obtain ⟨g181, eg181⟩ : ∃ g : Nat → Int32, g = upd g157 (v137 : Int32).toNatClampNeg x180 := ⟨_, rfl⟩
                  have hP : va_P D vwCl [(h0, .inr (10, [.ref m_now, .ref m_draft, .ref m_past, .int j_acts, .ref m_images, .ref m_kept, .ref m_tape, .int j_taped, .int j_at, .int j_start, .int j_token, .int j_value, .int j_fault, .int j_place, .int j_latest, .ref m_low, .ref m_high, .ref m_first, .ref m_second, .ref m_lines, .ref m_others, .int j_shiftFirst, .int j_shiftMany, .int j_shiftLow, .int j_shiftHigh])), (m_now, .inl (kI, 192, .inl g_now)), (m_low, .inl (kI, 1000, .inl (upd g157 (v137 : Int32).toNatClampNeg x180))), (m_high, .inl (kI, 1000, .inl g158))] H := hP
                  have hD : va_D A [(h0, .inr (10, [.ref m_now, .ref m_draft, .ref m_past, .int j_acts, .ref m_images, .ref m_kept, .ref m_tape, .int j_taped, .int j_at, .int j_start, .int j_token, .int j_value, .int j_fault, .int j_place, .int j_latest, .ref m_low, .ref m_high, .ref m_first, .ref m_second, .ref m_lines, .ref m_others, .int j_shiftFirst, .int j_shiftMany, .int j_shiftLow, .int j_shiftHigh])), (m_now, .inl (kI, 192, .inl g_now)), (m_low, .inl (kI, 1000, .inl (upd g157 (v137 : Int32).toNatClampNeg x180))), (m_high, .inl (kI, 1000, .inl g158))] := hD
                  have hK : va_K D vwCl [(kI, .int)] s := hK
                  rw [← eg181] at hP hD
                  have hg181 : bP g181 := bP_upd hg157 eg181 (by omega) (by omega)
                  refine lv_aload_n hx hb dX10_lays_197 rfl (lv_at hl 7 rfl) ?_
                  refine va_get (D := D) (ci := 10) (v := .ref m_high) (C := RX10) (T := TX10) (N := 25) hx hb hts (fun _ h => List.mem_cons_of_mem _ (List.mem_append_right _ h)) hown hK hP 0 rfl rfl 16 (by decide) (hts (.fieldLink RX10 32 "LineCitesModel" "high" "[I") (List.mem_of_getElem? (i := 4) rfl)) (fun _ h9 => h9) rfl dX10_lays_198 ?_
                  refine lv_iload_n hx hb dX10_lays_201 rfl (lv_at hl 8 rfl) ?_
                  refine lv_aload_n hx hb dX10_lays_202 rfl (lv_at hl 7 rfl) ?_
                  refine va_get (D := D) (ci := 10) (v := .ref m_low) (C := RX10) (T := TX10) (N := 25) hx hb hts (fun _ h => List.mem_cons_of_mem _ (List.mem_append_right _ h)) hown hK hP 0 rfl rfl 15 (by decide) (hts (.fieldLink RX10 29 "LineCitesModel" "low" "[I") (List.mem_of_getElem? (i := 3) rfl)) (fun _ h9 => h9) rfl dX10_lays_203 ?_
                  refine lv_iload_n hx hb dX10_lays_206 rfl (lv_at hl 8 rfl) ?_
                  refine va_iald hx hb hK hP 2 0 rfl rfl (vp_in_iff.mpr ⟨by omega, by omega⟩) dX10_lays_207 ?_
                  refine lv_topi (fun x182 ex182 => ?_)
                  have qx182 : x182.toInt = x180.toInt := by rw [ex182, eg181, upd_eq]
                  have nx182 : 0 ≤ x182.toInt ∧ x182.toInt ≤ 999 := bP_at hg181 ex182
                  refine lv_iload hx hb dX10_lays_208 (lv_at hl 3 rfl) ?_
                  refine lv_iconst (v := 2) hx hb dX10_lays_210 (by decide) ?_
                  refine lv_icmp_ne (tgt := 218) hx hb dX10_lays_211 (by decide) (fun c183 => ?_) (fun c183 => False.elim (by have nn : r161.toInt = 2 := pw_eq c183 rfl (by decide); omega))
                  have nc183 : r161.toInt ≠ 2 := pw_ne c183 rfl (by decide)
                  refine lv_iconst (v := 0) hx hb dX10_lays_218 (by decide) ?_
                  refine lv_iadd hx hb dX10_lays_219 ?_
                  refine lv_topi (fun x184 ex184 => ?_)
                  have tx184 : x184.toInt = x182.toInt + 0 := pw_addX ex184 rfl (by decide) (by omega) (by omega)
                  refine va_iast hx hb hK hP hD hS 3 0 rfl rfl (vp_in_iff.mpr ⟨by omega, by omega⟩) dX10_lays_220 (fun H locs hP hD hS => ?_)
                  obtain ⟨g185, eg185⟩ : ∃ g : Nat → Int32, g = upd g158 (v137 : Int32).toNatClampNeg x184 := ⟨_, rfl⟩
                  have hP : va_P D vwCl [(h0, .inr (10, [.ref m_now, .ref m_draft, .ref m_past, .int j_acts, .ref m_images, .ref m_kept, .ref m_tape, .int j_taped, .int j_at, .int j_start, .int j_token, .int j_value, .int j_fault, .int j_place, .int j_latest, .ref m_low, .ref m_high, .ref m_first, .ref m_second, .ref m_lines, .ref m_others, .int j_shiftFirst, .int j_shiftMany, .int j_shiftLow, .int j_shiftHigh])), (m_now, .inl (kI, 192, .inl g_now)), (m_low, .inl (kI, 1000, .inl g181)), (m_high, .inl (kI, 1000, .inl (upd g158 (v137 : Int32).toNatClampNeg x184)))] H := hP
                  have hD : va_D A [(h0, .inr (10, [.ref m_now, .ref m_draft, .ref m_past, .int j_acts, .ref m_images, .ref m_kept, .ref m_tape, .int j_taped, .int j_at, .int j_start, .int j_token, .int j_value, .int j_fault, .int j_place, .int j_latest, .ref m_low, .ref m_high, .ref m_first, .ref m_second, .ref m_lines, .ref m_others, .int j_shiftFirst, .int j_shiftMany, .int j_shiftLow, .int j_shiftHigh])), (m_now, .inl (kI, 192, .inl g_now)), (m_low, .inl (kI, 1000, .inl g181)), (m_high, .inl (kI, 1000, .inl (upd g158 (v137 : Int32).toNatClampNeg x184)))] := hD
                  have hK : va_K D vwCl [(kI, .int)] s := hK
                  rw [← eg185] at hP hD
                  have hg185 : bP g185 := bP_upd hg158 eg185 (by omega) (by omega)
                  obtain ⟨x186, ex186⟩ : ∃ y : Int32, y = v137 + 1 := ⟨_, rfl⟩
                  have tx186 : x186.toInt = v137.toInt + 1 := pw_addX ex186 rfl (by decide) (by omega) (by omega)
                  refine lv_iinc (v := x186) (lv' := [(1, .int x186), (8, .int r165), (7, .int r164), (6, .int x163), (5, .int r161), (4, .int r156), (3, .int x143), (2, .int x142), (0, .ref h0)]) hx hb dX10_lays_221 hl (k := 8) rfl (by rw [ex186]; rfl) (by decide) rfl (fun ls hl => ?_)
                  refine lv_goto (tgt := 2) hx hb dX10_lays_224 (by decide) ?_
                  have hP9 : va_P D vwCl [(h0, .inr (10, [.ref m_now, .ref m_draft, .ref m_past, .int j_acts, .ref m_images, .ref m_kept, .ref m_tape, .int j_taped, .int j_at, .int j_start, .int j_token, .int j_value, .int j_fault, .int j_place, .int j_latest, .ref m_low, .ref m_high, .ref m_first, .ref m_second, .ref m_lines, .ref m_others, .int j_shiftFirst, .int j_shiftMany, .int j_shiftLow, .int j_shiftHigh])), (m_now, .inl (kI, 192, .inl g_now)), (m_low, .inl (kI, 1000, .inl g181)), (m_high, .inl (kI, 1000, .inl g185))] H := hP.sub [0, 1, 2, 3] rfl
                  have hD9 : va_D A [(h0, .inr (10, [.ref m_now, .ref m_draft, .ref m_past, .int j_acts, .ref m_images, .ref m_kept, .ref m_tape, .int j_taped, .int j_at, .int j_start, .int j_token, .int j_value, .int j_fault, .int j_place, .int j_latest, .ref m_low, .ref m_high, .ref m_first, .ref m_second, .ref m_lines, .ref m_others, .int j_shiftFirst, .int j_shiftMany, .int j_shiftLow, .int j_shiftHigh])), (m_now, .inl (kI, 192, .inl g_now)), (m_low, .inl (kI, 1000, .inl g181)), (m_high, .inl (kI, 1000, .inl g185))] := hD.sub [0, 1, 2, 3] (by decide) rfl
                  have hl9 : lv_has ls 9 [(0, .ref h0), (1, .int x186)] := lv_sub hl [8, 0] rfl
                  refine W.widen (k := 0) (n := 0) (Nat.le_of_ble_eq_true rfl) (Nat.le_of_ble_eq_true rfl) ?_
                  exact ih140 (x186, g181, g185) _ _ _ (pw_up ex186 (by omega)) ⟨hP9, hD9, hS, hl9, hg181, hg185, (pw_upge ex186 (by omega) (by omega))⟩
              · have nc168 : r161.toInt = 4 := pw_eq c168 rfl (by decide)
                refine lv_iload hx hb dX10_lays_173 (lv_at hl 0 rfl) ?_
                refine lv_iconst (v := 1) hx hb dX10_lays_175 (by decide) ?_
                refine lv_isub hx hb dX10_lays_176 ?_
                refine lv_topi (fun x187 ex187 => ?_)
                have tx187 : x187.toInt = r165.toInt - 1 := pw_subX ex187 rfl (by decide) (by omega) (by omega)
                refine lv_iload hx hb dX10_lays_177 (lv_at hl 2 rfl) ?_
                refine lv_isub hx hb dX10_lays_179 ?_
                refine lv_topi (fun x188 ex188 => ?_)
                have tx188 : x188.toInt = x187.toInt - x163.toInt := pw_subX ex188 rfl rfl (by omega) (by omega)
                refine lv_goto (tgt := 195) hx hb dX10_lays_180 (by decide) ?_
                refine lv_iadd hx hb dX10_lays_195 ?_
                refine lv_topi (fun x189 ex189 => ?_)
                have tx189 : x189.toInt = r164.toInt + x188.toInt := pw_addX ex189 rfl rfl (by omega) (by omega)
                refine va_iast hx hb hK hP hD hS 2 0 rfl rfl (vp_in_iff.mpr ⟨by omega, by omega⟩) dX10_lays_196 (fun H locs hP hD hS => ?_)
                obtain ⟨g190, eg190⟩ : ∃ g : Nat → Int32, g = upd g157 (v137 : Int32).toNatClampNeg x189 := ⟨_, rfl⟩
                have hP : va_P D vwCl [(h0, .inr (10, [.ref m_now, .ref m_draft, .ref m_past, .int j_acts, .ref m_images, .ref m_kept, .ref m_tape, .int j_taped, .int j_at, .int j_start, .int j_token, .int j_value, .int j_fault, .int j_place, .int j_latest, .ref m_low, .ref m_high, .ref m_first, .ref m_second, .ref m_lines, .ref m_others, .int j_shiftFirst, .int j_shiftMany, .int j_shiftLow, .int j_shiftHigh])), (m_now, .inl (kI, 192, .inl g_now)), (m_low, .inl (kI, 1000, .inl (upd g157 (v137 : Int32).toNatClampNeg x189))), (m_high, .inl (kI, 1000, .inl g158))] H := hP
                have hD : va_D A [(h0, .inr (10, [.ref m_now, .ref m_draft, .ref m_past, .int j_acts, .ref m_images, .ref m_kept, .ref m_tape, .int j_taped, .int j_at, .int j_start, .int j_token, .int j_value, .int j_fault, .int j_place, .int j_latest, .ref m_low, .ref m_high, .ref m_first, .ref m_second, .ref m_lines, .ref m_others, .int j_shiftFirst, .int j_shiftMany, .int j_shiftLow, .int j_shiftHigh])), (m_now, .inl (kI, 192, .inl g_now)), (m_low, .inl (kI, 1000, .inl (upd g157 (v137 : Int32).toNatClampNeg x189))), (m_high, .inl (kI, 1000, .inl g158))] := hD
                have hK : va_K D vwCl [(kI, .int)] s := hK
                rw [← eg190] at hP hD
                have hg190 : bP g190 := bP_upd hg157 eg190 (by omega) (by omega)
                refine lv_aload_n hx hb dX10_lays_197 rfl (lv_at hl 7 rfl) ?_
                refine va_get (D := D) (ci := 10) (v := .ref m_high) (C := RX10) (T := TX10) (N := 25) hx hb hts (fun _ h => List.mem_cons_of_mem _ (List.mem_append_right _ h)) hown hK hP 0 rfl rfl 16 (by decide) (hts (.fieldLink RX10 32 "LineCitesModel" "high" "[I") (List.mem_of_getElem? (i := 4) rfl)) (fun _ h9 => h9) rfl dX10_lays_198 ?_
                refine lv_iload_n hx hb dX10_lays_201 rfl (lv_at hl 8 rfl) ?_
                refine lv_aload_n hx hb dX10_lays_202 rfl (lv_at hl 7 rfl) ?_
                refine va_get (D := D) (ci := 10) (v := .ref m_low) (C := RX10) (T := TX10) (N := 25) hx hb hts (fun _ h => List.mem_cons_of_mem _ (List.mem_append_right _ h)) hown hK hP 0 rfl rfl 15 (by decide) (hts (.fieldLink RX10 29 "LineCitesModel" "low" "[I") (List.mem_of_getElem? (i := 3) rfl)) (fun _ h9 => h9) rfl dX10_lays_203 ?_
                refine lv_iload_n hx hb dX10_lays_206 rfl (lv_at hl 8 rfl) ?_
                refine va_iald hx hb hK hP 2 0 rfl rfl (vp_in_iff.mpr ⟨by omega, by omega⟩) dX10_lays_207 ?_
                refine lv_topi (fun x191 ex191 => ?_)
                have qx191 : x191.toInt = x189.toInt := by rw [ex191, eg190, upd_eq]
                have nx191 : 0 ≤ x191.toInt ∧ x191.toInt ≤ 999 := bP_at hg190 ex191
                refine lv_iload hx hb dX10_lays_208 (lv_at hl 3 rfl) ?_
                refine lv_iconst (v := 2) hx hb dX10_lays_210 (by decide) ?_
                refine lv_icmp_ne (tgt := 218) hx hb dX10_lays_211 (by decide) (fun c192 => ?_) (fun c192 => False.elim (by have nn : r161.toInt = 2 := pw_eq c192 rfl (by decide); omega))
                have nc192 : r161.toInt ≠ 2 := pw_ne c192 rfl (by decide)
                refine lv_iconst (v := 0) hx hb dX10_lays_218 (by decide) ?_
                refine lv_iadd hx hb dX10_lays_219 ?_
                refine lv_topi (fun x193 ex193 => ?_)
                have tx193 : x193.toInt = x191.toInt + 0 := pw_addX ex193 rfl (by decide) (by omega) (by omega)
                refine va_iast hx hb hK hP hD hS 3 0 rfl rfl (vp_in_iff.mpr ⟨by omega, by omega⟩) dX10_lays_220 (fun H locs hP hD hS => ?_)
                obtain ⟨g194, eg194⟩ : ∃ g : Nat → Int32, g = upd g158 (v137 : Int32).toNatClampNeg x193 := ⟨_, rfl⟩
                have hP : va_P D vwCl [(h0, .inr (10, [.ref m_now, .ref m_draft, .ref m_past, .int j_acts, .ref m_images, .ref m_kept, .ref m_tape, .int j_taped, .int j_at, .int j_start, .int j_token, .int j_value, .int j_fault, .int j_place, .int j_latest, .ref m_low, .ref m_high, .ref m_first, .ref m_second, .ref m_lines, .ref m_others, .int j_shiftFirst, .int j_shiftMany, .int j_shiftLow, .int j_shiftHigh])), (m_now, .inl (kI, 192, .inl g_now)), (m_low, .inl (kI, 1000, .inl g190)), (m_high, .inl (kI, 1000, .inl (upd g158 (v137 : Int32).toNatClampNeg x193)))] H := hP
                have hD : va_D A [(h0, .inr (10, [.ref m_now, .ref m_draft, .ref m_past, .int j_acts, .ref m_images, .ref m_kept, .ref m_tape, .int j_taped, .int j_at, .int j_start, .int j_token, .int j_value, .int j_fault, .int j_place, .int j_latest, .ref m_low, .ref m_high, .ref m_first, .ref m_second, .ref m_lines, .ref m_others, .int j_shiftFirst, .int j_shiftMany, .int j_shiftLow, .int j_shiftHigh])), (m_now, .inl (kI, 192, .inl g_now)), (m_low, .inl (kI, 1000, .inl g190)), (m_high, .inl (kI, 1000, .inl (upd g158 (v137 : Int32).toNatClampNeg x193)))] := hD
                have hK : va_K D vwCl [(kI, .int)] s := hK
                rw [← eg194] at hP hD
                have hg194 : bP g194 := bP_upd hg158 eg194 (by omega) (by omega)
                obtain ⟨x195, ex195⟩ : ∃ y : Int32, y = v137 + 1 := ⟨_, rfl⟩
                have tx195 : x195.toInt = v137.toInt + 1 := pw_addX ex195 rfl (by decide) (by omega) (by omega)
                refine lv_iinc (v := x195) (lv' := [(1, .int x195), (8, .int r165), (7, .int r164), (6, .int x163), (5, .int r161), (4, .int r156), (3, .int x143), (2, .int x142), (0, .ref h0)]) hx hb dX10_lays_221 hl (k := 8) rfl (by rw [ex195]; rfl) (by decide) rfl (fun ls hl => ?_)
                refine lv_goto (tgt := 2) hx hb dX10_lays_224 (by decide) ?_
                have hP9 : va_P D vwCl [(h0, .inr (10, [.ref m_now, .ref m_draft, .ref m_past, .int j_acts, .ref m_images, .ref m_kept, .ref m_tape, .int j_taped, .int j_at, .int j_start, .int j_token, .int j_value, .int j_fault, .int j_place, .int j_latest, .ref m_low, .ref m_high, .ref m_first, .ref m_second, .ref m_lines, .ref m_others, .int j_shiftFirst, .int j_shiftMany, .int j_shiftLow, .int j_shiftHigh])), (m_now, .inl (kI, 192, .inl g_now)), (m_low, .inl (kI, 1000, .inl g190)), (m_high, .inl (kI, 1000, .inl g194))] H := hP.sub [0, 1, 2, 3] rfl
                have hD9 : va_D A [(h0, .inr (10, [.ref m_now, .ref m_draft, .ref m_past, .int j_acts, .ref m_images, .ref m_kept, .ref m_tape, .int j_taped, .int j_at, .int j_start, .int j_token, .int j_value, .int j_fault, .int j_place, .int j_latest, .ref m_low, .ref m_high, .ref m_first, .ref m_second, .ref m_lines, .ref m_others, .int j_shiftFirst, .int j_shiftMany, .int j_shiftLow, .int j_shiftHigh])), (m_now, .inl (kI, 192, .inl g_now)), (m_low, .inl (kI, 1000, .inl g190)), (m_high, .inl (kI, 1000, .inl g194))] := hD.sub [0, 1, 2, 3] (by decide) rfl
                have hl9 : lv_has ls 9 [(0, .ref h0), (1, .int x195)] := lv_sub hl [8, 0] rfl
                refine W.widen (k := 0) (n := 0) (Nat.le_of_ble_eq_true rfl) (Nat.le_of_ble_eq_true rfl) ?_
                exact ih140 (x195, g190, g194) _ _ _ (pw_up ex195 (by omega)) ⟨hP9, hD9, hS, hl9, hg190, hg194, (pw_upge ex195 (by omega) (by omega))⟩
            · have nc167 : r161.toInt = 3 := pw_eq c167 rfl (by decide)
              refine lv_iload hx hb dX10_lays_160 (lv_at hl 2 rfl) ?_
              refine lv_iconst (v := 2) hx hb dX10_lays_162 (by decide) ?_
              refine lv_idiv hx hb dX10_lays_163 (by decide) ?_
              refine lv_topi (fun x196 ex196 => ?_)
              have ux196 := pw_half2 ex196 (by omega)
              have tx196 : 0 ≤ x196.toInt ∧ 2 * x196.toInt ≤ x163.toInt := pw_half ex196 (by omega)
              refine lv_goto (tgt := 195) hx hb dX10_lays_164 (by decide) ?_
              refine lv_iadd hx hb dX10_lays_195 ?_
              refine lv_topi (fun x197 ex197 => ?_)
              have tx197 : x197.toInt = r164.toInt + x196.toInt := pw_addX ex197 rfl rfl (by omega) (by omega)
              refine va_iast hx hb hK hP hD hS 2 0 rfl rfl (vp_in_iff.mpr ⟨by omega, by omega⟩) dX10_lays_196 (fun H locs hP hD hS => ?_)
              obtain ⟨g198, eg198⟩ : ∃ g : Nat → Int32, g = upd g157 (v137 : Int32).toNatClampNeg x197 := ⟨_, rfl⟩
              have hP : va_P D vwCl [(h0, .inr (10, [.ref m_now, .ref m_draft, .ref m_past, .int j_acts, .ref m_images, .ref m_kept, .ref m_tape, .int j_taped, .int j_at, .int j_start, .int j_token, .int j_value, .int j_fault, .int j_place, .int j_latest, .ref m_low, .ref m_high, .ref m_first, .ref m_second, .ref m_lines, .ref m_others, .int j_shiftFirst, .int j_shiftMany, .int j_shiftLow, .int j_shiftHigh])), (m_now, .inl (kI, 192, .inl g_now)), (m_low, .inl (kI, 1000, .inl (upd g157 (v137 : Int32).toNatClampNeg x197))), (m_high, .inl (kI, 1000, .inl g158))] H := hP
              have hD : va_D A [(h0, .inr (10, [.ref m_now, .ref m_draft, .ref m_past, .int j_acts, .ref m_images, .ref m_kept, .ref m_tape, .int j_taped, .int j_at, .int j_start, .int j_token, .int j_value, .int j_fault, .int j_place, .int j_latest, .ref m_low, .ref m_high, .ref m_first, .ref m_second, .ref m_lines, .ref m_others, .int j_shiftFirst, .int j_shiftMany, .int j_shiftLow, .int j_shiftHigh])), (m_now, .inl (kI, 192, .inl g_now)), (m_low, .inl (kI, 1000, .inl (upd g157 (v137 : Int32).toNatClampNeg x197))), (m_high, .inl (kI, 1000, .inl g158))] := hD
              have hK : va_K D vwCl [(kI, .int)] s := hK
              rw [← eg198] at hP hD
              have hg198 : bP g198 := bP_upd hg157 eg198 (by omega) (by omega)
              refine lv_aload_n hx hb dX10_lays_197 rfl (lv_at hl 7 rfl) ?_
              refine va_get (D := D) (ci := 10) (v := .ref m_high) (C := RX10) (T := TX10) (N := 25) hx hb hts (fun _ h => List.mem_cons_of_mem _ (List.mem_append_right _ h)) hown hK hP 0 rfl rfl 16 (by decide) (hts (.fieldLink RX10 32 "LineCitesModel" "high" "[I") (List.mem_of_getElem? (i := 4) rfl)) (fun _ h9 => h9) rfl dX10_lays_198 ?_
              refine lv_iload_n hx hb dX10_lays_201 rfl (lv_at hl 8 rfl) ?_
              refine lv_aload_n hx hb dX10_lays_202 rfl (lv_at hl 7 rfl) ?_
              refine va_get (D := D) (ci := 10) (v := .ref m_low) (C := RX10) (T := TX10) (N := 25) hx hb hts (fun _ h => List.mem_cons_of_mem _ (List.mem_append_right _ h)) hown hK hP 0 rfl rfl 15 (by decide) (hts (.fieldLink RX10 29 "LineCitesModel" "low" "[I") (List.mem_of_getElem? (i := 3) rfl)) (fun _ h9 => h9) rfl dX10_lays_203 ?_
              refine lv_iload_n hx hb dX10_lays_206 rfl (lv_at hl 8 rfl) ?_
              refine va_iald hx hb hK hP 2 0 rfl rfl (vp_in_iff.mpr ⟨by omega, by omega⟩) dX10_lays_207 ?_
              refine lv_topi (fun x199 ex199 => ?_)
              have qx199 : x199.toInt = x197.toInt := by rw [ex199, eg198, upd_eq]
              have nx199 : 0 ≤ x199.toInt ∧ x199.toInt ≤ 999 := bP_at hg198 ex199
              refine lv_iload hx hb dX10_lays_208 (lv_at hl 3 rfl) ?_
              refine lv_iconst (v := 2) hx hb dX10_lays_210 (by decide) ?_
              refine lv_icmp_ne (tgt := 218) hx hb dX10_lays_211 (by decide) (fun c200 => ?_) (fun c200 => False.elim (by have nn : r161.toInt = 2 := pw_eq c200 rfl (by decide); omega))
              have nc200 : r161.toInt ≠ 2 := pw_ne c200 rfl (by decide)
              refine lv_iconst (v := 0) hx hb dX10_lays_218 (by decide) ?_
              refine lv_iadd hx hb dX10_lays_219 ?_
              refine lv_topi (fun x201 ex201 => ?_)
              have tx201 : x201.toInt = x199.toInt + 0 := pw_addX ex201 rfl (by decide) (by omega) (by omega)
              refine va_iast hx hb hK hP hD hS 3 0 rfl rfl (vp_in_iff.mpr ⟨by omega, by omega⟩) dX10_lays_220 (fun H locs hP hD hS => ?_)
              obtain ⟨g202, eg202⟩ : ∃ g : Nat → Int32, g = upd g158 (v137 : Int32).toNatClampNeg x201 := ⟨_, rfl⟩
              have hP : va_P D vwCl [(h0, .inr (10, [.ref m_now, .ref m_draft, .ref m_past, .int j_acts, .ref m_images, .ref m_kept, .ref m_tape, .int j_taped, .int j_at, .int j_start, .int j_token, .int j_value, .int j_fault, .int j_place, .int j_latest, .ref m_low, .ref m_high, .ref m_first, .ref m_second, .ref m_lines, .ref m_others, .int j_shiftFirst, .int j_shiftMany, .int j_shiftLow, .int j_shiftHigh])), (m_now, .inl (kI, 192, .inl g_now)), (m_low, .inl (kI, 1000, .inl g198)), (m_high, .inl (kI, 1000, .inl (upd g158 (v137 : Int32).toNatClampNeg x201)))] H := hP
              have hD : va_D A [(h0, .inr (10, [.ref m_now, .ref m_draft, .ref m_past, .int j_acts, .ref m_images, .ref m_kept, .ref m_tape, .int j_taped, .int j_at, .int j_start, .int j_token, .int j_value, .int j_fault, .int j_place, .int j_latest, .ref m_low, .ref m_high, .ref m_first, .ref m_second, .ref m_lines, .ref m_others, .int j_shiftFirst, .int j_shiftMany, .int j_shiftLow, .int j_shiftHigh])), (m_now, .inl (kI, 192, .inl g_now)), (m_low, .inl (kI, 1000, .inl g198)), (m_high, .inl (kI, 1000, .inl (upd g158 (v137 : Int32).toNatClampNeg x201)))] := hD
              have hK : va_K D vwCl [(kI, .int)] s := hK
              rw [← eg202] at hP hD
              have hg202 : bP g202 := bP_upd hg158 eg202 (by omega) (by omega)
              obtain ⟨x203, ex203⟩ : ∃ y : Int32, y = v137 + 1 := ⟨_, rfl⟩
              have tx203 : x203.toInt = v137.toInt + 1 := pw_addX ex203 rfl (by decide) (by omega) (by omega)
              refine lv_iinc (v := x203) (lv' := [(1, .int x203), (8, .int r165), (7, .int r164), (6, .int x163), (5, .int r161), (4, .int r156), (3, .int x143), (2, .int x142), (0, .ref h0)]) hx hb dX10_lays_221 hl (k := 8) rfl (by rw [ex203]; rfl) (by decide) rfl (fun ls hl => ?_)
              refine lv_goto (tgt := 2) hx hb dX10_lays_224 (by decide) ?_
              have hP9 : va_P D vwCl [(h0, .inr (10, [.ref m_now, .ref m_draft, .ref m_past, .int j_acts, .ref m_images, .ref m_kept, .ref m_tape, .int j_taped, .int j_at, .int j_start, .int j_token, .int j_value, .int j_fault, .int j_place, .int j_latest, .ref m_low, .ref m_high, .ref m_first, .ref m_second, .ref m_lines, .ref m_others, .int j_shiftFirst, .int j_shiftMany, .int j_shiftLow, .int j_shiftHigh])), (m_now, .inl (kI, 192, .inl g_now)), (m_low, .inl (kI, 1000, .inl g198)), (m_high, .inl (kI, 1000, .inl g202))] H := hP.sub [0, 1, 2, 3] rfl
              have hD9 : va_D A [(h0, .inr (10, [.ref m_now, .ref m_draft, .ref m_past, .int j_acts, .ref m_images, .ref m_kept, .ref m_tape, .int j_taped, .int j_at, .int j_start, .int j_token, .int j_value, .int j_fault, .int j_place, .int j_latest, .ref m_low, .ref m_high, .ref m_first, .ref m_second, .ref m_lines, .ref m_others, .int j_shiftFirst, .int j_shiftMany, .int j_shiftLow, .int j_shiftHigh])), (m_now, .inl (kI, 192, .inl g_now)), (m_low, .inl (kI, 1000, .inl g198)), (m_high, .inl (kI, 1000, .inl g202))] := hD.sub [0, 1, 2, 3] (by decide) rfl
              have hl9 : lv_has ls 9 [(0, .ref h0), (1, .int x203)] := lv_sub hl [8, 0] rfl
              refine W.widen (k := 0) (n := 0) (Nat.le_of_ble_eq_true rfl) (Nat.le_of_ble_eq_true rfl) ?_
              exact ih140 (x203, g198, g202) _ _ _ (pw_up ex203 (by omega)) ⟨hP9, hD9, hS, hl9, hg198, hg202, (pw_upge ex203 (by omega) (by omega))⟩
          · have nc166 : r161.toInt = 2 := pw_eq c166 rfl (by decide)
            refine lv_iconst (v := 2) hx hb dX10_lays_147 (by decide) ?_
            refine lv_iload hx hb dX10_lays_148 (lv_at hl 2 rfl) ?_
            refine lv_imul hx hb dX10_lays_150 ?_
            refine lv_topi (fun x204 ex204 => ?_)
            have tx204 : x204.toInt = 2 * x163.toInt := pw_mulX ex204 (by decide) rfl (by omega) (by omega)
            refine lv_goto (tgt := 195) hx hb dX10_lays_151 (by decide) ?_
            refine lv_iadd hx hb dX10_lays_195 ?_
            refine lv_topi (fun x205 ex205 => ?_)
            have tx205 : x205.toInt = r164.toInt + x204.toInt := pw_addX ex205 rfl rfl (by omega) (by omega)
            refine va_iast hx hb hK hP hD hS 2 0 rfl rfl (vp_in_iff.mpr ⟨by omega, by omega⟩) dX10_lays_196 (fun H locs hP hD hS => ?_)
            obtain ⟨g206, eg206⟩ : ∃ g : Nat → Int32, g = upd g157 (v137 : Int32).toNatClampNeg x205 := ⟨_, rfl⟩
            have hP : va_P D vwCl [(h0, .inr (10, [.ref m_now, .ref m_draft, .ref m_past, .int j_acts, .ref m_images, .ref m_kept, .ref m_tape, .int j_taped, .int j_at, .int j_start, .int j_token, .int j_value, .int j_fault, .int j_place, .int j_latest, .ref m_low, .ref m_high, .ref m_first, .ref m_second, .ref m_lines, .ref m_others, .int j_shiftFirst, .int j_shiftMany, .int j_shiftLow, .int j_shiftHigh])), (m_now, .inl (kI, 192, .inl g_now)), (m_low, .inl (kI, 1000, .inl (upd g157 (v137 : Int32).toNatClampNeg x205))), (m_high, .inl (kI, 1000, .inl g158))] H := hP
            have hD : va_D A [(h0, .inr (10, [.ref m_now, .ref m_draft, .ref m_past, .int j_acts, .ref m_images, .ref m_kept, .ref m_tape, .int j_taped, .int j_at, .int j_start, .int j_token, .int j_value, .int j_fault, .int j_place, .int j_latest, .ref m_low, .ref m_high, .ref m_first, .ref m_second, .ref m_lines, .ref m_others, .int j_shiftFirst, .int j_shiftMany, .int j_shiftLow, .int j_shiftHigh])), (m_now, .inl (kI, 192, .inl g_now)), (m_low, .inl (kI, 1000, .inl (upd g157 (v137 : Int32).toNatClampNeg x205))), (m_high, .inl (kI, 1000, .inl g158))] := hD
            have hK : va_K D vwCl [(kI, .int)] s := hK
            rw [← eg206] at hP hD
            have hg206 : bP g206 := bP_upd hg157 eg206 (by omega) (by omega)
            refine lv_aload_n hx hb dX10_lays_197 rfl (lv_at hl 7 rfl) ?_
            refine va_get (D := D) (ci := 10) (v := .ref m_high) (C := RX10) (T := TX10) (N := 25) hx hb hts (fun _ h => List.mem_cons_of_mem _ (List.mem_append_right _ h)) hown hK hP 0 rfl rfl 16 (by decide) (hts (.fieldLink RX10 32 "LineCitesModel" "high" "[I") (List.mem_of_getElem? (i := 4) rfl)) (fun _ h9 => h9) rfl dX10_lays_198 ?_
            refine lv_iload_n hx hb dX10_lays_201 rfl (lv_at hl 8 rfl) ?_
            refine lv_aload_n hx hb dX10_lays_202 rfl (lv_at hl 7 rfl) ?_
            refine va_get (D := D) (ci := 10) (v := .ref m_low) (C := RX10) (T := TX10) (N := 25) hx hb hts (fun _ h => List.mem_cons_of_mem _ (List.mem_append_right _ h)) hown hK hP 0 rfl rfl 15 (by decide) (hts (.fieldLink RX10 29 "LineCitesModel" "low" "[I") (List.mem_of_getElem? (i := 3) rfl)) (fun _ h9 => h9) rfl dX10_lays_203 ?_
            refine lv_iload_n hx hb dX10_lays_206 rfl (lv_at hl 8 rfl) ?_
            refine va_iald hx hb hK hP 2 0 rfl rfl (vp_in_iff.mpr ⟨by omega, by omega⟩) dX10_lays_207 ?_
            refine lv_topi (fun x207 ex207 => ?_)
            have qx207 : x207.toInt = x205.toInt := by rw [ex207, eg206, upd_eq]
            have nx207 : 0 ≤ x207.toInt ∧ x207.toInt ≤ 999 := bP_at hg206 ex207
            refine lv_iload hx hb dX10_lays_208 (lv_at hl 3 rfl) ?_
            refine lv_iconst (v := 2) hx hb dX10_lays_210 (by decide) ?_
            refine lv_icmp_ne (tgt := 218) hx hb dX10_lays_211 (by decide) (fun c208 => False.elim (by have nn : r161.toInt ≠ 2 := pw_ne c208 rfl (by decide); omega)) (fun c208 => ?_)
            have nc208 : r161.toInt = 2 := pw_eq c208 rfl (by decide)
            refine lv_iconst (v := 1) hx hb dX10_lays_214 (by decide) ?_
            refine lv_goto (tgt := 219) hx hb dX10_lays_215 (by decide) ?_
            refine lv_iadd hx hb dX10_lays_219 ?_
            refine lv_topi (fun x209 ex209 => ?_)
            have tx209 : x209.toInt = x207.toInt + 1 := pw_addX ex209 rfl (by decide) (by omega) (by omega)
            refine va_iast hx hb hK hP hD hS 3 0 rfl rfl (vp_in_iff.mpr ⟨by omega, by omega⟩) dX10_lays_220 (fun H locs hP hD hS => ?_)
            obtain ⟨g210, eg210⟩ : ∃ g : Nat → Int32, g = upd g158 (v137 : Int32).toNatClampNeg x209 := ⟨_, rfl⟩
            have hP : va_P D vwCl [(h0, .inr (10, [.ref m_now, .ref m_draft, .ref m_past, .int j_acts, .ref m_images, .ref m_kept, .ref m_tape, .int j_taped, .int j_at, .int j_start, .int j_token, .int j_value, .int j_fault, .int j_place, .int j_latest, .ref m_low, .ref m_high, .ref m_first, .ref m_second, .ref m_lines, .ref m_others, .int j_shiftFirst, .int j_shiftMany, .int j_shiftLow, .int j_shiftHigh])), (m_now, .inl (kI, 192, .inl g_now)), (m_low, .inl (kI, 1000, .inl g206)), (m_high, .inl (kI, 1000, .inl (upd g158 (v137 : Int32).toNatClampNeg x209)))] H := hP
            have hD : va_D A [(h0, .inr (10, [.ref m_now, .ref m_draft, .ref m_past, .int j_acts, .ref m_images, .ref m_kept, .ref m_tape, .int j_taped, .int j_at, .int j_start, .int j_token, .int j_value, .int j_fault, .int j_place, .int j_latest, .ref m_low, .ref m_high, .ref m_first, .ref m_second, .ref m_lines, .ref m_others, .int j_shiftFirst, .int j_shiftMany, .int j_shiftLow, .int j_shiftHigh])), (m_now, .inl (kI, 192, .inl g_now)), (m_low, .inl (kI, 1000, .inl g206)), (m_high, .inl (kI, 1000, .inl (upd g158 (v137 : Int32).toNatClampNeg x209)))] := hD
            have hK : va_K D vwCl [(kI, .int)] s := hK
            rw [← eg210] at hP hD
            have hg210 : bP g210 := bP_upd hg158 eg210 (by omega) (by omega)
            obtain ⟨x211, ex211⟩ : ∃ y : Int32, y = v137 + 1 := ⟨_, rfl⟩
            have tx211 : x211.toInt = v137.toInt + 1 := pw_addX ex211 rfl (by decide) (by omega) (by omega)
            refine lv_iinc (v := x211) (lv' := [(1, .int x211), (8, .int r165), (7, .int r164), (6, .int x163), (5, .int r161), (4, .int r156), (3, .int x143), (2, .int x142), (0, .ref h0)]) hx hb dX10_lays_221 hl (k := 8) rfl (by rw [ex211]; rfl) (by decide) rfl (fun ls hl => ?_)
            refine lv_goto (tgt := 2) hx hb dX10_lays_224 (by decide) ?_
            have hP9 : va_P D vwCl [(h0, .inr (10, [.ref m_now, .ref m_draft, .ref m_past, .int j_acts, .ref m_images, .ref m_kept, .ref m_tape, .int j_taped, .int j_at, .int j_start, .int j_token, .int j_value, .int j_fault, .int j_place, .int j_latest, .ref m_low, .ref m_high, .ref m_first, .ref m_second, .ref m_lines, .ref m_others, .int j_shiftFirst, .int j_shiftMany, .int j_shiftLow, .int j_shiftHigh])), (m_now, .inl (kI, 192, .inl g_now)), (m_low, .inl (kI, 1000, .inl g206)), (m_high, .inl (kI, 1000, .inl g210))] H := hP.sub [0, 1, 2, 3] rfl
            have hD9 : va_D A [(h0, .inr (10, [.ref m_now, .ref m_draft, .ref m_past, .int j_acts, .ref m_images, .ref m_kept, .ref m_tape, .int j_taped, .int j_at, .int j_start, .int j_token, .int j_value, .int j_fault, .int j_place, .int j_latest, .ref m_low, .ref m_high, .ref m_first, .ref m_second, .ref m_lines, .ref m_others, .int j_shiftFirst, .int j_shiftMany, .int j_shiftLow, .int j_shiftHigh])), (m_now, .inl (kI, 192, .inl g_now)), (m_low, .inl (kI, 1000, .inl g206)), (m_high, .inl (kI, 1000, .inl g210))] := hD.sub [0, 1, 2, 3] (by decide) rfl
            have hl9 : lv_has ls 9 [(0, .ref h0), (1, .int x211)] := lv_sub hl [8, 0] rfl
            refine W.widen (k := 0) (n := 0) (Nat.le_of_ble_eq_true rfl) (Nat.le_of_ble_eq_true rfl) ?_
            exact ih140 (x211, g206, g210) _ _ _ (pw_up ex211 (by omega)) ⟨hP9, hD9, hS, hl9, hg206, hg210, (pw_upge ex211 (by omega) (by omega))⟩
