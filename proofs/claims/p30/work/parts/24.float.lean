theorem dX9_thousandths_0 : decode cX9_thousandths 0 = .ok (.iload_n 1, 1) := by decide +kernel
theorem dX9_thousandths_1 : decode cX9_thousandths 1 = .ok (.ifCond .ne 6, 3) := by decide +kernel
theorem dX9_thousandths_4 : decode cX9_thousandths 4 = .ok (.ldc 206, 2) := by decide +kernel
theorem dX9_thousandths_6 : decode cX9_thousandths 6 = .ok (.ireturn, 1) := by decide +kernel
theorem dX9_thousandths_7 : decode cX9_thousandths 7 = .ok (.iload_n 0, 1) := by decide +kernel
theorem dX9_thousandths_8 : decode cX9_thousandths 8 = .ok (.i2f, 1) := by decide +kernel
theorem dX9_thousandths_9 : decode cX9_thousandths 9 = .ok (.iload_n 1, 1) := by decide +kernel
theorem dX9_thousandths_10 : decode cX9_thousandths 10 = .ok (.i2f, 1) := by decide +kernel
theorem dX9_thousandths_11 : decode cX9_thousandths 11 = .ok (.fdiv, 1) := by decide +kernel
theorem dX9_thousandths_12 : decode cX9_thousandths 12 = .ok (.ldc_w 342, 3) := by decide +kernel
theorem dX9_thousandths_15 : decode cX9_thousandths 15 = .ok (.fmul, 1) := by decide +kernel
theorem dX9_thousandths_16 : decode cX9_thousandths 16 = .ok (.f2i, 1) := by decide +kernel
theorem dX9_thousandths_17 : decode cX9_thousandths 17 = .ok (.ireturn, 1) := by decide +kernel
theorem dX9_share_0 : decode cX9_share 0 = .ok (.aload_n 0, 1) := by decide +kernel
theorem dX9_share_1 : decode cX9_share 1 = .ok (.getfield 19, 3) := by decide +kernel
theorem dX9_share_4 : decode cX9_share 4 = .ok (.iload_n 1, 1) := by decide +kernel
theorem dX9_share_5 : decode cX9_share 5 = .ok (.invokevirtual 138, 3) := by decide +kernel
theorem dX9_share_8 : decode cX9_share 8 = .ok (.ifCond .eq 14, 3) := by decide +kernel
theorem dX9_share_11 : decode cX9_share 11 = .ok (.aload_n 0, 1) := by decide +kernel
theorem dX9_share_12 : decode cX9_share 12 = .ok (.getfield 19, 3) := by decide +kernel
theorem dX9_share_15 : decode cX9_share 15 = .ok (.iload_n 2, 1) := by decide +kernel
theorem dX9_share_16 : decode cX9_share 16 = .ok (.invokevirtual 138, 3) := by decide +kernel
theorem dX9_share_19 : decode cX9_share 19 = .ok (.ifCond .ne 6, 3) := by decide +kernel
theorem dX9_share_22 : decode cX9_share 22 = .ok (.ldc 88, 2) := by decide +kernel
theorem dX9_share_24 : decode cX9_share 24 = .ok (.ireturn, 1) := by decide +kernel
theorem dX9_share_25 : decode cX9_share 25 = .ok (.aload_n 0, 1) := by decide +kernel
theorem dX9_share_26 : decode cX9_share 26 = .ok (.getfield 51, 3) := by decide +kernel
theorem dX9_share_29 : decode cX9_share 29 = .ok (.aload_n 0, 1) := by decide +kernel
theorem dX9_share_30 : decode cX9_share 30 = .ok (.getfield 19, 3) := by decide +kernel
theorem dX9_share_33 : decode cX9_share 33 = .ok (.iload_n 1, 1) := by decide +kernel
theorem dX9_share_34 : decode cX9_share 34 = .ok (.invokevirtual 207, 3) := by decide +kernel
theorem dX9_share_37 : decode cX9_share 37 = .ok (.aload_n 0, 1) := by decide +kernel
theorem dX9_share_38 : decode cX9_share 38 = .ok (.getfield 55, 3) := by decide +kernel
theorem dX9_share_41 : decode cX9_share 41 = .ok (.aload_n 0, 1) := by decide +kernel
theorem dX9_share_42 : decode cX9_share 42 = .ok (.getfield 19, 3) := by decide +kernel
theorem dX9_share_45 : decode cX9_share 45 = .ok (.iload_n 2, 1) := by decide +kernel
theorem dX9_share_46 : decode cX9_share 46 = .ok (.invokevirtual 207, 3) := by decide +kernel
theorem dX9_share_49 : decode cX9_share 49 = .ok (.iconst 0, 1) := by decide +kernel
theorem dX9_share_50 : decode cX9_share 50 = .ok (.istore_n 3, 1) := by decide +kernel
theorem dX9_share_51 : decode cX9_share 51 = .ok (.iconst 0, 1) := by decide +kernel
theorem dX9_share_52 : decode cX9_share 52 = .ok (.istore 4, 2) := by decide +kernel
theorem dX9_share_54 : decode cX9_share 54 = .ok (.iconst 0, 1) := by decide +kernel
theorem dX9_share_55 : decode cX9_share 55 = .ok (.istore 5, 2) := by decide +kernel
theorem dX9_share_57 : decode cX9_share 57 = .ok (.iload 5, 2) := by decide +kernel
theorem dX9_share_59 : decode cX9_share 59 = .ok (.aload_n 0, 1) := by decide +kernel
theorem dX9_share_60 : decode cX9_share 60 = .ok (.getfield 19, 3) := by decide +kernel
theorem dX9_share_63 : decode cX9_share 63 = .ok (.invokevirtual 248, 3) := by decide +kernel
theorem dX9_share_66 : decode cX9_share 66 = .ok (.if_icmp .ge 63, 3) := by decide +kernel
theorem dX9_share_69 : decode cX9_share 69 = .ok (.aload_n 0, 1) := by decide +kernel
theorem dX9_share_70 : decode cX9_share 70 = .ok (.getfield 51, 3) := by decide +kernel
theorem dX9_share_73 : decode cX9_share 73 = .ok (.iload 5, 2) := by decide +kernel
theorem dX9_share_75 : decode cX9_share 75 = .ok (.invokevirtual 231, 3) := by decide +kernel
theorem dX9_share_78 : decode cX9_share 78 = .ok (.ifCond .eq 18, 3) := by decide +kernel
theorem dX9_share_81 : decode cX9_share 81 = .ok (.aload_n 0, 1) := by decide +kernel
theorem dX9_share_82 : decode cX9_share 82 = .ok (.getfield 55, 3) := by decide +kernel
theorem dX9_share_85 : decode cX9_share 85 = .ok (.iload 5, 2) := by decide +kernel
theorem dX9_share_87 : decode cX9_share 87 = .ok (.invokevirtual 231, 3) := by decide +kernel
theorem dX9_share_90 : decode cX9_share 90 = .ok (.ifCond .eq 6, 3) := by decide +kernel
theorem dX9_share_93 : decode cX9_share 93 = .ok (.iinc 3 1, 3) := by decide +kernel
theorem dX9_share_96 : decode cX9_share 96 = .ok (.aload_n 0, 1) := by decide +kernel
theorem dX9_share_97 : decode cX9_share 97 = .ok (.getfield 51, 3) := by decide +kernel
theorem dX9_share_100 : decode cX9_share 100 = .ok (.iload 5, 2) := by decide +kernel
theorem dX9_share_102 : decode cX9_share 102 = .ok (.invokevirtual 231, 3) := by decide +kernel
theorem dX9_share_105 : decode cX9_share 105 = .ok (.ifCond .ne 15, 3) := by decide +kernel
theorem dX9_share_108 : decode cX9_share 108 = .ok (.aload_n 0, 1) := by decide +kernel
theorem dX9_share_109 : decode cX9_share 109 = .ok (.getfield 55, 3) := by decide +kernel
theorem dX9_share_112 : decode cX9_share 112 = .ok (.iload 5, 2) := by decide +kernel
theorem dX9_share_114 : decode cX9_share 114 = .ok (.invokevirtual 231, 3) := by decide +kernel
theorem dX9_share_117 : decode cX9_share 117 = .ok (.ifCond .eq 6, 3) := by decide +kernel
theorem dX9_share_120 : decode cX9_share 120 = .ok (.iinc 4 1, 3) := by decide +kernel
theorem dX9_share_123 : decode cX9_share 123 = .ok (.iinc 5 1, 3) := by decide +kernel
theorem dX9_share_126 : decode cX9_share 126 = .ok (.goto (-69), 3) := by decide +kernel
theorem dX9_share_129 : decode cX9_share 129 = .ok (.iload_n 3, 1) := by decide +kernel
theorem dX9_share_130 : decode cX9_share 130 = .ok (.iload 4, 2) := by decide +kernel
theorem dX9_share_132 : decode cX9_share 132 = .ok (.invokestatic 289, 3) := by decide +kernel
theorem dX9_share_135 : decode cX9_share 135 = .ok (.ireturn, 1) := by decide +kernel
theorem dX9_score_0 : decode cX9_score 0 = .ok (.aload_n 0, 1) := by decide +kernel
theorem dX9_score_1 : decode cX9_score 1 = .ok (.getfield 19, 3) := by decide +kernel
theorem dX9_score_4 : decode cX9_score 4 = .ok (.iload_n 1, 1) := by decide +kernel
theorem dX9_score_5 : decode cX9_score 5 = .ok (.invokevirtual 138, 3) := by decide +kernel
theorem dX9_score_8 : decode cX9_score 8 = .ok (.ifCond .eq 12, 3) := by decide +kernel
theorem dX9_score_11 : decode cX9_score 11 = .ok (.iload_n 2, 1) := by decide +kernel
theorem dX9_score_12 : decode cX9_score 12 = .ok (.ifCond .lt 8, 3) := by decide +kernel
theorem dX9_score_15 : decode cX9_score 15 = .ok (.iload_n 2, 1) := by decide +kernel
theorem dX9_score_16 : decode cX9_score 16 = .ok (.iconst 1, 1) := by decide +kernel
theorem dX9_score_17 : decode cX9_score 17 = .ok (.if_icmp .le 6, 3) := by decide +kernel
theorem dX9_score_20 : decode cX9_score 20 = .ok (.ldc 88, 2) := by decide +kernel
theorem dX9_score_22 : decode cX9_score 22 = .ok (.ireturn, 1) := by decide +kernel
theorem dX9_score_23 : decode cX9_score 23 = .ok (.aload_n 0, 1) := by decide +kernel
theorem dX9_score_24 : decode cX9_score 24 = .ok (.iload_n 1, 1) := by decide +kernel
theorem dX9_score_25 : decode cX9_score 25 = .ok (.invokevirtual 328, 3) := by decide +kernel
theorem dX9_score_28 : decode cX9_score 28 = .ok (.istore_n 3, 1) := by decide +kernel
theorem dX9_score_29 : decode cX9_score 29 = .ok (.iload_n 2, 1) := by decide +kernel
theorem dX9_score_30 : decode cX9_score 30 = .ok (.ifCond .ne 7, 3) := by decide +kernel
theorem dX9_score_33 : decode cX9_score 33 = .ok (.iload_n 3, 1) := by decide +kernel
theorem dX9_score_34 : decode cX9_score 34 = .ok (.goto 14, 3) := by decide +kernel
theorem dX9_score_37 : decode cX9_score 37 = .ok (.iload_n 3, 1) := by decide +kernel
theorem dX9_score_38 : decode cX9_score 38 = .ok (.aload_n 0, 1) := by decide +kernel
theorem dX9_score_39 : decode cX9_score 39 = .ok (.getfield 19, 3) := by decide +kernel
theorem dX9_score_42 : decode cX9_score 42 = .ok (.invokevirtual 194, 3) := by decide +kernel
theorem dX9_score_45 : decode cX9_score 45 = .ok (.invokestatic 289, 3) := by decide +kernel
theorem dX9_score_48 : decode cX9_score 48 = .ok (.ireturn, 1) := by decide +kernel
def w_X9_thousandths : List Cond := .code yX9_thousandths cX9_thousandths 2 (some .int) :: ([.constantFloat RX9 342 (1148846080), .constant RX9 206 (-1000000)])
set_option maxHeartbeats 4000000 in
set_option maxRecDepth 100000 in
theorem c_X9_thousandths (l : Launch) (D : va_G) (i_a : Int32) (i_b : Int32) : MetD lw_cs l yX9_thousandths w_X9_thousandths ({ frames := 0, cells := 0, slots := 0, locals := 0 }) (va_Pc [.int i_a, .int i_b] (fun U => va_P D vwCl [] U.heap ∧ va_K D vwCl [] U)) (va_Qi (fun (r : Int32) (_ : Unit) => True) (fun _ _ => True) (fun _ => False)) 0 0 (fun _ => False) := by
  refine MetD.ofW (cs := lw_cs) (cc := cX9_thousandths) (maxL := 2) (ret := (some .int)) (by decide) rfl ?_
  intro p e s m args below meth c s₁ B hml hv hdd
  obtain ⟨d0, hd0, hde⟩ : ∃ d0, s.drawn.sameBut d0 lw_cs ∧ d0 = s.drawn := ⟨_, hdd, rfl⟩
  rw [← hde]
  obtain ⟨rfl, hP, hK⟩ := hv
  have hx := B.exec
  have hb := B.bytes
  have hr := B.returns
  have hts0 := atoms_spec (ws := w_X9_thousandths) B.pre
  have hts := dr_words hts0 d0
  have hown : s.vm.findClass RX9 = some m.cls := findClass_of_methodNamed B.named
  have hlocks := B.notSynchronized
  have hS : va_S (fun _ : Nat => False) s.heap s.heap [] := va_S.rf
  have hP : va_P D vwCl [] s.heap := hP
  have hl := lv_entry ([.int i_a, .int i_b]) (n := 2) (Nat.le_of_ble_eq_true rfl)
  rw [lg_entry_eq]
  generalize (lg_sl ([.int i_a, .int i_b]) ++ List.replicate (2 - (lg_sl ([.int i_a, .int i_b])).length) Slot.unset).toArray = ls at hl ⊢
  have hl : lv_has ls 2 [(0, .int i_a), (1, .int i_b)] := hl
  obtain ⟨H, hHe⟩ : ∃ H : Heap, H = s.heap := ⟨_, rfl⟩
  rw [← hHe] at hP
  have hS : va_S (fun _ : Nat => False) s.heap H [] := by rw [hHe]; exact hS
  have hown : (s.setDrawn d0).vm.findClass RX9 = some m.cls := hown
  have hK : va_K D vwCl [] (s.setDrawn d0) := hK
  refine pw_heap (s := s.setDrawn d0) hHe ?_
  refine lv_iload_n hx hb dX9_thousandths_0 rfl (lv_at hl 1 rfl) ?_
  refine lv_if_ne (tgt := 7) hx hb dX9_thousandths_1 (by decide) (fun c1 => ?_) (fun c1 => ?_)
  · have nc1 : i_b.toInt ≠ 0 := pw_ne c1 rfl (by decide)
    refine lv_iload_n hx hb dX9_thousandths_7 rfl (lv_at hl 0 rfl) ?_
    refine lv_i2f hx hb dX9_thousandths_8 ?_
    refine lv_topf (fun u2 eu2 => ?_)
    refine lv_iload_n hx hb dX9_thousandths_9 rfl (lv_at hl 1 rfl) ?_
    refine lv_i2f hx hb dX9_thousandths_10 ?_
    refine lv_topf (fun u3 eu3 => ?_)
    refine lv_fdiv_any hd0 lw_bits hx hb dX9_thousandths_11 (fun u4 dr5 _ hdr5 => ?_)
    have hts := dr_words hts0 dr5
    have hown : (s.setDrawn dr5).vm.findClass RX9 = some m.cls := hown
    have hK : va_K D vwCl [] (s.setDrawn dr5) := hK
    refine lv_ldcwf hx hb hown (hts (.constantFloat RX9 342 (1148846080)) (List.mem_of_getElem? (i := 1) rfl)) dX9_thousandths_12 ?_
    refine lv_fmul_any hdr5 lw_bits hx hb dX9_thousandths_15 (fun u6 dr7 _ hdr7 => ?_)
    have hts := dr_words hts0 dr7
    have hown : (s.setDrawn dr7).vm.findClass RX9 = some m.cls := hown
    have hK : va_K D vwCl [] (s.setDrawn dr7) := hK
    refine lv_f2i hx hb dX9_thousandths_16 ?_
    refine lv_topi (fun x8 ex8 => ?_)
    refine W.endD hdr7 ?_
    exact W.iret (v := x8) hx hb hr (fun t ht hW => ⟨⟨x8, (), rfl, trivial, trivial⟩, hS.F ht⟩) hS.2.2 dX9_thousandths_17
  · have nc1 : i_b.toInt = 0 := pw_eq c1 rfl (by decide)
    refine lv_ldc hx hb hown (hts (.constant RX9 206 (-1000000)) (List.mem_of_getElem? (i := 2) rfl)) dX9_thousandths_4 ?_
    refine W.endD hd0 ?_
    exact W.iret (v := (-1000000)) hx hb hr (fun t ht hW => ⟨⟨(-1000000), (), rfl, trivial, trivial⟩, hS.F ht⟩) hS.2.2 dX9_thousandths_6
def w_X9_share : List Cond := .code yX9_share cX9_share 6 (some .int) :: ([.fieldLink RX9 19 "LineCites" "now" "LLineCites$Work;", .methodLink RX9 138 yX8_hasEdition, .instanceMethod yX8_hasEdition, .selects RX8 yX8_hasEdition yX8_hasEdition, .initialized RX8, .code yX8_hasEdition cX8_hasEdition 2 (some .boolean), .fieldLink RX8 37 "LineCites$Work" "editions" "I", .fieldLink RX8 9 "LineCites$Work" "stretchCounts" "[I", .constant RX9 88 (-1000001), .fieldLink RX9 51 "LineCites" "one" "LLineCites$Numbering;", .methodLink RX9 207 yX3_fill, .instanceMethod yX3_fill, .selects RX3 yX3_fill yX3_fill, .initialized RX3, .code yX3_fill cX3_fill 4 none, .methodLink RX3 18 yX8_lines, .instanceMethod yX8_lines, .selects RX8 yX8_lines yX8_lines, .code yX8_lines cX8_lines 1 (some .int), .fieldLink RX8 33 "LineCites$Work" "lines" "I", .fieldLink RX3 24 "LineCites$Numbering" "lines" "I", .fieldLink RX3 9 "LineCites$Numbering" "lows" "[I", .fieldLink RX3 15 "LineCites$Numbering" "highs" "[I", .methodLink RX3 27 yX8_stretchesOf, .instanceMethod yX8_stretchesOf, .selects RX8 yX8_stretchesOf yX8_stretchesOf, .code yX8_stretchesOf cX8_stretchesOf 2 (some .int), .methodLink RX8 43 yX8_hasEdition, .methodLink RX3 31 yX8_part, .instanceMethod yX8_part, .selects RX8 yX8_part yX8_part, .code yX8_part cX8_part 5 (some .int), .methodLink RX8 51 yX8_placeOf, .static yX8_placeOf, .code yX8_placeOf cX8_placeOf 3 (some .int), .fieldLink RX8 15 "LineCites$Work" "stretchParts" "[I", .methodLink RX3 35 yX3_fillStretch, .instanceMethod yX3_fillStretch, .selects RX3 yX3_fillStretch yX3_fillStretch, .code yX3_fillStretch cX3_fillStretch 7 none, .initialized RX9, .static yX9_lowOf, .code yX9_lowOf cX9_lowOf 4 (some .int), .static yX9_highOf, .code yX9_highOf cX9_highOf 5 (some .int), .methodLink RX9 343 yX9_lowOf, .fieldLink RX9 55 "LineCites" "other" "LLineCites$Numbering;", .methodLink RX9 248 yX8_lines, .methodLink RX9 231 yX3_isNumbered, .instanceMethod yX3_isNumbered, .selects RX3 yX3_isNumbered yX3_isNumbered, .code yX3_isNumbered cX3_isNumbered 2 (some .boolean), .methodLink RX3 46 yX3_low, .instanceMethod yX3_low, .selects RX3 yX3_low yX3_low, .code yX3_low cX3_low 2 (some .int), .methodLink RX9 289 yX9_thousandths, .static yX9_thousandths, .code yX9_thousandths cX9_thousandths 2 (some .int), .constantFloat RX9 342 (1148846080), .constant RX9 206 (-1000000)] ++ wsX90 ++ wsX80 ++ wsX30)
set_option maxRecDepth 20000 in
theorem g_X9_share_X8_hasEdition : GoodIn w_X9_share (wsV RX9 138 RX8 yX8_hasEdition w_X8_hasEdition) := goodIn_r _ [2, 3, 4, 5, 6, 7, 8, 76, 77, 78, 79, 80, 81, 82, 83] rfl (by decide +kernel)
set_option maxRecDepth 20000 in
theorem g_X9_share_X3_fill : GoodIn w_X9_share (wsV RX9 207 RX3 yX3_fill w_X3_fill) := goodIn_r _ [11, 12, 13, 14, 15, 16, 17, 18, 5, 19, 20, 21, 22, 23, 24, 25, 26, 27, 28, 3, 4, 6, 7, 8, 29, 30, 31, 32, 33, 34, 35, 36, 37, 38, 39, 14, 40, 41, 42, 43, 44, 45, 46, 76, 77, 78, 79, 80, 81, 82, 83, 84, 85, 86] rfl (by decide +kernel)
set_option maxRecDepth 20000 in
theorem g_X9_share_X8_lines : GoodIn w_X9_share (wsV RX9 248 RX8 yX8_lines w_X8_lines) := goodIn_r _ [48, 17, 18, 5, 19, 20, 76, 77, 78, 79, 80, 81, 82, 83] rfl (by decide +kernel)
set_option maxRecDepth 20000 in
theorem g_X9_share_X3_isNumbered : GoodIn w_X9_share (wsV RX9 231 RX3 yX3_isNumbered w_X3_isNumbered) := goodIn_r _ [49, 50, 51, 14, 52, 53, 54, 55, 14, 56, 22, 84, 85, 86] rfl (by decide +kernel)
set_option maxRecDepth 20000 in
theorem g_X9_share_X9_thousandths : GoodIn w_X9_share (wsS RX9 289 yX9_thousandths w_X9_thousandths) := goodIn_r _ [57, 58, 41, 59, 60, 61] rfl (by decide +kernel)
set_option maxHeartbeats 4000000 in
set_option maxRecDepth 100000 in
theorem c_X9_share (l : Launch) (D : va_G) (h0 : Nat) (i_0 : Int32) (i_1 : Int32) (a_tape : Nat) (a_now : Nat) (a_draft : Nat) (a_reader : Nat) (a_acts : Nat) (a_images : Nat) (a_one : Nat) (a_other : Nat) (a_third : Nat) (a_spans : Nat) (a_back : Nat) (a_span : Nat) (a_middle : Nat) (a_reached : Nat) (b_sc : Nat) (b_sp : Nat) (b_cp : Nat) (b_sn : Nat) (b_sl : Nat) (i_li : Int32) (i_ed : Int32) (i_se : Int32) (kI : ClassId) (g_b_sc : Nat → Int32) (g_b_sp : Nat → Int32) (c_lo : Nat) (c_hi : Nat) (c_li : Int32) (g_c_lo : Nat → Int32) (g_c_hi : Nat → Int32) (e_lo : Nat) (e_hi : Nat) (e_li : Int32) (g_e_lo : Nat → Int32) (g_e_hi : Nat → Int32) (sz : Nat) (hg_b_sp : bP g_b_sp) (hg_c_lo : bN g_c_lo) (hg_c_hi : bN g_c_hi) (hg_e_lo : bN g_e_lo) (hg_e_hi : bN g_e_hi) : MetD lw_cs l yX9_share w_X9_share ({ frames := 4, cells := 0, slots := 0, locals := 96 }) (va_Pc [.ref h0, .int i_0, .int i_1] (fun U => U.heap.size = sz ∧ va_P D vwCl [(h0, .inr (9, [.ref a_tape, .ref a_now, .ref a_draft, .ref a_reader, .ref a_acts, .ref a_images, .ref a_one, .ref a_other, .ref a_third, .ref a_spans, .ref a_back, .ref a_span, .ref a_middle, .ref a_reached])), (a_now, .inr (8, [.ref b_sc, .ref b_sp, .ref b_cp, .ref b_sn, .ref b_sl, .int i_li, .int i_ed, .int i_se])), (b_sc, .inl (kI, 5, .inl g_b_sc)), (b_sp, .inl (kI, 120, .inl g_b_sp)), (a_one, .inr (3, [.ref c_lo, .ref c_hi, .int c_li])), (c_lo, .inl (kI, 200, .inl g_c_lo)), (c_hi, .inl (kI, 200, .inl g_c_hi)), (a_other, .inr (3, [.ref e_lo, .ref e_hi, .int e_li])), (e_lo, .inl (kI, 200, .inl g_e_lo)), (e_hi, .inl (kI, 200, .inl g_e_hi))] U.heap ∧ va_K D vwCl [(kI, .int)] U ∧ va_D (fun _ => True) [(h0, .inr (9, [.ref a_tape, .ref a_now, .ref a_draft, .ref a_reader, .ref a_acts, .ref a_images, .ref a_one, .ref a_other, .ref a_third, .ref a_spans, .ref a_back, .ref a_span, .ref a_middle, .ref a_reached])), (a_now, .inr (8, [.ref b_sc, .ref b_sp, .ref b_cp, .ref b_sn, .ref b_sl, .int i_li, .int i_ed, .int i_se])), (b_sc, .inl (kI, 5, .inl g_b_sc)), (b_sp, .inl (kI, 120, .inl g_b_sp)), (a_one, .inr (3, [.ref c_lo, .ref c_hi, .int c_li])), (c_lo, .inl (kI, 200, .inl g_c_lo)), (c_hi, .inl (kI, 200, .inl g_c_hi)), (a_other, .inr (3, [.ref e_lo, .ref e_hi, .int e_li])), (e_lo, .inl (kI, 200, .inl g_e_lo)), (e_hi, .inl (kI, 200, .inl g_e_hi))] ∧ va_Nw (.methodLinkNest RX3 39 yX9_lowOf "LineCites") U ∧ va_Nw (.methodLinkNest RX3 43 yX9_highOf "LineCites") U)) (va_Qi (fun (r : Int32) (_ : Unit) => True) (fun (_ : Unit) t => ∃ (nc_li : Int32) (nc_lo : Nat → Int32) (nc_hi : Nat → Int32) (ne_li : Int32) (ne_lo : Nat → Int32) (ne_hi : Nat → Int32), va_P D vwCl [(h0, .inr (9, [.ref a_tape, .ref a_now, .ref a_draft, .ref a_reader, .ref a_acts, .ref a_images, .ref a_one, .ref a_other, .ref a_third, .ref a_spans, .ref a_back, .ref a_span, .ref a_middle, .ref a_reached])), (a_now, .inr (8, [.ref b_sc, .ref b_sp, .ref b_cp, .ref b_sn, .ref b_sl, .int i_li, .int i_ed, .int i_se])), (b_sc, .inl (kI, 5, .inl g_b_sc)), (b_sp, .inl (kI, 120, .inl g_b_sp)), (a_one, .inr (3, [.ref c_lo, .ref c_hi, .int nc_li])), (c_lo, .inl (kI, 200, .inl nc_lo)), (c_hi, .inl (kI, 200, .inl nc_hi)), (a_other, .inr (3, [.ref e_lo, .ref e_hi, .int ne_li])), (e_lo, .inl (kI, 200, .inl ne_lo)), (e_hi, .inl (kI, 200, .inl ne_hi))] t.heap ∧ va_K D vwCl [(kI, .int)] t ∧ va_D (va_A [(h0, .inr (9, [.ref a_tape, .ref a_now, .ref a_draft, .ref a_reader, .ref a_acts, .ref a_images, .ref a_one, .ref a_other, .ref a_third, .ref a_spans, .ref a_back, .ref a_span, .ref a_middle, .ref a_reached])), (a_now, .inr (8, [.ref b_sc, .ref b_sp, .ref b_cp, .ref b_sn, .ref b_sl, .int i_li, .int i_ed, .int i_se])), (b_sc, .inl (kI, 5, .inl g_b_sc)), (b_sp, .inl (kI, 120, .inl g_b_sp)), (a_one, .inr (3, [.ref c_lo, .ref c_hi, .int c_li])), (c_lo, .inl (kI, 200, .inl g_c_lo)), (c_hi, .inl (kI, 200, .inl g_c_hi)), (a_other, .inr (3, [.ref e_lo, .ref e_hi, .int e_li])), (e_lo, .inl (kI, 200, .inl g_e_lo)), (e_hi, .inl (kI, 200, .inl g_e_hi))] sz) [(h0, .inr (9, [.ref a_tape, .ref a_now, .ref a_draft, .ref a_reader, .ref a_acts, .ref a_images, .ref a_one, .ref a_other, .ref a_third, .ref a_spans, .ref a_back, .ref a_span, .ref a_middle, .ref a_reached])), (a_now, .inr (8, [.ref b_sc, .ref b_sp, .ref b_cp, .ref b_sn, .ref b_sl, .int i_li, .int i_ed, .int i_se])), (b_sc, .inl (kI, 5, .inl g_b_sc)), (b_sp, .inl (kI, 120, .inl g_b_sp)), (a_one, .inr (3, [.ref c_lo, .ref c_hi, .int nc_li])), (c_lo, .inl (kI, 200, .inl nc_lo)), (c_hi, .inl (kI, 200, .inl nc_hi)), (a_other, .inr (3, [.ref e_lo, .ref e_hi, .int ne_li])), (e_lo, .inl (kI, 200, .inl ne_lo)), (e_hi, .inl (kI, 200, .inl ne_hi))] ∧ bN nc_lo ∧ bN nc_hi ∧ bN ne_lo ∧ bN ne_hi) (va_A [(h0, .inr (9, [.ref a_tape, .ref a_now, .ref a_draft, .ref a_reader, .ref a_acts, .ref a_images, .ref a_one, .ref a_other, .ref a_third, .ref a_spans, .ref a_back, .ref a_span, .ref a_middle, .ref a_reached])), (a_now, .inr (8, [.ref b_sc, .ref b_sp, .ref b_cp, .ref b_sn, .ref b_sl, .int i_li, .int i_ed, .int i_se])), (b_sc, .inl (kI, 5, .inl g_b_sc)), (b_sp, .inl (kI, 120, .inl g_b_sp)), (a_one, .inr (3, [.ref c_lo, .ref c_hi, .int c_li])), (c_lo, .inl (kI, 200, .inl g_c_lo)), (c_hi, .inl (kI, 200, .inl g_c_hi)), (a_other, .inr (3, [.ref e_lo, .ref e_hi, .int e_li])), (e_lo, .inl (kI, 200, .inl g_e_lo)), (e_hi, .inl (kI, 200, .inl g_e_hi))] sz)) 0 0 (va_A [(h0, .inr (9, [.ref a_tape, .ref a_now, .ref a_draft, .ref a_reader, .ref a_acts, .ref a_images, .ref a_one, .ref a_other, .ref a_third, .ref a_spans, .ref a_back, .ref a_span, .ref a_middle, .ref a_reached])), (a_now, .inr (8, [.ref b_sc, .ref b_sp, .ref b_cp, .ref b_sn, .ref b_sl, .int i_li, .int i_ed, .int i_se])), (b_sc, .inl (kI, 5, .inl g_b_sc)), (b_sp, .inl (kI, 120, .inl g_b_sp)), (a_one, .inr (3, [.ref c_lo, .ref c_hi, .int c_li])), (c_lo, .inl (kI, 200, .inl g_c_lo)), (c_hi, .inl (kI, 200, .inl g_c_hi)), (a_other, .inr (3, [.ref e_lo, .ref e_hi, .int e_li])), (e_lo, .inl (kI, 200, .inl g_e_lo)), (e_hi, .inl (kI, 200, .inl g_e_hi))] sz) := by
  refine MetD.ofW (cs := lw_cs) (cc := cX9_share) (maxL := 6) (ret := (some .int)) (by decide) rfl ?_
  intro p e s m args below meth c s₁ B hml hv hdd
  obtain ⟨d0, hd0, hde⟩ : ∃ d0, s.drawn.sameBut d0 lw_cs ∧ d0 = s.drawn := ⟨_, hdd, rfl⟩
  rw [← hde]
  obtain ⟨rfl, hsz, hP, hK, hD0, hN3_39, hN3_43⟩ := hv
  have hx := B.exec
  have hb := B.bytes
  have hr := B.returns
  have hts0 := atoms_spec (ws := w_X9_share) B.pre
  have hts := dr_words hts0 d0
  have hown : s.vm.findClass RX9 = some m.cls := findClass_of_methodNamed B.named
  have hlocks := B.notSynchronized
  subst hsz
  have hD := hD0.self (sz := s.heap.size)
  generalize hAe : va_A [(h0, .inr (9, [.ref a_tape, .ref a_now, .ref a_draft, .ref a_reader, .ref a_acts, .ref a_images, .ref a_one, .ref a_other, .ref a_third, .ref a_spans, .ref a_back, .ref a_span, .ref a_middle, .ref a_reached])), (a_now, .inr (8, [.ref b_sc, .ref b_sp, .ref b_cp, .ref b_sn, .ref b_sl, .int i_li, .int i_ed, .int i_se])), (b_sc, .inl (kI, 5, .inl g_b_sc)), (b_sp, .inl (kI, 120, .inl g_b_sp)), (a_one, .inr (3, [.ref c_lo, .ref c_hi, .int c_li])), (c_lo, .inl (kI, 200, .inl g_c_lo)), (c_hi, .inl (kI, 200, .inl g_c_hi)), (a_other, .inr (3, [.ref e_lo, .ref e_hi, .int e_li])), (e_lo, .inl (kI, 200, .inl g_e_lo)), (e_hi, .inl (kI, 200, .inl g_e_hi))] s.heap.size = A at hD ⊢
  have hA : ∀ q : Nat, s.heap.size ≤ q → A q := fun q h => by rw [← hAe]; exact Or.inr h
  have hS : va_S A s.heap s.heap [] := va_S.rf
  have hP : va_P D vwCl [(h0, .inr (9, [.ref a_tape, .ref a_now, .ref a_draft, .ref a_reader, .ref a_acts, .ref a_images, .ref a_one, .ref a_other, .ref a_third, .ref a_spans, .ref a_back, .ref a_span, .ref a_middle, .ref a_reached])), (a_now, .inr (8, [.ref b_sc, .ref b_sp, .ref b_cp, .ref b_sn, .ref b_sl, .int i_li, .int i_ed, .int i_se])), (b_sc, .inl (kI, 5, .inl g_b_sc)), (b_sp, .inl (kI, 120, .inl g_b_sp)), (a_one, .inr (3, [.ref c_lo, .ref c_hi, .int c_li])), (c_lo, .inl (kI, 200, .inl g_c_lo)), (c_hi, .inl (kI, 200, .inl g_c_hi)), (a_other, .inr (3, [.ref e_lo, .ref e_hi, .int e_li])), (e_lo, .inl (kI, 200, .inl g_e_lo)), (e_hi, .inl (kI, 200, .inl g_e_hi))] s.heap := hP
  have hl := lv_entry ([.ref h0, .int i_0, .int i_1]) (n := 6) (Nat.le_of_ble_eq_true rfl)
  rw [lg_entry_eq]
  generalize (lg_sl ([.ref h0, .int i_0, .int i_1]) ++ List.replicate (6 - (lg_sl ([.ref h0, .int i_0, .int i_1])).length) Slot.unset).toArray = ls at hl ⊢
  have hl : lv_has ls 6 [(0, .ref h0), (1, .int i_0), (2, .int i_1)] := hl
  obtain ⟨H, hHe⟩ : ∃ H : Heap, H = s.heap := ⟨_, rfl⟩
  rw [← hHe] at hP
  have hS : va_S A s.heap H [] := by rw [hHe]; exact hS
  have hown : (s.setDrawn d0).vm.findClass RX9 = some m.cls := hown
  have hK : va_K D vwCl [(kI, .int)] (s.setDrawn d0) := hK
  refine pw_heap (s := s.setDrawn d0) hHe ?_
  refine lv_aload_n hx hb dX9_share_0 rfl (lv_at hl 0 rfl) ?_
  refine va_get (D := D) (ci := 9) (v := .ref a_now) (C := RX9) (T := TX9) (N := 14) hx hb hts (fun _ h => List.mem_cons_of_mem _ (List.mem_append_left _ (List.mem_append_left _ (List.mem_append_right _ h)))) hown hK hP 0 rfl rfl 1 (by decide) (hts (.fieldLink RX9 19 "LineCites" "now" "LLineCites$Work;") (List.mem_of_getElem? (i := 1) rfl)) (fun _ h9 => h9) rfl dX9_share_1 ?_
  refine lv_iload_n hx hb dX9_share_4 rfl (lv_at hl 1 rfl) ?_
  have hPc := hP.sub (ws' := [(a_now, .inr (8, [.ref b_sc, .ref b_sp, .ref b_cp, .ref b_sn, .ref b_sl, .int i_li, .int i_ed, .int i_se])), (b_sc, .inl (kI, 5, .inl g_b_sc))]) [1, 2] rfl
  have hKc := hK.sub (tys' := [(kI, .int)]) [0] rfl
  refine va_calli (va_runV (As := [.int i_0]) (rest := []) ⟨hx, hb, hml, hown, hts⟩ (c_X8_hasEdition l D a_now i_0 b_sc b_sp b_cp b_sn b_sl i_li i_ed i_se kI g_b_sc) (cwV 1 hts g_X9_share_X8_hasEdition rfl rfl rfl (by decide +kernel) ⟨Nat.le_of_ble_eq_true rfl, Nat.le_of_ble_eq_true rfl⟩) ⟨fun a U g mk q => by obtain ⟨q0, qP, qK⟩ := q; exact ⟨q0, qP, va_K.moved (u := U) (U := U.calling g mk a) (Vm.Alike.refl U.vm) qK⟩, va_recv hKc hPc (ci := 8) (q0 := 0) rfl rfl, fun U hU hW => ⟨rfl, by rw [hU]; exact hPc, va_K.moved hW.alike hKc⟩⟩ rfl rfl hl.1 rfl (lv_room (Nat.le_of_ble_eq_true rfl)) dX9_share_5 ⟨Nat.le_of_ble_eq_true rfl, Nat.le_of_ble_eq_true rfl⟩) hS (fun _ _ h => h.elim) (fun _ h => h.elim) (fun r1 u t H1 locs ht hvm hw hB hz1 hk1 hS => ?_)
  have hP := pw_keep hP (fun q hq => hk1 q hq (fun h => h))
  generalize H1 = H at hP hS ⊢
  refine W.widen (k := 0) (n := 0) (Nat.le_of_ble_eq_true rfl) (Nat.le_of_ble_eq_true rfl) ?_
  have bor1 := hw.1
  have zor1 := pw_boolI bor1
  have hfr1 := hw.2
  refine lv_if_eq (tgt := 22) hx hb dX9_share_8 (by decide) (fun c2 => ?_) (fun c2 => ?_)
  · have nc2 : r1.toInt = 0 := pw_eq c2 rfl (by decide)
    refine lv_ldc hx hb hown (hts (.constant RX9 88 (-1000001)) (List.mem_of_getElem? (i := 9) rfl)) dX9_share_22 ?_
    refine W.endD hd0 ?_
    have hP9 := hP.sub (ws' := [(h0, .inr (9, [.ref a_tape, .ref a_now, .ref a_draft, .ref a_reader, .ref a_acts, .ref a_images, .ref a_one, .ref a_other, .ref a_third, .ref a_spans, .ref a_back, .ref a_span, .ref a_middle, .ref a_reached])), (a_now, .inr (8, [.ref b_sc, .ref b_sp, .ref b_cp, .ref b_sn, .ref b_sl, .int i_li, .int i_ed, .int i_se])), (b_sc, .inl (kI, 5, .inl g_b_sc)), (b_sp, .inl (kI, 120, .inl g_b_sp)), (a_one, .inr (3, [.ref c_lo, .ref c_hi, .int c_li])), (c_lo, .inl (kI, 200, .inl g_c_lo)), (c_hi, .inl (kI, 200, .inl g_c_hi)), (a_other, .inr (3, [.ref e_lo, .ref e_hi, .int e_li])), (e_lo, .inl (kI, 200, .inl g_e_lo)), (e_hi, .inl (kI, 200, .inl g_e_hi))]) [0, 1, 2, 3, 4, 5, 6, 7, 8, 9] rfl
    have hD9 := hD.sub (ws' := [(h0, .inr (9, [.ref a_tape, .ref a_now, .ref a_draft, .ref a_reader, .ref a_acts, .ref a_images, .ref a_one, .ref a_other, .ref a_third, .ref a_spans, .ref a_back, .ref a_span, .ref a_middle, .ref a_reached])), (a_now, .inr (8, [.ref b_sc, .ref b_sp, .ref b_cp, .ref b_sn, .ref b_sl, .int i_li, .int i_ed, .int i_se])), (b_sc, .inl (kI, 5, .inl g_b_sc)), (b_sp, .inl (kI, 120, .inl g_b_sp)), (a_one, .inr (3, [.ref c_lo, .ref c_hi, .int c_li])), (c_lo, .inl (kI, 200, .inl g_c_lo)), (c_hi, .inl (kI, 200, .inl g_c_hi)), (a_other, .inr (3, [.ref e_lo, .ref e_hi, .int e_li])), (e_lo, .inl (kI, 200, .inl g_e_lo)), (e_hi, .inl (kI, 200, .inl g_e_hi))]) [0, 1, 2, 3, 4, 5, 6, 7, 8, 9] (by decide) rfl
    have hK9 := hK.sub (tys' := [(kI, .int)]) [0] rfl
    refine W.widen (k := 0) (n := 0) (Nat.le_of_ble_eq_true rfl) (Nat.le_of_ble_eq_true rfl) ?_
    exact W.iret (v := (-1000001)) hx hb hr (fun t ht hW => ⟨⟨(-1000001), (), rfl, trivial, c_li, g_c_lo, g_c_hi, e_li, g_e_lo, g_e_hi, by rw [ht]; exact hP9, va_K.moved hW.alike hK9, hD9, hg_c_lo, hg_c_hi, hg_e_lo, hg_e_hi⟩, hS.F ht⟩) hS.2.2 dX9_share_24
  · have nc2 : r1.toInt ≠ 0 := pw_ne c2 rfl (by decide)
    refine lv_aload_n hx hb dX9_share_11 rfl (lv_at hl 0 rfl) ?_
    refine va_get (D := D) (ci := 9) (v := .ref a_now) (C := RX9) (T := TX9) (N := 14) hx hb hts (fun _ h => List.mem_cons_of_mem _ (List.mem_append_left _ (List.mem_append_left _ (List.mem_append_right _ h)))) hown hK hP 0 rfl rfl 1 (by decide) (hts (.fieldLink RX9 19 "LineCites" "now" "LLineCites$Work;") (List.mem_of_getElem? (i := 1) rfl)) (fun _ h9 => h9) rfl dX9_share_12 ?_
    refine lv_iload_n hx hb dX9_share_15 rfl (lv_at hl 2 rfl) ?_
    have hPc := hP.sub (ws' := [(a_now, .inr (8, [.ref b_sc, .ref b_sp, .ref b_cp, .ref b_sn, .ref b_sl, .int i_li, .int i_ed, .int i_se])), (b_sc, .inl (kI, 5, .inl g_b_sc))]) [1, 2] rfl
    have hKc := hK.sub (tys' := [(kI, .int)]) [0] rfl
    refine va_calli (va_runV (As := [.int i_1]) (rest := []) ⟨hx, hb, hml, hown, hts⟩ (c_X8_hasEdition l D a_now i_1 b_sc b_sp b_cp b_sn b_sl i_li i_ed i_se kI g_b_sc) (cwV 1 hts g_X9_share_X8_hasEdition rfl rfl rfl (by decide +kernel) ⟨Nat.le_of_ble_eq_true rfl, Nat.le_of_ble_eq_true rfl⟩) ⟨fun a U g mk q => by obtain ⟨q0, qP, qK⟩ := q; exact ⟨q0, qP, va_K.moved (u := U) (U := U.calling g mk a) (Vm.Alike.refl U.vm) qK⟩, va_recv hKc hPc (ci := 8) (q0 := 0) rfl rfl, fun U hU hW => ⟨rfl, by rw [hU]; exact hPc, va_K.moved hW.alike hKc⟩⟩ rfl rfl hl.1 rfl (lv_room (Nat.le_of_ble_eq_true rfl)) dX9_share_16 ⟨Nat.le_of_ble_eq_true rfl, Nat.le_of_ble_eq_true rfl⟩) hS (fun _ _ h => h.elim) (fun _ h => h.elim) (fun r3 u t H1 locs ht hvm hw hB hz1 hk1 hS => ?_)
    have hP := pw_keep hP (fun q hq => hk1 q hq (fun h => h))
    generalize H1 = H at hP hS ⊢
    refine W.widen (k := 0) (n := 0) (Nat.le_of_ble_eq_true rfl) (Nat.le_of_ble_eq_true rfl) ?_
    have bor3 := hw.1
    have zor3 := pw_boolI bor3
    have hfr3 := hw.2
    refine lv_if_ne (tgt := 25) hx hb dX9_share_19 (by decide) (fun c4 => ?_) (fun c4 => ?_)
    · have nc4 : r3.toInt ≠ 0 := pw_ne c4 rfl (by decide)
      refine lv_aload_n hx hb dX9_share_25 rfl (lv_at hl 0 rfl) ?_
      refine va_get (D := D) (ci := 9) (v := .ref a_one) (C := RX9) (T := TX9) (N := 14) hx hb hts (fun _ h => List.mem_cons_of_mem _ (List.mem_append_left _ (List.mem_append_left _ (List.mem_append_right _ h)))) hown hK hP 0 rfl rfl 6 (by decide) (hts (.fieldLink RX9 51 "LineCites" "one" "LLineCites$Numbering;") (List.mem_of_getElem? (i := 10) rfl)) (fun _ h9 => h9) rfl dX9_share_26 ?_
      refine lv_aload_n hx hb dX9_share_29 rfl (lv_at hl 0 rfl) ?_
      refine va_get (D := D) (ci := 9) (v := .ref a_now) (C := RX9) (T := TX9) (N := 14) hx hb hts (fun _ h => List.mem_cons_of_mem _ (List.mem_append_left _ (List.mem_append_left _ (List.mem_append_right _ h)))) hown hK hP 0 rfl rfl 1 (by decide) (hts (.fieldLink RX9 19 "LineCites" "now" "LLineCites$Work;") (List.mem_of_getElem? (i := 1) rfl)) (fun _ h9 => h9) rfl dX9_share_30 ?_
      refine lv_iload_n hx hb dX9_share_33 rfl (lv_at hl 1 rfl) ?_
      have hPc := hP.sub (ws' := [(a_one, .inr (3, [.ref c_lo, .ref c_hi, .int c_li])), (c_lo, .inl (kI, 200, .inl g_c_lo)), (c_hi, .inl (kI, 200, .inl g_c_hi)), (a_now, .inr (8, [.ref b_sc, .ref b_sp, .ref b_cp, .ref b_sn, .ref b_sl, .int i_li, .int i_ed, .int i_se])), (b_sc, .inl (kI, 5, .inl g_b_sc)), (b_sp, .inl (kI, 120, .inl g_b_sp))]) [4, 5, 6, 1, 2, 3] rfl
      have hKc := hK.sub (tys' := [(kI, .int)]) [0] rfl
      have hDc := hD.sub (ws' := [(a_one, .inr (3, [.ref c_lo, .ref c_hi, .int c_li])), (c_lo, .inl (kI, 200, .inl g_c_lo)), (c_hi, .inl (kI, 200, .inl g_c_hi)), (a_now, .inr (8, [.ref b_sc, .ref b_sp, .ref b_cp, .ref b_sn, .ref b_sl, .int i_li, .int i_ed, .int i_se])), (b_sc, .inl (kI, 5, .inl g_b_sc)), (b_sp, .inl (kI, 120, .inl g_b_sp))]) [4, 5, 6, 1, 2, 3] (by decide) rfl
      have hFc := va_free (wc := [(a_one, .inr (3, [.ref c_lo, .ref c_hi, .int c_li])), (c_lo, .inl (kI, 200, .inl g_c_lo)), (c_hi, .inl (kI, 200, .inl g_c_hi)), (a_now, .inr (8, [.ref b_sc, .ref b_sp, .ref b_cp, .ref b_sn, .ref b_sl, .int i_li, .int i_ed, .int i_se])), (b_sc, .inl (kI, 5, .inl g_b_sc)), (b_sp, .inl (kI, 120, .inl g_b_sp))]) hD hS hA [4, 5, 6, 1, 2, 3] rfl
      refine va_callv (va_runV (As := [.ref a_now, .int i_0]) (rest := []) ⟨hx, hb, hml, hown, hts⟩ (c_X3_fill l D a_one a_now i_0 c_lo c_hi c_li kI g_c_lo g_c_hi b_sc b_sp b_cp b_sn b_sl i_li i_ed i_se g_b_sc g_b_sp H.size hg_c_lo hg_c_hi hg_b_sp) (cwV 2 hts g_X9_share_X3_fill rfl rfl rfl (by decide +kernel) ⟨Nat.le_of_ble_eq_true rfl, Nat.le_of_ble_eq_true rfl⟩) ⟨fun a U g mk q => by obtain ⟨q0, q1, qP, qK, qD, qE0, qE1⟩ := q; exact ⟨q0, q1, qP, va_K.moved (u := U) (U := U.calling g mk a) (Vm.Alike.refl U.vm) qK, qD, va_Nw.same rfl rfl qE0, va_Nw.same rfl rfl qE1⟩, va_recv hKc hPc (ci := 3) (q0 := 0) rfl rfl, fun U hU hW => ⟨rfl, by rw [hU], by rw [hU]; exact hPc, va_K.moved hW.alike hKc, hDc.weaken (fun _ _ _ _ => trivial), va_Nw.warmM hW hN3_39, va_Nw.warmM hW hN3_43⟩⟩ rfl rfl hl.1 rfl (lv_room (Nat.le_of_ble_eq_true rfl)) dX9_share_34 ⟨Nat.le_of_ble_eq_true rfl, Nat.le_of_ble_eq_true rfl⟩) hS (fun q _ h => hFc q h) hFc (fun u t H1 locs ht hvm hw hB hz1 hk1 hS => ?_)
      obtain ⟨y6, y7, y8, hP1, hK1, hD1, hy7, hy8⟩ := hB
      rw [ht] at hP1
      have hK1 := va_K.moved hvm.symm hK1
      obtain ⟨hP, hD⟩ := va_join (wr := [(h0, .inr (9, [.ref a_tape, .ref a_now, .ref a_draft, .ref a_reader, .ref a_acts, .ref a_images, .ref a_one, .ref a_other, .ref a_third, .ref a_spans, .ref a_back, .ref a_span, .ref a_middle, .ref a_reached])), (a_other, .inr (3, [.ref e_lo, .ref e_hi, .int e_li])), (e_lo, .inl (kI, 200, .inl g_e_lo)), (e_hi, .inl (kI, 200, .inl g_e_hi))]) (w1 := [(a_one, .inr (3, [.ref c_lo, .ref c_hi, .int y6])), (c_lo, .inl (kI, 200, .inl y7)), (c_hi, .inl (kI, 200, .inl y8)), (a_now, .inr (8, [.ref b_sc, .ref b_sp, .ref b_cp, .ref b_sn, .ref b_sl, .int i_li, .int i_ed, .int i_se])), (b_sc, .inl (kI, 5, .inl g_b_sc)), (b_sp, .inl (kI, 120, .inl g_b_sp))]) hP hD [4, 5, 6, 1, 2, 3] [0, 7, 8, 9] rfl rfl (by decide) (by decide) hk1 hFc hP1 hD1
      have hK := (hK.sub (tys' := [(kI, .int)]) [0] rfl).app hK1
      generalize H1 = H at hP hS ⊢
      have hP : va_P D vwCl [(h0, .inr (9, [.ref a_tape, .ref a_now, .ref a_draft, .ref a_reader, .ref a_acts, .ref a_images, .ref a_one, .ref a_other, .ref a_third, .ref a_spans, .ref a_back, .ref a_span, .ref a_middle, .ref a_reached])), (a_other, .inr (3, [.ref e_lo, .ref e_hi, .int e_li])), (e_lo, .inl (kI, 200, .inl g_e_lo)), (e_hi, .inl (kI, 200, .inl g_e_hi)), (a_one, .inr (3, [.ref c_lo, .ref c_hi, .int y6])), (c_lo, .inl (kI, 200, .inl y7)), (c_hi, .inl (kI, 200, .inl y8)), (a_now, .inr (8, [.ref b_sc, .ref b_sp, .ref b_cp, .ref b_sn, .ref b_sl, .int i_li, .int i_ed, .int i_se])), (b_sc, .inl (kI, 5, .inl g_b_sc)), (b_sp, .inl (kI, 120, .inl g_b_sp))] H := hP
      have hD : va_D A [(h0, .inr (9, [.ref a_tape, .ref a_now, .ref a_draft, .ref a_reader, .ref a_acts, .ref a_images, .ref a_one, .ref a_other, .ref a_third, .ref a_spans, .ref a_back, .ref a_span, .ref a_middle, .ref a_reached])), (a_other, .inr (3, [.ref e_lo, .ref e_hi, .int e_li])), (e_lo, .inl (kI, 200, .inl g_e_lo)), (e_hi, .inl (kI, 200, .inl g_e_hi)), (a_one, .inr (3, [.ref c_lo, .ref c_hi, .int y6])), (c_lo, .inl (kI, 200, .inl y7)), (c_hi, .inl (kI, 200, .inl y8)), (a_now, .inr (8, [.ref b_sc, .ref b_sp, .ref b_cp, .ref b_sn, .ref b_sl, .int i_li, .int i_ed, .int i_se])), (b_sc, .inl (kI, 5, .inl g_b_sc)), (b_sp, .inl (kI, 120, .inl g_b_sp))] := hD
      have hK : va_K D vwCl [(kI, .int), (kI, .int)] (s.setDrawn d0) := hK
      refine W.widen (k := 0) (n := 0) (Nat.le_of_ble_eq_true rfl) (Nat.le_of_ble_eq_true rfl) ?_
      refine lv_aload_n hx hb dX9_share_37 rfl (lv_at hl 0 rfl) ?_
      refine va_get (D := D) (ci := 9) (v := .ref a_other) (C := RX9) (T := TX9) (N := 14) hx hb hts (fun _ h => List.mem_cons_of_mem _ (List.mem_append_left _ (List.mem_append_left _ (List.mem_append_right _ h)))) hown hK hP 0 rfl rfl 7 (by decide) (hts (.fieldLink RX9 55 "LineCites" "other" "LLineCites$Numbering;") (List.mem_of_getElem? (i := 47) rfl)) (fun _ h9 => h9) rfl dX9_share_38 ?_
      refine lv_aload_n hx hb dX9_share_41 rfl (lv_at hl 0 rfl) ?_
      refine va_get (D := D) (ci := 9) (v := .ref a_now) (C := RX9) (T := TX9) (N := 14) hx hb hts (fun _ h => List.mem_cons_of_mem _ (List.mem_append_left _ (List.mem_append_left _ (List.mem_append_right _ h)))) hown hK hP 0 rfl rfl 1 (by decide) (hts (.fieldLink RX9 19 "LineCites" "now" "LLineCites$Work;") (List.mem_of_getElem? (i := 1) rfl)) (fun _ h9 => h9) rfl dX9_share_42 ?_
      refine lv_iload_n hx hb dX9_share_45 rfl (lv_at hl 2 rfl) ?_
      have hPc := hP.sub (ws' := [(a_other, .inr (3, [.ref e_lo, .ref e_hi, .int e_li])), (e_lo, .inl (kI, 200, .inl g_e_lo)), (e_hi, .inl (kI, 200, .inl g_e_hi)), (a_now, .inr (8, [.ref b_sc, .ref b_sp, .ref b_cp, .ref b_sn, .ref b_sl, .int i_li, .int i_ed, .int i_se])), (b_sc, .inl (kI, 5, .inl g_b_sc)), (b_sp, .inl (kI, 120, .inl g_b_sp))]) [1, 2, 3, 7, 8, 9] rfl
      have hKc := hK.sub (tys' := [(kI, .int)]) [0] rfl
      have hDc := hD.sub (ws' := [(a_other, .inr (3, [.ref e_lo, .ref e_hi, .int e_li])), (e_lo, .inl (kI, 200, .inl g_e_lo)), (e_hi, .inl (kI, 200, .inl g_e_hi)), (a_now, .inr (8, [.ref b_sc, .ref b_sp, .ref b_cp, .ref b_sn, .ref b_sl, .int i_li, .int i_ed, .int i_se])), (b_sc, .inl (kI, 5, .inl g_b_sc)), (b_sp, .inl (kI, 120, .inl g_b_sp))]) [1, 2, 3, 7, 8, 9] (by decide) rfl
      have hFc := va_free (wc := [(a_other, .inr (3, [.ref e_lo, .ref e_hi, .int e_li])), (e_lo, .inl (kI, 200, .inl g_e_lo)), (e_hi, .inl (kI, 200, .inl g_e_hi)), (a_now, .inr (8, [.ref b_sc, .ref b_sp, .ref b_cp, .ref b_sn, .ref b_sl, .int i_li, .int i_ed, .int i_se])), (b_sc, .inl (kI, 5, .inl g_b_sc)), (b_sp, .inl (kI, 120, .inl g_b_sp))]) hD hS hA [1, 2, 3, 7, 8, 9] rfl
      refine va_callv (va_runV (As := [.ref a_now, .int i_1]) (rest := []) ⟨hx, hb, hml, hown, hts⟩ (c_X3_fill l D a_other a_now i_1 e_lo e_hi e_li kI g_e_lo g_e_hi b_sc b_sp b_cp b_sn b_sl i_li i_ed i_se g_b_sc g_b_sp H.size hg_e_lo hg_e_hi hg_b_sp) (cwV 2 hts g_X9_share_X3_fill rfl rfl rfl (by decide +kernel) ⟨Nat.le_of_ble_eq_true rfl, Nat.le_of_ble_eq_true rfl⟩) ⟨fun a U g mk q => by obtain ⟨q0, q1, qP, qK, qD, qE0, qE1⟩ := q; exact ⟨q0, q1, qP, va_K.moved (u := U) (U := U.calling g mk a) (Vm.Alike.refl U.vm) qK, qD, va_Nw.same rfl rfl qE0, va_Nw.same rfl rfl qE1⟩, va_recv hKc hPc (ci := 3) (q0 := 0) rfl rfl, fun U hU hW => ⟨rfl, by rw [hU], by rw [hU]; exact hPc, va_K.moved hW.alike hKc, hDc.weaken (fun _ _ _ _ => trivial), va_Nw.warmM hW hN3_39, va_Nw.warmM hW hN3_43⟩⟩ rfl rfl hl.1 rfl (lv_room (Nat.le_of_ble_eq_true rfl)) dX9_share_46 ⟨Nat.le_of_ble_eq_true rfl, Nat.le_of_ble_eq_true rfl⟩) hS (fun q _ h => hFc q h) hFc (fun u t H1 locs ht hvm hw hB hz1 hk1 hS => ?_)
      obtain ⟨y10, y11, y12, hP1, hK1, hD1, hy11, hy12⟩ := hB
      rw [ht] at hP1
      have hK1 := va_K.moved hvm.symm hK1
      obtain ⟨hP, hD⟩ := va_join (wr := [(h0, .inr (9, [.ref a_tape, .ref a_now, .ref a_draft, .ref a_reader, .ref a_acts, .ref a_images, .ref a_one, .ref a_other, .ref a_third, .ref a_spans, .ref a_back, .ref a_span, .ref a_middle, .ref a_reached])), (a_one, .inr (3, [.ref c_lo, .ref c_hi, .int y6])), (c_lo, .inl (kI, 200, .inl y7)), (c_hi, .inl (kI, 200, .inl y8))]) (w1 := [(a_other, .inr (3, [.ref e_lo, .ref e_hi, .int y10])), (e_lo, .inl (kI, 200, .inl y11)), (e_hi, .inl (kI, 200, .inl y12)), (a_now, .inr (8, [.ref b_sc, .ref b_sp, .ref b_cp, .ref b_sn, .ref b_sl, .int i_li, .int i_ed, .int i_se])), (b_sc, .inl (kI, 5, .inl g_b_sc)), (b_sp, .inl (kI, 120, .inl g_b_sp))]) hP hD [1, 2, 3, 7, 8, 9] [0, 4, 5, 6] rfl rfl (by decide) (by decide) hk1 hFc hP1 hD1
      have hK := (hK.sub (tys' := [(kI, .int), (kI, .int)]) [0, 1] rfl).app hK1
      generalize H1 = H at hP hS ⊢
      have hP : va_P D vwCl [(h0, .inr (9, [.ref a_tape, .ref a_now, .ref a_draft, .ref a_reader, .ref a_acts, .ref a_images, .ref a_one, .ref a_other, .ref a_third, .ref a_spans, .ref a_back, .ref a_span, .ref a_middle, .ref a_reached])), (a_one, .inr (3, [.ref c_lo, .ref c_hi, .int y6])), (c_lo, .inl (kI, 200, .inl y7)), (c_hi, .inl (kI, 200, .inl y8)), (a_other, .inr (3, [.ref e_lo, .ref e_hi, .int y10])), (e_lo, .inl (kI, 200, .inl y11)), (e_hi, .inl (kI, 200, .inl y12)), (a_now, .inr (8, [.ref b_sc, .ref b_sp, .ref b_cp, .ref b_sn, .ref b_sl, .int i_li, .int i_ed, .int i_se])), (b_sc, .inl (kI, 5, .inl g_b_sc)), (b_sp, .inl (kI, 120, .inl g_b_sp))] H := hP
      have hD : va_D A [(h0, .inr (9, [.ref a_tape, .ref a_now, .ref a_draft, .ref a_reader, .ref a_acts, .ref a_images, .ref a_one, .ref a_other, .ref a_third, .ref a_spans, .ref a_back, .ref a_span, .ref a_middle, .ref a_reached])), (a_one, .inr (3, [.ref c_lo, .ref c_hi, .int y6])), (c_lo, .inl (kI, 200, .inl y7)), (c_hi, .inl (kI, 200, .inl y8)), (a_other, .inr (3, [.ref e_lo, .ref e_hi, .int y10])), (e_lo, .inl (kI, 200, .inl y11)), (e_hi, .inl (kI, 200, .inl y12)), (a_now, .inr (8, [.ref b_sc, .ref b_sp, .ref b_cp, .ref b_sn, .ref b_sl, .int i_li, .int i_ed, .int i_se])), (b_sc, .inl (kI, 5, .inl g_b_sc)), (b_sp, .inl (kI, 120, .inl g_b_sp))] := hD
      have hK : va_K D vwCl [(kI, .int), (kI, .int), (kI, .int)] (s.setDrawn d0) := hK
      refine W.widen (k := 0) (n := 0) (Nat.le_of_ble_eq_true rfl) (Nat.le_of_ble_eq_true rfl) ?_
      refine lv_iconst (v := 0) hx hb dX9_share_49 (by decide) ?_
      refine lv_istore_n (lv' := [(3, .int 0), (0, .ref h0), (1, .int i_0), (2, .int i_1)]) hx hb dX9_share_50 rfl hl (by decide) rfl (fun ls hl => ?_)
      refine lv_iconst (v := 0) hx hb dX9_share_51 (by decide) ?_
      refine lv_istore (lv' := [(4, .int 0), (3, .int 0), (0, .ref h0), (1, .int i_0), (2, .int i_1)]) hx hb dX9_share_52 hl (by decide) rfl (fun ls hl => ?_)
      refine lv_iconst (v := 0) hx hb dX9_share_54 (by decide) ?_
      refine lv_istore (lv' := [(5, .int 0), (4, .int 0), (3, .int 0), (0, .ref h0), (1, .int i_0), (2, .int i_1)]) hx hb dX9_share_55 hl (by decide) rfl (fun ls hl => ?_)
      have hl9 : lv_has ls 6 [(0, .ref h0), (1, .int i_0), (2, .int i_1), (3, .int 0), (4, .int 0), (5, .int 0)] := lv_sub hl [3, 4, 5, 2, 1, 0] rfl
      refine pw_loop (fun (zz : Int32 × Int32 × Int32) H locs ls => match zz with | (v112, v113, v114) => va_P D vwCl [(h0, .inr (9, [.ref a_tape, .ref a_now, .ref a_draft, .ref a_reader, .ref a_acts, .ref a_images, .ref a_one, .ref a_other, .ref a_third, .ref a_spans, .ref a_back, .ref a_span, .ref a_middle, .ref a_reached])), (a_one, .inr (3, [.ref c_lo, .ref c_hi, .int y6])), (c_lo, .inl (kI, 200, .inl y7)), (c_hi, .inl (kI, 200, .inl y8)), (a_other, .inr (3, [.ref e_lo, .ref e_hi, .int y10])), (e_lo, .inl (kI, 200, .inl y11)), (e_hi, .inl (kI, 200, .inl y12)), (a_now, .inr (8, [.ref b_sc, .ref b_sp, .ref b_cp, .ref b_sn, .ref b_sl, .int i_li, .int i_ed, .int i_se])), (b_sc, .inl (kI, 5, .inl g_b_sc)), (b_sp, .inl (kI, 120, .inl g_b_sp))] H ∧ va_D A [(h0, .inr (9, [.ref a_tape, .ref a_now, .ref a_draft, .ref a_reader, .ref a_acts, .ref a_images, .ref a_one, .ref a_other, .ref a_third, .ref a_spans, .ref a_back, .ref a_span, .ref a_middle, .ref a_reached])), (a_one, .inr (3, [.ref c_lo, .ref c_hi, .int y6])), (c_lo, .inl (kI, 200, .inl y7)), (c_hi, .inl (kI, 200, .inl y8)), (a_other, .inr (3, [.ref e_lo, .ref e_hi, .int y10])), (e_lo, .inl (kI, 200, .inl y11)), (e_hi, .inl (kI, 200, .inl y12)), (a_now, .inr (8, [.ref b_sc, .ref b_sp, .ref b_cp, .ref b_sn, .ref b_sl, .int i_li, .int i_ed, .int i_se])), (b_sc, .inl (kI, 5, .inl g_b_sc)), (b_sp, .inl (kI, 120, .inl g_b_sp))] ∧ va_S A s.heap H locs ∧ lv_has ls 6 [(0, .ref h0), (1, .int i_0), (2, .int i_1), (3, .int v112), (4, .int v113), (5, .int v114)] ∧ 0 ≤ v114.toInt) (fun (zz : Int32 × Int32 × Int32)  => match zz with | (v112, v113, v114) => (2147483648 - v114.toInt).toNat) 0 0 (fun (zz : Int32 × Int32 × Int32) ls => match zz with | (v112, v113, v114) => F0 m 57 ls []) (fun zz H locs ls ih115 hI => ?_) (0, 0, 0) _ _ _ ⟨hP, hD, hS, hl9, (by decide)⟩
      obtain ⟨v112, v113, v114⟩ := zz
      obtain ⟨hP, hD, hS, hl, bv114⟩ := hI
      have bv114 : 0 ≤ v114.toInt := bv114
      have hP : va_P D vwCl [(h0, .inr (9, [.ref a_tape, .ref a_now, .ref a_draft, .ref a_reader, .ref a_acts, .ref a_images, .ref a_one, .ref a_other, .ref a_third, .ref a_spans, .ref a_back, .ref a_span, .ref a_middle, .ref a_reached])), (a_one, .inr (3, [.ref c_lo, .ref c_hi, .int y6])), (c_lo, .inl (kI, 200, .inl y7)), (c_hi, .inl (kI, 200, .inl y8)), (a_other, .inr (3, [.ref e_lo, .ref e_hi, .int y10])), (e_lo, .inl (kI, 200, .inl y11)), (e_hi, .inl (kI, 200, .inl y12)), (a_now, .inr (8, [.ref b_sc, .ref b_sp, .ref b_cp, .ref b_sn, .ref b_sl, .int i_li, .int i_ed, .int i_se])), (b_sc, .inl (kI, 5, .inl g_b_sc)), (b_sp, .inl (kI, 120, .inl g_b_sp))] H := hP
      have hD : va_D A [(h0, .inr (9, [.ref a_tape, .ref a_now, .ref a_draft, .ref a_reader, .ref a_acts, .ref a_images, .ref a_one, .ref a_other, .ref a_third, .ref a_spans, .ref a_back, .ref a_span, .ref a_middle, .ref a_reached])), (a_one, .inr (3, [.ref c_lo, .ref c_hi, .int y6])), (c_lo, .inl (kI, 200, .inl y7)), (c_hi, .inl (kI, 200, .inl y8)), (a_other, .inr (3, [.ref e_lo, .ref e_hi, .int y10])), (e_lo, .inl (kI, 200, .inl y11)), (e_hi, .inl (kI, 200, .inl y12)), (a_now, .inr (8, [.ref b_sc, .ref b_sp, .ref b_cp, .ref b_sn, .ref b_sl, .int i_li, .int i_ed, .int i_se])), (b_sc, .inl (kI, 5, .inl g_b_sc)), (b_sp, .inl (kI, 120, .inl g_b_sp))] := hD
      have hK : va_K D vwCl [(kI, .int), (kI, .int), (kI, .int)] (s.setDrawn d0) := hK
      have hl : lv_has ls 6 [(0, .ref h0), (1, .int i_0), (2, .int i_1), (3, .int v112), (4, .int v113), (5, .int v114)] := hl
      refine W.eq (g2 := F0 m 57 ls []) rfl ?_
      refine lv_iload hx hb dX9_share_57 (lv_at hl 5 rfl) ?_
      refine lv_aload_n hx hb dX9_share_59 rfl (lv_at hl 0 rfl) ?_
      refine va_get (D := D) (ci := 9) (v := .ref a_now) (C := RX9) (T := TX9) (N := 14) hx hb hts (fun _ h => List.mem_cons_of_mem _ (List.mem_append_left _ (List.mem_append_left _ (List.mem_append_right _ h)))) hown hK hP 0 rfl rfl 1 (by decide) (hts (.fieldLink RX9 19 "LineCites" "now" "LLineCites$Work;") (List.mem_of_getElem? (i := 1) rfl)) (fun _ h9 => h9) rfl dX9_share_60 ?_
      have hPc := hP.sub (ws' := [(a_now, .inr (8, [.ref b_sc, .ref b_sp, .ref b_cp, .ref b_sn, .ref b_sl, .int i_li, .int i_ed, .int i_se]))]) [7] rfl
      have hKc := hK.sub (tys' := []) [] rfl
      refine va_calli (va_runV (As := []) (rest := [.int v114]) ⟨hx, hb, hml, hown, hts⟩ (c_X8_lines l D a_now b_sc b_sp b_cp b_sn b_sl i_li i_ed i_se) (cwV 0 hts g_X9_share_X8_lines rfl rfl rfl (by decide +kernel) ⟨Nat.le_of_ble_eq_true rfl, Nat.le_of_ble_eq_true rfl⟩) ⟨fun a U g mk q => by obtain ⟨q0, qP, qK⟩ := q; exact ⟨q0, qP, va_K.moved (u := U) (U := U.calling g mk a) (Vm.Alike.refl U.vm) qK⟩, va_recv hKc hPc (ci := 8) (q0 := 0) rfl rfl, fun U hU hW => ⟨rfl, by rw [hU]; exact hPc, va_K.moved hW.alike hKc⟩⟩ rfl rfl hl.1 rfl (lv_room (Nat.le_of_ble_eq_true rfl)) dX9_share_63 ⟨Nat.le_of_ble_eq_true rfl, Nat.le_of_ble_eq_true rfl⟩) hS (fun _ _ h => h.elim) (fun _ h => h.elim) (fun r116 u t H1 locs ht hvm hw hB hz1 hk1 hS => ?_)
      have hP := pw_keep hP (fun q hq => hk1 q hq (fun h => h))
      generalize H1 = H at hP hS ⊢
      refine W.widen (k := 0) (n := 0) (Nat.le_of_ble_eq_true rfl) (Nat.le_of_ble_eq_true rfl) ?_
      rw [show r116 = i_li from hw]
      refine lv_icmp_ge (tgt := 129) hx hb dX9_share_66 (by decide) (fun c143 => ?_) (fun c143 => ?_)
      · have nc143 : i_li.toInt ≤ v114.toInt := pw_le c143 rfl rfl
        have mc143v114 := pw_max v114
        have mc143i_li := pw_max i_li
        refine lv_iload_n hx hb dX9_share_129 rfl (lv_at hl 3 rfl) ?_
        refine lv_iload hx hb dX9_share_130 (lv_at hl 4 rfl) ?_
        have hPc := hP.sub (ws' := []) [] rfl
        have hKc := hK.sub (tys' := []) [] rfl
        refine va_calliD hd0 (va_runS_D (As := [.int v112, .int v113]) (rest := []) ⟨hx, hb, hml, hown, hts⟩ (c_X9_thousandths l D v112 v113) (cwS 2 hts g_X9_share_X9_thousandths rfl rfl rfl (by decide +kernel) ⟨Nat.le_of_ble_eq_true rfl, Nat.le_of_ble_eq_true rfl⟩) ⟨fun a U g mk q => by obtain ⟨q0, qP, qK⟩ := q; exact ⟨q0, qP, va_K.moved (u := U) (U := U.calling g mk a) (Vm.Alike.refl U.vm) qK⟩, fun U hU hW => ⟨rfl, by rw [hU]; exact hPc, va_K.moved hW.alike hKc⟩⟩ rfl rfl hl.1 rfl (lv_room (Nat.le_of_ble_eq_true rfl)) dX9_share_132 ⟨Nat.le_of_ble_eq_true rfl, Nat.le_of_ble_eq_true rfl⟩) hS (fun _ _ h => h.elim) (fun _ h => h.elim) (fun r144 u t H1 locs ht hvm hw hB hz1 hk1 hS dr145 hdr145 => ?_)
        have hts := dr_words hts0 dr145
        have hown : (s.setDrawn dr145).vm.findClass RX9 = some m.cls := hown
        have hK : va_K D vwCl [(kI, .int), (kI, .int), (kI, .int)] (s.setDrawn dr145) := hK
        have hP := pw_keep hP (fun q hq => hk1 q hq (fun h => h))
        generalize H1 = H at hP hS ⊢
        refine W.widen (k := 0) (n := 0) (Nat.le_of_ble_eq_true rfl) (Nat.le_of_ble_eq_true rfl) ?_
        refine W.endD hdr145 ?_
        have hP9 := hP.sub (ws' := [(h0, .inr (9, [.ref a_tape, .ref a_now, .ref a_draft, .ref a_reader, .ref a_acts, .ref a_images, .ref a_one, .ref a_other, .ref a_third, .ref a_spans, .ref a_back, .ref a_span, .ref a_middle, .ref a_reached])), (a_now, .inr (8, [.ref b_sc, .ref b_sp, .ref b_cp, .ref b_sn, .ref b_sl, .int i_li, .int i_ed, .int i_se])), (b_sc, .inl (kI, 5, .inl g_b_sc)), (b_sp, .inl (kI, 120, .inl g_b_sp)), (a_one, .inr (3, [.ref c_lo, .ref c_hi, .int y6])), (c_lo, .inl (kI, 200, .inl y7)), (c_hi, .inl (kI, 200, .inl y8)), (a_other, .inr (3, [.ref e_lo, .ref e_hi, .int y10])), (e_lo, .inl (kI, 200, .inl y11)), (e_hi, .inl (kI, 200, .inl y12))]) [0, 7, 8, 9, 1, 2, 3, 4, 5, 6] rfl
        have hD9 := hD.sub (ws' := [(h0, .inr (9, [.ref a_tape, .ref a_now, .ref a_draft, .ref a_reader, .ref a_acts, .ref a_images, .ref a_one, .ref a_other, .ref a_third, .ref a_spans, .ref a_back, .ref a_span, .ref a_middle, .ref a_reached])), (a_now, .inr (8, [.ref b_sc, .ref b_sp, .ref b_cp, .ref b_sn, .ref b_sl, .int i_li, .int i_ed, .int i_se])), (b_sc, .inl (kI, 5, .inl g_b_sc)), (b_sp, .inl (kI, 120, .inl g_b_sp)), (a_one, .inr (3, [.ref c_lo, .ref c_hi, .int y6])), (c_lo, .inl (kI, 200, .inl y7)), (c_hi, .inl (kI, 200, .inl y8)), (a_other, .inr (3, [.ref e_lo, .ref e_hi, .int y10])), (e_lo, .inl (kI, 200, .inl y11)), (e_hi, .inl (kI, 200, .inl y12))]) [0, 7, 8, 9, 1, 2, 3, 4, 5, 6] (by decide) rfl
        have hK9 := hK.sub (tys' := [(kI, .int)]) [0] rfl
        refine W.widen (k := 0) (n := 0) (Nat.le_of_ble_eq_true rfl) (Nat.le_of_ble_eq_true rfl) ?_
        exact W.iret (v := r144) hx hb hr (fun t ht hW => ⟨⟨r144, (), rfl, trivial, y6, y7, y8, y10, y11, y12, by rw [ht]; exact hP9, va_K.moved hW.alike hK9, hD9, hy7, hy8, hy11, hy12⟩, hS.F ht⟩) hS.2.2 dX9_share_135
      · have nc143 : v114.toInt < i_li.toInt := pw_nle c143 rfl rfl
        have mc143v114 := pw_max v114
        have mc143i_li := pw_max i_li
        refine lv_aload_n hx hb dX9_share_69 rfl (lv_at hl 0 rfl) ?_
        refine va_get (D := D) (ci := 9) (v := .ref a_one) (C := RX9) (T := TX9) (N := 14) hx hb hts (fun _ h => List.mem_cons_of_mem _ (List.mem_append_left _ (List.mem_append_left _ (List.mem_append_right _ h)))) hown hK hP 0 rfl rfl 6 (by decide) (hts (.fieldLink RX9 51 "LineCites" "one" "LLineCites$Numbering;") (List.mem_of_getElem? (i := 10) rfl)) (fun _ h9 => h9) rfl dX9_share_70 ?_
        refine lv_iload hx hb dX9_share_73 (lv_at hl 5 rfl) ?_
        have hPc := hP.sub (ws' := [(a_one, .inr (3, [.ref c_lo, .ref c_hi, .int y6])), (c_lo, .inl (kI, 200, .inl y7))]) [1, 2] rfl
        have hKc := hK.sub (tys' := [(kI, .int)]) [0] rfl
        refine va_calli (va_runV (As := [.int v114]) (rest := []) ⟨hx, hb, hml, hown, hts⟩ (c_X3_isNumbered l D a_one v114 c_lo c_hi y6 kI y7 hy7) (cwV 1 hts g_X9_share_X3_isNumbered rfl rfl rfl (by decide +kernel) ⟨Nat.le_of_ble_eq_true rfl, Nat.le_of_ble_eq_true rfl⟩) ⟨fun a U g mk q => by obtain ⟨q0, qP, qK⟩ := q; exact ⟨q0, qP, va_K.moved (u := U) (U := U.calling g mk a) (Vm.Alike.refl U.vm) qK⟩, va_recv hKc hPc (ci := 3) (q0 := 0) rfl rfl, fun U hU hW => ⟨rfl, by rw [hU]; exact hPc, va_K.moved hW.alike hKc⟩⟩ rfl rfl hl.1 rfl (lv_room (Nat.le_of_ble_eq_true rfl)) dX9_share_75 ⟨Nat.le_of_ble_eq_true rfl, Nat.le_of_ble_eq_true rfl⟩) hS (fun _ _ h => h.elim) (fun _ h => h.elim) (fun r146 u t H1 locs ht hvm hw hB hz1 hk1 hS => ?_)
        have hP := pw_keep hP (fun q hq => hk1 q hq (fun h => h))
        generalize H1 = H at hP hS ⊢
        refine W.widen (k := 0) (n := 0) (Nat.le_of_ble_eq_true rfl) (Nat.le_of_ble_eq_true rfl) ?_
        have bor146 := hw.1
        have zor146 := pw_boolI bor146
        refine pw_join (fun (v151 : Int32) H locs ls => va_P D vwCl [(h0, .inr (9, [.ref a_tape, .ref a_now, .ref a_draft, .ref a_reader, .ref a_acts, .ref a_images, .ref a_one, .ref a_other, .ref a_third, .ref a_spans, .ref a_back, .ref a_span, .ref a_middle, .ref a_reached])), (a_one, .inr (3, [.ref c_lo, .ref c_hi, .int y6])), (c_lo, .inl (kI, 200, .inl y7)), (c_hi, .inl (kI, 200, .inl y8)), (a_other, .inr (3, [.ref e_lo, .ref e_hi, .int y10])), (e_lo, .inl (kI, 200, .inl y11)), (e_hi, .inl (kI, 200, .inl y12)), (a_now, .inr (8, [.ref b_sc, .ref b_sp, .ref b_cp, .ref b_sn, .ref b_sl, .int i_li, .int i_ed, .int i_se])), (b_sc, .inl (kI, 5, .inl g_b_sc)), (b_sp, .inl (kI, 120, .inl g_b_sp))] H ∧ va_D A [(h0, .inr (9, [.ref a_tape, .ref a_now, .ref a_draft, .ref a_reader, .ref a_acts, .ref a_images, .ref a_one, .ref a_other, .ref a_third, .ref a_spans, .ref a_back, .ref a_span, .ref a_middle, .ref a_reached])), (a_one, .inr (3, [.ref c_lo, .ref c_hi, .int y6])), (c_lo, .inl (kI, 200, .inl y7)), (c_hi, .inl (kI, 200, .inl y8)), (a_other, .inr (3, [.ref e_lo, .ref e_hi, .int y10])), (e_lo, .inl (kI, 200, .inl y11)), (e_hi, .inl (kI, 200, .inl y12)), (a_now, .inr (8, [.ref b_sc, .ref b_sp, .ref b_cp, .ref b_sn, .ref b_sl, .int i_li, .int i_ed, .int i_se])), (b_sc, .inl (kI, 5, .inl g_b_sc)), (b_sp, .inl (kI, 120, .inl g_b_sp))] ∧ va_S A s.heap H locs ∧ lv_has ls 6 [(0, .ref h0), (1, .int i_0), (2, .int i_1), (3, .int v151), (4, .int v113), (5, .int v114)]) 0 0 (fun (v151 : Int32) ls => F0 m 96 ls []) (fun v151 H locs ls hI => ?_) (fun hJ152 => ?_)
        ·
          obtain ⟨hP, hD, hS, hl⟩ := hI
          have hP : va_P D vwCl [(h0, .inr (9, [.ref a_tape, .ref a_now, .ref a_draft, .ref a_reader, .ref a_acts, .ref a_images, .ref a_one, .ref a_other, .ref a_third, .ref a_spans, .ref a_back, .ref a_span, .ref a_middle, .ref a_reached])), (a_one, .inr (3, [.ref c_lo, .ref c_hi, .int y6])), (c_lo, .inl (kI, 200, .inl y7)), (c_hi, .inl (kI, 200, .inl y8)), (a_other, .inr (3, [.ref e_lo, .ref e_hi, .int y10])), (e_lo, .inl (kI, 200, .inl y11)), (e_hi, .inl (kI, 200, .inl y12)), (a_now, .inr (8, [.ref b_sc, .ref b_sp, .ref b_cp, .ref b_sn, .ref b_sl, .int i_li, .int i_ed, .int i_se])), (b_sc, .inl (kI, 5, .inl g_b_sc)), (b_sp, .inl (kI, 120, .inl g_b_sp))] H := hP
          have hD : va_D A [(h0, .inr (9, [.ref a_tape, .ref a_now, .ref a_draft, .ref a_reader, .ref a_acts, .ref a_images, .ref a_one, .ref a_other, .ref a_third, .ref a_spans, .ref a_back, .ref a_span, .ref a_middle, .ref a_reached])), (a_one, .inr (3, [.ref c_lo, .ref c_hi, .int y6])), (c_lo, .inl (kI, 200, .inl y7)), (c_hi, .inl (kI, 200, .inl y8)), (a_other, .inr (3, [.ref e_lo, .ref e_hi, .int y10])), (e_lo, .inl (kI, 200, .inl y11)), (e_hi, .inl (kI, 200, .inl y12)), (a_now, .inr (8, [.ref b_sc, .ref b_sp, .ref b_cp, .ref b_sn, .ref b_sl, .int i_li, .int i_ed, .int i_se])), (b_sc, .inl (kI, 5, .inl g_b_sc)), (b_sp, .inl (kI, 120, .inl g_b_sp))] := hD
          have hK : va_K D vwCl [(kI, .int), (kI, .int), (kI, .int)] (s.setDrawn d0) := hK
          have hl : lv_has ls 6 [(0, .ref h0), (1, .int i_0), (2, .int i_1), (3, .int v151), (4, .int v113), (5, .int v114)] := hl
          refine W.eq (g2 := F0 m 96 ls []) rfl ?_
          refine lv_aload_n hx hb dX9_share_96 rfl (lv_at hl 0 rfl) ?_
          refine va_get (D := D) (ci := 9) (v := .ref a_one) (C := RX9) (T := TX9) (N := 14) hx hb hts (fun _ h => List.mem_cons_of_mem _ (List.mem_append_left _ (List.mem_append_left _ (List.mem_append_right _ h)))) hown hK hP 0 rfl rfl 6 (by decide) (hts (.fieldLink RX9 51 "LineCites" "one" "LLineCites$Numbering;") (List.mem_of_getElem? (i := 10) rfl)) (fun _ h9 => h9) rfl dX9_share_97 ?_
          refine lv_iload hx hb dX9_share_100 (lv_at hl 5 rfl) ?_
          have hPc := hP.sub (ws' := [(a_one, .inr (3, [.ref c_lo, .ref c_hi, .int y6])), (c_lo, .inl (kI, 200, .inl y7))]) [1, 2] rfl
          have hKc := hK.sub (tys' := [(kI, .int)]) [0] rfl
          refine va_calli (va_runV (As := [.int v114]) (rest := []) ⟨hx, hb, hml, hown, hts⟩ (c_X3_isNumbered l D a_one v114 c_lo c_hi y6 kI y7 hy7) (cwV 1 hts g_X9_share_X3_isNumbered rfl rfl rfl (by decide +kernel) ⟨Nat.le_of_ble_eq_true rfl, Nat.le_of_ble_eq_true rfl⟩) ⟨fun a U g mk q => by obtain ⟨q0, qP, qK⟩ := q; exact ⟨q0, qP, va_K.moved (u := U) (U := U.calling g mk a) (Vm.Alike.refl U.vm) qK⟩, va_recv hKc hPc (ci := 3) (q0 := 0) rfl rfl, fun U hU hW => ⟨rfl, by rw [hU]; exact hPc, va_K.moved hW.alike hKc⟩⟩ rfl rfl hl.1 rfl (lv_room (Nat.le_of_ble_eq_true rfl)) dX9_share_102 ⟨Nat.le_of_ble_eq_true rfl, Nat.le_of_ble_eq_true rfl⟩) hS (fun _ _ h => h.elim) (fun _ h => h.elim) (fun r153 u t H1 locs ht hvm hw hB hz1 hk1 hS => ?_)
          have hP := pw_keep hP (fun q hq => hk1 q hq (fun h => h))
          generalize H1 = H at hP hS ⊢
          refine W.widen (k := 0) (n := 0) (Nat.le_of_ble_eq_true rfl) (Nat.le_of_ble_eq_true rfl) ?_
          have bor153 := hw.1
          have zor153 := pw_boolI bor153
          refine pw_join (fun (v159 : Int32) H locs ls => va_P D vwCl [(h0, .inr (9, [.ref a_tape, .ref a_now, .ref a_draft, .ref a_reader, .ref a_acts, .ref a_images, .ref a_one, .ref a_other, .ref a_third, .ref a_spans, .ref a_back, .ref a_span, .ref a_middle, .ref a_reached])), (a_one, .inr (3, [.ref c_lo, .ref c_hi, .int y6])), (c_lo, .inl (kI, 200, .inl y7)), (c_hi, .inl (kI, 200, .inl y8)), (a_other, .inr (3, [.ref e_lo, .ref e_hi, .int y10])), (e_lo, .inl (kI, 200, .inl y11)), (e_hi, .inl (kI, 200, .inl y12)), (a_now, .inr (8, [.ref b_sc, .ref b_sp, .ref b_cp, .ref b_sn, .ref b_sl, .int i_li, .int i_ed, .int i_se])), (b_sc, .inl (kI, 5, .inl g_b_sc)), (b_sp, .inl (kI, 120, .inl g_b_sp))] H ∧ va_D A [(h0, .inr (9, [.ref a_tape, .ref a_now, .ref a_draft, .ref a_reader, .ref a_acts, .ref a_images, .ref a_one, .ref a_other, .ref a_third, .ref a_spans, .ref a_back, .ref a_span, .ref a_middle, .ref a_reached])), (a_one, .inr (3, [.ref c_lo, .ref c_hi, .int y6])), (c_lo, .inl (kI, 200, .inl y7)), (c_hi, .inl (kI, 200, .inl y8)), (a_other, .inr (3, [.ref e_lo, .ref e_hi, .int y10])), (e_lo, .inl (kI, 200, .inl y11)), (e_hi, .inl (kI, 200, .inl y12)), (a_now, .inr (8, [.ref b_sc, .ref b_sp, .ref b_cp, .ref b_sn, .ref b_sl, .int i_li, .int i_ed, .int i_se])), (b_sc, .inl (kI, 5, .inl g_b_sc)), (b_sp, .inl (kI, 120, .inl g_b_sp))] ∧ va_S A s.heap H locs ∧ lv_has ls 6 [(0, .ref h0), (1, .int i_0), (2, .int i_1), (3, .int v151), (4, .int v159), (5, .int v114)]) 0 0 (fun (v159 : Int32) ls => F0 m 123 ls []) (fun v159 H locs ls hI => ?_) (fun hJ160 => ?_)
          ·
            obtain ⟨hP, hD, hS, hl⟩ := hI
            have hP : va_P D vwCl [(h0, .inr (9, [.ref a_tape, .ref a_now, .ref a_draft, .ref a_reader, .ref a_acts, .ref a_images, .ref a_one, .ref a_other, .ref a_third, .ref a_spans, .ref a_back, .ref a_span, .ref a_middle, .ref a_reached])), (a_one, .inr (3, [.ref c_lo, .ref c_hi, .int y6])), (c_lo, .inl (kI, 200, .inl y7)), (c_hi, .inl (kI, 200, .inl y8)), (a_other, .inr (3, [.ref e_lo, .ref e_hi, .int y10])), (e_lo, .inl (kI, 200, .inl y11)), (e_hi, .inl (kI, 200, .inl y12)), (a_now, .inr (8, [.ref b_sc, .ref b_sp, .ref b_cp, .ref b_sn, .ref b_sl, .int i_li, .int i_ed, .int i_se])), (b_sc, .inl (kI, 5, .inl g_b_sc)), (b_sp, .inl (kI, 120, .inl g_b_sp))] H := hP
            have hD : va_D A [(h0, .inr (9, [.ref a_tape, .ref a_now, .ref a_draft, .ref a_reader, .ref a_acts, .ref a_images, .ref a_one, .ref a_other, .ref a_third, .ref a_spans, .ref a_back, .ref a_span, .ref a_middle, .ref a_reached])), (a_one, .inr (3, [.ref c_lo, .ref c_hi, .int y6])), (c_lo, .inl (kI, 200, .inl y7)), (c_hi, .inl (kI, 200, .inl y8)), (a_other, .inr (3, [.ref e_lo, .ref e_hi, .int y10])), (e_lo, .inl (kI, 200, .inl y11)), (e_hi, .inl (kI, 200, .inl y12)), (a_now, .inr (8, [.ref b_sc, .ref b_sp, .ref b_cp, .ref b_sn, .ref b_sl, .int i_li, .int i_ed, .int i_se])), (b_sc, .inl (kI, 5, .inl g_b_sc)), (b_sp, .inl (kI, 120, .inl g_b_sp))] := hD
            have hK : va_K D vwCl [(kI, .int), (kI, .int), (kI, .int)] (s.setDrawn d0) := hK
            have hl : lv_has ls 6 [(0, .ref h0), (1, .int i_0), (2, .int i_1), (3, .int v151), (4, .int v159), (5, .int v114)] := hl
            refine W.eq (g2 := F0 m 123 ls []) rfl ?_
            obtain ⟨x161, ex161⟩ : ∃ y : Int32, y = v114 + 1 := ⟨_, rfl⟩
            refine lv_iinc (v := x161) (lv' := [(5, .int x161), (0, .ref h0), (1, .int i_0), (2, .int i_1), (3, .int v151), (4, .int v159)]) hx hb dX9_share_123 hl (k := 5) rfl (by rw [ex161]; rfl) (by decide) rfl (fun ls hl => ?_)
            refine lv_goto (tgt := 57) hx hb dX9_share_126 (by decide) ?_
            have hP9 : va_P D vwCl [(h0, .inr (9, [.ref a_tape, .ref a_now, .ref a_draft, .ref a_reader, .ref a_acts, .ref a_images, .ref a_one, .ref a_other, .ref a_third, .ref a_spans, .ref a_back, .ref a_span, .ref a_middle, .ref a_reached])), (a_one, .inr (3, [.ref c_lo, .ref c_hi, .int y6])), (c_lo, .inl (kI, 200, .inl y7)), (c_hi, .inl (kI, 200, .inl y8)), (a_other, .inr (3, [.ref e_lo, .ref e_hi, .int y10])), (e_lo, .inl (kI, 200, .inl y11)), (e_hi, .inl (kI, 200, .inl y12)), (a_now, .inr (8, [.ref b_sc, .ref b_sp, .ref b_cp, .ref b_sn, .ref b_sl, .int i_li, .int i_ed, .int i_se])), (b_sc, .inl (kI, 5, .inl g_b_sc)), (b_sp, .inl (kI, 120, .inl g_b_sp))] H := hP.sub [0, 1, 2, 3, 4, 5, 6, 7, 8, 9] rfl
            have hD9 : va_D A [(h0, .inr (9, [.ref a_tape, .ref a_now, .ref a_draft, .ref a_reader, .ref a_acts, .ref a_images, .ref a_one, .ref a_other, .ref a_third, .ref a_spans, .ref a_back, .ref a_span, .ref a_middle, .ref a_reached])), (a_one, .inr (3, [.ref c_lo, .ref c_hi, .int y6])), (c_lo, .inl (kI, 200, .inl y7)), (c_hi, .inl (kI, 200, .inl y8)), (a_other, .inr (3, [.ref e_lo, .ref e_hi, .int y10])), (e_lo, .inl (kI, 200, .inl y11)), (e_hi, .inl (kI, 200, .inl y12)), (a_now, .inr (8, [.ref b_sc, .ref b_sp, .ref b_cp, .ref b_sn, .ref b_sl, .int i_li, .int i_ed, .int i_se])), (b_sc, .inl (kI, 5, .inl g_b_sc)), (b_sp, .inl (kI, 120, .inl g_b_sp))] := hD.sub [0, 1, 2, 3, 4, 5, 6, 7, 8, 9] (by decide) rfl
            have hl9 : lv_has ls 6 [(0, .ref h0), (1, .int i_0), (2, .int i_1), (3, .int v151), (4, .int v159), (5, .int x161)] := lv_sub hl [1, 2, 3, 4, 5, 0] rfl
            refine W.widen (k := 0) (n := 0) (Nat.le_of_ble_eq_true rfl) (Nat.le_of_ble_eq_true rfl) ?_
            exact ih115 (v151, v159, x161) _ _ _ (pw_up ex161 (by omega)) ⟨hP9, hD9, hS, hl9, (pw_upge ex161 (by omega) (by omega))⟩
          ·
            refine lv_if_ne (tgt := 120) hx hb dX9_share_105 (by decide) (fun c162 => ?_) (fun c162 => ?_)
            · have nc162 : r153.toInt ≠ 0 := pw_ne c162 rfl (by decide)
              obtain ⟨x163, ex163⟩ : ∃ y : Int32, y = v113 + 1 := ⟨_, rfl⟩
              refine lv_iinc (v := x163) (lv' := [(4, .int x163), (0, .ref h0), (1, .int i_0), (2, .int i_1), (3, .int v151), (5, .int v114)]) hx hb dX9_share_120 hl (k := 4) rfl (by rw [ex163]; rfl) (by decide) rfl (fun ls hl => ?_)
              have hP9 : va_P D vwCl [(h0, .inr (9, [.ref a_tape, .ref a_now, .ref a_draft, .ref a_reader, .ref a_acts, .ref a_images, .ref a_one, .ref a_other, .ref a_third, .ref a_spans, .ref a_back, .ref a_span, .ref a_middle, .ref a_reached])), (a_one, .inr (3, [.ref c_lo, .ref c_hi, .int y6])), (c_lo, .inl (kI, 200, .inl y7)), (c_hi, .inl (kI, 200, .inl y8)), (a_other, .inr (3, [.ref e_lo, .ref e_hi, .int y10])), (e_lo, .inl (kI, 200, .inl y11)), (e_hi, .inl (kI, 200, .inl y12)), (a_now, .inr (8, [.ref b_sc, .ref b_sp, .ref b_cp, .ref b_sn, .ref b_sl, .int i_li, .int i_ed, .int i_se])), (b_sc, .inl (kI, 5, .inl g_b_sc)), (b_sp, .inl (kI, 120, .inl g_b_sp))] H := hP.sub [0, 1, 2, 3, 4, 5, 6, 7, 8, 9] rfl
              have hD9 : va_D A [(h0, .inr (9, [.ref a_tape, .ref a_now, .ref a_draft, .ref a_reader, .ref a_acts, .ref a_images, .ref a_one, .ref a_other, .ref a_third, .ref a_spans, .ref a_back, .ref a_span, .ref a_middle, .ref a_reached])), (a_one, .inr (3, [.ref c_lo, .ref c_hi, .int y6])), (c_lo, .inl (kI, 200, .inl y7)), (c_hi, .inl (kI, 200, .inl y8)), (a_other, .inr (3, [.ref e_lo, .ref e_hi, .int y10])), (e_lo, .inl (kI, 200, .inl y11)), (e_hi, .inl (kI, 200, .inl y12)), (a_now, .inr (8, [.ref b_sc, .ref b_sp, .ref b_cp, .ref b_sn, .ref b_sl, .int i_li, .int i_ed, .int i_se])), (b_sc, .inl (kI, 5, .inl g_b_sc)), (b_sp, .inl (kI, 120, .inl g_b_sp))] := hD.sub [0, 1, 2, 3, 4, 5, 6, 7, 8, 9] (by decide) rfl
              have hl9 : lv_has ls 6 [(0, .ref h0), (1, .int i_0), (2, .int i_1), (3, .int v151), (4, .int x163), (5, .int v114)] := lv_sub hl [1, 2, 3, 4, 0, 5] rfl
              refine W.widen (k := 0) (n := 0) (Nat.le_of_ble_eq_true rfl) (Nat.le_of_ble_eq_true rfl) ?_
              exact hJ160 x163 _ _ _ ⟨hP9, hD9, hS, hl9⟩
            · have nc162 : r153.toInt = 0 := pw_eq c162 rfl (by decide)
              refine lv_aload_n hx hb dX9_share_108 rfl (lv_at hl 0 rfl) ?_
              refine va_get (D := D) (ci := 9) (v := .ref a_other) (C := RX9) (T := TX9) (N := 14) hx hb hts (fun _ h => List.mem_cons_of_mem _ (List.mem_append_left _ (List.mem_append_left _ (List.mem_append_right _ h)))) hown hK hP 0 rfl rfl 7 (by decide) (hts (.fieldLink RX9 55 "LineCites" "other" "LLineCites$Numbering;") (List.mem_of_getElem? (i := 47) rfl)) (fun _ h9 => h9) rfl dX9_share_109 ?_
              refine lv_iload hx hb dX9_share_112 (lv_at hl 5 rfl) ?_
              have hPc := hP.sub (ws' := [(a_other, .inr (3, [.ref e_lo, .ref e_hi, .int y10])), (e_lo, .inl (kI, 200, .inl y11))]) [4, 5] rfl
              have hKc := hK.sub (tys' := [(kI, .int)]) [0] rfl
              refine va_calli (va_runV (As := [.int v114]) (rest := []) ⟨hx, hb, hml, hown, hts⟩ (c_X3_isNumbered l D a_other v114 e_lo e_hi y10 kI y11 hy11) (cwV 1 hts g_X9_share_X3_isNumbered rfl rfl rfl (by decide +kernel) ⟨Nat.le_of_ble_eq_true rfl, Nat.le_of_ble_eq_true rfl⟩) ⟨fun a U g mk q => by obtain ⟨q0, qP, qK⟩ := q; exact ⟨q0, qP, va_K.moved (u := U) (U := U.calling g mk a) (Vm.Alike.refl U.vm) qK⟩, va_recv hKc hPc (ci := 3) (q0 := 0) rfl rfl, fun U hU hW => ⟨rfl, by rw [hU]; exact hPc, va_K.moved hW.alike hKc⟩⟩ rfl rfl hl.1 rfl (lv_room (Nat.le_of_ble_eq_true rfl)) dX9_share_114 ⟨Nat.le_of_ble_eq_true rfl, Nat.le_of_ble_eq_true rfl⟩) hS (fun _ _ h => h.elim) (fun _ h => h.elim) (fun r164 u t H1 locs ht hvm hw hB hz1 hk1 hS => ?_)
              have hP := pw_keep hP (fun q hq => hk1 q hq (fun h => h))
              generalize H1 = H at hP hS ⊢
              refine W.widen (k := 0) (n := 0) (Nat.le_of_ble_eq_true rfl) (Nat.le_of_ble_eq_true rfl) ?_
              have bor164 := hw.1
              have zor164 := pw_boolI bor164
              refine lv_if_eq (tgt := 123) hx hb dX9_share_117 (by decide) (fun c165 => ?_) (fun c165 => ?_)
              · have nc165 : r164.toInt = 0 := pw_eq c165 rfl (by decide)
                have hP9 : va_P D vwCl [(h0, .inr (9, [.ref a_tape, .ref a_now, .ref a_draft, .ref a_reader, .ref a_acts, .ref a_images, .ref a_one, .ref a_other, .ref a_third, .ref a_spans, .ref a_back, .ref a_span, .ref a_middle, .ref a_reached])), (a_one, .inr (3, [.ref c_lo, .ref c_hi, .int y6])), (c_lo, .inl (kI, 200, .inl y7)), (c_hi, .inl (kI, 200, .inl y8)), (a_other, .inr (3, [.ref e_lo, .ref e_hi, .int y10])), (e_lo, .inl (kI, 200, .inl y11)), (e_hi, .inl (kI, 200, .inl y12)), (a_now, .inr (8, [.ref b_sc, .ref b_sp, .ref b_cp, .ref b_sn, .ref b_sl, .int i_li, .int i_ed, .int i_se])), (b_sc, .inl (kI, 5, .inl g_b_sc)), (b_sp, .inl (kI, 120, .inl g_b_sp))] H := hP.sub [0, 1, 2, 3, 4, 5, 6, 7, 8, 9] rfl
                have hD9 : va_D A [(h0, .inr (9, [.ref a_tape, .ref a_now, .ref a_draft, .ref a_reader, .ref a_acts, .ref a_images, .ref a_one, .ref a_other, .ref a_third, .ref a_spans, .ref a_back, .ref a_span, .ref a_middle, .ref a_reached])), (a_one, .inr (3, [.ref c_lo, .ref c_hi, .int y6])), (c_lo, .inl (kI, 200, .inl y7)), (c_hi, .inl (kI, 200, .inl y8)), (a_other, .inr (3, [.ref e_lo, .ref e_hi, .int y10])), (e_lo, .inl (kI, 200, .inl y11)), (e_hi, .inl (kI, 200, .inl y12)), (a_now, .inr (8, [.ref b_sc, .ref b_sp, .ref b_cp, .ref b_sn, .ref b_sl, .int i_li, .int i_ed, .int i_se])), (b_sc, .inl (kI, 5, .inl g_b_sc)), (b_sp, .inl (kI, 120, .inl g_b_sp))] := hD.sub [0, 1, 2, 3, 4, 5, 6, 7, 8, 9] (by decide) rfl
                have hl9 : lv_has ls 6 [(0, .ref h0), (1, .int i_0), (2, .int i_1), (3, .int v151), (4, .int v113), (5, .int v114)] := lv_sub hl [0, 1, 2, 3, 4, 5] rfl
                refine W.widen (k := 0) (n := 0) (Nat.le_of_ble_eq_true rfl) (Nat.le_of_ble_eq_true rfl) ?_
                exact hJ160 v113 _ _ _ ⟨hP9, hD9, hS, hl9⟩
              · have nc165 : r164.toInt ≠ 0 := pw_ne c165 rfl (by decide)
                obtain ⟨x166, ex166⟩ : ∃ y : Int32, y = v113 + 1 := ⟨_, rfl⟩
                refine lv_iinc (v := x166) (lv' := [(4, .int x166), (0, .ref h0), (1, .int i_0), (2, .int i_1), (3, .int v151), (5, .int v114)]) hx hb dX9_share_120 hl (k := 4) rfl (by rw [ex166]; rfl) (by decide) rfl (fun ls hl => ?_)
                have hP9 : va_P D vwCl [(h0, .inr (9, [.ref a_tape, .ref a_now, .ref a_draft, .ref a_reader, .ref a_acts, .ref a_images, .ref a_one, .ref a_other, .ref a_third, .ref a_spans, .ref a_back, .ref a_span, .ref a_middle, .ref a_reached])), (a_one, .inr (3, [.ref c_lo, .ref c_hi, .int y6])), (c_lo, .inl (kI, 200, .inl y7)), (c_hi, .inl (kI, 200, .inl y8)), (a_other, .inr (3, [.ref e_lo, .ref e_hi, .int y10])), (e_lo, .inl (kI, 200, .inl y11)), (e_hi, .inl (kI, 200, .inl y12)), (a_now, .inr (8, [.ref b_sc, .ref b_sp, .ref b_cp, .ref b_sn, .ref b_sl, .int i_li, .int i_ed, .int i_se])), (b_sc, .inl (kI, 5, .inl g_b_sc)), (b_sp, .inl (kI, 120, .inl g_b_sp))] H := hP.sub [0, 1, 2, 3, 4, 5, 6, 7, 8, 9] rfl
                have hD9 : va_D A [(h0, .inr (9, [.ref a_tape, .ref a_now, .ref a_draft, .ref a_reader, .ref a_acts, .ref a_images, .ref a_one, .ref a_other, .ref a_third, .ref a_spans, .ref a_back, .ref a_span, .ref a_middle, .ref a_reached])), (a_one, .inr (3, [.ref c_lo, .ref c_hi, .int y6])), (c_lo, .inl (kI, 200, .inl y7)), (c_hi, .inl (kI, 200, .inl y8)), (a_other, .inr (3, [.ref e_lo, .ref e_hi, .int y10])), (e_lo, .inl (kI, 200, .inl y11)), (e_hi, .inl (kI, 200, .inl y12)), (a_now, .inr (8, [.ref b_sc, .ref b_sp, .ref b_cp, .ref b_sn, .ref b_sl, .int i_li, .int i_ed, .int i_se])), (b_sc, .inl (kI, 5, .inl g_b_sc)), (b_sp, .inl (kI, 120, .inl g_b_sp))] := hD.sub [0, 1, 2, 3, 4, 5, 6, 7, 8, 9] (by decide) rfl
                have hl9 : lv_has ls 6 [(0, .ref h0), (1, .int i_0), (2, .int i_1), (3, .int v151), (4, .int x166), (5, .int v114)] := lv_sub hl [1, 2, 3, 4, 0, 5] rfl
                refine W.widen (k := 0) (n := 0) (Nat.le_of_ble_eq_true rfl) (Nat.le_of_ble_eq_true rfl) ?_
                exact hJ160 x166 _ _ _ ⟨hP9, hD9, hS, hl9⟩
        ·
          refine lv_if_eq (tgt := 96) hx hb dX9_share_78 (by decide) (fun c167 => ?_) (fun c167 => ?_)
          · have nc167 : r146.toInt = 0 := pw_eq c167 rfl (by decide)
            have hP9 : va_P D vwCl [(h0, .inr (9, [.ref a_tape, .ref a_now, .ref a_draft, .ref a_reader, .ref a_acts, .ref a_images, .ref a_one, .ref a_other, .ref a_third, .ref a_spans, .ref a_back, .ref a_span, .ref a_middle, .ref a_reached])), (a_one, .inr (3, [.ref c_lo, .ref c_hi, .int y6])), (c_lo, .inl (kI, 200, .inl y7)), (c_hi, .inl (kI, 200, .inl y8)), (a_other, .inr (3, [.ref e_lo, .ref e_hi, .int y10])), (e_lo, .inl (kI, 200, .inl y11)), (e_hi, .inl (kI, 200, .inl y12)), (a_now, .inr (8, [.ref b_sc, .ref b_sp, .ref b_cp, .ref b_sn, .ref b_sl, .int i_li, .int i_ed, .int i_se])), (b_sc, .inl (kI, 5, .inl g_b_sc)), (b_sp, .inl (kI, 120, .inl g_b_sp))] H := hP.sub [0, 1, 2, 3, 4, 5, 6, 7, 8, 9] rfl
            have hD9 : va_D A [(h0, .inr (9, [.ref a_tape, .ref a_now, .ref a_draft, .ref a_reader, .ref a_acts, .ref a_images, .ref a_one, .ref a_other, .ref a_third, .ref a_spans, .ref a_back, .ref a_span, .ref a_middle, .ref a_reached])), (a_one, .inr (3, [.ref c_lo, .ref c_hi, .int y6])), (c_lo, .inl (kI, 200, .inl y7)), (c_hi, .inl (kI, 200, .inl y8)), (a_other, .inr (3, [.ref e_lo, .ref e_hi, .int y10])), (e_lo, .inl (kI, 200, .inl y11)), (e_hi, .inl (kI, 200, .inl y12)), (a_now, .inr (8, [.ref b_sc, .ref b_sp, .ref b_cp, .ref b_sn, .ref b_sl, .int i_li, .int i_ed, .int i_se])), (b_sc, .inl (kI, 5, .inl g_b_sc)), (b_sp, .inl (kI, 120, .inl g_b_sp))] := hD.sub [0, 1, 2, 3, 4, 5, 6, 7, 8, 9] (by decide) rfl
            have hl9 : lv_has ls 6 [(0, .ref h0), (1, .int i_0), (2, .int i_1), (3, .int v112), (4, .int v113), (5, .int v114)] := lv_sub hl [0, 1, 2, 3, 4, 5] rfl
            refine W.widen (k := 0) (n := 0) (Nat.le_of_ble_eq_true rfl) (Nat.le_of_ble_eq_true rfl) ?_
            exact hJ152 v112 _ _ _ ⟨hP9, hD9, hS, hl9⟩
          · have nc167 : r146.toInt ≠ 0 := pw_ne c167 rfl (by decide)
            refine lv_aload_n hx hb dX9_share_81 rfl (lv_at hl 0 rfl) ?_
            refine va_get (D := D) (ci := 9) (v := .ref a_other) (C := RX9) (T := TX9) (N := 14) hx hb hts (fun _ h => List.mem_cons_of_mem _ (List.mem_append_left _ (List.mem_append_left _ (List.mem_append_right _ h)))) hown hK hP 0 rfl rfl 7 (by decide) (hts (.fieldLink RX9 55 "LineCites" "other" "LLineCites$Numbering;") (List.mem_of_getElem? (i := 47) rfl)) (fun _ h9 => h9) rfl dX9_share_82 ?_
            refine lv_iload hx hb dX9_share_85 (lv_at hl 5 rfl) ?_
            have hPc := hP.sub (ws' := [(a_other, .inr (3, [.ref e_lo, .ref e_hi, .int y10])), (e_lo, .inl (kI, 200, .inl y11))]) [4, 5] rfl
            have hKc := hK.sub (tys' := [(kI, .int)]) [0] rfl
            refine va_calli (va_runV (As := [.int v114]) (rest := []) ⟨hx, hb, hml, hown, hts⟩ (c_X3_isNumbered l D a_other v114 e_lo e_hi y10 kI y11 hy11) (cwV 1 hts g_X9_share_X3_isNumbered rfl rfl rfl (by decide +kernel) ⟨Nat.le_of_ble_eq_true rfl, Nat.le_of_ble_eq_true rfl⟩) ⟨fun a U g mk q => by obtain ⟨q0, qP, qK⟩ := q; exact ⟨q0, qP, va_K.moved (u := U) (U := U.calling g mk a) (Vm.Alike.refl U.vm) qK⟩, va_recv hKc hPc (ci := 3) (q0 := 0) rfl rfl, fun U hU hW => ⟨rfl, by rw [hU]; exact hPc, va_K.moved hW.alike hKc⟩⟩ rfl rfl hl.1 rfl (lv_room (Nat.le_of_ble_eq_true rfl)) dX9_share_87 ⟨Nat.le_of_ble_eq_true rfl, Nat.le_of_ble_eq_true rfl⟩) hS (fun _ _ h => h.elim) (fun _ h => h.elim) (fun r168 u t H1 locs ht hvm hw hB hz1 hk1 hS => ?_)
            have hP := pw_keep hP (fun q hq => hk1 q hq (fun h => h))
            generalize H1 = H at hP hS ⊢
            refine W.widen (k := 0) (n := 0) (Nat.le_of_ble_eq_true rfl) (Nat.le_of_ble_eq_true rfl) ?_
            have bor168 := hw.1
            have zor168 := pw_boolI bor168
            refine lv_if_eq (tgt := 96) hx hb dX9_share_90 (by decide) (fun c169 => ?_) (fun c169 => ?_)
            · have nc169 : r168.toInt = 0 := pw_eq c169 rfl (by decide)
              have hP9 : va_P D vwCl [(h0, .inr (9, [.ref a_tape, .ref a_now, .ref a_draft, .ref a_reader, .ref a_acts, .ref a_images, .ref a_one, .ref a_other, .ref a_third, .ref a_spans, .ref a_back, .ref a_span, .ref a_middle, .ref a_reached])), (a_one, .inr (3, [.ref c_lo, .ref c_hi, .int y6])), (c_lo, .inl (kI, 200, .inl y7)), (c_hi, .inl (kI, 200, .inl y8)), (a_other, .inr (3, [.ref e_lo, .ref e_hi, .int y10])), (e_lo, .inl (kI, 200, .inl y11)), (e_hi, .inl (kI, 200, .inl y12)), (a_now, .inr (8, [.ref b_sc, .ref b_sp, .ref b_cp, .ref b_sn, .ref b_sl, .int i_li, .int i_ed, .int i_se])), (b_sc, .inl (kI, 5, .inl g_b_sc)), (b_sp, .inl (kI, 120, .inl g_b_sp))] H := hP.sub [0, 1, 2, 3, 4, 5, 6, 7, 8, 9] rfl
              have hD9 : va_D A [(h0, .inr (9, [.ref a_tape, .ref a_now, .ref a_draft, .ref a_reader, .ref a_acts, .ref a_images, .ref a_one, .ref a_other, .ref a_third, .ref a_spans, .ref a_back, .ref a_span, .ref a_middle, .ref a_reached])), (a_one, .inr (3, [.ref c_lo, .ref c_hi, .int y6])), (c_lo, .inl (kI, 200, .inl y7)), (c_hi, .inl (kI, 200, .inl y8)), (a_other, .inr (3, [.ref e_lo, .ref e_hi, .int y10])), (e_lo, .inl (kI, 200, .inl y11)), (e_hi, .inl (kI, 200, .inl y12)), (a_now, .inr (8, [.ref b_sc, .ref b_sp, .ref b_cp, .ref b_sn, .ref b_sl, .int i_li, .int i_ed, .int i_se])), (b_sc, .inl (kI, 5, .inl g_b_sc)), (b_sp, .inl (kI, 120, .inl g_b_sp))] := hD.sub [0, 1, 2, 3, 4, 5, 6, 7, 8, 9] (by decide) rfl
              have hl9 : lv_has ls 6 [(0, .ref h0), (1, .int i_0), (2, .int i_1), (3, .int v112), (4, .int v113), (5, .int v114)] := lv_sub hl [0, 1, 2, 3, 4, 5] rfl
              refine W.widen (k := 0) (n := 0) (Nat.le_of_ble_eq_true rfl) (Nat.le_of_ble_eq_true rfl) ?_
              exact hJ152 v112 _ _ _ ⟨hP9, hD9, hS, hl9⟩
            · have nc169 : r168.toInt ≠ 0 := pw_ne c169 rfl (by decide)
              obtain ⟨x170, ex170⟩ : ∃ y : Int32, y = v112 + 1 := ⟨_, rfl⟩
              refine lv_iinc (v := x170) (lv' := [(3, .int x170), (0, .ref h0), (1, .int i_0), (2, .int i_1), (4, .int v113), (5, .int v114)]) hx hb dX9_share_93 hl (k := 3) rfl (by rw [ex170]; rfl) (by decide) rfl (fun ls hl => ?_)
              have hP9 : va_P D vwCl [(h0, .inr (9, [.ref a_tape, .ref a_now, .ref a_draft, .ref a_reader, .ref a_acts, .ref a_images, .ref a_one, .ref a_other, .ref a_third, .ref a_spans, .ref a_back, .ref a_span, .ref a_middle, .ref a_reached])), (a_one, .inr (3, [.ref c_lo, .ref c_hi, .int y6])), (c_lo, .inl (kI, 200, .inl y7)), (c_hi, .inl (kI, 200, .inl y8)), (a_other, .inr (3, [.ref e_lo, .ref e_hi, .int y10])), (e_lo, .inl (kI, 200, .inl y11)), (e_hi, .inl (kI, 200, .inl y12)), (a_now, .inr (8, [.ref b_sc, .ref b_sp, .ref b_cp, .ref b_sn, .ref b_sl, .int i_li, .int i_ed, .int i_se])), (b_sc, .inl (kI, 5, .inl g_b_sc)), (b_sp, .inl (kI, 120, .inl g_b_sp))] H := hP.sub [0, 1, 2, 3, 4, 5, 6, 7, 8, 9] rfl
              have hD9 : va_D A [(h0, .inr (9, [.ref a_tape, .ref a_now, .ref a_draft, .ref a_reader, .ref a_acts, .ref a_images, .ref a_one, .ref a_other, .ref a_third, .ref a_spans, .ref a_back, .ref a_span, .ref a_middle, .ref a_reached])), (a_one, .inr (3, [.ref c_lo, .ref c_hi, .int y6])), (c_lo, .inl (kI, 200, .inl y7)), (c_hi, .inl (kI, 200, .inl y8)), (a_other, .inr (3, [.ref e_lo, .ref e_hi, .int y10])), (e_lo, .inl (kI, 200, .inl y11)), (e_hi, .inl (kI, 200, .inl y12)), (a_now, .inr (8, [.ref b_sc, .ref b_sp, .ref b_cp, .ref b_sn, .ref b_sl, .int i_li, .int i_ed, .int i_se])), (b_sc, .inl (kI, 5, .inl g_b_sc)), (b_sp, .inl (kI, 120, .inl g_b_sp))] := hD.sub [0, 1, 2, 3, 4, 5, 6, 7, 8, 9] (by decide) rfl
              have hl9 : lv_has ls 6 [(0, .ref h0), (1, .int i_0), (2, .int i_1), (3, .int x170), (4, .int v113), (5, .int v114)] := lv_sub hl [1, 2, 3, 0, 4, 5] rfl
              refine W.widen (k := 0) (n := 0) (Nat.le_of_ble_eq_true rfl) (Nat.le_of_ble_eq_true rfl) ?_
              exact hJ152 x170 _ _ _ ⟨hP9, hD9, hS, hl9⟩
    · have nc4 : r3.toInt = 0 := pw_eq c4 rfl (by decide)
      refine lv_ldc hx hb hown (hts (.constant RX9 88 (-1000001)) (List.mem_of_getElem? (i := 9) rfl)) dX9_share_22 ?_
      refine W.endD hd0 ?_
      have hP9 := hP.sub (ws' := [(h0, .inr (9, [.ref a_tape, .ref a_now, .ref a_draft, .ref a_reader, .ref a_acts, .ref a_images, .ref a_one, .ref a_other, .ref a_third, .ref a_spans, .ref a_back, .ref a_span, .ref a_middle, .ref a_reached])), (a_now, .inr (8, [.ref b_sc, .ref b_sp, .ref b_cp, .ref b_sn, .ref b_sl, .int i_li, .int i_ed, .int i_se])), (b_sc, .inl (kI, 5, .inl g_b_sc)), (b_sp, .inl (kI, 120, .inl g_b_sp)), (a_one, .inr (3, [.ref c_lo, .ref c_hi, .int c_li])), (c_lo, .inl (kI, 200, .inl g_c_lo)), (c_hi, .inl (kI, 200, .inl g_c_hi)), (a_other, .inr (3, [.ref e_lo, .ref e_hi, .int e_li])), (e_lo, .inl (kI, 200, .inl g_e_lo)), (e_hi, .inl (kI, 200, .inl g_e_hi))]) [0, 1, 2, 3, 4, 5, 6, 7, 8, 9] rfl
      have hD9 := hD.sub (ws' := [(h0, .inr (9, [.ref a_tape, .ref a_now, .ref a_draft, .ref a_reader, .ref a_acts, .ref a_images, .ref a_one, .ref a_other, .ref a_third, .ref a_spans, .ref a_back, .ref a_span, .ref a_middle, .ref a_reached])), (a_now, .inr (8, [.ref b_sc, .ref b_sp, .ref b_cp, .ref b_sn, .ref b_sl, .int i_li, .int i_ed, .int i_se])), (b_sc, .inl (kI, 5, .inl g_b_sc)), (b_sp, .inl (kI, 120, .inl g_b_sp)), (a_one, .inr (3, [.ref c_lo, .ref c_hi, .int c_li])), (c_lo, .inl (kI, 200, .inl g_c_lo)), (c_hi, .inl (kI, 200, .inl g_c_hi)), (a_other, .inr (3, [.ref e_lo, .ref e_hi, .int e_li])), (e_lo, .inl (kI, 200, .inl g_e_lo)), (e_hi, .inl (kI, 200, .inl g_e_hi))]) [0, 1, 2, 3, 4, 5, 6, 7, 8, 9] (by decide) rfl
      have hK9 := hK.sub (tys' := [(kI, .int)]) [0] rfl
      refine W.widen (k := 0) (n := 0) (Nat.le_of_ble_eq_true rfl) (Nat.le_of_ble_eq_true rfl) ?_
      exact W.iret (v := (-1000001)) hx hb hr (fun t ht hW => ⟨⟨(-1000001), (), rfl, trivial, c_li, g_c_lo, g_c_hi, e_li, g_e_lo, g_e_hi, by rw [ht]; exact hP9, va_K.moved hW.alike hK9, hD9, hg_c_lo, hg_c_hi, hg_e_lo, hg_e_hi⟩, hS.F ht⟩) hS.2.2 dX9_share_24
def w_X9_score : List Cond := .code yX9_score cX9_score 4 (some .int) :: ([.fieldLink RX9 19 "LineCites" "now" "LLineCites$Work;", .methodLink RX9 138 yX8_hasEdition, .instanceMethod yX8_hasEdition, .selects RX8 yX8_hasEdition yX8_hasEdition, .initialized RX8, .code yX8_hasEdition cX8_hasEdition 2 (some .boolean), .fieldLink RX8 37 "LineCites$Work" "editions" "I", .fieldLink RX8 9 "LineCites$Work" "stretchCounts" "[I", .constant RX9 88 (-1000001), .methodLink RX9 328 yX9_scoreOf, .instanceMethod yX9_scoreOf, .selects RX9 yX9_scoreOf yX9_scoreOf, .initialized RX9, .code yX9_scoreOf cX9_scoreOf 4 (some .int), .fieldLink RX9 51 "LineCites" "one" "LLineCites$Numbering;", .methodLink RX9 207 yX3_fill, .instanceMethod yX3_fill, .selects RX3 yX3_fill yX3_fill, .initialized RX3, .code yX3_fill cX3_fill 4 none, .methodLink RX3 18 yX8_lines, .instanceMethod yX8_lines, .selects RX8 yX8_lines yX8_lines, .code yX8_lines cX8_lines 1 (some .int), .fieldLink RX8 33 "LineCites$Work" "lines" "I", .fieldLink RX3 24 "LineCites$Numbering" "lines" "I", .fieldLink RX3 9 "LineCites$Numbering" "lows" "[I", .fieldLink RX3 15 "LineCites$Numbering" "highs" "[I", .methodLink RX3 27 yX8_stretchesOf, .instanceMethod yX8_stretchesOf, .selects RX8 yX8_stretchesOf yX8_stretchesOf, .code yX8_stretchesOf cX8_stretchesOf 2 (some .int), .methodLink RX8 43 yX8_hasEdition, .methodLink RX3 31 yX8_part, .instanceMethod yX8_part, .selects RX8 yX8_part yX8_part, .code yX8_part cX8_part 5 (some .int), .methodLink RX8 51 yX8_placeOf, .static yX8_placeOf, .code yX8_placeOf cX8_placeOf 3 (some .int), .fieldLink RX8 15 "LineCites$Work" "stretchParts" "[I", .methodLink RX3 35 yX3_fillStretch, .instanceMethod yX3_fillStretch, .selects RX3 yX3_fillStretch yX3_fillStretch, .code yX3_fillStretch cX3_fillStretch 7 none, .static yX9_lowOf, .code yX9_lowOf cX9_lowOf 4 (some .int), .static yX9_highOf, .code yX9_highOf cX9_highOf 5 (some .int), .methodLink RX9 343 yX9_lowOf, .methodLink RX9 194 yX8_seen, .instanceMethod yX8_seen, .selects RX8 yX8_seen yX8_seen, .code yX8_seen cX8_seen 1 (some .int), .fieldLink RX8 40 "LineCites$Work" "seen" "I", .methodLink RX9 350 yX8_seenLine, .instanceMethod yX8_seenLine, .selects RX8 yX8_seenLine yX8_seenLine, .code yX8_seenLine cX8_seenLine 2 (some .int), .fieldLink RX8 24 "LineCites$Work" "seenLines" "[I", .methodLink RX9 353 yX8_seenNumber, .instanceMethod yX8_seenNumber, .selects RX8 yX8_seenNumber yX8_seenNumber, .code yX8_seenNumber cX8_seenNumber 2 (some .int), .fieldLink RX8 21 "LineCites$Work" "seenNumbers" "[I", .methodLink RX9 305 yX3_has, .instanceMethod yX3_has, .selects RX3 yX3_has yX3_has, .code yX3_has cX3_has 4 (some .boolean), .methodLink RX3 49 yX3_isNumbered, .instanceMethod yX3_isNumbered, .selects RX3 yX3_isNumbered yX3_isNumbered, .code yX3_isNumbered cX3_isNumbered 2 (some .boolean), .methodLink RX3 46 yX3_low, .instanceMethod yX3_low, .selects RX3 yX3_low yX3_low, .code yX3_low cX3_low 2 (some .int), .methodLink RX3 53 yX3_high, .instanceMethod yX3_high, .selects RX3 yX3_high yX3_high, .code yX3_high cX3_high 2 (some .int), .methodLink RX9 289 yX9_thousandths, .static yX9_thousandths, .code yX9_thousandths cX9_thousandths 2 (some .int), .constantFloat RX9 342 (1148846080), .constant RX9 206 (-1000000)] ++ wsX90 ++ wsX80 ++ wsX30)
set_option maxRecDepth 20000 in
theorem g_X9_score_X8_hasEdition : GoodIn w_X9_score (wsV RX9 138 RX8 yX8_hasEdition w_X8_hasEdition) := goodIn_r _ [2, 3, 4, 5, 6, 7, 8, 101, 102, 103, 104, 105, 106, 107, 108] rfl (by decide +kernel)
set_option maxRecDepth 20000 in
theorem g_X9_score_X9_scoreOf : GoodIn w_X9_score (wsV RX9 328 RX9 yX9_scoreOf w_X9_scoreOf) := goodIn_r _ [10, 11, 12, 13, 14, 15, 1, 16, 17, 18, 19, 20, 21, 22, 23, 5, 24, 25, 26, 27, 28, 29, 30, 31, 32, 33, 3, 4, 6, 7, 8, 34, 35, 36, 37, 38, 39, 40, 41, 42, 43, 44, 45, 13, 46, 47, 48, 49, 50, 51, 52, 53, 54, 55, 56, 57, 58, 59, 60, 61, 62, 63, 64, 65, 66, 67, 68, 69, 70, 71, 72, 73, 74, 75, 76, 77, 78, 79, 80, 81, 87, 88, 89, 90, 91, 92, 93, 94, 95, 96, 97, 98, 99, 100, 101, 102, 103, 104, 105, 106, 107, 108, 109, 110, 111] rfl (by decide +kernel)
set_option maxRecDepth 20000 in
theorem g_X9_score_X8_seen : GoodIn w_X9_score (wsV RX9 194 RX8 yX8_seen w_X8_seen) := goodIn_r _ [51, 52, 53, 5, 54, 55, 101, 102, 103, 104, 105, 106, 107, 108] rfl (by decide +kernel)
set_option maxRecDepth 20000 in
theorem g_X9_score_X9_thousandths : GoodIn w_X9_score (wsS RX9 289 yX9_thousandths w_X9_thousandths) := goodIn_r _ [82, 83, 13, 84, 85, 86] rfl (by decide +kernel)
set_option maxHeartbeats 4000000 in
set_option maxRecDepth 100000 in
theorem c_X9_score (l : Launch) (D : va_G) (h0 : Nat) (i_0 : Int32) (i_1 : Int32) (a_tape : Nat) (a_now : Nat) (a_draft : Nat) (a_reader : Nat) (a_acts : Nat) (a_images : Nat) (a_one : Nat) (a_other : Nat) (a_third : Nat) (a_spans : Nat) (a_back : Nat) (a_span : Nat) (a_middle : Nat) (a_reached : Nat) (b_sc : Nat) (b_sp : Nat) (b_cp : Nat) (b_sn : Nat) (b_sl : Nat) (i_li : Int32) (i_ed : Int32) (i_se : Int32) (kI : ClassId) (g_b_sc : Nat → Int32) (g_b_sp : Nat → Int32) (g_b_sn : Nat → Int32) (g_b_sl : Nat → Int32) (c_lo : Nat) (c_hi : Nat) (c_li : Int32) (g_c_lo : Nat → Int32) (g_c_hi : Nat → Int32) (sz : Nat) (hg_b_sp : bP g_b_sp) (hg_c_lo : bN g_c_lo) (hg_c_hi : bN g_c_hi) : MetD lw_cs l yX9_score w_X9_score ({ frames := 5, cells := 0, slots := 0, locals := 119 }) (va_Pc [.ref h0, .int i_0, .int i_1] (fun U => U.heap.size = sz ∧ va_P D vwCl [(h0, .inr (9, [.ref a_tape, .ref a_now, .ref a_draft, .ref a_reader, .ref a_acts, .ref a_images, .ref a_one, .ref a_other, .ref a_third, .ref a_spans, .ref a_back, .ref a_span, .ref a_middle, .ref a_reached])), (a_now, .inr (8, [.ref b_sc, .ref b_sp, .ref b_cp, .ref b_sn, .ref b_sl, .int i_li, .int i_ed, .int i_se])), (b_sc, .inl (kI, 5, .inl g_b_sc)), (b_sp, .inl (kI, 120, .inl g_b_sp)), (b_sn, .inl (kI, 12, .inl g_b_sn)), (b_sl, .inl (kI, 12, .inl g_b_sl)), (a_one, .inr (3, [.ref c_lo, .ref c_hi, .int c_li])), (c_lo, .inl (kI, 200, .inl g_c_lo)), (c_hi, .inl (kI, 200, .inl g_c_hi))] U.heap ∧ va_K D vwCl [(kI, .int)] U ∧ va_D (fun _ => True) [(h0, .inr (9, [.ref a_tape, .ref a_now, .ref a_draft, .ref a_reader, .ref a_acts, .ref a_images, .ref a_one, .ref a_other, .ref a_third, .ref a_spans, .ref a_back, .ref a_span, .ref a_middle, .ref a_reached])), (a_now, .inr (8, [.ref b_sc, .ref b_sp, .ref b_cp, .ref b_sn, .ref b_sl, .int i_li, .int i_ed, .int i_se])), (b_sc, .inl (kI, 5, .inl g_b_sc)), (b_sp, .inl (kI, 120, .inl g_b_sp)), (b_sn, .inl (kI, 12, .inl g_b_sn)), (b_sl, .inl (kI, 12, .inl g_b_sl)), (a_one, .inr (3, [.ref c_lo, .ref c_hi, .int c_li])), (c_lo, .inl (kI, 200, .inl g_c_lo)), (c_hi, .inl (kI, 200, .inl g_c_hi))] ∧ va_Nw (.methodLinkNest RX3 39 yX9_lowOf "LineCites") U ∧ va_Nw (.methodLinkNest RX3 43 yX9_highOf "LineCites") U)) (va_Qi (fun (r : Int32) (_ : Unit) => True) (fun (_ : Unit) t => ∃ (nc_li : Int32) (nc_lo : Nat → Int32) (nc_hi : Nat → Int32), va_P D vwCl [(h0, .inr (9, [.ref a_tape, .ref a_now, .ref a_draft, .ref a_reader, .ref a_acts, .ref a_images, .ref a_one, .ref a_other, .ref a_third, .ref a_spans, .ref a_back, .ref a_span, .ref a_middle, .ref a_reached])), (a_now, .inr (8, [.ref b_sc, .ref b_sp, .ref b_cp, .ref b_sn, .ref b_sl, .int i_li, .int i_ed, .int i_se])), (b_sc, .inl (kI, 5, .inl g_b_sc)), (b_sp, .inl (kI, 120, .inl g_b_sp)), (b_sn, .inl (kI, 12, .inl g_b_sn)), (b_sl, .inl (kI, 12, .inl g_b_sl)), (a_one, .inr (3, [.ref c_lo, .ref c_hi, .int nc_li])), (c_lo, .inl (kI, 200, .inl nc_lo)), (c_hi, .inl (kI, 200, .inl nc_hi))] t.heap ∧ va_K D vwCl [(kI, .int)] t ∧ va_D (va_A [(h0, .inr (9, [.ref a_tape, .ref a_now, .ref a_draft, .ref a_reader, .ref a_acts, .ref a_images, .ref a_one, .ref a_other, .ref a_third, .ref a_spans, .ref a_back, .ref a_span, .ref a_middle, .ref a_reached])), (a_now, .inr (8, [.ref b_sc, .ref b_sp, .ref b_cp, .ref b_sn, .ref b_sl, .int i_li, .int i_ed, .int i_se])), (b_sc, .inl (kI, 5, .inl g_b_sc)), (b_sp, .inl (kI, 120, .inl g_b_sp)), (b_sn, .inl (kI, 12, .inl g_b_sn)), (b_sl, .inl (kI, 12, .inl g_b_sl)), (a_one, .inr (3, [.ref c_lo, .ref c_hi, .int c_li])), (c_lo, .inl (kI, 200, .inl g_c_lo)), (c_hi, .inl (kI, 200, .inl g_c_hi))] sz) [(h0, .inr (9, [.ref a_tape, .ref a_now, .ref a_draft, .ref a_reader, .ref a_acts, .ref a_images, .ref a_one, .ref a_other, .ref a_third, .ref a_spans, .ref a_back, .ref a_span, .ref a_middle, .ref a_reached])), (a_now, .inr (8, [.ref b_sc, .ref b_sp, .ref b_cp, .ref b_sn, .ref b_sl, .int i_li, .int i_ed, .int i_se])), (b_sc, .inl (kI, 5, .inl g_b_sc)), (b_sp, .inl (kI, 120, .inl g_b_sp)), (b_sn, .inl (kI, 12, .inl g_b_sn)), (b_sl, .inl (kI, 12, .inl g_b_sl)), (a_one, .inr (3, [.ref c_lo, .ref c_hi, .int nc_li])), (c_lo, .inl (kI, 200, .inl nc_lo)), (c_hi, .inl (kI, 200, .inl nc_hi))] ∧ bN nc_lo ∧ bN nc_hi) (va_A [(h0, .inr (9, [.ref a_tape, .ref a_now, .ref a_draft, .ref a_reader, .ref a_acts, .ref a_images, .ref a_one, .ref a_other, .ref a_third, .ref a_spans, .ref a_back, .ref a_span, .ref a_middle, .ref a_reached])), (a_now, .inr (8, [.ref b_sc, .ref b_sp, .ref b_cp, .ref b_sn, .ref b_sl, .int i_li, .int i_ed, .int i_se])), (b_sc, .inl (kI, 5, .inl g_b_sc)), (b_sp, .inl (kI, 120, .inl g_b_sp)), (b_sn, .inl (kI, 12, .inl g_b_sn)), (b_sl, .inl (kI, 12, .inl g_b_sl)), (a_one, .inr (3, [.ref c_lo, .ref c_hi, .int c_li])), (c_lo, .inl (kI, 200, .inl g_c_lo)), (c_hi, .inl (kI, 200, .inl g_c_hi))] sz)) 0 0 (va_A [(h0, .inr (9, [.ref a_tape, .ref a_now, .ref a_draft, .ref a_reader, .ref a_acts, .ref a_images, .ref a_one, .ref a_other, .ref a_third, .ref a_spans, .ref a_back, .ref a_span, .ref a_middle, .ref a_reached])), (a_now, .inr (8, [.ref b_sc, .ref b_sp, .ref b_cp, .ref b_sn, .ref b_sl, .int i_li, .int i_ed, .int i_se])), (b_sc, .inl (kI, 5, .inl g_b_sc)), (b_sp, .inl (kI, 120, .inl g_b_sp)), (b_sn, .inl (kI, 12, .inl g_b_sn)), (b_sl, .inl (kI, 12, .inl g_b_sl)), (a_one, .inr (3, [.ref c_lo, .ref c_hi, .int c_li])), (c_lo, .inl (kI, 200, .inl g_c_lo)), (c_hi, .inl (kI, 200, .inl g_c_hi))] sz) := by
  refine MetD.ofW (cs := lw_cs) (cc := cX9_score) (maxL := 4) (ret := (some .int)) (by decide) rfl ?_
  intro p e s m args below meth c s₁ B hml hv hdd
  obtain ⟨d0, hd0, hde⟩ : ∃ d0, s.drawn.sameBut d0 lw_cs ∧ d0 = s.drawn := ⟨_, hdd, rfl⟩
  rw [← hde]
  obtain ⟨rfl, hsz, hP, hK, hD0, hN3_39, hN3_43⟩ := hv
  have hx := B.exec
  have hb := B.bytes
  have hr := B.returns
  have hts0 := atoms_spec (ws := w_X9_score) B.pre
  have hts := dr_words hts0 d0
  have hown : s.vm.findClass RX9 = some m.cls := findClass_of_methodNamed B.named
  have hlocks := B.notSynchronized
  subst hsz
  have hD := hD0.self (sz := s.heap.size)
  generalize hAe : va_A [(h0, .inr (9, [.ref a_tape, .ref a_now, .ref a_draft, .ref a_reader, .ref a_acts, .ref a_images, .ref a_one, .ref a_other, .ref a_third, .ref a_spans, .ref a_back, .ref a_span, .ref a_middle, .ref a_reached])), (a_now, .inr (8, [.ref b_sc, .ref b_sp, .ref b_cp, .ref b_sn, .ref b_sl, .int i_li, .int i_ed, .int i_se])), (b_sc, .inl (kI, 5, .inl g_b_sc)), (b_sp, .inl (kI, 120, .inl g_b_sp)), (b_sn, .inl (kI, 12, .inl g_b_sn)), (b_sl, .inl (kI, 12, .inl g_b_sl)), (a_one, .inr (3, [.ref c_lo, .ref c_hi, .int c_li])), (c_lo, .inl (kI, 200, .inl g_c_lo)), (c_hi, .inl (kI, 200, .inl g_c_hi))] s.heap.size = A at hD ⊢
  have hA : ∀ q : Nat, s.heap.size ≤ q → A q := fun q h => by rw [← hAe]; exact Or.inr h
  have hS : va_S A s.heap s.heap [] := va_S.rf
  have hP : va_P D vwCl [(h0, .inr (9, [.ref a_tape, .ref a_now, .ref a_draft, .ref a_reader, .ref a_acts, .ref a_images, .ref a_one, .ref a_other, .ref a_third, .ref a_spans, .ref a_back, .ref a_span, .ref a_middle, .ref a_reached])), (a_now, .inr (8, [.ref b_sc, .ref b_sp, .ref b_cp, .ref b_sn, .ref b_sl, .int i_li, .int i_ed, .int i_se])), (b_sc, .inl (kI, 5, .inl g_b_sc)), (b_sp, .inl (kI, 120, .inl g_b_sp)), (b_sn, .inl (kI, 12, .inl g_b_sn)), (b_sl, .inl (kI, 12, .inl g_b_sl)), (a_one, .inr (3, [.ref c_lo, .ref c_hi, .int c_li])), (c_lo, .inl (kI, 200, .inl g_c_lo)), (c_hi, .inl (kI, 200, .inl g_c_hi))] s.heap := hP
  have hl := lv_entry ([.ref h0, .int i_0, .int i_1]) (n := 4) (Nat.le_of_ble_eq_true rfl)
  rw [lg_entry_eq]
  generalize (lg_sl ([.ref h0, .int i_0, .int i_1]) ++ List.replicate (4 - (lg_sl ([.ref h0, .int i_0, .int i_1])).length) Slot.unset).toArray = ls at hl ⊢
  have hl : lv_has ls 4 [(0, .ref h0), (1, .int i_0), (2, .int i_1)] := hl
  obtain ⟨H, hHe⟩ : ∃ H : Heap, H = s.heap := ⟨_, rfl⟩
  rw [← hHe] at hP
  have hS : va_S A s.heap H [] := by rw [hHe]; exact hS
  have hown : (s.setDrawn d0).vm.findClass RX9 = some m.cls := hown
  have hK : va_K D vwCl [(kI, .int)] (s.setDrawn d0) := hK
  refine pw_heap (s := s.setDrawn d0) hHe ?_
  refine lv_aload_n hx hb dX9_score_0 rfl (lv_at hl 0 rfl) ?_
  refine va_get (D := D) (ci := 9) (v := .ref a_now) (C := RX9) (T := TX9) (N := 14) hx hb hts (fun _ h => List.mem_cons_of_mem _ (List.mem_append_left _ (List.mem_append_left _ (List.mem_append_right _ h)))) hown hK hP 0 rfl rfl 1 (by decide) (hts (.fieldLink RX9 19 "LineCites" "now" "LLineCites$Work;") (List.mem_of_getElem? (i := 1) rfl)) (fun _ h9 => h9) rfl dX9_score_1 ?_
  refine lv_iload_n hx hb dX9_score_4 rfl (lv_at hl 1 rfl) ?_
  have hPc := hP.sub (ws' := [(a_now, .inr (8, [.ref b_sc, .ref b_sp, .ref b_cp, .ref b_sn, .ref b_sl, .int i_li, .int i_ed, .int i_se])), (b_sc, .inl (kI, 5, .inl g_b_sc))]) [1, 2] rfl
  have hKc := hK.sub (tys' := [(kI, .int)]) [0] rfl
  refine va_calli (va_runV (As := [.int i_0]) (rest := []) ⟨hx, hb, hml, hown, hts⟩ (c_X8_hasEdition l D a_now i_0 b_sc b_sp b_cp b_sn b_sl i_li i_ed i_se kI g_b_sc) (cwV 1 hts g_X9_score_X8_hasEdition rfl rfl rfl (by decide +kernel) ⟨Nat.le_of_ble_eq_true rfl, Nat.le_of_ble_eq_true rfl⟩) ⟨fun a U g mk q => by obtain ⟨q0, qP, qK⟩ := q; exact ⟨q0, qP, va_K.moved (u := U) (U := U.calling g mk a) (Vm.Alike.refl U.vm) qK⟩, va_recv hKc hPc (ci := 8) (q0 := 0) rfl rfl, fun U hU hW => ⟨rfl, by rw [hU]; exact hPc, va_K.moved hW.alike hKc⟩⟩ rfl rfl hl.1 rfl (lv_room (Nat.le_of_ble_eq_true rfl)) dX9_score_5 ⟨Nat.le_of_ble_eq_true rfl, Nat.le_of_ble_eq_true rfl⟩) hS (fun _ _ h => h.elim) (fun _ h => h.elim) (fun r1 u t H1 locs ht hvm hw hB hz1 hk1 hS => ?_)
  have hP := pw_keep hP (fun q hq => hk1 q hq (fun h => h))
  generalize H1 = H at hP hS ⊢
  refine W.widen (k := 0) (n := 0) (Nat.le_of_ble_eq_true rfl) (Nat.le_of_ble_eq_true rfl) ?_
  have bor1 := hw.1
  have zor1 := pw_boolI bor1
  have hfr1 := hw.2
  refine lv_if_eq (tgt := 20) hx hb dX9_score_8 (by decide) (fun c2 => ?_) (fun c2 => ?_)
  · have nc2 : r1.toInt = 0 := pw_eq c2 rfl (by decide)
    refine lv_ldc hx hb hown (hts (.constant RX9 88 (-1000001)) (List.mem_of_getElem? (i := 9) rfl)) dX9_score_20 ?_
    refine W.endD hd0 ?_
    have hP9 := hP.sub (ws' := [(h0, .inr (9, [.ref a_tape, .ref a_now, .ref a_draft, .ref a_reader, .ref a_acts, .ref a_images, .ref a_one, .ref a_other, .ref a_third, .ref a_spans, .ref a_back, .ref a_span, .ref a_middle, .ref a_reached])), (a_now, .inr (8, [.ref b_sc, .ref b_sp, .ref b_cp, .ref b_sn, .ref b_sl, .int i_li, .int i_ed, .int i_se])), (b_sc, .inl (kI, 5, .inl g_b_sc)), (b_sp, .inl (kI, 120, .inl g_b_sp)), (b_sn, .inl (kI, 12, .inl g_b_sn)), (b_sl, .inl (kI, 12, .inl g_b_sl)), (a_one, .inr (3, [.ref c_lo, .ref c_hi, .int c_li])), (c_lo, .inl (kI, 200, .inl g_c_lo)), (c_hi, .inl (kI, 200, .inl g_c_hi))]) [0, 1, 2, 3, 4, 5, 6, 7, 8] rfl
    have hD9 := hD.sub (ws' := [(h0, .inr (9, [.ref a_tape, .ref a_now, .ref a_draft, .ref a_reader, .ref a_acts, .ref a_images, .ref a_one, .ref a_other, .ref a_third, .ref a_spans, .ref a_back, .ref a_span, .ref a_middle, .ref a_reached])), (a_now, .inr (8, [.ref b_sc, .ref b_sp, .ref b_cp, .ref b_sn, .ref b_sl, .int i_li, .int i_ed, .int i_se])), (b_sc, .inl (kI, 5, .inl g_b_sc)), (b_sp, .inl (kI, 120, .inl g_b_sp)), (b_sn, .inl (kI, 12, .inl g_b_sn)), (b_sl, .inl (kI, 12, .inl g_b_sl)), (a_one, .inr (3, [.ref c_lo, .ref c_hi, .int c_li])), (c_lo, .inl (kI, 200, .inl g_c_lo)), (c_hi, .inl (kI, 200, .inl g_c_hi))]) [0, 1, 2, 3, 4, 5, 6, 7, 8] (by decide) rfl
    have hK9 := hK.sub (tys' := [(kI, .int)]) [0] rfl
    refine W.widen (k := 0) (n := 0) (Nat.le_of_ble_eq_true rfl) (Nat.le_of_ble_eq_true rfl) ?_
    exact W.iret (v := (-1000001)) hx hb hr (fun t ht hW => ⟨⟨(-1000001), (), rfl, trivial, c_li, g_c_lo, g_c_hi, by rw [ht]; exact hP9, va_K.moved hW.alike hK9, hD9, hg_c_lo, hg_c_hi⟩, hS.F ht⟩) hS.2.2 dX9_score_22
  · have nc2 : r1.toInt ≠ 0 := pw_ne c2 rfl (by decide)
    refine lv_iload_n hx hb dX9_score_11 rfl (lv_at hl 2 rfl) ?_
    refine lv_if_lt (tgt := 20) hx hb dX9_score_12 (by decide) (fun c3 => ?_) (fun c3 => ?_)
    · have nc3 : i_1.toInt < 0 := pw_lt c3 rfl (by decide)
      refine lv_ldc hx hb hown (hts (.constant RX9 88 (-1000001)) (List.mem_of_getElem? (i := 9) rfl)) dX9_score_20 ?_
      refine W.endD hd0 ?_
      have hP9 := hP.sub (ws' := [(h0, .inr (9, [.ref a_tape, .ref a_now, .ref a_draft, .ref a_reader, .ref a_acts, .ref a_images, .ref a_one, .ref a_other, .ref a_third, .ref a_spans, .ref a_back, .ref a_span, .ref a_middle, .ref a_reached])), (a_now, .inr (8, [.ref b_sc, .ref b_sp, .ref b_cp, .ref b_sn, .ref b_sl, .int i_li, .int i_ed, .int i_se])), (b_sc, .inl (kI, 5, .inl g_b_sc)), (b_sp, .inl (kI, 120, .inl g_b_sp)), (b_sn, .inl (kI, 12, .inl g_b_sn)), (b_sl, .inl (kI, 12, .inl g_b_sl)), (a_one, .inr (3, [.ref c_lo, .ref c_hi, .int c_li])), (c_lo, .inl (kI, 200, .inl g_c_lo)), (c_hi, .inl (kI, 200, .inl g_c_hi))]) [0, 1, 2, 3, 4, 5, 6, 7, 8] rfl
      have hD9 := hD.sub (ws' := [(h0, .inr (9, [.ref a_tape, .ref a_now, .ref a_draft, .ref a_reader, .ref a_acts, .ref a_images, .ref a_one, .ref a_other, .ref a_third, .ref a_spans, .ref a_back, .ref a_span, .ref a_middle, .ref a_reached])), (a_now, .inr (8, [.ref b_sc, .ref b_sp, .ref b_cp, .ref b_sn, .ref b_sl, .int i_li, .int i_ed, .int i_se])), (b_sc, .inl (kI, 5, .inl g_b_sc)), (b_sp, .inl (kI, 120, .inl g_b_sp)), (b_sn, .inl (kI, 12, .inl g_b_sn)), (b_sl, .inl (kI, 12, .inl g_b_sl)), (a_one, .inr (3, [.ref c_lo, .ref c_hi, .int c_li])), (c_lo, .inl (kI, 200, .inl g_c_lo)), (c_hi, .inl (kI, 200, .inl g_c_hi))]) [0, 1, 2, 3, 4, 5, 6, 7, 8] (by decide) rfl
      have hK9 := hK.sub (tys' := [(kI, .int)]) [0] rfl
      refine W.widen (k := 0) (n := 0) (Nat.le_of_ble_eq_true rfl) (Nat.le_of_ble_eq_true rfl) ?_
      exact W.iret (v := (-1000001)) hx hb hr (fun t ht hW => ⟨⟨(-1000001), (), rfl, trivial, c_li, g_c_lo, g_c_hi, by rw [ht]; exact hP9, va_K.moved hW.alike hK9, hD9, hg_c_lo, hg_c_hi⟩, hS.F ht⟩) hS.2.2 dX9_score_22
    · have nc3 : 0 ≤ i_1.toInt := pw_nlt c3 rfl (by decide)
      refine lv_iload_n hx hb dX9_score_15 rfl (lv_at hl 2 rfl) ?_
      refine lv_iconst (v := 1) hx hb dX9_score_16 (by decide) ?_
      refine lv_icmp_le (tgt := 23) hx hb dX9_score_17 (by decide) (fun c4 => ?_) (fun c4 => ?_)
      · have nc4 : i_1.toInt ≤ 1 := pw_le c4 rfl (by decide)
        refine lv_aload_n hx hb dX9_score_23 rfl (lv_at hl 0 rfl) ?_
        refine lv_iload_n hx hb dX9_score_24 rfl (lv_at hl 1 rfl) ?_
        have hPc := hP.sub (ws' := [(h0, .inr (9, [.ref a_tape, .ref a_now, .ref a_draft, .ref a_reader, .ref a_acts, .ref a_images, .ref a_one, .ref a_other, .ref a_third, .ref a_spans, .ref a_back, .ref a_span, .ref a_middle, .ref a_reached])), (a_now, .inr (8, [.ref b_sc, .ref b_sp, .ref b_cp, .ref b_sn, .ref b_sl, .int i_li, .int i_ed, .int i_se])), (b_sc, .inl (kI, 5, .inl g_b_sc)), (b_sp, .inl (kI, 120, .inl g_b_sp)), (b_sn, .inl (kI, 12, .inl g_b_sn)), (b_sl, .inl (kI, 12, .inl g_b_sl)), (a_one, .inr (3, [.ref c_lo, .ref c_hi, .int c_li])), (c_lo, .inl (kI, 200, .inl g_c_lo)), (c_hi, .inl (kI, 200, .inl g_c_hi))]) [0, 1, 2, 3, 4, 5, 6, 7, 8] rfl
        have hKc := hK.sub (tys' := [(kI, .int)]) [0] rfl
        have hDc := hD.sub (ws' := [(h0, .inr (9, [.ref a_tape, .ref a_now, .ref a_draft, .ref a_reader, .ref a_acts, .ref a_images, .ref a_one, .ref a_other, .ref a_third, .ref a_spans, .ref a_back, .ref a_span, .ref a_middle, .ref a_reached])), (a_now, .inr (8, [.ref b_sc, .ref b_sp, .ref b_cp, .ref b_sn, .ref b_sl, .int i_li, .int i_ed, .int i_se])), (b_sc, .inl (kI, 5, .inl g_b_sc)), (b_sp, .inl (kI, 120, .inl g_b_sp)), (b_sn, .inl (kI, 12, .inl g_b_sn)), (b_sl, .inl (kI, 12, .inl g_b_sl)), (a_one, .inr (3, [.ref c_lo, .ref c_hi, .int c_li])), (c_lo, .inl (kI, 200, .inl g_c_lo)), (c_hi, .inl (kI, 200, .inl g_c_hi))]) [0, 1, 2, 3, 4, 5, 6, 7, 8] (by decide) rfl
        have hFc := va_free (wc := [(h0, .inr (9, [.ref a_tape, .ref a_now, .ref a_draft, .ref a_reader, .ref a_acts, .ref a_images, .ref a_one, .ref a_other, .ref a_third, .ref a_spans, .ref a_back, .ref a_span, .ref a_middle, .ref a_reached])), (a_now, .inr (8, [.ref b_sc, .ref b_sp, .ref b_cp, .ref b_sn, .ref b_sl, .int i_li, .int i_ed, .int i_se])), (b_sc, .inl (kI, 5, .inl g_b_sc)), (b_sp, .inl (kI, 120, .inl g_b_sp)), (b_sn, .inl (kI, 12, .inl g_b_sn)), (b_sl, .inl (kI, 12, .inl g_b_sl)), (a_one, .inr (3, [.ref c_lo, .ref c_hi, .int c_li])), (c_lo, .inl (kI, 200, .inl g_c_lo)), (c_hi, .inl (kI, 200, .inl g_c_hi))]) hD hS hA [0, 1, 2, 3, 4, 5, 6, 7, 8] rfl
        refine va_calli (va_runV (As := [.int i_0]) (rest := []) ⟨hx, hb, hml, hown, hts⟩ (c_X9_scoreOf l D h0 i_0 a_tape a_now a_draft a_reader a_acts a_images a_one a_other a_third a_spans a_back a_span a_middle a_reached b_sc b_sp b_cp b_sn b_sl i_li i_ed i_se kI g_b_sc g_b_sp g_b_sn g_b_sl c_lo c_hi c_li g_c_lo g_c_hi H.size hg_b_sp hg_c_lo hg_c_hi) (cwV 1 hts g_X9_score_X9_scoreOf rfl rfl rfl (by decide +kernel) ⟨Nat.le_of_ble_eq_true rfl, Nat.le_of_ble_eq_true rfl⟩) ⟨fun a U g mk q => by obtain ⟨q0, q1, qP, qK, qD, qE0, qE1⟩ := q; exact ⟨q0, q1, qP, va_K.moved (u := U) (U := U.calling g mk a) (Vm.Alike.refl U.vm) qK, qD, va_Nw.same rfl rfl qE0, va_Nw.same rfl rfl qE1⟩, va_recv hKc hPc (ci := 9) (q0 := 0) rfl rfl, fun U hU hW => ⟨rfl, by rw [hU], by rw [hU]; exact hPc, va_K.moved hW.alike hKc, hDc.weaken (fun _ _ _ _ => trivial), va_Nw.warmM hW hN3_39, va_Nw.warmM hW hN3_43⟩⟩ rfl rfl hl.1 rfl (lv_room (Nat.le_of_ble_eq_true rfl)) dX9_score_25 ⟨Nat.le_of_ble_eq_true rfl, Nat.le_of_ble_eq_true rfl⟩) hS (fun q _ h => hFc q h) hFc (fun r5 u t H1 locs ht hvm hw hB hz1 hk1 hS => ?_)
        obtain ⟨y6, y7, y8, hP1, hK1, hD1, hy7, hy8⟩ := hB
        rw [ht] at hP1
        have hK1 := va_K.moved hvm.symm hK1
        obtain ⟨hP, hD⟩ := va_join (wr := []) (w1 := [(h0, .inr (9, [.ref a_tape, .ref a_now, .ref a_draft, .ref a_reader, .ref a_acts, .ref a_images, .ref a_one, .ref a_other, .ref a_third, .ref a_spans, .ref a_back, .ref a_span, .ref a_middle, .ref a_reached])), (a_now, .inr (8, [.ref b_sc, .ref b_sp, .ref b_cp, .ref b_sn, .ref b_sl, .int i_li, .int i_ed, .int i_se])), (b_sc, .inl (kI, 5, .inl g_b_sc)), (b_sp, .inl (kI, 120, .inl g_b_sp)), (b_sn, .inl (kI, 12, .inl g_b_sn)), (b_sl, .inl (kI, 12, .inl g_b_sl)), (a_one, .inr (3, [.ref c_lo, .ref c_hi, .int y6])), (c_lo, .inl (kI, 200, .inl y7)), (c_hi, .inl (kI, 200, .inl y8))]) hP hD [0, 1, 2, 3, 4, 5, 6, 7, 8] [] rfl rfl (by decide) (by decide) hk1 hFc hP1 hD1
        have hK := (hK.sub (tys' := [(kI, .int)]) [0] rfl).app hK1
        generalize H1 = H at hP hS ⊢
        have hP : va_P D vwCl [(h0, .inr (9, [.ref a_tape, .ref a_now, .ref a_draft, .ref a_reader, .ref a_acts, .ref a_images, .ref a_one, .ref a_other, .ref a_third, .ref a_spans, .ref a_back, .ref a_span, .ref a_middle, .ref a_reached])), (a_now, .inr (8, [.ref b_sc, .ref b_sp, .ref b_cp, .ref b_sn, .ref b_sl, .int i_li, .int i_ed, .int i_se])), (b_sc, .inl (kI, 5, .inl g_b_sc)), (b_sp, .inl (kI, 120, .inl g_b_sp)), (b_sn, .inl (kI, 12, .inl g_b_sn)), (b_sl, .inl (kI, 12, .inl g_b_sl)), (a_one, .inr (3, [.ref c_lo, .ref c_hi, .int y6])), (c_lo, .inl (kI, 200, .inl y7)), (c_hi, .inl (kI, 200, .inl y8))] H := hP
        have hD : va_D A [(h0, .inr (9, [.ref a_tape, .ref a_now, .ref a_draft, .ref a_reader, .ref a_acts, .ref a_images, .ref a_one, .ref a_other, .ref a_third, .ref a_spans, .ref a_back, .ref a_span, .ref a_middle, .ref a_reached])), (a_now, .inr (8, [.ref b_sc, .ref b_sp, .ref b_cp, .ref b_sn, .ref b_sl, .int i_li, .int i_ed, .int i_se])), (b_sc, .inl (kI, 5, .inl g_b_sc)), (b_sp, .inl (kI, 120, .inl g_b_sp)), (b_sn, .inl (kI, 12, .inl g_b_sn)), (b_sl, .inl (kI, 12, .inl g_b_sl)), (a_one, .inr (3, [.ref c_lo, .ref c_hi, .int y6])), (c_lo, .inl (kI, 200, .inl y7)), (c_hi, .inl (kI, 200, .inl y8))] := hD
        have hK : va_K D vwCl [(kI, .int), (kI, .int)] (s.setDrawn d0) := hK
        refine W.widen (k := 0) (n := 0) (Nat.le_of_ble_eq_true rfl) (Nat.le_of_ble_eq_true rfl) ?_
        refine lv_istore_n (lv' := [(3, .int r5), (0, .ref h0), (1, .int i_0), (2, .int i_1)]) hx hb dX9_score_28 rfl hl (by decide) rfl (fun ls hl => ?_)
        refine lv_iload_n hx hb dX9_score_29 rfl (lv_at hl 3 rfl) ?_
        refine lv_if_ne (tgt := 37) hx hb dX9_score_30 (by decide) (fun c9 => ?_) (fun c9 => ?_)
        · have nc9 : i_1.toInt ≠ 0 := pw_ne c9 rfl (by decide)
          refine lv_iload_n hx hb dX9_score_37 rfl (lv_at hl 0 rfl) ?_
          refine lv_aload_n hx hb dX9_score_38 rfl (lv_at hl 1 rfl) ?_
          refine va_get (D := D) (ci := 9) (v := .ref a_now) (C := RX9) (T := TX9) (N := 14) hx hb hts (fun _ h => List.mem_cons_of_mem _ (List.mem_append_left _ (List.mem_append_left _ (List.mem_append_right _ h)))) hown hK hP 0 rfl rfl 1 (by decide) (hts (.fieldLink RX9 19 "LineCites" "now" "LLineCites$Work;") (List.mem_of_getElem? (i := 1) rfl)) (fun _ h9 => h9) rfl dX9_score_39 ?_
          have hPc := hP.sub (ws' := [(a_now, .inr (8, [.ref b_sc, .ref b_sp, .ref b_cp, .ref b_sn, .ref b_sl, .int i_li, .int i_ed, .int i_se]))]) [1] rfl
          have hKc := hK.sub (tys' := []) [] rfl
          refine va_calli (va_runV (As := []) (rest := [.int r5]) ⟨hx, hb, hml, hown, hts⟩ (c_X8_seen l D a_now b_sc b_sp b_cp b_sn b_sl i_li i_ed i_se) (cwV 0 hts g_X9_score_X8_seen rfl rfl rfl (by decide +kernel) ⟨Nat.le_of_ble_eq_true rfl, Nat.le_of_ble_eq_true rfl⟩) ⟨fun a U g mk q => by obtain ⟨q0, qP, qK⟩ := q; exact ⟨q0, qP, va_K.moved (u := U) (U := U.calling g mk a) (Vm.Alike.refl U.vm) qK⟩, va_recv hKc hPc (ci := 8) (q0 := 0) rfl rfl, fun U hU hW => ⟨rfl, by rw [hU]; exact hPc, va_K.moved hW.alike hKc⟩⟩ rfl rfl hl.1 rfl (lv_room (Nat.le_of_ble_eq_true rfl)) dX9_score_42 ⟨Nat.le_of_ble_eq_true rfl, Nat.le_of_ble_eq_true rfl⟩) hS (fun _ _ h => h.elim) (fun _ h => h.elim) (fun r10 u t H1 locs ht hvm hw hB hz1 hk1 hS => ?_)
          have hP := pw_keep hP (fun q hq => hk1 q hq (fun h => h))
          generalize H1 = H at hP hS ⊢
          refine W.widen (k := 0) (n := 0) (Nat.le_of_ble_eq_true rfl) (Nat.le_of_ble_eq_true rfl) ?_
          rw [show r10 = i_se from hw]
          have hPc := hP.sub (ws' := []) [] rfl
          have hKc := hK.sub (tys' := []) [] rfl
          refine va_calliD hd0 (va_runS_D (As := [.int r5, .int i_se]) (rest := []) ⟨hx, hb, hml, hown, hts⟩ (c_X9_thousandths l D r5 i_se) (cwS 2 hts g_X9_score_X9_thousandths rfl rfl rfl (by decide +kernel) ⟨Nat.le_of_ble_eq_true rfl, Nat.le_of_ble_eq_true rfl⟩) ⟨fun a U g mk q => by obtain ⟨q0, qP, qK⟩ := q; exact ⟨q0, qP, va_K.moved (u := U) (U := U.calling g mk a) (Vm.Alike.refl U.vm) qK⟩, fun U hU hW => ⟨rfl, by rw [hU]; exact hPc, va_K.moved hW.alike hKc⟩⟩ rfl rfl hl.1 rfl (lv_room (Nat.le_of_ble_eq_true rfl)) dX9_score_45 ⟨Nat.le_of_ble_eq_true rfl, Nat.le_of_ble_eq_true rfl⟩) hS (fun _ _ h => h.elim) (fun _ h => h.elim) (fun r11 u t H1 locs ht hvm hw hB hz1 hk1 hS dr12 hdr12 => ?_)
          have hts := dr_words hts0 dr12
          have hown : (s.setDrawn dr12).vm.findClass RX9 = some m.cls := hown
          have hK : va_K D vwCl [(kI, .int), (kI, .int)] (s.setDrawn dr12) := hK
          have hP := pw_keep hP (fun q hq => hk1 q hq (fun h => h))
          generalize H1 = H at hP hS ⊢
          refine W.widen (k := 0) (n := 0) (Nat.le_of_ble_eq_true rfl) (Nat.le_of_ble_eq_true rfl) ?_
          refine W.endD hdr12 ?_
          have hP9 := hP.sub (ws' := [(h0, .inr (9, [.ref a_tape, .ref a_now, .ref a_draft, .ref a_reader, .ref a_acts, .ref a_images, .ref a_one, .ref a_other, .ref a_third, .ref a_spans, .ref a_back, .ref a_span, .ref a_middle, .ref a_reached])), (a_now, .inr (8, [.ref b_sc, .ref b_sp, .ref b_cp, .ref b_sn, .ref b_sl, .int i_li, .int i_ed, .int i_se])), (b_sc, .inl (kI, 5, .inl g_b_sc)), (b_sp, .inl (kI, 120, .inl g_b_sp)), (b_sn, .inl (kI, 12, .inl g_b_sn)), (b_sl, .inl (kI, 12, .inl g_b_sl)), (a_one, .inr (3, [.ref c_lo, .ref c_hi, .int y6])), (c_lo, .inl (kI, 200, .inl y7)), (c_hi, .inl (kI, 200, .inl y8))]) [0, 1, 2, 3, 4, 5, 6, 7, 8] rfl
          have hD9 := hD.sub (ws' := [(h0, .inr (9, [.ref a_tape, .ref a_now, .ref a_draft, .ref a_reader, .ref a_acts, .ref a_images, .ref a_one, .ref a_other, .ref a_third, .ref a_spans, .ref a_back, .ref a_span, .ref a_middle, .ref a_reached])), (a_now, .inr (8, [.ref b_sc, .ref b_sp, .ref b_cp, .ref b_sn, .ref b_sl, .int i_li, .int i_ed, .int i_se])), (b_sc, .inl (kI, 5, .inl g_b_sc)), (b_sp, .inl (kI, 120, .inl g_b_sp)), (b_sn, .inl (kI, 12, .inl g_b_sn)), (b_sl, .inl (kI, 12, .inl g_b_sl)), (a_one, .inr (3, [.ref c_lo, .ref c_hi, .int y6])), (c_lo, .inl (kI, 200, .inl y7)), (c_hi, .inl (kI, 200, .inl y8))]) [0, 1, 2, 3, 4, 5, 6, 7, 8] (by decide) rfl
          have hK9 := hK.sub (tys' := [(kI, .int)]) [0] rfl
          refine W.widen (k := 0) (n := 0) (Nat.le_of_ble_eq_true rfl) (Nat.le_of_ble_eq_true rfl) ?_
          exact W.iret (v := r11) hx hb hr (fun t ht hW => ⟨⟨r11, (), rfl, trivial, y6, y7, y8, by rw [ht]; exact hP9, va_K.moved hW.alike hK9, hD9, hy7, hy8⟩, hS.F ht⟩) hS.2.2 dX9_score_48
        · have nc9 : i_1.toInt = 0 := pw_eq c9 rfl (by decide)
          refine lv_iload_n hx hb dX9_score_33 rfl (lv_at hl 0 rfl) ?_
          refine lv_goto (tgt := 48) hx hb dX9_score_34 (by decide) ?_
          refine W.endD hd0 ?_
          have hP9 := hP.sub (ws' := [(h0, .inr (9, [.ref a_tape, .ref a_now, .ref a_draft, .ref a_reader, .ref a_acts, .ref a_images, .ref a_one, .ref a_other, .ref a_third, .ref a_spans, .ref a_back, .ref a_span, .ref a_middle, .ref a_reached])), (a_now, .inr (8, [.ref b_sc, .ref b_sp, .ref b_cp, .ref b_sn, .ref b_sl, .int i_li, .int i_ed, .int i_se])), (b_sc, .inl (kI, 5, .inl g_b_sc)), (b_sp, .inl (kI, 120, .inl g_b_sp)), (b_sn, .inl (kI, 12, .inl g_b_sn)), (b_sl, .inl (kI, 12, .inl g_b_sl)), (a_one, .inr (3, [.ref c_lo, .ref c_hi, .int y6])), (c_lo, .inl (kI, 200, .inl y7)), (c_hi, .inl (kI, 200, .inl y8))]) [0, 1, 2, 3, 4, 5, 6, 7, 8] rfl
          have hD9 := hD.sub (ws' := [(h0, .inr (9, [.ref a_tape, .ref a_now, .ref a_draft, .ref a_reader, .ref a_acts, .ref a_images, .ref a_one, .ref a_other, .ref a_third, .ref a_spans, .ref a_back, .ref a_span, .ref a_middle, .ref a_reached])), (a_now, .inr (8, [.ref b_sc, .ref b_sp, .ref b_cp, .ref b_sn, .ref b_sl, .int i_li, .int i_ed, .int i_se])), (b_sc, .inl (kI, 5, .inl g_b_sc)), (b_sp, .inl (kI, 120, .inl g_b_sp)), (b_sn, .inl (kI, 12, .inl g_b_sn)), (b_sl, .inl (kI, 12, .inl g_b_sl)), (a_one, .inr (3, [.ref c_lo, .ref c_hi, .int y6])), (c_lo, .inl (kI, 200, .inl y7)), (c_hi, .inl (kI, 200, .inl y8))]) [0, 1, 2, 3, 4, 5, 6, 7, 8] (by decide) rfl
          have hK9 := hK.sub (tys' := [(kI, .int)]) [0] rfl
          refine W.widen (k := 0) (n := 0) (Nat.le_of_ble_eq_true rfl) (Nat.le_of_ble_eq_true rfl) ?_
          exact W.iret (v := r5) hx hb hr (fun t ht hW => ⟨⟨r5, (), rfl, trivial, y6, y7, y8, by rw [ht]; exact hP9, va_K.moved hW.alike hK9, hD9, hy7, hy8⟩, hS.F ht⟩) hS.2.2 dX9_score_48
      · have nc4 : 1 < i_1.toInt := pw_nle c4 rfl (by decide)
        refine lv_ldc hx hb hown (hts (.constant RX9 88 (-1000001)) (List.mem_of_getElem? (i := 9) rfl)) dX9_score_20 ?_
        refine W.endD hd0 ?_
        have hP9 := hP.sub (ws' := [(h0, .inr (9, [.ref a_tape, .ref a_now, .ref a_draft, .ref a_reader, .ref a_acts, .ref a_images, .ref a_one, .ref a_other, .ref a_third, .ref a_spans, .ref a_back, .ref a_span, .ref a_middle, .ref a_reached])), (a_now, .inr (8, [.ref b_sc, .ref b_sp, .ref b_cp, .ref b_sn, .ref b_sl, .int i_li, .int i_ed, .int i_se])), (b_sc, .inl (kI, 5, .inl g_b_sc)), (b_sp, .inl (kI, 120, .inl g_b_sp)), (b_sn, .inl (kI, 12, .inl g_b_sn)), (b_sl, .inl (kI, 12, .inl g_b_sl)), (a_one, .inr (3, [.ref c_lo, .ref c_hi, .int c_li])), (c_lo, .inl (kI, 200, .inl g_c_lo)), (c_hi, .inl (kI, 200, .inl g_c_hi))]) [0, 1, 2, 3, 4, 5, 6, 7, 8] rfl
        have hD9 := hD.sub (ws' := [(h0, .inr (9, [.ref a_tape, .ref a_now, .ref a_draft, .ref a_reader, .ref a_acts, .ref a_images, .ref a_one, .ref a_other, .ref a_third, .ref a_spans, .ref a_back, .ref a_span, .ref a_middle, .ref a_reached])), (a_now, .inr (8, [.ref b_sc, .ref b_sp, .ref b_cp, .ref b_sn, .ref b_sl, .int i_li, .int i_ed, .int i_se])), (b_sc, .inl (kI, 5, .inl g_b_sc)), (b_sp, .inl (kI, 120, .inl g_b_sp)), (b_sn, .inl (kI, 12, .inl g_b_sn)), (b_sl, .inl (kI, 12, .inl g_b_sl)), (a_one, .inr (3, [.ref c_lo, .ref c_hi, .int c_li])), (c_lo, .inl (kI, 200, .inl g_c_lo)), (c_hi, .inl (kI, 200, .inl g_c_hi))]) [0, 1, 2, 3, 4, 5, 6, 7, 8] (by decide) rfl
        have hK9 := hK.sub (tys' := [(kI, .int)]) [0] rfl
        refine W.widen (k := 0) (n := 0) (Nat.le_of_ble_eq_true rfl) (Nat.le_of_ble_eq_true rfl) ?_
        exact W.iret (v := (-1000001)) hx hb hr (fun t ht hW => ⟨⟨(-1000001), (), rfl, trivial, c_li, g_c_lo, g_c_hi, by rw [ht]; exact hP9, va_K.moved hW.alike hK9, hD9, hg_c_lo, hg_c_hi⟩, hS.F ht⟩) hS.2.2 dX9_score_22
