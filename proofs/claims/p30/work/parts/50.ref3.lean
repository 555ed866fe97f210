theorem dX10_stretch_0 : decode cX10_stretch 0 = .ok (.aload_n 0, 1) := by decide +kernel
theorem dX10_stretch_1 : decode cX10_stretch 1 = .ok (.iload_n 1, 1) := by decide +kernel
theorem dX10_stretch_2 : decode cX10_stretch 2 = .ok (.iload_n 2, 1) := by decide +kernel
theorem dX10_stretch_3 : decode cX10_stretch 3 = .ok (.invokevirtual 208, 3) := by decide +kernel
theorem dX10_stretch_6 : decode cX10_stretch 6 = .ok (.ifCond .eq 15, 3) := by decide +kernel
theorem dX10_stretch_9 : decode cX10_stretch 9 = .ok (.iload_n 3, 1) := by decide +kernel
theorem dX10_stretch_10 : decode cX10_stretch 10 = .ok (.i2l, 1) := by decide +kernel
theorem dX10_stretch_11 : decode cX10_stretch 11 = .ok (.lconst 0, 1) := by decide +kernel
theorem dX10_stretch_12 : decode cX10_stretch 12 = .ok (.ldc2_w 237, 3) := by decide +kernel
theorem dX10_stretch_15 : decode cX10_stretch 15 = .ok (.invokestatic 51, 3) := by decide +kernel
theorem dX10_stretch_18 : decode cX10_stretch 18 = .ok (.ifCond .ne 6, 3) := by decide +kernel
theorem dX10_stretch_21 : decode cX10_stretch 21 = .ok (.ldc 177, 2) := by decide +kernel
theorem dX10_stretch_23 : decode cX10_stretch 23 = .ok (.ireturn, 1) := by decide +kernel
theorem dX10_stretch_24 : decode cX10_stretch 24 = .ok (.iload_n 3, 1) := by decide +kernel
theorem dX10_stretch_25 : decode cX10_stretch 25 = .ok (.iconst 4, 1) := by decide +kernel
theorem dX10_stretch_26 : decode cX10_stretch 26 = .ok (.if_icmp .ge 16, 3) := by decide +kernel
theorem dX10_stretch_29 : decode cX10_stretch 29 = .ok (.aload_n 0, 1) := by decide +kernel
theorem dX10_stretch_30 : decode cX10_stretch 30 = .ok (.getfield 7, 3) := by decide +kernel
theorem dX10_stretch_33 : decode cX10_stretch 33 = .ok (.iload_n 1, 1) := by decide +kernel
theorem dX10_stretch_34 : decode cX10_stretch 34 = .ok (.iload_n 2, 1) := by decide +kernel
theorem dX10_stretch_35 : decode cX10_stretch 35 = .ok (.iload_n 3, 1) := by decide +kernel
theorem dX10_stretch_36 : decode cX10_stretch 36 = .ok (.invokestatic 62, 3) := by decide +kernel
theorem dX10_stretch_39 : decode cX10_stretch 39 = .ok (.goto 36, 3) := by decide +kernel
theorem dX10_stretch_42 : decode cX10_stretch 42 = .ok (.aload_n 0, 1) := by decide +kernel
theorem dX10_stretch_43 : decode cX10_stretch 43 = .ok (.getfield 7, 3) := by decide +kernel
theorem dX10_stretch_46 : decode cX10_stretch 46 = .ok (.iload_n 1, 1) := by decide +kernel
theorem dX10_stretch_47 : decode cX10_stretch 47 = .ok (.iload_n 2, 1) := by decide +kernel
theorem dX10_stretch_48 : decode cX10_stretch 48 = .ok (.iconst 0, 1) := by decide +kernel
theorem dX10_stretch_49 : decode cX10_stretch 49 = .ok (.invokestatic 62, 3) := by decide +kernel
theorem dX10_stretch_52 : decode cX10_stretch 52 = .ok (.aload_n 0, 1) := by decide +kernel
theorem dX10_stretch_53 : decode cX10_stretch 53 = .ok (.getfield 7, 3) := by decide +kernel
theorem dX10_stretch_56 : decode cX10_stretch 56 = .ok (.iload_n 1, 1) := by decide +kernel
theorem dX10_stretch_57 : decode cX10_stretch 57 = .ok (.iload_n 2, 1) := by decide +kernel
theorem dX10_stretch_58 : decode cX10_stretch 58 = .ok (.iconst 2, 1) := by decide +kernel
theorem dX10_stretch_59 : decode cX10_stretch 59 = .ok (.invokestatic 62, 3) := by decide +kernel
theorem dX10_stretch_62 : decode cX10_stretch 62 = .ok (.aload_n 0, 1) := by decide +kernel
theorem dX10_stretch_63 : decode cX10_stretch 63 = .ok (.getfield 7, 3) := by decide +kernel
theorem dX10_stretch_66 : decode cX10_stretch 66 = .ok (.iload_n 1, 1) := by decide +kernel
theorem dX10_stretch_67 : decode cX10_stretch 67 = .ok (.iload_n 2, 1) := by decide +kernel
theorem dX10_stretch_68 : decode cX10_stretch 68 = .ok (.iconst 3, 1) := by decide +kernel
theorem dX10_stretch_69 : decode cX10_stretch 69 = .ok (.invokestatic 62, 3) := by decide +kernel
theorem dX10_stretch_72 : decode cX10_stretch 72 = .ok (.invokestatic 148, 3) := by decide +kernel
theorem dX10_stretch_75 : decode cX10_stretch 75 = .ok (.ireturn, 1) := by decide +kernel
def w_X10_greatest__a : List Cond := .code yX10_greatest cX10_greatest 3 (some .int) :: ([])
set_option maxHeartbeats 4000000 in
set_option maxRecDepth 100000 in
theorem c_X10_greatest__a (l : Launch) (D : va_G) (i_k : Int32) (i_m : Int32) (i_f : Int32) : Met l yX10_greatest w_X10_greatest__a ({ frames := 0, cells := 0, slots := 0, locals := 0 }) (va_Pc [.int i_k, .int i_m, .int i_f] (fun U => va_P D vwCl [] U.heap ∧ va_K D vwCl [] U)) (va_Qi (fun (r : Int32) (_ : Unit) => True) (fun _ _ => True) (fun _ => False)) 0 0 (fun _ => False) := by
  refine Met.ofW (cc := cX10_greatest) (maxL := 3) (ret := (some .int)) (by decide) rfl ?_
  intro p e s m args below meth c s₁ B hml hv
  obtain ⟨rfl, hP, hK⟩ := hv
  have hx := B.exec
  have hb := B.bytes
  have hr := B.returns
  have hts := atoms_spec (ws := w_X10_greatest__a) B.pre
  have hown : s.vm.findClass RX10 = some m.cls := findClass_of_methodNamed B.named
  have hlocks := B.notSynchronized
  have hS : va_S (fun _ : Nat => False) s.heap s.heap [] := va_S.rf
  have hP : va_P D vwCl [] s.heap := hP
  have hl := lv_entry ([.int i_k, .int i_m, .int i_f]) (n := 3) (Nat.le_of_ble_eq_true rfl)
  rw [lg_entry_eq]
  generalize (lg_sl ([.int i_k, .int i_m, .int i_f]) ++ List.replicate (3 - (lg_sl ([.int i_k, .int i_m, .int i_f])).length) Slot.unset).toArray = ls at hl ⊢
  have hl : lv_has ls 3 [(0, .int i_k), (1, .int i_m), (2, .int i_f)] := hl
  obtain ⟨H, hHe⟩ : ∃ H : Heap, H = s.heap := ⟨_, rfl⟩
  rw [← hHe] at hP
  have hS : va_S (fun _ : Nat => False) s.heap H [] := by rw [hHe]; exact hS
  refine pw_heap hHe ?_
  refine lv_iload_n hx hb dX10_greatest_0 rfl (lv_at hl 2 rfl) ?_
  refine lv_iload_n hx hb dX10_greatest_1 rfl (lv_at hl 0 rfl) ?_
  refine lv_iconst (v := 2) hx hb dX10_greatest_2 (by decide) ?_
  refine pw_join (fun (v9 : Int32) H locs ls => va_P D vwCl [] H ∧ va_S (fun _ : Nat => False) s.heap H locs ∧ lv_has ls 3 [(0, .int i_k), (1, .int i_m), (2, .int i_f)]) 0 0 (fun (v9 : Int32) ls => F0 m 39 ls [.int v9, .int i_f]) (fun v9 H locs ls hI => ?_) (fun hJ10 => ?_)
  ·
    obtain ⟨hP, hS, hl⟩ := hI
    have hP : va_P D vwCl [] H := hP
    have hK : va_K D vwCl [] s := hK
    have hl : lv_has ls 3 [(0, .int i_k), (1, .int i_m), (2, .int i_f)] := hl
    refine W.eq (g2 := F0 m 39 ls [.int v9, .int i_f]) rfl ?_
    refine lv_iadd hx hb dX10_greatest_39 ?_
    refine lv_topi (fun x11 ex11 => ?_)
    exact W.iret (v := x11) hx hb hr (fun t ht hW => ⟨⟨x11, (), rfl, trivial, trivial⟩, hS.F ht⟩) hS.2.2 dX10_greatest_40
  ·
    refine lv_icmp_ne (tgt := 14) hx hb dX10_greatest_3 (by decide) (fun c12 => ?_) (fun c12 => ?_)
    · have nc12 : i_k.toInt ≠ 2 := pw_ne c12 rfl (by decide)
      refine lv_iload_n hx hb dX10_greatest_14 rfl (lv_at hl 0 rfl) ?_
      refine lv_iconst (v := 3) hx hb dX10_greatest_15 (by decide) ?_
      refine lv_icmp_ne (tgt := 27) hx hb dX10_greatest_16 (by decide) (fun c13 => ?_) (fun c13 => ?_)
      · have nc13 : i_k.toInt ≠ 3 := pw_ne c13 rfl (by decide)
        refine lv_iload_n hx hb dX10_greatest_27 rfl (lv_at hl 0 rfl) ?_
        refine lv_iconst (v := 5) hx hb dX10_greatest_28 (by decide) ?_
        refine lv_icmp_ne (tgt := 36) hx hb dX10_greatest_29 (by decide) (fun c14 => ?_) (fun c14 => ?_)
        · have nc14 : i_k.toInt ≠ 5 := pw_ne c14 rfl (by decide)
          refine lv_iload_n hx hb dX10_greatest_36 rfl (lv_at hl 1 rfl) ?_
          refine lv_iconst (v := 1) hx hb dX10_greatest_37 (by decide) ?_
          refine lv_isub hx hb dX10_greatest_38 ?_
          refine lv_topi (fun x15 ex15 => ?_)
          have hP9 : va_P D vwCl [] H := hP.sub [] rfl
          have hl9 : lv_has ls 3 [(0, .int i_k), (1, .int i_m), (2, .int i_f)] := lv_sub hl [0, 1, 2] rfl
          refine W.widen (k := 0) (n := 0) (Nat.le_of_ble_eq_true rfl) (Nat.le_of_ble_eq_true rfl) ?_
          exact hJ10 x15 _ _ _ ⟨hP9, hS, hl9⟩
        · have nc14 : i_k.toInt = 5 := pw_eq c14 rfl (by decide)
          refine lv_iconst (v := 0) hx hb dX10_greatest_32 (by decide) ?_
          refine lv_goto (tgt := 39) hx hb dX10_greatest_33 (by decide) ?_
          have hP9 : va_P D vwCl [] H := hP.sub [] rfl
          have hl9 : lv_has ls 3 [(0, .int i_k), (1, .int i_m), (2, .int i_f)] := lv_sub hl [0, 1, 2] rfl
          refine W.widen (k := 0) (n := 0) (Nat.le_of_ble_eq_true rfl) (Nat.le_of_ble_eq_true rfl) ?_
          exact hJ10 0 _ _ _ ⟨hP9, hS, hl9⟩
      · have nc13 : i_k.toInt = 3 := pw_eq c13 rfl (by decide)
        refine lv_iload_n hx hb dX10_greatest_19 rfl (lv_at hl 1 rfl) ?_
        refine lv_iconst (v := 1) hx hb dX10_greatest_20 (by decide) ?_
        refine lv_isub hx hb dX10_greatest_21 ?_
        refine lv_topi (fun x16 ex16 => ?_)
        refine lv_iconst (v := 2) hx hb dX10_greatest_22 (by decide) ?_
        refine lv_idiv hx hb dX10_greatest_23 (by decide) ?_
        refine lv_topi (fun x17 ex17 => ?_)
        refine lv_goto (tgt := 39) hx hb dX10_greatest_24 (by decide) ?_
        have hP9 : va_P D vwCl [] H := hP.sub [] rfl
        have hl9 : lv_has ls 3 [(0, .int i_k), (1, .int i_m), (2, .int i_f)] := lv_sub hl [0, 1, 2] rfl
        refine W.widen (k := 0) (n := 0) (Nat.le_of_ble_eq_true rfl) (Nat.le_of_ble_eq_true rfl) ?_
        exact hJ10 x17 _ _ _ ⟨hP9, hS, hl9⟩
    · have nc12 : i_k.toInt = 2 := pw_eq c12 rfl (by decide)
      refine lv_iconst (v := 2) hx hb dX10_greatest_6 (by decide) ?_
      refine lv_iload_n hx hb dX10_greatest_7 rfl (lv_at hl 1 rfl) ?_
      refine lv_imul hx hb dX10_greatest_8 ?_
      refine lv_topi (fun x18 ex18 => ?_)
      refine lv_iconst (v := 1) hx hb dX10_greatest_9 (by decide) ?_
      refine lv_isub hx hb dX10_greatest_10 ?_
      refine lv_topi (fun x19 ex19 => ?_)
      refine lv_goto (tgt := 39) hx hb dX10_greatest_11 (by decide) ?_
      have hP9 : va_P D vwCl [] H := hP.sub [] rfl
      have hl9 : lv_has ls 3 [(0, .int i_k), (1, .int i_m), (2, .int i_f)] := lv_sub hl [0, 1, 2] rfl
      refine W.widen (k := 0) (n := 0) (Nat.le_of_ble_eq_true rfl) (Nat.le_of_ble_eq_true rfl) ?_
      exact hJ10 x19 _ _ _ ⟨hP9, hS, hl9⟩
def w_X10_stretch : List Cond := .code yX10_stretch cX10_stretch 4 (some .int) :: ([.methodLink RX10 208 yX10_isStretch, .instanceMethod yX10_isStretch, .selects RX10 yX10_isStretch yX10_isStretch, .initialized RX10, .code yX10_isStretch cX10_isStretch 3 (some .boolean), .methodLink RX10 55 yX10_isEdition, .instanceMethod yX10_isEdition, .selects RX10 yX10_isEdition yX10_isEdition, .code yX10_isEdition cX10_isEdition 2 (some .boolean), .methodLink RX10 47 yX10_isWork, .instanceMethod yX10_isWork, .selects RX10 yX10_isWork yX10_isWork, .code yX10_isWork cX10_isWork 1 (some .boolean), .fieldLink RX10 7 "LineCitesModel" "now" "[I", .methodLink RX10 51 yX10_in0, .static yX10_in0, .code yX10_in0 cX10_in0 6 (some .boolean), .constant RX10 177 (-1000001), .constantLong RX10 237 (4), .methodLink RX10 62 yX10_of, .static yX10_of, .code yX10_of cX10_of 4 (some .int), .methodLink RX10 148 yX10_greatest, .static yX10_greatest, .code yX10_greatest cX10_greatest 3 (some .int)] ++ wsX100)
set_option maxRecDepth 20000 in
theorem g_X10_stretch_X10_isStretch : GoodIn w_X10_stretch (wsV RX10 208 RX10 yX10_isStretch w_X10_isStretch) := goodIn_r _ [1, 2, 3, 4, 5, 6, 7, 8, 4, 9, 10, 11, 12, 13, 14, 15, 16, 17, 26, 27, 28, 29, 30, 31, 32, 33, 34, 35, 36, 37, 38, 39, 40, 41, 42, 43, 44, 45, 46, 47, 48, 49, 50] rfl (by decide +kernel)
set_option maxRecDepth 20000 in
theorem g_X10_stretch_X10_in0 : GoodIn w_X10_stretch (wsS RX10 51 yX10_in0 w_X10_in0) := goodIn_r _ [15, 16, 4, 17] rfl (by decide +kernel)
set_option maxRecDepth 20000 in
theorem g_X10_stretch_X10_of : GoodIn w_X10_stretch (wsS RX10 62 yX10_of w_X10_of) := goodIn_r _ [20, 21, 4, 22] rfl (by decide +kernel)
set_option maxRecDepth 20000 in
theorem g_X10_stretch_X10_greatest__a : GoodIn w_X10_stretch (wsS RX10 148 yX10_greatest w_X10_greatest__a) := goodIn_r _ [23, 24, 4, 25] rfl (by decide +kernel)
set_option maxHeartbeats 4000000 in
set_option maxRecDepth 100000 in
theorem c_X10_stretch (l : Launch) (D : va_G) (h0 : Nat) (i_0 : Int32) (i_1 : Int32) (i_2 : Int32) (m_now : Nat) (m_draft : Nat) (m_past : Nat) (j_acts : Int32) (m_images : Nat) (m_kept : Nat) (m_tape : Nat) (j_taped : Int32) (j_at : Int32) (j_start : Int32) (j_token : Int32) (j_value : Int32) (j_fault : Int32) (j_place : Int32) (j_latest : Int32) (m_low : Nat) (m_high : Nat) (m_first : Nat) (m_second : Nat) (m_lines : Nat) (m_others : Nat) (j_shiftFirst : Int32) (j_shiftMany : Int32) (j_shiftLow : Int32) (j_shiftHigh : Int32) (kI : ClassId) (g_now : Nat → Int32) (hg_now : gV g_now) : Met l yX10_stretch w_X10_stretch ({ frames := 3, cells := 0, slots := 0, locals := 68 }) (va_Pc [.ref h0, .int i_0, .int i_1, .int i_2] (fun U => va_P D vwCl [(h0, .inr (10, [.ref m_now, .ref m_draft, .ref m_past, .int j_acts, .ref m_images, .ref m_kept, .ref m_tape, .int j_taped, .int j_at, .int j_start, .int j_token, .int j_value, .int j_fault, .int j_place, .int j_latest, .ref m_low, .ref m_high, .ref m_first, .ref m_second, .ref m_lines, .ref m_others, .int j_shiftFirst, .int j_shiftMany, .int j_shiftLow, .int j_shiftHigh])), (m_now, .inl (kI, 192, .inl g_now))] U.heap ∧ va_K D vwCl [(kI, .int)] U)) (va_Qi (fun (r : Int32) (_ : Unit) => True) (fun _ _ => True) (fun _ => False)) 0 0 (fun _ => False) := by
  refine Met.ofW (cc := cX10_stretch) (maxL := 4) (ret := (some .int)) (by decide) rfl ?_
  intro p e s m args below meth c s₁ B hml hv
  obtain ⟨rfl, hP, hK⟩ := hv
  have hx := B.exec
  have hb := B.bytes
  have hr := B.returns
  have hts := atoms_spec (ws := w_X10_stretch) B.pre
  have hown : s.vm.findClass RX10 = some m.cls := findClass_of_methodNamed B.named
  have hlocks := B.notSynchronized
  have hS : va_S (fun _ : Nat => False) s.heap s.heap [] := va_S.rf
  have hP : va_P D vwCl [(h0, .inr (10, [.ref m_now, .ref m_draft, .ref m_past, .int j_acts, .ref m_images, .ref m_kept, .ref m_tape, .int j_taped, .int j_at, .int j_start, .int j_token, .int j_value, .int j_fault, .int j_place, .int j_latest, .ref m_low, .ref m_high, .ref m_first, .ref m_second, .ref m_lines, .ref m_others, .int j_shiftFirst, .int j_shiftMany, .int j_shiftLow, .int j_shiftHigh])), (m_now, .inl (kI, 192, .inl g_now))] s.heap := hP
  have hl := lv_entry ([.ref h0, .int i_0, .int i_1, .int i_2]) (n := 4) (Nat.le_of_ble_eq_true rfl)
  rw [lg_entry_eq]
  generalize (lg_sl ([.ref h0, .int i_0, .int i_1, .int i_2]) ++ List.replicate (4 - (lg_sl ([.ref h0, .int i_0, .int i_1, .int i_2])).length) Slot.unset).toArray = ls at hl ⊢
  have hl : lv_has ls 4 [(0, .ref h0), (1, .int i_0), (2, .int i_1), (3, .int i_2)] := hl
  obtain ⟨H, hHe⟩ : ∃ H : Heap, H = s.heap := ⟨_, rfl⟩
  rw [← hHe] at hP
  have hS : va_S (fun _ : Nat => False) s.heap H [] := by rw [hHe]; exact hS
  refine pw_heap hHe ?_
  refine lv_aload_n hx hb dX10_stretch_0 rfl (lv_at hl 0 rfl) ?_
  refine lv_iload_n hx hb dX10_stretch_1 rfl (lv_at hl 1 rfl) ?_
  refine lv_iload_n hx hb dX10_stretch_2 rfl (lv_at hl 2 rfl) ?_
  have hPc := hP.sub (ws' := [(h0, .inr (10, [.ref m_now, .ref m_draft, .ref m_past, .int j_acts, .ref m_images, .ref m_kept, .ref m_tape, .int j_taped, .int j_at, .int j_start, .int j_token, .int j_value, .int j_fault, .int j_place, .int j_latest, .ref m_low, .ref m_high, .ref m_first, .ref m_second, .ref m_lines, .ref m_others, .int j_shiftFirst, .int j_shiftMany, .int j_shiftLow, .int j_shiftHigh])), (m_now, .inl (kI, 192, .inl g_now))]) [0, 1] rfl
  have hKc := hK.sub (tys' := [(kI, .int)]) [0] rfl
  refine va_calli (va_runV (As := [.int i_0, .int i_1]) (rest := []) ⟨hx, hb, hml, hown, hts⟩ (c_X10_isStretch l D h0 i_0 i_1 m_now m_draft m_past j_acts m_images m_kept m_tape j_taped j_at j_start j_token j_value j_fault j_place j_latest m_low m_high m_first m_second m_lines m_others j_shiftFirst j_shiftMany j_shiftLow j_shiftHigh kI g_now hg_now) (cwV 2 hts g_X10_stretch_X10_isStretch rfl rfl rfl (by decide +kernel) ⟨Nat.le_of_ble_eq_true rfl, Nat.le_of_ble_eq_true rfl⟩) ⟨fun a U g mk q => by obtain ⟨q0, qP, qK⟩ := q; exact ⟨q0, qP, va_K.moved (u := U) (U := U.calling g mk a) (Vm.Alike.refl U.vm) qK⟩, va_recv hKc hPc (ci := 10) (q0 := 0) rfl rfl, fun U hU hW => ⟨rfl, by rw [hU]; exact hPc, va_K.moved hW.alike hKc⟩⟩ rfl rfl hl.1 rfl (lv_room (Nat.le_of_ble_eq_true rfl)) dX10_stretch_3 ⟨Nat.le_of_ble_eq_true rfl, Nat.le_of_ble_eq_true rfl⟩) hS (fun _ _ h => h.elim) (fun _ h => h.elim) (fun r1 u t H1 locs ht hvm hw hB hz1 hk1 hS => ?_)
  have hP := pw_keep hP (fun q hq => hk1 q hq (fun h => h))
  generalize H1 = H at hP hS ⊢
  refine W.widen (k := 0) (n := 0) (Nat.le_of_ble_eq_true rfl) (Nat.le_of_ble_eq_true rfl) ?_
  have bor1 := hw.1
  have zor1 := pw_boolI bor1
  have hfr1 := hw.2
  refine lv_if_eq (tgt := 21) hx hb dX10_stretch_6 (by decide) (fun c2 => ?_) (fun c2 => ?_)
  · have nc2 : r1.toInt = 0 := pw_eq c2 rfl (by decide)
    refine lv_ldc hx hb hown (hts (.constant RX10 177 (-1000001)) (List.mem_of_getElem? (i := 18) rfl)) dX10_stretch_21 ?_
    exact W.iret (v := (-1000001)) hx hb hr (fun t ht hW => ⟨⟨(-1000001), (), rfl, trivial, trivial⟩, hS.F ht⟩) hS.2.2 dX10_stretch_23
  · have nc2 : r1.toInt ≠ 0 := pw_ne c2 rfl (by decide)
    refine lv_iload_n hx hb dX10_stretch_9 rfl (lv_at hl 3 rfl) ?_
    refine lv_i2l (v := i_2.toInt64) hx hb dX10_stretch_10 rfl ?_
    refine lv_lconst (v := 0) hx hb dX10_stretch_11 (by decide) ?_
    refine lv_ldc2 hx hb hown (hts (.constantLong RX10 237 (4)) (List.mem_of_getElem? (i := 19) rfl)) dX10_stretch_12 ?_
    have hPc := hP.sub (ws' := []) [] rfl
    have hKc := hK.sub (tys' := []) [] rfl
    refine va_calli (va_runS (As := [.long i_2.toInt64, .long 0, .long 4]) (rest := []) ⟨hx, hb, hml, hown, hts⟩ (c_X10_in0 l D i_2.toInt64 0 4) (cwS 3 hts g_X10_stretch_X10_in0 rfl rfl rfl (by decide +kernel) ⟨Nat.le_of_ble_eq_true rfl, Nat.le_of_ble_eq_true rfl⟩) ⟨fun a U g mk q => by obtain ⟨q0, qP, qK⟩ := q; exact ⟨q0, qP, va_K.moved (u := U) (U := U.calling g mk a) (Vm.Alike.refl U.vm) qK⟩, fun U hU hW => ⟨rfl, by rw [hU]; exact hPc, va_K.moved hW.alike hKc⟩⟩ rfl rfl hl.1 rfl (lv_room (Nat.le_of_ble_eq_true rfl)) dX10_stretch_15 ⟨Nat.le_of_ble_eq_true rfl, Nat.le_of_ble_eq_true rfl⟩) hS (fun _ _ h => h.elim) (fun _ h => h.elim) (fun r3 u t H1 locs ht hvm hw hB hz1 hk1 hS => ?_)
    have hP := pw_keep hP (fun q hq => hk1 q hq (fun h => h))
    generalize H1 = H at hP hS ⊢
    refine W.widen (k := 0) (n := 0) (Nat.le_of_ble_eq_true rfl) (Nat.le_of_ble_eq_true rfl) ?_
    have bor3 := hw.1
    have zor3 := pw_boolI bor3
    have hfr3 := hw.2
    have kl0 : (0 : Int64).toInt = 0 := by decide
    have kl4 : (4 : Int64).toInt = 4 := by decide
    try simp only [Int32.toInt_toInt64] at hfr3
    refine lv_if_ne (tgt := 24) hx hb dX10_stretch_18 (by decide) (fun c4 => ?_) (fun c4 => ?_)
    · have nc4 : r3.toInt ≠ 0 := pw_ne c4 rfl (by decide)
      refine lv_iload_n hx hb dX10_stretch_24 rfl (lv_at hl 3 rfl) ?_
      refine lv_iconst (v := 4) hx hb dX10_stretch_25 (by decide) ?_
      refine lv_icmp_ge (tgt := 42) hx hb dX10_stretch_26 (by decide) (fun c5 => ?_) (fun c5 => ?_)
      · have nc5 : 4 ≤ i_2.toInt := pw_le c5 (by decide) rfl
        refine lv_aload_n hx hb dX10_stretch_42 rfl (lv_at hl 0 rfl) ?_
        refine va_get (D := D) (ci := 10) (v := .ref m_now) (C := RX10) (T := TX10) (N := 25) hx hb hts (fun _ h => List.mem_cons_of_mem _ (List.mem_append_right _ h)) hown hK hP 0 rfl rfl 0 (by decide) (hts (.fieldLink RX10 7 "LineCitesModel" "now" "[I") (List.mem_of_getElem? (i := 14) rfl)) (fun _ h9 => h9) rfl dX10_stretch_43 ?_
        refine lv_iload_n hx hb dX10_stretch_46 rfl (lv_at hl 1 rfl) ?_
        refine lv_iload_n hx hb dX10_stretch_47 rfl (lv_at hl 2 rfl) ?_
        refine lv_iconst (v := 0) hx hb dX10_stretch_48 (by decide) ?_
        have kk0 : (0 : Int32).toInt = 0 := by decide
        have hPc := hP.sub (ws' := [(m_now, .inl (kI, 192, .inl g_now))]) [1] rfl
        have hKc := hK.sub (tys' := [(kI, .int)]) [0] rfl
        refine va_calli (va_runS (As := [.ref m_now, .int i_0, .int i_1, .int 0]) (rest := []) ⟨hx, hb, hml, hown, hts⟩ (c_X10_of l D m_now i_0 i_1 0 kI g_now i_0.toInt.toNat i_1.toInt.toNat 0 (by first | decide | omega) (by first | decide | omega) (by first | decide | omega) (by first | decide | omega) (by first | decide | omega) (by first | decide | omega) (by first | omega | decide | (have hz0 : (0 : Int32).toInt = 0 := (by decide); omega)) (by first | omega | decide | (have hz0 : (0 : Int32).toInt = 0 := (by decide); omega)) (by first | omega | decide | (have hz0 : (0 : Int32).toInt = 0 := (by decide); omega))) (cwS 4 hts g_X10_stretch_X10_of rfl rfl rfl (by decide +kernel) ⟨Nat.le_of_ble_eq_true rfl, Nat.le_of_ble_eq_true rfl⟩) ⟨fun a U g mk q => by obtain ⟨q0, qP, qK⟩ := q; exact ⟨q0, qP, va_K.moved (u := U) (U := U.calling g mk a) (Vm.Alike.refl U.vm) qK⟩, fun U hU hW => ⟨rfl, by rw [hU]; exact hPc, va_K.moved hW.alike hKc⟩⟩ rfl rfl hl.1 rfl (lv_room (Nat.le_of_ble_eq_true rfl)) dX10_stretch_49 ⟨Nat.le_of_ble_eq_true rfl, Nat.le_of_ble_eq_true rfl⟩) hS (fun _ _ h => h.elim) (fun _ h => h.elim) (fun r6 u t H1 locs ht hvm hw hB hz1 hk1 hS => ?_)
        have hP := pw_keep hP (fun q hq => hk1 q hq (fun h => h))
        generalize H1 = H at hP hS ⊢
        refine W.widen (k := 0) (n := 0) (Nat.le_of_ble_eq_true rfl) (Nat.le_of_ble_eq_true rfl) ?_
        have hfr6 := hw
        refine lv_aload_n hx hb dX10_stretch_52 rfl (lv_at hl 0 rfl) ?_
        refine va_get (D := D) (ci := 10) (v := .ref m_now) (C := RX10) (T := TX10) (N := 25) hx hb hts (fun _ h => List.mem_cons_of_mem _ (List.mem_append_right _ h)) hown hK hP 0 rfl rfl 0 (by decide) (hts (.fieldLink RX10 7 "LineCitesModel" "now" "[I") (List.mem_of_getElem? (i := 14) rfl)) (fun _ h9 => h9) rfl dX10_stretch_53 ?_
        refine lv_iload_n hx hb dX10_stretch_56 rfl (lv_at hl 1 rfl) ?_
        refine lv_iload_n hx hb dX10_stretch_57 rfl (lv_at hl 2 rfl) ?_
        refine lv_iconst (v := 2) hx hb dX10_stretch_58 (by decide) ?_
        have kk2 : (2 : Int32).toInt = 2 := by decide
        have hPc := hP.sub (ws' := [(m_now, .inl (kI, 192, .inl g_now))]) [1] rfl
        have hKc := hK.sub (tys' := [(kI, .int)]) [0] rfl
        refine va_calli (va_runS (As := [.ref m_now, .int i_0, .int i_1, .int 2]) (rest := [.int r6]) ⟨hx, hb, hml, hown, hts⟩ (c_X10_of l D m_now i_0 i_1 2 kI g_now i_0.toInt.toNat i_1.toInt.toNat 2 (by first | decide | omega) (by first | decide | omega) (by first | decide | omega) (by first | decide | omega) (by first | decide | omega) (by first | decide | omega) (by first | omega | decide | (have hz0 : (0 : Int32).toInt = 0 := (by decide); omega)) (by first | omega | decide | (have hz0 : (0 : Int32).toInt = 0 := (by decide); omega)) (by first | omega | decide | (have hz0 : (0 : Int32).toInt = 0 := (by decide); omega))) (cwS 4 hts g_X10_stretch_X10_of rfl rfl rfl (by decide +kernel) ⟨Nat.le_of_ble_eq_true rfl, Nat.le_of_ble_eq_true rfl⟩) ⟨fun a U g mk q => by obtain ⟨q0, qP, qK⟩ := q; exact ⟨q0, qP, va_K.moved (u := U) (U := U.calling g mk a) (Vm.Alike.refl U.vm) qK⟩, fun U hU hW => ⟨rfl, by rw [hU]; exact hPc, va_K.moved hW.alike hKc⟩⟩ rfl rfl hl.1 rfl (lv_room (Nat.le_of_ble_eq_true rfl)) dX10_stretch_59 ⟨Nat.le_of_ble_eq_true rfl, Nat.le_of_ble_eq_true rfl⟩) hS (fun _ _ h => h.elim) (fun _ h => h.elim) (fun r7 u t H1 locs ht hvm hw hB hz1 hk1 hS => ?_)
        have hP := pw_keep hP (fun q hq => hk1 q hq (fun h => h))
        generalize H1 = H at hP hS ⊢
        refine W.widen (k := 0) (n := 0) (Nat.le_of_ble_eq_true rfl) (Nat.le_of_ble_eq_true rfl) ?_
        have hfr7 := hw
        refine lv_aload_n hx hb dX10_stretch_62 rfl (lv_at hl 0 rfl) ?_
        refine va_get (D := D) (ci := 10) (v := .ref m_now) (C := RX10) (T := TX10) (N := 25) hx hb hts (fun _ h => List.mem_cons_of_mem _ (List.mem_append_right _ h)) hown hK hP 0 rfl rfl 0 (by decide) (hts (.fieldLink RX10 7 "LineCitesModel" "now" "[I") (List.mem_of_getElem? (i := 14) rfl)) (fun _ h9 => h9) rfl dX10_stretch_63 ?_
        refine lv_iload_n hx hb dX10_stretch_66 rfl (lv_at hl 1 rfl) ?_
        refine lv_iload_n hx hb dX10_stretch_67 rfl (lv_at hl 2 rfl) ?_
        refine lv_iconst (v := 3) hx hb dX10_stretch_68 (by decide) ?_
        have kk3 : (3 : Int32).toInt = 3 := by decide
        have hPc := hP.sub (ws' := [(m_now, .inl (kI, 192, .inl g_now))]) [1] rfl
        have hKc := hK.sub (tys' := [(kI, .int)]) [0] rfl
        refine va_calli (va_runS (As := [.ref m_now, .int i_0, .int i_1, .int 3]) (rest := [.int r7, .int r6]) ⟨hx, hb, hml, hown, hts⟩ (c_X10_of l D m_now i_0 i_1 3 kI g_now i_0.toInt.toNat i_1.toInt.toNat 3 (by first | decide | omega) (by first | decide | omega) (by first | decide | omega) (by first | decide | omega) (by first | decide | omega) (by first | decide | omega) (by first | omega | decide | (have hz0 : (0 : Int32).toInt = 0 := (by decide); omega)) (by first | omega | decide | (have hz0 : (0 : Int32).toInt = 0 := (by decide); omega)) (by first | omega | decide | (have hz0 : (0 : Int32).toInt = 0 := (by decide); omega))) (cwS 4 hts g_X10_stretch_X10_of rfl rfl rfl (by decide +kernel) ⟨Nat.le_of_ble_eq_true rfl, Nat.le_of_ble_eq_true rfl⟩) ⟨fun a U g mk q => by obtain ⟨q0, qP, qK⟩ := q; exact ⟨q0, qP, va_K.moved (u := U) (U := U.calling g mk a) (Vm.Alike.refl U.vm) qK⟩, fun U hU hW => ⟨rfl, by rw [hU]; exact hPc, va_K.moved hW.alike hKc⟩⟩ rfl rfl hl.1 rfl (lv_room (Nat.le_of_ble_eq_true rfl)) dX10_stretch_69 ⟨Nat.le_of_ble_eq_true rfl, Nat.le_of_ble_eq_true rfl⟩) hS (fun _ _ h => h.elim) (fun _ h => h.elim) (fun r8 u t H1 locs ht hvm hw hB hz1 hk1 hS => ?_)
        have hP := pw_keep hP (fun q hq => hk1 q hq (fun h => h))
        generalize H1 = H at hP hS ⊢
        refine W.widen (k := 0) (n := 0) (Nat.le_of_ble_eq_true rfl) (Nat.le_of_ble_eq_true rfl) ?_
        have hfr8 := hw
        have hPc := hP.sub (ws' := []) [] rfl
        have hKc := hK.sub (tys' := []) [] rfl
        refine va_calli (va_runS (As := [.int r6, .int r7, .int r8]) (rest := []) ⟨hx, hb, hml, hown, hts⟩ (c_X10_greatest__a l D r6 r7 r8) (cwS 3 hts g_X10_stretch_X10_greatest__a rfl rfl rfl (by decide +kernel) ⟨Nat.le_of_ble_eq_true rfl, Nat.le_of_ble_eq_true rfl⟩) ⟨fun a U g mk q => by obtain ⟨q0, qP, qK⟩ := q; exact ⟨q0, qP, va_K.moved (u := U) (U := U.calling g mk a) (Vm.Alike.refl U.vm) qK⟩, fun U hU hW => ⟨rfl, by rw [hU]; exact hPc, va_K.moved hW.alike hKc⟩⟩ rfl rfl hl.1 rfl (lv_room (Nat.le_of_ble_eq_true rfl)) dX10_stretch_72 ⟨Nat.le_of_ble_eq_true rfl, Nat.le_of_ble_eq_true rfl⟩) hS (fun _ _ h => h.elim) (fun _ h => h.elim) (fun r9 u t H1 locs ht hvm hw hB hz1 hk1 hS => ?_)
        have hP := pw_keep hP (fun q hq => hk1 q hq (fun h => h))
        generalize H1 = H at hP hS ⊢
        refine W.widen (k := 0) (n := 0) (Nat.le_of_ble_eq_true rfl) (Nat.le_of_ble_eq_true rfl) ?_
        exact W.iret (v := r9) hx hb hr (fun t ht hW => ⟨⟨r9, (), rfl, trivial, trivial⟩, hS.F ht⟩) hS.2.2 dX10_stretch_75
      · have nc5 : i_2.toInt < 4 := pw_nle c5 (by decide) rfl
        refine lv_aload_n hx hb dX10_stretch_29 rfl (lv_at hl 0 rfl) ?_
        refine va_get (D := D) (ci := 10) (v := .ref m_now) (C := RX10) (T := TX10) (N := 25) hx hb hts (fun _ h => List.mem_cons_of_mem _ (List.mem_append_right _ h)) hown hK hP 0 rfl rfl 0 (by decide) (hts (.fieldLink RX10 7 "LineCitesModel" "now" "[I") (List.mem_of_getElem? (i := 14) rfl)) (fun _ h9 => h9) rfl dX10_stretch_30 ?_
        refine lv_iload_n hx hb dX10_stretch_33 rfl (lv_at hl 1 rfl) ?_
        refine lv_iload_n hx hb dX10_stretch_34 rfl (lv_at hl 2 rfl) ?_
        refine lv_iload_n hx hb dX10_stretch_35 rfl (lv_at hl 3 rfl) ?_
        have hPc := hP.sub (ws' := [(m_now, .inl (kI, 192, .inl g_now))]) [1] rfl
        have hKc := hK.sub (tys' := [(kI, .int)]) [0] rfl
        refine va_calli (va_runS (As := [.ref m_now, .int i_0, .int i_1, .int i_2]) (rest := []) ⟨hx, hb, hml, hown, hts⟩ (c_X10_of l D m_now i_0 i_1 i_2 kI g_now i_0.toInt.toNat i_1.toInt.toNat i_2.toInt.toNat (by first | decide | omega) (by first | decide | omega) (by first | decide | omega) (by first | decide | omega) (by first | decide | omega) (by first | decide | omega) (by first | omega | decide | (have hz0 : (0 : Int32).toInt = 0 := (by decide); omega)) (by first | omega | decide | (have hz0 : (0 : Int32).toInt = 0 := (by decide); omega)) (by first | omega | decide | (have hz0 : (0 : Int32).toInt = 0 := (by decide); omega))) (cwS 4 hts g_X10_stretch_X10_of rfl rfl rfl (by decide +kernel) ⟨Nat.le_of_ble_eq_true rfl, Nat.le_of_ble_eq_true rfl⟩) ⟨fun a U g mk q => by obtain ⟨q0, qP, qK⟩ := q; exact ⟨q0, qP, va_K.moved (u := U) (U := U.calling g mk a) (Vm.Alike.refl U.vm) qK⟩, fun U hU hW => ⟨rfl, by rw [hU]; exact hPc, va_K.moved hW.alike hKc⟩⟩ rfl rfl hl.1 rfl (lv_room (Nat.le_of_ble_eq_true rfl)) dX10_stretch_36 ⟨Nat.le_of_ble_eq_true rfl, Nat.le_of_ble_eq_true rfl⟩) hS (fun _ _ h => h.elim) (fun _ h => h.elim) (fun r10 u t H1 locs ht hvm hw hB hz1 hk1 hS => ?_)
        have hP := pw_keep hP (fun q hq => hk1 q hq (fun h => h))
        generalize H1 = H at hP hS ⊢
        refine W.widen (k := 0) (n := 0) (Nat.le_of_ble_eq_true rfl) (Nat.le_of_ble_eq_true rfl) ?_
        have hfr10 := hw
        refine lv_goto (tgt := 75) hx hb dX10_stretch_39 (by decide) ?_
        exact W.iret (v := r10) hx hb hr (fun t ht hW => ⟨⟨r10, (), rfl, trivial, trivial⟩, hS.F ht⟩) hS.2.2 dX10_stretch_75
    · have nc4 : r3.toInt = 0 := pw_eq c4 rfl (by decide)
      refine lv_ldc hx hb hown (hts (.constant RX10 177 (-1000001)) (List.mem_of_getElem? (i := 18) rfl)) dX10_stretch_21 ?_
      exact W.iret (v := (-1000001)) hx hb hr (fun t ht hW => ⟨⟨(-1000001), (), rfl, trivial, trivial⟩, hS.F ht⟩) hS.2.2 dX10_stretch_23
