theorem dX4_refuse_0 : decode cX4_refuse 0 = .ok (.aload_n 0, 1) := by decide +kernel
theorem dX4_refuse_1 : decode cX4_refuse 1 = .ok (.iload_n 1, 1) := by decide +kernel
theorem dX4_refuse_2 : decode cX4_refuse 2 = .ok (.putfield 19, 3) := by decide +kernel
theorem dX4_refuse_5 : decode cX4_refuse 5 = .ok (.iconst 0, 1) := by decide +kernel
theorem dX4_refuse_6 : decode cX4_refuse 6 = .ok (.ireturn, 1) := by decide +kernel
theorem dX4_faultNumber_0 : decode cX4_faultNumber 0 = .ok (.aload_n 0, 1) := by decide +kernel
theorem dX4_faultNumber_1 : decode cX4_faultNumber 1 = .ok (.getfield 19, 3) := by decide +kernel
theorem dX4_faultNumber_4 : decode cX4_faultNumber 4 = .ok (.ireturn, 1) := by decide +kernel
theorem dX4_faultPlace_0 : decode cX4_faultPlace 0 = .ok (.aload_n 0, 1) := by decide +kernel
theorem dX4_faultPlace_1 : decode cX4_faultPlace 1 = .ok (.getfield 23, 3) := by decide +kernel
theorem dX4_faultPlace_4 : decode cX4_faultPlace 4 = .ok (.ireturn, 1) := by decide +kernel
theorem dX4_expect_0 : decode cX4_expect 0 = .ok (.aload_n 0, 1) := by decide +kernel
theorem dX4_expect_1 : decode cX4_expect 1 = .ok (.invokevirtual 45, 3) := by decide +kernel
theorem dX4_expect_4 : decode cX4_expect 4 = .ok (.aload_n 0, 1) := by decide +kernel
theorem dX4_expect_5 : decode cX4_expect 5 = .ok (.getfield 48, 3) := by decide +kernel
theorem dX4_expect_8 : decode cX4_expect 8 = .ok (.iload_n 1, 1) := by decide +kernel
theorem dX4_expect_9 : decode cX4_expect 9 = .ok (.if_icmp .eq 11, 3) := by decide +kernel
theorem dX4_expect_12 : decode cX4_expect 12 = .ok (.aload_n 0, 1) := by decide +kernel
theorem dX4_expect_13 : decode cX4_expect 13 = .ok (.iconst 1, 1) := by decide +kernel
theorem dX4_expect_14 : decode cX4_expect 14 = .ok (.invokevirtual 36, 3) := by decide +kernel
theorem dX4_expect_17 : decode cX4_expect 17 = .ok (.ifCond .eq 7, 3) := by decide +kernel
theorem dX4_expect_20 : decode cX4_expect 20 = .ok (.iconst 1, 1) := by decide +kernel
theorem dX4_expect_21 : decode cX4_expect 21 = .ok (.goto 4, 3) := by decide +kernel
theorem dX4_expect_24 : decode cX4_expect 24 = .ok (.iconst 0, 1) := by decide +kernel
theorem dX4_expect_25 : decode cX4_expect 25 = .ok (.ireturn, 1) := by decide +kernel
theorem dX4_readHead_0 : decode cX4_readHead 0 = .ok (.aload_n 0, 1) := by decide +kernel
theorem dX4_readHead_1 : decode cX4_readHead 1 = .ok (.iconst 0, 1) := by decide +kernel
theorem dX4_readHead_2 : decode cX4_readHead 2 = .ok (.putfield 26, 3) := by decide +kernel
theorem dX4_readHead_5 : decode cX4_readHead 5 = .ok (.aload_n 0, 1) := by decide +kernel
theorem dX4_readHead_6 : decode cX4_readHead 6 = .ok (.bipush 119, 2) := by decide +kernel
theorem dX4_readHead_8 : decode cX4_readHead 8 = .ok (.invokevirtual 29, 3) := by decide +kernel
theorem dX4_readHead_11 : decode cX4_readHead 11 = .ok (.ifCond .eq 12, 3) := by decide +kernel
theorem dX4_readHead_14 : decode cX4_readHead 14 = .ok (.aload_n 0, 1) := by decide +kernel
theorem dX4_readHead_15 : decode cX4_readHead 15 = .ok (.bipush (-2), 2) := by decide +kernel
theorem dX4_readHead_17 : decode cX4_readHead 17 = .ok (.invokevirtual 29, 3) := by decide +kernel
theorem dX4_readHead_20 : decode cX4_readHead 20 = .ok (.ifCond .ne 5, 3) := by decide +kernel
theorem dX4_readHead_23 : decode cX4_readHead 23 = .ok (.iconst 0, 1) := by decide +kernel
theorem dX4_readHead_24 : decode cX4_readHead 24 = .ok (.ireturn, 1) := by decide +kernel
theorem dX4_readHead_25 : decode cX4_readHead 25 = .ok (.aload_n 0, 1) := by decide +kernel
theorem dX4_readHead_26 : decode cX4_readHead 26 = .ok (.getfield 33, 3) := by decide +kernel
theorem dX4_readHead_29 : decode cX4_readHead 29 = .ok (.iconst 1, 1) := by decide +kernel
theorem dX4_readHead_30 : decode cX4_readHead 30 = .ok (.if_icmp .lt 13, 3) := by decide +kernel
theorem dX4_readHead_33 : decode cX4_readHead 33 = .ok (.aload_n 0, 1) := by decide +kernel
theorem dX4_readHead_34 : decode cX4_readHead 34 = .ok (.getfield 33, 3) := by decide +kernel
theorem dX4_readHead_37 : decode cX4_readHead 37 = .ok (.sipush 200, 3) := by decide +kernel
theorem dX4_readHead_40 : decode cX4_readHead 40 = .ok (.if_icmp .le 9, 3) := by decide +kernel
theorem dX4_readHead_43 : decode cX4_readHead 43 = .ok (.aload_n 0, 1) := by decide +kernel
theorem dX4_readHead_44 : decode cX4_readHead 44 = .ok (.iconst 2, 1) := by decide +kernel
theorem dX4_readHead_45 : decode cX4_readHead 45 = .ok (.invokevirtual 36, 3) := by decide +kernel
theorem dX4_readHead_48 : decode cX4_readHead 48 = .ok (.ireturn, 1) := by decide +kernel
theorem dX4_readHead_49 : decode cX4_readHead 49 = .ok (.aload_n 0, 1) := by decide +kernel
theorem dX4_readHead_50 : decode cX4_readHead 50 = .ok (.getfield 15, 3) := by decide +kernel
theorem dX4_readHead_53 : decode cX4_readHead 53 = .ok (.aload_n 0, 1) := by decide +kernel
theorem dX4_readHead_54 : decode cX4_readHead 54 = .ok (.getfield 33, 3) := by decide +kernel
theorem dX4_readHead_57 : decode cX4_readHead 57 = .ok (.invokevirtual 39, 3) := by decide +kernel
theorem dX4_readHead_60 : decode cX4_readHead 60 = .ok (.aload_n 0, 1) := by decide +kernel
theorem dX4_readHead_61 : decode cX4_readHead 61 = .ok (.bipush 59, 2) := by decide +kernel
theorem dX4_readHead_63 : decode cX4_readHead 63 = .ok (.invokevirtual 29, 3) := by decide +kernel
theorem dX4_readHead_66 : decode cX4_readHead 66 = .ok (.ireturn, 1) := by decide +kernel
theorem dX4_kindOf_0 : decode cX4_kindOf 0 = .ok (.iload_n 0, 1) := by decide +kernel
theorem dX4_kindOf_1 : decode cX4_kindOf 1 = .ok (.lookupswitch 61 #[(98, 59), (104, 55), (112, 51), (114, 57), (115, 53)], 51) := by decide +kernel
theorem dX4_kindOf_52 : decode cX4_kindOf 52 = .ok (.iconst 1, 1) := by decide +kernel
theorem dX4_kindOf_53 : decode cX4_kindOf 53 = .ok (.ireturn, 1) := by decide +kernel
theorem dX4_kindOf_54 : decode cX4_kindOf 54 = .ok (.iconst 2, 1) := by decide +kernel
theorem dX4_kindOf_55 : decode cX4_kindOf 55 = .ok (.ireturn, 1) := by decide +kernel
theorem dX4_kindOf_56 : decode cX4_kindOf 56 = .ok (.iconst 3, 1) := by decide +kernel
theorem dX4_kindOf_57 : decode cX4_kindOf 57 = .ok (.ireturn, 1) := by decide +kernel
theorem dX4_kindOf_58 : decode cX4_kindOf 58 = .ok (.iconst 4, 1) := by decide +kernel
theorem dX4_kindOf_59 : decode cX4_kindOf 59 = .ok (.ireturn, 1) := by decide +kernel
theorem dX4_kindOf_60 : decode cX4_kindOf 60 = .ok (.iconst 5, 1) := by decide +kernel
theorem dX4_kindOf_61 : decode cX4_kindOf 61 = .ok (.ireturn, 1) := by decide +kernel
theorem dX4_kindOf_62 : decode cX4_kindOf 62 = .ok (.iconst 0, 1) := by decide +kernel
theorem dX4_kindOf_63 : decode cX4_kindOf 63 = .ok (.ireturn, 1) := by decide +kernel
def w_X4_refuse : List Cond := .code yX4_refuse cX4_refuse 2 (some .boolean) :: ([.fieldLink RX4 19 "LineCites$Reader" "faultNumber" "I"] ++ wsX40)
set_option maxHeartbeats 4000000 in
set_option maxRecDepth 100000 in
theorem c_X4_refuse (l : Launch) (D : va_G) (h0 : Nat) (i_n : Int32) (a_tape : Nat) (a_d : Nat) (i_at : Int32) (i_tk : Int32) (i_pl : Int32) (i_vl : Int32) (i_fn : Int32) (sz : Nat) : Met l yX4_refuse w_X4_refuse ({ frames := 0, cells := 0, slots := 0, locals := 0 }) (va_Pc [.ref h0, .int i_n] (fun U => U.heap.size = sz ∧ va_P D vwCl [(h0, .inr (4, [.ref a_tape, .ref a_d, .int i_at, .int i_tk, .int i_pl, .int i_vl, .int i_fn]))] U.heap ∧ va_K D vwCl [] U ∧ va_D (fun _ => True) [(h0, .inr (4, [.ref a_tape, .ref a_d, .int i_at, .int i_tk, .int i_pl, .int i_vl, .int i_fn]))])) (va_Qi (fun (r : Int32) (_ : Unit) => r = 0) (fun (_ : Unit) t => va_P D vwCl [(h0, .inr (4, [.ref a_tape, .ref a_d, .int i_at, .int i_tk, .int i_pl, .int i_vl, .int i_n]))] t.heap ∧ va_K D vwCl [] t ∧ va_D (va_A [(h0, .inr (4, [.ref a_tape, .ref a_d, .int i_at, .int i_tk, .int i_pl, .int i_vl, .int i_fn]))] sz) [(h0, .inr (4, [.ref a_tape, .ref a_d, .int i_at, .int i_tk, .int i_pl, .int i_vl, .int i_n]))]) (va_A [(h0, .inr (4, [.ref a_tape, .ref a_d, .int i_at, .int i_tk, .int i_pl, .int i_vl, .int i_fn]))] sz)) 0 0 (va_A [(h0, .inr (4, [.ref a_tape, .ref a_d, .int i_at, .int i_tk, .int i_pl, .int i_vl, .int i_fn]))] sz) := by
  refine Met.ofW (cc := cX4_refuse) (maxL := 2) (ret := (some .boolean)) (by decide) rfl ?_
  intro p e s m args below meth c s₁ B hml hv
  obtain ⟨rfl, hsz, hP, hK, hD0⟩ := hv
  have hx := B.exec
  have hb := B.bytes
  have hr := B.returns
  have hts := atoms_spec (ws := w_X4_refuse) B.pre
  have hown : s.vm.findClass RX4 = some m.cls := findClass_of_methodNamed B.named
  have hlocks := B.notSynchronized
  subst hsz
  have hD := hD0.self (sz := s.heap.size)
  generalize hAe : va_A [(h0, .inr (4, [.ref a_tape, .ref a_d, .int i_at, .int i_tk, .int i_pl, .int i_vl, .int i_fn]))] s.heap.size = A at hD ⊢
  have hA : ∀ q : Nat, s.heap.size ≤ q → A q := fun q h => by rw [← hAe]; exact Or.inr h
  have hS : va_S A s.heap s.heap [] := va_S.rf
  have hP : va_P D vwCl [(h0, .inr (4, [.ref a_tape, .ref a_d, .int i_at, .int i_tk, .int i_pl, .int i_vl, .int i_fn]))] s.heap := hP
  have hl := lv_entry ([.ref h0, .int i_n]) (n := 2) (Nat.le_of_ble_eq_true rfl)
  rw [lg_entry_eq]
  generalize (lg_sl ([.ref h0, .int i_n]) ++ List.replicate (2 - (lg_sl ([.ref h0, .int i_n])).length) Slot.unset).toArray = ls at hl ⊢
  have hl : lv_has ls 2 [(0, .ref h0), (1, .int i_n)] := hl
  obtain ⟨H, hHe⟩ : ∃ H : Heap, H = s.heap := ⟨_, rfl⟩
  rw [← hHe] at hP
  have hS : va_S A s.heap H [] := by rw [hHe]; exact hS
  refine pw_heap hHe ?_
  refine lv_aload_n hx hb dX4_refuse_0 rfl (lv_at hl 0 rfl) ?_
  refine lv_iload_n hx hb dX4_refuse_1 rfl (lv_at hl 1 rfl) ?_
  refine va_put (D := D) (ci := 4) (v := .int i_n) (ty := .int) (C := RX4) (T := TX4) (N := 7) hx hb hts (fun _ h => List.mem_cons_of_mem _ (List.mem_append_right _ h)) tyX4 tyX4_ok nmX4 hown hK hP hD hS 0 rfl rfl 6 (by decide) (hts (.fieldLink RX4 19 "LineCites$Reader" "faultNumber" "I") (List.mem_of_getElem? (i := 1) rfl)) (fun _ h9 => h9) rfl (by decide +kernel) rfl rfl (Nat.le_of_ble_eq_true rfl) dX4_refuse_2 (fun H locs hP hD hS => ?_)
  have hP : va_P D vwCl [(h0, .inr (4, [.ref a_tape, .ref a_d, .int i_at, .int i_tk, .int i_pl, .int i_vl, .int i_n]))] H := hP
  have hD : va_D A [(h0, .inr (4, [.ref a_tape, .ref a_d, .int i_at, .int i_tk, .int i_pl, .int i_vl, .int i_n]))] := hD
  have hK : va_K D vwCl [] s := hK
  refine lv_iconst (v := 0) hx hb dX4_refuse_5 (by decide) ?_
  have hP9 := hP.sub (ws' := [(h0, .inr (4, [.ref a_tape, .ref a_d, .int i_at, .int i_tk, .int i_pl, .int i_vl, .int i_n]))]) [0] rfl
  have hD9 := hD.sub (ws' := [(h0, .inr (4, [.ref a_tape, .ref a_d, .int i_at, .int i_tk, .int i_pl, .int i_vl, .int i_n]))]) [0] (by decide) rfl
  have hK9 := hK.sub (tys' := []) [] rfl
  refine W.widen (k := 0) (n := 0) (Nat.le_of_ble_eq_true rfl) (Nat.le_of_ble_eq_true rfl) ?_
  exact W.zret (v := 0) (ty := .boolean) hx hb hr rfl (fun t ht hW => ⟨⟨0, (), rfl, rfl, by rw [ht]; exact hP9, va_K.moved hW.alike hK9, hD9⟩, hS.F ht⟩) hS.2.2 dX4_refuse_6
def w_X4_faultNumber : List Cond := .code yX4_faultNumber cX4_faultNumber 1 (some .int) :: ([.fieldLink RX4 19 "LineCites$Reader" "faultNumber" "I"] ++ wsX40)
set_option maxHeartbeats 4000000 in
set_option maxRecDepth 100000 in
theorem c_X4_faultNumber (l : Launch) (D : va_G) (h0 : Nat) (a_tape : Nat) (a_d : Nat) (i_at : Int32) (i_tk : Int32) (i_pl : Int32) (i_vl : Int32) (i_fn : Int32) : Met l yX4_faultNumber w_X4_faultNumber ({ frames := 0, cells := 0, slots := 0, locals := 0 }) (va_Pc [.ref h0] (fun U => va_P D vwCl [(h0, .inr (4, [.ref a_tape, .ref a_d, .int i_at, .int i_tk, .int i_pl, .int i_vl, .int i_fn]))] U.heap ∧ va_K D vwCl [] U)) (va_Qi (fun (r : Int32) (_ : Unit) => r = i_fn) (fun _ _ => True) (fun _ => False)) 0 0 (fun _ => False) := by
  refine Met.ofW (cc := cX4_faultNumber) (maxL := 1) (ret := (some .int)) (by decide) rfl ?_
  intro p e s m args below meth c s₁ B hml hv
  obtain ⟨rfl, hP, hK⟩ := hv
  have hx := B.exec
  have hb := B.bytes
  have hr := B.returns
  have hts := atoms_spec (ws := w_X4_faultNumber) B.pre
  have hown : s.vm.findClass RX4 = some m.cls := findClass_of_methodNamed B.named
  have hlocks := B.notSynchronized
  have hS : va_S (fun _ : Nat => False) s.heap s.heap [] := va_S.rf
  have hP : va_P D vwCl [(h0, .inr (4, [.ref a_tape, .ref a_d, .int i_at, .int i_tk, .int i_pl, .int i_vl, .int i_fn]))] s.heap := hP
  have hl := lv_entry ([.ref h0]) (n := 1) (Nat.le_of_ble_eq_true rfl)
  rw [lg_entry_eq]
  generalize (lg_sl ([.ref h0]) ++ List.replicate (1 - (lg_sl ([.ref h0])).length) Slot.unset).toArray = ls at hl ⊢
  have hl : lv_has ls 1 [(0, .ref h0)] := hl
  obtain ⟨H, hHe⟩ : ∃ H : Heap, H = s.heap := ⟨_, rfl⟩
  rw [← hHe] at hP
  have hS : va_S (fun _ : Nat => False) s.heap H [] := by rw [hHe]; exact hS
  refine pw_heap hHe ?_
  refine lv_aload_n hx hb dX4_faultNumber_0 rfl (lv_at hl 0 rfl) ?_
  refine va_get (D := D) (ci := 4) (v := .int i_fn) (C := RX4) (T := TX4) (N := 7) hx hb hts (fun _ h => List.mem_cons_of_mem _ (List.mem_append_right _ h)) hown hK hP 0 rfl rfl 6 (by decide) (hts (.fieldLink RX4 19 "LineCites$Reader" "faultNumber" "I") (List.mem_of_getElem? (i := 1) rfl)) (fun _ h9 => h9) rfl dX4_faultNumber_1 ?_
  exact W.iret (v := i_fn) hx hb hr (fun t ht hW => ⟨⟨i_fn, (), rfl, rfl, trivial⟩, hS.F ht⟩) hS.2.2 dX4_faultNumber_4
def w_X4_faultPlace : List Cond := .code yX4_faultPlace cX4_faultPlace 1 (some .int) :: ([.fieldLink RX4 23 "LineCites$Reader" "place" "I"] ++ wsX40)
set_option maxHeartbeats 4000000 in
set_option maxRecDepth 100000 in
theorem c_X4_faultPlace (l : Launch) (D : va_G) (h0 : Nat) (a_tape : Nat) (a_d : Nat) (i_at : Int32) (i_tk : Int32) (i_pl : Int32) (i_vl : Int32) (i_fn : Int32) : Met l yX4_faultPlace w_X4_faultPlace ({ frames := 0, cells := 0, slots := 0, locals := 0 }) (va_Pc [.ref h0] (fun U => va_P D vwCl [(h0, .inr (4, [.ref a_tape, .ref a_d, .int i_at, .int i_tk, .int i_pl, .int i_vl, .int i_fn]))] U.heap ∧ va_K D vwCl [] U)) (va_Qi (fun (r : Int32) (_ : Unit) => r = i_pl) (fun _ _ => True) (fun _ => False)) 0 0 (fun _ => False) := by
  refine Met.ofW (cc := cX4_faultPlace) (maxL := 1) (ret := (some .int)) (by decide) rfl ?_
  intro p e s m args below meth c s₁ B hml hv
  obtain ⟨rfl, hP, hK⟩ := hv
  have hx := B.exec
  have hb := B.bytes
  have hr := B.returns
  have hts := atoms_spec (ws := w_X4_faultPlace) B.pre
  have hown : s.vm.findClass RX4 = some m.cls := findClass_of_methodNamed B.named
  have hlocks := B.notSynchronized
  have hS : va_S (fun _ : Nat => False) s.heap s.heap [] := va_S.rf
  have hP : va_P D vwCl [(h0, .inr (4, [.ref a_tape, .ref a_d, .int i_at, .int i_tk, .int i_pl, .int i_vl, .int i_fn]))] s.heap := hP
  have hl := lv_entry ([.ref h0]) (n := 1) (Nat.le_of_ble_eq_true rfl)
  rw [lg_entry_eq]
  generalize (lg_sl ([.ref h0]) ++ List.replicate (1 - (lg_sl ([.ref h0])).length) Slot.unset).toArray = ls at hl ⊢
  have hl : lv_has ls 1 [(0, .ref h0)] := hl
  obtain ⟨H, hHe⟩ : ∃ H : Heap, H = s.heap := ⟨_, rfl⟩
  rw [← hHe] at hP
  have hS : va_S (fun _ : Nat => False) s.heap H [] := by rw [hHe]; exact hS
  refine pw_heap hHe ?_
  refine lv_aload_n hx hb dX4_faultPlace_0 rfl (lv_at hl 0 rfl) ?_
  refine va_get (D := D) (ci := 4) (v := .int i_pl) (C := RX4) (T := TX4) (N := 7) hx hb hts (fun _ h => List.mem_cons_of_mem _ (List.mem_append_right _ h)) hown hK hP 0 rfl rfl 4 (by decide) (hts (.fieldLink RX4 23 "LineCites$Reader" "place" "I") (List.mem_of_getElem? (i := 1) rfl)) (fun _ h9 => h9) rfl dX4_faultPlace_1 ?_
  exact W.iret (v := i_pl) hx hb hr (fun t ht hW => ⟨⟨i_pl, (), rfl, rfl, trivial⟩, hS.F ht⟩) hS.2.2 dX4_faultPlace_4
def w_X4_expect : List Cond := .code yX4_expect cX4_expect 2 (some .boolean) :: ([.methodLink RX4 45 yX4_step, .instanceMethod yX4_step, .selects RX4 yX4_step yX4_step, .initialized RX4, .code yX4_step cX4_step 2 none, .fieldLink RX4 26 "LineCites$Reader" "at" "I", .fieldLink RX4 23 "LineCites$Reader" "place" "I", .fieldLink RX4 9 "LineCites$Reader" "tape" "LLineCites$Tape;", .methodLink RX4 87 yX7_size, .instanceMethod yX7_size, .selects RX7 yX7_size yX7_size, .initialized RX7, .code yX7_size cX7_size 1 (some .int), .fieldLink RX7 15 "LineCites$Tape" "size" "I", .methodLink RX4 92 yX7_byteAt, .instanceMethod yX7_byteAt, .selects RX7 yX7_byteAt yX7_byteAt, .code yX7_byteAt cX7_byteAt 2 (some .int), .fieldLink RX7 9 "LineCites$Tape" "bytes" "[B", .methodLink RX4 95 yX4_isFigure, .static yX4_isFigure, .code yX4_isFigure cX4_isFigure 1 (some .boolean), .fieldLink RX4 48 "LineCites$Reader" "token" "I", .methodLink RX4 98 yX4_stepOverFigures, .instanceMethod yX4_stepOverFigures, .selects RX4 yX4_stepOverFigures yX4_stepOverFigures, .code yX4_stepOverFigures cX4_stepOverFigures 1 none, .fieldLink RX4 33 "LineCites$Reader" "value" "I", .methodLink RX4 36 yX4_refuse, .instanceMethod yX4_refuse, .selects RX4 yX4_refuse yX4_refuse, .code yX4_refuse cX4_refuse 2 (some .boolean), .fieldLink RX4 19 "LineCites$Reader" "faultNumber" "I"] ++ wsX40 ++ wsX70)
set_option maxRecDepth 20000 in
theorem g_X4_expect_X4_step : GoodIn w_X4_expect (wsV RX4 45 RX4 yX4_step w_X4_step) := goodIn_r _ [1, 2, 3, 4, 5, 6, 7, 8, 9, 10, 11, 12, 13, 14, 15, 16, 17, 18, 19, 20, 21, 4, 22, 23, 24, 25, 26, 27, 28, 34, 35, 36, 37, 38, 39, 40, 41, 42, 43] rfl (by decide +kernel)
set_option maxRecDepth 20000 in
theorem g_X4_expect_X4_refuse : GoodIn w_X4_expect (wsV RX4 36 RX4 yX4_refuse w_X4_refuse) := goodIn_r _ [29, 30, 31, 4, 32, 33, 34, 35, 36, 37, 38, 39, 40] rfl (by decide +kernel)
set_option maxHeartbeats 4000000 in
set_option maxRecDepth 100000 in
theorem c_X4_expect (l : Launch) (D : va_G) (h0 : Nat) (i_w : Int32) (a_tape : Nat) (a_d : Nat) (i_at : Int32) (i_tk : Int32) (i_pl : Int32) (i_vl : Int32) (i_fn : Int32) (y_by : Nat) (i_sz : Int32) (i_lf : Int32) (kB : ClassId) (g_by : Nat → Int32) (a : Nat) (sz : Nat) (h0i_sz : 0 ≤ i_sz.toInt) (h1i_sz : i_sz.toInt ≤ 200) (hna : i_at.toInt = ((a : Nat) : Int)) (hle : i_at.toInt ≤ i_sz.toInt) : Met l yX4_expect w_X4_expect ({ frames := 3, cells := 0, slots := 0, locals := 62 }) (va_Pc [.ref h0, .int i_w] (fun U => U.heap.size = sz ∧ va_P D vwCl [(h0, .inr (4, [.ref a_tape, .ref a_d, .int i_at, .int i_tk, .int i_pl, .int i_vl, .int i_fn])), (a_tape, .inr (7, [.ref y_by, .int i_sz, .int i_lf])), (y_by, .inl (kB, 200, .inl g_by))] U.heap ∧ va_K D vwCl [(kB, .byte)] U ∧ va_D (fun _ => True) [(h0, .inr (4, [.ref a_tape, .ref a_d, .int i_at, .int i_tk, .int i_pl, .int i_vl, .int i_fn])), (a_tape, .inr (7, [.ref y_by, .int i_sz, .int i_lf])), (y_by, .inl (kB, 200, .inl g_by))])) (va_Qi (fun (r : Int32) (_ : Unit) => (r = 0 ∨ r = 1) ∧ ((r.toInt = 1 ∧ tTok (tC g_by) i_sz.toInt.toNat a = i_w.toInt) ∨ (r.toInt = 0 ∧ tTok (tC g_by) i_sz.toInt.toNat a ≠ i_w.toInt))) (fun (_ : Unit) t => ∃ (n_at : Int32) (n_tk : Int32) (n_vl : Int32) (n_fn : Int32), va_P D vwCl [(h0, .inr (4, [.ref a_tape, .ref a_d, .int n_at, .int n_tk, .int i_at, .int n_vl, .int n_fn])), (a_tape, .inr (7, [.ref y_by, .int i_sz, .int i_lf])), (y_by, .inl (kB, 200, .inl g_by))] t.heap ∧ va_K D vwCl [(kB, .byte)] t ∧ va_D (va_A [(h0, .inr (4, [.ref a_tape, .ref a_d, .int i_at, .int i_tk, .int i_pl, .int i_vl, .int i_fn])), (a_tape, .inr (7, [.ref y_by, .int i_sz, .int i_lf])), (y_by, .inl (kB, 200, .inl g_by))] sz) [(h0, .inr (4, [.ref a_tape, .ref a_d, .int n_at, .int n_tk, .int i_at, .int n_vl, .int n_fn])), (a_tape, .inr (7, [.ref y_by, .int i_sz, .int i_lf])), (y_by, .inl (kB, 200, .inl g_by))] ∧ n_at.toInt = ((tNx (tC g_by) i_sz.toInt.toNat a : Nat) : Int) ∧ n_tk.toInt = tTok (tC g_by) i_sz.toInt.toNat a ∧ (n_tk.toInt = -2 → (n_vl.toInt = tNum (tC g_by) i_sz.toInt.toNat a ∧ 0 ≤ n_vl.toInt ∧ n_vl.toInt ≤ 999)) ∧ (0 ≤ n_at.toInt ∧ n_at.toInt ≤ i_sz.toInt ∧ i_at.toInt ≤ n_at.toInt ∧ (n_tk.toInt = -1 ∨ i_at.toInt < n_at.toInt))) (va_A [(h0, .inr (4, [.ref a_tape, .ref a_d, .int i_at, .int i_tk, .int i_pl, .int i_vl, .int i_fn])), (a_tape, .inr (7, [.ref y_by, .int i_sz, .int i_lf])), (y_by, .inl (kB, 200, .inl g_by))] sz)) 0 0 (va_A [(h0, .inr (4, [.ref a_tape, .ref a_d, .int i_at, .int i_tk, .int i_pl, .int i_vl, .int i_fn])), (a_tape, .inr (7, [.ref y_by, .int i_sz, .int i_lf])), (y_by, .inl (kB, 200, .inl g_by))] sz) := by
  refine Met.ofW (cc := cX4_expect) (maxL := 2) (ret := (some .boolean)) (by decide) rfl ?_
  intro p e s m args below meth c s₁ B hml hv
  obtain ⟨rfl, hsz, hP, hK, hD0⟩ := hv
  have hx := B.exec
  have hb := B.bytes
  have hr := B.returns
  have hts := atoms_spec (ws := w_X4_expect) B.pre
  have hown : s.vm.findClass RX4 = some m.cls := findClass_of_methodNamed B.named
  have hlocks := B.notSynchronized
  subst hsz
  have hD := hD0.self (sz := s.heap.size)
  generalize hAe : va_A [(h0, .inr (4, [.ref a_tape, .ref a_d, .int i_at, .int i_tk, .int i_pl, .int i_vl, .int i_fn])), (a_tape, .inr (7, [.ref y_by, .int i_sz, .int i_lf])), (y_by, .inl (kB, 200, .inl g_by))] s.heap.size = A at hD ⊢
  have hA : ∀ q : Nat, s.heap.size ≤ q → A q := fun q h => by rw [← hAe]; exact Or.inr h
  have hS : va_S A s.heap s.heap [] := va_S.rf
  have hP : va_P D vwCl [(h0, .inr (4, [.ref a_tape, .ref a_d, .int i_at, .int i_tk, .int i_pl, .int i_vl, .int i_fn])), (a_tape, .inr (7, [.ref y_by, .int i_sz, .int i_lf])), (y_by, .inl (kB, 200, .inl g_by))] s.heap := hP
  have hl := lv_entry ([.ref h0, .int i_w]) (n := 2) (Nat.le_of_ble_eq_true rfl)
  rw [lg_entry_eq]
  generalize (lg_sl ([.ref h0, .int i_w]) ++ List.replicate (2 - (lg_sl ([.ref h0, .int i_w])).length) Slot.unset).toArray = ls at hl ⊢
  have hl : lv_has ls 2 [(0, .ref h0), (1, .int i_w)] := hl
  obtain ⟨H, hHe⟩ : ∃ H : Heap, H = s.heap := ⟨_, rfl⟩
  rw [← hHe] at hP
  have hS : va_S A s.heap H [] := by rw [hHe]; exact hS
  refine pw_heap hHe ?_
  refine lv_aload_n hx hb dX4_expect_0 rfl (lv_at hl 0 rfl) ?_
  have hPc := hP.sub (ws' := [(h0, .inr (4, [.ref a_tape, .ref a_d, .int i_at, .int i_tk, .int i_pl, .int i_vl, .int i_fn])), (a_tape, .inr (7, [.ref y_by, .int i_sz, .int i_lf])), (y_by, .inl (kB, 200, .inl g_by))]) [0, 1, 2] rfl
  have hKc := hK.sub (tys' := [(kB, .byte)]) [0] rfl
  have hDc := hD.sub (ws' := [(h0, .inr (4, [.ref a_tape, .ref a_d, .int i_at, .int i_tk, .int i_pl, .int i_vl, .int i_fn])), (a_tape, .inr (7, [.ref y_by, .int i_sz, .int i_lf])), (y_by, .inl (kB, 200, .inl g_by))]) [0, 1, 2] (by decide) rfl
  have hFc := va_free (wc := [(h0, .inr (4, [.ref a_tape, .ref a_d, .int i_at, .int i_tk, .int i_pl, .int i_vl, .int i_fn])), (a_tape, .inr (7, [.ref y_by, .int i_sz, .int i_lf])), (y_by, .inl (kB, 200, .inl g_by))]) hD hS hA [0, 1, 2] rfl
  refine va_callv (va_runV (As := []) (rest := []) ⟨hx, hb, hml, hown, hts⟩ (c_X4_step l D h0 a_tape a_d i_at i_tk i_pl i_vl i_fn y_by i_sz i_lf kB g_by a H.size (by first | decide | omega) (by first | decide | omega) (by first | omega | decide | (have hz0 : (0 : Int32).toInt = 0 := (by decide); omega)) (by first | omega | decide | (have hz0 : (0 : Int32).toInt = 0 := (by decide); omega))) (cwV 0 hts g_X4_expect_X4_step rfl rfl rfl (by decide +kernel) ⟨Nat.le_of_ble_eq_true rfl, Nat.le_of_ble_eq_true rfl⟩) ⟨fun a U g mk q => by obtain ⟨q0, q1, qP, qK, qD⟩ := q; exact ⟨q0, q1, qP, va_K.moved (u := U) (U := U.calling g mk a) (Vm.Alike.refl U.vm) qK, qD⟩, va_recv hKc hPc (ci := 4) (q0 := 0) rfl rfl, fun U hU hW => ⟨rfl, by rw [hU], by rw [hU]; exact hPc, va_K.moved hW.alike hKc, hDc.weaken (fun _ _ _ _ => trivial)⟩⟩ rfl rfl hl.1 rfl (lv_room (Nat.le_of_ble_eq_true rfl)) dX4_expect_1 ⟨Nat.le_of_ble_eq_true rfl, Nat.le_of_ble_eq_true rfl⟩) hS (fun q _ h => hFc q h) hFc (fun u t H1 locs ht hvm hw hB hz1 hk1 hS => ?_)
  obtain ⟨y2, y3, y4, hP1, hK1, hD1, px0_r1, px1_r1, px2_r1, px3_r1⟩ := hB
  rw [ht] at hP1
  have hK1 := va_K.moved hvm.symm hK1
  obtain ⟨hP, hD⟩ := va_join (wr := []) (w1 := [(h0, .inr (4, [.ref a_tape, .ref a_d, .int y2, .int y3, .int i_at, .int y4, .int i_fn])), (a_tape, .inr (7, [.ref y_by, .int i_sz, .int i_lf])), (y_by, .inl (kB, 200, .inl g_by))]) hP hD [0, 1, 2] [] rfl rfl (by decide) (by decide) hk1 hFc hP1 hD1
  have hK := (hK.sub (tys' := [(kB, .byte)]) [0] rfl).app hK1
  generalize H1 = H at hP hS ⊢
  have hP : va_P D vwCl [(h0, .inr (4, [.ref a_tape, .ref a_d, .int y2, .int y3, .int i_at, .int y4, .int i_fn])), (a_tape, .inr (7, [.ref y_by, .int i_sz, .int i_lf])), (y_by, .inl (kB, 200, .inl g_by))] H := hP
  have hD : va_D A [(h0, .inr (4, [.ref a_tape, .ref a_d, .int y2, .int y3, .int i_at, .int y4, .int i_fn])), (a_tape, .inr (7, [.ref y_by, .int i_sz, .int i_lf])), (y_by, .inl (kB, 200, .inl g_by))] := hD
  have hK : va_K D vwCl [(kB, .byte), (kB, .byte)] s := hK
  refine W.widen (k := 0) (n := 0) (Nat.le_of_ble_eq_true rfl) (Nat.le_of_ble_eq_true rfl) ?_
  refine lv_aload_n hx hb dX4_expect_4 rfl (lv_at hl 0 rfl) ?_
  refine va_get (D := D) (ci := 4) (v := .int y3) (C := RX4) (T := TX4) (N := 7) hx hb hts (fun _ h => List.mem_cons_of_mem _ (List.mem_append_left _ (List.mem_append_right _ h))) hown hK hP 0 rfl rfl 3 (by decide) (hts (.fieldLink RX4 48 "LineCites$Reader" "token" "I") (List.mem_of_getElem? (i := 23) rfl)) (fun _ h9 => h9) rfl dX4_expect_5 ?_
  refine lv_iload_n hx hb dX4_expect_8 rfl (lv_at hl 1 rfl) ?_
  refine lv_icmp_eq (tgt := 20) hx hb dX4_expect_9 (by decide) (fun c5 => ?_) (fun c5 => ?_)
  · have nc5 : y3.toInt = i_w.toInt := pw_eq c5 rfl rfl
    have mc5y3 := pw_max y3
    have mc5i_w := pw_max i_w
    refine lv_iconst (v := 1) hx hb dX4_expect_20 (by decide) ?_
    refine lv_goto (tgt := 25) hx hb dX4_expect_21 (by decide) ?_
    have hP9 := hP.sub (ws' := [(h0, .inr (4, [.ref a_tape, .ref a_d, .int y2, .int y3, .int i_at, .int y4, .int i_fn])), (a_tape, .inr (7, [.ref y_by, .int i_sz, .int i_lf])), (y_by, .inl (kB, 200, .inl g_by))]) [0, 1, 2] rfl
    have hD9 := hD.sub (ws' := [(h0, .inr (4, [.ref a_tape, .ref a_d, .int y2, .int y3, .int i_at, .int y4, .int i_fn])), (a_tape, .inr (7, [.ref y_by, .int i_sz, .int i_lf])), (y_by, .inl (kB, 200, .inl g_by))]) [0, 1, 2] (by decide) rfl
    have hK9 := hK.sub (tys' := [(kB, .byte)]) [0] rfl
    refine W.widen (k := 0) (n := 0) (Nat.le_of_ble_eq_true rfl) (Nat.le_of_ble_eq_true rfl) ?_
    exact W.zret (v := 1) (ty := .boolean) hx hb hr rfl (fun t ht hW => ⟨⟨1, (), rfl, ⟨Or.inr rfl, (by have hv : (1 : Int32).toInt = 1 := (by decide); omega)⟩, y2, y3, y4, i_fn, by rw [ht]; exact hP9, va_K.moved hW.alike hK9, hD9, (by omega), (by omega), (by omega), (by omega)⟩, hS.F ht⟩) hS.2.2 dX4_expect_25
  · have nc5 : y3.toInt ≠ i_w.toInt := pw_ne c5 rfl rfl
    have mc5y3 := pw_max y3
    have mc5i_w := pw_max i_w
    refine lv_aload_n hx hb dX4_expect_12 rfl (lv_at hl 0 rfl) ?_
    refine lv_iconst (v := 1) hx hb dX4_expect_13 (by decide) ?_
    have hPc := hP.sub (ws' := [(h0, .inr (4, [.ref a_tape, .ref a_d, .int y2, .int y3, .int i_at, .int y4, .int i_fn]))]) [0] rfl
    have hKc := hK.sub (tys' := []) [] rfl
    have hDc := hD.sub (ws' := [(h0, .inr (4, [.ref a_tape, .ref a_d, .int y2, .int y3, .int i_at, .int y4, .int i_fn]))]) [0] (by decide) rfl
    have hFc := va_free (wc := [(h0, .inr (4, [.ref a_tape, .ref a_d, .int y2, .int y3, .int i_at, .int y4, .int i_fn]))]) hD hS hA [0] rfl
    refine va_calli (va_runV (As := [.int 1]) (rest := []) ⟨hx, hb, hml, hown, hts⟩ (c_X4_refuse l D h0 1 a_tape a_d y2 y3 i_at y4 i_fn H.size) (cwV 1 hts g_X4_expect_X4_refuse rfl rfl rfl (by decide +kernel) ⟨Nat.le_of_ble_eq_true rfl, Nat.le_of_ble_eq_true rfl⟩) ⟨fun a U g mk q => by obtain ⟨q0, q1, qP, qK, qD⟩ := q; exact ⟨q0, q1, qP, va_K.moved (u := U) (U := U.calling g mk a) (Vm.Alike.refl U.vm) qK, qD⟩, va_recv hKc hPc (ci := 4) (q0 := 0) rfl rfl, fun U hU hW => ⟨rfl, by rw [hU], by rw [hU]; exact hPc, va_K.moved hW.alike hKc, hDc.weaken (fun _ _ _ _ => trivial)⟩⟩ rfl rfl hl.1 rfl (lv_room (Nat.le_of_ble_eq_true rfl)) dX4_expect_14 ⟨Nat.le_of_ble_eq_true rfl, Nat.le_of_ble_eq_true rfl⟩) hS (fun q _ h => hFc q h) hFc (fun r6 u t H1 locs ht hvm hw hB hz1 hk1 hS => ?_)
    obtain ⟨hP1, hK1, hD1⟩ := hB
    rw [ht] at hP1
    have hK1 := va_K.moved hvm.symm hK1
    obtain ⟨hP, hD⟩ := va_join (wr := [(a_tape, .inr (7, [.ref y_by, .int i_sz, .int i_lf])), (y_by, .inl (kB, 200, .inl g_by))]) (w1 := [(h0, .inr (4, [.ref a_tape, .ref a_d, .int y2, .int y3, .int i_at, .int y4, .int 1]))]) hP hD [0] [1, 2] rfl rfl (by decide) (by decide) hk1 hFc hP1 hD1
    have hK := (hK.sub (tys' := [(kB, .byte), (kB, .byte)]) [0, 1] rfl).app hK1
    generalize H1 = H at hP hS ⊢
    have hP : va_P D vwCl [(a_tape, .inr (7, [.ref y_by, .int i_sz, .int i_lf])), (y_by, .inl (kB, 200, .inl g_by)), (h0, .inr (4, [.ref a_tape, .ref a_d, .int y2, .int y3, .int i_at, .int y4, .int 1]))] H := hP
    have hD : va_D A [(a_tape, .inr (7, [.ref y_by, .int i_sz, .int i_lf])), (y_by, .inl (kB, 200, .inl g_by)), (h0, .inr (4, [.ref a_tape, .ref a_d, .int y2, .int y3, .int i_at, .int y4, .int 1]))] := hD
    have hK : va_K D vwCl [(kB, .byte), (kB, .byte)] s := hK
    refine W.widen (k := 0) (n := 0) (Nat.le_of_ble_eq_true rfl) (Nat.le_of_ble_eq_true rfl) ?_
    obtain rfl : r6 = 0 := hw
    refine lv_if_eq (tgt := 24) hx hb dX4_expect_17 (by decide) (fun c7 => ?_) (fun c7 => absurd (by decide) c7)
    refine lv_iconst (v := 0) hx hb dX4_expect_24 (by decide) ?_
    have hP9 := hP.sub (ws' := [(h0, .inr (4, [.ref a_tape, .ref a_d, .int y2, .int y3, .int i_at, .int y4, .int 1])), (a_tape, .inr (7, [.ref y_by, .int i_sz, .int i_lf])), (y_by, .inl (kB, 200, .inl g_by))]) [2, 0, 1] rfl
    have hD9 := hD.sub (ws' := [(h0, .inr (4, [.ref a_tape, .ref a_d, .int y2, .int y3, .int i_at, .int y4, .int 1])), (a_tape, .inr (7, [.ref y_by, .int i_sz, .int i_lf])), (y_by, .inl (kB, 200, .inl g_by))]) [2, 0, 1] (by decide) rfl
    have hK9 := hK.sub (tys' := [(kB, .byte)]) [0] rfl
    refine W.widen (k := 0) (n := 0) (Nat.le_of_ble_eq_true rfl) (Nat.le_of_ble_eq_true rfl) ?_
    exact W.zret (v := 0) (ty := .boolean) hx hb hr rfl (fun t ht hW => ⟨⟨0, (), rfl, ⟨Or.inl rfl, (by have hv : (0 : Int32).toInt = 0 := (by decide); omega)⟩, y2, y3, y4, 1, by rw [ht]; exact hP9, va_K.moved hW.alike hK9, hD9, (by omega), (by omega), (by omega), (by omega)⟩, hS.F ht⟩) hS.2.2 dX4_expect_25
def w_X8_begin__f : List Cond := .code yX8_begin cX8_begin 2 none :: ([.fieldLink RX8 33 "LineCites$Work" "lines" "I", .fieldLink RX8 37 "LineCites$Work" "editions" "I"] ++ wsX80)
set_option maxHeartbeats 4000000 in
set_option maxRecDepth 100000 in
theorem c_X8_begin__f (l : Launch) (D : va_G) (h0 : Nat) (i_n : Int32) (b_sc : Nat) (b_sp : Nat) (b_cp : Nat) (b_sn : Nat) (b_sl : Nat) (i_li : Int32) (i_ed : Int32) (i_se : Int32) (sz : Nat) : Met l yX8_begin w_X8_begin__f ({ frames := 0, cells := 0, slots := 0, locals := 0 }) (va_Pc [.ref h0, .int i_n] (fun U => U.heap.size = sz ∧ va_P D vwCl [(h0, .inr (8, [.ref b_sc, .ref b_sp, .ref b_cp, .ref b_sn, .ref b_sl, .int i_li, .int i_ed, .int i_se]))] U.heap ∧ va_K D vwCl [] U ∧ va_D (fun _ => True) [(h0, .inr (8, [.ref b_sc, .ref b_sp, .ref b_cp, .ref b_sn, .ref b_sl, .int i_li, .int i_ed, .int i_se]))])) (va_Qv (fun (_ : Unit) => True) (fun (_ : Unit) t => va_P D vwCl [(h0, .inr (8, [.ref b_sc, .ref b_sp, .ref b_cp, .ref b_sn, .ref b_sl, .int i_n, .int 0, .int i_se]))] t.heap ∧ va_K D vwCl [] t ∧ va_D (va_A [(h0, .inr (8, [.ref b_sc, .ref b_sp, .ref b_cp, .ref b_sn, .ref b_sl, .int i_li, .int i_ed, .int i_se]))] sz) [(h0, .inr (8, [.ref b_sc, .ref b_sp, .ref b_cp, .ref b_sn, .ref b_sl, .int i_n, .int 0, .int i_se]))]) (va_A [(h0, .inr (8, [.ref b_sc, .ref b_sp, .ref b_cp, .ref b_sn, .ref b_sl, .int i_li, .int i_ed, .int i_se]))] sz)) 0 0 (va_A [(h0, .inr (8, [.ref b_sc, .ref b_sp, .ref b_cp, .ref b_sn, .ref b_sl, .int i_li, .int i_ed, .int i_se]))] sz) := by
  refine Met.ofW (cc := cX8_begin) (maxL := 2) (ret := none) (by decide) rfl ?_
  intro p e s m args below meth c s₁ B hml hv
  obtain ⟨rfl, hsz, hP, hK, hD0⟩ := hv
  have hx := B.exec
  have hb := B.bytes
  have hr := B.returns
  have hts := atoms_spec (ws := w_X8_begin__f) B.pre
  have hown : s.vm.findClass RX8 = some m.cls := findClass_of_methodNamed B.named
  have hlocks := B.notSynchronized
  subst hsz
  have hD := hD0.self (sz := s.heap.size)
  generalize hAe : va_A [(h0, .inr (8, [.ref b_sc, .ref b_sp, .ref b_cp, .ref b_sn, .ref b_sl, .int i_li, .int i_ed, .int i_se]))] s.heap.size = A at hD ⊢
  have hA : ∀ q : Nat, s.heap.size ≤ q → A q := fun q h => by rw [← hAe]; exact Or.inr h
  have hS : va_S A s.heap s.heap [] := va_S.rf
  have hP : va_P D vwCl [(h0, .inr (8, [.ref b_sc, .ref b_sp, .ref b_cp, .ref b_sn, .ref b_sl, .int i_li, .int i_ed, .int i_se]))] s.heap := hP
  have hl := lv_entry ([.ref h0, .int i_n]) (n := 2) (Nat.le_of_ble_eq_true rfl)
  rw [lg_entry_eq]
  generalize (lg_sl ([.ref h0, .int i_n]) ++ List.replicate (2 - (lg_sl ([.ref h0, .int i_n])).length) Slot.unset).toArray = ls at hl ⊢
  have hl : lv_has ls 2 [(0, .ref h0), (1, .int i_n)] := hl
  obtain ⟨H, hHe⟩ : ∃ H : Heap, H = s.heap := ⟨_, rfl⟩
  rw [← hHe] at hP
  have hS : va_S A s.heap H [] := by rw [hHe]; exact hS
  refine pw_heap hHe ?_
  refine lv_aload_n hx hb dX8_begin_0 rfl (lv_at hl 0 rfl) ?_
  refine lv_iload_n hx hb dX8_begin_1 rfl (lv_at hl 1 rfl) ?_
  refine va_put (D := D) (ci := 8) (v := .int i_n) (ty := .int) (C := RX8) (T := TX8) (N := 8) hx hb hts (fun _ h => List.mem_cons_of_mem _ (List.mem_append_right _ h)) tyX8 tyX8_ok nmX8 hown hK hP hD hS 0 rfl rfl 5 (by decide) (hts (.fieldLink RX8 33 "LineCites$Work" "lines" "I") (List.mem_of_getElem? (i := 1) rfl)) (fun _ h9 => h9) rfl (by decide +kernel) rfl rfl (Nat.le_of_ble_eq_true rfl) dX8_begin_2 (fun H locs hP hD hS => ?_)
  have hP : va_P D vwCl [(h0, .inr (8, [.ref b_sc, .ref b_sp, .ref b_cp, .ref b_sn, .ref b_sl, .int i_n, .int i_ed, .int i_se]))] H := hP
  have hD : va_D A [(h0, .inr (8, [.ref b_sc, .ref b_sp, .ref b_cp, .ref b_sn, .ref b_sl, .int i_n, .int i_ed, .int i_se]))] := hD
  have hK : va_K D vwCl [] s := hK
  refine lv_aload_n hx hb dX8_begin_5 rfl (lv_at hl 0 rfl) ?_
  refine lv_iconst (v := 0) hx hb dX8_begin_6 (by decide) ?_
  refine va_put (D := D) (ci := 8) (v := .int 0) (ty := .int) (C := RX8) (T := TX8) (N := 8) hx hb hts (fun _ h => List.mem_cons_of_mem _ (List.mem_append_right _ h)) tyX8 tyX8_ok nmX8 hown hK hP hD hS 0 rfl rfl 6 (by decide) (hts (.fieldLink RX8 37 "LineCites$Work" "editions" "I") (List.mem_of_getElem? (i := 2) rfl)) (fun _ h9 => h9) rfl (by decide +kernel) rfl rfl (Nat.le_of_ble_eq_true rfl) dX8_begin_7 (fun H locs hP hD hS => ?_)
  have hP : va_P D vwCl [(h0, .inr (8, [.ref b_sc, .ref b_sp, .ref b_cp, .ref b_sn, .ref b_sl, .int i_n, .int 0, .int i_se]))] H := hP
  have hD : va_D A [(h0, .inr (8, [.ref b_sc, .ref b_sp, .ref b_cp, .ref b_sn, .ref b_sl, .int i_n, .int 0, .int i_se]))] := hD
  have hK : va_K D vwCl [] s := hK
  have hP9 := hP.sub (ws' := [(h0, .inr (8, [.ref b_sc, .ref b_sp, .ref b_cp, .ref b_sn, .ref b_sl, .int i_n, .int 0, .int i_se]))]) [0] rfl
  have hD9 := hD.sub (ws' := [(h0, .inr (8, [.ref b_sc, .ref b_sp, .ref b_cp, .ref b_sn, .ref b_sl, .int i_n, .int 0, .int i_se]))]) [0] (by decide) rfl
  have hK9 := hK.sub (tys' := []) [] rfl
  refine W.widen (k := 0) (n := 0) (Nat.le_of_ble_eq_true rfl) (Nat.le_of_ble_eq_true rfl) ?_
  exact W.vret hx hb hr (fun t ht hW => ⟨⟨(), rfl, trivial, by rw [ht]; exact hP9, va_K.moved hW.alike hK9, hD9⟩, hS.F ht⟩) hS.2.2 dX8_begin_10
def w_X4_readHead : List Cond := .code yX4_readHead cX4_readHead 1 (some .boolean) :: ([.fieldLink RX4 26 "LineCites$Reader" "at" "I", .methodLink RX4 29 yX4_expect, .instanceMethod yX4_expect, .selects RX4 yX4_expect yX4_expect, .initialized RX4, .code yX4_expect cX4_expect 2 (some .boolean), .methodLink RX4 45 yX4_step, .instanceMethod yX4_step, .selects RX4 yX4_step yX4_step, .code yX4_step cX4_step 2 none, .fieldLink RX4 23 "LineCites$Reader" "place" "I", .fieldLink RX4 9 "LineCites$Reader" "tape" "LLineCites$Tape;", .methodLink RX4 87 yX7_size, .instanceMethod yX7_size, .selects RX7 yX7_size yX7_size, .initialized RX7, .code yX7_size cX7_size 1 (some .int), .fieldLink RX7 15 "LineCites$Tape" "size" "I", .methodLink RX4 92 yX7_byteAt, .instanceMethod yX7_byteAt, .selects RX7 yX7_byteAt yX7_byteAt, .code yX7_byteAt cX7_byteAt 2 (some .int), .fieldLink RX7 9 "LineCites$Tape" "bytes" "[B", .methodLink RX4 95 yX4_isFigure, .static yX4_isFigure, .code yX4_isFigure cX4_isFigure 1 (some .boolean), .fieldLink RX4 48 "LineCites$Reader" "token" "I", .methodLink RX4 98 yX4_stepOverFigures, .instanceMethod yX4_stepOverFigures, .selects RX4 yX4_stepOverFigures yX4_stepOverFigures, .code yX4_stepOverFigures cX4_stepOverFigures 1 none, .fieldLink RX4 33 "LineCites$Reader" "value" "I", .methodLink RX4 36 yX4_refuse, .instanceMethod yX4_refuse, .selects RX4 yX4_refuse yX4_refuse, .code yX4_refuse cX4_refuse 2 (some .boolean), .fieldLink RX4 19 "LineCites$Reader" "faultNumber" "I", .fieldLink RX4 15 "LineCites$Reader" "draft" "LLineCites$Work;", .methodLink RX4 39 yX8_begin, .instanceMethod yX8_begin, .selects RX8 yX8_begin yX8_begin, .initialized RX8, .code yX8_begin cX8_begin 2 none, .fieldLink RX8 33 "LineCites$Work" "lines" "I", .fieldLink RX8 37 "LineCites$Work" "editions" "I"] ++ wsX40 ++ wsX70 ++ wsX80)
set_option maxRecDepth 20000 in
theorem g_X4_readHead_X4_expect : GoodIn w_X4_readHead (wsV RX4 29 RX4 yX4_expect w_X4_expect) := goodIn_r _ [2, 3, 4, 5, 6, 7, 8, 9, 5, 10, 1, 11, 12, 13, 14, 15, 16, 17, 18, 19, 20, 21, 22, 23, 24, 25, 26, 27, 28, 29, 30, 31, 32, 33, 34, 35, 36, 37, 46, 47, 48, 49, 50, 51, 52, 53, 54, 55] rfl (by decide +kernel)
set_option maxRecDepth 20000 in
theorem g_X4_readHead_X4_refuse : GoodIn w_X4_readHead (wsV RX4 36 RX4 yX4_refuse w_X4_refuse) := goodIn_r _ [33, 34, 35, 5, 36, 37, 46, 47, 48, 49, 50, 51, 52] rfl (by decide +kernel)
set_option maxRecDepth 20000 in
theorem g_X4_readHead_X8_begin__f : GoodIn w_X4_readHead (wsV RX4 39 RX8 yX8_begin w_X8_begin__f) := goodIn_r _ [39, 40, 41, 42, 43, 44, 45, 56, 57, 58, 59, 60, 61, 62, 63] rfl (by decide +kernel)
set_option maxHeartbeats 4000000 in
set_option maxRecDepth 100000 in
theorem c_X4_readHead (l : Launch) (D : va_G) (h0 : Nat) (a_tape : Nat) (a_d : Nat) (i_at : Int32) (i_tk : Int32) (i_pl : Int32) (i_vl : Int32) (i_fn : Int32) (y_by : Nat) (i_sz : Int32) (i_lf : Int32) (kB : ClassId) (g_by : Nat → Int32) (b_sc : Nat) (b_sp : Nat) (b_cp : Nat) (b_sn : Nat) (b_sl : Nat) (i_li : Int32) (i_ed : Int32) (i_se : Int32) (sz : Nat) (h0i_sz : 0 ≤ i_sz.toInt) (h1i_sz : i_sz.toInt ≤ 200) : Met l yX4_readHead w_X4_readHead ({ frames := 4, cells := 0, slots := 0, locals := 83 }) (va_Pc [.ref h0] (fun U => U.heap.size = sz ∧ va_P D vwCl [(h0, .inr (4, [.ref a_tape, .ref a_d, .int i_at, .int i_tk, .int i_pl, .int i_vl, .int i_fn])), (a_tape, .inr (7, [.ref y_by, .int i_sz, .int i_lf])), (y_by, .inl (kB, 200, .inl g_by)), (a_d, .inr (8, [.ref b_sc, .ref b_sp, .ref b_cp, .ref b_sn, .ref b_sl, .int i_li, .int i_ed, .int i_se]))] U.heap ∧ va_K D vwCl [(kB, .byte)] U ∧ va_D (fun _ => True) [(h0, .inr (4, [.ref a_tape, .ref a_d, .int i_at, .int i_tk, .int i_pl, .int i_vl, .int i_fn])), (a_tape, .inr (7, [.ref y_by, .int i_sz, .int i_lf])), (y_by, .inl (kB, 200, .inl g_by)), (a_d, .inr (8, [.ref b_sc, .ref b_sp, .ref b_cp, .ref b_sn, .ref b_sl, .int i_li, .int i_ed, .int i_se]))])) (va_Qi (fun (r : Int32) (_ : Unit) => (r = 0 ∨ r = 1) ∧ ((r.toInt = 1 ∧ tTok (tC g_by) i_sz.toInt.toNat 0 = 119 ∧ tTok (tC g_by) i_sz.toInt.toNat (tNx (tC g_by) i_sz.toInt.toNat 0) = -2 ∧ 1 ≤ tNum (tC g_by) i_sz.toInt.toNat (tNx (tC g_by) i_sz.toInt.toNat 0) ∧ tNum (tC g_by) i_sz.toInt.toNat (tNx (tC g_by) i_sz.toInt.toNat 0) ≤ 200 ∧ tTok (tC g_by) i_sz.toInt.toNat (tNx (tC g_by) i_sz.toInt.toNat (tNx (tC g_by) i_sz.toInt.toNat 0)) = 59) ∨ (r.toInt = 0 ∧ ¬ (tTok (tC g_by) i_sz.toInt.toNat 0 = 119 ∧ tTok (tC g_by) i_sz.toInt.toNat (tNx (tC g_by) i_sz.toInt.toNat 0) = -2 ∧ 1 ≤ tNum (tC g_by) i_sz.toInt.toNat (tNx (tC g_by) i_sz.toInt.toNat 0) ∧ tNum (tC g_by) i_sz.toInt.toNat (tNx (tC g_by) i_sz.toInt.toNat 0) ≤ 200 ∧ tTok (tC g_by) i_sz.toInt.toNat (tNx (tC g_by) i_sz.toInt.toNat (tNx (tC g_by) i_sz.toInt.toNat 0)) = 59)))) (fun (_ : Unit) t => ∃ (n_at : Int32) (n_tk : Int32) (n_pl : Int32) (n_vl : Int32) (n_fn : Int32) (n_li : Int32) (n_ed : Int32), va_P D vwCl [(h0, .inr (4, [.ref a_tape, .ref a_d, .int n_at, .int n_tk, .int n_pl, .int n_vl, .int n_fn])), (a_tape, .inr (7, [.ref y_by, .int i_sz, .int i_lf])), (y_by, .inl (kB, 200, .inl g_by)), (a_d, .inr (8, [.ref b_sc, .ref b_sp, .ref b_cp, .ref b_sn, .ref b_sl, .int n_li, .int n_ed, .int i_se]))] t.heap ∧ va_K D vwCl [(kB, .byte)] t ∧ va_D (va_A [(h0, .inr (4, [.ref a_tape, .ref a_d, .int i_at, .int i_tk, .int i_pl, .int i_vl, .int i_fn])), (a_tape, .inr (7, [.ref y_by, .int i_sz, .int i_lf])), (y_by, .inl (kB, 200, .inl g_by)), (a_d, .inr (8, [.ref b_sc, .ref b_sp, .ref b_cp, .ref b_sn, .ref b_sl, .int i_li, .int i_ed, .int i_se]))] sz) [(h0, .inr (4, [.ref a_tape, .ref a_d, .int n_at, .int n_tk, .int n_pl, .int n_vl, .int n_fn])), (a_tape, .inr (7, [.ref y_by, .int i_sz, .int i_lf])), (y_by, .inl (kB, 200, .inl g_by)), (a_d, .inr (8, [.ref b_sc, .ref b_sp, .ref b_cp, .ref b_sn, .ref b_sl, .int n_li, .int n_ed, .int i_se]))] ∧ (tTok (tC g_by) i_sz.toInt.toNat 0 = 119 ∧ tTok (tC g_by) i_sz.toInt.toNat (tNx (tC g_by) i_sz.toInt.toNat 0) = -2 ∧ 1 ≤ tNum (tC g_by) i_sz.toInt.toNat (tNx (tC g_by) i_sz.toInt.toNat 0) ∧ tNum (tC g_by) i_sz.toInt.toNat (tNx (tC g_by) i_sz.toInt.toNat 0) ≤ 200 ∧ tTok (tC g_by) i_sz.toInt.toNat (tNx (tC g_by) i_sz.toInt.toNat (tNx (tC g_by) i_sz.toInt.toNat 0)) = 59 → (n_at.toInt = (((tNx (tC g_by) i_sz.toInt.toNat (tNx (tC g_by) i_sz.toInt.toNat (tNx (tC g_by) i_sz.toInt.toNat 0))) : Nat) : Int) ∧ n_at.toInt ≤ i_sz.toInt ∧ n_li.toInt = tNum (tC g_by) i_sz.toInt.toNat (tNx (tC g_by) i_sz.toInt.toNat 0) ∧ n_ed.toInt = 0))) (va_A [(h0, .inr (4, [.ref a_tape, .ref a_d, .int i_at, .int i_tk, .int i_pl, .int i_vl, .int i_fn])), (a_tape, .inr (7, [.ref y_by, .int i_sz, .int i_lf])), (y_by, .inl (kB, 200, .inl g_by)), (a_d, .inr (8, [.ref b_sc, .ref b_sp, .ref b_cp, .ref b_sn, .ref b_sl, .int i_li, .int i_ed, .int i_se]))] sz)) 0 0 (va_A [(h0, .inr (4, [.ref a_tape, .ref a_d, .int i_at, .int i_tk, .int i_pl, .int i_vl, .int i_fn])), (a_tape, .inr (7, [.ref y_by, .int i_sz, .int i_lf])), (y_by, .inl (kB, 200, .inl g_by)), (a_d, .inr (8, [.ref b_sc, .ref b_sp, .ref b_cp, .ref b_sn, .ref b_sl, .int i_li, .int i_ed, .int i_se]))] sz) := by
  refine Met.ofW (cc := cX4_readHead) (maxL := 1) (ret := (some .boolean)) (by decide) rfl ?_
  intro p e s m args below meth c s₁ B hml hv
  obtain ⟨rfl, hsz, hP, hK, hD0⟩ := hv
  have hx := B.exec
  have hb := B.bytes
  have hr := B.returns
  have hts := atoms_spec (ws := w_X4_readHead) B.pre
  have hown : s.vm.findClass RX4 = some m.cls := findClass_of_methodNamed B.named
  have hlocks := B.notSynchronized
  subst hsz
  have hD := hD0.self (sz := s.heap.size)
  generalize hAe : va_A [(h0, .inr (4, [.ref a_tape, .ref a_d, .int i_at, .int i_tk, .int i_pl, .int i_vl, .int i_fn])), (a_tape, .inr (7, [.ref y_by, .int i_sz, .int i_lf])), (y_by, .inl (kB, 200, .inl g_by)), (a_d, .inr (8, [.ref b_sc, .ref b_sp, .ref b_cp, .ref b_sn, .ref b_sl, .int i_li, .int i_ed, .int i_se]))] s.heap.size = A at hD ⊢
  have hA : ∀ q : Nat, s.heap.size ≤ q → A q := fun q h => by rw [← hAe]; exact Or.inr h
  have hS : va_S A s.heap s.heap [] := va_S.rf
  have hP : va_P D vwCl [(h0, .inr (4, [.ref a_tape, .ref a_d, .int i_at, .int i_tk, .int i_pl, .int i_vl, .int i_fn])), (a_tape, .inr (7, [.ref y_by, .int i_sz, .int i_lf])), (y_by, .inl (kB, 200, .inl g_by)), (a_d, .inr (8, [.ref b_sc, .ref b_sp, .ref b_cp, .ref b_sn, .ref b_sl, .int i_li, .int i_ed, .int i_se]))] s.heap := hP
  have hl := lv_entry ([.ref h0]) (n := 1) (Nat.le_of_ble_eq_true rfl)
  rw [lg_entry_eq]
  generalize (lg_sl ([.ref h0]) ++ List.replicate (1 - (lg_sl ([.ref h0])).length) Slot.unset).toArray = ls at hl ⊢
  have hl : lv_has ls 1 [(0, .ref h0)] := hl
  obtain ⟨H, hHe⟩ : ∃ H : Heap, H = s.heap := ⟨_, rfl⟩
  rw [← hHe] at hP
  have hS : va_S A s.heap H [] := by rw [hHe]; exact hS
  refine pw_heap hHe ?_
  refine lv_aload_n hx hb dX4_readHead_0 rfl (lv_at hl 0 rfl) ?_
  refine lv_iconst (v := 0) hx hb dX4_readHead_1 (by decide) ?_
  refine va_put (D := D) (ci := 4) (v := .int 0) (ty := .int) (C := RX4) (T := TX4) (N := 7) hx hb hts (fun _ h => List.mem_cons_of_mem _ (List.mem_append_left _ (List.mem_append_left _ (List.mem_append_right _ h)))) tyX4 tyX4_ok nmX4 hown hK hP hD hS 0 rfl rfl 2 (by decide) (hts (.fieldLink RX4 26 "LineCites$Reader" "at" "I") (List.mem_of_getElem? (i := 1) rfl)) (fun _ h9 => h9) rfl (by decide +kernel) rfl rfl (Nat.le_of_ble_eq_true rfl) dX4_readHead_2 (fun H locs hP hD hS => ?_)
  have hP : va_P D vwCl [(h0, .inr (4, [.ref a_tape, .ref a_d, .int 0, .int i_tk, .int i_pl, .int i_vl, .int i_fn])), (a_tape, .inr (7, [.ref y_by, .int i_sz, .int i_lf])), (y_by, .inl (kB, 200, .inl g_by)), (a_d, .inr (8, [.ref b_sc, .ref b_sp, .ref b_cp, .ref b_sn, .ref b_sl, .int i_li, .int i_ed, .int i_se]))] H := hP
  have hD : va_D A [(h0, .inr (4, [.ref a_tape, .ref a_d, .int 0, .int i_tk, .int i_pl, .int i_vl, .int i_fn])), (a_tape, .inr (7, [.ref y_by, .int i_sz, .int i_lf])), (y_by, .inl (kB, 200, .inl g_by)), (a_d, .inr (8, [.ref b_sc, .ref b_sp, .ref b_cp, .ref b_sn, .ref b_sl, .int i_li, .int i_ed, .int i_se]))] := hD
  have hK : va_K D vwCl [(kB, .byte)] s := hK
  refine lv_aload_n hx hb dX4_readHead_5 rfl (lv_at hl 0 rfl) ?_
  refine lv_bipush (v := 119) hx hb dX4_readHead_6 (by decide) ?_
  have kk119 : (119 : Int32).toInt = 119 := by decide
  have hPc := hP.sub (ws' := [(h0, .inr (4, [.ref a_tape, .ref a_d, .int 0, .int i_tk, .int i_pl, .int i_vl, .int i_fn])), (a_tape, .inr (7, [.ref y_by, .int i_sz, .int i_lf])), (y_by, .inl (kB, 200, .inl g_by))]) [0, 1, 2] rfl
  have hKc := hK.sub (tys' := [(kB, .byte)]) [0] rfl
  have hDc := hD.sub (ws' := [(h0, .inr (4, [.ref a_tape, .ref a_d, .int 0, .int i_tk, .int i_pl, .int i_vl, .int i_fn])), (a_tape, .inr (7, [.ref y_by, .int i_sz, .int i_lf])), (y_by, .inl (kB, 200, .inl g_by))]) [0, 1, 2] (by decide) rfl
  have hFc := va_free (wc := [(h0, .inr (4, [.ref a_tape, .ref a_d, .int 0, .int i_tk, .int i_pl, .int i_vl, .int i_fn])), (a_tape, .inr (7, [.ref y_by, .int i_sz, .int i_lf])), (y_by, .inl (kB, 200, .inl g_by))]) hD hS hA [0, 1, 2] rfl
  refine va_calli (va_runV (As := [.int 119]) (rest := []) ⟨hx, hb, hml, hown, hts⟩ (c_X4_expect l D h0 119 a_tape a_d 0 i_tk i_pl i_vl i_fn y_by i_sz i_lf kB g_by 0 H.size (by first | decide | omega) (by first | decide | omega) (by first | omega | decide | (have hz0 : (0 : Int32).toInt = 0 := (by decide); omega)) (by first | omega | decide | (have hz0 : (0 : Int32).toInt = 0 := (by decide); omega))) (cwV 1 hts g_X4_readHead_X4_expect rfl rfl rfl (by decide +kernel) ⟨Nat.le_of_ble_eq_true rfl, Nat.le_of_ble_eq_true rfl⟩) ⟨fun a U g mk q => by obtain ⟨q0, q1, qP, qK, qD⟩ := q; exact ⟨q0, q1, qP, va_K.moved (u := U) (U := U.calling g mk a) (Vm.Alike.refl U.vm) qK, qD⟩, va_recv hKc hPc (ci := 4) (q0 := 0) rfl rfl, fun U hU hW => ⟨rfl, by rw [hU], by rw [hU]; exact hPc, va_K.moved hW.alike hKc, hDc.weaken (fun _ _ _ _ => trivial)⟩⟩ rfl rfl hl.1 rfl (lv_room (Nat.le_of_ble_eq_true rfl)) dX4_readHead_8 ⟨Nat.le_of_ble_eq_true rfl, Nat.le_of_ble_eq_true rfl⟩) hS (fun q _ h => hFc q h) hFc (fun r1 u t H1 locs ht hvm hw hB hz1 hk1 hS => ?_)
  obtain ⟨y2, y3, y4, y5, hP1, hK1, hD1, px0_r1, px1_r1, px2_r1, px3_r1⟩ := hB
  rw [ht] at hP1
  have hK1 := va_K.moved hvm.symm hK1
  obtain ⟨hP, hD⟩ := va_join (wr := [(a_d, .inr (8, [.ref b_sc, .ref b_sp, .ref b_cp, .ref b_sn, .ref b_sl, .int i_li, .int i_ed, .int i_se]))]) (w1 := [(h0, .inr (4, [.ref a_tape, .ref a_d, .int y2, .int y3, .int 0, .int y4, .int y5])), (a_tape, .inr (7, [.ref y_by, .int i_sz, .int i_lf])), (y_by, .inl (kB, 200, .inl g_by))]) hP hD [0, 1, 2] [3] rfl rfl (by decide) (by decide) hk1 hFc hP1 hD1
  have hK := (hK.sub (tys' := [(kB, .byte)]) [0] rfl).app hK1
  generalize H1 = H at hP hS ⊢
  have hP : va_P D vwCl [(a_d, .inr (8, [.ref b_sc, .ref b_sp, .ref b_cp, .ref b_sn, .ref b_sl, .int i_li, .int i_ed, .int i_se])), (h0, .inr (4, [.ref a_tape, .ref a_d, .int y2, .int y3, .int 0, .int y4, .int y5])), (a_tape, .inr (7, [.ref y_by, .int i_sz, .int i_lf])), (y_by, .inl (kB, 200, .inl g_by))] H := hP
  have hD : va_D A [(a_d, .inr (8, [.ref b_sc, .ref b_sp, .ref b_cp, .ref b_sn, .ref b_sl, .int i_li, .int i_ed, .int i_se])), (h0, .inr (4, [.ref a_tape, .ref a_d, .int y2, .int y3, .int 0, .int y4, .int y5])), (a_tape, .inr (7, [.ref y_by, .int i_sz, .int i_lf])), (y_by, .inl (kB, 200, .inl g_by))] := hD
  have hK : va_K D vwCl [(kB, .byte), (kB, .byte)] s := hK
  refine W.widen (k := 0) (n := 0) (Nat.le_of_ble_eq_true rfl) (Nat.le_of_ble_eq_true rfl) ?_
  have bor1 := hw.1
  have zor1 := pw_boolI bor1
  have hfr1 := hw.2
  refine lv_if_eq (tgt := 23) hx hb dX4_readHead_11 (by decide) (fun c6 => ?_) (fun c6 => ?_)
  · have nc6 : r1.toInt = 0 := pw_eq c6 rfl (by decide)
    refine lv_iconst (v := 0) hx hb dX4_readHead_23 (by decide) ?_
    have hP9 := hP.sub (ws' := [(h0, .inr (4, [.ref a_tape, .ref a_d, .int y2, .int y3, .int 0, .int y4, .int y5])), (a_tape, .inr (7, [.ref y_by, .int i_sz, .int i_lf])), (y_by, .inl (kB, 200, .inl g_by)), (a_d, .inr (8, [.ref b_sc, .ref b_sp, .ref b_cp, .ref b_sn, .ref b_sl, .int i_li, .int i_ed, .int i_se]))]) [1, 2, 3, 0] rfl
    have hD9 := hD.sub (ws' := [(h0, .inr (4, [.ref a_tape, .ref a_d, .int y2, .int y3, .int 0, .int y4, .int y5])), (a_tape, .inr (7, [.ref y_by, .int i_sz, .int i_lf])), (y_by, .inl (kB, 200, .inl g_by)), (a_d, .inr (8, [.ref b_sc, .ref b_sp, .ref b_cp, .ref b_sn, .ref b_sl, .int i_li, .int i_ed, .int i_se]))]) [1, 2, 3, 0] (by decide) rfl
    have hK9 := hK.sub (tys' := [(kB, .byte)]) [0] rfl
    refine W.widen (k := 0) (n := 0) (Nat.le_of_ble_eq_true rfl) (Nat.le_of_ble_eq_true rfl) ?_
    exact W.zret (v := 0) (ty := .boolean) hx hb hr rfl (fun t ht hW => ⟨⟨0, (), rfl, ⟨Or.inl rfl, (by have hv : (0 : Int32).toInt = 0 := (by decide); omega)⟩, y2, y3, 0, y4, y5, i_li, i_ed, by rw [ht]; exact hP9, va_K.moved hW.alike hK9, hD9, (by have hz : (0 : Int32).toInt = 0 := (by decide); omega)⟩, hS.F ht⟩) hS.2.2 dX4_readHead_24
  · have nc6 : r1.toInt ≠ 0 := pw_ne c6 rfl (by decide)
    refine lv_aload_n hx hb dX4_readHead_14 rfl (lv_at hl 0 rfl) ?_
    refine lv_bipush (v := (-2)) hx hb dX4_readHead_15 (by decide) ?_
    have kkm2 : ((-2) : Int32).toInt = (-2) := by decide
    have hPc := hP.sub (ws' := [(h0, .inr (4, [.ref a_tape, .ref a_d, .int y2, .int y3, .int 0, .int y4, .int y5])), (a_tape, .inr (7, [.ref y_by, .int i_sz, .int i_lf])), (y_by, .inl (kB, 200, .inl g_by))]) [1, 2, 3] rfl
    have hKc := hK.sub (tys' := [(kB, .byte)]) [0] rfl
    have hDc := hD.sub (ws' := [(h0, .inr (4, [.ref a_tape, .ref a_d, .int y2, .int y3, .int 0, .int y4, .int y5])), (a_tape, .inr (7, [.ref y_by, .int i_sz, .int i_lf])), (y_by, .inl (kB, 200, .inl g_by))]) [1, 2, 3] (by decide) rfl
    have hFc := va_free (wc := [(h0, .inr (4, [.ref a_tape, .ref a_d, .int y2, .int y3, .int 0, .int y4, .int y5])), (a_tape, .inr (7, [.ref y_by, .int i_sz, .int i_lf])), (y_by, .inl (kB, 200, .inl g_by))]) hD hS hA [1, 2, 3] rfl
    refine va_calli (va_runV (As := [.int (-2)]) (rest := []) ⟨hx, hb, hml, hown, hts⟩ (c_X4_expect l D h0 (-2) a_tape a_d y2 y3 0 y4 y5 y_by i_sz i_lf kB g_by (tNx (tC g_by) i_sz.toInt.toNat 0) H.size (by first | decide | omega) (by first | decide | omega) (by first | omega | decide | (have hz0 : (0 : Int32).toInt = 0 := (by decide); omega)) (by first | omega | decide | (have hz0 : (0 : Int32).toInt = 0 := (by decide); omega))) (cwV 1 hts g_X4_readHead_X4_expect rfl rfl rfl (by decide +kernel) ⟨Nat.le_of_ble_eq_true rfl, Nat.le_of_ble_eq_true rfl⟩) ⟨fun a U g mk q => by obtain ⟨q0, q1, qP, qK, qD⟩ := q; exact ⟨q0, q1, qP, va_K.moved (u := U) (U := U.calling g mk a) (Vm.Alike.refl U.vm) qK, qD⟩, va_recv hKc hPc (ci := 4) (q0 := 0) rfl rfl, fun U hU hW => ⟨rfl, by rw [hU], by rw [hU]; exact hPc, va_K.moved hW.alike hKc, hDc.weaken (fun _ _ _ _ => trivial)⟩⟩ rfl rfl hl.1 rfl (lv_room (Nat.le_of_ble_eq_true rfl)) dX4_readHead_17 ⟨Nat.le_of_ble_eq_true rfl, Nat.le_of_ble_eq_true rfl⟩) hS (fun q _ h => hFc q h) hFc (fun r7 u t H1 locs ht hvm hw hB hz1 hk1 hS => ?_)
    obtain ⟨y8, y9, y10, y11, hP1, hK1, hD1, px0_r7, px1_r7, px2_r7, px3_r7⟩ := hB
    rw [ht] at hP1
    have hK1 := va_K.moved hvm.symm hK1
    obtain ⟨hP, hD⟩ := va_join (wr := [(a_d, .inr (8, [.ref b_sc, .ref b_sp, .ref b_cp, .ref b_sn, .ref b_sl, .int i_li, .int i_ed, .int i_se]))]) (w1 := [(h0, .inr (4, [.ref a_tape, .ref a_d, .int y8, .int y9, .int y2, .int y10, .int y11])), (a_tape, .inr (7, [.ref y_by, .int i_sz, .int i_lf])), (y_by, .inl (kB, 200, .inl g_by))]) hP hD [1, 2, 3] [0] rfl rfl (by decide) (by decide) hk1 hFc hP1 hD1
    have hK := (hK.sub (tys' := [(kB, .byte), (kB, .byte)]) [0, 1] rfl).app hK1
    generalize H1 = H at hP hS ⊢
    have hP : va_P D vwCl [(a_d, .inr (8, [.ref b_sc, .ref b_sp, .ref b_cp, .ref b_sn, .ref b_sl, .int i_li, .int i_ed, .int i_se])), (h0, .inr (4, [.ref a_tape, .ref a_d, .int y8, .int y9, .int y2, .int y10, .int y11])), (a_tape, .inr (7, [.ref y_by, .int i_sz, .int i_lf])), (y_by, .inl (kB, 200, .inl g_by))] H := hP
    have hD : va_D A [(a_d, .inr (8, [.ref b_sc, .ref b_sp, .ref b_cp, .ref b_sn, .ref b_sl, .int i_li, .int i_ed, .int i_se])), (h0, .inr (4, [.ref a_tape, .ref a_d, .int y8, .int y9, .int y2, .int y10, .int y11])), (a_tape, .inr (7, [.ref y_by, .int i_sz, .int i_lf])), (y_by, .inl (kB, 200, .inl g_by))] := hD
    have hK : va_K D vwCl [(kB, .byte), (kB, .byte), (kB, .byte)] s := hK
    refine W.widen (k := 0) (n := 0) (Nat.le_of_ble_eq_true rfl) (Nat.le_of_ble_eq_true rfl) ?_
    have bor7 := hw.1
    have zor7 := pw_boolI bor7
    have hfr7 := hw.2
    refine lv_if_ne (tgt := 25) hx hb dX4_readHead_20 (by decide) (fun c12 => ?_) (fun c12 => ?_)
    · have nc12 : r7.toInt ≠ 0 := pw_ne c12 rfl (by decide)
      refine lv_aload_n hx hb dX4_readHead_25 rfl (lv_at hl 0 rfl) ?_
      refine va_get (D := D) (ci := 4) (v := .int y10) (C := RX4) (T := TX4) (N := 7) hx hb hts (fun _ h => List.mem_cons_of_mem _ (List.mem_append_left _ (List.mem_append_left _ (List.mem_append_right _ h)))) hown hK hP 1 rfl rfl 5 (by decide) (hts (.fieldLink RX4 33 "LineCites$Reader" "value" "I") (List.mem_of_getElem? (i := 32) rfl)) (fun _ h9 => h9) rfl dX4_readHead_26 ?_
      refine lv_iconst (v := 1) hx hb dX4_readHead_29 (by decide) ?_
      refine lv_icmp_lt (tgt := 43) hx hb dX4_readHead_30 (by decide) (fun c13 => ?_) (fun c13 => ?_)
      · have nc13 : y10.toInt < 1 := pw_lt c13 rfl (by decide)
        refine lv_aload_n hx hb dX4_readHead_43 rfl (lv_at hl 0 rfl) ?_
        refine lv_iconst (v := 2) hx hb dX4_readHead_44 (by decide) ?_
        have hPc := hP.sub (ws' := [(h0, .inr (4, [.ref a_tape, .ref a_d, .int y8, .int y9, .int y2, .int y10, .int y11]))]) [1] rfl
        have hKc := hK.sub (tys' := []) [] rfl
        have hDc := hD.sub (ws' := [(h0, .inr (4, [.ref a_tape, .ref a_d, .int y8, .int y9, .int y2, .int y10, .int y11]))]) [1] (by decide) rfl
        have hFc := va_free (wc := [(h0, .inr (4, [.ref a_tape, .ref a_d, .int y8, .int y9, .int y2, .int y10, .int y11]))]) hD hS hA [1] rfl
        refine va_calli (va_runV (As := [.int 2]) (rest := []) ⟨hx, hb, hml, hown, hts⟩ (c_X4_refuse l D h0 2 a_tape a_d y8 y9 y2 y10 y11 H.size) (cwV 1 hts g_X4_readHead_X4_refuse rfl rfl rfl (by decide +kernel) ⟨Nat.le_of_ble_eq_true rfl, Nat.le_of_ble_eq_true rfl⟩) ⟨fun a U g mk q => by obtain ⟨q0, q1, qP, qK, qD⟩ := q; exact ⟨q0, q1, qP, va_K.moved (u := U) (U := U.calling g mk a) (Vm.Alike.refl U.vm) qK, qD⟩, va_recv hKc hPc (ci := 4) (q0 := 0) rfl rfl, fun U hU hW => ⟨rfl, by rw [hU], by rw [hU]; exact hPc, va_K.moved hW.alike hKc, hDc.weaken (fun _ _ _ _ => trivial)⟩⟩ rfl rfl hl.1 rfl (lv_room (Nat.le_of_ble_eq_true rfl)) dX4_readHead_45 ⟨Nat.le_of_ble_eq_true rfl, Nat.le_of_ble_eq_true rfl⟩) hS (fun q _ h => hFc q h) hFc (fun r14 u t H1 locs ht hvm hw hB hz1 hk1 hS => ?_)
        obtain ⟨hP1, hK1, hD1⟩ := hB
        rw [ht] at hP1
        have hK1 := va_K.moved hvm.symm hK1
        obtain ⟨hP, hD⟩ := va_join (wr := [(a_d, .inr (8, [.ref b_sc, .ref b_sp, .ref b_cp, .ref b_sn, .ref b_sl, .int i_li, .int i_ed, .int i_se])), (a_tape, .inr (7, [.ref y_by, .int i_sz, .int i_lf])), (y_by, .inl (kB, 200, .inl g_by))]) (w1 := [(h0, .inr (4, [.ref a_tape, .ref a_d, .int y8, .int y9, .int y2, .int y10, .int 2]))]) hP hD [1] [0, 2, 3] rfl rfl (by decide) (by decide) hk1 hFc hP1 hD1
        have hK := (hK.sub (tys' := [(kB, .byte), (kB, .byte), (kB, .byte)]) [0, 1, 2] rfl).app hK1
        generalize H1 = H at hP hS ⊢
        have hP : va_P D vwCl [(a_d, .inr (8, [.ref b_sc, .ref b_sp, .ref b_cp, .ref b_sn, .ref b_sl, .int i_li, .int i_ed, .int i_se])), (a_tape, .inr (7, [.ref y_by, .int i_sz, .int i_lf])), (y_by, .inl (kB, 200, .inl g_by)), (h0, .inr (4, [.ref a_tape, .ref a_d, .int y8, .int y9, .int y2, .int y10, .int 2]))] H := hP
        have hD : va_D A [(a_d, .inr (8, [.ref b_sc, .ref b_sp, .ref b_cp, .ref b_sn, .ref b_sl, .int i_li, .int i_ed, .int i_se])), (a_tape, .inr (7, [.ref y_by, .int i_sz, .int i_lf])), (y_by, .inl (kB, 200, .inl g_by)), (h0, .inr (4, [.ref a_tape, .ref a_d, .int y8, .int y9, .int y2, .int y10, .int 2]))] := hD
        have hK : va_K D vwCl [(kB, .byte), (kB, .byte), (kB, .byte)] s := hK
        refine W.widen (k := 0) (n := 0) (Nat.le_of_ble_eq_true rfl) (Nat.le_of_ble_eq_true rfl) ?_
        obtain rfl : r14 = 0 := hw
        have hP9 := hP.sub (ws' := [(h0, .inr (4, [.ref a_tape, .ref a_d, .int y8, .int y9, .int y2, .int y10, .int 2])), (a_tape, .inr (7, [.ref y_by, .int i_sz, .int i_lf])), (y_by, .inl (kB, 200, .inl g_by)), (a_d, .inr (8, [.ref b_sc, .ref b_sp, .ref b_cp, .ref b_sn, .ref b_sl, .int i_li, .int i_ed, .int i_se]))]) [3, 1, 2, 0] rfl
        have hD9 := hD.sub (ws' := [(h0, .inr (4, [.ref a_tape, .ref a_d, .int y8, .int y9, .int y2, .int y10, .int 2])), (a_tape, .inr (7, [.ref y_by, .int i_sz, .int i_lf])), (y_by, .inl (kB, 200, .inl g_by)), (a_d, .inr (8, [.ref b_sc, .ref b_sp, .ref b_cp, .ref b_sn, .ref b_sl, .int i_li, .int i_ed, .int i_se]))]) [3, 1, 2, 0] (by decide) rfl
        have hK9 := hK.sub (tys' := [(kB, .byte)]) [0] rfl
        refine W.widen (k := 0) (n := 0) (Nat.le_of_ble_eq_true rfl) (Nat.le_of_ble_eq_true rfl) ?_
        exact W.zret (v := 0) (ty := .boolean) hx hb hr rfl (fun t ht hW => ⟨⟨0, (), rfl, ⟨Or.inl rfl, (by have hv : (0 : Int32).toInt = 0 := (by decide); omega)⟩, y8, y9, y2, y10, 2, i_li, i_ed, by rw [ht]; exact hP9, va_K.moved hW.alike hK9, hD9, (by have hz : (0 : Int32).toInt = 0 := (by decide); omega)⟩, hS.F ht⟩) hS.2.2 dX4_readHead_48
      · have nc13 : 1 ≤ y10.toInt := pw_nlt c13 rfl (by decide)
        refine lv_aload_n hx hb dX4_readHead_33 rfl (lv_at hl 0 rfl) ?_
        refine va_get (D := D) (ci := 4) (v := .int y10) (C := RX4) (T := TX4) (N := 7) hx hb hts (fun _ h => List.mem_cons_of_mem _ (List.mem_append_left _ (List.mem_append_left _ (List.mem_append_right _ h)))) hown hK hP 1 rfl rfl 5 (by decide) (hts (.fieldLink RX4 33 "LineCites$Reader" "value" "I") (List.mem_of_getElem? (i := 32) rfl)) (fun _ h9 => h9) rfl dX4_readHead_34 ?_
        refine lv_sipush (v := 200) hx hb dX4_readHead_37 (by decide) ?_
        refine lv_icmp_le (tgt := 49) hx hb dX4_readHead_40 (by decide) (fun c15 => ?_) (fun c15 => ?_)
        · have nc15 : y10.toInt ≤ 200 := pw_le c15 rfl (by decide)
          refine lv_aload_n hx hb dX4_readHead_49 rfl (lv_at hl 0 rfl) ?_
          refine va_get (D := D) (ci := 4) (v := .ref a_d) (C := RX4) (T := TX4) (N := 7) hx hb hts (fun _ h => List.mem_cons_of_mem _ (List.mem_append_left _ (List.mem_append_left _ (List.mem_append_right _ h)))) hown hK hP 1 rfl rfl 1 (by decide) (hts (.fieldLink RX4 15 "LineCites$Reader" "draft" "LLineCites$Work;") (List.mem_of_getElem? (i := 38) rfl)) (fun _ h9 => h9) rfl dX4_readHead_50 ?_
          refine lv_aload_n hx hb dX4_readHead_53 rfl (lv_at hl 0 rfl) ?_
          refine va_get (D := D) (ci := 4) (v := .int y10) (C := RX4) (T := TX4) (N := 7) hx hb hts (fun _ h => List.mem_cons_of_mem _ (List.mem_append_left _ (List.mem_append_left _ (List.mem_append_right _ h)))) hown hK hP 1 rfl rfl 5 (by decide) (hts (.fieldLink RX4 33 "LineCites$Reader" "value" "I") (List.mem_of_getElem? (i := 32) rfl)) (fun _ h9 => h9) rfl dX4_readHead_54 ?_
          have hPc := hP.sub (ws' := [(a_d, .inr (8, [.ref b_sc, .ref b_sp, .ref b_cp, .ref b_sn, .ref b_sl, .int i_li, .int i_ed, .int i_se]))]) [0] rfl
          have hKc := hK.sub (tys' := []) [] rfl
          have hDc := hD.sub (ws' := [(a_d, .inr (8, [.ref b_sc, .ref b_sp, .ref b_cp, .ref b_sn, .ref b_sl, .int i_li, .int i_ed, .int i_se]))]) [0] (by decide) rfl
          have hFc := va_free (wc := [(a_d, .inr (8, [.ref b_sc, .ref b_sp, .ref b_cp, .ref b_sn, .ref b_sl, .int i_li, .int i_ed, .int i_se]))]) hD hS hA [0] rfl
          refine va_callv (va_runV (As := [.int y10]) (rest := []) ⟨hx, hb, hml, hown, hts⟩ (c_X8_begin__f l D a_d y10 b_sc b_sp b_cp b_sn b_sl i_li i_ed i_se H.size) (cwV 1 hts g_X4_readHead_X8_begin__f rfl rfl rfl (by decide +kernel) ⟨Nat.le_of_ble_eq_true rfl, Nat.le_of_ble_eq_true rfl⟩) ⟨fun a U g mk q => by obtain ⟨q0, q1, qP, qK, qD⟩ := q; exact ⟨q0, q1, qP, va_K.moved (u := U) (U := U.calling g mk a) (Vm.Alike.refl U.vm) qK, qD⟩, va_recv hKc hPc (ci := 8) (q0 := 0) rfl rfl, fun U hU hW => ⟨rfl, by rw [hU], by rw [hU]; exact hPc, va_K.moved hW.alike hKc, hDc.weaken (fun _ _ _ _ => trivial)⟩⟩ rfl rfl hl.1 rfl (lv_room (Nat.le_of_ble_eq_true rfl)) dX4_readHead_57 ⟨Nat.le_of_ble_eq_true rfl, Nat.le_of_ble_eq_true rfl⟩) hS (fun q _ h => hFc q h) hFc (fun u t H1 locs ht hvm hw hB hz1 hk1 hS => ?_)
          obtain ⟨hP1, hK1, hD1⟩ := hB
          rw [ht] at hP1
          have hK1 := va_K.moved hvm.symm hK1
          obtain ⟨hP, hD⟩ := va_join (wr := [(h0, .inr (4, [.ref a_tape, .ref a_d, .int y8, .int y9, .int y2, .int y10, .int y11])), (a_tape, .inr (7, [.ref y_by, .int i_sz, .int i_lf])), (y_by, .inl (kB, 200, .inl g_by))]) (w1 := [(a_d, .inr (8, [.ref b_sc, .ref b_sp, .ref b_cp, .ref b_sn, .ref b_sl, .int y10, .int 0, .int i_se]))]) hP hD [0] [1, 2, 3] rfl rfl (by decide) (by decide) hk1 hFc hP1 hD1
          have hK := (hK.sub (tys' := [(kB, .byte), (kB, .byte), (kB, .byte)]) [0, 1, 2] rfl).app hK1
          generalize H1 = H at hP hS ⊢
          have hP : va_P D vwCl [(h0, .inr (4, [.ref a_tape, .ref a_d, .int y8, .int y9, .int y2, .int y10, .int y11])), (a_tape, .inr (7, [.ref y_by, .int i_sz, .int i_lf])), (y_by, .inl (kB, 200, .inl g_by)), (a_d, .inr (8, [.ref b_sc, .ref b_sp, .ref b_cp, .ref b_sn, .ref b_sl, .int y10, .int 0, .int i_se]))] H := hP
          have hD : va_D A [(h0, .inr (4, [.ref a_tape, .ref a_d, .int y8, .int y9, .int y2, .int y10, .int y11])), (a_tape, .inr (7, [.ref y_by, .int i_sz, .int i_lf])), (y_by, .inl (kB, 200, .inl g_by)), (a_d, .inr (8, [.ref b_sc, .ref b_sp, .ref b_cp, .ref b_sn, .ref b_sl, .int y10, .int 0, .int i_se]))] := hD
          have hK : va_K D vwCl [(kB, .byte), (kB, .byte), (kB, .byte)] s := hK
          refine W.widen (k := 0) (n := 0) (Nat.le_of_ble_eq_true rfl) (Nat.le_of_ble_eq_true rfl) ?_
          refine lv_aload_n hx hb dX4_readHead_60 rfl (lv_at hl 0 rfl) ?_
          refine lv_bipush (v := 59) hx hb dX4_readHead_61 (by decide) ?_
          have kk59 : (59 : Int32).toInt = 59 := by decide
          have hPc := hP.sub (ws' := [(h0, .inr (4, [.ref a_tape, .ref a_d, .int y8, .int y9, .int y2, .int y10, .int y11])), (a_tape, .inr (7, [.ref y_by, .int i_sz, .int i_lf])), (y_by, .inl (kB, 200, .inl g_by))]) [0, 1, 2] rfl
          have hKc := hK.sub (tys' := [(kB, .byte)]) [0] rfl
          have hDc := hD.sub (ws' := [(h0, .inr (4, [.ref a_tape, .ref a_d, .int y8, .int y9, .int y2, .int y10, .int y11])), (a_tape, .inr (7, [.ref y_by, .int i_sz, .int i_lf])), (y_by, .inl (kB, 200, .inl g_by))]) [0, 1, 2] (by decide) rfl
          have hFc := va_free (wc := [(h0, .inr (4, [.ref a_tape, .ref a_d, .int y8, .int y9, .int y2, .int y10, .int y11])), (a_tape, .inr (7, [.ref y_by, .int i_sz, .int i_lf])), (y_by, .inl (kB, 200, .inl g_by))]) hD hS hA [0, 1, 2] rfl
          refine va_calli (va_runV (As := [.int 59]) (rest := []) ⟨hx, hb, hml, hown, hts⟩ (c_X4_expect l D h0 59 a_tape a_d y8 y9 y2 y10 y11 y_by i_sz i_lf kB g_by (tNx (tC g_by) i_sz.toInt.toNat (tNx (tC g_by) i_sz.toInt.toNat 0)) H.size (by first | decide | omega) (by first | decide | omega) (by first | omega | decide | (have hz0 : (0 : Int32).toInt = 0 := (by decide); omega)) (by first | omega | decide | (have hz0 : (0 : Int32).toInt = 0 := (by decide); omega))) (cwV 1 hts g_X4_readHead_X4_expect rfl rfl rfl (by decide +kernel) ⟨Nat.le_of_ble_eq_true rfl, Nat.le_of_ble_eq_true rfl⟩) ⟨fun a U g mk q => by obtain ⟨q0, q1, qP, qK, qD⟩ := q; exact ⟨q0, q1, qP, va_K.moved (u := U) (U := U.calling g mk a) (Vm.Alike.refl U.vm) qK, qD⟩, va_recv hKc hPc (ci := 4) (q0 := 0) rfl rfl, fun U hU hW => ⟨rfl, by rw [hU], by rw [hU]; exact hPc, va_K.moved hW.alike hKc, hDc.weaken (fun _ _ _ _ => trivial)⟩⟩ rfl rfl hl.1 rfl (lv_room (Nat.le_of_ble_eq_true rfl)) dX4_readHead_63 ⟨Nat.le_of_ble_eq_true rfl, Nat.le_of_ble_eq_true rfl⟩) hS (fun q _ h => hFc q h) hFc (fun r17 u t H1 locs ht hvm hw hB hz1 hk1 hS => ?_)
          obtain ⟨y18, y19, y20, y21, hP1, hK1, hD1, px0_r17, px1_r17, px2_r17, px3_r17⟩ := hB
          rw [ht] at hP1
          have hK1 := va_K.moved hvm.symm hK1
          obtain ⟨hP, hD⟩ := va_join (wr := [(a_d, .inr (8, [.ref b_sc, .ref b_sp, .ref b_cp, .ref b_sn, .ref b_sl, .int y10, .int 0, .int i_se]))]) (w1 := [(h0, .inr (4, [.ref a_tape, .ref a_d, .int y18, .int y19, .int y8, .int y20, .int y21])), (a_tape, .inr (7, [.ref y_by, .int i_sz, .int i_lf])), (y_by, .inl (kB, 200, .inl g_by))]) hP hD [0, 1, 2] [3] rfl rfl (by decide) (by decide) hk1 hFc hP1 hD1
          have hK := (hK.sub (tys' := [(kB, .byte), (kB, .byte), (kB, .byte)]) [0, 1, 2] rfl).app hK1
          generalize H1 = H at hP hS ⊢
          have hP : va_P D vwCl [(a_d, .inr (8, [.ref b_sc, .ref b_sp, .ref b_cp, .ref b_sn, .ref b_sl, .int y10, .int 0, .int i_se])), (h0, .inr (4, [.ref a_tape, .ref a_d, .int y18, .int y19, .int y8, .int y20, .int y21])), (a_tape, .inr (7, [.ref y_by, .int i_sz, .int i_lf])), (y_by, .inl (kB, 200, .inl g_by))] H := hP
          have hD : va_D A [(a_d, .inr (8, [.ref b_sc, .ref b_sp, .ref b_cp, .ref b_sn, .ref b_sl, .int y10, .int 0, .int i_se])), (h0, .inr (4, [.ref a_tape, .ref a_d, .int y18, .int y19, .int y8, .int y20, .int y21])), (a_tape, .inr (7, [.ref y_by, .int i_sz, .int i_lf])), (y_by, .inl (kB, 200, .inl g_by))] := hD
          have hK : va_K D vwCl [(kB, .byte), (kB, .byte), (kB, .byte), (kB, .byte)] s := hK
          refine W.widen (k := 0) (n := 0) (Nat.le_of_ble_eq_true rfl) (Nat.le_of_ble_eq_true rfl) ?_
          have bor17 := hw.1
          have zor17 := pw_boolI bor17
          have hfr17 := hw.2
          have hP9 := hP.sub (ws' := [(h0, .inr (4, [.ref a_tape, .ref a_d, .int y18, .int y19, .int y8, .int y20, .int y21])), (a_tape, .inr (7, [.ref y_by, .int i_sz, .int i_lf])), (y_by, .inl (kB, 200, .inl g_by)), (a_d, .inr (8, [.ref b_sc, .ref b_sp, .ref b_cp, .ref b_sn, .ref b_sl, .int y10, .int 0, .int i_se]))]) [1, 2, 3, 0] rfl
          have hD9 := hD.sub (ws' := [(h0, .inr (4, [.ref a_tape, .ref a_d, .int y18, .int y19, .int y8, .int y20, .int y21])), (a_tape, .inr (7, [.ref y_by, .int i_sz, .int i_lf])), (y_by, .inl (kB, 200, .inl g_by)), (a_d, .inr (8, [.ref b_sc, .ref b_sp, .ref b_cp, .ref b_sn, .ref b_sl, .int y10, .int 0, .int i_se]))]) [1, 2, 3, 0] (by decide) rfl
          have hK9 := hK.sub (tys' := [(kB, .byte)]) [0] rfl
          refine W.widen (k := 0) (n := 0) (Nat.le_of_ble_eq_true rfl) (Nat.le_of_ble_eq_true rfl) ?_
          exact W.zret (v := r17) (ty := .boolean) hx hb hr (pw_bool bor17) (fun t ht hW => ⟨⟨r17, (), rfl, ⟨bor17, (by omega)⟩, y18, y19, y8, y20, y21, y10, 0, by rw [ht]; exact hP9, va_K.moved hW.alike hK9, hD9, (by have hz : (0 : Int32).toInt = 0 := (by decide); omega)⟩, hS.F ht⟩) hS.2.2 dX4_readHead_66
        · have nc15 : 200 < y10.toInt := pw_nle c15 rfl (by decide)
          refine lv_aload_n hx hb dX4_readHead_43 rfl (lv_at hl 0 rfl) ?_
          refine lv_iconst (v := 2) hx hb dX4_readHead_44 (by decide) ?_
          have hPc := hP.sub (ws' := [(h0, .inr (4, [.ref a_tape, .ref a_d, .int y8, .int y9, .int y2, .int y10, .int y11]))]) [1] rfl
          have hKc := hK.sub (tys' := []) [] rfl
          have hDc := hD.sub (ws' := [(h0, .inr (4, [.ref a_tape, .ref a_d, .int y8, .int y9, .int y2, .int y10, .int y11]))]) [1] (by decide) rfl
          have hFc := va_free (wc := [(h0, .inr (4, [.ref a_tape, .ref a_d, .int y8, .int y9, .int y2, .int y10, .int y11]))]) hD hS hA [1] rfl
          refine va_calli (va_runV (As := [.int 2]) (rest := []) ⟨hx, hb, hml, hown, hts⟩ (c_X4_refuse l D h0 2 a_tape a_d y8 y9 y2 y10 y11 H.size) (cwV 1 hts g_X4_readHead_X4_refuse rfl rfl rfl (by decide +kernel) ⟨Nat.le_of_ble_eq_true rfl, Nat.le_of_ble_eq_true rfl⟩) ⟨fun a U g mk q => by obtain ⟨q0, q1, qP, qK, qD⟩ := q; exact ⟨q0, q1, qP, va_K.moved (u := U) (U := U.calling g mk a) (Vm.Alike.refl U.vm) qK, qD⟩, va_recv hKc hPc (ci := 4) (q0 := 0) rfl rfl, fun U hU hW => ⟨rfl, by rw [hU], by rw [hU]; exact hPc, va_K.moved hW.alike hKc, hDc.weaken (fun _ _ _ _ => trivial)⟩⟩ rfl rfl hl.1 rfl (lv_room (Nat.le_of_ble_eq_true rfl)) dX4_readHead_45 ⟨Nat.le_of_ble_eq_true rfl, Nat.le_of_ble_eq_true rfl⟩) hS (fun q _ h => hFc q h) hFc (fun r22 u t H1 locs ht hvm hw hB hz1 hk1 hS => ?_)
          obtain ⟨hP1, hK1, hD1⟩ := hB
          rw [ht] at hP1
          have hK1 := va_K.moved hvm.symm hK1
          obtain ⟨hP, hD⟩ := va_join (wr := [(a_d, .inr (8, [.ref b_sc, .ref b_sp, .ref b_cp, .ref b_sn, .ref b_sl, .int i_li, .int i_ed, .int i_se])), (a_tape, .inr (7, [.ref y_by, .int i_sz, .int i_lf])), (y_by, .inl (kB, 200, .inl g_by))]) (w1 := [(h0, .inr (4, [.ref a_tape, .ref a_d, .int y8, .int y9, .int y2, .int y10, .int 2]))]) hP hD [1] [0, 2, 3] rfl rfl (by decide) (by decide) hk1 hFc hP1 hD1
          have hK := (hK.sub (tys' := [(kB, .byte), (kB, .byte), (kB, .byte)]) [0, 1, 2] rfl).app hK1
          generalize H1 = H at hP hS ⊢
          have hP : va_P D vwCl [(a_d, .inr (8, [.ref b_sc, .ref b_sp, .ref b_cp, .ref b_sn, .ref b_sl, .int i_li, .int i_ed, .int i_se])), (a_tape, .inr (7, [.ref y_by, .int i_sz, .int i_lf])), (y_by, .inl (kB, 200, .inl g_by)), (h0, .inr (4, [.ref a_tape, .ref a_d, .int y8, .int y9, .int y2, .int y10, .int 2]))] H := hP
          have hD : va_D A [(a_d, .inr (8, [.ref b_sc, .ref b_sp, .ref b_cp, .ref b_sn, .ref b_sl, .int i_li, .int i_ed, .int i_se])), (a_tape, .inr (7, [.ref y_by, .int i_sz, .int i_lf])), (y_by, .inl (kB, 200, .inl g_by)), (h0, .inr (4, [.ref a_tape, .ref a_d, .int y8, .int y9, .int y2, .int y10, .int 2]))] := hD
          have hK : va_K D vwCl [(kB, .byte), (kB, .byte), (kB, .byte)] s := hK
          refine W.widen (k := 0) (n := 0) (Nat.le_of_ble_eq_true rfl) (Nat.le_of_ble_eq_true rfl) ?_
          obtain rfl : r22 = 0 := hw
          have hP9 := hP.sub (ws' := [(h0, .inr (4, [.ref a_tape, .ref a_d, .int y8, .int y9, .int y2, .int y10, .int 2])), (a_tape, .inr (7, [.ref y_by, .int i_sz, .int i_lf])), (y_by, .inl (kB, 200, .inl g_by)), (a_d, .inr (8, [.ref b_sc, .ref b_sp, .ref b_cp, .ref b_sn, .ref b_sl, .int i_li, .int i_ed, .int i_se]))]) [3, 1, 2, 0] rfl
          have hD9 := hD.sub (ws' := [(h0, .inr (4, [.ref a_tape, .ref a_d, .int y8, .int y9, .int y2, .int y10, .int 2])), (a_tape, .inr (7, [.ref y_by, .int i_sz, .int i_lf])), (y_by, .inl (kB, 200, .inl g_by)), (a_d, .inr (8, [.ref b_sc, .ref b_sp, .ref b_cp, .ref b_sn, .ref b_sl, .int i_li, .int i_ed, .int i_se]))]) [3, 1, 2, 0] (by decide) rfl
          have hK9 := hK.sub (tys' := [(kB, .byte)]) [0] rfl
          refine W.widen (k := 0) (n := 0) (Nat.le_of_ble_eq_true rfl) (Nat.le_of_ble_eq_true rfl) ?_
          exact W.zret (v := 0) (ty := .boolean) hx hb hr rfl (fun t ht hW => ⟨⟨0, (), rfl, ⟨Or.inl rfl, (by have hv : (0 : Int32).toInt = 0 := (by decide); omega)⟩, y8, y9, y2, y10, 2, i_li, i_ed, by rw [ht]; exact hP9, va_K.moved hW.alike hK9, hD9, (by have hz : (0 : Int32).toInt = 0 := (by decide); omega)⟩, hS.F ht⟩) hS.2.2 dX4_readHead_48
    · have nc12 : r7.toInt = 0 := pw_eq c12 rfl (by decide)
      refine lv_iconst (v := 0) hx hb dX4_readHead_23 (by decide) ?_
      have hP9 := hP.sub (ws' := [(h0, .inr (4, [.ref a_tape, .ref a_d, .int y8, .int y9, .int y2, .int y10, .int y11])), (a_tape, .inr (7, [.ref y_by, .int i_sz, .int i_lf])), (y_by, .inl (kB, 200, .inl g_by)), (a_d, .inr (8, [.ref b_sc, .ref b_sp, .ref b_cp, .ref b_sn, .ref b_sl, .int i_li, .int i_ed, .int i_se]))]) [1, 2, 3, 0] rfl
      have hD9 := hD.sub (ws' := [(h0, .inr (4, [.ref a_tape, .ref a_d, .int y8, .int y9, .int y2, .int y10, .int y11])), (a_tape, .inr (7, [.ref y_by, .int i_sz, .int i_lf])), (y_by, .inl (kB, 200, .inl g_by)), (a_d, .inr (8, [.ref b_sc, .ref b_sp, .ref b_cp, .ref b_sn, .ref b_sl, .int i_li, .int i_ed, .int i_se]))]) [1, 2, 3, 0] (by decide) rfl
      have hK9 := hK.sub (tys' := [(kB, .byte)]) [0] rfl
      refine W.widen (k := 0) (n := 0) (Nat.le_of_ble_eq_true rfl) (Nat.le_of_ble_eq_true rfl) ?_
      exact W.zret (v := 0) (ty := .boolean) hx hb hr rfl (fun t ht hW => ⟨⟨0, (), rfl, ⟨Or.inl rfl, (by have hv : (0 : Int32).toInt = 0 := (by decide); omega)⟩, y8, y9, y2, y10, y11, i_li, i_ed, by rw [ht]; exact hP9, va_K.moved hW.alike hK9, hD9, (by have hz : (0 : Int32).toInt = 0 := (by decide); omega)⟩, hS.F ht⟩) hS.2.2 dX4_readHead_24
def w_X4_kindOf : List Cond := .code yX4_kindOf cX4_kindOf 1 (some .int) :: ([])
set_option maxHeartbeats 4000000 in
set_option maxRecDepth 100000 in
theorem c_X4_kindOf (l : Launch) (D : va_G) (i_k : Int32) : Met l yX4_kindOf w_X4_kindOf ({ frames := 0, cells := 0, slots := 0, locals := 0 }) (va_Pc [.int i_k] (fun U => va_P D vwCl [] U.heap ∧ va_K D vwCl [] U)) (va_Qi (fun (r : Int32) (_ : Unit) => 0 ≤ r.toInt ∧ r.toInt ≤ 5 ∧ r.toInt = tKind i_k.toInt) (fun _ _ => True) (fun _ => False)) 0 0 (fun _ => False) := by
  refine Met.ofW (cc := cX4_kindOf) (maxL := 1) (ret := (some .int)) (by decide) rfl ?_
  intro p e s m args below meth c s₁ B hml hv
  obtain ⟨rfl, hP, hK⟩ := hv
  have hx := B.exec
  have hb := B.bytes
  have hr := B.returns
  have hts := atoms_spec (ws := w_X4_kindOf) B.pre
  have hown : s.vm.findClass RX4 = some m.cls := findClass_of_methodNamed B.named
  have hlocks := B.notSynchronized
  have hS : va_S (fun _ : Nat => False) s.heap s.heap [] := va_S.rf
  have hP : va_P D vwCl [] s.heap := hP
  have hl := lv_entry ([.int i_k]) (n := 1) (Nat.le_of_ble_eq_true rfl)
  rw [lg_entry_eq]
  generalize (lg_sl ([.int i_k]) ++ List.replicate (1 - (lg_sl ([.int i_k])).length) Slot.unset).toArray = ls at hl ⊢
  have hl : lv_has ls 1 [(0, .int i_k)] := hl
  obtain ⟨H, hHe⟩ : ∃ H : Heap, H = s.heap := ⟨_, rfl⟩
  rw [← hHe] at hP
  have hS : va_S (fun _ : Nat => False) s.heap H [] := by rw [hHe]; exact hS
  refine pw_heap hHe ?_
  refine lv_iload_n hx hb dX4_kindOf_0 rfl (lv_at hl 0 rfl) ?_
  by_cases hc98 : i_k = 98
  · subst hc98
    refine lv_lookup (off := 59) (tgt := 60) hx hb dX4_kindOf_1 (by decide) (by decide) (by decide) ?_
    refine lv_iconst (v := 5) hx hb dX4_kindOf_60 (by decide) ?_
    exact W.iret (v := 5) hx hb hr (fun t ht hW => ⟨⟨5, (), rfl, (by decide), trivial⟩, hS.F ht⟩) hS.2.2 dX4_kindOf_61
  by_cases hc104 : i_k = 104
  · subst hc104
    refine lv_lookup (off := 55) (tgt := 56) hx hb dX4_kindOf_1 (by decide) (by decide) (by decide) ?_
    refine lv_iconst (v := 3) hx hb dX4_kindOf_56 (by decide) ?_
    exact W.iret (v := 3) hx hb hr (fun t ht hW => ⟨⟨3, (), rfl, (by decide), trivial⟩, hS.F ht⟩) hS.2.2 dX4_kindOf_57
  by_cases hc112 : i_k = 112
  · subst hc112
    refine lv_lookup (off := 51) (tgt := 52) hx hb dX4_kindOf_1 (by decide) (by decide) (by decide) ?_
    refine lv_iconst (v := 1) hx hb dX4_kindOf_52 (by decide) ?_
    exact W.iret (v := 1) hx hb hr (fun t ht hW => ⟨⟨1, (), rfl, (by decide), trivial⟩, hS.F ht⟩) hS.2.2 dX4_kindOf_53
  by_cases hc114 : i_k = 114
  · subst hc114
    refine lv_lookup (off := 57) (tgt := 58) hx hb dX4_kindOf_1 (by decide) (by decide) (by decide) ?_
    refine lv_iconst (v := 4) hx hb dX4_kindOf_58 (by decide) ?_
    exact W.iret (v := 4) hx hb hr (fun t ht hW => ⟨⟨4, (), rfl, (by decide), trivial⟩, hS.F ht⟩) hS.2.2 dX4_kindOf_59
  by_cases hc115 : i_k = 115
  · subst hc115
    refine lv_lookup (off := 53) (tgt := 54) hx hb dX4_kindOf_1 (by decide) (by decide) (by decide) ?_
    refine lv_iconst (v := 2) hx hb dX4_kindOf_54 (by decide) ?_
    exact W.iret (v := 2) hx hb hr (fun t ht hW => ⟨⟨2, (), rfl, (by decide), trivial⟩, hS.F ht⟩) hS.2.2 dX4_kindOf_55
  refine lv_lookup (off := 61) (tgt := 62) hx hb dX4_kindOf_1 (by decide) ((lv_osw hc98 (by decide)).trans ((lv_osw hc104 (by decide)).trans ((lv_osw hc112 (by decide)).trans ((lv_osw hc114 (by decide)).trans ((lv_osw hc115 (by decide)).trans rfl))))) (by decide) ?_
  refine lv_iconst (v := 0) hx hb dX4_kindOf_62 (by decide) ?_
  exact W.iret (v := 0) hx hb hr (fun t ht hW => ⟨⟨0, (), rfl, ⟨by decide, by decide, (show (0 : Int32).toInt = _ from (tKind_no (lv_neT hc112 (by decide)) (lv_neT hc115 (by decide)) (lv_neT hc104 (by decide)) (lv_neT hc114 (by decide)) (lv_neT hc98 (by decide))).symm)⟩, trivial⟩, hS.F ht⟩) hS.2.2 dX4_kindOf_63
