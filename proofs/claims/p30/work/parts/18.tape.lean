theorem dX7_size_0 : decode cX7_size 0 = .ok (.aload_n 0, 1) := by decide +kernel
theorem dX7_size_1 : decode cX7_size 1 = .ok (.getfield 15, 3) := by decide +kernel
theorem dX7_size_4 : decode cX7_size 4 = .ok (.ireturn, 1) := by decide +kernel
theorem dX7_latestFault_0 : decode cX7_latestFault 0 = .ok (.aload_n 0, 1) := by decide +kernel
theorem dX7_latestFault_1 : decode cX7_latestFault 1 = .ok (.getfield 19, 3) := by decide +kernel
theorem dX7_latestFault_4 : decode cX7_latestFault 4 = .ok (.ireturn, 1) := by decide +kernel
theorem dX7_empty_0 : decode cX7_empty 0 = .ok (.aload_n 0, 1) := by decide +kernel
theorem dX7_empty_1 : decode cX7_empty 1 = .ok (.iconst 0, 1) := by decide +kernel
theorem dX7_empty_2 : decode cX7_empty 2 = .ok (.putfield 15, 3) := by decide +kernel
theorem dX7_empty_5 : decode cX7_empty 5 = .ok (.return_, 1) := by decide +kernel
theorem dX7_noteFault_0 : decode cX7_noteFault 0 = .ok (.aload_n 0, 1) := by decide +kernel
theorem dX7_noteFault_1 : decode cX7_noteFault 1 = .ok (.iload_n 1, 1) := by decide +kernel
theorem dX7_noteFault_2 : decode cX7_noteFault 2 = .ok (.putfield 19, 3) := by decide +kernel
theorem dX7_noteFault_5 : decode cX7_noteFault 5 = .ok (.return_, 1) := by decide +kernel
theorem dX0_size_0 : decode cX0_size 0 = .ok (.aload_n 0, 1) := by decide +kernel
theorem dX0_size_1 : decode cX0_size 1 = .ok (.getfield 17, 3) := by decide +kernel
theorem dX0_size_4 : decode cX0_size 4 = .ok (.ireturn, 1) := by decide +kernel
theorem dX0_forget_0 : decode cX0_forget 0 = .ok (.aload_n 0, 1) := by decide +kernel
theorem dX0_forget_1 : decode cX0_forget 1 = .ok (.iconst 0, 1) := by decide +kernel
theorem dX0_forget_2 : decode cX0_forget 2 = .ok (.putfield 17, 3) := by decide +kernel
theorem dX0_forget_5 : decode cX0_forget 5 = .ok (.return_, 1) := by decide +kernel
theorem dX9_fault_0 : decode cX9_fault 0 = .ok (.aload_n 0, 1) := by decide +kernel
theorem dX9_fault_1 : decode cX9_fault 1 = .ok (.getfield 10, 3) := by decide +kernel
theorem dX9_fault_4 : decode cX9_fault 4 = .ok (.invokevirtual 129, 3) := by decide +kernel
theorem dX9_fault_7 : decode cX9_fault 7 = .ok (.ireturn, 1) := by decide +kernel
theorem dX9_count_0 : decode cX9_count 0 = .ok (.iload_n 1, 1) := by decide +kernel
theorem dX9_count_1 : decode cX9_count 1 = .ok (.tableswitch 99 0 6 #[43, 51, 59, 67, 75, 83, 91], 43) := by decide +kernel
theorem dX9_count_44 : decode cX9_count 44 = .ok (.aload_n 0, 1) := by decide +kernel
theorem dX9_count_45 : decode cX9_count 45 = .ok (.getfield 19, 3) := by decide +kernel
theorem dX9_count_48 : decode cX9_count 48 = .ok (.invokevirtual 248, 3) := by decide +kernel
theorem dX9_count_51 : decode cX9_count 51 = .ok (.ireturn, 1) := by decide +kernel
theorem dX9_count_52 : decode cX9_count 52 = .ok (.aload_n 0, 1) := by decide +kernel
theorem dX9_count_53 : decode cX9_count 53 = .ok (.getfield 19, 3) := by decide +kernel
theorem dX9_count_56 : decode cX9_count 56 = .ok (.invokevirtual 126, 3) := by decide +kernel
theorem dX9_count_59 : decode cX9_count 59 = .ok (.ireturn, 1) := by decide +kernel
theorem dX9_count_60 : decode cX9_count 60 = .ok (.aload_n 0, 1) := by decide +kernel
theorem dX9_count_61 : decode cX9_count 61 = .ok (.getfield 19, 3) := by decide +kernel
theorem dX9_count_64 : decode cX9_count 64 = .ok (.invokevirtual 339, 3) := by decide +kernel
theorem dX9_count_67 : decode cX9_count 67 = .ok (.ireturn, 1) := by decide +kernel
theorem dX9_count_68 : decode cX9_count 68 = .ok (.aload_n 0, 1) := by decide +kernel
theorem dX9_count_69 : decode cX9_count 69 = .ok (.getfield 19, 3) := by decide +kernel
theorem dX9_count_72 : decode cX9_count 72 = .ok (.invokevirtual 188, 3) := by decide +kernel
theorem dX9_count_75 : decode cX9_count 75 = .ok (.ireturn, 1) := by decide +kernel
theorem dX9_count_76 : decode cX9_count 76 = .ok (.aload_n 0, 1) := by decide +kernel
theorem dX9_count_77 : decode cX9_count 77 = .ok (.getfield 19, 3) := by decide +kernel
theorem dX9_count_80 : decode cX9_count 80 = .ok (.invokevirtual 194, 3) := by decide +kernel
theorem dX9_count_83 : decode cX9_count 83 = .ok (.ireturn, 1) := by decide +kernel
theorem dX9_count_84 : decode cX9_count 84 = .ok (.aload_n 0, 1) := by decide +kernel
theorem dX9_count_85 : decode cX9_count 85 = .ok (.getfield 38, 3) := by decide +kernel
theorem dX9_count_88 : decode cX9_count 88 = .ok (.invokevirtual 136, 3) := by decide +kernel
theorem dX9_count_91 : decode cX9_count 91 = .ok (.ireturn, 1) := by decide +kernel
theorem dX9_count_92 : decode cX9_count 92 = .ok (.aload_n 0, 1) := by decide +kernel
theorem dX9_count_93 : decode cX9_count 93 = .ok (.getfield 10, 3) := by decide +kernel
theorem dX9_count_96 : decode cX9_count 96 = .ok (.invokevirtual 93, 3) := by decide +kernel
theorem dX9_count_99 : decode cX9_count 99 = .ok (.ireturn, 1) := by decide +kernel
theorem dX9_count_100 : decode cX9_count 100 = .ok (.ldc 88, 2) := by decide +kernel
theorem dX9_count_102 : decode cX9_count 102 = .ok (.ireturn, 1) := by decide +kernel
def w_X7_size : List Cond := .code yX7_size cX7_size 1 (some .int) :: ([.fieldLink RX7 15 "LineCites$Tape" "size" "I"] ++ wsX70)
set_option maxHeartbeats 4000000 in
set_option maxRecDepth 100000 in
theorem c_X7_size (l : Launch) (D : va_G) (h0 : Nat) (y_by : Nat) (i_sz : Int32) (i_lf : Int32) : Met l yX7_size w_X7_size ({ frames := 0, cells := 0, slots := 0, locals := 0 }) (va_Pc [.ref h0] (fun U => va_P D vwCl [(h0, .inr (7, [.ref y_by, .int i_sz, .int i_lf]))] U.heap ∧ va_K D vwCl [] U)) (va_Qi (fun (r : Int32) (_ : Unit) => r = i_sz) (fun _ _ => True) (fun _ => False)) 0 0 (fun _ => False) := by
  refine Met.ofW (cc := cX7_size) (maxL := 1) (ret := (some .int)) (by decide) rfl ?_
  intro p e s m args below meth c s₁ B hml hv
  obtain ⟨rfl, hP, hK⟩ := hv
  have hx := B.exec
  have hb := B.bytes
  have hr := B.returns
  have hts := atoms_spec (ws := w_X7_size) B.pre
  have hown : s.vm.findClass RX7 = some m.cls := findClass_of_methodNamed B.named
  have hlocks := B.notSynchronized
  have hS : va_S (fun _ : Nat => False) s.heap s.heap [] := va_S.rf
  have hP : va_P D vwCl [(h0, .inr (7, [.ref y_by, .int i_sz, .int i_lf]))] s.heap := hP
  have hl := lv_entry ([.ref h0]) (n := 1) (Nat.le_of_ble_eq_true rfl)
  rw [lg_entry_eq]
  generalize (lg_sl ([.ref h0]) ++ List.replicate (1 - (lg_sl ([.ref h0])).length) Slot.unset).toArray = ls at hl ⊢
  have hl : lv_has ls 1 [(0, .ref h0)] := hl
  obtain ⟨H, hHe⟩ : ∃ H : Heap, H = s.heap := ⟨_, rfl⟩
  rw [← hHe] at hP
  have hS : va_S (fun _ : Nat => False) s.heap H [] := by rw [hHe]; exact hS
  refine pw_heap hHe ?_
  refine lv_aload_n hx hb dX7_size_0 rfl (lv_at hl 0 rfl) ?_
  refine va_get (D := D) (ci := 7) (v := .int i_sz) (C := RX7) (T := TX7) (N := 3) hx hb hts (fun _ h => List.mem_cons_of_mem _ (List.mem_append_right _ h)) hown hK hP 0 rfl rfl 1 (by decide) (hts (.fieldLink RX7 15 "LineCites$Tape" "size" "I") (List.mem_of_getElem? (i := 1) rfl)) (fun _ h9 => h9) rfl dX7_size_1 ?_
  exact W.iret (v := i_sz) hx hb hr (fun t ht hW => ⟨⟨i_sz, (), rfl, rfl, trivial⟩, hS.F ht⟩) hS.2.2 dX7_size_4
def w_X7_latestFault : List Cond := .code yX7_latestFault cX7_latestFault 1 (some .int) :: ([.fieldLink RX7 19 "LineCites$Tape" "latestFault" "I"] ++ wsX70)
set_option maxHeartbeats 4000000 in
set_option maxRecDepth 100000 in
theorem c_X7_latestFault (l : Launch) (D : va_G) (h0 : Nat) (y_by : Nat) (i_sz : Int32) (i_lf : Int32) : Met l yX7_latestFault w_X7_latestFault ({ frames := 0, cells := 0, slots := 0, locals := 0 }) (va_Pc [.ref h0] (fun U => va_P D vwCl [(h0, .inr (7, [.ref y_by, .int i_sz, .int i_lf]))] U.heap ∧ va_K D vwCl [] U)) (va_Qi (fun (r : Int32) (_ : Unit) => r = i_lf) (fun _ _ => True) (fun _ => False)) 0 0 (fun _ => False) := by
  refine Met.ofW (cc := cX7_latestFault) (maxL := 1) (ret := (some .int)) (by decide) rfl ?_
  intro p e s m args below meth c s₁ B hml hv
  obtain ⟨rfl, hP, hK⟩ := hv
  have hx := B.exec
  have hb := B.bytes
  have hr := B.returns
  have hts := atoms_spec (ws := w_X7_latestFault) B.pre
  have hown : s.vm.findClass RX7 = some m.cls := findClass_of_methodNamed B.named
  have hlocks := B.notSynchronized
  have hS : va_S (fun _ : Nat => False) s.heap s.heap [] := va_S.rf
  have hP : va_P D vwCl [(h0, .inr (7, [.ref y_by, .int i_sz, .int i_lf]))] s.heap := hP
  have hl := lv_entry ([.ref h0]) (n := 1) (Nat.le_of_ble_eq_true rfl)
  rw [lg_entry_eq]
  generalize (lg_sl ([.ref h0]) ++ List.replicate (1 - (lg_sl ([.ref h0])).length) Slot.unset).toArray = ls at hl ⊢
  have hl : lv_has ls 1 [(0, .ref h0)] := hl
  obtain ⟨H, hHe⟩ : ∃ H : Heap, H = s.heap := ⟨_, rfl⟩
  rw [← hHe] at hP
  have hS : va_S (fun _ : Nat => False) s.heap H [] := by rw [hHe]; exact hS
  refine pw_heap hHe ?_
  refine lv_aload_n hx hb dX7_latestFault_0 rfl (lv_at hl 0 rfl) ?_
  refine va_get (D := D) (ci := 7) (v := .int i_lf) (C := RX7) (T := TX7) (N := 3) hx hb hts (fun _ h => List.mem_cons_of_mem _ (List.mem_append_right _ h)) hown hK hP 0 rfl rfl 2 (by decide) (hts (.fieldLink RX7 19 "LineCites$Tape" "latestFault" "I") (List.mem_of_getElem? (i := 1) rfl)) (fun _ h9 => h9) rfl dX7_latestFault_1 ?_
  exact W.iret (v := i_lf) hx hb hr (fun t ht hW => ⟨⟨i_lf, (), rfl, rfl, trivial⟩, hS.F ht⟩) hS.2.2 dX7_latestFault_4
def w_X7_empty : List Cond := .code yX7_empty cX7_empty 1 none :: ([.fieldLink RX7 15 "LineCites$Tape" "size" "I"] ++ wsX70)
set_option maxHeartbeats 4000000 in
set_option maxRecDepth 100000 in
theorem c_X7_empty (l : Launch) (D : va_G) (h0 : Nat) (y_by : Nat) (i_sz : Int32) (i_lf : Int32) (sz : Nat) : Met l yX7_empty w_X7_empty ({ frames := 0, cells := 0, slots := 0, locals := 0 }) (va_Pc [.ref h0] (fun U => U.heap.size = sz ∧ va_P D vwCl [(h0, .inr (7, [.ref y_by, .int i_sz, .int i_lf]))] U.heap ∧ va_K D vwCl [] U ∧ va_D (fun _ => True) [(h0, .inr (7, [.ref y_by, .int i_sz, .int i_lf]))])) (va_Qv (fun (_ : Unit) => True) (fun (_ : Unit) t => va_P D vwCl [(h0, .inr (7, [.ref y_by, .int 0, .int i_lf]))] t.heap ∧ va_K D vwCl [] t ∧ va_D (va_A [(h0, .inr (7, [.ref y_by, .int i_sz, .int i_lf]))] sz) [(h0, .inr (7, [.ref y_by, .int 0, .int i_lf]))]) (va_A [(h0, .inr (7, [.ref y_by, .int i_sz, .int i_lf]))] sz)) 0 0 (va_A [(h0, .inr (7, [.ref y_by, .int i_sz, .int i_lf]))] sz) := by
  refine Met.ofW (cc := cX7_empty) (maxL := 1) (ret := none) (by decide) rfl ?_
  intro p e s m args below meth c s₁ B hml hv
  obtain ⟨rfl, hsz, hP, hK, hD0⟩ := hv
  have hx := B.exec
  have hb := B.bytes
  have hr := B.returns
  have hts := atoms_spec (ws := w_X7_empty) B.pre
  have hown : s.vm.findClass RX7 = some m.cls := findClass_of_methodNamed B.named
  have hlocks := B.notSynchronized
  subst hsz
  have hD := hD0.self (sz := s.heap.size)
  generalize hAe : va_A [(h0, .inr (7, [.ref y_by, .int i_sz, .int i_lf]))] s.heap.size = A at hD ⊢
  have hA : ∀ q : Nat, s.heap.size ≤ q → A q := fun q h => by rw [← hAe]; exact Or.inr h
  have hS : va_S A s.heap s.heap [] := va_S.rf
  have hP : va_P D vwCl [(h0, .inr (7, [.ref y_by, .int i_sz, .int i_lf]))] s.heap := hP
  have hl := lv_entry ([.ref h0]) (n := 1) (Nat.le_of_ble_eq_true rfl)
  rw [lg_entry_eq]
  generalize (lg_sl ([.ref h0]) ++ List.replicate (1 - (lg_sl ([.ref h0])).length) Slot.unset).toArray = ls at hl ⊢
  have hl : lv_has ls 1 [(0, .ref h0)] := hl
  obtain ⟨H, hHe⟩ : ∃ H : Heap, H = s.heap := ⟨_, rfl⟩
  rw [← hHe] at hP
  have hS : va_S A s.heap H [] := by rw [hHe]; exact hS
  refine pw_heap hHe ?_
  refine lv_aload_n hx hb dX7_empty_0 rfl (lv_at hl 0 rfl) ?_
  refine lv_iconst (v := 0) hx hb dX7_empty_1 (by decide) ?_
  refine va_put (D := D) (ci := 7) (v := .int 0) (ty := .int) (C := RX7) (T := TX7) (N := 3) hx hb hts (fun _ h => List.mem_cons_of_mem _ (List.mem_append_right _ h)) tyX7 tyX7_ok nmX7 hown hK hP hD hS 0 rfl rfl 1 (by decide) (hts (.fieldLink RX7 15 "LineCites$Tape" "size" "I") (List.mem_of_getElem? (i := 1) rfl)) (fun _ h9 => h9) rfl (by decide +kernel) rfl rfl (Nat.le_of_ble_eq_true rfl) dX7_empty_2 (fun H locs hP hD hS => ?_)
  have hP : va_P D vwCl [(h0, .inr (7, [.ref y_by, .int 0, .int i_lf]))] H := hP
  have hD : va_D A [(h0, .inr (7, [.ref y_by, .int 0, .int i_lf]))] := hD
  have hK : va_K D vwCl [] s := hK
  have hP9 := hP.sub (ws' := [(h0, .inr (7, [.ref y_by, .int 0, .int i_lf]))]) [0] rfl
  have hD9 := hD.sub (ws' := [(h0, .inr (7, [.ref y_by, .int 0, .int i_lf]))]) [0] (by decide) rfl
  have hK9 := hK.sub (tys' := []) [] rfl
  refine W.widen (k := 0) (n := 0) (Nat.le_of_ble_eq_true rfl) (Nat.le_of_ble_eq_true rfl) ?_
  exact W.vret hx hb hr (fun t ht hW => ⟨⟨(), rfl, trivial, by rw [ht]; exact hP9, va_K.moved hW.alike hK9, hD9⟩, hS.F ht⟩) hS.2.2 dX7_empty_5
def w_X7_noteFault : List Cond := .code yX7_noteFault cX7_noteFault 2 none :: ([.fieldLink RX7 19 "LineCites$Tape" "latestFault" "I"] ++ wsX70)
set_option maxHeartbeats 4000000 in
set_option maxRecDepth 100000 in
theorem c_X7_noteFault (l : Launch) (D : va_G) (h0 : Nat) (i_n : Int32) (y_by : Nat) (i_sz : Int32) (i_lf : Int32) (sz : Nat) : Met l yX7_noteFault w_X7_noteFault ({ frames := 0, cells := 0, slots := 0, locals := 0 }) (va_Pc [.ref h0, .int i_n] (fun U => U.heap.size = sz ∧ va_P D vwCl [(h0, .inr (7, [.ref y_by, .int i_sz, .int i_lf]))] U.heap ∧ va_K D vwCl [] U ∧ va_D (fun _ => True) [(h0, .inr (7, [.ref y_by, .int i_sz, .int i_lf]))])) (va_Qv (fun (_ : Unit) => True) (fun (_ : Unit) t => va_P D vwCl [(h0, .inr (7, [.ref y_by, .int i_sz, .int i_n]))] t.heap ∧ va_K D vwCl [] t ∧ va_D (va_A [(h0, .inr (7, [.ref y_by, .int i_sz, .int i_lf]))] sz) [(h0, .inr (7, [.ref y_by, .int i_sz, .int i_n]))]) (va_A [(h0, .inr (7, [.ref y_by, .int i_sz, .int i_lf]))] sz)) 0 0 (va_A [(h0, .inr (7, [.ref y_by, .int i_sz, .int i_lf]))] sz) := by
  refine Met.ofW (cc := cX7_noteFault) (maxL := 2) (ret := none) (by decide) rfl ?_
  intro p e s m args below meth c s₁ B hml hv
  obtain ⟨rfl, hsz, hP, hK, hD0⟩ := hv
  have hx := B.exec
  have hb := B.bytes
  have hr := B.returns
  have hts := atoms_spec (ws := w_X7_noteFault) B.pre
  have hown : s.vm.findClass RX7 = some m.cls := findClass_of_methodNamed B.named
  have hlocks := B.notSynchronized
  subst hsz
  have hD := hD0.self (sz := s.heap.size)
  generalize hAe : va_A [(h0, .inr (7, [.ref y_by, .int i_sz, .int i_lf]))] s.heap.size = A at hD ⊢
  have hA : ∀ q : Nat, s.heap.size ≤ q → A q := fun q h => by rw [← hAe]; exact Or.inr h
  have hS : va_S A s.heap s.heap [] := va_S.rf
  have hP : va_P D vwCl [(h0, .inr (7, [.ref y_by, .int i_sz, .int i_lf]))] s.heap := hP
  have hl := lv_entry ([.ref h0, .int i_n]) (n := 2) (Nat.le_of_ble_eq_true rfl)
  rw [lg_entry_eq]
  generalize (lg_sl ([.ref h0, .int i_n]) ++ List.replicate (2 - (lg_sl ([.ref h0, .int i_n])).length) Slot.unset).toArray = ls at hl ⊢
  have hl : lv_has ls 2 [(0, .ref h0), (1, .int i_n)] := hl
  obtain ⟨H, hHe⟩ : ∃ H : Heap, H = s.heap := ⟨_, rfl⟩
  rw [← hHe] at hP
  have hS : va_S A s.heap H [] := by rw [hHe]; exact hS
  refine pw_heap hHe ?_
  refine lv_aload_n hx hb dX7_noteFault_0 rfl (lv_at hl 0 rfl) ?_
  refine lv_iload_n hx hb dX7_noteFault_1 rfl (lv_at hl 1 rfl) ?_
  refine va_put (D := D) (ci := 7) (v := .int i_n) (ty := .int) (C := RX7) (T := TX7) (N := 3) hx hb hts (fun _ h => List.mem_cons_of_mem _ (List.mem_append_right _ h)) tyX7 tyX7_ok nmX7 hown hK hP hD hS 0 rfl rfl 2 (by decide) (hts (.fieldLink RX7 19 "LineCites$Tape" "latestFault" "I") (List.mem_of_getElem? (i := 1) rfl)) (fun _ h9 => h9) rfl (by decide +kernel) rfl rfl (Nat.le_of_ble_eq_true rfl) dX7_noteFault_2 (fun H locs hP hD hS => ?_)
  have hP : va_P D vwCl [(h0, .inr (7, [.ref y_by, .int i_sz, .int i_n]))] H := hP
  have hD : va_D A [(h0, .inr (7, [.ref y_by, .int i_sz, .int i_n]))] := hD
  have hK : va_K D vwCl [] s := hK
  have hP9 := hP.sub (ws' := [(h0, .inr (7, [.ref y_by, .int i_sz, .int i_n]))]) [0] rfl
  have hD9 := hD.sub (ws' := [(h0, .inr (7, [.ref y_by, .int i_sz, .int i_n]))]) [0] (by decide) rfl
  have hK9 := hK.sub (tys' := []) [] rfl
  refine W.widen (k := 0) (n := 0) (Nat.le_of_ble_eq_true rfl) (Nat.le_of_ble_eq_true rfl) ?_
  exact W.vret hx hb hr (fun t ht hW => ⟨⟨(), rfl, trivial, by rw [ht]; exact hP9, va_K.moved hW.alike hK9, hD9⟩, hS.F ht⟩) hS.2.2 dX7_noteFault_5
def w_X0_size : List Cond := .code yX0_size cX0_size 1 (some .int) :: ([.fieldLink RX0 17 "LineCites$Acts" "size" "I"] ++ wsX00)
set_option maxHeartbeats 4000000 in
set_option maxRecDepth 100000 in
theorem c_X0_size (l : Launch) (D : va_G) (h0 : Nat) (a_ring : Nat) (i_nx : Int32) (i_as : Int32) : Met l yX0_size w_X0_size ({ frames := 0, cells := 0, slots := 0, locals := 0 }) (va_Pc [.ref h0] (fun U => va_P D vwCl [(h0, .inr (0, [.ref a_ring, .int i_nx, .int i_as]))] U.heap ∧ va_K D vwCl [] U)) (va_Qi (fun (r : Int32) (_ : Unit) => r = i_as) (fun _ _ => True) (fun _ => False)) 0 0 (fun _ => False) := by
  refine Met.ofW (cc := cX0_size) (maxL := 1) (ret := (some .int)) (by decide) rfl ?_
  intro p e s m args below meth c s₁ B hml hv
  obtain ⟨rfl, hP, hK⟩ := hv
  have hx := B.exec
  have hb := B.bytes
  have hr := B.returns
  have hts := atoms_spec (ws := w_X0_size) B.pre
  have hown : s.vm.findClass RX0 = some m.cls := findClass_of_methodNamed B.named
  have hlocks := B.notSynchronized
  have hS : va_S (fun _ : Nat => False) s.heap s.heap [] := va_S.rf
  have hP : va_P D vwCl [(h0, .inr (0, [.ref a_ring, .int i_nx, .int i_as]))] s.heap := hP
  have hl := lv_entry ([.ref h0]) (n := 1) (Nat.le_of_ble_eq_true rfl)
  rw [lg_entry_eq]
  generalize (lg_sl ([.ref h0]) ++ List.replicate (1 - (lg_sl ([.ref h0])).length) Slot.unset).toArray = ls at hl ⊢
  have hl : lv_has ls 1 [(0, .ref h0)] := hl
  obtain ⟨H, hHe⟩ : ∃ H : Heap, H = s.heap := ⟨_, rfl⟩
  rw [← hHe] at hP
  have hS : va_S (fun _ : Nat => False) s.heap H [] := by rw [hHe]; exact hS
  refine pw_heap hHe ?_
  refine lv_aload_n hx hb dX0_size_0 rfl (lv_at hl 0 rfl) ?_
  refine va_get (D := D) (ci := 0) (v := .int i_as) (C := RX0) (T := TX0) (N := 3) hx hb hts (fun _ h => List.mem_cons_of_mem _ (List.mem_append_right _ h)) hown hK hP 0 rfl rfl 2 (by decide) (hts (.fieldLink RX0 17 "LineCites$Acts" "size" "I") (List.mem_of_getElem? (i := 1) rfl)) (fun _ h9 => h9) rfl dX0_size_1 ?_
  exact W.iret (v := i_as) hx hb hr (fun t ht hW => ⟨⟨i_as, (), rfl, rfl, trivial⟩, hS.F ht⟩) hS.2.2 dX0_size_4
def w_X0_forget : List Cond := .code yX0_forget cX0_forget 1 none :: ([.fieldLink RX0 17 "LineCites$Acts" "size" "I"] ++ wsX00)
set_option maxHeartbeats 4000000 in
set_option maxRecDepth 100000 in
theorem c_X0_forget (l : Launch) (D : va_G) (h0 : Nat) (a_ring : Nat) (i_nx : Int32) (i_as : Int32) (sz : Nat) : Met l yX0_forget w_X0_forget ({ frames := 0, cells := 0, slots := 0, locals := 0 }) (va_Pc [.ref h0] (fun U => U.heap.size = sz ∧ va_P D vwCl [(h0, .inr (0, [.ref a_ring, .int i_nx, .int i_as]))] U.heap ∧ va_K D vwCl [] U ∧ va_D (fun _ => True) [(h0, .inr (0, [.ref a_ring, .int i_nx, .int i_as]))])) (va_Qv (fun (_ : Unit) => True) (fun (_ : Unit) t => va_P D vwCl [(h0, .inr (0, [.ref a_ring, .int i_nx, .int 0]))] t.heap ∧ va_K D vwCl [] t ∧ va_D (va_A [(h0, .inr (0, [.ref a_ring, .int i_nx, .int i_as]))] sz) [(h0, .inr (0, [.ref a_ring, .int i_nx, .int 0]))]) (va_A [(h0, .inr (0, [.ref a_ring, .int i_nx, .int i_as]))] sz)) 0 0 (va_A [(h0, .inr (0, [.ref a_ring, .int i_nx, .int i_as]))] sz) := by
  refine Met.ofW (cc := cX0_forget) (maxL := 1) (ret := none) (by decide) rfl ?_
  intro p e s m args below meth c s₁ B hml hv
  obtain ⟨rfl, hsz, hP, hK, hD0⟩ := hv
  have hx := B.exec
  have hb := B.bytes
  have hr := B.returns
  have hts := atoms_spec (ws := w_X0_forget) B.pre
  have hown : s.vm.findClass RX0 = some m.cls := findClass_of_methodNamed B.named
  have hlocks := B.notSynchronized
  subst hsz
  have hD := hD0.self (sz := s.heap.size)
  generalize hAe : va_A [(h0, .inr (0, [.ref a_ring, .int i_nx, .int i_as]))] s.heap.size = A at hD ⊢
  have hA : ∀ q : Nat, s.heap.size ≤ q → A q := fun q h => by rw [← hAe]; exact Or.inr h
  have hS : va_S A s.heap s.heap [] := va_S.rf
  have hP : va_P D vwCl [(h0, .inr (0, [.ref a_ring, .int i_nx, .int i_as]))] s.heap := hP
  have hl := lv_entry ([.ref h0]) (n := 1) (Nat.le_of_ble_eq_true rfl)
  rw [lg_entry_eq]
  generalize (lg_sl ([.ref h0]) ++ List.replicate (1 - (lg_sl ([.ref h0])).length) Slot.unset).toArray = ls at hl ⊢
  have hl : lv_has ls 1 [(0, .ref h0)] := hl
  obtain ⟨H, hHe⟩ : ∃ H : Heap, H = s.heap := ⟨_, rfl⟩
  rw [← hHe] at hP
  have hS : va_S A s.heap H [] := by rw [hHe]; exact hS
  refine pw_heap hHe ?_
  refine lv_aload_n hx hb dX0_forget_0 rfl (lv_at hl 0 rfl) ?_
  refine lv_iconst (v := 0) hx hb dX0_forget_1 (by decide) ?_
  refine va_put (D := D) (ci := 0) (v := .int 0) (ty := .int) (C := RX0) (T := TX0) (N := 3) hx hb hts (fun _ h => List.mem_cons_of_mem _ (List.mem_append_right _ h)) tyX0 tyX0_ok nmX0 hown hK hP hD hS 0 rfl rfl 2 (by decide) (hts (.fieldLink RX0 17 "LineCites$Acts" "size" "I") (List.mem_of_getElem? (i := 1) rfl)) (fun _ h9 => h9) rfl (by decide +kernel) rfl rfl (Nat.le_of_ble_eq_true rfl) dX0_forget_2 (fun H locs hP hD hS => ?_)
  have hP : va_P D vwCl [(h0, .inr (0, [.ref a_ring, .int i_nx, .int 0]))] H := hP
  have hD : va_D A [(h0, .inr (0, [.ref a_ring, .int i_nx, .int 0]))] := hD
  have hK : va_K D vwCl [] s := hK
  have hP9 := hP.sub (ws' := [(h0, .inr (0, [.ref a_ring, .int i_nx, .int 0]))]) [0] rfl
  have hD9 := hD.sub (ws' := [(h0, .inr (0, [.ref a_ring, .int i_nx, .int 0]))]) [0] (by decide) rfl
  have hK9 := hK.sub (tys' := []) [] rfl
  refine W.widen (k := 0) (n := 0) (Nat.le_of_ble_eq_true rfl) (Nat.le_of_ble_eq_true rfl) ?_
  exact W.vret hx hb hr (fun t ht hW => ⟨⟨(), rfl, trivial, by rw [ht]; exact hP9, va_K.moved hW.alike hK9, hD9⟩, hS.F ht⟩) hS.2.2 dX0_forget_5
def w_X9_fault : List Cond := .code yX9_fault cX9_fault 1 (some .int) :: ([.fieldLink RX9 10 "LineCites" "tape" "LLineCites$Tape;", .methodLink RX9 129 yX7_latestFault, .instanceMethod yX7_latestFault, .selects RX7 yX7_latestFault yX7_latestFault, .initialized RX7, .code yX7_latestFault cX7_latestFault 1 (some .int), .fieldLink RX7 19 "LineCites$Tape" "latestFault" "I"] ++ wsX90 ++ wsX70)
set_option maxRecDepth 20000 in
theorem g_X9_fault_X7_latestFault : GoodIn w_X9_fault (wsV RX9 129 RX7 yX7_latestFault w_X7_latestFault) := goodIn_r _ [2, 3, 4, 5, 6, 7, 22, 23, 24] rfl (by decide +kernel)
set_option maxHeartbeats 4000000 in
set_option maxRecDepth 100000 in
theorem c_X9_fault (l : Launch) (D : va_G) (h0 : Nat) (a_tape : Nat) (a_now : Nat) (a_draft : Nat) (a_reader : Nat) (a_acts : Nat) (a_images : Nat) (a_one : Nat) (a_other : Nat) (a_third : Nat) (a_spans : Nat) (a_back : Nat) (a_span : Nat) (a_middle : Nat) (a_reached : Nat) (y_by : Nat) (i_sz : Int32) (i_lf : Int32) : Met l yX9_fault w_X9_fault ({ frames := 1, cells := 0, slots := 0, locals := 20 }) (va_Pc [.ref h0] (fun U => va_P D vwCl [(h0, .inr (9, [.ref a_tape, .ref a_now, .ref a_draft, .ref a_reader, .ref a_acts, .ref a_images, .ref a_one, .ref a_other, .ref a_third, .ref a_spans, .ref a_back, .ref a_span, .ref a_middle, .ref a_reached])), (a_tape, .inr (7, [.ref y_by, .int i_sz, .int i_lf]))] U.heap ∧ va_K D vwCl [] U)) (va_Qi (fun (r : Int32) (_ : Unit) => True) (fun _ _ => True) (fun _ => False)) 0 0 (fun _ => False) := by
  refine Met.ofW (cc := cX9_fault) (maxL := 1) (ret := (some .int)) (by decide) rfl ?_
  intro p e s m args below meth c s₁ B hml hv
  obtain ⟨rfl, hP, hK⟩ := hv
  have hx := B.exec
  have hb := B.bytes
  have hr := B.returns
  have hts := atoms_spec (ws := w_X9_fault) B.pre
  have hown : s.vm.findClass RX9 = some m.cls := findClass_of_methodNamed B.named
  have hlocks := B.notSynchronized
  have hS : va_S (fun _ : Nat => False) s.heap s.heap [] := va_S.rf
  have hP : va_P D vwCl [(h0, .inr (9, [.ref a_tape, .ref a_now, .ref a_draft, .ref a_reader, .ref a_acts, .ref a_images, .ref a_one, .ref a_other, .ref a_third, .ref a_spans, .ref a_back, .ref a_span, .ref a_middle, .ref a_reached])), (a_tape, .inr (7, [.ref y_by, .int i_sz, .int i_lf]))] s.heap := hP
  have hl := lv_entry ([.ref h0]) (n := 1) (Nat.le_of_ble_eq_true rfl)
  rw [lg_entry_eq]
  generalize (lg_sl ([.ref h0]) ++ List.replicate (1 - (lg_sl ([.ref h0])).length) Slot.unset).toArray = ls at hl ⊢
  have hl : lv_has ls 1 [(0, .ref h0)] := hl
  obtain ⟨H, hHe⟩ : ∃ H : Heap, H = s.heap := ⟨_, rfl⟩
  rw [← hHe] at hP
  have hS : va_S (fun _ : Nat => False) s.heap H [] := by rw [hHe]; exact hS
  refine pw_heap hHe ?_
  refine lv_aload_n hx hb dX9_fault_0 rfl (lv_at hl 0 rfl) ?_
  refine va_get (D := D) (ci := 9) (v := .ref a_tape) (C := RX9) (T := TX9) (N := 14) hx hb hts (fun _ h => List.mem_cons_of_mem _ (List.mem_append_left _ (List.mem_append_right _ h))) hown hK hP 0 rfl rfl 0 (by decide) (hts (.fieldLink RX9 10 "LineCites" "tape" "LLineCites$Tape;") (List.mem_of_getElem? (i := 1) rfl)) (fun _ h9 => h9) rfl dX9_fault_1 ?_
  have hPc := hP.sub (ws' := [(a_tape, .inr (7, [.ref y_by, .int i_sz, .int i_lf]))]) [1] rfl
  have hKc := hK.sub (tys' := []) [] rfl
  refine va_calli (va_runV (As := []) (rest := []) ⟨hx, hb, hml, hown, hts⟩ (c_X7_latestFault l D a_tape y_by i_sz i_lf) (cwV 0 hts g_X9_fault_X7_latestFault rfl rfl rfl (by decide +kernel) ⟨Nat.le_of_ble_eq_true rfl, Nat.le_of_ble_eq_true rfl⟩) ⟨fun a U g mk q => by obtain ⟨q0, qP, qK⟩ := q; exact ⟨q0, qP, va_K.moved (u := U) (U := U.calling g mk a) (Vm.Alike.refl U.vm) qK⟩, va_recv hKc hPc (ci := 7) (q0 := 0) rfl rfl, fun U hU hW => ⟨rfl, by rw [hU]; exact hPc, va_K.moved hW.alike hKc⟩⟩ rfl rfl hl.1 rfl (lv_room (Nat.le_of_ble_eq_true rfl)) dX9_fault_4 ⟨Nat.le_of_ble_eq_true rfl, Nat.le_of_ble_eq_true rfl⟩) hS (fun _ _ h => h.elim) (fun _ h => h.elim) (fun r1 u t H1 locs ht hvm hw hB hz1 hk1 hS => ?_)
  have hP := pw_keep hP (fun q hq => hk1 q hq (fun h => h))
  generalize H1 = H at hP hS ⊢
  refine W.widen (k := 0) (n := 0) (Nat.le_of_ble_eq_true rfl) (Nat.le_of_ble_eq_true rfl) ?_
  rw [show r1 = i_lf from hw]
  exact W.iret (v := i_lf) hx hb hr (fun t ht hW => ⟨⟨i_lf, (), rfl, trivial, trivial⟩, hS.F ht⟩) hS.2.2 dX9_fault_7
def w_X9_count : List Cond := .code yX9_count cX9_count 2 (some .int) :: ([.constant RX9 88 (-1000001), .fieldLink RX9 19 "LineCites" "now" "LLineCites$Work;", .methodLink RX9 248 yX8_lines, .instanceMethod yX8_lines, .selects RX8 yX8_lines yX8_lines, .initialized RX8, .code yX8_lines cX8_lines 1 (some .int), .fieldLink RX8 33 "LineCites$Work" "lines" "I", .methodLink RX9 126 yX8_editions, .instanceMethod yX8_editions, .selects RX8 yX8_editions yX8_editions, .code yX8_editions cX8_editions 1 (some .int), .fieldLink RX8 37 "LineCites$Work" "editions" "I", .methodLink RX9 339 yX8_stretches, .instanceMethod yX8_stretches, .selects RX8 yX8_stretches yX8_stretches, .code yX8_stretches cX8_stretches 3 (some .int), .methodLink RX8 47 yX8_stretchesOf, .instanceMethod yX8_stretchesOf, .selects RX8 yX8_stretchesOf yX8_stretchesOf, .code yX8_stretchesOf cX8_stretchesOf 2 (some .int), .methodLink RX8 43 yX8_hasEdition, .instanceMethod yX8_hasEdition, .selects RX8 yX8_hasEdition yX8_hasEdition, .code yX8_hasEdition cX8_hasEdition 2 (some .boolean), .fieldLink RX8 9 "LineCites$Work" "stretchCounts" "[I", .methodLink RX9 188 yX8_citations, .instanceMethod yX8_citations, .selects RX8 yX8_citations yX8_citations, .code yX8_citations cX8_citations 3 (some .int), .methodLink RX8 97 yX8_hasCitation, .instanceMethod yX8_hasCitation, .selects RX8 yX8_hasCitation yX8_hasCitation, .code yX8_hasCitation cX8_hasCitation 2 (some .boolean), .methodLink RX8 89 yX8_citedPart, .instanceMethod yX8_citedPart, .selects RX8 yX8_citedPart yX8_citedPart, .code yX8_citedPart cX8_citedPart 4 (some .int), .fieldLink RX8 18 "LineCites$Work" "citedParts" "[I", .methodLink RX9 194 yX8_seen, .instanceMethod yX8_seen, .selects RX8 yX8_seen yX8_seen, .code yX8_seen cX8_seen 1 (some .int), .fieldLink RX8 40 "LineCites$Work" "seen" "I", .fieldLink RX9 38 "LineCites" "acts" "LLineCites$Acts;", .methodLink RX9 136 yX0_size, .instanceMethod yX0_size, .selects RX0 yX0_size yX0_size, .initialized RX0, .code yX0_size cX0_size 1 (some .int), .fieldLink RX0 17 "LineCites$Acts" "size" "I", .fieldLink RX9 10 "LineCites" "tape" "LLineCites$Tape;", .methodLink RX9 93 yX7_size, .instanceMethod yX7_size, .selects RX7 yX7_size yX7_size, .initialized RX7, .code yX7_size cX7_size 1 (some .int), .fieldLink RX7 15 "LineCites$Tape" "size" "I"] ++ wsX90 ++ wsX80 ++ wsX00 ++ wsX70)
set_option maxRecDepth 20000 in
theorem g_X9_count_X8_lines : GoodIn w_X9_count (wsV RX9 248 RX8 yX8_lines w_X8_lines) := goodIn_r _ [3, 4, 5, 6, 7, 8, 73, 74, 75, 76, 77, 78, 79, 80] rfl (by decide +kernel)
set_option maxRecDepth 20000 in
theorem g_X9_count_X8_editions : GoodIn w_X9_count (wsV RX9 126 RX8 yX8_editions w_X8_editions) := goodIn_r _ [9, 10, 11, 6, 12, 13, 73, 74, 75, 76, 77, 78, 79, 80] rfl (by decide +kernel)
set_option maxRecDepth 20000 in
theorem g_X9_count_X8_stretches : GoodIn w_X9_count (wsV RX9 339 RX8 yX8_stretches w_X8_stretches) := goodIn_r _ [14, 15, 16, 6, 17, 13, 18, 19, 20, 6, 21, 22, 23, 24, 25, 26, 73, 74, 75, 76, 77, 78, 79, 80] rfl (by decide +kernel)
set_option maxRecDepth 20000 in
theorem g_X9_count_X8_citations : GoodIn w_X9_count (wsV RX9 188 RX8 yX8_citations w_X8_citations) := goodIn_r _ [27, 28, 29, 6, 30, 31, 32, 33, 6, 34, 35, 36, 37, 38, 39, 73, 74, 75, 76, 77, 78, 79, 80] rfl (by decide +kernel)
set_option maxRecDepth 20000 in
theorem g_X9_count_X8_seen : GoodIn w_X9_count (wsV RX9 194 RX8 yX8_seen w_X8_seen) := goodIn_r _ [40, 41, 42, 6, 43, 44, 73, 74, 75, 76, 77, 78, 79, 80] rfl (by decide +kernel)
set_option maxRecDepth 20000 in
theorem g_X9_count_X0_size : GoodIn w_X9_count (wsV RX9 136 RX0 yX0_size w_X0_size) := goodIn_r _ [46, 47, 48, 49, 50, 51, 81, 82, 83] rfl (by decide +kernel)
set_option maxRecDepth 20000 in
theorem g_X9_count_X7_size : GoodIn w_X9_count (wsV RX9 93 RX7 yX7_size w_X7_size) := goodIn_r _ [53, 54, 55, 56, 57, 58, 84, 85, 86] rfl (by decide +kernel)
set_option maxHeartbeats 4000000 in
set_option maxRecDepth 100000 in
theorem c_X9_count (l : Launch) (D : va_G) (h0 : Nat) (i_0 : Int32) (a_tape : Nat) (a_now : Nat) (a_draft : Nat) (a_reader : Nat) (a_acts : Nat) (a_images : Nat) (a_one : Nat) (a_other : Nat) (a_third : Nat) (a_spans : Nat) (a_back : Nat) (a_span : Nat) (a_middle : Nat) (a_reached : Nat) (b_sc : Nat) (b_sp : Nat) (b_cp : Nat) (b_sn : Nat) (b_sl : Nat) (i_li : Int32) (i_ed : Int32) (i_se : Int32) (kI : ClassId) (g_b_sc : Nat → Int32) (g_b_cp : Nat → Int32) (y_by : Nat) (i_sz : Int32) (i_lf : Int32) (a_ring : Nat) (i_nx : Int32) (i_as : Int32) : Met l yX9_count w_X9_count ({ frames := 3, cells := 0, slots := 0, locals := 66 }) (va_Pc [.ref h0, .int i_0] (fun U => va_P D vwCl [(h0, .inr (9, [.ref a_tape, .ref a_now, .ref a_draft, .ref a_reader, .ref a_acts, .ref a_images, .ref a_one, .ref a_other, .ref a_third, .ref a_spans, .ref a_back, .ref a_span, .ref a_middle, .ref a_reached])), (a_now, .inr (8, [.ref b_sc, .ref b_sp, .ref b_cp, .ref b_sn, .ref b_sl, .int i_li, .int i_ed, .int i_se])), (b_sc, .inl (kI, 5, .inl g_b_sc)), (b_cp, .inl (kI, 32, .inl g_b_cp)), (a_tape, .inr (7, [.ref y_by, .int i_sz, .int i_lf])), (a_acts, .inr (0, [.ref a_ring, .int i_nx, .int i_as]))] U.heap ∧ va_K D vwCl [(kI, .int)] U)) (va_Qi (fun (r : Int32) (_ : Unit) => True) (fun _ _ => True) (fun _ => False)) 0 0 (fun _ => False) := by
  refine Met.ofW (cc := cX9_count) (maxL := 2) (ret := (some .int)) (by decide) rfl ?_
  intro p e s m args below meth c s₁ B hml hv
  obtain ⟨rfl, hP, hK⟩ := hv
  have hx := B.exec
  have hb := B.bytes
  have hr := B.returns
  have hts := atoms_spec (ws := w_X9_count) B.pre
  have hown : s.vm.findClass RX9 = some m.cls := findClass_of_methodNamed B.named
  have hlocks := B.notSynchronized
  have hS : va_S (fun _ : Nat => False) s.heap s.heap [] := va_S.rf
  have hP : va_P D vwCl [(h0, .inr (9, [.ref a_tape, .ref a_now, .ref a_draft, .ref a_reader, .ref a_acts, .ref a_images, .ref a_one, .ref a_other, .ref a_third, .ref a_spans, .ref a_back, .ref a_span, .ref a_middle, .ref a_reached])), (a_now, .inr (8, [.ref b_sc, .ref b_sp, .ref b_cp, .ref b_sn, .ref b_sl, .int i_li, .int i_ed, .int i_se])), (b_sc, .inl (kI, 5, .inl g_b_sc)), (b_cp, .inl (kI, 32, .inl g_b_cp)), (a_tape, .inr (7, [.ref y_by, .int i_sz, .int i_lf])), (a_acts, .inr (0, [.ref a_ring, .int i_nx, .int i_as]))] s.heap := hP
  have hl := lv_entry ([.ref h0, .int i_0]) (n := 2) (Nat.le_of_ble_eq_true rfl)
  rw [lg_entry_eq]
  generalize (lg_sl ([.ref h0, .int i_0]) ++ List.replicate (2 - (lg_sl ([.ref h0, .int i_0])).length) Slot.unset).toArray = ls at hl ⊢
  have hl : lv_has ls 2 [(0, .ref h0), (1, .int i_0)] := hl
  obtain ⟨H, hHe⟩ : ∃ H : Heap, H = s.heap := ⟨_, rfl⟩
  rw [← hHe] at hP
  have hS : va_S (fun _ : Nat => False) s.heap H [] := by rw [hHe]; exact hS
  refine pw_heap hHe ?_
  refine lv_iload_n hx hb dX9_count_0 rfl (lv_at hl 1 rfl) ?_
  rcases pw_sw7 i_0 with h8 | rfl | rfl | rfl | rfl | rfl | rfl | rfl
  · refine lv_tableOut (tgt := 100) hx hb dX9_count_1 h8 (by decide) ?_
    refine lv_ldc hx hb hown (hts (.constant RX9 88 (-1000001)) (List.mem_of_getElem? (i := 1) rfl)) dX9_count_100 ?_
    exact W.iret (v := (-1000001)) hx hb hr (fun t ht hW => ⟨⟨(-1000001), (), rfl, trivial, trivial⟩, hS.F ht⟩) hS.2.2 dX9_count_102
  · refine lv_tableIn (tgt := 44) hx hb dX9_count_1 (by decide) (by decide) rfl (by decide) ?_
    refine lv_aload_n hx hb dX9_count_44 rfl (lv_at hl 0 rfl) ?_
    refine va_get (D := D) (ci := 9) (v := .ref a_now) (C := RX9) (T := TX9) (N := 14) hx hb hts (fun _ h => List.mem_cons_of_mem _ (List.mem_append_left _ (List.mem_append_left _ (List.mem_append_left _ (List.mem_append_right _ h))))) hown hK hP 0 rfl rfl 1 (by decide) (hts (.fieldLink RX9 19 "LineCites" "now" "LLineCites$Work;") (List.mem_of_getElem? (i := 2) rfl)) (fun _ h9 => h9) rfl dX9_count_45 ?_
    have hPc := hP.sub (ws' := [(a_now, .inr (8, [.ref b_sc, .ref b_sp, .ref b_cp, .ref b_sn, .ref b_sl, .int i_li, .int i_ed, .int i_se]))]) [1] rfl
    have hKc := hK.sub (tys' := []) [] rfl
    refine va_calli (va_runV (As := []) (rest := []) ⟨hx, hb, hml, hown, hts⟩ (c_X8_lines l D a_now b_sc b_sp b_cp b_sn b_sl i_li i_ed i_se) (cwV 0 hts g_X9_count_X8_lines rfl rfl rfl (by decide +kernel) ⟨Nat.le_of_ble_eq_true rfl, Nat.le_of_ble_eq_true rfl⟩) ⟨fun a U g mk q => by obtain ⟨q0, qP, qK⟩ := q; exact ⟨q0, qP, va_K.moved (u := U) (U := U.calling g mk a) (Vm.Alike.refl U.vm) qK⟩, va_recv hKc hPc (ci := 8) (q0 := 0) rfl rfl, fun U hU hW => ⟨rfl, by rw [hU]; exact hPc, va_K.moved hW.alike hKc⟩⟩ rfl rfl hl.1 rfl (lv_room (Nat.le_of_ble_eq_true rfl)) dX9_count_48 ⟨Nat.le_of_ble_eq_true rfl, Nat.le_of_ble_eq_true rfl⟩) hS (fun _ _ h => h.elim) (fun _ h => h.elim) (fun r1 u t H1 locs ht hvm hw hB hz1 hk1 hS => ?_)
    have hP := pw_keep hP (fun q hq => hk1 q hq (fun h => h))
    generalize H1 = H at hP hS ⊢
    refine W.widen (k := 0) (n := 0) (Nat.le_of_ble_eq_true rfl) (Nat.le_of_ble_eq_true rfl) ?_
    rw [show r1 = i_li from hw]
    exact W.iret (v := i_li) hx hb hr (fun t ht hW => ⟨⟨i_li, (), rfl, trivial, trivial⟩, hS.F ht⟩) hS.2.2 dX9_count_51
  · refine lv_tableIn (tgt := 52) hx hb dX9_count_1 (by decide) (by decide) rfl (by decide) ?_
    refine lv_aload_n hx hb dX9_count_52 rfl (lv_at hl 0 rfl) ?_
    refine va_get (D := D) (ci := 9) (v := .ref a_now) (C := RX9) (T := TX9) (N := 14) hx hb hts (fun _ h => List.mem_cons_of_mem _ (List.mem_append_left _ (List.mem_append_left _ (List.mem_append_left _ (List.mem_append_right _ h))))) hown hK hP 0 rfl rfl 1 (by decide) (hts (.fieldLink RX9 19 "LineCites" "now" "LLineCites$Work;") (List.mem_of_getElem? (i := 2) rfl)) (fun _ h9 => h9) rfl dX9_count_53 ?_
    have hPc := hP.sub (ws' := [(a_now, .inr (8, [.ref b_sc, .ref b_sp, .ref b_cp, .ref b_sn, .ref b_sl, .int i_li, .int i_ed, .int i_se]))]) [1] rfl
    have hKc := hK.sub (tys' := []) [] rfl
    refine va_calli (va_runV (As := []) (rest := []) ⟨hx, hb, hml, hown, hts⟩ (c_X8_editions l D a_now b_sc b_sp b_cp b_sn b_sl i_li i_ed i_se) (cwV 0 hts g_X9_count_X8_editions rfl rfl rfl (by decide +kernel) ⟨Nat.le_of_ble_eq_true rfl, Nat.le_of_ble_eq_true rfl⟩) ⟨fun a U g mk q => by obtain ⟨q0, qP, qK⟩ := q; exact ⟨q0, qP, va_K.moved (u := U) (U := U.calling g mk a) (Vm.Alike.refl U.vm) qK⟩, va_recv hKc hPc (ci := 8) (q0 := 0) rfl rfl, fun U hU hW => ⟨rfl, by rw [hU]; exact hPc, va_K.moved hW.alike hKc⟩⟩ rfl rfl hl.1 rfl (lv_room (Nat.le_of_ble_eq_true rfl)) dX9_count_56 ⟨Nat.le_of_ble_eq_true rfl, Nat.le_of_ble_eq_true rfl⟩) hS (fun _ _ h => h.elim) (fun _ h => h.elim) (fun r2 u t H1 locs ht hvm hw hB hz1 hk1 hS => ?_)
    have hP := pw_keep hP (fun q hq => hk1 q hq (fun h => h))
    generalize H1 = H at hP hS ⊢
    refine W.widen (k := 0) (n := 0) (Nat.le_of_ble_eq_true rfl) (Nat.le_of_ble_eq_true rfl) ?_
    rw [show r2 = i_ed from hw]
    exact W.iret (v := i_ed) hx hb hr (fun t ht hW => ⟨⟨i_ed, (), rfl, trivial, trivial⟩, hS.F ht⟩) hS.2.2 dX9_count_59
  · refine lv_tableIn (tgt := 60) hx hb dX9_count_1 (by decide) (by decide) rfl (by decide) ?_
    refine lv_aload_n hx hb dX9_count_60 rfl (lv_at hl 0 rfl) ?_
    refine va_get (D := D) (ci := 9) (v := .ref a_now) (C := RX9) (T := TX9) (N := 14) hx hb hts (fun _ h => List.mem_cons_of_mem _ (List.mem_append_left _ (List.mem_append_left _ (List.mem_append_left _ (List.mem_append_right _ h))))) hown hK hP 0 rfl rfl 1 (by decide) (hts (.fieldLink RX9 19 "LineCites" "now" "LLineCites$Work;") (List.mem_of_getElem? (i := 2) rfl)) (fun _ h9 => h9) rfl dX9_count_61 ?_
    have hPc := hP.sub (ws' := [(a_now, .inr (8, [.ref b_sc, .ref b_sp, .ref b_cp, .ref b_sn, .ref b_sl, .int i_li, .int i_ed, .int i_se])), (b_sc, .inl (kI, 5, .inl g_b_sc))]) [1, 2] rfl
    have hKc := hK.sub (tys' := [(kI, .int)]) [0] rfl
    refine va_calli (va_runV (As := []) (rest := []) ⟨hx, hb, hml, hown, hts⟩ (c_X8_stretches l D a_now b_sc b_sp b_cp b_sn b_sl i_li i_ed i_se kI g_b_sc) (cwV 0 hts g_X9_count_X8_stretches rfl rfl rfl (by decide +kernel) ⟨Nat.le_of_ble_eq_true rfl, Nat.le_of_ble_eq_true rfl⟩) ⟨fun a U g mk q => by obtain ⟨q0, qP, qK⟩ := q; exact ⟨q0, qP, va_K.moved (u := U) (U := U.calling g mk a) (Vm.Alike.refl U.vm) qK⟩, va_recv hKc hPc (ci := 8) (q0 := 0) rfl rfl, fun U hU hW => ⟨rfl, by rw [hU]; exact hPc, va_K.moved hW.alike hKc⟩⟩ rfl rfl hl.1 rfl (lv_room (Nat.le_of_ble_eq_true rfl)) dX9_count_64 ⟨Nat.le_of_ble_eq_true rfl, Nat.le_of_ble_eq_true rfl⟩) hS (fun _ _ h => h.elim) (fun _ h => h.elim) (fun r3 u t H1 locs ht hvm hw hB hz1 hk1 hS => ?_)
    have hP := pw_keep hP (fun q hq => hk1 q hq (fun h => h))
    generalize H1 = H at hP hS ⊢
    refine W.widen (k := 0) (n := 0) (Nat.le_of_ble_eq_true rfl) (Nat.le_of_ble_eq_true rfl) ?_
    exact W.iret (v := r3) hx hb hr (fun t ht hW => ⟨⟨r3, (), rfl, trivial, trivial⟩, hS.F ht⟩) hS.2.2 dX9_count_67
  · refine lv_tableIn (tgt := 68) hx hb dX9_count_1 (by decide) (by decide) rfl (by decide) ?_
    refine lv_aload_n hx hb dX9_count_68 rfl (lv_at hl 0 rfl) ?_
    refine va_get (D := D) (ci := 9) (v := .ref a_now) (C := RX9) (T := TX9) (N := 14) hx hb hts (fun _ h => List.mem_cons_of_mem _ (List.mem_append_left _ (List.mem_append_left _ (List.mem_append_left _ (List.mem_append_right _ h))))) hown hK hP 0 rfl rfl 1 (by decide) (hts (.fieldLink RX9 19 "LineCites" "now" "LLineCites$Work;") (List.mem_of_getElem? (i := 2) rfl)) (fun _ h9 => h9) rfl dX9_count_69 ?_
    have hPc := hP.sub (ws' := [(a_now, .inr (8, [.ref b_sc, .ref b_sp, .ref b_cp, .ref b_sn, .ref b_sl, .int i_li, .int i_ed, .int i_se])), (b_cp, .inl (kI, 32, .inl g_b_cp))]) [1, 3] rfl
    have hKc := hK.sub (tys' := [(kI, .int)]) [0] rfl
    refine va_calli (va_runV (As := []) (rest := []) ⟨hx, hb, hml, hown, hts⟩ (c_X8_citations l D a_now b_sc b_sp b_cp b_sn b_sl i_li i_ed i_se kI g_b_cp) (cwV 0 hts g_X9_count_X8_citations rfl rfl rfl (by decide +kernel) ⟨Nat.le_of_ble_eq_true rfl, Nat.le_of_ble_eq_true rfl⟩) ⟨fun a U g mk q => by obtain ⟨q0, qP, qK⟩ := q; exact ⟨q0, qP, va_K.moved (u := U) (U := U.calling g mk a) (Vm.Alike.refl U.vm) qK⟩, va_recv hKc hPc (ci := 8) (q0 := 0) rfl rfl, fun U hU hW => ⟨rfl, by rw [hU]; exact hPc, va_K.moved hW.alike hKc⟩⟩ rfl rfl hl.1 rfl (lv_room (Nat.le_of_ble_eq_true rfl)) dX9_count_72 ⟨Nat.le_of_ble_eq_true rfl, Nat.le_of_ble_eq_true rfl⟩) hS (fun _ _ h => h.elim) (fun _ h => h.elim) (fun r4 u t H1 locs ht hvm hw hB hz1 hk1 hS => ?_)
    have hP := pw_keep hP (fun q hq => hk1 q hq (fun h => h))
    generalize H1 = H at hP hS ⊢
    refine W.widen (k := 0) (n := 0) (Nat.le_of_ble_eq_true rfl) (Nat.le_of_ble_eq_true rfl) ?_
    exact W.iret (v := r4) hx hb hr (fun t ht hW => ⟨⟨r4, (), rfl, trivial, trivial⟩, hS.F ht⟩) hS.2.2 dX9_count_75
  · refine lv_tableIn (tgt := 76) hx hb dX9_count_1 (by decide) (by decide) rfl (by decide) ?_
    refine lv_aload_n hx hb dX9_count_76 rfl (lv_at hl 0 rfl) ?_
    refine va_get (D := D) (ci := 9) (v := .ref a_now) (C := RX9) (T := TX9) (N := 14) hx hb hts (fun _ h => List.mem_cons_of_mem _ (List.mem_append_left _ (List.mem_append_left _ (List.mem_append_left _ (List.mem_append_right _ h))))) hown hK hP 0 rfl rfl 1 (by decide) (hts (.fieldLink RX9 19 "LineCites" "now" "LLineCites$Work;") (List.mem_of_getElem? (i := 2) rfl)) (fun _ h9 => h9) rfl dX9_count_77 ?_
    have hPc := hP.sub (ws' := [(a_now, .inr (8, [.ref b_sc, .ref b_sp, .ref b_cp, .ref b_sn, .ref b_sl, .int i_li, .int i_ed, .int i_se]))]) [1] rfl
    have hKc := hK.sub (tys' := []) [] rfl
    refine va_calli (va_runV (As := []) (rest := []) ⟨hx, hb, hml, hown, hts⟩ (c_X8_seen l D a_now b_sc b_sp b_cp b_sn b_sl i_li i_ed i_se) (cwV 0 hts g_X9_count_X8_seen rfl rfl rfl (by decide +kernel) ⟨Nat.le_of_ble_eq_true rfl, Nat.le_of_ble_eq_true rfl⟩) ⟨fun a U g mk q => by obtain ⟨q0, qP, qK⟩ := q; exact ⟨q0, qP, va_K.moved (u := U) (U := U.calling g mk a) (Vm.Alike.refl U.vm) qK⟩, va_recv hKc hPc (ci := 8) (q0 := 0) rfl rfl, fun U hU hW => ⟨rfl, by rw [hU]; exact hPc, va_K.moved hW.alike hKc⟩⟩ rfl rfl hl.1 rfl (lv_room (Nat.le_of_ble_eq_true rfl)) dX9_count_80 ⟨Nat.le_of_ble_eq_true rfl, Nat.le_of_ble_eq_true rfl⟩) hS (fun _ _ h => h.elim) (fun _ h => h.elim) (fun r5 u t H1 locs ht hvm hw hB hz1 hk1 hS => ?_)
    have hP := pw_keep hP (fun q hq => hk1 q hq (fun h => h))
    generalize H1 = H at hP hS ⊢
    refine W.widen (k := 0) (n := 0) (Nat.le_of_ble_eq_true rfl) (Nat.le_of_ble_eq_true rfl) ?_
    rw [show r5 = i_se from hw]
    exact W.iret (v := i_se) hx hb hr (fun t ht hW => ⟨⟨i_se, (), rfl, trivial, trivial⟩, hS.F ht⟩) hS.2.2 dX9_count_83
  · refine lv_tableIn (tgt := 84) hx hb dX9_count_1 (by decide) (by decide) rfl (by decide) ?_
    refine lv_aload_n hx hb dX9_count_84 rfl (lv_at hl 0 rfl) ?_
    refine va_get (D := D) (ci := 9) (v := .ref a_acts) (C := RX9) (T := TX9) (N := 14) hx hb hts (fun _ h => List.mem_cons_of_mem _ (List.mem_append_left _ (List.mem_append_left _ (List.mem_append_left _ (List.mem_append_right _ h))))) hown hK hP 0 rfl rfl 4 (by decide) (hts (.fieldLink RX9 38 "LineCites" "acts" "LLineCites$Acts;") (List.mem_of_getElem? (i := 45) rfl)) (fun _ h9 => h9) rfl dX9_count_85 ?_
    have hPc := hP.sub (ws' := [(a_acts, .inr (0, [.ref a_ring, .int i_nx, .int i_as]))]) [5] rfl
    have hKc := hK.sub (tys' := []) [] rfl
    refine va_calli (va_runV (As := []) (rest := []) ⟨hx, hb, hml, hown, hts⟩ (c_X0_size l D a_acts a_ring i_nx i_as) (cwV 0 hts g_X9_count_X0_size rfl rfl rfl (by decide +kernel) ⟨Nat.le_of_ble_eq_true rfl, Nat.le_of_ble_eq_true rfl⟩) ⟨fun a U g mk q => by obtain ⟨q0, qP, qK⟩ := q; exact ⟨q0, qP, va_K.moved (u := U) (U := U.calling g mk a) (Vm.Alike.refl U.vm) qK⟩, va_recv hKc hPc (ci := 0) (q0 := 0) rfl rfl, fun U hU hW => ⟨rfl, by rw [hU]; exact hPc, va_K.moved hW.alike hKc⟩⟩ rfl rfl hl.1 rfl (lv_room (Nat.le_of_ble_eq_true rfl)) dX9_count_88 ⟨Nat.le_of_ble_eq_true rfl, Nat.le_of_ble_eq_true rfl⟩) hS (fun _ _ h => h.elim) (fun _ h => h.elim) (fun r6 u t H1 locs ht hvm hw hB hz1 hk1 hS => ?_)
    have hP := pw_keep hP (fun q hq => hk1 q hq (fun h => h))
    generalize H1 = H at hP hS ⊢
    refine W.widen (k := 0) (n := 0) (Nat.le_of_ble_eq_true rfl) (Nat.le_of_ble_eq_true rfl) ?_
    rw [show r6 = i_as from hw]
    exact W.iret (v := i_as) hx hb hr (fun t ht hW => ⟨⟨i_as, (), rfl, trivial, trivial⟩, hS.F ht⟩) hS.2.2 dX9_count_91
  · refine lv_tableIn (tgt := 92) hx hb dX9_count_1 (by decide) (by decide) rfl (by decide) ?_
    refine lv_aload_n hx hb dX9_count_92 rfl (lv_at hl 0 rfl) ?_
    refine va_get (D := D) (ci := 9) (v := .ref a_tape) (C := RX9) (T := TX9) (N := 14) hx hb hts (fun _ h => List.mem_cons_of_mem _ (List.mem_append_left _ (List.mem_append_left _ (List.mem_append_left _ (List.mem_append_right _ h))))) hown hK hP 0 rfl rfl 0 (by decide) (hts (.fieldLink RX9 10 "LineCites" "tape" "LLineCites$Tape;") (List.mem_of_getElem? (i := 52) rfl)) (fun _ h9 => h9) rfl dX9_count_93 ?_
    have hPc := hP.sub (ws' := [(a_tape, .inr (7, [.ref y_by, .int i_sz, .int i_lf]))]) [4] rfl
    have hKc := hK.sub (tys' := []) [] rfl
    refine va_calli (va_runV (As := []) (rest := []) ⟨hx, hb, hml, hown, hts⟩ (c_X7_size l D a_tape y_by i_sz i_lf) (cwV 0 hts g_X9_count_X7_size rfl rfl rfl (by decide +kernel) ⟨Nat.le_of_ble_eq_true rfl, Nat.le_of_ble_eq_true rfl⟩) ⟨fun a U g mk q => by obtain ⟨q0, qP, qK⟩ := q; exact ⟨q0, qP, va_K.moved (u := U) (U := U.calling g mk a) (Vm.Alike.refl U.vm) qK⟩, va_recv hKc hPc (ci := 7) (q0 := 0) rfl rfl, fun U hU hW => ⟨rfl, by rw [hU]; exact hPc, va_K.moved hW.alike hKc⟩⟩ rfl rfl hl.1 rfl (lv_room (Nat.le_of_ble_eq_true rfl)) dX9_count_96 ⟨Nat.le_of_ble_eq_true rfl, Nat.le_of_ble_eq_true rfl⟩) hS (fun _ _ h => h.elim) (fun _ h => h.elim) (fun r7 u t H1 locs ht hvm hw hB hz1 hk1 hS => ?_)
    have hP := pw_keep hP (fun q hq => hk1 q hq (fun h => h))
    generalize H1 = H at hP hS ⊢
    refine W.widen (k := 0) (n := 0) (Nat.le_of_ble_eq_true rfl) (Nat.le_of_ble_eq_true rfl) ?_
    rw [show r7 = i_sz from hw]
    exact W.iret (v := i_sz) hx hb hr (fun t ht hW => ⟨⟨i_sz, (), rfl, trivial, trivial⟩, hS.F ht⟩) hS.2.2 dX9_count_99
