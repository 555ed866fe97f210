theorem dX7_init_0 : decode cX7_init 0 = .ok (.aload_n 0, 1) := by decide +kernel
theorem dX7_init_1 : decode cX7_init 1 = .ok (.invokespecial 3, 3) := by decide +kernel
theorem dX7_init_4 : decode cX7_init 4 = .ok (.aload_n 0, 1) := by decide +kernel
theorem dX7_init_5 : decode cX7_init 5 = .ok (.sipush 200, 3) := by decide +kernel
theorem dX7_init_8 : decode cX7_init 8 = .ok (.newarray .byte, 2) := by decide +kernel
theorem dX7_init_10 : decode cX7_init 10 = .ok (.putfield 9, 3) := by decide +kernel
theorem dX7_init_13 : decode cX7_init 13 = .ok (.return_, 1) := by decide +kernel
theorem dX7_take_0 : decode cX7_take 0 = .ok (.aload_n 1, 1) := by decide +kernel
theorem dX7_take_1 : decode cX7_take 1 = .ok (.getfield 9, 3) := by decide +kernel
theorem dX7_take_4 : decode cX7_take 4 = .ok (.iconst 0, 1) := by decide +kernel
theorem dX7_take_5 : decode cX7_take 5 = .ok (.aload_n 0, 1) := by decide +kernel
theorem dX7_take_6 : decode cX7_take 6 = .ok (.getfield 9, 3) := by decide +kernel
theorem dX7_take_9 : decode cX7_take 9 = .ok (.iconst 0, 1) := by decide +kernel
theorem dX7_take_10 : decode cX7_take 10 = .ok (.sipush 200, 3) := by decide +kernel
theorem dX7_take_13 : decode cX7_take 13 = .ok (.invokestatic 22, 3) := by decide +kernel
theorem dX7_take_16 : decode cX7_take 16 = .ok (.aload_n 0, 1) := by decide +kernel
theorem dX7_take_17 : decode cX7_take 17 = .ok (.aload_n 1, 1) := by decide +kernel
theorem dX7_take_18 : decode cX7_take 18 = .ok (.getfield 15, 3) := by decide +kernel
theorem dX7_take_21 : decode cX7_take 21 = .ok (.putfield 15, 3) := by decide +kernel
theorem dX7_take_24 : decode cX7_take 24 = .ok (.aload_n 0, 1) := by decide +kernel
theorem dX7_take_25 : decode cX7_take 25 = .ok (.aload_n 1, 1) := by decide +kernel
theorem dX7_take_26 : decode cX7_take 26 = .ok (.getfield 19, 3) := by decide +kernel
theorem dX7_take_29 : decode cX7_take 29 = .ok (.putfield 19, 3) := by decide +kernel
theorem dX7_take_32 : decode cX7_take 32 = .ok (.return_, 1) := by decide +kernel
theorem dX1_init_0 : decode cX1_init 0 = .ok (.aload_n 0, 1) := by decide +kernel
theorem dX1_init_1 : decode cX1_init 1 = .ok (.invokespecial 1, 3) := by decide +kernel
theorem dX1_init_4 : decode cX1_init 4 = .ok (.aload_n 0, 1) := by decide +kernel
theorem dX1_init_5 : decode cX1_init 5 = .ok (.new 7, 3) := by decide +kernel
theorem dX1_init_8 : decode cX1_init 8 = .ok (.dup, 1) := by decide +kernel
theorem dX1_init_9 : decode cX1_init 9 = .ok (.invokespecial 9, 3) := by decide +kernel
theorem dX1_init_12 : decode cX1_init 12 = .ok (.putfield 10, 3) := by decide +kernel
theorem dX1_init_15 : decode cX1_init 15 = .ok (.aload_n 0, 1) := by decide +kernel
theorem dX1_init_16 : decode cX1_init 16 = .ok (.new 16, 3) := by decide +kernel
theorem dX1_init_19 : decode cX1_init 19 = .ok (.dup, 1) := by decide +kernel
theorem dX1_init_20 : decode cX1_init 20 = .ok (.invokespecial 18, 3) := by decide +kernel
theorem dX1_init_23 : decode cX1_init 23 = .ok (.putfield 19, 3) := by decide +kernel
theorem dX1_init_26 : decode cX1_init 26 = .ok (.return_, 1) := by decide +kernel
def w_X7_init : List Cond := .code yX7_init cX7_init 1 none :: ([.methodLink RX7 3 objectInit, .instanceMethod objectInit, .code objectInit ⟨#[0xb1]⟩ 1 none, .arrayClass .byte, .fieldLink RX7 9 "LineCites$Tape" "bytes" "[B"] ++ wsX70)
set_option maxHeartbeats 4000000 in
set_option maxRecDepth 100000 in
theorem c_X7_init (l : Launch) (D : va_G) (h0 : Nat) (sz : Nat) : Met l yX7_init w_X7_init ({ frames := 1, cells := 1, slots := 200, locals := 12 }) (va_Pc [.ref h0] (fun U => U.heap.size = sz ∧ va_P D vwCl [(h0, .inr (7, [.null, .int 0, .int 0]))] U.heap ∧ va_K D vwCl [] U ∧ va_D (fun _ => True) [(h0, .inr (7, [.null, .int 0, .int 0]))])) (va_Qv (fun (_ : Unit) => True) (fun (_ : Unit) t => ∃ (y_by : Nat) (k_b : ClassId), va_P D vwCl [(h0, .inr (7, [.ref y_by, .int 0, .int 0])), (y_by, .inl (k_b, 200, .inl (fun _ => 0)))] t.heap ∧ va_K D vwCl [(k_b, .byte)] t ∧ va_D (va_A [(h0, .inr (7, [.null, .int 0, .int 0]))] sz) [(h0, .inr (7, [.ref y_by, .int 0, .int 0])), (y_by, .inl (k_b, 200, .inl (fun _ => 0)))]) (va_A [(h0, .inr (7, [.null, .int 0, .int 0]))] sz)) 1 200 (va_A [(h0, .inr (7, [.null, .int 0, .int 0]))] sz) := by
  refine Met.ofW (cc := cX7_init) (maxL := 1) (ret := none) (by decide) rfl ?_
  intro p e s m args below meth c s₁ B hml hv
  obtain ⟨rfl, hsz, hP, hK, hD0⟩ := hv
  have hx := B.exec
  have hb := B.bytes
  have hr := B.returns
  have hts := atoms_spec (ws := w_X7_init) B.pre
  have hown : s.vm.findClass RX7 = some m.cls := findClass_of_methodNamed B.named
  have hlocks := B.notSynchronized
  have hin : meth.name = "<init>" := (name_of_methodNamed B.named B.method).1
  subst hsz
  have hD := hD0.self (sz := s.heap.size)
  generalize hAe : va_A [(h0, .inr (7, [.null, .int 0, .int 0]))] s.heap.size = A at hD ⊢
  have hA : ∀ q : Nat, s.heap.size ≤ q → A q := fun q h => by rw [← hAe]; exact Or.inr h
  have hS : va_S A s.heap s.heap [] := va_S.rf
  have hP : va_P D vwCl [(h0, .inr (7, [.null, .int 0, .int 0]))] s.heap := hP
  have hl := lv_entry ([.ref h0]) (n := 1) (Nat.le_of_ble_eq_true rfl)
  rw [lg_entry_eq]
  generalize (lg_sl ([.ref h0]) ++ List.replicate (1 - (lg_sl ([.ref h0])).length) Slot.unset).toArray = ls at hl ⊢
  have hl : lv_has ls 1 [(0, .ref h0)] := hl
  obtain ⟨H, hHe⟩ : ∃ H : Heap, H = s.heap := ⟨_, rfl⟩
  rw [← hHe] at hP
  have hS : va_S A s.heap H [] := by rw [hHe]; exact hS
  refine pw_heap hHe ?_
  refine lv_aload_n hx hb dX7_init_0 rfl (lv_at hl 0 rfl) ?_
  refine W.objInit hx hb hown (hts (.methodLink RX7 3 objectInit) (List.mem_of_getElem? (i := 1) rfl)) (hts (.instanceMethod objectInit) (List.mem_of_getElem? (i := 2) rfl)) (hts (.code objectInit ⟨#[0xb1]⟩ 1 none) (List.mem_of_getElem? (i := 3) rfl)) rfl (by rw [hml]; exact hl.1) rfl dX7_init_1 (Nat.le_of_ble_eq_true rfl) (Nat.le_of_ble_eq_true rfl) ?_
  refine W.eq (g2 := F0 m 4 ls []) rfl ?_
  refine lv_aload_n hx hb dX7_init_4 rfl (lv_at hl 0 rfl) ?_
  refine lv_sipush (v := 200) hx hb dX7_init_5 (by decide) ?_
  refine va_newa (atype := .byte) (ty := .byte) (a0 := (200, .inl (fun _ => 0))) (N' := 200) hx hb (hts (.arrayClass .byte) (List.mem_of_getElem? (i := 4) rfl)) rfl hK hP hD hS hA (fun _ => rfl) (by decide) (by decide) (Nat.le_of_ble_eq_true rfl) (Nat.le_of_ble_eq_true rfl) (Nat.le_of_ble_eq_true rfl) dX7_init_8 (fun q1 k2 H hK hP hD hS => ?_)
  have hP : va_P D vwCl [(h0, .inr (7, [.null, .int 0, .int 0])), (q1, .inl (k2, 200, .inl (fun _ => 0)))] H := hP
  have hD : va_D A [(h0, .inr (7, [.null, .int 0, .int 0])), (q1, .inl (k2, 200, .inl (fun _ => 0)))] := hD
  have hK : va_K D vwCl [(k2, .byte)] s := hK
  refine W.widen (k := 1) (n := 200) (Nat.le_of_ble_eq_true rfl) (Nat.le_of_ble_eq_true rfl) ?_
  refine va_putF (D := D) (ci := 7) (v := .ref q1) (ty := .array .byte) (C := RX7) (T := TX7) (N := 3) hx hb hts (fun _ h => List.mem_cons_of_mem _ (List.mem_append_right _ h)) tyX7 tyX7_ok nmX7 hown hK hP hD hS 0 rfl rfl 0 (by decide) (hts (.fieldLink RX7 9 "LineCites$Tape" "bytes" "[B") (List.mem_of_getElem? (i := 5) rfl)) (fun _ h9 => h9) rfl hin rfl (by decide +kernel) rfl rfl (Nat.le_of_ble_eq_true rfl) dX7_init_10 (fun H locs hP hD hS => ?_)
  have hP : va_P D vwCl [(h0, .inr (7, [.ref q1, .int 0, .int 0])), (q1, .inl (k2, 200, .inl (fun _ => 0)))] H := hP
  have hD : va_D A [(h0, .inr (7, [.ref q1, .int 0, .int 0])), (q1, .inl (k2, 200, .inl (fun _ => 0)))] := hD
  have hK : va_K D vwCl [(k2, .byte)] s := hK
  have hP9 := hP.sub (ws' := [(h0, .inr (7, [.ref q1, .int 0, .int 0])), (q1, .inl (k2, 200, .inl (fun _ => 0)))]) [0, 1] rfl
  have hD9 := hD.sub (ws' := [(h0, .inr (7, [.ref q1, .int 0, .int 0])), (q1, .inl (k2, 200, .inl (fun _ => 0)))]) [0, 1] (by decide) rfl
  have hK9 := hK.sub (tys' := [(k2, .byte)]) [0] rfl
  refine W.widen (k := 1) (n := 200) (Nat.le_of_ble_eq_true rfl) (Nat.le_of_ble_eq_true rfl) ?_
  exact W.vret hx hb hr (fun t ht hW => ⟨⟨(), rfl, trivial, q1, k2, by rw [ht]; exact hP9, va_K.moved hW.alike hK9, hD9⟩, hS.F ht⟩) hS.2.2 dX7_init_13
def w_X7_take : List Cond := .code yX7_take cX7_take 2 none :: ([.fieldLink RX7 9 "LineCites$Tape" "bytes" "[B", .methodLink RX7 22 arraycopyName, .native arraycopyName, .static arraycopyName, .initialized "java/lang/System", .fieldLink RX7 15 "LineCites$Tape" "size" "I", .fieldLink RX7 19 "LineCites$Tape" "latestFault" "I"] ++ wsX70)
set_option maxHeartbeats 4000000 in
set_option maxRecDepth 100000 in
theorem c_X7_take (l : Launch) (D : va_G) (h0 : Nat) (a_f : Nat) (y_by : Nat) (i_sz : Int32) (i_lf : Int32) (kB : ClassId) (g_by : Nat → Int32) (z_by : Nat) (f_sz : Int32) (f_lf : Int32) (g_zb : Nat → Int32) (sz : Nat) (hg_by : fB g_by) (hg_zb : fB g_zb) : Met l yX7_take w_X7_take ({ frames := 1, cells := 0, slots := 0, locals := 40 }) (va_Pc [.ref h0, .ref a_f] (fun U => U.heap.size = sz ∧ va_P D vwCl [(h0, .inr (7, [.ref y_by, .int i_sz, .int i_lf])), (y_by, .inl (kB, 200, .inl g_by)), (a_f, .inr (7, [.ref z_by, .int f_sz, .int f_lf])), (z_by, .inl (kB, 200, .inl g_zb))] U.heap ∧ va_K D vwCl [(kB, .byte)] U ∧ va_D (fun _ => True) [(h0, .inr (7, [.ref y_by, .int i_sz, .int i_lf])), (y_by, .inl (kB, 200, .inl g_by)), (a_f, .inr (7, [.ref z_by, .int f_sz, .int f_lf])), (z_by, .inl (kB, 200, .inl g_zb))])) (va_Qv (fun (_ : Unit) => True) (fun (_ : Unit) t => ∃ (n_by : Nat → Int32), va_P D vwCl [(h0, .inr (7, [.ref y_by, .int f_sz, .int f_lf])), (y_by, .inl (kB, 200, .inl n_by)), (a_f, .inr (7, [.ref z_by, .int f_sz, .int f_lf])), (z_by, .inl (kB, 200, .inl g_zb))] t.heap ∧ va_K D vwCl [(kB, .byte)] t ∧ va_D (va_A [(h0, .inr (7, [.ref y_by, .int i_sz, .int i_lf])), (y_by, .inl (kB, 200, .inl g_by)), (a_f, .inr (7, [.ref z_by, .int f_sz, .int f_lf])), (z_by, .inl (kB, 200, .inl g_zb))] sz) [(h0, .inr (7, [.ref y_by, .int f_sz, .int f_lf])), (y_by, .inl (kB, 200, .inl n_by)), (a_f, .inr (7, [.ref z_by, .int f_sz, .int f_lf])), (z_by, .inl (kB, 200, .inl g_zb))] ∧ fB n_by) (va_A [(h0, .inr (7, [.ref y_by, .int i_sz, .int i_lf])), (y_by, .inl (kB, 200, .inl g_by)), (a_f, .inr (7, [.ref z_by, .int f_sz, .int f_lf])), (z_by, .inl (kB, 200, .inl g_zb))] sz)) 0 0 (va_A [(h0, .inr (7, [.ref y_by, .int i_sz, .int i_lf])), (y_by, .inl (kB, 200, .inl g_by)), (a_f, .inr (7, [.ref z_by, .int f_sz, .int f_lf])), (z_by, .inl (kB, 200, .inl g_zb))] sz) := by
  refine Met.ofW (cc := cX7_take) (maxL := 2) (ret := none) (by decide) rfl ?_
  intro p e s m args below meth c s₁ B hml hv
  obtain ⟨rfl, hsz, hP, hK, hD0⟩ := hv
  have hx := B.exec
  have hb := B.bytes
  have hr := B.returns
  have hts := atoms_spec (ws := w_X7_take) B.pre
  have hown : s.vm.findClass RX7 = some m.cls := findClass_of_methodNamed B.named
  have hlocks := B.notSynchronized
  subst hsz
  have hD := hD0.self (sz := s.heap.size)
  generalize hAe : va_A [(h0, .inr (7, [.ref y_by, .int i_sz, .int i_lf])), (y_by, .inl (kB, 200, .inl g_by)), (a_f, .inr (7, [.ref z_by, .int f_sz, .int f_lf])), (z_by, .inl (kB, 200, .inl g_zb))] s.heap.size = A at hD ⊢
  have hA : ∀ q : Nat, s.heap.size ≤ q → A q := fun q h => by rw [← hAe]; exact Or.inr h
  have hS : va_S A s.heap s.heap [] := va_S.rf
  have hP : va_P D vwCl [(h0, .inr (7, [.ref y_by, .int i_sz, .int i_lf])), (y_by, .inl (kB, 200, .inl g_by)), (a_f, .inr (7, [.ref z_by, .int f_sz, .int f_lf])), (z_by, .inl (kB, 200, .inl g_zb))] s.heap := hP
  have hl := lv_entry ([.ref h0, .ref a_f]) (n := 2) (Nat.le_of_ble_eq_true rfl)
  rw [lg_entry_eq]
  generalize (lg_sl ([.ref h0, .ref a_f]) ++ List.replicate (2 - (lg_sl ([.ref h0, .ref a_f])).length) Slot.unset).toArray = ls at hl ⊢
  have hl : lv_has ls 2 [(0, .ref h0), (1, .ref a_f)] := hl
  obtain ⟨H, hHe⟩ : ∃ H : Heap, H = s.heap := ⟨_, rfl⟩
  rw [← hHe] at hP
  have hS : va_S A s.heap H [] := by rw [hHe]; exact hS
  refine pw_heap hHe ?_
  refine lv_aload_n hx hb dX7_take_0 rfl (lv_at hl 1 rfl) ?_
  refine va_get (D := D) (ci := 7) (v := .ref z_by) (C := RX7) (T := TX7) (N := 3) hx hb hts (fun _ h => List.mem_cons_of_mem _ (List.mem_append_right _ h)) hown hK hP 2 rfl rfl 0 (by decide) (hts (.fieldLink RX7 9 "LineCites$Tape" "bytes" "[B") (List.mem_of_getElem? (i := 1) rfl)) (fun _ h9 => h9) rfl dX7_take_1 ?_
  refine lv_iconst (v := 0) hx hb dX7_take_4 (by decide) ?_
  refine lv_aload_n hx hb dX7_take_5 rfl (lv_at hl 0 rfl) ?_
  refine va_get (D := D) (ci := 7) (v := .ref y_by) (C := RX7) (T := TX7) (N := 3) hx hb hts (fun _ h => List.mem_cons_of_mem _ (List.mem_append_right _ h)) hown hK hP 0 rfl rfl 0 (by decide) (hts (.fieldLink RX7 9 "LineCites$Tape" "bytes" "[B") (List.mem_of_getElem? (i := 1) rfl)) (fun _ h9 => h9) rfl dX7_take_6 ?_
  refine lv_iconst (v := 0) hx hb dX7_take_9 (by decide) ?_
  refine lv_sipush (v := 200) hx hb dX7_take_10 (by decide) ?_
  refine va_copyi (ty := .byte) (sp := 0) (dp := 0) (n := 200) hx hb (hml.trans hl.1.symm) hown (hts (.methodLink RX7 22 arraycopyName) (List.mem_of_getElem? (i := 2) rfl)) (hts (.native arraycopyName) (List.mem_of_getElem? (i := 3) rfl)) (hts (.static arraycopyName) (List.mem_of_getElem? (i := 4) rfl)) (hts (.initialized "java/lang/System") (List.mem_of_getElem? (i := 5) rfl)) hK hP hD hS 3 1 0 0 rfl rfl rfl rfl rfl (by decide) (by decide) (by decide) (by decide) (by decide) (fun i _ => hg_zb _) (Nat.le_of_ble_eq_true rfl) (Nat.le_of_ble_eq_true rfl) dX7_take_13 (fun H locs hP hD hS => ?_)
  obtain ⟨g1, eg1⟩ : ∃ g : Nat → Int32, g = va_cpy g_zb g_by (0 : Int32).toNatClampNeg (0 : Int32).toNatClampNeg (200 : Int32).toNatClampNeg := ⟨_, rfl⟩
  have hP : va_P D vwCl [(h0, .inr (7, [.ref y_by, .int i_sz, .int i_lf])), (y_by, .inl (kB, 200, .inl (va_cpy g_zb g_by (0 : Int32).toNatClampNeg (0 : Int32).toNatClampNeg (200 : Int32).toNatClampNeg))), (a_f, .inr (7, [.ref z_by, .int f_sz, .int f_lf])), (z_by, .inl (kB, 200, .inl g_zb))] H := hP
  have hD : va_D A [(h0, .inr (7, [.ref y_by, .int i_sz, .int i_lf])), (y_by, .inl (kB, 200, .inl (va_cpy g_zb g_by (0 : Int32).toNatClampNeg (0 : Int32).toNatClampNeg (200 : Int32).toNatClampNeg))), (a_f, .inr (7, [.ref z_by, .int f_sz, .int f_lf])), (z_by, .inl (kB, 200, .inl g_zb))] := hD
  have hK : va_K D vwCl [(kB, .byte)] s := hK
  rw [← eg1] at hP hD
  have hg1 : fB g1 := fB_cpy hg_zb hg_by eg1
  refine lv_aload_n hx hb dX7_take_16 rfl (lv_at hl 0 rfl) ?_
  refine lv_aload_n hx hb dX7_take_17 rfl (lv_at hl 1 rfl) ?_
  refine va_get (D := D) (ci := 7) (v := .int f_sz) (C := RX7) (T := TX7) (N := 3) hx hb hts (fun _ h => List.mem_cons_of_mem _ (List.mem_append_right _ h)) hown hK hP 2 rfl rfl 1 (by decide) (hts (.fieldLink RX7 15 "LineCites$Tape" "size" "I") (List.mem_of_getElem? (i := 6) rfl)) (fun _ h9 => h9) rfl dX7_take_18 ?_
  refine va_put (D := D) (ci := 7) (v := .int f_sz) (ty := .int) (C := RX7) (T := TX7) (N := 3) hx hb hts (fun _ h => List.mem_cons_of_mem _ (List.mem_append_right _ h)) tyX7 tyX7_ok nmX7 hown hK hP hD hS 0 rfl rfl 1 (by decide) (hts (.fieldLink RX7 15 "LineCites$Tape" "size" "I") (List.mem_of_getElem? (i := 6) rfl)) (fun _ h9 => h9) rfl (by decide +kernel) rfl rfl (Nat.le_of_ble_eq_true rfl) dX7_take_21 (fun H locs hP hD hS => ?_)
  have hP : va_P D vwCl [(h0, .inr (7, [.ref y_by, .int f_sz, .int i_lf])), (y_by, .inl (kB, 200, .inl g1)), (a_f, .inr (7, [.ref z_by, .int f_sz, .int f_lf])), (z_by, .inl (kB, 200, .inl g_zb))] H := hP
  have hD : va_D A [(h0, .inr (7, [.ref y_by, .int f_sz, .int i_lf])), (y_by, .inl (kB, 200, .inl g1)), (a_f, .inr (7, [.ref z_by, .int f_sz, .int f_lf])), (z_by, .inl (kB, 200, .inl g_zb))] := hD
  have hK : va_K D vwCl [(kB, .byte)] s := hK
  refine lv_aload_n hx hb dX7_take_24 rfl (lv_at hl 0 rfl) ?_
  refine lv_aload_n hx hb dX7_take_25 rfl (lv_at hl 1 rfl) ?_
  refine va_get (D := D) (ci := 7) (v := .int f_lf) (C := RX7) (T := TX7) (N := 3) hx hb hts (fun _ h => List.mem_cons_of_mem _ (List.mem_append_right _ h)) hown hK hP 2 rfl rfl 2 (by decide) (hts (.fieldLink RX7 19 "LineCites$Tape" "latestFault" "I") (List.mem_of_getElem? (i := 7) rfl)) (fun _ h9 => h9) rfl dX7_take_26 ?_
  refine va_put (D := D) (ci := 7) (v := .int f_lf) (ty := .int) (C := RX7) (T := TX7) (N := 3) hx hb hts (fun _ h => List.mem_cons_of_mem _ (List.mem_append_right _ h)) tyX7 tyX7_ok nmX7 hown hK hP hD hS 0 rfl rfl 2 (by decide) (hts (.fieldLink RX7 19 "LineCites$Tape" "latestFault" "I") (List.mem_of_getElem? (i := 7) rfl)) (fun _ h9 => h9) rfl (by decide +kernel) rfl rfl (Nat.le_of_ble_eq_true rfl) dX7_take_29 (fun H locs hP hD hS => ?_)
  have hP : va_P D vwCl [(h0, .inr (7, [.ref y_by, .int f_sz, .int f_lf])), (y_by, .inl (kB, 200, .inl g1)), (a_f, .inr (7, [.ref z_by, .int f_sz, .int f_lf])), (z_by, .inl (kB, 200, .inl g_zb))] H := hP
  have hD : va_D A [(h0, .inr (7, [.ref y_by, .int f_sz, .int f_lf])), (y_by, .inl (kB, 200, .inl g1)), (a_f, .inr (7, [.ref z_by, .int f_sz, .int f_lf])), (z_by, .inl (kB, 200, .inl g_zb))] := hD
  have hK : va_K D vwCl [(kB, .byte)] s := hK
  have hP9 := hP.sub (ws' := [(h0, .inr (7, [.ref y_by, .int f_sz, .int f_lf])), (y_by, .inl (kB, 200, .inl g1)), (a_f, .inr (7, [.ref z_by, .int f_sz, .int f_lf])), (z_by, .inl (kB, 200, .inl g_zb))]) [0, 1, 2, 3] rfl
  have hD9 := hD.sub (ws' := [(h0, .inr (7, [.ref y_by, .int f_sz, .int f_lf])), (y_by, .inl (kB, 200, .inl g1)), (a_f, .inr (7, [.ref z_by, .int f_sz, .int f_lf])), (z_by, .inl (kB, 200, .inl g_zb))]) [0, 1, 2, 3] (by decide) rfl
  have hK9 := hK.sub (tys' := [(kB, .byte)]) [0] rfl
  refine W.widen (k := 0) (n := 0) (Nat.le_of_ble_eq_true rfl) (Nat.le_of_ble_eq_true rfl) ?_
  exact W.vret hx hb hr (fun t ht hW => ⟨⟨(), rfl, trivial, g1, by rw [ht]; exact hP9, va_K.moved hW.alike hK9, hD9, hg1⟩, hS.F ht⟩) hS.2.2 dX7_take_32
def w_X1_init : List Cond := .code yX1_init cX1_init 1 none :: ([.methodLink RX1 1 objectInit, .instanceMethod objectInit, .code objectInit ⟨#[0xb1]⟩ 1 none, .classLink RX1 7 RX8, .instantiable RX8 8, .initialized RX8, .instanceMethod yX8_init, .code yX8_init cX8_init 1 none, .methodLink RX8 3 objectInit, .arrayClass .int, .fieldLink RX8 9 "LineCites$Work" "stretchCounts" "[I", .fieldLink RX8 15 "LineCites$Work" "stretchParts" "[I", .fieldLink RX8 18 "LineCites$Work" "citedParts" "[I", .fieldLink RX8 21 "LineCites$Work" "seenNumbers" "[I", .fieldLink RX8 24 "LineCites$Work" "seenLines" "[I", .fieldLink RX1 10 "LineCites$Image" "work" "LLineCites$Work;", .classLink RX1 16 RX7, .instantiable RX7 3, .initialized RX7, .instanceMethod yX7_init, .code yX7_init cX7_init 1 none, .methodLink RX7 3 objectInit, .arrayClass .byte, .fieldLink RX7 9 "LineCites$Tape" "bytes" "[B", .fieldLink RX1 19 "LineCites$Image" "tape" "LLineCites$Tape;"] ++ wsX80 ++ wsX10 ++ wsX70)
set_option maxRecDepth 20000 in
theorem g_X1_init_X8_init : GoodIn w_X1_init w_X8_init := goodIn_r _ [8, 9, 2, 3, 10, 11, 12, 13, 14, 15, 26, 27, 28, 29, 30, 31, 32, 33] rfl (by decide +kernel)
set_option maxRecDepth 20000 in
theorem g_X1_init_X7_init : GoodIn w_X1_init w_X7_init := goodIn_r _ [21, 22, 2, 3, 23, 24, 36, 37, 38] rfl (by decide +kernel)
set_option maxHeartbeats 4000000 in
set_option maxRecDepth 100000 in
theorem c_X1_init (l : Launch) (D : va_G) (h0 : Nat) (sz : Nat) : Met l yX1_init w_X1_init ({ frames := 2, cells := 8, slots := 392, locals := 32 }) (va_Pc [.ref h0] (fun U => U.heap.size = sz ∧ va_P D vwCl [(h0, .inr (1, [.null, .null]))] U.heap ∧ va_K D vwCl [] U ∧ va_D (fun _ => True) [(h0, .inr (1, [.null, .null]))] ∧ va_Nw (.methodLinkNest RX1 9 yX8_init "LineCites") U ∧ va_Nw (.methodLinkNest RX1 18 yX7_init "LineCites") U)) (va_Qv (fun (_ : Unit) => True) (fun (_ : Unit) t => ∃ (y_w : Nat) (y_t : Nat) (y_sc : Nat) (y_sp : Nat) (y_cp : Nat) (y_sn : Nat) (y_sl : Nat) (y_by : Nat) (k_n : ClassId) (k_b : ClassId), va_P D vwCl [(h0, .inr (1, [.ref y_w, .ref y_t])), (y_w, .inr (8, [.ref y_sc, .ref y_sp, .ref y_cp, .ref y_sn, .ref y_sl, .int 0, .int 0, .int 0])), (y_sc, .inl (k_n, 5, .inl (fun _ => 0))), (y_sp, .inl (k_n, 120, .inl (fun _ => 0))), (y_cp, .inl (k_n, 32, .inl (fun _ => 0))), (y_sn, .inl (k_n, 12, .inl (fun _ => 0))), (y_sl, .inl (k_n, 12, .inl (fun _ => 0))), (y_t, .inr (7, [.ref y_by, .int 0, .int 0])), (y_by, .inl (k_b, 200, .inl (fun _ => 0)))] t.heap ∧ va_K D vwCl [(k_n, .int), (k_b, .byte)] t ∧ va_D (va_A [(h0, .inr (1, [.null, .null]))] sz) [(h0, .inr (1, [.ref y_w, .ref y_t])), (y_w, .inr (8, [.ref y_sc, .ref y_sp, .ref y_cp, .ref y_sn, .ref y_sl, .int 0, .int 0, .int 0])), (y_sc, .inl (k_n, 5, .inl (fun _ => 0))), (y_sp, .inl (k_n, 120, .inl (fun _ => 0))), (y_cp, .inl (k_n, 32, .inl (fun _ => 0))), (y_sn, .inl (k_n, 12, .inl (fun _ => 0))), (y_sl, .inl (k_n, 12, .inl (fun _ => 0))), (y_t, .inr (7, [.ref y_by, .int 0, .int 0])), (y_by, .inl (k_b, 200, .inl (fun _ => 0)))]) (va_A [(h0, .inr (1, [.null, .null]))] sz)) 8 392 (va_A [(h0, .inr (1, [.null, .null]))] sz) := by
  refine Met.ofW (cc := cX1_init) (maxL := 1) (ret := none) (by decide) rfl ?_
  intro p e s m args below meth c s₁ B hml hv
  obtain ⟨rfl, hsz, hP, hK, hD0, hN1_9, hN1_18⟩ := hv
  have hx := B.exec
  have hb := B.bytes
  have hr := B.returns
  have hts := atoms_spec (ws := w_X1_init) B.pre
  have hown : s.vm.findClass RX1 = some m.cls := findClass_of_methodNamed B.named
  have hlocks := B.notSynchronized
  have hin : meth.name = "<init>" := (name_of_methodNamed B.named B.method).1
  subst hsz
  have hD := hD0.self (sz := s.heap.size)
  generalize hAe : va_A [(h0, .inr (1, [.null, .null]))] s.heap.size = A at hD ⊢
  have hA : ∀ q : Nat, s.heap.size ≤ q → A q := fun q h => by rw [← hAe]; exact Or.inr h
  have hS : va_S A s.heap s.heap [] := va_S.rf
  have hP : va_P D vwCl [(h0, .inr (1, [.null, .null]))] s.heap := hP
  have hl := lv_entry ([.ref h0]) (n := 1) (Nat.le_of_ble_eq_true rfl)
  rw [lg_entry_eq]
  generalize (lg_sl ([.ref h0]) ++ List.replicate (1 - (lg_sl ([.ref h0])).length) Slot.unset).toArray = ls at hl ⊢
  have hl : lv_has ls 1 [(0, .ref h0)] := hl
  obtain ⟨H, hHe⟩ : ∃ H : Heap, H = s.heap := ⟨_, rfl⟩
  rw [← hHe] at hP
  have hS : va_S A s.heap H [] := by rw [hHe]; exact hS
  refine pw_heap hHe ?_
  refine lv_aload_n hx hb dX1_init_0 rfl (lv_at hl 0 rfl) ?_
  refine W.objInit hx hb hown (hts (.methodLink RX1 1 objectInit) (List.mem_of_getElem? (i := 1) rfl)) (hts (.instanceMethod objectInit) (List.mem_of_getElem? (i := 2) rfl)) (hts (.code objectInit ⟨#[0xb1]⟩ 1 none) (List.mem_of_getElem? (i := 3) rfl)) rfl (by rw [hml]; exact hl.1) rfl dX1_init_1 (Nat.le_of_ble_eq_true rfl) (Nat.le_of_ble_eq_true rfl) ?_
  refine W.eq (g2 := F0 m 4 ls []) rfl ?_
  refine lv_aload_n hx hb dX1_init_4 rfl (lv_at hl 0 rfl) ?_
  refine va_new (ci := 8) (fs := [.null, .null, .null, .null, .null, .int 0, .int 0, .int 0]) (C := RX8) (T := TX8) (N := 8) hx hb hts (fun _ h => List.mem_cons_of_mem _ (List.mem_append_left _ (List.mem_append_left _ (List.mem_append_right _ h)))) tyX8 tyX8_ok hown (hts (.classLink RX1 7 RX8) (List.mem_of_getElem? (i := 4) rfl)) (hts (.instantiable RX8 8) (List.mem_of_getElem? (i := 5) rfl)) (hts (.initialized RX8) (List.mem_of_getElem? (i := 6) rfl)) hK hP hD hS hA rfl (fun j hj => by rcases (show j = 0 ∨ j = 1 ∨ j = 2 ∨ j = 3 ∨ j = 4 ∨ j = 5 ∨ j = 6 ∨ j = 7 by omega) with rfl | rfl | rfl | rfl | rfl | rfl | rfl | rfl <;> rfl) (Nat.le_of_ble_eq_true rfl) (Nat.le_of_ble_eq_true rfl) dX1_init_5 (fun q1 H hP hD hS => ?_)
  have hP : va_P D vwCl [(h0, .inr (1, [.null, .null])), (q1, .inr (8, [.null, .null, .null, .null, .null, .int 0, .int 0, .int 0]))] H := hP
  have hD : va_D A [(h0, .inr (1, [.null, .null])), (q1, .inr (8, [.null, .null, .null, .null, .null, .int 0, .int 0, .int 0]))] := hD
  have hK : va_K D vwCl [] s := hK
  refine W.widen (k := 1) (n := 8) (Nat.le_of_ble_eq_true rfl) (Nat.le_of_ble_eq_true rfl) ?_
  refine lv_dup hx hb dX1_init_8 rfl ?_
  have hPc := hP.sub (ws' := [(q1, .inr (8, [.null, .null, .null, .null, .null, .int 0, .int 0, .int 0]))]) [1] rfl
  have hKc := hK.sub (tys' := []) [] rfl
  have hDc := hD.sub (ws' := [(q1, .inr (8, [.null, .null, .null, .null, .null, .int 0, .int 0, .int 0]))]) [1] (by decide) rfl
  have hFc := va_free (wc := [(q1, .inr (8, [.null, .null, .null, .null, .null, .int 0, .int 0, .int 0]))]) hD hS hA [1] rfl
  refine va_callv (va_runIN (As := []) (rest := [.ref q1, .ref h0]) ⟨hx, hb, hml, hown, hts⟩ (c_X8_init l D q1 H.size) ⟨va_cnB 0 hts g_X1_init_X8_init rfl rfl rfl hN1_9 (hts (.initialized RX8) (List.mem_of_getElem? (i := 6) rfl)) (by decide +kernel) ⟨Nat.le_of_ble_eq_true rfl, Nat.le_of_ble_eq_true rfl⟩, rfl, (hts (.instanceMethod yX8_init) (List.mem_of_getElem? (i := 7) rfl))⟩ ⟨fun a U g mk q => by obtain ⟨q0, q1, qP, qK, qD⟩ := q; exact ⟨q0, q1, qP, va_K.moved (u := U) (U := U.calling g mk a) (Vm.Alike.refl U.vm) qK, qD⟩, fun U hU hW => ⟨rfl, by rw [hU], by rw [hU]; exact hPc, va_K.moved hW.alike hKc, hDc.weaken (fun _ _ _ _ => trivial)⟩⟩ rfl rfl hl.1 rfl (lv_room (Nat.le_of_ble_eq_true rfl)) dX1_init_9 ⟨Nat.le_of_ble_eq_true rfl, Nat.le_of_ble_eq_true rfl⟩) hS (fun q _ h => hFc q h) hFc (fun u t H1 locs ht hvm hw hB hz1 hk1 hS => ?_)
  obtain ⟨y3, y4, y5, y6, y7, y8, hP1, hK1, hD1⟩ := hB
  rw [ht] at hP1
  have hK1 := va_K.moved hvm.symm hK1
  obtain ⟨hP, hD⟩ := va_join (wr := [(h0, .inr (1, [.null, .null]))]) (w1 := [(q1, .inr (8, [.ref y3, .ref y4, .ref y5, .ref y6, .ref y7, .int 0, .int 0, .int 0])), (y3, .inl (y8, 5, .inl (fun _ => 0))), (y4, .inl (y8, 120, .inl (fun _ => 0))), (y5, .inl (y8, 32, .inl (fun _ => 0))), (y6, .inl (y8, 12, .inl (fun _ => 0))), (y7, .inl (y8, 12, .inl (fun _ => 0)))]) hP hD [1] [0] rfl rfl (by decide) (by decide) hk1 hFc hP1 hD1
  have hK := (hK.sub (tys' := []) [] rfl).app hK1
  generalize H1 = H at hP hS ⊢
  have hP : va_P D vwCl [(h0, .inr (1, [.null, .null])), (q1, .inr (8, [.ref y3, .ref y4, .ref y5, .ref y6, .ref y7, .int 0, .int 0, .int 0])), (y3, .inl (y8, 5, .inl (fun _ => 0))), (y4, .inl (y8, 120, .inl (fun _ => 0))), (y5, .inl (y8, 32, .inl (fun _ => 0))), (y6, .inl (y8, 12, .inl (fun _ => 0))), (y7, .inl (y8, 12, .inl (fun _ => 0)))] H := hP
  have hD : va_D A [(h0, .inr (1, [.null, .null])), (q1, .inr (8, [.ref y3, .ref y4, .ref y5, .ref y6, .ref y7, .int 0, .int 0, .int 0])), (y3, .inl (y8, 5, .inl (fun _ => 0))), (y4, .inl (y8, 120, .inl (fun _ => 0))), (y5, .inl (y8, 32, .inl (fun _ => 0))), (y6, .inl (y8, 12, .inl (fun _ => 0))), (y7, .inl (y8, 12, .inl (fun _ => 0)))] := hD
  have hK : va_K D vwCl [(y8, .int)] s := hK
  refine W.widen (k := 6) (n := 189) (Nat.le_of_ble_eq_true rfl) (Nat.le_of_ble_eq_true rfl) ?_
  refine va_putF (D := D) (ci := 1) (v := .ref q1) (ty := .object "LineCites$Work") (C := RX1) (T := TX1) (N := 2) hx hb hts (fun _ h => List.mem_cons_of_mem _ (List.mem_append_left _ (List.mem_append_right _ h))) tyX1 tyX1_ok nmX1 hown hK hP hD hS 0 rfl rfl 0 (by decide) (hts (.fieldLink RX1 10 "LineCites$Image" "work" "LLineCites$Work;") (List.mem_of_getElem? (i := 16) rfl)) (fun _ h9 => h9) rfl hin rfl (by decide +kernel) rfl rfl (Nat.le_of_ble_eq_true rfl) dX1_init_12 (fun H locs hP hD hS => ?_)
  have hP : va_P D vwCl [(h0, .inr (1, [.ref q1, .null])), (q1, .inr (8, [.ref y3, .ref y4, .ref y5, .ref y6, .ref y7, .int 0, .int 0, .int 0])), (y3, .inl (y8, 5, .inl (fun _ => 0))), (y4, .inl (y8, 120, .inl (fun _ => 0))), (y5, .inl (y8, 32, .inl (fun _ => 0))), (y6, .inl (y8, 12, .inl (fun _ => 0))), (y7, .inl (y8, 12, .inl (fun _ => 0)))] H := hP
  have hD : va_D A [(h0, .inr (1, [.ref q1, .null])), (q1, .inr (8, [.ref y3, .ref y4, .ref y5, .ref y6, .ref y7, .int 0, .int 0, .int 0])), (y3, .inl (y8, 5, .inl (fun _ => 0))), (y4, .inl (y8, 120, .inl (fun _ => 0))), (y5, .inl (y8, 32, .inl (fun _ => 0))), (y6, .inl (y8, 12, .inl (fun _ => 0))), (y7, .inl (y8, 12, .inl (fun _ => 0)))] := hD
  have hK : va_K D vwCl [(y8, .int)] s := hK
  refine lv_aload_n hx hb dX1_init_15 rfl (lv_at hl 0 rfl) ?_
  refine va_new (ci := 7) (fs := [.null, .int 0, .int 0]) (C := RX7) (T := TX7) (N := 3) hx hb hts (fun _ h => List.mem_cons_of_mem _ (List.mem_append_right _ h)) tyX7 tyX7_ok hown (hts (.classLink RX1 16 RX7) (List.mem_of_getElem? (i := 17) rfl)) (hts (.instantiable RX7 3) (List.mem_of_getElem? (i := 18) rfl)) (hts (.initialized RX7) (List.mem_of_getElem? (i := 19) rfl)) hK hP hD hS hA rfl (fun j hj => by rcases (show j = 0 ∨ j = 1 ∨ j = 2 by omega) with rfl | rfl | rfl <;> rfl) (Nat.le_of_ble_eq_true rfl) (Nat.le_of_ble_eq_true rfl) dX1_init_16 (fun q9 H hP hD hS => ?_)
  have hP : va_P D vwCl [(h0, .inr (1, [.ref q1, .null])), (q1, .inr (8, [.ref y3, .ref y4, .ref y5, .ref y6, .ref y7, .int 0, .int 0, .int 0])), (y3, .inl (y8, 5, .inl (fun _ => 0))), (y4, .inl (y8, 120, .inl (fun _ => 0))), (y5, .inl (y8, 32, .inl (fun _ => 0))), (y6, .inl (y8, 12, .inl (fun _ => 0))), (y7, .inl (y8, 12, .inl (fun _ => 0))), (q9, .inr (7, [.null, .int 0, .int 0]))] H := hP
  have hD : va_D A [(h0, .inr (1, [.ref q1, .null])), (q1, .inr (8, [.ref y3, .ref y4, .ref y5, .ref y6, .ref y7, .int 0, .int 0, .int 0])), (y3, .inl (y8, 5, .inl (fun _ => 0))), (y4, .inl (y8, 120, .inl (fun _ => 0))), (y5, .inl (y8, 32, .inl (fun _ => 0))), (y6, .inl (y8, 12, .inl (fun _ => 0))), (y7, .inl (y8, 12, .inl (fun _ => 0))), (q9, .inr (7, [.null, .int 0, .int 0]))] := hD
  have hK : va_K D vwCl [(y8, .int)] s := hK
  refine W.widen (k := 7) (n := 192) (Nat.le_of_ble_eq_true rfl) (Nat.le_of_ble_eq_true rfl) ?_
  refine lv_dup hx hb dX1_init_19 rfl ?_
  have hPc := hP.sub (ws' := [(q9, .inr (7, [.null, .int 0, .int 0]))]) [7] rfl
  have hKc := hK.sub (tys' := []) [] rfl
  have hDc := hD.sub (ws' := [(q9, .inr (7, [.null, .int 0, .int 0]))]) [7] (by decide) rfl
  have hFc := va_free (wc := [(q9, .inr (7, [.null, .int 0, .int 0]))]) hD hS hA [7] rfl
  refine va_callv (va_runIN (As := []) (rest := [.ref q9, .ref h0]) ⟨hx, hb, hml, hown, hts⟩ (c_X7_init l D q9 H.size) ⟨va_cnB 0 hts g_X1_init_X7_init rfl rfl rfl hN1_18 (hts (.initialized RX7) (List.mem_of_getElem? (i := 19) rfl)) (by decide +kernel) ⟨Nat.le_of_ble_eq_true rfl, Nat.le_of_ble_eq_true rfl⟩, rfl, (hts (.instanceMethod yX7_init) (List.mem_of_getElem? (i := 20) rfl))⟩ ⟨fun a U g mk q => by obtain ⟨q0, q1, qP, qK, qD⟩ := q; exact ⟨q0, q1, qP, va_K.moved (u := U) (U := U.calling g mk a) (Vm.Alike.refl U.vm) qK, qD⟩, fun U hU hW => ⟨rfl, by rw [hU], by rw [hU]; exact hPc, va_K.moved hW.alike hKc, hDc.weaken (fun _ _ _ _ => trivial)⟩⟩ rfl rfl hl.1 rfl (lv_room (Nat.le_of_ble_eq_true rfl)) dX1_init_20 ⟨Nat.le_of_ble_eq_true rfl, Nat.le_of_ble_eq_true rfl⟩) hS (fun q _ h => hFc q h) hFc (fun u t H1 locs ht hvm hw hB hz1 hk1 hS => ?_)
  obtain ⟨y11, y12, hP1, hK1, hD1⟩ := hB
  rw [ht] at hP1
  have hK1 := va_K.moved hvm.symm hK1
  obtain ⟨hP, hD⟩ := va_join (wr := [(h0, .inr (1, [.ref q1, .null])), (q1, .inr (8, [.ref y3, .ref y4, .ref y5, .ref y6, .ref y7, .int 0, .int 0, .int 0])), (y3, .inl (y8, 5, .inl (fun _ => 0))), (y4, .inl (y8, 120, .inl (fun _ => 0))), (y5, .inl (y8, 32, .inl (fun _ => 0))), (y6, .inl (y8, 12, .inl (fun _ => 0))), (y7, .inl (y8, 12, .inl (fun _ => 0)))]) (w1 := [(q9, .inr (7, [.ref y11, .int 0, .int 0])), (y11, .inl (y12, 200, .inl (fun _ => 0)))]) hP hD [7] [0, 1, 2, 3, 4, 5, 6] rfl rfl (by decide) (by decide) hk1 hFc hP1 hD1
  have hK := (hK.sub (tys' := [(y8, .int)]) [0] rfl).app hK1
  generalize H1 = H at hP hS ⊢
  have hP : va_P D vwCl [(h0, .inr (1, [.ref q1, .null])), (q1, .inr (8, [.ref y3, .ref y4, .ref y5, .ref y6, .ref y7, .int 0, .int 0, .int 0])), (y3, .inl (y8, 5, .inl (fun _ => 0))), (y4, .inl (y8, 120, .inl (fun _ => 0))), (y5, .inl (y8, 32, .inl (fun _ => 0))), (y6, .inl (y8, 12, .inl (fun _ => 0))), (y7, .inl (y8, 12, .inl (fun _ => 0))), (q9, .inr (7, [.ref y11, .int 0, .int 0])), (y11, .inl (y12, 200, .inl (fun _ => 0)))] H := hP
  have hD : va_D A [(h0, .inr (1, [.ref q1, .null])), (q1, .inr (8, [.ref y3, .ref y4, .ref y5, .ref y6, .ref y7, .int 0, .int 0, .int 0])), (y3, .inl (y8, 5, .inl (fun _ => 0))), (y4, .inl (y8, 120, .inl (fun _ => 0))), (y5, .inl (y8, 32, .inl (fun _ => 0))), (y6, .inl (y8, 12, .inl (fun _ => 0))), (y7, .inl (y8, 12, .inl (fun _ => 0))), (q9, .inr (7, [.ref y11, .int 0, .int 0])), (y11, .inl (y12, 200, .inl (fun _ => 0)))] := hD
  have hK : va_K D vwCl [(y8, .int), (y12, .byte)] s := hK
  refine W.widen (k := 8) (n := 392) (Nat.le_of_ble_eq_true rfl) (Nat.le_of_ble_eq_true rfl) ?_
  refine va_putF (D := D) (ci := 1) (v := .ref q9) (ty := .object "LineCites$Tape") (C := RX1) (T := TX1) (N := 2) hx hb hts (fun _ h => List.mem_cons_of_mem _ (List.mem_append_left _ (List.mem_append_right _ h))) tyX1 tyX1_ok nmX1 hown hK hP hD hS 0 rfl rfl 1 (by decide) (hts (.fieldLink RX1 19 "LineCites$Image" "tape" "LLineCites$Tape;") (List.mem_of_getElem? (i := 25) rfl)) (fun _ h9 => h9) rfl hin rfl (by decide +kernel) rfl rfl (Nat.le_of_ble_eq_true rfl) dX1_init_23 (fun H locs hP hD hS => ?_)
  have hP : va_P D vwCl [(h0, .inr (1, [.ref q1, .ref q9])), (q1, .inr (8, [.ref y3, .ref y4, .ref y5, .ref y6, .ref y7, .int 0, .int 0, .int 0])), (y3, .inl (y8, 5, .inl (fun _ => 0))), (y4, .inl (y8, 120, .inl (fun _ => 0))), (y5, .inl (y8, 32, .inl (fun _ => 0))), (y6, .inl (y8, 12, .inl (fun _ => 0))), (y7, .inl (y8, 12, .inl (fun _ => 0))), (q9, .inr (7, [.ref y11, .int 0, .int 0])), (y11, .inl (y12, 200, .inl (fun _ => 0)))] H := hP
  have hD : va_D A [(h0, .inr (1, [.ref q1, .ref q9])), (q1, .inr (8, [.ref y3, .ref y4, .ref y5, .ref y6, .ref y7, .int 0, .int 0, .int 0])), (y3, .inl (y8, 5, .inl (fun _ => 0))), (y4, .inl (y8, 120, .inl (fun _ => 0))), (y5, .inl (y8, 32, .inl (fun _ => 0))), (y6, .inl (y8, 12, .inl (fun _ => 0))), (y7, .inl (y8, 12, .inl (fun _ => 0))), (q9, .inr (7, [.ref y11, .int 0, .int 0])), (y11, .inl (y12, 200, .inl (fun _ => 0)))] := hD
  have hK : va_K D vwCl [(y8, .int), (y12, .byte)] s := hK
  have hP9 := hP.sub (ws' := [(h0, .inr (1, [.ref q1, .ref q9])), (q1, .inr (8, [.ref y3, .ref y4, .ref y5, .ref y6, .ref y7, .int 0, .int 0, .int 0])), (y3, .inl (y8, 5, .inl (fun _ => 0))), (y4, .inl (y8, 120, .inl (fun _ => 0))), (y5, .inl (y8, 32, .inl (fun _ => 0))), (y6, .inl (y8, 12, .inl (fun _ => 0))), (y7, .inl (y8, 12, .inl (fun _ => 0))), (q9, .inr (7, [.ref y11, .int 0, .int 0])), (y11, .inl (y12, 200, .inl (fun _ => 0)))]) [0, 1, 2, 3, 4, 5, 6, 7, 8] rfl
  have hD9 := hD.sub (ws' := [(h0, .inr (1, [.ref q1, .ref q9])), (q1, .inr (8, [.ref y3, .ref y4, .ref y5, .ref y6, .ref y7, .int 0, .int 0, .int 0])), (y3, .inl (y8, 5, .inl (fun _ => 0))), (y4, .inl (y8, 120, .inl (fun _ => 0))), (y5, .inl (y8, 32, .inl (fun _ => 0))), (y6, .inl (y8, 12, .inl (fun _ => 0))), (y7, .inl (y8, 12, .inl (fun _ => 0))), (q9, .inr (7, [.ref y11, .int 0, .int 0])), (y11, .inl (y12, 200, .inl (fun _ => 0)))]) [0, 1, 2, 3, 4, 5, 6, 7, 8] (by decide) rfl
  have hK9 := hK.sub (tys' := [(y8, .int), (y12, .byte)]) [0, 1] rfl
  refine W.widen (k := 8) (n := 392) (Nat.le_of_ble_eq_true rfl) (Nat.le_of_ble_eq_true rfl) ?_
  exact W.vret hx hb hr (fun t ht hW => ⟨⟨(), rfl, trivial, q1, q9, y3, y4, y5, y6, y7, y11, y8, y12, by rw [ht]; exact hP9, va_K.moved hW.alike hK9, hD9⟩, hS.F ht⟩) hS.2.2 dX1_init_26
