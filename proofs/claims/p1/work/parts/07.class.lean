theorem dX5_init_0 : decode cX5_init 0 = .ok (.aload_n 0, 1) := by decide +kernel
theorem dX5_init_1 : decode cX5_init 1 = .ok (.invokespecial 3, 3) := by decide +kernel
theorem dX5_init_4 : decode cX5_init 4 = .ok (.return_, 1) := by decide +kernel
theorem dX2_init_0 : decode cX2_init 0 = .ok (.aload_n 0, 1) := by decide +kernel
theorem dX2_init_1 : decode cX2_init 1 = .ok (.invokespecial 3, 3) := by decide +kernel
theorem dX2_init_4 : decode cX2_init 4 = .ok (.aload_n 0, 1) := by decide +kernel
theorem dX2_init_5 : decode cX2_init 5 = .ok (.sipush 1000, 3) := by decide +kernel
theorem dX2_init_8 : decode cX2_init 8 = .ok (.newarray .int, 2) := by decide +kernel
theorem dX2_init_10 : decode cX2_init 10 = .ok (.putfield 9, 3) := by decide +kernel
theorem dX2_init_13 : decode cX2_init 13 = .ok (.aload_n 0, 1) := by decide +kernel
theorem dX2_init_14 : decode cX2_init 14 = .ok (.new 15, 3) := by decide +kernel
theorem dX2_init_17 : decode cX2_init 17 = .ok (.dup, 1) := by decide +kernel
theorem dX2_init_18 : decode cX2_init 18 = .ok (.invokespecial 17, 3) := by decide +kernel
theorem dX2_init_21 : decode cX2_init 21 = .ok (.putfield 18, 3) := by decide +kernel
theorem dX2_init_24 : decode cX2_init 24 = .ok (.aload_n 0, 1) := by decide +kernel
theorem dX2_init_25 : decode cX2_init 25 = .ok (.iconst 1, 1) := by decide +kernel
theorem dX2_init_26 : decode cX2_init 26 = .ok (.putfield 22, 3) := by decide +kernel
theorem dX2_init_29 : decode cX2_init 29 = .ok (.return_, 1) := by decide +kernel
theorem dX6_init_0 : decode cX6_init 0 = .ok (.aload_n 0, 1) := by decide +kernel
theorem dX6_init_1 : decode cX6_init 1 = .ok (.invokespecial 3, 3) := by decide +kernel
theorem dX6_init_4 : decode cX6_init 4 = .ok (.aload_n 0, 1) := by decide +kernel
theorem dX6_init_5 : decode cX6_init 5 = .ok (.sipush 1000, 3) := by decide +kernel
theorem dX6_init_8 : decode cX6_init 8 = .ok (.newarray .int, 2) := by decide +kernel
theorem dX6_init_10 : decode cX6_init 10 = .ok (.putfield 9, 3) := by decide +kernel
theorem dX6_init_13 : decode cX6_init 13 = .ok (.aload_n 0, 1) := by decide +kernel
theorem dX6_init_14 : decode cX6_init 14 = .ok (.sipush 1000, 3) := by decide +kernel
theorem dX6_init_17 : decode cX6_init 17 = .ok (.newarray .int, 2) := by decide +kernel
theorem dX6_init_19 : decode cX6_init 19 = .ok (.putfield 15, 3) := by decide +kernel
theorem dX6_init_22 : decode cX6_init 22 = .ok (.aload_n 0, 1) := by decide +kernel
theorem dX6_init_23 : decode cX6_init 23 = .ok (.sipush 1000, 3) := by decide +kernel
theorem dX6_init_26 : decode cX6_init 26 = .ok (.newarray .int, 2) := by decide +kernel
theorem dX6_init_28 : decode cX6_init 28 = .ok (.putfield 18, 3) := by decide +kernel
theorem dX6_init_31 : decode cX6_init 31 = .ok (.return_, 1) := by decide +kernel
theorem dX3_init_0 : decode cX3_init 0 = .ok (.aload_n 0, 1) := by decide +kernel
theorem dX3_init_1 : decode cX3_init 1 = .ok (.invokespecial 3, 3) := by decide +kernel
theorem dX3_init_4 : decode cX3_init 4 = .ok (.aload_n 0, 1) := by decide +kernel
theorem dX3_init_5 : decode cX3_init 5 = .ok (.sipush 200, 3) := by decide +kernel
theorem dX3_init_8 : decode cX3_init 8 = .ok (.newarray .int, 2) := by decide +kernel
theorem dX3_init_10 : decode cX3_init 10 = .ok (.putfield 9, 3) := by decide +kernel
theorem dX3_init_13 : decode cX3_init 13 = .ok (.aload_n 0, 1) := by decide +kernel
theorem dX3_init_14 : decode cX3_init 14 = .ok (.sipush 200, 3) := by decide +kernel
theorem dX3_init_17 : decode cX3_init 17 = .ok (.newarray .int, 2) := by decide +kernel
theorem dX3_init_19 : decode cX3_init 19 = .ok (.putfield 15, 3) := by decide +kernel
theorem dX3_init_22 : decode cX3_init 22 = .ok (.return_, 1) := by decide +kernel
theorem dX0_init_0 : decode cX0_init 0 = .ok (.aload_n 0, 1) := by decide +kernel
theorem dX0_init_1 : decode cX0_init 1 = .ok (.invokespecial 3, 3) := by decide +kernel
theorem dX0_init_4 : decode cX0_init 4 = .ok (.aload_n 0, 1) := by decide +kernel
theorem dX0_init_5 : decode cX0_init 5 = .ok (.bipush 10, 2) := by decide +kernel
theorem dX0_init_7 : decode cX0_init 7 = .ok (.anewarray 9, 3) := by decide +kernel
theorem dX0_init_10 : decode cX0_init 10 = .ok (.putfield 11, 3) := by decide +kernel
theorem dX0_init_13 : decode cX0_init 13 = .ok (.return_, 1) := by decide +kernel
theorem dX7_init_0 : decode cX7_init 0 = .ok (.aload_n 0, 1) := by decide +kernel
theorem dX7_init_1 : decode cX7_init 1 = .ok (.invokespecial 3, 3) := by decide +kernel
theorem dX7_init_4 : decode cX7_init 4 = .ok (.aload_n 0, 1) := by decide +kernel
theorem dX7_init_5 : decode cX7_init 5 = .ok (.sipush 200, 3) := by decide +kernel
theorem dX7_init_8 : decode cX7_init 8 = .ok (.newarray .byte, 2) := by decide +kernel
theorem dX7_init_10 : decode cX7_init 10 = .ok (.putfield 9, 3) := by decide +kernel
theorem dX7_init_13 : decode cX7_init 13 = .ok (.return_, 1) := by decide +kernel
theorem dX8_init_0 : decode cX8_init 0 = .ok (.aload_n 0, 1) := by decide +kernel
theorem dX8_init_1 : decode cX8_init 1 = .ok (.invokespecial 3, 3) := by decide +kernel
theorem dX8_init_4 : decode cX8_init 4 = .ok (.aload_n 0, 1) := by decide +kernel
theorem dX8_init_5 : decode cX8_init 5 = .ok (.iconst 5, 1) := by decide +kernel
theorem dX8_init_6 : decode cX8_init 6 = .ok (.newarray .int, 2) := by decide +kernel
theorem dX8_init_8 : decode cX8_init 8 = .ok (.putfield 9, 3) := by decide +kernel
theorem dX8_init_11 : decode cX8_init 11 = .ok (.aload_n 0, 1) := by decide +kernel
theorem dX8_init_12 : decode cX8_init 12 = .ok (.bipush 120, 2) := by decide +kernel
theorem dX8_init_14 : decode cX8_init 14 = .ok (.newarray .int, 2) := by decide +kernel
theorem dX8_init_16 : decode cX8_init 16 = .ok (.putfield 15, 3) := by decide +kernel
theorem dX8_init_19 : decode cX8_init 19 = .ok (.aload_n 0, 1) := by decide +kernel
theorem dX8_init_20 : decode cX8_init 20 = .ok (.bipush 32, 2) := by decide +kernel
theorem dX8_init_22 : decode cX8_init 22 = .ok (.newarray .int, 2) := by decide +kernel
theorem dX8_init_24 : decode cX8_init 24 = .ok (.putfield 18, 3) := by decide +kernel
theorem dX8_init_27 : decode cX8_init 27 = .ok (.aload_n 0, 1) := by decide +kernel
theorem dX8_init_28 : decode cX8_init 28 = .ok (.bipush 12, 2) := by decide +kernel
theorem dX8_init_30 : decode cX8_init 30 = .ok (.newarray .int, 2) := by decide +kernel
theorem dX8_init_32 : decode cX8_init 32 = .ok (.putfield 21, 3) := by decide +kernel
theorem dX8_init_35 : decode cX8_init 35 = .ok (.aload_n 0, 1) := by decide +kernel
theorem dX8_init_36 : decode cX8_init 36 = .ok (.bipush 12, 2) := by decide +kernel
theorem dX8_init_38 : decode cX8_init 38 = .ok (.newarray .int, 2) := by decide +kernel
theorem dX8_init_40 : decode cX8_init 40 = .ok (.putfield 24, 3) := by decide +kernel
theorem dX8_init_43 : decode cX8_init 43 = .ok (.return_, 1) := by decide +kernel
theorem dX4_init_0 : decode cX4_init 0 = .ok (.aload_n 0, 1) := by decide +kernel
theorem dX4_init_1 : decode cX4_init 1 = .ok (.invokespecial 3, 3) := by decide +kernel
theorem dX4_init_4 : decode cX4_init 4 = .ok (.aload_n 0, 1) := by decide +kernel
theorem dX4_init_5 : decode cX4_init 5 = .ok (.aload_n 1, 1) := by decide +kernel
theorem dX4_init_6 : decode cX4_init 6 = .ok (.putfield 9, 3) := by decide +kernel
theorem dX4_init_9 : decode cX4_init 9 = .ok (.aload_n 0, 1) := by decide +kernel
theorem dX4_init_10 : decode cX4_init 10 = .ok (.aload_n 2, 1) := by decide +kernel
theorem dX4_init_11 : decode cX4_init 11 = .ok (.putfield 15, 3) := by decide +kernel
theorem dX4_init_14 : decode cX4_init 14 = .ok (.return_, 1) := by decide +kernel
theorem dX9_init_0 : decode cX9_init 0 = .ok (.aload_n 0, 1) := by decide +kernel
theorem dX9_init_1 : decode cX9_init 1 = .ok (.invokespecial 1, 3) := by decide +kernel
theorem dX9_init_4 : decode cX9_init 4 = .ok (.aload_n 0, 1) := by decide +kernel
theorem dX9_init_5 : decode cX9_init 5 = .ok (.new 7, 3) := by decide +kernel
theorem dX9_init_8 : decode cX9_init 8 = .ok (.dup, 1) := by decide +kernel
theorem dX9_init_9 : decode cX9_init 9 = .ok (.invokespecial 9, 3) := by decide +kernel
theorem dX9_init_12 : decode cX9_init 12 = .ok (.putfield 10, 3) := by decide +kernel
theorem dX9_init_15 : decode cX9_init 15 = .ok (.aload_n 0, 1) := by decide +kernel
theorem dX9_init_16 : decode cX9_init 16 = .ok (.new 16, 3) := by decide +kernel
theorem dX9_init_19 : decode cX9_init 19 = .ok (.dup, 1) := by decide +kernel
theorem dX9_init_20 : decode cX9_init 20 = .ok (.invokespecial 18, 3) := by decide +kernel
theorem dX9_init_23 : decode cX9_init 23 = .ok (.putfield 19, 3) := by decide +kernel
theorem dX9_init_26 : decode cX9_init 26 = .ok (.aload_n 0, 1) := by decide +kernel
theorem dX9_init_27 : decode cX9_init 27 = .ok (.new 16, 3) := by decide +kernel
theorem dX9_init_30 : decode cX9_init 30 = .ok (.dup, 1) := by decide +kernel
theorem dX9_init_31 : decode cX9_init 31 = .ok (.invokespecial 18, 3) := by decide +kernel
theorem dX9_init_34 : decode cX9_init 34 = .ok (.putfield 23, 3) := by decide +kernel
theorem dX9_init_37 : decode cX9_init 37 = .ok (.aload_n 0, 1) := by decide +kernel
theorem dX9_init_38 : decode cX9_init 38 = .ok (.new 26, 3) := by decide +kernel
theorem dX9_init_41 : decode cX9_init 41 = .ok (.dup, 1) := by decide +kernel
theorem dX9_init_42 : decode cX9_init 42 = .ok (.aload_n 0, 1) := by decide +kernel
theorem dX9_init_43 : decode cX9_init 43 = .ok (.getfield 10, 3) := by decide +kernel
theorem dX9_init_46 : decode cX9_init 46 = .ok (.aload_n 0, 1) := by decide +kernel
theorem dX9_init_47 : decode cX9_init 47 = .ok (.getfield 23, 3) := by decide +kernel
theorem dX9_init_50 : decode cX9_init 50 = .ok (.invokespecial 28, 3) := by decide +kernel
theorem dX9_init_53 : decode cX9_init 53 = .ok (.putfield 31, 3) := by decide +kernel
theorem dX9_init_56 : decode cX9_init 56 = .ok (.aload_n 0, 1) := by decide +kernel
theorem dX9_init_57 : decode cX9_init 57 = .ok (.new 35, 3) := by decide +kernel
theorem dX9_init_60 : decode cX9_init 60 = .ok (.dup, 1) := by decide +kernel
theorem dX9_init_61 : decode cX9_init 61 = .ok (.invokespecial 37, 3) := by decide +kernel
theorem dX9_init_64 : decode cX9_init 64 = .ok (.putfield 38, 3) := by decide +kernel
theorem dX9_init_67 : decode cX9_init 67 = .ok (.aload_n 0, 1) := by decide +kernel
theorem dX9_init_68 : decode cX9_init 68 = .ok (.iconst 2, 1) := by decide +kernel
theorem dX9_init_69 : decode cX9_init 69 = .ok (.anewarray 42, 3) := by decide +kernel
theorem dX9_init_72 : decode cX9_init 72 = .ok (.putfield 44, 3) := by decide +kernel
theorem dX9_init_75 : decode cX9_init 75 = .ok (.aload_n 0, 1) := by decide +kernel
theorem dX9_init_76 : decode cX9_init 76 = .ok (.new 48, 3) := by decide +kernel
theorem dX9_init_79 : decode cX9_init 79 = .ok (.dup, 1) := by decide +kernel
theorem dX9_init_80 : decode cX9_init 80 = .ok (.invokespecial 50, 3) := by decide +kernel
theorem dX9_init_83 : decode cX9_init 83 = .ok (.putfield 51, 3) := by decide +kernel
theorem dX9_init_86 : decode cX9_init 86 = .ok (.aload_n 0, 1) := by decide +kernel
theorem dX9_init_87 : decode cX9_init 87 = .ok (.new 48, 3) := by decide +kernel
theorem dX9_init_90 : decode cX9_init 90 = .ok (.dup, 1) := by decide +kernel
theorem dX9_init_91 : decode cX9_init 91 = .ok (.invokespecial 50, 3) := by decide +kernel
theorem dX9_init_94 : decode cX9_init 94 = .ok (.putfield 55, 3) := by decide +kernel
theorem dX9_init_97 : decode cX9_init 97 = .ok (.aload_n 0, 1) := by decide +kernel
theorem dX9_init_98 : decode cX9_init 98 = .ok (.new 48, 3) := by decide +kernel
theorem dX9_init_101 : decode cX9_init 101 = .ok (.dup, 1) := by decide +kernel
theorem dX9_init_102 : decode cX9_init 102 = .ok (.invokespecial 50, 3) := by decide +kernel
theorem dX9_init_105 : decode cX9_init 105 = .ok (.putfield 58, 3) := by decide +kernel
theorem dX9_init_108 : decode cX9_init 108 = .ok (.aload_n 0, 1) := by decide +kernel
theorem dX9_init_109 : decode cX9_init 109 = .ok (.new 61, 3) := by decide +kernel
theorem dX9_init_112 : decode cX9_init 112 = .ok (.dup, 1) := by decide +kernel
theorem dX9_init_113 : decode cX9_init 113 = .ok (.invokespecial 63, 3) := by decide +kernel
theorem dX9_init_116 : decode cX9_init 116 = .ok (.putfield 64, 3) := by decide +kernel
theorem dX9_init_119 : decode cX9_init 119 = .ok (.aload_n 0, 1) := by decide +kernel
theorem dX9_init_120 : decode cX9_init 120 = .ok (.new 61, 3) := by decide +kernel
theorem dX9_init_123 : decode cX9_init 123 = .ok (.dup, 1) := by decide +kernel
theorem dX9_init_124 : decode cX9_init 124 = .ok (.invokespecial 63, 3) := by decide +kernel
theorem dX9_init_127 : decode cX9_init 127 = .ok (.putfield 68, 3) := by decide +kernel
theorem dX9_init_130 : decode cX9_init 130 = .ok (.aload_n 0, 1) := by decide +kernel
theorem dX9_init_131 : decode cX9_init 131 = .ok (.new 71, 3) := by decide +kernel
theorem dX9_init_134 : decode cX9_init 134 = .ok (.dup, 1) := by decide +kernel
theorem dX9_init_135 : decode cX9_init 135 = .ok (.invokespecial 73, 3) := by decide +kernel
theorem dX9_init_138 : decode cX9_init 138 = .ok (.putfield 74, 3) := by decide +kernel
theorem dX9_init_141 : decode cX9_init 141 = .ok (.aload_n 0, 1) := by decide +kernel
theorem dX9_init_142 : decode cX9_init 142 = .ok (.new 78, 3) := by decide +kernel
theorem dX9_init_145 : decode cX9_init 145 = .ok (.dup, 1) := by decide +kernel
theorem dX9_init_146 : decode cX9_init 146 = .ok (.invokespecial 80, 3) := by decide +kernel
theorem dX9_init_149 : decode cX9_init 149 = .ok (.putfield 81, 3) := by decide +kernel
theorem dX9_init_152 : decode cX9_init 152 = .ok (.aload_n 0, 1) := by decide +kernel
theorem dX9_init_153 : decode cX9_init 153 = .ok (.new 78, 3) := by decide +kernel
theorem dX9_init_156 : decode cX9_init 156 = .ok (.dup, 1) := by decide +kernel
theorem dX9_init_157 : decode cX9_init 157 = .ok (.invokespecial 80, 3) := by decide +kernel
theorem dX9_init_160 : decode cX9_init 160 = .ok (.putfield 85, 3) := by decide +kernel
theorem dX9_init_163 : decode cX9_init 163 = .ok (.return_, 1) := by decide +kernel
def w_X5_init : List Cond := .code yX5_init cX5_init 1 none :: ([.methodLink RX5 3 objectInit, .instanceMethod objectInit, .code objectInit ⟨#[0xb1]⟩ 1 none])
set_option maxHeartbeats 4000000 in
set_option maxRecDepth 100000 in
theorem c_X5_init (l : Launch) (D : va_G) (h0 : Nat) (sz : Nat) : Met l yX5_init w_X5_init ({ frames := 1, cells := 0, slots := 0, locals := 12 }) (va_Pc [.ref h0] (fun U => U.heap.size = sz ∧ va_P D vwCl [(h0, .inr (5, [.int 0, .int 0, .int 0]))] U.heap ∧ va_K D vwCl [] U ∧ va_D (fun _ => True) [(h0, .inr (5, [.int 0, .int 0, .int 0]))])) (va_Qv (fun (_ : Unit) => True) (fun (_ : Unit) t => va_P D vwCl [] t.heap ∧ va_K D vwCl [] t ∧ va_D (va_A [(h0, .inr (5, [.int 0, .int 0, .int 0]))] sz) []) (va_A [(h0, .inr (5, [.int 0, .int 0, .int 0]))] sz)) 0 0 (va_A [(h0, .inr (5, [.int 0, .int 0, .int 0]))] sz) := by
  refine Met.ofW (cc := cX5_init) (maxL := 1) (ret := none) (by decide) rfl ?_
  intro p e s m args below meth c s₁ B hml hv
  obtain ⟨rfl, hsz, hP, hK, hD0⟩ := hv
  have hx := B.exec
  have hb := B.bytes
  have hr := B.returns
  have hts := atoms_spec (ws := w_X5_init) B.pre
  have hown : s.vm.findClass RX5 = some m.cls := findClass_of_methodNamed B.named
  have hlocks := B.notSynchronized
  have hin : meth.name = "<init>" := (name_of_methodNamed B.named B.method).1
  subst hsz
  have hD := hD0.self (sz := s.heap.size)
  generalize hAe : va_A [(h0, .inr (5, [.int 0, .int 0, .int 0]))] s.heap.size = A at hD ⊢
  have hA : ∀ q : Nat, s.heap.size ≤ q → A q := fun q h => by rw [← hAe]; exact Or.inr h
  have hS : va_S A s.heap s.heap [] := va_S.rf
  have hP : va_P D vwCl [(h0, .inr (5, [.int 0, .int 0, .int 0]))] s.heap := hP
  have hl := lv_entry ([.ref h0]) (n := 1) (Nat.le_of_ble_eq_true rfl)
  rw [lg_entry_eq]
  generalize (lg_sl ([.ref h0]) ++ List.replicate (1 - (lg_sl ([.ref h0])).length) Slot.unset).toArray = ls at hl ⊢
  have hl : lv_has ls 1 [(0, .ref h0)] := hl
  obtain ⟨H, hHe⟩ : ∃ H : Heap, H = s.heap := ⟨_, rfl⟩
  rw [← hHe] at hP
  have hS : va_S A s.heap H [] := by rw [hHe]; exact hS
  refine pw_heap hHe ?_
  refine lv_aload_n hx hb dX5_init_0 rfl (lv_at hl 0 rfl) ?_
  refine W.objInit hx hb hown (hts (.methodLink RX5 3 objectInit) (List.mem_of_getElem? (i := 1) rfl)) (hts (.instanceMethod objectInit) (List.mem_of_getElem? (i := 2) rfl)) (hts (.code objectInit ⟨#[0xb1]⟩ 1 none) (List.mem_of_getElem? (i := 3) rfl)) rfl (by rw [hml]; exact hl.1) rfl dX5_init_1 (Nat.le_of_ble_eq_true rfl) (Nat.le_of_ble_eq_true rfl) ?_
  refine W.eq (g2 := F0 m 4 ls []) rfl ?_
  have hP9 := hP.sub (ws' := []) [] rfl
  have hD9 := hD.sub (ws' := []) [] (by decide) rfl
  have hK9 := hK.sub (tys' := []) [] rfl
  refine W.widen (k := 0) (n := 0) (Nat.le_of_ble_eq_true rfl) (Nat.le_of_ble_eq_true rfl) ?_
  exact W.vret hx hb hr (fun t ht hW => ⟨⟨(), rfl, trivial, by rw [ht]; exact hP9, va_K.moved hW.alike hK9, hD9⟩, hS.F ht⟩) hS.2.2 dX5_init_4
def w_X2_init : List Cond := .code yX2_init cX2_init 1 none :: ([.methodLink RX2 3 objectInit, .instanceMethod objectInit, .code objectInit ⟨#[0xb1]⟩ 1 none, .arrayClass .int, .fieldLink RX2 9 "LineCites$NumberSet" "marks" "[I", .classLink RX2 15 RX5, .instantiable RX5 3, .initialized RX5, .instanceMethod yX5_init, .code yX5_init cX5_init 1 none, .methodLink RX5 3 objectInit, .fieldLink RX2 18 "LineCites$NumberSet" "span" "LLineCites$Span;", .fieldLink RX2 22 "LineCites$NumberSet" "round" "I"] ++ wsX20 ++ wsX50)
set_option maxRecDepth 20000 in
theorem g_X2_init_X5_init : GoodIn w_X2_init w_X5_init := goodIn_r _ [10, 11, 2, 3] rfl (by decide +kernel)
set_option maxHeartbeats 4000000 in
set_option maxRecDepth 100000 in
theorem c_X2_init (l : Launch) (D : va_G) (h0 : Nat) (sz : Nat) : Met l yX2_init w_X2_init ({ frames := 2, cells := 2, slots := 1003, locals := 32 }) (va_Pc [.ref h0] (fun U => U.heap.size = sz ∧ va_P D vwCl [(h0, .inr (2, [.null, .null, .int 0]))] U.heap ∧ va_K D vwCl [] U ∧ va_D (fun _ => True) [(h0, .inr (2, [.null, .null, .int 0]))] ∧ va_Nw (.methodLinkNest RX2 17 yX5_init "LineCites") U)) (va_Qv (fun (_ : Unit) => True) (fun (_ : Unit) t => va_P D vwCl [] t.heap ∧ va_K D vwCl [] t ∧ va_D (va_A [(h0, .inr (2, [.null, .null, .int 0]))] sz) []) (va_A [(h0, .inr (2, [.null, .null, .int 0]))] sz)) 2 1003 (va_A [(h0, .inr (2, [.null, .null, .int 0]))] sz) := by
  refine Met.ofW (cc := cX2_init) (maxL := 1) (ret := none) (by decide) rfl ?_
  intro p e s m args below meth c s₁ B hml hv
  obtain ⟨rfl, hsz, hP, hK, hD0, hN2_17⟩ := hv
  have hx := B.exec
  have hb := B.bytes
  have hr := B.returns
  have hts := atoms_spec (ws := w_X2_init) B.pre
  have hown : s.vm.findClass RX2 = some m.cls := findClass_of_methodNamed B.named
  have hlocks := B.notSynchronized
  have hin : meth.name = "<init>" := (name_of_methodNamed B.named B.method).1
  subst hsz
  have hD := hD0.self (sz := s.heap.size)
  generalize hAe : va_A [(h0, .inr (2, [.null, .null, .int 0]))] s.heap.size = A at hD ⊢
  have hA : ∀ q : Nat, s.heap.size ≤ q → A q := fun q h => by rw [← hAe]; exact Or.inr h
  have hS : va_S A s.heap s.heap [] := va_S.rf
  have hP : va_P D vwCl [(h0, .inr (2, [.null, .null, .int 0]))] s.heap := hP
  have hl := lv_entry ([.ref h0]) (n := 1) (Nat.le_of_ble_eq_true rfl)
  rw [lg_entry_eq]
  generalize (lg_sl ([.ref h0]) ++ List.replicate (1 - (lg_sl ([.ref h0])).length) Slot.unset).toArray = ls at hl ⊢
  have hl : lv_has ls 1 [(0, .ref h0)] := hl
  obtain ⟨H, hHe⟩ : ∃ H : Heap, H = s.heap := ⟨_, rfl⟩
  rw [← hHe] at hP
  have hS : va_S A s.heap H [] := by rw [hHe]; exact hS
  refine pw_heap hHe ?_
  refine lv_aload_n hx hb dX2_init_0 rfl (lv_at hl 0 rfl) ?_
  refine W.objInit hx hb hown (hts (.methodLink RX2 3 objectInit) (List.mem_of_getElem? (i := 1) rfl)) (hts (.instanceMethod objectInit) (List.mem_of_getElem? (i := 2) rfl)) (hts (.code objectInit ⟨#[0xb1]⟩ 1 none) (List.mem_of_getElem? (i := 3) rfl)) rfl (by rw [hml]; exact hl.1) rfl dX2_init_1 (Nat.le_of_ble_eq_true rfl) (Nat.le_of_ble_eq_true rfl) ?_
  refine W.eq (g2 := F0 m 4 ls []) rfl ?_
  refine lv_aload_n hx hb dX2_init_4 rfl (lv_at hl 0 rfl) ?_
  refine lv_sipush (v := 1000) hx hb dX2_init_5 (by decide) ?_
  refine va_newa (atype := .int) (ty := .int) (a0 := (1000, .inl (fun _ => 0))) (N' := 1000) hx hb (hts (.arrayClass .int) (List.mem_of_getElem? (i := 4) rfl)) rfl hK hP hD hS hA (fun _ => rfl) (by decide) (by decide) (Nat.le_of_ble_eq_true rfl) (Nat.le_of_ble_eq_true rfl) (Nat.le_of_ble_eq_true rfl) dX2_init_8 (fun q1 k2 H hK hP hD hS => ?_)
  have hP : va_P D vwCl [(h0, .inr (2, [.null, .null, .int 0])), (q1, .inl (k2, 1000, .inl (fun _ => 0)))] H := hP
  have hD : va_D A [(h0, .inr (2, [.null, .null, .int 0])), (q1, .inl (k2, 1000, .inl (fun _ => 0)))] := hD
  have hK : va_K D vwCl [(k2, .int)] s := hK
  refine W.widen (k := 1) (n := 1000) (Nat.le_of_ble_eq_true rfl) (Nat.le_of_ble_eq_true rfl) ?_
  refine va_putF (D := D) (ci := 2) (v := .ref q1) (ty := .array .int) (C := RX2) (T := TX2) (N := 3) hx hb hts (fun _ h => List.mem_cons_of_mem _ (List.mem_append_left _ (List.mem_append_right _ h))) tyX2 tyX2_ok nmX2 hown hK hP hD hS 0 rfl rfl 0 (by decide) (hts (.fieldLink RX2 9 "LineCites$NumberSet" "marks" "[I") (List.mem_of_getElem? (i := 5) rfl)) (fun _ h9 => h9) rfl hin rfl (by decide +kernel) rfl rfl (Nat.le_of_ble_eq_true rfl) dX2_init_10 (fun H locs hP hD hS => ?_)
  have hP : va_P D vwCl [(h0, .inr (2, [.ref q1, .null, .int 0])), (q1, .inl (k2, 1000, .inl (fun _ => 0)))] H := hP
  have hD : va_D A [(h0, .inr (2, [.ref q1, .null, .int 0])), (q1, .inl (k2, 1000, .inl (fun _ => 0)))] := hD
  have hK : va_K D vwCl [(k2, .int)] s := hK
  refine lv_aload_n hx hb dX2_init_13 rfl (lv_at hl 0 rfl) ?_
  refine va_new (ci := 5) (fs := [.int 0, .int 0, .int 0]) (C := RX5) (T := TX5) (N := 3) hx hb hts (fun _ h => List.mem_cons_of_mem _ (List.mem_append_right _ h)) tyX5 tyX5_ok hown (hts (.classLink RX2 15 RX5) (List.mem_of_getElem? (i := 6) rfl)) (hts (.instantiable RX5 3) (List.mem_of_getElem? (i := 7) rfl)) (hts (.initialized RX5) (List.mem_of_getElem? (i := 8) rfl)) hK hP hD hS hA rfl (fun j hj => by rcases (show j = 0 ∨ j = 1 ∨ j = 2 by omega) with rfl | rfl | rfl <;> rfl) (Nat.le_of_ble_eq_true rfl) (Nat.le_of_ble_eq_true rfl) dX2_init_14 (fun q3 H hP hD hS => ?_)
  have hP : va_P D vwCl [(h0, .inr (2, [.ref q1, .null, .int 0])), (q1, .inl (k2, 1000, .inl (fun _ => 0))), (q3, .inr (5, [.int 0, .int 0, .int 0]))] H := hP
  have hD : va_D A [(h0, .inr (2, [.ref q1, .null, .int 0])), (q1, .inl (k2, 1000, .inl (fun _ => 0))), (q3, .inr (5, [.int 0, .int 0, .int 0]))] := hD
  have hK : va_K D vwCl [(k2, .int)] s := hK
  refine W.widen (k := 2) (n := 1003) (Nat.le_of_ble_eq_true rfl) (Nat.le_of_ble_eq_true rfl) ?_
  refine lv_dup hx hb dX2_init_17 rfl ?_
  have hPc := hP.sub (ws' := [(q3, .inr (5, [.int 0, .int 0, .int 0]))]) [2] rfl
  have hKc := hK.sub (tys' := []) [] rfl
  have hDc := hD.sub (ws' := [(q3, .inr (5, [.int 0, .int 0, .int 0]))]) [2] (by decide) rfl
  have hFc := va_free (wc := [(q3, .inr (5, [.int 0, .int 0, .int 0]))]) hD hS hA [2] rfl
  refine va_callv (va_runIN (As := []) (rest := [.ref q3, .ref h0]) ⟨hx, hb, hml, hown, hts⟩ (c_X5_init l D q3 H.size) ⟨va_cnB 0 hts g_X2_init_X5_init rfl rfl rfl hN2_17 (hts (.initialized RX5) (List.mem_of_getElem? (i := 8) rfl)) (by decide +kernel) ⟨Nat.le_of_ble_eq_true rfl, Nat.le_of_ble_eq_true rfl⟩, rfl, (hts (.instanceMethod yX5_init) (List.mem_of_getElem? (i := 9) rfl))⟩ ⟨fun a U g mk q => by obtain ⟨q0, q1, qP, qK, qD⟩ := q; exact ⟨q0, q1, qP, va_K.moved (u := U) (U := U.calling g mk a) (Vm.Alike.refl U.vm) qK, qD⟩, fun U hU hW => ⟨rfl, by rw [hU], by rw [hU]; exact hPc, va_K.moved hW.alike hKc, hDc.weaken (fun _ _ _ _ => trivial)⟩⟩ rfl rfl hl.1 rfl (lv_room (Nat.le_of_ble_eq_true rfl)) dX2_init_18 ⟨Nat.le_of_ble_eq_true rfl, Nat.le_of_ble_eq_true rfl⟩) hS (fun q _ h => hFc q h) hFc (fun u t H1 locs ht hvm hw hB hz1 hk1 hS => ?_)
  obtain ⟨hP1, hK1, hD1⟩ := hB
  rw [ht] at hP1
  have hK1 := va_K.moved hvm.symm hK1
  obtain ⟨hP, hD⟩ := va_join (wr := [(h0, .inr (2, [.ref q1, .null, .int 0])), (q1, .inl (k2, 1000, .inl (fun _ => 0)))]) (w1 := []) hP hD [2] [0, 1] rfl rfl (by decide) (by decide) hk1 hFc hP1 hD1
  have hK := (hK.sub (tys' := [(k2, .int)]) [0] rfl).app hK1
  generalize H1 = H at hP hS ⊢
  have hP : va_P D vwCl [(h0, .inr (2, [.ref q1, .null, .int 0])), (q1, .inl (k2, 1000, .inl (fun _ => 0)))] H := hP
  have hD : va_D A [(h0, .inr (2, [.ref q1, .null, .int 0])), (q1, .inl (k2, 1000, .inl (fun _ => 0)))] := hD
  have hK : va_K D vwCl [(k2, .int)] s := hK
  refine W.widen (k := 2) (n := 1003) (Nat.le_of_ble_eq_true rfl) (Nat.le_of_ble_eq_true rfl) ?_
  refine va_putF (D := D) (ci := 2) (v := .ref q3) (ty := .object "LineCites$Span") (C := RX2) (T := TX2) (N := 3) hx hb hts (fun _ h => List.mem_cons_of_mem _ (List.mem_append_left _ (List.mem_append_right _ h))) tyX2 tyX2_ok nmX2 hown hK hP hD hS 0 rfl rfl 1 (by decide) (hts (.fieldLink RX2 18 "LineCites$NumberSet" "span" "LLineCites$Span;") (List.mem_of_getElem? (i := 12) rfl)) (fun _ h9 => h9) rfl hin rfl (by decide +kernel) rfl rfl (Nat.le_of_ble_eq_true rfl) dX2_init_21 (fun H locs hP hD hS => ?_)
  have hP : va_P D vwCl [(h0, .inr (2, [.ref q1, .ref q3, .int 0])), (q1, .inl (k2, 1000, .inl (fun _ => 0)))] H := hP
  have hD : va_D A [(h0, .inr (2, [.ref q1, .ref q3, .int 0])), (q1, .inl (k2, 1000, .inl (fun _ => 0)))] := hD
  have hK : va_K D vwCl [(k2, .int)] s := hK
  refine lv_aload_n hx hb dX2_init_24 rfl (lv_at hl 0 rfl) ?_
  refine lv_iconst (v := 1) hx hb dX2_init_25 (by decide) ?_
  refine va_put (D := D) (ci := 2) (v := .int 1) (ty := .int) (C := RX2) (T := TX2) (N := 3) hx hb hts (fun _ h => List.mem_cons_of_mem _ (List.mem_append_left _ (List.mem_append_right _ h))) tyX2 tyX2_ok nmX2 hown hK hP hD hS 0 rfl rfl 2 (by decide) (hts (.fieldLink RX2 22 "LineCites$NumberSet" "round" "I") (List.mem_of_getElem? (i := 13) rfl)) (fun _ h9 => h9) rfl (by decide +kernel) rfl rfl (Nat.le_of_ble_eq_true rfl) dX2_init_26 (fun H locs hP hD hS => ?_)
  have hP : va_P D vwCl [(h0, .inr (2, [.ref q1, .ref q3, .int 1])), (q1, .inl (k2, 1000, .inl (fun _ => 0)))] H := hP
  have hD : va_D A [(h0, .inr (2, [.ref q1, .ref q3, .int 1])), (q1, .inl (k2, 1000, .inl (fun _ => 0)))] := hD
  have hK : va_K D vwCl [(k2, .int)] s := hK
  have hP9 := hP.sub (ws' := []) [] rfl
  have hD9 := hD.sub (ws' := []) [] (by decide) rfl
  have hK9 := hK.sub (tys' := []) [] rfl
  refine W.widen (k := 2) (n := 1003) (Nat.le_of_ble_eq_true rfl) (Nat.le_of_ble_eq_true rfl) ?_
  exact W.vret hx hb hr (fun t ht hW => ⟨⟨(), rfl, trivial, by rw [ht]; exact hP9, va_K.moved hW.alike hK9, hD9⟩, hS.F ht⟩) hS.2.2 dX2_init_29
def w_X6_init : List Cond := .code yX6_init cX6_init 1 none :: ([.methodLink RX6 3 objectInit, .instanceMethod objectInit, .code objectInit ⟨#[0xb1]⟩ 1 none, .arrayClass .int, .fieldLink RX6 9 "LineCites$Spans" "sizes" "[I", .fieldLink RX6 15 "LineCites$Spans" "leasts" "[I", .fieldLink RX6 18 "LineCites$Spans" "greatests" "[I"] ++ wsX60)
set_option maxHeartbeats 4000000 in
set_option maxRecDepth 100000 in
theorem c_X6_init (l : Launch) (D : va_G) (h0 : Nat) (sz : Nat) : Met l yX6_init w_X6_init ({ frames := 1, cells := 3, slots := 3000, locals := 12 }) (va_Pc [.ref h0] (fun U => U.heap.size = sz ∧ va_P D vwCl [(h0, .inr (6, [.null, .null, .null, .int 0, .int 0, .int 0, .int 0, .int 0]))] U.heap ∧ va_K D vwCl [] U ∧ va_D (fun _ => True) [(h0, .inr (6, [.null, .null, .null, .int 0, .int 0, .int 0, .int 0, .int 0]))])) (va_Qv (fun (_ : Unit) => True) (fun (_ : Unit) t => va_P D vwCl [] t.heap ∧ va_K D vwCl [] t ∧ va_D (va_A [(h0, .inr (6, [.null, .null, .null, .int 0, .int 0, .int 0, .int 0, .int 0]))] sz) []) (va_A [(h0, .inr (6, [.null, .null, .null, .int 0, .int 0, .int 0, .int 0, .int 0]))] sz)) 3 3000 (va_A [(h0, .inr (6, [.null, .null, .null, .int 0, .int 0, .int 0, .int 0, .int 0]))] sz) := by
  refine Met.ofW (cc := cX6_init) (maxL := 1) (ret := none) (by decide) rfl ?_
  intro p e s m args below meth c s₁ B hml hv
  obtain ⟨rfl, hsz, hP, hK, hD0⟩ := hv
  have hx := B.exec
  have hb := B.bytes
  have hr := B.returns
  have hts := atoms_spec (ws := w_X6_init) B.pre
  have hown : s.vm.findClass RX6 = some m.cls := findClass_of_methodNamed B.named
  have hlocks := B.notSynchronized
  have hin : meth.name = "<init>" := (name_of_methodNamed B.named B.method).1
  subst hsz
  have hD := hD0.self (sz := s.heap.size)
  generalize hAe : va_A [(h0, .inr (6, [.null, .null, .null, .int 0, .int 0, .int 0, .int 0, .int 0]))] s.heap.size = A at hD ⊢
  have hA : ∀ q : Nat, s.heap.size ≤ q → A q := fun q h => by rw [← hAe]; exact Or.inr h
  have hS : va_S A s.heap s.heap [] := va_S.rf
  have hP : va_P D vwCl [(h0, .inr (6, [.null, .null, .null, .int 0, .int 0, .int 0, .int 0, .int 0]))] s.heap := hP
  have hl := lv_entry ([.ref h0]) (n := 1) (Nat.le_of_ble_eq_true rfl)
  rw [lg_entry_eq]
  generalize (lg_sl ([.ref h0]) ++ List.replicate (1 - (lg_sl ([.ref h0])).length) Slot.unset).toArray = ls at hl ⊢
  have hl : lv_has ls 1 [(0, .ref h0)] := hl
  obtain ⟨H, hHe⟩ : ∃ H : Heap, H = s.heap := ⟨_, rfl⟩
  rw [← hHe] at hP
  have hS : va_S A s.heap H [] := by rw [hHe]; exact hS
  refine pw_heap hHe ?_
  refine lv_aload_n hx hb dX6_init_0 rfl (lv_at hl 0 rfl) ?_
  refine W.objInit hx hb hown (hts (.methodLink RX6 3 objectInit) (List.mem_of_getElem? (i := 1) rfl)) (hts (.instanceMethod objectInit) (List.mem_of_getElem? (i := 2) rfl)) (hts (.code objectInit ⟨#[0xb1]⟩ 1 none) (List.mem_of_getElem? (i := 3) rfl)) rfl (by rw [hml]; exact hl.1) rfl dX6_init_1 (Nat.le_of_ble_eq_true rfl) (Nat.le_of_ble_eq_true rfl) ?_
  refine W.eq (g2 := F0 m 4 ls []) rfl ?_
  refine lv_aload_n hx hb dX6_init_4 rfl (lv_at hl 0 rfl) ?_
  refine lv_sipush (v := 1000) hx hb dX6_init_5 (by decide) ?_
  refine va_newa (atype := .int) (ty := .int) (a0 := (1000, .inl (fun _ => 0))) (N' := 1000) hx hb (hts (.arrayClass .int) (List.mem_of_getElem? (i := 4) rfl)) rfl hK hP hD hS hA (fun _ => rfl) (by decide) (by decide) (Nat.le_of_ble_eq_true rfl) (Nat.le_of_ble_eq_true rfl) (Nat.le_of_ble_eq_true rfl) dX6_init_8 (fun q1 k2 H hK hP hD hS => ?_)
  have hP : va_P D vwCl [(h0, .inr (6, [.null, .null, .null, .int 0, .int 0, .int 0, .int 0, .int 0])), (q1, .inl (k2, 1000, .inl (fun _ => 0)))] H := hP
  have hD : va_D A [(h0, .inr (6, [.null, .null, .null, .int 0, .int 0, .int 0, .int 0, .int 0])), (q1, .inl (k2, 1000, .inl (fun _ => 0)))] := hD
  have hK : va_K D vwCl [(k2, .int)] s := hK
  refine W.widen (k := 1) (n := 1000) (Nat.le_of_ble_eq_true rfl) (Nat.le_of_ble_eq_true rfl) ?_
  refine va_putF (D := D) (ci := 6) (v := .ref q1) (ty := .array .int) (C := RX6) (T := TX6) (N := 8) hx hb hts (fun _ h => List.mem_cons_of_mem _ (List.mem_append_right _ h)) tyX6 tyX6_ok nmX6 hown hK hP hD hS 0 rfl rfl 0 (by decide) (hts (.fieldLink RX6 9 "LineCites$Spans" "sizes" "[I") (List.mem_of_getElem? (i := 5) rfl)) (fun _ h9 => h9) rfl hin rfl (by decide +kernel) rfl rfl (Nat.le_of_ble_eq_true rfl) dX6_init_10 (fun H locs hP hD hS => ?_)
  have hP : va_P D vwCl [(h0, .inr (6, [.ref q1, .null, .null, .int 0, .int 0, .int 0, .int 0, .int 0])), (q1, .inl (k2, 1000, .inl (fun _ => 0)))] H := hP
  have hD : va_D A [(h0, .inr (6, [.ref q1, .null, .null, .int 0, .int 0, .int 0, .int 0, .int 0])), (q1, .inl (k2, 1000, .inl (fun _ => 0)))] := hD
  have hK : va_K D vwCl [(k2, .int)] s := hK
  refine lv_aload_n hx hb dX6_init_13 rfl (lv_at hl 0 rfl) ?_
  refine lv_sipush (v := 1000) hx hb dX6_init_14 (by decide) ?_
  refine va_newa (atype := .int) (ty := .int) (a0 := (1000, .inl (fun _ => 0))) (N' := 1000) hx hb (hts (.arrayClass .int) (List.mem_of_getElem? (i := 4) rfl)) rfl hK hP hD hS hA (fun _ => rfl) (by decide) (by decide) (Nat.le_of_ble_eq_true rfl) (Nat.le_of_ble_eq_true rfl) (Nat.le_of_ble_eq_true rfl) dX6_init_17 (fun q3 k4 H hK hP hD hS => ?_)
  have hP : va_P D vwCl [(h0, .inr (6, [.ref q1, .null, .null, .int 0, .int 0, .int 0, .int 0, .int 0])), (q1, .inl (k2, 1000, .inl (fun _ => 0))), (q3, .inl (k4, 1000, .inl (fun _ => 0)))] H := hP
  have hD : va_D A [(h0, .inr (6, [.ref q1, .null, .null, .int 0, .int 0, .int 0, .int 0, .int 0])), (q1, .inl (k2, 1000, .inl (fun _ => 0))), (q3, .inl (k4, 1000, .inl (fun _ => 0)))] := hD
  have hK : va_K D vwCl [(k2, .int), (k4, .int)] s := hK
  refine W.widen (k := 2) (n := 2000) (Nat.le_of_ble_eq_true rfl) (Nat.le_of_ble_eq_true rfl) ?_
  refine va_putF (D := D) (ci := 6) (v := .ref q3) (ty := .array .int) (C := RX6) (T := TX6) (N := 8) hx hb hts (fun _ h => List.mem_cons_of_mem _ (List.mem_append_right _ h)) tyX6 tyX6_ok nmX6 hown hK hP hD hS 0 rfl rfl 1 (by decide) (hts (.fieldLink RX6 15 "LineCites$Spans" "leasts" "[I") (List.mem_of_getElem? (i := 6) rfl)) (fun _ h9 => h9) rfl hin rfl (by decide +kernel) rfl rfl (Nat.le_of_ble_eq_true rfl) dX6_init_19 (fun H locs hP hD hS => ?_)
  have hP : va_P D vwCl [(h0, .inr (6, [.ref q1, .ref q3, .null, .int 0, .int 0, .int 0, .int 0, .int 0])), (q1, .inl (k2, 1000, .inl (fun _ => 0))), (q3, .inl (k4, 1000, .inl (fun _ => 0)))] H := hP
  have hD : va_D A [(h0, .inr (6, [.ref q1, .ref q3, .null, .int 0, .int 0, .int 0, .int 0, .int 0])), (q1, .inl (k2, 1000, .inl (fun _ => 0))), (q3, .inl (k4, 1000, .inl (fun _ => 0)))] := hD
  have hK : va_K D vwCl [(k2, .int), (k4, .int)] s := hK
  refine lv_aload_n hx hb dX6_init_22 rfl (lv_at hl 0 rfl) ?_
  refine lv_sipush (v := 1000) hx hb dX6_init_23 (by decide) ?_
  refine va_newa (atype := .int) (ty := .int) (a0 := (1000, .inl (fun _ => 0))) (N' := 1000) hx hb (hts (.arrayClass .int) (List.mem_of_getElem? (i := 4) rfl)) rfl hK hP hD hS hA (fun _ => rfl) (by decide) (by decide) (Nat.le_of_ble_eq_true rfl) (Nat.le_of_ble_eq_true rfl) (Nat.le_of_ble_eq_true rfl) dX6_init_26 (fun q5 k6 H hK hP hD hS => ?_)
  have hP : va_P D vwCl [(h0, .inr (6, [.ref q1, .ref q3, .null, .int 0, .int 0, .int 0, .int 0, .int 0])), (q1, .inl (k2, 1000, .inl (fun _ => 0))), (q3, .inl (k4, 1000, .inl (fun _ => 0))), (q5, .inl (k6, 1000, .inl (fun _ => 0)))] H := hP
  have hD : va_D A [(h0, .inr (6, [.ref q1, .ref q3, .null, .int 0, .int 0, .int 0, .int 0, .int 0])), (q1, .inl (k2, 1000, .inl (fun _ => 0))), (q3, .inl (k4, 1000, .inl (fun _ => 0))), (q5, .inl (k6, 1000, .inl (fun _ => 0)))] := hD
  have hK : va_K D vwCl [(k2, .int), (k4, .int), (k6, .int)] s := hK
  refine W.widen (k := 3) (n := 3000) (Nat.le_of_ble_eq_true rfl) (Nat.le_of_ble_eq_true rfl) ?_
  refine va_putF (D := D) (ci := 6) (v := .ref q5) (ty := .array .int) (C := RX6) (T := TX6) (N := 8) hx hb hts (fun _ h => List.mem_cons_of_mem _ (List.mem_append_right _ h)) tyX6 tyX6_ok nmX6 hown hK hP hD hS 0 rfl rfl 2 (by decide) (hts (.fieldLink RX6 18 "LineCites$Spans" "greatests" "[I") (List.mem_of_getElem? (i := 7) rfl)) (fun _ h9 => h9) rfl hin rfl (by decide +kernel) rfl rfl (Nat.le_of_ble_eq_true rfl) dX6_init_28 (fun H locs hP hD hS => ?_)
  have hP : va_P D vwCl [(h0, .inr (6, [.ref q1, .ref q3, .ref q5, .int 0, .int 0, .int 0, .int 0, .int 0])), (q1, .inl (k2, 1000, .inl (fun _ => 0))), (q3, .inl (k4, 1000, .inl (fun _ => 0))), (q5, .inl (k6, 1000, .inl (fun _ => 0)))] H := hP
  have hD : va_D A [(h0, .inr (6, [.ref q1, .ref q3, .ref q5, .int 0, .int 0, .int 0, .int 0, .int 0])), (q1, .inl (k2, 1000, .inl (fun _ => 0))), (q3, .inl (k4, 1000, .inl (fun _ => 0))), (q5, .inl (k6, 1000, .inl (fun _ => 0)))] := hD
  have hK : va_K D vwCl [(k2, .int), (k4, .int), (k6, .int)] s := hK
  have hP9 := hP.sub (ws' := []) [] rfl
  have hD9 := hD.sub (ws' := []) [] (by decide) rfl
  have hK9 := hK.sub (tys' := []) [] rfl
  refine W.widen (k := 3) (n := 3000) (Nat.le_of_ble_eq_true rfl) (Nat.le_of_ble_eq_true rfl) ?_
  exact W.vret hx hb hr (fun t ht hW => ⟨⟨(), rfl, trivial, by rw [ht]; exact hP9, va_K.moved hW.alike hK9, hD9⟩, hS.F ht⟩) hS.2.2 dX6_init_31
def w_X3_init : List Cond := .code yX3_init cX3_init 1 none :: ([.methodLink RX3 3 objectInit, .instanceMethod objectInit, .code objectInit ⟨#[0xb1]⟩ 1 none, .arrayClass .int, .fieldLink RX3 9 "LineCites$Numbering" "lows" "[I", .fieldLink RX3 15 "LineCites$Numbering" "highs" "[I"] ++ wsX30)
set_option maxHeartbeats 4000000 in
set_option maxRecDepth 100000 in
theorem c_X3_init (l : Launch) (D : va_G) (h0 : Nat) (sz : Nat) : Met l yX3_init w_X3_init ({ frames := 1, cells := 2, slots := 400, locals := 12 }) (va_Pc [.ref h0] (fun U => U.heap.size = sz ∧ va_P D vwCl [(h0, .inr (3, [.null, .null, .int 0]))] U.heap ∧ va_K D vwCl [] U ∧ va_D (fun _ => True) [(h0, .inr (3, [.null, .null, .int 0]))])) (va_Qv (fun (_ : Unit) => True) (fun (_ : Unit) t => va_P D vwCl [] t.heap ∧ va_K D vwCl [] t ∧ va_D (va_A [(h0, .inr (3, [.null, .null, .int 0]))] sz) []) (va_A [(h0, .inr (3, [.null, .null, .int 0]))] sz)) 2 400 (va_A [(h0, .inr (3, [.null, .null, .int 0]))] sz) := by
  refine Met.ofW (cc := cX3_init) (maxL := 1) (ret := none) (by decide) rfl ?_
  intro p e s m args below meth c s₁ B hml hv
  obtain ⟨rfl, hsz, hP, hK, hD0⟩ := hv
  have hx := B.exec
  have hb := B.bytes
  have hr := B.returns
  have hts := atoms_spec (ws := w_X3_init) B.pre
  have hown : s.vm.findClass RX3 = some m.cls := findClass_of_methodNamed B.named
  have hlocks := B.notSynchronized
  have hin : meth.name = "<init>" := (name_of_methodNamed B.named B.method).1
  subst hsz
  have hD := hD0.self (sz := s.heap.size)
  generalize hAe : va_A [(h0, .inr (3, [.null, .null, .int 0]))] s.heap.size = A at hD ⊢
  have hA : ∀ q : Nat, s.heap.size ≤ q → A q := fun q h => by rw [← hAe]; exact Or.inr h
  have hS : va_S A s.heap s.heap [] := va_S.rf
  have hP : va_P D vwCl [(h0, .inr (3, [.null, .null, .int 0]))] s.heap := hP
  have hl := lv_entry ([.ref h0]) (n := 1) (Nat.le_of_ble_eq_true rfl)
  rw [lg_entry_eq]
  generalize (lg_sl ([.ref h0]) ++ List.replicate (1 - (lg_sl ([.ref h0])).length) Slot.unset).toArray = ls at hl ⊢
  have hl : lv_has ls 1 [(0, .ref h0)] := hl
  obtain ⟨H, hHe⟩ : ∃ H : Heap, H = s.heap := ⟨_, rfl⟩
  rw [← hHe] at hP
  have hS : va_S A s.heap H [] := by rw [hHe]; exact hS
  refine pw_heap hHe ?_
  refine lv_aload_n hx hb dX3_init_0 rfl (lv_at hl 0 rfl) ?_
  refine W.objInit hx hb hown (hts (.methodLink RX3 3 objectInit) (List.mem_of_getElem? (i := 1) rfl)) (hts (.instanceMethod objectInit) (List.mem_of_getElem? (i := 2) rfl)) (hts (.code objectInit ⟨#[0xb1]⟩ 1 none) (List.mem_of_getElem? (i := 3) rfl)) rfl (by rw [hml]; exact hl.1) rfl dX3_init_1 (Nat.le_of_ble_eq_true rfl) (Nat.le_of_ble_eq_true rfl) ?_
  refine W.eq (g2 := F0 m 4 ls []) rfl ?_
  refine lv_aload_n hx hb dX3_init_4 rfl (lv_at hl 0 rfl) ?_
  refine lv_sipush (v := 200) hx hb dX3_init_5 (by decide) ?_
  refine va_newa (atype := .int) (ty := .int) (a0 := (200, .inl (fun _ => 0))) (N' := 200) hx hb (hts (.arrayClass .int) (List.mem_of_getElem? (i := 4) rfl)) rfl hK hP hD hS hA (fun _ => rfl) (by decide) (by decide) (Nat.le_of_ble_eq_true rfl) (Nat.le_of_ble_eq_true rfl) (Nat.le_of_ble_eq_true rfl) dX3_init_8 (fun q1 k2 H hK hP hD hS => ?_)
  have hP : va_P D vwCl [(h0, .inr (3, [.null, .null, .int 0])), (q1, .inl (k2, 200, .inl (fun _ => 0)))] H := hP
  have hD : va_D A [(h0, .inr (3, [.null, .null, .int 0])), (q1, .inl (k2, 200, .inl (fun _ => 0)))] := hD
  have hK : va_K D vwCl [(k2, .int)] s := hK
  refine W.widen (k := 1) (n := 200) (Nat.le_of_ble_eq_true rfl) (Nat.le_of_ble_eq_true rfl) ?_
  refine va_putF (D := D) (ci := 3) (v := .ref q1) (ty := .array .int) (C := RX3) (T := TX3) (N := 3) hx hb hts (fun _ h => List.mem_cons_of_mem _ (List.mem_append_right _ h)) tyX3 tyX3_ok nmX3 hown hK hP hD hS 0 rfl rfl 0 (by decide) (hts (.fieldLink RX3 9 "LineCites$Numbering" "lows" "[I") (List.mem_of_getElem? (i := 5) rfl)) (fun _ h9 => h9) rfl hin rfl (by decide +kernel) rfl rfl (Nat.le_of_ble_eq_true rfl) dX3_init_10 (fun H locs hP hD hS => ?_)
  have hP : va_P D vwCl [(h0, .inr (3, [.ref q1, .null, .int 0])), (q1, .inl (k2, 200, .inl (fun _ => 0)))] H := hP
  have hD : va_D A [(h0, .inr (3, [.ref q1, .null, .int 0])), (q1, .inl (k2, 200, .inl (fun _ => 0)))] := hD
  have hK : va_K D vwCl [(k2, .int)] s := hK
  refine lv_aload_n hx hb dX3_init_13 rfl (lv_at hl 0 rfl) ?_
  refine lv_sipush (v := 200) hx hb dX3_init_14 (by decide) ?_
  refine va_newa (atype := .int) (ty := .int) (a0 := (200, .inl (fun _ => 0))) (N' := 200) hx hb (hts (.arrayClass .int) (List.mem_of_getElem? (i := 4) rfl)) rfl hK hP hD hS hA (fun _ => rfl) (by decide) (by decide) (Nat.le_of_ble_eq_true rfl) (Nat.le_of_ble_eq_true rfl) (Nat.le_of_ble_eq_true rfl) dX3_init_17 (fun q3 k4 H hK hP hD hS => ?_)
  have hP : va_P D vwCl [(h0, .inr (3, [.ref q1, .null, .int 0])), (q1, .inl (k2, 200, .inl (fun _ => 0))), (q3, .inl (k4, 200, .inl (fun _ => 0)))] H := hP
  have hD : va_D A [(h0, .inr (3, [.ref q1, .null, .int 0])), (q1, .inl (k2, 200, .inl (fun _ => 0))), (q3, .inl (k4, 200, .inl (fun _ => 0)))] := hD
  have hK : va_K D vwCl [(k2, .int), (k4, .int)] s := hK
  refine W.widen (k := 2) (n := 400) (Nat.le_of_ble_eq_true rfl) (Nat.le_of_ble_eq_true rfl) ?_
  refine va_putF (D := D) (ci := 3) (v := .ref q3) (ty := .array .int) (C := RX3) (T := TX3) (N := 3) hx hb hts (fun _ h => List.mem_cons_of_mem _ (List.mem_append_right _ h)) tyX3 tyX3_ok nmX3 hown hK hP hD hS 0 rfl rfl 1 (by decide) (hts (.fieldLink RX3 15 "LineCites$Numbering" "highs" "[I") (List.mem_of_getElem? (i := 6) rfl)) (fun _ h9 => h9) rfl hin rfl (by decide +kernel) rfl rfl (Nat.le_of_ble_eq_true rfl) dX3_init_19 (fun H locs hP hD hS => ?_)
  have hP : va_P D vwCl [(h0, .inr (3, [.ref q1, .ref q3, .int 0])), (q1, .inl (k2, 200, .inl (fun _ => 0))), (q3, .inl (k4, 200, .inl (fun _ => 0)))] H := hP
  have hD : va_D A [(h0, .inr (3, [.ref q1, .ref q3, .int 0])), (q1, .inl (k2, 200, .inl (fun _ => 0))), (q3, .inl (k4, 200, .inl (fun _ => 0)))] := hD
  have hK : va_K D vwCl [(k2, .int), (k4, .int)] s := hK
  have hP9 := hP.sub (ws' := []) [] rfl
  have hD9 := hD.sub (ws' := []) [] (by decide) rfl
  have hK9 := hK.sub (tys' := []) [] rfl
  refine W.widen (k := 2) (n := 400) (Nat.le_of_ble_eq_true rfl) (Nat.le_of_ble_eq_true rfl) ?_
  exact W.vret hx hb hr (fun t ht hW => ⟨⟨(), rfl, trivial, by rw [ht]; exact hP9, va_K.moved hW.alike hK9, hD9⟩, hS.F ht⟩) hS.2.2 dX3_init_22
def w_X0_init : List Cond := .code yX0_init cX0_init 1 none :: ([.methodLink RX0 3 objectInit, .instanceMethod objectInit, .code objectInit ⟨#[0xb1]⟩ 1 none, .classLink RX0 9 RX8, .fieldLink RX0 11 "LineCites$Acts" "ring" "[LLineCites$Work;"] ++ wsX00)
set_option maxHeartbeats 4000000 in
set_option maxRecDepth 100000 in
theorem c_X0_init (l : Launch) (D : va_G) (h0 : Nat) (sz : Nat) : Met l yX0_init w_X0_init ({ frames := 1, cells := 1, slots := 10, locals := 12 }) (va_Pc [.ref h0] (fun U => U.heap.size = sz ∧ va_P D vwCl [(h0, .inr (0, [.null, .int 0, .int 0]))] U.heap ∧ va_K D vwCl [] U ∧ va_D (fun _ => True) [(h0, .inr (0, [.null, .int 0, .int 0]))] ∧ va_AO RX8 U)) (va_Qv (fun (_ : Unit) => True) (fun (_ : Unit) t => ∃ (a_ring : Nat), va_P D vwCl [(h0, .inr (0, [.ref a_ring, .int 0, .int 0]))] t.heap ∧ va_K D vwCl [] t ∧ va_D (va_A [(h0, .inr (0, [.null, .int 0, .int 0]))] sz) [(h0, .inr (0, [.ref a_ring, .int 0, .int 0]))]) (va_A [(h0, .inr (0, [.null, .int 0, .int 0]))] sz)) 1 10 (va_A [(h0, .inr (0, [.null, .int 0, .int 0]))] sz) := by
  refine Met.ofW (cc := cX0_init) (maxL := 1) (ret := none) (by decide) rfl ?_
  intro p e s m args below meth c s₁ B hml hv
  obtain ⟨rfl, hsz, hP, hK, hD0, hAO8⟩ := hv
  have hx := B.exec
  have hb := B.bytes
  have hr := B.returns
  have hts := atoms_spec (ws := w_X0_init) B.pre
  have hown : s.vm.findClass RX0 = some m.cls := findClass_of_methodNamed B.named
  have hlocks := B.notSynchronized
  have hin : meth.name = "<init>" := (name_of_methodNamed B.named B.method).1
  subst hsz
  have hD := hD0.self (sz := s.heap.size)
  generalize hAe : va_A [(h0, .inr (0, [.null, .int 0, .int 0]))] s.heap.size = A at hD ⊢
  have hA : ∀ q : Nat, s.heap.size ≤ q → A q := fun q h => by rw [← hAe]; exact Or.inr h
  have hS : va_S A s.heap s.heap [] := va_S.rf
  have hP : va_P D vwCl [(h0, .inr (0, [.null, .int 0, .int 0]))] s.heap := hP
  have hl := lv_entry ([.ref h0]) (n := 1) (Nat.le_of_ble_eq_true rfl)
  rw [lg_entry_eq]
  generalize (lg_sl ([.ref h0]) ++ List.replicate (1 - (lg_sl ([.ref h0])).length) Slot.unset).toArray = ls at hl ⊢
  have hl : lv_has ls 1 [(0, .ref h0)] := hl
  obtain ⟨H, hHe⟩ : ∃ H : Heap, H = s.heap := ⟨_, rfl⟩
  rw [← hHe] at hP
  have hS : va_S A s.heap H [] := by rw [hHe]; exact hS
  refine pw_heap hHe ?_
  refine lv_aload_n hx hb dX0_init_0 rfl (lv_at hl 0 rfl) ?_
  refine W.objInit hx hb hown (hts (.methodLink RX0 3 objectInit) (List.mem_of_getElem? (i := 1) rfl)) (hts (.instanceMethod objectInit) (List.mem_of_getElem? (i := 2) rfl)) (hts (.code objectInit ⟨#[0xb1]⟩ 1 none) (List.mem_of_getElem? (i := 3) rfl)) rfl (by rw [hml]; exact hl.1) rfl dX0_init_1 (Nat.le_of_ble_eq_true rfl) (Nat.le_of_ble_eq_true rfl) ?_
  refine W.eq (g2 := F0 m 4 ls []) rfl ?_
  refine lv_aload_n hx hb dX0_init_4 rfl (lv_at hl 0 rfl) ?_
  refine lv_bipush (v := 10) hx hb dX0_init_5 (by decide) ?_
  refine va_newq (C := RX8) (N' := 10) hx hb hown (hts (.classLink RX0 9 RX8) (List.mem_of_getElem? (i := 4) rfl)) hAO8 hK hP hD hS hA (by decide) (by decide) (Nat.le_of_ble_eq_true rfl) (Nat.le_of_ble_eq_true rfl) (Nat.le_of_ble_eq_true rfl) dX0_init_7 (fun q1 k2 H hK hP hD hS => ?_)
  have hP : va_P D vwCl [(h0, .inr (0, [.null, .int 0, .int 0])), (q1, .inl (k2, 10, .inr (.inr (.inr (.inr (fun _ => none))))))] H := hP
  have hD : va_D A [(h0, .inr (0, [.null, .int 0, .int 0])), (q1, .inl (k2, 10, .inr (.inr (.inr (.inr (fun _ => none))))))] := hD
  have hK : va_K D vwCl [(k2, .object RX8)] s := hK
  refine W.widen (k := 1) (n := 10) (Nat.le_of_ble_eq_true rfl) (Nat.le_of_ble_eq_true rfl) ?_
  refine va_putF (D := D) (ci := 0) (v := .ref q1) (ty := .array (.object "LineCites$Work")) (C := RX0) (T := TX0) (N := 3) hx hb hts (fun _ h => List.mem_cons_of_mem _ (List.mem_append_right _ h)) tyX0 tyX0_ok nmX0 hown hK hP hD hS 0 rfl rfl 0 (by decide) (hts (.fieldLink RX0 11 "LineCites$Acts" "ring" "[LLineCites$Work;") (List.mem_of_getElem? (i := 5) rfl)) (fun _ h9 => h9) rfl hin rfl (by decide +kernel) rfl rfl (Nat.le_of_ble_eq_true rfl) dX0_init_10 (fun H locs hP hD hS => ?_)
  have hP : va_P D vwCl [(h0, .inr (0, [.ref q1, .int 0, .int 0])), (q1, .inl (k2, 10, .inr (.inr (.inr (.inr (fun _ => none))))))] H := hP
  have hD : va_D A [(h0, .inr (0, [.ref q1, .int 0, .int 0])), (q1, .inl (k2, 10, .inr (.inr (.inr (.inr (fun _ => none))))))] := hD
  have hK : va_K D vwCl [(k2, .object RX8)] s := hK
  have hP9 := hP.sub (ws' := [(h0, .inr (0, [.ref q1, .int 0, .int 0]))]) [0] rfl
  have hD9 := hD.sub (ws' := [(h0, .inr (0, [.ref q1, .int 0, .int 0]))]) [0] (by decide) rfl
  have hK9 := hK.sub (tys' := []) [] rfl
  refine W.widen (k := 1) (n := 10) (Nat.le_of_ble_eq_true rfl) (Nat.le_of_ble_eq_true rfl) ?_
  exact W.vret hx hb hr (fun t ht hW => ⟨⟨(), rfl, trivial, q1, by rw [ht]; exact hP9, va_K.moved hW.alike hK9, hD9⟩, hS.F ht⟩) hS.2.2 dX0_init_13
def w_X7_init : List Cond := .code yX7_init cX7_init 1 none :: ([.methodLink RX7 3 objectInit, .instanceMethod objectInit, .code objectInit ⟨#[0xb1]⟩ 1 none, .arrayClass .byte, .fieldLink RX7 9 "LineCites$Tape" "bytes" "[B"] ++ wsX70)
set_option maxHeartbeats 4000000 in
set_option maxRecDepth 100000 in
theorem c_X7_init (l : Launch) (D : va_G) (h0 : Nat) (sz : Nat) : Met l yX7_init w_X7_init ({ frames := 1, cells := 1, slots := 200, locals := 12 }) (va_Pc [.ref h0] (fun U => U.heap.size = sz ∧ va_P D vwCl [(h0, .inr (7, [.null, .int 0, .int 0]))] U.heap ∧ va_K D vwCl [] U ∧ va_D (fun _ => True) [(h0, .inr (7, [.null, .int 0, .int 0]))])) (va_Qv (fun (_ : Unit) => True) (fun (_ : Unit) t => ∃ (y_b : Nat) (k_b : ClassId), va_P D vwCl [(h0, .inr (7, [.ref y_b, .int 0, .int 0])), (y_b, .inl (k_b, 200, .inl (fun _ => 0)))] t.heap ∧ va_K D vwCl [(k_b, .byte)] t ∧ va_D (va_A [(h0, .inr (7, [.null, .int 0, .int 0]))] sz) [(h0, .inr (7, [.ref y_b, .int 0, .int 0])), (y_b, .inl (k_b, 200, .inl (fun _ => 0)))]) (va_A [(h0, .inr (7, [.null, .int 0, .int 0]))] sz)) 1 200 (va_A [(h0, .inr (7, [.null, .int 0, .int 0]))] sz) := by
  refine Met.ofW (cc := cX7_init) (maxL := 1) (ret := none) (by decide) rfl ?_
  intro p e s m args below meth c s₁ B hml hv
  obtain ⟨rfl, hsz, hP, hK, hD0⟩ := hv
  have hx := B.exec
  have hb := B.bytes
  have hr := B.returns
  have hts := atoms_spec (ws := w_X7_init) B.pre
  have hown : s.vm.findClass RX7 = some m.cls := findClass_of_methodNamed B.named
  have hlocks := B.notSynchronized
  have hin : meth.name = "<init>" := (name_of_methodNamed B.named B.method).1
  subst hsz
  have hD := hD0.self (sz := s.heap.size)
  generalize hAe : va_A [(h0, .inr (7, [.null, .int 0, .int 0]))] s.heap.size = A at hD ⊢
  have hA : ∀ q : Nat, s.heap.size ≤ q → A q := fun q h => by rw [← hAe]; exact Or.inr h
  have hS : va_S A s.heap s.heap [] := va_S.rf
  have hP : va_P D vwCl [(h0, .inr (7, [.null, .int 0, .int 0]))] s.heap := hP
  have hl := lv_entry ([.ref h0]) (n := 1) (Nat.le_of_ble_eq_true rfl)
  rw [lg_entry_eq]
  generalize (lg_sl ([.ref h0]) ++ List.replicate (1 - (lg_sl ([.ref h0])).length) Slot.unset).toArray = ls at hl ⊢
  have hl : lv_has ls 1 [(0, .ref h0)] := hl
  obtain ⟨H, hHe⟩ : ∃ H : Heap, H = s.heap := ⟨_, rfl⟩
  rw [← hHe] at hP
  have hS : va_S A s.heap H [] := by rw [hHe]; exact hS
  refine pw_heap hHe ?_
  refine lv_aload_n hx hb dX7_init_0 rfl (lv_at hl 0 rfl) ?_
  refine W.objInit hx hb hown (hts (.methodLink RX7 3 objectInit) (List.mem_of_getElem? (i := 1) rfl)) (hts (.instanceMethod objectInit) (List.mem_of_getElem? (i := 2) rfl)) (hts (.code objectInit ⟨#[0xb1]⟩ 1 none) (List.mem_of_getElem? (i := 3) rfl)) rfl (by rw [hml]; exact hl.1) rfl dX7_init_1 (Nat.le_of_ble_eq_true rfl) (Nat.le_of_ble_eq_true rfl) ?_
  refine W.eq (g2 := F0 m 4 ls []) rfl ?_
  refine lv_aload_n hx hb dX7_init_4 rfl (lv_at hl 0 rfl) ?_
  refine lv_sipush (v := 200) hx hb dX7_init_5 (by decide) ?_
  refine va_newa (atype := .byte) (ty := .byte) (a0 := (200, .inl (fun _ => 0))) (N' := 200) hx hb (hts (.arrayClass .byte) (List.mem_of_getElem? (i := 4) rfl)) rfl hK hP hD hS hA (fun _ => rfl) (by decide) (by decide) (Nat.le_of_ble_eq_true rfl) (Nat.le_of_ble_eq_true rfl) (Nat.le_of_ble_eq_true rfl) dX7_init_8 (fun q1 k2 H hK hP hD hS => ?_)
  have hP : va_P D vwCl [(h0, .inr (7, [.null, .int 0, .int 0])), (q1, .inl (k2, 200, .inl (fun _ => 0)))] H := hP
  have hD : va_D A [(h0, .inr (7, [.null, .int 0, .int 0])), (q1, .inl (k2, 200, .inl (fun _ => 0)))] := hD
  have hK : va_K D vwCl [(k2, .byte)] s := hK
  refine W.widen (k := 1) (n := 200) (Nat.le_of_ble_eq_true rfl) (Nat.le_of_ble_eq_true rfl) ?_
  refine va_putF (D := D) (ci := 7) (v := .ref q1) (ty := .array .byte) (C := RX7) (T := TX7) (N := 3) hx hb hts (fun _ h => List.mem_cons_of_mem _ (List.mem_append_right _ h)) tyX7 tyX7_ok nmX7 hown hK hP hD hS 0 rfl rfl 0 (by decide) (hts (.fieldLink RX7 9 "LineCites$Tape" "bytes" "[B") (List.mem_of_getElem? (i := 5) rfl)) (fun _ h9 => h9) rfl hin rfl (by decide +kernel) rfl rfl (Nat.le_of_ble_eq_true rfl) dX7_init_10 (fun H locs hP hD hS => ?_)
  have hP : va_P D vwCl [(h0, .inr (7, [.ref q1, .int 0, .int 0])), (q1, .inl (k2, 200, .inl (fun _ => 0)))] H := hP
  have hD : va_D A [(h0, .inr (7, [.ref q1, .int 0, .int 0])), (q1, .inl (k2, 200, .inl (fun _ => 0)))] := hD
  have hK : va_K D vwCl [(k2, .byte)] s := hK
  have hP9 := hP.sub (ws' := [(h0, .inr (7, [.ref q1, .int 0, .int 0])), (q1, .inl (k2, 200, .inl (fun _ => 0)))]) [0, 1] rfl
  have hD9 := hD.sub (ws' := [(h0, .inr (7, [.ref q1, .int 0, .int 0])), (q1, .inl (k2, 200, .inl (fun _ => 0)))]) [0, 1] (by decide) rfl
  have hK9 := hK.sub (tys' := [(k2, .byte)]) [0] rfl
  refine W.widen (k := 1) (n := 200) (Nat.le_of_ble_eq_true rfl) (Nat.le_of_ble_eq_true rfl) ?_
  exact W.vret hx hb hr (fun t ht hW => ⟨⟨(), rfl, trivial, q1, k2, by rw [ht]; exact hP9, va_K.moved hW.alike hK9, hD9⟩, hS.F ht⟩) hS.2.2 dX7_init_13
def w_X8_init : List Cond := .code yX8_init cX8_init 1 none :: ([.methodLink RX8 3 objectInit, .instanceMethod objectInit, .code objectInit ⟨#[0xb1]⟩ 1 none, .arrayClass .int, .fieldLink RX8 9 "LineCites$Work" "stretchCounts" "[I", .fieldLink RX8 15 "LineCites$Work" "stretchParts" "[I", .fieldLink RX8 18 "LineCites$Work" "citedParts" "[I", .fieldLink RX8 21 "LineCites$Work" "seenNumbers" "[I", .fieldLink RX8 24 "LineCites$Work" "seenLines" "[I"] ++ wsX80)
set_option maxHeartbeats 4000000 in
set_option maxRecDepth 100000 in
theorem c_X8_init (l : Launch) (D : va_G) (h0 : Nat) (sz : Nat) : Met l yX8_init w_X8_init ({ frames := 1, cells := 5, slots := 181, locals := 12 }) (va_Pc [.ref h0] (fun U => U.heap.size = sz ∧ va_P D vwCl [(h0, .inr (8, [.null, .null, .null, .null, .null, .int 0, .int 0, .int 0]))] U.heap ∧ va_K D vwCl [] U ∧ va_D (fun _ => True) [(h0, .inr (8, [.null, .null, .null, .null, .null, .int 0, .int 0, .int 0]))])) (va_Qv (fun (_ : Unit) => True) (fun (_ : Unit) t => ∃ (y_sc : Nat) (y_sp : Nat) (y_cp : Nat) (y_sn : Nat) (y_sl : Nat) (k_c : ClassId), va_P D vwCl [(h0, .inr (8, [.ref y_sc, .ref y_sp, .ref y_cp, .ref y_sn, .ref y_sl, .int 0, .int 0, .int 0])), (y_cp, .inl (k_c, 32, .inl (fun _ => 0)))] t.heap ∧ va_K D vwCl [(k_c, .int)] t ∧ va_D (va_A [(h0, .inr (8, [.null, .null, .null, .null, .null, .int 0, .int 0, .int 0]))] sz) [(h0, .inr (8, [.ref y_sc, .ref y_sp, .ref y_cp, .ref y_sn, .ref y_sl, .int 0, .int 0, .int 0])), (y_cp, .inl (k_c, 32, .inl (fun _ => 0)))]) (va_A [(h0, .inr (8, [.null, .null, .null, .null, .null, .int 0, .int 0, .int 0]))] sz)) 5 181 (va_A [(h0, .inr (8, [.null, .null, .null, .null, .null, .int 0, .int 0, .int 0]))] sz) := by
  refine Met.ofW (cc := cX8_init) (maxL := 1) (ret := none) (by decide) rfl ?_
  intro p e s m args below meth c s₁ B hml hv
  obtain ⟨rfl, hsz, hP, hK, hD0⟩ := hv
  have hx := B.exec
  have hb := B.bytes
  have hr := B.returns
  have hts := atoms_spec (ws := w_X8_init) B.pre
  have hown : s.vm.findClass RX8 = some m.cls := findClass_of_methodNamed B.named
  have hlocks := B.notSynchronized
  have hin : meth.name = "<init>" := (name_of_methodNamed B.named B.method).1
  subst hsz
  have hD := hD0.self (sz := s.heap.size)
  generalize hAe : va_A [(h0, .inr (8, [.null, .null, .null, .null, .null, .int 0, .int 0, .int 0]))] s.heap.size = A at hD ⊢
  have hA : ∀ q : Nat, s.heap.size ≤ q → A q := fun q h => by rw [← hAe]; exact Or.inr h
  have hS : va_S A s.heap s.heap [] := va_S.rf
  have hP : va_P D vwCl [(h0, .inr (8, [.null, .null, .null, .null, .null, .int 0, .int 0, .int 0]))] s.heap := hP
  have hl := lv_entry ([.ref h0]) (n := 1) (Nat.le_of_ble_eq_true rfl)
  rw [lg_entry_eq]
  generalize (lg_sl ([.ref h0]) ++ List.replicate (1 - (lg_sl ([.ref h0])).length) Slot.unset).toArray = ls at hl ⊢
  have hl : lv_has ls 1 [(0, .ref h0)] := hl
  obtain ⟨H, hHe⟩ : ∃ H : Heap, H = s.heap := ⟨_, rfl⟩
  rw [← hHe] at hP
  have hS : va_S A s.heap H [] := by rw [hHe]; exact hS
  refine pw_heap hHe ?_
  refine lv_aload_n hx hb dX8_init_0 rfl (lv_at hl 0 rfl) ?_
  refine W.objInit hx hb hown (hts (.methodLink RX8 3 objectInit) (List.mem_of_getElem? (i := 1) rfl)) (hts (.instanceMethod objectInit) (List.mem_of_getElem? (i := 2) rfl)) (hts (.code objectInit ⟨#[0xb1]⟩ 1 none) (List.mem_of_getElem? (i := 3) rfl)) rfl (by rw [hml]; exact hl.1) rfl dX8_init_1 (Nat.le_of_ble_eq_true rfl) (Nat.le_of_ble_eq_true rfl) ?_
  refine W.eq (g2 := F0 m 4 ls []) rfl ?_
  refine lv_aload_n hx hb dX8_init_4 rfl (lv_at hl 0 rfl) ?_
  refine lv_iconst (v := 5) hx hb dX8_init_5 (by decide) ?_
  refine va_newa (atype := .int) (ty := .int) (a0 := (5, .inl (fun _ => 0))) (N' := 5) hx hb (hts (.arrayClass .int) (List.mem_of_getElem? (i := 4) rfl)) rfl hK hP hD hS hA (fun _ => rfl) (by decide) (by decide) (Nat.le_of_ble_eq_true rfl) (Nat.le_of_ble_eq_true rfl) (Nat.le_of_ble_eq_true rfl) dX8_init_6 (fun q1 k2 H hK hP hD hS => ?_)
  have hP : va_P D vwCl [(h0, .inr (8, [.null, .null, .null, .null, .null, .int 0, .int 0, .int 0])), (q1, .inl (k2, 5, .inl (fun _ => 0)))] H := hP
  have hD : va_D A [(h0, .inr (8, [.null, .null, .null, .null, .null, .int 0, .int 0, .int 0])), (q1, .inl (k2, 5, .inl (fun _ => 0)))] := hD
  have hK : va_K D vwCl [(k2, .int)] s := hK
  refine W.widen (k := 1) (n := 5) (Nat.le_of_ble_eq_true rfl) (Nat.le_of_ble_eq_true rfl) ?_
  refine va_putF (D := D) (ci := 8) (v := .ref q1) (ty := .array .int) (C := RX8) (T := TX8) (N := 8) hx hb hts (fun _ h => List.mem_cons_of_mem _ (List.mem_append_right _ h)) tyX8 tyX8_ok nmX8 hown hK hP hD hS 0 rfl rfl 0 (by decide) (hts (.fieldLink RX8 9 "LineCites$Work" "stretchCounts" "[I") (List.mem_of_getElem? (i := 5) rfl)) (fun _ h9 => h9) rfl hin rfl (by decide +kernel) rfl rfl (Nat.le_of_ble_eq_true rfl) dX8_init_8 (fun H locs hP hD hS => ?_)
  have hP : va_P D vwCl [(h0, .inr (8, [.ref q1, .null, .null, .null, .null, .int 0, .int 0, .int 0])), (q1, .inl (k2, 5, .inl (fun _ => 0)))] H := hP
  have hD : va_D A [(h0, .inr (8, [.ref q1, .null, .null, .null, .null, .int 0, .int 0, .int 0])), (q1, .inl (k2, 5, .inl (fun _ => 0)))] := hD
  have hK : va_K D vwCl [(k2, .int)] s := hK
  refine lv_aload_n hx hb dX8_init_11 rfl (lv_at hl 0 rfl) ?_
  refine lv_bipush (v := 120) hx hb dX8_init_12 (by decide) ?_
  refine va_newa (atype := .int) (ty := .int) (a0 := (120, .inl (fun _ => 0))) (N' := 120) hx hb (hts (.arrayClass .int) (List.mem_of_getElem? (i := 4) rfl)) rfl hK hP hD hS hA (fun _ => rfl) (by decide) (by decide) (Nat.le_of_ble_eq_true rfl) (Nat.le_of_ble_eq_true rfl) (Nat.le_of_ble_eq_true rfl) dX8_init_14 (fun q3 k4 H hK hP hD hS => ?_)
  have hP : va_P D vwCl [(h0, .inr (8, [.ref q1, .null, .null, .null, .null, .int 0, .int 0, .int 0])), (q1, .inl (k2, 5, .inl (fun _ => 0))), (q3, .inl (k4, 120, .inl (fun _ => 0)))] H := hP
  have hD : va_D A [(h0, .inr (8, [.ref q1, .null, .null, .null, .null, .int 0, .int 0, .int 0])), (q1, .inl (k2, 5, .inl (fun _ => 0))), (q3, .inl (k4, 120, .inl (fun _ => 0)))] := hD
  have hK : va_K D vwCl [(k2, .int), (k4, .int)] s := hK
  refine W.widen (k := 2) (n := 125) (Nat.le_of_ble_eq_true rfl) (Nat.le_of_ble_eq_true rfl) ?_
  refine va_putF (D := D) (ci := 8) (v := .ref q3) (ty := .array .int) (C := RX8) (T := TX8) (N := 8) hx hb hts (fun _ h => List.mem_cons_of_mem _ (List.mem_append_right _ h)) tyX8 tyX8_ok nmX8 hown hK hP hD hS 0 rfl rfl 1 (by decide) (hts (.fieldLink RX8 15 "LineCites$Work" "stretchParts" "[I") (List.mem_of_getElem? (i := 6) rfl)) (fun _ h9 => h9) rfl hin rfl (by decide +kernel) rfl rfl (Nat.le_of_ble_eq_true rfl) dX8_init_16 (fun H locs hP hD hS => ?_)
  have hP : va_P D vwCl [(h0, .inr (8, [.ref q1, .ref q3, .null, .null, .null, .int 0, .int 0, .int 0])), (q1, .inl (k2, 5, .inl (fun _ => 0))), (q3, .inl (k4, 120, .inl (fun _ => 0)))] H := hP
  have hD : va_D A [(h0, .inr (8, [.ref q1, .ref q3, .null, .null, .null, .int 0, .int 0, .int 0])), (q1, .inl (k2, 5, .inl (fun _ => 0))), (q3, .inl (k4, 120, .inl (fun _ => 0)))] := hD
  have hK : va_K D vwCl [(k2, .int), (k4, .int)] s := hK
  refine lv_aload_n hx hb dX8_init_19 rfl (lv_at hl 0 rfl) ?_
  refine lv_bipush (v := 32) hx hb dX8_init_20 (by decide) ?_
  refine va_newa (atype := .int) (ty := .int) (a0 := (32, .inl (fun _ => 0))) (N' := 32) hx hb (hts (.arrayClass .int) (List.mem_of_getElem? (i := 4) rfl)) rfl hK hP hD hS hA (fun _ => rfl) (by decide) (by decide) (Nat.le_of_ble_eq_true rfl) (Nat.le_of_ble_eq_true rfl) (Nat.le_of_ble_eq_true rfl) dX8_init_22 (fun q5 k6 H hK hP hD hS => ?_)
  have hP : va_P D vwCl [(h0, .inr (8, [.ref q1, .ref q3, .null, .null, .null, .int 0, .int 0, .int 0])), (q1, .inl (k2, 5, .inl (fun _ => 0))), (q3, .inl (k4, 120, .inl (fun _ => 0))), (q5, .inl (k6, 32, .inl (fun _ => 0)))] H := hP
  have hD : va_D A [(h0, .inr (8, [.ref q1, .ref q3, .null, .null, .null, .int 0, .int 0, .int 0])), (q1, .inl (k2, 5, .inl (fun _ => 0))), (q3, .inl (k4, 120, .inl (fun _ => 0))), (q5, .inl (k6, 32, .inl (fun _ => 0)))] := hD
  have hK : va_K D vwCl [(k2, .int), (k4, .int), (k6, .int)] s := hK
  refine W.widen (k := 3) (n := 157) (Nat.le_of_ble_eq_true rfl) (Nat.le_of_ble_eq_true rfl) ?_
  refine va_putF (D := D) (ci := 8) (v := .ref q5) (ty := .array .int) (C := RX8) (T := TX8) (N := 8) hx hb hts (fun _ h => List.mem_cons_of_mem _ (List.mem_append_right _ h)) tyX8 tyX8_ok nmX8 hown hK hP hD hS 0 rfl rfl 2 (by decide) (hts (.fieldLink RX8 18 "LineCites$Work" "citedParts" "[I") (List.mem_of_getElem? (i := 7) rfl)) (fun _ h9 => h9) rfl hin rfl (by decide +kernel) rfl rfl (Nat.le_of_ble_eq_true rfl) dX8_init_24 (fun H locs hP hD hS => ?_)
  have hP : va_P D vwCl [(h0, .inr (8, [.ref q1, .ref q3, .ref q5, .null, .null, .int 0, .int 0, .int 0])), (q1, .inl (k2, 5, .inl (fun _ => 0))), (q3, .inl (k4, 120, .inl (fun _ => 0))), (q5, .inl (k6, 32, .inl (fun _ => 0)))] H := hP
  have hD : va_D A [(h0, .inr (8, [.ref q1, .ref q3, .ref q5, .null, .null, .int 0, .int 0, .int 0])), (q1, .inl (k2, 5, .inl (fun _ => 0))), (q3, .inl (k4, 120, .inl (fun _ => 0))), (q5, .inl (k6, 32, .inl (fun _ => 0)))] := hD
  have hK : va_K D vwCl [(k2, .int), (k4, .int), (k6, .int)] s := hK
  refine lv_aload_n hx hb dX8_init_27 rfl (lv_at hl 0 rfl) ?_
  refine lv_bipush (v := 12) hx hb dX8_init_28 (by decide) ?_
  refine va_newa (atype := .int) (ty := .int) (a0 := (12, .inl (fun _ => 0))) (N' := 12) hx hb (hts (.arrayClass .int) (List.mem_of_getElem? (i := 4) rfl)) rfl hK hP hD hS hA (fun _ => rfl) (by decide) (by decide) (Nat.le_of_ble_eq_true rfl) (Nat.le_of_ble_eq_true rfl) (Nat.le_of_ble_eq_true rfl) dX8_init_30 (fun q7 k8 H hK hP hD hS => ?_)
  have hP : va_P D vwCl [(h0, .inr (8, [.ref q1, .ref q3, .ref q5, .null, .null, .int 0, .int 0, .int 0])), (q1, .inl (k2, 5, .inl (fun _ => 0))), (q3, .inl (k4, 120, .inl (fun _ => 0))), (q5, .inl (k6, 32, .inl (fun _ => 0))), (q7, .inl (k8, 12, .inl (fun _ => 0)))] H := hP
  have hD : va_D A [(h0, .inr (8, [.ref q1, .ref q3, .ref q5, .null, .null, .int 0, .int 0, .int 0])), (q1, .inl (k2, 5, .inl (fun _ => 0))), (q3, .inl (k4, 120, .inl (fun _ => 0))), (q5, .inl (k6, 32, .inl (fun _ => 0))), (q7, .inl (k8, 12, .inl (fun _ => 0)))] := hD
  have hK : va_K D vwCl [(k2, .int), (k4, .int), (k6, .int), (k8, .int)] s := hK
  refine W.widen (k := 4) (n := 169) (Nat.le_of_ble_eq_true rfl) (Nat.le_of_ble_eq_true rfl) ?_
  refine va_putF (D := D) (ci := 8) (v := .ref q7) (ty := .array .int) (C := RX8) (T := TX8) (N := 8) hx hb hts (fun _ h => List.mem_cons_of_mem _ (List.mem_append_right _ h)) tyX8 tyX8_ok nmX8 hown hK hP hD hS 0 rfl rfl 3 (by decide) (hts (.fieldLink RX8 21 "LineCites$Work" "seenNumbers" "[I") (List.mem_of_getElem? (i := 8) rfl)) (fun _ h9 => h9) rfl hin rfl (by decide +kernel) rfl rfl (Nat.le_of_ble_eq_true rfl) dX8_init_32 (fun H locs hP hD hS => ?_)
  have hP : va_P D vwCl [(h0, .inr (8, [.ref q1, .ref q3, .ref q5, .ref q7, .null, .int 0, .int 0, .int 0])), (q1, .inl (k2, 5, .inl (fun _ => 0))), (q3, .inl (k4, 120, .inl (fun _ => 0))), (q5, .inl (k6, 32, .inl (fun _ => 0))), (q7, .inl (k8, 12, .inl (fun _ => 0)))] H := hP
  have hD : va_D A [(h0, .inr (8, [.ref q1, .ref q3, .ref q5, .ref q7, .null, .int 0, .int 0, .int 0])), (q1, .inl (k2, 5, .inl (fun _ => 0))), (q3, .inl (k4, 120, .inl (fun _ => 0))), (q5, .inl (k6, 32, .inl (fun _ => 0))), (q7, .inl (k8, 12, .inl (fun _ => 0)))] := hD
  have hK : va_K D vwCl [(k2, .int), (k4, .int), (k6, .int), (k8, .int)] s := hK
  refine lv_aload_n hx hb dX8_init_35 rfl (lv_at hl 0 rfl) ?_
  refine lv_bipush (v := 12) hx hb dX8_init_36 (by decide) ?_
  refine va_newa (atype := .int) (ty := .int) (a0 := (12, .inl (fun _ => 0))) (N' := 12) hx hb (hts (.arrayClass .int) (List.mem_of_getElem? (i := 4) rfl)) rfl hK hP hD hS hA (fun _ => rfl) (by decide) (by decide) (Nat.le_of_ble_eq_true rfl) (Nat.le_of_ble_eq_true rfl) (Nat.le_of_ble_eq_true rfl) dX8_init_38 (fun q9 k10 H hK hP hD hS => ?_)
  have hP : va_P D vwCl [(h0, .inr (8, [.ref q1, .ref q3, .ref q5, .ref q7, .null, .int 0, .int 0, .int 0])), (q1, .inl (k2, 5, .inl (fun _ => 0))), (q3, .inl (k4, 120, .inl (fun _ => 0))), (q5, .inl (k6, 32, .inl (fun _ => 0))), (q7, .inl (k8, 12, .inl (fun _ => 0))), (q9, .inl (k10, 12, .inl (fun _ => 0)))] H := hP
  have hD : va_D A [(h0, .inr (8, [.ref q1, .ref q3, .ref q5, .ref q7, .null, .int 0, .int 0, .int 0])), (q1, .inl (k2, 5, .inl (fun _ => 0))), (q3, .inl (k4, 120, .inl (fun _ => 0))), (q5, .inl (k6, 32, .inl (fun _ => 0))), (q7, .inl (k8, 12, .inl (fun _ => 0))), (q9, .inl (k10, 12, .inl (fun _ => 0)))] := hD
  have hK : va_K D vwCl [(k2, .int), (k4, .int), (k6, .int), (k8, .int), (k10, .int)] s := hK
  refine W.widen (k := 5) (n := 181) (Nat.le_of_ble_eq_true rfl) (Nat.le_of_ble_eq_true rfl) ?_
  refine va_putF (D := D) (ci := 8) (v := .ref q9) (ty := .array .int) (C := RX8) (T := TX8) (N := 8) hx hb hts (fun _ h => List.mem_cons_of_mem _ (List.mem_append_right _ h)) tyX8 tyX8_ok nmX8 hown hK hP hD hS 0 rfl rfl 4 (by decide) (hts (.fieldLink RX8 24 "LineCites$Work" "seenLines" "[I") (List.mem_of_getElem? (i := 9) rfl)) (fun _ h9 => h9) rfl hin rfl (by decide +kernel) rfl rfl (Nat.le_of_ble_eq_true rfl) dX8_init_40 (fun H locs hP hD hS => ?_)
  have hP : va_P D vwCl [(h0, .inr (8, [.ref q1, .ref q3, .ref q5, .ref q7, .ref q9, .int 0, .int 0, .int 0])), (q1, .inl (k2, 5, .inl (fun _ => 0))), (q3, .inl (k4, 120, .inl (fun _ => 0))), (q5, .inl (k6, 32, .inl (fun _ => 0))), (q7, .inl (k8, 12, .inl (fun _ => 0))), (q9, .inl (k10, 12, .inl (fun _ => 0)))] H := hP
  have hD : va_D A [(h0, .inr (8, [.ref q1, .ref q3, .ref q5, .ref q7, .ref q9, .int 0, .int 0, .int 0])), (q1, .inl (k2, 5, .inl (fun _ => 0))), (q3, .inl (k4, 120, .inl (fun _ => 0))), (q5, .inl (k6, 32, .inl (fun _ => 0))), (q7, .inl (k8, 12, .inl (fun _ => 0))), (q9, .inl (k10, 12, .inl (fun _ => 0)))] := hD
  have hK : va_K D vwCl [(k2, .int), (k4, .int), (k6, .int), (k8, .int), (k10, .int)] s := hK
  have hP9 := hP.sub (ws' := [(h0, .inr (8, [.ref q1, .ref q3, .ref q5, .ref q7, .ref q9, .int 0, .int 0, .int 0])), (q5, .inl (k6, 32, .inl (fun _ => 0)))]) [0, 3] rfl
  have hD9 := hD.sub (ws' := [(h0, .inr (8, [.ref q1, .ref q3, .ref q5, .ref q7, .ref q9, .int 0, .int 0, .int 0])), (q5, .inl (k6, 32, .inl (fun _ => 0)))]) [0, 3] (by decide) rfl
  have hK9 := hK.sub (tys' := [(k6, .int)]) [2] rfl
  refine W.widen (k := 5) (n := 181) (Nat.le_of_ble_eq_true rfl) (Nat.le_of_ble_eq_true rfl) ?_
  exact W.vret hx hb hr (fun t ht hW => ⟨⟨(), rfl, trivial, q1, q3, q5, q7, q9, k6, by rw [ht]; exact hP9, va_K.moved hW.alike hK9, hD9⟩, hS.F ht⟩) hS.2.2 dX8_init_43
def w_X4_init : List Cond := .code yX4_init cX4_init 3 none :: ([.methodLink RX4 3 objectInit, .instanceMethod objectInit, .code objectInit ⟨#[0xb1]⟩ 1 none, .fieldLink RX4 9 "LineCites$Reader" "tape" "LLineCites$Tape;", .fieldLink RX4 15 "LineCites$Reader" "draft" "LLineCites$Work;"] ++ wsX40)
set_option maxHeartbeats 4000000 in
set_option maxRecDepth 100000 in
theorem c_X4_init (l : Launch) (D : va_G) (h0 : Nat) (a_t : Nat) (a_d : Nat) (sz : Nat) : Met l yX4_init w_X4_init ({ frames := 1, cells := 0, slots := 0, locals := 12 }) (va_Pc [.ref h0, .ref a_t, .ref a_d] (fun U => U.heap.size = sz ∧ va_P D vwCl [(h0, .inr (4, [.null, .null, .int 0, .int 0, .int 0, .int 0, .int 0]))] U.heap ∧ va_K D vwCl [] U ∧ va_D (fun _ => True) [(h0, .inr (4, [.null, .null, .int 0, .int 0, .int 0, .int 0, .int 0]))])) (va_Qv (fun (_ : Unit) => True) (fun (_ : Unit) t => va_P D vwCl [(h0, .inr (4, [.ref a_t, .ref a_d, .int 0, .int 0, .int 0, .int 0, .int 0]))] t.heap ∧ va_K D vwCl [] t ∧ va_D (va_A [(h0, .inr (4, [.null, .null, .int 0, .int 0, .int 0, .int 0, .int 0]))] sz) [(h0, .inr (4, [.ref a_t, .ref a_d, .int 0, .int 0, .int 0, .int 0, .int 0]))]) (va_A [(h0, .inr (4, [.null, .null, .int 0, .int 0, .int 0, .int 0, .int 0]))] sz)) 0 0 (va_A [(h0, .inr (4, [.null, .null, .int 0, .int 0, .int 0, .int 0, .int 0]))] sz) := by
  refine Met.ofW (cc := cX4_init) (maxL := 3) (ret := none) (by decide) rfl ?_
  intro p e s m args below meth c s₁ B hml hv
  obtain ⟨rfl, hsz, hP, hK, hD0⟩ := hv
  have hx := B.exec
  have hb := B.bytes
  have hr := B.returns
  have hts := atoms_spec (ws := w_X4_init) B.pre
  have hown : s.vm.findClass RX4 = some m.cls := findClass_of_methodNamed B.named
  have hlocks := B.notSynchronized
  have hin : meth.name = "<init>" := (name_of_methodNamed B.named B.method).1
  subst hsz
  have hD := hD0.self (sz := s.heap.size)
  generalize hAe : va_A [(h0, .inr (4, [.null, .null, .int 0, .int 0, .int 0, .int 0, .int 0]))] s.heap.size = A at hD ⊢
  have hA : ∀ q : Nat, s.heap.size ≤ q → A q := fun q h => by rw [← hAe]; exact Or.inr h
  have hS : va_S A s.heap s.heap [] := va_S.rf
  have hP : va_P D vwCl [(h0, .inr (4, [.null, .null, .int 0, .int 0, .int 0, .int 0, .int 0]))] s.heap := hP
  have hl := lv_entry ([.ref h0, .ref a_t, .ref a_d]) (n := 3) (Nat.le_of_ble_eq_true rfl)
  rw [lg_entry_eq]
  generalize (lg_sl ([.ref h0, .ref a_t, .ref a_d]) ++ List.replicate (3 - (lg_sl ([.ref h0, .ref a_t, .ref a_d])).length) Slot.unset).toArray = ls at hl ⊢
  have hl : lv_has ls 3 [(0, .ref h0), (1, .ref a_t), (2, .ref a_d)] := hl
  obtain ⟨H, hHe⟩ : ∃ H : Heap, H = s.heap := ⟨_, rfl⟩
  rw [← hHe] at hP
  have hS : va_S A s.heap H [] := by rw [hHe]; exact hS
  refine pw_heap hHe ?_
  refine lv_aload_n hx hb dX4_init_0 rfl (lv_at hl 0 rfl) ?_
  refine W.objInit hx hb hown (hts (.methodLink RX4 3 objectInit) (List.mem_of_getElem? (i := 1) rfl)) (hts (.instanceMethod objectInit) (List.mem_of_getElem? (i := 2) rfl)) (hts (.code objectInit ⟨#[0xb1]⟩ 1 none) (List.mem_of_getElem? (i := 3) rfl)) rfl (by rw [hml]; exact hl.1) rfl dX4_init_1 (Nat.le_of_ble_eq_true rfl) (Nat.le_of_ble_eq_true rfl) ?_
  refine W.eq (g2 := F0 m 4 ls []) rfl ?_
  refine lv_aload_n hx hb dX4_init_4 rfl (lv_at hl 0 rfl) ?_
  refine lv_aload_n hx hb dX4_init_5 rfl (lv_at hl 1 rfl) ?_
  refine va_putF (D := D) (ci := 4) (v := .ref a_t) (ty := .object "LineCites$Tape") (C := RX4) (T := TX4) (N := 7) hx hb hts (fun _ h => List.mem_cons_of_mem _ (List.mem_append_right _ h)) tyX4 tyX4_ok nmX4 hown hK hP hD hS 0 rfl rfl 0 (by decide) (hts (.fieldLink RX4 9 "LineCites$Reader" "tape" "LLineCites$Tape;") (List.mem_of_getElem? (i := 4) rfl)) (fun _ h9 => h9) rfl hin rfl (by decide +kernel) rfl rfl (Nat.le_of_ble_eq_true rfl) dX4_init_6 (fun H locs hP hD hS => ?_)
  have hP : va_P D vwCl [(h0, .inr (4, [.ref a_t, .null, .int 0, .int 0, .int 0, .int 0, .int 0]))] H := hP
  have hD : va_D A [(h0, .inr (4, [.ref a_t, .null, .int 0, .int 0, .int 0, .int 0, .int 0]))] := hD
  have hK : va_K D vwCl [] s := hK
  refine lv_aload_n hx hb dX4_init_9 rfl (lv_at hl 0 rfl) ?_
  refine lv_aload_n hx hb dX4_init_10 rfl (lv_at hl 2 rfl) ?_
  refine va_putF (D := D) (ci := 4) (v := .ref a_d) (ty := .object "LineCites$Work") (C := RX4) (T := TX4) (N := 7) hx hb hts (fun _ h => List.mem_cons_of_mem _ (List.mem_append_right _ h)) tyX4 tyX4_ok nmX4 hown hK hP hD hS 0 rfl rfl 1 (by decide) (hts (.fieldLink RX4 15 "LineCites$Reader" "draft" "LLineCites$Work;") (List.mem_of_getElem? (i := 5) rfl)) (fun _ h9 => h9) rfl hin rfl (by decide +kernel) rfl rfl (Nat.le_of_ble_eq_true rfl) dX4_init_11 (fun H locs hP hD hS => ?_)
  have hP : va_P D vwCl [(h0, .inr (4, [.ref a_t, .ref a_d, .int 0, .int 0, .int 0, .int 0, .int 0]))] H := hP
  have hD : va_D A [(h0, .inr (4, [.ref a_t, .ref a_d, .int 0, .int 0, .int 0, .int 0, .int 0]))] := hD
  have hK : va_K D vwCl [] s := hK
  have hP9 := hP.sub (ws' := [(h0, .inr (4, [.ref a_t, .ref a_d, .int 0, .int 0, .int 0, .int 0, .int 0]))]) [0] rfl
  have hD9 := hD.sub (ws' := [(h0, .inr (4, [.ref a_t, .ref a_d, .int 0, .int 0, .int 0, .int 0, .int 0]))]) [0] (by decide) rfl
  have hK9 := hK.sub (tys' := []) [] rfl
  refine W.widen (k := 0) (n := 0) (Nat.le_of_ble_eq_true rfl) (Nat.le_of_ble_eq_true rfl) ?_
  exact W.vret hx hb hr (fun t ht hW => ⟨⟨(), rfl, trivial, by rw [ht]; exact hP9, va_K.moved hW.alike hK9, hD9⟩, hS.F ht⟩) hS.2.2 dX4_init_14
def w_X9_init : List Cond := .code yX9_init cX9_init 1 none :: ([.methodLink RX9 1 objectInit, .instanceMethod objectInit, .code objectInit ⟨#[0xb1]⟩ 1 none, .classLink RX9 7 RX7, .instantiable RX7 3, .initialized RX7, .instanceMethod yX7_init, .code yX7_init cX7_init 1 none, .methodLink RX7 3 objectInit, .arrayClass .byte, .fieldLink RX7 9 "LineCites$Tape" "bytes" "[B", .fieldLink RX9 10 "LineCites" "tape" "LLineCites$Tape;", .classLink RX9 16 RX8, .instantiable RX8 8, .initialized RX8, .instanceMethod yX8_init, .code yX8_init cX8_init 1 none, .methodLink RX8 3 objectInit, .arrayClass .int, .fieldLink RX8 9 "LineCites$Work" "stretchCounts" "[I", .fieldLink RX8 15 "LineCites$Work" "stretchParts" "[I", .fieldLink RX8 18 "LineCites$Work" "citedParts" "[I", .fieldLink RX8 21 "LineCites$Work" "seenNumbers" "[I", .fieldLink RX8 24 "LineCites$Work" "seenLines" "[I", .fieldLink RX9 19 "LineCites" "now" "LLineCites$Work;", .fieldLink RX9 23 "LineCites" "draft" "LLineCites$Work;", .classLink RX9 26 RX4, .instantiable RX4 7, .initialized RX4, .methodLink RX9 28 yX4_init, .instanceMethod yX4_init, .code yX4_init cX4_init 3 none, .methodLink RX4 3 objectInit, .fieldLink RX4 9 "LineCites$Reader" "tape" "LLineCites$Tape;", .fieldLink RX4 15 "LineCites$Reader" "draft" "LLineCites$Work;", .fieldLink RX9 31 "LineCites" "reader" "LLineCites$Reader;", .classLink RX9 35 RX0, .instantiable RX0 3, .initialized RX0, .instanceMethod yX0_init, .code yX0_init cX0_init 1 none, .methodLink RX0 3 objectInit, .classLink RX0 9 RX8, .fieldLink RX0 11 "LineCites$Acts" "ring" "[LLineCites$Work;", .fieldLink RX9 38 "LineCites" "acts" "LLineCites$Acts;", .classLink RX9 42 RX1, .fieldLink RX9 44 "LineCites" "images" "[LLineCites$Image;", .classLink RX9 48 RX3, .instantiable RX3 3, .initialized RX3, .instanceMethod yX3_init, .code yX3_init cX3_init 1 none, .methodLink RX3 3 objectInit, .fieldLink RX3 9 "LineCites$Numbering" "lows" "[I", .fieldLink RX3 15 "LineCites$Numbering" "highs" "[I", .fieldLink RX9 51 "LineCites" "one" "LLineCites$Numbering;", .fieldLink RX9 55 "LineCites" "other" "LLineCites$Numbering;", .fieldLink RX9 58 "LineCites" "third" "LLineCites$Numbering;", .classLink RX9 61 RX6, .instantiable RX6 8, .initialized RX6, .instanceMethod yX6_init, .code yX6_init cX6_init 1 none, .methodLink RX6 3 objectInit, .fieldLink RX6 9 "LineCites$Spans" "sizes" "[I", .fieldLink RX6 15 "LineCites$Spans" "leasts" "[I", .fieldLink RX6 18 "LineCites$Spans" "greatests" "[I", .fieldLink RX9 64 "LineCites" "spans" "LLineCites$Spans;", .fieldLink RX9 68 "LineCites" "back" "LLineCites$Spans;", .classLink RX9 71 RX5, .instantiable RX5 3, .initialized RX5, .instanceMethod yX5_init, .code yX5_init cX5_init 1 none, .methodLink RX5 3 objectInit, .fieldLink RX9 74 "LineCites" "span" "LLineCites$Span;", .classLink RX9 78 RX2, .instantiable RX2 3, .initialized RX2, .instanceMethod yX2_init, .code yX2_init cX2_init 1 none, .methodLink RX2 3 objectInit, .fieldLink RX2 9 "LineCites$NumberSet" "marks" "[I", .classLink RX2 15 RX5, .fieldLink RX2 18 "LineCites$NumberSet" "span" "LLineCites$Span;", .fieldLink RX2 22 "LineCites$NumberSet" "round" "I", .fieldLink RX9 81 "LineCites" "middle" "LLineCites$NumberSet;", .fieldLink RX9 85 "LineCites" "reached" "LLineCites$NumberSet;"] ++ wsX70 ++ wsX90 ++ wsX80 ++ wsX40 ++ wsX00 ++ wsX30 ++ wsX60 ++ wsX50 ++ wsX20)
set_option maxRecDepth 20000 in
theorem g_X9_init_X7_init : GoodIn w_X9_init w_X7_init := goodIn_r _ [8, 9, 2, 3, 10, 11, 89, 90, 91] rfl (by decide +kernel)
set_option maxRecDepth 20000 in
theorem g_X9_init_X8_init : GoodIn w_X9_init w_X8_init := goodIn_r _ [17, 18, 2, 3, 19, 20, 21, 22, 23, 24, 106, 107, 108, 109, 110, 111, 112, 113] rfl (by decide +kernel)
set_option maxRecDepth 20000 in
theorem g_X9_init_X4_init : GoodIn w_X9_init w_X4_init := goodIn_r _ [32, 33, 2, 3, 34, 35, 114, 115, 116, 117, 118, 119, 120] rfl (by decide +kernel)
set_option maxRecDepth 20000 in
theorem g_X9_init_X0_init : GoodIn w_X9_init w_X0_init := goodIn_r _ [41, 42, 2, 3, 43, 44, 121, 122, 123] rfl (by decide +kernel)
set_option maxRecDepth 20000 in
theorem g_X9_init_X3_init : GoodIn w_X9_init w_X3_init := goodIn_r _ [52, 53, 2, 3, 19, 54, 55, 124, 125, 126] rfl (by decide +kernel)
set_option maxRecDepth 20000 in
theorem g_X9_init_X6_init : GoodIn w_X9_init w_X6_init := goodIn_r _ [63, 64, 2, 3, 19, 65, 66, 67, 127, 128, 129, 130, 131, 132, 133, 134] rfl (by decide +kernel)
set_option maxRecDepth 20000 in
theorem g_X9_init_X5_init : GoodIn w_X9_init w_X5_init := goodIn_r _ [74, 75, 2, 3] rfl (by decide +kernel)
set_option maxRecDepth 20000 in
theorem g_X9_init_X2_init : GoodIn w_X9_init w_X2_init := goodIn_r _ [81, 82, 2, 3, 19, 83, 84, 71, 72, 73, 74, 75, 85, 86, 138, 139, 140, 135, 136, 137] rfl (by decide +kernel)
set_option maxHeartbeats 4000000 in
set_option maxRecDepth 100000 in
theorem c_X9_init (l : Launch) (D : va_G) (h0 : Nat) (sz : Nat) : Met l yX9_init w_X9_init ({ frames := 3, cells := 42, slots := 9843, locals := 52 }) (va_Pc [.ref h0] (fun U => U.heap.size = sz ∧ va_P D vwCl [(h0, .inr (9, [.null, .null, .null, .null, .null, .null, .null, .null, .null, .null, .null, .null, .null, .null]))] U.heap ∧ va_K D vwCl [] U ∧ va_D (fun _ => True) [(h0, .inr (9, [.null, .null, .null, .null, .null, .null, .null, .null, .null, .null, .null, .null, .null, .null]))] ∧ va_Nw (.methodLinkNest RX9 9 yX7_init "LineCites") U ∧ va_Nw (.methodLinkNest RX9 18 yX8_init "LineCites") U ∧ va_Nw (.methodLinkNest RX9 37 yX0_init "LineCites") U ∧ va_Nw (.methodLinkNest RX9 50 yX3_init "LineCites") U ∧ va_Nw (.methodLinkNest RX9 63 yX6_init "LineCites") U ∧ va_Nw (.methodLinkNest RX9 73 yX5_init "LineCites") U ∧ va_Nw (.methodLinkNest RX9 80 yX2_init "LineCites") U ∧ va_Nw (.methodLinkNest RX2 17 yX5_init "LineCites") U ∧ va_AO RX8 U ∧ va_AO RX1 U)) (va_Qv (fun (_ : Unit) => True) (fun (_ : Unit) t => ∃ (a_tape : Nat) (a_now : Nat) (a_draft : Nat) (a_reader : Nat) (a_acts : Nat) (a_images : Nat) (a_one : Nat) (a_other : Nat) (a_third : Nat) (a_spans : Nat) (a_back : Nat) (a_span : Nat) (a_middle : Nat) (a_reached : Nat) (y_b : Nat) (y_sc : Nat) (y_sp : Nat) (y_cp : Nat) (y_sn : Nat) (y_sl : Nat) (a_ring : Nat) (k_b : ClassId) (k_c : ClassId) (k_i : ClassId), va_P D vwCl [(h0, .inr (9, [.ref a_tape, .ref a_now, .ref a_draft, .ref a_reader, .ref a_acts, .ref a_images, .ref a_one, .ref a_other, .ref a_third, .ref a_spans, .ref a_back, .ref a_span, .ref a_middle, .ref a_reached])), (a_tape, .inr (7, [.ref y_b, .int 0, .int 0])), (y_b, .inl (k_b, 200, .inl (fun _ => 0))), (a_now, .inr (8, [.ref y_sc, .ref y_sp, .ref y_cp, .ref y_sn, .ref y_sl, .int 0, .int 0, .int 0])), (y_cp, .inl (k_c, 32, .inl (fun _ => 0))), (a_reader, .inr (4, [.ref a_tape, .ref a_draft, .int 0, .int 0, .int 0, .int 0, .int 0])), (a_acts, .inr (0, [.ref a_ring, .int 0, .int 0])), (a_images, .inl (k_i, 2, .inr (.inr (.inr (.inr (fun _ => none))))))] t.heap ∧ va_K D vwCl [(k_b, .byte), (k_c, .int), (k_i, .object RX1)] t ∧ va_D (va_A [(h0, .inr (9, [.null, .null, .null, .null, .null, .null, .null, .null, .null, .null, .null, .null, .null, .null]))] sz) [(h0, .inr (9, [.ref a_tape, .ref a_now, .ref a_draft, .ref a_reader, .ref a_acts, .ref a_images, .ref a_one, .ref a_other, .ref a_third, .ref a_spans, .ref a_back, .ref a_span, .ref a_middle, .ref a_reached])), (a_tape, .inr (7, [.ref y_b, .int 0, .int 0])), (y_b, .inl (k_b, 200, .inl (fun _ => 0))), (a_now, .inr (8, [.ref y_sc, .ref y_sp, .ref y_cp, .ref y_sn, .ref y_sl, .int 0, .int 0, .int 0])), (y_cp, .inl (k_c, 32, .inl (fun _ => 0))), (a_reader, .inr (4, [.ref a_tape, .ref a_draft, .int 0, .int 0, .int 0, .int 0, .int 0])), (a_acts, .inr (0, [.ref a_ring, .int 0, .int 0])), (a_images, .inl (k_i, 2, .inr (.inr (.inr (.inr (fun _ => none))))))]) (va_A [(h0, .inr (9, [.null, .null, .null, .null, .null, .null, .null, .null, .null, .null, .null, .null, .null, .null]))] sz)) 42 9843 (va_A [(h0, .inr (9, [.null, .null, .null, .null, .null, .null, .null, .null, .null, .null, .null, .null, .null, .null]))] sz) := by
  refine Met.ofW (cc := cX9_init) (maxL := 1) (ret := none) (by decide) rfl ?_
  intro p e s m args below meth c s₁ B hml hv
  obtain ⟨rfl, hsz, hP, hK, hD0, hN9_9, hN9_18, hN9_37, hN9_50, hN9_63, hN9_73, hN9_80, hN2_17, hAO8, hAO1⟩ := hv
  have hx := B.exec
  have hb := B.bytes
  have hr := B.returns
  have hts := atoms_spec (ws := w_X9_init) B.pre
  have hown : s.vm.findClass RX9 = some m.cls := findClass_of_methodNamed B.named
  have hlocks := B.notSynchronized
  have hin : meth.name = "<init>" := (name_of_methodNamed B.named B.method).1
  subst hsz
  have hD := hD0.self (sz := s.heap.size)
  generalize hAe : va_A [(h0, .inr (9, [.null, .null, .null, .null, .null, .null, .null, .null, .null, .null, .null, .null, .null, .null]))] s.heap.size = A at hD ⊢
  have hA : ∀ q : Nat, s.heap.size ≤ q → A q := fun q h => by rw [← hAe]; exact Or.inr h
  have hS : va_S A s.heap s.heap [] := va_S.rf
  have hP : va_P D vwCl [(h0, .inr (9, [.null, .null, .null, .null, .null, .null, .null, .null, .null, .null, .null, .null, .null, .null]))] s.heap := hP
  have hl := lv_entry ([.ref h0]) (n := 1) (Nat.le_of_ble_eq_true rfl)
  rw [lg_entry_eq]
  generalize (lg_sl ([.ref h0]) ++ List.replicate (1 - (lg_sl ([.ref h0])).length) Slot.unset).toArray = ls at hl ⊢
  have hl : lv_has ls 1 [(0, .ref h0)] := hl
  obtain ⟨H, hHe⟩ : ∃ H : Heap, H = s.heap := ⟨_, rfl⟩
  rw [← hHe] at hP
  have hS : va_S A s.heap H [] := by rw [hHe]; exact hS
  refine pw_heap hHe ?_
  refine lv_aload_n hx hb dX9_init_0 rfl (lv_at hl 0 rfl) ?_
  refine W.objInit hx hb hown (hts (.methodLink RX9 1 objectInit) (List.mem_of_getElem? (i := 1) rfl)) (hts (.instanceMethod objectInit) (List.mem_of_getElem? (i := 2) rfl)) (hts (.code objectInit ⟨#[0xb1]⟩ 1 none) (List.mem_of_getElem? (i := 3) rfl)) rfl (by rw [hml]; exact hl.1) rfl dX9_init_1 (Nat.le_of_ble_eq_true rfl) (Nat.le_of_ble_eq_true rfl) ?_
  refine W.eq (g2 := F0 m 4 ls []) rfl ?_
  refine lv_aload_n hx hb dX9_init_4 rfl (lv_at hl 0 rfl) ?_
  refine va_new (ci := 7) (fs := [.null, .int 0, .int 0]) (C := RX7) (T := TX7) (N := 3) hx hb hts (fun _ h => List.mem_cons_of_mem _ (List.mem_append_left _ (List.mem_append_left _ (List.mem_append_left _ (List.mem_append_left _ (List.mem_append_left _ (List.mem_append_left _ (List.mem_append_left _ (List.mem_append_left _ (List.mem_append_right _ h)))))))))) tyX7 tyX7_ok hown (hts (.classLink RX9 7 RX7) (List.mem_of_getElem? (i := 4) rfl)) (hts (.instantiable RX7 3) (List.mem_of_getElem? (i := 5) rfl)) (hts (.initialized RX7) (List.mem_of_getElem? (i := 6) rfl)) hK hP hD hS hA rfl (fun j hj => by rcases (show j = 0 ∨ j = 1 ∨ j = 2 by omega) with rfl | rfl | rfl <;> rfl) (Nat.le_of_ble_eq_true rfl) (Nat.le_of_ble_eq_true rfl) dX9_init_5 (fun q1 H hP hD hS => ?_)
  have hP : va_P D vwCl [(h0, .inr (9, [.null, .null, .null, .null, .null, .null, .null, .null, .null, .null, .null, .null, .null, .null])), (q1, .inr (7, [.null, .int 0, .int 0]))] H := hP
  have hD : va_D A [(h0, .inr (9, [.null, .null, .null, .null, .null, .null, .null, .null, .null, .null, .null, .null, .null, .null])), (q1, .inr (7, [.null, .int 0, .int 0]))] := hD
  have hK : va_K D vwCl [] s := hK
  refine W.widen (k := 1) (n := 3) (Nat.le_of_ble_eq_true rfl) (Nat.le_of_ble_eq_true rfl) ?_
  refine lv_dup hx hb dX9_init_8 rfl ?_
  have hPc := hP.sub (ws' := [(q1, .inr (7, [.null, .int 0, .int 0]))]) [1] rfl
  have hKc := hK.sub (tys' := []) [] rfl
  have hDc := hD.sub (ws' := [(q1, .inr (7, [.null, .int 0, .int 0]))]) [1] (by decide) rfl
  have hFc := va_free (wc := [(q1, .inr (7, [.null, .int 0, .int 0]))]) hD hS hA [1] rfl
  refine va_callv (va_runIN (As := []) (rest := [.ref q1, .ref h0]) ⟨hx, hb, hml, hown, hts⟩ (c_X7_init l D q1 H.size) ⟨va_cnB 0 hts g_X9_init_X7_init rfl rfl rfl hN9_9 (hts (.initialized RX7) (List.mem_of_getElem? (i := 6) rfl)) (by decide +kernel) ⟨Nat.le_of_ble_eq_true rfl, Nat.le_of_ble_eq_true rfl⟩, rfl, (hts (.instanceMethod yX7_init) (List.mem_of_getElem? (i := 7) rfl))⟩ ⟨fun a U g mk q => by obtain ⟨q0, q1, qP, qK, qD⟩ := q; exact ⟨q0, q1, qP, va_K.moved (u := U) (U := U.calling g mk a) (Vm.Alike.refl U.vm) qK, qD⟩, fun U hU hW => ⟨rfl, by rw [hU], by rw [hU]; exact hPc, va_K.moved hW.alike hKc, hDc.weaken (fun _ _ _ _ => trivial)⟩⟩ rfl rfl hl.1 rfl (lv_room (Nat.le_of_ble_eq_true rfl)) dX9_init_9 ⟨Nat.le_of_ble_eq_true rfl, Nat.le_of_ble_eq_true rfl⟩) hS (fun q _ h => hFc q h) hFc (fun u t H1 locs ht hvm hw hB hz1 hk1 hS => ?_)
  obtain ⟨y3, y4, hP1, hK1, hD1⟩ := hB
  rw [ht] at hP1
  have hK1 := va_K.moved hvm.symm hK1
  obtain ⟨hP, hD⟩ := va_join (wr := [(h0, .inr (9, [.null, .null, .null, .null, .null, .null, .null, .null, .null, .null, .null, .null, .null, .null]))]) (w1 := [(q1, .inr (7, [.ref y3, .int 0, .int 0])), (y3, .inl (y4, 200, .inl (fun _ => 0)))]) hP hD [1] [0] rfl rfl (by decide) (by decide) hk1 hFc hP1 hD1
  have hK := (hK.sub (tys' := []) [] rfl).app hK1
  generalize H1 = H at hP hS ⊢
  have hP : va_P D vwCl [(h0, .inr (9, [.null, .null, .null, .null, .null, .null, .null, .null, .null, .null, .null, .null, .null, .null])), (q1, .inr (7, [.ref y3, .int 0, .int 0])), (y3, .inl (y4, 200, .inl (fun _ => 0)))] H := hP
  have hD : va_D A [(h0, .inr (9, [.null, .null, .null, .null, .null, .null, .null, .null, .null, .null, .null, .null, .null, .null])), (q1, .inr (7, [.ref y3, .int 0, .int 0])), (y3, .inl (y4, 200, .inl (fun _ => 0)))] := hD
  have hK : va_K D vwCl [(y4, .byte)] s := hK
  refine W.widen (k := 2) (n := 203) (Nat.le_of_ble_eq_true rfl) (Nat.le_of_ble_eq_true rfl) ?_
  refine va_putF (D := D) (ci := 9) (v := .ref q1) (ty := .object "LineCites$Tape") (C := RX9) (T := TX9) (N := 14) hx hb hts (fun _ h => List.mem_cons_of_mem _ (List.mem_append_left _ (List.mem_append_left _ (List.mem_append_left _ (List.mem_append_left _ (List.mem_append_left _ (List.mem_append_left _ (List.mem_append_left _ (List.mem_append_right _ h))))))))) tyX9 tyX9_ok nmX9 hown hK hP hD hS 0 rfl rfl 0 (by decide) (hts (.fieldLink RX9 10 "LineCites" "tape" "LLineCites$Tape;") (List.mem_of_getElem? (i := 12) rfl)) (fun _ h9 => h9) rfl hin rfl (by decide +kernel) rfl rfl (Nat.le_of_ble_eq_true rfl) dX9_init_12 (fun H locs hP hD hS => ?_)
  have hP : va_P D vwCl [(h0, .inr (9, [.ref q1, .null, .null, .null, .null, .null, .null, .null, .null, .null, .null, .null, .null, .null])), (q1, .inr (7, [.ref y3, .int 0, .int 0])), (y3, .inl (y4, 200, .inl (fun _ => 0)))] H := hP
  have hD : va_D A [(h0, .inr (9, [.ref q1, .null, .null, .null, .null, .null, .null, .null, .null, .null, .null, .null, .null, .null])), (q1, .inr (7, [.ref y3, .int 0, .int 0])), (y3, .inl (y4, 200, .inl (fun _ => 0)))] := hD
  have hK : va_K D vwCl [(y4, .byte)] s := hK
  refine lv_aload_n hx hb dX9_init_15 rfl (lv_at hl 0 rfl) ?_
  refine va_new (ci := 8) (fs := [.null, .null, .null, .null, .null, .int 0, .int 0, .int 0]) (C := RX8) (T := TX8) (N := 8) hx hb hts (fun _ h => List.mem_cons_of_mem _ (List.mem_append_left _ (List.mem_append_left _ (List.mem_append_left _ (List.mem_append_left _ (List.mem_append_left _ (List.mem_append_left _ (List.mem_append_right _ h)))))))) tyX8 tyX8_ok hown (hts (.classLink RX9 16 RX8) (List.mem_of_getElem? (i := 13) rfl)) (hts (.instantiable RX8 8) (List.mem_of_getElem? (i := 14) rfl)) (hts (.initialized RX8) (List.mem_of_getElem? (i := 15) rfl)) hK hP hD hS hA rfl (fun j hj => by rcases (show j = 0 ∨ j = 1 ∨ j = 2 ∨ j = 3 ∨ j = 4 ∨ j = 5 ∨ j = 6 ∨ j = 7 by omega) with rfl | rfl | rfl | rfl | rfl | rfl | rfl | rfl <;> rfl) (Nat.le_of_ble_eq_true rfl) (Nat.le_of_ble_eq_true rfl) dX9_init_16 (fun q5 H hP hD hS => ?_)
  have hP : va_P D vwCl [(h0, .inr (9, [.ref q1, .null, .null, .null, .null, .null, .null, .null, .null, .null, .null, .null, .null, .null])), (q1, .inr (7, [.ref y3, .int 0, .int 0])), (y3, .inl (y4, 200, .inl (fun _ => 0))), (q5, .inr (8, [.null, .null, .null, .null, .null, .int 0, .int 0, .int 0]))] H := hP
  have hD : va_D A [(h0, .inr (9, [.ref q1, .null, .null, .null, .null, .null, .null, .null, .null, .null, .null, .null, .null, .null])), (q1, .inr (7, [.ref y3, .int 0, .int 0])), (y3, .inl (y4, 200, .inl (fun _ => 0))), (q5, .inr (8, [.null, .null, .null, .null, .null, .int 0, .int 0, .int 0]))] := hD
  have hK : va_K D vwCl [(y4, .byte)] s := hK
  refine W.widen (k := 3) (n := 211) (Nat.le_of_ble_eq_true rfl) (Nat.le_of_ble_eq_true rfl) ?_
  refine lv_dup hx hb dX9_init_19 rfl ?_
  have hPc := hP.sub (ws' := [(q5, .inr (8, [.null, .null, .null, .null, .null, .int 0, .int 0, .int 0]))]) [3] rfl
  have hKc := hK.sub (tys' := []) [] rfl
  have hDc := hD.sub (ws' := [(q5, .inr (8, [.null, .null, .null, .null, .null, .int 0, .int 0, .int 0]))]) [3] (by decide) rfl
  have hFc := va_free (wc := [(q5, .inr (8, [.null, .null, .null, .null, .null, .int 0, .int 0, .int 0]))]) hD hS hA [3] rfl
  refine va_callv (va_runIN (As := []) (rest := [.ref q5, .ref h0]) ⟨hx, hb, hml, hown, hts⟩ (c_X8_init l D q5 H.size) ⟨va_cnB 0 hts g_X9_init_X8_init rfl rfl rfl hN9_18 (hts (.initialized RX8) (List.mem_of_getElem? (i := 15) rfl)) (by decide +kernel) ⟨Nat.le_of_ble_eq_true rfl, Nat.le_of_ble_eq_true rfl⟩, rfl, (hts (.instanceMethod yX8_init) (List.mem_of_getElem? (i := 16) rfl))⟩ ⟨fun a U g mk q => by obtain ⟨q0, q1, qP, qK, qD⟩ := q; exact ⟨q0, q1, qP, va_K.moved (u := U) (U := U.calling g mk a) (Vm.Alike.refl U.vm) qK, qD⟩, fun U hU hW => ⟨rfl, by rw [hU], by rw [hU]; exact hPc, va_K.moved hW.alike hKc, hDc.weaken (fun _ _ _ _ => trivial)⟩⟩ rfl rfl hl.1 rfl (lv_room (Nat.le_of_ble_eq_true rfl)) dX9_init_20 ⟨Nat.le_of_ble_eq_true rfl, Nat.le_of_ble_eq_true rfl⟩) hS (fun q _ h => hFc q h) hFc (fun u t H1 locs ht hvm hw hB hz1 hk1 hS => ?_)
  obtain ⟨y7, y8, y9, y10, y11, y12, hP1, hK1, hD1⟩ := hB
  rw [ht] at hP1
  have hK1 := va_K.moved hvm.symm hK1
  obtain ⟨hP, hD⟩ := va_join (wr := [(h0, .inr (9, [.ref q1, .null, .null, .null, .null, .null, .null, .null, .null, .null, .null, .null, .null, .null])), (q1, .inr (7, [.ref y3, .int 0, .int 0])), (y3, .inl (y4, 200, .inl (fun _ => 0)))]) (w1 := [(q5, .inr (8, [.ref y7, .ref y8, .ref y9, .ref y10, .ref y11, .int 0, .int 0, .int 0])), (y9, .inl (y12, 32, .inl (fun _ => 0)))]) hP hD [3] [0, 1, 2] rfl rfl (by decide) (by decide) hk1 hFc hP1 hD1
  have hK := (hK.sub (tys' := [(y4, .byte)]) [0] rfl).app hK1
  generalize H1 = H at hP hS ⊢
  have hP : va_P D vwCl [(h0, .inr (9, [.ref q1, .null, .null, .null, .null, .null, .null, .null, .null, .null, .null, .null, .null, .null])), (q1, .inr (7, [.ref y3, .int 0, .int 0])), (y3, .inl (y4, 200, .inl (fun _ => 0))), (q5, .inr (8, [.ref y7, .ref y8, .ref y9, .ref y10, .ref y11, .int 0, .int 0, .int 0])), (y9, .inl (y12, 32, .inl (fun _ => 0)))] H := hP
  have hD : va_D A [(h0, .inr (9, [.ref q1, .null, .null, .null, .null, .null, .null, .null, .null, .null, .null, .null, .null, .null])), (q1, .inr (7, [.ref y3, .int 0, .int 0])), (y3, .inl (y4, 200, .inl (fun _ => 0))), (q5, .inr (8, [.ref y7, .ref y8, .ref y9, .ref y10, .ref y11, .int 0, .int 0, .int 0])), (y9, .inl (y12, 32, .inl (fun _ => 0)))] := hD
  have hK : va_K D vwCl [(y4, .byte), (y12, .int)] s := hK
  refine W.widen (k := 8) (n := 392) (Nat.le_of_ble_eq_true rfl) (Nat.le_of_ble_eq_true rfl) ?_
  refine va_putF (D := D) (ci := 9) (v := .ref q5) (ty := .object "LineCites$Work") (C := RX9) (T := TX9) (N := 14) hx hb hts (fun _ h => List.mem_cons_of_mem _ (List.mem_append_left _ (List.mem_append_left _ (List.mem_append_left _ (List.mem_append_left _ (List.mem_append_left _ (List.mem_append_left _ (List.mem_append_left _ (List.mem_append_right _ h))))))))) tyX9 tyX9_ok nmX9 hown hK hP hD hS 0 rfl rfl 1 (by decide) (hts (.fieldLink RX9 19 "LineCites" "now" "LLineCites$Work;") (List.mem_of_getElem? (i := 25) rfl)) (fun _ h9 => h9) rfl hin rfl (by decide +kernel) rfl rfl (Nat.le_of_ble_eq_true rfl) dX9_init_23 (fun H locs hP hD hS => ?_)
  have hP : va_P D vwCl [(h0, .inr (9, [.ref q1, .ref q5, .null, .null, .null, .null, .null, .null, .null, .null, .null, .null, .null, .null])), (q1, .inr (7, [.ref y3, .int 0, .int 0])), (y3, .inl (y4, 200, .inl (fun _ => 0))), (q5, .inr (8, [.ref y7, .ref y8, .ref y9, .ref y10, .ref y11, .int 0, .int 0, .int 0])), (y9, .inl (y12, 32, .inl (fun _ => 0)))] H := hP
  have hD : va_D A [(h0, .inr (9, [.ref q1, .ref q5, .null, .null, .null, .null, .null, .null, .null, .null, .null, .null, .null, .null])), (q1, .inr (7, [.ref y3, .int 0, .int 0])), (y3, .inl (y4, 200, .inl (fun _ => 0))), (q5, .inr (8, [.ref y7, .ref y8, .ref y9, .ref y10, .ref y11, .int 0, .int 0, .int 0])), (y9, .inl (y12, 32, .inl (fun _ => 0)))] := hD
  have hK : va_K D vwCl [(y4, .byte), (y12, .int)] s := hK
  refine lv_aload_n hx hb dX9_init_26 rfl (lv_at hl 0 rfl) ?_
  refine va_new (ci := 8) (fs := [.null, .null, .null, .null, .null, .int 0, .int 0, .int 0]) (C := RX8) (T := TX8) (N := 8) hx hb hts (fun _ h => List.mem_cons_of_mem _ (List.mem_append_left _ (List.mem_append_left _ (List.mem_append_left _ (List.mem_append_left _ (List.mem_append_left _ (List.mem_append_left _ (List.mem_append_right _ h)))))))) tyX8 tyX8_ok hown (hts (.classLink RX9 16 RX8) (List.mem_of_getElem? (i := 13) rfl)) (hts (.instantiable RX8 8) (List.mem_of_getElem? (i := 14) rfl)) (hts (.initialized RX8) (List.mem_of_getElem? (i := 15) rfl)) hK hP hD hS hA rfl (fun j hj => by rcases (show j = 0 ∨ j = 1 ∨ j = 2 ∨ j = 3 ∨ j = 4 ∨ j = 5 ∨ j = 6 ∨ j = 7 by omega) with rfl | rfl | rfl | rfl | rfl | rfl | rfl | rfl <;> rfl) (Nat.le_of_ble_eq_true rfl) (Nat.le_of_ble_eq_true rfl) dX9_init_27 (fun q13 H hP hD hS => ?_)
  have hP : va_P D vwCl [(h0, .inr (9, [.ref q1, .ref q5, .null, .null, .null, .null, .null, .null, .null, .null, .null, .null, .null, .null])), (q1, .inr (7, [.ref y3, .int 0, .int 0])), (y3, .inl (y4, 200, .inl (fun _ => 0))), (q5, .inr (8, [.ref y7, .ref y8, .ref y9, .ref y10, .ref y11, .int 0, .int 0, .int 0])), (y9, .inl (y12, 32, .inl (fun _ => 0))), (q13, .inr (8, [.null, .null, .null, .null, .null, .int 0, .int 0, .int 0]))] H := hP
  have hD : va_D A [(h0, .inr (9, [.ref q1, .ref q5, .null, .null, .null, .null, .null, .null, .null, .null, .null, .null, .null, .null])), (q1, .inr (7, [.ref y3, .int 0, .int 0])), (y3, .inl (y4, 200, .inl (fun _ => 0))), (q5, .inr (8, [.ref y7, .ref y8, .ref y9, .ref y10, .ref y11, .int 0, .int 0, .int 0])), (y9, .inl (y12, 32, .inl (fun _ => 0))), (q13, .inr (8, [.null, .null, .null, .null, .null, .int 0, .int 0, .int 0]))] := hD
  have hK : va_K D vwCl [(y4, .byte), (y12, .int)] s := hK
  refine W.widen (k := 9) (n := 400) (Nat.le_of_ble_eq_true rfl) (Nat.le_of_ble_eq_true rfl) ?_
  refine lv_dup hx hb dX9_init_30 rfl ?_
  have hPc := hP.sub (ws' := [(q13, .inr (8, [.null, .null, .null, .null, .null, .int 0, .int 0, .int 0]))]) [5] rfl
  have hKc := hK.sub (tys' := []) [] rfl
  have hDc := hD.sub (ws' := [(q13, .inr (8, [.null, .null, .null, .null, .null, .int 0, .int 0, .int 0]))]) [5] (by decide) rfl
  have hFc := va_free (wc := [(q13, .inr (8, [.null, .null, .null, .null, .null, .int 0, .int 0, .int 0]))]) hD hS hA [5] rfl
  refine va_callv (va_runIN (As := []) (rest := [.ref q13, .ref h0]) ⟨hx, hb, hml, hown, hts⟩ (c_X8_init l D q13 H.size) ⟨va_cnB 0 hts g_X9_init_X8_init rfl rfl rfl hN9_18 (hts (.initialized RX8) (List.mem_of_getElem? (i := 15) rfl)) (by decide +kernel) ⟨Nat.le_of_ble_eq_true rfl, Nat.le_of_ble_eq_true rfl⟩, rfl, (hts (.instanceMethod yX8_init) (List.mem_of_getElem? (i := 16) rfl))⟩ ⟨fun a U g mk q => by obtain ⟨q0, q1, qP, qK, qD⟩ := q; exact ⟨q0, q1, qP, va_K.moved (u := U) (U := U.calling g mk a) (Vm.Alike.refl U.vm) qK, qD⟩, fun U hU hW => ⟨rfl, by rw [hU], by rw [hU]; exact hPc, va_K.moved hW.alike hKc, hDc.weaken (fun _ _ _ _ => trivial)⟩⟩ rfl rfl hl.1 rfl (lv_room (Nat.le_of_ble_eq_true rfl)) dX9_init_31 ⟨Nat.le_of_ble_eq_true rfl, Nat.le_of_ble_eq_true rfl⟩) hS (fun q _ h => hFc q h) hFc (fun u t H1 locs ht hvm hw hB hz1 hk1 hS => ?_)
  obtain ⟨y15, y16, y17, y18, y19, y20, hP1, hK1, hD1⟩ := hB
  rw [ht] at hP1
  have hK1 := va_K.moved hvm.symm hK1
  obtain ⟨hP, hD⟩ := va_join (wr := [(h0, .inr (9, [.ref q1, .ref q5, .null, .null, .null, .null, .null, .null, .null, .null, .null, .null, .null, .null])), (q1, .inr (7, [.ref y3, .int 0, .int 0])), (y3, .inl (y4, 200, .inl (fun _ => 0))), (q5, .inr (8, [.ref y7, .ref y8, .ref y9, .ref y10, .ref y11, .int 0, .int 0, .int 0])), (y9, .inl (y12, 32, .inl (fun _ => 0)))]) (w1 := [(q13, .inr (8, [.ref y15, .ref y16, .ref y17, .ref y18, .ref y19, .int 0, .int 0, .int 0])), (y17, .inl (y20, 32, .inl (fun _ => 0)))]) hP hD [5] [0, 1, 2, 3, 4] rfl rfl (by decide) (by decide) hk1 hFc hP1 hD1
  have hK := (hK.sub (tys' := [(y4, .byte), (y12, .int)]) [0, 1] rfl).app hK1
  generalize H1 = H at hP hS ⊢
  have hP : va_P D vwCl [(h0, .inr (9, [.ref q1, .ref q5, .null, .null, .null, .null, .null, .null, .null, .null, .null, .null, .null, .null])), (q1, .inr (7, [.ref y3, .int 0, .int 0])), (y3, .inl (y4, 200, .inl (fun _ => 0))), (q5, .inr (8, [.ref y7, .ref y8, .ref y9, .ref y10, .ref y11, .int 0, .int 0, .int 0])), (y9, .inl (y12, 32, .inl (fun _ => 0))), (q13, .inr (8, [.ref y15, .ref y16, .ref y17, .ref y18, .ref y19, .int 0, .int 0, .int 0])), (y17, .inl (y20, 32, .inl (fun _ => 0)))] H := hP
  have hD : va_D A [(h0, .inr (9, [.ref q1, .ref q5, .null, .null, .null, .null, .null, .null, .null, .null, .null, .null, .null, .null])), (q1, .inr (7, [.ref y3, .int 0, .int 0])), (y3, .inl (y4, 200, .inl (fun _ => 0))), (q5, .inr (8, [.ref y7, .ref y8, .ref y9, .ref y10, .ref y11, .int 0, .int 0, .int 0])), (y9, .inl (y12, 32, .inl (fun _ => 0))), (q13, .inr (8, [.ref y15, .ref y16, .ref y17, .ref y18, .ref y19, .int 0, .int 0, .int 0])), (y17, .inl (y20, 32, .inl (fun _ => 0)))] := hD
  have hK : va_K D vwCl [(y4, .byte), (y12, .int), (y20, .int)] s := hK
  refine W.widen (k := 14) (n := 581) (Nat.le_of_ble_eq_true rfl) (Nat.le_of_ble_eq_true rfl) ?_
  refine va_putF (D := D) (ci := 9) (v := .ref q13) (ty := .object "LineCites$Work") (C := RX9) (T := TX9) (N := 14) hx hb hts (fun _ h => List.mem_cons_of_mem _ (List.mem_append_left _ (List.mem_append_left _ (List.mem_append_left _ (List.mem_append_left _ (List.mem_append_left _ (List.mem_append_left _ (List.mem_append_left _ (List.mem_append_right _ h))))))))) tyX9 tyX9_ok nmX9 hown hK hP hD hS 0 rfl rfl 2 (by decide) (hts (.fieldLink RX9 23 "LineCites" "draft" "LLineCites$Work;") (List.mem_of_getElem? (i := 26) rfl)) (fun _ h9 => h9) rfl hin rfl (by decide +kernel) rfl rfl (Nat.le_of_ble_eq_true rfl) dX9_init_34 (fun H locs hP hD hS => ?_)
  have hP : va_P D vwCl [(h0, .inr (9, [.ref q1, .ref q5, .ref q13, .null, .null, .null, .null, .null, .null, .null, .null, .null, .null, .null])), (q1, .inr (7, [.ref y3, .int 0, .int 0])), (y3, .inl (y4, 200, .inl (fun _ => 0))), (q5, .inr (8, [.ref y7, .ref y8, .ref y9, .ref y10, .ref y11, .int 0, .int 0, .int 0])), (y9, .inl (y12, 32, .inl (fun _ => 0))), (q13, .inr (8, [.ref y15, .ref y16, .ref y17, .ref y18, .ref y19, .int 0, .int 0, .int 0])), (y17, .inl (y20, 32, .inl (fun _ => 0)))] H := hP
  have hD : va_D A [(h0, .inr (9, [.ref q1, .ref q5, .ref q13, .null, .null, .null, .null, .null, .null, .null, .null, .null, .null, .null])), (q1, .inr (7, [.ref y3, .int 0, .int 0])), (y3, .inl (y4, 200, .inl (fun _ => 0))), (q5, .inr (8, [.ref y7, .ref y8, .ref y9, .ref y10, .ref y11, .int 0, .int 0, .int 0])), (y9, .inl (y12, 32, .inl (fun _ => 0))), (q13, .inr (8, [.ref y15, .ref y16, .ref y17, .ref y18, .ref y19, .int 0, .int 0, .int 0])), (y17, .inl (y20, 32, .inl (fun _ => 0)))] := hD
  have hK : va_K D vwCl [(y4, .byte), (y12, .int), (y20, .int)] s := hK
  refine lv_aload_n hx hb dX9_init_37 rfl (lv_at hl 0 rfl) ?_
  refine va_new (ci := 4) (fs := [.null, .null, .int 0, .int 0, .int 0, .int 0, .int 0]) (C := RX4) (T := TX4) (N := 7) hx hb hts (fun _ h => List.mem_cons_of_mem _ (List.mem_append_left _ (List.mem_append_left _ (List.mem_append_left _ (List.mem_append_left _ (List.mem_append_left _ (List.mem_append_right _ h))))))) tyX4 tyX4_ok hown (hts (.classLink RX9 26 RX4) (List.mem_of_getElem? (i := 27) rfl)) (hts (.instantiable RX4 7) (List.mem_of_getElem? (i := 28) rfl)) (hts (.initialized RX4) (List.mem_of_getElem? (i := 29) rfl)) hK hP hD hS hA rfl (fun j hj => by rcases (show j = 0 ∨ j = 1 ∨ j = 2 ∨ j = 3 ∨ j = 4 ∨ j = 5 ∨ j = 6 by omega) with rfl | rfl | rfl | rfl | rfl | rfl | rfl <;> rfl) (Nat.le_of_ble_eq_true rfl) (Nat.le_of_ble_eq_true rfl) dX9_init_38 (fun q21 H hP hD hS => ?_)
  have hP : va_P D vwCl [(h0, .inr (9, [.ref q1, .ref q5, .ref q13, .null, .null, .null, .null, .null, .null, .null, .null, .null, .null, .null])), (q1, .inr (7, [.ref y3, .int 0, .int 0])), (y3, .inl (y4, 200, .inl (fun _ => 0))), (q5, .inr (8, [.ref y7, .ref y8, .ref y9, .ref y10, .ref y11, .int 0, .int 0, .int 0])), (y9, .inl (y12, 32, .inl (fun _ => 0))), (q13, .inr (8, [.ref y15, .ref y16, .ref y17, .ref y18, .ref y19, .int 0, .int 0, .int 0])), (y17, .inl (y20, 32, .inl (fun _ => 0))), (q21, .inr (4, [.null, .null, .int 0, .int 0, .int 0, .int 0, .int 0]))] H := hP
  have hD : va_D A [(h0, .inr (9, [.ref q1, .ref q5, .ref q13, .null, .null, .null, .null, .null, .null, .null, .null, .null, .null, .null])), (q1, .inr (7, [.ref y3, .int 0, .int 0])), (y3, .inl (y4, 200, .inl (fun _ => 0))), (q5, .inr (8, [.ref y7, .ref y8, .ref y9, .ref y10, .ref y11, .int 0, .int 0, .int 0])), (y9, .inl (y12, 32, .inl (fun _ => 0))), (q13, .inr (8, [.ref y15, .ref y16, .ref y17, .ref y18, .ref y19, .int 0, .int 0, .int 0])), (y17, .inl (y20, 32, .inl (fun _ => 0))), (q21, .inr (4, [.null, .null, .int 0, .int 0, .int 0, .int 0, .int 0]))] := hD
  have hK : va_K D vwCl [(y4, .byte), (y12, .int), (y20, .int)] s := hK
  refine W.widen (k := 15) (n := 588) (Nat.le_of_ble_eq_true rfl) (Nat.le_of_ble_eq_true rfl) ?_
  refine lv_dup hx hb dX9_init_41 rfl ?_
  refine lv_aload_n hx hb dX9_init_42 rfl (lv_at hl 0 rfl) ?_
  refine va_get (D := D) (ci := 9) (v := .ref q1) (C := RX9) (T := TX9) (N := 14) hx hb hts (fun _ h => List.mem_cons_of_mem _ (List.mem_append_left _ (List.mem_append_left _ (List.mem_append_left _ (List.mem_append_left _ (List.mem_append_left _ (List.mem_append_left _ (List.mem_append_left _ (List.mem_append_right _ h))))))))) hown hK hP 0 rfl rfl 0 (by decide) (hts (.fieldLink RX9 10 "LineCites" "tape" "LLineCites$Tape;") (List.mem_of_getElem? (i := 12) rfl)) (fun _ h9 => h9) rfl dX9_init_43 ?_
  refine lv_aload_n hx hb dX9_init_46 rfl (lv_at hl 0 rfl) ?_
  refine va_get (D := D) (ci := 9) (v := .ref q13) (C := RX9) (T := TX9) (N := 14) hx hb hts (fun _ h => List.mem_cons_of_mem _ (List.mem_append_left _ (List.mem_append_left _ (List.mem_append_left _ (List.mem_append_left _ (List.mem_append_left _ (List.mem_append_left _ (List.mem_append_left _ (List.mem_append_right _ h))))))))) hown hK hP 0 rfl rfl 2 (by decide) (hts (.fieldLink RX9 23 "LineCites" "draft" "LLineCites$Work;") (List.mem_of_getElem? (i := 26) rfl)) (fun _ h9 => h9) rfl dX9_init_47 ?_
  have hPc := hP.sub (ws' := [(q21, .inr (4, [.null, .null, .int 0, .int 0, .int 0, .int 0, .int 0]))]) [7] rfl
  have hKc := hK.sub (tys' := []) [] rfl
  have hDc := hD.sub (ws' := [(q21, .inr (4, [.null, .null, .int 0, .int 0, .int 0, .int 0, .int 0]))]) [7] (by decide) rfl
  have hFc := va_free (wc := [(q21, .inr (4, [.null, .null, .int 0, .int 0, .int 0, .int 0, .int 0]))]) hD hS hA [7] rfl
  refine va_callv (va_runI (As := [.ref q1, .ref q13]) (rest := [.ref q21, .ref h0]) ⟨hx, hb, hml, hown, hts⟩ (c_X4_init l D q21 q1 q13 H.size) (cwI 2 hts g_X9_init_X4_init rfl rfl rfl (hts (.initialized RX4) (List.mem_of_getElem? (i := 29) rfl)) (hts (.methodLink RX9 28 yX4_init) (List.mem_of_getElem? (i := 30) rfl)) (hts (.instanceMethod yX4_init) (List.mem_of_getElem? (i := 31) rfl)) rfl (by decide +kernel) ⟨Nat.le_of_ble_eq_true rfl, Nat.le_of_ble_eq_true rfl⟩) ⟨fun a U g mk q => by obtain ⟨q0, q1, qP, qK, qD⟩ := q; exact ⟨q0, q1, qP, va_K.moved (u := U) (U := U.calling g mk a) (Vm.Alike.refl U.vm) qK, qD⟩, fun U hU hW => ⟨rfl, by rw [hU], by rw [hU]; exact hPc, va_K.moved hW.alike hKc, hDc.weaken (fun _ _ _ _ => trivial)⟩⟩ rfl rfl hl.1 rfl (lv_room (Nat.le_of_ble_eq_true rfl)) dX9_init_50 ⟨Nat.le_of_ble_eq_true rfl, Nat.le_of_ble_eq_true rfl⟩) hS (fun q _ h => hFc q h) hFc (fun u t H1 locs ht hvm hw hB hz1 hk1 hS => ?_)
  obtain ⟨hP1, hK1, hD1⟩ := hB
  rw [ht] at hP1
  have hK1 := va_K.moved hvm.symm hK1
  obtain ⟨hP, hD⟩ := va_join (wr := [(h0, .inr (9, [.ref q1, .ref q5, .ref q13, .null, .null, .null, .null, .null, .null, .null, .null, .null, .null, .null])), (q1, .inr (7, [.ref y3, .int 0, .int 0])), (y3, .inl (y4, 200, .inl (fun _ => 0))), (q5, .inr (8, [.ref y7, .ref y8, .ref y9, .ref y10, .ref y11, .int 0, .int 0, .int 0])), (y9, .inl (y12, 32, .inl (fun _ => 0))), (q13, .inr (8, [.ref y15, .ref y16, .ref y17, .ref y18, .ref y19, .int 0, .int 0, .int 0])), (y17, .inl (y20, 32, .inl (fun _ => 0)))]) (w1 := [(q21, .inr (4, [.ref q1, .ref q13, .int 0, .int 0, .int 0, .int 0, .int 0]))]) hP hD [7] [0, 1, 2, 3, 4, 5, 6] rfl rfl (by decide) (by decide) hk1 hFc hP1 hD1
  have hK := (hK.sub (tys' := [(y4, .byte), (y12, .int), (y20, .int)]) [0, 1, 2] rfl).app hK1
  generalize H1 = H at hP hS ⊢
  have hP : va_P D vwCl [(h0, .inr (9, [.ref q1, .ref q5, .ref q13, .null, .null, .null, .null, .null, .null, .null, .null, .null, .null, .null])), (q1, .inr (7, [.ref y3, .int 0, .int 0])), (y3, .inl (y4, 200, .inl (fun _ => 0))), (q5, .inr (8, [.ref y7, .ref y8, .ref y9, .ref y10, .ref y11, .int 0, .int 0, .int 0])), (y9, .inl (y12, 32, .inl (fun _ => 0))), (q13, .inr (8, [.ref y15, .ref y16, .ref y17, .ref y18, .ref y19, .int 0, .int 0, .int 0])), (y17, .inl (y20, 32, .inl (fun _ => 0))), (q21, .inr (4, [.ref q1, .ref q13, .int 0, .int 0, .int 0, .int 0, .int 0]))] H := hP
  have hD : va_D A [(h0, .inr (9, [.ref q1, .ref q5, .ref q13, .null, .null, .null, .null, .null, .null, .null, .null, .null, .null, .null])), (q1, .inr (7, [.ref y3, .int 0, .int 0])), (y3, .inl (y4, 200, .inl (fun _ => 0))), (q5, .inr (8, [.ref y7, .ref y8, .ref y9, .ref y10, .ref y11, .int 0, .int 0, .int 0])), (y9, .inl (y12, 32, .inl (fun _ => 0))), (q13, .inr (8, [.ref y15, .ref y16, .ref y17, .ref y18, .ref y19, .int 0, .int 0, .int 0])), (y17, .inl (y20, 32, .inl (fun _ => 0))), (q21, .inr (4, [.ref q1, .ref q13, .int 0, .int 0, .int 0, .int 0, .int 0]))] := hD
  have hK : va_K D vwCl [(y4, .byte), (y12, .int), (y20, .int)] s := hK
  refine W.widen (k := 15) (n := 588) (Nat.le_of_ble_eq_true rfl) (Nat.le_of_ble_eq_true rfl) ?_
  refine va_putF (D := D) (ci := 9) (v := .ref q21) (ty := .object "LineCites$Reader") (C := RX9) (T := TX9) (N := 14) hx hb hts (fun _ h => List.mem_cons_of_mem _ (List.mem_append_left _ (List.mem_append_left _ (List.mem_append_left _ (List.mem_append_left _ (List.mem_append_left _ (List.mem_append_left _ (List.mem_append_left _ (List.mem_append_right _ h))))))))) tyX9 tyX9_ok nmX9 hown hK hP hD hS 0 rfl rfl 3 (by decide) (hts (.fieldLink RX9 31 "LineCites" "reader" "LLineCites$Reader;") (List.mem_of_getElem? (i := 36) rfl)) (fun _ h9 => h9) rfl hin rfl (by decide +kernel) rfl rfl (Nat.le_of_ble_eq_true rfl) dX9_init_53 (fun H locs hP hD hS => ?_)
  have hP : va_P D vwCl [(h0, .inr (9, [.ref q1, .ref q5, .ref q13, .ref q21, .null, .null, .null, .null, .null, .null, .null, .null, .null, .null])), (q1, .inr (7, [.ref y3, .int 0, .int 0])), (y3, .inl (y4, 200, .inl (fun _ => 0))), (q5, .inr (8, [.ref y7, .ref y8, .ref y9, .ref y10, .ref y11, .int 0, .int 0, .int 0])), (y9, .inl (y12, 32, .inl (fun _ => 0))), (q13, .inr (8, [.ref y15, .ref y16, .ref y17, .ref y18, .ref y19, .int 0, .int 0, .int 0])), (y17, .inl (y20, 32, .inl (fun _ => 0))), (q21, .inr (4, [.ref q1, .ref q13, .int 0, .int 0, .int 0, .int 0, .int 0]))] H := hP
  have hD : va_D A [(h0, .inr (9, [.ref q1, .ref q5, .ref q13, .ref q21, .null, .null, .null, .null, .null, .null, .null, .null, .null, .null])), (q1, .inr (7, [.ref y3, .int 0, .int 0])), (y3, .inl (y4, 200, .inl (fun _ => 0))), (q5, .inr (8, [.ref y7, .ref y8, .ref y9, .ref y10, .ref y11, .int 0, .int 0, .int 0])), (y9, .inl (y12, 32, .inl (fun _ => 0))), (q13, .inr (8, [.ref y15, .ref y16, .ref y17, .ref y18, .ref y19, .int 0, .int 0, .int 0])), (y17, .inl (y20, 32, .inl (fun _ => 0))), (q21, .inr (4, [.ref q1, .ref q13, .int 0, .int 0, .int 0, .int 0, .int 0]))] := hD
  have hK : va_K D vwCl [(y4, .byte), (y12, .int), (y20, .int)] s := hK
  refine lv_aload_n hx hb dX9_init_56 rfl (lv_at hl 0 rfl) ?_
  refine va_new (ci := 0) (fs := [.null, .int 0, .int 0]) (C := RX0) (T := TX0) (N := 3) hx hb hts (fun _ h => List.mem_cons_of_mem _ (List.mem_append_left _ (List.mem_append_left _ (List.mem_append_left _ (List.mem_append_left _ (List.mem_append_right _ h)))))) tyX0 tyX0_ok hown (hts (.classLink RX9 35 RX0) (List.mem_of_getElem? (i := 37) rfl)) (hts (.instantiable RX0 3) (List.mem_of_getElem? (i := 38) rfl)) (hts (.initialized RX0) (List.mem_of_getElem? (i := 39) rfl)) hK hP hD hS hA rfl (fun j hj => by rcases (show j = 0 ∨ j = 1 ∨ j = 2 by omega) with rfl | rfl | rfl <;> rfl) (Nat.le_of_ble_eq_true rfl) (Nat.le_of_ble_eq_true rfl) dX9_init_57 (fun q23 H hP hD hS => ?_)
  have hP : va_P D vwCl [(h0, .inr (9, [.ref q1, .ref q5, .ref q13, .ref q21, .null, .null, .null, .null, .null, .null, .null, .null, .null, .null])), (q1, .inr (7, [.ref y3, .int 0, .int 0])), (y3, .inl (y4, 200, .inl (fun _ => 0))), (q5, .inr (8, [.ref y7, .ref y8, .ref y9, .ref y10, .ref y11, .int 0, .int 0, .int 0])), (y9, .inl (y12, 32, .inl (fun _ => 0))), (q13, .inr (8, [.ref y15, .ref y16, .ref y17, .ref y18, .ref y19, .int 0, .int 0, .int 0])), (y17, .inl (y20, 32, .inl (fun _ => 0))), (q21, .inr (4, [.ref q1, .ref q13, .int 0, .int 0, .int 0, .int 0, .int 0])), (q23, .inr (0, [.null, .int 0, .int 0]))] H := hP
  have hD : va_D A [(h0, .inr (9, [.ref q1, .ref q5, .ref q13, .ref q21, .null, .null, .null, .null, .null, .null, .null, .null, .null, .null])), (q1, .inr (7, [.ref y3, .int 0, .int 0])), (y3, .inl (y4, 200, .inl (fun _ => 0))), (q5, .inr (8, [.ref y7, .ref y8, .ref y9, .ref y10, .ref y11, .int 0, .int 0, .int 0])), (y9, .inl (y12, 32, .inl (fun _ => 0))), (q13, .inr (8, [.ref y15, .ref y16, .ref y17, .ref y18, .ref y19, .int 0, .int 0, .int 0])), (y17, .inl (y20, 32, .inl (fun _ => 0))), (q21, .inr (4, [.ref q1, .ref q13, .int 0, .int 0, .int 0, .int 0, .int 0])), (q23, .inr (0, [.null, .int 0, .int 0]))] := hD
  have hK : va_K D vwCl [(y4, .byte), (y12, .int), (y20, .int)] s := hK
  refine W.widen (k := 16) (n := 591) (Nat.le_of_ble_eq_true rfl) (Nat.le_of_ble_eq_true rfl) ?_
  refine lv_dup hx hb dX9_init_60 rfl ?_
  have hPc := hP.sub (ws' := [(q23, .inr (0, [.null, .int 0, .int 0]))]) [8] rfl
  have hKc := hK.sub (tys' := []) [] rfl
  have hDc := hD.sub (ws' := [(q23, .inr (0, [.null, .int 0, .int 0]))]) [8] (by decide) rfl
  have hFc := va_free (wc := [(q23, .inr (0, [.null, .int 0, .int 0]))]) hD hS hA [8] rfl
  refine va_callv (va_runIN (As := []) (rest := [.ref q23, .ref h0]) ⟨hx, hb, hml, hown, hts⟩ (c_X0_init l D q23 H.size) ⟨va_cnB 0 hts g_X9_init_X0_init rfl rfl rfl hN9_37 (hts (.initialized RX0) (List.mem_of_getElem? (i := 39) rfl)) (by decide +kernel) ⟨Nat.le_of_ble_eq_true rfl, Nat.le_of_ble_eq_true rfl⟩, rfl, (hts (.instanceMethod yX0_init) (List.mem_of_getElem? (i := 40) rfl))⟩ ⟨fun a U g mk q => by obtain ⟨q0, q1, qP, qK, qD, qE0⟩ := q; exact ⟨q0, q1, qP, va_K.moved (u := U) (U := U.calling g mk a) (Vm.Alike.refl U.vm) qK, qD, va_AO.moved (u := U) (U := U.calling g mk a) (Vm.Alike.refl U.vm) qE0⟩, fun U hU hW => ⟨rfl, by rw [hU], by rw [hU]; exact hPc, va_K.moved hW.alike hKc, hDc.weaken (fun _ _ _ _ => trivial), va_AO.moved hW.alike hAO8⟩⟩ rfl rfl hl.1 rfl (lv_room (Nat.le_of_ble_eq_true rfl)) dX9_init_61 ⟨Nat.le_of_ble_eq_true rfl, Nat.le_of_ble_eq_true rfl⟩) hS (fun q _ h => hFc q h) hFc (fun u t H1 locs ht hvm hw hB hz1 hk1 hS => ?_)
  obtain ⟨y25, hP1, hK1, hD1⟩ := hB
  rw [ht] at hP1
  have hK1 := va_K.moved hvm.symm hK1
  obtain ⟨hP, hD⟩ := va_join (wr := [(h0, .inr (9, [.ref q1, .ref q5, .ref q13, .ref q21, .null, .null, .null, .null, .null, .null, .null, .null, .null, .null])), (q1, .inr (7, [.ref y3, .int 0, .int 0])), (y3, .inl (y4, 200, .inl (fun _ => 0))), (q5, .inr (8, [.ref y7, .ref y8, .ref y9, .ref y10, .ref y11, .int 0, .int 0, .int 0])), (y9, .inl (y12, 32, .inl (fun _ => 0))), (q13, .inr (8, [.ref y15, .ref y16, .ref y17, .ref y18, .ref y19, .int 0, .int 0, .int 0])), (y17, .inl (y20, 32, .inl (fun _ => 0))), (q21, .inr (4, [.ref q1, .ref q13, .int 0, .int 0, .int 0, .int 0, .int 0]))]) (w1 := [(q23, .inr (0, [.ref y25, .int 0, .int 0]))]) hP hD [8] [0, 1, 2, 3, 4, 5, 6, 7] rfl rfl (by decide) (by decide) hk1 hFc hP1 hD1
  have hK := (hK.sub (tys' := [(y4, .byte), (y12, .int), (y20, .int)]) [0, 1, 2] rfl).app hK1
  generalize H1 = H at hP hS ⊢
  have hP : va_P D vwCl [(h0, .inr (9, [.ref q1, .ref q5, .ref q13, .ref q21, .null, .null, .null, .null, .null, .null, .null, .null, .null, .null])), (q1, .inr (7, [.ref y3, .int 0, .int 0])), (y3, .inl (y4, 200, .inl (fun _ => 0))), (q5, .inr (8, [.ref y7, .ref y8, .ref y9, .ref y10, .ref y11, .int 0, .int 0, .int 0])), (y9, .inl (y12, 32, .inl (fun _ => 0))), (q13, .inr (8, [.ref y15, .ref y16, .ref y17, .ref y18, .ref y19, .int 0, .int 0, .int 0])), (y17, .inl (y20, 32, .inl (fun _ => 0))), (q21, .inr (4, [.ref q1, .ref q13, .int 0, .int 0, .int 0, .int 0, .int 0])), (q23, .inr (0, [.ref y25, .int 0, .int 0]))] H := hP
  have hD : va_D A [(h0, .inr (9, [.ref q1, .ref q5, .ref q13, .ref q21, .null, .null, .null, .null, .null, .null, .null, .null, .null, .null])), (q1, .inr (7, [.ref y3, .int 0, .int 0])), (y3, .inl (y4, 200, .inl (fun _ => 0))), (q5, .inr (8, [.ref y7, .ref y8, .ref y9, .ref y10, .ref y11, .int 0, .int 0, .int 0])), (y9, .inl (y12, 32, .inl (fun _ => 0))), (q13, .inr (8, [.ref y15, .ref y16, .ref y17, .ref y18, .ref y19, .int 0, .int 0, .int 0])), (y17, .inl (y20, 32, .inl (fun _ => 0))), (q21, .inr (4, [.ref q1, .ref q13, .int 0, .int 0, .int 0, .int 0, .int 0])), (q23, .inr (0, [.ref y25, .int 0, .int 0]))] := hD
  have hK : va_K D vwCl [(y4, .byte), (y12, .int), (y20, .int)] s := hK
  refine W.widen (k := 17) (n := 601) (Nat.le_of_ble_eq_true rfl) (Nat.le_of_ble_eq_true rfl) ?_
  refine va_putF (D := D) (ci := 9) (v := .ref q23) (ty := .object "LineCites$Acts") (C := RX9) (T := TX9) (N := 14) hx hb hts (fun _ h => List.mem_cons_of_mem _ (List.mem_append_left _ (List.mem_append_left _ (List.mem_append_left _ (List.mem_append_left _ (List.mem_append_left _ (List.mem_append_left _ (List.mem_append_left _ (List.mem_append_right _ h))))))))) tyX9 tyX9_ok nmX9 hown hK hP hD hS 0 rfl rfl 4 (by decide) (hts (.fieldLink RX9 38 "LineCites" "acts" "LLineCites$Acts;") (List.mem_of_getElem? (i := 45) rfl)) (fun _ h9 => h9) rfl hin rfl (by decide +kernel) rfl rfl (Nat.le_of_ble_eq_true rfl) dX9_init_64 (fun H locs hP hD hS => ?_)
  have hP : va_P D vwCl [(h0, .inr (9, [.ref q1, .ref q5, .ref q13, .ref q21, .ref q23, .null, .null, .null, .null, .null, .null, .null, .null, .null])), (q1, .inr (7, [.ref y3, .int 0, .int 0])), (y3, .inl (y4, 200, .inl (fun _ => 0))), (q5, .inr (8, [.ref y7, .ref y8, .ref y9, .ref y10, .ref y11, .int 0, .int 0, .int 0])), (y9, .inl (y12, 32, .inl (fun _ => 0))), (q13, .inr (8, [.ref y15, .ref y16, .ref y17, .ref y18, .ref y19, .int 0, .int 0, .int 0])), (y17, .inl (y20, 32, .inl (fun _ => 0))), (q21, .inr (4, [.ref q1, .ref q13, .int 0, .int 0, .int 0, .int 0, .int 0])), (q23, .inr (0, [.ref y25, .int 0, .int 0]))] H := hP
  have hD : va_D A [(h0, .inr (9, [.ref q1, .ref q5, .ref q13, .ref q21, .ref q23, .null, .null, .null, .null, .null, .null, .null, .null, .null])), (q1, .inr (7, [.ref y3, .int 0, .int 0])), (y3, .inl (y4, 200, .inl (fun _ => 0))), (q5, .inr (8, [.ref y7, .ref y8, .ref y9, .ref y10, .ref y11, .int 0, .int 0, .int 0])), (y9, .inl (y12, 32, .inl (fun _ => 0))), (q13, .inr (8, [.ref y15, .ref y16, .ref y17, .ref y18, .ref y19, .int 0, .int 0, .int 0])), (y17, .inl (y20, 32, .inl (fun _ => 0))), (q21, .inr (4, [.ref q1, .ref q13, .int 0, .int 0, .int 0, .int 0, .int 0])), (q23, .inr (0, [.ref y25, .int 0, .int 0]))] := hD
  have hK : va_K D vwCl [(y4, .byte), (y12, .int), (y20, .int)] s := hK
  refine lv_aload_n hx hb dX9_init_67 rfl (lv_at hl 0 rfl) ?_
  refine lv_iconst (v := 2) hx hb dX9_init_68 (by decide) ?_
  refine va_newq (C := RX1) (N' := 2) hx hb hown (hts (.classLink RX9 42 RX1) (List.mem_of_getElem? (i := 46) rfl)) hAO1 hK hP hD hS hA (by decide) (by decide) (Nat.le_of_ble_eq_true rfl) (Nat.le_of_ble_eq_true rfl) (Nat.le_of_ble_eq_true rfl) dX9_init_69 (fun q26 k27 H hK hP hD hS => ?_)
  have hP : va_P D vwCl [(h0, .inr (9, [.ref q1, .ref q5, .ref q13, .ref q21, .ref q23, .null, .null, .null, .null, .null, .null, .null, .null, .null])), (q1, .inr (7, [.ref y3, .int 0, .int 0])), (y3, .inl (y4, 200, .inl (fun _ => 0))), (q5, .inr (8, [.ref y7, .ref y8, .ref y9, .ref y10, .ref y11, .int 0, .int 0, .int 0])), (y9, .inl (y12, 32, .inl (fun _ => 0))), (q13, .inr (8, [.ref y15, .ref y16, .ref y17, .ref y18, .ref y19, .int 0, .int 0, .int 0])), (y17, .inl (y20, 32, .inl (fun _ => 0))), (q21, .inr (4, [.ref q1, .ref q13, .int 0, .int 0, .int 0, .int 0, .int 0])), (q23, .inr (0, [.ref y25, .int 0, .int 0])), (q26, .inl (k27, 2, .inr (.inr (.inr (.inr (fun _ => none))))))] H := hP
  have hD : va_D A [(h0, .inr (9, [.ref q1, .ref q5, .ref q13, .ref q21, .ref q23, .null, .null, .null, .null, .null, .null, .null, .null, .null])), (q1, .inr (7, [.ref y3, .int 0, .int 0])), (y3, .inl (y4, 200, .inl (fun _ => 0))), (q5, .inr (8, [.ref y7, .ref y8, .ref y9, .ref y10, .ref y11, .int 0, .int 0, .int 0])), (y9, .inl (y12, 32, .inl (fun _ => 0))), (q13, .inr (8, [.ref y15, .ref y16, .ref y17, .ref y18, .ref y19, .int 0, .int 0, .int 0])), (y17, .inl (y20, 32, .inl (fun _ => 0))), (q21, .inr (4, [.ref q1, .ref q13, .int 0, .int 0, .int 0, .int 0, .int 0])), (q23, .inr (0, [.ref y25, .int 0, .int 0])), (q26, .inl (k27, 2, .inr (.inr (.inr (.inr (fun _ => none))))))] := hD
  have hK : va_K D vwCl [(y4, .byte), (y12, .int), (y20, .int), (k27, .object RX1)] s := hK
  refine W.widen (k := 18) (n := 603) (Nat.le_of_ble_eq_true rfl) (Nat.le_of_ble_eq_true rfl) ?_
  refine va_putF (D := D) (ci := 9) (v := .ref q26) (ty := .array (.object "LineCites$Image")) (C := RX9) (T := TX9) (N := 14) hx hb hts (fun _ h => List.mem_cons_of_mem _ (List.mem_append_left _ (List.mem_append_left _ (List.mem_append_left _ (List.mem_append_left _ (List.mem_append_left _ (List.mem_append_left _ (List.mem_append_left _ (List.mem_append_right _ h))))))))) tyX9 tyX9_ok nmX9 hown hK hP hD hS 0 rfl rfl 5 (by decide) (hts (.fieldLink RX9 44 "LineCites" "images" "[LLineCites$Image;") (List.mem_of_getElem? (i := 47) rfl)) (fun _ h9 => h9) rfl hin rfl (by decide +kernel) rfl rfl (Nat.le_of_ble_eq_true rfl) dX9_init_72 (fun H locs hP hD hS => ?_)
  have hP : va_P D vwCl [(h0, .inr (9, [.ref q1, .ref q5, .ref q13, .ref q21, .ref q23, .ref q26, .null, .null, .null, .null, .null, .null, .null, .null])), (q1, .inr (7, [.ref y3, .int 0, .int 0])), (y3, .inl (y4, 200, .inl (fun _ => 0))), (q5, .inr (8, [.ref y7, .ref y8, .ref y9, .ref y10, .ref y11, .int 0, .int 0, .int 0])), (y9, .inl (y12, 32, .inl (fun _ => 0))), (q13, .inr (8, [.ref y15, .ref y16, .ref y17, .ref y18, .ref y19, .int 0, .int 0, .int 0])), (y17, .inl (y20, 32, .inl (fun _ => 0))), (q21, .inr (4, [.ref q1, .ref q13, .int 0, .int 0, .int 0, .int 0, .int 0])), (q23, .inr (0, [.ref y25, .int 0, .int 0])), (q26, .inl (k27, 2, .inr (.inr (.inr (.inr (fun _ => none))))))] H := hP
  have hD : va_D A [(h0, .inr (9, [.ref q1, .ref q5, .ref q13, .ref q21, .ref q23, .ref q26, .null, .null, .null, .null, .null, .null, .null, .null])), (q1, .inr (7, [.ref y3, .int 0, .int 0])), (y3, .inl (y4, 200, .inl (fun _ => 0))), (q5, .inr (8, [.ref y7, .ref y8, .ref y9, .ref y10, .ref y11, .int 0, .int 0, .int 0])), (y9, .inl (y12, 32, .inl (fun _ => 0))), (q13, .inr (8, [.ref y15, .ref y16, .ref y17, .ref y18, .ref y19, .int 0, .int 0, .int 0])), (y17, .inl (y20, 32, .inl (fun _ => 0))), (q21, .inr (4, [.ref q1, .ref q13, .int 0, .int 0, .int 0, .int 0, .int 0])), (q23, .inr (0, [.ref y25, .int 0, .int 0])), (q26, .inl (k27, 2, .inr (.inr (.inr (.inr (fun _ => none))))))] := hD
  have hK : va_K D vwCl [(y4, .byte), (y12, .int), (y20, .int), (k27, .object RX1)] s := hK
  refine lv_aload_n hx hb dX9_init_75 rfl (lv_at hl 0 rfl) ?_
  refine va_new (ci := 3) (fs := [.null, .null, .int 0]) (C := RX3) (T := TX3) (N := 3) hx hb hts (fun _ h => List.mem_cons_of_mem _ (List.mem_append_left _ (List.mem_append_left _ (List.mem_append_left _ (List.mem_append_right _ h))))) tyX3 tyX3_ok hown (hts (.classLink RX9 48 RX3) (List.mem_of_getElem? (i := 48) rfl)) (hts (.instantiable RX3 3) (List.mem_of_getElem? (i := 49) rfl)) (hts (.initialized RX3) (List.mem_of_getElem? (i := 50) rfl)) hK hP hD hS hA rfl (fun j hj => by rcases (show j = 0 ∨ j = 1 ∨ j = 2 by omega) with rfl | rfl | rfl <;> rfl) (Nat.le_of_ble_eq_true rfl) (Nat.le_of_ble_eq_true rfl) dX9_init_76 (fun q28 H hP hD hS => ?_)
  have hP : va_P D vwCl [(h0, .inr (9, [.ref q1, .ref q5, .ref q13, .ref q21, .ref q23, .ref q26, .null, .null, .null, .null, .null, .null, .null, .null])), (q1, .inr (7, [.ref y3, .int 0, .int 0])), (y3, .inl (y4, 200, .inl (fun _ => 0))), (q5, .inr (8, [.ref y7, .ref y8, .ref y9, .ref y10, .ref y11, .int 0, .int 0, .int 0])), (y9, .inl (y12, 32, .inl (fun _ => 0))), (q13, .inr (8, [.ref y15, .ref y16, .ref y17, .ref y18, .ref y19, .int 0, .int 0, .int 0])), (y17, .inl (y20, 32, .inl (fun _ => 0))), (q21, .inr (4, [.ref q1, .ref q13, .int 0, .int 0, .int 0, .int 0, .int 0])), (q23, .inr (0, [.ref y25, .int 0, .int 0])), (q26, .inl (k27, 2, .inr (.inr (.inr (.inr (fun _ => none)))))), (q28, .inr (3, [.null, .null, .int 0]))] H := hP
  have hD : va_D A [(h0, .inr (9, [.ref q1, .ref q5, .ref q13, .ref q21, .ref q23, .ref q26, .null, .null, .null, .null, .null, .null, .null, .null])), (q1, .inr (7, [.ref y3, .int 0, .int 0])), (y3, .inl (y4, 200, .inl (fun _ => 0))), (q5, .inr (8, [.ref y7, .ref y8, .ref y9, .ref y10, .ref y11, .int 0, .int 0, .int 0])), (y9, .inl (y12, 32, .inl (fun _ => 0))), (q13, .inr (8, [.ref y15, .ref y16, .ref y17, .ref y18, .ref y19, .int 0, .int 0, .int 0])), (y17, .inl (y20, 32, .inl (fun _ => 0))), (q21, .inr (4, [.ref q1, .ref q13, .int 0, .int 0, .int 0, .int 0, .int 0])), (q23, .inr (0, [.ref y25, .int 0, .int 0])), (q26, .inl (k27, 2, .inr (.inr (.inr (.inr (fun _ => none)))))), (q28, .inr (3, [.null, .null, .int 0]))] := hD
  have hK : va_K D vwCl [(y4, .byte), (y12, .int), (y20, .int), (k27, .object RX1)] s := hK
  refine W.widen (k := 19) (n := 606) (Nat.le_of_ble_eq_true rfl) (Nat.le_of_ble_eq_true rfl) ?_
  refine lv_dup hx hb dX9_init_79 rfl ?_
  have hPc := hP.sub (ws' := [(q28, .inr (3, [.null, .null, .int 0]))]) [10] rfl
  have hKc := hK.sub (tys' := []) [] rfl
  have hDc := hD.sub (ws' := [(q28, .inr (3, [.null, .null, .int 0]))]) [10] (by decide) rfl
  have hFc := va_free (wc := [(q28, .inr (3, [.null, .null, .int 0]))]) hD hS hA [10] rfl
  refine va_callv (va_runIN (As := []) (rest := [.ref q28, .ref h0]) ⟨hx, hb, hml, hown, hts⟩ (c_X3_init l D q28 H.size) ⟨va_cnB 0 hts g_X9_init_X3_init rfl rfl rfl hN9_50 (hts (.initialized RX3) (List.mem_of_getElem? (i := 50) rfl)) (by decide +kernel) ⟨Nat.le_of_ble_eq_true rfl, Nat.le_of_ble_eq_true rfl⟩, rfl, (hts (.instanceMethod yX3_init) (List.mem_of_getElem? (i := 51) rfl))⟩ ⟨fun a U g mk q => by obtain ⟨q0, q1, qP, qK, qD⟩ := q; exact ⟨q0, q1, qP, va_K.moved (u := U) (U := U.calling g mk a) (Vm.Alike.refl U.vm) qK, qD⟩, fun U hU hW => ⟨rfl, by rw [hU], by rw [hU]; exact hPc, va_K.moved hW.alike hKc, hDc.weaken (fun _ _ _ _ => trivial)⟩⟩ rfl rfl hl.1 rfl (lv_room (Nat.le_of_ble_eq_true rfl)) dX9_init_80 ⟨Nat.le_of_ble_eq_true rfl, Nat.le_of_ble_eq_true rfl⟩) hS (fun q _ h => hFc q h) hFc (fun u t H1 locs ht hvm hw hB hz1 hk1 hS => ?_)
  obtain ⟨hP1, hK1, hD1⟩ := hB
  rw [ht] at hP1
  have hK1 := va_K.moved hvm.symm hK1
  obtain ⟨hP, hD⟩ := va_join (wr := [(h0, .inr (9, [.ref q1, .ref q5, .ref q13, .ref q21, .ref q23, .ref q26, .null, .null, .null, .null, .null, .null, .null, .null])), (q1, .inr (7, [.ref y3, .int 0, .int 0])), (y3, .inl (y4, 200, .inl (fun _ => 0))), (q5, .inr (8, [.ref y7, .ref y8, .ref y9, .ref y10, .ref y11, .int 0, .int 0, .int 0])), (y9, .inl (y12, 32, .inl (fun _ => 0))), (q13, .inr (8, [.ref y15, .ref y16, .ref y17, .ref y18, .ref y19, .int 0, .int 0, .int 0])), (y17, .inl (y20, 32, .inl (fun _ => 0))), (q21, .inr (4, [.ref q1, .ref q13, .int 0, .int 0, .int 0, .int 0, .int 0])), (q23, .inr (0, [.ref y25, .int 0, .int 0])), (q26, .inl (k27, 2, .inr (.inr (.inr (.inr (fun _ => none))))))]) (w1 := []) hP hD [10] [0, 1, 2, 3, 4, 5, 6, 7, 8, 9] rfl rfl (by decide) (by decide) hk1 hFc hP1 hD1
  have hK := (hK.sub (tys' := [(y4, .byte), (y12, .int), (y20, .int), (k27, .object RX1)]) [0, 1, 2, 3] rfl).app hK1
  generalize H1 = H at hP hS ⊢
  have hP : va_P D vwCl [(h0, .inr (9, [.ref q1, .ref q5, .ref q13, .ref q21, .ref q23, .ref q26, .null, .null, .null, .null, .null, .null, .null, .null])), (q1, .inr (7, [.ref y3, .int 0, .int 0])), (y3, .inl (y4, 200, .inl (fun _ => 0))), (q5, .inr (8, [.ref y7, .ref y8, .ref y9, .ref y10, .ref y11, .int 0, .int 0, .int 0])), (y9, .inl (y12, 32, .inl (fun _ => 0))), (q13, .inr (8, [.ref y15, .ref y16, .ref y17, .ref y18, .ref y19, .int 0, .int 0, .int 0])), (y17, .inl (y20, 32, .inl (fun _ => 0))), (q21, .inr (4, [.ref q1, .ref q13, .int 0, .int 0, .int 0, .int 0, .int 0])), (q23, .inr (0, [.ref y25, .int 0, .int 0])), (q26, .inl (k27, 2, .inr (.inr (.inr (.inr (fun _ => none))))))] H := hP
  have hD : va_D A [(h0, .inr (9, [.ref q1, .ref q5, .ref q13, .ref q21, .ref q23, .ref q26, .null, .null, .null, .null, .null, .null, .null, .null])), (q1, .inr (7, [.ref y3, .int 0, .int 0])), (y3, .inl (y4, 200, .inl (fun _ => 0))), (q5, .inr (8, [.ref y7, .ref y8, .ref y9, .ref y10, .ref y11, .int 0, .int 0, .int 0])), (y9, .inl (y12, 32, .inl (fun _ => 0))), (q13, .inr (8, [.ref y15, .ref y16, .ref y17, .ref y18, .ref y19, .int 0, .int 0, .int 0])), (y17, .inl (y20, 32, .inl (fun _ => 0))), (q21, .inr (4, [.ref q1, .ref q13, .int 0, .int 0, .int 0, .int 0, .int 0])), (q23, .inr (0, [.ref y25, .int 0, .int 0])), (q26, .inl (k27, 2, .inr (.inr (.inr (.inr (fun _ => none))))))] := hD
  have hK : va_K D vwCl [(y4, .byte), (y12, .int), (y20, .int), (k27, .object RX1)] s := hK
  refine W.widen (k := 21) (n := 1006) (Nat.le_of_ble_eq_true rfl) (Nat.le_of_ble_eq_true rfl) ?_
  refine va_putF (D := D) (ci := 9) (v := .ref q28) (ty := .object "LineCites$Numbering") (C := RX9) (T := TX9) (N := 14) hx hb hts (fun _ h => List.mem_cons_of_mem _ (List.mem_append_left _ (List.mem_append_left _ (List.mem_append_left _ (List.mem_append_left _ (List.mem_append_left _ (List.mem_append_left _ (List.mem_append_left _ (List.mem_append_right _ h))))))))) tyX9 tyX9_ok nmX9 hown hK hP hD hS 0 rfl rfl 6 (by decide) (hts (.fieldLink RX9 51 "LineCites" "one" "LLineCites$Numbering;") (List.mem_of_getElem? (i := 56) rfl)) (fun _ h9 => h9) rfl hin rfl (by decide +kernel) rfl rfl (Nat.le_of_ble_eq_true rfl) dX9_init_83 (fun H locs hP hD hS => ?_)
  have hP : va_P D vwCl [(h0, .inr (9, [.ref q1, .ref q5, .ref q13, .ref q21, .ref q23, .ref q26, .ref q28, .null, .null, .null, .null, .null, .null, .null])), (q1, .inr (7, [.ref y3, .int 0, .int 0])), (y3, .inl (y4, 200, .inl (fun _ => 0))), (q5, .inr (8, [.ref y7, .ref y8, .ref y9, .ref y10, .ref y11, .int 0, .int 0, .int 0])), (y9, .inl (y12, 32, .inl (fun _ => 0))), (q13, .inr (8, [.ref y15, .ref y16, .ref y17, .ref y18, .ref y19, .int 0, .int 0, .int 0])), (y17, .inl (y20, 32, .inl (fun _ => 0))), (q21, .inr (4, [.ref q1, .ref q13, .int 0, .int 0, .int 0, .int 0, .int 0])), (q23, .inr (0, [.ref y25, .int 0, .int 0])), (q26, .inl (k27, 2, .inr (.inr (.inr (.inr (fun _ => none))))))] H := hP
  have hD : va_D A [(h0, .inr (9, [.ref q1, .ref q5, .ref q13, .ref q21, .ref q23, .ref q26, .ref q28, .null, .null, .null, .null, .null, .null, .null])), (q1, .inr (7, [.ref y3, .int 0, .int 0])), (y3, .inl (y4, 200, .inl (fun _ => 0))), (q5, .inr (8, [.ref y7, .ref y8, .ref y9, .ref y10, .ref y11, .int 0, .int 0, .int 0])), (y9, .inl (y12, 32, .inl (fun _ => 0))), (q13, .inr (8, [.ref y15, .ref y16, .ref y17, .ref y18, .ref y19, .int 0, .int 0, .int 0])), (y17, .inl (y20, 32, .inl (fun _ => 0))), (q21, .inr (4, [.ref q1, .ref q13, .int 0, .int 0, .int 0, .int 0, .int 0])), (q23, .inr (0, [.ref y25, .int 0, .int 0])), (q26, .inl (k27, 2, .inr (.inr (.inr (.inr (fun _ => none))))))] := hD
  have hK : va_K D vwCl [(y4, .byte), (y12, .int), (y20, .int), (k27, .object RX1)] s := hK
  refine lv_aload_n hx hb dX9_init_86 rfl (lv_at hl 0 rfl) ?_
  refine va_new (ci := 3) (fs := [.null, .null, .int 0]) (C := RX3) (T := TX3) (N := 3) hx hb hts (fun _ h => List.mem_cons_of_mem _ (List.mem_append_left _ (List.mem_append_left _ (List.mem_append_left _ (List.mem_append_right _ h))))) tyX3 tyX3_ok hown (hts (.classLink RX9 48 RX3) (List.mem_of_getElem? (i := 48) rfl)) (hts (.instantiable RX3 3) (List.mem_of_getElem? (i := 49) rfl)) (hts (.initialized RX3) (List.mem_of_getElem? (i := 50) rfl)) hK hP hD hS hA rfl (fun j hj => by rcases (show j = 0 ∨ j = 1 ∨ j = 2 by omega) with rfl | rfl | rfl <;> rfl) (Nat.le_of_ble_eq_true rfl) (Nat.le_of_ble_eq_true rfl) dX9_init_87 (fun q30 H hP hD hS => ?_)
  have hP : va_P D vwCl [(h0, .inr (9, [.ref q1, .ref q5, .ref q13, .ref q21, .ref q23, .ref q26, .ref q28, .null, .null, .null, .null, .null, .null, .null])), (q1, .inr (7, [.ref y3, .int 0, .int 0])), (y3, .inl (y4, 200, .inl (fun _ => 0))), (q5, .inr (8, [.ref y7, .ref y8, .ref y9, .ref y10, .ref y11, .int 0, .int 0, .int 0])), (y9, .inl (y12, 32, .inl (fun _ => 0))), (q13, .inr (8, [.ref y15, .ref y16, .ref y17, .ref y18, .ref y19, .int 0, .int 0, .int 0])), (y17, .inl (y20, 32, .inl (fun _ => 0))), (q21, .inr (4, [.ref q1, .ref q13, .int 0, .int 0, .int 0, .int 0, .int 0])), (q23, .inr (0, [.ref y25, .int 0, .int 0])), (q26, .inl (k27, 2, .inr (.inr (.inr (.inr (fun _ => none)))))), (q30, .inr (3, [.null, .null, .int 0]))] H := hP
  have hD : va_D A [(h0, .inr (9, [.ref q1, .ref q5, .ref q13, .ref q21, .ref q23, .ref q26, .ref q28, .null, .null, .null, .null, .null, .null, .null])), (q1, .inr (7, [.ref y3, .int 0, .int 0])), (y3, .inl (y4, 200, .inl (fun _ => 0))), (q5, .inr (8, [.ref y7, .ref y8, .ref y9, .ref y10, .ref y11, .int 0, .int 0, .int 0])), (y9, .inl (y12, 32, .inl (fun _ => 0))), (q13, .inr (8, [.ref y15, .ref y16, .ref y17, .ref y18, .ref y19, .int 0, .int 0, .int 0])), (y17, .inl (y20, 32, .inl (fun _ => 0))), (q21, .inr (4, [.ref q1, .ref q13, .int 0, .int 0, .int 0, .int 0, .int 0])), (q23, .inr (0, [.ref y25, .int 0, .int 0])), (q26, .inl (k27, 2, .inr (.inr (.inr (.inr (fun _ => none)))))), (q30, .inr (3, [.null, .null, .int 0]))] := hD
  have hK : va_K D vwCl [(y4, .byte), (y12, .int), (y20, .int), (k27, .object RX1)] s := hK
  refine W.widen (k := 22) (n := 1009) (Nat.le_of_ble_eq_true rfl) (Nat.le_of_ble_eq_true rfl) ?_
  refine lv_dup hx hb dX9_init_90 rfl ?_
  have hPc := hP.sub (ws' := [(q30, .inr (3, [.null, .null, .int 0]))]) [10] rfl
  have hKc := hK.sub (tys' := []) [] rfl
  have hDc := hD.sub (ws' := [(q30, .inr (3, [.null, .null, .int 0]))]) [10] (by decide) rfl
  have hFc := va_free (wc := [(q30, .inr (3, [.null, .null, .int 0]))]) hD hS hA [10] rfl
  refine va_callv (va_runIN (As := []) (rest := [.ref q30, .ref h0]) ⟨hx, hb, hml, hown, hts⟩ (c_X3_init l D q30 H.size) ⟨va_cnB 0 hts g_X9_init_X3_init rfl rfl rfl hN9_50 (hts (.initialized RX3) (List.mem_of_getElem? (i := 50) rfl)) (by decide +kernel) ⟨Nat.le_of_ble_eq_true rfl, Nat.le_of_ble_eq_true rfl⟩, rfl, (hts (.instanceMethod yX3_init) (List.mem_of_getElem? (i := 51) rfl))⟩ ⟨fun a U g mk q => by obtain ⟨q0, q1, qP, qK, qD⟩ := q; exact ⟨q0, q1, qP, va_K.moved (u := U) (U := U.calling g mk a) (Vm.Alike.refl U.vm) qK, qD⟩, fun U hU hW => ⟨rfl, by rw [hU], by rw [hU]; exact hPc, va_K.moved hW.alike hKc, hDc.weaken (fun _ _ _ _ => trivial)⟩⟩ rfl rfl hl.1 rfl (lv_room (Nat.le_of_ble_eq_true rfl)) dX9_init_91 ⟨Nat.le_of_ble_eq_true rfl, Nat.le_of_ble_eq_true rfl⟩) hS (fun q _ h => hFc q h) hFc (fun u t H1 locs ht hvm hw hB hz1 hk1 hS => ?_)
  obtain ⟨hP1, hK1, hD1⟩ := hB
  rw [ht] at hP1
  have hK1 := va_K.moved hvm.symm hK1
  obtain ⟨hP, hD⟩ := va_join (wr := [(h0, .inr (9, [.ref q1, .ref q5, .ref q13, .ref q21, .ref q23, .ref q26, .ref q28, .null, .null, .null, .null, .null, .null, .null])), (q1, .inr (7, [.ref y3, .int 0, .int 0])), (y3, .inl (y4, 200, .inl (fun _ => 0))), (q5, .inr (8, [.ref y7, .ref y8, .ref y9, .ref y10, .ref y11, .int 0, .int 0, .int 0])), (y9, .inl (y12, 32, .inl (fun _ => 0))), (q13, .inr (8, [.ref y15, .ref y16, .ref y17, .ref y18, .ref y19, .int 0, .int 0, .int 0])), (y17, .inl (y20, 32, .inl (fun _ => 0))), (q21, .inr (4, [.ref q1, .ref q13, .int 0, .int 0, .int 0, .int 0, .int 0])), (q23, .inr (0, [.ref y25, .int 0, .int 0])), (q26, .inl (k27, 2, .inr (.inr (.inr (.inr (fun _ => none))))))]) (w1 := []) hP hD [10] [0, 1, 2, 3, 4, 5, 6, 7, 8, 9] rfl rfl (by decide) (by decide) hk1 hFc hP1 hD1
  have hK := (hK.sub (tys' := [(y4, .byte), (y12, .int), (y20, .int), (k27, .object RX1)]) [0, 1, 2, 3] rfl).app hK1
  generalize H1 = H at hP hS ⊢
  have hP : va_P D vwCl [(h0, .inr (9, [.ref q1, .ref q5, .ref q13, .ref q21, .ref q23, .ref q26, .ref q28, .null, .null, .null, .null, .null, .null, .null])), (q1, .inr (7, [.ref y3, .int 0, .int 0])), (y3, .inl (y4, 200, .inl (fun _ => 0))), (q5, .inr (8, [.ref y7, .ref y8, .ref y9, .ref y10, .ref y11, .int 0, .int 0, .int 0])), (y9, .inl (y12, 32, .inl (fun _ => 0))), (q13, .inr (8, [.ref y15, .ref y16, .ref y17, .ref y18, .ref y19, .int 0, .int 0, .int 0])), (y17, .inl (y20, 32, .inl (fun _ => 0))), (q21, .inr (4, [.ref q1, .ref q13, .int 0, .int 0, .int 0, .int 0, .int 0])), (q23, .inr (0, [.ref y25, .int 0, .int 0])), (q26, .inl (k27, 2, .inr (.inr (.inr (.inr (fun _ => none))))))] H := hP
  have hD : va_D A [(h0, .inr (9, [.ref q1, .ref q5, .ref q13, .ref q21, .ref q23, .ref q26, .ref q28, .null, .null, .null, .null, .null, .null, .null])), (q1, .inr (7, [.ref y3, .int 0, .int 0])), (y3, .inl (y4, 200, .inl (fun _ => 0))), (q5, .inr (8, [.ref y7, .ref y8, .ref y9, .ref y10, .ref y11, .int 0, .int 0, .int 0])), (y9, .inl (y12, 32, .inl (fun _ => 0))), (q13, .inr (8, [.ref y15, .ref y16, .ref y17, .ref y18, .ref y19, .int 0, .int 0, .int 0])), (y17, .inl (y20, 32, .inl (fun _ => 0))), (q21, .inr (4, [.ref q1, .ref q13, .int 0, .int 0, .int 0, .int 0, .int 0])), (q23, .inr (0, [.ref y25, .int 0, .int 0])), (q26, .inl (k27, 2, .inr (.inr (.inr (.inr (fun _ => none))))))] := hD
  have hK : va_K D vwCl [(y4, .byte), (y12, .int), (y20, .int), (k27, .object RX1)] s := hK
  refine W.widen (k := 24) (n := 1409) (Nat.le_of_ble_eq_true rfl) (Nat.le_of_ble_eq_true rfl) ?_
  refine va_putF (D := D) (ci := 9) (v := .ref q30) (ty := .object "LineCites$Numbering") (C := RX9) (T := TX9) (N := 14) hx hb hts (fun _ h => List.mem_cons_of_mem _ (List.mem_append_left _ (List.mem_append_left _ (List.mem_append_left _ (List.mem_append_left _ (List.mem_append_left _ (List.mem_append_left _ (List.mem_append_left _ (List.mem_append_right _ h))))))))) tyX9 tyX9_ok nmX9 hown hK hP hD hS 0 rfl rfl 7 (by decide) (hts (.fieldLink RX9 55 "LineCites" "other" "LLineCites$Numbering;") (List.mem_of_getElem? (i := 57) rfl)) (fun _ h9 => h9) rfl hin rfl (by decide +kernel) rfl rfl (Nat.le_of_ble_eq_true rfl) dX9_init_94 (fun H locs hP hD hS => ?_)
  have hP : va_P D vwCl [(h0, .inr (9, [.ref q1, .ref q5, .ref q13, .ref q21, .ref q23, .ref q26, .ref q28, .ref q30, .null, .null, .null, .null, .null, .null])), (q1, .inr (7, [.ref y3, .int 0, .int 0])), (y3, .inl (y4, 200, .inl (fun _ => 0))), (q5, .inr (8, [.ref y7, .ref y8, .ref y9, .ref y10, .ref y11, .int 0, .int 0, .int 0])), (y9, .inl (y12, 32, .inl (fun _ => 0))), (q13, .inr (8, [.ref y15, .ref y16, .ref y17, .ref y18, .ref y19, .int 0, .int 0, .int 0])), (y17, .inl (y20, 32, .inl (fun _ => 0))), (q21, .inr (4, [.ref q1, .ref q13, .int 0, .int 0, .int 0, .int 0, .int 0])), (q23, .inr (0, [.ref y25, .int 0, .int 0])), (q26, .inl (k27, 2, .inr (.inr (.inr (.inr (fun _ => none))))))] H := hP
  have hD : va_D A [(h0, .inr (9, [.ref q1, .ref q5, .ref q13, .ref q21, .ref q23, .ref q26, .ref q28, .ref q30, .null, .null, .null, .null, .null, .null])), (q1, .inr (7, [.ref y3, .int 0, .int 0])), (y3, .inl (y4, 200, .inl (fun _ => 0))), (q5, .inr (8, [.ref y7, .ref y8, .ref y9, .ref y10, .ref y11, .int 0, .int 0, .int 0])), (y9, .inl (y12, 32, .inl (fun _ => 0))), (q13, .inr (8, [.ref y15, .ref y16, .ref y17, .ref y18, .ref y19, .int 0, .int 0, .int 0])), (y17, .inl (y20, 32, .inl (fun _ => 0))), (q21, .inr (4, [.ref q1, .ref q13, .int 0, .int 0, .int 0, .int 0, .int 0])), (q23, .inr (0, [.ref y25, .int 0, .int 0])), (q26, .inl (k27, 2, .inr (.inr (.inr (.inr (fun _ => none))))))] := hD
  have hK : va_K D vwCl [(y4, .byte), (y12, .int), (y20, .int), (k27, .object RX1)] s := hK
  refine lv_aload_n hx hb dX9_init_97 rfl (lv_at hl 0 rfl) ?_
  refine va_new (ci := 3) (fs := [.null, .null, .int 0]) (C := RX3) (T := TX3) (N := 3) hx hb hts (fun _ h => List.mem_cons_of_mem _ (List.mem_append_left _ (List.mem_append_left _ (List.mem_append_left _ (List.mem_append_right _ h))))) tyX3 tyX3_ok hown (hts (.classLink RX9 48 RX3) (List.mem_of_getElem? (i := 48) rfl)) (hts (.instantiable RX3 3) (List.mem_of_getElem? (i := 49) rfl)) (hts (.initialized RX3) (List.mem_of_getElem? (i := 50) rfl)) hK hP hD hS hA rfl (fun j hj => by rcases (show j = 0 ∨ j = 1 ∨ j = 2 by omega) with rfl | rfl | rfl <;> rfl) (Nat.le_of_ble_eq_true rfl) (Nat.le_of_ble_eq_true rfl) dX9_init_98 (fun q32 H hP hD hS => ?_)
  have hP : va_P D vwCl [(h0, .inr (9, [.ref q1, .ref q5, .ref q13, .ref q21, .ref q23, .ref q26, .ref q28, .ref q30, .null, .null, .null, .null, .null, .null])), (q1, .inr (7, [.ref y3, .int 0, .int 0])), (y3, .inl (y4, 200, .inl (fun _ => 0))), (q5, .inr (8, [.ref y7, .ref y8, .ref y9, .ref y10, .ref y11, .int 0, .int 0, .int 0])), (y9, .inl (y12, 32, .inl (fun _ => 0))), (q13, .inr (8, [.ref y15, .ref y16, .ref y17, .ref y18, .ref y19, .int 0, .int 0, .int 0])), (y17, .inl (y20, 32, .inl (fun _ => 0))), (q21, .inr (4, [.ref q1, .ref q13, .int 0, .int 0, .int 0, .int 0, .int 0])), (q23, .inr (0, [.ref y25, .int 0, .int 0])), (q26, .inl (k27, 2, .inr (.inr (.inr (.inr (fun _ => none)))))), (q32, .inr (3, [.null, .null, .int 0]))] H := hP
  have hD : va_D A [(h0, .inr (9, [.ref q1, .ref q5, .ref q13, .ref q21, .ref q23, .ref q26, .ref q28, .ref q30, .null, .null, .null, .null, .null, .null])), (q1, .inr (7, [.ref y3, .int 0, .int 0])), (y3, .inl (y4, 200, .inl (fun _ => 0))), (q5, .inr (8, [.ref y7, .ref y8, .ref y9, .ref y10, .ref y11, .int 0, .int 0, .int 0])), (y9, .inl (y12, 32, .inl (fun _ => 0))), (q13, .inr (8, [.ref y15, .ref y16, .ref y17, .ref y18, .ref y19, .int 0, .int 0, .int 0])), (y17, .inl (y20, 32, .inl (fun _ => 0))), (q21, .inr (4, [.ref q1, .ref q13, .int 0, .int 0, .int 0, .int 0, .int 0])), (q23, .inr (0, [.ref y25, .int 0, .int 0])), (q26, .inl (k27, 2, .inr (.inr (.inr (.inr (fun _ => none)))))), (q32, .inr (3, [.null, .null, .int 0]))] := hD
  have hK : va_K D vwCl [(y4, .byte), (y12, .int), (y20, .int), (k27, .object RX1)] s := hK
  refine W.widen (k := 25) (n := 1412) (Nat.le_of_ble_eq_true rfl) (Nat.le_of_ble_eq_true rfl) ?_
  refine lv_dup hx hb dX9_init_101 rfl ?_
  have hPc := hP.sub (ws' := [(q32, .inr (3, [.null, .null, .int 0]))]) [10] rfl
  have hKc := hK.sub (tys' := []) [] rfl
  have hDc := hD.sub (ws' := [(q32, .inr (3, [.null, .null, .int 0]))]) [10] (by decide) rfl
  have hFc := va_free (wc := [(q32, .inr (3, [.null, .null, .int 0]))]) hD hS hA [10] rfl
  refine va_callv (va_runIN (As := []) (rest := [.ref q32, .ref h0]) ⟨hx, hb, hml, hown, hts⟩ (c_X3_init l D q32 H.size) ⟨va_cnB 0 hts g_X9_init_X3_init rfl rfl rfl hN9_50 (hts (.initialized RX3) (List.mem_of_getElem? (i := 50) rfl)) (by decide +kernel) ⟨Nat.le_of_ble_eq_true rfl, Nat.le_of_ble_eq_true rfl⟩, rfl, (hts (.instanceMethod yX3_init) (List.mem_of_getElem? (i := 51) rfl))⟩ ⟨fun a U g mk q => by obtain ⟨q0, q1, qP, qK, qD⟩ := q; exact ⟨q0, q1, qP, va_K.moved (u := U) (U := U.calling g mk a) (Vm.Alike.refl U.vm) qK, qD⟩, fun U hU hW => ⟨rfl, by rw [hU], by rw [hU]; exact hPc, va_K.moved hW.alike hKc, hDc.weaken (fun _ _ _ _ => trivial)⟩⟩ rfl rfl hl.1 rfl (lv_room (Nat.le_of_ble_eq_true rfl)) dX9_init_102 ⟨Nat.le_of_ble_eq_true rfl, Nat.le_of_ble_eq_true rfl⟩) hS (fun q _ h => hFc q h) hFc (fun u t H1 locs ht hvm hw hB hz1 hk1 hS => ?_)
  obtain ⟨hP1, hK1, hD1⟩ := hB
  rw [ht] at hP1
  have hK1 := va_K.moved hvm.symm hK1
  obtain ⟨hP, hD⟩ := va_join (wr := [(h0, .inr (9, [.ref q1, .ref q5, .ref q13, .ref q21, .ref q23, .ref q26, .ref q28, .ref q30, .null, .null, .null, .null, .null, .null])), (q1, .inr (7, [.ref y3, .int 0, .int 0])), (y3, .inl (y4, 200, .inl (fun _ => 0))), (q5, .inr (8, [.ref y7, .ref y8, .ref y9, .ref y10, .ref y11, .int 0, .int 0, .int 0])), (y9, .inl (y12, 32, .inl (fun _ => 0))), (q13, .inr (8, [.ref y15, .ref y16, .ref y17, .ref y18, .ref y19, .int 0, .int 0, .int 0])), (y17, .inl (y20, 32, .inl (fun _ => 0))), (q21, .inr (4, [.ref q1, .ref q13, .int 0, .int 0, .int 0, .int 0, .int 0])), (q23, .inr (0, [.ref y25, .int 0, .int 0])), (q26, .inl (k27, 2, .inr (.inr (.inr (.inr (fun _ => none))))))]) (w1 := []) hP hD [10] [0, 1, 2, 3, 4, 5, 6, 7, 8, 9] rfl rfl (by decide) (by decide) hk1 hFc hP1 hD1
  have hK := (hK.sub (tys' := [(y4, .byte), (y12, .int), (y20, .int), (k27, .object RX1)]) [0, 1, 2, 3] rfl).app hK1
  generalize H1 = H at hP hS ⊢
  have hP : va_P D vwCl [(h0, .inr (9, [.ref q1, .ref q5, .ref q13, .ref q21, .ref q23, .ref q26, .ref q28, .ref q30, .null, .null, .null, .null, .null, .null])), (q1, .inr (7, [.ref y3, .int 0, .int 0])), (y3, .inl (y4, 200, .inl (fun _ => 0))), (q5, .inr (8, [.ref y7, .ref y8, .ref y9, .ref y10, .ref y11, .int 0, .int 0, .int 0])), (y9, .inl (y12, 32, .inl (fun _ => 0))), (q13, .inr (8, [.ref y15, .ref y16, .ref y17, .ref y18, .ref y19, .int 0, .int 0, .int 0])), (y17, .inl (y20, 32, .inl (fun _ => 0))), (q21, .inr (4, [.ref q1, .ref q13, .int 0, .int 0, .int 0, .int 0, .int 0])), (q23, .inr (0, [.ref y25, .int 0, .int 0])), (q26, .inl (k27, 2, .inr (.inr (.inr (.inr (fun _ => none))))))] H := hP
  have hD : va_D A [(h0, .inr (9, [.ref q1, .ref q5, .ref q13, .ref q21, .ref q23, .ref q26, .ref q28, .ref q30, .null, .null, .null, .null, .null, .null])), (q1, .inr (7, [.ref y3, .int 0, .int 0])), (y3, .inl (y4, 200, .inl (fun _ => 0))), (q5, .inr (8, [.ref y7, .ref y8, .ref y9, .ref y10, .ref y11, .int 0, .int 0, .int 0])), (y9, .inl (y12, 32, .inl (fun _ => 0))), (q13, .inr (8, [.ref y15, .ref y16, .ref y17, .ref y18, .ref y19, .int 0, .int 0, .int 0])), (y17, .inl (y20, 32, .inl (fun _ => 0))), (q21, .inr (4, [.ref q1, .ref q13, .int 0, .int 0, .int 0, .int 0, .int 0])), (q23, .inr (0, [.ref y25, .int 0, .int 0])), (q26, .inl (k27, 2, .inr (.inr (.inr (.inr (fun _ => none))))))] := hD
  have hK : va_K D vwCl [(y4, .byte), (y12, .int), (y20, .int), (k27, .object RX1)] s := hK
  refine W.widen (k := 27) (n := 1812) (Nat.le_of_ble_eq_true rfl) (Nat.le_of_ble_eq_true rfl) ?_
  refine va_putF (D := D) (ci := 9) (v := .ref q32) (ty := .object "LineCites$Numbering") (C := RX9) (T := TX9) (N := 14) hx hb hts (fun _ h => List.mem_cons_of_mem _ (List.mem_append_left _ (List.mem_append_left _ (List.mem_append_left _ (List.mem_append_left _ (List.mem_append_left _ (List.mem_append_left _ (List.mem_append_left _ (List.mem_append_right _ h))))))))) tyX9 tyX9_ok nmX9 hown hK hP hD hS 0 rfl rfl 8 (by decide) (hts (.fieldLink RX9 58 "LineCites" "third" "LLineCites$Numbering;") (List.mem_of_getElem? (i := 58) rfl)) (fun _ h9 => h9) rfl hin rfl (by decide +kernel) rfl rfl (Nat.le_of_ble_eq_true rfl) dX9_init_105 (fun H locs hP hD hS => ?_)
  have hP : va_P D vwCl [(h0, .inr (9, [.ref q1, .ref q5, .ref q13, .ref q21, .ref q23, .ref q26, .ref q28, .ref q30, .ref q32, .null, .null, .null, .null, .null])), (q1, .inr (7, [.ref y3, .int 0, .int 0])), (y3, .inl (y4, 200, .inl (fun _ => 0))), (q5, .inr (8, [.ref y7, .ref y8, .ref y9, .ref y10, .ref y11, .int 0, .int 0, .int 0])), (y9, .inl (y12, 32, .inl (fun _ => 0))), (q13, .inr (8, [.ref y15, .ref y16, .ref y17, .ref y18, .ref y19, .int 0, .int 0, .int 0])), (y17, .inl (y20, 32, .inl (fun _ => 0))), (q21, .inr (4, [.ref q1, .ref q13, .int 0, .int 0, .int 0, .int 0, .int 0])), (q23, .inr (0, [.ref y25, .int 0, .int 0])), (q26, .inl (k27, 2, .inr (.inr (.inr (.inr (fun _ => none))))))] H := hP
  have hD : va_D A [(h0, .inr (9, [.ref q1, .ref q5, .ref q13, .ref q21, .ref q23, .ref q26, .ref q28, .ref q30, .ref q32, .null, .null, .null, .null, .null])), (q1, .inr (7, [.ref y3, .int 0, .int 0])), (y3, .inl (y4, 200, .inl (fun _ => 0))), (q5, .inr (8, [.ref y7, .ref y8, .ref y9, .ref y10, .ref y11, .int 0, .int 0, .int 0])), (y9, .inl (y12, 32, .inl (fun _ => 0))), (q13, .inr (8, [.ref y15, .ref y16, .ref y17, .ref y18, .ref y19, .int 0, .int 0, .int 0])), (y17, .inl (y20, 32, .inl (fun _ => 0))), (q21, .inr (4, [.ref q1, .ref q13, .int 0, .int 0, .int 0, .int 0, .int 0])), (q23, .inr (0, [.ref y25, .int 0, .int 0])), (q26, .inl (k27, 2, .inr (.inr (.inr (.inr (fun _ => none))))))] := hD
  have hK : va_K D vwCl [(y4, .byte), (y12, .int), (y20, .int), (k27, .object RX1)] s := hK
  refine lv_aload_n hx hb dX9_init_108 rfl (lv_at hl 0 rfl) ?_
  refine va_new (ci := 6) (fs := [.null, .null, .null, .int 0, .int 0, .int 0, .int 0, .int 0]) (C := RX6) (T := TX6) (N := 8) hx hb hts (fun _ h => List.mem_cons_of_mem _ (List.mem_append_left _ (List.mem_append_left _ (List.mem_append_right _ h)))) tyX6 tyX6_ok hown (hts (.classLink RX9 61 RX6) (List.mem_of_getElem? (i := 59) rfl)) (hts (.instantiable RX6 8) (List.mem_of_getElem? (i := 60) rfl)) (hts (.initialized RX6) (List.mem_of_getElem? (i := 61) rfl)) hK hP hD hS hA rfl (fun j hj => by rcases (show j = 0 ∨ j = 1 ∨ j = 2 ∨ j = 3 ∨ j = 4 ∨ j = 5 ∨ j = 6 ∨ j = 7 by omega) with rfl | rfl | rfl | rfl | rfl | rfl | rfl | rfl <;> rfl) (Nat.le_of_ble_eq_true rfl) (Nat.le_of_ble_eq_true rfl) dX9_init_109 (fun q34 H hP hD hS => ?_)
  have hP : va_P D vwCl [(h0, .inr (9, [.ref q1, .ref q5, .ref q13, .ref q21, .ref q23, .ref q26, .ref q28, .ref q30, .ref q32, .null, .null, .null, .null, .null])), (q1, .inr (7, [.ref y3, .int 0, .int 0])), (y3, .inl (y4, 200, .inl (fun _ => 0))), (q5, .inr (8, [.ref y7, .ref y8, .ref y9, .ref y10, .ref y11, .int 0, .int 0, .int 0])), (y9, .inl (y12, 32, .inl (fun _ => 0))), (q13, .inr (8, [.ref y15, .ref y16, .ref y17, .ref y18, .ref y19, .int 0, .int 0, .int 0])), (y17, .inl (y20, 32, .inl (fun _ => 0))), (q21, .inr (4, [.ref q1, .ref q13, .int 0, .int 0, .int 0, .int 0, .int 0])), (q23, .inr (0, [.ref y25, .int 0, .int 0])), (q26, .inl (k27, 2, .inr (.inr (.inr (.inr (fun _ => none)))))), (q34, .inr (6, [.null, .null, .null, .int 0, .int 0, .int 0, .int 0, .int 0]))] H := hP
  have hD : va_D A [(h0, .inr (9, [.ref q1, .ref q5, .ref q13, .ref q21, .ref q23, .ref q26, .ref q28, .ref q30, .ref q32, .null, .null, .null, .null, .null])), (q1, .inr (7, [.ref y3, .int 0, .int 0])), (y3, .inl (y4, 200, .inl (fun _ => 0))), (q5, .inr (8, [.ref y7, .ref y8, .ref y9, .ref y10, .ref y11, .int 0, .int 0, .int 0])), (y9, .inl (y12, 32, .inl (fun _ => 0))), (q13, .inr (8, [.ref y15, .ref y16, .ref y17, .ref y18, .ref y19, .int 0, .int 0, .int 0])), (y17, .inl (y20, 32, .inl (fun _ => 0))), (q21, .inr (4, [.ref q1, .ref q13, .int 0, .int 0, .int 0, .int 0, .int 0])), (q23, .inr (0, [.ref y25, .int 0, .int 0])), (q26, .inl (k27, 2, .inr (.inr (.inr (.inr (fun _ => none)))))), (q34, .inr (6, [.null, .null, .null, .int 0, .int 0, .int 0, .int 0, .int 0]))] := hD
  have hK : va_K D vwCl [(y4, .byte), (y12, .int), (y20, .int), (k27, .object RX1)] s := hK
  refine W.widen (k := 28) (n := 1820) (Nat.le_of_ble_eq_true rfl) (Nat.le_of_ble_eq_true rfl) ?_
  refine lv_dup hx hb dX9_init_112 rfl ?_
  have hPc := hP.sub (ws' := [(q34, .inr (6, [.null, .null, .null, .int 0, .int 0, .int 0, .int 0, .int 0]))]) [10] rfl
  have hKc := hK.sub (tys' := []) [] rfl
  have hDc := hD.sub (ws' := [(q34, .inr (6, [.null, .null, .null, .int 0, .int 0, .int 0, .int 0, .int 0]))]) [10] (by decide) rfl
  have hFc := va_free (wc := [(q34, .inr (6, [.null, .null, .null, .int 0, .int 0, .int 0, .int 0, .int 0]))]) hD hS hA [10] rfl
  refine va_callv (va_runIN (As := []) (rest := [.ref q34, .ref h0]) ⟨hx, hb, hml, hown, hts⟩ (c_X6_init l D q34 H.size) ⟨va_cnB 0 hts g_X9_init_X6_init rfl rfl rfl hN9_63 (hts (.initialized RX6) (List.mem_of_getElem? (i := 61) rfl)) (by decide +kernel) ⟨Nat.le_of_ble_eq_true rfl, Nat.le_of_ble_eq_true rfl⟩, rfl, (hts (.instanceMethod yX6_init) (List.mem_of_getElem? (i := 62) rfl))⟩ ⟨fun a U g mk q => by obtain ⟨q0, q1, qP, qK, qD⟩ := q; exact ⟨q0, q1, qP, va_K.moved (u := U) (U := U.calling g mk a) (Vm.Alike.refl U.vm) qK, qD⟩, fun U hU hW => ⟨rfl, by rw [hU], by rw [hU]; exact hPc, va_K.moved hW.alike hKc, hDc.weaken (fun _ _ _ _ => trivial)⟩⟩ rfl rfl hl.1 rfl (lv_room (Nat.le_of_ble_eq_true rfl)) dX9_init_113 ⟨Nat.le_of_ble_eq_true rfl, Nat.le_of_ble_eq_true rfl⟩) hS (fun q _ h => hFc q h) hFc (fun u t H1 locs ht hvm hw hB hz1 hk1 hS => ?_)
  obtain ⟨hP1, hK1, hD1⟩ := hB
  rw [ht] at hP1
  have hK1 := va_K.moved hvm.symm hK1
  obtain ⟨hP, hD⟩ := va_join (wr := [(h0, .inr (9, [.ref q1, .ref q5, .ref q13, .ref q21, .ref q23, .ref q26, .ref q28, .ref q30, .ref q32, .null, .null, .null, .null, .null])), (q1, .inr (7, [.ref y3, .int 0, .int 0])), (y3, .inl (y4, 200, .inl (fun _ => 0))), (q5, .inr (8, [.ref y7, .ref y8, .ref y9, .ref y10, .ref y11, .int 0, .int 0, .int 0])), (y9, .inl (y12, 32, .inl (fun _ => 0))), (q13, .inr (8, [.ref y15, .ref y16, .ref y17, .ref y18, .ref y19, .int 0, .int 0, .int 0])), (y17, .inl (y20, 32, .inl (fun _ => 0))), (q21, .inr (4, [.ref q1, .ref q13, .int 0, .int 0, .int 0, .int 0, .int 0])), (q23, .inr (0, [.ref y25, .int 0, .int 0])), (q26, .inl (k27, 2, .inr (.inr (.inr (.inr (fun _ => none))))))]) (w1 := []) hP hD [10] [0, 1, 2, 3, 4, 5, 6, 7, 8, 9] rfl rfl (by decide) (by decide) hk1 hFc hP1 hD1
  have hK := (hK.sub (tys' := [(y4, .byte), (y12, .int), (y20, .int), (k27, .object RX1)]) [0, 1, 2, 3] rfl).app hK1
  generalize H1 = H at hP hS ⊢
  have hP : va_P D vwCl [(h0, .inr (9, [.ref q1, .ref q5, .ref q13, .ref q21, .ref q23, .ref q26, .ref q28, .ref q30, .ref q32, .null, .null, .null, .null, .null])), (q1, .inr (7, [.ref y3, .int 0, .int 0])), (y3, .inl (y4, 200, .inl (fun _ => 0))), (q5, .inr (8, [.ref y7, .ref y8, .ref y9, .ref y10, .ref y11, .int 0, .int 0, .int 0])), (y9, .inl (y12, 32, .inl (fun _ => 0))), (q13, .inr (8, [.ref y15, .ref y16, .ref y17, .ref y18, .ref y19, .int 0, .int 0, .int 0])), (y17, .inl (y20, 32, .inl (fun _ => 0))), (q21, .inr (4, [.ref q1, .ref q13, .int 0, .int 0, .int 0, .int 0, .int 0])), (q23, .inr (0, [.ref y25, .int 0, .int 0])), (q26, .inl (k27, 2, .inr (.inr (.inr (.inr (fun _ => none))))))] H := hP
  have hD : va_D A [(h0, .inr (9, [.ref q1, .ref q5, .ref q13, .ref q21, .ref q23, .ref q26, .ref q28, .ref q30, .ref q32, .null, .null, .null, .null, .null])), (q1, .inr (7, [.ref y3, .int 0, .int 0])), (y3, .inl (y4, 200, .inl (fun _ => 0))), (q5, .inr (8, [.ref y7, .ref y8, .ref y9, .ref y10, .ref y11, .int 0, .int 0, .int 0])), (y9, .inl (y12, 32, .inl (fun _ => 0))), (q13, .inr (8, [.ref y15, .ref y16, .ref y17, .ref y18, .ref y19, .int 0, .int 0, .int 0])), (y17, .inl (y20, 32, .inl (fun _ => 0))), (q21, .inr (4, [.ref q1, .ref q13, .int 0, .int 0, .int 0, .int 0, .int 0])), (q23, .inr (0, [.ref y25, .int 0, .int 0])), (q26, .inl (k27, 2, .inr (.inr (.inr (.inr (fun _ => none))))))] := hD
  have hK : va_K D vwCl [(y4, .byte), (y12, .int), (y20, .int), (k27, .object RX1)] s := hK
  refine W.widen (k := 31) (n := 4820) (Nat.le_of_ble_eq_true rfl) (Nat.le_of_ble_eq_true rfl) ?_
  refine va_putF (D := D) (ci := 9) (v := .ref q34) (ty := .object "LineCites$Spans") (C := RX9) (T := TX9) (N := 14) hx hb hts (fun _ h => List.mem_cons_of_mem _ (List.mem_append_left _ (List.mem_append_left _ (List.mem_append_left _ (List.mem_append_left _ (List.mem_append_left _ (List.mem_append_left _ (List.mem_append_left _ (List.mem_append_right _ h))))))))) tyX9 tyX9_ok nmX9 hown hK hP hD hS 0 rfl rfl 9 (by decide) (hts (.fieldLink RX9 64 "LineCites" "spans" "LLineCites$Spans;") (List.mem_of_getElem? (i := 68) rfl)) (fun _ h9 => h9) rfl hin rfl (by decide +kernel) rfl rfl (Nat.le_of_ble_eq_true rfl) dX9_init_116 (fun H locs hP hD hS => ?_)
  have hP : va_P D vwCl [(h0, .inr (9, [.ref q1, .ref q5, .ref q13, .ref q21, .ref q23, .ref q26, .ref q28, .ref q30, .ref q32, .ref q34, .null, .null, .null, .null])), (q1, .inr (7, [.ref y3, .int 0, .int 0])), (y3, .inl (y4, 200, .inl (fun _ => 0))), (q5, .inr (8, [.ref y7, .ref y8, .ref y9, .ref y10, .ref y11, .int 0, .int 0, .int 0])), (y9, .inl (y12, 32, .inl (fun _ => 0))), (q13, .inr (8, [.ref y15, .ref y16, .ref y17, .ref y18, .ref y19, .int 0, .int 0, .int 0])), (y17, .inl (y20, 32, .inl (fun _ => 0))), (q21, .inr (4, [.ref q1, .ref q13, .int 0, .int 0, .int 0, .int 0, .int 0])), (q23, .inr (0, [.ref y25, .int 0, .int 0])), (q26, .inl (k27, 2, .inr (.inr (.inr (.inr (fun _ => none))))))] H := hP
  have hD : va_D A [(h0, .inr (9, [.ref q1, .ref q5, .ref q13, .ref q21, .ref q23, .ref q26, .ref q28, .ref q30, .ref q32, .ref q34, .null, .null, .null, .null])), (q1, .inr (7, [.ref y3, .int 0, .int 0])), (y3, .inl (y4, 200, .inl (fun _ => 0))), (q5, .inr (8, [.ref y7, .ref y8, .ref y9, .ref y10, .ref y11, .int 0, .int 0, .int 0])), (y9, .inl (y12, 32, .inl (fun _ => 0))), (q13, .inr (8, [.ref y15, .ref y16, .ref y17, .ref y18, .ref y19, .int 0, .int 0, .int 0])), (y17, .inl (y20, 32, .inl (fun _ => 0))), (q21, .inr (4, [.ref q1, .ref q13, .int 0, .int 0, .int 0, .int 0, .int 0])), (q23, .inr (0, [.ref y25, .int 0, .int 0])), (q26, .inl (k27, 2, .inr (.inr (.inr (.inr (fun _ => none))))))] := hD
  have hK : va_K D vwCl [(y4, .byte), (y12, .int), (y20, .int), (k27, .object RX1)] s := hK
  refine lv_aload_n hx hb dX9_init_119 rfl (lv_at hl 0 rfl) ?_
  refine va_new (ci := 6) (fs := [.null, .null, .null, .int 0, .int 0, .int 0, .int 0, .int 0]) (C := RX6) (T := TX6) (N := 8) hx hb hts (fun _ h => List.mem_cons_of_mem _ (List.mem_append_left _ (List.mem_append_left _ (List.mem_append_right _ h)))) tyX6 tyX6_ok hown (hts (.classLink RX9 61 RX6) (List.mem_of_getElem? (i := 59) rfl)) (hts (.instantiable RX6 8) (List.mem_of_getElem? (i := 60) rfl)) (hts (.initialized RX6) (List.mem_of_getElem? (i := 61) rfl)) hK hP hD hS hA rfl (fun j hj => by rcases (show j = 0 ∨ j = 1 ∨ j = 2 ∨ j = 3 ∨ j = 4 ∨ j = 5 ∨ j = 6 ∨ j = 7 by omega) with rfl | rfl | rfl | rfl | rfl | rfl | rfl | rfl <;> rfl) (Nat.le_of_ble_eq_true rfl) (Nat.le_of_ble_eq_true rfl) dX9_init_120 (fun q36 H hP hD hS => ?_)
  have hP : va_P D vwCl [(h0, .inr (9, [.ref q1, .ref q5, .ref q13, .ref q21, .ref q23, .ref q26, .ref q28, .ref q30, .ref q32, .ref q34, .null, .null, .null, .null])), (q1, .inr (7, [.ref y3, .int 0, .int 0])), (y3, .inl (y4, 200, .inl (fun _ => 0))), (q5, .inr (8, [.ref y7, .ref y8, .ref y9, .ref y10, .ref y11, .int 0, .int 0, .int 0])), (y9, .inl (y12, 32, .inl (fun _ => 0))), (q13, .inr (8, [.ref y15, .ref y16, .ref y17, .ref y18, .ref y19, .int 0, .int 0, .int 0])), (y17, .inl (y20, 32, .inl (fun _ => 0))), (q21, .inr (4, [.ref q1, .ref q13, .int 0, .int 0, .int 0, .int 0, .int 0])), (q23, .inr (0, [.ref y25, .int 0, .int 0])), (q26, .inl (k27, 2, .inr (.inr (.inr (.inr (fun _ => none)))))), (q36, .inr (6, [.null, .null, .null, .int 0, .int 0, .int 0, .int 0, .int 0]))] H := hP
  have hD : va_D A [(h0, .inr (9, [.ref q1, .ref q5, .ref q13, .ref q21, .ref q23, .ref q26, .ref q28, .ref q30, .ref q32, .ref q34, .null, .null, .null, .null])), (q1, .inr (7, [.ref y3, .int 0, .int 0])), (y3, .inl (y4, 200, .inl (fun _ => 0))), (q5, .inr (8, [.ref y7, .ref y8, .ref y9, .ref y10, .ref y11, .int 0, .int 0, .int 0])), (y9, .inl (y12, 32, .inl (fun _ => 0))), (q13, .inr (8, [.ref y15, .ref y16, .ref y17, .ref y18, .ref y19, .int 0, .int 0, .int 0])), (y17, .inl (y20, 32, .inl (fun _ => 0))), (q21, .inr (4, [.ref q1, .ref q13, .int 0, .int 0, .int 0, .int 0, .int 0])), (q23, .inr (0, [.ref y25, .int 0, .int 0])), (q26, .inl (k27, 2, .inr (.inr (.inr (.inr (fun _ => none)))))), (q36, .inr (6, [.null, .null, .null, .int 0, .int 0, .int 0, .int 0, .int 0]))] := hD
  have hK : va_K D vwCl [(y4, .byte), (y12, .int), (y20, .int), (k27, .object RX1)] s := hK
  refine W.widen (k := 32) (n := 4828) (Nat.le_of_ble_eq_true rfl) (Nat.le_of_ble_eq_true rfl) ?_
  refine lv_dup hx hb dX9_init_123 rfl ?_
  have hPc := hP.sub (ws' := [(q36, .inr (6, [.null, .null, .null, .int 0, .int 0, .int 0, .int 0, .int 0]))]) [10] rfl
  have hKc := hK.sub (tys' := []) [] rfl
  have hDc := hD.sub (ws' := [(q36, .inr (6, [.null, .null, .null, .int 0, .int 0, .int 0, .int 0, .int 0]))]) [10] (by decide) rfl
  have hFc := va_free (wc := [(q36, .inr (6, [.null, .null, .null, .int 0, .int 0, .int 0, .int 0, .int 0]))]) hD hS hA [10] rfl
  refine va_callv (va_runIN (As := []) (rest := [.ref q36, .ref h0]) ⟨hx, hb, hml, hown, hts⟩ (c_X6_init l D q36 H.size) ⟨va_cnB 0 hts g_X9_init_X6_init rfl rfl rfl hN9_63 (hts (.initialized RX6) (List.mem_of_getElem? (i := 61) rfl)) (by decide +kernel) ⟨Nat.le_of_ble_eq_true rfl, Nat.le_of_ble_eq_true rfl⟩, rfl, (hts (.instanceMethod yX6_init) (List.mem_of_getElem? (i := 62) rfl))⟩ ⟨fun a U g mk q => by obtain ⟨q0, q1, qP, qK, qD⟩ := q; exact ⟨q0, q1, qP, va_K.moved (u := U) (U := U.calling g mk a) (Vm.Alike.refl U.vm) qK, qD⟩, fun U hU hW => ⟨rfl, by rw [hU], by rw [hU]; exact hPc, va_K.moved hW.alike hKc, hDc.weaken (fun _ _ _ _ => trivial)⟩⟩ rfl rfl hl.1 rfl (lv_room (Nat.le_of_ble_eq_true rfl)) dX9_init_124 ⟨Nat.le_of_ble_eq_true rfl, Nat.le_of_ble_eq_true rfl⟩) hS (fun q _ h => hFc q h) hFc (fun u t H1 locs ht hvm hw hB hz1 hk1 hS => ?_)
  obtain ⟨hP1, hK1, hD1⟩ := hB
  rw [ht] at hP1
  have hK1 := va_K.moved hvm.symm hK1
  obtain ⟨hP, hD⟩ := va_join (wr := [(h0, .inr (9, [.ref q1, .ref q5, .ref q13, .ref q21, .ref q23, .ref q26, .ref q28, .ref q30, .ref q32, .ref q34, .null, .null, .null, .null])), (q1, .inr (7, [.ref y3, .int 0, .int 0])), (y3, .inl (y4, 200, .inl (fun _ => 0))), (q5, .inr (8, [.ref y7, .ref y8, .ref y9, .ref y10, .ref y11, .int 0, .int 0, .int 0])), (y9, .inl (y12, 32, .inl (fun _ => 0))), (q13, .inr (8, [.ref y15, .ref y16, .ref y17, .ref y18, .ref y19, .int 0, .int 0, .int 0])), (y17, .inl (y20, 32, .inl (fun _ => 0))), (q21, .inr (4, [.ref q1, .ref q13, .int 0, .int 0, .int 0, .int 0, .int 0])), (q23, .inr (0, [.ref y25, .int 0, .int 0])), (q26, .inl (k27, 2, .inr (.inr (.inr (.inr (fun _ => none))))))]) (w1 := []) hP hD [10] [0, 1, 2, 3, 4, 5, 6, 7, 8, 9] rfl rfl (by decide) (by decide) hk1 hFc hP1 hD1
  have hK := (hK.sub (tys' := [(y4, .byte), (y12, .int), (y20, .int), (k27, .object RX1)]) [0, 1, 2, 3] rfl).app hK1
  generalize H1 = H at hP hS ⊢
  have hP : va_P D vwCl [(h0, .inr (9, [.ref q1, .ref q5, .ref q13, .ref q21, .ref q23, .ref q26, .ref q28, .ref q30, .ref q32, .ref q34, .null, .null, .null, .null])), (q1, .inr (7, [.ref y3, .int 0, .int 0])), (y3, .inl (y4, 200, .inl (fun _ => 0))), (q5, .inr (8, [.ref y7, .ref y8, .ref y9, .ref y10, .ref y11, .int 0, .int 0, .int 0])), (y9, .inl (y12, 32, .inl (fun _ => 0))), (q13, .inr (8, [.ref y15, .ref y16, .ref y17, .ref y18, .ref y19, .int 0, .int 0, .int 0])), (y17, .inl (y20, 32, .inl (fun _ => 0))), (q21, .inr (4, [.ref q1, .ref q13, .int 0, .int 0, .int 0, .int 0, .int 0])), (q23, .inr (0, [.ref y25, .int 0, .int 0])), (q26, .inl (k27, 2, .inr (.inr (.inr (.inr (fun _ => none))))))] H := hP
  have hD : va_D A [(h0, .inr (9, [.ref q1, .ref q5, .ref q13, .ref q21, .ref q23, .ref q26, .ref q28, .ref q30, .ref q32, .ref q34, .null, .null, .null, .null])), (q1, .inr (7, [.ref y3, .int 0, .int 0])), (y3, .inl (y4, 200, .inl (fun _ => 0))), (q5, .inr (8, [.ref y7, .ref y8, .ref y9, .ref y10, .ref y11, .int 0, .int 0, .int 0])), (y9, .inl (y12, 32, .inl (fun _ => 0))), (q13, .inr (8, [.ref y15, .ref y16, .ref y17, .ref y18, .ref y19, .int 0, .int 0, .int 0])), (y17, .inl (y20, 32, .inl (fun _ => 0))), (q21, .inr (4, [.ref q1, .ref q13, .int 0, .int 0, .int 0, .int 0, .int 0])), (q23, .inr (0, [.ref y25, .int 0, .int 0])), (q26, .inl (k27, 2, .inr (.inr (.inr (.inr (fun _ => none))))))] := hD
  have hK : va_K D vwCl [(y4, .byte), (y12, .int), (y20, .int), (k27, .object RX1)] s := hK
  refine W.widen (k := 35) (n := 7828) (Nat.le_of_ble_eq_true rfl) (Nat.le_of_ble_eq_true rfl) ?_
  refine va_putF (D := D) (ci := 9) (v := .ref q36) (ty := .object "LineCites$Spans") (C := RX9) (T := TX9) (N := 14) hx hb hts (fun _ h => List.mem_cons_of_mem _ (List.mem_append_left _ (List.mem_append_left _ (List.mem_append_left _ (List.mem_append_left _ (List.mem_append_left _ (List.mem_append_left _ (List.mem_append_left _ (List.mem_append_right _ h))))))))) tyX9 tyX9_ok nmX9 hown hK hP hD hS 0 rfl rfl 10 (by decide) (hts (.fieldLink RX9 68 "LineCites" "back" "LLineCites$Spans;") (List.mem_of_getElem? (i := 69) rfl)) (fun _ h9 => h9) rfl hin rfl (by decide +kernel) rfl rfl (Nat.le_of_ble_eq_true rfl) dX9_init_127 (fun H locs hP hD hS => ?_)
  have hP : va_P D vwCl [(h0, .inr (9, [.ref q1, .ref q5, .ref q13, .ref q21, .ref q23, .ref q26, .ref q28, .ref q30, .ref q32, .ref q34, .ref q36, .null, .null, .null])), (q1, .inr (7, [.ref y3, .int 0, .int 0])), (y3, .inl (y4, 200, .inl (fun _ => 0))), (q5, .inr (8, [.ref y7, .ref y8, .ref y9, .ref y10, .ref y11, .int 0, .int 0, .int 0])), (y9, .inl (y12, 32, .inl (fun _ => 0))), (q13, .inr (8, [.ref y15, .ref y16, .ref y17, .ref y18, .ref y19, .int 0, .int 0, .int 0])), (y17, .inl (y20, 32, .inl (fun _ => 0))), (q21, .inr (4, [.ref q1, .ref q13, .int 0, .int 0, .int 0, .int 0, .int 0])), (q23, .inr (0, [.ref y25, .int 0, .int 0])), (q26, .inl (k27, 2, .inr (.inr (.inr (.inr (fun _ => none))))))] H := hP
  have hD : va_D A [(h0, .inr (9, [.ref q1, .ref q5, .ref q13, .ref q21, .ref q23, .ref q26, .ref q28, .ref q30, .ref q32, .ref q34, .ref q36, .null, .null, .null])), (q1, .inr (7, [.ref y3, .int 0, .int 0])), (y3, .inl (y4, 200, .inl (fun _ => 0))), (q5, .inr (8, [.ref y7, .ref y8, .ref y9, .ref y10, .ref y11, .int 0, .int 0, .int 0])), (y9, .inl (y12, 32, .inl (fun _ => 0))), (q13, .inr (8, [.ref y15, .ref y16, .ref y17, .ref y18, .ref y19, .int 0, .int 0, .int 0])), (y17, .inl (y20, 32, .inl (fun _ => 0))), (q21, .inr (4, [.ref q1, .ref q13, .int 0, .int 0, .int 0, .int 0, .int 0])), (q23, .inr (0, [.ref y25, .int 0, .int 0])), (q26, .inl (k27, 2, .inr (.inr (.inr (.inr (fun _ => none))))))] := hD
  have hK : va_K D vwCl [(y4, .byte), (y12, .int), (y20, .int), (k27, .object RX1)] s := hK
  refine lv_aload_n hx hb dX9_init_130 rfl (lv_at hl 0 rfl) ?_
  refine va_new (ci := 5) (fs := [.int 0, .int 0, .int 0]) (C := RX5) (T := TX5) (N := 3) hx hb hts (fun _ h => List.mem_cons_of_mem _ (List.mem_append_left _ (List.mem_append_right _ h))) tyX5 tyX5_ok hown (hts (.classLink RX9 71 RX5) (List.mem_of_getElem? (i := 70) rfl)) (hts (.instantiable RX5 3) (List.mem_of_getElem? (i := 71) rfl)) (hts (.initialized RX5) (List.mem_of_getElem? (i := 72) rfl)) hK hP hD hS hA rfl (fun j hj => by rcases (show j = 0 ∨ j = 1 ∨ j = 2 by omega) with rfl | rfl | rfl <;> rfl) (Nat.le_of_ble_eq_true rfl) (Nat.le_of_ble_eq_true rfl) dX9_init_131 (fun q38 H hP hD hS => ?_)
  have hP : va_P D vwCl [(h0, .inr (9, [.ref q1, .ref q5, .ref q13, .ref q21, .ref q23, .ref q26, .ref q28, .ref q30, .ref q32, .ref q34, .ref q36, .null, .null, .null])), (q1, .inr (7, [.ref y3, .int 0, .int 0])), (y3, .inl (y4, 200, .inl (fun _ => 0))), (q5, .inr (8, [.ref y7, .ref y8, .ref y9, .ref y10, .ref y11, .int 0, .int 0, .int 0])), (y9, .inl (y12, 32, .inl (fun _ => 0))), (q13, .inr (8, [.ref y15, .ref y16, .ref y17, .ref y18, .ref y19, .int 0, .int 0, .int 0])), (y17, .inl (y20, 32, .inl (fun _ => 0))), (q21, .inr (4, [.ref q1, .ref q13, .int 0, .int 0, .int 0, .int 0, .int 0])), (q23, .inr (0, [.ref y25, .int 0, .int 0])), (q26, .inl (k27, 2, .inr (.inr (.inr (.inr (fun _ => none)))))), (q38, .inr (5, [.int 0, .int 0, .int 0]))] H := hP
  have hD : va_D A [(h0, .inr (9, [.ref q1, .ref q5, .ref q13, .ref q21, .ref q23, .ref q26, .ref q28, .ref q30, .ref q32, .ref q34, .ref q36, .null, .null, .null])), (q1, .inr (7, [.ref y3, .int 0, .int 0])), (y3, .inl (y4, 200, .inl (fun _ => 0))), (q5, .inr (8, [.ref y7, .ref y8, .ref y9, .ref y10, .ref y11, .int 0, .int 0, .int 0])), (y9, .inl (y12, 32, .inl (fun _ => 0))), (q13, .inr (8, [.ref y15, .ref y16, .ref y17, .ref y18, .ref y19, .int 0, .int 0, .int 0])), (y17, .inl (y20, 32, .inl (fun _ => 0))), (q21, .inr (4, [.ref q1, .ref q13, .int 0, .int 0, .int 0, .int 0, .int 0])), (q23, .inr (0, [.ref y25, .int 0, .int 0])), (q26, .inl (k27, 2, .inr (.inr (.inr (.inr (fun _ => none)))))), (q38, .inr (5, [.int 0, .int 0, .int 0]))] := hD
  have hK : va_K D vwCl [(y4, .byte), (y12, .int), (y20, .int), (k27, .object RX1)] s := hK
  refine W.widen (k := 36) (n := 7831) (Nat.le_of_ble_eq_true rfl) (Nat.le_of_ble_eq_true rfl) ?_
  refine lv_dup hx hb dX9_init_134 rfl ?_
  have hPc := hP.sub (ws' := [(q38, .inr (5, [.int 0, .int 0, .int 0]))]) [10] rfl
  have hKc := hK.sub (tys' := []) [] rfl
  have hDc := hD.sub (ws' := [(q38, .inr (5, [.int 0, .int 0, .int 0]))]) [10] (by decide) rfl
  have hFc := va_free (wc := [(q38, .inr (5, [.int 0, .int 0, .int 0]))]) hD hS hA [10] rfl
  refine va_callv (va_runIN (As := []) (rest := [.ref q38, .ref h0]) ⟨hx, hb, hml, hown, hts⟩ (c_X5_init l D q38 H.size) ⟨va_cnB 0 hts g_X9_init_X5_init rfl rfl rfl hN9_73 (hts (.initialized RX5) (List.mem_of_getElem? (i := 72) rfl)) (by decide +kernel) ⟨Nat.le_of_ble_eq_true rfl, Nat.le_of_ble_eq_true rfl⟩, rfl, (hts (.instanceMethod yX5_init) (List.mem_of_getElem? (i := 73) rfl))⟩ ⟨fun a U g mk q => by obtain ⟨q0, q1, qP, qK, qD⟩ := q; exact ⟨q0, q1, qP, va_K.moved (u := U) (U := U.calling g mk a) (Vm.Alike.refl U.vm) qK, qD⟩, fun U hU hW => ⟨rfl, by rw [hU], by rw [hU]; exact hPc, va_K.moved hW.alike hKc, hDc.weaken (fun _ _ _ _ => trivial)⟩⟩ rfl rfl hl.1 rfl (lv_room (Nat.le_of_ble_eq_true rfl)) dX9_init_135 ⟨Nat.le_of_ble_eq_true rfl, Nat.le_of_ble_eq_true rfl⟩) hS (fun q _ h => hFc q h) hFc (fun u t H1 locs ht hvm hw hB hz1 hk1 hS => ?_)
  obtain ⟨hP1, hK1, hD1⟩ := hB
  rw [ht] at hP1
  have hK1 := va_K.moved hvm.symm hK1
  obtain ⟨hP, hD⟩ := va_join (wr := [(h0, .inr (9, [.ref q1, .ref q5, .ref q13, .ref q21, .ref q23, .ref q26, .ref q28, .ref q30, .ref q32, .ref q34, .ref q36, .null, .null, .null])), (q1, .inr (7, [.ref y3, .int 0, .int 0])), (y3, .inl (y4, 200, .inl (fun _ => 0))), (q5, .inr (8, [.ref y7, .ref y8, .ref y9, .ref y10, .ref y11, .int 0, .int 0, .int 0])), (y9, .inl (y12, 32, .inl (fun _ => 0))), (q13, .inr (8, [.ref y15, .ref y16, .ref y17, .ref y18, .ref y19, .int 0, .int 0, .int 0])), (y17, .inl (y20, 32, .inl (fun _ => 0))), (q21, .inr (4, [.ref q1, .ref q13, .int 0, .int 0, .int 0, .int 0, .int 0])), (q23, .inr (0, [.ref y25, .int 0, .int 0])), (q26, .inl (k27, 2, .inr (.inr (.inr (.inr (fun _ => none))))))]) (w1 := []) hP hD [10] [0, 1, 2, 3, 4, 5, 6, 7, 8, 9] rfl rfl (by decide) (by decide) hk1 hFc hP1 hD1
  have hK := (hK.sub (tys' := [(y4, .byte), (y12, .int), (y20, .int), (k27, .object RX1)]) [0, 1, 2, 3] rfl).app hK1
  generalize H1 = H at hP hS ⊢
  have hP : va_P D vwCl [(h0, .inr (9, [.ref q1, .ref q5, .ref q13, .ref q21, .ref q23, .ref q26, .ref q28, .ref q30, .ref q32, .ref q34, .ref q36, .null, .null, .null])), (q1, .inr (7, [.ref y3, .int 0, .int 0])), (y3, .inl (y4, 200, .inl (fun _ => 0))), (q5, .inr (8, [.ref y7, .ref y8, .ref y9, .ref y10, .ref y11, .int 0, .int 0, .int 0])), (y9, .inl (y12, 32, .inl (fun _ => 0))), (q13, .inr (8, [.ref y15, .ref y16, .ref y17, .ref y18, .ref y19, .int 0, .int 0, .int 0])), (y17, .inl (y20, 32, .inl (fun _ => 0))), (q21, .inr (4, [.ref q1, .ref q13, .int 0, .int 0, .int 0, .int 0, .int 0])), (q23, .inr (0, [.ref y25, .int 0, .int 0])), (q26, .inl (k27, 2, .inr (.inr (.inr (.inr (fun _ => none))))))] H := hP
  have hD : va_D A [(h0, .inr (9, [.ref q1, .ref q5, .ref q13, .ref q21, .ref q23, .ref q26, .ref q28, .ref q30, .ref q32, .ref q34, .ref q36, .null, .null, .null])), (q1, .inr (7, [.ref y3, .int 0, .int 0])), (y3, .inl (y4, 200, .inl (fun _ => 0))), (q5, .inr (8, [.ref y7, .ref y8, .ref y9, .ref y10, .ref y11, .int 0, .int 0, .int 0])), (y9, .inl (y12, 32, .inl (fun _ => 0))), (q13, .inr (8, [.ref y15, .ref y16, .ref y17, .ref y18, .ref y19, .int 0, .int 0, .int 0])), (y17, .inl (y20, 32, .inl (fun _ => 0))), (q21, .inr (4, [.ref q1, .ref q13, .int 0, .int 0, .int 0, .int 0, .int 0])), (q23, .inr (0, [.ref y25, .int 0, .int 0])), (q26, .inl (k27, 2, .inr (.inr (.inr (.inr (fun _ => none))))))] := hD
  have hK : va_K D vwCl [(y4, .byte), (y12, .int), (y20, .int), (k27, .object RX1)] s := hK
  refine W.widen (k := 36) (n := 7831) (Nat.le_of_ble_eq_true rfl) (Nat.le_of_ble_eq_true rfl) ?_
  refine va_putF (D := D) (ci := 9) (v := .ref q38) (ty := .object "LineCites$Span") (C := RX9) (T := TX9) (N := 14) hx hb hts (fun _ h => List.mem_cons_of_mem _ (List.mem_append_left _ (List.mem_append_left _ (List.mem_append_left _ (List.mem_append_left _ (List.mem_append_left _ (List.mem_append_left _ (List.mem_append_left _ (List.mem_append_right _ h))))))))) tyX9 tyX9_ok nmX9 hown hK hP hD hS 0 rfl rfl 11 (by decide) (hts (.fieldLink RX9 74 "LineCites" "span" "LLineCites$Span;") (List.mem_of_getElem? (i := 76) rfl)) (fun _ h9 => h9) rfl hin rfl (by decide +kernel) rfl rfl (Nat.le_of_ble_eq_true rfl) dX9_init_138 (fun H locs hP hD hS => ?_)
  have hP : va_P D vwCl [(h0, .inr (9, [.ref q1, .ref q5, .ref q13, .ref q21, .ref q23, .ref q26, .ref q28, .ref q30, .ref q32, .ref q34, .ref q36, .ref q38, .null, .null])), (q1, .inr (7, [.ref y3, .int 0, .int 0])), (y3, .inl (y4, 200, .inl (fun _ => 0))), (q5, .inr (8, [.ref y7, .ref y8, .ref y9, .ref y10, .ref y11, .int 0, .int 0, .int 0])), (y9, .inl (y12, 32, .inl (fun _ => 0))), (q13, .inr (8, [.ref y15, .ref y16, .ref y17, .ref y18, .ref y19, .int 0, .int 0, .int 0])), (y17, .inl (y20, 32, .inl (fun _ => 0))), (q21, .inr (4, [.ref q1, .ref q13, .int 0, .int 0, .int 0, .int 0, .int 0])), (q23, .inr (0, [.ref y25, .int 0, .int 0])), (q26, .inl (k27, 2, .inr (.inr (.inr (.inr (fun _ => none))))))] H := hP
  have hD : va_D A [(h0, .inr (9, [.ref q1, .ref q5, .ref q13, .ref q21, .ref q23, .ref q26, .ref q28, .ref q30, .ref q32, .ref q34, .ref q36, .ref q38, .null, .null])), (q1, .inr (7, [.ref y3, .int 0, .int 0])), (y3, .inl (y4, 200, .inl (fun _ => 0))), (q5, .inr (8, [.ref y7, .ref y8, .ref y9, .ref y10, .ref y11, .int 0, .int 0, .int 0])), (y9, .inl (y12, 32, .inl (fun _ => 0))), (q13, .inr (8, [.ref y15, .ref y16, .ref y17, .ref y18, .ref y19, .int 0, .int 0, .int 0])), (y17, .inl (y20, 32, .inl (fun _ => 0))), (q21, .inr (4, [.ref q1, .ref q13, .int 0, .int 0, .int 0, .int 0, .int 0])), (q23, .inr (0, [.ref y25, .int 0, .int 0])), (q26, .inl (k27, 2, .inr (.inr (.inr (.inr (fun _ => none))))))] := hD
  have hK : va_K D vwCl [(y4, .byte), (y12, .int), (y20, .int), (k27, .object RX1)] s := hK
  refine lv_aload_n hx hb dX9_init_141 rfl (lv_at hl 0 rfl) ?_
  refine va_new (ci := 2) (fs := [.null, .null, .int 0]) (C := RX2) (T := TX2) (N := 3) hx hb hts (fun _ h => List.mem_cons_of_mem _ (List.mem_append_right _ h)) tyX2 tyX2_ok hown (hts (.classLink RX9 78 RX2) (List.mem_of_getElem? (i := 77) rfl)) (hts (.instantiable RX2 3) (List.mem_of_getElem? (i := 78) rfl)) (hts (.initialized RX2) (List.mem_of_getElem? (i := 79) rfl)) hK hP hD hS hA rfl (fun j hj => by rcases (show j = 0 ∨ j = 1 ∨ j = 2 by omega) with rfl | rfl | rfl <;> rfl) (Nat.le_of_ble_eq_true rfl) (Nat.le_of_ble_eq_true rfl) dX9_init_142 (fun q40 H hP hD hS => ?_)
  have hP : va_P D vwCl [(h0, .inr (9, [.ref q1, .ref q5, .ref q13, .ref q21, .ref q23, .ref q26, .ref q28, .ref q30, .ref q32, .ref q34, .ref q36, .ref q38, .null, .null])), (q1, .inr (7, [.ref y3, .int 0, .int 0])), (y3, .inl (y4, 200, .inl (fun _ => 0))), (q5, .inr (8, [.ref y7, .ref y8, .ref y9, .ref y10, .ref y11, .int 0, .int 0, .int 0])), (y9, .inl (y12, 32, .inl (fun _ => 0))), (q13, .inr (8, [.ref y15, .ref y16, .ref y17, .ref y18, .ref y19, .int 0, .int 0, .int 0])), (y17, .inl (y20, 32, .inl (fun _ => 0))), (q21, .inr (4, [.ref q1, .ref q13, .int 0, .int 0, .int 0, .int 0, .int 0])), (q23, .inr (0, [.ref y25, .int 0, .int 0])), (q26, .inl (k27, 2, .inr (.inr (.inr (.inr (fun _ => none)))))), (q40, .inr (2, [.null, .null, .int 0]))] H := hP
  have hD : va_D A [(h0, .inr (9, [.ref q1, .ref q5, .ref q13, .ref q21, .ref q23, .ref q26, .ref q28, .ref q30, .ref q32, .ref q34, .ref q36, .ref q38, .null, .null])), (q1, .inr (7, [.ref y3, .int 0, .int 0])), (y3, .inl (y4, 200, .inl (fun _ => 0))), (q5, .inr (8, [.ref y7, .ref y8, .ref y9, .ref y10, .ref y11, .int 0, .int 0, .int 0])), (y9, .inl (y12, 32, .inl (fun _ => 0))), (q13, .inr (8, [.ref y15, .ref y16, .ref y17, .ref y18, .ref y19, .int 0, .int 0, .int 0])), (y17, .inl (y20, 32, .inl (fun _ => 0))), (q21, .inr (4, [.ref q1, .ref q13, .int 0, .int 0, .int 0, .int 0, .int 0])), (q23, .inr (0, [.ref y25, .int 0, .int 0])), (q26, .inl (k27, 2, .inr (.inr (.inr (.inr (fun _ => none)))))), (q40, .inr (2, [.null, .null, .int 0]))] := hD
  have hK : va_K D vwCl [(y4, .byte), (y12, .int), (y20, .int), (k27, .object RX1)] s := hK
  refine W.widen (k := 37) (n := 7834) (Nat.le_of_ble_eq_true rfl) (Nat.le_of_ble_eq_true rfl) ?_
  refine lv_dup hx hb dX9_init_145 rfl ?_
  have hPc := hP.sub (ws' := [(q40, .inr (2, [.null, .null, .int 0]))]) [10] rfl
  have hKc := hK.sub (tys' := []) [] rfl
  have hDc := hD.sub (ws' := [(q40, .inr (2, [.null, .null, .int 0]))]) [10] (by decide) rfl
  have hFc := va_free (wc := [(q40, .inr (2, [.null, .null, .int 0]))]) hD hS hA [10] rfl
  refine va_callv (va_runIN (As := []) (rest := [.ref q40, .ref h0]) ⟨hx, hb, hml, hown, hts⟩ (c_X2_init l D q40 H.size) ⟨va_cnB 0 hts g_X9_init_X2_init rfl rfl rfl hN9_80 (hts (.initialized RX2) (List.mem_of_getElem? (i := 79) rfl)) (by decide +kernel) ⟨Nat.le_of_ble_eq_true rfl, Nat.le_of_ble_eq_true rfl⟩, rfl, (hts (.instanceMethod yX2_init) (List.mem_of_getElem? (i := 80) rfl))⟩ ⟨fun a U g mk q => by obtain ⟨q0, q1, qP, qK, qD, qE0⟩ := q; exact ⟨q0, q1, qP, va_K.moved (u := U) (U := U.calling g mk a) (Vm.Alike.refl U.vm) qK, qD, va_Nw.same rfl rfl qE0⟩, fun U hU hW => ⟨rfl, by rw [hU], by rw [hU]; exact hPc, va_K.moved hW.alike hKc, hDc.weaken (fun _ _ _ _ => trivial), va_Nw.warmM hW hN2_17⟩⟩ rfl rfl hl.1 rfl (lv_room (Nat.le_of_ble_eq_true rfl)) dX9_init_146 ⟨Nat.le_of_ble_eq_true rfl, Nat.le_of_ble_eq_true rfl⟩) hS (fun q _ h => hFc q h) hFc (fun u t H1 locs ht hvm hw hB hz1 hk1 hS => ?_)
  obtain ⟨hP1, hK1, hD1⟩ := hB
  rw [ht] at hP1
  have hK1 := va_K.moved hvm.symm hK1
  obtain ⟨hP, hD⟩ := va_join (wr := [(h0, .inr (9, [.ref q1, .ref q5, .ref q13, .ref q21, .ref q23, .ref q26, .ref q28, .ref q30, .ref q32, .ref q34, .ref q36, .ref q38, .null, .null])), (q1, .inr (7, [.ref y3, .int 0, .int 0])), (y3, .inl (y4, 200, .inl (fun _ => 0))), (q5, .inr (8, [.ref y7, .ref y8, .ref y9, .ref y10, .ref y11, .int 0, .int 0, .int 0])), (y9, .inl (y12, 32, .inl (fun _ => 0))), (q13, .inr (8, [.ref y15, .ref y16, .ref y17, .ref y18, .ref y19, .int 0, .int 0, .int 0])), (y17, .inl (y20, 32, .inl (fun _ => 0))), (q21, .inr (4, [.ref q1, .ref q13, .int 0, .int 0, .int 0, .int 0, .int 0])), (q23, .inr (0, [.ref y25, .int 0, .int 0])), (q26, .inl (k27, 2, .inr (.inr (.inr (.inr (fun _ => none))))))]) (w1 := []) hP hD [10] [0, 1, 2, 3, 4, 5, 6, 7, 8, 9] rfl rfl (by decide) (by decide) hk1 hFc hP1 hD1
  have hK := (hK.sub (tys' := [(y4, .byte), (y12, .int), (y20, .int), (k27, .object RX1)]) [0, 1, 2, 3] rfl).app hK1
  generalize H1 = H at hP hS ⊢
  have hP : va_P D vwCl [(h0, .inr (9, [.ref q1, .ref q5, .ref q13, .ref q21, .ref q23, .ref q26, .ref q28, .ref q30, .ref q32, .ref q34, .ref q36, .ref q38, .null, .null])), (q1, .inr (7, [.ref y3, .int 0, .int 0])), (y3, .inl (y4, 200, .inl (fun _ => 0))), (q5, .inr (8, [.ref y7, .ref y8, .ref y9, .ref y10, .ref y11, .int 0, .int 0, .int 0])), (y9, .inl (y12, 32, .inl (fun _ => 0))), (q13, .inr (8, [.ref y15, .ref y16, .ref y17, .ref y18, .ref y19, .int 0, .int 0, .int 0])), (y17, .inl (y20, 32, .inl (fun _ => 0))), (q21, .inr (4, [.ref q1, .ref q13, .int 0, .int 0, .int 0, .int 0, .int 0])), (q23, .inr (0, [.ref y25, .int 0, .int 0])), (q26, .inl (k27, 2, .inr (.inr (.inr (.inr (fun _ => none))))))] H := hP
  have hD : va_D A [(h0, .inr (9, [.ref q1, .ref q5, .ref q13, .ref q21, .ref q23, .ref q26, .ref q28, .ref q30, .ref q32, .ref q34, .ref q36, .ref q38, .null, .null])), (q1, .inr (7, [.ref y3, .int 0, .int 0])), (y3, .inl (y4, 200, .inl (fun _ => 0))), (q5, .inr (8, [.ref y7, .ref y8, .ref y9, .ref y10, .ref y11, .int 0, .int 0, .int 0])), (y9, .inl (y12, 32, .inl (fun _ => 0))), (q13, .inr (8, [.ref y15, .ref y16, .ref y17, .ref y18, .ref y19, .int 0, .int 0, .int 0])), (y17, .inl (y20, 32, .inl (fun _ => 0))), (q21, .inr (4, [.ref q1, .ref q13, .int 0, .int 0, .int 0, .int 0, .int 0])), (q23, .inr (0, [.ref y25, .int 0, .int 0])), (q26, .inl (k27, 2, .inr (.inr (.inr (.inr (fun _ => none))))))] := hD
  have hK : va_K D vwCl [(y4, .byte), (y12, .int), (y20, .int), (k27, .object RX1)] s := hK
  refine W.widen (k := 39) (n := 8837) (Nat.le_of_ble_eq_true rfl) (Nat.le_of_ble_eq_true rfl) ?_
  refine va_putF (D := D) (ci := 9) (v := .ref q40) (ty := .object "LineCites$NumberSet") (C := RX9) (T := TX9) (N := 14) hx hb hts (fun _ h => List.mem_cons_of_mem _ (List.mem_append_left _ (List.mem_append_left _ (List.mem_append_left _ (List.mem_append_left _ (List.mem_append_left _ (List.mem_append_left _ (List.mem_append_left _ (List.mem_append_right _ h))))))))) tyX9 tyX9_ok nmX9 hown hK hP hD hS 0 rfl rfl 12 (by decide) (hts (.fieldLink RX9 81 "LineCites" "middle" "LLineCites$NumberSet;") (List.mem_of_getElem? (i := 87) rfl)) (fun _ h9 => h9) rfl hin rfl (by decide +kernel) rfl rfl (Nat.le_of_ble_eq_true rfl) dX9_init_149 (fun H locs hP hD hS => ?_)
  have hP : va_P D vwCl [(h0, .inr (9, [.ref q1, .ref q5, .ref q13, .ref q21, .ref q23, .ref q26, .ref q28, .ref q30, .ref q32, .ref q34, .ref q36, .ref q38, .ref q40, .null])), (q1, .inr (7, [.ref y3, .int 0, .int 0])), (y3, .inl (y4, 200, .inl (fun _ => 0))), (q5, .inr (8, [.ref y7, .ref y8, .ref y9, .ref y10, .ref y11, .int 0, .int 0, .int 0])), (y9, .inl (y12, 32, .inl (fun _ => 0))), (q13, .inr (8, [.ref y15, .ref y16, .ref y17, .ref y18, .ref y19, .int 0, .int 0, .int 0])), (y17, .inl (y20, 32, .inl (fun _ => 0))), (q21, .inr (4, [.ref q1, .ref q13, .int 0, .int 0, .int 0, .int 0, .int 0])), (q23, .inr (0, [.ref y25, .int 0, .int 0])), (q26, .inl (k27, 2, .inr (.inr (.inr (.inr (fun _ => none))))))] H := hP
  have hD : va_D A [(h0, .inr (9, [.ref q1, .ref q5, .ref q13, .ref q21, .ref q23, .ref q26, .ref q28, .ref q30, .ref q32, .ref q34, .ref q36, .ref q38, .ref q40, .null])), (q1, .inr (7, [.ref y3, .int 0, .int 0])), (y3, .inl (y4, 200, .inl (fun _ => 0))), (q5, .inr (8, [.ref y7, .ref y8, .ref y9, .ref y10, .ref y11, .int 0, .int 0, .int 0])), (y9, .inl (y12, 32, .inl (fun _ => 0))), (q13, .inr (8, [.ref y15, .ref y16, .ref y17, .ref y18, .ref y19, .int 0, .int 0, .int 0])), (y17, .inl (y20, 32, .inl (fun _ => 0))), (q21, .inr (4, [.ref q1, .ref q13, .int 0, .int 0, .int 0, .int 0, .int 0])), (q23, .inr (0, [.ref y25, .int 0, .int 0])), (q26, .inl (k27, 2, .inr (.inr (.inr (.inr (fun _ => none))))))] := hD
  have hK : va_K D vwCl [(y4, .byte), (y12, .int), (y20, .int), (k27, .object RX1)] s := hK
  refine lv_aload_n hx hb dX9_init_152 rfl (lv_at hl 0 rfl) ?_
  refine va_new (ci := 2) (fs := [.null, .null, .int 0]) (C := RX2) (T := TX2) (N := 3) hx hb hts (fun _ h => List.mem_cons_of_mem _ (List.mem_append_right _ h)) tyX2 tyX2_ok hown (hts (.classLink RX9 78 RX2) (List.mem_of_getElem? (i := 77) rfl)) (hts (.instantiable RX2 3) (List.mem_of_getElem? (i := 78) rfl)) (hts (.initialized RX2) (List.mem_of_getElem? (i := 79) rfl)) hK hP hD hS hA rfl (fun j hj => by rcases (show j = 0 ∨ j = 1 ∨ j = 2 by omega) with rfl | rfl | rfl <;> rfl) (Nat.le_of_ble_eq_true rfl) (Nat.le_of_ble_eq_true rfl) dX9_init_153 (fun q42 H hP hD hS => ?_)
  have hP : va_P D vwCl [(h0, .inr (9, [.ref q1, .ref q5, .ref q13, .ref q21, .ref q23, .ref q26, .ref q28, .ref q30, .ref q32, .ref q34, .ref q36, .ref q38, .ref q40, .null])), (q1, .inr (7, [.ref y3, .int 0, .int 0])), (y3, .inl (y4, 200, .inl (fun _ => 0))), (q5, .inr (8, [.ref y7, .ref y8, .ref y9, .ref y10, .ref y11, .int 0, .int 0, .int 0])), (y9, .inl (y12, 32, .inl (fun _ => 0))), (q13, .inr (8, [.ref y15, .ref y16, .ref y17, .ref y18, .ref y19, .int 0, .int 0, .int 0])), (y17, .inl (y20, 32, .inl (fun _ => 0))), (q21, .inr (4, [.ref q1, .ref q13, .int 0, .int 0, .int 0, .int 0, .int 0])), (q23, .inr (0, [.ref y25, .int 0, .int 0])), (q26, .inl (k27, 2, .inr (.inr (.inr (.inr (fun _ => none)))))), (q42, .inr (2, [.null, .null, .int 0]))] H := hP
  have hD : va_D A [(h0, .inr (9, [.ref q1, .ref q5, .ref q13, .ref q21, .ref q23, .ref q26, .ref q28, .ref q30, .ref q32, .ref q34, .ref q36, .ref q38, .ref q40, .null])), (q1, .inr (7, [.ref y3, .int 0, .int 0])), (y3, .inl (y4, 200, .inl (fun _ => 0))), (q5, .inr (8, [.ref y7, .ref y8, .ref y9, .ref y10, .ref y11, .int 0, .int 0, .int 0])), (y9, .inl (y12, 32, .inl (fun _ => 0))), (q13, .inr (8, [.ref y15, .ref y16, .ref y17, .ref y18, .ref y19, .int 0, .int 0, .int 0])), (y17, .inl (y20, 32, .inl (fun _ => 0))), (q21, .inr (4, [.ref q1, .ref q13, .int 0, .int 0, .int 0, .int 0, .int 0])), (q23, .inr (0, [.ref y25, .int 0, .int 0])), (q26, .inl (k27, 2, .inr (.inr (.inr (.inr (fun _ => none)))))), (q42, .inr (2, [.null, .null, .int 0]))] := hD
  have hK : va_K D vwCl [(y4, .byte), (y12, .int), (y20, .int), (k27, .object RX1)] s := hK
  refine W.widen (k := 40) (n := 8840) (Nat.le_of_ble_eq_true rfl) (Nat.le_of_ble_eq_true rfl) ?_
  refine lv_dup hx hb dX9_init_156 rfl ?_
  have hPc := hP.sub (ws' := [(q42, .inr (2, [.null, .null, .int 0]))]) [10] rfl
  have hKc := hK.sub (tys' := []) [] rfl
  have hDc := hD.sub (ws' := [(q42, .inr (2, [.null, .null, .int 0]))]) [10] (by decide) rfl
  have hFc := va_free (wc := [(q42, .inr (2, [.null, .null, .int 0]))]) hD hS hA [10] rfl
  refine va_callv (va_runIN (As := []) (rest := [.ref q42, .ref h0]) ⟨hx, hb, hml, hown, hts⟩ (c_X2_init l D q42 H.size) ⟨va_cnB 0 hts g_X9_init_X2_init rfl rfl rfl hN9_80 (hts (.initialized RX2) (List.mem_of_getElem? (i := 79) rfl)) (by decide +kernel) ⟨Nat.le_of_ble_eq_true rfl, Nat.le_of_ble_eq_true rfl⟩, rfl, (hts (.instanceMethod yX2_init) (List.mem_of_getElem? (i := 80) rfl))⟩ ⟨fun a U g mk q => by obtain ⟨q0, q1, qP, qK, qD, qE0⟩ := q; exact ⟨q0, q1, qP, va_K.moved (u := U) (U := U.calling g mk a) (Vm.Alike.refl U.vm) qK, qD, va_Nw.same rfl rfl qE0⟩, fun U hU hW => ⟨rfl, by rw [hU], by rw [hU]; exact hPc, va_K.moved hW.alike hKc, hDc.weaken (fun _ _ _ _ => trivial), va_Nw.warmM hW hN2_17⟩⟩ rfl rfl hl.1 rfl (lv_room (Nat.le_of_ble_eq_true rfl)) dX9_init_157 ⟨Nat.le_of_ble_eq_true rfl, Nat.le_of_ble_eq_true rfl⟩) hS (fun q _ h => hFc q h) hFc (fun u t H1 locs ht hvm hw hB hz1 hk1 hS => ?_)
  obtain ⟨hP1, hK1, hD1⟩ := hB
  rw [ht] at hP1
  have hK1 := va_K.moved hvm.symm hK1
  obtain ⟨hP, hD⟩ := va_join (wr := [(h0, .inr (9, [.ref q1, .ref q5, .ref q13, .ref q21, .ref q23, .ref q26, .ref q28, .ref q30, .ref q32, .ref q34, .ref q36, .ref q38, .ref q40, .null])), (q1, .inr (7, [.ref y3, .int 0, .int 0])), (y3, .inl (y4, 200, .inl (fun _ => 0))), (q5, .inr (8, [.ref y7, .ref y8, .ref y9, .ref y10, .ref y11, .int 0, .int 0, .int 0])), (y9, .inl (y12, 32, .inl (fun _ => 0))), (q13, .inr (8, [.ref y15, .ref y16, .ref y17, .ref y18, .ref y19, .int 0, .int 0, .int 0])), (y17, .inl (y20, 32, .inl (fun _ => 0))), (q21, .inr (4, [.ref q1, .ref q13, .int 0, .int 0, .int 0, .int 0, .int 0])), (q23, .inr (0, [.ref y25, .int 0, .int 0])), (q26, .inl (k27, 2, .inr (.inr (.inr (.inr (fun _ => none))))))]) (w1 := []) hP hD [10] [0, 1, 2, 3, 4, 5, 6, 7, 8, 9] rfl rfl (by decide) (by decide) hk1 hFc hP1 hD1
  have hK := (hK.sub (tys' := [(y4, .byte), (y12, .int), (y20, .int), (k27, .object RX1)]) [0, 1, 2, 3] rfl).app hK1
  generalize H1 = H at hP hS ⊢
  have hP : va_P D vwCl [(h0, .inr (9, [.ref q1, .ref q5, .ref q13, .ref q21, .ref q23, .ref q26, .ref q28, .ref q30, .ref q32, .ref q34, .ref q36, .ref q38, .ref q40, .null])), (q1, .inr (7, [.ref y3, .int 0, .int 0])), (y3, .inl (y4, 200, .inl (fun _ => 0))), (q5, .inr (8, [.ref y7, .ref y8, .ref y9, .ref y10, .ref y11, .int 0, .int 0, .int 0])), (y9, .inl (y12, 32, .inl (fun _ => 0))), (q13, .inr (8, [.ref y15, .ref y16, .ref y17, .ref y18, .ref y19, .int 0, .int 0, .int 0])), (y17, .inl (y20, 32, .inl (fun _ => 0))), (q21, .inr (4, [.ref q1, .ref q13, .int 0, .int 0, .int 0, .int 0, .int 0])), (q23, .inr (0, [.ref y25, .int 0, .int 0])), (q26, .inl (k27, 2, .inr (.inr (.inr (.inr (fun _ => none))))))] H := hP
  have hD : va_D A [(h0, .inr (9, [.ref q1, .ref q5, .ref q13, .ref q21, .ref q23, .ref q26, .ref q28, .ref q30, .ref q32, .ref q34, .ref q36, .ref q38, .ref q40, .null])), (q1, .inr (7, [.ref y3, .int 0, .int 0])), (y3, .inl (y4, 200, .inl (fun _ => 0))), (q5, .inr (8, [.ref y7, .ref y8, .ref y9, .ref y10, .ref y11, .int 0, .int 0, .int 0])), (y9, .inl (y12, 32, .inl (fun _ => 0))), (q13, .inr (8, [.ref y15, .ref y16, .ref y17, .ref y18, .ref y19, .int 0, .int 0, .int 0])), (y17, .inl (y20, 32, .inl (fun _ => 0))), (q21, .inr (4, [.ref q1, .ref q13, .int 0, .int 0, .int 0, .int 0, .int 0])), (q23, .inr (0, [.ref y25, .int 0, .int 0])), (q26, .inl (k27, 2, .inr (.inr (.inr (.inr (fun _ => none))))))] := hD
  have hK : va_K D vwCl [(y4, .byte), (y12, .int), (y20, .int), (k27, .object RX1)] s := hK
  refine W.widen (k := 42) (n := 9843) (Nat.le_of_ble_eq_true rfl) (Nat.le_of_ble_eq_true rfl) ?_
  refine va_putF (D := D) (ci := 9) (v := .ref q42) (ty := .object "LineCites$NumberSet") (C := RX9) (T := TX9) (N := 14) hx hb hts (fun _ h => List.mem_cons_of_mem _ (List.mem_append_left _ (List.mem_append_left _ (List.mem_append_left _ (List.mem_append_left _ (List.mem_append_left _ (List.mem_append_left _ (List.mem_append_left _ (List.mem_append_right _ h))))))))) tyX9 tyX9_ok nmX9 hown hK hP hD hS 0 rfl rfl 13 (by decide) (hts (.fieldLink RX9 85 "LineCites" "reached" "LLineCites$NumberSet;") (List.mem_of_getElem? (i := 88) rfl)) (fun _ h9 => h9) rfl hin rfl (by decide +kernel) rfl rfl (Nat.le_of_ble_eq_true rfl) dX9_init_160 (fun H locs hP hD hS => ?_)
  have hP : va_P D vwCl [(h0, .inr (9, [.ref q1, .ref q5, .ref q13, .ref q21, .ref q23, .ref q26, .ref q28, .ref q30, .ref q32, .ref q34, .ref q36, .ref q38, .ref q40, .ref q42])), (q1, .inr (7, [.ref y3, .int 0, .int 0])), (y3, .inl (y4, 200, .inl (fun _ => 0))), (q5, .inr (8, [.ref y7, .ref y8, .ref y9, .ref y10, .ref y11, .int 0, .int 0, .int 0])), (y9, .inl (y12, 32, .inl (fun _ => 0))), (q13, .inr (8, [.ref y15, .ref y16, .ref y17, .ref y18, .ref y19, .int 0, .int 0, .int 0])), (y17, .inl (y20, 32, .inl (fun _ => 0))), (q21, .inr (4, [.ref q1, .ref q13, .int 0, .int 0, .int 0, .int 0, .int 0])), (q23, .inr (0, [.ref y25, .int 0, .int 0])), (q26, .inl (k27, 2, .inr (.inr (.inr (.inr (fun _ => none))))))] H := hP
  have hD : va_D A [(h0, .inr (9, [.ref q1, .ref q5, .ref q13, .ref q21, .ref q23, .ref q26, .ref q28, .ref q30, .ref q32, .ref q34, .ref q36, .ref q38, .ref q40, .ref q42])), (q1, .inr (7, [.ref y3, .int 0, .int 0])), (y3, .inl (y4, 200, .inl (fun _ => 0))), (q5, .inr (8, [.ref y7, .ref y8, .ref y9, .ref y10, .ref y11, .int 0, .int 0, .int 0])), (y9, .inl (y12, 32, .inl (fun _ => 0))), (q13, .inr (8, [.ref y15, .ref y16, .ref y17, .ref y18, .ref y19, .int 0, .int 0, .int 0])), (y17, .inl (y20, 32, .inl (fun _ => 0))), (q21, .inr (4, [.ref q1, .ref q13, .int 0, .int 0, .int 0, .int 0, .int 0])), (q23, .inr (0, [.ref y25, .int 0, .int 0])), (q26, .inl (k27, 2, .inr (.inr (.inr (.inr (fun _ => none))))))] := hD
  have hK : va_K D vwCl [(y4, .byte), (y12, .int), (y20, .int), (k27, .object RX1)] s := hK
  have hP9 := hP.sub (ws' := [(h0, .inr (9, [.ref q1, .ref q5, .ref q13, .ref q21, .ref q23, .ref q26, .ref q28, .ref q30, .ref q32, .ref q34, .ref q36, .ref q38, .ref q40, .ref q42])), (q1, .inr (7, [.ref y3, .int 0, .int 0])), (y3, .inl (y4, 200, .inl (fun _ => 0))), (q5, .inr (8, [.ref y7, .ref y8, .ref y9, .ref y10, .ref y11, .int 0, .int 0, .int 0])), (y9, .inl (y12, 32, .inl (fun _ => 0))), (q21, .inr (4, [.ref q1, .ref q13, .int 0, .int 0, .int 0, .int 0, .int 0])), (q23, .inr (0, [.ref y25, .int 0, .int 0])), (q26, .inl (k27, 2, .inr (.inr (.inr (.inr (fun _ => none))))))]) [0, 1, 2, 3, 4, 7, 8, 9] rfl
  have hD9 := hD.sub (ws' := [(h0, .inr (9, [.ref q1, .ref q5, .ref q13, .ref q21, .ref q23, .ref q26, .ref q28, .ref q30, .ref q32, .ref q34, .ref q36, .ref q38, .ref q40, .ref q42])), (q1, .inr (7, [.ref y3, .int 0, .int 0])), (y3, .inl (y4, 200, .inl (fun _ => 0))), (q5, .inr (8, [.ref y7, .ref y8, .ref y9, .ref y10, .ref y11, .int 0, .int 0, .int 0])), (y9, .inl (y12, 32, .inl (fun _ => 0))), (q21, .inr (4, [.ref q1, .ref q13, .int 0, .int 0, .int 0, .int 0, .int 0])), (q23, .inr (0, [.ref y25, .int 0, .int 0])), (q26, .inl (k27, 2, .inr (.inr (.inr (.inr (fun _ => none))))))]) [0, 1, 2, 3, 4, 7, 8, 9] (by decide) rfl
  have hK9 := hK.sub (tys' := [(y4, .byte), (y12, .int), (k27, .object RX1)]) [0, 1, 3] rfl
  refine W.widen (k := 42) (n := 9843) (Nat.le_of_ble_eq_true rfl) (Nat.le_of_ble_eq_true rfl) ?_
  exact W.vret hx hb hr (fun t ht hW => ⟨⟨(), rfl, trivial, q1, q5, q13, q21, q23, q26, q28, q30, q32, q34, q36, q38, q40, q42, y3, y7, y8, y9, y10, y11, y25, y4, y12, k27, by rw [ht]; exact hP9, va_K.moved hW.alike hK9, hD9⟩, hS.F ht⟩) hS.2.2 dX9_init_163
