theorem dX9_isNumber_0 : decode cX9_isNumber 0 = .ok (.iload_n 0, 1) := by decide +kernel
theorem dX9_isNumber_1 : decode cX9_isNumber 1 = .ok (.iconst 1, 1) := by decide +kernel
theorem dX9_isNumber_2 : decode cX9_isNumber 2 = .ok (.if_icmp .lt 14, 3) := by decide +kernel
theorem dX9_isNumber_5 : decode cX9_isNumber 5 = .ok (.iload_n 0, 1) := by decide +kernel
theorem dX9_isNumber_6 : decode cX9_isNumber 6 = .ok (.sipush 999, 3) := by decide +kernel
theorem dX9_isNumber_9 : decode cX9_isNumber 9 = .ok (.if_icmp .gt 7, 3) := by decide +kernel
theorem dX9_isNumber_12 : decode cX9_isNumber 12 = .ok (.iconst 1, 1) := by decide +kernel
theorem dX9_isNumber_13 : decode cX9_isNumber 13 = .ok (.goto 4, 3) := by decide +kernel
theorem dX9_isNumber_16 : decode cX9_isNumber 16 = .ok (.iconst 0, 1) := by decide +kernel
theorem dX9_isNumber_17 : decode cX9_isNumber 17 = .ok (.ireturn, 1) := by decide +kernel
theorem dX9_isOfKind_0 : decode cX9_isOfKind 0 = .ok (.iload_n 1, 1) := by decide +kernel
theorem dX9_isOfKind_1 : decode cX9_isOfKind 1 = .ok (.ifCond .eq 23, 3) := by decide +kernel
theorem dX9_isOfKind_4 : decode cX9_isOfKind 4 = .ok (.iload_n 1, 1) := by decide +kernel
theorem dX9_isOfKind_5 : decode cX9_isOfKind 5 = .ok (.iload_n 0, 1) := by decide +kernel
theorem dX9_isOfKind_6 : decode cX9_isOfKind 6 = .ok (.if_icmp .eq 18, 3) := by decide +kernel
theorem dX9_isOfKind_9 : decode cX9_isOfKind 9 = .ok (.iload_n 1, 1) := by decide +kernel
theorem dX9_isOfKind_10 : decode cX9_isOfKind 10 = .ok (.iconst 1, 1) := by decide +kernel
theorem dX9_isOfKind_11 : decode cX9_isOfKind 11 = .ok (.if_icmp .ne 17, 3) := by decide +kernel
theorem dX9_isOfKind_14 : decode cX9_isOfKind 14 = .ok (.iload_n 0, 1) := by decide +kernel
theorem dX9_isOfKind_15 : decode cX9_isOfKind 15 = .ok (.iconst 2, 1) := by decide +kernel
theorem dX9_isOfKind_16 : decode cX9_isOfKind 16 = .ok (.if_icmp .eq 8, 3) := by decide +kernel
theorem dX9_isOfKind_19 : decode cX9_isOfKind 19 = .ok (.iload_n 0, 1) := by decide +kernel
theorem dX9_isOfKind_20 : decode cX9_isOfKind 20 = .ok (.iconst 3, 1) := by decide +kernel
theorem dX9_isOfKind_21 : decode cX9_isOfKind 21 = .ok (.if_icmp .ne 7, 3) := by decide +kernel
theorem dX9_isOfKind_24 : decode cX9_isOfKind 24 = .ok (.iconst 1, 1) := by decide +kernel
theorem dX9_isOfKind_25 : decode cX9_isOfKind 25 = .ok (.goto 4, 3) := by decide +kernel
theorem dX9_isOfKind_28 : decode cX9_isOfKind 28 = .ok (.iconst 0, 1) := by decide +kernel
theorem dX9_isOfKind_29 : decode cX9_isOfKind 29 = .ok (.ireturn, 1) := by decide +kernel
theorem dX9_lowOf_0 : decode cX9_lowOf 0 = .ok (.iload_n 0, 1) := by decide +kernel
theorem dX9_lowOf_1 : decode cX9_lowOf 1 = .ok (.tableswitch 55 1 4 #[31, 35, 41, 47], 31) := by decide +kernel
theorem dX9_lowOf_32 : decode cX9_lowOf 32 = .ok (.iload_n 2, 1) := by decide +kernel
theorem dX9_lowOf_33 : decode cX9_lowOf 33 = .ok (.iload_n 3, 1) := by decide +kernel
theorem dX9_lowOf_34 : decode cX9_lowOf 34 = .ok (.iadd, 1) := by decide +kernel
theorem dX9_lowOf_35 : decode cX9_lowOf 35 = .ok (.ireturn, 1) := by decide +kernel
theorem dX9_lowOf_36 : decode cX9_lowOf 36 = .ok (.iload_n 2, 1) := by decide +kernel
theorem dX9_lowOf_37 : decode cX9_lowOf 37 = .ok (.iconst 2, 1) := by decide +kernel
theorem dX9_lowOf_38 : decode cX9_lowOf 38 = .ok (.iload_n 3, 1) := by decide +kernel
theorem dX9_lowOf_39 : decode cX9_lowOf 39 = .ok (.imul, 1) := by decide +kernel
theorem dX9_lowOf_40 : decode cX9_lowOf 40 = .ok (.iadd, 1) := by decide +kernel
theorem dX9_lowOf_41 : decode cX9_lowOf 41 = .ok (.ireturn, 1) := by decide +kernel
theorem dX9_lowOf_42 : decode cX9_lowOf 42 = .ok (.iload_n 2, 1) := by decide +kernel
theorem dX9_lowOf_43 : decode cX9_lowOf 43 = .ok (.iload_n 3, 1) := by decide +kernel
theorem dX9_lowOf_44 : decode cX9_lowOf 44 = .ok (.iconst 2, 1) := by decide +kernel
theorem dX9_lowOf_45 : decode cX9_lowOf 45 = .ok (.idiv, 1) := by decide +kernel
theorem dX9_lowOf_46 : decode cX9_lowOf 46 = .ok (.iadd, 1) := by decide +kernel
theorem dX9_lowOf_47 : decode cX9_lowOf 47 = .ok (.ireturn, 1) := by decide +kernel
theorem dX9_lowOf_48 : decode cX9_lowOf 48 = .ok (.iload_n 2, 1) := by decide +kernel
theorem dX9_lowOf_49 : decode cX9_lowOf 49 = .ok (.iload_n 1, 1) := by decide +kernel
theorem dX9_lowOf_50 : decode cX9_lowOf 50 = .ok (.iadd, 1) := by decide +kernel
theorem dX9_lowOf_51 : decode cX9_lowOf 51 = .ok (.iconst 1, 1) := by decide +kernel
theorem dX9_lowOf_52 : decode cX9_lowOf 52 = .ok (.isub, 1) := by decide +kernel
theorem dX9_lowOf_53 : decode cX9_lowOf 53 = .ok (.iload_n 3, 1) := by decide +kernel
theorem dX9_lowOf_54 : decode cX9_lowOf 54 = .ok (.isub, 1) := by decide +kernel
theorem dX9_lowOf_55 : decode cX9_lowOf 55 = .ok (.ireturn, 1) := by decide +kernel
theorem dX9_lowOf_56 : decode cX9_lowOf 56 = .ok (.iload_n 2, 1) := by decide +kernel
theorem dX9_lowOf_57 : decode cX9_lowOf 57 = .ok (.ireturn, 1) := by decide +kernel
theorem dX9_highOf_0 : decode cX9_highOf 0 = .ok (.iload_n 0, 1) := by decide +kernel
theorem dX9_highOf_1 : decode cX9_highOf 1 = .ok (.iload_n 1, 1) := by decide +kernel
theorem dX9_highOf_2 : decode cX9_highOf 2 = .ok (.iload_n 2, 1) := by decide +kernel
theorem dX9_highOf_3 : decode cX9_highOf 3 = .ok (.iload_n 3, 1) := by decide +kernel
theorem dX9_highOf_4 : decode cX9_highOf 4 = .ok (.invokestatic 343, 3) := by decide +kernel
theorem dX9_highOf_7 : decode cX9_highOf 7 = .ok (.istore 4, 2) := by decide +kernel
theorem dX9_highOf_9 : decode cX9_highOf 9 = .ok (.iload_n 0, 1) := by decide +kernel
theorem dX9_highOf_10 : decode cX9_highOf 10 = .ok (.iconst 2, 1) := by decide +kernel
theorem dX9_highOf_11 : decode cX9_highOf 11 = .ok (.if_icmp .ne 10, 3) := by decide +kernel
theorem dX9_highOf_14 : decode cX9_highOf 14 = .ok (.iload 4, 2) := by decide +kernel
theorem dX9_highOf_16 : decode cX9_highOf 16 = .ok (.iconst 1, 1) := by decide +kernel
theorem dX9_highOf_17 : decode cX9_highOf 17 = .ok (.iadd, 1) := by decide +kernel
theorem dX9_highOf_18 : decode cX9_highOf 18 = .ok (.goto 5, 3) := by decide +kernel
theorem dX9_highOf_21 : decode cX9_highOf 21 = .ok (.iload 4, 2) := by decide +kernel
theorem dX9_highOf_23 : decode cX9_highOf 23 = .ok (.ireturn, 1) := by decide +kernel
theorem dX9_greatestOf_0 : decode cX9_greatestOf 0 = .ok (.iload_n 0, 1) := by decide +kernel
theorem dX9_greatestOf_1 : decode cX9_greatestOf 1 = .ok (.iload_n 1, 1) := by decide +kernel
theorem dX9_greatestOf_2 : decode cX9_greatestOf 2 = .ok (.iload_n 2, 1) := by decide +kernel
theorem dX9_greatestOf_3 : decode cX9_greatestOf 3 = .ok (.iload_n 0, 1) := by decide +kernel
theorem dX9_greatestOf_4 : decode cX9_greatestOf 4 = .ok (.iconst 4, 1) := by decide +kernel
theorem dX9_greatestOf_5 : decode cX9_greatestOf 5 = .ok (.if_icmp .ne 7, 3) := by decide +kernel
theorem dX9_greatestOf_8 : decode cX9_greatestOf 8 = .ok (.iconst 0, 1) := by decide +kernel
theorem dX9_greatestOf_9 : decode cX9_greatestOf 9 = .ok (.goto 6, 3) := by decide +kernel
theorem dX9_greatestOf_12 : decode cX9_greatestOf 12 = .ok (.iload_n 1, 1) := by decide +kernel
theorem dX9_greatestOf_13 : decode cX9_greatestOf 13 = .ok (.iconst 1, 1) := by decide +kernel
theorem dX9_greatestOf_14 : decode cX9_greatestOf 14 = .ok (.isub, 1) := by decide +kernel
theorem dX9_greatestOf_15 : decode cX9_greatestOf 15 = .ok (.invokestatic 347, 3) := by decide +kernel
theorem dX9_greatestOf_18 : decode cX9_greatestOf 18 = .ok (.ireturn, 1) := by decide +kernel
def w_X9_isNumber : List Cond := .code yX9_isNumber cX9_isNumber 1 (some .boolean) :: ([])
set_option maxHeartbeats 4000000 in
set_option maxRecDepth 100000 in
theorem c_X9_isNumber (l : Launch) (D : va_G) (i_n : Int32) : Met l yX9_isNumber w_X9_isNumber ({ frames := 0, cells := 0, slots := 0, locals := 0 }) (va_Pc [.int i_n] (fun U => va_P D vwCl [] U.heap ∧ va_K D vwCl [] U)) (va_Qi (fun (r : Int32) (_ : Unit) => (r = 0 ∨ r = 1) ∧ (r.toInt = 0 ∨ (1 ≤ i_n.toInt ∧ i_n.toInt ≤ 999))) (fun _ _ => True) (fun _ => False)) 0 0 (fun _ => False) := by
  refine Met.ofW (cc := cX9_isNumber) (maxL := 1) (ret := (some .boolean)) (by decide) rfl ?_
  intro p e s m args below meth c s₁ B hml hv
  obtain ⟨rfl, hP, hK⟩ := hv
  have hx := B.exec
  have hb := B.bytes
  have hr := B.returns
  have hts := atoms_spec (ws := w_X9_isNumber) B.pre
  have hown : s.vm.findClass RX9 = some m.cls := findClass_of_methodNamed B.named
  have hlocks := B.notSynchronized
  have hS : va_S (fun _ : Nat => False) s.heap s.heap [] := va_S.rf
  have hP : va_P D vwCl [] s.heap := hP
  have hl := lv_entry ([.int i_n]) (n := 1) (Nat.le_of_ble_eq_true rfl)
  rw [lg_entry_eq]
  generalize (lg_sl ([.int i_n]) ++ List.replicate (1 - (lg_sl ([.int i_n])).length) Slot.unset).toArray = ls at hl ⊢
  have hl : lv_has ls 1 [(0, .int i_n)] := hl
  obtain ⟨H, hHe⟩ : ∃ H : Heap, H = s.heap := ⟨_, rfl⟩
  rw [← hHe] at hP
  have hS : va_S (fun _ : Nat => False) s.heap H [] := by rw [hHe]; exact hS
  refine pw_heap hHe ?_
  refine lv_iload_n hx hb dX9_isNumber_0 rfl (lv_at hl 0 rfl) ?_
  refine lv_iconst (v := 1) hx hb dX9_isNumber_1 (by decide) ?_
  refine lv_icmp_lt (tgt := 16) hx hb dX9_isNumber_2 (by decide) (fun c1 => ?_) (fun c1 => ?_)
  · have nc1 : i_n.toInt < 1 := pw_lt c1 rfl (by decide)
    refine lv_iconst (v := 0) hx hb dX9_isNumber_16 (by decide) ?_
    exact W.zret (v := 0) (ty := .boolean) hx hb hr rfl (fun t ht hW => ⟨⟨0, (), rfl, ⟨Or.inl rfl, (by have hv : (0 : Int32).toInt = 0 := (by decide); omega)⟩, trivial⟩, hS.F ht⟩) hS.2.2 dX9_isNumber_17
  · have nc1 : 1 ≤ i_n.toInt := pw_nlt c1 rfl (by decide)
    refine lv_iload_n hx hb dX9_isNumber_5 rfl (lv_at hl 0 rfl) ?_
    refine lv_sipush (v := 999) hx hb dX9_isNumber_6 (by decide) ?_
    refine lv_icmp_gt (tgt := 16) hx hb dX9_isNumber_9 (by decide) (fun c2 => ?_) (fun c2 => ?_)
    · have nc2 : 999 < i_n.toInt := pw_lt c2 (by decide) rfl
      refine lv_iconst (v := 0) hx hb dX9_isNumber_16 (by decide) ?_
      exact W.zret (v := 0) (ty := .boolean) hx hb hr rfl (fun t ht hW => ⟨⟨0, (), rfl, ⟨Or.inl rfl, (by have hv : (0 : Int32).toInt = 0 := (by decide); omega)⟩, trivial⟩, hS.F ht⟩) hS.2.2 dX9_isNumber_17
    · have nc2 : i_n.toInt ≤ 999 := pw_nlt c2 (by decide) rfl
      refine lv_iconst (v := 1) hx hb dX9_isNumber_12 (by decide) ?_
      refine lv_goto (tgt := 17) hx hb dX9_isNumber_13 (by decide) ?_
      exact W.zret (v := 1) (ty := .boolean) hx hb hr rfl (fun t ht hW => ⟨⟨1, (), rfl, ⟨Or.inr rfl, (by have hv : (1 : Int32).toInt = 1 := (by decide); omega)⟩, trivial⟩, hS.F ht⟩) hS.2.2 dX9_isNumber_17
def w_X9_isOfKind : List Cond := .code yX9_isOfKind cX9_isOfKind 2 (some .boolean) :: ([])
set_option maxHeartbeats 4000000 in
set_option maxRecDepth 100000 in
theorem c_X9_isOfKind (l : Launch) (D : va_G) (i_o : Int32) (i_k : Int32) : Met l yX9_isOfKind w_X9_isOfKind ({ frames := 0, cells := 0, slots := 0, locals := 0 }) (va_Pc [.int i_o, .int i_k] (fun U => va_P D vwCl [] U.heap ∧ va_K D vwCl [] U)) (va_Qi (fun (r : Int32) (_ : Unit) => (r = 0 ∨ r = 1) ∧ True) (fun _ _ => True) (fun _ => False)) 0 0 (fun _ => False) := by
  refine Met.ofW (cc := cX9_isOfKind) (maxL := 2) (ret := (some .boolean)) (by decide) rfl ?_
  intro p e s m args below meth c s₁ B hml hv
  obtain ⟨rfl, hP, hK⟩ := hv
  have hx := B.exec
  have hb := B.bytes
  have hr := B.returns
  have hts := atoms_spec (ws := w_X9_isOfKind) B.pre
  have hown : s.vm.findClass RX9 = some m.cls := findClass_of_methodNamed B.named
  have hlocks := B.notSynchronized
  have hS : va_S (fun _ : Nat => False) s.heap s.heap [] := va_S.rf
  have hP : va_P D vwCl [] s.heap := hP
  have hl := lv_entry ([.int i_o, .int i_k]) (n := 2) (Nat.le_of_ble_eq_true rfl)
  rw [lg_entry_eq]
  generalize (lg_sl ([.int i_o, .int i_k]) ++ List.replicate (2 - (lg_sl ([.int i_o, .int i_k])).length) Slot.unset).toArray = ls at hl ⊢
  have hl : lv_has ls 2 [(0, .int i_o), (1, .int i_k)] := hl
  obtain ⟨H, hHe⟩ : ∃ H : Heap, H = s.heap := ⟨_, rfl⟩
  rw [← hHe] at hP
  have hS : va_S (fun _ : Nat => False) s.heap H [] := by rw [hHe]; exact hS
  refine pw_heap hHe ?_
  refine lv_iload_n hx hb dX9_isOfKind_0 rfl (lv_at hl 1 rfl) ?_
  refine lv_if_eq (tgt := 24) hx hb dX9_isOfKind_1 (by decide) (fun c1 => ?_) (fun c1 => ?_)
  · have nc1 : i_k.toInt = 0 := pw_eq c1 rfl (by decide)
    refine lv_iconst (v := 1) hx hb dX9_isOfKind_24 (by decide) ?_
    refine lv_goto (tgt := 29) hx hb dX9_isOfKind_25 (by decide) ?_
    exact W.zret (v := 1) (ty := .boolean) hx hb hr rfl (fun t ht hW => ⟨⟨1, (), rfl, ⟨Or.inr rfl, trivial⟩, trivial⟩, hS.F ht⟩) hS.2.2 dX9_isOfKind_29
  · have nc1 : i_k.toInt ≠ 0 := pw_ne c1 rfl (by decide)
    refine lv_iload_n hx hb dX9_isOfKind_4 rfl (lv_at hl 1 rfl) ?_
    refine lv_iload_n hx hb dX9_isOfKind_5 rfl (lv_at hl 0 rfl) ?_
    refine lv_icmp_eq (tgt := 24) hx hb dX9_isOfKind_6 (by decide) (fun c2 => ?_) (fun c2 => ?_)
    · have nc2 : i_k.toInt = i_o.toInt := pw_eq c2 rfl rfl
      have mc2i_k := pw_max i_k
      have mc2i_o := pw_max i_o
      refine lv_iconst (v := 1) hx hb dX9_isOfKind_24 (by decide) ?_
      refine lv_goto (tgt := 29) hx hb dX9_isOfKind_25 (by decide) ?_
      exact W.zret (v := 1) (ty := .boolean) hx hb hr rfl (fun t ht hW => ⟨⟨1, (), rfl, ⟨Or.inr rfl, trivial⟩, trivial⟩, hS.F ht⟩) hS.2.2 dX9_isOfKind_29
    · have nc2 : i_k.toInt ≠ i_o.toInt := pw_ne c2 rfl rfl
      have mc2i_k := pw_max i_k
      have mc2i_o := pw_max i_o
      refine lv_iload_n hx hb dX9_isOfKind_9 rfl (lv_at hl 1 rfl) ?_
      refine lv_iconst (v := 1) hx hb dX9_isOfKind_10 (by decide) ?_
      refine lv_icmp_ne (tgt := 28) hx hb dX9_isOfKind_11 (by decide) (fun c3 => ?_) (fun c3 => ?_)
      · have nc3 : i_k.toInt ≠ 1 := pw_ne c3 rfl (by decide)
        refine lv_iconst (v := 0) hx hb dX9_isOfKind_28 (by decide) ?_
        exact W.zret (v := 0) (ty := .boolean) hx hb hr rfl (fun t ht hW => ⟨⟨0, (), rfl, ⟨Or.inl rfl, trivial⟩, trivial⟩, hS.F ht⟩) hS.2.2 dX9_isOfKind_29
      · have nc3 : i_k.toInt = 1 := pw_eq c3 rfl (by decide)
        refine lv_iload_n hx hb dX9_isOfKind_14 rfl (lv_at hl 0 rfl) ?_
        refine lv_iconst (v := 2) hx hb dX9_isOfKind_15 (by decide) ?_
        refine lv_icmp_eq (tgt := 24) hx hb dX9_isOfKind_16 (by decide) (fun c4 => ?_) (fun c4 => ?_)
        · have nc4 : i_o.toInt = 2 := pw_eq c4 rfl (by decide)
          refine lv_iconst (v := 1) hx hb dX9_isOfKind_24 (by decide) ?_
          refine lv_goto (tgt := 29) hx hb dX9_isOfKind_25 (by decide) ?_
          exact W.zret (v := 1) (ty := .boolean) hx hb hr rfl (fun t ht hW => ⟨⟨1, (), rfl, ⟨Or.inr rfl, trivial⟩, trivial⟩, hS.F ht⟩) hS.2.2 dX9_isOfKind_29
        · have nc4 : i_o.toInt ≠ 2 := pw_ne c4 rfl (by decide)
          refine lv_iload_n hx hb dX9_isOfKind_19 rfl (lv_at hl 0 rfl) ?_
          refine lv_iconst (v := 3) hx hb dX9_isOfKind_20 (by decide) ?_
          refine lv_icmp_ne (tgt := 28) hx hb dX9_isOfKind_21 (by decide) (fun c5 => ?_) (fun c5 => ?_)
          · have nc5 : i_o.toInt ≠ 3 := pw_ne c5 rfl (by decide)
            refine lv_iconst (v := 0) hx hb dX9_isOfKind_28 (by decide) ?_
            exact W.zret (v := 0) (ty := .boolean) hx hb hr rfl (fun t ht hW => ⟨⟨0, (), rfl, ⟨Or.inl rfl, trivial⟩, trivial⟩, hS.F ht⟩) hS.2.2 dX9_isOfKind_29
          · have nc5 : i_o.toInt = 3 := pw_eq c5 rfl (by decide)
            refine lv_iconst (v := 1) hx hb dX9_isOfKind_24 (by decide) ?_
            refine lv_goto (tgt := 29) hx hb dX9_isOfKind_25 (by decide) ?_
            exact W.zret (v := 1) (ty := .boolean) hx hb hr rfl (fun t ht hW => ⟨⟨1, (), rfl, ⟨Or.inr rfl, trivial⟩, trivial⟩, hS.F ht⟩) hS.2.2 dX9_isOfKind_29
def w_X9_lowOf : List Cond := .code yX9_lowOf cX9_lowOf 4 (some .int) :: ([])
set_option maxHeartbeats 4000000 in
set_option maxRecDepth 100000 in
theorem c_X9_lowOf (l : Launch) (D : va_G) (i_k : Int32) (i_m : Int32) (i_f : Int32) (i_i : Int32) (h0i_f : 0 ≤ i_f.toInt) (h1i_f : i_f.toInt ≤ 999) (h0i_m : 0 ≤ i_m.toInt) (h1i_m : i_m.toInt ≤ 999) (h0i_i : 0 ≤ i_i.toInt) (h1i_i : i_i.toInt < i_m.toInt) : Met l yX9_lowOf w_X9_lowOf ({ frames := 0, cells := 0, slots := 0, locals := 0 }) (va_Pc [.int i_k, .int i_m, .int i_f, .int i_i] (fun U => va_P D vwCl [] U.heap ∧ va_K D vwCl [] U)) (va_Qi (fun (r : Int32) (_ : Unit) => 0 ≤ r.toInt ∧ r.toInt ≤ 2995) (fun _ _ => True) (fun _ => False)) 0 0 (fun _ => False) := by
  refine Met.ofW (cc := cX9_lowOf) (maxL := 4) (ret := (some .int)) (by decide) rfl ?_
  intro p e s m args below meth c s₁ B hml hv
  obtain ⟨rfl, hP, hK⟩ := hv
  have hx := B.exec
  have hb := B.bytes
  have hr := B.returns
  have hts := atoms_spec (ws := w_X9_lowOf) B.pre
  have hown : s.vm.findClass RX9 = some m.cls := findClass_of_methodNamed B.named
  have hlocks := B.notSynchronized
  have hS : va_S (fun _ : Nat => False) s.heap s.heap [] := va_S.rf
  have hP : va_P D vwCl [] s.heap := hP
  have hl := lv_entry ([.int i_k, .int i_m, .int i_f, .int i_i]) (n := 4) (Nat.le_of_ble_eq_true rfl)
  rw [lg_entry_eq]
  generalize (lg_sl ([.int i_k, .int i_m, .int i_f, .int i_i]) ++ List.replicate (4 - (lg_sl ([.int i_k, .int i_m, .int i_f, .int i_i])).length) Slot.unset).toArray = ls at hl ⊢
  have hl : lv_has ls 4 [(0, .int i_k), (1, .int i_m), (2, .int i_f), (3, .int i_i)] := hl
  obtain ⟨H, hHe⟩ : ∃ H : Heap, H = s.heap := ⟨_, rfl⟩
  rw [← hHe] at hP
  have hS : va_S (fun _ : Nat => False) s.heap H [] := by rw [hHe]; exact hS
  refine pw_heap hHe ?_
  refine lv_iload_n hx hb dX9_lowOf_0 rfl (lv_at hl 0 rfl) ?_
  rcases pw_swr_1_4 i_k with h8 | rfl | rfl | rfl | rfl
  · refine lv_tableOut (tgt := 56) hx hb dX9_lowOf_1 h8 (by decide) ?_
    refine lv_iload_n hx hb dX9_lowOf_56 rfl (lv_at hl 2 rfl) ?_
    exact W.iret (v := i_f) hx hb hr (fun t ht hW => ⟨⟨i_f, (), rfl, (by omega), trivial⟩, hS.F ht⟩) hS.2.2 dX9_lowOf_57
  · refine lv_tableIn (tgt := 32) hx hb dX9_lowOf_1 (by decide) (by decide) rfl (by decide) ?_
    refine lv_iload_n hx hb dX9_lowOf_32 rfl (lv_at hl 2 rfl) ?_
    refine lv_iload_n hx hb dX9_lowOf_33 rfl (lv_at hl 3 rfl) ?_
    refine lv_iadd hx hb dX9_lowOf_34 ?_
    refine lv_topi (fun x1 ex1 => ?_)
    have tx1 : x1.toInt = i_f.toInt + i_i.toInt := pw_addX ex1 rfl rfl (by omega) (by omega)
    exact W.iret (v := x1) hx hb hr (fun t ht hW => ⟨⟨x1, (), rfl, (by omega), trivial⟩, hS.F ht⟩) hS.2.2 dX9_lowOf_35
  · refine lv_tableIn (tgt := 36) hx hb dX9_lowOf_1 (by decide) (by decide) rfl (by decide) ?_
    refine lv_iload_n hx hb dX9_lowOf_36 rfl (lv_at hl 2 rfl) ?_
    refine lv_iconst (v := 2) hx hb dX9_lowOf_37 (by decide) ?_
    refine lv_iload_n hx hb dX9_lowOf_38 rfl (lv_at hl 3 rfl) ?_
    refine lv_imul hx hb dX9_lowOf_39 ?_
    refine lv_topi (fun x2 ex2 => ?_)
    have tx2 : x2.toInt = 2 * i_i.toInt := pw_mulX ex2 (by decide) rfl (by omega) (by omega)
    refine lv_iadd hx hb dX9_lowOf_40 ?_
    refine lv_topi (fun x3 ex3 => ?_)
    have tx3 : x3.toInt = i_f.toInt + x2.toInt := pw_addX ex3 rfl rfl (by omega) (by omega)
    exact W.iret (v := x3) hx hb hr (fun t ht hW => ⟨⟨x3, (), rfl, (by omega), trivial⟩, hS.F ht⟩) hS.2.2 dX9_lowOf_41
  · refine lv_tableIn (tgt := 42) hx hb dX9_lowOf_1 (by decide) (by decide) rfl (by decide) ?_
    refine lv_iload_n hx hb dX9_lowOf_42 rfl (lv_at hl 2 rfl) ?_
    refine lv_iload_n hx hb dX9_lowOf_43 rfl (lv_at hl 3 rfl) ?_
    refine lv_iconst (v := 2) hx hb dX9_lowOf_44 (by decide) ?_
    refine lv_idiv hx hb dX9_lowOf_45 (by decide) ?_
    refine lv_topi (fun x4 ex4 => ?_)
    have tx4 : 0 ≤ x4.toInt ∧ 2 * x4.toInt ≤ i_i.toInt := pw_half ex4 (by omega)
    refine lv_iadd hx hb dX9_lowOf_46 ?_
    refine lv_topi (fun x5 ex5 => ?_)
    have tx5 : x5.toInt = i_f.toInt + x4.toInt := pw_addX ex5 rfl rfl (by omega) (by omega)
    exact W.iret (v := x5) hx hb hr (fun t ht hW => ⟨⟨x5, (), rfl, (by omega), trivial⟩, hS.F ht⟩) hS.2.2 dX9_lowOf_47
  · refine lv_tableIn (tgt := 48) hx hb dX9_lowOf_1 (by decide) (by decide) rfl (by decide) ?_
    refine lv_iload_n hx hb dX9_lowOf_48 rfl (lv_at hl 2 rfl) ?_
    refine lv_iload_n hx hb dX9_lowOf_49 rfl (lv_at hl 1 rfl) ?_
    refine lv_iadd hx hb dX9_lowOf_50 ?_
    refine lv_topi (fun x6 ex6 => ?_)
    have tx6 : x6.toInt = i_f.toInt + i_m.toInt := pw_addX ex6 rfl rfl (by omega) (by omega)
    refine lv_iconst (v := 1) hx hb dX9_lowOf_51 (by decide) ?_
    refine lv_isub hx hb dX9_lowOf_52 ?_
    refine lv_topi (fun x7 ex7 => ?_)
    have tx7 : x7.toInt = x6.toInt - 1 := pw_subX ex7 rfl (by decide) (by omega) (by omega)
    refine lv_iload_n hx hb dX9_lowOf_53 rfl (lv_at hl 3 rfl) ?_
    refine lv_isub hx hb dX9_lowOf_54 ?_
    refine lv_topi (fun x8 ex8 => ?_)
    have tx8 : x8.toInt = x7.toInt - i_i.toInt := pw_subX ex8 rfl rfl (by omega) (by omega)
    exact W.iret (v := x8) hx hb hr (fun t ht hW => ⟨⟨x8, (), rfl, (by omega), trivial⟩, hS.F ht⟩) hS.2.2 dX9_lowOf_55
def w_X9_highOf : List Cond := .code yX9_highOf cX9_highOf 5 (some .int) :: ([.methodLink RX9 343 yX9_lowOf, .static yX9_lowOf, .initialized RX9, .code yX9_lowOf cX9_lowOf 4 (some .int)])
set_option maxRecDepth 20000 in
theorem g_X9_highOf_X9_lowOf : GoodIn w_X9_highOf (wsS RX9 343 yX9_lowOf w_X9_lowOf) := goodIn_r _ [1, 2, 3, 4] rfl (by decide +kernel)
set_option maxHeartbeats 4000000 in
set_option maxRecDepth 100000 in
theorem c_X9_highOf (l : Launch) (D : va_G) (i_k : Int32) (i_m : Int32) (i_f : Int32) (i_i : Int32) (h0i_f : 0 ≤ i_f.toInt) (h1i_f : i_f.toInt ≤ 999) (h0i_m : 0 ≤ i_m.toInt) (h1i_m : i_m.toInt ≤ 999) (h0i_i : 0 ≤ i_i.toInt) (h1i_i : i_i.toInt < i_m.toInt) : Met l yX9_highOf w_X9_highOf ({ frames := 1, cells := 0, slots := 0, locals := 23 }) (va_Pc [.int i_k, .int i_m, .int i_f, .int i_i] (fun U => va_P D vwCl [] U.heap ∧ va_K D vwCl [] U)) (va_Qi (fun (r : Int32) (_ : Unit) => 0 ≤ r.toInt ∧ r.toInt ≤ 3000) (fun _ _ => True) (fun _ => False)) 0 0 (fun _ => False) := by
  refine Met.ofW (cc := cX9_highOf) (maxL := 5) (ret := (some .int)) (by decide) rfl ?_
  intro p e s m args below meth c s₁ B hml hv
  obtain ⟨rfl, hP, hK⟩ := hv
  have hx := B.exec
  have hb := B.bytes
  have hr := B.returns
  have hts := atoms_spec (ws := w_X9_highOf) B.pre
  have hown : s.vm.findClass RX9 = some m.cls := findClass_of_methodNamed B.named
  have hlocks := B.notSynchronized
  have hS : va_S (fun _ : Nat => False) s.heap s.heap [] := va_S.rf
  have hP : va_P D vwCl [] s.heap := hP
  have hl := lv_entry ([.int i_k, .int i_m, .int i_f, .int i_i]) (n := 5) (Nat.le_of_ble_eq_true rfl)
  rw [lg_entry_eq]
  generalize (lg_sl ([.int i_k, .int i_m, .int i_f, .int i_i]) ++ List.replicate (5 - (lg_sl ([.int i_k, .int i_m, .int i_f, .int i_i])).length) Slot.unset).toArray = ls at hl ⊢
  have hl : lv_has ls 5 [(0, .int i_k), (1, .int i_m), (2, .int i_f), (3, .int i_i)] := hl
  obtain ⟨H, hHe⟩ : ∃ H : Heap, H = s.heap := ⟨_, rfl⟩
  rw [← hHe] at hP
  have hS : va_S (fun _ : Nat => False) s.heap H [] := by rw [hHe]; exact hS
  refine pw_heap hHe ?_
  refine lv_iload_n hx hb dX9_highOf_0 rfl (lv_at hl 0 rfl) ?_
  refine lv_iload_n hx hb dX9_highOf_1 rfl (lv_at hl 1 rfl) ?_
  refine lv_iload_n hx hb dX9_highOf_2 rfl (lv_at hl 2 rfl) ?_
  refine lv_iload_n hx hb dX9_highOf_3 rfl (lv_at hl 3 rfl) ?_
  have hPc := hP.sub (ws' := []) [] rfl
  have hKc := hK.sub (tys' := []) [] rfl
  refine va_calli (va_runS (As := [.int i_k, .int i_m, .int i_f, .int i_i]) (rest := []) ⟨hx, hb, hml, hown, hts⟩ (c_X9_lowOf l D i_k i_m i_f i_i (by first | decide | omega) (by first | decide | omega) (by first | decide | omega) (by first | decide | omega) (by first | decide | omega) (by first | decide | omega)) (cwS 4 hts g_X9_highOf_X9_lowOf rfl rfl rfl (by decide +kernel) ⟨Nat.le_of_ble_eq_true rfl, Nat.le_of_ble_eq_true rfl⟩) ⟨fun a U g mk q => by obtain ⟨q0, qP, qK⟩ := q; exact ⟨q0, qP, va_K.moved (u := U) (U := U.calling g mk a) (Vm.Alike.refl U.vm) qK⟩, fun U hU hW => ⟨rfl, by rw [hU]; exact hPc, va_K.moved hW.alike hKc⟩⟩ rfl rfl hl.1 rfl (lv_room (Nat.le_of_ble_eq_true rfl)) dX9_highOf_4 ⟨Nat.le_of_ble_eq_true rfl, Nat.le_of_ble_eq_true rfl⟩) hS (fun _ _ h => h.elim) (fun _ h => h.elim) (fun r1 u t H1 locs ht hvm hw hB hz1 hk1 hS => ?_)
  have hP := pw_keep hP (fun q hq => hk1 q hq (fun h => h))
  generalize H1 = H at hP hS ⊢
  refine W.widen (k := 0) (n := 0) (Nat.le_of_ble_eq_true rfl) (Nat.le_of_ble_eq_true rfl) ?_
  have hfr1 := hw
  refine lv_istore (lv' := [(4, .int r1), (0, .int i_k), (1, .int i_m), (2, .int i_f), (3, .int i_i)]) hx hb dX9_highOf_7 hl (by decide) rfl (fun ls hl => ?_)
  refine lv_iload_n hx hb dX9_highOf_9 rfl (lv_at hl 1 rfl) ?_
  refine lv_iconst (v := 2) hx hb dX9_highOf_10 (by decide) ?_
  refine lv_icmp_ne (tgt := 21) hx hb dX9_highOf_11 (by decide) (fun c2 => ?_) (fun c2 => ?_)
  · have nc2 : i_k.toInt ≠ 2 := pw_ne c2 rfl (by decide)
    refine lv_iload hx hb dX9_highOf_21 (lv_at hl 0 rfl) ?_
    exact W.iret (v := r1) hx hb hr (fun t ht hW => ⟨⟨r1, (), rfl, (by omega), trivial⟩, hS.F ht⟩) hS.2.2 dX9_highOf_23
  · have nc2 : i_k.toInt = 2 := pw_eq c2 rfl (by decide)
    refine lv_iload hx hb dX9_highOf_14 (lv_at hl 0 rfl) ?_
    refine lv_iconst (v := 1) hx hb dX9_highOf_16 (by decide) ?_
    refine lv_iadd hx hb dX9_highOf_17 ?_
    refine lv_topi (fun x3 ex3 => ?_)
    have tx3 : x3.toInt = r1.toInt + 1 := pw_addX ex3 rfl (by decide) (by omega) (by omega)
    refine lv_goto (tgt := 23) hx hb dX9_highOf_18 (by decide) ?_
    exact W.iret (v := x3) hx hb hr (fun t ht hW => ⟨⟨x3, (), rfl, (by omega), trivial⟩, hS.F ht⟩) hS.2.2 dX9_highOf_23
def w_X9_lowOf__a : List Cond := .code yX9_lowOf cX9_lowOf 4 (some .int) :: ([])
set_option maxHeartbeats 4000000 in
set_option maxRecDepth 100000 in
theorem c_X9_lowOf__a (l : Launch) (D : va_G) (i_k : Int32) (i_m : Int32) (i_f : Int32) (i_i : Int32) : Met l yX9_lowOf w_X9_lowOf__a ({ frames := 0, cells := 0, slots := 0, locals := 0 }) (va_Pc [.int i_k, .int i_m, .int i_f, .int i_i] (fun U => va_P D vwCl [] U.heap ∧ va_K D vwCl [] U)) (va_Qi (fun (r : Int32) (_ : Unit) => True) (fun _ _ => True) (fun _ => False)) 0 0 (fun _ => False) := by
  refine Met.ofW (cc := cX9_lowOf) (maxL := 4) (ret := (some .int)) (by decide) rfl ?_
  intro p e s m args below meth c s₁ B hml hv
  obtain ⟨rfl, hP, hK⟩ := hv
  have hx := B.exec
  have hb := B.bytes
  have hr := B.returns
  have hts := atoms_spec (ws := w_X9_lowOf__a) B.pre
  have hown : s.vm.findClass RX9 = some m.cls := findClass_of_methodNamed B.named
  have hlocks := B.notSynchronized
  have hS : va_S (fun _ : Nat => False) s.heap s.heap [] := va_S.rf
  have hP : va_P D vwCl [] s.heap := hP
  have hl := lv_entry ([.int i_k, .int i_m, .int i_f, .int i_i]) (n := 4) (Nat.le_of_ble_eq_true rfl)
  rw [lg_entry_eq]
  generalize (lg_sl ([.int i_k, .int i_m, .int i_f, .int i_i]) ++ List.replicate (4 - (lg_sl ([.int i_k, .int i_m, .int i_f, .int i_i])).length) Slot.unset).toArray = ls at hl ⊢
  have hl : lv_has ls 4 [(0, .int i_k), (1, .int i_m), (2, .int i_f), (3, .int i_i)] := hl
  obtain ⟨H, hHe⟩ : ∃ H : Heap, H = s.heap := ⟨_, rfl⟩
  rw [← hHe] at hP
  have hS : va_S (fun _ : Nat => False) s.heap H [] := by rw [hHe]; exact hS
  refine pw_heap hHe ?_
  refine lv_iload_n hx hb dX9_lowOf_0 rfl (lv_at hl 0 rfl) ?_
  rcases pw_swr_1_4 i_k with h8 | rfl | rfl | rfl | rfl
  · refine lv_tableOut (tgt := 56) hx hb dX9_lowOf_1 h8 (by decide) ?_
    refine lv_iload_n hx hb dX9_lowOf_56 rfl (lv_at hl 2 rfl) ?_
    exact W.iret (v := i_f) hx hb hr (fun t ht hW => ⟨⟨i_f, (), rfl, trivial, trivial⟩, hS.F ht⟩) hS.2.2 dX9_lowOf_57
  · refine lv_tableIn (tgt := 32) hx hb dX9_lowOf_1 (by decide) (by decide) rfl (by decide) ?_
    refine lv_iload_n hx hb dX9_lowOf_32 rfl (lv_at hl 2 rfl) ?_
    refine lv_iload_n hx hb dX9_lowOf_33 rfl (lv_at hl 3 rfl) ?_
    refine lv_iadd hx hb dX9_lowOf_34 ?_
    refine lv_topi (fun x1 ex1 => ?_)
    exact W.iret (v := x1) hx hb hr (fun t ht hW => ⟨⟨x1, (), rfl, trivial, trivial⟩, hS.F ht⟩) hS.2.2 dX9_lowOf_35
  · refine lv_tableIn (tgt := 36) hx hb dX9_lowOf_1 (by decide) (by decide) rfl (by decide) ?_
    refine lv_iload_n hx hb dX9_lowOf_36 rfl (lv_at hl 2 rfl) ?_
    refine lv_iconst (v := 2) hx hb dX9_lowOf_37 (by decide) ?_
    refine lv_iload_n hx hb dX9_lowOf_38 rfl (lv_at hl 3 rfl) ?_
    refine lv_imul hx hb dX9_lowOf_39 ?_
    refine lv_topi (fun x2 ex2 => ?_)
    refine lv_iadd hx hb dX9_lowOf_40 ?_
    refine lv_topi (fun x3 ex3 => ?_)
    exact W.iret (v := x3) hx hb hr (fun t ht hW => ⟨⟨x3, (), rfl, trivial, trivial⟩, hS.F ht⟩) hS.2.2 dX9_lowOf_41
  · refine lv_tableIn (tgt := 42) hx hb dX9_lowOf_1 (by decide) (by decide) rfl (by decide) ?_
    refine lv_iload_n hx hb dX9_lowOf_42 rfl (lv_at hl 2 rfl) ?_
    refine lv_iload_n hx hb dX9_lowOf_43 rfl (lv_at hl 3 rfl) ?_
    refine lv_iconst (v := 2) hx hb dX9_lowOf_44 (by decide) ?_
    refine lv_idiv hx hb dX9_lowOf_45 (by decide) ?_
    refine lv_topi (fun x4 ex4 => ?_)
    refine lv_iadd hx hb dX9_lowOf_46 ?_
    refine lv_topi (fun x5 ex5 => ?_)
    exact W.iret (v := x5) hx hb hr (fun t ht hW => ⟨⟨x5, (), rfl, trivial, trivial⟩, hS.F ht⟩) hS.2.2 dX9_lowOf_47
  · refine lv_tableIn (tgt := 48) hx hb dX9_lowOf_1 (by decide) (by decide) rfl (by decide) ?_
    refine lv_iload_n hx hb dX9_lowOf_48 rfl (lv_at hl 2 rfl) ?_
    refine lv_iload_n hx hb dX9_lowOf_49 rfl (lv_at hl 1 rfl) ?_
    refine lv_iadd hx hb dX9_lowOf_50 ?_
    refine lv_topi (fun x6 ex6 => ?_)
    refine lv_iconst (v := 1) hx hb dX9_lowOf_51 (by decide) ?_
    refine lv_isub hx hb dX9_lowOf_52 ?_
    refine lv_topi (fun x7 ex7 => ?_)
    refine lv_iload_n hx hb dX9_lowOf_53 rfl (lv_at hl 3 rfl) ?_
    refine lv_isub hx hb dX9_lowOf_54 ?_
    refine lv_topi (fun x8 ex8 => ?_)
    exact W.iret (v := x8) hx hb hr (fun t ht hW => ⟨⟨x8, (), rfl, trivial, trivial⟩, hS.F ht⟩) hS.2.2 dX9_lowOf_55
def w_X9_highOf__a : List Cond := .code yX9_highOf cX9_highOf 5 (some .int) :: ([.methodLink RX9 343 yX9_lowOf, .static yX9_lowOf, .initialized RX9, .code yX9_lowOf cX9_lowOf 4 (some .int)])
set_option maxRecDepth 20000 in
theorem g_X9_highOf__a_X9_lowOf__a : GoodIn w_X9_highOf__a (wsS RX9 343 yX9_lowOf w_X9_lowOf__a) := goodIn_r _ [1, 2, 3, 4] rfl (by decide +kernel)
set_option maxHeartbeats 4000000 in
set_option maxRecDepth 100000 in
theorem c_X9_highOf__a (l : Launch) (D : va_G) (i_k : Int32) (i_m : Int32) (i_f : Int32) (i_i : Int32) : Met l yX9_highOf w_X9_highOf__a ({ frames := 1, cells := 0, slots := 0, locals := 23 }) (va_Pc [.int i_k, .int i_m, .int i_f, .int i_i] (fun U => va_P D vwCl [] U.heap ∧ va_K D vwCl [] U)) (va_Qi (fun (r : Int32) (_ : Unit) => True) (fun _ _ => True) (fun _ => False)) 0 0 (fun _ => False) := by
  refine Met.ofW (cc := cX9_highOf) (maxL := 5) (ret := (some .int)) (by decide) rfl ?_
  intro p e s m args below meth c s₁ B hml hv
  obtain ⟨rfl, hP, hK⟩ := hv
  have hx := B.exec
  have hb := B.bytes
  have hr := B.returns
  have hts := atoms_spec (ws := w_X9_highOf__a) B.pre
  have hown : s.vm.findClass RX9 = some m.cls := findClass_of_methodNamed B.named
  have hlocks := B.notSynchronized
  have hS : va_S (fun _ : Nat => False) s.heap s.heap [] := va_S.rf
  have hP : va_P D vwCl [] s.heap := hP
  have hl := lv_entry ([.int i_k, .int i_m, .int i_f, .int i_i]) (n := 5) (Nat.le_of_ble_eq_true rfl)
  rw [lg_entry_eq]
  generalize (lg_sl ([.int i_k, .int i_m, .int i_f, .int i_i]) ++ List.replicate (5 - (lg_sl ([.int i_k, .int i_m, .int i_f, .int i_i])).length) Slot.unset).toArray = ls at hl ⊢
  have hl : lv_has ls 5 [(0, .int i_k), (1, .int i_m), (2, .int i_f), (3, .int i_i)] := hl
  obtain ⟨H, hHe⟩ : ∃ H : Heap, H = s.heap := ⟨_, rfl⟩
  rw [← hHe] at hP
  have hS : va_S (fun _ : Nat => False) s.heap H [] := by rw [hHe]; exact hS
  refine pw_heap hHe ?_
  refine lv_iload_n hx hb dX9_highOf_0 rfl (lv_at hl 0 rfl) ?_
  refine lv_iload_n hx hb dX9_highOf_1 rfl (lv_at hl 1 rfl) ?_
  refine lv_iload_n hx hb dX9_highOf_2 rfl (lv_at hl 2 rfl) ?_
  refine lv_iload_n hx hb dX9_highOf_3 rfl (lv_at hl 3 rfl) ?_
  have hPc := hP.sub (ws' := []) [] rfl
  have hKc := hK.sub (tys' := []) [] rfl
  refine va_calli (va_runS (As := [.int i_k, .int i_m, .int i_f, .int i_i]) (rest := []) ⟨hx, hb, hml, hown, hts⟩ (c_X9_lowOf__a l D i_k i_m i_f i_i) (cwS 4 hts g_X9_highOf__a_X9_lowOf__a rfl rfl rfl (by decide +kernel) ⟨Nat.le_of_ble_eq_true rfl, Nat.le_of_ble_eq_true rfl⟩) ⟨fun a U g mk q => by obtain ⟨q0, qP, qK⟩ := q; exact ⟨q0, qP, va_K.moved (u := U) (U := U.calling g mk a) (Vm.Alike.refl U.vm) qK⟩, fun U hU hW => ⟨rfl, by rw [hU]; exact hPc, va_K.moved hW.alike hKc⟩⟩ rfl rfl hl.1 rfl (lv_room (Nat.le_of_ble_eq_true rfl)) dX9_highOf_4 ⟨Nat.le_of_ble_eq_true rfl, Nat.le_of_ble_eq_true rfl⟩) hS (fun _ _ h => h.elim) (fun _ h => h.elim) (fun r1 u t H1 locs ht hvm hw hB hz1 hk1 hS => ?_)
  have hP := pw_keep hP (fun q hq => hk1 q hq (fun h => h))
  generalize H1 = H at hP hS ⊢
  refine W.widen (k := 0) (n := 0) (Nat.le_of_ble_eq_true rfl) (Nat.le_of_ble_eq_true rfl) ?_
  refine lv_istore (lv' := [(4, .int r1), (0, .int i_k), (1, .int i_m), (2, .int i_f), (3, .int i_i)]) hx hb dX9_highOf_7 hl (by decide) rfl (fun ls hl => ?_)
  refine lv_iload_n hx hb dX9_highOf_9 rfl (lv_at hl 1 rfl) ?_
  refine lv_iconst (v := 2) hx hb dX9_highOf_10 (by decide) ?_
  refine lv_icmp_ne (tgt := 21) hx hb dX9_highOf_11 (by decide) (fun c2 => ?_) (fun c2 => ?_)
  · have nc2 : i_k.toInt ≠ 2 := pw_ne c2 rfl (by decide)
    refine lv_iload hx hb dX9_highOf_21 (lv_at hl 0 rfl) ?_
    exact W.iret (v := r1) hx hb hr (fun t ht hW => ⟨⟨r1, (), rfl, trivial, trivial⟩, hS.F ht⟩) hS.2.2 dX9_highOf_23
  · have nc2 : i_k.toInt = 2 := pw_eq c2 rfl (by decide)
    refine lv_iload hx hb dX9_highOf_14 (lv_at hl 0 rfl) ?_
    refine lv_iconst (v := 1) hx hb dX9_highOf_16 (by decide) ?_
    refine lv_iadd hx hb dX9_highOf_17 ?_
    refine lv_topi (fun x3 ex3 => ?_)
    refine lv_goto (tgt := 23) hx hb dX9_highOf_18 (by decide) ?_
    exact W.iret (v := x3) hx hb hr (fun t ht hW => ⟨⟨x3, (), rfl, trivial, trivial⟩, hS.F ht⟩) hS.2.2 dX9_highOf_23
def w_X9_greatestOf : List Cond := .code yX9_greatestOf cX9_greatestOf 3 (some .int) :: ([.methodLink RX9 347 yX9_highOf, .static yX9_highOf, .initialized RX9, .code yX9_highOf cX9_highOf 5 (some .int), .methodLink RX9 343 yX9_lowOf, .static yX9_lowOf, .code yX9_lowOf cX9_lowOf 4 (some .int)])
set_option maxRecDepth 20000 in
theorem g_X9_greatestOf_X9_highOf__a : GoodIn w_X9_greatestOf (wsS RX9 347 yX9_highOf w_X9_highOf__a) := goodIn_r _ [1, 2, 3, 4, 5, 6, 3, 7] rfl (by decide +kernel)
set_option maxHeartbeats 4000000 in
set_option maxRecDepth 100000 in
theorem c_X9_greatestOf (l : Launch) (D : va_G) (i_k : Int32) (i_m : Int32) (i_f : Int32) : Met l yX9_greatestOf w_X9_greatestOf ({ frames := 2, cells := 0, slots := 0, locals := 47 }) (va_Pc [.int i_k, .int i_m, .int i_f] (fun U => va_P D vwCl [] U.heap ∧ va_K D vwCl [] U)) (va_Qi (fun (r : Int32) (_ : Unit) => True) (fun _ _ => True) (fun _ => False)) 0 0 (fun _ => False) := by
  refine Met.ofW (cc := cX9_greatestOf) (maxL := 3) (ret := (some .int)) (by decide) rfl ?_
  intro p e s m args below meth c s₁ B hml hv
  obtain ⟨rfl, hP, hK⟩ := hv
  have hx := B.exec
  have hb := B.bytes
  have hr := B.returns
  have hts := atoms_spec (ws := w_X9_greatestOf) B.pre
  have hown : s.vm.findClass RX9 = some m.cls := findClass_of_methodNamed B.named
  have hlocks := B.notSynchronized
  have hS : va_S (fun _ : Nat => False) s.heap s.heap [] := va_S.rf
  have hP : va_P D vwCl [] s.heap := hP
  have hl := lv_entry ([.int i_k, .int i_m, .int i_f]) (n := 3) (Nat.le_of_ble_eq_true rfl)
  rw [lg_entry_eq]
  generalize (lg_sl ([.int i_k, .int i_m, .int i_f]) ++ List.replicate (3 - (lg_sl ([.int i_k, .int i_m, .int i_f])).length) Slot.unset).toArray = ls at hl ⊢
  have hl : lv_has ls 3 [(0, .int i_k), (1, .int i_m), (2, .int i_f)] := hl
  obtain ⟨H, hHe⟩ : ∃ H : Heap, H = s.heap := ⟨_, rfl⟩
  rw [← hHe] at hP
  have hS : va_S (fun _ : Nat => False) s.heap H [] := by rw [hHe]; exact hS
  refine pw_heap hHe ?_
  refine lv_iload_n hx hb dX9_greatestOf_0 rfl (lv_at hl 0 rfl) ?_
  refine lv_iload_n hx hb dX9_greatestOf_1 rfl (lv_at hl 1 rfl) ?_
  refine lv_iload_n hx hb dX9_greatestOf_2 rfl (lv_at hl 2 rfl) ?_
  refine lv_iload_n hx hb dX9_greatestOf_3 rfl (lv_at hl 0 rfl) ?_
  refine lv_iconst (v := 4) hx hb dX9_greatestOf_4 (by decide) ?_
  refine pw_join (fun (v3 : Int32) H locs ls => va_P D vwCl [] H ∧ va_S (fun _ : Nat => False) s.heap H locs ∧ lv_has ls 3 [(0, .int i_k), (1, .int i_m), (2, .int i_f)]) 0 0 (fun (v3 : Int32) ls => F0 m 15 ls [.int v3, .int i_f, .int i_m, .int i_k]) (fun v3 H locs ls hI => ?_) (fun hJ4 => ?_)
  ·
    obtain ⟨hP, hS, hl⟩ := hI
    have hP : va_P D vwCl [] H := hP
    have hK : va_K D vwCl [] s := hK
    have hl : lv_has ls 3 [(0, .int i_k), (1, .int i_m), (2, .int i_f)] := hl
    refine W.eq (g2 := F0 m 15 ls [.int v3, .int i_f, .int i_m, .int i_k]) rfl ?_
    have hPc := hP.sub (ws' := []) [] rfl
    have hKc := hK.sub (tys' := []) [] rfl
    refine va_calli (va_runS (As := [.int i_k, .int i_m, .int i_f, .int v3]) (rest := []) ⟨hx, hb, hml, hown, hts⟩ (c_X9_highOf__a l D i_k i_m i_f v3) (cwS 4 hts g_X9_greatestOf_X9_highOf__a rfl rfl rfl (by decide +kernel) ⟨Nat.le_of_ble_eq_true rfl, Nat.le_of_ble_eq_true rfl⟩) ⟨fun a U g mk q => by obtain ⟨q0, qP, qK⟩ := q; exact ⟨q0, qP, va_K.moved (u := U) (U := U.calling g mk a) (Vm.Alike.refl U.vm) qK⟩, fun U hU hW => ⟨rfl, by rw [hU]; exact hPc, va_K.moved hW.alike hKc⟩⟩ rfl rfl hl.1 rfl (lv_room (Nat.le_of_ble_eq_true rfl)) dX9_greatestOf_15 ⟨Nat.le_of_ble_eq_true rfl, Nat.le_of_ble_eq_true rfl⟩) hS (fun _ _ h => h.elim) (fun _ h => h.elim) (fun r5 u t H1 locs ht hvm hw hB hz1 hk1 hS => ?_)
    have hP := pw_keep hP (fun q hq => hk1 q hq (fun h => h))
    generalize H1 = H at hP hS ⊢
    refine W.widen (k := 0) (n := 0) (Nat.le_of_ble_eq_true rfl) (Nat.le_of_ble_eq_true rfl) ?_
    exact W.iret (v := r5) hx hb hr (fun t ht hW => ⟨⟨r5, (), rfl, trivial, trivial⟩, hS.F ht⟩) hS.2.2 dX9_greatestOf_18
  ·
    refine lv_icmp_ne (tgt := 12) hx hb dX9_greatestOf_5 (by decide) (fun c6 => ?_) (fun c6 => ?_)
    · have nc6 : i_k.toInt ≠ 4 := pw_ne c6 rfl (by decide)
      refine lv_iload_n hx hb dX9_greatestOf_12 rfl (lv_at hl 1 rfl) ?_
      refine lv_iconst (v := 1) hx hb dX9_greatestOf_13 (by decide) ?_
      refine lv_isub hx hb dX9_greatestOf_14 ?_
      refine lv_topi (fun x7 ex7 => ?_)
      have hP9 : va_P D vwCl [] H := hP.sub [] rfl
      have hl9 : lv_has ls 3 [(0, .int i_k), (1, .int i_m), (2, .int i_f)] := lv_sub hl [0, 1, 2] rfl
      refine W.widen (k := 0) (n := 0) (Nat.le_of_ble_eq_true rfl) (Nat.le_of_ble_eq_true rfl) ?_
      exact hJ4 x7 _ _ _ ⟨hP9, hS, hl9⟩
    · have nc6 : i_k.toInt = 4 := pw_eq c6 rfl (by decide)
      refine lv_iconst (v := 0) hx hb dX9_greatestOf_8 (by decide) ?_
      refine lv_goto (tgt := 15) hx hb dX9_greatestOf_9 (by decide) ?_
      have hP9 : va_P D vwCl [] H := hP.sub [] rfl
      have hl9 : lv_has ls 3 [(0, .int i_k), (1, .int i_m), (2, .int i_f)] := lv_sub hl [0, 1, 2] rfl
      refine W.widen (k := 0) (n := 0) (Nat.le_of_ble_eq_true rfl) (Nat.le_of_ble_eq_true rfl) ?_
      exact hJ4 0 _ _ _ ⟨hP9, hS, hl9⟩
