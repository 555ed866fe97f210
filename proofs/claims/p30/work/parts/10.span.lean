theorem dX5_clear_0 : decode cX5_clear 0 = .ok (.aload_n 0, 1) := by decide +kernel
theorem dX5_clear_1 : decode cX5_clear 1 = .ok (.iconst 0, 1) := by decide +kernel
theorem dX5_clear_2 : decode cX5_clear 2 = .ok (.putfield 9, 3) := by decide +kernel
theorem dX5_clear_5 : decode cX5_clear 5 = .ok (.return_, 1) := by decide +kernel
theorem dX5_put_0 : decode cX5_put 0 = .ok (.aload_n 0, 1) := by decide +kernel
theorem dX5_put_1 : decode cX5_put 1 = .ok (.getfield 9, 3) := by decide +kernel
theorem dX5_put_4 : decode cX5_put 4 = .ok (.ifCond .eq 11, 3) := by decide +kernel
theorem dX5_put_7 : decode cX5_put 7 = .ok (.iload_n 1, 1) := by decide +kernel
theorem dX5_put_8 : decode cX5_put 8 = .ok (.aload_n 0, 1) := by decide +kernel
theorem dX5_put_9 : decode cX5_put 9 = .ok (.getfield 15, 3) := by decide +kernel
theorem dX5_put_12 : decode cX5_put 12 = .ok (.if_icmp .ge 8, 3) := by decide +kernel
theorem dX5_put_15 : decode cX5_put 15 = .ok (.aload_n 0, 1) := by decide +kernel
theorem dX5_put_16 : decode cX5_put 16 = .ok (.iload_n 1, 1) := by decide +kernel
theorem dX5_put_17 : decode cX5_put 17 = .ok (.putfield 15, 3) := by decide +kernel
theorem dX5_put_20 : decode cX5_put 20 = .ok (.aload_n 0, 1) := by decide +kernel
theorem dX5_put_21 : decode cX5_put 21 = .ok (.getfield 9, 3) := by decide +kernel
theorem dX5_put_24 : decode cX5_put 24 = .ok (.ifCond .eq 11, 3) := by decide +kernel
theorem dX5_put_27 : decode cX5_put 27 = .ok (.iload_n 1, 1) := by decide +kernel
theorem dX5_put_28 : decode cX5_put 28 = .ok (.aload_n 0, 1) := by decide +kernel
theorem dX5_put_29 : decode cX5_put 29 = .ok (.getfield 18, 3) := by decide +kernel
theorem dX5_put_32 : decode cX5_put 32 = .ok (.if_icmp .le 8, 3) := by decide +kernel
theorem dX5_put_35 : decode cX5_put 35 = .ok (.aload_n 0, 1) := by decide +kernel
theorem dX5_put_36 : decode cX5_put 36 = .ok (.iload_n 1, 1) := by decide +kernel
theorem dX5_put_37 : decode cX5_put 37 = .ok (.putfield 18, 3) := by decide +kernel
theorem dX5_put_40 : decode cX5_put 40 = .ok (.aload_n 0, 1) := by decide +kernel
theorem dX5_put_41 : decode cX5_put 41 = .ok (.dup, 1) := by decide +kernel
theorem dX5_put_42 : decode cX5_put 42 = .ok (.getfield 9, 3) := by decide +kernel
theorem dX5_put_45 : decode cX5_put 45 = .ok (.iconst 1, 1) := by decide +kernel
theorem dX5_put_46 : decode cX5_put 46 = .ok (.iadd, 1) := by decide +kernel
theorem dX5_put_47 : decode cX5_put 47 = .ok (.putfield 9, 3) := by decide +kernel
theorem dX5_put_50 : decode cX5_put 50 = .ok (.return_, 1) := by decide +kernel
theorem dX5_size_0 : decode cX5_size 0 = .ok (.aload_n 0, 1) := by decide +kernel
theorem dX5_size_1 : decode cX5_size 1 = .ok (.getfield 9, 3) := by decide +kernel
theorem dX5_size_4 : decode cX5_size 4 = .ok (.ireturn, 1) := by decide +kernel
theorem dX5_isEmpty_0 : decode cX5_isEmpty 0 = .ok (.aload_n 0, 1) := by decide +kernel
theorem dX5_isEmpty_1 : decode cX5_isEmpty 1 = .ok (.getfield 9, 3) := by decide +kernel
theorem dX5_isEmpty_4 : decode cX5_isEmpty 4 = .ok (.ifCond .ne 7, 3) := by decide +kernel
theorem dX5_isEmpty_7 : decode cX5_isEmpty 7 = .ok (.iconst 1, 1) := by decide +kernel
theorem dX5_isEmpty_8 : decode cX5_isEmpty 8 = .ok (.goto 4, 3) := by decide +kernel
theorem dX5_isEmpty_11 : decode cX5_isEmpty 11 = .ok (.iconst 0, 1) := by decide +kernel
theorem dX5_isEmpty_12 : decode cX5_isEmpty 12 = .ok (.ireturn, 1) := by decide +kernel
theorem dX5_least_0 : decode cX5_least 0 = .ok (.aload_n 0, 1) := by decide +kernel
theorem dX5_least_1 : decode cX5_least 1 = .ok (.getfield 15, 3) := by decide +kernel
theorem dX5_least_4 : decode cX5_least 4 = .ok (.ireturn, 1) := by decide +kernel
theorem dX5_greatest_0 : decode cX5_greatest 0 = .ok (.aload_n 0, 1) := by decide +kernel
theorem dX5_greatest_1 : decode cX5_greatest 1 = .ok (.getfield 18, 3) := by decide +kernel
theorem dX5_greatest_4 : decode cX5_greatest 4 = .ok (.ireturn, 1) := by decide +kernel
theorem dX5_isSideBySide_0 : decode cX5_isSideBySide 0 = .ok (.aload_n 0, 1) := by decide +kernel
theorem dX5_isSideBySide_1 : decode cX5_isSideBySide 1 = .ok (.getfield 9, 3) := by decide +kernel
theorem dX5_isSideBySide_4 : decode cX5_isSideBySide 4 = .ok (.ifCond .le 25, 3) := by decide +kernel
theorem dX5_isSideBySide_7 : decode cX5_isSideBySide 7 = .ok (.aload_n 0, 1) := by decide +kernel
theorem dX5_isSideBySide_8 : decode cX5_isSideBySide 8 = .ok (.getfield 18, 3) := by decide +kernel
theorem dX5_isSideBySide_11 : decode cX5_isSideBySide 11 = .ok (.aload_n 0, 1) := by decide +kernel
theorem dX5_isSideBySide_12 : decode cX5_isSideBySide 12 = .ok (.getfield 15, 3) := by decide +kernel
theorem dX5_isSideBySide_15 : decode cX5_isSideBySide 15 = .ok (.isub, 1) := by decide +kernel
theorem dX5_isSideBySide_16 : decode cX5_isSideBySide 16 = .ok (.iconst 1, 1) := by decide +kernel
theorem dX5_isSideBySide_17 : decode cX5_isSideBySide 17 = .ok (.iadd, 1) := by decide +kernel
theorem dX5_isSideBySide_18 : decode cX5_isSideBySide 18 = .ok (.aload_n 0, 1) := by decide +kernel
theorem dX5_isSideBySide_19 : decode cX5_isSideBySide 19 = .ok (.getfield 9, 3) := by decide +kernel
theorem dX5_isSideBySide_22 : decode cX5_isSideBySide 22 = .ok (.if_icmp .ne 7, 3) := by decide +kernel
theorem dX5_isSideBySide_25 : decode cX5_isSideBySide 25 = .ok (.iconst 1, 1) := by decide +kernel
theorem dX5_isSideBySide_26 : decode cX5_isSideBySide 26 = .ok (.goto 4, 3) := by decide +kernel
theorem dX5_isSideBySide_29 : decode cX5_isSideBySide 29 = .ok (.iconst 0, 1) := by decide +kernel
theorem dX5_isSideBySide_30 : decode cX5_isSideBySide 30 = .ok (.ireturn, 1) := by decide +kernel
theorem dX5_answer_0 : decode cX5_answer 0 = .ok (.iload_n 1, 1) := by decide +kernel
theorem dX5_answer_1 : decode cX5_answer 1 = .ok (.ifCond .ne 8, 3) := by decide +kernel
theorem dX5_answer_4 : decode cX5_answer 4 = .ok (.aload_n 0, 1) := by decide +kernel
theorem dX5_answer_5 : decode cX5_answer 5 = .ok (.getfield 9, 3) := by decide +kernel
theorem dX5_answer_8 : decode cX5_answer 8 = .ok (.ireturn, 1) := by decide +kernel
theorem dX5_answer_9 : decode cX5_answer 9 = .ok (.aload_n 0, 1) := by decide +kernel
theorem dX5_answer_10 : decode cX5_answer 10 = .ok (.getfield 9, 3) := by decide +kernel
theorem dX5_answer_13 : decode cX5_answer 13 = .ok (.ifCond .ne 6, 3) := by decide +kernel
theorem dX5_answer_16 : decode cX5_answer 16 = .ok (.ldc 21, 2) := by decide +kernel
theorem dX5_answer_18 : decode cX5_answer 18 = .ok (.ireturn, 1) := by decide +kernel
theorem dX5_answer_19 : decode cX5_answer 19 = .ok (.iload_n 1, 1) := by decide +kernel
theorem dX5_answer_20 : decode cX5_answer 20 = .ok (.iconst 1, 1) := by decide +kernel
theorem dX5_answer_21 : decode cX5_answer 21 = .ok (.if_icmp .ne 10, 3) := by decide +kernel
theorem dX5_answer_24 : decode cX5_answer 24 = .ok (.aload_n 0, 1) := by decide +kernel
theorem dX5_answer_25 : decode cX5_answer 25 = .ok (.getfield 15, 3) := by decide +kernel
theorem dX5_answer_28 : decode cX5_answer 28 = .ok (.goto 7, 3) := by decide +kernel
theorem dX5_answer_31 : decode cX5_answer 31 = .ok (.aload_n 0, 1) := by decide +kernel
theorem dX5_answer_32 : decode cX5_answer 32 = .ok (.getfield 18, 3) := by decide +kernel
theorem dX5_answer_35 : decode cX5_answer 35 = .ok (.ireturn, 1) := by decide +kernel
def w_X5_clear : List Cond := .code yX5_clear cX5_clear 1 none :: ([.fieldLink RX5 9 "LineCites$Span" "size" "I"] ++ wsX50)
set_option maxHeartbeats 4000000 in
set_option maxRecDepth 100000 in
theorem c_X5_clear (l : Launch) (D : va_G) (h0 : Nat) (i_s : Int32) (i_l : Int32) (i_g : Int32) (sz : Nat) : Met l yX5_clear w_X5_clear ({ frames := 0, cells := 0, slots := 0, locals := 0 }) (va_Pc [.ref h0] (fun U => U.heap.size = sz ∧ va_P D vwCl [(h0, .inr (5, [.int i_s, .int i_l, .int i_g]))] U.heap ∧ va_K D vwCl [] U ∧ va_D (fun _ => True) [(h0, .inr (5, [.int i_s, .int i_l, .int i_g]))])) (va_Qv (fun (_ : Unit) => True) (fun (_ : Unit) t => ∃ (n_s : Int32) (n_l : Int32) (n_g : Int32), va_P D vwCl [(h0, .inr (5, [.int n_s, .int n_l, .int n_g]))] t.heap ∧ va_K D vwCl [] t ∧ va_D (va_A [(h0, .inr (5, [.int i_s, .int i_l, .int i_g]))] sz) [(h0, .inr (5, [.int n_s, .int n_l, .int n_g]))]) (va_A [(h0, .inr (5, [.int i_s, .int i_l, .int i_g]))] sz)) 0 0 (va_A [(h0, .inr (5, [.int i_s, .int i_l, .int i_g]))] sz) := by
  refine Met.ofW (cc := cX5_clear) (maxL := 1) (ret := none) (by decide) rfl ?_
  intro p e s m args below meth c s₁ B hml hv
  obtain ⟨rfl, hsz, hP, hK, hD0⟩ := hv
  have hx := B.exec
  have hb := B.bytes
  have hr := B.returns
  have hts := atoms_spec (ws := w_X5_clear) B.pre
  have hown : s.vm.findClass RX5 = some m.cls := findClass_of_methodNamed B.named
  have hlocks := B.notSynchronized
  subst hsz
  have hD := hD0.self (sz := s.heap.size)
  generalize hAe : va_A [(h0, .inr (5, [.int i_s, .int i_l, .int i_g]))] s.heap.size = A at hD ⊢
  have hA : ∀ q : Nat, s.heap.size ≤ q → A q := fun q h => by rw [← hAe]; exact Or.inr h
  have hS : va_S A s.heap s.heap [] := va_S.rf
  have hP : va_P D vwCl [(h0, .inr (5, [.int i_s, .int i_l, .int i_g]))] s.heap := hP
  have hl := lv_entry ([.ref h0]) (n := 1) (Nat.le_of_ble_eq_true rfl)
  rw [lg_entry_eq]
  generalize (lg_sl ([.ref h0]) ++ List.replicate (1 - (lg_sl ([.ref h0])).length) Slot.unset).toArray = ls at hl ⊢
  have hl : lv_has ls 1 [(0, .ref h0)] := hl
  obtain ⟨H, hHe⟩ : ∃ H : Heap, H = s.heap := ⟨_, rfl⟩
  rw [← hHe] at hP
  have hS : va_S A s.heap H [] := by rw [hHe]; exact hS
  refine pw_heap hHe ?_
  refine lv_aload_n hx hb dX5_clear_0 rfl (lv_at hl 0 rfl) ?_
  refine lv_iconst (v := 0) hx hb dX5_clear_1 (by decide) ?_
  refine va_put (D := D) (ci := 5) (v := .int 0) (ty := .int) (C := RX5) (T := TX5) (N := 3) hx hb hts (fun _ h => List.mem_cons_of_mem _ (List.mem_append_right _ h)) tyX5 tyX5_ok nmX5 hown hK hP hD hS 0 rfl rfl 0 (by decide) (hts (.fieldLink RX5 9 "LineCites$Span" "size" "I") (List.mem_of_getElem? (i := 1) rfl)) (fun _ h9 => h9) rfl (by decide +kernel) rfl rfl (Nat.le_of_ble_eq_true rfl) dX5_clear_2 (fun H locs hP hD hS => ?_)
  have hP : va_P D vwCl [(h0, .inr (5, [.int 0, .int i_l, .int i_g]))] H := hP
  have hD : va_D A [(h0, .inr (5, [.int 0, .int i_l, .int i_g]))] := hD
  have hK : va_K D vwCl [] s := hK
  have hP9 := hP.sub (ws' := [(h0, .inr (5, [.int 0, .int i_l, .int i_g]))]) [0] rfl
  have hD9 := hD.sub (ws' := [(h0, .inr (5, [.int 0, .int i_l, .int i_g]))]) [0] (by decide) rfl
  have hK9 := hK.sub (tys' := []) [] rfl
  refine W.widen (k := 0) (n := 0) (Nat.le_of_ble_eq_true rfl) (Nat.le_of_ble_eq_true rfl) ?_
  exact W.vret hx hb hr (fun t ht hW => ⟨⟨(), rfl, trivial, 0, i_l, i_g, by rw [ht]; exact hP9, va_K.moved hW.alike hK9, hD9⟩, hS.F ht⟩) hS.2.2 dX5_clear_5
def w_X5_put : List Cond := .code yX5_put cX5_put 2 none :: ([.fieldLink RX5 9 "LineCites$Span" "size" "I", .fieldLink RX5 15 "LineCites$Span" "least" "I", .fieldLink RX5 18 "LineCites$Span" "greatest" "I"] ++ wsX50)
set_option maxHeartbeats 4000000 in
set_option maxRecDepth 100000 in
theorem c_X5_put (l : Launch) (D : va_G) (h0 : Nat) (i_v : Int32) (i_s : Int32) (i_l : Int32) (i_g : Int32) (sz : Nat) : Met l yX5_put w_X5_put ({ frames := 0, cells := 0, slots := 0, locals := 0 }) (va_Pc [.ref h0, .int i_v] (fun U => U.heap.size = sz ∧ va_P D vwCl [(h0, .inr (5, [.int i_s, .int i_l, .int i_g]))] U.heap ∧ va_K D vwCl [] U ∧ va_D (fun _ => True) [(h0, .inr (5, [.int i_s, .int i_l, .int i_g]))])) (va_Qv (fun (_ : Unit) => True) (fun (_ : Unit) t => ∃ (n_s : Int32) (n_l : Int32) (n_g : Int32), va_P D vwCl [(h0, .inr (5, [.int n_s, .int n_l, .int n_g]))] t.heap ∧ va_K D vwCl [] t ∧ va_D (va_A [(h0, .inr (5, [.int i_s, .int i_l, .int i_g]))] sz) [(h0, .inr (5, [.int n_s, .int n_l, .int n_g]))]) (va_A [(h0, .inr (5, [.int i_s, .int i_l, .int i_g]))] sz)) 0 0 (va_A [(h0, .inr (5, [.int i_s, .int i_l, .int i_g]))] sz) := by
  refine Met.ofW (cc := cX5_put) (maxL := 2) (ret := none) (by decide) rfl ?_
  intro p e s m args below meth c s₁ B hml hv
  obtain ⟨rfl, hsz, hP, hK, hD0⟩ := hv
  have hx := B.exec
  have hb := B.bytes
  have hr := B.returns
  have hts := atoms_spec (ws := w_X5_put) B.pre
  have hown : s.vm.findClass RX5 = some m.cls := findClass_of_methodNamed B.named
  have hlocks := B.notSynchronized
  subst hsz
  have hD := hD0.self (sz := s.heap.size)
  generalize hAe : va_A [(h0, .inr (5, [.int i_s, .int i_l, .int i_g]))] s.heap.size = A at hD ⊢
  have hA : ∀ q : Nat, s.heap.size ≤ q → A q := fun q h => by rw [← hAe]; exact Or.inr h
  have hS : va_S A s.heap s.heap [] := va_S.rf
  have hP : va_P D vwCl [(h0, .inr (5, [.int i_s, .int i_l, .int i_g]))] s.heap := hP
  have hl := lv_entry ([.ref h0, .int i_v]) (n := 2) (Nat.le_of_ble_eq_true rfl)
  rw [lg_entry_eq]
  generalize (lg_sl ([.ref h0, .int i_v]) ++ List.replicate (2 - (lg_sl ([.ref h0, .int i_v])).length) Slot.unset).toArray = ls at hl ⊢
  have hl : lv_has ls 2 [(0, .ref h0), (1, .int i_v)] := hl
  obtain ⟨H, hHe⟩ : ∃ H : Heap, H = s.heap := ⟨_, rfl⟩
  rw [← hHe] at hP
  have hS : va_S A s.heap H [] := by rw [hHe]; exact hS
  refine pw_heap hHe ?_
  refine lv_aload_n hx hb dX5_put_0 rfl (lv_at hl 0 rfl) ?_
  refine va_get (D := D) (ci := 5) (v := .int i_s) (C := RX5) (T := TX5) (N := 3) hx hb hts (fun _ h => List.mem_cons_of_mem _ (List.mem_append_right _ h)) hown hK hP 0 rfl rfl 0 (by decide) (hts (.fieldLink RX5 9 "LineCites$Span" "size" "I") (List.mem_of_getElem? (i := 1) rfl)) (fun _ h9 => h9) rfl dX5_put_1 ?_
  refine pw_join (fun (v3 : Int32) H locs ls => va_P D vwCl [(h0, .inr (5, [.int i_s, .int v3, .int i_g]))] H ∧ va_D A [(h0, .inr (5, [.int i_s, .int v3, .int i_g]))] ∧ va_S A s.heap H locs ∧ lv_has ls 2 [(0, .ref h0), (1, .int i_v)]) 0 0 (fun (v3 : Int32) ls => F0 m 20 ls []) (fun v3 H locs ls hI => ?_) (fun hJ4 => ?_)
  ·
    obtain ⟨hP, hD, hS, hl⟩ := hI
    have hP : va_P D vwCl [(h0, .inr (5, [.int i_s, .int v3, .int i_g]))] H := hP
    have hD : va_D A [(h0, .inr (5, [.int i_s, .int v3, .int i_g]))] := hD
    have hK : va_K D vwCl [] s := hK
    have hl : lv_has ls 2 [(0, .ref h0), (1, .int i_v)] := hl
    refine W.eq (g2 := F0 m 20 ls []) rfl ?_
    refine lv_aload_n hx hb dX5_put_20 rfl (lv_at hl 0 rfl) ?_
    refine va_get (D := D) (ci := 5) (v := .int i_s) (C := RX5) (T := TX5) (N := 3) hx hb hts (fun _ h => List.mem_cons_of_mem _ (List.mem_append_right _ h)) hown hK hP 0 rfl rfl 0 (by decide) (hts (.fieldLink RX5 9 "LineCites$Span" "size" "I") (List.mem_of_getElem? (i := 1) rfl)) (fun _ h9 => h9) rfl dX5_put_21 ?_
    refine pw_join (fun (v7 : Int32) H locs ls => va_P D vwCl [(h0, .inr (5, [.int i_s, .int v3, .int v7]))] H ∧ va_D A [(h0, .inr (5, [.int i_s, .int v3, .int v7]))] ∧ va_S A s.heap H locs ∧ lv_has ls 2 [(0, .ref h0), (1, .int i_v)]) 0 0 (fun (v7 : Int32) ls => F0 m 40 ls []) (fun v7 H locs ls hI => ?_) (fun hJ8 => ?_)
    ·
      obtain ⟨hP, hD, hS, hl⟩ := hI
      have hP : va_P D vwCl [(h0, .inr (5, [.int i_s, .int v3, .int v7]))] H := hP
      have hD : va_D A [(h0, .inr (5, [.int i_s, .int v3, .int v7]))] := hD
      have hK : va_K D vwCl [] s := hK
      have hl : lv_has ls 2 [(0, .ref h0), (1, .int i_v)] := hl
      refine W.eq (g2 := F0 m 40 ls []) rfl ?_
      refine lv_aload_n hx hb dX5_put_40 rfl (lv_at hl 0 rfl) ?_
      refine lv_dup hx hb dX5_put_41 rfl ?_
      refine va_get (D := D) (ci := 5) (v := .int i_s) (C := RX5) (T := TX5) (N := 3) hx hb hts (fun _ h => List.mem_cons_of_mem _ (List.mem_append_right _ h)) hown hK hP 0 rfl rfl 0 (by decide) (hts (.fieldLink RX5 9 "LineCites$Span" "size" "I") (List.mem_of_getElem? (i := 1) rfl)) (fun _ h9 => h9) rfl dX5_put_42 ?_
      refine lv_iconst (v := 1) hx hb dX5_put_45 (by decide) ?_
      refine lv_iadd hx hb dX5_put_46 ?_
      refine lv_topi (fun x9 ex9 => ?_)
      refine va_put (D := D) (ci := 5) (v := .int x9) (ty := .int) (C := RX5) (T := TX5) (N := 3) hx hb hts (fun _ h => List.mem_cons_of_mem _ (List.mem_append_right _ h)) tyX5 tyX5_ok nmX5 hown hK hP hD hS 0 rfl rfl 0 (by decide) (hts (.fieldLink RX5 9 "LineCites$Span" "size" "I") (List.mem_of_getElem? (i := 1) rfl)) (fun _ h9 => h9) rfl (by decide +kernel) rfl rfl (Nat.le_of_ble_eq_true rfl) dX5_put_47 (fun H locs hP hD hS => ?_)
      have hP : va_P D vwCl [(h0, .inr (5, [.int x9, .int v3, .int v7]))] H := hP
      have hD : va_D A [(h0, .inr (5, [.int x9, .int v3, .int v7]))] := hD
      have hK : va_K D vwCl [] s := hK
      have hP9 := hP.sub (ws' := [(h0, .inr (5, [.int x9, .int v3, .int v7]))]) [0] rfl
      have hD9 := hD.sub (ws' := [(h0, .inr (5, [.int x9, .int v3, .int v7]))]) [0] (by decide) rfl
      have hK9 := hK.sub (tys' := []) [] rfl
      refine W.widen (k := 0) (n := 0) (Nat.le_of_ble_eq_true rfl) (Nat.le_of_ble_eq_true rfl) ?_
      exact W.vret hx hb hr (fun t ht hW => ⟨⟨(), rfl, trivial, x9, v3, v7, by rw [ht]; exact hP9, va_K.moved hW.alike hK9, hD9⟩, hS.F ht⟩) hS.2.2 dX5_put_50
    ·
      refine lv_if_eq (tgt := 35) hx hb dX5_put_24 (by decide) (fun c10 => ?_) (fun c10 => ?_)
      · have nc10 : i_s.toInt = 0 := pw_eq c10 rfl (by decide)
        refine lv_aload_n hx hb dX5_put_35 rfl (lv_at hl 0 rfl) ?_
        refine lv_iload_n hx hb dX5_put_36 rfl (lv_at hl 1 rfl) ?_
        refine va_put (D := D) (ci := 5) (v := .int i_v) (ty := .int) (C := RX5) (T := TX5) (N := 3) hx hb hts (fun _ h => List.mem_cons_of_mem _ (List.mem_append_right _ h)) tyX5 tyX5_ok nmX5 hown hK hP hD hS 0 rfl rfl 2 (by decide) (hts (.fieldLink RX5 18 "LineCites$Span" "greatest" "I") (List.mem_of_getElem? (i := 3) rfl)) (fun _ h9 => h9) rfl (by decide +kernel) rfl rfl (Nat.le_of_ble_eq_true rfl) dX5_put_37 (fun H locs hP hD hS => ?_)
        have hP : va_P D vwCl [(h0, .inr (5, [.int i_s, .int v3, .int i_v]))] H := hP
        have hD : va_D A [(h0, .inr (5, [.int i_s, .int v3, .int i_v]))] := hD
        have hK : va_K D vwCl [] s := hK
        have hP9 : va_P D vwCl [(h0, .inr (5, [.int i_s, .int v3, .int i_v]))] H := hP.sub [0] rfl
        have hD9 : va_D A [(h0, .inr (5, [.int i_s, .int v3, .int i_v]))] := hD.sub [0] (by decide) rfl
        have hl9 : lv_has ls 2 [(0, .ref h0), (1, .int i_v)] := lv_sub hl [0, 1] rfl
        refine W.widen (k := 0) (n := 0) (Nat.le_of_ble_eq_true rfl) (Nat.le_of_ble_eq_true rfl) ?_
        exact hJ8 i_v _ _ _ ⟨hP9, hD9, hS, hl9⟩
      · have nc10 : i_s.toInt ≠ 0 := pw_ne c10 rfl (by decide)
        refine lv_iload_n hx hb dX5_put_27 rfl (lv_at hl 1 rfl) ?_
        refine lv_aload_n hx hb dX5_put_28 rfl (lv_at hl 0 rfl) ?_
        refine va_get (D := D) (ci := 5) (v := .int i_g) (C := RX5) (T := TX5) (N := 3) hx hb hts (fun _ h => List.mem_cons_of_mem _ (List.mem_append_right _ h)) hown hK hP 0 rfl rfl 2 (by decide) (hts (.fieldLink RX5 18 "LineCites$Span" "greatest" "I") (List.mem_of_getElem? (i := 3) rfl)) (fun _ h9 => h9) rfl dX5_put_29 ?_
        refine lv_icmp_le (tgt := 40) hx hb dX5_put_32 (by decide) (fun c11 => ?_) (fun c11 => ?_)
        · have nc11 : i_v.toInt ≤ i_g.toInt := pw_le c11 rfl rfl
          have mc11i_v := pw_max i_v
          have mc11i_g := pw_max i_g
          have hP9 : va_P D vwCl [(h0, .inr (5, [.int i_s, .int v3, .int i_g]))] H := hP.sub [0] rfl
          have hD9 : va_D A [(h0, .inr (5, [.int i_s, .int v3, .int i_g]))] := hD.sub [0] (by decide) rfl
          have hl9 : lv_has ls 2 [(0, .ref h0), (1, .int i_v)] := lv_sub hl [0, 1] rfl
          refine W.widen (k := 0) (n := 0) (Nat.le_of_ble_eq_true rfl) (Nat.le_of_ble_eq_true rfl) ?_
          exact hJ8 i_g _ _ _ ⟨hP9, hD9, hS, hl9⟩
        · have nc11 : i_g.toInt < i_v.toInt := pw_nle c11 rfl rfl
          have mc11i_v := pw_max i_v
          have mc11i_g := pw_max i_g
          refine lv_aload_n hx hb dX5_put_35 rfl (lv_at hl 0 rfl) ?_
          refine lv_iload_n hx hb dX5_put_36 rfl (lv_at hl 1 rfl) ?_
          refine va_put (D := D) (ci := 5) (v := .int i_v) (ty := .int) (C := RX5) (T := TX5) (N := 3) hx hb hts (fun _ h => List.mem_cons_of_mem _ (List.mem_append_right _ h)) tyX5 tyX5_ok nmX5 hown hK hP hD hS 0 rfl rfl 2 (by decide) (hts (.fieldLink RX5 18 "LineCites$Span" "greatest" "I") (List.mem_of_getElem? (i := 3) rfl)) (fun _ h9 => h9) rfl (by decide +kernel) rfl rfl (Nat.le_of_ble_eq_true rfl) dX5_put_37 (fun H locs hP hD hS => ?_)
          have hP : va_P D vwCl [(h0, .inr (5, [.int i_s, .int v3, .int i_v]))] H := hP
          have hD : va_D A [(h0, .inr (5, [.int i_s, .int v3, .int i_v]))] := hD
          have hK : va_K D vwCl [] s := hK
          have hP9 : va_P D vwCl [(h0, .inr (5, [.int i_s, .int v3, .int i_v]))] H := hP.sub [0] rfl
          have hD9 : va_D A [(h0, .inr (5, [.int i_s, .int v3, .int i_v]))] := hD.sub [0] (by decide) rfl
          have hl9 : lv_has ls 2 [(0, .ref h0), (1, .int i_v)] := lv_sub hl [0, 1] rfl
          refine W.widen (k := 0) (n := 0) (Nat.le_of_ble_eq_true rfl) (Nat.le_of_ble_eq_true rfl) ?_
          exact hJ8 i_v _ _ _ ⟨hP9, hD9, hS, hl9⟩
  ·
    refine lv_if_eq (tgt := 15) hx hb dX5_put_4 (by decide) (fun c12 => ?_) (fun c12 => ?_)
    · have nc12 : i_s.toInt = 0 := pw_eq c12 rfl (by decide)
      refine lv_aload_n hx hb dX5_put_15 rfl (lv_at hl 0 rfl) ?_
      refine lv_iload_n hx hb dX5_put_16 rfl (lv_at hl 1 rfl) ?_
      refine va_put (D := D) (ci := 5) (v := .int i_v) (ty := .int) (C := RX5) (T := TX5) (N := 3) hx hb hts (fun _ h => List.mem_cons_of_mem _ (List.mem_append_right _ h)) tyX5 tyX5_ok nmX5 hown hK hP hD hS 0 rfl rfl 1 (by decide) (hts (.fieldLink RX5 15 "LineCites$Span" "least" "I") (List.mem_of_getElem? (i := 2) rfl)) (fun _ h9 => h9) rfl (by decide +kernel) rfl rfl (Nat.le_of_ble_eq_true rfl) dX5_put_17 (fun H locs hP hD hS => ?_)
      have hP : va_P D vwCl [(h0, .inr (5, [.int i_s, .int i_v, .int i_g]))] H := hP
      have hD : va_D A [(h0, .inr (5, [.int i_s, .int i_v, .int i_g]))] := hD
      have hK : va_K D vwCl [] s := hK
      have hP9 : va_P D vwCl [(h0, .inr (5, [.int i_s, .int i_v, .int i_g]))] H := hP.sub [0] rfl
      have hD9 : va_D A [(h0, .inr (5, [.int i_s, .int i_v, .int i_g]))] := hD.sub [0] (by decide) rfl
      have hl9 : lv_has ls 2 [(0, .ref h0), (1, .int i_v)] := lv_sub hl [0, 1] rfl
      refine W.widen (k := 0) (n := 0) (Nat.le_of_ble_eq_true rfl) (Nat.le_of_ble_eq_true rfl) ?_
      exact hJ4 i_v _ _ _ ⟨hP9, hD9, hS, hl9⟩
    · have nc12 : i_s.toInt ≠ 0 := pw_ne c12 rfl (by decide)
      refine lv_iload_n hx hb dX5_put_7 rfl (lv_at hl 1 rfl) ?_
      refine lv_aload_n hx hb dX5_put_8 rfl (lv_at hl 0 rfl) ?_
      refine va_get (D := D) (ci := 5) (v := .int i_l) (C := RX5) (T := TX5) (N := 3) hx hb hts (fun _ h => List.mem_cons_of_mem _ (List.mem_append_right _ h)) hown hK hP 0 rfl rfl 1 (by decide) (hts (.fieldLink RX5 15 "LineCites$Span" "least" "I") (List.mem_of_getElem? (i := 2) rfl)) (fun _ h9 => h9) rfl dX5_put_9 ?_
      refine lv_icmp_ge (tgt := 20) hx hb dX5_put_12 (by decide) (fun c13 => ?_) (fun c13 => ?_)
      · have nc13 : i_l.toInt ≤ i_v.toInt := pw_le c13 rfl rfl
        have mc13i_v := pw_max i_v
        have mc13i_l := pw_max i_l
        have hP9 : va_P D vwCl [(h0, .inr (5, [.int i_s, .int i_l, .int i_g]))] H := hP.sub [0] rfl
        have hD9 : va_D A [(h0, .inr (5, [.int i_s, .int i_l, .int i_g]))] := hD.sub [0] (by decide) rfl
        have hl9 : lv_has ls 2 [(0, .ref h0), (1, .int i_v)] := lv_sub hl [0, 1] rfl
        refine W.widen (k := 0) (n := 0) (Nat.le_of_ble_eq_true rfl) (Nat.le_of_ble_eq_true rfl) ?_
        exact hJ4 i_l _ _ _ ⟨hP9, hD9, hS, hl9⟩
      · have nc13 : i_v.toInt < i_l.toInt := pw_nle c13 rfl rfl
        have mc13i_v := pw_max i_v
        have mc13i_l := pw_max i_l
        refine lv_aload_n hx hb dX5_put_15 rfl (lv_at hl 0 rfl) ?_
        refine lv_iload_n hx hb dX5_put_16 rfl (lv_at hl 1 rfl) ?_
        refine va_put (D := D) (ci := 5) (v := .int i_v) (ty := .int) (C := RX5) (T := TX5) (N := 3) hx hb hts (fun _ h => List.mem_cons_of_mem _ (List.mem_append_right _ h)) tyX5 tyX5_ok nmX5 hown hK hP hD hS 0 rfl rfl 1 (by decide) (hts (.fieldLink RX5 15 "LineCites$Span" "least" "I") (List.mem_of_getElem? (i := 2) rfl)) (fun _ h9 => h9) rfl (by decide +kernel) rfl rfl (Nat.le_of_ble_eq_true rfl) dX5_put_17 (fun H locs hP hD hS => ?_)
        have hP : va_P D vwCl [(h0, .inr (5, [.int i_s, .int i_v, .int i_g]))] H := hP
        have hD : va_D A [(h0, .inr (5, [.int i_s, .int i_v, .int i_g]))] := hD
        have hK : va_K D vwCl [] s := hK
        have hP9 : va_P D vwCl [(h0, .inr (5, [.int i_s, .int i_v, .int i_g]))] H := hP.sub [0] rfl
        have hD9 : va_D A [(h0, .inr (5, [.int i_s, .int i_v, .int i_g]))] := hD.sub [0] (by decide) rfl
        have hl9 : lv_has ls 2 [(0, .ref h0), (1, .int i_v)] := lv_sub hl [0, 1] rfl
        refine W.widen (k := 0) (n := 0) (Nat.le_of_ble_eq_true rfl) (Nat.le_of_ble_eq_true rfl) ?_
        exact hJ4 i_v _ _ _ ⟨hP9, hD9, hS, hl9⟩
def w_X5_size : List Cond := .code yX5_size cX5_size 1 (some .int) :: ([.fieldLink RX5 9 "LineCites$Span" "size" "I"] ++ wsX50)
set_option maxHeartbeats 4000000 in
set_option maxRecDepth 100000 in
theorem c_X5_size (l : Launch) (D : va_G) (h0 : Nat) (i_s : Int32) (i_l : Int32) (i_g : Int32) : Met l yX5_size w_X5_size ({ frames := 0, cells := 0, slots := 0, locals := 0 }) (va_Pc [.ref h0] (fun U => va_P D vwCl [(h0, .inr (5, [.int i_s, .int i_l, .int i_g]))] U.heap ∧ va_K D vwCl [] U)) (va_Qi (fun (r : Int32) (_ : Unit) => r = i_s) (fun _ _ => True) (fun _ => False)) 0 0 (fun _ => False) := by
  refine Met.ofW (cc := cX5_size) (maxL := 1) (ret := (some .int)) (by decide) rfl ?_
  intro p e s m args below meth c s₁ B hml hv
  obtain ⟨rfl, hP, hK⟩ := hv
  have hx := B.exec
  have hb := B.bytes
  have hr := B.returns
  have hts := atoms_spec (ws := w_X5_size) B.pre
  have hown : s.vm.findClass RX5 = some m.cls := findClass_of_methodNamed B.named
  have hlocks := B.notSynchronized
  have hS : va_S (fun _ : Nat => False) s.heap s.heap [] := va_S.rf
  have hP : va_P D vwCl [(h0, .inr (5, [.int i_s, .int i_l, .int i_g]))] s.heap := hP
  have hl := lv_entry ([.ref h0]) (n := 1) (Nat.le_of_ble_eq_true rfl)
  rw [lg_entry_eq]
  generalize (lg_sl ([.ref h0]) ++ List.replicate (1 - (lg_sl ([.ref h0])).length) Slot.unset).toArray = ls at hl ⊢
  have hl : lv_has ls 1 [(0, .ref h0)] := hl
  obtain ⟨H, hHe⟩ : ∃ H : Heap, H = s.heap := ⟨_, rfl⟩
  rw [← hHe] at hP
  have hS : va_S (fun _ : Nat => False) s.heap H [] := by rw [hHe]; exact hS
  refine pw_heap hHe ?_
  refine lv_aload_n hx hb dX5_size_0 rfl (lv_at hl 0 rfl) ?_
  refine va_get (D := D) (ci := 5) (v := .int i_s) (C := RX5) (T := TX5) (N := 3) hx hb hts (fun _ h => List.mem_cons_of_mem _ (List.mem_append_right _ h)) hown hK hP 0 rfl rfl 0 (by decide) (hts (.fieldLink RX5 9 "LineCites$Span" "size" "I") (List.mem_of_getElem? (i := 1) rfl)) (fun _ h9 => h9) rfl dX5_size_1 ?_
  exact W.iret (v := i_s) hx hb hr (fun t ht hW => ⟨⟨i_s, (), rfl, rfl, trivial⟩, hS.F ht⟩) hS.2.2 dX5_size_4
def w_X5_isEmpty : List Cond := .code yX5_isEmpty cX5_isEmpty 1 (some .boolean) :: ([.fieldLink RX5 9 "LineCites$Span" "size" "I"] ++ wsX50)
set_option maxHeartbeats 4000000 in
set_option maxRecDepth 100000 in
theorem c_X5_isEmpty (l : Launch) (D : va_G) (h0 : Nat) (i_s : Int32) (i_l : Int32) (i_g : Int32) : Met l yX5_isEmpty w_X5_isEmpty ({ frames := 0, cells := 0, slots := 0, locals := 0 }) (va_Pc [.ref h0] (fun U => va_P D vwCl [(h0, .inr (5, [.int i_s, .int i_l, .int i_g]))] U.heap ∧ va_K D vwCl [] U)) (va_Qi (fun (r : Int32) (_ : Unit) => (r = 0 ∨ r = 1) ∧ True) (fun _ _ => True) (fun _ => False)) 0 0 (fun _ => False) := by
  refine Met.ofW (cc := cX5_isEmpty) (maxL := 1) (ret := (some .boolean)) (by decide) rfl ?_
  intro p e s m args below meth c s₁ B hml hv
  obtain ⟨rfl, hP, hK⟩ := hv
  have hx := B.exec
  have hb := B.bytes
  have hr := B.returns
  have hts := atoms_spec (ws := w_X5_isEmpty) B.pre
  have hown : s.vm.findClass RX5 = some m.cls := findClass_of_methodNamed B.named
  have hlocks := B.notSynchronized
  have hS : va_S (fun _ : Nat => False) s.heap s.heap [] := va_S.rf
  have hP : va_P D vwCl [(h0, .inr (5, [.int i_s, .int i_l, .int i_g]))] s.heap := hP
  have hl := lv_entry ([.ref h0]) (n := 1) (Nat.le_of_ble_eq_true rfl)
  rw [lg_entry_eq]
  generalize (lg_sl ([.ref h0]) ++ List.replicate (1 - (lg_sl ([.ref h0])).length) Slot.unset).toArray = ls at hl ⊢
  have hl : lv_has ls 1 [(0, .ref h0)] := hl
  obtain ⟨H, hHe⟩ : ∃ H : Heap, H = s.heap := ⟨_, rfl⟩
  rw [← hHe] at hP
  have hS : va_S (fun _ : Nat => False) s.heap H [] := by rw [hHe]; exact hS
  refine pw_heap hHe ?_
  refine lv_aload_n hx hb dX5_isEmpty_0 rfl (lv_at hl 0 rfl) ?_
  refine va_get (D := D) (ci := 5) (v := .int i_s) (C := RX5) (T := TX5) (N := 3) hx hb hts (fun _ h => List.mem_cons_of_mem _ (List.mem_append_right _ h)) hown hK hP 0 rfl rfl 0 (by decide) (hts (.fieldLink RX5 9 "LineCites$Span" "size" "I") (List.mem_of_getElem? (i := 1) rfl)) (fun _ h9 => h9) rfl dX5_isEmpty_1 ?_
  refine lv_if_ne (tgt := 11) hx hb dX5_isEmpty_4 (by decide) (fun c1 => ?_) (fun c1 => ?_)
  · have nc1 : i_s.toInt ≠ 0 := pw_ne c1 rfl (by decide)
    refine lv_iconst (v := 0) hx hb dX5_isEmpty_11 (by decide) ?_
    exact W.zret (v := 0) (ty := .boolean) hx hb hr rfl (fun t ht hW => ⟨⟨0, (), rfl, ⟨Or.inl rfl, trivial⟩, trivial⟩, hS.F ht⟩) hS.2.2 dX5_isEmpty_12
  · have nc1 : i_s.toInt = 0 := pw_eq c1 rfl (by decide)
    refine lv_iconst (v := 1) hx hb dX5_isEmpty_7 (by decide) ?_
    refine lv_goto (tgt := 12) hx hb dX5_isEmpty_8 (by decide) ?_
    exact W.zret (v := 1) (ty := .boolean) hx hb hr rfl (fun t ht hW => ⟨⟨1, (), rfl, ⟨Or.inr rfl, trivial⟩, trivial⟩, hS.F ht⟩) hS.2.2 dX5_isEmpty_12
def w_X5_least : List Cond := .code yX5_least cX5_least 1 (some .int) :: ([.fieldLink RX5 15 "LineCites$Span" "least" "I"] ++ wsX50)
set_option maxHeartbeats 4000000 in
set_option maxRecDepth 100000 in
theorem c_X5_least (l : Launch) (D : va_G) (h0 : Nat) (i_s : Int32) (i_l : Int32) (i_g : Int32) : Met l yX5_least w_X5_least ({ frames := 0, cells := 0, slots := 0, locals := 0 }) (va_Pc [.ref h0] (fun U => va_P D vwCl [(h0, .inr (5, [.int i_s, .int i_l, .int i_g]))] U.heap ∧ va_K D vwCl [] U)) (va_Qi (fun (r : Int32) (_ : Unit) => True) (fun _ _ => True) (fun _ => False)) 0 0 (fun _ => False) := by
  refine Met.ofW (cc := cX5_least) (maxL := 1) (ret := (some .int)) (by decide) rfl ?_
  intro p e s m args below meth c s₁ B hml hv
  obtain ⟨rfl, hP, hK⟩ := hv
  have hx := B.exec
  have hb := B.bytes
  have hr := B.returns
  have hts := atoms_spec (ws := w_X5_least) B.pre
  have hown : s.vm.findClass RX5 = some m.cls := findClass_of_methodNamed B.named
  have hlocks := B.notSynchronized
  have hS : va_S (fun _ : Nat => False) s.heap s.heap [] := va_S.rf
  have hP : va_P D vwCl [(h0, .inr (5, [.int i_s, .int i_l, .int i_g]))] s.heap := hP
  have hl := lv_entry ([.ref h0]) (n := 1) (Nat.le_of_ble_eq_true rfl)
  rw [lg_entry_eq]
  generalize (lg_sl ([.ref h0]) ++ List.replicate (1 - (lg_sl ([.ref h0])).length) Slot.unset).toArray = ls at hl ⊢
  have hl : lv_has ls 1 [(0, .ref h0)] := hl
  obtain ⟨H, hHe⟩ : ∃ H : Heap, H = s.heap := ⟨_, rfl⟩
  rw [← hHe] at hP
  have hS : va_S (fun _ : Nat => False) s.heap H [] := by rw [hHe]; exact hS
  refine pw_heap hHe ?_
  refine lv_aload_n hx hb dX5_least_0 rfl (lv_at hl 0 rfl) ?_
  refine va_get (D := D) (ci := 5) (v := .int i_l) (C := RX5) (T := TX5) (N := 3) hx hb hts (fun _ h => List.mem_cons_of_mem _ (List.mem_append_right _ h)) hown hK hP 0 rfl rfl 1 (by decide) (hts (.fieldLink RX5 15 "LineCites$Span" "least" "I") (List.mem_of_getElem? (i := 1) rfl)) (fun _ h9 => h9) rfl dX5_least_1 ?_
  exact W.iret (v := i_l) hx hb hr (fun t ht hW => ⟨⟨i_l, (), rfl, trivial, trivial⟩, hS.F ht⟩) hS.2.2 dX5_least_4
def w_X5_greatest : List Cond := .code yX5_greatest cX5_greatest 1 (some .int) :: ([.fieldLink RX5 18 "LineCites$Span" "greatest" "I"] ++ wsX50)
set_option maxHeartbeats 4000000 in
set_option maxRecDepth 100000 in
theorem c_X5_greatest (l : Launch) (D : va_G) (h0 : Nat) (i_s : Int32) (i_l : Int32) (i_g : Int32) : Met l yX5_greatest w_X5_greatest ({ frames := 0, cells := 0, slots := 0, locals := 0 }) (va_Pc [.ref h0] (fun U => va_P D vwCl [(h0, .inr (5, [.int i_s, .int i_l, .int i_g]))] U.heap ∧ va_K D vwCl [] U)) (va_Qi (fun (r : Int32) (_ : Unit) => True) (fun _ _ => True) (fun _ => False)) 0 0 (fun _ => False) := by
  refine Met.ofW (cc := cX5_greatest) (maxL := 1) (ret := (some .int)) (by decide) rfl ?_
  intro p e s m args below meth c s₁ B hml hv
  obtain ⟨rfl, hP, hK⟩ := hv
  have hx := B.exec
  have hb := B.bytes
  have hr := B.returns
  have hts := atoms_spec (ws := w_X5_greatest) B.pre
  have hown : s.vm.findClass RX5 = some m.cls := findClass_of_methodNamed B.named
  have hlocks := B.notSynchronized
  have hS : va_S (fun _ : Nat => False) s.heap s.heap [] := va_S.rf
  have hP : va_P D vwCl [(h0, .inr (5, [.int i_s, .int i_l, .int i_g]))] s.heap := hP
  have hl := lv_entry ([.ref h0]) (n := 1) (Nat.le_of_ble_eq_true rfl)
  rw [lg_entry_eq]
  generalize (lg_sl ([.ref h0]) ++ List.replicate (1 - (lg_sl ([.ref h0])).length) Slot.unset).toArray = ls at hl ⊢
  have hl : lv_has ls 1 [(0, .ref h0)] := hl
  obtain ⟨H, hHe⟩ : ∃ H : Heap, H = s.heap := ⟨_, rfl⟩
  rw [← hHe] at hP
  have hS : va_S (fun _ : Nat => False) s.heap H [] := by rw [hHe]; exact hS
  refine pw_heap hHe ?_
  refine lv_aload_n hx hb dX5_greatest_0 rfl (lv_at hl 0 rfl) ?_
  refine va_get (D := D) (ci := 5) (v := .int i_g) (C := RX5) (T := TX5) (N := 3) hx hb hts (fun _ h => List.mem_cons_of_mem _ (List.mem_append_right _ h)) hown hK hP 0 rfl rfl 2 (by decide) (hts (.fieldLink RX5 18 "LineCites$Span" "greatest" "I") (List.mem_of_getElem? (i := 1) rfl)) (fun _ h9 => h9) rfl dX5_greatest_1 ?_
  exact W.iret (v := i_g) hx hb hr (fun t ht hW => ⟨⟨i_g, (), rfl, trivial, trivial⟩, hS.F ht⟩) hS.2.2 dX5_greatest_4
def w_X5_isSideBySide : List Cond := .code yX5_isSideBySide cX5_isSideBySide 1 (some .boolean) :: ([.fieldLink RX5 9 "LineCites$Span" "size" "I", .fieldLink RX5 18 "LineCites$Span" "greatest" "I", .fieldLink RX5 15 "LineCites$Span" "least" "I"] ++ wsX50)
set_option maxHeartbeats 4000000 in
set_option maxRecDepth 100000 in
theorem c_X5_isSideBySide (l : Launch) (D : va_G) (h0 : Nat) (i_s : Int32) (i_l : Int32) (i_g : Int32) : Met l yX5_isSideBySide w_X5_isSideBySide ({ frames := 0, cells := 0, slots := 0, locals := 0 }) (va_Pc [.ref h0] (fun U => va_P D vwCl [(h0, .inr (5, [.int i_s, .int i_l, .int i_g]))] U.heap ∧ va_K D vwCl [] U)) (va_Qi (fun (r : Int32) (_ : Unit) => (r = 0 ∨ r = 1) ∧ True) (fun _ _ => True) (fun _ => False)) 0 0 (fun _ => False) := by
  refine Met.ofW (cc := cX5_isSideBySide) (maxL := 1) (ret := (some .boolean)) (by decide) rfl ?_
  intro p e s m args below meth c s₁ B hml hv
  obtain ⟨rfl, hP, hK⟩ := hv
  have hx := B.exec
  have hb := B.bytes
  have hr := B.returns
  have hts := atoms_spec (ws := w_X5_isSideBySide) B.pre
  have hown : s.vm.findClass RX5 = some m.cls := findClass_of_methodNamed B.named
  have hlocks := B.notSynchronized
  have hS : va_S (fun _ : Nat => False) s.heap s.heap [] := va_S.rf
  have hP : va_P D vwCl [(h0, .inr (5, [.int i_s, .int i_l, .int i_g]))] s.heap := hP
  have hl := lv_entry ([.ref h0]) (n := 1) (Nat.le_of_ble_eq_true rfl)
  rw [lg_entry_eq]
  generalize (lg_sl ([.ref h0]) ++ List.replicate (1 - (lg_sl ([.ref h0])).length) Slot.unset).toArray = ls at hl ⊢
  have hl : lv_has ls 1 [(0, .ref h0)] := hl
  obtain ⟨H, hHe⟩ : ∃ H : Heap, H = s.heap := ⟨_, rfl⟩
  rw [← hHe] at hP
  have hS : va_S (fun _ : Nat => False) s.heap H [] := by rw [hHe]; exact hS
  refine pw_heap hHe ?_
  refine lv_aload_n hx hb dX5_isSideBySide_0 rfl (lv_at hl 0 rfl) ?_
  refine va_get (D := D) (ci := 5) (v := .int i_s) (C := RX5) (T := TX5) (N := 3) hx hb hts (fun _ h => List.mem_cons_of_mem _ (List.mem_append_right _ h)) hown hK hP 0 rfl rfl 0 (by decide) (hts (.fieldLink RX5 9 "LineCites$Span" "size" "I") (List.mem_of_getElem? (i := 1) rfl)) (fun _ h9 => h9) rfl dX5_isSideBySide_1 ?_
  refine lv_if_le (tgt := 29) hx hb dX5_isSideBySide_4 (by decide) (fun c1 => ?_) (fun c1 => ?_)
  · have nc1 : i_s.toInt ≤ 0 := pw_le c1 rfl (by decide)
    refine lv_iconst (v := 0) hx hb dX5_isSideBySide_29 (by decide) ?_
    exact W.zret (v := 0) (ty := .boolean) hx hb hr rfl (fun t ht hW => ⟨⟨0, (), rfl, ⟨Or.inl rfl, trivial⟩, trivial⟩, hS.F ht⟩) hS.2.2 dX5_isSideBySide_30
  · have nc1 : 0 < i_s.toInt := pw_nle c1 rfl (by decide)
    refine lv_aload_n hx hb dX5_isSideBySide_7 rfl (lv_at hl 0 rfl) ?_
    refine va_get (D := D) (ci := 5) (v := .int i_g) (C := RX5) (T := TX5) (N := 3) hx hb hts (fun _ h => List.mem_cons_of_mem _ (List.mem_append_right _ h)) hown hK hP 0 rfl rfl 2 (by decide) (hts (.fieldLink RX5 18 "LineCites$Span" "greatest" "I") (List.mem_of_getElem? (i := 2) rfl)) (fun _ h9 => h9) rfl dX5_isSideBySide_8 ?_
    refine lv_aload_n hx hb dX5_isSideBySide_11 rfl (lv_at hl 0 rfl) ?_
    refine va_get (D := D) (ci := 5) (v := .int i_l) (C := RX5) (T := TX5) (N := 3) hx hb hts (fun _ h => List.mem_cons_of_mem _ (List.mem_append_right _ h)) hown hK hP 0 rfl rfl 1 (by decide) (hts (.fieldLink RX5 15 "LineCites$Span" "least" "I") (List.mem_of_getElem? (i := 3) rfl)) (fun _ h9 => h9) rfl dX5_isSideBySide_12 ?_
    refine lv_isub hx hb dX5_isSideBySide_15 ?_
    refine lv_topi (fun x2 ex2 => ?_)
    refine lv_iconst (v := 1) hx hb dX5_isSideBySide_16 (by decide) ?_
    refine lv_iadd hx hb dX5_isSideBySide_17 ?_
    refine lv_topi (fun x3 ex3 => ?_)
    refine lv_aload_n hx hb dX5_isSideBySide_18 rfl (lv_at hl 0 rfl) ?_
    refine va_get (D := D) (ci := 5) (v := .int i_s) (C := RX5) (T := TX5) (N := 3) hx hb hts (fun _ h => List.mem_cons_of_mem _ (List.mem_append_right _ h)) hown hK hP 0 rfl rfl 0 (by decide) (hts (.fieldLink RX5 9 "LineCites$Span" "size" "I") (List.mem_of_getElem? (i := 1) rfl)) (fun _ h9 => h9) rfl dX5_isSideBySide_19 ?_
    refine lv_icmp_ne (tgt := 29) hx hb dX5_isSideBySide_22 (by decide) (fun c4 => ?_) (fun c4 => ?_)
    · have nc4 : x3.toInt ≠ i_s.toInt := pw_ne c4 rfl rfl
      have mc4x3 := pw_max x3
      have mc4i_s := pw_max i_s
      refine lv_iconst (v := 0) hx hb dX5_isSideBySide_29 (by decide) ?_
      exact W.zret (v := 0) (ty := .boolean) hx hb hr rfl (fun t ht hW => ⟨⟨0, (), rfl, ⟨Or.inl rfl, trivial⟩, trivial⟩, hS.F ht⟩) hS.2.2 dX5_isSideBySide_30
    · have nc4 : x3.toInt = i_s.toInt := pw_eq c4 rfl rfl
      have mc4x3 := pw_max x3
      have mc4i_s := pw_max i_s
      refine lv_iconst (v := 1) hx hb dX5_isSideBySide_25 (by decide) ?_
      refine lv_goto (tgt := 30) hx hb dX5_isSideBySide_26 (by decide) ?_
      exact W.zret (v := 1) (ty := .boolean) hx hb hr rfl (fun t ht hW => ⟨⟨1, (), rfl, ⟨Or.inr rfl, trivial⟩, trivial⟩, hS.F ht⟩) hS.2.2 dX5_isSideBySide_30
def w_X5_answer : List Cond := .code yX5_answer cX5_answer 2 (some .int) :: ([.fieldLink RX5 9 "LineCites$Span" "size" "I", .fieldLink RX5 18 "LineCites$Span" "greatest" "I", .fieldLink RX5 15 "LineCites$Span" "least" "I", .constant RX5 21 (-1000000)] ++ wsX50)
set_option maxHeartbeats 4000000 in
set_option maxRecDepth 100000 in
theorem c_X5_answer (l : Launch) (D : va_G) (h0 : Nat) (i_w : Int32) (i_s : Int32) (i_l : Int32) (i_g : Int32) : Met l yX5_answer w_X5_answer ({ frames := 0, cells := 0, slots := 0, locals := 0 }) (va_Pc [.ref h0, .int i_w] (fun U => va_P D vwCl [(h0, .inr (5, [.int i_s, .int i_l, .int i_g]))] U.heap ∧ va_K D vwCl [] U)) (va_Qi (fun (r : Int32) (_ : Unit) => True) (fun _ _ => True) (fun _ => False)) 0 0 (fun _ => False) := by
  refine Met.ofW (cc := cX5_answer) (maxL := 2) (ret := (some .int)) (by decide) rfl ?_
  intro p e s m args below meth c s₁ B hml hv
  obtain ⟨rfl, hP, hK⟩ := hv
  have hx := B.exec
  have hb := B.bytes
  have hr := B.returns
  have hts := atoms_spec (ws := w_X5_answer) B.pre
  have hown : s.vm.findClass RX5 = some m.cls := findClass_of_methodNamed B.named
  have hlocks := B.notSynchronized
  have hS : va_S (fun _ : Nat => False) s.heap s.heap [] := va_S.rf
  have hP : va_P D vwCl [(h0, .inr (5, [.int i_s, .int i_l, .int i_g]))] s.heap := hP
  have hl := lv_entry ([.ref h0, .int i_w]) (n := 2) (Nat.le_of_ble_eq_true rfl)
  rw [lg_entry_eq]
  generalize (lg_sl ([.ref h0, .int i_w]) ++ List.replicate (2 - (lg_sl ([.ref h0, .int i_w])).length) Slot.unset).toArray = ls at hl ⊢
  have hl : lv_has ls 2 [(0, .ref h0), (1, .int i_w)] := hl
  obtain ⟨H, hHe⟩ : ∃ H : Heap, H = s.heap := ⟨_, rfl⟩
  rw [← hHe] at hP
  have hS : va_S (fun _ : Nat => False) s.heap H [] := by rw [hHe]; exact hS
  refine pw_heap hHe ?_
  refine lv_iload_n hx hb dX5_answer_0 rfl (lv_at hl 1 rfl) ?_
  refine lv_if_ne (tgt := 9) hx hb dX5_answer_1 (by decide) (fun c1 => ?_) (fun c1 => ?_)
  · have nc1 : i_w.toInt ≠ 0 := pw_ne c1 rfl (by decide)
    refine lv_aload_n hx hb dX5_answer_9 rfl (lv_at hl 0 rfl) ?_
    refine va_get (D := D) (ci := 5) (v := .int i_s) (C := RX5) (T := TX5) (N := 3) hx hb hts (fun _ h => List.mem_cons_of_mem _ (List.mem_append_right _ h)) hown hK hP 0 rfl rfl 0 (by decide) (hts (.fieldLink RX5 9 "LineCites$Span" "size" "I") (List.mem_of_getElem? (i := 1) rfl)) (fun _ h9 => h9) rfl dX5_answer_10 ?_
    refine lv_if_ne (tgt := 19) hx hb dX5_answer_13 (by decide) (fun c2 => ?_) (fun c2 => ?_)
    · have nc2 : i_s.toInt ≠ 0 := pw_ne c2 rfl (by decide)
      refine lv_iload_n hx hb dX5_answer_19 rfl (lv_at hl 1 rfl) ?_
      refine lv_iconst (v := 1) hx hb dX5_answer_20 (by decide) ?_
      refine lv_icmp_ne (tgt := 31) hx hb dX5_answer_21 (by decide) (fun c3 => ?_) (fun c3 => ?_)
      · have nc3 : i_w.toInt ≠ 1 := pw_ne c3 rfl (by decide)
        refine lv_aload_n hx hb dX5_answer_31 rfl (lv_at hl 0 rfl) ?_
        refine va_get (D := D) (ci := 5) (v := .int i_g) (C := RX5) (T := TX5) (N := 3) hx hb hts (fun _ h => List.mem_cons_of_mem _ (List.mem_append_right _ h)) hown hK hP 0 rfl rfl 2 (by decide) (hts (.fieldLink RX5 18 "LineCites$Span" "greatest" "I") (List.mem_of_getElem? (i := 2) rfl)) (fun _ h9 => h9) rfl dX5_answer_32 ?_
        exact W.iret (v := i_g) hx hb hr (fun t ht hW => ⟨⟨i_g, (), rfl, trivial, trivial⟩, hS.F ht⟩) hS.2.2 dX5_answer_35
      · have nc3 : i_w.toInt = 1 := pw_eq c3 rfl (by decide)
        refine lv_aload_n hx hb dX5_answer_24 rfl (lv_at hl 0 rfl) ?_
        refine va_get (D := D) (ci := 5) (v := .int i_l) (C := RX5) (T := TX5) (N := 3) hx hb hts (fun _ h => List.mem_cons_of_mem _ (List.mem_append_right _ h)) hown hK hP 0 rfl rfl 1 (by decide) (hts (.fieldLink RX5 15 "LineCites$Span" "least" "I") (List.mem_of_getElem? (i := 3) rfl)) (fun _ h9 => h9) rfl dX5_answer_25 ?_
        refine lv_goto (tgt := 35) hx hb dX5_answer_28 (by decide) ?_
        exact W.iret (v := i_l) hx hb hr (fun t ht hW => ⟨⟨i_l, (), rfl, trivial, trivial⟩, hS.F ht⟩) hS.2.2 dX5_answer_35
    · have nc2 : i_s.toInt = 0 := pw_eq c2 rfl (by decide)
      refine lv_ldc hx hb hown (hts (.constant RX5 21 (-1000000)) (List.mem_of_getElem? (i := 4) rfl)) dX5_answer_16 ?_
      exact W.iret (v := (-1000000)) hx hb hr (fun t ht hW => ⟨⟨(-1000000), (), rfl, trivial, trivial⟩, hS.F ht⟩) hS.2.2 dX5_answer_18
  · have nc1 : i_w.toInt = 0 := pw_eq c1 rfl (by decide)
    refine lv_aload_n hx hb dX5_answer_4 rfl (lv_at hl 0 rfl) ?_
    refine va_get (D := D) (ci := 5) (v := .int i_s) (C := RX5) (T := TX5) (N := 3) hx hb hts (fun _ h => List.mem_cons_of_mem _ (List.mem_append_right _ h)) hown hK hP 0 rfl rfl 0 (by decide) (hts (.fieldLink RX5 9 "LineCites$Span" "size" "I") (List.mem_of_getElem? (i := 1) rfl)) (fun _ h9 => h9) rfl dX5_answer_5 ?_
    exact W.iret (v := i_s) hx hb hr (fun t ht hW => ⟨⟨i_s, (), rfl, trivial, trivial⟩, hS.F ht⟩) hS.2.2 dX5_answer_8
