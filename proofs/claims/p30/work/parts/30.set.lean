theorem dX2_clear_0 : decode cX2_clear 0 = .ok (.aload_n 0, 1) := by decide +kernel
theorem dX2_clear_1 : decode cX2_clear 1 = .ok (.dup, 1) := by decide +kernel
theorem dX2_clear_2 : decode cX2_clear 2 = .ok (.getfield 22, 3) := by decide +kernel
theorem dX2_clear_5 : decode cX2_clear 5 = .ok (.iconst 1, 1) := by decide +kernel
theorem dX2_clear_6 : decode cX2_clear 6 = .ok (.iadd, 1) := by decide +kernel
theorem dX2_clear_7 : decode cX2_clear 7 = .ok (.putfield 22, 3) := by decide +kernel
theorem dX2_clear_10 : decode cX2_clear 10 = .ok (.aload_n 0, 1) := by decide +kernel
theorem dX2_clear_11 : decode cX2_clear 11 = .ok (.getfield 18, 3) := by decide +kernel
theorem dX2_clear_14 : decode cX2_clear 14 = .ok (.invokevirtual 26, 3) := by decide +kernel
theorem dX2_clear_17 : decode cX2_clear 17 = .ok (.return_, 1) := by decide +kernel
theorem dX2_put_0 : decode cX2_put 0 = .ok (.iload_n 1, 1) := by decide +kernel
theorem dX2_put_1 : decode cX2_put 1 = .ok (.ifCond .lt 25, 3) := by decide +kernel
theorem dX2_put_4 : decode cX2_put 4 = .ok (.iload_n 1, 1) := by decide +kernel
theorem dX2_put_5 : decode cX2_put 5 = .ok (.aload_n 0, 1) := by decide +kernel
theorem dX2_put_6 : decode cX2_put 6 = .ok (.getfield 9, 3) := by decide +kernel
theorem dX2_put_9 : decode cX2_put 9 = .ok (.arraylength, 1) := by decide +kernel
theorem dX2_put_10 : decode cX2_put 10 = .ok (.if_icmp .ge 16, 3) := by decide +kernel
theorem dX2_put_13 : decode cX2_put 13 = .ok (.aload_n 0, 1) := by decide +kernel
theorem dX2_put_14 : decode cX2_put 14 = .ok (.getfield 9, 3) := by decide +kernel
theorem dX2_put_17 : decode cX2_put 17 = .ok (.iload_n 1, 1) := by decide +kernel
theorem dX2_put_18 : decode cX2_put 18 = .ok (.iaload, 1) := by decide +kernel
theorem dX2_put_19 : decode cX2_put 19 = .ok (.aload_n 0, 1) := by decide +kernel
theorem dX2_put_20 : decode cX2_put 20 = .ok (.getfield 22, 3) := by decide +kernel
theorem dX2_put_23 : decode cX2_put 23 = .ok (.if_icmp .ne 4, 3) := by decide +kernel
theorem dX2_put_26 : decode cX2_put 26 = .ok (.return_, 1) := by decide +kernel
theorem dX2_put_27 : decode cX2_put 27 = .ok (.aload_n 0, 1) := by decide +kernel
theorem dX2_put_28 : decode cX2_put 28 = .ok (.getfield 9, 3) := by decide +kernel
theorem dX2_put_31 : decode cX2_put 31 = .ok (.iload_n 1, 1) := by decide +kernel
theorem dX2_put_32 : decode cX2_put 32 = .ok (.aload_n 0, 1) := by decide +kernel
theorem dX2_put_33 : decode cX2_put 33 = .ok (.getfield 22, 3) := by decide +kernel
theorem dX2_put_36 : decode cX2_put 36 = .ok (.iastore, 1) := by decide +kernel
theorem dX2_put_37 : decode cX2_put 37 = .ok (.aload_n 0, 1) := by decide +kernel
theorem dX2_put_38 : decode cX2_put 38 = .ok (.getfield 18, 3) := by decide +kernel
theorem dX2_put_41 : decode cX2_put 41 = .ok (.iload_n 1, 1) := by decide +kernel
theorem dX2_put_42 : decode cX2_put 42 = .ok (.invokevirtual 29, 3) := by decide +kernel
theorem dX2_put_45 : decode cX2_put 45 = .ok (.return_, 1) := by decide +kernel
theorem dX2_has_0 : decode cX2_has 0 = .ok (.iload_n 1, 1) := by decide +kernel
theorem dX2_has_1 : decode cX2_has 1 = .ok (.ifCond .lt 29, 3) := by decide +kernel
theorem dX2_has_4 : decode cX2_has 4 = .ok (.iload_n 1, 1) := by decide +kernel
theorem dX2_has_5 : decode cX2_has 5 = .ok (.aload_n 0, 1) := by decide +kernel
theorem dX2_has_6 : decode cX2_has 6 = .ok (.getfield 9, 3) := by decide +kernel
theorem dX2_has_9 : decode cX2_has 9 = .ok (.arraylength, 1) := by decide +kernel
theorem dX2_has_10 : decode cX2_has 10 = .ok (.if_icmp .ge 20, 3) := by decide +kernel
theorem dX2_has_13 : decode cX2_has 13 = .ok (.aload_n 0, 1) := by decide +kernel
theorem dX2_has_14 : decode cX2_has 14 = .ok (.getfield 9, 3) := by decide +kernel
theorem dX2_has_17 : decode cX2_has 17 = .ok (.iload_n 1, 1) := by decide +kernel
theorem dX2_has_18 : decode cX2_has 18 = .ok (.iaload, 1) := by decide +kernel
theorem dX2_has_19 : decode cX2_has 19 = .ok (.aload_n 0, 1) := by decide +kernel
theorem dX2_has_20 : decode cX2_has 20 = .ok (.getfield 22, 3) := by decide +kernel
theorem dX2_has_23 : decode cX2_has 23 = .ok (.if_icmp .ne 7, 3) := by decide +kernel
theorem dX2_has_26 : decode cX2_has 26 = .ok (.iconst 1, 1) := by decide +kernel
theorem dX2_has_27 : decode cX2_has 27 = .ok (.goto 4, 3) := by decide +kernel
theorem dX2_has_30 : decode cX2_has 30 = .ok (.iconst 0, 1) := by decide +kernel
theorem dX2_has_31 : decode cX2_has 31 = .ok (.ireturn, 1) := by decide +kernel
theorem dX2_answer_0 : decode cX2_answer 0 = .ok (.aload_n 0, 1) := by decide +kernel
theorem dX2_answer_1 : decode cX2_answer 1 = .ok (.getfield 18, 3) := by decide +kernel
theorem dX2_answer_4 : decode cX2_answer 4 = .ok (.iload_n 1, 1) := by decide +kernel
theorem dX2_answer_5 : decode cX2_answer 5 = .ok (.invokevirtual 47, 3) := by decide +kernel
theorem dX2_answer_8 : decode cX2_answer 8 = .ok (.ireturn, 1) := by decide +kernel
theorem dX2_putNumbers_0 : decode cX2_putNumbers 0 = .ok (.aload_n 2, 1) := by decide +kernel
theorem dX2_putNumbers_1 : decode cX2_putNumbers 1 = .ok (.iload_n 1, 1) := by decide +kernel
theorem dX2_putNumbers_2 : decode cX2_putNumbers 2 = .ok (.invokevirtual 33, 3) := by decide +kernel
theorem dX2_putNumbers_5 : decode cX2_putNumbers 5 = .ok (.ifCond .ne 4, 3) := by decide +kernel
theorem dX2_putNumbers_8 : decode cX2_putNumbers 8 = .ok (.return_, 1) := by decide +kernel
theorem dX2_putNumbers_9 : decode cX2_putNumbers 9 = .ok (.aload_n 0, 1) := by decide +kernel
theorem dX2_putNumbers_10 : decode cX2_putNumbers 10 = .ok (.aload_n 2, 1) := by decide +kernel
theorem dX2_putNumbers_11 : decode cX2_putNumbers 11 = .ok (.iload_n 1, 1) := by decide +kernel
theorem dX2_putNumbers_12 : decode cX2_putNumbers 12 = .ok (.invokevirtual 39, 3) := by decide +kernel
theorem dX2_putNumbers_15 : decode cX2_putNumbers 15 = .ok (.invokevirtual 43, 3) := by decide +kernel
theorem dX2_putNumbers_18 : decode cX2_putNumbers 18 = .ok (.aload_n 0, 1) := by decide +kernel
theorem dX2_putNumbers_19 : decode cX2_putNumbers 19 = .ok (.aload_n 2, 1) := by decide +kernel
theorem dX2_putNumbers_20 : decode cX2_putNumbers 20 = .ok (.iload_n 1, 1) := by decide +kernel
theorem dX2_putNumbers_21 : decode cX2_putNumbers 21 = .ok (.invokevirtual 44, 3) := by decide +kernel
theorem dX2_putNumbers_24 : decode cX2_putNumbers 24 = .ok (.invokevirtual 43, 3) := by decide +kernel
theorem dX2_putNumbers_27 : decode cX2_putNumbers 27 = .ok (.return_, 1) := by decide +kernel
theorem dX2_gatherOf_0 : decode cX2_gatherOf 0 = .ok (.aload_n 0, 1) := by decide +kernel
theorem dX2_gatherOf_1 : decode cX2_gatherOf 1 = .ok (.invokevirtual 50, 3) := by decide +kernel
theorem dX2_gatherOf_4 : decode cX2_gatherOf 4 = .ok (.iconst 0, 1) := by decide +kernel
theorem dX2_gatherOf_5 : decode cX2_gatherOf 5 = .ok (.istore 4, 2) := by decide +kernel
theorem dX2_gatherOf_7 : decode cX2_gatherOf 7 = .ok (.iload 4, 2) := by decide +kernel
theorem dX2_gatherOf_9 : decode cX2_gatherOf 9 = .ok (.aload_n 2, 1) := by decide +kernel
theorem dX2_gatherOf_10 : decode cX2_gatherOf 10 = .ok (.invokevirtual 51, 3) := by decide +kernel
theorem dX2_gatherOf_13 : decode cX2_gatherOf 13 = .ok (.if_icmp .ge 27, 3) := by decide +kernel
theorem dX2_gatherOf_16 : decode cX2_gatherOf 16 = .ok (.aload_n 2, 1) := by decide +kernel
theorem dX2_gatherOf_17 : decode cX2_gatherOf 17 = .ok (.iload 4, 2) := by decide +kernel
theorem dX2_gatherOf_19 : decode cX2_gatherOf 19 = .ok (.iload_n 1, 1) := by decide +kernel
theorem dX2_gatherOf_20 : decode cX2_gatherOf 20 = .ok (.iload_n 1, 1) := by decide +kernel
theorem dX2_gatherOf_21 : decode cX2_gatherOf 21 = .ok (.invokevirtual 55, 3) := by decide +kernel
theorem dX2_gatherOf_24 : decode cX2_gatherOf 24 = .ok (.ifCond .eq 10, 3) := by decide +kernel
theorem dX2_gatherOf_27 : decode cX2_gatherOf 27 = .ok (.aload_n 0, 1) := by decide +kernel
theorem dX2_gatherOf_28 : decode cX2_gatherOf 28 = .ok (.iload 4, 2) := by decide +kernel
theorem dX2_gatherOf_30 : decode cX2_gatherOf 30 = .ok (.aload_n 3, 1) := by decide +kernel
theorem dX2_gatherOf_31 : decode cX2_gatherOf 31 = .ok (.invokevirtual 59, 3) := by decide +kernel
theorem dX2_gatherOf_34 : decode cX2_gatherOf 34 = .ok (.iinc 4 1, 3) := by decide +kernel
theorem dX2_gatherOf_37 : decode cX2_gatherOf 37 = .ok (.goto (-30), 3) := by decide +kernel
theorem dX2_gatherOf_40 : decode cX2_gatherOf 40 = .ok (.return_, 1) := by decide +kernel
theorem dX2_gatherOfSet_0 : decode cX2_gatherOfSet 0 = .ok (.aload_n 0, 1) := by decide +kernel
theorem dX2_gatherOfSet_1 : decode cX2_gatherOfSet 1 = .ok (.invokevirtual 50, 3) := by decide +kernel
theorem dX2_gatherOfSet_4 : decode cX2_gatherOfSet 4 = .ok (.iconst 0, 1) := by decide +kernel
theorem dX2_gatherOfSet_5 : decode cX2_gatherOfSet 5 = .ok (.istore 4, 2) := by decide +kernel
theorem dX2_gatherOfSet_7 : decode cX2_gatherOfSet 7 = .ok (.iload 4, 2) := by decide +kernel
theorem dX2_gatherOfSet_9 : decode cX2_gatherOfSet 9 = .ok (.aload_n 2, 1) := by decide +kernel
theorem dX2_gatherOfSet_10 : decode cX2_gatherOfSet 10 = .ok (.invokevirtual 51, 3) := by decide +kernel
theorem dX2_gatherOfSet_13 : decode cX2_gatherOfSet 13 = .ok (.if_icmp .ge 42, 3) := by decide +kernel
theorem dX2_gatherOfSet_16 : decode cX2_gatherOfSet 16 = .ok (.aload_n 1, 1) := by decide +kernel
theorem dX2_gatherOfSet_17 : decode cX2_gatherOfSet 17 = .ok (.aload_n 2, 1) := by decide +kernel
theorem dX2_gatherOfSet_18 : decode cX2_gatherOfSet 18 = .ok (.iload 4, 2) := by decide +kernel
theorem dX2_gatherOfSet_20 : decode cX2_gatherOfSet 20 = .ok (.invokevirtual 39, 3) := by decide +kernel
theorem dX2_gatherOfSet_23 : decode cX2_gatherOfSet 23 = .ok (.invokevirtual 63, 3) := by decide +kernel
theorem dX2_gatherOfSet_26 : decode cX2_gatherOfSet 26 = .ok (.ifCond .ne 16, 3) := by decide +kernel
theorem dX2_gatherOfSet_29 : decode cX2_gatherOfSet 29 = .ok (.aload_n 1, 1) := by decide +kernel
theorem dX2_gatherOfSet_30 : decode cX2_gatherOfSet 30 = .ok (.aload_n 2, 1) := by decide +kernel
theorem dX2_gatherOfSet_31 : decode cX2_gatherOfSet 31 = .ok (.iload 4, 2) := by decide +kernel
theorem dX2_gatherOfSet_33 : decode cX2_gatherOfSet 33 = .ok (.invokevirtual 44, 3) := by decide +kernel
theorem dX2_gatherOfSet_36 : decode cX2_gatherOfSet 36 = .ok (.invokevirtual 63, 3) := by decide +kernel
theorem dX2_gatherOfSet_39 : decode cX2_gatherOfSet 39 = .ok (.ifCond .eq 10, 3) := by decide +kernel
theorem dX2_gatherOfSet_42 : decode cX2_gatherOfSet 42 = .ok (.aload_n 0, 1) := by decide +kernel
theorem dX2_gatherOfSet_43 : decode cX2_gatherOfSet 43 = .ok (.iload 4, 2) := by decide +kernel
theorem dX2_gatherOfSet_45 : decode cX2_gatherOfSet 45 = .ok (.aload_n 3, 1) := by decide +kernel
theorem dX2_gatherOfSet_46 : decode cX2_gatherOfSet 46 = .ok (.invokevirtual 59, 3) := by decide +kernel
theorem dX2_gatherOfSet_49 : decode cX2_gatherOfSet 49 = .ok (.iinc 4 1, 3) := by decide +kernel
theorem dX2_gatherOfSet_52 : decode cX2_gatherOfSet 52 = .ok (.goto (-45), 3) := by decide +kernel
theorem dX2_gatherOfSet_55 : decode cX2_gatherOfSet 55 = .ok (.return_, 1) := by decide +kernel
def w_X2_clear : List Cond := .code yX2_clear cX2_clear 1 none :: ([.fieldLink RX2 22 "LineCites$NumberSet" "round" "I", .fieldLink RX2 18 "LineCites$NumberSet" "span" "LLineCites$Span;", .methodLink RX2 26 yX5_clear, .instanceMethod yX5_clear, .selects RX5 yX5_clear yX5_clear, .initialized RX5, .code yX5_clear cX5_clear 1 none, .fieldLink RX5 9 "LineCites$Span" "size" "I"] ++ wsX20 ++ wsX50)
set_option maxRecDepth 20000 in
theorem g_X2_clear_X5_clear : GoodIn w_X2_clear (wsV RX2 26 RX5 yX5_clear w_X5_clear) := goodIn_r _ [3, 4, 5, 6, 7, 8, 12, 13, 14] rfl (by decide +kernel)
set_option maxHeartbeats 4000000 in
set_option maxRecDepth 100000 in
theorem c_X2_clear (l : Launch) (D : va_G) (h0 : Nat) (d_m : Nat) (d_sp : Nat) (d_r : Int32) (d_s : Int32) (d_l : Int32) (d_g : Int32) (sz : Nat) : Met l yX2_clear w_X2_clear ({ frames := 1, cells := 0, slots := 0, locals := 20 }) (va_Pc [.ref h0] (fun U => U.heap.size = sz ∧ va_P D vwCl [(h0, .inr (2, [.ref d_m, .ref d_sp, .int d_r])), (d_sp, .inr (5, [.int d_s, .int d_l, .int d_g]))] U.heap ∧ va_K D vwCl [] U ∧ va_D (fun _ => True) [(h0, .inr (2, [.ref d_m, .ref d_sp, .int d_r])), (d_sp, .inr (5, [.int d_s, .int d_l, .int d_g]))])) (va_Qv (fun (_ : Unit) => True) (fun (_ : Unit) t => ∃ (n_r : Int32) (n_s : Int32) (n_l : Int32) (n_g : Int32), va_P D vwCl [(h0, .inr (2, [.ref d_m, .ref d_sp, .int n_r])), (d_sp, .inr (5, [.int n_s, .int n_l, .int n_g]))] t.heap ∧ va_K D vwCl [] t ∧ va_D (va_A [(h0, .inr (2, [.ref d_m, .ref d_sp, .int d_r])), (d_sp, .inr (5, [.int d_s, .int d_l, .int d_g]))] sz) [(h0, .inr (2, [.ref d_m, .ref d_sp, .int n_r])), (d_sp, .inr (5, [.int n_s, .int n_l, .int n_g]))]) (va_A [(h0, .inr (2, [.ref d_m, .ref d_sp, .int d_r])), (d_sp, .inr (5, [.int d_s, .int d_l, .int d_g]))] sz)) 0 0 (va_A [(h0, .inr (2, [.ref d_m, .ref d_sp, .int d_r])), (d_sp, .inr (5, [.int d_s, .int d_l, .int d_g]))] sz) := by
  refine Met.ofW (cc := cX2_clear) (maxL := 1) (ret := none) (by decide) rfl ?_
  intro p e s m args below meth c s₁ B hml hv
  obtain ⟨rfl, hsz, hP, hK, hD0⟩ := hv
  have hx := B.exec
  have hb := B.bytes
  have hr := B.returns
  have hts := atoms_spec (ws := w_X2_clear) B.pre
  have hown : s.vm.findClass RX2 = some m.cls := findClass_of_methodNamed B.named
  have hlocks := B.notSynchronized
  subst hsz
  have hD := hD0.self (sz := s.heap.size)
  generalize hAe : va_A [(h0, .inr (2, [.ref d_m, .ref d_sp, .int d_r])), (d_sp, .inr (5, [.int d_s, .int d_l, .int d_g]))] s.heap.size = A at hD ⊢
  have hA : ∀ q : Nat, s.heap.size ≤ q → A q := fun q h => by rw [← hAe]; exact Or.inr h
  have hS : va_S A s.heap s.heap [] := va_S.rf
  have hP : va_P D vwCl [(h0, .inr (2, [.ref d_m, .ref d_sp, .int d_r])), (d_sp, .inr (5, [.int d_s, .int d_l, .int d_g]))] s.heap := hP
  have hl := lv_entry ([.ref h0]) (n := 1) (Nat.le_of_ble_eq_true rfl)
  rw [lg_entry_eq]
  generalize (lg_sl ([.ref h0]) ++ List.replicate (1 - (lg_sl ([.ref h0])).length) Slot.unset).toArray = ls at hl ⊢
  have hl : lv_has ls 1 [(0, .ref h0)] := hl
  obtain ⟨H, hHe⟩ : ∃ H : Heap, H = s.heap := ⟨_, rfl⟩
  rw [← hHe] at hP
  have hS : va_S A s.heap H [] := by rw [hHe]; exact hS
  refine pw_heap hHe ?_
  refine lv_aload_n hx hb dX2_clear_0 rfl (lv_at hl 0 rfl) ?_
  refine lv_dup hx hb dX2_clear_1 rfl ?_
  refine va_get (D := D) (ci := 2) (v := .int d_r) (C := RX2) (T := TX2) (N := 3) hx hb hts (fun _ h => List.mem_cons_of_mem _ (List.mem_append_left _ (List.mem_append_right _ h))) hown hK hP 0 rfl rfl 2 (by decide) (hts (.fieldLink RX2 22 "LineCites$NumberSet" "round" "I") (List.mem_of_getElem? (i := 1) rfl)) (fun _ h9 => h9) rfl dX2_clear_2 ?_
  refine lv_iconst (v := 1) hx hb dX2_clear_5 (by decide) ?_
  refine lv_iadd hx hb dX2_clear_6 ?_
  refine lv_topi (fun x1 ex1 => ?_)
  refine va_put (D := D) (ci := 2) (v := .int x1) (ty := .int) (C := RX2) (T := TX2) (N := 3) hx hb hts (fun _ h => List.mem_cons_of_mem _ (List.mem_append_left _ (List.mem_append_right _ h))) tyX2 tyX2_ok nmX2 hown hK hP hD hS 0 rfl rfl 2 (by decide) (hts (.fieldLink RX2 22 "LineCites$NumberSet" "round" "I") (List.mem_of_getElem? (i := 1) rfl)) (fun _ h9 => h9) rfl (by decide +kernel) rfl rfl (Nat.le_of_ble_eq_true rfl) dX2_clear_7 (fun H locs hP hD hS => ?_)
  have hP : va_P D vwCl [(h0, .inr (2, [.ref d_m, .ref d_sp, .int x1])), (d_sp, .inr (5, [.int d_s, .int d_l, .int d_g]))] H := hP
  have hD : va_D A [(h0, .inr (2, [.ref d_m, .ref d_sp, .int x1])), (d_sp, .inr (5, [.int d_s, .int d_l, .int d_g]))] := hD
  have hK : va_K D vwCl [] s := hK
  refine lv_aload_n hx hb dX2_clear_10 rfl (lv_at hl 0 rfl) ?_
  refine va_get (D := D) (ci := 2) (v := .ref d_sp) (C := RX2) (T := TX2) (N := 3) hx hb hts (fun _ h => List.mem_cons_of_mem _ (List.mem_append_left _ (List.mem_append_right _ h))) hown hK hP 0 rfl rfl 1 (by decide) (hts (.fieldLink RX2 18 "LineCites$NumberSet" "span" "LLineCites$Span;") (List.mem_of_getElem? (i := 2) rfl)) (fun _ h9 => h9) rfl dX2_clear_11 ?_
  have hPc := hP.sub (ws' := [(d_sp, .inr (5, [.int d_s, .int d_l, .int d_g]))]) [1] rfl
  have hKc := hK.sub (tys' := []) [] rfl
  have hDc := hD.sub (ws' := [(d_sp, .inr (5, [.int d_s, .int d_l, .int d_g]))]) [1] (by decide) rfl
  have hFc := va_free (wc := [(d_sp, .inr (5, [.int d_s, .int d_l, .int d_g]))]) hD hS hA [1] rfl
  refine va_callv (va_runV (As := []) (rest := []) ⟨hx, hb, hml, hown, hts⟩ (c_X5_clear l D d_sp d_s d_l d_g H.size) (cwV 0 hts g_X2_clear_X5_clear rfl rfl rfl (by decide +kernel) ⟨Nat.le_of_ble_eq_true rfl, Nat.le_of_ble_eq_true rfl⟩) ⟨fun a U g mk q => by obtain ⟨q0, q1, qP, qK, qD⟩ := q; exact ⟨q0, q1, qP, va_K.moved (u := U) (U := U.calling g mk a) (Vm.Alike.refl U.vm) qK, qD⟩, va_recv hKc hPc (ci := 5) (q0 := 0) rfl rfl, fun U hU hW => ⟨rfl, by rw [hU], by rw [hU]; exact hPc, va_K.moved hW.alike hKc, hDc.weaken (fun _ _ _ _ => trivial)⟩⟩ rfl rfl hl.1 rfl (lv_room (Nat.le_of_ble_eq_true rfl)) dX2_clear_14 ⟨Nat.le_of_ble_eq_true rfl, Nat.le_of_ble_eq_true rfl⟩) hS (fun q _ h => hFc q h) hFc (fun u t H1 locs ht hvm hw hB hz1 hk1 hS => ?_)
  obtain ⟨y3, y4, y5, hP1, hK1, hD1⟩ := hB
  rw [ht] at hP1
  have hK1 := va_K.moved hvm.symm hK1
  obtain ⟨hP, hD⟩ := va_join (wr := [(h0, .inr (2, [.ref d_m, .ref d_sp, .int x1]))]) (w1 := [(d_sp, .inr (5, [.int y3, .int y4, .int y5]))]) hP hD [1] [0] rfl rfl (by decide) (by decide) hk1 hFc hP1 hD1
  have hK := (hK.sub (tys' := []) [] rfl).app hK1
  generalize H1 = H at hP hS ⊢
  have hP : va_P D vwCl [(h0, .inr (2, [.ref d_m, .ref d_sp, .int x1])), (d_sp, .inr (5, [.int y3, .int y4, .int y5]))] H := hP
  have hD : va_D A [(h0, .inr (2, [.ref d_m, .ref d_sp, .int x1])), (d_sp, .inr (5, [.int y3, .int y4, .int y5]))] := hD
  have hK : va_K D vwCl [] s := hK
  refine W.widen (k := 0) (n := 0) (Nat.le_of_ble_eq_true rfl) (Nat.le_of_ble_eq_true rfl) ?_
  have hP9 := hP.sub (ws' := [(h0, .inr (2, [.ref d_m, .ref d_sp, .int x1])), (d_sp, .inr (5, [.int y3, .int y4, .int y5]))]) [0, 1] rfl
  have hD9 := hD.sub (ws' := [(h0, .inr (2, [.ref d_m, .ref d_sp, .int x1])), (d_sp, .inr (5, [.int y3, .int y4, .int y5]))]) [0, 1] (by decide) rfl
  have hK9 := hK.sub (tys' := []) [] rfl
  refine W.widen (k := 0) (n := 0) (Nat.le_of_ble_eq_true rfl) (Nat.le_of_ble_eq_true rfl) ?_
  exact W.vret hx hb hr (fun t ht hW => ⟨⟨(), rfl, trivial, x1, y3, y4, y5, by rw [ht]; exact hP9, va_K.moved hW.alike hK9, hD9⟩, hS.F ht⟩) hS.2.2 dX2_clear_17
def w_X2_put : List Cond := .code yX2_put cX2_put 2 none :: ([.fieldLink RX2 9 "LineCites$NumberSet" "marks" "[I", .fieldLink RX2 22 "LineCites$NumberSet" "round" "I", .fieldLink RX2 18 "LineCites$NumberSet" "span" "LLineCites$Span;", .methodLink RX2 29 yX5_put, .instanceMethod yX5_put, .selects RX5 yX5_put yX5_put, .initialized RX5, .code yX5_put cX5_put 2 none, .fieldLink RX5 9 "LineCites$Span" "size" "I", .fieldLink RX5 15 "LineCites$Span" "least" "I", .fieldLink RX5 18 "LineCites$Span" "greatest" "I"] ++ wsX20 ++ wsX50)
set_option maxRecDepth 20000 in
theorem g_X2_put_X5_put : GoodIn w_X2_put (wsV RX2 29 RX5 yX5_put w_X5_put) := goodIn_r _ [4, 5, 6, 7, 8, 9, 10, 11, 15, 16, 17] rfl (by decide +kernel)
set_option maxHeartbeats 4000000 in
set_option maxRecDepth 100000 in
theorem c_X2_put (l : Launch) (D : va_G) (h0 : Nat) (i_n : Int32) (d_m : Nat) (d_sp : Nat) (d_r : Int32) (kI : ClassId) (g_d_m : Nat → Int32) (d_s : Int32) (d_l : Int32) (d_g : Int32) (sz : Nat) : Met l yX2_put w_X2_put ({ frames := 1, cells := 0, slots := 0, locals := 21 }) (va_Pc [.ref h0, .int i_n] (fun U => U.heap.size = sz ∧ va_P D vwCl [(h0, .inr (2, [.ref d_m, .ref d_sp, .int d_r])), (d_m, .inl (kI, 1000, .inl g_d_m)), (d_sp, .inr (5, [.int d_s, .int d_l, .int d_g]))] U.heap ∧ va_K D vwCl [(kI, .int)] U ∧ va_D (fun _ => True) [(h0, .inr (2, [.ref d_m, .ref d_sp, .int d_r])), (d_m, .inl (kI, 1000, .inl g_d_m)), (d_sp, .inr (5, [.int d_s, .int d_l, .int d_g]))])) (va_Qv (fun (_ : Unit) => True) (fun (_ : Unit) t => ∃ (n_m : Nat → Int32) (n_s : Int32) (n_l : Int32) (n_g : Int32), va_P D vwCl [(h0, .inr (2, [.ref d_m, .ref d_sp, .int d_r])), (d_m, .inl (kI, 1000, .inl n_m)), (d_sp, .inr (5, [.int n_s, .int n_l, .int n_g]))] t.heap ∧ va_K D vwCl [(kI, .int)] t ∧ va_D (va_A [(h0, .inr (2, [.ref d_m, .ref d_sp, .int d_r])), (d_m, .inl (kI, 1000, .inl g_d_m)), (d_sp, .inr (5, [.int d_s, .int d_l, .int d_g]))] sz) [(h0, .inr (2, [.ref d_m, .ref d_sp, .int d_r])), (d_m, .inl (kI, 1000, .inl n_m)), (d_sp, .inr (5, [.int n_s, .int n_l, .int n_g]))]) (va_A [(h0, .inr (2, [.ref d_m, .ref d_sp, .int d_r])), (d_m, .inl (kI, 1000, .inl g_d_m)), (d_sp, .inr (5, [.int d_s, .int d_l, .int d_g]))] sz)) 0 0 (va_A [(h0, .inr (2, [.ref d_m, .ref d_sp, .int d_r])), (d_m, .inl (kI, 1000, .inl g_d_m)), (d_sp, .inr (5, [.int d_s, .int d_l, .int d_g]))] sz) := by
  refine Met.ofW (cc := cX2_put) (maxL := 2) (ret := none) (by decide) rfl ?_
  intro p e s m args below meth c s₁ B hml hv
  obtain ⟨rfl, hsz, hP, hK, hD0⟩ := hv
  have hx := B.exec
  have hb := B.bytes
  have hr := B.returns
  have hts := atoms_spec (ws := w_X2_put) B.pre
  have hown : s.vm.findClass RX2 = some m.cls := findClass_of_methodNamed B.named
  have hlocks := B.notSynchronized
  subst hsz
  have hD := hD0.self (sz := s.heap.size)
  generalize hAe : va_A [(h0, .inr (2, [.ref d_m, .ref d_sp, .int d_r])), (d_m, .inl (kI, 1000, .inl g_d_m)), (d_sp, .inr (5, [.int d_s, .int d_l, .int d_g]))] s.heap.size = A at hD ⊢
  have hA : ∀ q : Nat, s.heap.size ≤ q → A q := fun q h => by rw [← hAe]; exact Or.inr h
  have hS : va_S A s.heap s.heap [] := va_S.rf
  have hP : va_P D vwCl [(h0, .inr (2, [.ref d_m, .ref d_sp, .int d_r])), (d_m, .inl (kI, 1000, .inl g_d_m)), (d_sp, .inr (5, [.int d_s, .int d_l, .int d_g]))] s.heap := hP
  have hl := lv_entry ([.ref h0, .int i_n]) (n := 2) (Nat.le_of_ble_eq_true rfl)
  rw [lg_entry_eq]
  generalize (lg_sl ([.ref h0, .int i_n]) ++ List.replicate (2 - (lg_sl ([.ref h0, .int i_n])).length) Slot.unset).toArray = ls at hl ⊢
  have hl : lv_has ls 2 [(0, .ref h0), (1, .int i_n)] := hl
  obtain ⟨H, hHe⟩ : ∃ H : Heap, H = s.heap := ⟨_, rfl⟩
  rw [← hHe] at hP
  have hS : va_S A s.heap H [] := by rw [hHe]; exact hS
  refine pw_heap hHe ?_
  refine lv_iload_n hx hb dX2_put_0 rfl (lv_at hl 1 rfl) ?_
  refine lv_if_lt (tgt := 26) hx hb dX2_put_1 (by decide) (fun c1 => ?_) (fun c1 => ?_)
  · have nc1 : i_n.toInt < 0 := pw_lt c1 rfl (by decide)
    have hP9 := hP.sub (ws' := [(h0, .inr (2, [.ref d_m, .ref d_sp, .int d_r])), (d_m, .inl (kI, 1000, .inl g_d_m)), (d_sp, .inr (5, [.int d_s, .int d_l, .int d_g]))]) [0, 1, 2] rfl
    have hD9 := hD.sub (ws' := [(h0, .inr (2, [.ref d_m, .ref d_sp, .int d_r])), (d_m, .inl (kI, 1000, .inl g_d_m)), (d_sp, .inr (5, [.int d_s, .int d_l, .int d_g]))]) [0, 1, 2] (by decide) rfl
    have hK9 := hK.sub (tys' := [(kI, .int)]) [0] rfl
    refine W.widen (k := 0) (n := 0) (Nat.le_of_ble_eq_true rfl) (Nat.le_of_ble_eq_true rfl) ?_
    exact W.vret hx hb hr (fun t ht hW => ⟨⟨(), rfl, trivial, g_d_m, d_s, d_l, d_g, by rw [ht]; exact hP9, va_K.moved hW.alike hK9, hD9⟩, hS.F ht⟩) hS.2.2 dX2_put_26
  · have nc1 : 0 ≤ i_n.toInt := pw_nlt c1 rfl (by decide)
    refine lv_iload_n hx hb dX2_put_4 rfl (lv_at hl 1 rfl) ?_
    refine lv_aload_n hx hb dX2_put_5 rfl (lv_at hl 0 rfl) ?_
    refine va_get (D := D) (ci := 2) (v := .ref d_m) (C := RX2) (T := TX2) (N := 3) hx hb hts (fun _ h => List.mem_cons_of_mem _ (List.mem_append_left _ (List.mem_append_right _ h))) hown hK hP 0 rfl rfl 0 (by decide) (hts (.fieldLink RX2 9 "LineCites$NumberSet" "marks" "[I") (List.mem_of_getElem? (i := 1) rfl)) (fun _ h9 => h9) rfl dX2_put_6 ?_
    refine va_alen (v := 1000) hx hb hK hP 1 0 rfl rfl rfl dX2_put_9 ?_
    refine lv_icmp_ge (tgt := 26) hx hb dX2_put_10 (by decide) (fun c2 => ?_) (fun c2 => ?_)
    · have nc2 : 1000 ≤ i_n.toInt := pw_le c2 (by decide) rfl
      have hP9 := hP.sub (ws' := [(h0, .inr (2, [.ref d_m, .ref d_sp, .int d_r])), (d_m, .inl (kI, 1000, .inl g_d_m)), (d_sp, .inr (5, [.int d_s, .int d_l, .int d_g]))]) [0, 1, 2] rfl
      have hD9 := hD.sub (ws' := [(h0, .inr (2, [.ref d_m, .ref d_sp, .int d_r])), (d_m, .inl (kI, 1000, .inl g_d_m)), (d_sp, .inr (5, [.int d_s, .int d_l, .int d_g]))]) [0, 1, 2] (by decide) rfl
      have hK9 := hK.sub (tys' := [(kI, .int)]) [0] rfl
      refine W.widen (k := 0) (n := 0) (Nat.le_of_ble_eq_true rfl) (Nat.le_of_ble_eq_true rfl) ?_
      exact W.vret hx hb hr (fun t ht hW => ⟨⟨(), rfl, trivial, g_d_m, d_s, d_l, d_g, by rw [ht]; exact hP9, va_K.moved hW.alike hK9, hD9⟩, hS.F ht⟩) hS.2.2 dX2_put_26
    · have nc2 : i_n.toInt < 1000 := pw_nle c2 (by decide) rfl
      refine lv_aload_n hx hb dX2_put_13 rfl (lv_at hl 0 rfl) ?_
      refine va_get (D := D) (ci := 2) (v := .ref d_m) (C := RX2) (T := TX2) (N := 3) hx hb hts (fun _ h => List.mem_cons_of_mem _ (List.mem_append_left _ (List.mem_append_right _ h))) hown hK hP 0 rfl rfl 0 (by decide) (hts (.fieldLink RX2 9 "LineCites$NumberSet" "marks" "[I") (List.mem_of_getElem? (i := 1) rfl)) (fun _ h9 => h9) rfl dX2_put_14 ?_
      refine lv_iload_n hx hb dX2_put_17 rfl (lv_at hl 1 rfl) ?_
      refine va_iald hx hb hK hP 1 0 rfl rfl (vp_in_iff.mpr ⟨by omega, by omega⟩) dX2_put_18 ?_
      refine lv_topi (fun x3 ex3 => ?_)
      refine lv_aload_n hx hb dX2_put_19 rfl (lv_at hl 0 rfl) ?_
      refine va_get (D := D) (ci := 2) (v := .int d_r) (C := RX2) (T := TX2) (N := 3) hx hb hts (fun _ h => List.mem_cons_of_mem _ (List.mem_append_left _ (List.mem_append_right _ h))) hown hK hP 0 rfl rfl 2 (by decide) (hts (.fieldLink RX2 22 "LineCites$NumberSet" "round" "I") (List.mem_of_getElem? (i := 2) rfl)) (fun _ h9 => h9) rfl dX2_put_20 ?_
      refine lv_icmp_ne (tgt := 27) hx hb dX2_put_23 (by decide) (fun c4 => ?_) (fun c4 => ?_)
      · have nc4 : x3.toInt ≠ d_r.toInt := pw_ne c4 rfl rfl
        have mc4x3 := pw_max x3
        have mc4d_r := pw_max d_r
        refine lv_aload_n hx hb dX2_put_27 rfl (lv_at hl 0 rfl) ?_
        refine va_get (D := D) (ci := 2) (v := .ref d_m) (C := RX2) (T := TX2) (N := 3) hx hb hts (fun _ h => List.mem_cons_of_mem _ (List.mem_append_left _ (List.mem_append_right _ h))) hown hK hP 0 rfl rfl 0 (by decide) (hts (.fieldLink RX2 9 "LineCites$NumberSet" "marks" "[I") (List.mem_of_getElem? (i := 1) rfl)) (fun _ h9 => h9) rfl dX2_put_28 ?_
        refine lv_iload_n hx hb dX2_put_31 rfl (lv_at hl 1 rfl) ?_
        refine lv_aload_n hx hb dX2_put_32 rfl (lv_at hl 0 rfl) ?_
        refine va_get (D := D) (ci := 2) (v := .int d_r) (C := RX2) (T := TX2) (N := 3) hx hb hts (fun _ h => List.mem_cons_of_mem _ (List.mem_append_left _ (List.mem_append_right _ h))) hown hK hP 0 rfl rfl 2 (by decide) (hts (.fieldLink RX2 22 "LineCites$NumberSet" "round" "I") (List.mem_of_getElem? (i := 2) rfl)) (fun _ h9 => h9) rfl dX2_put_33 ?_
        refine va_iast hx hb hK hP hD hS 1 0 rfl rfl (vp_in_iff.mpr ⟨by omega, by omega⟩) dX2_put_36 (fun H locs hP hD hS => ?_)
        obtain ⟨g5, eg5⟩ : ∃ g : Nat → Int32, g = upd g_d_m (i_n : Int32).toNatClampNeg d_r := ⟨_, rfl⟩
        have hP : va_P D vwCl [(h0, .inr (2, [.ref d_m, .ref d_sp, .int d_r])), (d_m, .inl (kI, 1000, .inl (upd g_d_m (i_n : Int32).toNatClampNeg d_r))), (d_sp, .inr (5, [.int d_s, .int d_l, .int d_g]))] H := hP
        have hD : va_D A [(h0, .inr (2, [.ref d_m, .ref d_sp, .int d_r])), (d_m, .inl (kI, 1000, .inl (upd g_d_m (i_n : Int32).toNatClampNeg d_r))), (d_sp, .inr (5, [.int d_s, .int d_l, .int d_g]))] := hD
        have hK : va_K D vwCl [(kI, .int)] s := hK
        rw [← eg5] at hP hD
        refine lv_aload_n hx hb dX2_put_37 rfl (lv_at hl 0 rfl) ?_
        refine va_get (D := D) (ci := 2) (v := .ref d_sp) (C := RX2) (T := TX2) (N := 3) hx hb hts (fun _ h => List.mem_cons_of_mem _ (List.mem_append_left _ (List.mem_append_right _ h))) hown hK hP 0 rfl rfl 1 (by decide) (hts (.fieldLink RX2 18 "LineCites$NumberSet" "span" "LLineCites$Span;") (List.mem_of_getElem? (i := 3) rfl)) (fun _ h9 => h9) rfl dX2_put_38 ?_
        refine lv_iload_n hx hb dX2_put_41 rfl (lv_at hl 1 rfl) ?_
        have hPc := hP.sub (ws' := [(d_sp, .inr (5, [.int d_s, .int d_l, .int d_g]))]) [2] rfl
        have hKc := hK.sub (tys' := []) [] rfl
        have hDc := hD.sub (ws' := [(d_sp, .inr (5, [.int d_s, .int d_l, .int d_g]))]) [2] (by decide) rfl
        have hFc := va_free (wc := [(d_sp, .inr (5, [.int d_s, .int d_l, .int d_g]))]) hD hS hA [2] rfl
        refine va_callv (va_runV (As := [.int i_n]) (rest := []) ⟨hx, hb, hml, hown, hts⟩ (c_X5_put l D d_sp i_n d_s d_l d_g H.size) (cwV 1 hts g_X2_put_X5_put rfl rfl rfl (by decide +kernel) ⟨Nat.le_of_ble_eq_true rfl, Nat.le_of_ble_eq_true rfl⟩) ⟨fun a U g mk q => by obtain ⟨q0, q1, qP, qK, qD⟩ := q; exact ⟨q0, q1, qP, va_K.moved (u := U) (U := U.calling g mk a) (Vm.Alike.refl U.vm) qK, qD⟩, va_recv hKc hPc (ci := 5) (q0 := 0) rfl rfl, fun U hU hW => ⟨rfl, by rw [hU], by rw [hU]; exact hPc, va_K.moved hW.alike hKc, hDc.weaken (fun _ _ _ _ => trivial)⟩⟩ rfl rfl hl.1 rfl (lv_room (Nat.le_of_ble_eq_true rfl)) dX2_put_42 ⟨Nat.le_of_ble_eq_true rfl, Nat.le_of_ble_eq_true rfl⟩) hS (fun q _ h => hFc q h) hFc (fun u t H1 locs ht hvm hw hB hz1 hk1 hS => ?_)
        obtain ⟨y7, y8, y9, hP1, hK1, hD1⟩ := hB
        rw [ht] at hP1
        have hK1 := va_K.moved hvm.symm hK1
        obtain ⟨hP, hD⟩ := va_join (wr := [(h0, .inr (2, [.ref d_m, .ref d_sp, .int d_r])), (d_m, .inl (kI, 1000, .inl g5))]) (w1 := [(d_sp, .inr (5, [.int y7, .int y8, .int y9]))]) hP hD [2] [0, 1] rfl rfl (by decide) (by decide) hk1 hFc hP1 hD1
        have hK := (hK.sub (tys' := [(kI, .int)]) [0] rfl).app hK1
        generalize H1 = H at hP hS ⊢
        have hP : va_P D vwCl [(h0, .inr (2, [.ref d_m, .ref d_sp, .int d_r])), (d_m, .inl (kI, 1000, .inl g5)), (d_sp, .inr (5, [.int y7, .int y8, .int y9]))] H := hP
        have hD : va_D A [(h0, .inr (2, [.ref d_m, .ref d_sp, .int d_r])), (d_m, .inl (kI, 1000, .inl g5)), (d_sp, .inr (5, [.int y7, .int y8, .int y9]))] := hD
        have hK : va_K D vwCl [(kI, .int)] s := hK
        refine W.widen (k := 0) (n := 0) (Nat.le_of_ble_eq_true rfl) (Nat.le_of_ble_eq_true rfl) ?_
        have hP9 := hP.sub (ws' := [(h0, .inr (2, [.ref d_m, .ref d_sp, .int d_r])), (d_m, .inl (kI, 1000, .inl g5)), (d_sp, .inr (5, [.int y7, .int y8, .int y9]))]) [0, 1, 2] rfl
        have hD9 := hD.sub (ws' := [(h0, .inr (2, [.ref d_m, .ref d_sp, .int d_r])), (d_m, .inl (kI, 1000, .inl g5)), (d_sp, .inr (5, [.int y7, .int y8, .int y9]))]) [0, 1, 2] (by decide) rfl
        have hK9 := hK.sub (tys' := [(kI, .int)]) [0] rfl
        refine W.widen (k := 0) (n := 0) (Nat.le_of_ble_eq_true rfl) (Nat.le_of_ble_eq_true rfl) ?_
        exact W.vret hx hb hr (fun t ht hW => ⟨⟨(), rfl, trivial, g5, y7, y8, y9, by rw [ht]; exact hP9, va_K.moved hW.alike hK9, hD9⟩, hS.F ht⟩) hS.2.2 dX2_put_45
      · have nc4 : x3.toInt = d_r.toInt := pw_eq c4 rfl rfl
        have mc4x3 := pw_max x3
        have mc4d_r := pw_max d_r
        have hP9 := hP.sub (ws' := [(h0, .inr (2, [.ref d_m, .ref d_sp, .int d_r])), (d_m, .inl (kI, 1000, .inl g_d_m)), (d_sp, .inr (5, [.int d_s, .int d_l, .int d_g]))]) [0, 1, 2] rfl
        have hD9 := hD.sub (ws' := [(h0, .inr (2, [.ref d_m, .ref d_sp, .int d_r])), (d_m, .inl (kI, 1000, .inl g_d_m)), (d_sp, .inr (5, [.int d_s, .int d_l, .int d_g]))]) [0, 1, 2] (by decide) rfl
        have hK9 := hK.sub (tys' := [(kI, .int)]) [0] rfl
        refine W.widen (k := 0) (n := 0) (Nat.le_of_ble_eq_true rfl) (Nat.le_of_ble_eq_true rfl) ?_
        exact W.vret hx hb hr (fun t ht hW => ⟨⟨(), rfl, trivial, g_d_m, d_s, d_l, d_g, by rw [ht]; exact hP9, va_K.moved hW.alike hK9, hD9⟩, hS.F ht⟩) hS.2.2 dX2_put_26
def w_X2_has : List Cond := .code yX2_has cX2_has 2 (some .boolean) :: ([.fieldLink RX2 9 "LineCites$NumberSet" "marks" "[I", .fieldLink RX2 22 "LineCites$NumberSet" "round" "I"] ++ wsX20)
set_option maxHeartbeats 4000000 in
set_option maxRecDepth 100000 in
theorem c_X2_has (l : Launch) (D : va_G) (h0 : Nat) (i_n : Int32) (d_m : Nat) (d_sp : Nat) (d_r : Int32) (kI : ClassId) (g_d_m : Nat → Int32) : Met l yX2_has w_X2_has ({ frames := 0, cells := 0, slots := 0, locals := 0 }) (va_Pc [.ref h0, .int i_n] (fun U => va_P D vwCl [(h0, .inr (2, [.ref d_m, .ref d_sp, .int d_r])), (d_m, .inl (kI, 1000, .inl g_d_m))] U.heap ∧ va_K D vwCl [(kI, .int)] U)) (va_Qi (fun (r : Int32) (_ : Unit) => (r = 0 ∨ r = 1) ∧ True) (fun _ _ => True) (fun _ => False)) 0 0 (fun _ => False) := by
  refine Met.ofW (cc := cX2_has) (maxL := 2) (ret := (some .boolean)) (by decide) rfl ?_
  intro p e s m args below meth c s₁ B hml hv
  obtain ⟨rfl, hP, hK⟩ := hv
  have hx := B.exec
  have hb := B.bytes
  have hr := B.returns
  have hts := atoms_spec (ws := w_X2_has) B.pre
  have hown : s.vm.findClass RX2 = some m.cls := findClass_of_methodNamed B.named
  have hlocks := B.notSynchronized
  have hS : va_S (fun _ : Nat => False) s.heap s.heap [] := va_S.rf
  have hP : va_P D vwCl [(h0, .inr (2, [.ref d_m, .ref d_sp, .int d_r])), (d_m, .inl (kI, 1000, .inl g_d_m))] s.heap := hP
  have hl := lv_entry ([.ref h0, .int i_n]) (n := 2) (Nat.le_of_ble_eq_true rfl)
  rw [lg_entry_eq]
  generalize (lg_sl ([.ref h0, .int i_n]) ++ List.replicate (2 - (lg_sl ([.ref h0, .int i_n])).length) Slot.unset).toArray = ls at hl ⊢
  have hl : lv_has ls 2 [(0, .ref h0), (1, .int i_n)] := hl
  obtain ⟨H, hHe⟩ : ∃ H : Heap, H = s.heap := ⟨_, rfl⟩
  rw [← hHe] at hP
  have hS : va_S (fun _ : Nat => False) s.heap H [] := by rw [hHe]; exact hS
  refine pw_heap hHe ?_
  refine lv_iload_n hx hb dX2_has_0 rfl (lv_at hl 1 rfl) ?_
  refine lv_if_lt (tgt := 30) hx hb dX2_has_1 (by decide) (fun c1 => ?_) (fun c1 => ?_)
  · have nc1 : i_n.toInt < 0 := pw_lt c1 rfl (by decide)
    refine lv_iconst (v := 0) hx hb dX2_has_30 (by decide) ?_
    exact W.zret (v := 0) (ty := .boolean) hx hb hr rfl (fun t ht hW => ⟨⟨0, (), rfl, ⟨Or.inl rfl, trivial⟩, trivial⟩, hS.F ht⟩) hS.2.2 dX2_has_31
  · have nc1 : 0 ≤ i_n.toInt := pw_nlt c1 rfl (by decide)
    refine lv_iload_n hx hb dX2_has_4 rfl (lv_at hl 1 rfl) ?_
    refine lv_aload_n hx hb dX2_has_5 rfl (lv_at hl 0 rfl) ?_
    refine va_get (D := D) (ci := 2) (v := .ref d_m) (C := RX2) (T := TX2) (N := 3) hx hb hts (fun _ h => List.mem_cons_of_mem _ (List.mem_append_right _ h)) hown hK hP 0 rfl rfl 0 (by decide) (hts (.fieldLink RX2 9 "LineCites$NumberSet" "marks" "[I") (List.mem_of_getElem? (i := 1) rfl)) (fun _ h9 => h9) rfl dX2_has_6 ?_
    refine va_alen (v := 1000) hx hb hK hP 1 0 rfl rfl rfl dX2_has_9 ?_
    refine lv_icmp_ge (tgt := 30) hx hb dX2_has_10 (by decide) (fun c2 => ?_) (fun c2 => ?_)
    · have nc2 : 1000 ≤ i_n.toInt := pw_le c2 (by decide) rfl
      refine lv_iconst (v := 0) hx hb dX2_has_30 (by decide) ?_
      exact W.zret (v := 0) (ty := .boolean) hx hb hr rfl (fun t ht hW => ⟨⟨0, (), rfl, ⟨Or.inl rfl, trivial⟩, trivial⟩, hS.F ht⟩) hS.2.2 dX2_has_31
    · have nc2 : i_n.toInt < 1000 := pw_nle c2 (by decide) rfl
      refine lv_aload_n hx hb dX2_has_13 rfl (lv_at hl 0 rfl) ?_
      refine va_get (D := D) (ci := 2) (v := .ref d_m) (C := RX2) (T := TX2) (N := 3) hx hb hts (fun _ h => List.mem_cons_of_mem _ (List.mem_append_right _ h)) hown hK hP 0 rfl rfl 0 (by decide) (hts (.fieldLink RX2 9 "LineCites$NumberSet" "marks" "[I") (List.mem_of_getElem? (i := 1) rfl)) (fun _ h9 => h9) rfl dX2_has_14 ?_
      refine lv_iload_n hx hb dX2_has_17 rfl (lv_at hl 1 rfl) ?_
      refine va_iald hx hb hK hP 1 0 rfl rfl (vp_in_iff.mpr ⟨by omega, by omega⟩) dX2_has_18 ?_
      refine lv_topi (fun x3 ex3 => ?_)
      refine lv_aload_n hx hb dX2_has_19 rfl (lv_at hl 0 rfl) ?_
      refine va_get (D := D) (ci := 2) (v := .int d_r) (C := RX2) (T := TX2) (N := 3) hx hb hts (fun _ h => List.mem_cons_of_mem _ (List.mem_append_right _ h)) hown hK hP 0 rfl rfl 2 (by decide) (hts (.fieldLink RX2 22 "LineCites$NumberSet" "round" "I") (List.mem_of_getElem? (i := 2) rfl)) (fun _ h9 => h9) rfl dX2_has_20 ?_
      refine lv_icmp_ne (tgt := 30) hx hb dX2_has_23 (by decide) (fun c4 => ?_) (fun c4 => ?_)
      · have nc4 : x3.toInt ≠ d_r.toInt := pw_ne c4 rfl rfl
        have mc4x3 := pw_max x3
        have mc4d_r := pw_max d_r
        refine lv_iconst (v := 0) hx hb dX2_has_30 (by decide) ?_
        exact W.zret (v := 0) (ty := .boolean) hx hb hr rfl (fun t ht hW => ⟨⟨0, (), rfl, ⟨Or.inl rfl, trivial⟩, trivial⟩, hS.F ht⟩) hS.2.2 dX2_has_31
      · have nc4 : x3.toInt = d_r.toInt := pw_eq c4 rfl rfl
        have mc4x3 := pw_max x3
        have mc4d_r := pw_max d_r
        refine lv_iconst (v := 1) hx hb dX2_has_26 (by decide) ?_
        refine lv_goto (tgt := 31) hx hb dX2_has_27 (by decide) ?_
        exact W.zret (v := 1) (ty := .boolean) hx hb hr rfl (fun t ht hW => ⟨⟨1, (), rfl, ⟨Or.inr rfl, trivial⟩, trivial⟩, hS.F ht⟩) hS.2.2 dX2_has_31
def w_X2_answer : List Cond := .code yX2_answer cX2_answer 2 (some .int) :: ([.fieldLink RX2 18 "LineCites$NumberSet" "span" "LLineCites$Span;", .methodLink RX2 47 yX5_answer, .instanceMethod yX5_answer, .selects RX5 yX5_answer yX5_answer, .initialized RX5, .code yX5_answer cX5_answer 2 (some .int), .fieldLink RX5 9 "LineCites$Span" "size" "I", .fieldLink RX5 18 "LineCites$Span" "greatest" "I", .fieldLink RX5 15 "LineCites$Span" "least" "I", .constant RX5 21 (-1000000)] ++ wsX20 ++ wsX50)
set_option maxRecDepth 20000 in
theorem g_X2_answer_X5_answer : GoodIn w_X2_answer (wsV RX2 47 RX5 yX5_answer w_X5_answer) := goodIn_r _ [2, 3, 4, 5, 6, 7, 8, 9, 10, 14, 15, 16] rfl (by decide +kernel)
set_option maxHeartbeats 4000000 in
set_option maxRecDepth 100000 in
theorem c_X2_answer (l : Launch) (D : va_G) (h0 : Nat) (i_w : Int32) (d_m : Nat) (d_sp : Nat) (d_r : Int32) (d_s : Int32) (d_l : Int32) (d_g : Int32) : Met l yX2_answer w_X2_answer ({ frames := 1, cells := 0, slots := 0, locals := 21 }) (va_Pc [.ref h0, .int i_w] (fun U => va_P D vwCl [(h0, .inr (2, [.ref d_m, .ref d_sp, .int d_r])), (d_sp, .inr (5, [.int d_s, .int d_l, .int d_g]))] U.heap ∧ va_K D vwCl [] U)) (va_Qi (fun (r : Int32) (_ : Unit) => True) (fun _ _ => True) (fun _ => False)) 0 0 (fun _ => False) := by
  refine Met.ofW (cc := cX2_answer) (maxL := 2) (ret := (some .int)) (by decide) rfl ?_
  intro p e s m args below meth c s₁ B hml hv
  obtain ⟨rfl, hP, hK⟩ := hv
  have hx := B.exec
  have hb := B.bytes
  have hr := B.returns
  have hts := atoms_spec (ws := w_X2_answer) B.pre
  have hown : s.vm.findClass RX2 = some m.cls := findClass_of_methodNamed B.named
  have hlocks := B.notSynchronized
  have hS : va_S (fun _ : Nat => False) s.heap s.heap [] := va_S.rf
  have hP : va_P D vwCl [(h0, .inr (2, [.ref d_m, .ref d_sp, .int d_r])), (d_sp, .inr (5, [.int d_s, .int d_l, .int d_g]))] s.heap := hP
  have hl := lv_entry ([.ref h0, .int i_w]) (n := 2) (Nat.le_of_ble_eq_true rfl)
  rw [lg_entry_eq]
  generalize (lg_sl ([.ref h0, .int i_w]) ++ List.replicate (2 - (lg_sl ([.ref h0, .int i_w])).length) Slot.unset).toArray = ls at hl ⊢
  have hl : lv_has ls 2 [(0, .ref h0), (1, .int i_w)] := hl
  obtain ⟨H, hHe⟩ : ∃ H : Heap, H = s.heap := ⟨_, rfl⟩
  rw [← hHe] at hP
  have hS : va_S (fun _ : Nat => False) s.heap H [] := by rw [hHe]; exact hS
  refine pw_heap hHe ?_
  refine lv_aload_n hx hb dX2_answer_0 rfl (lv_at hl 0 rfl) ?_
  refine va_get (D := D) (ci := 2) (v := .ref d_sp) (C := RX2) (T := TX2) (N := 3) hx hb hts (fun _ h => List.mem_cons_of_mem _ (List.mem_append_left _ (List.mem_append_right _ h))) hown hK hP 0 rfl rfl 1 (by decide) (hts (.fieldLink RX2 18 "LineCites$NumberSet" "span" "LLineCites$Span;") (List.mem_of_getElem? (i := 1) rfl)) (fun _ h9 => h9) rfl dX2_answer_1 ?_
  refine lv_iload_n hx hb dX2_answer_4 rfl (lv_at hl 1 rfl) ?_
  have hPc := hP.sub (ws' := [(d_sp, .inr (5, [.int d_s, .int d_l, .int d_g]))]) [1] rfl
  have hKc := hK.sub (tys' := []) [] rfl
  refine va_calli (va_runV (As := [.int i_w]) (rest := []) ⟨hx, hb, hml, hown, hts⟩ (c_X5_answer l D d_sp i_w d_s d_l d_g) (cwV 1 hts g_X2_answer_X5_answer rfl rfl rfl (by decide +kernel) ⟨Nat.le_of_ble_eq_true rfl, Nat.le_of_ble_eq_true rfl⟩) ⟨fun a U g mk q => by obtain ⟨q0, qP, qK⟩ := q; exact ⟨q0, qP, va_K.moved (u := U) (U := U.calling g mk a) (Vm.Alike.refl U.vm) qK⟩, va_recv hKc hPc (ci := 5) (q0 := 0) rfl rfl, fun U hU hW => ⟨rfl, by rw [hU]; exact hPc, va_K.moved hW.alike hKc⟩⟩ rfl rfl hl.1 rfl (lv_room (Nat.le_of_ble_eq_true rfl)) dX2_answer_5 ⟨Nat.le_of_ble_eq_true rfl, Nat.le_of_ble_eq_true rfl⟩) hS (fun _ _ h => h.elim) (fun _ h => h.elim) (fun r1 u t H1 locs ht hvm hw hB hz1 hk1 hS => ?_)
  have hP := pw_keep hP (fun q hq => hk1 q hq (fun h => h))
  generalize H1 = H at hP hS ⊢
  refine W.widen (k := 0) (n := 0) (Nat.le_of_ble_eq_true rfl) (Nat.le_of_ble_eq_true rfl) ?_
  exact W.iret (v := r1) hx hb hr (fun t ht hW => ⟨⟨r1, (), rfl, trivial, trivial⟩, hS.F ht⟩) hS.2.2 dX2_answer_8
def w_X2_putNumbers : List Cond := .code yX2_putNumbers cX2_putNumbers 3 none :: ([.methodLink RX2 33 yX3_isNumbered, .instanceMethod yX3_isNumbered, .selects RX3 yX3_isNumbered yX3_isNumbered, .initialized RX3, .code yX3_isNumbered cX3_isNumbered 2 (some .boolean), .methodLink RX3 46 yX3_low, .instanceMethod yX3_low, .selects RX3 yX3_low yX3_low, .code yX3_low cX3_low 2 (some .int), .fieldLink RX3 9 "LineCites$Numbering" "lows" "[I", .methodLink RX2 39 yX3_low, .methodLink RX2 43 yX2_put, .instanceMethod yX2_put, .selects RX2 yX2_put yX2_put, .initialized RX2, .code yX2_put cX2_put 2 none, .fieldLink RX2 9 "LineCites$NumberSet" "marks" "[I", .fieldLink RX2 22 "LineCites$NumberSet" "round" "I", .fieldLink RX2 18 "LineCites$NumberSet" "span" "LLineCites$Span;", .methodLink RX2 29 yX5_put, .instanceMethod yX5_put, .selects RX5 yX5_put yX5_put, .initialized RX5, .code yX5_put cX5_put 2 none, .fieldLink RX5 9 "LineCites$Span" "size" "I", .fieldLink RX5 15 "LineCites$Span" "least" "I", .fieldLink RX5 18 "LineCites$Span" "greatest" "I", .methodLink RX2 44 yX3_high, .instanceMethod yX3_high, .selects RX3 yX3_high yX3_high, .code yX3_high cX3_high 2 (some .int), .fieldLink RX3 15 "LineCites$Numbering" "highs" "[I"] ++ wsX30 ++ wsX20 ++ wsX50)
set_option maxRecDepth 20000 in
theorem g_X2_putNumbers_X3_isNumbered : GoodIn w_X2_putNumbers (wsV RX2 33 RX3 yX3_isNumbered w_X3_isNumbered) := goodIn_r _ [1, 2, 3, 4, 5, 6, 7, 8, 4, 9, 10, 33, 34, 35] rfl (by decide +kernel)
set_option maxRecDepth 20000 in
theorem g_X2_putNumbers_X3_low : GoodIn w_X2_putNumbers (wsV RX2 39 RX3 yX3_low w_X3_low) := goodIn_r _ [11, 7, 8, 4, 9, 10, 33, 34, 35] rfl (by decide +kernel)
set_option maxRecDepth 20000 in
theorem g_X2_putNumbers_X2_put : GoodIn w_X2_putNumbers (wsV RX2 43 RX2 yX2_put w_X2_put) := goodIn_r _ [12, 13, 14, 15, 16, 17, 18, 19, 20, 21, 22, 23, 24, 25, 26, 27, 36, 37, 38, 39, 40, 41] rfl (by decide +kernel)
set_option maxRecDepth 20000 in
theorem g_X2_putNumbers_X3_high : GoodIn w_X2_putNumbers (wsV RX2 44 RX3 yX3_high w_X3_high) := goodIn_r _ [28, 29, 30, 4, 31, 32, 33, 34, 35] rfl (by decide +kernel)
set_option maxHeartbeats 4000000 in
set_option maxRecDepth 100000 in
theorem c_X2_putNumbers (l : Launch) (D : va_G) (h0 : Nat) (i_n : Int32) (a_o : Nat) (d_m : Nat) (d_sp : Nat) (d_r : Int32) (kI : ClassId) (g_d_m : Nat → Int32) (d_s : Int32) (d_l : Int32) (d_g : Int32) (e_lo : Nat) (e_hi : Nat) (e_li : Int32) (g_e_lo : Nat → Int32) (g_e_hi : Nat → Int32) (sz : Nat) (hg_e_lo : bN g_e_lo) (hg_e_hi : bN g_e_hi) : Met l yX2_putNumbers w_X2_putNumbers ({ frames := 2, cells := 0, slots := 0, locals := 42 }) (va_Pc [.ref h0, .int i_n, .ref a_o] (fun U => U.heap.size = sz ∧ va_P D vwCl [(h0, .inr (2, [.ref d_m, .ref d_sp, .int d_r])), (d_m, .inl (kI, 1000, .inl g_d_m)), (d_sp, .inr (5, [.int d_s, .int d_l, .int d_g])), (a_o, .inr (3, [.ref e_lo, .ref e_hi, .int e_li])), (e_lo, .inl (kI, 200, .inl g_e_lo)), (e_hi, .inl (kI, 200, .inl g_e_hi))] U.heap ∧ va_K D vwCl [(kI, .int)] U ∧ va_D (fun _ => True) [(h0, .inr (2, [.ref d_m, .ref d_sp, .int d_r])), (d_m, .inl (kI, 1000, .inl g_d_m)), (d_sp, .inr (5, [.int d_s, .int d_l, .int d_g])), (a_o, .inr (3, [.ref e_lo, .ref e_hi, .int e_li])), (e_lo, .inl (kI, 200, .inl g_e_lo)), (e_hi, .inl (kI, 200, .inl g_e_hi))])) (va_Qv (fun (_ : Unit) => True) (fun (_ : Unit) t => ∃ (n_m : Nat → Int32) (n_s : Int32) (n_l : Int32) (n_g : Int32), va_P D vwCl [(h0, .inr (2, [.ref d_m, .ref d_sp, .int d_r])), (d_m, .inl (kI, 1000, .inl n_m)), (d_sp, .inr (5, [.int n_s, .int n_l, .int n_g])), (a_o, .inr (3, [.ref e_lo, .ref e_hi, .int e_li])), (e_lo, .inl (kI, 200, .inl g_e_lo)), (e_hi, .inl (kI, 200, .inl g_e_hi))] t.heap ∧ va_K D vwCl [(kI, .int)] t ∧ va_D (va_A [(h0, .inr (2, [.ref d_m, .ref d_sp, .int d_r])), (d_m, .inl (kI, 1000, .inl g_d_m)), (d_sp, .inr (5, [.int d_s, .int d_l, .int d_g])), (a_o, .inr (3, [.ref e_lo, .ref e_hi, .int e_li])), (e_lo, .inl (kI, 200, .inl g_e_lo)), (e_hi, .inl (kI, 200, .inl g_e_hi))] sz) [(h0, .inr (2, [.ref d_m, .ref d_sp, .int d_r])), (d_m, .inl (kI, 1000, .inl n_m)), (d_sp, .inr (5, [.int n_s, .int n_l, .int n_g])), (a_o, .inr (3, [.ref e_lo, .ref e_hi, .int e_li])), (e_lo, .inl (kI, 200, .inl g_e_lo)), (e_hi, .inl (kI, 200, .inl g_e_hi))]) (va_A [(h0, .inr (2, [.ref d_m, .ref d_sp, .int d_r])), (d_m, .inl (kI, 1000, .inl g_d_m)), (d_sp, .inr (5, [.int d_s, .int d_l, .int d_g])), (a_o, .inr (3, [.ref e_lo, .ref e_hi, .int e_li])), (e_lo, .inl (kI, 200, .inl g_e_lo)), (e_hi, .inl (kI, 200, .inl g_e_hi))] sz)) 0 0 (va_A [(h0, .inr (2, [.ref d_m, .ref d_sp, .int d_r])), (d_m, .inl (kI, 1000, .inl g_d_m)), (d_sp, .inr (5, [.int d_s, .int d_l, .int d_g])), (a_o, .inr (3, [.ref e_lo, .ref e_hi, .int e_li])), (e_lo, .inl (kI, 200, .inl g_e_lo)), (e_hi, .inl (kI, 200, .inl g_e_hi))] sz) := by
  refine Met.ofW (cc := cX2_putNumbers) (maxL := 3) (ret := none) (by decide) rfl ?_
  intro p e s m args below meth c s₁ B hml hv
  obtain ⟨rfl, hsz, hP, hK, hD0⟩ := hv
  have hx := B.exec
  have hb := B.bytes
  have hr := B.returns
  have hts := atoms_spec (ws := w_X2_putNumbers) B.pre
  have hown : s.vm.findClass RX2 = some m.cls := findClass_of_methodNamed B.named
  have hlocks := B.notSynchronized
  subst hsz
  have hD := hD0.self (sz := s.heap.size)
  generalize hAe : va_A [(h0, .inr (2, [.ref d_m, .ref d_sp, .int d_r])), (d_m, .inl (kI, 1000, .inl g_d_m)), (d_sp, .inr (5, [.int d_s, .int d_l, .int d_g])), (a_o, .inr (3, [.ref e_lo, .ref e_hi, .int e_li])), (e_lo, .inl (kI, 200, .inl g_e_lo)), (e_hi, .inl (kI, 200, .inl g_e_hi))] s.heap.size = A at hD ⊢
  have hA : ∀ q : Nat, s.heap.size ≤ q → A q := fun q h => by rw [← hAe]; exact Or.inr h
  have hS : va_S A s.heap s.heap [] := va_S.rf
  have hP : va_P D vwCl [(h0, .inr (2, [.ref d_m, .ref d_sp, .int d_r])), (d_m, .inl (kI, 1000, .inl g_d_m)), (d_sp, .inr (5, [.int d_s, .int d_l, .int d_g])), (a_o, .inr (3, [.ref e_lo, .ref e_hi, .int e_li])), (e_lo, .inl (kI, 200, .inl g_e_lo)), (e_hi, .inl (kI, 200, .inl g_e_hi))] s.heap := hP
  have hl := lv_entry ([.ref h0, .int i_n, .ref a_o]) (n := 3) (Nat.le_of_ble_eq_true rfl)
  rw [lg_entry_eq]
  generalize (lg_sl ([.ref h0, .int i_n, .ref a_o]) ++ List.replicate (3 - (lg_sl ([.ref h0, .int i_n, .ref a_o])).length) Slot.unset).toArray = ls at hl ⊢
  have hl : lv_has ls 3 [(0, .ref h0), (1, .int i_n), (2, .ref a_o)] := hl
  obtain ⟨H, hHe⟩ : ∃ H : Heap, H = s.heap := ⟨_, rfl⟩
  rw [← hHe] at hP
  have hS : va_S A s.heap H [] := by rw [hHe]; exact hS
  refine pw_heap hHe ?_
  refine lv_aload_n hx hb dX2_putNumbers_0 rfl (lv_at hl 2 rfl) ?_
  refine lv_iload_n hx hb dX2_putNumbers_1 rfl (lv_at hl 1 rfl) ?_
  have hPc := hP.sub (ws' := [(a_o, .inr (3, [.ref e_lo, .ref e_hi, .int e_li])), (e_lo, .inl (kI, 200, .inl g_e_lo))]) [3, 4] rfl
  have hKc := hK.sub (tys' := [(kI, .int)]) [0] rfl
  refine va_calli (va_runV (As := [.int i_n]) (rest := []) ⟨hx, hb, hml, hown, hts⟩ (c_X3_isNumbered l D a_o i_n e_lo e_hi e_li kI g_e_lo hg_e_lo) (cwV 1 hts g_X2_putNumbers_X3_isNumbered rfl rfl rfl (by decide +kernel) ⟨Nat.le_of_ble_eq_true rfl, Nat.le_of_ble_eq_true rfl⟩) ⟨fun a U g mk q => by obtain ⟨q0, qP, qK⟩ := q; exact ⟨q0, qP, va_K.moved (u := U) (U := U.calling g mk a) (Vm.Alike.refl U.vm) qK⟩, va_recv hKc hPc (ci := 3) (q0 := 0) rfl rfl, fun U hU hW => ⟨rfl, by rw [hU]; exact hPc, va_K.moved hW.alike hKc⟩⟩ rfl rfl hl.1 rfl (lv_room (Nat.le_of_ble_eq_true rfl)) dX2_putNumbers_2 ⟨Nat.le_of_ble_eq_true rfl, Nat.le_of_ble_eq_true rfl⟩) hS (fun _ _ h => h.elim) (fun _ h => h.elim) (fun r1 u t H1 locs ht hvm hw hB hz1 hk1 hS => ?_)
  have hP := pw_keep hP (fun q hq => hk1 q hq (fun h => h))
  generalize H1 = H at hP hS ⊢
  refine W.widen (k := 0) (n := 0) (Nat.le_of_ble_eq_true rfl) (Nat.le_of_ble_eq_true rfl) ?_
  have bor1 := hw.1
  have zor1 := pw_boolI bor1
  refine lv_if_ne (tgt := 9) hx hb dX2_putNumbers_5 (by decide) (fun c2 => ?_) (fun c2 => ?_)
  · have nc2 : r1.toInt ≠ 0 := pw_ne c2 rfl (by decide)
    refine lv_aload_n hx hb dX2_putNumbers_9 rfl (lv_at hl 0 rfl) ?_
    refine lv_aload_n hx hb dX2_putNumbers_10 rfl (lv_at hl 2 rfl) ?_
    refine lv_iload_n hx hb dX2_putNumbers_11 rfl (lv_at hl 1 rfl) ?_
    have hPc := hP.sub (ws' := [(a_o, .inr (3, [.ref e_lo, .ref e_hi, .int e_li])), (e_lo, .inl (kI, 200, .inl g_e_lo))]) [3, 4] rfl
    have hKc := hK.sub (tys' := [(kI, .int)]) [0] rfl
    refine va_calli (va_runV (As := [.int i_n]) (rest := [.ref h0]) ⟨hx, hb, hml, hown, hts⟩ (c_X3_low l D a_o i_n e_lo e_hi e_li kI g_e_lo hg_e_lo) (cwV 1 hts g_X2_putNumbers_X3_low rfl rfl rfl (by decide +kernel) ⟨Nat.le_of_ble_eq_true rfl, Nat.le_of_ble_eq_true rfl⟩) ⟨fun a U g mk q => by obtain ⟨q0, qP, qK⟩ := q; exact ⟨q0, qP, va_K.moved (u := U) (U := U.calling g mk a) (Vm.Alike.refl U.vm) qK⟩, va_recv hKc hPc (ci := 3) (q0 := 0) rfl rfl, fun U hU hW => ⟨rfl, by rw [hU]; exact hPc, va_K.moved hW.alike hKc⟩⟩ rfl rfl hl.1 rfl (lv_room (Nat.le_of_ble_eq_true rfl)) dX2_putNumbers_12 ⟨Nat.le_of_ble_eq_true rfl, Nat.le_of_ble_eq_true rfl⟩) hS (fun _ _ h => h.elim) (fun _ h => h.elim) (fun r3 u t H1 locs ht hvm hw hB hz1 hk1 hS => ?_)
    have hP := pw_keep hP (fun q hq => hk1 q hq (fun h => h))
    generalize H1 = H at hP hS ⊢
    refine W.widen (k := 0) (n := 0) (Nat.le_of_ble_eq_true rfl) (Nat.le_of_ble_eq_true rfl) ?_
    have hfr3 := hw
    have hPc := hP.sub (ws' := [(h0, .inr (2, [.ref d_m, .ref d_sp, .int d_r])), (d_m, .inl (kI, 1000, .inl g_d_m)), (d_sp, .inr (5, [.int d_s, .int d_l, .int d_g]))]) [0, 1, 2] rfl
    have hKc := hK.sub (tys' := [(kI, .int)]) [0] rfl
    have hDc := hD.sub (ws' := [(h0, .inr (2, [.ref d_m, .ref d_sp, .int d_r])), (d_m, .inl (kI, 1000, .inl g_d_m)), (d_sp, .inr (5, [.int d_s, .int d_l, .int d_g]))]) [0, 1, 2] (by decide) rfl
    have hFc := va_free (wc := [(h0, .inr (2, [.ref d_m, .ref d_sp, .int d_r])), (d_m, .inl (kI, 1000, .inl g_d_m)), (d_sp, .inr (5, [.int d_s, .int d_l, .int d_g]))]) hD hS hA [0, 1, 2] rfl
    refine va_callv (va_runV (As := [.int r3]) (rest := []) ⟨hx, hb, hml, hown, hts⟩ (c_X2_put l D h0 r3 d_m d_sp d_r kI g_d_m d_s d_l d_g H.size) (cwV 1 hts g_X2_putNumbers_X2_put rfl rfl rfl (by decide +kernel) ⟨Nat.le_of_ble_eq_true rfl, Nat.le_of_ble_eq_true rfl⟩) ⟨fun a U g mk q => by obtain ⟨q0, q1, qP, qK, qD⟩ := q; exact ⟨q0, q1, qP, va_K.moved (u := U) (U := U.calling g mk a) (Vm.Alike.refl U.vm) qK, qD⟩, va_recv hKc hPc (ci := 2) (q0 := 0) rfl rfl, fun U hU hW => ⟨rfl, by rw [hU], by rw [hU]; exact hPc, va_K.moved hW.alike hKc, hDc.weaken (fun _ _ _ _ => trivial)⟩⟩ rfl rfl hl.1 rfl (lv_room (Nat.le_of_ble_eq_true rfl)) dX2_putNumbers_15 ⟨Nat.le_of_ble_eq_true rfl, Nat.le_of_ble_eq_true rfl⟩) hS (fun q _ h => hFc q h) hFc (fun u t H1 locs ht hvm hw hB hz1 hk1 hS => ?_)
    obtain ⟨y5, y6, y7, y8, hP1, hK1, hD1⟩ := hB
    rw [ht] at hP1
    have hK1 := va_K.moved hvm.symm hK1
    obtain ⟨hP, hD⟩ := va_join (wr := [(a_o, .inr (3, [.ref e_lo, .ref e_hi, .int e_li])), (e_lo, .inl (kI, 200, .inl g_e_lo)), (e_hi, .inl (kI, 200, .inl g_e_hi))]) (w1 := [(h0, .inr (2, [.ref d_m, .ref d_sp, .int d_r])), (d_m, .inl (kI, 1000, .inl y5)), (d_sp, .inr (5, [.int y6, .int y7, .int y8]))]) hP hD [0, 1, 2] [3, 4, 5] rfl rfl (by decide) (by decide) hk1 hFc hP1 hD1
    have hK := (hK.sub (tys' := [(kI, .int)]) [0] rfl).app hK1
    generalize H1 = H at hP hS ⊢
    have hP : va_P D vwCl [(a_o, .inr (3, [.ref e_lo, .ref e_hi, .int e_li])), (e_lo, .inl (kI, 200, .inl g_e_lo)), (e_hi, .inl (kI, 200, .inl g_e_hi)), (h0, .inr (2, [.ref d_m, .ref d_sp, .int d_r])), (d_m, .inl (kI, 1000, .inl y5)), (d_sp, .inr (5, [.int y6, .int y7, .int y8]))] H := hP
    have hD : va_D A [(a_o, .inr (3, [.ref e_lo, .ref e_hi, .int e_li])), (e_lo, .inl (kI, 200, .inl g_e_lo)), (e_hi, .inl (kI, 200, .inl g_e_hi)), (h0, .inr (2, [.ref d_m, .ref d_sp, .int d_r])), (d_m, .inl (kI, 1000, .inl y5)), (d_sp, .inr (5, [.int y6, .int y7, .int y8]))] := hD
    have hK : va_K D vwCl [(kI, .int), (kI, .int)] s := hK
    refine W.widen (k := 0) (n := 0) (Nat.le_of_ble_eq_true rfl) (Nat.le_of_ble_eq_true rfl) ?_
    refine lv_aload_n hx hb dX2_putNumbers_18 rfl (lv_at hl 0 rfl) ?_
    refine lv_aload_n hx hb dX2_putNumbers_19 rfl (lv_at hl 2 rfl) ?_
    refine lv_iload_n hx hb dX2_putNumbers_20 rfl (lv_at hl 1 rfl) ?_
    have hPc := hP.sub (ws' := [(a_o, .inr (3, [.ref e_lo, .ref e_hi, .int e_li])), (e_hi, .inl (kI, 200, .inl g_e_hi))]) [0, 2] rfl
    have hKc := hK.sub (tys' := [(kI, .int)]) [0] rfl
    refine va_calli (va_runV (As := [.int i_n]) (rest := [.ref h0]) ⟨hx, hb, hml, hown, hts⟩ (c_X3_high l D a_o i_n e_lo e_hi e_li kI g_e_hi hg_e_hi) (cwV 1 hts g_X2_putNumbers_X3_high rfl rfl rfl (by decide +kernel) ⟨Nat.le_of_ble_eq_true rfl, Nat.le_of_ble_eq_true rfl⟩) ⟨fun a U g mk q => by obtain ⟨q0, qP, qK⟩ := q; exact ⟨q0, qP, va_K.moved (u := U) (U := U.calling g mk a) (Vm.Alike.refl U.vm) qK⟩, va_recv hKc hPc (ci := 3) (q0 := 0) rfl rfl, fun U hU hW => ⟨rfl, by rw [hU]; exact hPc, va_K.moved hW.alike hKc⟩⟩ rfl rfl hl.1 rfl (lv_room (Nat.le_of_ble_eq_true rfl)) dX2_putNumbers_21 ⟨Nat.le_of_ble_eq_true rfl, Nat.le_of_ble_eq_true rfl⟩) hS (fun _ _ h => h.elim) (fun _ h => h.elim) (fun r9 u t H1 locs ht hvm hw hB hz1 hk1 hS => ?_)
    have hP := pw_keep hP (fun q hq => hk1 q hq (fun h => h))
    generalize H1 = H at hP hS ⊢
    refine W.widen (k := 0) (n := 0) (Nat.le_of_ble_eq_true rfl) (Nat.le_of_ble_eq_true rfl) ?_
    have hfr9 := hw
    have hPc := hP.sub (ws' := [(h0, .inr (2, [.ref d_m, .ref d_sp, .int d_r])), (d_m, .inl (kI, 1000, .inl y5)), (d_sp, .inr (5, [.int y6, .int y7, .int y8]))]) [3, 4, 5] rfl
    have hKc := hK.sub (tys' := [(kI, .int)]) [0] rfl
    have hDc := hD.sub (ws' := [(h0, .inr (2, [.ref d_m, .ref d_sp, .int d_r])), (d_m, .inl (kI, 1000, .inl y5)), (d_sp, .inr (5, [.int y6, .int y7, .int y8]))]) [3, 4, 5] (by decide) rfl
    have hFc := va_free (wc := [(h0, .inr (2, [.ref d_m, .ref d_sp, .int d_r])), (d_m, .inl (kI, 1000, .inl y5)), (d_sp, .inr (5, [.int y6, .int y7, .int y8]))]) hD hS hA [3, 4, 5] rfl
    refine va_callv (va_runV (As := [.int r9]) (rest := []) ⟨hx, hb, hml, hown, hts⟩ (c_X2_put l D h0 r9 d_m d_sp d_r kI y5 y6 y7 y8 H.size) (cwV 1 hts g_X2_putNumbers_X2_put rfl rfl rfl (by decide +kernel) ⟨Nat.le_of_ble_eq_true rfl, Nat.le_of_ble_eq_true rfl⟩) ⟨fun a U g mk q => by obtain ⟨q0, q1, qP, qK, qD⟩ := q; exact ⟨q0, q1, qP, va_K.moved (u := U) (U := U.calling g mk a) (Vm.Alike.refl U.vm) qK, qD⟩, va_recv hKc hPc (ci := 2) (q0 := 0) rfl rfl, fun U hU hW => ⟨rfl, by rw [hU], by rw [hU]; exact hPc, va_K.moved hW.alike hKc, hDc.weaken (fun _ _ _ _ => trivial)⟩⟩ rfl rfl hl.1 rfl (lv_room (Nat.le_of_ble_eq_true rfl)) dX2_putNumbers_24 ⟨Nat.le_of_ble_eq_true rfl, Nat.le_of_ble_eq_true rfl⟩) hS (fun q _ h => hFc q h) hFc (fun u t H1 locs ht hvm hw hB hz1 hk1 hS => ?_)
    obtain ⟨y11, y12, y13, y14, hP1, hK1, hD1⟩ := hB
    rw [ht] at hP1
    have hK1 := va_K.moved hvm.symm hK1
    obtain ⟨hP, hD⟩ := va_join (wr := [(a_o, .inr (3, [.ref e_lo, .ref e_hi, .int e_li])), (e_lo, .inl (kI, 200, .inl g_e_lo)), (e_hi, .inl (kI, 200, .inl g_e_hi))]) (w1 := [(h0, .inr (2, [.ref d_m, .ref d_sp, .int d_r])), (d_m, .inl (kI, 1000, .inl y11)), (d_sp, .inr (5, [.int y12, .int y13, .int y14]))]) hP hD [3, 4, 5] [0, 1, 2] rfl rfl (by decide) (by decide) hk1 hFc hP1 hD1
    have hK := (hK.sub (tys' := [(kI, .int), (kI, .int)]) [0, 1] rfl).app hK1
    generalize H1 = H at hP hS ⊢
    have hP : va_P D vwCl [(a_o, .inr (3, [.ref e_lo, .ref e_hi, .int e_li])), (e_lo, .inl (kI, 200, .inl g_e_lo)), (e_hi, .inl (kI, 200, .inl g_e_hi)), (h0, .inr (2, [.ref d_m, .ref d_sp, .int d_r])), (d_m, .inl (kI, 1000, .inl y11)), (d_sp, .inr (5, [.int y12, .int y13, .int y14]))] H := hP
    have hD : va_D A [(a_o, .inr (3, [.ref e_lo, .ref e_hi, .int e_li])), (e_lo, .inl (kI, 200, .inl g_e_lo)), (e_hi, .inl (kI, 200, .inl g_e_hi)), (h0, .inr (2, [.ref d_m, .ref d_sp, .int d_r])), (d_m, .inl (kI, 1000, .inl y11)), (d_sp, .inr (5, [.int y12, .int y13, .int y14]))] := hD
    have hK : va_K D vwCl [(kI, .int), (kI, .int), (kI, .int)] s := hK
    refine W.widen (k := 0) (n := 0) (Nat.le_of_ble_eq_true rfl) (Nat.le_of_ble_eq_true rfl) ?_
    have hP9 := hP.sub (ws' := [(h0, .inr (2, [.ref d_m, .ref d_sp, .int d_r])), (d_m, .inl (kI, 1000, .inl y11)), (d_sp, .inr (5, [.int y12, .int y13, .int y14])), (a_o, .inr (3, [.ref e_lo, .ref e_hi, .int e_li])), (e_lo, .inl (kI, 200, .inl g_e_lo)), (e_hi, .inl (kI, 200, .inl g_e_hi))]) [3, 4, 5, 0, 1, 2] rfl
    have hD9 := hD.sub (ws' := [(h0, .inr (2, [.ref d_m, .ref d_sp, .int d_r])), (d_m, .inl (kI, 1000, .inl y11)), (d_sp, .inr (5, [.int y12, .int y13, .int y14])), (a_o, .inr (3, [.ref e_lo, .ref e_hi, .int e_li])), (e_lo, .inl (kI, 200, .inl g_e_lo)), (e_hi, .inl (kI, 200, .inl g_e_hi))]) [3, 4, 5, 0, 1, 2] (by decide) rfl
    have hK9 := hK.sub (tys' := [(kI, .int)]) [0] rfl
    refine W.widen (k := 0) (n := 0) (Nat.le_of_ble_eq_true rfl) (Nat.le_of_ble_eq_true rfl) ?_
    exact W.vret hx hb hr (fun t ht hW => ⟨⟨(), rfl, trivial, y11, y12, y13, y14, by rw [ht]; exact hP9, va_K.moved hW.alike hK9, hD9⟩, hS.F ht⟩) hS.2.2 dX2_putNumbers_27
  · have nc2 : r1.toInt = 0 := pw_eq c2 rfl (by decide)
    have hP9 := hP.sub (ws' := [(h0, .inr (2, [.ref d_m, .ref d_sp, .int d_r])), (d_m, .inl (kI, 1000, .inl g_d_m)), (d_sp, .inr (5, [.int d_s, .int d_l, .int d_g])), (a_o, .inr (3, [.ref e_lo, .ref e_hi, .int e_li])), (e_lo, .inl (kI, 200, .inl g_e_lo)), (e_hi, .inl (kI, 200, .inl g_e_hi))]) [0, 1, 2, 3, 4, 5] rfl
    have hD9 := hD.sub (ws' := [(h0, .inr (2, [.ref d_m, .ref d_sp, .int d_r])), (d_m, .inl (kI, 1000, .inl g_d_m)), (d_sp, .inr (5, [.int d_s, .int d_l, .int d_g])), (a_o, .inr (3, [.ref e_lo, .ref e_hi, .int e_li])), (e_lo, .inl (kI, 200, .inl g_e_lo)), (e_hi, .inl (kI, 200, .inl g_e_hi))]) [0, 1, 2, 3, 4, 5] (by decide) rfl
    have hK9 := hK.sub (tys' := [(kI, .int)]) [0] rfl
    refine W.widen (k := 0) (n := 0) (Nat.le_of_ble_eq_true rfl) (Nat.le_of_ble_eq_true rfl) ?_
    exact W.vret hx hb hr (fun t ht hW => ⟨⟨(), rfl, trivial, g_d_m, d_s, d_l, d_g, by rw [ht]; exact hP9, va_K.moved hW.alike hK9, hD9⟩, hS.F ht⟩) hS.2.2 dX2_putNumbers_8
def w_X2_gatherOf : List Cond := .code yX2_gatherOf cX2_gatherOf 5 none :: ([.methodLink RX2 50 yX2_clear, .instanceMethod yX2_clear, .selects RX2 yX2_clear yX2_clear, .initialized RX2, .code yX2_clear cX2_clear 1 none, .fieldLink RX2 22 "LineCites$NumberSet" "round" "I", .fieldLink RX2 18 "LineCites$NumberSet" "span" "LLineCites$Span;", .methodLink RX2 26 yX5_clear, .instanceMethod yX5_clear, .selects RX5 yX5_clear yX5_clear, .initialized RX5, .code yX5_clear cX5_clear 1 none, .fieldLink RX5 9 "LineCites$Span" "size" "I", .methodLink RX2 51 yX3_lines, .instanceMethod yX3_lines, .selects RX3 yX3_lines yX3_lines, .initialized RX3, .code yX3_lines cX3_lines 1 (some .int), .fieldLink RX3 24 "LineCites$Numbering" "lines" "I", .methodLink RX2 55 yX3_has, .instanceMethod yX3_has, .selects RX3 yX3_has yX3_has, .code yX3_has cX3_has 4 (some .boolean), .methodLink RX3 49 yX3_isNumbered, .instanceMethod yX3_isNumbered, .selects RX3 yX3_isNumbered yX3_isNumbered, .code yX3_isNumbered cX3_isNumbered 2 (some .boolean), .methodLink RX3 46 yX3_low, .instanceMethod yX3_low, .selects RX3 yX3_low yX3_low, .code yX3_low cX3_low 2 (some .int), .fieldLink RX3 9 "LineCites$Numbering" "lows" "[I", .methodLink RX3 53 yX3_high, .instanceMethod yX3_high, .selects RX3 yX3_high yX3_high, .code yX3_high cX3_high 2 (some .int), .fieldLink RX3 15 "LineCites$Numbering" "highs" "[I", .methodLink RX2 59 yX2_putNumbers, .instanceMethod yX2_putNumbers, .selects RX2 yX2_putNumbers yX2_putNumbers, .code yX2_putNumbers cX2_putNumbers 3 none, .methodLink RX2 33 yX3_isNumbered, .methodLink RX2 39 yX3_low, .methodLink RX2 43 yX2_put, .instanceMethod yX2_put, .selects RX2 yX2_put yX2_put, .code yX2_put cX2_put 2 none, .fieldLink RX2 9 "LineCites$NumberSet" "marks" "[I", .methodLink RX2 29 yX5_put, .instanceMethod yX5_put, .selects RX5 yX5_put yX5_put, .code yX5_put cX5_put 2 none, .fieldLink RX5 15 "LineCites$Span" "least" "I", .fieldLink RX5 18 "LineCites$Span" "greatest" "I", .methodLink RX2 44 yX3_high] ++ wsX20 ++ wsX50 ++ wsX30)
set_option maxRecDepth 20000 in
theorem g_X2_gatherOf_X2_clear : GoodIn w_X2_gatherOf (wsV RX2 50 RX2 yX2_clear w_X2_clear) := goodIn_r _ [1, 2, 3, 4, 5, 6, 7, 8, 9, 10, 11, 12, 13, 56, 57, 58, 59, 60, 61] rfl (by decide +kernel)
set_option maxRecDepth 20000 in
theorem g_X2_gatherOf_X3_lines : GoodIn w_X2_gatherOf (wsV RX2 51 RX3 yX3_lines w_X3_lines) := goodIn_r _ [14, 15, 16, 17, 18, 19, 62, 63, 64] rfl (by decide +kernel)
set_option maxRecDepth 20000 in
theorem g_X2_gatherOf_X3_has : GoodIn w_X2_gatherOf (wsV RX2 55 RX3 yX3_has w_X3_has) := goodIn_r _ [20, 21, 22, 17, 23, 24, 25, 26, 17, 27, 28, 29, 30, 31, 32, 33, 34, 35, 36, 37, 62, 63, 64] rfl (by decide +kernel)
set_option maxRecDepth 20000 in
theorem g_X2_gatherOf_X2_putNumbers : GoodIn w_X2_gatherOf (wsV RX2 59 RX2 yX2_putNumbers w_X2_putNumbers) := goodIn_r _ [38, 39, 40, 4, 41, 42, 25, 26, 17, 27, 28, 29, 30, 31, 32, 43, 44, 45, 46, 4, 47, 48, 6, 7, 49, 50, 51, 11, 52, 13, 53, 54, 55, 34, 35, 36, 37, 62, 63, 64, 56, 57, 58, 59, 60, 61] rfl (by decide +kernel)
set_option maxHeartbeats 4000000 in
set_option maxRecDepth 100000 in
theorem c_X2_gatherOf (l : Launch) (D : va_G) (h0 : Nat) (i_n : Int32) (a_a : Nat) (a_o : Nat) (d_m : Nat) (d_sp : Nat) (d_r : Int32) (kI : ClassId) (g_d_m : Nat → Int32) (d_s : Int32) (d_l : Int32) (d_g : Int32) (f_lo : Nat) (f_hi : Nat) (f_li : Int32) (g_f_lo : Nat → Int32) (g_f_hi : Nat → Int32) (e_lo : Nat) (e_hi : Nat) (e_li : Int32) (g_e_lo : Nat → Int32) (g_e_hi : Nat → Int32) (sz : Nat) (hg_f_lo : bN g_f_lo) (hg_f_hi : bN g_f_hi) (hg_e_lo : bN g_e_lo) (hg_e_hi : bN g_e_hi) : Met l yX2_gatherOf w_X2_gatherOf ({ frames := 3, cells := 0, slots := 0, locals := 65 }) (va_Pc [.ref h0, .int i_n, .ref a_a, .ref a_o] (fun U => U.heap.size = sz ∧ va_P D vwCl [(h0, .inr (2, [.ref d_m, .ref d_sp, .int d_r])), (d_m, .inl (kI, 1000, .inl g_d_m)), (d_sp, .inr (5, [.int d_s, .int d_l, .int d_g])), (a_a, .inr (3, [.ref f_lo, .ref f_hi, .int f_li])), (f_lo, .inl (kI, 200, .inl g_f_lo)), (f_hi, .inl (kI, 200, .inl g_f_hi)), (a_o, .inr (3, [.ref e_lo, .ref e_hi, .int e_li])), (e_lo, .inl (kI, 200, .inl g_e_lo)), (e_hi, .inl (kI, 200, .inl g_e_hi))] U.heap ∧ va_K D vwCl [(kI, .int)] U ∧ va_D (fun _ => True) [(h0, .inr (2, [.ref d_m, .ref d_sp, .int d_r])), (d_m, .inl (kI, 1000, .inl g_d_m)), (d_sp, .inr (5, [.int d_s, .int d_l, .int d_g])), (a_a, .inr (3, [.ref f_lo, .ref f_hi, .int f_li])), (f_lo, .inl (kI, 200, .inl g_f_lo)), (f_hi, .inl (kI, 200, .inl g_f_hi)), (a_o, .inr (3, [.ref e_lo, .ref e_hi, .int e_li])), (e_lo, .inl (kI, 200, .inl g_e_lo)), (e_hi, .inl (kI, 200, .inl g_e_hi))])) (va_Qv (fun (_ : Unit) => True) (fun (_ : Unit) t => ∃ (n_r : Int32) (n_m : Nat → Int32) (n_s : Int32) (n_l : Int32) (n_g : Int32), va_P D vwCl [(h0, .inr (2, [.ref d_m, .ref d_sp, .int n_r])), (d_m, .inl (kI, 1000, .inl n_m)), (d_sp, .inr (5, [.int n_s, .int n_l, .int n_g])), (a_a, .inr (3, [.ref f_lo, .ref f_hi, .int f_li])), (f_lo, .inl (kI, 200, .inl g_f_lo)), (f_hi, .inl (kI, 200, .inl g_f_hi)), (a_o, .inr (3, [.ref e_lo, .ref e_hi, .int e_li])), (e_lo, .inl (kI, 200, .inl g_e_lo)), (e_hi, .inl (kI, 200, .inl g_e_hi))] t.heap ∧ va_K D vwCl [(kI, .int)] t ∧ va_D (va_A [(h0, .inr (2, [.ref d_m, .ref d_sp, .int d_r])), (d_m, .inl (kI, 1000, .inl g_d_m)), (d_sp, .inr (5, [.int d_s, .int d_l, .int d_g])), (a_a, .inr (3, [.ref f_lo, .ref f_hi, .int f_li])), (f_lo, .inl (kI, 200, .inl g_f_lo)), (f_hi, .inl (kI, 200, .inl g_f_hi)), (a_o, .inr (3, [.ref e_lo, .ref e_hi, .int e_li])), (e_lo, .inl (kI, 200, .inl g_e_lo)), (e_hi, .inl (kI, 200, .inl g_e_hi))] sz) [(h0, .inr (2, [.ref d_m, .ref d_sp, .int n_r])), (d_m, .inl (kI, 1000, .inl n_m)), (d_sp, .inr (5, [.int n_s, .int n_l, .int n_g])), (a_a, .inr (3, [.ref f_lo, .ref f_hi, .int f_li])), (f_lo, .inl (kI, 200, .inl g_f_lo)), (f_hi, .inl (kI, 200, .inl g_f_hi)), (a_o, .inr (3, [.ref e_lo, .ref e_hi, .int e_li])), (e_lo, .inl (kI, 200, .inl g_e_lo)), (e_hi, .inl (kI, 200, .inl g_e_hi))]) (va_A [(h0, .inr (2, [.ref d_m, .ref d_sp, .int d_r])), (d_m, .inl (kI, 1000, .inl g_d_m)), (d_sp, .inr (5, [.int d_s, .int d_l, .int d_g])), (a_a, .inr (3, [.ref f_lo, .ref f_hi, .int f_li])), (f_lo, .inl (kI, 200, .inl g_f_lo)), (f_hi, .inl (kI, 200, .inl g_f_hi)), (a_o, .inr (3, [.ref e_lo, .ref e_hi, .int e_li])), (e_lo, .inl (kI, 200, .inl g_e_lo)), (e_hi, .inl (kI, 200, .inl g_e_hi))] sz)) 0 0 (va_A [(h0, .inr (2, [.ref d_m, .ref d_sp, .int d_r])), (d_m, .inl (kI, 1000, .inl g_d_m)), (d_sp, .inr (5, [.int d_s, .int d_l, .int d_g])), (a_a, .inr (3, [.ref f_lo, .ref f_hi, .int f_li])), (f_lo, .inl (kI, 200, .inl g_f_lo)), (f_hi, .inl (kI, 200, .inl g_f_hi)), (a_o, .inr (3, [.ref e_lo, .ref e_hi, .int e_li])), (e_lo, .inl (kI, 200, .inl g_e_lo)), (e_hi, .inl (kI, 200, .inl g_e_hi))] sz) := by
  refine Met.ofW (cc := cX2_gatherOf) (maxL := 5) (ret := none) (by decide) rfl ?_
  intro p e s m args below meth c s₁ B hml hv
  obtain ⟨rfl, hsz, hP, hK, hD0⟩ := hv
  have hx := B.exec
  have hb := B.bytes
  have hr := B.returns
  have hts := atoms_spec (ws := w_X2_gatherOf) B.pre
  have hown : s.vm.findClass RX2 = some m.cls := findClass_of_methodNamed B.named
  have hlocks := B.notSynchronized
  subst hsz
  have hD := hD0.self (sz := s.heap.size)
  generalize hAe : va_A [(h0, .inr (2, [.ref d_m, .ref d_sp, .int d_r])), (d_m, .inl (kI, 1000, .inl g_d_m)), (d_sp, .inr (5, [.int d_s, .int d_l, .int d_g])), (a_a, .inr (3, [.ref f_lo, .ref f_hi, .int f_li])), (f_lo, .inl (kI, 200, .inl g_f_lo)), (f_hi, .inl (kI, 200, .inl g_f_hi)), (a_o, .inr (3, [.ref e_lo, .ref e_hi, .int e_li])), (e_lo, .inl (kI, 200, .inl g_e_lo)), (e_hi, .inl (kI, 200, .inl g_e_hi))] s.heap.size = A at hD ⊢
  have hA : ∀ q : Nat, s.heap.size ≤ q → A q := fun q h => by rw [← hAe]; exact Or.inr h
  have hS : va_S A s.heap s.heap [] := va_S.rf
  have hP : va_P D vwCl [(h0, .inr (2, [.ref d_m, .ref d_sp, .int d_r])), (d_m, .inl (kI, 1000, .inl g_d_m)), (d_sp, .inr (5, [.int d_s, .int d_l, .int d_g])), (a_a, .inr (3, [.ref f_lo, .ref f_hi, .int f_li])), (f_lo, .inl (kI, 200, .inl g_f_lo)), (f_hi, .inl (kI, 200, .inl g_f_hi)), (a_o, .inr (3, [.ref e_lo, .ref e_hi, .int e_li])), (e_lo, .inl (kI, 200, .inl g_e_lo)), (e_hi, .inl (kI, 200, .inl g_e_hi))] s.heap := hP
  have hl := lv_entry ([.ref h0, .int i_n, .ref a_a, .ref a_o]) (n := 5) (Nat.le_of_ble_eq_true rfl)
  rw [lg_entry_eq]
  generalize (lg_sl ([.ref h0, .int i_n, .ref a_a, .ref a_o]) ++ List.replicate (5 - (lg_sl ([.ref h0, .int i_n, .ref a_a, .ref a_o])).length) Slot.unset).toArray = ls at hl ⊢
  have hl : lv_has ls 5 [(0, .ref h0), (1, .int i_n), (2, .ref a_a), (3, .ref a_o)] := hl
  obtain ⟨H, hHe⟩ : ∃ H : Heap, H = s.heap := ⟨_, rfl⟩
  rw [← hHe] at hP
  have hS : va_S A s.heap H [] := by rw [hHe]; exact hS
  refine pw_heap hHe ?_
  refine lv_aload_n hx hb dX2_gatherOf_0 rfl (lv_at hl 0 rfl) ?_
  have hPc := hP.sub (ws' := [(h0, .inr (2, [.ref d_m, .ref d_sp, .int d_r])), (d_sp, .inr (5, [.int d_s, .int d_l, .int d_g]))]) [0, 2] rfl
  have hKc := hK.sub (tys' := []) [] rfl
  have hDc := hD.sub (ws' := [(h0, .inr (2, [.ref d_m, .ref d_sp, .int d_r])), (d_sp, .inr (5, [.int d_s, .int d_l, .int d_g]))]) [0, 2] (by decide) rfl
  have hFc := va_free (wc := [(h0, .inr (2, [.ref d_m, .ref d_sp, .int d_r])), (d_sp, .inr (5, [.int d_s, .int d_l, .int d_g]))]) hD hS hA [0, 2] rfl
  refine va_callv (va_runV (As := []) (rest := []) ⟨hx, hb, hml, hown, hts⟩ (c_X2_clear l D h0 d_m d_sp d_r d_s d_l d_g H.size) (cwV 0 hts g_X2_gatherOf_X2_clear rfl rfl rfl (by decide +kernel) ⟨Nat.le_of_ble_eq_true rfl, Nat.le_of_ble_eq_true rfl⟩) ⟨fun a U g mk q => by obtain ⟨q0, q1, qP, qK, qD⟩ := q; exact ⟨q0, q1, qP, va_K.moved (u := U) (U := U.calling g mk a) (Vm.Alike.refl U.vm) qK, qD⟩, va_recv hKc hPc (ci := 2) (q0 := 0) rfl rfl, fun U hU hW => ⟨rfl, by rw [hU], by rw [hU]; exact hPc, va_K.moved hW.alike hKc, hDc.weaken (fun _ _ _ _ => trivial)⟩⟩ rfl rfl hl.1 rfl (lv_room (Nat.le_of_ble_eq_true rfl)) dX2_gatherOf_1 ⟨Nat.le_of_ble_eq_true rfl, Nat.le_of_ble_eq_true rfl⟩) hS (fun q _ h => hFc q h) hFc (fun u t H1 locs ht hvm hw hB hz1 hk1 hS => ?_)
  obtain ⟨y2, y3, y4, y5, hP1, hK1, hD1⟩ := hB
  rw [ht] at hP1
  have hK1 := va_K.moved hvm.symm hK1
  obtain ⟨hP, hD⟩ := va_join (wr := [(d_m, .inl (kI, 1000, .inl g_d_m)), (a_a, .inr (3, [.ref f_lo, .ref f_hi, .int f_li])), (f_lo, .inl (kI, 200, .inl g_f_lo)), (f_hi, .inl (kI, 200, .inl g_f_hi)), (a_o, .inr (3, [.ref e_lo, .ref e_hi, .int e_li])), (e_lo, .inl (kI, 200, .inl g_e_lo)), (e_hi, .inl (kI, 200, .inl g_e_hi))]) (w1 := [(h0, .inr (2, [.ref d_m, .ref d_sp, .int y2])), (d_sp, .inr (5, [.int y3, .int y4, .int y5]))]) hP hD [0, 2] [1, 3, 4, 5, 6, 7, 8] rfl rfl (by decide) (by decide) hk1 hFc hP1 hD1
  have hK := (hK.sub (tys' := [(kI, .int)]) [0] rfl).app hK1
  generalize H1 = H at hP hS ⊢
  have hP : va_P D vwCl [(d_m, .inl (kI, 1000, .inl g_d_m)), (a_a, .inr (3, [.ref f_lo, .ref f_hi, .int f_li])), (f_lo, .inl (kI, 200, .inl g_f_lo)), (f_hi, .inl (kI, 200, .inl g_f_hi)), (a_o, .inr (3, [.ref e_lo, .ref e_hi, .int e_li])), (e_lo, .inl (kI, 200, .inl g_e_lo)), (e_hi, .inl (kI, 200, .inl g_e_hi)), (h0, .inr (2, [.ref d_m, .ref d_sp, .int y2])), (d_sp, .inr (5, [.int y3, .int y4, .int y5]))] H := hP
  have hD : va_D A [(d_m, .inl (kI, 1000, .inl g_d_m)), (a_a, .inr (3, [.ref f_lo, .ref f_hi, .int f_li])), (f_lo, .inl (kI, 200, .inl g_f_lo)), (f_hi, .inl (kI, 200, .inl g_f_hi)), (a_o, .inr (3, [.ref e_lo, .ref e_hi, .int e_li])), (e_lo, .inl (kI, 200, .inl g_e_lo)), (e_hi, .inl (kI, 200, .inl g_e_hi)), (h0, .inr (2, [.ref d_m, .ref d_sp, .int y2])), (d_sp, .inr (5, [.int y3, .int y4, .int y5]))] := hD
  have hK : va_K D vwCl [(kI, .int)] s := hK
  refine W.widen (k := 0) (n := 0) (Nat.le_of_ble_eq_true rfl) (Nat.le_of_ble_eq_true rfl) ?_
  refine lv_iconst (v := 0) hx hb dX2_gatherOf_4 (by decide) ?_
  refine lv_istore (lv' := [(4, .int 0), (0, .ref h0), (1, .int i_n), (2, .ref a_a), (3, .ref a_o)]) hx hb dX2_gatherOf_5 hl (by decide) rfl (fun ls hl => ?_)
  have hl9 : lv_has ls 5 [(0, .ref h0), (1, .int i_n), (2, .ref a_a), (3, .ref a_o), (4, .int 0)] := lv_sub hl [1, 2, 3, 4, 0] rfl
  refine pw_loop (fun (zz : Int32 × (Nat → Int32) × Int32 × Int32 × Int32) H locs ls => match zz with | (v52, f53, v54, v55, v56) => va_P D vwCl [(d_m, .inl (kI, 1000, .inl f53)), (a_a, .inr (3, [.ref f_lo, .ref f_hi, .int f_li])), (f_lo, .inl (kI, 200, .inl g_f_lo)), (f_hi, .inl (kI, 200, .inl g_f_hi)), (a_o, .inr (3, [.ref e_lo, .ref e_hi, .int e_li])), (e_lo, .inl (kI, 200, .inl g_e_lo)), (e_hi, .inl (kI, 200, .inl g_e_hi)), (h0, .inr (2, [.ref d_m, .ref d_sp, .int y2])), (d_sp, .inr (5, [.int v54, .int v55, .int v56]))] H ∧ va_D A [(d_m, .inl (kI, 1000, .inl f53)), (a_a, .inr (3, [.ref f_lo, .ref f_hi, .int f_li])), (f_lo, .inl (kI, 200, .inl g_f_lo)), (f_hi, .inl (kI, 200, .inl g_f_hi)), (a_o, .inr (3, [.ref e_lo, .ref e_hi, .int e_li])), (e_lo, .inl (kI, 200, .inl g_e_lo)), (e_hi, .inl (kI, 200, .inl g_e_hi)), (h0, .inr (2, [.ref d_m, .ref d_sp, .int y2])), (d_sp, .inr (5, [.int v54, .int v55, .int v56]))] ∧ va_S A s.heap H locs ∧ lv_has ls 5 [(0, .ref h0), (1, .int i_n), (2, .ref a_a), (3, .ref a_o), (4, .int v52)] ∧ 0 ≤ v52.toInt) (fun (zz : Int32 × (Nat → Int32) × Int32 × Int32 × Int32)  => match zz with | (v52, f53, v54, v55, v56) => (2147483648 - v52.toInt).toNat) 0 0 (fun (zz : Int32 × (Nat → Int32) × Int32 × Int32 × Int32) ls => match zz with | (v52, f53, v54, v55, v56) => F0 m 7 ls []) (fun zz H locs ls ih57 hI => ?_) (0, g_d_m, y3, y4, y5) _ _ _ ⟨hP, hD, hS, hl9, (by decide)⟩
  obtain ⟨v52, f53, v54, v55, v56⟩ := zz
  obtain ⟨hP, hD, hS, hl, bv52⟩ := hI
  have bv52 : 0 ≤ v52.toInt := bv52
  have hP : va_P D vwCl [(d_m, .inl (kI, 1000, .inl f53)), (a_a, .inr (3, [.ref f_lo, .ref f_hi, .int f_li])), (f_lo, .inl (kI, 200, .inl g_f_lo)), (f_hi, .inl (kI, 200, .inl g_f_hi)), (a_o, .inr (3, [.ref e_lo, .ref e_hi, .int e_li])), (e_lo, .inl (kI, 200, .inl g_e_lo)), (e_hi, .inl (kI, 200, .inl g_e_hi)), (h0, .inr (2, [.ref d_m, .ref d_sp, .int y2])), (d_sp, .inr (5, [.int v54, .int v55, .int v56]))] H := hP
  have hD : va_D A [(d_m, .inl (kI, 1000, .inl f53)), (a_a, .inr (3, [.ref f_lo, .ref f_hi, .int f_li])), (f_lo, .inl (kI, 200, .inl g_f_lo)), (f_hi, .inl (kI, 200, .inl g_f_hi)), (a_o, .inr (3, [.ref e_lo, .ref e_hi, .int e_li])), (e_lo, .inl (kI, 200, .inl g_e_lo)), (e_hi, .inl (kI, 200, .inl g_e_hi)), (h0, .inr (2, [.ref d_m, .ref d_sp, .int y2])), (d_sp, .inr (5, [.int v54, .int v55, .int v56]))] := hD
  have hK : va_K D vwCl [(kI, .int)] s := hK
  have hl : lv_has ls 5 [(0, .ref h0), (1, .int i_n), (2, .ref a_a), (3, .ref a_o), (4, .int v52)] := hl
  refine W.eq (g2 := F0 m 7 ls []) rfl ?_
  refine lv_iload hx hb dX2_gatherOf_7 (lv_at hl 4 rfl) ?_
  refine lv_aload_n hx hb dX2_gatherOf_9 rfl (lv_at hl 2 rfl) ?_
  have hPc := hP.sub (ws' := [(a_a, .inr (3, [.ref f_lo, .ref f_hi, .int f_li]))]) [1] rfl
  have hKc := hK.sub (tys' := []) [] rfl
  refine va_calli (va_runV (As := []) (rest := [.int v52]) ⟨hx, hb, hml, hown, hts⟩ (c_X3_lines l D a_a f_lo f_hi f_li) (cwV 0 hts g_X2_gatherOf_X3_lines rfl rfl rfl (by decide +kernel) ⟨Nat.le_of_ble_eq_true rfl, Nat.le_of_ble_eq_true rfl⟩) ⟨fun a U g mk q => by obtain ⟨q0, qP, qK⟩ := q; exact ⟨q0, qP, va_K.moved (u := U) (U := U.calling g mk a) (Vm.Alike.refl U.vm) qK⟩, va_recv hKc hPc (ci := 3) (q0 := 0) rfl rfl, fun U hU hW => ⟨rfl, by rw [hU]; exact hPc, va_K.moved hW.alike hKc⟩⟩ rfl rfl hl.1 rfl (lv_room (Nat.le_of_ble_eq_true rfl)) dX2_gatherOf_10 ⟨Nat.le_of_ble_eq_true rfl, Nat.le_of_ble_eq_true rfl⟩) hS (fun _ _ h => h.elim) (fun _ h => h.elim) (fun r58 u t H1 locs ht hvm hw hB hz1 hk1 hS => ?_)
  have hP := pw_keep hP (fun q hq => hk1 q hq (fun h => h))
  generalize H1 = H at hP hS ⊢
  refine W.widen (k := 0) (n := 0) (Nat.le_of_ble_eq_true rfl) (Nat.le_of_ble_eq_true rfl) ?_
  rw [show r58 = f_li from hw]
  refine lv_icmp_ge (tgt := 40) hx hb dX2_gatherOf_13 (by decide) (fun c59 => ?_) (fun c59 => ?_)
  · have nc59 : f_li.toInt ≤ v52.toInt := pw_le c59 rfl rfl
    have mc59v52 := pw_max v52
    have mc59f_li := pw_max f_li
    have hP9 := hP.sub (ws' := [(h0, .inr (2, [.ref d_m, .ref d_sp, .int y2])), (d_m, .inl (kI, 1000, .inl f53)), (d_sp, .inr (5, [.int v54, .int v55, .int v56])), (a_a, .inr (3, [.ref f_lo, .ref f_hi, .int f_li])), (f_lo, .inl (kI, 200, .inl g_f_lo)), (f_hi, .inl (kI, 200, .inl g_f_hi)), (a_o, .inr (3, [.ref e_lo, .ref e_hi, .int e_li])), (e_lo, .inl (kI, 200, .inl g_e_lo)), (e_hi, .inl (kI, 200, .inl g_e_hi))]) [7, 0, 8, 1, 2, 3, 4, 5, 6] rfl
    have hD9 := hD.sub (ws' := [(h0, .inr (2, [.ref d_m, .ref d_sp, .int y2])), (d_m, .inl (kI, 1000, .inl f53)), (d_sp, .inr (5, [.int v54, .int v55, .int v56])), (a_a, .inr (3, [.ref f_lo, .ref f_hi, .int f_li])), (f_lo, .inl (kI, 200, .inl g_f_lo)), (f_hi, .inl (kI, 200, .inl g_f_hi)), (a_o, .inr (3, [.ref e_lo, .ref e_hi, .int e_li])), (e_lo, .inl (kI, 200, .inl g_e_lo)), (e_hi, .inl (kI, 200, .inl g_e_hi))]) [7, 0, 8, 1, 2, 3, 4, 5, 6] (by decide) rfl
    have hK9 := hK.sub (tys' := [(kI, .int)]) [0] rfl
    refine W.widen (k := 0) (n := 0) (Nat.le_of_ble_eq_true rfl) (Nat.le_of_ble_eq_true rfl) ?_
    exact W.vret hx hb hr (fun t ht hW => ⟨⟨(), rfl, trivial, y2, f53, v54, v55, v56, by rw [ht]; exact hP9, va_K.moved hW.alike hK9, hD9⟩, hS.F ht⟩) hS.2.2 dX2_gatherOf_40
  · have nc59 : v52.toInt < f_li.toInt := pw_nle c59 rfl rfl
    have mc59v52 := pw_max v52
    have mc59f_li := pw_max f_li
    refine lv_aload_n hx hb dX2_gatherOf_16 rfl (lv_at hl 2 rfl) ?_
    refine lv_iload hx hb dX2_gatherOf_17 (lv_at hl 4 rfl) ?_
    refine lv_iload_n hx hb dX2_gatherOf_19 rfl (lv_at hl 1 rfl) ?_
    refine lv_iload_n hx hb dX2_gatherOf_20 rfl (lv_at hl 1 rfl) ?_
    have hPc := hP.sub (ws' := [(a_a, .inr (3, [.ref f_lo, .ref f_hi, .int f_li])), (f_lo, .inl (kI, 200, .inl g_f_lo)), (f_hi, .inl (kI, 200, .inl g_f_hi))]) [1, 2, 3] rfl
    have hKc := hK.sub (tys' := [(kI, .int)]) [0] rfl
    refine va_calli (va_runV (As := [.int v52, .int i_n, .int i_n]) (rest := []) ⟨hx, hb, hml, hown, hts⟩ (c_X3_has l D a_a v52 i_n i_n f_lo f_hi f_li kI g_f_lo g_f_hi hg_f_lo hg_f_hi) (cwV 3 hts g_X2_gatherOf_X3_has rfl rfl rfl (by decide +kernel) ⟨Nat.le_of_ble_eq_true rfl, Nat.le_of_ble_eq_true rfl⟩) ⟨fun a U g mk q => by obtain ⟨q0, qP, qK⟩ := q; exact ⟨q0, qP, va_K.moved (u := U) (U := U.calling g mk a) (Vm.Alike.refl U.vm) qK⟩, va_recv hKc hPc (ci := 3) (q0 := 0) rfl rfl, fun U hU hW => ⟨rfl, by rw [hU]; exact hPc, va_K.moved hW.alike hKc⟩⟩ rfl rfl hl.1 rfl (lv_room (Nat.le_of_ble_eq_true rfl)) dX2_gatherOf_21 ⟨Nat.le_of_ble_eq_true rfl, Nat.le_of_ble_eq_true rfl⟩) hS (fun _ _ h => h.elim) (fun _ h => h.elim) (fun r60 u t H1 locs ht hvm hw hB hz1 hk1 hS => ?_)
    have hP := pw_keep hP (fun q hq => hk1 q hq (fun h => h))
    generalize H1 = H at hP hS ⊢
    refine W.widen (k := 0) (n := 0) (Nat.le_of_ble_eq_true rfl) (Nat.le_of_ble_eq_true rfl) ?_
    have bor60 := hw.1
    have zor60 := pw_boolI bor60
    refine pw_join (fun (zz : (Nat → Int32) × Int32 × Int32 × Int32) H locs ls => match zz with | (f67, v68, v69, v70) => va_P D vwCl [(d_m, .inl (kI, 1000, .inl f67)), (a_a, .inr (3, [.ref f_lo, .ref f_hi, .int f_li])), (f_lo, .inl (kI, 200, .inl g_f_lo)), (f_hi, .inl (kI, 200, .inl g_f_hi)), (a_o, .inr (3, [.ref e_lo, .ref e_hi, .int e_li])), (e_lo, .inl (kI, 200, .inl g_e_lo)), (e_hi, .inl (kI, 200, .inl g_e_hi)), (h0, .inr (2, [.ref d_m, .ref d_sp, .int y2])), (d_sp, .inr (5, [.int v68, .int v69, .int v70]))] H ∧ va_D A [(d_m, .inl (kI, 1000, .inl f67)), (a_a, .inr (3, [.ref f_lo, .ref f_hi, .int f_li])), (f_lo, .inl (kI, 200, .inl g_f_lo)), (f_hi, .inl (kI, 200, .inl g_f_hi)), (a_o, .inr (3, [.ref e_lo, .ref e_hi, .int e_li])), (e_lo, .inl (kI, 200, .inl g_e_lo)), (e_hi, .inl (kI, 200, .inl g_e_hi)), (h0, .inr (2, [.ref d_m, .ref d_sp, .int y2])), (d_sp, .inr (5, [.int v68, .int v69, .int v70]))] ∧ va_S A s.heap H locs ∧ lv_has ls 5 [(0, .ref h0), (1, .int i_n), (2, .ref a_a), (3, .ref a_o), (4, .int v52)]) 0 0 (fun (zz : (Nat → Int32) × Int32 × Int32 × Int32) ls => match zz with | (f67, v68, v69, v70) => F0 m 34 ls []) (fun zz H locs ls hI => ?_) (fun hJ71 => ?_)
    ·
      obtain ⟨f67, v68, v69, v70⟩ := zz
      obtain ⟨hP, hD, hS, hl⟩ := hI
      have hP : va_P D vwCl [(d_m, .inl (kI, 1000, .inl f67)), (a_a, .inr (3, [.ref f_lo, .ref f_hi, .int f_li])), (f_lo, .inl (kI, 200, .inl g_f_lo)), (f_hi, .inl (kI, 200, .inl g_f_hi)), (a_o, .inr (3, [.ref e_lo, .ref e_hi, .int e_li])), (e_lo, .inl (kI, 200, .inl g_e_lo)), (e_hi, .inl (kI, 200, .inl g_e_hi)), (h0, .inr (2, [.ref d_m, .ref d_sp, .int y2])), (d_sp, .inr (5, [.int v68, .int v69, .int v70]))] H := hP
      have hD : va_D A [(d_m, .inl (kI, 1000, .inl f67)), (a_a, .inr (3, [.ref f_lo, .ref f_hi, .int f_li])), (f_lo, .inl (kI, 200, .inl g_f_lo)), (f_hi, .inl (kI, 200, .inl g_f_hi)), (a_o, .inr (3, [.ref e_lo, .ref e_hi, .int e_li])), (e_lo, .inl (kI, 200, .inl g_e_lo)), (e_hi, .inl (kI, 200, .inl g_e_hi)), (h0, .inr (2, [.ref d_m, .ref d_sp, .int y2])), (d_sp, .inr (5, [.int v68, .int v69, .int v70]))] := hD
      have hK : va_K D vwCl [(kI, .int)] s := hK
      have hl : lv_has ls 5 [(0, .ref h0), (1, .int i_n), (2, .ref a_a), (3, .ref a_o), (4, .int v52)] := hl
      refine W.eq (g2 := F0 m 34 ls []) rfl ?_
      obtain ⟨x72, ex72⟩ : ∃ y : Int32, y = v52 + 1 := ⟨_, rfl⟩
      refine lv_iinc (v := x72) (lv' := [(4, .int x72), (0, .ref h0), (1, .int i_n), (2, .ref a_a), (3, .ref a_o)]) hx hb dX2_gatherOf_34 hl (k := 4) rfl (by rw [ex72]; rfl) (by decide) rfl (fun ls hl => ?_)
      refine lv_goto (tgt := 7) hx hb dX2_gatherOf_37 (by decide) ?_
      have hP9 : va_P D vwCl [(d_m, .inl (kI, 1000, .inl f67)), (a_a, .inr (3, [.ref f_lo, .ref f_hi, .int f_li])), (f_lo, .inl (kI, 200, .inl g_f_lo)), (f_hi, .inl (kI, 200, .inl g_f_hi)), (a_o, .inr (3, [.ref e_lo, .ref e_hi, .int e_li])), (e_lo, .inl (kI, 200, .inl g_e_lo)), (e_hi, .inl (kI, 200, .inl g_e_hi)), (h0, .inr (2, [.ref d_m, .ref d_sp, .int y2])), (d_sp, .inr (5, [.int v68, .int v69, .int v70]))] H := hP.sub [0, 1, 2, 3, 4, 5, 6, 7, 8] rfl
      have hD9 : va_D A [(d_m, .inl (kI, 1000, .inl f67)), (a_a, .inr (3, [.ref f_lo, .ref f_hi, .int f_li])), (f_lo, .inl (kI, 200, .inl g_f_lo)), (f_hi, .inl (kI, 200, .inl g_f_hi)), (a_o, .inr (3, [.ref e_lo, .ref e_hi, .int e_li])), (e_lo, .inl (kI, 200, .inl g_e_lo)), (e_hi, .inl (kI, 200, .inl g_e_hi)), (h0, .inr (2, [.ref d_m, .ref d_sp, .int y2])), (d_sp, .inr (5, [.int v68, .int v69, .int v70]))] := hD.sub [0, 1, 2, 3, 4, 5, 6, 7, 8] (by decide) rfl
      have hl9 : lv_has ls 5 [(0, .ref h0), (1, .int i_n), (2, .ref a_a), (3, .ref a_o), (4, .int x72)] := lv_sub hl [1, 2, 3, 4, 0] rfl
      refine W.widen (k := 0) (n := 0) (Nat.le_of_ble_eq_true rfl) (Nat.le_of_ble_eq_true rfl) ?_
      exact ih57 (x72, f67, v68, v69, v70) _ _ _ (pw_up ex72 (by omega)) ⟨hP9, hD9, hS, hl9, (pw_upge ex72 (by omega) (by omega))⟩
    ·
      refine lv_if_eq (tgt := 34) hx hb dX2_gatherOf_24 (by decide) (fun c73 => ?_) (fun c73 => ?_)
      · have nc73 : r60.toInt = 0 := pw_eq c73 rfl (by decide)
        have hP9 : va_P D vwCl [(d_m, .inl (kI, 1000, .inl f53)), (a_a, .inr (3, [.ref f_lo, .ref f_hi, .int f_li])), (f_lo, .inl (kI, 200, .inl g_f_lo)), (f_hi, .inl (kI, 200, .inl g_f_hi)), (a_o, .inr (3, [.ref e_lo, .ref e_hi, .int e_li])), (e_lo, .inl (kI, 200, .inl g_e_lo)), (e_hi, .inl (kI, 200, .inl g_e_hi)), (h0, .inr (2, [.ref d_m, .ref d_sp, .int y2])), (d_sp, .inr (5, [.int v54, .int v55, .int v56]))] H := hP.sub [0, 1, 2, 3, 4, 5, 6, 7, 8] rfl
        have hD9 : va_D A [(d_m, .inl (kI, 1000, .inl f53)), (a_a, .inr (3, [.ref f_lo, .ref f_hi, .int f_li])), (f_lo, .inl (kI, 200, .inl g_f_lo)), (f_hi, .inl (kI, 200, .inl g_f_hi)), (a_o, .inr (3, [.ref e_lo, .ref e_hi, .int e_li])), (e_lo, .inl (kI, 200, .inl g_e_lo)), (e_hi, .inl (kI, 200, .inl g_e_hi)), (h0, .inr (2, [.ref d_m, .ref d_sp, .int y2])), (d_sp, .inr (5, [.int v54, .int v55, .int v56]))] := hD.sub [0, 1, 2, 3, 4, 5, 6, 7, 8] (by decide) rfl
        have hl9 : lv_has ls 5 [(0, .ref h0), (1, .int i_n), (2, .ref a_a), (3, .ref a_o), (4, .int v52)] := lv_sub hl [0, 1, 2, 3, 4] rfl
        refine W.widen (k := 0) (n := 0) (Nat.le_of_ble_eq_true rfl) (Nat.le_of_ble_eq_true rfl) ?_
        exact hJ71 (f53, v54, v55, v56) _ _ _ ⟨hP9, hD9, hS, hl9⟩
      · have nc73 : r60.toInt ≠ 0 := pw_ne c73 rfl (by decide)
        refine lv_aload_n hx hb dX2_gatherOf_27 rfl (lv_at hl 0 rfl) ?_
        refine lv_iload hx hb dX2_gatherOf_28 (lv_at hl 4 rfl) ?_
        refine lv_aload_n hx hb dX2_gatherOf_30 rfl (lv_at hl 3 rfl) ?_
        have hPc := hP.sub (ws' := [(h0, .inr (2, [.ref d_m, .ref d_sp, .int y2])), (d_m, .inl (kI, 1000, .inl f53)), (d_sp, .inr (5, [.int v54, .int v55, .int v56])), (a_o, .inr (3, [.ref e_lo, .ref e_hi, .int e_li])), (e_lo, .inl (kI, 200, .inl g_e_lo)), (e_hi, .inl (kI, 200, .inl g_e_hi))]) [7, 0, 8, 4, 5, 6] rfl
        have hKc := hK.sub (tys' := [(kI, .int)]) [0] rfl
        have hDc := hD.sub (ws' := [(h0, .inr (2, [.ref d_m, .ref d_sp, .int y2])), (d_m, .inl (kI, 1000, .inl f53)), (d_sp, .inr (5, [.int v54, .int v55, .int v56])), (a_o, .inr (3, [.ref e_lo, .ref e_hi, .int e_li])), (e_lo, .inl (kI, 200, .inl g_e_lo)), (e_hi, .inl (kI, 200, .inl g_e_hi))]) [7, 0, 8, 4, 5, 6] (by decide) rfl
        have hFc := va_free (wc := [(h0, .inr (2, [.ref d_m, .ref d_sp, .int y2])), (d_m, .inl (kI, 1000, .inl f53)), (d_sp, .inr (5, [.int v54, .int v55, .int v56])), (a_o, .inr (3, [.ref e_lo, .ref e_hi, .int e_li])), (e_lo, .inl (kI, 200, .inl g_e_lo)), (e_hi, .inl (kI, 200, .inl g_e_hi))]) hD hS hA [7, 0, 8, 4, 5, 6] rfl
        refine va_callv (va_runV (As := [.int v52, .ref a_o]) (rest := []) ⟨hx, hb, hml, hown, hts⟩ (c_X2_putNumbers l D h0 v52 a_o d_m d_sp y2 kI f53 v54 v55 v56 e_lo e_hi e_li g_e_lo g_e_hi H.size hg_e_lo hg_e_hi) (cwV 2 hts g_X2_gatherOf_X2_putNumbers rfl rfl rfl (by decide +kernel) ⟨Nat.le_of_ble_eq_true rfl, Nat.le_of_ble_eq_true rfl⟩) ⟨fun a U g mk q => by obtain ⟨q0, q1, qP, qK, qD⟩ := q; exact ⟨q0, q1, qP, va_K.moved (u := U) (U := U.calling g mk a) (Vm.Alike.refl U.vm) qK, qD⟩, va_recv hKc hPc (ci := 2) (q0 := 0) rfl rfl, fun U hU hW => ⟨rfl, by rw [hU], by rw [hU]; exact hPc, va_K.moved hW.alike hKc, hDc.weaken (fun _ _ _ _ => trivial)⟩⟩ rfl rfl hl.1 rfl (lv_room (Nat.le_of_ble_eq_true rfl)) dX2_gatherOf_31 ⟨Nat.le_of_ble_eq_true rfl, Nat.le_of_ble_eq_true rfl⟩) hS (fun q _ h => hFc q h) hFc (fun u t H1 locs ht hvm hw hB hz1 hk1 hS => ?_)
        obtain ⟨y75, y76, y77, y78, hP1, hK1, hD1⟩ := hB
        rw [ht] at hP1
        have hK1 := va_K.moved hvm.symm hK1
        obtain ⟨hP, hD⟩ := va_join (wr := [(a_a, .inr (3, [.ref f_lo, .ref f_hi, .int f_li])), (f_lo, .inl (kI, 200, .inl g_f_lo)), (f_hi, .inl (kI, 200, .inl g_f_hi))]) (w1 := [(h0, .inr (2, [.ref d_m, .ref d_sp, .int y2])), (d_m, .inl (kI, 1000, .inl y75)), (d_sp, .inr (5, [.int y76, .int y77, .int y78])), (a_o, .inr (3, [.ref e_lo, .ref e_hi, .int e_li])), (e_lo, .inl (kI, 200, .inl g_e_lo)), (e_hi, .inl (kI, 200, .inl g_e_hi))]) hP hD [7, 0, 8, 4, 5, 6] [1, 2, 3] rfl rfl (by decide) (by decide) hk1 hFc hP1 hD1
        have hK := (hK.sub (tys' := [(kI, .int)]) [0] rfl).app hK1
        generalize H1 = H at hP hS ⊢
        have hP : va_P D vwCl [(a_a, .inr (3, [.ref f_lo, .ref f_hi, .int f_li])), (f_lo, .inl (kI, 200, .inl g_f_lo)), (f_hi, .inl (kI, 200, .inl g_f_hi)), (h0, .inr (2, [.ref d_m, .ref d_sp, .int y2])), (d_m, .inl (kI, 1000, .inl y75)), (d_sp, .inr (5, [.int y76, .int y77, .int y78])), (a_o, .inr (3, [.ref e_lo, .ref e_hi, .int e_li])), (e_lo, .inl (kI, 200, .inl g_e_lo)), (e_hi, .inl (kI, 200, .inl g_e_hi))] H := hP
        have hD : va_D A [(a_a, .inr (3, [.ref f_lo, .ref f_hi, .int f_li])), (f_lo, .inl (kI, 200, .inl g_f_lo)), (f_hi, .inl (kI, 200, .inl g_f_hi)), (h0, .inr (2, [.ref d_m, .ref d_sp, .int y2])), (d_m, .inl (kI, 1000, .inl y75)), (d_sp, .inr (5, [.int y76, .int y77, .int y78])), (a_o, .inr (3, [.ref e_lo, .ref e_hi, .int e_li])), (e_lo, .inl (kI, 200, .inl g_e_lo)), (e_hi, .inl (kI, 200, .inl g_e_hi))] := hD
        have hK : va_K D vwCl [(kI, .int), (kI, .int)] s := hK
        refine W.widen (k := 0) (n := 0) (Nat.le_of_ble_eq_true rfl) (Nat.le_of_ble_eq_true rfl) ?_
        have hP9 : va_P D vwCl [(d_m, .inl (kI, 1000, .inl y75)), (a_a, .inr (3, [.ref f_lo, .ref f_hi, .int f_li])), (f_lo, .inl (kI, 200, .inl g_f_lo)), (f_hi, .inl (kI, 200, .inl g_f_hi)), (a_o, .inr (3, [.ref e_lo, .ref e_hi, .int e_li])), (e_lo, .inl (kI, 200, .inl g_e_lo)), (e_hi, .inl (kI, 200, .inl g_e_hi)), (h0, .inr (2, [.ref d_m, .ref d_sp, .int y2])), (d_sp, .inr (5, [.int y76, .int y77, .int y78]))] H := hP.sub [4, 0, 1, 2, 6, 7, 8, 3, 5] rfl
        have hD9 : va_D A [(d_m, .inl (kI, 1000, .inl y75)), (a_a, .inr (3, [.ref f_lo, .ref f_hi, .int f_li])), (f_lo, .inl (kI, 200, .inl g_f_lo)), (f_hi, .inl (kI, 200, .inl g_f_hi)), (a_o, .inr (3, [.ref e_lo, .ref e_hi, .int e_li])), (e_lo, .inl (kI, 200, .inl g_e_lo)), (e_hi, .inl (kI, 200, .inl g_e_hi)), (h0, .inr (2, [.ref d_m, .ref d_sp, .int y2])), (d_sp, .inr (5, [.int y76, .int y77, .int y78]))] := hD.sub [4, 0, 1, 2, 6, 7, 8, 3, 5] (by decide) rfl
        have hl9 : lv_has ls 5 [(0, .ref h0), (1, .int i_n), (2, .ref a_a), (3, .ref a_o), (4, .int v52)] := lv_sub hl [0, 1, 2, 3, 4] rfl
        refine W.widen (k := 0) (n := 0) (Nat.le_of_ble_eq_true rfl) (Nat.le_of_ble_eq_true rfl) ?_
        exact hJ71 (y75, y76, y77, y78) _ _ _ ⟨hP9, hD9, hS, hl9⟩
def w_X2_gatherOfSet : List Cond := .code yX2_gatherOfSet cX2_gatherOfSet 5 none :: ([.methodLink RX2 50 yX2_clear, .instanceMethod yX2_clear, .selects RX2 yX2_clear yX2_clear, .initialized RX2, .code yX2_clear cX2_clear 1 none, .fieldLink RX2 22 "LineCites$NumberSet" "round" "I", .fieldLink RX2 18 "LineCites$NumberSet" "span" "LLineCites$Span;", .methodLink RX2 26 yX5_clear, .instanceMethod yX5_clear, .selects RX5 yX5_clear yX5_clear, .initialized RX5, .code yX5_clear cX5_clear 1 none, .fieldLink RX5 9 "LineCites$Span" "size" "I", .methodLink RX2 51 yX3_lines, .instanceMethod yX3_lines, .selects RX3 yX3_lines yX3_lines, .initialized RX3, .code yX3_lines cX3_lines 1 (some .int), .fieldLink RX3 24 "LineCites$Numbering" "lines" "I", .methodLink RX2 39 yX3_low, .instanceMethod yX3_low, .selects RX3 yX3_low yX3_low, .code yX3_low cX3_low 2 (some .int), .fieldLink RX3 9 "LineCites$Numbering" "lows" "[I", .methodLink RX2 63 yX2_has, .instanceMethod yX2_has, .selects RX2 yX2_has yX2_has, .code yX2_has cX2_has 2 (some .boolean), .fieldLink RX2 9 "LineCites$NumberSet" "marks" "[I", .methodLink RX2 59 yX2_putNumbers, .instanceMethod yX2_putNumbers, .selects RX2 yX2_putNumbers yX2_putNumbers, .code yX2_putNumbers cX2_putNumbers 3 none, .methodLink RX2 33 yX3_isNumbered, .instanceMethod yX3_isNumbered, .selects RX3 yX3_isNumbered yX3_isNumbered, .code yX3_isNumbered cX3_isNumbered 2 (some .boolean), .methodLink RX3 46 yX3_low, .methodLink RX2 43 yX2_put, .instanceMethod yX2_put, .selects RX2 yX2_put yX2_put, .code yX2_put cX2_put 2 none, .methodLink RX2 29 yX5_put, .instanceMethod yX5_put, .selects RX5 yX5_put yX5_put, .code yX5_put cX5_put 2 none, .fieldLink RX5 15 "LineCites$Span" "least" "I", .fieldLink RX5 18 "LineCites$Span" "greatest" "I", .methodLink RX2 44 yX3_high, .instanceMethod yX3_high, .selects RX3 yX3_high yX3_high, .code yX3_high cX3_high 2 (some .int), .fieldLink RX3 15 "LineCites$Numbering" "highs" "[I"] ++ wsX20 ++ wsX50 ++ wsX30)
set_option maxRecDepth 20000 in
theorem g_X2_gatherOfSet_X2_clear : GoodIn w_X2_gatherOfSet (wsV RX2 50 RX2 yX2_clear w_X2_clear) := goodIn_r _ [1, 2, 3, 4, 5, 6, 7, 8, 9, 10, 11, 12, 13, 54, 55, 56, 57, 58, 59] rfl (by decide +kernel)
set_option maxRecDepth 20000 in
theorem g_X2_gatherOfSet_X3_lines : GoodIn w_X2_gatherOfSet (wsV RX2 51 RX3 yX3_lines w_X3_lines) := goodIn_r _ [14, 15, 16, 17, 18, 19, 60, 61, 62] rfl (by decide +kernel)
set_option maxRecDepth 20000 in
theorem g_X2_gatherOfSet_X3_low : GoodIn w_X2_gatherOfSet (wsV RX2 39 RX3 yX3_low w_X3_low) := goodIn_r _ [20, 21, 22, 17, 23, 24, 60, 61, 62] rfl (by decide +kernel)
set_option maxRecDepth 20000 in
theorem g_X2_gatherOfSet_X2_has : GoodIn w_X2_gatherOfSet (wsV RX2 63 RX2 yX2_has w_X2_has) := goodIn_r _ [25, 26, 27, 4, 28, 29, 6, 54, 55, 56] rfl (by decide +kernel)
set_option maxRecDepth 20000 in
theorem g_X2_gatherOfSet_X2_putNumbers : GoodIn w_X2_gatherOfSet (wsV RX2 59 RX2 yX2_putNumbers w_X2_putNumbers) := goodIn_r _ [30, 31, 32, 4, 33, 34, 35, 36, 17, 37, 38, 21, 22, 23, 24, 20, 39, 40, 41, 4, 42, 29, 6, 7, 43, 44, 45, 11, 46, 13, 47, 48, 49, 50, 51, 52, 53, 60, 61, 62, 54, 55, 56, 57, 58, 59] rfl (by decide +kernel)
set_option maxRecDepth 20000 in
theorem g_X2_gatherOfSet_X3_high : GoodIn w_X2_gatherOfSet (wsV RX2 44 RX3 yX3_high w_X3_high) := goodIn_r _ [49, 50, 51, 17, 52, 53, 60, 61, 62] rfl (by decide +kernel)
set_option maxHeartbeats 4000000 in
set_option maxRecDepth 100000 in
theorem c_X2_gatherOfSet (l : Launch) (D : va_G) (h0 : Nat) (a_st : Nat) (a_a : Nat) (a_o : Nat) (d_m : Nat) (d_sp : Nat) (d_r : Int32) (kI : ClassId) (g_d_m : Nat → Int32) (d_s : Int32) (d_l : Int32) (d_g : Int32) (s_m : Nat) (s_sp : Nat) (s_r : Int32) (g_s_m : Nat → Int32) (f_lo : Nat) (f_hi : Nat) (f_li : Int32) (g_f_lo : Nat → Int32) (g_f_hi : Nat → Int32) (e_lo : Nat) (e_hi : Nat) (e_li : Int32) (g_e_lo : Nat → Int32) (g_e_hi : Nat → Int32) (sz : Nat) (hg_f_lo : bN g_f_lo) (hg_f_hi : bN g_f_hi) (hg_e_lo : bN g_e_lo) (hg_e_hi : bN g_e_hi) : Met l yX2_gatherOfSet w_X2_gatherOfSet ({ frames := 3, cells := 0, slots := 0, locals := 64 }) (va_Pc [.ref h0, .ref a_st, .ref a_a, .ref a_o] (fun U => U.heap.size = sz ∧ va_P D vwCl [(h0, .inr (2, [.ref d_m, .ref d_sp, .int d_r])), (d_m, .inl (kI, 1000, .inl g_d_m)), (d_sp, .inr (5, [.int d_s, .int d_l, .int d_g])), (a_st, .inr (2, [.ref s_m, .ref s_sp, .int s_r])), (s_m, .inl (kI, 1000, .inl g_s_m)), (a_a, .inr (3, [.ref f_lo, .ref f_hi, .int f_li])), (f_lo, .inl (kI, 200, .inl g_f_lo)), (f_hi, .inl (kI, 200, .inl g_f_hi)), (a_o, .inr (3, [.ref e_lo, .ref e_hi, .int e_li])), (e_lo, .inl (kI, 200, .inl g_e_lo)), (e_hi, .inl (kI, 200, .inl g_e_hi))] U.heap ∧ va_K D vwCl [(kI, .int)] U ∧ va_D (fun _ => True) [(h0, .inr (2, [.ref d_m, .ref d_sp, .int d_r])), (d_m, .inl (kI, 1000, .inl g_d_m)), (d_sp, .inr (5, [.int d_s, .int d_l, .int d_g])), (a_st, .inr (2, [.ref s_m, .ref s_sp, .int s_r])), (s_m, .inl (kI, 1000, .inl g_s_m)), (a_a, .inr (3, [.ref f_lo, .ref f_hi, .int f_li])), (f_lo, .inl (kI, 200, .inl g_f_lo)), (f_hi, .inl (kI, 200, .inl g_f_hi)), (a_o, .inr (3, [.ref e_lo, .ref e_hi, .int e_li])), (e_lo, .inl (kI, 200, .inl g_e_lo)), (e_hi, .inl (kI, 200, .inl g_e_hi))])) (va_Qv (fun (_ : Unit) => True) (fun (_ : Unit) t => ∃ (n_r : Int32) (n_m : Nat → Int32) (n_s : Int32) (n_l : Int32) (n_g : Int32), va_P D vwCl [(h0, .inr (2, [.ref d_m, .ref d_sp, .int n_r])), (d_m, .inl (kI, 1000, .inl n_m)), (d_sp, .inr (5, [.int n_s, .int n_l, .int n_g])), (a_st, .inr (2, [.ref s_m, .ref s_sp, .int s_r])), (s_m, .inl (kI, 1000, .inl g_s_m)), (a_a, .inr (3, [.ref f_lo, .ref f_hi, .int f_li])), (f_lo, .inl (kI, 200, .inl g_f_lo)), (f_hi, .inl (kI, 200, .inl g_f_hi)), (a_o, .inr (3, [.ref e_lo, .ref e_hi, .int e_li])), (e_lo, .inl (kI, 200, .inl g_e_lo)), (e_hi, .inl (kI, 200, .inl g_e_hi))] t.heap ∧ va_K D vwCl [(kI, .int)] t ∧ va_D (va_A [(h0, .inr (2, [.ref d_m, .ref d_sp, .int d_r])), (d_m, .inl (kI, 1000, .inl g_d_m)), (d_sp, .inr (5, [.int d_s, .int d_l, .int d_g])), (a_st, .inr (2, [.ref s_m, .ref s_sp, .int s_r])), (s_m, .inl (kI, 1000, .inl g_s_m)), (a_a, .inr (3, [.ref f_lo, .ref f_hi, .int f_li])), (f_lo, .inl (kI, 200, .inl g_f_lo)), (f_hi, .inl (kI, 200, .inl g_f_hi)), (a_o, .inr (3, [.ref e_lo, .ref e_hi, .int e_li])), (e_lo, .inl (kI, 200, .inl g_e_lo)), (e_hi, .inl (kI, 200, .inl g_e_hi))] sz) [(h0, .inr (2, [.ref d_m, .ref d_sp, .int n_r])), (d_m, .inl (kI, 1000, .inl n_m)), (d_sp, .inr (5, [.int n_s, .int n_l, .int n_g])), (a_st, .inr (2, [.ref s_m, .ref s_sp, .int s_r])), (s_m, .inl (kI, 1000, .inl g_s_m)), (a_a, .inr (3, [.ref f_lo, .ref f_hi, .int f_li])), (f_lo, .inl (kI, 200, .inl g_f_lo)), (f_hi, .inl (kI, 200, .inl g_f_hi)), (a_o, .inr (3, [.ref e_lo, .ref e_hi, .int e_li])), (e_lo, .inl (kI, 200, .inl g_e_lo)), (e_hi, .inl (kI, 200, .inl g_e_hi))]) (va_A [(h0, .inr (2, [.ref d_m, .ref d_sp, .int d_r])), (d_m, .inl (kI, 1000, .inl g_d_m)), (d_sp, .inr (5, [.int d_s, .int d_l, .int d_g])), (a_st, .inr (2, [.ref s_m, .ref s_sp, .int s_r])), (s_m, .inl (kI, 1000, .inl g_s_m)), (a_a, .inr (3, [.ref f_lo, .ref f_hi, .int f_li])), (f_lo, .inl (kI, 200, .inl g_f_lo)), (f_hi, .inl (kI, 200, .inl g_f_hi)), (a_o, .inr (3, [.ref e_lo, .ref e_hi, .int e_li])), (e_lo, .inl (kI, 200, .inl g_e_lo)), (e_hi, .inl (kI, 200, .inl g_e_hi))] sz)) 0 0 (va_A [(h0, .inr (2, [.ref d_m, .ref d_sp, .int d_r])), (d_m, .inl (kI, 1000, .inl g_d_m)), (d_sp, .inr (5, [.int d_s, .int d_l, .int d_g])), (a_st, .inr (2, [.ref s_m, .ref s_sp, .int s_r])), (s_m, .inl (kI, 1000, .inl g_s_m)), (a_a, .inr (3, [.ref f_lo, .ref f_hi, .int f_li])), (f_lo, .inl (kI, 200, .inl g_f_lo)), (f_hi, .inl (kI, 200, .inl g_f_hi)), (a_o, .inr (3, [.ref e_lo, .ref e_hi, .int e_li])), (e_lo, .inl (kI, 200, .inl g_e_lo)), (e_hi, .inl (kI, 200, .inl g_e_hi))] sz) := by
  refine Met.ofW (cc := cX2_gatherOfSet) (maxL := 5) (ret := none) (by decide) rfl ?_
  intro p e s m args below meth c s₁ B hml hv
  obtain ⟨rfl, hsz, hP, hK, hD0⟩ := hv
  have hx := B.exec
  have hb := B.bytes
  have hr := B.returns
  have hts := atoms_spec (ws := w_X2_gatherOfSet) B.pre
  have hown : s.vm.findClass RX2 = some m.cls := findClass_of_methodNamed B.named
  have hlocks := B.notSynchronized
  subst hsz
  have hD := hD0.self (sz := s.heap.size)
  generalize hAe : va_A [(h0, .inr (2, [.ref d_m, .ref d_sp, .int d_r])), (d_m, .inl (kI, 1000, .inl g_d_m)), (d_sp, .inr (5, [.int d_s, .int d_l, .int d_g])), (a_st, .inr (2, [.ref s_m, .ref s_sp, .int s_r])), (s_m, .inl (kI, 1000, .inl g_s_m)), (a_a, .inr (3, [.ref f_lo, .ref f_hi, .int f_li])), (f_lo, .inl (kI, 200, .inl g_f_lo)), (f_hi, .inl (kI, 200, .inl g_f_hi)), (a_o, .inr (3, [.ref e_lo, .ref e_hi, .int e_li])), (e_lo, .inl (kI, 200, .inl g_e_lo)), (e_hi, .inl (kI, 200, .inl g_e_hi))] s.heap.size = A at hD ⊢
  have hA : ∀ q : Nat, s.heap.size ≤ q → A q := fun q h => by rw [← hAe]; exact Or.inr h
  have hS : va_S A s.heap s.heap [] := va_S.rf
  have hP : va_P D vwCl [(h0, .inr (2, [.ref d_m, .ref d_sp, .int d_r])), (d_m, .inl (kI, 1000, .inl g_d_m)), (d_sp, .inr (5, [.int d_s, .int d_l, .int d_g])), (a_st, .inr (2, [.ref s_m, .ref s_sp, .int s_r])), (s_m, .inl (kI, 1000, .inl g_s_m)), (a_a, .inr (3, [.ref f_lo, .ref f_hi, .int f_li])), (f_lo, .inl (kI, 200, .inl g_f_lo)), (f_hi, .inl (kI, 200, .inl g_f_hi)), (a_o, .inr (3, [.ref e_lo, .ref e_hi, .int e_li])), (e_lo, .inl (kI, 200, .inl g_e_lo)), (e_hi, .inl (kI, 200, .inl g_e_hi))] s.heap := hP
  have hl := lv_entry ([.ref h0, .ref a_st, .ref a_a, .ref a_o]) (n := 5) (Nat.le_of_ble_eq_true rfl)
  rw [lg_entry_eq]
  generalize (lg_sl ([.ref h0, .ref a_st, .ref a_a, .ref a_o]) ++ List.replicate (5 - (lg_sl ([.ref h0, .ref a_st, .ref a_a, .ref a_o])).length) Slot.unset).toArray = ls at hl ⊢
  have hl : lv_has ls 5 [(0, .ref h0), (1, .ref a_st), (2, .ref a_a), (3, .ref a_o)] := hl
  obtain ⟨H, hHe⟩ : ∃ H : Heap, H = s.heap := ⟨_, rfl⟩
  rw [← hHe] at hP
  have hS : va_S A s.heap H [] := by rw [hHe]; exact hS
  refine pw_heap hHe ?_
  refine lv_aload_n hx hb dX2_gatherOfSet_0 rfl (lv_at hl 0 rfl) ?_
  have hPc := hP.sub (ws' := [(h0, .inr (2, [.ref d_m, .ref d_sp, .int d_r])), (d_sp, .inr (5, [.int d_s, .int d_l, .int d_g]))]) [0, 2] rfl
  have hKc := hK.sub (tys' := []) [] rfl
  have hDc := hD.sub (ws' := [(h0, .inr (2, [.ref d_m, .ref d_sp, .int d_r])), (d_sp, .inr (5, [.int d_s, .int d_l, .int d_g]))]) [0, 2] (by decide) rfl
  have hFc := va_free (wc := [(h0, .inr (2, [.ref d_m, .ref d_sp, .int d_r])), (d_sp, .inr (5, [.int d_s, .int d_l, .int d_g]))]) hD hS hA [0, 2] rfl
  refine va_callv (va_runV (As := []) (rest := []) ⟨hx, hb, hml, hown, hts⟩ (c_X2_clear l D h0 d_m d_sp d_r d_s d_l d_g H.size) (cwV 0 hts g_X2_gatherOfSet_X2_clear rfl rfl rfl (by decide +kernel) ⟨Nat.le_of_ble_eq_true rfl, Nat.le_of_ble_eq_true rfl⟩) ⟨fun a U g mk q => by obtain ⟨q0, q1, qP, qK, qD⟩ := q; exact ⟨q0, q1, qP, va_K.moved (u := U) (U := U.calling g mk a) (Vm.Alike.refl U.vm) qK, qD⟩, va_recv hKc hPc (ci := 2) (q0 := 0) rfl rfl, fun U hU hW => ⟨rfl, by rw [hU], by rw [hU]; exact hPc, va_K.moved hW.alike hKc, hDc.weaken (fun _ _ _ _ => trivial)⟩⟩ rfl rfl hl.1 rfl (lv_room (Nat.le_of_ble_eq_true rfl)) dX2_gatherOfSet_1 ⟨Nat.le_of_ble_eq_true rfl, Nat.le_of_ble_eq_true rfl⟩) hS (fun q _ h => hFc q h) hFc (fun u t H1 locs ht hvm hw hB hz1 hk1 hS => ?_)
  obtain ⟨y2, y3, y4, y5, hP1, hK1, hD1⟩ := hB
  rw [ht] at hP1
  have hK1 := va_K.moved hvm.symm hK1
  obtain ⟨hP, hD⟩ := va_join (wr := [(d_m, .inl (kI, 1000, .inl g_d_m)), (a_st, .inr (2, [.ref s_m, .ref s_sp, .int s_r])), (s_m, .inl (kI, 1000, .inl g_s_m)), (a_a, .inr (3, [.ref f_lo, .ref f_hi, .int f_li])), (f_lo, .inl (kI, 200, .inl g_f_lo)), (f_hi, .inl (kI, 200, .inl g_f_hi)), (a_o, .inr (3, [.ref e_lo, .ref e_hi, .int e_li])), (e_lo, .inl (kI, 200, .inl g_e_lo)), (e_hi, .inl (kI, 200, .inl g_e_hi))]) (w1 := [(h0, .inr (2, [.ref d_m, .ref d_sp, .int y2])), (d_sp, .inr (5, [.int y3, .int y4, .int y5]))]) hP hD [0, 2] [1, 3, 4, 5, 6, 7, 8, 9, 10] rfl rfl (by decide) (by decide) hk1 hFc hP1 hD1
  have hK := (hK.sub (tys' := [(kI, .int)]) [0] rfl).app hK1
  generalize H1 = H at hP hS ⊢
  have hP : va_P D vwCl [(d_m, .inl (kI, 1000, .inl g_d_m)), (a_st, .inr (2, [.ref s_m, .ref s_sp, .int s_r])), (s_m, .inl (kI, 1000, .inl g_s_m)), (a_a, .inr (3, [.ref f_lo, .ref f_hi, .int f_li])), (f_lo, .inl (kI, 200, .inl g_f_lo)), (f_hi, .inl (kI, 200, .inl g_f_hi)), (a_o, .inr (3, [.ref e_lo, .ref e_hi, .int e_li])), (e_lo, .inl (kI, 200, .inl g_e_lo)), (e_hi, .inl (kI, 200, .inl g_e_hi)), (h0, .inr (2, [.ref d_m, .ref d_sp, .int y2])), (d_sp, .inr (5, [.int y3, .int y4, .int y5]))] H := hP
  have hD : va_D A [(d_m, .inl (kI, 1000, .inl g_d_m)), (a_st, .inr (2, [.ref s_m, .ref s_sp, .int s_r])), (s_m, .inl (kI, 1000, .inl g_s_m)), (a_a, .inr (3, [.ref f_lo, .ref f_hi, .int f_li])), (f_lo, .inl (kI, 200, .inl g_f_lo)), (f_hi, .inl (kI, 200, .inl g_f_hi)), (a_o, .inr (3, [.ref e_lo, .ref e_hi, .int e_li])), (e_lo, .inl (kI, 200, .inl g_e_lo)), (e_hi, .inl (kI, 200, .inl g_e_hi)), (h0, .inr (2, [.ref d_m, .ref d_sp, .int y2])), (d_sp, .inr (5, [.int y3, .int y4, .int y5]))] := hD
  have hK : va_K D vwCl [(kI, .int)] s := hK
  refine W.widen (k := 0) (n := 0) (Nat.le_of_ble_eq_true rfl) (Nat.le_of_ble_eq_true rfl) ?_
  refine lv_iconst (v := 0) hx hb dX2_gatherOfSet_4 (by decide) ?_
  refine lv_istore (lv' := [(4, .int 0), (0, .ref h0), (1, .ref a_st), (2, .ref a_a), (3, .ref a_o)]) hx hb dX2_gatherOfSet_5 hl (by decide) rfl (fun ls hl => ?_)
  have hl9 : lv_has ls 5 [(0, .ref h0), (1, .ref a_st), (2, .ref a_a), (3, .ref a_o), (4, .int 0)] := lv_sub hl [1, 2, 3, 4, 0] rfl
  refine pw_loop (fun (zz : Int32 × (Nat → Int32) × Int32 × Int32 × Int32) H locs ls => match zz with | (v86, f87, v88, v89, v90) => va_P D vwCl [(d_m, .inl (kI, 1000, .inl f87)), (a_st, .inr (2, [.ref s_m, .ref s_sp, .int s_r])), (s_m, .inl (kI, 1000, .inl g_s_m)), (a_a, .inr (3, [.ref f_lo, .ref f_hi, .int f_li])), (f_lo, .inl (kI, 200, .inl g_f_lo)), (f_hi, .inl (kI, 200, .inl g_f_hi)), (a_o, .inr (3, [.ref e_lo, .ref e_hi, .int e_li])), (e_lo, .inl (kI, 200, .inl g_e_lo)), (e_hi, .inl (kI, 200, .inl g_e_hi)), (h0, .inr (2, [.ref d_m, .ref d_sp, .int y2])), (d_sp, .inr (5, [.int v88, .int v89, .int v90]))] H ∧ va_D A [(d_m, .inl (kI, 1000, .inl f87)), (a_st, .inr (2, [.ref s_m, .ref s_sp, .int s_r])), (s_m, .inl (kI, 1000, .inl g_s_m)), (a_a, .inr (3, [.ref f_lo, .ref f_hi, .int f_li])), (f_lo, .inl (kI, 200, .inl g_f_lo)), (f_hi, .inl (kI, 200, .inl g_f_hi)), (a_o, .inr (3, [.ref e_lo, .ref e_hi, .int e_li])), (e_lo, .inl (kI, 200, .inl g_e_lo)), (e_hi, .inl (kI, 200, .inl g_e_hi)), (h0, .inr (2, [.ref d_m, .ref d_sp, .int y2])), (d_sp, .inr (5, [.int v88, .int v89, .int v90]))] ∧ va_S A s.heap H locs ∧ lv_has ls 5 [(0, .ref h0), (1, .ref a_st), (2, .ref a_a), (3, .ref a_o), (4, .int v86)] ∧ 0 ≤ v86.toInt) (fun (zz : Int32 × (Nat → Int32) × Int32 × Int32 × Int32)  => match zz with | (v86, f87, v88, v89, v90) => (2147483648 - v86.toInt).toNat) 0 0 (fun (zz : Int32 × (Nat → Int32) × Int32 × Int32 × Int32) ls => match zz with | (v86, f87, v88, v89, v90) => F0 m 7 ls []) (fun zz H locs ls ih91 hI => ?_) (0, g_d_m, y3, y4, y5) _ _ _ ⟨hP, hD, hS, hl9, (by decide)⟩
  obtain ⟨v86, f87, v88, v89, v90⟩ := zz
  obtain ⟨hP, hD, hS, hl, bv86⟩ := hI
  have bv86 : 0 ≤ v86.toInt := bv86
  have hP : va_P D vwCl [(d_m, .inl (kI, 1000, .inl f87)), (a_st, .inr (2, [.ref s_m, .ref s_sp, .int s_r])), (s_m, .inl (kI, 1000, .inl g_s_m)), (a_a, .inr (3, [.ref f_lo, .ref f_hi, .int f_li])), (f_lo, .inl (kI, 200, .inl g_f_lo)), (f_hi, .inl (kI, 200, .inl g_f_hi)), (a_o, .inr (3, [.ref e_lo, .ref e_hi, .int e_li])), (e_lo, .inl (kI, 200, .inl g_e_lo)), (e_hi, .inl (kI, 200, .inl g_e_hi)), (h0, .inr (2, [.ref d_m, .ref d_sp, .int y2])), (d_sp, .inr (5, [.int v88, .int v89, .int v90]))] H := hP
  have hD : va_D A [(d_m, .inl (kI, 1000, .inl f87)), (a_st, .inr (2, [.ref s_m, .ref s_sp, .int s_r])), (s_m, .inl (kI, 1000, .inl g_s_m)), (a_a, .inr (3, [.ref f_lo, .ref f_hi, .int f_li])), (f_lo, .inl (kI, 200, .inl g_f_lo)), (f_hi, .inl (kI, 200, .inl g_f_hi)), (a_o, .inr (3, [.ref e_lo, .ref e_hi, .int e_li])), (e_lo, .inl (kI, 200, .inl g_e_lo)), (e_hi, .inl (kI, 200, .inl g_e_hi)), (h0, .inr (2, [.ref d_m, .ref d_sp, .int y2])), (d_sp, .inr (5, [.int v88, .int v89, .int v90]))] := hD
  have hK : va_K D vwCl [(kI, .int)] s := hK
  have hl : lv_has ls 5 [(0, .ref h0), (1, .ref a_st), (2, .ref a_a), (3, .ref a_o), (4, .int v86)] := hl
  refine W.eq (g2 := F0 m 7 ls []) rfl ?_
  refine lv_iload hx hb dX2_gatherOfSet_7 (lv_at hl 4 rfl) ?_
  refine lv_aload_n hx hb dX2_gatherOfSet_9 rfl (lv_at hl 2 rfl) ?_
  have hPc := hP.sub (ws' := [(a_a, .inr (3, [.ref f_lo, .ref f_hi, .int f_li]))]) [3] rfl
  have hKc := hK.sub (tys' := []) [] rfl
  refine va_calli (va_runV (As := []) (rest := [.int v86]) ⟨hx, hb, hml, hown, hts⟩ (c_X3_lines l D a_a f_lo f_hi f_li) (cwV 0 hts g_X2_gatherOfSet_X3_lines rfl rfl rfl (by decide +kernel) ⟨Nat.le_of_ble_eq_true rfl, Nat.le_of_ble_eq_true rfl⟩) ⟨fun a U g mk q => by obtain ⟨q0, qP, qK⟩ := q; exact ⟨q0, qP, va_K.moved (u := U) (U := U.calling g mk a) (Vm.Alike.refl U.vm) qK⟩, va_recv hKc hPc (ci := 3) (q0 := 0) rfl rfl, fun U hU hW => ⟨rfl, by rw [hU]; exact hPc, va_K.moved hW.alike hKc⟩⟩ rfl rfl hl.1 rfl (lv_room (Nat.le_of_ble_eq_true rfl)) dX2_gatherOfSet_10 ⟨Nat.le_of_ble_eq_true rfl, Nat.le_of_ble_eq_true rfl⟩) hS (fun _ _ h => h.elim) (fun _ h => h.elim) (fun r92 u t H1 locs ht hvm hw hB hz1 hk1 hS => ?_)
  have hP := pw_keep hP (fun q hq => hk1 q hq (fun h => h))
  generalize H1 = H at hP hS ⊢
  refine W.widen (k := 0) (n := 0) (Nat.le_of_ble_eq_true rfl) (Nat.le_of_ble_eq_true rfl) ?_
  rw [show r92 = f_li from hw]
  refine lv_icmp_ge (tgt := 55) hx hb dX2_gatherOfSet_13 (by decide) (fun c93 => ?_) (fun c93 => ?_)
  · have nc93 : f_li.toInt ≤ v86.toInt := pw_le c93 rfl rfl
    have mc93v86 := pw_max v86
    have mc93f_li := pw_max f_li
    have hP9 := hP.sub (ws' := [(h0, .inr (2, [.ref d_m, .ref d_sp, .int y2])), (d_m, .inl (kI, 1000, .inl f87)), (d_sp, .inr (5, [.int v88, .int v89, .int v90])), (a_st, .inr (2, [.ref s_m, .ref s_sp, .int s_r])), (s_m, .inl (kI, 1000, .inl g_s_m)), (a_a, .inr (3, [.ref f_lo, .ref f_hi, .int f_li])), (f_lo, .inl (kI, 200, .inl g_f_lo)), (f_hi, .inl (kI, 200, .inl g_f_hi)), (a_o, .inr (3, [.ref e_lo, .ref e_hi, .int e_li])), (e_lo, .inl (kI, 200, .inl g_e_lo)), (e_hi, .inl (kI, 200, .inl g_e_hi))]) [9, 0, 10, 1, 2, 3, 4, 5, 6, 7, 8] rfl
    have hD9 := hD.sub (ws' := [(h0, .inr (2, [.ref d_m, .ref d_sp, .int y2])), (d_m, .inl (kI, 1000, .inl f87)), (d_sp, .inr (5, [.int v88, .int v89, .int v90])), (a_st, .inr (2, [.ref s_m, .ref s_sp, .int s_r])), (s_m, .inl (kI, 1000, .inl g_s_m)), (a_a, .inr (3, [.ref f_lo, .ref f_hi, .int f_li])), (f_lo, .inl (kI, 200, .inl g_f_lo)), (f_hi, .inl (kI, 200, .inl g_f_hi)), (a_o, .inr (3, [.ref e_lo, .ref e_hi, .int e_li])), (e_lo, .inl (kI, 200, .inl g_e_lo)), (e_hi, .inl (kI, 200, .inl g_e_hi))]) [9, 0, 10, 1, 2, 3, 4, 5, 6, 7, 8] (by decide) rfl
    have hK9 := hK.sub (tys' := [(kI, .int)]) [0] rfl
    refine W.widen (k := 0) (n := 0) (Nat.le_of_ble_eq_true rfl) (Nat.le_of_ble_eq_true rfl) ?_
    exact W.vret hx hb hr (fun t ht hW => ⟨⟨(), rfl, trivial, y2, f87, v88, v89, v90, by rw [ht]; exact hP9, va_K.moved hW.alike hK9, hD9⟩, hS.F ht⟩) hS.2.2 dX2_gatherOfSet_55
  · have nc93 : v86.toInt < f_li.toInt := pw_nle c93 rfl rfl
    have mc93v86 := pw_max v86
    have mc93f_li := pw_max f_li
    refine lv_aload_n hx hb dX2_gatherOfSet_16 rfl (lv_at hl 1 rfl) ?_
    refine lv_aload_n hx hb dX2_gatherOfSet_17 rfl (lv_at hl 2 rfl) ?_
    refine lv_iload hx hb dX2_gatherOfSet_18 (lv_at hl 4 rfl) ?_
    have hPc := hP.sub (ws' := [(a_a, .inr (3, [.ref f_lo, .ref f_hi, .int f_li])), (f_lo, .inl (kI, 200, .inl g_f_lo))]) [3, 4] rfl
    have hKc := hK.sub (tys' := [(kI, .int)]) [0] rfl
    refine va_calli (va_runV (As := [.int v86]) (rest := [.ref a_st]) ⟨hx, hb, hml, hown, hts⟩ (c_X3_low l D a_a v86 f_lo f_hi f_li kI g_f_lo hg_f_lo) (cwV 1 hts g_X2_gatherOfSet_X3_low rfl rfl rfl (by decide +kernel) ⟨Nat.le_of_ble_eq_true rfl, Nat.le_of_ble_eq_true rfl⟩) ⟨fun a U g mk q => by obtain ⟨q0, qP, qK⟩ := q; exact ⟨q0, qP, va_K.moved (u := U) (U := U.calling g mk a) (Vm.Alike.refl U.vm) qK⟩, va_recv hKc hPc (ci := 3) (q0 := 0) rfl rfl, fun U hU hW => ⟨rfl, by rw [hU]; exact hPc, va_K.moved hW.alike hKc⟩⟩ rfl rfl hl.1 rfl (lv_room (Nat.le_of_ble_eq_true rfl)) dX2_gatherOfSet_20 ⟨Nat.le_of_ble_eq_true rfl, Nat.le_of_ble_eq_true rfl⟩) hS (fun _ _ h => h.elim) (fun _ h => h.elim) (fun r94 u t H1 locs ht hvm hw hB hz1 hk1 hS => ?_)
    have hP := pw_keep hP (fun q hq => hk1 q hq (fun h => h))
    generalize H1 = H at hP hS ⊢
    refine W.widen (k := 0) (n := 0) (Nat.le_of_ble_eq_true rfl) (Nat.le_of_ble_eq_true rfl) ?_
    have hfr94 := hw
    have hPc := hP.sub (ws' := [(a_st, .inr (2, [.ref s_m, .ref s_sp, .int s_r])), (s_m, .inl (kI, 1000, .inl g_s_m))]) [1, 2] rfl
    have hKc := hK.sub (tys' := [(kI, .int)]) [0] rfl
    refine va_calli (va_runV (As := [.int r94]) (rest := []) ⟨hx, hb, hml, hown, hts⟩ (c_X2_has l D a_st r94 s_m s_sp s_r kI g_s_m) (cwV 1 hts g_X2_gatherOfSet_X2_has rfl rfl rfl (by decide +kernel) ⟨Nat.le_of_ble_eq_true rfl, Nat.le_of_ble_eq_true rfl⟩) ⟨fun a U g mk q => by obtain ⟨q0, qP, qK⟩ := q; exact ⟨q0, qP, va_K.moved (u := U) (U := U.calling g mk a) (Vm.Alike.refl U.vm) qK⟩, va_recv hKc hPc (ci := 2) (q0 := 0) rfl rfl, fun U hU hW => ⟨rfl, by rw [hU]; exact hPc, va_K.moved hW.alike hKc⟩⟩ rfl rfl hl.1 rfl (lv_room (Nat.le_of_ble_eq_true rfl)) dX2_gatherOfSet_23 ⟨Nat.le_of_ble_eq_true rfl, Nat.le_of_ble_eq_true rfl⟩) hS (fun _ _ h => h.elim) (fun _ h => h.elim) (fun r95 u t H1 locs ht hvm hw hB hz1 hk1 hS => ?_)
    have hP := pw_keep hP (fun q hq => hk1 q hq (fun h => h))
    generalize H1 = H at hP hS ⊢
    refine W.widen (k := 0) (n := 0) (Nat.le_of_ble_eq_true rfl) (Nat.le_of_ble_eq_true rfl) ?_
    have bor95 := hw.1
    have zor95 := pw_boolI bor95
    refine pw_join (fun (zz : (Nat → Int32) × Int32 × Int32 × Int32) H locs ls => match zz with | (f110, v111, v112, v113) => va_P D vwCl [(d_m, .inl (kI, 1000, .inl f110)), (a_st, .inr (2, [.ref s_m, .ref s_sp, .int s_r])), (s_m, .inl (kI, 1000, .inl g_s_m)), (a_a, .inr (3, [.ref f_lo, .ref f_hi, .int f_li])), (f_lo, .inl (kI, 200, .inl g_f_lo)), (f_hi, .inl (kI, 200, .inl g_f_hi)), (a_o, .inr (3, [.ref e_lo, .ref e_hi, .int e_li])), (e_lo, .inl (kI, 200, .inl g_e_lo)), (e_hi, .inl (kI, 200, .inl g_e_hi)), (h0, .inr (2, [.ref d_m, .ref d_sp, .int y2])), (d_sp, .inr (5, [.int v111, .int v112, .int v113]))] H ∧ va_D A [(d_m, .inl (kI, 1000, .inl f110)), (a_st, .inr (2, [.ref s_m, .ref s_sp, .int s_r])), (s_m, .inl (kI, 1000, .inl g_s_m)), (a_a, .inr (3, [.ref f_lo, .ref f_hi, .int f_li])), (f_lo, .inl (kI, 200, .inl g_f_lo)), (f_hi, .inl (kI, 200, .inl g_f_hi)), (a_o, .inr (3, [.ref e_lo, .ref e_hi, .int e_li])), (e_lo, .inl (kI, 200, .inl g_e_lo)), (e_hi, .inl (kI, 200, .inl g_e_hi)), (h0, .inr (2, [.ref d_m, .ref d_sp, .int y2])), (d_sp, .inr (5, [.int v111, .int v112, .int v113]))] ∧ va_S A s.heap H locs ∧ lv_has ls 5 [(0, .ref h0), (1, .ref a_st), (2, .ref a_a), (3, .ref a_o), (4, .int v86)]) 0 0 (fun (zz : (Nat → Int32) × Int32 × Int32 × Int32) ls => match zz with | (f110, v111, v112, v113) => F0 m 49 ls []) (fun zz H locs ls hI => ?_) (fun hJ114 => ?_)
    ·
      obtain ⟨f110, v111, v112, v113⟩ := zz
      obtain ⟨hP, hD, hS, hl⟩ := hI
      have hP : va_P D vwCl [(d_m, .inl (kI, 1000, .inl f110)), (a_st, .inr (2, [.ref s_m, .ref s_sp, .int s_r])), (s_m, .inl (kI, 1000, .inl g_s_m)), (a_a, .inr (3, [.ref f_lo, .ref f_hi, .int f_li])), (f_lo, .inl (kI, 200, .inl g_f_lo)), (f_hi, .inl (kI, 200, .inl g_f_hi)), (a_o, .inr (3, [.ref e_lo, .ref e_hi, .int e_li])), (e_lo, .inl (kI, 200, .inl g_e_lo)), (e_hi, .inl (kI, 200, .inl g_e_hi)), (h0, .inr (2, [.ref d_m, .ref d_sp, .int y2])), (d_sp, .inr (5, [.int v111, .int v112, .int v113]))] H := hP
      have hD : va_D A [(d_m, .inl (kI, 1000, .inl f110)), (a_st, .inr (2, [.ref s_m, .ref s_sp, .int s_r])), (s_m, .inl (kI, 1000, .inl g_s_m)), (a_a, .inr (3, [.ref f_lo, .ref f_hi, .int f_li])), (f_lo, .inl (kI, 200, .inl g_f_lo)), (f_hi, .inl (kI, 200, .inl g_f_hi)), (a_o, .inr (3, [.ref e_lo, .ref e_hi, .int e_li])), (e_lo, .inl (kI, 200, .inl g_e_lo)), (e_hi, .inl (kI, 200, .inl g_e_hi)), (h0, .inr (2, [.ref d_m, .ref d_sp, .int y2])), (d_sp, .inr (5, [.int v111, .int v112, .int v113]))] := hD
      have hK : va_K D vwCl [(kI, .int)] s := hK
      have hl : lv_has ls 5 [(0, .ref h0), (1, .ref a_st), (2, .ref a_a), (3, .ref a_o), (4, .int v86)] := hl
      refine W.eq (g2 := F0 m 49 ls []) rfl ?_
      obtain ⟨x115, ex115⟩ : ∃ y : Int32, y = v86 + 1 := ⟨_, rfl⟩
      refine lv_iinc (v := x115) (lv' := [(4, .int x115), (0, .ref h0), (1, .ref a_st), (2, .ref a_a), (3, .ref a_o)]) hx hb dX2_gatherOfSet_49 hl (k := 4) rfl (by rw [ex115]; rfl) (by decide) rfl (fun ls hl => ?_)
      refine lv_goto (tgt := 7) hx hb dX2_gatherOfSet_52 (by decide) ?_
      have hP9 : va_P D vwCl [(d_m, .inl (kI, 1000, .inl f110)), (a_st, .inr (2, [.ref s_m, .ref s_sp, .int s_r])), (s_m, .inl (kI, 1000, .inl g_s_m)), (a_a, .inr (3, [.ref f_lo, .ref f_hi, .int f_li])), (f_lo, .inl (kI, 200, .inl g_f_lo)), (f_hi, .inl (kI, 200, .inl g_f_hi)), (a_o, .inr (3, [.ref e_lo, .ref e_hi, .int e_li])), (e_lo, .inl (kI, 200, .inl g_e_lo)), (e_hi, .inl (kI, 200, .inl g_e_hi)), (h0, .inr (2, [.ref d_m, .ref d_sp, .int y2])), (d_sp, .inr (5, [.int v111, .int v112, .int v113]))] H := hP.sub [0, 1, 2, 3, 4, 5, 6, 7, 8, 9, 10] rfl
      have hD9 : va_D A [(d_m, .inl (kI, 1000, .inl f110)), (a_st, .inr (2, [.ref s_m, .ref s_sp, .int s_r])), (s_m, .inl (kI, 1000, .inl g_s_m)), (a_a, .inr (3, [.ref f_lo, .ref f_hi, .int f_li])), (f_lo, .inl (kI, 200, .inl g_f_lo)), (f_hi, .inl (kI, 200, .inl g_f_hi)), (a_o, .inr (3, [.ref e_lo, .ref e_hi, .int e_li])), (e_lo, .inl (kI, 200, .inl g_e_lo)), (e_hi, .inl (kI, 200, .inl g_e_hi)), (h0, .inr (2, [.ref d_m, .ref d_sp, .int y2])), (d_sp, .inr (5, [.int v111, .int v112, .int v113]))] := hD.sub [0, 1, 2, 3, 4, 5, 6, 7, 8, 9, 10] (by decide) rfl
      have hl9 : lv_has ls 5 [(0, .ref h0), (1, .ref a_st), (2, .ref a_a), (3, .ref a_o), (4, .int x115)] := lv_sub hl [1, 2, 3, 4, 0] rfl
      refine W.widen (k := 0) (n := 0) (Nat.le_of_ble_eq_true rfl) (Nat.le_of_ble_eq_true rfl) ?_
      exact ih91 (x115, f110, v111, v112, v113) _ _ _ (pw_up ex115 (by omega)) ⟨hP9, hD9, hS, hl9, (pw_upge ex115 (by omega) (by omega))⟩
    ·
      refine lv_if_ne (tgt := 42) hx hb dX2_gatherOfSet_26 (by decide) (fun c116 => ?_) (fun c116 => ?_)
      · have nc116 : r95.toInt ≠ 0 := pw_ne c116 rfl (by decide)
        refine lv_aload_n hx hb dX2_gatherOfSet_42 rfl (lv_at hl 0 rfl) ?_
        refine lv_iload hx hb dX2_gatherOfSet_43 (lv_at hl 4 rfl) ?_
        refine lv_aload_n hx hb dX2_gatherOfSet_45 rfl (lv_at hl 3 rfl) ?_
        have hPc := hP.sub (ws' := [(h0, .inr (2, [.ref d_m, .ref d_sp, .int y2])), (d_m, .inl (kI, 1000, .inl f87)), (d_sp, .inr (5, [.int v88, .int v89, .int v90])), (a_o, .inr (3, [.ref e_lo, .ref e_hi, .int e_li])), (e_lo, .inl (kI, 200, .inl g_e_lo)), (e_hi, .inl (kI, 200, .inl g_e_hi))]) [9, 0, 10, 6, 7, 8] rfl
        have hKc := hK.sub (tys' := [(kI, .int)]) [0] rfl
        have hDc := hD.sub (ws' := [(h0, .inr (2, [.ref d_m, .ref d_sp, .int y2])), (d_m, .inl (kI, 1000, .inl f87)), (d_sp, .inr (5, [.int v88, .int v89, .int v90])), (a_o, .inr (3, [.ref e_lo, .ref e_hi, .int e_li])), (e_lo, .inl (kI, 200, .inl g_e_lo)), (e_hi, .inl (kI, 200, .inl g_e_hi))]) [9, 0, 10, 6, 7, 8] (by decide) rfl
        have hFc := va_free (wc := [(h0, .inr (2, [.ref d_m, .ref d_sp, .int y2])), (d_m, .inl (kI, 1000, .inl f87)), (d_sp, .inr (5, [.int v88, .int v89, .int v90])), (a_o, .inr (3, [.ref e_lo, .ref e_hi, .int e_li])), (e_lo, .inl (kI, 200, .inl g_e_lo)), (e_hi, .inl (kI, 200, .inl g_e_hi))]) hD hS hA [9, 0, 10, 6, 7, 8] rfl
        refine va_callv (va_runV (As := [.int v86, .ref a_o]) (rest := []) ⟨hx, hb, hml, hown, hts⟩ (c_X2_putNumbers l D h0 v86 a_o d_m d_sp y2 kI f87 v88 v89 v90 e_lo e_hi e_li g_e_lo g_e_hi H.size hg_e_lo hg_e_hi) (cwV 2 hts g_X2_gatherOfSet_X2_putNumbers rfl rfl rfl (by decide +kernel) ⟨Nat.le_of_ble_eq_true rfl, Nat.le_of_ble_eq_true rfl⟩) ⟨fun a U g mk q => by obtain ⟨q0, q1, qP, qK, qD⟩ := q; exact ⟨q0, q1, qP, va_K.moved (u := U) (U := U.calling g mk a) (Vm.Alike.refl U.vm) qK, qD⟩, va_recv hKc hPc (ci := 2) (q0 := 0) rfl rfl, fun U hU hW => ⟨rfl, by rw [hU], by rw [hU]; exact hPc, va_K.moved hW.alike hKc, hDc.weaken (fun _ _ _ _ => trivial)⟩⟩ rfl rfl hl.1 rfl (lv_room (Nat.le_of_ble_eq_true rfl)) dX2_gatherOfSet_46 ⟨Nat.le_of_ble_eq_true rfl, Nat.le_of_ble_eq_true rfl⟩) hS (fun q _ h => hFc q h) hFc (fun u t H1 locs ht hvm hw hB hz1 hk1 hS => ?_)
        obtain ⟨y118, y119, y120, y121, hP1, hK1, hD1⟩ := hB
        rw [ht] at hP1
        have hK1 := va_K.moved hvm.symm hK1
        obtain ⟨hP, hD⟩ := va_join (wr := [(a_st, .inr (2, [.ref s_m, .ref s_sp, .int s_r])), (s_m, .inl (kI, 1000, .inl g_s_m)), (a_a, .inr (3, [.ref f_lo, .ref f_hi, .int f_li])), (f_lo, .inl (kI, 200, .inl g_f_lo)), (f_hi, .inl (kI, 200, .inl g_f_hi))]) (w1 := [(h0, .inr (2, [.ref d_m, .ref d_sp, .int y2])), (d_m, .inl (kI, 1000, .inl y118)), (d_sp, .inr (5, [.int y119, .int y120, .int y121])), (a_o, .inr (3, [.ref e_lo, .ref e_hi, .int e_li])), (e_lo, .inl (kI, 200, .inl g_e_lo)), (e_hi, .inl (kI, 200, .inl g_e_hi))]) hP hD [9, 0, 10, 6, 7, 8] [1, 2, 3, 4, 5] rfl rfl (by decide) (by decide) hk1 hFc hP1 hD1
        have hK := (hK.sub (tys' := [(kI, .int)]) [0] rfl).app hK1
        generalize H1 = H at hP hS ⊢
        have hP : va_P D vwCl [(a_st, .inr (2, [.ref s_m, .ref s_sp, .int s_r])), (s_m, .inl (kI, 1000, .inl g_s_m)), (a_a, .inr (3, [.ref f_lo, .ref f_hi, .int f_li])), (f_lo, .inl (kI, 200, .inl g_f_lo)), (f_hi, .inl (kI, 200, .inl g_f_hi)), (h0, .inr (2, [.ref d_m, .ref d_sp, .int y2])), (d_m, .inl (kI, 1000, .inl y118)), (d_sp, .inr (5, [.int y119, .int y120, .int y121])), (a_o, .inr (3, [.ref e_lo, .ref e_hi, .int e_li])), (e_lo, .inl (kI, 200, .inl g_e_lo)), (e_hi, .inl (kI, 200, .inl g_e_hi))] H := hP
        have hD : va_D A [(a_st, .inr (2, [.ref s_m, .ref s_sp, .int s_r])), (s_m, .inl (kI, 1000, .inl g_s_m)), (a_a, .inr (3, [.ref f_lo, .ref f_hi, .int f_li])), (f_lo, .inl (kI, 200, .inl g_f_lo)), (f_hi, .inl (kI, 200, .inl g_f_hi)), (h0, .inr (2, [.ref d_m, .ref d_sp, .int y2])), (d_m, .inl (kI, 1000, .inl y118)), (d_sp, .inr (5, [.int y119, .int y120, .int y121])), (a_o, .inr (3, [.ref e_lo, .ref e_hi, .int e_li])), (e_lo, .inl (kI, 200, .inl g_e_lo)), (e_hi, .inl (kI, 200, .inl g_e_hi))] := hD
        have hK : va_K D vwCl [(kI, .int), (kI, .int)] s := hK
        refine W.widen (k := 0) (n := 0) (Nat.le_of_ble_eq_true rfl) (Nat.le_of_ble_eq_true rfl) ?_
        have hP9 : va_P D vwCl [(d_m, .inl (kI, 1000, .inl y118)), (a_st, .inr (2, [.ref s_m, .ref s_sp, .int s_r])), (s_m, .inl (kI, 1000, .inl g_s_m)), (a_a, .inr (3, [.ref f_lo, .ref f_hi, .int f_li])), (f_lo, .inl (kI, 200, .inl g_f_lo)), (f_hi, .inl (kI, 200, .inl g_f_hi)), (a_o, .inr (3, [.ref e_lo, .ref e_hi, .int e_li])), (e_lo, .inl (kI, 200, .inl g_e_lo)), (e_hi, .inl (kI, 200, .inl g_e_hi)), (h0, .inr (2, [.ref d_m, .ref d_sp, .int y2])), (d_sp, .inr (5, [.int y119, .int y120, .int y121]))] H := hP.sub [6, 0, 1, 2, 3, 4, 8, 9, 10, 5, 7] rfl
        have hD9 : va_D A [(d_m, .inl (kI, 1000, .inl y118)), (a_st, .inr (2, [.ref s_m, .ref s_sp, .int s_r])), (s_m, .inl (kI, 1000, .inl g_s_m)), (a_a, .inr (3, [.ref f_lo, .ref f_hi, .int f_li])), (f_lo, .inl (kI, 200, .inl g_f_lo)), (f_hi, .inl (kI, 200, .inl g_f_hi)), (a_o, .inr (3, [.ref e_lo, .ref e_hi, .int e_li])), (e_lo, .inl (kI, 200, .inl g_e_lo)), (e_hi, .inl (kI, 200, .inl g_e_hi)), (h0, .inr (2, [.ref d_m, .ref d_sp, .int y2])), (d_sp, .inr (5, [.int y119, .int y120, .int y121]))] := hD.sub [6, 0, 1, 2, 3, 4, 8, 9, 10, 5, 7] (by decide) rfl
        have hl9 : lv_has ls 5 [(0, .ref h0), (1, .ref a_st), (2, .ref a_a), (3, .ref a_o), (4, .int v86)] := lv_sub hl [0, 1, 2, 3, 4] rfl
        refine W.widen (k := 0) (n := 0) (Nat.le_of_ble_eq_true rfl) (Nat.le_of_ble_eq_true rfl) ?_
        exact hJ114 (y118, y119, y120, y121) _ _ _ ⟨hP9, hD9, hS, hl9⟩
      · have nc116 : r95.toInt = 0 := pw_eq c116 rfl (by decide)
        refine lv_aload_n hx hb dX2_gatherOfSet_29 rfl (lv_at hl 1 rfl) ?_
        refine lv_aload_n hx hb dX2_gatherOfSet_30 rfl (lv_at hl 2 rfl) ?_
        refine lv_iload hx hb dX2_gatherOfSet_31 (lv_at hl 4 rfl) ?_
        have hPc := hP.sub (ws' := [(a_a, .inr (3, [.ref f_lo, .ref f_hi, .int f_li])), (f_hi, .inl (kI, 200, .inl g_f_hi))]) [3, 5] rfl
        have hKc := hK.sub (tys' := [(kI, .int)]) [0] rfl
        refine va_calli (va_runV (As := [.int v86]) (rest := [.ref a_st]) ⟨hx, hb, hml, hown, hts⟩ (c_X3_high l D a_a v86 f_lo f_hi f_li kI g_f_hi hg_f_hi) (cwV 1 hts g_X2_gatherOfSet_X3_high rfl rfl rfl (by decide +kernel) ⟨Nat.le_of_ble_eq_true rfl, Nat.le_of_ble_eq_true rfl⟩) ⟨fun a U g mk q => by obtain ⟨q0, qP, qK⟩ := q; exact ⟨q0, qP, va_K.moved (u := U) (U := U.calling g mk a) (Vm.Alike.refl U.vm) qK⟩, va_recv hKc hPc (ci := 3) (q0 := 0) rfl rfl, fun U hU hW => ⟨rfl, by rw [hU]; exact hPc, va_K.moved hW.alike hKc⟩⟩ rfl rfl hl.1 rfl (lv_room (Nat.le_of_ble_eq_true rfl)) dX2_gatherOfSet_33 ⟨Nat.le_of_ble_eq_true rfl, Nat.le_of_ble_eq_true rfl⟩) hS (fun _ _ h => h.elim) (fun _ h => h.elim) (fun r122 u t H1 locs ht hvm hw hB hz1 hk1 hS => ?_)
        have hP := pw_keep hP (fun q hq => hk1 q hq (fun h => h))
        generalize H1 = H at hP hS ⊢
        refine W.widen (k := 0) (n := 0) (Nat.le_of_ble_eq_true rfl) (Nat.le_of_ble_eq_true rfl) ?_
        have hfr122 := hw
        have hPc := hP.sub (ws' := [(a_st, .inr (2, [.ref s_m, .ref s_sp, .int s_r])), (s_m, .inl (kI, 1000, .inl g_s_m))]) [1, 2] rfl
        have hKc := hK.sub (tys' := [(kI, .int)]) [0] rfl
        refine va_calli (va_runV (As := [.int r122]) (rest := []) ⟨hx, hb, hml, hown, hts⟩ (c_X2_has l D a_st r122 s_m s_sp s_r kI g_s_m) (cwV 1 hts g_X2_gatherOfSet_X2_has rfl rfl rfl (by decide +kernel) ⟨Nat.le_of_ble_eq_true rfl, Nat.le_of_ble_eq_true rfl⟩) ⟨fun a U g mk q => by obtain ⟨q0, qP, qK⟩ := q; exact ⟨q0, qP, va_K.moved (u := U) (U := U.calling g mk a) (Vm.Alike.refl U.vm) qK⟩, va_recv hKc hPc (ci := 2) (q0 := 0) rfl rfl, fun U hU hW => ⟨rfl, by rw [hU]; exact hPc, va_K.moved hW.alike hKc⟩⟩ rfl rfl hl.1 rfl (lv_room (Nat.le_of_ble_eq_true rfl)) dX2_gatherOfSet_36 ⟨Nat.le_of_ble_eq_true rfl, Nat.le_of_ble_eq_true rfl⟩) hS (fun _ _ h => h.elim) (fun _ h => h.elim) (fun r123 u t H1 locs ht hvm hw hB hz1 hk1 hS => ?_)
        have hP := pw_keep hP (fun q hq => hk1 q hq (fun h => h))
        generalize H1 = H at hP hS ⊢
        refine W.widen (k := 0) (n := 0) (Nat.le_of_ble_eq_true rfl) (Nat.le_of_ble_eq_true rfl) ?_
        have bor123 := hw.1
        have zor123 := pw_boolI bor123
        refine lv_if_eq (tgt := 49) hx hb dX2_gatherOfSet_39 (by decide) (fun c124 => ?_) (fun c124 => ?_)
        · have nc124 : r123.toInt = 0 := pw_eq c124 rfl (by decide)
          have hP9 : va_P D vwCl [(d_m, .inl (kI, 1000, .inl f87)), (a_st, .inr (2, [.ref s_m, .ref s_sp, .int s_r])), (s_m, .inl (kI, 1000, .inl g_s_m)), (a_a, .inr (3, [.ref f_lo, .ref f_hi, .int f_li])), (f_lo, .inl (kI, 200, .inl g_f_lo)), (f_hi, .inl (kI, 200, .inl g_f_hi)), (a_o, .inr (3, [.ref e_lo, .ref e_hi, .int e_li])), (e_lo, .inl (kI, 200, .inl g_e_lo)), (e_hi, .inl (kI, 200, .inl g_e_hi)), (h0, .inr (2, [.ref d_m, .ref d_sp, .int y2])), (d_sp, .inr (5, [.int v88, .int v89, .int v90]))] H := hP.sub [0, 1, 2, 3, 4, 5, 6, 7, 8, 9, 10] rfl
          have hD9 : va_D A [(d_m, .inl (kI, 1000, .inl f87)), (a_st, .inr (2, [.ref s_m, .ref s_sp, .int s_r])), (s_m, .inl (kI, 1000, .inl g_s_m)), (a_a, .inr (3, [.ref f_lo, .ref f_hi, .int f_li])), (f_lo, .inl (kI, 200, .inl g_f_lo)), (f_hi, .inl (kI, 200, .inl g_f_hi)), (a_o, .inr (3, [.ref e_lo, .ref e_hi, .int e_li])), (e_lo, .inl (kI, 200, .inl g_e_lo)), (e_hi, .inl (kI, 200, .inl g_e_hi)), (h0, .inr (2, [.ref d_m, .ref d_sp, .int y2])), (d_sp, .inr (5, [.int v88, .int v89, .int v90]))] := hD.sub [0, 1, 2, 3, 4, 5, 6, 7, 8, 9, 10] (by decide) rfl
          have hl9 : lv_has ls 5 [(0, .ref h0), (1, .ref a_st), (2, .ref a_a), (3, .ref a_o), (4, .int v86)] := lv_sub hl [0, 1, 2, 3, 4] rfl
          refine W.widen (k := 0) (n := 0) (Nat.le_of_ble_eq_true rfl) (Nat.le_of_ble_eq_true rfl) ?_
          exact hJ114 (f87, v88, v89, v90) _ _ _ ⟨hP9, hD9, hS, hl9⟩
        · have nc124 : r123.toInt ≠ 0 := pw_ne c124 rfl (by decide)
          refine lv_aload_n hx hb dX2_gatherOfSet_42 rfl (lv_at hl 0 rfl) ?_
          refine lv_iload hx hb dX2_gatherOfSet_43 (lv_at hl 4 rfl) ?_
          refine lv_aload_n hx hb dX2_gatherOfSet_45 rfl (lv_at hl 3 rfl) ?_
          have hPc := hP.sub (ws' := [(h0, .inr (2, [.ref d_m, .ref d_sp, .int y2])), (d_m, .inl (kI, 1000, .inl f87)), (d_sp, .inr (5, [.int v88, .int v89, .int v90])), (a_o, .inr (3, [.ref e_lo, .ref e_hi, .int e_li])), (e_lo, .inl (kI, 200, .inl g_e_lo)), (e_hi, .inl (kI, 200, .inl g_e_hi))]) [9, 0, 10, 6, 7, 8] rfl
          have hKc := hK.sub (tys' := [(kI, .int)]) [0] rfl
          have hDc := hD.sub (ws' := [(h0, .inr (2, [.ref d_m, .ref d_sp, .int y2])), (d_m, .inl (kI, 1000, .inl f87)), (d_sp, .inr (5, [.int v88, .int v89, .int v90])), (a_o, .inr (3, [.ref e_lo, .ref e_hi, .int e_li])), (e_lo, .inl (kI, 200, .inl g_e_lo)), (e_hi, .inl (kI, 200, .inl g_e_hi))]) [9, 0, 10, 6, 7, 8] (by decide) rfl
          have hFc := va_free (wc := [(h0, .inr (2, [.ref d_m, .ref d_sp, .int y2])), (d_m, .inl (kI, 1000, .inl f87)), (d_sp, .inr (5, [.int v88, .int v89, .int v90])), (a_o, .inr (3, [.ref e_lo, .ref e_hi, .int e_li])), (e_lo, .inl (kI, 200, .inl g_e_lo)), (e_hi, .inl (kI, 200, .inl g_e_hi))]) hD hS hA [9, 0, 10, 6, 7, 8] rfl
          refine va_callv (va_runV (As := [.int v86, .ref a_o]) (rest := []) ⟨hx, hb, hml, hown, hts⟩ (c_X2_putNumbers l D h0 v86 a_o d_m d_sp y2 kI f87 v88 v89 v90 e_lo e_hi e_li g_e_lo g_e_hi H.size hg_e_lo hg_e_hi) (cwV 2 hts g_X2_gatherOfSet_X2_putNumbers rfl rfl rfl (by decide +kernel) ⟨Nat.le_of_ble_eq_true rfl, Nat.le_of_ble_eq_true rfl⟩) ⟨fun a U g mk q => by obtain ⟨q0, q1, qP, qK, qD⟩ := q; exact ⟨q0, q1, qP, va_K.moved (u := U) (U := U.calling g mk a) (Vm.Alike.refl U.vm) qK, qD⟩, va_recv hKc hPc (ci := 2) (q0 := 0) rfl rfl, fun U hU hW => ⟨rfl, by rw [hU], by rw [hU]; exact hPc, va_K.moved hW.alike hKc, hDc.weaken (fun _ _ _ _ => trivial)⟩⟩ rfl rfl hl.1 rfl (lv_room (Nat.le_of_ble_eq_true rfl)) dX2_gatherOfSet_46 ⟨Nat.le_of_ble_eq_true rfl, Nat.le_of_ble_eq_true rfl⟩) hS (fun q _ h => hFc q h) hFc (fun u t H1 locs ht hvm hw hB hz1 hk1 hS => ?_)
          obtain ⟨y126, y127, y128, y129, hP1, hK1, hD1⟩ := hB
          rw [ht] at hP1
          have hK1 := va_K.moved hvm.symm hK1
          obtain ⟨hP, hD⟩ := va_join (wr := [(a_st, .inr (2, [.ref s_m, .ref s_sp, .int s_r])), (s_m, .inl (kI, 1000, .inl g_s_m)), (a_a, .inr (3, [.ref f_lo, .ref f_hi, .int f_li])), (f_lo, .inl (kI, 200, .inl g_f_lo)), (f_hi, .inl (kI, 200, .inl g_f_hi))]) (w1 := [(h0, .inr (2, [.ref d_m, .ref d_sp, .int y2])), (d_m, .inl (kI, 1000, .inl y126)), (d_sp, .inr (5, [.int y127, .int y128, .int y129])), (a_o, .inr (3, [.ref e_lo, .ref e_hi, .int e_li])), (e_lo, .inl (kI, 200, .inl g_e_lo)), (e_hi, .inl (kI, 200, .inl g_e_hi))]) hP hD [9, 0, 10, 6, 7, 8] [1, 2, 3, 4, 5] rfl rfl (by decide) (by decide) hk1 hFc hP1 hD1
          have hK := (hK.sub (tys' := [(kI, .int)]) [0] rfl).app hK1
          generalize H1 = H at hP hS ⊢
          have hP : va_P D vwCl [(a_st, .inr (2, [.ref s_m, .ref s_sp, .int s_r])), (s_m, .inl (kI, 1000, .inl g_s_m)), (a_a, .inr (3, [.ref f_lo, .ref f_hi, .int f_li])), (f_lo, .inl (kI, 200, .inl g_f_lo)), (f_hi, .inl (kI, 200, .inl g_f_hi)), (h0, .inr (2, [.ref d_m, .ref d_sp, .int y2])), (d_m, .inl (kI, 1000, .inl y126)), (d_sp, .inr (5, [.int y127, .int y128, .int y129])), (a_o, .inr (3, [.ref e_lo, .ref e_hi, .int e_li])), (e_lo, .inl (kI, 200, .inl g_e_lo)), (e_hi, .inl (kI, 200, .inl g_e_hi))] H := hP
          have hD : va_D A [(a_st, .inr (2, [.ref s_m, .ref s_sp, .int s_r])), (s_m, .inl (kI, 1000, .inl g_s_m)), (a_a, .inr (3, [.ref f_lo, .ref f_hi, .int f_li])), (f_lo, .inl (kI, 200, .inl g_f_lo)), (f_hi, .inl (kI, 200, .inl g_f_hi)), (h0, .inr (2, [.ref d_m, .ref d_sp, .int y2])), (d_m, .inl (kI, 1000, .inl y126)), (d_sp, .inr (5, [.int y127, .int y128, .int y129])), (a_o, .inr (3, [.ref e_lo, .ref e_hi, .int e_li])), (e_lo, .inl (kI, 200, .inl g_e_lo)), (e_hi, .inl (kI, 200, .inl g_e_hi))] := hD
          have hK : va_K D vwCl [(kI, .int), (kI, .int)] s := hK
          refine W.widen (k := 0) (n := 0) (Nat.le_of_ble_eq_true rfl) (Nat.le_of_ble_eq_true rfl) ?_
          have hP9 : va_P D vwCl [(d_m, .inl (kI, 1000, .inl y126)), (a_st, .inr (2, [.ref s_m, .ref s_sp, .int s_r])), (s_m, .inl (kI, 1000, .inl g_s_m)), (a_a, .inr (3, [.ref f_lo, .ref f_hi, .int f_li])), (f_lo, .inl (kI, 200, .inl g_f_lo)), (f_hi, .inl (kI, 200, .inl g_f_hi)), (a_o, .inr (3, [.ref e_lo, .ref e_hi, .int e_li])), (e_lo, .inl (kI, 200, .inl g_e_lo)), (e_hi, .inl (kI, 200, .inl g_e_hi)), (h0, .inr (2, [.ref d_m, .ref d_sp, .int y2])), (d_sp, .inr (5, [.int y127, .int y128, .int y129]))] H := hP.sub [6, 0, 1, 2, 3, 4, 8, 9, 10, 5, 7] rfl
          have hD9 : va_D A [(d_m, .inl (kI, 1000, .inl y126)), (a_st, .inr (2, [.ref s_m, .ref s_sp, .int s_r])), (s_m, .inl (kI, 1000, .inl g_s_m)), (a_a, .inr (3, [.ref f_lo, .ref f_hi, .int f_li])), (f_lo, .inl (kI, 200, .inl g_f_lo)), (f_hi, .inl (kI, 200, .inl g_f_hi)), (a_o, .inr (3, [.ref e_lo, .ref e_hi, .int e_li])), (e_lo, .inl (kI, 200, .inl g_e_lo)), (e_hi, .inl (kI, 200, .inl g_e_hi)), (h0, .inr (2, [.ref d_m, .ref d_sp, .int y2])), (d_sp, .inr (5, [.int y127, .int y128, .int y129]))] := hD.sub [6, 0, 1, 2, 3, 4, 8, 9, 10, 5, 7] (by decide) rfl
          have hl9 : lv_has ls 5 [(0, .ref h0), (1, .ref a_st), (2, .ref a_a), (3, .ref a_o), (4, .int v86)] := lv_sub hl [0, 1, 2, 3, 4] rfl
          refine W.widen (k := 0) (n := 0) (Nat.le_of_ble_eq_true rfl) (Nat.le_of_ble_eq_true rfl) ?_
          exact hJ114 (y126, y127, y128, y129) _ _ _ ⟨hP9, hD9, hS, hl9⟩
