theorem dX6_beginShifts_0 : decode cX6_beginShifts 0 = .ok (.aload_n 0, 1) := by decide +kernel
theorem dX6_beginShifts_1 : decode cX6_beginShifts 1 = .ok (.iconst 1, 1) := by decide +kernel
theorem dX6_beginShifts_2 : decode cX6_beginShifts 2 = .ok (.putfield 61, 3) := by decide +kernel
theorem dX6_beginShifts_5 : decode cX6_beginShifts 5 = .ok (.return_, 1) := by decide +kernel
theorem dX6_shiftAnswer_0 : decode cX6_shiftAnswer 0 = .ok (.iload_n 1, 1) := by decide +kernel
theorem dX6_shiftAnswer_1 : decode cX6_shiftAnswer 1 = .ok (.ifCond .ne 8, 3) := by decide +kernel
theorem dX6_shiftAnswer_4 : decode cX6_shiftAnswer 4 = .ok (.aload_n 0, 1) := by decide +kernel
theorem dX6_shiftAnswer_5 : decode cX6_shiftAnswer 5 = .ok (.getfield 65, 3) := by decide +kernel
theorem dX6_shiftAnswer_8 : decode cX6_shiftAnswer 8 = .ok (.ireturn, 1) := by decide +kernel
theorem dX6_shiftAnswer_9 : decode cX6_shiftAnswer 9 = .ok (.iload_n 1, 1) := by decide +kernel
theorem dX6_shiftAnswer_10 : decode cX6_shiftAnswer 10 = .ok (.iconst 1, 1) := by decide +kernel
theorem dX6_shiftAnswer_11 : decode cX6_shiftAnswer 11 = .ok (.if_icmp .ne 8, 3) := by decide +kernel
theorem dX6_shiftAnswer_14 : decode cX6_shiftAnswer 14 = .ok (.aload_n 0, 1) := by decide +kernel
theorem dX6_shiftAnswer_15 : decode cX6_shiftAnswer 15 = .ok (.getfield 68, 3) := by decide +kernel
theorem dX6_shiftAnswer_18 : decode cX6_shiftAnswer 18 = .ok (.ireturn, 1) := by decide +kernel
theorem dX6_shiftAnswer_19 : decode cX6_shiftAnswer 19 = .ok (.aload_n 0, 1) := by decide +kernel
theorem dX6_shiftAnswer_20 : decode cX6_shiftAnswer 20 = .ok (.getfield 71, 3) := by decide +kernel
theorem dX6_shiftAnswer_23 : decode cX6_shiftAnswer 23 = .ok (.ifCond .le 10, 3) := by decide +kernel
theorem dX6_shiftAnswer_26 : decode cX6_shiftAnswer 26 = .ok (.aload_n 0, 1) := by decide +kernel
theorem dX6_shiftAnswer_27 : decode cX6_shiftAnswer 27 = .ok (.getfield 71, 3) := by decide +kernel
theorem dX6_shiftAnswer_30 : decode cX6_shiftAnswer 30 = .ok (.goto 11, 3) := by decide +kernel
theorem dX6_shiftAnswer_33 : decode cX6_shiftAnswer 33 = .ok (.aload_n 0, 1) := by decide +kernel
theorem dX6_shiftAnswer_34 : decode cX6_shiftAnswer 34 = .ok (.getfield 74, 3) := by decide +kernel
theorem dX6_shiftAnswer_37 : decode cX6_shiftAnswer 37 = .ok (.iconst 0, 1) := by decide +kernel
theorem dX6_shiftAnswer_38 : decode cX6_shiftAnswer 38 = .ok (.invokestatic 86, 3) := by decide +kernel
theorem dX6_shiftAnswer_41 : decode cX6_shiftAnswer 41 = .ok (.ireturn, 1) := by decide +kernel
theorem dX6_joinsShift_0 : decode cX6_joinsShift 0 = .ok (.aload_n 0, 1) := by decide +kernel
theorem dX6_joinsShift_1 : decode cX6_joinsShift 1 = .ok (.iload_n 1, 1) := by decide +kernel
theorem dX6_joinsShift_2 : decode cX6_joinsShift 2 = .ok (.invokevirtual 52, 3) := by decide +kernel
theorem dX6_joinsShift_5 : decode cX6_joinsShift 5 = .ok (.ifCond .ne 5, 3) := by decide +kernel
theorem dX6_joinsShift_8 : decode cX6_joinsShift 8 = .ok (.iconst 0, 1) := by decide +kernel
theorem dX6_joinsShift_9 : decode cX6_joinsShift 9 = .ok (.ireturn, 1) := by decide +kernel
theorem dX6_joinsShift_10 : decode cX6_joinsShift 10 = .ok (.aload_n 0, 1) := by decide +kernel
theorem dX6_joinsShift_11 : decode cX6_joinsShift 11 = .ok (.getfield 71, 3) := by decide +kernel
theorem dX6_joinsShift_14 : decode cX6_joinsShift 14 = .ok (.aload_n 0, 1) := by decide +kernel
theorem dX6_joinsShift_15 : decode cX6_joinsShift 15 = .ok (.getfield 15, 3) := by decide +kernel
theorem dX6_joinsShift_18 : decode cX6_joinsShift 18 = .ok (.iload_n 1, 1) := by decide +kernel
theorem dX6_joinsShift_19 : decode cX6_joinsShift 19 = .ok (.iaload, 1) := by decide +kernel
theorem dX6_joinsShift_20 : decode cX6_joinsShift 20 = .ok (.iload_n 1, 1) := by decide +kernel
theorem dX6_joinsShift_21 : decode cX6_joinsShift 21 = .ok (.isub, 1) := by decide +kernel
theorem dX6_joinsShift_22 : decode cX6_joinsShift 22 = .ok (.invokestatic 80, 3) := by decide +kernel
theorem dX6_joinsShift_25 : decode cX6_joinsShift 25 = .ok (.istore_n 2, 1) := by decide +kernel
theorem dX6_joinsShift_26 : decode cX6_joinsShift 26 = .ok (.aload_n 0, 1) := by decide +kernel
theorem dX6_joinsShift_27 : decode cX6_joinsShift 27 = .ok (.getfield 74, 3) := by decide +kernel
theorem dX6_joinsShift_30 : decode cX6_joinsShift 30 = .ok (.aload_n 0, 1) := by decide +kernel
theorem dX6_joinsShift_31 : decode cX6_joinsShift 31 = .ok (.getfield 18, 3) := by decide +kernel
theorem dX6_joinsShift_34 : decode cX6_joinsShift 34 = .ok (.iload_n 1, 1) := by decide +kernel
theorem dX6_joinsShift_35 : decode cX6_joinsShift 35 = .ok (.iaload, 1) := by decide +kernel
theorem dX6_joinsShift_36 : decode cX6_joinsShift 36 = .ok (.iload_n 1, 1) := by decide +kernel
theorem dX6_joinsShift_37 : decode cX6_joinsShift 37 = .ok (.isub, 1) := by decide +kernel
theorem dX6_joinsShift_38 : decode cX6_joinsShift 38 = .ok (.invokestatic 86, 3) := by decide +kernel
theorem dX6_joinsShift_41 : decode cX6_joinsShift 41 = .ok (.istore_n 3, 1) := by decide +kernel
theorem dX6_joinsShift_42 : decode cX6_joinsShift 42 = .ok (.iload_n 2, 1) := by decide +kernel
theorem dX6_joinsShift_43 : decode cX6_joinsShift 43 = .ok (.iload_n 3, 1) := by decide +kernel
theorem dX6_joinsShift_44 : decode cX6_joinsShift 44 = .ok (.if_icmp .le 5, 3) := by decide +kernel
theorem dX6_joinsShift_47 : decode cX6_joinsShift 47 = .ok (.iconst 0, 1) := by decide +kernel
theorem dX6_joinsShift_48 : decode cX6_joinsShift 48 = .ok (.ireturn, 1) := by decide +kernel
theorem dX6_joinsShift_49 : decode cX6_joinsShift 49 = .ok (.aload_n 0, 1) := by decide +kernel
theorem dX6_joinsShift_50 : decode cX6_joinsShift 50 = .ok (.iload_n 2, 1) := by decide +kernel
theorem dX6_joinsShift_51 : decode cX6_joinsShift 51 = .ok (.putfield 71, 3) := by decide +kernel
theorem dX6_joinsShift_54 : decode cX6_joinsShift 54 = .ok (.aload_n 0, 1) := by decide +kernel
theorem dX6_joinsShift_55 : decode cX6_joinsShift 55 = .ok (.iload_n 3, 1) := by decide +kernel
theorem dX6_joinsShift_56 : decode cX6_joinsShift 56 = .ok (.putfield 74, 3) := by decide +kernel
theorem dX6_joinsShift_59 : decode cX6_joinsShift 59 = .ok (.aload_n 0, 1) := by decide +kernel
theorem dX6_joinsShift_60 : decode cX6_joinsShift 60 = .ok (.dup, 1) := by decide +kernel
theorem dX6_joinsShift_61 : decode cX6_joinsShift 61 = .ok (.getfield 68, 3) := by decide +kernel
theorem dX6_joinsShift_64 : decode cX6_joinsShift 64 = .ok (.iconst 1, 1) := by decide +kernel
theorem dX6_joinsShift_65 : decode cX6_joinsShift 65 = .ok (.iadd, 1) := by decide +kernel
theorem dX6_joinsShift_66 : decode cX6_joinsShift 66 = .ok (.putfield 68, 3) := by decide +kernel
theorem dX6_joinsShift_69 : decode cX6_joinsShift 69 = .ok (.iconst 1, 1) := by decide +kernel
theorem dX6_joinsShift_70 : decode cX6_joinsShift 70 = .ok (.ireturn, 1) := by decide +kernel
theorem dX6_nextShift_0 : decode cX6_nextShift 0 = .ok (.aload_n 0, 1) := by decide +kernel
theorem dX6_nextShift_1 : decode cX6_nextShift 1 = .ok (.getfield 61, 3) := by decide +kernel
theorem dX6_nextShift_4 : decode cX6_nextShift 4 = .ok (.sipush 999, 3) := by decide +kernel
theorem dX6_nextShift_7 : decode cX6_nextShift 7 = .ok (.if_icmp .gt 27, 3) := by decide +kernel
theorem dX6_nextShift_10 : decode cX6_nextShift 10 = .ok (.aload_n 0, 1) := by decide +kernel
theorem dX6_nextShift_11 : decode cX6_nextShift 11 = .ok (.aload_n 0, 1) := by decide +kernel
theorem dX6_nextShift_12 : decode cX6_nextShift 12 = .ok (.getfield 61, 3) := by decide +kernel
theorem dX6_nextShift_15 : decode cX6_nextShift 15 = .ok (.invokevirtual 52, 3) := by decide +kernel
theorem dX6_nextShift_18 : decode cX6_nextShift 18 = .ok (.ifCond .ne 16, 3) := by decide +kernel
theorem dX6_nextShift_21 : decode cX6_nextShift 21 = .ok (.aload_n 0, 1) := by decide +kernel
theorem dX6_nextShift_22 : decode cX6_nextShift 22 = .ok (.dup, 1) := by decide +kernel
theorem dX6_nextShift_23 : decode cX6_nextShift 23 = .ok (.getfield 61, 3) := by decide +kernel
theorem dX6_nextShift_26 : decode cX6_nextShift 26 = .ok (.iconst 1, 1) := by decide +kernel
theorem dX6_nextShift_27 : decode cX6_nextShift 27 = .ok (.iadd, 1) := by decide +kernel
theorem dX6_nextShift_28 : decode cX6_nextShift 28 = .ok (.putfield 61, 3) := by decide +kernel
theorem dX6_nextShift_31 : decode cX6_nextShift 31 = .ok (.goto (-31), 3) := by decide +kernel
theorem dX6_nextShift_34 : decode cX6_nextShift 34 = .ok (.aload_n 0, 1) := by decide +kernel
theorem dX6_nextShift_35 : decode cX6_nextShift 35 = .ok (.getfield 61, 3) := by decide +kernel
theorem dX6_nextShift_38 : decode cX6_nextShift 38 = .ok (.sipush 999, 3) := by decide +kernel
theorem dX6_nextShift_41 : decode cX6_nextShift 41 = .ok (.if_icmp .le 5, 3) := by decide +kernel
theorem dX6_nextShift_44 : decode cX6_nextShift 44 = .ok (.iconst 0, 1) := by decide +kernel
theorem dX6_nextShift_45 : decode cX6_nextShift 45 = .ok (.ireturn, 1) := by decide +kernel
theorem dX6_nextShift_46 : decode cX6_nextShift 46 = .ok (.aload_n 0, 1) := by decide +kernel
theorem dX6_nextShift_47 : decode cX6_nextShift 47 = .ok (.aload_n 0, 1) := by decide +kernel
theorem dX6_nextShift_48 : decode cX6_nextShift 48 = .ok (.getfield 61, 3) := by decide +kernel
theorem dX6_nextShift_51 : decode cX6_nextShift 51 = .ok (.putfield 65, 3) := by decide +kernel
theorem dX6_nextShift_54 : decode cX6_nextShift 54 = .ok (.aload_n 0, 1) := by decide +kernel
theorem dX6_nextShift_55 : decode cX6_nextShift 55 = .ok (.iconst 0, 1) := by decide +kernel
theorem dX6_nextShift_56 : decode cX6_nextShift 56 = .ok (.putfield 68, 3) := by decide +kernel
theorem dX6_nextShift_59 : decode cX6_nextShift 59 = .ok (.aload_n 0, 1) := by decide +kernel
theorem dX6_nextShift_60 : decode cX6_nextShift 60 = .ok (.sipush (-999), 3) := by decide +kernel
theorem dX6_nextShift_63 : decode cX6_nextShift 63 = .ok (.putfield 71, 3) := by decide +kernel
theorem dX6_nextShift_66 : decode cX6_nextShift 66 = .ok (.aload_n 0, 1) := by decide +kernel
theorem dX6_nextShift_67 : decode cX6_nextShift 67 = .ok (.sipush 999, 3) := by decide +kernel
theorem dX6_nextShift_70 : decode cX6_nextShift 70 = .ok (.putfield 74, 3) := by decide +kernel
theorem dX6_nextShift_73 : decode cX6_nextShift 73 = .ok (.aload_n 0, 1) := by decide +kernel
theorem dX6_nextShift_74 : decode cX6_nextShift 74 = .ok (.getfield 61, 3) := by decide +kernel
theorem dX6_nextShift_77 : decode cX6_nextShift 77 = .ok (.sipush 999, 3) := by decide +kernel
theorem dX6_nextShift_80 : decode cX6_nextShift 80 = .ok (.if_icmp .gt 27, 3) := by decide +kernel
theorem dX6_nextShift_83 : decode cX6_nextShift 83 = .ok (.aload_n 0, 1) := by decide +kernel
theorem dX6_nextShift_84 : decode cX6_nextShift 84 = .ok (.aload_n 0, 1) := by decide +kernel
theorem dX6_nextShift_85 : decode cX6_nextShift 85 = .ok (.getfield 61, 3) := by decide +kernel
theorem dX6_nextShift_88 : decode cX6_nextShift 88 = .ok (.invokevirtual 77, 3) := by decide +kernel
theorem dX6_nextShift_91 : decode cX6_nextShift 91 = .ok (.ifCond .eq 16, 3) := by decide +kernel
theorem dX6_nextShift_94 : decode cX6_nextShift 94 = .ok (.aload_n 0, 1) := by decide +kernel
theorem dX6_nextShift_95 : decode cX6_nextShift 95 = .ok (.dup, 1) := by decide +kernel
theorem dX6_nextShift_96 : decode cX6_nextShift 96 = .ok (.getfield 61, 3) := by decide +kernel
theorem dX6_nextShift_99 : decode cX6_nextShift 99 = .ok (.iconst 1, 1) := by decide +kernel
theorem dX6_nextShift_100 : decode cX6_nextShift 100 = .ok (.iadd, 1) := by decide +kernel
theorem dX6_nextShift_101 : decode cX6_nextShift 101 = .ok (.putfield 61, 3) := by decide +kernel
theorem dX6_nextShift_104 : decode cX6_nextShift 104 = .ok (.goto (-31), 3) := by decide +kernel
theorem dX6_nextShift_107 : decode cX6_nextShift 107 = .ok (.iconst 1, 1) := by decide +kernel
theorem dX6_nextShift_108 : decode cX6_nextShift 108 = .ok (.ireturn, 1) := by decide +kernel
def w_X6_beginShifts : List Cond := .code yX6_beginShifts cX6_beginShifts 1 none :: ([.fieldLink RX6 61 "LineCites$Spans" "at" "I"] ++ wsX60)
set_option maxHeartbeats 4000000 in
set_option maxRecDepth 100000 in
theorem c_X6_beginShifts (l : Launch) (D : va_G) (h0 : Nat) (u_z : Nat) (u_l : Nat) (u_g : Nat) (u_at : Int32) (u_sf : Int32) (u_sm : Int32) (u_sl : Int32) (u_sh : Int32) (sz : Nat) : Met l yX6_beginShifts w_X6_beginShifts ({ frames := 0, cells := 0, slots := 0, locals := 0 }) (va_Pc [.ref h0] (fun U => U.heap.size = sz ∧ va_P D vwCl [(h0, .inr (6, [.ref u_z, .ref u_l, .ref u_g, .int u_at, .int u_sf, .int u_sm, .int u_sl, .int u_sh]))] U.heap ∧ va_K D vwCl [] U ∧ va_D (fun _ => True) [(h0, .inr (6, [.ref u_z, .ref u_l, .ref u_g, .int u_at, .int u_sf, .int u_sm, .int u_sl, .int u_sh]))])) (va_Qv (fun (_ : Unit) => True) (fun (_ : Unit) t => ∃ (n_at : Int32) (n_sf : Int32) (n_sm : Int32) (n_sl : Int32) (n_sh : Int32), va_P D vwCl [(h0, .inr (6, [.ref u_z, .ref u_l, .ref u_g, .int n_at, .int n_sf, .int n_sm, .int n_sl, .int n_sh]))] t.heap ∧ va_K D vwCl [] t ∧ va_D (va_A [(h0, .inr (6, [.ref u_z, .ref u_l, .ref u_g, .int u_at, .int u_sf, .int u_sm, .int u_sl, .int u_sh]))] sz) [(h0, .inr (6, [.ref u_z, .ref u_l, .ref u_g, .int n_at, .int n_sf, .int n_sm, .int n_sl, .int n_sh]))]) (va_A [(h0, .inr (6, [.ref u_z, .ref u_l, .ref u_g, .int u_at, .int u_sf, .int u_sm, .int u_sl, .int u_sh]))] sz)) 0 0 (va_A [(h0, .inr (6, [.ref u_z, .ref u_l, .ref u_g, .int u_at, .int u_sf, .int u_sm, .int u_sl, .int u_sh]))] sz) := by
  refine Met.ofW (cc := cX6_beginShifts) (maxL := 1) (ret := none) (by decide) rfl ?_
  intro p e s m args below meth c s₁ B hml hv
  obtain ⟨rfl, hsz, hP, hK, hD0⟩ := hv
  have hx := B.exec
  have hb := B.bytes
  have hr := B.returns
  have hts := atoms_spec (ws := w_X6_beginShifts) B.pre
  have hown : s.vm.findClass RX6 = some m.cls := findClass_of_methodNamed B.named
  have hlocks := B.notSynchronized
  subst hsz
  have hD := hD0.self (sz := s.heap.size)
  generalize hAe : va_A [(h0, .inr (6, [.ref u_z, .ref u_l, .ref u_g, .int u_at, .int u_sf, .int u_sm, .int u_sl, .int u_sh]))] s.heap.size = A at hD ⊢
  have hA : ∀ q : Nat, s.heap.size ≤ q → A q := fun q h => by rw [← hAe]; exact Or.inr h
  have hS : va_S A s.heap s.heap [] := va_S.rf
  have hP : va_P D vwCl [(h0, .inr (6, [.ref u_z, .ref u_l, .ref u_g, .int u_at, .int u_sf, .int u_sm, .int u_sl, .int u_sh]))] s.heap := hP
  have hl := lv_entry ([.ref h0]) (n := 1) (Nat.le_of_ble_eq_true rfl)
  rw [lg_entry_eq]
  generalize (lg_sl ([.ref h0]) ++ List.replicate (1 - (lg_sl ([.ref h0])).length) Slot.unset).toArray = ls at hl ⊢
  have hl : lv_has ls 1 [(0, .ref h0)] := hl
  obtain ⟨H, hHe⟩ : ∃ H : Heap, H = s.heap := ⟨_, rfl⟩
  rw [← hHe] at hP
  have hS : va_S A s.heap H [] := by rw [hHe]; exact hS
  refine pw_heap hHe ?_
  refine lv_aload_n hx hb dX6_beginShifts_0 rfl (lv_at hl 0 rfl) ?_
  refine lv_iconst (v := 1) hx hb dX6_beginShifts_1 (by decide) ?_
  refine va_put (D := D) (ci := 6) (v := .int 1) (ty := .int) (C := RX6) (T := TX6) (N := 8) hx hb hts (fun _ h => List.mem_cons_of_mem _ (List.mem_append_right _ h)) tyX6 tyX6_ok nmX6 hown hK hP hD hS 0 rfl rfl 3 (by decide) (hts (.fieldLink RX6 61 "LineCites$Spans" "at" "I") (List.mem_of_getElem? (i := 1) rfl)) (fun _ h9 => h9) rfl (by decide +kernel) rfl rfl (Nat.le_of_ble_eq_true rfl) dX6_beginShifts_2 (fun H locs hP hD hS => ?_)
  have hP : va_P D vwCl [(h0, .inr (6, [.ref u_z, .ref u_l, .ref u_g, .int 1, .int u_sf, .int u_sm, .int u_sl, .int u_sh]))] H := hP
  have hD : va_D A [(h0, .inr (6, [.ref u_z, .ref u_l, .ref u_g, .int 1, .int u_sf, .int u_sm, .int u_sl, .int u_sh]))] := hD
  have hK : va_K D vwCl [] s := hK
  have hP9 := hP.sub (ws' := [(h0, .inr (6, [.ref u_z, .ref u_l, .ref u_g, .int 1, .int u_sf, .int u_sm, .int u_sl, .int u_sh]))]) [0] rfl
  have hD9 := hD.sub (ws' := [(h0, .inr (6, [.ref u_z, .ref u_l, .ref u_g, .int 1, .int u_sf, .int u_sm, .int u_sl, .int u_sh]))]) [0] (by decide) rfl
  have hK9 := hK.sub (tys' := []) [] rfl
  refine W.widen (k := 0) (n := 0) (Nat.le_of_ble_eq_true rfl) (Nat.le_of_ble_eq_true rfl) ?_
  exact W.vret hx hb hr (fun t ht hW => ⟨⟨(), rfl, trivial, 1, u_sf, u_sm, u_sl, u_sh, by rw [ht]; exact hP9, va_K.moved hW.alike hK9, hD9⟩, hS.F ht⟩) hS.2.2 dX6_beginShifts_5
def w_X6_shiftAnswer : List Cond := .code yX6_shiftAnswer cX6_shiftAnswer 2 (some .int) :: ([.fieldLink RX6 71 "LineCites$Spans" "shiftLow" "I", .fieldLink RX6 74 "LineCites$Spans" "shiftHigh" "I", .methodLink RX6 86 Lib.Math.min.name, .static Lib.Math.min.name, .initialized "java/lang/Math", .code Lib.Math.min.name Lib.Math.min.code 2 (some .int), .fieldLink RX6 68 "LineCites$Spans" "shiftMany" "I", .fieldLink RX6 65 "LineCites$Spans" "shiftFirst" "I"] ++ wsX60)
set_option maxHeartbeats 4000000 in
set_option maxRecDepth 100000 in
theorem c_X6_shiftAnswer (l : Launch) (D : va_G) (h0 : Nat) (i_w : Int32) (u_z : Nat) (u_l : Nat) (u_g : Nat) (u_at : Int32) (u_sf : Int32) (u_sm : Int32) (u_sl : Int32) (u_sh : Int32) : Met l yX6_shiftAnswer w_X6_shiftAnswer ({ frames := 1, cells := 0, slots := 0, locals := 13 }) (va_Pc [.ref h0, .int i_w] (fun U => va_P D vwCl [(h0, .inr (6, [.ref u_z, .ref u_l, .ref u_g, .int u_at, .int u_sf, .int u_sm, .int u_sl, .int u_sh]))] U.heap ∧ va_K D vwCl [] U)) (va_Qi (fun (r : Int32) (_ : Unit) => True) (fun _ _ => True) (fun _ => False)) 0 0 (fun _ => False) := by
  refine Met.ofW (cc := cX6_shiftAnswer) (maxL := 2) (ret := (some .int)) (by decide) rfl ?_
  intro p e s m args below meth c s₁ B hml hv
  obtain ⟨rfl, hP, hK⟩ := hv
  have hx := B.exec
  have hb := B.bytes
  have hr := B.returns
  have hts := atoms_spec (ws := w_X6_shiftAnswer) B.pre
  have hown : s.vm.findClass RX6 = some m.cls := findClass_of_methodNamed B.named
  have hlocks := B.notSynchronized
  have hS : va_S (fun _ : Nat => False) s.heap s.heap [] := va_S.rf
  have hP : va_P D vwCl [(h0, .inr (6, [.ref u_z, .ref u_l, .ref u_g, .int u_at, .int u_sf, .int u_sm, .int u_sl, .int u_sh]))] s.heap := hP
  have hl := lv_entry ([.ref h0, .int i_w]) (n := 2) (Nat.le_of_ble_eq_true rfl)
  rw [lg_entry_eq]
  generalize (lg_sl ([.ref h0, .int i_w]) ++ List.replicate (2 - (lg_sl ([.ref h0, .int i_w])).length) Slot.unset).toArray = ls at hl ⊢
  have hl : lv_has ls 2 [(0, .ref h0), (1, .int i_w)] := hl
  obtain ⟨H, hHe⟩ : ∃ H : Heap, H = s.heap := ⟨_, rfl⟩
  rw [← hHe] at hP
  have hS : va_S (fun _ : Nat => False) s.heap H [] := by rw [hHe]; exact hS
  refine pw_heap hHe ?_
  refine lv_iload_n hx hb dX6_shiftAnswer_0 rfl (lv_at hl 1 rfl) ?_
  refine lv_if_ne (tgt := 9) hx hb dX6_shiftAnswer_1 (by decide) (fun c1 => ?_) (fun c1 => ?_)
  · have nc1 : i_w.toInt ≠ 0 := pw_ne c1 rfl (by decide)
    refine lv_iload_n hx hb dX6_shiftAnswer_9 rfl (lv_at hl 1 rfl) ?_
    refine lv_iconst (v := 1) hx hb dX6_shiftAnswer_10 (by decide) ?_
    refine lv_icmp_ne (tgt := 19) hx hb dX6_shiftAnswer_11 (by decide) (fun c2 => ?_) (fun c2 => ?_)
    · have nc2 : i_w.toInt ≠ 1 := pw_ne c2 rfl (by decide)
      refine lv_aload_n hx hb dX6_shiftAnswer_19 rfl (lv_at hl 0 rfl) ?_
      refine va_get (D := D) (ci := 6) (v := .int u_sl) (C := RX6) (T := TX6) (N := 8) hx hb hts (fun _ h => List.mem_cons_of_mem _ (List.mem_append_right _ h)) hown hK hP 0 rfl rfl 6 (by decide) (hts (.fieldLink RX6 71 "LineCites$Spans" "shiftLow" "I") (List.mem_of_getElem? (i := 1) rfl)) (fun _ h9 => h9) rfl dX6_shiftAnswer_20 ?_
      refine lv_if_le (tgt := 33) hx hb dX6_shiftAnswer_23 (by decide) (fun c3 => ?_) (fun c3 => ?_)
      · have nc3 : u_sl.toInt ≤ 0 := pw_le c3 rfl (by decide)
        refine lv_aload_n hx hb dX6_shiftAnswer_33 rfl (lv_at hl 0 rfl) ?_
        refine va_get (D := D) (ci := 6) (v := .int u_sh) (C := RX6) (T := TX6) (N := 8) hx hb hts (fun _ h => List.mem_cons_of_mem _ (List.mem_append_right _ h)) hown hK hP 0 rfl rfl 7 (by decide) (hts (.fieldLink RX6 74 "LineCites$Spans" "shiftHigh" "I") (List.mem_of_getElem? (i := 2) rfl)) (fun _ h9 => h9) rfl dX6_shiftAnswer_34 ?_
        refine lv_iconst (v := 0) hx hb dX6_shiftAnswer_37 (by decide) ?_
        refine va_mmin hx hb (hml.trans hl.1.symm) hown (hts (.methodLink RX6 86 Lib.Math.min.name) (List.mem_of_getElem? (i := 3) rfl)) (hts (.static Lib.Math.min.name) (List.mem_of_getElem? (i := 4) rfl)) (hts (.initialized "java/lang/Math") (List.mem_of_getElem? (i := 5) rfl)) (hts (.code Lib.Math.min.name Lib.Math.min.code 2 (some .int)) (List.mem_of_getElem? (i := 6) rfl)) (Nat.le_of_ble_eq_true rfl) (Nat.le_of_ble_eq_true rfl) (Nat.le_of_ble_eq_true rfl) (Nat.le_of_ble_eq_true rfl) dX6_shiftAnswer_38 ?_
        refine lv_topi (fun x4 ex4 => ?_)
        exact W.iret (v := x4) hx hb hr (fun t ht hW => ⟨⟨x4, (), rfl, trivial, trivial⟩, hS.F ht⟩) hS.2.2 dX6_shiftAnswer_41
      · have nc3 : 0 < u_sl.toInt := pw_nle c3 rfl (by decide)
        refine lv_aload_n hx hb dX6_shiftAnswer_26 rfl (lv_at hl 0 rfl) ?_
        refine va_get (D := D) (ci := 6) (v := .int u_sl) (C := RX6) (T := TX6) (N := 8) hx hb hts (fun _ h => List.mem_cons_of_mem _ (List.mem_append_right _ h)) hown hK hP 0 rfl rfl 6 (by decide) (hts (.fieldLink RX6 71 "LineCites$Spans" "shiftLow" "I") (List.mem_of_getElem? (i := 1) rfl)) (fun _ h9 => h9) rfl dX6_shiftAnswer_27 ?_
        refine lv_goto (tgt := 41) hx hb dX6_shiftAnswer_30 (by decide) ?_
        exact W.iret (v := u_sl) hx hb hr (fun t ht hW => ⟨⟨u_sl, (), rfl, trivial, trivial⟩, hS.F ht⟩) hS.2.2 dX6_shiftAnswer_41
    · have nc2 : i_w.toInt = 1 := pw_eq c2 rfl (by decide)
      refine lv_aload_n hx hb dX6_shiftAnswer_14 rfl (lv_at hl 0 rfl) ?_
      refine va_get (D := D) (ci := 6) (v := .int u_sm) (C := RX6) (T := TX6) (N := 8) hx hb hts (fun _ h => List.mem_cons_of_mem _ (List.mem_append_right _ h)) hown hK hP 0 rfl rfl 5 (by decide) (hts (.fieldLink RX6 68 "LineCites$Spans" "shiftMany" "I") (List.mem_of_getElem? (i := 7) rfl)) (fun _ h9 => h9) rfl dX6_shiftAnswer_15 ?_
      exact W.iret (v := u_sm) hx hb hr (fun t ht hW => ⟨⟨u_sm, (), rfl, trivial, trivial⟩, hS.F ht⟩) hS.2.2 dX6_shiftAnswer_18
  · have nc1 : i_w.toInt = 0 := pw_eq c1 rfl (by decide)
    refine lv_aload_n hx hb dX6_shiftAnswer_4 rfl (lv_at hl 0 rfl) ?_
    refine va_get (D := D) (ci := 6) (v := .int u_sf) (C := RX6) (T := TX6) (N := 8) hx hb hts (fun _ h => List.mem_cons_of_mem _ (List.mem_append_right _ h)) hown hK hP 0 rfl rfl 4 (by decide) (hts (.fieldLink RX6 65 "LineCites$Spans" "shiftFirst" "I") (List.mem_of_getElem? (i := 8) rfl)) (fun _ h9 => h9) rfl dX6_shiftAnswer_5 ?_
    exact W.iret (v := u_sf) hx hb hr (fun t ht hW => ⟨⟨u_sf, (), rfl, trivial, trivial⟩, hS.F ht⟩) hS.2.2 dX6_shiftAnswer_8
def w_X6_joinsShift : List Cond := .code yX6_joinsShift cX6_joinsShift 4 (some .boolean) :: ([.methodLink RX6 52 yX6_hasSome, .instanceMethod yX6_hasSome, .selects RX6 yX6_hasSome yX6_hasSome, .initialized RX6, .code yX6_hasSome cX6_hasSome 2 (some .boolean), .methodLink RX6 21 yX6_isPlace, .instanceMethod yX6_isPlace, .selects RX6 yX6_isPlace yX6_isPlace, .code yX6_isPlace cX6_isPlace 2 (some .boolean), .fieldLink RX6 9 "LineCites$Spans" "sizes" "[I", .fieldLink RX6 15 "LineCites$Spans" "leasts" "[I", .fieldLink RX6 18 "LineCites$Spans" "greatests" "[I", .fieldLink RX6 71 "LineCites$Spans" "shiftLow" "I", .methodLink RX6 80 Lib.Math.max.name, .static Lib.Math.max.name, .initialized "java/lang/Math", .code Lib.Math.max.name Lib.Math.max.code 2 (some .int), .fieldLink RX6 74 "LineCites$Spans" "shiftHigh" "I", .methodLink RX6 86 Lib.Math.min.name, .static Lib.Math.min.name, .code Lib.Math.min.name Lib.Math.min.code 2 (some .int), .fieldLink RX6 68 "LineCites$Spans" "shiftMany" "I"] ++ wsX60)
set_option maxRecDepth 20000 in
theorem g_X6_joinsShift_X6_hasSome : GoodIn w_X6_joinsShift (wsV RX6 52 RX6 yX6_hasSome w_X6_hasSome) := goodIn_r _ [1, 2, 3, 4, 5, 6, 7, 8, 4, 9, 10, 11, 12, 23, 24, 25, 26, 27, 28, 29, 30] rfl (by decide +kernel)
set_option maxHeartbeats 4000000 in
set_option maxRecDepth 100000 in
theorem c_X6_joinsShift (l : Launch) (D : va_G) (h0 : Nat) (i_n : Int32) (u_z : Nat) (u_l : Nat) (u_g : Nat) (u_at : Int32) (u_sf : Int32) (u_sm : Int32) (u_sl : Int32) (u_sh : Int32) (kI : ClassId) (g_u_z : Nat → Int32) (g_u_l : Nat → Int32) (g_u_g : Nat → Int32) (sz : Nat) : Met l yX6_joinsShift w_X6_joinsShift ({ frames := 2, cells := 0, slots := 0, locals := 42 }) (va_Pc [.ref h0, .int i_n] (fun U => U.heap.size = sz ∧ va_P D vwCl [(h0, .inr (6, [.ref u_z, .ref u_l, .ref u_g, .int u_at, .int u_sf, .int u_sm, .int u_sl, .int u_sh])), (u_z, .inl (kI, 1000, .inl g_u_z)), (u_l, .inl (kI, 1000, .inl g_u_l)), (u_g, .inl (kI, 1000, .inl g_u_g))] U.heap ∧ va_K D vwCl [(kI, .int)] U ∧ va_D (fun _ => True) [(h0, .inr (6, [.ref u_z, .ref u_l, .ref u_g, .int u_at, .int u_sf, .int u_sm, .int u_sl, .int u_sh])), (u_z, .inl (kI, 1000, .inl g_u_z)), (u_l, .inl (kI, 1000, .inl g_u_l)), (u_g, .inl (kI, 1000, .inl g_u_g))])) (va_Qi (fun (r : Int32) (_ : Unit) => (r = 0 ∨ r = 1) ∧ True) (fun (_ : Unit) t => ∃ (n_sm : Int32) (n_sl : Int32) (n_sh : Int32), va_P D vwCl [(h0, .inr (6, [.ref u_z, .ref u_l, .ref u_g, .int u_at, .int u_sf, .int n_sm, .int n_sl, .int n_sh])), (u_z, .inl (kI, 1000, .inl g_u_z)), (u_l, .inl (kI, 1000, .inl g_u_l)), (u_g, .inl (kI, 1000, .inl g_u_g))] t.heap ∧ va_K D vwCl [(kI, .int)] t ∧ va_D (va_A [(h0, .inr (6, [.ref u_z, .ref u_l, .ref u_g, .int u_at, .int u_sf, .int u_sm, .int u_sl, .int u_sh])), (u_z, .inl (kI, 1000, .inl g_u_z)), (u_l, .inl (kI, 1000, .inl g_u_l)), (u_g, .inl (kI, 1000, .inl g_u_g))] sz) [(h0, .inr (6, [.ref u_z, .ref u_l, .ref u_g, .int u_at, .int u_sf, .int n_sm, .int n_sl, .int n_sh])), (u_z, .inl (kI, 1000, .inl g_u_z)), (u_l, .inl (kI, 1000, .inl g_u_l)), (u_g, .inl (kI, 1000, .inl g_u_g))]) (va_A [(h0, .inr (6, [.ref u_z, .ref u_l, .ref u_g, .int u_at, .int u_sf, .int u_sm, .int u_sl, .int u_sh])), (u_z, .inl (kI, 1000, .inl g_u_z)), (u_l, .inl (kI, 1000, .inl g_u_l)), (u_g, .inl (kI, 1000, .inl g_u_g))] sz)) 0 0 (va_A [(h0, .inr (6, [.ref u_z, .ref u_l, .ref u_g, .int u_at, .int u_sf, .int u_sm, .int u_sl, .int u_sh])), (u_z, .inl (kI, 1000, .inl g_u_z)), (u_l, .inl (kI, 1000, .inl g_u_l)), (u_g, .inl (kI, 1000, .inl g_u_g))] sz) := by
  refine Met.ofW (cc := cX6_joinsShift) (maxL := 4) (ret := (some .boolean)) (by decide) rfl ?_
  intro p e s m args below meth c s₁ B hml hv
  obtain ⟨rfl, hsz, hP, hK, hD0⟩ := hv
  have hx := B.exec
  have hb := B.bytes
  have hr := B.returns
  have hts := atoms_spec (ws := w_X6_joinsShift) B.pre
  have hown : s.vm.findClass RX6 = some m.cls := findClass_of_methodNamed B.named
  have hlocks := B.notSynchronized
  subst hsz
  have hD := hD0.self (sz := s.heap.size)
  generalize hAe : va_A [(h0, .inr (6, [.ref u_z, .ref u_l, .ref u_g, .int u_at, .int u_sf, .int u_sm, .int u_sl, .int u_sh])), (u_z, .inl (kI, 1000, .inl g_u_z)), (u_l, .inl (kI, 1000, .inl g_u_l)), (u_g, .inl (kI, 1000, .inl g_u_g))] s.heap.size = A at hD ⊢
  have hA : ∀ q : Nat, s.heap.size ≤ q → A q := fun q h => by rw [← hAe]; exact Or.inr h
  have hS : va_S A s.heap s.heap [] := va_S.rf
  have hP : va_P D vwCl [(h0, .inr (6, [.ref u_z, .ref u_l, .ref u_g, .int u_at, .int u_sf, .int u_sm, .int u_sl, .int u_sh])), (u_z, .inl (kI, 1000, .inl g_u_z)), (u_l, .inl (kI, 1000, .inl g_u_l)), (u_g, .inl (kI, 1000, .inl g_u_g))] s.heap := hP
  have hl := lv_entry ([.ref h0, .int i_n]) (n := 4) (Nat.le_of_ble_eq_true rfl)
  rw [lg_entry_eq]
  generalize (lg_sl ([.ref h0, .int i_n]) ++ List.replicate (4 - (lg_sl ([.ref h0, .int i_n])).length) Slot.unset).toArray = ls at hl ⊢
  have hl : lv_has ls 4 [(0, .ref h0), (1, .int i_n)] := hl
  obtain ⟨H, hHe⟩ : ∃ H : Heap, H = s.heap := ⟨_, rfl⟩
  rw [← hHe] at hP
  have hS : va_S A s.heap H [] := by rw [hHe]; exact hS
  refine pw_heap hHe ?_
  refine lv_aload_n hx hb dX6_joinsShift_0 rfl (lv_at hl 0 rfl) ?_
  refine lv_iload_n hx hb dX6_joinsShift_1 rfl (lv_at hl 1 rfl) ?_
  have hPc := hP.sub (ws' := [(h0, .inr (6, [.ref u_z, .ref u_l, .ref u_g, .int u_at, .int u_sf, .int u_sm, .int u_sl, .int u_sh])), (u_z, .inl (kI, 1000, .inl g_u_z)), (u_l, .inl (kI, 1000, .inl g_u_l)), (u_g, .inl (kI, 1000, .inl g_u_g))]) [0, 1, 2, 3] rfl
  have hKc := hK.sub (tys' := [(kI, .int)]) [0] rfl
  refine va_calli (va_runV (As := [.int i_n]) (rest := []) ⟨hx, hb, hml, hown, hts⟩ (c_X6_hasSome l D h0 i_n u_z u_l u_g u_at u_sf u_sm u_sl u_sh kI g_u_z g_u_l g_u_g) (cwV 1 hts g_X6_joinsShift_X6_hasSome rfl rfl rfl (by decide +kernel) ⟨Nat.le_of_ble_eq_true rfl, Nat.le_of_ble_eq_true rfl⟩) ⟨fun a U g mk q => by obtain ⟨q0, qP, qK⟩ := q; exact ⟨q0, qP, va_K.moved (u := U) (U := U.calling g mk a) (Vm.Alike.refl U.vm) qK⟩, va_recv hKc hPc (ci := 6) (q0 := 0) rfl rfl, fun U hU hW => ⟨rfl, by rw [hU]; exact hPc, va_K.moved hW.alike hKc⟩⟩ rfl rfl hl.1 rfl (lv_room (Nat.le_of_ble_eq_true rfl)) dX6_joinsShift_2 ⟨Nat.le_of_ble_eq_true rfl, Nat.le_of_ble_eq_true rfl⟩) hS (fun _ _ h => h.elim) (fun _ h => h.elim) (fun r1 u t H1 locs ht hvm hw hB hz1 hk1 hS => ?_)
  have hP := pw_keep hP (fun q hq => hk1 q hq (fun h => h))
  generalize H1 = H at hP hS ⊢
  refine W.widen (k := 0) (n := 0) (Nat.le_of_ble_eq_true rfl) (Nat.le_of_ble_eq_true rfl) ?_
  have bor1 := hw.1
  have zor1 := pw_boolI bor1
  have hfr1 := hw.2
  refine lv_if_ne (tgt := 10) hx hb dX6_joinsShift_5 (by decide) (fun c2 => ?_) (fun c2 => ?_)
  · have nc2 : r1.toInt ≠ 0 := pw_ne c2 rfl (by decide)
    refine lv_aload_n hx hb dX6_joinsShift_10 rfl (lv_at hl 0 rfl) ?_
    refine va_get (D := D) (ci := 6) (v := .int u_sl) (C := RX6) (T := TX6) (N := 8) hx hb hts (fun _ h => List.mem_cons_of_mem _ (List.mem_append_right _ h)) hown hK hP 0 rfl rfl 6 (by decide) (hts (.fieldLink RX6 71 "LineCites$Spans" "shiftLow" "I") (List.mem_of_getElem? (i := 13) rfl)) (fun _ h9 => h9) rfl dX6_joinsShift_11 ?_
    refine lv_aload_n hx hb dX6_joinsShift_14 rfl (lv_at hl 0 rfl) ?_
    refine va_get (D := D) (ci := 6) (v := .ref u_l) (C := RX6) (T := TX6) (N := 8) hx hb hts (fun _ h => List.mem_cons_of_mem _ (List.mem_append_right _ h)) hown hK hP 0 rfl rfl 1 (by decide) (hts (.fieldLink RX6 15 "LineCites$Spans" "leasts" "[I") (List.mem_of_getElem? (i := 11) rfl)) (fun _ h9 => h9) rfl dX6_joinsShift_15 ?_
    refine lv_iload_n hx hb dX6_joinsShift_18 rfl (lv_at hl 1 rfl) ?_
    refine va_iald hx hb hK hP 2 0 rfl rfl (vp_in_iff.mpr ⟨by omega, by omega⟩) dX6_joinsShift_19 ?_
    refine lv_topi (fun x3 ex3 => ?_)
    refine lv_iload_n hx hb dX6_joinsShift_20 rfl (lv_at hl 1 rfl) ?_
    refine lv_isub hx hb dX6_joinsShift_21 ?_
    refine lv_topi (fun x4 ex4 => ?_)
    refine va_mmax hx hb (hml.trans hl.1.symm) hown (hts (.methodLink RX6 80 Lib.Math.max.name) (List.mem_of_getElem? (i := 14) rfl)) (hts (.static Lib.Math.max.name) (List.mem_of_getElem? (i := 15) rfl)) (hts (.initialized "java/lang/Math") (List.mem_of_getElem? (i := 16) rfl)) (hts (.code Lib.Math.max.name Lib.Math.max.code 2 (some .int)) (List.mem_of_getElem? (i := 17) rfl)) (Nat.le_of_ble_eq_true rfl) (Nat.le_of_ble_eq_true rfl) (Nat.le_of_ble_eq_true rfl) (Nat.le_of_ble_eq_true rfl) dX6_joinsShift_22 ?_
    refine lv_topi (fun x5 ex5 => ?_)
    refine lv_istore_n (lv' := [(2, .int x5), (0, .ref h0), (1, .int i_n)]) hx hb dX6_joinsShift_25 rfl hl (by decide) rfl (fun ls hl => ?_)
    refine lv_aload_n hx hb dX6_joinsShift_26 rfl (lv_at hl 1 rfl) ?_
    refine va_get (D := D) (ci := 6) (v := .int u_sh) (C := RX6) (T := TX6) (N := 8) hx hb hts (fun _ h => List.mem_cons_of_mem _ (List.mem_append_right _ h)) hown hK hP 0 rfl rfl 7 (by decide) (hts (.fieldLink RX6 74 "LineCites$Spans" "shiftHigh" "I") (List.mem_of_getElem? (i := 18) rfl)) (fun _ h9 => h9) rfl dX6_joinsShift_27 ?_
    refine lv_aload_n hx hb dX6_joinsShift_30 rfl (lv_at hl 1 rfl) ?_
    refine va_get (D := D) (ci := 6) (v := .ref u_g) (C := RX6) (T := TX6) (N := 8) hx hb hts (fun _ h => List.mem_cons_of_mem _ (List.mem_append_right _ h)) hown hK hP 0 rfl rfl 2 (by decide) (hts (.fieldLink RX6 18 "LineCites$Spans" "greatests" "[I") (List.mem_of_getElem? (i := 12) rfl)) (fun _ h9 => h9) rfl dX6_joinsShift_31 ?_
    refine lv_iload_n hx hb dX6_joinsShift_34 rfl (lv_at hl 2 rfl) ?_
    refine va_iald hx hb hK hP 3 0 rfl rfl (vp_in_iff.mpr ⟨by omega, by omega⟩) dX6_joinsShift_35 ?_
    refine lv_topi (fun x6 ex6 => ?_)
    refine lv_iload_n hx hb dX6_joinsShift_36 rfl (lv_at hl 2 rfl) ?_
    refine lv_isub hx hb dX6_joinsShift_37 ?_
    refine lv_topi (fun x7 ex7 => ?_)
    refine va_mmin hx hb (hml.trans hl.1.symm) hown (hts (.methodLink RX6 86 Lib.Math.min.name) (List.mem_of_getElem? (i := 19) rfl)) (hts (.static Lib.Math.min.name) (List.mem_of_getElem? (i := 20) rfl)) (hts (.initialized "java/lang/Math") (List.mem_of_getElem? (i := 16) rfl)) (hts (.code Lib.Math.min.name Lib.Math.min.code 2 (some .int)) (List.mem_of_getElem? (i := 21) rfl)) (Nat.le_of_ble_eq_true rfl) (Nat.le_of_ble_eq_true rfl) (Nat.le_of_ble_eq_true rfl) (Nat.le_of_ble_eq_true rfl) dX6_joinsShift_38 ?_
    refine lv_topi (fun x8 ex8 => ?_)
    refine lv_istore_n (lv' := [(3, .int x8), (2, .int x5), (0, .ref h0), (1, .int i_n)]) hx hb dX6_joinsShift_41 rfl hl (by decide) rfl (fun ls hl => ?_)
    refine lv_iload_n hx hb dX6_joinsShift_42 rfl (lv_at hl 1 rfl) ?_
    refine lv_iload_n hx hb dX6_joinsShift_43 rfl (lv_at hl 0 rfl) ?_
    refine lv_icmp_le (tgt := 49) hx hb dX6_joinsShift_44 (by decide) (fun c9 => ?_) (fun c9 => ?_)
    · have nc9 : x5.toInt ≤ x8.toInt := pw_le c9 rfl rfl
      have mc9x5 := pw_max x5
      have mc9x8 := pw_max x8
      refine lv_aload_n hx hb dX6_joinsShift_49 rfl (lv_at hl 2 rfl) ?_
      refine lv_iload_n hx hb dX6_joinsShift_50 rfl (lv_at hl 1 rfl) ?_
      refine va_put (D := D) (ci := 6) (v := .int x5) (ty := .int) (C := RX6) (T := TX6) (N := 8) hx hb hts (fun _ h => List.mem_cons_of_mem _ (List.mem_append_right _ h)) tyX6 tyX6_ok nmX6 hown hK hP hD hS 0 rfl rfl 6 (by decide) (hts (.fieldLink RX6 71 "LineCites$Spans" "shiftLow" "I") (List.mem_of_getElem? (i := 13) rfl)) (fun _ h9 => h9) rfl (by decide +kernel) rfl rfl (Nat.le_of_ble_eq_true rfl) dX6_joinsShift_51 (fun H locs hP hD hS => ?_)
      have hP : va_P D vwCl [(h0, .inr (6, [.ref u_z, .ref u_l, .ref u_g, .int u_at, .int u_sf, .int u_sm, .int x5, .int u_sh])), (u_z, .inl (kI, 1000, .inl g_u_z)), (u_l, .inl (kI, 1000, .inl g_u_l)), (u_g, .inl (kI, 1000, .inl g_u_g))] H := hP
      have hD : va_D A [(h0, .inr (6, [.ref u_z, .ref u_l, .ref u_g, .int u_at, .int u_sf, .int u_sm, .int x5, .int u_sh])), (u_z, .inl (kI, 1000, .inl g_u_z)), (u_l, .inl (kI, 1000, .inl g_u_l)), (u_g, .inl (kI, 1000, .inl g_u_g))] := hD
      have hK : va_K D vwCl [(kI, .int)] s := hK
      refine lv_aload_n hx hb dX6_joinsShift_54 rfl (lv_at hl 2 rfl) ?_
      refine lv_iload_n hx hb dX6_joinsShift_55 rfl (lv_at hl 0 rfl) ?_
      refine va_put (D := D) (ci := 6) (v := .int x8) (ty := .int) (C := RX6) (T := TX6) (N := 8) hx hb hts (fun _ h => List.mem_cons_of_mem _ (List.mem_append_right _ h)) tyX6 tyX6_ok nmX6 hown hK hP hD hS 0 rfl rfl 7 (by decide) (hts (.fieldLink RX6 74 "LineCites$Spans" "shiftHigh" "I") (List.mem_of_getElem? (i := 18) rfl)) (fun _ h9 => h9) rfl (by decide +kernel) rfl rfl (Nat.le_of_ble_eq_true rfl) dX6_joinsShift_56 (fun H locs hP hD hS => ?_)
      have hP : va_P D vwCl [(h0, .inr (6, [.ref u_z, .ref u_l, .ref u_g, .int u_at, .int u_sf, .int u_sm, .int x5, .int x8])), (u_z, .inl (kI, 1000, .inl g_u_z)), (u_l, .inl (kI, 1000, .inl g_u_l)), (u_g, .inl (kI, 1000, .inl g_u_g))] H := hP
      have hD : va_D A [(h0, .inr (6, [.ref u_z, .ref u_l, .ref u_g, .int u_at, .int u_sf, .int u_sm, .int x5, .int x8])), (u_z, .inl (kI, 1000, .inl g_u_z)), (u_l, .inl (kI, 1000, .inl g_u_l)), (u_g, .inl (kI, 1000, .inl g_u_g))] := hD
      have hK : va_K D vwCl [(kI, .int)] s := hK
      refine lv_aload_n hx hb dX6_joinsShift_59 rfl (lv_at hl 2 rfl) ?_
      refine lv_dup hx hb dX6_joinsShift_60 rfl ?_
      refine va_get (D := D) (ci := 6) (v := .int u_sm) (C := RX6) (T := TX6) (N := 8) hx hb hts (fun _ h => List.mem_cons_of_mem _ (List.mem_append_right _ h)) hown hK hP 0 rfl rfl 5 (by decide) (hts (.fieldLink RX6 68 "LineCites$Spans" "shiftMany" "I") (List.mem_of_getElem? (i := 22) rfl)) (fun _ h9 => h9) rfl dX6_joinsShift_61 ?_
      refine lv_iconst (v := 1) hx hb dX6_joinsShift_64 (by decide) ?_
      refine lv_iadd hx hb dX6_joinsShift_65 ?_
      refine lv_topi (fun x10 ex10 => ?_)
      refine va_put (D := D) (ci := 6) (v := .int x10) (ty := .int) (C := RX6) (T := TX6) (N := 8) hx hb hts (fun _ h => List.mem_cons_of_mem _ (List.mem_append_right _ h)) tyX6 tyX6_ok nmX6 hown hK hP hD hS 0 rfl rfl 5 (by decide) (hts (.fieldLink RX6 68 "LineCites$Spans" "shiftMany" "I") (List.mem_of_getElem? (i := 22) rfl)) (fun _ h9 => h9) rfl (by decide +kernel) rfl rfl (Nat.le_of_ble_eq_true rfl) dX6_joinsShift_66 (fun H locs hP hD hS => ?_)
      have hP : va_P D vwCl [(h0, .inr (6, [.ref u_z, .ref u_l, .ref u_g, .int u_at, .int u_sf, .int x10, .int x5, .int x8])), (u_z, .inl (kI, 1000, .inl g_u_z)), (u_l, .inl (kI, 1000, .inl g_u_l)), (u_g, .inl (kI, 1000, .inl g_u_g))] H := hP
      have hD : va_D A [(h0, .inr (6, [.ref u_z, .ref u_l, .ref u_g, .int u_at, .int u_sf, .int x10, .int x5, .int x8])), (u_z, .inl (kI, 1000, .inl g_u_z)), (u_l, .inl (kI, 1000, .inl g_u_l)), (u_g, .inl (kI, 1000, .inl g_u_g))] := hD
      have hK : va_K D vwCl [(kI, .int)] s := hK
      refine lv_iconst (v := 1) hx hb dX6_joinsShift_69 (by decide) ?_
      have hP9 := hP.sub (ws' := [(h0, .inr (6, [.ref u_z, .ref u_l, .ref u_g, .int u_at, .int u_sf, .int x10, .int x5, .int x8])), (u_z, .inl (kI, 1000, .inl g_u_z)), (u_l, .inl (kI, 1000, .inl g_u_l)), (u_g, .inl (kI, 1000, .inl g_u_g))]) [0, 1, 2, 3] rfl
      have hD9 := hD.sub (ws' := [(h0, .inr (6, [.ref u_z, .ref u_l, .ref u_g, .int u_at, .int u_sf, .int x10, .int x5, .int x8])), (u_z, .inl (kI, 1000, .inl g_u_z)), (u_l, .inl (kI, 1000, .inl g_u_l)), (u_g, .inl (kI, 1000, .inl g_u_g))]) [0, 1, 2, 3] (by decide) rfl
      have hK9 := hK.sub (tys' := [(kI, .int)]) [0] rfl
      refine W.widen (k := 0) (n := 0) (Nat.le_of_ble_eq_true rfl) (Nat.le_of_ble_eq_true rfl) ?_
      exact W.zret (v := 1) (ty := .boolean) hx hb hr rfl (fun t ht hW => ⟨⟨1, (), rfl, ⟨Or.inr rfl, trivial⟩, x10, x5, x8, by rw [ht]; exact hP9, va_K.moved hW.alike hK9, hD9⟩, hS.F ht⟩) hS.2.2 dX6_joinsShift_70
    · have nc9 : x8.toInt < x5.toInt := pw_nle c9 rfl rfl
      have mc9x5 := pw_max x5
      have mc9x8 := pw_max x8
      refine lv_iconst (v := 0) hx hb dX6_joinsShift_47 (by decide) ?_
      have hP9 := hP.sub (ws' := [(h0, .inr (6, [.ref u_z, .ref u_l, .ref u_g, .int u_at, .int u_sf, .int u_sm, .int u_sl, .int u_sh])), (u_z, .inl (kI, 1000, .inl g_u_z)), (u_l, .inl (kI, 1000, .inl g_u_l)), (u_g, .inl (kI, 1000, .inl g_u_g))]) [0, 1, 2, 3] rfl
      have hD9 := hD.sub (ws' := [(h0, .inr (6, [.ref u_z, .ref u_l, .ref u_g, .int u_at, .int u_sf, .int u_sm, .int u_sl, .int u_sh])), (u_z, .inl (kI, 1000, .inl g_u_z)), (u_l, .inl (kI, 1000, .inl g_u_l)), (u_g, .inl (kI, 1000, .inl g_u_g))]) [0, 1, 2, 3] (by decide) rfl
      have hK9 := hK.sub (tys' := [(kI, .int)]) [0] rfl
      refine W.widen (k := 0) (n := 0) (Nat.le_of_ble_eq_true rfl) (Nat.le_of_ble_eq_true rfl) ?_
      exact W.zret (v := 0) (ty := .boolean) hx hb hr rfl (fun t ht hW => ⟨⟨0, (), rfl, ⟨Or.inl rfl, trivial⟩, u_sm, u_sl, u_sh, by rw [ht]; exact hP9, va_K.moved hW.alike hK9, hD9⟩, hS.F ht⟩) hS.2.2 dX6_joinsShift_48
  · have nc2 : r1.toInt = 0 := pw_eq c2 rfl (by decide)
    refine lv_iconst (v := 0) hx hb dX6_joinsShift_8 (by decide) ?_
    have hP9 := hP.sub (ws' := [(h0, .inr (6, [.ref u_z, .ref u_l, .ref u_g, .int u_at, .int u_sf, .int u_sm, .int u_sl, .int u_sh])), (u_z, .inl (kI, 1000, .inl g_u_z)), (u_l, .inl (kI, 1000, .inl g_u_l)), (u_g, .inl (kI, 1000, .inl g_u_g))]) [0, 1, 2, 3] rfl
    have hD9 := hD.sub (ws' := [(h0, .inr (6, [.ref u_z, .ref u_l, .ref u_g, .int u_at, .int u_sf, .int u_sm, .int u_sl, .int u_sh])), (u_z, .inl (kI, 1000, .inl g_u_z)), (u_l, .inl (kI, 1000, .inl g_u_l)), (u_g, .inl (kI, 1000, .inl g_u_g))]) [0, 1, 2, 3] (by decide) rfl
    have hK9 := hK.sub (tys' := [(kI, .int)]) [0] rfl
    refine W.widen (k := 0) (n := 0) (Nat.le_of_ble_eq_true rfl) (Nat.le_of_ble_eq_true rfl) ?_
    exact W.zret (v := 0) (ty := .boolean) hx hb hr rfl (fun t ht hW => ⟨⟨0, (), rfl, ⟨Or.inl rfl, trivial⟩, u_sm, u_sl, u_sh, by rw [ht]; exact hP9, va_K.moved hW.alike hK9, hD9⟩, hS.F ht⟩) hS.2.2 dX6_joinsShift_9
def w_X6_nextShift : List Cond := .code yX6_nextShift cX6_nextShift 1 (some .boolean) :: ([.fieldLink RX6 61 "LineCites$Spans" "at" "I", .methodLink RX6 52 yX6_hasSome, .instanceMethod yX6_hasSome, .selects RX6 yX6_hasSome yX6_hasSome, .initialized RX6, .code yX6_hasSome cX6_hasSome 2 (some .boolean), .methodLink RX6 21 yX6_isPlace, .instanceMethod yX6_isPlace, .selects RX6 yX6_isPlace yX6_isPlace, .code yX6_isPlace cX6_isPlace 2 (some .boolean), .fieldLink RX6 9 "LineCites$Spans" "sizes" "[I", .fieldLink RX6 15 "LineCites$Spans" "leasts" "[I", .fieldLink RX6 18 "LineCites$Spans" "greatests" "[I", .fieldLink RX6 65 "LineCites$Spans" "shiftFirst" "I", .fieldLink RX6 68 "LineCites$Spans" "shiftMany" "I", .fieldLink RX6 71 "LineCites$Spans" "shiftLow" "I", .fieldLink RX6 74 "LineCites$Spans" "shiftHigh" "I", .methodLink RX6 77 yX6_joinsShift, .instanceMethod yX6_joinsShift, .selects RX6 yX6_joinsShift yX6_joinsShift, .code yX6_joinsShift cX6_joinsShift 4 (some .boolean), .methodLink RX6 80 Lib.Math.max.name, .static Lib.Math.max.name, .initialized "java/lang/Math", .code Lib.Math.max.name Lib.Math.max.code 2 (some .int), .methodLink RX6 86 Lib.Math.min.name, .static Lib.Math.min.name, .code Lib.Math.min.name Lib.Math.min.code 2 (some .int)] ++ wsX60)
set_option maxRecDepth 20000 in
theorem g_X6_nextShift_X6_hasSome : GoodIn w_X6_nextShift (wsV RX6 52 RX6 yX6_hasSome w_X6_hasSome) := goodIn_r _ [2, 3, 4, 5, 6, 7, 8, 9, 5, 10, 11, 12, 13, 29, 30, 31, 32, 33, 34, 35, 36] rfl (by decide +kernel)
set_option maxRecDepth 20000 in
theorem g_X6_nextShift_X6_joinsShift : GoodIn w_X6_nextShift (wsV RX6 77 RX6 yX6_joinsShift w_X6_joinsShift) := goodIn_r _ [18, 19, 20, 5, 21, 2, 3, 4, 5, 6, 7, 8, 9, 10, 11, 12, 13, 16, 22, 23, 24, 25, 17, 26, 27, 28, 15, 29, 30, 31, 32, 33, 34, 35, 36] rfl (by decide +kernel)
set_option maxHeartbeats 4000000 in
set_option maxRecDepth 100000 in
theorem c_X6_nextShift (l : Launch) (D : va_G) (h0 : Nat) (u_z : Nat) (u_l : Nat) (u_g : Nat) (u_at : Int32) (u_sf : Int32) (u_sm : Int32) (u_sl : Int32) (u_sh : Int32) (kI : ClassId) (g_u_z : Nat → Int32) (g_u_l : Nat → Int32) (g_u_g : Nat → Int32) (sz : Nat) : Met l yX6_nextShift w_X6_nextShift ({ frames := 3, cells := 0, slots := 0, locals := 65 }) (va_Pc [.ref h0] (fun U => U.heap.size = sz ∧ va_P D vwCl [(h0, .inr (6, [.ref u_z, .ref u_l, .ref u_g, .int u_at, .int u_sf, .int u_sm, .int u_sl, .int u_sh])), (u_z, .inl (kI, 1000, .inl g_u_z)), (u_l, .inl (kI, 1000, .inl g_u_l)), (u_g, .inl (kI, 1000, .inl g_u_g))] U.heap ∧ va_K D vwCl [(kI, .int)] U ∧ va_D (fun _ => True) [(h0, .inr (6, [.ref u_z, .ref u_l, .ref u_g, .int u_at, .int u_sf, .int u_sm, .int u_sl, .int u_sh])), (u_z, .inl (kI, 1000, .inl g_u_z)), (u_l, .inl (kI, 1000, .inl g_u_l)), (u_g, .inl (kI, 1000, .inl g_u_g))])) (va_Qi (fun (r : Int32) (_ : Unit) => (r = 0 ∨ r = 1) ∧ True) (fun (_ : Unit) t => ∃ (n_at : Int32) (n_sf : Int32) (n_sm : Int32) (n_sl : Int32) (n_sh : Int32), va_P D vwCl [(h0, .inr (6, [.ref u_z, .ref u_l, .ref u_g, .int n_at, .int n_sf, .int n_sm, .int n_sl, .int n_sh])), (u_z, .inl (kI, 1000, .inl g_u_z)), (u_l, .inl (kI, 1000, .inl g_u_l)), (u_g, .inl (kI, 1000, .inl g_u_g))] t.heap ∧ va_K D vwCl [(kI, .int)] t ∧ va_D (va_A [(h0, .inr (6, [.ref u_z, .ref u_l, .ref u_g, .int u_at, .int u_sf, .int u_sm, .int u_sl, .int u_sh])), (u_z, .inl (kI, 1000, .inl g_u_z)), (u_l, .inl (kI, 1000, .inl g_u_l)), (u_g, .inl (kI, 1000, .inl g_u_g))] sz) [(h0, .inr (6, [.ref u_z, .ref u_l, .ref u_g, .int n_at, .int n_sf, .int n_sm, .int n_sl, .int n_sh])), (u_z, .inl (kI, 1000, .inl g_u_z)), (u_l, .inl (kI, 1000, .inl g_u_l)), (u_g, .inl (kI, 1000, .inl g_u_g))]) (va_A [(h0, .inr (6, [.ref u_z, .ref u_l, .ref u_g, .int u_at, .int u_sf, .int u_sm, .int u_sl, .int u_sh])), (u_z, .inl (kI, 1000, .inl g_u_z)), (u_l, .inl (kI, 1000, .inl g_u_l)), (u_g, .inl (kI, 1000, .inl g_u_g))] sz)) 0 0 (va_A [(h0, .inr (6, [.ref u_z, .ref u_l, .ref u_g, .int u_at, .int u_sf, .int u_sm, .int u_sl, .int u_sh])), (u_z, .inl (kI, 1000, .inl g_u_z)), (u_l, .inl (kI, 1000, .inl g_u_l)), (u_g, .inl (kI, 1000, .inl g_u_g))] sz) := by
  refine Met.ofW (cc := cX6_nextShift) (maxL := 1) (ret := (some .boolean)) (by decide) rfl ?_
  intro p e s m args below meth c s₁ B hml hv
  obtain ⟨rfl, hsz, hP, hK, hD0⟩ := hv
  have hx := B.exec
  have hb := B.bytes
  have hr := B.returns
  have hts := atoms_spec (ws := w_X6_nextShift) B.pre
  have hown : s.vm.findClass RX6 = some m.cls := findClass_of_methodNamed B.named
  have hlocks := B.notSynchronized
  subst hsz
  have hD := hD0.self (sz := s.heap.size)
  generalize hAe : va_A [(h0, .inr (6, [.ref u_z, .ref u_l, .ref u_g, .int u_at, .int u_sf, .int u_sm, .int u_sl, .int u_sh])), (u_z, .inl (kI, 1000, .inl g_u_z)), (u_l, .inl (kI, 1000, .inl g_u_l)), (u_g, .inl (kI, 1000, .inl g_u_g))] s.heap.size = A at hD ⊢
  have hA : ∀ q : Nat, s.heap.size ≤ q → A q := fun q h => by rw [← hAe]; exact Or.inr h
  have hS : va_S A s.heap s.heap [] := va_S.rf
  have hP : va_P D vwCl [(h0, .inr (6, [.ref u_z, .ref u_l, .ref u_g, .int u_at, .int u_sf, .int u_sm, .int u_sl, .int u_sh])), (u_z, .inl (kI, 1000, .inl g_u_z)), (u_l, .inl (kI, 1000, .inl g_u_l)), (u_g, .inl (kI, 1000, .inl g_u_g))] s.heap := hP
  have hl := lv_entry ([.ref h0]) (n := 1) (Nat.le_of_ble_eq_true rfl)
  rw [lg_entry_eq]
  generalize (lg_sl ([.ref h0]) ++ List.replicate (1 - (lg_sl ([.ref h0])).length) Slot.unset).toArray = ls at hl ⊢
  have hl : lv_has ls 1 [(0, .ref h0)] := hl
  obtain ⟨H, hHe⟩ : ∃ H : Heap, H = s.heap := ⟨_, rfl⟩
  rw [← hHe] at hP
  have hS : va_S A s.heap H [] := by rw [hHe]; exact hS
  refine pw_heap hHe ?_
  have hl9 : lv_has ls 1 [(0, .ref h0)] := lv_sub hl [0] rfl
  refine pw_loop (fun (v130 : Int32) H locs ls => va_P D vwCl [(h0, .inr (6, [.ref u_z, .ref u_l, .ref u_g, .int v130, .int u_sf, .int u_sm, .int u_sl, .int u_sh])), (u_z, .inl (kI, 1000, .inl g_u_z)), (u_l, .inl (kI, 1000, .inl g_u_l)), (u_g, .inl (kI, 1000, .inl g_u_g))] H ∧ va_D A [(h0, .inr (6, [.ref u_z, .ref u_l, .ref u_g, .int v130, .int u_sf, .int u_sm, .int u_sl, .int u_sh])), (u_z, .inl (kI, 1000, .inl g_u_z)), (u_l, .inl (kI, 1000, .inl g_u_l)), (u_g, .inl (kI, 1000, .inl g_u_g))] ∧ va_S A s.heap H locs ∧ lv_has ls 1 [(0, .ref h0)]) (fun (v130 : Int32)  => (2147483648 - v130.toInt).toNat) 0 0 (fun (v130 : Int32) ls => F0 m 0 ls []) (fun zz H locs ls ih131 hI => ?_) u_at _ _ _ ⟨hP, hD, hS, hl9⟩
  obtain ⟨v130, hzz⟩ : ∃ z, z = zz := ⟨_, rfl⟩
  subst hzz
  obtain ⟨hP, hD, hS, hl⟩ := hI
  have hP : va_P D vwCl [(h0, .inr (6, [.ref u_z, .ref u_l, .ref u_g, .int v130, .int u_sf, .int u_sm, .int u_sl, .int u_sh])), (u_z, .inl (kI, 1000, .inl g_u_z)), (u_l, .inl (kI, 1000, .inl g_u_l)), (u_g, .inl (kI, 1000, .inl g_u_g))] H := hP
  have hD : va_D A [(h0, .inr (6, [.ref u_z, .ref u_l, .ref u_g, .int v130, .int u_sf, .int u_sm, .int u_sl, .int u_sh])), (u_z, .inl (kI, 1000, .inl g_u_z)), (u_l, .inl (kI, 1000, .inl g_u_l)), (u_g, .inl (kI, 1000, .inl g_u_g))] := hD
  have hK : va_K D vwCl [(kI, .int)] s := hK
  have hl : lv_has ls 1 [(0, .ref h0)] := hl
  refine W.eq (g2 := F0 m 0 ls []) rfl ?_
  refine lv_aload_n hx hb dX6_nextShift_0 rfl (lv_at hl 0 rfl) ?_
  refine va_get (D := D) (ci := 6) (v := .int v130) (C := RX6) (T := TX6) (N := 8) hx hb hts (fun _ h => List.mem_cons_of_mem _ (List.mem_append_right _ h)) hown hK hP 0 rfl rfl 3 (by decide) (hts (.fieldLink RX6 61 "LineCites$Spans" "at" "I") (List.mem_of_getElem? (i := 1) rfl)) (fun _ h9 => h9) rfl dX6_nextShift_1 ?_
  refine lv_sipush (v := 999) hx hb dX6_nextShift_4 (by decide) ?_
  refine pw_join (fun (_ : Unit) H locs ls => va_P D vwCl [(h0, .inr (6, [.ref u_z, .ref u_l, .ref u_g, .int v130, .int u_sf, .int u_sm, .int u_sl, .int u_sh])), (u_z, .inl (kI, 1000, .inl g_u_z)), (u_l, .inl (kI, 1000, .inl g_u_l)), (u_g, .inl (kI, 1000, .inl g_u_g))] H ∧ va_D A [(h0, .inr (6, [.ref u_z, .ref u_l, .ref u_g, .int v130, .int u_sf, .int u_sm, .int u_sl, .int u_sh])), (u_z, .inl (kI, 1000, .inl g_u_z)), (u_l, .inl (kI, 1000, .inl g_u_l)), (u_g, .inl (kI, 1000, .inl g_u_g))] ∧ va_S A s.heap H locs ∧ lv_has ls 1 [(0, .ref h0)]) 0 0 (fun (_ : Unit) ls => F0 m 34 ls []) (fun _ H locs ls hI => ?_) (fun hJ136 => ?_)
  ·
    obtain ⟨hP, hD, hS, hl⟩ := hI
    have hP : va_P D vwCl [(h0, .inr (6, [.ref u_z, .ref u_l, .ref u_g, .int v130, .int u_sf, .int u_sm, .int u_sl, .int u_sh])), (u_z, .inl (kI, 1000, .inl g_u_z)), (u_l, .inl (kI, 1000, .inl g_u_l)), (u_g, .inl (kI, 1000, .inl g_u_g))] H := hP
    have hD : va_D A [(h0, .inr (6, [.ref u_z, .ref u_l, .ref u_g, .int v130, .int u_sf, .int u_sm, .int u_sl, .int u_sh])), (u_z, .inl (kI, 1000, .inl g_u_z)), (u_l, .inl (kI, 1000, .inl g_u_l)), (u_g, .inl (kI, 1000, .inl g_u_g))] := hD
    have hK : va_K D vwCl [(kI, .int)] s := hK
    have hl : lv_has ls 1 [(0, .ref h0)] := hl
    refine W.eq (g2 := F0 m 34 ls []) rfl ?_
    refine lv_aload_n hx hb dX6_nextShift_34 rfl (lv_at hl 0 rfl) ?_
    refine va_get (D := D) (ci := 6) (v := .int v130) (C := RX6) (T := TX6) (N := 8) hx hb hts (fun _ h => List.mem_cons_of_mem _ (List.mem_append_right _ h)) hown hK hP 0 rfl rfl 3 (by decide) (hts (.fieldLink RX6 61 "LineCites$Spans" "at" "I") (List.mem_of_getElem? (i := 1) rfl)) (fun _ h9 => h9) rfl dX6_nextShift_35 ?_
    refine lv_sipush (v := 999) hx hb dX6_nextShift_38 (by decide) ?_
    refine lv_icmp_le (tgt := 46) hx hb dX6_nextShift_41 (by decide) (fun c137 => ?_) (fun c137 => ?_)
    · have nc137 : v130.toInt ≤ 999 := pw_le c137 rfl (by decide)
      refine lv_aload_n hx hb dX6_nextShift_46 rfl (lv_at hl 0 rfl) ?_
      refine lv_aload_n hx hb dX6_nextShift_47 rfl (lv_at hl 0 rfl) ?_
      refine va_get (D := D) (ci := 6) (v := .int v130) (C := RX6) (T := TX6) (N := 8) hx hb hts (fun _ h => List.mem_cons_of_mem _ (List.mem_append_right _ h)) hown hK hP 0 rfl rfl 3 (by decide) (hts (.fieldLink RX6 61 "LineCites$Spans" "at" "I") (List.mem_of_getElem? (i := 1) rfl)) (fun _ h9 => h9) rfl dX6_nextShift_48 ?_
      refine va_put (D := D) (ci := 6) (v := .int v130) (ty := .int) (C := RX6) (T := TX6) (N := 8) hx hb hts (fun _ h => List.mem_cons_of_mem _ (List.mem_append_right _ h)) tyX6 tyX6_ok nmX6 hown hK hP hD hS 0 rfl rfl 4 (by decide) (hts (.fieldLink RX6 65 "LineCites$Spans" "shiftFirst" "I") (List.mem_of_getElem? (i := 14) rfl)) (fun _ h9 => h9) rfl (by decide +kernel) rfl rfl (Nat.le_of_ble_eq_true rfl) dX6_nextShift_51 (fun H locs hP hD hS => ?_)
      have hP : va_P D vwCl [(h0, .inr (6, [.ref u_z, .ref u_l, .ref u_g, .int v130, .int v130, .int u_sm, .int u_sl, .int u_sh])), (u_z, .inl (kI, 1000, .inl g_u_z)), (u_l, .inl (kI, 1000, .inl g_u_l)), (u_g, .inl (kI, 1000, .inl g_u_g))] H := hP
      have hD : va_D A [(h0, .inr (6, [.ref u_z, .ref u_l, .ref u_g, .int v130, .int v130, .int u_sm, .int u_sl, .int u_sh])), (u_z, .inl (kI, 1000, .inl g_u_z)), (u_l, .inl (kI, 1000, .inl g_u_l)), (u_g, .inl (kI, 1000, .inl g_u_g))] := hD
      have hK : va_K D vwCl [(kI, .int)] s := hK
      refine lv_aload_n hx hb dX6_nextShift_54 rfl (lv_at hl 0 rfl) ?_
      refine lv_iconst (v := 0) hx hb dX6_nextShift_55 (by decide) ?_
      refine va_put (D := D) (ci := 6) (v := .int 0) (ty := .int) (C := RX6) (T := TX6) (N := 8) hx hb hts (fun _ h => List.mem_cons_of_mem _ (List.mem_append_right _ h)) tyX6 tyX6_ok nmX6 hown hK hP hD hS 0 rfl rfl 5 (by decide) (hts (.fieldLink RX6 68 "LineCites$Spans" "shiftMany" "I") (List.mem_of_getElem? (i := 15) rfl)) (fun _ h9 => h9) rfl (by decide +kernel) rfl rfl (Nat.le_of_ble_eq_true rfl) dX6_nextShift_56 (fun H locs hP hD hS => ?_)
      have hP : va_P D vwCl [(h0, .inr (6, [.ref u_z, .ref u_l, .ref u_g, .int v130, .int v130, .int 0, .int u_sl, .int u_sh])), (u_z, .inl (kI, 1000, .inl g_u_z)), (u_l, .inl (kI, 1000, .inl g_u_l)), (u_g, .inl (kI, 1000, .inl g_u_g))] H := hP
      have hD : va_D A [(h0, .inr (6, [.ref u_z, .ref u_l, .ref u_g, .int v130, .int v130, .int 0, .int u_sl, .int u_sh])), (u_z, .inl (kI, 1000, .inl g_u_z)), (u_l, .inl (kI, 1000, .inl g_u_l)), (u_g, .inl (kI, 1000, .inl g_u_g))] := hD
      have hK : va_K D vwCl [(kI, .int)] s := hK
      refine lv_aload_n hx hb dX6_nextShift_59 rfl (lv_at hl 0 rfl) ?_
      refine lv_sipush (v := (-999)) hx hb dX6_nextShift_60 (by decide) ?_
      refine va_put (D := D) (ci := 6) (v := .int (-999)) (ty := .int) (C := RX6) (T := TX6) (N := 8) hx hb hts (fun _ h => List.mem_cons_of_mem _ (List.mem_append_right _ h)) tyX6 tyX6_ok nmX6 hown hK hP hD hS 0 rfl rfl 6 (by decide) (hts (.fieldLink RX6 71 "LineCites$Spans" "shiftLow" "I") (List.mem_of_getElem? (i := 16) rfl)) (fun _ h9 => h9) rfl (by decide +kernel) rfl rfl (Nat.le_of_ble_eq_true rfl) dX6_nextShift_63 (fun H locs hP hD hS => ?_)
      have hP : va_P D vwCl [(h0, .inr (6, [.ref u_z, .ref u_l, .ref u_g, .int v130, .int v130, .int 0, .int (-999), .int u_sh])), (u_z, .inl (kI, 1000, .inl g_u_z)), (u_l, .inl (kI, 1000, .inl g_u_l)), (u_g, .inl (kI, 1000, .inl g_u_g))] H := hP
      have hD : va_D A [(h0, .inr (6, [.ref u_z, .ref u_l, .ref u_g, .int v130, .int v130, .int 0, .int (-999), .int u_sh])), (u_z, .inl (kI, 1000, .inl g_u_z)), (u_l, .inl (kI, 1000, .inl g_u_l)), (u_g, .inl (kI, 1000, .inl g_u_g))] := hD
      have hK : va_K D vwCl [(kI, .int)] s := hK
      refine lv_aload_n hx hb dX6_nextShift_66 rfl (lv_at hl 0 rfl) ?_
      refine lv_sipush (v := 999) hx hb dX6_nextShift_67 (by decide) ?_
      refine va_put (D := D) (ci := 6) (v := .int 999) (ty := .int) (C := RX6) (T := TX6) (N := 8) hx hb hts (fun _ h => List.mem_cons_of_mem _ (List.mem_append_right _ h)) tyX6 tyX6_ok nmX6 hown hK hP hD hS 0 rfl rfl 7 (by decide) (hts (.fieldLink RX6 74 "LineCites$Spans" "shiftHigh" "I") (List.mem_of_getElem? (i := 17) rfl)) (fun _ h9 => h9) rfl (by decide +kernel) rfl rfl (Nat.le_of_ble_eq_true rfl) dX6_nextShift_70 (fun H locs hP hD hS => ?_)
      have hP : va_P D vwCl [(h0, .inr (6, [.ref u_z, .ref u_l, .ref u_g, .int v130, .int v130, .int 0, .int (-999), .int 999])), (u_z, .inl (kI, 1000, .inl g_u_z)), (u_l, .inl (kI, 1000, .inl g_u_l)), (u_g, .inl (kI, 1000, .inl g_u_g))] H := hP
      have hD : va_D A [(h0, .inr (6, [.ref u_z, .ref u_l, .ref u_g, .int v130, .int v130, .int 0, .int (-999), .int 999])), (u_z, .inl (kI, 1000, .inl g_u_z)), (u_l, .inl (kI, 1000, .inl g_u_l)), (u_g, .inl (kI, 1000, .inl g_u_g))] := hD
      have hK : va_K D vwCl [(kI, .int)] s := hK
      have hl9 : lv_has ls 1 [(0, .ref h0)] := lv_sub hl [0] rfl
      refine pw_loop (fun (zz : Int32 × Int32 × Int32 × Int32) H locs ls => match zz with | (v169, v170, v171, v172) => va_P D vwCl [(h0, .inr (6, [.ref u_z, .ref u_l, .ref u_g, .int v169, .int v130, .int v170, .int v171, .int v172])), (u_z, .inl (kI, 1000, .inl g_u_z)), (u_l, .inl (kI, 1000, .inl g_u_l)), (u_g, .inl (kI, 1000, .inl g_u_g))] H ∧ va_D A [(h0, .inr (6, [.ref u_z, .ref u_l, .ref u_g, .int v169, .int v130, .int v170, .int v171, .int v172])), (u_z, .inl (kI, 1000, .inl g_u_z)), (u_l, .inl (kI, 1000, .inl g_u_l)), (u_g, .inl (kI, 1000, .inl g_u_g))] ∧ va_S A s.heap H locs ∧ lv_has ls 1 [(0, .ref h0)]) (fun (zz : Int32 × Int32 × Int32 × Int32)  => match zz with | (v169, v170, v171, v172) => (2147483648 - v169.toInt).toNat) 0 0 (fun (zz : Int32 × Int32 × Int32 × Int32) ls => match zz with | (v169, v170, v171, v172) => F0 m 73 ls []) (fun zz H locs ls ih173 hI => ?_) (v130, 0, (-999), 999) _ _ _ ⟨hP, hD, hS, hl9⟩
      obtain ⟨v169, v170, v171, v172⟩ := zz
      obtain ⟨hP, hD, hS, hl⟩ := hI
      have hP : va_P D vwCl [(h0, .inr (6, [.ref u_z, .ref u_l, .ref u_g, .int v169, .int v130, .int v170, .int v171, .int v172])), (u_z, .inl (kI, 1000, .inl g_u_z)), (u_l, .inl (kI, 1000, .inl g_u_l)), (u_g, .inl (kI, 1000, .inl g_u_g))] H := hP
      have hD : va_D A [(h0, .inr (6, [.ref u_z, .ref u_l, .ref u_g, .int v169, .int v130, .int v170, .int v171, .int v172])), (u_z, .inl (kI, 1000, .inl g_u_z)), (u_l, .inl (kI, 1000, .inl g_u_l)), (u_g, .inl (kI, 1000, .inl g_u_g))] := hD
      have hK : va_K D vwCl [(kI, .int)] s := hK
      have hl : lv_has ls 1 [(0, .ref h0)] := hl
      refine W.eq (g2 := F0 m 73 ls []) rfl ?_
      refine lv_aload_n hx hb dX6_nextShift_73 rfl (lv_at hl 0 rfl) ?_
      refine va_get (D := D) (ci := 6) (v := .int v169) (C := RX6) (T := TX6) (N := 8) hx hb hts (fun _ h => List.mem_cons_of_mem _ (List.mem_append_right _ h)) hown hK hP 0 rfl rfl 3 (by decide) (hts (.fieldLink RX6 61 "LineCites$Spans" "at" "I") (List.mem_of_getElem? (i := 1) rfl)) (fun _ h9 => h9) rfl dX6_nextShift_74 ?_
      refine lv_sipush (v := 999) hx hb dX6_nextShift_77 (by decide) ?_
      refine pw_join (fun (zz : Int32 × Int32 × Int32) H locs ls => match zz with | (v181, v182, v183) => va_P D vwCl [(h0, .inr (6, [.ref u_z, .ref u_l, .ref u_g, .int v169, .int v130, .int v181, .int v182, .int v183])), (u_z, .inl (kI, 1000, .inl g_u_z)), (u_l, .inl (kI, 1000, .inl g_u_l)), (u_g, .inl (kI, 1000, .inl g_u_g))] H ∧ va_D A [(h0, .inr (6, [.ref u_z, .ref u_l, .ref u_g, .int v169, .int v130, .int v181, .int v182, .int v183])), (u_z, .inl (kI, 1000, .inl g_u_z)), (u_l, .inl (kI, 1000, .inl g_u_l)), (u_g, .inl (kI, 1000, .inl g_u_g))] ∧ va_S A s.heap H locs ∧ lv_has ls 1 [(0, .ref h0)]) 0 0 (fun (zz : Int32 × Int32 × Int32) ls => match zz with | (v181, v182, v183) => F0 m 107 ls []) (fun zz H locs ls hI => ?_) (fun hJ184 => ?_)
      ·
        obtain ⟨v181, v182, v183⟩ := zz
        obtain ⟨hP, hD, hS, hl⟩ := hI
        have hP : va_P D vwCl [(h0, .inr (6, [.ref u_z, .ref u_l, .ref u_g, .int v169, .int v130, .int v181, .int v182, .int v183])), (u_z, .inl (kI, 1000, .inl g_u_z)), (u_l, .inl (kI, 1000, .inl g_u_l)), (u_g, .inl (kI, 1000, .inl g_u_g))] H := hP
        have hD : va_D A [(h0, .inr (6, [.ref u_z, .ref u_l, .ref u_g, .int v169, .int v130, .int v181, .int v182, .int v183])), (u_z, .inl (kI, 1000, .inl g_u_z)), (u_l, .inl (kI, 1000, .inl g_u_l)), (u_g, .inl (kI, 1000, .inl g_u_g))] := hD
        have hK : va_K D vwCl [(kI, .int)] s := hK
        have hl : lv_has ls 1 [(0, .ref h0)] := hl
        refine W.eq (g2 := F0 m 107 ls []) rfl ?_
        refine lv_iconst (v := 1) hx hb dX6_nextShift_107 (by decide) ?_
        have hP9 := hP.sub (ws' := [(h0, .inr (6, [.ref u_z, .ref u_l, .ref u_g, .int v169, .int v130, .int v181, .int v182, .int v183])), (u_z, .inl (kI, 1000, .inl g_u_z)), (u_l, .inl (kI, 1000, .inl g_u_l)), (u_g, .inl (kI, 1000, .inl g_u_g))]) [0, 1, 2, 3] rfl
        have hD9 := hD.sub (ws' := [(h0, .inr (6, [.ref u_z, .ref u_l, .ref u_g, .int v169, .int v130, .int v181, .int v182, .int v183])), (u_z, .inl (kI, 1000, .inl g_u_z)), (u_l, .inl (kI, 1000, .inl g_u_l)), (u_g, .inl (kI, 1000, .inl g_u_g))]) [0, 1, 2, 3] (by decide) rfl
        have hK9 := hK.sub (tys' := [(kI, .int)]) [0] rfl
        refine W.widen (k := 0) (n := 0) (Nat.le_of_ble_eq_true rfl) (Nat.le_of_ble_eq_true rfl) ?_
        exact W.zret (v := 1) (ty := .boolean) hx hb hr rfl (fun t ht hW => ⟨⟨1, (), rfl, ⟨Or.inr rfl, trivial⟩, v169, v130, v181, v182, v183, by rw [ht]; exact hP9, va_K.moved hW.alike hK9, hD9⟩, hS.F ht⟩) hS.2.2 dX6_nextShift_108
      ·
        refine lv_icmp_gt (tgt := 107) hx hb dX6_nextShift_80 (by decide) (fun c185 => ?_) (fun c185 => ?_)
        · have nc185 : 999 < v169.toInt := pw_lt c185 (by decide) rfl
          have hP9 : va_P D vwCl [(h0, .inr (6, [.ref u_z, .ref u_l, .ref u_g, .int v169, .int v130, .int v170, .int v171, .int v172])), (u_z, .inl (kI, 1000, .inl g_u_z)), (u_l, .inl (kI, 1000, .inl g_u_l)), (u_g, .inl (kI, 1000, .inl g_u_g))] H := hP.sub [0, 1, 2, 3] rfl
          have hD9 : va_D A [(h0, .inr (6, [.ref u_z, .ref u_l, .ref u_g, .int v169, .int v130, .int v170, .int v171, .int v172])), (u_z, .inl (kI, 1000, .inl g_u_z)), (u_l, .inl (kI, 1000, .inl g_u_l)), (u_g, .inl (kI, 1000, .inl g_u_g))] := hD.sub [0, 1, 2, 3] (by decide) rfl
          have hl9 : lv_has ls 1 [(0, .ref h0)] := lv_sub hl [0] rfl
          refine W.widen (k := 0) (n := 0) (Nat.le_of_ble_eq_true rfl) (Nat.le_of_ble_eq_true rfl) ?_
          exact hJ184 (v170, v171, v172) _ _ _ ⟨hP9, hD9, hS, hl9⟩
        · have nc185 : v169.toInt ≤ 999 := pw_nlt c185 (by decide) rfl
          refine lv_aload_n hx hb dX6_nextShift_83 rfl (lv_at hl 0 rfl) ?_
          refine lv_aload_n hx hb dX6_nextShift_84 rfl (lv_at hl 0 rfl) ?_
          refine va_get (D := D) (ci := 6) (v := .int v169) (C := RX6) (T := TX6) (N := 8) hx hb hts (fun _ h => List.mem_cons_of_mem _ (List.mem_append_right _ h)) hown hK hP 0 rfl rfl 3 (by decide) (hts (.fieldLink RX6 61 "LineCites$Spans" "at" "I") (List.mem_of_getElem? (i := 1) rfl)) (fun _ h9 => h9) rfl dX6_nextShift_85 ?_
          have hPc := hP.sub (ws' := [(h0, .inr (6, [.ref u_z, .ref u_l, .ref u_g, .int v169, .int v130, .int v170, .int v171, .int v172])), (u_z, .inl (kI, 1000, .inl g_u_z)), (u_l, .inl (kI, 1000, .inl g_u_l)), (u_g, .inl (kI, 1000, .inl g_u_g))]) [0, 1, 2, 3] rfl
          have hKc := hK.sub (tys' := [(kI, .int)]) [0] rfl
          have hDc := hD.sub (ws' := [(h0, .inr (6, [.ref u_z, .ref u_l, .ref u_g, .int v169, .int v130, .int v170, .int v171, .int v172])), (u_z, .inl (kI, 1000, .inl g_u_z)), (u_l, .inl (kI, 1000, .inl g_u_l)), (u_g, .inl (kI, 1000, .inl g_u_g))]) [0, 1, 2, 3] (by decide) rfl
          have hFc := va_free (wc := [(h0, .inr (6, [.ref u_z, .ref u_l, .ref u_g, .int v169, .int v130, .int v170, .int v171, .int v172])), (u_z, .inl (kI, 1000, .inl g_u_z)), (u_l, .inl (kI, 1000, .inl g_u_l)), (u_g, .inl (kI, 1000, .inl g_u_g))]) hD hS hA [0, 1, 2, 3] rfl
          refine va_calli (va_runV (As := [.int v169]) (rest := []) ⟨hx, hb, hml, hown, hts⟩ (c_X6_joinsShift l D h0 v169 u_z u_l u_g v169 v130 v170 v171 v172 kI g_u_z g_u_l g_u_g H.size) (cwV 1 hts g_X6_nextShift_X6_joinsShift rfl rfl rfl (by decide +kernel) ⟨Nat.le_of_ble_eq_true rfl, Nat.le_of_ble_eq_true rfl⟩) ⟨fun a U g mk q => by obtain ⟨q0, q1, qP, qK, qD⟩ := q; exact ⟨q0, q1, qP, va_K.moved (u := U) (U := U.calling g mk a) (Vm.Alike.refl U.vm) qK, qD⟩, va_recv hKc hPc (ci := 6) (q0 := 0) rfl rfl, fun U hU hW => ⟨rfl, by rw [hU], by rw [hU]; exact hPc, va_K.moved hW.alike hKc, hDc.weaken (fun _ _ _ _ => trivial)⟩⟩ rfl rfl hl.1 rfl (lv_room (Nat.le_of_ble_eq_true rfl)) dX6_nextShift_88 ⟨Nat.le_of_ble_eq_true rfl, Nat.le_of_ble_eq_true rfl⟩) hS (fun q _ h => hFc q h) hFc (fun r186 u t H1 locs ht hvm hw hB hz1 hk1 hS => ?_)
          obtain ⟨y187, y188, y189, hP1, hK1, hD1⟩ := hB
          rw [ht] at hP1
          have hK1 := va_K.moved hvm.symm hK1
          obtain ⟨hP, hD⟩ := va_join (wr := []) (w1 := [(h0, .inr (6, [.ref u_z, .ref u_l, .ref u_g, .int v169, .int v130, .int y187, .int y188, .int y189])), (u_z, .inl (kI, 1000, .inl g_u_z)), (u_l, .inl (kI, 1000, .inl g_u_l)), (u_g, .inl (kI, 1000, .inl g_u_g))]) hP hD [0, 1, 2, 3] [] rfl rfl (by decide) (by decide) hk1 hFc hP1 hD1
          have hK := (hK.sub (tys' := [(kI, .int)]) [0] rfl).app hK1
          generalize H1 = H at hP hS ⊢
          have hP : va_P D vwCl [(h0, .inr (6, [.ref u_z, .ref u_l, .ref u_g, .int v169, .int v130, .int y187, .int y188, .int y189])), (u_z, .inl (kI, 1000, .inl g_u_z)), (u_l, .inl (kI, 1000, .inl g_u_l)), (u_g, .inl (kI, 1000, .inl g_u_g))] H := hP
          have hD : va_D A [(h0, .inr (6, [.ref u_z, .ref u_l, .ref u_g, .int v169, .int v130, .int y187, .int y188, .int y189])), (u_z, .inl (kI, 1000, .inl g_u_z)), (u_l, .inl (kI, 1000, .inl g_u_l)), (u_g, .inl (kI, 1000, .inl g_u_g))] := hD
          have hK : va_K D vwCl [(kI, .int), (kI, .int)] s := hK
          refine W.widen (k := 0) (n := 0) (Nat.le_of_ble_eq_true rfl) (Nat.le_of_ble_eq_true rfl) ?_
          have bor186 := hw.1
          have zor186 := pw_boolI bor186
          refine lv_if_eq (tgt := 107) hx hb dX6_nextShift_91 (by decide) (fun c190 => ?_) (fun c190 => ?_)
          · have nc190 : r186.toInt = 0 := pw_eq c190 rfl (by decide)
            have hP9 : va_P D vwCl [(h0, .inr (6, [.ref u_z, .ref u_l, .ref u_g, .int v169, .int v130, .int y187, .int y188, .int y189])), (u_z, .inl (kI, 1000, .inl g_u_z)), (u_l, .inl (kI, 1000, .inl g_u_l)), (u_g, .inl (kI, 1000, .inl g_u_g))] H := hP.sub [0, 1, 2, 3] rfl
            have hD9 : va_D A [(h0, .inr (6, [.ref u_z, .ref u_l, .ref u_g, .int v169, .int v130, .int y187, .int y188, .int y189])), (u_z, .inl (kI, 1000, .inl g_u_z)), (u_l, .inl (kI, 1000, .inl g_u_l)), (u_g, .inl (kI, 1000, .inl g_u_g))] := hD.sub [0, 1, 2, 3] (by decide) rfl
            have hl9 : lv_has ls 1 [(0, .ref h0)] := lv_sub hl [0] rfl
            refine W.widen (k := 0) (n := 0) (Nat.le_of_ble_eq_true rfl) (Nat.le_of_ble_eq_true rfl) ?_
            exact hJ184 (y187, y188, y189) _ _ _ ⟨hP9, hD9, hS, hl9⟩
          · have nc190 : r186.toInt ≠ 0 := pw_ne c190 rfl (by decide)
            refine lv_aload_n hx hb dX6_nextShift_94 rfl (lv_at hl 0 rfl) ?_
            refine lv_dup hx hb dX6_nextShift_95 rfl ?_
            refine va_get (D := D) (ci := 6) (v := .int v169) (C := RX6) (T := TX6) (N := 8) hx hb hts (fun _ h => List.mem_cons_of_mem _ (List.mem_append_right _ h)) hown hK hP 0 rfl rfl 3 (by decide) (hts (.fieldLink RX6 61 "LineCites$Spans" "at" "I") (List.mem_of_getElem? (i := 1) rfl)) (fun _ h9 => h9) rfl dX6_nextShift_96 ?_
            refine lv_iconst (v := 1) hx hb dX6_nextShift_99 (by decide) ?_
            refine lv_iadd hx hb dX6_nextShift_100 ?_
            refine lv_topi (fun x191 ex191 => ?_)
            have tx191 : x191.toInt = v169.toInt + 1 := pw_addX ex191 rfl (by decide) (by have h9 := pw_min v169; have h8 := pw_max v169; omega) (by have h9 := pw_min v169; have h8 := pw_max v169; omega)
            refine va_put (D := D) (ci := 6) (v := .int x191) (ty := .int) (C := RX6) (T := TX6) (N := 8) hx hb hts (fun _ h => List.mem_cons_of_mem _ (List.mem_append_right _ h)) tyX6 tyX6_ok nmX6 hown hK hP hD hS 0 rfl rfl 3 (by decide) (hts (.fieldLink RX6 61 "LineCites$Spans" "at" "I") (List.mem_of_getElem? (i := 1) rfl)) (fun _ h9 => h9) rfl (by decide +kernel) rfl rfl (Nat.le_of_ble_eq_true rfl) dX6_nextShift_101 (fun H locs hP hD hS => ?_)
            have hP : va_P D vwCl [(h0, .inr (6, [.ref u_z, .ref u_l, .ref u_g, .int x191, .int v130, .int y187, .int y188, .int y189])), (u_z, .inl (kI, 1000, .inl g_u_z)), (u_l, .inl (kI, 1000, .inl g_u_l)), (u_g, .inl (kI, 1000, .inl g_u_g))] H := hP
            have hD : va_D A [(h0, .inr (6, [.ref u_z, .ref u_l, .ref u_g, .int x191, .int v130, .int y187, .int y188, .int y189])), (u_z, .inl (kI, 1000, .inl g_u_z)), (u_l, .inl (kI, 1000, .inl g_u_l)), (u_g, .inl (kI, 1000, .inl g_u_g))] := hD
            have hK : va_K D vwCl [(kI, .int), (kI, .int)] s := hK
            refine lv_goto (tgt := 73) hx hb dX6_nextShift_104 (by decide) ?_
            have hP9 : va_P D vwCl [(h0, .inr (6, [.ref u_z, .ref u_l, .ref u_g, .int x191, .int v130, .int y187, .int y188, .int y189])), (u_z, .inl (kI, 1000, .inl g_u_z)), (u_l, .inl (kI, 1000, .inl g_u_l)), (u_g, .inl (kI, 1000, .inl g_u_g))] H := hP.sub [0, 1, 2, 3] rfl
            have hD9 : va_D A [(h0, .inr (6, [.ref u_z, .ref u_l, .ref u_g, .int x191, .int v130, .int y187, .int y188, .int y189])), (u_z, .inl (kI, 1000, .inl g_u_z)), (u_l, .inl (kI, 1000, .inl g_u_l)), (u_g, .inl (kI, 1000, .inl g_u_g))] := hD.sub [0, 1, 2, 3] (by decide) rfl
            have hl9 : lv_has ls 1 [(0, .ref h0)] := lv_sub hl [0] rfl
            refine W.widen (k := 0) (n := 0) (Nat.le_of_ble_eq_true rfl) (Nat.le_of_ble_eq_true rfl) ?_
            exact ih173 (x191, y187, y188, y189) _ _ _ (pw_up ex191 (by omega)) ⟨hP9, hD9, hS, hl9⟩
    · have nc137 : 999 < v130.toInt := pw_nle c137 rfl (by decide)
      refine lv_iconst (v := 0) hx hb dX6_nextShift_44 (by decide) ?_
      have hP9 := hP.sub (ws' := [(h0, .inr (6, [.ref u_z, .ref u_l, .ref u_g, .int v130, .int u_sf, .int u_sm, .int u_sl, .int u_sh])), (u_z, .inl (kI, 1000, .inl g_u_z)), (u_l, .inl (kI, 1000, .inl g_u_l)), (u_g, .inl (kI, 1000, .inl g_u_g))]) [0, 1, 2, 3] rfl
      have hD9 := hD.sub (ws' := [(h0, .inr (6, [.ref u_z, .ref u_l, .ref u_g, .int v130, .int u_sf, .int u_sm, .int u_sl, .int u_sh])), (u_z, .inl (kI, 1000, .inl g_u_z)), (u_l, .inl (kI, 1000, .inl g_u_l)), (u_g, .inl (kI, 1000, .inl g_u_g))]) [0, 1, 2, 3] (by decide) rfl
      have hK9 := hK.sub (tys' := [(kI, .int)]) [0] rfl
      refine W.widen (k := 0) (n := 0) (Nat.le_of_ble_eq_true rfl) (Nat.le_of_ble_eq_true rfl) ?_
      exact W.zret (v := 0) (ty := .boolean) hx hb hr rfl (fun t ht hW => ⟨⟨0, (), rfl, ⟨Or.inl rfl, trivial⟩, v130, u_sf, u_sm, u_sl, u_sh, by rw [ht]; exact hP9, va_K.moved hW.alike hK9, hD9⟩, hS.F ht⟩) hS.2.2 dX6_nextShift_45
  ·
    refine lv_icmp_gt (tgt := 34) hx hb dX6_nextShift_7 (by decide) (fun c192 => ?_) (fun c192 => ?_)
    · have nc192 : 999 < v130.toInt := pw_lt c192 (by decide) rfl
      have hP9 : va_P D vwCl [(h0, .inr (6, [.ref u_z, .ref u_l, .ref u_g, .int v130, .int u_sf, .int u_sm, .int u_sl, .int u_sh])), (u_z, .inl (kI, 1000, .inl g_u_z)), (u_l, .inl (kI, 1000, .inl g_u_l)), (u_g, .inl (kI, 1000, .inl g_u_g))] H := hP.sub [0, 1, 2, 3] rfl
      have hD9 : va_D A [(h0, .inr (6, [.ref u_z, .ref u_l, .ref u_g, .int v130, .int u_sf, .int u_sm, .int u_sl, .int u_sh])), (u_z, .inl (kI, 1000, .inl g_u_z)), (u_l, .inl (kI, 1000, .inl g_u_l)), (u_g, .inl (kI, 1000, .inl g_u_g))] := hD.sub [0, 1, 2, 3] (by decide) rfl
      have hl9 : lv_has ls 1 [(0, .ref h0)] := lv_sub hl [0] rfl
      refine W.widen (k := 0) (n := 0) (Nat.le_of_ble_eq_true rfl) (Nat.le_of_ble_eq_true rfl) ?_
      exact hJ136 () _ _ _ ⟨hP9, hD9, hS, hl9⟩
    · have nc192 : v130.toInt ≤ 999 := pw_nlt c192 (by decide) rfl
      refine lv_aload_n hx hb dX6_nextShift_10 rfl (lv_at hl 0 rfl) ?_
      refine lv_aload_n hx hb dX6_nextShift_11 rfl (lv_at hl 0 rfl) ?_
      refine va_get (D := D) (ci := 6) (v := .int v130) (C := RX6) (T := TX6) (N := 8) hx hb hts (fun _ h => List.mem_cons_of_mem _ (List.mem_append_right _ h)) hown hK hP 0 rfl rfl 3 (by decide) (hts (.fieldLink RX6 61 "LineCites$Spans" "at" "I") (List.mem_of_getElem? (i := 1) rfl)) (fun _ h9 => h9) rfl dX6_nextShift_12 ?_
      have hPc := hP.sub (ws' := [(h0, .inr (6, [.ref u_z, .ref u_l, .ref u_g, .int v130, .int u_sf, .int u_sm, .int u_sl, .int u_sh])), (u_z, .inl (kI, 1000, .inl g_u_z)), (u_l, .inl (kI, 1000, .inl g_u_l)), (u_g, .inl (kI, 1000, .inl g_u_g))]) [0, 1, 2, 3] rfl
      have hKc := hK.sub (tys' := [(kI, .int)]) [0] rfl
      refine va_calli (va_runV (As := [.int v130]) (rest := []) ⟨hx, hb, hml, hown, hts⟩ (c_X6_hasSome l D h0 v130 u_z u_l u_g v130 u_sf u_sm u_sl u_sh kI g_u_z g_u_l g_u_g) (cwV 1 hts g_X6_nextShift_X6_hasSome rfl rfl rfl (by decide +kernel) ⟨Nat.le_of_ble_eq_true rfl, Nat.le_of_ble_eq_true rfl⟩) ⟨fun a U g mk q => by obtain ⟨q0, qP, qK⟩ := q; exact ⟨q0, qP, va_K.moved (u := U) (U := U.calling g mk a) (Vm.Alike.refl U.vm) qK⟩, va_recv hKc hPc (ci := 6) (q0 := 0) rfl rfl, fun U hU hW => ⟨rfl, by rw [hU]; exact hPc, va_K.moved hW.alike hKc⟩⟩ rfl rfl hl.1 rfl (lv_room (Nat.le_of_ble_eq_true rfl)) dX6_nextShift_15 ⟨Nat.le_of_ble_eq_true rfl, Nat.le_of_ble_eq_true rfl⟩) hS (fun _ _ h => h.elim) (fun _ h => h.elim) (fun r193 u t H1 locs ht hvm hw hB hz1 hk1 hS => ?_)
      have hP := pw_keep hP (fun q hq => hk1 q hq (fun h => h))
      generalize H1 = H at hP hS ⊢
      refine W.widen (k := 0) (n := 0) (Nat.le_of_ble_eq_true rfl) (Nat.le_of_ble_eq_true rfl) ?_
      have bor193 := hw.1
      have zor193 := pw_boolI bor193
      have hfr193 := hw.2
      refine lv_if_ne (tgt := 34) hx hb dX6_nextShift_18 (by decide) (fun c194 => ?_) (fun c194 => ?_)
      · have nc194 : r193.toInt ≠ 0 := pw_ne c194 rfl (by decide)
        have hP9 : va_P D vwCl [(h0, .inr (6, [.ref u_z, .ref u_l, .ref u_g, .int v130, .int u_sf, .int u_sm, .int u_sl, .int u_sh])), (u_z, .inl (kI, 1000, .inl g_u_z)), (u_l, .inl (kI, 1000, .inl g_u_l)), (u_g, .inl (kI, 1000, .inl g_u_g))] H := hP.sub [0, 1, 2, 3] rfl
        have hD9 : va_D A [(h0, .inr (6, [.ref u_z, .ref u_l, .ref u_g, .int v130, .int u_sf, .int u_sm, .int u_sl, .int u_sh])), (u_z, .inl (kI, 1000, .inl g_u_z)), (u_l, .inl (kI, 1000, .inl g_u_l)), (u_g, .inl (kI, 1000, .inl g_u_g))] := hD.sub [0, 1, 2, 3] (by decide) rfl
        have hl9 : lv_has ls 1 [(0, .ref h0)] := lv_sub hl [0] rfl
        refine W.widen (k := 0) (n := 0) (Nat.le_of_ble_eq_true rfl) (Nat.le_of_ble_eq_true rfl) ?_
        exact hJ136 () _ _ _ ⟨hP9, hD9, hS, hl9⟩
      · have nc194 : r193.toInt = 0 := pw_eq c194 rfl (by decide)
        refine lv_aload_n hx hb dX6_nextShift_21 rfl (lv_at hl 0 rfl) ?_
        refine lv_dup hx hb dX6_nextShift_22 rfl ?_
        refine va_get (D := D) (ci := 6) (v := .int v130) (C := RX6) (T := TX6) (N := 8) hx hb hts (fun _ h => List.mem_cons_of_mem _ (List.mem_append_right _ h)) hown hK hP 0 rfl rfl 3 (by decide) (hts (.fieldLink RX6 61 "LineCites$Spans" "at" "I") (List.mem_of_getElem? (i := 1) rfl)) (fun _ h9 => h9) rfl dX6_nextShift_23 ?_
        refine lv_iconst (v := 1) hx hb dX6_nextShift_26 (by decide) ?_
        refine lv_iadd hx hb dX6_nextShift_27 ?_
        refine lv_topi (fun x195 ex195 => ?_)
        have tx195 : x195.toInt = v130.toInt + 1 := pw_addX ex195 rfl (by decide) (by have h9 := pw_min v130; have h8 := pw_max v130; omega) (by have h9 := pw_min v130; have h8 := pw_max v130; omega)
        refine va_put (D := D) (ci := 6) (v := .int x195) (ty := .int) (C := RX6) (T := TX6) (N := 8) hx hb hts (fun _ h => List.mem_cons_of_mem _ (List.mem_append_right _ h)) tyX6 tyX6_ok nmX6 hown hK hP hD hS 0 rfl rfl 3 (by decide) (hts (.fieldLink RX6 61 "LineCites$Spans" "at" "I") (List.mem_of_getElem? (i := 1) rfl)) (fun _ h9 => h9) rfl (by decide +kernel) rfl rfl (Nat.le_of_ble_eq_true rfl) dX6_nextShift_28 (fun H locs hP hD hS => ?_)
        have hP : va_P D vwCl [(h0, .inr (6, [.ref u_z, .ref u_l, .ref u_g, .int x195, .int u_sf, .int u_sm, .int u_sl, .int u_sh])), (u_z, .inl (kI, 1000, .inl g_u_z)), (u_l, .inl (kI, 1000, .inl g_u_l)), (u_g, .inl (kI, 1000, .inl g_u_g))] H := hP
        have hD : va_D A [(h0, .inr (6, [.ref u_z, .ref u_l, .ref u_g, .int x195, .int u_sf, .int u_sm, .int u_sl, .int u_sh])), (u_z, .inl (kI, 1000, .inl g_u_z)), (u_l, .inl (kI, 1000, .inl g_u_l)), (u_g, .inl (kI, 1000, .inl g_u_g))] := hD
        have hK : va_K D vwCl [(kI, .int)] s := hK
        refine lv_goto (tgt := 0) hx hb dX6_nextShift_31 (by decide) ?_
        have hP9 : va_P D vwCl [(h0, .inr (6, [.ref u_z, .ref u_l, .ref u_g, .int x195, .int u_sf, .int u_sm, .int u_sl, .int u_sh])), (u_z, .inl (kI, 1000, .inl g_u_z)), (u_l, .inl (kI, 1000, .inl g_u_l)), (u_g, .inl (kI, 1000, .inl g_u_g))] H := hP.sub [0, 1, 2, 3] rfl
        have hD9 : va_D A [(h0, .inr (6, [.ref u_z, .ref u_l, .ref u_g, .int x195, .int u_sf, .int u_sm, .int u_sl, .int u_sh])), (u_z, .inl (kI, 1000, .inl g_u_z)), (u_l, .inl (kI, 1000, .inl g_u_l)), (u_g, .inl (kI, 1000, .inl g_u_g))] := hD.sub [0, 1, 2, 3] (by decide) rfl
        have hl9 : lv_has ls 1 [(0, .ref h0)] := lv_sub hl [0] rfl
        refine W.widen (k := 0) (n := 0) (Nat.le_of_ble_eq_true rfl) (Nat.le_of_ble_eq_true rfl) ?_
        exact ih131 x195 _ _ _ (pw_up ex195 (by omega)) ⟨hP9, hD9, hS, hl9⟩
