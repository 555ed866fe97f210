theorem dX10_copies_0 : decode cX10_copies 0 = .ok (.iconst 0, 1) := by decide +kernel
theorem dX10_copies_1 : decode cX10_copies 1 = .ok (.istore 4, 2) := by decide +kernel
theorem dX10_copies_3 : decode cX10_copies 3 = .ok (.iload 4, 2) := by decide +kernel
theorem dX10_copies_5 : decode cX10_copies 5 = .ok (.sipush 192, 3) := by decide +kernel
theorem dX10_copies_8 : decode cX10_copies 8 = .ok (.if_icmp .ge 21, 3) := by decide +kernel
theorem dX10_copies_11 : decode cX10_copies 11 = .ok (.aload_n 2, 1) := by decide +kernel
theorem dX10_copies_12 : decode cX10_copies 12 = .ok (.iload_n 3, 1) := by decide +kernel
theorem dX10_copies_13 : decode cX10_copies 13 = .ok (.iload 4, 2) := by decide +kernel
theorem dX10_copies_15 : decode cX10_copies 15 = .ok (.iadd, 1) := by decide +kernel
theorem dX10_copies_16 : decode cX10_copies 16 = .ok (.aload_n 0, 1) := by decide +kernel
theorem dX10_copies_17 : decode cX10_copies 17 = .ok (.iload_n 1, 1) := by decide +kernel
theorem dX10_copies_18 : decode cX10_copies 18 = .ok (.iload 4, 2) := by decide +kernel
theorem dX10_copies_20 : decode cX10_copies 20 = .ok (.iadd, 1) := by decide +kernel
theorem dX10_copies_21 : decode cX10_copies 21 = .ok (.iaload, 1) := by decide +kernel
theorem dX10_copies_22 : decode cX10_copies 22 = .ok (.iastore, 1) := by decide +kernel
theorem dX10_copies_23 : decode cX10_copies 23 = .ok (.iinc 4 1, 3) := by decide +kernel
theorem dX10_copies_26 : decode cX10_copies 26 = .ok (.goto (-23), 3) := by decide +kernel
theorem dX10_copies_29 : decode cX10_copies 29 = .ok (.return_, 1) := by decide +kernel
theorem dX10_notes_0 : decode cX10_notes 0 = .ok (.aload_n 0, 1) := by decide +kernel
theorem dX10_notes_1 : decode cX10_notes 1 = .ok (.getfield 195, 3) := by decide +kernel
theorem dX10_notes_4 : decode cX10_notes 4 = .ok (.bipush 10, 2) := by decide +kernel
theorem dX10_notes_6 : decode cX10_notes 6 = .ok (.if_icmp .ne 44, 3) := by decide +kernel
theorem dX10_notes_9 : decode cX10_notes 9 = .ok (.iconst 0, 1) := by decide +kernel
theorem dX10_notes_10 : decode cX10_notes 10 = .ok (.istore_n 1, 1) := by decide +kernel
theorem dX10_notes_11 : decode cX10_notes 11 = .ok (.iload_n 1, 1) := by decide +kernel
theorem dX10_notes_12 : decode cX10_notes 12 = .ok (.sipush 1728, 3) := by decide +kernel
theorem dX10_notes_15 : decode cX10_notes 15 = .ok (.if_icmp .ge 25, 3) := by decide +kernel
theorem dX10_notes_18 : decode cX10_notes 18 = .ok (.aload_n 0, 1) := by decide +kernel
theorem dX10_notes_19 : decode cX10_notes 19 = .ok (.getfield 16, 3) := by decide +kernel
theorem dX10_notes_22 : decode cX10_notes 22 = .ok (.iload_n 1, 1) := by decide +kernel
theorem dX10_notes_23 : decode cX10_notes 23 = .ok (.aload_n 0, 1) := by decide +kernel
theorem dX10_notes_24 : decode cX10_notes 24 = .ok (.getfield 16, 3) := by decide +kernel
theorem dX10_notes_27 : decode cX10_notes 27 = .ok (.iload_n 1, 1) := by decide +kernel
theorem dX10_notes_28 : decode cX10_notes 28 = .ok (.sipush 192, 3) := by decide +kernel
theorem dX10_notes_31 : decode cX10_notes 31 = .ok (.iadd, 1) := by decide +kernel
theorem dX10_notes_32 : decode cX10_notes 32 = .ok (.iaload, 1) := by decide +kernel
theorem dX10_notes_33 : decode cX10_notes 33 = .ok (.iastore, 1) := by decide +kernel
theorem dX10_notes_34 : decode cX10_notes 34 = .ok (.iinc 1 1, 3) := by decide +kernel
theorem dX10_notes_37 : decode cX10_notes 37 = .ok (.goto (-26), 3) := by decide +kernel
theorem dX10_notes_40 : decode cX10_notes 40 = .ok (.aload_n 0, 1) := by decide +kernel
theorem dX10_notes_41 : decode cX10_notes 41 = .ok (.dup, 1) := by decide +kernel
theorem dX10_notes_42 : decode cX10_notes 42 = .ok (.getfield 195, 3) := by decide +kernel
theorem dX10_notes_45 : decode cX10_notes 45 = .ok (.iconst 1, 1) := by decide +kernel
theorem dX10_notes_46 : decode cX10_notes 46 = .ok (.isub, 1) := by decide +kernel
theorem dX10_notes_47 : decode cX10_notes 47 = .ok (.putfield 195, 3) := by decide +kernel
theorem dX10_notes_50 : decode cX10_notes 50 = .ok (.aload_n 0, 1) := by decide +kernel
theorem dX10_notes_51 : decode cX10_notes 51 = .ok (.getfield 7, 3) := by decide +kernel
theorem dX10_notes_54 : decode cX10_notes 54 = .ok (.iconst 0, 1) := by decide +kernel
theorem dX10_notes_55 : decode cX10_notes 55 = .ok (.aload_n 0, 1) := by decide +kernel
theorem dX10_notes_56 : decode cX10_notes 56 = .ok (.getfield 16, 3) := by decide +kernel
theorem dX10_notes_59 : decode cX10_notes 59 = .ok (.sipush 192, 3) := by decide +kernel
theorem dX10_notes_62 : decode cX10_notes 62 = .ok (.aload_n 0, 1) := by decide +kernel
theorem dX10_notes_63 : decode cX10_notes 63 = .ok (.getfield 195, 3) := by decide +kernel
theorem dX10_notes_66 : decode cX10_notes 66 = .ok (.imul, 1) := by decide +kernel
theorem dX10_notes_67 : decode cX10_notes 67 = .ok (.invokestatic 191, 3) := by decide +kernel
theorem dX10_notes_70 : decode cX10_notes 70 = .ok (.aload_n 0, 1) := by decide +kernel
theorem dX10_notes_71 : decode cX10_notes 71 = .ok (.dup, 1) := by decide +kernel
theorem dX10_notes_72 : decode cX10_notes 72 = .ok (.getfield 195, 3) := by decide +kernel
theorem dX10_notes_75 : decode cX10_notes 75 = .ok (.iconst 1, 1) := by decide +kernel
theorem dX10_notes_76 : decode cX10_notes 76 = .ok (.iadd, 1) := by decide +kernel
theorem dX10_notes_77 : decode cX10_notes 77 = .ok (.putfield 195, 3) := by decide +kernel
theorem dX10_notes_80 : decode cX10_notes 80 = .ok (.return_, 1) := by decide +kernel
theorem dX10_undo_0 : decode cX10_undo 0 = .ok (.aload_n 0, 1) := by decide +kernel
theorem dX10_undo_1 : decode cX10_undo 1 = .ok (.getfield 195, 3) := by decide +kernel
theorem dX10_undo_4 : decode cX10_undo 4 = .ok (.ifCond .ne 6, 3) := by decide +kernel
theorem dX10_undo_7 : decode cX10_undo 7 = .ok (.ldc 198, 2) := by decide +kernel
theorem dX10_undo_9 : decode cX10_undo 9 = .ok (.ireturn, 1) := by decide +kernel
theorem dX10_undo_10 : decode cX10_undo 10 = .ok (.aload_n 0, 1) := by decide +kernel
theorem dX10_undo_11 : decode cX10_undo 11 = .ok (.dup, 1) := by decide +kernel
theorem dX10_undo_12 : decode cX10_undo 12 = .ok (.getfield 195, 3) := by decide +kernel
theorem dX10_undo_15 : decode cX10_undo 15 = .ok (.iconst 1, 1) := by decide +kernel
theorem dX10_undo_16 : decode cX10_undo 16 = .ok (.isub, 1) := by decide +kernel
theorem dX10_undo_17 : decode cX10_undo 17 = .ok (.putfield 195, 3) := by decide +kernel
theorem dX10_undo_20 : decode cX10_undo 20 = .ok (.aload_n 0, 1) := by decide +kernel
theorem dX10_undo_21 : decode cX10_undo 21 = .ok (.getfield 16, 3) := by decide +kernel
theorem dX10_undo_24 : decode cX10_undo 24 = .ok (.sipush 192, 3) := by decide +kernel
theorem dX10_undo_27 : decode cX10_undo 27 = .ok (.aload_n 0, 1) := by decide +kernel
theorem dX10_undo_28 : decode cX10_undo 28 = .ok (.getfield 195, 3) := by decide +kernel
theorem dX10_undo_31 : decode cX10_undo 31 = .ok (.imul, 1) := by decide +kernel
theorem dX10_undo_32 : decode cX10_undo 32 = .ok (.aload_n 0, 1) := by decide +kernel
theorem dX10_undo_33 : decode cX10_undo 33 = .ok (.getfield 7, 3) := by decide +kernel
theorem dX10_undo_36 : decode cX10_undo 36 = .ok (.iconst 0, 1) := by decide +kernel
theorem dX10_undo_37 : decode cX10_undo 37 = .ok (.invokestatic 191, 3) := by decide +kernel
theorem dX10_undo_40 : decode cX10_undo 40 = .ok (.aload_n 0, 1) := by decide +kernel
theorem dX10_undo_41 : decode cX10_undo 41 = .ok (.getfield 195, 3) := by decide +kernel
theorem dX10_undo_44 : decode cX10_undo 44 = .ok (.ireturn, 1) := by decide +kernel
theorem dX10_puts_0 : decode cX10_puts 0 = .ok (.bipush 8, 2) := by decide +kernel
theorem dX10_puts_2 : decode cX10_puts 2 = .ok (.bipush 24, 2) := by decide +kernel
theorem dX10_puts_4 : decode cX10_puts 4 = .ok (.iload_n 1, 1) := by decide +kernel
theorem dX10_puts_5 : decode cX10_puts 5 = .ok (.imul, 1) := by decide +kernel
theorem dX10_puts_6 : decode cX10_puts 6 = .ok (.iadd, 1) := by decide +kernel
theorem dX10_puts_7 : decode cX10_puts 7 = .ok (.iconst 4, 1) := by decide +kernel
theorem dX10_puts_8 : decode cX10_puts 8 = .ok (.aload_n 0, 1) := by decide +kernel
theorem dX10_puts_9 : decode cX10_puts 9 = .ok (.iconst 3, 1) := by decide +kernel
theorem dX10_puts_10 : decode cX10_puts 10 = .ok (.iload_n 1, 1) := by decide +kernel
theorem dX10_puts_11 : decode cX10_puts 11 = .ok (.iadd, 1) := by decide +kernel
theorem dX10_puts_12 : decode cX10_puts 12 = .ok (.iaload, 1) := by decide +kernel
theorem dX10_puts_13 : decode cX10_puts 13 = .ok (.imul, 1) := by decide +kernel
theorem dX10_puts_14 : decode cX10_puts 14 = .ok (.iadd, 1) := by decide +kernel
theorem dX10_puts_15 : decode cX10_puts 15 = .ok (.istore 6, 2) := by decide +kernel
theorem dX10_puts_17 : decode cX10_puts 17 = .ok (.aload_n 0, 1) := by decide +kernel
theorem dX10_puts_18 : decode cX10_puts 18 = .ok (.iload 6, 2) := by decide +kernel
theorem dX10_puts_20 : decode cX10_puts 20 = .ok (.iload_n 2, 1) := by decide +kernel
theorem dX10_puts_21 : decode cX10_puts 21 = .ok (.iastore, 1) := by decide +kernel
theorem dX10_puts_22 : decode cX10_puts 22 = .ok (.aload_n 0, 1) := by decide +kernel
theorem dX10_puts_23 : decode cX10_puts 23 = .ok (.iload 6, 2) := by decide +kernel
theorem dX10_puts_25 : decode cX10_puts 25 = .ok (.iconst 1, 1) := by decide +kernel
theorem dX10_puts_26 : decode cX10_puts 26 = .ok (.iadd, 1) := by decide +kernel
theorem dX10_puts_27 : decode cX10_puts 27 = .ok (.iload_n 3, 1) := by decide +kernel
theorem dX10_puts_28 : decode cX10_puts 28 = .ok (.iastore, 1) := by decide +kernel
theorem dX10_puts_29 : decode cX10_puts 29 = .ok (.aload_n 0, 1) := by decide +kernel
theorem dX10_puts_30 : decode cX10_puts 30 = .ok (.iload 6, 2) := by decide +kernel
theorem dX10_puts_32 : decode cX10_puts 32 = .ok (.iconst 2, 1) := by decide +kernel
theorem dX10_puts_33 : decode cX10_puts 33 = .ok (.iadd, 1) := by decide +kernel
theorem dX10_puts_34 : decode cX10_puts 34 = .ok (.iload 4, 2) := by decide +kernel
theorem dX10_puts_36 : decode cX10_puts 36 = .ok (.iastore, 1) := by decide +kernel
theorem dX10_puts_37 : decode cX10_puts 37 = .ok (.aload_n 0, 1) := by decide +kernel
theorem dX10_puts_38 : decode cX10_puts 38 = .ok (.iload 6, 2) := by decide +kernel
theorem dX10_puts_40 : decode cX10_puts 40 = .ok (.iconst 3, 1) := by decide +kernel
theorem dX10_puts_41 : decode cX10_puts 41 = .ok (.iadd, 1) := by decide +kernel
theorem dX10_puts_42 : decode cX10_puts 42 = .ok (.iload 5, 2) := by decide +kernel
theorem dX10_puts_44 : decode cX10_puts 44 = .ok (.iastore, 1) := by decide +kernel
theorem dX10_puts_45 : decode cX10_puts 45 = .ok (.aload_n 0, 1) := by decide +kernel
theorem dX10_puts_46 : decode cX10_puts 46 = .ok (.iconst 3, 1) := by decide +kernel
theorem dX10_puts_47 : decode cX10_puts 47 = .ok (.iload_n 1, 1) := by decide +kernel
theorem dX10_puts_48 : decode cX10_puts 48 = .ok (.iadd, 1) := by decide +kernel
theorem dX10_puts_49 : decode cX10_puts 49 = .ok (.dup2, 1) := by decide +kernel
theorem dX10_puts_50 : decode cX10_puts 50 = .ok (.iaload, 1) := by decide +kernel
theorem dX10_puts_51 : decode cX10_puts 51 = .ok (.iconst 1, 1) := by decide +kernel
theorem dX10_puts_52 : decode cX10_puts 52 = .ok (.iadd, 1) := by decide +kernel
theorem dX10_puts_53 : decode cX10_puts 53 = .ok (.iastore, 1) := by decide +kernel
theorem dX10_puts_54 : decode cX10_puts 54 = .ok (.return_, 1) := by decide +kernel
theorem dX10_isGood_0 : decode cX10_isGood 0 = .ok (.iload_n 2, 1) := by decide +kernel
theorem dX10_isGood_1 : decode cX10_isGood 1 = .ok (.i2l, 1) := by decide +kernel
theorem dX10_isGood_2 : decode cX10_isGood 2 = .ok (.lconst 1, 1) := by decide +kernel
theorem dX10_isGood_3 : decode cX10_isGood 3 = .ok (.ldc2_w 199, 3) := by decide +kernel
theorem dX10_isGood_6 : decode cX10_isGood 6 = .ok (.invokestatic 51, 3) := by decide +kernel
theorem dX10_isGood_9 : decode cX10_isGood 9 = .ok (.ifCond .eq 48, 3) := by decide +kernel
theorem dX10_isGood_12 : decode cX10_isGood 12 = .ok (.aload_n 0, 1) := by decide +kernel
theorem dX10_isGood_13 : decode cX10_isGood 13 = .ok (.getfield 7, 3) := by decide +kernel
theorem dX10_isGood_16 : decode cX10_isGood 16 = .ok (.iload_n 1, 1) := by decide +kernel
theorem dX10_isGood_17 : decode cX10_isGood 17 = .ok (.iload_n 3, 1) := by decide +kernel
theorem dX10_isGood_18 : decode cX10_isGood 18 = .ok (.iload 6, 2) := by decide +kernel
theorem dX10_isGood_20 : decode cX10_isGood 20 = .ok (.invokestatic 156, 3) := by decide +kernel
theorem dX10_isGood_23 : decode cX10_isGood 23 = .ok (.ifCond .eq 34, 3) := by decide +kernel
theorem dX10_isGood_26 : decode cX10_isGood 26 = .ok (.aload_n 0, 1) := by decide +kernel
theorem dX10_isGood_27 : decode cX10_isGood 27 = .ok (.getfield 7, 3) := by decide +kernel
theorem dX10_isGood_30 : decode cX10_isGood 30 = .ok (.iload_n 1, 1) := by decide +kernel
theorem dX10_isGood_31 : decode cX10_isGood 31 = .ok (.iload_n 3, 1) := by decide +kernel
theorem dX10_isGood_32 : decode cX10_isGood 32 = .ok (.iload 4, 2) := by decide +kernel
theorem dX10_isGood_34 : decode cX10_isGood 34 = .ok (.iload 6, 2) := by decide +kernel
theorem dX10_isGood_36 : decode cX10_isGood 36 = .ok (.invokestatic 164, 3) := by decide +kernel
theorem dX10_isGood_39 : decode cX10_isGood 39 = .ok (.ifCond .eq 18, 3) := by decide +kernel
theorem dX10_isGood_42 : decode cX10_isGood 42 = .ok (.iload_n 2, 1) := by decide +kernel
theorem dX10_isGood_43 : decode cX10_isGood 43 = .ok (.iload 4, 2) := by decide +kernel
theorem dX10_isGood_45 : decode cX10_isGood 45 = .ok (.iload 5, 2) := by decide +kernel
theorem dX10_isGood_47 : decode cX10_isGood 47 = .ok (.invokestatic 168, 3) := by decide +kernel
theorem dX10_isGood_50 : decode cX10_isGood 50 = .ok (.ifCond .eq 7, 3) := by decide +kernel
theorem dX10_isGood_53 : decode cX10_isGood 53 = .ok (.iconst 1, 1) := by decide +kernel
theorem dX10_isGood_54 : decode cX10_isGood 54 = .ok (.goto 4, 3) := by decide +kernel
theorem dX10_isGood_57 : decode cX10_isGood 57 = .ok (.iconst 0, 1) := by decide +kernel
theorem dX10_isGood_58 : decode cX10_isGood 58 = .ok (.ireturn, 1) := by decide +kernel
def w_X10_copies : List Cond := .code yX10_copies cX10_copies 5 none :: ([])
set_option maxHeartbeats 4000000 in
set_option maxRecDepth 100000 in
theorem c_X10_copies (l : Launch) (D : va_G) (b : Nat) (i_a : Int32) (b2 : Nat) (i_b : Int32) (kI : ClassId) (g_b : Nat → Int32) (g_t : Nat → Int32) (ka : Nat) (kb : Nat) (sz : Nat) (h0i_a : 0 ≤ i_a.toInt) (h1i_a : i_a.toInt ≤ 0) (h0i_b : 0 ≤ i_b.toInt) (h1i_b : i_b.toInt ≤ 0) (hnka : i_a.toInt = ((ka : Nat) : Int)) (hnkb : i_b.toInt = ((kb : Nat) : Int)) : Met l yX10_copies w_X10_copies ({ frames := 0, cells := 0, slots := 0, locals := 0 }) (va_Pc [.ref b, .int i_a, .ref b2, .int i_b] (fun U => U.heap.size = sz ∧ va_P D vwCl [(b, .inl (kI, 192, .inl g_b)), (b2, .inl (kI, 192, .inl g_t))] U.heap ∧ va_K D vwCl [(kI, .int)] U ∧ va_D (fun _ => True) [(b, .inl (kI, 192, .inl g_b)), (b2, .inl (kI, 192, .inl g_t))])) (va_Qv (fun (_ : Unit) => True) (fun (_ : Unit) t => ∃ (n_t : Nat → Int32), va_P D vwCl [(b, .inl (kI, 192, .inl g_b)), (b2, .inl (kI, 192, .inl n_t))] t.heap ∧ va_K D vwCl [(kI, .int)] t ∧ va_D (va_A [(b, .inl (kI, 192, .inl g_b)), (b2, .inl (kI, 192, .inl g_t))] sz) [(b, .inl (kI, 192, .inl g_b)), (b2, .inl (kI, 192, .inl n_t))] ∧ n_t = va_cpy g_b g_t ka kb 192) (va_A [(b, .inl (kI, 192, .inl g_b)), (b2, .inl (kI, 192, .inl g_t))] sz)) 0 0 (va_A [(b, .inl (kI, 192, .inl g_b)), (b2, .inl (kI, 192, .inl g_t))] sz) := by
  refine Met.ofW (cc := cX10_copies) (maxL := 5) (ret := none) (by decide) rfl ?_
  intro p e s m args below meth c s₁ B hml hv
  obtain ⟨rfl, hsz, hP, hK, hD0⟩ := hv
  have hx := B.exec
  have hb := B.bytes
  have hr := B.returns
  have hts := atoms_spec (ws := w_X10_copies) B.pre
  have hown : s.vm.findClass RX10 = some m.cls := findClass_of_methodNamed B.named
  have hlocks := B.notSynchronized
  subst hsz
  have hD := hD0.self (sz := s.heap.size)
  generalize hAe : va_A [(b, .inl (kI, 192, .inl g_b)), (b2, .inl (kI, 192, .inl g_t))] s.heap.size = A at hD ⊢
  have hA : ∀ q : Nat, s.heap.size ≤ q → A q := fun q h => by rw [← hAe]; exact Or.inr h
  have hS : va_S A s.heap s.heap [] := va_S.rf
  have hP : va_P D vwCl [(b, .inl (kI, 192, .inl g_b)), (b2, .inl (kI, 192, .inl g_t))] s.heap := hP
  have hl := lv_entry ([.ref b, .int i_a, .ref b2, .int i_b]) (n := 5) (Nat.le_of_ble_eq_true rfl)
  rw [lg_entry_eq]
  generalize (lg_sl ([.ref b, .int i_a, .ref b2, .int i_b]) ++ List.replicate (5 - (lg_sl ([.ref b, .int i_a, .ref b2, .int i_b])).length) Slot.unset).toArray = ls at hl ⊢
  have hl : lv_has ls 5 [(0, .ref b), (1, .int i_a), (2, .ref b2), (3, .int i_b)] := hl
  obtain ⟨H, hHe⟩ : ∃ H : Heap, H = s.heap := ⟨_, rfl⟩
  rw [← hHe] at hP
  have hS : va_S A s.heap H [] := by rw [hHe]; exact hS
  refine pw_heap hHe ?_
  refine lv_iconst (v := 0) hx hb dX10_copies_0 (by decide) ?_
  refine lv_istore (lv' := [(4, .int 0), (0, .ref b), (1, .int i_a), (2, .ref b2), (3, .int i_b)]) hx hb dX10_copies_1 hl (by decide) rfl (fun ls hl => ?_)
  have hl9 : lv_has ls 5 [(0, .ref b), (1, .int i_a), (2, .ref b2), (3, .int i_b), (4, .int 0)] := lv_sub hl [1, 2, 3, 4, 0] rfl
  refine pw_loop (fun (zz : Int32 × (Nat → Int32)) H locs ls => match zz with | (v14, f15) => va_P D vwCl [(b, .inl (kI, 192, .inl g_b)), (b2, .inl (kI, 192, .inl f15))] H ∧ va_D A [(b, .inl (kI, 192, .inl g_b)), (b2, .inl (kI, 192, .inl f15))] ∧ va_S A s.heap H locs ∧ lv_has ls 5 [(0, .ref b), (1, .int i_a), (2, .ref b2), (3, .int i_b), (4, .int v14)] ∧ (0 ≤ v14.toInt ∧ v14.toInt ≤ 192) ∧ f15 = va_cpy g_b g_t ka kb v14.toInt.toNat) (fun (zz : Int32 × (Nat → Int32))  => match zz with | (v14, f15) => (2147483648 - v14.toInt).toNat) 0 0 (fun (zz : Int32 × (Nat → Int32)) ls => match zz with | (v14, f15) => F0 m 3 ls []) (fun zz H locs ls ih16 hI => ?_) (0, g_t) _ _ _ ⟨hP, hD, hS, hl9, (by decide), (by rw [show (0 : Int32).toInt.toNat = 0 from (by decide)]; exact cp_0)⟩
  obtain ⟨v14, f15⟩ := zz
  obtain ⟨hP, hD, hS, hl, bv14, hcp⟩ := hI
  have bv14 : (0 ≤ v14.toInt ∧ v14.toInt ≤ 192) := bv14
  have hcp : f15 = va_cpy g_b g_t ka kb v14.toInt.toNat := hcp
  have hP : va_P D vwCl [(b, .inl (kI, 192, .inl g_b)), (b2, .inl (kI, 192, .inl f15))] H := hP
  have hD : va_D A [(b, .inl (kI, 192, .inl g_b)), (b2, .inl (kI, 192, .inl f15))] := hD
  have hK : va_K D vwCl [(kI, .int)] s := hK
  have hl : lv_has ls 5 [(0, .ref b), (1, .int i_a), (2, .ref b2), (3, .int i_b), (4, .int v14)] := hl
  refine W.eq (g2 := F0 m 3 ls []) rfl ?_
  refine lv_iload hx hb dX10_copies_3 (lv_at hl 4 rfl) ?_
  refine lv_sipush (v := 192) hx hb dX10_copies_5 (by decide) ?_
  refine lv_icmp_ge (tgt := 29) hx hb dX10_copies_8 (by decide) (fun c17 => ?_) (fun c17 => ?_)
  · have nc17 : 192 ≤ v14.toInt := pw_le c17 (by decide) rfl
    have hP9 := hP.sub (ws' := [(b, .inl (kI, 192, .inl g_b)), (b2, .inl (kI, 192, .inl f15))]) [0, 1] rfl
    have hD9 := hD.sub (ws' := [(b, .inl (kI, 192, .inl g_b)), (b2, .inl (kI, 192, .inl f15))]) [0, 1] (by decide) rfl
    have hK9 := hK.sub (tys' := [(kI, .int)]) [0] rfl
    refine W.widen (k := 0) (n := 0) (Nat.le_of_ble_eq_true rfl) (Nat.le_of_ble_eq_true rfl) ?_
    exact W.vret hx hb hr (fun t ht hW => ⟨⟨(), rfl, trivial, f15, by rw [ht]; exact hP9, va_K.moved hW.alike hK9, hD9, (by have h9 := hcp; rw [show v14.toInt.toNat = 192 by omega] at h9; exact h9)⟩, hS.F ht⟩) hS.2.2 dX10_copies_29
  · have nc17 : v14.toInt < 192 := pw_nle c17 (by decide) rfl
    refine lv_aload_n hx hb dX10_copies_11 rfl (lv_at hl 2 rfl) ?_
    refine lv_iload_n hx hb dX10_copies_12 rfl (lv_at hl 3 rfl) ?_
    refine lv_iload hx hb dX10_copies_13 (lv_at hl 4 rfl) ?_
    refine lv_iadd hx hb dX10_copies_15 ?_
    refine lv_topi (fun x18 ex18 => ?_)
    have tx18 : x18.toInt = i_b.toInt + v14.toInt := pw_addX ex18 rfl rfl (by omega) (by omega)
    refine lv_aload_n hx hb dX10_copies_16 rfl (lv_at hl 0 rfl) ?_
    refine lv_iload_n hx hb dX10_copies_17 rfl (lv_at hl 1 rfl) ?_
    refine lv_iload hx hb dX10_copies_18 (lv_at hl 4 rfl) ?_
    refine lv_iadd hx hb dX10_copies_20 ?_
    refine lv_topi (fun x19 ex19 => ?_)
    have tx19 : x19.toInt = i_a.toInt + v14.toInt := pw_addX ex19 rfl rfl (by omega) (by omega)
    refine va_iald hx hb hK hP 0 0 rfl rfl (vp_in_iff.mpr ⟨by omega, by omega⟩) dX10_copies_21 ?_
    refine lv_topi (fun x20 ex20 => ?_)
    refine va_iast hx hb hK hP hD hS 1 0 rfl rfl (vp_in_iff.mpr ⟨by omega, by omega⟩) dX10_copies_22 (fun H locs hP hD hS => ?_)
    obtain ⟨g21, eg21⟩ : ∃ g : Nat → Int32, g = upd f15 (x18 : Int32).toNatClampNeg x20 := ⟨_, rfl⟩
    have hP : va_P D vwCl [(b, .inl (kI, 192, .inl g_b)), (b2, .inl (kI, 192, .inl (upd f15 (x18 : Int32).toNatClampNeg x20)))] H := hP
    have hD : va_D A [(b, .inl (kI, 192, .inl g_b)), (b2, .inl (kI, 192, .inl (upd f15 (x18 : Int32).toNatClampNeg x20)))] := hD
    have hK : va_K D vwCl [(kI, .int)] s := hK
    rw [← eg21] at hP hD
    obtain ⟨x22, ex22⟩ : ∃ y : Int32, y = v14 + 1 := ⟨_, rfl⟩
    have tx22 : x22.toInt = v14.toInt + 1 := pw_addX ex22 rfl (by decide) (by omega) (by omega)
    refine lv_iinc (v := x22) (lv' := [(4, .int x22), (0, .ref b), (1, .int i_a), (2, .ref b2), (3, .int i_b)]) hx hb dX10_copies_23 hl (k := 4) rfl (by rw [ex22]; rfl) (by decide) rfl (fun ls hl => ?_)
    refine lv_goto (tgt := 3) hx hb dX10_copies_26 (by decide) ?_
    have hP9 : va_P D vwCl [(b, .inl (kI, 192, .inl g_b)), (b2, .inl (kI, 192, .inl g21))] H := hP.sub [0, 1] rfl
    have hD9 : va_D A [(b, .inl (kI, 192, .inl g_b)), (b2, .inl (kI, 192, .inl g21))] := hD.sub [0, 1] (by decide) rfl
    have hl9 : lv_has ls 5 [(0, .ref b), (1, .int i_a), (2, .ref b2), (3, .int i_b), (4, .int x22)] := lv_sub hl [1, 2, 3, 4, 0] rfl
    refine W.widen (k := 0) (n := 0) (Nat.le_of_ble_eq_true rfl) (Nat.le_of_ble_eq_true rfl) ?_
    exact ih16 (x22, g21) _ _ _ (pw_up ex22 (by omega)) ⟨hP9, hD9, hS, hl9, (by omega), (by rw [show x22.toInt.toNat = v14.toInt.toNat + 1 by omega]; exact cp_step hcp eg21 (by omega) (at_nat ex20 (by omega)))⟩
def w_X10_copies__np : List Cond := .code yX10_copies cX10_copies 5 none :: ([])
set_option maxHeartbeats 4000000 in
set_option maxRecDepth 100000 in
theorem c_X10_copies__np (l : Launch) (D : va_G) (b : Nat) (i_a : Int32) (b2 : Nat) (i_b : Int32) (kI : ClassId) (g_b : Nat → Int32) (g_t : Nat → Int32) (ka : Nat) (kb : Nat) (sz : Nat) (h0i_a : 0 ≤ i_a.toInt) (h1i_a : i_a.toInt ≤ 0) (h0i_b : 0 ≤ i_b.toInt) (h1i_b : i_b.toInt ≤ 1728) (hnka : i_a.toInt = ((ka : Nat) : Int)) (hnkb : i_b.toInt = ((kb : Nat) : Int)) : Met l yX10_copies w_X10_copies__np ({ frames := 0, cells := 0, slots := 0, locals := 0 }) (va_Pc [.ref b, .int i_a, .ref b2, .int i_b] (fun U => U.heap.size = sz ∧ va_P D vwCl [(b, .inl (kI, 192, .inl g_b)), (b2, .inl (kI, 1920, .inl g_t))] U.heap ∧ va_K D vwCl [(kI, .int)] U ∧ va_D (fun _ => True) [(b, .inl (kI, 192, .inl g_b)), (b2, .inl (kI, 1920, .inl g_t))])) (va_Qv (fun (_ : Unit) => True) (fun (_ : Unit) t => ∃ (n_t : Nat → Int32), va_P D vwCl [(b, .inl (kI, 192, .inl g_b)), (b2, .inl (kI, 1920, .inl n_t))] t.heap ∧ va_K D vwCl [(kI, .int)] t ∧ va_D (va_A [(b, .inl (kI, 192, .inl g_b)), (b2, .inl (kI, 1920, .inl g_t))] sz) [(b, .inl (kI, 192, .inl g_b)), (b2, .inl (kI, 1920, .inl n_t))] ∧ n_t = va_cpy g_b g_t ka kb 192) (va_A [(b, .inl (kI, 192, .inl g_b)), (b2, .inl (kI, 1920, .inl g_t))] sz)) 0 0 (va_A [(b, .inl (kI, 192, .inl g_b)), (b2, .inl (kI, 1920, .inl g_t))] sz) := by
  refine Met.ofW (cc := cX10_copies) (maxL := 5) (ret := none) (by decide) rfl ?_
  intro p e s m args below meth c s₁ B hml hv
  obtain ⟨rfl, hsz, hP, hK, hD0⟩ := hv
  have hx := B.exec
  have hb := B.bytes
  have hr := B.returns
  have hts := atoms_spec (ws := w_X10_copies__np) B.pre
  have hown : s.vm.findClass RX10 = some m.cls := findClass_of_methodNamed B.named
  have hlocks := B.notSynchronized
  subst hsz
  have hD := hD0.self (sz := s.heap.size)
  generalize hAe : va_A [(b, .inl (kI, 192, .inl g_b)), (b2, .inl (kI, 1920, .inl g_t))] s.heap.size = A at hD ⊢
  have hA : ∀ q : Nat, s.heap.size ≤ q → A q := fun q h => by rw [← hAe]; exact Or.inr h
  have hS : va_S A s.heap s.heap [] := va_S.rf
  have hP : va_P D vwCl [(b, .inl (kI, 192, .inl g_b)), (b2, .inl (kI, 1920, .inl g_t))] s.heap := hP
  have hl := lv_entry ([.ref b, .int i_a, .ref b2, .int i_b]) (n := 5) (Nat.le_of_ble_eq_true rfl)
  rw [lg_entry_eq]
  generalize (lg_sl ([.ref b, .int i_a, .ref b2, .int i_b]) ++ List.replicate (5 - (lg_sl ([.ref b, .int i_a, .ref b2, .int i_b])).length) Slot.unset).toArray = ls at hl ⊢
  have hl : lv_has ls 5 [(0, .ref b), (1, .int i_a), (2, .ref b2), (3, .int i_b)] := hl
  obtain ⟨H, hHe⟩ : ∃ H : Heap, H = s.heap := ⟨_, rfl⟩
  rw [← hHe] at hP
  have hS : va_S A s.heap H [] := by rw [hHe]; exact hS
  refine pw_heap hHe ?_
  refine lv_iconst (v := 0) hx hb dX10_copies_0 (by decide) ?_
  refine lv_istore (lv' := [(4, .int 0), (0, .ref b), (1, .int i_a), (2, .ref b2), (3, .int i_b)]) hx hb dX10_copies_1 hl (by decide) rfl (fun ls hl => ?_)
  have hl9 : lv_has ls 5 [(0, .ref b), (1, .int i_a), (2, .ref b2), (3, .int i_b), (4, .int 0)] := lv_sub hl [1, 2, 3, 4, 0] rfl
  refine pw_loop (fun (zz : Int32 × (Nat → Int32)) H locs ls => match zz with | (v14, f15) => va_P D vwCl [(b, .inl (kI, 192, .inl g_b)), (b2, .inl (kI, 1920, .inl f15))] H ∧ va_D A [(b, .inl (kI, 192, .inl g_b)), (b2, .inl (kI, 1920, .inl f15))] ∧ va_S A s.heap H locs ∧ lv_has ls 5 [(0, .ref b), (1, .int i_a), (2, .ref b2), (3, .int i_b), (4, .int v14)] ∧ (0 ≤ v14.toInt ∧ v14.toInt ≤ 192) ∧ f15 = va_cpy g_b g_t ka kb v14.toInt.toNat) (fun (zz : Int32 × (Nat → Int32))  => match zz with | (v14, f15) => (2147483648 - v14.toInt).toNat) 0 0 (fun (zz : Int32 × (Nat → Int32)) ls => match zz with | (v14, f15) => F0 m 3 ls []) (fun zz H locs ls ih16 hI => ?_) (0, g_t) _ _ _ ⟨hP, hD, hS, hl9, (by decide), (by rw [show (0 : Int32).toInt.toNat = 0 from (by decide)]; exact cp_0)⟩
  obtain ⟨v14, f15⟩ := zz
  obtain ⟨hP, hD, hS, hl, bv14, hcp⟩ := hI
  have bv14 : (0 ≤ v14.toInt ∧ v14.toInt ≤ 192) := bv14
  have hcp : f15 = va_cpy g_b g_t ka kb v14.toInt.toNat := hcp
  have hP : va_P D vwCl [(b, .inl (kI, 192, .inl g_b)), (b2, .inl (kI, 1920, .inl f15))] H := hP
  have hD : va_D A [(b, .inl (kI, 192, .inl g_b)), (b2, .inl (kI, 1920, .inl f15))] := hD
  have hK : va_K D vwCl [(kI, .int)] s := hK
  have hl : lv_has ls 5 [(0, .ref b), (1, .int i_a), (2, .ref b2), (3, .int i_b), (4, .int v14)] := hl
  refine W.eq (g2 := F0 m 3 ls []) rfl ?_
  refine lv_iload hx hb dX10_copies_3 (lv_at hl 4 rfl) ?_
  refine lv_sipush (v := 192) hx hb dX10_copies_5 (by decide) ?_
  refine lv_icmp_ge (tgt := 29) hx hb dX10_copies_8 (by decide) (fun c17 => ?_) (fun c17 => ?_)
  · have nc17 : 192 ≤ v14.toInt := pw_le c17 (by decide) rfl
    have hP9 := hP.sub (ws' := [(b, .inl (kI, 192, .inl g_b)), (b2, .inl (kI, 1920, .inl f15))]) [0, 1] rfl
    have hD9 := hD.sub (ws' := [(b, .inl (kI, 192, .inl g_b)), (b2, .inl (kI, 1920, .inl f15))]) [0, 1] (by decide) rfl
    have hK9 := hK.sub (tys' := [(kI, .int)]) [0] rfl
    refine W.widen (k := 0) (n := 0) (Nat.le_of_ble_eq_true rfl) (Nat.le_of_ble_eq_true rfl) ?_
    exact W.vret hx hb hr (fun t ht hW => ⟨⟨(), rfl, trivial, f15, by rw [ht]; exact hP9, va_K.moved hW.alike hK9, hD9, (by have h9 := hcp; rw [show v14.toInt.toNat = 192 by omega] at h9; exact h9)⟩, hS.F ht⟩) hS.2.2 dX10_copies_29
  · have nc17 : v14.toInt < 192 := pw_nle c17 (by decide) rfl
    refine lv_aload_n hx hb dX10_copies_11 rfl (lv_at hl 2 rfl) ?_
    refine lv_iload_n hx hb dX10_copies_12 rfl (lv_at hl 3 rfl) ?_
    refine lv_iload hx hb dX10_copies_13 (lv_at hl 4 rfl) ?_
    refine lv_iadd hx hb dX10_copies_15 ?_
    refine lv_topi (fun x18 ex18 => ?_)
    have tx18 : x18.toInt = i_b.toInt + v14.toInt := pw_addX ex18 rfl rfl (by omega) (by omega)
    refine lv_aload_n hx hb dX10_copies_16 rfl (lv_at hl 0 rfl) ?_
    refine lv_iload_n hx hb dX10_copies_17 rfl (lv_at hl 1 rfl) ?_
    refine lv_iload hx hb dX10_copies_18 (lv_at hl 4 rfl) ?_
    refine lv_iadd hx hb dX10_copies_20 ?_
    refine lv_topi (fun x19 ex19 => ?_)
    have tx19 : x19.toInt = i_a.toInt + v14.toInt := pw_addX ex19 rfl rfl (by omega) (by omega)
    refine va_iald hx hb hK hP 0 0 rfl rfl (vp_in_iff.mpr ⟨by omega, by omega⟩) dX10_copies_21 ?_
    refine lv_topi (fun x20 ex20 => ?_)
    refine va_iast hx hb hK hP hD hS 1 0 rfl rfl (vp_in_iff.mpr ⟨by omega, by omega⟩) dX10_copies_22 (fun H locs hP hD hS => ?_)
    obtain ⟨g21, eg21⟩ : ∃ g : Nat → Int32, g = upd f15 (x18 : Int32).toNatClampNeg x20 := ⟨_, rfl⟩
    have hP : va_P D vwCl [(b, .inl (kI, 192, .inl g_b)), (b2, .inl (kI, 1920, .inl (upd f15 (x18 : Int32).toNatClampNeg x20)))] H := hP
    have hD : va_D A [(b, .inl (kI, 192, .inl g_b)), (b2, .inl (kI, 1920, .inl (upd f15 (x18 : Int32).toNatClampNeg x20)))] := hD
    have hK : va_K D vwCl [(kI, .int)] s := hK
    rw [← eg21] at hP hD
    obtain ⟨x22, ex22⟩ : ∃ y : Int32, y = v14 + 1 := ⟨_, rfl⟩
    have tx22 : x22.toInt = v14.toInt + 1 := pw_addX ex22 rfl (by decide) (by omega) (by omega)
    refine lv_iinc (v := x22) (lv' := [(4, .int x22), (0, .ref b), (1, .int i_a), (2, .ref b2), (3, .int i_b)]) hx hb dX10_copies_23 hl (k := 4) rfl (by rw [ex22]; rfl) (by decide) rfl (fun ls hl => ?_)
    refine lv_goto (tgt := 3) hx hb dX10_copies_26 (by decide) ?_
    have hP9 : va_P D vwCl [(b, .inl (kI, 192, .inl g_b)), (b2, .inl (kI, 1920, .inl g21))] H := hP.sub [0, 1] rfl
    have hD9 : va_D A [(b, .inl (kI, 192, .inl g_b)), (b2, .inl (kI, 1920, .inl g21))] := hD.sub [0, 1] (by decide) rfl
    have hl9 : lv_has ls 5 [(0, .ref b), (1, .int i_a), (2, .ref b2), (3, .int i_b), (4, .int x22)] := lv_sub hl [1, 2, 3, 4, 0] rfl
    refine W.widen (k := 0) (n := 0) (Nat.le_of_ble_eq_true rfl) (Nat.le_of_ble_eq_true rfl) ?_
    exact ih16 (x22, g21) _ _ _ (pw_up ex22 (by omega)) ⟨hP9, hD9, hS, hl9, (by omega), (by rw [show x22.toInt.toNat = v14.toInt.toNat + 1 by omega]; exact cp_step hcp eg21 (by omega) (at_nat ex20 (by omega)))⟩
def w_X10_copies__pn : List Cond := .code yX10_copies cX10_copies 5 none :: ([])
set_option maxHeartbeats 4000000 in
set_option maxRecDepth 100000 in
theorem c_X10_copies__pn (l : Launch) (D : va_G) (b : Nat) (i_a : Int32) (b2 : Nat) (i_b : Int32) (kI : ClassId) (g_b : Nat → Int32) (g_t : Nat → Int32) (ka : Nat) (kb : Nat) (sz : Nat) (h0i_a : 0 ≤ i_a.toInt) (h1i_a : i_a.toInt ≤ 1728) (h0i_b : 0 ≤ i_b.toInt) (h1i_b : i_b.toInt ≤ 0) (hnka : i_a.toInt = ((ka : Nat) : Int)) (hnkb : i_b.toInt = ((kb : Nat) : Int)) : Met l yX10_copies w_X10_copies__pn ({ frames := 0, cells := 0, slots := 0, locals := 0 }) (va_Pc [.ref b, .int i_a, .ref b2, .int i_b] (fun U => U.heap.size = sz ∧ va_P D vwCl [(b, .inl (kI, 1920, .inl g_b)), (b2, .inl (kI, 192, .inl g_t))] U.heap ∧ va_K D vwCl [(kI, .int)] U ∧ va_D (fun _ => True) [(b, .inl (kI, 1920, .inl g_b)), (b2, .inl (kI, 192, .inl g_t))])) (va_Qv (fun (_ : Unit) => True) (fun (_ : Unit) t => ∃ (n_t : Nat → Int32), va_P D vwCl [(b, .inl (kI, 1920, .inl g_b)), (b2, .inl (kI, 192, .inl n_t))] t.heap ∧ va_K D vwCl [(kI, .int)] t ∧ va_D (va_A [(b, .inl (kI, 1920, .inl g_b)), (b2, .inl (kI, 192, .inl g_t))] sz) [(b, .inl (kI, 1920, .inl g_b)), (b2, .inl (kI, 192, .inl n_t))] ∧ n_t = va_cpy g_b g_t ka kb 192) (va_A [(b, .inl (kI, 1920, .inl g_b)), (b2, .inl (kI, 192, .inl g_t))] sz)) 0 0 (va_A [(b, .inl (kI, 1920, .inl g_b)), (b2, .inl (kI, 192, .inl g_t))] sz) := by
  refine Met.ofW (cc := cX10_copies) (maxL := 5) (ret := none) (by decide) rfl ?_
  intro p e s m args below meth c s₁ B hml hv
  obtain ⟨rfl, hsz, hP, hK, hD0⟩ := hv
  have hx := B.exec
  have hb := B.bytes
  have hr := B.returns
  have hts := atoms_spec (ws := w_X10_copies__pn) B.pre
  have hown : s.vm.findClass RX10 = some m.cls := findClass_of_methodNamed B.named
  have hlocks := B.notSynchronized
  subst hsz
  have hD := hD0.self (sz := s.heap.size)
  generalize hAe : va_A [(b, .inl (kI, 1920, .inl g_b)), (b2, .inl (kI, 192, .inl g_t))] s.heap.size = A at hD ⊢
  have hA : ∀ q : Nat, s.heap.size ≤ q → A q := fun q h => by rw [← hAe]; exact Or.inr h
  have hS : va_S A s.heap s.heap [] := va_S.rf
  have hP : va_P D vwCl [(b, .inl (kI, 1920, .inl g_b)), (b2, .inl (kI, 192, .inl g_t))] s.heap := hP
  have hl := lv_entry ([.ref b, .int i_a, .ref b2, .int i_b]) (n := 5) (Nat.le_of_ble_eq_true rfl)
  rw [lg_entry_eq]
  generalize (lg_sl ([.ref b, .int i_a, .ref b2, .int i_b]) ++ List.replicate (5 - (lg_sl ([.ref b, .int i_a, .ref b2, .int i_b])).length) Slot.unset).toArray = ls at hl ⊢
  have hl : lv_has ls 5 [(0, .ref b), (1, .int i_a), (2, .ref b2), (3, .int i_b)] := hl
  obtain ⟨H, hHe⟩ : ∃ H : Heap, H = s.heap := ⟨_, rfl⟩
  rw [← hHe] at hP
  have hS : va_S A s.heap H [] := by rw [hHe]; exact hS
  refine pw_heap hHe ?_
  refine lv_iconst (v := 0) hx hb dX10_copies_0 (by decide) ?_
  refine lv_istore (lv' := [(4, .int 0), (0, .ref b), (1, .int i_a), (2, .ref b2), (3, .int i_b)]) hx hb dX10_copies_1 hl (by decide) rfl (fun ls hl => ?_)
  have hl9 : lv_has ls 5 [(0, .ref b), (1, .int i_a), (2, .ref b2), (3, .int i_b), (4, .int 0)] := lv_sub hl [1, 2, 3, 4, 0] rfl
  refine pw_loop (fun (zz : Int32 × (Nat → Int32)) H locs ls => match zz with | (v14, f15) => va_P D vwCl [(b, .inl (kI, 1920, .inl g_b)), (b2, .inl (kI, 192, .inl f15))] H ∧ va_D A [(b, .inl (kI, 1920, .inl g_b)), (b2, .inl (kI, 192, .inl f15))] ∧ va_S A s.heap H locs ∧ lv_has ls 5 [(0, .ref b), (1, .int i_a), (2, .ref b2), (3, .int i_b), (4, .int v14)] ∧ (0 ≤ v14.toInt ∧ v14.toInt ≤ 192) ∧ f15 = va_cpy g_b g_t ka kb v14.toInt.toNat) (fun (zz : Int32 × (Nat → Int32))  => match zz with | (v14, f15) => (2147483648 - v14.toInt).toNat) 0 0 (fun (zz : Int32 × (Nat → Int32)) ls => match zz with | (v14, f15) => F0 m 3 ls []) (fun zz H locs ls ih16 hI => ?_) (0, g_t) _ _ _ ⟨hP, hD, hS, hl9, (by decide), (by rw [show (0 : Int32).toInt.toNat = 0 from (by decide)]; exact cp_0)⟩
  obtain ⟨v14, f15⟩ := zz
  obtain ⟨hP, hD, hS, hl, bv14, hcp⟩ := hI
  have bv14 : (0 ≤ v14.toInt ∧ v14.toInt ≤ 192) := bv14
  have hcp : f15 = va_cpy g_b g_t ka kb v14.toInt.toNat := hcp
  have hP : va_P D vwCl [(b, .inl (kI, 1920, .inl g_b)), (b2, .inl (kI, 192, .inl f15))] H := hP
  have hD : va_D A [(b, .inl (kI, 1920, .inl g_b)), (b2, .inl (kI, 192, .inl f15))] := hD
  have hK : va_K D vwCl [(kI, .int)] s := hK
  have hl : lv_has ls 5 [(0, .ref b), (1, .int i_a), (2, .ref b2), (3, .int i_b), (4, .int v14)] := hl
  refine W.eq (g2 := F0 m 3 ls []) rfl ?_
  refine lv_iload hx hb dX10_copies_3 (lv_at hl 4 rfl) ?_
  refine lv_sipush (v := 192) hx hb dX10_copies_5 (by decide) ?_
  refine lv_icmp_ge (tgt := 29) hx hb dX10_copies_8 (by decide) (fun c17 => ?_) (fun c17 => ?_)
  · have nc17 : 192 ≤ v14.toInt := pw_le c17 (by decide) rfl
    have hP9 := hP.sub (ws' := [(b, .inl (kI, 1920, .inl g_b)), (b2, .inl (kI, 192, .inl f15))]) [0, 1] rfl
    have hD9 := hD.sub (ws' := [(b, .inl (kI, 1920, .inl g_b)), (b2, .inl (kI, 192, .inl f15))]) [0, 1] (by decide) rfl
    have hK9 := hK.sub (tys' := [(kI, .int)]) [0] rfl
    refine W.widen (k := 0) (n := 0) (Nat.le_of_ble_eq_true rfl) (Nat.le_of_ble_eq_true rfl) ?_
    exact W.vret hx hb hr (fun t ht hW => ⟨⟨(), rfl, trivial, f15, by rw [ht]; exact hP9, va_K.moved hW.alike hK9, hD9, (by have h9 := hcp; rw [show v14.toInt.toNat = 192 by omega] at h9; exact h9)⟩, hS.F ht⟩) hS.2.2 dX10_copies_29
  · have nc17 : v14.toInt < 192 := pw_nle c17 (by decide) rfl
    refine lv_aload_n hx hb dX10_copies_11 rfl (lv_at hl 2 rfl) ?_
    refine lv_iload_n hx hb dX10_copies_12 rfl (lv_at hl 3 rfl) ?_
    refine lv_iload hx hb dX10_copies_13 (lv_at hl 4 rfl) ?_
    refine lv_iadd hx hb dX10_copies_15 ?_
    refine lv_topi (fun x18 ex18 => ?_)
    have tx18 : x18.toInt = i_b.toInt + v14.toInt := pw_addX ex18 rfl rfl (by omega) (by omega)
    refine lv_aload_n hx hb dX10_copies_16 rfl (lv_at hl 0 rfl) ?_
    refine lv_iload_n hx hb dX10_copies_17 rfl (lv_at hl 1 rfl) ?_
    refine lv_iload hx hb dX10_copies_18 (lv_at hl 4 rfl) ?_
    refine lv_iadd hx hb dX10_copies_20 ?_
    refine lv_topi (fun x19 ex19 => ?_)
    have tx19 : x19.toInt = i_a.toInt + v14.toInt := pw_addX ex19 rfl rfl (by omega) (by omega)
    refine va_iald hx hb hK hP 0 0 rfl rfl (vp_in_iff.mpr ⟨by omega, by omega⟩) dX10_copies_21 ?_
    refine lv_topi (fun x20 ex20 => ?_)
    refine va_iast hx hb hK hP hD hS 1 0 rfl rfl (vp_in_iff.mpr ⟨by omega, by omega⟩) dX10_copies_22 (fun H locs hP hD hS => ?_)
    obtain ⟨g21, eg21⟩ : ∃ g : Nat → Int32, g = upd f15 (x18 : Int32).toNatClampNeg x20 := ⟨_, rfl⟩
    have hP : va_P D vwCl [(b, .inl (kI, 1920, .inl g_b)), (b2, .inl (kI, 192, .inl (upd f15 (x18 : Int32).toNatClampNeg x20)))] H := hP
    have hD : va_D A [(b, .inl (kI, 1920, .inl g_b)), (b2, .inl (kI, 192, .inl (upd f15 (x18 : Int32).toNatClampNeg x20)))] := hD
    have hK : va_K D vwCl [(kI, .int)] s := hK
    rw [← eg21] at hP hD
    obtain ⟨x22, ex22⟩ : ∃ y : Int32, y = v14 + 1 := ⟨_, rfl⟩
    have tx22 : x22.toInt = v14.toInt + 1 := pw_addX ex22 rfl (by decide) (by omega) (by omega)
    refine lv_iinc (v := x22) (lv' := [(4, .int x22), (0, .ref b), (1, .int i_a), (2, .ref b2), (3, .int i_b)]) hx hb dX10_copies_23 hl (k := 4) rfl (by rw [ex22]; rfl) (by decide) rfl (fun ls hl => ?_)
    refine lv_goto (tgt := 3) hx hb dX10_copies_26 (by decide) ?_
    have hP9 : va_P D vwCl [(b, .inl (kI, 1920, .inl g_b)), (b2, .inl (kI, 192, .inl g21))] H := hP.sub [0, 1] rfl
    have hD9 : va_D A [(b, .inl (kI, 1920, .inl g_b)), (b2, .inl (kI, 192, .inl g21))] := hD.sub [0, 1] (by decide) rfl
    have hl9 : lv_has ls 5 [(0, .ref b), (1, .int i_a), (2, .ref b2), (3, .int i_b), (4, .int x22)] := lv_sub hl [1, 2, 3, 4, 0] rfl
    refine W.widen (k := 0) (n := 0) (Nat.le_of_ble_eq_true rfl) (Nat.le_of_ble_eq_true rfl) ?_
    exact ih16 (x22, g21) _ _ _ (pw_up ex22 (by omega)) ⟨hP9, hD9, hS, hl9, (by omega), (by rw [show x22.toInt.toNat = v14.toInt.toNat + 1 by omega]; exact cp_step hcp eg21 (by omega) (at_nat ex20 (by omega)))⟩
def w_X10_copies__ni : List Cond := .code yX10_copies cX10_copies 5 none :: ([])
set_option maxHeartbeats 4000000 in
set_option maxRecDepth 100000 in
theorem c_X10_copies__ni (l : Launch) (D : va_G) (b : Nat) (i_a : Int32) (b2 : Nat) (i_b : Int32) (kI : ClassId) (g_b : Nat → Int32) (g_t : Nat → Int32) (ka : Nat) (kb : Nat) (sz : Nat) (h0i_a : 0 ≤ i_a.toInt) (h1i_a : i_a.toInt ≤ 0) (h0i_b : 0 ≤ i_b.toInt) (h1i_b : i_b.toInt ≤ 192) (hnka : i_a.toInt = ((ka : Nat) : Int)) (hnkb : i_b.toInt = ((kb : Nat) : Int)) : Met l yX10_copies w_X10_copies__ni ({ frames := 0, cells := 0, slots := 0, locals := 0 }) (va_Pc [.ref b, .int i_a, .ref b2, .int i_b] (fun U => U.heap.size = sz ∧ va_P D vwCl [(b, .inl (kI, 192, .inl g_b)), (b2, .inl (kI, 384, .inl g_t))] U.heap ∧ va_K D vwCl [(kI, .int)] U ∧ va_D (fun _ => True) [(b, .inl (kI, 192, .inl g_b)), (b2, .inl (kI, 384, .inl g_t))])) (va_Qv (fun (_ : Unit) => True) (fun (_ : Unit) t => ∃ (n_t : Nat → Int32), va_P D vwCl [(b, .inl (kI, 192, .inl g_b)), (b2, .inl (kI, 384, .inl n_t))] t.heap ∧ va_K D vwCl [(kI, .int)] t ∧ va_D (va_A [(b, .inl (kI, 192, .inl g_b)), (b2, .inl (kI, 384, .inl g_t))] sz) [(b, .inl (kI, 192, .inl g_b)), (b2, .inl (kI, 384, .inl n_t))] ∧ n_t = va_cpy g_b g_t ka kb 192) (va_A [(b, .inl (kI, 192, .inl g_b)), (b2, .inl (kI, 384, .inl g_t))] sz)) 0 0 (va_A [(b, .inl (kI, 192, .inl g_b)), (b2, .inl (kI, 384, .inl g_t))] sz) := by
  refine Met.ofW (cc := cX10_copies) (maxL := 5) (ret := none) (by decide) rfl ?_
  intro p e s m args below meth c s₁ B hml hv
  obtain ⟨rfl, hsz, hP, hK, hD0⟩ := hv
  have hx := B.exec
  have hb := B.bytes
  have hr := B.returns
  have hts := atoms_spec (ws := w_X10_copies__ni) B.pre
  have hown : s.vm.findClass RX10 = some m.cls := findClass_of_methodNamed B.named
  have hlocks := B.notSynchronized
  subst hsz
  have hD := hD0.self (sz := s.heap.size)
  generalize hAe : va_A [(b, .inl (kI, 192, .inl g_b)), (b2, .inl (kI, 384, .inl g_t))] s.heap.size = A at hD ⊢
  have hA : ∀ q : Nat, s.heap.size ≤ q → A q := fun q h => by rw [← hAe]; exact Or.inr h
  have hS : va_S A s.heap s.heap [] := va_S.rf
  have hP : va_P D vwCl [(b, .inl (kI, 192, .inl g_b)), (b2, .inl (kI, 384, .inl g_t))] s.heap := hP
  have hl := lv_entry ([.ref b, .int i_a, .ref b2, .int i_b]) (n := 5) (Nat.le_of_ble_eq_true rfl)
  rw [lg_entry_eq]
  generalize (lg_sl ([.ref b, .int i_a, .ref b2, .int i_b]) ++ List.replicate (5 - (lg_sl ([.ref b, .int i_a, .ref b2, .int i_b])).length) Slot.unset).toArray = ls at hl ⊢
  have hl : lv_has ls 5 [(0, .ref b), (1, .int i_a), (2, .ref b2), (3, .int i_b)] := hl
  obtain ⟨H, hHe⟩ : ∃ H : Heap, H = s.heap := ⟨_, rfl⟩
  rw [← hHe] at hP
  have hS : va_S A s.heap H [] := by rw [hHe]; exact hS
  refine pw_heap hHe ?_
  refine lv_iconst (v := 0) hx hb dX10_copies_0 (by decide) ?_
  refine lv_istore (lv' := [(4, .int 0), (0, .ref b), (1, .int i_a), (2, .ref b2), (3, .int i_b)]) hx hb dX10_copies_1 hl (by decide) rfl (fun ls hl => ?_)
  have hl9 : lv_has ls 5 [(0, .ref b), (1, .int i_a), (2, .ref b2), (3, .int i_b), (4, .int 0)] := lv_sub hl [1, 2, 3, 4, 0] rfl
  refine pw_loop (fun (zz : Int32 × (Nat → Int32)) H locs ls => match zz with | (v14, f15) => va_P D vwCl [(b, .inl (kI, 192, .inl g_b)), (b2, .inl (kI, 384, .inl f15))] H ∧ va_D A [(b, .inl (kI, 192, .inl g_b)), (b2, .inl (kI, 384, .inl f15))] ∧ va_S A s.heap H locs ∧ lv_has ls 5 [(0, .ref b), (1, .int i_a), (2, .ref b2), (3, .int i_b), (4, .int v14)] ∧ (0 ≤ v14.toInt ∧ v14.toInt ≤ 192) ∧ f15 = va_cpy g_b g_t ka kb v14.toInt.toNat) (fun (zz : Int32 × (Nat → Int32))  => match zz with | (v14, f15) => (2147483648 - v14.toInt).toNat) 0 0 (fun (zz : Int32 × (Nat → Int32)) ls => match zz with | (v14, f15) => F0 m 3 ls []) (fun zz H locs ls ih16 hI => ?_) (0, g_t) _ _ _ ⟨hP, hD, hS, hl9, (by decide), (by rw [show (0 : Int32).toInt.toNat = 0 from (by decide)]; exact cp_0)⟩
  obtain ⟨v14, f15⟩ := zz
  obtain ⟨hP, hD, hS, hl, bv14, hcp⟩ := hI
  have bv14 : (0 ≤ v14.toInt ∧ v14.toInt ≤ 192) := bv14
  have hcp : f15 = va_cpy g_b g_t ka kb v14.toInt.toNat := hcp
  have hP : va_P D vwCl [(b, .inl (kI, 192, .inl g_b)), (b2, .inl (kI, 384, .inl f15))] H := hP
  have hD : va_D A [(b, .inl (kI, 192, .inl g_b)), (b2, .inl (kI, 384, .inl f15))] := hD
  have hK : va_K D vwCl [(kI, .int)] s := hK
  have hl : lv_has ls 5 [(0, .ref b), (1, .int i_a), (2, .ref b2), (3, .int i_b), (4, .int v14)] := hl
  refine W.eq (g2 := F0 m 3 ls []) rfl ?_
  refine lv_iload hx hb dX10_copies_3 (lv_at hl 4 rfl) ?_
  refine lv_sipush (v := 192) hx hb dX10_copies_5 (by decide) ?_
  refine lv_icmp_ge (tgt := 29) hx hb dX10_copies_8 (by decide) (fun c17 => ?_) (fun c17 => ?_)
  · have nc17 : 192 ≤ v14.toInt := pw_le c17 (by decide) rfl
    have hP9 := hP.sub (ws' := [(b, .inl (kI, 192, .inl g_b)), (b2, .inl (kI, 384, .inl f15))]) [0, 1] rfl
    have hD9 := hD.sub (ws' := [(b, .inl (kI, 192, .inl g_b)), (b2, .inl (kI, 384, .inl f15))]) [0, 1] (by decide) rfl
    have hK9 := hK.sub (tys' := [(kI, .int)]) [0] rfl
    refine W.widen (k := 0) (n := 0) (Nat.le_of_ble_eq_true rfl) (Nat.le_of_ble_eq_true rfl) ?_
    exact W.vret hx hb hr (fun t ht hW => ⟨⟨(), rfl, trivial, f15, by rw [ht]; exact hP9, va_K.moved hW.alike hK9, hD9, (by have h9 := hcp; rw [show v14.toInt.toNat = 192 by omega] at h9; exact h9)⟩, hS.F ht⟩) hS.2.2 dX10_copies_29
  · have nc17 : v14.toInt < 192 := pw_nle c17 (by decide) rfl
    refine lv_aload_n hx hb dX10_copies_11 rfl (lv_at hl 2 rfl) ?_
    refine lv_iload_n hx hb dX10_copies_12 rfl (lv_at hl 3 rfl) ?_
    refine lv_iload hx hb dX10_copies_13 (lv_at hl 4 rfl) ?_
    refine lv_iadd hx hb dX10_copies_15 ?_
    refine lv_topi (fun x18 ex18 => ?_)
    have tx18 : x18.toInt = i_b.toInt + v14.toInt := pw_addX ex18 rfl rfl (by omega) (by omega)
    refine lv_aload_n hx hb dX10_copies_16 rfl (lv_at hl 0 rfl) ?_
    refine lv_iload_n hx hb dX10_copies_17 rfl (lv_at hl 1 rfl) ?_
    refine lv_iload hx hb dX10_copies_18 (lv_at hl 4 rfl) ?_
    refine lv_iadd hx hb dX10_copies_20 ?_
    refine lv_topi (fun x19 ex19 => ?_)
    have tx19 : x19.toInt = i_a.toInt + v14.toInt := pw_addX ex19 rfl rfl (by omega) (by omega)
    refine va_iald hx hb hK hP 0 0 rfl rfl (vp_in_iff.mpr ⟨by omega, by omega⟩) dX10_copies_21 ?_
    refine lv_topi (fun x20 ex20 => ?_)
    refine va_iast hx hb hK hP hD hS 1 0 rfl rfl (vp_in_iff.mpr ⟨by omega, by omega⟩) dX10_copies_22 (fun H locs hP hD hS => ?_)
    obtain ⟨g21, eg21⟩ : ∃ g : Nat → Int32, g = upd f15 (x18 : Int32).toNatClampNeg x20 := ⟨_, rfl⟩
    have hP : va_P D vwCl [(b, .inl (kI, 192, .inl g_b)), (b2, .inl (kI, 384, .inl (upd f15 (x18 : Int32).toNatClampNeg x20)))] H := hP
    have hD : va_D A [(b, .inl (kI, 192, .inl g_b)), (b2, .inl (kI, 384, .inl (upd f15 (x18 : Int32).toNatClampNeg x20)))] := hD
    have hK : va_K D vwCl [(kI, .int)] s := hK
    rw [← eg21] at hP hD
    obtain ⟨x22, ex22⟩ : ∃ y : Int32, y = v14 + 1 := ⟨_, rfl⟩
    have tx22 : x22.toInt = v14.toInt + 1 := pw_addX ex22 rfl (by decide) (by omega) (by omega)
    refine lv_iinc (v := x22) (lv' := [(4, .int x22), (0, .ref b), (1, .int i_a), (2, .ref b2), (3, .int i_b)]) hx hb dX10_copies_23 hl (k := 4) rfl (by rw [ex22]; rfl) (by decide) rfl (fun ls hl => ?_)
    refine lv_goto (tgt := 3) hx hb dX10_copies_26 (by decide) ?_
    have hP9 : va_P D vwCl [(b, .inl (kI, 192, .inl g_b)), (b2, .inl (kI, 384, .inl g21))] H := hP.sub [0, 1] rfl
    have hD9 : va_D A [(b, .inl (kI, 192, .inl g_b)), (b2, .inl (kI, 384, .inl g21))] := hD.sub [0, 1] (by decide) rfl
    have hl9 : lv_has ls 5 [(0, .ref b), (1, .int i_a), (2, .ref b2), (3, .int i_b), (4, .int x22)] := lv_sub hl [1, 2, 3, 4, 0] rfl
    refine W.widen (k := 0) (n := 0) (Nat.le_of_ble_eq_true rfl) (Nat.le_of_ble_eq_true rfl) ?_
    exact ih16 (x22, g21) _ _ _ (pw_up ex22 (by omega)) ⟨hP9, hD9, hS, hl9, (by omega), (by rw [show x22.toInt.toNat = v14.toInt.toNat + 1 by omega]; exact cp_step hcp eg21 (by omega) (at_nat ex20 (by omega)))⟩
def w_X10_copies__in : List Cond := .code yX10_copies cX10_copies 5 none :: ([])
set_option maxHeartbeats 4000000 in
set_option maxRecDepth 100000 in
theorem c_X10_copies__in (l : Launch) (D : va_G) (b : Nat) (i_a : Int32) (b2 : Nat) (i_b : Int32) (kI : ClassId) (g_b : Nat → Int32) (g_t : Nat → Int32) (ka : Nat) (kb : Nat) (sz : Nat) (h0i_a : 0 ≤ i_a.toInt) (h1i_a : i_a.toInt ≤ 192) (h0i_b : 0 ≤ i_b.toInt) (h1i_b : i_b.toInt ≤ 0) (hnka : i_a.toInt = ((ka : Nat) : Int)) (hnkb : i_b.toInt = ((kb : Nat) : Int)) : Met l yX10_copies w_X10_copies__in ({ frames := 0, cells := 0, slots := 0, locals := 0 }) (va_Pc [.ref b, .int i_a, .ref b2, .int i_b] (fun U => U.heap.size = sz ∧ va_P D vwCl [(b, .inl (kI, 384, .inl g_b)), (b2, .inl (kI, 192, .inl g_t))] U.heap ∧ va_K D vwCl [(kI, .int)] U ∧ va_D (fun _ => True) [(b, .inl (kI, 384, .inl g_b)), (b2, .inl (kI, 192, .inl g_t))])) (va_Qv (fun (_ : Unit) => True) (fun (_ : Unit) t => ∃ (n_t : Nat → Int32), va_P D vwCl [(b, .inl (kI, 384, .inl g_b)), (b2, .inl (kI, 192, .inl n_t))] t.heap ∧ va_K D vwCl [(kI, .int)] t ∧ va_D (va_A [(b, .inl (kI, 384, .inl g_b)), (b2, .inl (kI, 192, .inl g_t))] sz) [(b, .inl (kI, 384, .inl g_b)), (b2, .inl (kI, 192, .inl n_t))] ∧ n_t = va_cpy g_b g_t ka kb 192) (va_A [(b, .inl (kI, 384, .inl g_b)), (b2, .inl (kI, 192, .inl g_t))] sz)) 0 0 (va_A [(b, .inl (kI, 384, .inl g_b)), (b2, .inl (kI, 192, .inl g_t))] sz) := by
  refine Met.ofW (cc := cX10_copies) (maxL := 5) (ret := none) (by decide) rfl ?_
  intro p e s m args below meth c s₁ B hml hv
  obtain ⟨rfl, hsz, hP, hK, hD0⟩ := hv
  have hx := B.exec
  have hb := B.bytes
  have hr := B.returns
  have hts := atoms_spec (ws := w_X10_copies__in) B.pre
  have hown : s.vm.findClass RX10 = some m.cls := findClass_of_methodNamed B.named
  have hlocks := B.notSynchronized
  subst hsz
  have hD := hD0.self (sz := s.heap.size)
  generalize hAe : va_A [(b, .inl (kI, 384, .inl g_b)), (b2, .inl (kI, 192, .inl g_t))] s.heap.size = A at hD ⊢
  have hA : ∀ q : Nat, s.heap.size ≤ q → A q := fun q h => by rw [← hAe]; exact Or.inr h
  have hS : va_S A s.heap s.heap [] := va_S.rf
  have hP : va_P D vwCl [(b, .inl (kI, 384, .inl g_b)), (b2, .inl (kI, 192, .inl g_t))] s.heap := hP
  have hl := lv_entry ([.ref b, .int i_a, .ref b2, .int i_b]) (n := 5) (Nat.le_of_ble_eq_true rfl)
  rw [lg_entry_eq]
  generalize (lg_sl ([.ref b, .int i_a, .ref b2, .int i_b]) ++ List.replicate (5 - (lg_sl ([.ref b, .int i_a, .ref b2, .int i_b])).length) Slot.unset).toArray = ls at hl ⊢
  have hl : lv_has ls 5 [(0, .ref b), (1, .int i_a), (2, .ref b2), (3, .int i_b)] := hl
  obtain ⟨H, hHe⟩ : ∃ H : Heap, H = s.heap := ⟨_, rfl⟩
  rw [← hHe] at hP
  have hS : va_S A s.heap H [] := by rw [hHe]; exact hS
  refine pw_heap hHe ?_
  refine lv_iconst (v := 0) hx hb dX10_copies_0 (by decide) ?_
  refine lv_istore (lv' := [(4, .int 0), (0, .ref b), (1, .int i_a), (2, .ref b2), (3, .int i_b)]) hx hb dX10_copies_1 hl (by decide) rfl (fun ls hl => ?_)
  have hl9 : lv_has ls 5 [(0, .ref b), (1, .int i_a), (2, .ref b2), (3, .int i_b), (4, .int 0)] := lv_sub hl [1, 2, 3, 4, 0] rfl
  refine pw_loop (fun (zz : Int32 × (Nat → Int32)) H locs ls => match zz with | (v14, f15) => va_P D vwCl [(b, .inl (kI, 384, .inl g_b)), (b2, .inl (kI, 192, .inl f15))] H ∧ va_D A [(b, .inl (kI, 384, .inl g_b)), (b2, .inl (kI, 192, .inl f15))] ∧ va_S A s.heap H locs ∧ lv_has ls 5 [(0, .ref b), (1, .int i_a), (2, .ref b2), (3, .int i_b), (4, .int v14)] ∧ (0 ≤ v14.toInt ∧ v14.toInt ≤ 192) ∧ f15 = va_cpy g_b g_t ka kb v14.toInt.toNat) (fun (zz : Int32 × (Nat → Int32))  => match zz with | (v14, f15) => (2147483648 - v14.toInt).toNat) 0 0 (fun (zz : Int32 × (Nat → Int32)) ls => match zz with | (v14, f15) => F0 m 3 ls []) (fun zz H locs ls ih16 hI => ?_) (0, g_t) _ _ _ ⟨hP, hD, hS, hl9, (by decide), (by rw [show (0 : Int32).toInt.toNat = 0 from (by decide)]; exact cp_0)⟩
  obtain ⟨v14, f15⟩ := zz
  obtain ⟨hP, hD, hS, hl, bv14, hcp⟩ := hI
  have bv14 : (0 ≤ v14.toInt ∧ v14.toInt ≤ 192) := bv14
  have hcp : f15 = va_cpy g_b g_t ka kb v14.toInt.toNat := hcp
  have hP : va_P D vwCl [(b, .inl (kI, 384, .inl g_b)), (b2, .inl (kI, 192, .inl f15))] H := hP
  have hD : va_D A [(b, .inl (kI, 384, .inl g_b)), (b2, .inl (kI, 192, .inl f15))] := hD
  have hK : va_K D vwCl [(kI, .int)] s := hK
  have hl : lv_has ls 5 [(0, .ref b), (1, .int i_a), (2, .ref b2), (3, .int i_b), (4, .int v14)] := hl
  refine W.eq (g2 := F0 m 3 ls []) rfl ?_
  refine lv_iload hx hb dX10_copies_3 (lv_at hl 4 rfl) ?_
  refine lv_sipush (v := 192) hx hb dX10_copies_5 (by decide) ?_
  refine lv_icmp_ge (tgt := 29) hx hb dX10_copies_8 (by decide) (fun c17 => ?_) (fun c17 => ?_)
  · have nc17 : 192 ≤ v14.toInt := pw_le c17 (by decide) rfl
    have hP9 := hP.sub (ws' := [(b, .inl (kI, 384, .inl g_b)), (b2, .inl (kI, 192, .inl f15))]) [0, 1] rfl
    have hD9 := hD.sub (ws' := [(b, .inl (kI, 384, .inl g_b)), (b2, .inl (kI, 192, .inl f15))]) [0, 1] (by decide) rfl
    have hK9 := hK.sub (tys' := [(kI, .int)]) [0] rfl
    refine W.widen (k := 0) (n := 0) (Nat.le_of_ble_eq_true rfl) (Nat.le_of_ble_eq_true rfl) ?_
    exact W.vret hx hb hr (fun t ht hW => ⟨⟨(), rfl, trivial, f15, by rw [ht]; exact hP9, va_K.moved hW.alike hK9, hD9, (by have h9 := hcp; rw [show v14.toInt.toNat = 192 by omega] at h9; exact h9)⟩, hS.F ht⟩) hS.2.2 dX10_copies_29
  · have nc17 : v14.toInt < 192 := pw_nle c17 (by decide) rfl
    refine lv_aload_n hx hb dX10_copies_11 rfl (lv_at hl 2 rfl) ?_
    refine lv_iload_n hx hb dX10_copies_12 rfl (lv_at hl 3 rfl) ?_
    refine lv_iload hx hb dX10_copies_13 (lv_at hl 4 rfl) ?_
    refine lv_iadd hx hb dX10_copies_15 ?_
    refine lv_topi (fun x18 ex18 => ?_)
    have tx18 : x18.toInt = i_b.toInt + v14.toInt := pw_addX ex18 rfl rfl (by omega) (by omega)
    refine lv_aload_n hx hb dX10_copies_16 rfl (lv_at hl 0 rfl) ?_
    refine lv_iload_n hx hb dX10_copies_17 rfl (lv_at hl 1 rfl) ?_
    refine lv_iload hx hb dX10_copies_18 (lv_at hl 4 rfl) ?_
    refine lv_iadd hx hb dX10_copies_20 ?_
    refine lv_topi (fun x19 ex19 => ?_)
    have tx19 : x19.toInt = i_a.toInt + v14.toInt := pw_addX ex19 rfl rfl (by omega) (by omega)
    refine va_iald hx hb hK hP 0 0 rfl rfl (vp_in_iff.mpr ⟨by omega, by omega⟩) dX10_copies_21 ?_
    refine lv_topi (fun x20 ex20 => ?_)
    refine va_iast hx hb hK hP hD hS 1 0 rfl rfl (vp_in_iff.mpr ⟨by omega, by omega⟩) dX10_copies_22 (fun H locs hP hD hS => ?_)
    obtain ⟨g21, eg21⟩ : ∃ g : Nat → Int32, g = upd f15 (x18 : Int32).toNatClampNeg x20 := ⟨_, rfl⟩
    have hP : va_P D vwCl [(b, .inl (kI, 384, .inl g_b)), (b2, .inl (kI, 192, .inl (upd f15 (x18 : Int32).toNatClampNeg x20)))] H := hP
    have hD : va_D A [(b, .inl (kI, 384, .inl g_b)), (b2, .inl (kI, 192, .inl (upd f15 (x18 : Int32).toNatClampNeg x20)))] := hD
    have hK : va_K D vwCl [(kI, .int)] s := hK
    rw [← eg21] at hP hD
    obtain ⟨x22, ex22⟩ : ∃ y : Int32, y = v14 + 1 := ⟨_, rfl⟩
    have tx22 : x22.toInt = v14.toInt + 1 := pw_addX ex22 rfl (by decide) (by omega) (by omega)
    refine lv_iinc (v := x22) (lv' := [(4, .int x22), (0, .ref b), (1, .int i_a), (2, .ref b2), (3, .int i_b)]) hx hb dX10_copies_23 hl (k := 4) rfl (by rw [ex22]; rfl) (by decide) rfl (fun ls hl => ?_)
    refine lv_goto (tgt := 3) hx hb dX10_copies_26 (by decide) ?_
    have hP9 : va_P D vwCl [(b, .inl (kI, 384, .inl g_b)), (b2, .inl (kI, 192, .inl g21))] H := hP.sub [0, 1] rfl
    have hD9 : va_D A [(b, .inl (kI, 384, .inl g_b)), (b2, .inl (kI, 192, .inl g21))] := hD.sub [0, 1] (by decide) rfl
    have hl9 : lv_has ls 5 [(0, .ref b), (1, .int i_a), (2, .ref b2), (3, .int i_b), (4, .int x22)] := lv_sub hl [1, 2, 3, 4, 0] rfl
    refine W.widen (k := 0) (n := 0) (Nat.le_of_ble_eq_true rfl) (Nat.le_of_ble_eq_true rfl) ?_
    exact ih16 (x22, g21) _ _ _ (pw_up ex22 (by omega)) ⟨hP9, hD9, hS, hl9, (by omega), (by rw [show x22.toInt.toNat = v14.toInt.toNat + 1 by omega]; exact cp_step hcp eg21 (by omega) (at_nat ex20 (by omega)))⟩
def w_X10_notes : List Cond := .code yX10_notes cX10_notes 2 none :: ([.fieldLink RX10 195 "LineCitesModel" "acts" "I", .fieldLink RX10 7 "LineCitesModel" "now" "[I", .fieldLink RX10 16 "LineCitesModel" "past" "[I", .methodLink RX10 191 yX10_copies, .static yX10_copies, .initialized RX10, .code yX10_copies cX10_copies 5 none] ++ wsX100)
set_option maxRecDepth 20000 in
theorem g_X10_notes_X10_copies__np : GoodIn w_X10_notes (wsS RX10 191 yX10_copies w_X10_copies__np) := goodIn_r _ [4, 5, 6, 7] rfl (by decide +kernel)
set_option maxHeartbeats 4000000 in
set_option maxRecDepth 100000 in
theorem c_X10_notes (l : Launch) (D : va_G) (h0 : Nat) (m_now : Nat) (m_draft : Nat) (m_past : Nat) (j_acts : Int32) (m_images : Nat) (m_kept : Nat) (m_tape : Nat) (j_taped : Int32) (j_at : Int32) (j_start : Int32) (j_token : Int32) (j_value : Int32) (j_fault : Int32) (j_place : Int32) (j_latest : Int32) (m_low : Nat) (m_high : Nat) (m_first : Nat) (m_second : Nat) (m_lines : Nat) (m_others : Nat) (j_shiftFirst : Int32) (j_shiftMany : Int32) (j_shiftLow : Int32) (j_shiftHigh : Int32) (kI : ClassId) (g_now : Nat → Int32) (g_past : Nat → Int32) (sz : Nat) (hN1 : 1 ≤ (g_now 0).toInt) (h0j_acts : 0 ≤ j_acts.toInt) (h1j_acts : j_acts.toInt ≤ 10) (hPb : pB g_past j_acts.toInt) (hg_now : gV g_now) : Met l yX10_notes w_X10_notes ({ frames := 1, cells := 0, slots := 0, locals := 24 }) (va_Pc [.ref h0] (fun U => U.heap.size = sz ∧ va_P D vwCl [(h0, .inr (10, [.ref m_now, .ref m_draft, .ref m_past, .int j_acts, .ref m_images, .ref m_kept, .ref m_tape, .int j_taped, .int j_at, .int j_start, .int j_token, .int j_value, .int j_fault, .int j_place, .int j_latest, .ref m_low, .ref m_high, .ref m_first, .ref m_second, .ref m_lines, .ref m_others, .int j_shiftFirst, .int j_shiftMany, .int j_shiftLow, .int j_shiftHigh])), (m_now, .inl (kI, 192, .inl g_now)), (m_past, .inl (kI, 1920, .inl g_past))] U.heap ∧ va_K D vwCl [(kI, .int)] U ∧ va_D (fun _ => True) [(h0, .inr (10, [.ref m_now, .ref m_draft, .ref m_past, .int j_acts, .ref m_images, .ref m_kept, .ref m_tape, .int j_taped, .int j_at, .int j_start, .int j_token, .int j_value, .int j_fault, .int j_place, .int j_latest, .ref m_low, .ref m_high, .ref m_first, .ref m_second, .ref m_lines, .ref m_others, .int j_shiftFirst, .int j_shiftMany, .int j_shiftLow, .int j_shiftHigh])), (m_now, .inl (kI, 192, .inl g_now)), (m_past, .inl (kI, 1920, .inl g_past))])) (va_Qv (fun (_ : Unit) => True) (fun (_ : Unit) t => ∃ (n_acts : Int32) (n_past : Nat → Int32), va_P D vwCl [(h0, .inr (10, [.ref m_now, .ref m_draft, .ref m_past, .int n_acts, .ref m_images, .ref m_kept, .ref m_tape, .int j_taped, .int j_at, .int j_start, .int j_token, .int j_value, .int j_fault, .int j_place, .int j_latest, .ref m_low, .ref m_high, .ref m_first, .ref m_second, .ref m_lines, .ref m_others, .int j_shiftFirst, .int j_shiftMany, .int j_shiftLow, .int j_shiftHigh])), (m_now, .inl (kI, 192, .inl g_now)), (m_past, .inl (kI, 1920, .inl n_past))] t.heap ∧ va_K D vwCl [(kI, .int)] t ∧ va_D (va_A [(h0, .inr (10, [.ref m_now, .ref m_draft, .ref m_past, .int j_acts, .ref m_images, .ref m_kept, .ref m_tape, .int j_taped, .int j_at, .int j_start, .int j_token, .int j_value, .int j_fault, .int j_place, .int j_latest, .ref m_low, .ref m_high, .ref m_first, .ref m_second, .ref m_lines, .ref m_others, .int j_shiftFirst, .int j_shiftMany, .int j_shiftLow, .int j_shiftHigh])), (m_now, .inl (kI, 192, .inl g_now)), (m_past, .inl (kI, 1920, .inl g_past))] sz) [(h0, .inr (10, [.ref m_now, .ref m_draft, .ref m_past, .int n_acts, .ref m_images, .ref m_kept, .ref m_tape, .int j_taped, .int j_at, .int j_start, .int j_token, .int j_value, .int j_fault, .int j_place, .int j_latest, .ref m_low, .ref m_high, .ref m_first, .ref m_second, .ref m_lines, .ref m_others, .int j_shiftFirst, .int j_shiftMany, .int j_shiftLow, .int j_shiftHigh])), (m_now, .inl (kI, 192, .inl g_now)), (m_past, .inl (kI, 1920, .inl n_past))] ∧ (0 ≤ n_acts.toInt ∧ n_acts.toInt ≤ 10) ∧ pB n_past n_acts.toInt) (va_A [(h0, .inr (10, [.ref m_now, .ref m_draft, .ref m_past, .int j_acts, .ref m_images, .ref m_kept, .ref m_tape, .int j_taped, .int j_at, .int j_start, .int j_token, .int j_value, .int j_fault, .int j_place, .int j_latest, .ref m_low, .ref m_high, .ref m_first, .ref m_second, .ref m_lines, .ref m_others, .int j_shiftFirst, .int j_shiftMany, .int j_shiftLow, .int j_shiftHigh])), (m_now, .inl (kI, 192, .inl g_now)), (m_past, .inl (kI, 1920, .inl g_past))] sz)) 0 0 (va_A [(h0, .inr (10, [.ref m_now, .ref m_draft, .ref m_past, .int j_acts, .ref m_images, .ref m_kept, .ref m_tape, .int j_taped, .int j_at, .int j_start, .int j_token, .int j_value, .int j_fault, .int j_place, .int j_latest, .ref m_low, .ref m_high, .ref m_first, .ref m_second, .ref m_lines, .ref m_others, .int j_shiftFirst, .int j_shiftMany, .int j_shiftLow, .int j_shiftHigh])), (m_now, .inl (kI, 192, .inl g_now)), (m_past, .inl (kI, 1920, .inl g_past))] sz) := by
  refine Met.ofW (cc := cX10_notes) (maxL := 2) (ret := none) (by decide) rfl ?_
  intro p e s m args below meth c s₁ B hml hv
  obtain ⟨rfl, hsz, hP, hK, hD0⟩ := hv
  have hx := B.exec
  have hb := B.bytes
  have hr := B.returns
  have hts := atoms_spec (ws := w_X10_notes) B.pre
  have hown : s.vm.findClass RX10 = some m.cls := findClass_of_methodNamed B.named
  have hlocks := B.notSynchronized
  subst hsz
  have hD := hD0.self (sz := s.heap.size)
  generalize hAe : va_A [(h0, .inr (10, [.ref m_now, .ref m_draft, .ref m_past, .int j_acts, .ref m_images, .ref m_kept, .ref m_tape, .int j_taped, .int j_at, .int j_start, .int j_token, .int j_value, .int j_fault, .int j_place, .int j_latest, .ref m_low, .ref m_high, .ref m_first, .ref m_second, .ref m_lines, .ref m_others, .int j_shiftFirst, .int j_shiftMany, .int j_shiftLow, .int j_shiftHigh])), (m_now, .inl (kI, 192, .inl g_now)), (m_past, .inl (kI, 1920, .inl g_past))] s.heap.size = A at hD ⊢
  have hA : ∀ q : Nat, s.heap.size ≤ q → A q := fun q h => by rw [← hAe]; exact Or.inr h
  have hS : va_S A s.heap s.heap [] := va_S.rf
  have hP : va_P D vwCl [(h0, .inr (10, [.ref m_now, .ref m_draft, .ref m_past, .int j_acts, .ref m_images, .ref m_kept, .ref m_tape, .int j_taped, .int j_at, .int j_start, .int j_token, .int j_value, .int j_fault, .int j_place, .int j_latest, .ref m_low, .ref m_high, .ref m_first, .ref m_second, .ref m_lines, .ref m_others, .int j_shiftFirst, .int j_shiftMany, .int j_shiftLow, .int j_shiftHigh])), (m_now, .inl (kI, 192, .inl g_now)), (m_past, .inl (kI, 1920, .inl g_past))] s.heap := hP
  have hl := lv_entry ([.ref h0]) (n := 2) (Nat.le_of_ble_eq_true rfl)
  rw [lg_entry_eq]
  generalize (lg_sl ([.ref h0]) ++ List.replicate (2 - (lg_sl ([.ref h0])).length) Slot.unset).toArray = ls at hl ⊢
  have hl : lv_has ls 2 [(0, .ref h0)] := hl
  obtain ⟨H, hHe⟩ : ∃ H : Heap, H = s.heap := ⟨_, rfl⟩
  rw [← hHe] at hP
  have hS : va_S A s.heap H [] := by rw [hHe]; exact hS
  refine pw_heap hHe ?_
  refine lv_aload_n hx hb dX10_notes_0 rfl (lv_at hl 0 rfl) ?_
  refine va_get (D := D) (ci := 10) (v := .int j_acts) (C := RX10) (T := TX10) (N := 25) hx hb hts (fun _ h => List.mem_cons_of_mem _ (List.mem_append_right _ h)) hown hK hP 0 rfl rfl 3 (by decide) (hts (.fieldLink RX10 195 "LineCitesModel" "acts" "I") (List.mem_of_getElem? (i := 1) rfl)) (fun _ h9 => h9) rfl dX10_notes_1 ?_
  refine lv_bipush (v := 10) hx hb dX10_notes_4 (by decide) ?_
  refine lv_icmp_ne (tgt := 50) hx hb dX10_notes_6 (by decide) (fun c1 => ?_) (fun c1 => ?_)
  · have nc1 : j_acts.toInt ≠ 10 := pw_ne c1 rfl (by decide)
    refine lv_aload_n hx hb dX10_notes_50 rfl (lv_at hl 0 rfl) ?_
    refine va_get (D := D) (ci := 10) (v := .ref m_now) (C := RX10) (T := TX10) (N := 25) hx hb hts (fun _ h => List.mem_cons_of_mem _ (List.mem_append_right _ h)) hown hK hP 0 rfl rfl 0 (by decide) (hts (.fieldLink RX10 7 "LineCitesModel" "now" "[I") (List.mem_of_getElem? (i := 2) rfl)) (fun _ h9 => h9) rfl dX10_notes_51 ?_
    refine lv_iconst (v := 0) hx hb dX10_notes_54 (by decide) ?_
    refine lv_aload_n hx hb dX10_notes_55 rfl (lv_at hl 0 rfl) ?_
    refine va_get (D := D) (ci := 10) (v := .ref m_past) (C := RX10) (T := TX10) (N := 25) hx hb hts (fun _ h => List.mem_cons_of_mem _ (List.mem_append_right _ h)) hown hK hP 0 rfl rfl 2 (by decide) (hts (.fieldLink RX10 16 "LineCitesModel" "past" "[I") (List.mem_of_getElem? (i := 3) rfl)) (fun _ h9 => h9) rfl dX10_notes_56 ?_
    refine lv_sipush (v := 192) hx hb dX10_notes_59 (by decide) ?_
    refine lv_aload_n hx hb dX10_notes_62 rfl (lv_at hl 0 rfl) ?_
    refine va_get (D := D) (ci := 10) (v := .int j_acts) (C := RX10) (T := TX10) (N := 25) hx hb hts (fun _ h => List.mem_cons_of_mem _ (List.mem_append_right _ h)) hown hK hP 0 rfl rfl 3 (by decide) (hts (.fieldLink RX10 195 "LineCitesModel" "acts" "I") (List.mem_of_getElem? (i := 1) rfl)) (fun _ h9 => h9) rfl dX10_notes_63 ?_
    refine lv_imul hx hb dX10_notes_66 ?_
    refine lv_topi (fun x2 ex2 => ?_)
    have tx2 : x2.toInt = 192 * j_acts.toInt := pw_mulX ex2 (by decide) rfl (by omega) (by omega)
    have kk0 : (0 : Int32).toInt = 0 := by decide
    have hPc := hP.sub (ws' := [(m_now, .inl (kI, 192, .inl g_now)), (m_past, .inl (kI, 1920, .inl g_past))]) [1, 2] rfl
    have hKc := hK.sub (tys' := [(kI, .int)]) [0] rfl
    have hDc := hD.sub (ws' := [(m_now, .inl (kI, 192, .inl g_now)), (m_past, .inl (kI, 1920, .inl g_past))]) [1, 2] (by decide) rfl
    have hFc := va_free (wc := [(m_now, .inl (kI, 192, .inl g_now)), (m_past, .inl (kI, 1920, .inl g_past))]) hD hS hA [1, 2] rfl
    refine va_callv (va_runS (As := [.ref m_now, .int 0, .ref m_past, .int x2]) (rest := []) ⟨hx, hb, hml, hown, hts⟩ (c_X10_copies__np l D m_now 0 m_past x2 kI g_now g_past 0 x2.toInt.toNat H.size (by first | decide | omega) (by first | decide | omega) (by first | decide | omega) (by first | decide | omega) (by first | omega | decide | (have hz0 : (0 : Int32).toInt = 0 := (by decide); omega)) (by first | omega | decide | (have hz0 : (0 : Int32).toInt = 0 := (by decide); omega))) (cwS 4 hts g_X10_notes_X10_copies__np rfl rfl rfl (by decide +kernel) ⟨Nat.le_of_ble_eq_true rfl, Nat.le_of_ble_eq_true rfl⟩) ⟨fun a U g mk q => by obtain ⟨q0, q1, qP, qK, qD⟩ := q; exact ⟨q0, q1, qP, va_K.moved (u := U) (U := U.calling g mk a) (Vm.Alike.refl U.vm) qK, qD⟩, fun U hU hW => ⟨rfl, by rw [hU], by rw [hU]; exact hPc, va_K.moved hW.alike hKc, hDc.weaken (fun _ _ _ _ => trivial)⟩⟩ rfl rfl hl.1 rfl (lv_room (Nat.le_of_ble_eq_true rfl)) dX10_notes_67 ⟨Nat.le_of_ble_eq_true rfl, Nat.le_of_ble_eq_true rfl⟩) hS (fun q _ h => hFc q h) hFc (fun u t H1 locs ht hvm hw hB hz1 hk1 hS => ?_)
    obtain ⟨y4, hP1, hK1, hD1, px0_r3⟩ := hB
    rw [ht] at hP1
    have hK1 := va_K.moved hvm.symm hK1
    obtain ⟨hP, hD⟩ := va_join (wr := [(h0, .inr (10, [.ref m_now, .ref m_draft, .ref m_past, .int j_acts, .ref m_images, .ref m_kept, .ref m_tape, .int j_taped, .int j_at, .int j_start, .int j_token, .int j_value, .int j_fault, .int j_place, .int j_latest, .ref m_low, .ref m_high, .ref m_first, .ref m_second, .ref m_lines, .ref m_others, .int j_shiftFirst, .int j_shiftMany, .int j_shiftLow, .int j_shiftHigh]))]) (w1 := [(m_now, .inl (kI, 192, .inl g_now)), (m_past, .inl (kI, 1920, .inl y4))]) hP hD [1, 2] [0] rfl rfl (by decide) (by decide) hk1 hFc hP1 hD1
    have hK := (hK.sub (tys' := [(kI, .int)]) [0] rfl).app hK1
    generalize H1 = H at hP hS ⊢
    have hP : va_P D vwCl [(h0, .inr (10, [.ref m_now, .ref m_draft, .ref m_past, .int j_acts, .ref m_images, .ref m_kept, .ref m_tape, .int j_taped, .int j_at, .int j_start, .int j_token, .int j_value, .int j_fault, .int j_place, .int j_latest, .ref m_low, .ref m_high, .ref m_first, .ref m_second, .ref m_lines, .ref m_others, .int j_shiftFirst, .int j_shiftMany, .int j_shiftLow, .int j_shiftHigh])), (m_now, .inl (kI, 192, .inl g_now)), (m_past, .inl (kI, 1920, .inl y4))] H := hP
    have hD : va_D A [(h0, .inr (10, [.ref m_now, .ref m_draft, .ref m_past, .int j_acts, .ref m_images, .ref m_kept, .ref m_tape, .int j_taped, .int j_at, .int j_start, .int j_token, .int j_value, .int j_fault, .int j_place, .int j_latest, .ref m_low, .ref m_high, .ref m_first, .ref m_second, .ref m_lines, .ref m_others, .int j_shiftFirst, .int j_shiftMany, .int j_shiftLow, .int j_shiftHigh])), (m_now, .inl (kI, 192, .inl g_now)), (m_past, .inl (kI, 1920, .inl y4))] := hD
    have hK : va_K D vwCl [(kI, .int), (kI, .int)] s := hK
    refine W.widen (k := 0) (n := 0) (Nat.le_of_ble_eq_true rfl) (Nat.le_of_ble_eq_true rfl) ?_
    refine lv_aload_n hx hb dX10_notes_70 rfl (lv_at hl 0 rfl) ?_
    refine lv_dup hx hb dX10_notes_71 rfl ?_
    refine va_get (D := D) (ci := 10) (v := .int j_acts) (C := RX10) (T := TX10) (N := 25) hx hb hts (fun _ h => List.mem_cons_of_mem _ (List.mem_append_right _ h)) hown hK hP 0 rfl rfl 3 (by decide) (hts (.fieldLink RX10 195 "LineCitesModel" "acts" "I") (List.mem_of_getElem? (i := 1) rfl)) (fun _ h9 => h9) rfl dX10_notes_72 ?_
    refine lv_iconst (v := 1) hx hb dX10_notes_75 (by decide) ?_
    refine lv_iadd hx hb dX10_notes_76 ?_
    refine lv_topi (fun x5 ex5 => ?_)
    have tx5 : x5.toInt = j_acts.toInt + 1 := pw_addX ex5 rfl (by decide) (by omega) (by omega)
    refine va_put (D := D) (ci := 10) (v := .int x5) (ty := .int) (C := RX10) (T := TX10) (N := 25) hx hb hts (fun _ h => List.mem_cons_of_mem _ (List.mem_append_right _ h)) tyX10 tyX10_ok nmX10 hown hK hP hD hS 0 rfl rfl 3 (by decide) (hts (.fieldLink RX10 195 "LineCitesModel" "acts" "I") (List.mem_of_getElem? (i := 1) rfl)) (fun _ h9 => h9) rfl (by decide +kernel) rfl rfl (Nat.le_of_ble_eq_true rfl) dX10_notes_77 (fun H locs hP hD hS => ?_)
    have hP : va_P D vwCl [(h0, .inr (10, [.ref m_now, .ref m_draft, .ref m_past, .int x5, .ref m_images, .ref m_kept, .ref m_tape, .int j_taped, .int j_at, .int j_start, .int j_token, .int j_value, .int j_fault, .int j_place, .int j_latest, .ref m_low, .ref m_high, .ref m_first, .ref m_second, .ref m_lines, .ref m_others, .int j_shiftFirst, .int j_shiftMany, .int j_shiftLow, .int j_shiftHigh])), (m_now, .inl (kI, 192, .inl g_now)), (m_past, .inl (kI, 1920, .inl y4))] H := hP
    have hD : va_D A [(h0, .inr (10, [.ref m_now, .ref m_draft, .ref m_past, .int x5, .ref m_images, .ref m_kept, .ref m_tape, .int j_taped, .int j_at, .int j_start, .int j_token, .int j_value, .int j_fault, .int j_place, .int j_latest, .ref m_low, .ref m_high, .ref m_first, .ref m_second, .ref m_lines, .ref m_others, .int j_shiftFirst, .int j_shiftMany, .int j_shiftLow, .int j_shiftHigh])), (m_now, .inl (kI, 192, .inl g_now)), (m_past, .inl (kI, 1920, .inl y4))] := hD
    have hK : va_K D vwCl [(kI, .int), (kI, .int)] s := hK
    have hP9 := hP.sub (ws' := [(h0, .inr (10, [.ref m_now, .ref m_draft, .ref m_past, .int x5, .ref m_images, .ref m_kept, .ref m_tape, .int j_taped, .int j_at, .int j_start, .int j_token, .int j_value, .int j_fault, .int j_place, .int j_latest, .ref m_low, .ref m_high, .ref m_first, .ref m_second, .ref m_lines, .ref m_others, .int j_shiftFirst, .int j_shiftMany, .int j_shiftLow, .int j_shiftHigh])), (m_now, .inl (kI, 192, .inl g_now)), (m_past, .inl (kI, 1920, .inl y4))]) [0, 1, 2] rfl
    have hD9 := hD.sub (ws' := [(h0, .inr (10, [.ref m_now, .ref m_draft, .ref m_past, .int x5, .ref m_images, .ref m_kept, .ref m_tape, .int j_taped, .int j_at, .int j_start, .int j_token, .int j_value, .int j_fault, .int j_place, .int j_latest, .ref m_low, .ref m_high, .ref m_first, .ref m_second, .ref m_lines, .ref m_others, .int j_shiftFirst, .int j_shiftMany, .int j_shiftLow, .int j_shiftHigh])), (m_now, .inl (kI, 192, .inl g_now)), (m_past, .inl (kI, 1920, .inl y4))]) [0, 1, 2] (by decide) rfl
    have hK9 := hK.sub (tys' := [(kI, .int)]) [0] rfl
    refine W.widen (k := 0) (n := 0) (Nat.le_of_ble_eq_true rfl) (Nat.le_of_ble_eq_true rfl) ?_
    exact W.vret hx hb hr (fun t ht hW => ⟨⟨(), rfl, trivial, x5, y4, by rw [ht]; exact hP9, va_K.moved hW.alike hK9, hD9, (by omega), (pB_put hPb ⟨hg_now, hN1⟩ (by omega) (by omega) px0_r3 (by omega))⟩, hS.F ht⟩) hS.2.2 dX10_notes_80
  · have nc1 : j_acts.toInt = 10 := pw_eq c1 rfl (by decide)
    refine lv_iconst (v := 0) hx hb dX10_notes_9 (by decide) ?_
    refine lv_istore_n (lv' := [(1, .int 0), (0, .ref h0)]) hx hb dX10_notes_10 rfl hl (by decide) rfl (fun ls hl => ?_)
    have hl9 : lv_has ls 2 [(0, .ref h0), (1, .int 0)] := lv_sub hl [1, 0] rfl
    refine pw_loop (fun (zz : Int32 × (Nat → Int32)) H locs ls => match zz with | (v22, f23) => va_P D vwCl [(h0, .inr (10, [.ref m_now, .ref m_draft, .ref m_past, .int j_acts, .ref m_images, .ref m_kept, .ref m_tape, .int j_taped, .int j_at, .int j_start, .int j_token, .int j_value, .int j_fault, .int j_place, .int j_latest, .ref m_low, .ref m_high, .ref m_first, .ref m_second, .ref m_lines, .ref m_others, .int j_shiftFirst, .int j_shiftMany, .int j_shiftLow, .int j_shiftHigh])), (m_now, .inl (kI, 192, .inl g_now)), (m_past, .inl (kI, 1920, .inl f23))] H ∧ va_D A [(h0, .inr (10, [.ref m_now, .ref m_draft, .ref m_past, .int j_acts, .ref m_images, .ref m_kept, .ref m_tape, .int j_taped, .int j_at, .int j_start, .int j_token, .int j_value, .int j_fault, .int j_place, .int j_latest, .ref m_low, .ref m_high, .ref m_first, .ref m_second, .ref m_lines, .ref m_others, .int j_shiftFirst, .int j_shiftMany, .int j_shiftLow, .int j_shiftHigh])), (m_now, .inl (kI, 192, .inl g_now)), (m_past, .inl (kI, 1920, .inl f23))] ∧ va_S A s.heap H locs ∧ lv_has ls 2 [(0, .ref h0), (1, .int v22)] ∧ (0 ≤ v22.toInt ∧ v22.toInt ≤ 1728) ∧ shI f23 g_past v22.toInt) (fun (zz : Int32 × (Nat → Int32))  => match zz with | (v22, f23) => (2147483648 - v22.toInt).toNat) 0 0 (fun (zz : Int32 × (Nat → Int32)) ls => match zz with | (v22, f23) => F0 m 11 ls []) (fun zz H locs ls ih24 hI => ?_) (0, g_past) _ _ _ ⟨hP, hD, hS, hl9, (by decide), (shI_0 (by decide))⟩
    obtain ⟨v22, f23⟩ := zz
    obtain ⟨hP, hD, hS, hl, bv22, hsh⟩ := hI
    have bv22 : (0 ≤ v22.toInt ∧ v22.toInt ≤ 1728) := bv22
    have hsh : shI f23 g_past v22.toInt := hsh
    have hP : va_P D vwCl [(h0, .inr (10, [.ref m_now, .ref m_draft, .ref m_past, .int j_acts, .ref m_images, .ref m_kept, .ref m_tape, .int j_taped, .int j_at, .int j_start, .int j_token, .int j_value, .int j_fault, .int j_place, .int j_latest, .ref m_low, .ref m_high, .ref m_first, .ref m_second, .ref m_lines, .ref m_others, .int j_shiftFirst, .int j_shiftMany, .int j_shiftLow, .int j_shiftHigh])), (m_now, .inl (kI, 192, .inl g_now)), (m_past, .inl (kI, 1920, .inl f23))] H := hP
    have hD : va_D A [(h0, .inr (10, [.ref m_now, .ref m_draft, .ref m_past, .int j_acts, .ref m_images, .ref m_kept, .ref m_tape, .int j_taped, .int j_at, .int j_start, .int j_token, .int j_value, .int j_fault, .int j_place, .int j_latest, .ref m_low, .ref m_high, .ref m_first, .ref m_second, .ref m_lines, .ref m_others, .int j_shiftFirst, .int j_shiftMany, .int j_shiftLow, .int j_shiftHigh])), (m_now, .inl (kI, 192, .inl g_now)), (m_past, .inl (kI, 1920, .inl f23))] := hD
    have hK : va_K D vwCl [(kI, .int)] s := hK
    have hl : lv_has ls 2 [(0, .ref h0), (1, .int v22)] := hl
    refine W.eq (g2 := F0 m 11 ls []) rfl ?_
    refine lv_iload_n hx hb dX10_notes_11 rfl (lv_at hl 1 rfl) ?_
    refine lv_sipush (v := 1728) hx hb dX10_notes_12 (by decide) ?_
    refine lv_icmp_ge (tgt := 40) hx hb dX10_notes_15 (by decide) (fun c25 => ?_) (fun c25 => ?_)
    · have nc25 : 1728 ≤ v22.toInt := pw_le c25 (by decide) rfl
      refine lv_aload_n hx hb dX10_notes_40 rfl (lv_at hl 0 rfl) ?_
      refine lv_dup hx hb dX10_notes_41 rfl ?_
      refine va_get (D := D) (ci := 10) (v := .int j_acts) (C := RX10) (T := TX10) (N := 25) hx hb hts (fun _ h => List.mem_cons_of_mem _ (List.mem_append_right _ h)) hown hK hP 0 rfl rfl 3 (by decide) (hts (.fieldLink RX10 195 "LineCitesModel" "acts" "I") (List.mem_of_getElem? (i := 1) rfl)) (fun _ h9 => h9) rfl dX10_notes_42 ?_
      refine lv_iconst (v := 1) hx hb dX10_notes_45 (by decide) ?_
      refine lv_isub hx hb dX10_notes_46 ?_
      refine lv_topi (fun x26 ex26 => ?_)
      have tx26 : x26.toInt = j_acts.toInt - 1 := pw_subX ex26 rfl (by decide) (by omega) (by omega)
      refine va_put (D := D) (ci := 10) (v := .int x26) (ty := .int) (C := RX10) (T := TX10) (N := 25) hx hb hts (fun _ h => List.mem_cons_of_mem _ (List.mem_append_right _ h)) tyX10 tyX10_ok nmX10 hown hK hP hD hS 0 rfl rfl 3 (by decide) (hts (.fieldLink RX10 195 "LineCitesModel" "acts" "I") (List.mem_of_getElem? (i := 1) rfl)) (fun _ h9 => h9) rfl (by decide +kernel) rfl rfl (Nat.le_of_ble_eq_true rfl) dX10_notes_47 (fun H locs hP hD hS => ?_)
      have hP : va_P D vwCl [(h0, .inr (10, [.ref m_now, .ref m_draft, .ref m_past, .int x26, .ref m_images, .ref m_kept, .ref m_tape, .int j_taped, .int j_at, .int j_start, .int j_token, .int j_value, .int j_fault, .int j_place, .int j_latest, .ref m_low, .ref m_high, .ref m_first, .ref m_second, .ref m_lines, .ref m_others, .int j_shiftFirst, .int j_shiftMany, .int j_shiftLow, .int j_shiftHigh])), (m_now, .inl (kI, 192, .inl g_now)), (m_past, .inl (kI, 1920, .inl f23))] H := hP
      have hD : va_D A [(h0, .inr (10, [.ref m_now, .ref m_draft, .ref m_past, .int x26, .ref m_images, .ref m_kept, .ref m_tape, .int j_taped, .int j_at, .int j_start, .int j_token, .int j_value, .int j_fault, .int j_place, .int j_latest, .ref m_low, .ref m_high, .ref m_first, .ref m_second, .ref m_lines, .ref m_others, .int j_shiftFirst, .int j_shiftMany, .int j_shiftLow, .int j_shiftHigh])), (m_now, .inl (kI, 192, .inl g_now)), (m_past, .inl (kI, 1920, .inl f23))] := hD
      have hK : va_K D vwCl [(kI, .int)] s := hK
      refine lv_aload_n hx hb dX10_notes_50 rfl (lv_at hl 0 rfl) ?_
      refine va_get (D := D) (ci := 10) (v := .ref m_now) (C := RX10) (T := TX10) (N := 25) hx hb hts (fun _ h => List.mem_cons_of_mem _ (List.mem_append_right _ h)) hown hK hP 0 rfl rfl 0 (by decide) (hts (.fieldLink RX10 7 "LineCitesModel" "now" "[I") (List.mem_of_getElem? (i := 2) rfl)) (fun _ h9 => h9) rfl dX10_notes_51 ?_
      refine lv_iconst (v := 0) hx hb dX10_notes_54 (by decide) ?_
      refine lv_aload_n hx hb dX10_notes_55 rfl (lv_at hl 0 rfl) ?_
      refine va_get (D := D) (ci := 10) (v := .ref m_past) (C := RX10) (T := TX10) (N := 25) hx hb hts (fun _ h => List.mem_cons_of_mem _ (List.mem_append_right _ h)) hown hK hP 0 rfl rfl 2 (by decide) (hts (.fieldLink RX10 16 "LineCitesModel" "past" "[I") (List.mem_of_getElem? (i := 3) rfl)) (fun _ h9 => h9) rfl dX10_notes_56 ?_
      refine lv_sipush (v := 192) hx hb dX10_notes_59 (by decide) ?_
      refine lv_aload_n hx hb dX10_notes_62 rfl (lv_at hl 0 rfl) ?_
      refine va_get (D := D) (ci := 10) (v := .int x26) (C := RX10) (T := TX10) (N := 25) hx hb hts (fun _ h => List.mem_cons_of_mem _ (List.mem_append_right _ h)) hown hK hP 0 rfl rfl 3 (by decide) (hts (.fieldLink RX10 195 "LineCitesModel" "acts" "I") (List.mem_of_getElem? (i := 1) rfl)) (fun _ h9 => h9) rfl dX10_notes_63 ?_
      refine lv_imul hx hb dX10_notes_66 ?_
      refine lv_topi (fun x27 ex27 => ?_)
      have tx27 : x27.toInt = 192 * x26.toInt := pw_mulX ex27 (by decide) rfl (by omega) (by omega)
      have kk0 : (0 : Int32).toInt = 0 := by decide
      have hPc := hP.sub (ws' := [(m_now, .inl (kI, 192, .inl g_now)), (m_past, .inl (kI, 1920, .inl f23))]) [1, 2] rfl
      have hKc := hK.sub (tys' := [(kI, .int)]) [0] rfl
      have hDc := hD.sub (ws' := [(m_now, .inl (kI, 192, .inl g_now)), (m_past, .inl (kI, 1920, .inl f23))]) [1, 2] (by decide) rfl
      have hFc := va_free (wc := [(m_now, .inl (kI, 192, .inl g_now)), (m_past, .inl (kI, 1920, .inl f23))]) hD hS hA [1, 2] rfl
      refine va_callv (va_runS (As := [.ref m_now, .int 0, .ref m_past, .int x27]) (rest := []) ⟨hx, hb, hml, hown, hts⟩ (c_X10_copies__np l D m_now 0 m_past x27 kI g_now f23 0 x27.toInt.toNat H.size (by first | decide | omega) (by first | decide | omega) (by first | decide | omega) (by first | decide | omega) (by first | omega | decide | (have hz0 : (0 : Int32).toInt = 0 := (by decide); omega)) (by first | omega | decide | (have hz0 : (0 : Int32).toInt = 0 := (by decide); omega))) (cwS 4 hts g_X10_notes_X10_copies__np rfl rfl rfl (by decide +kernel) ⟨Nat.le_of_ble_eq_true rfl, Nat.le_of_ble_eq_true rfl⟩) ⟨fun a U g mk q => by obtain ⟨q0, q1, qP, qK, qD⟩ := q; exact ⟨q0, q1, qP, va_K.moved (u := U) (U := U.calling g mk a) (Vm.Alike.refl U.vm) qK, qD⟩, fun U hU hW => ⟨rfl, by rw [hU], by rw [hU]; exact hPc, va_K.moved hW.alike hKc, hDc.weaken (fun _ _ _ _ => trivial)⟩⟩ rfl rfl hl.1 rfl (lv_room (Nat.le_of_ble_eq_true rfl)) dX10_notes_67 ⟨Nat.le_of_ble_eq_true rfl, Nat.le_of_ble_eq_true rfl⟩) hS (fun q _ h => hFc q h) hFc (fun u t H1 locs ht hvm hw hB hz1 hk1 hS => ?_)
      obtain ⟨y29, hP1, hK1, hD1, px0_r28⟩ := hB
      rw [ht] at hP1
      have hK1 := va_K.moved hvm.symm hK1
      obtain ⟨hP, hD⟩ := va_join (wr := [(h0, .inr (10, [.ref m_now, .ref m_draft, .ref m_past, .int x26, .ref m_images, .ref m_kept, .ref m_tape, .int j_taped, .int j_at, .int j_start, .int j_token, .int j_value, .int j_fault, .int j_place, .int j_latest, .ref m_low, .ref m_high, .ref m_first, .ref m_second, .ref m_lines, .ref m_others, .int j_shiftFirst, .int j_shiftMany, .int j_shiftLow, .int j_shiftHigh]))]) (w1 := [(m_now, .inl (kI, 192, .inl g_now)), (m_past, .inl (kI, 1920, .inl y29))]) hP hD [1, 2] [0] rfl rfl (by decide) (by decide) hk1 hFc hP1 hD1
      have hK := (hK.sub (tys' := [(kI, .int)]) [0] rfl).app hK1
      generalize H1 = H at hP hS ⊢
      have hP : va_P D vwCl [(h0, .inr (10, [.ref m_now, .ref m_draft, .ref m_past, .int x26, .ref m_images, .ref m_kept, .ref m_tape, .int j_taped, .int j_at, .int j_start, .int j_token, .int j_value, .int j_fault, .int j_place, .int j_latest, .ref m_low, .ref m_high, .ref m_first, .ref m_second, .ref m_lines, .ref m_others, .int j_shiftFirst, .int j_shiftMany, .int j_shiftLow, .int j_shiftHigh])), (m_now, .inl (kI, 192, .inl g_now)), (m_past, .inl (kI, 1920, .inl y29))] H := hP
      have hD : va_D A [(h0, .inr (10, [.ref m_now, .ref m_draft, .ref m_past, .int x26, .ref m_images, .ref m_kept, .ref m_tape, .int j_taped, .int j_at, .int j_start, .int j_token, .int j_value, .int j_fault, .int j_place, .int j_latest, .ref m_low, .ref m_high, .ref m_first, .ref m_second, .ref m_lines, .ref m_others, .int j_shiftFirst, .int j_shiftMany, .int j_shiftLow, .int j_shiftHigh])), (m_now, .inl (kI, 192, .inl g_now)), (m_past, .inl (kI, 1920, .inl y29))] := hD
      have hK : va_K D vwCl [(kI, .int), (kI, .int)] s := hK
      refine W.widen (k := 0) (n := 0) (Nat.le_of_ble_eq_true rfl) (Nat.le_of_ble_eq_true rfl) ?_
      refine lv_aload_n hx hb dX10_notes_70 rfl (lv_at hl 0 rfl) ?_
      refine lv_dup hx hb dX10_notes_71 rfl ?_
      refine va_get (D := D) (ci := 10) (v := .int x26) (C := RX10) (T := TX10) (N := 25) hx hb hts (fun _ h => List.mem_cons_of_mem _ (List.mem_append_right _ h)) hown hK hP 0 rfl rfl 3 (by decide) (hts (.fieldLink RX10 195 "LineCitesModel" "acts" "I") (List.mem_of_getElem? (i := 1) rfl)) (fun _ h9 => h9) rfl dX10_notes_72 ?_
      refine lv_iconst (v := 1) hx hb dX10_notes_75 (by decide) ?_
      refine lv_iadd hx hb dX10_notes_76 ?_
      refine lv_topi (fun x30 ex30 => ?_)
      have tx30 : x30.toInt = x26.toInt + 1 := pw_addX ex30 rfl (by decide) (by omega) (by omega)
      refine va_put (D := D) (ci := 10) (v := .int x30) (ty := .int) (C := RX10) (T := TX10) (N := 25) hx hb hts (fun _ h => List.mem_cons_of_mem _ (List.mem_append_right _ h)) tyX10 tyX10_ok nmX10 hown hK hP hD hS 0 rfl rfl 3 (by decide) (hts (.fieldLink RX10 195 "LineCitesModel" "acts" "I") (List.mem_of_getElem? (i := 1) rfl)) (fun _ h9 => h9) rfl (by decide +kernel) rfl rfl (Nat.le_of_ble_eq_true rfl) dX10_notes_77 (fun H locs hP hD hS => ?_)
      have hP : va_P D vwCl [(h0, .inr (10, [.ref m_now, .ref m_draft, .ref m_past, .int x30, .ref m_images, .ref m_kept, .ref m_tape, .int j_taped, .int j_at, .int j_start, .int j_token, .int j_value, .int j_fault, .int j_place, .int j_latest, .ref m_low, .ref m_high, .ref m_first, .ref m_second, .ref m_lines, .ref m_others, .int j_shiftFirst, .int j_shiftMany, .int j_shiftLow, .int j_shiftHigh])), (m_now, .inl (kI, 192, .inl g_now)), (m_past, .inl (kI, 1920, .inl y29))] H := hP
      have hD : va_D A [(h0, .inr (10, [.ref m_now, .ref m_draft, .ref m_past, .int x30, .ref m_images, .ref m_kept, .ref m_tape, .int j_taped, .int j_at, .int j_start, .int j_token, .int j_value, .int j_fault, .int j_place, .int j_latest, .ref m_low, .ref m_high, .ref m_first, .ref m_second, .ref m_lines, .ref m_others, .int j_shiftFirst, .int j_shiftMany, .int j_shiftLow, .int j_shiftHigh])), (m_now, .inl (kI, 192, .inl g_now)), (m_past, .inl (kI, 1920, .inl y29))] := hD
      have hK : va_K D vwCl [(kI, .int), (kI, .int)] s := hK
      have hP9 := hP.sub (ws' := [(h0, .inr (10, [.ref m_now, .ref m_draft, .ref m_past, .int x30, .ref m_images, .ref m_kept, .ref m_tape, .int j_taped, .int j_at, .int j_start, .int j_token, .int j_value, .int j_fault, .int j_place, .int j_latest, .ref m_low, .ref m_high, .ref m_first, .ref m_second, .ref m_lines, .ref m_others, .int j_shiftFirst, .int j_shiftMany, .int j_shiftLow, .int j_shiftHigh])), (m_now, .inl (kI, 192, .inl g_now)), (m_past, .inl (kI, 1920, .inl y29))]) [0, 1, 2] rfl
      have hD9 := hD.sub (ws' := [(h0, .inr (10, [.ref m_now, .ref m_draft, .ref m_past, .int x30, .ref m_images, .ref m_kept, .ref m_tape, .int j_taped, .int j_at, .int j_start, .int j_token, .int j_value, .int j_fault, .int j_place, .int j_latest, .ref m_low, .ref m_high, .ref m_first, .ref m_second, .ref m_lines, .ref m_others, .int j_shiftFirst, .int j_shiftMany, .int j_shiftLow, .int j_shiftHigh])), (m_now, .inl (kI, 192, .inl g_now)), (m_past, .inl (kI, 1920, .inl y29))]) [0, 1, 2] (by decide) rfl
      have hK9 := hK.sub (tys' := [(kI, .int)]) [0] rfl
      refine W.widen (k := 0) (n := 0) (Nat.le_of_ble_eq_true rfl) (Nat.le_of_ble_eq_true rfl) ?_
      exact W.vret hx hb hr (fun t ht hW => ⟨⟨(), rfl, trivial, x30, y29, by rw [ht]; exact hP9, va_K.moved hW.alike hK9, hD9, (by omega), (pB_put (n := 9) (pB_sh hsh (by omega) (by rw [show (10 : Int) = j_acts.toInt by omega]; exact hPb)) ⟨hg_now, hN1⟩ (by omega) (by omega) px0_r28 (by omega))⟩, hS.F ht⟩) hS.2.2 dX10_notes_80
    · have nc25 : v22.toInt < 1728 := pw_nle c25 (by decide) rfl
      refine lv_aload_n hx hb dX10_notes_18 rfl (lv_at hl 0 rfl) ?_
      refine va_get (D := D) (ci := 10) (v := .ref m_past) (C := RX10) (T := TX10) (N := 25) hx hb hts (fun _ h => List.mem_cons_of_mem _ (List.mem_append_right _ h)) hown hK hP 0 rfl rfl 2 (by decide) (hts (.fieldLink RX10 16 "LineCitesModel" "past" "[I") (List.mem_of_getElem? (i := 3) rfl)) (fun _ h9 => h9) rfl dX10_notes_19 ?_
      refine lv_iload_n hx hb dX10_notes_22 rfl (lv_at hl 1 rfl) ?_
      refine lv_aload_n hx hb dX10_notes_23 rfl (lv_at hl 0 rfl) ?_
      refine va_get (D := D) (ci := 10) (v := .ref m_past) (C := RX10) (T := TX10) (N := 25) hx hb hts (fun _ h => List.mem_cons_of_mem _ (List.mem_append_right _ h)) hown hK hP 0 rfl rfl 2 (by decide) (hts (.fieldLink RX10 16 "LineCitesModel" "past" "[I") (List.mem_of_getElem? (i := 3) rfl)) (fun _ h9 => h9) rfl dX10_notes_24 ?_
      refine lv_iload_n hx hb dX10_notes_27 rfl (lv_at hl 1 rfl) ?_
      refine lv_sipush (v := 192) hx hb dX10_notes_28 (by decide) ?_
      refine lv_iadd hx hb dX10_notes_31 ?_
      refine lv_topi (fun x31 ex31 => ?_)
      have tx31 : x31.toInt = v22.toInt + 192 := pw_addX ex31 rfl (by decide) (by omega) (by omega)
      refine va_iald hx hb hK hP 2 0 rfl rfl (vp_in_iff.mpr ⟨by omega, by omega⟩) dX10_notes_32 ?_
      refine lv_topi (fun x32 ex32 => ?_)
      refine va_iast hx hb hK hP hD hS 2 0 rfl rfl (vp_in_iff.mpr ⟨by omega, by omega⟩) dX10_notes_33 (fun H locs hP hD hS => ?_)
      obtain ⟨g33, eg33⟩ : ∃ g : Nat → Int32, g = upd f23 (v22 : Int32).toNatClampNeg x32 := ⟨_, rfl⟩
      have hP : va_P D vwCl [(h0, .inr (10, [.ref m_now, .ref m_draft, .ref m_past, .int j_acts, .ref m_images, .ref m_kept, .ref m_tape, .int j_taped, .int j_at, .int j_start, .int j_token, .int j_value, .int j_fault, .int j_place, .int j_latest, .ref m_low, .ref m_high, .ref m_first, .ref m_second, .ref m_lines, .ref m_others, .int j_shiftFirst, .int j_shiftMany, .int j_shiftLow, .int j_shiftHigh])), (m_now, .inl (kI, 192, .inl g_now)), (m_past, .inl (kI, 1920, .inl (upd f23 (v22 : Int32).toNatClampNeg x32)))] H := hP
      have hD : va_D A [(h0, .inr (10, [.ref m_now, .ref m_draft, .ref m_past, .int j_acts, .ref m_images, .ref m_kept, .ref m_tape, .int j_taped, .int j_at, .int j_start, .int j_token, .int j_value, .int j_fault, .int j_place, .int j_latest, .ref m_low, .ref m_high, .ref m_first, .ref m_second, .ref m_lines, .ref m_others, .int j_shiftFirst, .int j_shiftMany, .int j_shiftLow, .int j_shiftHigh])), (m_now, .inl (kI, 192, .inl g_now)), (m_past, .inl (kI, 1920, .inl (upd f23 (v22 : Int32).toNatClampNeg x32)))] := hD
      have hK : va_K D vwCl [(kI, .int)] s := hK
      rw [← eg33] at hP hD
      obtain ⟨x34, ex34⟩ : ∃ y : Int32, y = v22 + 1 := ⟨_, rfl⟩
      have tx34 : x34.toInt = v22.toInt + 1 := pw_addX ex34 rfl (by decide) (by omega) (by omega)
      refine lv_iinc (v := x34) (lv' := [(1, .int x34), (0, .ref h0)]) hx hb dX10_notes_34 hl (k := 1) rfl (by rw [ex34]; rfl) (by decide) rfl (fun ls hl => ?_)
      refine lv_goto (tgt := 11) hx hb dX10_notes_37 (by decide) ?_
      have hP9 : va_P D vwCl [(h0, .inr (10, [.ref m_now, .ref m_draft, .ref m_past, .int j_acts, .ref m_images, .ref m_kept, .ref m_tape, .int j_taped, .int j_at, .int j_start, .int j_token, .int j_value, .int j_fault, .int j_place, .int j_latest, .ref m_low, .ref m_high, .ref m_first, .ref m_second, .ref m_lines, .ref m_others, .int j_shiftFirst, .int j_shiftMany, .int j_shiftLow, .int j_shiftHigh])), (m_now, .inl (kI, 192, .inl g_now)), (m_past, .inl (kI, 1920, .inl g33))] H := hP.sub [0, 1, 2] rfl
      have hD9 : va_D A [(h0, .inr (10, [.ref m_now, .ref m_draft, .ref m_past, .int j_acts, .ref m_images, .ref m_kept, .ref m_tape, .int j_taped, .int j_at, .int j_start, .int j_token, .int j_value, .int j_fault, .int j_place, .int j_latest, .ref m_low, .ref m_high, .ref m_first, .ref m_second, .ref m_lines, .ref m_others, .int j_shiftFirst, .int j_shiftMany, .int j_shiftLow, .int j_shiftHigh])), (m_now, .inl (kI, 192, .inl g_now)), (m_past, .inl (kI, 1920, .inl g33))] := hD.sub [0, 1, 2] (by decide) rfl
      have hl9 : lv_has ls 2 [(0, .ref h0), (1, .int x34)] := lv_sub hl [1, 0] rfl
      refine W.widen (k := 0) (n := 0) (Nat.le_of_ble_eq_true rfl) (Nat.le_of_ble_eq_true rfl) ?_
      exact ih24 (x34, g33) _ _ _ (pw_up ex34 (by omega)) ⟨hP9, hD9, hS, hl9, (by omega), (shI_up hsh (by omega) eg33 rfl ex32 (by omega) (pw_add1 ex34 (by omega)))⟩
def w_X10_undo : List Cond := .code yX10_undo cX10_undo 1 (some .int) :: ([.fieldLink RX10 195 "LineCitesModel" "acts" "I", .fieldLink RX10 16 "LineCitesModel" "past" "[I", .fieldLink RX10 7 "LineCitesModel" "now" "[I", .methodLink RX10 191 yX10_copies, .static yX10_copies, .initialized RX10, .code yX10_copies cX10_copies 5 none, .constant RX10 198 (-1000002)] ++ wsX100)
set_option maxRecDepth 20000 in
theorem g_X10_undo_X10_copies__pn : GoodIn w_X10_undo (wsS RX10 191 yX10_copies w_X10_copies__pn) := goodIn_r _ [4, 5, 6, 7] rfl (by decide +kernel)
set_option maxHeartbeats 4000000 in
set_option maxRecDepth 100000 in
theorem c_X10_undo (l : Launch) (D : va_G) (h0 : Nat) (m_now : Nat) (m_draft : Nat) (m_past : Nat) (j_acts : Int32) (m_images : Nat) (m_kept : Nat) (m_tape : Nat) (j_taped : Int32) (j_at : Int32) (j_start : Int32) (j_token : Int32) (j_value : Int32) (j_fault : Int32) (j_place : Int32) (j_latest : Int32) (m_low : Nat) (m_high : Nat) (m_first : Nat) (m_second : Nat) (m_lines : Nat) (m_others : Nat) (j_shiftFirst : Int32) (j_shiftMany : Int32) (j_shiftLow : Int32) (j_shiftHigh : Int32) (kI : ClassId) (g_now : Nat → Int32) (g_past : Nat → Int32) (sz : Nat) (hN1 : 1 ≤ (g_now 0).toInt) (h0j_acts : 0 ≤ j_acts.toInt) (h1j_acts : j_acts.toInt ≤ 10) (hPb : pB g_past j_acts.toInt) (hg_now : gV g_now) : Met l yX10_undo w_X10_undo ({ frames := 1, cells := 0, slots := 0, locals := 24 }) (va_Pc [.ref h0] (fun U => U.heap.size = sz ∧ va_P D vwCl [(h0, .inr (10, [.ref m_now, .ref m_draft, .ref m_past, .int j_acts, .ref m_images, .ref m_kept, .ref m_tape, .int j_taped, .int j_at, .int j_start, .int j_token, .int j_value, .int j_fault, .int j_place, .int j_latest, .ref m_low, .ref m_high, .ref m_first, .ref m_second, .ref m_lines, .ref m_others, .int j_shiftFirst, .int j_shiftMany, .int j_shiftLow, .int j_shiftHigh])), (m_now, .inl (kI, 192, .inl g_now)), (m_past, .inl (kI, 1920, .inl g_past))] U.heap ∧ va_K D vwCl [(kI, .int)] U ∧ va_D (fun _ => True) [(h0, .inr (10, [.ref m_now, .ref m_draft, .ref m_past, .int j_acts, .ref m_images, .ref m_kept, .ref m_tape, .int j_taped, .int j_at, .int j_start, .int j_token, .int j_value, .int j_fault, .int j_place, .int j_latest, .ref m_low, .ref m_high, .ref m_first, .ref m_second, .ref m_lines, .ref m_others, .int j_shiftFirst, .int j_shiftMany, .int j_shiftLow, .int j_shiftHigh])), (m_now, .inl (kI, 192, .inl g_now)), (m_past, .inl (kI, 1920, .inl g_past))])) (va_Qi (fun (r : Int32) (_ : Unit) => True) (fun (_ : Unit) t => ∃ (n_acts : Int32) (n_now : Nat → Int32), va_P D vwCl [(h0, .inr (10, [.ref m_now, .ref m_draft, .ref m_past, .int n_acts, .ref m_images, .ref m_kept, .ref m_tape, .int j_taped, .int j_at, .int j_start, .int j_token, .int j_value, .int j_fault, .int j_place, .int j_latest, .ref m_low, .ref m_high, .ref m_first, .ref m_second, .ref m_lines, .ref m_others, .int j_shiftFirst, .int j_shiftMany, .int j_shiftLow, .int j_shiftHigh])), (m_now, .inl (kI, 192, .inl n_now)), (m_past, .inl (kI, 1920, .inl g_past))] t.heap ∧ va_K D vwCl [(kI, .int)] t ∧ va_D (va_A [(h0, .inr (10, [.ref m_now, .ref m_draft, .ref m_past, .int j_acts, .ref m_images, .ref m_kept, .ref m_tape, .int j_taped, .int j_at, .int j_start, .int j_token, .int j_value, .int j_fault, .int j_place, .int j_latest, .ref m_low, .ref m_high, .ref m_first, .ref m_second, .ref m_lines, .ref m_others, .int j_shiftFirst, .int j_shiftMany, .int j_shiftLow, .int j_shiftHigh])), (m_now, .inl (kI, 192, .inl g_now)), (m_past, .inl (kI, 1920, .inl g_past))] sz) [(h0, .inr (10, [.ref m_now, .ref m_draft, .ref m_past, .int n_acts, .ref m_images, .ref m_kept, .ref m_tape, .int j_taped, .int j_at, .int j_start, .int j_token, .int j_value, .int j_fault, .int j_place, .int j_latest, .ref m_low, .ref m_high, .ref m_first, .ref m_second, .ref m_lines, .ref m_others, .int j_shiftFirst, .int j_shiftMany, .int j_shiftLow, .int j_shiftHigh])), (m_now, .inl (kI, 192, .inl n_now)), (m_past, .inl (kI, 1920, .inl g_past))] ∧ gV n_now ∧ 1 ≤ (n_now 0).toInt ∧ (0 ≤ n_acts.toInt ∧ n_acts.toInt ≤ 10) ∧ pB g_past n_acts.toInt) (va_A [(h0, .inr (10, [.ref m_now, .ref m_draft, .ref m_past, .int j_acts, .ref m_images, .ref m_kept, .ref m_tape, .int j_taped, .int j_at, .int j_start, .int j_token, .int j_value, .int j_fault, .int j_place, .int j_latest, .ref m_low, .ref m_high, .ref m_first, .ref m_second, .ref m_lines, .ref m_others, .int j_shiftFirst, .int j_shiftMany, .int j_shiftLow, .int j_shiftHigh])), (m_now, .inl (kI, 192, .inl g_now)), (m_past, .inl (kI, 1920, .inl g_past))] sz)) 0 0 (va_A [(h0, .inr (10, [.ref m_now, .ref m_draft, .ref m_past, .int j_acts, .ref m_images, .ref m_kept, .ref m_tape, .int j_taped, .int j_at, .int j_start, .int j_token, .int j_value, .int j_fault, .int j_place, .int j_latest, .ref m_low, .ref m_high, .ref m_first, .ref m_second, .ref m_lines, .ref m_others, .int j_shiftFirst, .int j_shiftMany, .int j_shiftLow, .int j_shiftHigh])), (m_now, .inl (kI, 192, .inl g_now)), (m_past, .inl (kI, 1920, .inl g_past))] sz) := by
  refine Met.ofW (cc := cX10_undo) (maxL := 1) (ret := (some .int)) (by decide) rfl ?_
  intro p e s m args below meth c s₁ B hml hv
  obtain ⟨rfl, hsz, hP, hK, hD0⟩ := hv
  have hx := B.exec
  have hb := B.bytes
  have hr := B.returns
  have hts := atoms_spec (ws := w_X10_undo) B.pre
  have hown : s.vm.findClass RX10 = some m.cls := findClass_of_methodNamed B.named
  have hlocks := B.notSynchronized
  subst hsz
  have hD := hD0.self (sz := s.heap.size)
  generalize hAe : va_A [(h0, .inr (10, [.ref m_now, .ref m_draft, .ref m_past, .int j_acts, .ref m_images, .ref m_kept, .ref m_tape, .int j_taped, .int j_at, .int j_start, .int j_token, .int j_value, .int j_fault, .int j_place, .int j_latest, .ref m_low, .ref m_high, .ref m_first, .ref m_second, .ref m_lines, .ref m_others, .int j_shiftFirst, .int j_shiftMany, .int j_shiftLow, .int j_shiftHigh])), (m_now, .inl (kI, 192, .inl g_now)), (m_past, .inl (kI, 1920, .inl g_past))] s.heap.size = A at hD ⊢
  have hA : ∀ q : Nat, s.heap.size ≤ q → A q := fun q h => by rw [← hAe]; exact Or.inr h
  have hS : va_S A s.heap s.heap [] := va_S.rf
  have hP : va_P D vwCl [(h0, .inr (10, [.ref m_now, .ref m_draft, .ref m_past, .int j_acts, .ref m_images, .ref m_kept, .ref m_tape, .int j_taped, .int j_at, .int j_start, .int j_token, .int j_value, .int j_fault, .int j_place, .int j_latest, .ref m_low, .ref m_high, .ref m_first, .ref m_second, .ref m_lines, .ref m_others, .int j_shiftFirst, .int j_shiftMany, .int j_shiftLow, .int j_shiftHigh])), (m_now, .inl (kI, 192, .inl g_now)), (m_past, .inl (kI, 1920, .inl g_past))] s.heap := hP
  have hl := lv_entry ([.ref h0]) (n := 1) (Nat.le_of_ble_eq_true rfl)
  rw [lg_entry_eq]
  generalize (lg_sl ([.ref h0]) ++ List.replicate (1 - (lg_sl ([.ref h0])).length) Slot.unset).toArray = ls at hl ⊢
  have hl : lv_has ls 1 [(0, .ref h0)] := hl
  obtain ⟨H, hHe⟩ : ∃ H : Heap, H = s.heap := ⟨_, rfl⟩
  rw [← hHe] at hP
  have hS : va_S A s.heap H [] := by rw [hHe]; exact hS
  refine pw_heap hHe ?_
  refine lv_aload_n hx hb dX10_undo_0 rfl (lv_at hl 0 rfl) ?_
  refine va_get (D := D) (ci := 10) (v := .int j_acts) (C := RX10) (T := TX10) (N := 25) hx hb hts (fun _ h => List.mem_cons_of_mem _ (List.mem_append_right _ h)) hown hK hP 0 rfl rfl 3 (by decide) (hts (.fieldLink RX10 195 "LineCitesModel" "acts" "I") (List.mem_of_getElem? (i := 1) rfl)) (fun _ h9 => h9) rfl dX10_undo_1 ?_
  refine lv_if_ne (tgt := 10) hx hb dX10_undo_4 (by decide) (fun c1 => ?_) (fun c1 => ?_)
  · have nc1 : j_acts.toInt ≠ 0 := pw_ne c1 rfl (by decide)
    refine lv_aload_n hx hb dX10_undo_10 rfl (lv_at hl 0 rfl) ?_
    refine lv_dup hx hb dX10_undo_11 rfl ?_
    refine va_get (D := D) (ci := 10) (v := .int j_acts) (C := RX10) (T := TX10) (N := 25) hx hb hts (fun _ h => List.mem_cons_of_mem _ (List.mem_append_right _ h)) hown hK hP 0 rfl rfl 3 (by decide) (hts (.fieldLink RX10 195 "LineCitesModel" "acts" "I") (List.mem_of_getElem? (i := 1) rfl)) (fun _ h9 => h9) rfl dX10_undo_12 ?_
    refine lv_iconst (v := 1) hx hb dX10_undo_15 (by decide) ?_
    refine lv_isub hx hb dX10_undo_16 ?_
    refine lv_topi (fun x2 ex2 => ?_)
    have tx2 : x2.toInt = j_acts.toInt - 1 := pw_subX ex2 rfl (by decide) (by omega) (by omega)
    refine va_put (D := D) (ci := 10) (v := .int x2) (ty := .int) (C := RX10) (T := TX10) (N := 25) hx hb hts (fun _ h => List.mem_cons_of_mem _ (List.mem_append_right _ h)) tyX10 tyX10_ok nmX10 hown hK hP hD hS 0 rfl rfl 3 (by decide) (hts (.fieldLink RX10 195 "LineCitesModel" "acts" "I") (List.mem_of_getElem? (i := 1) rfl)) (fun _ h9 => h9) rfl (by decide +kernel) rfl rfl (Nat.le_of_ble_eq_true rfl) dX10_undo_17 (fun H locs hP hD hS => ?_)
    have hP : va_P D vwCl [(h0, .inr (10, [.ref m_now, .ref m_draft, .ref m_past, .int x2, .ref m_images, .ref m_kept, .ref m_tape, .int j_taped, .int j_at, .int j_start, .int j_token, .int j_value, .int j_fault, .int j_place, .int j_latest, .ref m_low, .ref m_high, .ref m_first, .ref m_second, .ref m_lines, .ref m_others, .int j_shiftFirst, .int j_shiftMany, .int j_shiftLow, .int j_shiftHigh])), (m_now, .inl (kI, 192, .inl g_now)), (m_past, .inl (kI, 1920, .inl g_past))] H := hP
    have hD : va_D A [(h0, .inr (10, [.ref m_now, .ref m_draft, .ref m_past, .int x2, .ref m_images, .ref m_kept, .ref m_tape, .int j_taped, .int j_at, .int j_start, .int j_token, .int j_value, .int j_fault, .int j_place, .int j_latest, .ref m_low, .ref m_high, .ref m_first, .ref m_second, .ref m_lines, .ref m_others, .int j_shiftFirst, .int j_shiftMany, .int j_shiftLow, .int j_shiftHigh])), (m_now, .inl (kI, 192, .inl g_now)), (m_past, .inl (kI, 1920, .inl g_past))] := hD
    have hK : va_K D vwCl [(kI, .int)] s := hK
    refine lv_aload_n hx hb dX10_undo_20 rfl (lv_at hl 0 rfl) ?_
    refine va_get (D := D) (ci := 10) (v := .ref m_past) (C := RX10) (T := TX10) (N := 25) hx hb hts (fun _ h => List.mem_cons_of_mem _ (List.mem_append_right _ h)) hown hK hP 0 rfl rfl 2 (by decide) (hts (.fieldLink RX10 16 "LineCitesModel" "past" "[I") (List.mem_of_getElem? (i := 2) rfl)) (fun _ h9 => h9) rfl dX10_undo_21 ?_
    refine lv_sipush (v := 192) hx hb dX10_undo_24 (by decide) ?_
    refine lv_aload_n hx hb dX10_undo_27 rfl (lv_at hl 0 rfl) ?_
    refine va_get (D := D) (ci := 10) (v := .int x2) (C := RX10) (T := TX10) (N := 25) hx hb hts (fun _ h => List.mem_cons_of_mem _ (List.mem_append_right _ h)) hown hK hP 0 rfl rfl 3 (by decide) (hts (.fieldLink RX10 195 "LineCitesModel" "acts" "I") (List.mem_of_getElem? (i := 1) rfl)) (fun _ h9 => h9) rfl dX10_undo_28 ?_
    refine lv_imul hx hb dX10_undo_31 ?_
    refine lv_topi (fun x3 ex3 => ?_)
    have tx3 : x3.toInt = 192 * x2.toInt := pw_mulX ex3 (by decide) rfl (by omega) (by omega)
    refine lv_aload_n hx hb dX10_undo_32 rfl (lv_at hl 0 rfl) ?_
    refine va_get (D := D) (ci := 10) (v := .ref m_now) (C := RX10) (T := TX10) (N := 25) hx hb hts (fun _ h => List.mem_cons_of_mem _ (List.mem_append_right _ h)) hown hK hP 0 rfl rfl 0 (by decide) (hts (.fieldLink RX10 7 "LineCitesModel" "now" "[I") (List.mem_of_getElem? (i := 3) rfl)) (fun _ h9 => h9) rfl dX10_undo_33 ?_
    refine lv_iconst (v := 0) hx hb dX10_undo_36 (by decide) ?_
    have kk0 : (0 : Int32).toInt = 0 := by decide
    have hPc := hP.sub (ws' := [(m_past, .inl (kI, 1920, .inl g_past)), (m_now, .inl (kI, 192, .inl g_now))]) [2, 1] rfl
    have hKc := hK.sub (tys' := [(kI, .int)]) [0] rfl
    have hDc := hD.sub (ws' := [(m_past, .inl (kI, 1920, .inl g_past)), (m_now, .inl (kI, 192, .inl g_now))]) [2, 1] (by decide) rfl
    have hFc := va_free (wc := [(m_past, .inl (kI, 1920, .inl g_past)), (m_now, .inl (kI, 192, .inl g_now))]) hD hS hA [2, 1] rfl
    refine va_callv (va_runS (As := [.ref m_past, .int x3, .ref m_now, .int 0]) (rest := []) ⟨hx, hb, hml, hown, hts⟩ (c_X10_copies__pn l D m_past x3 m_now 0 kI g_past g_now x3.toInt.toNat 0 H.size (by first | decide | omega) (by first | decide | omega) (by first | decide | omega) (by first | decide | omega) (by first | omega | decide | (have hz0 : (0 : Int32).toInt = 0 := (by decide); omega)) (by first | omega | decide | (have hz0 : (0 : Int32).toInt = 0 := (by decide); omega))) (cwS 4 hts g_X10_undo_X10_copies__pn rfl rfl rfl (by decide +kernel) ⟨Nat.le_of_ble_eq_true rfl, Nat.le_of_ble_eq_true rfl⟩) ⟨fun a U g mk q => by obtain ⟨q0, q1, qP, qK, qD⟩ := q; exact ⟨q0, q1, qP, va_K.moved (u := U) (U := U.calling g mk a) (Vm.Alike.refl U.vm) qK, qD⟩, fun U hU hW => ⟨rfl, by rw [hU], by rw [hU]; exact hPc, va_K.moved hW.alike hKc, hDc.weaken (fun _ _ _ _ => trivial)⟩⟩ rfl rfl hl.1 rfl (lv_room (Nat.le_of_ble_eq_true rfl)) dX10_undo_37 ⟨Nat.le_of_ble_eq_true rfl, Nat.le_of_ble_eq_true rfl⟩) hS (fun q _ h => hFc q h) hFc (fun u t H1 locs ht hvm hw hB hz1 hk1 hS => ?_)
    obtain ⟨y5, hP1, hK1, hD1, px0_r4⟩ := hB
    rw [ht] at hP1
    have hK1 := va_K.moved hvm.symm hK1
    obtain ⟨hP, hD⟩ := va_join (wr := [(h0, .inr (10, [.ref m_now, .ref m_draft, .ref m_past, .int x2, .ref m_images, .ref m_kept, .ref m_tape, .int j_taped, .int j_at, .int j_start, .int j_token, .int j_value, .int j_fault, .int j_place, .int j_latest, .ref m_low, .ref m_high, .ref m_first, .ref m_second, .ref m_lines, .ref m_others, .int j_shiftFirst, .int j_shiftMany, .int j_shiftLow, .int j_shiftHigh]))]) (w1 := [(m_past, .inl (kI, 1920, .inl g_past)), (m_now, .inl (kI, 192, .inl y5))]) hP hD [2, 1] [0] rfl rfl (by decide) (by decide) hk1 hFc hP1 hD1
    have hK := (hK.sub (tys' := [(kI, .int)]) [0] rfl).app hK1
    generalize H1 = H at hP hS ⊢
    have hP : va_P D vwCl [(h0, .inr (10, [.ref m_now, .ref m_draft, .ref m_past, .int x2, .ref m_images, .ref m_kept, .ref m_tape, .int j_taped, .int j_at, .int j_start, .int j_token, .int j_value, .int j_fault, .int j_place, .int j_latest, .ref m_low, .ref m_high, .ref m_first, .ref m_second, .ref m_lines, .ref m_others, .int j_shiftFirst, .int j_shiftMany, .int j_shiftLow, .int j_shiftHigh])), (m_past, .inl (kI, 1920, .inl g_past)), (m_now, .inl (kI, 192, .inl y5))] H := hP
    have hD : va_D A [(h0, .inr (10, [.ref m_now, .ref m_draft, .ref m_past, .int x2, .ref m_images, .ref m_kept, .ref m_tape, .int j_taped, .int j_at, .int j_start, .int j_token, .int j_value, .int j_fault, .int j_place, .int j_latest, .ref m_low, .ref m_high, .ref m_first, .ref m_second, .ref m_lines, .ref m_others, .int j_shiftFirst, .int j_shiftMany, .int j_shiftLow, .int j_shiftHigh])), (m_past, .inl (kI, 1920, .inl g_past)), (m_now, .inl (kI, 192, .inl y5))] := hD
    have hK : va_K D vwCl [(kI, .int), (kI, .int)] s := hK
    refine W.widen (k := 0) (n := 0) (Nat.le_of_ble_eq_true rfl) (Nat.le_of_ble_eq_true rfl) ?_
    have hgw := pB_get hPb (k := x2.toInt.toNat) (by omega) (by omega) px0_r4
    have hy5 := hgw.1
    have hy1 := hgw.2
    refine lv_aload_n hx hb dX10_undo_40 rfl (lv_at hl 0 rfl) ?_
    refine va_get (D := D) (ci := 10) (v := .int x2) (C := RX10) (T := TX10) (N := 25) hx hb hts (fun _ h => List.mem_cons_of_mem _ (List.mem_append_right _ h)) hown hK hP 0 rfl rfl 3 (by decide) (hts (.fieldLink RX10 195 "LineCitesModel" "acts" "I") (List.mem_of_getElem? (i := 1) rfl)) (fun _ h9 => h9) rfl dX10_undo_41 ?_
    have hP9 := hP.sub (ws' := [(h0, .inr (10, [.ref m_now, .ref m_draft, .ref m_past, .int x2, .ref m_images, .ref m_kept, .ref m_tape, .int j_taped, .int j_at, .int j_start, .int j_token, .int j_value, .int j_fault, .int j_place, .int j_latest, .ref m_low, .ref m_high, .ref m_first, .ref m_second, .ref m_lines, .ref m_others, .int j_shiftFirst, .int j_shiftMany, .int j_shiftLow, .int j_shiftHigh])), (m_now, .inl (kI, 192, .inl y5)), (m_past, .inl (kI, 1920, .inl g_past))]) [0, 2, 1] rfl
    have hD9 := hD.sub (ws' := [(h0, .inr (10, [.ref m_now, .ref m_draft, .ref m_past, .int x2, .ref m_images, .ref m_kept, .ref m_tape, .int j_taped, .int j_at, .int j_start, .int j_token, .int j_value, .int j_fault, .int j_place, .int j_latest, .ref m_low, .ref m_high, .ref m_first, .ref m_second, .ref m_lines, .ref m_others, .int j_shiftFirst, .int j_shiftMany, .int j_shiftLow, .int j_shiftHigh])), (m_now, .inl (kI, 192, .inl y5)), (m_past, .inl (kI, 1920, .inl g_past))]) [0, 2, 1] (by decide) rfl
    have hK9 := hK.sub (tys' := [(kI, .int)]) [0] rfl
    refine W.widen (k := 0) (n := 0) (Nat.le_of_ble_eq_true rfl) (Nat.le_of_ble_eq_true rfl) ?_
    exact W.iret (v := x2) hx hb hr (fun t ht hW => ⟨⟨x2, (), rfl, trivial, x2, y5, by rw [ht]; exact hP9, va_K.moved hW.alike hK9, hD9, hy5, hy1, (by omega), (pB_le hPb (by omega))⟩, hS.F ht⟩) hS.2.2 dX10_undo_44
  · have nc1 : j_acts.toInt = 0 := pw_eq c1 rfl (by decide)
    refine lv_ldc hx hb hown (hts (.constant RX10 198 (-1000002)) (List.mem_of_getElem? (i := 8) rfl)) dX10_undo_7 ?_
    have hP9 := hP.sub (ws' := [(h0, .inr (10, [.ref m_now, .ref m_draft, .ref m_past, .int j_acts, .ref m_images, .ref m_kept, .ref m_tape, .int j_taped, .int j_at, .int j_start, .int j_token, .int j_value, .int j_fault, .int j_place, .int j_latest, .ref m_low, .ref m_high, .ref m_first, .ref m_second, .ref m_lines, .ref m_others, .int j_shiftFirst, .int j_shiftMany, .int j_shiftLow, .int j_shiftHigh])), (m_now, .inl (kI, 192, .inl g_now)), (m_past, .inl (kI, 1920, .inl g_past))]) [0, 1, 2] rfl
    have hD9 := hD.sub (ws' := [(h0, .inr (10, [.ref m_now, .ref m_draft, .ref m_past, .int j_acts, .ref m_images, .ref m_kept, .ref m_tape, .int j_taped, .int j_at, .int j_start, .int j_token, .int j_value, .int j_fault, .int j_place, .int j_latest, .ref m_low, .ref m_high, .ref m_first, .ref m_second, .ref m_lines, .ref m_others, .int j_shiftFirst, .int j_shiftMany, .int j_shiftLow, .int j_shiftHigh])), (m_now, .inl (kI, 192, .inl g_now)), (m_past, .inl (kI, 1920, .inl g_past))]) [0, 1, 2] (by decide) rfl
    have hK9 := hK.sub (tys' := [(kI, .int)]) [0] rfl
    refine W.widen (k := 0) (n := 0) (Nat.le_of_ble_eq_true rfl) (Nat.le_of_ble_eq_true rfl) ?_
    exact W.iret (v := (-1000002)) hx hb hr (fun t ht hW => ⟨⟨(-1000002), (), rfl, trivial, j_acts, g_now, by rw [ht]; exact hP9, va_K.moved hW.alike hK9, hD9, hg_now, hN1, (by omega), hPb⟩, hS.F ht⟩) hS.2.2 dX10_undo_9
def w_X10_puts : List Cond := .code yX10_puts cX10_puts 7 none :: ([])
set_option maxHeartbeats 4000000 in
set_option maxRecDepth 100000 in
theorem c_X10_puts (l : Launch) (D : va_G) (b : Nat) (i_e : Int32) (i_k : Int32) (i_fr : Int32) (i_m : Int32) (i_f : Int32) (kI : ClassId) (g_b : Nat → Int32) (ke : Nat) (sz : Nat) (hnke : i_e.toInt = ((ke : Nat) : Int)) (h0i_e : 0 ≤ i_e.toInt) (h1i_e : i_e.toInt ≤ 4) (h6 : (g_b (3 + ke)).toInt < 6) (hvS : vS i_k.toInt i_fr.toInt i_m.toInt i_f.toInt) (hg_b : gV g_b) : Met l yX10_puts w_X10_puts ({ frames := 0, cells := 0, slots := 0, locals := 0 }) (va_Pc [.ref b, .int i_e, .int i_k, .int i_fr, .int i_m, .int i_f] (fun U => U.heap.size = sz ∧ va_P D vwCl [(b, .inl (kI, 192, .inl g_b))] U.heap ∧ va_K D vwCl [(kI, .int)] U ∧ va_D (fun _ => True) [(b, .inl (kI, 192, .inl g_b))])) (va_Qv (fun (_ : Unit) => True) (fun (_ : Unit) t => ∃ (n_b : Nat → Int32), va_P D vwCl [(b, .inl (kI, 192, .inl n_b))] t.heap ∧ va_K D vwCl [(kI, .int)] t ∧ va_D (va_A [(b, .inl (kI, 192, .inl g_b))] sz) [(b, .inl (kI, 192, .inl n_b))] ∧ gV n_b ∧ puR g_b ke i_k.toInt i_fr.toInt i_m.toInt i_f.toInt n_b) (va_A [(b, .inl (kI, 192, .inl g_b))] sz)) 0 0 (va_A [(b, .inl (kI, 192, .inl g_b))] sz) := by
  refine Met.ofW (cc := cX10_puts) (maxL := 7) (ret := none) (by decide) rfl ?_
  intro p e s m args below meth c s₁ B hml hv
  obtain ⟨rfl, hsz, hP, hK, hD0⟩ := hv
  have hx := B.exec
  have hb := B.bytes
  have hr := B.returns
  have hts := atoms_spec (ws := w_X10_puts) B.pre
  have hown : s.vm.findClass RX10 = some m.cls := findClass_of_methodNamed B.named
  have hlocks := B.notSynchronized
  subst hsz
  have hD := hD0.self (sz := s.heap.size)
  generalize hAe : va_A [(b, .inl (kI, 192, .inl g_b))] s.heap.size = A at hD ⊢
  have hA : ∀ q : Nat, s.heap.size ≤ q → A q := fun q h => by rw [← hAe]; exact Or.inr h
  have hS : va_S A s.heap s.heap [] := va_S.rf
  have hP : va_P D vwCl [(b, .inl (kI, 192, .inl g_b))] s.heap := hP
  have hl := lv_entry ([.ref b, .int i_e, .int i_k, .int i_fr, .int i_m, .int i_f]) (n := 7) (Nat.le_of_ble_eq_true rfl)
  rw [lg_entry_eq]
  generalize (lg_sl ([.ref b, .int i_e, .int i_k, .int i_fr, .int i_m, .int i_f]) ++ List.replicate (7 - (lg_sl ([.ref b, .int i_e, .int i_k, .int i_fr, .int i_m, .int i_f])).length) Slot.unset).toArray = ls at hl ⊢
  have hl : lv_has ls 7 [(0, .ref b), (1, .int i_e), (2, .int i_k), (3, .int i_fr), (4, .int i_m), (5, .int i_f)] := hl
  obtain ⟨H, hHe⟩ : ∃ H : Heap, H = s.heap := ⟨_, rfl⟩
  rw [← hHe] at hP
  have hS : va_S A s.heap H [] := by rw [hHe]; exact hS
  refine pw_heap hHe ?_
  refine lv_bipush (v := 8) hx hb dX10_puts_0 (by decide) ?_
  refine lv_bipush (v := 24) hx hb dX10_puts_2 (by decide) ?_
  refine lv_iload_n hx hb dX10_puts_4 rfl (lv_at hl 1 rfl) ?_
  refine lv_imul hx hb dX10_puts_5 ?_
  refine lv_topi (fun x1 ex1 => ?_)
  have tx1 : x1.toInt = 24 * i_e.toInt := pw_mulX ex1 (by decide) rfl (by omega) (by omega)
  refine lv_iadd hx hb dX10_puts_6 ?_
  refine lv_topi (fun x2 ex2 => ?_)
  have tx2 : x2.toInt = 8 + x1.toInt := pw_addX ex2 (by decide) rfl (by omega) (by omega)
  refine lv_iconst (v := 4) hx hb dX10_puts_7 (by decide) ?_
  refine lv_aload_n hx hb dX10_puts_8 rfl (lv_at hl 0 rfl) ?_
  refine lv_iconst (v := 3) hx hb dX10_puts_9 (by decide) ?_
  refine lv_iload_n hx hb dX10_puts_10 rfl (lv_at hl 1 rfl) ?_
  refine lv_iadd hx hb dX10_puts_11 ?_
  refine lv_topi (fun x3 ex3 => ?_)
  have tx3 : x3.toInt = 3 + i_e.toInt := pw_addX ex3 (by decide) rfl (by omega) (by omega)
  refine va_iald hx hb hK hP 0 0 rfl rfl (vp_in_iff.mpr ⟨by omega, by omega⟩) dX10_puts_12 ?_
  refine lv_topi (fun x4 ex4 => ?_)
  have nx4 : 0 ≤ x4.toInt ∧ x4.toInt ≤ 6 := gV_m hg_b ex4 (by omega) (by omega)
  have zx4 := pC_at (a := 3 + ke) ex4 (by omega)
  refine lv_imul hx hb dX10_puts_13 ?_
  refine lv_topi (fun x5 ex5 => ?_)
  have tx5 : x5.toInt = 4 * x4.toInt := pw_mulX ex5 (by decide) rfl (by omega) (by omega)
  refine lv_iadd hx hb dX10_puts_14 ?_
  refine lv_topi (fun x6 ex6 => ?_)
  have tx6 : x6.toInt = x2.toInt + x5.toInt := pw_addX ex6 rfl rfl (by omega) (by omega)
  refine lv_istore (lv' := [(6, .int x6), (0, .ref b), (1, .int i_e), (2, .int i_k), (3, .int i_fr), (4, .int i_m), (5, .int i_f)]) hx hb dX10_puts_15 hl (by decide) rfl (fun ls hl => ?_)
  refine lv_aload_n hx hb dX10_puts_17 rfl (lv_at hl 1 rfl) ?_
  refine lv_iload hx hb dX10_puts_18 (lv_at hl 0 rfl) ?_
  refine lv_iload_n hx hb dX10_puts_20 rfl (lv_at hl 3 rfl) ?_
  refine va_iast hx hb hK hP hD hS 0 0 rfl rfl (vp_in_iff.mpr ⟨by omega, by omega⟩) dX10_puts_21 (fun H locs hP hD hS => ?_)
  obtain ⟨g7, eg7⟩ : ∃ g : Nat → Int32, g = upd g_b (x6 : Int32).toNatClampNeg i_k := ⟨_, rfl⟩
  have hP : va_P D vwCl [(b, .inl (kI, 192, .inl (upd g_b (x6 : Int32).toNatClampNeg i_k)))] H := hP
  have hD : va_D A [(b, .inl (kI, 192, .inl (upd g_b (x6 : Int32).toNatClampNeg i_k)))] := hD
  have hK : va_K D vwCl [(kI, .int)] s := hK
  rw [← eg7] at hP hD
  refine lv_aload_n hx hb dX10_puts_22 rfl (lv_at hl 1 rfl) ?_
  refine lv_iload hx hb dX10_puts_23 (lv_at hl 0 rfl) ?_
  refine lv_iconst (v := 1) hx hb dX10_puts_25 (by decide) ?_
  refine lv_iadd hx hb dX10_puts_26 ?_
  refine lv_topi (fun x8 ex8 => ?_)
  have tx8 : x8.toInt = x6.toInt + 1 := pw_addX ex8 rfl (by decide) (by omega) (by omega)
  refine lv_iload_n hx hb dX10_puts_27 rfl (lv_at hl 4 rfl) ?_
  refine va_iast hx hb hK hP hD hS 0 0 rfl rfl (vp_in_iff.mpr ⟨by omega, by omega⟩) dX10_puts_28 (fun H locs hP hD hS => ?_)
  obtain ⟨g9, eg9⟩ : ∃ g : Nat → Int32, g = upd g7 (x8 : Int32).toNatClampNeg i_fr := ⟨_, rfl⟩
  have hP : va_P D vwCl [(b, .inl (kI, 192, .inl (upd g7 (x8 : Int32).toNatClampNeg i_fr)))] H := hP
  have hD : va_D A [(b, .inl (kI, 192, .inl (upd g7 (x8 : Int32).toNatClampNeg i_fr)))] := hD
  have hK : va_K D vwCl [(kI, .int)] s := hK
  rw [← eg9] at hP hD
  refine lv_aload_n hx hb dX10_puts_29 rfl (lv_at hl 1 rfl) ?_
  refine lv_iload hx hb dX10_puts_30 (lv_at hl 0 rfl) ?_
  refine lv_iconst (v := 2) hx hb dX10_puts_32 (by decide) ?_
  refine lv_iadd hx hb dX10_puts_33 ?_
  refine lv_topi (fun x10 ex10 => ?_)
  have tx10 : x10.toInt = x6.toInt + 2 := pw_addX ex10 rfl (by decide) (by omega) (by omega)
  refine lv_iload hx hb dX10_puts_34 (lv_at hl 5 rfl) ?_
  refine va_iast hx hb hK hP hD hS 0 0 rfl rfl (vp_in_iff.mpr ⟨by omega, by omega⟩) dX10_puts_36 (fun H locs hP hD hS => ?_)
  obtain ⟨g11, eg11⟩ : ∃ g : Nat → Int32, g = upd g9 (x10 : Int32).toNatClampNeg i_m := ⟨_, rfl⟩
  have hP : va_P D vwCl [(b, .inl (kI, 192, .inl (upd g9 (x10 : Int32).toNatClampNeg i_m)))] H := hP
  have hD : va_D A [(b, .inl (kI, 192, .inl (upd g9 (x10 : Int32).toNatClampNeg i_m)))] := hD
  have hK : va_K D vwCl [(kI, .int)] s := hK
  rw [← eg11] at hP hD
  refine lv_aload_n hx hb dX10_puts_37 rfl (lv_at hl 1 rfl) ?_
  refine lv_iload hx hb dX10_puts_38 (lv_at hl 0 rfl) ?_
  refine lv_iconst (v := 3) hx hb dX10_puts_40 (by decide) ?_
  refine lv_iadd hx hb dX10_puts_41 ?_
  refine lv_topi (fun x12 ex12 => ?_)
  have tx12 : x12.toInt = x6.toInt + 3 := pw_addX ex12 rfl (by decide) (by omega) (by omega)
  refine lv_iload hx hb dX10_puts_42 (lv_at hl 6 rfl) ?_
  refine va_iast hx hb hK hP hD hS 0 0 rfl rfl (vp_in_iff.mpr ⟨by omega, by omega⟩) dX10_puts_44 (fun H locs hP hD hS => ?_)
  obtain ⟨g13, eg13⟩ : ∃ g : Nat → Int32, g = upd g11 (x12 : Int32).toNatClampNeg i_f := ⟨_, rfl⟩
  have hP : va_P D vwCl [(b, .inl (kI, 192, .inl (upd g11 (x12 : Int32).toNatClampNeg i_f)))] H := hP
  have hD : va_D A [(b, .inl (kI, 192, .inl (upd g11 (x12 : Int32).toNatClampNeg i_f)))] := hD
  have hK : va_K D vwCl [(kI, .int)] s := hK
  rw [← eg13] at hP hD
  refine lv_aload_n hx hb dX10_puts_45 rfl (lv_at hl 1 rfl) ?_
  refine lv_iconst (v := 3) hx hb dX10_puts_46 (by decide) ?_
  refine lv_iload_n hx hb dX10_puts_47 rfl (lv_at hl 2 rfl) ?_
  refine lv_iadd hx hb dX10_puts_48 ?_
  refine lv_topi (fun x14 ex14 => ?_)
  have tx14 : x14.toInt = 3 + i_e.toInt := pw_addX ex14 (by decide) rfl (by omega) (by omega)
  refine lv_dup2_11 hx hb dX10_puts_49 rfl rfl ?_
  refine va_iald hx hb hK hP 0 0 rfl rfl (vp_in_iff.mpr ⟨by omega, by omega⟩) dX10_puts_50 ?_
  refine lv_topi (fun x15 ex15 => ?_)
  refine lv_iconst (v := 1) hx hb dX10_puts_51 (by decide) ?_
  refine lv_iadd hx hb dX10_puts_52 ?_
  refine lv_topi (fun x16 ex16 => ?_)
  refine va_iast hx hb hK hP hD hS 0 0 rfl rfl (vp_in_iff.mpr ⟨by omega, by omega⟩) dX10_puts_53 (fun H locs hP hD hS => ?_)
  obtain ⟨g17, eg17⟩ : ∃ g : Nat → Int32, g = upd g13 (x14 : Int32).toNatClampNeg x16 := ⟨_, rfl⟩
  have hP : va_P D vwCl [(b, .inl (kI, 192, .inl (upd g13 (x14 : Int32).toNatClampNeg x16)))] H := hP
  have hD : va_D A [(b, .inl (kI, 192, .inl (upd g13 (x14 : Int32).toNatClampNeg x16)))] := hD
  have hK : va_K D vwCl [(kI, .int)] s := hK
  rw [← eg17] at hP hD
  have hpu := pu_of (e := ke) (c := x4.toInt.toNat) (by omega) (by omega) eg7 eg9 eg11 eg13 eg17 (by omega) (by omega) (by omega) (by omega) (by omega) ex15 ex16 (by omega)
  have hg17 : gV g17 := gV_pu hg_b hpu (by omega) h6 hvS
  have hP9 := hP.sub (ws' := [(b, .inl (kI, 192, .inl g17))]) [0] rfl
  have hD9 := hD.sub (ws' := [(b, .inl (kI, 192, .inl g17))]) [0] (by decide) rfl
  have hK9 := hK.sub (tys' := [(kI, .int)]) [0] rfl
  refine W.widen (k := 0) (n := 0) (Nat.le_of_ble_eq_true rfl) (Nat.le_of_ble_eq_true rfl) ?_
  exact W.vret hx hb hr (fun t ht hW => ⟨⟨(), rfl, trivial, g17, by rw [ht]; exact hP9, va_K.moved hW.alike hK9, hD9, hg17, hpu⟩, hS.F ht⟩) hS.2.2 dX10_puts_54
def w_X10_isGood : List Cond := .code yX10_isGood cX10_isGood 7 (some .boolean) :: ([.constantLong RX10 199 (5), .methodLink RX10 51 yX10_in0, .static yX10_in0, .initialized RX10, .code yX10_in0 cX10_in0 6 (some .boolean), .fieldLink RX10 7 "LineCitesModel" "now" "[I", .methodLink RX10 156 yX10_isFrom, .static yX10_isFrom, .code yX10_isFrom cX10_isFrom 4 (some .boolean), .methodLink RX10 66 yX10_stretchOf, .static yX10_stretchOf, .code yX10_stretchOf cX10_stretchOf 7 (some .int), .constant RX10 61 (-1000000), .methodLink RX10 62 yX10_of, .static yX10_of, .code yX10_of cX10_of 4 (some .int), .methodLink RX10 164 yX10_isMany, .static yX10_isMany, .code yX10_isMany cX10_isMany 7 (some .boolean), .methodLink RX10 168 yX10_isFirst, .static yX10_isFirst, .code yX10_isFirst cX10_isFirst 3 (some .boolean), .methodLink RX10 145 yX10_isNumber, .static yX10_isNumber, .code yX10_isNumber cX10_isNumber 1 (some .boolean), .constantLong RX10 59 (999), .methodLink RX10 148 yX10_greatest, .static yX10_greatest, .code yX10_greatest cX10_greatest 3 (some .int)] ++ wsX100)
set_option maxRecDepth 20000 in
theorem g_X10_isGood_X10_in0 : GoodIn w_X10_isGood (wsS RX10 51 yX10_in0 w_X10_in0) := goodIn_r _ [2, 3, 4, 5] rfl (by decide +kernel)
set_option maxRecDepth 20000 in
theorem g_X10_isGood_X10_isFrom : GoodIn w_X10_isGood (wsS RX10 156 yX10_isFrom w_X10_isFrom) := goodIn_r _ [7, 8, 4, 9, 2, 3, 4, 5, 10, 11, 12, 13, 14, 15, 16] rfl (by decide +kernel)
set_option maxRecDepth 20000 in
theorem g_X10_isGood_X10_isMany : GoodIn w_X10_isGood (wsS RX10 164 yX10_isMany w_X10_isMany) := goodIn_r _ [17, 18, 4, 19, 2, 3, 4, 5, 10, 11, 12, 13, 14, 15, 16] rfl (by decide +kernel)
set_option maxRecDepth 20000 in
theorem g_X10_isGood_X10_isFirst : GoodIn w_X10_isGood (wsS RX10 168 yX10_isFirst w_X10_isFirst) := goodIn_r _ [20, 21, 4, 22, 23, 24, 4, 25, 26, 2, 3, 5, 27, 28, 29] rfl (by decide +kernel)
set_option maxHeartbeats 4000000 in
set_option maxRecDepth 100000 in
theorem c_X10_isGood (l : Launch) (D : va_G) (h0 : Nat) (i_e : Int32) (i_k : Int32) (i_fr : Int32) (i_m : Int32) (i_f : Int32) (i_but : Int32) (m_now : Nat) (m_draft : Nat) (m_past : Nat) (j_acts : Int32) (m_images : Nat) (m_kept : Nat) (m_tape : Nat) (j_taped : Int32) (j_at : Int32) (j_start : Int32) (j_token : Int32) (j_value : Int32) (j_fault : Int32) (j_place : Int32) (j_latest : Int32) (m_low : Nat) (m_high : Nat) (m_first : Nat) (m_second : Nat) (m_lines : Nat) (m_others : Nat) (j_shiftFirst : Int32) (j_shiftMany : Int32) (j_shiftLow : Int32) (j_shiftHigh : Int32) (kI : ClassId) (g_now : Nat → Int32) (h0i_e : 0 ≤ i_e.toInt) (h1i_e : i_e.toInt ≤ 4) (hg_now : gV g_now) : Met l yX10_isGood w_X10_isGood ({ frames := 3, cells := 0, slots := 0, locals := 77 }) (va_Pc [.ref h0, .int i_e, .int i_k, .int i_fr, .int i_m, .int i_f, .int i_but] (fun U => va_P D vwCl [(h0, .inr (10, [.ref m_now, .ref m_draft, .ref m_past, .int j_acts, .ref m_images, .ref m_kept, .ref m_tape, .int j_taped, .int j_at, .int j_start, .int j_token, .int j_value, .int j_fault, .int j_place, .int j_latest, .ref m_low, .ref m_high, .ref m_first, .ref m_second, .ref m_lines, .ref m_others, .int j_shiftFirst, .int j_shiftMany, .int j_shiftLow, .int j_shiftHigh])), (m_now, .inl (kI, 192, .inl g_now))] U.heap ∧ va_K D vwCl [(kI, .int)] U)) (va_Qi (fun (r : Int32) (_ : Unit) => (r = 0 ∨ r = 1) ∧ (r.toInt = 0 ∨ (r.toInt = 1 ∧ vS i_k.toInt i_fr.toInt i_m.toInt i_f.toInt))) (fun _ _ => True) (fun _ => False)) 0 0 (fun _ => False) := by
  refine Met.ofW (cc := cX10_isGood) (maxL := 7) (ret := (some .boolean)) (by decide) rfl ?_
  intro p e s m args below meth c s₁ B hml hv
  obtain ⟨rfl, hP, hK⟩ := hv
  have hx := B.exec
  have hb := B.bytes
  have hr := B.returns
  have hts := atoms_spec (ws := w_X10_isGood) B.pre
  have hown : s.vm.findClass RX10 = some m.cls := findClass_of_methodNamed B.named
  have hlocks := B.notSynchronized
  have hS : va_S (fun _ : Nat => False) s.heap s.heap [] := va_S.rf
  have hP : va_P D vwCl [(h0, .inr (10, [.ref m_now, .ref m_draft, .ref m_past, .int j_acts, .ref m_images, .ref m_kept, .ref m_tape, .int j_taped, .int j_at, .int j_start, .int j_token, .int j_value, .int j_fault, .int j_place, .int j_latest, .ref m_low, .ref m_high, .ref m_first, .ref m_second, .ref m_lines, .ref m_others, .int j_shiftFirst, .int j_shiftMany, .int j_shiftLow, .int j_shiftHigh])), (m_now, .inl (kI, 192, .inl g_now))] s.heap := hP
  have hl := lv_entry ([.ref h0, .int i_e, .int i_k, .int i_fr, .int i_m, .int i_f, .int i_but]) (n := 7) (Nat.le_of_ble_eq_true rfl)
  rw [lg_entry_eq]
  generalize (lg_sl ([.ref h0, .int i_e, .int i_k, .int i_fr, .int i_m, .int i_f, .int i_but]) ++ List.replicate (7 - (lg_sl ([.ref h0, .int i_e, .int i_k, .int i_fr, .int i_m, .int i_f, .int i_but])).length) Slot.unset).toArray = ls at hl ⊢
  have hl : lv_has ls 7 [(0, .ref h0), (1, .int i_e), (2, .int i_k), (3, .int i_fr), (4, .int i_m), (5, .int i_f), (6, .int i_but)] := hl
  obtain ⟨H, hHe⟩ : ∃ H : Heap, H = s.heap := ⟨_, rfl⟩
  rw [← hHe] at hP
  have hS : va_S (fun _ : Nat => False) s.heap H [] := by rw [hHe]; exact hS
  refine pw_heap hHe ?_
  have h200 := hg_now.h0.2
  refine lv_iload_n hx hb dX10_isGood_0 rfl (lv_at hl 2 rfl) ?_
  refine lv_i2l (v := i_k.toInt64) hx hb dX10_isGood_1 rfl ?_
  refine lv_lconst (v := 1) hx hb dX10_isGood_2 (by decide) ?_
  refine lv_ldc2 hx hb hown (hts (.constantLong RX10 199 (5)) (List.mem_of_getElem? (i := 1) rfl)) dX10_isGood_3 ?_
  have hPc := hP.sub (ws' := []) [] rfl
  have hKc := hK.sub (tys' := []) [] rfl
  refine va_calli (va_runS (As := [.long i_k.toInt64, .long 1, .long 5]) (rest := []) ⟨hx, hb, hml, hown, hts⟩ (c_X10_in0 l D i_k.toInt64 1 5) (cwS 3 hts g_X10_isGood_X10_in0 rfl rfl rfl (by decide +kernel) ⟨Nat.le_of_ble_eq_true rfl, Nat.le_of_ble_eq_true rfl⟩) ⟨fun a U g mk q => by obtain ⟨q0, qP, qK⟩ := q; exact ⟨q0, qP, va_K.moved (u := U) (U := U.calling g mk a) (Vm.Alike.refl U.vm) qK⟩, fun U hU hW => ⟨rfl, by rw [hU]; exact hPc, va_K.moved hW.alike hKc⟩⟩ rfl rfl hl.1 rfl (lv_room (Nat.le_of_ble_eq_true rfl)) dX10_isGood_6 ⟨Nat.le_of_ble_eq_true rfl, Nat.le_of_ble_eq_true rfl⟩) hS (fun _ _ h => h.elim) (fun _ h => h.elim) (fun r1 u t H1 locs ht hvm hw hB hz1 hk1 hS => ?_)
  have hP := pw_keep hP (fun q hq => hk1 q hq (fun h => h))
  generalize H1 = H at hP hS ⊢
  refine W.widen (k := 0) (n := 0) (Nat.le_of_ble_eq_true rfl) (Nat.le_of_ble_eq_true rfl) ?_
  have bor1 := hw.1
  have zor1 := pw_boolI bor1
  have hfr1 := hw.2
  have kl1 : (1 : Int64).toInt = 1 := by decide
  have kl5 : (5 : Int64).toInt = 5 := by decide
  try simp only [Int32.toInt_toInt64] at hfr1
  refine lv_if_eq (tgt := 57) hx hb dX10_isGood_9 (by decide) (fun c2 => ?_) (fun c2 => ?_)
  · have nc2 : r1.toInt = 0 := pw_eq c2 rfl (by decide)
    refine lv_iconst (v := 0) hx hb dX10_isGood_57 (by decide) ?_
    exact W.zret (v := 0) (ty := .boolean) hx hb hr rfl (fun t ht hW => ⟨⟨0, (), rfl, ⟨Or.inl rfl, Or.inl (by decide)⟩, trivial⟩, hS.F ht⟩) hS.2.2 dX10_isGood_58
  · have nc2 : r1.toInt ≠ 0 := pw_ne c2 rfl (by decide)
    refine lv_aload_n hx hb dX10_isGood_12 rfl (lv_at hl 0 rfl) ?_
    refine va_get (D := D) (ci := 10) (v := .ref m_now) (C := RX10) (T := TX10) (N := 25) hx hb hts (fun _ h => List.mem_cons_of_mem _ (List.mem_append_right _ h)) hown hK hP 0 rfl rfl 0 (by decide) (hts (.fieldLink RX10 7 "LineCitesModel" "now" "[I") (List.mem_of_getElem? (i := 6) rfl)) (fun _ h9 => h9) rfl dX10_isGood_13 ?_
    refine lv_iload_n hx hb dX10_isGood_16 rfl (lv_at hl 1 rfl) ?_
    refine lv_iload_n hx hb dX10_isGood_17 rfl (lv_at hl 3 rfl) ?_
    refine lv_iload hx hb dX10_isGood_18 (lv_at hl 6 rfl) ?_
    have hPc := hP.sub (ws' := [(m_now, .inl (kI, 192, .inl g_now))]) [1] rfl
    have hKc := hK.sub (tys' := [(kI, .int)]) [0] rfl
    refine va_calli (va_runS (As := [.ref m_now, .int i_e, .int i_fr, .int i_but]) (rest := []) ⟨hx, hb, hml, hown, hts⟩ (c_X10_isFrom l D m_now i_e i_fr i_but kI g_now i_e.toInt.toNat (by first | omega | decide | (have hz0 : (0 : Int32).toInt = 0 := (by decide); omega)) (by first | decide | omega) (by first | decide | omega) hg_now) (cwS 4 hts g_X10_isGood_X10_isFrom rfl rfl rfl (by decide +kernel) ⟨Nat.le_of_ble_eq_true rfl, Nat.le_of_ble_eq_true rfl⟩) ⟨fun a U g mk q => by obtain ⟨q0, qP, qK⟩ := q; exact ⟨q0, qP, va_K.moved (u := U) (U := U.calling g mk a) (Vm.Alike.refl U.vm) qK⟩, fun U hU hW => ⟨rfl, by rw [hU]; exact hPc, va_K.moved hW.alike hKc⟩⟩ rfl rfl hl.1 rfl (lv_room (Nat.le_of_ble_eq_true rfl)) dX10_isGood_20 ⟨Nat.le_of_ble_eq_true rfl, Nat.le_of_ble_eq_true rfl⟩) hS (fun _ _ h => h.elim) (fun _ h => h.elim) (fun r3 u t H1 locs ht hvm hw hB hz1 hk1 hS => ?_)
    have hP := pw_keep hP (fun q hq => hk1 q hq (fun h => h))
    generalize H1 = H at hP hS ⊢
    refine W.widen (k := 0) (n := 0) (Nat.le_of_ble_eq_true rfl) (Nat.le_of_ble_eq_true rfl) ?_
    have bor3 := hw.1
    have zor3 := pw_boolI bor3
    have hfr3 := hw.2
    have hbr3 : r3.toInt = 1 → (0 ≤ i_fr.toInt ∧ i_fr.toInt < (g_now 0).toInt) := fun q => gFrom_b (hfr3.symm.trans q)
    refine lv_if_eq (tgt := 57) hx hb dX10_isGood_23 (by decide) (fun c4 => ?_) (fun c4 => ?_)
    · have nc4 : r3.toInt = 0 := pw_eq c4 rfl (by decide)
      refine lv_iconst (v := 0) hx hb dX10_isGood_57 (by decide) ?_
      exact W.zret (v := 0) (ty := .boolean) hx hb hr rfl (fun t ht hW => ⟨⟨0, (), rfl, ⟨Or.inl rfl, Or.inl (by decide)⟩, trivial⟩, hS.F ht⟩) hS.2.2 dX10_isGood_58
    · have nc4 : r3.toInt ≠ 0 := pw_ne c4 rfl (by decide)
      refine lv_aload_n hx hb dX10_isGood_26 rfl (lv_at hl 0 rfl) ?_
      refine va_get (D := D) (ci := 10) (v := .ref m_now) (C := RX10) (T := TX10) (N := 25) hx hb hts (fun _ h => List.mem_cons_of_mem _ (List.mem_append_right _ h)) hown hK hP 0 rfl rfl 0 (by decide) (hts (.fieldLink RX10 7 "LineCitesModel" "now" "[I") (List.mem_of_getElem? (i := 6) rfl)) (fun _ h9 => h9) rfl dX10_isGood_27 ?_
      refine lv_iload_n hx hb dX10_isGood_30 rfl (lv_at hl 1 rfl) ?_
      refine lv_iload_n hx hb dX10_isGood_31 rfl (lv_at hl 3 rfl) ?_
      refine lv_iload hx hb dX10_isGood_32 (lv_at hl 4 rfl) ?_
      refine lv_iload hx hb dX10_isGood_34 (lv_at hl 6 rfl) ?_
      have hPc := hP.sub (ws' := [(m_now, .inl (kI, 192, .inl g_now))]) [1] rfl
      have hKc := hK.sub (tys' := [(kI, .int)]) [0] rfl
      refine va_calli (va_runS (As := [.ref m_now, .int i_e, .int i_fr, .int i_m, .int i_but]) (rest := []) ⟨hx, hb, hml, hown, hts⟩ (c_X10_isMany l D m_now i_e i_fr i_m i_but kI g_now i_e.toInt.toNat (by first | omega | decide | (have hz0 : (0 : Int32).toInt = 0 := (by decide); omega)) (by first | decide | omega) (by first | decide | omega) (by first | decide | omega) (by first | decide | omega) hg_now) (cwS 5 hts g_X10_isGood_X10_isMany rfl rfl rfl (by decide +kernel) ⟨Nat.le_of_ble_eq_true rfl, Nat.le_of_ble_eq_true rfl⟩) ⟨fun a U g mk q => by obtain ⟨q0, qP, qK⟩ := q; exact ⟨q0, qP, va_K.moved (u := U) (U := U.calling g mk a) (Vm.Alike.refl U.vm) qK⟩, fun U hU hW => ⟨rfl, by rw [hU]; exact hPc, va_K.moved hW.alike hKc⟩⟩ rfl rfl hl.1 rfl (lv_room (Nat.le_of_ble_eq_true rfl)) dX10_isGood_36 ⟨Nat.le_of_ble_eq_true rfl, Nat.le_of_ble_eq_true rfl⟩) hS (fun _ _ h => h.elim) (fun _ h => h.elim) (fun r5 u t H1 locs ht hvm hw hB hz1 hk1 hS => ?_)
      have hP := pw_keep hP (fun q hq => hk1 q hq (fun h => h))
      generalize H1 = H at hP hS ⊢
      refine W.widen (k := 0) (n := 0) (Nat.le_of_ble_eq_true rfl) (Nat.le_of_ble_eq_true rfl) ?_
      have bor5 := hw.1
      have zor5 := pw_boolI bor5
      have hfr5 := hw.2
      have hbr5 : r5.toInt = 1 → (1 ≤ i_m.toInt ∧ i_m.toInt ≤ (g_now 0).toInt - i_fr.toInt) := fun q => gMany_b (hfr5.symm.trans q)
      refine lv_if_eq (tgt := 57) hx hb dX10_isGood_39 (by decide) (fun c6 => ?_) (fun c6 => ?_)
      · have nc6 : r5.toInt = 0 := pw_eq c6 rfl (by decide)
        refine lv_iconst (v := 0) hx hb dX10_isGood_57 (by decide) ?_
        exact W.zret (v := 0) (ty := .boolean) hx hb hr rfl (fun t ht hW => ⟨⟨0, (), rfl, ⟨Or.inl rfl, Or.inl (by decide)⟩, trivial⟩, hS.F ht⟩) hS.2.2 dX10_isGood_58
      · have nc6 : r5.toInt ≠ 0 := pw_ne c6 rfl (by decide)
        refine lv_iload_n hx hb dX10_isGood_42 rfl (lv_at hl 2 rfl) ?_
        refine lv_iload hx hb dX10_isGood_43 (lv_at hl 4 rfl) ?_
        refine lv_iload hx hb dX10_isGood_45 (lv_at hl 5 rfl) ?_
        have hPc := hP.sub (ws' := []) [] rfl
        have hKc := hK.sub (tys' := []) [] rfl
        refine va_calli (va_runS (As := [.int i_k, .int i_m, .int i_f]) (rest := []) ⟨hx, hb, hml, hown, hts⟩ (c_X10_isFirst l D i_k i_m i_f (by first | decide | omega) (by first | decide | omega)) (cwS 3 hts g_X10_isGood_X10_isFirst rfl rfl rfl (by decide +kernel) ⟨Nat.le_of_ble_eq_true rfl, Nat.le_of_ble_eq_true rfl⟩) ⟨fun a U g mk q => by obtain ⟨q0, qP, qK⟩ := q; exact ⟨q0, qP, va_K.moved (u := U) (U := U.calling g mk a) (Vm.Alike.refl U.vm) qK⟩, fun U hU hW => ⟨rfl, by rw [hU]; exact hPc, va_K.moved hW.alike hKc⟩⟩ rfl rfl hl.1 rfl (lv_room (Nat.le_of_ble_eq_true rfl)) dX10_isGood_47 ⟨Nat.le_of_ble_eq_true rfl, Nat.le_of_ble_eq_true rfl⟩) hS (fun _ _ h => h.elim) (fun _ h => h.elim) (fun r7 u t H1 locs ht hvm hw hB hz1 hk1 hS => ?_)
        have hP := pw_keep hP (fun q hq => hk1 q hq (fun h => h))
        generalize H1 = H at hP hS ⊢
        refine W.widen (k := 0) (n := 0) (Nat.le_of_ble_eq_true rfl) (Nat.le_of_ble_eq_true rfl) ?_
        have bor7 := hw.1
        have zor7 := pw_boolI bor7
        have hfr7 := hw.2
        refine lv_if_eq (tgt := 57) hx hb dX10_isGood_50 (by decide) (fun c8 => ?_) (fun c8 => ?_)
        · have nc8 : r7.toInt = 0 := pw_eq c8 rfl (by decide)
          refine lv_iconst (v := 0) hx hb dX10_isGood_57 (by decide) ?_
          exact W.zret (v := 0) (ty := .boolean) hx hb hr rfl (fun t ht hW => ⟨⟨0, (), rfl, ⟨Or.inl rfl, Or.inl (by decide)⟩, trivial⟩, hS.F ht⟩) hS.2.2 dX10_isGood_58
        · have nc8 : r7.toInt ≠ 0 := pw_ne c8 rfl (by decide)
          refine lv_iconst (v := 1) hx hb dX10_isGood_53 (by decide) ?_
          refine lv_goto (tgt := 58) hx hb dX10_isGood_54 (by decide) ?_
          exact W.zret (v := 1) (ty := .boolean) hx hb hr rfl (fun t ht hW => ⟨⟨1, (), rfl, ⟨Or.inr rfl, Or.inr ⟨by decide, (by unfold vS; omega)⟩⟩, trivial⟩, hS.F ht⟩) hS.2.2 dX10_isGood_58
