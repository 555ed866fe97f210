theorem dX7_byteAt_0 : decode cX7_byteAt 0 = .ok (.iload_n 1, 1) := by decide +kernel
theorem dX7_byteAt_1 : decode cX7_byteAt 1 = .ok (.ifCond .lt 20, 3) := by decide +kernel
theorem dX7_byteAt_4 : decode cX7_byteAt 4 = .ok (.iload_n 1, 1) := by decide +kernel
theorem dX7_byteAt_5 : decode cX7_byteAt 5 = .ok (.aload_n 0, 1) := by decide +kernel
theorem dX7_byteAt_6 : decode cX7_byteAt 6 = .ok (.getfield 15, 3) := by decide +kernel
theorem dX7_byteAt_9 : decode cX7_byteAt 9 = .ok (.if_icmp .ge 12, 3) := by decide +kernel
theorem dX7_byteAt_12 : decode cX7_byteAt 12 = .ok (.iload_n 1, 1) := by decide +kernel
theorem dX7_byteAt_13 : decode cX7_byteAt 13 = .ok (.aload_n 0, 1) := by decide +kernel
theorem dX7_byteAt_14 : decode cX7_byteAt 14 = .ok (.getfield 9, 3) := by decide +kernel
theorem dX7_byteAt_17 : decode cX7_byteAt 17 = .ok (.arraylength, 1) := by decide +kernel
theorem dX7_byteAt_18 : decode cX7_byteAt 18 = .ok (.if_icmp .lt 7, 3) := by decide +kernel
theorem dX7_byteAt_21 : decode cX7_byteAt 21 = .ok (.iconst 0, 1) := by decide +kernel
theorem dX7_byteAt_22 : decode cX7_byteAt 22 = .ok (.goto 13, 3) := by decide +kernel
theorem dX7_byteAt_25 : decode cX7_byteAt 25 = .ok (.aload_n 0, 1) := by decide +kernel
theorem dX7_byteAt_26 : decode cX7_byteAt 26 = .ok (.getfield 9, 3) := by decide +kernel
theorem dX7_byteAt_29 : decode cX7_byteAt 29 = .ok (.iload_n 1, 1) := by decide +kernel
theorem dX7_byteAt_30 : decode cX7_byteAt 30 = .ok (.baload, 1) := by decide +kernel
theorem dX7_byteAt_31 : decode cX7_byteAt 31 = .ok (.sipush 255, 3) := by decide +kernel
theorem dX7_byteAt_34 : decode cX7_byteAt 34 = .ok (.iand, 1) := by decide +kernel
theorem dX7_byteAt_35 : decode cX7_byteAt 35 = .ok (.ireturn, 1) := by decide +kernel
theorem dX4_isFigure_0 : decode cX4_isFigure 0 = .ok (.iload_n 0, 1) := by decide +kernel
theorem dX4_isFigure_1 : decode cX4_isFigure 1 = .ok (.bipush 48, 2) := by decide +kernel
theorem dX4_isFigure_3 : decode cX4_isFigure 3 = .ok (.if_icmp .lt 13, 3) := by decide +kernel
theorem dX4_isFigure_6 : decode cX4_isFigure 6 = .ok (.iload_n 0, 1) := by decide +kernel
theorem dX4_isFigure_7 : decode cX4_isFigure 7 = .ok (.bipush 57, 2) := by decide +kernel
theorem dX4_isFigure_9 : decode cX4_isFigure 9 = .ok (.if_icmp .gt 7, 3) := by decide +kernel
theorem dX4_isFigure_12 : decode cX4_isFigure 12 = .ok (.iconst 1, 1) := by decide +kernel
theorem dX4_isFigure_13 : decode cX4_isFigure 13 = .ok (.goto 4, 3) := by decide +kernel
theorem dX4_isFigure_16 : decode cX4_isFigure 16 = .ok (.iconst 0, 1) := by decide +kernel
theorem dX4_isFigure_17 : decode cX4_isFigure 17 = .ok (.ireturn, 1) := by decide +kernel
theorem dX4_stepOverFigures_0 : decode cX4_stepOverFigures 0 = .ok (.aload_n 0, 1) := by decide +kernel
theorem dX4_stepOverFigures_1 : decode cX4_stepOverFigures 1 = .ok (.iconst 0, 1) := by decide +kernel
theorem dX4_stepOverFigures_2 : decode cX4_stepOverFigures 2 = .ok (.putfield 33, 3) := by decide +kernel
theorem dX4_stepOverFigures_5 : decode cX4_stepOverFigures 5 = .ok (.aload_n 0, 1) := by decide +kernel
theorem dX4_stepOverFigures_6 : decode cX4_stepOverFigures 6 = .ok (.getfield 26, 3) := by decide +kernel
theorem dX4_stepOverFigures_9 : decode cX4_stepOverFigures 9 = .ok (.aload_n 0, 1) := by decide +kernel
theorem dX4_stepOverFigures_10 : decode cX4_stepOverFigures 10 = .ok (.getfield 9, 3) := by decide +kernel
theorem dX4_stepOverFigures_13 : decode cX4_stepOverFigures 13 = .ok (.invokevirtual 87, 3) := by decide +kernel
theorem dX4_stepOverFigures_16 : decode cX4_stepOverFigures 16 = .ok (.if_icmp .ge 72, 3) := by decide +kernel
theorem dX4_stepOverFigures_19 : decode cX4_stepOverFigures 19 = .ok (.aload_n 0, 1) := by decide +kernel
theorem dX4_stepOverFigures_20 : decode cX4_stepOverFigures 20 = .ok (.getfield 9, 3) := by decide +kernel
theorem dX4_stepOverFigures_23 : decode cX4_stepOverFigures 23 = .ok (.aload_n 0, 1) := by decide +kernel
theorem dX4_stepOverFigures_24 : decode cX4_stepOverFigures 24 = .ok (.getfield 26, 3) := by decide +kernel
theorem dX4_stepOverFigures_27 : decode cX4_stepOverFigures 27 = .ok (.invokevirtual 92, 3) := by decide +kernel
theorem dX4_stepOverFigures_30 : decode cX4_stepOverFigures 30 = .ok (.invokestatic 95, 3) := by decide +kernel
theorem dX4_stepOverFigures_33 : decode cX4_stepOverFigures 33 = .ok (.ifCond .eq 55, 3) := by decide +kernel
theorem dX4_stepOverFigures_36 : decode cX4_stepOverFigures 36 = .ok (.aload_n 0, 1) := by decide +kernel
theorem dX4_stepOverFigures_37 : decode cX4_stepOverFigures 37 = .ok (.getfield 26, 3) := by decide +kernel
theorem dX4_stepOverFigures_40 : decode cX4_stepOverFigures 40 = .ok (.aload_n 0, 1) := by decide +kernel
theorem dX4_stepOverFigures_41 : decode cX4_stepOverFigures 41 = .ok (.getfield 23, 3) := by decide +kernel
theorem dX4_stepOverFigures_44 : decode cX4_stepOverFigures 44 = .ok (.isub, 1) := by decide +kernel
theorem dX4_stepOverFigures_45 : decode cX4_stepOverFigures 45 = .ok (.iconst 3, 1) := by decide +kernel
theorem dX4_stepOverFigures_46 : decode cX4_stepOverFigures 46 = .ok (.if_icmp .ge 29, 3) := by decide +kernel
theorem dX4_stepOverFigures_49 : decode cX4_stepOverFigures 49 = .ok (.aload_n 0, 1) := by decide +kernel
theorem dX4_stepOverFigures_50 : decode cX4_stepOverFigures 50 = .ok (.aload_n 0, 1) := by decide +kernel
theorem dX4_stepOverFigures_51 : decode cX4_stepOverFigures 51 = .ok (.getfield 33, 3) := by decide +kernel
theorem dX4_stepOverFigures_54 : decode cX4_stepOverFigures 54 = .ok (.bipush 10, 2) := by decide +kernel
theorem dX4_stepOverFigures_56 : decode cX4_stepOverFigures 56 = .ok (.imul, 1) := by decide +kernel
theorem dX4_stepOverFigures_57 : decode cX4_stepOverFigures 57 = .ok (.aload_n 0, 1) := by decide +kernel
theorem dX4_stepOverFigures_58 : decode cX4_stepOverFigures 58 = .ok (.getfield 9, 3) := by decide +kernel
theorem dX4_stepOverFigures_61 : decode cX4_stepOverFigures 61 = .ok (.aload_n 0, 1) := by decide +kernel
theorem dX4_stepOverFigures_62 : decode cX4_stepOverFigures 62 = .ok (.getfield 26, 3) := by decide +kernel
theorem dX4_stepOverFigures_65 : decode cX4_stepOverFigures 65 = .ok (.invokevirtual 92, 3) := by decide +kernel
theorem dX4_stepOverFigures_68 : decode cX4_stepOverFigures 68 = .ok (.iadd, 1) := by decide +kernel
theorem dX4_stepOverFigures_69 : decode cX4_stepOverFigures 69 = .ok (.bipush 48, 2) := by decide +kernel
theorem dX4_stepOverFigures_71 : decode cX4_stepOverFigures 71 = .ok (.isub, 1) := by decide +kernel
theorem dX4_stepOverFigures_72 : decode cX4_stepOverFigures 72 = .ok (.putfield 33, 3) := by decide +kernel
theorem dX4_stepOverFigures_75 : decode cX4_stepOverFigures 75 = .ok (.aload_n 0, 1) := by decide +kernel
theorem dX4_stepOverFigures_76 : decode cX4_stepOverFigures 76 = .ok (.dup, 1) := by decide +kernel
theorem dX4_stepOverFigures_77 : decode cX4_stepOverFigures 77 = .ok (.getfield 26, 3) := by decide +kernel
theorem dX4_stepOverFigures_80 : decode cX4_stepOverFigures 80 = .ok (.iconst 1, 1) := by decide +kernel
theorem dX4_stepOverFigures_81 : decode cX4_stepOverFigures 81 = .ok (.iadd, 1) := by decide +kernel
theorem dX4_stepOverFigures_82 : decode cX4_stepOverFigures 82 = .ok (.putfield 26, 3) := by decide +kernel
theorem dX4_stepOverFigures_85 : decode cX4_stepOverFigures 85 = .ok (.goto (-80), 3) := by decide +kernel
theorem dX4_stepOverFigures_88 : decode cX4_stepOverFigures 88 = .ok (.aload_n 0, 1) := by decide +kernel
theorem dX4_stepOverFigures_89 : decode cX4_stepOverFigures 89 = .ok (.aload_n 0, 1) := by decide +kernel
theorem dX4_stepOverFigures_90 : decode cX4_stepOverFigures 90 = .ok (.getfield 26, 3) := by decide +kernel
theorem dX4_stepOverFigures_93 : decode cX4_stepOverFigures 93 = .ok (.aload_n 0, 1) := by decide +kernel
theorem dX4_stepOverFigures_94 : decode cX4_stepOverFigures 94 = .ok (.getfield 23, 3) := by decide +kernel
theorem dX4_stepOverFigures_97 : decode cX4_stepOverFigures 97 = .ok (.isub, 1) := by decide +kernel
theorem dX4_stepOverFigures_98 : decode cX4_stepOverFigures 98 = .ok (.iconst 3, 1) := by decide +kernel
theorem dX4_stepOverFigures_99 : decode cX4_stepOverFigures 99 = .ok (.if_icmp .gt 8, 3) := by decide +kernel
theorem dX4_stepOverFigures_102 : decode cX4_stepOverFigures 102 = .ok (.bipush (-2), 2) := by decide +kernel
theorem dX4_stepOverFigures_104 : decode cX4_stepOverFigures 104 = .ok (.goto 5, 3) := by decide +kernel
theorem dX4_stepOverFigures_107 : decode cX4_stepOverFigures 107 = .ok (.bipush (-3), 2) := by decide +kernel
theorem dX4_stepOverFigures_109 : decode cX4_stepOverFigures 109 = .ok (.putfield 48, 3) := by decide +kernel
theorem dX4_stepOverFigures_112 : decode cX4_stepOverFigures 112 = .ok (.return_, 1) := by decide +kernel
theorem dX4_step_0 : decode cX4_step 0 = .ok (.aload_n 0, 1) := by decide +kernel
theorem dX4_step_1 : decode cX4_step 1 = .ok (.aload_n 0, 1) := by decide +kernel
theorem dX4_step_2 : decode cX4_step 2 = .ok (.getfield 26, 3) := by decide +kernel
theorem dX4_step_5 : decode cX4_step 5 = .ok (.putfield 23, 3) := by decide +kernel
theorem dX4_step_8 : decode cX4_step 8 = .ok (.aload_n 0, 1) := by decide +kernel
theorem dX4_step_9 : decode cX4_step 9 = .ok (.getfield 26, 3) := by decide +kernel
theorem dX4_step_12 : decode cX4_step 12 = .ok (.aload_n 0, 1) := by decide +kernel
theorem dX4_step_13 : decode cX4_step 13 = .ok (.getfield 9, 3) := by decide +kernel
theorem dX4_step_16 : decode cX4_step 16 = .ok (.invokevirtual 87, 3) := by decide +kernel
theorem dX4_step_19 : decode cX4_step 19 = .ok (.if_icmp .lt 9, 3) := by decide +kernel
theorem dX4_step_22 : decode cX4_step 22 = .ok (.aload_n 0, 1) := by decide +kernel
theorem dX4_step_23 : decode cX4_step 23 = .ok (.iconst (-1), 1) := by decide +kernel
theorem dX4_step_24 : decode cX4_step 24 = .ok (.putfield 48, 3) := by decide +kernel
theorem dX4_step_27 : decode cX4_step 27 = .ok (.return_, 1) := by decide +kernel
theorem dX4_step_28 : decode cX4_step 28 = .ok (.aload_n 0, 1) := by decide +kernel
theorem dX4_step_29 : decode cX4_step 29 = .ok (.getfield 9, 3) := by decide +kernel
theorem dX4_step_32 : decode cX4_step 32 = .ok (.aload_n 0, 1) := by decide +kernel
theorem dX4_step_33 : decode cX4_step 33 = .ok (.getfield 26, 3) := by decide +kernel
theorem dX4_step_36 : decode cX4_step 36 = .ok (.invokevirtual 92, 3) := by decide +kernel
theorem dX4_step_39 : decode cX4_step 39 = .ok (.istore_n 1, 1) := by decide +kernel
theorem dX4_step_40 : decode cX4_step 40 = .ok (.iload_n 1, 1) := by decide +kernel
theorem dX4_step_41 : decode cX4_step 41 = .ok (.invokestatic 95, 3) := by decide +kernel
theorem dX4_step_44 : decode cX4_step 44 = .ok (.ifCond .eq 8, 3) := by decide +kernel
theorem dX4_step_47 : decode cX4_step 47 = .ok (.aload_n 0, 1) := by decide +kernel
theorem dX4_step_48 : decode cX4_step 48 = .ok (.invokevirtual 98, 3) := by decide +kernel
theorem dX4_step_51 : decode cX4_step 51 = .ok (.return_, 1) := by decide +kernel
theorem dX4_step_52 : decode cX4_step 52 = .ok (.aload_n 0, 1) := by decide +kernel
theorem dX4_step_53 : decode cX4_step 53 = .ok (.dup, 1) := by decide +kernel
theorem dX4_step_54 : decode cX4_step 54 = .ok (.getfield 26, 3) := by decide +kernel
theorem dX4_step_57 : decode cX4_step 57 = .ok (.iconst 1, 1) := by decide +kernel
theorem dX4_step_58 : decode cX4_step 58 = .ok (.iadd, 1) := by decide +kernel
theorem dX4_step_59 : decode cX4_step 59 = .ok (.putfield 26, 3) := by decide +kernel
theorem dX4_step_62 : decode cX4_step 62 = .ok (.aload_n 0, 1) := by decide +kernel
theorem dX4_step_63 : decode cX4_step 63 = .ok (.iload_n 1, 1) := by decide +kernel
theorem dX4_step_64 : decode cX4_step 64 = .ok (.bipush 97, 2) := by decide +kernel
theorem dX4_step_66 : decode cX4_step 66 = .ok (.if_icmp .lt 9, 3) := by decide +kernel
theorem dX4_step_69 : decode cX4_step 69 = .ok (.iload_n 1, 1) := by decide +kernel
theorem dX4_step_70 : decode cX4_step 70 = .ok (.bipush 122, 2) := by decide +kernel
theorem dX4_step_72 : decode cX4_step 72 = .ok (.if_icmp .le 15, 3) := by decide +kernel
theorem dX4_step_75 : decode cX4_step 75 = .ok (.iload_n 1, 1) := by decide +kernel
theorem dX4_step_76 : decode cX4_step 76 = .ok (.bipush 44, 2) := by decide +kernel
theorem dX4_step_78 : decode cX4_step 78 = .ok (.if_icmp .eq 9, 3) := by decide +kernel
theorem dX4_step_81 : decode cX4_step 81 = .ok (.iload_n 1, 1) := by decide +kernel
theorem dX4_step_82 : decode cX4_step 82 = .ok (.bipush 59, 2) := by decide +kernel
theorem dX4_step_84 : decode cX4_step 84 = .ok (.if_icmp .ne 7, 3) := by decide +kernel
theorem dX4_step_87 : decode cX4_step 87 = .ok (.iload_n 1, 1) := by decide +kernel
theorem dX4_step_88 : decode cX4_step 88 = .ok (.goto 5, 3) := by decide +kernel
theorem dX4_step_91 : decode cX4_step 91 = .ok (.bipush (-3), 2) := by decide +kernel
theorem dX4_step_93 : decode cX4_step 93 = .ok (.putfield 48, 3) := by decide +kernel
theorem dX4_step_96 : decode cX4_step 96 = .ok (.return_, 1) := by decide +kernel
def w_X7_byteAt__f : List Cond := .code yX7_byteAt cX7_byteAt 2 (some .int) :: ([.fieldLink RX7 15 "LineCites$Tape" "size" "I", .fieldLink RX7 9 "LineCites$Tape" "bytes" "[B"] ++ wsX70)
set_option maxHeartbeats 4000000 in
set_option maxRecDepth 100000 in
theorem c_X7_byteAt__f (l : Launch) (D : va_G) (h0 : Nat) (i_n : Int32) (y_by : Nat) (i_sz : Int32) (i_lf : Int32) (kB : ClassId) (g_by : Nat → Int32) (a : Nat) (h0i_sz : 0 ≤ i_sz.toInt) (h1i_sz : i_sz.toInt ≤ 200) (hna : i_n.toInt = ((a : Nat) : Int)) (hlt : i_n.toInt < i_sz.toInt) : Met l yX7_byteAt w_X7_byteAt__f ({ frames := 0, cells := 0, slots := 0, locals := 0 }) (va_Pc [.ref h0, .int i_n] (fun U => va_P D vwCl [(h0, .inr (7, [.ref y_by, .int i_sz, .int i_lf])), (y_by, .inl (kB, 200, .inl g_by))] U.heap ∧ va_K D vwCl [(kB, .byte)] U)) (va_Qi (fun (r : Int32) (_ : Unit) => 0 ≤ r.toInt ∧ r.toInt ≤ 255 ∧ r.toInt = tC g_by a) (fun _ _ => True) (fun _ => False)) 0 0 (fun _ => False) := by
  refine Met.ofW (cc := cX7_byteAt) (maxL := 2) (ret := (some .int)) (by decide) rfl ?_
  intro p e s m args below meth c s₁ B hml hv
  obtain ⟨rfl, hP, hK⟩ := hv
  have hx := B.exec
  have hb := B.bytes
  have hr := B.returns
  have hts := atoms_spec (ws := w_X7_byteAt__f) B.pre
  have hown : s.vm.findClass RX7 = some m.cls := findClass_of_methodNamed B.named
  have hlocks := B.notSynchronized
  have hS : va_S (fun _ : Nat => False) s.heap s.heap [] := va_S.rf
  have hP : va_P D vwCl [(h0, .inr (7, [.ref y_by, .int i_sz, .int i_lf])), (y_by, .inl (kB, 200, .inl g_by))] s.heap := hP
  have hl := lv_entry ([.ref h0, .int i_n]) (n := 2) (Nat.le_of_ble_eq_true rfl)
  rw [lg_entry_eq]
  generalize (lg_sl ([.ref h0, .int i_n]) ++ List.replicate (2 - (lg_sl ([.ref h0, .int i_n])).length) Slot.unset).toArray = ls at hl ⊢
  have hl : lv_has ls 2 [(0, .ref h0), (1, .int i_n)] := hl
  obtain ⟨H, hHe⟩ : ∃ H : Heap, H = s.heap := ⟨_, rfl⟩
  rw [← hHe] at hP
  have hS : va_S (fun _ : Nat => False) s.heap H [] := by rw [hHe]; exact hS
  refine pw_heap hHe ?_
  refine lv_iload_n hx hb dX7_byteAt_0 rfl (lv_at hl 1 rfl) ?_
  refine lv_if_lt (tgt := 21) hx hb dX7_byteAt_1 (by decide) (fun c1 => ?_) (fun c1 => ?_)
  · have nc1 : i_n.toInt < 0 := pw_lt c1 rfl (by decide)
    refine lv_iconst (v := 0) hx hb dX7_byteAt_21 (by decide) ?_
    refine lv_goto (tgt := 35) hx hb dX7_byteAt_22 (by decide) ?_
    exact W.iret (v := 0) hx hb hr (fun t ht hW => ⟨⟨0, (), rfl, (False.elim (by omega)), trivial⟩, hS.F ht⟩) hS.2.2 dX7_byteAt_35
  · have nc1 : 0 ≤ i_n.toInt := pw_nlt c1 rfl (by decide)
    refine lv_iload_n hx hb dX7_byteAt_4 rfl (lv_at hl 1 rfl) ?_
    refine lv_aload_n hx hb dX7_byteAt_5 rfl (lv_at hl 0 rfl) ?_
    refine va_get (D := D) (ci := 7) (v := .int i_sz) (C := RX7) (T := TX7) (N := 3) hx hb hts (fun _ h => List.mem_cons_of_mem _ (List.mem_append_right _ h)) hown hK hP 0 rfl rfl 1 (by decide) (hts (.fieldLink RX7 15 "LineCites$Tape" "size" "I") (List.mem_of_getElem? (i := 1) rfl)) (fun _ h9 => h9) rfl dX7_byteAt_6 ?_
    refine lv_icmp_ge (tgt := 21) hx hb dX7_byteAt_9 (by decide) (fun c2 => ?_) (fun c2 => ?_)
    · have nc2 : i_sz.toInt ≤ i_n.toInt := pw_le c2 rfl rfl
      have mc2i_n := pw_max i_n
      have mc2i_sz := pw_max i_sz
      refine lv_iconst (v := 0) hx hb dX7_byteAt_21 (by decide) ?_
      refine lv_goto (tgt := 35) hx hb dX7_byteAt_22 (by decide) ?_
      exact W.iret (v := 0) hx hb hr (fun t ht hW => ⟨⟨0, (), rfl, (False.elim (by omega)), trivial⟩, hS.F ht⟩) hS.2.2 dX7_byteAt_35
    · have nc2 : i_n.toInt < i_sz.toInt := pw_nle c2 rfl rfl
      have mc2i_n := pw_max i_n
      have mc2i_sz := pw_max i_sz
      refine lv_iload_n hx hb dX7_byteAt_12 rfl (lv_at hl 1 rfl) ?_
      refine lv_aload_n hx hb dX7_byteAt_13 rfl (lv_at hl 0 rfl) ?_
      refine va_get (D := D) (ci := 7) (v := .ref y_by) (C := RX7) (T := TX7) (N := 3) hx hb hts (fun _ h => List.mem_cons_of_mem _ (List.mem_append_right _ h)) hown hK hP 0 rfl rfl 0 (by decide) (hts (.fieldLink RX7 9 "LineCites$Tape" "bytes" "[B") (List.mem_of_getElem? (i := 2) rfl)) (fun _ h9 => h9) rfl dX7_byteAt_14 ?_
      refine va_alen (v := 200) hx hb hK hP 1 0 rfl rfl rfl dX7_byteAt_17 ?_
      refine lv_icmp_lt (tgt := 25) hx hb dX7_byteAt_18 (by decide) (fun c3 => ?_) (fun c3 => ?_)
      · have nc3 : i_n.toInt < 200 := pw_lt c3 rfl (by decide)
        refine lv_aload_n hx hb dX7_byteAt_25 rfl (lv_at hl 0 rfl) ?_
        refine va_get (D := D) (ci := 7) (v := .ref y_by) (C := RX7) (T := TX7) (N := 3) hx hb hts (fun _ h => List.mem_cons_of_mem _ (List.mem_append_right _ h)) hown hK hP 0 rfl rfl 0 (by decide) (hts (.fieldLink RX7 9 "LineCites$Tape" "bytes" "[B") (List.mem_of_getElem? (i := 2) rfl)) (fun _ h9 => h9) rfl dX7_byteAt_26 ?_
        refine lv_iload_n hx hb dX7_byteAt_29 rfl (lv_at hl 1 rfl) ?_
        refine va_bald hx hb hK hP 1 0 rfl rfl (vp_in_iff.mpr ⟨by omega, by omega⟩) dX7_byteAt_30 ?_
        refine lv_topi (fun x4 ex4 => ?_)
        refine lv_sipush (v := 255) hx hb dX7_byteAt_31 (by decide) ?_
        refine lv_iand hx hb dX7_byteAt_34 ?_
        refine lv_topi (fun x5 ex5 => ?_)
        exact W.iret (v := x5) hx hb hr (fun t ht hW => ⟨⟨x5, (), rfl, (tC_at2 ex4 ex5 (by omega)), trivial⟩, hS.F ht⟩) hS.2.2 dX7_byteAt_35
      · have nc3 : 200 ≤ i_n.toInt := pw_nlt c3 rfl (by decide)
        refine lv_iconst (v := 0) hx hb dX7_byteAt_21 (by decide) ?_
        refine lv_goto (tgt := 35) hx hb dX7_byteAt_22 (by decide) ?_
        exact W.iret (v := 0) hx hb hr (fun t ht hW => ⟨⟨0, (), rfl, (False.elim (by omega)), trivial⟩, hS.F ht⟩) hS.2.2 dX7_byteAt_35
def w_X4_isFigure : List Cond := .code yX4_isFigure cX4_isFigure 1 (some .boolean) :: ([])
set_option maxHeartbeats 4000000 in
set_option maxRecDepth 100000 in
theorem c_X4_isFigure (l : Launch) (D : va_G) (i_b : Int32) : Met l yX4_isFigure w_X4_isFigure ({ frames := 0, cells := 0, slots := 0, locals := 0 }) (va_Pc [.int i_b] (fun U => va_P D vwCl [] U.heap ∧ va_K D vwCl [] U)) (va_Qi (fun (r : Int32) (_ : Unit) => (r = 0 ∨ r = 1) ∧ ((r.toInt = 1 ∧ 48 ≤ i_b.toInt ∧ i_b.toInt ≤ 57) ∨ (r.toInt = 0 ∧ (i_b.toInt < 48 ∨ 57 < i_b.toInt)))) (fun _ _ => True) (fun _ => False)) 0 0 (fun _ => False) := by
  refine Met.ofW (cc := cX4_isFigure) (maxL := 1) (ret := (some .boolean)) (by decide) rfl ?_
  intro p e s m args below meth c s₁ B hml hv
  obtain ⟨rfl, hP, hK⟩ := hv
  have hx := B.exec
  have hb := B.bytes
  have hr := B.returns
  have hts := atoms_spec (ws := w_X4_isFigure) B.pre
  have hown : s.vm.findClass RX4 = some m.cls := findClass_of_methodNamed B.named
  have hlocks := B.notSynchronized
  have hS : va_S (fun _ : Nat => False) s.heap s.heap [] := va_S.rf
  have hP : va_P D vwCl [] s.heap := hP
  have hl := lv_entry ([.int i_b]) (n := 1) (Nat.le_of_ble_eq_true rfl)
  rw [lg_entry_eq]
  generalize (lg_sl ([.int i_b]) ++ List.replicate (1 - (lg_sl ([.int i_b])).length) Slot.unset).toArray = ls at hl ⊢
  have hl : lv_has ls 1 [(0, .int i_b)] := hl
  obtain ⟨H, hHe⟩ : ∃ H : Heap, H = s.heap := ⟨_, rfl⟩
  rw [← hHe] at hP
  have hS : va_S (fun _ : Nat => False) s.heap H [] := by rw [hHe]; exact hS
  refine pw_heap hHe ?_
  refine lv_iload_n hx hb dX4_isFigure_0 rfl (lv_at hl 0 rfl) ?_
  refine lv_bipush (v := 48) hx hb dX4_isFigure_1 (by decide) ?_
  refine lv_icmp_lt (tgt := 16) hx hb dX4_isFigure_3 (by decide) (fun c1 => ?_) (fun c1 => ?_)
  · have nc1 : i_b.toInt < 48 := pw_lt c1 rfl (by decide)
    refine lv_iconst (v := 0) hx hb dX4_isFigure_16 (by decide) ?_
    exact W.zret (v := 0) (ty := .boolean) hx hb hr rfl (fun t ht hW => ⟨⟨0, (), rfl, ⟨Or.inl rfl, (by have hv : (0 : Int32).toInt = 0 := (by decide); omega)⟩, trivial⟩, hS.F ht⟩) hS.2.2 dX4_isFigure_17
  · have nc1 : 48 ≤ i_b.toInt := pw_nlt c1 rfl (by decide)
    refine lv_iload_n hx hb dX4_isFigure_6 rfl (lv_at hl 0 rfl) ?_
    refine lv_bipush (v := 57) hx hb dX4_isFigure_7 (by decide) ?_
    refine lv_icmp_gt (tgt := 16) hx hb dX4_isFigure_9 (by decide) (fun c2 => ?_) (fun c2 => ?_)
    · have nc2 : 57 < i_b.toInt := pw_lt c2 (by decide) rfl
      refine lv_iconst (v := 0) hx hb dX4_isFigure_16 (by decide) ?_
      exact W.zret (v := 0) (ty := .boolean) hx hb hr rfl (fun t ht hW => ⟨⟨0, (), rfl, ⟨Or.inl rfl, (by have hv : (0 : Int32).toInt = 0 := (by decide); omega)⟩, trivial⟩, hS.F ht⟩) hS.2.2 dX4_isFigure_17
    · have nc2 : i_b.toInt ≤ 57 := pw_nlt c2 (by decide) rfl
      refine lv_iconst (v := 1) hx hb dX4_isFigure_12 (by decide) ?_
      refine lv_goto (tgt := 17) hx hb dX4_isFigure_13 (by decide) ?_
      exact W.zret (v := 1) (ty := .boolean) hx hb hr rfl (fun t ht hW => ⟨⟨1, (), rfl, ⟨Or.inr rfl, (by have hv : (1 : Int32).toInt = 1 := (by decide); omega)⟩, trivial⟩, hS.F ht⟩) hS.2.2 dX4_isFigure_17
def w_X4_stepOverFigures : List Cond := .code yX4_stepOverFigures cX4_stepOverFigures 1 none :: ([.fieldLink RX4 33 "LineCites$Reader" "value" "I", .fieldLink RX4 26 "LineCites$Reader" "at" "I", .fieldLink RX4 9 "LineCites$Reader" "tape" "LLineCites$Tape;", .methodLink RX4 87 yX7_size, .instanceMethod yX7_size, .selects RX7 yX7_size yX7_size, .initialized RX7, .code yX7_size cX7_size 1 (some .int), .fieldLink RX7 15 "LineCites$Tape" "size" "I", .fieldLink RX4 23 "LineCites$Reader" "place" "I", .fieldLink RX4 48 "LineCites$Reader" "token" "I", .methodLink RX4 92 yX7_byteAt, .instanceMethod yX7_byteAt, .selects RX7 yX7_byteAt yX7_byteAt, .code yX7_byteAt cX7_byteAt 2 (some .int), .fieldLink RX7 9 "LineCites$Tape" "bytes" "[B", .methodLink RX4 95 yX4_isFigure, .static yX4_isFigure, .initialized RX4, .code yX4_isFigure cX4_isFigure 1 (some .boolean)] ++ wsX40 ++ wsX70)
set_option maxRecDepth 20000 in
theorem g_X4_stepOverFigures_X7_size : GoodIn w_X4_stepOverFigures (wsV RX4 87 RX7 yX7_size w_X7_size) := goodIn_r _ [4, 5, 6, 7, 8, 9, 28, 29, 30] rfl (by decide +kernel)
set_option maxRecDepth 20000 in
theorem g_X4_stepOverFigures_X7_byteAt__f : GoodIn w_X4_stepOverFigures (wsV RX4 92 RX7 yX7_byteAt w_X7_byteAt__f) := goodIn_r _ [12, 13, 14, 7, 15, 9, 16, 28, 29, 30] rfl (by decide +kernel)
set_option maxRecDepth 20000 in
theorem g_X4_stepOverFigures_X4_isFigure : GoodIn w_X4_stepOverFigures (wsS RX4 95 yX4_isFigure w_X4_isFigure) := goodIn_r _ [17, 18, 19, 20] rfl (by decide +kernel)
set_option maxHeartbeats 4000000 in
set_option maxRecDepth 100000 in
theorem c_X4_stepOverFigures (l : Launch) (D : va_G) (h0 : Nat) (a_tape : Nat) (a_d : Nat) (i_at : Int32) (i_tk : Int32) (i_vl : Int32) (i_fn : Int32) (y_by : Nat) (i_sz : Int32) (i_lf : Int32) (kB : ClassId) (g_by : Nat → Int32) (a : Nat) (sz : Nat) (h0i_sz : 0 ≤ i_sz.toInt) (h1i_sz : i_sz.toInt ≤ 200) (hna : i_at.toInt = ((a : Nat) : Int)) (hlt : i_at.toInt < i_sz.toInt) (h48 : 48 ≤ tC g_by a) (h57 : tC g_by a ≤ 57) : Met l yX4_stepOverFigures w_X4_stepOverFigures ({ frames := 1, cells := 0, slots := 0, locals := 21 }) (va_Pc [.ref h0] (fun U => U.heap.size = sz ∧ va_P D vwCl [(h0, .inr (4, [.ref a_tape, .ref a_d, .int i_at, .int i_tk, .int i_at, .int i_vl, .int i_fn])), (a_tape, .inr (7, [.ref y_by, .int i_sz, .int i_lf])), (y_by, .inl (kB, 200, .inl g_by))] U.heap ∧ va_K D vwCl [(kB, .byte)] U ∧ va_D (fun _ => True) [(h0, .inr (4, [.ref a_tape, .ref a_d, .int i_at, .int i_tk, .int i_at, .int i_vl, .int i_fn])), (a_tape, .inr (7, [.ref y_by, .int i_sz, .int i_lf])), (y_by, .inl (kB, 200, .inl g_by))])) (va_Qv (fun (_ : Unit) => True) (fun (_ : Unit) t => ∃ (n_at : Int32) (n_tk : Int32) (n_vl : Int32), va_P D vwCl [(h0, .inr (4, [.ref a_tape, .ref a_d, .int n_at, .int n_tk, .int i_at, .int n_vl, .int i_fn])), (a_tape, .inr (7, [.ref y_by, .int i_sz, .int i_lf])), (y_by, .inl (kB, 200, .inl g_by))] t.heap ∧ va_K D vwCl [(kB, .byte)] t ∧ va_D (va_A [(h0, .inr (4, [.ref a_tape, .ref a_d, .int i_at, .int i_tk, .int i_at, .int i_vl, .int i_fn])), (a_tape, .inr (7, [.ref y_by, .int i_sz, .int i_lf])), (y_by, .inl (kB, 200, .inl g_by))] sz) [(h0, .inr (4, [.ref a_tape, .ref a_d, .int n_at, .int n_tk, .int i_at, .int n_vl, .int i_fn])), (a_tape, .inr (7, [.ref y_by, .int i_sz, .int i_lf])), (y_by, .inl (kB, 200, .inl g_by))] ∧ n_at.toInt = ((tNx (tC g_by) i_sz.toInt.toNat a : Nat) : Int) ∧ n_tk.toInt = tTok (tC g_by) i_sz.toInt.toNat a ∧ (n_tk.toInt = -2 → (n_vl.toInt = tNum (tC g_by) i_sz.toInt.toNat a ∧ 0 ≤ n_vl.toInt ∧ n_vl.toInt ≤ 999)) ∧ (0 ≤ n_at.toInt ∧ n_at.toInt ≤ i_sz.toInt ∧ i_at.toInt ≤ n_at.toInt ∧ (n_tk.toInt = -1 ∨ i_at.toInt < n_at.toInt))) (va_A [(h0, .inr (4, [.ref a_tape, .ref a_d, .int i_at, .int i_tk, .int i_at, .int i_vl, .int i_fn])), (a_tape, .inr (7, [.ref y_by, .int i_sz, .int i_lf])), (y_by, .inl (kB, 200, .inl g_by))] sz)) 0 0 (va_A [(h0, .inr (4, [.ref a_tape, .ref a_d, .int i_at, .int i_tk, .int i_at, .int i_vl, .int i_fn])), (a_tape, .inr (7, [.ref y_by, .int i_sz, .int i_lf])), (y_by, .inl (kB, 200, .inl g_by))] sz) := by
  refine Met.ofW (cc := cX4_stepOverFigures) (maxL := 1) (ret := none) (by decide) rfl ?_
  intro p e s m args below meth c s₁ B hml hv
  obtain ⟨rfl, hsz, hP, hK, hD0⟩ := hv
  have hx := B.exec
  have hb := B.bytes
  have hr := B.returns
  have hts := atoms_spec (ws := w_X4_stepOverFigures) B.pre
  have hown : s.vm.findClass RX4 = some m.cls := findClass_of_methodNamed B.named
  have hlocks := B.notSynchronized
  subst hsz
  have hD := hD0.self (sz := s.heap.size)
  generalize hAe : va_A [(h0, .inr (4, [.ref a_tape, .ref a_d, .int i_at, .int i_tk, .int i_at, .int i_vl, .int i_fn])), (a_tape, .inr (7, [.ref y_by, .int i_sz, .int i_lf])), (y_by, .inl (kB, 200, .inl g_by))] s.heap.size = A at hD ⊢
  have hA : ∀ q : Nat, s.heap.size ≤ q → A q := fun q h => by rw [← hAe]; exact Or.inr h
  have hS : va_S A s.heap s.heap [] := va_S.rf
  have hP : va_P D vwCl [(h0, .inr (4, [.ref a_tape, .ref a_d, .int i_at, .int i_tk, .int i_at, .int i_vl, .int i_fn])), (a_tape, .inr (7, [.ref y_by, .int i_sz, .int i_lf])), (y_by, .inl (kB, 200, .inl g_by))] s.heap := hP
  have hl := lv_entry ([.ref h0]) (n := 1) (Nat.le_of_ble_eq_true rfl)
  rw [lg_entry_eq]
  generalize (lg_sl ([.ref h0]) ++ List.replicate (1 - (lg_sl ([.ref h0])).length) Slot.unset).toArray = ls at hl ⊢
  have hl : lv_has ls 1 [(0, .ref h0)] := hl
  obtain ⟨H, hHe⟩ : ∃ H : Heap, H = s.heap := ⟨_, rfl⟩
  rw [← hHe] at hP
  have hS : va_S A s.heap H [] := by rw [hHe]; exact hS
  refine pw_heap hHe ?_
  refine lv_aload_n hx hb dX4_stepOverFigures_0 rfl (lv_at hl 0 rfl) ?_
  refine lv_iconst (v := 0) hx hb dX4_stepOverFigures_1 (by decide) ?_
  refine va_put (D := D) (ci := 4) (v := .int 0) (ty := .int) (C := RX4) (T := TX4) (N := 7) hx hb hts (fun _ h => List.mem_cons_of_mem _ (List.mem_append_left _ (List.mem_append_right _ h))) tyX4 tyX4_ok nmX4 hown hK hP hD hS 0 rfl rfl 5 (by decide) (hts (.fieldLink RX4 33 "LineCites$Reader" "value" "I") (List.mem_of_getElem? (i := 1) rfl)) (fun _ h9 => h9) rfl (by decide +kernel) rfl rfl (Nat.le_of_ble_eq_true rfl) dX4_stepOverFigures_2 (fun H locs hP hD hS => ?_)
  have hP : va_P D vwCl [(h0, .inr (4, [.ref a_tape, .ref a_d, .int i_at, .int i_tk, .int i_at, .int 0, .int i_fn])), (a_tape, .inr (7, [.ref y_by, .int i_sz, .int i_lf])), (y_by, .inl (kB, 200, .inl g_by))] H := hP
  have hD : va_D A [(h0, .inr (4, [.ref a_tape, .ref a_d, .int i_at, .int i_tk, .int i_at, .int 0, .int i_fn])), (a_tape, .inr (7, [.ref y_by, .int i_sz, .int i_lf])), (y_by, .inl (kB, 200, .inl g_by))] := hD
  have hK : va_K D vwCl [(kB, .byte)] s := hK
  have hl9 : lv_has ls 1 [(0, .ref h0)] := lv_sub hl [0] rfl
  refine pw_loop (fun (zz : Int32 × Int32) H locs ls => match zz with | (v37, v38) => va_P D vwCl [(h0, .inr (4, [.ref a_tape, .ref a_d, .int v37, .int i_tk, .int i_at, .int v38, .int i_fn])), (a_tape, .inr (7, [.ref y_by, .int i_sz, .int i_lf])), (y_by, .inl (kB, 200, .inl g_by))] H ∧ va_D A [(h0, .inr (4, [.ref a_tape, .ref a_d, .int v37, .int i_tk, .int i_at, .int v38, .int i_fn])), (a_tape, .inr (7, [.ref y_by, .int i_sz, .int i_lf])), (y_by, .inl (kB, 200, .inl g_by))] ∧ va_S A s.heap H locs ∧ lv_has ls 1 [(0, .ref h0)] ∧ (i_at.toInt ≤ v37.toInt ∧ v37.toInt ≤ i_sz.toInt) ∧ (0 ≤ v38.toInt ∧ v38.toInt ≤ 999 ∧ (v37.toInt = i_at.toInt → v38.toInt = 0) ∧ (v37.toInt ≤ i_at.toInt + 1 → v38.toInt ≤ 9) ∧ (v37.toInt ≤ i_at.toInt + 2 → v38.toInt ≤ 99)) ∧ sofI (tC g_by) i_sz.toInt.toNat a v37.toInt v38.toInt) (fun (zz : Int32 × Int32)  => match zz with | (v37, v38) => (2147483648 - v37.toInt).toNat) 0 0 (fun (zz : Int32 × Int32) ls => match zz with | (v37, v38) => F0 m 5 ls []) (fun zz H locs ls ih39 hI => ?_) (i_at, 0) _ _ _ ⟨hP, hD, hS, hl9, (by omega), ⟨(by decide), (by decide), (fun _ => by decide), (fun _ => by decide), (fun _ => by decide)⟩, (sof_0 (by omega) (by decide))⟩
  obtain ⟨v37, v38⟩ := zz
  obtain ⟨hP, hD, hS, hl, bat, bvl, hso⟩ := hI
  have bat : (i_at.toInt ≤ v37.toInt ∧ v37.toInt ≤ i_sz.toInt) := bat
  have bvl : (0 ≤ v38.toInt ∧ v38.toInt ≤ 999 ∧ (v37.toInt = i_at.toInt → v38.toInt = 0) ∧ (v37.toInt ≤ i_at.toInt + 1 → v38.toInt ≤ 9) ∧ (v37.toInt ≤ i_at.toInt + 2 → v38.toInt ≤ 99)) := bvl
  have hso : sofI (tC g_by) i_sz.toInt.toNat a v37.toInt v38.toInt := hso
  have hP : va_P D vwCl [(h0, .inr (4, [.ref a_tape, .ref a_d, .int v37, .int i_tk, .int i_at, .int v38, .int i_fn])), (a_tape, .inr (7, [.ref y_by, .int i_sz, .int i_lf])), (y_by, .inl (kB, 200, .inl g_by))] H := hP
  have hD : va_D A [(h0, .inr (4, [.ref a_tape, .ref a_d, .int v37, .int i_tk, .int i_at, .int v38, .int i_fn])), (a_tape, .inr (7, [.ref y_by, .int i_sz, .int i_lf])), (y_by, .inl (kB, 200, .inl g_by))] := hD
  have hK : va_K D vwCl [(kB, .byte)] s := hK
  have hl : lv_has ls 1 [(0, .ref h0)] := hl
  refine W.eq (g2 := F0 m 5 ls []) rfl ?_
  refine lv_aload_n hx hb dX4_stepOverFigures_5 rfl (lv_at hl 0 rfl) ?_
  refine va_get (D := D) (ci := 4) (v := .int v37) (C := RX4) (T := TX4) (N := 7) hx hb hts (fun _ h => List.mem_cons_of_mem _ (List.mem_append_left _ (List.mem_append_right _ h))) hown hK hP 0 rfl rfl 2 (by decide) (hts (.fieldLink RX4 26 "LineCites$Reader" "at" "I") (List.mem_of_getElem? (i := 2) rfl)) (fun _ h9 => h9) rfl dX4_stepOverFigures_6 ?_
  refine lv_aload_n hx hb dX4_stepOverFigures_9 rfl (lv_at hl 0 rfl) ?_
  refine va_get (D := D) (ci := 4) (v := .ref a_tape) (C := RX4) (T := TX4) (N := 7) hx hb hts (fun _ h => List.mem_cons_of_mem _ (List.mem_append_left _ (List.mem_append_right _ h))) hown hK hP 0 rfl rfl 0 (by decide) (hts (.fieldLink RX4 9 "LineCites$Reader" "tape" "LLineCites$Tape;") (List.mem_of_getElem? (i := 3) rfl)) (fun _ h9 => h9) rfl dX4_stepOverFigures_10 ?_
  have hPc := hP.sub (ws' := [(a_tape, .inr (7, [.ref y_by, .int i_sz, .int i_lf]))]) [1] rfl
  have hKc := hK.sub (tys' := []) [] rfl
  refine va_calli (va_runV (As := []) (rest := [.int v37]) ⟨hx, hb, hml, hown, hts⟩ (c_X7_size l D a_tape y_by i_sz i_lf) (cwV 0 hts g_X4_stepOverFigures_X7_size rfl rfl rfl (by decide +kernel) ⟨Nat.le_of_ble_eq_true rfl, Nat.le_of_ble_eq_true rfl⟩) ⟨fun a U g mk q => by obtain ⟨q0, qP, qK⟩ := q; exact ⟨q0, qP, va_K.moved (u := U) (U := U.calling g mk a) (Vm.Alike.refl U.vm) qK⟩, va_recv hKc hPc (ci := 7) (q0 := 0) rfl rfl, fun U hU hW => ⟨rfl, by rw [hU]; exact hPc, va_K.moved hW.alike hKc⟩⟩ rfl rfl hl.1 rfl (lv_room (Nat.le_of_ble_eq_true rfl)) dX4_stepOverFigures_13 ⟨Nat.le_of_ble_eq_true rfl, Nat.le_of_ble_eq_true rfl⟩) hS (fun _ _ h => h.elim) (fun _ h => h.elim) (fun r40 u t H1 locs ht hvm hw hB hz1 hk1 hS => ?_)
  have hP := pw_keep hP (fun q hq => hk1 q hq (fun h => h))
  generalize H1 = H at hP hS ⊢
  refine W.widen (k := 0) (n := 0) (Nat.le_of_ble_eq_true rfl) (Nat.le_of_ble_eq_true rfl) ?_
  rw [show r40 = i_sz from hw]
  refine lv_icmp_ge (tgt := 88) hx hb dX4_stepOverFigures_16 (by decide) (fun c41 => ?_) (fun c41 => ?_)
  · have nc41 : i_sz.toInt ≤ v37.toInt := pw_le c41 rfl rfl
    have mc41v37 := pw_max v37
    have mc41i_sz := pw_max i_sz
    refine lv_aload_n hx hb dX4_stepOverFigures_88 rfl (lv_at hl 0 rfl) ?_
    refine lv_aload_n hx hb dX4_stepOverFigures_89 rfl (lv_at hl 0 rfl) ?_
    refine va_get (D := D) (ci := 4) (v := .int v37) (C := RX4) (T := TX4) (N := 7) hx hb hts (fun _ h => List.mem_cons_of_mem _ (List.mem_append_left _ (List.mem_append_right _ h))) hown hK hP 0 rfl rfl 2 (by decide) (hts (.fieldLink RX4 26 "LineCites$Reader" "at" "I") (List.mem_of_getElem? (i := 2) rfl)) (fun _ h9 => h9) rfl dX4_stepOverFigures_90 ?_
    refine lv_aload_n hx hb dX4_stepOverFigures_93 rfl (lv_at hl 0 rfl) ?_
    refine va_get (D := D) (ci := 4) (v := .int i_at) (C := RX4) (T := TX4) (N := 7) hx hb hts (fun _ h => List.mem_cons_of_mem _ (List.mem_append_left _ (List.mem_append_right _ h))) hown hK hP 0 rfl rfl 4 (by decide) (hts (.fieldLink RX4 23 "LineCites$Reader" "place" "I") (List.mem_of_getElem? (i := 10) rfl)) (fun _ h9 => h9) rfl dX4_stepOverFigures_94 ?_
    refine lv_isub hx hb dX4_stepOverFigures_97 ?_
    refine lv_topi (fun x42 ex42 => ?_)
    have tx42 : x42.toInt = v37.toInt - i_at.toInt := pw_subX ex42 rfl rfl (by omega) (by omega)
    refine lv_iconst (v := 3) hx hb dX4_stepOverFigures_98 (by decide) ?_
    refine lv_icmp_gt (tgt := 107) hx hb dX4_stepOverFigures_99 (by decide) (fun c43 => ?_) (fun c43 => ?_)
    · have nc43 : 3 < x42.toInt := pw_lt c43 (by decide) rfl
      refine lv_bipush (v := (-3)) hx hb dX4_stepOverFigures_107 (by decide) ?_
      refine va_put (D := D) (ci := 4) (v := .int (-3)) (ty := .int) (C := RX4) (T := TX4) (N := 7) hx hb hts (fun _ h => List.mem_cons_of_mem _ (List.mem_append_left _ (List.mem_append_right _ h))) tyX4 tyX4_ok nmX4 hown hK hP hD hS 0 rfl rfl 3 (by decide) (hts (.fieldLink RX4 48 "LineCites$Reader" "token" "I") (List.mem_of_getElem? (i := 11) rfl)) (fun _ h9 => h9) rfl (by decide +kernel) rfl rfl (Nat.le_of_ble_eq_true rfl) dX4_stepOverFigures_109 (fun H locs hP hD hS => ?_)
      have hP : va_P D vwCl [(h0, .inr (4, [.ref a_tape, .ref a_d, .int v37, .int (-3), .int i_at, .int v38, .int i_fn])), (a_tape, .inr (7, [.ref y_by, .int i_sz, .int i_lf])), (y_by, .inl (kB, 200, .inl g_by))] H := hP
      have hD : va_D A [(h0, .inr (4, [.ref a_tape, .ref a_d, .int v37, .int (-3), .int i_at, .int v38, .int i_fn])), (a_tape, .inr (7, [.ref y_by, .int i_sz, .int i_lf])), (y_by, .inl (kB, 200, .inl g_by))] := hD
      have hK : va_K D vwCl [(kB, .byte)] s := hK
      have hR : stepR (tC g_by) i_sz.toInt.toNat a v37.toInt (-3) v38.toInt := (sof_end hso (by omega) (by omega) (by omega) (by omega) (by omega) (by omega) (by omega) (by omega))
      have hB9 := stepR_bd hR (by omega) (fun k => (tC_rng _ k).1)
      have hP9 := hP.sub (ws' := [(h0, .inr (4, [.ref a_tape, .ref a_d, .int v37, .int (-3), .int i_at, .int v38, .int i_fn])), (a_tape, .inr (7, [.ref y_by, .int i_sz, .int i_lf])), (y_by, .inl (kB, 200, .inl g_by))]) [0, 1, 2] rfl
      have hD9 := hD.sub (ws' := [(h0, .inr (4, [.ref a_tape, .ref a_d, .int v37, .int (-3), .int i_at, .int v38, .int i_fn])), (a_tape, .inr (7, [.ref y_by, .int i_sz, .int i_lf])), (y_by, .inl (kB, 200, .inl g_by))]) [0, 1, 2] (by decide) rfl
      have hK9 := hK.sub (tys' := [(kB, .byte)]) [0] rfl
      refine W.widen (k := 0) (n := 0) (Nat.le_of_ble_eq_true rfl) (Nat.le_of_ble_eq_true rfl) ?_
      exact W.vret hx hb hr (fun t ht hW => ⟨⟨(), rfl, trivial, v37, (-3), v38, by rw [ht]; exact hP9, va_K.moved hW.alike hK9, hD9, hR.1, (by have h8 := hR.2.1; have hsm3 : ((-3) : Int32).toInt = (-3) := (by decide); omega), (by have h8 := hR.2.2; have hsm3 : ((-3) : Int32).toInt = (-3) := (by decide); omega), ⟨hB9.1, (by omega), (by omega), (by have hsm3 : ((-3) : Int32).toInt = (-3) := (by decide); omega)⟩⟩, hS.F ht⟩) hS.2.2 dX4_stepOverFigures_112
    · have nc43 : x42.toInt ≤ 3 := pw_nlt c43 (by decide) rfl
      refine lv_bipush (v := (-2)) hx hb dX4_stepOverFigures_102 (by decide) ?_
      refine lv_goto (tgt := 109) hx hb dX4_stepOverFigures_104 (by decide) ?_
      refine va_put (D := D) (ci := 4) (v := .int (-2)) (ty := .int) (C := RX4) (T := TX4) (N := 7) hx hb hts (fun _ h => List.mem_cons_of_mem _ (List.mem_append_left _ (List.mem_append_right _ h))) tyX4 tyX4_ok nmX4 hown hK hP hD hS 0 rfl rfl 3 (by decide) (hts (.fieldLink RX4 48 "LineCites$Reader" "token" "I") (List.mem_of_getElem? (i := 11) rfl)) (fun _ h9 => h9) rfl (by decide +kernel) rfl rfl (Nat.le_of_ble_eq_true rfl) dX4_stepOverFigures_109 (fun H locs hP hD hS => ?_)
      have hP : va_P D vwCl [(h0, .inr (4, [.ref a_tape, .ref a_d, .int v37, .int (-2), .int i_at, .int v38, .int i_fn])), (a_tape, .inr (7, [.ref y_by, .int i_sz, .int i_lf])), (y_by, .inl (kB, 200, .inl g_by))] H := hP
      have hD : va_D A [(h0, .inr (4, [.ref a_tape, .ref a_d, .int v37, .int (-2), .int i_at, .int v38, .int i_fn])), (a_tape, .inr (7, [.ref y_by, .int i_sz, .int i_lf])), (y_by, .inl (kB, 200, .inl g_by))] := hD
      have hK : va_K D vwCl [(kB, .byte)] s := hK
      have hR : stepR (tC g_by) i_sz.toInt.toNat a v37.toInt (-2) v38.toInt := (sof_end hso (by omega) (by omega) (by omega) (by omega) (by omega) (by omega) (by omega) (by omega))
      have hB9 := stepR_bd hR (by omega) (fun k => (tC_rng _ k).1)
      have hP9 := hP.sub (ws' := [(h0, .inr (4, [.ref a_tape, .ref a_d, .int v37, .int (-2), .int i_at, .int v38, .int i_fn])), (a_tape, .inr (7, [.ref y_by, .int i_sz, .int i_lf])), (y_by, .inl (kB, 200, .inl g_by))]) [0, 1, 2] rfl
      have hD9 := hD.sub (ws' := [(h0, .inr (4, [.ref a_tape, .ref a_d, .int v37, .int (-2), .int i_at, .int v38, .int i_fn])), (a_tape, .inr (7, [.ref y_by, .int i_sz, .int i_lf])), (y_by, .inl (kB, 200, .inl g_by))]) [0, 1, 2] (by decide) rfl
      have hK9 := hK.sub (tys' := [(kB, .byte)]) [0] rfl
      refine W.widen (k := 0) (n := 0) (Nat.le_of_ble_eq_true rfl) (Nat.le_of_ble_eq_true rfl) ?_
      exact W.vret hx hb hr (fun t ht hW => ⟨⟨(), rfl, trivial, v37, (-2), v38, by rw [ht]; exact hP9, va_K.moved hW.alike hK9, hD9, hR.1, (by have h8 := hR.2.1; have hsm2 : ((-2) : Int32).toInt = (-2) := (by decide); omega), (by have h8 := hR.2.2; have hsm2 : ((-2) : Int32).toInt = (-2) := (by decide); omega), ⟨hB9.1, (by omega), (by omega), (by have hsm2 : ((-2) : Int32).toInt = (-2) := (by decide); omega)⟩⟩, hS.F ht⟩) hS.2.2 dX4_stepOverFigures_112
  · have nc41 : v37.toInt < i_sz.toInt := pw_nle c41 rfl rfl
    have mc41v37 := pw_max v37
    have mc41i_sz := pw_max i_sz
    refine lv_aload_n hx hb dX4_stepOverFigures_19 rfl (lv_at hl 0 rfl) ?_
    refine va_get (D := D) (ci := 4) (v := .ref a_tape) (C := RX4) (T := TX4) (N := 7) hx hb hts (fun _ h => List.mem_cons_of_mem _ (List.mem_append_left _ (List.mem_append_right _ h))) hown hK hP 0 rfl rfl 0 (by decide) (hts (.fieldLink RX4 9 "LineCites$Reader" "tape" "LLineCites$Tape;") (List.mem_of_getElem? (i := 3) rfl)) (fun _ h9 => h9) rfl dX4_stepOverFigures_20 ?_
    refine lv_aload_n hx hb dX4_stepOverFigures_23 rfl (lv_at hl 0 rfl) ?_
    refine va_get (D := D) (ci := 4) (v := .int v37) (C := RX4) (T := TX4) (N := 7) hx hb hts (fun _ h => List.mem_cons_of_mem _ (List.mem_append_left _ (List.mem_append_right _ h))) hown hK hP 0 rfl rfl 2 (by decide) (hts (.fieldLink RX4 26 "LineCites$Reader" "at" "I") (List.mem_of_getElem? (i := 2) rfl)) (fun _ h9 => h9) rfl dX4_stepOverFigures_24 ?_
    have hPc := hP.sub (ws' := [(a_tape, .inr (7, [.ref y_by, .int i_sz, .int i_lf])), (y_by, .inl (kB, 200, .inl g_by))]) [1, 2] rfl
    have hKc := hK.sub (tys' := [(kB, .byte)]) [0] rfl
    refine va_calli (va_runV (As := [.int v37]) (rest := []) ⟨hx, hb, hml, hown, hts⟩ (c_X7_byteAt__f l D a_tape v37 y_by i_sz i_lf kB g_by v37.toInt.toNat (by first | decide | omega) (by first | decide | omega) (by first | omega | decide | (have hz0 : (0 : Int32).toInt = 0 := (by decide); omega)) (by first | omega | decide | (have hz0 : (0 : Int32).toInt = 0 := (by decide); omega))) (cwV 1 hts g_X4_stepOverFigures_X7_byteAt__f rfl rfl rfl (by decide +kernel) ⟨Nat.le_of_ble_eq_true rfl, Nat.le_of_ble_eq_true rfl⟩) ⟨fun a U g mk q => by obtain ⟨q0, qP, qK⟩ := q; exact ⟨q0, qP, va_K.moved (u := U) (U := U.calling g mk a) (Vm.Alike.refl U.vm) qK⟩, va_recv hKc hPc (ci := 7) (q0 := 0) rfl rfl, fun U hU hW => ⟨rfl, by rw [hU]; exact hPc, va_K.moved hW.alike hKc⟩⟩ rfl rfl hl.1 rfl (lv_room (Nat.le_of_ble_eq_true rfl)) dX4_stepOverFigures_27 ⟨Nat.le_of_ble_eq_true rfl, Nat.le_of_ble_eq_true rfl⟩) hS (fun _ _ h => h.elim) (fun _ h => h.elim) (fun r44 u t H1 locs ht hvm hw hB hz1 hk1 hS => ?_)
    have hP := pw_keep hP (fun q hq => hk1 q hq (fun h => h))
    generalize H1 = H at hP hS ⊢
    refine W.widen (k := 0) (n := 0) (Nat.le_of_ble_eq_true rfl) (Nat.le_of_ble_eq_true rfl) ?_
    have hfr44 := hw
    have hPc := hP.sub (ws' := []) [] rfl
    have hKc := hK.sub (tys' := []) [] rfl
    refine va_calli (va_runS (As := [.int r44]) (rest := []) ⟨hx, hb, hml, hown, hts⟩ (c_X4_isFigure l D r44) (cwS 1 hts g_X4_stepOverFigures_X4_isFigure rfl rfl rfl (by decide +kernel) ⟨Nat.le_of_ble_eq_true rfl, Nat.le_of_ble_eq_true rfl⟩) ⟨fun a U g mk q => by obtain ⟨q0, qP, qK⟩ := q; exact ⟨q0, qP, va_K.moved (u := U) (U := U.calling g mk a) (Vm.Alike.refl U.vm) qK⟩, fun U hU hW => ⟨rfl, by rw [hU]; exact hPc, va_K.moved hW.alike hKc⟩⟩ rfl rfl hl.1 rfl (lv_room (Nat.le_of_ble_eq_true rfl)) dX4_stepOverFigures_30 ⟨Nat.le_of_ble_eq_true rfl, Nat.le_of_ble_eq_true rfl⟩) hS (fun _ _ h => h.elim) (fun _ h => h.elim) (fun r45 u t H1 locs ht hvm hw hB hz1 hk1 hS => ?_)
    have hP := pw_keep hP (fun q hq => hk1 q hq (fun h => h))
    generalize H1 = H at hP hS ⊢
    refine W.widen (k := 0) (n := 0) (Nat.le_of_ble_eq_true rfl) (Nat.le_of_ble_eq_true rfl) ?_
    have bor45 := hw.1
    have zor45 := pw_boolI bor45
    have hfr45 := hw.2
    refine lv_if_eq (tgt := 88) hx hb dX4_stepOverFigures_33 (by decide) (fun c46 => ?_) (fun c46 => ?_)
    · have nc46 : r45.toInt = 0 := pw_eq c46 rfl (by decide)
      refine lv_aload_n hx hb dX4_stepOverFigures_88 rfl (lv_at hl 0 rfl) ?_
      refine lv_aload_n hx hb dX4_stepOverFigures_89 rfl (lv_at hl 0 rfl) ?_
      refine va_get (D := D) (ci := 4) (v := .int v37) (C := RX4) (T := TX4) (N := 7) hx hb hts (fun _ h => List.mem_cons_of_mem _ (List.mem_append_left _ (List.mem_append_right _ h))) hown hK hP 0 rfl rfl 2 (by decide) (hts (.fieldLink RX4 26 "LineCites$Reader" "at" "I") (List.mem_of_getElem? (i := 2) rfl)) (fun _ h9 => h9) rfl dX4_stepOverFigures_90 ?_
      refine lv_aload_n hx hb dX4_stepOverFigures_93 rfl (lv_at hl 0 rfl) ?_
      refine va_get (D := D) (ci := 4) (v := .int i_at) (C := RX4) (T := TX4) (N := 7) hx hb hts (fun _ h => List.mem_cons_of_mem _ (List.mem_append_left _ (List.mem_append_right _ h))) hown hK hP 0 rfl rfl 4 (by decide) (hts (.fieldLink RX4 23 "LineCites$Reader" "place" "I") (List.mem_of_getElem? (i := 10) rfl)) (fun _ h9 => h9) rfl dX4_stepOverFigures_94 ?_
      refine lv_isub hx hb dX4_stepOverFigures_97 ?_
      refine lv_topi (fun x47 ex47 => ?_)
      have tx47 : x47.toInt = v37.toInt - i_at.toInt := pw_subX ex47 rfl rfl (by omega) (by omega)
      refine lv_iconst (v := 3) hx hb dX4_stepOverFigures_98 (by decide) ?_
      refine lv_icmp_gt (tgt := 107) hx hb dX4_stepOverFigures_99 (by decide) (fun c48 => ?_) (fun c48 => ?_)
      · have nc48 : 3 < x47.toInt := pw_lt c48 (by decide) rfl
        refine lv_bipush (v := (-3)) hx hb dX4_stepOverFigures_107 (by decide) ?_
        refine va_put (D := D) (ci := 4) (v := .int (-3)) (ty := .int) (C := RX4) (T := TX4) (N := 7) hx hb hts (fun _ h => List.mem_cons_of_mem _ (List.mem_append_left _ (List.mem_append_right _ h))) tyX4 tyX4_ok nmX4 hown hK hP hD hS 0 rfl rfl 3 (by decide) (hts (.fieldLink RX4 48 "LineCites$Reader" "token" "I") (List.mem_of_getElem? (i := 11) rfl)) (fun _ h9 => h9) rfl (by decide +kernel) rfl rfl (Nat.le_of_ble_eq_true rfl) dX4_stepOverFigures_109 (fun H locs hP hD hS => ?_)
        have hP : va_P D vwCl [(h0, .inr (4, [.ref a_tape, .ref a_d, .int v37, .int (-3), .int i_at, .int v38, .int i_fn])), (a_tape, .inr (7, [.ref y_by, .int i_sz, .int i_lf])), (y_by, .inl (kB, 200, .inl g_by))] H := hP
        have hD : va_D A [(h0, .inr (4, [.ref a_tape, .ref a_d, .int v37, .int (-3), .int i_at, .int v38, .int i_fn])), (a_tape, .inr (7, [.ref y_by, .int i_sz, .int i_lf])), (y_by, .inl (kB, 200, .inl g_by))] := hD
        have hK : va_K D vwCl [(kB, .byte)] s := hK
        have hR : stepR (tC g_by) i_sz.toInt.toNat a v37.toInt (-3) v38.toInt := (sof_end hso (by omega) (by omega) (by omega) (by omega) (by omega) (by omega) (by omega) (by omega))
        have hB9 := stepR_bd hR (by omega) (fun k => (tC_rng _ k).1)
        have hP9 := hP.sub (ws' := [(h0, .inr (4, [.ref a_tape, .ref a_d, .int v37, .int (-3), .int i_at, .int v38, .int i_fn])), (a_tape, .inr (7, [.ref y_by, .int i_sz, .int i_lf])), (y_by, .inl (kB, 200, .inl g_by))]) [0, 1, 2] rfl
        have hD9 := hD.sub (ws' := [(h0, .inr (4, [.ref a_tape, .ref a_d, .int v37, .int (-3), .int i_at, .int v38, .int i_fn])), (a_tape, .inr (7, [.ref y_by, .int i_sz, .int i_lf])), (y_by, .inl (kB, 200, .inl g_by))]) [0, 1, 2] (by decide) rfl
        have hK9 := hK.sub (tys' := [(kB, .byte)]) [0] rfl
        refine W.widen (k := 0) (n := 0) (Nat.le_of_ble_eq_true rfl) (Nat.le_of_ble_eq_true rfl) ?_
        exact W.vret hx hb hr (fun t ht hW => ⟨⟨(), rfl, trivial, v37, (-3), v38, by rw [ht]; exact hP9, va_K.moved hW.alike hK9, hD9, hR.1, (by have h8 := hR.2.1; have hsm3 : ((-3) : Int32).toInt = (-3) := (by decide); omega), (by have h8 := hR.2.2; have hsm3 : ((-3) : Int32).toInt = (-3) := (by decide); omega), ⟨hB9.1, (by omega), (by omega), (by have hsm3 : ((-3) : Int32).toInt = (-3) := (by decide); omega)⟩⟩, hS.F ht⟩) hS.2.2 dX4_stepOverFigures_112
      · have nc48 : x47.toInt ≤ 3 := pw_nlt c48 (by decide) rfl
        refine lv_bipush (v := (-2)) hx hb dX4_stepOverFigures_102 (by decide) ?_
        refine lv_goto (tgt := 109) hx hb dX4_stepOverFigures_104 (by decide) ?_
        refine va_put (D := D) (ci := 4) (v := .int (-2)) (ty := .int) (C := RX4) (T := TX4) (N := 7) hx hb hts (fun _ h => List.mem_cons_of_mem _ (List.mem_append_left _ (List.mem_append_right _ h))) tyX4 tyX4_ok nmX4 hown hK hP hD hS 0 rfl rfl 3 (by decide) (hts (.fieldLink RX4 48 "LineCites$Reader" "token" "I") (List.mem_of_getElem? (i := 11) rfl)) (fun _ h9 => h9) rfl (by decide +kernel) rfl rfl (Nat.le_of_ble_eq_true rfl) dX4_stepOverFigures_109 (fun H locs hP hD hS => ?_)
        have hP : va_P D vwCl [(h0, .inr (4, [.ref a_tape, .ref a_d, .int v37, .int (-2), .int i_at, .int v38, .int i_fn])), (a_tape, .inr (7, [.ref y_by, .int i_sz, .int i_lf])), (y_by, .inl (kB, 200, .inl g_by))] H := hP
        have hD : va_D A [(h0, .inr (4, [.ref a_tape, .ref a_d, .int v37, .int (-2), .int i_at, .int v38, .int i_fn])), (a_tape, .inr (7, [.ref y_by, .int i_sz, .int i_lf])), (y_by, .inl (kB, 200, .inl g_by))] := hD
        have hK : va_K D vwCl [(kB, .byte)] s := hK
        have hR : stepR (tC g_by) i_sz.toInt.toNat a v37.toInt (-2) v38.toInt := (sof_end hso (by omega) (by omega) (by omega) (by omega) (by omega) (by omega) (by omega) (by omega))
        have hB9 := stepR_bd hR (by omega) (fun k => (tC_rng _ k).1)
        have hP9 := hP.sub (ws' := [(h0, .inr (4, [.ref a_tape, .ref a_d, .int v37, .int (-2), .int i_at, .int v38, .int i_fn])), (a_tape, .inr (7, [.ref y_by, .int i_sz, .int i_lf])), (y_by, .inl (kB, 200, .inl g_by))]) [0, 1, 2] rfl
        have hD9 := hD.sub (ws' := [(h0, .inr (4, [.ref a_tape, .ref a_d, .int v37, .int (-2), .int i_at, .int v38, .int i_fn])), (a_tape, .inr (7, [.ref y_by, .int i_sz, .int i_lf])), (y_by, .inl (kB, 200, .inl g_by))]) [0, 1, 2] (by decide) rfl
        have hK9 := hK.sub (tys' := [(kB, .byte)]) [0] rfl
        refine W.widen (k := 0) (n := 0) (Nat.le_of_ble_eq_true rfl) (Nat.le_of_ble_eq_true rfl) ?_
        exact W.vret hx hb hr (fun t ht hW => ⟨⟨(), rfl, trivial, v37, (-2), v38, by rw [ht]; exact hP9, va_K.moved hW.alike hK9, hD9, hR.1, (by have h8 := hR.2.1; have hsm2 : ((-2) : Int32).toInt = (-2) := (by decide); omega), (by have h8 := hR.2.2; have hsm2 : ((-2) : Int32).toInt = (-2) := (by decide); omega), ⟨hB9.1, (by omega), (by omega), (by have hsm2 : ((-2) : Int32).toInt = (-2) := (by decide); omega)⟩⟩, hS.F ht⟩) hS.2.2 dX4_stepOverFigures_112
    · have nc46 : r45.toInt ≠ 0 := pw_ne c46 rfl (by decide)
      refine lv_aload_n hx hb dX4_stepOverFigures_36 rfl (lv_at hl 0 rfl) ?_
      refine va_get (D := D) (ci := 4) (v := .int v37) (C := RX4) (T := TX4) (N := 7) hx hb hts (fun _ h => List.mem_cons_of_mem _ (List.mem_append_left _ (List.mem_append_right _ h))) hown hK hP 0 rfl rfl 2 (by decide) (hts (.fieldLink RX4 26 "LineCites$Reader" "at" "I") (List.mem_of_getElem? (i := 2) rfl)) (fun _ h9 => h9) rfl dX4_stepOverFigures_37 ?_
      refine lv_aload_n hx hb dX4_stepOverFigures_40 rfl (lv_at hl 0 rfl) ?_
      refine va_get (D := D) (ci := 4) (v := .int i_at) (C := RX4) (T := TX4) (N := 7) hx hb hts (fun _ h => List.mem_cons_of_mem _ (List.mem_append_left _ (List.mem_append_right _ h))) hown hK hP 0 rfl rfl 4 (by decide) (hts (.fieldLink RX4 23 "LineCites$Reader" "place" "I") (List.mem_of_getElem? (i := 10) rfl)) (fun _ h9 => h9) rfl dX4_stepOverFigures_41 ?_
      refine lv_isub hx hb dX4_stepOverFigures_44 ?_
      refine lv_topi (fun x49 ex49 => ?_)
      have tx49 : x49.toInt = v37.toInt - i_at.toInt := pw_subX ex49 rfl rfl (by omega) (by omega)
      refine lv_iconst (v := 3) hx hb dX4_stepOverFigures_45 (by decide) ?_
      refine lv_icmp_ge (tgt := 75) hx hb dX4_stepOverFigures_46 (by decide) (fun c50 => ?_) (fun c50 => ?_)
      · have nc50 : 3 ≤ x49.toInt := pw_le c50 (by decide) rfl
        refine lv_aload_n hx hb dX4_stepOverFigures_75 rfl (lv_at hl 0 rfl) ?_
        refine lv_dup hx hb dX4_stepOverFigures_76 rfl ?_
        refine va_get (D := D) (ci := 4) (v := .int v37) (C := RX4) (T := TX4) (N := 7) hx hb hts (fun _ h => List.mem_cons_of_mem _ (List.mem_append_left _ (List.mem_append_right _ h))) hown hK hP 0 rfl rfl 2 (by decide) (hts (.fieldLink RX4 26 "LineCites$Reader" "at" "I") (List.mem_of_getElem? (i := 2) rfl)) (fun _ h9 => h9) rfl dX4_stepOverFigures_77 ?_
        refine lv_iconst (v := 1) hx hb dX4_stepOverFigures_80 (by decide) ?_
        refine lv_iadd hx hb dX4_stepOverFigures_81 ?_
        refine lv_topi (fun x51 ex51 => ?_)
        have tx51 : x51.toInt = v37.toInt + 1 := pw_addX ex51 rfl (by decide) (by omega) (by omega)
        refine va_put (D := D) (ci := 4) (v := .int x51) (ty := .int) (C := RX4) (T := TX4) (N := 7) hx hb hts (fun _ h => List.mem_cons_of_mem _ (List.mem_append_left _ (List.mem_append_right _ h))) tyX4 tyX4_ok nmX4 hown hK hP hD hS 0 rfl rfl 2 (by decide) (hts (.fieldLink RX4 26 "LineCites$Reader" "at" "I") (List.mem_of_getElem? (i := 2) rfl)) (fun _ h9 => h9) rfl (by decide +kernel) rfl rfl (Nat.le_of_ble_eq_true rfl) dX4_stepOverFigures_82 (fun H locs hP hD hS => ?_)
        have hP : va_P D vwCl [(h0, .inr (4, [.ref a_tape, .ref a_d, .int x51, .int i_tk, .int i_at, .int v38, .int i_fn])), (a_tape, .inr (7, [.ref y_by, .int i_sz, .int i_lf])), (y_by, .inl (kB, 200, .inl g_by))] H := hP
        have hD : va_D A [(h0, .inr (4, [.ref a_tape, .ref a_d, .int x51, .int i_tk, .int i_at, .int v38, .int i_fn])), (a_tape, .inr (7, [.ref y_by, .int i_sz, .int i_lf])), (y_by, .inl (kB, 200, .inl g_by))] := hD
        have hK : va_K D vwCl [(kB, .byte)] s := hK
        refine lv_goto (tgt := 5) hx hb dX4_stepOverFigures_85 (by decide) ?_
        have hP9 : va_P D vwCl [(h0, .inr (4, [.ref a_tape, .ref a_d, .int x51, .int i_tk, .int i_at, .int v38, .int i_fn])), (a_tape, .inr (7, [.ref y_by, .int i_sz, .int i_lf])), (y_by, .inl (kB, 200, .inl g_by))] H := hP.sub [0, 1, 2] rfl
        have hD9 : va_D A [(h0, .inr (4, [.ref a_tape, .ref a_d, .int x51, .int i_tk, .int i_at, .int v38, .int i_fn])), (a_tape, .inr (7, [.ref y_by, .int i_sz, .int i_lf])), (y_by, .inl (kB, 200, .inl g_by))] := hD.sub [0, 1, 2] (by decide) rfl
        have hl9 : lv_has ls 1 [(0, .ref h0)] := lv_sub hl [0] rfl
        refine W.widen (k := 0) (n := 0) (Nat.le_of_ble_eq_true rfl) (Nat.le_of_ble_eq_true rfl) ?_
        exact ih39 (x51, v38) _ _ _ (pw_up ex51 (by omega)) ⟨hP9, hD9, hS, hl9, (by omega), (by omega), (sof_n (b := r44.toInt) hso (by omega) (by omega) (by omega) (by omega) (by omega) (by omega) (by omega))⟩
      · have nc50 : x49.toInt < 3 := pw_nle c50 (by decide) rfl
        refine lv_aload_n hx hb dX4_stepOverFigures_49 rfl (lv_at hl 0 rfl) ?_
        refine lv_aload_n hx hb dX4_stepOverFigures_50 rfl (lv_at hl 0 rfl) ?_
        refine va_get (D := D) (ci := 4) (v := .int v38) (C := RX4) (T := TX4) (N := 7) hx hb hts (fun _ h => List.mem_cons_of_mem _ (List.mem_append_left _ (List.mem_append_right _ h))) hown hK hP 0 rfl rfl 5 (by decide) (hts (.fieldLink RX4 33 "LineCites$Reader" "value" "I") (List.mem_of_getElem? (i := 1) rfl)) (fun _ h9 => h9) rfl dX4_stepOverFigures_51 ?_
        refine lv_bipush (v := 10) hx hb dX4_stepOverFigures_54 (by decide) ?_
        refine lv_imul hx hb dX4_stepOverFigures_56 ?_
        refine lv_topi (fun x52 ex52 => ?_)
        have tx52 : x52.toInt = v38.toInt * 10 := pw_mulX ex52 rfl (by decide) (by omega) (by omega)
        refine lv_aload_n hx hb dX4_stepOverFigures_57 rfl (lv_at hl 0 rfl) ?_
        refine va_get (D := D) (ci := 4) (v := .ref a_tape) (C := RX4) (T := TX4) (N := 7) hx hb hts (fun _ h => List.mem_cons_of_mem _ (List.mem_append_left _ (List.mem_append_right _ h))) hown hK hP 0 rfl rfl 0 (by decide) (hts (.fieldLink RX4 9 "LineCites$Reader" "tape" "LLineCites$Tape;") (List.mem_of_getElem? (i := 3) rfl)) (fun _ h9 => h9) rfl dX4_stepOverFigures_58 ?_
        refine lv_aload_n hx hb dX4_stepOverFigures_61 rfl (lv_at hl 0 rfl) ?_
        refine va_get (D := D) (ci := 4) (v := .int v37) (C := RX4) (T := TX4) (N := 7) hx hb hts (fun _ h => List.mem_cons_of_mem _ (List.mem_append_left _ (List.mem_append_right _ h))) hown hK hP 0 rfl rfl 2 (by decide) (hts (.fieldLink RX4 26 "LineCites$Reader" "at" "I") (List.mem_of_getElem? (i := 2) rfl)) (fun _ h9 => h9) rfl dX4_stepOverFigures_62 ?_
        have hPc := hP.sub (ws' := [(a_tape, .inr (7, [.ref y_by, .int i_sz, .int i_lf])), (y_by, .inl (kB, 200, .inl g_by))]) [1, 2] rfl
        have hKc := hK.sub (tys' := [(kB, .byte)]) [0] rfl
        refine va_calli (va_runV (As := [.int v37]) (rest := [.int x52, .ref h0]) ⟨hx, hb, hml, hown, hts⟩ (c_X7_byteAt__f l D a_tape v37 y_by i_sz i_lf kB g_by v37.toInt.toNat (by first | decide | omega) (by first | decide | omega) (by first | omega | decide | (have hz0 : (0 : Int32).toInt = 0 := (by decide); omega)) (by first | omega | decide | (have hz0 : (0 : Int32).toInt = 0 := (by decide); omega))) (cwV 1 hts g_X4_stepOverFigures_X7_byteAt__f rfl rfl rfl (by decide +kernel) ⟨Nat.le_of_ble_eq_true rfl, Nat.le_of_ble_eq_true rfl⟩) ⟨fun a U g mk q => by obtain ⟨q0, qP, qK⟩ := q; exact ⟨q0, qP, va_K.moved (u := U) (U := U.calling g mk a) (Vm.Alike.refl U.vm) qK⟩, va_recv hKc hPc (ci := 7) (q0 := 0) rfl rfl, fun U hU hW => ⟨rfl, by rw [hU]; exact hPc, va_K.moved hW.alike hKc⟩⟩ rfl rfl hl.1 rfl (lv_room (Nat.le_of_ble_eq_true rfl)) dX4_stepOverFigures_65 ⟨Nat.le_of_ble_eq_true rfl, Nat.le_of_ble_eq_true rfl⟩) hS (fun _ _ h => h.elim) (fun _ h => h.elim) (fun r53 u t H1 locs ht hvm hw hB hz1 hk1 hS => ?_)
        have hP := pw_keep hP (fun q hq => hk1 q hq (fun h => h))
        generalize H1 = H at hP hS ⊢
        refine W.widen (k := 0) (n := 0) (Nat.le_of_ble_eq_true rfl) (Nat.le_of_ble_eq_true rfl) ?_
        have hfr53 := hw
        refine lv_iadd hx hb dX4_stepOverFigures_68 ?_
        refine lv_topi (fun x54 ex54 => ?_)
        have tx54 : x54.toInt = x52.toInt + r53.toInt := pw_addX ex54 rfl rfl (by omega) (by omega)
        refine lv_bipush (v := 48) hx hb dX4_stepOverFigures_69 (by decide) ?_
        refine lv_isub hx hb dX4_stepOverFigures_71 ?_
        refine lv_topi (fun x55 ex55 => ?_)
        have tx55 : x55.toInt = x54.toInt - 48 := pw_subX ex55 rfl (by decide) (by omega) (by omega)
        refine va_put (D := D) (ci := 4) (v := .int x55) (ty := .int) (C := RX4) (T := TX4) (N := 7) hx hb hts (fun _ h => List.mem_cons_of_mem _ (List.mem_append_left _ (List.mem_append_right _ h))) tyX4 tyX4_ok nmX4 hown hK hP hD hS 0 rfl rfl 5 (by decide) (hts (.fieldLink RX4 33 "LineCites$Reader" "value" "I") (List.mem_of_getElem? (i := 1) rfl)) (fun _ h9 => h9) rfl (by decide +kernel) rfl rfl (Nat.le_of_ble_eq_true rfl) dX4_stepOverFigures_72 (fun H locs hP hD hS => ?_)
        have hP : va_P D vwCl [(h0, .inr (4, [.ref a_tape, .ref a_d, .int v37, .int i_tk, .int i_at, .int x55, .int i_fn])), (a_tape, .inr (7, [.ref y_by, .int i_sz, .int i_lf])), (y_by, .inl (kB, 200, .inl g_by))] H := hP
        have hD : va_D A [(h0, .inr (4, [.ref a_tape, .ref a_d, .int v37, .int i_tk, .int i_at, .int x55, .int i_fn])), (a_tape, .inr (7, [.ref y_by, .int i_sz, .int i_lf])), (y_by, .inl (kB, 200, .inl g_by))] := hD
        have hK : va_K D vwCl [(kB, .byte)] s := hK
        refine lv_aload_n hx hb dX4_stepOverFigures_75 rfl (lv_at hl 0 rfl) ?_
        refine lv_dup hx hb dX4_stepOverFigures_76 rfl ?_
        refine va_get (D := D) (ci := 4) (v := .int v37) (C := RX4) (T := TX4) (N := 7) hx hb hts (fun _ h => List.mem_cons_of_mem _ (List.mem_append_left _ (List.mem_append_right _ h))) hown hK hP 0 rfl rfl 2 (by decide) (hts (.fieldLink RX4 26 "LineCites$Reader" "at" "I") (List.mem_of_getElem? (i := 2) rfl)) (fun _ h9 => h9) rfl dX4_stepOverFigures_77 ?_
        refine lv_iconst (v := 1) hx hb dX4_stepOverFigures_80 (by decide) ?_
        refine lv_iadd hx hb dX4_stepOverFigures_81 ?_
        refine lv_topi (fun x56 ex56 => ?_)
        have tx56 : x56.toInt = v37.toInt + 1 := pw_addX ex56 rfl (by decide) (by omega) (by omega)
        refine va_put (D := D) (ci := 4) (v := .int x56) (ty := .int) (C := RX4) (T := TX4) (N := 7) hx hb hts (fun _ h => List.mem_cons_of_mem _ (List.mem_append_left _ (List.mem_append_right _ h))) tyX4 tyX4_ok nmX4 hown hK hP hD hS 0 rfl rfl 2 (by decide) (hts (.fieldLink RX4 26 "LineCites$Reader" "at" "I") (List.mem_of_getElem? (i := 2) rfl)) (fun _ h9 => h9) rfl (by decide +kernel) rfl rfl (Nat.le_of_ble_eq_true rfl) dX4_stepOverFigures_82 (fun H locs hP hD hS => ?_)
        have hP : va_P D vwCl [(h0, .inr (4, [.ref a_tape, .ref a_d, .int x56, .int i_tk, .int i_at, .int x55, .int i_fn])), (a_tape, .inr (7, [.ref y_by, .int i_sz, .int i_lf])), (y_by, .inl (kB, 200, .inl g_by))] H := hP
        have hD : va_D A [(h0, .inr (4, [.ref a_tape, .ref a_d, .int x56, .int i_tk, .int i_at, .int x55, .int i_fn])), (a_tape, .inr (7, [.ref y_by, .int i_sz, .int i_lf])), (y_by, .inl (kB, 200, .inl g_by))] := hD
        have hK : va_K D vwCl [(kB, .byte)] s := hK
        refine lv_goto (tgt := 5) hx hb dX4_stepOverFigures_85 (by decide) ?_
        have hP9 : va_P D vwCl [(h0, .inr (4, [.ref a_tape, .ref a_d, .int x56, .int i_tk, .int i_at, .int x55, .int i_fn])), (a_tape, .inr (7, [.ref y_by, .int i_sz, .int i_lf])), (y_by, .inl (kB, 200, .inl g_by))] H := hP.sub [0, 1, 2] rfl
        have hD9 : va_D A [(h0, .inr (4, [.ref a_tape, .ref a_d, .int x56, .int i_tk, .int i_at, .int x55, .int i_fn])), (a_tape, .inr (7, [.ref y_by, .int i_sz, .int i_lf])), (y_by, .inl (kB, 200, .inl g_by))] := hD.sub [0, 1, 2] (by decide) rfl
        have hl9 : lv_has ls 1 [(0, .ref h0)] := lv_sub hl [0] rfl
        refine W.widen (k := 0) (n := 0) (Nat.le_of_ble_eq_true rfl) (Nat.le_of_ble_eq_true rfl) ?_
        exact ih39 (x56, x55) _ _ _ (pw_up ex56 (by omega)) ⟨hP9, hD9, hS, hl9, (by omega), (by omega), (sof_3 (b := r53.toInt) hso (by omega) (by omega) (by omega) (by omega) (by omega) (by omega) (by omega) (by omega))⟩
def w_X4_step : List Cond := .code yX4_step cX4_step 2 none :: ([.fieldLink RX4 26 "LineCites$Reader" "at" "I", .fieldLink RX4 23 "LineCites$Reader" "place" "I", .fieldLink RX4 9 "LineCites$Reader" "tape" "LLineCites$Tape;", .methodLink RX4 87 yX7_size, .instanceMethod yX7_size, .selects RX7 yX7_size yX7_size, .initialized RX7, .code yX7_size cX7_size 1 (some .int), .fieldLink RX7 15 "LineCites$Tape" "size" "I", .methodLink RX4 92 yX7_byteAt, .instanceMethod yX7_byteAt, .selects RX7 yX7_byteAt yX7_byteAt, .code yX7_byteAt cX7_byteAt 2 (some .int), .fieldLink RX7 9 "LineCites$Tape" "bytes" "[B", .methodLink RX4 95 yX4_isFigure, .static yX4_isFigure, .initialized RX4, .code yX4_isFigure cX4_isFigure 1 (some .boolean), .fieldLink RX4 48 "LineCites$Reader" "token" "I", .methodLink RX4 98 yX4_stepOverFigures, .instanceMethod yX4_stepOverFigures, .selects RX4 yX4_stepOverFigures yX4_stepOverFigures, .code yX4_stepOverFigures cX4_stepOverFigures 1 none, .fieldLink RX4 33 "LineCites$Reader" "value" "I"] ++ wsX40 ++ wsX70)
set_option maxRecDepth 20000 in
theorem g_X4_step_X7_size : GoodIn w_X4_step (wsV RX4 87 RX7 yX7_size w_X7_size) := goodIn_r _ [4, 5, 6, 7, 8, 9, 32, 33, 34] rfl (by decide +kernel)
set_option maxRecDepth 20000 in
theorem g_X4_step_X7_byteAt__f : GoodIn w_X4_step (wsV RX4 92 RX7 yX7_byteAt w_X7_byteAt__f) := goodIn_r _ [10, 11, 12, 7, 13, 9, 14, 32, 33, 34] rfl (by decide +kernel)
set_option maxRecDepth 20000 in
theorem g_X4_step_X4_isFigure : GoodIn w_X4_step (wsS RX4 95 yX4_isFigure w_X4_isFigure) := goodIn_r _ [15, 16, 17, 18] rfl (by decide +kernel)
set_option maxRecDepth 20000 in
theorem g_X4_step_X4_stepOverFigures : GoodIn w_X4_step (wsV RX4 98 RX4 yX4_stepOverFigures w_X4_stepOverFigures) := goodIn_r _ [20, 21, 22, 17, 23, 24, 1, 3, 4, 5, 6, 7, 8, 9, 2, 19, 10, 11, 12, 13, 14, 15, 16, 17, 18, 25, 26, 27, 28, 29, 30, 31, 32, 33, 34] rfl (by decide +kernel)
set_option maxHeartbeats 4000000 in
set_option maxRecDepth 100000 in
theorem c_X4_step (l : Launch) (D : va_G) (h0 : Nat) (a_tape : Nat) (a_d : Nat) (i_at : Int32) (i_tk : Int32) (i_pl : Int32) (i_vl : Int32) (i_fn : Int32) (y_by : Nat) (i_sz : Int32) (i_lf : Int32) (kB : ClassId) (g_by : Nat → Int32) (a : Nat) (sz : Nat) (h0i_sz : 0 ≤ i_sz.toInt) (h1i_sz : i_sz.toInt ≤ 200) (hna : i_at.toInt = ((a : Nat) : Int)) (hle : i_at.toInt ≤ i_sz.toInt) : Met l yX4_step w_X4_step ({ frames := 2, cells := 0, slots := 0, locals := 41 }) (va_Pc [.ref h0] (fun U => U.heap.size = sz ∧ va_P D vwCl [(h0, .inr (4, [.ref a_tape, .ref a_d, .int i_at, .int i_tk, .int i_pl, .int i_vl, .int i_fn])), (a_tape, .inr (7, [.ref y_by, .int i_sz, .int i_lf])), (y_by, .inl (kB, 200, .inl g_by))] U.heap ∧ va_K D vwCl [(kB, .byte)] U ∧ va_D (fun _ => True) [(h0, .inr (4, [.ref a_tape, .ref a_d, .int i_at, .int i_tk, .int i_pl, .int i_vl, .int i_fn])), (a_tape, .inr (7, [.ref y_by, .int i_sz, .int i_lf])), (y_by, .inl (kB, 200, .inl g_by))])) (va_Qv (fun (_ : Unit) => True) (fun (_ : Unit) t => ∃ (n_at : Int32) (n_tk : Int32) (n_vl : Int32), va_P D vwCl [(h0, .inr (4, [.ref a_tape, .ref a_d, .int n_at, .int n_tk, .int i_at, .int n_vl, .int i_fn])), (a_tape, .inr (7, [.ref y_by, .int i_sz, .int i_lf])), (y_by, .inl (kB, 200, .inl g_by))] t.heap ∧ va_K D vwCl [(kB, .byte)] t ∧ va_D (va_A [(h0, .inr (4, [.ref a_tape, .ref a_d, .int i_at, .int i_tk, .int i_pl, .int i_vl, .int i_fn])), (a_tape, .inr (7, [.ref y_by, .int i_sz, .int i_lf])), (y_by, .inl (kB, 200, .inl g_by))] sz) [(h0, .inr (4, [.ref a_tape, .ref a_d, .int n_at, .int n_tk, .int i_at, .int n_vl, .int i_fn])), (a_tape, .inr (7, [.ref y_by, .int i_sz, .int i_lf])), (y_by, .inl (kB, 200, .inl g_by))] ∧ n_at.toInt = ((tNx (tC g_by) i_sz.toInt.toNat a : Nat) : Int) ∧ n_tk.toInt = tTok (tC g_by) i_sz.toInt.toNat a ∧ (n_tk.toInt = -2 → (n_vl.toInt = tNum (tC g_by) i_sz.toInt.toNat a ∧ 0 ≤ n_vl.toInt ∧ n_vl.toInt ≤ 999)) ∧ (0 ≤ n_at.toInt ∧ n_at.toInt ≤ i_sz.toInt ∧ i_at.toInt ≤ n_at.toInt ∧ (n_tk.toInt = -1 ∨ i_at.toInt < n_at.toInt))) (va_A [(h0, .inr (4, [.ref a_tape, .ref a_d, .int i_at, .int i_tk, .int i_pl, .int i_vl, .int i_fn])), (a_tape, .inr (7, [.ref y_by, .int i_sz, .int i_lf])), (y_by, .inl (kB, 200, .inl g_by))] sz)) 0 0 (va_A [(h0, .inr (4, [.ref a_tape, .ref a_d, .int i_at, .int i_tk, .int i_pl, .int i_vl, .int i_fn])), (a_tape, .inr (7, [.ref y_by, .int i_sz, .int i_lf])), (y_by, .inl (kB, 200, .inl g_by))] sz) := by
  refine Met.ofW (cc := cX4_step) (maxL := 2) (ret := none) (by decide) rfl ?_
  intro p e s m args below meth c s₁ B hml hv
  obtain ⟨rfl, hsz, hP, hK, hD0⟩ := hv
  have hx := B.exec
  have hb := B.bytes
  have hr := B.returns
  have hts := atoms_spec (ws := w_X4_step) B.pre
  have hown : s.vm.findClass RX4 = some m.cls := findClass_of_methodNamed B.named
  have hlocks := B.notSynchronized
  subst hsz
  have hD := hD0.self (sz := s.heap.size)
  generalize hAe : va_A [(h0, .inr (4, [.ref a_tape, .ref a_d, .int i_at, .int i_tk, .int i_pl, .int i_vl, .int i_fn])), (a_tape, .inr (7, [.ref y_by, .int i_sz, .int i_lf])), (y_by, .inl (kB, 200, .inl g_by))] s.heap.size = A at hD ⊢
  have hA : ∀ q : Nat, s.heap.size ≤ q → A q := fun q h => by rw [← hAe]; exact Or.inr h
  have hS : va_S A s.heap s.heap [] := va_S.rf
  have hP : va_P D vwCl [(h0, .inr (4, [.ref a_tape, .ref a_d, .int i_at, .int i_tk, .int i_pl, .int i_vl, .int i_fn])), (a_tape, .inr (7, [.ref y_by, .int i_sz, .int i_lf])), (y_by, .inl (kB, 200, .inl g_by))] s.heap := hP
  have hl := lv_entry ([.ref h0]) (n := 2) (Nat.le_of_ble_eq_true rfl)
  rw [lg_entry_eq]
  generalize (lg_sl ([.ref h0]) ++ List.replicate (2 - (lg_sl ([.ref h0])).length) Slot.unset).toArray = ls at hl ⊢
  have hl : lv_has ls 2 [(0, .ref h0)] := hl
  obtain ⟨H, hHe⟩ : ∃ H : Heap, H = s.heap := ⟨_, rfl⟩
  rw [← hHe] at hP
  have hS : va_S A s.heap H [] := by rw [hHe]; exact hS
  refine pw_heap hHe ?_
  refine lv_aload_n hx hb dX4_step_0 rfl (lv_at hl 0 rfl) ?_
  refine lv_aload_n hx hb dX4_step_1 rfl (lv_at hl 0 rfl) ?_
  refine va_get (D := D) (ci := 4) (v := .int i_at) (C := RX4) (T := TX4) (N := 7) hx hb hts (fun _ h => List.mem_cons_of_mem _ (List.mem_append_left _ (List.mem_append_right _ h))) hown hK hP 0 rfl rfl 2 (by decide) (hts (.fieldLink RX4 26 "LineCites$Reader" "at" "I") (List.mem_of_getElem? (i := 1) rfl)) (fun _ h9 => h9) rfl dX4_step_2 ?_
  refine va_put (D := D) (ci := 4) (v := .int i_at) (ty := .int) (C := RX4) (T := TX4) (N := 7) hx hb hts (fun _ h => List.mem_cons_of_mem _ (List.mem_append_left _ (List.mem_append_right _ h))) tyX4 tyX4_ok nmX4 hown hK hP hD hS 0 rfl rfl 4 (by decide) (hts (.fieldLink RX4 23 "LineCites$Reader" "place" "I") (List.mem_of_getElem? (i := 2) rfl)) (fun _ h9 => h9) rfl (by decide +kernel) rfl rfl (Nat.le_of_ble_eq_true rfl) dX4_step_5 (fun H locs hP hD hS => ?_)
  have hP : va_P D vwCl [(h0, .inr (4, [.ref a_tape, .ref a_d, .int i_at, .int i_tk, .int i_at, .int i_vl, .int i_fn])), (a_tape, .inr (7, [.ref y_by, .int i_sz, .int i_lf])), (y_by, .inl (kB, 200, .inl g_by))] H := hP
  have hD : va_D A [(h0, .inr (4, [.ref a_tape, .ref a_d, .int i_at, .int i_tk, .int i_at, .int i_vl, .int i_fn])), (a_tape, .inr (7, [.ref y_by, .int i_sz, .int i_lf])), (y_by, .inl (kB, 200, .inl g_by))] := hD
  have hK : va_K D vwCl [(kB, .byte)] s := hK
  refine lv_aload_n hx hb dX4_step_8 rfl (lv_at hl 0 rfl) ?_
  refine va_get (D := D) (ci := 4) (v := .int i_at) (C := RX4) (T := TX4) (N := 7) hx hb hts (fun _ h => List.mem_cons_of_mem _ (List.mem_append_left _ (List.mem_append_right _ h))) hown hK hP 0 rfl rfl 2 (by decide) (hts (.fieldLink RX4 26 "LineCites$Reader" "at" "I") (List.mem_of_getElem? (i := 1) rfl)) (fun _ h9 => h9) rfl dX4_step_9 ?_
  refine lv_aload_n hx hb dX4_step_12 rfl (lv_at hl 0 rfl) ?_
  refine va_get (D := D) (ci := 4) (v := .ref a_tape) (C := RX4) (T := TX4) (N := 7) hx hb hts (fun _ h => List.mem_cons_of_mem _ (List.mem_append_left _ (List.mem_append_right _ h))) hown hK hP 0 rfl rfl 0 (by decide) (hts (.fieldLink RX4 9 "LineCites$Reader" "tape" "LLineCites$Tape;") (List.mem_of_getElem? (i := 3) rfl)) (fun _ h9 => h9) rfl dX4_step_13 ?_
  have hPc := hP.sub (ws' := [(a_tape, .inr (7, [.ref y_by, .int i_sz, .int i_lf]))]) [1] rfl
  have hKc := hK.sub (tys' := []) [] rfl
  refine va_calli (va_runV (As := []) (rest := [.int i_at]) ⟨hx, hb, hml, hown, hts⟩ (c_X7_size l D a_tape y_by i_sz i_lf) (cwV 0 hts g_X4_step_X7_size rfl rfl rfl (by decide +kernel) ⟨Nat.le_of_ble_eq_true rfl, Nat.le_of_ble_eq_true rfl⟩) ⟨fun a U g mk q => by obtain ⟨q0, qP, qK⟩ := q; exact ⟨q0, qP, va_K.moved (u := U) (U := U.calling g mk a) (Vm.Alike.refl U.vm) qK⟩, va_recv hKc hPc (ci := 7) (q0 := 0) rfl rfl, fun U hU hW => ⟨rfl, by rw [hU]; exact hPc, va_K.moved hW.alike hKc⟩⟩ rfl rfl hl.1 rfl (lv_room (Nat.le_of_ble_eq_true rfl)) dX4_step_16 ⟨Nat.le_of_ble_eq_true rfl, Nat.le_of_ble_eq_true rfl⟩) hS (fun _ _ h => h.elim) (fun _ h => h.elim) (fun r1 u t H1 locs ht hvm hw hB hz1 hk1 hS => ?_)
  have hP := pw_keep hP (fun q hq => hk1 q hq (fun h => h))
  generalize H1 = H at hP hS ⊢
  refine W.widen (k := 0) (n := 0) (Nat.le_of_ble_eq_true rfl) (Nat.le_of_ble_eq_true rfl) ?_
  rw [show r1 = i_sz from hw]
  refine lv_icmp_lt (tgt := 28) hx hb dX4_step_19 (by decide) (fun c2 => ?_) (fun c2 => ?_)
  · have nc2 : i_at.toInt < i_sz.toInt := pw_lt c2 rfl rfl
    have mc2i_at := pw_max i_at
    have mc2i_sz := pw_max i_sz
    refine lv_aload_n hx hb dX4_step_28 rfl (lv_at hl 0 rfl) ?_
    refine va_get (D := D) (ci := 4) (v := .ref a_tape) (C := RX4) (T := TX4) (N := 7) hx hb hts (fun _ h => List.mem_cons_of_mem _ (List.mem_append_left _ (List.mem_append_right _ h))) hown hK hP 0 rfl rfl 0 (by decide) (hts (.fieldLink RX4 9 "LineCites$Reader" "tape" "LLineCites$Tape;") (List.mem_of_getElem? (i := 3) rfl)) (fun _ h9 => h9) rfl dX4_step_29 ?_
    refine lv_aload_n hx hb dX4_step_32 rfl (lv_at hl 0 rfl) ?_
    refine va_get (D := D) (ci := 4) (v := .int i_at) (C := RX4) (T := TX4) (N := 7) hx hb hts (fun _ h => List.mem_cons_of_mem _ (List.mem_append_left _ (List.mem_append_right _ h))) hown hK hP 0 rfl rfl 2 (by decide) (hts (.fieldLink RX4 26 "LineCites$Reader" "at" "I") (List.mem_of_getElem? (i := 1) rfl)) (fun _ h9 => h9) rfl dX4_step_33 ?_
    have hPc := hP.sub (ws' := [(a_tape, .inr (7, [.ref y_by, .int i_sz, .int i_lf])), (y_by, .inl (kB, 200, .inl g_by))]) [1, 2] rfl
    have hKc := hK.sub (tys' := [(kB, .byte)]) [0] rfl
    refine va_calli (va_runV (As := [.int i_at]) (rest := []) ⟨hx, hb, hml, hown, hts⟩ (c_X7_byteAt__f l D a_tape i_at y_by i_sz i_lf kB g_by a (by first | decide | omega) (by first | decide | omega) (by first | omega | decide | (have hz0 : (0 : Int32).toInt = 0 := (by decide); omega)) (by first | omega | decide | (have hz0 : (0 : Int32).toInt = 0 := (by decide); omega))) (cwV 1 hts g_X4_step_X7_byteAt__f rfl rfl rfl (by decide +kernel) ⟨Nat.le_of_ble_eq_true rfl, Nat.le_of_ble_eq_true rfl⟩) ⟨fun a U g mk q => by obtain ⟨q0, qP, qK⟩ := q; exact ⟨q0, qP, va_K.moved (u := U) (U := U.calling g mk a) (Vm.Alike.refl U.vm) qK⟩, va_recv hKc hPc (ci := 7) (q0 := 0) rfl rfl, fun U hU hW => ⟨rfl, by rw [hU]; exact hPc, va_K.moved hW.alike hKc⟩⟩ rfl rfl hl.1 rfl (lv_room (Nat.le_of_ble_eq_true rfl)) dX4_step_36 ⟨Nat.le_of_ble_eq_true rfl, Nat.le_of_ble_eq_true rfl⟩) hS (fun _ _ h => h.elim) (fun _ h => h.elim) (fun r3 u t H1 locs ht hvm hw hB hz1 hk1 hS => ?_)
    have hP := pw_keep hP (fun q hq => hk1 q hq (fun h => h))
    generalize H1 = H at hP hS ⊢
    refine W.widen (k := 0) (n := 0) (Nat.le_of_ble_eq_true rfl) (Nat.le_of_ble_eq_true rfl) ?_
    have hfr3 := hw
    refine lv_istore_n (lv' := [(1, .int r3), (0, .ref h0)]) hx hb dX4_step_39 rfl hl (by decide) rfl (fun ls hl => ?_)
    refine lv_iload_n hx hb dX4_step_40 rfl (lv_at hl 0 rfl) ?_
    have hPc := hP.sub (ws' := []) [] rfl
    have hKc := hK.sub (tys' := []) [] rfl
    refine va_calli (va_runS (As := [.int r3]) (rest := []) ⟨hx, hb, hml, hown, hts⟩ (c_X4_isFigure l D r3) (cwS 1 hts g_X4_step_X4_isFigure rfl rfl rfl (by decide +kernel) ⟨Nat.le_of_ble_eq_true rfl, Nat.le_of_ble_eq_true rfl⟩) ⟨fun a U g mk q => by obtain ⟨q0, qP, qK⟩ := q; exact ⟨q0, qP, va_K.moved (u := U) (U := U.calling g mk a) (Vm.Alike.refl U.vm) qK⟩, fun U hU hW => ⟨rfl, by rw [hU]; exact hPc, va_K.moved hW.alike hKc⟩⟩ rfl rfl hl.1 rfl (lv_room (Nat.le_of_ble_eq_true rfl)) dX4_step_41 ⟨Nat.le_of_ble_eq_true rfl, Nat.le_of_ble_eq_true rfl⟩) hS (fun _ _ h => h.elim) (fun _ h => h.elim) (fun r4 u t H1 locs ht hvm hw hB hz1 hk1 hS => ?_)
    have hP := pw_keep hP (fun q hq => hk1 q hq (fun h => h))
    generalize H1 = H at hP hS ⊢
    refine W.widen (k := 0) (n := 0) (Nat.le_of_ble_eq_true rfl) (Nat.le_of_ble_eq_true rfl) ?_
    have bor4 := hw.1
    have zor4 := pw_boolI bor4
    have hfr4 := hw.2
    refine lv_if_eq (tgt := 52) hx hb dX4_step_44 (by decide) (fun c5 => ?_) (fun c5 => ?_)
    · have nc5 : r4.toInt = 0 := pw_eq c5 rfl (by decide)
      refine lv_aload_n hx hb dX4_step_52 rfl (lv_at hl 1 rfl) ?_
      refine lv_dup hx hb dX4_step_53 rfl ?_
      refine va_get (D := D) (ci := 4) (v := .int i_at) (C := RX4) (T := TX4) (N := 7) hx hb hts (fun _ h => List.mem_cons_of_mem _ (List.mem_append_left _ (List.mem_append_right _ h))) hown hK hP 0 rfl rfl 2 (by decide) (hts (.fieldLink RX4 26 "LineCites$Reader" "at" "I") (List.mem_of_getElem? (i := 1) rfl)) (fun _ h9 => h9) rfl dX4_step_54 ?_
      refine lv_iconst (v := 1) hx hb dX4_step_57 (by decide) ?_
      refine lv_iadd hx hb dX4_step_58 ?_
      refine lv_topi (fun x6 ex6 => ?_)
      have tx6 : x6.toInt = i_at.toInt + 1 := pw_addX ex6 rfl (by decide) (by omega) (by omega)
      refine va_put (D := D) (ci := 4) (v := .int x6) (ty := .int) (C := RX4) (T := TX4) (N := 7) hx hb hts (fun _ h => List.mem_cons_of_mem _ (List.mem_append_left _ (List.mem_append_right _ h))) tyX4 tyX4_ok nmX4 hown hK hP hD hS 0 rfl rfl 2 (by decide) (hts (.fieldLink RX4 26 "LineCites$Reader" "at" "I") (List.mem_of_getElem? (i := 1) rfl)) (fun _ h9 => h9) rfl (by decide +kernel) rfl rfl (Nat.le_of_ble_eq_true rfl) dX4_step_59 (fun H locs hP hD hS => ?_)
      have hP : va_P D vwCl [(h0, .inr (4, [.ref a_tape, .ref a_d, .int x6, .int i_tk, .int i_at, .int i_vl, .int i_fn])), (a_tape, .inr (7, [.ref y_by, .int i_sz, .int i_lf])), (y_by, .inl (kB, 200, .inl g_by))] H := hP
      have hD : va_D A [(h0, .inr (4, [.ref a_tape, .ref a_d, .int x6, .int i_tk, .int i_at, .int i_vl, .int i_fn])), (a_tape, .inr (7, [.ref y_by, .int i_sz, .int i_lf])), (y_by, .inl (kB, 200, .inl g_by))] := hD
      have hK : va_K D vwCl [(kB, .byte)] s := hK
      refine lv_aload_n hx hb dX4_step_62 rfl (lv_at hl 1 rfl) ?_
      refine lv_iload_n hx hb dX4_step_63 rfl (lv_at hl 0 rfl) ?_
      refine lv_bipush (v := 97) hx hb dX4_step_64 (by decide) ?_
      refine lv_icmp_lt (tgt := 75) hx hb dX4_step_66 (by decide) (fun c7 => ?_) (fun c7 => ?_)
      · have nc7 : r3.toInt < 97 := pw_lt c7 rfl (by decide)
        refine lv_iload_n hx hb dX4_step_75 rfl (lv_at hl 0 rfl) ?_
        refine lv_bipush (v := 44) hx hb dX4_step_76 (by decide) ?_
        refine lv_icmp_eq (tgt := 87) hx hb dX4_step_78 (by decide) (fun c8 => ?_) (fun c8 => ?_)
        · have nc8 : r3.toInt = 44 := pw_eq c8 rfl (by decide)
          refine lv_iload_n hx hb dX4_step_87 rfl (lv_at hl 0 rfl) ?_
          refine lv_goto (tgt := 93) hx hb dX4_step_88 (by decide) ?_
          refine va_put (D := D) (ci := 4) (v := .int r3) (ty := .int) (C := RX4) (T := TX4) (N := 7) hx hb hts (fun _ h => List.mem_cons_of_mem _ (List.mem_append_left _ (List.mem_append_right _ h))) tyX4 tyX4_ok nmX4 hown hK hP hD hS 0 rfl rfl 3 (by decide) (hts (.fieldLink RX4 48 "LineCites$Reader" "token" "I") (List.mem_of_getElem? (i := 19) rfl)) (fun _ h9 => h9) rfl (by decide +kernel) rfl rfl (Nat.le_of_ble_eq_true rfl) dX4_step_93 (fun H locs hP hD hS => ?_)
          have hP : va_P D vwCl [(h0, .inr (4, [.ref a_tape, .ref a_d, .int x6, .int r3, .int i_at, .int i_vl, .int i_fn])), (a_tape, .inr (7, [.ref y_by, .int i_sz, .int i_lf])), (y_by, .inl (kB, 200, .inl g_by))] H := hP
          have hD : va_D A [(h0, .inr (4, [.ref a_tape, .ref a_d, .int x6, .int r3, .int i_at, .int i_vl, .int i_fn])), (a_tape, .inr (7, [.ref y_by, .int i_sz, .int i_lf])), (y_by, .inl (kB, 200, .inl g_by))] := hD
          have hK : va_K D vwCl [(kB, .byte)] s := hK
          have hR : stepR (tC g_by) i_sz.toInt.toNat a x6.toInt r3.toInt i_vl.toInt := (step_one (b := r3.toInt) (by omega) (by omega) (by omega) (by omega) (by omega) (by omega))
          have hB9 := stepR_bd hR (by omega) (fun k => (tC_rng _ k).1)
          have hP9 := hP.sub (ws' := [(h0, .inr (4, [.ref a_tape, .ref a_d, .int x6, .int r3, .int i_at, .int i_vl, .int i_fn])), (a_tape, .inr (7, [.ref y_by, .int i_sz, .int i_lf])), (y_by, .inl (kB, 200, .inl g_by))]) [0, 1, 2] rfl
          have hD9 := hD.sub (ws' := [(h0, .inr (4, [.ref a_tape, .ref a_d, .int x6, .int r3, .int i_at, .int i_vl, .int i_fn])), (a_tape, .inr (7, [.ref y_by, .int i_sz, .int i_lf])), (y_by, .inl (kB, 200, .inl g_by))]) [0, 1, 2] (by decide) rfl
          have hK9 := hK.sub (tys' := [(kB, .byte)]) [0] rfl
          refine W.widen (k := 0) (n := 0) (Nat.le_of_ble_eq_true rfl) (Nat.le_of_ble_eq_true rfl) ?_
          exact W.vret hx hb hr (fun t ht hW => ⟨⟨(), rfl, trivial, x6, r3, i_vl, by rw [ht]; exact hP9, va_K.moved hW.alike hK9, hD9, hR.1, hR.2.1, hR.2.2, ⟨hB9.1, (by omega), (by omega), (by omega)⟩⟩, hS.F ht⟩) hS.2.2 dX4_step_96
        · have nc8 : r3.toInt ≠ 44 := pw_ne c8 rfl (by decide)
          refine lv_iload_n hx hb dX4_step_81 rfl (lv_at hl 0 rfl) ?_
          refine lv_bipush (v := 59) hx hb dX4_step_82 (by decide) ?_
          refine lv_icmp_ne (tgt := 91) hx hb dX4_step_84 (by decide) (fun c9 => ?_) (fun c9 => ?_)
          · have nc9 : r3.toInt ≠ 59 := pw_ne c9 rfl (by decide)
            refine lv_bipush (v := (-3)) hx hb dX4_step_91 (by decide) ?_
            refine va_put (D := D) (ci := 4) (v := .int (-3)) (ty := .int) (C := RX4) (T := TX4) (N := 7) hx hb hts (fun _ h => List.mem_cons_of_mem _ (List.mem_append_left _ (List.mem_append_right _ h))) tyX4 tyX4_ok nmX4 hown hK hP hD hS 0 rfl rfl 3 (by decide) (hts (.fieldLink RX4 48 "LineCites$Reader" "token" "I") (List.mem_of_getElem? (i := 19) rfl)) (fun _ h9 => h9) rfl (by decide +kernel) rfl rfl (Nat.le_of_ble_eq_true rfl) dX4_step_93 (fun H locs hP hD hS => ?_)
            have hP : va_P D vwCl [(h0, .inr (4, [.ref a_tape, .ref a_d, .int x6, .int (-3), .int i_at, .int i_vl, .int i_fn])), (a_tape, .inr (7, [.ref y_by, .int i_sz, .int i_lf])), (y_by, .inl (kB, 200, .inl g_by))] H := hP
            have hD : va_D A [(h0, .inr (4, [.ref a_tape, .ref a_d, .int x6, .int (-3), .int i_at, .int i_vl, .int i_fn])), (a_tape, .inr (7, [.ref y_by, .int i_sz, .int i_lf])), (y_by, .inl (kB, 200, .inl g_by))] := hD
            have hK : va_K D vwCl [(kB, .byte)] s := hK
            have hR : stepR (tC g_by) i_sz.toInt.toNat a x6.toInt (-3) i_vl.toInt := (step_one (b := r3.toInt) (by omega) (by omega) (by omega) (by omega) (by omega) (by omega))
            have hB9 := stepR_bd hR (by omega) (fun k => (tC_rng _ k).1)
            have hP9 := hP.sub (ws' := [(h0, .inr (4, [.ref a_tape, .ref a_d, .int x6, .int (-3), .int i_at, .int i_vl, .int i_fn])), (a_tape, .inr (7, [.ref y_by, .int i_sz, .int i_lf])), (y_by, .inl (kB, 200, .inl g_by))]) [0, 1, 2] rfl
            have hD9 := hD.sub (ws' := [(h0, .inr (4, [.ref a_tape, .ref a_d, .int x6, .int (-3), .int i_at, .int i_vl, .int i_fn])), (a_tape, .inr (7, [.ref y_by, .int i_sz, .int i_lf])), (y_by, .inl (kB, 200, .inl g_by))]) [0, 1, 2] (by decide) rfl
            have hK9 := hK.sub (tys' := [(kB, .byte)]) [0] rfl
            refine W.widen (k := 0) (n := 0) (Nat.le_of_ble_eq_true rfl) (Nat.le_of_ble_eq_true rfl) ?_
            exact W.vret hx hb hr (fun t ht hW => ⟨⟨(), rfl, trivial, x6, (-3), i_vl, by rw [ht]; exact hP9, va_K.moved hW.alike hK9, hD9, hR.1, (by have h8 := hR.2.1; have hsm3 : ((-3) : Int32).toInt = (-3) := (by decide); omega), (by have h8 := hR.2.2; have hsm3 : ((-3) : Int32).toInt = (-3) := (by decide); omega), ⟨hB9.1, (by omega), (by omega), (by have hsm3 : ((-3) : Int32).toInt = (-3) := (by decide); omega)⟩⟩, hS.F ht⟩) hS.2.2 dX4_step_96
          · have nc9 : r3.toInt = 59 := pw_eq c9 rfl (by decide)
            refine lv_iload_n hx hb dX4_step_87 rfl (lv_at hl 0 rfl) ?_
            refine lv_goto (tgt := 93) hx hb dX4_step_88 (by decide) ?_
            refine va_put (D := D) (ci := 4) (v := .int r3) (ty := .int) (C := RX4) (T := TX4) (N := 7) hx hb hts (fun _ h => List.mem_cons_of_mem _ (List.mem_append_left _ (List.mem_append_right _ h))) tyX4 tyX4_ok nmX4 hown hK hP hD hS 0 rfl rfl 3 (by decide) (hts (.fieldLink RX4 48 "LineCites$Reader" "token" "I") (List.mem_of_getElem? (i := 19) rfl)) (fun _ h9 => h9) rfl (by decide +kernel) rfl rfl (Nat.le_of_ble_eq_true rfl) dX4_step_93 (fun H locs hP hD hS => ?_)
            have hP : va_P D vwCl [(h0, .inr (4, [.ref a_tape, .ref a_d, .int x6, .int r3, .int i_at, .int i_vl, .int i_fn])), (a_tape, .inr (7, [.ref y_by, .int i_sz, .int i_lf])), (y_by, .inl (kB, 200, .inl g_by))] H := hP
            have hD : va_D A [(h0, .inr (4, [.ref a_tape, .ref a_d, .int x6, .int r3, .int i_at, .int i_vl, .int i_fn])), (a_tape, .inr (7, [.ref y_by, .int i_sz, .int i_lf])), (y_by, .inl (kB, 200, .inl g_by))] := hD
            have hK : va_K D vwCl [(kB, .byte)] s := hK
            have hR : stepR (tC g_by) i_sz.toInt.toNat a x6.toInt r3.toInt i_vl.toInt := (step_one (b := r3.toInt) (by omega) (by omega) (by omega) (by omega) (by omega) (by omega))
            have hB9 := stepR_bd hR (by omega) (fun k => (tC_rng _ k).1)
            have hP9 := hP.sub (ws' := [(h0, .inr (4, [.ref a_tape, .ref a_d, .int x6, .int r3, .int i_at, .int i_vl, .int i_fn])), (a_tape, .inr (7, [.ref y_by, .int i_sz, .int i_lf])), (y_by, .inl (kB, 200, .inl g_by))]) [0, 1, 2] rfl
            have hD9 := hD.sub (ws' := [(h0, .inr (4, [.ref a_tape, .ref a_d, .int x6, .int r3, .int i_at, .int i_vl, .int i_fn])), (a_tape, .inr (7, [.ref y_by, .int i_sz, .int i_lf])), (y_by, .inl (kB, 200, .inl g_by))]) [0, 1, 2] (by decide) rfl
            have hK9 := hK.sub (tys' := [(kB, .byte)]) [0] rfl
            refine W.widen (k := 0) (n := 0) (Nat.le_of_ble_eq_true rfl) (Nat.le_of_ble_eq_true rfl) ?_
            exact W.vret hx hb hr (fun t ht hW => ⟨⟨(), rfl, trivial, x6, r3, i_vl, by rw [ht]; exact hP9, va_K.moved hW.alike hK9, hD9, hR.1, hR.2.1, hR.2.2, ⟨hB9.1, (by omega), (by omega), (by omega)⟩⟩, hS.F ht⟩) hS.2.2 dX4_step_96
      · have nc7 : 97 ≤ r3.toInt := pw_nlt c7 rfl (by decide)
        refine lv_iload_n hx hb dX4_step_69 rfl (lv_at hl 0 rfl) ?_
        refine lv_bipush (v := 122) hx hb dX4_step_70 (by decide) ?_
        refine lv_icmp_le (tgt := 87) hx hb dX4_step_72 (by decide) (fun c10 => ?_) (fun c10 => ?_)
        · have nc10 : r3.toInt ≤ 122 := pw_le c10 rfl (by decide)
          refine lv_iload_n hx hb dX4_step_87 rfl (lv_at hl 0 rfl) ?_
          refine lv_goto (tgt := 93) hx hb dX4_step_88 (by decide) ?_
          refine va_put (D := D) (ci := 4) (v := .int r3) (ty := .int) (C := RX4) (T := TX4) (N := 7) hx hb hts (fun _ h => List.mem_cons_of_mem _ (List.mem_append_left _ (List.mem_append_right _ h))) tyX4 tyX4_ok nmX4 hown hK hP hD hS 0 rfl rfl 3 (by decide) (hts (.fieldLink RX4 48 "LineCites$Reader" "token" "I") (List.mem_of_getElem? (i := 19) rfl)) (fun _ h9 => h9) rfl (by decide +kernel) rfl rfl (Nat.le_of_ble_eq_true rfl) dX4_step_93 (fun H locs hP hD hS => ?_)
          have hP : va_P D vwCl [(h0, .inr (4, [.ref a_tape, .ref a_d, .int x6, .int r3, .int i_at, .int i_vl, .int i_fn])), (a_tape, .inr (7, [.ref y_by, .int i_sz, .int i_lf])), (y_by, .inl (kB, 200, .inl g_by))] H := hP
          have hD : va_D A [(h0, .inr (4, [.ref a_tape, .ref a_d, .int x6, .int r3, .int i_at, .int i_vl, .int i_fn])), (a_tape, .inr (7, [.ref y_by, .int i_sz, .int i_lf])), (y_by, .inl (kB, 200, .inl g_by))] := hD
          have hK : va_K D vwCl [(kB, .byte)] s := hK
          have hR : stepR (tC g_by) i_sz.toInt.toNat a x6.toInt r3.toInt i_vl.toInt := (step_one (b := r3.toInt) (by omega) (by omega) (by omega) (by omega) (by omega) (by omega))
          have hB9 := stepR_bd hR (by omega) (fun k => (tC_rng _ k).1)
          have hP9 := hP.sub (ws' := [(h0, .inr (4, [.ref a_tape, .ref a_d, .int x6, .int r3, .int i_at, .int i_vl, .int i_fn])), (a_tape, .inr (7, [.ref y_by, .int i_sz, .int i_lf])), (y_by, .inl (kB, 200, .inl g_by))]) [0, 1, 2] rfl
          have hD9 := hD.sub (ws' := [(h0, .inr (4, [.ref a_tape, .ref a_d, .int x6, .int r3, .int i_at, .int i_vl, .int i_fn])), (a_tape, .inr (7, [.ref y_by, .int i_sz, .int i_lf])), (y_by, .inl (kB, 200, .inl g_by))]) [0, 1, 2] (by decide) rfl
          have hK9 := hK.sub (tys' := [(kB, .byte)]) [0] rfl
          refine W.widen (k := 0) (n := 0) (Nat.le_of_ble_eq_true rfl) (Nat.le_of_ble_eq_true rfl) ?_
          exact W.vret hx hb hr (fun t ht hW => ⟨⟨(), rfl, trivial, x6, r3, i_vl, by rw [ht]; exact hP9, va_K.moved hW.alike hK9, hD9, hR.1, hR.2.1, hR.2.2, ⟨hB9.1, (by omega), (by omega), (by omega)⟩⟩, hS.F ht⟩) hS.2.2 dX4_step_96
        · have nc10 : 122 < r3.toInt := pw_nle c10 rfl (by decide)
          refine lv_iload_n hx hb dX4_step_75 rfl (lv_at hl 0 rfl) ?_
          refine lv_bipush (v := 44) hx hb dX4_step_76 (by decide) ?_
          refine lv_icmp_eq (tgt := 87) hx hb dX4_step_78 (by decide) (fun c11 => False.elim (by have nn : r3.toInt = 44 := pw_eq c11 rfl (by decide); omega)) (fun c11 => ?_)
          have nc11 : r3.toInt ≠ 44 := pw_ne c11 rfl (by decide)
          refine lv_iload_n hx hb dX4_step_81 rfl (lv_at hl 0 rfl) ?_
          refine lv_bipush (v := 59) hx hb dX4_step_82 (by decide) ?_
          refine lv_icmp_ne (tgt := 91) hx hb dX4_step_84 (by decide) (fun c12 => ?_) (fun c12 => False.elim (by have nn : r3.toInt = 59 := pw_eq c12 rfl (by decide); omega))
          have nc12 : r3.toInt ≠ 59 := pw_ne c12 rfl (by decide)
          refine lv_bipush (v := (-3)) hx hb dX4_step_91 (by decide) ?_
          refine va_put (D := D) (ci := 4) (v := .int (-3)) (ty := .int) (C := RX4) (T := TX4) (N := 7) hx hb hts (fun _ h => List.mem_cons_of_mem _ (List.mem_append_left _ (List.mem_append_right _ h))) tyX4 tyX4_ok nmX4 hown hK hP hD hS 0 rfl rfl 3 (by decide) (hts (.fieldLink RX4 48 "LineCites$Reader" "token" "I") (List.mem_of_getElem? (i := 19) rfl)) (fun _ h9 => h9) rfl (by decide +kernel) rfl rfl (Nat.le_of_ble_eq_true rfl) dX4_step_93 (fun H locs hP hD hS => ?_)
          have hP : va_P D vwCl [(h0, .inr (4, [.ref a_tape, .ref a_d, .int x6, .int (-3), .int i_at, .int i_vl, .int i_fn])), (a_tape, .inr (7, [.ref y_by, .int i_sz, .int i_lf])), (y_by, .inl (kB, 200, .inl g_by))] H := hP
          have hD : va_D A [(h0, .inr (4, [.ref a_tape, .ref a_d, .int x6, .int (-3), .int i_at, .int i_vl, .int i_fn])), (a_tape, .inr (7, [.ref y_by, .int i_sz, .int i_lf])), (y_by, .inl (kB, 200, .inl g_by))] := hD
          have hK : va_K D vwCl [(kB, .byte)] s := hK
          have hR : stepR (tC g_by) i_sz.toInt.toNat a x6.toInt (-3) i_vl.toInt := (step_one (b := r3.toInt) (by omega) (by omega) (by omega) (by omega) (by omega) (by omega))
          have hB9 := stepR_bd hR (by omega) (fun k => (tC_rng _ k).1)
          have hP9 := hP.sub (ws' := [(h0, .inr (4, [.ref a_tape, .ref a_d, .int x6, .int (-3), .int i_at, .int i_vl, .int i_fn])), (a_tape, .inr (7, [.ref y_by, .int i_sz, .int i_lf])), (y_by, .inl (kB, 200, .inl g_by))]) [0, 1, 2] rfl
          have hD9 := hD.sub (ws' := [(h0, .inr (4, [.ref a_tape, .ref a_d, .int x6, .int (-3), .int i_at, .int i_vl, .int i_fn])), (a_tape, .inr (7, [.ref y_by, .int i_sz, .int i_lf])), (y_by, .inl (kB, 200, .inl g_by))]) [0, 1, 2] (by decide) rfl
          have hK9 := hK.sub (tys' := [(kB, .byte)]) [0] rfl
          refine W.widen (k := 0) (n := 0) (Nat.le_of_ble_eq_true rfl) (Nat.le_of_ble_eq_true rfl) ?_
          exact W.vret hx hb hr (fun t ht hW => ⟨⟨(), rfl, trivial, x6, (-3), i_vl, by rw [ht]; exact hP9, va_K.moved hW.alike hK9, hD9, hR.1, (by have h8 := hR.2.1; have hsm3 : ((-3) : Int32).toInt = (-3) := (by decide); omega), (by have h8 := hR.2.2; have hsm3 : ((-3) : Int32).toInt = (-3) := (by decide); omega), ⟨hB9.1, (by omega), (by omega), (by have hsm3 : ((-3) : Int32).toInt = (-3) := (by decide); omega)⟩⟩, hS.F ht⟩) hS.2.2 dX4_step_96
    · have nc5 : r4.toInt ≠ 0 := pw_ne c5 rfl (by decide)
      refine lv_aload_n hx hb dX4_step_47 rfl (lv_at hl 1 rfl) ?_
      have hPc := hP.sub (ws' := [(h0, .inr (4, [.ref a_tape, .ref a_d, .int i_at, .int i_tk, .int i_at, .int i_vl, .int i_fn])), (a_tape, .inr (7, [.ref y_by, .int i_sz, .int i_lf])), (y_by, .inl (kB, 200, .inl g_by))]) [0, 1, 2] rfl
      have hKc := hK.sub (tys' := [(kB, .byte)]) [0] rfl
      have hDc := hD.sub (ws' := [(h0, .inr (4, [.ref a_tape, .ref a_d, .int i_at, .int i_tk, .int i_at, .int i_vl, .int i_fn])), (a_tape, .inr (7, [.ref y_by, .int i_sz, .int i_lf])), (y_by, .inl (kB, 200, .inl g_by))]) [0, 1, 2] (by decide) rfl
      have hFc := va_free (wc := [(h0, .inr (4, [.ref a_tape, .ref a_d, .int i_at, .int i_tk, .int i_at, .int i_vl, .int i_fn])), (a_tape, .inr (7, [.ref y_by, .int i_sz, .int i_lf])), (y_by, .inl (kB, 200, .inl g_by))]) hD hS hA [0, 1, 2] rfl
      refine va_callv (va_runV (As := []) (rest := []) ⟨hx, hb, hml, hown, hts⟩ (c_X4_stepOverFigures l D h0 a_tape a_d i_at i_tk i_vl i_fn y_by i_sz i_lf kB g_by a H.size (by first | decide | omega) (by first | decide | omega) (by first | omega | decide | (have hz0 : (0 : Int32).toInt = 0 := (by decide); omega)) (by first | omega | decide | (have hz0 : (0 : Int32).toInt = 0 := (by decide); omega)) (by first | omega | decide | (have hz0 : (0 : Int32).toInt = 0 := (by decide); omega)) (by first | omega | decide | (have hz0 : (0 : Int32).toInt = 0 := (by decide); omega))) (cwV 0 hts g_X4_step_X4_stepOverFigures rfl rfl rfl (by decide +kernel) ⟨Nat.le_of_ble_eq_true rfl, Nat.le_of_ble_eq_true rfl⟩) ⟨fun a U g mk q => by obtain ⟨q0, q1, qP, qK, qD⟩ := q; exact ⟨q0, q1, qP, va_K.moved (u := U) (U := U.calling g mk a) (Vm.Alike.refl U.vm) qK, qD⟩, va_recv hKc hPc (ci := 4) (q0 := 0) rfl rfl, fun U hU hW => ⟨rfl, by rw [hU], by rw [hU]; exact hPc, va_K.moved hW.alike hKc, hDc.weaken (fun _ _ _ _ => trivial)⟩⟩ rfl rfl hl.1 rfl (lv_room (Nat.le_of_ble_eq_true rfl)) dX4_step_48 ⟨Nat.le_of_ble_eq_true rfl, Nat.le_of_ble_eq_true rfl⟩) hS (fun q _ h => hFc q h) hFc (fun u t H1 locs ht hvm hw hB hz1 hk1 hS => ?_)
      obtain ⟨y14, y15, y16, hP1, hK1, hD1, px0_r13, px1_r13, px2_r13, px3_r13⟩ := hB
      rw [ht] at hP1
      have hK1 := va_K.moved hvm.symm hK1
      obtain ⟨hP, hD⟩ := va_join (wr := []) (w1 := [(h0, .inr (4, [.ref a_tape, .ref a_d, .int y14, .int y15, .int i_at, .int y16, .int i_fn])), (a_tape, .inr (7, [.ref y_by, .int i_sz, .int i_lf])), (y_by, .inl (kB, 200, .inl g_by))]) hP hD [0, 1, 2] [] rfl rfl (by decide) (by decide) hk1 hFc hP1 hD1
      have hK := (hK.sub (tys' := [(kB, .byte)]) [0] rfl).app hK1
      generalize H1 = H at hP hS ⊢
      have hP : va_P D vwCl [(h0, .inr (4, [.ref a_tape, .ref a_d, .int y14, .int y15, .int i_at, .int y16, .int i_fn])), (a_tape, .inr (7, [.ref y_by, .int i_sz, .int i_lf])), (y_by, .inl (kB, 200, .inl g_by))] H := hP
      have hD : va_D A [(h0, .inr (4, [.ref a_tape, .ref a_d, .int y14, .int y15, .int i_at, .int y16, .int i_fn])), (a_tape, .inr (7, [.ref y_by, .int i_sz, .int i_lf])), (y_by, .inl (kB, 200, .inl g_by))] := hD
      have hK : va_K D vwCl [(kB, .byte), (kB, .byte)] s := hK
      refine W.widen (k := 0) (n := 0) (Nat.le_of_ble_eq_true rfl) (Nat.le_of_ble_eq_true rfl) ?_
      have hR : stepR (tC g_by) i_sz.toInt.toNat a y14.toInt y15.toInt y16.toInt := ⟨px0_r13, px1_r13, px2_r13⟩
      have hB9 := stepR_bd hR (by omega) (fun k => (tC_rng _ k).1)
      have hP9 := hP.sub (ws' := [(h0, .inr (4, [.ref a_tape, .ref a_d, .int y14, .int y15, .int i_at, .int y16, .int i_fn])), (a_tape, .inr (7, [.ref y_by, .int i_sz, .int i_lf])), (y_by, .inl (kB, 200, .inl g_by))]) [0, 1, 2] rfl
      have hD9 := hD.sub (ws' := [(h0, .inr (4, [.ref a_tape, .ref a_d, .int y14, .int y15, .int i_at, .int y16, .int i_fn])), (a_tape, .inr (7, [.ref y_by, .int i_sz, .int i_lf])), (y_by, .inl (kB, 200, .inl g_by))]) [0, 1, 2] (by decide) rfl
      have hK9 := hK.sub (tys' := [(kB, .byte)]) [0] rfl
      refine W.widen (k := 0) (n := 0) (Nat.le_of_ble_eq_true rfl) (Nat.le_of_ble_eq_true rfl) ?_
      exact W.vret hx hb hr (fun t ht hW => ⟨⟨(), rfl, trivial, y14, y15, y16, by rw [ht]; exact hP9, va_K.moved hW.alike hK9, hD9, hR.1, hR.2.1, hR.2.2, ⟨hB9.1, (by omega), (by omega), (by omega)⟩⟩, hS.F ht⟩) hS.2.2 dX4_step_51
  · have nc2 : i_sz.toInt ≤ i_at.toInt := pw_nlt c2 rfl rfl
    have mc2i_at := pw_max i_at
    have mc2i_sz := pw_max i_sz
    refine lv_aload_n hx hb dX4_step_22 rfl (lv_at hl 0 rfl) ?_
    refine lv_iconst (v := (-1)) hx hb dX4_step_23 (by decide) ?_
    refine va_put (D := D) (ci := 4) (v := .int (-1)) (ty := .int) (C := RX4) (T := TX4) (N := 7) hx hb hts (fun _ h => List.mem_cons_of_mem _ (List.mem_append_left _ (List.mem_append_right _ h))) tyX4 tyX4_ok nmX4 hown hK hP hD hS 0 rfl rfl 3 (by decide) (hts (.fieldLink RX4 48 "LineCites$Reader" "token" "I") (List.mem_of_getElem? (i := 19) rfl)) (fun _ h9 => h9) rfl (by decide +kernel) rfl rfl (Nat.le_of_ble_eq_true rfl) dX4_step_24 (fun H locs hP hD hS => ?_)
    have hP : va_P D vwCl [(h0, .inr (4, [.ref a_tape, .ref a_d, .int i_at, .int (-1), .int i_at, .int i_vl, .int i_fn])), (a_tape, .inr (7, [.ref y_by, .int i_sz, .int i_lf])), (y_by, .inl (kB, 200, .inl g_by))] H := hP
    have hD : va_D A [(h0, .inr (4, [.ref a_tape, .ref a_d, .int i_at, .int (-1), .int i_at, .int i_vl, .int i_fn])), (a_tape, .inr (7, [.ref y_by, .int i_sz, .int i_lf])), (y_by, .inl (kB, 200, .inl g_by))] := hD
    have hK : va_K D vwCl [(kB, .byte)] s := hK
    have hR : stepR (tC g_by) i_sz.toInt.toNat a i_at.toInt (-1) i_vl.toInt := (step_end (by omega) (by omega) rfl)
    have hB9 := stepR_bd hR (by omega) (fun k => (tC_rng _ k).1)
    have hP9 := hP.sub (ws' := [(h0, .inr (4, [.ref a_tape, .ref a_d, .int i_at, .int (-1), .int i_at, .int i_vl, .int i_fn])), (a_tape, .inr (7, [.ref y_by, .int i_sz, .int i_lf])), (y_by, .inl (kB, 200, .inl g_by))]) [0, 1, 2] rfl
    have hD9 := hD.sub (ws' := [(h0, .inr (4, [.ref a_tape, .ref a_d, .int i_at, .int (-1), .int i_at, .int i_vl, .int i_fn])), (a_tape, .inr (7, [.ref y_by, .int i_sz, .int i_lf])), (y_by, .inl (kB, 200, .inl g_by))]) [0, 1, 2] (by decide) rfl
    have hK9 := hK.sub (tys' := [(kB, .byte)]) [0] rfl
    refine W.widen (k := 0) (n := 0) (Nat.le_of_ble_eq_true rfl) (Nat.le_of_ble_eq_true rfl) ?_
    exact W.vret hx hb hr (fun t ht hW => ⟨⟨(), rfl, trivial, i_at, (-1), i_vl, by rw [ht]; exact hP9, va_K.moved hW.alike hK9, hD9, hR.1, (by have h8 := hR.2.1; have hsm1 : ((-1) : Int32).toInt = (-1) := (by decide); omega), (by have h8 := hR.2.2; have hsm1 : ((-1) : Int32).toInt = (-1) := (by decide); omega), ⟨hB9.1, (by omega), (by omega), (by have hsm1 : ((-1) : Int32).toInt = (-1) := (by decide); omega)⟩⟩, hS.F ht⟩) hS.2.2 dX4_step_27
