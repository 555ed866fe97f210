theorem dX8_take_0 : decode cX8_take 0 = .ok (.aload_n 1, 1) := by decide +kernel
theorem dX8_take_1 : decode cX8_take 1 = .ok (.getfield 9, 3) := by decide +kernel
theorem dX8_take_4 : decode cX8_take 4 = .ok (.iconst 0, 1) := by decide +kernel
theorem dX8_take_5 : decode cX8_take 5 = .ok (.aload_n 0, 1) := by decide +kernel
theorem dX8_take_6 : decode cX8_take 6 = .ok (.getfield 9, 3) := by decide +kernel
theorem dX8_take_9 : decode cX8_take 9 = .ok (.iconst 0, 1) := by decide +kernel
theorem dX8_take_10 : decode cX8_take 10 = .ok (.iconst 5, 1) := by decide +kernel
theorem dX8_take_11 : decode cX8_take 11 = .ok (.invokestatic 27, 3) := by decide +kernel
theorem dX8_take_14 : decode cX8_take 14 = .ok (.aload_n 1, 1) := by decide +kernel
theorem dX8_take_15 : decode cX8_take 15 = .ok (.getfield 15, 3) := by decide +kernel
theorem dX8_take_18 : decode cX8_take 18 = .ok (.iconst 0, 1) := by decide +kernel
theorem dX8_take_19 : decode cX8_take 19 = .ok (.aload_n 0, 1) := by decide +kernel
theorem dX8_take_20 : decode cX8_take 20 = .ok (.getfield 15, 3) := by decide +kernel
theorem dX8_take_23 : decode cX8_take 23 = .ok (.iconst 0, 1) := by decide +kernel
theorem dX8_take_24 : decode cX8_take 24 = .ok (.bipush 120, 2) := by decide +kernel
theorem dX8_take_26 : decode cX8_take 26 = .ok (.invokestatic 27, 3) := by decide +kernel
theorem dX8_take_29 : decode cX8_take 29 = .ok (.aload_n 1, 1) := by decide +kernel
theorem dX8_take_30 : decode cX8_take 30 = .ok (.getfield 18, 3) := by decide +kernel
theorem dX8_take_33 : decode cX8_take 33 = .ok (.iconst 0, 1) := by decide +kernel
theorem dX8_take_34 : decode cX8_take 34 = .ok (.aload_n 0, 1) := by decide +kernel
theorem dX8_take_35 : decode cX8_take 35 = .ok (.getfield 18, 3) := by decide +kernel
theorem dX8_take_38 : decode cX8_take 38 = .ok (.iconst 0, 1) := by decide +kernel
theorem dX8_take_39 : decode cX8_take 39 = .ok (.bipush 32, 2) := by decide +kernel
theorem dX8_take_41 : decode cX8_take 41 = .ok (.invokestatic 27, 3) := by decide +kernel
theorem dX8_take_44 : decode cX8_take 44 = .ok (.aload_n 1, 1) := by decide +kernel
theorem dX8_take_45 : decode cX8_take 45 = .ok (.getfield 21, 3) := by decide +kernel
theorem dX8_take_48 : decode cX8_take 48 = .ok (.iconst 0, 1) := by decide +kernel
theorem dX8_take_49 : decode cX8_take 49 = .ok (.aload_n 0, 1) := by decide +kernel
theorem dX8_take_50 : decode cX8_take 50 = .ok (.getfield 21, 3) := by decide +kernel
theorem dX8_take_53 : decode cX8_take 53 = .ok (.iconst 0, 1) := by decide +kernel
theorem dX8_take_54 : decode cX8_take 54 = .ok (.bipush 12, 2) := by decide +kernel
theorem dX8_take_56 : decode cX8_take 56 = .ok (.invokestatic 27, 3) := by decide +kernel
theorem dX8_take_59 : decode cX8_take 59 = .ok (.aload_n 1, 1) := by decide +kernel
theorem dX8_take_60 : decode cX8_take 60 = .ok (.getfield 24, 3) := by decide +kernel
theorem dX8_take_63 : decode cX8_take 63 = .ok (.iconst 0, 1) := by decide +kernel
theorem dX8_take_64 : decode cX8_take 64 = .ok (.aload_n 0, 1) := by decide +kernel
theorem dX8_take_65 : decode cX8_take 65 = .ok (.getfield 24, 3) := by decide +kernel
theorem dX8_take_68 : decode cX8_take 68 = .ok (.iconst 0, 1) := by decide +kernel
theorem dX8_take_69 : decode cX8_take 69 = .ok (.bipush 12, 2) := by decide +kernel
theorem dX8_take_71 : decode cX8_take 71 = .ok (.invokestatic 27, 3) := by decide +kernel
theorem dX8_take_74 : decode cX8_take 74 = .ok (.aload_n 0, 1) := by decide +kernel
theorem dX8_take_75 : decode cX8_take 75 = .ok (.aload_n 1, 1) := by decide +kernel
theorem dX8_take_76 : decode cX8_take 76 = .ok (.getfield 33, 3) := by decide +kernel
theorem dX8_take_79 : decode cX8_take 79 = .ok (.putfield 33, 3) := by decide +kernel
theorem dX8_take_82 : decode cX8_take 82 = .ok (.aload_n 0, 1) := by decide +kernel
theorem dX8_take_83 : decode cX8_take 83 = .ok (.aload_n 1, 1) := by decide +kernel
theorem dX8_take_84 : decode cX8_take 84 = .ok (.getfield 37, 3) := by decide +kernel
theorem dX8_take_87 : decode cX8_take 87 = .ok (.putfield 37, 3) := by decide +kernel
theorem dX8_take_90 : decode cX8_take 90 = .ok (.aload_n 0, 1) := by decide +kernel
theorem dX8_take_91 : decode cX8_take 91 = .ok (.aload_n 1, 1) := by decide +kernel
theorem dX8_take_92 : decode cX8_take 92 = .ok (.getfield 40, 3) := by decide +kernel
theorem dX8_take_95 : decode cX8_take 95 = .ok (.putfield 40, 3) := by decide +kernel
theorem dX8_take_98 : decode cX8_take 98 = .ok (.return_, 1) := by decide +kernel
theorem dX8_begin_0 : decode cX8_begin 0 = .ok (.aload_n 0, 1) := by decide +kernel
theorem dX8_begin_1 : decode cX8_begin 1 = .ok (.iload_n 1, 1) := by decide +kernel
theorem dX8_begin_2 : decode cX8_begin 2 = .ok (.putfield 33, 3) := by decide +kernel
theorem dX8_begin_5 : decode cX8_begin 5 = .ok (.aload_n 0, 1) := by decide +kernel
theorem dX8_begin_6 : decode cX8_begin 6 = .ok (.iconst 0, 1) := by decide +kernel
theorem dX8_begin_7 : decode cX8_begin 7 = .ok (.putfield 37, 3) := by decide +kernel
theorem dX8_begin_10 : decode cX8_begin 10 = .ok (.return_, 1) := by decide +kernel
def w_X8_take : List Cond := .code yX8_take cX8_take 2 none :: ([.fieldLink RX8 9 "LineCites$Work" "stretchCounts" "[I", .methodLink RX8 27 arraycopyName, .native arraycopyName, .static arraycopyName, .initialized "java/lang/System", .fieldLink RX8 15 "LineCites$Work" "stretchParts" "[I", .fieldLink RX8 18 "LineCites$Work" "citedParts" "[I", .fieldLink RX8 21 "LineCites$Work" "seenNumbers" "[I", .fieldLink RX8 24 "LineCites$Work" "seenLines" "[I", .fieldLink RX8 33 "LineCites$Work" "lines" "I", .fieldLink RX8 37 "LineCites$Work" "editions" "I", .fieldLink RX8 40 "LineCites$Work" "seen" "I"] ++ wsX80)
set_option maxHeartbeats 4000000 in
set_option maxRecDepth 100000 in
theorem c_X8_take (l : Launch) (D : va_G) (h0 : Nat) (a_f : Nat) (b_sc : Nat) (b_sp : Nat) (b_cp : Nat) (b_sn : Nat) (b_sl : Nat) (i_li : Int32) (i_ed : Int32) (i_se : Int32) (kI : ClassId) (g_b_sc : Nat → Int32) (g_b_sp : Nat → Int32) (g_b_cp : Nat → Int32) (g_b_sn : Nat → Int32) (g_b_sl : Nat → Int32) (f_sc : Nat) (f_sp : Nat) (f_cp : Nat) (f_sn : Nat) (f_sl : Nat) (f_li : Int32) (f_ed : Int32) (f_se : Int32) (g_f_sc : Nat → Int32) (g_f_sp : Nat → Int32) (g_f_cp : Nat → Int32) (g_f_sn : Nat → Int32) (g_f_sl : Nat → Int32) (sz : Nat) (hg_b_sp : bP g_b_sp) (hg_f_sp : bP g_f_sp) : Met l yX8_take w_X8_take ({ frames := 1, cells := 0, slots := 0, locals := 40 }) (va_Pc [.ref h0, .ref a_f] (fun U => U.heap.size = sz ∧ va_P D vwCl [(h0, .inr (8, [.ref b_sc, .ref b_sp, .ref b_cp, .ref b_sn, .ref b_sl, .int i_li, .int i_ed, .int i_se])), (b_sc, .inl (kI, 5, .inl g_b_sc)), (b_sp, .inl (kI, 120, .inl g_b_sp)), (b_cp, .inl (kI, 32, .inl g_b_cp)), (b_sn, .inl (kI, 12, .inl g_b_sn)), (b_sl, .inl (kI, 12, .inl g_b_sl)), (a_f, .inr (8, [.ref f_sc, .ref f_sp, .ref f_cp, .ref f_sn, .ref f_sl, .int f_li, .int f_ed, .int f_se])), (f_sc, .inl (kI, 5, .inl g_f_sc)), (f_sp, .inl (kI, 120, .inl g_f_sp)), (f_cp, .inl (kI, 32, .inl g_f_cp)), (f_sn, .inl (kI, 12, .inl g_f_sn)), (f_sl, .inl (kI, 12, .inl g_f_sl))] U.heap ∧ va_K D vwCl [(kI, .int)] U ∧ va_D (fun _ => True) [(h0, .inr (8, [.ref b_sc, .ref b_sp, .ref b_cp, .ref b_sn, .ref b_sl, .int i_li, .int i_ed, .int i_se])), (b_sc, .inl (kI, 5, .inl g_b_sc)), (b_sp, .inl (kI, 120, .inl g_b_sp)), (b_cp, .inl (kI, 32, .inl g_b_cp)), (b_sn, .inl (kI, 12, .inl g_b_sn)), (b_sl, .inl (kI, 12, .inl g_b_sl)), (a_f, .inr (8, [.ref f_sc, .ref f_sp, .ref f_cp, .ref f_sn, .ref f_sl, .int f_li, .int f_ed, .int f_se])), (f_sc, .inl (kI, 5, .inl g_f_sc)), (f_sp, .inl (kI, 120, .inl g_f_sp)), (f_cp, .inl (kI, 32, .inl g_f_cp)), (f_sn, .inl (kI, 12, .inl g_f_sn)), (f_sl, .inl (kI, 12, .inl g_f_sl))])) (va_Qv (fun (_ : Unit) => True) (fun (_ : Unit) t => ∃ (n_sc : Nat → Int32) (n_sp : Nat → Int32) (n_cp : Nat → Int32) (n_sn : Nat → Int32) (n_sl : Nat → Int32), va_P D vwCl [(h0, .inr (8, [.ref b_sc, .ref b_sp, .ref b_cp, .ref b_sn, .ref b_sl, .int f_li, .int f_ed, .int f_se])), (b_sc, .inl (kI, 5, .inl n_sc)), (b_sp, .inl (kI, 120, .inl n_sp)), (b_cp, .inl (kI, 32, .inl n_cp)), (b_sn, .inl (kI, 12, .inl n_sn)), (b_sl, .inl (kI, 12, .inl n_sl)), (a_f, .inr (8, [.ref f_sc, .ref f_sp, .ref f_cp, .ref f_sn, .ref f_sl, .int f_li, .int f_ed, .int f_se])), (f_sc, .inl (kI, 5, .inl g_f_sc)), (f_sp, .inl (kI, 120, .inl g_f_sp)), (f_cp, .inl (kI, 32, .inl g_f_cp)), (f_sn, .inl (kI, 12, .inl g_f_sn)), (f_sl, .inl (kI, 12, .inl g_f_sl))] t.heap ∧ va_K D vwCl [(kI, .int)] t ∧ va_D (va_A [(h0, .inr (8, [.ref b_sc, .ref b_sp, .ref b_cp, .ref b_sn, .ref b_sl, .int i_li, .int i_ed, .int i_se])), (b_sc, .inl (kI, 5, .inl g_b_sc)), (b_sp, .inl (kI, 120, .inl g_b_sp)), (b_cp, .inl (kI, 32, .inl g_b_cp)), (b_sn, .inl (kI, 12, .inl g_b_sn)), (b_sl, .inl (kI, 12, .inl g_b_sl)), (a_f, .inr (8, [.ref f_sc, .ref f_sp, .ref f_cp, .ref f_sn, .ref f_sl, .int f_li, .int f_ed, .int f_se])), (f_sc, .inl (kI, 5, .inl g_f_sc)), (f_sp, .inl (kI, 120, .inl g_f_sp)), (f_cp, .inl (kI, 32, .inl g_f_cp)), (f_sn, .inl (kI, 12, .inl g_f_sn)), (f_sl, .inl (kI, 12, .inl g_f_sl))] sz) [(h0, .inr (8, [.ref b_sc, .ref b_sp, .ref b_cp, .ref b_sn, .ref b_sl, .int f_li, .int f_ed, .int f_se])), (b_sc, .inl (kI, 5, .inl n_sc)), (b_sp, .inl (kI, 120, .inl n_sp)), (b_cp, .inl (kI, 32, .inl n_cp)), (b_sn, .inl (kI, 12, .inl n_sn)), (b_sl, .inl (kI, 12, .inl n_sl)), (a_f, .inr (8, [.ref f_sc, .ref f_sp, .ref f_cp, .ref f_sn, .ref f_sl, .int f_li, .int f_ed, .int f_se])), (f_sc, .inl (kI, 5, .inl g_f_sc)), (f_sp, .inl (kI, 120, .inl g_f_sp)), (f_cp, .inl (kI, 32, .inl g_f_cp)), (f_sn, .inl (kI, 12, .inl g_f_sn)), (f_sl, .inl (kI, 12, .inl g_f_sl))] ∧ bP n_sp) (va_A [(h0, .inr (8, [.ref b_sc, .ref b_sp, .ref b_cp, .ref b_sn, .ref b_sl, .int i_li, .int i_ed, .int i_se])), (b_sc, .inl (kI, 5, .inl g_b_sc)), (b_sp, .inl (kI, 120, .inl g_b_sp)), (b_cp, .inl (kI, 32, .inl g_b_cp)), (b_sn, .inl (kI, 12, .inl g_b_sn)), (b_sl, .inl (kI, 12, .inl g_b_sl)), (a_f, .inr (8, [.ref f_sc, .ref f_sp, .ref f_cp, .ref f_sn, .ref f_sl, .int f_li, .int f_ed, .int f_se])), (f_sc, .inl (kI, 5, .inl g_f_sc)), (f_sp, .inl (kI, 120, .inl g_f_sp)), (f_cp, .inl (kI, 32, .inl g_f_cp)), (f_sn, .inl (kI, 12, .inl g_f_sn)), (f_sl, .inl (kI, 12, .inl g_f_sl))] sz)) 0 0 (va_A [(h0, .inr (8, [.ref b_sc, .ref b_sp, .ref b_cp, .ref b_sn, .ref b_sl, .int i_li, .int i_ed, .int i_se])), (b_sc, .inl (kI, 5, .inl g_b_sc)), (b_sp, .inl (kI, 120, .inl g_b_sp)), (b_cp, .inl (kI, 32, .inl g_b_cp)), (b_sn, .inl (kI, 12, .inl g_b_sn)), (b_sl, .inl (kI, 12, .inl g_b_sl)), (a_f, .inr (8, [.ref f_sc, .ref f_sp, .ref f_cp, .ref f_sn, .ref f_sl, .int f_li, .int f_ed, .int f_se])), (f_sc, .inl (kI, 5, .inl g_f_sc)), (f_sp, .inl (kI, 120, .inl g_f_sp)), (f_cp, .inl (kI, 32, .inl g_f_cp)), (f_sn, .inl (kI, 12, .inl g_f_sn)), (f_sl, .inl (kI, 12, .inl g_f_sl))] sz) := by
  refine Met.ofW (cc := cX8_take) (maxL := 2) (ret := none) (by decide) rfl ?_
  intro p e s m args below meth c s₁ B hml hv
  obtain ⟨rfl, hsz, hP, hK, hD0⟩ := hv
  have hx := B.exec
  have hb := B.bytes
  have hr := B.returns
  have hts := atoms_spec (ws := w_X8_take) B.pre
  have hown : s.vm.findClass RX8 = some m.cls := findClass_of_methodNamed B.named
  have hlocks := B.notSynchronized
  subst hsz
  have hD := hD0.self (sz := s.heap.size)
  generalize hAe : va_A [(h0, .inr (8, [.ref b_sc, .ref b_sp, .ref b_cp, .ref b_sn, .ref b_sl, .int i_li, .int i_ed, .int i_se])), (b_sc, .inl (kI, 5, .inl g_b_sc)), (b_sp, .inl (kI, 120, .inl g_b_sp)), (b_cp, .inl (kI, 32, .inl g_b_cp)), (b_sn, .inl (kI, 12, .inl g_b_sn)), (b_sl, .inl (kI, 12, .inl g_b_sl)), (a_f, .inr (8, [.ref f_sc, .ref f_sp, .ref f_cp, .ref f_sn, .ref f_sl, .int f_li, .int f_ed, .int f_se])), (f_sc, .inl (kI, 5, .inl g_f_sc)), (f_sp, .inl (kI, 120, .inl g_f_sp)), (f_cp, .inl (kI, 32, .inl g_f_cp)), (f_sn, .inl (kI, 12, .inl g_f_sn)), (f_sl, .inl (kI, 12, .inl g_f_sl))] s.heap.size = A at hD ⊢
  have hA : ∀ q : Nat, s.heap.size ≤ q → A q := fun q h => by rw [← hAe]; exact Or.inr h
  have hS : va_S A s.heap s.heap [] := va_S.rf
  have hP : va_P D vwCl [(h0, .inr (8, [.ref b_sc, .ref b_sp, .ref b_cp, .ref b_sn, .ref b_sl, .int i_li, .int i_ed, .int i_se])), (b_sc, .inl (kI, 5, .inl g_b_sc)), (b_sp, .inl (kI, 120, .inl g_b_sp)), (b_cp, .inl (kI, 32, .inl g_b_cp)), (b_sn, .inl (kI, 12, .inl g_b_sn)), (b_sl, .inl (kI, 12, .inl g_b_sl)), (a_f, .inr (8, [.ref f_sc, .ref f_sp, .ref f_cp, .ref f_sn, .ref f_sl, .int f_li, .int f_ed, .int f_se])), (f_sc, .inl (kI, 5, .inl g_f_sc)), (f_sp, .inl (kI, 120, .inl g_f_sp)), (f_cp, .inl (kI, 32, .inl g_f_cp)), (f_sn, .inl (kI, 12, .inl g_f_sn)), (f_sl, .inl (kI, 12, .inl g_f_sl))] s.heap := hP
  have hl := lv_entry ([.ref h0, .ref a_f]) (n := 2) (Nat.le_of_ble_eq_true rfl)
  rw [lg_entry_eq]
  generalize (lg_sl ([.ref h0, .ref a_f]) ++ List.replicate (2 - (lg_sl ([.ref h0, .ref a_f])).length) Slot.unset).toArray = ls at hl ⊢
  have hl : lv_has ls 2 [(0, .ref h0), (1, .ref a_f)] := hl
  obtain ⟨H, hHe⟩ : ∃ H : Heap, H = s.heap := ⟨_, rfl⟩
  rw [← hHe] at hP
  have hS : va_S A s.heap H [] := by rw [hHe]; exact hS
  refine pw_heap hHe ?_
  refine lv_aload_n hx hb dX8_take_0 rfl (lv_at hl 1 rfl) ?_
  refine va_get (D := D) (ci := 8) (v := .ref f_sc) (C := RX8) (T := TX8) (N := 8) hx hb hts (fun _ h => List.mem_cons_of_mem _ (List.mem_append_right _ h)) hown hK hP 6 rfl rfl 0 (by decide) (hts (.fieldLink RX8 9 "LineCites$Work" "stretchCounts" "[I") (List.mem_of_getElem? (i := 1) rfl)) (fun _ h9 => h9) rfl dX8_take_1 ?_
  refine lv_iconst (v := 0) hx hb dX8_take_4 (by decide) ?_
  refine lv_aload_n hx hb dX8_take_5 rfl (lv_at hl 0 rfl) ?_
  refine va_get (D := D) (ci := 8) (v := .ref b_sc) (C := RX8) (T := TX8) (N := 8) hx hb hts (fun _ h => List.mem_cons_of_mem _ (List.mem_append_right _ h)) hown hK hP 0 rfl rfl 0 (by decide) (hts (.fieldLink RX8 9 "LineCites$Work" "stretchCounts" "[I") (List.mem_of_getElem? (i := 1) rfl)) (fun _ h9 => h9) rfl dX8_take_6 ?_
  refine lv_iconst (v := 0) hx hb dX8_take_9 (by decide) ?_
  refine lv_iconst (v := 5) hx hb dX8_take_10 (by decide) ?_
  refine va_copyi (ty := .int) (sp := 0) (dp := 0) (n := 5) hx hb (hml.trans hl.1.symm) hown (hts (.methodLink RX8 27 arraycopyName) (List.mem_of_getElem? (i := 2) rfl)) (hts (.native arraycopyName) (List.mem_of_getElem? (i := 3) rfl)) (hts (.static arraycopyName) (List.mem_of_getElem? (i := 4) rfl)) (hts (.initialized "java/lang/System") (List.mem_of_getElem? (i := 5) rfl)) hK hP hD hS 7 1 0 0 rfl rfl rfl rfl rfl (by decide) (by decide) (by decide) (by decide) (by decide) (fun _ _ => rfl) (Nat.le_of_ble_eq_true rfl) (Nat.le_of_ble_eq_true rfl) dX8_take_11 (fun H locs hP hD hS => ?_)
  obtain ⟨g1, eg1⟩ : ∃ g : Nat → Int32, g = va_cpy g_f_sc g_b_sc (0 : Int32).toNatClampNeg (0 : Int32).toNatClampNeg (5 : Int32).toNatClampNeg := ⟨_, rfl⟩
  have hP : va_P D vwCl [(h0, .inr (8, [.ref b_sc, .ref b_sp, .ref b_cp, .ref b_sn, .ref b_sl, .int i_li, .int i_ed, .int i_se])), (b_sc, .inl (kI, 5, .inl (va_cpy g_f_sc g_b_sc (0 : Int32).toNatClampNeg (0 : Int32).toNatClampNeg (5 : Int32).toNatClampNeg))), (b_sp, .inl (kI, 120, .inl g_b_sp)), (b_cp, .inl (kI, 32, .inl g_b_cp)), (b_sn, .inl (kI, 12, .inl g_b_sn)), (b_sl, .inl (kI, 12, .inl g_b_sl)), (a_f, .inr (8, [.ref f_sc, .ref f_sp, .ref f_cp, .ref f_sn, .ref f_sl, .int f_li, .int f_ed, .int f_se])), (f_sc, .inl (kI, 5, .inl g_f_sc)), (f_sp, .inl (kI, 120, .inl g_f_sp)), (f_cp, .inl (kI, 32, .inl g_f_cp)), (f_sn, .inl (kI, 12, .inl g_f_sn)), (f_sl, .inl (kI, 12, .inl g_f_sl))] H := hP
  have hD : va_D A [(h0, .inr (8, [.ref b_sc, .ref b_sp, .ref b_cp, .ref b_sn, .ref b_sl, .int i_li, .int i_ed, .int i_se])), (b_sc, .inl (kI, 5, .inl (va_cpy g_f_sc g_b_sc (0 : Int32).toNatClampNeg (0 : Int32).toNatClampNeg (5 : Int32).toNatClampNeg))), (b_sp, .inl (kI, 120, .inl g_b_sp)), (b_cp, .inl (kI, 32, .inl g_b_cp)), (b_sn, .inl (kI, 12, .inl g_b_sn)), (b_sl, .inl (kI, 12, .inl g_b_sl)), (a_f, .inr (8, [.ref f_sc, .ref f_sp, .ref f_cp, .ref f_sn, .ref f_sl, .int f_li, .int f_ed, .int f_se])), (f_sc, .inl (kI, 5, .inl g_f_sc)), (f_sp, .inl (kI, 120, .inl g_f_sp)), (f_cp, .inl (kI, 32, .inl g_f_cp)), (f_sn, .inl (kI, 12, .inl g_f_sn)), (f_sl, .inl (kI, 12, .inl g_f_sl))] := hD
  have hK : va_K D vwCl [(kI, .int)] s := hK
  rw [← eg1] at hP hD
  refine lv_aload_n hx hb dX8_take_14 rfl (lv_at hl 1 rfl) ?_
  refine va_get (D := D) (ci := 8) (v := .ref f_sp) (C := RX8) (T := TX8) (N := 8) hx hb hts (fun _ h => List.mem_cons_of_mem _ (List.mem_append_right _ h)) hown hK hP 6 rfl rfl 1 (by decide) (hts (.fieldLink RX8 15 "LineCites$Work" "stretchParts" "[I") (List.mem_of_getElem? (i := 6) rfl)) (fun _ h9 => h9) rfl dX8_take_15 ?_
  refine lv_iconst (v := 0) hx hb dX8_take_18 (by decide) ?_
  refine lv_aload_n hx hb dX8_take_19 rfl (lv_at hl 0 rfl) ?_
  refine va_get (D := D) (ci := 8) (v := .ref b_sp) (C := RX8) (T := TX8) (N := 8) hx hb hts (fun _ h => List.mem_cons_of_mem _ (List.mem_append_right _ h)) hown hK hP 0 rfl rfl 1 (by decide) (hts (.fieldLink RX8 15 "LineCites$Work" "stretchParts" "[I") (List.mem_of_getElem? (i := 6) rfl)) (fun _ h9 => h9) rfl dX8_take_20 ?_
  refine lv_iconst (v := 0) hx hb dX8_take_23 (by decide) ?_
  refine lv_bipush (v := 120) hx hb dX8_take_24 (by decide) ?_
  refine va_copyi (ty := .int) (sp := 0) (dp := 0) (n := 120) hx hb (hml.trans hl.1.symm) hown (hts (.methodLink RX8 27 arraycopyName) (List.mem_of_getElem? (i := 2) rfl)) (hts (.native arraycopyName) (List.mem_of_getElem? (i := 3) rfl)) (hts (.static arraycopyName) (List.mem_of_getElem? (i := 4) rfl)) (hts (.initialized "java/lang/System") (List.mem_of_getElem? (i := 5) rfl)) hK hP hD hS 8 2 0 0 rfl rfl rfl rfl rfl (by decide) (by decide) (by decide) (by decide) (by decide) (fun _ _ => rfl) (Nat.le_of_ble_eq_true rfl) (Nat.le_of_ble_eq_true rfl) dX8_take_26 (fun H locs hP hD hS => ?_)
  obtain ⟨g2, eg2⟩ : ∃ g : Nat → Int32, g = va_cpy g_f_sp g_b_sp (0 : Int32).toNatClampNeg (0 : Int32).toNatClampNeg (120 : Int32).toNatClampNeg := ⟨_, rfl⟩
  have hP : va_P D vwCl [(h0, .inr (8, [.ref b_sc, .ref b_sp, .ref b_cp, .ref b_sn, .ref b_sl, .int i_li, .int i_ed, .int i_se])), (b_sc, .inl (kI, 5, .inl g1)), (b_sp, .inl (kI, 120, .inl (va_cpy g_f_sp g_b_sp (0 : Int32).toNatClampNeg (0 : Int32).toNatClampNeg (120 : Int32).toNatClampNeg))), (b_cp, .inl (kI, 32, .inl g_b_cp)), (b_sn, .inl (kI, 12, .inl g_b_sn)), (b_sl, .inl (kI, 12, .inl g_b_sl)), (a_f, .inr (8, [.ref f_sc, .ref f_sp, .ref f_cp, .ref f_sn, .ref f_sl, .int f_li, .int f_ed, .int f_se])), (f_sc, .inl (kI, 5, .inl g_f_sc)), (f_sp, .inl (kI, 120, .inl g_f_sp)), (f_cp, .inl (kI, 32, .inl g_f_cp)), (f_sn, .inl (kI, 12, .inl g_f_sn)), (f_sl, .inl (kI, 12, .inl g_f_sl))] H := hP
  have hD : va_D A [(h0, .inr (8, [.ref b_sc, .ref b_sp, .ref b_cp, .ref b_sn, .ref b_sl, .int i_li, .int i_ed, .int i_se])), (b_sc, .inl (kI, 5, .inl g1)), (b_sp, .inl (kI, 120, .inl (va_cpy g_f_sp g_b_sp (0 : Int32).toNatClampNeg (0 : Int32).toNatClampNeg (120 : Int32).toNatClampNeg))), (b_cp, .inl (kI, 32, .inl g_b_cp)), (b_sn, .inl (kI, 12, .inl g_b_sn)), (b_sl, .inl (kI, 12, .inl g_b_sl)), (a_f, .inr (8, [.ref f_sc, .ref f_sp, .ref f_cp, .ref f_sn, .ref f_sl, .int f_li, .int f_ed, .int f_se])), (f_sc, .inl (kI, 5, .inl g_f_sc)), (f_sp, .inl (kI, 120, .inl g_f_sp)), (f_cp, .inl (kI, 32, .inl g_f_cp)), (f_sn, .inl (kI, 12, .inl g_f_sn)), (f_sl, .inl (kI, 12, .inl g_f_sl))] := hD
  have hK : va_K D vwCl [(kI, .int)] s := hK
  rw [← eg2] at hP hD
  have hg2 : bP g2 := bP_cpy hg_f_sp hg_b_sp eg2
  refine lv_aload_n hx hb dX8_take_29 rfl (lv_at hl 1 rfl) ?_
  refine va_get (D := D) (ci := 8) (v := .ref f_cp) (C := RX8) (T := TX8) (N := 8) hx hb hts (fun _ h => List.mem_cons_of_mem _ (List.mem_append_right _ h)) hown hK hP 6 rfl rfl 2 (by decide) (hts (.fieldLink RX8 18 "LineCites$Work" "citedParts" "[I") (List.mem_of_getElem? (i := 7) rfl)) (fun _ h9 => h9) rfl dX8_take_30 ?_
  refine lv_iconst (v := 0) hx hb dX8_take_33 (by decide) ?_
  refine lv_aload_n hx hb dX8_take_34 rfl (lv_at hl 0 rfl) ?_
  refine va_get (D := D) (ci := 8) (v := .ref b_cp) (C := RX8) (T := TX8) (N := 8) hx hb hts (fun _ h => List.mem_cons_of_mem _ (List.mem_append_right _ h)) hown hK hP 0 rfl rfl 2 (by decide) (hts (.fieldLink RX8 18 "LineCites$Work" "citedParts" "[I") (List.mem_of_getElem? (i := 7) rfl)) (fun _ h9 => h9) rfl dX8_take_35 ?_
  refine lv_iconst (v := 0) hx hb dX8_take_38 (by decide) ?_
  refine lv_bipush (v := 32) hx hb dX8_take_39 (by decide) ?_
  refine va_copyi (ty := .int) (sp := 0) (dp := 0) (n := 32) hx hb (hml.trans hl.1.symm) hown (hts (.methodLink RX8 27 arraycopyName) (List.mem_of_getElem? (i := 2) rfl)) (hts (.native arraycopyName) (List.mem_of_getElem? (i := 3) rfl)) (hts (.static arraycopyName) (List.mem_of_getElem? (i := 4) rfl)) (hts (.initialized "java/lang/System") (List.mem_of_getElem? (i := 5) rfl)) hK hP hD hS 9 3 0 0 rfl rfl rfl rfl rfl (by decide) (by decide) (by decide) (by decide) (by decide) (fun _ _ => rfl) (Nat.le_of_ble_eq_true rfl) (Nat.le_of_ble_eq_true rfl) dX8_take_41 (fun H locs hP hD hS => ?_)
  obtain ⟨g3, eg3⟩ : ∃ g : Nat → Int32, g = va_cpy g_f_cp g_b_cp (0 : Int32).toNatClampNeg (0 : Int32).toNatClampNeg (32 : Int32).toNatClampNeg := ⟨_, rfl⟩
  have hP : va_P D vwCl [(h0, .inr (8, [.ref b_sc, .ref b_sp, .ref b_cp, .ref b_sn, .ref b_sl, .int i_li, .int i_ed, .int i_se])), (b_sc, .inl (kI, 5, .inl g1)), (b_sp, .inl (kI, 120, .inl g2)), (b_cp, .inl (kI, 32, .inl (va_cpy g_f_cp g_b_cp (0 : Int32).toNatClampNeg (0 : Int32).toNatClampNeg (32 : Int32).toNatClampNeg))), (b_sn, .inl (kI, 12, .inl g_b_sn)), (b_sl, .inl (kI, 12, .inl g_b_sl)), (a_f, .inr (8, [.ref f_sc, .ref f_sp, .ref f_cp, .ref f_sn, .ref f_sl, .int f_li, .int f_ed, .int f_se])), (f_sc, .inl (kI, 5, .inl g_f_sc)), (f_sp, .inl (kI, 120, .inl g_f_sp)), (f_cp, .inl (kI, 32, .inl g_f_cp)), (f_sn, .inl (kI, 12, .inl g_f_sn)), (f_sl, .inl (kI, 12, .inl g_f_sl))] H := hP
  have hD : va_D A [(h0, .inr (8, [.ref b_sc, .ref b_sp, .ref b_cp, .ref b_sn, .ref b_sl, .int i_li, .int i_ed, .int i_se])), (b_sc, .inl (kI, 5, .inl g1)), (b_sp, .inl (kI, 120, .inl g2)), (b_cp, .inl (kI, 32, .inl (va_cpy g_f_cp g_b_cp (0 : Int32).toNatClampNeg (0 : Int32).toNatClampNeg (32 : Int32).toNatClampNeg))), (b_sn, .inl (kI, 12, .inl g_b_sn)), (b_sl, .inl (kI, 12, .inl g_b_sl)), (a_f, .inr (8, [.ref f_sc, .ref f_sp, .ref f_cp, .ref f_sn, .ref f_sl, .int f_li, .int f_ed, .int f_se])), (f_sc, .inl (kI, 5, .inl g_f_sc)), (f_sp, .inl (kI, 120, .inl g_f_sp)), (f_cp, .inl (kI, 32, .inl g_f_cp)), (f_sn, .inl (kI, 12, .inl g_f_sn)), (f_sl, .inl (kI, 12, .inl g_f_sl))] := hD
  have hK : va_K D vwCl [(kI, .int)] s := hK
  rw [← eg3] at hP hD
  refine lv_aload_n hx hb dX8_take_44 rfl (lv_at hl 1 rfl) ?_
  refine va_get (D := D) (ci := 8) (v := .ref f_sn) (C := RX8) (T := TX8) (N := 8) hx hb hts (fun _ h => List.mem_cons_of_mem _ (List.mem_append_right _ h)) hown hK hP 6 rfl rfl 3 (by decide) (hts (.fieldLink RX8 21 "LineCites$Work" "seenNumbers" "[I") (List.mem_of_getElem? (i := 8) rfl)) (fun _ h9 => h9) rfl dX8_take_45 ?_
  refine lv_iconst (v := 0) hx hb dX8_take_48 (by decide) ?_
  refine lv_aload_n hx hb dX8_take_49 rfl (lv_at hl 0 rfl) ?_
  refine va_get (D := D) (ci := 8) (v := .ref b_sn) (C := RX8) (T := TX8) (N := 8) hx hb hts (fun _ h => List.mem_cons_of_mem _ (List.mem_append_right _ h)) hown hK hP 0 rfl rfl 3 (by decide) (hts (.fieldLink RX8 21 "LineCites$Work" "seenNumbers" "[I") (List.mem_of_getElem? (i := 8) rfl)) (fun _ h9 => h9) rfl dX8_take_50 ?_
  refine lv_iconst (v := 0) hx hb dX8_take_53 (by decide) ?_
  refine lv_bipush (v := 12) hx hb dX8_take_54 (by decide) ?_
  refine va_copyi (ty := .int) (sp := 0) (dp := 0) (n := 12) hx hb (hml.trans hl.1.symm) hown (hts (.methodLink RX8 27 arraycopyName) (List.mem_of_getElem? (i := 2) rfl)) (hts (.native arraycopyName) (List.mem_of_getElem? (i := 3) rfl)) (hts (.static arraycopyName) (List.mem_of_getElem? (i := 4) rfl)) (hts (.initialized "java/lang/System") (List.mem_of_getElem? (i := 5) rfl)) hK hP hD hS 10 4 0 0 rfl rfl rfl rfl rfl (by decide) (by decide) (by decide) (by decide) (by decide) (fun _ _ => rfl) (Nat.le_of_ble_eq_true rfl) (Nat.le_of_ble_eq_true rfl) dX8_take_56 (fun H locs hP hD hS => ?_)
  obtain ⟨g4, eg4⟩ : ∃ g : Nat → Int32, g = va_cpy g_f_sn g_b_sn (0 : Int32).toNatClampNeg (0 : Int32).toNatClampNeg (12 : Int32).toNatClampNeg := ⟨_, rfl⟩
  have hP : va_P D vwCl [(h0, .inr (8, [.ref b_sc, .ref b_sp, .ref b_cp, .ref b_sn, .ref b_sl, .int i_li, .int i_ed, .int i_se])), (b_sc, .inl (kI, 5, .inl g1)), (b_sp, .inl (kI, 120, .inl g2)), (b_cp, .inl (kI, 32, .inl g3)), (b_sn, .inl (kI, 12, .inl (va_cpy g_f_sn g_b_sn (0 : Int32).toNatClampNeg (0 : Int32).toNatClampNeg (12 : Int32).toNatClampNeg))), (b_sl, .inl (kI, 12, .inl g_b_sl)), (a_f, .inr (8, [.ref f_sc, .ref f_sp, .ref f_cp, .ref f_sn, .ref f_sl, .int f_li, .int f_ed, .int f_se])), (f_sc, .inl (kI, 5, .inl g_f_sc)), (f_sp, .inl (kI, 120, .inl g_f_sp)), (f_cp, .inl (kI, 32, .inl g_f_cp)), (f_sn, .inl (kI, 12, .inl g_f_sn)), (f_sl, .inl (kI, 12, .inl g_f_sl))] H := hP
  have hD : va_D A [(h0, .inr (8, [.ref b_sc, .ref b_sp, .ref b_cp, .ref b_sn, .ref b_sl, .int i_li, .int i_ed, .int i_se])), (b_sc, .inl (kI, 5, .inl g1)), (b_sp, .inl (kI, 120, .inl g2)), (b_cp, .inl (kI, 32, .inl g3)), (b_sn, .inl (kI, 12, .inl (va_cpy g_f_sn g_b_sn (0 : Int32).toNatClampNeg (0 : Int32).toNatClampNeg (12 : Int32).toNatClampNeg))), (b_sl, .inl (kI, 12, .inl g_b_sl)), (a_f, .inr (8, [.ref f_sc, .ref f_sp, .ref f_cp, .ref f_sn, .ref f_sl, .int f_li, .int f_ed, .int f_se])), (f_sc, .inl (kI, 5, .inl g_f_sc)), (f_sp, .inl (kI, 120, .inl g_f_sp)), (f_cp, .inl (kI, 32, .inl g_f_cp)), (f_sn, .inl (kI, 12, .inl g_f_sn)), (f_sl, .inl (kI, 12, .inl g_f_sl))] := hD
  have hK : va_K D vwCl [(kI, .int)] s := hK
  rw [← eg4] at hP hD
  refine lv_aload_n hx hb dX8_take_59 rfl (lv_at hl 1 rfl) ?_
  refine va_get (D := D) (ci := 8) (v := .ref f_sl) (C := RX8) (T := TX8) (N := 8) hx hb hts (fun _ h => List.mem_cons_of_mem _ (List.mem_append_right _ h)) hown hK hP 6 rfl rfl 4 (by decide) (hts (.fieldLink RX8 24 "LineCites$Work" "seenLines" "[I") (List.mem_of_getElem? (i := 9) rfl)) (fun _ h9 => h9) rfl dX8_take_60 ?_
  refine lv_iconst (v := 0) hx hb dX8_take_63 (by decide) ?_
  refine lv_aload_n hx hb dX8_take_64 rfl (lv_at hl 0 rfl) ?_
  refine va_get (D := D) (ci := 8) (v := .ref b_sl) (C := RX8) (T := TX8) (N := 8) hx hb hts (fun _ h => List.mem_cons_of_mem _ (List.mem_append_right _ h)) hown hK hP 0 rfl rfl 4 (by decide) (hts (.fieldLink RX8 24 "LineCites$Work" "seenLines" "[I") (List.mem_of_getElem? (i := 9) rfl)) (fun _ h9 => h9) rfl dX8_take_65 ?_
  refine lv_iconst (v := 0) hx hb dX8_take_68 (by decide) ?_
  refine lv_bipush (v := 12) hx hb dX8_take_69 (by decide) ?_
  refine va_copyi (ty := .int) (sp := 0) (dp := 0) (n := 12) hx hb (hml.trans hl.1.symm) hown (hts (.methodLink RX8 27 arraycopyName) (List.mem_of_getElem? (i := 2) rfl)) (hts (.native arraycopyName) (List.mem_of_getElem? (i := 3) rfl)) (hts (.static arraycopyName) (List.mem_of_getElem? (i := 4) rfl)) (hts (.initialized "java/lang/System") (List.mem_of_getElem? (i := 5) rfl)) hK hP hD hS 11 5 0 0 rfl rfl rfl rfl rfl (by decide) (by decide) (by decide) (by decide) (by decide) (fun _ _ => rfl) (Nat.le_of_ble_eq_true rfl) (Nat.le_of_ble_eq_true rfl) dX8_take_71 (fun H locs hP hD hS => ?_)
  obtain ⟨g5, eg5⟩ : ∃ g : Nat → Int32, g = va_cpy g_f_sl g_b_sl (0 : Int32).toNatClampNeg (0 : Int32).toNatClampNeg (12 : Int32).toNatClampNeg := ⟨_, rfl⟩
  have hP : va_P D vwCl [(h0, .inr (8, [.ref b_sc, .ref b_sp, .ref b_cp, .ref b_sn, .ref b_sl, .int i_li, .int i_ed, .int i_se])), (b_sc, .inl (kI, 5, .inl g1)), (b_sp, .inl (kI, 120, .inl g2)), (b_cp, .inl (kI, 32, .inl g3)), (b_sn, .inl (kI, 12, .inl g4)), (b_sl, .inl (kI, 12, .inl (va_cpy g_f_sl g_b_sl (0 : Int32).toNatClampNeg (0 : Int32).toNatClampNeg (12 : Int32).toNatClampNeg))), (a_f, .inr (8, [.ref f_sc, .ref f_sp, .ref f_cp, .ref f_sn, .ref f_sl, .int f_li, .int f_ed, .int f_se])), (f_sc, .inl (kI, 5, .inl g_f_sc)), (f_sp, .inl (kI, 120, .inl g_f_sp)), (f_cp, .inl (kI, 32, .inl g_f_cp)), (f_sn, .inl (kI, 12, .inl g_f_sn)), (f_sl, .inl (kI, 12, .inl g_f_sl))] H := hP
  have hD : va_D A [(h0, .inr (8, [.ref b_sc, .ref b_sp, .ref b_cp, .ref b_sn, .ref b_sl, .int i_li, .int i_ed, .int i_se])), (b_sc, .inl (kI, 5, .inl g1)), (b_sp, .inl (kI, 120, .inl g2)), (b_cp, .inl (kI, 32, .inl g3)), (b_sn, .inl (kI, 12, .inl g4)), (b_sl, .inl (kI, 12, .inl (va_cpy g_f_sl g_b_sl (0 : Int32).toNatClampNeg (0 : Int32).toNatClampNeg (12 : Int32).toNatClampNeg))), (a_f, .inr (8, [.ref f_sc, .ref f_sp, .ref f_cp, .ref f_sn, .ref f_sl, .int f_li, .int f_ed, .int f_se])), (f_sc, .inl (kI, 5, .inl g_f_sc)), (f_sp, .inl (kI, 120, .inl g_f_sp)), (f_cp, .inl (kI, 32, .inl g_f_cp)), (f_sn, .inl (kI, 12, .inl g_f_sn)), (f_sl, .inl (kI, 12, .inl g_f_sl))] := hD
  have hK : va_K D vwCl [(kI, .int)] s := hK
  rw [← eg5] at hP hD
  refine lv_aload_n hx hb dX8_take_74 rfl (lv_at hl 0 rfl) ?_
  refine lv_aload_n hx hb dX8_take_75 rfl (lv_at hl 1 rfl) ?_
  refine va_get (D := D) (ci := 8) (v := .int f_li) (C := RX8) (T := TX8) (N := 8) hx hb hts (fun _ h => List.mem_cons_of_mem _ (List.mem_append_right _ h)) hown hK hP 6 rfl rfl 5 (by decide) (hts (.fieldLink RX8 33 "LineCites$Work" "lines" "I") (List.mem_of_getElem? (i := 10) rfl)) (fun _ h9 => h9) rfl dX8_take_76 ?_
  refine va_put (D := D) (ci := 8) (v := .int f_li) (ty := .int) (C := RX8) (T := TX8) (N := 8) hx hb hts (fun _ h => List.mem_cons_of_mem _ (List.mem_append_right _ h)) tyX8 tyX8_ok nmX8 hown hK hP hD hS 0 rfl rfl 5 (by decide) (hts (.fieldLink RX8 33 "LineCites$Work" "lines" "I") (List.mem_of_getElem? (i := 10) rfl)) (fun _ h9 => h9) rfl (by decide +kernel) rfl rfl (Nat.le_of_ble_eq_true rfl) dX8_take_79 (fun H locs hP hD hS => ?_)
  have hP : va_P D vwCl [(h0, .inr (8, [.ref b_sc, .ref b_sp, .ref b_cp, .ref b_sn, .ref b_sl, .int f_li, .int i_ed, .int i_se])), (b_sc, .inl (kI, 5, .inl g1)), (b_sp, .inl (kI, 120, .inl g2)), (b_cp, .inl (kI, 32, .inl g3)), (b_sn, .inl (kI, 12, .inl g4)), (b_sl, .inl (kI, 12, .inl g5)), (a_f, .inr (8, [.ref f_sc, .ref f_sp, .ref f_cp, .ref f_sn, .ref f_sl, .int f_li, .int f_ed, .int f_se])), (f_sc, .inl (kI, 5, .inl g_f_sc)), (f_sp, .inl (kI, 120, .inl g_f_sp)), (f_cp, .inl (kI, 32, .inl g_f_cp)), (f_sn, .inl (kI, 12, .inl g_f_sn)), (f_sl, .inl (kI, 12, .inl g_f_sl))] H := hP
  have hD : va_D A [(h0, .inr (8, [.ref b_sc, .ref b_sp, .ref b_cp, .ref b_sn, .ref b_sl, .int f_li, .int i_ed, .int i_se])), (b_sc, .inl (kI, 5, .inl g1)), (b_sp, .inl (kI, 120, .inl g2)), (b_cp, .inl (kI, 32, .inl g3)), (b_sn, .inl (kI, 12, .inl g4)), (b_sl, .inl (kI, 12, .inl g5)), (a_f, .inr (8, [.ref f_sc, .ref f_sp, .ref f_cp, .ref f_sn, .ref f_sl, .int f_li, .int f_ed, .int f_se])), (f_sc, .inl (kI, 5, .inl g_f_sc)), (f_sp, .inl (kI, 120, .inl g_f_sp)), (f_cp, .inl (kI, 32, .inl g_f_cp)), (f_sn, .inl (kI, 12, .inl g_f_sn)), (f_sl, .inl (kI, 12, .inl g_f_sl))] := hD
  have hK : va_K D vwCl [(kI, .int)] s := hK
  refine lv_aload_n hx hb dX8_take_82 rfl (lv_at hl 0 rfl) ?_
  refine lv_aload_n hx hb dX8_take_83 rfl (lv_at hl 1 rfl) ?_
  refine va_get (D := D) (ci := 8) (v := .int f_ed) (C := RX8) (T := TX8) (N := 8) hx hb hts (fun _ h => List.mem_cons_of_mem _ (List.mem_append_right _ h)) hown hK hP 6 rfl rfl 6 (by decide) (hts (.fieldLink RX8 37 "LineCites$Work" "editions" "I") (List.mem_of_getElem? (i := 11) rfl)) (fun _ h9 => h9) rfl dX8_take_84 ?_
  refine va_put (D := D) (ci := 8) (v := .int f_ed) (ty := .int) (C := RX8) (T := TX8) (N := 8) hx hb hts (fun _ h => List.mem_cons_of_mem _ (List.mem_append_right _ h)) tyX8 tyX8_ok nmX8 hown hK hP hD hS 0 rfl rfl 6 (by decide) (hts (.fieldLink RX8 37 "LineCites$Work" "editions" "I") (List.mem_of_getElem? (i := 11) rfl)) (fun _ h9 => h9) rfl (by decide +kernel) rfl rfl (Nat.le_of_ble_eq_true rfl) dX8_take_87 (fun H locs hP hD hS => ?_)
  have hP : va_P D vwCl [(h0, .inr (8, [.ref b_sc, .ref b_sp, .ref b_cp, .ref b_sn, .ref b_sl, .int f_li, .int f_ed, .int i_se])), (b_sc, .inl (kI, 5, .inl g1)), (b_sp, .inl (kI, 120, .inl g2)), (b_cp, .inl (kI, 32, .inl g3)), (b_sn, .inl (kI, 12, .inl g4)), (b_sl, .inl (kI, 12, .inl g5)), (a_f, .inr (8, [.ref f_sc, .ref f_sp, .ref f_cp, .ref f_sn, .ref f_sl, .int f_li, .int f_ed, .int f_se])), (f_sc, .inl (kI, 5, .inl g_f_sc)), (f_sp, .inl (kI, 120, .inl g_f_sp)), (f_cp, .inl (kI, 32, .inl g_f_cp)), (f_sn, .inl (kI, 12, .inl g_f_sn)), (f_sl, .inl (kI, 12, .inl g_f_sl))] H := hP
  have hD : va_D A [(h0, .inr (8, [.ref b_sc, .ref b_sp, .ref b_cp, .ref b_sn, .ref b_sl, .int f_li, .int f_ed, .int i_se])), (b_sc, .inl (kI, 5, .inl g1)), (b_sp, .inl (kI, 120, .inl g2)), (b_cp, .inl (kI, 32, .inl g3)), (b_sn, .inl (kI, 12, .inl g4)), (b_sl, .inl (kI, 12, .inl g5)), (a_f, .inr (8, [.ref f_sc, .ref f_sp, .ref f_cp, .ref f_sn, .ref f_sl, .int f_li, .int f_ed, .int f_se])), (f_sc, .inl (kI, 5, .inl g_f_sc)), (f_sp, .inl (kI, 120, .inl g_f_sp)), (f_cp, .inl (kI, 32, .inl g_f_cp)), (f_sn, .inl (kI, 12, .inl g_f_sn)), (f_sl, .inl (kI, 12, .inl g_f_sl))] := hD
  have hK : va_K D vwCl [(kI, .int)] s := hK
  refine lv_aload_n hx hb dX8_take_90 rfl (lv_at hl 0 rfl) ?_
  refine lv_aload_n hx hb dX8_take_91 rfl (lv_at hl 1 rfl) ?_
  refine va_get (D := D) (ci := 8) (v := .int f_se) (C := RX8) (T := TX8) (N := 8) hx hb hts (fun _ h => List.mem_cons_of_mem _ (List.mem_append_right _ h)) hown hK hP 6 rfl rfl 7 (by decide) (hts (.fieldLink RX8 40 "LineCites$Work" "seen" "I") (List.mem_of_getElem? (i := 12) rfl)) (fun _ h9 => h9) rfl dX8_take_92 ?_
  refine va_put (D := D) (ci := 8) (v := .int f_se) (ty := .int) (C := RX8) (T := TX8) (N := 8) hx hb hts (fun _ h => List.mem_cons_of_mem _ (List.mem_append_right _ h)) tyX8 tyX8_ok nmX8 hown hK hP hD hS 0 rfl rfl 7 (by decide) (hts (.fieldLink RX8 40 "LineCites$Work" "seen" "I") (List.mem_of_getElem? (i := 12) rfl)) (fun _ h9 => h9) rfl (by decide +kernel) rfl rfl (Nat.le_of_ble_eq_true rfl) dX8_take_95 (fun H locs hP hD hS => ?_)
  have hP : va_P D vwCl [(h0, .inr (8, [.ref b_sc, .ref b_sp, .ref b_cp, .ref b_sn, .ref b_sl, .int f_li, .int f_ed, .int f_se])), (b_sc, .inl (kI, 5, .inl g1)), (b_sp, .inl (kI, 120, .inl g2)), (b_cp, .inl (kI, 32, .inl g3)), (b_sn, .inl (kI, 12, .inl g4)), (b_sl, .inl (kI, 12, .inl g5)), (a_f, .inr (8, [.ref f_sc, .ref f_sp, .ref f_cp, .ref f_sn, .ref f_sl, .int f_li, .int f_ed, .int f_se])), (f_sc, .inl (kI, 5, .inl g_f_sc)), (f_sp, .inl (kI, 120, .inl g_f_sp)), (f_cp, .inl (kI, 32, .inl g_f_cp)), (f_sn, .inl (kI, 12, .inl g_f_sn)), (f_sl, .inl (kI, 12, .inl g_f_sl))] H := hP
  have hD : va_D A [(h0, .inr (8, [.ref b_sc, .ref b_sp, .ref b_cp, .ref b_sn, .ref b_sl, .int f_li, .int f_ed, .int f_se])), (b_sc, .inl (kI, 5, .inl g1)), (b_sp, .inl (kI, 120, .inl g2)), (b_cp, .inl (kI, 32, .inl g3)), (b_sn, .inl (kI, 12, .inl g4)), (b_sl, .inl (kI, 12, .inl g5)), (a_f, .inr (8, [.ref f_sc, .ref f_sp, .ref f_cp, .ref f_sn, .ref f_sl, .int f_li, .int f_ed, .int f_se])), (f_sc, .inl (kI, 5, .inl g_f_sc)), (f_sp, .inl (kI, 120, .inl g_f_sp)), (f_cp, .inl (kI, 32, .inl g_f_cp)), (f_sn, .inl (kI, 12, .inl g_f_sn)), (f_sl, .inl (kI, 12, .inl g_f_sl))] := hD
  have hK : va_K D vwCl [(kI, .int)] s := hK
  have hP9 := hP.sub (ws' := [(h0, .inr (8, [.ref b_sc, .ref b_sp, .ref b_cp, .ref b_sn, .ref b_sl, .int f_li, .int f_ed, .int f_se])), (b_sc, .inl (kI, 5, .inl g1)), (b_sp, .inl (kI, 120, .inl g2)), (b_cp, .inl (kI, 32, .inl g3)), (b_sn, .inl (kI, 12, .inl g4)), (b_sl, .inl (kI, 12, .inl g5)), (a_f, .inr (8, [.ref f_sc, .ref f_sp, .ref f_cp, .ref f_sn, .ref f_sl, .int f_li, .int f_ed, .int f_se])), (f_sc, .inl (kI, 5, .inl g_f_sc)), (f_sp, .inl (kI, 120, .inl g_f_sp)), (f_cp, .inl (kI, 32, .inl g_f_cp)), (f_sn, .inl (kI, 12, .inl g_f_sn)), (f_sl, .inl (kI, 12, .inl g_f_sl))]) [0, 1, 2, 3, 4, 5, 6, 7, 8, 9, 10, 11] rfl
  have hD9 := hD.sub (ws' := [(h0, .inr (8, [.ref b_sc, .ref b_sp, .ref b_cp, .ref b_sn, .ref b_sl, .int f_li, .int f_ed, .int f_se])), (b_sc, .inl (kI, 5, .inl g1)), (b_sp, .inl (kI, 120, .inl g2)), (b_cp, .inl (kI, 32, .inl g3)), (b_sn, .inl (kI, 12, .inl g4)), (b_sl, .inl (kI, 12, .inl g5)), (a_f, .inr (8, [.ref f_sc, .ref f_sp, .ref f_cp, .ref f_sn, .ref f_sl, .int f_li, .int f_ed, .int f_se])), (f_sc, .inl (kI, 5, .inl g_f_sc)), (f_sp, .inl (kI, 120, .inl g_f_sp)), (f_cp, .inl (kI, 32, .inl g_f_cp)), (f_sn, .inl (kI, 12, .inl g_f_sn)), (f_sl, .inl (kI, 12, .inl g_f_sl))]) [0, 1, 2, 3, 4, 5, 6, 7, 8, 9, 10, 11] (by decide) rfl
  have hK9 := hK.sub (tys' := [(kI, .int)]) [0] rfl
  refine W.widen (k := 0) (n := 0) (Nat.le_of_ble_eq_true rfl) (Nat.le_of_ble_eq_true rfl) ?_
  exact W.vret hx hb hr (fun t ht hW => ⟨⟨(), rfl, trivial, g1, g2, g3, g4, g5, by rw [ht]; exact hP9, va_K.moved hW.alike hK9, hD9, hg2⟩, hS.F ht⟩) hS.2.2 dX8_take_98
def w_X8_begin : List Cond := .code yX8_begin cX8_begin 2 none :: ([.fieldLink RX8 33 "LineCites$Work" "lines" "I", .fieldLink RX8 37 "LineCites$Work" "editions" "I"] ++ wsX80)
set_option maxHeartbeats 4000000 in
set_option maxRecDepth 100000 in
theorem c_X8_begin (l : Launch) (D : va_G) (h0 : Nat) (i_n : Int32) (b_sc : Nat) (b_sp : Nat) (b_cp : Nat) (b_sn : Nat) (b_sl : Nat) (i_li : Int32) (i_ed : Int32) (i_se : Int32) (sz : Nat) : Met l yX8_begin w_X8_begin ({ frames := 0, cells := 0, slots := 0, locals := 0 }) (va_Pc [.ref h0, .int i_n] (fun U => U.heap.size = sz ∧ va_P D vwCl [(h0, .inr (8, [.ref b_sc, .ref b_sp, .ref b_cp, .ref b_sn, .ref b_sl, .int i_li, .int i_ed, .int i_se]))] U.heap ∧ va_K D vwCl [] U ∧ va_D (fun _ => True) [(h0, .inr (8, [.ref b_sc, .ref b_sp, .ref b_cp, .ref b_sn, .ref b_sl, .int i_li, .int i_ed, .int i_se]))])) (va_Qv (fun (_ : Unit) => True) (fun (_ : Unit) t => ∃ (n_ed : Int32), va_P D vwCl [(h0, .inr (8, [.ref b_sc, .ref b_sp, .ref b_cp, .ref b_sn, .ref b_sl, .int i_n, .int n_ed, .int i_se]))] t.heap ∧ va_K D vwCl [] t ∧ va_D (va_A [(h0, .inr (8, [.ref b_sc, .ref b_sp, .ref b_cp, .ref b_sn, .ref b_sl, .int i_li, .int i_ed, .int i_se]))] sz) [(h0, .inr (8, [.ref b_sc, .ref b_sp, .ref b_cp, .ref b_sn, .ref b_sl, .int i_n, .int n_ed, .int i_se]))]) (va_A [(h0, .inr (8, [.ref b_sc, .ref b_sp, .ref b_cp, .ref b_sn, .ref b_sl, .int i_li, .int i_ed, .int i_se]))] sz)) 0 0 (va_A [(h0, .inr (8, [.ref b_sc, .ref b_sp, .ref b_cp, .ref b_sn, .ref b_sl, .int i_li, .int i_ed, .int i_se]))] sz) := by
  refine Met.ofW (cc := cX8_begin) (maxL := 2) (ret := none) (by decide) rfl ?_
  intro p e s m args below meth c s₁ B hml hv
  obtain ⟨rfl, hsz, hP, hK, hD0⟩ := hv
  have hx := B.exec
  have hb := B.bytes
  have hr := B.returns
  have hts := atoms_spec (ws := w_X8_begin) B.pre
  have hown : s.vm.findClass RX8 = some m.cls := findClass_of_methodNamed B.named
  have hlocks := B.notSynchronized
  subst hsz
  have hD := hD0.self (sz := s.heap.size)
  generalize hAe : va_A [(h0, .inr (8, [.ref b_sc, .ref b_sp, .ref b_cp, .ref b_sn, .ref b_sl, .int i_li, .int i_ed, .int i_se]))] s.heap.size = A at hD ⊢
  have hA : ∀ q : Nat, s.heap.size ≤ q → A q := fun q h => by rw [← hAe]; exact Or.inr h
  have hS : va_S A s.heap s.heap [] := va_S.rf
  have hP : va_P D vwCl [(h0, .inr (8, [.ref b_sc, .ref b_sp, .ref b_cp, .ref b_sn, .ref b_sl, .int i_li, .int i_ed, .int i_se]))] s.heap := hP
  have hl := lv_entry ([.ref h0, .int i_n]) (n := 2) (Nat.le_of_ble_eq_true rfl)
  rw [lg_entry_eq]
  generalize (lg_sl ([.ref h0, .int i_n]) ++ List.replicate (2 - (lg_sl ([.ref h0, .int i_n])).length) Slot.unset).toArray = ls at hl ⊢
  have hl : lv_has ls 2 [(0, .ref h0), (1, .int i_n)] := hl
  obtain ⟨H, hHe⟩ : ∃ H : Heap, H = s.heap := ⟨_, rfl⟩
  rw [← hHe] at hP
  have hS : va_S A s.heap H [] := by rw [hHe]; exact hS
  refine pw_heap hHe ?_
  refine lv_aload_n hx hb dX8_begin_0 rfl (lv_at hl 0 rfl) ?_
  refine lv_iload_n hx hb dX8_begin_1 rfl (lv_at hl 1 rfl) ?_
  refine va_put (D := D) (ci := 8) (v := .int i_n) (ty := .int) (C := RX8) (T := TX8) (N := 8) hx hb hts (fun _ h => List.mem_cons_of_mem _ (List.mem_append_right _ h)) tyX8 tyX8_ok nmX8 hown hK hP hD hS 0 rfl rfl 5 (by decide) (hts (.fieldLink RX8 33 "LineCites$Work" "lines" "I") (List.mem_of_getElem? (i := 1) rfl)) (fun _ h9 => h9) rfl (by decide +kernel) rfl rfl (Nat.le_of_ble_eq_true rfl) dX8_begin_2 (fun H locs hP hD hS => ?_)
  have hP : va_P D vwCl [(h0, .inr (8, [.ref b_sc, .ref b_sp, .ref b_cp, .ref b_sn, .ref b_sl, .int i_n, .int i_ed, .int i_se]))] H := hP
  have hD : va_D A [(h0, .inr (8, [.ref b_sc, .ref b_sp, .ref b_cp, .ref b_sn, .ref b_sl, .int i_n, .int i_ed, .int i_se]))] := hD
  have hK : va_K D vwCl [] s := hK
  refine lv_aload_n hx hb dX8_begin_5 rfl (lv_at hl 0 rfl) ?_
  refine lv_iconst (v := 0) hx hb dX8_begin_6 (by decide) ?_
  refine va_put (D := D) (ci := 8) (v := .int 0) (ty := .int) (C := RX8) (T := TX8) (N := 8) hx hb hts (fun _ h => List.mem_cons_of_mem _ (List.mem_append_right _ h)) tyX8 tyX8_ok nmX8 hown hK hP hD hS 0 rfl rfl 6 (by decide) (hts (.fieldLink RX8 37 "LineCites$Work" "editions" "I") (List.mem_of_getElem? (i := 2) rfl)) (fun _ h9 => h9) rfl (by decide +kernel) rfl rfl (Nat.le_of_ble_eq_true rfl) dX8_begin_7 (fun H locs hP hD hS => ?_)
  have hP : va_P D vwCl [(h0, .inr (8, [.ref b_sc, .ref b_sp, .ref b_cp, .ref b_sn, .ref b_sl, .int i_n, .int 0, .int i_se]))] H := hP
  have hD : va_D A [(h0, .inr (8, [.ref b_sc, .ref b_sp, .ref b_cp, .ref b_sn, .ref b_sl, .int i_n, .int 0, .int i_se]))] := hD
  have hK : va_K D vwCl [] s := hK
  have hP9 := hP.sub (ws' := [(h0, .inr (8, [.ref b_sc, .ref b_sp, .ref b_cp, .ref b_sn, .ref b_sl, .int i_n, .int 0, .int i_se]))]) [0] rfl
  have hD9 := hD.sub (ws' := [(h0, .inr (8, [.ref b_sc, .ref b_sp, .ref b_cp, .ref b_sn, .ref b_sl, .int i_n, .int 0, .int i_se]))]) [0] (by decide) rfl
  have hK9 := hK.sub (tys' := []) [] rfl
  refine W.widen (k := 0) (n := 0) (Nat.le_of_ble_eq_true rfl) (Nat.le_of_ble_eq_true rfl) ?_
  exact W.vret hx hb hr (fun t ht hW => ⟨⟨(), rfl, trivial, 0, by rw [ht]; exact hP9, va_K.moved hW.alike hK9, hD9⟩, hS.F ht⟩) hS.2.2 dX8_begin_10
