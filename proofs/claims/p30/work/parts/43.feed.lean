theorem dX7_put_0 : decode cX7_put 0 = .ok (.aload_n 0, 1) := by decide +kernel
theorem dX7_put_1 : decode cX7_put 1 = .ok (.getfield 15, 3) := by decide +kernel
theorem dX7_put_4 : decode cX7_put 4 = .ok (.ifCond .lt 15, 3) := by decide +kernel
theorem dX7_put_7 : decode cX7_put 7 = .ok (.aload_n 0, 1) := by decide +kernel
theorem dX7_put_8 : decode cX7_put 8 = .ok (.getfield 15, 3) := by decide +kernel
theorem dX7_put_11 : decode cX7_put 11 = .ok (.aload_n 0, 1) := by decide +kernel
theorem dX7_put_12 : decode cX7_put 12 = .ok (.getfield 9, 3) := by decide +kernel
theorem dX7_put_15 : decode cX7_put 15 = .ok (.arraylength, 1) := by decide +kernel
theorem dX7_put_16 : decode cX7_put 16 = .ok (.if_icmp .lt 5, 3) := by decide +kernel
theorem dX7_put_19 : decode cX7_put 19 = .ok (.iconst 0, 1) := by decide +kernel
theorem dX7_put_20 : decode cX7_put 20 = .ok (.ireturn, 1) := by decide +kernel
theorem dX7_put_21 : decode cX7_put 21 = .ok (.aload_n 0, 1) := by decide +kernel
theorem dX7_put_22 : decode cX7_put 22 = .ok (.getfield 9, 3) := by decide +kernel
theorem dX7_put_25 : decode cX7_put 25 = .ok (.aload_n 0, 1) := by decide +kernel
theorem dX7_put_26 : decode cX7_put 26 = .ok (.getfield 15, 3) := by decide +kernel
theorem dX7_put_29 : decode cX7_put 29 = .ok (.iload_n 1, 1) := by decide +kernel
theorem dX7_put_30 : decode cX7_put 30 = .ok (.i2b, 1) := by decide +kernel
theorem dX7_put_31 : decode cX7_put 31 = .ok (.bastore, 1) := by decide +kernel
theorem dX7_put_32 : decode cX7_put 32 = .ok (.aload_n 0, 1) := by decide +kernel
theorem dX7_put_33 : decode cX7_put 33 = .ok (.dup, 1) := by decide +kernel
theorem dX7_put_34 : decode cX7_put 34 = .ok (.getfield 15, 3) := by decide +kernel
theorem dX7_put_37 : decode cX7_put 37 = .ok (.iconst 1, 1) := by decide +kernel
theorem dX7_put_38 : decode cX7_put 38 = .ok (.iadd, 1) := by decide +kernel
theorem dX7_put_39 : decode cX7_put 39 = .ok (.putfield 15, 3) := by decide +kernel
theorem dX7_put_42 : decode cX7_put 42 = .ok (.iconst 1, 1) := by decide +kernel
theorem dX7_put_43 : decode cX7_put 43 = .ok (.ireturn, 1) := by decide +kernel
theorem dX9_feed_0 : decode cX9_feed 0 = .ok (.iload_n 1, 1) := by decide +kernel
theorem dX9_feed_1 : decode cX9_feed 1 = .ok (.ifCond .lt 10, 3) := by decide +kernel
theorem dX9_feed_4 : decode cX9_feed 4 = .ok (.iload_n 1, 1) := by decide +kernel
theorem dX9_feed_5 : decode cX9_feed 5 = .ok (.sipush 255, 3) := by decide +kernel
theorem dX9_feed_8 : decode cX9_feed 8 = .ok (.if_icmp .le 6, 3) := by decide +kernel
theorem dX9_feed_11 : decode cX9_feed 11 = .ok (.ldc 88, 2) := by decide +kernel
theorem dX9_feed_13 : decode cX9_feed 13 = .ok (.ireturn, 1) := by decide +kernel
theorem dX9_feed_14 : decode cX9_feed 14 = .ok (.aload_n 0, 1) := by decide +kernel
theorem dX9_feed_15 : decode cX9_feed 15 = .ok (.getfield 10, 3) := by decide +kernel
theorem dX9_feed_18 : decode cX9_feed 18 = .ok (.iload_n 1, 1) := by decide +kernel
theorem dX9_feed_19 : decode cX9_feed 19 = .ok (.invokevirtual 89, 3) := by decide +kernel
theorem dX9_feed_22 : decode cX9_feed 22 = .ok (.ifCond .eq 13, 3) := by decide +kernel
theorem dX9_feed_25 : decode cX9_feed 25 = .ok (.aload_n 0, 1) := by decide +kernel
theorem dX9_feed_26 : decode cX9_feed 26 = .ok (.getfield 10, 3) := by decide +kernel
theorem dX9_feed_29 : decode cX9_feed 29 = .ok (.invokevirtual 93, 3) := by decide +kernel
theorem dX9_feed_32 : decode cX9_feed 32 = .ok (.goto 5, 3) := by decide +kernel
theorem dX9_feed_35 : decode cX9_feed 35 = .ok (.ldc 97, 2) := by decide +kernel
theorem dX9_feed_37 : decode cX9_feed 37 = .ok (.ireturn, 1) := by decide +kernel
def w_X7_put : List Cond := .code yX7_put cX7_put 2 (some .boolean) :: ([.fieldLink RX7 15 "LineCites$Tape" "size" "I", .fieldLink RX7 9 "LineCites$Tape" "bytes" "[B"] ++ wsX70)
set_option maxHeartbeats 4000000 in
set_option maxRecDepth 100000 in
theorem c_X7_put (l : Launch) (D : va_G) (h0 : Nat) (i_b : Int32) (y_by : Nat) (i_sz : Int32) (i_lf : Int32) (kB : ClassId) (g_by : Nat → Int32) (sz : Nat) (h0i_sz : 0 ≤ i_sz.toInt) (h1i_sz : i_sz.toInt ≤ 200) (h0i_b : 0 ≤ i_b.toInt) (h1i_b : i_b.toInt ≤ 255) (hg_by : fB g_by) : Met l yX7_put w_X7_put ({ frames := 0, cells := 0, slots := 0, locals := 0 }) (va_Pc [.ref h0, .int i_b] (fun U => U.heap.size = sz ∧ va_P D vwCl [(h0, .inr (7, [.ref y_by, .int i_sz, .int i_lf])), (y_by, .inl (kB, 200, .inl g_by))] U.heap ∧ va_K D vwCl [(kB, .byte)] U ∧ va_D (fun _ => True) [(h0, .inr (7, [.ref y_by, .int i_sz, .int i_lf])), (y_by, .inl (kB, 200, .inl g_by))])) (va_Qi (fun (r : Int32) (_ : Unit) => (r = 0 ∨ r = 1) ∧ True) (fun (_ : Unit) t => ∃ (n_sz : Int32) (n_by : Nat → Int32), va_P D vwCl [(h0, .inr (7, [.ref y_by, .int n_sz, .int i_lf])), (y_by, .inl (kB, 200, .inl n_by))] t.heap ∧ va_K D vwCl [(kB, .byte)] t ∧ va_D (va_A [(h0, .inr (7, [.ref y_by, .int i_sz, .int i_lf])), (y_by, .inl (kB, 200, .inl g_by))] sz) [(h0, .inr (7, [.ref y_by, .int n_sz, .int i_lf])), (y_by, .inl (kB, 200, .inl n_by))] ∧ fB n_by ∧ fdR i_b.toInt g_by i_sz.toInt n_by n_sz.toInt) (va_A [(h0, .inr (7, [.ref y_by, .int i_sz, .int i_lf])), (y_by, .inl (kB, 200, .inl g_by))] sz)) 0 0 (va_A [(h0, .inr (7, [.ref y_by, .int i_sz, .int i_lf])), (y_by, .inl (kB, 200, .inl g_by))] sz) := by
  refine Met.ofW (cc := cX7_put) (maxL := 2) (ret := (some .boolean)) (by decide) rfl ?_
  intro p e s m args below meth c s₁ B hml hv
  obtain ⟨rfl, hsz, hP, hK, hD0⟩ := hv
  have hx := B.exec
  have hb := B.bytes
  have hr := B.returns
  have hts := atoms_spec (ws := w_X7_put) B.pre
  have hown : s.vm.findClass RX7 = some m.cls := findClass_of_methodNamed B.named
  have hlocks := B.notSynchronized
  subst hsz
  have hD := hD0.self (sz := s.heap.size)
  generalize hAe : va_A [(h0, .inr (7, [.ref y_by, .int i_sz, .int i_lf])), (y_by, .inl (kB, 200, .inl g_by))] s.heap.size = A at hD ⊢
  have hA : ∀ q : Nat, s.heap.size ≤ q → A q := fun q h => by rw [← hAe]; exact Or.inr h
  have hS : va_S A s.heap s.heap [] := va_S.rf
  have hP : va_P D vwCl [(h0, .inr (7, [.ref y_by, .int i_sz, .int i_lf])), (y_by, .inl (kB, 200, .inl g_by))] s.heap := hP
  have hl := lv_entry ([.ref h0, .int i_b]) (n := 2) (Nat.le_of_ble_eq_true rfl)
  rw [lg_entry_eq]
  generalize (lg_sl ([.ref h0, .int i_b]) ++ List.replicate (2 - (lg_sl ([.ref h0, .int i_b])).length) Slot.unset).toArray = ls at hl ⊢
  have hl : lv_has ls 2 [(0, .ref h0), (1, .int i_b)] := hl
  obtain ⟨H, hHe⟩ : ∃ H : Heap, H = s.heap := ⟨_, rfl⟩
  rw [← hHe] at hP
  have hS : va_S A s.heap H [] := by rw [hHe]; exact hS
  refine pw_heap hHe ?_
  refine lv_aload_n hx hb dX7_put_0 rfl (lv_at hl 0 rfl) ?_
  refine va_get (D := D) (ci := 7) (v := .int i_sz) (C := RX7) (T := TX7) (N := 3) hx hb hts (fun _ h => List.mem_cons_of_mem _ (List.mem_append_right _ h)) hown hK hP 0 rfl rfl 1 (by decide) (hts (.fieldLink RX7 15 "LineCites$Tape" "size" "I") (List.mem_of_getElem? (i := 1) rfl)) (fun _ h9 => h9) rfl dX7_put_1 ?_
  refine lv_if_lt (tgt := 19) hx hb dX7_put_4 (by decide) (fun c1 => False.elim (by have nn : i_sz.toInt < 0 := pw_lt c1 rfl (by decide); omega)) (fun c1 => ?_)
  have nc1 : 0 ≤ i_sz.toInt := pw_nlt c1 rfl (by decide)
  refine lv_aload_n hx hb dX7_put_7 rfl (lv_at hl 0 rfl) ?_
  refine va_get (D := D) (ci := 7) (v := .int i_sz) (C := RX7) (T := TX7) (N := 3) hx hb hts (fun _ h => List.mem_cons_of_mem _ (List.mem_append_right _ h)) hown hK hP 0 rfl rfl 1 (by decide) (hts (.fieldLink RX7 15 "LineCites$Tape" "size" "I") (List.mem_of_getElem? (i := 1) rfl)) (fun _ h9 => h9) rfl dX7_put_8 ?_
  refine lv_aload_n hx hb dX7_put_11 rfl (lv_at hl 0 rfl) ?_
  refine va_get (D := D) (ci := 7) (v := .ref y_by) (C := RX7) (T := TX7) (N := 3) hx hb hts (fun _ h => List.mem_cons_of_mem _ (List.mem_append_right _ h)) hown hK hP 0 rfl rfl 0 (by decide) (hts (.fieldLink RX7 9 "LineCites$Tape" "bytes" "[B") (List.mem_of_getElem? (i := 2) rfl)) (fun _ h9 => h9) rfl dX7_put_12 ?_
  refine va_alen (v := 200) hx hb hK hP 1 0 rfl rfl rfl dX7_put_15 ?_
  refine lv_icmp_lt (tgt := 21) hx hb dX7_put_16 (by decide) (fun c2 => ?_) (fun c2 => ?_)
  · have nc2 : i_sz.toInt < 200 := pw_lt c2 rfl (by decide)
    refine lv_aload_n hx hb dX7_put_21 rfl (lv_at hl 0 rfl) ?_
    refine va_get (D := D) (ci := 7) (v := .ref y_by) (C := RX7) (T := TX7) (N := 3) hx hb hts (fun _ h => List.mem_cons_of_mem _ (List.mem_append_right _ h)) hown hK hP 0 rfl rfl 0 (by decide) (hts (.fieldLink RX7 9 "LineCites$Tape" "bytes" "[B") (List.mem_of_getElem? (i := 2) rfl)) (fun _ h9 => h9) rfl dX7_put_22 ?_
    refine lv_aload_n hx hb dX7_put_25 rfl (lv_at hl 0 rfl) ?_
    refine va_get (D := D) (ci := 7) (v := .int i_sz) (C := RX7) (T := TX7) (N := 3) hx hb hts (fun _ h => List.mem_cons_of_mem _ (List.mem_append_right _ h)) hown hK hP 0 rfl rfl 1 (by decide) (hts (.fieldLink RX7 15 "LineCites$Tape" "size" "I") (List.mem_of_getElem? (i := 1) rfl)) (fun _ h9 => h9) rfl dX7_put_26 ?_
    refine lv_iload_n hx hb dX7_put_29 rfl (lv_at hl 1 rfl) ?_
    refine lv_i2b hx hb dX7_put_30 rfl ?_
    refine lv_topi (fun x3 ex3 => ?_)
    refine va_bast hx hb hK hP hD hS 1 0 rfl rfl (vp_in_iff.mpr ⟨by omega, by omega⟩) dX7_put_31 (fun H locs hP hD hS => ?_)
    obtain ⟨g4, eg4⟩ : ∃ g : Nat → Int32, g = upd g_by (i_sz : Int32).toNatClampNeg (vp_nar .byte x3) := ⟨_, rfl⟩
    have hP : va_P D vwCl [(h0, .inr (7, [.ref y_by, .int i_sz, .int i_lf])), (y_by, .inl (kB, 200, .inl (upd g_by (i_sz : Int32).toNatClampNeg (vp_nar .byte x3))))] H := hP
    have hD : va_D A [(h0, .inr (7, [.ref y_by, .int i_sz, .int i_lf])), (y_by, .inl (kB, 200, .inl (upd g_by (i_sz : Int32).toNatClampNeg (vp_nar .byte x3))))] := hD
    have hK : va_K D vwCl [(kB, .byte)] s := hK
    rw [← eg4] at hP hD
    have hg4 : fB g4 := fB_upd hg_by eg4 
    refine lv_aload_n hx hb dX7_put_32 rfl (lv_at hl 0 rfl) ?_
    refine lv_dup hx hb dX7_put_33 rfl ?_
    refine va_get (D := D) (ci := 7) (v := .int i_sz) (C := RX7) (T := TX7) (N := 3) hx hb hts (fun _ h => List.mem_cons_of_mem _ (List.mem_append_right _ h)) hown hK hP 0 rfl rfl 1 (by decide) (hts (.fieldLink RX7 15 "LineCites$Tape" "size" "I") (List.mem_of_getElem? (i := 1) rfl)) (fun _ h9 => h9) rfl dX7_put_34 ?_
    refine lv_iconst (v := 1) hx hb dX7_put_37 (by decide) ?_
    refine lv_iadd hx hb dX7_put_38 ?_
    refine lv_topi (fun x5 ex5 => ?_)
    have tx5 : x5.toInt = i_sz.toInt + 1 := pw_addX ex5 rfl (by decide) (by omega) (by omega)
    refine va_put (D := D) (ci := 7) (v := .int x5) (ty := .int) (C := RX7) (T := TX7) (N := 3) hx hb hts (fun _ h => List.mem_cons_of_mem _ (List.mem_append_right _ h)) tyX7 tyX7_ok nmX7 hown hK hP hD hS 0 rfl rfl 1 (by decide) (hts (.fieldLink RX7 15 "LineCites$Tape" "size" "I") (List.mem_of_getElem? (i := 1) rfl)) (fun _ h9 => h9) rfl (by decide +kernel) rfl rfl (Nat.le_of_ble_eq_true rfl) dX7_put_39 (fun H locs hP hD hS => ?_)
    have hP : va_P D vwCl [(h0, .inr (7, [.ref y_by, .int x5, .int i_lf])), (y_by, .inl (kB, 200, .inl g4))] H := hP
    have hD : va_D A [(h0, .inr (7, [.ref y_by, .int x5, .int i_lf])), (y_by, .inl (kB, 200, .inl g4))] := hD
    have hK : va_K D vwCl [(kB, .byte)] s := hK
    refine lv_iconst (v := 1) hx hb dX7_put_42 (by decide) ?_
    have hP9 := hP.sub (ws' := [(h0, .inr (7, [.ref y_by, .int x5, .int i_lf])), (y_by, .inl (kB, 200, .inl g4))]) [0, 1] rfl
    have hD9 := hD.sub (ws' := [(h0, .inr (7, [.ref y_by, .int x5, .int i_lf])), (y_by, .inl (kB, 200, .inl g4))]) [0, 1] (by decide) rfl
    have hK9 := hK.sub (tys' := [(kB, .byte)]) [0] rfl
    refine W.widen (k := 0) (n := 0) (Nat.le_of_ble_eq_true rfl) (Nat.le_of_ble_eq_true rfl) ?_
    exact W.zret (v := 1) (ty := .boolean) hx hb hr rfl (fun t ht hW => ⟨⟨1, (), rfl, ⟨Or.inr rfl, trivial⟩, x5, g4, by rw [ht]; exact hP9, va_K.moved hW.alike hK9, hD9, hg4, (fdR_1 (by omega) (by omega) eg4 ex3 (by omega) (by omega))⟩, hS.F ht⟩) hS.2.2 dX7_put_43
  · have nc2 : 200 ≤ i_sz.toInt := pw_nlt c2 rfl (by decide)
    refine lv_iconst (v := 0) hx hb dX7_put_19 (by decide) ?_
    have hP9 := hP.sub (ws' := [(h0, .inr (7, [.ref y_by, .int i_sz, .int i_lf])), (y_by, .inl (kB, 200, .inl g_by))]) [0, 1] rfl
    have hD9 := hD.sub (ws' := [(h0, .inr (7, [.ref y_by, .int i_sz, .int i_lf])), (y_by, .inl (kB, 200, .inl g_by))]) [0, 1] (by decide) rfl
    have hK9 := hK.sub (tys' := [(kB, .byte)]) [0] rfl
    refine W.widen (k := 0) (n := 0) (Nat.le_of_ble_eq_true rfl) (Nat.le_of_ble_eq_true rfl) ?_
    exact W.zret (v := 0) (ty := .boolean) hx hb hr rfl (fun t ht hW => ⟨⟨0, (), rfl, ⟨Or.inl rfl, trivial⟩, i_sz, g_by, by rw [ht]; exact hP9, va_K.moved hW.alike hK9, hD9, hg_by, (Or.inr ⟨by omega, rfl, rfl⟩)⟩, hS.F ht⟩) hS.2.2 dX7_put_20
def w_X9_feed : List Cond := .code yX9_feed cX9_feed 2 (some .int) :: ([.constant RX9 88 (-1000001), .fieldLink RX9 10 "LineCites" "tape" "LLineCites$Tape;", .methodLink RX9 89 yX7_put, .instanceMethod yX7_put, .selects RX7 yX7_put yX7_put, .initialized RX7, .code yX7_put cX7_put 2 (some .boolean), .fieldLink RX7 15 "LineCites$Tape" "size" "I", .fieldLink RX7 9 "LineCites$Tape" "bytes" "[B", .constant RX9 97 (-1000003), .methodLink RX9 93 yX7_size, .instanceMethod yX7_size, .selects RX7 yX7_size yX7_size, .code yX7_size cX7_size 1 (some .int)] ++ wsX90 ++ wsX70)
set_option maxRecDepth 20000 in
theorem g_X9_feed_X7_put : GoodIn w_X9_feed (wsV RX9 89 RX7 yX7_put w_X7_put) := goodIn_r _ [3, 4, 5, 6, 7, 8, 9, 29, 30, 31] rfl (by decide +kernel)
set_option maxRecDepth 20000 in
theorem g_X9_feed_X7_size : GoodIn w_X9_feed (wsV RX9 93 RX7 yX7_size w_X7_size) := goodIn_r _ [11, 12, 13, 6, 14, 8, 29, 30, 31] rfl (by decide +kernel)
set_option maxHeartbeats 4000000 in
set_option maxRecDepth 100000 in
theorem c_X9_feed (l : Launch) (D : va_G) (h0 : Nat) (i_0 : Int32) (a_tape : Nat) (a_now : Nat) (a_draft : Nat) (a_reader : Nat) (a_acts : Nat) (a_images : Nat) (a_one : Nat) (a_other : Nat) (a_third : Nat) (a_spans : Nat) (a_back : Nat) (a_span : Nat) (a_middle : Nat) (a_reached : Nat) (y_by : Nat) (i_sz : Int32) (i_lf : Int32) (kB : ClassId) (g_by : Nat → Int32) (sz : Nat) (h0i_sz : 0 ≤ i_sz.toInt) (h1i_sz : i_sz.toInt ≤ 200) (hg_by : fB g_by) : Met l yX9_feed w_X9_feed ({ frames := 1, cells := 0, slots := 0, locals := 21 }) (va_Pc [.ref h0, .int i_0] (fun U => U.heap.size = sz ∧ va_P D vwCl [(h0, .inr (9, [.ref a_tape, .ref a_now, .ref a_draft, .ref a_reader, .ref a_acts, .ref a_images, .ref a_one, .ref a_other, .ref a_third, .ref a_spans, .ref a_back, .ref a_span, .ref a_middle, .ref a_reached])), (a_tape, .inr (7, [.ref y_by, .int i_sz, .int i_lf])), (y_by, .inl (kB, 200, .inl g_by))] U.heap ∧ va_K D vwCl [(kB, .byte)] U ∧ va_D (fun _ => True) [(h0, .inr (9, [.ref a_tape, .ref a_now, .ref a_draft, .ref a_reader, .ref a_acts, .ref a_images, .ref a_one, .ref a_other, .ref a_third, .ref a_spans, .ref a_back, .ref a_span, .ref a_middle, .ref a_reached])), (a_tape, .inr (7, [.ref y_by, .int i_sz, .int i_lf])), (y_by, .inl (kB, 200, .inl g_by))])) (va_Qi (fun (r : Int32) (_ : Unit) => True) (fun (_ : Unit) t => ∃ (n_sz : Int32) (n_by : Nat → Int32), va_P D vwCl [(h0, .inr (9, [.ref a_tape, .ref a_now, .ref a_draft, .ref a_reader, .ref a_acts, .ref a_images, .ref a_one, .ref a_other, .ref a_third, .ref a_spans, .ref a_back, .ref a_span, .ref a_middle, .ref a_reached])), (a_tape, .inr (7, [.ref y_by, .int n_sz, .int i_lf])), (y_by, .inl (kB, 200, .inl n_by))] t.heap ∧ va_K D vwCl [(kB, .byte)] t ∧ va_D (va_A [(h0, .inr (9, [.ref a_tape, .ref a_now, .ref a_draft, .ref a_reader, .ref a_acts, .ref a_images, .ref a_one, .ref a_other, .ref a_third, .ref a_spans, .ref a_back, .ref a_span, .ref a_middle, .ref a_reached])), (a_tape, .inr (7, [.ref y_by, .int i_sz, .int i_lf])), (y_by, .inl (kB, 200, .inl g_by))] sz) [(h0, .inr (9, [.ref a_tape, .ref a_now, .ref a_draft, .ref a_reader, .ref a_acts, .ref a_images, .ref a_one, .ref a_other, .ref a_third, .ref a_spans, .ref a_back, .ref a_span, .ref a_middle, .ref a_reached])), (a_tape, .inr (7, [.ref y_by, .int n_sz, .int i_lf])), (y_by, .inl (kB, 200, .inl n_by))] ∧ fB n_by ∧ fdS i_0.toInt g_by i_sz.toInt n_by n_sz.toInt) (va_A [(h0, .inr (9, [.ref a_tape, .ref a_now, .ref a_draft, .ref a_reader, .ref a_acts, .ref a_images, .ref a_one, .ref a_other, .ref a_third, .ref a_spans, .ref a_back, .ref a_span, .ref a_middle, .ref a_reached])), (a_tape, .inr (7, [.ref y_by, .int i_sz, .int i_lf])), (y_by, .inl (kB, 200, .inl g_by))] sz)) 0 0 (va_A [(h0, .inr (9, [.ref a_tape, .ref a_now, .ref a_draft, .ref a_reader, .ref a_acts, .ref a_images, .ref a_one, .ref a_other, .ref a_third, .ref a_spans, .ref a_back, .ref a_span, .ref a_middle, .ref a_reached])), (a_tape, .inr (7, [.ref y_by, .int i_sz, .int i_lf])), (y_by, .inl (kB, 200, .inl g_by))] sz) := by
  refine Met.ofW (cc := cX9_feed) (maxL := 2) (ret := (some .int)) (by decide) rfl ?_
  intro p e s m args below meth c s₁ B hml hv
  obtain ⟨rfl, hsz, hP, hK, hD0⟩ := hv
  have hx := B.exec
  have hb := B.bytes
  have hr := B.returns
  have hts := atoms_spec (ws := w_X9_feed) B.pre
  have hown : s.vm.findClass RX9 = some m.cls := findClass_of_methodNamed B.named
  have hlocks := B.notSynchronized
  subst hsz
  have hD := hD0.self (sz := s.heap.size)
  generalize hAe : va_A [(h0, .inr (9, [.ref a_tape, .ref a_now, .ref a_draft, .ref a_reader, .ref a_acts, .ref a_images, .ref a_one, .ref a_other, .ref a_third, .ref a_spans, .ref a_back, .ref a_span, .ref a_middle, .ref a_reached])), (a_tape, .inr (7, [.ref y_by, .int i_sz, .int i_lf])), (y_by, .inl (kB, 200, .inl g_by))] s.heap.size = A at hD ⊢
  have hA : ∀ q : Nat, s.heap.size ≤ q → A q := fun q h => by rw [← hAe]; exact Or.inr h
  have hS : va_S A s.heap s.heap [] := va_S.rf
  have hP : va_P D vwCl [(h0, .inr (9, [.ref a_tape, .ref a_now, .ref a_draft, .ref a_reader, .ref a_acts, .ref a_images, .ref a_one, .ref a_other, .ref a_third, .ref a_spans, .ref a_back, .ref a_span, .ref a_middle, .ref a_reached])), (a_tape, .inr (7, [.ref y_by, .int i_sz, .int i_lf])), (y_by, .inl (kB, 200, .inl g_by))] s.heap := hP
  have hl := lv_entry ([.ref h0, .int i_0]) (n := 2) (Nat.le_of_ble_eq_true rfl)
  rw [lg_entry_eq]
  generalize (lg_sl ([.ref h0, .int i_0]) ++ List.replicate (2 - (lg_sl ([.ref h0, .int i_0])).length) Slot.unset).toArray = ls at hl ⊢
  have hl : lv_has ls 2 [(0, .ref h0), (1, .int i_0)] := hl
  obtain ⟨H, hHe⟩ : ∃ H : Heap, H = s.heap := ⟨_, rfl⟩
  rw [← hHe] at hP
  have hS : va_S A s.heap H [] := by rw [hHe]; exact hS
  refine pw_heap hHe ?_
  refine lv_iload_n hx hb dX9_feed_0 rfl (lv_at hl 1 rfl) ?_
  refine lv_if_lt (tgt := 11) hx hb dX9_feed_1 (by decide) (fun c1 => ?_) (fun c1 => ?_)
  · have nc1 : i_0.toInt < 0 := pw_lt c1 rfl (by decide)
    refine lv_ldc hx hb hown (hts (.constant RX9 88 (-1000001)) (List.mem_of_getElem? (i := 1) rfl)) dX9_feed_11 ?_
    have hP9 := hP.sub (ws' := [(h0, .inr (9, [.ref a_tape, .ref a_now, .ref a_draft, .ref a_reader, .ref a_acts, .ref a_images, .ref a_one, .ref a_other, .ref a_third, .ref a_spans, .ref a_back, .ref a_span, .ref a_middle, .ref a_reached])), (a_tape, .inr (7, [.ref y_by, .int i_sz, .int i_lf])), (y_by, .inl (kB, 200, .inl g_by))]) [0, 1, 2] rfl
    have hD9 := hD.sub (ws' := [(h0, .inr (9, [.ref a_tape, .ref a_now, .ref a_draft, .ref a_reader, .ref a_acts, .ref a_images, .ref a_one, .ref a_other, .ref a_third, .ref a_spans, .ref a_back, .ref a_span, .ref a_middle, .ref a_reached])), (a_tape, .inr (7, [.ref y_by, .int i_sz, .int i_lf])), (y_by, .inl (kB, 200, .inl g_by))]) [0, 1, 2] (by decide) rfl
    have hK9 := hK.sub (tys' := [(kB, .byte)]) [0] rfl
    refine W.widen (k := 0) (n := 0) (Nat.le_of_ble_eq_true rfl) (Nat.le_of_ble_eq_true rfl) ?_
    exact W.iret (v := (-1000001)) hx hb hr (fun t ht hW => ⟨⟨(-1000001), (), rfl, trivial, i_sz, g_by, by rw [ht]; exact hP9, va_K.moved hW.alike hK9, hD9, hg_by, (Or.inr ⟨by omega, rfl, rfl⟩)⟩, hS.F ht⟩) hS.2.2 dX9_feed_13
  · have nc1 : 0 ≤ i_0.toInt := pw_nlt c1 rfl (by decide)
    refine lv_iload_n hx hb dX9_feed_4 rfl (lv_at hl 1 rfl) ?_
    refine lv_sipush (v := 255) hx hb dX9_feed_5 (by decide) ?_
    refine lv_icmp_le (tgt := 14) hx hb dX9_feed_8 (by decide) (fun c2 => ?_) (fun c2 => ?_)
    · have nc2 : i_0.toInt ≤ 255 := pw_le c2 rfl (by decide)
      refine lv_aload_n hx hb dX9_feed_14 rfl (lv_at hl 0 rfl) ?_
      refine va_get (D := D) (ci := 9) (v := .ref a_tape) (C := RX9) (T := TX9) (N := 14) hx hb hts (fun _ h => List.mem_cons_of_mem _ (List.mem_append_left _ (List.mem_append_right _ h))) hown hK hP 0 rfl rfl 0 (by decide) (hts (.fieldLink RX9 10 "LineCites" "tape" "LLineCites$Tape;") (List.mem_of_getElem? (i := 2) rfl)) (fun _ h9 => h9) rfl dX9_feed_15 ?_
      refine lv_iload_n hx hb dX9_feed_18 rfl (lv_at hl 1 rfl) ?_
      have hPc := hP.sub (ws' := [(a_tape, .inr (7, [.ref y_by, .int i_sz, .int i_lf])), (y_by, .inl (kB, 200, .inl g_by))]) [1, 2] rfl
      have hKc := hK.sub (tys' := [(kB, .byte)]) [0] rfl
      have hDc := hD.sub (ws' := [(a_tape, .inr (7, [.ref y_by, .int i_sz, .int i_lf])), (y_by, .inl (kB, 200, .inl g_by))]) [1, 2] (by decide) rfl
      have hFc := va_free (wc := [(a_tape, .inr (7, [.ref y_by, .int i_sz, .int i_lf])), (y_by, .inl (kB, 200, .inl g_by))]) hD hS hA [1, 2] rfl
      refine va_calli (va_runV (As := [.int i_0]) (rest := []) ⟨hx, hb, hml, hown, hts⟩ (c_X7_put l D a_tape i_0 y_by i_sz i_lf kB g_by H.size (by first | decide | omega) (by first | decide | omega) (by first | decide | omega) (by first | decide | omega) hg_by) (cwV 1 hts g_X9_feed_X7_put rfl rfl rfl (by decide +kernel) ⟨Nat.le_of_ble_eq_true rfl, Nat.le_of_ble_eq_true rfl⟩) ⟨fun a U g mk q => by obtain ⟨q0, q1, qP, qK, qD⟩ := q; exact ⟨q0, q1, qP, va_K.moved (u := U) (U := U.calling g mk a) (Vm.Alike.refl U.vm) qK, qD⟩, va_recv hKc hPc (ci := 7) (q0 := 0) rfl rfl, fun U hU hW => ⟨rfl, by rw [hU], by rw [hU]; exact hPc, va_K.moved hW.alike hKc, hDc.weaken (fun _ _ _ _ => trivial)⟩⟩ rfl rfl hl.1 rfl (lv_room (Nat.le_of_ble_eq_true rfl)) dX9_feed_19 ⟨Nat.le_of_ble_eq_true rfl, Nat.le_of_ble_eq_true rfl⟩) hS (fun q _ h => hFc q h) hFc (fun r3 u t H1 locs ht hvm hw hB hz1 hk1 hS => ?_)
      obtain ⟨y4, y5, hP1, hK1, hD1, hy5, px0_r3⟩ := hB
      rw [ht] at hP1
      have hK1 := va_K.moved hvm.symm hK1
      obtain ⟨hP, hD⟩ := va_join (wr := [(h0, .inr (9, [.ref a_tape, .ref a_now, .ref a_draft, .ref a_reader, .ref a_acts, .ref a_images, .ref a_one, .ref a_other, .ref a_third, .ref a_spans, .ref a_back, .ref a_span, .ref a_middle, .ref a_reached]))]) (w1 := [(a_tape, .inr (7, [.ref y_by, .int y4, .int i_lf])), (y_by, .inl (kB, 200, .inl y5))]) hP hD [1, 2] [0] rfl rfl (by decide) (by decide) hk1 hFc hP1 hD1
      have hK := (hK.sub (tys' := [(kB, .byte)]) [0] rfl).app hK1
      generalize H1 = H at hP hS ⊢
      have hP : va_P D vwCl [(h0, .inr (9, [.ref a_tape, .ref a_now, .ref a_draft, .ref a_reader, .ref a_acts, .ref a_images, .ref a_one, .ref a_other, .ref a_third, .ref a_spans, .ref a_back, .ref a_span, .ref a_middle, .ref a_reached])), (a_tape, .inr (7, [.ref y_by, .int y4, .int i_lf])), (y_by, .inl (kB, 200, .inl y5))] H := hP
      have hD : va_D A [(h0, .inr (9, [.ref a_tape, .ref a_now, .ref a_draft, .ref a_reader, .ref a_acts, .ref a_images, .ref a_one, .ref a_other, .ref a_third, .ref a_spans, .ref a_back, .ref a_span, .ref a_middle, .ref a_reached])), (a_tape, .inr (7, [.ref y_by, .int y4, .int i_lf])), (y_by, .inl (kB, 200, .inl y5))] := hD
      have hK : va_K D vwCl [(kB, .byte), (kB, .byte)] s := hK
      refine W.widen (k := 0) (n := 0) (Nat.le_of_ble_eq_true rfl) (Nat.le_of_ble_eq_true rfl) ?_
      have bor3 := hw.1
      have zor3 := pw_boolI bor3
      refine lv_if_eq (tgt := 35) hx hb dX9_feed_22 (by decide) (fun c6 => ?_) (fun c6 => ?_)
      · have nc6 : r3.toInt = 0 := pw_eq c6 rfl (by decide)
        refine lv_ldc hx hb hown (hts (.constant RX9 97 (-1000003)) (List.mem_of_getElem? (i := 10) rfl)) dX9_feed_35 ?_
        have hP9 := hP.sub (ws' := [(h0, .inr (9, [.ref a_tape, .ref a_now, .ref a_draft, .ref a_reader, .ref a_acts, .ref a_images, .ref a_one, .ref a_other, .ref a_third, .ref a_spans, .ref a_back, .ref a_span, .ref a_middle, .ref a_reached])), (a_tape, .inr (7, [.ref y_by, .int y4, .int i_lf])), (y_by, .inl (kB, 200, .inl y5))]) [0, 1, 2] rfl
        have hD9 := hD.sub (ws' := [(h0, .inr (9, [.ref a_tape, .ref a_now, .ref a_draft, .ref a_reader, .ref a_acts, .ref a_images, .ref a_one, .ref a_other, .ref a_third, .ref a_spans, .ref a_back, .ref a_span, .ref a_middle, .ref a_reached])), (a_tape, .inr (7, [.ref y_by, .int y4, .int i_lf])), (y_by, .inl (kB, 200, .inl y5))]) [0, 1, 2] (by decide) rfl
        have hK9 := hK.sub (tys' := [(kB, .byte)]) [0] rfl
        refine W.widen (k := 0) (n := 0) (Nat.le_of_ble_eq_true rfl) (Nat.le_of_ble_eq_true rfl) ?_
        exact W.iret (v := (-1000003)) hx hb hr (fun t ht hW => ⟨⟨(-1000003), (), rfl, trivial, y4, y5, by rw [ht]; exact hP9, va_K.moved hW.alike hK9, hD9, hy5, (Or.inl ⟨by omega, by omega, px0_r3⟩)⟩, hS.F ht⟩) hS.2.2 dX9_feed_37
      · have nc6 : r3.toInt ≠ 0 := pw_ne c6 rfl (by decide)
        refine lv_aload_n hx hb dX9_feed_25 rfl (lv_at hl 0 rfl) ?_
        refine va_get (D := D) (ci := 9) (v := .ref a_tape) (C := RX9) (T := TX9) (N := 14) hx hb hts (fun _ h => List.mem_cons_of_mem _ (List.mem_append_left _ (List.mem_append_right _ h))) hown hK hP 0 rfl rfl 0 (by decide) (hts (.fieldLink RX9 10 "LineCites" "tape" "LLineCites$Tape;") (List.mem_of_getElem? (i := 2) rfl)) (fun _ h9 => h9) rfl dX9_feed_26 ?_
        have hPc := hP.sub (ws' := [(a_tape, .inr (7, [.ref y_by, .int y4, .int i_lf]))]) [1] rfl
        have hKc := hK.sub (tys' := []) [] rfl
        refine va_calli (va_runV (As := []) (rest := []) ⟨hx, hb, hml, hown, hts⟩ (c_X7_size l D a_tape y_by y4 i_lf) (cwV 0 hts g_X9_feed_X7_size rfl rfl rfl (by decide +kernel) ⟨Nat.le_of_ble_eq_true rfl, Nat.le_of_ble_eq_true rfl⟩) ⟨fun a U g mk q => by obtain ⟨q0, qP, qK⟩ := q; exact ⟨q0, qP, va_K.moved (u := U) (U := U.calling g mk a) (Vm.Alike.refl U.vm) qK⟩, va_recv hKc hPc (ci := 7) (q0 := 0) rfl rfl, fun U hU hW => ⟨rfl, by rw [hU]; exact hPc, va_K.moved hW.alike hKc⟩⟩ rfl rfl hl.1 rfl (lv_room (Nat.le_of_ble_eq_true rfl)) dX9_feed_29 ⟨Nat.le_of_ble_eq_true rfl, Nat.le_of_ble_eq_true rfl⟩) hS (fun _ _ h => h.elim) (fun _ h => h.elim) (fun r7 u t H1 locs ht hvm hw hB hz1 hk1 hS => ?_)
        have hP := pw_keep hP (fun q hq => hk1 q hq (fun h => h))
        generalize H1 = H at hP hS ⊢
        refine W.widen (k := 0) (n := 0) (Nat.le_of_ble_eq_true rfl) (Nat.le_of_ble_eq_true rfl) ?_
        rw [show r7 = y4 from hw]
        refine lv_goto (tgt := 37) hx hb dX9_feed_32 (by decide) ?_
        have hP9 := hP.sub (ws' := [(h0, .inr (9, [.ref a_tape, .ref a_now, .ref a_draft, .ref a_reader, .ref a_acts, .ref a_images, .ref a_one, .ref a_other, .ref a_third, .ref a_spans, .ref a_back, .ref a_span, .ref a_middle, .ref a_reached])), (a_tape, .inr (7, [.ref y_by, .int y4, .int i_lf])), (y_by, .inl (kB, 200, .inl y5))]) [0, 1, 2] rfl
        have hD9 := hD.sub (ws' := [(h0, .inr (9, [.ref a_tape, .ref a_now, .ref a_draft, .ref a_reader, .ref a_acts, .ref a_images, .ref a_one, .ref a_other, .ref a_third, .ref a_spans, .ref a_back, .ref a_span, .ref a_middle, .ref a_reached])), (a_tape, .inr (7, [.ref y_by, .int y4, .int i_lf])), (y_by, .inl (kB, 200, .inl y5))]) [0, 1, 2] (by decide) rfl
        have hK9 := hK.sub (tys' := [(kB, .byte)]) [0] rfl
        refine W.widen (k := 0) (n := 0) (Nat.le_of_ble_eq_true rfl) (Nat.le_of_ble_eq_true rfl) ?_
        exact W.iret (v := y4) hx hb hr (fun t ht hW => ⟨⟨y4, (), rfl, trivial, y4, y5, by rw [ht]; exact hP9, va_K.moved hW.alike hK9, hD9, hy5, (Or.inl ⟨by omega, by omega, px0_r3⟩)⟩, hS.F ht⟩) hS.2.2 dX9_feed_37
    · have nc2 : 255 < i_0.toInt := pw_nle c2 rfl (by decide)
      refine lv_ldc hx hb hown (hts (.constant RX9 88 (-1000001)) (List.mem_of_getElem? (i := 1) rfl)) dX9_feed_11 ?_
      have hP9 := hP.sub (ws' := [(h0, .inr (9, [.ref a_tape, .ref a_now, .ref a_draft, .ref a_reader, .ref a_acts, .ref a_images, .ref a_one, .ref a_other, .ref a_third, .ref a_spans, .ref a_back, .ref a_span, .ref a_middle, .ref a_reached])), (a_tape, .inr (7, [.ref y_by, .int i_sz, .int i_lf])), (y_by, .inl (kB, 200, .inl g_by))]) [0, 1, 2] rfl
      have hD9 := hD.sub (ws' := [(h0, .inr (9, [.ref a_tape, .ref a_now, .ref a_draft, .ref a_reader, .ref a_acts, .ref a_images, .ref a_one, .ref a_other, .ref a_third, .ref a_spans, .ref a_back, .ref a_span, .ref a_middle, .ref a_reached])), (a_tape, .inr (7, [.ref y_by, .int i_sz, .int i_lf])), (y_by, .inl (kB, 200, .inl g_by))]) [0, 1, 2] (by decide) rfl
      have hK9 := hK.sub (tys' := [(kB, .byte)]) [0] rfl
      refine W.widen (k := 0) (n := 0) (Nat.le_of_ble_eq_true rfl) (Nat.le_of_ble_eq_true rfl) ?_
      exact W.iret (v := (-1000001)) hx hb hr (fun t ht hW => ⟨⟨(-1000001), (), rfl, trivial, i_sz, g_by, by rw [ht]; exact hP9, va_K.moved hW.alike hK9, hD9, hg_by, (Or.inr ⟨by omega, rfl, rfl⟩)⟩, hS.F ht⟩) hS.2.2 dX9_feed_13
