theorem dX8_fromFits_0 : decode cX8_fromFits 0 = .ok (.aload_n 0, 1) := by decide +kernel
theorem dX8_fromFits_1 : decode cX8_fromFits 1 = .ok (.iload_n 3, 1) := by decide +kernel
theorem dX8_fromFits_2 : decode cX8_fromFits 2 = .ok (.invokevirtual 77, 3) := by decide +kernel
theorem dX8_fromFits_5 : decode cX8_fromFits 5 = .ok (.ifCond .eq 18, 3) := by decide +kernel
theorem dX8_fromFits_8 : decode cX8_fromFits 8 = .ok (.aload_n 0, 1) := by decide +kernel
theorem dX8_fromFits_9 : decode cX8_fromFits 9 = .ok (.iload_n 1, 1) := by decide +kernel
theorem dX8_fromFits_10 : decode cX8_fromFits 10 = .ok (.iload_n 2, 1) := by decide +kernel
theorem dX8_fromFits_11 : decode cX8_fromFits 11 = .ok (.iload_n 3, 1) := by decide +kernel
theorem dX8_fromFits_12 : decode cX8_fromFits 12 = .ok (.iconst 1, 1) := by decide +kernel
theorem dX8_fromFits_13 : decode cX8_fromFits 13 = .ok (.invokevirtual 80, 3) := by decide +kernel
theorem dX8_fromFits_16 : decode cX8_fromFits 16 = .ok (.ifCond .eq 7, 3) := by decide +kernel
theorem dX8_fromFits_19 : decode cX8_fromFits 19 = .ok (.iconst 1, 1) := by decide +kernel
theorem dX8_fromFits_20 : decode cX8_fromFits 20 = .ok (.goto 4, 3) := by decide +kernel
theorem dX8_fromFits_23 : decode cX8_fromFits 23 = .ok (.iconst 0, 1) := by decide +kernel
theorem dX8_fromFits_24 : decode cX8_fromFits 24 = .ok (.ireturn, 1) := by decide +kernel
theorem dX8_manyFits_0 : decode cX8_manyFits 0 = .ok (.iload 4, 2) := by decide +kernel
theorem dX8_manyFits_2 : decode cX8_manyFits 2 = .ok (.iconst 1, 1) := by decide +kernel
theorem dX8_manyFits_3 : decode cX8_manyFits 3 = .ok (.if_icmp .lt 30, 3) := by decide +kernel
theorem dX8_manyFits_6 : decode cX8_manyFits 6 = .ok (.iload 4, 2) := by decide +kernel
theorem dX8_manyFits_8 : decode cX8_manyFits 8 = .ok (.aload_n 0, 1) := by decide +kernel
theorem dX8_manyFits_9 : decode cX8_manyFits 9 = .ok (.getfield 33, 3) := by decide +kernel
theorem dX8_manyFits_12 : decode cX8_manyFits 12 = .ok (.iload_n 3, 1) := by decide +kernel
theorem dX8_manyFits_13 : decode cX8_manyFits 13 = .ok (.isub, 1) := by decide +kernel
theorem dX8_manyFits_14 : decode cX8_manyFits 14 = .ok (.if_icmp .gt 19, 3) := by decide +kernel
theorem dX8_manyFits_17 : decode cX8_manyFits 17 = .ok (.aload_n 0, 1) := by decide +kernel
theorem dX8_manyFits_18 : decode cX8_manyFits 18 = .ok (.iload_n 1, 1) := by decide +kernel
theorem dX8_manyFits_19 : decode cX8_manyFits 19 = .ok (.iload_n 2, 1) := by decide +kernel
theorem dX8_manyFits_20 : decode cX8_manyFits 20 = .ok (.iload_n 3, 1) := by decide +kernel
theorem dX8_manyFits_21 : decode cX8_manyFits 21 = .ok (.iload 4, 2) := by decide +kernel
theorem dX8_manyFits_23 : decode cX8_manyFits 23 = .ok (.invokevirtual 80, 3) := by decide +kernel
theorem dX8_manyFits_26 : decode cX8_manyFits 26 = .ok (.ifCond .eq 7, 3) := by decide +kernel
theorem dX8_manyFits_29 : decode cX8_manyFits 29 = .ok (.iconst 1, 1) := by decide +kernel
theorem dX8_manyFits_30 : decode cX8_manyFits 30 = .ok (.goto 4, 3) := by decide +kernel
theorem dX8_manyFits_33 : decode cX8_manyFits 33 = .ok (.iconst 0, 1) := by decide +kernel
theorem dX8_manyFits_34 : decode cX8_manyFits 34 = .ok (.ireturn, 1) := by decide +kernel
theorem dX8_firstFits_0 : decode cX8_firstFits 0 = .ok (.iload_n 3, 1) := by decide +kernel
theorem dX8_firstFits_1 : decode cX8_firstFits 1 = .ok (.invokestatic 83, 3) := by decide +kernel
theorem dX8_firstFits_4 : decode cX8_firstFits 4 = .ok (.ifCond .eq 19, 3) := by decide +kernel
theorem dX8_firstFits_7 : decode cX8_firstFits 7 = .ok (.iload_n 1, 1) := by decide +kernel
theorem dX8_firstFits_8 : decode cX8_firstFits 8 = .ok (.iload_n 2, 1) := by decide +kernel
theorem dX8_firstFits_9 : decode cX8_firstFits 9 = .ok (.iload_n 3, 1) := by decide +kernel
theorem dX8_firstFits_10 : decode cX8_firstFits 10 = .ok (.invokestatic 86, 3) := by decide +kernel
theorem dX8_firstFits_13 : decode cX8_firstFits 13 = .ok (.invokestatic 83, 3) := by decide +kernel
theorem dX8_firstFits_16 : decode cX8_firstFits 16 = .ok (.ifCond .eq 7, 3) := by decide +kernel
theorem dX8_firstFits_19 : decode cX8_firstFits 19 = .ok (.iconst 1, 1) := by decide +kernel
theorem dX8_firstFits_20 : decode cX8_firstFits 20 = .ok (.goto 4, 3) := by decide +kernel
theorem dX8_firstFits_23 : decode cX8_firstFits 23 = .ok (.iconst 0, 1) := by decide +kernel
theorem dX8_firstFits_24 : decode cX8_firstFits 24 = .ok (.ireturn, 1) := by decide +kernel
theorem dX8_stretchFits_0 : decode cX8_stretchFits 0 = .ok (.iload_n 3, 1) := by decide +kernel
theorem dX8_stretchFits_1 : decode cX8_stretchFits 1 = .ok (.iconst 1, 1) := by decide +kernel
theorem dX8_stretchFits_2 : decode cX8_stretchFits 2 = .ok (.if_icmp .lt 48, 3) := by decide +kernel
theorem dX8_stretchFits_5 : decode cX8_stretchFits 5 = .ok (.iload_n 3, 1) := by decide +kernel
theorem dX8_stretchFits_6 : decode cX8_stretchFits 6 = .ok (.iconst 5, 1) := by decide +kernel
theorem dX8_stretchFits_7 : decode cX8_stretchFits 7 = .ok (.if_icmp .gt 43, 3) := by decide +kernel
theorem dX8_stretchFits_10 : decode cX8_stretchFits 10 = .ok (.aload_n 0, 1) := by decide +kernel
theorem dX8_stretchFits_11 : decode cX8_stretchFits 11 = .ok (.iload_n 1, 1) := by decide +kernel
theorem dX8_stretchFits_12 : decode cX8_stretchFits 12 = .ok (.iload_n 2, 1) := by decide +kernel
theorem dX8_stretchFits_13 : decode cX8_stretchFits 13 = .ok (.iload 4, 2) := by decide +kernel
theorem dX8_stretchFits_15 : decode cX8_stretchFits 15 = .ok (.invokevirtual 66, 3) := by decide +kernel
theorem dX8_stretchFits_18 : decode cX8_stretchFits 18 = .ok (.ifCond .eq 32, 3) := by decide +kernel
theorem dX8_stretchFits_21 : decode cX8_stretchFits 21 = .ok (.aload_n 0, 1) := by decide +kernel
theorem dX8_stretchFits_22 : decode cX8_stretchFits 22 = .ok (.iload_n 1, 1) := by decide +kernel
theorem dX8_stretchFits_23 : decode cX8_stretchFits 23 = .ok (.iload_n 2, 1) := by decide +kernel
theorem dX8_stretchFits_24 : decode cX8_stretchFits 24 = .ok (.iload 4, 2) := by decide +kernel
theorem dX8_stretchFits_26 : decode cX8_stretchFits 26 = .ok (.iload 5, 2) := by decide +kernel
theorem dX8_stretchFits_28 : decode cX8_stretchFits 28 = .ok (.invokevirtual 70, 3) := by decide +kernel
theorem dX8_stretchFits_31 : decode cX8_stretchFits 31 = .ok (.ifCond .eq 19, 3) := by decide +kernel
theorem dX8_stretchFits_34 : decode cX8_stretchFits 34 = .ok (.aload_n 0, 1) := by decide +kernel
theorem dX8_stretchFits_35 : decode cX8_stretchFits 35 = .ok (.iload_n 3, 1) := by decide +kernel
theorem dX8_stretchFits_36 : decode cX8_stretchFits 36 = .ok (.iload 5, 2) := by decide +kernel
theorem dX8_stretchFits_38 : decode cX8_stretchFits 38 = .ok (.iload 6, 2) := by decide +kernel
theorem dX8_stretchFits_40 : decode cX8_stretchFits 40 = .ok (.invokevirtual 74, 3) := by decide +kernel
theorem dX8_stretchFits_43 : decode cX8_stretchFits 43 = .ok (.ifCond .eq 7, 3) := by decide +kernel
theorem dX8_stretchFits_46 : decode cX8_stretchFits 46 = .ok (.iconst 1, 1) := by decide +kernel
theorem dX8_stretchFits_47 : decode cX8_stretchFits 47 = .ok (.goto 4, 3) := by decide +kernel
theorem dX8_stretchFits_50 : decode cX8_stretchFits 50 = .ok (.iconst 0, 1) := by decide +kernel
theorem dX8_stretchFits_51 : decode cX8_stretchFits 51 = .ok (.ireturn, 1) := by decide +kernel
def w_X8_hasLine__b : List Cond := .code yX8_hasLine cX8_hasLine 2 (some .boolean) :: ([.fieldLink RX8 33 "LineCites$Work" "lines" "I"] ++ wsX80)
set_option maxHeartbeats 4000000 in
set_option maxRecDepth 100000 in
theorem c_X8_hasLine__b (l : Launch) (D : va_G) (h0 : Nat) (i_n : Int32) (b_sc : Nat) (b_sp : Nat) (b_cp : Nat) (b_sn : Nat) (b_sl : Nat) (i_li : Int32) (i_ed : Int32) (i_se : Int32) (h0i_li : 0 ≤ i_li.toInt) (h1i_li : i_li.toInt ≤ 200) : Met l yX8_hasLine w_X8_hasLine__b ({ frames := 0, cells := 0, slots := 0, locals := 0 }) (va_Pc [.ref h0, .int i_n] (fun U => va_P D vwCl [(h0, .inr (8, [.ref b_sc, .ref b_sp, .ref b_cp, .ref b_sn, .ref b_sl, .int i_li, .int i_ed, .int i_se]))] U.heap ∧ va_K D vwCl [] U)) (va_Qi (fun (r : Int32) (_ : Unit) => (r = 0 ∨ r = 1) ∧ (r.toInt = 0 ∨ (0 ≤ i_n.toInt ∧ i_n.toInt < i_li.toInt))) (fun _ _ => True) (fun _ => False)) 0 0 (fun _ => False) := by
  refine Met.ofW (cc := cX8_hasLine) (maxL := 2) (ret := (some .boolean)) (by decide) rfl ?_
  intro p e s m args below meth c s₁ B hml hv
  obtain ⟨rfl, hP, hK⟩ := hv
  have hx := B.exec
  have hb := B.bytes
  have hr := B.returns
  have hts := atoms_spec (ws := w_X8_hasLine__b) B.pre
  have hown : s.vm.findClass RX8 = some m.cls := findClass_of_methodNamed B.named
  have hlocks := B.notSynchronized
  have hS : va_S (fun _ : Nat => False) s.heap s.heap [] := va_S.rf
  have hP : va_P D vwCl [(h0, .inr (8, [.ref b_sc, .ref b_sp, .ref b_cp, .ref b_sn, .ref b_sl, .int i_li, .int i_ed, .int i_se]))] s.heap := hP
  have hl := lv_entry ([.ref h0, .int i_n]) (n := 2) (Nat.le_of_ble_eq_true rfl)
  rw [lg_entry_eq]
  generalize (lg_sl ([.ref h0, .int i_n]) ++ List.replicate (2 - (lg_sl ([.ref h0, .int i_n])).length) Slot.unset).toArray = ls at hl ⊢
  have hl : lv_has ls 2 [(0, .ref h0), (1, .int i_n)] := hl
  obtain ⟨H, hHe⟩ : ∃ H : Heap, H = s.heap := ⟨_, rfl⟩
  rw [← hHe] at hP
  have hS : va_S (fun _ : Nat => False) s.heap H [] := by rw [hHe]; exact hS
  refine pw_heap hHe ?_
  refine lv_iload_n hx hb dX8_hasLine_0 rfl (lv_at hl 1 rfl) ?_
  refine lv_if_lt (tgt := 16) hx hb dX8_hasLine_1 (by decide) (fun c1 => ?_) (fun c1 => ?_)
  · have nc1 : i_n.toInt < 0 := pw_lt c1 rfl (by decide)
    refine lv_iconst (v := 0) hx hb dX8_hasLine_16 (by decide) ?_
    exact W.zret (v := 0) (ty := .boolean) hx hb hr rfl (fun t ht hW => ⟨⟨0, (), rfl, ⟨Or.inl rfl, (by have hv : (0 : Int32).toInt = 0 := (by decide); omega)⟩, trivial⟩, hS.F ht⟩) hS.2.2 dX8_hasLine_17
  · have nc1 : 0 ≤ i_n.toInt := pw_nlt c1 rfl (by decide)
    refine lv_iload_n hx hb dX8_hasLine_4 rfl (lv_at hl 1 rfl) ?_
    refine lv_aload_n hx hb dX8_hasLine_5 rfl (lv_at hl 0 rfl) ?_
    refine va_get (D := D) (ci := 8) (v := .int i_li) (C := RX8) (T := TX8) (N := 8) hx hb hts (fun _ h => List.mem_cons_of_mem _ (List.mem_append_right _ h)) hown hK hP 0 rfl rfl 5 (by decide) (hts (.fieldLink RX8 33 "LineCites$Work" "lines" "I") (List.mem_of_getElem? (i := 1) rfl)) (fun _ h9 => h9) rfl dX8_hasLine_6 ?_
    refine lv_icmp_ge (tgt := 16) hx hb dX8_hasLine_9 (by decide) (fun c2 => ?_) (fun c2 => ?_)
    · have nc2 : i_li.toInt ≤ i_n.toInt := pw_le c2 rfl rfl
      have mc2i_n := pw_max i_n
      have mc2i_li := pw_max i_li
      refine lv_iconst (v := 0) hx hb dX8_hasLine_16 (by decide) ?_
      exact W.zret (v := 0) (ty := .boolean) hx hb hr rfl (fun t ht hW => ⟨⟨0, (), rfl, ⟨Or.inl rfl, (by have hv : (0 : Int32).toInt = 0 := (by decide); omega)⟩, trivial⟩, hS.F ht⟩) hS.2.2 dX8_hasLine_17
    · have nc2 : i_n.toInt < i_li.toInt := pw_nle c2 rfl rfl
      have mc2i_n := pw_max i_n
      have mc2i_li := pw_max i_li
      refine lv_iconst (v := 1) hx hb dX8_hasLine_12 (by decide) ?_
      refine lv_goto (tgt := 17) hx hb dX8_hasLine_13 (by decide) ?_
      exact W.zret (v := 1) (ty := .boolean) hx hb hr rfl (fun t ht hW => ⟨⟨1, (), rfl, ⟨Or.inr rfl, (by have hv : (1 : Int32).toInt = 1 := (by decide); omega)⟩, trivial⟩, hS.F ht⟩) hS.2.2 dX8_hasLine_17
def w_X8_fromFits : List Cond := .code yX8_fromFits cX8_fromFits 4 (some .boolean) :: ([.methodLink RX8 77 yX8_hasLine, .instanceMethod yX8_hasLine, .selects RX8 yX8_hasLine yX8_hasLine, .initialized RX8, .code yX8_hasLine cX8_hasLine 2 (some .boolean), .fieldLink RX8 33 "LineCites$Work" "lines" "I", .methodLink RX8 80 yX8_isFree, .instanceMethod yX8_isFree, .selects RX8 yX8_isFree yX8_isFree, .code yX8_isFree cX8_isFree 8 (some .boolean), .methodLink RX8 47 yX8_stretchesOf, .instanceMethod yX8_stretchesOf, .selects RX8 yX8_stretchesOf yX8_stretchesOf, .code yX8_stretchesOf cX8_stretchesOf 2 (some .int), .methodLink RX8 43 yX8_hasEdition, .instanceMethod yX8_hasEdition, .selects RX8 yX8_hasEdition yX8_hasEdition, .code yX8_hasEdition cX8_hasEdition 2 (some .boolean), .fieldLink RX8 37 "LineCites$Work" "editions" "I", .fieldLink RX8 9 "LineCites$Work" "stretchCounts" "[I", .methodLink RX8 63 yX8_part, .instanceMethod yX8_part, .selects RX8 yX8_part yX8_part, .code yX8_part cX8_part 5 (some .int), .methodLink RX8 51 yX8_placeOf, .static yX8_placeOf, .code yX8_placeOf cX8_placeOf 3 (some .int), .fieldLink RX8 15 "LineCites$Work" "stretchParts" "[I"] ++ wsX80)
set_option maxRecDepth 20000 in
theorem g_X8_fromFits_X8_hasLine__b : GoodIn w_X8_fromFits (wsV RX8 77 RX8 yX8_hasLine w_X8_hasLine__b) := goodIn_r _ [1, 2, 3, 4, 5, 6, 29, 30, 31, 32, 33, 34, 35, 36] rfl (by decide +kernel)
set_option maxRecDepth 20000 in
theorem g_X8_fromFits_X8_isFree : GoodIn w_X8_fromFits (wsV RX8 80 RX8 yX8_isFree w_X8_isFree) := goodIn_r _ [7, 8, 9, 4, 10, 11, 12, 13, 4, 14, 15, 16, 17, 18, 19, 20, 21, 22, 23, 24, 25, 26, 27, 28, 29, 30, 31, 32, 33, 34, 35, 36] rfl (by decide +kernel)
set_option maxHeartbeats 4000000 in
set_option maxRecDepth 100000 in
theorem c_X8_fromFits (l : Launch) (D : va_G) (h0 : Nat) (i_e : Int32) (i_s : Int32) (i_fr : Int32) (b_sc : Nat) (b_sp : Nat) (b_cp : Nat) (b_sn : Nat) (b_sl : Nat) (i_li : Int32) (i_ed : Int32) (i_se : Int32) (kI : ClassId) (g_b_sc : Nat → Int32) (g_b_sp : Nat → Int32) (h0i_li : 0 ≤ i_li.toInt) (h1i_li : i_li.toInt ≤ 200) (hg_b_sp : bP g_b_sp) : Met l yX8_fromFits w_X8_fromFits ({ frames := 3, cells := 0, slots := 0, locals := 73 }) (va_Pc [.ref h0, .int i_e, .int i_s, .int i_fr] (fun U => va_P D vwCl [(h0, .inr (8, [.ref b_sc, .ref b_sp, .ref b_cp, .ref b_sn, .ref b_sl, .int i_li, .int i_ed, .int i_se])), (b_sc, .inl (kI, 5, .inl g_b_sc)), (b_sp, .inl (kI, 120, .inl g_b_sp))] U.heap ∧ va_K D vwCl [(kI, .int)] U)) (va_Qi (fun (r : Int32) (_ : Unit) => (r = 0 ∨ r = 1) ∧ (r.toInt = 0 ∨ (0 ≤ i_fr.toInt ∧ i_fr.toInt < i_li.toInt))) (fun _ _ => True) (fun _ => False)) 0 0 (fun _ => False) := by
  refine Met.ofW (cc := cX8_fromFits) (maxL := 4) (ret := (some .boolean)) (by decide) rfl ?_
  intro p e s m args below meth c s₁ B hml hv
  obtain ⟨rfl, hP, hK⟩ := hv
  have hx := B.exec
  have hb := B.bytes
  have hr := B.returns
  have hts := atoms_spec (ws := w_X8_fromFits) B.pre
  have hown : s.vm.findClass RX8 = some m.cls := findClass_of_methodNamed B.named
  have hlocks := B.notSynchronized
  have hS : va_S (fun _ : Nat => False) s.heap s.heap [] := va_S.rf
  have hP : va_P D vwCl [(h0, .inr (8, [.ref b_sc, .ref b_sp, .ref b_cp, .ref b_sn, .ref b_sl, .int i_li, .int i_ed, .int i_se])), (b_sc, .inl (kI, 5, .inl g_b_sc)), (b_sp, .inl (kI, 120, .inl g_b_sp))] s.heap := hP
  have hl := lv_entry ([.ref h0, .int i_e, .int i_s, .int i_fr]) (n := 4) (Nat.le_of_ble_eq_true rfl)
  rw [lg_entry_eq]
  generalize (lg_sl ([.ref h0, .int i_e, .int i_s, .int i_fr]) ++ List.replicate (4 - (lg_sl ([.ref h0, .int i_e, .int i_s, .int i_fr])).length) Slot.unset).toArray = ls at hl ⊢
  have hl : lv_has ls 4 [(0, .ref h0), (1, .int i_e), (2, .int i_s), (3, .int i_fr)] := hl
  obtain ⟨H, hHe⟩ : ∃ H : Heap, H = s.heap := ⟨_, rfl⟩
  rw [← hHe] at hP
  have hS : va_S (fun _ : Nat => False) s.heap H [] := by rw [hHe]; exact hS
  refine pw_heap hHe ?_
  refine lv_aload_n hx hb dX8_fromFits_0 rfl (lv_at hl 0 rfl) ?_
  refine lv_iload_n hx hb dX8_fromFits_1 rfl (lv_at hl 3 rfl) ?_
  have hPc := hP.sub (ws' := [(h0, .inr (8, [.ref b_sc, .ref b_sp, .ref b_cp, .ref b_sn, .ref b_sl, .int i_li, .int i_ed, .int i_se]))]) [0] rfl
  have hKc := hK.sub (tys' := []) [] rfl
  refine va_calli (va_runV (As := [.int i_fr]) (rest := []) ⟨hx, hb, hml, hown, hts⟩ (c_X8_hasLine__b l D h0 i_fr b_sc b_sp b_cp b_sn b_sl i_li i_ed i_se (by first | decide | omega) (by first | decide | omega)) (cwV 1 hts g_X8_fromFits_X8_hasLine__b rfl rfl rfl (by decide +kernel) ⟨Nat.le_of_ble_eq_true rfl, Nat.le_of_ble_eq_true rfl⟩) ⟨fun a U g mk q => by obtain ⟨q0, qP, qK⟩ := q; exact ⟨q0, qP, va_K.moved (u := U) (U := U.calling g mk a) (Vm.Alike.refl U.vm) qK⟩, va_recv hKc hPc (ci := 8) (q0 := 0) rfl rfl, fun U hU hW => ⟨rfl, by rw [hU]; exact hPc, va_K.moved hW.alike hKc⟩⟩ rfl rfl hl.1 rfl (lv_room (Nat.le_of_ble_eq_true rfl)) dX8_fromFits_2 ⟨Nat.le_of_ble_eq_true rfl, Nat.le_of_ble_eq_true rfl⟩) hS (fun _ _ h => h.elim) (fun _ h => h.elim) (fun r1 u t H1 locs ht hvm hw hB hz1 hk1 hS => ?_)
  have hP := pw_keep hP (fun q hq => hk1 q hq (fun h => h))
  generalize H1 = H at hP hS ⊢
  refine W.widen (k := 0) (n := 0) (Nat.le_of_ble_eq_true rfl) (Nat.le_of_ble_eq_true rfl) ?_
  have bor1 := hw.1
  have zor1 := pw_boolI bor1
  have hfr1 := hw.2
  refine lv_if_eq (tgt := 23) hx hb dX8_fromFits_5 (by decide) (fun c2 => ?_) (fun c2 => ?_)
  · have nc2 : r1.toInt = 0 := pw_eq c2 rfl (by decide)
    refine lv_iconst (v := 0) hx hb dX8_fromFits_23 (by decide) ?_
    exact W.zret (v := 0) (ty := .boolean) hx hb hr rfl (fun t ht hW => ⟨⟨0, (), rfl, ⟨Or.inl rfl, (by have hv : (0 : Int32).toInt = 0 := (by decide); omega)⟩, trivial⟩, hS.F ht⟩) hS.2.2 dX8_fromFits_24
  · have nc2 : r1.toInt ≠ 0 := pw_ne c2 rfl (by decide)
    refine lv_aload_n hx hb dX8_fromFits_8 rfl (lv_at hl 0 rfl) ?_
    refine lv_iload_n hx hb dX8_fromFits_9 rfl (lv_at hl 1 rfl) ?_
    refine lv_iload_n hx hb dX8_fromFits_10 rfl (lv_at hl 2 rfl) ?_
    refine lv_iload_n hx hb dX8_fromFits_11 rfl (lv_at hl 3 rfl) ?_
    refine lv_iconst (v := 1) hx hb dX8_fromFits_12 (by decide) ?_
    have hPc := hP.sub (ws' := [(h0, .inr (8, [.ref b_sc, .ref b_sp, .ref b_cp, .ref b_sn, .ref b_sl, .int i_li, .int i_ed, .int i_se])), (b_sc, .inl (kI, 5, .inl g_b_sc)), (b_sp, .inl (kI, 120, .inl g_b_sp))]) [0, 1, 2] rfl
    have hKc := hK.sub (tys' := [(kI, .int)]) [0] rfl
    refine va_calli (va_runV (As := [.int i_e, .int i_s, .int i_fr, .int 1]) (rest := []) ⟨hx, hb, hml, hown, hts⟩ (c_X8_isFree l D h0 i_e i_s i_fr 1 b_sc b_sp b_cp b_sn b_sl i_li i_ed i_se kI g_b_sc g_b_sp hg_b_sp) (cwV 4 hts g_X8_fromFits_X8_isFree rfl rfl rfl (by decide +kernel) ⟨Nat.le_of_ble_eq_true rfl, Nat.le_of_ble_eq_true rfl⟩) ⟨fun a U g mk q => by obtain ⟨q0, qP, qK⟩ := q; exact ⟨q0, qP, va_K.moved (u := U) (U := U.calling g mk a) (Vm.Alike.refl U.vm) qK⟩, va_recv hKc hPc (ci := 8) (q0 := 0) rfl rfl, fun U hU hW => ⟨rfl, by rw [hU]; exact hPc, va_K.moved hW.alike hKc⟩⟩ rfl rfl hl.1 rfl (lv_room (Nat.le_of_ble_eq_true rfl)) dX8_fromFits_13 ⟨Nat.le_of_ble_eq_true rfl, Nat.le_of_ble_eq_true rfl⟩) hS (fun _ _ h => h.elim) (fun _ h => h.elim) (fun r3 u t H1 locs ht hvm hw hB hz1 hk1 hS => ?_)
    have hP := pw_keep hP (fun q hq => hk1 q hq (fun h => h))
    generalize H1 = H at hP hS ⊢
    refine W.widen (k := 0) (n := 0) (Nat.le_of_ble_eq_true rfl) (Nat.le_of_ble_eq_true rfl) ?_
    have bor3 := hw.1
    have zor3 := pw_boolI bor3
    refine lv_if_eq (tgt := 23) hx hb dX8_fromFits_16 (by decide) (fun c4 => ?_) (fun c4 => ?_)
    · have nc4 : r3.toInt = 0 := pw_eq c4 rfl (by decide)
      refine lv_iconst (v := 0) hx hb dX8_fromFits_23 (by decide) ?_
      exact W.zret (v := 0) (ty := .boolean) hx hb hr rfl (fun t ht hW => ⟨⟨0, (), rfl, ⟨Or.inl rfl, (by have hv : (0 : Int32).toInt = 0 := (by decide); omega)⟩, trivial⟩, hS.F ht⟩) hS.2.2 dX8_fromFits_24
    · have nc4 : r3.toInt ≠ 0 := pw_ne c4 rfl (by decide)
      refine lv_iconst (v := 1) hx hb dX8_fromFits_19 (by decide) ?_
      refine lv_goto (tgt := 24) hx hb dX8_fromFits_20 (by decide) ?_
      exact W.zret (v := 1) (ty := .boolean) hx hb hr rfl (fun t ht hW => ⟨⟨1, (), rfl, ⟨Or.inr rfl, (by have hv : (1 : Int32).toInt = 1 := (by decide); omega)⟩, trivial⟩, hS.F ht⟩) hS.2.2 dX8_fromFits_24
def w_X8_manyFits : List Cond := .code yX8_manyFits cX8_manyFits 5 (some .boolean) :: ([.fieldLink RX8 33 "LineCites$Work" "lines" "I", .methodLink RX8 80 yX8_isFree, .instanceMethod yX8_isFree, .selects RX8 yX8_isFree yX8_isFree, .initialized RX8, .code yX8_isFree cX8_isFree 8 (some .boolean), .methodLink RX8 47 yX8_stretchesOf, .instanceMethod yX8_stretchesOf, .selects RX8 yX8_stretchesOf yX8_stretchesOf, .code yX8_stretchesOf cX8_stretchesOf 2 (some .int), .methodLink RX8 43 yX8_hasEdition, .instanceMethod yX8_hasEdition, .selects RX8 yX8_hasEdition yX8_hasEdition, .code yX8_hasEdition cX8_hasEdition 2 (some .boolean), .fieldLink RX8 37 "LineCites$Work" "editions" "I", .fieldLink RX8 9 "LineCites$Work" "stretchCounts" "[I", .methodLink RX8 63 yX8_part, .instanceMethod yX8_part, .selects RX8 yX8_part yX8_part, .code yX8_part cX8_part 5 (some .int), .methodLink RX8 51 yX8_placeOf, .static yX8_placeOf, .code yX8_placeOf cX8_placeOf 3 (some .int), .fieldLink RX8 15 "LineCites$Work" "stretchParts" "[I"] ++ wsX80)
set_option maxRecDepth 20000 in
theorem g_X8_manyFits_X8_isFree : GoodIn w_X8_manyFits (wsV RX8 80 RX8 yX8_isFree w_X8_isFree) := goodIn_r _ [2, 3, 4, 5, 6, 7, 8, 9, 5, 10, 11, 12, 13, 14, 15, 16, 17, 18, 19, 20, 21, 22, 23, 24, 25, 26, 27, 28, 29, 30, 31, 32] rfl (by decide +kernel)
set_option maxHeartbeats 4000000 in
set_option maxRecDepth 100000 in
theorem c_X8_manyFits (l : Launch) (D : va_G) (h0 : Nat) (i_e : Int32) (i_s : Int32) (i_fr : Int32) (i_m : Int32) (b_sc : Nat) (b_sp : Nat) (b_cp : Nat) (b_sn : Nat) (b_sl : Nat) (i_li : Int32) (i_ed : Int32) (i_se : Int32) (kI : ClassId) (g_b_sc : Nat → Int32) (g_b_sp : Nat → Int32) (h0i_li : 0 ≤ i_li.toInt) (h1i_li : i_li.toInt ≤ 200) (h0i_fr : 0 ≤ i_fr.toInt) (h1i_fr : i_fr.toInt ≤ 199) (hg_b_sp : bP g_b_sp) : Met l yX8_manyFits w_X8_manyFits ({ frames := 3, cells := 0, slots := 0, locals := 73 }) (va_Pc [.ref h0, .int i_e, .int i_s, .int i_fr, .int i_m] (fun U => va_P D vwCl [(h0, .inr (8, [.ref b_sc, .ref b_sp, .ref b_cp, .ref b_sn, .ref b_sl, .int i_li, .int i_ed, .int i_se])), (b_sc, .inl (kI, 5, .inl g_b_sc)), (b_sp, .inl (kI, 120, .inl g_b_sp))] U.heap ∧ va_K D vwCl [(kI, .int)] U)) (va_Qi (fun (r : Int32) (_ : Unit) => (r = 0 ∨ r = 1) ∧ (r.toInt = 0 ∨ (1 ≤ i_m.toInt ∧ i_m.toInt ≤ i_li.toInt - i_fr.toInt))) (fun _ _ => True) (fun _ => False)) 0 0 (fun _ => False) := by
  refine Met.ofW (cc := cX8_manyFits) (maxL := 5) (ret := (some .boolean)) (by decide) rfl ?_
  intro p e s m args below meth c s₁ B hml hv
  obtain ⟨rfl, hP, hK⟩ := hv
  have hx := B.exec
  have hb := B.bytes
  have hr := B.returns
  have hts := atoms_spec (ws := w_X8_manyFits) B.pre
  have hown : s.vm.findClass RX8 = some m.cls := findClass_of_methodNamed B.named
  have hlocks := B.notSynchronized
  have hS : va_S (fun _ : Nat => False) s.heap s.heap [] := va_S.rf
  have hP : va_P D vwCl [(h0, .inr (8, [.ref b_sc, .ref b_sp, .ref b_cp, .ref b_sn, .ref b_sl, .int i_li, .int i_ed, .int i_se])), (b_sc, .inl (kI, 5, .inl g_b_sc)), (b_sp, .inl (kI, 120, .inl g_b_sp))] s.heap := hP
  have hl := lv_entry ([.ref h0, .int i_e, .int i_s, .int i_fr, .int i_m]) (n := 5) (Nat.le_of_ble_eq_true rfl)
  rw [lg_entry_eq]
  generalize (lg_sl ([.ref h0, .int i_e, .int i_s, .int i_fr, .int i_m]) ++ List.replicate (5 - (lg_sl ([.ref h0, .int i_e, .int i_s, .int i_fr, .int i_m])).length) Slot.unset).toArray = ls at hl ⊢
  have hl : lv_has ls 5 [(0, .ref h0), (1, .int i_e), (2, .int i_s), (3, .int i_fr), (4, .int i_m)] := hl
  obtain ⟨H, hHe⟩ : ∃ H : Heap, H = s.heap := ⟨_, rfl⟩
  rw [← hHe] at hP
  have hS : va_S (fun _ : Nat => False) s.heap H [] := by rw [hHe]; exact hS
  refine pw_heap hHe ?_
  refine lv_iload hx hb dX8_manyFits_0 (lv_at hl 4 rfl) ?_
  refine lv_iconst (v := 1) hx hb dX8_manyFits_2 (by decide) ?_
  refine lv_icmp_lt (tgt := 33) hx hb dX8_manyFits_3 (by decide) (fun c1 => ?_) (fun c1 => ?_)
  · have nc1 : i_m.toInt < 1 := pw_lt c1 rfl (by decide)
    refine lv_iconst (v := 0) hx hb dX8_manyFits_33 (by decide) ?_
    exact W.zret (v := 0) (ty := .boolean) hx hb hr rfl (fun t ht hW => ⟨⟨0, (), rfl, ⟨Or.inl rfl, (by have hv : (0 : Int32).toInt = 0 := (by decide); omega)⟩, trivial⟩, hS.F ht⟩) hS.2.2 dX8_manyFits_34
  · have nc1 : 1 ≤ i_m.toInt := pw_nlt c1 rfl (by decide)
    refine lv_iload hx hb dX8_manyFits_6 (lv_at hl 4 rfl) ?_
    refine lv_aload_n hx hb dX8_manyFits_8 rfl (lv_at hl 0 rfl) ?_
    refine va_get (D := D) (ci := 8) (v := .int i_li) (C := RX8) (T := TX8) (N := 8) hx hb hts (fun _ h => List.mem_cons_of_mem _ (List.mem_append_right _ h)) hown hK hP 0 rfl rfl 5 (by decide) (hts (.fieldLink RX8 33 "LineCites$Work" "lines" "I") (List.mem_of_getElem? (i := 1) rfl)) (fun _ h9 => h9) rfl dX8_manyFits_9 ?_
    refine lv_iload_n hx hb dX8_manyFits_12 rfl (lv_at hl 3 rfl) ?_
    refine lv_isub hx hb dX8_manyFits_13 ?_
    refine lv_topi (fun x2 ex2 => ?_)
    have tx2 : x2.toInt = i_li.toInt - i_fr.toInt := pw_subX ex2 rfl rfl (by omega) (by omega)
    refine lv_icmp_gt (tgt := 33) hx hb dX8_manyFits_14 (by decide) (fun c3 => ?_) (fun c3 => ?_)
    · have nc3 : x2.toInt < i_m.toInt := pw_lt c3 rfl rfl
      have mc3i_m := pw_max i_m
      have mc3x2 := pw_max x2
      refine lv_iconst (v := 0) hx hb dX8_manyFits_33 (by decide) ?_
      exact W.zret (v := 0) (ty := .boolean) hx hb hr rfl (fun t ht hW => ⟨⟨0, (), rfl, ⟨Or.inl rfl, (by have hv : (0 : Int32).toInt = 0 := (by decide); omega)⟩, trivial⟩, hS.F ht⟩) hS.2.2 dX8_manyFits_34
    · have nc3 : i_m.toInt ≤ x2.toInt := pw_nlt c3 rfl rfl
      have mc3i_m := pw_max i_m
      have mc3x2 := pw_max x2
      refine lv_aload_n hx hb dX8_manyFits_17 rfl (lv_at hl 0 rfl) ?_
      refine lv_iload_n hx hb dX8_manyFits_18 rfl (lv_at hl 1 rfl) ?_
      refine lv_iload_n hx hb dX8_manyFits_19 rfl (lv_at hl 2 rfl) ?_
      refine lv_iload_n hx hb dX8_manyFits_20 rfl (lv_at hl 3 rfl) ?_
      refine lv_iload hx hb dX8_manyFits_21 (lv_at hl 4 rfl) ?_
      have hPc := hP.sub (ws' := [(h0, .inr (8, [.ref b_sc, .ref b_sp, .ref b_cp, .ref b_sn, .ref b_sl, .int i_li, .int i_ed, .int i_se])), (b_sc, .inl (kI, 5, .inl g_b_sc)), (b_sp, .inl (kI, 120, .inl g_b_sp))]) [0, 1, 2] rfl
      have hKc := hK.sub (tys' := [(kI, .int)]) [0] rfl
      refine va_calli (va_runV (As := [.int i_e, .int i_s, .int i_fr, .int i_m]) (rest := []) ⟨hx, hb, hml, hown, hts⟩ (c_X8_isFree l D h0 i_e i_s i_fr i_m b_sc b_sp b_cp b_sn b_sl i_li i_ed i_se kI g_b_sc g_b_sp hg_b_sp) (cwV 4 hts g_X8_manyFits_X8_isFree rfl rfl rfl (by decide +kernel) ⟨Nat.le_of_ble_eq_true rfl, Nat.le_of_ble_eq_true rfl⟩) ⟨fun a U g mk q => by obtain ⟨q0, qP, qK⟩ := q; exact ⟨q0, qP, va_K.moved (u := U) (U := U.calling g mk a) (Vm.Alike.refl U.vm) qK⟩, va_recv hKc hPc (ci := 8) (q0 := 0) rfl rfl, fun U hU hW => ⟨rfl, by rw [hU]; exact hPc, va_K.moved hW.alike hKc⟩⟩ rfl rfl hl.1 rfl (lv_room (Nat.le_of_ble_eq_true rfl)) dX8_manyFits_23 ⟨Nat.le_of_ble_eq_true rfl, Nat.le_of_ble_eq_true rfl⟩) hS (fun _ _ h => h.elim) (fun _ h => h.elim) (fun r4 u t H1 locs ht hvm hw hB hz1 hk1 hS => ?_)
      have hP := pw_keep hP (fun q hq => hk1 q hq (fun h => h))
      generalize H1 = H at hP hS ⊢
      refine W.widen (k := 0) (n := 0) (Nat.le_of_ble_eq_true rfl) (Nat.le_of_ble_eq_true rfl) ?_
      have bor4 := hw.1
      have zor4 := pw_boolI bor4
      refine lv_if_eq (tgt := 33) hx hb dX8_manyFits_26 (by decide) (fun c5 => ?_) (fun c5 => ?_)
      · have nc5 : r4.toInt = 0 := pw_eq c5 rfl (by decide)
        refine lv_iconst (v := 0) hx hb dX8_manyFits_33 (by decide) ?_
        exact W.zret (v := 0) (ty := .boolean) hx hb hr rfl (fun t ht hW => ⟨⟨0, (), rfl, ⟨Or.inl rfl, (by have hv : (0 : Int32).toInt = 0 := (by decide); omega)⟩, trivial⟩, hS.F ht⟩) hS.2.2 dX8_manyFits_34
      · have nc5 : r4.toInt ≠ 0 := pw_ne c5 rfl (by decide)
        refine lv_iconst (v := 1) hx hb dX8_manyFits_29 (by decide) ?_
        refine lv_goto (tgt := 34) hx hb dX8_manyFits_30 (by decide) ?_
        exact W.zret (v := 1) (ty := .boolean) hx hb hr rfl (fun t ht hW => ⟨⟨1, (), rfl, ⟨Or.inr rfl, (by have hv : (1 : Int32).toInt = 1 := (by decide); omega)⟩, trivial⟩, hS.F ht⟩) hS.2.2 dX8_manyFits_34
def w_X8_firstFits : List Cond := .code yX8_firstFits cX8_firstFits 4 (some .boolean) :: ([.initialized RX9, .static yX9_isNumber, .code yX9_isNumber cX9_isNumber 1 (some .boolean), .static yX9_greatestOf, .code yX9_greatestOf cX9_greatestOf 3 (some .int), .methodLink RX9 347 yX9_highOf, .static yX9_highOf, .code yX9_highOf cX9_highOf 5 (some .int), .methodLink RX9 343 yX9_lowOf, .static yX9_lowOf, .code yX9_lowOf cX9_lowOf 4 (some .int)])
set_option maxRecDepth 20000 in
theorem g_X8_firstFits_X9_isNumber : GoodIn w_X8_firstFits w_X9_isNumber := goodIn_r _ [3] rfl (by decide +kernel)
set_option maxRecDepth 20000 in
theorem g_X8_firstFits_X9_greatestOf : GoodIn w_X8_firstFits w_X9_greatestOf := goodIn_r _ [5, 6, 7, 1, 8, 9, 10, 11] rfl (by decide +kernel)
set_option maxHeartbeats 4000000 in
set_option maxRecDepth 100000 in
theorem c_X8_firstFits (l : Launch) (D : va_G) (h0 : Nat) (i_k : Int32) (i_m : Int32) (i_f : Int32) (b_sc : Nat) (b_sp : Nat) (b_cp : Nat) (b_sn : Nat) (b_sl : Nat) (i_li : Int32) (i_ed : Int32) (i_se : Int32) : Met l yX8_firstFits w_X8_firstFits ({ frames := 3, cells := 0, slots := 0, locals := 69 }) (va_Pc [.ref h0, .int i_k, .int i_m, .int i_f] (fun U => va_P D vwCl [(h0, .inr (8, [.ref b_sc, .ref b_sp, .ref b_cp, .ref b_sn, .ref b_sl, .int i_li, .int i_ed, .int i_se]))] U.heap ∧ va_K D vwCl [] U ∧ va_Nw (.methodLinkNest RX8 83 yX9_isNumber "LineCites") U ∧ va_Nw (.methodLinkNest RX8 86 yX9_greatestOf "LineCites") U)) (va_Qi (fun (r : Int32) (_ : Unit) => (r = 0 ∨ r = 1) ∧ (r.toInt = 0 ∨ (1 ≤ i_f.toInt ∧ i_f.toInt ≤ 999))) (fun _ _ => True) (fun _ => False)) 0 0 (fun _ => False) := by
  refine Met.ofW (cc := cX8_firstFits) (maxL := 4) (ret := (some .boolean)) (by decide) rfl ?_
  intro p e s m args below meth c s₁ B hml hv
  obtain ⟨rfl, hP, hK, hN8_83, hN8_86⟩ := hv
  have hx := B.exec
  have hb := B.bytes
  have hr := B.returns
  have hts := atoms_spec (ws := w_X8_firstFits) B.pre
  have hown : s.vm.findClass RX8 = some m.cls := findClass_of_methodNamed B.named
  have hlocks := B.notSynchronized
  have hS : va_S (fun _ : Nat => False) s.heap s.heap [] := va_S.rf
  have hP : va_P D vwCl [(h0, .inr (8, [.ref b_sc, .ref b_sp, .ref b_cp, .ref b_sn, .ref b_sl, .int i_li, .int i_ed, .int i_se]))] s.heap := hP
  have hl := lv_entry ([.ref h0, .int i_k, .int i_m, .int i_f]) (n := 4) (Nat.le_of_ble_eq_true rfl)
  rw [lg_entry_eq]
  generalize (lg_sl ([.ref h0, .int i_k, .int i_m, .int i_f]) ++ List.replicate (4 - (lg_sl ([.ref h0, .int i_k, .int i_m, .int i_f])).length) Slot.unset).toArray = ls at hl ⊢
  have hl : lv_has ls 4 [(0, .ref h0), (1, .int i_k), (2, .int i_m), (3, .int i_f)] := hl
  obtain ⟨H, hHe⟩ : ∃ H : Heap, H = s.heap := ⟨_, rfl⟩
  rw [← hHe] at hP
  have hS : va_S (fun _ : Nat => False) s.heap H [] := by rw [hHe]; exact hS
  refine pw_heap hHe ?_
  refine lv_iload_n hx hb dX8_firstFits_0 rfl (lv_at hl 3 rfl) ?_
  have hPc := hP.sub (ws' := []) [] rfl
  have hKc := hK.sub (tys' := []) [] rfl
  refine va_calli (va_runSN (As := [.int i_f]) (rest := []) ⟨hx, hb, hml, hown, hts⟩ (c_X9_isNumber l D i_f) ⟨va_cnB 1 hts g_X8_firstFits_X9_isNumber rfl rfl rfl hN8_83 (hts (.initialized RX9) (List.mem_of_getElem? (i := 1) rfl)) (by decide +kernel) ⟨Nat.le_of_ble_eq_true rfl, Nat.le_of_ble_eq_true rfl⟩, (hts (.static yX9_isNumber) (List.mem_of_getElem? (i := 2) rfl)), trivial⟩ ⟨fun a U g mk q => by obtain ⟨q0, qP, qK⟩ := q; exact ⟨q0, qP, va_K.moved (u := U) (U := U.calling g mk a) (Vm.Alike.refl U.vm) qK⟩, fun U hU hW => ⟨rfl, by rw [hU]; exact hPc, va_K.moved hW.alike hKc⟩⟩ rfl rfl hl.1 rfl (lv_room (Nat.le_of_ble_eq_true rfl)) dX8_firstFits_1 ⟨Nat.le_of_ble_eq_true rfl, Nat.le_of_ble_eq_true rfl⟩) hS (fun _ _ h => h.elim) (fun _ h => h.elim) (fun r1 u t H1 locs ht hvm hw hB hz1 hk1 hS => ?_)
  have hP := pw_keep hP (fun q hq => hk1 q hq (fun h => h))
  generalize H1 = H at hP hS ⊢
  refine W.widen (k := 0) (n := 0) (Nat.le_of_ble_eq_true rfl) (Nat.le_of_ble_eq_true rfl) ?_
  have bor1 := hw.1
  have zor1 := pw_boolI bor1
  have hfr1 := hw.2
  refine lv_if_eq (tgt := 23) hx hb dX8_firstFits_4 (by decide) (fun c2 => ?_) (fun c2 => ?_)
  · have nc2 : r1.toInt = 0 := pw_eq c2 rfl (by decide)
    refine lv_iconst (v := 0) hx hb dX8_firstFits_23 (by decide) ?_
    exact W.zret (v := 0) (ty := .boolean) hx hb hr rfl (fun t ht hW => ⟨⟨0, (), rfl, ⟨Or.inl rfl, (by have hv : (0 : Int32).toInt = 0 := (by decide); omega)⟩, trivial⟩, hS.F ht⟩) hS.2.2 dX8_firstFits_24
  · have nc2 : r1.toInt ≠ 0 := pw_ne c2 rfl (by decide)
    refine lv_iload_n hx hb dX8_firstFits_7 rfl (lv_at hl 1 rfl) ?_
    refine lv_iload_n hx hb dX8_firstFits_8 rfl (lv_at hl 2 rfl) ?_
    refine lv_iload_n hx hb dX8_firstFits_9 rfl (lv_at hl 3 rfl) ?_
    have hPc := hP.sub (ws' := []) [] rfl
    have hKc := hK.sub (tys' := []) [] rfl
    refine va_calli (va_runSN (As := [.int i_k, .int i_m, .int i_f]) (rest := []) ⟨hx, hb, hml, hown, hts⟩ (c_X9_greatestOf l D i_k i_m i_f) ⟨va_cnB 3 hts g_X8_firstFits_X9_greatestOf rfl rfl rfl hN8_86 (hts (.initialized RX9) (List.mem_of_getElem? (i := 1) rfl)) (by decide +kernel) ⟨Nat.le_of_ble_eq_true rfl, Nat.le_of_ble_eq_true rfl⟩, (hts (.static yX9_greatestOf) (List.mem_of_getElem? (i := 4) rfl)), trivial⟩ ⟨fun a U g mk q => by obtain ⟨q0, qP, qK⟩ := q; exact ⟨q0, qP, va_K.moved (u := U) (U := U.calling g mk a) (Vm.Alike.refl U.vm) qK⟩, fun U hU hW => ⟨rfl, by rw [hU]; exact hPc, va_K.moved hW.alike hKc⟩⟩ rfl rfl hl.1 rfl (lv_room (Nat.le_of_ble_eq_true rfl)) dX8_firstFits_10 ⟨Nat.le_of_ble_eq_true rfl, Nat.le_of_ble_eq_true rfl⟩) hS (fun _ _ h => h.elim) (fun _ h => h.elim) (fun r3 u t H1 locs ht hvm hw hB hz1 hk1 hS => ?_)
    have hP := pw_keep hP (fun q hq => hk1 q hq (fun h => h))
    generalize H1 = H at hP hS ⊢
    refine W.widen (k := 0) (n := 0) (Nat.le_of_ble_eq_true rfl) (Nat.le_of_ble_eq_true rfl) ?_
    have hPc := hP.sub (ws' := []) [] rfl
    have hKc := hK.sub (tys' := []) [] rfl
    refine va_calli (va_runSN (As := [.int r3]) (rest := []) ⟨hx, hb, hml, hown, hts⟩ (c_X9_isNumber l D r3) ⟨va_cnB 1 hts g_X8_firstFits_X9_isNumber rfl rfl rfl hN8_83 (hts (.initialized RX9) (List.mem_of_getElem? (i := 1) rfl)) (by decide +kernel) ⟨Nat.le_of_ble_eq_true rfl, Nat.le_of_ble_eq_true rfl⟩, (hts (.static yX9_isNumber) (List.mem_of_getElem? (i := 2) rfl)), trivial⟩ ⟨fun a U g mk q => by obtain ⟨q0, qP, qK⟩ := q; exact ⟨q0, qP, va_K.moved (u := U) (U := U.calling g mk a) (Vm.Alike.refl U.vm) qK⟩, fun U hU hW => ⟨rfl, by rw [hU]; exact hPc, va_K.moved hW.alike hKc⟩⟩ rfl rfl hl.1 rfl (lv_room (Nat.le_of_ble_eq_true rfl)) dX8_firstFits_13 ⟨Nat.le_of_ble_eq_true rfl, Nat.le_of_ble_eq_true rfl⟩) hS (fun _ _ h => h.elim) (fun _ h => h.elim) (fun r4 u t H1 locs ht hvm hw hB hz1 hk1 hS => ?_)
    have hP := pw_keep hP (fun q hq => hk1 q hq (fun h => h))
    generalize H1 = H at hP hS ⊢
    refine W.widen (k := 0) (n := 0) (Nat.le_of_ble_eq_true rfl) (Nat.le_of_ble_eq_true rfl) ?_
    have bor4 := hw.1
    have zor4 := pw_boolI bor4
    have hfr4 := hw.2
    refine lv_if_eq (tgt := 23) hx hb dX8_firstFits_16 (by decide) (fun c5 => ?_) (fun c5 => ?_)
    · have nc5 : r4.toInt = 0 := pw_eq c5 rfl (by decide)
      refine lv_iconst (v := 0) hx hb dX8_firstFits_23 (by decide) ?_
      exact W.zret (v := 0) (ty := .boolean) hx hb hr rfl (fun t ht hW => ⟨⟨0, (), rfl, ⟨Or.inl rfl, (by have hv : (0 : Int32).toInt = 0 := (by decide); omega)⟩, trivial⟩, hS.F ht⟩) hS.2.2 dX8_firstFits_24
    · have nc5 : r4.toInt ≠ 0 := pw_ne c5 rfl (by decide)
      refine lv_iconst (v := 1) hx hb dX8_firstFits_19 (by decide) ?_
      refine lv_goto (tgt := 24) hx hb dX8_firstFits_20 (by decide) ?_
      exact W.zret (v := 1) (ty := .boolean) hx hb hr rfl (fun t ht hW => ⟨⟨1, (), rfl, ⟨Or.inr rfl, (by have hv : (1 : Int32).toInt = 1 := (by decide); omega)⟩, trivial⟩, hS.F ht⟩) hS.2.2 dX8_firstFits_24
def w_X8_stretchFits : List Cond := .code yX8_stretchFits cX8_stretchFits 7 (some .boolean) :: ([.methodLink RX8 66 yX8_fromFits, .instanceMethod yX8_fromFits, .selects RX8 yX8_fromFits yX8_fromFits, .initialized RX8, .code yX8_fromFits cX8_fromFits 4 (some .boolean), .methodLink RX8 77 yX8_hasLine, .instanceMethod yX8_hasLine, .selects RX8 yX8_hasLine yX8_hasLine, .code yX8_hasLine cX8_hasLine 2 (some .boolean), .fieldLink RX8 33 "LineCites$Work" "lines" "I", .methodLink RX8 80 yX8_isFree, .instanceMethod yX8_isFree, .selects RX8 yX8_isFree yX8_isFree, .code yX8_isFree cX8_isFree 8 (some .boolean), .methodLink RX8 47 yX8_stretchesOf, .instanceMethod yX8_stretchesOf, .selects RX8 yX8_stretchesOf yX8_stretchesOf, .code yX8_stretchesOf cX8_stretchesOf 2 (some .int), .methodLink RX8 43 yX8_hasEdition, .instanceMethod yX8_hasEdition, .selects RX8 yX8_hasEdition yX8_hasEdition, .code yX8_hasEdition cX8_hasEdition 2 (some .boolean), .fieldLink RX8 37 "LineCites$Work" "editions" "I", .fieldLink RX8 9 "LineCites$Work" "stretchCounts" "[I", .methodLink RX8 63 yX8_part, .instanceMethod yX8_part, .selects RX8 yX8_part yX8_part, .code yX8_part cX8_part 5 (some .int), .methodLink RX8 51 yX8_placeOf, .static yX8_placeOf, .code yX8_placeOf cX8_placeOf 3 (some .int), .fieldLink RX8 15 "LineCites$Work" "stretchParts" "[I", .methodLink RX8 70 yX8_manyFits, .instanceMethod yX8_manyFits, .selects RX8 yX8_manyFits yX8_manyFits, .code yX8_manyFits cX8_manyFits 5 (some .boolean), .methodLink RX8 74 yX8_firstFits, .instanceMethod yX8_firstFits, .selects RX8 yX8_firstFits yX8_firstFits, .code yX8_firstFits cX8_firstFits 4 (some .boolean), .initialized RX9, .static yX9_isNumber, .code yX9_isNumber cX9_isNumber 1 (some .boolean), .static yX9_greatestOf, .code yX9_greatestOf cX9_greatestOf 3 (some .int), .methodLink RX9 347 yX9_highOf, .static yX9_highOf, .code yX9_highOf cX9_highOf 5 (some .int), .methodLink RX9 343 yX9_lowOf, .static yX9_lowOf, .code yX9_lowOf cX9_lowOf 4 (some .int)] ++ wsX80)
set_option maxRecDepth 20000 in
theorem g_X8_stretchFits_X8_fromFits : GoodIn w_X8_stretchFits (wsV RX8 66 RX8 yX8_fromFits w_X8_fromFits) := goodIn_r _ [1, 2, 3, 4, 5, 6, 7, 8, 4, 9, 10, 11, 12, 13, 14, 15, 16, 17, 18, 19, 20, 21, 22, 23, 24, 25, 26, 27, 28, 29, 30, 31, 32, 52, 53, 54, 55, 56, 57, 58, 59] rfl (by decide +kernel)
set_option maxRecDepth 20000 in
theorem g_X8_stretchFits_X8_manyFits : GoodIn w_X8_stretchFits (wsV RX8 70 RX8 yX8_manyFits w_X8_manyFits) := goodIn_r _ [33, 34, 35, 4, 36, 10, 11, 12, 13, 4, 14, 15, 16, 17, 18, 19, 20, 21, 22, 23, 24, 25, 26, 27, 28, 29, 30, 31, 32, 52, 53, 54, 55, 56, 57, 58, 59] rfl (by decide +kernel)
set_option maxRecDepth 20000 in
theorem g_X8_stretchFits_X8_firstFits : GoodIn w_X8_stretchFits (wsV RX8 74 RX8 yX8_firstFits w_X8_firstFits) := goodIn_r _ [37, 38, 39, 4, 40, 41, 42, 43, 44, 45, 46, 47, 48, 49, 50, 51] rfl (by decide +kernel)
set_option maxHeartbeats 4000000 in
set_option maxRecDepth 100000 in
theorem c_X8_stretchFits (l : Launch) (D : va_G) (h0 : Nat) (i_e : Int32) (i_s : Int32) (i_k : Int32) (i_fr : Int32) (i_m : Int32) (i_f : Int32) (b_sc : Nat) (b_sp : Nat) (b_cp : Nat) (b_sn : Nat) (b_sl : Nat) (i_li : Int32) (i_ed : Int32) (i_se : Int32) (kI : ClassId) (g_b_sc : Nat → Int32) (g_b_sp : Nat → Int32) (h0i_li : 0 ≤ i_li.toInt) (h1i_li : i_li.toInt ≤ 200) (hg_b_sp : bP g_b_sp) : Met l yX8_stretchFits w_X8_stretchFits ({ frames := 4, cells := 0, slots := 0, locals := 97 }) (va_Pc [.ref h0, .int i_e, .int i_s, .int i_k, .int i_fr, .int i_m, .int i_f] (fun U => va_P D vwCl [(h0, .inr (8, [.ref b_sc, .ref b_sp, .ref b_cp, .ref b_sn, .ref b_sl, .int i_li, .int i_ed, .int i_se])), (b_sc, .inl (kI, 5, .inl g_b_sc)), (b_sp, .inl (kI, 120, .inl g_b_sp))] U.heap ∧ va_K D vwCl [(kI, .int)] U ∧ va_Nw (.methodLinkNest RX8 83 yX9_isNumber "LineCites") U ∧ va_Nw (.methodLinkNest RX8 86 yX9_greatestOf "LineCites") U)) (va_Qi (fun (r : Int32) (_ : Unit) => (r = 0 ∨ r = 1) ∧ (r.toInt = 0 ∨ (1 ≤ i_k.toInt ∧ i_k.toInt ≤ 5 ∧ 0 ≤ i_fr.toInt ∧ i_fr.toInt ≤ 199 ∧ 1 ≤ i_m.toInt ∧ i_m.toInt ≤ 200 ∧ 1 ≤ i_f.toInt ∧ i_f.toInt ≤ 999))) (fun _ _ => True) (fun _ => False)) 0 0 (fun _ => False) := by
  refine Met.ofW (cc := cX8_stretchFits) (maxL := 7) (ret := (some .boolean)) (by decide) rfl ?_
  intro p e s m args below meth c s₁ B hml hv
  obtain ⟨rfl, hP, hK, hN8_83, hN8_86⟩ := hv
  have hx := B.exec
  have hb := B.bytes
  have hr := B.returns
  have hts := atoms_spec (ws := w_X8_stretchFits) B.pre
  have hown : s.vm.findClass RX8 = some m.cls := findClass_of_methodNamed B.named
  have hlocks := B.notSynchronized
  have hS : va_S (fun _ : Nat => False) s.heap s.heap [] := va_S.rf
  have hP : va_P D vwCl [(h0, .inr (8, [.ref b_sc, .ref b_sp, .ref b_cp, .ref b_sn, .ref b_sl, .int i_li, .int i_ed, .int i_se])), (b_sc, .inl (kI, 5, .inl g_b_sc)), (b_sp, .inl (kI, 120, .inl g_b_sp))] s.heap := hP
  have hl := lv_entry ([.ref h0, .int i_e, .int i_s, .int i_k, .int i_fr, .int i_m, .int i_f]) (n := 7) (Nat.le_of_ble_eq_true rfl)
  rw [lg_entry_eq]
  generalize (lg_sl ([.ref h0, .int i_e, .int i_s, .int i_k, .int i_fr, .int i_m, .int i_f]) ++ List.replicate (7 - (lg_sl ([.ref h0, .int i_e, .int i_s, .int i_k, .int i_fr, .int i_m, .int i_f])).length) Slot.unset).toArray = ls at hl ⊢
  have hl : lv_has ls 7 [(0, .ref h0), (1, .int i_e), (2, .int i_s), (3, .int i_k), (4, .int i_fr), (5, .int i_m), (6, .int i_f)] := hl
  obtain ⟨H, hHe⟩ : ∃ H : Heap, H = s.heap := ⟨_, rfl⟩
  rw [← hHe] at hP
  have hS : va_S (fun _ : Nat => False) s.heap H [] := by rw [hHe]; exact hS
  refine pw_heap hHe ?_
  refine lv_iload_n hx hb dX8_stretchFits_0 rfl (lv_at hl 3 rfl) ?_
  refine lv_iconst (v := 1) hx hb dX8_stretchFits_1 (by decide) ?_
  refine lv_icmp_lt (tgt := 50) hx hb dX8_stretchFits_2 (by decide) (fun c1 => ?_) (fun c1 => ?_)
  · have nc1 : i_k.toInt < 1 := pw_lt c1 rfl (by decide)
    refine lv_iconst (v := 0) hx hb dX8_stretchFits_50 (by decide) ?_
    exact W.zret (v := 0) (ty := .boolean) hx hb hr rfl (fun t ht hW => ⟨⟨0, (), rfl, ⟨Or.inl rfl, (by have hv : (0 : Int32).toInt = 0 := (by decide); omega)⟩, trivial⟩, hS.F ht⟩) hS.2.2 dX8_stretchFits_51
  · have nc1 : 1 ≤ i_k.toInt := pw_nlt c1 rfl (by decide)
    refine lv_iload_n hx hb dX8_stretchFits_5 rfl (lv_at hl 3 rfl) ?_
    refine lv_iconst (v := 5) hx hb dX8_stretchFits_6 (by decide) ?_
    refine lv_icmp_gt (tgt := 50) hx hb dX8_stretchFits_7 (by decide) (fun c2 => ?_) (fun c2 => ?_)
    · have nc2 : 5 < i_k.toInt := pw_lt c2 (by decide) rfl
      refine lv_iconst (v := 0) hx hb dX8_stretchFits_50 (by decide) ?_
      exact W.zret (v := 0) (ty := .boolean) hx hb hr rfl (fun t ht hW => ⟨⟨0, (), rfl, ⟨Or.inl rfl, (by have hv : (0 : Int32).toInt = 0 := (by decide); omega)⟩, trivial⟩, hS.F ht⟩) hS.2.2 dX8_stretchFits_51
    · have nc2 : i_k.toInt ≤ 5 := pw_nlt c2 (by decide) rfl
      refine lv_aload_n hx hb dX8_stretchFits_10 rfl (lv_at hl 0 rfl) ?_
      refine lv_iload_n hx hb dX8_stretchFits_11 rfl (lv_at hl 1 rfl) ?_
      refine lv_iload_n hx hb dX8_stretchFits_12 rfl (lv_at hl 2 rfl) ?_
      refine lv_iload hx hb dX8_stretchFits_13 (lv_at hl 4 rfl) ?_
      have hPc := hP.sub (ws' := [(h0, .inr (8, [.ref b_sc, .ref b_sp, .ref b_cp, .ref b_sn, .ref b_sl, .int i_li, .int i_ed, .int i_se])), (b_sc, .inl (kI, 5, .inl g_b_sc)), (b_sp, .inl (kI, 120, .inl g_b_sp))]) [0, 1, 2] rfl
      have hKc := hK.sub (tys' := [(kI, .int)]) [0] rfl
      refine va_calli (va_runV (As := [.int i_e, .int i_s, .int i_fr]) (rest := []) ⟨hx, hb, hml, hown, hts⟩ (c_X8_fromFits l D h0 i_e i_s i_fr b_sc b_sp b_cp b_sn b_sl i_li i_ed i_se kI g_b_sc g_b_sp (by first | decide | omega) (by first | decide | omega) hg_b_sp) (cwV 3 hts g_X8_stretchFits_X8_fromFits rfl rfl rfl (by decide +kernel) ⟨Nat.le_of_ble_eq_true rfl, Nat.le_of_ble_eq_true rfl⟩) ⟨fun a U g mk q => by obtain ⟨q0, qP, qK⟩ := q; exact ⟨q0, qP, va_K.moved (u := U) (U := U.calling g mk a) (Vm.Alike.refl U.vm) qK⟩, va_recv hKc hPc (ci := 8) (q0 := 0) rfl rfl, fun U hU hW => ⟨rfl, by rw [hU]; exact hPc, va_K.moved hW.alike hKc⟩⟩ rfl rfl hl.1 rfl (lv_room (Nat.le_of_ble_eq_true rfl)) dX8_stretchFits_15 ⟨Nat.le_of_ble_eq_true rfl, Nat.le_of_ble_eq_true rfl⟩) hS (fun _ _ h => h.elim) (fun _ h => h.elim) (fun r3 u t H1 locs ht hvm hw hB hz1 hk1 hS => ?_)
      have hP := pw_keep hP (fun q hq => hk1 q hq (fun h => h))
      generalize H1 = H at hP hS ⊢
      refine W.widen (k := 0) (n := 0) (Nat.le_of_ble_eq_true rfl) (Nat.le_of_ble_eq_true rfl) ?_
      have bor3 := hw.1
      have zor3 := pw_boolI bor3
      have hfr3 := hw.2
      refine lv_if_eq (tgt := 50) hx hb dX8_stretchFits_18 (by decide) (fun c4 => ?_) (fun c4 => ?_)
      · have nc4 : r3.toInt = 0 := pw_eq c4 rfl (by decide)
        refine lv_iconst (v := 0) hx hb dX8_stretchFits_50 (by decide) ?_
        exact W.zret (v := 0) (ty := .boolean) hx hb hr rfl (fun t ht hW => ⟨⟨0, (), rfl, ⟨Or.inl rfl, (by have hv : (0 : Int32).toInt = 0 := (by decide); omega)⟩, trivial⟩, hS.F ht⟩) hS.2.2 dX8_stretchFits_51
      · have nc4 : r3.toInt ≠ 0 := pw_ne c4 rfl (by decide)
        refine lv_aload_n hx hb dX8_stretchFits_21 rfl (lv_at hl 0 rfl) ?_
        refine lv_iload_n hx hb dX8_stretchFits_22 rfl (lv_at hl 1 rfl) ?_
        refine lv_iload_n hx hb dX8_stretchFits_23 rfl (lv_at hl 2 rfl) ?_
        refine lv_iload hx hb dX8_stretchFits_24 (lv_at hl 4 rfl) ?_
        refine lv_iload hx hb dX8_stretchFits_26 (lv_at hl 5 rfl) ?_
        have hPc := hP.sub (ws' := [(h0, .inr (8, [.ref b_sc, .ref b_sp, .ref b_cp, .ref b_sn, .ref b_sl, .int i_li, .int i_ed, .int i_se])), (b_sc, .inl (kI, 5, .inl g_b_sc)), (b_sp, .inl (kI, 120, .inl g_b_sp))]) [0, 1, 2] rfl
        have hKc := hK.sub (tys' := [(kI, .int)]) [0] rfl
        refine va_calli (va_runV (As := [.int i_e, .int i_s, .int i_fr, .int i_m]) (rest := []) ⟨hx, hb, hml, hown, hts⟩ (c_X8_manyFits l D h0 i_e i_s i_fr i_m b_sc b_sp b_cp b_sn b_sl i_li i_ed i_se kI g_b_sc g_b_sp (by first | decide | omega) (by first | decide | omega) (by first | decide | omega) (by first | decide | omega) hg_b_sp) (cwV 4 hts g_X8_stretchFits_X8_manyFits rfl rfl rfl (by decide +kernel) ⟨Nat.le_of_ble_eq_true rfl, Nat.le_of_ble_eq_true rfl⟩) ⟨fun a U g mk q => by obtain ⟨q0, qP, qK⟩ := q; exact ⟨q0, qP, va_K.moved (u := U) (U := U.calling g mk a) (Vm.Alike.refl U.vm) qK⟩, va_recv hKc hPc (ci := 8) (q0 := 0) rfl rfl, fun U hU hW => ⟨rfl, by rw [hU]; exact hPc, va_K.moved hW.alike hKc⟩⟩ rfl rfl hl.1 rfl (lv_room (Nat.le_of_ble_eq_true rfl)) dX8_stretchFits_28 ⟨Nat.le_of_ble_eq_true rfl, Nat.le_of_ble_eq_true rfl⟩) hS (fun _ _ h => h.elim) (fun _ h => h.elim) (fun r5 u t H1 locs ht hvm hw hB hz1 hk1 hS => ?_)
        have hP := pw_keep hP (fun q hq => hk1 q hq (fun h => h))
        generalize H1 = H at hP hS ⊢
        refine W.widen (k := 0) (n := 0) (Nat.le_of_ble_eq_true rfl) (Nat.le_of_ble_eq_true rfl) ?_
        have bor5 := hw.1
        have zor5 := pw_boolI bor5
        have hfr5 := hw.2
        refine lv_if_eq (tgt := 50) hx hb dX8_stretchFits_31 (by decide) (fun c6 => ?_) (fun c6 => ?_)
        · have nc6 : r5.toInt = 0 := pw_eq c6 rfl (by decide)
          refine lv_iconst (v := 0) hx hb dX8_stretchFits_50 (by decide) ?_
          exact W.zret (v := 0) (ty := .boolean) hx hb hr rfl (fun t ht hW => ⟨⟨0, (), rfl, ⟨Or.inl rfl, (by have hv : (0 : Int32).toInt = 0 := (by decide); omega)⟩, trivial⟩, hS.F ht⟩) hS.2.2 dX8_stretchFits_51
        · have nc6 : r5.toInt ≠ 0 := pw_ne c6 rfl (by decide)
          refine lv_aload_n hx hb dX8_stretchFits_34 rfl (lv_at hl 0 rfl) ?_
          refine lv_iload_n hx hb dX8_stretchFits_35 rfl (lv_at hl 3 rfl) ?_
          refine lv_iload hx hb dX8_stretchFits_36 (lv_at hl 5 rfl) ?_
          refine lv_iload hx hb dX8_stretchFits_38 (lv_at hl 6 rfl) ?_
          have hPc := hP.sub (ws' := [(h0, .inr (8, [.ref b_sc, .ref b_sp, .ref b_cp, .ref b_sn, .ref b_sl, .int i_li, .int i_ed, .int i_se]))]) [0] rfl
          have hKc := hK.sub (tys' := []) [] rfl
          refine va_calli (va_runV (As := [.int i_k, .int i_m, .int i_f]) (rest := []) ⟨hx, hb, hml, hown, hts⟩ (c_X8_firstFits l D h0 i_k i_m i_f b_sc b_sp b_cp b_sn b_sl i_li i_ed i_se) (cwV 3 hts g_X8_stretchFits_X8_firstFits rfl rfl rfl (by decide +kernel) ⟨Nat.le_of_ble_eq_true rfl, Nat.le_of_ble_eq_true rfl⟩) ⟨fun a U g mk q => by obtain ⟨q0, qP, qK, qE0, qE1⟩ := q; exact ⟨q0, qP, va_K.moved (u := U) (U := U.calling g mk a) (Vm.Alike.refl U.vm) qK, va_Nw.same rfl rfl qE0, va_Nw.same rfl rfl qE1⟩, va_recv hKc hPc (ci := 8) (q0 := 0) rfl rfl, fun U hU hW => ⟨rfl, by rw [hU]; exact hPc, va_K.moved hW.alike hKc, va_Nw.warmM hW hN8_83, va_Nw.warmM hW hN8_86⟩⟩ rfl rfl hl.1 rfl (lv_room (Nat.le_of_ble_eq_true rfl)) dX8_stretchFits_40 ⟨Nat.le_of_ble_eq_true rfl, Nat.le_of_ble_eq_true rfl⟩) hS (fun _ _ h => h.elim) (fun _ h => h.elim) (fun r7 u t H1 locs ht hvm hw hB hz1 hk1 hS => ?_)
          have hP := pw_keep hP (fun q hq => hk1 q hq (fun h => h))
          generalize H1 = H at hP hS ⊢
          refine W.widen (k := 0) (n := 0) (Nat.le_of_ble_eq_true rfl) (Nat.le_of_ble_eq_true rfl) ?_
          have bor7 := hw.1
          have zor7 := pw_boolI bor7
          have hfr7 := hw.2
          refine lv_if_eq (tgt := 50) hx hb dX8_stretchFits_43 (by decide) (fun c8 => ?_) (fun c8 => ?_)
          · have nc8 : r7.toInt = 0 := pw_eq c8 rfl (by decide)
            refine lv_iconst (v := 0) hx hb dX8_stretchFits_50 (by decide) ?_
            exact W.zret (v := 0) (ty := .boolean) hx hb hr rfl (fun t ht hW => ⟨⟨0, (), rfl, ⟨Or.inl rfl, (by have hv : (0 : Int32).toInt = 0 := (by decide); omega)⟩, trivial⟩, hS.F ht⟩) hS.2.2 dX8_stretchFits_51
          · have nc8 : r7.toInt ≠ 0 := pw_ne c8 rfl (by decide)
            refine lv_iconst (v := 1) hx hb dX8_stretchFits_46 (by decide) ?_
            refine lv_goto (tgt := 51) hx hb dX8_stretchFits_47 (by decide) ?_
            exact W.zret (v := 1) (ty := .boolean) hx hb hr rfl (fun t ht hW => ⟨⟨1, (), rfl, ⟨Or.inr rfl, (by have hv : (1 : Int32).toInt = 1 := (by decide); omega)⟩, trivial⟩, hS.F ht⟩) hS.2.2 dX8_stretchFits_51
