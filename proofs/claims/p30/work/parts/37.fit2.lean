
def w_X8_hasEdition__f : List Cond := .code yX8_hasEdition cX8_hasEdition 2 (some .boolean) :: ([.fieldLink RX8 37 "LineCites$Work" "editions" "I", .fieldLink RX8 9 "LineCites$Work" "stretchCounts" "[I"] ++ wsX80)
set_option maxHeartbeats 4000000 in
set_option maxRecDepth 100000 in
theorem c_X8_hasEdition__f (l : Launch) (D : va_G) (h0 : Nat) (i_e : Int32) (b_sc : Nat) (b_sp : Nat) (b_cp : Nat) (b_sn : Nat) (b_sl : Nat) (i_li : Int32) (i_ed : Int32) (i_se : Int32) (kI : ClassId) (g_b_sc : Nat → Int32) (ke : Nat) (hnke : i_e.toInt = ((ke : Nat) : Int)) (hee : i_e.toInt < i_ed.toInt) (he5 : i_ed.toInt ≤ 5) : Met l yX8_hasEdition w_X8_hasEdition__f ({ frames := 0, cells := 0, slots := 0, locals := 0 }) (va_Pc [.ref h0, .int i_e] (fun U => va_P D vwCl [(h0, .inr (8, [.ref b_sc, .ref b_sp, .ref b_cp, .ref b_sn, .ref b_sl, .int i_li, .int i_ed, .int i_se])), (b_sc, .inl (kI, 5, .inl g_b_sc))] U.heap ∧ va_K D vwCl [(kI, .int)] U)) (va_Qi (fun (r : Int32) (_ : Unit) => (r = 0 ∨ r = 1) ∧ r.toInt = 1) (fun _ _ => True) (fun _ => False)) 0 0 (fun _ => False) := by
  refine Met.ofW (cc := cX8_hasEdition) (maxL := 2) (ret := (some .boolean)) (by decide) rfl ?_
  intro p e s m args below meth c s₁ B hml hv
  obtain ⟨rfl, hP, hK⟩ := hv
  have hx := B.exec
  have hb := B.bytes
  have hr := B.returns
  have hts := atoms_spec (ws := w_X8_hasEdition__f) B.pre
  have hown : s.vm.findClass RX8 = some m.cls := findClass_of_methodNamed B.named
  have hlocks := B.notSynchronized
  have hS : va_S (fun _ : Nat => False) s.heap s.heap [] := va_S.rf
  have hP : va_P D vwCl [(h0, .inr (8, [.ref b_sc, .ref b_sp, .ref b_cp, .ref b_sn, .ref b_sl, .int i_li, .int i_ed, .int i_se])), (b_sc, .inl (kI, 5, .inl g_b_sc))] s.heap := hP
  have hl := lv_entry ([.ref h0, .int i_e]) (n := 2) (Nat.le_of_ble_eq_true rfl)
  rw [lg_entry_eq]
  generalize (lg_sl ([.ref h0, .int i_e]) ++ List.replicate (2 - (lg_sl ([.ref h0, .int i_e])).length) Slot.unset).toArray = ls at hl ⊢
  have hl : lv_has ls 2 [(0, .ref h0), (1, .int i_e)] := hl
  obtain ⟨H, hHe⟩ : ∃ H : Heap, H = s.heap := ⟨_, rfl⟩
  rw [← hHe] at hP
  have hS : va_S (fun _ : Nat => False) s.heap H [] := by rw [hHe]; exact hS
  refine pw_heap hHe ?_
  refine lv_iload_n hx hb dX8_hasEdition_0 rfl (lv_at hl 1 rfl) ?_
  refine lv_if_lt (tgt := 25) hx hb dX8_hasEdition_1 (by decide) (fun c1 => ?_) (fun c1 => ?_)
  · have nc1 : i_e.toInt < 0 := pw_lt c1 rfl (by decide)
    refine lv_iconst (v := 0) hx hb dX8_hasEdition_25 (by decide) ?_
    exact W.zret (v := 0) (ty := .boolean) hx hb hr rfl (fun t ht hW => ⟨⟨0, (), rfl, ⟨Or.inl rfl, (by have hv : (0 : Int32).toInt = 0 := (by decide); omega)⟩, trivial⟩, hS.F ht⟩) hS.2.2 dX8_hasEdition_26
  · have nc1 : 0 ≤ i_e.toInt := pw_nlt c1 rfl (by decide)
    refine lv_iload_n hx hb dX8_hasEdition_4 rfl (lv_at hl 1 rfl) ?_
    refine lv_aload_n hx hb dX8_hasEdition_5 rfl (lv_at hl 0 rfl) ?_
    refine va_get (D := D) (ci := 8) (v := .int i_ed) (C := RX8) (T := TX8) (N := 8) hx hb hts (fun _ h => List.mem_cons_of_mem _ (List.mem_append_right _ h)) hown hK hP 0 rfl rfl 6 (by decide) (hts (.fieldLink RX8 37 "LineCites$Work" "editions" "I") (List.mem_of_getElem? (i := 1) rfl)) (fun _ h9 => h9) rfl dX8_hasEdition_6 ?_
    refine lv_icmp_ge (tgt := 25) hx hb dX8_hasEdition_9 (by decide) (fun c2 => ?_) (fun c2 => ?_)
    · have nc2 : i_ed.toInt ≤ i_e.toInt := pw_le c2 rfl rfl
      have mc2i_e := pw_max i_e
      have mc2i_ed := pw_max i_ed
      refine lv_iconst (v := 0) hx hb dX8_hasEdition_25 (by decide) ?_
      exact W.zret (v := 0) (ty := .boolean) hx hb hr rfl (fun t ht hW => ⟨⟨0, (), rfl, ⟨Or.inl rfl, (by have hv : (0 : Int32).toInt = 0 := (by decide); omega)⟩, trivial⟩, hS.F ht⟩) hS.2.2 dX8_hasEdition_26
    · have nc2 : i_e.toInt < i_ed.toInt := pw_nle c2 rfl rfl
      have mc2i_e := pw_max i_e
      have mc2i_ed := pw_max i_ed
      refine lv_iload_n hx hb dX8_hasEdition_12 rfl (lv_at hl 1 rfl) ?_
      refine lv_aload_n hx hb dX8_hasEdition_13 rfl (lv_at hl 0 rfl) ?_
      refine va_get (D := D) (ci := 8) (v := .ref b_sc) (C := RX8) (T := TX8) (N := 8) hx hb hts (fun _ h => List.mem_cons_of_mem _ (List.mem_append_right _ h)) hown hK hP 0 rfl rfl 0 (by decide) (hts (.fieldLink RX8 9 "LineCites$Work" "stretchCounts" "[I") (List.mem_of_getElem? (i := 2) rfl)) (fun _ h9 => h9) rfl dX8_hasEdition_14 ?_
      refine va_alen (v := 5) hx hb hK hP 1 0 rfl rfl rfl dX8_hasEdition_17 ?_
      refine lv_icmp_ge (tgt := 25) hx hb dX8_hasEdition_18 (by decide) (fun c3 => ?_) (fun c3 => ?_)
      · have nc3 : 5 ≤ i_e.toInt := pw_le c3 (by decide) rfl
        refine lv_iconst (v := 0) hx hb dX8_hasEdition_25 (by decide) ?_
        exact W.zret (v := 0) (ty := .boolean) hx hb hr rfl (fun t ht hW => ⟨⟨0, (), rfl, ⟨Or.inl rfl, (by have hv : (0 : Int32).toInt = 0 := (by decide); omega)⟩, trivial⟩, hS.F ht⟩) hS.2.2 dX8_hasEdition_26
      · have nc3 : i_e.toInt < 5 := pw_nle c3 (by decide) rfl
        refine lv_iconst (v := 1) hx hb dX8_hasEdition_21 (by decide) ?_
        refine lv_goto (tgt := 26) hx hb dX8_hasEdition_22 (by decide) ?_
        exact W.zret (v := 1) (ty := .boolean) hx hb hr rfl (fun t ht hW => ⟨⟨1, (), rfl, ⟨Or.inr rfl, (by have hv : (1 : Int32).toInt = 1 := (by decide); omega)⟩, trivial⟩, hS.F ht⟩) hS.2.2 dX8_hasEdition_26
def w_X8_stretchesOf__f : List Cond := .code yX8_stretchesOf cX8_stretchesOf 2 (some .int) :: ([.methodLink RX8 43 yX8_hasEdition, .instanceMethod yX8_hasEdition, .selects RX8 yX8_hasEdition yX8_hasEdition, .initialized RX8, .code yX8_hasEdition cX8_hasEdition 2 (some .boolean), .fieldLink RX8 37 "LineCites$Work" "editions" "I", .fieldLink RX8 9 "LineCites$Work" "stretchCounts" "[I"] ++ wsX80)
set_option maxRecDepth 20000 in
theorem g_X8_stretchesOf__f_X8_hasEdition__f : GoodIn w_X8_stretchesOf__f (wsV RX8 43 RX8 yX8_hasEdition w_X8_hasEdition__f) := goodIn_r _ [1, 2, 3, 4, 5, 6, 7, 8, 9, 10, 11, 12, 13, 14, 15] rfl (by decide +kernel)
set_option maxHeartbeats 4000000 in
set_option maxRecDepth 100000 in
theorem c_X8_stretchesOf__f (l : Launch) (D : va_G) (h0 : Nat) (i_e : Int32) (b_sc : Nat) (b_sp : Nat) (b_cp : Nat) (b_sn : Nat) (b_sl : Nat) (i_li : Int32) (i_ed : Int32) (i_se : Int32) (kI : ClassId) (g_b_sc : Nat → Int32) (ke : Nat) (hnke : i_e.toInt = ((ke : Nat) : Int)) (hee : i_e.toInt < i_ed.toInt) (he5 : i_ed.toInt ≤ 5) : Met l yX8_stretchesOf w_X8_stretchesOf__f ({ frames := 1, cells := 0, slots := 0, locals := 21 }) (va_Pc [.ref h0, .int i_e] (fun U => va_P D vwCl [(h0, .inr (8, [.ref b_sc, .ref b_sp, .ref b_cp, .ref b_sn, .ref b_sl, .int i_li, .int i_ed, .int i_se])), (b_sc, .inl (kI, 5, .inl g_b_sc))] U.heap ∧ va_K D vwCl [(kI, .int)] U)) (va_Qi (fun (r : Int32) (_ : Unit) => r.toInt = (g_b_sc ke).toInt) (fun _ _ => True) (fun _ => False)) 0 0 (fun _ => False) := by
  refine Met.ofW (cc := cX8_stretchesOf) (maxL := 2) (ret := (some .int)) (by decide) rfl ?_
  intro p e s m args below meth c s₁ B hml hv
  obtain ⟨rfl, hP, hK⟩ := hv
  have hx := B.exec
  have hb := B.bytes
  have hr := B.returns
  have hts := atoms_spec (ws := w_X8_stretchesOf__f) B.pre
  have hown : s.vm.findClass RX8 = some m.cls := findClass_of_methodNamed B.named
  have hlocks := B.notSynchronized
  have hS : va_S (fun _ : Nat => False) s.heap s.heap [] := va_S.rf
  have hP : va_P D vwCl [(h0, .inr (8, [.ref b_sc, .ref b_sp, .ref b_cp, .ref b_sn, .ref b_sl, .int i_li, .int i_ed, .int i_se])), (b_sc, .inl (kI, 5, .inl g_b_sc))] s.heap := hP
  have hl := lv_entry ([.ref h0, .int i_e]) (n := 2) (Nat.le_of_ble_eq_true rfl)
  rw [lg_entry_eq]
  generalize (lg_sl ([.ref h0, .int i_e]) ++ List.replicate (2 - (lg_sl ([.ref h0, .int i_e])).length) Slot.unset).toArray = ls at hl ⊢
  have hl : lv_has ls 2 [(0, .ref h0), (1, .int i_e)] := hl
  obtain ⟨H, hHe⟩ : ∃ H : Heap, H = s.heap := ⟨_, rfl⟩
  rw [← hHe] at hP
  have hS : va_S (fun _ : Nat => False) s.heap H [] := by rw [hHe]; exact hS
  refine pw_heap hHe ?_
  refine lv_aload_n hx hb dX8_stretchesOf_0 rfl (lv_at hl 0 rfl) ?_
  refine lv_iload_n hx hb dX8_stretchesOf_1 rfl (lv_at hl 1 rfl) ?_
  have hPc := hP.sub (ws' := [(h0, .inr (8, [.ref b_sc, .ref b_sp, .ref b_cp, .ref b_sn, .ref b_sl, .int i_li, .int i_ed, .int i_se])), (b_sc, .inl (kI, 5, .inl g_b_sc))]) [0, 1] rfl
  have hKc := hK.sub (tys' := [(kI, .int)]) [0] rfl
  refine va_calli (va_runV (As := [.int i_e]) (rest := []) ⟨hx, hb, hml, hown, hts⟩ (c_X8_hasEdition__f l D h0 i_e b_sc b_sp b_cp b_sn b_sl i_li i_ed i_se kI g_b_sc ke (by first | omega | decide | (have hz0 : (0 : Int32).toInt = 0 := (by decide); omega)) (by first | omega | decide | (have hz0 : (0 : Int32).toInt = 0 := (by decide); omega)) (by first | omega | decide | (have hz0 : (0 : Int32).toInt = 0 := (by decide); omega))) (cwV 1 hts g_X8_stretchesOf__f_X8_hasEdition__f rfl rfl rfl (by decide +kernel) ⟨Nat.le_of_ble_eq_true rfl, Nat.le_of_ble_eq_true rfl⟩) ⟨fun a U g mk q => by obtain ⟨q0, qP, qK⟩ := q; exact ⟨q0, qP, va_K.moved (u := U) (U := U.calling g mk a) (Vm.Alike.refl U.vm) qK⟩, va_recv hKc hPc (ci := 8) (q0 := 0) rfl rfl, fun U hU hW => ⟨rfl, by rw [hU]; exact hPc, va_K.moved hW.alike hKc⟩⟩ rfl rfl hl.1 rfl (lv_room (Nat.le_of_ble_eq_true rfl)) dX8_stretchesOf_2 ⟨Nat.le_of_ble_eq_true rfl, Nat.le_of_ble_eq_true rfl⟩) hS (fun _ _ h => h.elim) (fun _ h => h.elim) (fun r1 u t H1 locs ht hvm hw hB hz1 hk1 hS => ?_)
  have hP := pw_keep hP (fun q hq => hk1 q hq (fun h => h))
  generalize H1 = H at hP hS ⊢
  refine W.widen (k := 0) (n := 0) (Nat.le_of_ble_eq_true rfl) (Nat.le_of_ble_eq_true rfl) ?_
  have bor1 := hw.1
  have zor1 := pw_boolI bor1
  have hfr1 := hw.2
  refine lv_if_eq (tgt := 17) hx hb dX8_stretchesOf_5 (by decide) (fun c2 => ?_) (fun c2 => ?_)
  · have nc2 : r1.toInt = 0 := pw_eq c2 rfl (by decide)
    refine lv_iconst (v := 0) hx hb dX8_stretchesOf_17 (by decide) ?_
    exact W.iret (v := 0) hx hb hr (fun t ht hW => ⟨⟨0, (), rfl, (False.elim (by omega)), trivial⟩, hS.F ht⟩) hS.2.2 dX8_stretchesOf_18
  · have nc2 : r1.toInt ≠ 0 := pw_ne c2 rfl (by decide)
    refine lv_aload_n hx hb dX8_stretchesOf_8 rfl (lv_at hl 0 rfl) ?_
    refine va_get (D := D) (ci := 8) (v := .ref b_sc) (C := RX8) (T := TX8) (N := 8) hx hb hts (fun _ h => List.mem_cons_of_mem _ (List.mem_append_right _ h)) hown hK hP 0 rfl rfl 0 (by decide) (hts (.fieldLink RX8 9 "LineCites$Work" "stretchCounts" "[I") (List.mem_of_getElem? (i := 7) rfl)) (fun _ h9 => h9) rfl dX8_stretchesOf_9 ?_
    refine lv_iload_n hx hb dX8_stretchesOf_12 rfl (lv_at hl 1 rfl) ?_
    refine va_iald hx hb hK hP 1 0 rfl rfl (vp_in_iff.mpr ⟨by omega, by omega⟩) dX8_stretchesOf_13 ?_
    refine lv_topi (fun x3 ex3 => ?_)
    refine lv_goto (tgt := 18) hx hb dX8_stretchesOf_14 (by decide) ?_
    exact W.iret (v := x3) hx hb hr (fun t ht hW => ⟨⟨x3, (), rfl, (pC_at ex3 (by omega)), trivial⟩, hS.F ht⟩) hS.2.2 dX8_stretchesOf_18
def w_X8_placeOf__f : List Cond := .code yX8_placeOf cX8_placeOf 3 (some .int) :: ([])
set_option maxHeartbeats 4000000 in
set_option maxRecDepth 100000 in
theorem c_X8_placeOf__f (l : Launch) (D : va_G) (i_e : Int32) (i_s : Int32) (i_w : Int32) (h0i_e : 0 ≤ i_e.toInt) (h1i_e : i_e.toInt ≤ 4) (h0i_s : 0 ≤ i_s.toInt) (h1i_s : i_s.toInt ≤ 5) (h0i_w : 0 ≤ i_w.toInt) (h1i_w : i_w.toInt ≤ 3) : Met l yX8_placeOf w_X8_placeOf__f ({ frames := 0, cells := 0, slots := 0, locals := 0 }) (va_Pc [.int i_e, .int i_s, .int i_w] (fun U => va_P D vwCl [] U.heap ∧ va_K D vwCl [] U)) (va_Qi (fun (r : Int32) (_ : Unit) => 0 ≤ r.toInt ∧ r.toInt ≤ 119 ∧ r.toInt = 24 * i_e.toInt + 4 * i_s.toInt + i_w.toInt) (fun _ _ => True) (fun _ => False)) 0 0 (fun _ => False) := by
  refine Met.ofW (cc := cX8_placeOf) (maxL := 3) (ret := (some .int)) (by decide) rfl ?_
  intro p e s m args below meth c s₁ B hml hv
  obtain ⟨rfl, hP, hK⟩ := hv
  have hx := B.exec
  have hb := B.bytes
  have hr := B.returns
  have hts := atoms_spec (ws := w_X8_placeOf__f) B.pre
  have hown : s.vm.findClass RX8 = some m.cls := findClass_of_methodNamed B.named
  have hlocks := B.notSynchronized
  have hS : va_S (fun _ : Nat => False) s.heap s.heap [] := va_S.rf
  have hP : va_P D vwCl [] s.heap := hP
  have hl := lv_entry ([.int i_e, .int i_s, .int i_w]) (n := 3) (Nat.le_of_ble_eq_true rfl)
  rw [lg_entry_eq]
  generalize (lg_sl ([.int i_e, .int i_s, .int i_w]) ++ List.replicate (3 - (lg_sl ([.int i_e, .int i_s, .int i_w])).length) Slot.unset).toArray = ls at hl ⊢
  have hl : lv_has ls 3 [(0, .int i_e), (1, .int i_s), (2, .int i_w)] := hl
  obtain ⟨H, hHe⟩ : ∃ H : Heap, H = s.heap := ⟨_, rfl⟩
  rw [← hHe] at hP
  have hS : va_S (fun _ : Nat => False) s.heap H [] := by rw [hHe]; exact hS
  refine pw_heap hHe ?_
  refine lv_iload_n hx hb dX8_placeOf_0 rfl (lv_at hl 0 rfl) ?_
  refine lv_bipush (v := 6) hx hb dX8_placeOf_1 (by decide) ?_
  refine lv_imul hx hb dX8_placeOf_3 ?_
  refine lv_topi (fun x1 ex1 => ?_)
  have tx1 : x1.toInt = i_e.toInt * 6 := pw_mulX ex1 rfl (by decide) (by omega) (by omega)
  refine lv_iload_n hx hb dX8_placeOf_4 rfl (lv_at hl 1 rfl) ?_
  refine lv_iadd hx hb dX8_placeOf_5 ?_
  refine lv_topi (fun x2 ex2 => ?_)
  have tx2 : x2.toInt = x1.toInt + i_s.toInt := pw_addX ex2 rfl rfl (by omega) (by omega)
  refine lv_iconst (v := 4) hx hb dX8_placeOf_6 (by decide) ?_
  refine lv_imul hx hb dX8_placeOf_7 ?_
  refine lv_topi (fun x3 ex3 => ?_)
  have tx3 : x3.toInt = x2.toInt * 4 := pw_mulX ex3 rfl (by decide) (by omega) (by omega)
  refine lv_iload_n hx hb dX8_placeOf_8 rfl (lv_at hl 2 rfl) ?_
  refine lv_iadd hx hb dX8_placeOf_9 ?_
  refine lv_topi (fun x4 ex4 => ?_)
  have tx4 : x4.toInt = x3.toInt + i_w.toInt := pw_addX ex4 rfl rfl (by omega) (by omega)
  exact W.iret (v := x4) hx hb hr (fun t ht hW => ⟨⟨x4, (), rfl, (by omega), trivial⟩, hS.F ht⟩) hS.2.2 dX8_placeOf_10
def w_X8_part__f : List Cond := .code yX8_part cX8_part 5 (some .int) :: ([.methodLink RX8 51 yX8_placeOf, .static yX8_placeOf, .initialized RX8, .code yX8_placeOf cX8_placeOf 3 (some .int), .fieldLink RX8 15 "LineCites$Work" "stretchParts" "[I"] ++ wsX80)
set_option maxRecDepth 20000 in
theorem g_X8_part__f_X8_placeOf__f : GoodIn w_X8_part__f (wsS RX8 51 yX8_placeOf w_X8_placeOf__f) := goodIn_r _ [1, 2, 3, 4] rfl (by decide +kernel)
set_option maxHeartbeats 4000000 in
set_option maxRecDepth 100000 in
theorem c_X8_part__f (l : Launch) (D : va_G) (h0 : Nat) (i_e : Int32) (i_s : Int32) (i_w : Int32) (b_sc : Nat) (b_sp : Nat) (b_cp : Nat) (b_sn : Nat) (b_sl : Nat) (i_li : Int32) (i_ed : Int32) (i_se : Int32) (kI : ClassId) (g_b_sp : Nat → Int32) (ke : Nat) (ks : Nat) (kw : Nat) (h0i_e : 0 ≤ i_e.toInt) (h1i_e : i_e.toInt ≤ 4) (h0i_s : 0 ≤ i_s.toInt) (h1i_s : i_s.toInt ≤ 5) (h0i_w : 0 ≤ i_w.toInt) (h1i_w : i_w.toInt ≤ 3) (hnke : i_e.toInt = ((ke : Nat) : Int)) (hnks : i_s.toInt = ((ks : Nat) : Int)) (hnkw : i_w.toInt = ((kw : Nat) : Int)) (hg_b_sp : bP g_b_sp) : Met l yX8_part w_X8_part__f ({ frames := 1, cells := 0, slots := 0, locals := 22 }) (va_Pc [.ref h0, .int i_e, .int i_s, .int i_w] (fun U => va_P D vwCl [(h0, .inr (8, [.ref b_sc, .ref b_sp, .ref b_cp, .ref b_sn, .ref b_sl, .int i_li, .int i_ed, .int i_se])), (b_sp, .inl (kI, 120, .inl g_b_sp))] U.heap ∧ va_K D vwCl [(kI, .int)] U)) (va_Qi (fun (r : Int32) (_ : Unit) => 0 ≤ r.toInt ∧ r.toInt ≤ 999 ∧ r.toInt = (g_b_sp (24 * ke + 4 * ks + kw)).toInt) (fun _ _ => True) (fun _ => False)) 0 0 (fun _ => False) := by
  refine Met.ofW (cc := cX8_part) (maxL := 5) (ret := (some .int)) (by decide) rfl ?_
  intro p e s m args below meth c s₁ B hml hv
  obtain ⟨rfl, hP, hK⟩ := hv
  have hx := B.exec
  have hb := B.bytes
  have hr := B.returns
  have hts := atoms_spec (ws := w_X8_part__f) B.pre
  have hown : s.vm.findClass RX8 = some m.cls := findClass_of_methodNamed B.named
  have hlocks := B.notSynchronized
  have hS : va_S (fun _ : Nat => False) s.heap s.heap [] := va_S.rf
  have hP : va_P D vwCl [(h0, .inr (8, [.ref b_sc, .ref b_sp, .ref b_cp, .ref b_sn, .ref b_sl, .int i_li, .int i_ed, .int i_se])), (b_sp, .inl (kI, 120, .inl g_b_sp))] s.heap := hP
  have hl := lv_entry ([.ref h0, .int i_e, .int i_s, .int i_w]) (n := 5) (Nat.le_of_ble_eq_true rfl)
  rw [lg_entry_eq]
  generalize (lg_sl ([.ref h0, .int i_e, .int i_s, .int i_w]) ++ List.replicate (5 - (lg_sl ([.ref h0, .int i_e, .int i_s, .int i_w])).length) Slot.unset).toArray = ls at hl ⊢
  have hl : lv_has ls 5 [(0, .ref h0), (1, .int i_e), (2, .int i_s), (3, .int i_w)] := hl
  obtain ⟨H, hHe⟩ : ∃ H : Heap, H = s.heap := ⟨_, rfl⟩
  rw [← hHe] at hP
  have hS : va_S (fun _ : Nat => False) s.heap H [] := by rw [hHe]; exact hS
  refine pw_heap hHe ?_
  refine lv_iload_n hx hb dX8_part_0 rfl (lv_at hl 1 rfl) ?_
  refine lv_iload_n hx hb dX8_part_1 rfl (lv_at hl 2 rfl) ?_
  refine lv_iload_n hx hb dX8_part_2 rfl (lv_at hl 3 rfl) ?_
  have hPc := hP.sub (ws' := []) [] rfl
  have hKc := hK.sub (tys' := []) [] rfl
  refine va_calli (va_runS (As := [.int i_e, .int i_s, .int i_w]) (rest := []) ⟨hx, hb, hml, hown, hts⟩ (c_X8_placeOf__f l D i_e i_s i_w (by first | decide | omega) (by first | decide | omega) (by first | decide | omega) (by first | decide | omega) (by first | decide | omega) (by first | decide | omega)) (cwS 3 hts g_X8_part__f_X8_placeOf__f rfl rfl rfl (by decide +kernel) ⟨Nat.le_of_ble_eq_true rfl, Nat.le_of_ble_eq_true rfl⟩) ⟨fun a U g mk q => by obtain ⟨q0, qP, qK⟩ := q; exact ⟨q0, qP, va_K.moved (u := U) (U := U.calling g mk a) (Vm.Alike.refl U.vm) qK⟩, fun U hU hW => ⟨rfl, by rw [hU]; exact hPc, va_K.moved hW.alike hKc⟩⟩ rfl rfl hl.1 rfl (lv_room (Nat.le_of_ble_eq_true rfl)) dX8_part_3 ⟨Nat.le_of_ble_eq_true rfl, Nat.le_of_ble_eq_true rfl⟩) hS (fun _ _ h => h.elim) (fun _ h => h.elim) (fun r1 u t H1 locs ht hvm hw hB hz1 hk1 hS => ?_)
  have hP := pw_keep hP (fun q hq => hk1 q hq (fun h => h))
  generalize H1 = H at hP hS ⊢
  refine W.widen (k := 0) (n := 0) (Nat.le_of_ble_eq_true rfl) (Nat.le_of_ble_eq_true rfl) ?_
  have hfr1 := hw
  refine lv_istore (lv' := [(4, .int r1), (0, .ref h0), (1, .int i_e), (2, .int i_s), (3, .int i_w)]) hx hb dX8_part_6 hl (by decide) rfl (fun ls hl => ?_)
  refine lv_iload hx hb dX8_part_8 (lv_at hl 0 rfl) ?_
  refine lv_if_lt (tgt := 23) hx hb dX8_part_10 (by decide) (fun c2 => False.elim (by have nn : r1.toInt < 0 := pw_lt c2 rfl (by decide); omega)) (fun c2 => ?_)
  have nc2 : 0 ≤ r1.toInt := pw_nlt c2 rfl (by decide)
  refine lv_iload hx hb dX8_part_13 (lv_at hl 0 rfl) ?_
  refine lv_aload_n hx hb dX8_part_15 rfl (lv_at hl 1 rfl) ?_
  refine va_get (D := D) (ci := 8) (v := .ref b_sp) (C := RX8) (T := TX8) (N := 8) hx hb hts (fun _ h => List.mem_cons_of_mem _ (List.mem_append_right _ h)) hown hK hP 0 rfl rfl 1 (by decide) (hts (.fieldLink RX8 15 "LineCites$Work" "stretchParts" "[I") (List.mem_of_getElem? (i := 5) rfl)) (fun _ h9 => h9) rfl dX8_part_16 ?_
  refine va_alen (v := 120) hx hb hK hP 1 0 rfl rfl rfl dX8_part_19 ?_
  refine lv_icmp_lt (tgt := 27) hx hb dX8_part_20 (by decide) (fun c3 => ?_) (fun c3 => False.elim (by have nn : 120 ≤ r1.toInt := pw_nlt c3 rfl (by decide); omega))
  have nc3 : r1.toInt < 120 := pw_lt c3 rfl (by decide)
  refine lv_aload_n hx hb dX8_part_27 rfl (lv_at hl 1 rfl) ?_
  refine va_get (D := D) (ci := 8) (v := .ref b_sp) (C := RX8) (T := TX8) (N := 8) hx hb hts (fun _ h => List.mem_cons_of_mem _ (List.mem_append_right _ h)) hown hK hP 0 rfl rfl 1 (by decide) (hts (.fieldLink RX8 15 "LineCites$Work" "stretchParts" "[I") (List.mem_of_getElem? (i := 5) rfl)) (fun _ h9 => h9) rfl dX8_part_28 ?_
  refine lv_iload hx hb dX8_part_31 (lv_at hl 0 rfl) ?_
  refine va_iald hx hb hK hP 1 0 rfl rfl (vp_in_iff.mpr ⟨by omega, by omega⟩) dX8_part_33 ?_
  refine lv_topi (fun x4 ex4 => ?_)
  have nx4 : 0 ≤ x4.toInt ∧ x4.toInt ≤ 999 := bP_at hg_b_sp ex4
  exact W.iret (v := x4) hx hb hr (fun t ht hW => ⟨⟨x4, (), rfl, ⟨by omega, by omega, pC_at ex4 (by omega)⟩, trivial⟩, hS.F ht⟩) hS.2.2 dX8_part_34
def w_X8_setPart__f : List Cond := .code yX8_setPart cX8_setPart 6 none :: ([.methodLink RX8 51 yX8_placeOf, .static yX8_placeOf, .initialized RX8, .code yX8_placeOf cX8_placeOf 3 (some .int), .fieldLink RX8 15 "LineCites$Work" "stretchParts" "[I"] ++ wsX80)
set_option maxRecDepth 20000 in
theorem g_X8_setPart__f_X8_placeOf__f : GoodIn w_X8_setPart__f (wsS RX8 51 yX8_placeOf w_X8_placeOf__f) := goodIn_r _ [1, 2, 3, 4] rfl (by decide +kernel)
set_option maxHeartbeats 4000000 in
set_option maxRecDepth 100000 in
theorem c_X8_setPart__f (l : Launch) (D : va_G) (h0 : Nat) (i_e : Int32) (i_s : Int32) (i_w : Int32) (i_v : Int32) (b_sc : Nat) (b_sp : Nat) (b_cp : Nat) (b_sn : Nat) (b_sl : Nat) (i_li : Int32) (i_ed : Int32) (i_se : Int32) (kI : ClassId) (g_b_sp : Nat → Int32) (ke : Nat) (ks : Nat) (kw : Nat) (sz : Nat) (h0i_e : 0 ≤ i_e.toInt) (h1i_e : i_e.toInt ≤ 4) (h0i_s : 0 ≤ i_s.toInt) (h1i_s : i_s.toInt ≤ 5) (h0i_w : 0 ≤ i_w.toInt) (h1i_w : i_w.toInt ≤ 3) (hnke : i_e.toInt = ((ke : Nat) : Int)) (hnks : i_s.toInt = ((ks : Nat) : Int)) (hnkw : i_w.toInt = ((kw : Nat) : Int)) (h0i_v : 0 ≤ i_v.toInt) (h1i_v : i_v.toInt ≤ 999) (hg_b_sp : bP g_b_sp) : Met l yX8_setPart w_X8_setPart__f ({ frames := 1, cells := 0, slots := 0, locals := 22 }) (va_Pc [.ref h0, .int i_e, .int i_s, .int i_w, .int i_v] (fun U => U.heap.size = sz ∧ va_P D vwCl [(h0, .inr (8, [.ref b_sc, .ref b_sp, .ref b_cp, .ref b_sn, .ref b_sl, .int i_li, .int i_ed, .int i_se])), (b_sp, .inl (kI, 120, .inl g_b_sp))] U.heap ∧ va_K D vwCl [(kI, .int)] U ∧ va_D (fun _ => True) [(h0, .inr (8, [.ref b_sc, .ref b_sp, .ref b_cp, .ref b_sn, .ref b_sl, .int i_li, .int i_ed, .int i_se])), (b_sp, .inl (kI, 120, .inl g_b_sp))])) (va_Qv (fun (_ : Unit) => True) (fun (_ : Unit) t => ∃ (n_sp : Nat → Int32), va_P D vwCl [(h0, .inr (8, [.ref b_sc, .ref b_sp, .ref b_cp, .ref b_sn, .ref b_sl, .int i_li, .int i_ed, .int i_se])), (b_sp, .inl (kI, 120, .inl n_sp))] t.heap ∧ va_K D vwCl [(kI, .int)] t ∧ va_D (va_A [(h0, .inr (8, [.ref b_sc, .ref b_sp, .ref b_cp, .ref b_sn, .ref b_sl, .int i_li, .int i_ed, .int i_se])), (b_sp, .inl (kI, 120, .inl g_b_sp))] sz) [(h0, .inr (8, [.ref b_sc, .ref b_sp, .ref b_cp, .ref b_sn, .ref b_sl, .int i_li, .int i_ed, .int i_se])), (b_sp, .inl (kI, 120, .inl n_sp))] ∧ bP n_sp ∧ n_sp = upd g_b_sp (24 * ke + 4 * ks + kw) i_v) (va_A [(h0, .inr (8, [.ref b_sc, .ref b_sp, .ref b_cp, .ref b_sn, .ref b_sl, .int i_li, .int i_ed, .int i_se])), (b_sp, .inl (kI, 120, .inl g_b_sp))] sz)) 0 0 (va_A [(h0, .inr (8, [.ref b_sc, .ref b_sp, .ref b_cp, .ref b_sn, .ref b_sl, .int i_li, .int i_ed, .int i_se])), (b_sp, .inl (kI, 120, .inl g_b_sp))] sz) := by
  refine Met.ofW (cc := cX8_setPart) (maxL := 6) (ret := none) (by decide) rfl ?_
  intro p e s m args below meth c s₁ B hml hv
  obtain ⟨rfl, hsz, hP, hK, hD0⟩ := hv
  have hx := B.exec
  have hb := B.bytes
  have hr := B.returns
  have hts := atoms_spec (ws := w_X8_setPart__f) B.pre
  have hown : s.vm.findClass RX8 = some m.cls := findClass_of_methodNamed B.named
  have hlocks := B.notSynchronized
  subst hsz
  have hD := hD0.self (sz := s.heap.size)
  generalize hAe : va_A [(h0, .inr (8, [.ref b_sc, .ref b_sp, .ref b_cp, .ref b_sn, .ref b_sl, .int i_li, .int i_ed, .int i_se])), (b_sp, .inl (kI, 120, .inl g_b_sp))] s.heap.size = A at hD ⊢
  have hA : ∀ q : Nat, s.heap.size ≤ q → A q := fun q h => by rw [← hAe]; exact Or.inr h
  have hS : va_S A s.heap s.heap [] := va_S.rf
  have hP : va_P D vwCl [(h0, .inr (8, [.ref b_sc, .ref b_sp, .ref b_cp, .ref b_sn, .ref b_sl, .int i_li, .int i_ed, .int i_se])), (b_sp, .inl (kI, 120, .inl g_b_sp))] s.heap := hP
  have hl := lv_entry ([.ref h0, .int i_e, .int i_s, .int i_w, .int i_v]) (n := 6) (Nat.le_of_ble_eq_true rfl)
  rw [lg_entry_eq]
  generalize (lg_sl ([.ref h0, .int i_e, .int i_s, .int i_w, .int i_v]) ++ List.replicate (6 - (lg_sl ([.ref h0, .int i_e, .int i_s, .int i_w, .int i_v])).length) Slot.unset).toArray = ls at hl ⊢
  have hl : lv_has ls 6 [(0, .ref h0), (1, .int i_e), (2, .int i_s), (3, .int i_w), (4, .int i_v)] := hl
  obtain ⟨H, hHe⟩ : ∃ H : Heap, H = s.heap := ⟨_, rfl⟩
  rw [← hHe] at hP
  have hS : va_S A s.heap H [] := by rw [hHe]; exact hS
  refine pw_heap hHe ?_
  refine lv_iload_n hx hb dX8_setPart_0 rfl (lv_at hl 1 rfl) ?_
  refine lv_iload_n hx hb dX8_setPart_1 rfl (lv_at hl 2 rfl) ?_
  refine lv_iload_n hx hb dX8_setPart_2 rfl (lv_at hl 3 rfl) ?_
  have hPc := hP.sub (ws' := []) [] rfl
  have hKc := hK.sub (tys' := []) [] rfl
  refine va_calli (va_runS (As := [.int i_e, .int i_s, .int i_w]) (rest := []) ⟨hx, hb, hml, hown, hts⟩ (c_X8_placeOf__f l D i_e i_s i_w (by first | decide | omega) (by first | decide | omega) (by first | decide | omega) (by first | decide | omega) (by first | decide | omega) (by first | decide | omega)) (cwS 3 hts g_X8_setPart__f_X8_placeOf__f rfl rfl rfl (by decide +kernel) ⟨Nat.le_of_ble_eq_true rfl, Nat.le_of_ble_eq_true rfl⟩) ⟨fun a U g mk q => by obtain ⟨q0, qP, qK⟩ := q; exact ⟨q0, qP, va_K.moved (u := U) (U := U.calling g mk a) (Vm.Alike.refl U.vm) qK⟩, fun U hU hW => ⟨rfl, by rw [hU]; exact hPc, va_K.moved hW.alike hKc⟩⟩ rfl rfl hl.1 rfl (lv_room (Nat.le_of_ble_eq_true rfl)) dX8_setPart_3 ⟨Nat.le_of_ble_eq_true rfl, Nat.le_of_ble_eq_true rfl⟩) hS (fun _ _ h => h.elim) (fun _ h => h.elim) (fun r1 u t H1 locs ht hvm hw hB hz1 hk1 hS => ?_)
  have hP := pw_keep hP (fun q hq => hk1 q hq (fun h => h))
  generalize H1 = H at hP hS ⊢
  refine W.widen (k := 0) (n := 0) (Nat.le_of_ble_eq_true rfl) (Nat.le_of_ble_eq_true rfl) ?_
  have hfr1 := hw
  refine lv_istore (lv' := [(5, .int r1), (0, .ref h0), (1, .int i_e), (2, .int i_s), (3, .int i_w), (4, .int i_v)]) hx hb dX8_setPart_6 hl (by decide) rfl (fun ls hl => ?_)
  refine lv_iload hx hb dX8_setPart_8 (lv_at hl 0 rfl) ?_
  refine lv_if_lt (tgt := 32) hx hb dX8_setPart_10 (by decide) (fun c2 => False.elim (by have nn : r1.toInt < 0 := pw_lt c2 rfl (by decide); omega)) (fun c2 => ?_)
  have nc2 : 0 ≤ r1.toInt := pw_nlt c2 rfl (by decide)
  refine lv_iload hx hb dX8_setPart_13 (lv_at hl 0 rfl) ?_
  refine lv_aload_n hx hb dX8_setPart_15 rfl (lv_at hl 1 rfl) ?_
  refine va_get (D := D) (ci := 8) (v := .ref b_sp) (C := RX8) (T := TX8) (N := 8) hx hb hts (fun _ h => List.mem_cons_of_mem _ (List.mem_append_right _ h)) hown hK hP 0 rfl rfl 1 (by decide) (hts (.fieldLink RX8 15 "LineCites$Work" "stretchParts" "[I") (List.mem_of_getElem? (i := 5) rfl)) (fun _ h9 => h9) rfl dX8_setPart_16 ?_
  refine va_alen (v := 120) hx hb hK hP 1 0 rfl rfl rfl dX8_setPart_19 ?_
  refine lv_icmp_ge (tgt := 32) hx hb dX8_setPart_20 (by decide) (fun c3 => False.elim (by have nn : 120 ≤ r1.toInt := pw_le c3 (by decide) rfl; omega)) (fun c3 => ?_)
  have nc3 : r1.toInt < 120 := pw_nle c3 (by decide) rfl
  refine lv_aload_n hx hb dX8_setPart_23 rfl (lv_at hl 1 rfl) ?_
  refine va_get (D := D) (ci := 8) (v := .ref b_sp) (C := RX8) (T := TX8) (N := 8) hx hb hts (fun _ h => List.mem_cons_of_mem _ (List.mem_append_right _ h)) hown hK hP 0 rfl rfl 1 (by decide) (hts (.fieldLink RX8 15 "LineCites$Work" "stretchParts" "[I") (List.mem_of_getElem? (i := 5) rfl)) (fun _ h9 => h9) rfl dX8_setPart_24 ?_
  refine lv_iload hx hb dX8_setPart_27 (lv_at hl 0 rfl) ?_
  refine lv_iload hx hb dX8_setPart_29 (lv_at hl 5 rfl) ?_
  refine va_iast hx hb hK hP hD hS 1 0 rfl rfl (vp_in_iff.mpr ⟨by omega, by omega⟩) dX8_setPart_31 (fun H locs hP hD hS => ?_)
  obtain ⟨g4, eg4⟩ : ∃ g : Nat → Int32, g = upd g_b_sp (r1 : Int32).toNatClampNeg i_v := ⟨_, rfl⟩
  have hP : va_P D vwCl [(h0, .inr (8, [.ref b_sc, .ref b_sp, .ref b_cp, .ref b_sn, .ref b_sl, .int i_li, .int i_ed, .int i_se])), (b_sp, .inl (kI, 120, .inl (upd g_b_sp (r1 : Int32).toNatClampNeg i_v)))] H := hP
  have hD : va_D A [(h0, .inr (8, [.ref b_sc, .ref b_sp, .ref b_cp, .ref b_sn, .ref b_sl, .int i_li, .int i_ed, .int i_se])), (b_sp, .inl (kI, 120, .inl (upd g_b_sp (r1 : Int32).toNatClampNeg i_v)))] := hD
  have hK : va_K D vwCl [(kI, .int)] s := hK
  rw [← eg4] at hP hD
  have hg4 : bP g4 := bP_upd hg_b_sp eg4 (by omega) (by omega)
  have hP9 := hP.sub (ws' := [(h0, .inr (8, [.ref b_sc, .ref b_sp, .ref b_cp, .ref b_sn, .ref b_sl, .int i_li, .int i_ed, .int i_se])), (b_sp, .inl (kI, 120, .inl g4))]) [0, 1] rfl
  have hD9 := hD.sub (ws' := [(h0, .inr (8, [.ref b_sc, .ref b_sp, .ref b_cp, .ref b_sn, .ref b_sl, .int i_li, .int i_ed, .int i_se])), (b_sp, .inl (kI, 120, .inl g4))]) [0, 1] (by decide) rfl
  have hK9 := hK.sub (tys' := [(kI, .int)]) [0] rfl
  refine W.widen (k := 0) (n := 0) (Nat.le_of_ble_eq_true rfl) (Nat.le_of_ble_eq_true rfl) ?_
  exact W.vret hx hb hr (fun t ht hW => ⟨⟨(), rfl, trivial, g4, by rw [ht]; exact hP9, va_K.moved hW.alike hK9, hD9, hg4, (updAt eg4 (by omega))⟩, hS.F ht⟩) hS.2.2 dX8_setPart_32
def w_X8_isFree__f : List Cond := .code yX8_isFree cX8_isFree 8 (some .boolean) :: ([.methodLink RX8 47 yX8_stretchesOf, .instanceMethod yX8_stretchesOf, .selects RX8 yX8_stretchesOf yX8_stretchesOf, .initialized RX8, .code yX8_stretchesOf cX8_stretchesOf 2 (some .int), .methodLink RX8 43 yX8_hasEdition, .instanceMethod yX8_hasEdition, .selects RX8 yX8_hasEdition yX8_hasEdition, .code yX8_hasEdition cX8_hasEdition 2 (some .boolean), .fieldLink RX8 37 "LineCites$Work" "editions" "I", .fieldLink RX8 9 "LineCites$Work" "stretchCounts" "[I", .methodLink RX8 63 yX8_part, .instanceMethod yX8_part, .selects RX8 yX8_part yX8_part, .code yX8_part cX8_part 5 (some .int), .methodLink RX8 51 yX8_placeOf, .static yX8_placeOf, .code yX8_placeOf cX8_placeOf 3 (some .int), .fieldLink RX8 15 "LineCites$Work" "stretchParts" "[I"] ++ wsX80)
set_option maxRecDepth 20000 in
theorem g_X8_isFree__f_X8_stretchesOf__f : GoodIn w_X8_isFree__f (wsV RX8 47 RX8 yX8_stretchesOf w_X8_stretchesOf__f) := goodIn_r _ [1, 2, 3, 4, 5, 6, 7, 8, 4, 9, 10, 11, 20, 21, 22, 23, 24, 25, 26, 27] rfl (by decide +kernel)
set_option maxRecDepth 20000 in
theorem g_X8_isFree__f_X8_part__f : GoodIn w_X8_isFree__f (wsV RX8 63 RX8 yX8_part w_X8_part__f) := goodIn_r _ [12, 13, 14, 4, 15, 16, 17, 4, 18, 19, 20, 21, 22, 23, 24, 25, 26, 27] rfl (by decide +kernel)
set_option maxHeartbeats 4000000 in
set_option maxRecDepth 100000 in
theorem c_X8_isFree__f (l : Launch) (D : va_G) (h0 : Nat) (i_e : Int32) (i_fr : Int32) (i_m : Int32) (b_sc : Nat) (b_sp : Nat) (b_cp : Nat) (b_sn : Nat) (b_sl : Nat) (i_li : Int32) (i_ed : Int32) (i_se : Int32) (kI : ClassId) (g_b_sc : Nat → Int32) (g_b_sp : Nat → Int32) (ke : Nat) (ps : List (Int × Int)) (hnke : i_e.toInt = ((ke : Nat) : Int)) (hee : i_e.toInt < i_ed.toInt) (he5 : i_ed.toInt ≤ 5) (hdR : dR g_b_sc g_b_sp ke ps) (h0i_fr : 0 ≤ i_fr.toInt) (h1i_fr : i_fr.toInt ≤ 999) (h0i_m : 0 ≤ i_m.toInt) (h1i_m : i_m.toInt ≤ 999) (hg_b_sp : bP g_b_sp) : Met l yX8_isFree w_X8_isFree__f ({ frames := 2, cells := 0, slots := 0, locals := 46 }) (va_Pc [.ref h0, .int i_e, .int (-1), .int i_fr, .int i_m] (fun U => va_P D vwCl [(h0, .inr (8, [.ref b_sc, .ref b_sp, .ref b_cp, .ref b_sn, .ref b_sl, .int i_li, .int i_ed, .int i_se])), (b_sc, .inl (kI, 5, .inl g_b_sc)), (b_sp, .inl (kI, 120, .inl g_b_sp))] U.heap ∧ va_K D vwCl [(kI, .int)] U)) (va_Qi (fun (r : Int32) (_ : Unit) => (r = 0 ∨ r = 1) ∧ r.toInt = bI (uFree ps i_fr.toInt i_m.toInt)) (fun _ _ => True) (fun _ => False)) 0 0 (fun _ => False) := by
  refine Met.ofW (cc := cX8_isFree) (maxL := 8) (ret := (some .boolean)) (by decide) rfl ?_
  intro p e s m args below meth c s₁ B hml hv
  obtain ⟨rfl, hP, hK⟩ := hv
  have hx := B.exec
  have hb := B.bytes
  have hr := B.returns
  have hts := atoms_spec (ws := w_X8_isFree__f) B.pre
  have hown : s.vm.findClass RX8 = some m.cls := findClass_of_methodNamed B.named
  have hlocks := B.notSynchronized
  have hS : va_S (fun _ : Nat => False) s.heap s.heap [] := va_S.rf
  have hP : va_P D vwCl [(h0, .inr (8, [.ref b_sc, .ref b_sp, .ref b_cp, .ref b_sn, .ref b_sl, .int i_li, .int i_ed, .int i_se])), (b_sc, .inl (kI, 5, .inl g_b_sc)), (b_sp, .inl (kI, 120, .inl g_b_sp))] s.heap := hP
  have hl := lv_entry ([.ref h0, .int i_e, .int (-1), .int i_fr, .int i_m]) (n := 8) (Nat.le_of_ble_eq_true rfl)
  rw [lg_entry_eq]
  generalize (lg_sl ([.ref h0, .int i_e, .int (-1), .int i_fr, .int i_m]) ++ List.replicate (8 - (lg_sl ([.ref h0, .int i_e, .int (-1), .int i_fr, .int i_m])).length) Slot.unset).toArray = ls at hl ⊢
  have hl : lv_has ls 8 [(0, .ref h0), (1, .int i_e), (2, .int (-1)), (3, .int i_fr), (4, .int i_m)] := hl
  obtain ⟨H, hHe⟩ : ∃ H : Heap, H = s.heap := ⟨_, rfl⟩
  rw [← hHe] at hP
  have hS : va_S (fun _ : Nat => False) s.heap H [] := by rw [hHe]; exact hS
  refine pw_heap hHe ?_
  have hd1 := hdR.1
  have hd2 := hdR.2.1
  refine lv_iconst (v := 0) hx hb dX8_isFree_0 (by decide) ?_
  refine lv_istore (lv' := [(5, .int 0), (0, .ref h0), (1, .int i_e), (2, .int (-1)), (3, .int i_fr), (4, .int i_m)]) hx hb dX8_isFree_1 hl (by decide) rfl (fun ls hl => ?_)
  have hl9 : lv_has ls 8 [(0, .ref h0), (1, .int i_e), (2, .int (-1)), (3, .int i_fr), (4, .int i_m), (5, .int 0)] := lv_sub hl [1, 2, 3, 4, 5, 0] rfl
  refine pw_loop (fun (v32 : Int32) H locs ls => va_P D vwCl [(h0, .inr (8, [.ref b_sc, .ref b_sp, .ref b_cp, .ref b_sn, .ref b_sl, .int i_li, .int i_ed, .int i_se])), (b_sc, .inl (kI, 5, .inl g_b_sc)), (b_sp, .inl (kI, 120, .inl g_b_sp))] H ∧ va_S (fun _ : Nat => False) s.heap H locs ∧ lv_has ls 8 [(0, .ref h0), (1, .int i_e), (2, .int (-1)), (3, .int i_fr), (4, .int i_m), (5, .int v32)] ∧ 0 ≤ v32.toInt ∧ frI ps v32.toInt i_fr.toInt i_m.toInt) (fun (v32 : Int32)  => (2147483648 - v32.toInt).toNat) 0 0 (fun (v32 : Int32) ls => F0 m 3 ls []) (fun zz H locs ls ih33 hI => ?_) 0 _ _ _ ⟨hP, hS, hl9, (by decide), (frI_0 (by decide))⟩
  obtain ⟨v32, hzz⟩ : ∃ z, z = zz := ⟨_, rfl⟩
  subst hzz
  obtain ⟨hP, hS, hl, bv32, hfr⟩ := hI
  have bv32 : 0 ≤ v32.toInt := bv32
  have hfr : frI ps v32.toInt i_fr.toInt i_m.toInt := hfr
  have hP : va_P D vwCl [(h0, .inr (8, [.ref b_sc, .ref b_sp, .ref b_cp, .ref b_sn, .ref b_sl, .int i_li, .int i_ed, .int i_se])), (b_sc, .inl (kI, 5, .inl g_b_sc)), (b_sp, .inl (kI, 120, .inl g_b_sp))] H := hP
  have hK : va_K D vwCl [(kI, .int)] s := hK
  have hl : lv_has ls 8 [(0, .ref h0), (1, .int i_e), (2, .int (-1)), (3, .int i_fr), (4, .int i_m), (5, .int v32)] := hl
  refine W.eq (g2 := F0 m 3 ls []) rfl ?_
  refine lv_iload hx hb dX8_isFree_3 (lv_at hl 5 rfl) ?_
  refine lv_aload_n hx hb dX8_isFree_5 rfl (lv_at hl 0 rfl) ?_
  refine lv_iload_n hx hb dX8_isFree_6 rfl (lv_at hl 1 rfl) ?_
  have hPc := hP.sub (ws' := [(h0, .inr (8, [.ref b_sc, .ref b_sp, .ref b_cp, .ref b_sn, .ref b_sl, .int i_li, .int i_ed, .int i_se])), (b_sc, .inl (kI, 5, .inl g_b_sc))]) [0, 1] rfl
  have hKc := hK.sub (tys' := [(kI, .int)]) [0] rfl
  refine va_calli (va_runV (As := [.int i_e]) (rest := [.int v32]) ⟨hx, hb, hml, hown, hts⟩ (c_X8_stretchesOf__f l D h0 i_e b_sc b_sp b_cp b_sn b_sl i_li i_ed i_se kI g_b_sc ke (by first | omega | decide | (have hz0 : (0 : Int32).toInt = 0 := (by decide); omega)) (by first | omega | decide | (have hz0 : (0 : Int32).toInt = 0 := (by decide); omega)) (by first | omega | decide | (have hz0 : (0 : Int32).toInt = 0 := (by decide); omega))) (cwV 1 hts g_X8_isFree__f_X8_stretchesOf__f rfl rfl rfl (by decide +kernel) ⟨Nat.le_of_ble_eq_true rfl, Nat.le_of_ble_eq_true rfl⟩) ⟨fun a U g mk q => by obtain ⟨q0, qP, qK⟩ := q; exact ⟨q0, qP, va_K.moved (u := U) (U := U.calling g mk a) (Vm.Alike.refl U.vm) qK⟩, va_recv hKc hPc (ci := 8) (q0 := 0) rfl rfl, fun U hU hW => ⟨rfl, by rw [hU]; exact hPc, va_K.moved hW.alike hKc⟩⟩ rfl rfl hl.1 rfl (lv_room (Nat.le_of_ble_eq_true rfl)) dX8_isFree_7 ⟨Nat.le_of_ble_eq_true rfl, Nat.le_of_ble_eq_true rfl⟩) hS (fun _ _ h => h.elim) (fun _ h => h.elim) (fun r34 u t H1 locs ht hvm hw hB hz1 hk1 hS => ?_)
  have hP := pw_keep hP (fun q hq => hk1 q hq (fun h => h))
  generalize H1 = H at hP hS ⊢
  refine W.widen (k := 0) (n := 0) (Nat.le_of_ble_eq_true rfl) (Nat.le_of_ble_eq_true rfl) ?_
  have hfr34 := hw
  refine lv_icmp_ge (tgt := 73) hx hb dX8_isFree_10 (by decide) (fun c35 => ?_) (fun c35 => ?_)
  · have nc35 : r34.toInt ≤ v32.toInt := pw_le c35 rfl rfl
    have mc35v32 := pw_max v32
    have mc35r34 := pw_max r34
    refine lv_iconst (v := 1) hx hb dX8_isFree_73 (by decide) ?_
    exact W.zret (v := 1) (ty := .boolean) hx hb hr rfl (fun t ht hW => ⟨⟨1, (), rfl, ⟨Or.inr rfl, (by rw [frI_end hdR hfr (by omega)]; decide)⟩, trivial⟩, hS.F ht⟩) hS.2.2 dX8_isFree_74
  · have nc35 : v32.toInt < r34.toInt := pw_nle c35 rfl rfl
    have mc35v32 := pw_max v32
    have mc35r34 := pw_max r34
    refine lv_aload_n hx hb dX8_isFree_13 rfl (lv_at hl 0 rfl) ?_
    refine lv_iload_n hx hb dX8_isFree_14 rfl (lv_at hl 1 rfl) ?_
    refine lv_iload hx hb dX8_isFree_15 (lv_at hl 5 rfl) ?_
    refine lv_iconst (v := 1) hx hb dX8_isFree_17 (by decide) ?_
    have kk1 : (1 : Int32).toInt = 1 := by decide
    have hPc := hP.sub (ws' := [(h0, .inr (8, [.ref b_sc, .ref b_sp, .ref b_cp, .ref b_sn, .ref b_sl, .int i_li, .int i_ed, .int i_se])), (b_sp, .inl (kI, 120, .inl g_b_sp))]) [0, 2] rfl
    have hKc := hK.sub (tys' := [(kI, .int)]) [0] rfl
    refine va_calli (va_runV (As := [.int i_e, .int v32, .int 1]) (rest := []) ⟨hx, hb, hml, hown, hts⟩ (c_X8_part__f l D h0 i_e v32 1 b_sc b_sp b_cp b_sn b_sl i_li i_ed i_se kI g_b_sp ke v32.toInt.toNat 1 (by first | decide | omega) (by first | decide | omega) (by first | decide | omega) (by first | decide | omega) (by first | decide | omega) (by first | decide | omega) (by first | omega | decide | (have hz0 : (0 : Int32).toInt = 0 := (by decide); omega)) (by first | omega | decide | (have hz0 : (0 : Int32).toInt = 0 := (by decide); omega)) (by first | omega | decide | (have hz0 : (0 : Int32).toInt = 0 := (by decide); omega)) hg_b_sp) (cwV 3 hts g_X8_isFree__f_X8_part__f rfl rfl rfl (by decide +kernel) ⟨Nat.le_of_ble_eq_true rfl, Nat.le_of_ble_eq_true rfl⟩) ⟨fun a U g mk q => by obtain ⟨q0, qP, qK⟩ := q; exact ⟨q0, qP, va_K.moved (u := U) (U := U.calling g mk a) (Vm.Alike.refl U.vm) qK⟩, va_recv hKc hPc (ci := 8) (q0 := 0) rfl rfl, fun U hU hW => ⟨rfl, by rw [hU]; exact hPc, va_K.moved hW.alike hKc⟩⟩ rfl rfl hl.1 rfl (lv_room (Nat.le_of_ble_eq_true rfl)) dX8_isFree_18 ⟨Nat.le_of_ble_eq_true rfl, Nat.le_of_ble_eq_true rfl⟩) hS (fun _ _ h => h.elim) (fun _ h => h.elim) (fun r36 u t H1 locs ht hvm hw hB hz1 hk1 hS => ?_)
    have hP := pw_keep hP (fun q hq => hk1 q hq (fun h => h))
    generalize H1 = H at hP hS ⊢
    refine W.widen (k := 0) (n := 0) (Nat.le_of_ble_eq_true rfl) (Nat.le_of_ble_eq_true rfl) ?_
    have hfr36 := hw
    refine lv_istore (lv' := [(6, .int r36), (0, .ref h0), (1, .int i_e), (2, .int (-1)), (3, .int i_fr), (4, .int i_m), (5, .int v32)]) hx hb dX8_isFree_21 hl (by decide) rfl (fun ls hl => ?_)
    refine lv_iload_n hx hb dX8_isFree_23 rfl (lv_at hl 4 rfl) ?_
    refine lv_iload hx hb dX8_isFree_24 (lv_at hl 5 rfl) ?_
    refine lv_iadd hx hb dX8_isFree_26 ?_
    refine lv_topi (fun x37 ex37 => ?_)
    have tx37 : x37.toInt = i_fr.toInt + i_m.toInt := pw_addX ex37 rfl rfl (by omega) (by omega)
    refine lv_iload hx hb dX8_isFree_27 (lv_at hl 0 rfl) ?_
    refine lv_icmp_le (tgt := 47) hx hb dX8_isFree_29 (by decide) (fun c38 => ?_) (fun c38 => ?_)
    · have nc38 : x37.toInt ≤ r36.toInt := pw_le c38 rfl rfl
      have mc38x37 := pw_max x37
      have mc38r36 := pw_max r36
      refine lv_iconst (v := 1) hx hb dX8_isFree_47 (by decide) ?_
      refine lv_goto (tgt := 52) hx hb dX8_isFree_48 (by decide) ?_
      refine lv_istore (lv' := [(7, .int 1), (6, .int r36), (0, .ref h0), (1, .int i_e), (2, .int (-1)), (3, .int i_fr), (4, .int i_m), (5, .int v32)]) hx hb dX8_isFree_52 hl (by decide) rfl (fun ls hl => ?_)
      refine lv_iload hx hb dX8_isFree_54 (lv_at hl 7 rfl) ?_
      refine lv_iload_n hx hb dX8_isFree_56 rfl (lv_at hl 4 rfl) ?_
      refine lv_icmp_eq (tgt := 67) hx hb dX8_isFree_57 (by decide) (fun c39 => False.elim (by have nn : v32.toInt = (-1) := pw_eq c39 rfl (by decide); omega)) (fun c39 => ?_)
      have nc39 : v32.toInt ≠ (-1) := pw_ne c39 rfl (by decide)
      refine lv_iload hx hb dX8_isFree_60 (lv_at hl 0 rfl) ?_
      refine lv_if_ne (tgt := 67) hx hb dX8_isFree_62 (by decide) (fun c40 => ?_) (fun c40 => absurd c40 (by decide))
      obtain ⟨x41, ex41⟩ : ∃ y : Int32, y = v32 + 1 := ⟨_, rfl⟩
      refine lv_iinc (v := x41) (lv' := [(5, .int x41), (7, .int 1), (6, .int r36), (0, .ref h0), (1, .int i_e), (2, .int (-1)), (3, .int i_fr), (4, .int i_m)]) hx hb dX8_isFree_67 hl (k := 7) rfl (by rw [ex41]; rfl) (by decide) rfl (fun ls hl => ?_)
      refine lv_goto (tgt := 3) hx hb dX8_isFree_70 (by decide) ?_
      have hP9 : va_P D vwCl [(h0, .inr (8, [.ref b_sc, .ref b_sp, .ref b_cp, .ref b_sn, .ref b_sl, .int i_li, .int i_ed, .int i_se])), (b_sc, .inl (kI, 5, .inl g_b_sc)), (b_sp, .inl (kI, 120, .inl g_b_sp))] H := hP.sub [0, 1, 2] rfl
      have hl9 : lv_has ls 8 [(0, .ref h0), (1, .int i_e), (2, .int (-1)), (3, .int i_fr), (4, .int i_m), (5, .int x41)] := lv_sub hl [3, 4, 5, 6, 7, 0] rfl
      refine W.widen (k := 0) (n := 0) (Nat.le_of_ble_eq_true rfl) (Nat.le_of_ble_eq_true rfl) ?_
      exact ih33 x41 _ _ _ (pw_up ex41 (by omega)) ⟨hP9, hS, hl9, (pw_upge ex41 (by omega) (by omega)), (frI_up1 (a := r36.toInt) hdR hfr (by omega) (by omega) (by omega) (by omega) (pw_add1 ex41 (by omega)))⟩
    · have nc38 : r36.toInt < x37.toInt := pw_nle c38 rfl rfl
      have mc38x37 := pw_max x37
      have mc38r36 := pw_max r36
      refine lv_iload hx hb dX8_isFree_32 (lv_at hl 0 rfl) ?_
      refine lv_aload_n hx hb dX8_isFree_34 rfl (lv_at hl 1 rfl) ?_
      refine lv_iload_n hx hb dX8_isFree_35 rfl (lv_at hl 2 rfl) ?_
      refine lv_iload hx hb dX8_isFree_36 (lv_at hl 6 rfl) ?_
      refine lv_iconst (v := 2) hx hb dX8_isFree_38 (by decide) ?_
      have kk2 : (2 : Int32).toInt = 2 := by decide
      have hPc := hP.sub (ws' := [(h0, .inr (8, [.ref b_sc, .ref b_sp, .ref b_cp, .ref b_sn, .ref b_sl, .int i_li, .int i_ed, .int i_se])), (b_sp, .inl (kI, 120, .inl g_b_sp))]) [0, 2] rfl
      have hKc := hK.sub (tys' := [(kI, .int)]) [0] rfl
      refine va_calli (va_runV (As := [.int i_e, .int v32, .int 2]) (rest := [.int r36]) ⟨hx, hb, hml, hown, hts⟩ (c_X8_part__f l D h0 i_e v32 2 b_sc b_sp b_cp b_sn b_sl i_li i_ed i_se kI g_b_sp ke v32.toInt.toNat 2 (by first | decide | omega) (by first | decide | omega) (by first | decide | omega) (by first | decide | omega) (by first | decide | omega) (by first | decide | omega) (by first | omega | decide | (have hz0 : (0 : Int32).toInt = 0 := (by decide); omega)) (by first | omega | decide | (have hz0 : (0 : Int32).toInt = 0 := (by decide); omega)) (by first | omega | decide | (have hz0 : (0 : Int32).toInt = 0 := (by decide); omega)) hg_b_sp) (cwV 3 hts g_X8_isFree__f_X8_part__f rfl rfl rfl (by decide +kernel) ⟨Nat.le_of_ble_eq_true rfl, Nat.le_of_ble_eq_true rfl⟩) ⟨fun a U g mk q => by obtain ⟨q0, qP, qK⟩ := q; exact ⟨q0, qP, va_K.moved (u := U) (U := U.calling g mk a) (Vm.Alike.refl U.vm) qK⟩, va_recv hKc hPc (ci := 8) (q0 := 0) rfl rfl, fun U hU hW => ⟨rfl, by rw [hU]; exact hPc, va_K.moved hW.alike hKc⟩⟩ rfl rfl hl.1 rfl (lv_room (Nat.le_of_ble_eq_true rfl)) dX8_isFree_39 ⟨Nat.le_of_ble_eq_true rfl, Nat.le_of_ble_eq_true rfl⟩) hS (fun _ _ h => h.elim) (fun _ h => h.elim) (fun r42 u t H1 locs ht hvm hw hB hz1 hk1 hS => ?_)
      have hP := pw_keep hP (fun q hq => hk1 q hq (fun h => h))
      generalize H1 = H at hP hS ⊢
      refine W.widen (k := 0) (n := 0) (Nat.le_of_ble_eq_true rfl) (Nat.le_of_ble_eq_true rfl) ?_
      have hfr42 := hw
      refine lv_iadd hx hb dX8_isFree_42 ?_
      refine lv_topi (fun x43 ex43 => ?_)
      have tx43 : x43.toInt = r36.toInt + r42.toInt := pw_addX ex43 rfl rfl (by omega) (by omega)
      refine lv_iload_n hx hb dX8_isFree_43 rfl (lv_at hl 4 rfl) ?_
      refine lv_icmp_gt (tgt := 51) hx hb dX8_isFree_44 (by decide) (fun c44 => ?_) (fun c44 => ?_)
      · have nc44 : i_fr.toInt < x43.toInt := pw_lt c44 rfl rfl
        have mc44x43 := pw_max x43
        have mc44i_fr := pw_max i_fr
        refine lv_iconst (v := 0) hx hb dX8_isFree_51 (by decide) ?_
        refine lv_istore (lv' := [(7, .int 0), (6, .int r36), (0, .ref h0), (1, .int i_e), (2, .int (-1)), (3, .int i_fr), (4, .int i_m), (5, .int v32)]) hx hb dX8_isFree_52 hl (by decide) rfl (fun ls hl => ?_)
        refine lv_iload hx hb dX8_isFree_54 (lv_at hl 7 rfl) ?_
        refine lv_iload_n hx hb dX8_isFree_56 rfl (lv_at hl 4 rfl) ?_
        refine lv_icmp_eq (tgt := 67) hx hb dX8_isFree_57 (by decide) (fun c45 => False.elim (by have nn : v32.toInt = (-1) := pw_eq c45 rfl (by decide); omega)) (fun c45 => ?_)
        have nc45 : v32.toInt ≠ (-1) := pw_ne c45 rfl (by decide)
        refine lv_iload hx hb dX8_isFree_60 (lv_at hl 0 rfl) ?_
        refine lv_if_ne (tgt := 67) hx hb dX8_isFree_62 (by decide) (fun c46 => absurd (by decide) c46) (fun c46 => ?_)
        refine lv_iconst (v := 0) hx hb dX8_isFree_65 (by decide) ?_
        exact W.zret (v := 0) (ty := .boolean) hx hb hr rfl (fun t ht hW => ⟨⟨0, (), rfl, ⟨Or.inl rfl, (by rw [frI_no (a := r36.toInt) (b := r42.toInt) (s := v32.toInt) hdR (by omega) (by omega) (by omega) (by omega) (by omega)]; decide)⟩, trivial⟩, hS.F ht⟩) hS.2.2 dX8_isFree_66
      · have nc44 : x43.toInt ≤ i_fr.toInt := pw_nlt c44 rfl rfl
        have mc44x43 := pw_max x43
        have mc44i_fr := pw_max i_fr
        refine lv_iconst (v := 1) hx hb dX8_isFree_47 (by decide) ?_
        refine lv_goto (tgt := 52) hx hb dX8_isFree_48 (by decide) ?_
        refine lv_istore (lv' := [(7, .int 1), (6, .int r36), (0, .ref h0), (1, .int i_e), (2, .int (-1)), (3, .int i_fr), (4, .int i_m), (5, .int v32)]) hx hb dX8_isFree_52 hl (by decide) rfl (fun ls hl => ?_)
        refine lv_iload hx hb dX8_isFree_54 (lv_at hl 7 rfl) ?_
        refine lv_iload_n hx hb dX8_isFree_56 rfl (lv_at hl 4 rfl) ?_
        refine lv_icmp_eq (tgt := 67) hx hb dX8_isFree_57 (by decide) (fun c47 => False.elim (by have nn : v32.toInt = (-1) := pw_eq c47 rfl (by decide); omega)) (fun c47 => ?_)
        have nc47 : v32.toInt ≠ (-1) := pw_ne c47 rfl (by decide)
        refine lv_iload hx hb dX8_isFree_60 (lv_at hl 0 rfl) ?_
        refine lv_if_ne (tgt := 67) hx hb dX8_isFree_62 (by decide) (fun c48 => ?_) (fun c48 => absurd c48 (by decide))
        obtain ⟨x49, ex49⟩ : ∃ y : Int32, y = v32 + 1 := ⟨_, rfl⟩
        refine lv_iinc (v := x49) (lv' := [(5, .int x49), (7, .int 1), (6, .int r36), (0, .ref h0), (1, .int i_e), (2, .int (-1)), (3, .int i_fr), (4, .int i_m)]) hx hb dX8_isFree_67 hl (k := 7) rfl (by rw [ex49]; rfl) (by decide) rfl (fun ls hl => ?_)
        refine lv_goto (tgt := 3) hx hb dX8_isFree_70 (by decide) ?_
        have hP9 : va_P D vwCl [(h0, .inr (8, [.ref b_sc, .ref b_sp, .ref b_cp, .ref b_sn, .ref b_sl, .int i_li, .int i_ed, .int i_se])), (b_sc, .inl (kI, 5, .inl g_b_sc)), (b_sp, .inl (kI, 120, .inl g_b_sp))] H := hP.sub [0, 1, 2] rfl
        have hl9 : lv_has ls 8 [(0, .ref h0), (1, .int i_e), (2, .int (-1)), (3, .int i_fr), (4, .int i_m), (5, .int x49)] := lv_sub hl [3, 4, 5, 6, 7, 0] rfl
        refine W.widen (k := 0) (n := 0) (Nat.le_of_ble_eq_true rfl) (Nat.le_of_ble_eq_true rfl) ?_
        exact ih33 x49 _ _ _ (pw_up ex49 (by omega)) ⟨hP9, hS, hl9, (pw_upge ex49 (by omega) (by omega)), (frI_up (a := r36.toInt) (b := r42.toInt) hdR hfr (by omega) (by omega) (by omega) (by omega) (by omega) (pw_add1 ex49 (by omega)))⟩
def w_X8_hasLine__f : List Cond := .code yX8_hasLine cX8_hasLine 2 (some .boolean) :: ([.fieldLink RX8 33 "LineCites$Work" "lines" "I"] ++ wsX80)
set_option maxHeartbeats 4000000 in
set_option maxRecDepth 100000 in
theorem c_X8_hasLine__f (l : Launch) (D : va_G) (h0 : Nat) (i_n : Int32) (b_sc : Nat) (b_sp : Nat) (b_cp : Nat) (b_sn : Nat) (b_sl : Nat) (i_li : Int32) (i_ed : Int32) (i_se : Int32) : Met l yX8_hasLine w_X8_hasLine__f ({ frames := 0, cells := 0, slots := 0, locals := 0 }) (va_Pc [.ref h0, .int i_n] (fun U => va_P D vwCl [(h0, .inr (8, [.ref b_sc, .ref b_sp, .ref b_cp, .ref b_sn, .ref b_sl, .int i_li, .int i_ed, .int i_se]))] U.heap ∧ va_K D vwCl [] U)) (va_Qi (fun (r : Int32) (_ : Unit) => (r = 0 ∨ r = 1) ∧ ((r.toInt = 1 ∧ 0 ≤ i_n.toInt ∧ i_n.toInt < i_li.toInt) ∨ (r.toInt = 0 ∧ (i_n.toInt < 0 ∨ i_li.toInt ≤ i_n.toInt)))) (fun _ _ => True) (fun _ => False)) 0 0 (fun _ => False) := by
  refine Met.ofW (cc := cX8_hasLine) (maxL := 2) (ret := (some .boolean)) (by decide) rfl ?_
  intro p e s m args below meth c s₁ B hml hv
  obtain ⟨rfl, hP, hK⟩ := hv
  have hx := B.exec
  have hb := B.bytes
  have hr := B.returns
  have hts := atoms_spec (ws := w_X8_hasLine__f) B.pre
  have hown : s.vm.findClass RX8 = some m.cls := findClass_of_methodNamed B.named
  have hlocks := B.notSynchronized
  have hS : va_S (fun _ : Nat => False) s.heap s.heap [] := va_S.rf
  have hP : va_P D vwCl [(h0, .inr (8, [.ref b_sc, .ref b_sp, .ref b_cp, .ref b_sn, .ref b_sl, .int i_li, .int i_ed, .int i_se]))] s.heap := hP
  have hl := lv_entry ([.ref h0, .int i_n]) (n := 2) (Nat.le_of_ble_eq_true rfl)
  rw [lg_entry_eq]
  generalize (lg_sl ([.ref h0, .int i_n]) ++ List.replicate (2 - (lg_sl ([.ref h0, .int i_n])).length) Slot.unset).toArray = ls at hl ⊢
  have hl : lv_has ls 2 [(0, .ref h0), (1, .int i_n)] := hl
  obtain ⟨H, hHe⟩ : ∃ H : Heap, H = s.heap := ⟨_, rfl⟩
  rw [← hHe] at hP
  have hS : va_S (fun _ : Nat => False) s.heap H [] := by rw [hHe]; exact hS
  refine pw_heap hHe ?_
  refine lv_iload_n hx hb dX8_hasLine_0 rfl (lv_at hl 1 rfl) ?_
  refine lv_if_lt (tgt := 16) hx hb dX8_hasLine_1 (by decide) (fun c1 => ?_) (fun c1 => ?_)
  · have nc1 : i_n.toInt < 0 := pw_lt c1 rfl (by decide)
    refine lv_iconst (v := 0) hx hb dX8_hasLine_16 (by decide) ?_
    exact W.zret (v := 0) (ty := .boolean) hx hb hr rfl (fun t ht hW => ⟨⟨0, (), rfl, ⟨Or.inl rfl, (by have hv : (0 : Int32).toInt = 0 := (by decide); omega)⟩, trivial⟩, hS.F ht⟩) hS.2.2 dX8_hasLine_17
  · have nc1 : 0 ≤ i_n.toInt := pw_nlt c1 rfl (by decide)
    refine lv_iload_n hx hb dX8_hasLine_4 rfl (lv_at hl 1 rfl) ?_
    refine lv_aload_n hx hb dX8_hasLine_5 rfl (lv_at hl 0 rfl) ?_
    refine va_get (D := D) (ci := 8) (v := .int i_li) (C := RX8) (T := TX8) (N := 8) hx hb hts (fun _ h => List.mem_cons_of_mem _ (List.mem_append_right _ h)) hown hK hP 0 rfl rfl 5 (by decide) (hts (.fieldLink RX8 33 "LineCites$Work" "lines" "I") (List.mem_of_getElem? (i := 1) rfl)) (fun _ h9 => h9) rfl dX8_hasLine_6 ?_
    refine lv_icmp_ge (tgt := 16) hx hb dX8_hasLine_9 (by decide) (fun c2 => ?_) (fun c2 => ?_)
    · have nc2 : i_li.toInt ≤ i_n.toInt := pw_le c2 rfl rfl
      have mc2i_n := pw_max i_n
      have mc2i_li := pw_max i_li
      refine lv_iconst (v := 0) hx hb dX8_hasLine_16 (by decide) ?_
      exact W.zret (v := 0) (ty := .boolean) hx hb hr rfl (fun t ht hW => ⟨⟨0, (), rfl, ⟨Or.inl rfl, (by have hv : (0 : Int32).toInt = 0 := (by decide); omega)⟩, trivial⟩, hS.F ht⟩) hS.2.2 dX8_hasLine_17
    · have nc2 : i_n.toInt < i_li.toInt := pw_nle c2 rfl rfl
      have mc2i_n := pw_max i_n
      have mc2i_li := pw_max i_li
      refine lv_iconst (v := 1) hx hb dX8_hasLine_12 (by decide) ?_
      refine lv_goto (tgt := 17) hx hb dX8_hasLine_13 (by decide) ?_
      exact W.zret (v := 1) (ty := .boolean) hx hb hr rfl (fun t ht hW => ⟨⟨1, (), rfl, ⟨Or.inr rfl, (by have hv : (1 : Int32).toInt = 1 := (by decide); omega)⟩, trivial⟩, hS.F ht⟩) hS.2.2 dX8_hasLine_17
def w_X8_fromFits__f : List Cond := .code yX8_fromFits cX8_fromFits 4 (some .boolean) :: ([.methodLink RX8 77 yX8_hasLine, .instanceMethod yX8_hasLine, .selects RX8 yX8_hasLine yX8_hasLine, .initialized RX8, .code yX8_hasLine cX8_hasLine 2 (some .boolean), .fieldLink RX8 33 "LineCites$Work" "lines" "I", .methodLink RX8 80 yX8_isFree, .instanceMethod yX8_isFree, .selects RX8 yX8_isFree yX8_isFree, .code yX8_isFree cX8_isFree 8 (some .boolean), .methodLink RX8 47 yX8_stretchesOf, .instanceMethod yX8_stretchesOf, .selects RX8 yX8_stretchesOf yX8_stretchesOf, .code yX8_stretchesOf cX8_stretchesOf 2 (some .int), .methodLink RX8 43 yX8_hasEdition, .instanceMethod yX8_hasEdition, .selects RX8 yX8_hasEdition yX8_hasEdition, .code yX8_hasEdition cX8_hasEdition 2 (some .boolean), .fieldLink RX8 37 "LineCites$Work" "editions" "I", .fieldLink RX8 9 "LineCites$Work" "stretchCounts" "[I", .methodLink RX8 63 yX8_part, .instanceMethod yX8_part, .selects RX8 yX8_part yX8_part, .code yX8_part cX8_part 5 (some .int), .methodLink RX8 51 yX8_placeOf, .static yX8_placeOf, .code yX8_placeOf cX8_placeOf 3 (some .int), .fieldLink RX8 15 "LineCites$Work" "stretchParts" "[I"] ++ wsX80)
set_option maxRecDepth 20000 in
theorem g_X8_fromFits__f_X8_hasLine__f : GoodIn w_X8_fromFits__f (wsV RX8 77 RX8 yX8_hasLine w_X8_hasLine__f) := goodIn_r _ [1, 2, 3, 4, 5, 6, 29, 30, 31, 32, 33, 34, 35, 36] rfl (by decide +kernel)
set_option maxRecDepth 20000 in
theorem g_X8_fromFits__f_X8_isFree__f : GoodIn w_X8_fromFits__f (wsV RX8 80 RX8 yX8_isFree w_X8_isFree__f) := goodIn_r _ [7, 8, 9, 4, 10, 11, 12, 13, 4, 14, 15, 16, 17, 18, 19, 20, 21, 22, 23, 24, 25, 26, 27, 28, 29, 30, 31, 32, 33, 34, 35, 36] rfl (by decide +kernel)
set_option maxHeartbeats 4000000 in
set_option maxRecDepth 100000 in
theorem c_X8_fromFits__f (l : Launch) (D : va_G) (h0 : Nat) (i_e : Int32) (i_fr : Int32) (b_sc : Nat) (b_sp : Nat) (b_cp : Nat) (b_sn : Nat) (b_sl : Nat) (i_li : Int32) (i_ed : Int32) (i_se : Int32) (kI : ClassId) (g_b_sc : Nat → Int32) (g_b_sp : Nat → Int32) (ke : Nat) (ps : List (Int × Int)) (hnke : i_e.toInt = ((ke : Nat) : Int)) (hee : i_e.toInt < i_ed.toInt) (he5 : i_ed.toInt ≤ 5) (hdR : dR g_b_sc g_b_sp ke ps) (h0i_li : 0 ≤ i_li.toInt) (h1i_li : i_li.toInt ≤ 200) (h0i_fr : 0 ≤ i_fr.toInt) (h1i_fr : i_fr.toInt ≤ 999) (hg_b_sp : bP g_b_sp) : Met l yX8_fromFits w_X8_fromFits__f ({ frames := 3, cells := 0, slots := 0, locals := 73 }) (va_Pc [.ref h0, .int i_e, .int (-1), .int i_fr] (fun U => va_P D vwCl [(h0, .inr (8, [.ref b_sc, .ref b_sp, .ref b_cp, .ref b_sn, .ref b_sl, .int i_li, .int i_ed, .int i_se])), (b_sc, .inl (kI, 5, .inl g_b_sc)), (b_sp, .inl (kI, 120, .inl g_b_sp))] U.heap ∧ va_K D vwCl [(kI, .int)] U)) (va_Qi (fun (r : Int32) (_ : Unit) => (r = 0 ∨ r = 1) ∧ r.toInt = bI (uFrom i_li.toInt ps i_fr.toInt)) (fun _ _ => True) (fun _ => False)) 0 0 (fun _ => False) := by
  refine Met.ofW (cc := cX8_fromFits) (maxL := 4) (ret := (some .boolean)) (by decide) rfl ?_
  intro p e s m args below meth c s₁ B hml hv
  obtain ⟨rfl, hP, hK⟩ := hv
  have hx := B.exec
  have hb := B.bytes
  have hr := B.returns
  have hts := atoms_spec (ws := w_X8_fromFits__f) B.pre
  have hown : s.vm.findClass RX8 = some m.cls := findClass_of_methodNamed B.named
  have hlocks := B.notSynchronized
  have hS : va_S (fun _ : Nat => False) s.heap s.heap [] := va_S.rf
  have hP : va_P D vwCl [(h0, .inr (8, [.ref b_sc, .ref b_sp, .ref b_cp, .ref b_sn, .ref b_sl, .int i_li, .int i_ed, .int i_se])), (b_sc, .inl (kI, 5, .inl g_b_sc)), (b_sp, .inl (kI, 120, .inl g_b_sp))] s.heap := hP
  have hl := lv_entry ([.ref h0, .int i_e, .int (-1), .int i_fr]) (n := 4) (Nat.le_of_ble_eq_true rfl)
  rw [lg_entry_eq]
  generalize (lg_sl ([.ref h0, .int i_e, .int (-1), .int i_fr]) ++ List.replicate (4 - (lg_sl ([.ref h0, .int i_e, .int (-1), .int i_fr])).length) Slot.unset).toArray = ls at hl ⊢
  have hl : lv_has ls 4 [(0, .ref h0), (1, .int i_e), (2, .int (-1)), (3, .int i_fr)] := hl
  obtain ⟨H, hHe⟩ : ∃ H : Heap, H = s.heap := ⟨_, rfl⟩
  rw [← hHe] at hP
  have hS : va_S (fun _ : Nat => False) s.heap H [] := by rw [hHe]; exact hS
  refine pw_heap hHe ?_
  refine lv_aload_n hx hb dX8_fromFits_0 rfl (lv_at hl 0 rfl) ?_
  refine lv_iload_n hx hb dX8_fromFits_1 rfl (lv_at hl 3 rfl) ?_
  have hPc := hP.sub (ws' := [(h0, .inr (8, [.ref b_sc, .ref b_sp, .ref b_cp, .ref b_sn, .ref b_sl, .int i_li, .int i_ed, .int i_se]))]) [0] rfl
  have hKc := hK.sub (tys' := []) [] rfl
  refine va_calli (va_runV (As := [.int i_fr]) (rest := []) ⟨hx, hb, hml, hown, hts⟩ (c_X8_hasLine__f l D h0 i_fr b_sc b_sp b_cp b_sn b_sl i_li i_ed i_se) (cwV 1 hts g_X8_fromFits__f_X8_hasLine__f rfl rfl rfl (by decide +kernel) ⟨Nat.le_of_ble_eq_true rfl, Nat.le_of_ble_eq_true rfl⟩) ⟨fun a U g mk q => by obtain ⟨q0, qP, qK⟩ := q; exact ⟨q0, qP, va_K.moved (u := U) (U := U.calling g mk a) (Vm.Alike.refl U.vm) qK⟩, va_recv hKc hPc (ci := 8) (q0 := 0) rfl rfl, fun U hU hW => ⟨rfl, by rw [hU]; exact hPc, va_K.moved hW.alike hKc⟩⟩ rfl rfl hl.1 rfl (lv_room (Nat.le_of_ble_eq_true rfl)) dX8_fromFits_2 ⟨Nat.le_of_ble_eq_true rfl, Nat.le_of_ble_eq_true rfl⟩) hS (fun _ _ h => h.elim) (fun _ h => h.elim) (fun r1 u t H1 locs ht hvm hw hB hz1 hk1 hS => ?_)
  have hP := pw_keep hP (fun q hq => hk1 q hq (fun h => h))
  generalize H1 = H at hP hS ⊢
  refine W.widen (k := 0) (n := 0) (Nat.le_of_ble_eq_true rfl) (Nat.le_of_ble_eq_true rfl) ?_
  have bor1 := hw.1
  have zor1 := pw_boolI bor1
  have hfr1 := hw.2
  refine lv_if_eq (tgt := 23) hx hb dX8_fromFits_5 (by decide) (fun c2 => ?_) (fun c2 => ?_)
  · have nc2 : r1.toInt = 0 := pw_eq c2 rfl (by decide)
    refine lv_iconst (v := 0) hx hb dX8_fromFits_23 (by decide) ?_
    exact W.zret (v := 0) (ty := .boolean) hx hb hr rfl (fun t ht hW => ⟨⟨0, (), rfl, ⟨Or.inl rfl, (by rw [uFrom_no (by omega)]; decide)⟩, trivial⟩, hS.F ht⟩) hS.2.2 dX8_fromFits_24
  · have nc2 : r1.toInt ≠ 0 := pw_ne c2 rfl (by decide)
    refine lv_aload_n hx hb dX8_fromFits_8 rfl (lv_at hl 0 rfl) ?_
    refine lv_iload_n hx hb dX8_fromFits_9 rfl (lv_at hl 1 rfl) ?_
    refine lv_iload_n hx hb dX8_fromFits_10 rfl (lv_at hl 2 rfl) ?_
    refine lv_iload_n hx hb dX8_fromFits_11 rfl (lv_at hl 3 rfl) ?_
    refine lv_iconst (v := 1) hx hb dX8_fromFits_12 (by decide) ?_
    have kkm1 : ((-1) : Int32).toInt = (-1) := by decide
    have kk1 : (1 : Int32).toInt = 1 := by decide
    have hPc := hP.sub (ws' := [(h0, .inr (8, [.ref b_sc, .ref b_sp, .ref b_cp, .ref b_sn, .ref b_sl, .int i_li, .int i_ed, .int i_se])), (b_sc, .inl (kI, 5, .inl g_b_sc)), (b_sp, .inl (kI, 120, .inl g_b_sp))]) [0, 1, 2] rfl
    have hKc := hK.sub (tys' := [(kI, .int)]) [0] rfl
    refine va_calli (va_runV (As := [.int i_e, .int (-1), .int i_fr, .int 1]) (rest := []) ⟨hx, hb, hml, hown, hts⟩ (c_X8_isFree__f l D h0 i_e i_fr 1 b_sc b_sp b_cp b_sn b_sl i_li i_ed i_se kI g_b_sc g_b_sp ke ps (by first | omega | decide | (have hz0 : (0 : Int32).toInt = 0 := (by decide); omega)) (by first | omega | decide | (have hz0 : (0 : Int32).toInt = 0 := (by decide); omega)) (by first | omega | decide | (have hz0 : (0 : Int32).toInt = 0 := (by decide); omega)) hdR (by first | decide | omega) (by first | decide | omega) (by first | decide | omega) (by first | decide | omega) hg_b_sp) (cwV 4 hts g_X8_fromFits__f_X8_isFree__f rfl rfl rfl (by decide +kernel) ⟨Nat.le_of_ble_eq_true rfl, Nat.le_of_ble_eq_true rfl⟩) ⟨fun a U g mk q => by obtain ⟨q0, qP, qK⟩ := q; exact ⟨q0, qP, va_K.moved (u := U) (U := U.calling g mk a) (Vm.Alike.refl U.vm) qK⟩, va_recv hKc hPc (ci := 8) (q0 := 0) rfl rfl, fun U hU hW => ⟨rfl, by rw [hU]; exact hPc, va_K.moved hW.alike hKc⟩⟩ rfl rfl hl.1 rfl (lv_room (Nat.le_of_ble_eq_true rfl)) dX8_fromFits_13 ⟨Nat.le_of_ble_eq_true rfl, Nat.le_of_ble_eq_true rfl⟩) hS (fun _ _ h => h.elim) (fun _ h => h.elim) (fun r3 u t H1 locs ht hvm hw hB hz1 hk1 hS => ?_)
    have hP := pw_keep hP (fun q hq => hk1 q hq (fun h => h))
    generalize H1 = H at hP hS ⊢
    refine W.widen (k := 0) (n := 0) (Nat.le_of_ble_eq_true rfl) (Nat.le_of_ble_eq_true rfl) ?_
    have bor3 := hw.1
    have zor3 := pw_boolI bor3
    have hfr3 := hw.2
    refine lv_if_eq (tgt := 23) hx hb dX8_fromFits_16 (by decide) (fun c4 => ?_) (fun c4 => ?_)
    · have nc4 : r3.toInt = 0 := pw_eq c4 rfl (by decide)
      refine lv_iconst (v := 0) hx hb dX8_fromFits_23 (by decide) ?_
      exact W.zret (v := 0) (ty := .boolean) hx hb hr rfl (fun t ht hW => ⟨⟨0, (), rfl, ⟨Or.inl rfl, (uFrom_of (by omega) (by omega) (by have h9 := hfr3; rw [show (1 : Int32).toInt = 1 from (by decide)] at h9; have hv : (0 : Int32).toInt = 0 := (by decide); omega))⟩, trivial⟩, hS.F ht⟩) hS.2.2 dX8_fromFits_24
    · have nc4 : r3.toInt ≠ 0 := pw_ne c4 rfl (by decide)
      refine lv_iconst (v := 1) hx hb dX8_fromFits_19 (by decide) ?_
      refine lv_goto (tgt := 24) hx hb dX8_fromFits_20 (by decide) ?_
      exact W.zret (v := 1) (ty := .boolean) hx hb hr rfl (fun t ht hW => ⟨⟨1, (), rfl, ⟨Or.inr rfl, (uFrom_of (by omega) (by omega) (by have h9 := hfr3; rw [show (1 : Int32).toInt = 1 from (by decide)] at h9; have hv : (1 : Int32).toInt = 1 := (by decide); omega))⟩, trivial⟩, hS.F ht⟩) hS.2.2 dX8_fromFits_24
def w_X8_manyFits__f : List Cond := .code yX8_manyFits cX8_manyFits 5 (some .boolean) :: ([.fieldLink RX8 33 "LineCites$Work" "lines" "I", .methodLink RX8 80 yX8_isFree, .instanceMethod yX8_isFree, .selects RX8 yX8_isFree yX8_isFree, .initialized RX8, .code yX8_isFree cX8_isFree 8 (some .boolean), .methodLink RX8 47 yX8_stretchesOf, .instanceMethod yX8_stretchesOf, .selects RX8 yX8_stretchesOf yX8_stretchesOf, .code yX8_stretchesOf cX8_stretchesOf 2 (some .int), .methodLink RX8 43 yX8_hasEdition, .instanceMethod yX8_hasEdition, .selects RX8 yX8_hasEdition yX8_hasEdition, .code yX8_hasEdition cX8_hasEdition 2 (some .boolean), .fieldLink RX8 37 "LineCites$Work" "editions" "I", .fieldLink RX8 9 "LineCites$Work" "stretchCounts" "[I", .methodLink RX8 63 yX8_part, .instanceMethod yX8_part, .selects RX8 yX8_part yX8_part, .code yX8_part cX8_part 5 (some .int), .methodLink RX8 51 yX8_placeOf, .static yX8_placeOf, .code yX8_placeOf cX8_placeOf 3 (some .int), .fieldLink RX8 15 "LineCites$Work" "stretchParts" "[I"] ++ wsX80)
set_option maxRecDepth 20000 in
theorem g_X8_manyFits__f_X8_isFree__f : GoodIn w_X8_manyFits__f (wsV RX8 80 RX8 yX8_isFree w_X8_isFree__f) := goodIn_r _ [2, 3, 4, 5, 6, 7, 8, 9, 5, 10, 11, 12, 13, 14, 15, 16, 17, 18, 19, 20, 21, 22, 23, 24, 25, 26, 27, 28, 29, 30, 31, 32] rfl (by decide +kernel)
set_option maxHeartbeats 4000000 in
set_option maxRecDepth 100000 in
theorem c_X8_manyFits__f (l : Launch) (D : va_G) (h0 : Nat) (i_e : Int32) (i_fr : Int32) (i_m : Int32) (b_sc : Nat) (b_sp : Nat) (b_cp : Nat) (b_sn : Nat) (b_sl : Nat) (i_li : Int32) (i_ed : Int32) (i_se : Int32) (kI : ClassId) (g_b_sc : Nat → Int32) (g_b_sp : Nat → Int32) (ke : Nat) (ps : List (Int × Int)) (hnke : i_e.toInt = ((ke : Nat) : Int)) (hee : i_e.toInt < i_ed.toInt) (he5 : i_ed.toInt ≤ 5) (hdR : dR g_b_sc g_b_sp ke ps) (h0i_li : 0 ≤ i_li.toInt) (h1i_li : i_li.toInt ≤ 200) (h0i_fr : 0 ≤ i_fr.toInt) (h1i_fr : i_fr.toInt ≤ 199) (h0i_m : 0 ≤ i_m.toInt) (h1i_m : i_m.toInt ≤ 999) (hg_b_sp : bP g_b_sp) : Met l yX8_manyFits w_X8_manyFits__f ({ frames := 3, cells := 0, slots := 0, locals := 73 }) (va_Pc [.ref h0, .int i_e, .int (-1), .int i_fr, .int i_m] (fun U => va_P D vwCl [(h0, .inr (8, [.ref b_sc, .ref b_sp, .ref b_cp, .ref b_sn, .ref b_sl, .int i_li, .int i_ed, .int i_se])), (b_sc, .inl (kI, 5, .inl g_b_sc)), (b_sp, .inl (kI, 120, .inl g_b_sp))] U.heap ∧ va_K D vwCl [(kI, .int)] U)) (va_Qi (fun (r : Int32) (_ : Unit) => (r = 0 ∨ r = 1) ∧ r.toInt = bI (uMany i_li.toInt ps i_fr.toInt i_m.toInt)) (fun _ _ => True) (fun _ => False)) 0 0 (fun _ => False) := by
  refine Met.ofW (cc := cX8_manyFits) (maxL := 5) (ret := (some .boolean)) (by decide) rfl ?_
  intro p e s m args below meth c s₁ B hml hv
  obtain ⟨rfl, hP, hK⟩ := hv
  have hx := B.exec
  have hb := B.bytes
  have hr := B.returns
  have hts := atoms_spec (ws := w_X8_manyFits__f) B.pre
  have hown : s.vm.findClass RX8 = some m.cls := findClass_of_methodNamed B.named
  have hlocks := B.notSynchronized
  have hS : va_S (fun _ : Nat => False) s.heap s.heap [] := va_S.rf
  have hP : va_P D vwCl [(h0, .inr (8, [.ref b_sc, .ref b_sp, .ref b_cp, .ref b_sn, .ref b_sl, .int i_li, .int i_ed, .int i_se])), (b_sc, .inl (kI, 5, .inl g_b_sc)), (b_sp, .inl (kI, 120, .inl g_b_sp))] s.heap := hP
  have hl := lv_entry ([.ref h0, .int i_e, .int (-1), .int i_fr, .int i_m]) (n := 5) (Nat.le_of_ble_eq_true rfl)
  rw [lg_entry_eq]
  generalize (lg_sl ([.ref h0, .int i_e, .int (-1), .int i_fr, .int i_m]) ++ List.replicate (5 - (lg_sl ([.ref h0, .int i_e, .int (-1), .int i_fr, .int i_m])).length) Slot.unset).toArray = ls at hl ⊢
  have hl : lv_has ls 5 [(0, .ref h0), (1, .int i_e), (2, .int (-1)), (3, .int i_fr), (4, .int i_m)] := hl
  obtain ⟨H, hHe⟩ : ∃ H : Heap, H = s.heap := ⟨_, rfl⟩
  rw [← hHe] at hP
  have hS : va_S (fun _ : Nat => False) s.heap H [] := by rw [hHe]; exact hS
  refine pw_heap hHe ?_
  refine lv_iload hx hb dX8_manyFits_0 (lv_at hl 4 rfl) ?_
  refine lv_iconst (v := 1) hx hb dX8_manyFits_2 (by decide) ?_
  refine lv_icmp_lt (tgt := 33) hx hb dX8_manyFits_3 (by decide) (fun c1 => ?_) (fun c1 => ?_)
  · have nc1 : i_m.toInt < 1 := pw_lt c1 rfl (by decide)
    refine lv_iconst (v := 0) hx hb dX8_manyFits_33 (by decide) ?_
    exact W.zret (v := 0) (ty := .boolean) hx hb hr rfl (fun t ht hW => ⟨⟨0, (), rfl, ⟨Or.inl rfl, (by rw [uMany_no (by omega)]; decide)⟩, trivial⟩, hS.F ht⟩) hS.2.2 dX8_manyFits_34
  · have nc1 : 1 ≤ i_m.toInt := pw_nlt c1 rfl (by decide)
    refine lv_iload hx hb dX8_manyFits_6 (lv_at hl 4 rfl) ?_
    refine lv_aload_n hx hb dX8_manyFits_8 rfl (lv_at hl 0 rfl) ?_
    refine va_get (D := D) (ci := 8) (v := .int i_li) (C := RX8) (T := TX8) (N := 8) hx hb hts (fun _ h => List.mem_cons_of_mem _ (List.mem_append_right _ h)) hown hK hP 0 rfl rfl 5 (by decide) (hts (.fieldLink RX8 33 "LineCites$Work" "lines" "I") (List.mem_of_getElem? (i := 1) rfl)) (fun _ h9 => h9) rfl dX8_manyFits_9 ?_
    refine lv_iload_n hx hb dX8_manyFits_12 rfl (lv_at hl 3 rfl) ?_
    refine lv_isub hx hb dX8_manyFits_13 ?_
    refine lv_topi (fun x2 ex2 => ?_)
    have tx2 : x2.toInt = i_li.toInt - i_fr.toInt := pw_subX ex2 rfl rfl (by omega) (by omega)
    refine lv_icmp_gt (tgt := 33) hx hb dX8_manyFits_14 (by decide) (fun c3 => ?_) (fun c3 => ?_)
    · have nc3 : x2.toInt < i_m.toInt := pw_lt c3 rfl rfl
      have mc3i_m := pw_max i_m
      have mc3x2 := pw_max x2
      refine lv_iconst (v := 0) hx hb dX8_manyFits_33 (by decide) ?_
      exact W.zret (v := 0) (ty := .boolean) hx hb hr rfl (fun t ht hW => ⟨⟨0, (), rfl, ⟨Or.inl rfl, (by rw [uMany_no (by omega)]; decide)⟩, trivial⟩, hS.F ht⟩) hS.2.2 dX8_manyFits_34
    · have nc3 : i_m.toInt ≤ x2.toInt := pw_nlt c3 rfl rfl
      have mc3i_m := pw_max i_m
      have mc3x2 := pw_max x2
      refine lv_aload_n hx hb dX8_manyFits_17 rfl (lv_at hl 0 rfl) ?_
      refine lv_iload_n hx hb dX8_manyFits_18 rfl (lv_at hl 1 rfl) ?_
      refine lv_iload_n hx hb dX8_manyFits_19 rfl (lv_at hl 2 rfl) ?_
      refine lv_iload_n hx hb dX8_manyFits_20 rfl (lv_at hl 3 rfl) ?_
      refine lv_iload hx hb dX8_manyFits_21 (lv_at hl 4 rfl) ?_
      have kkm1 : ((-1) : Int32).toInt = (-1) := by decide
      have hPc := hP.sub (ws' := [(h0, .inr (8, [.ref b_sc, .ref b_sp, .ref b_cp, .ref b_sn, .ref b_sl, .int i_li, .int i_ed, .int i_se])), (b_sc, .inl (kI, 5, .inl g_b_sc)), (b_sp, .inl (kI, 120, .inl g_b_sp))]) [0, 1, 2] rfl
      have hKc := hK.sub (tys' := [(kI, .int)]) [0] rfl
      refine va_calli (va_runV (As := [.int i_e, .int (-1), .int i_fr, .int i_m]) (rest := []) ⟨hx, hb, hml, hown, hts⟩ (c_X8_isFree__f l D h0 i_e i_fr i_m b_sc b_sp b_cp b_sn b_sl i_li i_ed i_se kI g_b_sc g_b_sp ke ps (by first | omega | decide | (have hz0 : (0 : Int32).toInt = 0 := (by decide); omega)) (by first | omega | decide | (have hz0 : (0 : Int32).toInt = 0 := (by decide); omega)) (by first | omega | decide | (have hz0 : (0 : Int32).toInt = 0 := (by decide); omega)) hdR (by first | decide | omega) (by first | decide | omega) (by first | decide | omega) (by first | decide | omega) hg_b_sp) (cwV 4 hts g_X8_manyFits__f_X8_isFree__f rfl rfl rfl (by decide +kernel) ⟨Nat.le_of_ble_eq_true rfl, Nat.le_of_ble_eq_true rfl⟩) ⟨fun a U g mk q => by obtain ⟨q0, qP, qK⟩ := q; exact ⟨q0, qP, va_K.moved (u := U) (U := U.calling g mk a) (Vm.Alike.refl U.vm) qK⟩, va_recv hKc hPc (ci := 8) (q0 := 0) rfl rfl, fun U hU hW => ⟨rfl, by rw [hU]; exact hPc, va_K.moved hW.alike hKc⟩⟩ rfl rfl hl.1 rfl (lv_room (Nat.le_of_ble_eq_true rfl)) dX8_manyFits_23 ⟨Nat.le_of_ble_eq_true rfl, Nat.le_of_ble_eq_true rfl⟩) hS (fun _ _ h => h.elim) (fun _ h => h.elim) (fun r4 u t H1 locs ht hvm hw hB hz1 hk1 hS => ?_)
      have hP := pw_keep hP (fun q hq => hk1 q hq (fun h => h))
      generalize H1 = H at hP hS ⊢
      refine W.widen (k := 0) (n := 0) (Nat.le_of_ble_eq_true rfl) (Nat.le_of_ble_eq_true rfl) ?_
      have bor4 := hw.1
      have zor4 := pw_boolI bor4
      have hfr4 := hw.2
      refine lv_if_eq (tgt := 33) hx hb dX8_manyFits_26 (by decide) (fun c5 => ?_) (fun c5 => ?_)
      · have nc5 : r4.toInt = 0 := pw_eq c5 rfl (by decide)
        refine lv_iconst (v := 0) hx hb dX8_manyFits_33 (by decide) ?_
        exact W.zret (v := 0) (ty := .boolean) hx hb hr rfl (fun t ht hW => ⟨⟨0, (), rfl, ⟨Or.inl rfl, (uMany_of (by omega) (by omega) (by have h9 := hfr4; have hv : (0 : Int32).toInt = 0 := (by decide); omega))⟩, trivial⟩, hS.F ht⟩) hS.2.2 dX8_manyFits_34
      · have nc5 : r4.toInt ≠ 0 := pw_ne c5 rfl (by decide)
        refine lv_iconst (v := 1) hx hb dX8_manyFits_29 (by decide) ?_
        refine lv_goto (tgt := 34) hx hb dX8_manyFits_30 (by decide) ?_
        exact W.zret (v := 1) (ty := .boolean) hx hb hr rfl (fun t ht hW => ⟨⟨1, (), rfl, ⟨Or.inr rfl, (uMany_of (by omega) (by omega) (by have h9 := hfr4; have hv : (1 : Int32).toInt = 1 := (by decide); omega))⟩, trivial⟩, hS.F ht⟩) hS.2.2 dX8_manyFits_34
def w_X9_isNumber__f : List Cond := .code yX9_isNumber cX9_isNumber 1 (some .boolean) :: ([])
set_option maxHeartbeats 4000000 in
set_option maxRecDepth 100000 in
theorem c_X9_isNumber__f (l : Launch) (D : va_G) (i_n : Int32) : Met l yX9_isNumber w_X9_isNumber__f ({ frames := 0, cells := 0, slots := 0, locals := 0 }) (va_Pc [.int i_n] (fun U => va_P D vwCl [] U.heap ∧ va_K D vwCl [] U)) (va_Qi (fun (r : Int32) (_ : Unit) => (r = 0 ∨ r = 1) ∧ ((r.toInt = 1 ∧ 1 ≤ i_n.toInt ∧ i_n.toInt ≤ 999) ∨ (r.toInt = 0 ∧ (i_n.toInt < 1 ∨ 999 < i_n.toInt)))) (fun _ _ => True) (fun _ => False)) 0 0 (fun _ => False) := by
  refine Met.ofW (cc := cX9_isNumber) (maxL := 1) (ret := (some .boolean)) (by decide) rfl ?_
  intro p e s m args below meth c s₁ B hml hv
  obtain ⟨rfl, hP, hK⟩ := hv
  have hx := B.exec
  have hb := B.bytes
  have hr := B.returns
  have hts := atoms_spec (ws := w_X9_isNumber__f) B.pre
  have hown : s.vm.findClass RX9 = some m.cls := findClass_of_methodNamed B.named
  have hlocks := B.notSynchronized
  have hS : va_S (fun _ : Nat => False) s.heap s.heap [] := va_S.rf
  have hP : va_P D vwCl [] s.heap := hP
  have hl := lv_entry ([.int i_n]) (n := 1) (Nat.le_of_ble_eq_true rfl)
  rw [lg_entry_eq]
  generalize (lg_sl ([.int i_n]) ++ List.replicate (1 - (lg_sl ([.int i_n])).length) Slot.unset).toArray = ls at hl ⊢
  have hl : lv_has ls 1 [(0, .int i_n)] := hl
  obtain ⟨H, hHe⟩ : ∃ H : Heap, H = s.heap := ⟨_, rfl⟩
  rw [← hHe] at hP
  have hS : va_S (fun _ : Nat => False) s.heap H [] := by rw [hHe]; exact hS
  refine pw_heap hHe ?_
  refine lv_iload_n hx hb dX9_isNumber_0 rfl (lv_at hl 0 rfl) ?_
  refine lv_iconst (v := 1) hx hb dX9_isNumber_1 (by decide) ?_
  refine lv_icmp_lt (tgt := 16) hx hb dX9_isNumber_2 (by decide) (fun c1 => ?_) (fun c1 => ?_)
  · have nc1 : i_n.toInt < 1 := pw_lt c1 rfl (by decide)
    refine lv_iconst (v := 0) hx hb dX9_isNumber_16 (by decide) ?_
    exact W.zret (v := 0) (ty := .boolean) hx hb hr rfl (fun t ht hW => ⟨⟨0, (), rfl, ⟨Or.inl rfl, (by have hv : (0 : Int32).toInt = 0 := (by decide); omega)⟩, trivial⟩, hS.F ht⟩) hS.2.2 dX9_isNumber_17
  · have nc1 : 1 ≤ i_n.toInt := pw_nlt c1 rfl (by decide)
    refine lv_iload_n hx hb dX9_isNumber_5 rfl (lv_at hl 0 rfl) ?_
    refine lv_sipush (v := 999) hx hb dX9_isNumber_6 (by decide) ?_
    refine lv_icmp_gt (tgt := 16) hx hb dX9_isNumber_9 (by decide) (fun c2 => ?_) (fun c2 => ?_)
    · have nc2 : 999 < i_n.toInt := pw_lt c2 (by decide) rfl
      refine lv_iconst (v := 0) hx hb dX9_isNumber_16 (by decide) ?_
      exact W.zret (v := 0) (ty := .boolean) hx hb hr rfl (fun t ht hW => ⟨⟨0, (), rfl, ⟨Or.inl rfl, (by have hv : (0 : Int32).toInt = 0 := (by decide); omega)⟩, trivial⟩, hS.F ht⟩) hS.2.2 dX9_isNumber_17
    · have nc2 : i_n.toInt ≤ 999 := pw_nlt c2 (by decide) rfl
      refine lv_iconst (v := 1) hx hb dX9_isNumber_12 (by decide) ?_
      refine lv_goto (tgt := 17) hx hb dX9_isNumber_13 (by decide) ?_
      exact W.zret (v := 1) (ty := .boolean) hx hb hr rfl (fun t ht hW => ⟨⟨1, (), rfl, ⟨Or.inr rfl, (by have hv : (1 : Int32).toInt = 1 := (by decide); omega)⟩, trivial⟩, hS.F ht⟩) hS.2.2 dX9_isNumber_17
def w_X9_lowOf__f : List Cond := .code yX9_lowOf cX9_lowOf 4 (some .int) :: ([])
set_option maxHeartbeats 4000000 in
set_option maxRecDepth 100000 in
theorem c_X9_lowOf__f (l : Launch) (D : va_G) (i_k : Int32) (i_m : Int32) (i_f : Int32) (i_i : Int32) (h0i_f : 0 ≤ i_f.toInt) (h1i_f : i_f.toInt ≤ 999) (h0i_m : 1 ≤ i_m.toInt) (h1i_m : i_m.toInt ≤ 999) (h0i_i : 0 ≤ i_i.toInt) (h1i_i : i_i.toInt < i_m.toInt) : Met l yX9_lowOf w_X9_lowOf__f ({ frames := 0, cells := 0, slots := 0, locals := 0 }) (va_Pc [.int i_k, .int i_m, .int i_f, .int i_i] (fun U => va_P D vwCl [] U.heap ∧ va_K D vwCl [] U)) (va_Qi (fun (r : Int32) (_ : Unit) => 0 ≤ r.toInt ∧ r.toInt ≤ 2995 ∧ i_f.toInt ≤ r.toInt ∧ (i_k.toInt = 1 → r.toInt = i_f.toInt + i_i.toInt) ∧ (i_k.toInt = 2 → r.toInt = i_f.toInt + 2 * i_i.toInt) ∧ (i_k.toInt = 3 → r.toInt = i_f.toInt + i_i.toInt / 2) ∧ (i_k.toInt = 4 → r.toInt = i_f.toInt + i_m.toInt - 1 - i_i.toInt) ∧ (i_k.toInt = 5 → r.toInt = i_f.toInt)) (fun _ _ => True) (fun _ => False)) 0 0 (fun _ => False) := by
  refine Met.ofW (cc := cX9_lowOf) (maxL := 4) (ret := (some .int)) (by decide) rfl ?_
  intro p e s m args below meth c s₁ B hml hv
  obtain ⟨rfl, hP, hK⟩ := hv
  have hx := B.exec
  have hb := B.bytes
  have hr := B.returns
  have hts := atoms_spec (ws := w_X9_lowOf__f) B.pre
  have hown : s.vm.findClass RX9 = some m.cls := findClass_of_methodNamed B.named
  have hlocks := B.notSynchronized
  have hS : va_S (fun _ : Nat => False) s.heap s.heap [] := va_S.rf
  have hP : va_P D vwCl [] s.heap := hP
  have hl := lv_entry ([.int i_k, .int i_m, .int i_f, .int i_i]) (n := 4) (Nat.le_of_ble_eq_true rfl)
  rw [lg_entry_eq]
  generalize (lg_sl ([.int i_k, .int i_m, .int i_f, .int i_i]) ++ List.replicate (4 - (lg_sl ([.int i_k, .int i_m, .int i_f, .int i_i])).length) Slot.unset).toArray = ls at hl ⊢
  have hl : lv_has ls 4 [(0, .int i_k), (1, .int i_m), (2, .int i_f), (3, .int i_i)] := hl
  obtain ⟨H, hHe⟩ : ∃ H : Heap, H = s.heap := ⟨_, rfl⟩
  rw [← hHe] at hP
  have hS : va_S (fun _ : Nat => False) s.heap H [] := by rw [hHe]; exact hS
  refine pw_heap hHe ?_
  refine lv_iload_n hx hb dX9_lowOf_0 rfl (lv_at hl 0 rfl) ?_
  rcases pw_swr_1_4 i_k with h8 | rfl | rfl | rfl | rfl
  · refine lv_tableOut (tgt := 56) hx hb dX9_lowOf_1 h8 (by decide) ?_
    refine lv_iload_n hx hb dX9_lowOf_56 rfl (lv_at hl 2 rfl) ?_
    exact W.iret (v := i_f) hx hb hr (fun t ht hW => ⟨⟨i_f, (), rfl, (by omega), trivial⟩, hS.F ht⟩) hS.2.2 dX9_lowOf_57
  · refine lv_tableIn (tgt := 32) hx hb dX9_lowOf_1 (by decide) (by decide) rfl (by decide) ?_
    refine lv_iload_n hx hb dX9_lowOf_32 rfl (lv_at hl 2 rfl) ?_
    refine lv_iload_n hx hb dX9_lowOf_33 rfl (lv_at hl 3 rfl) ?_
    refine lv_iadd hx hb dX9_lowOf_34 ?_
    refine lv_topi (fun x1 ex1 => ?_)
    have tx1 : x1.toInt = i_f.toInt + i_i.toInt := pw_addX ex1 rfl rfl (by omega) (by omega)
    exact W.iret (v := x1) hx hb hr (fun t ht hW => ⟨⟨x1, (), rfl, (by have hs1 : (1 : Int32).toInt = 1 := (by decide); omega), trivial⟩, hS.F ht⟩) hS.2.2 dX9_lowOf_35
  · refine lv_tableIn (tgt := 36) hx hb dX9_lowOf_1 (by decide) (by decide) rfl (by decide) ?_
    refine lv_iload_n hx hb dX9_lowOf_36 rfl (lv_at hl 2 rfl) ?_
    refine lv_iconst (v := 2) hx hb dX9_lowOf_37 (by decide) ?_
    refine lv_iload_n hx hb dX9_lowOf_38 rfl (lv_at hl 3 rfl) ?_
    refine lv_imul hx hb dX9_lowOf_39 ?_
    refine lv_topi (fun x2 ex2 => ?_)
    have tx2 : x2.toInt = 2 * i_i.toInt := pw_mulX ex2 (by decide) rfl (by omega) (by omega)
    refine lv_iadd hx hb dX9_lowOf_40 ?_
    refine lv_topi (fun x3 ex3 => ?_)
    have tx3 : x3.toInt = i_f.toInt + x2.toInt := pw_addX ex3 rfl rfl (by omega) (by omega)
    exact W.iret (v := x3) hx hb hr (fun t ht hW => ⟨⟨x3, (), rfl, (by have hs2 : (2 : Int32).toInt = 2 := (by decide); omega), trivial⟩, hS.F ht⟩) hS.2.2 dX9_lowOf_41
  · refine lv_tableIn (tgt := 42) hx hb dX9_lowOf_1 (by decide) (by decide) rfl (by decide) ?_
    refine lv_iload_n hx hb dX9_lowOf_42 rfl (lv_at hl 2 rfl) ?_
    refine lv_iload_n hx hb dX9_lowOf_43 rfl (lv_at hl 3 rfl) ?_
    refine lv_iconst (v := 2) hx hb dX9_lowOf_44 (by decide) ?_
    refine lv_idiv hx hb dX9_lowOf_45 (by decide) ?_
    refine lv_topi (fun x4 ex4 => ?_)
    have ux4 := pw_half2 ex4 (by omega)
    have tx4 : 0 ≤ x4.toInt ∧ 2 * x4.toInt ≤ i_i.toInt := pw_half ex4 (by omega)
    refine lv_iadd hx hb dX9_lowOf_46 ?_
    refine lv_topi (fun x5 ex5 => ?_)
    have tx5 : x5.toInt = i_f.toInt + x4.toInt := pw_addX ex5 rfl rfl (by omega) (by omega)
    exact W.iret (v := x5) hx hb hr (fun t ht hW => ⟨⟨x5, (), rfl, (by have hs3 : (3 : Int32).toInt = 3 := (by decide); omega), trivial⟩, hS.F ht⟩) hS.2.2 dX9_lowOf_47
  · refine lv_tableIn (tgt := 48) hx hb dX9_lowOf_1 (by decide) (by decide) rfl (by decide) ?_
    refine lv_iload_n hx hb dX9_lowOf_48 rfl (lv_at hl 2 rfl) ?_
    refine lv_iload_n hx hb dX9_lowOf_49 rfl (lv_at hl 1 rfl) ?_
    refine lv_iadd hx hb dX9_lowOf_50 ?_
    refine lv_topi (fun x6 ex6 => ?_)
    have tx6 : x6.toInt = i_f.toInt + i_m.toInt := pw_addX ex6 rfl rfl (by omega) (by omega)
    refine lv_iconst (v := 1) hx hb dX9_lowOf_51 (by decide) ?_
    refine lv_isub hx hb dX9_lowOf_52 ?_
    refine lv_topi (fun x7 ex7 => ?_)
    have tx7 : x7.toInt = x6.toInt - 1 := pw_subX ex7 rfl (by decide) (by omega) (by omega)
    refine lv_iload_n hx hb dX9_lowOf_53 rfl (lv_at hl 3 rfl) ?_
    refine lv_isub hx hb dX9_lowOf_54 ?_
    refine lv_topi (fun x8 ex8 => ?_)
    have tx8 : x8.toInt = x7.toInt - i_i.toInt := pw_subX ex8 rfl rfl (by omega) (by omega)
    exact W.iret (v := x8) hx hb hr (fun t ht hW => ⟨⟨x8, (), rfl, (by have hs4 : (4 : Int32).toInt = 4 := (by decide); omega), trivial⟩, hS.F ht⟩) hS.2.2 dX9_lowOf_55
def w_X9_highOf__f : List Cond := .code yX9_highOf cX9_highOf 5 (some .int) :: ([.methodLink RX9 343 yX9_lowOf, .static yX9_lowOf, .initialized RX9, .code yX9_lowOf cX9_lowOf 4 (some .int)])
set_option maxRecDepth 20000 in
theorem g_X9_highOf__f_X9_lowOf__f : GoodIn w_X9_highOf__f (wsS RX9 343 yX9_lowOf w_X9_lowOf__f) := goodIn_r _ [1, 2, 3, 4] rfl (by decide +kernel)
set_option maxHeartbeats 4000000 in
set_option maxRecDepth 100000 in
theorem c_X9_highOf__f (l : Launch) (D : va_G) (i_k : Int32) (i_m : Int32) (i_f : Int32) (i_i : Int32) (h0i_f : 0 ≤ i_f.toInt) (h1i_f : i_f.toInt ≤ 999) (h0i_m : 1 ≤ i_m.toInt) (h1i_m : i_m.toInt ≤ 999) (h0i_i : 0 ≤ i_i.toInt) (h1i_i : i_i.toInt < i_m.toInt) : Met l yX9_highOf w_X9_highOf__f ({ frames := 1, cells := 0, slots := 0, locals := 23 }) (va_Pc [.int i_k, .int i_m, .int i_f, .int i_i] (fun U => va_P D vwCl [] U.heap ∧ va_K D vwCl [] U)) (va_Qi (fun (r : Int32) (_ : Unit) => 0 ≤ r.toInt ∧ r.toInt ≤ 3000 ∧ i_f.toInt ≤ r.toInt ∧ (i_k.toInt = 1 → r.toInt = i_f.toInt + i_i.toInt) ∧ (i_k.toInt = 2 → r.toInt = i_f.toInt + 2 * i_i.toInt + 1) ∧ (i_k.toInt = 3 → r.toInt = i_f.toInt + i_i.toInt / 2) ∧ (i_k.toInt = 4 → r.toInt = i_f.toInt + i_m.toInt - 1 - i_i.toInt) ∧ (i_k.toInt = 5 → r.toInt = i_f.toInt)) (fun _ _ => True) (fun _ => False)) 0 0 (fun _ => False) := by
  refine Met.ofW (cc := cX9_highOf) (maxL := 5) (ret := (some .int)) (by decide) rfl ?_
  intro p e s m args below meth c s₁ B hml hv
  obtain ⟨rfl, hP, hK⟩ := hv
  have hx := B.exec
  have hb := B.bytes
  have hr := B.returns
  have hts := atoms_spec (ws := w_X9_highOf__f) B.pre
  have hown : s.vm.findClass RX9 = some m.cls := findClass_of_methodNamed B.named
  have hlocks := B.notSynchronized
  have hS : va_S (fun _ : Nat => False) s.heap s.heap [] := va_S.rf
  have hP : va_P D vwCl [] s.heap := hP
  have hl := lv_entry ([.int i_k, .int i_m, .int i_f, .int i_i]) (n := 5) (Nat.le_of_ble_eq_true rfl)
  rw [lg_entry_eq]
  generalize (lg_sl ([.int i_k, .int i_m, .int i_f, .int i_i]) ++ List.replicate (5 - (lg_sl ([.int i_k, .int i_m, .int i_f, .int i_i])).length) Slot.unset).toArray = ls at hl ⊢
  have hl : lv_has ls 5 [(0, .int i_k), (1, .int i_m), (2, .int i_f), (3, .int i_i)] := hl
  obtain ⟨H, hHe⟩ : ∃ H : Heap, H = s.heap := ⟨_, rfl⟩
  rw [← hHe] at hP
  have hS : va_S (fun _ : Nat => False) s.heap H [] := by rw [hHe]; exact hS
  refine pw_heap hHe ?_
  refine lv_iload_n hx hb dX9_highOf_0 rfl (lv_at hl 0 rfl) ?_
  refine lv_iload_n hx hb dX9_highOf_1 rfl (lv_at hl 1 rfl) ?_
  refine lv_iload_n hx hb dX9_highOf_2 rfl (lv_at hl 2 rfl) ?_
  refine lv_iload_n hx hb dX9_highOf_3 rfl (lv_at hl 3 rfl) ?_
  have hPc := hP.sub (ws' := []) [] rfl
  have hKc := hK.sub (tys' := []) [] rfl
  refine va_calli (va_runS (As := [.int i_k, .int i_m, .int i_f, .int i_i]) (rest := []) ⟨hx, hb, hml, hown, hts⟩ (c_X9_lowOf__f l D i_k i_m i_f i_i (by first | decide | omega) (by first | decide | omega) (by first | decide | omega) (by first | decide | omega) (by first | omega | decide | (have hz0 : (0 : Int32).toInt = 0 := (by decide); omega)) (by first | omega | decide | (have hz0 : (0 : Int32).toInt = 0 := (by decide); omega))) (cwS 4 hts g_X9_highOf__f_X9_lowOf__f rfl rfl rfl (by decide +kernel) ⟨Nat.le_of_ble_eq_true rfl, Nat.le_of_ble_eq_true rfl⟩) ⟨fun a U g mk q => by obtain ⟨q0, qP, qK⟩ := q; exact ⟨q0, qP, va_K.moved (u := U) (U := U.calling g mk a) (Vm.Alike.refl U.vm) qK⟩, fun U hU hW => ⟨rfl, by rw [hU]; exact hPc, va_K.moved hW.alike hKc⟩⟩ rfl rfl hl.1 rfl (lv_room (Nat.le_of_ble_eq_true rfl)) dX9_highOf_4 ⟨Nat.le_of_ble_eq_true rfl, Nat.le_of_ble_eq_true rfl⟩) hS (fun _ _ h => h.elim) (fun _ h => h.elim) (fun r1 u t H1 locs ht hvm hw hB hz1 hk1 hS => ?_)
  have hP := pw_keep hP (fun q hq => hk1 q hq (fun h => h))
  generalize H1 = H at hP hS ⊢
  refine W.widen (k := 0) (n := 0) (Nat.le_of_ble_eq_true rfl) (Nat.le_of_ble_eq_true rfl) ?_
  have hfr1 := hw
  refine lv_istore (lv' := [(4, .int r1), (0, .int i_k), (1, .int i_m), (2, .int i_f), (3, .int i_i)]) hx hb dX9_highOf_7 hl (by decide) rfl (fun ls hl => ?_)
  refine lv_iload_n hx hb dX9_highOf_9 rfl (lv_at hl 1 rfl) ?_
  refine lv_iconst (v := 2) hx hb dX9_highOf_10 (by decide) ?_
  refine lv_icmp_ne (tgt := 21) hx hb dX9_highOf_11 (by decide) (fun c2 => ?_) (fun c2 => ?_)
  · have nc2 : i_k.toInt ≠ 2 := pw_ne c2 rfl (by decide)
    refine lv_iload hx hb dX9_highOf_21 (lv_at hl 0 rfl) ?_
    exact W.iret (v := r1) hx hb hr (fun t ht hW => ⟨⟨r1, (), rfl, (by omega), trivial⟩, hS.F ht⟩) hS.2.2 dX9_highOf_23
  · have nc2 : i_k.toInt = 2 := pw_eq c2 rfl (by decide)
    refine lv_iload hx hb dX9_highOf_14 (lv_at hl 0 rfl) ?_
    refine lv_iconst (v := 1) hx hb dX9_highOf_16 (by decide) ?_
    refine lv_iadd hx hb dX9_highOf_17 ?_
    refine lv_topi (fun x3 ex3 => ?_)
    have tx3 : x3.toInt = r1.toInt + 1 := pw_addX ex3 rfl (by decide) (by omega) (by omega)
    refine lv_goto (tgt := 23) hx hb dX9_highOf_18 (by decide) ?_
    exact W.iret (v := x3) hx hb hr (fun t ht hW => ⟨⟨x3, (), rfl, (by omega), trivial⟩, hS.F ht⟩) hS.2.2 dX9_highOf_23
def w_X9_greatestOf__f : List Cond := .code yX9_greatestOf cX9_greatestOf 3 (some .int) :: ([.methodLink RX9 347 yX9_highOf, .static yX9_highOf, .initialized RX9, .code yX9_highOf cX9_highOf 5 (some .int), .methodLink RX9 343 yX9_lowOf, .static yX9_lowOf, .code yX9_lowOf cX9_lowOf 4 (some .int)])
set_option maxRecDepth 20000 in
theorem g_X9_greatestOf__f_X9_highOf__f : GoodIn w_X9_greatestOf__f (wsS RX9 347 yX9_highOf w_X9_highOf__f) := goodIn_r _ [1, 2, 3, 4, 5, 6, 3, 7] rfl (by decide +kernel)
set_option maxHeartbeats 4000000 in
set_option maxRecDepth 100000 in
theorem c_X9_greatestOf__f (l : Launch) (D : va_G) (i_k : Int32) (i_m : Int32) (i_f : Int32) (h0i_f : 0 ≤ i_f.toInt) (h1i_f : i_f.toInt ≤ 999) (h0i_m : 1 ≤ i_m.toInt) (h1i_m : i_m.toInt ≤ 999) (h0i_k : 1 ≤ i_k.toInt) (h1i_k : i_k.toInt ≤ 5) : Met l yX9_greatestOf w_X9_greatestOf__f ({ frames := 2, cells := 0, slots := 0, locals := 47 }) (va_Pc [.int i_k, .int i_m, .int i_f] (fun U => va_P D vwCl [] U.heap ∧ va_K D vwCl [] U)) (va_Qi (fun (r : Int32) (_ : Unit) => 0 ≤ r.toInt ∧ r.toInt ≤ 3000 ∧ i_f.toInt ≤ r.toInt ∧ r.toInt = tGr i_k.toInt i_m.toInt i_f.toInt) (fun _ _ => True) (fun _ => False)) 0 0 (fun _ => False) := by
  refine Met.ofW (cc := cX9_greatestOf) (maxL := 3) (ret := (some .int)) (by decide) rfl ?_
  intro p e s m args below meth c s₁ B hml hv
  obtain ⟨rfl, hP, hK⟩ := hv
  have hx := B.exec
  have hb := B.bytes
  have hr := B.returns
  have hts := atoms_spec (ws := w_X9_greatestOf__f) B.pre
  have hown : s.vm.findClass RX9 = some m.cls := findClass_of_methodNamed B.named
  have hlocks := B.notSynchronized
  have hS : va_S (fun _ : Nat => False) s.heap s.heap [] := va_S.rf
  have hP : va_P D vwCl [] s.heap := hP
  have hl := lv_entry ([.int i_k, .int i_m, .int i_f]) (n := 3) (Nat.le_of_ble_eq_true rfl)
  rw [lg_entry_eq]
  generalize (lg_sl ([.int i_k, .int i_m, .int i_f]) ++ List.replicate (3 - (lg_sl ([.int i_k, .int i_m, .int i_f])).length) Slot.unset).toArray = ls at hl ⊢
  have hl : lv_has ls 3 [(0, .int i_k), (1, .int i_m), (2, .int i_f)] := hl
  obtain ⟨H, hHe⟩ : ∃ H : Heap, H = s.heap := ⟨_, rfl⟩
  rw [← hHe] at hP
  have hS : va_S (fun _ : Nat => False) s.heap H [] := by rw [hHe]; exact hS
  refine pw_heap hHe ?_
  refine lv_iload_n hx hb dX9_greatestOf_0 rfl (lv_at hl 0 rfl) ?_
  refine lv_iload_n hx hb dX9_greatestOf_1 rfl (lv_at hl 1 rfl) ?_
  refine lv_iload_n hx hb dX9_greatestOf_2 rfl (lv_at hl 2 rfl) ?_
  refine lv_iload_n hx hb dX9_greatestOf_3 rfl (lv_at hl 0 rfl) ?_
  refine lv_iconst (v := 4) hx hb dX9_greatestOf_4 (by decide) ?_
  refine lv_icmp_ne (tgt := 12) hx hb dX9_greatestOf_5 (by decide) (fun c1 => ?_) (fun c1 => ?_)
  · have nc1 : i_k.toInt ≠ 4 := pw_ne c1 rfl (by decide)
    refine lv_iload_n hx hb dX9_greatestOf_12 rfl (lv_at hl 1 rfl) ?_
    refine lv_iconst (v := 1) hx hb dX9_greatestOf_13 (by decide) ?_
    refine lv_isub hx hb dX9_greatestOf_14 ?_
    refine lv_topi (fun x2 ex2 => ?_)
    have tx2 : x2.toInt = i_m.toInt - 1 := pw_subX ex2 rfl (by decide) (by omega) (by omega)
    have hPc := hP.sub (ws' := []) [] rfl
    have hKc := hK.sub (tys' := []) [] rfl
    refine va_calli (va_runS (As := [.int i_k, .int i_m, .int i_f, .int x2]) (rest := []) ⟨hx, hb, hml, hown, hts⟩ (c_X9_highOf__f l D i_k i_m i_f x2 (by first | decide | omega) (by first | decide | omega) (by first | decide | omega) (by first | decide | omega) (by first | omega | decide | (have hz0 : (0 : Int32).toInt = 0 := (by decide); omega)) (by first | omega | decide | (have hz0 : (0 : Int32).toInt = 0 := (by decide); omega))) (cwS 4 hts g_X9_greatestOf__f_X9_highOf__f rfl rfl rfl (by decide +kernel) ⟨Nat.le_of_ble_eq_true rfl, Nat.le_of_ble_eq_true rfl⟩) ⟨fun a U g mk q => by obtain ⟨q0, qP, qK⟩ := q; exact ⟨q0, qP, va_K.moved (u := U) (U := U.calling g mk a) (Vm.Alike.refl U.vm) qK⟩, fun U hU hW => ⟨rfl, by rw [hU]; exact hPc, va_K.moved hW.alike hKc⟩⟩ rfl rfl hl.1 rfl (lv_room (Nat.le_of_ble_eq_true rfl)) dX9_greatestOf_15 ⟨Nat.le_of_ble_eq_true rfl, Nat.le_of_ble_eq_true rfl⟩) hS (fun _ _ h => h.elim) (fun _ h => h.elim) (fun r3 u t H1 locs ht hvm hw hB hz1 hk1 hS => ?_)
    have hP := pw_keep hP (fun q hq => hk1 q hq (fun h => h))
    generalize H1 = H at hP hS ⊢
    refine W.widen (k := 0) (n := 0) (Nat.le_of_ble_eq_true rfl) (Nat.le_of_ble_eq_true rfl) ?_
    have hfr3 := hw
    exact W.iret (v := r3) hx hb hr (fun t ht hW => ⟨⟨r3, (), rfl, ⟨by omega, by omega, by omega, (tGr_of (by omega) (by omega) (by omega) (by omega) (by omega) (by omega))⟩, trivial⟩, hS.F ht⟩) hS.2.2 dX9_greatestOf_18
  · have nc1 : i_k.toInt = 4 := pw_eq c1 rfl (by decide)
    refine lv_iconst (v := 0) hx hb dX9_greatestOf_8 (by decide) ?_
    refine lv_goto (tgt := 15) hx hb dX9_greatestOf_9 (by decide) ?_
    have kk0 : (0 : Int32).toInt = 0 := by decide
    have hPc := hP.sub (ws' := []) [] rfl
    have hKc := hK.sub (tys' := []) [] rfl
    refine va_calli (va_runS (As := [.int i_k, .int i_m, .int i_f, .int 0]) (rest := []) ⟨hx, hb, hml, hown, hts⟩ (c_X9_highOf__f l D i_k i_m i_f 0 (by first | decide | omega) (by first | decide | omega) (by first | decide | omega) (by first | decide | omega) (by first | omega | decide | (have hz0 : (0 : Int32).toInt = 0 := (by decide); omega)) (by first | omega | decide | (have hz0 : (0 : Int32).toInt = 0 := (by decide); omega))) (cwS 4 hts g_X9_greatestOf__f_X9_highOf__f rfl rfl rfl (by decide +kernel) ⟨Nat.le_of_ble_eq_true rfl, Nat.le_of_ble_eq_true rfl⟩) ⟨fun a U g mk q => by obtain ⟨q0, qP, qK⟩ := q; exact ⟨q0, qP, va_K.moved (u := U) (U := U.calling g mk a) (Vm.Alike.refl U.vm) qK⟩, fun U hU hW => ⟨rfl, by rw [hU]; exact hPc, va_K.moved hW.alike hKc⟩⟩ rfl rfl hl.1 rfl (lv_room (Nat.le_of_ble_eq_true rfl)) dX9_greatestOf_15 ⟨Nat.le_of_ble_eq_true rfl, Nat.le_of_ble_eq_true rfl⟩) hS (fun _ _ h => h.elim) (fun _ h => h.elim) (fun r4 u t H1 locs ht hvm hw hB hz1 hk1 hS => ?_)
    have hP := pw_keep hP (fun q hq => hk1 q hq (fun h => h))
    generalize H1 = H at hP hS ⊢
    refine W.widen (k := 0) (n := 0) (Nat.le_of_ble_eq_true rfl) (Nat.le_of_ble_eq_true rfl) ?_
    have hfr4 := hw
    exact W.iret (v := r4) hx hb hr (fun t ht hW => ⟨⟨r4, (), rfl, ⟨by omega, by omega, by omega, (tGr_of (by omega) (by omega) (by omega) (by omega) (by omega) (by omega))⟩, trivial⟩, hS.F ht⟩) hS.2.2 dX9_greatestOf_18
def w_X8_firstFits__f : List Cond := .code yX8_firstFits cX8_firstFits 4 (some .boolean) :: ([.initialized RX9, .static yX9_isNumber, .code yX9_isNumber cX9_isNumber 1 (some .boolean), .static yX9_greatestOf, .code yX9_greatestOf cX9_greatestOf 3 (some .int), .methodLink RX9 347 yX9_highOf, .static yX9_highOf, .code yX9_highOf cX9_highOf 5 (some .int), .methodLink RX9 343 yX9_lowOf, .static yX9_lowOf, .code yX9_lowOf cX9_lowOf 4 (some .int)])
set_option maxRecDepth 20000 in
theorem g_X8_firstFits__f_X9_isNumber__f : GoodIn w_X8_firstFits__f w_X9_isNumber__f := goodIn_r _ [3] rfl (by decide +kernel)
set_option maxRecDepth 20000 in
theorem g_X8_firstFits__f_X9_greatestOf__f : GoodIn w_X8_firstFits__f w_X9_greatestOf__f := goodIn_r _ [5, 6, 7, 1, 8, 9, 10, 11] rfl (by decide +kernel)
set_option maxHeartbeats 4000000 in
set_option maxRecDepth 100000 in
theorem c_X8_firstFits__f (l : Launch) (D : va_G) (h0 : Nat) (i_k : Int32) (i_m : Int32) (i_f : Int32) (b_sc : Nat) (b_sp : Nat) (b_cp : Nat) (b_sn : Nat) (b_sl : Nat) (i_li : Int32) (i_ed : Int32) (i_se : Int32) (h0i_m : 1 ≤ i_m.toInt) (h1i_m : i_m.toInt ≤ 999) (h0i_k : 1 ≤ i_k.toInt) (h1i_k : i_k.toInt ≤ 5) : Met l yX8_firstFits w_X8_firstFits__f ({ frames := 3, cells := 0, slots := 0, locals := 69 }) (va_Pc [.ref h0, .int i_k, .int i_m, .int i_f] (fun U => va_P D vwCl [(h0, .inr (8, [.ref b_sc, .ref b_sp, .ref b_cp, .ref b_sn, .ref b_sl, .int i_li, .int i_ed, .int i_se]))] U.heap ∧ va_K D vwCl [] U ∧ va_Nw (.methodLinkNest RX8 83 yX9_isNumber "LineCites") U ∧ va_Nw (.methodLinkNest RX8 86 yX9_greatestOf "LineCites") U)) (va_Qi (fun (r : Int32) (_ : Unit) => (r = 0 ∨ r = 1) ∧ ((r.toInt = 1 ∧ 1 ≤ i_f.toInt ∧ i_f.toInt ≤ 999 ∧ tGr i_k.toInt i_m.toInt i_f.toInt ≤ 999) ∨ (r.toInt = 0 ∧ ¬ (1 ≤ i_f.toInt ∧ i_f.toInt ≤ 999 ∧ tGr i_k.toInt i_m.toInt i_f.toInt ≤ 999)))) (fun _ _ => True) (fun _ => False)) 0 0 (fun _ => False) := by
  refine Met.ofW (cc := cX8_firstFits) (maxL := 4) (ret := (some .boolean)) (by decide) rfl ?_
  intro p e s m args below meth c s₁ B hml hv
  obtain ⟨rfl, hP, hK, hN8_83, hN8_86⟩ := hv
  have hx := B.exec
  have hb := B.bytes
  have hr := B.returns
  have hts := atoms_spec (ws := w_X8_firstFits__f) B.pre
  have hown : s.vm.findClass RX8 = some m.cls := findClass_of_methodNamed B.named
  have hlocks := B.notSynchronized
  have hS : va_S (fun _ : Nat => False) s.heap s.heap [] := va_S.rf
  have hP : va_P D vwCl [(h0, .inr (8, [.ref b_sc, .ref b_sp, .ref b_cp, .ref b_sn, .ref b_sl, .int i_li, .int i_ed, .int i_se]))] s.heap := hP
  have hl := lv_entry ([.ref h0, .int i_k, .int i_m, .int i_f]) (n := 4) (Nat.le_of_ble_eq_true rfl)
  rw [lg_entry_eq]
  generalize (lg_sl ([.ref h0, .int i_k, .int i_m, .int i_f]) ++ List.replicate (4 - (lg_sl ([.ref h0, .int i_k, .int i_m, .int i_f])).length) Slot.unset).toArray = ls at hl ⊢
  have hl : lv_has ls 4 [(0, .ref h0), (1, .int i_k), (2, .int i_m), (3, .int i_f)] := hl
  obtain ⟨H, hHe⟩ : ∃ H : Heap, H = s.heap := ⟨_, rfl⟩
  rw [← hHe] at hP
  have hS : va_S (fun _ : Nat => False) s.heap H [] := by rw [hHe]; exact hS
  refine pw_heap hHe ?_
  refine lv_iload_n hx hb dX8_firstFits_0 rfl (lv_at hl 3 rfl) ?_
  have hPc := hP.sub (ws' := []) [] rfl
  have hKc := hK.sub (tys' := []) [] rfl
  refine va_calli (va_runSN (As := [.int i_f]) (rest := []) ⟨hx, hb, hml, hown, hts⟩ (c_X9_isNumber__f l D i_f) ⟨va_cnB 1 hts g_X8_firstFits__f_X9_isNumber__f rfl rfl rfl hN8_83 (hts (.initialized RX9) (List.mem_of_getElem? (i := 1) rfl)) (by decide +kernel) ⟨Nat.le_of_ble_eq_true rfl, Nat.le_of_ble_eq_true rfl⟩, (hts (.static yX9_isNumber) (List.mem_of_getElem? (i := 2) rfl)), trivial⟩ ⟨fun a U g mk q => by obtain ⟨q0, qP, qK⟩ := q; exact ⟨q0, qP, va_K.moved (u := U) (U := U.calling g mk a) (Vm.Alike.refl U.vm) qK⟩, fun U hU hW => ⟨rfl, by rw [hU]; exact hPc, va_K.moved hW.alike hKc⟩⟩ rfl rfl hl.1 rfl (lv_room (Nat.le_of_ble_eq_true rfl)) dX8_firstFits_1 ⟨Nat.le_of_ble_eq_true rfl, Nat.le_of_ble_eq_true rfl⟩) hS (fun _ _ h => h.elim) (fun _ h => h.elim) (fun r1 u t H1 locs ht hvm hw hB hz1 hk1 hS => ?_)
  have hP := pw_keep hP (fun q hq => hk1 q hq (fun h => h))
  generalize H1 = H at hP hS ⊢
  refine W.widen (k := 0) (n := 0) (Nat.le_of_ble_eq_true rfl) (Nat.le_of_ble_eq_true rfl) ?_
  have bor1 := hw.1
  have zor1 := pw_boolI bor1
  have hfr1 := hw.2
  refine lv_if_eq (tgt := 23) hx hb dX8_firstFits_4 (by decide) (fun c2 => ?_) (fun c2 => ?_)
  · have nc2 : r1.toInt = 0 := pw_eq c2 rfl (by decide)
    refine lv_iconst (v := 0) hx hb dX8_firstFits_23 (by decide) ?_
    exact W.zret (v := 0) (ty := .boolean) hx hb hr rfl (fun t ht hW => ⟨⟨0, (), rfl, ⟨Or.inl rfl, (by have hv : (0 : Int32).toInt = 0 := (by decide); omega)⟩, trivial⟩, hS.F ht⟩) hS.2.2 dX8_firstFits_24
  · have nc2 : r1.toInt ≠ 0 := pw_ne c2 rfl (by decide)
    refine lv_iload_n hx hb dX8_firstFits_7 rfl (lv_at hl 1 rfl) ?_
    refine lv_iload_n hx hb dX8_firstFits_8 rfl (lv_at hl 2 rfl) ?_
    refine lv_iload_n hx hb dX8_firstFits_9 rfl (lv_at hl 3 rfl) ?_
    have hPc := hP.sub (ws' := []) [] rfl
    have hKc := hK.sub (tys' := []) [] rfl
    refine va_calli (va_runSN (As := [.int i_k, .int i_m, .int i_f]) (rest := []) ⟨hx, hb, hml, hown, hts⟩ (c_X9_greatestOf__f l D i_k i_m i_f (by first | decide | omega) (by first | decide | omega) (by first | decide | omega) (by first | decide | omega) (by first | decide | omega) (by first | decide | omega)) ⟨va_cnB 3 hts g_X8_firstFits__f_X9_greatestOf__f rfl rfl rfl hN8_86 (hts (.initialized RX9) (List.mem_of_getElem? (i := 1) rfl)) (by decide +kernel) ⟨Nat.le_of_ble_eq_true rfl, Nat.le_of_ble_eq_true rfl⟩, (hts (.static yX9_greatestOf) (List.mem_of_getElem? (i := 4) rfl)), trivial⟩ ⟨fun a U g mk q => by obtain ⟨q0, qP, qK⟩ := q; exact ⟨q0, qP, va_K.moved (u := U) (U := U.calling g mk a) (Vm.Alike.refl U.vm) qK⟩, fun U hU hW => ⟨rfl, by rw [hU]; exact hPc, va_K.moved hW.alike hKc⟩⟩ rfl rfl hl.1 rfl (lv_room (Nat.le_of_ble_eq_true rfl)) dX8_firstFits_10 ⟨Nat.le_of_ble_eq_true rfl, Nat.le_of_ble_eq_true rfl⟩) hS (fun _ _ h => h.elim) (fun _ h => h.elim) (fun r3 u t H1 locs ht hvm hw hB hz1 hk1 hS => ?_)
    have hP := pw_keep hP (fun q hq => hk1 q hq (fun h => h))
    generalize H1 = H at hP hS ⊢
    refine W.widen (k := 0) (n := 0) (Nat.le_of_ble_eq_true rfl) (Nat.le_of_ble_eq_true rfl) ?_
    have hfr3 := hw
    have hPc := hP.sub (ws' := []) [] rfl
    have hKc := hK.sub (tys' := []) [] rfl
    refine va_calli (va_runSN (As := [.int r3]) (rest := []) ⟨hx, hb, hml, hown, hts⟩ (c_X9_isNumber__f l D r3) ⟨va_cnB 1 hts g_X8_firstFits__f_X9_isNumber__f rfl rfl rfl hN8_83 (hts (.initialized RX9) (List.mem_of_getElem? (i := 1) rfl)) (by decide +kernel) ⟨Nat.le_of_ble_eq_true rfl, Nat.le_of_ble_eq_true rfl⟩, (hts (.static yX9_isNumber) (List.mem_of_getElem? (i := 2) rfl)), trivial⟩ ⟨fun a U g mk q => by obtain ⟨q0, qP, qK⟩ := q; exact ⟨q0, qP, va_K.moved (u := U) (U := U.calling g mk a) (Vm.Alike.refl U.vm) qK⟩, fun U hU hW => ⟨rfl, by rw [hU]; exact hPc, va_K.moved hW.alike hKc⟩⟩ rfl rfl hl.1 rfl (lv_room (Nat.le_of_ble_eq_true rfl)) dX8_firstFits_13 ⟨Nat.le_of_ble_eq_true rfl, Nat.le_of_ble_eq_true rfl⟩) hS (fun _ _ h => h.elim) (fun _ h => h.elim) (fun r4 u t H1 locs ht hvm hw hB hz1 hk1 hS => ?_)
    have hP := pw_keep hP (fun q hq => hk1 q hq (fun h => h))
    generalize H1 = H at hP hS ⊢
    refine W.widen (k := 0) (n := 0) (Nat.le_of_ble_eq_true rfl) (Nat.le_of_ble_eq_true rfl) ?_
    have bor4 := hw.1
    have zor4 := pw_boolI bor4
    have hfr4 := hw.2
    refine lv_if_eq (tgt := 23) hx hb dX8_firstFits_16 (by decide) (fun c5 => ?_) (fun c5 => ?_)
    · have nc5 : r4.toInt = 0 := pw_eq c5 rfl (by decide)
      refine lv_iconst (v := 0) hx hb dX8_firstFits_23 (by decide) ?_
      exact W.zret (v := 0) (ty := .boolean) hx hb hr rfl (fun t ht hW => ⟨⟨0, (), rfl, ⟨Or.inl rfl, (by have hv : (0 : Int32).toInt = 0 := (by decide); omega)⟩, trivial⟩, hS.F ht⟩) hS.2.2 dX8_firstFits_24
    · have nc5 : r4.toInt ≠ 0 := pw_ne c5 rfl (by decide)
      refine lv_iconst (v := 1) hx hb dX8_firstFits_19 (by decide) ?_
      refine lv_goto (tgt := 24) hx hb dX8_firstFits_20 (by decide) ?_
      exact W.zret (v := 1) (ty := .boolean) hx hb hr rfl (fun t ht hW => ⟨⟨1, (), rfl, ⟨Or.inr rfl, (by have hv : (1 : Int32).toInt = 1 := (by decide); omega)⟩, trivial⟩, hS.F ht⟩) hS.2.2 dX8_firstFits_24
def w_X8_putStretch__f : List Cond := .code yX8_putStretch cX8_putStretch 7 none :: ([.methodLink RX8 47 yX8_stretchesOf, .instanceMethod yX8_stretchesOf, .selects RX8 yX8_stretchesOf yX8_stretchesOf, .initialized RX8, .code yX8_stretchesOf cX8_stretchesOf 2 (some .int), .methodLink RX8 43 yX8_hasEdition, .instanceMethod yX8_hasEdition, .selects RX8 yX8_hasEdition yX8_hasEdition, .code yX8_hasEdition cX8_hasEdition 2 (some .boolean), .fieldLink RX8 37 "LineCites$Work" "editions" "I", .fieldLink RX8 9 "LineCites$Work" "stretchCounts" "[I", .methodLink RX8 55 yX8_setPart, .instanceMethod yX8_setPart, .selects RX8 yX8_setPart yX8_setPart, .code yX8_setPart cX8_setPart 6 none, .methodLink RX8 51 yX8_placeOf, .static yX8_placeOf, .code yX8_placeOf cX8_placeOf 3 (some .int), .fieldLink RX8 15 "LineCites$Work" "stretchParts" "[I"] ++ wsX80)
set_option maxRecDepth 20000 in
theorem g_X8_putStretch__f_X8_stretchesOf__f : GoodIn w_X8_putStretch__f (wsV RX8 47 RX8 yX8_stretchesOf w_X8_stretchesOf__f) := goodIn_r _ [1, 2, 3, 4, 5, 6, 7, 8, 4, 9, 10, 11, 20, 21, 22, 23, 24, 25, 26, 27] rfl (by decide +kernel)
set_option maxRecDepth 20000 in
theorem g_X8_putStretch__f_X8_hasEdition__f : GoodIn w_X8_putStretch__f (wsV RX8 43 RX8 yX8_hasEdition w_X8_hasEdition__f) := goodIn_r _ [6, 7, 8, 4, 9, 10, 11, 20, 21, 22, 23, 24, 25, 26, 27] rfl (by decide +kernel)
set_option maxRecDepth 20000 in
theorem g_X8_putStretch__f_X8_setPart__f : GoodIn w_X8_putStretch__f (wsV RX8 55 RX8 yX8_setPart w_X8_setPart__f) := goodIn_r _ [12, 13, 14, 4, 15, 16, 17, 4, 18, 19, 20, 21, 22, 23, 24, 25, 26, 27] rfl (by decide +kernel)
set_option maxHeartbeats 4000000 in
set_option maxRecDepth 100000 in
theorem c_X8_putStretch__f (l : Launch) (D : va_G) (h0 : Nat) (i_e : Int32) (i_k : Int32) (i_fr : Int32) (i_m : Int32) (i_f : Int32) (b_sc : Nat) (b_sp : Nat) (b_cp : Nat) (b_sn : Nat) (b_sl : Nat) (i_li : Int32) (i_ed : Int32) (i_se : Int32) (kI : ClassId) (g_b_sc : Nat → Int32) (g_b_sp : Nat → Int32) (ke : Nat) (ps : List (Int × Int)) (sz : Nat) (hnke : i_e.toInt = ((ke : Nat) : Int)) (hee : i_e.toInt < i_ed.toInt) (he5 : i_ed.toInt ≤ 5) (hdR : dR g_b_sc g_b_sp ke ps) (hl6 : ps.length < 6) (h0i_k : 0 ≤ i_k.toInt) (h1i_k : i_k.toInt ≤ 999) (h0i_fr : 0 ≤ i_fr.toInt) (h1i_fr : i_fr.toInt ≤ 999) (h0i_m : 1 ≤ i_m.toInt) (h1i_m : i_m.toInt ≤ 999) (h0i_f : 0 ≤ i_f.toInt) (h1i_f : i_f.toInt ≤ 999) (h200 : i_fr.toInt + i_m.toInt ≤ 200) (hg_b_sp : bP g_b_sp) : Met l yX8_putStretch w_X8_putStretch__f ({ frames := 2, cells := 0, slots := 0, locals := 47 }) (va_Pc [.ref h0, .int i_e, .int i_k, .int i_fr, .int i_m, .int i_f] (fun U => U.heap.size = sz ∧ va_P D vwCl [(h0, .inr (8, [.ref b_sc, .ref b_sp, .ref b_cp, .ref b_sn, .ref b_sl, .int i_li, .int i_ed, .int i_se])), (b_sc, .inl (kI, 5, .inl g_b_sc)), (b_sp, .inl (kI, 120, .inl g_b_sp))] U.heap ∧ va_K D vwCl [(kI, .int)] U ∧ va_D (fun _ => True) [(h0, .inr (8, [.ref b_sc, .ref b_sp, .ref b_cp, .ref b_sn, .ref b_sl, .int i_li, .int i_ed, .int i_se])), (b_sc, .inl (kI, 5, .inl g_b_sc)), (b_sp, .inl (kI, 120, .inl g_b_sp))])) (va_Qv (fun (_ : Unit) => True) (fun (_ : Unit) t => ∃ (n_sc : Nat → Int32) (n_sp : Nat → Int32), va_P D vwCl [(h0, .inr (8, [.ref b_sc, .ref b_sp, .ref b_cp, .ref b_sn, .ref b_sl, .int i_li, .int i_ed, .int i_se])), (b_sc, .inl (kI, 5, .inl n_sc)), (b_sp, .inl (kI, 120, .inl n_sp))] t.heap ∧ va_K D vwCl [(kI, .int)] t ∧ va_D (va_A [(h0, .inr (8, [.ref b_sc, .ref b_sp, .ref b_cp, .ref b_sn, .ref b_sl, .int i_li, .int i_ed, .int i_se])), (b_sc, .inl (kI, 5, .inl g_b_sc)), (b_sp, .inl (kI, 120, .inl g_b_sp))] sz) [(h0, .inr (8, [.ref b_sc, .ref b_sp, .ref b_cp, .ref b_sn, .ref b_sl, .int i_li, .int i_ed, .int i_se])), (b_sc, .inl (kI, 5, .inl n_sc)), (b_sp, .inl (kI, 120, .inl n_sp))] ∧ bP n_sp ∧ dR n_sc n_sp ke (ps ++ [(i_fr.toInt, i_m.toInt)])) (va_A [(h0, .inr (8, [.ref b_sc, .ref b_sp, .ref b_cp, .ref b_sn, .ref b_sl, .int i_li, .int i_ed, .int i_se])), (b_sc, .inl (kI, 5, .inl g_b_sc)), (b_sp, .inl (kI, 120, .inl g_b_sp))] sz)) 0 0 (va_A [(h0, .inr (8, [.ref b_sc, .ref b_sp, .ref b_cp, .ref b_sn, .ref b_sl, .int i_li, .int i_ed, .int i_se])), (b_sc, .inl (kI, 5, .inl g_b_sc)), (b_sp, .inl (kI, 120, .inl g_b_sp))] sz) := by
  refine Met.ofW (cc := cX8_putStretch) (maxL := 7) (ret := none) (by decide) rfl ?_
  intro p e s m args below meth c s₁ B hml hv
  obtain ⟨rfl, hsz, hP, hK, hD0⟩ := hv
  have hx := B.exec
  have hb := B.bytes
  have hr := B.returns
  have hts := atoms_spec (ws := w_X8_putStretch__f) B.pre
  have hown : s.vm.findClass RX8 = some m.cls := findClass_of_methodNamed B.named
  have hlocks := B.notSynchronized
  subst hsz
  have hD := hD0.self (sz := s.heap.size)
  generalize hAe : va_A [(h0, .inr (8, [.ref b_sc, .ref b_sp, .ref b_cp, .ref b_sn, .ref b_sl, .int i_li, .int i_ed, .int i_se])), (b_sc, .inl (kI, 5, .inl g_b_sc)), (b_sp, .inl (kI, 120, .inl g_b_sp))] s.heap.size = A at hD ⊢
  have hA : ∀ q : Nat, s.heap.size ≤ q → A q := fun q h => by rw [← hAe]; exact Or.inr h
  have hS : va_S A s.heap s.heap [] := va_S.rf
  have hP : va_P D vwCl [(h0, .inr (8, [.ref b_sc, .ref b_sp, .ref b_cp, .ref b_sn, .ref b_sl, .int i_li, .int i_ed, .int i_se])), (b_sc, .inl (kI, 5, .inl g_b_sc)), (b_sp, .inl (kI, 120, .inl g_b_sp))] s.heap := hP
  have hl := lv_entry ([.ref h0, .int i_e, .int i_k, .int i_fr, .int i_m, .int i_f]) (n := 7) (Nat.le_of_ble_eq_true rfl)
  rw [lg_entry_eq]
  generalize (lg_sl ([.ref h0, .int i_e, .int i_k, .int i_fr, .int i_m, .int i_f]) ++ List.replicate (7 - (lg_sl ([.ref h0, .int i_e, .int i_k, .int i_fr, .int i_m, .int i_f])).length) Slot.unset).toArray = ls at hl ⊢
  have hl : lv_has ls 7 [(0, .ref h0), (1, .int i_e), (2, .int i_k), (3, .int i_fr), (4, .int i_m), (5, .int i_f)] := hl
  obtain ⟨H, hHe⟩ : ∃ H : Heap, H = s.heap := ⟨_, rfl⟩
  rw [← hHe] at hP
  have hS : va_S A s.heap H [] := by rw [hHe]; exact hS
  refine pw_heap hHe ?_
  have hd1 := hdR.1
  have hd2 := hdR.2.1
  refine lv_aload_n hx hb dX8_putStretch_0 rfl (lv_at hl 0 rfl) ?_
  refine lv_iload_n hx hb dX8_putStretch_1 rfl (lv_at hl 1 rfl) ?_
  have hPc := hP.sub (ws' := [(h0, .inr (8, [.ref b_sc, .ref b_sp, .ref b_cp, .ref b_sn, .ref b_sl, .int i_li, .int i_ed, .int i_se])), (b_sc, .inl (kI, 5, .inl g_b_sc))]) [0, 1] rfl
  have hKc := hK.sub (tys' := [(kI, .int)]) [0] rfl
  refine va_calli (va_runV (As := [.int i_e]) (rest := []) ⟨hx, hb, hml, hown, hts⟩ (c_X8_stretchesOf__f l D h0 i_e b_sc b_sp b_cp b_sn b_sl i_li i_ed i_se kI g_b_sc ke (by first | omega | decide | (have hz0 : (0 : Int32).toInt = 0 := (by decide); omega)) (by first | omega | decide | (have hz0 : (0 : Int32).toInt = 0 := (by decide); omega)) (by first | omega | decide | (have hz0 : (0 : Int32).toInt = 0 := (by decide); omega))) (cwV 1 hts g_X8_putStretch__f_X8_stretchesOf__f rfl rfl rfl (by decide +kernel) ⟨Nat.le_of_ble_eq_true rfl, Nat.le_of_ble_eq_true rfl⟩) ⟨fun a U g mk q => by obtain ⟨q0, qP, qK⟩ := q; exact ⟨q0, qP, va_K.moved (u := U) (U := U.calling g mk a) (Vm.Alike.refl U.vm) qK⟩, va_recv hKc hPc (ci := 8) (q0 := 0) rfl rfl, fun U hU hW => ⟨rfl, by rw [hU]; exact hPc, va_K.moved hW.alike hKc⟩⟩ rfl rfl hl.1 rfl (lv_room (Nat.le_of_ble_eq_true rfl)) dX8_putStretch_2 ⟨Nat.le_of_ble_eq_true rfl, Nat.le_of_ble_eq_true rfl⟩) hS (fun _ _ h => h.elim) (fun _ h => h.elim) (fun r1 u t H1 locs ht hvm hw hB hz1 hk1 hS => ?_)
  have hP := pw_keep hP (fun q hq => hk1 q hq (fun h => h))
  generalize H1 = H at hP hS ⊢
  refine W.widen (k := 0) (n := 0) (Nat.le_of_ble_eq_true rfl) (Nat.le_of_ble_eq_true rfl) ?_
  have hfr1 := hw
  refine lv_istore (lv' := [(6, .int r1), (0, .ref h0), (1, .int i_e), (2, .int i_k), (3, .int i_fr), (4, .int i_m), (5, .int i_f)]) hx hb dX8_putStretch_5 hl (by decide) rfl (fun ls hl => ?_)
  refine lv_aload_n hx hb dX8_putStretch_7 rfl (lv_at hl 1 rfl) ?_
  refine lv_iload_n hx hb dX8_putStretch_8 rfl (lv_at hl 2 rfl) ?_
  have hPc := hP.sub (ws' := [(h0, .inr (8, [.ref b_sc, .ref b_sp, .ref b_cp, .ref b_sn, .ref b_sl, .int i_li, .int i_ed, .int i_se])), (b_sc, .inl (kI, 5, .inl g_b_sc))]) [0, 1] rfl
  have hKc := hK.sub (tys' := [(kI, .int)]) [0] rfl
  refine va_calli (va_runV (As := [.int i_e]) (rest := []) ⟨hx, hb, hml, hown, hts⟩ (c_X8_hasEdition__f l D h0 i_e b_sc b_sp b_cp b_sn b_sl i_li i_ed i_se kI g_b_sc ke (by first | omega | decide | (have hz0 : (0 : Int32).toInt = 0 := (by decide); omega)) (by first | omega | decide | (have hz0 : (0 : Int32).toInt = 0 := (by decide); omega)) (by first | omega | decide | (have hz0 : (0 : Int32).toInt = 0 := (by decide); omega))) (cwV 1 hts g_X8_putStretch__f_X8_hasEdition__f rfl rfl rfl (by decide +kernel) ⟨Nat.le_of_ble_eq_true rfl, Nat.le_of_ble_eq_true rfl⟩) ⟨fun a U g mk q => by obtain ⟨q0, qP, qK⟩ := q; exact ⟨q0, qP, va_K.moved (u := U) (U := U.calling g mk a) (Vm.Alike.refl U.vm) qK⟩, va_recv hKc hPc (ci := 8) (q0 := 0) rfl rfl, fun U hU hW => ⟨rfl, by rw [hU]; exact hPc, va_K.moved hW.alike hKc⟩⟩ rfl rfl hl.1 rfl (lv_room (Nat.le_of_ble_eq_true rfl)) dX8_putStretch_9 ⟨Nat.le_of_ble_eq_true rfl, Nat.le_of_ble_eq_true rfl⟩) hS (fun _ _ h => h.elim) (fun _ h => h.elim) (fun r2 u t H1 locs ht hvm hw hB hz1 hk1 hS => ?_)
  have hP := pw_keep hP (fun q hq => hk1 q hq (fun h => h))
  generalize H1 = H at hP hS ⊢
  refine W.widen (k := 0) (n := 0) (Nat.le_of_ble_eq_true rfl) (Nat.le_of_ble_eq_true rfl) ?_
  have bor2 := hw.1
  have zor2 := pw_boolI bor2
  have hfr2 := hw.2
  refine lv_if_eq (tgt := 22) hx hb dX8_putStretch_12 (by decide) (fun c3 => ?_) (fun c3 => ?_)
  · have nc3 : r2.toInt = 0 := pw_eq c3 rfl (by decide)
    have hP9 := hP.sub (ws' := [(h0, .inr (8, [.ref b_sc, .ref b_sp, .ref b_cp, .ref b_sn, .ref b_sl, .int i_li, .int i_ed, .int i_se])), (b_sc, .inl (kI, 5, .inl g_b_sc)), (b_sp, .inl (kI, 120, .inl g_b_sp))]) [0, 1, 2] rfl
    have hD9 := hD.sub (ws' := [(h0, .inr (8, [.ref b_sc, .ref b_sp, .ref b_cp, .ref b_sn, .ref b_sl, .int i_li, .int i_ed, .int i_se])), (b_sc, .inl (kI, 5, .inl g_b_sc)), (b_sp, .inl (kI, 120, .inl g_b_sp))]) [0, 1, 2] (by decide) rfl
    have hK9 := hK.sub (tys' := [(kI, .int)]) [0] rfl
    refine W.widen (k := 0) (n := 0) (Nat.le_of_ble_eq_true rfl) (Nat.le_of_ble_eq_true rfl) ?_
    exact W.vret hx hb hr (fun t ht hW => ⟨⟨(), rfl, trivial, g_b_sc, g_b_sp, by rw [ht]; exact hP9, va_K.moved hW.alike hK9, hD9, hg_b_sp, (False.elim (by omega))⟩, hS.F ht⟩) hS.2.2 dX8_putStretch_22
  · have nc3 : r2.toInt ≠ 0 := pw_ne c3 rfl (by decide)
    refine lv_iload hx hb dX8_putStretch_15 (lv_at hl 0 rfl) ?_
    refine lv_bipush (v := 6) hx hb dX8_putStretch_17 (by decide) ?_
    refine lv_icmp_lt (tgt := 23) hx hb dX8_putStretch_19 (by decide) (fun c4 => ?_) (fun c4 => ?_)
    · have nc4 : r1.toInt < 6 := pw_lt c4 rfl (by decide)
      refine lv_aload_n hx hb dX8_putStretch_23 rfl (lv_at hl 1 rfl) ?_
      refine lv_iload_n hx hb dX8_putStretch_24 rfl (lv_at hl 2 rfl) ?_
      refine lv_iload hx hb dX8_putStretch_25 (lv_at hl 0 rfl) ?_
      refine lv_iconst (v := 0) hx hb dX8_putStretch_27 (by decide) ?_
      refine lv_iload_n hx hb dX8_putStretch_28 rfl (lv_at hl 3 rfl) ?_
      have kk0 : (0 : Int32).toInt = 0 := by decide
      have hPc := hP.sub (ws' := [(h0, .inr (8, [.ref b_sc, .ref b_sp, .ref b_cp, .ref b_sn, .ref b_sl, .int i_li, .int i_ed, .int i_se])), (b_sp, .inl (kI, 120, .inl g_b_sp))]) [0, 2] rfl
      have hKc := hK.sub (tys' := [(kI, .int)]) [0] rfl
      have hDc := hD.sub (ws' := [(h0, .inr (8, [.ref b_sc, .ref b_sp, .ref b_cp, .ref b_sn, .ref b_sl, .int i_li, .int i_ed, .int i_se])), (b_sp, .inl (kI, 120, .inl g_b_sp))]) [0, 2] (by decide) rfl
      have hFc := va_free (wc := [(h0, .inr (8, [.ref b_sc, .ref b_sp, .ref b_cp, .ref b_sn, .ref b_sl, .int i_li, .int i_ed, .int i_se])), (b_sp, .inl (kI, 120, .inl g_b_sp))]) hD hS hA [0, 2] rfl
      refine va_callv (va_runV (As := [.int i_e, .int r1, .int 0, .int i_k]) (rest := []) ⟨hx, hb, hml, hown, hts⟩ (c_X8_setPart__f l D h0 i_e r1 0 i_k b_sc b_sp b_cp b_sn b_sl i_li i_ed i_se kI g_b_sp ke r1.toInt.toNat 0 H.size (by first | decide | omega) (by first | decide | omega) (by first | decide | omega) (by first | decide | omega) (by first | decide | omega) (by first | decide | omega) (by first | omega | decide | (have hz0 : (0 : Int32).toInt = 0 := (by decide); omega)) (by first | omega | decide | (have hz0 : (0 : Int32).toInt = 0 := (by decide); omega)) (by first | omega | decide | (have hz0 : (0 : Int32).toInt = 0 := (by decide); omega)) (by first | decide | omega) (by first | decide | omega) hg_b_sp) (cwV 4 hts g_X8_putStretch__f_X8_setPart__f rfl rfl rfl (by decide +kernel) ⟨Nat.le_of_ble_eq_true rfl, Nat.le_of_ble_eq_true rfl⟩) ⟨fun a U g mk q => by obtain ⟨q0, q1, qP, qK, qD⟩ := q; exact ⟨q0, q1, qP, va_K.moved (u := U) (U := U.calling g mk a) (Vm.Alike.refl U.vm) qK, qD⟩, va_recv hKc hPc (ci := 8) (q0 := 0) rfl rfl, fun U hU hW => ⟨rfl, by rw [hU], by rw [hU]; exact hPc, va_K.moved hW.alike hKc, hDc.weaken (fun _ _ _ _ => trivial)⟩⟩ rfl rfl hl.1 rfl (lv_room (Nat.le_of_ble_eq_true rfl)) dX8_putStretch_29 ⟨Nat.le_of_ble_eq_true rfl, Nat.le_of_ble_eq_true rfl⟩) hS (fun q _ h => hFc q h) hFc (fun u t H1 locs ht hvm hw hB hz1 hk1 hS => ?_)
      obtain ⟨y6, hP1, hK1, hD1, hy6, px0_r5⟩ := hB
      rw [ht] at hP1
      have hK1 := va_K.moved hvm.symm hK1
      obtain ⟨hP, hD⟩ := va_join (wr := [(b_sc, .inl (kI, 5, .inl g_b_sc))]) (w1 := [(h0, .inr (8, [.ref b_sc, .ref b_sp, .ref b_cp, .ref b_sn, .ref b_sl, .int i_li, .int i_ed, .int i_se])), (b_sp, .inl (kI, 120, .inl y6))]) hP hD [0, 2] [1] rfl rfl (by decide) (by decide) hk1 hFc hP1 hD1
      have hK := (hK.sub (tys' := [(kI, .int)]) [0] rfl).app hK1
      generalize H1 = H at hP hS ⊢
      have hP : va_P D vwCl [(b_sc, .inl (kI, 5, .inl g_b_sc)), (h0, .inr (8, [.ref b_sc, .ref b_sp, .ref b_cp, .ref b_sn, .ref b_sl, .int i_li, .int i_ed, .int i_se])), (b_sp, .inl (kI, 120, .inl y6))] H := hP
      have hD : va_D A [(b_sc, .inl (kI, 5, .inl g_b_sc)), (h0, .inr (8, [.ref b_sc, .ref b_sp, .ref b_cp, .ref b_sn, .ref b_sl, .int i_li, .int i_ed, .int i_se])), (b_sp, .inl (kI, 120, .inl y6))] := hD
      have hK : va_K D vwCl [(kI, .int), (kI, .int)] s := hK
      refine W.widen (k := 0) (n := 0) (Nat.le_of_ble_eq_true rfl) (Nat.le_of_ble_eq_true rfl) ?_
      refine lv_aload_n hx hb dX8_putStretch_32 rfl (lv_at hl 1 rfl) ?_
      refine lv_iload_n hx hb dX8_putStretch_33 rfl (lv_at hl 2 rfl) ?_
      refine lv_iload hx hb dX8_putStretch_34 (lv_at hl 0 rfl) ?_
      refine lv_iconst (v := 1) hx hb dX8_putStretch_36 (by decide) ?_
      refine lv_iload_n hx hb dX8_putStretch_37 rfl (lv_at hl 4 rfl) ?_
      have kk1 : (1 : Int32).toInt = 1 := by decide
      have hPc := hP.sub (ws' := [(h0, .inr (8, [.ref b_sc, .ref b_sp, .ref b_cp, .ref b_sn, .ref b_sl, .int i_li, .int i_ed, .int i_se])), (b_sp, .inl (kI, 120, .inl y6))]) [1, 2] rfl
      have hKc := hK.sub (tys' := [(kI, .int)]) [0] rfl
      have hDc := hD.sub (ws' := [(h0, .inr (8, [.ref b_sc, .ref b_sp, .ref b_cp, .ref b_sn, .ref b_sl, .int i_li, .int i_ed, .int i_se])), (b_sp, .inl (kI, 120, .inl y6))]) [1, 2] (by decide) rfl
      have hFc := va_free (wc := [(h0, .inr (8, [.ref b_sc, .ref b_sp, .ref b_cp, .ref b_sn, .ref b_sl, .int i_li, .int i_ed, .int i_se])), (b_sp, .inl (kI, 120, .inl y6))]) hD hS hA [1, 2] rfl
      refine va_callv (va_runV (As := [.int i_e, .int r1, .int 1, .int i_fr]) (rest := []) ⟨hx, hb, hml, hown, hts⟩ (c_X8_setPart__f l D h0 i_e r1 1 i_fr b_sc b_sp b_cp b_sn b_sl i_li i_ed i_se kI y6 ke r1.toInt.toNat 1 H.size (by first | decide | omega) (by first | decide | omega) (by first | decide | omega) (by first | decide | omega) (by first | decide | omega) (by first | decide | omega) (by first | omega | decide | (have hz0 : (0 : Int32).toInt = 0 := (by decide); omega)) (by first | omega | decide | (have hz0 : (0 : Int32).toInt = 0 := (by decide); omega)) (by first | omega | decide | (have hz0 : (0 : Int32).toInt = 0 := (by decide); omega)) (by first | decide | omega) (by first | decide | omega) hy6) (cwV 4 hts g_X8_putStretch__f_X8_setPart__f rfl rfl rfl (by decide +kernel) ⟨Nat.le_of_ble_eq_true rfl, Nat.le_of_ble_eq_true rfl⟩) ⟨fun a U g mk q => by obtain ⟨q0, q1, qP, qK, qD⟩ := q; exact ⟨q0, q1, qP, va_K.moved (u := U) (U := U.calling g mk a) (Vm.Alike.refl U.vm) qK, qD⟩, va_recv hKc hPc (ci := 8) (q0 := 0) rfl rfl, fun U hU hW => ⟨rfl, by rw [hU], by rw [hU]; exact hPc, va_K.moved hW.alike hKc, hDc.weaken (fun _ _ _ _ => trivial)⟩⟩ rfl rfl hl.1 rfl (lv_room (Nat.le_of_ble_eq_true rfl)) dX8_putStretch_38 ⟨Nat.le_of_ble_eq_true rfl, Nat.le_of_ble_eq_true rfl⟩) hS (fun q _ h => hFc q h) hFc (fun u t H1 locs ht hvm hw hB hz1 hk1 hS => ?_)
      obtain ⟨y8, hP1, hK1, hD1, hy8, px0_r7⟩ := hB
      rw [ht] at hP1
      have hK1 := va_K.moved hvm.symm hK1
      obtain ⟨hP, hD⟩ := va_join (wr := [(b_sc, .inl (kI, 5, .inl g_b_sc))]) (w1 := [(h0, .inr (8, [.ref b_sc, .ref b_sp, .ref b_cp, .ref b_sn, .ref b_sl, .int i_li, .int i_ed, .int i_se])), (b_sp, .inl (kI, 120, .inl y8))]) hP hD [1, 2] [0] rfl rfl (by decide) (by decide) hk1 hFc hP1 hD1
      have hK := (hK.sub (tys' := [(kI, .int), (kI, .int)]) [0, 1] rfl).app hK1
      generalize H1 = H at hP hS ⊢
      have hP : va_P D vwCl [(b_sc, .inl (kI, 5, .inl g_b_sc)), (h0, .inr (8, [.ref b_sc, .ref b_sp, .ref b_cp, .ref b_sn, .ref b_sl, .int i_li, .int i_ed, .int i_se])), (b_sp, .inl (kI, 120, .inl y8))] H := hP
      have hD : va_D A [(b_sc, .inl (kI, 5, .inl g_b_sc)), (h0, .inr (8, [.ref b_sc, .ref b_sp, .ref b_cp, .ref b_sn, .ref b_sl, .int i_li, .int i_ed, .int i_se])), (b_sp, .inl (kI, 120, .inl y8))] := hD
      have hK : va_K D vwCl [(kI, .int), (kI, .int), (kI, .int)] s := hK
      refine W.widen (k := 0) (n := 0) (Nat.le_of_ble_eq_true rfl) (Nat.le_of_ble_eq_true rfl) ?_
      refine lv_aload_n hx hb dX8_putStretch_41 rfl (lv_at hl 1 rfl) ?_
      refine lv_iload_n hx hb dX8_putStretch_42 rfl (lv_at hl 2 rfl) ?_
      refine lv_iload hx hb dX8_putStretch_43 (lv_at hl 0 rfl) ?_
      refine lv_iconst (v := 2) hx hb dX8_putStretch_45 (by decide) ?_
      refine lv_iload hx hb dX8_putStretch_46 (lv_at hl 5 rfl) ?_
      have kk2 : (2 : Int32).toInt = 2 := by decide
      have hPc := hP.sub (ws' := [(h0, .inr (8, [.ref b_sc, .ref b_sp, .ref b_cp, .ref b_sn, .ref b_sl, .int i_li, .int i_ed, .int i_se])), (b_sp, .inl (kI, 120, .inl y8))]) [1, 2] rfl
      have hKc := hK.sub (tys' := [(kI, .int)]) [0] rfl
      have hDc := hD.sub (ws' := [(h0, .inr (8, [.ref b_sc, .ref b_sp, .ref b_cp, .ref b_sn, .ref b_sl, .int i_li, .int i_ed, .int i_se])), (b_sp, .inl (kI, 120, .inl y8))]) [1, 2] (by decide) rfl
      have hFc := va_free (wc := [(h0, .inr (8, [.ref b_sc, .ref b_sp, .ref b_cp, .ref b_sn, .ref b_sl, .int i_li, .int i_ed, .int i_se])), (b_sp, .inl (kI, 120, .inl y8))]) hD hS hA [1, 2] rfl
      refine va_callv (va_runV (As := [.int i_e, .int r1, .int 2, .int i_m]) (rest := []) ⟨hx, hb, hml, hown, hts⟩ (c_X8_setPart__f l D h0 i_e r1 2 i_m b_sc b_sp b_cp b_sn b_sl i_li i_ed i_se kI y8 ke r1.toInt.toNat 2 H.size (by first | decide | omega) (by first | decide | omega) (by first | decide | omega) (by first | decide | omega) (by first | decide | omega) (by first | decide | omega) (by first | omega | decide | (have hz0 : (0 : Int32).toInt = 0 := (by decide); omega)) (by first | omega | decide | (have hz0 : (0 : Int32).toInt = 0 := (by decide); omega)) (by first | omega | decide | (have hz0 : (0 : Int32).toInt = 0 := (by decide); omega)) (by first | decide | omega) (by first | decide | omega) hy8) (cwV 4 hts g_X8_putStretch__f_X8_setPart__f rfl rfl rfl (by decide +kernel) ⟨Nat.le_of_ble_eq_true rfl, Nat.le_of_ble_eq_true rfl⟩) ⟨fun a U g mk q => by obtain ⟨q0, q1, qP, qK, qD⟩ := q; exact ⟨q0, q1, qP, va_K.moved (u := U) (U := U.calling g mk a) (Vm.Alike.refl U.vm) qK, qD⟩, va_recv hKc hPc (ci := 8) (q0 := 0) rfl rfl, fun U hU hW => ⟨rfl, by rw [hU], by rw [hU]; exact hPc, va_K.moved hW.alike hKc, hDc.weaken (fun _ _ _ _ => trivial)⟩⟩ rfl rfl hl.1 rfl (lv_room (Nat.le_of_ble_eq_true rfl)) dX8_putStretch_48 ⟨Nat.le_of_ble_eq_true rfl, Nat.le_of_ble_eq_true rfl⟩) hS (fun q _ h => hFc q h) hFc (fun u t H1 locs ht hvm hw hB hz1 hk1 hS => ?_)
      obtain ⟨y10, hP1, hK1, hD1, hy10, px0_r9⟩ := hB
      rw [ht] at hP1
      have hK1 := va_K.moved hvm.symm hK1
      obtain ⟨hP, hD⟩ := va_join (wr := [(b_sc, .inl (kI, 5, .inl g_b_sc))]) (w1 := [(h0, .inr (8, [.ref b_sc, .ref b_sp, .ref b_cp, .ref b_sn, .ref b_sl, .int i_li, .int i_ed, .int i_se])), (b_sp, .inl (kI, 120, .inl y10))]) hP hD [1, 2] [0] rfl rfl (by decide) (by decide) hk1 hFc hP1 hD1
      have hK := (hK.sub (tys' := [(kI, .int), (kI, .int), (kI, .int)]) [0, 1, 2] rfl).app hK1
      generalize H1 = H at hP hS ⊢
      have hP : va_P D vwCl [(b_sc, .inl (kI, 5, .inl g_b_sc)), (h0, .inr (8, [.ref b_sc, .ref b_sp, .ref b_cp, .ref b_sn, .ref b_sl, .int i_li, .int i_ed, .int i_se])), (b_sp, .inl (kI, 120, .inl y10))] H := hP
      have hD : va_D A [(b_sc, .inl (kI, 5, .inl g_b_sc)), (h0, .inr (8, [.ref b_sc, .ref b_sp, .ref b_cp, .ref b_sn, .ref b_sl, .int i_li, .int i_ed, .int i_se])), (b_sp, .inl (kI, 120, .inl y10))] := hD
      have hK : va_K D vwCl [(kI, .int), (kI, .int), (kI, .int), (kI, .int)] s := hK
      refine W.widen (k := 0) (n := 0) (Nat.le_of_ble_eq_true rfl) (Nat.le_of_ble_eq_true rfl) ?_
      refine lv_aload_n hx hb dX8_putStretch_51 rfl (lv_at hl 1 rfl) ?_
      refine lv_iload_n hx hb dX8_putStretch_52 rfl (lv_at hl 2 rfl) ?_
      refine lv_iload hx hb dX8_putStretch_53 (lv_at hl 0 rfl) ?_
      refine lv_iconst (v := 3) hx hb dX8_putStretch_55 (by decide) ?_
      refine lv_iload hx hb dX8_putStretch_56 (lv_at hl 6 rfl) ?_
      have kk3 : (3 : Int32).toInt = 3 := by decide
      have hPc := hP.sub (ws' := [(h0, .inr (8, [.ref b_sc, .ref b_sp, .ref b_cp, .ref b_sn, .ref b_sl, .int i_li, .int i_ed, .int i_se])), (b_sp, .inl (kI, 120, .inl y10))]) [1, 2] rfl
      have hKc := hK.sub (tys' := [(kI, .int)]) [0] rfl
      have hDc := hD.sub (ws' := [(h0, .inr (8, [.ref b_sc, .ref b_sp, .ref b_cp, .ref b_sn, .ref b_sl, .int i_li, .int i_ed, .int i_se])), (b_sp, .inl (kI, 120, .inl y10))]) [1, 2] (by decide) rfl
      have hFc := va_free (wc := [(h0, .inr (8, [.ref b_sc, .ref b_sp, .ref b_cp, .ref b_sn, .ref b_sl, .int i_li, .int i_ed, .int i_se])), (b_sp, .inl (kI, 120, .inl y10))]) hD hS hA [1, 2] rfl
      refine va_callv (va_runV (As := [.int i_e, .int r1, .int 3, .int i_f]) (rest := []) ⟨hx, hb, hml, hown, hts⟩ (c_X8_setPart__f l D h0 i_e r1 3 i_f b_sc b_sp b_cp b_sn b_sl i_li i_ed i_se kI y10 ke r1.toInt.toNat 3 H.size (by first | decide | omega) (by first | decide | omega) (by first | decide | omega) (by first | decide | omega) (by first | decide | omega) (by first | decide | omega) (by first | omega | decide | (have hz0 : (0 : Int32).toInt = 0 := (by decide); omega)) (by first | omega | decide | (have hz0 : (0 : Int32).toInt = 0 := (by decide); omega)) (by first | omega | decide | (have hz0 : (0 : Int32).toInt = 0 := (by decide); omega)) (by first | decide | omega) (by first | decide | omega) hy10) (cwV 4 hts g_X8_putStretch__f_X8_setPart__f rfl rfl rfl (by decide +kernel) ⟨Nat.le_of_ble_eq_true rfl, Nat.le_of_ble_eq_true rfl⟩) ⟨fun a U g mk q => by obtain ⟨q0, q1, qP, qK, qD⟩ := q; exact ⟨q0, q1, qP, va_K.moved (u := U) (U := U.calling g mk a) (Vm.Alike.refl U.vm) qK, qD⟩, va_recv hKc hPc (ci := 8) (q0 := 0) rfl rfl, fun U hU hW => ⟨rfl, by rw [hU], by rw [hU]; exact hPc, va_K.moved hW.alike hKc, hDc.weaken (fun _ _ _ _ => trivial)⟩⟩ rfl rfl hl.1 rfl (lv_room (Nat.le_of_ble_eq_true rfl)) dX8_putStretch_58 ⟨Nat.le_of_ble_eq_true rfl, Nat.le_of_ble_eq_true rfl⟩) hS (fun q _ h => hFc q h) hFc (fun u t H1 locs ht hvm hw hB hz1 hk1 hS => ?_)
      obtain ⟨y12, hP1, hK1, hD1, hy12, px0_r11⟩ := hB
      rw [ht] at hP1
      have hK1 := va_K.moved hvm.symm hK1
      obtain ⟨hP, hD⟩ := va_join (wr := [(b_sc, .inl (kI, 5, .inl g_b_sc))]) (w1 := [(h0, .inr (8, [.ref b_sc, .ref b_sp, .ref b_cp, .ref b_sn, .ref b_sl, .int i_li, .int i_ed, .int i_se])), (b_sp, .inl (kI, 120, .inl y12))]) hP hD [1, 2] [0] rfl rfl (by decide) (by decide) hk1 hFc hP1 hD1
      have hK := (hK.sub (tys' := [(kI, .int), (kI, .int), (kI, .int), (kI, .int)]) [0, 1, 2, 3] rfl).app hK1
      generalize H1 = H at hP hS ⊢
      have hP : va_P D vwCl [(b_sc, .inl (kI, 5, .inl g_b_sc)), (h0, .inr (8, [.ref b_sc, .ref b_sp, .ref b_cp, .ref b_sn, .ref b_sl, .int i_li, .int i_ed, .int i_se])), (b_sp, .inl (kI, 120, .inl y12))] H := hP
      have hD : va_D A [(b_sc, .inl (kI, 5, .inl g_b_sc)), (h0, .inr (8, [.ref b_sc, .ref b_sp, .ref b_cp, .ref b_sn, .ref b_sl, .int i_li, .int i_ed, .int i_se])), (b_sp, .inl (kI, 120, .inl y12))] := hD
      have hK : va_K D vwCl [(kI, .int), (kI, .int), (kI, .int), (kI, .int), (kI, .int)] s := hK
      refine W.widen (k := 0) (n := 0) (Nat.le_of_ble_eq_true rfl) (Nat.le_of_ble_eq_true rfl) ?_
      refine lv_aload_n hx hb dX8_putStretch_61 rfl (lv_at hl 1 rfl) ?_
      refine va_get (D := D) (ci := 8) (v := .ref b_sc) (C := RX8) (T := TX8) (N := 8) hx hb hts (fun _ h => List.mem_cons_of_mem _ (List.mem_append_right _ h)) hown hK hP 1 rfl rfl 0 (by decide) (hts (.fieldLink RX8 9 "LineCites$Work" "stretchCounts" "[I") (List.mem_of_getElem? (i := 11) rfl)) (fun _ h9 => h9) rfl dX8_putStretch_62 ?_
      refine lv_iload_n hx hb dX8_putStretch_65 rfl (lv_at hl 2 rfl) ?_
      refine lv_iload hx hb dX8_putStretch_66 (lv_at hl 0 rfl) ?_
      refine lv_iconst (v := 1) hx hb dX8_putStretch_68 (by decide) ?_
      refine lv_iadd hx hb dX8_putStretch_69 ?_
      refine lv_topi (fun x13 ex13 => ?_)
      have tx13 : x13.toInt = r1.toInt + 1 := pw_addX ex13 rfl (by decide) (by omega) (by omega)
      refine va_iast hx hb hK hP hD hS 0 0 rfl rfl (vp_in_iff.mpr ⟨by omega, by omega⟩) dX8_putStretch_70 (fun H locs hP hD hS => ?_)
      obtain ⟨g14, eg14⟩ : ∃ g : Nat → Int32, g = upd g_b_sc (i_e : Int32).toNatClampNeg x13 := ⟨_, rfl⟩
      have hP : va_P D vwCl [(b_sc, .inl (kI, 5, .inl (upd g_b_sc (i_e : Int32).toNatClampNeg x13))), (h0, .inr (8, [.ref b_sc, .ref b_sp, .ref b_cp, .ref b_sn, .ref b_sl, .int i_li, .int i_ed, .int i_se])), (b_sp, .inl (kI, 120, .inl y12))] H := hP
      have hD : va_D A [(b_sc, .inl (kI, 5, .inl (upd g_b_sc (i_e : Int32).toNatClampNeg x13))), (h0, .inr (8, [.ref b_sc, .ref b_sp, .ref b_cp, .ref b_sn, .ref b_sl, .int i_li, .int i_ed, .int i_se])), (b_sp, .inl (kI, 120, .inl y12))] := hD
      have hK : va_K D vwCl [(kI, .int), (kI, .int), (kI, .int), (kI, .int), (kI, .int)] s := hK
      rw [← eg14] at hP hD
      have hP9 := hP.sub (ws' := [(h0, .inr (8, [.ref b_sc, .ref b_sp, .ref b_cp, .ref b_sn, .ref b_sl, .int i_li, .int i_ed, .int i_se])), (b_sc, .inl (kI, 5, .inl g14)), (b_sp, .inl (kI, 120, .inl y12))]) [1, 0, 2] rfl
      have hD9 := hD.sub (ws' := [(h0, .inr (8, [.ref b_sc, .ref b_sp, .ref b_cp, .ref b_sn, .ref b_sl, .int i_li, .int i_ed, .int i_se])), (b_sc, .inl (kI, 5, .inl g14)), (b_sp, .inl (kI, 120, .inl y12))]) [1, 0, 2] (by decide) rfl
      have hK9 := hK.sub (tys' := [(kI, .int)]) [0] rfl
      refine W.widen (k := 0) (n := 0) (Nat.le_of_ble_eq_true rfl) (Nat.le_of_ble_eq_true rfl) ?_
      exact W.vret hx hb hr (fun t ht hW => ⟨⟨(), rfl, trivial, g14, y12, by rw [ht]; exact hP9, va_K.moved hW.alike hK9, hD9, hy12, (dR_put hdR (s := r1.toInt.toNat) (by omega) (by omega) px0_r5 px0_r7 px0_r9 px0_r11 (updAt eg14 (by omega)) (by omega) (by omega) (by omega) (by omega))⟩, hS.F ht⟩) hS.2.2 dX8_putStretch_71
    · have nc4 : 6 ≤ r1.toInt := pw_nlt c4 rfl (by decide)
      have hP9 := hP.sub (ws' := [(h0, .inr (8, [.ref b_sc, .ref b_sp, .ref b_cp, .ref b_sn, .ref b_sl, .int i_li, .int i_ed, .int i_se])), (b_sc, .inl (kI, 5, .inl g_b_sc)), (b_sp, .inl (kI, 120, .inl g_b_sp))]) [0, 1, 2] rfl
      have hD9 := hD.sub (ws' := [(h0, .inr (8, [.ref b_sc, .ref b_sp, .ref b_cp, .ref b_sn, .ref b_sl, .int i_li, .int i_ed, .int i_se])), (b_sc, .inl (kI, 5, .inl g_b_sc)), (b_sp, .inl (kI, 120, .inl g_b_sp))]) [0, 1, 2] (by decide) rfl
      have hK9 := hK.sub (tys' := [(kI, .int)]) [0] rfl
      refine W.widen (k := 0) (n := 0) (Nat.le_of_ble_eq_true rfl) (Nat.le_of_ble_eq_true rfl) ?_
      exact W.vret hx hb hr (fun t ht hW => ⟨⟨(), rfl, trivial, g_b_sc, g_b_sp, by rw [ht]; exact hP9, va_K.moved hW.alike hK9, hD9, hg_b_sp, (False.elim (by omega))⟩, hS.F ht⟩) hS.2.2 dX8_putStretch_22
