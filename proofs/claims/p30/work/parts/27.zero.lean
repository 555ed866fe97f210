
def w_X8_hasEdition__z : List Cond := .code yX8_hasEdition cX8_hasEdition 2 (some .boolean) :: ([.fieldLink RX8 37 "LineCites$Work" "editions" "I"] ++ wsX80)
set_option maxHeartbeats 4000000 in
set_option maxRecDepth 100000 in
theorem c_X8_hasEdition__z (l : Launch) (D : va_G) (h0 : Nat) (i_e : Int32) (b_sc : Nat) (b_sp : Nat) (b_cp : Nat) (b_sn : Nat) (b_sl : Nat) : Met l yX8_hasEdition w_X8_hasEdition__z ({ frames := 0, cells := 0, slots := 0, locals := 0 }) (va_Pc [.ref h0, .int i_e] (fun U => va_P D vwCl [(h0, .inr (8, [.ref b_sc, .ref b_sp, .ref b_cp, .ref b_sn, .ref b_sl, .int 0, .int 0, .int 0]))] U.heap ∧ va_K D vwCl [] U)) (va_Qi (fun (r : Int32) (_ : Unit) => r = 0) (fun _ _ => True) (fun _ => False)) 0 0 (fun _ => False) := by
  refine Met.ofW (cc := cX8_hasEdition) (maxL := 2) (ret := (some .boolean)) (by decide) rfl ?_
  intro p e s m args below meth c s₁ B hml hv
  obtain ⟨rfl, hP, hK⟩ := hv
  have hx := B.exec
  have hb := B.bytes
  have hr := B.returns
  have hts := atoms_spec (ws := w_X8_hasEdition__z) B.pre
  have hown : s.vm.findClass RX8 = some m.cls := findClass_of_methodNamed B.named
  have hlocks := B.notSynchronized
  have hS : va_S (fun _ : Nat => False) s.heap s.heap [] := va_S.rf
  have hP : va_P D vwCl [(h0, .inr (8, [.ref b_sc, .ref b_sp, .ref b_cp, .ref b_sn, .ref b_sl, .int 0, .int 0, .int 0]))] s.heap := hP
  have hl := lv_entry ([.ref h0, .int i_e]) (n := 2) (Nat.le_of_ble_eq_true rfl)
  rw [lg_entry_eq]
  generalize (lg_sl ([.ref h0, .int i_e]) ++ List.replicate (2 - (lg_sl ([.ref h0, .int i_e])).length) Slot.unset).toArray = ls at hl ⊢
  have hl : lv_has ls 2 [(0, .ref h0), (1, .int i_e)] := hl
  obtain ⟨H, hHe⟩ : ∃ H : Heap, H = s.heap := ⟨_, rfl⟩
  rw [← hHe] at hP
  have hS : va_S (fun _ : Nat => False) s.heap H [] := by rw [hHe]; exact hS
  refine pw_heap hHe ?_
  refine lv_iload_n hx hb dX8_hasEdition_0 rfl (lv_at hl 1 rfl) ?_
  refine lv_if_lt (tgt := 25) hx hb dX8_hasEdition_1 (by decide) (fun c1 => ?_) (fun c1 => ?_)
  · have nc1 : i_e.toInt < 0 := pw_lt c1 rfl (by decide)
    refine lv_iconst (v := 0) hx hb dX8_hasEdition_25 (by decide) ?_
    exact W.zret (v := 0) (ty := .boolean) hx hb hr rfl (fun t ht hW => ⟨⟨0, (), rfl, rfl, trivial⟩, hS.F ht⟩) hS.2.2 dX8_hasEdition_26
  · have nc1 : 0 ≤ i_e.toInt := pw_nlt c1 rfl (by decide)
    refine lv_iload_n hx hb dX8_hasEdition_4 rfl (lv_at hl 1 rfl) ?_
    refine lv_aload_n hx hb dX8_hasEdition_5 rfl (lv_at hl 0 rfl) ?_
    refine va_get (D := D) (ci := 8) (v := .int 0) (C := RX8) (T := TX8) (N := 8) hx hb hts (fun _ h => List.mem_cons_of_mem _ (List.mem_append_right _ h)) hown hK hP 0 rfl rfl 6 (by decide) (hts (.fieldLink RX8 37 "LineCites$Work" "editions" "I") (List.mem_of_getElem? (i := 1) rfl)) (fun _ h9 => h9) rfl dX8_hasEdition_6 ?_
    refine lv_icmp_ge (tgt := 25) hx hb dX8_hasEdition_9 (by decide) (fun c2 => ?_) (fun c2 => False.elim (by have nn : i_e.toInt < 0 := pw_nle c2 (by decide) rfl; omega))
    have nc2 : 0 ≤ i_e.toInt := pw_le c2 (by decide) rfl
    refine lv_iconst (v := 0) hx hb dX8_hasEdition_25 (by decide) ?_
    exact W.zret (v := 0) (ty := .boolean) hx hb hr rfl (fun t ht hW => ⟨⟨0, (), rfl, rfl, trivial⟩, hS.F ht⟩) hS.2.2 dX8_hasEdition_26
def w_X8_stretchesOf__z : List Cond := .code yX8_stretchesOf cX8_stretchesOf 2 (some .int) :: ([.methodLink RX8 43 yX8_hasEdition, .instanceMethod yX8_hasEdition, .selects RX8 yX8_hasEdition yX8_hasEdition, .initialized RX8, .code yX8_hasEdition cX8_hasEdition 2 (some .boolean), .fieldLink RX8 37 "LineCites$Work" "editions" "I"] ++ wsX80)
set_option maxRecDepth 20000 in
theorem g_X8_stretchesOf__z_X8_hasEdition__z : GoodIn w_X8_stretchesOf__z (wsV RX8 43 RX8 yX8_hasEdition w_X8_hasEdition__z) := goodIn_r _ [1, 2, 3, 4, 5, 6, 7, 8, 9, 10, 11, 12, 13, 14] rfl (by decide +kernel)
set_option maxHeartbeats 4000000 in
set_option maxRecDepth 100000 in
theorem c_X8_stretchesOf__z (l : Launch) (D : va_G) (h0 : Nat) (i_e : Int32) (b_sc : Nat) (b_sp : Nat) (b_cp : Nat) (b_sn : Nat) (b_sl : Nat) : Met l yX8_stretchesOf w_X8_stretchesOf__z ({ frames := 1, cells := 0, slots := 0, locals := 21 }) (va_Pc [.ref h0, .int i_e] (fun U => va_P D vwCl [(h0, .inr (8, [.ref b_sc, .ref b_sp, .ref b_cp, .ref b_sn, .ref b_sl, .int 0, .int 0, .int 0]))] U.heap ∧ va_K D vwCl [] U)) (va_Qi (fun (r : Int32) (_ : Unit) => r = 0) (fun _ _ => True) (fun _ => False)) 0 0 (fun _ => False) := by
  refine Met.ofW (cc := cX8_stretchesOf) (maxL := 2) (ret := (some .int)) (by decide) rfl ?_
  intro p e s m args below meth c s₁ B hml hv
  obtain ⟨rfl, hP, hK⟩ := hv
  have hx := B.exec
  have hb := B.bytes
  have hr := B.returns
  have hts := atoms_spec (ws := w_X8_stretchesOf__z) B.pre
  have hown : s.vm.findClass RX8 = some m.cls := findClass_of_methodNamed B.named
  have hlocks := B.notSynchronized
  have hS : va_S (fun _ : Nat => False) s.heap s.heap [] := va_S.rf
  have hP : va_P D vwCl [(h0, .inr (8, [.ref b_sc, .ref b_sp, .ref b_cp, .ref b_sn, .ref b_sl, .int 0, .int 0, .int 0]))] s.heap := hP
  have hl := lv_entry ([.ref h0, .int i_e]) (n := 2) (Nat.le_of_ble_eq_true rfl)
  rw [lg_entry_eq]
  generalize (lg_sl ([.ref h0, .int i_e]) ++ List.replicate (2 - (lg_sl ([.ref h0, .int i_e])).length) Slot.unset).toArray = ls at hl ⊢
  have hl : lv_has ls 2 [(0, .ref h0), (1, .int i_e)] := hl
  obtain ⟨H, hHe⟩ : ∃ H : Heap, H = s.heap := ⟨_, rfl⟩
  rw [← hHe] at hP
  have hS : va_S (fun _ : Nat => False) s.heap H [] := by rw [hHe]; exact hS
  refine pw_heap hHe ?_
  refine lv_aload_n hx hb dX8_stretchesOf_0 rfl (lv_at hl 0 rfl) ?_
  refine lv_iload_n hx hb dX8_stretchesOf_1 rfl (lv_at hl 1 rfl) ?_
  have hPc := hP.sub (ws' := [(h0, .inr (8, [.ref b_sc, .ref b_sp, .ref b_cp, .ref b_sn, .ref b_sl, .int 0, .int 0, .int 0]))]) [0] rfl
  have hKc := hK.sub (tys' := []) [] rfl
  refine va_calli (va_runV (As := [.int i_e]) (rest := []) ⟨hx, hb, hml, hown, hts⟩ (c_X8_hasEdition__z l D h0 i_e b_sc b_sp b_cp b_sn b_sl) (cwV 1 hts g_X8_stretchesOf__z_X8_hasEdition__z rfl rfl rfl (by decide +kernel) ⟨Nat.le_of_ble_eq_true rfl, Nat.le_of_ble_eq_true rfl⟩) ⟨fun a U g mk q => by obtain ⟨q0, qP, qK⟩ := q; exact ⟨q0, qP, va_K.moved (u := U) (U := U.calling g mk a) (Vm.Alike.refl U.vm) qK⟩, va_recv hKc hPc (ci := 8) (q0 := 0) rfl rfl, fun U hU hW => ⟨rfl, by rw [hU]; exact hPc, va_K.moved hW.alike hKc⟩⟩ rfl rfl hl.1 rfl (lv_room (Nat.le_of_ble_eq_true rfl)) dX8_stretchesOf_2 ⟨Nat.le_of_ble_eq_true rfl, Nat.le_of_ble_eq_true rfl⟩) hS (fun _ _ h => h.elim) (fun _ h => h.elim) (fun r1 u t H1 locs ht hvm hw hB hz1 hk1 hS => ?_)
  have hP := pw_keep hP (fun q hq => hk1 q hq (fun h => h))
  generalize H1 = H at hP hS ⊢
  refine W.widen (k := 0) (n := 0) (Nat.le_of_ble_eq_true rfl) (Nat.le_of_ble_eq_true rfl) ?_
  obtain rfl : r1 = 0 := hw
  refine lv_if_eq (tgt := 17) hx hb dX8_stretchesOf_5 (by decide) (fun c2 => ?_) (fun c2 => absurd (by decide) c2)
  refine lv_iconst (v := 0) hx hb dX8_stretchesOf_17 (by decide) ?_
  exact W.iret (v := 0) hx hb hr (fun t ht hW => ⟨⟨0, (), rfl, rfl, trivial⟩, hS.F ht⟩) hS.2.2 dX8_stretchesOf_18
def w_X8_hasStretch__z : List Cond := .code yX8_hasStretch cX8_hasStretch 3 (some .boolean) :: ([.methodLink RX8 47 yX8_stretchesOf, .instanceMethod yX8_stretchesOf, .selects RX8 yX8_stretchesOf yX8_stretchesOf, .initialized RX8, .code yX8_stretchesOf cX8_stretchesOf 2 (some .int), .methodLink RX8 43 yX8_hasEdition, .instanceMethod yX8_hasEdition, .selects RX8 yX8_hasEdition yX8_hasEdition, .code yX8_hasEdition cX8_hasEdition 2 (some .boolean), .fieldLink RX8 37 "LineCites$Work" "editions" "I"] ++ wsX80)
set_option maxRecDepth 20000 in
theorem g_X8_hasStretch__z_X8_stretchesOf__z : GoodIn w_X8_hasStretch__z (wsV RX8 47 RX8 yX8_stretchesOf w_X8_stretchesOf__z) := goodIn_r _ [1, 2, 3, 4, 5, 6, 7, 8, 4, 9, 10, 11, 12, 13, 14, 15, 16, 17, 18] rfl (by decide +kernel)
set_option maxHeartbeats 4000000 in
set_option maxRecDepth 100000 in
theorem c_X8_hasStretch__z (l : Launch) (D : va_G) (h0 : Nat) (i_e : Int32) (i_s : Int32) (b_sc : Nat) (b_sp : Nat) (b_cp : Nat) (b_sn : Nat) (b_sl : Nat) : Met l yX8_hasStretch w_X8_hasStretch__z ({ frames := 2, cells := 0, slots := 0, locals := 42 }) (va_Pc [.ref h0, .int i_e, .int i_s] (fun U => va_P D vwCl [(h0, .inr (8, [.ref b_sc, .ref b_sp, .ref b_cp, .ref b_sn, .ref b_sl, .int 0, .int 0, .int 0]))] U.heap ∧ va_K D vwCl [] U)) (va_Qi (fun (r : Int32) (_ : Unit) => r = 0) (fun _ _ => True) (fun _ => False)) 0 0 (fun _ => False) := by
  refine Met.ofW (cc := cX8_hasStretch) (maxL := 3) (ret := (some .boolean)) (by decide) rfl ?_
  intro p e s m args below meth c s₁ B hml hv
  obtain ⟨rfl, hP, hK⟩ := hv
  have hx := B.exec
  have hb := B.bytes
  have hr := B.returns
  have hts := atoms_spec (ws := w_X8_hasStretch__z) B.pre
  have hown : s.vm.findClass RX8 = some m.cls := findClass_of_methodNamed B.named
  have hlocks := B.notSynchronized
  have hS : va_S (fun _ : Nat => False) s.heap s.heap [] := va_S.rf
  have hP : va_P D vwCl [(h0, .inr (8, [.ref b_sc, .ref b_sp, .ref b_cp, .ref b_sn, .ref b_sl, .int 0, .int 0, .int 0]))] s.heap := hP
  have hl := lv_entry ([.ref h0, .int i_e, .int i_s]) (n := 3) (Nat.le_of_ble_eq_true rfl)
  rw [lg_entry_eq]
  generalize (lg_sl ([.ref h0, .int i_e, .int i_s]) ++ List.replicate (3 - (lg_sl ([.ref h0, .int i_e, .int i_s])).length) Slot.unset).toArray = ls at hl ⊢
  have hl : lv_has ls 3 [(0, .ref h0), (1, .int i_e), (2, .int i_s)] := hl
  obtain ⟨H, hHe⟩ : ∃ H : Heap, H = s.heap := ⟨_, rfl⟩
  rw [← hHe] at hP
  have hS : va_S (fun _ : Nat => False) s.heap H [] := by rw [hHe]; exact hS
  refine pw_heap hHe ?_
  refine lv_iload_n hx hb dX8_hasStretch_0 rfl (lv_at hl 2 rfl) ?_
  refine lv_if_lt (tgt := 17) hx hb dX8_hasStretch_1 (by decide) (fun c1 => ?_) (fun c1 => ?_)
  · have nc1 : i_s.toInt < 0 := pw_lt c1 rfl (by decide)
    refine lv_iconst (v := 0) hx hb dX8_hasStretch_17 (by decide) ?_
    exact W.zret (v := 0) (ty := .boolean) hx hb hr rfl (fun t ht hW => ⟨⟨0, (), rfl, rfl, trivial⟩, hS.F ht⟩) hS.2.2 dX8_hasStretch_18
  · have nc1 : 0 ≤ i_s.toInt := pw_nlt c1 rfl (by decide)
    refine lv_iload_n hx hb dX8_hasStretch_4 rfl (lv_at hl 2 rfl) ?_
    refine lv_aload_n hx hb dX8_hasStretch_5 rfl (lv_at hl 0 rfl) ?_
    refine lv_iload_n hx hb dX8_hasStretch_6 rfl (lv_at hl 1 rfl) ?_
    have hPc := hP.sub (ws' := [(h0, .inr (8, [.ref b_sc, .ref b_sp, .ref b_cp, .ref b_sn, .ref b_sl, .int 0, .int 0, .int 0]))]) [0] rfl
    have hKc := hK.sub (tys' := []) [] rfl
    refine va_calli (va_runV (As := [.int i_e]) (rest := [.int i_s]) ⟨hx, hb, hml, hown, hts⟩ (c_X8_stretchesOf__z l D h0 i_e b_sc b_sp b_cp b_sn b_sl) (cwV 1 hts g_X8_hasStretch__z_X8_stretchesOf__z rfl rfl rfl (by decide +kernel) ⟨Nat.le_of_ble_eq_true rfl, Nat.le_of_ble_eq_true rfl⟩) ⟨fun a U g mk q => by obtain ⟨q0, qP, qK⟩ := q; exact ⟨q0, qP, va_K.moved (u := U) (U := U.calling g mk a) (Vm.Alike.refl U.vm) qK⟩, va_recv hKc hPc (ci := 8) (q0 := 0) rfl rfl, fun U hU hW => ⟨rfl, by rw [hU]; exact hPc, va_K.moved hW.alike hKc⟩⟩ rfl rfl hl.1 rfl (lv_room (Nat.le_of_ble_eq_true rfl)) dX8_hasStretch_7 ⟨Nat.le_of_ble_eq_true rfl, Nat.le_of_ble_eq_true rfl⟩) hS (fun _ _ h => h.elim) (fun _ h => h.elim) (fun r2 u t H1 locs ht hvm hw hB hz1 hk1 hS => ?_)
    have hP := pw_keep hP (fun q hq => hk1 q hq (fun h => h))
    generalize H1 = H at hP hS ⊢
    refine W.widen (k := 0) (n := 0) (Nat.le_of_ble_eq_true rfl) (Nat.le_of_ble_eq_true rfl) ?_
    obtain rfl : r2 = 0 := hw
    refine lv_icmp_ge (tgt := 17) hx hb dX8_hasStretch_10 (by decide) (fun c3 => ?_) (fun c3 => False.elim (by have nn : i_s.toInt < 0 := pw_nle c3 (by decide) rfl; omega))
    have nc3 : 0 ≤ i_s.toInt := pw_le c3 (by decide) rfl
    refine lv_iconst (v := 0) hx hb dX8_hasStretch_17 (by decide) ?_
    exact W.zret (v := 0) (ty := .boolean) hx hb hr rfl (fun t ht hW => ⟨⟨0, (), rfl, rfl, trivial⟩, hS.F ht⟩) hS.2.2 dX8_hasStretch_18
def w_X8_hasLine__z : List Cond := .code yX8_hasLine cX8_hasLine 2 (some .boolean) :: ([.fieldLink RX8 33 "LineCites$Work" "lines" "I"] ++ wsX80)
set_option maxHeartbeats 4000000 in
set_option maxRecDepth 100000 in
theorem c_X8_hasLine__z (l : Launch) (D : va_G) (h0 : Nat) (i_n : Int32) (b_sc : Nat) (b_sp : Nat) (b_cp : Nat) (b_sn : Nat) (b_sl : Nat) : Met l yX8_hasLine w_X8_hasLine__z ({ frames := 0, cells := 0, slots := 0, locals := 0 }) (va_Pc [.ref h0, .int i_n] (fun U => va_P D vwCl [(h0, .inr (8, [.ref b_sc, .ref b_sp, .ref b_cp, .ref b_sn, .ref b_sl, .int 0, .int 0, .int 0]))] U.heap ∧ va_K D vwCl [] U)) (va_Qi (fun (r : Int32) (_ : Unit) => r = 0) (fun _ _ => True) (fun _ => False)) 0 0 (fun _ => False) := by
  refine Met.ofW (cc := cX8_hasLine) (maxL := 2) (ret := (some .boolean)) (by decide) rfl ?_
  intro p e s m args below meth c s₁ B hml hv
  obtain ⟨rfl, hP, hK⟩ := hv
  have hx := B.exec
  have hb := B.bytes
  have hr := B.returns
  have hts := atoms_spec (ws := w_X8_hasLine__z) B.pre
  have hown : s.vm.findClass RX8 = some m.cls := findClass_of_methodNamed B.named
  have hlocks := B.notSynchronized
  have hS : va_S (fun _ : Nat => False) s.heap s.heap [] := va_S.rf
  have hP : va_P D vwCl [(h0, .inr (8, [.ref b_sc, .ref b_sp, .ref b_cp, .ref b_sn, .ref b_sl, .int 0, .int 0, .int 0]))] s.heap := hP
  have hl := lv_entry ([.ref h0, .int i_n]) (n := 2) (Nat.le_of_ble_eq_true rfl)
  rw [lg_entry_eq]
  generalize (lg_sl ([.ref h0, .int i_n]) ++ List.replicate (2 - (lg_sl ([.ref h0, .int i_n])).length) Slot.unset).toArray = ls at hl ⊢
  have hl : lv_has ls 2 [(0, .ref h0), (1, .int i_n)] := hl
  obtain ⟨H, hHe⟩ : ∃ H : Heap, H = s.heap := ⟨_, rfl⟩
  rw [← hHe] at hP
  have hS : va_S (fun _ : Nat => False) s.heap H [] := by rw [hHe]; exact hS
  refine pw_heap hHe ?_
  refine lv_iload_n hx hb dX8_hasLine_0 rfl (lv_at hl 1 rfl) ?_
  refine lv_if_lt (tgt := 16) hx hb dX8_hasLine_1 (by decide) (fun c1 => ?_) (fun c1 => ?_)
  · have nc1 : i_n.toInt < 0 := pw_lt c1 rfl (by decide)
    refine lv_iconst (v := 0) hx hb dX8_hasLine_16 (by decide) ?_
    exact W.zret (v := 0) (ty := .boolean) hx hb hr rfl (fun t ht hW => ⟨⟨0, (), rfl, rfl, trivial⟩, hS.F ht⟩) hS.2.2 dX8_hasLine_17
  · have nc1 : 0 ≤ i_n.toInt := pw_nlt c1 rfl (by decide)
    refine lv_iload_n hx hb dX8_hasLine_4 rfl (lv_at hl 1 rfl) ?_
    refine lv_aload_n hx hb dX8_hasLine_5 rfl (lv_at hl 0 rfl) ?_
    refine va_get (D := D) (ci := 8) (v := .int 0) (C := RX8) (T := TX8) (N := 8) hx hb hts (fun _ h => List.mem_cons_of_mem _ (List.mem_append_right _ h)) hown hK hP 0 rfl rfl 5 (by decide) (hts (.fieldLink RX8 33 "LineCites$Work" "lines" "I") (List.mem_of_getElem? (i := 1) rfl)) (fun _ h9 => h9) rfl dX8_hasLine_6 ?_
    refine lv_icmp_ge (tgt := 16) hx hb dX8_hasLine_9 (by decide) (fun c2 => ?_) (fun c2 => False.elim (by have nn : i_n.toInt < 0 := pw_nle c2 (by decide) rfl; omega))
    have nc2 : 0 ≤ i_n.toInt := pw_le c2 (by decide) rfl
    refine lv_iconst (v := 0) hx hb dX8_hasLine_16 (by decide) ?_
    exact W.zret (v := 0) (ty := .boolean) hx hb hr rfl (fun t ht hW => ⟨⟨0, (), rfl, rfl, trivial⟩, hS.F ht⟩) hS.2.2 dX8_hasLine_17
def w_X8_lines__z : List Cond := .code yX8_lines cX8_lines 1 (some .int) :: ([.fieldLink RX8 33 "LineCites$Work" "lines" "I"] ++ wsX80)
set_option maxHeartbeats 4000000 in
set_option maxRecDepth 100000 in
theorem c_X8_lines__z (l : Launch) (D : va_G) (h0 : Nat) (b_sc : Nat) (b_sp : Nat) (b_cp : Nat) (b_sn : Nat) (b_sl : Nat) : Met l yX8_lines w_X8_lines__z ({ frames := 0, cells := 0, slots := 0, locals := 0 }) (va_Pc [.ref h0] (fun U => va_P D vwCl [(h0, .inr (8, [.ref b_sc, .ref b_sp, .ref b_cp, .ref b_sn, .ref b_sl, .int 0, .int 0, .int 0]))] U.heap ∧ va_K D vwCl [] U)) (va_Qi (fun (r : Int32) (_ : Unit) => r = 0) (fun _ _ => True) (fun _ => False)) 0 0 (fun _ => False) := by
  refine Met.ofW (cc := cX8_lines) (maxL := 1) (ret := (some .int)) (by decide) rfl ?_
  intro p e s m args below meth c s₁ B hml hv
  obtain ⟨rfl, hP, hK⟩ := hv
  have hx := B.exec
  have hb := B.bytes
  have hr := B.returns
  have hts := atoms_spec (ws := w_X8_lines__z) B.pre
  have hown : s.vm.findClass RX8 = some m.cls := findClass_of_methodNamed B.named
  have hlocks := B.notSynchronized
  have hS : va_S (fun _ : Nat => False) s.heap s.heap [] := va_S.rf
  have hP : va_P D vwCl [(h0, .inr (8, [.ref b_sc, .ref b_sp, .ref b_cp, .ref b_sn, .ref b_sl, .int 0, .int 0, .int 0]))] s.heap := hP
  have hl := lv_entry ([.ref h0]) (n := 1) (Nat.le_of_ble_eq_true rfl)
  rw [lg_entry_eq]
  generalize (lg_sl ([.ref h0]) ++ List.replicate (1 - (lg_sl ([.ref h0])).length) Slot.unset).toArray = ls at hl ⊢
  have hl : lv_has ls 1 [(0, .ref h0)] := hl
  obtain ⟨H, hHe⟩ : ∃ H : Heap, H = s.heap := ⟨_, rfl⟩
  rw [← hHe] at hP
  have hS : va_S (fun _ : Nat => False) s.heap H [] := by rw [hHe]; exact hS
  refine pw_heap hHe ?_
  refine lv_aload_n hx hb dX8_lines_0 rfl (lv_at hl 0 rfl) ?_
  refine va_get (D := D) (ci := 8) (v := .int 0) (C := RX8) (T := TX8) (N := 8) hx hb hts (fun _ h => List.mem_cons_of_mem _ (List.mem_append_right _ h)) hown hK hP 0 rfl rfl 5 (by decide) (hts (.fieldLink RX8 33 "LineCites$Work" "lines" "I") (List.mem_of_getElem? (i := 1) rfl)) (fun _ h9 => h9) rfl dX8_lines_1 ?_
  exact W.iret (v := 0) hx hb hr (fun t ht hW => ⟨⟨0, (), rfl, rfl, trivial⟩, hS.F ht⟩) hS.2.2 dX8_lines_4
def w_X8_editions__z : List Cond := .code yX8_editions cX8_editions 1 (some .int) :: ([.fieldLink RX8 37 "LineCites$Work" "editions" "I"] ++ wsX80)
set_option maxHeartbeats 4000000 in
set_option maxRecDepth 100000 in
theorem c_X8_editions__z (l : Launch) (D : va_G) (h0 : Nat) (b_sc : Nat) (b_sp : Nat) (b_cp : Nat) (b_sn : Nat) (b_sl : Nat) : Met l yX8_editions w_X8_editions__z ({ frames := 0, cells := 0, slots := 0, locals := 0 }) (va_Pc [.ref h0] (fun U => va_P D vwCl [(h0, .inr (8, [.ref b_sc, .ref b_sp, .ref b_cp, .ref b_sn, .ref b_sl, .int 0, .int 0, .int 0]))] U.heap ∧ va_K D vwCl [] U)) (va_Qi (fun (r : Int32) (_ : Unit) => r = 0) (fun _ _ => True) (fun _ => False)) 0 0 (fun _ => False) := by
  refine Met.ofW (cc := cX8_editions) (maxL := 1) (ret := (some .int)) (by decide) rfl ?_
  intro p e s m args below meth c s₁ B hml hv
  obtain ⟨rfl, hP, hK⟩ := hv
  have hx := B.exec
  have hb := B.bytes
  have hr := B.returns
  have hts := atoms_spec (ws := w_X8_editions__z) B.pre
  have hown : s.vm.findClass RX8 = some m.cls := findClass_of_methodNamed B.named
  have hlocks := B.notSynchronized
  have hS : va_S (fun _ : Nat => False) s.heap s.heap [] := va_S.rf
  have hP : va_P D vwCl [(h0, .inr (8, [.ref b_sc, .ref b_sp, .ref b_cp, .ref b_sn, .ref b_sl, .int 0, .int 0, .int 0]))] s.heap := hP
  have hl := lv_entry ([.ref h0]) (n := 1) (Nat.le_of_ble_eq_true rfl)
  rw [lg_entry_eq]
  generalize (lg_sl ([.ref h0]) ++ List.replicate (1 - (lg_sl ([.ref h0])).length) Slot.unset).toArray = ls at hl ⊢
  have hl : lv_has ls 1 [(0, .ref h0)] := hl
  obtain ⟨H, hHe⟩ : ∃ H : Heap, H = s.heap := ⟨_, rfl⟩
  rw [← hHe] at hP
  have hS : va_S (fun _ : Nat => False) s.heap H [] := by rw [hHe]; exact hS
  refine pw_heap hHe ?_
  refine lv_aload_n hx hb dX8_editions_0 rfl (lv_at hl 0 rfl) ?_
  refine va_get (D := D) (ci := 8) (v := .int 0) (C := RX8) (T := TX8) (N := 8) hx hb hts (fun _ h => List.mem_cons_of_mem _ (List.mem_append_right _ h)) hown hK hP 0 rfl rfl 6 (by decide) (hts (.fieldLink RX8 37 "LineCites$Work" "editions" "I") (List.mem_of_getElem? (i := 1) rfl)) (fun _ h9 => h9) rfl dX8_editions_1 ?_
  exact W.iret (v := 0) hx hb hr (fun t ht hW => ⟨⟨0, (), rfl, rfl, trivial⟩, hS.F ht⟩) hS.2.2 dX8_editions_4
def w_X8_seen__z : List Cond := .code yX8_seen cX8_seen 1 (some .int) :: ([.fieldLink RX8 40 "LineCites$Work" "seen" "I"] ++ wsX80)
set_option maxHeartbeats 4000000 in
set_option maxRecDepth 100000 in
theorem c_X8_seen__z (l : Launch) (D : va_G) (h0 : Nat) (b_sc : Nat) (b_sp : Nat) (b_cp : Nat) (b_sn : Nat) (b_sl : Nat) : Met l yX8_seen w_X8_seen__z ({ frames := 0, cells := 0, slots := 0, locals := 0 }) (va_Pc [.ref h0] (fun U => va_P D vwCl [(h0, .inr (8, [.ref b_sc, .ref b_sp, .ref b_cp, .ref b_sn, .ref b_sl, .int 0, .int 0, .int 0]))] U.heap ∧ va_K D vwCl [] U)) (va_Qi (fun (r : Int32) (_ : Unit) => r = 0) (fun _ _ => True) (fun _ => False)) 0 0 (fun _ => False) := by
  refine Met.ofW (cc := cX8_seen) (maxL := 1) (ret := (some .int)) (by decide) rfl ?_
  intro p e s m args below meth c s₁ B hml hv
  obtain ⟨rfl, hP, hK⟩ := hv
  have hx := B.exec
  have hb := B.bytes
  have hr := B.returns
  have hts := atoms_spec (ws := w_X8_seen__z) B.pre
  have hown : s.vm.findClass RX8 = some m.cls := findClass_of_methodNamed B.named
  have hlocks := B.notSynchronized
  have hS : va_S (fun _ : Nat => False) s.heap s.heap [] := va_S.rf
  have hP : va_P D vwCl [(h0, .inr (8, [.ref b_sc, .ref b_sp, .ref b_cp, .ref b_sn, .ref b_sl, .int 0, .int 0, .int 0]))] s.heap := hP
  have hl := lv_entry ([.ref h0]) (n := 1) (Nat.le_of_ble_eq_true rfl)
  rw [lg_entry_eq]
  generalize (lg_sl ([.ref h0]) ++ List.replicate (1 - (lg_sl ([.ref h0])).length) Slot.unset).toArray = ls at hl ⊢
  have hl : lv_has ls 1 [(0, .ref h0)] := hl
  obtain ⟨H, hHe⟩ : ∃ H : Heap, H = s.heap := ⟨_, rfl⟩
  rw [← hHe] at hP
  have hS : va_S (fun _ : Nat => False) s.heap H [] := by rw [hHe]; exact hS
  refine pw_heap hHe ?_
  refine lv_aload_n hx hb dX8_seen_0 rfl (lv_at hl 0 rfl) ?_
  refine va_get (D := D) (ci := 8) (v := .int 0) (C := RX8) (T := TX8) (N := 8) hx hb hts (fun _ h => List.mem_cons_of_mem _ (List.mem_append_right _ h)) hown hK hP 0 rfl rfl 7 (by decide) (hts (.fieldLink RX8 40 "LineCites$Work" "seen" "I") (List.mem_of_getElem? (i := 1) rfl)) (fun _ h9 => h9) rfl dX8_seen_1 ?_
  exact W.iret (v := 0) hx hb hr (fun t ht hW => ⟨⟨0, (), rfl, rfl, trivial⟩, hS.F ht⟩) hS.2.2 dX8_seen_4
def w_X8_stretches__z : List Cond := .code yX8_stretches cX8_stretches 3 (some .int) :: ([.fieldLink RX8 37 "LineCites$Work" "editions" "I"] ++ wsX80)
set_option maxHeartbeats 4000000 in
set_option maxRecDepth 100000 in
theorem c_X8_stretches__z (l : Launch) (D : va_G) (h0 : Nat) (b_sc : Nat) (b_sp : Nat) (b_cp : Nat) (b_sn : Nat) (b_sl : Nat) : Met l yX8_stretches w_X8_stretches__z ({ frames := 0, cells := 0, slots := 0, locals := 0 }) (va_Pc [.ref h0] (fun U => va_P D vwCl [(h0, .inr (8, [.ref b_sc, .ref b_sp, .ref b_cp, .ref b_sn, .ref b_sl, .int 0, .int 0, .int 0]))] U.heap ∧ va_K D vwCl [] U)) (va_Qi (fun (r : Int32) (_ : Unit) => r = 0) (fun _ _ => True) (fun _ => False)) 0 0 (fun _ => False) := by
  refine Met.ofW (cc := cX8_stretches) (maxL := 3) (ret := (some .int)) (by decide) rfl ?_
  intro p e s m args below meth c s₁ B hml hv
  obtain ⟨rfl, hP, hK⟩ := hv
  have hx := B.exec
  have hb := B.bytes
  have hr := B.returns
  have hts := atoms_spec (ws := w_X8_stretches__z) B.pre
  have hown : s.vm.findClass RX8 = some m.cls := findClass_of_methodNamed B.named
  have hlocks := B.notSynchronized
  have hS : va_S (fun _ : Nat => False) s.heap s.heap [] := va_S.rf
  have hP : va_P D vwCl [(h0, .inr (8, [.ref b_sc, .ref b_sp, .ref b_cp, .ref b_sn, .ref b_sl, .int 0, .int 0, .int 0]))] s.heap := hP
  have hl := lv_entry ([.ref h0]) (n := 3) (Nat.le_of_ble_eq_true rfl)
  rw [lg_entry_eq]
  generalize (lg_sl ([.ref h0]) ++ List.replicate (3 - (lg_sl ([.ref h0])).length) Slot.unset).toArray = ls at hl ⊢
  have hl : lv_has ls 3 [(0, .ref h0)] := hl
  obtain ⟨H, hHe⟩ : ∃ H : Heap, H = s.heap := ⟨_, rfl⟩
  rw [← hHe] at hP
  have hS : va_S (fun _ : Nat => False) s.heap H [] := by rw [hHe]; exact hS
  refine pw_heap hHe ?_
  refine lv_iconst (v := 0) hx hb dX8_stretches_0 (by decide) ?_
  refine lv_istore_n (lv' := [(1, .int 0), (0, .ref h0)]) hx hb dX8_stretches_1 rfl hl (by decide) rfl (fun ls hl => ?_)
  refine lv_iconst (v := 0) hx hb dX8_stretches_2 (by decide) ?_
  refine lv_istore_n (lv' := [(2, .int 0), (1, .int 0), (0, .ref h0)]) hx hb dX8_stretches_3 rfl hl (by decide) rfl (fun ls hl => ?_)
  refine lv_iload_n hx hb dX8_stretches_4 rfl (lv_at hl 0 rfl) ?_
  refine lv_aload_n hx hb dX8_stretches_5 rfl (lv_at hl 2 rfl) ?_
  refine va_get (D := D) (ci := 8) (v := .int 0) (C := RX8) (T := TX8) (N := 8) hx hb hts (fun _ h => List.mem_cons_of_mem _ (List.mem_append_right _ h)) hown hK hP 0 rfl rfl 6 (by decide) (hts (.fieldLink RX8 37 "LineCites$Work" "editions" "I") (List.mem_of_getElem? (i := 1) rfl)) (fun _ h9 => h9) rfl dX8_stretches_6 ?_
  refine lv_icmp_ge (tgt := 26) hx hb dX8_stretches_9 (by decide) (fun c2 => ?_) (fun c2 => absurd (by decide) c2)
  refine lv_iload_n hx hb dX8_stretches_26 rfl (lv_at hl 1 rfl) ?_
  exact W.iret (v := 0) hx hb hr (fun t ht hW => ⟨⟨0, (), rfl, rfl, trivial⟩, hS.F ht⟩) hS.2.2 dX8_stretches_27
def w_X8_citedPart__z : List Cond := .code yX8_citedPart cX8_citedPart 4 (some .int) :: ([.fieldLink RX8 18 "LineCites$Work" "citedParts" "[I"] ++ wsX80)
set_option maxHeartbeats 4000000 in
set_option maxRecDepth 100000 in
theorem c_X8_citedPart__z (l : Launch) (D : va_G) (h0 : Nat) (i_c : Int32) (i_w : Int32) (b_sc : Nat) (b_sp : Nat) (b_cp : Nat) (b_sn : Nat) (b_sl : Nat) (kI : ClassId) : Met l yX8_citedPart w_X8_citedPart__z ({ frames := 0, cells := 0, slots := 0, locals := 0 }) (va_Pc [.ref h0, .int i_c, .int i_w] (fun U => va_P D vwCl [(h0, .inr (8, [.ref b_sc, .ref b_sp, .ref b_cp, .ref b_sn, .ref b_sl, .int 0, .int 0, .int 0])), (b_cp, .inl (kI, 32, .inl (fun _ => 0)))] U.heap ∧ va_K D vwCl [(kI, .int)] U)) (va_Qi (fun (r : Int32) (_ : Unit) => r = 0) (fun _ _ => True) (fun _ => False)) 0 0 (fun _ => False) := by
  refine Met.ofW (cc := cX8_citedPart) (maxL := 4) (ret := (some .int)) (by decide) rfl ?_
  intro p e s m args below meth c s₁ B hml hv
  obtain ⟨rfl, hP, hK⟩ := hv
  have hx := B.exec
  have hb := B.bytes
  have hr := B.returns
  have hts := atoms_spec (ws := w_X8_citedPart__z) B.pre
  have hown : s.vm.findClass RX8 = some m.cls := findClass_of_methodNamed B.named
  have hlocks := B.notSynchronized
  have hS : va_S (fun _ : Nat => False) s.heap s.heap [] := va_S.rf
  have hP : va_P D vwCl [(h0, .inr (8, [.ref b_sc, .ref b_sp, .ref b_cp, .ref b_sn, .ref b_sl, .int 0, .int 0, .int 0])), (b_cp, .inl (kI, 32, .inl (fun _ => 0)))] s.heap := hP
  have hl := lv_entry ([.ref h0, .int i_c, .int i_w]) (n := 4) (Nat.le_of_ble_eq_true rfl)
  rw [lg_entry_eq]
  generalize (lg_sl ([.ref h0, .int i_c, .int i_w]) ++ List.replicate (4 - (lg_sl ([.ref h0, .int i_c, .int i_w])).length) Slot.unset).toArray = ls at hl ⊢
  have hl : lv_has ls 4 [(0, .ref h0), (1, .int i_c), (2, .int i_w)] := hl
  obtain ⟨H, hHe⟩ : ∃ H : Heap, H = s.heap := ⟨_, rfl⟩
  rw [← hHe] at hP
  have hS : va_S (fun _ : Nat => False) s.heap H [] := by rw [hHe]; exact hS
  refine pw_heap hHe ?_
  refine lv_iload_n hx hb dX8_citedPart_0 rfl (lv_at hl 1 rfl) ?_
  refine lv_iconst (v := 4) hx hb dX8_citedPart_1 (by decide) ?_
  refine lv_imul hx hb dX8_citedPart_2 ?_
  refine lv_topi (fun x1 ex1 => ?_)
  refine lv_iload_n hx hb dX8_citedPart_3 rfl (lv_at hl 2 rfl) ?_
  refine lv_iadd hx hb dX8_citedPart_4 ?_
  refine lv_topi (fun x2 ex2 => ?_)
  refine lv_istore_n (lv' := [(3, .int x2), (0, .ref h0), (1, .int i_c), (2, .int i_w)]) hx hb dX8_citedPart_5 rfl hl (by decide) rfl (fun ls hl => ?_)
  refine lv_iload_n hx hb dX8_citedPart_6 rfl (lv_at hl 0 rfl) ?_
  refine lv_if_lt (tgt := 19) hx hb dX8_citedPart_7 (by decide) (fun c3 => ?_) (fun c3 => ?_)
  · have nc3 : x2.toInt < 0 := pw_lt c3 rfl (by decide)
    refine lv_iconst (v := 0) hx hb dX8_citedPart_19 (by decide) ?_
    refine lv_goto (tgt := 29) hx hb dX8_citedPart_20 (by decide) ?_
    exact W.iret (v := 0) hx hb hr (fun t ht hW => ⟨⟨0, (), rfl, rfl, trivial⟩, hS.F ht⟩) hS.2.2 dX8_citedPart_29
  · have nc3 : 0 ≤ x2.toInt := pw_nlt c3 rfl (by decide)
    refine lv_iload_n hx hb dX8_citedPart_10 rfl (lv_at hl 0 rfl) ?_
    refine lv_aload_n hx hb dX8_citedPart_11 rfl (lv_at hl 1 rfl) ?_
    refine va_get (D := D) (ci := 8) (v := .ref b_cp) (C := RX8) (T := TX8) (N := 8) hx hb hts (fun _ h => List.mem_cons_of_mem _ (List.mem_append_right _ h)) hown hK hP 0 rfl rfl 2 (by decide) (hts (.fieldLink RX8 18 "LineCites$Work" "citedParts" "[I") (List.mem_of_getElem? (i := 1) rfl)) (fun _ h9 => h9) rfl dX8_citedPart_12 ?_
    refine va_alen (v := 32) hx hb hK hP 1 0 rfl rfl rfl dX8_citedPart_15 ?_
    refine lv_icmp_lt (tgt := 23) hx hb dX8_citedPart_16 (by decide) (fun c4 => ?_) (fun c4 => ?_)
    · have nc4 : x2.toInt < 32 := pw_lt c4 rfl (by decide)
      refine lv_aload_n hx hb dX8_citedPart_23 rfl (lv_at hl 1 rfl) ?_
      refine va_get (D := D) (ci := 8) (v := .ref b_cp) (C := RX8) (T := TX8) (N := 8) hx hb hts (fun _ h => List.mem_cons_of_mem _ (List.mem_append_right _ h)) hown hK hP 0 rfl rfl 2 (by decide) (hts (.fieldLink RX8 18 "LineCites$Work" "citedParts" "[I") (List.mem_of_getElem? (i := 1) rfl)) (fun _ h9 => h9) rfl dX8_citedPart_24 ?_
      refine lv_iload_n hx hb dX8_citedPart_27 rfl (lv_at hl 0 rfl) ?_
      refine va_iald hx hb hK hP 1 0 rfl rfl (vp_in_iff.mpr ⟨by omega, by omega⟩) dX8_citedPart_28 ?_
      refine lv_topi (fun x5 ex5 => ?_)
      obtain rfl : x5 = 0 := ex5
      exact W.iret (v := 0) hx hb hr (fun t ht hW => ⟨⟨0, (), rfl, rfl, trivial⟩, hS.F ht⟩) hS.2.2 dX8_citedPart_29
    · have nc4 : 32 ≤ x2.toInt := pw_nlt c4 rfl (by decide)
      refine lv_iconst (v := 0) hx hb dX8_citedPart_19 (by decide) ?_
      refine lv_goto (tgt := 29) hx hb dX8_citedPart_20 (by decide) ?_
      exact W.iret (v := 0) hx hb hr (fun t ht hW => ⟨⟨0, (), rfl, rfl, trivial⟩, hS.F ht⟩) hS.2.2 dX8_citedPart_29
def w_X8_hasCitation__z : List Cond := .code yX8_hasCitation cX8_hasCitation 2 (some .boolean) :: ([.methodLink RX8 89 yX8_citedPart, .instanceMethod yX8_citedPart, .selects RX8 yX8_citedPart yX8_citedPart, .initialized RX8, .code yX8_citedPart cX8_citedPart 4 (some .int), .fieldLink RX8 18 "LineCites$Work" "citedParts" "[I"] ++ wsX80)
set_option maxRecDepth 20000 in
theorem g_X8_hasCitation__z_X8_citedPart__z : GoodIn w_X8_hasCitation__z (wsV RX8 89 RX8 yX8_citedPart w_X8_citedPart__z) := goodIn_r _ [1, 2, 3, 4, 5, 6, 7, 8, 9, 10, 11, 12, 13, 14] rfl (by decide +kernel)
set_option maxHeartbeats 4000000 in
set_option maxRecDepth 100000 in
theorem c_X8_hasCitation__z (l : Launch) (D : va_G) (h0 : Nat) (i_c : Int32) (b_sc : Nat) (b_sp : Nat) (b_cp : Nat) (b_sn : Nat) (b_sl : Nat) (kI : ClassId) : Met l yX8_hasCitation w_X8_hasCitation__z ({ frames := 1, cells := 0, slots := 0, locals := 23 }) (va_Pc [.ref h0, .int i_c] (fun U => va_P D vwCl [(h0, .inr (8, [.ref b_sc, .ref b_sp, .ref b_cp, .ref b_sn, .ref b_sl, .int 0, .int 0, .int 0])), (b_cp, .inl (kI, 32, .inl (fun _ => 0)))] U.heap ∧ va_K D vwCl [(kI, .int)] U)) (va_Qi (fun (r : Int32) (_ : Unit) => r = 0) (fun _ _ => True) (fun _ => False)) 0 0 (fun _ => False) := by
  refine Met.ofW (cc := cX8_hasCitation) (maxL := 2) (ret := (some .boolean)) (by decide) rfl ?_
  intro p e s m args below meth c s₁ B hml hv
  obtain ⟨rfl, hP, hK⟩ := hv
  have hx := B.exec
  have hb := B.bytes
  have hr := B.returns
  have hts := atoms_spec (ws := w_X8_hasCitation__z) B.pre
  have hown : s.vm.findClass RX8 = some m.cls := findClass_of_methodNamed B.named
  have hlocks := B.notSynchronized
  have hS : va_S (fun _ : Nat => False) s.heap s.heap [] := va_S.rf
  have hP : va_P D vwCl [(h0, .inr (8, [.ref b_sc, .ref b_sp, .ref b_cp, .ref b_sn, .ref b_sl, .int 0, .int 0, .int 0])), (b_cp, .inl (kI, 32, .inl (fun _ => 0)))] s.heap := hP
  have hl := lv_entry ([.ref h0, .int i_c]) (n := 2) (Nat.le_of_ble_eq_true rfl)
  rw [lg_entry_eq]
  generalize (lg_sl ([.ref h0, .int i_c]) ++ List.replicate (2 - (lg_sl ([.ref h0, .int i_c])).length) Slot.unset).toArray = ls at hl ⊢
  have hl : lv_has ls 2 [(0, .ref h0), (1, .int i_c)] := hl
  obtain ⟨H, hHe⟩ : ∃ H : Heap, H = s.heap := ⟨_, rfl⟩
  rw [← hHe] at hP
  have hS : va_S (fun _ : Nat => False) s.heap H [] := by rw [hHe]; exact hS
  refine pw_heap hHe ?_
  refine lv_iload_n hx hb dX8_hasCitation_0 rfl (lv_at hl 1 rfl) ?_
  refine lv_if_lt (tgt := 23) hx hb dX8_hasCitation_1 (by decide) (fun c1 => ?_) (fun c1 => ?_)
  · have nc1 : i_c.toInt < 0 := pw_lt c1 rfl (by decide)
    refine lv_iconst (v := 0) hx hb dX8_hasCitation_23 (by decide) ?_
    exact W.zret (v := 0) (ty := .boolean) hx hb hr rfl (fun t ht hW => ⟨⟨0, (), rfl, rfl, trivial⟩, hS.F ht⟩) hS.2.2 dX8_hasCitation_24
  · have nc1 : 0 ≤ i_c.toInt := pw_nlt c1 rfl (by decide)
    refine lv_iload_n hx hb dX8_hasCitation_4 rfl (lv_at hl 1 rfl) ?_
    refine lv_bipush (v := 8) hx hb dX8_hasCitation_5 (by decide) ?_
    refine lv_icmp_ge (tgt := 23) hx hb dX8_hasCitation_7 (by decide) (fun c2 => ?_) (fun c2 => ?_)
    · have nc2 : 8 ≤ i_c.toInt := pw_le c2 (by decide) rfl
      refine lv_iconst (v := 0) hx hb dX8_hasCitation_23 (by decide) ?_
      exact W.zret (v := 0) (ty := .boolean) hx hb hr rfl (fun t ht hW => ⟨⟨0, (), rfl, rfl, trivial⟩, hS.F ht⟩) hS.2.2 dX8_hasCitation_24
    · have nc2 : i_c.toInt < 8 := pw_nle c2 (by decide) rfl
      refine lv_aload_n hx hb dX8_hasCitation_10 rfl (lv_at hl 0 rfl) ?_
      refine lv_iload_n hx hb dX8_hasCitation_11 rfl (lv_at hl 1 rfl) ?_
      refine lv_iconst (v := 2) hx hb dX8_hasCitation_12 (by decide) ?_
      have hPc := hP.sub (ws' := [(h0, .inr (8, [.ref b_sc, .ref b_sp, .ref b_cp, .ref b_sn, .ref b_sl, .int 0, .int 0, .int 0])), (b_cp, .inl (kI, 32, .inl (fun _ => 0)))]) [0, 1] rfl
      have hKc := hK.sub (tys' := [(kI, .int)]) [0] rfl
      refine va_calli (va_runV (As := [.int i_c, .int 2]) (rest := []) ⟨hx, hb, hml, hown, hts⟩ (c_X8_citedPart__z l D h0 i_c 2 b_sc b_sp b_cp b_sn b_sl kI) (cwV 2 hts g_X8_hasCitation__z_X8_citedPart__z rfl rfl rfl (by decide +kernel) ⟨Nat.le_of_ble_eq_true rfl, Nat.le_of_ble_eq_true rfl⟩) ⟨fun a U g mk q => by obtain ⟨q0, qP, qK⟩ := q; exact ⟨q0, qP, va_K.moved (u := U) (U := U.calling g mk a) (Vm.Alike.refl U.vm) qK⟩, va_recv hKc hPc (ci := 8) (q0 := 0) rfl rfl, fun U hU hW => ⟨rfl, by rw [hU]; exact hPc, va_K.moved hW.alike hKc⟩⟩ rfl rfl hl.1 rfl (lv_room (Nat.le_of_ble_eq_true rfl)) dX8_hasCitation_13 ⟨Nat.le_of_ble_eq_true rfl, Nat.le_of_ble_eq_true rfl⟩) hS (fun _ _ h => h.elim) (fun _ h => h.elim) (fun r3 u t H1 locs ht hvm hw hB hz1 hk1 hS => ?_)
      have hP := pw_keep hP (fun q hq => hk1 q hq (fun h => h))
      generalize H1 = H at hP hS ⊢
      refine W.widen (k := 0) (n := 0) (Nat.le_of_ble_eq_true rfl) (Nat.le_of_ble_eq_true rfl) ?_
      obtain rfl : r3 = 0 := hw
      refine lv_if_le (tgt := 23) hx hb dX8_hasCitation_16 (by decide) (fun c4 => ?_) (fun c4 => absurd (by decide) c4)
      refine lv_iconst (v := 0) hx hb dX8_hasCitation_23 (by decide) ?_
      exact W.zret (v := 0) (ty := .boolean) hx hb hr rfl (fun t ht hW => ⟨⟨0, (), rfl, rfl, trivial⟩, hS.F ht⟩) hS.2.2 dX8_hasCitation_24
def w_X8_citations__z : List Cond := .code yX8_citations cX8_citations 3 (some .int) :: ([.methodLink RX8 97 yX8_hasCitation, .instanceMethod yX8_hasCitation, .selects RX8 yX8_hasCitation yX8_hasCitation, .initialized RX8, .code yX8_hasCitation cX8_hasCitation 2 (some .boolean), .methodLink RX8 89 yX8_citedPart, .instanceMethod yX8_citedPart, .selects RX8 yX8_citedPart yX8_citedPart, .code yX8_citedPart cX8_citedPart 4 (some .int), .fieldLink RX8 18 "LineCites$Work" "citedParts" "[I"] ++ wsX80)
set_option maxRecDepth 20000 in
theorem g_X8_citations__z_X8_hasCitation__z : GoodIn w_X8_citations__z (wsV RX8 97 RX8 yX8_hasCitation w_X8_hasCitation__z) := goodIn_r _ [1, 2, 3, 4, 5, 6, 7, 8, 4, 9, 10, 11, 12, 13, 14, 15, 16, 17, 18] rfl (by decide +kernel)
set_option maxHeartbeats 4000000 in
set_option maxRecDepth 100000 in
theorem c_X8_citations__z (l : Launch) (D : va_G) (h0 : Nat) (b_sc : Nat) (b_sp : Nat) (b_cp : Nat) (b_sn : Nat) (b_sl : Nat) (kI : ClassId) : Met l yX8_citations w_X8_citations__z ({ frames := 2, cells := 0, slots := 0, locals := 44 }) (va_Pc [.ref h0] (fun U => va_P D vwCl [(h0, .inr (8, [.ref b_sc, .ref b_sp, .ref b_cp, .ref b_sn, .ref b_sl, .int 0, .int 0, .int 0])), (b_cp, .inl (kI, 32, .inl (fun _ => 0)))] U.heap ∧ va_K D vwCl [(kI, .int)] U)) (va_Qi (fun (r : Int32) (_ : Unit) => r = 0) (fun _ _ => True) (fun _ => False)) 0 0 (fun _ => False) := by
  refine Met.ofW (cc := cX8_citations) (maxL := 3) (ret := (some .int)) (by decide) rfl ?_
  intro p e s m args below meth c s₁ B hml hv
  obtain ⟨rfl, hP, hK⟩ := hv
  have hx := B.exec
  have hb := B.bytes
  have hr := B.returns
  have hts := atoms_spec (ws := w_X8_citations__z) B.pre
  have hown : s.vm.findClass RX8 = some m.cls := findClass_of_methodNamed B.named
  have hlocks := B.notSynchronized
  have hS : va_S (fun _ : Nat => False) s.heap s.heap [] := va_S.rf
  have hP : va_P D vwCl [(h0, .inr (8, [.ref b_sc, .ref b_sp, .ref b_cp, .ref b_sn, .ref b_sl, .int 0, .int 0, .int 0])), (b_cp, .inl (kI, 32, .inl (fun _ => 0)))] s.heap := hP
  have hl := lv_entry ([.ref h0]) (n := 3) (Nat.le_of_ble_eq_true rfl)
  rw [lg_entry_eq]
  generalize (lg_sl ([.ref h0]) ++ List.replicate (3 - (lg_sl ([.ref h0])).length) Slot.unset).toArray = ls at hl ⊢
  have hl : lv_has ls 3 [(0, .ref h0)] := hl
  obtain ⟨H, hHe⟩ : ∃ H : Heap, H = s.heap := ⟨_, rfl⟩
  rw [← hHe] at hP
  have hS : va_S (fun _ : Nat => False) s.heap H [] := by rw [hHe]; exact hS
  refine pw_heap hHe ?_
  refine lv_iconst (v := 0) hx hb dX8_citations_0 (by decide) ?_
  refine lv_istore_n (lv' := [(1, .int 0), (0, .ref h0)]) hx hb dX8_citations_1 rfl hl (by decide) rfl (fun ls hl => ?_)
  refine lv_iconst (v := 0) hx hb dX8_citations_2 (by decide) ?_
  refine lv_istore_n (lv' := [(2, .int 0), (1, .int 0), (0, .ref h0)]) hx hb dX8_citations_3 rfl hl (by decide) rfl (fun ls hl => ?_)
  have hl9 : lv_has ls 3 [(0, .ref h0), (1, .int 0), (2, .int 0)] := lv_sub hl [2, 1, 0] rfl
  refine pw_loop (fun (v13 : Int32) H locs ls => va_P D vwCl [(h0, .inr (8, [.ref b_sc, .ref b_sp, .ref b_cp, .ref b_sn, .ref b_sl, .int 0, .int 0, .int 0])), (b_cp, .inl (kI, 32, .inl (fun _ => 0)))] H ∧ va_S (fun _ : Nat => False) s.heap H locs ∧ lv_has ls 3 [(0, .ref h0), (1, .int 0), (2, .int v13)] ∧ 0 ≤ v13.toInt) (fun (v13 : Int32)  => (2147483648 - v13.toInt).toNat) 0 0 (fun (v13 : Int32) ls => F0 m 4 ls []) (fun zz H locs ls ih14 hI => ?_) 0 _ _ _ ⟨hP, hS, hl9, (by decide)⟩
  obtain ⟨v13, hzz⟩ : ∃ z, z = zz := ⟨_, rfl⟩
  subst hzz
  obtain ⟨hP, hS, hl, bv13⟩ := hI
  have bv13 : 0 ≤ v13.toInt := bv13
  have hP : va_P D vwCl [(h0, .inr (8, [.ref b_sc, .ref b_sp, .ref b_cp, .ref b_sn, .ref b_sl, .int 0, .int 0, .int 0])), (b_cp, .inl (kI, 32, .inl (fun _ => 0)))] H := hP
  have hK : va_K D vwCl [(kI, .int)] s := hK
  have hl : lv_has ls 3 [(0, .ref h0), (1, .int 0), (2, .int v13)] := hl
  refine W.eq (g2 := F0 m 4 ls []) rfl ?_
  refine lv_iload_n hx hb dX8_citations_4 rfl (lv_at hl 2 rfl) ?_
  refine lv_bipush (v := 8) hx hb dX8_citations_5 (by decide) ?_
  refine lv_icmp_ge (tgt := 27) hx hb dX8_citations_7 (by decide) (fun c19 => ?_) (fun c19 => ?_)
  · have nc19 : 8 ≤ v13.toInt := pw_le c19 (by decide) rfl
    refine lv_iload_n hx hb dX8_citations_27 rfl (lv_at hl 1 rfl) ?_
    exact W.iret (v := 0) hx hb hr (fun t ht hW => ⟨⟨0, (), rfl, rfl, trivial⟩, hS.F ht⟩) hS.2.2 dX8_citations_28
  · have nc19 : v13.toInt < 8 := pw_nle c19 (by decide) rfl
    refine lv_aload_n hx hb dX8_citations_10 rfl (lv_at hl 0 rfl) ?_
    refine lv_iload_n hx hb dX8_citations_11 rfl (lv_at hl 2 rfl) ?_
    have hPc := hP.sub (ws' := [(h0, .inr (8, [.ref b_sc, .ref b_sp, .ref b_cp, .ref b_sn, .ref b_sl, .int 0, .int 0, .int 0])), (b_cp, .inl (kI, 32, .inl (fun _ => 0)))]) [0, 1] rfl
    have hKc := hK.sub (tys' := [(kI, .int)]) [0] rfl
    refine va_calli (va_runV (As := [.int v13]) (rest := []) ⟨hx, hb, hml, hown, hts⟩ (c_X8_hasCitation__z l D h0 v13 b_sc b_sp b_cp b_sn b_sl kI) (cwV 1 hts g_X8_citations__z_X8_hasCitation__z rfl rfl rfl (by decide +kernel) ⟨Nat.le_of_ble_eq_true rfl, Nat.le_of_ble_eq_true rfl⟩) ⟨fun a U g mk q => by obtain ⟨q0, qP, qK⟩ := q; exact ⟨q0, qP, va_K.moved (u := U) (U := U.calling g mk a) (Vm.Alike.refl U.vm) qK⟩, va_recv hKc hPc (ci := 8) (q0 := 0) rfl rfl, fun U hU hW => ⟨rfl, by rw [hU]; exact hPc, va_K.moved hW.alike hKc⟩⟩ rfl rfl hl.1 rfl (lv_room (Nat.le_of_ble_eq_true rfl)) dX8_citations_12 ⟨Nat.le_of_ble_eq_true rfl, Nat.le_of_ble_eq_true rfl⟩) hS (fun _ _ h => h.elim) (fun _ h => h.elim) (fun r20 u t H1 locs ht hvm hw hB hz1 hk1 hS => ?_)
    have hP := pw_keep hP (fun q hq => hk1 q hq (fun h => h))
    generalize H1 = H at hP hS ⊢
    refine W.widen (k := 0) (n := 0) (Nat.le_of_ble_eq_true rfl) (Nat.le_of_ble_eq_true rfl) ?_
    obtain rfl : r20 = 0 := hw
    refine lv_if_eq (tgt := 21) hx hb dX8_citations_15 (by decide) (fun c21 => ?_) (fun c21 => absurd (by decide) c21)
    obtain ⟨x22, ex22⟩ : ∃ y : Int32, y = v13 + 1 := ⟨_, rfl⟩
    have tx22 : x22.toInt = v13.toInt + 1 := pw_addX ex22 rfl (by decide) (by omega) (by omega)
    refine lv_iinc (v := x22) (lv' := [(2, .int x22), (0, .ref h0), (1, .int 0)]) hx hb dX8_citations_21 hl (k := 2) rfl (by rw [ex22]; rfl) (by decide) rfl (fun ls hl => ?_)
    refine lv_goto (tgt := 4) hx hb dX8_citations_24 (by decide) ?_
    have hP9 : va_P D vwCl [(h0, .inr (8, [.ref b_sc, .ref b_sp, .ref b_cp, .ref b_sn, .ref b_sl, .int 0, .int 0, .int 0])), (b_cp, .inl (kI, 32, .inl (fun _ => 0)))] H := hP.sub [0, 1] rfl
    have hl9 : lv_has ls 3 [(0, .ref h0), (1, .int 0), (2, .int x22)] := lv_sub hl [1, 2, 0] rfl
    refine W.widen (k := 0) (n := 0) (Nat.le_of_ble_eq_true rfl) (Nat.le_of_ble_eq_true rfl) ?_
    exact ih14 x22 _ _ _ (pw_up ex22 (by omega)) ⟨hP9, hS, hl9, (pw_upge ex22 (by omega) (by omega))⟩
def w_X0_size__z : List Cond := .code yX0_size cX0_size 1 (some .int) :: ([.fieldLink RX0 17 "LineCites$Acts" "size" "I"] ++ wsX00)
set_option maxHeartbeats 4000000 in
set_option maxRecDepth 100000 in
theorem c_X0_size__z (l : Launch) (D : va_G) (h0 : Nat) (a_ring : Nat) (i_nx : Int32) : Met l yX0_size w_X0_size__z ({ frames := 0, cells := 0, slots := 0, locals := 0 }) (va_Pc [.ref h0] (fun U => va_P D vwCl [(h0, .inr (0, [.ref a_ring, .int i_nx, .int 0]))] U.heap ∧ va_K D vwCl [] U)) (va_Qi (fun (r : Int32) (_ : Unit) => r = 0) (fun _ _ => True) (fun _ => False)) 0 0 (fun _ => False) := by
  refine Met.ofW (cc := cX0_size) (maxL := 1) (ret := (some .int)) (by decide) rfl ?_
  intro p e s m args below meth c s₁ B hml hv
  obtain ⟨rfl, hP, hK⟩ := hv
  have hx := B.exec
  have hb := B.bytes
  have hr := B.returns
  have hts := atoms_spec (ws := w_X0_size__z) B.pre
  have hown : s.vm.findClass RX0 = some m.cls := findClass_of_methodNamed B.named
  have hlocks := B.notSynchronized
  have hS : va_S (fun _ : Nat => False) s.heap s.heap [] := va_S.rf
  have hP : va_P D vwCl [(h0, .inr (0, [.ref a_ring, .int i_nx, .int 0]))] s.heap := hP
  have hl := lv_entry ([.ref h0]) (n := 1) (Nat.le_of_ble_eq_true rfl)
  rw [lg_entry_eq]
  generalize (lg_sl ([.ref h0]) ++ List.replicate (1 - (lg_sl ([.ref h0])).length) Slot.unset).toArray = ls at hl ⊢
  have hl : lv_has ls 1 [(0, .ref h0)] := hl
  obtain ⟨H, hHe⟩ : ∃ H : Heap, H = s.heap := ⟨_, rfl⟩
  rw [← hHe] at hP
  have hS : va_S (fun _ : Nat => False) s.heap H [] := by rw [hHe]; exact hS
  refine pw_heap hHe ?_
  refine lv_aload_n hx hb dX0_size_0 rfl (lv_at hl 0 rfl) ?_
  refine va_get (D := D) (ci := 0) (v := .int 0) (C := RX0) (T := TX0) (N := 3) hx hb hts (fun _ h => List.mem_cons_of_mem _ (List.mem_append_right _ h)) hown hK hP 0 rfl rfl 2 (by decide) (hts (.fieldLink RX0 17 "LineCites$Acts" "size" "I") (List.mem_of_getElem? (i := 1) rfl)) (fun _ h9 => h9) rfl dX0_size_1 ?_
  exact W.iret (v := 0) hx hb hr (fun t ht hW => ⟨⟨0, (), rfl, rfl, trivial⟩, hS.F ht⟩) hS.2.2 dX0_size_4
def w_X0_takeBack__z : List Cond := .code yX0_takeBack cX0_takeBack 4 (some .boolean) :: ([.fieldLink RX0 21 "LineCites$Acts" "next" "I", .fieldLink RX0 17 "LineCites$Acts" "size" "I"] ++ wsX00)
set_option maxHeartbeats 4000000 in
set_option maxRecDepth 100000 in
theorem c_X0_takeBack__z (l : Launch) (D : va_G) (h0 : Nat) (a_w : Nat) (a_ring : Nat) (i_nx : Int32) : Met l yX0_takeBack w_X0_takeBack__z ({ frames := 0, cells := 0, slots := 0, locals := 0 }) (va_Pc [.ref h0, .ref a_w] (fun U => va_P D vwCl [(h0, .inr (0, [.ref a_ring, .int i_nx, .int 0]))] U.heap ∧ va_K D vwCl [] U)) (va_Qi (fun (r : Int32) (_ : Unit) => r = 0) (fun _ _ => True) (fun _ => False)) 0 0 (fun _ => False) := by
  refine Met.ofW (cc := cX0_takeBack) (maxL := 4) (ret := (some .boolean)) (by decide) rfl ?_
  intro p e s m args below meth c s₁ B hml hv
  obtain ⟨rfl, hP, hK⟩ := hv
  have hx := B.exec
  have hb := B.bytes
  have hr := B.returns
  have hts := atoms_spec (ws := w_X0_takeBack__z) B.pre
  have hown : s.vm.findClass RX0 = some m.cls := findClass_of_methodNamed B.named
  have hlocks := B.notSynchronized
  have hS : va_S (fun _ : Nat => False) s.heap s.heap [] := va_S.rf
  have hP : va_P D vwCl [(h0, .inr (0, [.ref a_ring, .int i_nx, .int 0]))] s.heap := hP
  have hl := lv_entry ([.ref h0, .ref a_w]) (n := 4) (Nat.le_of_ble_eq_true rfl)
  rw [lg_entry_eq]
  generalize (lg_sl ([.ref h0, .ref a_w]) ++ List.replicate (4 - (lg_sl ([.ref h0, .ref a_w])).length) Slot.unset).toArray = ls at hl ⊢
  have hl : lv_has ls 4 [(0, .ref h0), (1, .ref a_w)] := hl
  obtain ⟨H, hHe⟩ : ∃ H : Heap, H = s.heap := ⟨_, rfl⟩
  rw [← hHe] at hP
  have hS : va_S (fun _ : Nat => False) s.heap H [] := by rw [hHe]; exact hS
  refine pw_heap hHe ?_
  refine lv_aload_n hx hb dX0_takeBack_0 rfl (lv_at hl 0 rfl) ?_
  refine va_get (D := D) (ci := 0) (v := .int i_nx) (C := RX0) (T := TX0) (N := 3) hx hb hts (fun _ h => List.mem_cons_of_mem _ (List.mem_append_right _ h)) hown hK hP 0 rfl rfl 1 (by decide) (hts (.fieldLink RX0 21 "LineCites$Acts" "next" "I") (List.mem_of_getElem? (i := 1) rfl)) (fun _ h9 => h9) rfl dX0_takeBack_1 ?_
  refine lv_bipush (v := 10) hx hb dX0_takeBack_4 (by decide) ?_
  refine lv_iadd hx hb dX0_takeBack_6 ?_
  refine lv_topi (fun x1 ex1 => ?_)
  refine lv_iconst (v := 1) hx hb dX0_takeBack_7 (by decide) ?_
  refine lv_isub hx hb dX0_takeBack_8 ?_
  refine lv_topi (fun x2 ex2 => ?_)
  refine lv_bipush (v := 10) hx hb dX0_takeBack_9 (by decide) ?_
  refine lv_irem hx hb dX0_takeBack_11 (by decide) ?_
  refine lv_topi (fun x3 ex3 => ?_)
  refine lv_istore_n (lv' := [(2, .int x3), (0, .ref h0), (1, .ref a_w)]) hx hb dX0_takeBack_12 rfl hl (by decide) rfl (fun ls hl => ?_)
  refine lv_aload_n hx hb dX0_takeBack_13 rfl (lv_at hl 1 rfl) ?_
  refine va_get (D := D) (ci := 0) (v := .int 0) (C := RX0) (T := TX0) (N := 3) hx hb hts (fun _ h => List.mem_cons_of_mem _ (List.mem_append_right _ h)) hown hK hP 0 rfl rfl 2 (by decide) (hts (.fieldLink RX0 17 "LineCites$Acts" "size" "I") (List.mem_of_getElem? (i := 2) rfl)) (fun _ h9 => h9) rfl dX0_takeBack_14 ?_
  refine lv_if_le (tgt := 33) hx hb dX0_takeBack_17 (by decide) (fun c4 => ?_) (fun c4 => absurd (by decide) c4)
  refine lv_iconst (v := 0) hx hb dX0_takeBack_33 (by decide) ?_
  exact W.zret (v := 0) (ty := .boolean) hx hb hr rfl (fun t ht hW => ⟨⟨0, (), rfl, rfl, trivial⟩, hS.F ht⟩) hS.2.2 dX0_takeBack_34
