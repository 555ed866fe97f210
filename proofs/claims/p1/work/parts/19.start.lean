set_option maxRecDepth 20000 in
theorem ln_0 : (Cond.methodLinkNest RX9 9 yX7_init "LineCites" : Cond) ∈ lw_tbl := by decide +kernel
set_option maxRecDepth 20000 in
theorem ln_1 : (Cond.methodLinkNest RX9 18 yX8_init "LineCites" : Cond) ∈ lw_tbl := by decide +kernel
set_option maxRecDepth 20000 in
theorem ln_2 : (Cond.methodLinkNest RX9 37 yX0_init "LineCites" : Cond) ∈ lw_tbl := by decide +kernel
set_option maxRecDepth 20000 in
theorem ln_3 : (Cond.methodLinkNest RX9 50 yX3_init "LineCites" : Cond) ∈ lw_tbl := by decide +kernel
set_option maxRecDepth 20000 in
theorem ln_4 : (Cond.methodLinkNest RX9 63 yX6_init "LineCites" : Cond) ∈ lw_tbl := by decide +kernel
set_option maxRecDepth 20000 in
theorem ln_5 : (Cond.methodLinkNest RX9 73 yX5_init "LineCites" : Cond) ∈ lw_tbl := by decide +kernel
set_option maxRecDepth 20000 in
theorem ln_6 : (Cond.methodLinkNest RX9 80 yX2_init "LineCites" : Cond) ∈ lw_tbl := by decide +kernel
set_option maxRecDepth 20000 in
theorem ln_7 : (Cond.methodLinkNest RX2 17 yX5_init "LineCites" : Cond) ∈ lw_tbl := by decide +kernel
set_option maxRecDepth 20000 in
theorem ln_8 : (Cond.arrayOver (.object RX8) : Cond) ∈ lw_tbl := by decide +kernel
set_option maxRecDepth 20000 in
theorem ln_9 : (Cond.arrayOver (.object RX1) : Cond) ∈ lw_tbl := by decide +kernel
set_option maxHeartbeats 8000000 in
set_option maxRecDepth 100000 in
theorem whole_start {p : Program} {e : Env} {s : State} {m : MethodId} {below : List Frame} {meth : Method} {c : Code} (l : Launch) (hflags : l.flags = flags0) {b L : Nat} {xs : Nat → Int32} (hL : L ≤ 6) (C0 : lw_At p s m meth c b L xs) : W p l e room_1 s m #[Value.ref b] below meth c s.heap [] 0 0 (lw_Z below #[Value.ref b] s) (entryFrame m ([Value.ref b] : List Value).toArray 4) := by
  refine W.base ?_
  have hd0 := Drawn.sameBut.refl s.drawn lw_cs
  obtain ⟨d0, hd0, hde⟩ : ∃ d0, s.drawn.sameBut d0 lw_cs ∧ d0 = s.drawn := ⟨_, hd0, rfl⟩
  rw [← hde]
  obtain ⟨hx, hb, hr, hml, hown, hts0, hX, hbl, hlocks, hgv⟩ := id C0
  have hts : ∀ w ∈ w_law, w.before #[Value.ref b] (s.setDrawn d0) = true := fun w h => dr_words hts0 d0 w (w_law_in w h)
  have hown : (s.setDrawn d0).vm.findClass RL = some m.cls := hown
  have hX : va_X b L xs (s.setDrawn d0) s.heap := hX
  have hA : ∀ q : Nat, s.heap.size ≤ q → (fun q : Nat => s.heap.size ≤ q) q := fun _ h => h
  have hbA : ¬ (fun q : Nat => s.heap.size ≤ q) b := Nat.not_le.mpr hbl
  obtain ⟨c0, iS0, hKn0⟩ := u_known (C := RX0) (T := TX0) (N := 3) (n := 3) hts wl_in0 (hts (.instantiable RX0 3) wl_489)
  obtain ⟨c1, iS1, hKn1⟩ := u_known (C := RX1) (T := TX1) (N := 2) (n := 2) hts wl_in1 (hts (.instantiable RX1 2) wl_552)
  obtain ⟨c2, iS2, hKn2⟩ := u_known (C := RX2) (T := TX2) (N := 3) (n := 3) hts wl_in2 (hts (.instantiable RX2 3) wl_526)
  obtain ⟨c3, iS3, hKn3⟩ := u_known (C := RX3) (T := TX3) (N := 3) (n := 3) hts wl_in3 (hts (.instantiable RX3 3) wl_497)
  obtain ⟨c4, iS4, hKn4⟩ := u_known (C := RX4) (T := TX4) (N := 7) (n := 7) hts wl_in4 (hts (.instantiable RX4 7) wl_482)
  obtain ⟨c5, iS5, hKn5⟩ := u_known (C := RX5) (T := TX5) (N := 3) (n := 3) hts wl_in5 (hts (.instantiable RX5 3) wl_519)
  obtain ⟨c6, iS6, hKn6⟩ := u_known (C := RX6) (T := TX6) (N := 8) (n := 8) hts wl_in6 (hts (.instantiable RX6 8) wl_508)
  obtain ⟨c7, iS7, hKn7⟩ := u_known (C := RX7) (T := TX7) (N := 3) (n := 3) hts wl_in7 (hts (.instantiable RX7 3) wl_465)
  obtain ⟨c8, iS8, hKn8⟩ := u_known (C := RX8) (T := TX8) (N := 8) (n := 8) hts wl_in8 (hts (.instantiable RX8 8) wl_471)
  obtain ⟨c9, iS9, hKn9⟩ := u_known (C := RX9) (T := TX9) (N := 14) (n := 14) hts wl_in9 (hts (.instantiable RX9 14) wl_457)
  obtain ⟨c10, iS10, hKn10⟩ := u_known (C := RX10) (T := TX10) (N := 25) (n := 25) hts wl_in10 (hts (.instantiable RX10 25) wl_538)
  obtain ⟨D, hKc⟩ : ∃ (D : va_G), ∀ (k : Nat) (q : vw_C), vwCl[k]? = some q → u_Kn (s.setDrawn d0) q.1 q.2.1 q.2.2 (D.1 k) (D.2 k) := by
    refine ⟨(fun k => if k = 0 then c0 else (if k = 1 then c1 else (if k = 2 then c2 else (if k = 3 then c3 else (if k = 4 then c4 else (if k = 5 then c5 else (if k = 6 then c6 else (if k = 7 then c7 else (if k = 8 then c8 else (if k = 9 then c9 else (c10)))))))))), fun k => if k = 0 then iS0 else (if k = 1 then iS1 else (if k = 2 then iS2 else (if k = 3 then iS3 else (if k = 4 then iS4 else (if k = 5 then iS5 else (if k = 6 then iS6 else (if k = 7 then iS7 else (if k = 8 then iS8 else (if k = 9 then iS9 else (iS10))))))))))), ?_⟩
    intro k q hq
    match k, hq with
    | 0, hq => cases hq; exact hKn0
    | 1, hq => cases hq; exact hKn1
    | 2, hq => cases hq; exact hKn2
    | 3, hq => cases hq; exact hKn3
    | 4, hq => cases hq; exact hKn4
    | 5, hq => cases hq; exact hKn5
    | 6, hq => cases hq; exact hKn6
    | 7, hq => cases hq; exact hKn7
    | 8, hq => cases hq; exact hKn8
    | 9, hq => cases hq; exact hKn9
    | 10, hq => cases hq; exact hKn10
    | k + 11, hq => simp [vwCl] at hq
  have hN9_9 := va_Nw.of rfl (dr_words hts0 d0 _ ln_0)
  have hN9_18 := va_Nw.of rfl (dr_words hts0 d0 _ ln_1)
  have hN9_37 := va_Nw.of rfl (dr_words hts0 d0 _ ln_2)
  have hN9_50 := va_Nw.of rfl (dr_words hts0 d0 _ ln_3)
  have hN9_63 := va_Nw.of rfl (dr_words hts0 d0 _ ln_4)
  have hN9_73 := va_Nw.of rfl (dr_words hts0 d0 _ ln_5)
  have hN9_80 := va_Nw.of rfl (dr_words hts0 d0 _ ln_6)
  have hN2_17 := va_Nw.of rfl (dr_words hts0 d0 _ ln_7)
  have hAO8 := va_AO.of (dr_words hts0 d0 _ ln_8)
  have hAO1 := va_AO.of (dr_words hts0 d0 _ ln_9)
  have hS : va_S (fun q : Nat => s.heap.size ≤ q) s.heap s.heap [] := va_S.rf
  have hK : va_K D vwCl [] (s.setDrawn d0) := ⟨hKc, fun k q h => by simp at h⟩
  have hP : va_P D vwCl [] s.heap := fun k q h => by simp at h
  have hD : va_D (fun q : Nat => s.heap.size ≤ q) [] := ⟨fun i j p q h => by simp at h, fun k q h => by simp at h⟩
  have hl := lv_entry ([.ref b]) (n := 4) (Nat.le_of_ble_eq_true rfl)
  rw [lg_entry_eq]
  generalize (lg_sl ([.ref b]) ++ List.replicate (4 - (lg_sl ([.ref b])).length) Slot.unset).toArray = ls at hl ⊢
  have hl : lv_has ls 4 [(0, .ref b)] := hl
  refine va_new (ci := 9) (fs := [.null, .null, .null, .null, .null, .null, .null, .null, .null, .null, .null, .null, .null, .null]) (C := RX9) (T := TX9) (N := 14) hx hb hts wl_in9 tyX9 tyX9_ok hown (hts (.classLink RL 7 RX9) (wl_456)) (hts (.instantiable RX9 14) (wl_457)) (hts (.initialized RX9) (wl_3)) hK hP hD hS hA rfl (fun j hj => by rcases (show j = 0 ∨ j = 1 ∨ j = 2 ∨ j = 3 ∨ j = 4 ∨ j = 5 ∨ j = 6 ∨ j = 7 ∨ j = 8 ∨ j = 9 ∨ j = 10 ∨ j = 11 ∨ j = 12 ∨ j = 13 by omega) with rfl | rfl | rfl | rfl | rfl | rfl | rfl | rfl | rfl | rfl | rfl | rfl | rfl | rfl <;> rfl) (Nat.le_of_ble_eq_true rfl) (Nat.le_of_ble_eq_true rfl) dL_law_0 (fun q1 H hP hD hS => ?_)
  have hP : va_P D vwCl [(q1, .inr (9, [.null, .null, .null, .null, .null, .null, .null, .null, .null, .null, .null, .null, .null, .null]))] H := hP
  have hD : va_D (fun q : Nat => s.heap.size ≤ q) [(q1, .inr (9, [.null, .null, .null, .null, .null, .null, .null, .null, .null, .null, .null, .null, .null, .null]))] := hD
  have hK : va_K D vwCl [] (s.setDrawn d0) := hK
  refine W.widen (k := 1) (n := 14) (Nat.le_of_ble_eq_true rfl) (Nat.le_of_ble_eq_true rfl) ?_
  refine lv_dup hx hb dL_law_3 rfl ?_
  have hPc := hP.sub (ws' := [(q1, .inr (9, [.null, .null, .null, .null, .null, .null, .null, .null, .null, .null, .null, .null, .null, .null]))]) [0] rfl
  have hKc := hK.sub (tys' := []) [] rfl
  have hDc := hD.sub (ws' := [(q1, .inr (9, [.null, .null, .null, .null, .null, .null, .null, .null, .null, .null, .null, .null, .null, .null]))]) [0] (by decide) rfl
  have hFc := va_free (wc := [(q1, .inr (9, [.null, .null, .null, .null, .null, .null, .null, .null, .null, .null, .null, .null, .null, .null]))]) hD hS hA [0] rfl
  refine va_callv (va_runI (As := []) (rest := [.ref q1]) ⟨hx, hb, hml, hown, hts⟩ (c_X9_init l D q1 H.size) (cwI 0 hts g_law_X9_init rfl rfl rfl (hts (.initialized RX9) (wl_3)) (hts (.methodLink RL 9 yX9_init) (wl_458)) (hts (.instanceMethod yX9_init) (wl_459)) rfl (by decide +kernel) ⟨Nat.le_of_ble_eq_true rfl, Nat.le_of_ble_eq_true rfl⟩) ⟨fun a U g mk q => by obtain ⟨q0, q1, qP, qK, qD, qE0, qE1, qE2, qE3, qE4, qE5, qE6, qE7, qE8, qE9⟩ := q; exact ⟨q0, q1, qP, va_K.moved (u := U) (U := U.calling g mk a) (Vm.Alike.refl U.vm) qK, qD, va_Nw.same rfl rfl qE0, va_Nw.same rfl rfl qE1, va_Nw.same rfl rfl qE2, va_Nw.same rfl rfl qE3, va_Nw.same rfl rfl qE4, va_Nw.same rfl rfl qE5, va_Nw.same rfl rfl qE6, va_Nw.same rfl rfl qE7, va_AO.moved (u := U) (U := U.calling g mk a) (Vm.Alike.refl U.vm) qE8, va_AO.moved (u := U) (U := U.calling g mk a) (Vm.Alike.refl U.vm) qE9⟩, fun U hU hW => ⟨rfl, by rw [hU], by rw [hU]; exact hPc, va_K.moved hW.alike hKc, hDc.weaken (fun _ _ _ _ => trivial), va_Nw.warmM hW hN9_9, va_Nw.warmM hW hN9_18, va_Nw.warmM hW hN9_37, va_Nw.warmM hW hN9_50, va_Nw.warmM hW hN9_63, va_Nw.warmM hW hN9_73, va_Nw.warmM hW hN9_80, va_Nw.warmM hW hN2_17, va_AO.moved hW.alike hAO8, va_AO.moved hW.alike hAO1⟩⟩ rfl rfl hl.1 rfl (lv_room (Nat.le_of_ble_eq_true rfl)) dL_law_4 ⟨Nat.le_of_ble_eq_true rfl, Nat.le_of_ble_eq_true rfl⟩) hS (fun q _ h => hFc q h) hFc (fun u t H1 locs ht hvm hw hB hz1 hk1 hS => ?_)
  obtain ⟨y3, y4, y5, y6, y7, y8, y9, y10, y11, y12, y13, y14, y15, y16, y17, y18, y19, y20, y21, y22, y23, y24, y25, y26, hP1, hK1, hD1⟩ := hB
  rw [ht] at hP1
  have hK1 := va_K.moved hvm.symm hK1
  obtain ⟨hP, hD⟩ := va_join (wr := []) (w1 := [(q1, .inr (9, [.ref y3, .ref y4, .ref y5, .ref y6, .ref y7, .ref y8, .ref y9, .ref y10, .ref y11, .ref y12, .ref y13, .ref y14, .ref y15, .ref y16])), (y3, .inr (7, [.ref y17, .int 0, .int 0])), (y17, .inl (y24, 200, .inl (fun _ => 0))), (y4, .inr (8, [.ref y18, .ref y19, .ref y20, .ref y21, .ref y22, .int 0, .int 0, .int 0])), (y20, .inl (y25, 32, .inl (fun _ => 0))), (y6, .inr (4, [.ref y3, .ref y5, .int 0, .int 0, .int 0, .int 0, .int 0])), (y7, .inr (0, [.ref y23, .int 0, .int 0])), (y8, .inl (y26, 2, .inr (.inr (.inr (.inr (fun _ => none))))))]) hP hD [0] [] rfl rfl (by decide) (by decide) hk1 hFc hP1 hD1
  have hK := (hK.sub (tys' := []) [] rfl).app hK1
  generalize H1 = H at hP hS ⊢
  have hP : va_P D vwCl [(q1, .inr (9, [.ref y3, .ref y4, .ref y5, .ref y6, .ref y7, .ref y8, .ref y9, .ref y10, .ref y11, .ref y12, .ref y13, .ref y14, .ref y15, .ref y16])), (y3, .inr (7, [.ref y17, .int 0, .int 0])), (y17, .inl (y24, 200, .inl (fun _ => 0))), (y4, .inr (8, [.ref y18, .ref y19, .ref y20, .ref y21, .ref y22, .int 0, .int 0, .int 0])), (y20, .inl (y25, 32, .inl (fun _ => 0))), (y6, .inr (4, [.ref y3, .ref y5, .int 0, .int 0, .int 0, .int 0, .int 0])), (y7, .inr (0, [.ref y23, .int 0, .int 0])), (y8, .inl (y26, 2, .inr (.inr (.inr (.inr (fun _ => none))))))] H := hP
  have hD : va_D (fun q : Nat => s.heap.size ≤ q) [(q1, .inr (9, [.ref y3, .ref y4, .ref y5, .ref y6, .ref y7, .ref y8, .ref y9, .ref y10, .ref y11, .ref y12, .ref y13, .ref y14, .ref y15, .ref y16])), (y3, .inr (7, [.ref y17, .int 0, .int 0])), (y17, .inl (y24, 200, .inl (fun _ => 0))), (y4, .inr (8, [.ref y18, .ref y19, .ref y20, .ref y21, .ref y22, .int 0, .int 0, .int 0])), (y20, .inl (y25, 32, .inl (fun _ => 0))), (y6, .inr (4, [.ref y3, .ref y5, .int 0, .int 0, .int 0, .int 0, .int 0])), (y7, .inr (0, [.ref y23, .int 0, .int 0])), (y8, .inl (y26, 2, .inr (.inr (.inr (.inr (fun _ => none))))))] := hD
  have hK : va_K D vwCl [(y24, .byte), (y25, .int), (y26, .object RX1)] (s.setDrawn d0) := hK
  refine W.widen (k := 43) (n := 9857) (Nat.le_of_ble_eq_true rfl) (Nat.le_of_ble_eq_true rfl) ?_
  refine lv_astore_n (lv' := [(1, .ref q1), (0, .ref b)]) hx hb dL_law_7 rfl hl (by decide) rfl (fun ls hl => ?_)
  refine va_new (ci := 10) (fs := [.null, .null, .null, .int 0, .null, .null, .null, .int 0, .int 0, .int 0, .int 0, .int 0, .int 0, .int 0, .int 0, .null, .null, .null, .null, .null, .null, .int 0, .int 0, .int 0, .int 0]) (C := RX10) (T := TX10) (N := 25) hx hb hts wl_in10 tyX10 tyX10_ok hown (hts (.classLink RL 10 RX10) (wl_537)) (hts (.instantiable RX10 25) (wl_538)) (hts (.initialized RX10) (wl_21)) hK hP hD hS hA rfl (fun j hj => by rcases (show j = 0 ∨ j = 1 ∨ j = 2 ∨ j = 3 ∨ j = 4 ∨ j = 5 ∨ j = 6 ∨ j = 7 ∨ j = 8 ∨ j = 9 ∨ j = 10 ∨ j = 11 ∨ j = 12 ∨ j = 13 ∨ j = 14 ∨ j = 15 ∨ j = 16 ∨ j = 17 ∨ j = 18 ∨ j = 19 ∨ j = 20 ∨ j = 21 ∨ j = 22 ∨ j = 23 ∨ j = 24 by omega) with rfl | rfl | rfl | rfl | rfl | rfl | rfl | rfl | rfl | rfl | rfl | rfl | rfl | rfl | rfl | rfl | rfl | rfl | rfl | rfl | rfl | rfl | rfl | rfl | rfl <;> rfl) (Nat.le_of_ble_eq_true rfl) (Nat.le_of_ble_eq_true rfl) dL_law_8 (fun q27 H hP hD hS => ?_)
  have hP : va_P D vwCl [(q1, .inr (9, [.ref y3, .ref y4, .ref y5, .ref y6, .ref y7, .ref y8, .ref y9, .ref y10, .ref y11, .ref y12, .ref y13, .ref y14, .ref y15, .ref y16])), (y3, .inr (7, [.ref y17, .int 0, .int 0])), (y17, .inl (y24, 200, .inl (fun _ => 0))), (y4, .inr (8, [.ref y18, .ref y19, .ref y20, .ref y21, .ref y22, .int 0, .int 0, .int 0])), (y20, .inl (y25, 32, .inl (fun _ => 0))), (y6, .inr (4, [.ref y3, .ref y5, .int 0, .int 0, .int 0, .int 0, .int 0])), (y7, .inr (0, [.ref y23, .int 0, .int 0])), (y8, .inl (y26, 2, .inr (.inr (.inr (.inr (fun _ => none)))))), (q27, .inr (10, [.null, .null, .null, .int 0, .null, .null, .null, .int 0, .int 0, .int 0, .int 0, .int 0, .int 0, .int 0, .int 0, .null, .null, .null, .null, .null, .null, .int 0, .int 0, .int 0, .int 0]))] H := hP
  have hD : va_D (fun q : Nat => s.heap.size ≤ q) [(q1, .inr (9, [.ref y3, .ref y4, .ref y5, .ref y6, .ref y7, .ref y8, .ref y9, .ref y10, .ref y11, .ref y12, .ref y13, .ref y14, .ref y15, .ref y16])), (y3, .inr (7, [.ref y17, .int 0, .int 0])), (y17, .inl (y24, 200, .inl (fun _ => 0))), (y4, .inr (8, [.ref y18, .ref y19, .ref y20, .ref y21, .ref y22, .int 0, .int 0, .int 0])), (y20, .inl (y25, 32, .inl (fun _ => 0))), (y6, .inr (4, [.ref y3, .ref y5, .int 0, .int 0, .int 0, .int 0, .int 0])), (y7, .inr (0, [.ref y23, .int 0, .int 0])), (y8, .inl (y26, 2, .inr (.inr (.inr (.inr (fun _ => none)))))), (q27, .inr (10, [.null, .null, .null, .int 0, .null, .null, .null, .int 0, .int 0, .int 0, .int 0, .int 0, .int 0, .int 0, .int 0, .null, .null, .null, .null, .null, .null, .int 0, .int 0, .int 0, .int 0]))] := hD
  have hK : va_K D vwCl [(y24, .byte), (y25, .int), (y26, .object RX1)] (s.setDrawn d0) := hK
  refine W.widen (k := 44) (n := 9882) (Nat.le_of_ble_eq_true rfl) (Nat.le_of_ble_eq_true rfl) ?_
  refine lv_dup hx hb dL_law_11 rfl ?_
  have hPc := hP.sub (ws' := [(q27, .inr (10, [.null, .null, .null, .int 0, .null, .null, .null, .int 0, .int 0, .int 0, .int 0, .int 0, .int 0, .int 0, .int 0, .null, .null, .null, .null, .null, .null, .int 0, .int 0, .int 0, .int 0]))]) [8] rfl
  have hKc := hK.sub (tys' := []) [] rfl
  have hDc := hD.sub (ws' := [(q27, .inr (10, [.null, .null, .null, .int 0, .null, .null, .null, .int 0, .int 0, .int 0, .int 0, .int 0, .int 0, .int 0, .int 0, .null, .null, .null, .null, .null, .null, .int 0, .int 0, .int 0, .int 0]))]) [8] (by decide) rfl
  have hFc := va_free (wc := [(q27, .inr (10, [.null, .null, .null, .int 0, .null, .null, .null, .int 0, .int 0, .int 0, .int 0, .int 0, .int 0, .int 0, .int 0, .null, .null, .null, .null, .null, .null, .int 0, .int 0, .int 0, .int 0]))]) hD hS hA [8] rfl
  refine va_callv (va_runI (As := []) (rest := [.ref q27]) ⟨hx, hb, hml, hown, hts⟩ (c_X10_init l D q27 H.size) (cwI 0 hts g_law_X10_init rfl rfl rfl (hts (.initialized RX10) (wl_21)) (hts (.methodLink RL 12 yX10_init) (wl_539)) (hts (.instanceMethod yX10_init) (wl_540)) rfl (by decide +kernel) ⟨Nat.le_of_ble_eq_true rfl, Nat.le_of_ble_eq_true rfl⟩) ⟨fun a U g mk q => by obtain ⟨q0, q1, qP, qK, qD⟩ := q; exact ⟨q0, q1, qP, va_K.moved (u := U) (U := U.calling g mk a) (Vm.Alike.refl U.vm) qK, qD⟩, fun U hU hW => ⟨rfl, by rw [hU], by rw [hU]; exact hPc, va_K.moved hW.alike hKc, hDc.weaken (fun _ _ _ _ => trivial)⟩⟩ rfl rfl hl.1 rfl (lv_room (Nat.le_of_ble_eq_true rfl)) dL_law_12 ⟨Nat.le_of_ble_eq_true rfl, Nat.le_of_ble_eq_true rfl⟩) hS (fun q _ h => hFc q h) hFc (fun u t H1 locs ht hvm hw hB hz1 hk1 hS => ?_)
  obtain ⟨y29, y30, y31, y32, y33, y34, y35, y36, y37, y38, y39, y40, y41, y42, y43, y44, hP1, hK1, hD1⟩ := hB
  rw [ht] at hP1
  have hK1 := va_K.moved hvm.symm hK1
  obtain ⟨hP, hD⟩ := va_join (wr := [(q1, .inr (9, [.ref y3, .ref y4, .ref y5, .ref y6, .ref y7, .ref y8, .ref y9, .ref y10, .ref y11, .ref y12, .ref y13, .ref y14, .ref y15, .ref y16])), (y3, .inr (7, [.ref y17, .int 0, .int 0])), (y17, .inl (y24, 200, .inl (fun _ => 0))), (y4, .inr (8, [.ref y18, .ref y19, .ref y20, .ref y21, .ref y22, .int 0, .int 0, .int 0])), (y20, .inl (y25, 32, .inl (fun _ => 0))), (y6, .inr (4, [.ref y3, .ref y5, .int 0, .int 0, .int 0, .int 0, .int 0])), (y7, .inr (0, [.ref y23, .int 0, .int 0])), (y8, .inl (y26, 2, .inr (.inr (.inr (.inr (fun _ => none))))))]) (w1 := [(q27, .inr (10, [.ref y29, .ref y30, .ref y31, .int 0, .ref y32, .ref y33, .ref y34, .int 0, .int 0, .int 0, .int 0, .int 0, .int 0, .int 0, .int 0, .ref y35, .ref y36, .ref y37, .ref y38, .ref y39, .ref y40, .int 0, .int 0, .int 0, .int 0])), (y29, .inl (y41, 192, .inl (fun _ => 0))), (y30, .inl (y42, 192, .inl (fun _ => 0))), (y34, .inl (y43, 200, .inl (fun _ => 0))), (y33, .inl (y44, 2, .inl (fun _ => 0)))]) hP hD [8] [0, 1, 2, 3, 4, 5, 6, 7] rfl rfl (by decide) (by decide) hk1 hFc hP1 hD1
  have hK := (hK.sub (tys' := [(y24, .byte), (y25, .int), (y26, .object RX1)]) [0, 1, 2] rfl).app hK1
  generalize H1 = H at hP hS ⊢
  have hP : va_P D vwCl [(q1, .inr (9, [.ref y3, .ref y4, .ref y5, .ref y6, .ref y7, .ref y8, .ref y9, .ref y10, .ref y11, .ref y12, .ref y13, .ref y14, .ref y15, .ref y16])), (y3, .inr (7, [.ref y17, .int 0, .int 0])), (y17, .inl (y24, 200, .inl (fun _ => 0))), (y4, .inr (8, [.ref y18, .ref y19, .ref y20, .ref y21, .ref y22, .int 0, .int 0, .int 0])), (y20, .inl (y25, 32, .inl (fun _ => 0))), (y6, .inr (4, [.ref y3, .ref y5, .int 0, .int 0, .int 0, .int 0, .int 0])), (y7, .inr (0, [.ref y23, .int 0, .int 0])), (y8, .inl (y26, 2, .inr (.inr (.inr (.inr (fun _ => none)))))), (q27, .inr (10, [.ref y29, .ref y30, .ref y31, .int 0, .ref y32, .ref y33, .ref y34, .int 0, .int 0, .int 0, .int 0, .int 0, .int 0, .int 0, .int 0, .ref y35, .ref y36, .ref y37, .ref y38, .ref y39, .ref y40, .int 0, .int 0, .int 0, .int 0])), (y29, .inl (y41, 192, .inl (fun _ => 0))), (y30, .inl (y42, 192, .inl (fun _ => 0))), (y34, .inl (y43, 200, .inl (fun _ => 0))), (y33, .inl (y44, 2, .inl (fun _ => 0)))] H := hP
  have hD : va_D (fun q : Nat => s.heap.size ≤ q) [(q1, .inr (9, [.ref y3, .ref y4, .ref y5, .ref y6, .ref y7, .ref y8, .ref y9, .ref y10, .ref y11, .ref y12, .ref y13, .ref y14, .ref y15, .ref y16])), (y3, .inr (7, [.ref y17, .int 0, .int 0])), (y17, .inl (y24, 200, .inl (fun _ => 0))), (y4, .inr (8, [.ref y18, .ref y19, .ref y20, .ref y21, .ref y22, .int 0, .int 0, .int 0])), (y20, .inl (y25, 32, .inl (fun _ => 0))), (y6, .inr (4, [.ref y3, .ref y5, .int 0, .int 0, .int 0, .int 0, .int 0])), (y7, .inr (0, [.ref y23, .int 0, .int 0])), (y8, .inl (y26, 2, .inr (.inr (.inr (.inr (fun _ => none)))))), (q27, .inr (10, [.ref y29, .ref y30, .ref y31, .int 0, .ref y32, .ref y33, .ref y34, .int 0, .int 0, .int 0, .int 0, .int 0, .int 0, .int 0, .int 0, .ref y35, .ref y36, .ref y37, .ref y38, .ref y39, .ref y40, .int 0, .int 0, .int 0, .int 0])), (y29, .inl (y41, 192, .inl (fun _ => 0))), (y30, .inl (y42, 192, .inl (fun _ => 0))), (y34, .inl (y43, 200, .inl (fun _ => 0))), (y33, .inl (y44, 2, .inl (fun _ => 0)))] := hD
  have hK : va_K D vwCl [(y24, .byte), (y25, .int), (y26, .object RX1), (y41, .int), (y42, .int), (y43, .int), (y44, .boolean)] (s.setDrawn d0) := hK
  refine W.widen (k := 56) (n := 17172) (Nat.le_of_ble_eq_true rfl) (Nat.le_of_ble_eq_true rfl) ?_
  refine lv_astore_n (lv' := [(2, .ref q27), (1, .ref q1), (0, .ref b)]) hx hb dL_law_15 rfl hl (by decide) rfl (fun ls hl => ?_)
  refine lv_iconst (v := 0) hx hb dL_law_16 (by decide) ?_
  refine lv_istore_n (lv' := [(3, .int 0), (2, .ref q27), (1, .ref q1), (0, .ref b)]) hx hb dL_law_17 rfl hl (by decide) rfl (fun ls hl => ?_)
  rcases Nat.lt_or_ge L 6 with hlt | hge
  · exact law_out l hd0 C0 hX (by
      rcases (show L = 0 ∨ L = 1 ∨ L = 2 ∨ L = 3 ∨ L = 4 ∨ L = 5 by omega) with rfl | rfl | rfl | rfl | rfl | rfl <;> decide) hS (lv_sub hl [0, 3] rfl)
  obtain rfl : L = 6 := by omega
  have hl : lv_has ls 4 [(3, .int 0), (2, .ref q27), (1, .ref q1), (0, .ref b)] := lv_sub hl [0, 1, 2, 3] rfl
  refine lv_iload_n hx hb dL_law_18 rfl (lv_at hl 0 rfl) ?_
  refine lv_aload_n hx hb dL_law_19 rfl (lv_at hl 3 rfl) ?_
  refine va_slen hx hb hX hbl hbA hS dL_law_20 ?_
  refine lv_bipush (v := 6) hx hb dL_law_21 (by decide) ?_
  refine lv_isub hx hb dL_law_23 ?_
  refine lv_icmp_gt (tgt := 1264) hx hb dL_law_24 (by decide) (fun c1 => absurd c1 (by decide)) (fun c1 => ?_)
  refine lv_aload_n hx hb dL_law_27 rfl (lv_at hl 3 rfl) ?_
  refine lv_iload_n hx hb dL_law_28 rfl (lv_at hl 0 rfl) ?_
  refine va_sld (i := 0) hx hb hX hbl hbA hS (vp_in_iff.mpr (by decide)) dL_law_29 ?_
  refine lv_bipush (v := 31) hx hb dL_law_30 (by decide) ?_
  refine lv_iand hx hb dL_law_32 ?_
  refine lv_topi (fun y ey => ?_)
  obtain ⟨j, hj, ej⟩ := pk_andE (xs (0 : Int32).toNatClampNeg) (m := 31) 5 (by decide)
  have ey : y = nI j := ey.trans ej
  subst ey
  match j, hj with
  | 0, _ => exact lv_tableIn (tgt := 168) hx hb dL_law_33 (by decide) (by decide) rfl (by decide) (law_c0 l hd0 C0 D q1 q27 y3 y4 y5 y6 y7 y8 y9 y10 y11 y12 y13 y14 y15 y16 y17 y18 y19 y20 y21 y22 y23 y24 y25 y26 y29 y30 y31 y32 y33 y34 y35 y36 y37 y38 y39 y40 y41 y42 y43 y44 hK hP hD hS hl)
  | 1, _ => exact lv_tableIn (tgt := 191) hx hb dL_law_33 (by decide) (by decide) rfl (by decide) (law_c1 l hd0 C0 D q1 q27 y3 y4 y5 y6 y7 y8 y9 y10 y11 y12 y13 y14 y15 y16 y17 y18 y19 y20 y21 y22 y23 y24 y25 y26 y29 y30 y31 y32 y33 y34 y35 y36 y37 y38 y39 y40 y41 y42 y43 y44 hK hP hD hS hl)
  | 2, _ => exact lv_tableIn (tgt := 204) hx hb dL_law_33 (by decide) (by decide) rfl (by decide) (law_c2 l hd0 C0 D q1 q27 y3 y4 y5 y6 y7 y8 y9 y10 y11 y12 y13 y14 y15 y16 y17 y18 y19 y20 y21 y22 y23 y24 y25 y26 y29 y30 y31 y32 y33 y34 y35 y36 y37 y38 y39 y40 y41 y42 y43 y44 hK hP hD hS hl)
  | 3, _ => exact lv_tableIn (tgt := 217) hx hb dL_law_33 (by decide) (by decide) rfl (by decide) (law_c3 l hd0 C0 D q1 q27 y3 y4 y5 y6 y7 y8 y9 y10 y11 y12 y13 y14 y15 y16 y17 y18 y19 y20 y21 y22 y23 y24 y25 y26 y29 y30 y31 y32 y33 y34 y35 y36 y37 y38 y39 y40 y41 y42 y43 y44 hK hP hD hS hl)
  | 4, _ => exact lv_tableIn (tgt := 230) hx hb dL_law_33 (by decide) (by decide) rfl (by decide) (law_c4 l hd0 C0 D q1 q27 y3 y4 y5 y6 y7 y8 y9 y10 y11 y12 y13 y14 y15 y16 y17 y18 y19 y20 y21 y22 y23 y24 y25 y26 y29 y30 y31 y32 y33 y34 y35 y36 y37 y38 y39 y40 y41 y42 y43 y44 hK hP hD hS hl)
  | 5, _ => exact lv_tableIn (tgt := 293) hx hb dL_law_33 (by decide) (by decide) rfl (by decide) (law_c5 l hd0 C0 D q1 q27 y3 y4 y5 y6 y7 y8 y9 y10 y11 y12 y13 y14 y15 y16 y17 y18 y19 y20 y21 y22 y23 y24 y25 y26 y29 y30 y31 y32 y33 y34 y35 y36 y37 y38 y39 y40 y41 y42 y43 y44 hK hP hD hS hl)
  | 6, _ => exact lv_tableIn (tgt := 326) hx hb dL_law_33 (by decide) (by decide) rfl (by decide) (law_c6 l hd0 C0 D q1 q27 y3 y4 y5 y6 y7 y8 y9 y10 y11 y12 y13 y14 y15 y16 y17 y18 y19 y20 y21 y22 y23 y24 y25 y26 y29 y30 y31 y32 y33 y34 y35 y36 y37 y38 y39 y40 y41 y42 y43 y44 hK hP hD hS hl)
  | 7, _ => exact lv_tableIn (tgt := 379) hx hb dL_law_33 (by decide) (by decide) rfl (by decide) (law_c7 l hd0 C0 D q1 q27 y3 y4 y5 y6 y7 y8 y9 y10 y11 y12 y13 y14 y15 y16 y17 y18 y19 y20 y21 y22 y23 y24 y25 y26 y29 y30 y31 y32 y33 y34 y35 y36 y37 y38 y39 y40 y41 y42 y43 y44 hK hP hD hS hl)
  | 8, _ => exact lv_tableIn (tgt := 442) hx hb dL_law_33 (by decide) (by decide) rfl (by decide) (law_c8 l hd0 C0 D q1 q27 y3 y4 y5 y6 y7 y8 y9 y10 y11 y12 y13 y14 y15 y16 y17 y18 y19 y20 y21 y22 y23 y24 y25 y26 y29 y30 y31 y32 y33 y34 y35 y36 y37 y38 y39 y40 y41 y42 y43 y44 hK hP hD hS hl)
  | 9, _ => exact lv_tableIn (tgt := 465) hx hb dL_law_33 (by decide) (by decide) rfl (by decide) (law_c9 l hd0 C0 D q1 q27 y3 y4 y5 y6 y7 y8 y9 y10 y11 y12 y13 y14 y15 y16 y17 y18 y19 y20 y21 y22 y23 y24 y25 y26 y29 y30 y31 y32 y33 y34 y35 y36 y37 y38 y39 y40 y41 y42 y43 y44 hK hP hD hS hl)
  | 10, _ => exact lv_tableIn (tgt := 498) hx hb dL_law_33 (by decide) (by decide) rfl (by decide) (law_c10 l hd0 C0 D q1 q27 y3 y4 y5 y6 y7 y8 y9 y10 y11 y12 y13 y14 y15 y16 y17 y18 y19 y20 y21 y22 y23 y24 y25 y26 y29 y30 y31 y32 y33 y34 y35 y36 y37 y38 y39 y40 y41 y42 y43 y44 hK hP hD hS hl)
  | 11, _ => exact lv_tableIn (tgt := 541) hx hb dL_law_33 (by decide) (by decide) rfl (by decide) (law_c11 l hd0 C0 D q1 q27 y3 y4 y5 y6 y7 y8 y9 y10 y11 y12 y13 y14 y15 y16 y17 y18 y19 y20 y21 y22 y23 y24 y25 y26 y29 y30 y31 y32 y33 y34 y35 y36 y37 y38 y39 y40 y41 y42 y43 y44 hK hP hD hS hl)
  | 12, _ => exact lv_tableIn (tgt := 584) hx hb dL_law_33 (by decide) (by decide) rfl (by decide) (law_c12 l hd0 C0 D q1 q27 y3 y4 y5 y6 y7 y8 y9 y10 y11 y12 y13 y14 y15 y16 y17 y18 y19 y20 y21 y22 y23 y24 y25 y26 y29 y30 y31 y32 y33 y34 y35 y36 y37 y38 y39 y40 y41 y42 y43 y44 hK hP hD hS hl)
  | 13, _ => exact lv_tableIn (tgt := 617) hx hb dL_law_33 (by decide) (by decide) rfl (by decide) (law_c13 l hd0 C0 D q1 q27 y3 y4 y5 y6 y7 y8 y9 y10 y11 y12 y13 y14 y15 y16 y17 y18 y19 y20 y21 y22 y23 y24 y25 y26 y29 y30 y31 y32 y33 y34 y35 y36 y37 y38 y39 y40 y41 y42 y43 y44 hK hP hD hS hl)
  | 14, _ => exact lv_tableIn (tgt := 660) hx hb dL_law_33 (by decide) (by decide) rfl (by decide) (law_c14 l hd0 C0 D q1 q27 y3 y4 y5 y6 y7 y8 y9 y10 y11 y12 y13 y14 y15 y16 y17 y18 y19 y20 y21 y22 y23 y24 y25 y26 y29 y30 y31 y32 y33 y34 y35 y36 y37 y38 y39 y40 y41 y42 y43 y44 hK hP hD hS hl)
  | 15, _ => exact lv_tableIn (tgt := 703) hx hb dL_law_33 (by decide) (by decide) rfl (by decide) (law_c15 l hd0 C0 D q1 q27 y3 y4 y5 y6 y7 y8 y9 y10 y11 y12 y13 y14 y15 y16 y17 y18 y19 y20 y21 y22 y23 y24 y25 y26 y29 y30 y31 y32 y33 y34 y35 y36 y37 y38 y39 y40 y41 y42 y43 y44 hK hP hD hS hl)
  | 16, _ => exact lv_tableIn (tgt := 746) hx hb dL_law_33 (by decide) (by decide) rfl (by decide) (law_c16 l hd0 C0 D q1 q27 y3 y4 y5 y6 y7 y8 y9 y10 y11 y12 y13 y14 y15 y16 y17 y18 y19 y20 y21 y22 y23 y24 y25 y26 y29 y30 y31 y32 y33 y34 y35 y36 y37 y38 y39 y40 y41 y42 y43 y44 hK hP hD hS hl)
  | 17, _ => exact lv_tableIn (tgt := 799) hx hb dL_law_33 (by decide) (by decide) rfl (by decide) (law_c17 l hd0 C0 D q1 q27 y3 y4 y5 y6 y7 y8 y9 y10 y11 y12 y13 y14 y15 y16 y17 y18 y19 y20 y21 y22 y23 y24 y25 y26 y29 y30 y31 y32 y33 y34 y35 y36 y37 y38 y39 y40 y41 y42 y43 y44 hK hP hD hS hl)
  | 18, _ => exact lv_tableIn (tgt := 862) hx hb dL_law_33 (by decide) (by decide) rfl (by decide) (law_c18 l hd0 C0 D q1 q27 y3 y4 y5 y6 y7 y8 y9 y10 y11 y12 y13 y14 y15 y16 y17 y18 y19 y20 y21 y22 y23 y24 y25 y26 y29 y30 y31 y32 y33 y34 y35 y36 y37 y38 y39 y40 y41 y42 y43 y44 hK hP hD hS hl)
  | 19, _ => exact lv_tableIn (tgt := 915) hx hb dL_law_33 (by decide) (by decide) rfl (by decide) (law_c19 l hd0 C0 D q1 q27 y3 y4 y5 y6 y7 y8 y9 y10 y11 y12 y13 y14 y15 y16 y17 y18 y19 y20 y21 y22 y23 y24 y25 y26 y29 y30 y31 y32 y33 y34 y35 y36 y37 y38 y39 y40 y41 y42 y43 y44 hK hP hD hS hl)
  | 20, _ => exact lv_tableIn (tgt := 958) hx hb dL_law_33 (by decide) (by decide) rfl (by decide) (law_c20 l hd0 C0 D q1 q27 y3 y4 y5 y6 y7 y8 y9 y10 y11 y12 y13 y14 y15 y16 y17 y18 y19 y20 y21 y22 y23 y24 y25 y26 y29 y30 y31 y32 y33 y34 y35 y36 y37 y38 y39 y40 y41 y42 y43 y44 hK hP hD hS hl)
  | 21, _ => exact lv_tableIn (tgt := 991) hx hb dL_law_33 (by decide) (by decide) rfl (by decide) (law_c21 l hd0 C0 D q1 q27 y3 y4 y5 y6 y7 y8 y9 y10 y11 y12 y13 y14 y15 y16 y17 y18 y19 y20 y21 y22 y23 y24 y25 y26 y29 y30 y31 y32 y33 y34 y35 y36 y37 y38 y39 y40 y41 y42 y43 y44 hK hP hD hS hl)
  | 22, _ => exact lv_tableIn (tgt := 1024) hx hb dL_law_33 (by decide) (by decide) rfl (by decide) (law_c22 l hd0 C0 D q1 q27 y3 y4 y5 y6 y7 y8 y9 y10 y11 y12 y13 y14 y15 y16 y17 y18 y19 y20 y21 y22 y23 y24 y25 y26 y29 y30 y31 y32 y33 y34 y35 y36 y37 y38 y39 y40 y41 y42 y43 y44 hK hP hD hS hl)
  | 23, _ => exact lv_tableIn (tgt := 1067) hx hb dL_law_33 (by decide) (by decide) rfl (by decide) (law_c23 l hd0 C0 D q1 q27 y3 y4 y5 y6 y7 y8 y9 y10 y11 y12 y13 y14 y15 y16 y17 y18 y19 y20 y21 y22 y23 y24 y25 y26 y29 y30 y31 y32 y33 y34 y35 y36 y37 y38 y39 y40 y41 y42 y43 y44 hK hP hD hS hl)
  | 24, _ => exact lv_tableIn (tgt := 1110) hx hb dL_law_33 (by decide) (by decide) rfl (by decide) (law_c24 l hd0 C0 D q1 q27 y3 y4 y5 y6 y7 y8 y9 y10 y11 y12 y13 y14 y15 y16 y17 y18 y19 y20 y21 y22 y23 y24 y25 y26 y29 y30 y31 y32 y33 y34 y35 y36 y37 y38 y39 y40 y41 y42 y43 y44 hK hP hD hS hl)
  | 25, _ => exact lv_tableIn (tgt := 1143) hx hb dL_law_33 (by decide) (by decide) rfl (by decide) (law_c25 l hd0 C0 D q1 q27 y3 y4 y5 y6 y7 y8 y9 y10 y11 y12 y13 y14 y15 y16 y17 y18 y19 y20 y21 y22 y23 y24 y25 y26 y29 y30 y31 y32 y33 y34 y35 y36 y37 y38 y39 y40 y41 y42 y43 y44 hK hP hD hS hl)
  | 26, _ => exact lv_tableIn (tgt := 1176) hx hb dL_law_33 (by decide) (by decide) rfl (by decide) (law_c26 l hd0 C0 D q1 q27 y3 y4 y5 y6 y7 y8 y9 y10 y11 y12 y13 y14 y15 y16 y17 y18 y19 y20 y21 y22 y23 y24 y25 y26 y29 y30 y31 y32 y33 y34 y35 y36 y37 y38 y39 y40 y41 y42 y43 y44 hK hP hD hS hl)
  | 27, _ => exact lv_tableIn (tgt := 1189) hx hb dL_law_33 (by decide) (by decide) rfl (by decide) (law_c27 l hd0 C0 D q1 q27 y3 y4 y5 y6 y7 y8 y9 y10 y11 y12 y13 y14 y15 y16 y17 y18 y19 y20 y21 y22 y23 y24 y25 y26 y29 y30 y31 y32 y33 y34 y35 y36 y37 y38 y39 y40 y41 y42 y43 y44 hK hP hD hS hl)
  | 28, _ => exact lv_tableIn (tgt := 1212) hx hb dL_law_33 (by decide) (by decide) rfl (by decide) (law_c28 l hd0 C0 D q1 q27 y3 y4 y5 y6 y7 y8 y9 y10 y11 y12 y13 y14 y15 y16 y17 y18 y19 y20 y21 y22 y23 y24 y25 y26 y29 y30 y31 y32 y33 y34 y35 y36 y37 y38 y39 y40 y41 y42 y43 y44 hK hP hD hS hl)
  | 29, _ => exact lv_tableIn (tgt := 1235) hx hb dL_law_33 (by decide) (by decide) rfl (by decide) (law_c29 l hd0 C0 D q1 q27 y3 y4 y5 y6 y7 y8 y9 y10 y11 y12 y13 y14 y15 y16 y17 y18 y19 y20 y21 y22 y23 y24 y25 y26 y29 y30 y31 y32 y33 y34 y35 y36 y37 y38 y39 y40 y41 y42 y43 y44 hK hP hD hS hl)
  | 30, _ => exact lv_tableOut (tgt := 1258) hx hb dL_law_33 (Or.inr (by decide)) (by decide) (law_end l hd0 C0 hS (lv_sub hl [0, 3] rfl))
  | 31, _ => exact lv_tableOut (tgt := 1258) hx hb dL_law_33 (Or.inr (by decide)) (by decide) (law_end l hd0 C0 hS (lv_sub hl [0, 3] rfl))
  | j + 32, hj => exact absurd hj (by omega)
