theorem dL_law_168 : decode cL_law 168 = .ok (.aload_n 1, 1) := by decide +kernel
theorem dL_law_169 : decode cL_law 169 = .ok (.aload_n 0, 1) := by decide +kernel
theorem dL_law_170 : decode cL_law 170 = .ok (.iload_n 3, 1) := by decide +kernel
theorem dL_law_171 : decode cL_law 171 = .ok (.iconst 1, 1) := by decide +kernel
theorem dL_law_172 : decode cL_law 172 = .ok (.iadd, 1) := by decide +kernel
theorem dL_law_173 : decode cL_law 173 = .ok (.iaload, 1) := by decide +kernel
theorem dL_law_174 : decode cL_law 174 = .ok (.invokevirtual 13, 3) := by decide +kernel
theorem dL_law_177 : decode cL_law 177 = .ok (.aload_n 2, 1) := by decide +kernel
theorem dL_law_178 : decode cL_law 178 = .ok (.aload_n 0, 1) := by decide +kernel
theorem dL_law_179 : decode cL_law 179 = .ok (.iload_n 3, 1) := by decide +kernel
theorem dL_law_180 : decode cL_law 180 = .ok (.iconst 1, 1) := by decide +kernel
theorem dL_law_181 : decode cL_law 181 = .ok (.iadd, 1) := by decide +kernel
theorem dL_law_182 : decode cL_law 182 = .ok (.iaload, 1) := by decide +kernel
theorem dL_law_183 : decode cL_law 183 = .ok (.invokevirtual 17, 3) := by decide +kernel
theorem dL_law_186 : decode cL_law 186 = .ok (.if_icmp .eq 1072, 3) := by decide +kernel
theorem dL_law_189 : decode cL_law 189 = .ok (.iconst 0, 1) := by decide +kernel
theorem dL_law_190 : decode cL_law 190 = .ok (.ireturn, 1) := by decide +kernel
set_option maxHeartbeats 4000000 in
set_option maxRecDepth 100000 in
theorem law_c0 {p : Program} {e : Env} {s : State} {m : MethodId} {below : List Frame} {meth : Method} {c : Code} (l : Launch) {b : Nat} {xs : Nat → Int32} {d0 : Drawn} (hd0 : s.drawn.sameBut d0 lw_cs) (C0 : lw_At p s m meth c b 6 xs) (D : va_G) (q9 : Nat) (q10 : Nat) (a_tape : Nat) (a_now : Nat) (a_draft : Nat) (a_reader : Nat) (a_acts : Nat) (a_images : Nat) (a_one : Nat) (a_other : Nat) (a_third : Nat) (a_spans : Nat) (a_back : Nat) (a_span : Nat) (a_middle : Nat) (a_reached : Nat) (y_b : Nat) (y_sc : Nat) (y_sp : Nat) (y_cp : Nat) (y_sn : Nat) (y_sl : Nat) (a_ring : Nat) (k_b : ClassId) (k_c : ClassId) (k_i : ClassId) (m_now : Nat) (m_draft : Nat) (m_past : Nat) (m_images : Nat) (m_kept : Nat) (m_tape : Nat) (m_low : Nat) (m_high : Nat) (m_first : Nat) (m_second : Nat) (m_lines : Nat) (m_others : Nat) (k_n : ClassId) (k_d : ClassId) (k_t : ClassId) (k_k : ClassId) {H : Heap} {locs : List Loc} {ls : Array Slot} (hK : va_K D vwCl [(k_b, .byte), (k_c, .int), (k_i, .object RX1), (k_n, .int), (k_d, .int), (k_t, .int), (k_k, .boolean)] (s.setDrawn d0)) (hP : va_P D vwCl [(q9, .inr (9, [.ref a_tape, .ref a_now, .ref a_draft, .ref a_reader, .ref a_acts, .ref a_images, .ref a_one, .ref a_other, .ref a_third, .ref a_spans, .ref a_back, .ref a_span, .ref a_middle, .ref a_reached])), (a_tape, .inr (7, [.ref y_b, .int 0, .int 0])), (y_b, .inl (k_b, 200, .inl (fun _ => 0))), (a_now, .inr (8, [.ref y_sc, .ref y_sp, .ref y_cp, .ref y_sn, .ref y_sl, .int 0, .int 0, .int 0])), (y_cp, .inl (k_c, 32, .inl (fun _ => 0))), (a_reader, .inr (4, [.ref a_tape, .ref a_draft, .int 0, .int 0, .int 0, .int 0, .int 0])), (a_acts, .inr (0, [.ref a_ring, .int 0, .int 0])), (a_images, .inl (k_i, 2, .inr (.inr (.inr (.inr (fun _ => none)))))), (q10, .inr (10, [.ref m_now, .ref m_draft, .ref m_past, .int 0, .ref m_images, .ref m_kept, .ref m_tape, .int 0, .int 0, .int 0, .int 0, .int 0, .int 0, .int 0, .int 0, .ref m_low, .ref m_high, .ref m_first, .ref m_second, .ref m_lines, .ref m_others, .int 0, .int 0, .int 0, .int 0])), (m_now, .inl (k_n, 192, .inl (fun _ => 0))), (m_draft, .inl (k_d, 192, .inl (fun _ => 0))), (m_tape, .inl (k_t, 200, .inl (fun _ => 0))), (m_kept, .inl (k_k, 2, .inl (fun _ => 0)))] H) (hD : va_D (fun q : Nat => s.heap.size ≤ q) [(q9, .inr (9, [.ref a_tape, .ref a_now, .ref a_draft, .ref a_reader, .ref a_acts, .ref a_images, .ref a_one, .ref a_other, .ref a_third, .ref a_spans, .ref a_back, .ref a_span, .ref a_middle, .ref a_reached])), (a_tape, .inr (7, [.ref y_b, .int 0, .int 0])), (y_b, .inl (k_b, 200, .inl (fun _ => 0))), (a_now, .inr (8, [.ref y_sc, .ref y_sp, .ref y_cp, .ref y_sn, .ref y_sl, .int 0, .int 0, .int 0])), (y_cp, .inl (k_c, 32, .inl (fun _ => 0))), (a_reader, .inr (4, [.ref a_tape, .ref a_draft, .int 0, .int 0, .int 0, .int 0, .int 0])), (a_acts, .inr (0, [.ref a_ring, .int 0, .int 0])), (a_images, .inl (k_i, 2, .inr (.inr (.inr (.inr (fun _ => none)))))), (q10, .inr (10, [.ref m_now, .ref m_draft, .ref m_past, .int 0, .ref m_images, .ref m_kept, .ref m_tape, .int 0, .int 0, .int 0, .int 0, .int 0, .int 0, .int 0, .int 0, .ref m_low, .ref m_high, .ref m_first, .ref m_second, .ref m_lines, .ref m_others, .int 0, .int 0, .int 0, .int 0])), (m_now, .inl (k_n, 192, .inl (fun _ => 0))), (m_draft, .inl (k_d, 192, .inl (fun _ => 0))), (m_tape, .inl (k_t, 200, .inl (fun _ => 0))), (m_kept, .inl (k_k, 2, .inl (fun _ => 0)))]) (hS : va_S (fun q : Nat => s.heap.size ≤ q) s.heap H locs) (hl : lv_has ls 4 [(3, .int 0), (2, .ref q10), (1, .ref q9), (0, .ref b)]) : W p l e room_1 (s.setDrawn d0) m #[Value.ref b] below meth c H locs 56 17172 (lw_Z below #[Value.ref b] s) (F0 m 168 ls []) := by
  obtain ⟨hx, hb, hr, hml, hown, hts0, hX, hbl, hlocks, hgv⟩ := id C0
  have hts : ∀ w ∈ w_law, w.before #[Value.ref b] (s.setDrawn d0) = true := fun w h => dr_words hts0 d0 w (w_law_in w h)
  have hown : (s.setDrawn d0).vm.findClass RL = some m.cls := hown
  have hX : va_X b 6 xs (s.setDrawn d0) s.heap := hX
  have hA : ∀ q : Nat, s.heap.size ≤ q → (fun q : Nat => s.heap.size ≤ q) q := fun _ h => h
  have hbA : ¬ (fun q : Nat => s.heap.size ≤ q) b := Nat.not_le.mpr hbl
  refine lv_aload_n hx hb dL_law_168 rfl (lv_at hl 2 rfl) ?_
  refine lv_aload_n hx hb dL_law_169 rfl (lv_at hl 3 rfl) ?_
  refine lv_iload_n hx hb dL_law_170 rfl (lv_at hl 0 rfl) ?_
  refine lv_iconst (v := 1) hx hb dL_law_171 (by decide) ?_
  refine lv_iadd hx hb dL_law_172 ?_
  refine lv_topi (fun x1 ex1 => ?_)
  obtain rfl : x1 = 1 := ex1.trans (by decide)
  refine va_sld (i := 1) hx hb hX hbl hbA hS (vp_in_iff.mpr (by decide)) dL_law_173 ?_
  refine lv_topi (fun x2 ex2 => ?_)
  have hPc := hP.sub (ws' := [(q9, .inr (9, [.ref a_tape, .ref a_now, .ref a_draft, .ref a_reader, .ref a_acts, .ref a_images, .ref a_one, .ref a_other, .ref a_third, .ref a_spans, .ref a_back, .ref a_span, .ref a_middle, .ref a_reached])), (a_tape, .inr (7, [.ref y_b, .int 0, .int 0])), (y_b, .inl (k_b, 200, .inl (fun _ => 0)))]) [0, 1, 2] rfl
  have hKc := hK.sub (tys' := [(k_b, .byte)]) [0] rfl
  have hDc := hD.sub (ws' := [(q9, .inr (9, [.ref a_tape, .ref a_now, .ref a_draft, .ref a_reader, .ref a_acts, .ref a_images, .ref a_one, .ref a_other, .ref a_third, .ref a_spans, .ref a_back, .ref a_span, .ref a_middle, .ref a_reached])), (a_tape, .inr (7, [.ref y_b, .int 0, .int 0])), (y_b, .inl (k_b, 200, .inl (fun _ => 0)))]) [0, 1, 2] (by decide) rfl
  have hFc := va_free (wc := [(q9, .inr (9, [.ref a_tape, .ref a_now, .ref a_draft, .ref a_reader, .ref a_acts, .ref a_images, .ref a_one, .ref a_other, .ref a_third, .ref a_spans, .ref a_back, .ref a_span, .ref a_middle, .ref a_reached])), (a_tape, .inr (7, [.ref y_b, .int 0, .int 0])), (y_b, .inl (k_b, 200, .inl (fun _ => 0)))]) hD hS hA [0, 1, 2] rfl
  refine va_calli (va_runV (As := [.int x2]) (rest := []) ⟨hx, hb, hml, hown, hts⟩ (c_X9_feed l D q9 x2 a_tape a_now a_draft a_reader a_acts a_images a_one a_other a_third a_spans a_back a_span a_middle a_reached y_b k_b H.size) (cwV 1 hts g_law_X9_feed rfl rfl rfl (by decide +kernel) ⟨Nat.le_of_ble_eq_true rfl, Nat.le_of_ble_eq_true rfl⟩) ⟨fun a U g mk q => by obtain ⟨q0, q1, qP, qK, qD⟩ := q; exact ⟨q0, q1, qP, va_K.moved (u := U) (U := U.calling g mk a) (Vm.Alike.refl U.vm) qK, qD⟩, va_recv hKc hPc (ci := 9) (q0 := 0) rfl rfl, fun U hU hW => ⟨rfl, by rw [hU], by rw [hU]; exact hPc, va_K.moved hW.alike hKc, hDc.weaken (fun _ _ _ _ => trivial)⟩⟩ rfl rfl hl.1 rfl (lv_room (Nat.le_of_ble_eq_true rfl)) dL_law_174 ⟨Nat.le_of_ble_eq_true rfl, Nat.le_of_ble_eq_true rfl⟩) hS (fun q _ h => hFc q h) hFc (fun r3 u t H1 locs ht hvm hw hB hz1 hk1 hS => ?_)
  obtain ⟨hP1, hK1, hD1⟩ := hB
  rw [ht] at hP1
  have hK1 := va_K.moved hvm.symm hK1
  obtain ⟨hP, hD⟩ := va_join (wr := [(a_now, .inr (8, [.ref y_sc, .ref y_sp, .ref y_cp, .ref y_sn, .ref y_sl, .int 0, .int 0, .int 0])), (y_cp, .inl (k_c, 32, .inl (fun _ => 0))), (a_reader, .inr (4, [.ref a_tape, .ref a_draft, .int 0, .int 0, .int 0, .int 0, .int 0])), (a_acts, .inr (0, [.ref a_ring, .int 0, .int 0])), (a_images, .inl (k_i, 2, .inr (.inr (.inr (.inr (fun _ => none)))))), (q10, .inr (10, [.ref m_now, .ref m_draft, .ref m_past, .int 0, .ref m_images, .ref m_kept, .ref m_tape, .int 0, .int 0, .int 0, .int 0, .int 0, .int 0, .int 0, .int 0, .ref m_low, .ref m_high, .ref m_first, .ref m_second, .ref m_lines, .ref m_others, .int 0, .int 0, .int 0, .int 0])), (m_now, .inl (k_n, 192, .inl (fun _ => 0))), (m_draft, .inl (k_d, 192, .inl (fun _ => 0))), (m_tape, .inl (k_t, 200, .inl (fun _ => 0))), (m_kept, .inl (k_k, 2, .inl (fun _ => 0)))]) (w1 := []) hP hD [0, 1, 2] [3, 4, 5, 6, 7, 8, 9, 10, 11, 12] rfl rfl (by decide) (by decide) hk1 hFc hP1 hD1
  have hK := (hK.sub (tys' := [(k_b, .byte), (k_c, .int), (k_i, .object RX1), (k_n, .int), (k_d, .int), (k_t, .int), (k_k, .boolean)]) [0, 1, 2, 3, 4, 5, 6] rfl).app hK1
  generalize H1 = H at hP hS ⊢
  have hP : va_P D vwCl [(a_now, .inr (8, [.ref y_sc, .ref y_sp, .ref y_cp, .ref y_sn, .ref y_sl, .int 0, .int 0, .int 0])), (y_cp, .inl (k_c, 32, .inl (fun _ => 0))), (a_reader, .inr (4, [.ref a_tape, .ref a_draft, .int 0, .int 0, .int 0, .int 0, .int 0])), (a_acts, .inr (0, [.ref a_ring, .int 0, .int 0])), (a_images, .inl (k_i, 2, .inr (.inr (.inr (.inr (fun _ => none)))))), (q10, .inr (10, [.ref m_now, .ref m_draft, .ref m_past, .int 0, .ref m_images, .ref m_kept, .ref m_tape, .int 0, .int 0, .int 0, .int 0, .int 0, .int 0, .int 0, .int 0, .ref m_low, .ref m_high, .ref m_first, .ref m_second, .ref m_lines, .ref m_others, .int 0, .int 0, .int 0, .int 0])), (m_now, .inl (k_n, 192, .inl (fun _ => 0))), (m_draft, .inl (k_d, 192, .inl (fun _ => 0))), (m_tape, .inl (k_t, 200, .inl (fun _ => 0))), (m_kept, .inl (k_k, 2, .inl (fun _ => 0)))] H := hP
  have hD : va_D (fun q : Nat => s.heap.size ≤ q) [(a_now, .inr (8, [.ref y_sc, .ref y_sp, .ref y_cp, .ref y_sn, .ref y_sl, .int 0, .int 0, .int 0])), (y_cp, .inl (k_c, 32, .inl (fun _ => 0))), (a_reader, .inr (4, [.ref a_tape, .ref a_draft, .int 0, .int 0, .int 0, .int 0, .int 0])), (a_acts, .inr (0, [.ref a_ring, .int 0, .int 0])), (a_images, .inl (k_i, 2, .inr (.inr (.inr (.inr (fun _ => none)))))), (q10, .inr (10, [.ref m_now, .ref m_draft, .ref m_past, .int 0, .ref m_images, .ref m_kept, .ref m_tape, .int 0, .int 0, .int 0, .int 0, .int 0, .int 0, .int 0, .int 0, .ref m_low, .ref m_high, .ref m_first, .ref m_second, .ref m_lines, .ref m_others, .int 0, .int 0, .int 0, .int 0])), (m_now, .inl (k_n, 192, .inl (fun _ => 0))), (m_draft, .inl (k_d, 192, .inl (fun _ => 0))), (m_tape, .inl (k_t, 200, .inl (fun _ => 0))), (m_kept, .inl (k_k, 2, .inl (fun _ => 0)))] := hD
  have hK : va_K D vwCl [(k_b, .byte), (k_c, .int), (k_i, .object RX1), (k_n, .int), (k_d, .int), (k_t, .int), (k_k, .boolean)] (s.setDrawn d0) := hK
  refine W.widen (k := 56) (n := 17172) (Nat.le_of_ble_eq_true rfl) (Nat.le_of_ble_eq_true rfl) ?_
  have hwr3 := hw
  refine lv_aload_n hx hb dL_law_177 rfl (lv_at hl 1 rfl) ?_
  refine lv_aload_n hx hb dL_law_178 rfl (lv_at hl 3 rfl) ?_
  refine lv_iload_n hx hb dL_law_179 rfl (lv_at hl 0 rfl) ?_
  refine lv_iconst (v := 1) hx hb dL_law_180 (by decide) ?_
  refine lv_iadd hx hb dL_law_181 ?_
  refine lv_topi (fun x4 ex4 => ?_)
  obtain rfl : x4 = 1 := ex4.trans (by decide)
  refine va_sld (i := 1) hx hb hX hbl hbA hS (vp_in_iff.mpr (by decide)) dL_law_182 ?_
  refine lv_topi (fun x5 ex5 => ?_)
  have hPc := hP.sub (ws' := [(q10, .inr (10, [.ref m_now, .ref m_draft, .ref m_past, .int 0, .ref m_images, .ref m_kept, .ref m_tape, .int 0, .int 0, .int 0, .int 0, .int 0, .int 0, .int 0, .int 0, .ref m_low, .ref m_high, .ref m_first, .ref m_second, .ref m_lines, .ref m_others, .int 0, .int 0, .int 0, .int 0])), (m_tape, .inl (k_t, 200, .inl (fun _ => 0)))]) [5, 8] rfl
  have hKc := hK.sub (tys' := [(k_t, .int)]) [5] rfl
  have hDc := hD.sub (ws' := [(q10, .inr (10, [.ref m_now, .ref m_draft, .ref m_past, .int 0, .ref m_images, .ref m_kept, .ref m_tape, .int 0, .int 0, .int 0, .int 0, .int 0, .int 0, .int 0, .int 0, .ref m_low, .ref m_high, .ref m_first, .ref m_second, .ref m_lines, .ref m_others, .int 0, .int 0, .int 0, .int 0])), (m_tape, .inl (k_t, 200, .inl (fun _ => 0)))]) [5, 8] (by decide) rfl
  have hFc := va_free (wc := [(q10, .inr (10, [.ref m_now, .ref m_draft, .ref m_past, .int 0, .ref m_images, .ref m_kept, .ref m_tape, .int 0, .int 0, .int 0, .int 0, .int 0, .int 0, .int 0, .int 0, .ref m_low, .ref m_high, .ref m_first, .ref m_second, .ref m_lines, .ref m_others, .int 0, .int 0, .int 0, .int 0])), (m_tape, .inl (k_t, 200, .inl (fun _ => 0)))]) hD hS hA [5, 8] rfl
  refine va_calli (va_runV (As := [.int x5]) (rest := [.int r3]) ⟨hx, hb, hml, hown, hts⟩ (c_X10_feed l D q10 x5 m_now m_draft m_past m_images m_kept m_tape m_low m_high m_first m_second m_lines m_others k_t H.size) (cwV 1 hts g_law_X10_feed rfl rfl rfl (by decide +kernel) ⟨Nat.le_of_ble_eq_true rfl, Nat.le_of_ble_eq_true rfl⟩) ⟨fun a U g mk q => by obtain ⟨q0, q1, qP, qK, qD⟩ := q; exact ⟨q0, q1, qP, va_K.moved (u := U) (U := U.calling g mk a) (Vm.Alike.refl U.vm) qK, qD⟩, va_recv hKc hPc (ci := 10) (q0 := 0) rfl rfl, fun U hU hW => ⟨rfl, by rw [hU], by rw [hU]; exact hPc, va_K.moved hW.alike hKc, hDc.weaken (fun _ _ _ _ => trivial)⟩⟩ rfl rfl hl.1 rfl (lv_room (Nat.le_of_ble_eq_true rfl)) dL_law_183 ⟨Nat.le_of_ble_eq_true rfl, Nat.le_of_ble_eq_true rfl⟩) hS (fun q _ h => hFc q h) hFc (fun r6 u t H1 locs ht hvm hw hB hz1 hk1 hS => ?_)
  obtain ⟨hP1, hK1, hD1⟩ := hB
  rw [ht] at hP1
  have hK1 := va_K.moved hvm.symm hK1
  obtain ⟨hP, hD⟩ := va_join (wr := [(a_now, .inr (8, [.ref y_sc, .ref y_sp, .ref y_cp, .ref y_sn, .ref y_sl, .int 0, .int 0, .int 0])), (y_cp, .inl (k_c, 32, .inl (fun _ => 0))), (a_reader, .inr (4, [.ref a_tape, .ref a_draft, .int 0, .int 0, .int 0, .int 0, .int 0])), (a_acts, .inr (0, [.ref a_ring, .int 0, .int 0])), (a_images, .inl (k_i, 2, .inr (.inr (.inr (.inr (fun _ => none)))))), (m_now, .inl (k_n, 192, .inl (fun _ => 0))), (m_draft, .inl (k_d, 192, .inl (fun _ => 0))), (m_kept, .inl (k_k, 2, .inl (fun _ => 0)))]) (w1 := []) hP hD [5, 8] [0, 1, 2, 3, 4, 6, 7, 9] rfl rfl (by decide) (by decide) hk1 hFc hP1 hD1
  have hK := (hK.sub (tys' := [(k_b, .byte), (k_c, .int), (k_i, .object RX1), (k_n, .int), (k_d, .int), (k_t, .int), (k_k, .boolean)]) [0, 1, 2, 3, 4, 5, 6] rfl).app hK1
  generalize H1 = H at hP hS ⊢
  have hP : va_P D vwCl [(a_now, .inr (8, [.ref y_sc, .ref y_sp, .ref y_cp, .ref y_sn, .ref y_sl, .int 0, .int 0, .int 0])), (y_cp, .inl (k_c, 32, .inl (fun _ => 0))), (a_reader, .inr (4, [.ref a_tape, .ref a_draft, .int 0, .int 0, .int 0, .int 0, .int 0])), (a_acts, .inr (0, [.ref a_ring, .int 0, .int 0])), (a_images, .inl (k_i, 2, .inr (.inr (.inr (.inr (fun _ => none)))))), (m_now, .inl (k_n, 192, .inl (fun _ => 0))), (m_draft, .inl (k_d, 192, .inl (fun _ => 0))), (m_kept, .inl (k_k, 2, .inl (fun _ => 0)))] H := hP
  have hD : va_D (fun q : Nat => s.heap.size ≤ q) [(a_now, .inr (8, [.ref y_sc, .ref y_sp, .ref y_cp, .ref y_sn, .ref y_sl, .int 0, .int 0, .int 0])), (y_cp, .inl (k_c, 32, .inl (fun _ => 0))), (a_reader, .inr (4, [.ref a_tape, .ref a_draft, .int 0, .int 0, .int 0, .int 0, .int 0])), (a_acts, .inr (0, [.ref a_ring, .int 0, .int 0])), (a_images, .inl (k_i, 2, .inr (.inr (.inr (.inr (fun _ => none)))))), (m_now, .inl (k_n, 192, .inl (fun _ => 0))), (m_draft, .inl (k_d, 192, .inl (fun _ => 0))), (m_kept, .inl (k_k, 2, .inl (fun _ => 0)))] := hD
  have hK : va_K D vwCl [(k_b, .byte), (k_c, .int), (k_i, .object RX1), (k_n, .int), (k_d, .int), (k_t, .int), (k_k, .boolean)] (s.setDrawn d0) := hK
  refine W.widen (k := 56) (n := 17172) (Nat.le_of_ble_eq_true rfl) (Nat.le_of_ble_eq_true rfl) ?_
  have hwr6 := hw
  refine lv_icmp_eq (tgt := 1258) hx hb dL_law_186 (by decide) (fun c7 => ?_) (fun c7 => absurd (by rw [hwr3, hwr6, ex2, ex5]) c7)
  refine W.widen (k := 56) (n := 17172) (Nat.le_of_ble_eq_true rfl) (Nat.le_of_ble_eq_true rfl) ?_
  exact law_end l hd0 C0 hS (lv_sub hl [0, 3] rfl)
theorem dL_law_191 : decode cL_law 191 = .ok (.aload_n 1, 1) := by decide +kernel
theorem dL_law_192 : decode cL_law 192 = .ok (.invokevirtual 18, 3) := by decide +kernel
theorem dL_law_195 : decode cL_law 195 = .ok (.aload_n 2, 1) := by decide +kernel
theorem dL_law_196 : decode cL_law 196 = .ok (.invokevirtual 22, 3) := by decide +kernel
theorem dL_law_199 : decode cL_law 199 = .ok (.if_icmp .eq 1059, 3) := by decide +kernel
theorem dL_law_202 : decode cL_law 202 = .ok (.iconst 0, 1) := by decide +kernel
theorem dL_law_203 : decode cL_law 203 = .ok (.ireturn, 1) := by decide +kernel
set_option maxHeartbeats 4000000 in
set_option maxRecDepth 100000 in
theorem law_c1 {p : Program} {e : Env} {s : State} {m : MethodId} {below : List Frame} {meth : Method} {c : Code} (l : Launch) {b : Nat} {xs : Nat → Int32} {d0 : Drawn} (hd0 : s.drawn.sameBut d0 lw_cs) (C0 : lw_At p s m meth c b 6 xs) (D : va_G) (q9 : Nat) (q10 : Nat) (a_tape : Nat) (a_now : Nat) (a_draft : Nat) (a_reader : Nat) (a_acts : Nat) (a_images : Nat) (a_one : Nat) (a_other : Nat) (a_third : Nat) (a_spans : Nat) (a_back : Nat) (a_span : Nat) (a_middle : Nat) (a_reached : Nat) (y_b : Nat) (y_sc : Nat) (y_sp : Nat) (y_cp : Nat) (y_sn : Nat) (y_sl : Nat) (a_ring : Nat) (k_b : ClassId) (k_c : ClassId) (k_i : ClassId) (m_now : Nat) (m_draft : Nat) (m_past : Nat) (m_images : Nat) (m_kept : Nat) (m_tape : Nat) (m_low : Nat) (m_high : Nat) (m_first : Nat) (m_second : Nat) (m_lines : Nat) (m_others : Nat) (k_n : ClassId) (k_d : ClassId) (k_t : ClassId) (k_k : ClassId) {H : Heap} {locs : List Loc} {ls : Array Slot} (hK : va_K D vwCl [(k_b, .byte), (k_c, .int), (k_i, .object RX1), (k_n, .int), (k_d, .int), (k_t, .int), (k_k, .boolean)] (s.setDrawn d0)) (hP : va_P D vwCl [(q9, .inr (9, [.ref a_tape, .ref a_now, .ref a_draft, .ref a_reader, .ref a_acts, .ref a_images, .ref a_one, .ref a_other, .ref a_third, .ref a_spans, .ref a_back, .ref a_span, .ref a_middle, .ref a_reached])), (a_tape, .inr (7, [.ref y_b, .int 0, .int 0])), (y_b, .inl (k_b, 200, .inl (fun _ => 0))), (a_now, .inr (8, [.ref y_sc, .ref y_sp, .ref y_cp, .ref y_sn, .ref y_sl, .int 0, .int 0, .int 0])), (y_cp, .inl (k_c, 32, .inl (fun _ => 0))), (a_reader, .inr (4, [.ref a_tape, .ref a_draft, .int 0, .int 0, .int 0, .int 0, .int 0])), (a_acts, .inr (0, [.ref a_ring, .int 0, .int 0])), (a_images, .inl (k_i, 2, .inr (.inr (.inr (.inr (fun _ => none)))))), (q10, .inr (10, [.ref m_now, .ref m_draft, .ref m_past, .int 0, .ref m_images, .ref m_kept, .ref m_tape, .int 0, .int 0, .int 0, .int 0, .int 0, .int 0, .int 0, .int 0, .ref m_low, .ref m_high, .ref m_first, .ref m_second, .ref m_lines, .ref m_others, .int 0, .int 0, .int 0, .int 0])), (m_now, .inl (k_n, 192, .inl (fun _ => 0))), (m_draft, .inl (k_d, 192, .inl (fun _ => 0))), (m_tape, .inl (k_t, 200, .inl (fun _ => 0))), (m_kept, .inl (k_k, 2, .inl (fun _ => 0)))] H) (hD : va_D (fun q : Nat => s.heap.size ≤ q) [(q9, .inr (9, [.ref a_tape, .ref a_now, .ref a_draft, .ref a_reader, .ref a_acts, .ref a_images, .ref a_one, .ref a_other, .ref a_third, .ref a_spans, .ref a_back, .ref a_span, .ref a_middle, .ref a_reached])), (a_tape, .inr (7, [.ref y_b, .int 0, .int 0])), (y_b, .inl (k_b, 200, .inl (fun _ => 0))), (a_now, .inr (8, [.ref y_sc, .ref y_sp, .ref y_cp, .ref y_sn, .ref y_sl, .int 0, .int 0, .int 0])), (y_cp, .inl (k_c, 32, .inl (fun _ => 0))), (a_reader, .inr (4, [.ref a_tape, .ref a_draft, .int 0, .int 0, .int 0, .int 0, .int 0])), (a_acts, .inr (0, [.ref a_ring, .int 0, .int 0])), (a_images, .inl (k_i, 2, .inr (.inr (.inr (.inr (fun _ => none)))))), (q10, .inr (10, [.ref m_now, .ref m_draft, .ref m_past, .int 0, .ref m_images, .ref m_kept, .ref m_tape, .int 0, .int 0, .int 0, .int 0, .int 0, .int 0, .int 0, .int 0, .ref m_low, .ref m_high, .ref m_first, .ref m_second, .ref m_lines, .ref m_others, .int 0, .int 0, .int 0, .int 0])), (m_now, .inl (k_n, 192, .inl (fun _ => 0))), (m_draft, .inl (k_d, 192, .inl (fun _ => 0))), (m_tape, .inl (k_t, 200, .inl (fun _ => 0))), (m_kept, .inl (k_k, 2, .inl (fun _ => 0)))]) (hS : va_S (fun q : Nat => s.heap.size ≤ q) s.heap H locs) (hl : lv_has ls 4 [(3, .int 0), (2, .ref q10), (1, .ref q9), (0, .ref b)]) : W p l e room_1 (s.setDrawn d0) m #[Value.ref b] below meth c H locs 56 17172 (lw_Z below #[Value.ref b] s) (F0 m 191 ls []) := by
  obtain ⟨hx, hb, hr, hml, hown, hts0, hX, hbl, hlocks, hgv⟩ := id C0
  have hts : ∀ w ∈ w_law, w.before #[Value.ref b] (s.setDrawn d0) = true := fun w h => dr_words hts0 d0 w (w_law_in w h)
  have hown : (s.setDrawn d0).vm.findClass RL = some m.cls := hown
  have hX : va_X b 6 xs (s.setDrawn d0) s.heap := hX
  have hA : ∀ q : Nat, s.heap.size ≤ q → (fun q : Nat => s.heap.size ≤ q) q := fun _ h => h
  have hbA : ¬ (fun q : Nat => s.heap.size ≤ q) b := Nat.not_le.mpr hbl
  refine lv_aload_n hx hb dL_law_191 rfl (lv_at hl 2 rfl) ?_
  have hPc := hP.sub (ws' := [(q9, .inr (9, [.ref a_tape, .ref a_now, .ref a_draft, .ref a_reader, .ref a_acts, .ref a_images, .ref a_one, .ref a_other, .ref a_third, .ref a_spans, .ref a_back, .ref a_span, .ref a_middle, .ref a_reached])), (a_tape, .inr (7, [.ref y_b, .int 0, .int 0])), (a_reader, .inr (4, [.ref a_tape, .ref a_draft, .int 0, .int 0, .int 0, .int 0, .int 0]))]) [0, 1, 5] rfl
  have hKc := hK.sub (tys' := []) [] rfl
  have hDc := hD.sub (ws' := [(q9, .inr (9, [.ref a_tape, .ref a_now, .ref a_draft, .ref a_reader, .ref a_acts, .ref a_images, .ref a_one, .ref a_other, .ref a_third, .ref a_spans, .ref a_back, .ref a_span, .ref a_middle, .ref a_reached])), (a_tape, .inr (7, [.ref y_b, .int 0, .int 0])), (a_reader, .inr (4, [.ref a_tape, .ref a_draft, .int 0, .int 0, .int 0, .int 0, .int 0]))]) [0, 1, 5] (by decide) rfl
  have hFc := va_free (wc := [(q9, .inr (9, [.ref a_tape, .ref a_now, .ref a_draft, .ref a_reader, .ref a_acts, .ref a_images, .ref a_one, .ref a_other, .ref a_third, .ref a_spans, .ref a_back, .ref a_span, .ref a_middle, .ref a_reached])), (a_tape, .inr (7, [.ref y_b, .int 0, .int 0])), (a_reader, .inr (4, [.ref a_tape, .ref a_draft, .int 0, .int 0, .int 0, .int 0, .int 0]))]) hD hS hA [0, 1, 5] rfl
  refine va_calli (va_runV (As := []) (rest := []) ⟨hx, hb, hml, hown, hts⟩ (c_X9_work l D q9 a_tape a_now a_draft a_reader a_acts a_images a_one a_other a_third a_spans a_back a_span a_middle a_reached y_b H.size) (cwV 0 hts g_law_X9_work rfl rfl rfl (by decide +kernel) ⟨Nat.le_of_ble_eq_true rfl, Nat.le_of_ble_eq_true rfl⟩) ⟨fun a U g mk q => by obtain ⟨q0, q1, qP, qK, qD⟩ := q; exact ⟨q0, q1, qP, va_K.moved (u := U) (U := U.calling g mk a) (Vm.Alike.refl U.vm) qK, qD⟩, va_recv hKc hPc (ci := 9) (q0 := 0) rfl rfl, fun U hU hW => ⟨rfl, by rw [hU], by rw [hU]; exact hPc, va_K.moved hW.alike hKc, hDc.weaken (fun _ _ _ _ => trivial)⟩⟩ rfl rfl hl.1 rfl (lv_room (Nat.le_of_ble_eq_true rfl)) dL_law_192 ⟨Nat.le_of_ble_eq_true rfl, Nat.le_of_ble_eq_true rfl⟩) hS (fun q _ h => hFc q h) hFc (fun r1 u t H1 locs ht hvm hw hB hz1 hk1 hS => ?_)
  obtain ⟨hP1, hK1, hD1⟩ := hB
  rw [ht] at hP1
  have hK1 := va_K.moved hvm.symm hK1
  obtain ⟨hP, hD⟩ := va_join (wr := [(y_b, .inl (k_b, 200, .inl (fun _ => 0))), (a_now, .inr (8, [.ref y_sc, .ref y_sp, .ref y_cp, .ref y_sn, .ref y_sl, .int 0, .int 0, .int 0])), (y_cp, .inl (k_c, 32, .inl (fun _ => 0))), (a_acts, .inr (0, [.ref a_ring, .int 0, .int 0])), (a_images, .inl (k_i, 2, .inr (.inr (.inr (.inr (fun _ => none)))))), (q10, .inr (10, [.ref m_now, .ref m_draft, .ref m_past, .int 0, .ref m_images, .ref m_kept, .ref m_tape, .int 0, .int 0, .int 0, .int 0, .int 0, .int 0, .int 0, .int 0, .ref m_low, .ref m_high, .ref m_first, .ref m_second, .ref m_lines, .ref m_others, .int 0, .int 0, .int 0, .int 0])), (m_now, .inl (k_n, 192, .inl (fun _ => 0))), (m_draft, .inl (k_d, 192, .inl (fun _ => 0))), (m_tape, .inl (k_t, 200, .inl (fun _ => 0))), (m_kept, .inl (k_k, 2, .inl (fun _ => 0)))]) (w1 := []) hP hD [0, 1, 5] [2, 3, 4, 6, 7, 8, 9, 10, 11, 12] rfl rfl (by decide) (by decide) hk1 hFc hP1 hD1
  have hK := (hK.sub (tys' := [(k_b, .byte), (k_c, .int), (k_i, .object RX1), (k_n, .int), (k_d, .int), (k_t, .int), (k_k, .boolean)]) [0, 1, 2, 3, 4, 5, 6] rfl).app hK1
  generalize H1 = H at hP hS ⊢
  have hP : va_P D vwCl [(y_b, .inl (k_b, 200, .inl (fun _ => 0))), (a_now, .inr (8, [.ref y_sc, .ref y_sp, .ref y_cp, .ref y_sn, .ref y_sl, .int 0, .int 0, .int 0])), (y_cp, .inl (k_c, 32, .inl (fun _ => 0))), (a_acts, .inr (0, [.ref a_ring, .int 0, .int 0])), (a_images, .inl (k_i, 2, .inr (.inr (.inr (.inr (fun _ => none)))))), (q10, .inr (10, [.ref m_now, .ref m_draft, .ref m_past, .int 0, .ref m_images, .ref m_kept, .ref m_tape, .int 0, .int 0, .int 0, .int 0, .int 0, .int 0, .int 0, .int 0, .ref m_low, .ref m_high, .ref m_first, .ref m_second, .ref m_lines, .ref m_others, .int 0, .int 0, .int 0, .int 0])), (m_now, .inl (k_n, 192, .inl (fun _ => 0))), (m_draft, .inl (k_d, 192, .inl (fun _ => 0))), (m_tape, .inl (k_t, 200, .inl (fun _ => 0))), (m_kept, .inl (k_k, 2, .inl (fun _ => 0)))] H := hP
  have hD : va_D (fun q : Nat => s.heap.size ≤ q) [(y_b, .inl (k_b, 200, .inl (fun _ => 0))), (a_now, .inr (8, [.ref y_sc, .ref y_sp, .ref y_cp, .ref y_sn, .ref y_sl, .int 0, .int 0, .int 0])), (y_cp, .inl (k_c, 32, .inl (fun _ => 0))), (a_acts, .inr (0, [.ref a_ring, .int 0, .int 0])), (a_images, .inl (k_i, 2, .inr (.inr (.inr (.inr (fun _ => none)))))), (q10, .inr (10, [.ref m_now, .ref m_draft, .ref m_past, .int 0, .ref m_images, .ref m_kept, .ref m_tape, .int 0, .int 0, .int 0, .int 0, .int 0, .int 0, .int 0, .int 0, .ref m_low, .ref m_high, .ref m_first, .ref m_second, .ref m_lines, .ref m_others, .int 0, .int 0, .int 0, .int 0])), (m_now, .inl (k_n, 192, .inl (fun _ => 0))), (m_draft, .inl (k_d, 192, .inl (fun _ => 0))), (m_tape, .inl (k_t, 200, .inl (fun _ => 0))), (m_kept, .inl (k_k, 2, .inl (fun _ => 0)))] := hD
  have hK : va_K D vwCl [(k_b, .byte), (k_c, .int), (k_i, .object RX1), (k_n, .int), (k_d, .int), (k_t, .int), (k_k, .boolean)] (s.setDrawn d0) := hK
  refine W.widen (k := 56) (n := 17172) (Nat.le_of_ble_eq_true rfl) (Nat.le_of_ble_eq_true rfl) ?_
  obtain rfl : r1 = (-1000100) := hw
  refine lv_aload_n hx hb dL_law_195 rfl (lv_at hl 1 rfl) ?_
  have hPc := hP.sub (ws' := [(q10, .inr (10, [.ref m_now, .ref m_draft, .ref m_past, .int 0, .ref m_images, .ref m_kept, .ref m_tape, .int 0, .int 0, .int 0, .int 0, .int 0, .int 0, .int 0, .int 0, .ref m_low, .ref m_high, .ref m_first, .ref m_second, .ref m_lines, .ref m_others, .int 0, .int 0, .int 0, .int 0])), (m_draft, .inl (k_d, 192, .inl (fun _ => 0)))]) [5, 7] rfl
  have hKc := hK.sub (tys' := [(k_d, .int)]) [4] rfl
  have hDc := hD.sub (ws' := [(q10, .inr (10, [.ref m_now, .ref m_draft, .ref m_past, .int 0, .ref m_images, .ref m_kept, .ref m_tape, .int 0, .int 0, .int 0, .int 0, .int 0, .int 0, .int 0, .int 0, .ref m_low, .ref m_high, .ref m_first, .ref m_second, .ref m_lines, .ref m_others, .int 0, .int 0, .int 0, .int 0])), (m_draft, .inl (k_d, 192, .inl (fun _ => 0)))]) [5, 7] (by decide) rfl
  have hFc := va_free (wc := [(q10, .inr (10, [.ref m_now, .ref m_draft, .ref m_past, .int 0, .ref m_images, .ref m_kept, .ref m_tape, .int 0, .int 0, .int 0, .int 0, .int 0, .int 0, .int 0, .int 0, .ref m_low, .ref m_high, .ref m_first, .ref m_second, .ref m_lines, .ref m_others, .int 0, .int 0, .int 0, .int 0])), (m_draft, .inl (k_d, 192, .inl (fun _ => 0)))]) hD hS hA [5, 7] rfl
  refine va_calli (va_runV (As := []) (rest := [.int (-1000100)]) ⟨hx, hb, hml, hown, hts⟩ (c_X10_work l D q10 m_now m_draft m_past m_images m_kept m_tape m_low m_high m_first m_second m_lines m_others k_d H.size) (cwV 0 hts g_law_X10_work rfl rfl rfl (by decide +kernel) ⟨Nat.le_of_ble_eq_true rfl, Nat.le_of_ble_eq_true rfl⟩) ⟨fun a U g mk q => by obtain ⟨q0, q1, qP, qK, qD⟩ := q; exact ⟨q0, q1, qP, va_K.moved (u := U) (U := U.calling g mk a) (Vm.Alike.refl U.vm) qK, qD⟩, va_recv hKc hPc (ci := 10) (q0 := 0) rfl rfl, fun U hU hW => ⟨rfl, by rw [hU], by rw [hU]; exact hPc, va_K.moved hW.alike hKc, hDc.weaken (fun _ _ _ _ => trivial)⟩⟩ rfl rfl hl.1 rfl (lv_room (Nat.le_of_ble_eq_true rfl)) dL_law_196 ⟨Nat.le_of_ble_eq_true rfl, Nat.le_of_ble_eq_true rfl⟩) hS (fun q _ h => hFc q h) hFc (fun r2 u t H1 locs ht hvm hw hB hz1 hk1 hS => ?_)
  obtain ⟨hP1, hK1, hD1⟩ := hB
  rw [ht] at hP1
  have hK1 := va_K.moved hvm.symm hK1
  obtain ⟨hP, hD⟩ := va_join (wr := [(y_b, .inl (k_b, 200, .inl (fun _ => 0))), (a_now, .inr (8, [.ref y_sc, .ref y_sp, .ref y_cp, .ref y_sn, .ref y_sl, .int 0, .int 0, .int 0])), (y_cp, .inl (k_c, 32, .inl (fun _ => 0))), (a_acts, .inr (0, [.ref a_ring, .int 0, .int 0])), (a_images, .inl (k_i, 2, .inr (.inr (.inr (.inr (fun _ => none)))))), (m_now, .inl (k_n, 192, .inl (fun _ => 0))), (m_tape, .inl (k_t, 200, .inl (fun _ => 0))), (m_kept, .inl (k_k, 2, .inl (fun _ => 0)))]) (w1 := []) hP hD [5, 7] [0, 1, 2, 3, 4, 6, 8, 9] rfl rfl (by decide) (by decide) hk1 hFc hP1 hD1
  have hK := (hK.sub (tys' := [(k_b, .byte), (k_c, .int), (k_i, .object RX1), (k_n, .int), (k_d, .int), (k_t, .int), (k_k, .boolean)]) [0, 1, 2, 3, 4, 5, 6] rfl).app hK1
  generalize H1 = H at hP hS ⊢
  have hP : va_P D vwCl [(y_b, .inl (k_b, 200, .inl (fun _ => 0))), (a_now, .inr (8, [.ref y_sc, .ref y_sp, .ref y_cp, .ref y_sn, .ref y_sl, .int 0, .int 0, .int 0])), (y_cp, .inl (k_c, 32, .inl (fun _ => 0))), (a_acts, .inr (0, [.ref a_ring, .int 0, .int 0])), (a_images, .inl (k_i, 2, .inr (.inr (.inr (.inr (fun _ => none)))))), (m_now, .inl (k_n, 192, .inl (fun _ => 0))), (m_tape, .inl (k_t, 200, .inl (fun _ => 0))), (m_kept, .inl (k_k, 2, .inl (fun _ => 0)))] H := hP
  have hD : va_D (fun q : Nat => s.heap.size ≤ q) [(y_b, .inl (k_b, 200, .inl (fun _ => 0))), (a_now, .inr (8, [.ref y_sc, .ref y_sp, .ref y_cp, .ref y_sn, .ref y_sl, .int 0, .int 0, .int 0])), (y_cp, .inl (k_c, 32, .inl (fun _ => 0))), (a_acts, .inr (0, [.ref a_ring, .int 0, .int 0])), (a_images, .inl (k_i, 2, .inr (.inr (.inr (.inr (fun _ => none)))))), (m_now, .inl (k_n, 192, .inl (fun _ => 0))), (m_tape, .inl (k_t, 200, .inl (fun _ => 0))), (m_kept, .inl (k_k, 2, .inl (fun _ => 0)))] := hD
  have hK : va_K D vwCl [(k_b, .byte), (k_c, .int), (k_i, .object RX1), (k_n, .int), (k_d, .int), (k_t, .int), (k_k, .boolean)] (s.setDrawn d0) := hK
  refine W.widen (k := 56) (n := 17172) (Nat.le_of_ble_eq_true rfl) (Nat.le_of_ble_eq_true rfl) ?_
  obtain rfl : r2 = (-1000100) := hw
  refine lv_icmp_eq (tgt := 1258) hx hb dL_law_199 (by decide) (fun c3 => ?_) (fun c3 => absurd (by decide) c3)
  refine W.widen (k := 56) (n := 17172) (Nat.le_of_ble_eq_true rfl) (Nat.le_of_ble_eq_true rfl) ?_
  exact law_end l hd0 C0 hS (lv_sub hl [0, 3] rfl)
theorem dL_law_204 : decode cL_law 204 = .ok (.aload_n 1, 1) := by decide +kernel
theorem dL_law_205 : decode cL_law 205 = .ok (.invokevirtual 23, 3) := by decide +kernel
theorem dL_law_208 : decode cL_law 208 = .ok (.aload_n 2, 1) := by decide +kernel
theorem dL_law_209 : decode cL_law 209 = .ok (.invokevirtual 26, 3) := by decide +kernel
theorem dL_law_212 : decode cL_law 212 = .ok (.if_icmp .eq 1046, 3) := by decide +kernel
theorem dL_law_215 : decode cL_law 215 = .ok (.iconst 0, 1) := by decide +kernel
theorem dL_law_216 : decode cL_law 216 = .ok (.ireturn, 1) := by decide +kernel
set_option maxHeartbeats 4000000 in
set_option maxRecDepth 100000 in
theorem law_c2 {p : Program} {e : Env} {s : State} {m : MethodId} {below : List Frame} {meth : Method} {c : Code} (l : Launch) {b : Nat} {xs : Nat → Int32} {d0 : Drawn} (hd0 : s.drawn.sameBut d0 lw_cs) (C0 : lw_At p s m meth c b 6 xs) (D : va_G) (q9 : Nat) (q10 : Nat) (a_tape : Nat) (a_now : Nat) (a_draft : Nat) (a_reader : Nat) (a_acts : Nat) (a_images : Nat) (a_one : Nat) (a_other : Nat) (a_third : Nat) (a_spans : Nat) (a_back : Nat) (a_span : Nat) (a_middle : Nat) (a_reached : Nat) (y_b : Nat) (y_sc : Nat) (y_sp : Nat) (y_cp : Nat) (y_sn : Nat) (y_sl : Nat) (a_ring : Nat) (k_b : ClassId) (k_c : ClassId) (k_i : ClassId) (m_now : Nat) (m_draft : Nat) (m_past : Nat) (m_images : Nat) (m_kept : Nat) (m_tape : Nat) (m_low : Nat) (m_high : Nat) (m_first : Nat) (m_second : Nat) (m_lines : Nat) (m_others : Nat) (k_n : ClassId) (k_d : ClassId) (k_t : ClassId) (k_k : ClassId) {H : Heap} {locs : List Loc} {ls : Array Slot} (hK : va_K D vwCl [(k_b, .byte), (k_c, .int), (k_i, .object RX1), (k_n, .int), (k_d, .int), (k_t, .int), (k_k, .boolean)] (s.setDrawn d0)) (hP : va_P D vwCl [(q9, .inr (9, [.ref a_tape, .ref a_now, .ref a_draft, .ref a_reader, .ref a_acts, .ref a_images, .ref a_one, .ref a_other, .ref a_third, .ref a_spans, .ref a_back, .ref a_span, .ref a_middle, .ref a_reached])), (a_tape, .inr (7, [.ref y_b, .int 0, .int 0])), (y_b, .inl (k_b, 200, .inl (fun _ => 0))), (a_now, .inr (8, [.ref y_sc, .ref y_sp, .ref y_cp, .ref y_sn, .ref y_sl, .int 0, .int 0, .int 0])), (y_cp, .inl (k_c, 32, .inl (fun _ => 0))), (a_reader, .inr (4, [.ref a_tape, .ref a_draft, .int 0, .int 0, .int 0, .int 0, .int 0])), (a_acts, .inr (0, [.ref a_ring, .int 0, .int 0])), (a_images, .inl (k_i, 2, .inr (.inr (.inr (.inr (fun _ => none)))))), (q10, .inr (10, [.ref m_now, .ref m_draft, .ref m_past, .int 0, .ref m_images, .ref m_kept, .ref m_tape, .int 0, .int 0, .int 0, .int 0, .int 0, .int 0, .int 0, .int 0, .ref m_low, .ref m_high, .ref m_first, .ref m_second, .ref m_lines, .ref m_others, .int 0, .int 0, .int 0, .int 0])), (m_now, .inl (k_n, 192, .inl (fun _ => 0))), (m_draft, .inl (k_d, 192, .inl (fun _ => 0))), (m_tape, .inl (k_t, 200, .inl (fun _ => 0))), (m_kept, .inl (k_k, 2, .inl (fun _ => 0)))] H) (hD : va_D (fun q : Nat => s.heap.size ≤ q) [(q9, .inr (9, [.ref a_tape, .ref a_now, .ref a_draft, .ref a_reader, .ref a_acts, .ref a_images, .ref a_one, .ref a_other, .ref a_third, .ref a_spans, .ref a_back, .ref a_span, .ref a_middle, .ref a_reached])), (a_tape, .inr (7, [.ref y_b, .int 0, .int 0])), (y_b, .inl (k_b, 200, .inl (fun _ => 0))), (a_now, .inr (8, [.ref y_sc, .ref y_sp, .ref y_cp, .ref y_sn, .ref y_sl, .int 0, .int 0, .int 0])), (y_cp, .inl (k_c, 32, .inl (fun _ => 0))), (a_reader, .inr (4, [.ref a_tape, .ref a_draft, .int 0, .int 0, .int 0, .int 0, .int 0])), (a_acts, .inr (0, [.ref a_ring, .int 0, .int 0])), (a_images, .inl (k_i, 2, .inr (.inr (.inr (.inr (fun _ => none)))))), (q10, .inr (10, [.ref m_now, .ref m_draft, .ref m_past, .int 0, .ref m_images, .ref m_kept, .ref m_tape, .int 0, .int 0, .int 0, .int 0, .int 0, .int 0, .int 0, .int 0, .ref m_low, .ref m_high, .ref m_first, .ref m_second, .ref m_lines, .ref m_others, .int 0, .int 0, .int 0, .int 0])), (m_now, .inl (k_n, 192, .inl (fun _ => 0))), (m_draft, .inl (k_d, 192, .inl (fun _ => 0))), (m_tape, .inl (k_t, 200, .inl (fun _ => 0))), (m_kept, .inl (k_k, 2, .inl (fun _ => 0)))]) (hS : va_S (fun q : Nat => s.heap.size ≤ q) s.heap H locs) (hl : lv_has ls 4 [(3, .int 0), (2, .ref q10), (1, .ref q9), (0, .ref b)]) : W p l e room_1 (s.setDrawn d0) m #[Value.ref b] below meth c H locs 56 17172 (lw_Z below #[Value.ref b] s) (F0 m 204 ls []) := by
  obtain ⟨hx, hb, hr, hml, hown, hts0, hX, hbl, hlocks, hgv⟩ := id C0
  have hts : ∀ w ∈ w_law, w.before #[Value.ref b] (s.setDrawn d0) = true := fun w h => dr_words hts0 d0 w (w_law_in w h)
  have hown : (s.setDrawn d0).vm.findClass RL = some m.cls := hown
  have hX : va_X b 6 xs (s.setDrawn d0) s.heap := hX
  have hA : ∀ q : Nat, s.heap.size ≤ q → (fun q : Nat => s.heap.size ≤ q) q := fun _ h => h
  have hbA : ¬ (fun q : Nat => s.heap.size ≤ q) b := Nat.not_le.mpr hbl
  refine lv_aload_n hx hb dL_law_204 rfl (lv_at hl 2 rfl) ?_
  have hPc := hP.sub (ws' := [(q9, .inr (9, [.ref a_tape, .ref a_now, .ref a_draft, .ref a_reader, .ref a_acts, .ref a_images, .ref a_one, .ref a_other, .ref a_third, .ref a_spans, .ref a_back, .ref a_span, .ref a_middle, .ref a_reached])), (a_tape, .inr (7, [.ref y_b, .int 0, .int 0]))]) [0, 1] rfl
  have hKc := hK.sub (tys' := []) [] rfl
  refine va_calli (va_runV (As := []) (rest := []) ⟨hx, hb, hml, hown, hts⟩ (c_X9_fault l D q9 a_tape a_now a_draft a_reader a_acts a_images a_one a_other a_third a_spans a_back a_span a_middle a_reached y_b) (cwV 0 hts g_law_X9_fault rfl rfl rfl (by decide +kernel) ⟨Nat.le_of_ble_eq_true rfl, Nat.le_of_ble_eq_true rfl⟩) ⟨fun a U g mk q => by obtain ⟨q0, qP, qK⟩ := q; exact ⟨q0, qP, va_K.moved (u := U) (U := U.calling g mk a) (Vm.Alike.refl U.vm) qK⟩, va_recv hKc hPc (ci := 9) (q0 := 0) rfl rfl, fun U hU hW => ⟨rfl, by rw [hU]; exact hPc, va_K.moved hW.alike hKc⟩⟩ rfl rfl hl.1 rfl (lv_room (Nat.le_of_ble_eq_true rfl)) dL_law_205 ⟨Nat.le_of_ble_eq_true rfl, Nat.le_of_ble_eq_true rfl⟩) hS (fun _ _ h => h.elim) (fun _ h => h.elim) (fun r1 u t H1 locs ht hvm hw hB hz1 hk1 hS => ?_)
  have hP := pw_keep hP (fun q hq => hk1 q hq (fun h => h))
  generalize H1 = H at hP hS ⊢
  refine W.widen (k := 56) (n := 17172) (Nat.le_of_ble_eq_true rfl) (Nat.le_of_ble_eq_true rfl) ?_
  obtain rfl : r1 = 0 := hw
  refine lv_aload_n hx hb dL_law_208 rfl (lv_at hl 1 rfl) ?_
  have hPc := hP.sub (ws' := [(q10, .inr (10, [.ref m_now, .ref m_draft, .ref m_past, .int 0, .ref m_images, .ref m_kept, .ref m_tape, .int 0, .int 0, .int 0, .int 0, .int 0, .int 0, .int 0, .int 0, .ref m_low, .ref m_high, .ref m_first, .ref m_second, .ref m_lines, .ref m_others, .int 0, .int 0, .int 0, .int 0]))]) [8] rfl
  have hKc := hK.sub (tys' := []) [] rfl
  refine va_calli (va_runV (As := []) (rest := [.int 0]) ⟨hx, hb, hml, hown, hts⟩ (c_X10_fault l D q10 m_now m_draft m_past m_images m_kept m_tape m_low m_high m_first m_second m_lines m_others) (cwV 0 hts g_law_X10_fault rfl rfl rfl (by decide +kernel) ⟨Nat.le_of_ble_eq_true rfl, Nat.le_of_ble_eq_true rfl⟩) ⟨fun a U g mk q => by obtain ⟨q0, qP, qK⟩ := q; exact ⟨q0, qP, va_K.moved (u := U) (U := U.calling g mk a) (Vm.Alike.refl U.vm) qK⟩, va_recv hKc hPc (ci := 10) (q0 := 0) rfl rfl, fun U hU hW => ⟨rfl, by rw [hU]; exact hPc, va_K.moved hW.alike hKc⟩⟩ rfl rfl hl.1 rfl (lv_room (Nat.le_of_ble_eq_true rfl)) dL_law_209 ⟨Nat.le_of_ble_eq_true rfl, Nat.le_of_ble_eq_true rfl⟩) hS (fun _ _ h => h.elim) (fun _ h => h.elim) (fun r2 u t H1 locs ht hvm hw hB hz1 hk1 hS => ?_)
  have hP := pw_keep hP (fun q hq => hk1 q hq (fun h => h))
  generalize H1 = H at hP hS ⊢
  refine W.widen (k := 56) (n := 17172) (Nat.le_of_ble_eq_true rfl) (Nat.le_of_ble_eq_true rfl) ?_
  obtain rfl : r2 = 0 := hw
  refine lv_icmp_eq (tgt := 1258) hx hb dL_law_212 (by decide) (fun c3 => ?_) (fun c3 => absurd (by decide) c3)
  refine W.widen (k := 56) (n := 17172) (Nat.le_of_ble_eq_true rfl) (Nat.le_of_ble_eq_true rfl) ?_
  exact law_end l hd0 C0 hS (lv_sub hl [0, 3] rfl)
theorem dL_law_217 : decode cL_law 217 = .ok (.aload_n 1, 1) := by decide +kernel
theorem dL_law_218 : decode cL_law 218 = .ok (.invokevirtual 27, 3) := by decide +kernel
theorem dL_law_221 : decode cL_law 221 = .ok (.aload_n 2, 1) := by decide +kernel
theorem dL_law_222 : decode cL_law 222 = .ok (.invokevirtual 30, 3) := by decide +kernel
theorem dL_law_225 : decode cL_law 225 = .ok (.if_icmp .eq 1033, 3) := by decide +kernel
theorem dL_law_228 : decode cL_law 228 = .ok (.iconst 0, 1) := by decide +kernel
theorem dL_law_229 : decode cL_law 229 = .ok (.ireturn, 1) := by decide +kernel
set_option maxHeartbeats 4000000 in
set_option maxRecDepth 100000 in
theorem law_c3 {p : Program} {e : Env} {s : State} {m : MethodId} {below : List Frame} {meth : Method} {c : Code} (l : Launch) {b : Nat} {xs : Nat → Int32} {d0 : Drawn} (hd0 : s.drawn.sameBut d0 lw_cs) (C0 : lw_At p s m meth c b 6 xs) (D : va_G) (q9 : Nat) (q10 : Nat) (a_tape : Nat) (a_now : Nat) (a_draft : Nat) (a_reader : Nat) (a_acts : Nat) (a_images : Nat) (a_one : Nat) (a_other : Nat) (a_third : Nat) (a_spans : Nat) (a_back : Nat) (a_span : Nat) (a_middle : Nat) (a_reached : Nat) (y_b : Nat) (y_sc : Nat) (y_sp : Nat) (y_cp : Nat) (y_sn : Nat) (y_sl : Nat) (a_ring : Nat) (k_b : ClassId) (k_c : ClassId) (k_i : ClassId) (m_now : Nat) (m_draft : Nat) (m_past : Nat) (m_images : Nat) (m_kept : Nat) (m_tape : Nat) (m_low : Nat) (m_high : Nat) (m_first : Nat) (m_second : Nat) (m_lines : Nat) (m_others : Nat) (k_n : ClassId) (k_d : ClassId) (k_t : ClassId) (k_k : ClassId) {H : Heap} {locs : List Loc} {ls : Array Slot} (hK : va_K D vwCl [(k_b, .byte), (k_c, .int), (k_i, .object RX1), (k_n, .int), (k_d, .int), (k_t, .int), (k_k, .boolean)] (s.setDrawn d0)) (hP : va_P D vwCl [(q9, .inr (9, [.ref a_tape, .ref a_now, .ref a_draft, .ref a_reader, .ref a_acts, .ref a_images, .ref a_one, .ref a_other, .ref a_third, .ref a_spans, .ref a_back, .ref a_span, .ref a_middle, .ref a_reached])), (a_tape, .inr (7, [.ref y_b, .int 0, .int 0])), (y_b, .inl (k_b, 200, .inl (fun _ => 0))), (a_now, .inr (8, [.ref y_sc, .ref y_sp, .ref y_cp, .ref y_sn, .ref y_sl, .int 0, .int 0, .int 0])), (y_cp, .inl (k_c, 32, .inl (fun _ => 0))), (a_reader, .inr (4, [.ref a_tape, .ref a_draft, .int 0, .int 0, .int 0, .int 0, .int 0])), (a_acts, .inr (0, [.ref a_ring, .int 0, .int 0])), (a_images, .inl (k_i, 2, .inr (.inr (.inr (.inr (fun _ => none)))))), (q10, .inr (10, [.ref m_now, .ref m_draft, .ref m_past, .int 0, .ref m_images, .ref m_kept, .ref m_tape, .int 0, .int 0, .int 0, .int 0, .int 0, .int 0, .int 0, .int 0, .ref m_low, .ref m_high, .ref m_first, .ref m_second, .ref m_lines, .ref m_others, .int 0, .int 0, .int 0, .int 0])), (m_now, .inl (k_n, 192, .inl (fun _ => 0))), (m_draft, .inl (k_d, 192, .inl (fun _ => 0))), (m_tape, .inl (k_t, 200, .inl (fun _ => 0))), (m_kept, .inl (k_k, 2, .inl (fun _ => 0)))] H) (hD : va_D (fun q : Nat => s.heap.size ≤ q) [(q9, .inr (9, [.ref a_tape, .ref a_now, .ref a_draft, .ref a_reader, .ref a_acts, .ref a_images, .ref a_one, .ref a_other, .ref a_third, .ref a_spans, .ref a_back, .ref a_span, .ref a_middle, .ref a_reached])), (a_tape, .inr (7, [.ref y_b, .int 0, .int 0])), (y_b, .inl (k_b, 200, .inl (fun _ => 0))), (a_now, .inr (8, [.ref y_sc, .ref y_sp, .ref y_cp, .ref y_sn, .ref y_sl, .int 0, .int 0, .int 0])), (y_cp, .inl (k_c, 32, .inl (fun _ => 0))), (a_reader, .inr (4, [.ref a_tape, .ref a_draft, .int 0, .int 0, .int 0, .int 0, .int 0])), (a_acts, .inr (0, [.ref a_ring, .int 0, .int 0])), (a_images, .inl (k_i, 2, .inr (.inr (.inr (.inr (fun _ => none)))))), (q10, .inr (10, [.ref m_now, .ref m_draft, .ref m_past, .int 0, .ref m_images, .ref m_kept, .ref m_tape, .int 0, .int 0, .int 0, .int 0, .int 0, .int 0, .int 0, .int 0, .ref m_low, .ref m_high, .ref m_first, .ref m_second, .ref m_lines, .ref m_others, .int 0, .int 0, .int 0, .int 0])), (m_now, .inl (k_n, 192, .inl (fun _ => 0))), (m_draft, .inl (k_d, 192, .inl (fun _ => 0))), (m_tape, .inl (k_t, 200, .inl (fun _ => 0))), (m_kept, .inl (k_k, 2, .inl (fun _ => 0)))]) (hS : va_S (fun q : Nat => s.heap.size ≤ q) s.heap H locs) (hl : lv_has ls 4 [(3, .int 0), (2, .ref q10), (1, .ref q9), (0, .ref b)]) : W p l e room_1 (s.setDrawn d0) m #[Value.ref b] below meth c H locs 56 17172 (lw_Z below #[Value.ref b] s) (F0 m 217 ls []) := by
  obtain ⟨hx, hb, hr, hml, hown, hts0, hX, hbl, hlocks, hgv⟩ := id C0
  have hts : ∀ w ∈ w_law, w.before #[Value.ref b] (s.setDrawn d0) = true := fun w h => dr_words hts0 d0 w (w_law_in w h)
  have hown : (s.setDrawn d0).vm.findClass RL = some m.cls := hown
  have hX : va_X b 6 xs (s.setDrawn d0) s.heap := hX
  have hA : ∀ q : Nat, s.heap.size ≤ q → (fun q : Nat => s.heap.size ≤ q) q := fun _ h => h
  have hbA : ¬ (fun q : Nat => s.heap.size ≤ q) b := Nat.not_le.mpr hbl
  refine lv_aload_n hx hb dL_law_217 rfl (lv_at hl 2 rfl) ?_
  have hPc := hP.sub (ws' := [(q9, .inr (9, [.ref a_tape, .ref a_now, .ref a_draft, .ref a_reader, .ref a_acts, .ref a_images, .ref a_one, .ref a_other, .ref a_third, .ref a_spans, .ref a_back, .ref a_span, .ref a_middle, .ref a_reached])), (a_acts, .inr (0, [.ref a_ring, .int 0, .int 0]))]) [0, 6] rfl
  have hKc := hK.sub (tys' := []) [] rfl
  refine va_calli (va_runV (As := []) (rest := []) ⟨hx, hb, hml, hown, hts⟩ (c_X9_undo l D q9 a_tape a_now a_draft a_reader a_acts a_images a_one a_other a_third a_spans a_back a_span a_middle a_reached a_ring) (cwV 0 hts g_law_X9_undo rfl rfl rfl (by decide +kernel) ⟨Nat.le_of_ble_eq_true rfl, Nat.le_of_ble_eq_true rfl⟩) ⟨fun a U g mk q => by obtain ⟨q0, qP, qK⟩ := q; exact ⟨q0, qP, va_K.moved (u := U) (U := U.calling g mk a) (Vm.Alike.refl U.vm) qK⟩, va_recv hKc hPc (ci := 9) (q0 := 0) rfl rfl, fun U hU hW => ⟨rfl, by rw [hU]; exact hPc, va_K.moved hW.alike hKc⟩⟩ rfl rfl hl.1 rfl (lv_room (Nat.le_of_ble_eq_true rfl)) dL_law_218 ⟨Nat.le_of_ble_eq_true rfl, Nat.le_of_ble_eq_true rfl⟩) hS (fun _ _ h => h.elim) (fun _ h => h.elim) (fun r1 u t H1 locs ht hvm hw hB hz1 hk1 hS => ?_)
  have hP := pw_keep hP (fun q hq => hk1 q hq (fun h => h))
  generalize H1 = H at hP hS ⊢
  refine W.widen (k := 56) (n := 17172) (Nat.le_of_ble_eq_true rfl) (Nat.le_of_ble_eq_true rfl) ?_
  obtain rfl : r1 = (-1000002) := hw
  refine lv_aload_n hx hb dL_law_221 rfl (lv_at hl 1 rfl) ?_
  have hPc := hP.sub (ws' := [(q10, .inr (10, [.ref m_now, .ref m_draft, .ref m_past, .int 0, .ref m_images, .ref m_kept, .ref m_tape, .int 0, .int 0, .int 0, .int 0, .int 0, .int 0, .int 0, .int 0, .ref m_low, .ref m_high, .ref m_first, .ref m_second, .ref m_lines, .ref m_others, .int 0, .int 0, .int 0, .int 0]))]) [8] rfl
  have hKc := hK.sub (tys' := []) [] rfl
  refine va_calli (va_runV (As := []) (rest := [.int (-1000002)]) ⟨hx, hb, hml, hown, hts⟩ (c_X10_undo l D q10 m_now m_draft m_past m_images m_kept m_tape m_low m_high m_first m_second m_lines m_others) (cwV 0 hts g_law_X10_undo rfl rfl rfl (by decide +kernel) ⟨Nat.le_of_ble_eq_true rfl, Nat.le_of_ble_eq_true rfl⟩) ⟨fun a U g mk q => by obtain ⟨q0, qP, qK⟩ := q; exact ⟨q0, qP, va_K.moved (u := U) (U := U.calling g mk a) (Vm.Alike.refl U.vm) qK⟩, va_recv hKc hPc (ci := 10) (q0 := 0) rfl rfl, fun U hU hW => ⟨rfl, by rw [hU]; exact hPc, va_K.moved hW.alike hKc⟩⟩ rfl rfl hl.1 rfl (lv_room (Nat.le_of_ble_eq_true rfl)) dL_law_222 ⟨Nat.le_of_ble_eq_true rfl, Nat.le_of_ble_eq_true rfl⟩) hS (fun _ _ h => h.elim) (fun _ h => h.elim) (fun r2 u t H1 locs ht hvm hw hB hz1 hk1 hS => ?_)
  have hP := pw_keep hP (fun q hq => hk1 q hq (fun h => h))
  generalize H1 = H at hP hS ⊢
  refine W.widen (k := 56) (n := 17172) (Nat.le_of_ble_eq_true rfl) (Nat.le_of_ble_eq_true rfl) ?_
  obtain rfl : r2 = (-1000002) := hw
  refine lv_icmp_eq (tgt := 1258) hx hb dL_law_225 (by decide) (fun c3 => ?_) (fun c3 => absurd (by decide) c3)
  refine W.widen (k := 56) (n := 17172) (Nat.le_of_ble_eq_true rfl) (Nat.le_of_ble_eq_true rfl) ?_
  exact law_end l hd0 C0 hS (lv_sub hl [0, 3] rfl)
theorem dL_law_230 : decode cL_law 230 = .ok (.aload_n 1, 1) := by decide +kernel
theorem dL_law_231 : decode cL_law 231 = .ok (.aload_n 0, 1) := by decide +kernel
theorem dL_law_232 : decode cL_law 232 = .ok (.iload_n 3, 1) := by decide +kernel
theorem dL_law_233 : decode cL_law 233 = .ok (.iconst 1, 1) := by decide +kernel
theorem dL_law_234 : decode cL_law 234 = .ok (.iadd, 1) := by decide +kernel
theorem dL_law_235 : decode cL_law 235 = .ok (.iaload, 1) := by decide +kernel
theorem dL_law_236 : decode cL_law 236 = .ok (.aload_n 0, 1) := by decide +kernel
theorem dL_law_237 : decode cL_law 237 = .ok (.iload_n 3, 1) := by decide +kernel
theorem dL_law_238 : decode cL_law 238 = .ok (.iconst 2, 1) := by decide +kernel
theorem dL_law_239 : decode cL_law 239 = .ok (.iadd, 1) := by decide +kernel
theorem dL_law_240 : decode cL_law 240 = .ok (.iaload, 1) := by decide +kernel
theorem dL_law_241 : decode cL_law 241 = .ok (.aload_n 0, 1) := by decide +kernel
theorem dL_law_242 : decode cL_law 242 = .ok (.iload_n 3, 1) := by decide +kernel
theorem dL_law_243 : decode cL_law 243 = .ok (.iconst 3, 1) := by decide +kernel
theorem dL_law_244 : decode cL_law 244 = .ok (.iadd, 1) := by decide +kernel
theorem dL_law_245 : decode cL_law 245 = .ok (.iaload, 1) := by decide +kernel
theorem dL_law_246 : decode cL_law 246 = .ok (.aload_n 0, 1) := by decide +kernel
theorem dL_law_247 : decode cL_law 247 = .ok (.iload_n 3, 1) := by decide +kernel
theorem dL_law_248 : decode cL_law 248 = .ok (.iconst 4, 1) := by decide +kernel
theorem dL_law_249 : decode cL_law 249 = .ok (.iadd, 1) := by decide +kernel
theorem dL_law_250 : decode cL_law 250 = .ok (.iaload, 1) := by decide +kernel
theorem dL_law_251 : decode cL_law 251 = .ok (.aload_n 0, 1) := by decide +kernel
theorem dL_law_252 : decode cL_law 252 = .ok (.iload_n 3, 1) := by decide +kernel
theorem dL_law_253 : decode cL_law 253 = .ok (.iconst 5, 1) := by decide +kernel
theorem dL_law_254 : decode cL_law 254 = .ok (.iadd, 1) := by decide +kernel
theorem dL_law_255 : decode cL_law 255 = .ok (.iaload, 1) := by decide +kernel
theorem dL_law_256 : decode cL_law 256 = .ok (.invokevirtual 31, 3) := by decide +kernel
theorem dL_law_259 : decode cL_law 259 = .ok (.aload_n 2, 1) := by decide +kernel
theorem dL_law_260 : decode cL_law 260 = .ok (.aload_n 0, 1) := by decide +kernel
theorem dL_law_261 : decode cL_law 261 = .ok (.iload_n 3, 1) := by decide +kernel
theorem dL_law_262 : decode cL_law 262 = .ok (.iconst 1, 1) := by decide +kernel
theorem dL_law_263 : decode cL_law 263 = .ok (.iadd, 1) := by decide +kernel
theorem dL_law_264 : decode cL_law 264 = .ok (.iaload, 1) := by decide +kernel
theorem dL_law_265 : decode cL_law 265 = .ok (.aload_n 0, 1) := by decide +kernel
theorem dL_law_266 : decode cL_law 266 = .ok (.iload_n 3, 1) := by decide +kernel
theorem dL_law_267 : decode cL_law 267 = .ok (.iconst 2, 1) := by decide +kernel
theorem dL_law_268 : decode cL_law 268 = .ok (.iadd, 1) := by decide +kernel
theorem dL_law_269 : decode cL_law 269 = .ok (.iaload, 1) := by decide +kernel
theorem dL_law_270 : decode cL_law 270 = .ok (.aload_n 0, 1) := by decide +kernel
theorem dL_law_271 : decode cL_law 271 = .ok (.iload_n 3, 1) := by decide +kernel
theorem dL_law_272 : decode cL_law 272 = .ok (.iconst 3, 1) := by decide +kernel
theorem dL_law_273 : decode cL_law 273 = .ok (.iadd, 1) := by decide +kernel
theorem dL_law_274 : decode cL_law 274 = .ok (.iaload, 1) := by decide +kernel
theorem dL_law_275 : decode cL_law 275 = .ok (.aload_n 0, 1) := by decide +kernel
theorem dL_law_276 : decode cL_law 276 = .ok (.iload_n 3, 1) := by decide +kernel
theorem dL_law_277 : decode cL_law 277 = .ok (.iconst 4, 1) := by decide +kernel
theorem dL_law_278 : decode cL_law 278 = .ok (.iadd, 1) := by decide +kernel
theorem dL_law_279 : decode cL_law 279 = .ok (.iaload, 1) := by decide +kernel
theorem dL_law_280 : decode cL_law 280 = .ok (.aload_n 0, 1) := by decide +kernel
theorem dL_law_281 : decode cL_law 281 = .ok (.iload_n 3, 1) := by decide +kernel
theorem dL_law_282 : decode cL_law 282 = .ok (.iconst 5, 1) := by decide +kernel
theorem dL_law_283 : decode cL_law 283 = .ok (.iadd, 1) := by decide +kernel
theorem dL_law_284 : decode cL_law 284 = .ok (.iaload, 1) := by decide +kernel
theorem dL_law_285 : decode cL_law 285 = .ok (.invokevirtual 35, 3) := by decide +kernel
theorem dL_law_288 : decode cL_law 288 = .ok (.if_icmp .eq 970, 3) := by decide +kernel
theorem dL_law_291 : decode cL_law 291 = .ok (.iconst 0, 1) := by decide +kernel
theorem dL_law_292 : decode cL_law 292 = .ok (.ireturn, 1) := by decide +kernel
set_option maxHeartbeats 4000000 in
set_option maxRecDepth 100000 in
theorem law_c4 {p : Program} {e : Env} {s : State} {m : MethodId} {below : List Frame} {meth : Method} {c : Code} (l : Launch) {b : Nat} {xs : Nat → Int32} {d0 : Drawn} (hd0 : s.drawn.sameBut d0 lw_cs) (C0 : lw_At p s m meth c b 6 xs) (D : va_G) (q9 : Nat) (q10 : Nat) (a_tape : Nat) (a_now : Nat) (a_draft : Nat) (a_reader : Nat) (a_acts : Nat) (a_images : Nat) (a_one : Nat) (a_other : Nat) (a_third : Nat) (a_spans : Nat) (a_back : Nat) (a_span : Nat) (a_middle : Nat) (a_reached : Nat) (y_b : Nat) (y_sc : Nat) (y_sp : Nat) (y_cp : Nat) (y_sn : Nat) (y_sl : Nat) (a_ring : Nat) (k_b : ClassId) (k_c : ClassId) (k_i : ClassId) (m_now : Nat) (m_draft : Nat) (m_past : Nat) (m_images : Nat) (m_kept : Nat) (m_tape : Nat) (m_low : Nat) (m_high : Nat) (m_first : Nat) (m_second : Nat) (m_lines : Nat) (m_others : Nat) (k_n : ClassId) (k_d : ClassId) (k_t : ClassId) (k_k : ClassId) {H : Heap} {locs : List Loc} {ls : Array Slot} (hK : va_K D vwCl [(k_b, .byte), (k_c, .int), (k_i, .object RX1), (k_n, .int), (k_d, .int), (k_t, .int), (k_k, .boolean)] (s.setDrawn d0)) (hP : va_P D vwCl [(q9, .inr (9, [.ref a_tape, .ref a_now, .ref a_draft, .ref a_reader, .ref a_acts, .ref a_images, .ref a_one, .ref a_other, .ref a_third, .ref a_spans, .ref a_back, .ref a_span, .ref a_middle, .ref a_reached])), (a_tape, .inr (7, [.ref y_b, .int 0, .int 0])), (y_b, .inl (k_b, 200, .inl (fun _ => 0))), (a_now, .inr (8, [.ref y_sc, .ref y_sp, .ref y_cp, .ref y_sn, .ref y_sl, .int 0, .int 0, .int 0])), (y_cp, .inl (k_c, 32, .inl (fun _ => 0))), (a_reader, .inr (4, [.ref a_tape, .ref a_draft, .int 0, .int 0, .int 0, .int 0, .int 0])), (a_acts, .inr (0, [.ref a_ring, .int 0, .int 0])), (a_images, .inl (k_i, 2, .inr (.inr (.inr (.inr (fun _ => none)))))), (q10, .inr (10, [.ref m_now, .ref m_draft, .ref m_past, .int 0, .ref m_images, .ref m_kept, .ref m_tape, .int 0, .int 0, .int 0, .int 0, .int 0, .int 0, .int 0, .int 0, .ref m_low, .ref m_high, .ref m_first, .ref m_second, .ref m_lines, .ref m_others, .int 0, .int 0, .int 0, .int 0])), (m_now, .inl (k_n, 192, .inl (fun _ => 0))), (m_draft, .inl (k_d, 192, .inl (fun _ => 0))), (m_tape, .inl (k_t, 200, .inl (fun _ => 0))), (m_kept, .inl (k_k, 2, .inl (fun _ => 0)))] H) (hD : va_D (fun q : Nat => s.heap.size ≤ q) [(q9, .inr (9, [.ref a_tape, .ref a_now, .ref a_draft, .ref a_reader, .ref a_acts, .ref a_images, .ref a_one, .ref a_other, .ref a_third, .ref a_spans, .ref a_back, .ref a_span, .ref a_middle, .ref a_reached])), (a_tape, .inr (7, [.ref y_b, .int 0, .int 0])), (y_b, .inl (k_b, 200, .inl (fun _ => 0))), (a_now, .inr (8, [.ref y_sc, .ref y_sp, .ref y_cp, .ref y_sn, .ref y_sl, .int 0, .int 0, .int 0])), (y_cp, .inl (k_c, 32, .inl (fun _ => 0))), (a_reader, .inr (4, [.ref a_tape, .ref a_draft, .int 0, .int 0, .int 0, .int 0, .int 0])), (a_acts, .inr (0, [.ref a_ring, .int 0, .int 0])), (a_images, .inl (k_i, 2, .inr (.inr (.inr (.inr (fun _ => none)))))), (q10, .inr (10, [.ref m_now, .ref m_draft, .ref m_past, .int 0, .ref m_images, .ref m_kept, .ref m_tape, .int 0, .int 0, .int 0, .int 0, .int 0, .int 0, .int 0, .int 0, .ref m_low, .ref m_high, .ref m_first, .ref m_second, .ref m_lines, .ref m_others, .int 0, .int 0, .int 0, .int 0])), (m_now, .inl (k_n, 192, .inl (fun _ => 0))), (m_draft, .inl (k_d, 192, .inl (fun _ => 0))), (m_tape, .inl (k_t, 200, .inl (fun _ => 0))), (m_kept, .inl (k_k, 2, .inl (fun _ => 0)))]) (hS : va_S (fun q : Nat => s.heap.size ≤ q) s.heap H locs) (hl : lv_has ls 4 [(3, .int 0), (2, .ref q10), (1, .ref q9), (0, .ref b)]) : W p l e room_1 (s.setDrawn d0) m #[Value.ref b] below meth c H locs 56 17172 (lw_Z below #[Value.ref b] s) (F0 m 230 ls []) := by
  obtain ⟨hx, hb, hr, hml, hown, hts0, hX, hbl, hlocks, hgv⟩ := id C0
  have hts : ∀ w ∈ w_law, w.before #[Value.ref b] (s.setDrawn d0) = true := fun w h => dr_words hts0 d0 w (w_law_in w h)
  have hown : (s.setDrawn d0).vm.findClass RL = some m.cls := hown
  have hX : va_X b 6 xs (s.setDrawn d0) s.heap := hX
  have hA : ∀ q : Nat, s.heap.size ≤ q → (fun q : Nat => s.heap.size ≤ q) q := fun _ h => h
  have hbA : ¬ (fun q : Nat => s.heap.size ≤ q) b := Nat.not_le.mpr hbl
  refine lv_aload_n hx hb dL_law_230 rfl (lv_at hl 2 rfl) ?_
  refine lv_aload_n hx hb dL_law_231 rfl (lv_at hl 3 rfl) ?_
  refine lv_iload_n hx hb dL_law_232 rfl (lv_at hl 0 rfl) ?_
  refine lv_iconst (v := 1) hx hb dL_law_233 (by decide) ?_
  refine lv_iadd hx hb dL_law_234 ?_
  refine lv_topi (fun x1 ex1 => ?_)
  obtain rfl : x1 = 1 := ex1.trans (by decide)
  refine va_sld (i := 1) hx hb hX hbl hbA hS (vp_in_iff.mpr (by decide)) dL_law_235 ?_
  refine lv_topi (fun x2 ex2 => ?_)
  refine lv_aload_n hx hb dL_law_236 rfl (lv_at hl 3 rfl) ?_
  refine lv_iload_n hx hb dL_law_237 rfl (lv_at hl 0 rfl) ?_
  refine lv_iconst (v := 2) hx hb dL_law_238 (by decide) ?_
  refine lv_iadd hx hb dL_law_239 ?_
  refine lv_topi (fun x3 ex3 => ?_)
  obtain rfl : x3 = 2 := ex3.trans (by decide)
  refine va_sld (i := 2) hx hb hX hbl hbA hS (vp_in_iff.mpr (by decide)) dL_law_240 ?_
  refine lv_topi (fun x4 ex4 => ?_)
  refine lv_aload_n hx hb dL_law_241 rfl (lv_at hl 3 rfl) ?_
  refine lv_iload_n hx hb dL_law_242 rfl (lv_at hl 0 rfl) ?_
  refine lv_iconst (v := 3) hx hb dL_law_243 (by decide) ?_
  refine lv_iadd hx hb dL_law_244 ?_
  refine lv_topi (fun x5 ex5 => ?_)
  obtain rfl : x5 = 3 := ex5.trans (by decide)
  refine va_sld (i := 3) hx hb hX hbl hbA hS (vp_in_iff.mpr (by decide)) dL_law_245 ?_
  refine lv_topi (fun x6 ex6 => ?_)
  refine lv_aload_n hx hb dL_law_246 rfl (lv_at hl 3 rfl) ?_
  refine lv_iload_n hx hb dL_law_247 rfl (lv_at hl 0 rfl) ?_
  refine lv_iconst (v := 4) hx hb dL_law_248 (by decide) ?_
  refine lv_iadd hx hb dL_law_249 ?_
  refine lv_topi (fun x7 ex7 => ?_)
  obtain rfl : x7 = 4 := ex7.trans (by decide)
  refine va_sld (i := 4) hx hb hX hbl hbA hS (vp_in_iff.mpr (by decide)) dL_law_250 ?_
  refine lv_topi (fun x8 ex8 => ?_)
  refine lv_aload_n hx hb dL_law_251 rfl (lv_at hl 3 rfl) ?_
  refine lv_iload_n hx hb dL_law_252 rfl (lv_at hl 0 rfl) ?_
  refine lv_iconst (v := 5) hx hb dL_law_253 (by decide) ?_
  refine lv_iadd hx hb dL_law_254 ?_
  refine lv_topi (fun x9 ex9 => ?_)
  obtain rfl : x9 = 5 := ex9.trans (by decide)
  refine va_sld (i := 5) hx hb hX hbl hbA hS (vp_in_iff.mpr (by decide)) dL_law_255 ?_
  refine lv_topi (fun x10 ex10 => ?_)
  have hPc := hP.sub (ws' := [(q9, .inr (9, [.ref a_tape, .ref a_now, .ref a_draft, .ref a_reader, .ref a_acts, .ref a_images, .ref a_one, .ref a_other, .ref a_third, .ref a_spans, .ref a_back, .ref a_span, .ref a_middle, .ref a_reached])), (a_now, .inr (8, [.ref y_sc, .ref y_sp, .ref y_cp, .ref y_sn, .ref y_sl, .int 0, .int 0, .int 0]))]) [0, 3] rfl
  have hKc := hK.sub (tys' := []) [] rfl
  refine va_calli (va_runV (As := [.int x2, .int x4, .int x6, .int x8, .int x10]) (rest := []) ⟨hx, hb, hml, hown, hts⟩ (c_X9_add l D q9 x2 x4 x6 x8 x10 a_tape a_now a_draft a_reader a_acts a_images a_one a_other a_third a_spans a_back a_span a_middle a_reached y_sc y_sp y_cp y_sn y_sl) (cwV 5 hts g_law_X9_add rfl rfl rfl (by decide +kernel) ⟨Nat.le_of_ble_eq_true rfl, Nat.le_of_ble_eq_true rfl⟩) ⟨fun a U g mk q => by obtain ⟨q0, qP, qK⟩ := q; exact ⟨q0, qP, va_K.moved (u := U) (U := U.calling g mk a) (Vm.Alike.refl U.vm) qK⟩, va_recv hKc hPc (ci := 9) (q0 := 0) rfl rfl, fun U hU hW => ⟨rfl, by rw [hU]; exact hPc, va_K.moved hW.alike hKc⟩⟩ rfl rfl hl.1 rfl (lv_room (Nat.le_of_ble_eq_true rfl)) dL_law_256 ⟨Nat.le_of_ble_eq_true rfl, Nat.le_of_ble_eq_true rfl⟩) hS (fun _ _ h => h.elim) (fun _ h => h.elim) (fun r11 u t H1 locs ht hvm hw hB hz1 hk1 hS => ?_)
  have hP := pw_keep hP (fun q hq => hk1 q hq (fun h => h))
  generalize H1 = H at hP hS ⊢
  refine W.widen (k := 56) (n := 17172) (Nat.le_of_ble_eq_true rfl) (Nat.le_of_ble_eq_true rfl) ?_
  obtain rfl : r11 = (-1000001) := hw
  refine lv_aload_n hx hb dL_law_259 rfl (lv_at hl 1 rfl) ?_
  refine lv_aload_n hx hb dL_law_260 rfl (lv_at hl 3 rfl) ?_
  refine lv_iload_n hx hb dL_law_261 rfl (lv_at hl 0 rfl) ?_
  refine lv_iconst (v := 1) hx hb dL_law_262 (by decide) ?_
  refine lv_iadd hx hb dL_law_263 ?_
  refine lv_topi (fun x12 ex12 => ?_)
  obtain rfl : x12 = 1 := ex12.trans (by decide)
  refine va_sld (i := 1) hx hb hX hbl hbA hS (vp_in_iff.mpr (by decide)) dL_law_264 ?_
  refine lv_topi (fun x13 ex13 => ?_)
  refine lv_aload_n hx hb dL_law_265 rfl (lv_at hl 3 rfl) ?_
  refine lv_iload_n hx hb dL_law_266 rfl (lv_at hl 0 rfl) ?_
  refine lv_iconst (v := 2) hx hb dL_law_267 (by decide) ?_
  refine lv_iadd hx hb dL_law_268 ?_
  refine lv_topi (fun x14 ex14 => ?_)
  obtain rfl : x14 = 2 := ex14.trans (by decide)
  refine va_sld (i := 2) hx hb hX hbl hbA hS (vp_in_iff.mpr (by decide)) dL_law_269 ?_
  refine lv_topi (fun x15 ex15 => ?_)
  refine lv_aload_n hx hb dL_law_270 rfl (lv_at hl 3 rfl) ?_
  refine lv_iload_n hx hb dL_law_271 rfl (lv_at hl 0 rfl) ?_
  refine lv_iconst (v := 3) hx hb dL_law_272 (by decide) ?_
  refine lv_iadd hx hb dL_law_273 ?_
  refine lv_topi (fun x16 ex16 => ?_)
  obtain rfl : x16 = 3 := ex16.trans (by decide)
  refine va_sld (i := 3) hx hb hX hbl hbA hS (vp_in_iff.mpr (by decide)) dL_law_274 ?_
  refine lv_topi (fun x17 ex17 => ?_)
  refine lv_aload_n hx hb dL_law_275 rfl (lv_at hl 3 rfl) ?_
  refine lv_iload_n hx hb dL_law_276 rfl (lv_at hl 0 rfl) ?_
  refine lv_iconst (v := 4) hx hb dL_law_277 (by decide) ?_
  refine lv_iadd hx hb dL_law_278 ?_
  refine lv_topi (fun x18 ex18 => ?_)
  obtain rfl : x18 = 4 := ex18.trans (by decide)
  refine va_sld (i := 4) hx hb hX hbl hbA hS (vp_in_iff.mpr (by decide)) dL_law_279 ?_
  refine lv_topi (fun x19 ex19 => ?_)
  refine lv_aload_n hx hb dL_law_280 rfl (lv_at hl 3 rfl) ?_
  refine lv_iload_n hx hb dL_law_281 rfl (lv_at hl 0 rfl) ?_
  refine lv_iconst (v := 5) hx hb dL_law_282 (by decide) ?_
  refine lv_iadd hx hb dL_law_283 ?_
  refine lv_topi (fun x20 ex20 => ?_)
  obtain rfl : x20 = 5 := ex20.trans (by decide)
  refine va_sld (i := 5) hx hb hX hbl hbA hS (vp_in_iff.mpr (by decide)) dL_law_284 ?_
  refine lv_topi (fun x21 ex21 => ?_)
  have hPc := hP.sub (ws' := [(q10, .inr (10, [.ref m_now, .ref m_draft, .ref m_past, .int 0, .ref m_images, .ref m_kept, .ref m_tape, .int 0, .int 0, .int 0, .int 0, .int 0, .int 0, .int 0, .int 0, .ref m_low, .ref m_high, .ref m_first, .ref m_second, .ref m_lines, .ref m_others, .int 0, .int 0, .int 0, .int 0])), (m_now, .inl (k_n, 192, .inl (fun _ => 0)))]) [8, 9] rfl
  have hKc := hK.sub (tys' := [(k_n, .int)]) [3] rfl
  refine va_calli (va_runV (As := [.int x13, .int x15, .int x17, .int x19, .int x21]) (rest := [.int (-1000001)]) ⟨hx, hb, hml, hown, hts⟩ (c_X10_add l D q10 x13 x15 x17 x19 x21 m_now m_draft m_past m_images m_kept m_tape m_low m_high m_first m_second m_lines m_others k_n) (cwV 5 hts g_law_X10_add rfl rfl rfl (by decide +kernel) ⟨Nat.le_of_ble_eq_true rfl, Nat.le_of_ble_eq_true rfl⟩) ⟨fun a U g mk q => by obtain ⟨q0, qP, qK⟩ := q; exact ⟨q0, qP, va_K.moved (u := U) (U := U.calling g mk a) (Vm.Alike.refl U.vm) qK⟩, va_recv hKc hPc (ci := 10) (q0 := 0) rfl rfl, fun U hU hW => ⟨rfl, by rw [hU]; exact hPc, va_K.moved hW.alike hKc⟩⟩ rfl rfl hl.1 rfl (lv_room (Nat.le_of_ble_eq_true rfl)) dL_law_285 ⟨Nat.le_of_ble_eq_true rfl, Nat.le_of_ble_eq_true rfl⟩) hS (fun _ _ h => h.elim) (fun _ h => h.elim) (fun r22 u t H1 locs ht hvm hw hB hz1 hk1 hS => ?_)
  have hP := pw_keep hP (fun q hq => hk1 q hq (fun h => h))
  generalize H1 = H at hP hS ⊢
  refine W.widen (k := 56) (n := 17172) (Nat.le_of_ble_eq_true rfl) (Nat.le_of_ble_eq_true rfl) ?_
  obtain rfl : r22 = (-1000001) := hw
  refine lv_icmp_eq (tgt := 1258) hx hb dL_law_288 (by decide) (fun c23 => ?_) (fun c23 => absurd (by decide) c23)
  refine W.widen (k := 56) (n := 17172) (Nat.le_of_ble_eq_true rfl) (Nat.le_of_ble_eq_true rfl) ?_
  exact law_end l hd0 C0 hS (lv_sub hl [0, 3] rfl)
