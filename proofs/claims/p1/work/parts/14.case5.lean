theorem dL_law_293 : decode cL_law 293 = .ok (.aload_n 1, 1) := by decide +kernel
theorem dL_law_294 : decode cL_law 294 = .ok (.aload_n 0, 1) := by decide +kernel
theorem dL_law_295 : decode cL_law 295 = .ok (.iload_n 3, 1) := by decide +kernel
theorem dL_law_296 : decode cL_law 296 = .ok (.iconst 1, 1) := by decide +kernel
theorem dL_law_297 : decode cL_law 297 = .ok (.iadd, 1) := by decide +kernel
theorem dL_law_298 : decode cL_law 298 = .ok (.iaload, 1) := by decide +kernel
theorem dL_law_299 : decode cL_law 299 = .ok (.aload_n 0, 1) := by decide +kernel
theorem dL_law_300 : decode cL_law 300 = .ok (.iload_n 3, 1) := by decide +kernel
theorem dL_law_301 : decode cL_law 301 = .ok (.iconst 2, 1) := by decide +kernel
theorem dL_law_302 : decode cL_law 302 = .ok (.iadd, 1) := by decide +kernel
theorem dL_law_303 : decode cL_law 303 = .ok (.iaload, 1) := by decide +kernel
theorem dL_law_304 : decode cL_law 304 = .ok (.invokevirtual 36, 3) := by decide +kernel
theorem dL_law_307 : decode cL_law 307 = .ok (.aload_n 2, 1) := by decide +kernel
theorem dL_law_308 : decode cL_law 308 = .ok (.aload_n 0, 1) := by decide +kernel
theorem dL_law_309 : decode cL_law 309 = .ok (.iload_n 3, 1) := by decide +kernel
theorem dL_law_310 : decode cL_law 310 = .ok (.iconst 1, 1) := by decide +kernel
theorem dL_law_311 : decode cL_law 311 = .ok (.iadd, 1) := by decide +kernel
theorem dL_law_312 : decode cL_law 312 = .ok (.iaload, 1) := by decide +kernel
theorem dL_law_313 : decode cL_law 313 = .ok (.aload_n 0, 1) := by decide +kernel
theorem dL_law_314 : decode cL_law 314 = .ok (.iload_n 3, 1) := by decide +kernel
theorem dL_law_315 : decode cL_law 315 = .ok (.iconst 2, 1) := by decide +kernel
theorem dL_law_316 : decode cL_law 316 = .ok (.iadd, 1) := by decide +kernel
theorem dL_law_317 : decode cL_law 317 = .ok (.iaload, 1) := by decide +kernel
theorem dL_law_318 : decode cL_law 318 = .ok (.invokevirtual 40, 3) := by decide +kernel
theorem dL_law_321 : decode cL_law 321 = .ok (.if_icmp .eq 937, 3) := by decide +kernel
theorem dL_law_324 : decode cL_law 324 = .ok (.iconst 0, 1) := by decide +kernel
theorem dL_law_325 : decode cL_law 325 = .ok (.ireturn, 1) := by decide +kernel
set_option maxHeartbeats 4000000 in
set_option maxRecDepth 100000 in
theorem law_c5 {p : Program} {e : Env} {s : State} {m : MethodId} {below : List Frame} {meth : Method} {c : Code} (l : Launch) {b : Nat} {xs : Nat → Int32} {d0 : Drawn} (hd0 : s.drawn.sameBut d0 lw_cs) (C0 : lw_At p s m meth c b 6 xs) (D : va_G) (q9 : Nat) (q10 : Nat) (a_tape : Nat) (a_now : Nat) (a_draft : Nat) (a_reader : Nat) (a_acts : Nat) (a_images : Nat) (a_one : Nat) (a_other : Nat) (a_third : Nat) (a_spans : Nat) (a_back : Nat) (a_span : Nat) (a_middle : Nat) (a_reached : Nat) (y_b : Nat) (y_sc : Nat) (y_sp : Nat) (y_cp : Nat) (y_sn : Nat) (y_sl : Nat) (a_ring : Nat) (k_b : ClassId) (k_c : ClassId) (k_i : ClassId) (m_now : Nat) (m_draft : Nat) (m_past : Nat) (m_images : Nat) (m_kept : Nat) (m_tape : Nat) (m_low : Nat) (m_high : Nat) (m_first : Nat) (m_second : Nat) (m_lines : Nat) (m_others : Nat) (k_n : ClassId) (k_d : ClassId) (k_t : ClassId) (k_k : ClassId) {H : Heap} {locs : List Loc} {ls : Array Slot} (hK : va_K D vwCl [(k_b, .byte), (k_c, .int), (k_i, .object RX1), (k_n, .int), (k_d, .int), (k_t, .int), (k_k, .boolean)] (s.setDrawn d0)) (hP : va_P D vwCl [(q9, .inr (9, [.ref a_tape, .ref a_now, .ref a_draft, .ref a_reader, .ref a_acts, .ref a_images, .ref a_one, .ref a_other, .ref a_third, .ref a_spans, .ref a_back, .ref a_span, .ref a_middle, .ref a_reached])), (a_tape, .inr (7, [.ref y_b, .int 0, .int 0])), (y_b, .inl (k_b, 200, .inl (fun _ => 0))), (a_now, .inr (8, [.ref y_sc, .ref y_sp, .ref y_cp, .ref y_sn, .ref y_sl, .int 0, .int 0, .int 0])), (y_cp, .inl (k_c, 32, .inl (fun _ => 0))), (a_reader, .inr (4, [.ref a_tape, .ref a_draft, .int 0, .int 0, .int 0, .int 0, .int 0])), (a_acts, .inr (0, [.ref a_ring, .int 0, .int 0])), (a_images, .inl (k_i, 2, .inr (.inr (.inr (.inr (fun _ => none)))))), (q10, .inr (10, [.ref m_now, .ref m_draft, .ref m_past, .int 0, .ref m_images, .ref m_kept, .ref m_tape, .int 0, .int 0, .int 0, .int 0, .int 0, .int 0, .int 0, .int 0, .ref m_low, .ref m_high, .ref m_first, .ref m_second, .ref m_lines, .ref m_others, .int 0, .int 0, .int 0, .int 0])), (m_now, .inl (k_n, 192, .inl (fun _ => 0))), (m_draft, .inl (k_d, 192, .inl (fun _ => 0))), (m_tape, .inl (k_t, 200, .inl (fun _ => 0))), (m_kept, .inl (k_k, 2, .inl (fun _ => 0)))] H) (hD : va_D (fun q : Nat => s.heap.size ≤ q) [(q9, .inr (9, [.ref a_tape, .ref a_now, .ref a_draft, .ref a_reader, .ref a_acts, .ref a_images, .ref a_one, .ref a_other, .ref a_third, .ref a_spans, .ref a_back, .ref a_span, .ref a_middle, .ref a_reached])), (a_tape, .inr (7, [.ref y_b, .int 0, .int 0])), (y_b, .inl (k_b, 200, .inl (fun _ => 0))), (a_now, .inr (8, [.ref y_sc, .ref y_sp, .ref y_cp, .ref y_sn, .ref y_sl, .int 0, .int 0, .int 0])), (y_cp, .inl (k_c, 32, .inl (fun _ => 0))), (a_reader, .inr (4, [.ref a_tape, .ref a_draft, .int 0, .int 0, .int 0, .int 0, .int 0])), (a_acts, .inr (0, [.ref a_ring, .int 0, .int 0])), (a_images, .inl (k_i, 2, .inr (.inr (.inr (.inr (fun _ => none)))))), (q10, .inr (10, [.ref m_now, .ref m_draft, .ref m_past, .int 0, .ref m_images, .ref m_kept, .ref m_tape, .int 0, .int 0, .int 0, .int 0, .int 0, .int 0, .int 0, .int 0, .ref m_low, .ref m_high, .ref m_first, .ref m_second, .ref m_lines, .ref m_others, .int 0, .int 0, .int 0, .int 0])), (m_now, .inl (k_n, 192, .inl (fun _ => 0))), (m_draft, .inl (k_d, 192, .inl (fun _ => 0))), (m_tape, .inl (k_t, 200, .inl (fun _ => 0))), (m_kept, .inl (k_k, 2, .inl (fun _ => 0)))]) (hS : va_S (fun q : Nat => s.heap.size ≤ q) s.heap H locs) (hl : lv_has ls 4 [(3, .int 0), (2, .ref q10), (1, .ref q9), (0, .ref b)]) : W p l e room_1 (s.setDrawn d0) m #[Value.ref b] below meth c H locs 56 17172 (lw_Z below #[Value.ref b] s) (F0 m 293 ls []) := by
  obtain ⟨hx, hb, hr, hml, hown, hts0, hX, hbl, hlocks, hgv⟩ := id C0
  have hts : ∀ w ∈ w_law, w.before #[Value.ref b] (s.setDrawn d0) = true := fun w h => dr_words hts0 d0 w (w_law_in w h)
  have hown : (s.setDrawn d0).vm.findClass RL = some m.cls := hown
  have hX : va_X b 6 xs (s.setDrawn d0) s.heap := hX
  have hA : ∀ q : Nat, s.heap.size ≤ q → (fun q : Nat => s.heap.size ≤ q) q := fun _ h => h
  have hbA : ¬ (fun q : Nat => s.heap.size ≤ q) b := Nat.not_le.mpr hbl
  refine lv_aload_n hx hb dL_law_293 rfl (lv_at hl 2 rfl) ?_
  refine lv_aload_n hx hb dL_law_294 rfl (lv_at hl 3 rfl) ?_
  refine lv_iload_n hx hb dL_law_295 rfl (lv_at hl 0 rfl) ?_
  refine lv_iconst (v := 1) hx hb dL_law_296 (by decide) ?_
  refine lv_iadd hx hb dL_law_297 ?_
  refine lv_topi (fun x1 ex1 => ?_)
  obtain rfl : x1 = 1 := ex1.trans (by decide)
  refine va_sld (i := 1) hx hb hX hbl hbA hS (vp_in_iff.mpr (by decide)) dL_law_298 ?_
  refine lv_topi (fun x2 ex2 => ?_)
  refine lv_aload_n hx hb dL_law_299 rfl (lv_at hl 3 rfl) ?_
  refine lv_iload_n hx hb dL_law_300 rfl (lv_at hl 0 rfl) ?_
  refine lv_iconst (v := 2) hx hb dL_law_301 (by decide) ?_
  refine lv_iadd hx hb dL_law_302 ?_
  refine lv_topi (fun x3 ex3 => ?_)
  obtain rfl : x3 = 2 := ex3.trans (by decide)
  refine va_sld (i := 2) hx hb hX hbl hbA hS (vp_in_iff.mpr (by decide)) dL_law_303 ?_
  refine lv_topi (fun x4 ex4 => ?_)
  have hPc := hP.sub (ws' := [(q9, .inr (9, [.ref a_tape, .ref a_now, .ref a_draft, .ref a_reader, .ref a_acts, .ref a_images, .ref a_one, .ref a_other, .ref a_third, .ref a_spans, .ref a_back, .ref a_span, .ref a_middle, .ref a_reached])), (a_now, .inr (8, [.ref y_sc, .ref y_sp, .ref y_cp, .ref y_sn, .ref y_sl, .int 0, .int 0, .int 0]))]) [0, 3] rfl
  have hKc := hK.sub (tys' := []) [] rfl
  refine va_calli (va_runV (As := [.int x2, .int x4]) (rest := []) ⟨hx, hb, hml, hown, hts⟩ (c_X9_drop l D q9 x2 x4 a_tape a_now a_draft a_reader a_acts a_images a_one a_other a_third a_spans a_back a_span a_middle a_reached y_sc y_sp y_cp y_sn y_sl) (cwV 2 hts g_law_X9_drop rfl rfl rfl (by decide +kernel) ⟨Nat.le_of_ble_eq_true rfl, Nat.le_of_ble_eq_true rfl⟩) ⟨fun a U g mk q => by obtain ⟨q0, qP, qK⟩ := q; exact ⟨q0, qP, va_K.moved (u := U) (U := U.calling g mk a) (Vm.Alike.refl U.vm) qK⟩, va_recv hKc hPc (ci := 9) (q0 := 0) rfl rfl, fun U hU hW => ⟨rfl, by rw [hU]; exact hPc, va_K.moved hW.alike hKc⟩⟩ rfl rfl hl.1 rfl (lv_room (Nat.le_of_ble_eq_true rfl)) dL_law_304 ⟨Nat.le_of_ble_eq_true rfl, Nat.le_of_ble_eq_true rfl⟩) hS (fun _ _ h => h.elim) (fun _ h => h.elim) (fun r5 u t H1 locs ht hvm hw hB hz1 hk1 hS => ?_)
  have hP := pw_keep hP (fun q hq => hk1 q hq (fun h => h))
  generalize H1 = H at hP hS ⊢
  refine W.widen (k := 56) (n := 17172) (Nat.le_of_ble_eq_true rfl) (Nat.le_of_ble_eq_true rfl) ?_
  obtain rfl : r5 = (-1000001) := hw
  refine lv_aload_n hx hb dL_law_307 rfl (lv_at hl 1 rfl) ?_
  refine lv_aload_n hx hb dL_law_308 rfl (lv_at hl 3 rfl) ?_
  refine lv_iload_n hx hb dL_law_309 rfl (lv_at hl 0 rfl) ?_
  refine lv_iconst (v := 1) hx hb dL_law_310 (by decide) ?_
  refine lv_iadd hx hb dL_law_311 ?_
  refine lv_topi (fun x6 ex6 => ?_)
  obtain rfl : x6 = 1 := ex6.trans (by decide)
  refine va_sld (i := 1) hx hb hX hbl hbA hS (vp_in_iff.mpr (by decide)) dL_law_312 ?_
  refine lv_topi (fun x7 ex7 => ?_)
  refine lv_aload_n hx hb dL_law_313 rfl (lv_at hl 3 rfl) ?_
  refine lv_iload_n hx hb dL_law_314 rfl (lv_at hl 0 rfl) ?_
  refine lv_iconst (v := 2) hx hb dL_law_315 (by decide) ?_
  refine lv_iadd hx hb dL_law_316 ?_
  refine lv_topi (fun x8 ex8 => ?_)
  obtain rfl : x8 = 2 := ex8.trans (by decide)
  refine va_sld (i := 2) hx hb hX hbl hbA hS (vp_in_iff.mpr (by decide)) dL_law_317 ?_
  refine lv_topi (fun x9 ex9 => ?_)
  have hPc := hP.sub (ws' := [(q10, .inr (10, [.ref m_now, .ref m_draft, .ref m_past, .int 0, .ref m_images, .ref m_kept, .ref m_tape, .int 0, .int 0, .int 0, .int 0, .int 0, .int 0, .int 0, .int 0, .ref m_low, .ref m_high, .ref m_first, .ref m_second, .ref m_lines, .ref m_others, .int 0, .int 0, .int 0, .int 0])), (m_now, .inl (k_n, 192, .inl (fun _ => 0)))]) [8, 9] rfl
  have hKc := hK.sub (tys' := [(k_n, .int)]) [3] rfl
  refine va_calli (va_runV (As := [.int x7, .int x9]) (rest := [.int (-1000001)]) ⟨hx, hb, hml, hown, hts⟩ (c_X10_drop l D q10 x7 x9 m_now m_draft m_past m_images m_kept m_tape m_low m_high m_first m_second m_lines m_others k_n) (cwV 2 hts g_law_X10_drop rfl rfl rfl (by decide +kernel) ⟨Nat.le_of_ble_eq_true rfl, Nat.le_of_ble_eq_true rfl⟩) ⟨fun a U g mk q => by obtain ⟨q0, qP, qK⟩ := q; exact ⟨q0, qP, va_K.moved (u := U) (U := U.calling g mk a) (Vm.Alike.refl U.vm) qK⟩, va_recv hKc hPc (ci := 10) (q0 := 0) rfl rfl, fun U hU hW => ⟨rfl, by rw [hU]; exact hPc, va_K.moved hW.alike hKc⟩⟩ rfl rfl hl.1 rfl (lv_room (Nat.le_of_ble_eq_true rfl)) dL_law_318 ⟨Nat.le_of_ble_eq_true rfl, Nat.le_of_ble_eq_true rfl⟩) hS (fun _ _ h => h.elim) (fun _ h => h.elim) (fun r10 u t H1 locs ht hvm hw hB hz1 hk1 hS => ?_)
  have hP := pw_keep hP (fun q hq => hk1 q hq (fun h => h))
  generalize H1 = H at hP hS ⊢
  refine W.widen (k := 56) (n := 17172) (Nat.le_of_ble_eq_true rfl) (Nat.le_of_ble_eq_true rfl) ?_
  obtain rfl : r10 = (-1000001) := hw
  refine lv_icmp_eq (tgt := 1258) hx hb dL_law_321 (by decide) (fun c11 => ?_) (fun c11 => absurd (by decide) c11)
  refine W.widen (k := 56) (n := 17172) (Nat.le_of_ble_eq_true rfl) (Nat.le_of_ble_eq_true rfl) ?_
  exact law_end l hd0 C0 hS (lv_sub hl [0, 3] rfl)
theorem dL_law_326 : decode cL_law 326 = .ok (.aload_n 1, 1) := by decide +kernel
theorem dL_law_327 : decode cL_law 327 = .ok (.aload_n 0, 1) := by decide +kernel
theorem dL_law_328 : decode cL_law 328 = .ok (.iload_n 3, 1) := by decide +kernel
theorem dL_law_329 : decode cL_law 329 = .ok (.iconst 1, 1) := by decide +kernel
theorem dL_law_330 : decode cL_law 330 = .ok (.iadd, 1) := by decide +kernel
theorem dL_law_331 : decode cL_law 331 = .ok (.iaload, 1) := by decide +kernel
theorem dL_law_332 : decode cL_law 332 = .ok (.aload_n 0, 1) := by decide +kernel
theorem dL_law_333 : decode cL_law 333 = .ok (.iload_n 3, 1) := by decide +kernel
theorem dL_law_334 : decode cL_law 334 = .ok (.iconst 2, 1) := by decide +kernel
theorem dL_law_335 : decode cL_law 335 = .ok (.iadd, 1) := by decide +kernel
theorem dL_law_336 : decode cL_law 336 = .ok (.iaload, 1) := by decide +kernel
theorem dL_law_337 : decode cL_law 337 = .ok (.aload_n 0, 1) := by decide +kernel
theorem dL_law_338 : decode cL_law 338 = .ok (.iload_n 3, 1) := by decide +kernel
theorem dL_law_339 : decode cL_law 339 = .ok (.iconst 3, 1) := by decide +kernel
theorem dL_law_340 : decode cL_law 340 = .ok (.iadd, 1) := by decide +kernel
theorem dL_law_341 : decode cL_law 341 = .ok (.iaload, 1) := by decide +kernel
theorem dL_law_342 : decode cL_law 342 = .ok (.aload_n 0, 1) := by decide +kernel
theorem dL_law_343 : decode cL_law 343 = .ok (.iload_n 3, 1) := by decide +kernel
theorem dL_law_344 : decode cL_law 344 = .ok (.iconst 4, 1) := by decide +kernel
theorem dL_law_345 : decode cL_law 345 = .ok (.iadd, 1) := by decide +kernel
theorem dL_law_346 : decode cL_law 346 = .ok (.iaload, 1) := by decide +kernel
theorem dL_law_347 : decode cL_law 347 = .ok (.invokevirtual 41, 3) := by decide +kernel
theorem dL_law_350 : decode cL_law 350 = .ok (.aload_n 2, 1) := by decide +kernel
theorem dL_law_351 : decode cL_law 351 = .ok (.aload_n 0, 1) := by decide +kernel
theorem dL_law_352 : decode cL_law 352 = .ok (.iload_n 3, 1) := by decide +kernel
theorem dL_law_353 : decode cL_law 353 = .ok (.iconst 1, 1) := by decide +kernel
theorem dL_law_354 : decode cL_law 354 = .ok (.iadd, 1) := by decide +kernel
theorem dL_law_355 : decode cL_law 355 = .ok (.iaload, 1) := by decide +kernel
theorem dL_law_356 : decode cL_law 356 = .ok (.aload_n 0, 1) := by decide +kernel
theorem dL_law_357 : decode cL_law 357 = .ok (.iload_n 3, 1) := by decide +kernel
theorem dL_law_358 : decode cL_law 358 = .ok (.iconst 2, 1) := by decide +kernel
theorem dL_law_359 : decode cL_law 359 = .ok (.iadd, 1) := by decide +kernel
theorem dL_law_360 : decode cL_law 360 = .ok (.iaload, 1) := by decide +kernel
theorem dL_law_361 : decode cL_law 361 = .ok (.aload_n 0, 1) := by decide +kernel
theorem dL_law_362 : decode cL_law 362 = .ok (.iload_n 3, 1) := by decide +kernel
theorem dL_law_363 : decode cL_law 363 = .ok (.iconst 3, 1) := by decide +kernel
theorem dL_law_364 : decode cL_law 364 = .ok (.iadd, 1) := by decide +kernel
theorem dL_law_365 : decode cL_law 365 = .ok (.iaload, 1) := by decide +kernel
theorem dL_law_366 : decode cL_law 366 = .ok (.aload_n 0, 1) := by decide +kernel
theorem dL_law_367 : decode cL_law 367 = .ok (.iload_n 3, 1) := by decide +kernel
theorem dL_law_368 : decode cL_law 368 = .ok (.iconst 4, 1) := by decide +kernel
theorem dL_law_369 : decode cL_law 369 = .ok (.iadd, 1) := by decide +kernel
theorem dL_law_370 : decode cL_law 370 = .ok (.iaload, 1) := by decide +kernel
theorem dL_law_371 : decode cL_law 371 = .ok (.invokevirtual 45, 3) := by decide +kernel
theorem dL_law_374 : decode cL_law 374 = .ok (.if_icmp .eq 884, 3) := by decide +kernel
theorem dL_law_377 : decode cL_law 377 = .ok (.iconst 0, 1) := by decide +kernel
theorem dL_law_378 : decode cL_law 378 = .ok (.ireturn, 1) := by decide +kernel
set_option maxHeartbeats 4000000 in
set_option maxRecDepth 100000 in
theorem law_c6 {p : Program} {e : Env} {s : State} {m : MethodId} {below : List Frame} {meth : Method} {c : Code} (l : Launch) {b : Nat} {xs : Nat → Int32} {d0 : Drawn} (hd0 : s.drawn.sameBut d0 lw_cs) (C0 : lw_At p s m meth c b 6 xs) (D : va_G) (q9 : Nat) (q10 : Nat) (a_tape : Nat) (a_now : Nat) (a_draft : Nat) (a_reader : Nat) (a_acts : Nat) (a_images : Nat) (a_one : Nat) (a_other : Nat) (a_third : Nat) (a_spans : Nat) (a_back : Nat) (a_span : Nat) (a_middle : Nat) (a_reached : Nat) (y_b : Nat) (y_sc : Nat) (y_sp : Nat) (y_cp : Nat) (y_sn : Nat) (y_sl : Nat) (a_ring : Nat) (k_b : ClassId) (k_c : ClassId) (k_i : ClassId) (m_now : Nat) (m_draft : Nat) (m_past : Nat) (m_images : Nat) (m_kept : Nat) (m_tape : Nat) (m_low : Nat) (m_high : Nat) (m_first : Nat) (m_second : Nat) (m_lines : Nat) (m_others : Nat) (k_n : ClassId) (k_d : ClassId) (k_t : ClassId) (k_k : ClassId) {H : Heap} {locs : List Loc} {ls : Array Slot} (hK : va_K D vwCl [(k_b, .byte), (k_c, .int), (k_i, .object RX1), (k_n, .int), (k_d, .int), (k_t, .int), (k_k, .boolean)] (s.setDrawn d0)) (hP : va_P D vwCl [(q9, .inr (9, [.ref a_tape, .ref a_now, .ref a_draft, .ref a_reader, .ref a_acts, .ref a_images, .ref a_one, .ref a_other, .ref a_third, .ref a_spans, .ref a_back, .ref a_span, .ref a_middle, .ref a_reached])), (a_tape, .inr (7, [.ref y_b, .int 0, .int 0])), (y_b, .inl (k_b, 200, .inl (fun _ => 0))), (a_now, .inr (8, [.ref y_sc, .ref y_sp, .ref y_cp, .ref y_sn, .ref y_sl, .int 0, .int 0, .int 0])), (y_cp, .inl (k_c, 32, .inl (fun _ => 0))), (a_reader, .inr (4, [.ref a_tape, .ref a_draft, .int 0, .int 0, .int 0, .int 0, .int 0])), (a_acts, .inr (0, [.ref a_ring, .int 0, .int 0])), (a_images, .inl (k_i, 2, .inr (.inr (.inr (.inr (fun _ => none)))))), (q10, .inr (10, [.ref m_now, .ref m_draft, .ref m_past, .int 0, .ref m_images, .ref m_kept, .ref m_tape, .int 0, .int 0, .int 0, .int 0, .int 0, .int 0, .int 0, .int 0, .ref m_low, .ref m_high, .ref m_first, .ref m_second, .ref m_lines, .ref m_others, .int 0, .int 0, .int 0, .int 0])), (m_now, .inl (k_n, 192, .inl (fun _ => 0))), (m_draft, .inl (k_d, 192, .inl (fun _ => 0))), (m_tape, .inl (k_t, 200, .inl (fun _ => 0))), (m_kept, .inl (k_k, 2, .inl (fun _ => 0)))] H) (hD : va_D (fun q : Nat => s.heap.size ≤ q) [(q9, .inr (9, [.ref a_tape, .ref a_now, .ref a_draft, .ref a_reader, .ref a_acts, .ref a_images, .ref a_one, .ref a_other, .ref a_third, .ref a_spans, .ref a_back, .ref a_span, .ref a_middle, .ref a_reached])), (a_tape, .inr (7, [.ref y_b, .int 0, .int 0])), (y_b, .inl (k_b, 200, .inl (fun _ => 0))), (a_now, .inr (8, [.ref y_sc, .ref y_sp, .ref y_cp, .ref y_sn, .ref y_sl, .int 0, .int 0, .int 0])), (y_cp, .inl (k_c, 32, .inl (fun _ => 0))), (a_reader, .inr (4, [.ref a_tape, .ref a_draft, .int 0, .int 0, .int 0, .int 0, .int 0])), (a_acts, .inr (0, [.ref a_ring, .int 0, .int 0])), (a_images, .inl (k_i, 2, .inr (.inr (.inr (.inr (fun _ => none)))))), (q10, .inr (10, [.ref m_now, .ref m_draft, .ref m_past, .int 0, .ref m_images, .ref m_kept, .ref m_tape, .int 0, .int 0, .int 0, .int 0, .int 0, .int 0, .int 0, .int 0, .ref m_low, .ref m_high, .ref m_first, .ref m_second, .ref m_lines, .ref m_others, .int 0, .int 0, .int 0, .int 0])), (m_now, .inl (k_n, 192, .inl (fun _ => 0))), (m_draft, .inl (k_d, 192, .inl (fun _ => 0))), (m_tape, .inl (k_t, 200, .inl (fun _ => 0))), (m_kept, .inl (k_k, 2, .inl (fun _ => 0)))]) (hS : va_S (fun q : Nat => s.heap.size ≤ q) s.heap H locs) (hl : lv_has ls 4 [(3, .int 0), (2, .ref q10), (1, .ref q9), (0, .ref b)]) : W p l e room_1 (s.setDrawn d0) m #[Value.ref b] below meth c H locs 56 17172 (lw_Z below #[Value.ref b] s) (F0 m 326 ls []) := by
  obtain ⟨hx, hb, hr, hml, hown, hts0, hX, hbl, hlocks, hgv⟩ := id C0
  have hts : ∀ w ∈ w_law, w.before #[Value.ref b] (s.setDrawn d0) = true := fun w h => dr_words hts0 d0 w (w_law_in w h)
  have hown : (s.setDrawn d0).vm.findClass RL = some m.cls := hown
  have hX : va_X b 6 xs (s.setDrawn d0) s.heap := hX
  have hA : ∀ q : Nat, s.heap.size ≤ q → (fun q : Nat => s.heap.size ≤ q) q := fun _ h => h
  have hbA : ¬ (fun q : Nat => s.heap.size ≤ q) b := Nat.not_le.mpr hbl
  refine lv_aload_n hx hb dL_law_326 rfl (lv_at hl 2 rfl) ?_
  refine lv_aload_n hx hb dL_law_327 rfl (lv_at hl 3 rfl) ?_
  refine lv_iload_n hx hb dL_law_328 rfl (lv_at hl 0 rfl) ?_
  refine lv_iconst (v := 1) hx hb dL_law_329 (by decide) ?_
  refine lv_iadd hx hb dL_law_330 ?_
  refine lv_topi (fun x1 ex1 => ?_)
  obtain rfl : x1 = 1 := ex1.trans (by decide)
  refine va_sld (i := 1) hx hb hX hbl hbA hS (vp_in_iff.mpr (by decide)) dL_law_331 ?_
  refine lv_topi (fun x2 ex2 => ?_)
  refine lv_aload_n hx hb dL_law_332 rfl (lv_at hl 3 rfl) ?_
  refine lv_iload_n hx hb dL_law_333 rfl (lv_at hl 0 rfl) ?_
  refine lv_iconst (v := 2) hx hb dL_law_334 (by decide) ?_
  refine lv_iadd hx hb dL_law_335 ?_
  refine lv_topi (fun x3 ex3 => ?_)
  obtain rfl : x3 = 2 := ex3.trans (by decide)
  refine va_sld (i := 2) hx hb hX hbl hbA hS (vp_in_iff.mpr (by decide)) dL_law_336 ?_
  refine lv_topi (fun x4 ex4 => ?_)
  refine lv_aload_n hx hb dL_law_337 rfl (lv_at hl 3 rfl) ?_
  refine lv_iload_n hx hb dL_law_338 rfl (lv_at hl 0 rfl) ?_
  refine lv_iconst (v := 3) hx hb dL_law_339 (by decide) ?_
  refine lv_iadd hx hb dL_law_340 ?_
  refine lv_topi (fun x5 ex5 => ?_)
  obtain rfl : x5 = 3 := ex5.trans (by decide)
  refine va_sld (i := 3) hx hb hX hbl hbA hS (vp_in_iff.mpr (by decide)) dL_law_341 ?_
  refine lv_topi (fun x6 ex6 => ?_)
  refine lv_aload_n hx hb dL_law_342 rfl (lv_at hl 3 rfl) ?_
  refine lv_iload_n hx hb dL_law_343 rfl (lv_at hl 0 rfl) ?_
  refine lv_iconst (v := 4) hx hb dL_law_344 (by decide) ?_
  refine lv_iadd hx hb dL_law_345 ?_
  refine lv_topi (fun x7 ex7 => ?_)
  obtain rfl : x7 = 4 := ex7.trans (by decide)
  refine va_sld (i := 4) hx hb hX hbl hbA hS (vp_in_iff.mpr (by decide)) dL_law_346 ?_
  refine lv_topi (fun x8 ex8 => ?_)
  have hPc := hP.sub (ws' := [(q9, .inr (9, [.ref a_tape, .ref a_now, .ref a_draft, .ref a_reader, .ref a_acts, .ref a_images, .ref a_one, .ref a_other, .ref a_third, .ref a_spans, .ref a_back, .ref a_span, .ref a_middle, .ref a_reached])), (a_now, .inr (8, [.ref y_sc, .ref y_sp, .ref y_cp, .ref y_sn, .ref y_sl, .int 0, .int 0, .int 0]))]) [0, 3] rfl
  have hKc := hK.sub (tys' := []) [] rfl
  refine va_calli (va_runV (As := [.int x2, .int x4, .int x6, .int x8]) (rest := []) ⟨hx, hb, hml, hown, hts⟩ (c_X9_alter l D q9 x2 x4 x6 x8 a_tape a_now a_draft a_reader a_acts a_images a_one a_other a_third a_spans a_back a_span a_middle a_reached y_sc y_sp y_cp y_sn y_sl) (cwV 4 hts g_law_X9_alter rfl rfl rfl (by decide +kernel) ⟨Nat.le_of_ble_eq_true rfl, Nat.le_of_ble_eq_true rfl⟩) ⟨fun a U g mk q => by obtain ⟨q0, qP, qK⟩ := q; exact ⟨q0, qP, va_K.moved (u := U) (U := U.calling g mk a) (Vm.Alike.refl U.vm) qK⟩, va_recv hKc hPc (ci := 9) (q0 := 0) rfl rfl, fun U hU hW => ⟨rfl, by rw [hU]; exact hPc, va_K.moved hW.alike hKc⟩⟩ rfl rfl hl.1 rfl (lv_room (Nat.le_of_ble_eq_true rfl)) dL_law_347 ⟨Nat.le_of_ble_eq_true rfl, Nat.le_of_ble_eq_true rfl⟩) hS (fun _ _ h => h.elim) (fun _ h => h.elim) (fun r9 u t H1 locs ht hvm hw hB hz1 hk1 hS => ?_)
  have hP := pw_keep hP (fun q hq => hk1 q hq (fun h => h))
  generalize H1 = H at hP hS ⊢
  refine W.widen (k := 56) (n := 17172) (Nat.le_of_ble_eq_true rfl) (Nat.le_of_ble_eq_true rfl) ?_
  obtain rfl : r9 = (-1000001) := hw
  refine lv_aload_n hx hb dL_law_350 rfl (lv_at hl 1 rfl) ?_
  refine lv_aload_n hx hb dL_law_351 rfl (lv_at hl 3 rfl) ?_
  refine lv_iload_n hx hb dL_law_352 rfl (lv_at hl 0 rfl) ?_
  refine lv_iconst (v := 1) hx hb dL_law_353 (by decide) ?_
  refine lv_iadd hx hb dL_law_354 ?_
  refine lv_topi (fun x10 ex10 => ?_)
  obtain rfl : x10 = 1 := ex10.trans (by decide)
  refine va_sld (i := 1) hx hb hX hbl hbA hS (vp_in_iff.mpr (by decide)) dL_law_355 ?_
  refine lv_topi (fun x11 ex11 => ?_)
  refine lv_aload_n hx hb dL_law_356 rfl (lv_at hl 3 rfl) ?_
  refine lv_iload_n hx hb dL_law_357 rfl (lv_at hl 0 rfl) ?_
  refine lv_iconst (v := 2) hx hb dL_law_358 (by decide) ?_
  refine lv_iadd hx hb dL_law_359 ?_
  refine lv_topi (fun x12 ex12 => ?_)
  obtain rfl : x12 = 2 := ex12.trans (by decide)
  refine va_sld (i := 2) hx hb hX hbl hbA hS (vp_in_iff.mpr (by decide)) dL_law_360 ?_
  refine lv_topi (fun x13 ex13 => ?_)
  refine lv_aload_n hx hb dL_law_361 rfl (lv_at hl 3 rfl) ?_
  refine lv_iload_n hx hb dL_law_362 rfl (lv_at hl 0 rfl) ?_
  refine lv_iconst (v := 3) hx hb dL_law_363 (by decide) ?_
  refine lv_iadd hx hb dL_law_364 ?_
  refine lv_topi (fun x14 ex14 => ?_)
  obtain rfl : x14 = 3 := ex14.trans (by decide)
  refine va_sld (i := 3) hx hb hX hbl hbA hS (vp_in_iff.mpr (by decide)) dL_law_365 ?_
  refine lv_topi (fun x15 ex15 => ?_)
  refine lv_aload_n hx hb dL_law_366 rfl (lv_at hl 3 rfl) ?_
  refine lv_iload_n hx hb dL_law_367 rfl (lv_at hl 0 rfl) ?_
  refine lv_iconst (v := 4) hx hb dL_law_368 (by decide) ?_
  refine lv_iadd hx hb dL_law_369 ?_
  refine lv_topi (fun x16 ex16 => ?_)
  obtain rfl : x16 = 4 := ex16.trans (by decide)
  refine va_sld (i := 4) hx hb hX hbl hbA hS (vp_in_iff.mpr (by decide)) dL_law_370 ?_
  refine lv_topi (fun x17 ex17 => ?_)
  have hPc := hP.sub (ws' := [(q10, .inr (10, [.ref m_now, .ref m_draft, .ref m_past, .int 0, .ref m_images, .ref m_kept, .ref m_tape, .int 0, .int 0, .int 0, .int 0, .int 0, .int 0, .int 0, .int 0, .ref m_low, .ref m_high, .ref m_first, .ref m_second, .ref m_lines, .ref m_others, .int 0, .int 0, .int 0, .int 0])), (m_now, .inl (k_n, 192, .inl (fun _ => 0)))]) [8, 9] rfl
  have hKc := hK.sub (tys' := [(k_n, .int)]) [3] rfl
  refine va_calli (va_runV (As := [.int x11, .int x13, .int x15, .int x17]) (rest := [.int (-1000001)]) ⟨hx, hb, hml, hown, hts⟩ (c_X10_alter l D q10 x11 x13 x15 x17 m_now m_draft m_past m_images m_kept m_tape m_low m_high m_first m_second m_lines m_others k_n) (cwV 4 hts g_law_X10_alter rfl rfl rfl (by decide +kernel) ⟨Nat.le_of_ble_eq_true rfl, Nat.le_of_ble_eq_true rfl⟩) ⟨fun a U g mk q => by obtain ⟨q0, qP, qK⟩ := q; exact ⟨q0, qP, va_K.moved (u := U) (U := U.calling g mk a) (Vm.Alike.refl U.vm) qK⟩, va_recv hKc hPc (ci := 10) (q0 := 0) rfl rfl, fun U hU hW => ⟨rfl, by rw [hU]; exact hPc, va_K.moved hW.alike hKc⟩⟩ rfl rfl hl.1 rfl (lv_room (Nat.le_of_ble_eq_true rfl)) dL_law_371 ⟨Nat.le_of_ble_eq_true rfl, Nat.le_of_ble_eq_true rfl⟩) hS (fun _ _ h => h.elim) (fun _ h => h.elim) (fun r18 u t H1 locs ht hvm hw hB hz1 hk1 hS => ?_)
  have hP := pw_keep hP (fun q hq => hk1 q hq (fun h => h))
  generalize H1 = H at hP hS ⊢
  refine W.widen (k := 56) (n := 17172) (Nat.le_of_ble_eq_true rfl) (Nat.le_of_ble_eq_true rfl) ?_
  obtain rfl : r18 = (-1000001) := hw
  refine lv_icmp_eq (tgt := 1258) hx hb dL_law_374 (by decide) (fun c19 => ?_) (fun c19 => absurd (by decide) c19)
  refine W.widen (k := 56) (n := 17172) (Nat.le_of_ble_eq_true rfl) (Nat.le_of_ble_eq_true rfl) ?_
  exact law_end l hd0 C0 hS (lv_sub hl [0, 3] rfl)
theorem dL_law_379 : decode cL_law 379 = .ok (.aload_n 1, 1) := by decide +kernel
theorem dL_law_380 : decode cL_law 380 = .ok (.aload_n 0, 1) := by decide +kernel
theorem dL_law_381 : decode cL_law 381 = .ok (.iload_n 3, 1) := by decide +kernel
theorem dL_law_382 : decode cL_law 382 = .ok (.iconst 1, 1) := by decide +kernel
theorem dL_law_383 : decode cL_law 383 = .ok (.iadd, 1) := by decide +kernel
theorem dL_law_384 : decode cL_law 384 = .ok (.iaload, 1) := by decide +kernel
theorem dL_law_385 : decode cL_law 385 = .ok (.aload_n 0, 1) := by decide +kernel
theorem dL_law_386 : decode cL_law 386 = .ok (.iload_n 3, 1) := by decide +kernel
theorem dL_law_387 : decode cL_law 387 = .ok (.iconst 2, 1) := by decide +kernel
theorem dL_law_388 : decode cL_law 388 = .ok (.iadd, 1) := by decide +kernel
theorem dL_law_389 : decode cL_law 389 = .ok (.iaload, 1) := by decide +kernel
theorem dL_law_390 : decode cL_law 390 = .ok (.aload_n 0, 1) := by decide +kernel
theorem dL_law_391 : decode cL_law 391 = .ok (.iload_n 3, 1) := by decide +kernel
theorem dL_law_392 : decode cL_law 392 = .ok (.iconst 3, 1) := by decide +kernel
theorem dL_law_393 : decode cL_law 393 = .ok (.iadd, 1) := by decide +kernel
theorem dL_law_394 : decode cL_law 394 = .ok (.iaload, 1) := by decide +kernel
theorem dL_law_395 : decode cL_law 395 = .ok (.aload_n 0, 1) := by decide +kernel
theorem dL_law_396 : decode cL_law 396 = .ok (.iload_n 3, 1) := by decide +kernel
theorem dL_law_397 : decode cL_law 397 = .ok (.iconst 4, 1) := by decide +kernel
theorem dL_law_398 : decode cL_law 398 = .ok (.iadd, 1) := by decide +kernel
theorem dL_law_399 : decode cL_law 399 = .ok (.iaload, 1) := by decide +kernel
theorem dL_law_400 : decode cL_law 400 = .ok (.aload_n 0, 1) := by decide +kernel
theorem dL_law_401 : decode cL_law 401 = .ok (.iload_n 3, 1) := by decide +kernel
theorem dL_law_402 : decode cL_law 402 = .ok (.iconst 5, 1) := by decide +kernel
theorem dL_law_403 : decode cL_law 403 = .ok (.iadd, 1) := by decide +kernel
theorem dL_law_404 : decode cL_law 404 = .ok (.iaload, 1) := by decide +kernel
theorem dL_law_405 : decode cL_law 405 = .ok (.invokevirtual 46, 3) := by decide +kernel
theorem dL_law_408 : decode cL_law 408 = .ok (.aload_n 2, 1) := by decide +kernel
theorem dL_law_409 : decode cL_law 409 = .ok (.aload_n 0, 1) := by decide +kernel
theorem dL_law_410 : decode cL_law 410 = .ok (.iload_n 3, 1) := by decide +kernel
theorem dL_law_411 : decode cL_law 411 = .ok (.iconst 1, 1) := by decide +kernel
theorem dL_law_412 : decode cL_law 412 = .ok (.iadd, 1) := by decide +kernel
theorem dL_law_413 : decode cL_law 413 = .ok (.iaload, 1) := by decide +kernel
theorem dL_law_414 : decode cL_law 414 = .ok (.aload_n 0, 1) := by decide +kernel
theorem dL_law_415 : decode cL_law 415 = .ok (.iload_n 3, 1) := by decide +kernel
theorem dL_law_416 : decode cL_law 416 = .ok (.iconst 2, 1) := by decide +kernel
theorem dL_law_417 : decode cL_law 417 = .ok (.iadd, 1) := by decide +kernel
theorem dL_law_418 : decode cL_law 418 = .ok (.iaload, 1) := by decide +kernel
theorem dL_law_419 : decode cL_law 419 = .ok (.aload_n 0, 1) := by decide +kernel
theorem dL_law_420 : decode cL_law 420 = .ok (.iload_n 3, 1) := by decide +kernel
theorem dL_law_421 : decode cL_law 421 = .ok (.iconst 3, 1) := by decide +kernel
theorem dL_law_422 : decode cL_law 422 = .ok (.iadd, 1) := by decide +kernel
theorem dL_law_423 : decode cL_law 423 = .ok (.iaload, 1) := by decide +kernel
theorem dL_law_424 : decode cL_law 424 = .ok (.aload_n 0, 1) := by decide +kernel
theorem dL_law_425 : decode cL_law 425 = .ok (.iload_n 3, 1) := by decide +kernel
theorem dL_law_426 : decode cL_law 426 = .ok (.iconst 4, 1) := by decide +kernel
theorem dL_law_427 : decode cL_law 427 = .ok (.iadd, 1) := by decide +kernel
theorem dL_law_428 : decode cL_law 428 = .ok (.iaload, 1) := by decide +kernel
theorem dL_law_429 : decode cL_law 429 = .ok (.aload_n 0, 1) := by decide +kernel
theorem dL_law_430 : decode cL_law 430 = .ok (.iload_n 3, 1) := by decide +kernel
theorem dL_law_431 : decode cL_law 431 = .ok (.iconst 5, 1) := by decide +kernel
theorem dL_law_432 : decode cL_law 432 = .ok (.iadd, 1) := by decide +kernel
theorem dL_law_433 : decode cL_law 433 = .ok (.iaload, 1) := by decide +kernel
theorem dL_law_434 : decode cL_law 434 = .ok (.invokevirtual 49, 3) := by decide +kernel
theorem dL_law_437 : decode cL_law 437 = .ok (.if_icmp .eq 821, 3) := by decide +kernel
theorem dL_law_440 : decode cL_law 440 = .ok (.iconst 0, 1) := by decide +kernel
theorem dL_law_441 : decode cL_law 441 = .ok (.ireturn, 1) := by decide +kernel
set_option maxHeartbeats 4000000 in
set_option maxRecDepth 100000 in
theorem law_c7 {p : Program} {e : Env} {s : State} {m : MethodId} {below : List Frame} {meth : Method} {c : Code} (l : Launch) {b : Nat} {xs : Nat → Int32} {d0 : Drawn} (hd0 : s.drawn.sameBut d0 lw_cs) (C0 : lw_At p s m meth c b 6 xs) (D : va_G) (q9 : Nat) (q10 : Nat) (a_tape : Nat) (a_now : Nat) (a_draft : Nat) (a_reader : Nat) (a_acts : Nat) (a_images : Nat) (a_one : Nat) (a_other : Nat) (a_third : Nat) (a_spans : Nat) (a_back : Nat) (a_span : Nat) (a_middle : Nat) (a_reached : Nat) (y_b : Nat) (y_sc : Nat) (y_sp : Nat) (y_cp : Nat) (y_sn : Nat) (y_sl : Nat) (a_ring : Nat) (k_b : ClassId) (k_c : ClassId) (k_i : ClassId) (m_now : Nat) (m_draft : Nat) (m_past : Nat) (m_images : Nat) (m_kept : Nat) (m_tape : Nat) (m_low : Nat) (m_high : Nat) (m_first : Nat) (m_second : Nat) (m_lines : Nat) (m_others : Nat) (k_n : ClassId) (k_d : ClassId) (k_t : ClassId) (k_k : ClassId) {H : Heap} {locs : List Loc} {ls : Array Slot} (hK : va_K D vwCl [(k_b, .byte), (k_c, .int), (k_i, .object RX1), (k_n, .int), (k_d, .int), (k_t, .int), (k_k, .boolean)] (s.setDrawn d0)) (hP : va_P D vwCl [(q9, .inr (9, [.ref a_tape, .ref a_now, .ref a_draft, .ref a_reader, .ref a_acts, .ref a_images, .ref a_one, .ref a_other, .ref a_third, .ref a_spans, .ref a_back, .ref a_span, .ref a_middle, .ref a_reached])), (a_tape, .inr (7, [.ref y_b, .int 0, .int 0])), (y_b, .inl (k_b, 200, .inl (fun _ => 0))), (a_now, .inr (8, [.ref y_sc, .ref y_sp, .ref y_cp, .ref y_sn, .ref y_sl, .int 0, .int 0, .int 0])), (y_cp, .inl (k_c, 32, .inl (fun _ => 0))), (a_reader, .inr (4, [.ref a_tape, .ref a_draft, .int 0, .int 0, .int 0, .int 0, .int 0])), (a_acts, .inr (0, [.ref a_ring, .int 0, .int 0])), (a_images, .inl (k_i, 2, .inr (.inr (.inr (.inr (fun _ => none)))))), (q10, .inr (10, [.ref m_now, .ref m_draft, .ref m_past, .int 0, .ref m_images, .ref m_kept, .ref m_tape, .int 0, .int 0, .int 0, .int 0, .int 0, .int 0, .int 0, .int 0, .ref m_low, .ref m_high, .ref m_first, .ref m_second, .ref m_lines, .ref m_others, .int 0, .int 0, .int 0, .int 0])), (m_now, .inl (k_n, 192, .inl (fun _ => 0))), (m_draft, .inl (k_d, 192, .inl (fun _ => 0))), (m_tape, .inl (k_t, 200, .inl (fun _ => 0))), (m_kept, .inl (k_k, 2, .inl (fun _ => 0)))] H) (hD : va_D (fun q : Nat => s.heap.size ≤ q) [(q9, .inr (9, [.ref a_tape, .ref a_now, .ref a_draft, .ref a_reader, .ref a_acts, .ref a_images, .ref a_one, .ref a_other, .ref a_third, .ref a_spans, .ref a_back, .ref a_span, .ref a_middle, .ref a_reached])), (a_tape, .inr (7, [.ref y_b, .int 0, .int 0])), (y_b, .inl (k_b, 200, .inl (fun _ => 0))), (a_now, .inr (8, [.ref y_sc, .ref y_sp, .ref y_cp, .ref y_sn, .ref y_sl, .int 0, .int 0, .int 0])), (y_cp, .inl (k_c, 32, .inl (fun _ => 0))), (a_reader, .inr (4, [.ref a_tape, .ref a_draft, .int 0, .int 0, .int 0, .int 0, .int 0])), (a_acts, .inr (0, [.ref a_ring, .int 0, .int 0])), (a_images, .inl (k_i, 2, .inr (.inr (.inr (.inr (fun _ => none)))))), (q10, .inr (10, [.ref m_now, .ref m_draft, .ref m_past, .int 0, .ref m_images, .ref m_kept, .ref m_tape, .int 0, .int 0, .int 0, .int 0, .int 0, .int 0, .int 0, .int 0, .ref m_low, .ref m_high, .ref m_first, .ref m_second, .ref m_lines, .ref m_others, .int 0, .int 0, .int 0, .int 0])), (m_now, .inl (k_n, 192, .inl (fun _ => 0))), (m_draft, .inl (k_d, 192, .inl (fun _ => 0))), (m_tape, .inl (k_t, 200, .inl (fun _ => 0))), (m_kept, .inl (k_k, 2, .inl (fun _ => 0)))]) (hS : va_S (fun q : Nat => s.heap.size ≤ q) s.heap H locs) (hl : lv_has ls 4 [(3, .int 0), (2, .ref q10), (1, .ref q9), (0, .ref b)]) : W p l e room_1 (s.setDrawn d0) m #[Value.ref b] below meth c H locs 56 17172 (lw_Z below #[Value.ref b] s) (F0 m 379 ls []) := by
  obtain ⟨hx, hb, hr, hml, hown, hts0, hX, hbl, hlocks, hgv⟩ := id C0
  have hts : ∀ w ∈ w_law, w.before #[Value.ref b] (s.setDrawn d0) = true := fun w h => dr_words hts0 d0 w (w_law_in w h)
  have hown : (s.setDrawn d0).vm.findClass RL = some m.cls := hown
  have hX : va_X b 6 xs (s.setDrawn d0) s.heap := hX
  have hA : ∀ q : Nat, s.heap.size ≤ q → (fun q : Nat => s.heap.size ≤ q) q := fun _ h => h
  have hbA : ¬ (fun q : Nat => s.heap.size ≤ q) b := Nat.not_le.mpr hbl
  refine lv_aload_n hx hb dL_law_379 rfl (lv_at hl 2 rfl) ?_
  refine lv_aload_n hx hb dL_law_380 rfl (lv_at hl 3 rfl) ?_
  refine lv_iload_n hx hb dL_law_381 rfl (lv_at hl 0 rfl) ?_
  refine lv_iconst (v := 1) hx hb dL_law_382 (by decide) ?_
  refine lv_iadd hx hb dL_law_383 ?_
  refine lv_topi (fun x1 ex1 => ?_)
  obtain rfl : x1 = 1 := ex1.trans (by decide)
  refine va_sld (i := 1) hx hb hX hbl hbA hS (vp_in_iff.mpr (by decide)) dL_law_384 ?_
  refine lv_topi (fun x2 ex2 => ?_)
  refine lv_aload_n hx hb dL_law_385 rfl (lv_at hl 3 rfl) ?_
  refine lv_iload_n hx hb dL_law_386 rfl (lv_at hl 0 rfl) ?_
  refine lv_iconst (v := 2) hx hb dL_law_387 (by decide) ?_
  refine lv_iadd hx hb dL_law_388 ?_
  refine lv_topi (fun x3 ex3 => ?_)
  obtain rfl : x3 = 2 := ex3.trans (by decide)
  refine va_sld (i := 2) hx hb hX hbl hbA hS (vp_in_iff.mpr (by decide)) dL_law_389 ?_
  refine lv_topi (fun x4 ex4 => ?_)
  refine lv_aload_n hx hb dL_law_390 rfl (lv_at hl 3 rfl) ?_
  refine lv_iload_n hx hb dL_law_391 rfl (lv_at hl 0 rfl) ?_
  refine lv_iconst (v := 3) hx hb dL_law_392 (by decide) ?_
  refine lv_iadd hx hb dL_law_393 ?_
  refine lv_topi (fun x5 ex5 => ?_)
  obtain rfl : x5 = 3 := ex5.trans (by decide)
  refine va_sld (i := 3) hx hb hX hbl hbA hS (vp_in_iff.mpr (by decide)) dL_law_394 ?_
  refine lv_topi (fun x6 ex6 => ?_)
  refine lv_aload_n hx hb dL_law_395 rfl (lv_at hl 3 rfl) ?_
  refine lv_iload_n hx hb dL_law_396 rfl (lv_at hl 0 rfl) ?_
  refine lv_iconst (v := 4) hx hb dL_law_397 (by decide) ?_
  refine lv_iadd hx hb dL_law_398 ?_
  refine lv_topi (fun x7 ex7 => ?_)
  obtain rfl : x7 = 4 := ex7.trans (by decide)
  refine va_sld (i := 4) hx hb hX hbl hbA hS (vp_in_iff.mpr (by decide)) dL_law_399 ?_
  refine lv_topi (fun x8 ex8 => ?_)
  refine lv_aload_n hx hb dL_law_400 rfl (lv_at hl 3 rfl) ?_
  refine lv_iload_n hx hb dL_law_401 rfl (lv_at hl 0 rfl) ?_
  refine lv_iconst (v := 5) hx hb dL_law_402 (by decide) ?_
  refine lv_iadd hx hb dL_law_403 ?_
  refine lv_topi (fun x9 ex9 => ?_)
  obtain rfl : x9 = 5 := ex9.trans (by decide)
  refine va_sld (i := 5) hx hb hX hbl hbA hS (vp_in_iff.mpr (by decide)) dL_law_404 ?_
  refine lv_topi (fun x10 ex10 => ?_)
  have hPc := hP.sub (ws' := [(q9, .inr (9, [.ref a_tape, .ref a_now, .ref a_draft, .ref a_reader, .ref a_acts, .ref a_images, .ref a_one, .ref a_other, .ref a_third, .ref a_spans, .ref a_back, .ref a_span, .ref a_middle, .ref a_reached])), (a_now, .inr (8, [.ref y_sc, .ref y_sp, .ref y_cp, .ref y_sn, .ref y_sl, .int 0, .int 0, .int 0]))]) [0, 3] rfl
  have hKc := hK.sub (tys' := []) [] rfl
  refine va_calli (va_runV (As := [.int x2, .int x4, .int x6, .int x8, .int x10]) (rest := []) ⟨hx, hb, hml, hown, hts⟩ (c_X9_cite l D q9 x2 x4 x6 x8 x10 a_tape a_now a_draft a_reader a_acts a_images a_one a_other a_third a_spans a_back a_span a_middle a_reached y_sc y_sp y_cp y_sn y_sl) (cwV 5 hts g_law_X9_cite rfl rfl rfl (by decide +kernel) ⟨Nat.le_of_ble_eq_true rfl, Nat.le_of_ble_eq_true rfl⟩) ⟨fun a U g mk q => by obtain ⟨q0, qP, qK⟩ := q; exact ⟨q0, qP, va_K.moved (u := U) (U := U.calling g mk a) (Vm.Alike.refl U.vm) qK⟩, va_recv hKc hPc (ci := 9) (q0 := 0) rfl rfl, fun U hU hW => ⟨rfl, by rw [hU]; exact hPc, va_K.moved hW.alike hKc⟩⟩ rfl rfl hl.1 rfl (lv_room (Nat.le_of_ble_eq_true rfl)) dL_law_405 ⟨Nat.le_of_ble_eq_true rfl, Nat.le_of_ble_eq_true rfl⟩) hS (fun _ _ h => h.elim) (fun _ h => h.elim) (fun r11 u t H1 locs ht hvm hw hB hz1 hk1 hS => ?_)
  have hP := pw_keep hP (fun q hq => hk1 q hq (fun h => h))
  generalize H1 = H at hP hS ⊢
  refine W.widen (k := 56) (n := 17172) (Nat.le_of_ble_eq_true rfl) (Nat.le_of_ble_eq_true rfl) ?_
  obtain rfl : r11 = (-1000001) := hw
  refine lv_aload_n hx hb dL_law_408 rfl (lv_at hl 1 rfl) ?_
  refine lv_aload_n hx hb dL_law_409 rfl (lv_at hl 3 rfl) ?_
  refine lv_iload_n hx hb dL_law_410 rfl (lv_at hl 0 rfl) ?_
  refine lv_iconst (v := 1) hx hb dL_law_411 (by decide) ?_
  refine lv_iadd hx hb dL_law_412 ?_
  refine lv_topi (fun x12 ex12 => ?_)
  obtain rfl : x12 = 1 := ex12.trans (by decide)
  refine va_sld (i := 1) hx hb hX hbl hbA hS (vp_in_iff.mpr (by decide)) dL_law_413 ?_
  refine lv_topi (fun x13 ex13 => ?_)
  refine lv_aload_n hx hb dL_law_414 rfl (lv_at hl 3 rfl) ?_
  refine lv_iload_n hx hb dL_law_415 rfl (lv_at hl 0 rfl) ?_
  refine lv_iconst (v := 2) hx hb dL_law_416 (by decide) ?_
  refine lv_iadd hx hb dL_law_417 ?_
  refine lv_topi (fun x14 ex14 => ?_)
  obtain rfl : x14 = 2 := ex14.trans (by decide)
  refine va_sld (i := 2) hx hb hX hbl hbA hS (vp_in_iff.mpr (by decide)) dL_law_418 ?_
  refine lv_topi (fun x15 ex15 => ?_)
  refine lv_aload_n hx hb dL_law_419 rfl (lv_at hl 3 rfl) ?_
  refine lv_iload_n hx hb dL_law_420 rfl (lv_at hl 0 rfl) ?_
  refine lv_iconst (v := 3) hx hb dL_law_421 (by decide) ?_
  refine lv_iadd hx hb dL_law_422 ?_
  refine lv_topi (fun x16 ex16 => ?_)
  obtain rfl : x16 = 3 := ex16.trans (by decide)
  refine va_sld (i := 3) hx hb hX hbl hbA hS (vp_in_iff.mpr (by decide)) dL_law_423 ?_
  refine lv_topi (fun x17 ex17 => ?_)
  refine lv_aload_n hx hb dL_law_424 rfl (lv_at hl 3 rfl) ?_
  refine lv_iload_n hx hb dL_law_425 rfl (lv_at hl 0 rfl) ?_
  refine lv_iconst (v := 4) hx hb dL_law_426 (by decide) ?_
  refine lv_iadd hx hb dL_law_427 ?_
  refine lv_topi (fun x18 ex18 => ?_)
  obtain rfl : x18 = 4 := ex18.trans (by decide)
  refine va_sld (i := 4) hx hb hX hbl hbA hS (vp_in_iff.mpr (by decide)) dL_law_428 ?_
  refine lv_topi (fun x19 ex19 => ?_)
  refine lv_aload_n hx hb dL_law_429 rfl (lv_at hl 3 rfl) ?_
  refine lv_iload_n hx hb dL_law_430 rfl (lv_at hl 0 rfl) ?_
  refine lv_iconst (v := 5) hx hb dL_law_431 (by decide) ?_
  refine lv_iadd hx hb dL_law_432 ?_
  refine lv_topi (fun x20 ex20 => ?_)
  obtain rfl : x20 = 5 := ex20.trans (by decide)
  refine va_sld (i := 5) hx hb hX hbl hbA hS (vp_in_iff.mpr (by decide)) dL_law_433 ?_
  refine lv_topi (fun x21 ex21 => ?_)
  have hPc := hP.sub (ws' := [(q10, .inr (10, [.ref m_now, .ref m_draft, .ref m_past, .int 0, .ref m_images, .ref m_kept, .ref m_tape, .int 0, .int 0, .int 0, .int 0, .int 0, .int 0, .int 0, .int 0, .ref m_low, .ref m_high, .ref m_first, .ref m_second, .ref m_lines, .ref m_others, .int 0, .int 0, .int 0, .int 0])), (m_now, .inl (k_n, 192, .inl (fun _ => 0)))]) [8, 9] rfl
  have hKc := hK.sub (tys' := [(k_n, .int)]) [3] rfl
  refine va_calli (va_runV (As := [.int x13, .int x15, .int x17, .int x19, .int x21]) (rest := [.int (-1000001)]) ⟨hx, hb, hml, hown, hts⟩ (c_X10_cite l D q10 x13 x15 x17 x19 x21 m_now m_draft m_past m_images m_kept m_tape m_low m_high m_first m_second m_lines m_others k_n) (cwV 5 hts g_law_X10_cite rfl rfl rfl (by decide +kernel) ⟨Nat.le_of_ble_eq_true rfl, Nat.le_of_ble_eq_true rfl⟩) ⟨fun a U g mk q => by obtain ⟨q0, qP, qK⟩ := q; exact ⟨q0, qP, va_K.moved (u := U) (U := U.calling g mk a) (Vm.Alike.refl U.vm) qK⟩, va_recv hKc hPc (ci := 10) (q0 := 0) rfl rfl, fun U hU hW => ⟨rfl, by rw [hU]; exact hPc, va_K.moved hW.alike hKc⟩⟩ rfl rfl hl.1 rfl (lv_room (Nat.le_of_ble_eq_true rfl)) dL_law_434 ⟨Nat.le_of_ble_eq_true rfl, Nat.le_of_ble_eq_true rfl⟩) hS (fun _ _ h => h.elim) (fun _ h => h.elim) (fun r22 u t H1 locs ht hvm hw hB hz1 hk1 hS => ?_)
  have hP := pw_keep hP (fun q hq => hk1 q hq (fun h => h))
  generalize H1 = H at hP hS ⊢
  refine W.widen (k := 56) (n := 17172) (Nat.le_of_ble_eq_true rfl) (Nat.le_of_ble_eq_true rfl) ?_
  obtain rfl : r22 = (-1000001) := hw
  refine lv_icmp_eq (tgt := 1258) hx hb dL_law_437 (by decide) (fun c23 => ?_) (fun c23 => absurd (by decide) c23)
  refine W.widen (k := 56) (n := 17172) (Nat.le_of_ble_eq_true rfl) (Nat.le_of_ble_eq_true rfl) ?_
  exact law_end l hd0 C0 hS (lv_sub hl [0, 3] rfl)
theorem dL_law_442 : decode cL_law 442 = .ok (.aload_n 1, 1) := by decide +kernel
theorem dL_law_443 : decode cL_law 443 = .ok (.aload_n 0, 1) := by decide +kernel
theorem dL_law_444 : decode cL_law 444 = .ok (.iload_n 3, 1) := by decide +kernel
theorem dL_law_445 : decode cL_law 445 = .ok (.iconst 1, 1) := by decide +kernel
theorem dL_law_446 : decode cL_law 446 = .ok (.iadd, 1) := by decide +kernel
theorem dL_law_447 : decode cL_law 447 = .ok (.iaload, 1) := by decide +kernel
theorem dL_law_448 : decode cL_law 448 = .ok (.invokevirtual 50, 3) := by decide +kernel
theorem dL_law_451 : decode cL_law 451 = .ok (.aload_n 2, 1) := by decide +kernel
theorem dL_law_452 : decode cL_law 452 = .ok (.aload_n 0, 1) := by decide +kernel
theorem dL_law_453 : decode cL_law 453 = .ok (.iload_n 3, 1) := by decide +kernel
theorem dL_law_454 : decode cL_law 454 = .ok (.iconst 1, 1) := by decide +kernel
theorem dL_law_455 : decode cL_law 455 = .ok (.iadd, 1) := by decide +kernel
theorem dL_law_456 : decode cL_law 456 = .ok (.iaload, 1) := by decide +kernel
theorem dL_law_457 : decode cL_law 457 = .ok (.invokevirtual 53, 3) := by decide +kernel
theorem dL_law_460 : decode cL_law 460 = .ok (.if_icmp .eq 798, 3) := by decide +kernel
theorem dL_law_463 : decode cL_law 463 = .ok (.iconst 0, 1) := by decide +kernel
theorem dL_law_464 : decode cL_law 464 = .ok (.ireturn, 1) := by decide +kernel
set_option maxHeartbeats 4000000 in
set_option maxRecDepth 100000 in
theorem law_c8 {p : Program} {e : Env} {s : State} {m : MethodId} {below : List Frame} {meth : Method} {c : Code} (l : Launch) {b : Nat} {xs : Nat → Int32} {d0 : Drawn} (hd0 : s.drawn.sameBut d0 lw_cs) (C0 : lw_At p s m meth c b 6 xs) (D : va_G) (q9 : Nat) (q10 : Nat) (a_tape : Nat) (a_now : Nat) (a_draft : Nat) (a_reader : Nat) (a_acts : Nat) (a_images : Nat) (a_one : Nat) (a_other : Nat) (a_third : Nat) (a_spans : Nat) (a_back : Nat) (a_span : Nat) (a_middle : Nat) (a_reached : Nat) (y_b : Nat) (y_sc : Nat) (y_sp : Nat) (y_cp : Nat) (y_sn : Nat) (y_sl : Nat) (a_ring : Nat) (k_b : ClassId) (k_c : ClassId) (k_i : ClassId) (m_now : Nat) (m_draft : Nat) (m_past : Nat) (m_images : Nat) (m_kept : Nat) (m_tape : Nat) (m_low : Nat) (m_high : Nat) (m_first : Nat) (m_second : Nat) (m_lines : Nat) (m_others : Nat) (k_n : ClassId) (k_d : ClassId) (k_t : ClassId) (k_k : ClassId) {H : Heap} {locs : List Loc} {ls : Array Slot} (hK : va_K D vwCl [(k_b, .byte), (k_c, .int), (k_i, .object RX1), (k_n, .int), (k_d, .int), (k_t, .int), (k_k, .boolean)] (s.setDrawn d0)) (hP : va_P D vwCl [(q9, .inr (9, [.ref a_tape, .ref a_now, .ref a_draft, .ref a_reader, .ref a_acts, .ref a_images, .ref a_one, .ref a_other, .ref a_third, .ref a_spans, .ref a_back, .ref a_span, .ref a_middle, .ref a_reached])), (a_tape, .inr (7, [.ref y_b, .int 0, .int 0])), (y_b, .inl (k_b, 200, .inl (fun _ => 0))), (a_now, .inr (8, [.ref y_sc, .ref y_sp, .ref y_cp, .ref y_sn, .ref y_sl, .int 0, .int 0, .int 0])), (y_cp, .inl (k_c, 32, .inl (fun _ => 0))), (a_reader, .inr (4, [.ref a_tape, .ref a_draft, .int 0, .int 0, .int 0, .int 0, .int 0])), (a_acts, .inr (0, [.ref a_ring, .int 0, .int 0])), (a_images, .inl (k_i, 2, .inr (.inr (.inr (.inr (fun _ => none)))))), (q10, .inr (10, [.ref m_now, .ref m_draft, .ref m_past, .int 0, .ref m_images, .ref m_kept, .ref m_tape, .int 0, .int 0, .int 0, .int 0, .int 0, .int 0, .int 0, .int 0, .ref m_low, .ref m_high, .ref m_first, .ref m_second, .ref m_lines, .ref m_others, .int 0, .int 0, .int 0, .int 0])), (m_now, .inl (k_n, 192, .inl (fun _ => 0))), (m_draft, .inl (k_d, 192, .inl (fun _ => 0))), (m_tape, .inl (k_t, 200, .inl (fun _ => 0))), (m_kept, .inl (k_k, 2, .inl (fun _ => 0)))] H) (hD : va_D (fun q : Nat => s.heap.size ≤ q) [(q9, .inr (9, [.ref a_tape, .ref a_now, .ref a_draft, .ref a_reader, .ref a_acts, .ref a_images, .ref a_one, .ref a_other, .ref a_third, .ref a_spans, .ref a_back, .ref a_span, .ref a_middle, .ref a_reached])), (a_tape, .inr (7, [.ref y_b, .int 0, .int 0])), (y_b, .inl (k_b, 200, .inl (fun _ => 0))), (a_now, .inr (8, [.ref y_sc, .ref y_sp, .ref y_cp, .ref y_sn, .ref y_sl, .int 0, .int 0, .int 0])), (y_cp, .inl (k_c, 32, .inl (fun _ => 0))), (a_reader, .inr (4, [.ref a_tape, .ref a_draft, .int 0, .int 0, .int 0, .int 0, .int 0])), (a_acts, .inr (0, [.ref a_ring, .int 0, .int 0])), (a_images, .inl (k_i, 2, .inr (.inr (.inr (.inr (fun _ => none)))))), (q10, .inr (10, [.ref m_now, .ref m_draft, .ref m_past, .int 0, .ref m_images, .ref m_kept, .ref m_tape, .int 0, .int 0, .int 0, .int 0, .int 0, .int 0, .int 0, .int 0, .ref m_low, .ref m_high, .ref m_first, .ref m_second, .ref m_lines, .ref m_others, .int 0, .int 0, .int 0, .int 0])), (m_now, .inl (k_n, 192, .inl (fun _ => 0))), (m_draft, .inl (k_d, 192, .inl (fun _ => 0))), (m_tape, .inl (k_t, 200, .inl (fun _ => 0))), (m_kept, .inl (k_k, 2, .inl (fun _ => 0)))]) (hS : va_S (fun q : Nat => s.heap.size ≤ q) s.heap H locs) (hl : lv_has ls 4 [(3, .int 0), (2, .ref q10), (1, .ref q9), (0, .ref b)]) : W p l e room_1 (s.setDrawn d0) m #[Value.ref b] below meth c H locs 56 17172 (lw_Z below #[Value.ref b] s) (F0 m 442 ls []) := by
  obtain ⟨hx, hb, hr, hml, hown, hts0, hX, hbl, hlocks, hgv⟩ := id C0
  have hts : ∀ w ∈ w_law, w.before #[Value.ref b] (s.setDrawn d0) = true := fun w h => dr_words hts0 d0 w (w_law_in w h)
  have hown : (s.setDrawn d0).vm.findClass RL = some m.cls := hown
  have hX : va_X b 6 xs (s.setDrawn d0) s.heap := hX
  have hA : ∀ q : Nat, s.heap.size ≤ q → (fun q : Nat => s.heap.size ≤ q) q := fun _ h => h
  have hbA : ¬ (fun q : Nat => s.heap.size ≤ q) b := Nat.not_le.mpr hbl
  refine lv_aload_n hx hb dL_law_442 rfl (lv_at hl 2 rfl) ?_
  refine lv_aload_n hx hb dL_law_443 rfl (lv_at hl 3 rfl) ?_
  refine lv_iload_n hx hb dL_law_444 rfl (lv_at hl 0 rfl) ?_
  refine lv_iconst (v := 1) hx hb dL_law_445 (by decide) ?_
  refine lv_iadd hx hb dL_law_446 ?_
  refine lv_topi (fun x1 ex1 => ?_)
  obtain rfl : x1 = 1 := ex1.trans (by decide)
  refine va_sld (i := 1) hx hb hX hbl hbA hS (vp_in_iff.mpr (by decide)) dL_law_447 ?_
  refine lv_topi (fun x2 ex2 => ?_)
  have hPc := hP.sub (ws' := [(q9, .inr (9, [.ref a_tape, .ref a_now, .ref a_draft, .ref a_reader, .ref a_acts, .ref a_images, .ref a_one, .ref a_other, .ref a_third, .ref a_spans, .ref a_back, .ref a_span, .ref a_middle, .ref a_reached])), (a_now, .inr (8, [.ref y_sc, .ref y_sp, .ref y_cp, .ref y_sn, .ref y_sl, .int 0, .int 0, .int 0])), (y_cp, .inl (k_c, 32, .inl (fun _ => 0)))]) [0, 3, 4] rfl
  have hKc := hK.sub (tys' := [(k_c, .int)]) [1] rfl
  refine va_calli (va_runV (As := [.int x2]) (rest := []) ⟨hx, hb, hml, hown, hts⟩ (c_X9_strike l D q9 x2 a_tape a_now a_draft a_reader a_acts a_images a_one a_other a_third a_spans a_back a_span a_middle a_reached y_sc y_sp y_cp y_sn y_sl k_c) (cwV 1 hts g_law_X9_strike rfl rfl rfl (by decide +kernel) ⟨Nat.le_of_ble_eq_true rfl, Nat.le_of_ble_eq_true rfl⟩) ⟨fun a U g mk q => by obtain ⟨q0, qP, qK⟩ := q; exact ⟨q0, qP, va_K.moved (u := U) (U := U.calling g mk a) (Vm.Alike.refl U.vm) qK⟩, va_recv hKc hPc (ci := 9) (q0 := 0) rfl rfl, fun U hU hW => ⟨rfl, by rw [hU]; exact hPc, va_K.moved hW.alike hKc⟩⟩ rfl rfl hl.1 rfl (lv_room (Nat.le_of_ble_eq_true rfl)) dL_law_448 ⟨Nat.le_of_ble_eq_true rfl, Nat.le_of_ble_eq_true rfl⟩) hS (fun _ _ h => h.elim) (fun _ h => h.elim) (fun r3 u t H1 locs ht hvm hw hB hz1 hk1 hS => ?_)
  have hP := pw_keep hP (fun q hq => hk1 q hq (fun h => h))
  generalize H1 = H at hP hS ⊢
  refine W.widen (k := 56) (n := 17172) (Nat.le_of_ble_eq_true rfl) (Nat.le_of_ble_eq_true rfl) ?_
  obtain rfl : r3 = (-1000001) := hw
  refine lv_aload_n hx hb dL_law_451 rfl (lv_at hl 1 rfl) ?_
  refine lv_aload_n hx hb dL_law_452 rfl (lv_at hl 3 rfl) ?_
  refine lv_iload_n hx hb dL_law_453 rfl (lv_at hl 0 rfl) ?_
  refine lv_iconst (v := 1) hx hb dL_law_454 (by decide) ?_
  refine lv_iadd hx hb dL_law_455 ?_
  refine lv_topi (fun x4 ex4 => ?_)
  obtain rfl : x4 = 1 := ex4.trans (by decide)
  refine va_sld (i := 1) hx hb hX hbl hbA hS (vp_in_iff.mpr (by decide)) dL_law_456 ?_
  refine lv_topi (fun x5 ex5 => ?_)
  have hPc := hP.sub (ws' := [(q10, .inr (10, [.ref m_now, .ref m_draft, .ref m_past, .int 0, .ref m_images, .ref m_kept, .ref m_tape, .int 0, .int 0, .int 0, .int 0, .int 0, .int 0, .int 0, .int 0, .ref m_low, .ref m_high, .ref m_first, .ref m_second, .ref m_lines, .ref m_others, .int 0, .int 0, .int 0, .int 0])), (m_now, .inl (k_n, 192, .inl (fun _ => 0)))]) [8, 9] rfl
  have hKc := hK.sub (tys' := [(k_n, .int)]) [3] rfl
  refine va_calli (va_runV (As := [.int x5]) (rest := [.int (-1000001)]) ⟨hx, hb, hml, hown, hts⟩ (c_X10_strike l D q10 x5 m_now m_draft m_past m_images m_kept m_tape m_low m_high m_first m_second m_lines m_others k_n) (cwV 1 hts g_law_X10_strike rfl rfl rfl (by decide +kernel) ⟨Nat.le_of_ble_eq_true rfl, Nat.le_of_ble_eq_true rfl⟩) ⟨fun a U g mk q => by obtain ⟨q0, qP, qK⟩ := q; exact ⟨q0, qP, va_K.moved (u := U) (U := U.calling g mk a) (Vm.Alike.refl U.vm) qK⟩, va_recv hKc hPc (ci := 10) (q0 := 0) rfl rfl, fun U hU hW => ⟨rfl, by rw [hU]; exact hPc, va_K.moved hW.alike hKc⟩⟩ rfl rfl hl.1 rfl (lv_room (Nat.le_of_ble_eq_true rfl)) dL_law_457 ⟨Nat.le_of_ble_eq_true rfl, Nat.le_of_ble_eq_true rfl⟩) hS (fun _ _ h => h.elim) (fun _ h => h.elim) (fun r6 u t H1 locs ht hvm hw hB hz1 hk1 hS => ?_)
  have hP := pw_keep hP (fun q hq => hk1 q hq (fun h => h))
  generalize H1 = H at hP hS ⊢
  refine W.widen (k := 56) (n := 17172) (Nat.le_of_ble_eq_true rfl) (Nat.le_of_ble_eq_true rfl) ?_
  obtain rfl : r6 = (-1000001) := hw
  refine lv_icmp_eq (tgt := 1258) hx hb dL_law_460 (by decide) (fun c7 => ?_) (fun c7 => absurd (by decide) c7)
  refine W.widen (k := 56) (n := 17172) (Nat.le_of_ble_eq_true rfl) (Nat.le_of_ble_eq_true rfl) ?_
  exact law_end l hd0 C0 hS (lv_sub hl [0, 3] rfl)
theorem dL_law_465 : decode cL_law 465 = .ok (.aload_n 1, 1) := by decide +kernel
theorem dL_law_466 : decode cL_law 466 = .ok (.aload_n 0, 1) := by decide +kernel
theorem dL_law_467 : decode cL_law 467 = .ok (.iload_n 3, 1) := by decide +kernel
theorem dL_law_468 : decode cL_law 468 = .ok (.iconst 1, 1) := by decide +kernel
theorem dL_law_469 : decode cL_law 469 = .ok (.iadd, 1) := by decide +kernel
theorem dL_law_470 : decode cL_law 470 = .ok (.iaload, 1) := by decide +kernel
theorem dL_law_471 : decode cL_law 471 = .ok (.aload_n 0, 1) := by decide +kernel
theorem dL_law_472 : decode cL_law 472 = .ok (.iload_n 3, 1) := by decide +kernel
theorem dL_law_473 : decode cL_law 473 = .ok (.iconst 2, 1) := by decide +kernel
theorem dL_law_474 : decode cL_law 474 = .ok (.iadd, 1) := by decide +kernel
theorem dL_law_475 : decode cL_law 475 = .ok (.iaload, 1) := by decide +kernel
theorem dL_law_476 : decode cL_law 476 = .ok (.invokevirtual 54, 3) := by decide +kernel
theorem dL_law_479 : decode cL_law 479 = .ok (.aload_n 2, 1) := by decide +kernel
theorem dL_law_480 : decode cL_law 480 = .ok (.aload_n 0, 1) := by decide +kernel
theorem dL_law_481 : decode cL_law 481 = .ok (.iload_n 3, 1) := by decide +kernel
theorem dL_law_482 : decode cL_law 482 = .ok (.iconst 1, 1) := by decide +kernel
theorem dL_law_483 : decode cL_law 483 = .ok (.iadd, 1) := by decide +kernel
theorem dL_law_484 : decode cL_law 484 = .ok (.iaload, 1) := by decide +kernel
theorem dL_law_485 : decode cL_law 485 = .ok (.aload_n 0, 1) := by decide +kernel
theorem dL_law_486 : decode cL_law 486 = .ok (.iload_n 3, 1) := by decide +kernel
theorem dL_law_487 : decode cL_law 487 = .ok (.iconst 2, 1) := by decide +kernel
theorem dL_law_488 : decode cL_law 488 = .ok (.iadd, 1) := by decide +kernel
theorem dL_law_489 : decode cL_law 489 = .ok (.iaload, 1) := by decide +kernel
theorem dL_law_490 : decode cL_law 490 = .ok (.invokevirtual 57, 3) := by decide +kernel
theorem dL_law_493 : decode cL_law 493 = .ok (.if_icmp .eq 765, 3) := by decide +kernel
theorem dL_law_496 : decode cL_law 496 = .ok (.iconst 0, 1) := by decide +kernel
theorem dL_law_497 : decode cL_law 497 = .ok (.ireturn, 1) := by decide +kernel
set_option maxHeartbeats 4000000 in
set_option maxRecDepth 100000 in
theorem law_c9 {p : Program} {e : Env} {s : State} {m : MethodId} {below : List Frame} {meth : Method} {c : Code} (l : Launch) {b : Nat} {xs : Nat → Int32} {d0 : Drawn} (hd0 : s.drawn.sameBut d0 lw_cs) (C0 : lw_At p s m meth c b 6 xs) (D : va_G) (q9 : Nat) (q10 : Nat) (a_tape : Nat) (a_now : Nat) (a_draft : Nat) (a_reader : Nat) (a_acts : Nat) (a_images : Nat) (a_one : Nat) (a_other : Nat) (a_third : Nat) (a_spans : Nat) (a_back : Nat) (a_span : Nat) (a_middle : Nat) (a_reached : Nat) (y_b : Nat) (y_sc : Nat) (y_sp : Nat) (y_cp : Nat) (y_sn : Nat) (y_sl : Nat) (a_ring : Nat) (k_b : ClassId) (k_c : ClassId) (k_i : ClassId) (m_now : Nat) (m_draft : Nat) (m_past : Nat) (m_images : Nat) (m_kept : Nat) (m_tape : Nat) (m_low : Nat) (m_high : Nat) (m_first : Nat) (m_second : Nat) (m_lines : Nat) (m_others : Nat) (k_n : ClassId) (k_d : ClassId) (k_t : ClassId) (k_k : ClassId) {H : Heap} {locs : List Loc} {ls : Array Slot} (hK : va_K D vwCl [(k_b, .byte), (k_c, .int), (k_i, .object RX1), (k_n, .int), (k_d, .int), (k_t, .int), (k_k, .boolean)] (s.setDrawn d0)) (hP : va_P D vwCl [(q9, .inr (9, [.ref a_tape, .ref a_now, .ref a_draft, .ref a_reader, .ref a_acts, .ref a_images, .ref a_one, .ref a_other, .ref a_third, .ref a_spans, .ref a_back, .ref a_span, .ref a_middle, .ref a_reached])), (a_tape, .inr (7, [.ref y_b, .int 0, .int 0])), (y_b, .inl (k_b, 200, .inl (fun _ => 0))), (a_now, .inr (8, [.ref y_sc, .ref y_sp, .ref y_cp, .ref y_sn, .ref y_sl, .int 0, .int 0, .int 0])), (y_cp, .inl (k_c, 32, .inl (fun _ => 0))), (a_reader, .inr (4, [.ref a_tape, .ref a_draft, .int 0, .int 0, .int 0, .int 0, .int 0])), (a_acts, .inr (0, [.ref a_ring, .int 0, .int 0])), (a_images, .inl (k_i, 2, .inr (.inr (.inr (.inr (fun _ => none)))))), (q10, .inr (10, [.ref m_now, .ref m_draft, .ref m_past, .int 0, .ref m_images, .ref m_kept, .ref m_tape, .int 0, .int 0, .int 0, .int 0, .int 0, .int 0, .int 0, .int 0, .ref m_low, .ref m_high, .ref m_first, .ref m_second, .ref m_lines, .ref m_others, .int 0, .int 0, .int 0, .int 0])), (m_now, .inl (k_n, 192, .inl (fun _ => 0))), (m_draft, .inl (k_d, 192, .inl (fun _ => 0))), (m_tape, .inl (k_t, 200, .inl (fun _ => 0))), (m_kept, .inl (k_k, 2, .inl (fun _ => 0)))] H) (hD : va_D (fun q : Nat => s.heap.size ≤ q) [(q9, .inr (9, [.ref a_tape, .ref a_now, .ref a_draft, .ref a_reader, .ref a_acts, .ref a_images, .ref a_one, .ref a_other, .ref a_third, .ref a_spans, .ref a_back, .ref a_span, .ref a_middle, .ref a_reached])), (a_tape, .inr (7, [.ref y_b, .int 0, .int 0])), (y_b, .inl (k_b, 200, .inl (fun _ => 0))), (a_now, .inr (8, [.ref y_sc, .ref y_sp, .ref y_cp, .ref y_sn, .ref y_sl, .int 0, .int 0, .int 0])), (y_cp, .inl (k_c, 32, .inl (fun _ => 0))), (a_reader, .inr (4, [.ref a_tape, .ref a_draft, .int 0, .int 0, .int 0, .int 0, .int 0])), (a_acts, .inr (0, [.ref a_ring, .int 0, .int 0])), (a_images, .inl (k_i, 2, .inr (.inr (.inr (.inr (fun _ => none)))))), (q10, .inr (10, [.ref m_now, .ref m_draft, .ref m_past, .int 0, .ref m_images, .ref m_kept, .ref m_tape, .int 0, .int 0, .int 0, .int 0, .int 0, .int 0, .int 0, .int 0, .ref m_low, .ref m_high, .ref m_first, .ref m_second, .ref m_lines, .ref m_others, .int 0, .int 0, .int 0, .int 0])), (m_now, .inl (k_n, 192, .inl (fun _ => 0))), (m_draft, .inl (k_d, 192, .inl (fun _ => 0))), (m_tape, .inl (k_t, 200, .inl (fun _ => 0))), (m_kept, .inl (k_k, 2, .inl (fun _ => 0)))]) (hS : va_S (fun q : Nat => s.heap.size ≤ q) s.heap H locs) (hl : lv_has ls 4 [(3, .int 0), (2, .ref q10), (1, .ref q9), (0, .ref b)]) : W p l e room_1 (s.setDrawn d0) m #[Value.ref b] below meth c H locs 56 17172 (lw_Z below #[Value.ref b] s) (F0 m 465 ls []) := by
  obtain ⟨hx, hb, hr, hml, hown, hts0, hX, hbl, hlocks, hgv⟩ := id C0
  have hts : ∀ w ∈ w_law, w.before #[Value.ref b] (s.setDrawn d0) = true := fun w h => dr_words hts0 d0 w (w_law_in w h)
  have hown : (s.setDrawn d0).vm.findClass RL = some m.cls := hown
  have hX : va_X b 6 xs (s.setDrawn d0) s.heap := hX
  have hA : ∀ q : Nat, s.heap.size ≤ q → (fun q : Nat => s.heap.size ≤ q) q := fun _ h => h
  have hbA : ¬ (fun q : Nat => s.heap.size ≤ q) b := Nat.not_le.mpr hbl
  refine lv_aload_n hx hb dL_law_465 rfl (lv_at hl 2 rfl) ?_
  refine lv_aload_n hx hb dL_law_466 rfl (lv_at hl 3 rfl) ?_
  refine lv_iload_n hx hb dL_law_467 rfl (lv_at hl 0 rfl) ?_
  refine lv_iconst (v := 1) hx hb dL_law_468 (by decide) ?_
  refine lv_iadd hx hb dL_law_469 ?_
  refine lv_topi (fun x1 ex1 => ?_)
  obtain rfl : x1 = 1 := ex1.trans (by decide)
  refine va_sld (i := 1) hx hb hX hbl hbA hS (vp_in_iff.mpr (by decide)) dL_law_470 ?_
  refine lv_topi (fun x2 ex2 => ?_)
  refine lv_aload_n hx hb dL_law_471 rfl (lv_at hl 3 rfl) ?_
  refine lv_iload_n hx hb dL_law_472 rfl (lv_at hl 0 rfl) ?_
  refine lv_iconst (v := 2) hx hb dL_law_473 (by decide) ?_
  refine lv_iadd hx hb dL_law_474 ?_
  refine lv_topi (fun x3 ex3 => ?_)
  obtain rfl : x3 = 2 := ex3.trans (by decide)
  refine va_sld (i := 2) hx hb hX hbl hbA hS (vp_in_iff.mpr (by decide)) dL_law_475 ?_
  refine lv_topi (fun x4 ex4 => ?_)
  have hPc := hP.sub (ws' := [(q9, .inr (9, [.ref a_tape, .ref a_now, .ref a_draft, .ref a_reader, .ref a_acts, .ref a_images, .ref a_one, .ref a_other, .ref a_third, .ref a_spans, .ref a_back, .ref a_span, .ref a_middle, .ref a_reached])), (a_now, .inr (8, [.ref y_sc, .ref y_sp, .ref y_cp, .ref y_sn, .ref y_sl, .int 0, .int 0, .int 0]))]) [0, 3] rfl
  have hKc := hK.sub (tys' := []) [] rfl
  refine va_calli (va_runV (As := [.int x2, .int x4]) (rest := []) ⟨hx, hb, hml, hown, hts⟩ (c_X9_see l D q9 x2 x4 a_tape a_now a_draft a_reader a_acts a_images a_one a_other a_third a_spans a_back a_span a_middle a_reached y_sc y_sp y_cp y_sn y_sl) (cwV 2 hts g_law_X9_see rfl rfl rfl (by decide +kernel) ⟨Nat.le_of_ble_eq_true rfl, Nat.le_of_ble_eq_true rfl⟩) ⟨fun a U g mk q => by obtain ⟨q0, qP, qK⟩ := q; exact ⟨q0, qP, va_K.moved (u := U) (U := U.calling g mk a) (Vm.Alike.refl U.vm) qK⟩, va_recv hKc hPc (ci := 9) (q0 := 0) rfl rfl, fun U hU hW => ⟨rfl, by rw [hU]; exact hPc, va_K.moved hW.alike hKc⟩⟩ rfl rfl hl.1 rfl (lv_room (Nat.le_of_ble_eq_true rfl)) dL_law_476 ⟨Nat.le_of_ble_eq_true rfl, Nat.le_of_ble_eq_true rfl⟩) hS (fun _ _ h => h.elim) (fun _ h => h.elim) (fun r5 u t H1 locs ht hvm hw hB hz1 hk1 hS => ?_)
  have hP := pw_keep hP (fun q hq => hk1 q hq (fun h => h))
  generalize H1 = H at hP hS ⊢
  refine W.widen (k := 56) (n := 17172) (Nat.le_of_ble_eq_true rfl) (Nat.le_of_ble_eq_true rfl) ?_
  obtain rfl : r5 = (-1000001) := hw
  refine lv_aload_n hx hb dL_law_479 rfl (lv_at hl 1 rfl) ?_
  refine lv_aload_n hx hb dL_law_480 rfl (lv_at hl 3 rfl) ?_
  refine lv_iload_n hx hb dL_law_481 rfl (lv_at hl 0 rfl) ?_
  refine lv_iconst (v := 1) hx hb dL_law_482 (by decide) ?_
  refine lv_iadd hx hb dL_law_483 ?_
  refine lv_topi (fun x6 ex6 => ?_)
  obtain rfl : x6 = 1 := ex6.trans (by decide)
  refine va_sld (i := 1) hx hb hX hbl hbA hS (vp_in_iff.mpr (by decide)) dL_law_484 ?_
  refine lv_topi (fun x7 ex7 => ?_)
  refine lv_aload_n hx hb dL_law_485 rfl (lv_at hl 3 rfl) ?_
  refine lv_iload_n hx hb dL_law_486 rfl (lv_at hl 0 rfl) ?_
  refine lv_iconst (v := 2) hx hb dL_law_487 (by decide) ?_
  refine lv_iadd hx hb dL_law_488 ?_
  refine lv_topi (fun x8 ex8 => ?_)
  obtain rfl : x8 = 2 := ex8.trans (by decide)
  refine va_sld (i := 2) hx hb hX hbl hbA hS (vp_in_iff.mpr (by decide)) dL_law_489 ?_
  refine lv_topi (fun x9 ex9 => ?_)
  have hPc := hP.sub (ws' := [(q10, .inr (10, [.ref m_now, .ref m_draft, .ref m_past, .int 0, .ref m_images, .ref m_kept, .ref m_tape, .int 0, .int 0, .int 0, .int 0, .int 0, .int 0, .int 0, .int 0, .ref m_low, .ref m_high, .ref m_first, .ref m_second, .ref m_lines, .ref m_others, .int 0, .int 0, .int 0, .int 0])), (m_now, .inl (k_n, 192, .inl (fun _ => 0)))]) [8, 9] rfl
  have hKc := hK.sub (tys' := [(k_n, .int)]) [3] rfl
  refine va_calli (va_runV (As := [.int x7, .int x9]) (rest := [.int (-1000001)]) ⟨hx, hb, hml, hown, hts⟩ (c_X10_see l D q10 x7 x9 m_now m_draft m_past m_images m_kept m_tape m_low m_high m_first m_second m_lines m_others k_n) (cwV 2 hts g_law_X10_see rfl rfl rfl (by decide +kernel) ⟨Nat.le_of_ble_eq_true rfl, Nat.le_of_ble_eq_true rfl⟩) ⟨fun a U g mk q => by obtain ⟨q0, qP, qK⟩ := q; exact ⟨q0, qP, va_K.moved (u := U) (U := U.calling g mk a) (Vm.Alike.refl U.vm) qK⟩, va_recv hKc hPc (ci := 10) (q0 := 0) rfl rfl, fun U hU hW => ⟨rfl, by rw [hU]; exact hPc, va_K.moved hW.alike hKc⟩⟩ rfl rfl hl.1 rfl (lv_room (Nat.le_of_ble_eq_true rfl)) dL_law_490 ⟨Nat.le_of_ble_eq_true rfl, Nat.le_of_ble_eq_true rfl⟩) hS (fun _ _ h => h.elim) (fun _ h => h.elim) (fun r10 u t H1 locs ht hvm hw hB hz1 hk1 hS => ?_)
  have hP := pw_keep hP (fun q hq => hk1 q hq (fun h => h))
  generalize H1 = H at hP hS ⊢
  refine W.widen (k := 56) (n := 17172) (Nat.le_of_ble_eq_true rfl) (Nat.le_of_ble_eq_true rfl) ?_
  obtain rfl : r10 = (-1000001) := hw
  refine lv_icmp_eq (tgt := 1258) hx hb dL_law_493 (by decide) (fun c11 => ?_) (fun c11 => absurd (by decide) c11)
  refine W.widen (k := 56) (n := 17172) (Nat.le_of_ble_eq_true rfl) (Nat.le_of_ble_eq_true rfl) ?_
  exact law_end l hd0 C0 hS (lv_sub hl [0, 3] rfl)
