/-! worlds with a tail that nobody lists: E ++ T -/
theorem vt_P {D : va_G} {cl : List vw_C} {E T : va_W} {H : Heap} (h : va_P D cl (E ++ T) H) : va_P D cl E H ∧ va_P D cl T H := by
  refine ⟨fun k q hq => h k q ?_, fun k q hq => h (E.length + k) q ?_⟩
  · rw [List.getElem?_append_left (List.getElem?_eq_some_iff.mp hq).1]; exact hq
  · rw [List.getElem?_append_right (Nat.le_add_right _ _), Nat.add_sub_cancel_left]; exact hq
theorem vt_D {A : Nat → Prop} {E T : va_W} (h : va_D A (E ++ T)) : va_D A E ∧ va_D A T ∧ ∀ (i j : Nat) (x y : Nat × va_E), E[i]? = some x → T[j]? = some y → x.1 ≠ y.1 := by
  have hl : ∀ (k : Nat) (q : Nat × va_E), E[k]? = some q → (E ++ T)[k]? = some q := fun k q hq => by rw [List.getElem?_append_left (List.getElem?_eq_some_iff.mp hq).1]; exact hq
  have hr : ∀ (k : Nat) (q : Nat × va_E), T[k]? = some q → (E ++ T)[E.length + k]? = some q := fun k q hq => by rw [List.getElem?_append_right (Nat.le_add_right _ _), Nat.add_sub_cancel_left]; exact hq
  refine ⟨⟨fun i j p q hp hq e => h.1 i j p q (hl i p hp) (hl j q hq) e, fun k q hq => h.2 k q (hl k q hq)⟩, ⟨fun i j p q hp hq e => ?_, fun k q hq => h.2 _ q (hr k q hq)⟩, fun i j x y hx hy e => ?_⟩
  · have := h.1 _ _ p q (hr i p hp) (hr j q hq) e
    omega
  · have h1 := h.1 _ _ x y (hl i x hx) (hr j y hy) e
    have h2 := (List.getElem?_eq_some_iff.mp hx).1
    omega
theorem vt_app {A : Nat → Prop} {E T : va_W} (h1 : va_D A E) (h2 : va_D A T) (hx : ∀ (i j : Nat) (x y : Nat × va_E), E[i]? = some x → T[j]? = some y → x.1 ≠ y.1) : va_D A (E ++ T) := va_D.app h1 h2 (fun i j x y hx1 hy1 e => hx i j x y hx1 hy1 e)
theorem vt_mem {is : List Nat} {E w : va_W} (hs : is.map (fun i => E[i]?) = w.map some) {k : Nat} {q : Nat × va_E} (hq : w[k]? = some q) : ∃ i, is[k]? = some i ∧ E[i]? = some q := by
  have h1 : (is.map (fun i => E[i]?))[k]? = some (some q) := by rw [hs, List.getElem?_map, hq]; rfl
  rw [List.getElem?_map] at h1
  cases hi : is[k]? with
  | none => rw [hi] at h1; cases h1
  | some i => rw [hi] at h1; exact ⟨i, rfl, Option.some.inj h1⟩
theorem vt_subP {D : va_G} {cl : List vw_C} {E T E2 : va_W} {H : Heap} (h : va_P D cl (E ++ T) H) (is : List Nat) (hs : is.filterMap (fun i => E[i]?) = E2) : va_P D cl (E2 ++ T) H := va_P.app ((vt_P h).1.sub is hs) (vt_P h).2
theorem vt_subD {A : Nat → Prop} {E T E2 : va_W} (h : va_D A (E ++ T)) (is : List Nat) (hn : va_nd is = true) (hs : is.map (fun i => E[i]?) = E2.map some) : va_D A (E2 ++ T) := by
  obtain ⟨h1, h2, h3⟩ := vt_D h
  refine vt_app (h1.sub is hn hs) h2 (fun i j x y hx hy => ?_)
  obtain ⟨k, -, hk⟩ := vt_mem hs hx
  exact h3 k j x y hk hy
theorem vt_free {A0 : Nat → Prop} {E T wc : va_W} {H0 H : Heap} {locs : List Loc} (hD : va_D A0 (E ++ T)) (hS : va_S A0 H0 H locs) (hA : ∀ q, H0.size ≤ q → A0 q) (isC : List Nat) (hC : isC.map (fun i => E[i]?) = wc.map some) : ∀ q, va_A wc H.size q → A0 q := va_free (vt_D hD).1 hS hA isC hC
/-- behind a call of which the tail is no part -/
theorem vt_join {A0 : Nat → Prop} {D : va_G} {cl : List vw_C} {E T wc wr w1 : va_W} {H H1 : Heap} (hP : va_P D cl (E ++ T) H) (hD : va_D A0 (E ++ T)) (isC isR : List Nat) (hC : isC.map (fun i => E[i]?) = wc.map some) (hR : isR.map (fun i => E[i]?) = wr.map some) (hn : va_nd isR = true) (hdis : ∀ i ∈ isR, i ∉ isC)
    (hk : ∀ q : Nat, q < H.size → ¬ va_A wc H.size q → H1[q]? = H[q]?) (hF : ∀ q, va_A wc H.size q → A0 q) (hP1 : va_P D cl w1 H1) (hD1 : va_D (va_A wc H.size) w1) : va_P D cl ((wr ++ w1) ++ T) H1 ∧ va_D A0 ((wr ++ w1) ++ T) := by
  obtain ⟨hE, hT⟩ := vt_P hP
  obtain ⟨dE, dT, dX⟩ := vt_D hD
  obtain ⟨pj, dj⟩ := va_join hE dE isC isR hC hR hn hdis hk hF hP1 hD1
  have out : ∀ (j : Nat) (y : Nat × va_E), T[j]? = some y → y.1 < H.size ∧ ¬ va_A wc H.size y.1 := by
    intro j y hy
    have hl := (hT j y hy).lt
    refine ⟨hl, fun h => ?_⟩
    rcases h with ⟨k, e, h⟩ | h
    · obtain ⟨i, -, hi⟩ := vt_mem hC h
      exact dX i j (y.1, e) y hi hy rfl
    · omega
  refine ⟨va_P.app pj (fun j y hy => (hT j y hy).kept (hk y.1 (out j y hy).1 (out j y hy).2)), vt_app dj dT (fun i j x y hx hy e => ?_)⟩
  by_cases hi : i < wr.length
  · rw [List.getElem?_append_left hi] at hx
    obtain ⟨k, -, hk2⟩ := vt_mem hR hx
    exact dX k j x y hk2 hy e
  · rw [List.getElem?_append_right (by omega)] at hx
    exact (out j y hy).2 (by rw [← e]; exact hD1.2 _ x hx)
theorem vt_freeA {A0 : Nat → Prop} {w : va_W} {H0 H : Heap} {locs : List Loc} (hD : va_D A0 w) (hS : va_S A0 H0 H locs) (hA : ∀ q, H0.size ≤ q → A0 q) : ∀ q, va_A w H.size q → A0 q := by
  intro q h
  rcases h with ⟨k, e, h⟩ | h
  · exact hD.2 k (q, e) h
  · exact hA q (Nat.le_trans hS.1 h)
theorem vt_j {A0 : Nat → Prop} {D : va_G} {cl : List vw_C} {wr wc w1 : va_W} {H H1 : Heap} (hPr : va_P D cl wr H) (hDr : va_D A0 wr) (hx : ∀ (i j : Nat) (x y : Nat × va_E), wr[i]? = some x → wc[j]? = some y → x.1 ≠ y.1)
    (hk : ∀ q : Nat, q < H.size → ¬ va_A wc H.size q → H1[q]? = H[q]?) (hF : ∀ q, va_A wc H.size q → A0 q) (hP1 : va_P D cl w1 H1) (hD1 : va_D (va_A wc H.size) w1) : va_P D cl (wr ++ w1) H1 ∧ va_D A0 (wr ++ w1) := by
  have out : ∀ (j : Nat) (y : Nat × va_E), wr[j]? = some y → y.1 < H.size ∧ ¬ va_A wc H.size y.1 := by
    intro j y hy
    have hl := (hPr j y hy).lt
    refine ⟨hl, fun h => ?_⟩
    rcases h with ⟨k, e, h⟩ | h
    · exact hx j k y (y.1, e) hy h rfl
    · omega
  refine ⟨va_P.app (fun j y hy => (hPr j y hy).kept (hk y.1 (out j y hy).1 (out j y hy).2)) hP1, va_D.app hDr (hD1.weaken (fun k q _ h => hF q.1 h)) (fun i j x y hx1 hy1 e => ?_)⟩
  exact (out i x hx1).2 (by rw [e]; exact hD1.2 j y hy1)
theorem vt_joinT {A0 : Nat → Prop} {D : va_G} {cl : List vw_C} {E T wc wr w1 T1 : va_W} {H H1 : Heap} (hP : va_P D cl (E ++ T) H) (hD : va_D A0 (E ++ T)) (isC isR : List Nat) (hC : isC.map (fun i => E[i]?) = wc.map some) (hR : isR.map (fun i => E[i]?) = wr.map some) (hn : va_nd isR = true) (hdis : ∀ i ∈ isR, i ∉ isC)
    (hk : ∀ q : Nat, q < H.size → ¬ va_A (wc ++ T) H.size q → H1[q]? = H[q]?) (hF : ∀ q, va_A (wc ++ T) H.size q → A0 q) (hP1 : va_P D cl (w1 ++ T1) H1) (hD1 : va_D (va_A (wc ++ T) H.size) (w1 ++ T1)) : va_P D cl ((wr ++ w1) ++ T1) H1 ∧ va_D A0 ((wr ++ w1) ++ T1) := by
  obtain ⟨hE, hT⟩ := vt_P hP
  obtain ⟨dE, dT, dX⟩ := vt_D hD
  rw [List.append_assoc]
  refine vt_j (fun k q hq => ?_) (dE.sub isR hn hR) (fun i j x y hx hy e => ?_) hk hF hP1 hD1
  · obtain ⟨i, -, hi⟩ := vt_mem hR hq
    exact hE i q hi
  · obtain ⟨i2, h1, h2⟩ := vt_mem hR hx
    by_cases hj : j < wc.length
    · rw [List.getElem?_append_left hj] at hy
      obtain ⟨j2, h3, h4⟩ := vt_mem hC hy
      have := dE.1 i2 j2 x y h2 h4 e
      subst this
      exact hdis i2 (List.mem_of_getElem? h1) (List.mem_of_getElem? h3)
    · rw [List.getElem?_append_right (by omega)] at hy
      exact dX i2 _ x y h2 hy e
theorem vt_rot {E T N : va_W} : ((E ++ T) ++ N).Perm ((E ++ N) ++ T) := by
  rw [List.append_assoc, List.append_assoc]
  exact List.Perm.append_left E List.perm_append_comm
