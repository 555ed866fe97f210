/-! the turns of readEditions, and what work makes of the text -/
theorem eds_end {t : Nat → Int} {n : Nat} {L X : Int} {f a ne : Nat} {ps : List (Int × Int)} (h : X = bI (uEds t n L f a ne ps)) (hf : 0 < f) (hk : tTok t n a = -1) : X = 1 := h.trans (uEds_end hf hk)
theorem eds_ed {t : Nat → Int} {n : Nat} {L X : Int} {f a ne f2 a2 ne2 : Nat} {ps : List (Int × Int)} (h : X = bI (uEds t n L f a ne ps)) (hf : f = f2 + 1) (hk : tTok t n a = 101) (hn : ne < 5) (ha : a2 = tNx t n a) (he : ne2 = ne + 1) : X = bI (uEds t n L f2 a2 ne2 []) := by
  subst hf; subst ha; subst he
  exact h.trans (uEds_ed hk hn)
theorem eds_ed0 {t : Nat → Int} {n : Nat} {L X : Int} {f a ne : Nat} {ps : List (Int × Int)} (h : X = bI (uEds t n L f a ne ps)) (hk : tTok t n a = 101) (hn : ¬ ne < 5) : X = 0 := h.trans (uEds_ed0 hk hn)
theorem eds_st {t : Nat → Int} {n : Nat} {L X tok ed : Int} {f a ne f2 a2 : Nat} {ps : List (Int × Int)} (h : X = bI (uEds t n L f a ne ps)) (hf : f = f2 + 1) (hk : tok = tTok t n a) (h1 : tok ≠ 101) (h2 : tok ≠ -1) (hn : ed = ne) (hz : bI (0 < ed ∧ uStr t n L tok (tNx t n a) ps) = 1) (ha : a2 = uNx6 t n (tNx t n a)) : X = bI (uEds t n L f2 a2 ne (uPut t n (tNx t n a) ps)) := by
  subst hf; subst ha; subst hk
  obtain ⟨z1, z2⟩ := bI_1 hz
  exact h.trans (uEds_st h1 h2 (by omega) z2)
theorem eds_st0 {t : Nat → Int} {n : Nat} {L X tok ed : Int} {f a ne : Nat} {ps : List (Int × Int)} (h : X = bI (uEds t n L f a ne ps)) (hk : tok = tTok t n a) (h1 : tok ≠ 101) (h2 : tok ≠ -1) (hn : ed = ne) (hz : bI (0 < ed ∧ uStr t n L tok (tNx t n a) ps) = 0) : X = 0 := by
  subst hk
  have z := bI_0 hz
  exact h.trans (uEds_st0 h1 h2 (fun q => z ⟨by omega, q.2⟩))
theorem i1_of {v : Int} (h : v = 1) : (1 : Int32).toInt = v := by rw [h]; decide
theorem i0_of {v : Int} (h : v = 0) : (0 : Int32).toInt = v := by rw [h]; decide
theorem uWork_1 {t : Nat → Int} {n : Nat} (h : uHead t n) (h2 : bI (uEds t n (tNum t n (tNx t n 0)) 201 (tNx t n (tNx t n (tNx t n 0))) 0 []) = 1) : uWork t n := ⟨h, h2⟩
