/-! feed: a byte more -/
theorem fB_i8 (z : Int8) : fits .byte (.int z.toInt32) = true := by
  have h1 := Int8.le_toInt z
  have h2 := Int8.toInt_lt z
  have h3 : (z.toInt32).toInt = z.toInt := Int8.toInt_toInt32 z
  have e1 : (-128 : Int32) ≤ z.toInt32 := Int32.le_iff_toInt_le.mpr (by rw [h3, show (-128 : Int32).toInt = -128 from (by decide)]; exact h1)
  have e2 : z.toInt32 ≤ (127 : Int32) := Int32.le_iff_toInt_le.mpr (by rw [h3, show (127 : Int32).toInt = 127 from (by decide)]; omega)
  show (decide (-128 ≤ z.toInt32) && decide (z.toInt32 ≤ 127)) = true
  rw [decide_eq_true e1, decide_eq_true e2]; rfl
theorem fB_upd {g g2 : Nat → Int32} {i : Nat} {x : Int32} (h : fB g) (e : g2 = upd g i (vp_nar .byte x)) : fB g2 := fun j => by
  rw [e]; unfold upd
  split
  · exact fB_i8 _
  · exact h j
theorem tC_key : ∀ n : Fin 256, ((((Int32.ofNat n.val).toInt8.toInt32).toInt8.toInt32) &&& 255) = Int32.ofNat n.val := by decide +kernel
theorem tC_new {b : Int32} (h0 : 0 ≤ b.toInt) (h1 : b.toInt ≤ 255) : (vp_nar .byte b.toInt8.toInt32 &&& 255).toInt = b.toInt := by
  have e : b = Int32.ofNat b.toInt.toNat := by
    refine Int32.toInt_inj.mp ?_
    rw [Int32.toInt_ofNat_of_lt (by omega)]
    omega
  have k := tC_key ⟨b.toInt.toNat, by omega⟩
  show ((b.toInt8.toInt32).toInt8.toInt32 &&& 255).toInt = b.toInt
  rw [← e] at k
  exact congrArg Int32.toInt k
def fdR (b : Int) (g : Nat → Int32) (sz : Int) (g2 : Nat → Int32) (sz2 : Int) : Prop := (sz < 200 ∧ sz2 = sz + 1 ∧ ∀ k : Nat, tC g2 k = if k = sz.toNat then b else tC g k) ∨ (sz = 200 ∧ sz2 = sz ∧ g2 = g)
theorem fdR_1 {b y sz sz2 : Int32} {g g2 : Nat → Int32} (h0 : 0 ≤ b.toInt) (h1 : b.toInt ≤ 255) (e : g2 = upd g sz.toNatClampNeg (vp_nar .byte y)) (ey : y = b.toInt8.toInt32) (hs : sz.toInt < 200) (h2 : sz2.toInt = sz.toInt + 1) : fdR b.toInt g sz.toInt g2 sz2.toInt := by
  refine Or.inl ⟨hs, h2, fun k => ?_⟩
  show (g2 k &&& 255).toInt = _
  rw [e, ey]
  unfold upd
  by_cases hk : k = sz.toInt.toNat
  · rw [if_pos hk, if_pos (show k = sz.toNatClampNeg from hk)]; exact tC_new h0 h1
  · rw [if_neg hk, if_neg (show ¬ k = sz.toNatClampNeg from hk)]; rfl
def fdS (b : Int) (g : Nat → Int32) (sz : Int) (g2 : Nat → Int32) (sz2 : Int) : Prop := (0 ≤ b ∧ b ≤ 255 ∧ fdR b g sz g2 sz2) ∨ (¬ (0 ≤ b ∧ b ≤ 255) ∧ sz2 = sz ∧ g2 = g)
theorem fdS_b {b sz sz2 : Int} {g g2 : Nat → Int32} (h : fdS b g sz g2 sz2) (h0 : 0 ≤ sz) (h1 : sz ≤ 200) : 0 ≤ sz2 ∧ sz2 ≤ 200 := by
  rcases h with ⟨_, _, ⟨q1, q2, _⟩ | ⟨_, q2, _⟩⟩ | ⟨_, q2, _⟩ <;> omega
/-- what work does to the WORK: new where the text is one, else all as it was -/
def wkR (P : Prop) (li ed se acts : Int32) (sc sp cp sn sl : Nat → Int32) (li2 ed2 se2 acts2 : Int32) (sc2 sp2 cp2 sn2 sl2 : Nat → Int32) : Prop := (P ∧ 1 ≤ li2.toInt ∧ li2.toInt ≤ 200 ∧ acts2 = 0) ∨ (¬ P ∧ li2 = li ∧ ed2 = ed ∧ se2 = se ∧ acts2 = acts ∧ sc2 = sc ∧ sp2 = sp ∧ cp2 = cp ∧ sn2 = sn ∧ sl2 = sl)
theorem wkR_0 {P : Prop} {li ed se acts : Int32} {sc sp cp sn sl : Nat → Int32} (h : ¬ P) : wkR P li ed se acts sc sp cp sn sl li ed se acts sc sp cp sn sl := Or.inr ⟨h, rfl, rfl, rfl, rfl, rfl, rfl, rfl, rfl, rfl⟩
theorem wkR_1 {P : Prop} {li ed se acts li2 ed2 se2 : Int32} {sc sp cp sn sl sc2 sp2 cp2 sn2 sl2 : Nat → Int32} (h : P) (h1 : 1 ≤ li2.toInt) (h2 : li2.toInt ≤ 200) : wkR P li ed se acts sc sp cp sn sl li2 ed2 se2 0 sc2 sp2 cp2 sn2 sl2 := Or.inl ⟨h, h1, h2, rfl⟩
