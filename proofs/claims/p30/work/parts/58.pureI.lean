/-! which images are kept in the reference -/
def kpS (m m2 : Nat → Int32) (k : Int32) : Prop := ∀ i : Nat, i < 2 → ((m2 i).toInt ≠ 0 ↔ ((m i).toInt ≠ 0 ∨ k.toInt = i))
theorem kpS_out {m : Nat → Int32} {k : Int32} (h : ¬ (0 ≤ k.toInt ∧ k.toInt ≤ 1)) : kpS m m k := fun i hi => ⟨Or.inl, fun h2 => h2.elim id (fun e => absurd ⟨by omega, by omega⟩ h)⟩
theorem kpS_in {m m2 : Nat → Int32} {k : Int32} (h0 : 0 ≤ k.toInt) (e : m2 = upd m k.toNatClampNeg (vp_nar .boolean 1)) : kpS m m2 k := fun i hi => by
  by_cases hk : i = k.toNatClampNeg
  · have e2 : k.toInt = (i : Int) := by rw [hk]; show k.toInt = (k.toInt.toNat : Int); omega
    rw [e, hk, upd_eq]
    exact ⟨fun _ => Or.inr (by show k.toInt = (k.toInt.toNat : Int); omega), fun _ => by decide⟩
  · have e2 : ¬ k.toInt = (i : Int) := fun q => hk (by show i = k.toInt.toNat; omega)
    rw [e, upd_ne hk]
    exact ⟨Or.inl, fun q => q.elim id (fun z => absurd z e2)⟩
def sp_kp (m : Nat → Int32) (k : Int32) : Int32 := if 0 ≤ k.toInt ∧ k.toInt ≤ 1 then (if (m k.toNatClampNeg).toInt ≠ 0 then 1 else -1000002) else -1000001
theorem sp_kp_out {m : Nat → Int32} {k : Int32} (h : ¬ (0 ≤ k.toInt ∧ k.toInt ≤ 1)) : (-1000001) = sp_kp m k := (if_neg h).symm
theorem sp_kp_0 {m : Nat → Int32} {k x : Int32} (h0 : 0 ≤ k.toInt) (h1 : k.toInt ≤ 1) (hx : x = m k.toNatClampNeg) (hq : x.toInt = 0) : (-1000002) = sp_kp m k := by
  unfold sp_kp
  rw [if_pos ⟨h0, h1⟩, if_neg (by rw [← hx]; omega)]
theorem sp_kp_1 {m : Nat → Int32} {k x : Int32} (h0 : 0 ≤ k.toInt) (h1 : k.toInt ≤ 1) (hx : x = m k.toNatClampNeg) (hq : x.toInt ≠ 0) : 1 = sp_kp m k := by
  unfold sp_kp
  rw [if_pos ⟨h0, h1⟩, if_pos (by rw [← hx]; exact hq)]
