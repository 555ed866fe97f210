/-! what the law needs -/
theorem rm_ok {a b k n : Nat} (h1 : a ≤ 7000) (h2 : b ≤ 310000) (h3 : k ≤ 1000) (h4 : n ≤ 1000) : a + k ≤ room_1.cells ∧ b + n ≤ room_1.slots := by
  constructor
  · show a + k ≤ 600000
    omega
  · show b + n ≤ 7302250
    omega
/-- the same images are kept on both sides -/
def lkI (m : Nat → Option Nat) (kp : Nat → Int32) : Prop := ∀ i : Nat, i < 2 → ((m i).isSome = true ↔ (kp i).toInt ≠ 0)
theorem lkI_0 : lkI (fun _ => none) (fun _ => 0) := fun i _ => ⟨fun h => Bool.noConfusion h, fun h => absurd (show (0 : Int32).toInt = 0 by decide) h⟩
theorem lkI_im {m m2 : Nat → Option Nat} {kp kp2 : Nat → Int32} {k : Int32} (h : lkI m kp) (h1 : imS m m2 k) (h2 : kpS kp kp2 k) : lkI m2 kp2 := fun i hi => by
  rw [h1 i hi, h2 i hi, h i hi]
theorem sp_lk {m : Nat → Option Nat} {kp : Nat → Int32} {k : Int32} (h : lkI m kp) : sp_rs m k = sp_kp kp k := by
  unfold sp_rs sp_kp
  by_cases q : 0 ≤ k.toInt ∧ k.toInt ≤ 1
  · rw [if_pos q, if_pos q]
    have hi := h k.toNatClampNeg (by show k.toInt.toNat < 2; omega)
    by_cases z : (m k.toNatClampNeg).isSome = true
    · rw [if_pos z, if_pos (hi.mp z)]
    · rw [if_neg z, if_neg (fun w => z (hi.mpr w))]
  · rw [if_neg q, if_neg q]
theorem iB_0 {p : Nat → Int32} : iB p (fun _ => 0) := fun k _ hq => absurd (show (0 : Int32).toInt = 0 by decide) hq
theorem tCR_0 : tC (fun _ => 0) = tR (fun _ => 0) := by
  funext k
  show ((0 : Int32) &&& 255).toInt = (0 : Int32).toInt
  decide
theorem fd_eq {b sz td sz2 td2 : Int} {g g2 f f2 : Nat → Int32} (h : fdS b g sz g2 sz2) (k : rfS b f td f2 td2) (e : sz = td) (q : tC g = tR f) (h0 : 0 ≤ sz) (h1 : sz ≤ 200) : sz2 = td2 ∧ tC g2 = tR f2 ∧ (0 ≤ sz2 ∧ sz2 ≤ 200) := by
  subst e
  rcases h with ⟨b0, b1, ⟨a1, a2, a3⟩ | ⟨a1, a2, a3⟩⟩ | ⟨nb, a2, a3⟩
  · rcases k with ⟨_, _, ⟨c1, c2, c3⟩ | ⟨c1, c2, c3⟩⟩ | ⟨nb, _, _⟩
    · refine ⟨by omega, funext (fun k => ?_), by omega⟩
      rw [a3 k, c3 k, q]
    · omega
    · exact absurd ⟨b0, b1⟩ nb
  · rcases k with ⟨_, _, ⟨c1, c2, c3⟩ | ⟨c1, c2, c3⟩⟩ | ⟨nb, _, _⟩
    · omega
    · exact ⟨by omega, by rw [a3, c3, q], by omega⟩
    · exact absurd ⟨b0, b1⟩ nb
  · rcases k with ⟨b0, b1, _⟩ | ⟨_, c2, c3⟩
    · exact absurd ⟨b0, b1⟩ nb
    · exact ⟨by omega, by rw [a3, c3, q], by omega⟩
theorem rfS_b {b sz sz2 : Int} {g g2 : Nat → Int32} (h : rfS b g sz g2 sz2) (h0 : 0 ≤ sz) (h1 : sz ≤ 200) : 0 ≤ sz2 ∧ sz2 ≤ 200 := by
  rcases h with ⟨_, _, ⟨q1, q2, _⟩ | ⟨_, q2, _⟩⟩ | ⟨_, q2, _⟩ <;> omega
theorem wkR_b {P : Prop} {li ed se acts : Int32} {sc sp cp sn sl : Nat → Int32} {li2 ed2 se2 acts2 : Int32} {sc2 sp2 cp2 sn2 sl2 : Nat → Int32} (h : wkR P li ed se acts sc sp cp sn sl li2 ed2 se2 acts2 sc2 sp2 cp2 sn2 sl2) (q : 1 ≤ li.toInt ∧ li.toInt ≤ 200) : 1 ≤ li2.toInt ∧ li2.toInt ≤ 200 := by
  rcases h with ⟨_, a, b, _⟩ | ⟨_, e, _⟩
  · exact ⟨a, b⟩
  · rw [e]; exact q
theorem wkM_b {P : Prop} {g g2 past : Nat → Int32} {a a2 : Int32} (h : wkM P g a g2 a2) (hg : gV g) (h1 : 1 ≤ (g 0).toInt) (ha : 0 ≤ a.toInt ∧ a.toInt ≤ 10) (hp : pB past a.toInt) : gV g2 ∧ 1 ≤ (g2 0).toInt ∧ (0 ≤ a2.toInt ∧ a2.toInt ≤ 10) ∧ pB past a2.toInt := by
  rcases h with ⟨_, w, e⟩ | ⟨_, e1, e2⟩
  · rw [e]; exact ⟨w.1, w.2, by decide, pB_0 (by decide)⟩
  · rw [e1, e2]; exact ⟨hg, h1, ha, hp⟩
