theorem dyA_img {kI kB : ClassId} {r m : Nat → Option Nat} {T : va_W} (h : dyA kI kB r m T) {j : Nat} (hj : j < 2) {y : Nat} (hr : m j = some y) : ∃ (y0 y1 y2 y3 y4 y5 : Nat) (n1 n2 n3 : Int32) (g1 g2 g3 g4 g5 : Nat → Int32) (z0 z1 : Nat) (m1 m2 : Int32) (g : Nat → Int32) (T2 : va_W), (dyOK n1 g2 ∧ 0 ≤ m1.toInt ∧ m1.toInt ≤ 200 ∧ fB g) ∧ T.Perm (((y, .inr (1, [.ref y0, .ref z0])) :: (dyW kI y0 y1 y2 y3 y4 y5 n1 n2 n3 g1 g2 g3 g4 g5 ++ dyT kB z0 z1 m1 m2 g)) ++ T2) ∧ ∀ (n1 n2 n3 : Int32) (g1 g2 g3 g4 g5 : Nat → Int32) (m1 m2 : Int32) (g : Nat → Int32), dyOK n1 g2 → 0 ≤ m1.toInt → m1.toInt ≤ 200 → fB g → ∃ T3, dyA kI kB r m T3 ∧ (((y, .inr (1, [.ref y0, .ref z0])) :: (dyW kI y0 y1 y2 y3 y4 y5 n1 n2 n3 g1 g2 g3 g4 g5 ++ dyT kB z0 z1 m1 m2 g)) ++ T2).Perm T3 := by
  obtain ⟨T1, T2, rfl, h1, h2⟩ := h
  obtain ⟨w, T3, ⟨y0, y1, y2, y3, y4, y5, n1, n2, n3, g1, g2, g3, g4, g5, z0, z1, m1, m2, g, rfl, hk, hm1, hm2, hf⟩, hp, hb⟩ := dyS_get h2 hj hr
  refine ⟨y0, y1, y2, y3, y4, y5, n1, n2, n3, g1, g2, g3, g4, g5, z0, z1, m1, m2, g, T1 ++ T3, ⟨hk, hm1, hm2, hf⟩, ?_, fun n1 n2 n3 g1 g2 g3 g4 g5 m1 m2 g hk2 q1 q2 q3 => ⟨_, ⟨T1, _, rfl, h1, hb _ ⟨y0, y1, y2, y3, y4, y5, n1, n2, n3, g1, g2, g3, g4, g5, z0, z1, m1, m2, g, rfl, hk2, q1, q2, q3⟩⟩, ?_⟩⟩
  · refine (hp.append_left T1).trans ?_
    rw [← List.append_assoc, ← List.append_assoc]
    exact List.perm_append_comm.append_right T3
  · rw [← List.append_assoc, ← List.append_assoc]
    exact List.perm_append_comm.append_right T3
theorem dyA_imgNew {kI kB : ClassId} {r m : Nat → Option Nat} {T : va_W} (h : dyA kI kB r m T) {j : Nat} (hj : j < 2) (hr : m j = none) {y y0 y1 y2 y3 y4 y5 : Nat} {n1 n2 n3 : Int32} {g1 g2 g3 g4 g5 : Nat → Int32} {z0 z1 : Nat} {m1 m2 : Int32} {g : Nat → Int32} (hk : dyOK n1 g2) (q1 : 0 ≤ m1.toInt) (q2 : m1.toInt ≤ 200) (q3 : fB g) : ∃ T3, dyA kI kB r (va_up m j (some y)) T3 ∧ (((y, .inr (1, [.ref y0, .ref z0])) :: (dyW kI y0 y1 y2 y3 y4 y5 n1 n2 n3 g1 g2 g3 g4 g5 ++ dyT kB z0 z1 m1 m2 g)) ++ T).Perm T3 := by
  obtain ⟨T1, T2, rfl, h1, h2⟩ := h
  refine ⟨_, ⟨T1, _, rfl, h1, dyS_add h2 hj hr ⟨y0, y1, y2, y3, y4, y5, n1, n2, n3, g1, g2, g3, g4, g5, z0, z1, m1, m2, g, rfl, hk, q1, q2, q3⟩⟩, ?_⟩
  rw [← List.append_assoc, ← List.append_assoc]
  exact List.perm_append_comm.append_right T2
/-- which images are kept, behind image(k) -/
def imS (m m2 : Nat → Option Nat) (k : Int32) : Prop := ∀ i : Nat, i < 2 → ((m2 i).isSome = true ↔ ((m i).isSome = true ∨ k.toInt = i))
theorem imS_out {m : Nat → Option Nat} {k : Int32} (h : ¬ (0 ≤ k.toInt ∧ k.toInt ≤ 1)) : imS m m k := fun i hi => ⟨Or.inl, fun h2 => h2.elim id (fun e => absurd ⟨by omega, by omega⟩ h)⟩
theorem imS_some {m : Nat → Option Nat} {k : Int32} {y : Nat} (h0 : 0 ≤ k.toInt) (hq : m k.toNatClampNeg = some y) : imS m m k := fun i hi => ⟨Or.inl, fun h2 => h2.elim id (fun e => by
  have : k.toNatClampNeg = i := by show k.toInt.toNat = i; omega
  rw [← this, hq]; rfl)⟩
theorem imS_new {m m2 : Nat → Option Nat} {k : Int32} {y : Nat} (h0 : 0 ≤ k.toInt) (e : m2 = va_up m k.toNatClampNeg (some y)) : imS m m2 k := fun i hi => by
  subst e
  by_cases hk : i = k.toNatClampNeg
  · have e2 : k.toInt = (i : Int) := by rw [hk]; show k.toInt = (k.toInt.toNat : Int); omega
    simp [va_up, hk, e2]
  · have e2 : ¬ k.toInt = (i : Int) := fun q => hk (by show i = k.toInt.toNat; omega)
    simp [va_up, hk, e2]
/-- what restore(k) answers -/
def sp_rs (m : Nat → Option Nat) (k : Int32) : Int32 := if 0 ≤ k.toInt ∧ k.toInt ≤ 1 then (if (m k.toNatClampNeg).isSome = true then 1 else -1000002) else -1000001
theorem sp_rs_out {m : Nat → Option Nat} {k : Int32} (h : ¬ (0 ≤ k.toInt ∧ k.toInt ≤ 1)) : (-1000001) = sp_rs m k := (if_neg h).symm
theorem sp_rs_none {m : Nat → Option Nat} {k : Int32} (h0 : 0 ≤ k.toInt) (h1 : k.toInt ≤ 1) (hq : m k.toNatClampNeg = none) : (-1000002) = sp_rs m k := by
  unfold sp_rs
  rw [if_pos ⟨h0, h1⟩, hq]; rfl
theorem sp_rs_some {m : Nat → Option Nat} {k : Int32} {y : Nat} (h0 : 0 ≤ k.toInt) (h1 : k.toInt ≤ 1) (hq : m k.toNatClampNeg = some y) : 1 = sp_rs m k := by
  unfold sp_rs
  rw [if_pos ⟨h0, h1⟩, hq]; rfl
