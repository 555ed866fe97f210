/-! the class's byte row as the text; truths as numbers; the EDITIONS by what was told of the latest one -/
def tC (g : Nat → Int32) (k : Nat) : Int := (g k &&& 255).toInt
theorem pw_and255 (x : Int32) : 0 ≤ (x &&& 255).toInt ∧ (x &&& 255).toInt ≤ 255 := by
  have h1 : (x &&& 255).toInt = ((x.toBitVec &&& 255#32).toNat : Int) := by
    show (x.toBitVec &&& 255#32).toInt = _
    rw [BitVec.toInt_eq_toNat_of_lt]
    have : (x.toBitVec &&& 255#32).toNat ≤ 255 := by rw [BitVec.toNat_and]; exact Nat.and_le_right
    omega
  have h2 : (x.toBitVec &&& 255#32).toNat ≤ 255 := by rw [BitVec.toNat_and]; exact Nat.and_le_right
  omega
theorem tC_at {g : Nat → Int32} {k x y : Int32} (e : x = g k.toNatClampNeg) (e2 : y = x &&& 255) : 0 ≤ y.toInt ∧ y.toInt ≤ 255 ∧ y.toInt = tC g k.toInt.toNat := by
  subst e2
  have h := pw_and255 x
  exact ⟨h.1, h.2, by rw [e]; rfl⟩
theorem tC_at2 {g : Nat → Int32} {k x y : Int32} {a : Nat} (e : x = g k.toNatClampNeg) (e2 : y = x &&& 255) (ha : k.toInt = (a : Int)) : 0 ≤ y.toInt ∧ y.toInt ≤ 255 ∧ y.toInt = tC g a := by
  have h := tC_at e e2
  rwa [show k.toInt.toNat = a by omega] at h
/-- an entry at a place -/
theorem pC_at {g : Nat → Int32} {k x : Int32} {a : Nat} (e : x = g k.toNatClampNeg) (ha : k.toInt = (a : Int)) : x.toInt = (g a).toInt := by
  rw [e, show k.toNatClampNeg = a from (by show k.toInt.toNat = a; omega)]
theorem tC_rng (g : Nat → Int32) (k : Nat) : 0 ≤ tC g k ∧ tC g k ≤ 255 := pw_and255 (g k)
/-- 1 or 0 -/
noncomputable def bI (P : Prop) : Int := @ite Int P (Classical.propDecidable P) 1 0
theorem bI_t {P : Prop} (h : P) : bI P = 1 := if_pos h
theorem bI_f {P : Prop} (h : ¬ P) : bI P = 0 := if_neg h
theorem bI_1 {P : Prop} (h : bI P = 1) : P := Classical.byContradiction (fun q => by rw [bI_f q] at h; cases h)
theorem bI_0 {P : Prop} (h : bI P = 0) : ¬ P := fun q => by rw [bI_t q] at h; cases h
theorem bI_01 (P : Prop) : 0 ≤ bI P ∧ bI P ≤ 1 := by
  unfold bI; split <;> decide
theorem bI_c {P Q : Prop} (h : P ↔ Q) : bI P = bI Q := by rw [propext h]
def stepR (t : Nat → Int) (n a : Nat) (at' tok val : Int) : Prop := at' = tNx t n a ∧ tok = tTok t n a ∧ (tok = -2 → val = tNum t n a ∧ 0 ≤ val ∧ val ≤ 999)
theorem tNx_le {t : Nat → Int} {n a : Nat} (h : a ≤ n) : tNx t n a ≤ n := by
  unfold tNx; split
  · split
    · exact tEnd_le h
    · omega
  · exact h
theorem tNx_ge {t : Nat → Int} {n a : Nat} : a ≤ tNx t n a := by
  unfold tNx; split
  · split
    · exact tEnd_ge
    · omega
  · exact Nat.le_refl a
theorem tNx_gt {t : Nat → Int} {n a : Nat} (h : a < n) : a < tNx t n a := by
  unfold tNx; rw [if_pos h]; split
  · rename_i q
    rw [tEnd_in h q.1 q.2]
    exact tEnd_ge
  · exact Nat.lt_succ_self a
theorem tTok_end {t : Nat → Int} {n a : Nat} (h : ¬ a < n) : tTok t n a = -1 := if_neg h
theorem tTok_ne {t : Nat → Int} {n a : Nat} (h : a < n) (h0 : 0 ≤ t a) : tTok t n a ≠ -1 := by
  unfold tTok; rw [if_pos h]
  split
  · split <;> decide
  · split
    · omega
    · decide
theorem step_end {t : Nat → Int} {n a : Nat} {at' tok val : Int} (h : n ≤ a) (h1 : at' = a) (h2 : tok = -1) : stepR t n a at' tok val := by
  have h3 : ¬ a < n := by omega
  refine ⟨?_, ?_, fun q => ?_⟩
  · unfold tNx; rw [if_neg h3]; exact h1
  · unfold tTok; rw [if_neg h3]; exact h2
  · omega
theorem step_one {t : Nat → Int} {n a : Nat} {at' tok val b : Int} (h : a < n) (hb : b = t a) (hb0 : 0 ≤ b) (hf : ¬ (48 ≤ b ∧ b ≤ 57)) (h1 : at' = a + 1) (h2 : (((97 ≤ b ∧ b ≤ 122) ∨ b = 44 ∨ b = 59) ∧ tok = b) ∨ (¬ ((97 ≤ b ∧ b ≤ 122) ∨ b = 44 ∨ b = 59) ∧ tok = -3)) : stepR t n a at' tok val := by
  subst hb
  refine ⟨?_, ?_, fun q => ?_⟩
  · unfold tNx; rw [if_pos h, if_neg hf]; omega
  · unfold tTok; rw [if_pos h, if_neg hf]
    rcases h2 with ⟨q1, q2⟩ | ⟨q1, q2⟩
    · rw [if_pos q1]; exact q2
    · rw [if_neg q1]; exact q2
  · omega
/-- within a run of figures that began at a -/
def sofI (t : Nat → Int) (n a : Nat) (at' val : Int) : Prop := val = tVal t a (at' - a).toNat ∧ tEnd t n a = tEnd t n at'.toNat
theorem sof_0 {t : Nat → Int} {n a : Nat} {at' val : Int} (h1 : at' = a) (h2 : val = 0) : sofI t n a at' val := by
  subst h1; subst h2
  refine ⟨?_, by rw [Int.toNat_natCast]⟩
  rw [Int.sub_self]; rfl
theorem sof_3 {t : Nat → Int} {n a : Nat} {at' val at2 val2 b : Int} (h : sofI t n a at' val) (ha : a ≤ at') (hn : at' < n) (hb : b = t at'.toNat) (h0 : 48 ≤ b) (h9 : b ≤ 57) (h3 : at' - a < 3) (e1 : at2 = at' + 1) (e2 : val2 = val * 10 + b - 48) : sofI t n a at2 val2 := by
  subst hb; subst e1
  refine ⟨?_, ?_⟩
  · rw [show (at' + 1 - (a : Int)).toNat = (at' - a).toNat + 1 by omega]
    show val2 = if (at' - (a : Int)).toNat < 3 then tVal t a (at' - a).toNat * 10 + t (a + (at' - a).toNat) - 48 else tVal t a (at' - a).toNat
    rw [if_pos (by omega), show a + (at' - (a : Int)).toNat = at'.toNat by omega, ← h.1]
    exact e2
  · rw [h.2, tEnd_in (by omega) h0 h9, show at'.toNat + 1 = (at' + 1).toNat by omega]
theorem sof_n {t : Nat → Int} {n a : Nat} {at' val at2 b : Int} (h : sofI t n a at' val) (ha : a ≤ at') (hn : at' < n) (hb : b = t at'.toNat) (h0 : 48 ≤ b) (h9 : b ≤ 57) (h3 : 3 ≤ at' - a) (e1 : at2 = at' + 1) : sofI t n a at2 val := by
  subst hb; subst e1
  refine ⟨?_, ?_⟩
  · rw [show (at' + 1 - (a : Int)).toNat = (at' - a).toNat + 1 by omega]
    show val = if (at' - (a : Int)).toNat < 3 then tVal t a (at' - a).toNat * 10 + t (a + (at' - a).toNat) - 48 else tVal t a (at' - a).toNat
    rw [if_neg (by omega)]
    exact h.1
  · rw [h.2, tEnd_in (by omega) h0 h9, show at'.toNat + 1 = (at' + 1).toNat by omega]
theorem sof_end {t : Nat → Int} {n a : Nat} {at' val tok : Int} (h : sofI t n a at' val) (ha : a ≤ at') (hv0 : 0 ≤ val) (hv9 : val ≤ 999) (hn : a < n) (h0 : 48 ≤ t a) (h9 : t a ≤ 57) (hs : ¬ (at' < n ∧ 48 ≤ t at'.toNat ∧ t at'.toNat ≤ 57)) (ht : (at' - a ≤ 3 ∧ tok = -2) ∨ (3 < at' - a ∧ tok = -3)) : stepR t n a at' tok val := by
  have e : tEnd t n a = at'.toNat := by rw [h.2]; exact tEnd_out (by omega)
  have hk : tTok t n a = if tEnd t n a - a ≤ 3 then -2 else -3 := by unfold tTok; rw [if_pos hn, if_pos ⟨h0, h9⟩]
  refine ⟨?_, ?_, fun _ => ⟨?_, hv0, hv9⟩⟩
  · unfold tNx; rw [if_pos hn, if_pos ⟨h0, h9⟩, e]; omega
  · rw [hk, e]
    rcases ht with ⟨q1, q2⟩ | ⟨q1, q2⟩
    · rw [if_pos (by omega)]; exact q2
    · rw [if_neg (by omega)]; exact q2
  · unfold tNum; rw [e, show at'.toNat - a = (at' - (a : Int)).toNat by omega]; exact h.1
def uFrom (L : Int) (ps : List (Int × Int)) (fr : Int) : Prop := 0 ≤ fr ∧ fr < L ∧ ∀ q ∈ ps, fr + 1 ≤ q.1 ∨ q.1 + q.2 ≤ fr
def uMany (L : Int) (ps : List (Int × Int)) (fr many : Int) : Prop := 1 ≤ many ∧ many ≤ L - fr ∧ ∀ q ∈ ps, fr + many ≤ q.1 ∨ q.1 + q.2 ≤ fr
def uFree (ps : List (Int × Int)) (fr many : Int) : Prop := ∀ q ∈ ps, fr + many ≤ q.1 ∨ q.1 + q.2 ≤ fr
/-- a stretch is told by the letter k and what stands from a on -/
def uStr (t : Nat → Int) (n : Nat) (L : Int) (k : Int) (a : Nat) (ps : List (Int × Int)) : Prop :=
  tKind k ≠ 0 ∧ ps.length < 6 ∧ tTok t n a = -2 ∧ bI (uFrom L ps (tNum t n a)) = 1 ∧ tTok t n (tNx t n a) = 44 ∧ tTok t n (tNx t n (tNx t n a)) = -2 ∧ bI (uMany L ps (tNum t n a) (tNum t n (tNx t n (tNx t n a)))) = 1 ∧ tTok t n (tNx t n (tNx t n (tNx t n a))) = 44 ∧ tTok t n (tNx t n (tNx t n (tNx t n (tNx t n a)))) = -2 ∧ 1 ≤ tNum t n (tNx t n (tNx t n (tNx t n (tNx t n a)))) ∧ tNum t n (tNx t n (tNx t n (tNx t n (tNx t n a)))) ≤ 999 ∧ tGr (tKind k) (tNum t n (tNx t n (tNx t n a))) (tNum t n (tNx t n (tNx t n (tNx t n (tNx t n a))))) ≤ 999 ∧ tTok t n (tNx t n (tNx t n (tNx t n (tNx t n (tNx t n a))))) = 59
def uPut (t : Nat → Int) (n a : Nat) (ps : List (Int × Int)) : List (Int × Int) := ps ++ [(tNum t n a, tNum t n (tNx t n (tNx t n a)))]
def uNx6 (t : Nat → Int) (n a : Nat) : Nat := tNx t n (tNx t n (tNx t n (tNx t n (tNx t n (tNx t n a)))))
/-- from a on there are EDITIONS to the end; ne of them were begun, the last one has the stretches ps -/
def uEds (t : Nat → Int) (n : Nat) (L : Int) : Nat → Nat → Nat → List (Int × Int) → Prop
  | 0, _, _, _ => False
  | f + 1, a, ne, ps => tTok t n a = -1 ∨ (tTok t n a = 101 ∧ ne < 5 ∧ uEds t n L f (tNx t n a) (ne + 1) []) ∨ (tTok t n a ≠ 101 ∧ 0 < ne ∧ uStr t n L (tTok t n a) (tNx t n a) ps ∧ uEds t n L f (uNx6 t n (tNx t n a)) ne (uPut t n (tNx t n a) ps))
theorem uEds_end {t : Nat → Int} {n : Nat} {L : Int} {f a ne : Nat} {ps : List (Int × Int)} (hf : 0 < f) (h : tTok t n a = -1) : bI (uEds t n L f a ne ps) = 1 := by
  cases f with
  | zero => cases hf
  | succ f => exact bI_t (Or.inl h)
theorem uEds_ed {t : Nat → Int} {n : Nat} {L : Int} {f a ne : Nat} {ps : List (Int × Int)} (h : tTok t n a = 101) (hn : ne < 5) : bI (uEds t n L (f + 1) a ne ps) = bI (uEds t n L f (tNx t n a) (ne + 1) []) := by
  refine bI_c ⟨fun q => ?_, fun q => Or.inr (Or.inl ⟨h, hn, q⟩)⟩
  rcases q with q | ⟨_, _, q⟩ | ⟨q, _⟩
  · omega
  · exact q
  · exact absurd h q
theorem uEds_ed0 {t : Nat → Int} {n : Nat} {L : Int} {f a ne : Nat} {ps : List (Int × Int)} (h : tTok t n a = 101) (hn : ¬ ne < 5) : bI (uEds t n L f a ne ps) = 0 := by
  refine bI_f (fun q => ?_)
  cases f with
  | zero => exact q
  | succ f =>
    rcases q with q | ⟨_, q, _⟩ | ⟨q, _⟩
    · omega
    · exact hn q
    · exact absurd h q
theorem uEds_st {t : Nat → Int} {n : Nat} {L : Int} {f a ne : Nat} {ps : List (Int × Int)} (h : tTok t n a ≠ 101) (h1 : tTok t n a ≠ -1) (hn : 0 < ne) (hs : uStr t n L (tTok t n a) (tNx t n a) ps) : bI (uEds t n L (f + 1) a ne ps) = bI (uEds t n L f (uNx6 t n (tNx t n a)) ne (uPut t n (tNx t n a) ps)) := by
  refine bI_c ⟨fun q => ?_, fun q => Or.inr (Or.inr ⟨h, hn, hs, q⟩)⟩
  rcases q with q | ⟨q, _⟩ | ⟨_, _, _, q⟩
  · exact absurd q h1
  · exact absurd q h
  · exact q
theorem uEds_st0 {t : Nat → Int} {n : Nat} {L : Int} {f a ne : Nat} {ps : List (Int × Int)} (h : tTok t n a ≠ 101) (h1 : tTok t n a ≠ -1) (hn : ¬ (0 < ne ∧ uStr t n L (tTok t n a) (tNx t n a) ps)) : bI (uEds t n L f a ne ps) = 0 := by
  refine bI_f (fun q => ?_)
  cases f with
  | zero => exact q
  | succ f =>
    rcases q with q | ⟨q, _⟩ | ⟨_, q, q2, _⟩
    · exact h1 q
    · exact h q
    · exact hn ⟨q, q2⟩
/-- the whole text is a WORK -/
def uHead (t : Nat → Int) (n : Nat) : Prop := tTok t n 0 = 119 ∧ tTok t n (tNx t n 0) = -2 ∧ 1 ≤ tNum t n (tNx t n 0) ∧ tNum t n (tNx t n 0) ≤ 200 ∧ tTok t n (tNx t n (tNx t n 0)) = 59
def uWork (t : Nat → Int) (n : Nat) : Prop := uHead t n ∧ bI (uEds t n (tNum t n (tNx t n 0)) 201 (tNx t n (tNx t n (tNx t n 0))) 0 []) = 1
theorem stepR_bd {t : Nat → Int} {n a : Nat} {at' tok val : Int} (h : stepR t n a at' tok val) (ha : a ≤ n) (hp : ∀ k, 0 ≤ t k) : 0 ≤ at' ∧ at' ≤ n ∧ (a : Int) ≤ at' ∧ (tok = -1 ∨ (a : Int) < at') := by
  have h1 := tNx_le (t := t) ha
  have h2 := tNx_ge (t := t) (n := n) (a := a)
  have h3 := h.1
  refine ⟨by omega, by omega, by omega, ?_⟩
  by_cases q : a < n
  · have := tNx_gt (t := t) q
    exact Or.inr (by omega)
  · exact Or.inl (h.2.1.trans (tTok_end q))
/-- what the rows of a draft say of its edition e -/
def dR (sc sp : Nat → Int32) (e : Nat) (ps : List (Int × Int)) : Prop := (sc e).toInt = (ps.length : Int) ∧ ps.length ≤ 6 ∧ ∀ (s : Nat) (q : Int × Int), ps[s]? = some q → (sp (24 * e + 4 * s + 1)).toInt = q.1 ∧ (sp (24 * e + 4 * s + 2)).toInt = q.2 ∧ 0 ≤ q.1 ∧ 1 ≤ q.2 ∧ q.1 + q.2 ≤ 200
theorem dR_0 {sc sc2 sp : Nat → Int32} {e : Nat} {k : Int32} (h : sc2 = upd sc k.toNatClampNeg 0) (hk : k.toInt = (e : Int)) : dR sc2 sp e [] := by
  refine ⟨?_, Nat.zero_le _, fun s q hq => by cases hq⟩
  rw [h, show k.toNatClampNeg = e from (by show k.toInt.toNat = e; omega)]
  unfold upd; rw [if_pos rfl]; decide
theorem tGr_of {k m f r : Int} (h1 : k = 2 → r = f + (2 * m - 1)) (h2 : k = 3 → r = f + (m - 1) / 2) (h3 : k = 5 → r = f) (h4 : k = 1 ∨ k = 4 → r = f + (m - 1)) (hk : 1 ≤ k) (hk5 : k ≤ 5) : r = tGr k m f := by
  unfold tGr
  split
  · exact h1 (by assumption)
  · split
    · exact h2 (by assumption)
    · split
      · rw [h3 (by assumption)]; omega
      · exact h4 (by omega)
theorem tKind_rng (k : Int) : 0 ≤ tKind k ∧ tKind k ≤ 5 := by
  unfold tKind
  repeat' split
  all_goals decide
/-- the first s of what was told leave the lines free -/
def frI (ps : List (Int × Int)) (s : Int) (fr many : Int) : Prop := ∀ (i : Nat) (q : Int × Int), ps[i]? = some q → (i : Int) < s → fr + many ≤ q.1 ∨ q.1 + q.2 ≤ fr
theorem frI_0 {ps : List (Int × Int)} {s fr many : Int} (h : s = 0) : frI ps s fr many := fun i q _ h2 => by omega
theorem frI_up {sc sp : Nat → Int32} {e : Nat} {ps : List (Int × Int)} {s s2 fr many a b : Int} (hd : dR sc sp e ps) (h : frI ps s fr many) (h0 : 0 ≤ s) (h1 : s < (sc e).toInt) (ha : a = (sp (24 * e + 4 * s.toNat + 1)).toInt) (hb : b = (sp (24 * e + 4 * s.toNat + 2)).toInt) (hq : fr + many ≤ a ∨ a + b ≤ fr) (e2 : s2 = s + 1) : frI ps s2 fr many := fun i q hi h2 => by
  by_cases hs : (i : Int) < s
  · exact h i q hi hs
  · obtain ⟨q1, q2, _⟩ := hd.2.2 i q hi
    rw [show i = s.toNat by omega] at q1 q2
    omega
theorem frI_up1 {sc sp : Nat → Int32} {e : Nat} {ps : List (Int × Int)} {s s2 fr many a : Int} (hd : dR sc sp e ps) (h : frI ps s fr many) (h0 : 0 ≤ s) (h1 : s < (sc e).toInt) (ha : a = (sp (24 * e + 4 * s.toNat + 1)).toInt) (hq : fr + many ≤ a) (e2 : s2 = s + 1) : frI ps s2 fr many := frI_up (b := (sp (24 * e + 4 * s.toNat + 2)).toInt) hd h h0 h1 ha rfl (Or.inl hq) e2
theorem frI_end {sc sp : Nat → Int32} {e : Nat} {ps : List (Int × Int)} {s fr many : Int} (hd : dR sc sp e ps) (h : frI ps s fr many) (h1 : (sc e).toInt ≤ s) : bI (uFree ps fr many) = 1 := bI_t (fun q hq => by
  obtain ⟨i, hi⟩ := List.mem_iff_getElem?.mp hq
  have h2 := (List.getElem?_eq_some_iff.mp hi).1
  have h3 := hd.1
  exact h i q hi (by omega))
theorem frI_no {sc sp : Nat → Int32} {e : Nat} {ps : List (Int × Int)} {s fr many a b : Int} (hd : dR sc sp e ps) (h0 : 0 ≤ s) (h1 : s < (sc e).toInt) (ha : a = (sp (24 * e + 4 * s.toNat + 1)).toInt) (hb : b = (sp (24 * e + 4 * s.toNat + 2)).toInt) (hq : ¬ (fr + many ≤ a ∨ a + b ≤ fr)) : bI (uFree ps fr many) = 0 := bI_f (fun q => by
  have h3 := hd.1
  have h4 : s.toNat < ps.length := by omega
  obtain ⟨q1, q2, _⟩ := hd.2.2 s.toNat _ (List.getElem?_eq_getElem h4)
  have := q _ (List.getElem_mem h4)
  omega)
theorem uFrom_of {L fr r : Int} {ps : List (Int × Int)} (h0 : 0 ≤ fr) (h1 : fr < L) (h : r = bI (uFree ps fr 1)) : r = bI (uFrom L ps fr) := by
  rw [h]; exact bI_c ⟨fun q => ⟨h0, h1, q⟩, fun q => q.2.2⟩
theorem uFrom_no {L fr : Int} {ps : List (Int × Int)} (h : ¬ (0 ≤ fr ∧ fr < L)) : bI (uFrom L ps fr) = 0 := bI_f (fun q => h ⟨q.1, q.2.1⟩)
theorem uMany_of {L fr m r : Int} {ps : List (Int × Int)} (h0 : 1 ≤ m) (h1 : m ≤ L - fr) (h : r = bI (uFree ps fr m)) : r = bI (uMany L ps fr m) := by
  rw [h]; exact bI_c ⟨fun q => ⟨h0, h1, q⟩, fun q => q.2.2⟩
theorem uMany_no {L fr m : Int} {ps : List (Int × Int)} (h : ¬ (1 ≤ m ∧ m ≤ L - fr)) : bI (uMany L ps fr m) = 0 := bI_f (fun q => h ⟨q.1, q.2.1⟩)
theorem uFrom_b {L fr : Int} {ps : List (Int × Int)} (h : bI (uFrom L ps fr) = 1) : 0 ≤ fr ∧ fr < L := ⟨(bI_1 h).1, (bI_1 h).2.1⟩
theorem uMany_b {L fr m : Int} {ps : List (Int × Int)} (h : bI (uMany L ps fr m) = 1) : 1 ≤ m ∧ m ≤ L - fr := ⟨(bI_1 h).1, (bI_1 h).2.1⟩
theorem pw_half2 {x y : Int32} (e : y = x / 2) (h : 0 ≤ x.toInt) : y.toInt = x.toInt / 2 := by
  obtain ⟨j, hj, hx⟩ := nI_of (x := x) (fun q => by have := Int32.lt_iff_toInt_lt.mp q; have h0 : (0 : Int32).toInt = 0 := by decide
                                                    omega)
  have e2 : y = nI (j / 2) := by rw [e, hx]; exact pk_div hj (by decide) (by decide)
  rw [e2, hx, nI_toInt hj, nI_toInt (by omega)]
  omega
theorem tKind_no {k : Int} (h1 : ¬ k = 112) (h2 : ¬ k = 115) (h3 : ¬ k = 104) (h4 : ¬ k = 114) (h5 : ¬ k = 98) : tKind k = 0 := by
  unfold tKind; rw [if_neg h1, if_neg h2, if_neg h3, if_neg h4, if_neg h5]
theorem bI_no {P : Prop} (h : ¬ P) : (0 : Int32).toInt = bI P := by rw [bI_f h]; decide
theorem bI_yes {P : Prop} (h : P) : (1 : Int32).toInt = bI P := by rw [bI_t h]; decide
theorem updAt {f g : Nat → Int32} {k v : Int32} {a : Nat} (e : g = upd f k.toNatClampNeg v) (hk : k.toInt = (a : Int)) : g = upd f a v := by
  rw [e, show k.toNatClampNeg = a from (by show k.toInt.toNat = a; omega)]
theorem upd_eq {f : Nat → Int32} {a : Nat} {v : Int32} : upd f a v a = v := by unfold upd; simp
theorem upd_ne {f : Nat → Int32} {a b : Nat} {v : Int32} (h : b ≠ a) : upd f a v b = f b := by unfold upd; simp [h]
theorem dR_put {sc sc2 sp sp1 sp2 sp3 sp4 : Nat → Int32} {e s : Nat} {ps : List (Int × Int)} {k fr m f c : Int32} (hd : dR sc sp e ps) (hs : (s : Int) = (sc e).toInt) (h6 : s < 6) (h1 : sp1 = upd sp (24 * e + 4 * s + 0) k) (h2 : sp2 = upd sp1 (24 * e + 4 * s + 1) fr) (h3 : sp3 = upd sp2 (24 * e + 4 * s + 2) m) (h4 : sp4 = upd sp3 (24 * e + 4 * s + 3) f) (h5 : sc2 = upd sc e c) (hc : c.toInt = (s : Int) + 1) (hf : 0 ≤ fr.toInt) (hm : 1 ≤ m.toInt) (hl : fr.toInt + m.toInt ≤ 200) : dR sc2 sp4 e (ps ++ [(fr.toInt, m.toInt)]) := by
  obtain ⟨d1, d2, d3⟩ := hd
  have hl2 : s = ps.length := by omega
  subst hl2
  refine ⟨?_, by simp; omega, fun i q hi => ?_⟩
  · rw [h5, upd_eq, hc]; simp
  · by_cases hlt : i < ps.length
    · rw [List.getElem?_append_left hlt] at hi
      obtain ⟨q1, q2, q3⟩ := d3 i q hi
      refine ⟨?_, ?_, q3⟩
      · rw [h4, upd_ne (by omega), h3, upd_ne (by omega), h2, upd_ne (by omega), h1, upd_ne (by omega)]; exact q1
      · rw [h4, upd_ne (by omega), h3, upd_ne (by omega), h2, upd_ne (by omega), h1, upd_ne (by omega)]; exact q2
    · rw [List.getElem?_append_right (by omega)] at hi
      have hi2 : i - ps.length = 0 := by
        have := (List.getElem?_eq_some_iff.mp hi).1
        simpa using this
      rw [hi2] at hi
      cases hi
      have e1 : i = ps.length := by omega
      subst e1
      refine ⟨?_, ?_, hf, hm, hl⟩
      · rw [h4, upd_ne (by omega), h3, upd_ne (by omega), h2, upd_eq]
      · rw [h4, upd_ne (by omega), h3, upd_eq]
