/-! the reference's parser: the token that it stands at -/
def bT (g : Nat → Int32) : Prop := ∀ i, 0 ≤ (g i).toInt ∧ (g i).toInt ≤ 255
theorem bT_0 : bT (fun _ => 0) := fun _ => (by decide : 0 ≤ (0 : Int32).toInt ∧ (0 : Int32).toInt ≤ 255)
theorem bT_at {g : Nat → Int32} {i : Nat} {x : Int32} (h : bT g) (e : x = g i) : 0 ≤ x.toInt ∧ x.toInt ≤ 255 := by rw [e]; exact h i
theorem bT_upd {g g2 : Nat → Int32} {i : Nat} {x : Int32} (h : bT g) (e : g2 = upd g i x) (h0 : 0 ≤ x.toInt) (h1 : x.toInt ≤ 255) : bT g2 := fun j => by
  rw [e]; unfold upd
  split
  · exact ⟨h0, h1⟩
  · exact h j
def tR (g : Nat → Int32) (k : Nat) : Int := (g k).toInt
theorem tR_at {g : Nat → Int32} {k x : Int32} {a : Nat} (e : x = g k.toNatClampNeg) (ha : k.toInt = (a : Int)) : x.toInt = tR g a := pC_at e ha
def cuR (t : Nat → Int) (n q : Nat) (at' tok val : Int) : Prop := ((tTok t n q = -1 ∧ tok = 0) ∨ (tTok t n q = -2 ∧ tok = 2 ∧ val = tNum t n q ∧ 0 ≤ val ∧ val ≤ 999) ∨ (tTok t n q = -3 ∧ tok = 4) ∨ (97 ≤ tTok t n q ∧ tTok t n q ≤ 122 ∧ tok = 1 ∧ val = tTok t n q) ∨ ((tTok t n q = 44 ∨ tTok t n q = 59) ∧ tok = 3 ∧ val = tTok t n q)) ∧ at' = tNx t n q ∧ 0 ≤ at' ∧ at' ≤ n ∧ (q : Int) ≤ at' ∧ (tTok t n q = -1 ∨ (q : Int) < at')
theorem cu_of {t : Nat → Int} {n q : Nat} {at' tok tk val : Int} (h : stepR t n q at' tk val) (ha : q ≤ n) (hp : ∀ k, 0 ≤ t k) (hk : (tk = -1 ∧ tok = 0) ∨ (tk = -2 ∧ tok = 2) ∨ (tk = -3 ∧ tok = 4) ∨ (97 ≤ tk ∧ tk ≤ 122 ∧ tok = 1 ∧ val = tk) ∨ ((tk = 44 ∨ tk = 59) ∧ tok = 3 ∧ val = tk)) : cuR t n q at' tok val := by
  have b := stepR_bd h ha hp
  obtain ⟨h1, h2, h3⟩ := h
  rw [h2] at hk h3 b
  refine ⟨?_, h1, b.1, b.2.1, b.2.2.1, b.2.2.2⟩
  rcases hk with k | k | k | k | k
  · exact Or.inl k
  · exact Or.inr (Or.inl ⟨k.1, k.2, h3 k.1⟩)
  · exact Or.inr (Or.inr (Or.inl k))
  · exact Or.inr (Or.inr (Or.inr (Or.inl k)))
  · exact Or.inr (Or.inr (Or.inr (Or.inr k)))
theorem cu_at {t : Nat → Int} {n q : Nat} {at' tok val : Int} (h : cuR t n q at' tok val) : at' = tNx t n q ∧ 0 ≤ at' ∧ at' ≤ n ∧ (q : Int) ≤ at' ∧ (tTok t n q = -1 ∨ (q : Int) < at') := h.2
theorem cu_sign {t : Nat → Int} {n q : Nat} {at' tok val c : Int} (h : cuR t n q at' tok val) (hc : c = 44 ∨ c = 59) : (tok = 3 ∧ val = c) ↔ tTok t n q = c := by
  have h := h.1
  omega
theorem cu_num {t : Nat → Int} {n q : Nat} {at' tok val : Int} (h : cuR t n q at' tok val) : (tok = 2 ↔ tTok t n q = -2) ∧ (tok = 2 → (val = tNum t n q ∧ 0 ≤ val ∧ val ≤ 999)) := by
  have h := h.1
  omega
theorem cu_let {t : Nat → Int} {n q : Nat} {at' tok val c : Int} (h : cuR t n q at' tok val) (h0 : 97 ≤ c) (h1 : c ≤ 122) : (tok = 1 ∧ val = c) ↔ tTok t n q = c := by
  have h := h.1
  omega
theorem cu_end {t : Nat → Int} {n q : Nat} {at' tok val : Int} (h : cuR t n q at' tok val) : tok = 0 ↔ tTok t n q = -1 := by
  have h := h.1
  omega
theorem cu_kind {t : Nat → Int} {n q : Nat} {at' tok val : Int} (h : cuR t n q at' tok val) : (tok = 1 ∧ tKind val ≠ 0 → tKind val = tKind (tTok t n q)) ∧ (¬ (tok = 1 ∧ tKind val ≠ 0) → tKind (tTok t n q) = 0) := by
  have h := h.1
  refine ⟨fun z => ?_, fun z => ?_⟩
  · rw [show val = tTok t n q by omega]
  · by_cases k : tok = 1
    · have e : val = tTok t n q := by omega
      rw [← e]
      by_cases w : tKind val = 0
      · exact w
      · exact absurd ⟨k, w⟩ z
    · exact tKind_no (by omega) (by omega) (by omega) (by omega) (by omega)
/-- what the reference's row says of its edition e -/
def drR (g : Nat → Int32) (e : Nat) (ps : List (Int × Int)) : Prop := (g (3 + e)).toInt = (ps.length : Int) ∧ ps.length ≤ 6 ∧ ∀ (s : Nat) (q : Int × Int), ps[s]? = some q → (g (8 + 24 * e + 4 * s + 1)).toInt = q.1 ∧ (g (8 + 24 * e + 4 * s + 2)).toInt = q.2 ∧ 0 ≤ q.1 ∧ 1 ≤ q.2 ∧ q.1 + q.2 ≤ 200
theorem drR_0 {g : Nat → Int32} {e : Nat} (h : (g (3 + e)).toInt = 0) : drR g e [] := ⟨h, Nat.zero_le _, fun s q hq => by cases hq⟩
theorem drR_put {g g2 : Nat → Int32} {e : Nat} {ps : List (Int × Int)} {k fr m f : Int} (hd : drR g e ps) (h6 : ps.length < 6) (p : puR g e k fr m f g2) (hf : 0 ≤ fr) (hm : 1 ≤ m) (hl : fr + m ≤ 200) : drR g2 e (ps ++ [(fr, m)]) := by
  obtain ⟨d1, d2, d3⟩ := hd
  have hc : (g (3 + e)).toInt.toNat = ps.length := by omega
  refine ⟨by rw [p.hc, d1]; simp, by simp; omega, fun i q hi => ?_⟩
  by_cases hlt : i < ps.length
  · rw [List.getElem?_append_left hlt] at hi
    obtain ⟨q1, q2, q3⟩ := d3 i q hi
    refine ⟨?_, ?_, q3⟩
    · rw [p.hr _ (by omega) (by omega)]; exact q1
    · rw [p.hr _ (by omega) (by omega)]; exact q2
  · rw [List.getElem?_append_right (by omega)] at hi
    have hi2 : i - ps.length = 0 := by
      have := (List.getElem?_eq_some_iff.mp hi).1
      simpa using this
    rw [hi2] at hi
    cases hi
    have e1 : i = ps.length := by omega
    subst e1
    have a1 := p.h1
    have a2 := p.h2
    rw [hc] at a1 a2
    exact ⟨a1, a2, hf, hm, hl⟩
theorem gNo_ps {g : Nat → Int32} {e : Nat} {ps : List (Int × Int)} {line : Int} (hd : drR g e ps) : gNo g e line (-1000000) (g (3 + e)).toInt ↔ ∀ q ∈ ps, line + 1 ≤ q.1 ∨ q.1 + q.2 ≤ line := by
  obtain ⟨d1, d2, d3⟩ := hd
  refine ⟨fun h q hq => ?_, fun h s hs _ hi => ?_⟩
  · obtain ⟨i, hi⟩ := List.mem_iff_getElem?.mp hq
    have hl := (List.getElem?_eq_some_iff.mp hi).1
    obtain ⟨q1, q2, _⟩ := d3 i q hi
    have hn := h i (by omega) (by omega)
    unfold gIn at hn
    rw [q1, q2] at hn
    omega
  · have hl : s < ps.length := by omega
    obtain ⟨q1, q2, _⟩ := d3 s _ (List.getElem?_eq_getElem hl)
    have hn := h _ (List.getElem_mem hl)
    unfold gIn at hi
    rw [q1, q2] at hi
    omega
theorem gFrom_u {g : Nat → Int32} {e : Nat} {ps : List (Int × Int)} {fr L : Int} (hd : drR g e ps) (hL : (g 0).toInt = L) : bI (gFrom g e fr (-1000000)) = bI (uFrom L ps fr) := by
  refine bI_c ⟨fun h => ⟨h.1, by rw [← hL]; exact h.2.1, (gNo_ps hd).mp h.2.2⟩, fun h => ⟨h.1, by rw [hL]; exact h.2.1, (gNo_ps hd).mpr h.2.2⟩⟩
theorem gMany_u {g : Nat → Int32} {e : Nat} {ps : List (Int × Int)} {fr m L : Int} (hd : drR g e ps) (hL : (g 0).toInt = L) : bI (gMany g e fr m (-1000000)) = bI (uMany L ps fr m) := by
  refine bI_c ⟨fun h => ⟨h.1, by rw [← hL]; exact h.2.1, fun q hq => ?_⟩, fun h => ⟨h.1, by rw [hL]; exact h.2.1, fun line l1 l2 => (gNo_ps hd).mpr (fun q hq => ?_)⟩⟩
  · have hm := h.1
    obtain ⟨i, hi⟩ := List.mem_iff_getElem?.mp hq
    obtain ⟨_, _, b1, b2, _⟩ := hd.2.2 i q hi
    by_cases z : fr + m ≤ q.1 ∨ q.1 + q.2 ≤ fr
    · exact z
    · have w := (gNo_ps hd).mp (h.2.2 (if fr ≤ q.1 then q.1 else fr) (by split <;> omega) (by split <;> omega)) q hq
      split at w <;> omega
  · have := h.2.2 q hq
    omega
/-- first and greatest numbers, both ways of saying it -/
theorem isF_tGr {k m f : Int} (hk : 1 ≤ k) (hk5 : k ≤ 5) : (1 ≤ f ∧ f ≤ 999 ∧ (k = 2 → f + (2 * m - 1) ≤ 999) ∧ (k = 3 → f + (m - 1) / 2 ≤ 999) ∧ (k ≠ 2 → k ≠ 3 → k ≠ 5 → f + (m - 1) ≤ 999)) ↔ (1 ≤ f ∧ f ≤ 999 ∧ tGr k m f ≤ 999) := by
  have h : (k = 2 ∧ tGr k m f = f + (2 * m - 1)) ∨ (k = 3 ∧ tGr k m f = f + (m - 1) / 2) ∨ (k = 5 ∧ tGr k m f = f) ∨ ((k = 1 ∨ k = 4) ∧ tGr k m f = f + (m - 1)) := by
    rcases (show k = 1 ∨ k = 2 ∨ k = 3 ∨ k = 4 ∨ k = 5 by omega) with q | q | q | q | q <;> subst q <;> simp [tGr]
  omega
theorem tNx_of2 {t : Nat → Int} {n a : Nat} (h : tTok t n a = -2) : a < tNx t n a := by
  refine tNx_gt (Nat.lt_of_not_le (fun q => ?_))
  have := tTok_end (t := t) (n := n) (a := a) (by omega)
  omega
theorem tTok_k {t : Nat → Int} {n a : Nat} (h : tTok t n a ≠ -1) : a < n := Nat.lt_of_not_le (fun q => h (tTok_end (by omega)))
/-! feed -/
def rfS (b : Int) (g : Nat → Int32) (sz : Int) (g2 : Nat → Int32) (sz2 : Int) : Prop := (0 ≤ b ∧ b ≤ 255 ∧ ((sz < 200 ∧ sz2 = sz + 1 ∧ ∀ k : Nat, tR g2 k = if k = sz.toNat then b else tR g k) ∨ (sz = 200 ∧ sz2 = sz ∧ g2 = g))) ∨ (¬ (0 ≤ b ∧ b ≤ 255) ∧ sz2 = sz ∧ g2 = g)
theorem rfS_bad {b sz : Int} {g : Nat → Int32} (h : ¬ (0 ≤ b ∧ b ≤ 255)) : rfS b g sz g sz := Or.inr ⟨h, rfl, rfl⟩
theorem rfS_full {b sz : Int} {g : Nat → Int32} (h0 : 0 ≤ b) (h1 : b ≤ 255) (h : sz = 200) : rfS b g sz g sz := Or.inl ⟨h0, h1, Or.inr ⟨h, rfl, rfl⟩⟩
theorem rfS_1 {b ix : Int32} {g g2 : Nat → Int32} {sz2 : Int} (h0 : 0 ≤ b.toInt) (h1 : b.toInt ≤ 255) (hs : ix.toInt < 200) (e : g2 = upd g ix.toNatClampNeg b) (h2 : sz2 = ix.toInt + 1) : rfS b.toInt g ix.toInt g2 sz2 := by
  refine Or.inl ⟨h0, h1, Or.inl ⟨hs, h2, fun k => ?_⟩⟩
  show (g2 k).toInt = _
  rw [e]
  unfold upd
  by_cases hk : k = ix.toInt.toNat
  · rw [if_pos hk, if_pos (show k = ix.toNatClampNeg from hk)]
  · rw [if_neg hk, if_neg (show ¬ k = ix.toNatClampNeg from hk)]; rfl
