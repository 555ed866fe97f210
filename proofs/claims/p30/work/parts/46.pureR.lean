/-! the reference's row of 192 numbers: what holds of it -/
def vS (k fr m f : Int) : Prop := 1 ≤ k ∧ k ≤ 5 ∧ 0 ≤ fr ∧ 1 ≤ m ∧ fr + m ≤ 200 ∧ 1 ≤ f ∧ f ≤ 999 ∧ (k = 2 → f + (2 * m - 1) ≤ 999) ∧ (k = 3 → f + (m - 1) / 2 ≤ 999) ∧ (k ≠ 2 → k ≠ 3 → k ≠ 5 → f + (m - 1) ≤ 999)
def gS (g : Nat → Int32) (e s : Nat) : Prop := vS (g (8 + 24 * e + 4 * s + 0)).toInt (g (8 + 24 * e + 4 * s + 1)).toInt (g (8 + 24 * e + 4 * s + 2)).toInt (g (8 + 24 * e + 4 * s + 3)).toInt
def gV (g : Nat → Int32) : Prop := (0 ≤ (g 0).toInt ∧ (g 0).toInt ≤ 200) ∧ (0 ≤ (g 1).toInt ∧ (g 1).toInt ≤ 5) ∧ (0 ≤ (g 2).toInt ∧ (g 2).toInt ≤ 12) ∧ (∀ e, e < 5 → 0 ≤ (g (3 + e)).toInt ∧ (g (3 + e)).toInt ≤ 6) ∧ (∀ e s : Nat, e < 5 → (s : Int) < (g (3 + e)).toInt → gS g e s) ∧ (∀ c, c < 8 → 0 ≤ (g (128 + 5 * c + 1)).toInt ∧ (g (128 + 5 * c + 1)).toInt ≤ 4) ∧ (∀ k, k < 12 → 0 ≤ (g (168 + 2 * k + 1)).toInt ∧ (g (168 + 2 * k + 1)).toInt ≤ 199)
theorem gV_of {g : Nat → Int32} (h : (0 ≤ (g 0).toInt ∧ (g 0).toInt ≤ 200) ∧ (0 ≤ (g 1).toInt ∧ (g 1).toInt ≤ 5) ∧ (0 ≤ (g 2).toInt ∧ (g 2).toInt ≤ 12) ∧ (∀ e, e < 5 → 0 ≤ (g (3 + e)).toInt ∧ (g (3 + e)).toInt ≤ 6) ∧ (∀ e s : Nat, e < 5 → (s : Int) < (g (3 + e)).toInt → gS g e s) ∧ (∀ c, c < 8 → 0 ≤ (g (128 + 5 * c + 1)).toInt ∧ (g (128 + 5 * c + 1)).toInt ≤ 4) ∧ (∀ k, k < 12 → 0 ≤ (g (168 + 2 * k + 1)).toInt ∧ (g (168 + 2 * k + 1)).toInt ≤ 199)) : gV g := h
theorem gV.h0 {g : Nat → Int32} (h : gV g) : 0 ≤ (g 0).toInt ∧ (g 0).toInt ≤ 200 := h.1
theorem gV.h1 {g : Nat → Int32} (h : gV g) : 0 ≤ (g 1).toInt ∧ (g 1).toInt ≤ 5 := h.2.1
theorem gV.h2 {g : Nat → Int32} (h : gV g) : 0 ≤ (g 2).toInt ∧ (g 2).toInt ≤ 12 := h.2.2.1
theorem gV.hm {g : Nat → Int32} (h : gV g) : ∀ e, e < 5 → 0 ≤ (g (3 + e)).toInt ∧ (g (3 + e)).toInt ≤ 6 := h.2.2.2.1
theorem gV.hs {g : Nat → Int32} (h : gV g) : ∀ e s : Nat, e < 5 → (s : Int) < (g (3 + e)).toInt → gS g e s := h.2.2.2.2.1
theorem gV.hc {g : Nat → Int32} (h : gV g) : ∀ c, c < 8 → 0 ≤ (g (128 + 5 * c + 1)).toInt ∧ (g (128 + 5 * c + 1)).toInt ≤ 4 := h.2.2.2.2.2.1
theorem gV.hl {g : Nat → Int32} (h : gV g) : ∀ k, k < 12 → 0 ≤ (g (168 + 2 * k + 1)).toInt ∧ (g (168 + 2 * k + 1)).toInt ≤ 199 := h.2.2.2.2.2.2
theorem gV_z : gV (fun _ => 0) := gV_of ⟨by decide, by decide, by decide, fun _ _ => by decide, fun e s _ h => by have : ((0 : Int32)).toInt = 0 := (by decide); omega, fun _ _ => by decide, fun _ _ => by decide⟩
theorem gV_0 {g : Nat → Int32} {x : Int32} (h : gV g) (e : x = g (0 : Int32).toNatClampNeg) : 0 ≤ x.toInt ∧ x.toInt ≤ 200 := by rw [e]; exact h.h0
theorem gV_1 {g : Nat → Int32} {x : Int32} (h : gV g) (e : x = g (1 : Int32).toNatClampNeg) : 0 ≤ x.toInt ∧ x.toInt ≤ 5 := by rw [e]; exact h.h1
theorem gV_2 {g : Nat → Int32} {x : Int32} (h : gV g) (e : x = g (2 : Int32).toNatClampNeg) : 0 ≤ x.toInt ∧ x.toInt ≤ 12 := by rw [e]; exact h.h2
theorem gV_m {g : Nat → Int32} {x k : Int32} (h : gV g) (e : x = g k.toNatClampNeg) (a : 3 ≤ k.toInt) (b : k.toInt ≤ 7) : 0 ≤ x.toInt ∧ x.toInt ≤ 6 := by
  have := h.hm (k.toInt.toNat - 3) (by omega)
  rw [show 3 + (k.toInt.toNat - 3) = k.toInt.toNat by omega] at this
  rw [e]; exact this
theorem gV_c {g : Nat → Int32} {x : Int} {c : Nat} (h : gV g) (e : x = (g (128 + 5 * c + 1)).toInt) (b : c < 8) : 0 ≤ x ∧ x ≤ 4 := by rw [e]; exact h.hc c b
theorem gV_l {g : Nat → Int32} {x : Int} {c : Nat} (h : gV g) (e : x = (g (168 + 2 * c + 1)).toInt) (b : c < 12) : 0 ≤ x ∧ x ≤ 199 := by rw [e]; exact h.hl c b
theorem pw_nI {x : Int32} (h : 0 ≤ x.toInt) : x = nI x.toInt.toNat ∧ x.toInt.toNat < 2 ^ 31 := by
  obtain ⟨j, hj, hx⟩ := nI_of (x := x) (fun q => by have := Int32.lt_iff_toInt_lt.mp q; have h0 : (0 : Int32).toInt = 0 := by decide
                                                    omega)
  have : x.toInt = (j : Int) := by rw [hx, nI_toInt hj]
  have e : x.toInt.toNat = j := by omega
  rw [e]; exact ⟨hx, hj⟩
theorem pw_divc {x y c : Int32} {d : Nat} (e : y = x / c) (hc : c = nI d) (h : 0 ≤ x.toInt) (h0 : 0 < d) (hd : d < 2 ^ 31) : y.toInt = x.toInt / (d : Int) := by
  obtain ⟨hx, hj⟩ := pw_nI h
  rw [e, hc]
  have e2 : x / nI d = nI (x.toInt.toNat / d) := by
    rw [show x / nI d = nI x.toInt.toNat / nI d from by rw [← hx]]
    exact pk_div hj h0 hd
  rw [e2, nI_toInt (Nat.lt_of_le_of_lt (Nat.div_le_self _ _) hj)]
  have : x.toInt = (x.toInt.toNat : Int) := by omega
  rw [Int.natCast_ediv, ← this]
theorem pw_remc {x y c : Int32} {d : Nat} (e : y = x - x / c * c) (hc : c = nI d) (h : 0 ≤ x.toInt) (h0 : 0 < d) (hd : d < 2 ^ 31) : y.toInt = x.toInt % (d : Int) := by
  obtain ⟨hx, hj⟩ := pw_nI h
  rw [e, hc]
  have e2 : x - x / nI d * nI d = nI (x.toInt.toNat % d) := by
    rw [show x - x / nI d * nI d = nI x.toInt.toNat - nI x.toInt.toNat / nI d * nI d from by rw [← hx]]
    exact pk_rem hj h0 hd
  rw [e2, nI_toInt (Nat.lt_of_le_of_lt (Nat.mod_le _ _) hj)]
  have : x.toInt = (x.toInt.toNat : Int) := by omega
  rw [Int.natCast_emod, ← this]
/-- line lies in the stretch s -/
def gIn (g : Nat → Int32) (e s : Nat) (line : Int) : Prop := (g (8 + 24 * e + 4 * s + 1)).toInt ≤ line ∧ line < (g (8 + 24 * e + 4 * s + 1)).toInt + (g (8 + 24 * e + 4 * s + 2)).toInt
def gNo (g : Nat → Int32) (e : Nat) (line but n : Int) : Prop := ∀ s : Nat, (s : Int) < n → (s : Int) ≠ but → ¬ gIn g e s line
def soI (g : Nat → Int32) (e : Nat) (line but n r : Int) : Prop := (r = -1000000 ∧ gNo g e line but n) ∨ (0 ≤ r ∧ r < n ∧ r ≠ but ∧ gIn g e r.toNat line)
def soR (g : Nat → Int32) (e : Nat) (line but r : Int) : Prop := soI g e line but (g (3 + e)).toInt r
theorem soI_0 {g : Nat → Int32} {e : Nat} {line but n r : Int} (hr : r = -1000000) (hn : n = 0) : soI g e line but n r := Or.inl ⟨hr, fun s h => by omega⟩
theorem soI_y {g : Nat → Int32} {e : Nat} {line but n n2 r r2 a b : Int} (h0 : 0 ≤ n) (ha : a = (g (8 + 24 * e + 4 * n.toNat + 1)).toInt) (hb : b = (g (8 + 24 * e + 4 * n.toNat + 2)).toInt) (h1 : a ≤ line) (h2 : line < a + b) (hq : n ≠ but) (e1 : n2 = n + 1) (e2 : r2 = n) : soI g e line but n2 r2 := by
  subst e2; subst ha; subst hb
  exact Or.inr ⟨h0, by omega, hq, h1, h2⟩
theorem soI_n {g : Nat → Int32} {e : Nat} {line but n n2 r : Int} (h : soI g e line but n r) (h0 : 0 ≤ n) (hq : n = but ∨ ¬ gIn g e n.toNat line) (e1 : n2 = n + 1) : soI g e line but n2 r := by
  subst e1
  rcases h with ⟨h1, h2⟩ | ⟨h1, h2, h3⟩
  · refine Or.inl ⟨h1, fun s hs hb => ?_⟩
    by_cases q : (s : Int) < n
    · exact h2 s q hb
    · have e2 : (s : Int) = n := by omega
      rcases hq with hq | hq
      · omega
      · rw [← e2] at hq; exact hq
  · exact Or.inr ⟨h1, by omega, h3⟩
theorem gIn_no {g : Nat → Int32} {e : Nat} {line n a b : Int} (ha : a = (g (8 + 24 * e + 4 * n.toNat + 1)).toInt) (hb : b = (g (8 + 24 * e + 4 * n.toNat + 2)).toInt) (h : line < a ∨ a + b ≤ line) : ¬ gIn g e n.toNat line := by
  subst ha; subst hb
  intro q
  have := q.1; have := q.2
  omega
theorem soR_in {g : Nat → Int32} {e : Nat} {line but r : Int} (h : soR g e line but r) (hr : r ≠ -1000000) : 0 ≤ r ∧ r < (g (3 + e)).toInt ∧ r ≠ but ∧ (g (8 + 24 * e + 4 * r.toNat + 1)).toInt ≤ line ∧ line < (g (8 + 24 * e + 4 * r.toNat + 1)).toInt + (g (8 + 24 * e + 4 * r.toNat + 2)).toInt := by
  rcases h with ⟨h1, _⟩ | ⟨h1, h2, h3, h4, h5⟩
  · exact absurd h1 hr
  · exact ⟨h1, h2, h3, h4, h5⟩
theorem soR_no {g : Nat → Int32} {e : Nat} {line but r : Int} (h : soR g e line but r) (hr : r = -1000000) : gNo g e line but (g (3 + e)).toInt := by
  rcases h with ⟨_, h2⟩ | ⟨h1, _⟩
  · exact h2
  · omega
theorem soR_yes {g : Nat → Int32} {e : Nat} {line but r : Int} (h : soR g e line but r) (hr : r ≠ -1000000) : ¬ gNo g e line but (g (3 + e)).toInt := by
  rcases h with ⟨h1, _⟩ | ⟨h1, h2, h3, h4⟩
  · exact absurd h1 hr
  · intro q
    refine q r.toNat (by omega) (by omega) h4
def gFrom (g : Nat → Int32) (e : Nat) (fr but : Int) : Prop := 0 ≤ fr ∧ fr < (g 0).toInt ∧ gNo g e fr but (g (3 + e)).toInt
def gMany (g : Nat → Int32) (e : Nat) (fr m but : Int) : Prop := 1 ≤ m ∧ m ≤ (g 0).toInt - fr ∧ ∀ line : Int, fr ≤ line → line < fr + m → gNo g e line but (g (3 + e)).toInt
/-- all lines from fr up to n are free, or is is 0 -/
def mnI (g : Nat → Int32) (e : Nat) (fr but n is : Int) : Prop := (is = 1 ∧ ∀ line : Int, fr ≤ line → line < n → gNo g e line but (g (3 + e)).toInt) ∨ (is = 0 ∧ ∃ line : Int, fr ≤ line ∧ line < n ∧ ¬ gNo g e line but (g (3 + e)).toInt)
theorem mnI_0 {g : Nat → Int32} {e : Nat} {fr but n is : Int} (h : is = 1) (hn : n = fr) : mnI g e fr but n is := Or.inl ⟨h, fun line h1 h2 => by omega⟩
theorem mnI_y {g : Nat → Int32} {e : Nat} {fr but n n2 is is2 r : Int} (h : mnI g e fr but n is) (h1 : is = 1) (hs : soR g e n but r) (hr : r = -1000000) (e1 : n2 = n + 1) (e2 : is2 = 1) : mnI g e fr but n2 is2 := by
  rcases h with ⟨_, h⟩ | ⟨h, _⟩
  · refine Or.inl ⟨e2, fun line q1 q2 => ?_⟩
    by_cases q : line < n
    · exact h line q1 q
    · rw [show line = n by omega]; exact soR_no hs hr
  · omega
theorem mnI_n {g : Nat → Int32} {e : Nat} {fr but n n2 is2 r : Int} (hf : fr ≤ n) (hs : soR g e n but r) (hr : r ≠ -1000000) (e1 : n2 = n + 1) (e2 : is2 = 0) : mnI g e fr but n2 is2 := Or.inr ⟨e2, n, hf, by omega, soR_yes hs hr⟩
theorem mnI_end {g : Nat → Int32} {e : Nat} {fr but n is m : Int} (h : mnI g e fr but n is) (h1 : 1 ≤ m) (h2 : m ≤ (g 0).toInt - fr) (hn : is = 0 ∨ fr + m ≤ n) (hl : n ≤ fr + m) : is = bI (gMany g e fr m but) := by
  rcases h with ⟨q, h⟩ | ⟨q, line, l1, l2, l3⟩
  · rw [q]; exact (bI_t (P := gMany g e fr m but) ⟨h1, h2, fun line a b => h line a (by omega)⟩).symm
  · rw [q]; exact (bI_f (P := gMany g e fr m but) (fun z => l3 (z.2.2 line l1 (by omega)))).symm
theorem gMany_no {g : Nat → Int32} {e : Nat} {fr m but : Int} (h : ¬ (1 ≤ m ∧ m ≤ (g 0).toInt - fr)) : bI (gMany g e fr m but) = 0 := bI_f (fun q => h ⟨q.1, q.2.1⟩)
theorem gFrom_no {g : Nat → Int32} {e : Nat} {fr but : Int} (h : ¬ (0 ≤ fr ∧ fr < (g 0).toInt)) : bI (gFrom g e fr but) = 0 := bI_f (fun q => h ⟨q.1, q.2.1⟩)
theorem gFrom_n2 {g : Nat → Int32} {e : Nat} {fr but r : Int} (hs : soR g e fr but r) (hr : r ≠ -1000000) : bI (gFrom g e fr but) = 0 := bI_f (fun q => soR_yes hs hr q.2.2)
theorem gFrom_y {g : Nat → Int32} {e : Nat} {fr but r : Int} (h0 : 0 ≤ fr) (h1 : fr < (g 0).toInt) (hs : soR g e fr but r) (hr : r = -1000000) : bI (gFrom g e fr but) = 1 := bI_t ⟨h0, h1, soR_no hs hr⟩
theorem gV_00 {g : Nat → Int32} {x : Int32} (e : x = g (0 : Int32).toNatClampNeg) : x.toInt = (g 0).toInt := by rw [e]; rfl
