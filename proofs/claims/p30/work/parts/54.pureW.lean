/-! the reference's row where it is written -/
theorem gV_cong {g g2 : Nat → Int32} (h : gV g) (e : ∀ i, i < 192 → g2 i = g i) : gV g2 := by
  refine gV_of ⟨by rw [e 0 (by decide)]; exact h.h0, by rw [e 1 (by decide)]; exact h.h1, by rw [e 2 (by decide)]; exact h.h2, fun k hk => by rw [e _ (by omega)]; exact h.hm k hk, fun k s hk hs => ?_, fun c hc => by rw [e _ (by omega)]; exact h.hc c hc, fun c hc => by rw [e _ (by omega)]; exact h.hl c hc⟩
  rw [e _ (by omega)] at hs
  have h6 := (h.hm k hk).2
  have := h.hs k s hk hs
  unfold gS at this ⊢
  rw [e _ (by omega), e _ (by omega), e _ (by omega), e _ (by omega)]
  exact this
def gW (g : Nat → Int32) : Prop := gV g ∧ 1 ≤ (g 0).toInt
theorem gW_cong {g g2 : Nat → Int32} (h : gW g) (e : ∀ i, i < 192 → g2 i = g i) : gW g2 := ⟨gV_cong h.1 e, by rw [e 0 (by decide)]; exact h.2⟩
/-- the blocks of past below n are good -/
def pB (p : Nat → Int32) (n : Int) : Prop := ∀ k : Nat, (k : Int) < n → gW (fun i => p (192 * k + i))
theorem pB_0 {p : Nat → Int32} {n : Int} (h : n ≤ 0) : pB p n := fun k hk => by omega
theorem pB_le {p : Nat → Int32} {n n2 : Int} (h : pB p n) (h2 : n2 ≤ n) : pB p n2 := fun k hk => h k (by omega)
def iB (p kp : Nat → Int32) : Prop := ∀ k : Nat, k < 2 → (kp k).toInt ≠ 0 → gW (fun i => p (192 * k + i))
theorem cp_0 {f g : Nat → Int32} {a b : Nat} : g = va_cpy f g a b 0 := by
  funext j
  rw [pk_cpy_out (by omega)]
theorem cp_step {f g h h2 : Nat → Int32} {a b k : Nat} {ix x : Int32} (hh : h = va_cpy f g a b k) (e : h2 = upd h ix.toNatClampNeg x) (hi : ix.toInt = ((b + k : Nat) : Int)) (hx : x = f (a + k)) : h2 = va_cpy f g a b (k + 1) := by
  rw [updAt e hi]
  funext j
  by_cases hj : j = b + k
  · subst hj
    rw [upd_eq, pk_cpy_in (by omega) (by omega), hx]
    congr 1; omega
  · rw [upd_ne hj, hh]
    by_cases hb : b ≤ j ∧ j < b + k
    · rw [pk_cpy_in hb.1 hb.2, pk_cpy_in hb.1 (by omega)]
    · rw [pk_cpy_out (by omega), pk_cpy_out (by omega)]
theorem at_nat {g : Nat → Int32} {k x : Int32} {a : Nat} (e : x = g k.toNatClampNeg) (ha : k.toInt = (a : Int)) : x = g a := by
  rw [e, show k.toNatClampNeg = a from (by show k.toInt.toNat = a; omega)]
/-- a copy of a good block is good -/
theorem cp_in {f g h : Nat → Int32} {a : Nat} (e : h = va_cpy f g a 0 192) : ∀ i, i < 192 → h i = f (a + i) := fun i hi => by
  rw [e, pk_cpy_in (by omega) (by omega)]; congr 1
theorem pB_get {p g h : Nat → Int32} {n : Int} {k a : Nat} (hp : pB p n) (hk : (k : Int) < n) (ha : a = 192 * k) (e : h = va_cpy p g a 0 192) : gW h := by
  subst ha
  exact gW_cong (hp k hk) (fun i hi => cp_in e i hi)
theorem pB_put {p p2 g : Nat → Int32} {n n2 : Int} {b : Nat} (hp : pB p n) (hg : gW g) (h0 : 0 ≤ n) (hb : (b : Int) = 192 * n) (e : p2 = va_cpy g p 0 b 192) (e2 : n2 = n + 1) : pB p2 n2 := fun k hk => by
  by_cases q : (k : Int) < n
  · refine gW_cong (hp k q) (fun i hi => ?_)
    show p2 (192 * k + i) = _
    rw [e, pk_cpy_out (by omega)]
  · refine gW_cong hg (fun i hi => ?_)
    show p2 (192 * k + i) = _
    rw [e, pk_cpy_in (by omega) (by omega)]
    congr 1; omega
theorem iB_put {p p2 g kp kp2 : Nat → Int32} {b : Nat} {k : Int32} (hp : iB p kp) (hg : gW g) (h0 : 0 ≤ k.toInt) (h1 : k.toInt ≤ 1) (hb : (b : Int) = 192 * k.toInt) (e : p2 = va_cpy g p 0 b 192) (ek : kp2 = upd kp k.toNatClampNeg (vp_nar .boolean 1)) : iB p2 kp2 := fun j hj hq => by
  by_cases q : (j : Int) = k.toInt
  · refine gW_cong hg (fun i hi => ?_)
    show p2 (192 * j + i) = _
    rw [e, pk_cpy_in (by omega) (by omega)]
    congr 1; omega
  · rw [ek, upd_ne (show j ≠ k.toNatClampNeg from (by show j ≠ k.toInt.toNat; omega))] at hq
    refine gW_cong (hp j hj hq) (fun i hi => ?_)
    show p2 (192 * j + i) = _
    rw [e, pk_cpy_out (by omega)]
theorem iB_get {p g h kp : Nat → Int32} {k x : Int32} {a : Nat} (hp : iB p kp) (h0 : 0 ≤ k.toInt) (h1 : k.toInt ≤ 1) (hx : x = kp k.toNatClampNeg) (hn : x.toInt ≠ 0) (ha : (a : Int) = 192 * k.toInt) (e : h = va_cpy p g a 0 192) : gW h := by
  have e2 : a = 192 * k.toInt.toNat := by omega
  subst e2
  exact gW_cong (hp k.toInt.toNat (by omega) (by rw [hx] at hn; exact hn)) (fun i hi => cp_in e i hi)
/-- moved down by 192 below v -/
def shI (f g : Nat → Int32) (v : Int) : Prop := ∀ j : Nat, f j = if (j : Int) < v then g (j + 192) else g j
theorem shI_0 {g : Nat → Int32} {v : Int} (h : v = 0) : shI g g v := fun j => by rw [if_neg (by omega)]
theorem shI_up {f f2 g : Nat → Int32} {v v2 : Int} {ix iy x : Int32} (h : shI f g v) (h0 : 0 ≤ v) (e : f2 = upd f ix.toNatClampNeg x) (hi : ix.toInt = v) (ex : x = f iy.toNatClampNeg) (hy : iy.toInt = v + 192) (e2 : v2 = v + 1) : shI f2 g v2 := fun j => by
  rw [updAt (a := v.toNat) e (by omega)]
  by_cases q : j = v.toNat
  · subst q
    rw [upd_eq, if_pos (by omega), at_nat (a := v.toNat + 192) ex (by omega), h, if_neg (by omega)]
  · rw [upd_ne q, h]
    by_cases z : (j : Int) < v
    · rw [if_pos z, if_pos (by omega)]
    · rw [if_neg z, if_neg (by omega)]
theorem pB_sh {f g : Nat → Int32} {v : Int} (h : shI f g v) (hv : v = 1728) (hp : pB g 10) : pB f 9 := fun k hk => by
  refine gW_cong (hp (k + 1) (by omega)) (fun i hi => ?_)
  show f (192 * k + i) = g (192 * (k + 1) + i)
  rw [h, if_pos (by omega)]
  congr 1; omega
/-- a stretch more -/
def puR (g : Nat → Int32) (e : Nat) (k fr m f : Int) (g2 : Nat → Int32) : Prop := ((g2 (3 + e)).toInt = (g (3 + e)).toInt + 1) ∧ ((g2 (8 + 24 * e + 4 * (g (3 + e)).toInt.toNat + 0)).toInt = k) ∧ ((g2 (8 + 24 * e + 4 * (g (3 + e)).toInt.toNat + 1)).toInt = fr) ∧ ((g2 (8 + 24 * e + 4 * (g (3 + e)).toInt.toNat + 2)).toInt = m) ∧ ((g2 (8 + 24 * e + 4 * (g (3 + e)).toInt.toNat + 3)).toInt = f) ∧ (∀ j, j ≠ 3 + e → (j < 8 + 24 * e + 4 * (g (3 + e)).toInt.toNat ∨ 8 + 24 * e + 4 * (g (3 + e)).toInt.toNat + 4 ≤ j) → g2 j = g j)
theorem puR_of {g : Nat → Int32} {e : Nat} {k fr m f : Int} {g2 : Nat → Int32} (h : ((g2 (3 + e)).toInt = (g (3 + e)).toInt + 1) ∧ ((g2 (8 + 24 * e + 4 * (g (3 + e)).toInt.toNat + 0)).toInt = k) ∧ ((g2 (8 + 24 * e + 4 * (g (3 + e)).toInt.toNat + 1)).toInt = fr) ∧ ((g2 (8 + 24 * e + 4 * (g (3 + e)).toInt.toNat + 2)).toInt = m) ∧ ((g2 (8 + 24 * e + 4 * (g (3 + e)).toInt.toNat + 3)).toInt = f) ∧ (∀ j, j ≠ 3 + e → (j < 8 + 24 * e + 4 * (g (3 + e)).toInt.toNat ∨ 8 + 24 * e + 4 * (g (3 + e)).toInt.toNat + 4 ≤ j) → g2 j = g j)) : puR g e k fr m f g2 := h
theorem puR.hc {g : Nat → Int32} {e : Nat} {k fr m f : Int} {g2 : Nat → Int32} (h : puR g e k fr m f g2) : (g2 (3 + e)).toInt = (g (3 + e)).toInt + 1 := h.1
theorem puR.h0 {g : Nat → Int32} {e : Nat} {k fr m f : Int} {g2 : Nat → Int32} (h : puR g e k fr m f g2) : (g2 (8 + 24 * e + 4 * (g (3 + e)).toInt.toNat + 0)).toInt = k := h.2.1
theorem puR.h1 {g : Nat → Int32} {e : Nat} {k fr m f : Int} {g2 : Nat → Int32} (h : puR g e k fr m f g2) : (g2 (8 + 24 * e + 4 * (g (3 + e)).toInt.toNat + 1)).toInt = fr := h.2.2.1
theorem puR.h2 {g : Nat → Int32} {e : Nat} {k fr m f : Int} {g2 : Nat → Int32} (h : puR g e k fr m f g2) : (g2 (8 + 24 * e + 4 * (g (3 + e)).toInt.toNat + 2)).toInt = m := h.2.2.2.1
theorem puR.h3 {g : Nat → Int32} {e : Nat} {k fr m f : Int} {g2 : Nat → Int32} (h : puR g e k fr m f g2) : (g2 (8 + 24 * e + 4 * (g (3 + e)).toInt.toNat + 3)).toInt = f := h.2.2.2.2.1
theorem puR.hr {g : Nat → Int32} {e : Nat} {k fr m f : Int} {g2 : Nat → Int32} (h : puR g e k fr m f g2) : ∀ j, j ≠ 3 + e → (j < 8 + 24 * e + 4 * (g (3 + e)).toInt.toNat ∨ 8 + 24 * e + 4 * (g (3 + e)).toInt.toNat + 4 ≤ j) → g2 j = g j := h.2.2.2.2.2
theorem pu_of {g g1 g2 g3 g4 g5 : Nat → Int32} {e c : Nat} {k fr m f i0 i1 i2 i3 i4 x y : Int32} (hc : (c : Int) = (g (3 + e)).toInt) (he : e < 5) (e1 : g1 = upd g i0.toNatClampNeg k) (e2 : g2 = upd g1 i1.toNatClampNeg fr) (e3 : g3 = upd g2 i2.toNatClampNeg m) (e4 : g4 = upd g3 i3.toNatClampNeg f) (e5 : g5 = upd g4 i4.toNatClampNeg y) (q0 : i0.toInt = ((8 + 24 * e + 4 * c + 0 : Nat) : Int)) (q1 : i1.toInt = ((8 + 24 * e + 4 * c + 1 : Nat) : Int)) (q2 : i2.toInt = ((8 + 24 * e + 4 * c + 2 : Nat) : Int)) (q3 : i3.toInt = ((8 + 24 * e + 4 * c + 3 : Nat) : Int)) (q4 : i4.toInt = ((3 + e : Nat) : Int)) (hx : x = g4 i4.toNatClampNeg) (hy : y = x + 1) (h6 : c < 6) : puR g e k.toInt fr.toInt m.toInt f.toInt g5 := by
  have w1 := updAt e1 q0
  have w2 := updAt e2 q1
  have w3 := updAt e3 q2
  have w4 := updAt e4 q3
  have w5 := updAt e5 q4
  have hcc : (g (3 + e)).toInt.toNat = c := by omega
  have hx2 : x = g (3 + e) := by rw [at_nat hx q4, w4, upd_ne (by omega), w3, upd_ne (by omega), w2, upd_ne (by omega), w1, upd_ne (by omega)]
  refine puR_of ⟨?_, ?_, ?_, ?_, ?_, fun j h1 h2 => ?_⟩
  · rw [w5, upd_eq, pw_add1 hy (by rw [hx2]; omega), hx2]
  · rw [hcc, w5, upd_ne (by omega), w4, upd_ne (by omega), w3, upd_ne (by omega), w2, upd_ne (by omega), w1, upd_eq]
  · rw [hcc, w5, upd_ne (by omega), w4, upd_ne (by omega), w3, upd_ne (by omega), w2, upd_eq]
  · rw [hcc, w5, upd_ne (by omega), w4, upd_ne (by omega), w3, upd_eq]
  · rw [hcc, w5, upd_ne (by omega), w4, upd_eq]
  · rw [hcc] at h2
    rw [w5, upd_ne (by omega), w4, upd_ne (by omega), w3, upd_ne (by omega), w2, upd_ne (by omega), w1, upd_ne (by omega)]
theorem gV_pu {g g2 : Nat → Int32} {e : Nat} {k fr m f : Int} (h : gV g) (p : puR g e k fr m f g2) (he : e < 5) (h6 : (g (3 + e)).toInt < 6) (hv : vS k fr m f) : gV g2 := by
  have hm := h.hm e he
  refine gV_of ⟨by rw [p.hr 0 (by omega) (by omega)]; exact h.h0, by rw [p.hr 1 (by omega) (by omega)]; exact h.h1, by rw [p.hr 2 (by omega) (by omega)]; exact h.h2, fun k hk => ?_, fun e2 s hk hs => ?_, fun c hc => by rw [p.hr _ (by omega) (by omega)]; exact h.hc c hc, fun c hc => by rw [p.hr _ (by omega) (by omega)]; exact h.hl c hc⟩
  · by_cases q : k = e
    · subst q; rw [p.hc]; omega
    · rw [p.hr _ (by omega) (by omega)]; exact h.hm k hk
  · by_cases q : e2 = e
    · subst q
      rw [p.hc] at hs
      by_cases z : (s : Int) < (g (3 + e2)).toInt
      · have := h.hs e2 s hk z
        unfold gS at this ⊢
        rw [p.hr _ (by omega) (by omega), p.hr _ (by omega) (by omega), p.hr _ (by omega) (by omega), p.hr _ (by omega) (by omega)]
        exact this
      · have hse : s = (g (3 + e2)).toInt.toNat := by omega
        subst hse
        unfold gS
        rw [p.h0, p.h1, p.h2, p.h3]; exact hv
    · rw [p.hr _ (by omega) (by omega)] at hs
      have h7 := (h.hm e2 hk).2
      have := h.hs e2 s hk hs
      unfold gS at this ⊢
      rw [p.hr _ (by omega) (by omega), p.hr _ (by omega) (by omega), p.hr _ (by omega) (by omega), p.hr _ (by omega) (by omega)]
      exact this
theorem gFrom_b {g : Nat → Int32} {e : Nat} {fr but : Int} (h : bI (gFrom g e fr but) = 1) : 0 ≤ fr ∧ fr < (g 0).toInt := ⟨(bI_1 h).1, (bI_1 h).2.1⟩
theorem gMany_b {g : Nat → Int32} {e : Nat} {fr m but : Int} (h : bI (gMany g e fr m but) = 1) : 1 ≤ m ∧ m ≤ (g 0).toInt - fr := ⟨(bI_1 h).1, (bI_1 h).2.1⟩
/-- an edition's numbers moved down by 4 from a on, below b + v -/
def drI (f g : Nat → Int32) (a b : Nat) (v : Int) : Prop := ∀ j : Nat, f j = if a ≤ j ∧ (j : Int) < b + v then g (j + 4) else g j
theorem drI_0 {g : Nat → Int32} {a b : Nat} {v : Int} (h : (a : Int) = b + v) : drI g g a b v := fun j => by rw [if_neg (by omega)]
theorem drI_up {f f2 g : Nat → Int32} {a b : Nat} {v v2 : Int} {ix iy x : Int32} (h : drI f g a b v) (h0 : (a : Int) ≤ b + v) (e : f2 = upd f ix.toNatClampNeg x) (hi : ix.toInt = b + v) (ex : x = f iy.toNatClampNeg) (hy : iy.toInt = b + v + 4) (e2 : v2 = v + 1) : drI f2 g a b v2 := fun j => by
  rw [updAt (a := (b + v).toNat) e (by omega)]
  by_cases q : j = (b + v).toNat
  · rw [q, upd_eq, if_pos (by omega), at_nat (a := (b + v).toNat + 4) ex (by omega), h, if_neg (by omega)]
  · rw [upd_ne q, h]
    by_cases z : a ≤ j ∧ (j : Int) < b + v
    · rw [if_pos z, if_pos (by omega)]
    · rw [if_neg z, if_neg (by omega)]
theorem gV_dr {g f f2 : Nat → Int32} {e s : Nat} {v : Int} {i4 x y : Int32} (h : gV g) (he : e < 5) (hs : (s : Int) < (g (3 + e)).toInt) (d : drI f g (8 + 24 * e + 4 * s) (8 + 24 * e) v) (hv : v = 20 ∨ (4 * (s : Int) = v ∧ 20 ≤ v)) (ex : x = f i4.toNatClampNeg) (q4 : i4.toInt = ((3 + e : Nat) : Int)) (ey : y = x - 1) (e5 : f2 = upd f i4.toNatClampNeg y) : gV f2 ∧ f2 0 = g 0 := by
  have w := updAt e5 q4
  have hm := h.hm e he
  have hx : x = g (3 + e) := by rw [at_nat ex q4, d, if_neg (by omega)]
  have hy : y.toInt = (g (3 + e)).toInt - 1 := by
    have := pw_subX ey rfl pw_one (by rw [hx]; omega) (by rw [hx]; omega)
    rw [this, hx]
  have ho : ∀ j, j ≠ 3 + e → (j < 8 + 24 * e + 4 * s ∨ 8 + 24 * e + 20 ≤ j) → f2 j = g j := fun j a b => by
    rw [w, upd_ne a, d]
    rw [if_neg (by omega)]
  have hi : ∀ j, 8 + 24 * e + 4 * s ≤ j → j < 8 + 24 * e + 20 → f2 j = g (j + 4) := fun j a b => by
    rw [w, upd_ne (by omega), d, if_pos (by omega)]
  refine ⟨gV_of ⟨by rw [ho 0 (by omega) (by omega)]; exact h.h0, by rw [ho 1 (by omega) (by omega)]; exact h.h1, by rw [ho 2 (by omega) (by omega)]; exact h.h2, fun k hk => ?_, fun e2 s2 hk hs2 => ?_, fun c hc => by rw [ho _ (by omega) (by omega)]; exact h.hc c hc, fun c hc => by rw [ho _ (by omega) (by omega)]; exact h.hl c hc⟩, ho 0 (by omega) (by omega)⟩
  · by_cases q : k = e
    · subst q; rw [w, upd_eq, hy]; omega
    · rw [ho _ (by omega) (by omega)]; exact h.hm k hk
  · by_cases q : e2 = e
    · subst q
      rw [w, upd_eq, hy] at hs2
      by_cases z : s2 < s
      · have := h.hs e2 s2 hk (by omega)
        unfold gS at this ⊢
        rw [ho _ (by omega) (by omega), ho _ (by omega) (by omega), ho _ (by omega) (by omega), ho _ (by omega) (by omega)]
        exact this
      · have := h.hs e2 (s2 + 1) hk (by omega)
        unfold gS at this ⊢
        rw [hi _ (by omega) (by omega), hi _ (by omega) (by omega), hi _ (by omega) (by omega), hi _ (by omega) (by omega)]
        exact this
    · rw [ho _ (by omega) (by omega)] at hs2
      have h7 := (h.hm e2 hk).2
      have := h.hs e2 s2 hk hs2
      unfold gS at this ⊢
      rw [ho _ (by omega) (by omega), ho _ (by omega) (by omega), ho _ (by omega) (by omega), ho _ (by omega) (by omega)]
      exact this
theorem gV_al {g g2 : Nat → Int32} {e s w : Nat} {ix v : Int32} {k fr m f : Int} (h : gV g) (he : e < 5) (hs : (s : Int) < (g (3 + e)).toInt) (hw : w < 4) (hi : ix.toInt = ((8 + 24 * e + 4 * s + w : Nat) : Int)) (e1 : g2 = upd g ix.toNatClampNeg v) (hv : vS k fr m f) (k0 : k = if w = 0 then v.toInt else (g (8 + 24 * e + 4 * s + 0)).toInt) (k1 : fr = if w = 1 then v.toInt else (g (8 + 24 * e + 4 * s + 1)).toInt) (k2 : m = if w = 2 then v.toInt else (g (8 + 24 * e + 4 * s + 2)).toInt) (k3 : f = if w = 3 then v.toInt else (g (8 + 24 * e + 4 * s + 3)).toInt) : gV g2 ∧ g2 0 = g 0 := by
  have hm := h.hm e he
  have u := updAt e1 hi
  have ho : ∀ j, j ≠ 8 + 24 * e + 4 * s + w → g2 j = g j := fun j a => by rw [u, upd_ne a]
  refine ⟨gV_of ⟨by rw [ho 0 (by omega)]; exact h.h0, by rw [ho 1 (by omega)]; exact h.h1, by rw [ho 2 (by omega)]; exact h.h2, fun q hq => by rw [ho _ (by omega)]; exact h.hm q hq, fun e2 s2 hk hs2 => ?_, fun c hc => by rw [ho _ (by omega)]; exact h.hc c hc, fun c hc => by rw [ho _ (by omega)]; exact h.hl c hc⟩, ho 0 (by omega)⟩
  rw [ho _ (by omega)] at hs2
  have h7 := (h.hm e2 hk).2
  have base := h.hs e2 s2 hk hs2
  by_cases q : e2 = e ∧ s2 = s
  · obtain ⟨rfl, rfl⟩ := q
    unfold gS
    have a0 : (g2 (8 + 24 * e2 + 4 * s2 + 0)).toInt = k := by
      rw [k0]; split
      · subst_vars; rw [u, upd_eq]
      · rw [ho _ (by omega)]
    have a1 : (g2 (8 + 24 * e2 + 4 * s2 + 1)).toInt = fr := by
      rw [k1]; split
      · subst_vars; rw [u, upd_eq]
      · rw [ho _ (by omega)]
    have a2 : (g2 (8 + 24 * e2 + 4 * s2 + 2)).toInt = m := by
      rw [k2]; split
      · subst_vars; rw [u, upd_eq]
      · rw [ho _ (by omega)]
    have a3 : (g2 (8 + 24 * e2 + 4 * s2 + 3)).toInt = f := by
      rw [k3]; split
      · subst_vars; rw [u, upd_eq]
      · rw [ho _ (by omega)]
    rw [a0, a1, a2, a3]; exact hv
  · have hne : ∀ j, j < 4 → 8 + 24 * e2 + 4 * s2 + j ≠ 8 + 24 * e + 4 * s + w := fun j hj z => q (by omega)
    unfold gS at base ⊢
    rw [ho _ (hne 0 (by decide)), ho _ (hne 1 (by decide)), ho _ (hne 2 (by decide)), ho _ (hne 3 (by decide))]
    exact base
/-- beyond 128: citations and what was seen -/
theorem gV_hi {g g2 : Nat → Int32} (h : gV g) (ho : ∀ j, j < 128 → j ≠ 2 → g2 j = g j) (h2 : 0 ≤ (g2 2).toInt ∧ (g2 2).toInt ≤ 12) (hc : ∀ c, c < 8 → 0 ≤ (g2 (128 + 5 * c + 1)).toInt ∧ (g2 (128 + 5 * c + 1)).toInt ≤ 4) (hl : ∀ k, k < 12 → 0 ≤ (g2 (168 + 2 * k + 1)).toInt ∧ (g2 (168 + 2 * k + 1)).toInt ≤ 199) : gV g2 ∧ g2 0 = g 0 := by
  refine ⟨gV_of ⟨by rw [ho 0 (by omega) (by omega)]; exact h.h0, by rw [ho 1 (by omega) (by omega)]; exact h.h1, h2, fun q hq => by rw [ho _ (by omega) (by omega)]; exact h.hm q hq, fun e2 s2 hk hs2 => ?_, hc, hl⟩, ho 0 (by omega) (by omega)⟩
  rw [ho _ (by omega) (by omega)] at hs2
  have h7 := (h.hm e2 hk).2
  have base := h.hs e2 s2 hk hs2
  unfold gS at base ⊢
  rw [ho _ (by omega) (by omega), ho _ (by omega) (by omega), ho _ (by omega) (by omega), ho _ (by omega) (by omega)]
  exact base
theorem gV_ci {g g1 g2 g3 g4 g5 : Nat → Int32} {c : Nat} {i0 i1 i2 i3 i4 v0 v1 v2 v3 v4 : Int32} (h : gV g) (hc : c < 8) (e1 : g1 = upd g i0.toNatClampNeg v0) (e2 : g2 = upd g1 i1.toNatClampNeg v1) (e3 : g3 = upd g2 i2.toNatClampNeg v2) (e4 : g4 = upd g3 i3.toNatClampNeg v3) (e5 : g5 = upd g4 i4.toNatClampNeg v4) (q0 : i0.toInt = ((128 + 5 * c : Nat) : Int)) (q1 : i1.toInt = ((128 + 5 * c + 1 : Nat) : Int)) (q2 : i2.toInt = ((128 + 5 * c + 2 : Nat) : Int)) (q3 : i3.toInt = ((128 + 5 * c + 3 : Nat) : Int)) (q4 : i4.toInt = ((128 + 5 * c + 4 : Nat) : Int)) (a0 : 0 ≤ v1.toInt) (a4 : v1.toInt ≤ 4) : gV g5 ∧ g5 0 = g 0 := by
  have ho : ∀ j, (j < 128 + 5 * c ∨ 128 + 5 * c + 5 ≤ j) → g5 j = g j := fun j a => by
    rw [updAt e5 q4, upd_ne (by omega), updAt e4 q3, upd_ne (by omega), updAt e3 q2, upd_ne (by omega), updAt e2 q1, upd_ne (by omega), updAt e1 q0, upd_ne (by omega)]
  refine gV_hi h (fun j a _ => ho j (by omega)) (by rw [ho 2 (by omega)]; exact h.h2) (fun d hd => ?_) (fun k hk => by rw [ho _ (by omega)]; exact h.hl k hk)
  by_cases q : d = c
  · subst q
    rw [updAt e5 q4, upd_ne (by omega), updAt e4 q3, upd_ne (by omega), updAt e3 q2, upd_ne (by omega), updAt e2 q1, upd_eq]
    exact ⟨a0, a4⟩
  · rw [ho _ (by omega)]; exact h.hc d hd
/-- the numbers from a on are 0, v of them -/
def zrI (f g : Nat → Int32) (a : Nat) (v : Int) : Prop := ∀ j : Nat, f j = if a ≤ j ∧ (j : Int) < a + v then 0 else g j
theorem zrI_0 {g : Nat → Int32} {a : Nat} {v : Int} (h : v = 0) : zrI g g a v := fun j => by rw [if_neg (by omega)]
theorem zrI_up {f f2 g : Nat → Int32} {a : Nat} {v v2 : Int} {ix : Int32} (h : zrI f g a v) (h0 : 0 ≤ v) (e : f2 = upd f ix.toNatClampNeg 0) (hi : ix.toInt = a + v) (e2 : v2 = v + 1) : zrI f2 g a v2 := fun j => by
  rw [updAt (a := (a + v).toNat) e (by omega)]
  by_cases q : j = (a + v).toNat
  · rw [q, upd_eq, if_pos (by omega)]
  · rw [upd_ne q, h]
    by_cases z : a ≤ j ∧ (j : Int) < a + v
    · rw [if_pos z, if_pos (by omega)]
    · rw [if_neg z, if_neg (by omega)]
theorem gV_zr {f g : Nat → Int32} {c : Nat} {v : Int} (h : gV g) (d : zrI f g (128 + 5 * c) v) (hc : c < 8) (hv : v = 5) : gV f ∧ f 0 = g 0 := by
  refine gV_hi h (fun j a _ => by rw [d, if_neg (by omega)]) (by rw [d, if_neg (by omega)]; exact h.h2) (fun k hk => ?_) (fun k hk => by rw [d, if_neg (by omega)]; exact h.hl k hk)
  rw [d]; split
  · decide
  · exact h.hc k hk
theorem gV_se {g g1 g2 g3 : Nat → Int32} {i0 i1 x0 x1 x2 y v0 v1 : Int32} {n : Int} (h : gV g) (ex0 : x0 = g (2 : Int32).toNatClampNeg) (hn : x0.toInt = n) (h12 : n ≤ 11) (h0 : 0 ≤ n) (e1 : g1 = upd g i0.toNatClampNeg v0) (q0 : i0.toInt = 168 + 2 * n) (ex1 : x1 = g1 (2 : Int32).toNatClampNeg) (e2 : g2 = upd g1 i1.toNatClampNeg v1) (q1 : x1.toInt = n → i1.toInt = 168 + 2 * n + 1) (ex2 : x2 = g2 (2 : Int32).toNatClampNeg) (ey : y = x2 + 1) (e3 : g3 = upd g2 (2 : Int32).toNatClampNeg y) (a0 : 0 ≤ v1.toInt) (a1 : v1.toInt ≤ 199) : gV g3 ∧ g3 0 = g 0 := by
  have w1 := updAt (a := (168 + 2 * n).toNat) e1 (by omega)
  have z0 : x0 = g 2 := ex0
  have z1 : x1 = g 2 := by rw [ex1, w1]; exact upd_ne (by show (2 : Nat) ≠ _; omega)
  have w2 := updAt (a := (168 + 2 * n + 1).toNat) e2 (by rw [q1 (by rw [z1, ← z0]; exact hn)]; omega)
  have z2 : x2 = g 2 := by rw [ex2, w2]; show upd g1 _ _ 2 = _; rw [upd_ne (by omega), w1, upd_ne (by omega)]
  have w3 : g3 = upd g2 2 y := e3
  have hy : y.toInt = n + 1 := by rw [pw_add1 ey (by rw [z2, ← z0]; omega), z2, ← z0, hn]
  have ho : ∀ j, j ≠ 2 → j ≠ (168 + 2 * n).toNat → j ≠ (168 + 2 * n + 1).toNat → g3 j = g j := fun j a b c => by rw [w3, upd_ne a, w2, upd_ne c, w1, upd_ne b]
  refine gV_hi h (fun j a b => ho j b (by omega) (by omega)) (by rw [w3, upd_eq]; omega) (fun c hc => by rw [ho _ (by omega) (by omega) (by omega)]; exact h.hc c hc) (fun k hk => ?_)
  by_cases q : 168 + 2 * k + 1 = (168 + 2 * n + 1).toNat
  · rw [q, w3, upd_ne (by omega), w2, upd_eq]; exact ⟨a0, a1⟩
  · rw [ho _ (by omega) (by omega) q]; exact h.hl k hk
theorem upd_o2 {g g1 : Nat → Int32} {i0 v x y : Int32} (e1 : g1 = upd g i0.toNatClampNeg v) (ex : x = g1 (2 : Int32).toNatClampNeg) (hi : 3 ≤ i0.toInt) (ey : y = g (2 : Int32).toNatClampNeg) : x.toInt = y.toInt := by
  rw [ex, e1, ey]
  exact congrArg Int32.toInt (upd_ne (show (2 : Int32).toNatClampNeg ≠ i0.toNatClampNeg from (by show (2 : Nat) ≠ i0.toInt.toNat; omega)))
