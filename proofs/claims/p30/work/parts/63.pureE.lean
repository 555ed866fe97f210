/-! the reference's editions, and its work -/
theorem tKind_ne {k : Int} (h : tKind k ≠ 0) : k ≠ 101 ∧ k ≠ -1 := by
  refine ⟨fun q => h ?_, fun q => h ?_⟩ <;> rw [q] <;> decide
def muI (f a : Int) : Nat := if f = 0 then (1000 - a.toNat) + 1 else 0
theorem mu_lt {f f2 a a2 : Int} (hf : f = 0) (h : f2 = 0 → a < a2) (h0 : 0 ≤ a) (h1 : a ≤ 200) : muI f2 a2 < muI f a := by
  unfold muI
  rw [if_pos hf]
  split
  · have := h (by assumption)
    omega
  · omega
def muO (f a k : Int) : Nat := if f = 0 then (2 * (1000 - a.toNat) + (if k = 0 then 0 else 1)) + 1 else 0
theorem muO_lt {f f2 a a2 k k2 : Int} (hf : f = 0) (hk : k ≠ 0) (h : f2 = 0 → (a < a2 ∨ (a = a2 ∧ k2 = 0))) (h0 : 0 ≤ a) (h1 : a ≤ 200) : muO f2 a2 k2 < muO f a k := by
  unfold muO
  rw [if_pos hf, if_neg hk]
  split
  · have := h (by assumption)
    split <;> omega
  · omega
/-- within an edition: what still stands of the text -/
def inI (t : Nat → Int) (n : Nat) (L X : Int) (e : Nat) (f at' tok val : Int) (g : Nat → Int32) : Prop := (f = 0 ∧ ∃ (q kq : Nat) (ps : List (Int × Int)), cuR t n q at' tok val ∧ kq ≤ q ∧ X = bI (uEds t n L (201 - kq) q (e + 1) ps) ∧ drR g e ps) ∨ (1 ≤ f ∧ f ≤ 3 ∧ X = 0)
theorem in_get {t : Nat → Int} {n : Nat} {L X : Int} {e : Nat} {f at' tok val : Int} {g : Nat → Int32} (h : inI t n L X e f at' tok val g) (hf : f = 0) : ∃ (q kq : Nat) (ps : List (Int × Int)), cuR t n q at' tok val ∧ kq ≤ q ∧ X = bI (uEds t n L (201 - kq) q (e + 1) ps) ∧ drR g e ps := by
  rcases h with ⟨_, h⟩ | ⟨h, _⟩
  · exact h
  · omega
theorem in_no {t : Nat → Int} {n : Nat} {L X : Int} {e : Nat} {f at' tok val : Int} {g : Nat → Int32} (h : inI t n L X e f at' tok val g) (hf : f ≠ 0) : 1 ≤ f ∧ f ≤ 3 ∧ X = 0 := by
  rcases h with ⟨h, _⟩ | h
  · exact absurd h hf
  · exact h
theorem in_step {t : Nat → Int} {n : Nat} {L L2 X : Int} {e q kq : Nat} {f at' tok val : Int} {g : Nat → Int32} {ps : List (Int × Int)} (hn : n ≤ 200) (hp : ∀ k, 0 ≤ t k) (hk : kq ≤ q) (hX : X = bI (uEds t n L (201 - kq) q (e + 1) ps)) (hkk : tKind (tTok t n q) ≠ 0) (hL : L2 = L) (hz : (f = 0 ∧ bI (uStr t n L2 (tTok t n q) (tNx t n q) ps) = 1) ∨ (1 ≤ f ∧ bI (uStr t n L2 (tTok t n q) (tNx t n q) ps) = 0)) (h3 : f ≤ 3) (hc : f = 0 → cuR t n (uNx6 t n (tNx t n q)) at' tok val) (hd : f = 0 → drR g e (uPut t n (tNx t n q) ps)) : inI t n L X e f at' tok val g := by
  subst hL
  obtain ⟨n1, n2⟩ := tKind_ne hkk
  have hq := tTok_k n2
  have hg := tNx_gt (t := t) hq
  rcases hz with ⟨hf, hz⟩ | ⟨hf, hz⟩
  · refine Or.inl ⟨hf, uNx6 t n (tNx t n q), kq + 1, uPut t n (tNx t n q) ps, hc hf, ?_, ?_, hd hf⟩
    · unfold uNx6
      have g1 := tNx_ge (t := t) (n := n) (a := tNx t n q)
      have g2 := tNx_ge (t := t) (n := n) (a := tNx t n (tNx t n q))
      have g3 := tNx_ge (t := t) (n := n) (a := tNx t n (tNx t n (tNx t n q)))
      have g4 := tNx_ge (t := t) (n := n) (a := tNx t n (tNx t n (tNx t n (tNx t n q))))
      have g5 := tNx_ge (t := t) (n := n) (a := tNx t n (tNx t n (tNx t n (tNx t n (tNx t n q)))))
      have g6 := tNx_ge (t := t) (n := n) (a := tNx t n (tNx t n (tNx t n (tNx t n (tNx t n (tNx t n q))))))
      omega
    · rw [hX, show 201 - kq = (201 - (kq + 1)) + 1 by omega]
      exact uEds_st n1 n2 (by omega) (bI_1 hz)
  · exact Or.inr ⟨hf, h3, hX.trans (uEds_st0 n1 n2 (fun w => bI_0 hz w.2))⟩
theorem in_first {t : Nat → Int} {n : Nat} {L X : Int} {e q kq : Nat} {f at' tok val : Int} {g : Nat → Int32} {ps : List (Int × Int)} (hn : n ≤ 200) (hk : kq ≤ q) (hX : X = bI (uEds t n L (201 - kq) q e ps)) (ht : tTok t n q = 101) (he : e < 5) (hf : f = 0) (hc : cuR t n (tNx t n q) at' tok val) (hd : (g (3 + e)).toInt = 0) : inI t n L X e f at' tok val g := by
  have hq := tTok_k (t := t) (n := n) (a := q) (by omega)
  have hg := tNx_gt (t := t) hq
  refine Or.inl ⟨hf, tNx t n q, kq + 1, [], hc, by omega, ?_, drR_0 hd⟩
  rw [hX, show 201 - kq = (201 - (kq + 1)) + 1 by omega]
  exact uEds_ed ht he
def dkI (f g : Nat → Int32) (e : Nat) : Prop := ∀ j : Nat, j < 8 → j ≠ 3 + e → f j = g j
theorem dkI_0 {g : Nat → Int32} {e : Nat} : dkI g g e := fun _ _ _ => rfl
theorem dkI_up {f f2 g : Nat → Int32} {e : Nat} (h : dkI f g e) (h2 : ∀ j : Nat, j < 8 → j ≠ 3 + e → f2 j = f j) : dkI f2 g e := fun j a b => (h2 j a b).trans (h j a b)
def dzI (g : Nat → Int32) : Prop := ∀ e : Nat, (g 1).toInt ≤ (e : Int) → e < 5 → (g (3 + e)).toInt = 0
theorem gV_ed {f g : Nat → Int32} {x y : Int32} (h : gV f) (ex : x = f (1 : Int32).toNatClampNeg) (hx : x.toInt ≤ 4) (ey : y = x + 1) (e : g = upd f (1 : Int32).toNatClampNeg y) : gV g ∧ (g 1).toInt = x.toInt + 1 ∧ ∀ j, j ≠ 1 → g j = f j := by
  have w : g = upd f 1 y := e
  have ho : ∀ j, j ≠ 1 → g j = f j := fun j a => by rw [w, upd_ne a]
  have hx2 : x = f 1 := ex
  have h1 := h.h1
  have hy : y.toInt = x.toInt + 1 := pw_add1 ey (by omega)
  refine ⟨gV_of ⟨by rw [ho 0 (by omega)]; exact h.h0, by rw [w, upd_eq, hy, hx2]; rw [hx2] at hx; omega, by rw [ho 2 (by omega)]; exact h.h2, fun q hq => by rw [ho _ (by omega)]; exact h.hm q hq, fun e2 s2 hk hs2 => ?_, fun c hc => by rw [ho _ (by omega)]; exact h.hc c hc, fun c hc => by rw [ho _ (by omega)]; exact h.hl c hc⟩, by rw [w, upd_eq]; exact hy, ho⟩
  rw [ho _ (by omega)] at hs2
  have base := h.hs e2 s2 hk hs2
  unfold gS at base ⊢
  rw [ho _ (by omega), ho _ (by omega), ho _ (by omega), ho _ (by omega)]
  exact base
/-- between editions -/
def ouI (t : Nat → Int) (n : Nat) (L X : Int) (f at' tok val : Int) (g : Nat → Int32) : Prop := (f = 0 ∧ ∃ (q kq : Nat) (ps : List (Int × Int)), cuR t n q at' tok val ∧ kq ≤ q ∧ X = bI (uEds t n L (201 - kq) q (g 1).toInt.toNat ps) ∧ ((g 1).toInt = 0 ∨ tKind (tTok t n q) = 0)) ∨ (1 ≤ f ∧ f ≤ 3 ∧ X = 0)
theorem ou_get {t : Nat → Int} {n : Nat} {L X : Int} {f at' tok val : Int} {g : Nat → Int32} (h : ouI t n L X f at' tok val g) (hf : f = 0) : ∃ (q kq : Nat) (ps : List (Int × Int)), cuR t n q at' tok val ∧ kq ≤ q ∧ X = bI (uEds t n L (201 - kq) q (g 1).toInt.toNat ps) ∧ ((g 1).toInt = 0 ∨ tKind (tTok t n q) = 0) := by
  rcases h with ⟨_, h⟩ | ⟨h, _⟩
  · exact h
  · omega
theorem ou_no {t : Nat → Int} {n : Nat} {L X : Int} {f at' tok val : Int} {g : Nat → Int32} (h : ouI t n L X f at' tok val g) (hf : f ≠ 0) : 1 ≤ f ∧ f ≤ 3 ∧ X = 0 := by
  rcases h with ⟨h, _⟩ | h
  · exact absurd h hf
  · exact h
theorem ou_b {t : Nat → Int} {n : Nat} {L X : Int} {f at' tok val : Int} {g : Nat → Int32} (h : ouI t n L X f at' tok val g) : 0 ≤ f ∧ f ≤ 3 := by
  rcases h with ⟨h, _⟩ | h <;> omega
/-- the end of the text -/
theorem ou_yes {t : Nat → Int} {n : Nat} {L X : Int} {f at' tok val : Int} {g : Nat → Int32} (h : ouI t n L X f at' tok val g) (hn : n ≤ 200) (hf : f = 0) (hk : tok = 0) : X = 1 := by
  obtain ⟨q, kq, ps, hc, hq, hX, _⟩ := ou_get h hf
  have := cu_at hc
  exact hX.trans (uEds_end (by omega) ((cu_end hc).mp hk))
theorem ou_bad {t : Nat → Int} {n : Nat} {L X : Int} {f at' tok val : Int} {g : Nat → Int32} (h : ouI t n L X f at' tok val g) (hf : f = 0) (hk : tok ≠ 0) (hl : ¬ (tok = 1 ∧ val = 101)) (h0 : 0 ≤ (g 1).toInt) : X = 0 := by
  obtain ⟨q, kq, ps, hc, hq, hX, hz⟩ := ou_get h hf
  refine hX.trans (uEds_st0 (fun w => hl ((cu_let hc (by decide) (by decide)).mpr w)) (fun w => hk ((cu_end hc).mpr w)) (fun w => ?_))
  rcases hz with z | z
  · omega
  · exact w.2.1 z
theorem wk_0 {t : Nat → Int} {n : Nat} (h : uHead t n) : bI (uWork t n) = bI (uEds t n (tNum t n (tNx t n 0)) 201 (tNx t n (tNx t n (tNx t n 0))) 0 []) := bI_c ⟨fun q => bI_1 q.2, fun q => ⟨h, bI_t q⟩⟩
theorem wk_n {t : Nat → Int} {n : Nat} (h : ¬ uHead t n) : bI (uWork t n) = 0 := bI_f (fun q => h q.1)
/-- the first v numbers are 0 -/
def zfI (f : Nat → Int32) (v : Int) : Prop := ∀ j : Nat, (j : Int) < v → f j = 0
theorem zfI_0 {f : Nat → Int32} {v : Int} (h : v = 0) : zfI f v := fun j hj => by omega
theorem zfI_up {f f2 : Nat → Int32} {v v2 : Int} {ix : Int32} (h : zfI f v) (h0 : 0 ≤ v) (e : f2 = upd f ix.toNatClampNeg 0) (hi : ix.toInt = v) (e2 : v2 = v + 1) : zfI f2 v2 := fun j hj => by
  rw [updAt (a := v.toNat) e (by omega)]
  by_cases q : j = v.toNat
  · rw [q, upd_eq]
  · rw [upd_ne q]; exact h j (by omega)
theorem gV_zf {f : Nat → Int32} {v : Int} (h : zfI f v) (hv : v = 192) : gV f := gV_cong gV_z (fun i hi => h i (by omega))
theorem gV_l0 {f g : Nat → Int32} {v : Int} {x : Int32} (h : zfI f v) (hv : v = 192) (e : g = upd f (0 : Int32).toNatClampNeg x) (h0 : 0 ≤ x.toInt) (h1 : x.toInt ≤ 200) : gV g ∧ (g 0).toInt = x.toInt ∧ (g 1).toInt = 0 ∧ dzI g := by
  have w : g = upd f 0 x := e
  have z : (0 : Int32).toInt = 0 := by decide
  have ho : ∀ j, j ≠ 0 → j < 192 → g j = 0 := fun j a b => by rw [w, upd_ne a]; exact h j (by omega)
  refine ⟨gV_of ⟨by rw [w, upd_eq]; exact ⟨h0, h1⟩, by rw [ho 1 (by omega) (by omega)]; decide, by rw [ho 2 (by omega) (by omega)]; decide, fun q hq => by rw [ho _ (by omega) (by omega)]; decide, fun e2 s2 hk hs2 => ?_, fun c hc => by rw [ho _ (by omega) (by omega)]; decide, fun c hc => by rw [ho _ (by omega) (by omega)]; decide⟩, by rw [w, upd_eq], by rw [ho 1 (by omega) (by omega)]; exact z, fun e _ he => by rw [ho _ (by omega) (by omega)]; exact z⟩
  rw [ho _ (by omega) (by omega), z] at hs2
  omega
/-- what work does in the reference -/
def wkM (P : Prop) (g : Nat → Int32) (a : Int32) (g2 : Nat → Int32) (a2 : Int32) : Prop := (P ∧ gW g2 ∧ a2 = 0) ∨ (¬ P ∧ g2 = g ∧ a2 = a)
theorem wkM_1 {P : Prop} {f g g2 : Nat → Int32} {a : Int32} (h : bI P = 1) (hf : gV f) (h1 : 1 ≤ (f 0).toInt) (e : g2 = va_cpy f g 0 0 192) : wkM P g a g2 0 := Or.inl ⟨bI_1 h, gW_cong ⟨hf, h1⟩ (fun i hi => by rw [cp_in e i hi, Nat.zero_add]), rfl⟩
theorem wkM_0 {P : Prop} {g : Nat → Int32} {a : Int32} (h : bI P = 0) : wkM P g a g a := Or.inr ⟨bI_0 h, rfl, rfl⟩
