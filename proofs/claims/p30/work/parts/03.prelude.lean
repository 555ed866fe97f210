/-! small rows: ints and longs as whole numbers, worlds that stay, answers by a range -/
theorem pw_lt {a b : Int32} {x y : Int} (h : a < b) (ha : a.toInt = x) (hb : b.toInt = y) : x < y := by subst ha; subst hb; exact Int32.lt_iff_toInt_lt.mp h
theorem pw_le {a b : Int32} {x y : Int} (h : a ≤ b) (ha : a.toInt = x) (hb : b.toInt = y) : x ≤ y := by subst ha; subst hb; exact Int32.le_iff_toInt_le.mp h
theorem pw_nlt {a b : Int32} {x y : Int} (h : ¬ a < b) (ha : a.toInt = x) (hb : b.toInt = y) : y ≤ x := by
  subst ha; subst hb
  exact Int.not_lt.mp (fun q => h (Int32.lt_iff_toInt_lt.mpr q))
theorem pw_nle {a b : Int32} {x y : Int} (h : ¬ a ≤ b) (ha : a.toInt = x) (hb : b.toInt = y) : y < x := by
  subst ha; subst hb
  exact Int.not_le.mp (fun q => h (Int32.le_iff_toInt_le.mpr q))
theorem pw_eq {a b : Int32} {x y : Int} (h : a = b) (ha : a.toInt = x) (hb : b.toInt = y) : x = y := by subst ha; subst hb; rw [h]
theorem pw_ne {a b : Int32} {x y : Int} (h : ¬ a = b) (ha : a.toInt = x) (hb : b.toInt = y) : x ≠ y := by
  subst ha; subst hb
  exact fun q => h (Int32.toInt_inj.mp q)
theorem pw_l64 {a b : Int64} : a < b ↔ a.toInt < b.toInt := Int64.lt_iff_toInt_lt
theorem pw_lc {x y : Int64} : (lg_cmp x y = 1 ∧ y.toInt < x.toInt) ∨ (lg_cmp x y = 0 ∧ x.toInt = y.toInt) ∨ (lg_cmp x y = -1 ∧ x.toInt < y.toInt) := by
  by_cases h1 : y < x
  · exact Or.inl ⟨by simp [lg_cmp, h1], Int64.lt_iff_toInt_lt.mp h1⟩
  · by_cases h2 : x = y
    · subst h2
      exact Or.inr (Or.inl ⟨by simp [lg_cmp], rfl⟩)
    · refine Or.inr (Or.inr ⟨by simp [lg_cmp, h1, h2], ?_⟩)
      have h3 : ¬ y.toInt < x.toInt := fun q => h1 (Int64.lt_iff_toInt_lt.mpr q)
      have h4 : ¬ x.toInt = y.toInt := fun q => h2 (Int64.toInt_inj.mp q)
      omega
theorem pw_lc_lt {x y : Int64} (h : lg_cmp x y < 0) : x.toInt < y.toInt := by
  rcases @pw_lc x y with ⟨e, q⟩ | ⟨e, q⟩ | ⟨e, q⟩
  · rw [e] at h; exact absurd h (by decide)
  · rw [e] at h; exact absurd h (by decide)
  · exact q
theorem pw_lc_nlt {x y : Int64} (h : ¬ lg_cmp x y < 0) : y.toInt ≤ x.toInt := by
  rcases @pw_lc x y with ⟨e, q⟩ | ⟨e, q⟩ | ⟨e, q⟩
  · omega
  · omega
  · rw [e] at h; exact absurd (by decide) h
theorem pw_lc_gt {x y : Int64} (h : 0 < lg_cmp x y) : y.toInt < x.toInt := by
  rcases @pw_lc x y with ⟨e, q⟩ | ⟨e, q⟩ | ⟨e, q⟩
  · exact q
  · rw [e] at h; exact absurd h (by decide)
  · rw [e] at h; exact absurd h (by decide)
theorem pw_lc_ngt {x y : Int64} (h : ¬ 0 < lg_cmp x y) : x.toInt ≤ y.toInt := by
  rcases @pw_lc x y with ⟨e, q⟩ | ⟨e, q⟩ | ⟨e, q⟩
  · rw [e] at h; exact absurd (by decide) h
  · omega
  · omega
theorem pw_in0 {x : Int32} {lo hi : Int64} {a b : Int} (h0 : lo.toInt ≤ x.toInt64.toInt) (h1 : x.toInt64.toInt ≤ hi.toInt) (ha : lo.toInt = a) (hb : hi.toInt = b) : a ≤ x.toInt ∧ x.toInt ≤ b := by
  rw [Int32.toInt_toInt64] at h0 h1
  subst ha; subst hb
  exact ⟨h0, h1⟩
theorem pw_nin0 {x : Int32} {lo hi : Int64} {a b : Int} (h : ¬ (lo.toInt ≤ x.toInt64.toInt ∧ x.toInt64.toInt ≤ hi.toInt)) (ha : lo.toInt = a) (hb : hi.toInt = b) : ¬ (a ≤ x.toInt ∧ x.toInt ≤ b) := by
  rw [Int32.toInt_toInt64] at h
  subst ha; subst hb
  exact h
theorem pw_keep {D : va_G} {cl : List vw_C} {ws : va_W} {H H1 : Heap} (hP : va_P D cl ws H) (hk : ∀ q : Nat, q < H.size → H1[q]? = H[q]?) : va_P D cl ws H1 := fun k q hq => (hP k q hq).kept (hk q.1 (hP k q hq).lt)
theorem pw_heap {p : Program} {l : Launch} {e : Env} {R : Room} {s : State} {m : MethodId} {args : Array Value} {below : List Frame} {meth : Method} {c : Code} {H : Heap} {locs : List Loc} {cells slots : Nat} {Q : State → Prop} {g : JFrame} (h : H = s.heap) (k : W p l e R s m args below meth c H locs cells slots Q g) : W p l e R s m args below meth c s.heap locs cells slots Q g := h ▸ k
/-- one answer in the range 0 .. hi, another one beside it -/
def sp_rng (w : Int32) (hi : Int) (a b : Int32) : Int32 := if 0 ≤ w.toInt ∧ w.toInt ≤ hi then a else b
theorem sp_in {w : Int32} {hi : Int} {a b : Int32} (h0 : 0 ≤ w.toInt) (h1 : w.toInt ≤ hi) : a = sp_rng w hi a b := (if_pos ⟨h0, h1⟩).symm
theorem sp_out {w : Int32} {hi : Int} {a b : Int32} (h : ¬ (0 ≤ w.toInt ∧ w.toInt ≤ hi)) : b = sp_rng w hi a b := (if_neg h).symm
theorem pw_is {x : Int32} (k : Int32) (h : x.toInt = k.toInt) : x = k := Int32.toInt_inj.mp h
theorem pw_sw7 (x : Int32) : (x.toInt < 0 ∨ 6 < x.toInt) ∨ x = 0 ∨ x = 1 ∨ x = 2 ∨ x = 3 ∨ x = 4 ∨ x = 5 ∨ x = 6 := by
  by_cases h : x.toInt < 0 ∨ 6 < x.toInt
  · exact Or.inl h
  · refine Or.inr ?_
    rcases (show x.toInt = 0 ∨ x.toInt = 1 ∨ x.toInt = 2 ∨ x.toInt = 3 ∨ x.toInt = 4 ∨ x.toInt = 5 ∨ x.toInt = 6 by omega) with q | q | q | q | q | q | q
    · exact Or.inl (pw_is 0 (q.trans (by decide)))
    · exact Or.inr (Or.inl (pw_is 1 (q.trans (by decide))))
    · exact Or.inr (Or.inr (Or.inl (pw_is 2 (q.trans (by decide)))))
    · exact Or.inr (Or.inr (Or.inr (Or.inl (pw_is 3 (q.trans (by decide))))))
    · exact Or.inr (Or.inr (Or.inr (Or.inr (Or.inl (pw_is 4 (q.trans (by decide)))))))
    · exact Or.inr (Or.inr (Or.inr (Or.inr (Or.inr (Or.inl (pw_is 5 (q.trans (by decide))))))))
    · exact Or.inr (Or.inr (Or.inr (Or.inr (Or.inr (Or.inr (pw_is 6 (q.trans (by decide))))))))
theorem pw_cit {c : Int32} (h0 : 0 ≤ c.toInt) (h1 : c.toInt ≤ 7) : vp_in (128 + 5 * c + 0) 192 := by
  rcases (show c.toInt = 0 ∨ c.toInt = 1 ∨ c.toInt = 2 ∨ c.toInt = 3 ∨ c.toInt = 4 ∨ c.toInt = 5 ∨ c.toInt = 6 ∨ c.toInt = 7 by omega) with q | q | q | q | q | q | q | q
  · rw [pw_is 0 (q.trans (by decide))]; exact vp_in_iff.mpr (by decide)
  · rw [pw_is 1 (q.trans (by decide))]; exact vp_in_iff.mpr (by decide)
  · rw [pw_is 2 (q.trans (by decide))]; exact vp_in_iff.mpr (by decide)
  · rw [pw_is 3 (q.trans (by decide))]; exact vp_in_iff.mpr (by decide)
  · rw [pw_is 4 (q.trans (by decide))]; exact vp_in_iff.mpr (by decide)
  · rw [pw_is 5 (q.trans (by decide))]; exact vp_in_iff.mpr (by decide)
  · rw [pw_is 6 (q.trans (by decide))]; exact vp_in_iff.mpr (by decide)
  · rw [pw_is 7 (q.trans (by decide))]; exact vp_in_iff.mpr (by decide)
/-! counting, joins and loops -/
theorem pw_max (x : Int32) : x.toInt ≤ 2147483647 := by have := Int32.toInt_lt x; omega
theorem pw_min (x : Int32) : -2147483648 ≤ x.toInt := by have := Int32.le_toInt x; omega
theorem pw_bmod {z : Int} (h1 : -2147483648 ≤ z) (h2 : z < 2147483648) : z.bmod (2 ^ 32) = z := by rw [Int.bmod_eq_of_le (by omega) (by omega)]
theorem pw_addI {x y : Int32} (h1 : -2147483648 ≤ x.toInt + y.toInt) (h2 : x.toInt + y.toInt < 2147483648) : (x + y).toInt = x.toInt + y.toInt := by rw [Int32.toInt_add, pw_bmod h1 h2]
theorem pw_subI {x y : Int32} (h1 : -2147483648 ≤ x.toInt - y.toInt) (h2 : x.toInt - y.toInt < 2147483648) : (x - y).toInt = x.toInt - y.toInt := by rw [Int32.toInt_sub, pw_bmod h1 h2]
theorem pw_mulI {x y : Int32} (h1 : -2147483648 ≤ x.toInt * y.toInt) (h2 : x.toInt * y.toInt < 2147483648) : (x * y).toInt = x.toInt * y.toInt := by rw [Int32.toInt_mul, pw_bmod h1 h2]
theorem pw_one : (1 : Int32).toInt = 1 := by decide
theorem pw_add1 {x y : Int32} (e : y = x + 1) (h : x.toInt < 2147483647) : y.toInt = x.toInt + 1 := by
  have h1 := pw_min x
  have h2 := pw_one
  rw [e, pw_addI (by omega) (by omega), h2]
theorem pw_up {x y : Int32} (e : y = x + 1) (h : x.toInt < 2147483647) : (2147483648 - y.toInt).toNat < (2147483648 - x.toInt).toNat := by
  have := pw_add1 e h
  omega
theorem pw_upge {x y : Int32} {c : Int} (e : y = x + 1) (h : x.toInt < 2147483647) (hc : c ≤ x.toInt) : c ≤ y.toInt := by
  have := pw_add1 e h
  omega
theorem pw_subm {x y : Int32} (e : y = x + (-1)) (h : 0 ≤ x.toInt) : y.toInt = x.toInt - 1 := by
  have h1 := pw_max x
  have h2 : (-1 : Int32).toInt = -1 := by decide
  rw [e, pw_addI (by omega) (by omega), h2]
  omega
theorem pw_down {x y : Int32} (e : y = x + (-1)) (h : 0 ≤ x.toInt) : (y.toInt + 1).toNat < (x.toInt + 1).toNat := by
  have := pw_subm e h
  omega
theorem pw_downge {x y : Int32} (e : y = x + (-1)) (h : 0 ≤ x.toInt) : -1 ≤ y.toInt := by
  have := pw_subm e h
  omega
theorem pw_ty {D : va_G} {cl : List vw_C} {tys : List (ClassId × FieldType)} {s : State} (hK : va_K D cl tys s) {i j : Nat} {a b : ClassId} {t : FieldType} (ha : tys[i]? = some (a, t)) (hb : tys[j]? = some (b, t)) : a = b := by
  have h1 := (hK.2 i _ ha).2
  have h2 := (hK.2 j _ hb).2
  cases t with
  | object C =>
    obtain ⟨_, _, _, _, _, g1⟩ := h1
    obtain ⟨_, _, _, _, _, g2⟩ := h2
    exact Option.some.inj (g1.symm.trans g2)
  | _ => exact Option.some.inj (h1.symm.trans h2)
section PJ
variable {p : Program} {l : Launch} {e : Env} {R : Room} {s : State} {m : MethodId} {args : Array Value} {below : List Frame} {meth : Method} {c : Code} {H : Heap} {locs : List Loc} {cells slots : Nat} {Q : State → Prop} {g : JFrame}
theorem pw_join {T : Type} (I : T → Heap → List Loc → Array Slot → Prop) (ce sl : Nat) (F : T → Array Slot → JFrame) (h1 : ∀ (x : T) (H : Heap) (locs : List Loc) (ls : Array Slot), I x H locs ls → W p l e R s m args below meth c H locs ce sl Q (F x ls))
    (h2 : (∀ (x : T) (H : Heap) (locs : List Loc) (ls : Array Slot), I x H locs ls → W p l e R s m args below meth c H locs ce sl Q (F x ls)) → W p l e R s m args below meth c H locs cells slots Q g) : W p l e R s m args below meth c H locs cells slots Q g := h2 h1
theorem pw_loop {T : Type} (I : T → Heap → List Loc → Array Slot → Prop) (μ : T → Nat) (ce sl : Nat) (F : T → Array Slot → JFrame)
    (hs : ∀ (x : T) (H : Heap) (locs : List Loc) (ls : Array Slot), (∀ (y : T) (H1 : Heap) (locs1 : List Loc) (ls1 : Array Slot), μ y < μ x → I y H1 locs1 ls1 → W p l e R s m args below meth c H1 locs1 ce sl Q (F y ls1)) → I x H locs ls → W p l e R s m args below meth c H locs ce sl Q (F x ls)) :
    ∀ (x : T) (H : Heap) (locs : List Loc) (ls : Array Slot), I x H locs ls → W p l e R s m args below meth c H locs ce sl Q (F x ls) := by
  have key : ∀ (n : Nat) (x : T) (H : Heap) (locs : List Loc) (ls : Array Slot), μ x < n → I x H locs ls → W p l e R s m args below meth c H locs ce sl Q (F x ls) := by
    intro n
    induction n with
    | zero => intro x H locs ls h; exact absurd h (Nat.not_lt_zero _)
    | succ n ih => intro x H locs ls h hI; exact hs x H locs ls (fun y H1 locs1 ls1 hm hI1 => ih y H1 locs1 ls1 (by omega) hI1) hI
  intro x H locs ls hI
  exact key (μ x + 1) x H locs ls (Nat.lt_succ_self _) hI
end PJ
theorem pw_addX {n x y : Int32} {a b : Int} (e : n = x + y) (hx : x.toInt = a) (hy : y.toInt = b) (h1 : -2147483648 ≤ a + b) (h2 : a + b < 2147483648) : n.toInt = a + b := by
  subst hx; subst hy; rw [e, pw_addI h1 h2]
theorem pw_subX {n x y : Int32} {a b : Int} (e : n = x - y) (hx : x.toInt = a) (hy : y.toInt = b) (h1 : -2147483648 ≤ a - b) (h2 : a - b < 2147483648) : n.toInt = a - b := by
  subst hx; subst hy; rw [e, pw_subI h1 h2]
theorem pw_mulX {n x y : Int32} {a b : Int} (e : n = x * y) (hx : x.toInt = a) (hy : y.toInt = b) (h1 : -2147483648 ≤ a * b) (h2 : a * b < 2147483648) : n.toInt = a * b := by
  subst hx; subst hy; rw [e, pw_mulI h1 h2]
theorem pw_half {x y : Int32} (e : y = x / 2) (h : 0 ≤ x.toInt) : 0 ≤ y.toInt ∧ 2 * y.toInt ≤ x.toInt := by
  obtain ⟨j, hj, hx⟩ := nI_of (x := x) (fun q => by have := Int32.lt_iff_toInt_lt.mp q; have h0 : (0 : Int32).toInt = 0 := by decide
                                                    omega)
  have e2 : y = nI (j / 2) := by rw [e, hx]; exact pk_div hj (by decide) (by decide)
  rw [e2, hx, nI_toInt hj, nI_toInt (by omega)]
  omega
/-! what the numbers of a row are -/
def bP (g : Nat → Int32) : Prop := ∀ i, 0 ≤ (g i).toInt ∧ (g i).toInt ≤ 999
def bN (g : Nat → Int32) : Prop := ∀ i, 0 ≤ (g i).toInt ∧ (g i).toInt ≤ 3000
def fB (g : Nat → Int32) : Prop := ∀ i, fits .byte (.int (g i)) = true
theorem bP_0 : bP (fun _ => 0) := fun _ => (by decide : 0 ≤ (0 : Int32).toInt ∧ (0 : Int32).toInt ≤ 999)
theorem bN_0 : bN (fun _ => 0) := fun _ => (by decide : 0 ≤ (0 : Int32).toInt ∧ (0 : Int32).toInt ≤ 3000)
theorem fB_0 : fB (fun _ => 0) := fun _ => rfl
theorem bP_at {g : Nat → Int32} {i : Nat} {x : Int32} (h : bP g) (e : x = g i) : 0 ≤ x.toInt ∧ x.toInt ≤ 999 := by rw [e]; exact h i
theorem bN_at {g : Nat → Int32} {i : Nat} {x : Int32} (h : bN g) (e : x = g i) : 0 ≤ x.toInt ∧ x.toInt ≤ 3000 := by rw [e]; exact h i
theorem bP_upd {g g2 : Nat → Int32} {i : Nat} {x : Int32} (h : bP g) (e : g2 = upd g i x) (h0 : 0 ≤ x.toInt) (h1 : x.toInt ≤ 999) : bP g2 := fun j => by
  rw [e]; unfold upd
  split
  · exact ⟨h0, h1⟩
  · exact h j
theorem bN_upd {g g2 : Nat → Int32} {i : Nat} {x : Int32} (h : bN g) (e : g2 = upd g i x) (h0 : 0 ≤ x.toInt) (h1 : x.toInt ≤ 3000) : bN g2 := fun j => by
  rw [e]; unfold upd
  split
  · exact ⟨h0, h1⟩
  · exact h j
theorem pw_swr_1_5 (x : Int32) : (x.toInt < 1 ∨ 5 < x.toInt) ∨ x = 1 ∨ x = 2 ∨ x = 3 ∨ x = 4 ∨ x = 5 := by
  rcases pw_sw7 x with (q | q) | q | q | q | q | q | q | q
  · exact Or.inl (Or.inl (by omega))
  · exact Or.inl (Or.inr (by omega))
  · exact Or.inl (Or.inl (by rw [q]; decide))
  · exact Or.inr (Or.inl q)
  · exact Or.inr (Or.inr (Or.inl q))
  · exact Or.inr (Or.inr (Or.inr (Or.inl q)))
  · exact Or.inr (Or.inr (Or.inr (Or.inr (Or.inl q))))
  · exact Or.inr (Or.inr (Or.inr (Or.inr (Or.inr q))))
  · exact Or.inl (Or.inr (by rw [q]; decide))
theorem pw_swr_1_4 (x : Int32) : (x.toInt < 1 ∨ 4 < x.toInt) ∨ x = 1 ∨ x = 2 ∨ x = 3 ∨ x = 4 := by
  rcases pw_swr_1_5 x with (q | q) | q | q | q | q | q
  · exact Or.inl (Or.inl q)
  · exact Or.inl (Or.inr (by omega))
  · exact Or.inr (Or.inl q)
  · exact Or.inr (Or.inr (Or.inl q))
  · exact Or.inr (Or.inr (Or.inr (Or.inl q)))
  · exact Or.inr (Or.inr (Or.inr (Or.inr q)))
  · exact Or.inl (Or.inr (by rw [q]; decide))
theorem bP_cpy {f g g2 : Nat → Int32} {a b n : Nat} (hf : bP f) (hg : bP g) (e : g2 = va_cpy f g a b n) : bP g2 := fun j => by
  rw [e]; unfold va_cpy
  split
  · exact hf _
  · exact hg _
theorem fB_cpy {f g g2 : Nat → Int32} {a b n : Nat} (hf : fB f) (hg : fB g) (e : g2 = va_cpy f g a b n) : fB g2 := fun j => by
  rw [e]; unfold va_cpy
  split
  · exact hf _
  · exact hg _
theorem pw_bool {v : Int32} (h : v = 0 ∨ v = 1) : narrow .boolean (.int v) = .int v := by
  rcases h with rfl | rfl <;> rfl
theorem pw_boolI {v : Int32} (h : v = 0 ∨ v = 1) : 0 ≤ v.toInt ∧ v.toInt ≤ 1 := by
  rcases h with rfl | rfl <;> decide
theorem pw_nat {x : Int32} {n : Nat} (h0 : 0 ≤ x.toInt) (h1 : x.toInt < n) : x.toNatClampNeg < n := by
  show x.toInt.toNat < n
  omega
