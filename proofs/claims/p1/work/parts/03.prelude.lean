/-! small rows: ints and longs as whole numbers, worlds that stay, answers by a range -/
theorem pw_lt {a b : Int32} {x y : Int} (h : a < b) (ha : a.toInt = x) (hb : b.toInt = y) : x < y := by subst ha; subst hb; exact Int32.lt_iff_toInt_lt.mp h
theorem pw_le {a b : Int32} {x y : Int} (h : a ≤ b) (ha : a.toInt = x) (hb : b.toInt = y) : x ≤ y := by subst ha; subst hb; exact Int32.le_iff_toInt_le.mp h
theorem pw_nlt {a b : Int32} {x y : Int} (h : ¬ a < b) (ha : a.toInt = x) (hb : b.toInt = y) : y ≤ x := by
  subst ha; subst hb
  exact Int.not_lt.mp (fun q => h (Int32.lt_iff_toInt_lt.mpr q))
theorem pw_nle {a b : Int32} {x y : Int} (h : ¬ a ≤ b) (ha : a.toInt = x) (hb : b.toInt = y) : y < x := by
  subst ha; subst hb
  exact Int.not_le.mp (fun q => h (Int32.le_iff_toInt_le.mpr q))
theorem pw_eq {a b : Int32} {x y : Int} (h : a = b) (ha : a.toInt = x) (hb : b.toInt = y) : x = y := by subst ha; subst hb; rw [h]
theorem pw_ne {a b : Int32} {x y : Int} (h : ¬ a = b) (ha : a.toInt = x) (hb : b.toInt = y) : x ≠ y := by
  subst ha; subst hb
  exact fun q => h (Int32.toInt_inj.mp q)
theorem pw_l64 {a b : Int64} : a < b ↔ a.toInt < b.toInt := Int64.lt_iff_toInt_lt
theorem pw_lc {x y : Int64} : (lg_cmp x y = 1 ∧ y.toInt < x.toInt) ∨ (lg_cmp x y = 0 ∧ x.toInt = y.toInt) ∨ (lg_cmp x y = -1 ∧ x.toInt < y.toInt) := by
  by_cases h1 : y < x
  · exact Or.inl ⟨by simp [lg_cmp, h1], Int64.lt_iff_toInt_lt.mp h1⟩
  · by_cases h2 : x = y
    · subst h2
      exact Or.inr (Or.inl ⟨by simp [lg_cmp], rfl⟩)
    · refine Or.inr (Or.inr ⟨by simp [lg_cmp, h1, h2], ?_⟩)
      have h3 : ¬ y.toInt < x.toInt := fun q => h1 (Int64.lt_iff_toInt_lt.mpr q)
      have h4 : ¬ x.toInt = y.toInt := fun q => h2 (Int64.toInt_inj.mp q)
      omega
theorem pw_lc_lt {x y : Int64} (h : lg_cmp x y < 0) : x.toInt < y.toInt := by
  rcases @pw_lc x y with ⟨e, q⟩ | ⟨e, q⟩ | ⟨e, q⟩
  · rw [e] at h; exact absurd h (by decide)
  · rw [e] at h; exact absurd h (by decide)
  · exact q
theorem pw_lc_nlt {x y : Int64} (h : ¬ lg_cmp x y < 0) : y.toInt ≤ x.toInt := by
  rcases @pw_lc x y with ⟨e, q⟩ | ⟨e, q⟩ | ⟨e, q⟩
  · omega
  · omega
  · rw [e] at h; exact absurd (by decide) h
theorem pw_lc_gt {x y : Int64} (h : 0 < lg_cmp x y) : y.toInt < x.toInt := by
  rcases @pw_lc x y with ⟨e, q⟩ | ⟨e, q⟩ | ⟨e, q⟩
  · exact q
  · rw [e] at h; exact absurd h (by decide)
  · rw [e] at h; exact absurd h (by decide)
theorem pw_lc_ngt {x y : Int64} (h : ¬ 0 < lg_cmp x y) : x.toInt ≤ y.toInt := by
  rcases @pw_lc x y with ⟨e, q⟩ | ⟨e, q⟩ | ⟨e, q⟩
  · rw [e] at h; exact absurd (by decide) h
  · omega
  · omega
theorem pw_in0 {x : Int32} {lo hi : Int64} {a b : Int} (h0 : lo.toInt ≤ x.toInt64.toInt) (h1 : x.toInt64.toInt ≤ hi.toInt) (ha : lo.toInt = a) (hb : hi.toInt = b) : a ≤ x.toInt ∧ x.toInt ≤ b := by
  rw [Int32.toInt_toInt64] at h0 h1
  subst ha; subst hb
  exact ⟨h0, h1⟩
theorem pw_nin0 {x : Int32} {lo hi : Int64} {a b : Int} (h : ¬ (lo.toInt ≤ x.toInt64.toInt ∧ x.toInt64.toInt ≤ hi.toInt)) (ha : lo.toInt = a) (hb : hi.toInt = b) : ¬ (a ≤ x.toInt ∧ x.toInt ≤ b) := by
  rw [Int32.toInt_toInt64] at h
  subst ha; subst hb
  exact h
theorem pw_keep {D : va_G} {cl : List vw_C} {ws : va_W} {H H1 : Heap} (hP : va_P D cl ws H) (hk : ∀ q : Nat, q < H.size → H1[q]? = H[q]?) : va_P D cl ws H1 := fun k q hq => (hP k q hq).kept (hk q.1 (hP k q hq).lt)
theorem pw_heap {p : Program} {l : Launch} {e : Env} {R : Room} {s : State} {m : MethodId} {args : Array Value} {below : List Frame} {meth : Method} {c : Code} {H : Heap} {locs : List Loc} {cells slots : Nat} {Q : State → Prop} {g : JFrame} (h : H = s.heap) (k : W p l e R s m args below meth c H locs cells slots Q g) : W p l e R s m args below meth c s.heap locs cells slots Q g := h ▸ k
/-- one answer in the range 0 .. hi, another one beside it -/
def sp_rng (w : Int32) (hi : Int) (a b : Int32) : Int32 := if 0 ≤ w.toInt ∧ w.toInt ≤ hi then a else b
theorem sp_in {w : Int32} {hi : Int} {a b : Int32} (h0 : 0 ≤ w.toInt) (h1 : w.toInt ≤ hi) : a = sp_rng w hi a b := (if_pos ⟨h0, h1⟩).symm
theorem sp_out {w : Int32} {hi : Int} {a b : Int32} (h : ¬ (0 ≤ w.toInt ∧ w.toInt ≤ hi)) : b = sp_rng w hi a b := (if_neg h).symm
theorem pw_is {x : Int32} (k : Int32) (h : x.toInt = k.toInt) : x = k := Int32.toInt_inj.mp h
theorem pw_sw7 (x : Int32) : (x.toInt < 0 ∨ 6 < x.toInt) ∨ x = 0 ∨ x = 1 ∨ x = 2 ∨ x = 3 ∨ x = 4 ∨ x = 5 ∨ x = 6 := by
  by_cases h : x.toInt < 0 ∨ 6 < x.toInt
  · exact Or.inl h
  · refine Or.inr ?_
    rcases (show x.toInt = 0 ∨ x.toInt = 1 ∨ x.toInt = 2 ∨ x.toInt = 3 ∨ x.toInt = 4 ∨ x.toInt = 5 ∨ x.toInt = 6 by omega) with q | q | q | q | q | q | q
    · exact Or.inl (pw_is 0 (q.trans (by decide)))
    · exact Or.inr (Or.inl (pw_is 1 (q.trans (by decide))))
    · exact Or.inr (Or.inr (Or.inl (pw_is 2 (q.trans (by decide)))))
    · exact Or.inr (Or.inr (Or.inr (Or.inl (pw_is 3 (q.trans (by decide))))))
    · exact Or.inr (Or.inr (Or.inr (Or.inr (Or.inl (pw_is 4 (q.trans (by decide)))))))
    · exact Or.inr (Or.inr (Or.inr (Or.inr (Or.inr (Or.inl (pw_is 5 (q.trans (by decide))))))))
    · exact Or.inr (Or.inr (Or.inr (Or.inr (Or.inr (Or.inr (pw_is 6 (q.trans (by decide))))))))
theorem pw_cit {c : Int32} (h0 : 0 ≤ c.toInt) (h1 : c.toInt ≤ 7) : vp_in (128 + 5 * c + 0) 192 := by
  rcases (show c.toInt = 0 ∨ c.toInt = 1 ∨ c.toInt = 2 ∨ c.toInt = 3 ∨ c.toInt = 4 ∨ c.toInt = 5 ∨ c.toInt = 6 ∨ c.toInt = 7 by omega) with q | q | q | q | q | q | q | q
  · rw [pw_is 0 (q.trans (by decide))]; exact vp_in_iff.mpr (by decide)
  · rw [pw_is 1 (q.trans (by decide))]; exact vp_in_iff.mpr (by decide)
  · rw [pw_is 2 (q.trans (by decide))]; exact vp_in_iff.mpr (by decide)
  · rw [pw_is 3 (q.trans (by decide))]; exact vp_in_iff.mpr (by decide)
  · rw [pw_is 4 (q.trans (by decide))]; exact vp_in_iff.mpr (by decide)
  · rw [pw_is 5 (q.trans (by decide))]; exact vp_in_iff.mpr (by decide)
  · rw [pw_is 6 (q.trans (by decide))]; exact vp_in_iff.mpr (by decide)
  · rw [pw_is 7 (q.trans (by decide))]; exact vp_in_iff.mpr (by decide)
