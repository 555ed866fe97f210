/-! the works and images that the class makes as it goes: a tail of blocks, one for each slot that holds one -/
theorem vt_pair {A : Nat → Prop} {ws : va_W} : va_D A ws ↔ ws.Pairwise (fun p q => p.1 ≠ q.1) ∧ ∀ q ∈ ws, A q.1 := by
  constructor
  · intro h
    refine ⟨List.pairwise_iff_getElem.mpr (fun i j hi hj hij e => ?_), fun q hq => ?_⟩
    · have := h.1 i j ws[i] ws[j] (List.getElem?_eq_getElem hi) (List.getElem?_eq_getElem hj) e
      omega
    · obtain ⟨k, hk⟩ := List.getElem?_of_mem hq
      exact h.2 k q hk
  · intro ⟨h1, h2⟩
    refine ⟨fun i j p q hp hq e => ?_, fun k q hq => h2 q (List.mem_of_getElem? hq)⟩
    obtain ⟨hi, rfl⟩ := List.getElem?_eq_some_iff.mp hp
    obtain ⟨hj, rfl⟩ := List.getElem?_eq_some_iff.mp hq
    have h3 := List.pairwise_iff_getElem.mp h1
    rcases Nat.lt_trichotomy i j with q | q | q
    · exact absurd e (h3 i j hi hj q)
    · exact q
    · exact absurd e.symm (h3 j i hj hi q)
theorem vt_permP {D : va_G} {cl : List vw_C} {w w2 : va_W} {H : Heap} (h : va_P D cl w H) (hp : w.Perm w2) : va_P D cl w2 H := fun k q hk => by
  obtain ⟨i, hi⟩ := List.getElem?_of_mem (hp.mem_iff.mpr (List.mem_of_getElem? hk))
  exact h i q hi
theorem vt_permD {A : Nat → Prop} {w w2 : va_W} (h : va_D A w) (hp : w.Perm w2) : va_D A w2 := by
  obtain ⟨h1, h2⟩ := vt_pair.mp h
  exact vt_pair.mpr ⟨(hp.pairwise_iff (fun {x y} (e : x.1 ≠ y.1) => Ne.symm e)).mp h1, fun q hq => h2 q (hp.mem_iff.mpr hq)⟩
/-- a WORK's six cells -/
abbrev dyW (kI : ClassId) (y0 y1 y2 y3 y4 y5 : Nat) (n1 n2 n3 : Int32) (g1 g2 g3 g4 g5 : Nat → Int32) : va_W := [(y0, .inr (8, [.ref y1, .ref y2, .ref y3, .ref y4, .ref y5, .int n1, .int n2, .int n3])), (y1, .inl (kI, 5, .inl g1)), (y2, .inl (kI, 120, .inl g2)), (y3, .inl (kI, 32, .inl g3)), (y4, .inl (kI, 12, .inl g4)), (y5, .inl (kI, 12, .inl g5))]
/-- a kept tape's two cells -/
abbrev dyT (kB : ClassId) (z0 z1 : Nat) (m1 m2 : Int32) (g : Nat → Int32) : va_W := [(z0, .inr (7, [.ref z1, .int m1, .int m2])), (z1, .inl (kB, 200, .inl g))]
/-- a WORK that was kept has lines -/
def dyOK (n1 : Int32) (g2 : Nat → Int32) : Prop := 1 ≤ n1.toInt ∧ n1.toInt ≤ 200 ∧ bP g2
def dyR (kI : ClassId) (i : Nat) (y : Nat) (w : va_W) : Prop := ∃ (y1 y2 y3 y4 y5 : Nat) (n1 n2 n3 : Int32) (g1 g2 g3 g4 g5 : Nat → Int32), w = dyW kI y y1 y2 y3 y4 y5 n1 n2 n3 g1 g2 g3 g4 g5 ∧ dyOK n1 g2
def dyI (kI kB : ClassId) (i : Nat) (y : Nat) (w : va_W) : Prop := ∃ (y0 y1 y2 y3 y4 y5 : Nat) (n1 n2 n3 : Int32) (g1 g2 g3 g4 g5 : Nat → Int32) (z0 z1 : Nat) (m1 m2 : Int32) (g : Nat → Int32), w = (y, .inr (1, [.ref y0, .ref z0])) :: (dyW kI y0 y1 y2 y3 y4 y5 n1 n2 n3 g1 g2 g3 g4 g5 ++ dyT kB z0 z1 m1 m2 g) ∧ dyOK n1 g2 ∧ 0 ≤ m1.toInt ∧ m1.toInt ≤ 200 ∧ fB g
/-- slots 0 .. N of a row r, each null or the head of a block that B describes; the blocks, laid side by side, are T -/
def dyS (B : Nat → Nat → va_W → Prop) (N : Nat) (r : Nat → Option Nat) (T : va_W) : Prop := ∃ (os : List Nat) (b : Nat → va_W), os.Nodup ∧ T = os.flatMap b ∧ (∀ i, i < N → (r i = none ∧ i ∉ os) ∨ (∃ y, r i = some y ∧ i ∈ os ∧ B i y (b i)))
theorem dy_cong {f g : Nat → va_W} : ∀ (l : List Nat), (∀ i ∈ l, f i = g i) → l.flatMap f = l.flatMap g
  | [], _ => rfl
  | a :: l, h => by rw [List.flatMap_cons, List.flatMap_cons, h a List.mem_cons_self, dy_cong l (fun i hi => h i (List.mem_cons_of_mem _ hi))]
theorem dyS_get {B : Nat → Nat → va_W → Prop} {N : Nat} {r : Nat → Option Nat} {T : va_W} (h : dyS B N r T) {j : Nat} (hj : j < N) {y : Nat} (hr : r j = some y) : ∃ w T2, B j y w ∧ T.Perm (w ++ T2) ∧ ∀ w2, B j y w2 → dyS B N r (w2 ++ T2) := by
  obtain ⟨os, b, hn, hT, hs⟩ := h
  rcases hs j hj with ⟨q, -⟩ | ⟨y2, q, hm, hb⟩
  · rw [hr] at q; cases q
  rw [hr] at q
  cases q
  refine ⟨b j, (os.erase j).flatMap b, hb, ?_, fun w2 hw2 => ?_⟩
  · rw [hT]
    exact (List.perm_cons_erase hm).flatMap_right b
  · have hne : j ∉ os.erase j := hn.not_mem_erase
    refine ⟨j :: os.erase j, va_up b j w2, List.nodup_cons.mpr ⟨hne, hn.erase j⟩, ?_, fun i hi => ?_⟩
    · rw [List.flatMap_cons]
      have e1 : va_up b j w2 j = w2 := by simp [va_up]
      rw [e1]
      congr 1
      refine dy_cong _ (fun i hi => ?_)
      have : i ≠ j := fun e => hne (e ▸ hi)
      simp [va_up, this]
    · by_cases e : i = j
      · subst e
        exact Or.inr ⟨y, hr, List.mem_cons_self, by simpa [va_up] using hw2⟩
      · rcases hs i hi with ⟨q, hm2⟩ | ⟨y2, q, hm2, hb2⟩
        · exact Or.inl ⟨q, fun h => (List.mem_cons.mp h).elim e (fun h => hm2 (List.mem_of_mem_erase h))⟩
        · exact Or.inr ⟨y2, q, List.mem_cons_of_mem _ ((List.mem_erase_of_ne e).mpr hm2), by simpa [va_up, e] using hb2⟩
theorem dyS_add {B : Nat → Nat → va_W → Prop} {N : Nat} {r : Nat → Option Nat} {T : va_W} (h : dyS B N r T) {j : Nat} (hj : j < N) (hr : r j = none) {y : Nat} {w : va_W} (hw : B j y w) : dyS B N (va_up r j (some y)) (w ++ T) := by
  obtain ⟨os, b, hn, hT, hs⟩ := h
  have hne : j ∉ os := by
    rcases hs j hj with ⟨-, q⟩ | ⟨y2, q, -⟩
    · exact q
    · rw [hr] at q; cases q
  refine ⟨j :: os, va_up b j w, List.nodup_cons.mpr ⟨hne, hn⟩, ?_, fun i hi => ?_⟩
  · rw [List.flatMap_cons, hT]
    have e1 : va_up b j w j = w := by simp [va_up]
    rw [e1]
    congr 1
    refine dy_cong _ (fun i hi => ?_)
    have : i ≠ j := fun e => hne (e ▸ hi)
    simp [va_up, this]
  · by_cases e : i = j
    · subst e
      exact Or.inr ⟨y, by simp [va_up], List.mem_cons_self, by simpa [va_up] using hw⟩
    · rcases hs i hi with ⟨q, hm2⟩ | ⟨y2, q, hm2, hb2⟩
      · exact Or.inl ⟨by simpa [va_up, e] using q, fun h => (List.mem_cons.mp h).elim e hm2⟩
      · exact Or.inr ⟨y2, by simpa [va_up, e] using q, List.mem_cons_of_mem _ hm2, by simpa [va_up, e] using hb2⟩
theorem dyS_0 {B : Nat → Nat → va_W → Prop} {N : Nat} : dyS B N (fun _ => none) [] := ⟨[], fun _ => [], List.nodup_nil, rfl, fun _ _ => Or.inl ⟨rfl, List.not_mem_nil⟩⟩
/-- the whole tail: the ring's works, then the images -/
def dyA (kI kB : ClassId) (r m : Nat → Option Nat) (T : va_W) : Prop := ∃ T1 T2, T = T1 ++ T2 ∧ dyS (dyR kI) 10 r T1 ∧ dyS (dyI kI kB) 2 m T2
theorem dyA_0 {kI kB : ClassId} : dyA kI kB (fun _ => none) (fun _ => none) [] := ⟨[], [], rfl, dyS_0, dyS_0⟩
theorem dyA_ring {kI kB : ClassId} {r m : Nat → Option Nat} {T : va_W} (h : dyA kI kB r m T) {j : Nat} (hj : j < 10) {y : Nat} (hr : r j = some y) : ∃ (y1 y2 y3 y4 y5 : Nat) (n1 n2 n3 : Int32) (g1 g2 g3 g4 g5 : Nat → Int32) (T2 : va_W), dyOK n1 g2 ∧ T.Perm (dyW kI y y1 y2 y3 y4 y5 n1 n2 n3 g1 g2 g3 g4 g5 ++ T2) ∧ ∀ (n1 n2 n3 : Int32) (g1 g2 g3 g4 g5 : Nat → Int32), dyOK n1 g2 → dyA kI kB r m (dyW kI y y1 y2 y3 y4 y5 n1 n2 n3 g1 g2 g3 g4 g5 ++ T2) := by
  obtain ⟨T1, T2, rfl, h1, h2⟩ := h
  obtain ⟨w, T3, ⟨y1, y2, y3, y4, y5, n1, n2, n3, g1, g2, g3, g4, g5, rfl, hk⟩, hp, hb⟩ := dyS_get h1 hj hr
  refine ⟨y1, y2, y3, y4, y5, n1, n2, n3, g1, g2, g3, g4, g5, T3 ++ T2, hk, ?_, fun n1 n2 n3 g1 g2 g3 g4 g5 hk2 => ⟨dyW kI y y1 y2 y3 y4 y5 n1 n2 n3 g1 g2 g3 g4 g5 ++ T3, T2, by simp, hb _ ⟨y1, y2, y3, y4, y5, n1, n2, n3, g1, g2, g3, g4, g5, rfl, hk2⟩, h2⟩⟩
  have := hp.append_right T2
  rwa [List.append_assoc] at this
theorem dyA_ringNew {kI kB : ClassId} {r m : Nat → Option Nat} {T : va_W} (h : dyA kI kB r m T) {j : Nat} (hj : j < 10) (hr : r j = none) {y y1 y2 y3 y4 y5 : Nat} {n1 n2 n3 : Int32} {g1 g2 g3 g4 g5 : Nat → Int32} (hk : dyOK n1 g2) : dyA kI kB (va_up r j (some y)) m (dyW kI y y1 y2 y3 y4 y5 n1 n2 n3 g1 g2 g3 g4 g5 ++ T) := by
  obtain ⟨T1, T2, rfl, h1, h2⟩ := h
  exact ⟨dyW kI y y1 y2 y3 y4 y5 n1 n2 n3 g1 g2 g3 g4 g5 ++ T1, T2, by simp, dyS_add h1 hj hr ⟨y1, y2, y3, y4, y5, n1, n2, n3, g1, g2, g3, g4, g5, rfl, hk⟩, h2⟩
