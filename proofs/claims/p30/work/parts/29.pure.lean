/-! the text as both sides read it: t i is byte i (0 .. 255), n how many there are -/
def tFe (t : Nat → Int) (n : Nat) : Nat → Nat → Nat
  | 0, a => a
  | f + 1, a => if a < n ∧ 48 ≤ t a ∧ t a ≤ 57 then tFe t n f (a + 1) else a
/-- where the run of figures that goes on at a ends -/
def tEnd (t : Nat → Int) (n a : Nat) : Nat := tFe t n (n - a) a
theorem tEnd_in {t : Nat → Int} {n a : Nat} (h : a < n) (h1 : 48 ≤ t a) (h2 : t a ≤ 57) : tEnd t n a = tEnd t n (a + 1) := by
  unfold tEnd
  rw [show n - a = (n - (a + 1)) + 1 by omega]
  show (if a < n ∧ 48 ≤ t a ∧ t a ≤ 57 then tFe t n (n - (a + 1)) (a + 1) else a) = _
  rw [if_pos ⟨h, h1, h2⟩]
theorem tEnd_out {t : Nat → Int} {n a : Nat} (h : ¬ (a < n ∧ 48 ≤ t a ∧ t a ≤ 57)) : tEnd t n a = a := by
  unfold tEnd
  cases hf : n - a with
  | zero => rfl
  | succ f =>
    show (if a < n ∧ 48 ≤ t a ∧ t a ≤ 57 then tFe t n f (a + 1) else a) = a
    rw [if_neg h]
theorem tFe_ge {t : Nat → Int} {n : Nat} : ∀ (f a : Nat), a ≤ tFe t n f a
  | 0, a => Nat.le_refl a
  | f + 1, a => by
    show a ≤ if a < n ∧ 48 ≤ t a ∧ t a ≤ 57 then tFe t n f (a + 1) else a
    split
    · exact Nat.le_trans (Nat.le_succ a) (tFe_ge f (a + 1))
    · exact Nat.le_refl a
theorem tFe_le {t : Nat → Int} {n : Nat} : ∀ (f a : Nat), a ≤ n → tFe t n f a ≤ n
  | 0, a, h => h
  | f + 1, a, h => by
    show (if a < n ∧ 48 ≤ t a ∧ t a ≤ 57 then tFe t n f (a + 1) else a) ≤ n
    split
    · rename_i q
      exact tFe_le f (a + 1) q.1
    · exact h
theorem tEnd_ge {t : Nat → Int} {n a : Nat} : a ≤ tEnd t n a := tFe_ge _ _
theorem tEnd_le {t : Nat → Int} {n a : Nat} (h : a ≤ n) : tEnd t n a ≤ n := tFe_le _ _ h
/-- the number that the first k bytes from a tell (of a longer run the first three alone) -/
def tVal (t : Nat → Int) (a : Nat) : Nat → Int
  | 0 => 0
  | k + 1 => if k < 3 then tVal t a k * 10 + t (a + k) - 48 else tVal t a k
/-- the TOKEN at a: -1 the end, -2 a NUMBER, -3 none, else its byte -/
def tTok (t : Nat → Int) (n a : Nat) : Int :=
  if a < n then (if 48 ≤ t a ∧ t a ≤ 57 then (if tEnd t n a - a ≤ 3 then -2 else -3) else if (97 ≤ t a ∧ t a ≤ 122) ∨ t a = 44 ∨ t a = 59 then t a else -3) else -1
def tNx (t : Nat → Int) (n a : Nat) : Nat := if a < n then (if 48 ≤ t a ∧ t a ≤ 57 then tEnd t n a else a + 1) else a
def tNum (t : Nat → Int) (n a : Nat) : Int := tVal t a (tEnd t n a - a)
def tKind (k : Int) : Int := if k = 112 then 1 else if k = 115 then 2 else if k = 104 then 3 else if k = 114 then 4 else if k = 98 then 5 else 0
def tGr (kind many first : Int) : Int := first + (if kind = 2 then 2 * many - 1 else if kind = 3 then (many - 1) / 2 else if kind = 5 then 0 else many - 1)
def tFrom (L : Int) (c : Nat) (p : Nat → Nat → Int) (fr : Int) : Prop := 0 ≤ fr ∧ fr < L ∧ ∀ s, s < c → fr + 1 ≤ p s 1 ∨ p s 1 + p s 2 ≤ fr
def tMany (L : Int) (c : Nat) (p : Nat → Nat → Int) (fr many : Int) : Prop := 1 ≤ many ∧ many ≤ L - fr ∧ ∀ s, s < c → fr + many ≤ p s 1 ∨ p s 1 + p s 2 ≤ fr
def tFirst (kind many first : Int) : Prop := 1 ≤ first ∧ first ≤ 999 ∧ tGr kind many first ≤ 999
/-- the places of a stretch's six further TOKENS behind its letter at a -/
def tAt (t : Nat → Int) (n a : Nat) : Nat → Nat
  | 0 => a
  | k + 1 => tNx t n (tAt t n a k)
/-- a stretch is told at a: its letter, FROM , MANY , FIRST ; as it must be beside those that were told -/
def tStr (t : Nat → Int) (n : Nat) (L : Int) (a : Nat) (c : Nat) (p : Nat → Nat → Int) : Prop :=
  tKind (tTok t n a) ≠ 0 ∧ c < 6 ∧ tTok t n (tAt t n a 1) = -2 ∧ tFrom L c p (tNum t n (tAt t n a 1)) ∧ tTok t n (tAt t n a 2) = 44 ∧ tTok t n (tAt t n a 3) = -2 ∧ tMany L c p (tNum t n (tAt t n a 1)) (tNum t n (tAt t n a 3)) ∧ tTok t n (tAt t n a 4) = 44 ∧ tTok t n (tAt t n a 5) = -2 ∧ tFirst (tKind (tTok t n a)) (tNum t n (tAt t n a 3)) (tNum t n (tAt t n a 5)) ∧ tTok t n (tAt t n a 6) = 59
/-- the parts of the stretch told at a -/
def tPart (t : Nat → Int) (n a : Nat) : Nat → Int
  | 0 => tKind (tTok t n a)
  | 1 => tNum t n (tAt t n a 1)
  | 2 => tNum t n (tAt t n a 3)
  | _ => tNum t n (tAt t n a 5)
def tPut (p : Nat → Nat → Int) (s : Nat) (v : Nat → Int) : Nat → Nat → Int := fun s2 w => if s2 = s then v w else p s2 w
/-- from a on there are EDITIONS to the end; ne of them were begun, the last one has c stretches p -/
def tEds (t : Nat → Int) (n : Nat) (L : Int) : Nat → Nat → Nat → Nat → (Nat → Nat → Int) → Prop
  | 0, _, _, _, _ => False
  | f + 1, a, ne, c, p => tTok t n a = -1 ∨ (tTok t n a = 101 ∧ ne < 5 ∧ tEds t n L f (tNx t n a) (ne + 1) 0 p) ∨ (0 < ne ∧ tStr t n L a c p ∧ tEds t n L f (tAt t n a 7) ne (c + 1) (tPut p c (tPart t n a)))
/-- the whole text is a WORK -/
def tWork (t : Nat → Int) (n : Nat) : Prop := tTok t n 0 = 119 ∧ tTok t n (tAt t n 0 1) = -2 ∧ 1 ≤ tNum t n (tAt t n 0 1) ∧ tNum t n (tAt t n 0 1) ≤ 200 ∧ tTok t n (tAt t n 0 2) = 59 ∧ tEds t n (tNum t n (tAt t n 0 1)) (n + 1) (tAt t n 0 3) 0 0 (fun _ _ => 0)
