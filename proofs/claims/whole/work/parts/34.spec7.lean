theorem roomS_in (k : Int32) : roomS k = 3 ∨ roomS k = 4 ∨ roomS k = 5 ∨ roomS k = 6 ∨ roomS k = 10 := by
  unfold roomS
  repeat (first | (split; · simp) | simp)
theorem room_nz (a b : Int32) : ¬ roomS a + roomS b = 0 := by
  rcases roomS_in a with h | h | h | h | h <;> rcases roomS_in b with g | g | g | g | g <;> rw [h, g] <;> decide
def lowS (p m : Nat) : Nat := if p < m then p else m
def cutS (A : Nat → Nat → Int32) (p m : Nat) (v : Int32) : Int32 := v * roomS (A 1 (lowS p m)) / (roomS (A 1 p) + roomS (A 1 m))
def byS (A : Nat → Nat → Int32) (p m : Nat) (v : Int32) : Int32 := if brS A p m < brS A m p then v else if brS A m p < brS A p m then 0 else hfS (nI p) (nI m) v
def denV (A : Nat → Nat → Int32) (p m : Nat) (v law : Int32) : Int32 := if law = 0 then hfS (nI p) (nI m) v else if law = 1 then (if p = lowS p m then cutS A p m v else v - cutS A p m v) else byS A p m v
def denS (N : Nat) (A : Nat → Nat → Int32) (p v law : Int32) : Int32 := if okp N p ∧ okr v 0 999 ∧ okr law 0 2 then (if A 4 p.toNatClampNeg = 9 then -3 else if mateS N (A 4) p.toNatClampNeg < 0 then v else denV A p.toNatClampNeg (mateS N (A 4) p.toNatClampNeg).toNatClampNeg v law) else -1
theorem swS_row {A : Nat → Nat → Int32} {a b j : Nat} (h : j ≠ 4) : swS A a b j = A j := by
  unfold swS
  rw [upA_n _ h, upA_n _ h]
theorem swS_4 {A : Nat → Nat → Int32} {a b i : Nat} : swS A a b 4 i = if i = b then A 4 a else if i = a then A 4 b else A 4 i := by
  unfold swS
  rw [upA_s, upA_s]
theorem swS_2 {A : Nat → Nat → Int32} {a b : Nat} : swS (swS A a b) a b = A := by
  funext j i
  by_cases h : j = 4
  · subst h
    rw [swS_4]
    simp only [swS_4]
    by_cases h1 : i = b
    · subst h1
      by_cases h2 : a = i
      · subst h2; simp
      · simp [h2]
    · by_cases h2 : i = a
      · subst h2; simp [h1]
      · simp [h1, h2]
  · rw [swS_row h, swS_row h]
theorem insOK_sw {N M : Nat} {A : Nat → Nat → Int32} {a b : Nat} (h : insOK N M (A 4)) (ha : a < N) (hb : b < N) : insOK N M (swS A a b 4) := by
  intro p hp
  rw [swS_4]
  by_cases h1 : p = b
  · rw [if_pos h1]; exact h a ha
  · rw [if_neg h1]
    by_cases h2 : p = a
    · rw [if_pos h2]; exact h b hb
    · rw [if_neg h2]; exact h p hp
def ncP (N : Nat) (A : Nat → Nat → Int32) (a b : Nat) : Bool := decide (¬ A 4 a = A 4 b ∧ ctS N A a < ctS N (swS A a b) a ∧ ctS N A b < ctS N (swS A a b) b)
def nxS (N : Nat) (A : Nat → Nat → Int32) : Int32 := f2B (ncP N A) N 0 N
/-- bits from the top -/
def bdB (P : Nat → Bool) : Nat → Nat → Int32
  | _, 0 => 0
  | j, k + 1 => bdB P (j + 1) k ||| (if P j then 0 else (1 : Int32) <<< (nI j &&& 31))
theorem bdB_d {P : Nat → Bool} {N j : Nat} (h : j < N) : bdB P j (N - j) = bdB P (j + 1) (N - (j + 1)) ||| (if P j then 0 else (1 : Int32) <<< (nI j &&& 31)) := by
  rw [show N - j = (N - (j + 1)) + 1 by omega]
  rfl
theorem bdB_0 {P : Nat → Bool} {N : Nat} : bdB P N (N - N) = 0 := by rw [Nat.sub_self]; rfl
def juP (N : Nat) (A : Nat → Nat → Int32) (L : Nat → Nat → Int64) (d a b : Nat) : Bool := decide (¬ swS A a b 4 a = swS A a b 4 b ∧ alB (astP (swS A a b) L d) N = true)
def junS (N M : Nat) (A : Nat → Nat → Int32) (L : Nat → Nat → Int64) (d what : Int32) : Int32 := if okr what 0 2 then (if wkS (A 8) 2 d < 0 then wkS (A 8) 2 d else
  (if ¬ fgS N M L d.toNatClampNeg (A 12 d.toNatClampNeg).toNatClampNeg < 0 ∨ ¬ A 12 d.toNatClampNeg = nI N then -13 else
    (if what = 0 then bdB (astP A L d.toNatClampNeg) 0 N else if what = 1 then c2B (juP N A L d.toNatClampNeg) N 0 N else f2B (juP N A L d.toNatClampNeg) N 0 N))) else -1
