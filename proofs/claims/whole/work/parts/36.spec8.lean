theorem wkS_z {H : Nat → Int32} {x d : Int32} (hx : ¬ x = 0) (h : ¬ wkS H x d < 0) : wkS H x d = 0 := by
  obtain ⟨j, hj, rfl, e⟩ := wkS_ok h
  unfold wkS
  rw [if_neg, nI_clamp (by omega), e, if_neg hx, if_neg (fun z => z rfl)]
  intro z
  apply z
  rw [okr_i]
  refine ⟨nI_pos (by omega), fun w => ?_⟩
  have := (nI_ltI (a := 7) (b := j) (by omega) (by omega)).mp w
  omega
def setS (b : Int32) (p : Int32) : Bool := bitS b p
/-- the seed's next, a draw -/
def sdS (z : Int32) : Int32 := z * 1103515245 + 12345
def drS (z n : Int32) : Int32 := (z &&& 2147483647) / 65536 - (z &&& 2147483647) / 65536 / n * n
def ciS (A : Nat → Nat → Int32) (a b l : Nat) : Int32 := if a = b then 12 - trS A a l else likS A a b - trS A a l - trS A b l
def mbeS (fx : Nat → Int32) (p : Nat) (l : Int32) : Bool := decide (fx p < 0 ∨ fx p = l)
def awP (fx : Nat → Int32) (set l : Int32) (p : Nat) : Bool := if bitS set (nI p) then mbeS fx p l else decide (¬ fx p = l)
def frA (A : Nat → Nat → Int32) (k : Nat) : Nat → Nat → Int32 := fun j => if j = 22 then (fun i => if i < k then -1 else A 22 i) else A j
theorem frA_0 {A : Nat → Nat → Int32} : frA A 0 = A := by
  funext j i
  unfold frA
  by_cases h : j = 22
  · subst h; simp
  · simp [h]
theorem frA_s {A : Nat → Nat → Int32} {k : Nat} : upA (frA A k) 22 k (-1) = frA A (k + 1) := by
  funext j i
  unfold upA frA
  by_cases h : j = 22
  · subst h
    by_cases h2 : i = k
    · subst h2; simp
    · have : i < k ↔ i < k + 1 := by omega
      simp [h2, this]
  · simp [h]
def ltrS (c : Int32) : Bool := decide (c = 112 ∨ c = 108 ∨ c = 109 ∨ c = 120 ∨ c = 107 ∨ c = 110)
