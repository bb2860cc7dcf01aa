/-! WHAT THE REFERENCE SAYS, as functions of its rows -/
theorem rd_i {a b : Int32} (h : a = b) : some (Value.int a) = some (Value.int b) := h ▸ rfl
theorem rd_l {a b : Int64} (h : a = b) : some (Value.long a) = some (Value.long b) := h ▸ rfl
def okp (N : Nat) (p : Int32) : Bool := decide (¬ p < 0 ∧ p < nI N)
def okr (p lo hi : Int32) : Bool := decide (¬ p < lo ∧ ¬ hi < p)
def liS (v lo hi : Int64) : Bool := decide (¬ v < lo ∧ ¬ hi < v)
def bitS (b k : Int32) : Bool := decide ((b >>> (k &&& 31)) &&& 1 = 1)
theorem okp_i {N : Nat} {p : Int32} : okp N p = true ↔ ¬ p < 0 ∧ p < nI N := decide_eq_true_iff
theorem okr_i {p lo hi : Int32} : okr p lo hi = true ↔ ¬ p < lo ∧ ¬ hi < p := decide_eq_true_iff
theorem liS_i {v lo hi : Int64} : liS v lo hi = true ↔ ¬ v < lo ∧ ¬ hi < v := decide_eq_true_iff
def grS (a b : Int32) : Int32 := if b < a then a else b
def apS (a b : Int32) : Int32 := if b < a then a - b else b - a
def dampS (k : Int32) : Int32 := if k = 1 then 3 else if k = 5 then 6 else 0
def roomS (k : Int32) : Int32 := if k = 1 then 6 else if k = 2 then 3 else if k = 3 then 5 else if k = 4 then 3 else if k = 5 then 6 else if k = 6 then 3 else if k = 7 then 10 else 4
def plainS (fa kb fb : Int32) : Int32 := grS 0 (12 - apS fa fb - dampS kb)
def tidyS (fa kb fb : Int32) : Int32 := grS 0 (plainS fa kb fb - dampS kb)
def bearS (ka fa kb fb : Int32) : Int32 :=
  if ka = 1 then plainS fa kb fb + dampS kb else if ka = 2 then tidyS fa kb fb else if ka = 3 then plainS fa kb fb + 2 else if ka = 4 then tidyS fa kb fb / 2
  else if ka = 5 then plainS fa kb fb + dampS kb else if ka = 6 then grS 0 (tidyS fa kb fb - 3) else if ka = 7 then plainS fa kb fb + 3 else plainS fa kb fb
def trouS (k far ab : Int32) : Int32 := if k = 3 ∨ k = 7 then far + (3 - 3 * ab) else far + 2 * ab
/-- the first place from j on, of k, with P; -4 -/
def fsB (P : Nat → Bool) : Nat → Nat → Int32
  | _, 0 => -4
  | j, k + 1 => if P j then nI j else fsB P (j + 1) k
def mateP (ins : Nat → Int32) (p o : Nat) : Bool := decide (o ≠ p ∧ ins p ≠ 9 ∧ ins o = ins p)
def mateS (N : Nat) (ins : Nat → Int32) (p : Nat) : Int32 := fsB (mateP ins p) 0 N
theorem okp_nI {N : Nat} {p : Int32} (h : okp N p) (hN : N < 2 ^ 31) : ∃ j : Nat, j < N ∧ p = nI j := by
  have h := okp_i.mp h
  obtain ⟨j, hj, rfl⟩ := nI_of h.1
  exact ⟨j, (nI_ltI hj hN).mp h.2, rfl⟩
theorem okp_of {N j : Nat} (h : j < N) (hN : N < 2 ^ 31) : okp N (nI j) := okp_i.mpr ⟨nI_pos (by omega), nI_lt h hN⟩
theorem li_okp {N : Nat} {p : Int32} (hN : N < 2 ^ 30) : liS p.toInt64 0 (nI N - 1).toInt64 ↔ okp N p := by
  rw [liS_i, okp_i]
  have e : (nI N - 1).toInt = (N : Int) - 1 := pk_sub_toInt (a := N) (b := 1) hN (by omega)
  rw [i64_lt, i64_lt, i32_lt, i32_lt, Int32.toInt_toInt64, Int32.toInt_toInt64, e, nI_toInt (by omega), show ((0 : Int64).toInt) = 0 from rfl, show ((0 : Int32).toInt) = 0 from rfl]
  omega
theorem li_okr {p lo hi : Int32} {a b : Int64} (ha : a.toInt = lo.toInt) (hb : b.toInt = hi.toInt) : liS p.toInt64 a b ↔ okr p lo hi := by
  rw [liS_i, okr_i]
  rw [i64_lt, i64_lt, i32_lt, i32_lt, Int32.toInt_toInt64, ha, hb]
theorem ite_c {P R : Prop} [Decidable P] [Decidable R] (h : P ↔ R) : (if P then (1 : Int32) else 0) = if R then 1 else 0 := by
  by_cases p : P
  · rw [if_pos p, if_pos (h.mp p)]
  · rw [if_neg p, if_neg (fun r => p (h.mpr r))]
theorem fsB_d {P : Nat → Bool} {N j : Nat} (h : j < N) : fsB P j (N - j) = if P j then nI j else fsB P (j + 1) (N - (j + 1)) := by
  rw [show N - j = (N - (j + 1)) + 1 by omega]
  rfl
theorem fsB_0 {P : Nat → Bool} {N : Nat} : fsB P N (N - N) = -4 := by
  rw [Nat.sub_self]
  rfl
