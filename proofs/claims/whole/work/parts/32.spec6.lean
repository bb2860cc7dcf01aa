/-- all below k -/
def alB (P : Nat → Bool) : Nat → Bool
  | 0 => true
  | k + 1 => alB P k && P k
def astP (A : Nat → Nat → Int32) (L : Nat → Nat → Int64) (d p : Nat) : Bool := decide ((A 4 p).toInt64 = L 13 (100 * d + p))
def fgP (N M : Nat) (L : Nat → Nat → Int64) (d i : Nat) : Bool := decide (¬ i < N ∨ (¬ L 13 (100 * d + i) = 9 ∧ (¬ liS (L 13 (100 * d + i)) 0 (nI M - 1).toInt64 = true ∨ 1 < cnS (fun j => decide (L 13 (100 * d + j) = L 13 (100 * d + i))) i)))
def fgS (N M : Nat) (L : Nat → Nat → Int64) (d R : Nat) : Int32 := fsB (fgP N M L d) 0 R
def forS (N M : Nat) (A : Nat → Nat → Int32) (L : Nat → Nat → Int64) (d : Int32) : Int32 := if wkS (A 8) 2 d < 0 then wkS (A 8) 2 d else fgS N M L d.toNatClampNeg (A 12 d.toNatClampNeg).toNatClampNeg
def wantS (N : Nat) (A : Nat → Nat → Int32) (h : Nat) : Int32 := (cnS (fun p => decide (A 3 p = nI h)) N + 1) / 2
def hoM (N : Nat) (A : Nat → Nat → Int32) : Nat → Int32
  | 0 => -1
  | k + 1 => grS (hoM N A k) (wantS N A k)
def hoB (N : Nat) (A : Nat → Nat → Int32) : Nat → Int32
  | 0 => 0
  | k + 1 => if hoM N A k < wantS N A k then nI k else hoB N A k
def houS (N : Nat) (A : Nat → Nat → Int32) (what : Int32) : Int32 := if okr what 0 1 then (if what = 0 then hoM N A 6 else hoB N A 6) else -1
def trN (A : Nat → Nat → Int32) (p : Nat) : Int32 := trS A p (A 4 p).toNatClampNeg
def tuB (A : Nat → Nat → Int32) (what : Int32) : Nat → Int32
  | 0 => -4
  | k + 1 => if A 4 k = 9 then tuB A what k else if tuB A what k < 0 then nI k else if what = 0 then (if trN A k - trN A (tuB A what k).toNatClampNeg < 0 then nI k else tuB A what k) else (if 0 < trN A k - trN A (tuB A what k).toNatClampNeg then nI k else tuB A what k)
def turS (N : Nat) (A : Nat → Nat → Int32) (what : Int32) : Int32 := if okr what 0 1 then tuB A what N else -1
