theorem pw8 {N : Nat} (h : N ≤ 8) : 2 ^ N ≤ 256 := show 2 ^ N ≤ 2 ^ 8 from Nat.pow_le_pow_right (by decide) h
theorem pw1 (N : Nat) : 1 ≤ 2 ^ N := Nat.one_le_two_pow
theorem full_i : ∀ N, N ≤ 8 → nI (2 ^ N) - 1 = nI (2 ^ N - 1) := by decide +kernel
theorem clr_s {s a : Nat} (h : s.testBit a = true) : clrN s a < s := by
  unfold clrN
  rw [if_pos h]
  have h1 : 2 ^ a ≤ s := Nat.ge_two_pow_of_testBit h
  have h2 : 1 ≤ 2 ^ a := Nat.one_le_two_pow
  omega
theorem pop_le (s : Nat) : popN s ≤ 8 := by
  unfold popN
  have h := fun k => Bool.toNat_le (s.testBit k)
  have h0 := h 0
  have h1 := h 1
  have h2 := h 2
  have h3 := h 3
  have h4 := h 4
  have h5 := h 5
  have h6 := h 6
  have h7 := h 7
  omega
/-- the best of the twos of a set, by a table of the lesser sets -/
def mfU (A : Nat → Nat → Int32) (T : Nat → Int32) (a r : Nat) (z : Int32) : Nat → Int32
  | 0 => z
  | k + 1 => if Nat.testBit r (a + 1 + k) then grS (mfU A T a r z k) (likS A a (a + 1 + k) + T (clrN r (a + 1 + k))) else mfU A T a r z k
def moV (A : Nat → Nat → Int32) (N : Nat) (T : Nat → Int32) (s : Nat) : Int32 := mfU A T (lowN s) (clrN s (lowN s)) (if popN s % 2 = 1 then T (clrN s (lowN s)) else -1) (N - (lowN s + 1))
def moT (A : Nat → Nat → Int32) (N : Nat) (T : Nat → Int32) : Nat → Nat → Int32
  | 0 => fun i => if i = 0 then 0 else T i
  | k + 1 => fun i => if i = k + 1 then moV A N (moT A N T k) (k + 1) else moT A N T k i
def moA (N : Nat) (A : Nat → Nat → Int32) (k : Nat) : Nat → Nat → Int32 := fun j => if j = 20 then moT A N (A 20) k else A j
theorem moA_0 {N : Nat} {A : Nat → Nat → Int32} : upA A 20 0 0 = moA N A 0 := by
  funext j i
  unfold upA moA moT
  by_cases h : j = 20
  · subst h; simp
  · simp [h]
theorem moA_s {N k : Nat} {A : Nat → Nat → Int32} {v : Int32} (h : v = moV A N (moT A N (A 20) k) (k + 1)) : upA (moA N A k) 20 (k + 1) v = moA N A (k + 1) := by
  subst h
  funext j i
  unfold upA moA
  by_cases h : j = 20
  · subst h
    simp only [if_true]
    conv => rhs; unfold moT
  · simp [h]
/-- whom each has by the first best twos of s -/
def lbP (A : Nat → Nat → Int32) (T : Nat → Int32) (s b : Nat) : Bool := decide (Nat.testBit (clrN s (lowN s)) b = true ∧ likS A (lowN s) b + T (clrN (clrN s (lowN s)) b) = T s)
def lbX (A : Nat → Nat → Int32) (N : Nat) (T : Nat → Int32) (s : Nat) : Int32 := fsB (lbP A T s) (lowN s + 1) (N - (lowN s + 1))
def lbM (A : Nat → Nat → Int32) (N : Nat) (T : Nat → Int32) : Nat → Nat → (Nat → Int32) → Nat → Int32
  | 0, _, mt => mt
  | f + 1, s, mt => if s = 0 then mt else if lbX A N T s < 0 then lbM A N T f (clrN s (lowN s)) (fun i => if i = lowN s then lbX A N T s else mt i)
    else lbM A N T f (clrN (clrN s (lowN s)) (lbX A N T s).toNatClampNeg) (fun i => if i = (lbX A N T s).toNatClampNeg then nI (lowN s) else if i = lowN s then lbX A N T s else mt i)
def lbA (N : Nat) (A : Nat → Nat → Int32) (mt : Nat → Int32) : Nat → Nat → Int32 := fun j => if j = 19 then mt else moA N A (2 ^ N - 1) j
theorem lbA_0 {N : Nat} {A : Nat → Nat → Int32} : moA N A (2 ^ N - 1) = lbA N A (A 19) := by
  funext j
  unfold lbA
  by_cases h : j = 19
  · subst h; simp [moA]
  · simp [h]
theorem lbA_s {N i : Nat} {A : Nat → Nat → Int32} {mt : Nat → Int32} {v : Int32} : upA (lbA N A mt) 19 i v = lbA N A (fun k => if k = i then v else mt k) := by
  funext j
  unfold upA lbA
  by_cases h : j = 19
  · subst h; simp
  · simp [h]
def bsT (N : Nat) (A : Nat → Nat → Int32) : Nat → Int32 := moT A N (A 20) (2 ^ N - 1)
def bsM (N : Nat) (A : Nat → Nat → Int32) : Nat → Int32 := lbM A N (bsT N A) 256 (2 ^ N - 1) (A 19)
def besS (N : Nat) (A : Nat → Nat → Int32) (i : Int32) : Int32 := if okm N i then (if i < 0 then bsT N A (2 ^ N - 1) else bsM N A i.toNatClampNeg) else -1
