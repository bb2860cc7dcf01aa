/-! sets of pupils as numbers below 256 -/
theorem bit_t : ∀ s, s < 256 → ∀ k, k < 8 → bitS (nI s) (nI k) = s.testBit k := by decide +kernel
def lwF (s : Nat) : Nat → Nat → Nat
  | k, 0 => k
  | k, f + 1 => if s.testBit k then k else lwF s (k + 1) f
def lowN (s : Nat) : Nat := lwF s 0 8
theorem lwF_d {s k : Nat} (h : k < 8) : lwF s k (8 - k) = if s.testBit k then k else lwF s (k + 1) (8 - (k + 1)) := by
  rw [show 8 - k = (8 - (k + 1)) + 1 by omega]
  rfl
theorem low_in : ∀ s, s < 256 → s ≠ 0 → lowN s < 8 ∧ s.testBit (lowN s) = true := by decide +kernel
theorem low_8 {s : Nat} (h : s < 256) (h0 : s ≠ 0) (e : lowN s = lwF s 8 (8 - 8)) : False := by
  have h1 := (low_in s h h0).1
  rw [e] at h1
  exact absurd (show 8 < 8 from h1) (by decide)
def popN (s : Nat) : Nat := (s.testBit 0).toNat + (s.testBit 1).toNat + (s.testBit 2).toNat + (s.testBit 3).toNat + (s.testBit 4).toNat + (s.testBit 5).toNat + (s.testBit 6).toNat + (s.testBit 7).toNat
theorem pop_s : ∀ s, s < 256 → s ≠ 0 → popN s = popN (s &&& (s - 1)) + 1 ∧ s &&& (s - 1) < s := by decide +kernel
theorem and_1 : ∀ s, s < 256 → s ≠ 0 → nI s &&& (nI s - 1) = nI (s &&& (s - 1)) := by decide +kernel
def clrN (s a : Nat) : Nat := if s.testBit a then s - 2 ^ a else s
theorem clr_i : ∀ s, s < 256 → ∀ a, a < 8 → nI s &&& ((1 : Int32) <<< (nI a &&& 31) ^^^ (-1)) = nI (clrN s a) := by decide +kernel
theorem clr_lt {s a : Nat} (h : s < 256) : clrN s a < 256 := by
  unfold clrN
  split
  · exact Nat.lt_of_le_of_lt (Nat.sub_le _ _) h
  · exact h
theorem clr_les {s a : Nat} : clrN s a ≤ s := by
  unfold clrN
  split
  · exact Nat.sub_le _ _
  · exact Nat.le_refl _
theorem sh1 : ∀ a, a < 9 → (1 : Int32) <<< (nI a &&& 31) = nI (2 ^ a) := by decide +kernel
def twS (n : Nat) : Nat := match n with
  | 3 => 3
  | 4 => 3
  | 5 => 15
  | 6 => 15
  | 7 => 105
  | 8 => 105
  | _ => 1
/-- the elements i .. of a row come to j .. of another: k of them -/
def btL (L : Nat → Nat → Int64) (d i k : Nat) : Nat → Nat → Int64 := fun r => if r = 24 then (fun x => if x < k then L 13 (100 * d + i + x) else L 24 x) else L r
theorem btL_0 {L : Nat → Nat → Int64} {d i : Nat} : btL L d i 0 = L := by
  funext r x
  unfold btL
  by_cases h : r = 24
  · subst h; simp
  · simp [h]
theorem btL_s {L : Nat → Nat → Int64} {d i k : Nat} : upA (btL L d i k) 24 k (L 13 (100 * d + i + k)) = btL L d i (k + 1) := by
  funext r x
  unfold upA btL
  by_cases h : r = 24
  · subst h
    by_cases h2 : x = k
    · subst h2; simp
    · have : x < k ↔ x < k + 1 := by omega
      simp [h2, this]
  · simp [h]
def cpL (L : Nat → Nat → Int64) (d i e j n k : Nat) : Nat → Nat → Int64 := fun r => if r = 13 then (fun x => if 100 * e + j ≤ x ∧ x < 100 * e + j + k then L 13 (100 * d + i + (x - (100 * e + j))) else L 13 x) else btL L d i n r
theorem cpL_0 {L : Nat → Nat → Int64} {d i e j n : Nat} : cpL L d i e j n 0 = btL L d i n := by
  funext r x
  unfold cpL
  by_cases h : r = 13
  · subst h
    show (if 100 * e + j ≤ x ∧ x < 100 * e + j + 0 then _ else L 13 x) = L 13 x
    rw [if_neg (by omega)]
  · simp [h]
theorem cpL_s {L : Nat → Nat → Int64} {d i e j n k : Nat} : upA (cpL L d i e j n k) 13 (100 * e + j + k) (L 13 (100 * d + i + k)) = cpL L d i e j n (k + 1) := by
  funext r x
  unfold upA cpL
  by_cases h : r = 13
  · subst h
    by_cases h2 : x = 100 * e + j + k
    · subst h2
      have : 100 * e + j ≤ 100 * e + j + k ∧ 100 * e + j + k < 100 * e + j + (k + 1) := by omega
      simp [this]
    · have : (100 * e + j ≤ x ∧ x < 100 * e + j + k) ↔ (100 * e + j ≤ x ∧ x < 100 * e + j + (k + 1)) := by omega
      simp [h2, this]
  · simp [h]
theorem cpL_24 {L : Nat → Nat → Int64} {d i e j n k x : Nat} (h : x < n) : cpL L d i e j n k 24 x = L 13 (100 * d + i + x) := by
  simp [cpL, btL, h]
