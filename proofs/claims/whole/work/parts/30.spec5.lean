def cfB (P : Nat → Bool) : Nat → Nat → Int32
  | _, 0 => 0
  | j, k + 1 => cfB P (j + 1) k + (if P j then 1 else 0)
def c2B (P : Nat → Nat → Bool) (N : Nat) : Nat → Nat → Int32
  | _, 0 => 0
  | j, k + 1 => c2B P N (j + 1) k + cfB (P j) (j + 1) (N - (j + 1))
def f1B (P : Nat → Bool) (a : Nat) (z : Int32) : Nat → Nat → Int32
  | _, 0 => z
  | j, k + 1 => if P j then nI (10 * a + j) else f1B P a z (j + 1) k
def f2B (P : Nat → Nat → Bool) (N : Nat) : Nat → Nat → Int32
  | _, 0 => -4
  | j, k + 1 => f1B (P j) j (f2B P N (j + 1) k) (j + 1) (N - (j + 1))
theorem cfB_d {P : Nat → Bool} {N j : Nat} (h : j < N) : cfB P j (N - j) = cfB P (j + 1) (N - (j + 1)) + (if P j then 1 else 0) := by
  rw [show N - j = (N - (j + 1)) + 1 by omega]
  rfl
theorem c2B_d {P : Nat → Nat → Bool} {N j : Nat} (h : j < N) : c2B P N j (N - j) = c2B P N (j + 1) (N - (j + 1)) + cfB (P j) (j + 1) (N - (j + 1)) := by
  rw [show N - j = (N - (j + 1)) + 1 by omega]
  rfl
theorem f1B_d {P : Nat → Bool} {a N j : Nat} {z : Int32} (h : j < N) : f1B P a z j (N - j) = if P j then nI (10 * a + j) else f1B P a z (j + 1) (N - (j + 1)) := by
  rw [show N - j = (N - (j + 1)) + 1 by omega]
  rfl
theorem f2B_d {P : Nat → Nat → Bool} {N j : Nat} (h : j < N) : f2B P N j (N - j) = f1B (P j) j (f2B P N (j + 1) (N - (j + 1))) (j + 1) (N - (j + 1)) := by
  rw [show N - j = (N - (j + 1)) + 1 by omega]
  rfl
theorem cfB_0 {P : Nat → Bool} {N : Nat} : cfB P N (N - N) = 0 := by rw [Nat.sub_self]; rfl
theorem c2B_0 {P : Nat → Nat → Bool} {N : Nat} : c2B P N N (N - N) = 0 := by rw [Nat.sub_self]; rfl
theorem f1B_0 {P : Nat → Bool} {a N : Nat} {z : Int32} : f1B P a z N (N - N) = z := by rw [Nat.sub_self]; rfl
theorem f2B_0 {P : Nat → Nat → Bool} {N : Nat} : f2B P N N (N - N) = -4 := by rw [Nat.sub_self]; rfl
def clP (A : Nat → Nat → Int32) (a b : Nat) : Bool := decide (¬ A 4 a = 9 ∧ A 4 a = A 4 b ∧ A 3 a = A 3 b)
def claS (N : Nat) (A : Nat → Nat → Int32) (what : Int32) : Int32 := if okr what 0 1 then (if what = 0 then c2B (clP A) N 0 N else f2B (clP A) N 0 N) else -1
theorem upd4 {F : Nat → Int32} {i j : Nat} {x y x' y' : Int32} (h : i ≠ j) : upd (upd (upd (upd F i x) j y) i x') j y' = upd (upd F i x') j y' := by
  funext k
  unfold upd
  by_cases h1 : k = j
  · simp [h1]
  · by_cases h2 : k = i
    · subst h2; simp [h1]
    · simp [h1, h2]
def mtA (N : Nat) (A : Nat → Nat → Int32) (k : Nat) : Nat → Nat → Int32 := fun j => if j = 19 then (fun i => if i < k then mateS N (A 4) i else A 19 i) else A j
theorem mtA_0 {N : Nat} {A : Nat → Nat → Int32} : mtA N A 0 = A := by
  funext j i
  unfold mtA
  by_cases h : j = 19
  · subst h; simp
  · simp [h]
theorem mtA_s {N k : Nat} {A : Nat → Nat → Int32} : upA (mtA N A k) 19 k (mateS N (A 4) k) = mtA N A (k + 1) := by
  funext j i
  unfold upA mtA
  by_cases h : j = 19
  · subst h
    by_cases h2 : i = k
    · subst h2; simp
    · have : i < k ↔ i < k + 1 := by omega
      simp [h2, this]
  · simp [h]
theorem mtA_ok {N : Nat} {A : Nat → Nat → Int32} (h8 : N ≤ 8) : mtOK N (mtA N A N 19) := by
  intro p hp
  have e : mtA N A N 19 p = mateS N (A 4) p := by simp [mtA, hp]
  rw [e]
  by_cases h : mateS N (A 4) p < 0
  · exact Or.inl h
  · obtain ⟨o, h1, -, h2⟩ := mateS_nI h8 h
    exact Or.inr ⟨o, h1, h2⟩
def ratS (N : Nat) (A : Nat → Nat → Int32) (what : Int32) : Int32 := if okr what 0 1 then (if what = 0 then c2B (raS A (mateS N (A 4))) N 0 N else f2B (raS A (mateS N (A 4))) N 0 N) else -1
/-- the bits of those with P -/
def btB (P : Nat → Bool) : Nat → Int32
  | 0 => 0
  | k + 1 => btB P k ||| (if P k then 1 <<< (nI k &&& 31) else 0)
def widS (N M : Nat) (A : Nat → Nat → Int32) (what : Int32) : Int32 := if okr what 0 1 then btB (fun l => decide (inS N (A 4) (nI l) = 1 - what)) M else -1
def couS (N M : Nat) (P : Int32) (A : Nat → Nat → Int32) (what : Int32) : Int32 := if what = 0 then nI N else if what = 1 then nI M else if what = 2 then P else if what = 3 then smS (A 7) M else if what = 4 then btB (fun p => decide (A 4 p = 9)) N else if what = 5 then smS (fun p => roomS (A 1 p)) N else -1
def rwC (d s x : Int32) : Bool := decide (okr d 0 7 = true ∧ okr s 0 2 = true ∧ ¬ 100 < x)
def rwR (d s x : Int32) : Int32 := if rwC d s x then (if x < 0 then -14 else 0) else -1
def rwA (A : Nat → Nat → Int32) (d s x : Int32) : Nat → Nat → Int32 := if rwC d s x ∧ ¬ x < 0 then upA (upA (upA A 8 d.toNatClampNeg 2) 11 d.toNatClampNeg s) 12 d.toNatClampNeg x else A
def zrL (L : Nat → Nat → Int64) (d k : Nat) : Nat → Nat → Int64 := fun j => if j = 13 then (fun i => if 100 * d ≤ i ∧ i < 100 * d + k then 0 else L 13 i) else L j
theorem zrL_0 {L : Nat → Nat → Int64} {d : Nat} : zrL L d 0 = L := by
  funext j i
  unfold zrL
  by_cases h : j = 13
  · subst h
    show (if 100 * d ≤ i ∧ i < 100 * d + 0 then 0 else L 13 i) = L 13 i
    rw [if_neg (by omega)]
  · simp [h]
theorem zrL_s {L : Nat → Nat → Int64} {d k : Nat} : upA (zrL L d k) 13 (100 * d + k) 0 = zrL L d (k + 1) := by
  funext j i
  unfold upA zrL
  by_cases h : j = 13
  · subst h
    by_cases h2 : i = 100 * d + k
    · subst h2
      have : 100 * d ≤ 100 * d + k ∧ 100 * d + k < 100 * d + (k + 1) := by omega
      simp [this]
    · have : (100 * d ≤ i ∧ i < 100 * d + k) ↔ (100 * d ≤ i ∧ i < 100 * d + (k + 1)) := by omega
      simp [h2, this]
  · simp [h]
def rwL (L : Nat → Nat → Int64) (d s x : Int32) : Nat → Nat → Int64 := if rwC d s x ∧ ¬ x < 0 then zrL L d.toNatClampNeg 100 else L
