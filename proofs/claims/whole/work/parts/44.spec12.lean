/-! the best twos don't depend on what lay in the rows before -/
theorem fsB_congr {P R : Nat → Bool} : ∀ (k j : Nat), (∀ i, j ≤ i → i < j + k → P i = R i) → fsB P j k = fsB R j k
  | 0, _, _ => rfl
  | k + 1, j, h => by
    unfold fsB
    rw [h j (Nat.le_refl _) (by omega), fsB_congr k (j + 1) (fun i h1 h2 => h i (by omega) (by omega))]
theorem likS_rows {A A' : Nat → Nat → Int32} (h1 : A' 1 = A 1) (h2 : A' 2 = A 2) (a b : Nat) : likS A' a b = likS A a b := by
  unfold likS
  rw [h1, h2]
theorem brS_rows {A A' : Nat → Nat → Int32} (h1 : A' 1 = A 1) (h2 : A' 2 = A 2) (a b : Nat) : brS A' a b = brS A a b := by
  unfold brS
  rw [h1, h2]
theorem mfU_congr {A A' : Nat → Nat → Int32} {T T' : Nat → Int32} {a r N : Nat} {z z' : Int32} (hl : ∀ a b, a < N → b < N → likS A a b = likS A' a b) (ha : a < N) (hT : ∀ i, i ≤ r → T i = T' i) (hz : z = z') : ∀ k, a + 1 + k ≤ N ∨ k = 0 → mfU A T a r z k = mfU A' T' a r z' k
  | 0, _ => hz
  | k + 1, h => by
    unfold mfU
    rw [mfU_congr hl ha hT hz k (by omega), hl a (a + 1 + k) ha (by omega), hT (clrN r (a + 1 + k)) clr_les]
theorem moV_congr {A A' : Nat → Nat → Int32} {T T' : Nat → Int32} {N s : Nat} (hN : N ≤ 8) (hs : s < 2 ^ N) (h0 : s ≠ 0) (hl : ∀ a b, a < N → b < N → likS A a b = likS A' a b) (hT : ∀ i, i < s → T i = T' i) : moV A N T s = moV A' N T' s := by
  have hp := pw8 hN
  have h1 := low_N N hN s hs h0
  have h2 := clr_s (low_in s (by omega) h0).2
  unfold moV
  exact mfU_congr hl h1 (fun i hi => hT i (by omega)) (by rw [hT _ h2]) _ (by omega)
theorem moT_congr {A A' : Nat → Nat → Int32} {T T' : Nat → Int32} {N : Nat} (hN : N ≤ 8) (hl : ∀ a b, a < N → b < N → likS A a b = likS A' a b) : ∀ k, k < 2 ^ N → ∀ i, i ≤ k → moT A N T k i = moT A' N T' k i
  | 0, _, i, hi => by
    obtain rfl : i = 0 := by omega
    rfl
  | k + 1, hk, i, hi => by
    have ih := moT_congr (T := T) (T' := T') hN hl k (by omega)
    show (if i = k + 1 then moV A N (moT A N T k) (k + 1) else moT A N T k i) = if i = k + 1 then moV A' N (moT A' N T' k) (k + 1) else moT A' N T' k i
    by_cases e : i = k + 1
    · rw [if_pos e, if_pos e]
      exact moV_congr hN hk (by omega) hl (fun i hi => ih i (by omega))
    · rw [if_neg e, if_neg e]
      exact ih i (by omega)
theorem bsT_congr {A A' : Nat → Nat → Int32} {N : Nat} (hN : N ≤ 8) (hl : ∀ a b, a < N → b < N → likS A a b = likS A' a b) {s : Nat} (hs : s < 2 ^ N) : bsT N A s = bsT N A' s := by
  have hp := pw1 N
  exact moT_congr hN hl (2 ^ N - 1) (by omega) s (by omega)
theorem lbX_congr {A A' : Nat → Nat → Int32} {T T' : Nat → Int32} {N s : Nat} (hN : N ≤ 8) (hs : s < 2 ^ N) (h0 : s ≠ 0) (hl : ∀ a b, a < N → b < N → likS A a b = likS A' a b) (hT : ∀ i, i < 2 ^ N → T i = T' i) : lbX A N T s = lbX A' N T' s := by
  have h1 := low_N N hN s hs h0
  have h2 := clr_les (s := s) (a := lowN s)
  unfold lbX
  refine fsB_congr _ _ (fun i h3 h4 => ?_)
  unfold lbP
  have h5 := clr_les (s := clrN s (lowN s)) (a := i)
  rw [hl (lowN s) i h1 (by omega), hT _ (Nat.lt_of_le_of_lt (Nat.le_trans h5 h2) hs), hT s hs]
theorem lbM_congr {A A' : Nat → Nat → Int32} {T T' : Nat → Int32} {N : Nat} (hN : N ≤ 8) (hl : ∀ a b, a < N → b < N → likS A a b = likS A' a b) (hT : ∀ i, i < 2 ^ N → T i = T' i) :
    ∀ (f s : Nat) (mt mt' : Nat → Int32), s < f → s < 2 ^ N → (∀ p, p < N → Nat.testBit s p = false → mt p = mt' p) → ∀ p, p < N → lbM A N T f s mt p = lbM A' N T' f s mt' p
  | 0, s, _, _, h, _, _, _, _ => absurd h (by omega)
  | f + 1, s, mt, mt', hf, hs, hm, p, hp => by
    have hp8 := pw8 hN
    by_cases h0 : s = 0
    · subst h0
      rw [lbM_z, lbM_z]
      exact hm p hp (Nat.zero_testBit p)
    · have h1 := low_N N hN s hs h0
      have h2 := clr_s (low_in s (by omega) h0).2
      have hx := lbX_congr (T := T) (T' := T') hN hs h0 hl hT
      by_cases hx0 : lbX A N T s < 0
      · rw [lbM_n h0 hx0, lbM_n h0 (hx ▸ hx0)]
        refine lbM_congr hN hl hT f _ _ _ (by omega) (by omega) (fun k hk ht => ?_) p hp
        by_cases e : k = lowN s
        · simp [e, hx]
        · rw [clr_t s (by omega) _ (by omega) k (by omega)] at ht
          simp [e] at ht ⊢
          exact hm k hk ht
      · obtain ⟨o, ho1, ho2, ho3, ho4⟩ := lbX_nI (A := A) (T := T) hN (by omega) (by omega) hx0
        rw [lbM_p h0 ho4 (by omega), lbM_p h0 (hx ▸ ho4) (by omega)]
        have h3 := clr_les (s := clrN s (lowN s)) (a := o)
        refine lbM_congr hN hl hT f _ _ _ (by omega) (by omega) (fun k hk ht => ?_) p hp
        by_cases e1 : k = o
        · simp [e1]
        · by_cases e : k = lowN s
          · simp [e, e1]
          · rw [clr_t _ (by omega) _ (by omega) k (by omega), clr_t s (by omega) _ (by omega) k (by omega)] at ht
            simp [e, e1] at ht ⊢
            exact hm k hk ht
theorem bsM_congr {A A' : Nat → Nat → Int32} {N : Nat} (hN : N ≤ 8) (hl : ∀ a b, a < N → b < N → likS A a b = likS A' a b) {p : Nat} (hp : p < N) : bsM N A p = bsM N A' p := by
  have hp8 := pw8 hN
  have hp1 := pw1 N
  unfold bsM
  exact lbM_congr hN hl (fun i hi => bsT_congr hN hl hi) 256 _ _ _ (by omega) (by omega) (fun k hk ht => by rw [full_t N hN k hk] at ht; cases ht) p hp
theorem bbA_row {N : Nat} {A : Nat → Nat → Int32} {p : Nat} {z : Int32} {j : Nat} (h1 : j ≠ 19) (h2 : j ≠ 20) : bbA N A p z j = A j := by
  unfold bbA
  by_cases e : j = 2
  · subst e
    rw [upA_s]
    funext i
    by_cases hi : i = p
    · simp [hi]
    · simp [hi, lbA, moA, upA]
  · rw [upA_n _ e]
    unfold lbA moA
    rw [if_neg h1, if_neg h2, upA_n _ e]
theorem bbS_rows {A A' : Nat → Nat → Int32} {N p : Nat} {z : Int32} (hN : N ≤ 8) (hp : p < N) (h1 : A' 1 = A 1) (h2 : A' 2 = A 2) : bbS N A' p z = bbS N A p z := by
  have e : bsM N (upA A' 2 p z) p = bsM N (upA A 2 p z) p := by
    refine bsM_congr hN (fun a b _ _ => ?_) hp
    refine likS_rows ?_ ?_ a b
    · rw [upA_n _ (by decide), upA_n _ (by decide), h1]
    · rw [upA_s, upA_s, h2]
  unfold bbS
  rw [e, brS_rows h1 h2]
def othM (N : Nat) (A : Nat → Nat → Int32) (p : Nat) : Nat → Int32
  | 0 => bbS N A p (A 2 p)
  | k + 1 => grS (othM N A p k) (bbS N A p (nI k))
def othB (N : Nat) (A : Nat → Nat → Int32) (p : Nat) : Nat → Int32
  | 0 => -4
  | k + 1 => if othM N A p k < bbS N A p (nI k) then nI k else othB N A p k
def othS (N : Nat) (A : Nat → Nat → Int32) (p : Int32) : Int32 := if okp N p then othB N A p.toNatClampNeg 10 else -1
/-! what is kept: all in one row -/
def pkS (F : Nat → Int32) (A : Nat → Nat → Int32) (i : Nat) : Int32 := if i = 0 then F 0 else if i = 1 then F 5 else if i = 2 then F 9 else if i < 35 then A (1 + (i - 3) % 4) ((i - 3) / 4) else A (5 + (i - 35) % 3) ((i - 35) / 3)
def opR (j : Nat) (F : Nat → Int32) (A : Nat → Nat → Int32) (F' : Nat → Int32) (A' : Nat → Nat → Int32) : Prop := (∀ k, k ≠ 27 → k ≠ 28 → F' k = F k) ∧ (∀ r, r ≠ j → A' r = A r) ∧ (∀ i, i < 50 → A' j i = pkS F A i)
def clR (j : Nat) (F : Nat → Int32) (A : Nat → Nat → Int32) (F' : Nat → Int32) (A' : Nat → Nat → Int32) : Prop := (∀ k, k ≠ 0 → k ≠ 5 → k ≠ 9 → k ≠ 27 → k ≠ 28 → F' k = F k) ∧ F' 0 = A j 0 ∧ F' 5 = A j 1 ∧ F' 9 = A j 2 ∧ (∀ r, r = 0 ∨ 8 ≤ r → A' r = A r) ∧ (∀ c p, c < 4 → A' (1 + c) p = if p < 8 then A j (3 + 4 * p + c) else A (1 + c) p) ∧ (∀ c l, c < 3 → A' (5 + c) l = if l < 5 then A j (35 + 3 * l + c) else A (5 + c) l)
/-- nothing has changed of what counts -/
def kpR (F : Nat → Int32) (A : Nat → Nat → Int32) (F' : Nat → Int32) (A' : Nat → Nat → Int32) : Prop := F' 0 = F 0 ∧ F' 5 = F 5 ∧ F' 9 = F 9 ∧ F' 26 = F 26 ∧ (∀ r, 1 ≤ r → r ≤ 12 ∨ r = 18 → ∀ i, i < mlen r → A' r i = A r i)
def tkA (j r p i : Nat) (A : Nat → Nat → Int32) : Nat → Nat → Int32 := upA (upA A j i (A r p)) r p (A r p)
theorem tkA_r {j r p i : Nat} {A : Nat → Nat → Int32} {k : Nat} (h : k ≠ j) : tkA j r p i A k = A k := by
  unfold tkA
  by_cases e : k = r
  · subst e
    rw [upA_s, upA_n _ h]
    funext x
    by_cases e2 : x = p
    · simp [e2]
    · simp [e2]
  · rw [upA_n _ e, upA_n _ h]
theorem tkA_j {j r p i : Nat} {A : Nat → Nat → Int32} (h : j ≠ r) {x : Nat} : tkA j r p i A j x = if x = i then A r p else A j x := by
  unfold tkA
  rw [upA_n _ h, upA_s]
