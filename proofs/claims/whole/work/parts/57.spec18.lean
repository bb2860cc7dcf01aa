theorem nI_and (a b : Nat) : nI a &&& nI b = nI (a &&& b) := by
  show Int32.ofBitVec (BitVec.ofNat 32 a &&& BitVec.ofNat 32 b) = Int32.ofBitVec (BitVec.ofNat 32 (a &&& b))
  rw [BitVec.ofNat_and]
theorem nI_or (a b : Nat) : nI a ||| nI b = nI (a ||| b) := by
  show Int32.ofBitVec (BitVec.ofNat 32 a ||| BitVec.ofNat 32 b) = Int32.ofBitVec (BitVec.ofNat 32 (a ||| b))
  rw [BitVec.ofNat_or]
/-! the k-th of all twos -/
def nbF (l : Nat) : Nat → Nat → Nat → Int32
  | _, _, 0 => -4
  | w, b, n + 1 => if Nat.testBit l b then (if w = 0 then nI b else nbF l (w - 1) (b + 1) n) else nbF l w (b + 1) n
theorem nbF_d {l w N b : Nat} (h : b < N) : nbF l w b (N - b) = if Nat.testBit l b then (if w = 0 then nI b else nbF l (w - 1) (b + 1) (N - (b + 1))) else nbF l w (b + 1) (N - (b + 1)) := by
  rw [show N - b = (N - (b + 1)) + 1 by omega]
  rfl
theorem nbF_0 {l w N : Nat} : nbF l w N (N - N) = -4 := by
  rw [Nat.sub_self]
  rfl
theorem nbF_nI {l : Nat} : ∀ (n w b : Nat), b + n < 2 ^ 31 → ¬ nbF l w b n < 0 → ∃ o, b ≤ o ∧ o < b + n ∧ Nat.testBit l o = true ∧ nbF l w b n = nI o
  | 0, _, _, _, h => absurd (show (-4 : Int32) < 0 by decide) h
  | n + 1, w, b, hb, h => by
    unfold nbF at h ⊢
    by_cases t : Nat.testBit l b = true
    · rw [if_pos t] at h ⊢
      by_cases w0 : w = 0
      · rw [if_pos w0]
        exact ⟨b, Nat.le_refl _, by omega, t, rfl⟩
      · rw [if_neg w0] at h ⊢
        obtain ⟨o, h1, h2, h3, h4⟩ := nbF_nI n (w - 1) (b + 1) (by omega) h
        exact ⟨o, by omega, by omega, h3, h4⟩
    · rw [if_neg t] at h ⊢
      obtain ⟨o, h1, h2, h3, h4⟩ := nbF_nI n w (b + 1) (by omega) h
      exact ⟨o, by omega, by omega, h3, h4⟩
def twB (o : Nat) : Nat := if o = 0 then 1 else twS (o - 1)
/-- whom the lowest of s has by the r-th way; what is left of r -/
def ltX (N s r : Nat) : Int32 := nbF (clrN s (lowN s)) (r / twB (popN (clrN s (lowN s)))) (lowN s + 1) (N - (lowN s + 1))
def ltY (N s r : Nat) : Int32 := if popN (clrN s (lowN s)) = 0 then -4 else ltX N s r
def ltR (s r : Nat) : Nat := if popN (clrN s (lowN s)) = 0 then 0 else r % twB (popN (clrN s (lowN s)))
def ltM (N : Nat) : Nat → Nat → Nat → (Nat → Int32) → Nat → Int32
  | 0, _, _, mt => mt
  | f + 1, s, r, mt => if s = 0 then mt else if ltX N s r < 0 then ltM N f (clrN s (lowN s)) (ltR s r) (fun i => if i = lowN s then -4 else mt i)
    else ltM N f (clrN (clrN s (lowN s)) (ltX N s r).toNatClampNeg) (ltR s r) (fun i => if i = (ltX N s r).toNatClampNeg then nI (lowN s) else if i = lowN s then ltX N s r else mt i)
def ltC (N k : Nat) : Nat → Int32 := ltM N 256 (2 ^ N - 1) k (fun _ => -4)
theorem nbF_neg {l : Nat} : ∀ (n w b : Nat), b + n < 2 ^ 31 → nbF l w b n < 0 → nbF l w b n = -4
  | 0, _, _, _, _ => rfl
  | n + 1, w, b, hb, h => by
    unfold nbF at h ⊢
    by_cases t : Nat.testBit l b = true
    · rw [if_pos t] at h ⊢
      by_cases w0 : w = 0
      · rw [if_pos w0] at h
        exact absurd h (nI_pos (by omega))
      · rw [if_neg w0] at h ⊢
        exact nbF_neg n (w - 1) (b + 1) (by omega) h
    · rw [if_neg t] at h ⊢
      exact nbF_neg n w (b + 1) (by omega) h
theorem ltX_nI {N s r : Nat} (hN : N ≤ 8) (hl : lowN s < 8) (h : ¬ ltX N s r < 0) : ∃ o, lowN s < o ∧ o < N ∧ Nat.testBit (clrN s (lowN s)) o = true ∧ ltX N s r = nI o := by
  obtain ⟨o, h1, h2, h3, h4⟩ := nbF_nI _ _ _ (by omega) h
  exact ⟨o, by omega, by omega, h3, h4⟩
theorem ltM_n {N f s r : Nat} {mt : Nat → Int32} (h : s ≠ 0) (hx : ltX N s r < 0) : ltM N (f + 1) s r mt = ltM N f (clrN s (lowN s)) (ltR s r) (fun i => if i = lowN s then -4 else mt i) := by
  conv => lhs; unfold ltM
  rw [if_neg h, if_pos hx]
theorem ltM_p {N f s r o : Nat} {mt : Nat → Int32} (h : s ≠ 0) (hx : ltX N s r = nI o) (ho : o < 8) : ltM N (f + 1) s r mt = ltM N f (clrN (clrN s (lowN s)) o) (ltR s r) (fun i => if i = o then nI (lowN s) else if i = lowN s then nI o else mt i) := by
  conv => lhs; unfold ltM
  rw [if_neg h, if_neg (by rw [hx]; exact nI_pos (by omega)), hx, nI_clamp (by omega)]
theorem ltM_z {N f r : Nat} {mt : Nat → Int32} : ltM N f 0 r mt = mt := by
  cases f with
  | zero => rfl
  | succ f => unfold ltM; rw [if_pos rfl]
theorem ltM_congr {N : Nat} (hN : N ≤ 8) : ∀ (f s r : Nat) (mt mt' : Nat → Int32), s < f → s < 2 ^ N → (∀ p, p < N → Nat.testBit s p = false → mt p = mt' p) → ∀ p, p < N → ltM N f s r mt p = ltM N f s r mt' p
  | 0, s, _, _, _, h, _, _, _, _ => absurd h (by omega)
  | f + 1, s, r, mt, mt', hf, hs, hm, p, hp => by
    have hp8 := pw8 hN
    by_cases h0 : s = 0
    · subst h0
      rw [ltM_z, ltM_z]
      exact hm p hp (Nat.zero_testBit p)
    · have h1 := low_N N hN s hs h0
      have h2 := clr_s (low_in s (by omega) h0).2
      by_cases hx0 : ltX N s r < 0
      · rw [ltM_n h0 hx0, ltM_n h0 hx0]
        refine ltM_congr hN f _ _ _ _ (by omega) (by omega) (fun k hk ht => ?_) p hp
        by_cases e : k = lowN s
        · simp [e]
        · rw [clr_t s (by omega) _ (by omega) k (by omega)] at ht
          simp [e] at ht ⊢
          exact hm k hk ht
      · obtain ⟨o, ho1, ho2, ho3, ho4⟩ := ltX_nI hN (by omega) hx0
        rw [ltM_p h0 ho4 (by omega), ltM_p h0 ho4 (by omega)]
        have h3 := clr_les (s := clrN s (lowN s)) (a := o)
        refine ltM_congr hN f _ _ _ _ (by omega) (by omega) (fun k hk ht => ?_) p hp
        by_cases e1 : k = o
        · simp [e1]
        · by_cases e : k = lowN s
          · simp [e, e1]
          · rw [clr_t _ (by omega) _ (by omega) k (by omega), clr_t s (by omega) _ (by omega) k (by omega)] at ht
            simp [e, e1] at ht ⊢
            exact hm k hk ht
theorem twB_in (o : Nat) (h : o ≤ 8) : 0 < twB o ∧ twB o < 200 := by
  have : ∀ o, o < 9 → 0 < twB o ∧ twB o < 200 := by decide
  exact this o (by omega)
/-- nobody is left for the last one -/
theorem pop_z : ∀ s, s < 256 → popN s = 0 → s = 0 := by decide +kernel
theorem nbF_z : ∀ (n w b : Nat), nbF 0 w b n = -4
  | 0, _, _ => rfl
  | n + 1, w, b => by
    unfold nbF
    rw [if_neg (by rw [Nat.zero_testBit]; decide)]
    exact nbF_z n w (b + 1)
theorem ltY_eq {N s r : Nat} (hs : s < 256) : ltY N s r = ltX N s r := by
  unfold ltY
  by_cases h : popN (clrN s (lowN s)) = 0
  · rw [if_pos h]
    unfold ltX
    rw [pop_z _ (clr_lt hs) h, nbF_z]
  · rw [if_neg h]
/-- all twos that rest -/
def rsP (N : Nat) (A : Nat → Nat → Int32) (k : Nat) : Bool := n2B (raS A (ltC N k)) N 0 N
/-- the first k that rests, below a bound; the bound if none -/
def rsF (N : Nat) (A : Nat → Nat → Int32) : Nat → Nat → Nat
  | k, 0 => k
  | k, n + 1 => if rsP N A k then k else rsF N A (k + 1) n
def resS (N : Nat) (A : Nat → Nat → Int32) (i : Int32) : Int32 := if okm N i then (if i < 0 then cnS (rsP N A) (twS N) else if cnS (rsP N A) (twS N) = 0 then -5 else ltC N (rsF N A 0 (twS N)) i.toNatClampNeg) else -1
theorem nkB_congr {P R : Nat → Bool} : ∀ (n j : Nat), (∀ i, j ≤ i → i < j + n → P i = R i) → nkB P j n = nkB R j n
  | 0, _, _ => rfl
  | n + 1, j, h => by
    unfold nkB
    rw [h j (Nat.le_refl _) (by omega), nkB_congr n (j + 1) (fun i h1 h2 => h i (by omega) (by omega))]
theorem n2B_congr {P R : Nat → Nat → Bool} {N : Nat} : ∀ (n j : Nat), j + n = N → (∀ a b, a < b → b < N → P a b = R a b) → n2B P N j n = n2B R N j n
  | 0, _, _, _ => rfl
  | n + 1, j, hN, h => by
    unfold n2B
    rw [nkB_congr (N - (j + 1)) (j + 1) (fun i h1 h2 => h j i (by omega) (by omega)), n2B_congr n (j + 1) (by omega) h]
theorem raS_congr {A A' : Nat → Nat → Int32} {mt mt' : Nat → Int32} {a b : Nat} (h1 : A' 1 = A 1) (h2 : A' 2 = A 2) (ha : mt' a = mt a) (hb : mt' b = mt b) : raS A' mt' a b = raS A mt a b := by
  unfold raS mbS
  rw [ha, hb, brS_rows h1 h2, brS_rows h1 h2, brS_rows h1 h2, brS_rows h1 h2]
theorem rs_eq {N : Nat} {A A' : Nat → Nat → Int32} {mt : Nat → Int32} {k : Nat} (h1 : A' 1 = A 1) (h2 : A' 2 = A 2) (hm : ∀ p, p < N → mt p = ltC N k p) : n2B (raS A' mt) N 0 N = rsP N A k := by
  unfold rsP
  exact n2B_congr N 0 (by omega) (fun a b h3 h4 => raS_congr h1 h2 (hm a (by omega)) (hm b h4))
theorem ltM_ok {N : Nat} (hN : N ≤ 8) : ∀ (f s r : Nat) (mt : Nat → Int32), s < f → s < 2 ^ N → lbI N s mt → mtOK N (ltM N f s r mt)
  | 0, s, _, _, h, _, _ => absurd h (by omega)
  | f + 1, s, r, mt, hf, hs, hm => by
    have hp8 := pw8 hN
    by_cases h0 : s = 0
    · subst h0
      rw [ltM_z]
      exact fun p hp => hm p hp (Nat.zero_testBit p)
    · have h1 := low_N N hN s hs h0
      have h2 := clr_s (low_in s (by omega) h0).2
      by_cases hx0 : ltX N s r < 0
      · rw [ltM_n h0 hx0]
        exact ltM_ok hN f _ _ _ (by omega) (by omega) (lbI_n hN (by omega) (by omega) (by decide) hm)
      · obtain ⟨o, ho1, ho2, ho3, ho4⟩ := ltX_nI hN (by omega) hx0
        rw [ltM_p h0 ho4 (by omega)]
        have h3 := clr_les (s := clrN s (lowN s)) (a := o)
        exact ltM_ok hN f _ _ _ (by omega) (by omega) (lbI_p hN (by omega) h1 ho2 hm)
def r19 (A : Nat → Nat → Int32) (mt : Nat → Int32) : Nat → Nat → Int32 := fun j => if j = 19 then mt else A j
theorem r19_0 {A : Nat → Nat → Int32} : A = r19 A (A 19) := by
  funext j
  unfold r19
  by_cases h : j = 19
  · subst h; simp
  · simp [h]
theorem r19_s {A : Nat → Nat → Int32} {mt : Nat → Int32} {i : Nat} {v : Int32} : upA (r19 A mt) 19 i v = r19 A (fun k => if k = i then v else mt k) := by
  funext j
  unfold r19
  by_cases h : j = 19
  · subst h; simp [upA]
  · simp [h, upA]
theorem r19_r {A : Nat → Nat → Int32} {mt : Nat → Int32} {j : Nat} (h : j ≠ 19) : r19 A mt j = A j := by simp [r19, h]
theorem r19_19 {A : Nat → Nat → Int32} {mt : Nat → Int32} : r19 A mt 19 = mt := by simp [r19]
def c21 (A : Nat → Nat → Int32) (k : Nat) : Nat → Nat → Int32 := fun j => if j = 21 then (fun i => if i < k then A 19 i else A 21 i) else A j
theorem c21_0 {A : Nat → Nat → Int32} : A = c21 A 0 := by
  funext j
  unfold c21
  by_cases h : j = 21
  · subst h; simp
  · simp [h]
theorem c21_s {A : Nat → Nat → Int32} {k : Nat} : upA (c21 A k) 21 k (A 19 k) = c21 A (k + 1) := by
  funext j i
  unfold c21 upA
  by_cases h : j = 21
  · subst h
    by_cases h2 : i = k
    · subst h2; simp
    · have : i < k ↔ i < k + 1 := by omega
      simp [h2, this]
  · simp [h]
theorem c21_r {A : Nat → Nat → Int32} {k j : Nat} (h : j ≠ 21) : c21 A k j = A j := by simp [c21, h]
theorem twB_s (o : Nat) : twB (o + 1) = twS o := by
  unfold twB
  rw [if_neg (by omega), Nat.add_sub_cancel]
theorem cnS_nI {P : Nat → Bool} : ∀ n, ∃ j, j ≤ n ∧ cnS P n = nI j
  | 0 => ⟨0, Nat.le_refl _, rfl⟩
  | n + 1 => by
    obtain ⟨j, h1, h2⟩ := cnS_nI (P := P) n
    unfold cnS
    by_cases h : P n = true
    · rw [if_pos h, h2]
      exact ⟨j + 1, by omega, nI_1 j⟩
    · rw [if_neg h, h2]
      exact ⟨j, by omega, by rw [Int32.add_zero]⟩
theorem nsub (j : Nat) : nI 0 - nI j - 1 = nI 0 - nI (j + 1) := by
  rw [← nI_1 j]
  simp [Int32.sub_eq_add_neg, Int32.neg_add, Int32.add_assoc]
theorem nsub_ne {j : Nat} (h : j < 2 ^ 29) : ¬ nI 0 - nI (j + 1) = 0 := by
  intro e
  have h1 := congrArg Int32.toInt e
  rw [pk_sub_toInt (a := 0) (b := j + 1) (by omega) (by omega)] at h1
  have h2 : ((0 : Int32).toInt) = 0 := rfl
  omega
/-- where the search for the which-th one is -/
def ltI (N z r b : Nat) (x y : Int32) : Prop := (x = -4 ∧ ∃ w, w < 200 ∧ y = nI w ∧ ltX N z r = nbF (clrN z (lowN z)) w b (N - b)) ∨ (¬ x < 0 ∧ ltX N z r = x ∧ ∃ j, j ≤ b ∧ y = nI 0 - nI (j + 1))
theorem ltI_n {N z r b : Nat} {x y : Int32} (h : ltI N z r b x y) (hb : b < N) (ht : ¬ Nat.testBit (clrN z (lowN z)) b = true) : ltI N z r (b + 1) x y := by
  rcases h with ⟨hx, w, hw, hy, hX⟩ | ⟨hx, hX, j, hj, hy⟩
  · exact Or.inl ⟨hx, w, hw, hy, by rw [hX, nbF_d hb, if_neg ht]⟩
  · exact Or.inr ⟨hx, hX, j, by omega, hy⟩
theorem ltI_w {N z r b : Nat} {x y : Int32} (h : ltI N z r b x y) (hb : b < N) (hN : N ≤ 8) (ht : Nat.testBit (clrN z (lowN z)) b = true) (hy0 : ¬ y = 0) : ltI N z r (b + 1) x (y - 1) := by
  rcases h with ⟨hx, w, hw, hy, hX⟩ | ⟨hx, hX, j, hj, hy⟩
  · have hw0 : w ≠ 0 := fun z => hy0 (by rw [hy, z]; rfl)
    obtain ⟨v, rfl⟩ : ∃ v, w = v + 1 := ⟨w - 1, by omega⟩
    exact Or.inl ⟨hx, v, by omega, by rw [hy]; exact nI_pred v, by rw [hX, nbF_d hb, if_pos ht, if_neg hw0, Nat.add_sub_cancel]⟩
  · exact Or.inr ⟨hx, hX, j + 1, by omega, by rw [hy, nsub]⟩
theorem ltI_f {N z r b : Nat} {x y : Int32} (h : ltI N z r b x y) (hb : b < N) (hN : N ≤ 8) (ht : Nat.testBit (clrN z (lowN z)) b = true) (hy0 : y = 0) : ltI N z r (b + 1) (nI b) (y - 1) := by
  rcases h with ⟨hx, w, hw, hy, hX⟩ | ⟨hx, hX, j, hj, hy⟩
  · have hw0 : w = 0 := (nI_eq (a := w) (b := 0) (by omega) (by omega)).mp (hy.symm.trans hy0)
    exact Or.inr ⟨nI_pos (by omega), by rw [hX, nbF_d hb, if_pos ht, if_pos hw0], 0, Nat.zero_le _, by rw [hy0]; rfl⟩
  · exact absurd (hy.symm.trans hy0) (nsub_ne (by omega))
theorem ltI_e {N z r b : Nat} {x y : Int32} (h : ltI N z r b x y) (hb : b = N) : x = ltX N z r := by
  subst hb
  rcases h with ⟨hx, w, hw, hy, hX⟩ | ⟨hx, hX, -⟩
  · rw [hX, hx, nbF_0]
  · exact hX.symm
/-- the first that rests -/
def rsI (N : Nat) (A : Nat → Nat → Int32) (A1 : Nat → Nat → Int32) (k j : Nat) : Prop := cnS (rsP N A) k = nI j ∧ j ≤ k ∧ ((j = 0 ∧ rsF N A 0 (twS N) = rsF N A k (twS N - k)) ∨ (j ≠ 0 ∧ ∀ p, p < N → A1 21 p = ltC N (rsF N A 0 (twS N)) p))
theorem rsI_n {N k j : Nat} {A A1 A2 : Nat → Nat → Int32} (h : rsI N A A1 k j) (hk : k < twS N) (hp : ¬ rsP N A k = true) (h2 : ∀ p, p < N → A2 21 p = A1 21 p) : rsI N A A2 (k + 1) j := by
  obtain ⟨h1, h3, h4⟩ := h
  refine ⟨by unfold cnS; rw [if_neg hp, h1, Int32.add_zero], by omega, ?_⟩
  rcases h4 with ⟨h5, h6⟩ | ⟨h5, h6⟩
  · refine Or.inl ⟨h5, ?_⟩
    rw [h6, show twS N - k = (twS N - (k + 1)) + 1 by omega]
    conv => lhs; unfold rsF
    rw [if_neg hp]
  · exact Or.inr ⟨h5, fun p hp => by rw [h2 p hp, h6 p hp]⟩
theorem rsI_y {N k j : Nat} {A A1 A2 : Nat → Nat → Int32} (h : rsI N A A1 k j) (hk : k < twS N) (hp : rsP N A k = true) (h0 : j = 0 → ∀ p, p < N → A2 21 p = ltC N k p) (h2 : j ≠ 0 → ∀ p, p < N → A2 21 p = A1 21 p) : rsI N A A2 (k + 1) (j + 1) := by
  obtain ⟨h1, h3, h4⟩ := h
  refine ⟨by unfold cnS; rw [if_pos hp, h1]; exact nI_1 j, by omega, Or.inr ⟨by omega, fun p hp2 => ?_⟩⟩
  rcases h4 with ⟨h5, h6⟩ | ⟨h5, h6⟩
  · rw [h0 h5 p hp2, h6, show twS N - k = (twS N - (k + 1)) + 1 by omega]
    conv => rhs; unfold rsF
    rw [if_pos hp]
  · rw [h2 h5 p hp2, h6 p hp2]
theorem twS_le (N : Nat) : 0 < twS N ∧ twS N ≤ 105 := by
  unfold twS
  split <;> decide
