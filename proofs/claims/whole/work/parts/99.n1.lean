/-! all twos in their order: what the class tries, told as the reference numbers them -/
def fdR (P : Nat → RS → RS) : Nat → RS → RS
  | 0, R => R
  | k + 1, R => P k (fdR P k R)
theorem fdR_add (P : Nat → RS → RS) (a : Nat) (R : RS) : ∀ b, fdR P (a + b) R = fdR (fun r => P (a + r)) b (fdR P a R)
  | 0 => rfl
  | b + 1 => by
    show P (a + b) (fdR P (a + b) R) = P (a + b) (fdR (fun r => P (a + r)) b (fdR P a R))
    rw [fdR_add P a R b]
theorem fdR_congr {P Q : Nat → RS → RS} {R : RS} : ∀ k, (∀ r, r < k → ∀ R', P r R' = Q r R') → fdR P k R = fdR Q k R
  | 0, _ => rfl
  | k + 1, h => by
    show P k (fdR P k R) = Q k (fdR Q k R)
    rw [fdR_congr k (fun r hr => h r (by omega)), h k (by omega)]
def lkM (A : Nat → Nat → Int32) (N : Nat) : Nat → Nat → Nat → Int32
  | 0, _, _ => 0
  | f + 1, s, r => if s = 0 then 0 else if ltX N s r < 0 then lkM A N f (clrN s (lowN s)) (ltR s r) else likS A (lowN s) (ltX N s r).toNatClampNeg + lkM A N f (clrN (clrN s (lowN s)) (ltX N s r).toNatClampNeg) (ltR s r)
theorem lkM_z {A : Nat → Nat → Int32} {N f r : Nat} : lkM A N f 0 r = 0 := by
  cases f with
  | zero => rfl
  | succ f => rfl
theorem lkM_n {A : Nat → Nat → Int32} {N f s r : Nat} (h : s ≠ 0) (hx : ltX N s r < 0) : lkM A N (f + 1) s r = lkM A N f (clrN s (lowN s)) (ltR s r) := by
  conv => lhs; unfold lkM
  rw [if_neg h, if_pos hx]
theorem lkM_p {A : Nat → Nat → Int32} {N f s r o : Nat} (h : s ≠ 0) (hx : ltX N s r = nI o) (ho : o < 8) : lkM A N (f + 1) s r = likS A (lowN s) o + lkM A N f (clrN (clrN s (lowN s)) o) (ltR s r) := by
  conv => lhs; unfold lkM
  rw [if_neg h, hx, if_neg (nI_pos (by omega)), nI_clamp (by omega)]
/-- how many are in l, from b on, of j -/
def cbN (l b : Nat) : Nat → Nat
  | 0 => 0
  | j + 1 => cbN l b j + (if Nat.testBit l (b + j) then 1 else 0)
theorem cbN_f (l b : Nat) : ∀ j, cbN l b (j + 1) = (if Nat.testBit l b then 1 else 0) + cbN l (b + 1) j
  | 0 => by
    show 0 + (if Nat.testBit l (b + 0) then 1 else 0) = _ + 0
    rw [Nat.zero_add, Nat.add_zero, Nat.add_zero]
  | j + 1 => by
    show cbN l b (j + 1) + (if Nat.testBit l (b + (j + 1)) then 1 else 0) = _ + (cbN l (b + 1) j + (if Nat.testBit l (b + 1 + j) then 1 else 0))
    rw [cbN_f l b j, show b + (j + 1) = b + 1 + j by omega]
    omega
theorem nb_at {l : Nat} : ∀ (j b n : Nat), j < n → Nat.testBit l (b + j) = true → nbF l (cbN l b j) b n = nI (b + j)
  | 0, b, n, h, ht => by
    obtain ⟨m, rfl⟩ : ∃ m, n = m + 1 := ⟨n - 1, by omega⟩
    rw [Nat.add_zero] at ht ⊢
    unfold nbF
    rw [if_pos ht]
    exact if_pos rfl
  | j + 1, b, n, h, ht => by
    obtain ⟨m, rfl⟩ : ∃ m, n = m + 1 := ⟨n - 1, by omega⟩
    have ih := nb_at (l := l) j (b + 1) m (by omega) (by rw [show b + 1 + j = b + (j + 1) by omega]; exact ht)
    unfold nbF
    rw [cbN_f]
    by_cases hb : Nat.testBit l b = true
    · rw [if_pos hb, if_pos hb, if_neg (by omega), show 1 + cbN l (b + 1) j - 1 = cbN l (b + 1) j by omega, ih, show b + 1 + j = b + (j + 1) by omega]
    · rw [if_neg hb, if_neg hb, Nat.zero_add, ih, show b + 1 + j = b + (j + 1) by omega]
theorem nb_no {l : Nat} : ∀ (n b w : Nat), cbN l b n ≤ w → nbF l w b n = -4
  | 0, _, _, _ => rfl
  | n + 1, b, w, h => by
    rw [cbN_f] at h
    unfold nbF
    by_cases hb : Nat.testBit l b = true
    · rw [if_pos hb] at h ⊢
      rw [if_neg (by omega)]
      exact nb_no n (b + 1) (w - 1) (by omega)
    · rw [if_neg hb] at h ⊢
      exact nb_no n (b + 1) w (by omega)
theorem cb_tot : ∀ N, N < 9 → ∀ s, s < 256 → s < 2 ^ N → s ≠ 0 → cbN (clrN s (lowN s)) (lowN s + 1) (N - (lowN s + 1)) = popN (clrN s (lowN s)) := by decide +kernel
theorem low_min : ∀ s, s < 256 → s ≠ 0 → ∀ p, p < 8 → p < lowN s → Nat.testBit s p = false := by decide +kernel
theorem pop_clr : ∀ s, s < 256 → ∀ b, b < 8 → Nat.testBit s b = true → popN (clrN s b) + 1 = popN s := by decide +kernel
theorem pop_8 : ∀ s, s < 256 → popN s ≤ 8 := by decide +kernel
theorem tw_odd : ∀ o, o < 8 → o % 2 = 0 → twS (o + 1) = o * twB o + twS o ∧ (twB o = twS o) := by decide
theorem tw_even : ∀ o, o < 8 → o % 2 = 1 → twS (o + 1) = o * twB o := by decide
theorem tw_prev {o : Nat} (h : 0 < o) : twB o = twS (o - 1) := by
  unfold twB
  rw [if_neg (by omega)]
theorem twB_pos : ∀ o, o < 9 → 0 < twB o := by decide
/-- the free ones -/
def FS (N : Nat) (Mt : Nat → Int32) (s : Nat) : Prop := s < 2 ^ N ∧ ∀ p, p < N → (Nat.testBit s p = true ↔ Mt p = -9)
theorem ffM_low {N : Nat} {Mt : Nat → Int32} {s : Nat} (hN : N ≤ 8) (h : FS N Mt s) (h0 : s ≠ 0) : ∀ k a, a + k = N → (∀ p, p < a → Nat.testBit s p = false) → ffM N Mt a k = lowN s
  | 0, a, h1, h2 => by
    have hl := low_N N hN s h.1 h0
    have h256 : s < 256 := Nat.lt_of_lt_of_le h.1 (pw8 hN)
    have := (low_in s h256 h0).2
    rw [h2 (lowN s) (by omega)] at this
    cases this
  | k + 1, a, h1, h2 => by
    have h256 : s < 256 := Nat.lt_of_lt_of_le h.1 (pw8 hN)
    unfold ffM
    by_cases c : Mt a = -9
    · rw [if_pos c]
      have ht := (h.2 a (by omega)).mpr c
      have h3 := (low_in s h256 h0).2
      rcases Nat.lt_trichotomy a (lowN s) with z | z | z
      · rw [low_min s h256 h0 a (by omega) z] at ht
        cases ht
      · exact z
      · rw [h2 _ z] at h3
        cases h3
    · rw [if_neg c]
      refine ffM_low hN h h0 k (a + 1) (by omega) (fun p hp => ?_)
      by_cases e : p = a
      · subst e
        exact Bool.eq_false_iff.mpr (mt (h.2 p (by omega)).mp c)
      · exact h2 p (by omega)
theorem ffM_end {N : Nat} {Mt : Nat → Int32} (h : FS N Mt 0) : ∀ k a, a + k = N → ffM N Mt a k = N
  | 0, a, h1 => by
    show a = N
    omega
  | k + 1, a, h1 => by
    unfold ffM
    rw [if_neg]
    · exact ffM_end h k (a + 1) (by omega)
    · intro z
      have := (h.2 a (by omega)).mpr z
      rw [Nat.zero_testBit] at this
      cases this
theorem nI_n9 {k : Nat} (h : k < 2 ^ 31) : ¬ nI k = -9 := fun z => nI_pos h (by rw [z]; decide)
theorem FS_2 {N : Nat} {Mt : Nat → Int32} {s a b : Nat} (hN : N ≤ 8) (h : FS N Mt s) (ha : a < N) (hb : b < N) : FS N (mt2 Mt a b) (clrN (clrN s a) b) := by
  have h256 : s < 256 := Nat.lt_of_lt_of_le h.1 (pw8 hN)
  refine ⟨Nat.lt_of_le_of_lt (Nat.le_trans clr_les clr_les) h.1, fun p hp => ?_⟩
  rw [clr_t _ (clr_lt h256) b (by omega) p (by omega), clr_t s h256 a (by omega) p (by omega)]
  unfold mt2
  by_cases e : p = b
  · subst e
    rw [if_pos rfl]
    constructor
    · intro z; simp at z
    · intro z; exact absurd z (nI_n9 (by omega))
  · by_cases e2 : p = a
    · subst e2
      rw [if_neg e, if_pos rfl]
      constructor
      · intro z; simp at z
      · intro z; exact absurd z (nI_n9 (by omega))
    · rw [if_neg e, if_neg e2]
      have : (!(p == b) && (!(p == a) && Nat.testBit s p)) = Nat.testBit s p := by
        rw [show (p == b) = false from beq_false_of_ne e, show (p == a) = false from beq_false_of_ne e2]
        rfl
      rw [this]
      exact h.2 p hp
theorem FS_1 {N : Nat} {Mt : Nat → Int32} {s a : Nat} (hN : N ≤ 8) (h : FS N Mt s) (ha : a < N) : FS N (mt1 Mt a (-4)) (clrN s a) := by
  have h256 : s < 256 := Nat.lt_of_lt_of_le h.1 (pw8 hN)
  refine ⟨Nat.lt_of_le_of_lt clr_les h.1, fun p hp => ?_⟩
  rw [clr_t s h256 a (by omega) p (by omega)]
  unfold mt1
  by_cases e2 : p = a
  · subst e2
    rw [if_pos rfl]
    constructor
    · intro z; simp at z
    · intro z; exact absurd z (by decide)
  · rw [if_neg e2]
    have : (!(p == a) && Nat.testBit s p) = Nat.testBit s p := by simp [e2]
    rw [this]
    exact h.2 p hp
theorem mt2_11 {Mt : Nat → Int32} {a b : Nat} : mt2 Mt a b = mt1 (mt1 Mt a (nI b)) b (nI a) := rfl
theorem sa8_2 {Mt : Nat → Int32} {a b : Nat} (ha : Mt a = -9) (hb : Mt b = -9) (hab : b ≠ a) (ha8 : a < 8) (hb8 : b < 8) : sa8 (mt2 Mt a b) = sa8 Mt := by
  rw [mt2_11, sa8_1 (Mt := mt1 Mt a (nI b)) (by unfold mt1; rw [if_neg hab]; exact hb) (mt_n4 (by omega)), sa8_1 ha (mt_n4 (by omega))]
/-- what the r-th twos of the free ones are, looked at -/
def lkP (N : Nat) (A : Nat → Nat → Int32) (rs : Bool) (lk : Int32) (Mt : Nat → Int32) (g s : Nat) : Nat → RS → RS := fun r R => lookS N A rs (lk + lkM A N g s r) (ltM N g s r Mt) R
theorem ltX_at {N s r : Nat} : ltX N s r = nbF (clrN s (lowN s)) (r / twB (popN (clrN s (lowN s)))) (lowN s + 1) (N - (lowN s + 1)) := rfl
set_option maxHeartbeats 2000000 in
theorem pair_en {N : Nat} {A : Nat → Nat → Int32} {rs : Bool} (hN : N ≤ 8) : ∀ (f fr : Nat) (lk : Int32) (Mt : Nat → Int32) (R : RS) (s g : Nat), FS N Mt s → (∀ p, p < fr → Nat.testBit s p = false) → ((N % 2 = 1 ∧ sa8 Mt = false) ↔ popN s % 2 = 1) → fr ≤ N → N + 1 ≤ fr + f → s < g → pairS N A rs f fr lk Mt R = fdR (lkP N A rs lk Mt g s) (twS (popN s)) R
  | 0, fr, lk, Mt, R, s, g, hF, hfr, hpar, hf1, hf2, hg => absurd hf2 (by omega)
  | f + 1, fr, lk, Mt, R, s, g, hF, hfr, hpar, hf1, hf2, hg => by
    have h256 : s < 256 := Nat.lt_of_lt_of_le hF.1 (pw8 hN)
    rw [pairS_s]
    by_cases h0 : s = 0
    · subst h0
      rw [ffM_end hF (N - fr) fr (by omega), if_pos (Nat.le_refl _)]
      show _ = lookS N A rs (lk + lkM A N g 0 0) (ltM N g 0 0 Mt) R
      rw [lkM_z, ltM_z, Int32.add_zero]
    · rw [ffM_low hN hF h0 (N - fr) fr (by omega) hfr]
      have ha : lowN s < N := low_N N hN s hF.1 h0
      have hta := (low_in s h256 h0).2
      have hMa := (hF.2 _ ha).mp hta
      obtain ⟨g, rfl⟩ : ∃ k, g = k + 1 := ⟨g - 1, by omega⟩
      have hl := clr_s hta
      have hpl := pop_clr s h256 (lowN s) (by omega) hta
      have hp8 := pop_8 s h256
      have hfl : fr ≤ lowN s := Nat.le_of_not_lt fun z => by
        rw [hfr _ z] at hta
        cases hta
      rw [if_neg (by omega)]
      have hlow : ∀ p, p < lowN s + 1 → Nat.testBit (clrN s (lowN s)) p = false := fun p hp => by
        rw [clr_t s h256 (lowN s) (by omega) p (by omega)]
        by_cases e : p = lowN s
        · subst e; simp
        · rw [low_min s h256 h0 p (by omega) (by omega)]; simp
      have hw := twB_pos (popN (clrN s (lowN s))) (by omega)
      have key : ∀ j, j ≤ N - (lowN s + 1) → pfB (fun lk2 mt2 R2 => pairS N A rs f (lowN s + 1) lk2 mt2 R2) A lk Mt (lowN s) j R = fdR (lkP N A rs lk Mt (g + 1) s) (cbN (clrN s (lowN s)) (lowN s + 1) j * twB (popN (clrN s (lowN s)))) R := by
        intro j
        induction j with
        | zero =>
          intro _
          show R = fdR _ (0 * _) R
          rw [Nat.zero_mul]
          rfl
        | succ j ih =>
          intro hj
          have ih := ih (by omega)
          have hb : lowN s + 1 + j < N := by omega
          have hbit : Nat.testBit (clrN s (lowN s)) (lowN s + 1 + j) = true ↔ Mt (lowN s + 1 + j) = -9 := by
            rw [clr_t s h256 (lowN s) (by omega) _ (by omega), show (!(lowN s + 1 + j == lowN s) && Nat.testBit s (lowN s + 1 + j)) = Nat.testBit s (lowN s + 1 + j) by simp; omega]
            exact hF.2 _ hb
          unfold pfB cbN
          rw [ih]
          by_cases hc : Mt (lowN s + 1 + j) = -9
          · have ht := hbit.mpr hc
            rw [if_pos hc, if_pos ht, Nat.add_mul, Nat.one_mul, fdR_add]
            have h256l := clr_lt (a := lowN s) h256
            have hp2 := pop_clr _ h256l (lowN s + 1 + j) (by omega) ht
            rw [pair_en hN f (lowN s + 1) _ _ _ (clrN (clrN s (lowN s)) (lowN s + 1 + j)) g (FS_2 hN hF ha hb) (fun p hp => by
              rw [clr_t _ h256l _ (by omega) p (by omega), hlow p hp]; simp) (by
              rw [sa8_2 hMa hc (by omega) (by omega) (by omega), hpar]; omega) (by omega) (by omega) (by have := clr_s ht; omega)]
            rw [tw_prev (o := popN (clrN s (lowN s))) (by omega), show popN (clrN (clrN s (lowN s)) (lowN s + 1 + j)) = popN (clrN s (lowN s)) - 1 by omega]
            refine fdR_congr _ (fun r hr R' => ?_)
            have hw2 : twB (popN (clrN s (lowN s))) = twS (popN (clrN s (lowN s)) - 1) := tw_prev (by omega)
            have hx : ltX N s (cbN (clrN s (lowN s)) (lowN s + 1) j * twS (popN (clrN s (lowN s)) - 1) + r) = nI (lowN s + 1 + j) := by
              rw [ltX_at, hw2, Nat.mul_comm, Nat.mul_add_div (by omega), Nat.div_eq_of_lt hr, Nat.add_zero]
              exact nb_at _ _ _ (by omega) ht
            have hr2 : ltR s (cbN (clrN s (lowN s)) (lowN s + 1) j * twS (popN (clrN s (lowN s)) - 1) + r) = r := by
              unfold ltR
              rw [if_neg (by omega), hw2, Nat.mul_comm, Nat.mul_add_mod, Nat.mod_eq_of_lt hr]
            unfold lkP
            rw [lkM_p h0 hx (by omega), ltM_p h0 hx (by omega), hr2, ← Int32.add_assoc]
            rfl
          · rw [if_neg hc, if_neg (mt hbit.mp hc)]
            rfl
      rw [key _ (Nat.le_refl _), cb_tot N (by omega) s h256 hF.1 h0]
      by_cases hodd : N % 2 = 1 ∧ sa8 Mt = false
      · rw [if_pos hodd]
        have hp1 := hpar.mp hodd
        have ho : popN (clrN s (lowN s)) % 2 = 0 := by omega
        obtain ⟨t1, t2⟩ := tw_odd _ (show popN (clrN s (lowN s)) < 8 by omega) ho
        rw [pair_en hN f (lowN s + 1) _ _ _ (clrN s (lowN s)) g (FS_1 hN hF ha) hlow (by
          rw [sa8_t (p := lowN s) (by omega) (by unfold mt1; rw [if_pos rfl])]
          constructor
          · intro z; exact absurd z.2 (by decide)
          · intro z; omega) (by omega) (by omega) (by omega)]
        rw [← hpl, t1, fdR_add]
        refine fdR_congr _ (fun r hr R' => ?_)
        have hx : ltX N s (popN (clrN s (lowN s)) * twB (popN (clrN s (lowN s))) + r) = -4 := by
          rw [ltX_at, Nat.mul_comm, Nat.mul_add_div (by omega), Nat.div_eq_of_lt (by omega), Nat.add_zero]
          exact nb_no _ _ _ (by rw [cb_tot N (by omega) s h256 hF.1 h0]; exact Nat.le_refl _)
        have hr2 : ltR s (popN (clrN s (lowN s)) * twB (popN (clrN s (lowN s))) + r) = r := by
          unfold ltR
          by_cases e : popN (clrN s (lowN s)) = 0
          · rw [if_pos e]
            rw [e] at hr
            have : twS 0 = 1 := rfl
            omega
          · rw [if_neg e, Nat.mul_comm, Nat.mul_add_mod, Nat.mod_eq_of_lt (by omega)]
        unfold lkP
        rw [lkM_n h0 (by rw [hx]; decide), ltM_n h0 (by rw [hx]; decide), hr2]
        rfl
      · rw [if_neg hodd]
        have hp1 := mt hpar.mpr hodd
        rw [← hpl, tw_even _ (by omega) (by omega)]
/-- the class's search, whole -/
theorem full_N {N : Nat} {Mt : Nat → Int32} (hN : N ≤ 8) (h : ∀ p, p < 8 → Mt p = -9) : FS N Mt (2 ^ N - 1) := ⟨by have := pw1 N; omega, fun p hp => ⟨fun _ => h p (by omega), fun _ => full_t N hN p hp⟩⟩
theorem pop_full : ∀ N, N < 9 → popN (2 ^ N - 1) = N := by decide +kernel
theorem tt_en {N : Nat} {A : Nat → Nat → Int32} {rs : Bool} {C Mt : Nat → Int32} (hN : N ≤ 8) : ttR N A rs C Mt = fdR (lkP N A rs 0 (frN 8 Mt) 256 (2 ^ N - 1)) (twS N) (-1, 0, C) := by
  have hfr : ∀ p, p < 8 → frN 8 Mt p = -9 := fun p hp => if_pos hp
  have h := pair_en (A := A) (rs := rs) hN (N + 1) 0 0 (frN 8 Mt) (-1, 0, C) (2 ^ N - 1) 256 (full_N hN hfr) (fun p hp => absurd hp (by omega)) (by
    rw [pop_full N (by omega), sa8_f (fun p hp => by rw [hfr p hp]; decide)]
    exact ⟨fun z => z.1, fun z => ⟨z, rfl⟩⟩) (by omega) (by omega) (by have := pw8 hN; have := pw1 N; omega)
  rw [pop_full N (by omega)] at h
  exact h
