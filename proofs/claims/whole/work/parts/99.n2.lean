/-! resting twos, best twos: class and reference -/
theorem okm_i {N : Nat} {i : Int32} (hN : N < 2 ^ 30) : okm N i = true ↔ (i = -1 ∨ okp N i = true) := by
  unfold okm okp
  rw [decide_eq_true_iff, decide_eq_true_iff, i32_lt, i32_lt, i32_lt, i32_eq, nI_toInt (by omega), show ((-1 : Int32).toInt) = -1 from rfl, show ((0 : Int32).toInt) = 0 from rfl]
  omega
theorem lk_rest {N : Nat} {A : Nat → Nat → Int32} {g r : Nat} {Mt : Nat → Int32} (hN : N ≤ 8) (hg : 256 ≤ g) : drS2 N A (ltM N g (2 ^ N - 1) r Mt) = rsP N A r ∨ g ≠ 256 := by
  by_cases e : g = 256
  · subst e
    refine Or.inl ?_
    have h1 := pw8 hN
    have h2 := pw1 N
    have hm : ∀ p, p < N → ltM N 256 (2 ^ N - 1) r Mt p = ltC N r p := fun p hp => ltM_congr hN 256 (2 ^ N - 1) r Mt _ (by omega) (by omega) (fun q hq hz => by rw [full_t N hN q hq] at hz; cases hz) p hp
    unfold drS2 rsP
    refine n2B_congr N 0 (by omega) (fun a b hab hb => ?_)
    rw [hm a (by omega), hm b hb]
    rfl
  · exact Or.inr e
theorem rest_fd {N : Nat} {A : Nat → Nat → Int32} {Mt C : Nat → Int32} (hN : N ≤ 8) : ∀ k, k ≤ twS N → ∃ j, (fdR (lkP N A true 0 Mt 256 (2 ^ N - 1)) k (-1, 0, C)).2.1 = nI j ∧ rsI N A (fun _ => (fdR (lkP N A true 0 Mt 256 (2 ^ N - 1)) k (-1, 0, C)).2.2) k j
  | 0, _ => ⟨0, rfl, rfl, Nat.le_refl _, Or.inl ⟨rfl, rfl⟩⟩
  | k + 1, h => by
    obtain ⟨j, h1, h2⟩ := rest_fd (A := A) (Mt := Mt) (C := C) hN k (by omega)
    have e : fdR (lkP N A true 0 Mt 256 (2 ^ N - 1)) (k + 1) (-1, 0, C) = lookS N A true (0 + lkM A N 256 (2 ^ N - 1) k) (ltM N 256 (2 ^ N - 1) k Mt) (fdR (lkP N A true 0 Mt 256 (2 ^ N - 1)) k (-1, 0, C)) := rfl
    rw [e]
    generalize hR : fdR (lkP N A true 0 Mt 256 (2 ^ N - 1)) k (-1, 0, C) = R at h1 h2
    have hd : drS2 N A (ltM N 256 (2 ^ N - 1) k Mt) = rsP N A k := (lk_rest hN (Nat.le_refl _)).resolve_right (fun z => z rfl)
    unfold lookS
    rw [if_pos rfl, hd]
    have hj : j ≤ k := h2.2.1
    have htw := (twS_le N).2
    have h1w := pw8 hN
    have h2w := pw1 N
    have hm : ∀ p, p < N → ltM N 256 (2 ^ N - 1) k Mt p = ltC N k p := fun p hp => ltM_congr hN 256 (2 ^ N - 1) k Mt _ (by omega) (by omega) (fun q hq hz => by rw [full_t N hN q hq] at hz; cases hz) p hp
    by_cases hp : rsP N A k = true
    · rw [if_pos hp]
      refine ⟨j + 1, ?_, rsI_y h2 (by omega) hp (fun z p hp2 => ?_) (fun z p hp2 => ?_)⟩
      · show R.2.1 + 1 = nI (j + 1)
        rw [h1]
        exact nI_add j 1
      · show (if R.2.1 = 0 then cpC (ltM N 256 (2 ^ N - 1) k Mt) R.2.2 else R.2.2) p = ltC N k p
        rw [if_pos (by rw [h1, z]; rfl), ← hm p hp2]
        unfold cpC va_cpy
        rw [if_pos (by omega), Nat.zero_add, Nat.sub_zero]
      · show (if R.2.1 = 0 then cpC (ltM N 256 (2 ^ N - 1) k Mt) R.2.2 else R.2.2) p = R.2.2 p
        rw [if_neg]
        intro y
        rw [h1] at y
        exact z ((n0_eq (by omega)).mp y)
    · rw [if_neg hp]
      exact ⟨j, h1, rsI_n h2 (by omega) hp (fun _ _ => rfl)⟩
theorem res_eq {N : Nat} {A : Nat → Nat → Int32} {C Mt : Nat → Int32} {i : Int32} (hN : N ≤ 8) : creS N A C Mt i = resS N A i := by
  have htw := (twS_le N).2
  obtain ⟨j, h1, h2⟩ := rest_fd (A := A) (Mt := frN 8 Mt) (C := C) hN (twS N) (Nat.le_refl _)
  rw [← tt_en hN] at h1 h2
  have hc : (ttR N A true C Mt).2.1 = cnS (rsP N A) (twS N) := h1.trans h2.1.symm
  unfold creS resS
  rw [hc]
  by_cases hi : i = -1
  · subst hi
    rw [if_pos rfl, if_pos ((okm_i (by omega)).mpr (Or.inl rfl)), if_pos (by decide)]
  · rw [if_neg hi]
    by_cases ho : okp N i = true
    · rw [if_pos ho, if_pos ((okm_i (by omega)).mpr (Or.inr ho)), if_neg (okp_i.mp ho).1]
      by_cases hz : cnS (rsP N A) (twS N) = 0
      · rw [if_pos hz, if_pos hz]
      · rw [if_neg hz, if_neg hz]
        obtain ⟨p, hp, rfl⟩ := okp_nI ho (by omega)
        rw [nI_clamp (by omega)]
        rcases h2.2.2 with ⟨z, -⟩ | ⟨-, z⟩
        · exfalso
          apply hz
          rw [h2.1, z]
          rfl
        · exact z p hp
    · rw [if_neg ho, if_neg (fun z => ((okm_i (by omega)).mp z).elim hi ho)]
/-! the best -/
theorem fsB_fst {P : Nat → Bool} : ∀ (k j : Nat), j + k < 2 ^ 31 → (fsB P j k = -4 ∧ ∀ i, j ≤ i → i < j + k → P i = false) ∨ ∃ i, j ≤ i ∧ i < j + k ∧ P i = true ∧ fsB P j k = nI i ∧ ∀ i', j ≤ i' → i' < i → P i' = false
  | 0, j, _ => Or.inl ⟨rfl, fun i h1 h2 => absurd h2 (by omega)⟩
  | k + 1, j, h => by
    unfold fsB
    by_cases hp : P j = true
    · rw [if_pos hp]
      exact Or.inr ⟨j, Nat.le_refl _, by omega, hp, rfl, fun i' h1 h2 => absurd h2 (by omega)⟩
    · rw [if_neg hp]
      rcases fsB_fst (P := P) k (j + 1) (by omega) with ⟨h1, h2⟩ | ⟨i, h1, h2, h3, h4, h5⟩
      · refine Or.inl ⟨h1, fun i y1 y2 => ?_⟩
        by_cases e : i = j
        · subst e; exact Bool.eq_false_iff.mpr hp
        · exact h2 i (by omega) (by omega)
      · refine Or.inr ⟨i, by omega, by omega, h3, h4, fun i' y1 y2 => ?_⟩
        by_cases e : i' = j
        · subst e; exact Bool.eq_false_iff.mpr hp
        · exact h5 i' (by omega) y2
theorem gr_l (a b : Int32) : a ≤ grS a b := by
  unfold grS
  split
  · exact Int32.le_refl _
  · exact Int32.not_lt.mp (by assumption)
theorem gr_r (a b : Int32) : b ≤ grS a b := by
  unfold grS
  split
  · exact Int32.le_of_lt (by assumption)
  · exact Int32.le_refl _
theorem gr_or (a b : Int32) : grS a b = a ∨ grS a b = b := by
  unfold grS
  split
  · exact Or.inl rfl
  · exact Or.inr rfl
theorem mf_max {A : Nat → Nat → Int32} {T : Nat → Int32} {a l : Nat} {z : Int32} : ∀ k, (∀ j, j < k → Nat.testBit l (a + 1 + j) = true → likS A a (a + 1 + j) + T (clrN l (a + 1 + j)) ≤ mfU A T a l z k) ∧ z ≤ mfU A T a l z k ∧ (mfU A T a l z k = z ∨ ∃ j, j < k ∧ Nat.testBit l (a + 1 + j) = true ∧ mfU A T a l z k = likS A a (a + 1 + j) + T (clrN l (a + 1 + j)))
  | 0 => ⟨fun j hj => absurd hj (by omega), Int32.le_refl _, Or.inl rfl⟩
  | k + 1 => by
    obtain ⟨h1, h2, h3⟩ := mf_max (A := A) (T := T) (a := a) (l := l) (z := z) k
    unfold mfU
    by_cases hb : Nat.testBit l (a + 1 + k) = true
    · rw [if_pos hb]
      refine ⟨fun j hj ht => ?_, Int32.le_trans h2 (gr_l _ _), ?_⟩
      · by_cases e : j = k
        · subst e; exact gr_r _ _
        · exact Int32.le_trans (h1 j (by omega) ht) (gr_l _ _)
      · rcases gr_or (mfU A T a l z k) (likS A a (a + 1 + k) + T (clrN l (a + 1 + k))) with e | e
        · rw [e]
          exact h3.imp id (fun ⟨j, y1, y2, y3⟩ => ⟨j, by omega, y2, y3⟩)
        · rw [e]
          exact Or.inr ⟨k, by omega, hb, rfl⟩
    · rw [if_neg hb]
      refine ⟨fun j hj ht => ?_, h2, h3.imp id (fun ⟨j, y1, y2, y3⟩ => ⟨j, by omega, y2, y3⟩)⟩
      by_cases e : j = k
      · subst e; exact absurd ht hb
      · exact h1 j (by omega) ht
/-- the c-th of those in l -/
theorem cb_ex {l b : Nat} : ∀ n c, c < cbN l b n → ∃ j, j < n ∧ Nat.testBit l (b + j) = true ∧ cbN l b j = c
  | 0, c, h => absurd h (Nat.not_lt_zero _)
  | n + 1, c, h => by
    by_cases hc : c < cbN l b n
    · obtain ⟨j, h1, h2, h3⟩ := cb_ex n c hc
      exact ⟨j, by omega, h2, h3⟩
    · have h : c < cbN l b n + (if Nat.testBit l (b + n) then 1 else 0) := h
      by_cases ht : Nat.testBit l (b + n) = true
      · rw [if_pos ht] at h
        exact ⟨n, by omega, ht, by omega⟩
      · rw [if_neg ht] at h
        omega
theorem cb_mono {l b : Nat} : ∀ {i j : Nat}, i ≤ j → cbN l b i ≤ cbN l b j
  | i, 0, h => by
    obtain rfl : i = 0 := by omega
    exact Nat.le_refl _
  | i, j + 1, h => by
    by_cases e : i = j + 1
    · subst e; exact Nat.le_refl _
    · exact Nat.le_trans (cb_mono (j := j) (by omega)) (Nat.le_add_right _ _)
theorem cb_lt {l b i j : Nat} (h : i < j) (ht : Nat.testBit l (b + i) = true) : cbN l b i < cbN l b j := by
  have h1 : cbN l b (i + 1) = cbN l b i + 1 := by
    show cbN l b i + (if Nat.testBit l (b + i) then 1 else 0) = _
    rw [if_pos ht]
  have h2 := cb_mono (l := l) (b := b) (i := i + 1) (j := j) (by omega)
  omega
set_option maxHeartbeats 2000000 in
theorem best_en {N : Nat} {A : Nat → Nat → Int32} (hN : N ≤ 8) (K : Nat → Nat → Nat) (hK : ∀ a b, a < N → b < N → likS A a b = nI (K a b) ∧ K a b < 100) (T : Nat → Int32) (hT0 : T 0 = 0) (hT : ∀ s, s < 2 ^ N → s ≠ 0 → T s = moV A N T s) : ∀ (s g h : Nat), s < 2 ^ N → s < g → s < h → ∃ t r, T s = nI t ∧ t ≤ 100 * popN s ∧ r < twS (popN s) ∧ lkM A N g s r = nI t ∧ (∀ r', r' < twS (popN s) → ∃ t', lkM A N g s r' = nI t' ∧ t' ≤ t ∧ (r' < r → t' < t)) ∧ ∀ mt, lbM A N T h s mt = ltM N g s r mt := by
  intro s
  induction s using Nat.strongRecOn with
  | ind s ih =>
  intro g h hs hg hh
  obtain ⟨g, rfl⟩ : ∃ k, g = k + 1 := ⟨g - 1, by omega⟩
  obtain ⟨h, rfl⟩ : ∃ k, h = k + 1 := ⟨h - 1, by omega⟩
  have h256 : s < 256 := Nat.lt_of_lt_of_le hs (pw8 hN)
  by_cases h0 : s = 0
  · subst h0
    refine ⟨0, 0, hT0, Nat.zero_le _, by decide, lkM_z, fun r' hr' => ⟨0, lkM_z, Nat.le_refl _, fun z => absurd z (Nat.not_lt_zero _)⟩, fun mt => ?_⟩
    rw [ltM_z, lbM_z]
  · have ha : lowN s < N := low_N N hN s hs h0
    have hta := (low_in s h256 h0).2
    have hl := clr_s hta
    have hpl := pop_clr s h256 (lowN s) (by omega) hta
    have hp8 := pop_8 s h256
    have hw := twB_pos (popN (clrN s (lowN s))) (by omega)
    have hTs := hT s hs h0
    unfold moV at hTs
    have htot := cb_tot N (by omega) s h256 hs h0
    generalize hal : lowN s = a at *
    generalize hll : clrN s a = l at *
    have h256l : l < 256 := by omega
    have hx0 : ∀ r, ltX N s r = nbF l (r / twB (popN l)) (a + 1) (N - (a + 1)) := fun r => by rw [ltX_at, hal, hll]
    have hr0 : ∀ r, ltR s r = if popN l = 0 then 0 else r % twB (popN l) := fun r => by unfold ltR; rw [hal, hll]
    obtain ⟨m1, m2, m3⟩ := mf_max (A := A) (T := T) (a := a) (l := l) (z := if popN s % 2 = 1 then T l else -1) (N - (a + 1))
    rw [← hTs] at m1 m2 m3
    -- what comes of the j-th mate
    have hsub : ∀ j, j < N - (a + 1) → Nat.testBit l (a + 1 + j) = true → ∃ t r, likS A a (a + 1 + j) + T (clrN l (a + 1 + j)) = nI t ∧ t ≤ 100 * popN s ∧ r < twB (popN l) ∧ lkM A N (g + 1) s (cbN l (a + 1) j * twB (popN l) + r) = nI t ∧ (∀ r', r' < twB (popN l) → ∃ t', lkM A N (g + 1) s (cbN l (a + 1) j * twB (popN l) + r') = nI t' ∧ t' ≤ t ∧ (r' < r → t' < t)) ∧ ∀ mt, lbM A N T h (clrN l (a + 1 + j)) (fun i => if i = a + 1 + j then nI a else if i = a then nI (a + 1 + j) else mt i) = ltM N (g + 1) s (cbN l (a + 1) j * twB (popN l) + r) mt := by
      intro j hj ht
      have hp2 := pop_clr l h256l (a + 1 + j) (by omega) ht
      have hl2 := clr_s ht
      obtain ⟨t, r, e1, e2, e3, e4, e5, e6⟩ := ih (clrN l (a + 1 + j)) (by omega) g h (by omega) (by omega) (by omega)
      obtain ⟨k1, k2⟩ := hK a (a + 1 + j) ha (by omega)
      have hwe : twB (popN l) = twS (popN (clrN l (a + 1 + j))) := by rw [tw_prev (by omega), show popN l - 1 = popN (clrN l (a + 1 + j)) by omega]
      have hx : ∀ r', r' < twB (popN l) → ltX N s (cbN l (a + 1) j * twB (popN l) + r') = nI (a + 1 + j) := fun r' hr' => by
        rw [hx0, Nat.mul_comm, Nat.mul_add_div (by omega), Nat.div_eq_of_lt hr', Nat.add_zero]
        exact nb_at _ _ _ (by omega) ht
      have hrr : ∀ r', r' < twB (popN l) → ltR s (cbN l (a + 1) j * twB (popN l) + r') = r' := fun r' hr' => by
        rw [hr0, if_neg (by omega), Nat.mul_comm, Nat.mul_add_mod, Nat.mod_eq_of_lt hr']
      have hlk : ∀ r', r' < twB (popN l) → lkM A N (g + 1) s (cbN l (a + 1) j * twB (popN l) + r') = likS A a (a + 1 + j) + lkM A N g (clrN l (a + 1 + j)) r' := fun r' hr' => by
        rw [lkM_p h0 (hx r' hr') (by omega), hrr r' hr', hal, hll]
      refine ⟨K a (a + 1 + j) + t, r, by rw [k1, e1, nI_add], by omega, by omega, by rw [hlk r (by omega), k1, e4, nI_add], fun r' hr' => ?_, fun mt => ?_⟩
      · obtain ⟨t', y1, y2, y3⟩ := e5 r' (by omega)
        exact ⟨K a (a + 1 + j) + t', by rw [hlk r' hr', k1, y1, nI_add], by omega, fun z => by have := y3 z; omega⟩
      · rw [ltM_p h0 (hx r (by omega)) (by omega), hrr r (by omega), hal, hll]
        exact e6 _
    have hdiv : ∀ r', r' / twB (popN l) < popN l → ∃ j r'', j < N - (a + 1) ∧ Nat.testBit l (a + 1 + j) = true ∧ r'' < twB (popN l) ∧ r' = cbN l (a + 1) j * twB (popN l) + r'' := by
      intro r' hr'
      obtain ⟨j, y1, y2, y3⟩ := cb_ex (l := l) (b := a + 1) (N - (a + 1)) (r' / twB (popN l)) (by rw [htot]; exact hr')
      exact ⟨j, r' % twB (popN l), y1, y2, Nat.mod_lt _ (by omega), by rw [y3, Nat.mul_comm]; exact (Nat.div_add_mod _ _).symm⟩
    have hP : ∀ b, lbP A T s b = decide (Nat.testBit l b = true ∧ likS A a b + T (clrN l b) = T s) := fun b => by unfold lbP; rw [hal, hll]
    have hlbX : lbX A N T s = fsB (lbP A T s) (a + 1) (N - (a + 1)) := by unfold lbX; rw [hal]
    have hle : ∀ {x y : Nat}, x < 2 ^ 31 → y < 2 ^ 31 → nI x ≤ nI y → x ≤ y := fun h1 h2 z => Nat.le_of_not_lt fun w => absurd (nI_lt w h1) (Int32.not_lt.mpr z)
    rcases fsB_fst (P := lbP A T s) (N - (a + 1)) (a + 1) (by omega) with ⟨f1, f2⟩ | ⟨b, f1, f2, f3, f4, f5⟩
    · -- nobody for the lowest: alone
      have hno : ∀ j, j < N - (a + 1) → Nat.testBit l (a + 1 + j) = true → ¬ likS A a (a + 1 + j) + T (clrN l (a + 1 + j)) = T s := fun j hj ht z => by
        have := f2 (a + 1 + j) (by omega) (by omega)
        rw [hP, decide_eq_false_iff_not] at this
        exact this ⟨ht, z⟩
      have hz : T s = if popN s % 2 = 1 then T l else -1 := by
        rcases m3 with z | ⟨j, y1, y2, y3⟩
        · exact z
        · exact absurd y3.symm (hno j y1 y2)
      have hodd : popN s % 2 = 1 := by
        by_cases c : popN s % 2 = 1
        · exact c
        · exfalso
          rw [if_neg c] at hz
          obtain ⟨j, y1, y2, y3⟩ := cb_ex (l := l) (b := a + 1) (N - (a + 1)) 0 (by rw [htot]; omega)
          obtain ⟨t, r, e1, e2, -⟩ := hsub j y1 y2
          have := m1 j y1 y2
          rw [e1, hz] at this
          have hp100 : t < 1000 := by omega
          exact absurd (show (-1 : Int32) < nI t by rw [i32_lt, nI_toInt (by omega), show ((-1 : Int32).toInt) = -1 from rfl]; omega) (Int32.not_lt.mpr this)
      rw [if_pos hodd] at hz
      obtain ⟨t, r, e1, e2, e3, e4, e5, e6⟩ := ih l (by omega) g h (by omega) (by omega) (by omega)
      obtain ⟨t1, t2⟩ := tw_odd (popN l) (by omega) (by omega)
      have hx : ∀ r', r' < twS (popN l) → ltX N s (popN l * twB (popN l) + r') = -4 := fun r' hr' => by
        rw [hx0, Nat.mul_comm, Nat.mul_add_div (by omega), Nat.div_eq_of_lt (by omega), Nat.add_zero]
        exact nb_no _ _ _ (by rw [htot]; exact Nat.le_refl _)
      have hrr : ∀ r', r' < twS (popN l) → ltR s (popN l * twB (popN l) + r') = r' := fun r' hr' => by
        rw [hr0]
        by_cases e : popN l = 0
        · rw [if_pos e]
          rw [e] at hr'
          have : twS 0 = 1 := rfl
          omega
        · rw [if_neg e, Nat.mul_comm, Nat.mul_add_mod, Nat.mod_eq_of_lt (by omega)]
      have hlk : ∀ r', r' < twS (popN l) → lkM A N (g + 1) s (popN l * twB (popN l) + r') = lkM A N g l r' := fun r' hr' => by
        rw [lkM_n h0 (by rw [hx r' hr']; decide), hrr r' hr', hal, hll]
      refine ⟨t, popN l * twB (popN l) + r, by rw [hz, e1], by omega, by rw [← hpl, t1]; omega, by rw [hlk r e3, e4], fun r' hr' => ?_, fun mt => ?_⟩
      · by_cases hc : r' / twB (popN l) < popN l
        · obtain ⟨j, r'', y1, y2, y3, y4⟩ := hdiv r' hc
          obtain ⟨t2', r2, z1, z2, z3, z4, z5, z6⟩ := hsub j y1 y2
          obtain ⟨t', w1, w2, w3⟩ := z5 r'' y3
          have hm := m1 j y1 y2
          have hne := hno j y1 y2
          rw [z1, hz, e1] at hm hne
          have h5 := hle (by omega) (by omega) hm
          have h6 : t2' ≠ t := fun z => hne (by rw [z])
          exact ⟨t', by rw [y4]; exact w1, by omega, fun _ => by omega⟩
        · have hge : popN l * twB (popN l) ≤ r' := by
            have := (Nat.le_div_iff_mul_le (by omega)).mp (Nat.le_of_not_lt hc)
            exact this
          obtain ⟨r'', rfl⟩ : ∃ q, r' = popN l * twB (popN l) + q := ⟨r' - popN l * twB (popN l), by omega⟩
          rw [← hpl, t1] at hr'
          obtain ⟨t', w1, w2, w3⟩ := e5 r'' (by omega)
          exact ⟨t', by rw [hlk r'' (by omega), w1], w2, fun z => w3 (by omega)⟩
      · rw [lbM_n h0 (by rw [hlbX, f1]; decide), ltM_n h0 (by rw [hx r e3]; decide), hrr r e3, hal, hll, hlbX, f1]
        exact e6 _
    · -- b is the first mate that does
      obtain ⟨j, rfl⟩ : ∃ j, b = a + 1 + j := ⟨b - (a + 1), by omega⟩
      rw [hP] at f3
      obtain ⟨g1, g2⟩ := of_decide_eq_true f3
      obtain ⟨t, r, e1, e2, e3, e4, e5, e6⟩ := hsub j (by omega) g1
      have hTt : T s = nI t := by rw [← g2, e1]
      have hcj : cbN l (a + 1) j < popN l := by rw [← htot]; exact cb_lt (by omega) g1
      have hpos : cbN l (a + 1) j * twB (popN l) + r < popN l * twB (popN l) := by
        have : (cbN l (a + 1) j + 1) * twB (popN l) ≤ popN l * twB (popN l) := Nat.mul_le_mul_right _ (by omega)
        rw [Nat.add_mul, Nat.one_mul] at this
        omega
      have hall : popN l * twB (popN l) ≤ twS (popN s) := by
        rw [← hpl]
        by_cases c : popN l % 2 = 0
        · rw [(tw_odd (popN l) (by omega) c).1]; omega
        · rw [tw_even (popN l) (by omega) (by omega)]; exact Nat.le_refl _
      refine ⟨t, cbN l (a + 1) j * twB (popN l) + r, hTt, e2, by omega, e4, fun r' hr' => ?_, fun mt => ?_⟩
      · by_cases hc : r' / twB (popN l) < popN l
        · obtain ⟨i, r'', y1, y2, y3, y4⟩ := hdiv r' hc
          obtain ⟨t2', r2, z1, z2, z3, z4, z5, z6⟩ := hsub i y1 y2
          have hm := m1 i y1 y2
          rw [z1, hTt] at hm
          have h5 := hle (by omega) (by omega) hm
          rcases Nat.lt_trichotomy i j with c1 | c1 | c1
          · obtain ⟨t', w1, w2, w3⟩ := z5 r'' y3
            have hf := f5 (a + 1 + i) (by omega) (by omega)
            rw [hP, decide_eq_false_iff_not] at hf
            have h6 : t2' ≠ t := fun z => hf ⟨y2, by rw [z1, z, hTt]⟩
            exact ⟨t', by rw [y4]; exact w1, by omega, fun _ => by omega⟩
          · subst c1
            obtain ⟨t', w1, w2, w3⟩ := e5 r'' y3
            exact ⟨t', by rw [y4]; exact w1, w2, fun z => w3 (by omega)⟩
          · obtain ⟨t', w1, w2, w3⟩ := z5 r'' y3
            refine ⟨t', by rw [y4]; exact w1, by omega, fun z => ?_⟩
            exfalso
            have h7 := cb_lt (l := l) (b := a + 1) c1 g1
            have : (cbN l (a + 1) j + 1) * twB (popN l) ≤ cbN l (a + 1) i * twB (popN l) := Nat.mul_le_mul_right _ (by omega)
            rw [Nat.add_mul, Nat.one_mul] at this
            omega
        · have hge : popN l * twB (popN l) ≤ r' := (Nat.le_div_iff_mul_le (by omega)).mp (Nat.le_of_not_lt hc)
          have hodd : popN l % 2 = 0 := by
            by_cases c : popN l % 2 = 0
            · exact c
            · exfalso
              rw [← hpl, tw_even (popN l) (by omega) (by omega)] at hr'
              omega
          obtain ⟨t1, t2⟩ := tw_odd (popN l) (by omega) hodd
          obtain ⟨r'', rfl⟩ : ∃ q, r' = popN l * twB (popN l) + q := ⟨r' - popN l * twB (popN l), by omega⟩
          rw [← hpl, t1] at hr'
          obtain ⟨tl, rl, z1, z2, z3, z4, z5, z6⟩ := ih l (by omega) g h (by omega) (by omega) (by omega)
          obtain ⟨t', w1, w2, w3⟩ := z5 r'' (by omega)
          have hx : ltX N s (popN l * twB (popN l) + r'') = -4 := by
            rw [hx0, Nat.mul_comm, Nat.mul_add_div (by omega), Nat.div_eq_of_lt (by omega), Nat.add_zero]
            exact nb_no _ _ _ (by rw [htot]; exact Nat.le_refl _)
          have hrr : ltR s (popN l * twB (popN l) + r'') = r'' := by
            rw [hr0]
            by_cases e : popN l = 0
            · rw [e] at hcj; exact absurd hcj (Nat.not_lt_zero _)
            · rw [if_neg e, Nat.mul_comm, Nat.mul_add_mod, Nat.mod_eq_of_lt (by omega)]
          rw [if_pos (show popN s % 2 = 1 by omega), z1, hTt] at m2
          have h5 := hle (by omega) (by omega) m2
          exact ⟨t', by rw [lkM_n h0 (by rw [hx]; decide), hrr, hal, hll, w1], by omega, fun z => absurd z (by omega)⟩
      · rw [lbM_p h0 (by rw [hlbX]; exact f4) (by omega), hal, hll]
        exact e6 mt
