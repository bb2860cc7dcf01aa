/-! the class's best twos are the reference's -/
theorem br_bd : ∀ ka, ka < 8 → ∀ fa, fa < 10 → ∀ kb, kb < 8 → ∀ fb, fb < 10 → (bearS (nI ka) (nI fa) (nI kb) (nI fb)).toNatClampNeg < 50 ∧ bearS (nI ka) (nI fa) (nI kb) (nI fb) = nI (bearS (nI ka) (nI fa) (nI kb) (nI fb)).toNatClampNeg := by decide +kernel
/-- kinds and figures in their ranges -/
def kfOK (N : Nat) (A : Nat → Nat → Int32) : Prop := ∀ p, p < N → (∃ k, k < 8 ∧ A 1 p = nI k) ∧ ∃ k, k < 10 ∧ A 2 p = nI k
theorem kf_br {N : Nat} {A : Nat → Nat → Int32} {a b : Nat} (h : kfOK N A) (ha : a < N) (hb : b < N) : brS A a b = nI (brS A a b).toNatClampNeg ∧ (brS A a b).toNatClampNeg < 50 := by
  obtain ⟨⟨k1, h1, e1⟩, k2, h2, e2⟩ := h a ha
  obtain ⟨⟨k3, h3, e3⟩, k4, h4, e4⟩ := h b hb
  unfold brS
  rw [e1, e2, e3, e4]
  exact ⟨(br_bd k1 h1 k2 h2 k3 h3 k4 h4).2, (br_bd k1 h1 k2 h2 k3 h3 k4 h4).1⟩
def lkK (A : Nat → Nat → Int32) (a b : Nat) : Nat := (brS A a b).toNatClampNeg + (brS A b a).toNatClampNeg
theorem kf_lk {N : Nat} {A : Nat → Nat → Int32} {a b : Nat} (h : kfOK N A) (ha : a < N) (hb : b < N) : likS A a b = nI (lkK A a b) ∧ lkK A a b < 100 := by
  obtain ⟨h1, h2⟩ := kf_br h ha hb
  obtain ⟨h3, h4⟩ := kf_br h hb ha
  refine ⟨?_, by unfold lkK; omega⟩
  show brS A a b + brS A b a = nI (lkK A a b)
  unfold lkK
  rw [h1, h3, nI_add, nI_clamp (by omega), nI_clamp (by omega)]
theorem moT_st {A : Nat → Nat → Int32} {N : Nat} {T : Nat → Int32} : ∀ k i, i ≤ k → moT A N T k i = moT A N T i i
  | 0, i, h => by
    obtain rfl : i = 0 := by omega
    rfl
  | k + 1, i, h => by
    by_cases e : i = k + 1
    · subst e; rfl
    · rw [← moT_st k i (by omega)]
      show (if i = k + 1 then _ else _) = _
      rw [if_neg e]
theorem bsT_0 {N : Nat} {A : Nat → Nat → Int32} : bsT N A 0 = 0 := by
  unfold bsT
  rw [moT_st _ 0 (Nat.zero_le _)]
  rfl
theorem bsT_s {N : Nat} {A : Nat → Nat → Int32} (hN : N ≤ 8) {s : Nat} (hs : s < 2 ^ N) (h0 : s ≠ 0) : bsT N A s = moV A N (bsT N A) s := by
  obtain ⟨k, rfl⟩ : ∃ k, s = k + 1 := ⟨s - 1, by omega⟩
  unfold bsT
  rw [moT_st _ (k + 1) (by omega)]
  show (if k + 1 = k + 1 then moV A N (moT A N (A 20) k) (k + 1) else _) = _
  rw [if_pos rfl]
  refine moV_congr hN hs h0 (fun _ _ _ _ => rfl) (fun i hi => ?_)
  rw [moT_st k i (by omega)]
  exact (moT_st (2 ^ N - 1) i (by omega)).symm
/-- the first that is best -/
theorem best_fd {N : Nat} {A : Nat → Nat → Int32} {Mt C : Nat → Int32} {t r W : Nat} (ht : t < 2 ^ 31) (hv : ∀ r', r' < W → ∃ t', lkM A N 256 (2 ^ N - 1) r' = nI t' ∧ t' ≤ t ∧ (r' < r → t' < t)) (hr : lkM A N 256 (2 ^ N - 1) r = nI t) : ∀ k, k ≤ W → (k ≤ r → (fdR (lkP N A false 0 Mt 256 (2 ^ N - 1)) k (-1, 0, C)).1 < nI t) ∧ (r < k → (fdR (lkP N A false 0 Mt 256 (2 ^ N - 1)) k (-1, 0, C)).1 = nI t ∧ ∃ C0, (fdR (lkP N A false 0 Mt 256 (2 ^ N - 1)) k (-1, 0, C)).2.2 = cpC (ltM N 256 (2 ^ N - 1) r Mt) C0)
  | 0, _ => ⟨fun _ => by
      show (-1 : Int32) < nI t
      rw [i32_lt, nI_toInt (by omega), show ((-1 : Int32).toInt) = -1 from rfl]
      omega, fun h => absurd h (by omega)⟩
  | k + 1, h => by
    obtain ⟨h1, h2⟩ := best_fd (Mt := Mt) (C := C) ht hv hr k (by omega)
    have e : fdR (lkP N A false 0 Mt 256 (2 ^ N - 1)) (k + 1) (-1, 0, C) = lookS N A false (0 + lkM A N 256 (2 ^ N - 1) k) (ltM N 256 (2 ^ N - 1) k Mt) (fdR (lkP N A false 0 Mt 256 (2 ^ N - 1)) k (-1, 0, C)) := rfl
    rw [e]
    generalize fdR (lkP N A false 0 Mt 256 (2 ^ N - 1)) k (-1, 0, C) = R at h1 h2
    obtain ⟨t', y1, y2, y3⟩ := hv k (by omega)
    unfold lookS
    rw [if_neg (by decide), Int32.zero_add, y1]
    refine ⟨fun hk => ?_, fun hk => ?_⟩
    · by_cases c : R.1 < nI t'
      · rw [if_pos c]
        exact nI_lt (y3 (by omega)) (by omega)
      · rw [if_neg c]
        exact h1 (by omega)
    · by_cases e2 : k = r
      · subst e2
        have h1 := h1 (Nat.le_refl _)
        rw [hr] at y1
        rw [← y1, if_pos h1]
        exact ⟨rfl, _, rfl⟩
      · obtain ⟨z1, z2⟩ := h2 (by omega)
        rw [if_neg]
        · exact ⟨z1, z2⟩
        · rw [z1]
          intro w
          have := (nI_ltI (a := t) (b := t') (by omega) (by omega)).mp w
          omega
theorem bes_all {N : Nat} {A : Nat → Nat → Int32} {C Mt : Nat → Int32} (hN : N ≤ 8) (h : kfOK N A) : (ttR N A false C Mt).1 = bsT N A (2 ^ N - 1) ∧ ∀ p, p < N → (ttR N A false C Mt).2.2 p = bsM N A p := by
  have h1 := pw8 hN
  have h2 := pw1 N
  have hpf := pop_full N (by omega)
  obtain ⟨t, r, e1, e2, e3, e4, e5, e6⟩ := best_en hN (lkK A) (fun a b ha hb => kf_lk h ha hb) (bsT N A) bsT_0 (fun s hs h0 => bsT_s hN hs h0) (2 ^ N - 1) 256 256 (by omega) (by omega) (by omega)
  rw [hpf] at e2 e3 e5
  obtain ⟨f1, C0, f2⟩ := (best_fd (Mt := frN 8 Mt) (C := C) (by omega) e5 e4 (twS N) (Nat.le_refl _)).2 e3
  rw [tt_en hN]
  refine ⟨by rw [f1, e1], fun p hp => ?_⟩
  rw [f2]
  unfold cpC va_cpy bsM
  rw [if_pos (by omega), Nat.zero_add, Nat.sub_zero, e6]
  exact ltM_congr hN 256 (2 ^ N - 1) r _ _ (by omega) (by omega) (fun q hq hz => by rw [full_t N hN q hq] at hz; cases hz) p hp
theorem bes_eq {N : Nat} {A : Nat → Nat → Int32} {C Mt : Nat → Int32} {i : Int32} (hN : N ≤ 8) (h : kfOK N A) : cbeS N A C Mt i = besS N A i := by
  obtain ⟨h1, h2⟩ := bes_all (C := C) (Mt := Mt) hN h
  unfold cbeS besS
  by_cases hi : i = -1
  · subst hi
    rw [if_pos rfl, if_pos ((okm_i (by omega)).mpr (Or.inl rfl)), if_pos (by decide), h1]
  · rw [if_neg hi]
    by_cases ho : okp N i = true
    · rw [if_pos ho, if_pos ((okm_i (by omega)).mpr (Or.inr ho)), if_neg (okp_i.mp ho).1]
      obtain ⟨p, hp, rfl⟩ := okp_nI ho (by omega)
      rw [nI_clamp (by omega), h2 p hp]
    · rw [if_neg ho, if_neg (fun z => ((okm_i (by omega)).mp z).elim hi ho)]
theorem bsM_ok {N : Nat} {A : Nat → Nat → Int32} (hN : N ≤ 8) (h : kfOK N A) : mtOK N (bsM N A) := by
  have h1 := pw8 hN
  have h2 := pw1 N
  obtain ⟨t, r, e1, e2, e3, e4, e5, e6⟩ := best_en hN (lkK A) (fun a b ha hb => kf_lk h ha hb) (bsT N A) bsT_0 (fun s hs h0 => bsT_s hN hs h0) (2 ^ N - 1) 256 256 (by omega) (by omega) (by omega)
  unfold bsM
  rw [e6]
  exact ltM_ok hN 256 (2 ^ N - 1) r _ (by omega) (by omega) (fun p hp hz => by rw [full_t N hN p hp] at hz; cases hz)
