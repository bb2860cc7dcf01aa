theorem ndS_ge (ch : Int32) : 1 ≤ ndS ch := by
  unfold ndS
  split
  · decide
  · split
    · decide
    · split <;> decide
theorem st_next {c : Nat → Int32} {a : Nat} (h : stG c a = true) : stP c a = a + 1 + ndS (c a) + 1 ∧ ∀ j, j < ndS (c a) → dgS (c (a + 1 + j)) = true := by
  unfold stG at h
  rw [Bool.and_eq_true, Bool.and_eq_true] at h
  obtain ⟨⟨h1, h2⟩, h3⟩ := h
  have h2 := of_decide_eq_true h2
  have h3 := of_decide_eq_true h3
  refine ⟨?_, ?_⟩
  · unfold stP
    rw [if_neg (by rw [h1]; decide), if_neg (by omega), if_pos h3]
  · have key : ∀ (k i : Nat), rdK c i k = k → ∀ j, j < k → dgS (c (i + j)) = true := by
      intro k
      induction k with
      | zero => intro i _ j hj; exact absurd hj (by omega)
      | succ k ih =>
        intro i hr j hj
        unfold rdK at hr
        by_cases hd : dgS (c i) = true
        · rw [if_pos hd] at hr
          by_cases e : j = 0
          · rw [e]; exact hd
          · have := ih (i + 1) (by omega) (j - 1) (by omega)
            rw [show i + 1 + (j - 1) = i + j by omega] at this
            exact this
        · rw [if_neg hd] at hr
          exact absurd hr (by omega)
    exact key _ _ h2
def tdK (c : Nat → Int32) (k : Nat) (A1 : Nat → Nat → Int32) : Prop := ∀ j, j < k → A1 14 j = nI (psS c j) ∧ A1 15 j = c (psS c j) ∧ (∀ i, i < ndS (c (psS c j)) → A1 16 (3 * j + i) = c (psS c j + 1 + i) - 48) ∧ stG c (psS c j) = true
theorem tdK_s {c : Nat → Int32} {k : Nat} {F1 F2 : Nat → Int32} {A1 A2 : Nat → Nat → Int32} (h : tdK c k A1) (hs : sdR c (psS c k) k F1 A1 F2 A2) (hg : stG c (psS c k) = true) : tdK c (k + 1) A2 := by
  obtain ⟨-, -, -, -, -, h14, h15, h16, h17⟩ := hs
  intro j hj
  by_cases e : j = k
  · subst e
    exact ⟨by rw [h14, if_pos rfl], by rw [h15, if_pos rfl], h17 hg, hg⟩
  · obtain ⟨i1, i2, i3, i4⟩ := h j (by omega)
    refine ⟨by rw [h14, if_neg e, i1], by rw [h15, if_neg e, i2], fun i hi => ?_, i4⟩
    have := ndS_le (c (psS c j))
    rw [h16 _ (by omega), i3 i hi]
def scH (c : Nat → Int32) (R k : Nat) : Nat × Option Nat := if k = 0 ∨ psS c k < R then scS c R (40 - k) k else (k, none)
theorem sc_go {c : Nat → Int32} {R k : Nat} (hk : k < 40) (h : k = 0 ∨ psS c k < R) (hg : stG c (psS c k) = true) : scH c R k = scH c R (k + 1) := by
  unfold scH
  rw [if_pos h, show 40 - k = (40 - (k + 1)) + 1 by omega]
  conv => lhs; unfold scS
  rw [if_pos hg]
  by_cases e : psS c (k + 1) < R
  · rw [if_pos e, if_pos (Or.inr e)]
  · rw [if_neg e, if_neg (by omega)]
theorem sc_bad {c : Nat → Int32} {R k : Nat} (hk : k < 40) (h : k = 0 ∨ psS c k < R) (hg : ¬ stG c (psS c k) = true) : scH c R k = (k, some (stP c (psS c k))) := by
  unfold scH
  rw [if_pos h, show 40 - k = (40 - (k + 1)) + 1 by omega]
  conv => lhs; unfold scS
  rw [if_neg hg]
theorem sc_end {c : Nat → Int32} {R k : Nat} (h0 : ¬ k = 0) (h : ¬ psS c k < R) : scH c R k = (k, none) := by
  unfold scH
  rw [if_neg (by omega)]
theorem ex_at {c : Nat → Int32} {j k : Nat} {A1 A2 : Nat → Nat → Int32} {s : SS} (h : tdK c k A1) (h15 : A2 15 = A1 15) (h16 : A2 16 = A1 16) (hj : j < k) : exS s (A2 15 j) (A2 16 (3 * j)) (A2 16 (3 * j + 1)) (A2 16 (3 * j + 2)) = exC c s (psS c j) := by
  obtain ⟨-, i2, i3, -⟩ := h j hj
  rw [h15, h16, i2]
  unfold exC
  have g := ndS_ge (c (psS c j))
  exact exS_dig (i3 0 (by omega)) (fun z => i3 1 z) (fun z => i3 2 z)
theorem rn_step {c : Nat → Int32} {f j : Nat} {s3 s2 s' : SS} (h : SEq s3 s2) (he : exC c s2 (psS c j) = some s') : ∃ s4, SEq s4 s' ∧ rnS c (f + 1) j s3 = rnS c f (j + 1) s4 := by
  have o := exS_eq h (c (psS c j)) (c (psS c j + 1) - 48) (c (psS c j + 2) - 48) (c (psS c j + 3) - 48)
  have he2 : exS s2 (c (psS c j)) (c (psS c j + 1) - 48) (c (psS c j + 2) - 48) (c (psS c j + 3) - 48) = some s' := he
  rw [he2] at o
  have hu : rnS c (f + 1) j s3 = match exC c s3 (psS c j) with
    | none => (-2000 - nI (psS c j), none)
    | some s' => rnS c f (j + 1) s' := rfl
  cases h3 : exS s3 (c (psS c j)) (c (psS c j + 1) - 48) (c (psS c j + 2) - 48) (c (psS c j + 3) - 48) with
  | none => rw [h3] at o; exact absurd o id
  | some s4 =>
    rw [h3] at o
    refine ⟨s4, o, ?_⟩
    rw [hu, show exC c s3 (psS c j) = some s4 from h3]
theorem rn_stop {c : Nat → Int32} {f j : Nat} {s3 s2 : SS} (h : SEq s3 s2) (he : exC c s2 (psS c j) = none) : rnS c (f + 1) j s3 = (-2000 - nI (psS c j), none) := by
  have o := exS_eq h (c (psS c j)) (c (psS c j + 1) - 48) (c (psS c j + 2) - 48) (c (psS c j + 3) - 48)
  have he2 : exS s2 (c (psS c j)) (c (psS c j + 1) - 48) (c (psS c j + 2) - 48) (c (psS c j + 3) - 48) = none := he
  rw [he2] at o
  have hu : rnS c (f + 1) j s3 = match exC c s3 (psS c j) with
    | none => (-2000 - nI (psS c j), none)
    | some s' => rnS c f (j + 1) s' := rfl
  cases h3 : exS s3 (c (psS c j)) (c (psS c j + 1) - 48) (c (psS c j + 2) - 48) (c (psS c j + 3) - 48) with
  | none => rw [hu, show exC c s3 (psS c j) = none from h3]
  | some s4 => rw [h3] at o; exact absurd o id
theorem exC_ok {c : Nat → Int32} {a : Nat} {s s' : SS} (h : schOK s) (hg : stG c a = true) (he : exC c s a = some s') : schOK s' := by
  have hd := (st_next hg).2
  have g := ndS_ge (c a)
  refine ex_ok h (dg_nI (hd 0 (by omega))) (fun z => ?_) (fun z => ?_) he
  · refine dg_nI (hd 1 ?_)
    rcases z with z | z | z | z <;> rw [z] <;> decide
  · refine dg_nI (hd 2 ?_)
    rw [z]
    decide
def shS (N M : Nat) (P : Int32) (A : Nat → Nat → Int32) (L : Nat → Nat → Int64) (d : Int32) : Int32 × SS :=
  if wkS (A 8) 2 d < 0 then (wkS (A 8) 2 d, (N, M, P, A)) else if ¬ A 11 d.toNatClampNeg = 0 then (-12, (N, M, P, A))
  else ((schV (txC L d.toNatClampNeg (A 12 d.toNatClampNeg).toNatClampNeg) (A 12 d.toNatClampNeg).toNatClampNeg (N, M, P, A)).1, (schV (txC L d.toNatClampNeg (A 12 d.toNatClampNeg).toNatClampNeg) (A 12 d.toNatClampNeg).toNatClampNeg (N, M, P, A)).2.getD (N, M, P, A))
def shQ (F : Nat → Int32) (A : Nat → Nat → Int32) (s : SS) (F' : Nat → Int32) (A' : Nat → Nat → Int32) : Prop := F' 0 = nI s.1 ∧ F' 5 = nI s.2.1 ∧ F' 9 = s.2.2.1 ∧ F' 26 = F 26 ∧ EqR s.2.2.2 A' ∧ ∀ r, (8 ≤ r ∧ r ≤ 12) ∨ r = 18 → A' r = A r
theorem schV_bad {c : Nat → Int32} {R k p : Nat} {s : SS} (h : scS c R 40 0 = (k, some p)) : schV c R s = (-1000 - nI p, none) := by
  unfold schV
  rw [h]
theorem schV_run {c : Nat → Int32} {R k : Nat} {s : SS} (h : scS c R 40 0 = (k, none)) : schV c R s = rnS c k 0 s := by
  unfold schV
  rw [h]
theorem shS_z {N M : Nat} {P : Int32} {A : Nat → Nat → Int32} {L : Nat → Nat → Int64} {jd R : Nat} {v : Int32 × Option SS} (h1 : wkS (A 8) 2 (nI jd) = 0) (hj : jd < 8) (h2 : A 11 jd = 0) (hR : R ≤ 100) (eR : A 12 jd = nI R) (h3 : schV (txC L jd R) R (N, M, P, A) = v) : shS N M P A L (nI jd) = (v.1, v.2.getD (N, M, P, A)) := by
  unfold shS
  rw [if_neg (by rw [h1]; decide), nI_clamp (by omega), if_neg (fun z => z h2), eR, nI_clamp (by omega), h3]
theorem psS_le {c : Nat → Int32} : ∀ k, psS c k ≤ 5 * k
  | 0 => Nat.le_refl _
  | k + 1 => by
    have h := psS_le (c := c) k
    have g := ndS_le (c (psS c k))
    show psS c k + 1 + ndS (c (psS c k)) + 1 ≤ 5 * (k + 1)
    omega
