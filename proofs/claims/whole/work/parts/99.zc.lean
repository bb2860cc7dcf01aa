/-! hours, whose turn, who pays -/
theorem want_tab : ∀ c, c ≤ 8 → (-1 : Int32) < (nI c + 1) / 2 := by decide +kernel
theorem want_nn {N : Nat} {A : Nat → Nat → Int32} {h : Nat} (hN : N ≤ 8) : (-1 : Int32) < wantS N A h := by
  obtain ⟨c, hc, e⟩ := cnS_nI (P := fun p => decide (A 3 p = nI h)) N
  unfold wantS
  rw [e]
  exact want_tab c (by omega)
theorem ho_all {N : Nat} {A : Nat → Nat → Int32} (hN : N ≤ 8) : ∀ k, hoM N A (k + 1) = wantS N A (fhB N A k) ∧ hoB N A (k + 1) = nI (fhB N A k)
  | 0 => by
    constructor
    · show grS (-1) (wantS N A 0) = wantS N A 0
      unfold grS
      rw [if_neg]
      exact fun z => Int32.lt_irrefl (Int32.lt_trans z (want_nn hN))
    · show (if (-1 : Int32) < wantS N A 0 then nI 0 else 0) = nI 0
      rw [if_pos (want_nn hN)]
  | k + 1 => by
    obtain ⟨h1, h2⟩ := ho_all hN k
    constructor
    · show grS (hoM N A (k + 1)) (wantS N A (k + 1)) = wantS N A (if wantS N A (fhB N A k) < wantS N A (k + 1) then k + 1 else fhB N A k)
      rw [h1]
      unfold grS
      by_cases c : wantS N A (fhB N A k) < wantS N A (k + 1)
      · rw [if_pos c, if_neg (fun z => Int32.lt_irrefl (Int32.lt_trans z c))]
      · rw [if_neg c]
        by_cases c2 : wantS N A (k + 1) < wantS N A (fhB N A k)
        · rw [if_pos c2]
        · rw [if_neg c2]
          exact Int32.le_antisymm (Int32.not_lt.mp c) (Int32.not_lt.mp c2)
    · show (if hoM N A (k + 1) < wantS N A (k + 1) then nI (k + 1) else hoB N A (k + 1)) = nI (if wantS N A (fhB N A k) < wantS N A (k + 1) then k + 1 else fhB N A k)
      rw [h1, h2]
      by_cases c : wantS N A (fhB N A k) < wantS N A (k + 1)
      · rw [if_pos c, if_pos c]
      · rw [if_neg c, if_neg c]
theorem cho_hou {N : Nat} {A : Nat → Nat → Int32} {what : Int32} (hN : N ≤ 8) : choS N A what = houS N A what := by
  unfold choS houS
  rw [(ho_all hN 5).1, (ho_all hN 5).2]
/-! whose turn -/
theorem tr_tab : ∀ k, k < 8 → ∀ fa, fa < 10 → ∀ ab, ab < 2 → trouS (nI k) (nI fa) (nI ab) = nI (trouS (nI k) (nI fa) (nI ab)).toNatClampNeg ∧ (trouS (nI k) (nI fa) (nI ab)).toNatClampNeg < 50 := by decide +kernel
theorem df_tab : ∀ a, a < 50 → ∀ b, b < 50 → ((nI a - nI b < 0 ↔ nI a < nI b) ∧ (0 < nI a - nI b ↔ nI b < nI a) ∧ (nI a - nI b = 0 ↔ ¬ nI a < nI b ∧ ¬ nI b < nI a)) := by decide +kernel
theorem tr_bd {q : SS} (h : schOK q) {p : Nat} (hp : p < q.1) (h9 : ¬ q.2.2.2 4 p = 9) : ∃ t, t < 50 ∧ trN q.2.2.2 p = nI t := by
  obtain ⟨h1, h2, h3, h4, h5, h6, h7⟩ := h
  rcases h3 p hp with e | ⟨l, hl, e⟩
  · exact absurd e h9
  · obtain ⟨⟨k, hk, ek⟩, -, -⟩ := h5 p hp
    obtain ⟨⟨fa, hf, ef⟩, ab, ha, ea⟩ := h6 l hl
    unfold trN trS
    rw [e, nI_clamp (by omega), ek, ef, ea]
    exact ⟨_, (tr_tab k hk fa hf ab ha).2, (tr_tab k hk fa hf ab ha).1⟩
theorem tl_tu {q : SS} {w : Bool} {what : Int32} (h : schOK q) (hw : (w = true ∧ what = 0) ∨ (w = false ∧ ¬ what = 0)) : ∀ k, k ≤ q.1 → tlB q.2.2.2 w k = tuB q.2.2.2 what k ∧ (tlB q.2.2.2 w k = -4 ∨ ∃ j, j < k ∧ tlB q.2.2.2 w k = nI j ∧ ¬ q.2.2.2 4 j = 9)
  | 0, _ => ⟨rfl, Or.inl rfl⟩
  | k + 1, hk => by
    have hN := h.1
    obtain ⟨e, ht⟩ := tl_tu h hw k (by omega)
    unfold tlB tuB
    rw [← e]
    by_cases c9 : q.2.2.2 4 k = 9
    · rw [if_pos c9, if_pos c9]
      exact ⟨rfl, ht.imp id fun ⟨j, z1, z2⟩ => ⟨j, by omega, z2⟩⟩
    · rw [if_neg c9, if_neg c9]
      rcases ht with ht | ⟨j, hj, ht, hj9⟩
      · rw [ht]
        exact ⟨rfl, Or.inr ⟨k, by omega, rfl, c9⟩⟩
      · rw [ht, if_neg (nI_pos (by omega)), if_neg (nI_pos (by omega)), nI_clamp (by omega)]
        obtain ⟨a, ha, ea⟩ := tr_bd h (p := k) (by omega) c9
        obtain ⟨b, hb, eb⟩ := tr_bd h (p := j) (by omega) hj9
        obtain ⟨d1, d2, -⟩ := df_tab a ha b hb
        rw [ea, eb]
        rcases hw with ⟨rfl, rfl⟩ | ⟨rfl, hw⟩
        · simp only [eq_self, if_true]
          by_cases c : nI a < nI b
          · rw [if_pos c, if_pos (d1.mpr c)]
            exact ⟨rfl, Or.inr ⟨k, by omega, rfl, c9⟩⟩
          · rw [if_neg c, if_neg (fun z => c (d1.mp z))]
            exact ⟨rfl, Or.inr ⟨j, by omega, rfl, hj9⟩⟩
        · simp only [Bool.false_eq_true, hw, if_false]
          by_cases c : nI b < nI a
          · rw [if_pos c, if_pos (d2.mpr c)]
            exact ⟨rfl, Or.inr ⟨k, by omega, rfl, c9⟩⟩
          · rw [if_neg c, if_neg (fun z => c (d2.mp z))]
            exact ⟨rfl, Or.inr ⟨j, by omega, rfl, hj9⟩⟩
theorem ctu_tur {q : SS} {what : Int32} (h : schOK q) : ctuS q.1 q.2.2.2 what = turS q.1 q.2.2.2 what := by
  unfold ctuS turS
  by_cases c : okr what 0 1 = true
  · rw [if_pos c, if_pos c]
    by_cases c0 : what = 0
    · rw [if_pos c0]
      exact (tl_tu h (Or.inl ⟨rfl, c0⟩) q.1 (Nat.le_refl _)).1
    · rw [if_neg c0]
      exact (tl_tu h (Or.inr ⟨rfl, c0⟩) q.1 (Nat.le_refl _)).1
  · rw [if_neg c, if_neg c]
/-! who pays -/
theorem half_tab : ∀ v, v < 1000 → nI v - nI v / 2 = (nI v + 1) / 2 ∧ nI v - (nI v + 1) / 2 = nI v / 2 := by decide +kernel
theorem nI_ltl {a b : Nat} (ha : a < 2 ^ 31) (hb : b < 2 ^ 31) : nI a < nI b ↔ a < b := nI_ltI ha hb
theorem dp_den {q : SS} {p m v : Nat} {law : Int32} (h : kfOK q.1 q.2.2.2) (hp : p < q.1) (hm : m < q.1) (hN : q.1 ≤ 8) (hpm : m ≠ p) (hv : v < 1000) (hl : law = 0 ∨ law = 1 ∨ law = 2) : (if p < m then plS q.2.2.2 p m (nI v) law else nI v - plS q.2.2.2 m p (nI v) law) = denV q.2.2.2 p m (nI v) law := by
  obtain ⟨t1, t2⟩ := half_tab v hv
  have hlt : nI p < nI m ↔ p < m := nI_ltl (by omega) (by omega)
  rcases hl with rfl | rfl | rfl
  · unfold plS denV hfS
    simp only [show ¬ (0 : Int32) = 1 by decide, show ¬ (0 : Int32) = 2 by decide, false_and, if_false, if_true]
    by_cases c : p < m
    · rw [if_pos c, if_pos (hlt.mpr c)]
      exact t1.symm
    · rw [if_neg c, if_neg (fun z => c (hlt.mp z))]
      exact t2
  · unfold plS denV cutS lowS
    simp only [show ¬ (1 : Int32) = 0 by decide, if_false, if_true]
    by_cases c : p < m
    · rw [if_pos c, if_pos c, if_pos rfl]
    · rw [if_neg c, if_neg c, if_neg (fun z => hpm z.symm), Int32.add_comm (roomS _)]
  · unfold plS denV byS hfS
    obtain ⟨ea, ha⟩ := kf_br h hp hm
    obtain ⟨eb, hb⟩ := kf_br h hm hp
    generalize hA : (brS q.2.2.2 p m).toNatClampNeg = a at ea ha
    generalize hB : (brS q.2.2.2 m p).toNatClampNeg = b at eb hb
    rw [ea, eb]
    obtain ⟨d1, d2, d3⟩ := df_tab a ha b hb
    obtain ⟨d4, d5, d6⟩ := df_tab b hb a ha
    simp only [show ¬ (2 : Int32) = 0 by decide, show ¬ (2 : Int32) = 1 by decide, if_false, true_and]
    by_cases c : p < m
    · rw [if_pos c, if_pos (hlt.mpr c)]
      by_cases l1 : nI a < nI b
      · rw [if_pos (fun z => (d3.mp z).1 l1), if_pos (d1.mpr l1), if_pos l1]
      · by_cases l2 : nI b < nI a
        · rw [if_pos (fun z => (d3.mp z).2 l2), if_neg (fun z => l1 (d1.mp z)), if_neg l1, if_pos l2]
        · rw [if_neg (fun z => z (d3.mpr ⟨l1, l2⟩)), if_neg l1, if_neg l2]
          exact t1.symm
    · rw [if_neg c, if_neg (fun z => c (hlt.mp z))]
      by_cases l1 : nI a < nI b
      · rw [if_pos (fun z => (d6.mp z).2 l1), if_neg (fun z => Int32.lt_irrefl (Int32.lt_trans l1 (d4.mp z))), if_pos l1]
        exact Int32.sub_zero _
      · by_cases l2 : nI b < nI a
        · rw [if_pos (fun z => (d6.mp z).1 l2), if_pos (d4.mpr l2), if_neg l1, if_pos l2]
          exact Int32.sub_self _
        · rw [if_neg (fun z => z (d6.mpr ⟨l2, l1⟩)), if_neg l1, if_neg l2]
          exact t2
theorem cde_den {q : SS} {p v law : Int32} (h : schOK q) (hk : kfOK q.1 q.2.2.2) : cdeS q.1 q.2.2.2 p v law = denS q.1 q.2.2.2 p v law := by
  unfold cdeS denS
  by_cases c : okp q.1 p = true ∧ okr v 0 999 = true ∧ okr law 0 2 = true
  · rw [if_pos c, if_pos c]
    obtain ⟨c1, c2, c3⟩ := c
    have hN := h.1
    obtain ⟨jp, hp, rfl⟩ := okp_nI c1 (by omega)
    obtain ⟨jv, hv, rfl⟩ := okr_nI (k := 999) rfl (by omega) c2
    obtain ⟨jl, hl, rfl⟩ := okr_nI (k := 2) rfl (by omega) c3
    rw [nI_clamp (by omega)]
    by_cases c9 : q.2.2.2 4 jp = 9
    · rw [if_pos c9, if_pos c9]
    · rw [if_neg c9, if_neg c9]
      unfold dpS
      by_cases cm : mateS q.1 (q.2.2.2 4) jp < 0
      · rw [if_pos cm, if_pos cm]
      · rw [if_neg cm, if_neg cm]
        obtain ⟨m, hm, hne, em⟩ := mateS_nI hN cm
        rw [em, nI_clamp (by omega)]
        have h3 : jl = 0 ∨ jl = 1 ∨ jl = 2 := by omega
        refine dp_den hk hp hm hN hne (by omega) ?_
        rcases h3 with rfl | rfl | rfl
        · exact Or.inl rfl
        · exact Or.inr (Or.inl rfl)
        · exact Or.inr (Or.inr rfl)
  · rw [if_neg c, if_neg c]
