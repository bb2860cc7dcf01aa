/-! two in one at most, kept -/
theorem two2_sw {N : Nat} {A : Nat → Nat → Int32} {a b : Nat} (h : two2 N (A 4)) (ha : a < N) (hb : b < N) : two2 N (swS A a b 4) := by
  obtain ⟨t, ht, hi, hl⟩ : ∃ t : Nat → Nat, (∀ p, swS A a b 4 p = A 4 (t p)) ∧ (∀ p p', t p = t p' → p = p') ∧ ∀ p, p < N → t p < N := by
    refine ⟨fun p => if p = b then a else if p = a then b else p, fun p => ?_, fun p p' => ?_, fun p hp => ?_⟩
    · rw [swS_4]
      by_cases c : p = b
      · simp [c]
      · by_cases c2 : p = a
        · subst c2
          simp [c]
        · simp [c, c2]
    · show (if p = b then a else if p = a then b else p) = (if p' = b then a else if p' = a then b else p') → p = p'
      repeat' split
      all_goals omega
    · show (if p = b then a else if p = a then b else p) < N
      repeat' split
      all_goals omega
  intro u v w hu hv hw huv huw hvw h9 e1 e2
  rw [ht] at h9 e1 e2
  rw [ht] at e1 e2
  exact h (t u) (t v) (t w) (hl u hu) (hl v hv) (hl w hw) (fun z => huv (hi _ _ z)) (fun z => huw (hi _ _ z)) (fun z => hvw (hi _ _ z)) h9 e1 e2
theorem two2_p {N : Nat} {A : Nat → Nat → Int32} {k fg h : Int32} (ht : two2 N (A 4)) : two2 (N + 1) (pcA N A k fg h 4) := by
  have e : ∀ p, pcA N A k fg h 4 p = if p = N then 9 else A 4 p := fun p => by
    unfold pcA
    rw [upA_s, upA_n _ (by decide), upA_n _ (by decide), upA_n _ (by decide)]
  intro u v w hu hv hw huv huw hvw h9 e1 e2
  rw [e] at h9 e1 e2
  rw [e] at e1 e2
  by_cases cu : u = N
  · rw [if_pos cu] at h9
    exact h9 rfl
  · rw [if_neg cu] at h9 e1 e2
    by_cases cv : v = N
    · rw [if_pos cv] at e1
      exact h9 e1.symm
    · by_cases cw : w = N
      · rw [if_pos cw] at e2
        exact h9 e2.symm
      · rw [if_neg cv] at e1
        rw [if_neg cw] at e2
        exact ht u v w (by omega) (by omega) (by omega) huv huw hvw h9 e1 e2
theorem cn_two {P : Nat → Bool} {u v : Nat} (huv : u ≠ v) (hu : P u = true) (hv : P v = true) : ∀ N, u < N → v < N → N ≤ 8 → ¬ cnS P N < 2 := by
  have one : ∀ i, P i = true → ∀ n, i < n → n ≤ 8 → ∃ c, 1 ≤ c ∧ c ≤ n ∧ cnS P n = nI c := by
    intro i hi n
    induction n with
    | zero => intro h; omega
    | succ n ih =>
      intro h h8
      show ∃ c, 1 ≤ c ∧ c ≤ n + 1 ∧ cnS P n + (if P n then 1 else 0) = nI c
      by_cases e : i = n
      · subst e
        obtain ⟨c, hc, ec⟩ := cnS_nI (P := P) i
        rw [ec, if_pos hi]
        exact ⟨c + 1, by omega, by omega, nI_add c 1⟩
      · obtain ⟨c, h1, h2, ec⟩ := ih (by omega) (by omega)
        rw [ec]
        cases hp : P n with
        | true => exact ⟨c + 1, by omega, by omega, nI_add c 1⟩
        | false => exact ⟨c, h1, by omega, Int32.add_zero _⟩
  intro N
  induction N with
  | zero => intro h; omega
  | succ N ih =>
    intro h1 h2 h8
    show ¬ cnS P N + (if P N then 1 else 0) < 2
    by_cases e : u = N ∨ v = N
    · have hp : P N = true := by
        rcases e with e | e
        · rw [← e]; exact hu
        · rw [← e]; exact hv
      have : ∃ i, P i = true ∧ i < N := by
        rcases e with e | e
        · exact ⟨v, hv, by omega⟩
        · exact ⟨u, hu, by omega⟩
      obtain ⟨i, hi, hiN⟩ := this
      obtain ⟨c, c1, c2, ec⟩ := one i hi N hiN (by omega)
      rw [ec, if_pos hp, show nI c + 1 = nI (c + 1) from nI_add c 1]
      exact fun z => absurd ((nI_ltl (b := 2) (by omega) (by omega)).mp z) (by omega)
    · have := ih (by omega) (by omega) (by omega)
      obtain ⟨c, hc, ec⟩ := cnS_nI (P := P) N
      rw [ec] at this ⊢
      have hc2 : 2 ≤ c := Nat.le_of_not_lt (fun z => this ((nI_ltl (b := 2) (by omega) (by omega)).mpr z))
      cases hp : P N with
      | true =>
        rw [if_pos rfl, show nI c + 1 = nI (c + 1) from nI_add c 1]
        exact fun z => absurd ((nI_ltl (b := 2) (by omega) (by omega)).mp z) (by omega)
      | false =>
        intro z
        rw [if_neg (by decide), Int32.add_zero] at z
        exact this z
theorem two2_mv {N : Nat} {A : Nat → Nat → Int32} {a : Nat} {l : Int32} (hN : N ≤ 8) (h : two2 N (A 4)) (hm : mmS N (A 4) a l = true) : two2 N (upA A 4 a l 4) := by
  have e : ∀ p, upA A 4 a l 4 p = if p = a then l else A 4 p := fun p => by
    rw [upA_s]
  have hm := of_decide_eq_true hm
  intro u v w hu hv hw huv huw hvw h9 e1 e2
  rw [e] at h9 e1 e2
  rw [e] at e1 e2
  have key : ∀ x y, x < N → y < N → x ≠ y → x ≠ a → y ≠ a → ¬ l = 9 → A 4 x = l → A 4 y = l → a < N → False := by
    intro x y hx hy hxy hxa hya hl ex ey haN
    rcases hm with z | z | z
    · exact hl z
    · exact h a x y haN hx hy (fun q => hxa q.symm) (fun q => hya q.symm) hxy (by rw [z]; exact hl) (by rw [z, ex]) (by rw [z, ey])
    · exact cn_two (P := fun p => decide (A 4 p = l)) hxy (decide_eq_true ex) (decide_eq_true ey) N hx hy hN z
  by_cases cu : u = a
  · rw [if_pos cu] at h9 e1 e2
    rw [if_neg (by omega)] at e1 e2
    exact key v w hv hw hvw (by omega) (by omega) h9 e1 e2 (by omega)
  · rw [if_neg cu] at h9 e1 e2
    by_cases cv : v = a
    · rw [if_pos cv] at e1
      rw [if_neg (by omega)] at e2
      exact key u w hu hw huw cu (by omega) (by rw [e1]; exact h9) e1.symm (by rw [e2, e1]) (by omega)
    · rw [if_neg cv] at e1
      by_cases cw : w = a
      · rw [if_pos cw] at e2
        exact key u v hu hv huv cu cv (by rw [e2]; exact h9) e2.symm (by rw [e1, e2]) (by omega)
      · rw [if_neg cw] at e2
        exact h u v w hu hv hw huv huw hvw h9 e1 e2
theorem two2_ex {s s' : SS} {l a b e : Int32} (hN : s.1 ≤ 8) (h : two2 s.1 (s.2.2.2 4)) (hx : exS s l a b e = some s') : two2 s'.1 (s'.2.2.2 4) := by
  unfold exS at hx
  split at hx
  · split at hx
    · cases hx
      exact two2_p h
    · cases hx
  · split at hx
    · split at hx
      · cases hx
        show two2 s.1 (lcA s.2.1 s.2.2.2 a b 4)
        unfold lcA
        rw [upA_n _ (by decide), upA_n _ (by decide), upA_n _ (by decide)]
        exact h
      · cases hx
    · split at hx
      · split at hx
        · rename_i hc
          cases hx
          exact two2_mv hN h hc.2.2
        · cases hx
      · split at hx
        · split at hx
          · rename_i hc
            cases hx
            obtain ⟨ja, h1, rfl⟩ := okp_nI hc.1 (by omega)
            obtain ⟨jb, h2, rfl⟩ := okp_nI hc.2.1 (by omega)
            show two2 s.1 (swS s.2.2.2 (nI ja).toNatClampNeg (nI jb).toNatClampNeg 4)
            rw [nI_clamp (by omega), nI_clamp (by omega)]
            exact two2_sw h h1 h2
          · cases hx
        · split at hx
          · split at hx
            · cases hx
              show two2 s.1 (upA s.2.2.2 7 a.toNatClampNeg (s.2.2.2 7 a.toNatClampNeg - 1) 4)
              rw [upA_n _ (by decide)]
              exact h
            · cases hx
          · split at hx
            · cases hx
              show two2 s.1 (mkA s.2.2.2 a 4)
              unfold mkA
              rw [upA_n _ (by decide)]
              exact h
            · cases hx
/-! terms -/
theorem swS_id {A : Nat → Nat → Int32} {a : Nat} : swS A a a = A := by
  funext r p
  by_cases c : r = 4
  · subst c
    rw [swS_4]
    by_cases c2 : p = a
    · rw [if_pos c2, c2]
    · rw [if_neg c2, if_neg c2]
  · rw [swS_row c]
theorem nI_okp {N j : Nat} (h : j < N) (hN : N < 2 ^ 31) : okp N (nI j) = true := decide_eq_true ⟨nI_pos (by omega), (nI_ltl (by omega) hN).mpr h⟩
theorem chX_sw {N : Nat} {A : Nat → Nat → Int32} {y : Int32} (h0 : 0 < N) (hN : N ≤ 8) : ∃ a b, a < N ∧ b < N ∧ chX N A y = swS A a b ∧ drS (sdS y) (nI N) = nI a ∧ drS (sdS (sdS y)) (nI N) = nI b := by
  obtain ⟨a, ha, ea⟩ := drS_nI (sdS y) h0 (by omega)
  obtain ⟨b, hb, eb⟩ := drS_nI (sdS (sdS y)) h0 (by omega)
  refine ⟨a, b, ha, hb, ?_, ea, eb⟩
  unfold chX chA
  rw [ea, eb, nI_clamp (by omega), nI_clamp (by omega)]
  by_cases c : a = b
  · subst c
    rw [if_neg (fun z => (of_decide_eq_true z).2.2 rfl), swS_id]
  · have tw : twoS N (nI a) (nI b) = true := decide_eq_true ⟨nI_okp ha (by omega), nI_okp hb (by omega), nI_ne (by omega) (by omega) c⟩
    rw [if_pos tw]
theorem teA_ch {N : Nat} {A : Nat → Nat → Int32} {z : Int32} (h0 : 0 < N) (hN : N ≤ 8) (k : Nat) : teA N A z (k + 1) = chX N (teA N A z k) (teZ z k) := by
  obtain ⟨a, b, ha, hb, e, e1, e2⟩ := chX_sw (A := teA N A z k) (y := teZ z k) h0 hN
  rw [e]
  show swS (teA N A z k) (drS (sdS (teZ z k)) (nI N)).toNatClampNeg (drS (sdS (sdS (teZ z k))) (nI N)).toNatClampNeg = _
  rw [e1, e2, nI_clamp (by omega), nI_clamp (by omega)]
theorem teA_two {N : Nat} {A : Nat → Nat → Int32} {z : Int32} (h0 : 0 < N) (hN : N ≤ 8) (h : two2 N (A 4)) : ∀ k, two2 N (teA N A z k 4)
  | 0 => h
  | k + 1 => by
    obtain ⟨a, b, ha, hb, e, -⟩ := chX_sw (A := teA N A z k) (y := teZ z k) h0 hN
    rw [teA_ch h0 hN, e]
    exact two2_sw (teA_two h0 hN h k) ha hb
theorem td_te {N : Nat} {A : Nat → Nat → Int32} {z : Int32} {t : Nat} (h0 : 0 < N) (hN : N ≤ 8) : ∀ k, k < 10 → tdA N A z (10 * t + k + 1) = teA N A (teZ z (10 * t)) (k + 1)
  | 0, _ => by
    show chX N (if (10 * t + 0) % 10 = 0 then A else _) (teZ z (10 * t + 0)) = _
    rw [if_pos (by omega), teA_ch h0 hN]
    rfl
  | k + 1, hk => by
    show chX N (if (10 * t + (k + 1)) % 10 = 0 then A else tdA N A z (10 * t + k + 1)) (teZ z (10 * t + (k + 1))) = _
    rw [if_neg (by omega), td_te h0 hN k (by omega), teA_ch h0 hN (k + 1), teZ_add]
theorem tdS_k {N : Nat} {A : Nat → Nat → Int32} {z what : Int32} {t : Nat} (h0 : 0 < N) (hN : N ≤ 8) (h : two2 N (A 4)) : ∀ k, k ≤ 10 → tdS N A z what (10 * t + k) = tdS N A z what (10 * t) + (if what = 1 then teC N A (teZ z (10 * t)) k else if k = 10 then alS N (teA N A (teZ z (10 * t)) 10) else 0)
  | 0, _ => by
    by_cases c : what = 1
    · rw [if_pos c]
      exact (Int32.add_zero _).symm
    · rw [if_neg c, if_neg (by omega)]
      exact (Int32.add_zero _).symm
  | k + 1, hk => by
    have ih := tdS_k (z := z) (what := what) (t := t) h0 hN h k (by omega)
    show (if what = 1 then tdS N A z what (10 * t + k) + cnS (lcP N (tdA N A z (10 * t + k + 1))) N else if (10 * t + k) % 10 = 9 then tdS N A z what (10 * t + k) + alS N (tdA N A z (10 * t + k + 1)) else tdS N A z what (10 * t + k)) = _
    rw [td_te h0 hN k (by omega), ih]
    by_cases c : what = 1
    · rw [if_pos c, if_pos c, if_pos c, Int32.add_assoc]
      show _ = _ + (teC N A (teZ z (10 * t)) k + c2B (clP (teA N A (teZ z (10 * t)) (k + 1))) N 0 N)
      rw [lc_cl hN (teA_two h0 hN h (k + 1))]
    · rw [if_neg c, if_neg c, if_neg c]
      by_cases c9 : k = 9
      · subst c9
        rw [if_pos (by omega), if_neg (by omega), if_pos rfl, Int32.add_zero]
      · rw [if_neg (by omega), if_neg (by omega), if_neg (by omega)]
theorem tdS_all {N : Nat} {A : Nat → Nat → Int32} {z what : Int32} (h0 : 0 < N) (hN : N ≤ 8) (h : two2 N (A 4)) : ∀ x, tdS N A z what (10 * x) = if what = 1 then smS (fun t => teC N A (teZ z (10 * t)) 10) x else smS (fun t => alS N (teA N A (teZ z (10 * t)) 10)) x
  | 0 => by
    by_cases c : what = 1
    · rw [if_pos c]; rfl
    · rw [if_neg c]; rfl
  | x + 1 => by
    rw [show 10 * (x + 1) = 10 * x + 10 by omega, tdS_k h0 hN h 10 (by omega), tdS_all h0 hN h x]
    by_cases c : what = 1
    · rw [if_pos c, if_pos c, if_pos c]; rfl
    · rw [if_neg c, if_neg c, if_neg c, if_pos rfl]; rfl
theorem cte_ter {N : Nat} {A : Nat → Nat → Int32} {x z what : Int32} (hN : N ≤ 8) (h : two2 N (A 4)) : cteS N A x z what = terS N A x z what := by
  unfold cteS terS
  by_cases c : okr x 1 20 = true ∧ okr what 0 1 = true
  · rw [if_pos c, if_pos c]
    by_cases c2 : nI N < 2
    · rw [if_pos c2, if_pos c2]
    · rw [if_neg c2, if_neg c2]
      have h0 : 0 < N := Nat.pos_of_ne_zero (fun e => by subst e; exact c2 (by decide))
      unfold terV
      rw [Nat.mul_comm, tdS_all h0 hN h]
      obtain ⟨w, hw, rfl⟩ := okr_nI (k := 1) rfl (by omega) c.2
      have : w = 0 ∨ w = 1 := by omega
      rcases this with rfl | rfl
      · rw [if_neg (show ¬ nI 0 = 1 by decide), if_pos (show nI 0 = 0 from rfl)]
      · rw [if_pos (show nI 1 = 1 from rfl), if_neg (show ¬ nI 1 = 0 by decide)]
  · rw [if_neg c, if_neg c]
