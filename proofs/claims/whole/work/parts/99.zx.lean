/-! the best placing on both sides -/
theorem plc_le {χ : Chi} {M p : Nat} (hM : M ≤ 5) : plc χ M p ≤ 7 := by
  rcases plc_cases (χ := χ) M p with z | ⟨z, -⟩ <;> omega
theorem pe8 {k : Nat} (h : k < 8) : 8 ^ (8 - k) = 8 * 8 ^ (7 - k) := by
  have : 8 - k = (7 - k) + 1 := by omega
  rw [this, Nat.pow_succ, Nat.mul_comm]
theorem cd_bd {π : Nat → Nat} (h : ∀ i, π i ≤ 7) : ∀ n, n ≤ 8 → cdN π n + 8 ^ (8 - n) ≤ 16777216
  | 0, _ => by show 0 + 8 ^ 8 ≤ 16777216; decide
  | n + 1, hn => by
    have ih := cd_bd h n (by omega)
    rw [pe8 (by omega)] at ih
    show cdN π n + π n * 8 ^ (7 - n) + 8 ^ (8 - (n + 1)) ≤ _
    rw [show 8 - (n + 1) = 7 - n by omega]
    have := Nat.mul_le_mul_right (8 ^ (7 - n)) (h n)
    omega
theorem cd_hi {π π' : Nat → Nat} (h : ∀ i, π i ≤ 7) {p : Nat} : ∀ n, p + 1 ≤ n → n ≤ 8 → cdN π n + 8 ^ (8 - n) ≤ cdN π (p + 1) + 8 ^ (7 - p)
  | 0, h1, _ => by omega
  | n + 1, h1, h2 => by
    by_cases e : n = p
    · subst e
      rw [show 8 - (n + 1) = 7 - n by omega]
      exact Nat.le_refl _
    · have ih := cd_hi (π' := π') h (p := p) n (by omega) (by omega)
      rw [pe8 (by omega)] at ih
      show cdN π n + π n * 8 ^ (7 - n) + 8 ^ (8 - (n + 1)) ≤ _
      rw [show 8 - (n + 1) = 7 - n by omega]
      have := Nat.mul_le_mul_right (8 ^ (7 - n)) (h n)
      omega
theorem cd_mono {π : Nat → Nat} : ∀ n m, m ≤ n → cdN π m ≤ cdN π n
  | 0, m, h => by
    have : m = 0 := by omega
    rw [this]
    exact Nat.le_refl _
  | n + 1, m, h => by
    by_cases e : m = n + 1
    · rw [e]
      exact Nat.le_refl _
    · exact Nat.le_trans (cd_mono n m (by omega)) (Nat.le_add_right _ _)
theorem cd_cong {π π' : Nat → Nat} : ∀ n, (∀ i, i < n → π' i = π i) → cdN π' n = cdN π n
  | 0, _ => rfl
  | n + 1, h => by
    show cdN π' n + π' n * _ = cdN π n + π n * _
    rw [cd_cong n (fun i hi => h i (by omega)), h n (by omega)]
theorem cd_lt {π π' : Nat → Nat} {p N : Nat} (h' : ∀ i, π' i ≤ 7) (he : ∀ i, i < p → π' i = π i) (hp : π' p < π p) (hpN : p < N) (hN : N ≤ 8) : cdN π' N < cdN π N := by
  have h1 := cd_hi (π' := π) h' (p := p) N (by omega) hN
  have h2 : cdN π (p + 1) ≤ cdN π N := cd_mono N (p + 1) (by omega)
  have h3 : cdN π' (p + 1) = cdN π p + π' p * 8 ^ (7 - p) := by
    show cdN π' p + _ = _
    rw [cd_cong p he]
  have h4 : cdN π (p + 1) = cdN π p + π p * 8 ^ (7 - p) := rfl
  have h5 : (π' p + 1) * 8 ^ (7 - p) ≤ π p * 8 ^ (7 - p) := Nat.mul_le_mul_right _ hp
  rw [Nat.add_mul, Nat.one_mul] at h5
  have h6 : 0 < 8 ^ (8 - N) := Nat.pow_pos (by decide)
  omega
theorem cd_dv {π : Nat → Nat} : ∀ n, n ≤ 8 → ∃ H, cdN π n = H * 8 ^ (8 - n)
  | 0, _ => ⟨0, by show 0 = _; rw [Nat.zero_mul]⟩
  | n + 1, hn => by
    obtain ⟨H, e⟩ := cd_dv (π := π) n (by omega)
    refine ⟨8 * H + π n, ?_⟩
    show cdN π n + π n * 8 ^ (7 - n) = _
    rw [e, pe8 (by omega), show 8 - (n + 1) = 7 - n by omega, Nat.add_mul, Nat.mul_comm 8 H, Nat.mul_assoc]
/-- the p-th digit -/
theorem cd_dig {π : Nat → Nat} {p N : Nat} (h : ∀ i, π i ≤ 7) (hp : p < N) (hN : N ≤ 8) : ∃ H Lo, cdN π N = H * 8 ^ (8 - p) + π p * 8 ^ (7 - p) + Lo ∧ Lo < 8 ^ (7 - p) := by
  obtain ⟨H, e⟩ := cd_dv (π := π) p (by omega)
  have h1 := cd_hi (π' := π) h (p := p) N (by omega) hN
  have h2 : cdN π (p + 1) ≤ cdN π N := cd_mono N (p + 1) (by omega)
  have h3 : cdN π (p + 1) = cdN π p + π p * 8 ^ (7 - p) := rfl
  have h4 : 0 < 8 ^ (8 - N) := Nat.pow_pos (by decide)
  exact ⟨H, cdN π N - cdN π (p + 1), by rw [← e]; omega, by omega⟩
theorem sh_int (y : Int64) (k : Nat) (hk : k < 64) : (y >>> ((nI k).toInt64 &&& 63)).toInt = y.toInt / 2 ^ k := by
  have e : ((nI k).toInt64 &&& 63).toBitVec.smod 64 = BitVec.ofNat 64 k := by
    have : ∀ k, k < 64 → ((nI k).toInt64 &&& 63).toBitVec.smod 64 = BitVec.ofNat 64 k := by decide +kernel
    exact this k hk
  show (y.toBitVec.sshiftRight' (((nI k).toInt64 &&& 63).toBitVec.smod 64)).toInt = _
  rw [e]
  show (y.toBitVec.sshiftRight (BitVec.ofNat 64 k).toNat).toInt = _
  rw [BitVec.toInt_sshiftRight, BitVec.toNat_ofNat, Nat.mod_eq_of_lt (by omega), Int.shiftRight_eq_div_pow]
  rfl
theorem cd_le {χ : Chi} {M N : Nat} (hM : M ≤ 5) (hN : N ≤ 8) : cdN (plc χ M) N < 16777216 := by
  have := cd_bd (π := plc χ M) (fun i => plc_le hM) N hN
  have : 0 < 8 ^ (8 - N) := Nat.pow_pos (by decide)
  omega
theorem ctn_int {y : Int64} {t : Int} {c : Nat} (e : y.toInt = 16777216 * t - (c : Int)) (hc : c < 16777216) (h1 : -10000 ≤ t) (h2 : t ≤ 10000) : (ctnS y).toInt = t := by
  unfold ctnS
  have e1 : (y + 16777215).toInt = y.toInt + 16777215 := by
    rw [add_int (by omega) (by omega) (by decide) (by decide)]
    rfl
  have e2 := sh_int (y + 16777215) 24 (by omega)
  rw [e1, e] at e2
  have e3 : (16777216 * t - (c : Int) + 16777215) / 2 ^ 24 = t := by omega
  rw [e3] at e2
  rw [Int64.toInt_toInt32]
  show Int.bmod ((y + 16777215) >>> ((nI 24).toInt64 &&& 63)).toInt (2 ^ 32) = t
  rw [e2]
  exact Int.bmod_eq_of_le (by omega) (by omega)
theorem and7 {z : Int64} {u : Int} {d : Nat} (e : z.toInt = 8 * u + (d : Int)) (hd : d < 8) : z.toInt32 &&& 7 = nI d := by
  rw [pk_and z.toInt32 (m := 7) 3 rfl]
  congr 1
  have h1 := Int64.toInt_toInt32 z
  rw [Int.bmod_def, show z.toInt32.toInt = z.toInt32.toBitVec.toInt from rfl, BitVec.toInt_eq_toNat_cond] at h1
  have h2 := z.toInt32.toBitVec.isLt
  generalize z.toInt32.toBitVec.toNat = w at h1 h2 ⊢
  split at h1 <;> split at h1 <;> omega
theorem pln_int {y : Int64} {t : Int} {π : Nat → Nat} {p N : Nat} (h : ∀ i, π i ≤ 7) (hp : p < N) (hN : N ≤ 8) (e : y.toInt = 16777216 * t - (cdN π N : Int)) (hc : cdN π N < 16777216) (h1 : -10000 ≤ t) (h2 : t ≤ 10000) : plnS y p = plv (π p) := by
  obtain ⟨H, Lo, eH, hLo⟩ := cd_dig h hp hN
  have en : (-y).toInt = (cdN π N : Int) - 16777216 * t := by
    rw [Int64.toInt_neg, e, Int.bmod_eq_of_le (by omega) (by omega)]
    omega
  have e2 := sh_int (-y) (3 * (7 - p)) (by omega)
  rw [en, eH] at e2
  have hd := h p
  have key : ∃ u : Int, ((-y) >>> ((nI (3 * (7 - p))).toInt64 &&& 63)).toInt = 8 * u + (π p : Int) := by
    rw [e2]
    have hp8 : p = 0 ∨ p = 1 ∨ p = 2 ∨ p = 3 ∨ p = 4 ∨ p = 5 ∨ p = 6 ∨ p = 7 := by omega
    rcases hp8 with rfl | rfl | rfl | rfl | rfl | rfl | rfl | rfl
    · exact ⟨(H : Int) - t, by simp at hLo ⊢; omega⟩
    · exact ⟨(H : Int) - 8 * t, by simp at hLo ⊢; omega⟩
    · exact ⟨(H : Int) - 64 * t, by simp at hLo ⊢; omega⟩
    · exact ⟨(H : Int) - 512 * t, by simp at hLo ⊢; omega⟩
    · exact ⟨(H : Int) - 4096 * t, by simp at hLo ⊢; omega⟩
    · exact ⟨(H : Int) - 32768 * t, by simp at hLo ⊢; omega⟩
    · exact ⟨(H : Int) - 262144 * t, by simp at hLo ⊢; omega⟩
    · exact ⟨(H : Int) - 2097152 * t, by simp at hLo ⊢; omega⟩
  obtain ⟨u, hu⟩ := key
  unfold plnS plv
  rw [and7 hu (by omega)]
  by_cases c : π p = 7
  · rw [c, if_pos (show nI 7 = 7 from rfl), if_pos rfl]
  · rw [if_neg c, if_neg]
    intro z
    exact c ((nI_eq (a := π p) (b := 7) (by omega) (by omega)).mp z)
/-! the reference picks the same -/
theorem gfL_is {N M : Nat} {A : Nat → Nat → Int32} {due : Int32} {fx : Nat → Int32} {p l0 : Nat} (hne : ∀ l, l < l0 → ¬ plR N M A (fxU fx p (lvS M l)) M 0 = due) (he : plR N M A (fxU fx p (lvS M l0)) M 0 = due) : ∀ k l, l ≤ l0 → l0 < l + k → gfL N M A due fx p l k = lvS M l0
  | 0, l, h1, h2 => by omega
  | k + 1, l, h1, h2 => by
    unfold gfL
    by_cases c : l = l0
    · rw [c, if_pos he]
    · rw [if_neg (hne l (by omega))]
      exact gfL_is hne he k (l + 1) (by omega) (by omega)
theorem none_g {N M : Nat} : gOK N M (fun _ => none) := ⟨fun l c _ h => (nomatch h), fun l l' p _ _ h => by
  rw [inn_n rfl] at h
  cases h⟩
theorem none_t {N M : Nat} {A : Nat → Nat → Int32} (hN : N ≤ 8) : -160 ≤ totI A N M (fun _ => none) := by
  unfold totI
  have e1 : ∀ M, sI (ccI A (fun _ => none)) M = 0 := fun M => by
    induction M with
    | zero => rfl
    | succ M ih => show sI _ M + 0 = 0; rw [ih]; rfl
  have e2 : ∀ n : Nat, -20 * (n : Int) ≤ sI (fun p => if plc (fun _ => none) M p = 7 then -20 else 0) n := fun n => by
    induction n with
    | zero => show -20 * ((0 : Nat) : Int) ≤ 0; decide
    | succ n ih =>
      show _ ≤ sI _ n + (if _ then -20 else 0)
      split <;> omega
  rw [e1]
  have := e2 N
  omega
theorem pl_eq : PLeq := by
  intro q h htw
  have hN := h.1
  have hM := h.2.1
  obtain ⟨χ, hg, ew, hmax⟩ := best_c h
  have hc := cd_le (χ := χ) hM hN
  obtain ⟨r1, r2⟩ := best_r h (fun _ => -1)
  have hfree : ∀ (χ' : Chi) p, p < q.1 → (fun _ : Nat => (-1 : Int32)) p < 0 ∨ (fun _ : Nat => (-1 : Int32)) p = plv (plc χ' q.2.1 p) := fun χ' p _ => Or.inl (show (-1 : Int32) < 0 by decide)
  have hn := r1 _ none_g (hfree _)
  have hn0 := none_t (N := q.1) (M := q.2.1) (A := q.2.2.2) hN
  have hle : ∀ χ', gOK q.1 q.2.1 χ' → totI q.2.2.2 q.1 q.2.1 χ' ≤ totI q.2.2.2 q.1 q.2.1 χ := fun χ' hg' => by
    have h1 := hmax χ' hg'
    have h2 := cd_le (χ := χ') hM hN
    omega
  have hb := (pl_all h (fx := fun _ => -1) q.2.1 (Nat.le_refl _) 0 (by omega)).1
  have hdue : (pldS q.1 q.2.1 q.2.2.2).toInt = totI q.2.2.2 q.1 q.2.1 χ := by
    show (plR q.1 q.2.1 q.2.2.2 (fun _ => -1) q.2.1 0).toInt = _
    have h1 := r1 χ hg (hfree _)
    rcases r2 with r2 | ⟨χ', g1, -, g3⟩
    · omega
    · have := hle χ' g1
      omega
  have hb2 : -10000 ≤ totI q.2.2.2 q.1 q.2.1 χ ∧ totI q.2.2.2 q.1 q.2.1 χ ≤ 10000 := by
    have := hle _ none_g
    have e : (pldS q.1 q.2.1 q.2.2.2).toInt = (plR q.1 q.2.1 q.2.2.2 (fun _ => -1) q.2.1 0).toInt := rfl
    omega
  refine ⟨Int32.toInt_inj.mp ((ctn_int ew hc hb2.1 hb2.2).trans hdue.symm), fun i => ?_⟩
  unfold cpaS plaS
  by_cases ci : okp q.1 i = true
  · rw [if_pos ci, if_pos ci]
    obtain ⟨ji, hji, rfl⟩ := okp_nI ci (by omega)
    rw [nI_clamp (by omega), pln_int (fun i => plc_le hM) hji hN ew hc hb2.1 hb2.2]
    have step : ∀ p, p ≤ q.1 → (∀ i, i < p → gfX q.1 q.2.1 q.2.2.2 (pldS q.1 q.2.1 q.2.2.2) p i = plv (plc χ q.2.1 i)) ∧ ∀ i, p ≤ i → gfX q.1 q.2.1 q.2.2.2 (pldS q.1 q.2.1 q.2.2.2) p i = -1 := by
      intro p
      induction p with
      | zero => exact fun _ => ⟨fun i hi => by omega, fun i _ => rfl⟩
      | succ p ih =>
        intro hp
        obtain ⟨i1, i2⟩ := ih (by omega)
        have hcs := plc_cases (χ := χ) q.2.1 p
        -- the place that is due
        obtain ⟨l0, hl0, el0, hlt⟩ : ∃ l0, l0 ≤ q.2.1 ∧ lvS q.2.1 l0 = plv (plc χ q.2.1 p) ∧ ∀ l, l < l0 → l < plc χ q.2.1 p ∧ l < q.2.1 := by
          rcases hcs with z | ⟨z, -⟩
          · exact ⟨q.2.1, Nat.le_refl _, by unfold lvS plv; rw [if_pos rfl, if_pos z], fun l hl => by omega⟩
          · exact ⟨plc χ q.2.1 p, by omega, by unfold lvS plv; rw [if_neg (by omega), if_neg (by omega)], fun l hl => by omega⟩
        have fxv : ∀ (v : Int32) (χ' : Chi), (∀ k, k < q.1 → fxU (gfX q.1 q.2.1 q.2.2.2 (pldS q.1 q.2.1 q.2.2.2) p) p v k < 0 ∨ fxU (gfX q.1 q.2.1 q.2.2.2 (pldS q.1 q.2.1 q.2.2.2) p) p v k = plv (plc χ' q.2.1 k)) ↔ ((∀ k, k < p → plv (plc χ q.2.1 k) < 0 ∨ plv (plc χ q.2.1 k) = plv (plc χ' q.2.1 k)) ∧ (v < 0 ∨ v = plv (plc χ' q.2.1 p))) := by
          intro v χ'
          constructor
          · intro z
            refine ⟨fun k hk => ?_, ?_⟩
            · have := z k (by omega)
              unfold fxU at this
              rw [if_neg (by omega), i1 k hk] at this
              exact this
            · have := z p (by omega)
              unfold fxU at this
              rw [if_pos rfl] at this
              exact this
          · rintro ⟨z1, z2⟩ k hk
            unfold fxU
            by_cases e : k = p
            · rw [if_pos e, e]
              exact z2
            · rw [if_neg e]
              by_cases e2 : k < p
              · rw [i1 k e2]
                exact z1 k e2
              · rw [i2 k (by omega)]
                exact Or.inl (by decide)
        have plv_nn : ∀ k, k ≤ 7 → ¬ plv k < 0 := fun k hk => by
          unfold plv
          split
          · decide
          · exact nI_pos (by omega)
        have plv_inj : ∀ a b, (a = 7 ∨ a < 5) → (b = 7 ∨ b < 5) → plv a = plv b → a = b := fun a b ha hb e => by
          unfold plv at e
          by_cases c1 : a = 7
          · by_cases c2 : b = 7
            · omega
            · rw [if_pos c1, if_neg c2, show (9 : Int32) = nI 9 from rfl, nI_eq (by omega) (by omega)] at e
              omega
          · by_cases c2 : b = 7
            · rw [if_neg c1, if_pos c2, show (9 : Int32) = nI 9 from rfl, nI_eq (by omega) (by omega)] at e
              omega
            · rw [if_neg c1, if_neg c2, nI_eq (by omega) (by omega)] at e
              exact e
        have rng : ∀ (χ' : Chi) k, plc χ' q.2.1 k = 7 ∨ plc χ' q.2.1 k < 5 := fun χ' k => by
          rcases plc_cases (χ := χ') q.2.1 k with z | ⟨z, -⟩
          · exact Or.inl z
          · exact Or.inr (by omega)
        have eG : gfX q.1 q.2.1 q.2.2.2 (pldS q.1 q.2.1 q.2.2.2) (p + 1) = fxU (gfX q.1 q.2.1 q.2.2.2 (pldS q.1 q.2.1 q.2.2.2) p) p (gfL q.1 q.2.1 q.2.2.2 (pldS q.1 q.2.1 q.2.2.2) (gfX q.1 q.2.1 q.2.2.2 (pldS q.1 q.2.1 q.2.2.2) p) p 0 (q.2.1 + 1)) := rfl
        have hpick : gfL q.1 q.2.1 q.2.2.2 (pldS q.1 q.2.1 q.2.2.2) (gfX q.1 q.2.1 q.2.2.2 (pldS q.1 q.2.1 q.2.2.2) p) p 0 (q.2.1 + 1) = lvS q.2.1 l0 := by
          refine gfL_is (fun l hl he => ?_) ?_ (q.2.1 + 1) 0 (Nat.zero_le _) (by omega)
          · -- a smaller place would do too
            obtain ⟨-, r4⟩ := best_r h (fxU (gfX q.1 q.2.1 q.2.2.2 (pldS q.1 q.2.1 q.2.2.2) p) p (lvS q.2.1 l))
            rw [he] at r4
            rcases r4 with r4 | ⟨χ', g1, g2, g3⟩
            · have := hle _ none_g
              omega
            · obtain ⟨y1, y2⟩ := (fxv _ χ').mp g2
              obtain ⟨hl1, hl2⟩ := hlt l hl
              have e1 : lvS q.2.1 l = plv l := by
                unfold lvS plv
                rw [if_neg (by omega), if_neg (by omega)]
              rw [e1] at y2
              have e2 : l = plc χ' q.2.1 p := by
                rcases y2 with y2 | y2
                · exact absurd y2 (plv_nn l (by omega))
                · exact plv_inj _ _ (Or.inr (by omega)) (rng χ' p) y2
              have e3 : ∀ k, k < p → plc χ' q.2.1 k = plc χ q.2.1 k := fun k hk => by
                rcases y1 k hk with z | z
                · exact absurd z (plv_nn _ (plc_le hM))
                · exact (plv_inj _ _ (rng χ k) (rng χ' k) z).symm
              have hlt2 := cd_lt (π := plc χ q.2.1) (π' := plc χ' q.2.1) (p := p) (N := q.1) (fun i => plc_le hM) e3 (by omega) (by omega) hN
              have := hmax χ' g1
              omega
          · obtain ⟨r3, r4⟩ := best_r h (fxU (gfX q.1 q.2.1 q.2.2.2 (pldS q.1 q.2.1 q.2.2.2) p) p (lvS q.2.1 l0))
            have y := r3 χ hg ((fxv _ χ).mpr ⟨fun k hk => Or.inr rfl, Or.inr el0⟩)
            apply Int32.toInt_inj.mp
            rw [hdue]
            rcases r4 with r4 | ⟨χ', g1, g2, g3⟩
            · have := hle _ none_g
              omega
            · have := hle χ' g1
              omega
        rw [eG, hpick]
        refine ⟨fun i hi => ?_, fun i hi => ?_⟩
        · unfold fxU
          by_cases e : i = p
          · rw [if_pos e, e, el0]
          · rw [if_neg e]
            exact i1 i (by omega)
        · unfold fxU
          rw [if_neg (by omega)]
          exact i2 i (by omega)
    exact ((step (ji + 1) (by omega)).1 ji (by omega)).symm
  · rw [if_neg ci, if_neg ci]
