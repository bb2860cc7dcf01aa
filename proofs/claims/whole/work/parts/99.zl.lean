/-! the shelves on both sides -/
section ZL
variable {G : GX} {f f1 f' : Mem} {n n' n1 x : Nat} {b : Int32} {q q' J : SS} {L L' : Nat → Nat → Int64} {j : JD} {F : Nat → Int32} {K : Option Nat} {g : Nat → Int64} {A A' : Nat → Nat → Int32} {Os Rs : Nat → Option Nat} {y1 y2 : MD} {d1 mc ms d2 : Nat} {As : List Value} {v : Int32} {Qc : RQ}
theorem ob4_i {so so2 : Int32} {a a2 : Nat} (h : ob 4 [.int so, .ref a] = ob 4 [.int so2, .ref a2]) : so = so2 ∧ a = a2 := by
  cases h
  exact ⟨rfl, rfl⟩
theorem ia_i {R R2 : Nat} {g g2 : Nat → Int32} (h : ia G R g = ia G R2 g2) : R = R2 ∧ g = g2 := by
  cases h
  exact ⟨rfl, rfl⟩
theorem up_ne {T : Type} {h : Nat → T} {i p : Nat} {v : T} (e : p ≠ i) : va_up h i v p = h p := by
  unfold va_up
  rw [if_neg e]
theorem up_at {T : Type} {h : Nat → T} {i : Nat} {v : T} : va_up h i v i = v := by
  unfold va_up
  rw [if_pos rfl]
theorem shJ.at1 (h : shJ G f n x A L Os Rs) {jd : Nat} (hjd : jd ≤ 7) {vO vR : Option Nat} (hos : f' (x + 33) = oa G 2 8 (va_up Os jd vO)) (hrs : f' (x + 34) = oa G 3 8 (va_up Rs jd vR)) (h3 : ∀ a, x + 61 ≤ a → a < n → f' a = f a) (hn : n ≤ n')
    (hA : ∀ r d, 8 ≤ r → r ≤ 12 → d ≠ jd → A' r d = A r d) (hL : ∀ d k, d < 8 → d ≠ jd → k < 100 → L' 13 (100 * d + k) = L 13 (100 * d + k)) (new : shD G f' n' (va_up Os jd vO) (va_up Rs jd vR) A' jd)
    (nO : ∀ a, vO = some a → x + 61 ≤ a ∧ a < n') (nR : ∀ b, vR = some b → x + 61 ≤ b ∧ b < n' ∧ ∀ so ar, f' b = ob 4 [.int so, .ref ar] → x + 61 ≤ ar ∧ n ≤ ar ∧ ar < n')
    (nV : ∀ b ar R g, vR = some b → f' b = ob 4 [.int (A' 11 jd), .ref ar] → f' ar = ia G R g → A' 12 jd = nI R → ∀ k, k < R → L' 13 (100 * jd + k) = (g k).toInt64) (nS : okr (A' 11 jd) 0 2 = true) (nl : ∃ R, R ≤ 100 ∧ A' 12 jd = nI R) : shJ G f' n' x A' L' (va_up Os jd vO) (va_up Rs jd vR) := by
  have hb : ∀ d b, Rs d = some b → f' b = f b := fun d b e => h3 b (h.rz d b e).1 (h.rz d b e).2.1
  refine ⟨hos, hrs, fun d hd => ?_, fun d a e => ?_, fun d b e => ?_, fun d d2 b b2 so so2 ar ar2 e e2 eb eb2 z => ?_, fun d b ar R g hd e eb ea eR k hk => ?_, fun d hd => ?_, fun d hd => ?_⟩
  · by_cases c : d = jd
    · rw [c]; exact new
    · have z := (h.sh d hd).at1 (f' := f') (n' := n') (fun a e => h3 a (h.oz d a e).1 (h.oz d a e).2) (fun b so ar e eb => by
        obtain ⟨z1, z2⟩ := (h.rz d b e).2.2 so ar eb
        exact ⟨hb d b e, h3 ar z1 z2⟩) hn
      unfold shD at z ⊢
      rw [up_ne c, up_ne c, hA 8 d (by omega) (by omega) c, hA 9 d (by omega) (by omega) c, hA 10 d (by omega) (by omega) c, hA 11 d (by omega) (by omega) c, hA 12 d (by omega) (by omega) c]
      exact z
  · by_cases c : d = jd
    · rw [c, up_at] at e
      exact nO a e
    · rw [up_ne c] at e
      exact ⟨(h.oz d a e).1, Nat.lt_of_lt_of_le (h.oz d a e).2 hn⟩
  · by_cases c : d = jd
    · rw [c, up_at] at e
      exact ⟨(nR b e).1, (nR b e).2.1, fun so ar eb => ⟨((nR b e).2.2 so ar eb).1, ((nR b e).2.2 so ar eb).2.2⟩⟩
    · rw [up_ne c] at e
      refine ⟨(h.rz d b e).1, Nat.lt_of_lt_of_le (h.rz d b e).2.1 hn, fun so ar eb => ?_⟩
      rw [hb d b e] at eb
      obtain ⟨z1, z2⟩ := (h.rz d b e).2.2 so ar eb
      exact ⟨z1, Nat.lt_of_lt_of_le z2 hn⟩
  · by_cases c : d = jd
    · by_cases c2 : d2 = jd
      · rw [c, c2]
      · exfalso
        rw [c, up_at] at e
        rw [up_ne c2] at e2
        rw [hb d2 b2 e2] at eb2
        have z1 : ar2 < n := ((h.rz d2 b2 e2).2.2 so2 ar2 eb2).2
        have z2 : n ≤ ar := ((nR b e).2.2 so ar eb).2.1
        exact absurd (z ▸ z2) (Nat.not_le.mpr z1)
    · by_cases c2 : d2 = jd
      · exfalso
        rw [c2, up_at] at e2
        rw [up_ne c] at e
        rw [hb d b e] at eb
        have z1 : ar < n := ((h.rz d b e).2.2 so ar eb).2
        have z2 : n ≤ ar2 := ((nR b2 e2).2.2 so2 ar2 eb2).2.1
        exact absurd (z.symm ▸ z2) (Nat.not_le.mpr z1)
      · rw [up_ne c] at e
        rw [up_ne c2] at e2
        rw [hb d b e] at eb
        rw [hb d2 b2 e2] at eb2
        exact h.ra d d2 b b2 so so2 ar ar2 e e2 eb eb2 z
  · by_cases c : d = jd
    · subst c
      rw [up_at] at e
      exact nV b ar R g e eb ea eR k hk
    · rw [up_ne c] at e
      rw [hb d b e, hA 11 d (by omega) (by omega) c] at eb
      rw [hA 12 d (by omega) (by omega) c] at eR
      obtain ⟨z1, z2⟩ := (h.rz d b e).2.2 _ ar eb
      rw [h3 ar z1 z2] at ea
      have hR : R ≤ 100 := by
        have z := h.sh d hd
        rcases z with ⟨w, -, wR⟩ | ⟨w, wR, -⟩ | ⟨w, -, b', ar', R', g', wR, wr, wK⟩
        · rw [wR] at e; cases e
        · rw [wR] at e; cases e
        · rw [wR] at e
          cases e
          have e1 := eb.symm.trans wr.1
          cases e1
          have e2 := ea.symm.trans wr.2.2.2.1
          cases e2
          exact wr.2.2.2.2.2.2
      rw [hL d k hd c (by omega)]
      exact h.va d b ar R g hd e eb ea eR k hk
  · by_cases c : d = jd
    · rw [c]; exact nS
    · rw [hA 11 d (by omega) (by omega) c]; exact h.so d hd
  · by_cases c : d = jd
    · rw [c]; exact nl
    · rw [hA 12 d (by omega) (by omega) c]; exact h.rl d hd
theorem JC.shelf {Os' Rs' : Nat → Option Nat} (h : JC G f n x b q J L j) (h1 : ∀ a, x ≤ a → a < x + 33 → f' a = f a) (h2 : ∀ a k g, x + 61 ≤ a → oneM G f n a k g → f' a = f a) (hn : n ≤ n') (hr : ∀ r, 1 ≤ r → r ≤ 7 → A' r = q.2.2.2 r) (hs : shJ G f' n' x A' L' Os' Rs') : ∃ j', JC G f' n' x b (q.1, q.2.1, q.2.2.1, A') J L' j' := by
  have ext : ∀ {s : Nat} {q0 : SS} {F : Nat → Int32} {W : Nat → Option Nat} {B : Nat → Int32}, x ≤ s → s + 8 ≤ x + 33 → schJ G f n x s q0 F W B → schJ G f' n' x s q0 F W B := fun {s q0 F W B} hs1 hs2 h => ⟨sc_of2 h.hs (fun a z1 z2 => h1 a (by omega) (by omega)), h.f0, h.f1, h.f2, h.be, fun p hp => by
    obtain ⟨a, e, ho⟩ := h.wh p hp
    refine ⟨a, e, ho.at1 ?_ hn⟩
    rcases h.wz p hp a e with rfl | rfl | rfl | z
    · exact h1 _ (by omega) (by omega)
    · exact h1 _ (by omega) (by omega)
    · exact h1 _ (by omega) (by omega)
    · exact h2 a _ _ z ho, h.wz, h.ok, h.tw⟩
  exact ⟨(j.F, j.W, j.B, j.F2, j.W2, j.B2, j.F3, j.W3, j.A3, j.B3, j.V, j.C, j.Mt, j.Wl, j.T, Os', Rs'), h.x0, Nat.le_trans h.xn hn, (h1 x (by omega) (by omega)).trans h.x1, (ext (by omega) (by omega) h.now).rows hr, ext (by omega) (by omega) h.img, sc_of2 h.tri (fun a _ _ => h1 a (by omega) (by omega)), wy_of2 h.way (fun a _ _ => h1 a (by omega) (by omega)), hs⟩
/-- a step that changes the shelves -/
theorem st_shl (h2 : JM G f x b q J L F K) (h3 : f (x + 60) = ja G 1 g) (hc : Ev G y1 d1 mc ms (.ref x :: As) f n Qc) (hr0 : ∀ r, 13 ≤ r → A' r = q.2.2.2 r)
    (hQ : ∀ r f1 n1, Qc r f1 n1 → r = some (.int v) ∧ (∃ j', JC G f1 n1 x b (q.1, q.2.1, q.2.2.1, A') J L' j') ∧ ∀ a, x + 35 ≤ a → a < x + 61 → f1 a = f a)
    (hm : ∀ f1 n1, x + 61 ≤ n1 → G.2.1 ≤ x → JM G f1 x b q J L F K → ∃ Qm, Ev G y2 d2 0 0 (.ref (x + 35) :: As) f1 n1 Qm ∧ ∀ r2 f2 n2, Qm r2 f2 n2 → r2 = some (.int v) ∧ f2 = mo G f1 (x + 35) (upd F 16 0) A' L' K ∧ n2 = n1) : StI G x y1 y2 d1 mc ms d2 As f n := by
  refine ⟨Qc, hc, fun r f1 n1 hq => ?_⟩
  obtain ⟨e1, ⟨j', c1⟩, ha⟩ := hQ r f1 n1 hq
  have m1 : JM G f1 x b q J L F K := h2.ext (fun a z1 z2 => ha a z1 (by omega))
  obtain ⟨Qm, em, hm⟩ := hm f1 n1 c1.xn c1.x0 m1
  refine ⟨⟨_, by rw [← m1.hm]; exact mo_obj⟩, c1.xn, Qm, em, fun r2 f2 n2 hq2 => ?_⟩
  obtain ⟨e2, rfl, rfl⟩ := hm r2 f2 n2 hq2
  exact ⟨v, e1, e2, _, sim_rfl, JJ.mdl c1 ((ha _ (by omega) (by omega)).trans h3) (fun _ _ _ => rfl) rfl h2.m0 h2.m5 h2.m9 (h2.mi.imp id (fun z => ⟨z.1, z.2.1, by rw [hr0 18 (by omega)]; exact z.2.2⟩))⟩
theorem s_keep (h : JJ G f n x) {a0 a1 a2 a3 : Int32} : StI G x mX11_keep mX12_keep 8 1 1 3 [.int a0, .int a1, .int a2, .int a3] f n := by
  obtain ⟨b, q, J, L, j, F, K, h1, h2, g, h3⟩ := h
  have hxn := h1.xn
  have hx0 := h1.x0
  have ec := e_X11_keep h1.xs (d := a0) (what := a1) (k := a2) (fg := a3)
  refine st_shl (A' := kpA q.2.2.2 a0 a1 a2 a3) (L' := L) (v := if kpC a0 a1 a2 a3 then 0 else -1) h2 h3 ec (fun r hr => ?_) (fun r f1 n1 z => ?_) (fun f1 n1 k1 k0 m1 => ?_)
  · unfold kpA
    by_cases c : kpC a0 a1 a2 a3 = true
    · rw [if_pos c, upA_n _ (by omega), upA_n _ (by omega), upA_n _ (by omega)]
    · rw [if_neg c]
  · rcases z with ⟨c, rfl, rfl, rfl⟩ | ⟨c, rfl, jd, hjd, rfl, z⟩
    · rw [if_neg c]
      refine ⟨rfl, ⟨j, ?_⟩, fun _ _ _ => rfl⟩
      unfold kpA
      rw [if_neg c]
      exact h1
    · rw [if_pos c]
      have hk : ∀ r d, d ≠ jd → kpA q.2.2.2 (nI jd) a1 a2 a3 r d = q.2.2.2 r d := fun r d hd => by
        unfold kpA
        rw [if_pos c, nI_clamp (by omega)]
        unfold upA
        by_cases e8 : r = 8 <;> by_cases e9 : r = 9 <;> by_cases e10 : r = 10 <;> simp [*]
      have hk2 : ∀ r, r ≠ 8 → r ≠ 9 → r ≠ 10 → kpA q.2.2.2 (nI jd) a1 a2 a3 r = q.2.2.2 r := fun r e8 e9 e10 => by
        unfold kpA
        rw [if_pos c, upA_n _ e10, upA_n _ e9, upA_n _ e8]
      have k8 : kpA q.2.2.2 (nI jd) a1 a2 a3 8 jd = a1 := by
        unfold kpA
        rw [if_pos c, nI_clamp (by omega)]
        simp [upA]
      have k9 : kpA q.2.2.2 (nI jd) a1 a2 a3 9 jd = if a1 = 1 then a2 else 0 := by
        unfold kpA
        rw [if_pos c, nI_clamp (by omega)]
        simp [upA]
      have k10 : kpA q.2.2.2 (nI jd) a1 a2 a3 10 jd = if a1 = 1 then a3 else 0 := by
        unfold kpA
        rw [if_pos c, nI_clamp (by omega)]
        simp [upA]
      rcases z with ⟨rfl, rfl, rfl⟩ | ⟨rfl, kk, gg, hkk, hgg, rfl, rfl, rfl, rfl⟩
      · have hf : ∀ a, a ≠ x + 33 → a ≠ x + 34 → va_up (va_up f (x + 33) (oa G 2 8 (va_up j.Os jd none))) (x + 34) (oa G 3 8 (va_up j.Rs jd none)) a = f a := fun a z1 z2 => (vup_ne z2).trans (vup_ne z1)
        refine ⟨rfl, h1.shelf (fun a _ _ => hf a (by omega) (by omega)) (fun a _ _ z _ => hf a (by omega) (by omega)) (Nat.le_refl _) (fun r r1 r2 => hk2 r (by omega) (by omega) (by omega)) (h1.shl.at1 hjd ((vup_ne (by omega)).trans vup_at) vup_at (fun a z _ => hf a (by omega) (by omega)) (Nat.le_refl _) (fun r d _ _ hd => hk r d hd) (fun _ _ _ _ _ => rfl) (Or.inl ⟨k8, up_at, up_at⟩) (fun a e => nomatch e) (fun b e => nomatch e) (fun b ar R g e => nomatch e) ?_ ?_), fun a _ _ => hf a (by omega) (by omega)⟩
        · rw [hk2 11 (by decide) (by decide) (by decide)]
          exact h1.shl.so jd (by omega)
        · rw [hk2 12 (by decide) (by decide) (by decide)]
          exact h1.shl.rl jd (by omega)
      · have hf : ∀ a, a ≠ x + 33 → a ≠ x + 34 → a ≠ n → va_up (va_up (va_up f n (ob (oneCi kk) [.int (nI gg)])) (x + 33) (oa G 2 8 (va_up j.Os jd (some n)))) (x + 34) (oa G 3 8 (va_up j.Rs jd none)) a = f a := fun a z1 z2 z3 => (vup_ne z2).trans ((vup_ne z1).trans (vup_ne z3))
        refine ⟨rfl, h1.shelf (fun a _ _ => hf a (by omega) (by omega) (by omega)) (fun a _ _ z ho => hf a (by omega) (by omega) (by have := ho.lt; omega)) (by omega) (fun r r1 r2 => hk2 r (by omega) (by omega) (by omega)) (h1.shl.at1 hjd ((vup_ne (by omega)).trans vup_at) vup_at (fun a z _ => hf a (by omega) (by omega) (by omega)) (by omega) (fun r d _ _ hd => hk r d hd) (fun _ _ _ _ _ => rfl) (Or.inr (Or.inl ⟨k8, up_at, n, up_at, kk, gg, hkk, hgg, k9, k10, (vup_ne (by omega)).trans ((vup_ne (by omega)).trans vup_at), by omega, by omega⟩)) (fun a e => by cases e; omega) (fun b e => nomatch e) (fun b ar R g e => nomatch e) ?_ ?_), fun a _ _ => hf a (by omega) (by omega) (by omega)⟩
        · rw [hk2 11 (by decide) (by decide) (by decide)]
          exact h1.shl.so jd (by omega)
        · rw [hk2 12 (by decide) (by decide) (by decide)]
          exact h1.shl.rl jd (by omega)
  · have em := e_X12_keep (G := G) (n := n1) (m0 := f1) (q := x + 35) (F := F) (A := q.2.2.2) (L := L) (K := K) (by omega) (by omega) (d := a0) (what := a1) (k := a2) (fg := a3)
    rw [m1.hm] at em
    exact ⟨_, em, fun r2 f2 n2 z => z⟩
theorem s_row (h : JJ G f n x) {a0 a1 a2 : Int32} : StI G x mX11_row mX12_row 8 2 102 3 [.int a0, .int a1, .int a2] f n := by
  obtain ⟨b, q, J, L, j, F, K, h1, h2, g, h3⟩ := h
  have hxn := h1.xn
  have hx0 := h1.x0
  have ec := e_X11_row h1.xs (d := a0) (so := a1) (x1 := a2)
  refine st_shl (A' := rwA q.2.2.2 a0 a1 a2) (L' := rwL L a0 a1 a2) (v := rwR a0 a1 a2) h2 h3 ec (fun r hr => ?_) (fun r f1 n1 z => ?_) (fun f1 n1 k1 k0 m1 => ?_)
  · unfold rwA
    by_cases c : rwC a0 a1 a2 = true ∧ ¬ a2 < 0
    · rw [if_pos c, upA_n _ (by omega), upA_n _ (by omega), upA_n _ (by omega)]
    · rw [if_neg c]
  · unfold rwR
    rcases z with ⟨c, rfl, rfl, rfl⟩ | ⟨c, c2, rfl, rfl, rfl⟩ | ⟨c, rfl, jd, R, hjd, hR, rfl, rfl, rfl, rfl⟩
    · rw [if_neg c]
      refine ⟨rfl, ⟨j, ?_⟩, fun _ _ _ => rfl⟩
      unfold rwA rwL
      rw [if_neg (fun z => c z.1), if_neg (fun z => c z.1)]
      exact h1
    · rw [if_pos c, if_pos c2]
      refine ⟨rfl, ⟨j, ?_⟩, fun _ _ _ => rfl⟩
      unfold rwA rwL
      rw [if_neg (fun z => z.2 c2), if_neg (fun z => z.2 c2)]
      exact h1
    · have cR : ¬ nI R < 0 := nI_pos (by omega)
      rw [if_pos c, if_neg cR]
      have e0 : rwA q.2.2.2 (nI jd) a1 (nI R) = upA (upA (upA q.2.2.2 8 jd 2) 11 jd a1) 12 jd (nI R) := by
        unfold rwA
        rw [if_pos ⟨c, cR⟩, nI_clamp (by omega)]
      have eL : rwL L (nI jd) a1 (nI R) = zrL L jd 100 := by
        unfold rwL
        rw [if_pos ⟨c, cR⟩, nI_clamp (by omega)]
      have hk : ∀ r d, d ≠ jd → rwA q.2.2.2 (nI jd) a1 (nI R) r d = q.2.2.2 r d := fun r d hd => by
        rw [e0]
        unfold upA
        by_cases e8 : r = 8 <;> by_cases e9 : r = 11 <;> by_cases e10 : r = 12 <;> simp [*]
      have hk2 : ∀ r, r < 8 → rwA q.2.2.2 (nI jd) a1 (nI R) r = q.2.2.2 r := fun r e8 => by
        rw [e0, upA_n _ (by omega), upA_n _ (by omega), upA_n _ (by omega)]
      have k8 : rwA q.2.2.2 (nI jd) a1 (nI R) 8 jd = 2 := by
        rw [e0]
        simp [upA]
      have k11 : rwA q.2.2.2 (nI jd) a1 (nI R) 11 jd = a1 := by
        rw [e0]
        simp [upA]
      have k12 : rwA q.2.2.2 (nI jd) a1 (nI R) 12 jd = nI R := by
        rw [e0]
        simp [upA]
      have hf : ∀ a, a ≠ x + 33 → a ≠ x + 34 → a < n → va_up (va_up (va_up (va_up f (x + 33) (oa G 2 8 (va_up j.Os jd none))) n (ob 4 [.int a1, .ref (n + 1)])) (n + 1) (ia G R (fun _ => 0))) (x + 34) (oa G 3 8 (va_up j.Rs jd (some n))) a = f a := fun a z1 z2 z3 => (vup_ne z2).trans ((vup_ne (by omega)).trans ((vup_ne (by omega)).trans (vup_ne z1)))
      have hfn : va_up (va_up (va_up (va_up f (x + 33) (oa G 2 8 (va_up j.Os jd none))) n (ob 4 [.int a1, .ref (n + 1)])) (n + 1) (ia G R (fun _ => 0))) (x + 34) (oa G 3 8 (va_up j.Rs jd (some n))) n = ob 4 [.int a1, .ref (n + 1)] := (vup_ne (by omega)).trans ((vup_ne (by omega)).trans vup_at)
      have hfm : va_up (va_up (va_up (va_up f (x + 33) (oa G 2 8 (va_up j.Os jd none))) n (ob 4 [.int a1, .ref (n + 1)])) (n + 1) (ia G R (fun _ => 0))) (x + 34) (oa G 3 8 (va_up j.Rs jd (some n))) (n + 1) = ia G R (fun _ => 0) := (vup_ne (by omega)).trans vup_at
      refine ⟨rfl, h1.shelf (fun a _ _ => hf a (by omega) (by omega) (by omega)) (fun a _ _ z ho => hf a (by omega) (by omega) ho.lt.2) (by omega) (fun r r1 r2 => hk2 r (by omega)) (h1.shl.at1 hjd ((vup_ne (by omega)).trans ((vup_ne (by omega)).trans ((vup_ne (by omega)).trans vup_at))) vup_at (fun a z z2 => hf a (by omega) (by omega) z2) (by omega) (fun r d _ _ hd => hk r d hd) (fun d k hd hne hk => ?_) (Or.inr (Or.inr ⟨k8, up_at, n, n + 1, R, fun _ => 0, up_at, ⟨by rw [k11]; exact hfn, by omega, by omega, hfm, by omega, by omega, hR⟩, k12⟩)) (fun a e => nomatch e) (fun b e => ?_) (fun b ar R' g e eb ea eR k hk => ?_) ?_ ⟨R, hR, k12⟩), fun a _ _ => hf a (by omega) (by omega) (by omega)⟩
      · rw [eL]
        unfold zrL
        rw [if_pos rfl, if_neg (by omega)]
      · cases e
        refine ⟨by omega, by omega, fun so ar eb => ?_⟩
        obtain ⟨-, rfl⟩ := ob4_i (hfn.symm.trans eb)
        exact ⟨by omega, by omega, by show n + 1 < n + 2; omega⟩
      · cases e
        obtain ⟨-, rfl⟩ := ob4_i (hfn.symm.trans eb)
        obtain ⟨rfl, rfl⟩ := ia_i (hfm.symm.trans ea)
        rw [eL]
        unfold zrL
        rw [if_pos rfl, if_pos (by omega)]
        rfl
      · rw [k11]
        exact (of_decide_eq_true c).2.1
  · have em := e_X12_row (G := G) (n := n1) (m0 := f1) (q := x + 35) (F := F) (A := q.2.2.2) (L := L) (K := K) (by omega) (by omega) (d := a0) (s := a1) (x := a2)
    rw [m1.hm] at em
    exact ⟨_, em, fun r2 f2 n2 z => z⟩
end ZL
