section ZJ
variable {G : GX} {f f1 : Mem} {n n1 x : Nat} {b : Int32} {q q' J : SS} {L : Nat → Nat → Int64} {j : JD} {F : Nat → Int32} {K : Option Nat} {g : Nat → Int64}
theorem pcA_n {N : Nat} {A : Nat → Nat → Int32} {k fg h : Int32} {r : Nat} (hr : 5 ≤ r) : pcA N A k fg h r = A r := by
  unfold pcA
  rw [upA_n _ (by omega), upA_n _ (by omega), upA_n _ (by omega), upA_n _ (by omega)]
theorem wk_1 {H : Nat → Int32} {jd : Nat} (hjd : jd ≤ 7) (e : H jd = 1) : ¬ wkS H 1 (nI jd) < 0 := by
  unfold wkS
  have hd : okr (nI jd) 0 7 = true := nI_okr (k := 7) hjd (by omega)
  simp [hd, nI_clamp (show jd < 2 ^ 31 by omega), e]
theorem jn_ok {A : Nat → Nat → Int32} {d h : Int32} (hc : ¬ jnW A d h < 0) : okr h 0 5 = true := by
  unfold jnW at hc
  by_cases c : okr h 0 5 = true
  · exact c
  · rw [if_neg c] at hc
    exact absurd (by decide) hc
theorem pc_iff {N kk : Nat} {h : Int32} (hk : kk < 8) (ho : okr h 0 5 = true) : pcC N (nI kk) h = true ↔ N < 8 := by
  obtain ⟨e, he, rfl⟩ := okr_nI (k := 5) rfl (by omega) ho
  unfold pcC
  rw [decide_eq_true_iff]
  exact ⟨fun z => z.2.2, fun z => ⟨(nI_ltl (b := 8) (by omega) (by omega)).mpr hk, (nI_ltl (b := 6) (by omega) (by omega)).mpr (by omega), z⟩⟩
theorem s_joins (h : JJ G f n x) {a0 a1 : Int32} : StI G x mX11_joins mX12_joins 8 0 0 3 [.int a0, .int a1] f n := by
  obtain ⟨b, q, J, L, j, F, K, h1, h2, g, h3⟩ := h
  have ec := e_X11_joins (m0 := f) (F := j.F) (W := j.W) (A := q.2.2.2) (B := j.B) (by rw [h1.now.hs]; exact h1.xs) (by rw [h1.now.hs]; exact h1.shl.sh) (by rw [h1.now.hs]; exact h1.so (Or.inl rfl)) h1.q1 h1.k1 h1.now.f0 h1.now.ok.1 h1.now.be (h1.now.who (Or.inl rfl)) (d := a0) (h := a1)
  rw [h1.now.hs] at ec
  by_cases cc : jnC q.1 q.2.2.2 a0 a1 = true
  · obtain ⟨cw, cp⟩ := of_decide_eq_true cc
    have ho := jn_ok cw
    refine st_now (q' := (q.1 + 1, q.2.1, q.2.2.1, pcA q.1 q.2.2.2 (q.2.2.2 9 a0.toNatClampNeg) (q.2.2.2 10 a0.toNatClampNeg) a1)) h2 h3 ec (v := nI q.1) (fun r f1 n1 z => ?_) (fun f1 n1 k1 k0 m1 => ?_)
    · rcases z with ⟨z1, -⟩ | ⟨-, jd, v, hjd, rfl, e8, eO, rfl, z⟩
      · exact absurd z1 cw
      · rw [nI_clamp (by omega)] at cp ⊢
        rcases h1.shl.sh jd (by omega) with ⟨w8, -⟩ | ⟨w8, eR, a, eO2, hv⟩ | ⟨w8, -⟩
        · rw [w8] at e8; exact absurd e8 (by decide)
        · rw [eO] at eO2
          cases eO2
          have hvz := (h1.shl.oz jd v eO).1
          have hv2 := hv
          obtain ⟨kk, gg, hk, hg, ek, eg, -⟩ := hv2
          rw [ek] at cp
          have hN8 := (pc_iff hk ho).mp cp
          rcases z with ⟨-, -, rfl, B', hB, rfl⟩ | ⟨z, -⟩
          · refine ⟨rfl, ⟨_, h1.newNow (F' := upd j.F 0 (nI (q.1 + 1))) rfl h1.now.f1 h1.now.f2 hB (fun p hp => ?_) (h1.now.wz.up (Or.inr (Or.inr (Or.inr hvz)))) ?_ (two2_p h1.now.tw) (fun r _ _ => pcA_n (by omega))⟩, sc_q⟩
            · obtain ⟨a, ea, ho1, -⟩ := pc_who (h := a1) (h1.now.who (Or.inl rfl)) hv (by omega) p hp
              exact ⟨a, ea, ho1⟩
            · obtain ⟨e, he, rfl⟩ := okr_nI (k := 5) rfl (by omega) ho
              rw [ek, eg]
              exact sch_p h1.now.ok cp (by omega) hg (by omega)
          · exact absurd ⟨ho, hN8⟩ z
        · rw [w8] at e8; exact absurd e8 (by decide)
    · have em := e_X12_joins (G := G) (n := n1) (m0 := f1) (q := x + 35) (F := F) (A := q.2.2.2) (L := L) (K := K) (by omega) (by omega) m1.m0 h1.now.ok.1 (d := a0) (h := a1)
      rw [m1.hm, if_pos cc, if_pos cc] at em
      refine ⟨_, em, fun r2 f2 n2 z => ⟨z.1.trans ?_, z.2.2, _, _, _, z.2.1, rfl, m1.m5, m1.m9, rfl, fun _ _ _ => rfl, pcA_n (by decide)⟩⟩
      unfold jnR
      rw [if_neg cw, if_pos cp]
  · refine st_keep h1 h2 h3 ec (v := jnR q.1 q.2.2.2 a0 a1) (fun r f1 n1 z => ?_) (fun f1 n1 j1 c1 m1 => ?_)
    · have hs := h1.now.hs
      unfold jnR
      rcases z with ⟨z1, rfl, z2, rfl⟩ | ⟨cw, jd, v, hjd, rfl, e8, eO, rfl, z⟩
      · rw [if_pos z1]
        exact kc_0 h1 ⟨rfl, z2.trans hs, rfl⟩
      · have ho := jn_ok cw
        have hc : ¬ pcC q.1 (q.2.2.2 9 (nI jd).toNatClampNeg) a1 = true := fun z => cc (decide_eq_true ⟨cw, z⟩)
        rw [if_neg cw, if_neg hc]
        rw [nI_clamp (by omega)] at hc
        rcases h1.shl.sh jd (by omega) with ⟨w8, -⟩ | ⟨w8, eR, a, eO2, kk, gg, hk, hg, ek, eg, -⟩ | ⟨w8, -⟩
        · rw [w8] at e8; exact absurd e8 (by decide)
        · rw [ek, pc_iff hk ho] at hc
          rcases z with ⟨-, z, -⟩ | ⟨-, rfl, z2⟩
          · exact absurd z hc
          · rw [if_pos ho]
            exact kc_0 h1 ⟨rfl, z2.trans hs, rfl⟩
        · rw [w8] at e8; exact absurd e8 (by decide)
    · have k0 := c1.x0
      have k1 := c1.xn
      have em := e_X12_joins (G := G) (n := n1) (m0 := f1) (q := x + 35) (F := F) (A := q.2.2.2) (L := L) (K := K) (by omega) (by omega) m1.m0 h1.now.ok.1 (d := a0) (h := a1)
      rw [m1.hm, if_neg cc, if_neg cc] at em
      exact ⟨_, em, fun r2 f2 n2 z => ⟨z.1, kpM.one z.2.1 z.2.2 rfl rfl rfl rfl⟩⟩
/-- the school's school -/
theorem JC.runs {t n1 : Nat} {f1 : Mem} (h : JC G f n x b q J L j) (hF : scF G f (x + 1) (x + 19) n n1 f1) {q'' : SS} {F' : Nat → Int32} {W' : Nat → Option Nat} {B' : Nat → Int32} (hs : sc G f1 (x + 1) F' W' q''.2.2.2 B' = f1) (f0 : F' 0 = nI q''.1) (f1' : F' 1 = nI q''.2.1) (f2 : F' 2 = q''.2.2.1) (be : ∀ a b, a < q''.1 → b < q''.1 → B' (a * 8 + b) = brS q''.2.2.2 a b) (wh : ∀ p, p < 8 → ∃ a, W' p = some a ∧ oneM G f1 n1 a (q''.2.2.2 1 p) (q''.2.2.2 2 p)) (wz : wP (apZ x) W') (ok : schOK q'') (tw : two2 q''.1 (q''.2.2.2 4)) (hr : ∀ r, 8 ≤ r → r ≤ 12 → q''.2.2.2 r = q.2.2.2 r) : ∃ j', JC G f1 n1 x b q'' J L j' := by
  obtain ⟨hn, h1, F4, W4, A4, B4, ht⟩ := hF
  have hxn := h.xn
  have h1 : ∀ a, a < n → (a < x + 1 ∨ (x + 9 ≤ a ∧ a < x + 19) ∨ x + 27 ≤ a) → f1 a = f a := fun a z1 z2 => h1 a z1 (by omega) (by omega)
  have hz : ∀ a, apZ x a → a < n → f1 a = f a := fun a z hl => h1 a hl (by rcases z with rfl | rfl | rfl | z <;> omega)
  exact ⟨(F', W', B', j.F2, j.W2, j.B2, F4, W4, A4, B4, j.V, j.C, j.Mt, j.Wl, j.T, j.Os, j.Rs), h.x0, Nat.le_trans h.xn hn, (h1 x (by omega) (by omega)).trans h.x1, ⟨hs, f0, f1', f2, be, wh, wz, ok, tw⟩, h.img.ext (fun a _ _ => h1 a (by omega) (by omega)) hz hn, ht, wy_of2 h.way (fun a _ _ => h1 a (by omega) (by omega)), (h.shl.ext (h1 _ (by omega) (by omega)) (h1 _ (by omega) (by omega)) (fun a z1 z2 => h1 a z2 (by omega)) hn).rows hr rfl⟩
theorem fxR_rfl {A : Nat → Nat → Int32} : fxR A A := ⟨fun _ _ => rfl, fun _ _ _ _ => rfl, fun _ _ _ _ => rfl⟩
theorem scV_shS (h : JC G f n x b q J L j) {d : Int32} {v : Int32 × Option SS} (hv : scV G f n q.1 q.2.1 q.2.2.1 q.2.2.2 j.Rs d v) : v.1 = (shS q.1 q.2.1 q.2.2.1 q.2.2.2 L d).1 ∧ v.2.getD q = (shS q.1 q.2.1 q.2.2.1 q.2.2.2 L d).2 ∧ ∀ q'', v.2 = some q'' → schOK q'' ∧ two2 q''.1 (q''.2.2.2 4) ∧ fxR q.2.2.2 q''.2.2.2 := by
  unfold shS
  rcases hv with ⟨z1, rfl⟩ | ⟨jd, b1, ar, R, g1, hjd, rfl, e8, eR, hr, eK, z⟩
  · rw [if_pos z1]
    exact ⟨rfl, rfl, fun q'' e => nomatch e⟩
  · have hR := hr.2.2.2.2.2.2
    rw [if_neg (wk_2n hjd e8), nI_clamp (show jd < 2 ^ 31 by omega)]
    rcases z with ⟨z1, rfl⟩ | ⟨z1, rfl⟩
    · rw [if_pos z1]
      exact ⟨rfl, rfl, fun q'' e => nomatch e⟩
    · rw [if_neg (fun z => z z1), eK, nI_clamp (show R < 2 ^ 31 by omega), ← tx_schV (tx_row (h.row hjd eR hr eK) hR) (by omega)]
      refine ⟨rfl, rfl, fun q'' e => ?_⟩
      exact schV_ok (v := (schV (ccR g1 R) R q).1) h.now.ok h.now.tw fxR_rfl (Prod.ext rfl e)
theorem s_school (h : JJ G f n x) {a0 : Int32} : StI G x mX11_school mX12_school 9 34 34 5 [.int a0] f n := by
  obtain ⟨b, q, J, L, j, F, K, h1, h2, g, h3⟩ := h
  have ec := e_X11_school (f := f) h1.xs h1.shl.sh h1.now.hs h1.tri h1.q1 h1.k1 h1.q3 h1.k3 (by omega) (by omega) h1.ts (by rw [h1.now.f2]; exact h1.now.ok) h1.z3 (h1.so (Or.inr (Or.inr rfl))) (d := a0)
  refine ⟨_, ec, fun r f1 n1 hq => ?_⟩
  obtain ⟨hF, v, rfl, hv, hm⟩ := hq
  rw [h1.now.f2] at hv
  obtain ⟨e1, e2, e3⟩ := scV_shS h1 hv
  have ha : ∀ a, x + 35 ≤ a → a < x + 61 → f1 a = f a := fun a z1 z2 => hF.2.1 a (by have := h1.xn; omega) (by omega) (by omega)
  have hfx : fxR q.2.2.2 (v.2.getD q).2.2.2 := by
    cases hv2 : v.2 with
    | none => exact fxR_rfl
    | some q'' => exact (e3 q'' hv2).2.2
  obtain ⟨j', c1⟩ : ∃ j', JC G f1 n1 x b (v.2.getD q) J L j' := by
    cases hv2 : v.2 with
    | none =>
      rw [hv2] at hm
      have hn := hF.1
      exact h1.runs (t := 0) hF hm h1.now.f0 h1.now.f1 h1.now.f2 h1.now.be (fun p hp => by
        obtain ⟨a, ea, ho⟩ := h1.now.wh p hp
        have hz := h1.now.wz p hp a ea
        exact ⟨a, ea, ho.at1 (hF.2.1 a ho.lt.2 (by rcases hz with rfl | rfl | rfl | hz <;> omega) (by rcases hz with rfl | rfl | rfl | hz <;> omega)) hn⟩) h1.now.wz h1.now.ok h1.now.tw (fun _ _ _ => rfl)
    | some q'' =>
      rw [hv2] at hm
      obtain ⟨F', W', B', hs, f0, f1', f2, be, wh, wz⟩ := hm
      obtain ⟨k1, k2, k3⟩ := e3 q'' hv2
      exact h1.runs (t := 0) hF hs f0 f1' f2 be wh (wz (apZ x) (fun z hz => Or.inr (Or.inr (Or.inr (Nat.le_trans h1.xn hz)))) h1.now.wz) k1 k2 (fun r h8 _ => k3.1 r (Or.inr h8))
  have m1 : JM G f1 x b q J L F K := h2.ext (fun a z1 z2 => ha a z1 (by omega))
  have k0 := c1.x0
  have k1 := c1.xn
  have em := e_X12_school (G := G) (n := n1) (m0 := f1) (q := x + 35) (F := F) (A := q.2.2.2) (L := L) (K := K) (by omega) (by omega) m1.m0 h1.now.ok.1 m1.m5 h1.now.ok.2.1 m1.m9 h1.shl.rl h1.now.ok (d := a0)
  rw [m1.hm] at em
  refine ⟨⟨_, by rw [← m1.hm]; exact mo_obj⟩, c1.xn, _, em, fun r2 f2 n2 hq2 => ?_⟩
  obtain ⟨w1, ⟨F', A', K', ⟨g0, g5, g9, g26, gr, gs⟩, rfl⟩, rfl⟩ := hq2
  rw [← e2] at g0 g5 g9 gr
  refine ⟨v.1, rfl, w1.trans (by rw [e1]), _, sim_rfl, JJ.mdl c1 ((ha _ (by omega) (by omega)).trans h3) (fun r r1 r2 => ?_) rfl g0 g5 g9 (h2.mi.imp (fun z => ⟨z.1, g26.trans z.2⟩) (fun z => ⟨z.1, g26.trans z.2.1, by rw [gs 18 (Or.inr rfl)]; exact z.2.2⟩))⟩
  by_cases c8 : r < 8
  · exact gr r c8
  · exact (gs r (Or.inl ⟨by omega, r2⟩)).trans (hfx.1 r (Or.inr (by omega))).symm
end ZJ
