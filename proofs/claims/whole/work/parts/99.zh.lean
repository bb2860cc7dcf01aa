section ZH
variable {G : GX} {f : Mem} {n x : Nat} {b : Int32} {q q' J : SS} {L : Nat → Nat → Int64} {j : JD} {F : Nat → Int32} {K : Option Nat} {g : Nat → Int64} {y1 y2 : MD} {d1 mc ms d2 : Nat} {As : List Value} {v : Int32} {Qc : RQ}
theorem st_now (h2 : JM G f x b q J L F K) (h3 : f (x + 60) = ja G 1 g) (hc : Ev G y1 d1 mc ms (.ref x :: As) f n Qc)
    (hQ : ∀ r f1 n1, Qc r f1 n1 → r = some (.int v) ∧ (∃ j', JC G f1 n1 x b q' J L j') ∧ ∀ a, x + 35 ≤ a → a < x + 61 → f1 a = f a)
    (hm : ∀ f1 n1, x + 61 ≤ n1 → G.2.1 ≤ x → JM G f1 x b q J L F K → ∃ Qm, Ev G y2 d2 0 0 (.ref (x + 35) :: As) f1 n1 Qm ∧ ∀ r2 f2 n2, Qm r2 f2 n2 → r2 = some (.int v) ∧ n2 = n1 ∧ ∃ F' A' K', f2 = mo G f1 (x + 35) F' A' L K' ∧ F' 0 = nI q'.1 ∧ F' 5 = nI q'.2.1 ∧ F' 9 = q'.2.2.1 ∧ F' 26 = F 26 ∧ (∀ r, 1 ≤ r → r ≤ 12 → A' r = q'.2.2.2 r) ∧ A' 18 = q.2.2.2 18) : StI G x y1 y2 d1 mc ms d2 As f n := by
  refine ⟨Qc, hc, fun r f1 n1 hq => ?_⟩
  obtain ⟨e1, ⟨j', c1⟩, ha⟩ := hQ r f1 n1 hq
  have m1 : JM G f1 x b q J L F K := h2.ext (fun a z1 z2 => ha a z1 (by omega))
  obtain ⟨Qm, em, hm⟩ := hm f1 n1 c1.xn c1.x0 m1
  refine ⟨⟨_, by rw [← m1.hm]; exact mo_obj⟩, c1.xn, Qm, em, fun r2 f2 n2 hq2 => ?_⟩
  obtain ⟨e2, rfl, F', A', K', rfl, w0, w5, w9, w26, wr, w18⟩ := hm r2 f2 n2 hq2
  exact ⟨v, e1, e2, _, sim_rfl, JJ.mdl c1 ((ha _ (by omega) (by omega)).trans h3) wr rfl w0 w5 w9 (h2.mi.imp (fun z => ⟨z.1, w26.trans z.2⟩) (fun z => ⟨z.1, w26.trans z.2.1, by rw [w18]; exact z.2.2⟩))⟩
theorem JC.newSame {F' : Nat → Int32} {A' : Nat → Nat → Int32} {M : Nat} {P : Int32} (h : JC G f n x b q J L j) (f0 : F' 0 = nI q.1) (f1 : F' 1 = nI M) (f2 : F' 2 = P) (e1 : A' 1 = q.2.2.2 1) (e2 : A' 2 = q.2.2.2 2) (ok : schOK (q.1, M, P, A')) (tw : two2 q.1 (A' 4)) (hr : ∀ r, 8 ≤ r → r ≤ 12 → A' r = q.2.2.2 r) : ∃ j', JC G (sc G f (x + 1) F' j.W A' j.B) n x b (q.1, M, P, A') J L j' := by
  refine ⟨_, h.newNow f0 f1 f2 (fun a b ha hb => ?_) (fun p hp => ?_) h.now.wz ok tw hr⟩
  · rw [h.now.be a b ha hb]
    unfold brS
    rw [e1, e2]
  · rw [e1, e2]
    exact h.now.wh p hp
theorem sc_q {F' : Nat → Int32} {W' : Nat → Option Nat} {A' : Nat → Nat → Int32} {B' : Nat → Int32} : ∀ a, x + 35 ≤ a → a < x + 61 → sc G f (x + 1) F' W' A' B' a = f a := fun a _ _ => sc_out (by omega)
theorem lcA_n {M : Nat} {A : Nat → Nat → Int32} {far ab : Int32} {r : Nat} (h : r < 5 ∨ 8 ≤ r) : lcA M A far ab r = A r := by
  unfold lcA
  rw [upA_n _ (by omega), upA_n _ (by omega), upA_n _ (by omega)]
theorem sch_l2 {s : SS} {far ab : Int32} (h : schOK s) (hc : stC s.2.1 far ab = true) : schOK (s.1, s.2.1 + 1, s.2.2.1, lcA s.2.1 s.2.2.2 far ab) := by
  obtain ⟨c1, c2, c3⟩ := of_decide_eq_true hc
  obtain ⟨a, ha, rfl⟩ := okr_nI (k := 9) rfl (by omega) c1
  obtain ⟨b, hb, rfl⟩ := okr_nI (k := 1) rfl (by omega) c2
  exact sch_l h c3 (by omega) (by omega)
theorem upA_4n {A : Nat → Nat → Int32} {c i r : Nat} {v : Int32} (h : r ≠ c) : upA A c i v r = A r := upA_n _ h _ _
theorem sch_lo2 {s : SS} {l : Int32} (h : schOK s) (hc : okp s.2.1 l = true ∧ ¬ s.2.2.2 7 l.toNatClampNeg = 0) : schOK (s.1, s.2.1, s.2.2.1, upA s.2.2.2 7 l.toNatClampNeg (s.2.2.2 7 l.toNatClampNeg - 1)) := by
  obtain ⟨c1, c2⟩ := hc
  obtain ⟨a, ha, rfl⟩ := okp_nI c1 (by have := h.2.1; omega)
  rw [nI_clamp (by have := h.2.1; omega)] at c2 ⊢
  refine sch_lo h ha ?_
  obtain ⟨k, hk, e⟩ := h.2.2.2.1 a ha
  rw [e] at c2 ⊢
  exact (nI_ltl (a := 0) (by omega) (by omega)).mpr (Nat.pos_of_ne_zero (fun z => c2 (by rw [z]; rfl)))
theorem sch_sw2 {s : SS} {a z : Int32} (h : schOK s) (ht : two2 s.1 (s.2.2.2 4)) (hc : twoS s.1 a z = true) : schOK (s.1, s.2.1, s.2.2.1, swS s.2.2.2 a.toNatClampNeg z.toNatClampNeg) ∧ two2 s.1 (swS s.2.2.2 a.toNatClampNeg z.toNatClampNeg 4) := by
  obtain ⟨c1, c2, c3⟩ := of_decide_eq_true hc
  have hN := h.1
  obtain ⟨ja, ha, rfl⟩ := okp_nI c1 (by omega)
  obtain ⟨jz, hz, rfl⟩ := okp_nI c2 (by omega)
  rw [nI_clamp (by omega), nI_clamp (by omega)]
  exact ⟨sch_sw h ha hz, two2_sw ht ha hz⟩
theorem s_stands (h : JJ G f n x) {a0 a1 : Int32} : StI G x mX11_stands mX12_stands 7 0 0 3 [.int a0, .int a1] f n := by
  obtain ⟨b, q, J, L, j, F, K, h1, h2, g, h3⟩ := h
  have ec := e_X11_stands (m0 := f) (F := j.F) (W := j.W) (A := q.2.2.2) (B := j.B) h1.xo h1.q1 h1.k1 h1.now.f1 h1.now.ok.2.1 (far := a0) (ab := a1)
  rw [h1.now.hs] at ec
  by_cases cc : stC q.2.1 a0 a1 = true
  · rw [if_pos cc, if_pos cc] at ec
    refine st_now (q' := (q.1, q.2.1 + 1, q.2.2.1, lcA q.2.1 q.2.2.2 a0 a1)) h2 h3 ec (v := (stR q.2.1 a0 a1)) (fun r f1 n1 z => ?_) (fun f1 n1 k1 k0 m1 => ?_)
    · obtain ⟨z1, rfl, rfl⟩ := z
      exact ⟨z1, h1.newSame (F' := upd j.F 1 (nI (q.2.1 + 1))) h1.now.f0 rfl h1.now.f2 (lcA_n (by omega)) (lcA_n (by omega)) (sch_l2 h1.now.ok cc) (by rw [lcA_n (by omega)]; exact h1.now.tw) (fun r hr1 hr2 => lcA_n (by omega)), sc_q⟩
    · have em := e_X12_stands (G := G) (n := n1) (m0 := f1) (q := x + 35) (F := F) (A := q.2.2.2) (L := L) (K := K) (by omega) (by omega) m1.m5 h1.now.ok.2.1 (far := a0) (ab := a1)
      rw [m1.hm, if_pos cc, if_pos cc] at em
      refine ⟨_, em, fun r2 f2 n2 z => ⟨z.1, z.2.2, _, _, _, z.2.1, m1.m0, rfl, m1.m9, rfl, fun _ _ _ => rfl, lcA_n (by omega)⟩⟩
  · rw [if_neg cc, if_neg cc] at ec
    refine st_keep h1 h2 h3 ec (v := (stR q.2.1 a0 a1)) (fun r f1 n1 z => ?_) (fun f1 n1 j1 c1 m1 => ?_)
    · obtain ⟨z1, z2, rfl⟩ := z
      rw [h1.now.hs] at z2
      exact kc_0 h1 ⟨z1, z2, rfl⟩
    · have k0 := c1.x0
      have k1 := c1.xn
      have em := e_X12_stands (G := G) (n := n1) (m0 := f1) (q := x + 35) (F := F) (A := q.2.2.2) (L := L) (K := K) (by omega) (by omega) m1.m5 h1.now.ok.2.1 (far := a0) (ab := a1)
      rw [m1.hm, if_neg cc, if_neg cc] at em
      exact ⟨_, em, fun r2 f2 n2 z => ⟨z.1, kpM.one z.2.1 z.2.2 rfl rfl rfl rfl⟩⟩
theorem s_moves (h : JJ G f n x) {a0 a1 : Int32} : StI G x mX11_moves mX12_moves 7 0 0 3 [.int a0, .int a1] f n := by
  obtain ⟨b, q, J, L, j, F, K, h1, h2, g, h3⟩ := h
  have ec := e_X11_moves (m0 := f) (F := j.F) (W := j.W) (A := q.2.2.2) (B := j.B) h1.xo h1.q1 h1.k1 h1.now.f0 h1.now.ok.1 h1.now.f1 h1.now.ok.2.1 (p := a0) (l := a1)
  rw [h1.now.hs] at ec
  by_cases cc : mvC q.1 q.2.1 q.2.2.2 a0 a1 = true ∧ mmS q.1 (q.2.2.2 4) a0.toNatClampNeg a1 = true
  · have eA : mvA q.1 q.2.1 q.2.2.2 a0 a1 = upA q.2.2.2 4 a0.toNatClampNeg a1 := if_pos cc
    rw [eA] at ec
    refine st_now (q' := (q.1, q.2.1, q.2.2.1, upA q.2.2.2 4 a0.toNatClampNeg a1)) h2 h3 ec (v := (mvR q.1 q.2.1 q.2.2.2 a0 a1)) (fun r f1 n1 z => ?_) (fun f1 n1 k1 k0 m1 => ?_)
    · obtain ⟨z1, rfl, rfl⟩ := z
      exact ⟨z1, h1.newSame (F' := j.F) h1.now.f0 h1.now.f1 h1.now.f2 (upA_n _ (by decide) _ _) (upA_n _ (by decide) _ _) (sch_mv h1.now.ok (of_decide_eq_true cc.1).2) (two2_mv h1.now.ok.1 h1.now.tw cc.2) (fun r hr1 hr2 => upA_n _ (by omega) _ _), sc_q⟩
    · have em := e_X12_moves (G := G) (n := n1) (m0 := f1) (q := x + 35) (F := F) (A := q.2.2.2) (L := L) (K := K) (by omega) (by omega) m1.m0 h1.now.ok.1 m1.m5 h1.now.ok.2.1 (p := a0) (l := a1)
      rw [m1.hm, eA] at em
      refine ⟨_, em, fun r2 f2 n2 z => ⟨z.1, z.2.2, _, _, _, z.2.1, m1.m0, m1.m5, m1.m9, rfl, fun _ _ _ => rfl, upA_n _ (by decide) _ _⟩⟩
  · have eA : mvA q.1 q.2.1 q.2.2.2 a0 a1 = q.2.2.2 := if_neg cc
    rw [eA] at ec
    refine st_keep h1 h2 h3 ec (v := (mvR q.1 q.2.1 q.2.2.2 a0 a1)) (fun r f1 n1 z => ?_) (fun f1 n1 j1 c1 m1 => ?_)
    · obtain ⟨z1, z2, rfl⟩ := z
      rw [h1.now.hs] at z2
      exact kc_0 h1 ⟨z1, z2, rfl⟩
    · have k0 := c1.x0
      have k1 := c1.xn
      have em := e_X12_moves (G := G) (n := n1) (m0 := f1) (q := x + 35) (F := F) (A := q.2.2.2) (L := L) (K := K) (by omega) (by omega) m1.m0 h1.now.ok.1 m1.m5 h1.now.ok.2.1 (p := a0) (l := a1)
      rw [m1.hm, eA] at em
      exact ⟨_, em, fun r2 f2 n2 z => ⟨z.1, kpM.one z.2.1 z.2.2 rfl rfl rfl rfl⟩⟩
theorem s_changes (h : JJ G f n x) {a0 a1 : Int32} : StI G x mX11_changes mX12_changes 7 0 0 3 [.int a0, .int a1] f n := by
  obtain ⟨b, q, J, L, j, F, K, h1, h2, g, h3⟩ := h
  have ec := e_X11_changes (m0 := f) (F := j.F) (W := j.W) (A := q.2.2.2) (B := j.B) h1.xo h1.q1 h1.k1 h1.now.f0 h1.now.ok.1 (a := a0) (z := a1)
  rw [h1.now.hs] at ec
  by_cases cc : twoS q.1 a0 a1 = true
  · have eA : chA q.1 q.2.2.2 a0 a1 = swS q.2.2.2 a0.toNatClampNeg a1.toNatClampNeg := if_pos cc
    rw [eA] at ec
    refine st_now (q' := (q.1, q.2.1, q.2.2.1, swS q.2.2.2 a0.toNatClampNeg a1.toNatClampNeg)) h2 h3 ec (v := (chR q.1 q.2.2.2 a0 a1)) (fun r f1 n1 z => ?_) (fun f1 n1 k1 k0 m1 => ?_)
    · obtain ⟨z1, rfl, rfl⟩ := z
      exact ⟨z1, h1.newSame (F' := j.F) h1.now.f0 h1.now.f1 h1.now.f2 (swS_row (by decide)) (swS_row (by decide)) (sch_sw2 h1.now.ok h1.now.tw cc).1 (sch_sw2 h1.now.ok h1.now.tw cc).2 (fun r hr1 hr2 => swS_row (by omega)), sc_q⟩
    · have em := e_X12_changes (G := G) (n := n1) (m0 := f1) (q := x + 35) (F := F) (A := q.2.2.2) (L := L) (K := K) (by omega) (by omega) m1.m0 h1.now.ok.1 (a := a0) (b := a1)
      rw [m1.hm, eA] at em
      refine ⟨_, em, fun r2 f2 n2 z => ⟨z.1, z.2.2, _, _, _, z.2.1, m1.m0, m1.m5, m1.m9, rfl, fun _ _ _ => rfl, swS_row (by decide)⟩⟩
  · have eA : chA q.1 q.2.2.2 a0 a1 = q.2.2.2 := if_neg cc
    rw [eA] at ec
    refine st_keep h1 h2 h3 ec (v := (chR q.1 q.2.2.2 a0 a1)) (fun r f1 n1 z => ?_) (fun f1 n1 j1 c1 m1 => ?_)
    · obtain ⟨z1, z2, rfl⟩ := z
      rw [h1.now.hs] at z2
      exact kc_0 h1 ⟨z1, z2, rfl⟩
    · have k0 := c1.x0
      have k1 := c1.xn
      have em := e_X12_changes (G := G) (n := n1) (m0 := f1) (q := x + 35) (F := F) (A := q.2.2.2) (L := L) (K := K) (by omega) (by omega) m1.m0 h1.now.ok.1 (a := a0) (b := a1)
      rw [m1.hm, eA] at em
      exact ⟨_, em, fun r2 f2 n2 z => ⟨z.1, kpM.one z.2.1 z.2.2 rfl rfl rfl rfl⟩⟩
theorem s_loses (h : JJ G f n x) {a0 : Int32} : StI G x mX11_loses mX12_loses 7 0 0 3 [.int a0] f n := by
  obtain ⟨b, q, J, L, j, F, K, h1, h2, g, h3⟩ := h
  have ec := e_X11_loses (m0 := f) (F := j.F) (W := j.W) (A := q.2.2.2) (B := j.B) h1.xo h1.q1 h1.k1 h1.now.f1 h1.now.ok.2.1 h1.now.ok.2.2.2.1 (l := a0)
  rw [h1.now.hs] at ec
  by_cases cc : okp q.2.1 a0 = true ∧ ¬ q.2.2.2 7 a0.toNatClampNeg = 0
  · have eA : loA q.2.1 q.2.2.2 a0 = upA q.2.2.2 7 a0.toNatClampNeg (q.2.2.2 7 a0.toNatClampNeg - 1) := if_pos cc
    rw [eA] at ec
    refine st_now (q' := (q.1, q.2.1, q.2.2.1, upA q.2.2.2 7 a0.toNatClampNeg (q.2.2.2 7 a0.toNatClampNeg - 1))) h2 h3 ec (v := (loR q.2.1 q.2.2.2 a0)) (fun r f1 n1 z => ?_) (fun f1 n1 k1 k0 m1 => ?_)
    · obtain ⟨z1, rfl, rfl⟩ := z
      exact ⟨z1, h1.newSame (F' := j.F) h1.now.f0 h1.now.f1 h1.now.f2 (upA_n _ (by decide) _ _) (upA_n _ (by decide) _ _) (sch_lo2 h1.now.ok cc) (by rw [upA_n _ (by decide)]; exact h1.now.tw) (fun r hr1 hr2 => upA_n _ (by omega) _ _), sc_q⟩
    · have em := e_X12_loses (G := G) (n := n1) (m0 := f1) (q := x + 35) (F := F) (A := q.2.2.2) (L := L) (K := K) (by omega) (by omega) m1.m5 h1.now.ok.2.1 (l := a0)
      rw [m1.hm, eA] at em
      refine ⟨_, em, fun r2 f2 n2 z => ⟨z.1, z.2.2, _, _, _, z.2.1, m1.m0, m1.m5, m1.m9, rfl, fun _ _ _ => rfl, upA_n _ (by decide) _ _⟩⟩
  · have eA : loA q.2.1 q.2.2.2 a0 = q.2.2.2 := if_neg cc
    rw [eA] at ec
    refine st_keep h1 h2 h3 ec (v := (loR q.2.1 q.2.2.2 a0)) (fun r f1 n1 z => ?_) (fun f1 n1 j1 c1 m1 => ?_)
    · obtain ⟨z1, z2, rfl⟩ := z
      rw [h1.now.hs] at z2
      exact kc_0 h1 ⟨z1, z2, rfl⟩
    · have k0 := c1.x0
      have k1 := c1.xn
      have em := e_X12_loses (G := G) (n := n1) (m0 := f1) (q := x + 35) (F := F) (A := q.2.2.2) (L := L) (K := K) (by omega) (by omega) m1.m5 h1.now.ok.2.1 (l := a0)
      rw [m1.hm, eA] at em
      exact ⟨_, em, fun r2 f2 n2 z => ⟨z.1, kpM.one z.2.1 z.2.2 rfl rfl rfl rfl⟩⟩
theorem s_makes (h : JJ G f n x) {a0 : Int32} : StI G x mX11_makes mX12_makes 7 0 0 4 [.int a0] f n := by
  obtain ⟨b, q, J, L, j, F, K, h1, h2, g, h3⟩ := h
  have ec := e_X11_makes (m0 := f) (F := j.F) (W := j.W) (A := q.2.2.2) (B := j.B) h1.xo h1.q1 h1.k1 h1.now.f1 h1.now.ok.2.1 h1.now.f2 (l := a0)
  rw [h1.now.hs] at ec
  by_cases cc : mkC q.2.1 q.2.2.1 a0 = true
  · rw [if_pos cc, if_pos cc] at ec
    refine st_now (q' := (q.1, q.2.1, q.2.2.1 + 5, mkA q.2.2.2 a0)) h2 h3 ec (v := (maR q.2.1 q.2.2.1 a0)) (fun r f1 n1 z => ?_) (fun f1 n1 k1 k0 m1 => ?_)
    · obtain ⟨z1, rfl, rfl⟩ := z
      exact ⟨z1, h1.newSame (F' := upd j.F 2 (q.2.2.1 + 5)) h1.now.f0 h1.now.f1 rfl (upA_n _ (by decide) _ _) (upA_n _ (by decide) _ _) (sch_mk h1.now.ok cc) (by unfold mkA; rw [upA_n _ (by decide)]; exact h1.now.tw) (fun r hr1 hr2 => upA_n _ (by omega) _ _), sc_q⟩
    · have em := e_X12_makes (G := G) (n := n1) (m0 := f1) (q := x + 35) (F := F) (A := q.2.2.2) (L := L) (K := K) (by omega) (by omega) m1.m5 h1.now.ok.2.1 m1.m9 (l := a0)
      rw [m1.hm, if_pos cc, if_pos cc] at em
      refine ⟨_, em, fun r2 f2 n2 z => ⟨z.1, z.2.2, _, _, _, z.2.1, m1.m0, m1.m5, rfl, rfl, fun _ _ _ => rfl, upA_n _ (by decide) _ _⟩⟩
  · rw [if_neg cc, if_neg cc] at ec
    refine st_keep h1 h2 h3 ec (v := (maR q.2.1 q.2.2.1 a0)) (fun r f1 n1 z => ?_) (fun f1 n1 j1 c1 m1 => ?_)
    · obtain ⟨z1, z2, rfl⟩ := z
      rw [h1.now.hs] at z2
      exact kc_0 h1 ⟨z1, z2, rfl⟩
    · have k0 := c1.x0
      have k1 := c1.xn
      have em := e_X12_makes (G := G) (n := n1) (m0 := f1) (q := x + 35) (F := F) (A := q.2.2.2) (L := L) (K := K) (by omega) (by omega) m1.m5 h1.now.ok.2.1 m1.m9 (l := a0)
      rw [m1.hm, if_neg cc, if_neg cc] at em
      exact ⟨_, em, fun r2 f2 n2 z => ⟨z.1, kpM.one z.2.1 z.2.2 rfl rfl rfl rfl⟩⟩
end ZH
