section ZG
variable {G : GX} {f : Mem} {n x : Nat} {b : Int32} {q J : SS} {L : Nat → Nat → Int64} {j : JD} {F : Nat → Int32} {K : Option Nat} {g : Nat → Int64}
theorem JC.row (h : JC G f n x b q J L j) {jd b1 ar R : Nat} {g1 : Nat → Int32} (hjd : jd ≤ 7) (eR : j.Rs jd = some b1) (hr : rowM G f n b1 ar R g1 (q.2.2.2 11 jd)) (eK : q.2.2.2 12 jd = nI R) : rowE L jd R g1 := h.shl.va jd b1 ar R g1 (by omega) eR hr.1 hr.2.2.2.1 eK
theorem wk_2 {H : Nat → Int32} {jd : Nat} (hjd : jd ≤ 7) (e : H jd = 2) : wkS H 2 (nI jd) = 0 := by
  unfold wkS
  have hd : okr (nI jd) 0 7 = true := nI_okr (k := 7) hjd (by omega)
  simp [hd, nI_clamp (show jd < 2 ^ 31 by omega), e]
theorem wk_2n {H : Nat → Int32} {jd : Nat} (hjd : jd ≤ 7) (e : H jd = 2) : ¬ wkS H 2 (nI jd) < 0 := by
  rw [wk_2 hjd e]
  decide
theorem s_hours (h : JJ G f n x) {a0 : Int32} : StI G x mX11_hours mX12_hours 7 0 0 3 [.int a0] f n := by
  obtain ⟨b, q, J, L, j, F, K, h1, h2, g, h3⟩ := h
  have ec := e_X11_hours (m0 := f) (F := j.F) (W := j.W) (A := q.2.2.2) (B := j.B) h1.xo h1.q1 h1.k1 h1.now.f0 h1.now.ok.1 (what := a0)
  rw [h1.now.hs] at ec
  refine st_keep h1 h2 h3 ec (v := (choS q.1 q.2.2.2 a0)) (fun r f1 n1 z => ?_) (fun f1 n1 j1 c1 m1 => ?_)
  · exact kc_0 h1 z
  · have em := e_X12_hours (m0 := f1) (F := F) (A := q.2.2.2) (L := L) (K := K) c1.q5 c1.k5 m1.m0 c1.now.ok.1 (what := a0)
    rw [m1.hm] at em
    refine ⟨_, em, fun r2 f2 n2 z => ⟨z.1.trans (congrArg some (congrArg Value.int ((cho_hou h1.now.ok.1).symm))), ?_⟩⟩
    exact kpM.one z.2.1 z.2.2 rfl rfl rfl rfl
theorem s_dent (h : JJ G f n x) {a0 a1 a2 : Int32} : StI G x mX11_dent mX12_dent 7 0 0 3 [.int a0, .int a1, .int a2] f n := by
  obtain ⟨b, q, J, L, j, F, K, h1, h2, g, h3⟩ := h
  have ec := e_X11_dent (m0 := f) (F := j.F) (W := j.W) (A := q.2.2.2) (B := j.B) h1.xo h1.q1 h1.k1 h1.now.f0 h1.now.ok.1 h1.now.f1 h1.now.ok.2.1 h1.now.be (h1.now.who (Or.inl rfl)) h1.ab h1.now.ok.2.2.1 (p := a0) (v := a1) (law := a2)
  rw [h1.now.hs] at ec
  refine st_keep h1 h2 h3 ec (v := (cdeS q.1 q.2.2.2 a0 a1 a2)) (fun r f1 n1 z => ?_) (fun f1 n1 j1 c1 m1 => ?_)
  · exact kc_0 h1 z
  · have em := e_X12_dent (m0 := f1) (F := F) (A := q.2.2.2) (L := L) (K := K) c1.q5 c1.k5 m1.m0 c1.now.ok.1 c1.now.ok.2.1 c1.now.ok.2.2.1 (p := a0) (v := a1) (law := a2)
    rw [m1.hm] at em
    refine ⟨_, em, fun r2 f2 n2 z => ⟨z.1.trans (congrArg some (congrArg Value.int ((cde_den h1.now.ok h1.kf).symm))), ?_⟩⟩
    exact kpM.one z.2.1 z.2.2 rfl rfl rfl rfl
theorem s_turn (h : JJ G f n x) {a0 : Int32} : StI G x mX11_turn mX12_turn 7 0 0 3 [.int a0] f n := by
  obtain ⟨b, q, J, L, j, F, K, h1, h2, g, h3⟩ := h
  have ec := e_X11_turn (m0 := f) (F := j.F) (W := j.W) (A := q.2.2.2) (B := j.B) h1.xo h1.q1 h1.k1 h1.now.f0 h1.now.ok.1 h1.now.f1 h1.now.ok.2.1 h1.now.be (h1.now.who (Or.inl rfl)) h1.ab h1.now.ok.2.2.1 (what := a0)
  rw [h1.now.hs] at ec
  refine st_keep h1 h2 h3 ec (v := (ctuS q.1 q.2.2.2 a0)) (fun r f1 n1 z => ?_) (fun f1 n1 j1 c1 m1 => ?_)
  · exact kc_0 h1 z
  · have em := e_X12_turn (m0 := f1) (F := F) (A := q.2.2.2) (L := L) (K := K) c1.q5 c1.k5 m1.m0 c1.now.ok.1 c1.now.ok.2.1 c1.now.ok.2.2.1 (what := a0)
    rw [m1.hm] at em
    refine ⟨_, em, fun r2 f2 n2 z => ⟨z.1.trans (congrArg some (congrArg Value.int ((ctu_tur h1.now.ok).symm))), ?_⟩⟩
    exact kpM.one z.2.1 z.2.2 rfl rfl rfl rfl
theorem s_clashes (h : JJ G f n x) {a0 : Int32} : StI G x mX11_clashes mX12_clashes 7 0 0 3 [.int a0] f n := by
  obtain ⟨b, q, J, L, j, F, K, h1, h2, g, h3⟩ := h
  have ec := e_X11_clashes (m0 := f) (F := j.F) (W := j.W) (A := q.2.2.2) (B := j.B) h1.xo h1.q1 h1.k1 h1.now.f0 h1.now.ok.1 (what := a0)
  rw [h1.now.hs] at ec
  refine st_keep h1 h2 h3 ec (v := (cclS q.1 q.2.2.2 a0)) (fun r f1 n1 z => ?_) (fun f1 n1 j1 c1 m1 => ?_)
  · exact kc_0 h1 z
  · have em := e_X12_clashes (m0 := f1) (F := F) (A := q.2.2.2) (L := L) (K := K) c1.q5 c1.k5 m1.m0 c1.now.ok.1 (what := a0)
    rw [m1.hm] at em
    refine ⟨_, em, fun r2 f2 n2 z => ⟨z.1.trans (congrArg some (congrArg Value.int ((ccl_cla h1.now.ok.1 h1.now.tw).symm))), ?_⟩⟩
    obtain ⟨z1, ⟨F2, z2, z3⟩, z4⟩ := z
    exact kpM.one z3 z4 (z2 0 (by omega)) (z2 5 (by omega)) (z2 9 (by omega)) (z2 26 (by omega))
theorem s_rather (h : JJ G f n x) {a0 : Int32} : StI G x mX11_rather mX12_rather 7 0 0 5 [.int a0] f n := by
  obtain ⟨b, q, J, L, j, F, K, h1, h2, g, h3⟩ := h
  have ec := e_X11_rather (m0 := f) (F := j.F) (W := j.W) (A := q.2.2.2) (B := j.B) h1.xo h1.q1 h1.k1 h1.now.f0 h1.now.ok.1 h1.now.be (what := a0)
  rw [h1.now.hs] at ec
  refine st_keep h1 h2 h3 ec (v := (craS q.1 q.2.2.2 a0)) (fun r f1 n1 z => ?_) (fun f1 n1 j1 c1 m1 => ?_)
  · exact kc_0 h1 z
  · have em := e_X12_rather (m0 := f1) (F := F) (A := q.2.2.2) (L := L) (K := K) c1.q5 c1.k5 m1.m0 c1.now.ok.1 (what := a0)
    rw [m1.hm] at em
    refine ⟨_, em, fun r2 f2 n2 z => ⟨z.1.trans (congrArg some (congrArg Value.int (cra_raq.symm))), ?_⟩⟩
    obtain ⟨z1, z2, z3⟩ := z
    refine kpM.row z2 z3 rfl rfl rfl rfl (fun r hr => ?_)
    by_cases cc : okr a0 0 1 = true
    · rw [if_pos cc]
      exact by unfold mtA; rw [if_neg (by omega)]
    · rw [if_neg cc]
theorem s_terms (h : JJ G f n x) {a0 a1 a2 : Int32} : StI G x mX11_terms mX12_terms 9 0 0 6 [.int a0, .int a1, .int a2] f n := by
  obtain ⟨b, q, J, L, j, F, K, h1, h2, g, h3⟩ := h
  have ec := e_X11_terms (m0 := f) (F := j.F) (W := j.W) (A := q.2.2.2) (B := j.B) (F3 := j.F3) (W3 := j.W3) (A3 := j.A3) (B3 := j.B3) h1.x2 h1.q1 h1.k1 h1.q3 h1.k3 (by omega) h1.ts (h1.now.w2 (Or.inl rfl) (Or.inr (Or.inr rfl))) (x1 := a0) (z := a1) (what := a2)
  rw [h1.now.hs, h1.tri] at ec
  refine st_keep h1 h2 h3 ec (v := (cteS q.1 q.2.2.2 a0 a1 a2)) (fun r f1 n1 z => ?_) (fun f1 n1 j1 c1 m1 => ?_)
  · exact kc_t h1 z.1 z.2.1 z.2.2
  · have em := e_X12_terms (m0 := f1) (F := F) (A := q.2.2.2) (L := L) (K := K) c1.q5 c1.k5 m1.m0 c1.now.ok.1 c1.now.ok.2.1 c1.now.ok.2.2.1 (x := a0) (z := a1) (what := a2)
    rw [m1.hm] at em
    refine ⟨_, em, fun r2 f2 n2 z => ⟨z.1.trans (congrArg some (congrArg Value.int ((cte_ter h1.now.ok.1 h1.now.tw).symm))), ?_⟩⟩
    obtain ⟨z1, ⟨F', A', K', ⟨k0, k5, k9, k26, kr⟩, z3⟩, z4⟩ := z
    exact kpM.row z3 z4 k0 k5 k9 k26 (fun r hr => kr r (by omega))
theorem s_forged (h : JJ G f n x) {a0 : Int32} : StI G x mX11_forged mX12_forged 8 0 0 3 [.int a0] f n := by
  obtain ⟨b, q, J, L, j, F, K, h1, h2, g, h3⟩ := h
  have ec := e_X11_forged (m0 := f) (F := j.F) (W := j.W) (A := q.2.2.2) (B := j.B) (by rw [h1.now.hs]; exact h1.xs) (by rw [h1.now.hs]; exact h1.shl.sh) (by rw [h1.now.hs]; exact h1.so (Or.inl rfl)) h1.q1 h1.k1 h1.now.f0 h1.now.ok.1 h1.now.f1 h1.now.ok.2.1 (d := a0)
  rw [h1.now.hs] at ec
  refine st_keep h1 h2 h3 ec (v := forS q.1 q.2.1 q.2.2.2 L a0) (fun r f1 n1 z => ?_) (fun f1 n1 j1 c1 m1 => ?_)
  · obtain ⟨rfl, rfl, z⟩ := z
    refine ⟨?_, ⟨j, h1⟩, fun _ _ _ => rfl⟩
    rcases z with ⟨z1, z2⟩ | ⟨jd, b1, ar, R, g1, hjd, rfl, e8, eR, hr, eK, z2⟩
    · rw [z2]
      unfold forS
      rw [if_pos z1]
    · rw [z2, fo_for (h1.row hjd eR hr eK) h1.now.ok.2.1 hr.2.2.2.2.2.2]
      unfold forS
      rw [if_neg (wk_2n hjd e8), nI_clamp (by omega), eK, nI_clamp (by have := hr.2.2.2.2.2.2; omega)]
  · have em := e_X12_forged (m0 := f1) (F := F) (A := q.2.2.2) (L := L) (K := K) c1.q5 c1.k5 m1.m0 c1.now.ok.1 m1.m5 c1.now.ok.2.1 c1.shl.rl (d := a0)
    rw [m1.hm] at em
    refine ⟨_, em, fun r2 f2 n2 z => ⟨z.1, ?_⟩⟩
    exact kpM.one z.2.1 z.2.2 rfl rfl rfl rfl
theorem s_june (h : JJ G f n x) {a0 a1 : Int32} : StI G x mX11_june mX12_june 8 0 0 3 [.int a0, .int a1] f n := by
  obtain ⟨b, q, J, L, j, F, K, h1, h2, g, h3⟩ := h
  have ec := e_X11_june (m0 := f) (F := j.F) (W := j.W) (A := q.2.2.2) (B := j.B) (by rw [h1.now.hs]; exact h1.xs) (by rw [h1.now.hs]; exact h1.shl.sh) (by rw [h1.now.hs]; exact h1.so (Or.inl rfl)) h1.q1 h1.k1 h1.now.f0 h1.now.ok.1 h1.now.f1 h1.now.ok.2.1 (d := a0) (what := a1)
  rw [h1.now.hs] at ec
  refine st_keep h1 h2 h3 ec (v := junS q.1 q.2.1 q.2.2.2 L a0 a1) (fun r f1 n1 z => ?_) (fun f1 n1 j1 c1 m1 => ?_)
  · obtain ⟨rfl, rfl, z⟩ := z
    refine ⟨?_, ⟨j, h1⟩, fun _ _ _ => rfl⟩
    unfold junS
    rcases z with ⟨z1, z2⟩ | ⟨z0, ⟨z1, z2⟩ | ⟨jd, b1, ar, R, g1, hjd, rfl, e8, eR, hr, eK, z2⟩⟩
    · rw [z2, if_neg z1]
    · rw [z2, if_pos z0, if_pos z1]
    · rw [z2, if_pos z0, if_neg (wk_2n hjd e8), nI_clamp (show jd < 2 ^ 31 by omega), cju_jun (h1.row hjd eR hr eK) h1.now.ok.1 h1.now.ok.2.1 hr.2.2.2.2.2.2 z0 eK, eK, nI_clamp (show R < 2 ^ 31 by have := hr.2.2.2.2.2.2; omega)]
  · have em := e_X12_june (m0 := f1) (F := F) (A := q.2.2.2) (L := L) (K := K) c1.q5 c1.k5 m1.m0 c1.now.ok.1 m1.m5 c1.now.ok.2.1 c1.shl.rl (d := a0) (what := a1)
    rw [m1.hm] at em
    refine ⟨_, em, fun r2 f2 n2 z => ⟨z.1, ?_⟩⟩
    exact kpM.one z.2.1 z.2.2 rfl rfl rfl rfl
theorem s_judge (h : JJ G f n x) {a0 : Int32} : StI G x mX11_judge mX12_judge 9 0 0 6 [.int a0] f n := by
  obtain ⟨b, q, J, L, j, F, K, h1, h2, g, h3⟩ := h
  have ec := e_X11_judge (f := f) h1.xs h1.shl.sh h1.now.hs h1.tri h1.q1 h1.k1 h1.q3 h1.k3 (by omega) (by omega) h1.ts (by rw [h1.now.f2]; exact h1.now.ok) h1.z3 (h1.so (Or.inr (Or.inr rfl))) (d := a0)
  refine st_keep h1 h2 h3 ec (v := judS q.1 q.2.2.2 L a0) (fun r f1 n1 z => ?_) (fun f1 n1 j1 c1 m1 => ?_)
  · obtain ⟨en, et, z⟩ := z
    refine kc_t h1 ?_ et en
    unfold judS
    rcases z with ⟨z1, z2⟩ | ⟨jd, b1, ar, R, g1, hjd, rfl, e8, eR, hr, eK, z2⟩
    · rw [z2, if_pos z1]
    · rw [z2, if_neg (wk_2n hjd e8), nI_clamp (show jd < 2 ^ 31 by omega), jg_jud (h1.row hjd eR hr eK), eK, nI_clamp (show R < 2 ^ 31 by have := hr.2.2.2.2.2.2; omega)]
  · have em := e_X12_judge (m0 := f1) (F := F) (A := q.2.2.2) (L := L) (K := K) c1.q5 c1.k5 m1.m0 c1.now.ok.1 c1.now.ok.2.1 c1.now.ok.2.2.1 c1.shl.rl (d := a0)
    rw [m1.hm] at em
    refine ⟨_, em, fun r2 f2 n2 z => ⟨z.1, ?_⟩⟩
    obtain ⟨z1, ⟨F', A', K', ⟨k0, k5, k9, k26, kr⟩, z3⟩, z4⟩ := z
    exact kpM.row z3 z4 k0 k5 k9 k26 (fun r hr => kr r (by omega))
end ZG
