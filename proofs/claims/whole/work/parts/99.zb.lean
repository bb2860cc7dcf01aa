def StI (G : GX) (x : Nat) (y1 y2 : MD) (d1 mc ms d2 : Nat) (As : List Value) (f : Mem) (n : Nat) : Prop :=
  ∃ Qc, Ev G y1 d1 mc ms (.ref x :: As) f n Qc ∧ ∀ r f1 n1, Qc r f1 n1 → (∃ fs, f1 (x + 35) = ob 12 fs) ∧ x + 61 ≤ n1 ∧ ∃ Qm, Ev G y2 d2 0 0 (.ref (x + 35) :: As) f1 n1 Qm ∧ ∀ r2 f2 n2, Qm r2 f2 n2 → ∃ v : Int32, r = some (.int v) ∧ r2 = some (.int v) ∧ ∃ f3, sim f2 f3 ∧ JJ G f3 n2 x
section ZB
variable {G : GX} {f : Mem} {n x : Nat} {b : Int32} {q J : SS} {L : Nat → Nat → Int64} {j : JD} {F : Nat → Int32} {K : Option Nat} {g : Nat → Int64} {y1 y2 : MD} {d1 mc ms d2 : Nat} {As : List Value} {v : Int32} {Qc : RQ}
/-- the reference's end, where nothing has changed that counts -/
def kpM (G : GX) (f1 : Mem) (n1 x : Nat) (q : SS) (L : Nat → Nat → Int64) (F : Nat → Int32) (f2 : Mem) (n2 : Nat) : Prop := n2 = n1 ∧ ∃ F' A' K', f2 = mo G f1 (x + 35) F' A' L K' ∧ F' 0 = F 0 ∧ F' 5 = F 5 ∧ F' 9 = F 9 ∧ F' 26 = F 26 ∧ (∀ r, 1 ≤ r → r ≤ 12 → A' r = q.2.2.2 r) ∧ A' 18 = q.2.2.2 18
theorem kpM.one {f1 f2 : Mem} {n1 n2 : Nat} {F' : Nat → Int32} {K' : Option Nat} (e : f2 = mo G f1 (x + 35) F' q.2.2.2 L K') (en : n2 = n1) (h0 : F' 0 = F 0) (h5 : F' 5 = F 5) (h9 : F' 9 = F 9) (h26 : F' 26 = F 26) : kpM G f1 n1 x q L F f2 n2 := ⟨en, F', _, K', e, h0, h5, h9, h26, fun _ _ _ => rfl, rfl⟩
theorem kpM.row {f1 f2 : Mem} {n1 n2 : Nat} {F' : Nat → Int32} {A' : Nat → Nat → Int32} {K' : Option Nat} (e : f2 = mo G f1 (x + 35) F' A' L K') (en : n2 = n1) (h0 : F' 0 = F 0) (h5 : F' 5 = F 5) (h9 : F' 9 = F 9) (h26 : F' 26 = F 26) (hr : ∀ r, r ≤ 12 ∨ r = 18 → A' r = q.2.2.2 r) : kpM G f1 n1 x q L F f2 n2 := ⟨en, F', _, K', e, h0, h5, h9, h26, fun r _ h => hr r (Or.inl h), hr 18 (Or.inr rfl)⟩
theorem st_keep (h1 : JC G f n x b q J L j) (h2 : JM G f x b q J L F K) (h3 : f (x + 60) = ja G 1 g) (hc : Ev G y1 d1 mc ms (.ref x :: As) f n Qc)
    (hQ : ∀ r f1 n1, Qc r f1 n1 → r = some (.int v) ∧ (∃ j', JC G f1 n1 x b q J L j') ∧ ∀ a, x + 35 ≤ a → a < x + 61 → f1 a = f a)
    (hm : ∀ f1 n1 j', JC G f1 n1 x b q J L j' → JM G f1 x b q J L F K → ∃ Qm, Ev G y2 d2 0 0 (.ref (x + 35) :: As) f1 n1 Qm ∧ ∀ r2 f2 n2, Qm r2 f2 n2 → r2 = some (.int v) ∧ kpM G f1 n1 x q L F f2 n2) : StI G x y1 y2 d1 mc ms d2 As f n := by
  refine ⟨Qc, hc, fun r f1 n1 hq => ?_⟩
  obtain ⟨e1, ⟨j', c1⟩, ha⟩ := hQ r f1 n1 hq
  have m1 : JM G f1 x b q J L F K := h2.ext (fun a z1 z2 => ha a z1 (by omega))
  obtain ⟨Qm, em, hm⟩ := hm f1 n1 j' c1 m1
  refine ⟨⟨_, by rw [← m1.hm]; exact mo_obj⟩, c1.xn, Qm, em, fun r2 f2 n2 hq2 => ?_⟩
  obtain ⟨e2, rfl, F', A', K', rfl, w0, w5, w9, w26, wr, w18⟩ := hm r2 f2 n2 hq2
  exact ⟨v, e1, e2, _, sim_rfl, JJ.mdl c1 ((ha _ (by omega) (by omega)).trans h3) wr rfl (w0.trans h2.m0) (w5.trans h2.m5) (w9.trans h2.m9) (h2.mi.imp (fun z => ⟨z.1, w26.trans z.2⟩) (fun z => ⟨z.1, w26.trans z.2.1, by rw [w18]; exact z.2.2⟩))⟩
/-- the class has changed nothing, or only what nobody sees -/
theorem kc_0 (h1 : JC G f n x b q J L j) {r : Option Value} {f1 : Mem} {n1 : Nat} (z : RD (.int v) f n r f1 n1) : r = some (.int v) ∧ (∃ j', JC G f1 n1 x b q J L j') ∧ ∀ a, x + 35 ≤ a → a < x + 61 → f1 a = f a := by
  obtain ⟨z1, rfl, rfl⟩ := z
  exact ⟨z1, ⟨j, h1⟩, fun _ _ _ => rfl⟩
theorem kc_t (h1 : JC G f n x b q J L j) {r : Option Value} {f1 : Mem} {n1 : Nat} (z1 : r = some (.int v)) (z2 : ∃ F4 W4 A4 B4, f1 = sc G f (x + 19) F4 W4 A4 B4) (z3 : n1 = n) : r = some (.int v) ∧ (∃ j', JC G f1 n1 x b q J L j') ∧ ∀ a, x + 35 ≤ a → a < x + 61 → f1 a = f a := by
  obtain ⟨F4, W4, A4, B4, rfl⟩ := z2
  subst z3
  exact ⟨z1, ⟨_, h1.trial⟩, fun a _ _ => sc_out (by omega)⟩
theorem kc_w (h1 : JC G f n x b q J L j) {r : Option Value} {f1 : Mem} {n1 : Nat} (z1 : r = some (.int v)) (z2 : f1 = f ∨ ∃ V4 C4 M4 L4 T4, f1 = sc G (wy G f (x + 28) V4 C4 M4 L4 T4) (x + 1) j.F j.W q.2.2.2 j.B) (z3 : n1 = n) : r = some (.int v) ∧ (∃ j', JC G f1 n1 x b q J L j') ∧ ∀ a, x + 35 ≤ a → a < x + 61 → f1 a = f a := by
  subst z3
  rcases z2 with rfl | ⟨V4, C4, M4, L4, T4, rfl⟩
  · exact ⟨z1, ⟨_, h1⟩, fun _ _ _ => rfl⟩
  · rw [sc_wy (by omega), h1.now.hs]
    exact ⟨z1, ⟨_, h1.ways⟩, fun a _ _ => wy_out (by omega)⟩
theorem kc_th (h1 : JC G f n x b q J L j) {r : Option Value} {f1 : Mem} {n1 : Nat} (z1 : r = some (.int v)) (z2 : thF G f (x + 19) (x + 28) n n1 f1) : r = some (.int v) ∧ (∃ j', JC G f1 n1 x b q J L j') ∧ ∀ a, x + 35 ≤ a → a < x + 61 → f1 a = f a := by
  have := h1.xn
  exact ⟨z1, h1.think z2, fun a _ _ => z2.2.1 a (by omega) (by omega) (by omega)⟩
theorem s_pupil (h : JJ G f n x) {a0 a1 : Int32} : StI G x mX11_pupil mX12_pupil 7 0 0 3 [.int a0, .int a1] f n := by
  obtain ⟨b, q, J, L, j, F, K, h1, h2, g, h3⟩ := h
  have ec := e_X11_pupil (m0 := f) (F := j.F) (W := j.W) (A := q.2.2.2) (B := j.B) h1.xo h1.q1 h1.k1 h1.now.f0 h1.now.ok.1 (h1.now.who (Or.inl rfl)) (p := a0) (what := a1)
  rw [h1.now.hs] at ec
  refine st_keep h1 h2 h3 ec (v := (pupS q.1 q.2.2.2 a0 a1)) (fun r f1 n1 z => ?_) (fun f1 n1 j1 c1 m1 => ?_)
  · exact kc_0 h1 z
  · have em := e_X12_pupil (m0 := f1) (F := F) (A := q.2.2.2) (L := L) (K := K) c1.q5 c1.k5 m1.m0 c1.now.ok.1 (p := a0) (what := a1)
    rw [m1.hm] at em
    refine ⟨_, em, fun r2 f2 n2 z => ⟨z.1, ?_⟩⟩
    exact kpM.one z.2.1 z.2.2 rfl rfl rfl rfl
theorem s_bears (h : JJ G f n x) {a0 a1 : Int32} : StI G x mX11_bears mX12_bears 7 0 0 4 [.int a0, .int a1] f n := by
  obtain ⟨b, q, J, L, j, F, K, h1, h2, g, h3⟩ := h
  have ec := e_X11_bears (m0 := f) (F := j.F) (W := j.W) (A := q.2.2.2) (B := j.B) h1.xo h1.q1 h1.k1 h1.now.f0 h1.now.ok.1 h1.now.be (a := a0) (z := a1)
  rw [h1.now.hs] at ec
  refine st_keep h1 h2 h3 ec (v := (bearsS q.1 q.2.2.2 a0 a1)) (fun r f1 n1 z => ?_) (fun f1 n1 j1 c1 m1 => ?_)
  · exact kc_0 h1 z
  · have em := e_X12_bears (m0 := f1) (F := F) (A := q.2.2.2) (L := L) (K := K) c1.q5 c1.k5 m1.m0 c1.now.ok.1 (a := a0) (b := a1)
    rw [m1.hm] at em
    refine ⟨_, em, fun r2 f2 n2 z => ⟨z.1, ?_⟩⟩
    exact kpM.one z.2.1 z.2.2 rfl rfl rfl rfl
theorem s_trouble (h : JJ G f n x) {a0 a1 : Int32} : StI G x mX11_trouble mX12_trouble 7 0 0 3 [.int a0, .int a1] f n := by
  obtain ⟨b, q, J, L, j, F, K, h1, h2, g, h3⟩ := h
  have ec := e_X11_trouble (m0 := f) (F := j.F) (W := j.W) (A := q.2.2.2) (B := j.B) h1.xo h1.q1 h1.k1 h1.now.f0 h1.now.ok.1 h1.now.f1 h1.now.ok.2.1 (h1.now.who (Or.inl rfl)) h1.ab (p := a0) (l := a1)
  rw [h1.now.hs] at ec
  refine st_keep h1 h2 h3 ec (v := (troubS q.1 q.2.1 q.2.2.2 a0 a1)) (fun r f1 n1 z => ?_) (fun f1 n1 j1 c1 m1 => ?_)
  · exact kc_0 h1 z
  · have em := e_X12_trouble (m0 := f1) (F := F) (A := q.2.2.2) (L := L) (K := K) c1.q5 c1.k5 m1.m0 c1.now.ok.1 m1.m5 c1.now.ok.2.1 (p := a0) (l := a1)
    rw [m1.hm] at em
    refine ⟨_, em, fun r2 f2 n2 z => ⟨z.1, ?_⟩⟩
    exact kpM.one z.2.1 z.2.2 rfl rfl rfl rfl
theorem s_content (h : JJ G f n x) {a0 : Int32} : StI G x mX11_content mX12_content 7 0 0 4 [.int a0] f n := by
  obtain ⟨b, q, J, L, j, F, K, h1, h2, g, h3⟩ := h
  have ec := e_X11_content (m0 := f) (F := j.F) (W := j.W) (A := q.2.2.2) (B := j.B) h1.xo h1.q1 h1.k1 h1.now.f0 h1.now.ok.1 h1.now.f1 h1.now.ok.2.1 h1.now.be (h1.now.who (Or.inl rfl)) h1.ab h1.now.ok.2.2.1 (p := a0)
  rw [h1.now.hs] at ec
  refine st_keep h1 h2 h3 ec (v := (contS q.1 q.2.2.2 a0)) (fun r f1 n1 z => ?_) (fun f1 n1 j1 c1 m1 => ?_)
  · exact kc_0 h1 z
  · have em := e_X12_content (m0 := f1) (F := F) (A := q.2.2.2) (L := L) (K := K) c1.q5 c1.k5 m1.m0 c1.now.ok.1 c1.now.ok.2.1 c1.now.ok.2.2.1 (p := a0)
    rw [m1.hm] at em
    refine ⟨_, em, fun r2 f2 n2 z => ⟨z.1, ?_⟩⟩
    exact kpM.one z.2.1 z.2.2 rfl rfl rfl rfl
theorem s_count (h : JJ G f n x) {a0 : Int32} : StI G x mX11_count mX12_count 7 0 0 2 [.int a0] f n := by
  obtain ⟨b, q, J, L, j, F, K, h1, h2, g, h3⟩ := h
  have ec := e_X11_count (m0 := f) (F := j.F) (W := j.W) (A := q.2.2.2) (B := j.B) h1.xo h1.q1 h1.k1 h1.now.f0 h1.now.ok.1 h1.now.f1 h1.now.ok.2.1 (h1.now.who (Or.inl rfl)) h1.now.f2 (what := a0)
  rw [h1.now.hs] at ec
  refine st_keep h1 h2 h3 ec (v := (couS q.1 q.2.1 q.2.2.1 q.2.2.2 a0)) (fun r f1 n1 z => ?_) (fun f1 n1 j1 c1 m1 => ?_)
  · exact kc_0 h1 z
  · have em := e_X12_count (m0 := f1) (F := F) (A := q.2.2.2) (L := L) (K := K) c1.q5 c1.k5 m1.m0 c1.now.ok.1 m1.m5 c1.now.ok.2.1 m1.m9 (what := a0)
    rw [m1.hm] at em
    refine ⟨_, em, fun r2 f2 n2 z => ⟨z.1, ?_⟩⟩
    exact kpM.one z.2.1 z.2.2 rfl rfl rfl rfl
theorem s_all (h : JJ G f n x) : StI G x mX11_all mX12_all 7 0 0 5 [] f n := by
  obtain ⟨b, q, J, L, j, F, K, h1, h2, g, h3⟩ := h
  have ec := e_X11_all (m0 := f) (F := j.F) (W := j.W) (A := q.2.2.2) (B := j.B) h1.xo h1.q1 h1.k1 h1.now.f0 h1.now.ok.1 h1.now.f1 h1.now.ok.2.1 h1.now.be (h1.now.who (Or.inl rfl)) h1.ab h1.now.ok.2.2.1
  rw [h1.now.hs] at ec
  refine st_keep h1 h2 h3 ec (v := (alS q.1 q.2.2.2)) (fun r f1 n1 z => ?_) (fun f1 n1 j1 c1 m1 => ?_)
  · exact kc_0 h1 z
  · have em := e_X12_all (m0 := f1) (F := F) (A := q.2.2.2) (L := L) (K := K) c1.q5 c1.k5 m1.m0 c1.now.ok.1 c1.now.ok.2.1 c1.now.ok.2.2.1
    rw [m1.hm] at em
    refine ⟨_, em, fun r2 f2 n2 z => ⟨z.1, ?_⟩⟩
    exact kpM.one z.2.1 z.2.2 rfl rfl rfl rfl
theorem s_cost (h : JJ G f n x) {a0 : Int32} : StI G x mX11_cost mX12_cost 7 0 0 3 [.int a0] f n := by
  obtain ⟨b, q, J, L, j, F, K, h1, h2, g, h3⟩ := h
  have ec := e_X11_cost (f := f) h1.xs h1.shl.sh (d := a0)
  refine st_keep h1 h2 h3 ec (v := (cosS q.2.2.2 a0)) (fun r f1 n1 z => ?_) (fun f1 n1 j1 c1 m1 => ?_)
  · exact kc_0 h1 z
  · have em := e_X12_cost (m0 := f1) (F := F) (A := q.2.2.2) (L := L) (K := K) c1.q5 c1.k5 (d := a0)
    rw [m1.hm] at em
    refine ⟨_, em, fun r2 f2 n2 z => ⟨z.1, ?_⟩⟩
    exact kpM.one z.2.1 z.2.2 rfl rfl rfl rfl
theorem s_locker (h : JJ G f n x) {a0 a1 : Int32} : StI G x mX11_locker mX12_locker 7 0 0 3 [.int a0, .int a1] f n := by
  obtain ⟨b, q, J, L, j, F, K, h1, h2, g, h3⟩ := h
  have ec := e_X11_locker (m0 := f) (F := j.F) (W := j.W) (A := q.2.2.2) (B := j.B) h1.xo h1.q1 h1.k1 h1.now.f0 h1.now.ok.1 h1.now.f1 h1.now.ok.2.1 (l := a0) (what := a1)
  rw [h1.now.hs] at ec
  refine st_keep h1 h2 h3 ec (v := (clkS q.1 q.2.1 q.2.2.2 a0 a1)) (fun r f1 n1 z => ?_) (fun f1 n1 j1 c1 m1 => ?_)
  · exact kc_0 h1 z
  · have em := e_X12_locker (m0 := f1) (F := F) (A := q.2.2.2) (L := L) (K := K) c1.q5 c1.k5 m1.m0 c1.now.ok.1 m1.m5 c1.now.ok.2.1 (l := a0) (what := a1)
    rw [m1.hm] at em
    refine ⟨_, em, fun r2 f2 n2 z => ⟨z.1.trans (congrArg some (congrArg Value.int (clk_lock.symm))), ?_⟩⟩
    exact kpM.one z.2.1 z.2.2 rfl rfl rfl rfl
theorem s_widowed (h : JJ G f n x) {a0 : Int32} : StI G x mX11_widowed mX12_widowed 7 0 0 3 [.int a0] f n := by
  obtain ⟨b, q, J, L, j, F, K, h1, h2, g, h3⟩ := h
  have ec := e_X11_widowed (m0 := f) (F := j.F) (W := j.W) (A := q.2.2.2) (B := j.B) h1.xo h1.q1 h1.k1 h1.now.f0 h1.now.ok.1 h1.now.f1 h1.now.ok.2.1 (what := a0)
  rw [h1.now.hs] at ec
  refine st_keep h1 h2 h3 ec (v := (wdS q.1 q.2.1 q.2.2.2 a0)) (fun r f1 n1 z => ?_) (fun f1 n1 j1 c1 m1 => ?_)
  · exact kc_0 h1 z
  · have em := e_X12_widowed (m0 := f1) (F := F) (A := q.2.2.2) (L := L) (K := K) c1.q5 c1.k5 m1.m0 c1.now.ok.1 m1.m5 c1.now.ok.2.1 (what := a0)
    rw [m1.hm] at em
    refine ⟨_, em, fun r2 f2 n2 z => ⟨z.1.trans (congrArg some (congrArg Value.int (wd_wid.symm))), ?_⟩⟩
    exact kpM.one z.2.1 z.2.2 rfl rfl rfl rfl
theorem s_alone (h : JJ G f n x) {a0 : Int32} : StI G x mX11_alone mX12_alone 7 0 0 4 [.int a0] f n := by
  obtain ⟨b, q, J, L, j, F, K, h1, h2, g, h3⟩ := h
  have ec := e_X11_alone (m0 := f) (F := j.F) (W := j.W) (A := q.2.2.2) (B := j.B) h1.xo h1.q1 h1.k1 h1.now.f0 h1.now.ok.1 h1.now.f1 h1.now.ok.2.1 h1.now.be (h1.now.who (Or.inl rfl)) h1.ab h1.now.ok.2.2.1 (z := a0)
  rw [h1.now.hs] at ec
  refine st_keep h1 h2 h3 ec (v := (aloS q.1 q.2.2.2 a0)) (fun r f1 n1 z => ?_) (fun f1 n1 j1 c1 m1 => ?_)
  · exact kc_0 h1 z
  · have em := e_X12_alone (m0 := f1) (F := F) (A := q.2.2.2) (L := L) (K := K) c1.q5 c1.k5 m1.m0 c1.now.ok.1 (z := a0)
    rw [m1.hm] at em
    refine ⟨_, em, fun r2 f2 n2 z => ⟨z.1, ?_⟩⟩
    exact kpM.one z.2.1 z.2.2 rfl rfl rfl rfl
theorem s_price (h : JJ G f n x) {a0 : Int32} : StI G x mX11_price mX12_price 7 0 0 4 [.int a0] f n := by
  obtain ⟨b, q, J, L, j, F, K, h1, h2, g, h3⟩ := h
  have ec := e_X11_price (m0 := f) (F := j.F) (W := j.W) (A := q.2.2.2) (B := j.B) h1.xo h1.q1 h1.k1 h1.now.f0 h1.now.ok.1 h1.now.f1 h1.now.ok.2.1 h1.now.be (h1.now.who (Or.inl rfl)) h1.ab h1.now.ok.2.2.1 (z := a0)
  rw [h1.now.hs] at ec
  refine st_keep h1 h2 h3 ec (v := (if a0 < 1 then -1 else pwR q.1 q.2.2.2 a0 100)) (fun r f1 n1 z => ?_) (fun f1 n1 j1 c1 m1 => ?_)
  · exact kc_0 h1 z
  · have em := e_X12_price (m0 := f1) (F := F) (A := q.2.2.2) (L := L) (K := K) c1.q5 c1.k5 m1.m0 c1.now.ok.1 (z := a0)
    rw [m1.hm] at em
    refine ⟨_, em, fun r2 f2 n2 z => ⟨z.1.trans (congrArg some (congrArg Value.int (pw_pri.symm))), ?_⟩⟩
    exact kpM.one z.2.1 z.2.2 rfl rfl rfl rfl
theorem s_envy (h : JJ G f n x) {a0 : Int32} : StI G x mX11_envy mX12_envy 7 0 0 5 [.int a0] f n := by
  obtain ⟨b, q, J, L, j, F, K, h1, h2, g, h3⟩ := h
  have ec := e_X11_envy (m0 := f) (F := j.F) (W := j.W) (A := q.2.2.2) (B := j.B) h1.xo h1.q1 h1.k1 h1.now.f0 h1.now.ok.1 h1.now.f1 h1.now.ok.2.1 h1.now.be (h1.now.who (Or.inl rfl)) h1.ab h1.now.ok.2.2.1 (p := a0)
  rw [h1.now.hs] at ec
  refine st_keep h1 h2 h3 ec (v := (cenS q.1 q.2.2.2 a0)) (fun r f1 n1 z => ?_) (fun f1 n1 j1 c1 m1 => ?_)
  · exact kc_0 h1 z
  · have em := e_X12_envy (m0 := f1) (F := F) (A := q.2.2.2) (L := L) (K := K) c1.q5 c1.k5 m1.m0 c1.now.ok.1 c1.now.ok.2.1 c1.now.ok.2.2.1 (p := a0)
    rw [m1.hm] at em
    refine ⟨_, em, fun r2 f2 n2 z => ⟨z.1.trans (congrArg some (congrArg Value.int ((cen_env h1.now.ok.1).symm))), ?_⟩⟩
    exact kpM.one z.2.1 z.2.2 rfl rfl rfl rfl
theorem s_agreed (h : JJ G f n x) : StI G x mX11_agreed mX12_agreed 9 0 0 6 [] f n := by
  obtain ⟨b, q, J, L, j, F, K, h1, h2, g, h3⟩ := h
  have ec := e_X11_agreed (m0 := f) (F := j.F) (W := j.W) (A := q.2.2.2) (B := j.B) (F3 := j.F3) (W3 := j.W3) (A3 := j.A3) (B3 := j.B3) h1.x2 h1.q1 h1.k1 h1.q3 h1.k3 (by omega) h1.ts (h1.now.w2 (Or.inl rfl) (Or.inr (Or.inr rfl)))
  rw [h1.now.hs, h1.tri] at ec
  refine st_keep h1 h2 h3 ec (v := (agrS q.1 q.2.2.2)) (fun r f1 n1 z => ?_) (fun f1 n1 j1 c1 m1 => ?_)
  · exact kc_t h1 z.1 z.2.1 z.2.2
  · have em := e_X12_agreed (m0 := f1) (F := F) (A := q.2.2.2) (L := L) (K := K) c1.q5 c1.k5 m1.m0 c1.now.ok.1 c1.now.ok.2.1 c1.now.ok.2.2.1
    rw [m1.hm] at em
    refine ⟨_, em, fun r2 f2 n2 z => ⟨z.1, ?_⟩⟩
    obtain ⟨z1, ⟨F', A', K', ⟨k0, k5, k9, k26, kr⟩, z3⟩, z4⟩ := z
    exact kpM.row z3 z4 k0 k5 k9 k26 (fun r hr => kr r (by omega))
theorem s_agreedContent (h : JJ G f n x) : StI G x mX11_agreedContent mX12_agreedContent 9 0 0 6 [] f n := by
  obtain ⟨b, q, J, L, j, F, K, h1, h2, g, h3⟩ := h
  have ec := e_X11_agreedContent (m0 := f) (F := j.F) (W := j.W) (A := q.2.2.2) (B := j.B) (F3 := j.F3) (W3 := j.W3) (A3 := j.A3) (B3 := j.B3) h1.x2 h1.q1 h1.k1 h1.q3 h1.k3 (by omega) h1.ts (h1.now.w2 (Or.inl rfl) (Or.inr (Or.inr rfl)))
  rw [h1.now.hs, h1.tri] at ec
  refine st_keep h1 h2 h3 ec (v := (alS q.1 (chE q.1 60 q.2.2.2))) (fun r f1 n1 z => ?_) (fun f1 n1 j1 c1 m1 => ?_)
  · exact kc_t h1 z.1 z.2.1 z.2.2
  · have em := e_X12_agreedContent (m0 := f1) (F := F) (A := q.2.2.2) (L := L) (K := K) c1.q5 c1.k5 m1.m0 c1.now.ok.1 c1.now.ok.2.1 c1.now.ok.2.2.1
    rw [m1.hm] at em
    refine ⟨_, em, fun r2 f2 n2 z => ⟨z.1, ?_⟩⟩
    obtain ⟨z1, ⟨F', A', K', ⟨k0, k5, k9, k26, kr⟩, z3⟩, z4⟩ := z
    exact kpM.row z3 z4 k0 k5 k9 k26 (fun r hr => kr r (by omega))
theorem s_list (h : JJ G f n x) {a0 : Int32} : StI G x mX11_list mX12_list 9 0 0 5 [.int a0] f n := by
  obtain ⟨b, q, J, L, j, F, K, h1, h2, g, h3⟩ := h
  have ec := e_X11_list (m0 := f) (F := j.F) (W := j.W) (A := q.2.2.2) (B := j.B) (F3 := j.F3) (W3 := j.W3) (A3 := j.A3) (B3 := j.B3) h1.x2 h1.q1 h1.k1 h1.q3 h1.k3 (by omega) h1.ts (h1.now.w2 (Or.inl rfl) (Or.inr (Or.inr rfl))) (what := a0)
  rw [h1.now.hs, h1.tri] at ec
  refine st_keep h1 h2 h3 ec (v := (cliS q.1 q.2.1 q.2.2.2 a0)) (fun r f1 n1 z => ?_) (fun f1 n1 j1 c1 m1 => ?_)
  · exact kc_t h1 z.1 z.2.1 z.2.2
  · have em := e_X12_list (m0 := f1) (F := F) (A := q.2.2.2) (L := L) (K := K) c1.q5 c1.k5 m1.m0 c1.now.ok.1 m1.m5 c1.now.ok.2.1 c1.now.ok.2.2.1 (what := a0)
    rw [m1.hm] at em
    refine ⟨_, em, fun r2 f2 n2 z => ⟨z.1.trans (congrArg some (congrArg Value.int ((cli_lis h1.now.ok.1).symm))), ?_⟩⟩
    obtain ⟨z1, ⟨F', A', K', ⟨k0, k5, k9, k26, kr⟩, z3⟩, z4⟩ := z
    exact kpM.row z3 z4 k0 k5 k9 k26 (fun r hr => kr r (by omega))
theorem s_otherwise (h : JJ G f n x) {a0 : Int32} : StI G x mX11_otherwise mX12_otherwise 22 11 11 7 [.int a0] f n := by
  obtain ⟨b, q, J, L, j, F, K, h1, h2, g, h3⟩ := h
  have ec := e_X11_otherwise (f := f) h1.x1 h1.now.hs h1.tri h1.way h1.q1 h1.k1 h1.q3 h1.k3 h1.q4 h1.k4 (by omega) (by omega) (by omega) h1.x0 (by have := h1.xn; omega) (by omega) (by omega) h1.ts h1.kf h1.zw (q := a0)
  refine st_keep h1 h2 h3 ec (v := (othS q.1 q.2.2.2 a0)) (fun r f1 n1 z => ?_) (fun f1 n1 j1 c1 m1 => ?_)
  · exact kc_th h1 z.1 z.2
  · have em := e_X12_otherwise (m0 := f1) (F := F) (A := q.2.2.2) (L := L) (K := K) c1.q5 c1.k5 m1.m0 c1.now.ok.1 (p := a0)
    rw [m1.hm] at em
    refine ⟨_, em, fun r2 f2 n2 z => ⟨z.1, ?_⟩⟩
    obtain ⟨z1, ⟨A', z2, z3⟩, z4⟩ := z
    exact kpM.row z3 z4 rfl rfl rfl rfl (fun r hr => z2 r (by omega) (by omega))
theorem s_rests (h : JJ G f n x) {a0 : Int32} : StI G x mX11_rests mX12_rests 25 0 0 6 [.int a0] f n := by
  obtain ⟨b, q, J, L, j, F, K, h1, h2, g, h3⟩ := h
  have ec := e_X11_rests (m1 := f) (F := j.F) (W := j.W) (A := q.2.2.2) (B := j.B) (V := j.V) (C := j.C) (Mt := j.Mt) (Wl := j.Wl) (T := j.T) h1.xw h1.q1 h1.k1 h1.q4 h1.k4 (by omega) h1.now.f0 h1.now.ok.1 h1.now.be (i := a0)
  rw [h1.way, h1.now.hs] at ec
  refine st_keep h1 h2 h3 ec (v := (creS q.1 q.2.2.2 j.C j.Mt a0)) (fun r f1 n1 z => ?_) (fun f1 n1 j1 c1 m1 => ?_)
  · exact kc_w h1 z.1 (z.2.1.imp id fun y => ⟨_, _, _, _, _, y⟩) z.2.2
  · have em := e_X12_rests (m0 := f1) (F := F) (A := q.2.2.2) (L := L) (K := K) c1.q5 c1.k5 m1.m0 c1.now.ok.1 (i := a0)
    rw [m1.hm] at em
    refine ⟨_, em, fun r2 f2 n2 z => ⟨z.1.trans (congrArg some (congrArg Value.int ((res_eq h1.now.ok.1).symm))), ?_⟩⟩
    obtain ⟨z1, ⟨A', z2, z3⟩, z4⟩ := z
    exact kpM.row z3 z4 rfl rfl rfl rfl (fun r hr => z2 r (by omega) (by omega))
theorem s_best (h : JJ G f n x) {a0 : Int32} : StI G x mX11_best mX12_best 25 0 0 6 [.int a0] f n := by
  obtain ⟨b, q, J, L, j, F, K, h1, h2, g, h3⟩ := h
  have ec := e_X11_best (m1 := f) (F := j.F) (W := j.W) (A := q.2.2.2) (B := j.B) (V := j.V) (C := j.C) (Mt := j.Mt) (Wl := j.Wl) (T := j.T) h1.xw h1.q1 h1.k1 h1.q4 h1.k4 (by omega) h1.now.f0 h1.now.ok.1 h1.now.be (i := a0)
  rw [h1.way, h1.now.hs] at ec
  refine st_keep h1 h2 h3 ec (v := (cbeS q.1 q.2.2.2 j.C j.Mt a0)) (fun r f1 n1 z => ?_) (fun f1 n1 j1 c1 m1 => ?_)
  · exact kc_w h1 z.1 (z.2.1.imp id fun y => ⟨_, _, _, _, _, y⟩) z.2.2
  · have em := e_X12_best (m0 := f1) (F := F) (A := q.2.2.2) (L := L) (K := K) c1.q5 c1.k5 m1.m0 c1.now.ok.1 (i := a0)
    rw [m1.hm] at em
    refine ⟨_, em, fun r2 f2 n2 z => ⟨z.1.trans (congrArg some (congrArg Value.int ((bes_eq h1.now.ok.1 h1.kf).symm))), ?_⟩⟩
    obtain ⟨z1, z2, z3⟩ := z
    refine kpM.row z2 z3 rfl rfl rfl rfl (fun r hr => ?_)
    by_cases cc : okm q.1 a0 = true
    · rw [if_pos cc]
      exact by unfold lbA moA; rw [if_neg (by omega), if_neg (by omega)]
    · rw [if_neg cc]
end ZB
