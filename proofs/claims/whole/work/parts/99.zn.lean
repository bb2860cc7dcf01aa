/-! gone, toss, element -/
def StM (G : GX) (x : Nat) (y2 : MD) (d2 : Nat) (As : List Value) (mk : Value → Prop) (r : Option Value) (f1 : Mem) (n1 : Nat) : Prop :=
  (∃ fs, f1 (x + 35) = ob 12 fs) ∧ x + 61 ≤ n1 ∧ ∃ Qm, Ev G y2 d2 0 0 (.ref (x + 35) :: As) f1 n1 Qm ∧ ∀ r2 f2 n2, Qm r2 f2 n2 → ∃ v, mk v ∧ r = some v ∧ r2 = some v ∧ ∃ f3, sim f2 f3 ∧ JJ G f3 n2 x
section ZN
variable {G : GX} {f f1 f' : Mem} {n n' n1 x : Nat} {b : Int32} {q q' J : SS} {L L' : Nat → Nat → Int64} {j : JD} {F : Nat → Int32} {K : Option Nat} {g : Nat → Int64}
theorem s_gone (h : JJ G f n x) {a0 a1 a2 a3 : Int32} : ∃ Qc, Ev G mX11_gone 7 0 0 [.ref x, .int a0, .int a1, .int a2, .int a3] f n Qc ∧ ∀ r f1 n1, Qc r f1 n1 → StM G x mX12_gone 4 [.int a0, .int a1, .int a2, .int a3] (fun v => ∃ k : Int64, v = .long k) r f1 n1 := by
  obtain ⟨b, q, J, L, j, F, K, h1, h2, g, h3⟩ := h
  have ec := e_X11_gone (m0 := f) (F := j.F) (W := j.W) (A := q.2.2.2) (B := j.B) h1.xo h1.q1 h1.k1 h1.now.f1 h1.now.ok.2.1 h1.now.ok.2.2.2.1 (l := a0) (yy := a1) (kk := a2) (pp := a3)
  rw [h1.now.hs] at ec
  refine ⟨_, ec, fun r f1 n1 hq => ?_⟩
  obtain ⟨rfl, rfl, rfl⟩ := hq
  have em := e_X12_gone (G := G) (n := n1) (m0 := f1) (q := x + 35) (F := F) (A := q.2.2.2) (L := L) (K := K) h1.q5 h1.k5 h2.m5 h1.now.ok.2.1 h1.now.ok.2.2.2.1 (l := a0) (t := a1) (k := a2) (part := a3)
  rw [h2.hm] at em
  refine ⟨⟨_, by rw [← h2.hm]; exact mo_obj⟩, h1.xn, _, em, fun r2 f2 n2 hq2 => ?_⟩
  obtain ⟨rfl, rfl, rfl⟩ := hq2
  exact ⟨_, ⟨_, rfl⟩, rfl, by rw [cgo_gon h1.now.ok.2.1 h1.now.ok.2.2.2.1], _, sim_rfl, JJ.mdl h1 h3 (fun _ _ _ => rfl) rfl h2.m0 h2.m5 h2.m9 h2.mi⟩
theorem s_toss (h : JJ G f n x) {a0 : Int32} : ∃ Qc, EvH G mX11_toss [(16, 20, 23, 347), (16, 20, 33, 319), (16, 20, 42, 312)] 7 1 6 [.ref x, .int a0] f n Qc ∧ ∀ r f1 n1, Qc r f1 n1 → StM G x mX12_toss 3 [.int a0] (fun v => ∃ k : Int32, v = .int k) r f1 n1 := by
  obtain ⟨b, q, J, L, j, F, K, h1, h2, g, h3⟩ := h
  have hxn := h1.xn
  refine ⟨_, t_X11_toss h1.xs h1.shl.sh (d := a0), fun r f1 n1 hq => ?_⟩
  obtain ⟨rfl, hz, hn⟩ := hq
  have c1 : JC G f1 n1 x b q J L j := h1.ext (fun a z => hz a (by omega)) hn
  have m1 : JM G f1 x b q J L F K := h2.ext (fun a z1 z2 => hz a (by omega))
  have em := e_X12_toss (G := G) (n := n1) (m0 := f1) (q := x + 35) (F := F) (A := q.2.2.2) (L := L) (K := K) c1.q5 c1.k5 (d := a0)
  rw [m1.hm] at em
  refine ⟨⟨_, by rw [← m1.hm]; exact mo_obj⟩, c1.xn, _, em, fun r2 f2 n2 hq2 => ?_⟩
  obtain ⟨rfl, rfl, rfl⟩ := hq2
  exact ⟨_, ⟨_, rfl⟩, rfl, rfl, _, sim_rfl, JJ.mdl c1 ((hz _ (by omega)).trans h3) (fun _ _ _ => rfl) rfl h2.m0 h2.m5 h2.m9 h2.mi⟩
theorem elT_0 {A : Nat → Nat → Int32} {jd R : Nat} {i : Int32} (hjd : jd ≤ 7) (e8 : A 8 jd = 2) (eK : A 12 jd = nI R) (hR : R ≤ 100) (hi : okp R i = true) : elT A (nI jd) i = 0 := by
  unfold elT
  rw [wk_2 hjd e8, nI_clamp (show jd < 2 ^ 31 by omega), eK, nI_clamp (show R < 2 ^ 31 by omega), if_neg (by decide), if_neg (fun z => by
    rcases z with z | z
    · exact absurd z (by decide)
    · exact z hi)]
theorem elT_1 {A : Nat → Nat → Int32} {d i : Int32} (h : ¬ okr d 0 7 = true) : elT A d i = 1 := by
  have e : wkS (A 8) 2 d = -1 := by
    unfold wkS
    exact if_pos h
  unfold elT
  rw [e, if_pos rfl]
theorem elT_2 {A : Nat → Nat → Int32} {d i : Int32} (h : okr d 0 7 = true) (h2 : ¬ (A 8 d.toNatClampNeg = 2 ∧ okp (A 12 d.toNatClampNeg).toNatClampNeg i = true)) : elT A d i = 2 := by
  have hn : ¬ ¬ okr d 0 7 = true := fun z => z h
  by_cases c0 : A 8 d.toNatClampNeg = 0
  · have e : wkS (A 8) 2 d = -11 := by
      unfold wkS
      rw [if_neg hn, if_pos c0]
    unfold elT
    rw [e, if_neg (show ¬ (-11 : Int32) = -1 by decide), if_pos (Or.inl (show (-11 : Int32) < 0 by decide))]
  · by_cases c2 : A 8 d.toNatClampNeg = 2
    · have e : wkS (A 8) 2 d = 0 := by
        unfold wkS
        rw [if_neg hn, if_neg c0, if_neg (show ¬ ¬ A 8 d.toNatClampNeg = 2 from fun z => z c2)]
      unfold elT
      rw [e, if_neg (show ¬ (0 : Int32) = -1 by decide), if_pos (Or.inr (fun z => h2 ⟨c2, z⟩))]
    · have e : wkS (A 8) 2 d = -12 := by
        unfold wkS
        rw [if_neg hn, if_neg c0, if_pos c2]
      unfold elT
      rw [e, if_neg (show ¬ (-12 : Int32) = -1 by decide), if_pos (Or.inl (show (-12 : Int32) < 0 by decide))]
theorem s_element (h : JJ G f n x) {a0 a1 : Int32} : ∃ Qc, EvH G mL_element [(0, 9, 12, 13), (0, 9, 16, 15)] 7 1 6 [.ref x, .int a0, .int a1, .ref (x + 60)] f n Qc ∧ ∀ r f1 n1, Qc r f1 n1 → ∃ k : Int32, r = some (.int k) ∧ (∃ fs, f1 (x + 35) = ob 12 fs) ∧ x + 61 ≤ n1 ∧ ∃ Qm, Ev G mX12_element 3 0 0 [.ref (x + 35), .int a0, .int a1] f1 n1 Qm ∧ ∀ r2 f2 n2, Qm r2 f2 n2 → (∃ fs, f2 (x + 35) = ob 12 fs) ∧ x + 61 ≤ n2 ∧ ∃ bL g, r2 = some (.long bL) ∧ Ev G mX12_thrown 1 0 0 [.ref (x + 35)] f2 n2 (RD (.int k) f2 n2) ∧ f2 (x + 60) = ja G 1 g ∧ (k = 0 → g 0 = bL) ∧ JJ G f2 n2 x := by
  obtain ⟨b, q, J, L, j, F, K, h1, h2, g, h3⟩ := h
  have hxn := h1.xn
  have hx0 := h1.x0
  refine ⟨_, t_L_element h1.xs h1.shl.sh (d := a0) (i := a1) (oA := x + 60) h3 (by omega) (by omega), fun r f1 n1 hq => ?_⟩
  obtain ⟨k, g', rfl, hz, hn, ho, ek, ev⟩ : ∃ (k : Int32) (g' : Nat → Int64), r = some (.int k) ∧ (∀ z, z < n → z ≠ x + 60 → f1 z = f z) ∧ n ≤ n1 ∧ f1 (x + 60) = ja G 1 g' ∧ elT q.2.2.2 a0 a1 = k ∧ (k = 0 → g' 0 = elV q.2.2.2 L a0 a1) := by
    rcases hq with ⟨rfl, v, ⟨-, -, jd, b1, ar, R, g1, hjd, rfl, e8, eR, hr, eK, hi, ev⟩, rfl, rfl⟩ | ⟨rfl, z1, z2, z3⟩ | ⟨rfl, z0, z1, z2, z3⟩
    · have hR := hr.2.2.2.2.2.2
      have e0 : elT q.2.2.2 (nI jd) a1 = 0 := elT_0 hjd e8 eK hR hi
      refine ⟨0, _, rfl, fun z _ hne => vup_ne hne, Nat.le_refl _, vup_at, e0, fun _ => ?_⟩
      have ev2 : v = (g1 a1.toNatClampNeg).toInt64 := by cases ev; rfl
      unfold elV
      rw [e0, if_neg (by decide), nI_clamp (show jd < 2 ^ 31 by omega)]
      obtain ⟨ji, hji, rfl⟩ := okp_nI hi (by omega)
      rw [nI_clamp (show ji < 2 ^ 31 by omega)] at ev2 ⊢
      rw [h1.row hjd eR hr eK ji hji, ← ev2]
      rfl
    · exact ⟨1, g, rfl, fun z hz _ => z2 z hz, z3, (z2 _ (by omega)).trans h3, elT_1 z1, fun z => absurd z (by decide)⟩
    · exact ⟨2, g, rfl, fun z hz _ => z2 z hz, z3, (z2 _ (by omega)).trans h3, elT_2 z0 z1, fun z => absurd z (by decide)⟩
  have c1 : JC G f1 n1 x b q J L j := h1.ext (fun a z => hz a (by omega) (by omega)) hn
  have m1 : JM G f1 x b q J L F K := h2.ext (fun a z1 z2 => hz a (by omega) (by omega))
  have em := e_X12_element (G := G) (n := n1) (m0 := f1) (q := x + 35) (F := F) (A := q.2.2.2) (L := L) (K := K) c1.q5 c1.k5 c1.shl.rl (d := a0) (i := a1)
  rw [m1.hm] at em
  refine ⟨k, rfl, ⟨_, by rw [← m1.hm]; exact mo_obj⟩, c1.xn, _, em, fun r2 f2 n2 hq2 => ?_⟩
  obtain ⟨rfl, rfl, rfl⟩ := hq2
  refine ⟨⟨_, mo_obj⟩, c1.xn, _, g', rfl, ?_, (mo_out (by omega)).trans ho, ev, JJ.mdl c1 ho (fun _ _ _ => rfl) rfl h2.m0 h2.m5 h2.m9 h2.mi⟩
  have et := e_X12_thrown (G := G) (n := n2) (m0 := f1) (q := x + 35) (F := upd F 16 (elT q.2.2.2 a0 a1)) (A := q.2.2.2) (L := L) (K := K) c1.q5 c1.k5
  rw [show upd F 16 (elT q.2.2.2 a0 a1) 16 = k from ek] at et
  exact et
end ZN
