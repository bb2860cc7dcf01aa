section ZK
variable {G : GX} {f f1 f' : Mem} {n n1 x : Nat} {b : Int32} {q q' J : SS} {L : Nat → Nat → Int64} {j : JD} {F : Nat → Int32} {K : Option Nat} {g : Nat → Int64}
/-- a school of now out of the image, or an image out of the school of now -/
theorem schJ.move {s s2 : Nat} {F : Nat → Int32} {W : Nat → Option Nat} {B : Nat → Int32} (h : schJ G f n x s q F W B) (hs : sc G f' s2 F W q.2.2.2 B = f') (h2 : ∀ a, apZ x a → a < n → f' a = f a) : schJ G f' n x s2 q F W B :=
  ⟨hs, h.f0, h.f1, h.f2, h.be, fun p hp => by
    obtain ⟨a, e, ho⟩ := h.wh p hp
    exact ⟨a, e, ho.at1 (h2 a (h.wz p hp a e) ho.lt.2) (Nat.le_refl _)⟩, h.wz, h.ok, h.tw⟩
theorem im_of {A : Nat → Nat → Int32} {F' : Nat → Int32} {r : Nat → Int32} (h0 : F' 0 = nI q.1) (h5 : F' 5 = nI q.2.1) (h9 : F' 9 = q.2.2.1) (hr : ∀ i, i < 50 → r i = pkS F' q.2.2.2 i) : imR q r := by
  refine ⟨(hr 0 (by omega)).trans h0, (hr 1 (by omega)).trans h5, (hr 2 (by omega)).trans h9, fun c p hc hp => ?_, fun c l hc hl => ?_⟩
  · rw [hr _ (by omega)]
    unfold pkS
    rw [if_neg (by omega), if_neg (by omega), if_neg (by omega), if_pos (by omega), show 1 + (3 + 4 * p + c - 3) % 4 = 1 + c by omega, show (3 + 4 * p + c - 3) / 4 = p by omega]
  · rw [hr _ (by omega)]
    unfold pkS
    rw [if_neg (by omega), if_neg (by omega), if_neg (by omega), if_neg (by omega), show 5 + (35 + 3 * l + c - 35) % 3 = 5 + c by omega, show (35 + 3 * l + c - 35) / 3 = l by omega]
theorem s_image (h : JJ G f n x) : StI G x mX11_image mX12_image 5 0 0 3 [] f n := by
  obtain ⟨b, q, J, L, j, F, K, h1, h2, g, h3⟩ := h
  have hxn := h1.xn
  have ec := e_X11_image (G := G) (n := n) (m0 := f) (s := x + 1) (i0 := x + 10) (F := j.F) (W := j.W) (A := q.2.2.2) (B := j.B) (F2 := j.F2) (W2 := j.W2) (A2 := J.2.2.2) (B2 := j.B2) h1.x1 h1.x0 (by omega) (by omega) (by omega) h1.q1 h1.k1 h1.q2 h1.k2 (by omega) (h1.now.w2 (Or.inl rfl) (Or.inr (Or.inl rfl)))
  rw [h1.now.hs, h1.img.hs] at ec
  refine ⟨_, ec, fun r f1 n1 hq => ?_⟩
  obtain ⟨rfl, e1, rfl⟩ := hq
  have hat : ∀ a, a ≠ x → ¬ (x + 1 ≤ a ∧ a < x + 9) → ¬ (x + 10 ≤ a ∧ a < x + 18) → f1 a = f a := fun a z1 z2 z3 => by
    rw [e1, sc_out (by omega), sc_out (by omega)]
    exact vup_ne z1
  have hx1 : f1 x = ob 11 (xfs (x + 1) (x + 10) (x + 19) (x + 28) (x + 33) (x + 34) 1) := by
    rw [e1, sc_out (by omega), sc_out (by omega)]
    exact vup_at
  have hz : ∀ a, apZ x a → a < n1 → f1 a = f a := fun a z hl => hat a (by rcases z with rfl | rfl | rfl | z <;> omega) (by rcases z with rfl | rfl | rfl | z <;> omega) (by rcases z with rfl | rfl | rfl | z <;> omega)
  have hs1 : sc G f1 (x + 1) j.F j.W q.2.2.2 j.B = f1 := by
    rw [e1, sc_sc (by omega), sc_idem]
  have hs2 : sc G f1 (x + 10) j.F j.W q.2.2.2 j.B = f1 := by rw [e1, sc_idem]
  have c1 : JC G f1 n1 x 1 q q L (j.F, j.W, j.B, j.F, j.W, j.B, j.F3, j.W3, j.A3, j.B3, j.V, j.C, j.Mt, j.Wl, j.T, j.Os, j.Rs) :=
    ⟨h1.x0, h1.xn, hx1, h1.now.move hs1 hz, h1.now.move hs2 hz, sc_of2 h1.tri (fun a _ _ => hat a (by omega) (by omega) (by omega)), wy_of2 h1.way (fun a _ _ => hat a (by omega) (by omega) (by omega)), h1.shl.ext (hat _ (by omega) (by omega) (by omega)) (hat _ (by omega) (by omega) (by omega)) (fun a z1 z2 => hat a (by omega) (by omega) (by omega)) (Nat.le_refl _)⟩
  have ha : ∀ a, x + 35 ≤ a → a < x + 61 → f1 a = f a := fun a z1 z2 => hat a (by omega) (by omega) (by omega)
  have m1 : JM G f1 x b q J L F K := h2.ext (fun a z1 z2 => ha a z1 (by omega))
  have em := e_X12_image (G := G) (n := n1) (m0 := f1) (q := x + 35) (F := F) (A := q.2.2.2) (L := L) (K := K) c1.q5 c1.k5
  rw [m1.hm] at em
  refine ⟨⟨_, by rw [← m1.hm]; exact mo_obj⟩, c1.xn, _, em, fun r2 f2 n2 hq2 => ?_⟩
  obtain ⟨w1, ⟨F', A', ⟨o1, o2, o3⟩, rfl⟩, rfl⟩ := hq2
  have f0 : F' 0 = nI q.1 := (o1 0 (by decide) (by decide)).trans h2.m0
  have f5 : F' 5 = nI q.2.1 := (o1 5 (by decide) (by decide)).trans h2.m5
  have f9 : F' 9 = q.2.2.1 := (o1 9 (by decide) (by decide)).trans h2.m9
  exact ⟨_, rfl, w1.trans (by rw [h2.m9, h1.now.f2]), _, sim_rfl, JJ.mdl c1 ((ha _ (by omega) (by omega)).trans h3) (fun r r1 r2 => o2 r (by omega)) rfl f0 f5 f9 (Or.inr ⟨rfl, (o1 26 (by decide) (by decide)).trans rfl, im_of (A := A') (F' := upd (upd F 16 0) 26 1) h2.m0 h2.m5 h2.m9 o3⟩)⟩
/-- rows that agree where it counts -/
def rwE (A A' : Nat → Nat → Int32) : Prop := (∀ c p, c < 4 → p < 8 → A' (1 + c) p = A (1 + c) p) ∧ ∀ c l, c < 3 → l < 5 → A' (5 + c) l = A (5 + c) l
theorem schOK_E {A' : Nat → Nat → Int32} (h : schOK q) (hr : rwE q.2.2.2 A') : schOK (q.1, q.2.1, q.2.2.1, A') := by
  obtain ⟨k1, k2, k3, k4, k5, k6, k7⟩ := h
  obtain ⟨r1, r2⟩ := hr
  refine ⟨k1, k2, fun p hp => ?_, fun l hl => ?_, fun p hp => ?_, fun l hl => ?_, k7⟩
  · show A' 4 p = 9 ∨ ∃ l, l < q.2.1 ∧ A' 4 p = nI l
    rw [show A' 4 p = q.2.2.2 4 p from r1 3 p (by omega) (by have : p < q.1 := hp; omega)]
    exact k3 p hp
  · show ∃ k, k < 3 ∧ A' 7 l = nI k
    rw [show A' 7 l = q.2.2.2 7 l from r2 2 l (by omega) (by have : l < q.2.1 := hl; omega)]
    exact k4 l hl
  · show (∃ k, k < 8 ∧ A' 1 p = nI k) ∧ (∃ k, k < 10 ∧ A' 2 p = nI k) ∧ ∃ k, k < 6 ∧ A' 3 p = nI k
    have hp8 : p < 8 := by have : p < q.1 := hp; omega
    rw [show A' 1 p = q.2.2.2 1 p from r1 0 p (by omega) hp8, show A' 2 p = q.2.2.2 2 p from r1 1 p (by omega) hp8, show A' 3 p = q.2.2.2 3 p from r1 2 p (by omega) hp8]
    exact k5 p hp
  · show (∃ k, k < 10 ∧ A' 5 l = nI k) ∧ ∃ k, k < 2 ∧ A' 6 l = nI k
    have hl5 : l < 5 := by have : l < q.2.1 := hl; omega
    rw [show A' 5 l = q.2.2.2 5 l from r2 0 l (by omega) hl5, show A' 6 l = q.2.2.2 6 l from r2 1 l (by omega) hl5]
    exact k6 l hl
theorem two2_E {A A' : Nat → Nat → Int32} {N : Nat} (hN : N ≤ 8) (h : two2 N (A 4)) (hr : rwE A A') : two2 N (A' 4) := by
  have e : ∀ p, p < N → A' 4 p = A 4 p := fun p hp => hr.1 3 p (by omega) (by omega)
  intro u v w hu hv hw a1 a2 a3 h9 e1 e2
  rw [e u hu] at h9 e1 e2
  rw [e v hv] at e1
  rw [e w hw] at e2
  exact h u v w hu hv hw a1 a2 a3 h9 e1 e2
theorem sc_mo {q0 s : Nat} {F : Nat → Int32} {W : Nat → Option Nat} {A A2 : Nat → Nat → Int32} {B F2 : Nat → Int32} (h : s + 8 ≤ q0 ∨ q0 + 25 ≤ s) : mo G (sc G f s F W A B) q0 F2 A2 L K = sc G (mo G f q0 F2 A2 L K) s F W A B := by
  funext a
  unfold mo sc
  by_cases h1 : a < q0 ∨ q0 + 25 ≤ a
  · rw [if_pos h1]
    by_cases h2 : a < s ∨ s + 8 ≤ a
    · rw [if_pos h2, if_pos h2]
      exact (if_pos h1).symm
    · rw [if_neg h2, if_neg h2]
  · rw [if_neg h1, if_pos (show a < s ∨ s + 8 ≤ a by omega)]
    exact (if_neg h1).symm
theorem s_restore (h : JJ G f n x) : StI G x mX11_restore mX12_restore 5 0 0 3 [] f n := by
  obtain ⟨b, q, J, L, j, F, K, h1, h2, g, h3⟩ := h
  have hxn := h1.xn
  have ec := e_X11_restore (G := G) (n := n) (m0 := f) (s := x + 1) (i0 := x + 10) (F := j.F) (W := j.W) (A := q.2.2.2) (B := j.B) (F2 := j.F2) (W2 := j.W2) (A2 := J.2.2.2) (B2 := j.B2) h1.x1 h1.x0 (by omega) (by omega) (by omega) h1.q1 h1.k1 h1.q2 h1.k2 (by omega) (h1.img.w2 (Or.inr (Or.inl rfl)) (Or.inl rfl))
  rw [h1.img.hs, h1.now.hs] at ec
  rcases h2.mi with ⟨rfl, z26⟩ | ⟨rfl, z26, zi⟩
  · rw [if_pos rfl, if_pos rfl] at ec
    refine st_keep h1 h2 h3 ec (v := -3) (fun r f1 n1 z => kc_0 h1 z) (fun f1 n1 j1 c1 m1 => ?_)
    have em := e_X12_restore (G := G) (n := n1) (m0 := f1) (q := x + 35) (F := F) (A := q.2.2.2) (L := L) (K := K) c1.q5 c1.k5
    rw [m1.hm, if_pos z26] at em
    refine ⟨_, em, fun r2 f2 n2 z => ⟨z.1, ?_⟩⟩
    obtain ⟨z1, ⟨F', A', K', y1, y2, rfl⟩, z4⟩ := z
    obtain ⟨rfl, rfl⟩ := y1 z26
    exact kpM.one rfl z4 rfl rfl rfl rfl
  · rw [if_neg (show ¬ (1 : Int32) = 0 by decide), if_neg (show ¬ (1 : Int32) = 0 by decide)] at ec
    refine ⟨_, ec, fun r f1 n1 hq => ?_⟩
    obtain ⟨rfl, rfl, rfl⟩ := hq
    have ha : ∀ a, x + 35 ≤ a → a < x + 61 → sc G f (x + 1) j.F2 j.W2 J.2.2.2 j.B2 a = f a := fun a z1 z2 => sc_out (by omega)
    have m1 : JM G (sc G f (x + 1) j.F2 j.W2 J.2.2.2 j.B2) x 1 q J L F K := h2.ext (fun a z1 z2 => ha a z1 (by omega))
    have em := e_X12_restore (G := G) (n := n1) (m0 := sc G f (x + 1) j.F2 j.W2 J.2.2.2 j.B2) (q := x + 35) (F := F) (A := q.2.2.2) (L := L) (K := K) h1.q5 h1.k5
    have hF26 : ¬ F 26 = 0 := by rw [z26]; decide
    rw [m1.hm, if_neg hF26] at em
    refine ⟨⟨_, by rw [← m1.hm]; exact mo_obj⟩, h1.xn, _, em, fun r2 f2 n2 hq2 => ?_⟩
    obtain ⟨w1, ⟨F', A', K', -, y2, rfl⟩, rfl⟩ := hq2
    obtain ⟨u1, u2, u3, u4, u5, u6, u7⟩ := y2 hF26
    obtain ⟨i0, i1, i2, i3, i4⟩ := zi
    have hr : rwE J.2.2.2 A' := ⟨fun c p hc hp => by rw [u6 c p hc, if_pos hp]; exact i3 c p hc hp, fun c l hc hl => by rw [u7 c l hc, if_pos hl]; exact i4 c l hc hl⟩
    have e1 : ∀ p, p < 8 → A' 1 p = J.2.2.2 1 p := fun p hp => hr.1 0 p (by omega) hp
    have e2 : ∀ p, p < 8 → A' 2 p = J.2.2.2 2 p := fun p hp => hr.1 1 p (by omega) hp
    have hm1 : ∀ a, a < x + 35 ∨ x + 60 ≤ a → mo G f (x + 35) F' A' L K' a = f a := fun a z => mo_out (by omega)
    have c0 : JC G (mo G f (x + 35) F' A' L K') n2 x 1 q J L j := h1.ext (fun a z => hm1 a (by omega)) (Nat.le_refl _)
    have c1 := c0.newNow (F' := j.F2) (W' := j.W2) (B' := j.B2) (A' := A') (N := J.1) (M := J.2.1) (P := J.2.2.1) c0.img.f0 c0.img.f1 c0.img.f2 (fun a b' ha' hb' => by
      have hJ := c0.img.ok.1
      rw [c0.img.be a b' ha' hb']
      unfold brS
      rw [e1 a (by omega), e2 a (by omega), e1 b' (by omega), e2 b' (by omega)]) (fun p hp => by
      rw [e1 p hp, e2 p hp]
      exact c0.img.wh p hp) c0.img.wz (schOK_E c0.img.ok hr) (two2_E c0.img.ok.1 c0.img.tw hr) (fun r r1 r2 => u5 r (Or.inr r1))
    refine ⟨_, rfl, w1.trans (by rw [i2, c0.img.f2]), sc G (mo G f (x + 35) F' A' L K') (x + 1) j.F2 j.W2 A' j.B2, ?_, ?_⟩
    · rw [sc_mo (by omega)]
      exact sc_sim sim_rfl (fun _ _ => rfl) (fun _ _ => rfl) (fun i hi => (hr.1 2 i (by omega) hi).symm) (fun i hi => (hr.1 3 i (by omega) hi).symm) (fun _ _ => rfl) (fun i hi => (hr.2 0 i (by omega) hi).symm) (fun i hi => (hr.2 1 i (by omega) hi).symm) (fun i hi => (hr.2 2 i (by omega) hi).symm)
    · refine ⟨1, _, J, L, _, F', K', c1, ⟨?_, u2.trans i0, u3.trans i1, u4.trans i2, Or.inr ⟨rfl, (u1 26 (by decide) (by decide) (by decide) (by decide) (by decide)).trans z26, ?_⟩⟩, g, ?_⟩
      · show mo G (sc G (mo G f (x + 35) F' A' L K') (x + 1) j.F2 j.W2 A' j.B2) (x + 35) F' A' L K' = _
        rw [sc_mo (by omega), mo_idem]
      · show imR J (A' 18)
        rw [u5 18 (Or.inr (by decide))]
        exact ⟨i0, i1, i2, i3, i4⟩
      · rw [sc_out (by omega), hm1 _ (by omega)]
        exact h3
end ZK
