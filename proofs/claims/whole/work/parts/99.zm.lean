/-! put, copy -/
section ZM
variable {G : GX} {f f1 f' : Mem} {n n' n1 x : Nat} {b : Int32} {q q' J : SS} {L L' : Nat → Nat → Int64} {j : JD} {F : Nat → Int32} {K : Option Nat} {g : Nat → Int64} {A A' : Nat → Nat → Int32} {Os Rs : Nat → Option Nat}
theorem lb_nr {so v : Int32} : (lbS so v).toInt64 = nrS v so := by
  unfold lbS nrS
  by_cases c : so = 0
  · rw [if_pos c, if_pos c]
  · rw [if_neg c, if_neg c]
    by_cases c1 : so = 1
    · rw [if_pos c1, if_pos c1]
    · rw [if_neg c1, if_neg c1]
theorem ne_ob {a ar ci R : Nat} {fs : List Value} {g1 : Nat → Int32} (h : f a = ob ci fs) (h2 : f ar = ia G R g1) : a ≠ ar := by
  rintro rfl
  rw [h] at h2
  cases h2
theorem JC.putrow (h : JC G f n x b q J L j) {jd b1 ar R : Nat} {g1 g2 : Nat → Int32} (hjd : jd ≤ 7) (e8 : q.2.2.2 8 jd = 2) (eR : j.Rs jd = some b1) (hr : rowM G f n b1 ar R g1 (q.2.2.2 11 jd)) (eK : q.2.2.2 12 jd = nI R) (hL : ∀ d k, d < 8 → d ≠ jd → k < 100 → L' 13 (100 * d + k) = L 13 (100 * d + k)) (hv : rowE L' jd R g2) : ∃ j', JC G (va_up f ar (ia G R g2)) n x b q J L' j' := by
  have haz := ((h.shl.rz jd b1 eR).2.2 _ ar hr.1).1
  have hf : ∀ a, a ≠ ar → va_up f ar (ia G R g2) a = f a := fun a z => vup_ne z
  have hone : ∀ a k g, oneM G f n a k g → va_up f ar (ia G R g2) a = f a := fun a k g ho => hf a (ne_ob ho.choose_spec.choose_spec.2.2.2.2.1 hr.2.2.2.1)
  have hrow : ∀ d b2 so ar2, j.Rs d = some b2 → f b2 = ob 4 [.int so, .ref ar2] → va_up f ar (ia G R g2) b2 = f b2 ∧ (d ≠ jd → va_up f ar (ia G R g2) ar2 = f ar2) := fun d b2 so ar2 e eb => ⟨hf b2 (ne_ob eb hr.2.2.2.1), fun hd => hf ar2 (fun z => hd (h.shl.ra d jd b2 b1 so _ ar2 ar e eR eb hr.1 z))⟩
  refine h.shelf (A' := q.2.2.2) (fun a _ _ => hf a (by omega)) (fun a k g _ ho => hone a k g ho) (Nat.le_refl _) (fun _ _ _ => rfl) (Os' := j.Os) (Rs' := j.Rs) ⟨(hf _ (by omega)).trans h.shl.os, (hf _ (by omega)).trans h.shl.rs, fun d hd => ?_, h.shl.oz, fun d b2 e => ⟨(h.shl.rz d b2 e).1, (h.shl.rz d b2 e).2.1, fun so ar2 eb => ?_⟩, fun d d2 b2 b3 so so2 ar2 ar3 e e2 eb eb2 z => ?_, fun d b2 ar2 R2 g3 hd e eb ea eK2 k hk => ?_, h.shl.so, h.shl.rl⟩
  · rcases h.shl.sh d hd with z | ⟨w8, wR, a, wO, ho⟩ | ⟨w8, wO, b2, ar2, R2, g3, wR, wr, wK⟩
    · exact Or.inl z
    · exact Or.inr (Or.inl ⟨w8, wR, a, wO, ho.at1 (hone a _ _ ho) (Nat.le_refl _)⟩)
    · obtain ⟨y1, y2⟩ := hrow d b2 _ ar2 wR wr.1
      by_cases c : d = jd
      · subst c
        rw [eR] at wR
        cases wR
        obtain ⟨-, rfl⟩ := ob4_i (hr.1.symm.trans wr.1)
        exact Or.inr (Or.inr ⟨w8, wO, b1, ar, R, g2, eR, ⟨y1.trans wr.1, wr.2.1, wr.2.2.1, vup_at, wr.2.2.2.2.1, wr.2.2.2.2.2.1, hr.2.2.2.2.2.2⟩, eK⟩)
      · exact Or.inr (Or.inr ⟨w8, wO, b2, ar2, R2, g3, wR, ⟨y1.trans wr.1, wr.2.1, wr.2.2.1, (y2 c).trans wr.2.2.2.1, wr.2.2.2.2.1, wr.2.2.2.2.2.1, wr.2.2.2.2.2.2⟩, wK⟩)
  · by_cases c : b2 = ar
    · rw [c, vup_at] at eb
      cases eb
    · rw [hf b2 c] at eb
      exact (h.shl.rz d b2 e).2.2 so ar2 eb
  · have n2 : b2 ≠ ar := fun z => by rw [z, vup_at] at eb; cases eb
    have n3 : b3 ≠ ar := fun z => by rw [z, vup_at] at eb2; cases eb2
    rw [hf b2 n2] at eb
    rw [hf b3 n3] at eb2
    exact h.shl.ra d d2 b2 b3 so so2 ar2 ar3 e e2 eb eb2 z
  · have n2 : b2 ≠ ar := fun z => by rw [z, vup_at] at eb; cases eb
    rw [hf b2 n2] at eb
    by_cases c : d = jd
    · subst c
      rw [eR] at e
      cases e
      obtain ⟨-, rfl⟩ := ob4_i (hr.1.symm.trans eb)
      rw [vup_at] at ea
      obtain ⟨rfl, rfl⟩ := ia_i ea
      exact hv k hk
    · rw [(hrow d b2 _ ar2 e eb).2 c] at ea
      have hR : R2 ≤ 100 := by
        rcases h.shl.sh d hd with ⟨w, -, wR⟩ | ⟨w, wR, -⟩ | ⟨w, -, b', ar', R', g', wR, wr, wK⟩
        · rw [wR] at e; cases e
        · rw [wR] at e; cases e
        · rw [wR] at e
          cases e
          obtain ⟨-, rfl⟩ := ob4_i (wr.1.symm.trans eb)
          obtain ⟨rfl, rfl⟩ := ia_i (wr.2.2.2.1.symm.trans ea)
          exact wr.2.2.2.2.2.2
      rw [hL d k hd c (by omega)]
      exact h.shl.va d b2 ar2 R2 g3 hd e eb ea eK2 k hk
theorem s_put (h : JJ G f n x) {a0 a1 a2 : Int32} : StI G x mX11_put mX12_put 8 0 0 3 [.int a0, .int a1, .int a2] f n := by
  obtain ⟨b, q, J, L, j, F, K, h1, h2, g, h3⟩ := h
  have hxn := h1.xn
  have hx0 := h1.x0
  have ec := e_X11_put h1.xs h1.shl.sh (d := a0) (i := a1) (v := a2)
  refine st_shl (A' := q.2.2.2) (L' := ptL q.2.2.2 L a0 a1 a2) (v := ptR q.2.2.2 a0 a1) h2 h3 ec (fun _ _ => rfl) (fun r f1 n1 z => ?_) (fun f1 n1 k1 k0 m1 => ?_)
  · obtain ⟨rfl, rfl, ⟨rfl, z⟩ | ⟨jd, b1, ar, R, g1, ji, hjd, rfl, e8, eR, hr, eK, hji, rfl, rfl⟩⟩ := z
    · refine ⟨rfl, ⟨j, ?_⟩, fun _ _ _ => rfl⟩
      have hc : ¬ (¬ wkS (q.2.2.2 8) 2 a0 < 0 ∧ okp (q.2.2.2 12 a0.toNatClampNeg).toNatClampNeg a1 = true) := fun c => z (by
        unfold ptR
        rw [if_neg c.1, if_pos c.2])
      unfold ptL
      rw [if_neg hc]
      exact h1
    · have hR := hr.2.2.2.2.2.2
      have haz := ((h1.shl.rz jd b1 eR).2.2 _ ar hr.1).1
      have hc : ¬ wkS (q.2.2.2 8) 2 (nI jd) < 0 ∧ okp (q.2.2.2 12 (nI jd).toNatClampNeg).toNatClampNeg (nI ji) = true := by
        refine ⟨wk_2n hjd e8, ?_⟩
        rw [nI_clamp (show jd < 2 ^ 31 by omega), eK, nI_clamp (show R < 2 ^ 31 by omega)]
        exact nI_okp hji (by omega)
      have eL : ptL q.2.2.2 L (nI jd) (nI ji) a2 = upA L 13 (100 * jd + ji) (nrS a2 (q.2.2.2 11 jd)) := by
        unfold ptL
        rw [if_pos hc, nI_clamp (show jd < 2 ^ 31 by omega), nI_clamp (show ji < 2 ^ 31 by omega)]
      refine ⟨rfl, h1.putrow hjd e8 eR hr eK (fun d k hd hne hk => ?_) (fun k hk => ?_), fun a z1 z2 => vup_ne (by omega)⟩
      · rw [eL, upA_s]
        exact if_neg (by omega)
      · rw [eL, upA_s]
        have hrow := h1.row hjd eR hr eK
        show (if 100 * jd + k = 100 * jd + ji then nrS a2 (q.2.2.2 11 jd) else L 13 (100 * jd + k)) = (if k = ji then lbS (q.2.2.2 11 jd) a2 else g1 k).toInt64
        by_cases c : k = ji
        · rw [if_pos c, if_pos (by omega), lb_nr]
        · rw [if_neg c, if_neg (by omega)]
          exact hrow k hk
  · have em := e_X12_put (G := G) (n := n1) (m0 := f1) (q := x + 35) (F := F) (A := q.2.2.2) (L := L) (K := K) (by omega) (by omega) h1.shl.rl (d := a0) (i := a1) (v := a2)
    rw [m1.hm] at em
    exact ⟨_, em, fun r2 f2 n2 z => z⟩
theorem co_hr {R c a : Nat} (hR : R ≤ 100) (hc : c < 2 ^ 31) (ha : a < 2 ^ 31) : nI R - nI c < nI a ↔ R < a + c := by
  rw [i32_lt, Int32.toInt_sub, nI_toInt (by omega), nI_toInt hc, nI_toInt ha, Int.bmod_eq_of_le (by omega) (by omega)]
  omega
theorem hr_iff {R : Nat} {i y : Int32} (hR : R ≤ 100) : (¬ y < 0 ∧ ¬ i < 0 ∧ ¬ nI R - y < i) ↔ hrS R i y = true := by
  unfold hrS
  rw [decide_eq_true_iff]
  constructor
  · rintro ⟨h1, h2, h3⟩
    obtain ⟨c, hc, rfl⟩ := nI_of h1
    obtain ⟨a, ha, rfl⟩ := nI_of h2
    rw [co_hr hR hc ha] at h3
    refine ⟨h2, h1, fun z => ?_, fun z => ?_⟩
    · have := (nI_ltl (by omega) ha).mp z
      omega
    · rw [co_hr hR ha hc] at z
      omega
  · rintro ⟨h1, h2, h3, h4⟩
    obtain ⟨a, ha, rfl⟩ := nI_of h1
    obtain ⟨c, hc, rfl⟩ := nI_of h2
    rw [co_hr hR ha hc] at h4
    refine ⟨h2, h1, fun z => ?_⟩
    rw [co_hr hR hc ha] at z
    omega
theorem s_copy (h : JJ G f n x) {a0 a1 a2 a3 a4 : Int32} : StI G x mX11_copy mX12_copy 8 0 0 3 [.int a0, .int a1, .int a2, .int a3, .int a4] f n := by
  obtain ⟨b, q, J, L, j, F, K, h1, h2, g, h3⟩ := h
  have hxn := h1.xn
  have hx0 := h1.x0
  have ec := e_X11_copy h1.xs h1.shl.sh (d := a0) (i := a1) (e := a2) (j := a3) (x2 := a4)
  refine st_shl (A' := q.2.2.2) (L' := coL q.2.2.2 L a0 a1 a2 a3 a4) (v := coR q.2.2.2 a0 a1 a2 a3 a4) h2 h3 ec (fun _ _ => rfl) (fun r f1 n1 z => ?_) (fun f1 n1 k1 k0 m1 => ?_)
  · have cb : ∀ jd je R R2, jd ≤ 7 → je ≤ 7 → q.2.2.2 12 jd = nI R → q.2.2.2 12 je = nI R2 → R ≤ 100 → R2 ≤ 100 → (coB q.2.2.2 (nI jd) a1 (nI je) a3 a4 = false ↔ hrS R a1 a4 = true ∧ hrS R2 a3 a4 = true) := fun jd je R R2 h1 h2 e1 e2 k1 k2 => by
      rw [← hr_iff k1, ← hr_iff k2]
      unfold coB
      rw [decide_eq_false_iff_not, nI_clamp (show jd < 2 ^ 31 by omega), nI_clamp (show je < 2 ^ 31 by omega), e1, e2]
      constructor
      · intro z
        exact ⟨⟨fun y => z (Or.inl y), fun y => z (Or.inr (Or.inl y)), fun y => z (Or.inr (Or.inr (Or.inr (Or.inl y))))⟩, fun y => z (Or.inl y), fun y => z (Or.inr (Or.inr (Or.inl y))), fun y => z (Or.inr (Or.inr (Or.inr (Or.inr y))))⟩
      · rintro ⟨⟨y1, y2, y3⟩, -, y5, y6⟩ z
        rcases z with z | z | z | z | z
        · exact y1 z
        · exact y2 z
        · exact y5 z
        · exact y3 z
        · exact y6 z
    have hok : ∀ jd, jd ≤ 7 → okr (nI jd) 0 7 = true := fun jd hj => nI_okr (k := 7) hj (by omega)
    have same : coR q.2.2.2 a0 a1 a2 a3 a4 ≠ a4 ∨ True → ¬ coC q.2.2.2 a0 a1 a2 a3 a4 = true → ∃ j', JC G f n x b (q.1, q.2.1, q.2.2.1, q.2.2.2) J (coL q.2.2.2 L a0 a1 a2 a3 a4) j' := fun _ hc => by
      unfold coL
      rw [if_neg hc]
      exact ⟨j, h1⟩
    obtain ⟨rfl, z⟩ := z
    rcases z with ⟨rfl, z⟩ | ⟨jd, je, b1, ar, R, g1, b2, ar2, R2, g2, hjd, hje, rfl, rfl, e8, e8', e11, eR, eR2, hr, hr2, eK, eK2, y1, y2, rfl, rfl⟩
    · rcases z with ⟨z, rfl⟩ | ⟨jd, je, hjd, hje, rfl, rfl, z⟩
      · refine ⟨?_, same (Or.inr trivial) (fun c => z ⟨(of_decide_eq_true c).1, (of_decide_eq_true c).2.1⟩), fun _ _ _ => rfl⟩
        unfold coR
        rw [if_neg z]
      · have ho : okr (nI jd) 0 7 = true ∧ okr (nI je) 0 7 = true := ⟨hok jd hjd, hok je hje⟩
        have c1 : (nI jd).toNatClampNeg = jd := nI_clamp (by omega)
        have c2 : (nI je).toNatClampNeg = je := nI_clamp (by omega)
        rcases z with ⟨z, rfl⟩ | ⟨z1, z2, z3, rfl⟩ | ⟨b1, ar, R, g1, b2, ar2, R2, g2, e8, e8', e11, eR, eR2, hr, hr2, eK, eK2, z, rfl⟩
        · refine ⟨?_, same (Or.inr trivial) (fun c => (of_decide_eq_true c).2.2.1 (by rw [c1, c2]; exact z)), fun _ _ _ => rfl⟩
          unfold coR
          rw [if_pos ho, c1, c2, if_pos z]
        · have hk : ¬ coK q.2.2.2 (nI jd) (nI je) = true := fun c => by
            have c := of_decide_eq_true c
            rw [c1, c2] at c
            rcases z3 with z3 | z3 | z3
            · rw [z3] at c; exact absurd c.1 (by decide)
            · rw [z3] at c; exact absurd c.2.1 (by decide)
            · exact z3 c.2.2
          refine ⟨?_, same (Or.inr trivial) (fun c => hk (of_decide_eq_true c).2.2.2.1), fun _ _ _ => rfl⟩
          unfold coR
          rw [if_pos ho, c1, c2, if_neg (fun y => y.elim z1 z2), if_neg hk]
        · have hb : ¬ coB q.2.2.2 (nI jd) a1 (nI je) a3 a4 = false := fun c => z ((cb jd je R R2 hjd hje eK eK2 hr.2.2.2.2.2.2 hr2.2.2.2.2.2.2).mp c)
          have hk : coK q.2.2.2 (nI jd) (nI je) = true := decide_eq_true (by rw [c1, c2]; exact ⟨e8, e8', e11⟩)
          refine ⟨?_, same (Or.inr trivial) (fun c => hb (of_decide_eq_true c).2.2.2.2), fun _ _ _ => rfl⟩
          unfold coR
          rw [if_pos ho, c1, c2, if_neg (fun y => by
            rcases y with y | y
            · rw [e8] at y; exact absurd y (by decide)
            · rw [e8'] at y; exact absurd y (by decide)), if_pos hk, if_pos (by
            cases hh : coB q.2.2.2 (nI jd) a1 (nI je) a3 a4 with
            | true => rfl
            | false => exact absurd hh hb)]
    · have ho : okr (nI jd) 0 7 = true ∧ okr (nI je) 0 7 = true := ⟨hok jd hjd, hok je hje⟩
      have c1 : (nI jd).toNatClampNeg = jd := nI_clamp (by omega)
      have c2 : (nI je).toNatClampNeg = je := nI_clamp (by omega)
      have hb : coB q.2.2.2 (nI jd) a1 (nI je) a3 a4 = false := (cb jd je R R2 hjd hje eK eK2 hr.2.2.2.2.2.2 hr2.2.2.2.2.2.2).mpr ⟨y1, y2⟩
      have hk : coK q.2.2.2 (nI jd) (nI je) = true := decide_eq_true (by rw [c1, c2]; exact ⟨e8, e8', e11⟩)
      have hn : ¬ (q.2.2.2 8 jd = 0 ∨ q.2.2.2 8 je = 0) := fun y => by
        rcases y with y | y
        · rw [e8] at y; exact absurd y (by decide)
        · rw [e8'] at y; exact absurd y (by decide)
      have hc : coC q.2.2.2 (nI jd) a1 (nI je) a3 a4 = true := decide_eq_true ⟨ho.1, ho.2, by rw [c1, c2]; exact hn, hk, hb⟩
      have haz := ((h1.shl.rz je b2 eR2).2.2 _ ar2 hr2.1).1
      obtain ⟨-, -, w1⟩ := hrS_b hr.2.2.2.2.2.2 y1
      obtain ⟨-, -, w2⟩ := hrS_b hr2.2.2.2.2.2.2 y2
      have hR2 := hr2.2.2.2.2.2.2
      have eL : ∀ k, coL q.2.2.2 L (nI jd) a1 (nI je) a3 a4 13 k = if 100 * je + a3.toNatClampNeg ≤ k ∧ k < 100 * je + a3.toNatClampNeg + a4.toNatClampNeg then L 13 (100 * jd + a1.toNatClampNeg + (k - (100 * je + a3.toNatClampNeg))) else L 13 k := fun k => by
        unfold coL
        rw [if_pos hc, c1, c2]
        rfl
      refine ⟨?_, h1.putrow hje e8' eR2 hr2 eK2 (fun d k hd hne hk => ?_) (fun k hk => ?_), fun a z1 z2 => vup_ne (by omega)⟩
      · unfold coR
        rw [if_pos ho, c1, c2, if_neg hn, if_pos hk, if_neg (by rw [hb]; decide)]
      · rw [eL]
        exact if_neg (by omega)
      · rw [eL]
        unfold va_cpy
        by_cases c : a3.toNatClampNeg ≤ k ∧ k < a3.toNatClampNeg + a4.toNatClampNeg
        · rw [if_pos c, if_pos (by omega), show 100 * jd + a1.toNatClampNeg + (100 * je + k - (100 * je + a3.toNatClampNeg)) = 100 * jd + (a1.toNatClampNeg + (k - a3.toNatClampNeg)) by omega]
          exact h1.row hjd eR hr eK _ (by omega)
        · rw [if_neg c, if_neg (by omega)]
          exact h1.row hje eR2 hr2 eK2 k hk
  · have em := e_X12_copy (G := G) (n := n1) (m0 := f1) (q := x + 35) (F := F) (A := q.2.2.2) (L := L) (K := K) (by omega) (by omega) h1.shl.rl (d := a0) (i := a1) (e := a2) (j := a3) (x := a4)
    rw [m1.hm] at em
    exact ⟨_, em, fun r2 f2 n2 z => z⟩
end ZM
