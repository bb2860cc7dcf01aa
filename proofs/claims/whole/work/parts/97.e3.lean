/-! told changes, looked at by the class -/
def jdH (N : Nat) (A : Nat → Nat → Int32) (i : Nat) : Bool × (Nat → Nat → Int32) := if i = 0 then (true, A) else jdS N A (i - 1)
def cjP (N : Nat) (A : Nat → Nat → Int32) (so : Int32) (g : Nat → Int32) (i : Nat) : Bool := decide (¬ g i = lnS so ∧ ¬ ((jdS N A i).1 = true ∧ g i = alS N (jdS N A i).2))
def jgQ (G : GX) (f : Mem) (t n N : Nat) (A : Nat → Nat → Int32) (Rs : Nat → Option Nat) (d : Int32) : RQ := fun r f1 n1 => n1 = n ∧ (∃ F4 W4 A4 B4, f1 = sc G f t F4 W4 A4 B4) ∧ ((wkS (A 8) 2 d < 0 ∧ r = some (.int (wkS (A 8) 2 d))) ∨ ∃ jd b ar R g, jd ≤ 7 ∧ d = nI jd ∧ A 8 jd = 2 ∧ Rs jd = some b ∧ rowM G f n b ar R g (A 11 jd) ∧ A 12 jd = nI R ∧ r = some (.int (fsB (cjP N A (A 11 jd) g) 0 R)))
theorem jdH_s {N i : Nat} {A : Nat → Nat → Int32} : jdH N A (i + 1) = jdS N A i := by
  unfold jdH
  rw [if_neg (by omega), Nat.add_sub_cancel]
theorem jdH_p {N i : Nat} {A : Nat → Nat → Int32} (h : ¬ i ≤ 0) : jdH N A i = jdS N A (i - 1) := by
  unfold jdH
  rw [if_neg (by omega)]
theorem jdS_0 {N : Nat} {A : Nat → Nat → Int32} : jdS N A 0 = (true, A) := rfl
/-- at i: from the head's state to the state in which the i-th number is held against -/
theorem jd_a {N i : Nat} {A : Nat → Nat → Int32} (h : i ≤ 0) : jdH N A i = jdS N A i := by
  obtain rfl : i = 0 := by omega
  rfl
theorem jd_b {N i : Nat} {A : Nat → Nat → Int32} (h : ¬ i ≤ 0) (hj : (jdH N A i).1 = false ∨ 60 < i ∨ nxS N (jdH N A i).2 < 0) : (jdS N A i).1 = false ∧ (jdS N A i).2 = (jdH N A i).2 := by
  rw [jdH_p h] at hj ⊢
  have e : i = i - 1 + 1 := by omega
  have := jd_f (N := N) (k := i - 1) (A := A) (by rw [← e]; exact hj)
  rw [← e] at this
  exact this
theorem jd_c {N i : Nat} {A : Nat → Nat → Int32} (h : ¬ i ≤ 0) (hj : (jdH N A i).1 = true) (h6 : ¬ 60 < i) (hx : ¬ nxS N (jdH N A i).2 < 0) (hN : N ≤ 8) : (jdS N A i).1 = true ∧ (jdS N A i).2 = chg (jdH N A i).2 (nxS N (jdH N A i).2) := by
  rw [jdH_p h] at hj hx ⊢
  have e : i = i - 1 + 1 := by omega
  obtain ⟨a, b, h1, h2, h3⟩ := nxS_nI hx
  have := jd_t (N := N) (k := i - 1) (A := A) (a := a) (b := b) hj (by omega) hx (by omega) (by omega) h3
  rw [← e] at this
  refine ⟨this.1, ?_⟩
  rw [this.2, chg_i (by omega) (by omega) h3]
theorem jdH_ok {N M : Nat} (hN : N ≤ 8) {A : Nat → Nat → Int32} (h : insOK N M (A 4)) (k : Nat) : insOK N M ((jdH N A k).2 4) ∧ seR A (jdH N A k).2 := by
  unfold jdH
  by_cases e : k = 0
  · rw [if_pos e]; exact ⟨h, seR_0⟩
  · rw [if_neg e]; exact jdS_ok hN h _
theorem tsH.to {G : GX} {m : Mem} {s t n N M : Nat} {F : Nat → Int32} {W : Nat → Option Nat} {A : Nat → Nat → Int32} {B : Nat → Int32} (h : tsH G m s n N M F W A B) (hz : wP (zST s t) W) : tsH G m t n N M F W A B := ⟨h.hN, h.hN8, h.hM, h.hM5, h.hbe, whoT h.hw hz, h.hab, h.hI⟩
section E3
variable {G : GX} {m0 f : Mem} {x s i0 t w os rs n N M : Nat} {F F3 : Nat → Int32} {W W3 : Nat → Option Nat} {A A3 : Nat → Nat → Int32} {B B3 : Nat → Int32} {b : Int32} {Os Rs : Nat → Option Nat}
set_option maxHeartbeats 4000000 in
set_option maxRecDepth 100000 in
theorem e_X11_judge (hX : xsK G f x s i0 t w os rs n b Os Rs) (hS : ∀ d, d < 8 → shD G f n Os Rs A d) (hs : sc G f s F W A B = f) (htr : sc G f t F3 W3 A3 B3 = f) (hq : G.2.1 ≤ s) (hn : s + 8 ≤ n) (hqt : G.2.1 ≤ t) (hnt : t + 8 ≤ n) (hdj : s + 8 ≤ t ∨ t + 8 ≤ s) (hxt : x < t ∨ t + 8 ≤ x) (h : tsH G f s n N M F W A B) (hok : schOK (N, M, F 2, A)) (hz : wP (zST s t) W) (hOt : shO f t Os Rs) {d : Int32} : Ev G mX11_judge 9 0 0 [.ref x, .int d] f n (jgQ G f t n N A Rs d) := by
  generalize hQ9 : (jgQ G f t n N A Rs d : RQ) = Q9
  refine ev_of (by decide) (Nat.le_of_ble_eq_true rfl) (ls := [some (.ref x), some (.int d), none, none, none]) rfl (fun hb => ?_)
  by_cases hOd : okr d 0 7 = true
  · obtain ⟨jd, hjd, rfl⟩ := okr_nI (k := 7) rfl (by omega) hOd
    have kjd : (nI jd).toNatClampNeg = jd := nI_clamp (by omega)
    rcases hS jd (by omega) with ⟨e8jd, eOjd, eRjd⟩ | ⟨e8jd, eRjd, ajd, eOjd, hojd⟩ | ⟨e8jd, eOjd, bjd, arjd, Rjd, gjd, eRjd, hrjd, eKjd⟩
    · refine go_aload_n dX11_judge_0 rfl ?_
      refine go_iload_n dX11_judge_1 rfl ?_
      refine go_Vr [.int (nI jd)] [] dX11_judge_2 vl_X11_45 ⟨by decide, by decide⟩ (e_X11_rowOn hX) hX.1 hX.2.1 hX.2.2.1 rfl rfl (Nat.le_of_ble_eq_true rfl) (Nat.le_of_ble_eq_true rfl) (Nat.le_of_ble_eq_true rfl) ?_
      refine go_tv (w := .null) (by rw [if_pos hOd, nI_clamp (by omega), eRjd]; rfl) ?_
      refine go_astore_nN (ls' := [some (.ref x), some (.int (nI jd)), some (.null), none, none]) dX11_judge_5 ⟨by decide, rfl, rfl⟩ ?_
      refine go_aload_nN dX11_judge_6 rfl ?_
      refine go_ifnonnullN dX11_judge_7 ?_
      refine go_aload_n dX11_judge_10 rfl ?_
      refine go_iload_n dX11_judge_11 rfl ?_
      refine go_Vr [.int (nI jd)] [] dX11_judge_12 vl_X11_49 ⟨by decide, by decide⟩ (e_X11_whyNoRow hX hS) hX.1 hX.2.1 hX.2.2.1 rfl rfl (Nat.le_of_ble_eq_true rfl) (Nat.le_of_ble_eq_true rfl) (Nat.le_of_ble_eq_true rfl) ?_
      refine go_tp (z := (-11)) (by rw [if_pos hOd, nI_clamp (by omega), e8jd]; rfl) ?_
      exact go_iret dX11_judge_15 rfl (Nat.le_of_ble_eq_true rfl) (Nat.le_of_ble_eq_true rfl) (hQ9 ▸ ⟨rfl, ⟨_, _, _, _, htr.symm⟩, Or.inl ⟨by rw [wk_0 hOd hjd e8jd]; decide, by rw [wk_0 hOd hjd e8jd]⟩⟩)
    · refine go_aload_n dX11_judge_0 rfl ?_
      refine go_iload_n dX11_judge_1 rfl ?_
      refine go_Vr [.int (nI jd)] [] dX11_judge_2 vl_X11_45 ⟨by decide, by decide⟩ (e_X11_rowOn hX) hX.1 hX.2.1 hX.2.2.1 rfl rfl (Nat.le_of_ble_eq_true rfl) (Nat.le_of_ble_eq_true rfl) (Nat.le_of_ble_eq_true rfl) ?_
      refine go_tv (w := .null) (by rw [if_pos hOd, nI_clamp (by omega), eRjd]; rfl) ?_
      refine go_astore_nN (ls' := [some (.ref x), some (.int (nI jd)), some (.null), none, none]) dX11_judge_5 ⟨by decide, rfl, rfl⟩ ?_
      refine go_aload_nN dX11_judge_6 rfl ?_
      refine go_ifnonnullN dX11_judge_7 ?_
      refine go_aload_n dX11_judge_10 rfl ?_
      refine go_iload_n dX11_judge_11 rfl ?_
      refine go_Vr [.int (nI jd)] [] dX11_judge_12 vl_X11_49 ⟨by decide, by decide⟩ (e_X11_whyNoRow hX hS) hX.1 hX.2.1 hX.2.2.1 rfl rfl (Nat.le_of_ble_eq_true rfl) (Nat.le_of_ble_eq_true rfl) (Nat.le_of_ble_eq_true rfl) ?_
      refine go_tp (z := (-12)) (by rw [if_pos hOd, nI_clamp (by omega), e8jd]; rfl) ?_
      exact go_iret dX11_judge_15 rfl (Nat.le_of_ble_eq_true rfl) (Nat.le_of_ble_eq_true rfl) (hQ9 ▸ ⟨rfl, ⟨_, _, _, _, htr.symm⟩, Or.inl ⟨by rw [wk_x hOd hjd (by rw [e8jd]; decide) (by rw [e8jd]; decide)]; decide, by rw [wk_x hOd hjd (by rw [e8jd]; decide) (by rw [e8jd]; decide)]⟩⟩)
    · refine go_aload_n dX11_judge_0 rfl ?_
      refine go_iload_n dX11_judge_1 rfl ?_
      refine go_Vr [.int (nI jd)] [] dX11_judge_2 vl_X11_45 ⟨by decide, by decide⟩ (e_X11_rowOn hX) hX.1 hX.2.1 hX.2.2.1 rfl rfl (Nat.le_of_ble_eq_true rfl) (Nat.le_of_ble_eq_true rfl) (Nat.le_of_ble_eq_true rfl) ?_
      refine go_tv (w := .ref bjd) (by rw [if_pos hOd, nI_clamp (by omega), eRjd]; rfl) ?_
      refine go_astore_n (ls' := [some (.ref x), some (.int (nI jd)), some (.ref bjd), none, none]) dX11_judge_5 ⟨by decide, rfl, rfl⟩ ?_
      refine go_aload_n dX11_judge_6 rfl ?_
      refine go_ifnonnull dX11_judge_7 ?_
      refine go_aload_n dX11_judge_16 rfl ?_
      refine go_get dX11_judge_17 fl_X11_19_11 hX.1 hX.2.1 hX.2.2.1 rfl ?_
      refine go_aload_n dX11_judge_20 rfl ?_
      refine go_get dX11_judge_21 fl_X11_10_11 hX.1 hX.2.1 hX.2.2.1 rfl ?_
      refine go_mem (f' := sc G (sc G f s F W A B) t F3 W3 A3 B3) (by rw [hs, htr]) ?_
      refine go_V [.ref s] [] dX11_judge_24 vl_X11_61 ⟨by omega, by decide⟩ (e_X5_becomes2 hqt hnt hq hn hdj (who2s h.hw hz)) sc_obj hqt (by omega) rfl rfl (Nat.le_of_ble_eq_true rfl) (Nat.le_of_ble_eq_true rfl) (Nat.le_of_ble_eq_true rfl) (fun rb fb nb hb => ?_)
      obtain ⟨hb1, hb2, hb3⟩ := hb
      subst rb
      subst fb
      subst nb
      refine go_mem (f' := (sc G f t F W A B)) (by rw [hs]) ?_
      have hbo := (hOt.2 jd bjd eRjd).1
      have hao := (hOt.2 jd bjd eRjd).2 _ _ hrjd.1
      have hxo : (sc G f t F W A B) x = ob 11 (xfs s i0 t w os rs b) := (sc_out hxt).trans hX.1
      have hxn := hX.2.2.1
      have hbn := hrjd.2.2.1
      have han := hrjd.2.2.2.2.2.1
      have hrb : (sc G f t F W A B) bjd = ob 4 [.int (A 11 jd), .ref arjd] := (sc_out hbo).trans hrjd.1
      have hra : (sc G f t F W A B) arjd = ia G Rjd gjd := (sc_out hao).trans hrjd.2.2.2.1
      refine go_iconst (v := 0) dX11_judge_27 rfl ?_
      refine go_istore_n (ls' := [some (.ref x), some (.int (nI jd)), some (.ref bjd), some (.int 0), none]) dX11_judge_28 ⟨by decide, rfl, rfl⟩ ?_
      refine go_iconst (v := 0) dX11_judge_29 rfl ?_
      refine go_istore (ls' := [some (.ref x), some (.int (nI jd)), some (.ref bjd), some (.int 0), some (.int 0)]) dX11_judge_30 ⟨by decide, rfl, rfl⟩ ?_
      have lp0 : ∀ (μ_lp0 : Nat) (i : Nat) (hi : i ≤ Rjd) (hmi : Rjd + 1 ≤ i + μ_lp0) (hx : fsB (cjP N A (A 11 jd) gjd) 0 Rjd = fsB (cjP N A (A 11 jd) gjd) i (Rjd - i)), Go G mX11_judge 9 0 0 Q9 0 0 32 [some (.ref x), some (.int (nI jd)), some (.ref bjd), some (.int (if (jdH N A i).1 = true then 0 else 1)), some (.int (nI i))] [] (sc G f t F W (jdH N A i).2 B) n := by
        intro μ_lp0
        induction μ_lp0 with
        | zero =>
          intro i hi hmi hx
          exact absurd hmi (by omega)
        | succ μ_lp0 ih_lp0 =>
          intro i hi hmi hx
          have hR := hrjd.2.2.2.2.2.2
          have hjo := jdH_ok (M := M) h.hN8 h.hI i
          have hts := (h.to (t := t) hz).seR hjo.2.1 hjo.1
          have hrb : (sc G f t F W (jdH N A i).2 B) bjd = ob 4 [.int (A 11 jd), .ref arjd] := (sc_out hbo).trans hrjd.1
          have hra : (sc G f t F W (jdH N A i).2 B) arjd = ia G Rjd gjd := (sc_out hao).trans hrjd.2.2.2.1
          have hxo : (sc G f t F W (jdH N A i).2 B) x = ob 11 (xfs s i0 t w os rs b) := (sc_out hxt).trans hX.1
          by_cases hj : (jdH N A i).1 = true
          · refine go_ls (ls' := [some (.ref x), some (.int (nI jd)), some (.ref bjd), some (.int 0), some (.int (nI i))]) (by rw [if_pos hj]) ?_
            refine go_iload dX11_judge_32 rfl ?_
            refine go_aload_n dX11_judge_34 rfl ?_
            refine go_Vr [] [.int (nI i)] dX11_judge_35 vl_X11_65 ⟨by omega, by decide⟩ (e_X4_size (f := (sc G f t F W (jdH N A i).2 B)) (n := n) (g := gjd) (R := Rjd) (so := A 11 jd) (ar := arjd) hrb hrjd.2.1 (by omega) hra hrjd.2.2.2.2.1 (by omega) hrjd.2.2.2.2.2.2) hrb hrjd.2.1 (by omega) rfl rfl (Nat.le_of_ble_eq_true rfl) (Nat.le_of_ble_eq_true rfl) (Nat.le_of_ble_eq_true rfl) ?_
            refine go_icmp_ge dX11_judge_38 (fun c38 => ?_) (fun c38 => ?_)
            · have c38n := (nI_leI (a := Rjd) (b := i) (by omega) (by omega)).mp c38
              have c38n := Nat.not_lt.mpr c38n
              have c38 := Int32.not_lt.mpr c38
              refine go_bipush (v := (-4)) dX11_judge_115 rfl ?_
              exact go_iret dX11_judge_117 rfl (Nat.le_of_ble_eq_true rfl) (Nat.le_of_ble_eq_true rfl) (hQ9 ▸ ⟨rfl, ⟨_, _, _, _, rfl⟩, Or.inr ⟨jd, bjd, arjd, Rjd, gjd, hjd, rfl, e8jd, eRjd, hrjd, eKjd, rd_i (by rw [hx, show i = Rjd by omega, fsB_0])⟩⟩)
            · have c38n := mt (nI_leI (a := Rjd) (b := i) (by omega) (by omega)).mpr c38
              have c38n := Nat.lt_of_not_le c38n
              have c38 := Int32.not_le.mp c38
              refine go_iload dX11_judge_41 rfl ?_
              refine go_if_le dX11_judge_43 (fun c43 => ?_) (fun c43 => ?_)
              · have c43n := (n0_le (a := i) (by omega)).mp c43
                have hJ : (jdS N A i).1 = true ∧ (jdS N A i).2 = (jdH N A i).2 := by rw [← jd_a (N := N) (A := A) c43n]; exact ⟨hj, rfl⟩
                have hJ1 := hJ.1
                refine go_mem (f' := (sc G f t F W (jdS N A i).2 B)) (by rw [hJ.2]) ?_
                have hrb : (sc G f t F W (jdS N A i).2 B) bjd = ob 4 [.int (A 11 jd), .ref arjd] := (sc_out hbo).trans hrjd.1
                have hra : (sc G f t F W (jdS N A i).2 B) arjd = ia G Rjd gjd := (sc_out hao).trans hrjd.2.2.2.1
                have hxo : (sc G f t F W (jdS N A i).2 B) x = ob 11 (xfs s i0 t w os rs b) := (sc_out hxt).trans hX.1
                have hso := jdS_ok (M := M) h.hN8 h.hI i
                have hts := (h.to (t := t) hz).seR hso.2.1 hso.1
                refine go_aload_n dX11_judge_73 rfl ?_
                refine go_iload dX11_judge_74 rfl ?_
                refine go_Vr [.int (nI i)] [] dX11_judge_76 vl_X11_73 ⟨by omega, by decide⟩ (e_X4_at (f := (sc G f t F W (jdS N A i).2 B)) (n := n) (g := gjd) (R := Rjd) (so := A 11 jd) (ar := arjd) hrb hrjd.2.1 (by omega) hra hrjd.2.2.2.2.1 (by omega) hrjd.2.2.2.2.2.2) hrb hrjd.2.1 (by omega) rfl rfl (Nat.le_of_ble_eq_true rfl) (Nat.le_of_ble_eq_true rfl) (Nat.le_of_ble_eq_true rfl) ?_
                refine go_tp (z := gjd i) (rdC_in (by omega) hrjd.2.2.2.2.2.2) ?_
                refine go_aload_n dX11_judge_79 rfl ?_
                refine go_Vr [] [.int (gjd i)] dX11_judge_80 vl_X11_275 ⟨by omega, by decide⟩ (e_X4_leastNumber (f := (sc G f t F W (jdS N A i).2 B)) (n := n) (g := gjd) (R := Rjd) (so := A 11 jd) (ar := arjd) hrb hrjd.2.1 (by omega) hra hrjd.2.2.2.2.1 (by omega) hrjd.2.2.2.2.2.2) hrb hrjd.2.1 (by omega) rfl rfl (Nat.le_of_ble_eq_true rfl) (Nat.le_of_ble_eq_true rfl) (Nat.le_of_ble_eq_true rfl) ?_
                refine go_icmp_eq dX11_judge_83 (fun c83 => ?_) (fun c83 => ?_)
                · refine go_iinc (v := nI (i + 1)) (ls' := [some (.ref x), some (.int (nI jd)), some (.ref bjd), some (.int 0), some (.int (nI (i + 1)))]) dX11_judge_109 rfl (nI_1 (i)) ⟨by decide, rfl, rfl⟩ ?_
                  refine go_goto dX11_judge_112 ?_
                  refine go_mem (f' := (sc G f t F W (jdH N A (i + 1)).2 B)) (by rw [jdH_s]) ?_
                  refine go_ls (ls' := [some (.ref x), some (.int (nI jd)), some (.ref bjd), some (.int (if (jdH N A (i + 1)).1 = true then 0 else 1)), some (.int (nI (i + 1)))]) (by rw [jdH_s, hJ1]; rfl) ?_
                  exact ih_lp0 (i + 1) (by omega) (by omega) (by rw [hx, fsB_d (by omega), if_neg (show ¬ cjP N A (A 11 jd) gjd i = true from fun z => (of_decide_eq_true z).1 c83)])
                · refine go_iload_n dX11_judge_86 rfl ?_
                  refine go_if_ne dX11_judge_87 (fun c87 => ?_) (fun c87 => ?_)
                  · have c87n := mt (n0_eq (a := 0) (by omega)).mpr c87
                    first | exact absurd c87n (by decide) | exact absurd (by decide) c87n | exact absurd rfl c87n | omega
                  · have c87n := (n0_eq (a := 0) (by omega)).mp c87
                    refine go_aload_n dX11_judge_90 rfl ?_
                    refine go_iload dX11_judge_91 rfl ?_
                    refine go_Vr [.int (nI i)] [] dX11_judge_93 vl_X11_73 ⟨by omega, by decide⟩ (e_X4_at (f := (sc G f t F W (jdS N A i).2 B)) (n := n) (g := gjd) (R := Rjd) (so := A 11 jd) (ar := arjd) hrb hrjd.2.1 (by omega) hra hrjd.2.2.2.2.1 (by omega) hrjd.2.2.2.2.2.2) hrb hrjd.2.1 (by omega) rfl rfl (Nat.le_of_ble_eq_true rfl) (Nat.le_of_ble_eq_true rfl) (Nat.le_of_ble_eq_true rfl) ?_
                    refine go_tp (z := gjd i) (rdC_in (by omega) hrjd.2.2.2.2.2.2) ?_
                    refine go_aload_n dX11_judge_96 rfl ?_
                    refine go_get dX11_judge_97 fl_X11_19_11 hxo hX.2.1 (by omega) rfl ?_
                    refine go_Vr [] [.int (gjd i)] dX11_judge_100 vl_X11_208 ⟨by decide, by decide⟩ (e_X5_contentOfAll hqt hnt hts.hN hts.hN8 hts.hM hts.hM5 hts.hbe hts.hw hts.hab hts.hI) sc_obj hqt (by omega) rfl rfl (Nat.le_of_ble_eq_true rfl) (Nat.le_of_ble_eq_true rfl) (Nat.le_of_ble_eq_true rfl) ?_
                    refine go_icmp_eq dX11_judge_103 (fun c103 => ?_) (fun c103 => ?_)
                    · refine go_iinc (v := nI (i + 1)) (ls' := [some (.ref x), some (.int (nI jd)), some (.ref bjd), some (.int 0), some (.int (nI (i + 1)))]) dX11_judge_109 rfl (nI_1 (i)) ⟨by decide, rfl, rfl⟩ ?_
                      refine go_goto dX11_judge_112 ?_
                      refine go_mem (f' := (sc G f t F W (jdH N A (i + 1)).2 B)) (by rw [jdH_s]) ?_
                      refine go_ls (ls' := [some (.ref x), some (.int (nI jd)), some (.ref bjd), some (.int (if (jdH N A (i + 1)).1 = true then 0 else 1)), some (.int (nI (i + 1)))]) (by rw [jdH_s, hJ1]; rfl) ?_
                      exact ih_lp0 (i + 1) (by omega) (by omega) (by rw [hx, fsB_d (by omega), if_neg (show ¬ cjP N A (A 11 jd) gjd i = true from fun z => (of_decide_eq_true z).2 ⟨hJ1, c103⟩)])
                    · refine go_iload dX11_judge_106 rfl ?_
                      exact go_iret dX11_judge_108 rfl (Nat.le_of_ble_eq_true rfl) (Nat.le_of_ble_eq_true rfl) (hQ9 ▸ ⟨rfl, ⟨_, _, _, _, rfl⟩, Or.inr ⟨jd, bjd, arjd, Rjd, gjd, hjd, rfl, e8jd, eRjd, hrjd, eKjd, rd_i (by rw [hx, fsB_d (by omega), if_pos (show cjP N A (A 11 jd) gjd i = true from decide_eq_true ⟨c83, fun y => c103 y.2⟩)])⟩⟩)
              · have c43n := mt (n0_le (a := i) (by omega)).mpr c43
                refine go_iload_n dX11_judge_46 rfl ?_
                refine go_if_ne dX11_judge_47 (fun c47 => ?_) (fun c47 => ?_)
                · have c47n := mt (n0_eq (a := 0) (by omega)).mpr c47
                  first | exact absurd c47n (by decide) | exact absurd (by decide) c47n | exact absurd rfl c47n | omega
                · have c47n := (n0_eq (a := 0) (by omega)).mp c47
                  refine go_iload dX11_judge_50 rfl ?_
                  refine go_bipush (v := 60) dX11_judge_52 rfl ?_
                  refine go_icmp_gt dX11_judge_54 (fun c54 => ?_) (fun c54 => ?_)
                  · have c54n := (nI_ltI (a := 60) (b := i) (by omega) (by omega)).mp c54
                    refine go_iconst (v := 1) dX11_judge_67 rfl ?_
                    refine go_goto dX11_judge_68 ?_
                    refine go_istore_n (ls' := [some (.ref x), some (.int (nI jd)), some (.ref bjd), some (.int 1), some (.int (nI i))]) dX11_judge_72 ⟨by decide, rfl, rfl⟩ ?_
                    have hJ := jd_b (N := N) (A := A) c43n (Or.inr (Or.inl (by omega)))
                    have hJ1 := hJ.1
                    refine go_mem (f' := (sc G f t F W (jdS N A i).2 B)) (by rw [hJ.2]) ?_
                    have hrb : (sc G f t F W (jdS N A i).2 B) bjd = ob 4 [.int (A 11 jd), .ref arjd] := (sc_out hbo).trans hrjd.1
                    have hra : (sc G f t F W (jdS N A i).2 B) arjd = ia G Rjd gjd := (sc_out hao).trans hrjd.2.2.2.1
                    have hxo : (sc G f t F W (jdS N A i).2 B) x = ob 11 (xfs s i0 t w os rs b) := (sc_out hxt).trans hX.1
                    have hso := jdS_ok (M := M) h.hN8 h.hI i
                    have hts := (h.to (t := t) hz).seR hso.2.1 hso.1
                    refine go_aload_n dX11_judge_73 rfl ?_
                    refine go_iload dX11_judge_74 rfl ?_
                    refine go_Vr [.int (nI i)] [] dX11_judge_76 vl_X11_73 ⟨by omega, by decide⟩ (e_X4_at (f := (sc G f t F W (jdS N A i).2 B)) (n := n) (g := gjd) (R := Rjd) (so := A 11 jd) (ar := arjd) hrb hrjd.2.1 (by omega) hra hrjd.2.2.2.2.1 (by omega) hrjd.2.2.2.2.2.2) hrb hrjd.2.1 (by omega) rfl rfl (Nat.le_of_ble_eq_true rfl) (Nat.le_of_ble_eq_true rfl) (Nat.le_of_ble_eq_true rfl) ?_
                    refine go_tp (z := gjd i) (rdC_in (by omega) hrjd.2.2.2.2.2.2) ?_
                    refine go_aload_n dX11_judge_79 rfl ?_
                    refine go_Vr [] [.int (gjd i)] dX11_judge_80 vl_X11_275 ⟨by omega, by decide⟩ (e_X4_leastNumber (f := (sc G f t F W (jdS N A i).2 B)) (n := n) (g := gjd) (R := Rjd) (so := A 11 jd) (ar := arjd) hrb hrjd.2.1 (by omega) hra hrjd.2.2.2.2.1 (by omega) hrjd.2.2.2.2.2.2) hrb hrjd.2.1 (by omega) rfl rfl (Nat.le_of_ble_eq_true rfl) (Nat.le_of_ble_eq_true rfl) (Nat.le_of_ble_eq_true rfl) ?_
                    refine go_icmp_eq dX11_judge_83 (fun c83 => ?_) (fun c83 => ?_)
                    · refine go_iinc (v := nI (i + 1)) (ls' := [some (.ref x), some (.int (nI jd)), some (.ref bjd), some (.int 1), some (.int (nI (i + 1)))]) dX11_judge_109 rfl (nI_1 (i)) ⟨by decide, rfl, rfl⟩ ?_
                      refine go_goto dX11_judge_112 ?_
                      refine go_mem (f' := (sc G f t F W (jdH N A (i + 1)).2 B)) (by rw [jdH_s]) ?_
                      refine go_ls (ls' := [some (.ref x), some (.int (nI jd)), some (.ref bjd), some (.int (if (jdH N A (i + 1)).1 = true then 0 else 1)), some (.int (nI (i + 1)))]) (by rw [jdH_s, hJ1]; rfl) ?_
                      exact ih_lp0 (i + 1) (by omega) (by omega) (by rw [hx, fsB_d (by omega), if_neg (show ¬ cjP N A (A 11 jd) gjd i = true from fun z => (of_decide_eq_true z).1 c83)])
                    · refine go_iload_n dX11_judge_86 rfl ?_
                      refine go_if_ne dX11_judge_87 (fun c87 => ?_) (fun c87 => ?_)
                      · have c87n := mt (n0_eq (a := 1) (by omega)).mpr c87
                        refine go_iload dX11_judge_106 rfl ?_
                        exact go_iret dX11_judge_108 rfl (Nat.le_of_ble_eq_true rfl) (Nat.le_of_ble_eq_true rfl) (hQ9 ▸ ⟨rfl, ⟨_, _, _, _, rfl⟩, Or.inr ⟨jd, bjd, arjd, Rjd, gjd, hjd, rfl, e8jd, eRjd, hrjd, eKjd, rd_i (by rw [hx, fsB_d (by omega), if_pos (show cjP N A (A 11 jd) gjd i = true from decide_eq_true ⟨c83, fun y => by rw [hJ1] at y; exact absurd y.1 (by decide)⟩)])⟩⟩)
                      · have c87n := (n0_eq (a := 1) (by omega)).mp c87
                        first | exact absurd c87n (by decide) | exact absurd (by decide) c87n | exact absurd rfl c87n | omega
                  · have c54n := mt (nI_ltI (a := 60) (b := i) (by omega) (by omega)).mpr c54
                    refine go_aload_n dX11_judge_57 rfl ?_
                    refine go_get dX11_judge_58 fl_X11_19_11 hxo hX.2.1 (by omega) rfl ?_
                    refine go_V [] [] dX11_judge_61 vl_X11_271 ⟨by decide, by decide⟩ (e_X5_changeFirstAgreed2 hqt hnt hts) sc_obj hqt (by omega) rfl rfl (Nat.le_of_ble_eq_true rfl) (Nat.le_of_ble_eq_true rfl) (Nat.le_of_ble_eq_true rfl) (fun r1 f1 n1 h1 => ?_)
                    obtain ⟨h11, h12, h13⟩ := h1
                    subst r1
                    subst f1
                    subst n1
                    by_cases cx : nxS N (jdH N A i).2 < 0
                    · refine go_tp (z := 0) (by rw [if_pos cx]) ?_
                      refine go_mem (f' := (sc G f t F W (jdH N A i).2 B)) (by rw [if_pos cx]) ?_
                      refine go_if_ne dX11_judge_64 (fun c64 => ?_) (fun c64 => ?_)
                      · have c64n := mt (n0_eq (a := 0) (by omega)).mpr c64
                        first | exact absurd c64n (by decide) | exact absurd (by decide) c64n | exact absurd rfl c64n | omega
                      · have c64n := (n0_eq (a := 0) (by omega)).mp c64
                        refine go_iconst (v := 1) dX11_judge_67 rfl ?_
                        refine go_goto dX11_judge_68 ?_
                        refine go_istore_n (ls' := [some (.ref x), some (.int (nI jd)), some (.ref bjd), some (.int 1), some (.int (nI i))]) dX11_judge_72 ⟨by decide, rfl, rfl⟩ ?_
                        have hJ := jd_b c43n (Or.inr (Or.inr cx))
                        have hJ1 := hJ.1
                        refine go_mem (f' := (sc G f t F W (jdS N A i).2 B)) (by rw [hJ.2]) ?_
                        have hrb : (sc G f t F W (jdS N A i).2 B) bjd = ob 4 [.int (A 11 jd), .ref arjd] := (sc_out hbo).trans hrjd.1
                        have hra : (sc G f t F W (jdS N A i).2 B) arjd = ia G Rjd gjd := (sc_out hao).trans hrjd.2.2.2.1
                        have hxo : (sc G f t F W (jdS N A i).2 B) x = ob 11 (xfs s i0 t w os rs b) := (sc_out hxt).trans hX.1
                        have hso := jdS_ok (M := M) h.hN8 h.hI i
                        have hts := (h.to (t := t) hz).seR hso.2.1 hso.1
                        refine go_aload_n dX11_judge_73 rfl ?_
                        refine go_iload dX11_judge_74 rfl ?_
                        refine go_Vr [.int (nI i)] [] dX11_judge_76 vl_X11_73 ⟨by omega, by decide⟩ (e_X4_at (f := (sc G f t F W (jdS N A i).2 B)) (n := n) (g := gjd) (R := Rjd) (so := A 11 jd) (ar := arjd) hrb hrjd.2.1 (by omega) hra hrjd.2.2.2.2.1 (by omega) hrjd.2.2.2.2.2.2) hrb hrjd.2.1 (by omega) rfl rfl (Nat.le_of_ble_eq_true rfl) (Nat.le_of_ble_eq_true rfl) (Nat.le_of_ble_eq_true rfl) ?_
                        refine go_tp (z := gjd i) (rdC_in (by omega) hrjd.2.2.2.2.2.2) ?_
                        refine go_aload_n dX11_judge_79 rfl ?_
                        refine go_Vr [] [.int (gjd i)] dX11_judge_80 vl_X11_275 ⟨by omega, by decide⟩ (e_X4_leastNumber (f := (sc G f t F W (jdS N A i).2 B)) (n := n) (g := gjd) (R := Rjd) (so := A 11 jd) (ar := arjd) hrb hrjd.2.1 (by omega) hra hrjd.2.2.2.2.1 (by omega) hrjd.2.2.2.2.2.2) hrb hrjd.2.1 (by omega) rfl rfl (Nat.le_of_ble_eq_true rfl) (Nat.le_of_ble_eq_true rfl) (Nat.le_of_ble_eq_true rfl) ?_
                        refine go_icmp_eq dX11_judge_83 (fun c83 => ?_) (fun c83 => ?_)
                        · refine go_iinc (v := nI (i + 1)) (ls' := [some (.ref x), some (.int (nI jd)), some (.ref bjd), some (.int 1), some (.int (nI (i + 1)))]) dX11_judge_109 rfl (nI_1 (i)) ⟨by decide, rfl, rfl⟩ ?_
                          refine go_goto dX11_judge_112 ?_
                          refine go_mem (f' := (sc G f t F W (jdH N A (i + 1)).2 B)) (by rw [jdH_s]) ?_
                          refine go_ls (ls' := [some (.ref x), some (.int (nI jd)), some (.ref bjd), some (.int (if (jdH N A (i + 1)).1 = true then 0 else 1)), some (.int (nI (i + 1)))]) (by rw [jdH_s, hJ1]; rfl) ?_
                          exact ih_lp0 (i + 1) (by omega) (by omega) (by rw [hx, fsB_d (by omega), if_neg (show ¬ cjP N A (A 11 jd) gjd i = true from fun z => (of_decide_eq_true z).1 c83)])
                        · refine go_iload_n dX11_judge_86 rfl ?_
                          refine go_if_ne dX11_judge_87 (fun c87 => ?_) (fun c87 => ?_)
                          · have c87n := mt (n0_eq (a := 1) (by omega)).mpr c87
                            refine go_iload dX11_judge_106 rfl ?_
                            exact go_iret dX11_judge_108 rfl (Nat.le_of_ble_eq_true rfl) (Nat.le_of_ble_eq_true rfl) (hQ9 ▸ ⟨rfl, ⟨_, _, _, _, rfl⟩, Or.inr ⟨jd, bjd, arjd, Rjd, gjd, hjd, rfl, e8jd, eRjd, hrjd, eKjd, rd_i (by rw [hx, fsB_d (by omega), if_pos (show cjP N A (A 11 jd) gjd i = true from decide_eq_true ⟨c83, fun y => by rw [hJ1] at y; exact absurd y.1 (by decide)⟩)])⟩⟩)
                          · have c87n := (n0_eq (a := 1) (by omega)).mp c87
                            first | exact absurd c87n (by decide) | exact absurd (by decide) c87n | exact absurd rfl c87n | omega
                    · refine go_tp (z := 1) (by rw [if_neg cx]) ?_
                      refine go_mem (f' := (sc G f t F W (chg (jdH N A i).2 (nxS N (jdH N A i).2)) B)) (by rw [if_neg cx]) ?_
                      refine go_if_ne dX11_judge_64 (fun c64 => ?_) (fun c64 => ?_)
                      · have c64n := mt (n0_eq (a := 1) (by omega)).mpr c64
                        refine go_iconst (v := 0) dX11_judge_71 rfl ?_
                        refine go_istore_n (ls' := [some (.ref x), some (.int (nI jd)), some (.ref bjd), some (.int 0), some (.int (nI i))]) dX11_judge_72 ⟨by decide, rfl, rfl⟩ ?_
                        have hJ := jd_c c43n hj (by omega) cx h.hN8
                        have hJ1 := hJ.1
                        refine go_mem (f' := (sc G f t F W (jdS N A i).2 B)) (by rw [hJ.2]) ?_
                        have hrb : (sc G f t F W (jdS N A i).2 B) bjd = ob 4 [.int (A 11 jd), .ref arjd] := (sc_out hbo).trans hrjd.1
                        have hra : (sc G f t F W (jdS N A i).2 B) arjd = ia G Rjd gjd := (sc_out hao).trans hrjd.2.2.2.1
                        have hxo : (sc G f t F W (jdS N A i).2 B) x = ob 11 (xfs s i0 t w os rs b) := (sc_out hxt).trans hX.1
                        have hso := jdS_ok (M := M) h.hN8 h.hI i
                        have hts := (h.to (t := t) hz).seR hso.2.1 hso.1
                        refine go_aload_n dX11_judge_73 rfl ?_
                        refine go_iload dX11_judge_74 rfl ?_
                        refine go_Vr [.int (nI i)] [] dX11_judge_76 vl_X11_73 ⟨by omega, by decide⟩ (e_X4_at (f := (sc G f t F W (jdS N A i).2 B)) (n := n) (g := gjd) (R := Rjd) (so := A 11 jd) (ar := arjd) hrb hrjd.2.1 (by omega) hra hrjd.2.2.2.2.1 (by omega) hrjd.2.2.2.2.2.2) hrb hrjd.2.1 (by omega) rfl rfl (Nat.le_of_ble_eq_true rfl) (Nat.le_of_ble_eq_true rfl) (Nat.le_of_ble_eq_true rfl) ?_
                        refine go_tp (z := gjd i) (rdC_in (by omega) hrjd.2.2.2.2.2.2) ?_
                        refine go_aload_n dX11_judge_79 rfl ?_
                        refine go_Vr [] [.int (gjd i)] dX11_judge_80 vl_X11_275 ⟨by omega, by decide⟩ (e_X4_leastNumber (f := (sc G f t F W (jdS N A i).2 B)) (n := n) (g := gjd) (R := Rjd) (so := A 11 jd) (ar := arjd) hrb hrjd.2.1 (by omega) hra hrjd.2.2.2.2.1 (by omega) hrjd.2.2.2.2.2.2) hrb hrjd.2.1 (by omega) rfl rfl (Nat.le_of_ble_eq_true rfl) (Nat.le_of_ble_eq_true rfl) (Nat.le_of_ble_eq_true rfl) ?_
                        refine go_icmp_eq dX11_judge_83 (fun c83 => ?_) (fun c83 => ?_)
                        · refine go_iinc (v := nI (i + 1)) (ls' := [some (.ref x), some (.int (nI jd)), some (.ref bjd), some (.int 0), some (.int (nI (i + 1)))]) dX11_judge_109 rfl (nI_1 (i)) ⟨by decide, rfl, rfl⟩ ?_
                          refine go_goto dX11_judge_112 ?_
                          refine go_mem (f' := (sc G f t F W (jdH N A (i + 1)).2 B)) (by rw [jdH_s]) ?_
                          refine go_ls (ls' := [some (.ref x), some (.int (nI jd)), some (.ref bjd), some (.int (if (jdH N A (i + 1)).1 = true then 0 else 1)), some (.int (nI (i + 1)))]) (by rw [jdH_s, hJ1]; rfl) ?_
                          exact ih_lp0 (i + 1) (by omega) (by omega) (by rw [hx, fsB_d (by omega), if_neg (show ¬ cjP N A (A 11 jd) gjd i = true from fun z => (of_decide_eq_true z).1 c83)])
                        · refine go_iload_n dX11_judge_86 rfl ?_
                          refine go_if_ne dX11_judge_87 (fun c87 => ?_) (fun c87 => ?_)
                          · have c87n := mt (n0_eq (a := 0) (by omega)).mpr c87
                            first | exact absurd c87n (by decide) | exact absurd (by decide) c87n | exact absurd rfl c87n | omega
                          · have c87n := (n0_eq (a := 0) (by omega)).mp c87
                            refine go_aload_n dX11_judge_90 rfl ?_
                            refine go_iload dX11_judge_91 rfl ?_
                            refine go_Vr [.int (nI i)] [] dX11_judge_93 vl_X11_73 ⟨by omega, by decide⟩ (e_X4_at (f := (sc G f t F W (jdS N A i).2 B)) (n := n) (g := gjd) (R := Rjd) (so := A 11 jd) (ar := arjd) hrb hrjd.2.1 (by omega) hra hrjd.2.2.2.2.1 (by omega) hrjd.2.2.2.2.2.2) hrb hrjd.2.1 (by omega) rfl rfl (Nat.le_of_ble_eq_true rfl) (Nat.le_of_ble_eq_true rfl) (Nat.le_of_ble_eq_true rfl) ?_
                            refine go_tp (z := gjd i) (rdC_in (by omega) hrjd.2.2.2.2.2.2) ?_
                            refine go_aload_n dX11_judge_96 rfl ?_
                            refine go_get dX11_judge_97 fl_X11_19_11 hxo hX.2.1 (by omega) rfl ?_
                            refine go_Vr [] [.int (gjd i)] dX11_judge_100 vl_X11_208 ⟨by decide, by decide⟩ (e_X5_contentOfAll hqt hnt hts.hN hts.hN8 hts.hM hts.hM5 hts.hbe hts.hw hts.hab hts.hI) sc_obj hqt (by omega) rfl rfl (Nat.le_of_ble_eq_true rfl) (Nat.le_of_ble_eq_true rfl) (Nat.le_of_ble_eq_true rfl) ?_
                            refine go_icmp_eq dX11_judge_103 (fun c103 => ?_) (fun c103 => ?_)
                            · refine go_iinc (v := nI (i + 1)) (ls' := [some (.ref x), some (.int (nI jd)), some (.ref bjd), some (.int 0), some (.int (nI (i + 1)))]) dX11_judge_109 rfl (nI_1 (i)) ⟨by decide, rfl, rfl⟩ ?_
                              refine go_goto dX11_judge_112 ?_
                              refine go_mem (f' := (sc G f t F W (jdH N A (i + 1)).2 B)) (by rw [jdH_s]) ?_
                              refine go_ls (ls' := [some (.ref x), some (.int (nI jd)), some (.ref bjd), some (.int (if (jdH N A (i + 1)).1 = true then 0 else 1)), some (.int (nI (i + 1)))]) (by rw [jdH_s, hJ1]; rfl) ?_
                              exact ih_lp0 (i + 1) (by omega) (by omega) (by rw [hx, fsB_d (by omega), if_neg (show ¬ cjP N A (A 11 jd) gjd i = true from fun z => (of_decide_eq_true z).2 ⟨hJ1, c103⟩)])
                            · refine go_iload dX11_judge_106 rfl ?_
                              exact go_iret dX11_judge_108 rfl (Nat.le_of_ble_eq_true rfl) (Nat.le_of_ble_eq_true rfl) (hQ9 ▸ ⟨rfl, ⟨_, _, _, _, rfl⟩, Or.inr ⟨jd, bjd, arjd, Rjd, gjd, hjd, rfl, e8jd, eRjd, hrjd, eKjd, rd_i (by rw [hx, fsB_d (by omega), if_pos (show cjP N A (A 11 jd) gjd i = true from decide_eq_true ⟨c83, fun y => c103 y.2⟩)])⟩⟩)
                      · have c64n := (n0_eq (a := 1) (by omega)).mp c64
                        first | exact absurd c64n (by decide) | exact absurd (by decide) c64n | exact absurd rfl c64n | omega
          · refine go_ls (ls' := [some (.ref x), some (.int (nI jd)), some (.ref bjd), some (.int 1), some (.int (nI i))]) (by rw [if_neg hj]) ?_
            refine go_iload dX11_judge_32 rfl ?_
            refine go_aload_n dX11_judge_34 rfl ?_
            refine go_Vr [] [.int (nI i)] dX11_judge_35 vl_X11_65 ⟨by omega, by decide⟩ (e_X4_size (f := (sc G f t F W (jdH N A i).2 B)) (n := n) (g := gjd) (R := Rjd) (so := A 11 jd) (ar := arjd) hrb hrjd.2.1 (by omega) hra hrjd.2.2.2.2.1 (by omega) hrjd.2.2.2.2.2.2) hrb hrjd.2.1 (by omega) rfl rfl (Nat.le_of_ble_eq_true rfl) (Nat.le_of_ble_eq_true rfl) (Nat.le_of_ble_eq_true rfl) ?_
            refine go_icmp_ge dX11_judge_38 (fun c38 => ?_) (fun c38 => ?_)
            · have c38n := (nI_leI (a := Rjd) (b := i) (by omega) (by omega)).mp c38
              have c38n := Nat.not_lt.mpr c38n
              have c38 := Int32.not_lt.mpr c38
              refine go_bipush (v := (-4)) dX11_judge_115 rfl ?_
              exact go_iret dX11_judge_117 rfl (Nat.le_of_ble_eq_true rfl) (Nat.le_of_ble_eq_true rfl) (hQ9 ▸ ⟨rfl, ⟨_, _, _, _, rfl⟩, Or.inr ⟨jd, bjd, arjd, Rjd, gjd, hjd, rfl, e8jd, eRjd, hrjd, eKjd, rd_i (by rw [hx, show i = Rjd by omega, fsB_0])⟩⟩)
            · have c38n := mt (nI_leI (a := Rjd) (b := i) (by omega) (by omega)).mpr c38
              have c38n := Nat.lt_of_not_le c38n
              have c38 := Int32.not_le.mp c38
              refine go_iload dX11_judge_41 rfl ?_
              refine go_if_le dX11_judge_43 (fun c43 => ?_) (fun c43 => ?_)
              · have c43n := (n0_le (a := i) (by omega)).mp c43
                exact absurd (show (jdH N A i).1 = true by rw [show i = 0 by omega]; rfl) hj
              · have c43n := mt (n0_le (a := i) (by omega)).mpr c43
                refine go_iload_n dX11_judge_46 rfl ?_
                refine go_if_ne dX11_judge_47 (fun c47 => ?_) (fun c47 => ?_)
                · have c47n := mt (n0_eq (a := 1) (by omega)).mpr c47
                  have hJ := jd_b (N := N) (A := A) c43n (Or.inl (Bool.eq_false_iff.mpr hj))
                  have hJ1 := hJ.1
                  refine go_mem (f' := (sc G f t F W (jdS N A i).2 B)) (by rw [hJ.2]) ?_
                  have hrb : (sc G f t F W (jdS N A i).2 B) bjd = ob 4 [.int (A 11 jd), .ref arjd] := (sc_out hbo).trans hrjd.1
                  have hra : (sc G f t F W (jdS N A i).2 B) arjd = ia G Rjd gjd := (sc_out hao).trans hrjd.2.2.2.1
                  have hxo : (sc G f t F W (jdS N A i).2 B) x = ob 11 (xfs s i0 t w os rs b) := (sc_out hxt).trans hX.1
                  have hso := jdS_ok (M := M) h.hN8 h.hI i
                  have hts := (h.to (t := t) hz).seR hso.2.1 hso.1
                  refine go_aload_n dX11_judge_73 rfl ?_
                  refine go_iload dX11_judge_74 rfl ?_
                  refine go_Vr [.int (nI i)] [] dX11_judge_76 vl_X11_73 ⟨by omega, by decide⟩ (e_X4_at (f := (sc G f t F W (jdS N A i).2 B)) (n := n) (g := gjd) (R := Rjd) (so := A 11 jd) (ar := arjd) hrb hrjd.2.1 (by omega) hra hrjd.2.2.2.2.1 (by omega) hrjd.2.2.2.2.2.2) hrb hrjd.2.1 (by omega) rfl rfl (Nat.le_of_ble_eq_true rfl) (Nat.le_of_ble_eq_true rfl) (Nat.le_of_ble_eq_true rfl) ?_
                  refine go_tp (z := gjd i) (rdC_in (by omega) hrjd.2.2.2.2.2.2) ?_
                  refine go_aload_n dX11_judge_79 rfl ?_
                  refine go_Vr [] [.int (gjd i)] dX11_judge_80 vl_X11_275 ⟨by omega, by decide⟩ (e_X4_leastNumber (f := (sc G f t F W (jdS N A i).2 B)) (n := n) (g := gjd) (R := Rjd) (so := A 11 jd) (ar := arjd) hrb hrjd.2.1 (by omega) hra hrjd.2.2.2.2.1 (by omega) hrjd.2.2.2.2.2.2) hrb hrjd.2.1 (by omega) rfl rfl (Nat.le_of_ble_eq_true rfl) (Nat.le_of_ble_eq_true rfl) (Nat.le_of_ble_eq_true rfl) ?_
                  refine go_icmp_eq dX11_judge_83 (fun c83 => ?_) (fun c83 => ?_)
                  · refine go_iinc (v := nI (i + 1)) (ls' := [some (.ref x), some (.int (nI jd)), some (.ref bjd), some (.int 1), some (.int (nI (i + 1)))]) dX11_judge_109 rfl (nI_1 (i)) ⟨by decide, rfl, rfl⟩ ?_
                    refine go_goto dX11_judge_112 ?_
                    refine go_mem (f' := (sc G f t F W (jdH N A (i + 1)).2 B)) (by rw [jdH_s]) ?_
                    refine go_ls (ls' := [some (.ref x), some (.int (nI jd)), some (.ref bjd), some (.int (if (jdH N A (i + 1)).1 = true then 0 else 1)), some (.int (nI (i + 1)))]) (by rw [jdH_s, hJ1]; rfl) ?_
                    exact ih_lp0 (i + 1) (by omega) (by omega) (by rw [hx, fsB_d (by omega), if_neg (show ¬ cjP N A (A 11 jd) gjd i = true from fun z => (of_decide_eq_true z).1 c83)])
                  · refine go_iload_n dX11_judge_86 rfl ?_
                    refine go_if_ne dX11_judge_87 (fun c87 => ?_) (fun c87 => ?_)
                    · have c87n := mt (n0_eq (a := 1) (by omega)).mpr c87
                      refine go_iload dX11_judge_106 rfl ?_
                      exact go_iret dX11_judge_108 rfl (Nat.le_of_ble_eq_true rfl) (Nat.le_of_ble_eq_true rfl) (hQ9 ▸ ⟨rfl, ⟨_, _, _, _, rfl⟩, Or.inr ⟨jd, bjd, arjd, Rjd, gjd, hjd, rfl, e8jd, eRjd, hrjd, eKjd, rd_i (by rw [hx, fsB_d (by omega), if_pos (show cjP N A (A 11 jd) gjd i = true from decide_eq_true ⟨c83, fun y => by rw [hJ1] at y; exact absurd y.1 (by decide)⟩)])⟩⟩)
                    · have c87n := (n0_eq (a := 1) (by omega)).mp c87
                      first | exact absurd c87n (by decide) | exact absurd (by decide) c87n | exact absurd rfl c87n | omega
                · have c47n := (n0_eq (a := 1) (by omega)).mp c47
                  first | exact absurd c47n (by decide) | exact absurd (by decide) c47n | exact absurd rfl c47n | omega
      refine go_mem (f' := (sc G f t F W (jdH N A 0).2 B)) rfl ?_
      exact lp0 (Rjd + 1) 0 (Nat.zero_le _) (by omega) rfl
  · refine go_aload_n dX11_judge_0 rfl ?_
    refine go_iload_n dX11_judge_1 rfl ?_
    refine go_Vr [.int d] [] dX11_judge_2 vl_X11_45 ⟨by decide, by decide⟩ (e_X11_rowOn hX) hX.1 hX.2.1 hX.2.2.1 rfl rfl (Nat.le_of_ble_eq_true rfl) (Nat.le_of_ble_eq_true rfl) (Nat.le_of_ble_eq_true rfl) ?_
    refine go_tv (w := .null) (by rw [if_neg hOd]; rfl) ?_
    refine go_astore_nN (ls' := [some (.ref x), some (.int d), some (.null), none, none]) dX11_judge_5 ⟨by decide, rfl, rfl⟩ ?_
    refine go_aload_nN dX11_judge_6 rfl ?_
    refine go_ifnonnullN dX11_judge_7 ?_
    refine go_aload_n dX11_judge_10 rfl ?_
    refine go_iload_n dX11_judge_11 rfl ?_
    refine go_Vr [.int d] [] dX11_judge_12 vl_X11_49 ⟨by decide, by decide⟩ (e_X11_whyNoRow hX hS) hX.1 hX.2.1 hX.2.2.1 rfl rfl (Nat.le_of_ble_eq_true rfl) (Nat.le_of_ble_eq_true rfl) (Nat.le_of_ble_eq_true rfl) ?_
    refine go_tp (z := (-1)) (if_neg hOd) ?_
    exact go_iret dX11_judge_15 rfl (Nat.le_of_ble_eq_true rfl) (Nat.le_of_ble_eq_true rfl) (hQ9 ▸ ⟨rfl, ⟨_, _, _, _, htr.symm⟩, Or.inl ⟨by rw [wk_no hOd]; decide, by rw [wk_no hOd]⟩⟩)
end E3
