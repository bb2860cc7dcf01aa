/-! a school's text: how far it goes, what it does -/
theorem stP_le {c : Nat → Int32} {a : Nat} : stP c a ≤ a + 5 := by
  have h1 := ndS_le (c a)
  have h2 := rdK_le (c := c) (ndS (c a)) (a + 1)
  unfold stP
  split
  · omega
  · split
    · omega
    · split <;> omega
theorem st_ltr {c : Nat → Int32} {a : Nat} (h : stG c a = true) : ltrS (c a) = true := by
  by_cases z : ltrS (c a) = true
  · exact z
  · rw [(st_1 z).1] at h
    cases h
theorem ps_s {c : Nat → Int32} {k : Nat} (h : stG c (psS c k) = true) : stP c (psS c k) = psS c (k + 1) := (st_next h).1
theorem fm_sc {c : Nat → Int32} {R : Nat} (hR : R ≤ 100) (hd : ∀ i, R ≤ i → i < 1000 → ¬ ltrS (c i) = true) : ∀ (f1 k f2 : Nat), k + f1 = 40 → (k = 0 ∨ psS c k < R) → R < psS c k + f2 → (∃ K p, scS c R f1 k = (K, some p) ∧ fmS c R f2 (psS c k) = nI p ∧ p < 1000) ∨ (∃ K, scS c R f1 k = (K, none) ∧ fmS c R f2 (psS c k) = -1 ∧ k < K ∧ R ≤ psS c K ∧ ∀ j, k ≤ j → j < K → psS c j < R ∧ stG c (psS c j) = true)
  | 0, k, f2, h1, h2, h3 => by
    have := psS_ge (c := c) k
    omega
  | f1 + 1, k, f2, h1, h2, h3 => by
    have hp5 := psS_le (c := c) k
    have hst := stP_le (c := c) (a := psS c k)
    by_cases hg : stG c (psS c k) = true
    · have hlt : psS c k < R := Nat.lt_of_not_le fun z => hd _ z (by omega) (st_ltr hg)
      have hs := ps_s hg
      have hlt2 : psS c k < psS c (k + 1) := by
        show psS c k < psS c k + 1 + ndS (c (psS c k)) + 1
        omega
      obtain ⟨f3, e3, h4⟩ := fm_go hlt h3 ⟨hg, hs⟩ hlt2
      rw [e3]
      unfold scS
      rw [if_pos hg]
      by_cases hn : psS c (k + 1) < R
      · rw [if_pos hn]
        rcases fm_sc hR hd f1 (k + 1) f3 (by omega) (Or.inr hn) h4 with ⟨K, p, a1, a2, a3⟩ | ⟨K, a1, a2, a3, a4, a5⟩
        · exact Or.inl ⟨K, p, a1, a2, a3⟩
        · refine Or.inr ⟨K, a1, a2, by omega, a4, fun j hj1 hj2 => ?_⟩
          by_cases e : j = k
          · subst e
            exact ⟨hlt, hg⟩
          · exact a5 j (by omega) hj2
      · rw [if_neg hn]
        refine Or.inr ⟨k + 1, rfl, ?_, by omega, by omega, fun j hj1 hj2 => ?_⟩
        · rw [fm_end hn, if_neg (by omega)]
        · obtain rfl : j = k := by omega
          exact ⟨hlt, hg⟩
    · unfold scS
      rw [if_neg hg]
      refine Or.inl ⟨k, _, rfl, ?_, by omega⟩
      by_cases hlt : psS c k < R
      · exact fm_stop hlt h3 ⟨Bool.eq_false_iff.mpr hg, rfl⟩
      · have hk : k = 0 := by omega
        subst hk
        have hz : ¬ ltrS (c (psS c 0)) = true := hd _ (Nat.le_of_not_lt hlt) (show 0 < 1000 by decide)
        rw [(st_1 hz).2, fm_end hlt]
        rfl
theorem cc_dead {g : Nat → Int32} {R i : Nat} (h : R ≤ i) (hi : i < 2 ^ 31) (hR : R ≤ 100) : ccR g R i = 0 := by
  unfold ccR rdC
  rw [if_neg]
  intro z
  have := okp_lt z hi (by omega)
  omega
theorem rn_st {c : Nat → Int32} {K k : Nat} {s q : SS} (hk : k < K) (h : exC c s (psS c k) = some q) : rnS c (K - k) k s = rnS c (K - (k + 1)) (k + 1) q := by
  rw [show K - k = (K - (k + 1)) + 1 by omega]
  conv => lhs; unfold rnS
  rw [h]
theorem rn_no {c : Nat → Int32} {K k : Nat} {s : SS} (hk : k < K) (h : exC c s (psS c k) = none) : rnS c (K - k) k s = (-2000 - nI (psS c k), none) := by
  rw [show K - k = (K - (k + 1)) + 1 by omega]
  unfold rnS
  rw [h]
theorem sc_idem {G : GX} {m0 : Mem} {s : Nat} {F F2 : Nat → Int32} {W W2 : Nat → Option Nat} {A A2 : Nat → Nat → Int32} {B B2 : Nat → Int32} : sc G (sc G m0 s F2 W2 A2 B2) s F W A B = sc G m0 s F W A B := by
  funext a
  unfold sc
  by_cases h : a < s ∨ s + 8 ≤ a
  · rw [if_pos h, if_pos h, if_pos h]
  · rw [if_neg h, if_neg h]
theorem sc_of {G : GX} {m f : Mem} {s n : Nat} {F : Nat → Int32} {W : Nat → Option Nat} {A : Nat → Nat → Int32} {B : Nat → Int32} (h : sc G f s F W A B = f) (hm : ∀ z, z < n → m z = f z) (hn : s + 8 ≤ n) : sc G m s F W A B = m := by
  funext a
  have h1 := congrFun h a
  unfold sc at h1 ⊢
  by_cases c : a < s ∨ s + 8 ≤ a
  · rw [if_pos c]
  · rw [if_neg c] at h1 ⊢
    rw [hm a (by omega), h1]
def scV (G : GX) (f : Mem) (n N M : Nat) (P : Int32) (A : Nat → Nat → Int32) (Rs : Nat → Option Nat) (d : Int32) (v : Int32 × Option SS) : Prop := (wkS (A 8) 2 d < 0 ∧ v = (wkS (A 8) 2 d, none)) ∨ ∃ jd b ar R g, jd ≤ 7 ∧ d = nI jd ∧ A 8 jd = 2 ∧ Rs jd = some b ∧ rowM G f n b ar R g (A 11 jd) ∧ A 12 jd = nI R ∧ ((¬ A 11 jd = 0 ∧ v = (-12, none)) ∨ (A 11 jd = 0 ∧ v = schV (ccR g R) R (N, M, P, A)))
def scF (G : GX) (f : Mem) (s t n n1 : Nat) (f1 : Mem) : Prop := n ≤ n1 ∧ (∀ z, z < n → (z < s ∨ s + 8 ≤ z) → (z < t ∨ t + 8 ≤ z) → f1 z = f z) ∧ ∃ F4 W4 A4 B4, sc G f1 t F4 W4 A4 B4 = f1
def scQ (G : GX) (f : Mem) (s t n N M : Nat) (F : Nat → Int32) (W : Nat → Option Nat) (A : Nat → Nat → Int32) (B : Nat → Int32) (Rs : Nat → Option Nat) (d : Int32) : RQ := fun r f1 n1 => scF G f s t n n1 f1 ∧ ∃ v : Int32 × Option SS, r = some (.int v.1) ∧ scV G f n N M (F 2) A Rs d v ∧ match v.2 with
  | none => sc G f1 s F W A B = f1
  | some q => ∃ F' W' B', sc G f1 s F' W' q.2.2.2 B' = f1 ∧ F' 0 = nI q.1 ∧ F' 1 = nI q.2.1 ∧ F' 2 = q.2.2.1 ∧ (∀ a b, a < q.1 → b < q.1 → B' (a * 8 + b) = brS q.2.2.2 a b) ∧ (∀ p, p < 8 → ∃ a, W' p = some a ∧ oneM G f1 n1 a (q.2.2.2 1 p) (q.2.2.2 2 p)) ∧ ∀ Z : Nat → Prop, (∀ z, n ≤ z → Z z) → wP Z W → wP Z W'
/-- apart from both schools -/
def zST (s t : Nat) : Nat → Prop := fun a => (a < s ∨ s + 8 ≤ a) ∧ (a < t ∨ t + 8 ≤ a)
theorem who2 {G : GX} {m : Mem} {s t n : Nat} {W : Nat → Option Nat} {A : Nat → Nat → Int32} (h : whoOK G m t n W A) (hz : wP (zST s t) W) : ∀ p, p < 8 → ∃ a, W p = some a ∧ oneM G m n a (A 1 p) (A 2 p) ∧ (a < t ∨ t + 8 ≤ a) ∧ (a < s ∨ s + 8 ≤ a) := fun p hp => by
  obtain ⟨a, h1, h2, h3⟩ := h p hp
  exact ⟨a, h1, h2, h3, (hz p hp a h1).1⟩
theorem ndD_ne {l : Int32} (h : ltrS l = true) : ¬ ndD l = 0 := fun z => ndD_n z h
theorem who2s {G : GX} {m : Mem} {s t n : Nat} {W : Nat → Option Nat} {A : Nat → Nat → Int32} (h : whoOK G m s n W A) (hz : wP (zST s t) W) : ∀ p, p < 8 → ∃ a, W p = some a ∧ oneM G m n a (A 1 p) (A 2 p) ∧ (a < s ∨ s + 8 ≤ a) ∧ (a < t ∨ t + 8 ≤ a) := fun p hp => by
  obtain ⟨a, h1, h2, h3⟩ := h p hp
  exact ⟨a, h1, h2, h3, (hz p hp a h1).2⟩
theorem whoT {G : GX} {m : Mem} {s t n : Nat} {W : Nat → Option Nat} {A : Nat → Nat → Int32} (h : whoOK G m s n W A) (hz : wP (zST s t) W) : whoOK G m t n W A := fun p hp => by
  obtain ⟨a, h1, h2, h3⟩ := h p hp
  exact ⟨a, h1, h2, (hz p hp a h1).2⟩
section E2
variable {G : GX} {m0 f : Mem} {x s i0 t w os rs n N M : Nat} {F F3 : Nat → Int32} {W W3 : Nat → Option Nat} {A A3 : Nat → Nat → Int32} {B B3 : Nat → Int32} {b : Int32} {Os Rs : Nat → Option Nat}
set_option maxHeartbeats 4000000 in
set_option maxRecDepth 100000 in
theorem e_X11_school (hX : xsK G f x s i0 t w os rs n b Os Rs) (hS : ∀ d, d < 8 → shD G f n Os Rs A d) (hs : sc G f s F W A B = f) (htr : sc G f t F3 W3 A3 B3 = f) (hq : G.2.1 ≤ s) (hn : s + 8 ≤ n) (hqt : G.2.1 ≤ t) (hnt : t + 8 ≤ n) (hdj : s + 8 ≤ t ∨ t + 8 ≤ s) (hxt : x < t ∨ t + 8 ≤ x) (h : tsH G f s n N M F W A B) (hok : schOK (N, M, F 2, A)) (hz : wP (zST s t) W) (hOt : shO f t Os Rs) {d : Int32} : Ev G mX11_school 9 34 34 [.ref x, .int d] f n (scQ G f s t n N M F W A B Rs d) := by
  generalize hQ9 : (scQ G f s t n N M F W A B Rs d : RQ) = Q9
  refine ev_of (by decide) (Nat.le_of_ble_eq_true rfl) (ls := [some (.ref x), some (.int d), none, none, none, none]) rfl (fun hb => ?_)
  by_cases hOd : okr d 0 7 = true
  · obtain ⟨jd, hjd, rfl⟩ := okr_nI (k := 7) rfl (by omega) hOd
    have kjd : (nI jd).toNatClampNeg = jd := nI_clamp (by omega)
    rcases hS jd (by omega) with ⟨e8jd, eOjd, eRjd⟩ | ⟨e8jd, eRjd, ajd, eOjd, hojd⟩ | ⟨e8jd, eOjd, bjd, arjd, Rjd, gjd, eRjd, hrjd, eKjd⟩
    · refine go_aload_n dX11_school_0 rfl ?_
      refine go_iload_n dX11_school_1 rfl ?_
      refine go_Vr [.int (nI jd)] [] dX11_school_2 vl_X11_45 ⟨by decide, by decide⟩ (e_X11_rowOn hX) hX.1 hX.2.1 hX.2.2.1 rfl rfl (Nat.le_of_ble_eq_true rfl) (Nat.le_of_ble_eq_true rfl) (Nat.le_of_ble_eq_true rfl) ?_
      refine go_tv (w := .null) (by rw [if_pos hOd, nI_clamp (by omega), eRjd]; rfl) ?_
      refine go_astore_nN (ls' := [some (.ref x), some (.int (nI jd)), some (.null), none, none, none]) dX11_school_5 ⟨by decide, rfl, rfl⟩ ?_
      refine go_aload_nN dX11_school_6 rfl ?_
      refine go_ifnonnullN dX11_school_7 ?_
      refine go_aload_n dX11_school_10 rfl ?_
      refine go_iload_n dX11_school_11 rfl ?_
      refine go_Vr [.int (nI jd)] [] dX11_school_12 vl_X11_49 ⟨by decide, by decide⟩ (e_X11_whyNoRow hX hS) hX.1 hX.2.1 hX.2.2.1 rfl rfl (Nat.le_of_ble_eq_true rfl) (Nat.le_of_ble_eq_true rfl) (Nat.le_of_ble_eq_true rfl) ?_
      refine go_tp (z := (-11)) (by rw [if_pos hOd, nI_clamp (by omega), e8jd]; rfl) ?_
      exact go_iret dX11_school_15 rfl (Nat.le_of_ble_eq_true rfl) (Nat.le_of_ble_eq_true rfl) (hQ9 ▸ ⟨⟨Nat.le_refl _, fun _ _ _ _ => rfl, _, _, _, _, htr⟩, (wkS (A 8) 2 (nI jd), none), rd_i (wk_0 hOd hjd e8jd).symm, Or.inl ⟨by rw [wk_0 hOd hjd e8jd]; decide, rfl⟩, hs⟩)
    · refine go_aload_n dX11_school_0 rfl ?_
      refine go_iload_n dX11_school_1 rfl ?_
      refine go_Vr [.int (nI jd)] [] dX11_school_2 vl_X11_45 ⟨by decide, by decide⟩ (e_X11_rowOn hX) hX.1 hX.2.1 hX.2.2.1 rfl rfl (Nat.le_of_ble_eq_true rfl) (Nat.le_of_ble_eq_true rfl) (Nat.le_of_ble_eq_true rfl) ?_
      refine go_tv (w := .null) (by rw [if_pos hOd, nI_clamp (by omega), eRjd]; rfl) ?_
      refine go_astore_nN (ls' := [some (.ref x), some (.int (nI jd)), some (.null), none, none, none]) dX11_school_5 ⟨by decide, rfl, rfl⟩ ?_
      refine go_aload_nN dX11_school_6 rfl ?_
      refine go_ifnonnullN dX11_school_7 ?_
      refine go_aload_n dX11_school_10 rfl ?_
      refine go_iload_n dX11_school_11 rfl ?_
      refine go_Vr [.int (nI jd)] [] dX11_school_12 vl_X11_49 ⟨by decide, by decide⟩ (e_X11_whyNoRow hX hS) hX.1 hX.2.1 hX.2.2.1 rfl rfl (Nat.le_of_ble_eq_true rfl) (Nat.le_of_ble_eq_true rfl) (Nat.le_of_ble_eq_true rfl) ?_
      refine go_tp (z := (-12)) (by rw [if_pos hOd, nI_clamp (by omega), e8jd]; rfl) ?_
      exact go_iret dX11_school_15 rfl (Nat.le_of_ble_eq_true rfl) (Nat.le_of_ble_eq_true rfl) (hQ9 ▸ ⟨⟨Nat.le_refl _, fun _ _ _ _ => rfl, _, _, _, _, htr⟩, (wkS (A 8) 2 (nI jd), none), rd_i (wk_x hOd hjd (by rw [e8jd]; decide) (by rw [e8jd]; decide)).symm, Or.inl ⟨by rw [wk_x hOd hjd (by rw [e8jd]; decide) (by rw [e8jd]; decide)]; decide, rfl⟩, hs⟩)
    · refine go_aload_n dX11_school_0 rfl ?_
      refine go_iload_n dX11_school_1 rfl ?_
      refine go_Vr [.int (nI jd)] [] dX11_school_2 vl_X11_45 ⟨by decide, by decide⟩ (e_X11_rowOn hX) hX.1 hX.2.1 hX.2.2.1 rfl rfl (Nat.le_of_ble_eq_true rfl) (Nat.le_of_ble_eq_true rfl) (Nat.le_of_ble_eq_true rfl) ?_
      refine go_tv (w := .ref bjd) (by rw [if_pos hOd, nI_clamp (by omega), eRjd]; rfl) ?_
      refine go_astore_n (ls' := [some (.ref x), some (.int (nI jd)), some (.ref bjd), none, none, none]) dX11_school_5 ⟨by decide, rfl, rfl⟩ ?_
      refine go_aload_n dX11_school_6 rfl ?_
      refine go_ifnonnull dX11_school_7 ?_
      refine go_aload_n dX11_school_16 rfl ?_
      refine go_get dX11_school_17 fl_X11_53_4 hrjd.1 hrjd.2.1 hrjd.2.2.1 rfl ?_
      refine go_if_eq dX11_school_20 (fun c20 => ?_) (fun c20 => ?_)
      · refine go_aload_n dX11_school_26 rfl ?_
        refine go_Sr [.ref bjd] [] dX11_school_27 sl_X11_57 ⟨by omega, by decide⟩ (e_X11_firstMisfit hrjd.1 hrjd.2.1 hrjd.2.2.1 hrjd.2.2.2.1 hrjd.2.2.2.2.1 hrjd.2.2.2.2.2.1 hrjd.2.2.2.2.2.2) rfl rfl (Nat.le_of_ble_eq_true rfl) (Nat.le_of_ble_eq_true rfl) (Nat.le_of_ble_eq_true rfl) ?_
        have hfs := fm_sc (c := (ccR gjd Rjd)) hrjd.2.2.2.2.2.2 (fun i hi hi2 => by rw [cc_dead hi (by omega) hrjd.2.2.2.2.2.2]; decide) 40 0 101 rfl (Or.inl rfl) (by have := hrjd.2.2.2.2.2.2; show Rjd < 0 + 101; omega)
        refine go_istore_n (ls' := [some (.ref x), some (.int (nI jd)), some (.ref bjd), some (.int (fmS (ccR gjd Rjd) Rjd 101 0)), none, none]) dX11_school_30 ⟨by decide, rfl, rfl⟩ ?_
        refine go_iload_n dX11_school_31 rfl ?_
        refine go_if_lt dX11_school_32 (fun c32 => ?_) (fun c32 => ?_)
        · have hR := hrjd.2.2.2.2.2.2
          obtain ⟨K, hK1, hK2, hK3, hK4, hKs⟩ := hfs.resolve_left (fun y => by obtain ⟨K, p, y1, y2, y3⟩ := y; rw [show fmS (ccR gjd Rjd) Rjd 101 0 = nI p from y2] at c32; exact nI_pos (by omega) c32)
          have hK34 : K ≤ 34 := by have y1 := psS_ge (c := (ccR gjd Rjd)) (K - 1); have y2 := (hKs (K - 1) (Nat.zero_le _) (by omega)).1; have := hrjd.2.2.2.2.2.2; omega
          refine go_aload_n dX11_school_41 rfl ?_
          refine go_get dX11_school_42 fl_X11_19_11 hX.1 hX.2.1 hX.2.2.1 rfl ?_
          refine go_aload_n dX11_school_45 rfl ?_
          refine go_get dX11_school_46 fl_X11_10_11 hX.1 hX.2.1 hX.2.2.1 rfl ?_
          refine go_mem (f' := sc G (sc G f s F W A B) t F3 W3 A3 B3) (by rw [hs, htr]) ?_
          refine go_V [.ref s] [] dX11_school_49 vl_X11_61 ⟨by omega, by decide⟩ (e_X5_becomes2 hqt hnt hq hn hdj (who2s h.hw hz)) sc_obj hqt (by omega) rfl rfl (Nat.le_of_ble_eq_true rfl) (Nat.le_of_ble_eq_true rfl) (Nat.le_of_ble_eq_true rfl) (fun rb fb nb hb => ?_)
          obtain ⟨hb1, hb2, hb3⟩ := hb
          subst rb
          subst fb
          subst nb
          refine go_mem (f' := (sc G f t F W A B)) (by rw [hs]) ?_
          have hbo := (hOt.2 jd bjd eRjd).1
          have hao := (hOt.2 jd bjd eRjd).2 _ _ hrjd.1
          have hxo : (sc G f t F W A B) x = ob 11 (xfs s i0 t w os rs b) := (sc_out hxt).trans hX.1
          have hxn := hX.2.2.1
          have hbn := hrjd.2.2.1
          have han := hrjd.2.2.2.2.2.1
          have hrb : (sc G f t F W A B) bjd = ob 4 [.int (A 11 jd), .ref arjd] := (sc_out hbo).trans hrjd.1
          have hra : (sc G f t F W A B) arjd = ia G Rjd gjd := (sc_out hao).trans hrjd.2.2.2.1
          refine go_iconst (v := 0) dX11_school_52 rfl ?_
          refine go_istore (ls' := [some (.ref x), some (.int (nI jd)), some (.ref bjd), some (.int (fmS (ccR gjd Rjd) Rjd 101 0)), some (.int 0), none]) dX11_school_53 ⟨by decide, rfl, rfl⟩ ?_
          refine go_iconst (v := 0) dX11_school_55 rfl ?_
          refine go_istore (ls' := [some (.ref x), some (.int (nI jd)), some (.ref bjd), some (.int (fmS (ccR gjd Rjd) Rjd 101 0)), some (.int 0), some (.int 0)]) dX11_school_56 ⟨by decide, rfl, rfl⟩ ?_
          have lp0 : ∀ (μ_lp0 : Nat) (k : Nat) (m : Mem) (nn : Nat) (F1 : Nat → Int32) (W1 : Nat → Option Nat) (q : SS) (B1 : Nat → Int32) (hk : k ≤ K) (hmk : K + 1 ≤ k + μ_lp0) (hm : ∀ z, z < n → m z = f z) (hnn : n ≤ nn) (l0 : F1 0 = nI q.1) (l1 : F1 1 = nI q.2.1) (l2 : F1 2 = q.2.2.1) (lb : ∀ a b, a < q.1 → b < q.1 → B1 (a * 8 + b) = brS q.2.2.2 a b) (lw : whoOK G m t nn W1 q.2.2.2) (lo : schOK q) (lz : ∀ Z : Nat → Prop, (∀ z, n ≤ z → Z z) → wP Z W → wP Z W1) (lr : rnS (ccR gjd Rjd) K 0 (N, M, F 2, A) = rnS (ccR gjd Rjd) (K - k) k q) , Go G mX11_school 9 34 34 Q9 k k 58 [some (.ref x), some (.int (nI jd)), some (.ref bjd), none, some (.int (nI k)), some (.int (nI (psS (ccR gjd Rjd) k)))] [] (sc G m t F1 W1 q.2.2.2 B1) nn := by
            intro μ_lp0
            induction μ_lp0 with
            | zero =>
              intro k m nn F1 W1 q B1 hk hmk hm hnn l0 l1 l2 lb lw lo lz lr
              exact absurd hmk (by omega)
            | succ μ_lp0 ih_lp0 =>
              intro k m nn F1 W1 q B1 hk hmk hm hnn l0 l1 l2 lb lw lo lz lr
              have hp5 := psS_le (c := (ccR gjd Rjd)) k
              have hrb0 : m bjd = ob 4 [.int (A 11 jd), .ref arjd] := (hm _ hbn).trans hrjd.1
              have hra0 : m arjd = ia G Rjd gjd := (hm _ han).trans hrjd.2.2.2.1
              have hrb : (sc G m t F1 W1 q.2.2.2 B1) bjd = ob 4 [.int (A 11 jd), .ref arjd] := (sc_out hbo).trans hrb0
              have hra : (sc G m t F1 W1 q.2.2.2 B1) arjd = ia G Rjd gjd := (sc_out hao).trans hra0
              have hxo : (sc G m t F1 W1 q.2.2.2 B1) x = ob 11 (xfs s i0 t w os rs b) := (sc_out hxt).trans ((hm _ hxn).trans hX.1)
              refine go_iload dX11_school_58 rfl ?_
              refine go_aload_n dX11_school_60 rfl ?_
              refine go_Vr [] [.int (nI (psS (ccR gjd Rjd) k))] dX11_school_61 vl_X11_65 ⟨by omega, by decide⟩ (e_X4_size (f := (sc G m t F1 W1 q.2.2.2 B1)) (n := nn) (g := gjd) (R := Rjd) (so := A 11 jd) (ar := arjd) hrb hrjd.2.1 (by omega) hra hrjd.2.2.2.2.1 (by omega) hrjd.2.2.2.2.2.2) hrb hrjd.2.1 (by omega) rfl rfl (Nat.le_of_ble_eq_true rfl) (by omega) (by omega) ?_
              refine go_icmp_ge dX11_school_64 (fun c64 => ?_) (fun c64 => ?_)
              · have c64n := (nI_leI (a := Rjd) (b := psS (ccR gjd Rjd) k) (by omega) (by omega)).mp c64
                have c64n := Nat.not_lt.mpr c64n
                have c64 := Int32.not_lt.mpr c64
                have hkK : k = K := Nat.le_antisymm hk (Nat.le_of_not_lt fun z => by have := (hKs k (Nat.zero_le _) z).1; omega)
                refine go_aload_n dX11_school_109 rfl ?_
                refine go_get dX11_school_110 fl_X11_10_11 hxo hX.2.1 (by omega) rfl ?_
                refine go_aload_n dX11_school_113 rfl ?_
                refine go_get dX11_school_114 fl_X11_19_11 hxo hX.2.1 (by omega) rfl ?_
                have lz2 := lz (zST s t) (fun z hz => ⟨Or.inr (by omega), Or.inr (by omega)⟩) hz
                refine go_mem (f' := sc G (sc G m t F1 W1 q.2.2.2 B1) s F W A B) (by rw [sc_sc (s := s) (s2 := t) hdj.symm, sc_of hs hm hn]) ?_
                refine go_V [.ref t] [] dX11_school_117 vl_X11_61 ⟨by omega, by decide⟩ (e_X5_becomes2 hq (by omega) hqt (by omega) hdj.symm (who2 lw lz2)) sc_obj hq (by omega) rfl rfl (Nat.le_of_ble_eq_true rfl) (by omega) (by omega) (fun rb fb nb hb => ?_)
                obtain ⟨hb1, hb2, hb3⟩ := hb
                subst rb
                subst fb
                subst nb
                refine go_iload dX11_school_120 rfl ?_
                exact go_iret dX11_school_122 rfl (by omega) (by omega) (hQ9 ▸ ⟨⟨by omega, fun z y1 y2 y3 => (sc_out y2).trans ((sc_out y3).trans (hm z y1)), F1, W1, q.2.2.2, B1, by rw [sc_sc (s := t) (s2 := s) hdj, sc_idem]⟩, (nI k, some q), rfl, Or.inr ⟨jd, bjd, arjd, Rjd, gjd, hjd, rfl, e8jd, eRjd, hrjd, eKjd, Or.inr ⟨c20, by rw [schV_run hK1, lr, hkK, Nat.sub_self]; rfl⟩⟩, F1, W1, B1, sc_idem, l0, l1, l2, lb, fun p hp => (who2 lw lz2 p hp).elim fun a y => ⟨a, y.1, (y.2.1.sc y.2.2.1).sc y.2.2.2⟩, lz⟩)
              · have c64n := mt (nI_leI (a := Rjd) (b := psS (ccR gjd Rjd) k) (by omega) (by omega)).mpr c64
                have c64n := Nat.lt_of_not_le c64n
                have c64 := Int32.not_le.mp c64
                refine go_aload_n dX11_school_67 rfl ?_
                refine go_get dX11_school_68 fl_X11_19_11 hxo hX.2.1 (by omega) rfl ?_
                refine go_aload_n dX11_school_71 rfl ?_
                refine go_iload dX11_school_72 rfl ?_
                have hkK : k < K := Nat.lt_of_not_le fun z => by have e : k = K := Nat.le_antisymm hk z; subst e; omega
                have hkg := hKs k (Nat.zero_le _) hkK
                have hev := e_X5_carriesOut (m0 := m) (s := t) (n := nn) (F := F1) (W := W1) (A := q.2.2.2) (B := B1) (G := G) (g := gjd) hqt (by omega) l0 lo.1 l1 lo.2.1 lb lw (by rw [l2]; exact lo) hrb0 hbo hrjd.2.1 (by omega) hra0 hao hrjd.2.2.2.2.1 (by omega) hrjd.2.2.2.2.2.2 hkg.1 hkg.2
                rw [l2] at hev
                refine go_V [.ref bjd, .int (nI (psS (ccR gjd Rjd) k))] [] dX11_school_74 vl_X11_69 ⟨by omega, by decide⟩ hev sc_obj hqt (by omega) rfl rfl (Nat.le_of_ble_eq_true rfl) (by omega) (by omega) (fun rc fc n1 hc => ?_)
                obtain ⟨m1, F4, W4, A4, B4, hfc, hc1, hc2, hm1, hmt⟩ := hc
                subst fc
                generalize hex : exC (ccR gjd Rjd) (q.1, q.2.1, q.2.2.1, q.2.2.2) (psS (ccR gjd Rjd) k) = o1 at hmt
                cases o1 with
                | none =>
                  have hmt : rc = some (.int 0) := hmt
                  subst rc
                  refine go_if_ne dX11_school_77 (fun c77 => ?_) (fun c77 => ?_)
                  · have c77n := mt (n0_eq (a := 0) (by omega)).mpr c77
                    first | exact absurd c77n (by decide) | exact absurd (by decide) c77n | exact absurd rfl c77n | omega
                  · have c77n := (n0_eq (a := 0) (by omega)).mp c77
                    refine go_sipush (v := (-2000)) dX11_school_80 rfl ?_
                    refine go_iload dX11_school_83 rfl ?_
                    refine go_isub dX11_school_85 ?_
                    exact go_iret dX11_school_86 rfl (by omega) (by omega) (hQ9 ▸ ⟨⟨by omega, fun z y1 y2 y3 => (sc_out y3).trans ((hm1 z (by omega)).trans (hm z y1)), _, _, _, _, sc_idem⟩, (-2000 - nI (psS (ccR gjd Rjd) k), none), rfl, Or.inr ⟨jd, bjd, arjd, Rjd, gjd, hjd, rfl, e8jd, eRjd, hrjd, eKjd, Or.inr ⟨c20, by rw [schV_run hK1, lr, rn_no hkK hex]⟩⟩, by rw [sc_sc (s := s) (s2 := t) hdj.symm, sc_of hs (fun z y => (hm1 z (by omega)).trans (hm z y)) hn]⟩)
                | some q4 =>
                  obtain ⟨hrc, k0, k1, k2, kA, kb, kw, kz⟩ := hmt
                  subst rc
                  subst A4
                  have hrb : (sc G m1 t F4 W4 q4.2.2.2 B4) bjd = ob 4 [.int (A 11 jd), .ref arjd] := (sc_out hbo).trans ((hm1 _ (by omega)).trans hrb0)
                  have hra : (sc G m1 t F4 W4 q4.2.2.2 B4) arjd = ia G Rjd gjd := (sc_out hao).trans ((hm1 _ (by omega)).trans hra0)
                  refine go_if_ne dX11_school_77 (fun c77 => ?_) (fun c77 => ?_)
                  · have c77n := mt (n0_eq (a := 1) (by omega)).mpr c77
                    refine go_iinc (v := nI (k + 1)) (ls' := [some (.ref x), some (.int (nI jd)), some (.ref bjd), none, some (.int (nI (k + 1))), some (.int (nI (psS (ccR gjd Rjd) k)))]) dX11_school_87 rfl (nI_1 (k)) ⟨by decide, rfl, rfl⟩ ?_
                    refine go_iload dX11_school_90 rfl ?_
                    refine go_aload_n dX11_school_92 rfl ?_
                    refine go_iload dX11_school_93 rfl ?_
                    refine go_Vr [.int (nI (psS (ccR gjd Rjd) k))] [.int (nI (psS (ccR gjd Rjd) k))] dX11_school_95 vl_X11_73 ⟨by omega, by decide⟩ (e_X4_at (f := (sc G m1 t F4 W4 q4.2.2.2 B4)) (n := n1) (g := gjd) (R := Rjd) (so := A 11 jd) (ar := arjd) hrb hrjd.2.1 (by omega) hra hrjd.2.2.2.2.1 (by omega) hrjd.2.2.2.2.2.2) hrb hrjd.2.1 (by omega) rfl rfl (Nat.le_of_ble_eq_true rfl) (by omega) (by omega) ?_
                    refine go_Sr [.int (rdC gjd Rjd (nI (psS (ccR gjd Rjd) k)))] [.int (nI (psS (ccR gjd Rjd) k))] dX11_school_98 sl_X11_76 ⟨by omega, by decide⟩ e_X11_digitsBehind rfl rfl (Nat.le_of_ble_eq_true rfl) (by omega) (by omega) ?_
                    have hnd := ndD_le (l := rdC gjd Rjd (nI (psS (ccR gjd Rjd) k)))
                    refine go_iconst (v := 2) dX11_school_101 rfl ?_
                    refine go_iadd dX11_school_102 ?_
                    refine go_tp (z := nI ((ndD (rdC gjd Rjd (nI (psS (ccR gjd Rjd) k)))) + 2)) (nI_add (ndD (rdC gjd Rjd (nI (psS (ccR gjd Rjd) k)))) 2) ?_
                    refine go_iadd dX11_school_103 ?_
                    refine go_tp (z := nI ((psS (ccR gjd Rjd) k) + ((ndD (rdC gjd Rjd (nI (psS (ccR gjd Rjd) k)))) + 2))) (nI_add (psS (ccR gjd Rjd) k) ((ndD (rdC gjd Rjd (nI (psS (ccR gjd Rjd) k)))) + 2)) ?_
                    have hps : psS (ccR gjd Rjd) k + (ndD (rdC gjd Rjd (nI (psS (ccR gjd Rjd) k))) + 2) = psS (ccR gjd Rjd) (k + 1) := by show _ = psS (ccR gjd Rjd) k + 1 + ndS ((ccR gjd Rjd) (psS (ccR gjd Rjd) k)) + 1; have y := (ndD_l (l := rdC gjd Rjd (nI (psS (ccR gjd Rjd) k))) (ndD_ne (st_ltr hkg.2))).2; have : ndS ((ccR gjd Rjd) (psS (ccR gjd Rjd) k)) = ndS (rdC gjd Rjd (nI (psS (ccR gjd Rjd) k))) := rfl; omega
                    refine go_istore (ls' := [some (.ref x), some (.int (nI jd)), some (.ref bjd), none, some (.int (nI (k + 1))), some (.int (nI ((psS (ccR gjd Rjd) k) + ((ndD (rdC gjd Rjd (nI (psS (ccR gjd Rjd) k)))) + 2))))]) dX11_school_104 ⟨by decide, rfl, rfl⟩ ?_
                    refine go_goto dX11_school_106 ?_
                    refine go_ls (ls' := [some (.ref x), some (.int (nI jd)), some (.ref bjd), none, some (.int (nI (k + 1))), some (.int (nI (psS (ccR gjd Rjd) (k + 1))))]) (by rw [hps]) ?_
                    exact ih_lp0 (k + 1) m1 n1 F4 W4 q4 B4 (by omega) (by omega) (fun z hz => (hm1 z (by omega)).trans (hm z hz)) (by omega) k0 k1 k2 kb kw (exC_ok lo hkg.2 hex) (fun Z y1 y2 => kz Z (fun z hz => y1 z (by omega)) (lz Z y1 y2)) (lr.trans (rn_st hkK hex))
                  · have c77n := (n0_eq (a := 1) (by omega)).mp c77
                    first | exact absurd c77n (by decide) | exact absurd (by decide) c77n | exact absurd rfl c77n | omega
          refine go_weak (ls' := [some (.ref x), some (.int (nI jd)), some (.ref bjd), none, some (.int 0), some (.int 0)]) ⟨rfl, rfl, rfl, rfl, rfl, trivial⟩ ?_
          exact lp0 (K + 1) 0 f n F W (N, M, F 2, A) B (Nat.zero_le _) (by omega) (fun _ _ => rfl) (Nat.le_refl _) h.hN h.hM rfl h.hbe (whoT h.hw hz) hok (fun _ _ y => y) rfl
        · refine go_sipush (v := (-1000)) dX11_school_35 rfl ?_
          refine go_iload_n dX11_school_38 rfl ?_
          refine go_isub dX11_school_39 ?_
          exact go_iret dX11_school_40 rfl (Nat.le_of_ble_eq_true rfl) (Nat.le_of_ble_eq_true rfl) (hfs.elim (fun ⟨K, p, y1, y2, y3⟩ => hQ9 ▸ ⟨⟨Nat.le_refl _, fun _ _ _ _ => rfl, _, _, _, _, htr⟩, (-1000 - nI p, none), rd_i (by rw [show fmS (ccR gjd Rjd) Rjd 101 0 = nI p from y2]), Or.inr ⟨jd, bjd, arjd, Rjd, gjd, hjd, rfl, e8jd, eRjd, hrjd, eKjd, Or.inr ⟨c20, (schV_bad y1).symm⟩⟩, hs⟩) (fun ⟨K, y1, y2, y3⟩ => absurd (show fmS (ccR gjd Rjd) Rjd 101 0 < 0 by rw [show fmS (ccR gjd Rjd) Rjd 101 0 = -1 from y2]; decide) c32))
      · refine go_bipush (v := (-12)) dX11_school_23 rfl ?_
        exact go_iret dX11_school_25 rfl (Nat.le_of_ble_eq_true rfl) (Nat.le_of_ble_eq_true rfl) (hQ9 ▸ ⟨⟨Nat.le_refl _, fun _ _ _ _ => rfl, _, _, _, _, htr⟩, (-12, none), rfl, Or.inr ⟨jd, bjd, arjd, Rjd, gjd, hjd, rfl, e8jd, eRjd, hrjd, eKjd, Or.inl ⟨c20, rfl⟩⟩, hs⟩)
  · refine go_aload_n dX11_school_0 rfl ?_
    refine go_iload_n dX11_school_1 rfl ?_
    refine go_Vr [.int d] [] dX11_school_2 vl_X11_45 ⟨by decide, by decide⟩ (e_X11_rowOn hX) hX.1 hX.2.1 hX.2.2.1 rfl rfl (Nat.le_of_ble_eq_true rfl) (Nat.le_of_ble_eq_true rfl) (Nat.le_of_ble_eq_true rfl) ?_
    refine go_tv (w := .null) (by rw [if_neg hOd]; rfl) ?_
    refine go_astore_nN (ls' := [some (.ref x), some (.int d), some (.null), none, none, none]) dX11_school_5 ⟨by decide, rfl, rfl⟩ ?_
    refine go_aload_nN dX11_school_6 rfl ?_
    refine go_ifnonnullN dX11_school_7 ?_
    refine go_aload_n dX11_school_10 rfl ?_
    refine go_iload_n dX11_school_11 rfl ?_
    refine go_Vr [.int d] [] dX11_school_12 vl_X11_49 ⟨by decide, by decide⟩ (e_X11_whyNoRow hX hS) hX.1 hX.2.1 hX.2.2.1 rfl rfl (Nat.le_of_ble_eq_true rfl) (Nat.le_of_ble_eq_true rfl) (Nat.le_of_ble_eq_true rfl) ?_
    refine go_tp (z := (-1)) (if_neg hOd) ?_
    exact go_iret dX11_school_15 rfl (Nat.le_of_ble_eq_true rfl) (Nat.le_of_ble_eq_true rfl) (hQ9 ▸ ⟨⟨Nat.le_refl _, fun _ _ _ _ => rfl, _, _, _, _, htr⟩, (wkS (A 8) 2 d, none), rd_i (wk_no hOd).symm, Or.inl ⟨by rw [wk_no hOd]; decide, rfl⟩, hs⟩)
end E2
