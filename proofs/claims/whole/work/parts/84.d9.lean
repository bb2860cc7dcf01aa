/-! the face: joins, forged, june -/
theorem one_un {G : GX} {m0 : Mem} {s n a : Nat} {F : Nat → Int32} {W : Nat → Option Nat} {A : Nat → Nat → Int32} {B : Nat → Int32} {k g : Int32} (h : oneM G (sc G m0 s F W A B) n a k g) (ho : a < s ∨ s + 8 ≤ a) : oneM G m0 n a k g := by
  obtain ⟨kk, gg, h1, h2, h3, h4, h5, h6, h7⟩ := h
  exact ⟨kk, gg, h1, h2, h3, h4, (sc_out ho).symm.trans h5, h6, h7⟩
/-- what lies on the shelves lies apart from a school -/
def shO (f : Mem) (s : Nat) (Os Rs : Nat → Option Nat) : Prop := (∀ d a, Os d = some a → a < s ∨ s + 8 ≤ a) ∧ ∀ d b, Rs d = some b → (b < s ∨ s + 8 ≤ b) ∧ ∀ so ar, f b = ob 4 [.int so, .ref ar] → (ar < s ∨ s + 8 ≤ ar)
def jnQ (G : GX) (m0 : Mem) (s n N : Nat) (F : Nat → Int32) (W : Nat → Option Nat) (A : Nat → Nat → Int32) (B : Nat → Int32) (Os : Nat → Option Nat) (d h : Int32) : RQ := fun r f1 n1 => (jnW A d h < 0 ∧ r = some (.int (jnW A d h)) ∧ f1 = sc G m0 s F W A B ∧ n1 = n) ∨ (¬ jnW A d h < 0 ∧ ∃ jd v, jd ≤ 7 ∧ d = nI jd ∧ A 8 jd = 1 ∧ Os jd = some v ∧ jcQ G m0 s n N F W A B v (A 9 jd) (A 10 jd) h r f1 n1)
def foQ (G : GX) (f : Mem) (n N M : Nat) (A : Nat → Nat → Int32) (Rs : Nat → Option Nat) (d : Int32) : RQ := fun r f1 n1 => f1 = f ∧ n1 = n ∧ ((wkS (A 8) 2 d < 0 ∧ r = some (.int (wkS (A 8) 2 d))) ∨ ∃ jd b ar R g, jd ≤ 7 ∧ d = nI jd ∧ A 8 jd = 2 ∧ Rs jd = some b ∧ rowM G f n b ar R g (A 11 jd) ∧ A 12 jd = nI R ∧ r = some (.int (fsB (ffP N M g) 0 R)))
theorem wk_no {H : Nat → Int32} {x d : Int32} (h : ¬ okr d 0 7 = true) : wkS H x d = -1 := by
  unfold wkS
  rw [if_pos h]
theorem wk_0 {H : Nat → Int32} {x : Int32} {jd : Nat} (h : okr (nI jd) 0 7 = true) (hj : jd ≤ 7) (h0 : H jd = 0) : wkS H x (nI jd) = -11 := by
  unfold wkS
  rw [if_neg (fun z => z h), nI_clamp (by omega), if_pos h0]
theorem wk_x {H : Nat → Int32} {x : Int32} {jd : Nat} (h : okr (nI jd) 0 7 = true) (hj : jd ≤ 7) (h0 : ¬ H jd = 0) (h1 : ¬ H jd = x) : wkS H x (nI jd) = -12 := by
  unfold wkS
  rw [if_neg (fun z => z h), nI_clamp (by omega), if_neg h0, if_pos h1]
theorem wk_y {H : Nat → Int32} {x : Int32} {jd : Nat} (h : okr (nI jd) 0 7 = true) (hj : jd ≤ 7) (h0 : ¬ x = 0) (h1 : H jd = x) : wkS H x (nI jd) = 0 := by
  unfold wkS
  rw [if_neg (fun z => z h), nI_clamp (by omega), h1, if_neg h0, if_neg (fun z => z rfl)]
section D9
variable {G : GX} {m0 f : Mem} {x s i0 t w os rs n N M : Nat} {F : Nat → Int32} {W : Nat → Option Nat} {A : Nat → Nat → Int32} {B : Nat → Int32} {b : Int32} {Os Rs : Nat → Option Nat}
theorem jn_no {A : Nat → Nat → Int32} {d h : Int32} (hd : ¬ okr d 0 7 = true) : jnW A d h = -1 := by
  unfold jnW
  split
  · exact wk_no hd
  · rfl
theorem jn_l {G : GX} {m0 : Mem} {s n : Nat} {F : Nat → Int32} {W : Nat → Option Nat} {A : Nat → Nat → Int32} {B : Nat → Int32} {d h z : Int32} (e : jnW A d h = z) (hz : z < 0 := by decide) : jnW A d h < 0 ∧ (some (Value.int z) : Option Value) = some (.int (jnW A d h)) ∧ sc G m0 s F W A B = sc G m0 s F W A B ∧ n = n := ⟨e ▸ hz, by rw [e], rfl, rfl⟩
set_option maxHeartbeats 4000000 in
set_option maxRecDepth 100000 in
theorem e_X11_joins (hX : xsK G (sc G m0 s F W A B) x s i0 t w os rs n b Os Rs) (hS : ∀ d, d < 8 → shD G (sc G m0 s F W A B) n Os Rs A d) (hO : shO (sc G m0 s F W A B) s Os Rs) (hq : G.2.1 ≤ s) (hn : s + 8 ≤ n) (hN : F 0 = nI N) (hN8 : N ≤ 8) (hbe : ∀ a b, a < N → b < N → B (a * 8 + b) = brS A a b) (hw : whoOK G m0 s n W A) {d h : Int32} : Ev G mX11_joins 8 0 0 [.ref x, .int d, .int h] (sc G m0 s F W A B) n (jnQ G m0 s n N F W A B Os d h) := by
  generalize hQ9 : (jnQ G m0 s n N F W A B Os d h : RQ) = Q9
  refine ev_of (by decide) (Nat.le_of_ble_eq_true rfl) (ls := [some (.ref x), some (.int d), some (.int h), none]) rfl (fun hb => ?_)
  by_cases hOd : okr d 0 7 = true
  · obtain ⟨jd, hjd, rfl⟩ := okr_nI (k := 7) rfl (by omega) hOd
    have kjd : (nI jd).toNatClampNeg = jd := nI_clamp (by omega)
    rcases hS jd (by omega) with ⟨e8jd, eOjd, eRjd⟩ | ⟨e8jd, eRjd, ajd, eOjd, hojd⟩ | ⟨e8jd, eOjd, bjd, arjd, Rjd, gjd, eRjd, hrjd, eKjd⟩
    · refine go_iload_n dX11_joins_0 rfl ?_
      refine go_Sr [.int (nI jd)] [] dX11_joins_1 sl_X11_123 ⟨by decide, by decide⟩ e_X11_isShelf rfl rfl (Nat.le_of_ble_eq_true rfl) (Nat.le_of_ble_eq_true rfl) (Nat.le_of_ble_eq_true rfl) ?_
      refine go_tp (z := 1) (if_pos hOd) ?_
      refine go_if_eq dX11_joins_4 (fun c4 => ?_) (fun c4 => ?_)
      · have c4n := (n0_eq (a := 1) (by omega)).mp c4
        first | exact absurd c4n (by decide) | exact absurd (by decide) c4n | exact absurd rfl c4n | omega
      · have c4n := mt (n0_eq (a := 1) (by omega)).mpr c4
        refine go_iload_n dX11_joins_7 rfl ?_
        refine go_iconst (v := 0) dX11_joins_8 rfl ?_
        refine go_iconst (v := 5) dX11_joins_9 rfl ?_
        refine go_Sr [.int h, .int 0, .int 5] [] dX11_joins_10 sl_X11_126 ⟨by decide, by decide⟩ (e_X11_isWithin) rfl rfl (Nat.le_of_ble_eq_true rfl) (Nat.le_of_ble_eq_true rfl) (Nat.le_of_ble_eq_true rfl) ?_
        refine go_if_ne dX11_joins_13 (fun c13 => ?_) (fun c13 => ?_)
        · have c13 := bz_t c13
          refine go_aload_n dX11_joins_18 rfl ?_
          refine go_get dX11_joins_19 fl_X11_31_11 hX.1 hX.2.1 hX.2.2.1 rfl ?_
          refine go_iload_n dX11_joins_22 rfl ?_
          refine go_oald dX11_joins_23 hX.2.2.2.1 hX.2.2.2.2.1 hX.2.2.2.2.2.1 (vp_in_nI (n := jd) (by show jd < 8; omega) (by decide)) ?_
          refine go_tv (w := .null) (by rw [nI_clamp (by omega), eOjd]; rfl) ?_
          refine go_astore_nN (ls' := [some (.ref x), some (.int (nI jd)), some (.int h), some (.null)]) dX11_joins_24 ⟨by decide, rfl, rfl⟩ ?_
          refine go_aload_nN dX11_joins_25 rfl ?_
          refine go_ifnonnullN dX11_joins_26 ?_
          refine go_aload_n dX11_joins_29 rfl ?_
          refine go_iload_n dX11_joins_30 rfl ?_
          refine go_Vr [.int (nI jd)] [] dX11_joins_31 vl_X11_130 ⟨by decide, by decide⟩ (e_X11_whyNoOne hX hS) hX.1 hX.2.1 hX.2.2.1 rfl rfl (Nat.le_of_ble_eq_true rfl) (Nat.le_of_ble_eq_true rfl) (Nat.le_of_ble_eq_true rfl) ?_
          refine go_tp (z := (-11)) (by rw [if_pos hOd, nI_clamp (by omega), e8jd]; rfl) ?_
          refine go_goto dX11_joins_34 ?_
          exact go_iret dX11_joins_46 rfl (Nat.le_of_ble_eq_true rfl) (Nat.le_of_ble_eq_true rfl) (hQ9 ▸ Or.inl (jn_l ((if_pos c13).trans (wk_0 hOd hjd e8jd))))
        · have c13 := bz_f c13
          refine go_iconst (v := (-1)) dX11_joins_16 rfl ?_
          exact go_iret dX11_joins_17 rfl (Nat.le_of_ble_eq_true rfl) (Nat.le_of_ble_eq_true rfl) (hQ9 ▸ Or.inl (jn_l (if_neg c13)))
    · refine go_iload_n dX11_joins_0 rfl ?_
      refine go_Sr [.int (nI jd)] [] dX11_joins_1 sl_X11_123 ⟨by decide, by decide⟩ e_X11_isShelf rfl rfl (Nat.le_of_ble_eq_true rfl) (Nat.le_of_ble_eq_true rfl) (Nat.le_of_ble_eq_true rfl) ?_
      refine go_tp (z := 1) (if_pos hOd) ?_
      refine go_if_eq dX11_joins_4 (fun c4 => ?_) (fun c4 => ?_)
      · have c4n := (n0_eq (a := 1) (by omega)).mp c4
        first | exact absurd c4n (by decide) | exact absurd (by decide) c4n | exact absurd rfl c4n | omega
      · have c4n := mt (n0_eq (a := 1) (by omega)).mpr c4
        refine go_iload_n dX11_joins_7 rfl ?_
        refine go_iconst (v := 0) dX11_joins_8 rfl ?_
        refine go_iconst (v := 5) dX11_joins_9 rfl ?_
        refine go_Sr [.int h, .int 0, .int 5] [] dX11_joins_10 sl_X11_126 ⟨by decide, by decide⟩ (e_X11_isWithin) rfl rfl (Nat.le_of_ble_eq_true rfl) (Nat.le_of_ble_eq_true rfl) (Nat.le_of_ble_eq_true rfl) ?_
        refine go_if_ne dX11_joins_13 (fun c13 => ?_) (fun c13 => ?_)
        · have c13 := bz_t c13
          refine go_aload_n dX11_joins_18 rfl ?_
          refine go_get dX11_joins_19 fl_X11_31_11 hX.1 hX.2.1 hX.2.2.1 rfl ?_
          refine go_iload_n dX11_joins_22 rfl ?_
          refine go_oald dX11_joins_23 hX.2.2.2.1 hX.2.2.2.2.1 hX.2.2.2.2.2.1 (vp_in_nI (n := jd) (by show jd < 8; omega) (by decide)) ?_
          refine go_tv (w := .ref ajd) (by rw [nI_clamp (by omega), eOjd]; rfl) ?_
          refine go_astore_n (ls' := [some (.ref x), some (.int (nI jd)), some (.int h), some (.ref ajd)]) dX11_joins_24 ⟨by decide, rfl, rfl⟩ ?_
          refine go_aload_n dX11_joins_25 rfl ?_
          refine go_ifnonnull dX11_joins_26 ?_
          refine go_aload_n dX11_joins_37 rfl ?_
          refine go_get dX11_joins_38 fl_X11_10_11 hX.1 hX.2.1 hX.2.2.1 rfl ?_
          refine go_aload_n dX11_joins_41 rfl ?_
          refine go_iload_n dX11_joins_42 rfl ?_
          have hvo := hO.1 jd ajd eOjd
          refine go_V [.ref ajd, .int h] [] dX11_joins_43 vl_X11_133 ⟨by decide, by decide⟩ (e_X5_join hq hn hN hN8 hbe hw (one_un hojd hvo) hvo) sc_obj hq (by omega) rfl rfl (Nat.le_of_ble_eq_true rfl) (Nat.le_of_ble_eq_true rfl) (Nat.le_of_ble_eq_true rfl) (fun r1 f1 n1 h1 => ?_)
          rcases (id h1) with ⟨hn1, ⟨j1, j2, hr1, B1, hB1, hf1⟩ | ⟨j1, hr1, hf1⟩⟩
          · subst r1
            exact go_iret dX11_joins_46 rfl (Nat.le_of_ble_eq_true rfl) (Nat.le_of_ble_eq_true rfl) (hQ9 ▸ Or.inr ⟨by unfold jnW; rw [if_pos c13, wk_y hOd hjd (by decide) e8jd]; decide, jd, ajd, hjd, rfl, e8jd, eOjd, h1⟩)
          · subst r1
            exact go_iret dX11_joins_46 rfl (Nat.le_of_ble_eq_true rfl) (Nat.le_of_ble_eq_true rfl) (hQ9 ▸ Or.inr ⟨by unfold jnW; rw [if_pos c13, wk_y hOd hjd (by decide) e8jd]; decide, jd, ajd, hjd, rfl, e8jd, eOjd, h1⟩)
        · have c13 := bz_f c13
          refine go_iconst (v := (-1)) dX11_joins_16 rfl ?_
          exact go_iret dX11_joins_17 rfl (Nat.le_of_ble_eq_true rfl) (Nat.le_of_ble_eq_true rfl) (hQ9 ▸ Or.inl (jn_l (if_neg c13)))
    · refine go_iload_n dX11_joins_0 rfl ?_
      refine go_Sr [.int (nI jd)] [] dX11_joins_1 sl_X11_123 ⟨by decide, by decide⟩ e_X11_isShelf rfl rfl (Nat.le_of_ble_eq_true rfl) (Nat.le_of_ble_eq_true rfl) (Nat.le_of_ble_eq_true rfl) ?_
      refine go_tp (z := 1) (if_pos hOd) ?_
      refine go_if_eq dX11_joins_4 (fun c4 => ?_) (fun c4 => ?_)
      · have c4n := (n0_eq (a := 1) (by omega)).mp c4
        first | exact absurd c4n (by decide) | exact absurd (by decide) c4n | exact absurd rfl c4n | omega
      · have c4n := mt (n0_eq (a := 1) (by omega)).mpr c4
        refine go_iload_n dX11_joins_7 rfl ?_
        refine go_iconst (v := 0) dX11_joins_8 rfl ?_
        refine go_iconst (v := 5) dX11_joins_9 rfl ?_
        refine go_Sr [.int h, .int 0, .int 5] [] dX11_joins_10 sl_X11_126 ⟨by decide, by decide⟩ (e_X11_isWithin) rfl rfl (Nat.le_of_ble_eq_true rfl) (Nat.le_of_ble_eq_true rfl) (Nat.le_of_ble_eq_true rfl) ?_
        refine go_if_ne dX11_joins_13 (fun c13 => ?_) (fun c13 => ?_)
        · have c13 := bz_t c13
          refine go_aload_n dX11_joins_18 rfl ?_
          refine go_get dX11_joins_19 fl_X11_31_11 hX.1 hX.2.1 hX.2.2.1 rfl ?_
          refine go_iload_n dX11_joins_22 rfl ?_
          refine go_oald dX11_joins_23 hX.2.2.2.1 hX.2.2.2.2.1 hX.2.2.2.2.2.1 (vp_in_nI (n := jd) (by show jd < 8; omega) (by decide)) ?_
          refine go_tv (w := .null) (by rw [nI_clamp (by omega), eOjd]; rfl) ?_
          refine go_astore_nN (ls' := [some (.ref x), some (.int (nI jd)), some (.int h), some (.null)]) dX11_joins_24 ⟨by decide, rfl, rfl⟩ ?_
          refine go_aload_nN dX11_joins_25 rfl ?_
          refine go_ifnonnullN dX11_joins_26 ?_
          refine go_aload_n dX11_joins_29 rfl ?_
          refine go_iload_n dX11_joins_30 rfl ?_
          refine go_Vr [.int (nI jd)] [] dX11_joins_31 vl_X11_130 ⟨by decide, by decide⟩ (e_X11_whyNoOne hX hS) hX.1 hX.2.1 hX.2.2.1 rfl rfl (Nat.le_of_ble_eq_true rfl) (Nat.le_of_ble_eq_true rfl) (Nat.le_of_ble_eq_true rfl) ?_
          refine go_tp (z := (-12)) (by rw [if_pos hOd, nI_clamp (by omega), e8jd]; rfl) ?_
          refine go_goto dX11_joins_34 ?_
          exact go_iret dX11_joins_46 rfl (Nat.le_of_ble_eq_true rfl) (Nat.le_of_ble_eq_true rfl) (hQ9 ▸ Or.inl (jn_l ((if_pos c13).trans (wk_x hOd hjd (by rw [e8jd]; decide) (by rw [e8jd]; decide)))))
        · have c13 := bz_f c13
          refine go_iconst (v := (-1)) dX11_joins_16 rfl ?_
          exact go_iret dX11_joins_17 rfl (Nat.le_of_ble_eq_true rfl) (Nat.le_of_ble_eq_true rfl) (hQ9 ▸ Or.inl (jn_l (if_neg c13)))
  · refine go_iload_n dX11_joins_0 rfl ?_
    refine go_Sr [.int d] [] dX11_joins_1 sl_X11_123 ⟨by decide, by decide⟩ e_X11_isShelf rfl rfl (Nat.le_of_ble_eq_true rfl) (Nat.le_of_ble_eq_true rfl) (Nat.le_of_ble_eq_true rfl) ?_
    refine go_tp (z := 0) (if_neg hOd) ?_
    refine go_if_eq dX11_joins_4 (fun c4 => ?_) (fun c4 => ?_)
    · have c4n := (n0_eq (a := 0) (by omega)).mp c4
      refine go_iconst (v := (-1)) dX11_joins_16 rfl ?_
      exact go_iret dX11_joins_17 rfl (Nat.le_of_ble_eq_true rfl) (Nat.le_of_ble_eq_true rfl) (hQ9 ▸ Or.inl (jn_l (jn_no hOd)))
    · have c4n := mt (n0_eq (a := 0) (by omega)).mpr c4
      first | exact absurd c4n (by decide) | exact absurd (by decide) c4n | exact absurd rfl c4n | omega
set_option maxHeartbeats 4000000 in
set_option maxRecDepth 100000 in
theorem e_X11_forged (hX : xsK G (sc G m0 s F W A B) x s i0 t w os rs n b Os Rs) (hS : ∀ d, d < 8 → shD G (sc G m0 s F W A B) n Os Rs A d) (hO : shO (sc G m0 s F W A B) s Os Rs) (hq : G.2.1 ≤ s) (hn : s + 8 ≤ n) (hN : F 0 = nI N) (hN8 : N ≤ 8) (hM : F 1 = nI M) (hM5 : M ≤ 5) {d : Int32} : Ev G mX11_forged 8 0 0 [.ref x, .int d] (sc G m0 s F W A B) n (foQ G (sc G m0 s F W A B) n N M A Rs d) := by
  generalize hQ9 : (foQ G (sc G m0 s F W A B) n N M A Rs d : RQ) = Q9
  refine ev_of (by decide) (Nat.le_of_ble_eq_true rfl) (ls := [some (.ref x), some (.int d), none]) rfl (fun hb => ?_)
  by_cases hOd : okr d 0 7 = true
  · obtain ⟨jd, hjd, rfl⟩ := okr_nI (k := 7) rfl (by omega) hOd
    have kjd : (nI jd).toNatClampNeg = jd := nI_clamp (by omega)
    rcases hS jd (by omega) with ⟨e8jd, eOjd, eRjd⟩ | ⟨e8jd, eRjd, ajd, eOjd, hojd⟩ | ⟨e8jd, eOjd, bjd, arjd, Rjd, gjd, eRjd, hrjd, eKjd⟩
    · refine go_aload_n dX11_forged_0 rfl ?_
      refine go_iload_n dX11_forged_1 rfl ?_
      refine go_Vr [.int (nI jd)] [] dX11_forged_2 vl_X11_45 ⟨by decide, by decide⟩ (e_X11_rowOn hX) hX.1 hX.2.1 hX.2.2.1 rfl rfl (Nat.le_of_ble_eq_true rfl) (Nat.le_of_ble_eq_true rfl) (Nat.le_of_ble_eq_true rfl) ?_
      refine go_tv (w := .null) (by rw [if_pos hOd, nI_clamp (by omega), eRjd]; rfl) ?_
      refine go_astore_nN (ls' := [some (.ref x), some (.int (nI jd)), some (.null)]) dX11_forged_5 ⟨by decide, rfl, rfl⟩ ?_
      refine go_aload_nN dX11_forged_6 rfl ?_
      refine go_ifnonnullN dX11_forged_7 ?_
      refine go_aload_n dX11_forged_10 rfl ?_
      refine go_iload_n dX11_forged_11 rfl ?_
      refine go_Vr [.int (nI jd)] [] dX11_forged_12 vl_X11_49 ⟨by decide, by decide⟩ (e_X11_whyNoRow hX hS) hX.1 hX.2.1 hX.2.2.1 rfl rfl (Nat.le_of_ble_eq_true rfl) (Nat.le_of_ble_eq_true rfl) (Nat.le_of_ble_eq_true rfl) ?_
      refine go_tp (z := (-11)) (by rw [if_pos hOd, nI_clamp (by omega), e8jd]; rfl) ?_
      refine go_goto dX11_forged_15 ?_
      exact go_iret dX11_forged_26 rfl (Nat.le_of_ble_eq_true rfl) (Nat.le_of_ble_eq_true rfl) (hQ9 ▸ ⟨rfl, rfl, Or.inl ⟨by rw [wk_0 hOd hjd e8jd]; decide, by rw [wk_0 hOd hjd e8jd]⟩⟩)
    · refine go_aload_n dX11_forged_0 rfl ?_
      refine go_iload_n dX11_forged_1 rfl ?_
      refine go_Vr [.int (nI jd)] [] dX11_forged_2 vl_X11_45 ⟨by decide, by decide⟩ (e_X11_rowOn hX) hX.1 hX.2.1 hX.2.2.1 rfl rfl (Nat.le_of_ble_eq_true rfl) (Nat.le_of_ble_eq_true rfl) (Nat.le_of_ble_eq_true rfl) ?_
      refine go_tv (w := .null) (by rw [if_pos hOd, nI_clamp (by omega), eRjd]; rfl) ?_
      refine go_astore_nN (ls' := [some (.ref x), some (.int (nI jd)), some (.null)]) dX11_forged_5 ⟨by decide, rfl, rfl⟩ ?_
      refine go_aload_nN dX11_forged_6 rfl ?_
      refine go_ifnonnullN dX11_forged_7 ?_
      refine go_aload_n dX11_forged_10 rfl ?_
      refine go_iload_n dX11_forged_11 rfl ?_
      refine go_Vr [.int (nI jd)] [] dX11_forged_12 vl_X11_49 ⟨by decide, by decide⟩ (e_X11_whyNoRow hX hS) hX.1 hX.2.1 hX.2.2.1 rfl rfl (Nat.le_of_ble_eq_true rfl) (Nat.le_of_ble_eq_true rfl) (Nat.le_of_ble_eq_true rfl) ?_
      refine go_tp (z := (-12)) (by rw [if_pos hOd, nI_clamp (by omega), e8jd]; rfl) ?_
      refine go_goto dX11_forged_15 ?_
      exact go_iret dX11_forged_26 rfl (Nat.le_of_ble_eq_true rfl) (Nat.le_of_ble_eq_true rfl) (hQ9 ▸ ⟨rfl, rfl, Or.inl ⟨by rw [wk_x hOd hjd (by rw [e8jd]; decide) (by rw [e8jd]; decide)]; decide, by rw [wk_x hOd hjd (by rw [e8jd]; decide) (by rw [e8jd]; decide)]⟩⟩)
    · refine go_aload_n dX11_forged_0 rfl ?_
      refine go_iload_n dX11_forged_1 rfl ?_
      refine go_Vr [.int (nI jd)] [] dX11_forged_2 vl_X11_45 ⟨by decide, by decide⟩ (e_X11_rowOn hX) hX.1 hX.2.1 hX.2.2.1 rfl rfl (Nat.le_of_ble_eq_true rfl) (Nat.le_of_ble_eq_true rfl) (Nat.le_of_ble_eq_true rfl) ?_
      refine go_tv (w := .ref bjd) (by rw [if_pos hOd, nI_clamp (by omega), eRjd]; rfl) ?_
      refine go_astore_n (ls' := [some (.ref x), some (.int (nI jd)), some (.ref bjd)]) dX11_forged_5 ⟨by decide, rfl, rfl⟩ ?_
      refine go_aload_n dX11_forged_6 rfl ?_
      refine go_ifnonnull dX11_forged_7 ?_
      refine go_aload_n dX11_forged_18 rfl ?_
      refine go_get dX11_forged_19 fl_X11_10_11 hX.1 hX.2.1 hX.2.2.1 rfl ?_
      refine go_aload_n dX11_forged_22 rfl ?_
      have hbo := (hO.2 jd bjd eRjd).1
      have hao := (hO.2 jd bjd eRjd).2 _ _ hrjd.1
      refine go_Vr [.ref bjd] [] dX11_forged_23 vl_X11_261 ⟨by decide, by decide⟩ (e_X5_firstForged (g := gjd) (R := Rjd) hq hn hN hN8 hM hM5 ((sc_out hbo).symm.trans hrjd.1) hbo hrjd.2.1 hrjd.2.2.1 ((sc_out hao).symm.trans hrjd.2.2.2.1) hao hrjd.2.2.2.2.1 hrjd.2.2.2.2.2.1 hrjd.2.2.2.2.2.2) sc_obj hq (by omega) rfl rfl (Nat.le_of_ble_eq_true rfl) (Nat.le_of_ble_eq_true rfl) (Nat.le_of_ble_eq_true rfl) ?_
      exact go_iret dX11_forged_26 rfl (Nat.le_of_ble_eq_true rfl) (Nat.le_of_ble_eq_true rfl) (hQ9 ▸ ⟨rfl, rfl, Or.inr ⟨jd, bjd, arjd, Rjd, gjd, hjd, rfl, e8jd, eRjd, hrjd, eKjd, rfl⟩⟩)
  · refine go_aload_n dX11_forged_0 rfl ?_
    refine go_iload_n dX11_forged_1 rfl ?_
    refine go_Vr [.int d] [] dX11_forged_2 vl_X11_45 ⟨by decide, by decide⟩ (e_X11_rowOn hX) hX.1 hX.2.1 hX.2.2.1 rfl rfl (Nat.le_of_ble_eq_true rfl) (Nat.le_of_ble_eq_true rfl) (Nat.le_of_ble_eq_true rfl) ?_
    refine go_tv (w := .null) (by rw [if_neg hOd]; rfl) ?_
    refine go_astore_nN (ls' := [some (.ref x), some (.int d), some (.null)]) dX11_forged_5 ⟨by decide, rfl, rfl⟩ ?_
    refine go_aload_nN dX11_forged_6 rfl ?_
    refine go_ifnonnullN dX11_forged_7 ?_
    refine go_aload_n dX11_forged_10 rfl ?_
    refine go_iload_n dX11_forged_11 rfl ?_
    refine go_Vr [.int d] [] dX11_forged_12 vl_X11_49 ⟨by decide, by decide⟩ (e_X11_whyNoRow hX hS) hX.1 hX.2.1 hX.2.2.1 rfl rfl (Nat.le_of_ble_eq_true rfl) (Nat.le_of_ble_eq_true rfl) (Nat.le_of_ble_eq_true rfl) ?_
    refine go_tp (z := (-1)) (if_neg hOd) ?_
    refine go_goto dX11_forged_15 ?_
    exact go_iret dX11_forged_26 rfl (Nat.le_of_ble_eq_true rfl) (Nat.le_of_ble_eq_true rfl) (hQ9 ▸ ⟨rfl, rfl, Or.inl ⟨by rw [wk_no hOd]; decide, by rw [wk_no hOd]⟩⟩)
end D9
