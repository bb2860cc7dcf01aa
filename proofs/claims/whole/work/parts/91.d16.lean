/-! copy -/
def cpyQ (G : GX) (f : Mem) (n : Nat) (Rs : Nat → Option Nat) (A : Nat → Nat → Int32) (d i e j x : Int32) : RQ := fun r f1 n1 => n1 = n ∧ ((f1 = f ∧ ((¬ (okr d 0 7 = true ∧ okr e 0 7 = true) ∧ r = some (.int (-1))) ∨ ∃ jd je, jd ≤ 7 ∧ je ≤ 7 ∧ d = nI jd ∧ e = nI je ∧ (((A 8 jd = 0 ∨ A 8 je = 0) ∧ r = some (.int (-11))) ∨ (¬ A 8 jd = 0 ∧ ¬ A 8 je = 0 ∧ (A 8 jd = 1 ∨ A 8 je = 1 ∨ ¬ A 11 jd = A 11 je) ∧ r = some (.int (-12))) ∨ ∃ b ar R g b2 ar2 R2 g2, A 8 jd = 2 ∧ A 8 je = 2 ∧ A 11 jd = A 11 je ∧ Rs jd = some b ∧ Rs je = some b2 ∧ rowM G f n b ar R g (A 11 jd) ∧ rowM G f n b2 ar2 R2 g2 (A 11 je) ∧ A 12 jd = nI R ∧ A 12 je = nI R2 ∧ ¬ (hrS R i x = true ∧ hrS R2 j x = true) ∧ r = some (.int (-13))))) ∨ ∃ jd je b ar R g b2 ar2 R2 g2, jd ≤ 7 ∧ je ≤ 7 ∧ d = nI jd ∧ e = nI je ∧ A 8 jd = 2 ∧ A 8 je = 2 ∧ A 11 jd = A 11 je ∧ Rs jd = some b ∧ Rs je = some b2 ∧ rowM G f n b ar R g (A 11 jd) ∧ rowM G f n b2 ar2 R2 g2 (A 11 je) ∧ A 12 jd = nI R ∧ A 12 je = nI R2 ∧ hrS R i x = true ∧ hrS R2 j x = true ∧ r = some (.int x) ∧ f1 = va_up f ar2 (ia G R2 (va_cpy g g2 i.toNatClampNeg j.toNatClampNeg x.toNatClampNeg)))
theorem hrS_b {R : Nat} {i x : Int32} (hR : R ≤ 100) (h : hrS R i x = true) : ¬ i < 0 ∧ ¬ x < 0 ∧ i.toNatClampNeg + x.toNatClampNeg ≤ R := by
  obtain ⟨h1, h2, h3, h4⟩ := of_decide_eq_true h
  obtain ⟨a, ha, rfl⟩ := nI_of h1
  obtain ⟨c, hc, rfl⟩ := nI_of h2
  have h5 : ¬ R < a := fun z => h3 ((nI_ltI (by omega) (by omega)).mpr z)
  have h6 : nI R - nI a = nI (R - a) := by
    have e : nI R = nI ((R - a) + a) := by rw [Nat.sub_add_cancel (by omega)]
    rw [e, ← nI_add (R - a) a]
    exact Int32.add_sub_cancel _ _
  rw [h6] at h4
  have h7 : ¬ R - a < c := fun z => h4 ((nI_ltI (by omega) (by omega)).mpr z)
  rw [nI_clamp (by omega), nI_clamp (by omega)]
  exact ⟨h1, h2, by omega⟩
section D16
variable {G : GX} {f : Mem} {x s i0 t w os rs n : Nat} {b : Int32} {Os Rs : Nat → Option Nat} {A : Nat → Nat → Int32} {L : Nat → Nat → Int64}
set_option maxHeartbeats 4000000 in
set_option maxRecDepth 100000 in
theorem e_X11_copy (hX : xsK G f x s i0 t w os rs n b Os Rs) (hS : ∀ d, d < 8 → shD G f n Os Rs A d) {d i e j x2 : Int32} : Ev G mX11_copy 8 0 0 [.ref x, .int d, .int i, .int e, .int j, .int x2] f n (cpyQ G f n Rs A d i e j x2) := by
  generalize hQ9 : (cpyQ G f n Rs A d i e j x2 : RQ) = Q9
  refine ev_of (by decide) (Nat.le_of_ble_eq_true rfl) (ls := [some (.ref x), some (.int d), some (.int i), some (.int e), some (.int j), some (.int x2), none, none]) rfl (fun hb => ?_)
  by_cases hOd : okr d 0 7 = true
  · obtain ⟨jd, hjd, rfl⟩ := okr_nI (k := 7) rfl (by omega) hOd
    have kjd : (nI jd).toNatClampNeg = jd := nI_clamp (by omega)
    rcases hS jd (by omega) with ⟨e8jd, eOjd, eRjd⟩ | ⟨e8jd, eRjd, ajd, eOjd, hojd⟩ | ⟨e8jd, eOjd, bjd, arjd, Rjd, gjd, eRjd, hrjd, eKjd⟩
    · by_cases hOe : okr e 0 7 = true
      · obtain ⟨je, hje, rfl⟩ := okr_nI (k := 7) rfl (by omega) hOe
        have kje : (nI je).toNatClampNeg = je := nI_clamp (by omega)
        rcases hS je (by omega) with ⟨e8je, eOje, eRje⟩ | ⟨e8je, eRje, aje, eOje, hoje⟩ | ⟨e8je, eOje, bje, arje, Rje, gje, eRje, hrje, eKje⟩
        · refine go_iload_n dX11_copy_0 rfl ?_
          refine go_Sr [.int (nI jd)] [] dX11_copy_1 sl_X11_123 ⟨by decide, by decide⟩ e_X11_isShelf rfl rfl (Nat.le_of_ble_eq_true rfl) (Nat.le_of_ble_eq_true rfl) (Nat.le_of_ble_eq_true rfl) ?_
          refine go_tp (z := 1) (if_pos hOd) ?_
          refine go_if_eq dX11_copy_4 (fun c4 => ?_) (fun c4 => ?_)
          · have c4n := (n0_eq (a := 1) (by omega)).mp c4
            first | exact absurd c4n (by decide) | exact absurd (by decide) c4n | exact absurd rfl c4n | omega
          · have c4n := mt (n0_eq (a := 1) (by omega)).mpr c4
            refine go_iload_n dX11_copy_7 rfl ?_
            refine go_Sr [.int (nI je)] [] dX11_copy_8 sl_X11_123 ⟨by decide, by decide⟩ e_X11_isShelf rfl rfl (Nat.le_of_ble_eq_true rfl) (Nat.le_of_ble_eq_true rfl) (Nat.le_of_ble_eq_true rfl) ?_
            refine go_tp (z := 1) (if_pos hOe) ?_
            refine go_if_ne dX11_copy_11 (fun c11 => ?_) (fun c11 => ?_)
            · have c11n := mt (n0_eq (a := 1) (by omega)).mpr c11
              refine go_aload_n dX11_copy_16 rfl ?_
              refine go_iload_n dX11_copy_17 rfl ?_
              refine go_Vr [.int (nI jd)] [] dX11_copy_18 vl_X11_324 ⟨by decide, by decide⟩ (e_X11_isEmpty hX hS hjd) hX.1 hX.2.1 hX.2.2.1 rfl rfl (Nat.le_of_ble_eq_true rfl) (Nat.le_of_ble_eq_true rfl) (Nat.le_of_ble_eq_true rfl) ?_
              refine go_tp (z := 1) (by rw [nI_clamp (by omega), e8jd]; rfl) ?_
              refine go_if_ne dX11_copy_21 (fun c21 => ?_) (fun c21 => ?_)
              · have c21n := mt (n0_eq (a := 1) (by omega)).mpr c21
                refine go_bipush (v := (-11)) dX11_copy_32 rfl ?_
                exact go_iret dX11_copy_34 rfl (Nat.le_of_ble_eq_true rfl) (Nat.le_of_ble_eq_true rfl) (hQ9 ▸ ⟨rfl, Or.inl ⟨rfl, Or.inr ⟨jd, je, hjd, hje, rfl, rfl, Or.inl ⟨Or.inl e8jd, rfl⟩⟩⟩⟩)
              · have c21n := (n0_eq (a := 1) (by omega)).mp c21
                first | exact absurd c21n (by decide) | exact absurd (by decide) c21n | exact absurd rfl c21n | omega
            · have c11n := (n0_eq (a := 1) (by omega)).mp c11
              first | exact absurd c11n (by decide) | exact absurd (by decide) c11n | exact absurd rfl c11n | omega
        · refine go_iload_n dX11_copy_0 rfl ?_
          refine go_Sr [.int (nI jd)] [] dX11_copy_1 sl_X11_123 ⟨by decide, by decide⟩ e_X11_isShelf rfl rfl (Nat.le_of_ble_eq_true rfl) (Nat.le_of_ble_eq_true rfl) (Nat.le_of_ble_eq_true rfl) ?_
          refine go_tp (z := 1) (if_pos hOd) ?_
          refine go_if_eq dX11_copy_4 (fun c4 => ?_) (fun c4 => ?_)
          · have c4n := (n0_eq (a := 1) (by omega)).mp c4
            first | exact absurd c4n (by decide) | exact absurd (by decide) c4n | exact absurd rfl c4n | omega
          · have c4n := mt (n0_eq (a := 1) (by omega)).mpr c4
            refine go_iload_n dX11_copy_7 rfl ?_
            refine go_Sr [.int (nI je)] [] dX11_copy_8 sl_X11_123 ⟨by decide, by decide⟩ e_X11_isShelf rfl rfl (Nat.le_of_ble_eq_true rfl) (Nat.le_of_ble_eq_true rfl) (Nat.le_of_ble_eq_true rfl) ?_
            refine go_tp (z := 1) (if_pos hOe) ?_
            refine go_if_ne dX11_copy_11 (fun c11 => ?_) (fun c11 => ?_)
            · have c11n := mt (n0_eq (a := 1) (by omega)).mpr c11
              refine go_aload_n dX11_copy_16 rfl ?_
              refine go_iload_n dX11_copy_17 rfl ?_
              refine go_Vr [.int (nI jd)] [] dX11_copy_18 vl_X11_324 ⟨by decide, by decide⟩ (e_X11_isEmpty hX hS hjd) hX.1 hX.2.1 hX.2.2.1 rfl rfl (Nat.le_of_ble_eq_true rfl) (Nat.le_of_ble_eq_true rfl) (Nat.le_of_ble_eq_true rfl) ?_
              refine go_tp (z := 1) (by rw [nI_clamp (by omega), e8jd]; rfl) ?_
              refine go_if_ne dX11_copy_21 (fun c21 => ?_) (fun c21 => ?_)
              · have c21n := mt (n0_eq (a := 1) (by omega)).mpr c21
                refine go_bipush (v := (-11)) dX11_copy_32 rfl ?_
                exact go_iret dX11_copy_34 rfl (Nat.le_of_ble_eq_true rfl) (Nat.le_of_ble_eq_true rfl) (hQ9 ▸ ⟨rfl, Or.inl ⟨rfl, Or.inr ⟨jd, je, hjd, hje, rfl, rfl, Or.inl ⟨Or.inl e8jd, rfl⟩⟩⟩⟩)
              · have c21n := (n0_eq (a := 1) (by omega)).mp c21
                first | exact absurd c21n (by decide) | exact absurd (by decide) c21n | exact absurd rfl c21n | omega
            · have c11n := (n0_eq (a := 1) (by omega)).mp c11
              first | exact absurd c11n (by decide) | exact absurd (by decide) c11n | exact absurd rfl c11n | omega
        · refine go_iload_n dX11_copy_0 rfl ?_
          refine go_Sr [.int (nI jd)] [] dX11_copy_1 sl_X11_123 ⟨by decide, by decide⟩ e_X11_isShelf rfl rfl (Nat.le_of_ble_eq_true rfl) (Nat.le_of_ble_eq_true rfl) (Nat.le_of_ble_eq_true rfl) ?_
          refine go_tp (z := 1) (if_pos hOd) ?_
          refine go_if_eq dX11_copy_4 (fun c4 => ?_) (fun c4 => ?_)
          · have c4n := (n0_eq (a := 1) (by omega)).mp c4
            first | exact absurd c4n (by decide) | exact absurd (by decide) c4n | exact absurd rfl c4n | omega
          · have c4n := mt (n0_eq (a := 1) (by omega)).mpr c4
            refine go_iload_n dX11_copy_7 rfl ?_
            refine go_Sr [.int (nI je)] [] dX11_copy_8 sl_X11_123 ⟨by decide, by decide⟩ e_X11_isShelf rfl rfl (Nat.le_of_ble_eq_true rfl) (Nat.le_of_ble_eq_true rfl) (Nat.le_of_ble_eq_true rfl) ?_
            refine go_tp (z := 1) (if_pos hOe) ?_
            refine go_if_ne dX11_copy_11 (fun c11 => ?_) (fun c11 => ?_)
            · have c11n := mt (n0_eq (a := 1) (by omega)).mpr c11
              refine go_aload_n dX11_copy_16 rfl ?_
              refine go_iload_n dX11_copy_17 rfl ?_
              refine go_Vr [.int (nI jd)] [] dX11_copy_18 vl_X11_324 ⟨by decide, by decide⟩ (e_X11_isEmpty hX hS hjd) hX.1 hX.2.1 hX.2.2.1 rfl rfl (Nat.le_of_ble_eq_true rfl) (Nat.le_of_ble_eq_true rfl) (Nat.le_of_ble_eq_true rfl) ?_
              refine go_tp (z := 1) (by rw [nI_clamp (by omega), e8jd]; rfl) ?_
              refine go_if_ne dX11_copy_21 (fun c21 => ?_) (fun c21 => ?_)
              · have c21n := mt (n0_eq (a := 1) (by omega)).mpr c21
                refine go_bipush (v := (-11)) dX11_copy_32 rfl ?_
                exact go_iret dX11_copy_34 rfl (Nat.le_of_ble_eq_true rfl) (Nat.le_of_ble_eq_true rfl) (hQ9 ▸ ⟨rfl, Or.inl ⟨rfl, Or.inr ⟨jd, je, hjd, hje, rfl, rfl, Or.inl ⟨Or.inl e8jd, rfl⟩⟩⟩⟩)
              · have c21n := (n0_eq (a := 1) (by omega)).mp c21
                first | exact absurd c21n (by decide) | exact absurd (by decide) c21n | exact absurd rfl c21n | omega
            · have c11n := (n0_eq (a := 1) (by omega)).mp c11
              first | exact absurd c11n (by decide) | exact absurd (by decide) c11n | exact absurd rfl c11n | omega
      · refine go_iload_n dX11_copy_0 rfl ?_
        refine go_Sr [.int (nI jd)] [] dX11_copy_1 sl_X11_123 ⟨by decide, by decide⟩ e_X11_isShelf rfl rfl (Nat.le_of_ble_eq_true rfl) (Nat.le_of_ble_eq_true rfl) (Nat.le_of_ble_eq_true rfl) ?_
        refine go_tp (z := 1) (if_pos hOd) ?_
        refine go_if_eq dX11_copy_4 (fun c4 => ?_) (fun c4 => ?_)
        · have c4n := (n0_eq (a := 1) (by omega)).mp c4
          first | exact absurd c4n (by decide) | exact absurd (by decide) c4n | exact absurd rfl c4n | omega
        · have c4n := mt (n0_eq (a := 1) (by omega)).mpr c4
          refine go_iload_n dX11_copy_7 rfl ?_
          refine go_Sr [.int e] [] dX11_copy_8 sl_X11_123 ⟨by decide, by decide⟩ e_X11_isShelf rfl rfl (Nat.le_of_ble_eq_true rfl) (Nat.le_of_ble_eq_true rfl) (Nat.le_of_ble_eq_true rfl) ?_
          refine go_tp (z := 0) (if_neg hOe) ?_
          refine go_if_ne dX11_copy_11 (fun c11 => ?_) (fun c11 => ?_)
          · have c11n := mt (n0_eq (a := 0) (by omega)).mpr c11
            first | exact absurd c11n (by decide) | exact absurd (by decide) c11n | exact absurd rfl c11n | omega
          · have c11n := (n0_eq (a := 0) (by omega)).mp c11
            refine go_iconst (v := (-1)) dX11_copy_14 rfl ?_
            exact go_iret dX11_copy_15 rfl (Nat.le_of_ble_eq_true rfl) (Nat.le_of_ble_eq_true rfl) (hQ9 ▸ ⟨rfl, Or.inl ⟨rfl, Or.inl ⟨fun z => hOe z.2, rfl⟩⟩⟩)
    · by_cases hOe : okr e 0 7 = true
      · obtain ⟨je, hje, rfl⟩ := okr_nI (k := 7) rfl (by omega) hOe
        have kje : (nI je).toNatClampNeg = je := nI_clamp (by omega)
        rcases hS je (by omega) with ⟨e8je, eOje, eRje⟩ | ⟨e8je, eRje, aje, eOje, hoje⟩ | ⟨e8je, eOje, bje, arje, Rje, gje, eRje, hrje, eKje⟩
        · refine go_iload_n dX11_copy_0 rfl ?_
          refine go_Sr [.int (nI jd)] [] dX11_copy_1 sl_X11_123 ⟨by decide, by decide⟩ e_X11_isShelf rfl rfl (Nat.le_of_ble_eq_true rfl) (Nat.le_of_ble_eq_true rfl) (Nat.le_of_ble_eq_true rfl) ?_
          refine go_tp (z := 1) (if_pos hOd) ?_
          refine go_if_eq dX11_copy_4 (fun c4 => ?_) (fun c4 => ?_)
          · have c4n := (n0_eq (a := 1) (by omega)).mp c4
            first | exact absurd c4n (by decide) | exact absurd (by decide) c4n | exact absurd rfl c4n | omega
          · have c4n := mt (n0_eq (a := 1) (by omega)).mpr c4
            refine go_iload_n dX11_copy_7 rfl ?_
            refine go_Sr [.int (nI je)] [] dX11_copy_8 sl_X11_123 ⟨by decide, by decide⟩ e_X11_isShelf rfl rfl (Nat.le_of_ble_eq_true rfl) (Nat.le_of_ble_eq_true rfl) (Nat.le_of_ble_eq_true rfl) ?_
            refine go_tp (z := 1) (if_pos hOe) ?_
            refine go_if_ne dX11_copy_11 (fun c11 => ?_) (fun c11 => ?_)
            · have c11n := mt (n0_eq (a := 1) (by omega)).mpr c11
              refine go_aload_n dX11_copy_16 rfl ?_
              refine go_iload_n dX11_copy_17 rfl ?_
              refine go_Vr [.int (nI jd)] [] dX11_copy_18 vl_X11_324 ⟨by decide, by decide⟩ (e_X11_isEmpty hX hS hjd) hX.1 hX.2.1 hX.2.2.1 rfl rfl (Nat.le_of_ble_eq_true rfl) (Nat.le_of_ble_eq_true rfl) (Nat.le_of_ble_eq_true rfl) ?_
              refine go_tp (z := 0) (by rw [nI_clamp (by omega), e8jd]; rfl) ?_
              refine go_if_ne dX11_copy_21 (fun c21 => ?_) (fun c21 => ?_)
              · have c21n := mt (n0_eq (a := 0) (by omega)).mpr c21
                first | exact absurd c21n (by decide) | exact absurd (by decide) c21n | exact absurd rfl c21n | omega
              · have c21n := (n0_eq (a := 0) (by omega)).mp c21
                refine go_aload_n dX11_copy_24 rfl ?_
                refine go_iload_n dX11_copy_25 rfl ?_
                refine go_Vr [.int (nI je)] [] dX11_copy_26 vl_X11_324 ⟨by decide, by decide⟩ (e_X11_isEmpty hX hS hje) hX.1 hX.2.1 hX.2.2.1 rfl rfl (Nat.le_of_ble_eq_true rfl) (Nat.le_of_ble_eq_true rfl) (Nat.le_of_ble_eq_true rfl) ?_
                refine go_tp (z := 1) (by rw [nI_clamp (by omega), e8je]; rfl) ?_
                refine go_if_eq dX11_copy_29 (fun c29 => ?_) (fun c29 => ?_)
                · have c29n := (n0_eq (a := 1) (by omega)).mp c29
                  first | exact absurd c29n (by decide) | exact absurd (by decide) c29n | exact absurd rfl c29n | omega
                · have c29n := mt (n0_eq (a := 1) (by omega)).mpr c29
                  refine go_bipush (v := (-11)) dX11_copy_32 rfl ?_
                  exact go_iret dX11_copy_34 rfl (Nat.le_of_ble_eq_true rfl) (Nat.le_of_ble_eq_true rfl) (hQ9 ▸ ⟨rfl, Or.inl ⟨rfl, Or.inr ⟨jd, je, hjd, hje, rfl, rfl, Or.inl ⟨Or.inr e8je, rfl⟩⟩⟩⟩)
            · have c11n := (n0_eq (a := 1) (by omega)).mp c11
              first | exact absurd c11n (by decide) | exact absurd (by decide) c11n | exact absurd rfl c11n | omega
        · refine go_iload_n dX11_copy_0 rfl ?_
          refine go_Sr [.int (nI jd)] [] dX11_copy_1 sl_X11_123 ⟨by decide, by decide⟩ e_X11_isShelf rfl rfl (Nat.le_of_ble_eq_true rfl) (Nat.le_of_ble_eq_true rfl) (Nat.le_of_ble_eq_true rfl) ?_
          refine go_tp (z := 1) (if_pos hOd) ?_
          refine go_if_eq dX11_copy_4 (fun c4 => ?_) (fun c4 => ?_)
          · have c4n := (n0_eq (a := 1) (by omega)).mp c4
            first | exact absurd c4n (by decide) | exact absurd (by decide) c4n | exact absurd rfl c4n | omega
          · have c4n := mt (n0_eq (a := 1) (by omega)).mpr c4
            refine go_iload_n dX11_copy_7 rfl ?_
            refine go_Sr [.int (nI je)] [] dX11_copy_8 sl_X11_123 ⟨by decide, by decide⟩ e_X11_isShelf rfl rfl (Nat.le_of_ble_eq_true rfl) (Nat.le_of_ble_eq_true rfl) (Nat.le_of_ble_eq_true rfl) ?_
            refine go_tp (z := 1) (if_pos hOe) ?_
            refine go_if_ne dX11_copy_11 (fun c11 => ?_) (fun c11 => ?_)
            · have c11n := mt (n0_eq (a := 1) (by omega)).mpr c11
              refine go_aload_n dX11_copy_16 rfl ?_
              refine go_iload_n dX11_copy_17 rfl ?_
              refine go_Vr [.int (nI jd)] [] dX11_copy_18 vl_X11_324 ⟨by decide, by decide⟩ (e_X11_isEmpty hX hS hjd) hX.1 hX.2.1 hX.2.2.1 rfl rfl (Nat.le_of_ble_eq_true rfl) (Nat.le_of_ble_eq_true rfl) (Nat.le_of_ble_eq_true rfl) ?_
              refine go_tp (z := 0) (by rw [nI_clamp (by omega), e8jd]; rfl) ?_
              refine go_if_ne dX11_copy_21 (fun c21 => ?_) (fun c21 => ?_)
              · have c21n := mt (n0_eq (a := 0) (by omega)).mpr c21
                first | exact absurd c21n (by decide) | exact absurd (by decide) c21n | exact absurd rfl c21n | omega
              · have c21n := (n0_eq (a := 0) (by omega)).mp c21
                refine go_aload_n dX11_copy_24 rfl ?_
                refine go_iload_n dX11_copy_25 rfl ?_
                refine go_Vr [.int (nI je)] [] dX11_copy_26 vl_X11_324 ⟨by decide, by decide⟩ (e_X11_isEmpty hX hS hje) hX.1 hX.2.1 hX.2.2.1 rfl rfl (Nat.le_of_ble_eq_true rfl) (Nat.le_of_ble_eq_true rfl) (Nat.le_of_ble_eq_true rfl) ?_
                refine go_tp (z := 0) (by rw [nI_clamp (by omega), e8je]; rfl) ?_
                refine go_if_eq dX11_copy_29 (fun c29 => ?_) (fun c29 => ?_)
                · have c29n := (n0_eq (a := 0) (by omega)).mp c29
                  refine go_aload_n dX11_copy_35 rfl ?_
                  refine go_iload_n dX11_copy_36 rfl ?_
                  refine go_Vr [.int (nI jd)] [] dX11_copy_37 vl_X11_45 ⟨by decide, by decide⟩ (e_X11_rowOn hX) hX.1 hX.2.1 hX.2.2.1 rfl rfl (Nat.le_of_ble_eq_true rfl) (Nat.le_of_ble_eq_true rfl) (Nat.le_of_ble_eq_true rfl) ?_
                  refine go_tv (w := .null) (by rw [if_pos hOd, nI_clamp (by omega), eRjd]; rfl) ?_
                  refine go_astoreN (ls' := [some (.ref x), some (.int (nI jd)), some (.int i), some (.int (nI je)), some (.int j), some (.int x2), some (.null), none]) dX11_copy_40 ⟨by decide, rfl, rfl⟩ ?_
                  refine go_aload_n dX11_copy_42 rfl ?_
                  refine go_iload_n dX11_copy_43 rfl ?_
                  refine go_Vr [.int (nI je)] [] dX11_copy_44 vl_X11_45 ⟨by decide, by decide⟩ (e_X11_rowOn hX) hX.1 hX.2.1 hX.2.2.1 rfl rfl (Nat.le_of_ble_eq_true rfl) (Nat.le_of_ble_eq_true rfl) (Nat.le_of_ble_eq_true rfl) ?_
                  refine go_tv (w := .null) (by rw [if_pos hOe, nI_clamp (by omega), eRje]; rfl) ?_
                  refine go_astoreN (ls' := [some (.ref x), some (.int (nI jd)), some (.int i), some (.int (nI je)), some (.int j), some (.int x2), some (.null), some (.null)]) dX11_copy_47 ⟨by decide, rfl, rfl⟩ ?_
                  refine go_aloadN dX11_copy_49 rfl ?_
                  refine go_ifnullN dX11_copy_51 ?_
                  refine go_bipush (v := (-12)) dX11_copy_72 rfl ?_
                  exact go_iret dX11_copy_74 rfl (Nat.le_of_ble_eq_true rfl) (Nat.le_of_ble_eq_true rfl) (hQ9 ▸ ⟨rfl, Or.inl ⟨rfl, Or.inr ⟨jd, je, hjd, hje, rfl, rfl, Or.inr (Or.inl ⟨by rw [e8jd]; decide, by rw [e8je]; decide, Or.inl e8jd, rfl⟩)⟩⟩⟩)
                · have c29n := mt (n0_eq (a := 0) (by omega)).mpr c29
                  first | exact absurd c29n (by decide) | exact absurd (by decide) c29n | exact absurd rfl c29n | omega
            · have c11n := (n0_eq (a := 1) (by omega)).mp c11
              first | exact absurd c11n (by decide) | exact absurd (by decide) c11n | exact absurd rfl c11n | omega
        · refine go_iload_n dX11_copy_0 rfl ?_
          refine go_Sr [.int (nI jd)] [] dX11_copy_1 sl_X11_123 ⟨by decide, by decide⟩ e_X11_isShelf rfl rfl (Nat.le_of_ble_eq_true rfl) (Nat.le_of_ble_eq_true rfl) (Nat.le_of_ble_eq_true rfl) ?_
          refine go_tp (z := 1) (if_pos hOd) ?_
          refine go_if_eq dX11_copy_4 (fun c4 => ?_) (fun c4 => ?_)
          · have c4n := (n0_eq (a := 1) (by omega)).mp c4
            first | exact absurd c4n (by decide) | exact absurd (by decide) c4n | exact absurd rfl c4n | omega
          · have c4n := mt (n0_eq (a := 1) (by omega)).mpr c4
            refine go_iload_n dX11_copy_7 rfl ?_
            refine go_Sr [.int (nI je)] [] dX11_copy_8 sl_X11_123 ⟨by decide, by decide⟩ e_X11_isShelf rfl rfl (Nat.le_of_ble_eq_true rfl) (Nat.le_of_ble_eq_true rfl) (Nat.le_of_ble_eq_true rfl) ?_
            refine go_tp (z := 1) (if_pos hOe) ?_
            refine go_if_ne dX11_copy_11 (fun c11 => ?_) (fun c11 => ?_)
            · have c11n := mt (n0_eq (a := 1) (by omega)).mpr c11
              refine go_aload_n dX11_copy_16 rfl ?_
              refine go_iload_n dX11_copy_17 rfl ?_
              refine go_Vr [.int (nI jd)] [] dX11_copy_18 vl_X11_324 ⟨by decide, by decide⟩ (e_X11_isEmpty hX hS hjd) hX.1 hX.2.1 hX.2.2.1 rfl rfl (Nat.le_of_ble_eq_true rfl) (Nat.le_of_ble_eq_true rfl) (Nat.le_of_ble_eq_true rfl) ?_
              refine go_tp (z := 0) (by rw [nI_clamp (by omega), e8jd]; rfl) ?_
              refine go_if_ne dX11_copy_21 (fun c21 => ?_) (fun c21 => ?_)
              · have c21n := mt (n0_eq (a := 0) (by omega)).mpr c21
                first | exact absurd c21n (by decide) | exact absurd (by decide) c21n | exact absurd rfl c21n | omega
              · have c21n := (n0_eq (a := 0) (by omega)).mp c21
                refine go_aload_n dX11_copy_24 rfl ?_
                refine go_iload_n dX11_copy_25 rfl ?_
                refine go_Vr [.int (nI je)] [] dX11_copy_26 vl_X11_324 ⟨by decide, by decide⟩ (e_X11_isEmpty hX hS hje) hX.1 hX.2.1 hX.2.2.1 rfl rfl (Nat.le_of_ble_eq_true rfl) (Nat.le_of_ble_eq_true rfl) (Nat.le_of_ble_eq_true rfl) ?_
                refine go_tp (z := 0) (by rw [nI_clamp (by omega), e8je]; rfl) ?_
                refine go_if_eq dX11_copy_29 (fun c29 => ?_) (fun c29 => ?_)
                · have c29n := (n0_eq (a := 0) (by omega)).mp c29
                  refine go_aload_n dX11_copy_35 rfl ?_
                  refine go_iload_n dX11_copy_36 rfl ?_
                  refine go_Vr [.int (nI jd)] [] dX11_copy_37 vl_X11_45 ⟨by decide, by decide⟩ (e_X11_rowOn hX) hX.1 hX.2.1 hX.2.2.1 rfl rfl (Nat.le_of_ble_eq_true rfl) (Nat.le_of_ble_eq_true rfl) (Nat.le_of_ble_eq_true rfl) ?_
                  refine go_tv (w := .null) (by rw [if_pos hOd, nI_clamp (by omega), eRjd]; rfl) ?_
                  refine go_astoreN (ls' := [some (.ref x), some (.int (nI jd)), some (.int i), some (.int (nI je)), some (.int j), some (.int x2), some (.null), none]) dX11_copy_40 ⟨by decide, rfl, rfl⟩ ?_
                  refine go_aload_n dX11_copy_42 rfl ?_
                  refine go_iload_n dX11_copy_43 rfl ?_
                  refine go_Vr [.int (nI je)] [] dX11_copy_44 vl_X11_45 ⟨by decide, by decide⟩ (e_X11_rowOn hX) hX.1 hX.2.1 hX.2.2.1 rfl rfl (Nat.le_of_ble_eq_true rfl) (Nat.le_of_ble_eq_true rfl) (Nat.le_of_ble_eq_true rfl) ?_
                  refine go_tv (w := .ref bje) (by rw [if_pos hOe, nI_clamp (by omega), eRje]; rfl) ?_
                  refine go_astore (ls' := [some (.ref x), some (.int (nI jd)), some (.int i), some (.int (nI je)), some (.int j), some (.int x2), some (.null), some (.ref bje)]) dX11_copy_47 ⟨by decide, rfl, rfl⟩ ?_
                  refine go_aloadN dX11_copy_49 rfl ?_
                  refine go_ifnullN dX11_copy_51 ?_
                  refine go_bipush (v := (-12)) dX11_copy_72 rfl ?_
                  exact go_iret dX11_copy_74 rfl (Nat.le_of_ble_eq_true rfl) (Nat.le_of_ble_eq_true rfl) (hQ9 ▸ ⟨rfl, Or.inl ⟨rfl, Or.inr ⟨jd, je, hjd, hje, rfl, rfl, Or.inr (Or.inl ⟨by rw [e8jd]; decide, by rw [e8je]; decide, Or.inl e8jd, rfl⟩)⟩⟩⟩)
                · have c29n := mt (n0_eq (a := 0) (by omega)).mpr c29
                  first | exact absurd c29n (by decide) | exact absurd (by decide) c29n | exact absurd rfl c29n | omega
            · have c11n := (n0_eq (a := 1) (by omega)).mp c11
              first | exact absurd c11n (by decide) | exact absurd (by decide) c11n | exact absurd rfl c11n | omega
      · refine go_iload_n dX11_copy_0 rfl ?_
        refine go_Sr [.int (nI jd)] [] dX11_copy_1 sl_X11_123 ⟨by decide, by decide⟩ e_X11_isShelf rfl rfl (Nat.le_of_ble_eq_true rfl) (Nat.le_of_ble_eq_true rfl) (Nat.le_of_ble_eq_true rfl) ?_
        refine go_tp (z := 1) (if_pos hOd) ?_
        refine go_if_eq dX11_copy_4 (fun c4 => ?_) (fun c4 => ?_)
        · have c4n := (n0_eq (a := 1) (by omega)).mp c4
          first | exact absurd c4n (by decide) | exact absurd (by decide) c4n | exact absurd rfl c4n | omega
        · have c4n := mt (n0_eq (a := 1) (by omega)).mpr c4
          refine go_iload_n dX11_copy_7 rfl ?_
          refine go_Sr [.int e] [] dX11_copy_8 sl_X11_123 ⟨by decide, by decide⟩ e_X11_isShelf rfl rfl (Nat.le_of_ble_eq_true rfl) (Nat.le_of_ble_eq_true rfl) (Nat.le_of_ble_eq_true rfl) ?_
          refine go_tp (z := 0) (if_neg hOe) ?_
          refine go_if_ne dX11_copy_11 (fun c11 => ?_) (fun c11 => ?_)
          · have c11n := mt (n0_eq (a := 0) (by omega)).mpr c11
            first | exact absurd c11n (by decide) | exact absurd (by decide) c11n | exact absurd rfl c11n | omega
          · have c11n := (n0_eq (a := 0) (by omega)).mp c11
            refine go_iconst (v := (-1)) dX11_copy_14 rfl ?_
            exact go_iret dX11_copy_15 rfl (Nat.le_of_ble_eq_true rfl) (Nat.le_of_ble_eq_true rfl) (hQ9 ▸ ⟨rfl, Or.inl ⟨rfl, Or.inl ⟨fun z => hOe z.2, rfl⟩⟩⟩)
    · by_cases hOe : okr e 0 7 = true
      · obtain ⟨je, hje, rfl⟩ := okr_nI (k := 7) rfl (by omega) hOe
        have kje : (nI je).toNatClampNeg = je := nI_clamp (by omega)
        rcases hS je (by omega) with ⟨e8je, eOje, eRje⟩ | ⟨e8je, eRje, aje, eOje, hoje⟩ | ⟨e8je, eOje, bje, arje, Rje, gje, eRje, hrje, eKje⟩
        · refine go_iload_n dX11_copy_0 rfl ?_
          refine go_Sr [.int (nI jd)] [] dX11_copy_1 sl_X11_123 ⟨by decide, by decide⟩ e_X11_isShelf rfl rfl (Nat.le_of_ble_eq_true rfl) (Nat.le_of_ble_eq_true rfl) (Nat.le_of_ble_eq_true rfl) ?_
          refine go_tp (z := 1) (if_pos hOd) ?_
          refine go_if_eq dX11_copy_4 (fun c4 => ?_) (fun c4 => ?_)
          · have c4n := (n0_eq (a := 1) (by omega)).mp c4
            first | exact absurd c4n (by decide) | exact absurd (by decide) c4n | exact absurd rfl c4n | omega
          · have c4n := mt (n0_eq (a := 1) (by omega)).mpr c4
            refine go_iload_n dX11_copy_7 rfl ?_
            refine go_Sr [.int (nI je)] [] dX11_copy_8 sl_X11_123 ⟨by decide, by decide⟩ e_X11_isShelf rfl rfl (Nat.le_of_ble_eq_true rfl) (Nat.le_of_ble_eq_true rfl) (Nat.le_of_ble_eq_true rfl) ?_
            refine go_tp (z := 1) (if_pos hOe) ?_
            refine go_if_ne dX11_copy_11 (fun c11 => ?_) (fun c11 => ?_)
            · have c11n := mt (n0_eq (a := 1) (by omega)).mpr c11
              refine go_aload_n dX11_copy_16 rfl ?_
              refine go_iload_n dX11_copy_17 rfl ?_
              refine go_Vr [.int (nI jd)] [] dX11_copy_18 vl_X11_324 ⟨by decide, by decide⟩ (e_X11_isEmpty hX hS hjd) hX.1 hX.2.1 hX.2.2.1 rfl rfl (Nat.le_of_ble_eq_true rfl) (Nat.le_of_ble_eq_true rfl) (Nat.le_of_ble_eq_true rfl) ?_
              refine go_tp (z := 0) (by rw [nI_clamp (by omega), e8jd]; rfl) ?_
              refine go_if_ne dX11_copy_21 (fun c21 => ?_) (fun c21 => ?_)
              · have c21n := mt (n0_eq (a := 0) (by omega)).mpr c21
                first | exact absurd c21n (by decide) | exact absurd (by decide) c21n | exact absurd rfl c21n | omega
              · have c21n := (n0_eq (a := 0) (by omega)).mp c21
                refine go_aload_n dX11_copy_24 rfl ?_
                refine go_iload_n dX11_copy_25 rfl ?_
                refine go_Vr [.int (nI je)] [] dX11_copy_26 vl_X11_324 ⟨by decide, by decide⟩ (e_X11_isEmpty hX hS hje) hX.1 hX.2.1 hX.2.2.1 rfl rfl (Nat.le_of_ble_eq_true rfl) (Nat.le_of_ble_eq_true rfl) (Nat.le_of_ble_eq_true rfl) ?_
                refine go_tp (z := 1) (by rw [nI_clamp (by omega), e8je]; rfl) ?_
                refine go_if_eq dX11_copy_29 (fun c29 => ?_) (fun c29 => ?_)
                · have c29n := (n0_eq (a := 1) (by omega)).mp c29
                  first | exact absurd c29n (by decide) | exact absurd (by decide) c29n | exact absurd rfl c29n | omega
                · have c29n := mt (n0_eq (a := 1) (by omega)).mpr c29
                  refine go_bipush (v := (-11)) dX11_copy_32 rfl ?_
                  exact go_iret dX11_copy_34 rfl (Nat.le_of_ble_eq_true rfl) (Nat.le_of_ble_eq_true rfl) (hQ9 ▸ ⟨rfl, Or.inl ⟨rfl, Or.inr ⟨jd, je, hjd, hje, rfl, rfl, Or.inl ⟨Or.inr e8je, rfl⟩⟩⟩⟩)
            · have c11n := (n0_eq (a := 1) (by omega)).mp c11
              first | exact absurd c11n (by decide) | exact absurd (by decide) c11n | exact absurd rfl c11n | omega
        · refine go_iload_n dX11_copy_0 rfl ?_
          refine go_Sr [.int (nI jd)] [] dX11_copy_1 sl_X11_123 ⟨by decide, by decide⟩ e_X11_isShelf rfl rfl (Nat.le_of_ble_eq_true rfl) (Nat.le_of_ble_eq_true rfl) (Nat.le_of_ble_eq_true rfl) ?_
          refine go_tp (z := 1) (if_pos hOd) ?_
          refine go_if_eq dX11_copy_4 (fun c4 => ?_) (fun c4 => ?_)
          · have c4n := (n0_eq (a := 1) (by omega)).mp c4
            first | exact absurd c4n (by decide) | exact absurd (by decide) c4n | exact absurd rfl c4n | omega
          · have c4n := mt (n0_eq (a := 1) (by omega)).mpr c4
            refine go_iload_n dX11_copy_7 rfl ?_
            refine go_Sr [.int (nI je)] [] dX11_copy_8 sl_X11_123 ⟨by decide, by decide⟩ e_X11_isShelf rfl rfl (Nat.le_of_ble_eq_true rfl) (Nat.le_of_ble_eq_true rfl) (Nat.le_of_ble_eq_true rfl) ?_
            refine go_tp (z := 1) (if_pos hOe) ?_
            refine go_if_ne dX11_copy_11 (fun c11 => ?_) (fun c11 => ?_)
            · have c11n := mt (n0_eq (a := 1) (by omega)).mpr c11
              refine go_aload_n dX11_copy_16 rfl ?_
              refine go_iload_n dX11_copy_17 rfl ?_
              refine go_Vr [.int (nI jd)] [] dX11_copy_18 vl_X11_324 ⟨by decide, by decide⟩ (e_X11_isEmpty hX hS hjd) hX.1 hX.2.1 hX.2.2.1 rfl rfl (Nat.le_of_ble_eq_true rfl) (Nat.le_of_ble_eq_true rfl) (Nat.le_of_ble_eq_true rfl) ?_
              refine go_tp (z := 0) (by rw [nI_clamp (by omega), e8jd]; rfl) ?_
              refine go_if_ne dX11_copy_21 (fun c21 => ?_) (fun c21 => ?_)
              · have c21n := mt (n0_eq (a := 0) (by omega)).mpr c21
                first | exact absurd c21n (by decide) | exact absurd (by decide) c21n | exact absurd rfl c21n | omega
              · have c21n := (n0_eq (a := 0) (by omega)).mp c21
                refine go_aload_n dX11_copy_24 rfl ?_
                refine go_iload_n dX11_copy_25 rfl ?_
                refine go_Vr [.int (nI je)] [] dX11_copy_26 vl_X11_324 ⟨by decide, by decide⟩ (e_X11_isEmpty hX hS hje) hX.1 hX.2.1 hX.2.2.1 rfl rfl (Nat.le_of_ble_eq_true rfl) (Nat.le_of_ble_eq_true rfl) (Nat.le_of_ble_eq_true rfl) ?_
                refine go_tp (z := 0) (by rw [nI_clamp (by omega), e8je]; rfl) ?_
                refine go_if_eq dX11_copy_29 (fun c29 => ?_) (fun c29 => ?_)
                · have c29n := (n0_eq (a := 0) (by omega)).mp c29
                  refine go_aload_n dX11_copy_35 rfl ?_
                  refine go_iload_n dX11_copy_36 rfl ?_
                  refine go_Vr [.int (nI jd)] [] dX11_copy_37 vl_X11_45 ⟨by decide, by decide⟩ (e_X11_rowOn hX) hX.1 hX.2.1 hX.2.2.1 rfl rfl (Nat.le_of_ble_eq_true rfl) (Nat.le_of_ble_eq_true rfl) (Nat.le_of_ble_eq_true rfl) ?_
                  refine go_tv (w := .ref bjd) (by rw [if_pos hOd, nI_clamp (by omega), eRjd]; rfl) ?_
                  refine go_astore (ls' := [some (.ref x), some (.int (nI jd)), some (.int i), some (.int (nI je)), some (.int j), some (.int x2), some (.ref bjd), none]) dX11_copy_40 ⟨by decide, rfl, rfl⟩ ?_
                  refine go_aload_n dX11_copy_42 rfl ?_
                  refine go_iload_n dX11_copy_43 rfl ?_
                  refine go_Vr [.int (nI je)] [] dX11_copy_44 vl_X11_45 ⟨by decide, by decide⟩ (e_X11_rowOn hX) hX.1 hX.2.1 hX.2.2.1 rfl rfl (Nat.le_of_ble_eq_true rfl) (Nat.le_of_ble_eq_true rfl) (Nat.le_of_ble_eq_true rfl) ?_
                  refine go_tv (w := .null) (by rw [if_pos hOe, nI_clamp (by omega), eRje]; rfl) ?_
                  refine go_astoreN (ls' := [some (.ref x), some (.int (nI jd)), some (.int i), some (.int (nI je)), some (.int j), some (.int x2), some (.ref bjd), some (.null)]) dX11_copy_47 ⟨by decide, rfl, rfl⟩ ?_
                  refine go_aload dX11_copy_49 rfl ?_
                  refine go_ifnull dX11_copy_51 ?_
                  refine go_aloadN dX11_copy_54 rfl ?_
                  refine go_ifnullN dX11_copy_56 ?_
                  refine go_bipush (v := (-12)) dX11_copy_72 rfl ?_
                  exact go_iret dX11_copy_74 rfl (Nat.le_of_ble_eq_true rfl) (Nat.le_of_ble_eq_true rfl) (hQ9 ▸ ⟨rfl, Or.inl ⟨rfl, Or.inr ⟨jd, je, hjd, hje, rfl, rfl, Or.inr (Or.inl ⟨by rw [e8jd]; decide, by rw [e8je]; decide, Or.inr (Or.inl e8je), rfl⟩)⟩⟩⟩)
                · have c29n := mt (n0_eq (a := 0) (by omega)).mpr c29
                  first | exact absurd c29n (by decide) | exact absurd (by decide) c29n | exact absurd rfl c29n | omega
            · have c11n := (n0_eq (a := 1) (by omega)).mp c11
              first | exact absurd c11n (by decide) | exact absurd (by decide) c11n | exact absurd rfl c11n | omega
        · refine go_iload_n dX11_copy_0 rfl ?_
          refine go_Sr [.int (nI jd)] [] dX11_copy_1 sl_X11_123 ⟨by decide, by decide⟩ e_X11_isShelf rfl rfl (Nat.le_of_ble_eq_true rfl) (Nat.le_of_ble_eq_true rfl) (Nat.le_of_ble_eq_true rfl) ?_
          refine go_tp (z := 1) (if_pos hOd) ?_
          refine go_if_eq dX11_copy_4 (fun c4 => ?_) (fun c4 => ?_)
          · have c4n := (n0_eq (a := 1) (by omega)).mp c4
            first | exact absurd c4n (by decide) | exact absurd (by decide) c4n | exact absurd rfl c4n | omega
          · have c4n := mt (n0_eq (a := 1) (by omega)).mpr c4
            refine go_iload_n dX11_copy_7 rfl ?_
            refine go_Sr [.int (nI je)] [] dX11_copy_8 sl_X11_123 ⟨by decide, by decide⟩ e_X11_isShelf rfl rfl (Nat.le_of_ble_eq_true rfl) (Nat.le_of_ble_eq_true rfl) (Nat.le_of_ble_eq_true rfl) ?_
            refine go_tp (z := 1) (if_pos hOe) ?_
            refine go_if_ne dX11_copy_11 (fun c11 => ?_) (fun c11 => ?_)
            · have c11n := mt (n0_eq (a := 1) (by omega)).mpr c11
              refine go_aload_n dX11_copy_16 rfl ?_
              refine go_iload_n dX11_copy_17 rfl ?_
              refine go_Vr [.int (nI jd)] [] dX11_copy_18 vl_X11_324 ⟨by decide, by decide⟩ (e_X11_isEmpty hX hS hjd) hX.1 hX.2.1 hX.2.2.1 rfl rfl (Nat.le_of_ble_eq_true rfl) (Nat.le_of_ble_eq_true rfl) (Nat.le_of_ble_eq_true rfl) ?_
              refine go_tp (z := 0) (by rw [nI_clamp (by omega), e8jd]; rfl) ?_
              refine go_if_ne dX11_copy_21 (fun c21 => ?_) (fun c21 => ?_)
              · have c21n := mt (n0_eq (a := 0) (by omega)).mpr c21
                first | exact absurd c21n (by decide) | exact absurd (by decide) c21n | exact absurd rfl c21n | omega
              · have c21n := (n0_eq (a := 0) (by omega)).mp c21
                refine go_aload_n dX11_copy_24 rfl ?_
                refine go_iload_n dX11_copy_25 rfl ?_
                refine go_Vr [.int (nI je)] [] dX11_copy_26 vl_X11_324 ⟨by decide, by decide⟩ (e_X11_isEmpty hX hS hje) hX.1 hX.2.1 hX.2.2.1 rfl rfl (Nat.le_of_ble_eq_true rfl) (Nat.le_of_ble_eq_true rfl) (Nat.le_of_ble_eq_true rfl) ?_
                refine go_tp (z := 0) (by rw [nI_clamp (by omega), e8je]; rfl) ?_
                refine go_if_eq dX11_copy_29 (fun c29 => ?_) (fun c29 => ?_)
                · have c29n := (n0_eq (a := 0) (by omega)).mp c29
                  refine go_aload_n dX11_copy_35 rfl ?_
                  refine go_iload_n dX11_copy_36 rfl ?_
                  refine go_Vr [.int (nI jd)] [] dX11_copy_37 vl_X11_45 ⟨by decide, by decide⟩ (e_X11_rowOn hX) hX.1 hX.2.1 hX.2.2.1 rfl rfl (Nat.le_of_ble_eq_true rfl) (Nat.le_of_ble_eq_true rfl) (Nat.le_of_ble_eq_true rfl) ?_
                  refine go_tv (w := .ref bjd) (by rw [if_pos hOd, nI_clamp (by omega), eRjd]; rfl) ?_
                  refine go_astore (ls' := [some (.ref x), some (.int (nI jd)), some (.int i), some (.int (nI je)), some (.int j), some (.int x2), some (.ref bjd), none]) dX11_copy_40 ⟨by decide, rfl, rfl⟩ ?_
                  refine go_aload_n dX11_copy_42 rfl ?_
                  refine go_iload_n dX11_copy_43 rfl ?_
                  refine go_Vr [.int (nI je)] [] dX11_copy_44 vl_X11_45 ⟨by decide, by decide⟩ (e_X11_rowOn hX) hX.1 hX.2.1 hX.2.2.1 rfl rfl (Nat.le_of_ble_eq_true rfl) (Nat.le_of_ble_eq_true rfl) (Nat.le_of_ble_eq_true rfl) ?_
                  refine go_tv (w := .ref bje) (by rw [if_pos hOe, nI_clamp (by omega), eRje]; rfl) ?_
                  refine go_astore (ls' := [some (.ref x), some (.int (nI jd)), some (.int i), some (.int (nI je)), some (.int j), some (.int x2), some (.ref bjd), some (.ref bje)]) dX11_copy_47 ⟨by decide, rfl, rfl⟩ ?_
                  refine go_aload dX11_copy_49 rfl ?_
                  refine go_ifnull dX11_copy_51 ?_
                  refine go_aload dX11_copy_54 rfl ?_
                  refine go_ifnull dX11_copy_56 ?_
                  refine go_aload dX11_copy_59 rfl ?_
                  refine go_get dX11_copy_61 fl_X11_53_4 hrjd.1 hrjd.2.1 hrjd.2.2.1 rfl ?_
                  refine go_aload dX11_copy_64 rfl ?_
                  refine go_get dX11_copy_66 fl_X11_53_4 hrje.1 hrje.2.1 hrje.2.2.1 rfl ?_
                  refine go_icmp_eq dX11_copy_69 (fun c69 => ?_) (fun c69 => ?_)
                  · refine go_aload dX11_copy_75 rfl ?_
                    refine go_iload_n dX11_copy_77 rfl ?_
                    refine go_iload dX11_copy_78 rfl ?_
                    refine go_Vr [.int i, .int x2] [] dX11_copy_80 vl_X11_327 ⟨by decide, by decide⟩ (e_X4_hasRun hrjd.1 hrjd.2.1 hrjd.2.2.1 hrjd.2.2.2.1 hrjd.2.2.2.2.1 hrjd.2.2.2.2.2.1 hrjd.2.2.2.2.2.2) hrjd.1 hrjd.2.1 hrjd.2.2.1 rfl rfl (Nat.le_of_ble_eq_true rfl) (Nat.le_of_ble_eq_true rfl) (Nat.le_of_ble_eq_true rfl) ?_
                    refine go_if_eq dX11_copy_83 (fun c83 => ?_) (fun c83 => ?_)
                    · have c83 := bz_f c83
                      refine go_bipush (v := (-13)) dX11_copy_98 rfl ?_
                      exact go_iret dX11_copy_100 rfl (Nat.le_of_ble_eq_true rfl) (Nat.le_of_ble_eq_true rfl) (hQ9 ▸ ⟨rfl, Or.inl ⟨rfl, Or.inr ⟨jd, je, hjd, hje, rfl, rfl, Or.inr (Or.inr ⟨bjd, arjd, Rjd, gjd, bje, arje, Rje, gje, e8jd, e8je, c69, eRjd, eRje, hrjd, hrje, eKjd, eKje, fun z => c83 z.1, rfl⟩)⟩⟩⟩)
                    · have c83 := bz_t c83
                      refine go_aload dX11_copy_86 rfl ?_
                      refine go_iload dX11_copy_88 rfl ?_
                      refine go_iload dX11_copy_90 rfl ?_
                      refine go_Vr [.int j, .int x2] [] dX11_copy_92 vl_X11_327 ⟨by decide, by decide⟩ (e_X4_hasRun hrje.1 hrje.2.1 hrje.2.2.1 hrje.2.2.2.1 hrje.2.2.2.2.1 hrje.2.2.2.2.2.1 hrje.2.2.2.2.2.2) hrje.1 hrje.2.1 hrje.2.2.1 rfl rfl (Nat.le_of_ble_eq_true rfl) (Nat.le_of_ble_eq_true rfl) (Nat.le_of_ble_eq_true rfl) ?_
                      refine go_if_ne dX11_copy_95 (fun c95 => ?_) (fun c95 => ?_)
                      · have c95 := bz_t c95
                        refine go_aload dX11_copy_101 rfl ?_
                        refine go_get dX11_copy_103 fl_X11_264_4 hrjd.1 hrjd.2.1 hrjd.2.2.1 rfl ?_
                        refine go_iload_n dX11_copy_106 rfl ?_
                        refine go_aload dX11_copy_107 rfl ?_
                        refine go_get dX11_copy_109 fl_X11_264_4 hrje.1 hrje.2.1 hrje.2.2.1 rfl ?_
                        refine go_iload dX11_copy_112 rfl ?_
                        refine go_iload dX11_copy_114 rfl ?_
                        have hb1 := hrS_b hrjd.2.2.2.2.2.2 c83
                        have hb2 := hrS_b hrje.2.2.2.2.2.2 c95
                        refine go_copy dX11_copy_116 wm_901 wm_203 wm_202 wm_6 hrjd.2.2.2.1 hrje.2.2.2.1 hrjd.2.2.2.2.1 hrjd.2.2.2.2.2.1 hrje.2.2.2.2.1 hrje.2.2.2.2.2.1 hb1.1 hb2.1 hb1.2.1 hb1.2.2 hb2.2.2 (Nat.le_of_ble_eq_true rfl) (by omega) ?_
                        refine go_iload dX11_copy_119 rfl ?_
                        exact go_iret dX11_copy_121 rfl (Nat.le_of_ble_eq_true rfl) (Nat.le_of_ble_eq_true rfl) (hQ9 ▸ ⟨rfl, Or.inr ⟨jd, je, bjd, arjd, Rjd, gjd, bje, arje, Rje, gje, hjd, hje, rfl, rfl, e8jd, e8je, c69, eRjd, eRje, hrjd, hrje, eKjd, eKje, c83, c95, rfl, rfl⟩⟩)
                      · have c95 := bz_f c95
                        refine go_bipush (v := (-13)) dX11_copy_98 rfl ?_
                        exact go_iret dX11_copy_100 rfl (Nat.le_of_ble_eq_true rfl) (Nat.le_of_ble_eq_true rfl) (hQ9 ▸ ⟨rfl, Or.inl ⟨rfl, Or.inr ⟨jd, je, hjd, hje, rfl, rfl, Or.inr (Or.inr ⟨bjd, arjd, Rjd, gjd, bje, arje, Rje, gje, e8jd, e8je, c69, eRjd, eRje, hrjd, hrje, eKjd, eKje, fun z => c95 z.2, rfl⟩)⟩⟩⟩)
                  · refine go_bipush (v := (-12)) dX11_copy_72 rfl ?_
                    exact go_iret dX11_copy_74 rfl (Nat.le_of_ble_eq_true rfl) (Nat.le_of_ble_eq_true rfl) (hQ9 ▸ ⟨rfl, Or.inl ⟨rfl, Or.inr ⟨jd, je, hjd, hje, rfl, rfl, Or.inr (Or.inl ⟨by rw [e8jd]; decide, by rw [e8je]; decide, Or.inr (Or.inr c69), rfl⟩)⟩⟩⟩)
                · have c29n := mt (n0_eq (a := 0) (by omega)).mpr c29
                  first | exact absurd c29n (by decide) | exact absurd (by decide) c29n | exact absurd rfl c29n | omega
            · have c11n := (n0_eq (a := 1) (by omega)).mp c11
              first | exact absurd c11n (by decide) | exact absurd (by decide) c11n | exact absurd rfl c11n | omega
      · refine go_iload_n dX11_copy_0 rfl ?_
        refine go_Sr [.int (nI jd)] [] dX11_copy_1 sl_X11_123 ⟨by decide, by decide⟩ e_X11_isShelf rfl rfl (Nat.le_of_ble_eq_true rfl) (Nat.le_of_ble_eq_true rfl) (Nat.le_of_ble_eq_true rfl) ?_
        refine go_tp (z := 1) (if_pos hOd) ?_
        refine go_if_eq dX11_copy_4 (fun c4 => ?_) (fun c4 => ?_)
        · have c4n := (n0_eq (a := 1) (by omega)).mp c4
          first | exact absurd c4n (by decide) | exact absurd (by decide) c4n | exact absurd rfl c4n | omega
        · have c4n := mt (n0_eq (a := 1) (by omega)).mpr c4
          refine go_iload_n dX11_copy_7 rfl ?_
          refine go_Sr [.int e] [] dX11_copy_8 sl_X11_123 ⟨by decide, by decide⟩ e_X11_isShelf rfl rfl (Nat.le_of_ble_eq_true rfl) (Nat.le_of_ble_eq_true rfl) (Nat.le_of_ble_eq_true rfl) ?_
          refine go_tp (z := 0) (if_neg hOe) ?_
          refine go_if_ne dX11_copy_11 (fun c11 => ?_) (fun c11 => ?_)
          · have c11n := mt (n0_eq (a := 0) (by omega)).mpr c11
            first | exact absurd c11n (by decide) | exact absurd (by decide) c11n | exact absurd rfl c11n | omega
          · have c11n := (n0_eq (a := 0) (by omega)).mp c11
            refine go_iconst (v := (-1)) dX11_copy_14 rfl ?_
            exact go_iret dX11_copy_15 rfl (Nat.le_of_ble_eq_true rfl) (Nat.le_of_ble_eq_true rfl) (hQ9 ▸ ⟨rfl, Or.inl ⟨rfl, Or.inl ⟨fun z => hOe z.2, rfl⟩⟩⟩)
  · by_cases hOe : okr e 0 7 = true
    · obtain ⟨je, hje, rfl⟩ := okr_nI (k := 7) rfl (by omega) hOe
      have kje : (nI je).toNatClampNeg = je := nI_clamp (by omega)
      rcases hS je (by omega) with ⟨e8je, eOje, eRje⟩ | ⟨e8je, eRje, aje, eOje, hoje⟩ | ⟨e8je, eOje, bje, arje, Rje, gje, eRje, hrje, eKje⟩
      · refine go_iload_n dX11_copy_0 rfl ?_
        refine go_Sr [.int d] [] dX11_copy_1 sl_X11_123 ⟨by decide, by decide⟩ e_X11_isShelf rfl rfl (Nat.le_of_ble_eq_true rfl) (Nat.le_of_ble_eq_true rfl) (Nat.le_of_ble_eq_true rfl) ?_
        refine go_tp (z := 0) (if_neg hOd) ?_
        refine go_if_eq dX11_copy_4 (fun c4 => ?_) (fun c4 => ?_)
        · have c4n := (n0_eq (a := 0) (by omega)).mp c4
          refine go_iconst (v := (-1)) dX11_copy_14 rfl ?_
          exact go_iret dX11_copy_15 rfl (Nat.le_of_ble_eq_true rfl) (Nat.le_of_ble_eq_true rfl) (hQ9 ▸ ⟨rfl, Or.inl ⟨rfl, Or.inl ⟨fun z => hOd z.1, rfl⟩⟩⟩)
        · have c4n := mt (n0_eq (a := 0) (by omega)).mpr c4
          first | exact absurd c4n (by decide) | exact absurd (by decide) c4n | exact absurd rfl c4n | omega
      · refine go_iload_n dX11_copy_0 rfl ?_
        refine go_Sr [.int d] [] dX11_copy_1 sl_X11_123 ⟨by decide, by decide⟩ e_X11_isShelf rfl rfl (Nat.le_of_ble_eq_true rfl) (Nat.le_of_ble_eq_true rfl) (Nat.le_of_ble_eq_true rfl) ?_
        refine go_tp (z := 0) (if_neg hOd) ?_
        refine go_if_eq dX11_copy_4 (fun c4 => ?_) (fun c4 => ?_)
        · have c4n := (n0_eq (a := 0) (by omega)).mp c4
          refine go_iconst (v := (-1)) dX11_copy_14 rfl ?_
          exact go_iret dX11_copy_15 rfl (Nat.le_of_ble_eq_true rfl) (Nat.le_of_ble_eq_true rfl) (hQ9 ▸ ⟨rfl, Or.inl ⟨rfl, Or.inl ⟨fun z => hOd z.1, rfl⟩⟩⟩)
        · have c4n := mt (n0_eq (a := 0) (by omega)).mpr c4
          first | exact absurd c4n (by decide) | exact absurd (by decide) c4n | exact absurd rfl c4n | omega
      · refine go_iload_n dX11_copy_0 rfl ?_
        refine go_Sr [.int d] [] dX11_copy_1 sl_X11_123 ⟨by decide, by decide⟩ e_X11_isShelf rfl rfl (Nat.le_of_ble_eq_true rfl) (Nat.le_of_ble_eq_true rfl) (Nat.le_of_ble_eq_true rfl) ?_
        refine go_tp (z := 0) (if_neg hOd) ?_
        refine go_if_eq dX11_copy_4 (fun c4 => ?_) (fun c4 => ?_)
        · have c4n := (n0_eq (a := 0) (by omega)).mp c4
          refine go_iconst (v := (-1)) dX11_copy_14 rfl ?_
          exact go_iret dX11_copy_15 rfl (Nat.le_of_ble_eq_true rfl) (Nat.le_of_ble_eq_true rfl) (hQ9 ▸ ⟨rfl, Or.inl ⟨rfl, Or.inl ⟨fun z => hOd z.1, rfl⟩⟩⟩)
        · have c4n := mt (n0_eq (a := 0) (by omega)).mpr c4
          first | exact absurd c4n (by decide) | exact absurd (by decide) c4n | exact absurd rfl c4n | omega
    · refine go_iload_n dX11_copy_0 rfl ?_
      refine go_Sr [.int d] [] dX11_copy_1 sl_X11_123 ⟨by decide, by decide⟩ e_X11_isShelf rfl rfl (Nat.le_of_ble_eq_true rfl) (Nat.le_of_ble_eq_true rfl) (Nat.le_of_ble_eq_true rfl) ?_
      refine go_tp (z := 0) (if_neg hOd) ?_
      refine go_if_eq dX11_copy_4 (fun c4 => ?_) (fun c4 => ?_)
      · have c4n := (n0_eq (a := 0) (by omega)).mp c4
        refine go_iconst (v := (-1)) dX11_copy_14 rfl ?_
        exact go_iret dX11_copy_15 rfl (Nat.le_of_ble_eq_true rfl) (Nat.le_of_ble_eq_true rfl) (hQ9 ▸ ⟨rfl, Or.inl ⟨rfl, Or.inl ⟨fun z => hOd z.1, rfl⟩⟩⟩)
      · have c4n := mt (n0_eq (a := 0) (by omega)).mpr c4
        first | exact absurd c4n (by decide) | exact absurd (by decide) c4n | exact absurd rfl c4n | omega
end D16
