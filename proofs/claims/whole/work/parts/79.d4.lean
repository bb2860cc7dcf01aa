/-! shelves: what is put on them -/
theorem xsK.setO {G : GX} {f : Mem} {x s i t w os rs n : Nat} {b : Int32} {Os Rs Os' : Nat → Option Nat} (h : xsK G f x s i t w os rs n b Os Rs) : xsK G (va_up f os (oa G 2 8 Os')) x s i t w os rs n b Os' Rs := by
  obtain ⟨h1, h2, h3, h4, h5, h6, h7, h8, h9, h10, h11, h12⟩ := h
  exact ⟨(vup_ne h10).trans h1, h2, h3, vup_at, h5, h6, (vup_ne (fun z => h12 z.symm)).trans h7, h8, h9, h10, h11, h12⟩
theorem xsK.setR {G : GX} {f : Mem} {x s i t w os rs n : Nat} {b : Int32} {Os Rs Rs' : Nat → Option Nat} (h : xsK G f x s i t w os rs n b Os Rs) : xsK G (va_up f rs (oa G 3 8 Rs')) x s i t w os rs n b Os Rs' := by
  obtain ⟨h1, h2, h3, h4, h5, h6, h7, h8, h9, h10, h11, h12⟩ := h
  exact ⟨(vup_ne h11).trans h1, h2, h3, (vup_ne h12).trans h4, h5, h6, vup_at, h8, h9, h10, h11, h12⟩
theorem xsK.new {G : GX} {f : Mem} {x s i t w os rs n : Nat} {b : Int32} {Os Rs : Nat → Option Nat} {e : va_E} (h : xsK G f x s i t w os rs n b Os Rs) : xsK G (va_up f n e) x s i t w os rs (n + 1) b Os Rs := by
  obtain ⟨h1, h2, h3, h4, h5, h6, h7, h8, h9, h10, h11, h12⟩ := h
  exact ⟨(vup_ne (by omega)).trans h1, h2, by omega, (vup_ne (by omega)).trans h4, h5, by omega, (vup_ne (by omega)).trans h7, h8, by omega, h10, h11, h12⟩
def keQ (G : GX) (f : Mem) (os rs n : Nat) (Os Rs : Nat → Option Nat) (d what k fg : Int32) : RQ := fun r f1 n1 => (¬ kpC d what k fg = true ∧ r = some (.int (-1)) ∧ f1 = f ∧ n1 = n) ∨ (kpC d what k fg = true ∧ r = some (.int 0) ∧ ∃ jd, jd ≤ 7 ∧ d = nI jd ∧ ((what = 0 ∧ f1 = va_up (va_up f os (oa G 2 8 (va_up Os jd none))) rs (oa G 3 8 (va_up Rs jd none)) ∧ n1 = n) ∨ (what = 1 ∧ ∃ kk gg, kk < 8 ∧ gg < 10 ∧ k = nI kk ∧ fg = nI gg ∧ f1 = va_up (va_up (va_up f n (ob (oneCi kk) [.int (nI gg)])) os (oa G 2 8 (va_up Os jd (some n)))) rs (oa G 3 8 (va_up Rs jd none)) ∧ n1 = n + 1)))
theorem kpC_0 {jd : Nat} {k fg : Int32} (h : jd ≤ 7) (hd : okr (nI jd) 0 7 = true) : kpC (nI jd) 0 k fg = true := decide_eq_true ⟨hd, by decide, fun z => absurd z.1 (by decide)⟩
theorem kpC_1 {jd : Nat} {k fg : Int32} (h : jd ≤ 7) (hd : okr (nI jd) 0 7 = true) (h1 : okr fg 0 9 = true) (h2 : okr k 0 7 = true) : kpC (nI jd) 1 k fg = true := decide_eq_true ⟨hd, by decide, fun z => z.2 ⟨h2, h1⟩⟩
theorem kpC_n {d k fg : Int32} (h : ¬ (okr fg 0 9 = true ∧ okr k 0 7 = true)) : ¬ kpC d 1 k fg = true := fun z => (of_decide_eq_true z).2.2 ⟨rfl, fun y => h ⟨y.2, y.1⟩⟩
theorem okr01 {w : Int32} (h : okr w 0 1 = true) (h1 : ¬ w = 1) : w = 0 := by
  obtain ⟨j, hj, rfl⟩ := okr_nI (k := 1) rfl (by omega) h
  have : j = 0 ∨ j = 1 := by omega
  rcases this with rfl | rfl
  · rfl
  · exact absurd rfl h1
theorem nI_okr {k j : Nat} (h : j ≤ k) (hk : k < 2 ^ 31) : okr (nI j) 0 (nI k) = true := decide_eq_true ⟨fun z => nI_pos (by omega) z, fun z => by
  have := (nI_ltI (a := k) (b := j) (by omega) (by omega)).mp z
  omega⟩
theorem va_rf_o (a : Option Nat) : va_rf a = .null ∨ ∃ k, va_rf a = .ref k := by
  cases a with
  | none => exact Or.inl rfl
  | some k => exact Or.inr ⟨k, rfl⟩
section D4
variable {G : GX} {f : Mem} {x s i0 t w os rs n : Nat} {b : Int32} {Os Rs : Nat → Option Nat} {A : Nat → Nat → Int32} {L : Nat → Nat → Int64}
set_option maxHeartbeats 4000000 in
set_option maxRecDepth 100000 in
theorem e_X11_oneOn (hX : xsK G f x s i0 t w os rs n b Os Rs) {d : Int32} : Ev G mX11_oneOn 4 0 0 [.ref x, .int d] f n (RD (va_rf (if okr d 0 7 = true then Os d.toNatClampNeg else none)) f n) := by
  generalize hQ9 : (RD (va_rf (if okr d 0 7 = true then Os d.toNatClampNeg else none)) f n : RQ) = Q9
  refine ev_of (by decide) (Nat.le_of_ble_eq_true rfl) (ls := [some (.ref x), some (.int d)]) rfl (fun hb => ?_)
  refine go_iload_n dX11_oneOn_0 rfl ?_
  refine go_Sr [.int d] [] dX11_oneOn_1 sl_X11_123 ⟨by decide, by decide⟩ (e_X11_isShelf) rfl rfl (Nat.le_of_ble_eq_true rfl) (Nat.le_of_ble_eq_true rfl) (Nat.le_of_ble_eq_true rfl) ?_
  refine go_if_eq dX11_oneOn_4 (fun c4 => ?_) (fun c4 => ?_)
  · have c4 := bz_f c4
    refine go_null dX11_oneOn_16 ?_
    exact go_aret dX11_oneOn_17 rfl (Or.inl rfl) (Nat.le_of_ble_eq_true rfl) (Nat.le_of_ble_eq_true rfl) (hQ9 ▸ ⟨by rw [if_neg c4]; rfl, rfl, rfl⟩)
  · have c4 := bz_t c4
    obtain ⟨jd, hjd, rfl⟩ := okr_nI (k := 7) rfl (by omega) c4
    have kjd : (nI jd).toNatClampNeg = jd := nI_clamp (by omega)
    refine go_aload_n dX11_oneOn_7 rfl ?_
    refine go_get dX11_oneOn_8 fl_X11_31_11 hX.1 hX.2.1 hX.2.2.1 rfl ?_
    refine go_iload_n dX11_oneOn_11 rfl ?_
    refine go_oald dX11_oneOn_12 hX.2.2.2.1 hX.2.2.2.2.1 hX.2.2.2.2.2.1 (vp_in_nI (n := jd) (by show jd < 8; omega) (by decide)) ?_
    refine go_goto dX11_oneOn_13 ?_
    exact go_aret dX11_oneOn_17 rfl (va_rf_o _) (Nat.le_of_ble_eq_true rfl) (Nat.le_of_ble_eq_true rfl) (hQ9 ▸ ⟨by rw [if_pos c4], rfl, rfl⟩)
set_option maxHeartbeats 4000000 in
set_option maxRecDepth 100000 in
theorem e_X11_rowOn (hX : xsK G f x s i0 t w os rs n b Os Rs) {d : Int32} : Ev G mX11_rowOn 4 0 0 [.ref x, .int d] f n (RD (va_rf (if okr d 0 7 = true then Rs d.toNatClampNeg else none)) f n) := by
  generalize hQ9 : (RD (va_rf (if okr d 0 7 = true then Rs d.toNatClampNeg else none)) f n : RQ) = Q9
  refine ev_of (by decide) (Nat.le_of_ble_eq_true rfl) (ls := [some (.ref x), some (.int d)]) rfl (fun hb => ?_)
  refine go_iload_n dX11_rowOn_0 rfl ?_
  refine go_Sr [.int d] [] dX11_rowOn_1 sl_X11_123 ⟨by decide, by decide⟩ (e_X11_isShelf) rfl rfl (Nat.le_of_ble_eq_true rfl) (Nat.le_of_ble_eq_true rfl) (Nat.le_of_ble_eq_true rfl) ?_
  refine go_if_eq dX11_rowOn_4 (fun c4 => ?_) (fun c4 => ?_)
  · have c4 := bz_f c4
    refine go_null dX11_rowOn_16 ?_
    exact go_aret dX11_rowOn_17 rfl (Or.inl rfl) (Nat.le_of_ble_eq_true rfl) (Nat.le_of_ble_eq_true rfl) (hQ9 ▸ ⟨by rw [if_neg c4]; rfl, rfl, rfl⟩)
  · have c4 := bz_t c4
    obtain ⟨jd, hjd, rfl⟩ := okr_nI (k := 7) rfl (by omega) c4
    have kjd : (nI jd).toNatClampNeg = jd := nI_clamp (by omega)
    refine go_aload_n dX11_rowOn_7 rfl ?_
    refine go_get dX11_rowOn_8 fl_X11_37_11 hX.1 hX.2.1 hX.2.2.1 rfl ?_
    refine go_iload_n dX11_rowOn_11 rfl ?_
    refine go_oald3 dX11_rowOn_12 hX.2.2.2.2.2.2.1 hX.2.2.2.2.2.2.2.1 hX.2.2.2.2.2.2.2.2.1 (vp_in_nI (n := jd) (by show jd < 8; omega) (by decide)) ?_
    refine go_goto dX11_rowOn_13 ?_
    exact go_aret dX11_rowOn_17 rfl (va_rf_o _) (Nat.le_of_ble_eq_true rfl) (Nat.le_of_ble_eq_true rfl) (hQ9 ▸ ⟨by rw [if_pos c4], rfl, rfl⟩)
set_option maxHeartbeats 4000000 in
set_option maxRecDepth 100000 in
theorem e_X11_isEmpty (hX : xsK G f x s i0 t w os rs n b Os Rs) (hS : ∀ d, d < 8 → shD G f n Os Rs A d) {jd : Nat} (hjd : jd ≤ 7) : Ev G mX11_isEmpty 5 0 0 [.ref x, .int (nI jd)] f n (RD (.int (if A 8 (nI jd).toNatClampNeg = 0 then 1 else 0)) f n) := by
  generalize hQ9 : (RD (.int (if A 8 (nI jd).toNatClampNeg = 0 then 1 else 0)) f n : RQ) = Q9
  refine ev_of (by decide) (Nat.le_of_ble_eq_true rfl) (ls := [some (.ref x), some (.int (nI jd))]) rfl (fun hb => ?_)
  have hOd : okr (nI jd) 0 7 = true := nI_okr (k := 7) hjd (by omega)
  rcases hS jd (by omega) with ⟨e8jd, eOjd, eRjd⟩ | ⟨e8jd, eRjd, ajd, eOjd, hojd⟩ | ⟨e8jd, eOjd, bjd, arjd, Rjd, gjd, eRjd, hrjd, eKjd⟩
  · refine go_aload_n dX11_isEmpty_0 rfl ?_
    refine go_iload_n dX11_isEmpty_1 rfl ?_
    refine go_Vr [.int (nI jd)] [] dX11_isEmpty_2 vl_X11_337 ⟨by decide, by decide⟩ (e_X11_oneOn hX) hX.1 hX.2.1 hX.2.2.1 rfl rfl (Nat.le_of_ble_eq_true rfl) (Nat.le_of_ble_eq_true rfl) (Nat.le_of_ble_eq_true rfl) ?_
    refine go_tv (w := .null) (by rw [if_pos hOd, nI_clamp (by omega), eOjd]; rfl) ?_
    refine go_ifnonnullN dX11_isEmpty_5 ?_
    refine go_aload_n dX11_isEmpty_8 rfl ?_
    refine go_iload_n dX11_isEmpty_9 rfl ?_
    refine go_Vr [.int (nI jd)] [] dX11_isEmpty_10 vl_X11_45 ⟨by decide, by decide⟩ (e_X11_rowOn hX) hX.1 hX.2.1 hX.2.2.1 rfl rfl (Nat.le_of_ble_eq_true rfl) (Nat.le_of_ble_eq_true rfl) (Nat.le_of_ble_eq_true rfl) ?_
    refine go_tv (w := .null) (by rw [if_pos hOd, nI_clamp (by omega), eRjd]; rfl) ?_
    refine go_ifnonnullN dX11_isEmpty_13 ?_
    refine go_iconst (v := 1) dX11_isEmpty_16 rfl ?_
    refine go_goto dX11_isEmpty_17 ?_
    exact go_zret dX11_isEmpty_21 rfl (Nat.le_of_ble_eq_true rfl) (Nat.le_of_ble_eq_true rfl) (rfl) (hQ9 ▸ ⟨rd_i (by rw [nI_clamp (by omega), e8jd]; rfl), rfl, rfl⟩)
  · refine go_aload_n dX11_isEmpty_0 rfl ?_
    refine go_iload_n dX11_isEmpty_1 rfl ?_
    refine go_Vr [.int (nI jd)] [] dX11_isEmpty_2 vl_X11_337 ⟨by decide, by decide⟩ (e_X11_oneOn hX) hX.1 hX.2.1 hX.2.2.1 rfl rfl (Nat.le_of_ble_eq_true rfl) (Nat.le_of_ble_eq_true rfl) (Nat.le_of_ble_eq_true rfl) ?_
    refine go_tv (w := .ref ajd) (by rw [if_pos hOd, nI_clamp (by omega), eOjd]; rfl) ?_
    refine go_ifnonnull dX11_isEmpty_5 ?_
    refine go_iconst (v := 0) dX11_isEmpty_20 rfl ?_
    exact go_zret dX11_isEmpty_21 rfl (Nat.le_of_ble_eq_true rfl) (Nat.le_of_ble_eq_true rfl) (rfl) (hQ9 ▸ ⟨rd_i (by rw [nI_clamp (by omega), e8jd]; rfl), rfl, rfl⟩)
  · refine go_aload_n dX11_isEmpty_0 rfl ?_
    refine go_iload_n dX11_isEmpty_1 rfl ?_
    refine go_Vr [.int (nI jd)] [] dX11_isEmpty_2 vl_X11_337 ⟨by decide, by decide⟩ (e_X11_oneOn hX) hX.1 hX.2.1 hX.2.2.1 rfl rfl (Nat.le_of_ble_eq_true rfl) (Nat.le_of_ble_eq_true rfl) (Nat.le_of_ble_eq_true rfl) ?_
    refine go_tv (w := .null) (by rw [if_pos hOd, nI_clamp (by omega), eOjd]; rfl) ?_
    refine go_ifnonnullN dX11_isEmpty_5 ?_
    refine go_aload_n dX11_isEmpty_8 rfl ?_
    refine go_iload_n dX11_isEmpty_9 rfl ?_
    refine go_Vr [.int (nI jd)] [] dX11_isEmpty_10 vl_X11_45 ⟨by decide, by decide⟩ (e_X11_rowOn hX) hX.1 hX.2.1 hX.2.2.1 rfl rfl (Nat.le_of_ble_eq_true rfl) (Nat.le_of_ble_eq_true rfl) (Nat.le_of_ble_eq_true rfl) ?_
    refine go_tv (w := .ref bjd) (by rw [if_pos hOd, nI_clamp (by omega), eRjd]; rfl) ?_
    refine go_ifnonnull dX11_isEmpty_13 ?_
    refine go_iconst (v := 0) dX11_isEmpty_20 rfl ?_
    exact go_zret dX11_isEmpty_21 rfl (Nat.le_of_ble_eq_true rfl) (Nat.le_of_ble_eq_true rfl) (rfl) (hQ9 ▸ ⟨rd_i (by rw [nI_clamp (by omega), e8jd]; rfl), rfl, rfl⟩)
set_option maxHeartbeats 4000000 in
set_option maxRecDepth 100000 in
theorem e_X11_cost (hX : xsK G f x s i0 t w os rs n b Os Rs) (hS : ∀ d, d < 8 → shD G f n Os Rs A d) {d : Int32} : Ev G mX11_cost 7 0 0 [.ref x, .int d] f n (RD (.int (cosS A d)) f n) := by
  generalize hQ9 : (RD (.int (cosS A d)) f n : RQ) = Q9
  refine ev_of (by decide) (Nat.le_of_ble_eq_true rfl) (ls := [some (.ref x), some (.int d), none]) rfl (fun hb => ?_)
  by_cases hOd : okr d 0 7 = true
  · obtain ⟨jd, hjd, rfl⟩ := okr_nI (k := 7) rfl (by omega) hOd
    have kjd : (nI jd).toNatClampNeg = jd := nI_clamp (by omega)
    rcases hS jd (by omega) with ⟨e8jd, eOjd, eRjd⟩ | ⟨e8jd, eRjd, ajd, eOjd, hojd⟩ | ⟨e8jd, eOjd, bjd, arjd, Rjd, gjd, eRjd, hrjd, eKjd⟩
    · refine go_aload_n dX11_cost_0 rfl ?_
      refine go_iload_n dX11_cost_1 rfl ?_
      refine go_Vr [.int (nI jd)] [] dX11_cost_2 vl_X11_337 ⟨by decide, by decide⟩ (e_X11_oneOn hX) hX.1 hX.2.1 hX.2.2.1 rfl rfl (Nat.le_of_ble_eq_true rfl) (Nat.le_of_ble_eq_true rfl) (Nat.le_of_ble_eq_true rfl) ?_
      refine go_tv (w := .null) (by rw [if_pos hOd, nI_clamp (by omega), eOjd]; rfl) ?_
      refine go_astore_nN (ls' := [some (.ref x), some (.int (nI jd)), some (.null)]) dX11_cost_5 ⟨by decide, rfl, rfl⟩ ?_
      refine go_aload_nN dX11_cost_6 rfl ?_
      refine go_ifnonnullN dX11_cost_7 ?_
      refine go_aload_n dX11_cost_10 rfl ?_
      refine go_iload_n dX11_cost_11 rfl ?_
      refine go_Vr [.int (nI jd)] [] dX11_cost_12 vl_X11_130 ⟨by decide, by decide⟩ (e_X11_whyNoOne hX hS) hX.1 hX.2.1 hX.2.2.1 rfl rfl (Nat.le_of_ble_eq_true rfl) (Nat.le_of_ble_eq_true rfl) (Nat.le_of_ble_eq_true rfl) ?_
      refine go_tp (z := (-11)) (by rw [if_pos hOd, nI_clamp (by omega), e8jd]; rfl) ?_
      refine go_goto dX11_cost_15 ?_
      exact go_iret dX11_cost_22 rfl (Nat.le_of_ble_eq_true rfl) (Nat.le_of_ble_eq_true rfl) (hQ9 ▸ ⟨rd_i (a := (-11)) (by simp [cosS, wkS, hOd, kjd, e8jd]), rfl, rfl⟩)
    · refine go_aload_n dX11_cost_0 rfl ?_
      refine go_iload_n dX11_cost_1 rfl ?_
      refine go_Vr [.int (nI jd)] [] dX11_cost_2 vl_X11_337 ⟨by decide, by decide⟩ (e_X11_oneOn hX) hX.1 hX.2.1 hX.2.2.1 rfl rfl (Nat.le_of_ble_eq_true rfl) (Nat.le_of_ble_eq_true rfl) (Nat.le_of_ble_eq_true rfl) ?_
      refine go_tv (w := .ref ajd) (by rw [if_pos hOd, nI_clamp (by omega), eOjd]; rfl) ?_
      refine go_astore_n (ls' := [some (.ref x), some (.int (nI jd)), some (.ref ajd)]) dX11_cost_5 ⟨by decide, rfl, rfl⟩ ?_
      refine go_aload_n dX11_cost_6 rfl ?_
      refine go_ifnonnull dX11_cost_7 ?_
      refine go_aload_n dX11_cost_18 rfl ?_
      refine go1_X11_costs hojd dX11_cost_19 rfl (by omega) (Nat.le_of_ble_eq_true rfl) (Nat.le_of_ble_eq_true rfl) (Nat.le_of_ble_eq_true rfl) ?_
      exact go_iret dX11_cost_22 rfl (Nat.le_of_ble_eq_true rfl) (Nat.le_of_ble_eq_true rfl) (hQ9 ▸ ⟨rd_i (a := costS (A 9 jd) (A 10 jd)) (by simp [cosS, wkS, hOd, kjd, e8jd]), rfl, rfl⟩)
    · refine go_aload_n dX11_cost_0 rfl ?_
      refine go_iload_n dX11_cost_1 rfl ?_
      refine go_Vr [.int (nI jd)] [] dX11_cost_2 vl_X11_337 ⟨by decide, by decide⟩ (e_X11_oneOn hX) hX.1 hX.2.1 hX.2.2.1 rfl rfl (Nat.le_of_ble_eq_true rfl) (Nat.le_of_ble_eq_true rfl) (Nat.le_of_ble_eq_true rfl) ?_
      refine go_tv (w := .null) (by rw [if_pos hOd, nI_clamp (by omega), eOjd]; rfl) ?_
      refine go_astore_nN (ls' := [some (.ref x), some (.int (nI jd)), some (.null)]) dX11_cost_5 ⟨by decide, rfl, rfl⟩ ?_
      refine go_aload_nN dX11_cost_6 rfl ?_
      refine go_ifnonnullN dX11_cost_7 ?_
      refine go_aload_n dX11_cost_10 rfl ?_
      refine go_iload_n dX11_cost_11 rfl ?_
      refine go_Vr [.int (nI jd)] [] dX11_cost_12 vl_X11_130 ⟨by decide, by decide⟩ (e_X11_whyNoOne hX hS) hX.1 hX.2.1 hX.2.2.1 rfl rfl (Nat.le_of_ble_eq_true rfl) (Nat.le_of_ble_eq_true rfl) (Nat.le_of_ble_eq_true rfl) ?_
      refine go_tp (z := (-12)) (by rw [if_pos hOd, nI_clamp (by omega), e8jd]; rfl) ?_
      refine go_goto dX11_cost_15 ?_
      exact go_iret dX11_cost_22 rfl (Nat.le_of_ble_eq_true rfl) (Nat.le_of_ble_eq_true rfl) (hQ9 ▸ ⟨rd_i (a := (-12)) (by simp [cosS, wkS, hOd, kjd, e8jd, eKjd]), rfl, rfl⟩)
  · refine go_aload_n dX11_cost_0 rfl ?_
    refine go_iload_n dX11_cost_1 rfl ?_
    refine go_Vr [.int d] [] dX11_cost_2 vl_X11_337 ⟨by decide, by decide⟩ (e_X11_oneOn hX) hX.1 hX.2.1 hX.2.2.1 rfl rfl (Nat.le_of_ble_eq_true rfl) (Nat.le_of_ble_eq_true rfl) (Nat.le_of_ble_eq_true rfl) ?_
    refine go_tv (w := .null) (by rw [if_neg hOd]; rfl) ?_
    refine go_astore_nN (ls' := [some (.ref x), some (.int d), some (.null)]) dX11_cost_5 ⟨by decide, rfl, rfl⟩ ?_
    refine go_aload_nN dX11_cost_6 rfl ?_
    refine go_ifnonnullN dX11_cost_7 ?_
    refine go_aload_n dX11_cost_10 rfl ?_
    refine go_iload_n dX11_cost_11 rfl ?_
    refine go_Vr [.int d] [] dX11_cost_12 vl_X11_130 ⟨by decide, by decide⟩ (e_X11_whyNoOne hX hS) hX.1 hX.2.1 hX.2.2.1 rfl rfl (Nat.le_of_ble_eq_true rfl) (Nat.le_of_ble_eq_true rfl) (Nat.le_of_ble_eq_true rfl) ?_
    refine go_tp (z := (-1)) (if_neg hOd) ?_
    refine go_goto dX11_cost_15 ?_
    exact go_iret dX11_cost_22 rfl (Nat.le_of_ble_eq_true rfl) (Nat.le_of_ble_eq_true rfl) (hQ9 ▸ ⟨rd_i (a := (-1)) (by simp [cosS, wkS, hOd]), rfl, rfl⟩)
end D4
