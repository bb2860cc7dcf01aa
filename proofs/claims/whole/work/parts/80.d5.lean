/-! keep, row, put, joins -/
theorem mL2 {f : Mem} {n : Nat} {e a c : va_E} : mL (va_up f n e) n [a, c] = va_up (va_up f n a) (n + 1) c := by
  funext x
  unfold mL va_up
  by_cases h : x < n
  · rw [if_pos h, if_neg (by omega), if_neg (by omega), if_neg (by omega)]
  · rw [if_neg h]
    by_cases h1 : x = n
    · subst h1
      rw [Nat.sub_self]
      show a = if x = x + 1 then c else if x = x then a else f x
      rw [if_neg (by omega), if_pos rfl]
    · by_cases h2 : x = n + 1
      · subst h2
        rw [show n + 1 - n = 1 by omega]
        show c = if n + 1 = n + 1 then c else _
        rw [if_pos rfl]
      · rw [if_neg h1, if_neg h2, if_neg h1, List.getElem?_eq_none (by show 2 ≤ _; omega)]
        rfl
theorem x_nI {x : Int32} (h : ¬ x < 0) (h2 : ¬ 100 < x) : ∃ R : Nat, R ≤ 100 ∧ x = nI R := okr_nI (k := 100) rfl (by omega) (decide_eq_true ⟨h, h2⟩)
def roQ (G : GX) (f : Mem) (os rs n : Nat) (Os Rs : Nat → Option Nat) (d so x : Int32) : RQ := fun r f1 n1 => (¬ rwC d so x = true ∧ r = some (.int (-1)) ∧ f1 = f ∧ n1 = n) ∨ (rwC d so x = true ∧ x < 0 ∧ r = some (.int (-14)) ∧ f1 = f ∧ n1 = n) ∨ (rwC d so x = true ∧ r = some (.int 0) ∧ ∃ jd R, jd ≤ 7 ∧ R ≤ 100 ∧ d = nI jd ∧ x = nI R ∧ f1 = va_up (va_up (va_up (va_up f os (oa G 2 8 (va_up Os jd none))) n (ob 4 [.int so, .ref (n + 1)])) (n + 1) (ia G R (fun _ => 0))) rs (oa G 3 8 (va_up Rs jd (some n))) ∧ n1 = n + 2)
def puQ (G : GX) (f : Mem) (n : Nat) (Rs : Nat → Option Nat) (A : Nat → Nat → Int32) (d i v : Int32) : RQ := fun r f1 n1 => r = some (.int (ptR A d i)) ∧ n1 = n ∧ ((f1 = f ∧ ¬ ptR A d i = 0) ∨ ∃ jd b ar R g ji, jd ≤ 7 ∧ d = nI jd ∧ A 8 jd = 2 ∧ Rs jd = some b ∧ rowM G f n b ar R g (A 11 jd) ∧ A 12 jd = nI R ∧ ji < R ∧ i = nI ji ∧ f1 = va_up f ar (ia G R (upd g ji (lbS (A 11 jd) v))))
section D5
variable {G : GX} {f : Mem} {x s i0 t w os rs n : Nat} {b : Int32} {Os Rs : Nat → Option Nat} {A : Nat → Nat → Int32} {L : Nat → Nat → Int64}
set_option maxHeartbeats 4000000 in
set_option maxRecDepth 100000 in
theorem e_X11_keep (hX : xsK G f x s i0 t w os rs n b Os Rs) {d what k fg : Int32} : Ev G mX11_keep 8 1 1 [.ref x, .int d, .int what, .int k, .int fg] f n (keQ G f os rs n Os Rs d what k fg) := by
  generalize hQ9 : (keQ G f os rs n Os Rs d what k fg : RQ) = Q9
  refine ev_of (by decide) (Nat.le_of_ble_eq_true rfl) (ls := [some (.ref x), some (.int d), some (.int what), some (.int k), some (.int fg), none]) rfl (fun hb => ?_)
  by_cases hOd : okr d 0 7 = true
  · obtain ⟨jd, hjd, rfl⟩ := okr_nI (k := 7) rfl (by omega) hOd
    have kjd : (nI jd).toNatClampNeg = jd := nI_clamp (by omega)
    refine go_iload_n dX11_keep_0 rfl ?_
    refine go_Sr [.int (nI jd)] [] dX11_keep_1 sl_X11_123 ⟨by decide, by decide⟩ e_X11_isShelf rfl rfl (Nat.le_of_ble_eq_true rfl) (Nat.le_of_ble_eq_true rfl) (Nat.le_of_ble_eq_true rfl) ?_
    refine go_tp (z := 1) (if_pos hOd) ?_
    refine go_if_eq dX11_keep_4 (fun c4 => ?_) (fun c4 => ?_)
    · have c4n := (n0_eq (a := 1) (by omega)).mp c4
      first | exact absurd c4n (by decide) | exact absurd (by decide) c4n | exact absurd rfl c4n | omega
    · have c4n := mt (n0_eq (a := 1) (by omega)).mpr c4
      refine go_iload_n dX11_keep_7 rfl ?_
      refine go_iconst (v := 0) dX11_keep_8 rfl ?_
      refine go_iconst (v := 1) dX11_keep_9 rfl ?_
      refine go_Sr [.int what, .int 0, .int 1] [] dX11_keep_10 sl_X11_126 ⟨by decide, by decide⟩ (e_X11_isWithin) rfl rfl (Nat.le_of_ble_eq_true rfl) (Nat.le_of_ble_eq_true rfl) (Nat.le_of_ble_eq_true rfl) ?_
      refine go_if_ne dX11_keep_13 (fun c13 => ?_) (fun c13 => ?_)
      · have c13 := bz_t c13
        refine go_iload_n dX11_keep_18 rfl ?_
        refine go_iconst (v := 1) dX11_keep_19 rfl ?_
        refine go_icmp_ne dX11_keep_20 (fun c20 => ?_) (fun c20 => ?_)
        · refine go_null dX11_keep_32 ?_
          refine go_astoreN (ls' := [some (.ref x), some (.int (nI jd)), some (.int what), some (.int k), some (.int fg), some (.null)]) dX11_keep_33 ⟨by decide, rfl, rfl⟩ ?_
          refine go_iload_n dX11_keep_35 rfl ?_
          refine go_iconst (v := 1) dX11_keep_36 rfl ?_
          refine go_icmp_ne dX11_keep_37 (fun c37 => ?_) (fun c37 => ?_)
          · refine go_aload_n dX11_keep_47 rfl ?_
            refine go_get dX11_keep_48 fl_X11_31_11 hX.1 hX.2.1 hX.2.2.1 rfl ?_
            refine go_iload_n dX11_keep_51 rfl ?_
            refine go_aloadN dX11_keep_52 rfl ?_
            refine go_oastN dX11_keep_54 (t := 2) hX.2.2.2.1 hX.2.2.2.2.1 hX.2.2.2.2.2.1 rfl (vp_in_nI (n := jd) (by show jd < 8; omega) (by decide)) ?_
            rw [nI_clamp (by omega)]
            have hX := hX.setO (Os' := (va_up Os jd none))
            refine go_aload_n dX11_keep_55 rfl ?_
            refine go_get dX11_keep_56 fl_X11_37_11 hX.1 hX.2.1 hX.2.2.1 rfl ?_
            refine go_iload_n dX11_keep_59 rfl ?_
            refine go_null dX11_keep_60 ?_
            refine go_oastN dX11_keep_61 (t := 3) hX.2.2.2.2.2.2.1 hX.2.2.2.2.2.2.2.1 hX.2.2.2.2.2.2.2.2.1 rfl (vp_in_nI (n := jd) (by show jd < 8; omega) (by decide)) ?_
            rw [nI_clamp (by omega)]
            have hX := hX.setR (Rs' := (va_up Rs jd none))
            refine go_iconst (v := 0) dX11_keep_62 rfl ?_
            exact go_iret dX11_keep_63 rfl (Nat.le_of_ble_eq_true rfl) (Nat.le_of_ble_eq_true rfl) (hQ9 ▸ Or.inr ⟨by rw [okr01 c13 c20]; exact kpC_0 hjd hOd, rfl, jd, hjd, rfl, Or.inl ⟨okr01 c13 c20, rfl, rfl⟩⟩)
          · exact absurd c37 c20
        · subst c20
          refine go_iload_n dX11_keep_23 rfl ?_
          refine go_iload dX11_keep_24 rfl ?_
          refine go_S [.int k, .int fg] [] dX11_keep_26 sl_X11_299 ⟨by decide, by decide⟩ e_X11_oneOf rfl rfl (Nat.le_of_ble_eq_true rfl) (Nat.le_of_ble_eq_true rfl) (Nat.le_of_ble_eq_true rfl) (fun r1 f1 n1 h1 => ?_)
          rcases h1 with ⟨hno, hr1, hf1, hn1⟩ | ⟨kk, gg, hkk, hgg, ek, eg, hr1, hf1, hn1⟩
          · subst r1
            subst f1
            subst n1
            refine go_goto dX11_keep_29 ?_
            refine go_astoreN (ls' := [some (.ref x), some (.int (nI jd)), some (.int 1), some (.int k), some (.int fg), some (.null)]) dX11_keep_33 ⟨by decide, rfl, rfl⟩ ?_
            refine go_iload_n dX11_keep_35 rfl ?_
            refine go_iconst (v := 1) dX11_keep_36 rfl ?_
            refine go_icmp_ne dX11_keep_37 (fun c37 => ?_) (fun c37 => ?_)
            · have c37n := mt (nI_eq (a := 1) (b := 1) (by omega) (by omega)).mpr c37
              first | exact absurd c37n (by decide) | exact absurd (by decide) c37n | exact absurd rfl c37n | omega
            · have c37n := (nI_eq (a := 1) (b := 1) (by omega) (by omega)).mp c37
              refine go_aloadN dX11_keep_40 rfl ?_
              refine go_ifnonnullN dX11_keep_42 ?_
              refine go_iconst (v := (-1)) dX11_keep_45 rfl ?_
              exact go_iret dX11_keep_46 rfl (Nat.le_of_ble_eq_true rfl) (Nat.le_of_ble_eq_true rfl) (hQ9 ▸ Or.inl ⟨kpC_n hno, rfl, rfl, rfl⟩)
          · subst r1
            subst f1
            subst n1
            have hX := hX.new (e := ob (oneCi kk) [.int (nI gg)])
            have hnw : (va_up f n (ob (oneCi kk) [.int (nI gg)])) n = ob (oneCi kk) [.int (nI gg)] := vup_at
            refine go_goto dX11_keep_29 ?_
            refine go_astore (ls' := [some (.ref x), some (.int (nI jd)), some (.int 1), some (.int k), some (.int fg), some (.ref n)]) dX11_keep_33 ⟨by decide, rfl, rfl⟩ ?_
            refine go_iload_n dX11_keep_35 rfl ?_
            refine go_iconst (v := 1) dX11_keep_36 rfl ?_
            refine go_icmp_ne dX11_keep_37 (fun c37 => ?_) (fun c37 => ?_)
            · have c37n := mt (nI_eq (a := 1) (b := 1) (by omega) (by omega)).mpr c37
              first | exact absurd c37n (by decide) | exact absurd (by decide) c37n | exact absurd rfl c37n | omega
            · have c37n := (nI_eq (a := 1) (b := 1) (by omega) (by omega)).mp c37
              refine go_aload dX11_keep_40 rfl ?_
              refine go_ifnonnull dX11_keep_42 ?_
              refine go_aload_n dX11_keep_47 rfl ?_
              refine go_get dX11_keep_48 fl_X11_31_11 hX.1 hX.2.1 hX.2.2.1 rfl ?_
              refine go_iload_n dX11_keep_51 rfl ?_
              refine go_aload dX11_keep_52 rfl ?_
              refine go_oast dX11_keep_54 (t := 2) hX.2.2.2.1 hX.2.2.2.2.1 hX.2.2.2.2.2.1 rfl (vp_in_nI (n := jd) (by show jd < 8; omega) (by decide)) hnw (by omega) (by omega) (ci := oneCi kk) (oneCi_q hkk) (oneCi_c hkk) ?_
              rw [nI_clamp (by omega)]
              have hX := hX.setO (Os' := (va_up Os jd (some n)))
              refine go_aload_n dX11_keep_55 rfl ?_
              refine go_get dX11_keep_56 fl_X11_37_11 hX.1 hX.2.1 hX.2.2.1 rfl ?_
              refine go_iload_n dX11_keep_59 rfl ?_
              refine go_null dX11_keep_60 ?_
              refine go_oastN dX11_keep_61 (t := 3) hX.2.2.2.2.2.2.1 hX.2.2.2.2.2.2.2.1 hX.2.2.2.2.2.2.2.2.1 rfl (vp_in_nI (n := jd) (by show jd < 8; omega) (by decide)) ?_
              rw [nI_clamp (by omega)]
              have hX := hX.setR (Rs' := (va_up Rs jd none))
              refine go_iconst (v := 0) dX11_keep_62 rfl ?_
              exact go_iret dX11_keep_63 rfl (Nat.le_of_ble_eq_true rfl) (Nat.le_of_ble_eq_true rfl) (hQ9 ▸ Or.inr ⟨kpC_1 hjd hOd (by rw [eg]; exact nI_okr (k := 9) (by omega) (by omega)) (by rw [ek]; exact nI_okr (k := 7) (by omega) (by omega)), rfl, jd, hjd, rfl, Or.inr ⟨rfl, kk, gg, hkk, hgg, ek, eg, rfl, rfl⟩⟩)
      · have c13 := bz_f c13
        refine go_iconst (v := (-1)) dX11_keep_16 rfl ?_
        exact go_iret dX11_keep_17 rfl (Nat.le_of_ble_eq_true rfl) (Nat.le_of_ble_eq_true rfl) (hQ9 ▸ Or.inl ⟨fun z => c13 (of_decide_eq_true z).2.1, rfl, rfl, rfl⟩)
  · refine go_iload_n dX11_keep_0 rfl ?_
    refine go_Sr [.int d] [] dX11_keep_1 sl_X11_123 ⟨by decide, by decide⟩ e_X11_isShelf rfl rfl (Nat.le_of_ble_eq_true rfl) (Nat.le_of_ble_eq_true rfl) (Nat.le_of_ble_eq_true rfl) ?_
    refine go_tp (z := 0) (if_neg hOd) ?_
    refine go_if_eq dX11_keep_4 (fun c4 => ?_) (fun c4 => ?_)
    · have c4n := (n0_eq (a := 0) (by omega)).mp c4
      refine go_iconst (v := (-1)) dX11_keep_16 rfl ?_
      exact go_iret dX11_keep_17 rfl (Nat.le_of_ble_eq_true rfl) (Nat.le_of_ble_eq_true rfl) (hQ9 ▸ Or.inl ⟨fun z => hOd (of_decide_eq_true z).1, rfl, rfl, rfl⟩)
    · have c4n := mt (n0_eq (a := 0) (by omega)).mpr c4
      first | exact absurd c4n (by decide) | exact absurd (by decide) c4n | exact absurd rfl c4n | omega
theorem mx0 {R : Nat} (h : R < 2 ^ 31) : mxS 0 (nI R) = nI R := by
  unfold mxS
  by_cases c : (0 : Int32) < nI R
  · rw [if_pos c]
  · rw [if_neg c]
    have h2 := mt (n0_gt (a := R) h).mpr c
    have h3 : R = 0 := by omega
    rw [h3]
    rfl
set_option maxHeartbeats 4000000 in
set_option maxRecDepth 100000 in
theorem e_X4_init {s : Nat} (hs : f s = ob 4 [.int 0, .null]) (hq : G.2.1 ≤ s) {so : Int32} {R : Nat} (hR : R ≤ 100) : Ev G mX4_init 4 1 R [.ref s, .int so, .int (nI R)] f (s + 1) (fun r f1 n1 => r = none ∧ f1 = mL f s [ob 4 [.int so, .ref (s + 1)], ia G R (fun _ => 0)] ∧ n1 = s + 2) := by
  generalize hQ9 : (fun r f1 n1 => r = none ∧ f1 = mL f s [ob 4 [.int so, .ref (s + 1)], ia G R (fun _ => 0)] ∧ n1 = s + 2 : RQ) = Q9
  refine ev_of (by decide) (Nat.le_of_ble_eq_true rfl) (ls := [some (.ref s), some (.int so), some (.int (nI R))]) rfl (fun hb => ?_)
  refine go_mem (f' := (mL f s [ob 4 [.int 0, .null]])) (mL_one hs) ?_
  refine go_aload_n dX4_init_0 rfl ?_
  refine go_obj dX4_init_1 wm_865 wm_29 wm_30 (Nat.le_of_ble_eq_true rfl) (by omega) ?_
  refine go_aload_n dX4_init_4 rfl ?_
  refine go_iload_n dX4_init_5 rfl ?_
  refine go_put dX4_init_6 fp_X4_9_4 (Or.inl rfl) (mL_get (j := 0) rfl) (by omega) (by omega) rfl rfl (Nat.le_of_ble_eq_true rfl) ?_
  refine go_mem (f' := (mL f s [ob 4 [.int so, .null]])) (mL_set (j := 0) (Nat.le_of_ble_eq_true rfl) rfl) ?_
  refine go_aload_n dX4_init_9 rfl ?_
  refine go_iconst (v := 0) dX4_init_10 rfl ?_
  refine go_iload_n dX4_init_11 rfl ?_
  refine go_Sr [.int 0, .int (nI R)] [.ref s] dX4_init_12 sl_X4_15 ⟨by decide, by decide⟩ (e_J9_max) rfl rfl (Nat.le_of_ble_eq_true rfl) (Nat.le_of_ble_eq_true rfl) (Nat.le_of_ble_eq_true rfl) ?_
  refine go_tp (z := nI R) (mx0 (by omega)) ?_
  refine go_newi dX4_init_15 wm_56 (len := R) (nI_pos (by omega)) (nI_clamp (by omega)) (by omega) (Nat.le_of_ble_eq_true rfl) (by omega) ?_
  refine go_nn (n' := s + 2) rfl ?_
  refine go_mem (f' := (mL f s [ob 4 [.int so, .null], ia G R (fun _ => 0)])) (mL_push rfl rfl) ?_
  refine go_put dX4_init_17 fp_X4_21_4 (Or.inl rfl) (mL_get (j := 0) rfl) (by omega) (by omega) rfl rfl (Nat.le_of_ble_eq_true rfl) ?_
  refine go_mem (f' := (mL f s [ob 4 [.int so, .ref (s + 1)], ia G R (fun _ => 0)])) (mL_set (j := 0) (Nat.le_of_ble_eq_true rfl) rfl) ?_
  exact go_vret dX4_init_20 rfl (by omega) (by omega) (hQ9 ▸ ⟨rfl, rfl, rfl⟩)
set_option maxHeartbeats 4000000 in
set_option maxRecDepth 100000 in
theorem e_X11_row (hX : xsK G f x s i0 t w os rs n b Os Rs) {d so x1 : Int32} : Ev G mX11_row 8 2 102 [.ref x, .int d, .int so, .int x1] f n (roQ G f os rs n Os Rs d so x1) := by
  generalize hQ9 : (roQ G f os rs n Os Rs d so x1 : RQ) = Q9
  refine ev_of (by decide) (Nat.le_of_ble_eq_true rfl) (ls := [some (.ref x), some (.int d), some (.int so), some (.int x1)]) rfl (fun hb => ?_)
  by_cases hOd : okr d 0 7 = true
  · obtain ⟨jd, hjd, rfl⟩ := okr_nI (k := 7) rfl (by omega) hOd
    have kjd : (nI jd).toNatClampNeg = jd := nI_clamp (by omega)
    refine go_iload_n dX11_row_0 rfl ?_
    refine go_Sr [.int (nI jd)] [] dX11_row_1 sl_X11_123 ⟨by decide, by decide⟩ e_X11_isShelf rfl rfl (Nat.le_of_ble_eq_true rfl) (Nat.le_of_ble_eq_true rfl) (Nat.le_of_ble_eq_true rfl) ?_
    refine go_tp (z := 1) (if_pos hOd) ?_
    refine go_if_eq dX11_row_4 (fun c4 => ?_) (fun c4 => ?_)
    · have c4n := (n0_eq (a := 1) (by omega)).mp c4
      first | exact absurd c4n (by decide) | exact absurd (by decide) c4n | exact absurd rfl c4n | omega
    · have c4n := mt (n0_eq (a := 1) (by omega)).mpr c4
      refine go_iload_n dX11_row_7 rfl ?_
      refine go_iconst (v := 0) dX11_row_8 rfl ?_
      refine go_iconst (v := 2) dX11_row_9 rfl ?_
      refine go_Sr [.int so, .int 0, .int 2] [] dX11_row_10 sl_X11_126 ⟨by decide, by decide⟩ (e_X11_isWithin) rfl rfl (Nat.le_of_ble_eq_true rfl) (Nat.le_of_ble_eq_true rfl) (Nat.le_of_ble_eq_true rfl) ?_
      refine go_if_eq dX11_row_13 (fun c13 => ?_) (fun c13 => ?_)
      · have c13 := bz_f c13
        refine go_iconst (v := (-1)) dX11_row_22 rfl ?_
        exact go_iret dX11_row_23 rfl (Nat.le_of_ble_eq_true rfl) (Nat.le_of_ble_eq_true rfl) (hQ9 ▸ Or.inl ⟨fun z => c13 (of_decide_eq_true z).2.1, rfl, rfl, rfl⟩)
      · have c13 := bz_t c13
        refine go_iload_n dX11_row_16 rfl ?_
        refine go_bipush (v := 100) dX11_row_17 rfl ?_
        refine go_icmp_le dX11_row_19 (fun c19 => ?_) (fun c19 => ?_)
        · have c19 := Int32.not_lt.mpr c19
          refine go_iload_n dX11_row_24 rfl ?_
          refine go_if_ge dX11_row_25 (fun c25 => ?_) (fun c25 => ?_)
          · have c25 := Int32.not_lt.mpr c25
            obtain ⟨R, hR, rfl⟩ := x_nI c25 c19
            refine go_aload_n dX11_row_31 rfl ?_
            refine go_get dX11_row_32 fl_X11_31_11 hX.1 hX.2.1 hX.2.2.1 rfl ?_
            refine go_iload_n dX11_row_35 rfl ?_
            refine go_null dX11_row_36 ?_
            refine go_oastN dX11_row_37 (t := 2) hX.2.2.2.1 hX.2.2.2.2.1 hX.2.2.2.2.2.1 rfl (vp_in_nI (n := jd) (by show jd < 8; omega) (by decide)) ?_
            rw [nI_clamp (by omega)]
            have hX := hX.setO (Os' := (va_up Os jd none))
            refine go_aload_n dX11_row_38 rfl ?_
            refine go_get dX11_row_39 fl_X11_37_11 hX.1 hX.2.1 hX.2.2.1 rfl ?_
            refine go_iload_n dX11_row_42 rfl ?_
            have hX0 := hX
            refine go_new (fs := [.int 0, .null]) dX11_row_43 (ci := 4) rfl iw_4 tyX4_ok wm_132 wm_861 wm_16 (ty2 rfl rfl) (Nat.le_of_ble_eq_true rfl) (Nat.le_of_ble_eq_true rfl) ?_
            have hX := hX.new (e := ob 4 [.int 0, .null])
            refine go_dup dX11_row_46 rfl ?_
            refine go_iload_n dX11_row_47 rfl ?_
            refine go_iload_n dX11_row_48 rfl ?_
            refine go_I [.int so, .int (nI R)] [.ref n, .int (nI jd), .ref rs] dX11_row_49 il_X11_303 ⟨by omega, by decide⟩ (e_X4_init vup_at (by omega) hR) rfl rfl (Nat.le_of_ble_eq_true rfl) (Nat.le_of_ble_eq_true rfl) (by omega) (fun r1 f1 n1 h1 => ?_)
            obtain ⟨rfl, hf1, rfl⟩ := h1
            rw [mL2] at hf1
            subst f1
            have hX := hX0.new (e := ob 4 [.int so, .ref (n + 1)])
            have hX := hX.new (e := ia G R (fun _ => 0))
            have hnw : (va_up (va_up (va_up f os (oa G 2 8 (va_up Os jd none))) n (ob 4 [.int so, .ref (n + 1)])) (n + 1) (ia G R (fun _ => 0))) n = ob 4 [.int so, .ref (n + 1)] := (vup_ne (by omega)).trans vup_at
            refine go_oast dX11_row_52 (t := 3) hX.2.2.2.2.2.2.1 hX.2.2.2.2.2.2.2.1 hX.2.2.2.2.2.2.2.2.1 rfl (vp_in_nI (n := jd) (by show jd < 8; omega) (by decide)) hnw (by omega) (by omega) (ci := 4) rfl (Or.inl rfl) ?_
            rw [nI_clamp (by omega)]
            have hX := hX.setR (Rs' := (va_up Rs jd (some n)))
            refine go_iconst (v := 0) dX11_row_53 rfl ?_
            exact go_iret dX11_row_54 rfl (by omega) (by omega) (hQ9 ▸ Or.inr (Or.inr ⟨decide_eq_true ⟨hOd, c13, c19⟩, rfl, jd, R, hjd, hR, rfl, rfl, rfl, rfl⟩))
          · have c25 := Int32.not_le.mp c25
            refine go_bipush (v := (-14)) dX11_row_28 rfl ?_
            exact go_iret dX11_row_30 rfl (Nat.le_of_ble_eq_true rfl) (Nat.le_of_ble_eq_true rfl) (hQ9 ▸ Or.inr (Or.inl ⟨decide_eq_true ⟨hOd, c13, c19⟩, c25, rfl, rfl, rfl⟩))
        · have c19 := Int32.not_le.mp c19
          refine go_iconst (v := (-1)) dX11_row_22 rfl ?_
          exact go_iret dX11_row_23 rfl (Nat.le_of_ble_eq_true rfl) (Nat.le_of_ble_eq_true rfl) (hQ9 ▸ Or.inl ⟨fun z => (of_decide_eq_true z).2.2 c19, rfl, rfl, rfl⟩)
  · refine go_iload_n dX11_row_0 rfl ?_
    refine go_Sr [.int d] [] dX11_row_1 sl_X11_123 ⟨by decide, by decide⟩ e_X11_isShelf rfl rfl (Nat.le_of_ble_eq_true rfl) (Nat.le_of_ble_eq_true rfl) (Nat.le_of_ble_eq_true rfl) ?_
    refine go_tp (z := 0) (if_neg hOd) ?_
    refine go_if_eq dX11_row_4 (fun c4 => ?_) (fun c4 => ?_)
    · have c4n := (n0_eq (a := 0) (by omega)).mp c4
      refine go_iconst (v := (-1)) dX11_row_22 rfl ?_
      exact go_iret dX11_row_23 rfl (Nat.le_of_ble_eq_true rfl) (Nat.le_of_ble_eq_true rfl) (hQ9 ▸ Or.inl ⟨fun z => hOd (of_decide_eq_true z).1, rfl, rfl, rfl⟩)
    · have c4n := mt (n0_eq (a := 0) (by omega)).mpr c4
      first | exact absurd c4n (by decide) | exact absurd (by decide) c4n | exact absurd rfl c4n | omega
set_option maxHeartbeats 4000000 in
set_option maxRecDepth 100000 in
theorem e_X11_put (hX : xsK G f x s i0 t w os rs n b Os Rs) (hS : ∀ d, d < 8 → shD G f n Os Rs A d) {d i v : Int32} : Ev G mX11_put 8 0 0 [.ref x, .int d, .int i, .int v] f n (puQ G f n Rs A d i v) := by
  generalize hQ9 : (puQ G f n Rs A d i v : RQ) = Q9
  refine ev_of (by decide) (Nat.le_of_ble_eq_true rfl) (ls := [some (.ref x), some (.int d), some (.int i), some (.int v), none]) rfl (fun hb => ?_)
  by_cases hOd : okr d 0 7 = true
  · obtain ⟨jd, hjd, rfl⟩ := okr_nI (k := 7) rfl (by omega) hOd
    have kjd : (nI jd).toNatClampNeg = jd := nI_clamp (by omega)
    rcases hS jd (by omega) with ⟨e8jd, eOjd, eRjd⟩ | ⟨e8jd, eRjd, ajd, eOjd, hojd⟩ | ⟨e8jd, eOjd, bjd, arjd, Rjd, gjd, eRjd, hrjd, eKjd⟩
    · refine go_aload_n dX11_put_0 rfl ?_
      refine go_iload_n dX11_put_1 rfl ?_
      refine go_Vr [.int (nI jd)] [] dX11_put_2 vl_X11_45 ⟨by decide, by decide⟩ (e_X11_rowOn hX) hX.1 hX.2.1 hX.2.2.1 rfl rfl (Nat.le_of_ble_eq_true rfl) (Nat.le_of_ble_eq_true rfl) (Nat.le_of_ble_eq_true rfl) ?_
      refine go_tv (w := .null) (by rw [if_pos hOd, nI_clamp (by omega), eRjd]; rfl) ?_
      refine go_astoreN (ls' := [some (.ref x), some (.int (nI jd)), some (.int i), some (.int v), some (.null)]) dX11_put_5 ⟨by decide, rfl, rfl⟩ ?_
      refine go_aloadN dX11_put_7 rfl ?_
      refine go_ifnonnullN dX11_put_9 ?_
      refine go_aload_n dX11_put_12 rfl ?_
      refine go_iload_n dX11_put_13 rfl ?_
      refine go_Vr [.int (nI jd)] [] dX11_put_14 vl_X11_49 ⟨by decide, by decide⟩ (e_X11_whyNoRow hX hS) hX.1 hX.2.1 hX.2.2.1 rfl rfl (Nat.le_of_ble_eq_true rfl) (Nat.le_of_ble_eq_true rfl) (Nat.le_of_ble_eq_true rfl) ?_
      refine go_tp (z := (-11)) (by rw [if_pos hOd, nI_clamp (by omega), e8jd]; rfl) ?_
      exact go_iret dX11_put_17 rfl (Nat.le_of_ble_eq_true rfl) (Nat.le_of_ble_eq_true rfl) (hQ9 ▸ ⟨rd_i (a := (-11)) (by simp [ptR, wkS, hOd, kjd, e8jd]), rfl, Or.inl ⟨rfl, by simp [ptR, wkS, hOd, kjd, e8jd]⟩⟩)
    · refine go_aload_n dX11_put_0 rfl ?_
      refine go_iload_n dX11_put_1 rfl ?_
      refine go_Vr [.int (nI jd)] [] dX11_put_2 vl_X11_45 ⟨by decide, by decide⟩ (e_X11_rowOn hX) hX.1 hX.2.1 hX.2.2.1 rfl rfl (Nat.le_of_ble_eq_true rfl) (Nat.le_of_ble_eq_true rfl) (Nat.le_of_ble_eq_true rfl) ?_
      refine go_tv (w := .null) (by rw [if_pos hOd, nI_clamp (by omega), eRjd]; rfl) ?_
      refine go_astoreN (ls' := [some (.ref x), some (.int (nI jd)), some (.int i), some (.int v), some (.null)]) dX11_put_5 ⟨by decide, rfl, rfl⟩ ?_
      refine go_aloadN dX11_put_7 rfl ?_
      refine go_ifnonnullN dX11_put_9 ?_
      refine go_aload_n dX11_put_12 rfl ?_
      refine go_iload_n dX11_put_13 rfl ?_
      refine go_Vr [.int (nI jd)] [] dX11_put_14 vl_X11_49 ⟨by decide, by decide⟩ (e_X11_whyNoRow hX hS) hX.1 hX.2.1 hX.2.2.1 rfl rfl (Nat.le_of_ble_eq_true rfl) (Nat.le_of_ble_eq_true rfl) (Nat.le_of_ble_eq_true rfl) ?_
      refine go_tp (z := (-12)) (by rw [if_pos hOd, nI_clamp (by omega), e8jd]; rfl) ?_
      exact go_iret dX11_put_17 rfl (Nat.le_of_ble_eq_true rfl) (Nat.le_of_ble_eq_true rfl) (hQ9 ▸ ⟨rd_i (a := (-12)) (by simp [ptR, wkS, hOd, kjd, e8jd]), rfl, Or.inl ⟨rfl, by simp [ptR, wkS, hOd, kjd, e8jd]⟩⟩)
    · refine go_aload_n dX11_put_0 rfl ?_
      refine go_iload_n dX11_put_1 rfl ?_
      refine go_Vr [.int (nI jd)] [] dX11_put_2 vl_X11_45 ⟨by decide, by decide⟩ (e_X11_rowOn hX) hX.1 hX.2.1 hX.2.2.1 rfl rfl (Nat.le_of_ble_eq_true rfl) (Nat.le_of_ble_eq_true rfl) (Nat.le_of_ble_eq_true rfl) ?_
      refine go_tv (w := .ref bjd) (by rw [if_pos hOd, nI_clamp (by omega), eRjd]; rfl) ?_
      refine go_astore (ls' := [some (.ref x), some (.int (nI jd)), some (.int i), some (.int v), some (.ref bjd)]) dX11_put_5 ⟨by decide, rfl, rfl⟩ ?_
      refine go_aload dX11_put_7 rfl ?_
      refine go_ifnonnull dX11_put_9 ?_
      have hbjd := hrjd.2.2.1
      have hRjd := hrjd.2.2.2.2.2.2
      have kRjd : (nI Rjd).toNatClampNeg = Rjd := nI_clamp (by omega)
      refine go_aload dX11_put_18 rfl ?_
      refine go_iload_n dX11_put_20 rfl ?_
      refine go_Vr [.int i] [] dX11_put_21 vl_X11_306 ⟨by decide, by decide⟩ (e_X4_has hrjd.1 hrjd.2.1 hrjd.2.2.1 hrjd.2.2.2.1 hrjd.2.2.2.2.1 hrjd.2.2.2.2.2.1 hrjd.2.2.2.2.2.2) hrjd.1 hrjd.2.1 (by omega) rfl rfl (Nat.le_of_ble_eq_true rfl) (Nat.le_of_ble_eq_true rfl) (Nat.le_of_ble_eq_true rfl) ?_
      refine go_if_ne dX11_put_24 (fun c24 => ?_) (fun c24 => ?_)
      · have c24 := bz_t c24
        obtain ⟨ji, hji, rfl⟩ := okp_nI c24 (by omega)
        have kji : (nI ji).toNatClampNeg = ji := nI_clamp (by omega)
        refine go_aload dX11_put_30 rfl ?_
        refine go_get dX11_put_32 fl_X11_264_4 hrjd.1 hrjd.2.1 hrjd.2.2.1 rfl ?_
        refine go_iload_n dX11_put_35 rfl ?_
        refine go_aload dX11_put_36 rfl ?_
        refine go_iload_n dX11_put_38 rfl ?_
        refine go_Vr [.int v] [.int (nI ji), .ref arjd] dX11_put_39 vl_X11_309 ⟨by decide, by decide⟩ (e_X4_lowestBits hrjd.1 hrjd.2.1 hrjd.2.2.1 hrjd.2.2.2.1 hrjd.2.2.2.2.1 hrjd.2.2.2.2.2.1 hrjd.2.2.2.2.2.2) hrjd.1 hrjd.2.1 (by omega) rfl rfl (Nat.le_of_ble_eq_true rfl) (Nat.le_of_ble_eq_true rfl) (Nat.le_of_ble_eq_true rfl) ?_
        refine go_iast dX11_put_42 hrjd.2.2.2.1 hrjd.2.2.2.2.1 hrjd.2.2.2.2.2.1 (vp_in_nI (n := ji) hji (by omega)) ?_
        rw [nI_clamp (by omega)]
        refine go_iconst (v := 0) dX11_put_43 rfl ?_
        exact go_iret dX11_put_44 rfl (Nat.le_of_ble_eq_true rfl) (Nat.le_of_ble_eq_true rfl) (hQ9 ▸ ⟨rd_i (a := 0) (by simp [ptR, wkS, hOd, kjd, e8jd, eKjd, kRjd, c24, kji, eKjd]), rfl, Or.inr ⟨jd, bjd, arjd, Rjd, gjd, ji, hjd, rfl, e8jd, eRjd, hrjd, eKjd, hji, rfl, rfl⟩⟩)
      · have c24 := bz_f c24
        refine go_bipush (v := (-13)) dX11_put_27 rfl ?_
        exact go_iret dX11_put_29 rfl (Nat.le_of_ble_eq_true rfl) (Nat.le_of_ble_eq_true rfl) (hQ9 ▸ ⟨rd_i (a := (-13)) (by simp [ptR, wkS, hOd, kjd, e8jd, eKjd, kRjd, c24]), rfl, Or.inl ⟨rfl, by simp [ptR, wkS, hOd, kjd, e8jd, eKjd, kRjd, c24]⟩⟩)
  · refine go_aload_n dX11_put_0 rfl ?_
    refine go_iload_n dX11_put_1 rfl ?_
    refine go_Vr [.int d] [] dX11_put_2 vl_X11_45 ⟨by decide, by decide⟩ (e_X11_rowOn hX) hX.1 hX.2.1 hX.2.2.1 rfl rfl (Nat.le_of_ble_eq_true rfl) (Nat.le_of_ble_eq_true rfl) (Nat.le_of_ble_eq_true rfl) ?_
    refine go_tv (w := .null) (by rw [if_neg hOd]; rfl) ?_
    refine go_astoreN (ls' := [some (.ref x), some (.int d), some (.int i), some (.int v), some (.null)]) dX11_put_5 ⟨by decide, rfl, rfl⟩ ?_
    refine go_aloadN dX11_put_7 rfl ?_
    refine go_ifnonnullN dX11_put_9 ?_
    refine go_aload_n dX11_put_12 rfl ?_
    refine go_iload_n dX11_put_13 rfl ?_
    refine go_Vr [.int d] [] dX11_put_14 vl_X11_49 ⟨by decide, by decide⟩ (e_X11_whyNoRow hX hS) hX.1 hX.2.1 hX.2.2.1 rfl rfl (Nat.le_of_ble_eq_true rfl) (Nat.le_of_ble_eq_true rfl) (Nat.le_of_ble_eq_true rfl) ?_
    refine go_tp (z := (-1)) (if_neg hOd) ?_
    exact go_iret dX11_put_17 rfl (Nat.le_of_ble_eq_true rfl) (Nat.le_of_ble_eq_true rfl) (hQ9 ▸ ⟨rd_i (a := (-1)) (by simp [ptR, wkS, hOd]), rfl, Or.inl ⟨rfl, by simp [ptR, wkS, hOd]⟩⟩)
end D5
