/-! june -/
def cjuV (N M : Nat) (A : Nat → Nat → Int32) (g : Nat → Int32) (R : Nat) (what : Int32) : Int32 := if ¬ R = N ∨ ¬ fsB (ffP N M g) 0 R = -4 then -13 else if what = 0 then btB (fun p => decide (¬ A 4 p = g p)) N else if what = 2 then f2B (ctP A g (btB (fun p => decide (¬ A 4 p = g p)) N)) N 0 N else if f2B (ctP A g (btB (fun p => decide (¬ A 4 p = g p)) N)) N 0 N = -4 then 0 else 1
def juQ (G : GX) (f : Mem) (n N M : Nat) (A : Nat → Nat → Int32) (Rs : Nat → Option Nat) (d what : Int32) : RQ := fun r f1 n1 => f1 = f ∧ n1 = n ∧ ((¬ okr what 0 2 = true ∧ r = some (.int (-1))) ∨ (okr what 0 2 = true ∧ ((wkS (A 8) 2 d < 0 ∧ r = some (.int (wkS (A 8) 2 d))) ∨ ∃ jd b ar R g, jd ≤ 7 ∧ d = nI jd ∧ A 8 jd = 2 ∧ Rs jd = some b ∧ rowM G f n b ar R g (A 11 jd) ∧ A 12 jd = nI R ∧ r = some (.int (cjuV N M A g R what)))))
section D12
variable {G : GX} {m0 f : Mem} {x s i0 t w os rs n N M : Nat} {F : Nat → Int32} {W : Nat → Option Nat} {A : Nat → Nat → Int32} {B : Nat → Int32} {b : Int32} {Os Rs : Nat → Option Nat}
theorem jun_no {G : GX} {f : Mem} {n N M : Nat} {A : Nat → Nat → Int32} {Rs : Nat → Option Nat} {d what : Int32} (hd : ¬ okr d 0 7 = true) : (¬ okr what 0 2 = true ∧ (some (Value.int (-1)) : Option Value) = some (.int (-1))) ∨ (okr what 0 2 = true ∧ ((wkS (A 8) 2 d < 0 ∧ (some (Value.int (-1)) : Option Value) = some (.int (wkS (A 8) 2 d))) ∨ ∃ jd b ar R g, jd ≤ 7 ∧ d = nI jd ∧ A 8 jd = 2 ∧ Rs jd = some b ∧ rowM G f n b ar R g (A 11 jd) ∧ A 12 jd = nI R ∧ (some (Value.int (-1)) : Option Value) = some (.int (cjuV N M A g R what)))) := by
  by_cases c : okr what 0 2 = true
  · exact Or.inr ⟨c, Or.inl ⟨by rw [wk_no hd]; decide, by rw [wk_no hd]⟩⟩
  · exact Or.inl ⟨c, rfl⟩
set_option maxHeartbeats 4000000 in
set_option maxRecDepth 100000 in
theorem e_X11_june (hX : xsK G (sc G m0 s F W A B) x s i0 t w os rs n b Os Rs) (hS : ∀ d, d < 8 → shD G (sc G m0 s F W A B) n Os Rs A d) (hO : shO (sc G m0 s F W A B) s Os Rs) (hq : G.2.1 ≤ s) (hn : s + 8 ≤ n) (hN : F 0 = nI N) (hN8 : N ≤ 8) (hM : F 1 = nI M) (hM5 : M ≤ 5) {d what : Int32} : Ev G mX11_june 8 0 0 [.ref x, .int d, .int what] (sc G m0 s F W A B) n (juQ G (sc G m0 s F W A B) n N M A Rs d what) := by
  generalize hQ9 : (juQ G (sc G m0 s F W A B) n N M A Rs d what : RQ) = Q9
  refine ev_of (by decide) (Nat.le_of_ble_eq_true rfl) (ls := [some (.ref x), some (.int d), some (.int what), none, none, none]) rfl (fun hb => ?_)
  by_cases hOd : okr d 0 7 = true
  · obtain ⟨jd, hjd, rfl⟩ := okr_nI (k := 7) rfl (by omega) hOd
    have kjd : (nI jd).toNatClampNeg = jd := nI_clamp (by omega)
    rcases hS jd (by omega) with ⟨e8jd, eOjd, eRjd⟩ | ⟨e8jd, eRjd, ajd, eOjd, hojd⟩ | ⟨e8jd, eOjd, bjd, arjd, Rjd, gjd, eRjd, hrjd, eKjd⟩
    · refine go_iload_n dX11_june_0 rfl ?_
      refine go_Sr [.int (nI jd)] [] dX11_june_1 sl_X11_123 ⟨by decide, by decide⟩ e_X11_isShelf rfl rfl (Nat.le_of_ble_eq_true rfl) (Nat.le_of_ble_eq_true rfl) (Nat.le_of_ble_eq_true rfl) ?_
      refine go_tp (z := 1) (if_pos hOd) ?_
      refine go_if_eq dX11_june_4 (fun c4 => ?_) (fun c4 => ?_)
      · have c4n := (n0_eq (a := 1) (by omega)).mp c4
        first | exact absurd c4n (by decide) | exact absurd (by decide) c4n | exact absurd rfl c4n | omega
      · have c4n := mt (n0_eq (a := 1) (by omega)).mpr c4
        refine go_iload_n dX11_june_7 rfl ?_
        refine go_iconst (v := 0) dX11_june_8 rfl ?_
        refine go_iconst (v := 2) dX11_june_9 rfl ?_
        refine go_Sr [.int what, .int 0, .int 2] [] dX11_june_10 sl_X11_126 ⟨by decide, by decide⟩ (e_X11_isWithin) rfl rfl (Nat.le_of_ble_eq_true rfl) (Nat.le_of_ble_eq_true rfl) (Nat.le_of_ble_eq_true rfl) ?_
        refine go_if_ne dX11_june_13 (fun c13 => ?_) (fun c13 => ?_)
        · have c13 := bz_t c13
          refine go_aload_n dX11_june_18 rfl ?_
          refine go_iload_n dX11_june_19 rfl ?_
          refine go_Vr [.int (nI jd)] [] dX11_june_20 vl_X11_45 ⟨by decide, by decide⟩ (e_X11_rowOn hX) hX.1 hX.2.1 hX.2.2.1 rfl rfl (Nat.le_of_ble_eq_true rfl) (Nat.le_of_ble_eq_true rfl) (Nat.le_of_ble_eq_true rfl) ?_
          refine go_tv (w := .null) (by rw [if_pos hOd, nI_clamp (by omega), eRjd]; rfl) ?_
          refine go_astore_nN (ls' := [some (.ref x), some (.int (nI jd)), some (.int what), some (.null), none, none]) dX11_june_23 ⟨by decide, rfl, rfl⟩ ?_
          refine go_aload_nN dX11_june_24 rfl ?_
          refine go_ifnonnullN dX11_june_25 ?_
          refine go_aload_n dX11_june_28 rfl ?_
          refine go_iload_n dX11_june_29 rfl ?_
          refine go_Vr [.int (nI jd)] [] dX11_june_30 vl_X11_49 ⟨by decide, by decide⟩ (e_X11_whyNoRow hX hS) hX.1 hX.2.1 hX.2.2.1 rfl rfl (Nat.le_of_ble_eq_true rfl) (Nat.le_of_ble_eq_true rfl) (Nat.le_of_ble_eq_true rfl) ?_
          refine go_tp (z := (-11)) (by rw [if_pos hOd, nI_clamp (by omega), e8jd]; rfl) ?_
          exact go_iret dX11_june_33 rfl (Nat.le_of_ble_eq_true rfl) (Nat.le_of_ble_eq_true rfl) (hQ9 ▸ ⟨rfl, rfl, Or.inr ⟨c13, Or.inl ⟨by rw [wk_0 hOd hjd e8jd]; decide, by rw [wk_0 hOd hjd e8jd]⟩⟩⟩)
        · have c13 := bz_f c13
          refine go_iconst (v := (-1)) dX11_june_16 rfl ?_
          exact go_iret dX11_june_17 rfl (Nat.le_of_ble_eq_true rfl) (Nat.le_of_ble_eq_true rfl) (hQ9 ▸ ⟨rfl, rfl, Or.inl ⟨c13, rfl⟩⟩)
    · refine go_iload_n dX11_june_0 rfl ?_
      refine go_Sr [.int (nI jd)] [] dX11_june_1 sl_X11_123 ⟨by decide, by decide⟩ e_X11_isShelf rfl rfl (Nat.le_of_ble_eq_true rfl) (Nat.le_of_ble_eq_true rfl) (Nat.le_of_ble_eq_true rfl) ?_
      refine go_tp (z := 1) (if_pos hOd) ?_
      refine go_if_eq dX11_june_4 (fun c4 => ?_) (fun c4 => ?_)
      · have c4n := (n0_eq (a := 1) (by omega)).mp c4
        first | exact absurd c4n (by decide) | exact absurd (by decide) c4n | exact absurd rfl c4n | omega
      · have c4n := mt (n0_eq (a := 1) (by omega)).mpr c4
        refine go_iload_n dX11_june_7 rfl ?_
        refine go_iconst (v := 0) dX11_june_8 rfl ?_
        refine go_iconst (v := 2) dX11_june_9 rfl ?_
        refine go_Sr [.int what, .int 0, .int 2] [] dX11_june_10 sl_X11_126 ⟨by decide, by decide⟩ (e_X11_isWithin) rfl rfl (Nat.le_of_ble_eq_true rfl) (Nat.le_of_ble_eq_true rfl) (Nat.le_of_ble_eq_true rfl) ?_
        refine go_if_ne dX11_june_13 (fun c13 => ?_) (fun c13 => ?_)
        · have c13 := bz_t c13
          refine go_aload_n dX11_june_18 rfl ?_
          refine go_iload_n dX11_june_19 rfl ?_
          refine go_Vr [.int (nI jd)] [] dX11_june_20 vl_X11_45 ⟨by decide, by decide⟩ (e_X11_rowOn hX) hX.1 hX.2.1 hX.2.2.1 rfl rfl (Nat.le_of_ble_eq_true rfl) (Nat.le_of_ble_eq_true rfl) (Nat.le_of_ble_eq_true rfl) ?_
          refine go_tv (w := .null) (by rw [if_pos hOd, nI_clamp (by omega), eRjd]; rfl) ?_
          refine go_astore_nN (ls' := [some (.ref x), some (.int (nI jd)), some (.int what), some (.null), none, none]) dX11_june_23 ⟨by decide, rfl, rfl⟩ ?_
          refine go_aload_nN dX11_june_24 rfl ?_
          refine go_ifnonnullN dX11_june_25 ?_
          refine go_aload_n dX11_june_28 rfl ?_
          refine go_iload_n dX11_june_29 rfl ?_
          refine go_Vr [.int (nI jd)] [] dX11_june_30 vl_X11_49 ⟨by decide, by decide⟩ (e_X11_whyNoRow hX hS) hX.1 hX.2.1 hX.2.2.1 rfl rfl (Nat.le_of_ble_eq_true rfl) (Nat.le_of_ble_eq_true rfl) (Nat.le_of_ble_eq_true rfl) ?_
          refine go_tp (z := (-12)) (by rw [if_pos hOd, nI_clamp (by omega), e8jd]; rfl) ?_
          exact go_iret dX11_june_33 rfl (Nat.le_of_ble_eq_true rfl) (Nat.le_of_ble_eq_true rfl) (hQ9 ▸ ⟨rfl, rfl, Or.inr ⟨c13, Or.inl ⟨by rw [wk_x hOd hjd (by rw [e8jd]; decide) (by rw [e8jd]; decide)]; decide, by rw [wk_x hOd hjd (by rw [e8jd]; decide) (by rw [e8jd]; decide)]⟩⟩⟩)
        · have c13 := bz_f c13
          refine go_iconst (v := (-1)) dX11_june_16 rfl ?_
          exact go_iret dX11_june_17 rfl (Nat.le_of_ble_eq_true rfl) (Nat.le_of_ble_eq_true rfl) (hQ9 ▸ ⟨rfl, rfl, Or.inl ⟨c13, rfl⟩⟩)
    · refine go_iload_n dX11_june_0 rfl ?_
      refine go_Sr [.int (nI jd)] [] dX11_june_1 sl_X11_123 ⟨by decide, by decide⟩ e_X11_isShelf rfl rfl (Nat.le_of_ble_eq_true rfl) (Nat.le_of_ble_eq_true rfl) (Nat.le_of_ble_eq_true rfl) ?_
      refine go_tp (z := 1) (if_pos hOd) ?_
      refine go_if_eq dX11_june_4 (fun c4 => ?_) (fun c4 => ?_)
      · have c4n := (n0_eq (a := 1) (by omega)).mp c4
        first | exact absurd c4n (by decide) | exact absurd (by decide) c4n | exact absurd rfl c4n | omega
      · have c4n := mt (n0_eq (a := 1) (by omega)).mpr c4
        refine go_iload_n dX11_june_7 rfl ?_
        refine go_iconst (v := 0) dX11_june_8 rfl ?_
        refine go_iconst (v := 2) dX11_june_9 rfl ?_
        refine go_Sr [.int what, .int 0, .int 2] [] dX11_june_10 sl_X11_126 ⟨by decide, by decide⟩ (e_X11_isWithin) rfl rfl (Nat.le_of_ble_eq_true rfl) (Nat.le_of_ble_eq_true rfl) (Nat.le_of_ble_eq_true rfl) ?_
        refine go_if_ne dX11_june_13 (fun c13 => ?_) (fun c13 => ?_)
        · have c13 := bz_t c13
          refine go_aload_n dX11_june_18 rfl ?_
          refine go_iload_n dX11_june_19 rfl ?_
          refine go_Vr [.int (nI jd)] [] dX11_june_20 vl_X11_45 ⟨by decide, by decide⟩ (e_X11_rowOn hX) hX.1 hX.2.1 hX.2.2.1 rfl rfl (Nat.le_of_ble_eq_true rfl) (Nat.le_of_ble_eq_true rfl) (Nat.le_of_ble_eq_true rfl) ?_
          refine go_tv (w := .ref bjd) (by rw [if_pos hOd, nI_clamp (by omega), eRjd]; rfl) ?_
          refine go_astore_n (ls' := [some (.ref x), some (.int (nI jd)), some (.int what), some (.ref bjd), none, none]) dX11_june_23 ⟨by decide, rfl, rfl⟩ ?_
          refine go_aload_n dX11_june_24 rfl ?_
          refine go_ifnonnull dX11_june_25 ?_
          refine go_aload_n dX11_june_34 rfl ?_
          have hbn := hrjd.2.2.1
          have hRl := hrjd.2.2.2.2.2.2
          refine go_Vr [] [] dX11_june_35 vl_X11_65 ⟨by decide, by decide⟩ (e_X4_size hrjd.1 hrjd.2.1 hrjd.2.2.1 hrjd.2.2.2.1 hrjd.2.2.2.2.1 hrjd.2.2.2.2.2.1 hrjd.2.2.2.2.2.2) hrjd.1 hrjd.2.1 (by omega) rfl rfl (Nat.le_of_ble_eq_true rfl) (Nat.le_of_ble_eq_true rfl) (Nat.le_of_ble_eq_true rfl) ?_
          refine go_aload_n dX11_june_38 rfl ?_
          refine go_get dX11_june_39 fl_X11_10_11 hX.1 hX.2.1 hX.2.2.1 rfl ?_
          refine go_get dX11_june_42 fl_X11_258_5 sc_obj hq (by omega) rfl ?_
          refine go_tp (z := nI N) hN ?_
          refine go_icmp_ne dX11_june_45 (fun c45 => ?_) (fun c45 => ?_)
          · have c45n := mt (nI_eq (a := Rjd) (b := N) (by omega) (by omega)).mpr c45
            refine go_bipush (v := (-13)) dX11_june_61 rfl ?_
            exact go_iret dX11_june_63 rfl (Nat.le_of_ble_eq_true rfl) (Nat.le_of_ble_eq_true rfl) (hQ9 ▸ ⟨rfl, rfl, Or.inr ⟨c13, Or.inr ⟨jd, bjd, arjd, Rjd, gjd, hjd, rfl, e8jd, eRjd, hrjd, eKjd, rd_i (by unfold cjuV; rw [if_pos (Or.inl c45n)])⟩⟩⟩)
          · have c45n := (nI_eq (a := Rjd) (b := N) (by omega) (by omega)).mp c45
            refine go_aload_n dX11_june_48 rfl ?_
            refine go_get dX11_june_49 fl_X11_10_11 hX.1 hX.2.1 hX.2.2.1 rfl ?_
            refine go_aload_n dX11_june_52 rfl ?_
            have hbo := (hO.2 jd bjd eRjd).1
            have hao := (hO.2 jd bjd eRjd).2 _ _ hrjd.1
            refine go_Vr [.ref bjd] [] dX11_june_53 vl_X11_261 ⟨by decide, by decide⟩ (e_X5_firstForged (g := gjd) (R := Rjd) hq hn hN hN8 hM hM5 ((sc_out hbo).symm.trans hrjd.1) hbo hrjd.2.1 hrjd.2.2.1 ((sc_out hao).symm.trans hrjd.2.2.2.1) hao hrjd.2.2.2.2.1 hrjd.2.2.2.2.2.1 hrjd.2.2.2.2.2.2) sc_obj hq (by omega) rfl rfl (Nat.le_of_ble_eq_true rfl) (Nat.le_of_ble_eq_true rfl) (Nat.le_of_ble_eq_true rfl) ?_
            refine go_bipush (v := (-4)) dX11_june_56 rfl ?_
            refine go_icmp_eq dX11_june_58 (fun c58 => ?_) (fun c58 => ?_)
            · refine go_aload_n dX11_june_64 rfl ?_
              refine go_get dX11_june_65 fl_X11_10_11 hX.1 hX.2.1 hX.2.2.1 rfl ?_
              refine go_aload_n dX11_june_68 rfl ?_
              refine go_get dX11_june_69 fl_X11_264_4 hrjd.1 hrjd.2.1 hrjd.2.2.1 rfl ?_
              refine go_Vr [.ref arjd] [] dX11_june_72 vl_X11_214 ⟨by decide, by decide⟩ (e_X5_otherwiseThan (g := gjd) (R := Rjd) hq hn hN hN8 ((sc_out hao).symm.trans hrjd.2.2.2.1) hao hrjd.2.2.2.2.1 hrjd.2.2.2.2.2.1 hrjd.2.2.2.2.2.2 (by omega)) sc_obj hq (by omega) rfl rfl (Nat.le_of_ble_eq_true rfl) (Nat.le_of_ble_eq_true rfl) (Nat.le_of_ble_eq_true rfl) ?_
              refine go_istore (ls' := [some (.ref x), some (.int (nI jd)), some (.int what), some (.ref bjd), some (.int (btB (fun p => decide (¬ A 4 p = gjd p)) N)), none]) dX11_june_75 ⟨by decide, rfl, rfl⟩ ?_
              refine go_iload_n dX11_june_77 rfl ?_
              refine go_if_ne dX11_june_78 (fun c78 => ?_) (fun c78 => ?_)
              · refine go_aload_n dX11_june_84 rfl ?_
                refine go_get dX11_june_85 fl_X11_10_11 hX.1 hX.2.1 hX.2.2.1 rfl ?_
                refine go_aload_n dX11_june_88 rfl ?_
                refine go_get dX11_june_89 fl_X11_264_4 hrjd.1 hrjd.2.1 hrjd.2.2.1 rfl ?_
                refine go_iload dX11_june_92 rfl ?_
                refine go_Vr [.ref arjd, .int (btB (fun p => decide (¬ A 4 p = gjd p)) N)] [] dX11_june_94 vl_X11_267 ⟨by decide, by decide⟩ (e_X5_changeThatLeadsTo (g := gjd) (R := Rjd) hq hn hN hN8 ((sc_out hao).symm.trans hrjd.2.2.2.1) hao hrjd.2.2.2.2.1 hrjd.2.2.2.2.2.1 hrjd.2.2.2.2.2.2 (by omega)) sc_obj hq (by omega) rfl rfl (Nat.le_of_ble_eq_true rfl) (Nat.le_of_ble_eq_true rfl) (Nat.le_of_ble_eq_true rfl) ?_
                refine go_istore (ls' := [some (.ref x), some (.int (nI jd)), some (.int what), some (.ref bjd), some (.int (btB (fun p => decide (¬ A 4 p = gjd p)) N)), some (.int (f2B (ctP A gjd (btB (fun p => decide (¬ A 4 p = gjd p)) N)) N 0 N))]) dX11_june_97 ⟨by decide, rfl, rfl⟩ ?_
                refine go_iload_n dX11_june_99 rfl ?_
                refine go_iconst (v := 2) dX11_june_100 rfl ?_
                refine go_icmp_ne dX11_june_101 (fun c101 => ?_) (fun c101 => ?_)
                · refine go_iload dX11_june_107 rfl ?_
                  refine go_bipush (v := (-4)) dX11_june_109 rfl ?_
                  refine go_icmp_ne dX11_june_111 (fun c111 => ?_) (fun c111 => ?_)
                  · refine go_iconst (v := 1) dX11_june_118 rfl ?_
                    exact go_iret dX11_june_119 rfl (Nat.le_of_ble_eq_true rfl) (Nat.le_of_ble_eq_true rfl) (hQ9 ▸ ⟨rfl, rfl, Or.inr ⟨c13, Or.inr ⟨jd, bjd, arjd, Rjd, gjd, hjd, rfl, e8jd, eRjd, hrjd, eKjd, rd_i (by unfold cjuV; rw [if_neg (fun z => z.elim (fun y => y c45n) (fun y => y c58)), if_neg c78, if_neg c101, if_neg c111])⟩⟩⟩)
                  · refine go_iconst (v := 0) dX11_june_114 rfl ?_
                    refine go_goto dX11_june_115 ?_
                    exact go_iret dX11_june_119 rfl (Nat.le_of_ble_eq_true rfl) (Nat.le_of_ble_eq_true rfl) (hQ9 ▸ ⟨rfl, rfl, Or.inr ⟨c13, Or.inr ⟨jd, bjd, arjd, Rjd, gjd, hjd, rfl, e8jd, eRjd, hrjd, eKjd, rd_i (by unfold cjuV; rw [if_neg (fun z => z.elim (fun y => y c45n) (fun y => y c58)), if_neg c78, if_neg c101, if_pos c111])⟩⟩⟩)
                · subst c101
                  refine go_iload dX11_june_104 rfl ?_
                  exact go_iret dX11_june_106 rfl (Nat.le_of_ble_eq_true rfl) (Nat.le_of_ble_eq_true rfl) (hQ9 ▸ ⟨rfl, rfl, Or.inr ⟨c13, Or.inr ⟨jd, bjd, arjd, Rjd, gjd, hjd, rfl, e8jd, eRjd, hrjd, eKjd, rd_i (by unfold cjuV; rw [if_neg (fun z => z.elim (fun y => y c45n) (fun y => y c58)), if_neg (by decide), if_pos rfl])⟩⟩⟩)
              · subst c78
                refine go_iload dX11_june_81 rfl ?_
                exact go_iret dX11_june_83 rfl (Nat.le_of_ble_eq_true rfl) (Nat.le_of_ble_eq_true rfl) (hQ9 ▸ ⟨rfl, rfl, Or.inr ⟨c13, Or.inr ⟨jd, bjd, arjd, Rjd, gjd, hjd, rfl, e8jd, eRjd, hrjd, eKjd, rd_i (by unfold cjuV; rw [if_neg (fun z => z.elim (fun y => y c45n) (fun y => y c58)), if_pos rfl])⟩⟩⟩)
            · refine go_bipush (v := (-13)) dX11_june_61 rfl ?_
              exact go_iret dX11_june_63 rfl (Nat.le_of_ble_eq_true rfl) (Nat.le_of_ble_eq_true rfl) (hQ9 ▸ ⟨rfl, rfl, Or.inr ⟨c13, Or.inr ⟨jd, bjd, arjd, Rjd, gjd, hjd, rfl, e8jd, eRjd, hrjd, eKjd, rd_i (by unfold cjuV; rw [if_pos (Or.inr c58)])⟩⟩⟩)
        · have c13 := bz_f c13
          refine go_iconst (v := (-1)) dX11_june_16 rfl ?_
          exact go_iret dX11_june_17 rfl (Nat.le_of_ble_eq_true rfl) (Nat.le_of_ble_eq_true rfl) (hQ9 ▸ ⟨rfl, rfl, Or.inl ⟨c13, rfl⟩⟩)
  · refine go_iload_n dX11_june_0 rfl ?_
    refine go_Sr [.int d] [] dX11_june_1 sl_X11_123 ⟨by decide, by decide⟩ e_X11_isShelf rfl rfl (Nat.le_of_ble_eq_true rfl) (Nat.le_of_ble_eq_true rfl) (Nat.le_of_ble_eq_true rfl) ?_
    refine go_tp (z := 0) (if_neg hOd) ?_
    refine go_if_eq dX11_june_4 (fun c4 => ?_) (fun c4 => ?_)
    · have c4n := (n0_eq (a := 0) (by omega)).mp c4
      refine go_iconst (v := (-1)) dX11_june_16 rfl ?_
      exact go_iret dX11_june_17 rfl (Nat.le_of_ble_eq_true rfl) (Nat.le_of_ble_eq_true rfl) (hQ9 ▸ ⟨rfl, rfl, jun_no hOd⟩)
    · have c4n := mt (n0_eq (a := 0) (by omega)).mpr c4
      first | exact absurd c4n (by decide) | exact absurd (by decide) c4n | exact absurd rfl c4n | omega
end D12
