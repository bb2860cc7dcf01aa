/-! image, restore, gone -/
def cgoS (M : Nat) (A : Nat → Nat → Int32) (l y k part : Int32) : Int64 := if okp M l = true ∧ okr y 2 20 = true ∧ okr k 1 4 = true ∧ okr part 0 1 = true then pwL (if part = 0 then pwL y.toInt64 k.toNatClampNeg - pwL (y - 1).toInt64 k.toNatClampNeg else pwL y.toInt64 k.toNatClampNeg) (A 7 l.toNatClampNeg).toNatClampNeg else 1000000001
theorem okr14 {x : Int32} (h : okr x 1 4 = true) : ∃ j : Nat, j ≤ 4 ∧ x = nI j := by
  obtain ⟨h1, h2⟩ := of_decide_eq_true h
  exact okr_nI (k := 4) rfl (by omega) (decide_eq_true ⟨fun z => h1 (Int32.lt_trans z (by decide)), h2⟩)
section D13
variable {G : GX} {m0 f : Mem} {x s i0 t w os rs n N M : Nat} {F F2 : Nat → Int32} {W W2 : Nat → Option Nat} {A A2 : Nat → Nat → Int32} {B B2 : Nat → Int32} {b : Int32}
set_option maxHeartbeats 4000000 in
set_option maxRecDepth 100000 in
theorem e_X11_image (hX : m0 x = (ob 11 (xfs s i0 t w os rs b))) (hx1 : G.2.1 ≤ x) (hx2 : x < n) (hxs : x < s ∨ s + 8 ≤ x) (hxi : x < i0 ∨ i0 + 8 ≤ x) (hq : G.2.1 ≤ s) (hn : s + 8 ≤ n) (hqi : G.2.1 ≤ i0) (hni : i0 + 8 ≤ n) (hdj : s + 8 ≤ i0 ∨ i0 + 8 ≤ s) (hw2 : w2K G m0 s i0 n W A) : Ev G mX11_image 5 0 0 [.ref x] (sc G (sc G m0 s F W A B) i0 F2 W2 A2 B2) n (fun r f1 n1 => r = some (.int (F 2)) ∧ f1 = (sc G (sc G (va_up m0 x (ob 11 (xfs s i0 t w os rs 1))) s F W A B) i0 F W A B) ∧ n1 = n) := by
  generalize hQ9 : (fun r f1 n1 => r = some (.int (F 2)) ∧ f1 = (sc G (sc G (va_up m0 x (ob 11 (xfs s i0 t w os rs 1))) s F W A B) i0 F W A B) ∧ n1 = n : RQ) = Q9
  refine ev_of (by decide) (Nat.le_of_ble_eq_true rfl) (ls := [some (.ref x)]) rfl (fun hb => ?_)
  refine go_aload_n dX11_image_0 rfl ?_
  refine go_get dX11_image_1 fl_X11_16_11 ((sc_out hxi).trans ((sc_out hxs).trans hX)) hx1 hx2 rfl ?_
  refine go_aload_n dX11_image_4 rfl ?_
  refine go_get dX11_image_5 fl_X11_10_11 ((sc_out hxi).trans ((sc_out hxs).trans hX)) hx1 hx2 rfl ?_
  refine go_V [.ref s] [] dX11_image_8 vl_X11_61 ⟨by decide, by decide⟩ (e_X5_becomes2 (F := F2) (W := W2) (A := A2) (B := B2) hqi hni hq hn hdj hw2) sc_obj hqi (by omega) rfl rfl (Nat.le_of_ble_eq_true rfl) (Nat.le_of_ble_eq_true rfl) (Nat.le_of_ble_eq_true rfl) (fun r8 f8 n8 h8 => ?_)
  obtain ⟨rfl, rfl, hn8⟩ := h8
  subst n8
  refine go_aload_n dX11_image_11 rfl ?_
  refine go_iconst (v := 1) dX11_image_12 rfl ?_
  refine go_put dX11_image_13 fp_X11_41_11 (Or.inr (fun _ _ _ h => by cases h; rfl)) ((sc_out hxi).trans ((sc_out hxs).trans hX)) hx1 hx2 rfl rfl (Nat.le_of_ble_eq_true rfl) ?_
  refine go_mem (f' := (sc G (sc G (va_up m0 x (ob 11 (xfs s i0 t w os rs 1))) s F W A B) i0 F W A B)) (sc_upo hxi (sc_upo hxs rfl)) ?_
  refine go_aload_n dX11_image_16 rfl ?_
  refine go_get dX11_image_17 fl_X11_10_11 ((sc_out hxi).trans ((sc_out hxs).trans vup_at)) hx1 hx2 rfl ?_
  refine go_get dX11_image_20 fl_X11_284_5 ((sc_out (by omega)).trans sc_obj) hq (by omega) rfl ?_
  refine go_tp (z := F 2) rfl ?_
  exact go_iret dX11_image_23 rfl (Nat.le_of_ble_eq_true rfl) (Nat.le_of_ble_eq_true rfl) (hQ9 ▸ ⟨rfl, rfl, rfl⟩)
set_option maxHeartbeats 4000000 in
set_option maxRecDepth 100000 in
theorem e_X11_restore (hX : m0 x = (ob 11 (xfs s i0 t w os rs b))) (hx1 : G.2.1 ≤ x) (hx2 : x < n) (hxs : x < s ∨ s + 8 ≤ x) (hxi : x < i0 ∨ i0 + 8 ≤ x) (hq : G.2.1 ≤ s) (hn : s + 8 ≤ n) (hqi : G.2.1 ≤ i0) (hni : i0 + 8 ≤ n) (hdj : s + 8 ≤ i0 ∨ i0 + 8 ≤ s) (hw2 : w2K G m0 i0 s n W2 A2) : Ev G mX11_restore 5 0 0 [.ref x] (sc G (sc G m0 i0 F2 W2 A2 B2) s F W A B) n (fun r f1 n1 => r = some (.int (if b = 0 then -3 else F2 2)) ∧ f1 = (if b = 0 then (sc G (sc G m0 i0 F2 W2 A2 B2) s F W A B) else (sc G (sc G m0 i0 F2 W2 A2 B2) s F2 W2 A2 B2)) ∧ n1 = n) := by
  generalize hQ9 : (fun r f1 n1 => r = some (.int (if b = 0 then -3 else F2 2)) ∧ f1 = (if b = 0 then (sc G (sc G m0 i0 F2 W2 A2 B2) s F W A B) else (sc G (sc G m0 i0 F2 W2 A2 B2) s F2 W2 A2 B2)) ∧ n1 = n : RQ) = Q9
  refine ev_of (by decide) (Nat.le_of_ble_eq_true rfl) (ls := [some (.ref x)]) rfl (fun hb => ?_)
  refine go_aload_n dX11_restore_0 rfl ?_
  refine go_get dX11_restore_1 fl_X11_41_11 ((sc_out hxs).trans ((sc_out hxi).trans hX)) hx1 hx2 rfl ?_
  refine go_if_ne dX11_restore_4 (fun c4 => ?_) (fun c4 => ?_)
  · refine go_aload_n dX11_restore_10 rfl ?_
    refine go_get dX11_restore_11 fl_X11_10_11 ((sc_out hxs).trans ((sc_out hxi).trans hX)) hx1 hx2 rfl ?_
    refine go_aload_n dX11_restore_14 rfl ?_
    refine go_get dX11_restore_15 fl_X11_16_11 ((sc_out hxs).trans ((sc_out hxi).trans hX)) hx1 hx2 rfl ?_
    refine go_V [.ref i0] [] dX11_restore_18 vl_X11_61 ⟨by decide, by decide⟩ (e_X5_becomes2 (F := F) (W := W) (A := A) (B := B) hq hn hqi hni hdj.symm hw2) sc_obj hq (by omega) rfl rfl (Nat.le_of_ble_eq_true rfl) (Nat.le_of_ble_eq_true rfl) (Nat.le_of_ble_eq_true rfl) (fun r18 f18 n18 h18 => ?_)
    obtain ⟨rfl, rfl, hn18⟩ := h18
    subst n18
    refine go_aload_n dX11_restore_21 rfl ?_
    refine go_get dX11_restore_22 fl_X11_10_11 ((sc_out hxs).trans ((sc_out hxi).trans hX)) hx1 hx2 rfl ?_
    refine go_get dX11_restore_25 fl_X11_284_5 sc_obj hq (by omega) rfl ?_
    refine go_tp (z := F2 2) rfl ?_
    exact go_iret dX11_restore_28 rfl (Nat.le_of_ble_eq_true rfl) (Nat.le_of_ble_eq_true rfl) (hQ9 ▸ ⟨rd_i (by rw [if_neg c4]), by rw [if_neg c4], rfl⟩)
  · refine go_bipush (v := (-3)) dX11_restore_7 rfl ?_
    exact go_iret dX11_restore_9 rfl (Nat.le_of_ble_eq_true rfl) (Nat.le_of_ble_eq_true rfl) (hQ9 ▸ ⟨rd_i (by rw [if_pos c4]), by rw [if_pos c4], rfl⟩)
set_option maxHeartbeats 4000000 in
set_option maxRecDepth 100000 in
theorem e_X11_gone (hX : xoK G m0 x s i0 t w os rs n b) (hq : G.2.1 ≤ s) (hn : s + 8 ≤ n) (hM : F 1 = nI M) (hM5 : M ≤ 5) (hky : kyOK M (A 7)) {l yy kk pp : Int32} : Ev G mX11_gone 7 0 0 [.ref x, .int l, .int (yy), .int kk, .int (pp)] (sc G m0 s F W A B) n (RD (.long (cgoS M A l yy kk pp)) (sc G m0 s F W A B) n) := by
  generalize hQ9 : (RD (.long (cgoS M A l yy kk pp)) (sc G m0 s F W A B) n : RQ) = Q9
  refine ev_of (by decide) (Nat.le_of_ble_eq_true rfl) (ls := [some (.ref x), some (.int l), some (.int (yy)), some (.int kk), some (.int (pp)), none, none, none, none, none]) rfl (fun hb => ?_)
  refine go_aload_n dX11_gone_0 rfl ?_
  refine go_get dX11_gone_1 fl_X11_10_11 hX.at hX.2.1 hX.2.2.1 rfl ?_
  refine go_iload_n dX11_gone_4 rfl ?_
  refine go_Vr [.int l] [] dX11_gone_5 vl_X11_108 ⟨by decide, by decide⟩ (e_X5_hasLocker (F := F) (W := W) (A := A) (B := B) hq hn hM hM5) sc_obj hq (by omega) rfl rfl (Nat.le_of_ble_eq_true rfl) (Nat.le_of_ble_eq_true rfl) (Nat.le_of_ble_eq_true rfl) ?_
  refine go_if_eq dX11_gone_8 (fun c8 => ?_) (fun c8 => ?_)
  · have c8 := bz_f c8
    refine go_iconst (v := 0) dX11_gone_44 rfl ?_
    refine go_istore (ls' := [some (.ref x), some (.int l), some (.int (yy)), some (.int kk), some (.int (pp)), some (.int 0), none, none, none, none]) dX11_gone_45 ⟨by decide, rfl, rfl⟩ ?_
    refine go_iload dX11_gone_47 rfl ?_
    refine go_if_ne dX11_gone_49 (fun c49 => ?_) (fun c49 => ?_)
    · have c49n := mt (n0_eq (a := 0) (by omega)).mpr c49
      first | exact absurd c49n (by decide) | exact absurd (by decide) c49n | exact absurd rfl c49n | omega
    · have c49n := (n0_eq (a := 0) (by omega)).mp c49
      refine go_iconst (v := (-1)) dX11_gone_52 rfl ?_
      refine go_Sr [.int (-1)] [] dX11_gone_53 sl_X11_162 ⟨by decide, by decide⟩ (e_X11_toldAbove) rfl rfl (Nat.le_of_ble_eq_true rfl) (Nat.le_of_ble_eq_true rfl) (Nat.le_of_ble_eq_true rfl) ?_
      refine go_tp (z := 1000000001) (by decide) ?_
      refine go_i2l dX11_gone_56 ?_
      exact go_lret dX11_gone_57 rfl (Nat.le_of_ble_eq_true rfl) (Nat.le_of_ble_eq_true rfl) (hQ9 ▸ ⟨rd_l (by unfold cgoS; rw [if_neg (fun z => c8 z.1)]; rfl), rfl, rfl⟩)
  · have c8 := bz_t c8
    obtain ⟨jl, hjl, rfl⟩ := okp_nI c8 (by omega)
    have kjl : (nI jl).toNatClampNeg = jl := nI_clamp (by omega)
    refine go_iload_n dX11_gone_11 rfl ?_
    refine go_iconst (v := 2) dX11_gone_12 rfl ?_
    refine go_bipush (v := 20) dX11_gone_13 rfl ?_
    refine go_Sr [.int (yy), .int 2, .int 20] [] dX11_gone_15 sl_X11_126 ⟨by decide, by decide⟩ (e_X11_isWithin) rfl rfl (Nat.le_of_ble_eq_true rfl) (Nat.le_of_ble_eq_true rfl) (Nat.le_of_ble_eq_true rfl) ?_
    refine go_if_eq dX11_gone_18 (fun c18 => ?_) (fun c18 => ?_)
    · have c18 := bz_f c18
      refine go_iconst (v := 0) dX11_gone_44 rfl ?_
      refine go_istore (ls' := [some (.ref x), some (.int (nI jl)), some (.int (yy)), some (.int kk), some (.int (pp)), some (.int 0), none, none, none, none]) dX11_gone_45 ⟨by decide, rfl, rfl⟩ ?_
      refine go_iload dX11_gone_47 rfl ?_
      refine go_if_ne dX11_gone_49 (fun c49 => ?_) (fun c49 => ?_)
      · have c49n := mt (n0_eq (a := 0) (by omega)).mpr c49
        first | exact absurd c49n (by decide) | exact absurd (by decide) c49n | exact absurd rfl c49n | omega
      · have c49n := (n0_eq (a := 0) (by omega)).mp c49
        refine go_iconst (v := (-1)) dX11_gone_52 rfl ?_
        refine go_Sr [.int (-1)] [] dX11_gone_53 sl_X11_162 ⟨by decide, by decide⟩ (e_X11_toldAbove) rfl rfl (Nat.le_of_ble_eq_true rfl) (Nat.le_of_ble_eq_true rfl) (Nat.le_of_ble_eq_true rfl) ?_
        refine go_tp (z := 1000000001) (by decide) ?_
        refine go_i2l dX11_gone_56 ?_
        exact go_lret dX11_gone_57 rfl (Nat.le_of_ble_eq_true rfl) (Nat.le_of_ble_eq_true rfl) (hQ9 ▸ ⟨rd_l (by unfold cgoS; rw [if_neg (fun z => c18 z.2.1)]; rfl), rfl, rfl⟩)
    · have c18 := bz_t c18
      refine go_iload_n dX11_gone_21 rfl ?_
      refine go_iconst (v := 1) dX11_gone_22 rfl ?_
      refine go_iconst (v := 4) dX11_gone_23 rfl ?_
      refine go_Sr [.int kk, .int 1, .int 4] [] dX11_gone_24 sl_X11_126 ⟨by decide, by decide⟩ (e_X11_isWithin) rfl rfl (Nat.le_of_ble_eq_true rfl) (Nat.le_of_ble_eq_true rfl) (Nat.le_of_ble_eq_true rfl) ?_
      refine go_if_eq dX11_gone_27 (fun c27 => ?_) (fun c27 => ?_)
      · have c27 := bz_f c27
        refine go_iconst (v := 0) dX11_gone_44 rfl ?_
        refine go_istore (ls' := [some (.ref x), some (.int (nI jl)), some (.int (yy)), some (.int kk), some (.int (pp)), some (.int 0), none, none, none, none]) dX11_gone_45 ⟨by decide, rfl, rfl⟩ ?_
        refine go_iload dX11_gone_47 rfl ?_
        refine go_if_ne dX11_gone_49 (fun c49 => ?_) (fun c49 => ?_)
        · have c49n := mt (n0_eq (a := 0) (by omega)).mpr c49
          first | exact absurd c49n (by decide) | exact absurd (by decide) c49n | exact absurd rfl c49n | omega
        · have c49n := (n0_eq (a := 0) (by omega)).mp c49
          refine go_iconst (v := (-1)) dX11_gone_52 rfl ?_
          refine go_Sr [.int (-1)] [] dX11_gone_53 sl_X11_162 ⟨by decide, by decide⟩ (e_X11_toldAbove) rfl rfl (Nat.le_of_ble_eq_true rfl) (Nat.le_of_ble_eq_true rfl) (Nat.le_of_ble_eq_true rfl) ?_
          refine go_tp (z := 1000000001) (by decide) ?_
          refine go_i2l dX11_gone_56 ?_
          exact go_lret dX11_gone_57 rfl (Nat.le_of_ble_eq_true rfl) (Nat.le_of_ble_eq_true rfl) (hQ9 ▸ ⟨rd_l (by unfold cgoS; rw [if_neg (fun z => c27 z.2.2.1)]; rfl), rfl, rfl⟩)
      · have c27 := bz_t c27
        obtain ⟨jn, hjn, rfl⟩ := okr14 c27
        refine go_iload dX11_gone_30 rfl ?_
        refine go_iconst (v := 0) dX11_gone_32 rfl ?_
        refine go_iconst (v := 1) dX11_gone_33 rfl ?_
        refine go_Sr [.int (pp), .int 0, .int 1] [] dX11_gone_34 sl_X11_126 ⟨by decide, by decide⟩ (e_X11_isWithin) rfl rfl (Nat.le_of_ble_eq_true rfl) (Nat.le_of_ble_eq_true rfl) (Nat.le_of_ble_eq_true rfl) ?_
        refine go_if_eq dX11_gone_37 (fun c37 => ?_) (fun c37 => ?_)
        · have c37 := bz_f c37
          refine go_iconst (v := 0) dX11_gone_44 rfl ?_
          refine go_istore (ls' := [some (.ref x), some (.int (nI jl)), some (.int (yy)), some (.int (nI jn)), some (.int (pp)), some (.int 0), none, none, none, none]) dX11_gone_45 ⟨by decide, rfl, rfl⟩ ?_
          refine go_iload dX11_gone_47 rfl ?_
          refine go_if_ne dX11_gone_49 (fun c49 => ?_) (fun c49 => ?_)
          · have c49n := mt (n0_eq (a := 0) (by omega)).mpr c49
            first | exact absurd c49n (by decide) | exact absurd (by decide) c49n | exact absurd rfl c49n | omega
          · have c49n := (n0_eq (a := 0) (by omega)).mp c49
            refine go_iconst (v := (-1)) dX11_gone_52 rfl ?_
            refine go_Sr [.int (-1)] [] dX11_gone_53 sl_X11_162 ⟨by decide, by decide⟩ (e_X11_toldAbove) rfl rfl (Nat.le_of_ble_eq_true rfl) (Nat.le_of_ble_eq_true rfl) (Nat.le_of_ble_eq_true rfl) ?_
            refine go_tp (z := 1000000001) (by decide) ?_
            refine go_i2l dX11_gone_56 ?_
            exact go_lret dX11_gone_57 rfl (Nat.le_of_ble_eq_true rfl) (Nat.le_of_ble_eq_true rfl) (hQ9 ▸ ⟨rd_l (by unfold cgoS; rw [if_neg (fun z => c37 z.2.2.2)]; rfl), rfl, rfl⟩)
        · have c37 := bz_t c37
          refine go_iconst (v := 1) dX11_gone_40 rfl ?_
          refine go_goto dX11_gone_41 ?_
          refine go_istore (ls' := [some (.ref x), some (.int (nI jl)), some (.int (yy)), some (.int (nI jn)), some (.int (pp)), some (.int 1), none, none, none, none]) dX11_gone_45 ⟨by decide, rfl, rfl⟩ ?_
          refine go_iload dX11_gone_47 rfl ?_
          refine go_if_ne dX11_gone_49 (fun c49 => ?_) (fun c49 => ?_)
          · have c49n := mt (n0_eq (a := 1) (by omega)).mpr c49
            obtain ⟨ky, hky3, eky⟩ := hky jl hjl
            refine go_iload_n dX11_gone_58 rfl ?_
            refine go_i2l dX11_gone_59 ?_
            refine go_iload_n dX11_gone_60 rfl ?_
            refine go_Sr [.long ((yy)).toInt64, .int (nI jn)] [] dX11_gone_61 sl_X11_241 ⟨by decide, by decide⟩ (e_X11_power (by omega)) rfl rfl (Nat.le_of_ble_eq_true rfl) (Nat.le_of_ble_eq_true rfl) (Nat.le_of_ble_eq_true rfl) ?_
            refine go_lstore (ls' := [some (.ref x), some (.int (nI jl)), some (.int (yy)), some (.int (nI jn)), some (.int (pp)), some (.int 1), some (.long (pwL (((yy)).toInt64) jn)), none, none, none]) dX11_gone_64 ⟨by decide, rfl, rfl⟩ ?_
            refine go_lload dX11_gone_66 rfl ?_
            refine go_iload_n dX11_gone_68 rfl ?_
            refine go_iconst (v := 1) dX11_gone_69 rfl ?_
            refine go_isub dX11_gone_70 ?_
            refine go_i2l dX11_gone_71 ?_
            refine go_iload_n dX11_gone_72 rfl ?_
            refine go_Sr [.long (((yy) - 1).toInt64), .int (nI jn)] [.long (pwL (((yy)).toInt64) jn)] dX11_gone_73 sl_X11_241 ⟨by decide, by decide⟩ (e_X11_power (by omega)) rfl rfl (Nat.le_of_ble_eq_true rfl) (Nat.le_of_ble_eq_true rfl) (Nat.le_of_ble_eq_true rfl) ?_
            refine go_lsub dX11_gone_76 ?_
            refine go_lstore (ls' := [some (.ref x), some (.int (nI jl)), some (.int (yy)), some (.int (nI jn)), some (.int (pp)), some (.int 1), some (.long (pwL (((yy)).toInt64) jn)), none, some (.long ((pwL (((yy)).toInt64) jn) - (pwL (((yy) - 1).toInt64) jn))), none]) dX11_gone_77 ⟨by decide, rfl, rfl⟩ ?_
            refine go_iload dX11_gone_79 rfl ?_
            refine go_if_ne dX11_gone_81 (fun c81 => ?_) (fun c81 => ?_)
            · refine go_lload dX11_gone_89 rfl ?_
              refine go_aload_n dX11_gone_91 rfl ?_
              refine go_get dX11_gone_92 fl_X11_10_11 hX.at hX.2.1 hX.2.2.1 rfl ?_
              refine go_get dX11_gone_95 fl_X11_117_5 sc_obj hq (by omega) rfl ?_
              refine go_iload_n dX11_gone_98 rfl ?_
              refine go_iald dX11_gone_99 sc_7 (by omega) (by omega) (vp_in_nI (n := jl) (by show jl < 5; omega) (by decide)) ?_
              refine go_tp (z := A 7 jl) (by rw [nI_clamp (by omega)]) ?_
              refine go_tp (z := nI ky) (eky) ?_
              refine go_Sr [.long (pwL (((yy)).toInt64) jn), .int (nI ky)] [] dX11_gone_100 sl_X11_241 ⟨by decide, by decide⟩ (e_X11_power (by omega)) rfl rfl (Nat.le_of_ble_eq_true rfl) (Nat.le_of_ble_eq_true rfl) (Nat.le_of_ble_eq_true rfl) ?_
              exact go_lret dX11_gone_103 rfl (Nat.le_of_ble_eq_true rfl) (Nat.le_of_ble_eq_true rfl) (hQ9 ▸ ⟨rd_l (by unfold cgoS; rw [if_pos ⟨c8, c18, c27, c37⟩, kjl, eky, nI_clamp (n := ky) (by omega), nI_clamp (n := jn) (by omega)]; first | rw [if_pos c81] | rw [if_neg c81] | simp [c81] | rfl), rfl, rfl⟩)
            · refine go_lload dX11_gone_84 rfl ?_
              refine go_goto dX11_gone_86 ?_
              refine go_aload_n dX11_gone_91 rfl ?_
              refine go_get dX11_gone_92 fl_X11_10_11 hX.at hX.2.1 hX.2.2.1 rfl ?_
              refine go_get dX11_gone_95 fl_X11_117_5 sc_obj hq (by omega) rfl ?_
              refine go_iload_n dX11_gone_98 rfl ?_
              refine go_iald dX11_gone_99 sc_7 (by omega) (by omega) (vp_in_nI (n := jl) (by show jl < 5; omega) (by decide)) ?_
              refine go_tp (z := A 7 jl) (by rw [nI_clamp (by omega)]) ?_
              refine go_tp (z := nI ky) (eky) ?_
              refine go_Sr [.long ((pwL (((yy)).toInt64) jn) - (pwL (((yy) - 1).toInt64) jn)), .int (nI ky)] [] dX11_gone_100 sl_X11_241 ⟨by decide, by decide⟩ (e_X11_power (by omega)) rfl rfl (Nat.le_of_ble_eq_true rfl) (Nat.le_of_ble_eq_true rfl) (Nat.le_of_ble_eq_true rfl) ?_
              exact go_lret dX11_gone_103 rfl (Nat.le_of_ble_eq_true rfl) (Nat.le_of_ble_eq_true rfl) (hQ9 ▸ ⟨rd_l (by unfold cgoS; rw [if_pos ⟨c8, c18, c27, c37⟩, kjl, eky, nI_clamp (n := ky) (by omega), nI_clamp (n := jn) (by omega)]; first | rw [if_pos c81] | rw [if_neg c81] | simp [c81] | rfl), rfl, rfl⟩)
          · have c49n := (n0_eq (a := 1) (by omega)).mp c49
            first | exact absurd c49n (by decide) | exact absurd (by decide) c49n | exact absurd rfl c49n | omega
end D13
