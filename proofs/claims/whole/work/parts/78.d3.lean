/-! shelves -/
theorem go_oald3 {G : GX} {y : MD} {d mc ms : Nat} {Q : RQ} {kc ks pc pc2 : Nat} {ls : List (Option Value)} {st : List Value} {f : Mem} {n : Nat} {a len : Nat} {g : Nat → Option Nat} {i : Int32} (hd : gd y pc .aaload 1 pc2) (he : f a = oa G 3 len g) (h1 : G.2.1 ≤ a) (h2 : a < n) (hin : vp_in i len) (kk : Go G y d mc ms Q kc ks pc2 ls (va_rf (g i.toNatClampNeg) :: st) f n) : Go G y d mc ms Q kc ks pc ls (.int i :: .ref a :: st) f n := by
  obtain ⟨hd, rfl⟩ := hd
  intro p e s m args below meth c C H locs la hP hS hl
  exact va_aldq C.1 C.2.1 C.2.2.2.2.2.2.2.2.1.1 (hP.2.2.ar he h1 h2) 0 3 rfl rfl hin hd (kk p e s m args below meth c C H locs la hP hS hl)
theorem vup2 {f : Mem} {a : Nat} {e e2 : va_E} : va_up (va_up f a e) a e2 = va_up f a e2 := by
  funext x
  unfold va_up
  by_cases h : x = a
  · rw [if_pos h, if_pos h]
  · rw [if_neg h, if_neg h, if_neg h]
theorem vup_at {f : Mem} {a : Nat} {e : va_E} : va_up f a e a = e := by
  unfold va_up
  rw [if_pos rfl]
theorem vup_ne {f : Mem} {a b : Nat} {e : va_E} (h : b ≠ a) : va_up f a e b = f b := by
  unfold va_up
  rw [if_neg h]
theorem okr7_no {k : Int32} (h0 : ¬ k = 0) (h1 : ¬ k = 1) (h2 : ¬ k = 2) (h3 : ¬ k = 3) (h4 : ¬ k = 4) (h5 : ¬ k = 5) (h6 : ¬ k = 6) (h7 : ¬ k = 7) : ¬ okr k 0 7 = true := fun h => by
  obtain ⟨j, hj, rfl⟩ := okr_nI (k := 7) rfl (by omega) h
  have : j = 0 ∨ j = 1 ∨ j = 2 ∨ j = 3 ∨ j = 4 ∨ j = 5 ∨ j = 6 ∨ j = 7 := by omega
  rcases this with rfl | rfl | rfl | rfl | rfl | rfl | rfl | rfl
  · exact h0 rfl
  · exact h1 rfl
  · exact h2 rfl
  · exact h3 rfl
  · exact h4 rfl
  · exact h5 rfl
  · exact h6 rfl
  · exact h7 rfl
/-- one of that kind with that figure, new, or none -/
def ofQ (f : Mem) (n : Nat) (k g : Int32) : RQ := fun r f1 n1 => (¬ (okr g 0 9 = true ∧ okr k 0 7 = true) ∧ r = some .null ∧ f1 = f ∧ n1 = n) ∨ (∃ kk gg, kk < 8 ∧ gg < 10 ∧ k = nI kk ∧ g = nI gg ∧ r = some (.ref n) ∧ f1 = va_up f n (ob (oneCi kk) [.int (nI gg)]) ∧ n1 = n + 1)
/-- a row in memory -/
def rowM (G : GX) (f : Mem) (n b ar R : Nat) (g : Nat → Int32) (so : Int32) : Prop := f b = ob 4 [.int so, .ref ar] ∧ G.2.1 ≤ b ∧ b < n ∧ f ar = ia G R g ∧ G.2.1 ≤ ar ∧ ar < n ∧ R ≤ 100
/-- what lies on a shelf -/
def shD (G : GX) (f : Mem) (n : Nat) (Os Rs : Nat → Option Nat) (A : Nat → Nat → Int32) (d : Nat) : Prop := (A 8 d = 0 ∧ Os d = none ∧ Rs d = none) ∨ (A 8 d = 1 ∧ Rs d = none ∧ ∃ a, Os d = some a ∧ oneM G f n a (A 9 d) (A 10 d)) ∨ (A 8 d = 2 ∧ Os d = none ∧ ∃ b ar R g, Rs d = some b ∧ rowM G f n b ar R g (A 11 d) ∧ A 12 d = nI R)
/-- the object, its shelves -/
def xsK (G : GX) (f : Mem) (x s i t w os rs n : Nat) (b : Int32) (Os Rs : Nat → Option Nat) : Prop := f x = ob 11 (xfs s i t w os rs b) ∧ G.2.1 ≤ x ∧ x < n ∧ f os = oa G 2 8 Os ∧ G.2.1 ≤ os ∧ os < n ∧ f rs = oa G 3 8 Rs ∧ G.2.1 ≤ rs ∧ rs < n ∧ x ≠ os ∧ x ≠ rs ∧ os ≠ rs
section D3
variable {G : GX} {f : Mem} {x s i0 t w os rs n : Nat} {b : Int32} {Os Rs : Nat → Option Nat} {A : Nat → Nat → Int32} {L : Nat → Nat → Int64}
set_option maxHeartbeats 4000000 in
set_option maxRecDepth 100000 in
theorem e_X11_oneOf {k d : Int32} : Ev G mX11_oneOf 6 1 1 [.int k, .int d] f n (ofQ f n k d) := by
  generalize hQ9 : (ofQ f n k d : RQ) = Q9
  refine ev_of (by decide) (Nat.le_of_ble_eq_true rfl) (ls := [some (.int k), some (.int d)]) rfl (fun hb => ?_)
  refine go_iload_n dX11_oneOf_0 rfl ?_
  refine go_iconst (v := 0) dX11_oneOf_1 rfl ?_
  refine go_bipush (v := 9) dX11_oneOf_2 rfl ?_
  refine go_Sr [.int d, .int 0, .int 9] [] dX11_oneOf_4 sl_X11_126 ⟨by decide, by decide⟩ (e_X11_isWithin) rfl rfl (Nat.le_of_ble_eq_true rfl) (Nat.le_of_ble_eq_true rfl) (Nat.le_of_ble_eq_true rfl) ?_
  refine go_if_ne dX11_oneOf_7 (fun c7 => ?_) (fun c7 => ?_)
  · have c7 := bz_t c7
    obtain ⟨jd, hjd, rfl⟩ := okr_nI (k := 9) rfl (by omega) c7
    have kjd : (nI jd).toNatClampNeg = jd := nI_clamp (by omega)
    refine go_iload_n dX11_oneOf_12 rfl ?_
    by_cases e13_0 : (k : Int32) = 0
    · refine go_tp e13_0 ?_
      refine go_tableIn (off := 47) (tgt := 60) dX11_oneOf_13 (by decide) (by decide) (by decide) (by decide) ?_
      refine go_new (fs := [.int 0]) dX11_oneOf_60 (ci := 3) rfl iw_3 tyX3_ok wm_131 wm_39 wm_3 (ty1 rfl) (Nat.le_of_ble_eq_true rfl) (Nat.le_of_ble_eq_true rfl) ?_
      refine go_dup dX11_oneOf_63 rfl ?_
      refine go_iload_n dX11_oneOf_64 rfl ?_
      refine go_I [.int (nI jd)] [.ref n] dX11_oneOf_65 il_X11_363 ⟨by omega, by decide⟩ (e_X3_init (ci := 3) vup_at fp_X3_7_3 (by omega) (by omega)) rfl rfl (Nat.le_of_ble_eq_true rfl) (Nat.le_of_ble_eq_true rfl) (Nat.le_of_ble_eq_true rfl) (fun r1 f1 n1 h1 => ?_)
      obtain ⟨rfl, rfl, rfl⟩ := h1
      refine go_mem (f' := (va_up f n (ob 3 [.int (nI jd)]))) vup2 ?_
      exact go_aret dX11_oneOf_68 rfl (Or.inr ⟨_, rfl⟩) (Nat.le_of_ble_eq_true rfl) (Nat.le_of_ble_eq_true rfl) (hQ9 ▸ Or.inr ⟨0, jd, by decide, by omega, e13_0, rfl, rfl, rfl, rfl⟩)
    · by_cases e13_1 : (k : Int32) = 1
      · refine go_tp e13_1 ?_
        refine go_tableIn (off := 56) (tgt := 69) dX11_oneOf_13 (by decide) (by decide) (by decide) (by decide) ?_
        refine go_new (fs := [.int 0]) dX11_oneOf_69 (ci := 10) rfl iw_10 tyX10_ok wm_214 wm_215 wm_7 (ty1 rfl) (Nat.le_of_ble_eq_true rfl) (Nat.le_of_ble_eq_true rfl) ?_
        refine go_dup dX11_oneOf_72 rfl ?_
        refine go_iload_n dX11_oneOf_73 rfl ?_
        refine go_I [.int (nI jd)] [.ref n] dX11_oneOf_74 il_X11_368 ⟨by omega, by decide⟩ (e_X10_init (ci := 10) vup_at fp_X3_7_10 (by omega) (by omega)) rfl rfl (Nat.le_of_ble_eq_true rfl) (Nat.le_of_ble_eq_true rfl) (Nat.le_of_ble_eq_true rfl) (fun r1 f1 n1 h1 => ?_)
        obtain ⟨rfl, rfl, rfl⟩ := h1
        refine go_mem (f' := (va_up f n (ob 10 [.int (nI jd)]))) vup2 ?_
        exact go_aret dX11_oneOf_77 rfl (Or.inr ⟨_, rfl⟩) (Nat.le_of_ble_eq_true rfl) (Nat.le_of_ble_eq_true rfl) (hQ9 ▸ Or.inr ⟨1, jd, by decide, by omega, e13_1, rfl, rfl, rfl, rfl⟩)
      · by_cases e13_2 : (k : Int32) = 2
        · refine go_tp e13_2 ?_
          refine go_tableIn (off := 65) (tgt := 78) dX11_oneOf_13 (by decide) (by decide) (by decide) (by decide) ?_
          refine go_new (fs := [.int 0]) dX11_oneOf_78 (ci := 8) rfl iw_8 tyX8_ok wm_222 wm_223 wm_8 (ty1 rfl) (Nat.le_of_ble_eq_true rfl) (Nat.le_of_ble_eq_true rfl) ?_
          refine go_dup dX11_oneOf_81 rfl ?_
          refine go_iload_n dX11_oneOf_82 rfl ?_
          refine go_I [.int (nI jd)] [.ref n] dX11_oneOf_83 il_X11_371 ⟨by omega, by decide⟩ (e_X8_init (ci := 8) vup_at fp_X3_7_8 (by omega) (by omega)) rfl rfl (Nat.le_of_ble_eq_true rfl) (Nat.le_of_ble_eq_true rfl) (Nat.le_of_ble_eq_true rfl) (fun r1 f1 n1 h1 => ?_)
          obtain ⟨rfl, rfl, rfl⟩ := h1
          refine go_mem (f' := (va_up f n (ob 8 [.int (nI jd)]))) vup2 ?_
          exact go_aret dX11_oneOf_86 rfl (Or.inr ⟨_, rfl⟩) (Nat.le_of_ble_eq_true rfl) (Nat.le_of_ble_eq_true rfl) (hQ9 ▸ Or.inr ⟨2, jd, by decide, by omega, e13_2, rfl, rfl, rfl, rfl⟩)
        · by_cases e13_3 : (k : Int32) = 3
          · refine go_tp e13_3 ?_
            refine go_tableIn (off := 74) (tgt := 87) dX11_oneOf_13 (by decide) (by decide) (by decide) (by decide) ?_
            refine go_new (fs := [.int 0]) dX11_oneOf_87 (ci := 7) rfl iw_7 tyX7_ok wm_230 wm_231 wm_9 (ty1 rfl) (Nat.le_of_ble_eq_true rfl) (Nat.le_of_ble_eq_true rfl) ?_
            refine go_dup dX11_oneOf_90 rfl ?_
            refine go_iload_n dX11_oneOf_91 rfl ?_
            refine go_I [.int (nI jd)] [.ref n] dX11_oneOf_92 il_X11_374 ⟨by omega, by decide⟩ (e_X7_init (ci := 7) vup_at fp_X3_7_7 (by omega) (by omega)) rfl rfl (Nat.le_of_ble_eq_true rfl) (Nat.le_of_ble_eq_true rfl) (Nat.le_of_ble_eq_true rfl) (fun r1 f1 n1 h1 => ?_)
            obtain ⟨rfl, rfl, rfl⟩ := h1
            refine go_mem (f' := (va_up f n (ob 7 [.int (nI jd)]))) vup2 ?_
            exact go_aret dX11_oneOf_95 rfl (Or.inr ⟨_, rfl⟩) (Nat.le_of_ble_eq_true rfl) (Nat.le_of_ble_eq_true rfl) (hQ9 ▸ Or.inr ⟨3, jd, by decide, by omega, e13_3, rfl, rfl, rfl, rfl⟩)
          · by_cases e13_4 : (k : Int32) = 4
            · refine go_tp e13_4 ?_
              refine go_tableIn (off := 83) (tgt := 96) dX11_oneOf_13 (by decide) (by decide) (by decide) (by decide) ?_
              refine go_new (fs := [.int 0]) dX11_oneOf_96 (ci := 0) rfl iw_0 tyX0_ok wm_238 wm_239 wm_10 (ty1 rfl) (Nat.le_of_ble_eq_true rfl) (Nat.le_of_ble_eq_true rfl) ?_
              refine go_dup dX11_oneOf_99 rfl ?_
              refine go_iload_n dX11_oneOf_100 rfl ?_
              refine go_I [.int (nI jd)] [.ref n] dX11_oneOf_101 il_X11_377 ⟨by omega, by decide⟩ (e_X0_init (ci := 0) vup_at fp_X3_7_0 (by omega) (by omega)) rfl rfl (Nat.le_of_ble_eq_true rfl) (Nat.le_of_ble_eq_true rfl) (Nat.le_of_ble_eq_true rfl) (fun r1 f1 n1 h1 => ?_)
              obtain ⟨rfl, rfl, rfl⟩ := h1
              refine go_mem (f' := (va_up f n (ob 0 [.int (nI jd)]))) vup2 ?_
              exact go_aret dX11_oneOf_104 rfl (Or.inr ⟨_, rfl⟩) (Nat.le_of_ble_eq_true rfl) (Nat.le_of_ble_eq_true rfl) (hQ9 ▸ Or.inr ⟨4, jd, by decide, by omega, e13_4, rfl, rfl, rfl, rfl⟩)
            · by_cases e13_5 : (k : Int32) = 5
              · refine go_tp e13_5 ?_
                refine go_tableIn (off := 92) (tgt := 105) dX11_oneOf_13 (by decide) (by decide) (by decide) (by decide) ?_
                refine go_new (fs := [.int 0]) dX11_oneOf_105 (ci := 6) rfl iw_6 tyX6_ok wm_246 wm_247 wm_11 (ty1 rfl) (Nat.le_of_ble_eq_true rfl) (Nat.le_of_ble_eq_true rfl) ?_
                refine go_dup dX11_oneOf_108 rfl ?_
                refine go_iload_n dX11_oneOf_109 rfl ?_
                refine go_I [.int (nI jd)] [.ref n] dX11_oneOf_110 il_X11_380 ⟨by omega, by decide⟩ (e_X6_init (ci := 6) vup_at fp_X3_7_6 (by omega) (by omega)) rfl rfl (Nat.le_of_ble_eq_true rfl) (Nat.le_of_ble_eq_true rfl) (Nat.le_of_ble_eq_true rfl) (fun r1 f1 n1 h1 => ?_)
                obtain ⟨rfl, rfl, rfl⟩ := h1
                refine go_mem (f' := (va_up f n (ob 6 [.int (nI jd)]))) vup2 ?_
                exact go_aret dX11_oneOf_113 rfl (Or.inr ⟨_, rfl⟩) (Nat.le_of_ble_eq_true rfl) (Nat.le_of_ble_eq_true rfl) (hQ9 ▸ Or.inr ⟨5, jd, by decide, by omega, e13_5, rfl, rfl, rfl, rfl⟩)
              · by_cases e13_6 : (k : Int32) = 6
                · refine go_tp e13_6 ?_
                  refine go_tableIn (off := 101) (tgt := 114) dX11_oneOf_13 (by decide) (by decide) (by decide) (by decide) ?_
                  refine go_new (fs := [.int 0]) dX11_oneOf_114 (ci := 2) rfl iw_2 tyX2_ok wm_254 wm_255 wm_12 (ty1 rfl) (Nat.le_of_ble_eq_true rfl) (Nat.le_of_ble_eq_true rfl) ?_
                  refine go_dup dX11_oneOf_117 rfl ?_
                  refine go_iload_n dX11_oneOf_118 rfl ?_
                  refine go_I [.int (nI jd)] [.ref n] dX11_oneOf_119 il_X11_383 ⟨by omega, by decide⟩ (e_X2_init (ci := 2) vup_at fp_X3_7_2 (by omega) (by omega)) rfl rfl (Nat.le_of_ble_eq_true rfl) (Nat.le_of_ble_eq_true rfl) (Nat.le_of_ble_eq_true rfl) (fun r1 f1 n1 h1 => ?_)
                  obtain ⟨rfl, rfl, rfl⟩ := h1
                  refine go_mem (f' := (va_up f n (ob 2 [.int (nI jd)]))) vup2 ?_
                  exact go_aret dX11_oneOf_122 rfl (Or.inr ⟨_, rfl⟩) (Nat.le_of_ble_eq_true rfl) (Nat.le_of_ble_eq_true rfl) (hQ9 ▸ Or.inr ⟨6, jd, by decide, by omega, e13_6, rfl, rfl, rfl, rfl⟩)
                · by_cases e13_7 : (k : Int32) = 7
                  · refine go_tp e13_7 ?_
                    refine go_tableIn (off := 110) (tgt := 123) dX11_oneOf_13 (by decide) (by decide) (by decide) (by decide) ?_
                    refine go_new (fs := [.int 0]) dX11_oneOf_123 (ci := 1) rfl iw_1 tyX1_ok wm_262 wm_263 wm_13 (ty1 rfl) (Nat.le_of_ble_eq_true rfl) (Nat.le_of_ble_eq_true rfl) ?_
                    refine go_dup dX11_oneOf_126 rfl ?_
                    refine go_iload_n dX11_oneOf_127 rfl ?_
                    refine go_I [.int (nI jd)] [.ref n] dX11_oneOf_128 il_X11_386 ⟨by omega, by decide⟩ (e_X1_init (ci := 1) vup_at fp_X3_7_1 (by omega) (by omega)) rfl rfl (Nat.le_of_ble_eq_true rfl) (Nat.le_of_ble_eq_true rfl) (Nat.le_of_ble_eq_true rfl) (fun r1 f1 n1 h1 => ?_)
                    obtain ⟨rfl, rfl, rfl⟩ := h1
                    refine go_mem (f' := (va_up f n (ob 1 [.int (nI jd)]))) vup2 ?_
                    exact go_aret dX11_oneOf_131 rfl (Or.inr ⟨_, rfl⟩) (Nat.le_of_ble_eq_true rfl) (Nat.le_of_ble_eq_true rfl) (hQ9 ▸ Or.inr ⟨7, jd, by decide, by omega, e13_7, rfl, rfl, rfl, rfl⟩)
                  · refine go_tableOut dX11_oneOf_13 (tgt := 132) (by have := i32_ne (v := 0) (k := 0) rfl e13_0; have := i32_ne (v := 1) (k := 1) rfl e13_1; have := i32_ne (v := 2) (k := 2) rfl e13_2; have := i32_ne (v := 3) (k := 3) rfl e13_3; have := i32_ne (v := 4) (k := 4) rfl e13_4; have := i32_ne (v := 5) (k := 5) rfl e13_5; have := i32_ne (v := 6) (k := 6) rfl e13_6; have := i32_ne (v := 7) (k := 7) rfl e13_7; omega) (by decide) ?_
                    refine go_null dX11_oneOf_132 ?_
                    exact go_aret dX11_oneOf_133 rfl (Or.inl rfl) (Nat.le_of_ble_eq_true rfl) (Nat.le_of_ble_eq_true rfl) (hQ9 ▸ Or.inl ⟨fun z => okr7_no e13_0 e13_1 e13_2 e13_3 e13_4 e13_5 e13_6 e13_7 z.2, rfl, rfl, rfl⟩)
  · have c7 := bz_f c7
    refine go_null dX11_oneOf_10 ?_
    exact go_aret dX11_oneOf_11 rfl (Or.inl rfl) (Nat.le_of_ble_eq_true rfl) (Nat.le_of_ble_eq_true rfl) (hQ9 ▸ Or.inl ⟨fun z => c7 z.1, rfl, rfl, rfl⟩)
set_option maxHeartbeats 4000000 in
set_option maxRecDepth 100000 in
theorem e_X11_isShelf {d : Int32} : Ev G mX11_isShelf 2 0 0 [.int d] f n (RD (.int (if okr d 0 7 then 1 else 0)) f n) := by
  generalize hQ9 : (RD (.int (if okr d 0 7 then 1 else 0)) f n : RQ) = Q9
  refine ev_of (by decide) (Nat.le_of_ble_eq_true rfl) (ls := [some (.int d)]) rfl (fun hb => ?_)
  refine go_iload_n dX11_isShelf_0 rfl ?_
  refine go_iconst (v := 0) dX11_isShelf_1 rfl ?_
  refine go_bipush (v := 7) dX11_isShelf_2 rfl ?_
  refine go_Sr [.int d, .int 0, .int 7] [] dX11_isShelf_4 sl_X11_126 ⟨by decide, by decide⟩ (e_X11_isWithin) rfl rfl (Nat.le_of_ble_eq_true rfl) (Nat.le_of_ble_eq_true rfl) (Nat.le_of_ble_eq_true rfl) ?_
  exact go_zret dX11_isShelf_7 rfl (Nat.le_of_ble_eq_true rfl) (Nat.le_of_ble_eq_true rfl) (bz_n _) (hQ9 ▸ ⟨rfl, rfl, rfl⟩)
set_option maxHeartbeats 4000000 in
set_option maxRecDepth 100000 in
theorem e_X11_whyNoOne (hX : xsK G f x s i0 t w os rs n b Os Rs) (hS : ∀ d, d < 8 → shD G f n Os Rs A d) {d : Int32} : Ev G mX11_whyNoOne 5 0 0 [.ref x, .int d] f n (RD (.int (if okr d 0 7 = true then (if A 8 d.toNatClampNeg = 2 then -12 else -11) else -1)) f n) := by
  generalize hQ9 : (RD (.int (if okr d 0 7 = true then (if A 8 d.toNatClampNeg = 2 then -12 else -11) else -1)) f n : RQ) = Q9
  refine ev_of (by decide) (Nat.le_of_ble_eq_true rfl) (ls := [some (.ref x), some (.int d)]) rfl (fun hb => ?_)
  refine go_iload_n dX11_whyNoOne_0 rfl ?_
  refine go_Sr [.int d] [] dX11_whyNoOne_1 sl_X11_123 ⟨by decide, by decide⟩ (e_X11_isShelf) rfl rfl (Nat.le_of_ble_eq_true rfl) (Nat.le_of_ble_eq_true rfl) (Nat.le_of_ble_eq_true rfl) ?_
  refine go_if_ne dX11_whyNoOne_4 (fun c4 => ?_) (fun c4 => ?_)
  · have c4 := bz_t c4
    obtain ⟨jd, hjd, rfl⟩ := okr_nI (k := 7) rfl (by omega) c4
    have kjd : (nI jd).toNatClampNeg = jd := nI_clamp (by omega)
    refine go_aload_n dX11_whyNoOne_9 rfl ?_
    rcases hS jd (by omega) with ⟨e8jd, eOjd, eRjd⟩ | ⟨e8jd, eRjd, ajd, eOjd, hojd⟩ | ⟨e8jd, eOjd, bjd, arjd, Rjd, gjd, eRjd, hrjd, eKjd⟩
    · refine go_get dX11_whyNoOne_10 fl_X11_37_11 hX.1 hX.2.1 hX.2.2.1 rfl ?_
      refine go_iload_n dX11_whyNoOne_13 rfl ?_
      refine go_oald3 dX11_whyNoOne_14 hX.2.2.2.2.2.2.1 hX.2.2.2.2.2.2.2.1 hX.2.2.2.2.2.2.2.2.1 (vp_in_nI (n := jd) (by show jd < 8; omega) (by decide)) ?_
      refine go_tv (w := .null) (by rw [nI_clamp (by omega), eRjd]; rfl) ?_
      refine go_ifnonnullN dX11_whyNoOne_15 ?_
      refine go_bipush (v := (-11)) dX11_whyNoOne_18 rfl ?_
      refine go_goto dX11_whyNoOne_20 ?_
      exact go_iret dX11_whyNoOne_25 rfl (Nat.le_of_ble_eq_true rfl) (Nat.le_of_ble_eq_true rfl) (hQ9 ▸ ⟨rd_i (a := (-11)) (by simp [c4, kjd, e8jd]), rfl, rfl⟩)
    · refine go_get dX11_whyNoOne_10 fl_X11_37_11 hX.1 hX.2.1 hX.2.2.1 rfl ?_
      refine go_iload_n dX11_whyNoOne_13 rfl ?_
      refine go_oald3 dX11_whyNoOne_14 hX.2.2.2.2.2.2.1 hX.2.2.2.2.2.2.2.1 hX.2.2.2.2.2.2.2.2.1 (vp_in_nI (n := jd) (by show jd < 8; omega) (by decide)) ?_
      refine go_tv (w := .null) (by rw [nI_clamp (by omega), eRjd]; rfl) ?_
      refine go_ifnonnullN dX11_whyNoOne_15 ?_
      refine go_bipush (v := (-11)) dX11_whyNoOne_18 rfl ?_
      refine go_goto dX11_whyNoOne_20 ?_
      exact go_iret dX11_whyNoOne_25 rfl (Nat.le_of_ble_eq_true rfl) (Nat.le_of_ble_eq_true rfl) (hQ9 ▸ ⟨rd_i (a := (-11)) (by simp [c4, kjd, e8jd]), rfl, rfl⟩)
    · refine go_get dX11_whyNoOne_10 fl_X11_37_11 hX.1 hX.2.1 hX.2.2.1 rfl ?_
      refine go_iload_n dX11_whyNoOne_13 rfl ?_
      refine go_oald3 dX11_whyNoOne_14 hX.2.2.2.2.2.2.1 hX.2.2.2.2.2.2.2.1 hX.2.2.2.2.2.2.2.2.1 (vp_in_nI (n := jd) (by show jd < 8; omega) (by decide)) ?_
      refine go_tv (w := .ref bjd) (by rw [nI_clamp (by omega), eRjd]; rfl) ?_
      refine go_ifnonnull dX11_whyNoOne_15 ?_
      refine go_bipush (v := (-12)) dX11_whyNoOne_23 rfl ?_
      exact go_iret dX11_whyNoOne_25 rfl (Nat.le_of_ble_eq_true rfl) (Nat.le_of_ble_eq_true rfl) (hQ9 ▸ ⟨rd_i (a := (-12)) (by simp [c4, kjd, e8jd]), rfl, rfl⟩)
  · have c4 := bz_f c4
    refine go_iconst (v := (-1)) dX11_whyNoOne_7 rfl ?_
    exact go_iret dX11_whyNoOne_8 rfl (Nat.le_of_ble_eq_true rfl) (Nat.le_of_ble_eq_true rfl) (hQ9 ▸ ⟨rd_i (a := (-1)) (by simp [c4]), rfl, rfl⟩)
set_option maxHeartbeats 4000000 in
set_option maxRecDepth 100000 in
theorem e_X11_whyNoRow (hX : xsK G f x s i0 t w os rs n b Os Rs) (hS : ∀ d, d < 8 → shD G f n Os Rs A d) {d : Int32} : Ev G mX11_whyNoRow 5 0 0 [.ref x, .int d] f n (RD (.int (if okr d 0 7 = true then (if A 8 d.toNatClampNeg = 1 then -12 else -11) else -1)) f n) := by
  generalize hQ9 : (RD (.int (if okr d 0 7 = true then (if A 8 d.toNatClampNeg = 1 then -12 else -11) else -1)) f n : RQ) = Q9
  refine ev_of (by decide) (Nat.le_of_ble_eq_true rfl) (ls := [some (.ref x), some (.int d)]) rfl (fun hb => ?_)
  refine go_iload_n dX11_whyNoRow_0 rfl ?_
  refine go_Sr [.int d] [] dX11_whyNoRow_1 sl_X11_123 ⟨by decide, by decide⟩ (e_X11_isShelf) rfl rfl (Nat.le_of_ble_eq_true rfl) (Nat.le_of_ble_eq_true rfl) (Nat.le_of_ble_eq_true rfl) ?_
  refine go_if_ne dX11_whyNoRow_4 (fun c4 => ?_) (fun c4 => ?_)
  · have c4 := bz_t c4
    obtain ⟨jd, hjd, rfl⟩ := okr_nI (k := 7) rfl (by omega) c4
    have kjd : (nI jd).toNatClampNeg = jd := nI_clamp (by omega)
    refine go_aload_n dX11_whyNoRow_9 rfl ?_
    rcases hS jd (by omega) with ⟨e8jd, eOjd, eRjd⟩ | ⟨e8jd, eRjd, ajd, eOjd, hojd⟩ | ⟨e8jd, eOjd, bjd, arjd, Rjd, gjd, eRjd, hrjd, eKjd⟩
    · refine go_get dX11_whyNoRow_10 fl_X11_31_11 hX.1 hX.2.1 hX.2.2.1 rfl ?_
      refine go_iload_n dX11_whyNoRow_13 rfl ?_
      refine go_oald dX11_whyNoRow_14 hX.2.2.2.1 hX.2.2.2.2.1 hX.2.2.2.2.2.1 (vp_in_nI (n := jd) (by show jd < 8; omega) (by decide)) ?_
      refine go_tv (w := .null) (by rw [nI_clamp (by omega), eOjd]; rfl) ?_
      refine go_ifnonnullN dX11_whyNoRow_15 ?_
      refine go_bipush (v := (-11)) dX11_whyNoRow_18 rfl ?_
      refine go_goto dX11_whyNoRow_20 ?_
      exact go_iret dX11_whyNoRow_25 rfl (Nat.le_of_ble_eq_true rfl) (Nat.le_of_ble_eq_true rfl) (hQ9 ▸ ⟨rd_i (a := (-11)) (by simp [c4, kjd, e8jd]), rfl, rfl⟩)
    · refine go_get dX11_whyNoRow_10 fl_X11_31_11 hX.1 hX.2.1 hX.2.2.1 rfl ?_
      refine go_iload_n dX11_whyNoRow_13 rfl ?_
      refine go_oald dX11_whyNoRow_14 hX.2.2.2.1 hX.2.2.2.2.1 hX.2.2.2.2.2.1 (vp_in_nI (n := jd) (by show jd < 8; omega) (by decide)) ?_
      refine go_tv (w := .ref ajd) (by rw [nI_clamp (by omega), eOjd]; rfl) ?_
      refine go_ifnonnull dX11_whyNoRow_15 ?_
      refine go_bipush (v := (-12)) dX11_whyNoRow_23 rfl ?_
      exact go_iret dX11_whyNoRow_25 rfl (Nat.le_of_ble_eq_true rfl) (Nat.le_of_ble_eq_true rfl) (hQ9 ▸ ⟨rd_i (a := (-12)) (by simp [c4, kjd, e8jd]), rfl, rfl⟩)
    · refine go_get dX11_whyNoRow_10 fl_X11_31_11 hX.1 hX.2.1 hX.2.2.1 rfl ?_
      refine go_iload_n dX11_whyNoRow_13 rfl ?_
      refine go_oald dX11_whyNoRow_14 hX.2.2.2.1 hX.2.2.2.2.1 hX.2.2.2.2.2.1 (vp_in_nI (n := jd) (by show jd < 8; omega) (by decide)) ?_
      refine go_tv (w := .null) (by rw [nI_clamp (by omega), eOjd]; rfl) ?_
      refine go_ifnonnullN dX11_whyNoRow_15 ?_
      refine go_bipush (v := (-11)) dX11_whyNoRow_18 rfl ?_
      refine go_goto dX11_whyNoRow_20 ?_
      exact go_iret dX11_whyNoRow_25 rfl (Nat.le_of_ble_eq_true rfl) (Nat.le_of_ble_eq_true rfl) (hQ9 ▸ ⟨rd_i (a := (-11)) (by simp [c4, kjd, e8jd]), rfl, rfl⟩)
  · have c4 := bz_f c4
    refine go_iconst (v := (-1)) dX11_whyNoRow_7 rfl ?_
    exact go_iret dX11_whyNoRow_8 rfl (Nat.le_of_ble_eq_true rfl) (Nat.le_of_ble_eq_true rfl) (hQ9 ▸ ⟨rd_i (a := (-1)) (by simp [c4]), rfl, rfl⟩)
end D3
