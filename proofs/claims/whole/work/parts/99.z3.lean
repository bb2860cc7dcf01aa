section Z3
variable {G : GX} {f : Mem} {x s0 i0 t w os rs n a : Nat} {b : Int32} {Os Rs : Nat → Option Nat} {A : Nat → Nat → Int32}
set_option maxHeartbeats 4000000 in
set_option maxRecDepth 100000 in
theorem t_X3_fail {ci : Nat} {g : Int32} (he : f a = ob ci [.int g]) (fl : FL "TwoToALocker$One" 7 ci 0) (h1 : G.2.1 ≤ a) (h2 : a < n) : EvT G mX3_fail 6 1 6 [.ref a] f n (fun r f1 n1 => g = 0 ∧ r = none ∧ f1 = f ∧ n1 = n) (fun E => ¬ g = 0 ∧ E = "java/lang/IllegalArgumentException") := by
  refine et_of (by decide) (Nat.le_of_ble_eq_true rfl) (ls := [some (.ref a)]) rfl (fun hb p e s m args below meth c C X hno => ?_)
  refine gz_aload_n C dX3_fail_0 rfl ?_
  refine gz_get C dX3_fail_1 fl he h1 h2 rfl ?_
  refine gz_if_eq C dX3_fail_4 (fun c4 => ?_) (fun c4 => ?_)
  · exact gt_vret C dX3_fail_17 rfl (Nat.zero_le _) (Nat.zero_le _) ⟨c4, rfl, rfl, rfl⟩
  · obtain ⟨sa, hsa⟩ := X.2.2.2.1 ("TwoToALocker$One", 25, "the failure of one") (by decide)
    exact gt_throwS C X hno (cls := "java/lang/IllegalArgumentException") (by decide +kernel) (wm_1048) (wm_20) hsa (aw_One C X) ag_One dX3_fail_7.1 dX3_fail_10.1 dX3_fail_11.1 dX3_fail_13.1 dX3_fail_16 ⟨(Nat.le_of_ble_eq_true rfl), (Nat.le_of_ble_eq_true rfl)⟩ (Nat.zero_le _) (Nat.le_of_ble_eq_true rfl) (Nat.le_of_ble_eq_true rfl) (Nat.le_of_ble_eq_true rfl) (Nat.le_of_ble_eq_true rfl) ⟨c4, rfl⟩
set_option maxHeartbeats 4000000 in
set_option maxRecDepth 100000 in
theorem t_X8_fail {ci : Nat} {g : Int32} (he : f a = ob ci [.int g]) (fl : FL "TwoToALocker$Tidy" 23 ci 0) (h1 : G.2.1 ≤ a) (h2 : a < n) : EvT G mX8_fail 6 1 6 [.ref a] f n (fun r f1 n1 => g = 0 ∧ r = none ∧ f1 = f ∧ n1 = n) (fun E => ¬ g = 0 ∧ E = "java/lang/IllegalStateException") := by
  refine et_of (by decide) (Nat.le_of_ble_eq_true rfl) (ls := [some (.ref a)]) rfl (fun hb p e s m args below meth c C X hno => ?_)
  refine gz_aload_n C dX8_fail_0 rfl ?_
  refine gz_get C dX8_fail_1 fl he h1 h2 rfl ?_
  refine gz_if_eq C dX8_fail_4 (fun c4 => ?_) (fun c4 => ?_)
  · exact gt_vret C dX8_fail_17 rfl (Nat.zero_le _) (Nat.zero_le _) ⟨c4, rfl, rfl, rfl⟩
  · obtain ⟨sa, hsa⟩ := X.2.2.2.1 ("TwoToALocker$Tidy", 31, "the failure of a tidy one") (by decide)
    exact gt_throwS C X hno (cls := "java/lang/IllegalStateException") (by decide +kernel) (wm_1025) (wm_21) hsa (aw_Tidy C X) ag_Tidy dX8_fail_7.1 dX8_fail_10.1 dX8_fail_11.1 dX8_fail_13.1 dX8_fail_16 ⟨(Nat.le_of_ble_eq_true rfl), (Nat.le_of_ble_eq_true rfl)⟩ (Nat.zero_le _) (Nat.le_of_ble_eq_true rfl) (Nat.le_of_ble_eq_true rfl) (Nat.le_of_ble_eq_true rfl) (Nat.le_of_ble_eq_true rfl) ⟨c4, rfl⟩
set_option maxHeartbeats 4000000 in
set_option maxRecDepth 100000 in
theorem t_X0_fail {ci : Nat} {g : Int32} (he : f a = ob ci [.int g]) (fl : FL "TwoToALocker$Fussy" 15 ci 0) (h1 : G.2.1 ≤ a) (h2 : a < n) : EvT G mX0_fail 6 1 6 [.ref a] f n (fun r f1 n1 => g = 0 ∧ r = none ∧ f1 = f ∧ n1 = n) (fun E => ¬ g = 0 ∧ E = "java/lang/UnsupportedOperationException") := by
  refine et_of (by decide) (Nat.le_of_ble_eq_true rfl) (ls := [some (.ref a)]) rfl (fun hb p e s m args below meth c C X hno => ?_)
  refine gz_aload_n C dX0_fail_0 rfl ?_
  refine gz_get C dX0_fail_1 fl he h1 h2 rfl ?_
  refine gz_if_eq C dX0_fail_4 (fun c4 => ?_) (fun c4 => ?_)
  · exact gt_vret C dX0_fail_17 rfl (Nat.zero_le _) (Nat.zero_le _) ⟨c4, rfl, rfl, rfl⟩
  · obtain ⟨sa, hsa⟩ := X.2.2.2.1 ("TwoToALocker$Fussy", 23, "the failure of a fussy one") (by decide)
    exact gt_throwS C X hno (cls := "java/lang/UnsupportedOperationException") (by decide +kernel) (wm_953) (wm_22) hsa (aw_Fussy C X) ag_Fussy dX0_fail_7.1 dX0_fail_10.1 dX0_fail_11.1 dX0_fail_13.1 dX0_fail_16 ⟨(Nat.le_of_ble_eq_true rfl), (Nat.le_of_ble_eq_true rfl)⟩ (Nat.zero_le _) (Nat.le_of_ble_eq_true rfl) (Nat.le_of_ble_eq_true rfl) (Nat.le_of_ble_eq_true rfl) (Nat.le_of_ble_eq_true rfl) ⟨c4, rfl⟩
set_option maxHeartbeats 4000000 in
set_option maxRecDepth 100000 in
theorem t_X10_fail : EvT G mX10_fail 6 1 6 [.ref a] f n (fun r f1 n1 => r = none ∧ f1 = f ∧ n1 = n) (fun _ => False) := by
  refine et_of (by decide) (Nat.le_of_ble_eq_true rfl) (ls := [some (.ref a)]) rfl (fun hb p e s m args below meth c C X hno => ?_)
  exact gt_vret C dX10_fail_0 rfl (Nat.zero_le _) (Nat.zero_le _) ⟨rfl, rfl, rfl⟩
def elQ (G : GX) (f : Mem) (n : Nat) (Rs : Nat → Option Nat) (A : Nat → Nat → Int32) (d i : Int32) : RQ := fun r f1 n1 => f1 = f ∧ n1 = n ∧ ∃ jd b ar R g, jd ≤ 7 ∧ d = nI jd ∧ A 8 jd = 2 ∧ Rs jd = some b ∧ rowM G f n b ar R g (A 11 jd) ∧ A 12 jd = nI R ∧ okp R i = true ∧ r = some (.long (g i.toNatClampNeg).toInt64)
def elX (A : Nat → Nat → Int32) (d i : Int32) (E : String) : Prop := (¬ okr d 0 7 = true ∧ E = "java/lang/IllegalArgumentException") ∨ (okr d 0 7 = true ∧ ¬ (A 8 d.toNatClampNeg = 2 ∧ okp (A 12 d.toNatClampNeg).toNatClampNeg i = true) ∧ E = "java/lang/IllegalStateException")
set_option maxHeartbeats 4000000 in
set_option maxRecDepth 100000 in
theorem t_X11_element (hX : xsK G f x s0 i0 t w os rs n b Os Rs) (hS : ∀ d, d < 8 → shD G f n Os Rs A d) {d i : Int32} : EvT G mX11_element 6 1 6 [.ref x, .int d, .int i] f n (elQ G f n Rs A d i) (elX A d i) := by
  refine et_of (by decide) (Nat.le_of_ble_eq_true rfl) (ls := [some (.ref x), some (.int d), some (.int i), none]) rfl (fun hb p e s m args below meth c C X hno => ?_)
  refine gz_iload_n C dX11_element_0 rfl ?_
  refine gz_Sr C [.int d] [] dX11_element_1 sl_X11_123 ⟨(Nat.le_of_ble_eq_true rfl), (Nat.le_of_ble_eq_true rfl), by decide⟩ e_X11_isShelf rfl rfl (Nat.le_of_ble_eq_true rfl) (Nat.le_of_ble_eq_true rfl) (Nat.le_of_ble_eq_true rfl) ?_
  refine gz_if_ne C dX11_element_4 (fun c4 => ?_) (fun c4 => ?_)
  · have hd := bz_t c4
    obtain ⟨jd, hjd, rfl⟩ := okr_nI (k := 7) rfl (by omega) hd
    have kjd : (nI jd).toNatClampNeg = jd := nI_clamp (by omega)
    refine gz_aload_n C dX11_element_18 rfl ?_
    refine gz_iload_n C dX11_element_19 rfl ?_
    refine gz_Vr C [.int (nI jd)] [] dX11_element_20 vl_X11_45 ⟨(Nat.le_of_ble_eq_true rfl), (Nat.le_of_ble_eq_true rfl), by decide⟩ (e_X11_rowOn hX) hX.1 hX.2.1 hX.2.2.1 rfl rfl (Nat.le_of_ble_eq_true rfl) (Nat.le_of_ble_eq_true rfl) (Nat.le_of_ble_eq_true rfl) ?_
    rcases hS jd (by omega) with ⟨e8, eO, eR⟩ | ⟨e8, eR, a1, eO, ho⟩ | ⟨e8, eO, b1, ar, R, g, eR, hr, eK⟩
    · refine gz_tv C (w := .null) (by rw [if_pos hd, nI_clamp (by omega), eR]; rfl) ?_
      refine gz_astore_nN C (ls' := [some (.ref x), some (.int (nI jd)), some (.int i), some .null]) dX11_element_23 ⟨by decide, rfl, rfl⟩ ?_
      refine gz_aload_nN C dX11_element_24 rfl ?_
      refine gz_ifnullN C dX11_element_25 ?_
      obtain ⟨sa, hsa⟩ := X.2.2.2.1 ("TwoToALocker", 321, "no row, or no such place") (by decide)
      exact gt_throwSW C X hno (cls := "java/lang/IllegalStateException") (by decide +kernel) (wm_944) (wm_21) hsa (aw_El2 C X) ag_El2 dX11_element_36.1 dX11_element_39.1 dX11_element_40.1 dX11_element_43.1 dX11_element_46 ⟨(Nat.le_of_ble_eq_true rfl), (Nat.le_of_ble_eq_true rfl)⟩ (Nat.zero_le _) (Nat.le_of_ble_eq_true rfl) (Nat.le_of_ble_eq_true rfl) (Nat.le_of_ble_eq_true rfl) (Nat.le_of_ble_eq_true rfl) (Or.inr ⟨hd, fun z => by rw [kjd, e8] at z; exact absurd z.1 (by decide), rfl⟩)
    · refine gz_tv C (w := .null) (by rw [if_pos hd, nI_clamp (by omega), eR]; rfl) ?_
      refine gz_astore_nN C (ls' := [some (.ref x), some (.int (nI jd)), some (.int i), some .null]) dX11_element_23 ⟨by decide, rfl, rfl⟩ ?_
      refine gz_aload_nN C dX11_element_24 rfl ?_
      refine gz_ifnullN C dX11_element_25 ?_
      obtain ⟨sa, hsa⟩ := X.2.2.2.1 ("TwoToALocker", 321, "no row, or no such place") (by decide)
      exact gt_throwSW C X hno (cls := "java/lang/IllegalStateException") (by decide +kernel) (wm_944) (wm_21) hsa (aw_El2 C X) ag_El2 dX11_element_36.1 dX11_element_39.1 dX11_element_40.1 dX11_element_43.1 dX11_element_46 ⟨(Nat.le_of_ble_eq_true rfl), (Nat.le_of_ble_eq_true rfl)⟩ (Nat.zero_le _) (Nat.le_of_ble_eq_true rfl) (Nat.le_of_ble_eq_true rfl) (Nat.le_of_ble_eq_true rfl) (Nat.le_of_ble_eq_true rfl) (Or.inr ⟨hd, fun z => by rw [kjd, e8] at z; exact absurd z.1 (by decide), rfl⟩)
    · refine gz_tv C (w := .ref b1) (by rw [if_pos hd, nI_clamp (by omega), eR]; rfl) ?_
      refine gz_astore_n C (ls' := [some (.ref x), some (.int (nI jd)), some (.int i), some (.ref b1)]) dX11_element_23 ⟨by decide, rfl, rfl⟩ ?_
      refine gz_aload_n C dX11_element_24 rfl ?_
      refine gz_ifnull C dX11_element_25 ?_
      refine gz_aload_n C dX11_element_28 rfl ?_
      refine gz_iload_n C dX11_element_29 rfl ?_
      refine gz_Vr C [.int i] [] dX11_element_30 vl_X11_306 ⟨(Nat.le_of_ble_eq_true rfl), (Nat.le_of_ble_eq_true rfl), by decide⟩ (e_X4_has hr.1 hr.2.1 hr.2.2.1 hr.2.2.2.1 hr.2.2.2.2.1 hr.2.2.2.2.2.1 hr.2.2.2.2.2.2) hr.1 hr.2.1 hr.2.2.1 rfl rfl (Nat.le_of_ble_eq_true rfl) (Nat.le_of_ble_eq_true rfl) (Nat.le_of_ble_eq_true rfl) ?_
      refine gz_if_ne C dX11_element_33 (fun c33 => ?_) (fun c33 => ?_)
      · have hi := bz_t c33
        obtain ⟨ji, hji, rfl⟩ := okp_nI hi (by have := hr.2.2.2.2.2.2; omega)
        have hR := hr.2.2.2.2.2.2
        refine gz_aload_n C dX11_element_47 rfl ?_
        refine gz_get C dX11_element_48 fl_X11_264_4 hr.1 hr.2.1 hr.2.2.1 rfl ?_
        refine gz_iload_n C dX11_element_51 rfl ?_
        refine gz_iald C dX11_element_52 hr.2.2.2.1 hr.2.2.2.2.1 hr.2.2.2.2.2.1 (vp_in_nI hji (by omega)) ?_
        refine gz_i2l C dX11_element_53 ?_
        exact gt_lret C dX11_element_54 rfl (Nat.zero_le _) (Nat.zero_le _) ⟨rfl, rfl, jd, b1, ar, R, g, hjd, rfl, e8, eR, hr, eK, hi, rfl⟩
      · have hi := bz_f c33
        obtain ⟨sa, hsa⟩ := X.2.2.2.1 ("TwoToALocker", 321, "no row, or no such place") (by decide)
        exact gt_throwSW C X hno (cls := "java/lang/IllegalStateException") (by decide +kernel) (wm_944) (wm_21) hsa (aw_El2 C X) ag_El2 dX11_element_36.1 dX11_element_39.1 dX11_element_40.1 dX11_element_43.1 dX11_element_46 ⟨(Nat.le_of_ble_eq_true rfl), (Nat.le_of_ble_eq_true rfl)⟩ (Nat.zero_le _) (Nat.le_of_ble_eq_true rfl) (Nat.le_of_ble_eq_true rfl) (Nat.le_of_ble_eq_true rfl) (Nat.le_of_ble_eq_true rfl) (Or.inr ⟨hd, fun z => by rw [kjd, eK, nI_clamp (by have := hr.2.2.2.2.2.2; omega)] at z; exact hi z.2, rfl⟩)
  · obtain ⟨sa, hsa⟩ := X.2.2.2.1 ("TwoToALocker", 314, "no such shelf") (by decide)
    exact gt_throwSW C X hno (cls := "java/lang/IllegalArgumentException") (by decide +kernel) (wm_945) (wm_20) hsa (aw_El1 C X) ag_El1 dX11_element_7.1 dX11_element_10.1 dX11_element_11.1 dX11_element_14.1 dX11_element_17 ⟨(Nat.le_of_ble_eq_true rfl), (Nat.le_of_ble_eq_true rfl)⟩ (Nat.zero_le _) (Nat.le_of_ble_eq_true rfl) (Nat.le_of_ble_eq_true rfl) (Nat.le_of_ble_eq_true rfl) (Nat.le_of_ble_eq_true rfl) (Or.inl ⟨bz_f c4, rfl⟩)
end Z3
