/-! the first misfit -/
def ndD (l : Int32) : Nat := if ltrS l = true then ndS l else 0
def ccR (g : Nat → Int32) (R : Nat) : Nat → Int32 := fun i => rdC g R (nI i)
def fmS (c : Nat → Int32) (R : Nat) : Nat → Nat → Int32
  | 0, a => if a = 0 then 0 else -1
  | k + 1, a => if a < R then (if stG c a = true then fmS c R k (stP c a) else nI (stP c a)) else if a = 0 then 0 else -1
theorem fm_end {c : Nat → Int32} {R : Nat} {fu a : Nat} (h : ¬ a < R) : fmS c R fu a = if a = 0 then 0 else -1 := by
  cases fu with
  | zero => rfl
  | succ k =>
    unfold fmS
    rw [if_neg h]
theorem fm_stop {c : Nat → Int32} {R : Nat} {fu a p : Nat} (h : a < R) (hf : R < a + fu) (hg : stG c a = false ∧ stP c a = p) : fmS c R fu a = nI p := by
  obtain ⟨k, rfl⟩ : ∃ k, fu = k + 1 := ⟨fu - 1, by omega⟩
  unfold fmS
  rw [if_pos h, hg.1, hg.2]
  rfl
theorem fm_go {c : Nat → Int32} {R : Nat} {fu a p : Nat} (h : a < R) (hf : R < a + fu) (hg : stG c a = true ∧ stP c a = p) (hp : a < p) : ∃ k, fmS c R fu a = fmS c R k p ∧ R < p + k := by
  obtain ⟨k, rfl⟩ : ∃ k, fu = k + 1 := ⟨fu - 1, by omega⟩
  refine ⟨k, ?_, by omega⟩
  conv => lhs; unfold fmS
  rw [if_pos h, hg.1, hg.2]
  rfl
theorem dg_okr {x : Int32} : okr (x - 48) 0 9 = true ↔ dgS x = true := by
  constructor
  · intro h
    obtain ⟨j, hj, e⟩ := okr_nI (k := 9) rfl (by omega) h
    have e2 : x = nI (j + 48) := by
      rw [← nI_add j 48, ← e]
      exact (Int32.sub_add_cancel x 48).symm
    rw [e2]
    have : j = 0 ∨ j = 1 ∨ j = 2 ∨ j = 3 ∨ j = 4 ∨ j = 5 ∨ j = 6 ∨ j = 7 ∨ j = 8 ∨ j = 9 := by omega
    rcases this with rfl | rfl | rfl | rfl | rfl | rfl | rfl | rfl | rfl | rfl <;> decide
  · intro h
    obtain ⟨k, hk, e⟩ := dg_nI h
    rw [e]
    exact nI_okr (k := 9) (by omega) (by omega)
theorem ndD_l {l : Int32} (h : ¬ ndD l = 0) : ltrS l = true ∧ ndD l = ndS l := by
  unfold ndD at h ⊢
  by_cases c : ltrS l = true
  · rw [if_pos c]
    exact ⟨c, rfl⟩
  · rw [if_neg c] at h
    exact absurd rfl h
theorem ndD_n {l : Int32} (h : ndD l = 0) : ¬ ltrS l = true := fun c => by
  unfold ndD at h
  rw [if_pos c] at h
  have := ndS_ge l
  omega
theorem ndD_le {l : Int32} : ndD l ≤ 3 := by
  unfold ndD
  split
  · exact ndS_le l
  · omega
section D15
variable {G : GX} {m0 f : Mem} {s n N M b ar R : Nat} {F : Nat → Int32} {W : Nat → Option Nat} {A : Nat → Nat → Int32} {B g : Nat → Int32} {so : Int32}
set_option maxHeartbeats 4000000 in
set_option maxRecDepth 100000 in
theorem e_X11_digitsBehind {l : Int32} : Ev G mX11_digitsBehind 1 0 0 [.int l] f n (RD (.int (nI (ndD l))) f n) := by
  generalize hQ9 : (RD (.int (nI (ndD l))) f n : RQ) = Q9
  refine ev_of (by decide) (Nat.le_of_ble_eq_true rfl) (ls := [some (.int l)]) rfl (fun hb => ?_)
  refine go_iload_n dX11_digitsBehind_0 rfl ?_
  by_cases e1_107 : (l : Int32) = 107
  · refine go_tp e1_107 ?_
    refine go_tableIn (off := 75) (tgt := 76) dX11_digitsBehind_1 (by decide) (by decide) (by decide) (by decide) ?_
    refine go_iconst (v := 1) dX11_digitsBehind_76 rfl ?_
    exact go_iret dX11_digitsBehind_77 rfl (Nat.le_of_ble_eq_true rfl) (Nat.le_of_ble_eq_true rfl) (hQ9 ▸ ⟨rd_i (by rw [e1_107]; decide), rfl, rfl⟩)
  · by_cases e1_108 : (l : Int32) = 108
    · refine go_tp e1_108 ?_
      refine go_tableIn (off := 73) (tgt := 74) dX11_digitsBehind_1 (by decide) (by decide) (by decide) (by decide) ?_
      refine go_iconst (v := 2) dX11_digitsBehind_74 rfl ?_
      exact go_iret dX11_digitsBehind_75 rfl (Nat.le_of_ble_eq_true rfl) (Nat.le_of_ble_eq_true rfl) (hQ9 ▸ ⟨rd_i (by rw [e1_108]; decide), rfl, rfl⟩)
    · by_cases e1_109 : (l : Int32) = 109
      · refine go_tp e1_109 ?_
        refine go_tableIn (off := 73) (tgt := 74) dX11_digitsBehind_1 (by decide) (by decide) (by decide) (by decide) ?_
        refine go_iconst (v := 2) dX11_digitsBehind_74 rfl ?_
        exact go_iret dX11_digitsBehind_75 rfl (Nat.le_of_ble_eq_true rfl) (Nat.le_of_ble_eq_true rfl) (hQ9 ▸ ⟨rd_i (by rw [e1_109]; decide), rfl, rfl⟩)
      · by_cases e1_110 : (l : Int32) = 110
        · refine go_tp e1_110 ?_
          refine go_tableIn (off := 75) (tgt := 76) dX11_digitsBehind_1 (by decide) (by decide) (by decide) (by decide) ?_
          refine go_iconst (v := 1) dX11_digitsBehind_76 rfl ?_
          exact go_iret dX11_digitsBehind_77 rfl (Nat.le_of_ble_eq_true rfl) (Nat.le_of_ble_eq_true rfl) (hQ9 ▸ ⟨rd_i (by rw [e1_110]; decide), rfl, rfl⟩)
        · by_cases e1_112 : (l : Int32) = 112
          · refine go_tp e1_112 ?_
            refine go_tableIn (off := 71) (tgt := 72) dX11_digitsBehind_1 (by decide) (by decide) (by decide) (by decide) ?_
            refine go_iconst (v := 3) dX11_digitsBehind_72 rfl ?_
            exact go_iret dX11_digitsBehind_73 rfl (Nat.le_of_ble_eq_true rfl) (Nat.le_of_ble_eq_true rfl) (hQ9 ▸ ⟨rd_i (by rw [e1_112]; decide), rfl, rfl⟩)
          · by_cases e1_120 : (l : Int32) = 120
            · refine go_tp e1_120 ?_
              refine go_tableIn (off := 73) (tgt := 74) dX11_digitsBehind_1 (by decide) (by decide) (by decide) (by decide) ?_
              refine go_iconst (v := 2) dX11_digitsBehind_74 rfl ?_
              exact go_iret dX11_digitsBehind_75 rfl (Nat.le_of_ble_eq_true rfl) (Nat.le_of_ble_eq_true rfl) (hQ9 ▸ ⟨rd_i (by rw [e1_120]; decide), rfl, rfl⟩)
            · refine go_tableDef dX11_digitsBehind_1 (tgt := 78) (ds := [111, 113, 114, 115, 116, 117, 118, 119]) (by have := i32_ne (v := 107) (k := 107) rfl e1_107; have := i32_ne (v := 108) (k := 108) rfl e1_108; have := i32_ne (v := 109) (k := 109) rfl e1_109; have := i32_ne (v := 110) (k := 110) rfl e1_110; have := i32_ne (v := 112) (k := 112) rfl e1_112; have := i32_ne (v := 120) (k := 120) rfl e1_120; simp; omega) (by decide) (by decide) ?_
              refine go_iconst (v := 0) dX11_digitsBehind_78 rfl ?_
              exact go_iret dX11_digitsBehind_79 rfl (Nat.le_of_ble_eq_true rfl) (Nat.le_of_ble_eq_true rfl) (hQ9 ▸ ⟨rd_i (by unfold ndD; rw [if_neg (by simp [ltrS, e1_107, e1_108, e1_109, e1_110, e1_112, e1_120])]; rfl), rfl, rfl⟩)
set_option maxHeartbeats 4000000 in
set_option maxRecDepth 100000 in
theorem e_X11_firstMisfit (hrb : f b = ob 4 [.int so, .ref ar]) (hb1 : G.2.1 ≤ b) (hb2 : b < n) (hra : f ar = ia G R g) (ha1 : G.2.1 ≤ ar) (ha2 : ar < n) (hR : R ≤ 100) : Ev G mX11_firstMisfit 5 0 0 [.ref b] f n (RD (.int (fmS (ccR g R) R 101 0)) f n) := by
  generalize hQ9 : (RD (.int (fmS (ccR g R) R 101 0)) f n : RQ) = Q9
  refine ev_of (by decide) (Nat.le_of_ble_eq_true rfl) (ls := [some (.ref b), none, none, none, none]) rfl (fun hb => ?_)
  refine go_iconst (v := 0) dX11_firstMisfit_0 rfl ?_
  refine go_istore_n (ls' := [some (.ref b), some (.int 0), none, none, none]) dX11_firstMisfit_1 ⟨by decide, rfl, rfl⟩ ?_
  have lp0 : ∀ (μ_lp0 : Nat) (a fu : Nat) (ha : a ≤ R + 5) (hma : 106 ≤ a + μ_lp0) (hfm : fmS (ccR g R) R 101 0 = fmS (ccR g R) R fu a) (hfu : R < a + fu), Go G mX11_firstMisfit 5 0 0 Q9 0 0 2 [some (.ref b), some (.int (nI a)), none, none, none] [] f n := by
    intro μ_lp0
    induction μ_lp0 with
    | zero =>
      intro a fu ha hma hfm hfu
      exact absurd hma (by omega)
    | succ μ_lp0 ih_lp0 =>
      intro a fu ha hma hfm hfu
      refine go_iload_n dX11_firstMisfit_2 rfl ?_
      refine go_aload_n dX11_firstMisfit_3 rfl ?_
      refine go_Vr [] [.int (nI a)] dX11_firstMisfit_4 vl_X11_65 ⟨by decide, by decide⟩ (e_X4_size hrb hb1 hb2 hra ha1 ha2 hR) hrb hb1 (by omega) rfl rfl (Nat.le_of_ble_eq_true rfl) (Nat.le_of_ble_eq_true rfl) (Nat.le_of_ble_eq_true rfl) ?_
      refine go_icmp_ge dX11_firstMisfit_7 (fun c7 => ?_) (fun c7 => ?_)
      · have c7n := (nI_leI (a := R) (b := a) (by omega) (by omega)).mp c7
        have c7n := Nat.not_lt.mpr c7n
        have c7 := Int32.not_lt.mpr c7
        refine go_iload_n dX11_firstMisfit_85 rfl ?_
        refine go_if_ne dX11_firstMisfit_86 (fun c86 => ?_) (fun c86 => ?_)
        · have c86n := mt (n0_eq (a := a) (by omega)).mpr c86
          refine go_iconst (v := (-1)) dX11_firstMisfit_93 rfl ?_
          exact go_iret dX11_firstMisfit_94 rfl (Nat.le_of_ble_eq_true rfl) (Nat.le_of_ble_eq_true rfl) (hQ9 ▸ ⟨rd_i (by rw [hfm, fm_end c7n]; first | rw [if_pos c86n] | rw [if_neg c86n] | (subst c86n; rfl) | simp [c86n]), rfl, rfl⟩)
        · have c86n := (n0_eq (a := a) (by omega)).mp c86
          refine go_iconst (v := 0) dX11_firstMisfit_89 rfl ?_
          refine go_goto dX11_firstMisfit_90 ?_
          exact go_iret dX11_firstMisfit_94 rfl (Nat.le_of_ble_eq_true rfl) (Nat.le_of_ble_eq_true rfl) (hQ9 ▸ ⟨rd_i (by rw [hfm, fm_end c7n]; first | rw [if_pos c86n] | rw [if_neg c86n] | (subst c86n; rfl) | simp [c86n]), rfl, rfl⟩)
      · have c7n := mt (nI_leI (a := R) (b := a) (by omega) (by omega)).mpr c7
        have c7n := Nat.lt_of_not_le c7n
        have c7 := Int32.not_le.mp c7
        refine go_aload_n dX11_firstMisfit_10 rfl ?_
        refine go_iload_n dX11_firstMisfit_11 rfl ?_
        refine go_Vr [.int (nI a)] [] dX11_firstMisfit_12 vl_X11_73 ⟨by decide, by decide⟩ (e_X4_at hrb hb1 hb2 hra ha1 ha2 hR) hrb hb1 (by omega) rfl rfl (Nat.le_of_ble_eq_true rfl) (Nat.le_of_ble_eq_true rfl) (Nat.le_of_ble_eq_true rfl) ?_
        have hnd15 := ndD_le (l := rdC g R (nI a))
        refine go_Sr [.int (rdC g R (nI a))] [] dX11_firstMisfit_15 sl_X11_76 ⟨by decide, by decide⟩ (e_X11_digitsBehind) rfl rfl (Nat.le_of_ble_eq_true rfl) (Nat.le_of_ble_eq_true rfl) (Nat.le_of_ble_eq_true rfl) ?_
        refine go_istore_n (ls' := [some (.ref b), some (.int (nI a)), some (.int (nI (ndD (rdC g R (nI a))))), none, none]) dX11_firstMisfit_18 ⟨by decide, rfl, rfl⟩ ?_
        refine go_iload_n dX11_firstMisfit_19 rfl ?_
        refine go_if_ne dX11_firstMisfit_20 (fun c20 => ?_) (fun c20 => ?_)
        · have c20n := mt (n0_eq (a := ndD (rdC g R (nI a))) (by omega)).mpr c20
          have hl := ndD_l c20n
          have hl2 := hl.2
          refine go_iload_n dX11_firstMisfit_25 rfl ?_
          refine go_iload_n dX11_firstMisfit_26 rfl ?_
          refine go_iadd dX11_firstMisfit_27 ?_
          refine go_tp (z := nI (a + (ndD (rdC g R (nI a))))) (nI_add a (ndD (rdC g R (nI a)))) ?_
          refine go_iconst (v := 1) dX11_firstMisfit_28 rfl ?_
          refine go_iadd dX11_firstMisfit_29 ?_
          refine go_tp (z := nI ((a + (ndD (rdC g R (nI a)))) + 1)) (nI_add (a + (ndD (rdC g R (nI a)))) 1) ?_
          refine go_istore_n (ls' := [some (.ref b), some (.int (nI a)), some (.int (nI (ndD (rdC g R (nI a))))), some (.int (nI ((a + (ndD (rdC g R (nI a)))) + 1))), none]) dX11_firstMisfit_30 ⟨by decide, rfl, rfl⟩ ?_
          refine go_iload_n dX11_firstMisfit_31 rfl ?_
          refine go_iconst (v := 1) dX11_firstMisfit_32 rfl ?_
          refine go_iadd dX11_firstMisfit_33 ?_
          refine go_tp (z := nI (a + 1)) (nI_add a 1) ?_
          refine go_istore (ls' := [some (.ref b), some (.int (nI a)), some (.int (nI (ndD (rdC g R (nI a))))), some (.int (nI ((a + (ndD (rdC g R (nI a)))) + 1))), some (.int (nI (a + 1)))]) dX11_firstMisfit_34 ⟨by decide, rfl, rfl⟩ ?_
          have lp1 : ∀ (μ_lp1 : Nat) (m : Nat) (hm : m ≤ (ndD (rdC g R (nI a)))) (hmm : 4 ≤ m + μ_lp1) (hdg : ∀ j, j < m → dgS ((ccR g R) (a + 1 + j)) = true), Go G mX11_firstMisfit 5 0 0 Q9 0 0 36 [some (.ref b), some (.int (nI a)), some (.int (nI (ndD (rdC g R (nI a))))), some (.int (nI ((a + (ndD (rdC g R (nI a)))) + 1))), some (.int (nI (a + 1 + m)))] [] f n := by
            intro μ_lp1
            induction μ_lp1 with
            | zero =>
              intro m hm hmm hdg
              exact absurd hmm (by omega)
            | succ μ_lp1 ih_lp1 =>
              intro m hm hmm hdg
              refine go_iload dX11_firstMisfit_36 rfl ?_
              refine go_iload_n dX11_firstMisfit_38 rfl ?_
              refine go_icmp_ge dX11_firstMisfit_39 (fun c39 => ?_) (fun c39 => ?_)
              · have c39n := (nI_leI (a := (a + (ndD (rdC g R (nI a)))) + 1) (b := a + 1 + m) (by omega) (by omega)).mp c39
                have c39n := Nat.not_lt.mpr c39n
                have c39 := Int32.not_lt.mpr c39
                refine go_aload_n dX11_firstMisfit_66 rfl ?_
                refine go_iload_n dX11_firstMisfit_67 rfl ?_
                refine go_Vr [.int (nI ((a + (ndD (rdC g R (nI a)))) + 1))] [] dX11_firstMisfit_68 vl_X11_73 ⟨by decide, by decide⟩ (e_X4_at hrb hb1 hb2 hra ha1 ha2 hR) hrb hb1 (by omega) rfl rfl (Nat.le_of_ble_eq_true rfl) (Nat.le_of_ble_eq_true rfl) (Nat.le_of_ble_eq_true rfl) ?_
                refine go_bipush (v := 59) dX11_firstMisfit_71 rfl ?_
                refine go_icmp_eq dX11_firstMisfit_73 (fun c73 => ?_) (fun c73 => ?_)
                · refine go_iload_n dX11_firstMisfit_78 rfl ?_
                  refine go_iconst (v := 1) dX11_firstMisfit_79 rfl ?_
                  refine go_iadd dX11_firstMisfit_80 ?_
                  refine go_tp (z := nI (((a + (ndD (rdC g R (nI a)))) + 1) + 1)) (nI_add ((a + (ndD (rdC g R (nI a)))) + 1) 1) ?_
                  refine go_istore_n (ls' := [some (.ref b), some (.int (nI (((a + (ndD (rdC g R (nI a)))) + 1) + 1))), some (.int (nI (ndD (rdC g R (nI a))))), some (.int (nI ((a + (ndD (rdC g R (nI a)))) + 1))), some (.int (nI (a + 1 + m)))]) dX11_firstMisfit_81 ⟨by decide, rfl, rfl⟩ ?_
                  refine go_goto dX11_firstMisfit_82 ?_
                  refine go_weak (ls' := [some (.ref b), some (.int (nI (((a + (ndD (rdC g R (nI a)))) + 1) + 1))), none, none, none]) ⟨rfl, rfl, trivial⟩ ?_
                  have hst := st_4 (c := (ccR g R)) (a := a) (m := m) hl.1 hdg (by show m = ndS (rdC g R (nI a)); omega) (by rw [show a + 1 + m = (a + (ndD (rdC g R (nI a)))) + 1 by omega]; exact c73)
                  obtain ⟨fu2, hfm2, hfu2⟩ := fm_go (c := (ccR g R)) (R := R) c7n hfu hst (by omega)
                  rw [show a + 1 + m + 1 = a + (ndD (rdC g R (nI a))) + 1 + 1 by omega] at hfm2 hfu2
                  exact ih_lp0 _ fu2 (by omega) (by omega) (hfm.trans hfm2) (by omega)
                · refine go_iload_n dX11_firstMisfit_76 rfl ?_
                  exact go_iret dX11_firstMisfit_77 rfl (Nat.le_of_ble_eq_true rfl) (Nat.le_of_ble_eq_true rfl) (hQ9 ▸ ⟨rd_i (by rw [hfm, fm_stop c7n hfu (st_3 (c := (ccR g R)) (m := m) hl.1 hdg (by have := hl.2; show m = ndS (rdC g R (nI a)); omega) (by rw [show a + 1 + m = (a + (ndD (rdC g R (nI a)))) + 1 by omega]; exact c73)), show a + 1 + m = (a + (ndD (rdC g R (nI a)))) + 1 by omega]), rfl, rfl⟩)
              · have c39n := mt (nI_leI (a := (a + (ndD (rdC g R (nI a)))) + 1) (b := a + 1 + m) (by omega) (by omega)).mpr c39
                have c39n := Nat.lt_of_not_le c39n
                have c39 := Int32.not_le.mp c39
                refine go_aload_n dX11_firstMisfit_42 rfl ?_
                refine go_iload dX11_firstMisfit_43 rfl ?_
                refine go_Vr [.int (nI (a + 1 + m))] [] dX11_firstMisfit_45 vl_X11_353 ⟨by decide, by decide⟩ (e_X4_digitAt hrb hb1 hb2 hra ha1 ha2 hR) hrb hb1 (by omega) rfl rfl (Nat.le_of_ble_eq_true rfl) (Nat.le_of_ble_eq_true rfl) (Nat.le_of_ble_eq_true rfl) ?_
                refine go_iconst (v := 0) dX11_firstMisfit_48 rfl ?_
                refine go_bipush (v := 9) dX11_firstMisfit_49 rfl ?_
                refine go_Sr [.int (rdC g R (nI (a + 1 + m)) - 48), .int 0, .int 9] [] dX11_firstMisfit_51 sl_X11_126 ⟨by decide, by decide⟩ (e_X11_isWithin) rfl rfl (Nat.le_of_ble_eq_true rfl) (Nat.le_of_ble_eq_true rfl) (Nat.le_of_ble_eq_true rfl) ?_
                refine go_if_ne dX11_firstMisfit_54 (fun c54 => ?_) (fun c54 => ?_)
                · have c54 := bz_t c54
                  refine go_iinc (v := nI ((a + 1 + m) + 1)) (ls' := [some (.ref b), some (.int (nI a)), some (.int (nI (ndD (rdC g R (nI a))))), some (.int (nI ((a + (ndD (rdC g R (nI a)))) + 1))), some (.int (nI ((a + 1 + m) + 1)))]) dX11_firstMisfit_60 rfl (nI_1 (a + 1 + m)) ⟨by decide, rfl, rfl⟩ ?_
                  refine go_goto dX11_firstMisfit_63 ?_
                  exact ih_lp1 (m + 1) (by omega) (by omega) (fun j hj => (Nat.lt_succ_iff_lt_or_eq.mp hj).elim (hdg j) (fun e => e ▸ dg_okr.mp c54))
                · have c54 := bz_f c54
                  refine go_iload dX11_firstMisfit_57 rfl ?_
                  exact go_iret dX11_firstMisfit_59 rfl (Nat.le_of_ble_eq_true rfl) (Nat.le_of_ble_eq_true rfl) (hQ9 ▸ ⟨rd_i (by rw [hfm, fm_stop c7n hfu (st_2 (c := (ccR g R)) (m := m) hl.1 hdg (by have := hl.2; show m < ndS (rdC g R (nI a)); omega) (Bool.eq_false_iff.mpr (mt dg_okr.mpr c54)))]), rfl, rfl⟩)
          exact lp1 4 0 (Nat.zero_le _) (by omega) (fun j hj => absurd hj (by omega))
        · have c20n := (n0_eq (a := ndD (rdC g R (nI a))) (by omega)).mp c20
          refine go_iload_n dX11_firstMisfit_23 rfl ?_
          exact go_iret dX11_firstMisfit_24 rfl (Nat.le_of_ble_eq_true rfl) (Nat.le_of_ble_eq_true rfl) (hQ9 ▸ ⟨rd_i (by rw [hfm, fm_stop c7n hfu (st_1 (c := (ccR g R)) (ndD_n c20n))]), rfl, rfl⟩)
  exact lp0 106 0 101 (by omega) (by omega) rfl (by omega)
end D15
