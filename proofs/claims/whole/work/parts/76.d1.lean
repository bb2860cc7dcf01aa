/-! the face: the object at x, now at s -/
def xfs (s i t w os rs : Nat) (b : Int32) : List Value := [.ref s, .ref i, .ref t, .ref w, .ref os, .ref rs, .int b]
/-- the object at x in what lies under the schools -/
def xoK (G : GX) (m0 : Mem) (x s i t w os rs n : Nat) (b : Int32) : Prop := m0 x = ob 11 (xfs s i t w os rs b) ∧ G.2.1 ≤ x ∧ x < n ∧ (x < s ∨ s + 8 ≤ x)
theorem xoK.at {G : GX} {m0 : Mem} {x s i t w os rs n : Nat} {b : Int32} {F : Nat → Int32} {W : Nat → Option Nat} {A : Nat → Nat → Int32} {B : Nat → Int32} (h : xoK G m0 x s i t w os rs n b) : sc G m0 s F W A B x = ob 11 (xfs s i t w os rs b) := (sc_out h.2.2.2).trans h.1
def cclS (N : Nat) (A : Nat → Nat → Int32) (what : Int32) : Int32 := if okr what 0 1 = true then (if what = 0 then cnS (lcP N A) N else fcB N A 0 N) else -1
def craS (N : Nat) (A : Nat → Nat → Int32) (what : Int32) : Int32 := if okr what 0 1 = true then (if what = 0 then c2U (rcP N A) N N else f2B (rcP N A) N 0 N) else -1
def choS (N : Nat) (A : Nat → Nat → Int32) (what : Int32) : Int32 := if okr what 0 1 = true then (if what = 0 then wantS N A (fhB N A 5) else nI (fhB N A 5)) else -1
def ctuS (N : Nat) (A : Nat → Nat → Int32) (what : Int32) : Int32 := if okr what 0 1 = true then (if what = 0 then tlB A true N else tlB A false N) else -1
def clkS (N M : Nat) (A : Nat → Nat → Int32) (l what : Int32) : Int32 := if okp M l = true then (if what = 0 then A 5 l.toNatClampNeg else if what = 1 then A 6 l.toNatClampNeg else if what = 2 then A 7 l.toNatClampNeg else if what = 3 then inS N (A 4) l else -1) else -1
def cdeS (N : Nat) (A : Nat → Nat → Int32) (p v law : Int32) : Int32 := if okp N p = true ∧ okr v 0 999 = true ∧ okr law 0 2 = true then (if A 4 p.toNatClampNeg = 9 then -3 else dpS N A p.toNatClampNeg v law) else -1
def cenS (N : Nat) (A : Nat → Nat → Int32) (p : Int32) : Int32 := if p = -1 then smS (evS N A) N else if okp N p = true then evS N A p.toNatClampNeg else -1
/-- the greatest price at which as many pay, from k - 1 down -/
def pwR (N : Nat) (A : Nat → Nat → Int32) (x : Int32) : Nat → Int32
  | 0 => -4
  | k + 1 => if wpS N A (nI k) < x then pwR N A x k else nI k
def wdS (N M : Nat) (A : Nat → Nat → Int32) (what : Int32) : Int32 := if okr what 0 1 = true then btB (fun l => decide (inS N (A 4) (nI l) = if what = 0 then 1 else 0)) M else -1
def pwL (b : Int64) : Nat → Int64
  | 0 => 1
  | k + 1 => pwL b k * b
section D1
variable {G : GX} {m0 f : Mem} {x s i t w os rs n N M : Nat} {F : Nat → Int32} {W : Nat → Option Nat} {A : Nat → Nat → Int32} {B : Nat → Int32} {b : Int32}
set_option maxHeartbeats 4000000 in
set_option maxRecDepth 100000 in
theorem e_X11_toldAbove {v : Int32} : Ev G mX11_toldAbove 1 0 0 [.int v] f n (RD (.int (1000000000 - v)) f n) := by
  generalize hQ9 : (RD (.int (1000000000 - v)) f n : RQ) = Q9
  refine ev_of (by decide) (Nat.le_of_ble_eq_true rfl) (ls := [some (.int v)]) rfl (fun hb => ?_)
  refine go_ldcw (v := 1000000000) dX11_toldAbove_0 wm_517 ?_
  refine go_iload_n dX11_toldAbove_3 rfl ?_
  refine go_isub dX11_toldAbove_4 ?_
  exact go_iret dX11_toldAbove_5 rfl (Nat.le_of_ble_eq_true rfl) (Nat.le_of_ble_eq_true rfl) (hQ9 ▸ ⟨rfl, rfl, rfl⟩)
set_option maxHeartbeats 4000000 in
set_option maxRecDepth 100000 in
theorem e_X11_power {z : Int64} {E : Nat} (hE : E < 100) : Ev G mX11_power 1 0 0 [.long z, .int (nI E)] f n (RD (.long (pwL z E)) f n) := by
  generalize hQ9 : (RD (.long (pwL z E)) f n : RQ) = Q9
  refine ev_of (by decide) (Nat.le_of_ble_eq_true rfl) (ls := [some (.long z), none, some (.int (nI E)), none, none, none]) rfl (fun hb => ?_)
  refine go_lconst (v := 1) dX11_power_0 rfl ?_
  refine go_lstore_n (ls' := [some (.long z), none, some (.int (nI E)), some (.long 1), none, none]) dX11_power_1 ⟨by decide, rfl, rfl⟩ ?_
  refine go_iconst (v := 0) dX11_power_2 rfl ?_
  refine go_istore (ls' := [some (.long z), none, some (.int (nI E)), some (.long 1), none, some (.int 0)]) dX11_power_3 ⟨by decide, rfl, rfl⟩ ?_
  have lp0 : ∀ (μ_lp0 : Nat) (k : Nat) (y : Int64) (hk : k ≤ E) (hmk : E + 1 ≤ k + μ_lp0) (hy : y = pwL z k), Go G mX11_power 1 0 0 Q9 0 0 5 [some (.long z), none, some (.int (nI E)), some (.long y), none, some (.int (nI k))] [] f n := by
    intro μ_lp0
    induction μ_lp0 with
    | zero =>
      intro k y hk hmk hy
      exact absurd hmk (by omega)
    | succ μ_lp0 ih_lp0 =>
      intro k y hk hmk hy
      refine go_iload dX11_power_5 rfl ?_
      refine go_iload_n dX11_power_7 rfl ?_
      refine go_icmp_ge dX11_power_8 (fun c8 => ?_) (fun c8 => ?_)
      · have c8n := (nI_leI (a := E) (b := k) (by omega) (by omega)).mp c8
        have c8n := Nat.not_lt.mpr c8n
        have c8 := Int32.not_lt.mpr c8
        refine go_lload_n dX11_power_21 rfl ?_
        exact go_lret dX11_power_22 rfl (Nat.le_of_ble_eq_true rfl) (Nat.le_of_ble_eq_true rfl) (hQ9 ▸ ⟨rd_l (by rw [hy, show k = E by omega]), rfl, rfl⟩)
      · have c8n := mt (nI_leI (a := E) (b := k) (by omega) (by omega)).mpr c8
        have c8n := Nat.lt_of_not_le c8n
        have c8 := Int32.not_le.mp c8
        refine go_lload_n dX11_power_11 rfl ?_
        refine go_lload_n dX11_power_12 rfl ?_
        refine go_lmul dX11_power_13 ?_
        refine go_lstore_n (ls' := [some (.long z), none, some (.int (nI E)), some (.long ((y) * (z))), none, some (.int (nI k))]) dX11_power_14 ⟨by decide, rfl, rfl⟩ ?_
        refine go_iinc (v := nI (k + 1)) (ls' := [some (.long z), none, some (.int (nI E)), some (.long ((y) * (z))), none, some (.int (nI (k + 1)))]) dX11_power_15 rfl (nI_1 (k)) ⟨by decide, rfl, rfl⟩ ?_
        refine go_goto dX11_power_18 ?_
        exact ih_lp0 (k + 1) _ (by omega) (by omega) (by unfold pwL; rw [← hy])
  exact lp0 (E + 1) 0 _ (Nat.zero_le _) (by omega) rfl
set_option maxHeartbeats 4000000 in
set_option maxRecDepth 100000 in
theorem e_X11_pupil (hX : xoK G m0 x s i t w os rs n b) (hq : G.2.1 ≤ s) (hn : s + 8 ≤ n) (hN : F 0 = nI N) (hN8 : N ≤ 8) (hw : whoOK G m0 s n W A) {p what : Int32} : Ev G mX11_pupil 7 0 0 [.ref x, .int p, .int what] (sc G m0 s F W A B) n (RD (.int (pupS N A p what)) (sc G m0 s F W A B) n) := by
  generalize hQ9 : (RD (.int (pupS N A p what)) (sc G m0 s F W A B) n : RQ) = Q9
  refine ev_of (by decide) (Nat.le_of_ble_eq_true rfl) (ls := [some (.ref x), some (.int p), some (.int what), none]) rfl (fun hb => ?_)
  refine go_aload_n dX11_pupil_0 rfl ?_
  refine go_get dX11_pupil_1 fl_X11_10_11 hX.at hX.2.1 hX.2.2.1 rfl ?_
  refine go_iload_n dX11_pupil_4 rfl ?_
  refine go_Vr [.int p] [] dX11_pupil_5 vl_X11_79 ⟨by decide, by decide⟩ (e_X5_hasPupil (F := F) (W := W) (A := A) (B := B) hq hn hN hN8) sc_obj hq (by omega) rfl rfl (Nat.le_of_ble_eq_true rfl) (Nat.le_of_ble_eq_true rfl) (Nat.le_of_ble_eq_true rfl) ?_
  refine go_if_ne dX11_pupil_8 (fun c8 => ?_) (fun c8 => ?_)
  · have c8 := bz_t c8
    obtain ⟨jp, hjp, rfl⟩ := okp_nI c8 (by omega)
    have kjp : (nI jp).toNatClampNeg = jp := nI_clamp (by omega)
    refine go_aload_n dX11_pupil_13 rfl ?_
    refine go_get dX11_pupil_14 fl_X11_10_11 hX.at hX.2.1 hX.2.2.1 rfl ?_
    refine go_get dX11_pupil_17 fl_X11_83_5 sc_obj hq (by omega) rfl ?_
    refine go_iload_n dX11_pupil_20 rfl ?_
    obtain ⟨w21, ew21, hw21⟩ := who_at hw jp (by omega)
    refine go_oald dX11_pupil_21 sc_1 (by omega) (by omega) (vp_in_nI (n := jp) (by show jp < 8; omega) (by decide)) ?_
    refine go_tv (w := .ref w21) (by rw [nI_clamp (by omega), ew21]; rfl) ?_
    refine go_astore_n (ls' := [some (.ref x), some (.int (nI jp)), some (.int what), some (.ref w21)]) dX11_pupil_22 ⟨by decide, rfl, rfl⟩ ?_
    refine go_iload_n dX11_pupil_23 rfl ?_
    by_cases e24_0 : (what : Int32) = 0
    · refine go_tp e24_0 ?_
      refine go_tableIn (off := 44) (tgt := 68) dX11_pupil_24 (by decide) (by decide) (by decide) (by decide) ?_
      refine go_aload_n dX11_pupil_68 rfl ?_
      refine go1_X11_kind hw21 dX11_pupil_69 rfl (by omega) (Nat.le_of_ble_eq_true rfl) (Nat.le_of_ble_eq_true rfl) (Nat.le_of_ble_eq_true rfl) ?_
      exact go_iret dX11_pupil_72 rfl (Nat.le_of_ble_eq_true rfl) (Nat.le_of_ble_eq_true rfl) ((hQ9 ▸ ⟨rd_i (a := A 1 jp) (by simp [pupS, c8, kjp, e24_0]), rfl, rfl⟩))
    · by_cases e24_1 : (what : Int32) = 1
      · refine go_tp e24_1 ?_
        refine go_tableIn (off := 49) (tgt := 73) dX11_pupil_24 (by decide) (by decide) (by decide) (by decide) ?_
        refine go_aload_n dX11_pupil_73 rfl ?_
        refine go1_X11_figure hw21 dX11_pupil_74 rfl ?_
        exact go_iret dX11_pupil_77 rfl (Nat.le_of_ble_eq_true rfl) (Nat.le_of_ble_eq_true rfl) ((hQ9 ▸ ⟨rd_i (a := A 2 jp) (by simp [pupS, c8, kjp, e24_0, e24_1]), rfl, rfl⟩))
      · by_cases e24_2 : (what : Int32) = 2
        · refine go_tp e24_2 ?_
          refine go_tableIn (off := 54) (tgt := 78) dX11_pupil_24 (by decide) (by decide) (by decide) (by decide) ?_
          refine go_aload_n dX11_pupil_78 rfl ?_
          refine go_get dX11_pupil_79 fl_X11_10_11 hX.at hX.2.1 hX.2.2.1 rfl ?_
          refine go_get dX11_pupil_82 fl_X11_92_5 sc_obj hq (by omega) rfl ?_
          refine go_iload_n dX11_pupil_85 rfl ?_
          refine go_iald dX11_pupil_86 sc_2 (by omega) (by omega) (vp_in_nI (n := jp) (by show jp < 8; omega) (by decide)) ?_
          refine go_tp (z := A 3 jp) (by rw [nI_clamp (by omega)]) ?_
          exact go_iret dX11_pupil_87 rfl (Nat.le_of_ble_eq_true rfl) (Nat.le_of_ble_eq_true rfl) ((hQ9 ▸ ⟨rd_i (a := A 3 jp) (by simp [pupS, c8, kjp, e24_0, e24_1, e24_2]), rfl, rfl⟩))
        · by_cases e24_3 : (what : Int32) = 3
          · refine go_tp e24_3 ?_
            refine go_tableIn (off := 64) (tgt := 88) dX11_pupil_24 (by decide) (by decide) (by decide) (by decide) ?_
            refine go_aload_n dX11_pupil_88 rfl ?_
            refine go_get dX11_pupil_89 fl_X11_10_11 hX.at hX.2.1 hX.2.2.1 rfl ?_
            refine go_get dX11_pupil_92 fl_X11_96_5 sc_obj hq (by omega) rfl ?_
            refine go_iload_n dX11_pupil_95 rfl ?_
            refine go_iald dX11_pupil_96 sc_3 (by omega) (by omega) (vp_in_nI (n := jp) (by show jp < 8; omega) (by decide)) ?_
            refine go_tp (z := A 4 jp) (by rw [nI_clamp (by omega)]) ?_
            exact go_iret dX11_pupil_97 rfl (Nat.le_of_ble_eq_true rfl) (Nat.le_of_ble_eq_true rfl) ((hQ9 ▸ ⟨rd_i (a := A 4 jp) (by simp [pupS, c8, kjp, e24_0, e24_1, e24_2, e24_3]), rfl, rfl⟩))
          · by_cases e24_4 : (what : Int32) = 4
            · refine go_tp e24_4 ?_
              refine go_tableIn (off := 74) (tgt := 98) dX11_pupil_24 (by decide) (by decide) (by decide) (by decide) ?_
              refine go_aload_n dX11_pupil_98 rfl ?_
              refine go1_X11_damp hw21 dX11_pupil_99 rfl (by omega) (Nat.le_of_ble_eq_true rfl) (Nat.le_of_ble_eq_true rfl) (Nat.le_of_ble_eq_true rfl) ?_
              exact go_iret dX11_pupil_102 rfl (Nat.le_of_ble_eq_true rfl) (Nat.le_of_ble_eq_true rfl) ((hQ9 ▸ ⟨rd_i (a := dampS (A 1 jp)) (by simp [pupS, c8, kjp, e24_0, e24_1, e24_2, e24_3, e24_4]), rfl, rfl⟩))
            · by_cases e24_5 : (what : Int32) = 5
              · refine go_tp e24_5 ?_
                refine go_tableIn (off := 79) (tgt := 103) dX11_pupil_24 (by decide) (by decide) (by decide) (by decide) ?_
                refine go_aload_n dX11_pupil_103 rfl ?_
                refine go1_X11_room hw21 dX11_pupil_104 rfl (by omega) (Nat.le_of_ble_eq_true rfl) (Nat.le_of_ble_eq_true rfl) (Nat.le_of_ble_eq_true rfl) ?_
                exact go_iret dX11_pupil_107 rfl (Nat.le_of_ble_eq_true rfl) (Nat.le_of_ble_eq_true rfl) ((hQ9 ▸ ⟨rd_i (a := roomS (A 1 jp)) (by simp [pupS, c8, kjp, e24_0, e24_1, e24_2, e24_3, e24_4, e24_5]), rfl, rfl⟩))
              · by_cases e24_6 : (what : Int32) = 6
                · refine go_tp e24_6 ?_
                  refine go_tableIn (off := 84) (tgt := 108) dX11_pupil_24 (by decide) (by decide) (by decide) (by decide) ?_
                  refine go_aload_n dX11_pupil_108 rfl ?_
                  refine go_get dX11_pupil_109 fl_X11_10_11 hX.at hX.2.1 hX.2.2.1 rfl ?_
                  refine go_iload_n dX11_pupil_112 rfl ?_
                  refine go_Vr [.int (nI jp)] [] dX11_pupil_113 vl_X11_105 ⟨by decide, by decide⟩ (e_X5_mateOf (F := F) (W := W) (A := A) (B := B) hq hn hN hN8 (by omega)) sc_obj hq (by omega) rfl rfl (Nat.le_of_ble_eq_true rfl) (Nat.le_of_ble_eq_true rfl) (Nat.le_of_ble_eq_true rfl) ?_
                  exact go_iret dX11_pupil_116 rfl (Nat.le_of_ble_eq_true rfl) (Nat.le_of_ble_eq_true rfl) ((hQ9 ▸ ⟨rd_i (a := mateS N (A 4) jp) (by simp [pupS, c8, kjp, e24_0, e24_1, e24_2, e24_3, e24_4, e24_5, e24_6]), rfl, rfl⟩))
                · refine go_tableOut dX11_pupil_24 (tgt := 117) (by have := i32_ne (v := 0) (k := 0) rfl e24_0; have := i32_ne (v := 1) (k := 1) rfl e24_1; have := i32_ne (v := 2) (k := 2) rfl e24_2; have := i32_ne (v := 3) (k := 3) rfl e24_3; have := i32_ne (v := 4) (k := 4) rfl e24_4; have := i32_ne (v := 5) (k := 5) rfl e24_5; have := i32_ne (v := 6) (k := 6) rfl e24_6; omega) (by decide) ?_
                  refine go_iconst (v := (-1)) dX11_pupil_117 rfl ?_
                  exact go_iret dX11_pupil_118 rfl (Nat.le_of_ble_eq_true rfl) (Nat.le_of_ble_eq_true rfl) ((hQ9 ▸ ⟨rd_i (a := (-1)) (by simp [pupS, c8, kjp, e24_0, e24_1, e24_2, e24_3, e24_4, e24_5, e24_6]), rfl, rfl⟩))
  · have c8 := bz_f c8
    refine go_iconst (v := (-1)) dX11_pupil_11 rfl ?_
    exact go_iret dX11_pupil_12 rfl (Nat.le_of_ble_eq_true rfl) (Nat.le_of_ble_eq_true rfl) ((hQ9 ▸ ⟨rd_i (a := (-1)) (by simp [pupS, c8]), rfl, rfl⟩))
set_option maxHeartbeats 4000000 in
set_option maxRecDepth 100000 in
theorem e_X11_locker (hX : xoK G m0 x s i t w os rs n b) (hq : G.2.1 ≤ s) (hn : s + 8 ≤ n) (hN : F 0 = nI N) (hN8 : N ≤ 8) (hM : F 1 = nI M) (hM5 : M ≤ 5) {l what : Int32} : Ev G mX11_locker 7 0 0 [.ref x, .int l, .int what] (sc G m0 s F W A B) n (RD (.int (clkS N M A l what)) (sc G m0 s F W A B) n) := by
  generalize hQ9 : (RD (.int (clkS N M A l what)) (sc G m0 s F W A B) n : RQ) = Q9
  refine ev_of (by decide) (Nat.le_of_ble_eq_true rfl) (ls := [some (.ref x), some (.int l), some (.int what)]) rfl (fun hb => ?_)
  refine go_aload_n dX11_locker_0 rfl ?_
  refine go_get dX11_locker_1 fl_X11_10_11 hX.at hX.2.1 hX.2.2.1 rfl ?_
  refine go_iload_n dX11_locker_4 rfl ?_
  refine go_Vr [.int l] [] dX11_locker_5 vl_X11_108 ⟨by decide, by decide⟩ (e_X5_hasLocker (F := F) (W := W) (A := A) (B := B) hq hn hM hM5) sc_obj hq (by omega) rfl rfl (Nat.le_of_ble_eq_true rfl) (Nat.le_of_ble_eq_true rfl) (Nat.le_of_ble_eq_true rfl) ?_
  refine go_if_ne dX11_locker_8 (fun c8 => ?_) (fun c8 => ?_)
  · have c8 := bz_t c8
    obtain ⟨jl, hjl, rfl⟩ := okp_nI c8 (by omega)
    have kjl : (nI jl).toNatClampNeg = jl := nI_clamp (by omega)
    refine go_iload_n dX11_locker_13 rfl ?_
    by_cases e14_0 : (what : Int32) = 0
    · refine go_tp e14_0 ?_
      refine go_tableIn (off := 30) (tgt := 44) dX11_locker_14 (by decide) (by decide) (by decide) (by decide) ?_
      refine go_aload_n dX11_locker_44 rfl ?_
      refine go_get dX11_locker_45 fl_X11_10_11 hX.at hX.2.1 hX.2.2.1 rfl ?_
      refine go_get dX11_locker_48 fl_X11_111_5 sc_obj hq (by omega) rfl ?_
      refine go_iload_n dX11_locker_51 rfl ?_
      refine go_iald dX11_locker_52 sc_5 (by omega) (by omega) (vp_in_nI (n := jl) (by show jl < 5; omega) (by decide)) ?_
      refine go_tp (z := A 5 jl) (by rw [nI_clamp (by omega)]) ?_
      exact go_iret dX11_locker_53 rfl (Nat.le_of_ble_eq_true rfl) (Nat.le_of_ble_eq_true rfl) ((hQ9 ▸ ⟨rd_i (a := A 5 jl) (by simp [clkS, c8, kjl, e14_0]), rfl, rfl⟩))
    · by_cases e14_1 : (what : Int32) = 1
      · refine go_tp e14_1 ?_
        refine go_tableIn (off := 40) (tgt := 54) dX11_locker_14 (by decide) (by decide) (by decide) (by decide) ?_
        refine go_aload_n dX11_locker_54 rfl ?_
        refine go_get dX11_locker_55 fl_X11_10_11 hX.at hX.2.1 hX.2.2.1 rfl ?_
        refine go_get dX11_locker_58 fl_X11_114_5 sc_obj hq (by omega) rfl ?_
        refine go_iload_n dX11_locker_61 rfl ?_
        refine go_iald dX11_locker_62 sc_6 (by omega) (by omega) (vp_in_nI (n := jl) (by show jl < 5; omega) (by decide)) ?_
        refine go_tp (z := A 6 jl) (by rw [nI_clamp (by omega)]) ?_
        exact go_iret dX11_locker_63 rfl (Nat.le_of_ble_eq_true rfl) (Nat.le_of_ble_eq_true rfl) ((hQ9 ▸ ⟨rd_i (a := A 6 jl) (by simp [clkS, c8, kjl, e14_0, e14_1]), rfl, rfl⟩))
      · by_cases e14_2 : (what : Int32) = 2
        · refine go_tp e14_2 ?_
          refine go_tableIn (off := 50) (tgt := 64) dX11_locker_14 (by decide) (by decide) (by decide) (by decide) ?_
          refine go_aload_n dX11_locker_64 rfl ?_
          refine go_get dX11_locker_65 fl_X11_10_11 hX.at hX.2.1 hX.2.2.1 rfl ?_
          refine go_get dX11_locker_68 fl_X11_117_5 sc_obj hq (by omega) rfl ?_
          refine go_iload_n dX11_locker_71 rfl ?_
          refine go_iald dX11_locker_72 sc_7 (by omega) (by omega) (vp_in_nI (n := jl) (by show jl < 5; omega) (by decide)) ?_
          refine go_tp (z := A 7 jl) (by rw [nI_clamp (by omega)]) ?_
          exact go_iret dX11_locker_73 rfl (Nat.le_of_ble_eq_true rfl) (Nat.le_of_ble_eq_true rfl) ((hQ9 ▸ ⟨rd_i (a := A 7 jl) (by simp [clkS, c8, kjl, e14_0, e14_1, e14_2]), rfl, rfl⟩))
        · by_cases e14_3 : (what : Int32) = 3
          · refine go_tp e14_3 ?_
            refine go_tableIn (off := 60) (tgt := 74) dX11_locker_14 (by decide) (by decide) (by decide) (by decide) ?_
            refine go_aload_n dX11_locker_74 rfl ?_
            refine go_get dX11_locker_75 fl_X11_10_11 hX.at hX.2.1 hX.2.2.1 rfl ?_
            refine go_iload_n dX11_locker_78 rfl ?_
            refine go_Vr [.int (nI jl)] [] dX11_locker_79 vl_X11_120 ⟨by decide, by decide⟩ (e_X5_howManyIn (F := F) (W := W) (A := A) (B := B) hq hn hN hN8) sc_obj hq (by omega) rfl rfl (Nat.le_of_ble_eq_true rfl) (Nat.le_of_ble_eq_true rfl) (Nat.le_of_ble_eq_true rfl) ?_
            exact go_iret dX11_locker_82 rfl (Nat.le_of_ble_eq_true rfl) (Nat.le_of_ble_eq_true rfl) ((hQ9 ▸ ⟨rd_i (a := inS N (A 4) (nI jl)) (by simp [clkS, c8, kjl, e14_0, e14_1, e14_2, e14_3]), rfl, rfl⟩))
          · refine go_tableOut dX11_locker_14 (tgt := 83) (by have := i32_ne (v := 0) (k := 0) rfl e14_0; have := i32_ne (v := 1) (k := 1) rfl e14_1; have := i32_ne (v := 2) (k := 2) rfl e14_2; have := i32_ne (v := 3) (k := 3) rfl e14_3; omega) (by decide) ?_
            refine go_iconst (v := (-1)) dX11_locker_83 rfl ?_
            exact go_iret dX11_locker_84 rfl (Nat.le_of_ble_eq_true rfl) (Nat.le_of_ble_eq_true rfl) ((hQ9 ▸ ⟨rd_i (a := (-1)) (by simp [clkS, c8, kjl, e14_0, e14_1, e14_2, e14_3]), rfl, rfl⟩))
  · have c8 := bz_f c8
    refine go_iconst (v := (-1)) dX11_locker_11 rfl ?_
    exact go_iret dX11_locker_12 rfl (Nat.le_of_ble_eq_true rfl) (Nat.le_of_ble_eq_true rfl) ((hQ9 ▸ ⟨rd_i (a := (-1)) (by simp [clkS, c8]), rfl, rfl⟩))
set_option maxHeartbeats 4000000 in
set_option maxRecDepth 100000 in
theorem e_X11_bears (hX : xoK G m0 x s i t w os rs n b) (hq : G.2.1 ≤ s) (hn : s + 8 ≤ n) (hN : F 0 = nI N) (hN8 : N ≤ 8) (hbe : ∀ a b, a < N → b < N → B (a * 8 + b) = brS A a b) {a z : Int32} : Ev G mX11_bears 7 0 0 [.ref x, .int a, .int z] (sc G m0 s F W A B) n (RD (.int (bearsS N A a z)) (sc G m0 s F W A B) n) := by
  generalize hQ9 : (RD (.int (bearsS N A a z)) (sc G m0 s F W A B) n : RQ) = Q9
  refine ev_of (by decide) (Nat.le_of_ble_eq_true rfl) (ls := [some (.ref x), some (.int a), some (.int z)]) rfl (fun hb => ?_)
  refine go_aload_n dX11_bears_0 rfl ?_
  refine go_get dX11_bears_1 fl_X11_10_11 hX.at hX.2.1 hX.2.2.1 rfl ?_
  refine go_iload_n dX11_bears_4 rfl ?_
  refine go_Vr [.int a] [] dX11_bears_5 vl_X11_79 ⟨by decide, by decide⟩ (e_X5_hasPupil (F := F) (W := W) (A := A) (B := B) hq hn hN hN8) sc_obj hq (by omega) rfl rfl (Nat.le_of_ble_eq_true rfl) (Nat.le_of_ble_eq_true rfl) (Nat.le_of_ble_eq_true rfl) ?_
  refine go_if_eq dX11_bears_8 (fun c8 => ?_) (fun c8 => ?_)
  · have c8 := bz_f c8
    refine go_iconst (v := (-1)) dX11_bears_39 rfl ?_
    exact go_iret dX11_bears_40 rfl (Nat.le_of_ble_eq_true rfl) (Nat.le_of_ble_eq_true rfl) ((hQ9 ▸ ⟨rd_i (a := (-1)) (by simp [bearsS, twoS, c8]), rfl, rfl⟩))
  · have c8 := bz_t c8
    obtain ⟨ja, hja, rfl⟩ := okp_nI c8 (by omega)
    have kja : (nI ja).toNatClampNeg = ja := nI_clamp (by omega)
    refine go_aload_n dX11_bears_11 rfl ?_
    refine go_get dX11_bears_12 fl_X11_10_11 hX.at hX.2.1 hX.2.2.1 rfl ?_
    refine go_iload_n dX11_bears_15 rfl ?_
    refine go_Vr [.int z] [] dX11_bears_16 vl_X11_79 ⟨by decide, by decide⟩ (e_X5_hasPupil (F := F) (W := W) (A := A) (B := B) hq hn hN hN8) sc_obj hq (by omega) rfl rfl (Nat.le_of_ble_eq_true rfl) (Nat.le_of_ble_eq_true rfl) (Nat.le_of_ble_eq_true rfl) ?_
    refine go_if_eq dX11_bears_19 (fun c19 => ?_) (fun c19 => ?_)
    · have c19 := bz_f c19
      refine go_iconst (v := (-1)) dX11_bears_39 rfl ?_
      exact go_iret dX11_bears_40 rfl (Nat.le_of_ble_eq_true rfl) (Nat.le_of_ble_eq_true rfl) ((hQ9 ▸ ⟨rd_i (a := (-1)) (by simp [bearsS, twoS, c8, kja, c19]), rfl, rfl⟩))
    · have c19 := bz_t c19
      obtain ⟨jz, hjz, rfl⟩ := okp_nI c19 (by omega)
      have kjz : (nI jz).toNatClampNeg = jz := nI_clamp (by omega)
      refine go_iload_n dX11_bears_22 rfl ?_
      refine go_iload_n dX11_bears_23 rfl ?_
      refine go_icmp_eq dX11_bears_24 (fun c24 => ?_) (fun c24 => ?_)
      · have c24n := (nI_eq (a := ja) (b := jz) (by omega) (by omega)).mp c24
        refine go_iconst (v := (-1)) dX11_bears_39 rfl ?_
        exact go_iret dX11_bears_40 rfl (Nat.le_of_ble_eq_true rfl) (Nat.le_of_ble_eq_true rfl) ((hQ9 ▸ ⟨rd_i (a := (-1)) (by first | (simp [bearsS, twoS, c8, kja, c19, kjz, c24]; done) | (simp [bearsS, twoS, c8, kja, c19, kjz, c24, c24n]; done)), rfl, rfl⟩))
      · have c24n := mt (nI_eq (a := ja) (b := jz) (by omega) (by omega)).mpr c24
        refine go_aload_n dX11_bears_27 rfl ?_
        refine go_get dX11_bears_28 fl_X11_10_11 hX.at hX.2.1 hX.2.2.1 rfl ?_
        refine go_iload_n dX11_bears_31 rfl ?_
        refine go_iload_n dX11_bears_32 rfl ?_
        refine go_Vr [.int (nI ja), .int (nI jz)] [] dX11_bears_33 vl_X11_153 ⟨by decide, by decide⟩ (e_X5_bearingOf (F := F) (W := W) (A := A) (B := B) hq hn hbe (by omega) (by omega) hN8) sc_obj hq (by omega) rfl rfl (Nat.le_of_ble_eq_true rfl) (Nat.le_of_ble_eq_true rfl) (Nat.le_of_ble_eq_true rfl) ?_
        refine go_goto dX11_bears_36 ?_
        exact go_iret dX11_bears_40 rfl (Nat.le_of_ble_eq_true rfl) (Nat.le_of_ble_eq_true rfl) ((hQ9 ▸ ⟨rd_i (a := brS A ja jz) (by simp [bearsS, twoS, c8, kja, c19, kjz, c24, c24n]), rfl, rfl⟩))
set_option maxHeartbeats 4000000 in
set_option maxRecDepth 100000 in
theorem e_X11_trouble (hX : xoK G m0 x s i t w os rs n b) (hq : G.2.1 ≤ s) (hn : s + 8 ≤ n) (hN : F 0 = nI N) (hN8 : N ≤ 8) (hM : F 1 = nI M) (hM5 : M ≤ 5) (hw : whoOK G m0 s n W A) (hab : ∀ l, l < M → A 6 l = 0 ∨ A 6 l = 1) {p l : Int32} : Ev G mX11_trouble 7 0 0 [.ref x, .int p, .int l] (sc G m0 s F W A B) n (RD (.int (troubS N M A p l)) (sc G m0 s F W A B) n) := by
  generalize hQ9 : (RD (.int (troubS N M A p l)) (sc G m0 s F W A B) n : RQ) = Q9
  refine ev_of (by decide) (Nat.le_of_ble_eq_true rfl) (ls := [some (.ref x), some (.int p), some (.int l)]) rfl (fun hb => ?_)
  refine go_aload_n dX11_trouble_0 rfl ?_
  refine go_get dX11_trouble_1 fl_X11_10_11 hX.at hX.2.1 hX.2.2.1 rfl ?_
  refine go_iload_n dX11_trouble_4 rfl ?_
  refine go_Vr [.int p] [] dX11_trouble_5 vl_X11_79 ⟨by decide, by decide⟩ (e_X5_hasPupil (F := F) (W := W) (A := A) (B := B) hq hn hN hN8) sc_obj hq (by omega) rfl rfl (Nat.le_of_ble_eq_true rfl) (Nat.le_of_ble_eq_true rfl) (Nat.le_of_ble_eq_true rfl) ?_
  refine go_if_eq dX11_trouble_8 (fun c8 => ?_) (fun c8 => ?_)
  · have c8 := bz_f c8
    refine go_iconst (v := (-1)) dX11_trouble_34 rfl ?_
    exact go_iret dX11_trouble_35 rfl (Nat.le_of_ble_eq_true rfl) (Nat.le_of_ble_eq_true rfl) ((hQ9 ▸ ⟨rd_i (a := (-1)) (by simp [troubS, c8]), rfl, rfl⟩))
  · have c8 := bz_t c8
    obtain ⟨jp, hjp, rfl⟩ := okp_nI c8 (by omega)
    have kjp : (nI jp).toNatClampNeg = jp := nI_clamp (by omega)
    refine go_aload_n dX11_trouble_11 rfl ?_
    refine go_get dX11_trouble_12 fl_X11_10_11 hX.at hX.2.1 hX.2.2.1 rfl ?_
    refine go_iload_n dX11_trouble_15 rfl ?_
    refine go_Vr [.int l] [] dX11_trouble_16 vl_X11_108 ⟨by decide, by decide⟩ (e_X5_hasLocker (F := F) (W := W) (A := A) (B := B) hq hn hM hM5) sc_obj hq (by omega) rfl rfl (Nat.le_of_ble_eq_true rfl) (Nat.le_of_ble_eq_true rfl) (Nat.le_of_ble_eq_true rfl) ?_
    refine go_if_eq dX11_trouble_19 (fun c19 => ?_) (fun c19 => ?_)
    · have c19 := bz_f c19
      refine go_iconst (v := (-1)) dX11_trouble_34 rfl ?_
      exact go_iret dX11_trouble_35 rfl (Nat.le_of_ble_eq_true rfl) (Nat.le_of_ble_eq_true rfl) ((hQ9 ▸ ⟨rd_i (a := (-1)) (by simp [troubS, c8, kjp, c19]), rfl, rfl⟩))
    · have c19 := bz_t c19
      obtain ⟨jl, hjl, rfl⟩ := okp_nI c19 (by omega)
      have kjl : (nI jl).toNatClampNeg = jl := nI_clamp (by omega)
      refine go_aload_n dX11_trouble_22 rfl ?_
      refine go_get dX11_trouble_23 fl_X11_10_11 hX.at hX.2.1 hX.2.2.1 rfl ?_
      refine go_iload_n dX11_trouble_26 rfl ?_
      refine go_iload_n dX11_trouble_27 rfl ?_
      refine go_Vr [.int (nI jp), .int (nI jl)] [] dX11_trouble_28 vl_X11_156 ⟨by decide, by decide⟩ (e_X5_troubleOf (F := F) (W := W) (A := A) (B := B) hq hn hw hab (by omega) (by omega) hM5) sc_obj hq (by omega) rfl rfl (Nat.le_of_ble_eq_true rfl) (Nat.le_of_ble_eq_true rfl) (Nat.le_of_ble_eq_true rfl) ?_
      refine go_goto dX11_trouble_31 ?_
      exact go_iret dX11_trouble_35 rfl (Nat.le_of_ble_eq_true rfl) (Nat.le_of_ble_eq_true rfl) ((hQ9 ▸ ⟨rd_i (a := trS A jp jl) (by simp [troubS, c8, kjp, c19, kjl]), rfl, rfl⟩))
set_option maxHeartbeats 4000000 in
set_option maxRecDepth 100000 in
theorem e_X11_content (hX : xoK G m0 x s i t w os rs n b) (hq : G.2.1 ≤ s) (hn : s + 8 ≤ n) (hN : F 0 = nI N) (hN8 : N ≤ 8) (hM : F 1 = nI M) (hM5 : M ≤ 5) (hbe : ∀ a b, a < N → b < N → B (a * 8 + b) = brS A a b) (hw : whoOK G m0 s n W A) (hab : ∀ l, l < M → A 6 l = 0 ∨ A 6 l = 1) (hI : insOK N M (A 4)) {p : Int32} : Ev G mX11_content 7 0 0 [.ref x, .int p] (sc G m0 s F W A B) n (RD (.int (contS N A p)) (sc G m0 s F W A B) n) := by
  generalize hQ9 : (RD (.int (contS N A p)) (sc G m0 s F W A B) n : RQ) = Q9
  refine ev_of (by decide) (Nat.le_of_ble_eq_true rfl) (ls := [some (.ref x), some (.int p)]) rfl (fun hb => ?_)
  refine go_aload_n dX11_content_0 rfl ?_
  refine go_get dX11_content_1 fl_X11_10_11 hX.at hX.2.1 hX.2.2.1 rfl ?_
  refine go_iload_n dX11_content_4 rfl ?_
  refine go_Vr [.int p] [] dX11_content_5 vl_X11_79 ⟨by decide, by decide⟩ (e_X5_hasPupil (F := F) (W := W) (A := A) (B := B) hq hn hN hN8) sc_obj hq (by omega) rfl rfl (Nat.le_of_ble_eq_true rfl) (Nat.le_of_ble_eq_true rfl) (Nat.le_of_ble_eq_true rfl) ?_
  refine go_if_eq dX11_content_8 (fun c8 => ?_) (fun c8 => ?_)
  · have c8 := bz_f c8
    refine go_iconst (v := (-1)) dX11_content_22 rfl ?_
    refine go_Sr [.int (-1)] [] dX11_content_23 sl_X11_162 ⟨by decide, by decide⟩ (e_X11_toldAbove) rfl rfl (Nat.le_of_ble_eq_true rfl) (Nat.le_of_ble_eq_true rfl) (Nat.le_of_ble_eq_true rfl) ?_
    refine go_tp (z := 1000000001) (by decide) ?_
    exact go_iret dX11_content_26 rfl (Nat.le_of_ble_eq_true rfl) (Nat.le_of_ble_eq_true rfl) ((hQ9 ▸ ⟨rd_i (a := 1000000001) (by simp [contS, c8]), rfl, rfl⟩))
  · have c8 := bz_t c8
    obtain ⟨jp, hjp, rfl⟩ := okp_nI c8 (by omega)
    have kjp : (nI jp).toNatClampNeg = jp := nI_clamp (by omega)
    refine go_aload_n dX11_content_11 rfl ?_
    refine go_get dX11_content_12 fl_X11_10_11 hX.at hX.2.1 hX.2.2.1 rfl ?_
    refine go_iload_n dX11_content_15 rfl ?_
    refine go_Vr [.int (nI jp)] [] dX11_content_16 vl_X11_159 ⟨by decide, by decide⟩ (e_X5_contentOf (F := F) (W := W) (A := A) (B := B) hq hn hN hN8 hM hM5 hbe hw hab hI (by omega)) sc_obj hq (by omega) rfl rfl (Nat.le_of_ble_eq_true rfl) (Nat.le_of_ble_eq_true rfl) (Nat.le_of_ble_eq_true rfl) ?_
    refine go_goto dX11_content_19 ?_
    exact go_iret dX11_content_26 rfl (Nat.le_of_ble_eq_true rfl) (Nat.le_of_ble_eq_true rfl) ((hQ9 ▸ ⟨rd_i (a := ctS N A jp) (by simp [contS, c8, kjp]), rfl, rfl⟩))
set_option maxHeartbeats 4000000 in
set_option maxRecDepth 100000 in
theorem e_X11_clashes (hX : xoK G m0 x s i t w os rs n b) (hq : G.2.1 ≤ s) (hn : s + 8 ≤ n) (hN : F 0 = nI N) (hN8 : N ≤ 8) {what : Int32} : Ev G mX11_clashes 7 0 0 [.ref x, .int what] (sc G m0 s F W A B) n (RD (.int (cclS N A what)) (sc G m0 s F W A B) n) := by
  generalize hQ9 : (RD (.int (cclS N A what)) (sc G m0 s F W A B) n : RQ) = Q9
  refine ev_of (by decide) (Nat.le_of_ble_eq_true rfl) (ls := [some (.ref x), some (.int what)]) rfl (fun hb => ?_)
  refine go_iload_n dX11_clashes_0 rfl ?_
  refine go_iconst (v := 0) dX11_clashes_1 rfl ?_
  refine go_iconst (v := 1) dX11_clashes_2 rfl ?_
  refine go_Sr [.int what, .int 0, .int 1] [] dX11_clashes_3 sl_X11_126 ⟨by decide, by decide⟩ (e_X11_isWithin) rfl rfl (Nat.le_of_ble_eq_true rfl) (Nat.le_of_ble_eq_true rfl) (Nat.le_of_ble_eq_true rfl) ?_
  refine go_if_ne dX11_clashes_6 (fun c6 => ?_) (fun c6 => ?_)
  · have c6 := bz_t c6
    refine go_iload_n dX11_clashes_11 rfl ?_
    refine go_if_ne dX11_clashes_12 (fun c12 => ?_) (fun c12 => ?_)
    · refine go_aload_n dX11_clashes_25 rfl ?_
      refine go_get dX11_clashes_26 fl_X11_10_11 hX.at hX.2.1 hX.2.2.1 rfl ?_
      refine go_Vr [] [] dX11_clashes_29 vl_X11_168 ⟨by decide, by decide⟩ (e_X5_firstClash (F := F) (W := W) (A := A) (B := B) hq hn hN hN8) sc_obj hq (by omega) rfl rfl (Nat.le_of_ble_eq_true rfl) (Nat.le_of_ble_eq_true rfl) (Nat.le_of_ble_eq_true rfl) ?_
      exact go_iret dX11_clashes_32 rfl (Nat.le_of_ble_eq_true rfl) (Nat.le_of_ble_eq_true rfl) ((hQ9 ▸ ⟨rd_i (a := fcB N A 0 N) (by simp [cclS, c6, c12]), rfl, rfl⟩))
    · subst c12
      refine go_aload_n dX11_clashes_15 rfl ?_
      refine go_get dX11_clashes_16 fl_X11_10_11 hX.at hX.2.1 hX.2.2.1 rfl ?_
      refine go_Vr [] [] dX11_clashes_19 vl_X11_165 ⟨by decide, by decide⟩ (e_X5_howManyClash (F := F) (W := W) (A := A) (B := B) hq hn hN hN8) sc_obj hq (by omega) rfl rfl (Nat.le_of_ble_eq_true rfl) (Nat.le_of_ble_eq_true rfl) (Nat.le_of_ble_eq_true rfl) ?_
      refine go_goto dX11_clashes_22 ?_
      exact go_iret dX11_clashes_32 rfl (Nat.le_of_ble_eq_true rfl) (Nat.le_of_ble_eq_true rfl) ((hQ9 ▸ ⟨rd_i (a := cnS (lcP N A) N) (by simp [cclS, c6]), rfl, rfl⟩))
  · have c6 := bz_f c6
    refine go_iconst (v := (-1)) dX11_clashes_9 rfl ?_
    exact go_iret dX11_clashes_10 rfl (Nat.le_of_ble_eq_true rfl) (Nat.le_of_ble_eq_true rfl) ((hQ9 ▸ ⟨rd_i (a := (-1)) (by simp [cclS, c6]), rfl, rfl⟩))
set_option maxHeartbeats 4000000 in
set_option maxRecDepth 100000 in
theorem e_X11_rather (hX : xoK G m0 x s i t w os rs n b) (hq : G.2.1 ≤ s) (hn : s + 8 ≤ n) (hN : F 0 = nI N) (hN8 : N ≤ 8) (hbe : ∀ a b, a < N → b < N → B (a * 8 + b) = brS A a b) {what : Int32} : Ev G mX11_rather 7 0 0 [.ref x, .int what] (sc G m0 s F W A B) n (RD (.int (craS N A what)) (sc G m0 s F W A B) n) := by
  generalize hQ9 : (RD (.int (craS N A what)) (sc G m0 s F W A B) n : RQ) = Q9
  refine ev_of (by decide) (Nat.le_of_ble_eq_true rfl) (ls := [some (.ref x), some (.int what)]) rfl (fun hb => ?_)
  refine go_iload_n dX11_rather_0 rfl ?_
  refine go_iconst (v := 0) dX11_rather_1 rfl ?_
  refine go_iconst (v := 1) dX11_rather_2 rfl ?_
  refine go_Sr [.int what, .int 0, .int 1] [] dX11_rather_3 sl_X11_126 ⟨by decide, by decide⟩ (e_X11_isWithin) rfl rfl (Nat.le_of_ble_eq_true rfl) (Nat.le_of_ble_eq_true rfl) (Nat.le_of_ble_eq_true rfl) ?_
  refine go_if_ne dX11_rather_6 (fun c6 => ?_) (fun c6 => ?_)
  · have c6 := bz_t c6
    refine go_iload_n dX11_rather_11 rfl ?_
    refine go_if_ne dX11_rather_12 (fun c12 => ?_) (fun c12 => ?_)
    · refine go_aload_n dX11_rather_25 rfl ?_
      refine go_get dX11_rather_26 fl_X11_10_11 hX.at hX.2.1 hX.2.2.1 rfl ?_
      refine go_Vr [] [] dX11_rather_29 vl_X11_174 ⟨by decide, by decide⟩ (e_X5_firstRather (F := F) (W := W) (A := A) (B := B) hq hn hN hN8 hbe) sc_obj hq (by omega) rfl rfl (Nat.le_of_ble_eq_true rfl) (Nat.le_of_ble_eq_true rfl) (Nat.le_of_ble_eq_true rfl) ?_
      exact go_iret dX11_rather_32 rfl (Nat.le_of_ble_eq_true rfl) (Nat.le_of_ble_eq_true rfl) ((hQ9 ▸ ⟨rd_i (a := f2B (rcP N A) N 0 N) (by simp [craS, c6, c12]), rfl, rfl⟩))
    · subst c12
      refine go_aload_n dX11_rather_15 rfl ?_
      refine go_get dX11_rather_16 fl_X11_10_11 hX.at hX.2.1 hX.2.2.1 rfl ?_
      refine go_Vr [] [] dX11_rather_19 vl_X11_171 ⟨by decide, by decide⟩ (e_X5_howManyRather (F := F) (W := W) (A := A) (B := B) hq hn hN hN8 hbe) sc_obj hq (by omega) rfl rfl (Nat.le_of_ble_eq_true rfl) (Nat.le_of_ble_eq_true rfl) (Nat.le_of_ble_eq_true rfl) ?_
      refine go_goto dX11_rather_22 ?_
      exact go_iret dX11_rather_32 rfl (Nat.le_of_ble_eq_true rfl) (Nat.le_of_ble_eq_true rfl) ((hQ9 ▸ ⟨rd_i (a := c2U (rcP N A) N N) (by simp [craS, c6]), rfl, rfl⟩))
  · have c6 := bz_f c6
    refine go_iconst (v := (-1)) dX11_rather_9 rfl ?_
    exact go_iret dX11_rather_10 rfl (Nat.le_of_ble_eq_true rfl) (Nat.le_of_ble_eq_true rfl) ((hQ9 ▸ ⟨rd_i (a := (-1)) (by simp [craS, c6]), rfl, rfl⟩))
set_option maxHeartbeats 4000000 in
set_option maxRecDepth 100000 in
theorem e_X11_alone (hX : xoK G m0 x s i t w os rs n b) (hq : G.2.1 ≤ s) (hn : s + 8 ≤ n) (hN : F 0 = nI N) (hN8 : N ≤ 8) (hM : F 1 = nI M) (hM5 : M ≤ 5) (hbe : ∀ a b, a < N → b < N → B (a * 8 + b) = brS A a b) (hw : whoOK G m0 s n W A) (hab : ∀ l, l < M → A 6 l = 0 ∨ A 6 l = 1) (hI : insOK N M (A 4)) {z : Int32} : Ev G mX11_alone 7 0 0 [.ref x, .int z] (sc G m0 s F W A B) n (RD (.int (aloS N A z)) (sc G m0 s F W A B) n) := by
  generalize hQ9 : (RD (.int (aloS N A z)) (sc G m0 s F W A B) n : RQ) = Q9
  refine ev_of (by decide) (Nat.le_of_ble_eq_true rfl) (ls := [some (.ref x), some (.int z)]) rfl (fun hb => ?_)
  refine go_iload_n dX11_alone_0 rfl ?_
  refine go_iconst (v := 0) dX11_alone_1 rfl ?_
  refine go_bipush (v := 99) dX11_alone_2 rfl ?_
  refine go_Sr [.int z, .int 0, .int 99] [] dX11_alone_4 sl_X11_126 ⟨by decide, by decide⟩ (e_X11_isWithin) rfl rfl (Nat.le_of_ble_eq_true rfl) (Nat.le_of_ble_eq_true rfl) (Nat.le_of_ble_eq_true rfl) ?_
  refine go_if_eq dX11_alone_7 (fun c7 => ?_) (fun c7 => ?_)
  · have c7 := bz_f c7
    refine go_iconst (v := (-1)) dX11_alone_21 rfl ?_
    exact go_iret dX11_alone_22 rfl (Nat.le_of_ble_eq_true rfl) (Nat.le_of_ble_eq_true rfl) ((hQ9 ▸ ⟨rd_i (a := (-1)) (by simp [aloS, c7]), rfl, rfl⟩))
  · have c7 := bz_t c7
    refine go_aload_n dX11_alone_10 rfl ?_
    refine go_get dX11_alone_11 fl_X11_10_11 hX.at hX.2.1 hX.2.2.1 rfl ?_
    refine go_iload_n dX11_alone_14 rfl ?_
    refine go_Vr [.int z] [] dX11_alone_15 vl_X11_223 ⟨by decide, by decide⟩ (e_X5_howManyPay (F := F) (W := W) (A := A) (B := B) hq hn hN hN8 hM hM5 hbe hw hab hI) sc_obj hq (by omega) rfl rfl (Nat.le_of_ble_eq_true rfl) (Nat.le_of_ble_eq_true rfl) (Nat.le_of_ble_eq_true rfl) ?_
    refine go_goto dX11_alone_18 ?_
    exact go_iret dX11_alone_22 rfl (Nat.le_of_ble_eq_true rfl) (Nat.le_of_ble_eq_true rfl) ((hQ9 ▸ ⟨rd_i (a := wpS N A (z)) (by simp [aloS, c7]), rfl, rfl⟩))
set_option maxHeartbeats 4000000 in
set_option maxRecDepth 100000 in
theorem e_X11_hours (hX : xoK G m0 x s i t w os rs n b) (hq : G.2.1 ≤ s) (hn : s + 8 ≤ n) (hN : F 0 = nI N) (hN8 : N ≤ 8) {what : Int32} : Ev G mX11_hours 7 0 0 [.ref x, .int what] (sc G m0 s F W A B) n (RD (.int (choS N A what)) (sc G m0 s F W A B) n) := by
  generalize hQ9 : (RD (.int (choS N A what)) (sc G m0 s F W A B) n : RQ) = Q9
  refine ev_of (by decide) (Nat.le_of_ble_eq_true rfl) (ls := [some (.ref x), some (.int what), none]) rfl (fun hb => ?_)
  refine go_iload_n dX11_hours_0 rfl ?_
  refine go_iconst (v := 0) dX11_hours_1 rfl ?_
  refine go_iconst (v := 1) dX11_hours_2 rfl ?_
  refine go_Sr [.int what, .int 0, .int 1] [] dX11_hours_3 sl_X11_126 ⟨by decide, by decide⟩ (e_X11_isWithin) rfl rfl (Nat.le_of_ble_eq_true rfl) (Nat.le_of_ble_eq_true rfl) (Nat.le_of_ble_eq_true rfl) ?_
  refine go_if_ne dX11_hours_6 (fun c6 => ?_) (fun c6 => ?_)
  · have c6 := bz_t c6
    refine go_aload_n dX11_hours_11 rfl ?_
    refine go_get dX11_hours_12 fl_X11_10_11 hX.at hX.2.1 hX.2.2.1 rfl ?_
    refine go_Vr [] [] dX11_hours_15 vl_X11_229 ⟨by decide, by decide⟩ (e_X5_fullestHour (F := F) (W := W) (A := A) (B := B) hq hn hN hN8) sc_obj hq (by omega) rfl rfl (Nat.le_of_ble_eq_true rfl) (Nat.le_of_ble_eq_true rfl) (Nat.le_of_ble_eq_true rfl) ?_
    have hfh := fhB_le (N := N) (A := A) 5
    refine go_istore_n (ls' := [some (.ref x), some (.int what), some (.int (nI (fhB N A 5)))]) dX11_hours_18 ⟨by decide, rfl, rfl⟩ ?_
    refine go_iload_n dX11_hours_19 rfl ?_
    refine go_if_ne dX11_hours_20 (fun c20 => ?_) (fun c20 => ?_)
    · refine go_iload_n dX11_hours_34 rfl ?_
      exact go_iret dX11_hours_35 rfl (Nat.le_of_ble_eq_true rfl) (Nat.le_of_ble_eq_true rfl) ((hQ9 ▸ ⟨rd_i (a := nI (fhB N A 5)) (by simp [choS, c6, c20]), rfl, rfl⟩))
    · subst c20
      refine go_aload_n dX11_hours_23 rfl ?_
      refine go_get dX11_hours_24 fl_X11_10_11 hX.at hX.2.1 hX.2.2.1 rfl ?_
      refine go_iload_n dX11_hours_27 rfl ?_
      refine go_Vr [.int (nI (fhB N A 5))] [] dX11_hours_28 vl_X11_232 ⟨by decide, by decide⟩ (e_X5_lockersWanted (F := F) (W := W) (A := A) (B := B) hq hn hN hN8 (by omega)) sc_obj hq (by omega) rfl rfl (Nat.le_of_ble_eq_true rfl) (Nat.le_of_ble_eq_true rfl) (Nat.le_of_ble_eq_true rfl) ?_
      refine go_goto dX11_hours_31 ?_
      exact go_iret dX11_hours_35 rfl (Nat.le_of_ble_eq_true rfl) (Nat.le_of_ble_eq_true rfl) ((hQ9 ▸ ⟨rd_i (a := wantS N A (fhB N A 5)) (by simp [choS, c6]), rfl, rfl⟩))
  · have c6 := bz_f c6
    refine go_iconst (v := (-1)) dX11_hours_9 rfl ?_
    exact go_iret dX11_hours_10 rfl (Nat.le_of_ble_eq_true rfl) (Nat.le_of_ble_eq_true rfl) ((hQ9 ▸ ⟨rd_i (a := (-1)) (by simp [choS, c6]), rfl, rfl⟩))
set_option maxHeartbeats 4000000 in
set_option maxRecDepth 100000 in
theorem e_X11_envy (hX : xoK G m0 x s i t w os rs n b) (hq : G.2.1 ≤ s) (hn : s + 8 ≤ n) (hN : F 0 = nI N) (hN8 : N ≤ 8) (hM : F 1 = nI M) (hM5 : M ≤ 5) (hbe : ∀ a b, a < N → b < N → B (a * 8 + b) = brS A a b) (hw : whoOK G m0 s n W A) (hab : ∀ l, l < M → A 6 l = 0 ∨ A 6 l = 1) (hI : insOK N M (A 4)) {p : Int32} : Ev G mX11_envy 7 0 0 [.ref x, .int p] (sc G m0 s F W A B) n (RD (.int (cenS N A p)) (sc G m0 s F W A B) n) := by
  generalize hQ9 : (RD (.int (cenS N A p)) (sc G m0 s F W A B) n : RQ) = Q9
  refine ev_of (by decide) (Nat.le_of_ble_eq_true rfl) (ls := [some (.ref x), some (.int p)]) rfl (fun hb => ?_)
  refine go_iload_n dX11_envy_0 rfl ?_
  refine go_iconst (v := (-1)) dX11_envy_1 rfl ?_
  refine go_icmp_ne dX11_envy_2 (fun c2 => ?_) (fun c2 => ?_)
  · refine go_aload_n dX11_envy_13 rfl ?_
    refine go_get dX11_envy_14 fl_X11_10_11 hX.at hX.2.1 hX.2.2.1 rfl ?_
    refine go_iload_n dX11_envy_17 rfl ?_
    refine go_Vr [.int p] [] dX11_envy_18 vl_X11_79 ⟨by decide, by decide⟩ (e_X5_hasPupil (F := F) (W := W) (A := A) (B := B) hq hn hN hN8) sc_obj hq (by omega) rfl rfl (Nat.le_of_ble_eq_true rfl) (Nat.le_of_ble_eq_true rfl) (Nat.le_of_ble_eq_true rfl) ?_
    refine go_if_eq dX11_envy_21 (fun c21 => ?_) (fun c21 => ?_)
    · have c21 := bz_f c21
      refine go_iconst (v := (-1)) dX11_envy_35 rfl ?_
      exact go_iret dX11_envy_36 rfl (Nat.le_of_ble_eq_true rfl) (Nat.le_of_ble_eq_true rfl) ((hQ9 ▸ ⟨rd_i (a := (-1)) (by simp [cenS, c2, c21]), rfl, rfl⟩))
    · have c21 := bz_t c21
      obtain ⟨jp, hjp, rfl⟩ := okp_nI c21 (by omega)
      have kjp : (nI jp).toNatClampNeg = jp := nI_clamp (by omega)
      refine go_aload_n dX11_envy_24 rfl ?_
      refine go_get dX11_envy_25 fl_X11_10_11 hX.at hX.2.1 hX.2.2.1 rfl ?_
      refine go_iload_n dX11_envy_28 rfl ?_
      refine go_Vr [.int (nI jp)] [] dX11_envy_29 vl_X11_238 ⟨by decide, by decide⟩ (e_X5_envyOf (F := F) (W := W) (A := A) (B := B) hq hn hN hN8 hM hM5 hbe hw hab hI (by omega)) sc_obj hq (by omega) rfl rfl (Nat.le_of_ble_eq_true rfl) (Nat.le_of_ble_eq_true rfl) (Nat.le_of_ble_eq_true rfl) ?_
      refine go_goto dX11_envy_32 ?_
      exact go_iret dX11_envy_36 rfl (Nat.le_of_ble_eq_true rfl) (Nat.le_of_ble_eq_true rfl) ((hQ9 ▸ ⟨rd_i (a := evS N A jp) (by simp [cenS, c2, c21, kjp]), rfl, rfl⟩))
  · subst c2
    refine go_aload_n dX11_envy_5 rfl ?_
    refine go_get dX11_envy_6 fl_X11_10_11 hX.at hX.2.1 hX.2.2.1 rfl ?_
    refine go_Vr [] [] dX11_envy_9 vl_X11_235 ⟨by decide, by decide⟩ (e_X5_envyOfAll (F := F) (W := W) (A := A) (B := B) hq hn hN hN8 hM hM5 hbe hw hab hI) sc_obj hq (by omega) rfl rfl (Nat.le_of_ble_eq_true rfl) (Nat.le_of_ble_eq_true rfl) (Nat.le_of_ble_eq_true rfl) ?_
    exact go_iret dX11_envy_12 rfl (Nat.le_of_ble_eq_true rfl) (Nat.le_of_ble_eq_true rfl) ((hQ9 ▸ ⟨rd_i (a := smS (evS N A) N) (by simp [cenS]), rfl, rfl⟩))
set_option maxHeartbeats 4000000 in
set_option maxRecDepth 100000 in
theorem e_X11_dent (hX : xoK G m0 x s i t w os rs n b) (hq : G.2.1 ≤ s) (hn : s + 8 ≤ n) (hN : F 0 = nI N) (hN8 : N ≤ 8) (hM : F 1 = nI M) (hM5 : M ≤ 5) (hbe : ∀ a b, a < N → b < N → B (a * 8 + b) = brS A a b) (hw : whoOK G m0 s n W A) (hab : ∀ l, l < M → A 6 l = 0 ∨ A 6 l = 1) (hI : insOK N M (A 4)) {p v law : Int32} : Ev G mX11_dent 7 0 0 [.ref x, .int p, .int v, .int law] (sc G m0 s F W A B) n (RD (.int (cdeS N A p v law)) (sc G m0 s F W A B) n) := by
  generalize hQ9 : (RD (.int (cdeS N A p v law)) (sc G m0 s F W A B) n : RQ) = Q9
  refine ev_of (by decide) (Nat.le_of_ble_eq_true rfl) (ls := [some (.ref x), some (.int p), some (.int v), some (.int law)]) rfl (fun hb => ?_)
  refine go_aload_n dX11_dent_0 rfl ?_
  refine go_get dX11_dent_1 fl_X11_10_11 hX.at hX.2.1 hX.2.2.1 rfl ?_
  refine go_iload_n dX11_dent_4 rfl ?_
  refine go_Vr [.int p] [] dX11_dent_5 vl_X11_79 ⟨by decide, by decide⟩ (e_X5_hasPupil (F := F) (W := W) (A := A) (B := B) hq hn hN hN8) sc_obj hq (by omega) rfl rfl (Nat.le_of_ble_eq_true rfl) (Nat.le_of_ble_eq_true rfl) (Nat.le_of_ble_eq_true rfl) ?_
  refine go_if_eq dX11_dent_8 (fun c8 => ?_) (fun c8 => ?_)
  · have c8 := bz_f c8
    refine go_iconst (v := (-1)) dX11_dent_31 rfl ?_
    exact go_iret dX11_dent_32 rfl (Nat.le_of_ble_eq_true rfl) (Nat.le_of_ble_eq_true rfl) ((hQ9 ▸ ⟨rd_i (a := (-1)) (by simp [cdeS, c8]), rfl, rfl⟩))
  · have c8 := bz_t c8
    obtain ⟨jp, hjp, rfl⟩ := okp_nI c8 (by omega)
    have kjp : (nI jp).toNatClampNeg = jp := nI_clamp (by omega)
    refine go_iload_n dX11_dent_11 rfl ?_
    refine go_iconst (v := 0) dX11_dent_12 rfl ?_
    refine go_sipush (v := 999) dX11_dent_13 rfl ?_
    refine go_Sr [.int v, .int 0, .int 999] [] dX11_dent_16 sl_X11_126 ⟨by decide, by decide⟩ (e_X11_isWithin) rfl rfl (Nat.le_of_ble_eq_true rfl) (Nat.le_of_ble_eq_true rfl) (Nat.le_of_ble_eq_true rfl) ?_
    refine go_if_eq dX11_dent_19 (fun c19 => ?_) (fun c19 => ?_)
    · have c19 := bz_f c19
      refine go_iconst (v := (-1)) dX11_dent_31 rfl ?_
      exact go_iret dX11_dent_32 rfl (Nat.le_of_ble_eq_true rfl) (Nat.le_of_ble_eq_true rfl) ((hQ9 ▸ ⟨rd_i (a := (-1)) (by simp [cdeS, c8, kjp, c19]), rfl, rfl⟩))
    · have c19 := bz_t c19
      refine go_iload_n dX11_dent_22 rfl ?_
      refine go_iconst (v := 0) dX11_dent_23 rfl ?_
      refine go_iconst (v := 2) dX11_dent_24 rfl ?_
      refine go_Sr [.int law, .int 0, .int 2] [] dX11_dent_25 sl_X11_126 ⟨by decide, by decide⟩ (e_X11_isWithin) rfl rfl (Nat.le_of_ble_eq_true rfl) (Nat.le_of_ble_eq_true rfl) (Nat.le_of_ble_eq_true rfl) ?_
      refine go_if_ne dX11_dent_28 (fun c28 => ?_) (fun c28 => ?_)
      · have c28 := bz_t c28
        refine go_aload_n dX11_dent_33 rfl ?_
        refine go_get dX11_dent_34 fl_X11_10_11 hX.at hX.2.1 hX.2.2.1 rfl ?_
        refine go_get dX11_dent_37 fl_X11_96_5 sc_obj hq (by omega) rfl ?_
        refine go_iload_n dX11_dent_40 rfl ?_
        refine go_iald dX11_dent_41 sc_3 (by omega) (by omega) (vp_in_nI (n := jp) (by show jp < 8; omega) (by decide)) ?_
        refine go_tp (z := A 4 jp) (by rw [nI_clamp (by omega)]) ?_
        refine go_bipush (v := 9) dX11_dent_42 rfl ?_
        refine go_icmp_ne dX11_dent_44 (fun c44 => ?_) (fun c44 => ?_)
        · obtain ⟨l44, hl44, el44⟩ := (hI jp (by omega)).resolve_left c44
          refine go_aload_n dX11_dent_52 rfl ?_
          refine go_get dX11_dent_53 fl_X11_10_11 hX.at hX.2.1 hX.2.2.1 rfl ?_
          refine go_iload_n dX11_dent_56 rfl ?_
          refine go_iload_n dX11_dent_57 rfl ?_
          refine go_iload_n dX11_dent_58 rfl ?_
          refine go_Vr [.int (nI jp), .int v, .int law] [] dX11_dent_59 vl_X11_245 ⟨by decide, by decide⟩ (e_X5_dentPaid (F := F) (W := W) (A := A) (B := B) hq hn hN hN8 hbe hw (by omega)) sc_obj hq (by omega) rfl rfl (Nat.le_of_ble_eq_true rfl) (Nat.le_of_ble_eq_true rfl) (Nat.le_of_ble_eq_true rfl) ?_
          exact go_iret dX11_dent_62 rfl (Nat.le_of_ble_eq_true rfl) (Nat.le_of_ble_eq_true rfl) ((hQ9 ▸ ⟨rd_i (a := dpS N A jp (v) (law)) (by simp [cdeS, c8, kjp, c19, c28, c44]), rfl, rfl⟩))
        · refine go_bipush (v := (-3)) dX11_dent_47 rfl ?_
          refine go_goto dX11_dent_49 ?_
          exact go_iret dX11_dent_62 rfl (Nat.le_of_ble_eq_true rfl) (Nat.le_of_ble_eq_true rfl) ((hQ9 ▸ ⟨rd_i (a := (-3)) (by simp [cdeS, c8, kjp, c19, c28, c44]), rfl, rfl⟩))
      · have c28 := bz_f c28
        refine go_iconst (v := (-1)) dX11_dent_31 rfl ?_
        exact go_iret dX11_dent_32 rfl (Nat.le_of_ble_eq_true rfl) (Nat.le_of_ble_eq_true rfl) ((hQ9 ▸ ⟨rd_i (a := (-1)) (by simp [cdeS, c8, kjp, c19, c28]), rfl, rfl⟩))
set_option maxHeartbeats 4000000 in
set_option maxRecDepth 100000 in
theorem e_X11_turn (hX : xoK G m0 x s i t w os rs n b) (hq : G.2.1 ≤ s) (hn : s + 8 ≤ n) (hN : F 0 = nI N) (hN8 : N ≤ 8) (hM : F 1 = nI M) (hM5 : M ≤ 5) (hbe : ∀ a b, a < N → b < N → B (a * 8 + b) = brS A a b) (hw : whoOK G m0 s n W A) (hab : ∀ l, l < M → A 6 l = 0 ∨ A 6 l = 1) (hI : insOK N M (A 4)) {what : Int32} : Ev G mX11_turn 7 0 0 [.ref x, .int what] (sc G m0 s F W A B) n (RD (.int (ctuS N A what)) (sc G m0 s F W A B) n) := by
  generalize hQ9 : (RD (.int (ctuS N A what)) (sc G m0 s F W A B) n : RQ) = Q9
  refine ev_of (by decide) (Nat.le_of_ble_eq_true rfl) (ls := [some (.ref x), some (.int what)]) rfl (fun hb => ?_)
  refine go_iload_n dX11_turn_0 rfl ?_
  refine go_iconst (v := 0) dX11_turn_1 rfl ?_
  refine go_iconst (v := 1) dX11_turn_2 rfl ?_
  refine go_Sr [.int what, .int 0, .int 1] [] dX11_turn_3 sl_X11_126 ⟨by decide, by decide⟩ (e_X11_isWithin) rfl rfl (Nat.le_of_ble_eq_true rfl) (Nat.le_of_ble_eq_true rfl) (Nat.le_of_ble_eq_true rfl) ?_
  refine go_if_ne dX11_turn_6 (fun c6 => ?_) (fun c6 => ?_)
  · have c6 := bz_t c6
    refine go_iload_n dX11_turn_11 rfl ?_
    refine go_if_ne dX11_turn_12 (fun c12 => ?_) (fun c12 => ?_)
    · refine go_aload_n dX11_turn_25 rfl ?_
      refine go_get dX11_turn_26 fl_X11_10_11 hX.at hX.2.1 hX.2.2.1 rfl ?_
      refine go_Vr [] [] dX11_turn_29 vl_X11_252 ⟨by decide, by decide⟩ (e_X5_mostTroubled (F := F) (W := W) (A := A) (B := B) hq hn hN hN8 hM hM5 hw hab hI) sc_obj hq (by omega) rfl rfl (Nat.le_of_ble_eq_true rfl) (Nat.le_of_ble_eq_true rfl) (Nat.le_of_ble_eq_true rfl) ?_
      exact go_iret dX11_turn_32 rfl (Nat.le_of_ble_eq_true rfl) (Nat.le_of_ble_eq_true rfl) ((hQ9 ▸ ⟨rd_i (a := tlB A false N) (by simp [ctuS, c6, c12]), rfl, rfl⟩))
    · subst c12
      refine go_aload_n dX11_turn_15 rfl ?_
      refine go_get dX11_turn_16 fl_X11_10_11 hX.at hX.2.1 hX.2.2.1 rfl ?_
      refine go_Vr [] [] dX11_turn_19 vl_X11_249 ⟨by decide, by decide⟩ (e_X5_leastTroubled (F := F) (W := W) (A := A) (B := B) hq hn hN hN8 hM hM5 hw hab hI) sc_obj hq (by omega) rfl rfl (Nat.le_of_ble_eq_true rfl) (Nat.le_of_ble_eq_true rfl) (Nat.le_of_ble_eq_true rfl) ?_
      refine go_goto dX11_turn_22 ?_
      exact go_iret dX11_turn_32 rfl (Nat.le_of_ble_eq_true rfl) (Nat.le_of_ble_eq_true rfl) ((hQ9 ▸ ⟨rd_i (a := tlB A true N) (by simp [ctuS, c6]), rfl, rfl⟩))
  · have c6 := bz_f c6
    refine go_iconst (v := (-1)) dX11_turn_9 rfl ?_
    exact go_iret dX11_turn_10 rfl (Nat.le_of_ble_eq_true rfl) (Nat.le_of_ble_eq_true rfl) ((hQ9 ▸ ⟨rd_i (a := (-1)) (by simp [ctuS, c6]), rfl, rfl⟩))
set_option maxHeartbeats 4000000 in
set_option maxRecDepth 100000 in
theorem e_X11_widowed (hX : xoK G m0 x s i t w os rs n b) (hq : G.2.1 ≤ s) (hn : s + 8 ≤ n) (hN : F 0 = nI N) (hN8 : N ≤ 8) (hM : F 1 = nI M) (hM5 : M ≤ 5) {what : Int32} : Ev G mX11_widowed 7 0 0 [.ref x, .int what] (sc G m0 s F W A B) n (RD (.int (wdS N M A what)) (sc G m0 s F W A B) n) := by
  generalize hQ9 : (RD (.int (wdS N M A what)) (sc G m0 s F W A B) n : RQ) = Q9
  refine ev_of (by decide) (Nat.le_of_ble_eq_true rfl) (ls := [some (.ref x), some (.int what)]) rfl (fun hb => ?_)
  refine go_iload_n dX11_widowed_0 rfl ?_
  refine go_iconst (v := 0) dX11_widowed_1 rfl ?_
  refine go_iconst (v := 1) dX11_widowed_2 rfl ?_
  refine go_Sr [.int what, .int 0, .int 1] [] dX11_widowed_3 sl_X11_126 ⟨by decide, by decide⟩ (e_X11_isWithin) rfl rfl (Nat.le_of_ble_eq_true rfl) (Nat.le_of_ble_eq_true rfl) (Nat.le_of_ble_eq_true rfl) ?_
  refine go_if_eq dX11_widowed_6 (fun c6 => ?_) (fun c6 => ?_)
  · have c6 := bz_f c6
    refine go_iconst (v := (-1)) dX11_widowed_28 rfl ?_
    exact go_iret dX11_widowed_29 rfl (Nat.le_of_ble_eq_true rfl) (Nat.le_of_ble_eq_true rfl) ((hQ9 ▸ ⟨rd_i (a := (-1)) (by simp [wdS, c6]), rfl, rfl⟩))
  · have c6 := bz_t c6
    refine go_aload_n dX11_widowed_9 rfl ?_
    refine go_get dX11_widowed_10 fl_X11_10_11 hX.at hX.2.1 hX.2.2.1 rfl ?_
    refine go_iload_n dX11_widowed_13 rfl ?_
    refine go_if_ne dX11_widowed_14 (fun c14 => ?_) (fun c14 => ?_)
    · refine go_iconst (v := 0) dX11_widowed_21 rfl ?_
      refine go_Vr [.int 0] [] dX11_widowed_22 vl_X11_255 ⟨by decide, by decide⟩ (e_X5_lockersWith (F := F) (W := W) (A := A) (B := B) hq hn hN hN8 hM hM5) sc_obj hq (by omega) rfl rfl (Nat.le_of_ble_eq_true rfl) (Nat.le_of_ble_eq_true rfl) (Nat.le_of_ble_eq_true rfl) ?_
      refine go_goto dX11_widowed_25 ?_
      exact go_iret dX11_widowed_29 rfl (Nat.le_of_ble_eq_true rfl) (Nat.le_of_ble_eq_true rfl) ((hQ9 ▸ ⟨rd_i (a := btB (fun l => decide (inS N (A 4) (nI l) = (0))) M) (by simp [wdS, c6, c14]), rfl, rfl⟩))
    · subst c14
      refine go_iconst (v := 1) dX11_widowed_17 rfl ?_
      refine go_goto dX11_widowed_18 ?_
      refine go_Vr [.int 1] [] dX11_widowed_22 vl_X11_255 ⟨by decide, by decide⟩ (e_X5_lockersWith (F := F) (W := W) (A := A) (B := B) hq hn hN hN8 hM hM5) sc_obj hq (by omega) rfl rfl (Nat.le_of_ble_eq_true rfl) (Nat.le_of_ble_eq_true rfl) (Nat.le_of_ble_eq_true rfl) ?_
      refine go_goto dX11_widowed_25 ?_
      exact go_iret dX11_widowed_29 rfl (Nat.le_of_ble_eq_true rfl) (Nat.le_of_ble_eq_true rfl) ((hQ9 ▸ ⟨rd_i (a := btB (fun l => decide (inS N (A 4) (nI l) = (1))) M) (by simp [wdS, c6]), rfl, rfl⟩))
set_option maxHeartbeats 4000000 in
set_option maxRecDepth 100000 in
theorem e_X11_count (hX : xoK G m0 x s i t w os rs n b) (hq : G.2.1 ≤ s) (hn : s + 8 ≤ n) (hN : F 0 = nI N) (hN8 : N ≤ 8) (hM : F 1 = nI M) (hM5 : M ≤ 5) (hw : whoOK G m0 s n W A) {P : Int32} (hP : F 2 = P) {what : Int32} : Ev G mX11_count 7 0 0 [.ref x, .int what] (sc G m0 s F W A B) n (RD (.int (couS N M P A what)) (sc G m0 s F W A B) n) := by
  generalize hQ9 : (RD (.int (couS N M P A what)) (sc G m0 s F W A B) n : RQ) = Q9
  refine ev_of (by decide) (Nat.le_of_ble_eq_true rfl) (ls := [some (.ref x), some (.int what)]) rfl (fun hb => ?_)
  refine go_iload_n dX11_count_0 rfl ?_
  by_cases e1_0 : (what : Int32) = 0
  · refine go_tp e1_0 ?_
    refine go_tableIn (off := 39) (tgt := 40) dX11_count_1 (by decide) (by decide) (by decide) (by decide) ?_
    refine go_aload_n dX11_count_40 rfl ?_
    refine go_get dX11_count_41 fl_X11_10_11 hX.at hX.2.1 hX.2.2.1 rfl ?_
    refine go_get dX11_count_44 fl_X11_258_5 sc_obj hq (by omega) rfl ?_
    refine go_tp (z := nI N) (hN) ?_
    exact go_iret dX11_count_47 rfl (Nat.le_of_ble_eq_true rfl) (Nat.le_of_ble_eq_true rfl) ((hQ9 ▸ ⟨rd_i (a := nI N) (by simp [couS, e1_0]), rfl, rfl⟩))
  · by_cases e1_1 : (what : Int32) = 1
    · refine go_tp e1_1 ?_
      refine go_tableIn (off := 47) (tgt := 48) dX11_count_1 (by decide) (by decide) (by decide) (by decide) ?_
      refine go_aload_n dX11_count_48 rfl ?_
      refine go_get dX11_count_49 fl_X11_10_11 hX.at hX.2.1 hX.2.2.1 rfl ?_
      refine go_get dX11_count_52 fl_X11_287_5 sc_obj hq (by omega) rfl ?_
      refine go_tp (z := nI M) (hM) ?_
      exact go_iret dX11_count_55 rfl (Nat.le_of_ble_eq_true rfl) (Nat.le_of_ble_eq_true rfl) ((hQ9 ▸ ⟨rd_i (a := nI M) (by simp [couS, e1_0, e1_1]), rfl, rfl⟩))
    · by_cases e1_2 : (what : Int32) = 2
      · refine go_tp e1_2 ?_
        refine go_tableIn (off := 55) (tgt := 56) dX11_count_1 (by decide) (by decide) (by decide) (by decide) ?_
        refine go_aload_n dX11_count_56 rfl ?_
        refine go_get dX11_count_57 fl_X11_10_11 hX.at hX.2.1 hX.2.2.1 rfl ?_
        refine go_get dX11_count_60 fl_X11_284_5 sc_obj hq (by omega) rfl ?_
        refine go_tp (z := P) (hP) ?_
        exact go_iret dX11_count_63 rfl (Nat.le_of_ble_eq_true rfl) (Nat.le_of_ble_eq_true rfl) ((hQ9 ▸ ⟨rd_i (a := P) (by simp [couS, e1_0, e1_1, e1_2]), rfl, rfl⟩))
      · by_cases e1_3 : (what : Int32) = 3
        · refine go_tp e1_3 ?_
          refine go_tableIn (off := 63) (tgt := 64) dX11_count_1 (by decide) (by decide) (by decide) (by decide) ?_
          refine go_aload_n dX11_count_64 rfl ?_
          refine go_get dX11_count_65 fl_X11_10_11 hX.at hX.2.1 hX.2.2.1 rfl ?_
          refine go_Vr [] [] dX11_count_68 vl_X11_290 ⟨by decide, by decide⟩ (e_X5_allKeys (F := F) (W := W) (A := A) (B := B) hq hn hM hM5) sc_obj hq (by omega) rfl rfl (Nat.le_of_ble_eq_true rfl) (Nat.le_of_ble_eq_true rfl) (Nat.le_of_ble_eq_true rfl) ?_
          exact go_iret dX11_count_71 rfl (Nat.le_of_ble_eq_true rfl) (Nat.le_of_ble_eq_true rfl) ((hQ9 ▸ ⟨rd_i (a := smS (A 7) M) (by simp [couS, e1_0, e1_1, e1_2, e1_3]), rfl, rfl⟩))
        · by_cases e1_4 : (what : Int32) = 4
          · refine go_tp e1_4 ?_
            refine go_tableIn (off := 71) (tgt := 72) dX11_count_1 (by decide) (by decide) (by decide) (by decide) ?_
            refine go_aload_n dX11_count_72 rfl ?_
            refine go_get dX11_count_73 fl_X11_10_11 hX.at hX.2.1 hX.2.2.1 rfl ?_
            refine go_Vr [] [] dX11_count_76 vl_X11_293 ⟨by decide, by decide⟩ (e_X5_whoIsInNone (F := F) (W := W) (A := A) (B := B) hq hn hN hN8) sc_obj hq (by omega) rfl rfl (Nat.le_of_ble_eq_true rfl) (Nat.le_of_ble_eq_true rfl) (Nat.le_of_ble_eq_true rfl) ?_
            exact go_iret dX11_count_79 rfl (Nat.le_of_ble_eq_true rfl) (Nat.le_of_ble_eq_true rfl) ((hQ9 ▸ ⟨rd_i (a := btB (fun p => decide (A 4 p = 9)) N) (by simp [couS, e1_0, e1_1, e1_2, e1_3, e1_4]), rfl, rfl⟩))
          · by_cases e1_5 : (what : Int32) = 5
            · refine go_tp e1_5 ?_
              refine go_tableIn (off := 79) (tgt := 80) dX11_count_1 (by decide) (by decide) (by decide) (by decide) ?_
              refine go_aload_n dX11_count_80 rfl ?_
              refine go_get dX11_count_81 fl_X11_10_11 hX.at hX.2.1 hX.2.2.1 rfl ?_
              refine go_Vr [] [] dX11_count_84 vl_X11_296 ⟨by decide, by decide⟩ (e_X5_allRoom (F := F) (W := W) (A := A) (B := B) hq hn hN hN8 hw) sc_obj hq (by omega) rfl rfl (Nat.le_of_ble_eq_true rfl) (Nat.le_of_ble_eq_true rfl) (Nat.le_of_ble_eq_true rfl) ?_
              exact go_iret dX11_count_87 rfl (Nat.le_of_ble_eq_true rfl) (Nat.le_of_ble_eq_true rfl) ((hQ9 ▸ ⟨rd_i (a := smS (fun p => roomS (A 1 p)) N) (by simp [couS, e1_0, e1_1, e1_2, e1_3, e1_4, e1_5]), rfl, rfl⟩))
            · refine go_tableOut dX11_count_1 (tgt := 88) (by have := i32_ne (v := 0) (k := 0) rfl e1_0; have := i32_ne (v := 1) (k := 1) rfl e1_1; have := i32_ne (v := 2) (k := 2) rfl e1_2; have := i32_ne (v := 3) (k := 3) rfl e1_3; have := i32_ne (v := 4) (k := 4) rfl e1_4; have := i32_ne (v := 5) (k := 5) rfl e1_5; omega) (by decide) ?_
              refine go_iconst (v := (-1)) dX11_count_88 rfl ?_
              exact go_iret dX11_count_89 rfl (Nat.le_of_ble_eq_true rfl) (Nat.le_of_ble_eq_true rfl) ((hQ9 ▸ ⟨rd_i (a := (-1)) (by simp [couS, e1_0, e1_1, e1_2, e1_3, e1_4, e1_5]), rfl, rfl⟩))
set_option maxHeartbeats 4000000 in
set_option maxRecDepth 100000 in
theorem e_X11_all (hX : xoK G m0 x s i t w os rs n b) (hq : G.2.1 ≤ s) (hn : s + 8 ≤ n) (hN : F 0 = nI N) (hN8 : N ≤ 8) (hM : F 1 = nI M) (hM5 : M ≤ 5) (hbe : ∀ a b, a < N → b < N → B (a * 8 + b) = brS A a b) (hw : whoOK G m0 s n W A) (hab : ∀ l, l < M → A 6 l = 0 ∨ A 6 l = 1) (hI : insOK N M (A 4)) : Ev G mX11_all 7 0 0 [.ref x] (sc G m0 s F W A B) n (RD (.int (alS N A)) (sc G m0 s F W A B) n) := by
  generalize hQ9 : (RD (.int (alS N A)) (sc G m0 s F W A B) n : RQ) = Q9
  refine ev_of (by decide) (Nat.le_of_ble_eq_true rfl) (ls := [some (.ref x)]) rfl (fun hb => ?_)
  refine go_aload_n dX11_all_0 rfl ?_
  refine go_get dX11_all_1 fl_X11_10_11 hX.at hX.2.1 hX.2.2.1 rfl ?_
  refine go_Vr [] [] dX11_all_4 vl_X11_208 ⟨by decide, by decide⟩ (e_X5_contentOfAll (F := F) (W := W) (A := A) (B := B) hq hn hN hN8 hM hM5 hbe hw hab hI) sc_obj hq (by omega) rfl rfl (Nat.le_of_ble_eq_true rfl) (Nat.le_of_ble_eq_true rfl) (Nat.le_of_ble_eq_true rfl) ?_
  exact go_iret dX11_all_7 rfl (Nat.le_of_ble_eq_true rfl) (Nat.le_of_ble_eq_true rfl) (hQ9 ▸ ⟨rfl, rfl, rfl⟩)
set_option maxHeartbeats 4000000 in
set_option maxRecDepth 100000 in
theorem e_X11_price (hX : xoK G m0 x s i t w os rs n b) (hq : G.2.1 ≤ s) (hn : s + 8 ≤ n) (hN : F 0 = nI N) (hN8 : N ≤ 8) (hM : F 1 = nI M) (hM5 : M ≤ 5) (hbe : ∀ a b, a < N → b < N → B (a * 8 + b) = brS A a b) (hw : whoOK G m0 s n W A) (hab : ∀ l, l < M → A 6 l = 0 ∨ A 6 l = 1) (hI : insOK N M (A 4)) {z : Int32} : Ev G mX11_price 7 0 0 [.ref x, .int z] (sc G m0 s F W A B) n (RD (.int (if z < 1 then -1 else pwR N A z 100)) (sc G m0 s F W A B) n) := by
  generalize hQ9 : (RD (.int (if z < 1 then -1 else pwR N A z 100)) (sc G m0 s F W A B) n : RQ) = Q9
  refine ev_of (by decide) (Nat.le_of_ble_eq_true rfl) (ls := [some (.ref x), some (.int z), none]) rfl (fun hb => ?_)
  refine go_iload_n dX11_price_0 rfl ?_
  refine go_iconst (v := 1) dX11_price_1 rfl ?_
  refine go_icmp_ge dX11_price_2 (fun c2 => ?_) (fun c2 => ?_)
  · have c2 := Int32.not_lt.mpr c2
    refine go_bipush (v := 99) dX11_price_7 rfl ?_
    refine go_istore_n (ls' := [some (.ref x), some (.int z), some (.int 99)]) dX11_price_9 ⟨by decide, rfl, rfl⟩ ?_
    have lp0 : ∀ (μ_lp0 : Nat) (k : Nat) (hpk : pwR N A z 100 = pwR N A z k) (hk : k ≤ 100) (hmk : k + 1 ≤ μ_lp0), Go G mX11_price 7 0 0 Q9 0 0 10 [some (.ref x), some (.int z), some (.int (nI k - 1))] [] (sc G m0 s F W A B) n := by
      intro μ_lp0
      induction μ_lp0 with
      | zero =>
        intro k hpk hk hmk
        exact absurd hmk (by omega)
      | succ μ_lp0 ih_lp0 =>
        intro k hpk hk hmk
        rcases k with _ | k
        · skip
          refine go_iload_n dX11_price_10 rfl ?_
          refine go_if_lt dX11_price_11 (fun c11 => ?_) (fun c11 => ?_)
          · refine go_bipush (v := (-4)) dX11_price_34 rfl ?_
            exact go_iret dX11_price_36 rfl (Nat.le_of_ble_eq_true rfl) (Nat.le_of_ble_eq_true rfl) (hQ9 ▸ ⟨rd_i (by rw [if_neg c2, hpk]; rfl), rfl, rfl⟩)
          · exact absurd (by decide) c11
        · refine go_ls (ls' := [some (.ref x), some (.int z), some (.int (nI k))]) (by rw [nI_pred]) ?_
          refine go_iload_n dX11_price_10 rfl ?_
          refine go_if_lt dX11_price_11 (fun c11 => ?_) (fun c11 => ?_)
          · have c11n := (n0_lt (a := k) (by omega)).mp c11
            first | exact absurd c11n (by decide) | exact absurd (by decide) c11n | exact absurd rfl c11n | omega
          · have c11n := mt (n0_lt (a := k) (by omega)).mpr c11
            refine go_aload_n dX11_price_14 rfl ?_
            refine go_get dX11_price_15 fl_X11_10_11 hX.at hX.2.1 hX.2.2.1 rfl ?_
            refine go_iload_n dX11_price_18 rfl ?_
            refine go_Vr [.int (nI k)] [] dX11_price_19 vl_X11_223 ⟨by decide, by decide⟩ (e_X5_howManyPay (F := F) (W := W) (A := A) (B := B) hq hn hN hN8 hM hM5 hbe hw hab hI) sc_obj hq (by omega) rfl rfl (Nat.le_of_ble_eq_true rfl) (Nat.le_of_ble_eq_true rfl) (Nat.le_of_ble_eq_true rfl) ?_
            refine go_iload_n dX11_price_22 rfl ?_
            refine go_icmp_lt dX11_price_23 (fun c23 => ?_) (fun c23 => ?_)
            · refine go_iinc (v := (nI k) - 1) (ls' := [some (.ref x), some (.int z), some (.int ((nI k) - 1))]) dX11_price_28 rfl (i32_m1 _) ⟨by decide, rfl, rfl⟩ ?_
              refine go_goto dX11_price_31 ?_
              exact ih_lp0 k  (by rw [hpk]; exact if_pos c23) (by omega) (by omega) 
            · refine go_iload_n dX11_price_26 rfl ?_
              exact go_iret dX11_price_27 rfl (Nat.le_of_ble_eq_true rfl) (Nat.le_of_ble_eq_true rfl) (hQ9 ▸ ⟨rd_i (by rw [if_neg c2, hpk]; exact (if_neg c23).symm), rfl, rfl⟩)
    exact lp0 (100 + 1) 100  rfl (Nat.le_refl _) (Nat.le_refl _) 
  · have c2 := Int32.not_le.mp c2
    refine go_iconst (v := (-1)) dX11_price_5 rfl ?_
    exact go_iret dX11_price_6 rfl (Nat.le_of_ble_eq_true rfl) (Nat.le_of_ble_eq_true rfl) (hQ9 ▸ ⟨rd_i (by rw [if_pos c2]), rfl, rfl⟩)
end D1
