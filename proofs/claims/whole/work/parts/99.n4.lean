/-! who would be borne, told otherwise -/
theorem sc_of2 {G : GX} {m f : Mem} {s : Nat} {F : Nat → Int32} {W : Nat → Option Nat} {A : Nat → Nat → Int32} {B : Nat → Int32} (h : sc G f s F W A B = f) (hm : ∀ z, s ≤ z → z < s + 8 → m z = f z) : sc G m s F W A B = m := by
  funext a
  have h1 := congrFun h a
  unfold sc at h1 ⊢
  by_cases c : a < s ∨ s + 8 ≤ a
  · rw [if_pos c]
  · rw [if_neg c] at h1 ⊢
    rw [hm a (by omega) (by omega), h1]
theorem wy_of2 {G : GX} {m f : Mem} {w : Nat} {V C Mt T : Nat → Int32} {Wl : Nat → Int64} (h : wy G f w V C Mt Wl T = f) (hm : ∀ z, w ≤ z → z < w + 5 → m z = f z) : wy G m w V C Mt Wl T = m := by
  funext a
  have h1 := congrFun h a
  unfold wy at h1 ⊢
  by_cases c : a < w ∨ w + 5 ≤ a
  · rw [if_pos c]
  · rw [if_neg c] at h1 ⊢
    rw [hm a (by omega) (by omega), h1]
theorem wy_idem {G : GX} {m1 : Mem} {w : Nat} {V C Mt T V2 C2 Mt2 T2 : Nat → Int32} {Wl Wl2 : Nat → Int64} : wy G (wy G m1 w V2 C2 Mt2 Wl2 T2) w V C Mt Wl T = wy G m1 w V C Mt Wl T := by
  funext a
  unfold wy
  by_cases h : a < w ∨ w + 5 ≤ a
  · rw [if_pos h, if_pos h, if_pos h]
  · rw [if_neg h, if_neg h]
/-- apart from the schools and the ways -/
def zSW (s t w : Nat) : Nat → Prop := fun a => (a < s ∨ s + 8 ≤ a) ∧ (a < t ∨ t + 8 ≤ a) ∧ (a < w ∨ w + 5 ≤ a)
theorem zSW.st {s t w : Nat} {W : Nat → Option Nat} (h : wP (zSW s t w) W) : wP (zST s t) W := fun p hp a ha => ⟨(h p hp a ha).1, (h p hp a ha).2.1⟩
/-- what stands for thinking -/
def thF (G : GX) (f : Mem) (t w n n1 : Nat) (f1 : Mem) : Prop := n ≤ n1 ∧ (∀ z, z < n → (z < t ∨ t + 8 ≤ z) → (z < w ∨ w + 5 ≤ z) → f1 z = f z) ∧ (∃ F4 W4 A4 B4, sc G f1 t F4 W4 A4 B4 = f1) ∧ ∃ V4 C4 M4 L4 T4, wy G f1 w V4 C4 M4 L4 T4 = f1
theorem beX_fig {N p : Nat} {A : Nat → Nat → Int32} {B : Nat → Int32} {z : Int32} (h : ∀ a b, a < N → b < N → B (a * 8 + b) = brS A a b) : beX N p (upA A 2 p z) B := by
  intro a b ha hb h1 h2
  rw [h a b ha hb]
  unfold brS
  rw [upA_n _ (by decide), upA_s]
  simp only [upd]
  rw [if_neg h1, if_neg h2]
theorem kf_fig {N p : Nat} {A : Nat → Nat → Int32} {gz : Nat} (h : kfOK N A) (hg : gz < 10) : kfOK N (upA A 2 p (nI gz)) := by
  intro i hi
  rw [upA_n _ (by decide), upA_s]
  refine ⟨(h i hi).1, ?_⟩
  simp only [upd]
  by_cases e : i = p
  · rw [if_pos e]; exact ⟨gz, hg, rfl⟩
  · rw [if_neg e]; exact (h i hi).2
theorem who_fig {G : GX} {m : Mem} {s n v p : Nat} {W : Nat → Option Nat} {A : Nat → Nat → Int32} {g : Int32} (hw : whoOK G m s n W A) (hv : oneM G m n v (A 1 p) g) (hvo : v < s ∨ s + 8 ≤ v) : whoOK G m s n (va_up W p (some v)) (upA A 2 p g) := by
  intro i hi
  rw [upA_n _ (by decide), upA_s]
  simp only [upd]
  by_cases e : i = p
  · subst e
    refine ⟨v, by unfold va_up; rw [if_pos rfl], ?_, hvo⟩
    rw [if_pos rfl]
    exact hv
  · obtain ⟨a, h1, h2, h3⟩ := hw i hi
    refine ⟨a, by unfold va_up; rw [if_neg e]; exact h1, ?_, h3⟩
    rw [if_neg e]
    exact h2
section E4
variable {G : GX} {m0 f : Mem} {x s i0 t w os rs n N M : Nat} {F F3 : Nat → Int32} {W W3 : Nat → Option Nat} {A A3 : Nat → Nat → Int32} {B B3 : Nat → Int32} {b : Int32} {V C Mt T : Nat → Int32} {Wl : Nat → Int64}
set_option maxHeartbeats 4000000 in
set_option maxRecDepth 100000 in
theorem e_X11_borneIfTold (hX : f x = ob 11 (xfs s i0 t w os rs b)) (hs : sc G f s F W A B = f) (htr : sc G f t F3 W3 A3 B3 = f) (hwy : wy G f w V C Mt Wl T = f) (hq : G.2.1 ≤ s) (hn : s + 8 ≤ n) (hqt : G.2.1 ≤ t) (hnt : t + 8 ≤ n) (hqw : G.2.1 ≤ w) (hnw : w + 5 ≤ n) (hdj : s + 8 ≤ t ∨ t + 8 ≤ s) (hdt : w + 5 ≤ t ∨ t + 8 ≤ w) (hds : w + 5 ≤ s ∨ s + 8 ≤ w) (hx1 : G.2.1 ≤ x) (hx2 : x < n) (hxt : x < t ∨ t + 8 ≤ x) (hxw : x < w ∨ w + 5 ≤ x) (h : tsH G f s n N M F W A B) (hkf : kfOK N A) (hz : wP (zSW s t w) W) {p gz : Nat} (hp : p < N) (hg : gz < 10) : Ev G mX11_borneIfTold 21 1 1 [.ref x, .int (nI p), .int (nI gz)] f n (fun r f1 n1 => r = some (.int (bbS N A p (nI gz))) ∧ thF G f t w n n1 f1) := by
  generalize hQ9 : (fun r f1 n1 => r = some (.int (bbS N A p (nI gz))) ∧ thF G f t w n n1 f1 : RQ) = Q9
  refine ev_of (by decide) (Nat.le_of_ble_eq_true rfl) (ls := [some (.ref x), some (.int (nI p)), some (.int (nI gz)), none]) rfl (fun hb => ?_)
  have hN8 := h.hN8
  have hso : f s = ob 5 (sfs s F) := (congrFun hs s).symm.trans sc_obj
  have hs1 : f (s + 1) = oa G 2 8 W := (congrFun hs (s + 1)).symm.trans sc_1
  refine go_aload_n dX11_borneIfTold_0 rfl ?_
  refine go_get dX11_borneIfTold_1 fl_X11_10_11 hX hx1 (by omega) rfl ?_
  refine go_get dX11_borneIfTold_4 fl_X11_83_5 hso hq (by omega) rfl ?_
  refine go_iload_n dX11_borneIfTold_7 rfl ?_
  obtain ⟨w8, ew8, hw8, hwo8⟩ := h.hw p (by omega)
  refine go_oald dX11_borneIfTold_8 hs1 (by omega) (by omega) (vp_in_nI (n := p) (by show p < 8; omega) (by decide)) ?_
  refine go_tv (w := .ref w8) (by rw [nI_clamp (by omega), ew8]; rfl) ?_
  refine go1_X11_kind hw8 dX11_borneIfTold_9 rfl (by omega) (Nat.le_of_ble_eq_true rfl) (Nat.le_of_ble_eq_true rfl) (Nat.le_of_ble_eq_true rfl) ?_
  refine go_iload_n dX11_borneIfTold_12 rfl ?_
  refine go_S [.int (A 1 p), .int (nI gz)] [] dX11_borneIfTold_13 sl_X11_299 ⟨by omega, by decide⟩ e_X11_oneOf rfl rfl (Nat.le_of_ble_eq_true rfl) (Nat.le_of_ble_eq_true rfl) (Nat.le_of_ble_eq_true rfl) (fun r1 f1 n1 h1 => ?_)
  rcases h1 with ⟨hno, hr1, hf1, hn1⟩ | ⟨kk, gg, hkk, hgg, ek, eg, hr1, hf1, hn1⟩
  · exact absurd ⟨nI_okr (k := 9) (by omega) (by omega), by obtain ⟨k, hk, e⟩ := (hkf p hp).1; rw [e]; exact nI_okr (k := 7) (by omega) (by omega)⟩ hno
  · subst r1
    subst f1
    subst n1
    have hfe : ∀ z, z < n → (va_up f n (ob (oneCi kk) [.int (nI gg)])) z = f z := fun z hz => vup_ne (by omega)
    have hse : sc G (va_up f n (ob (oneCi kk) [.int (nI gg)])) s F W A B = (va_up f n (ob (oneCi kk) [.int (nI gg)])) := sc_of hs hfe hn
    have hte : sc G (va_up f n (ob (oneCi kk) [.int (nI gg)])) t F3 W3 A3 B3 = (va_up f n (ob (oneCi kk) [.int (nI gg)])) := sc_of htr hfe hnt
    have hwe : wy G (va_up f n (ob (oneCi kk) [.int (nI gg)])) w V C Mt Wl T = (va_up f n (ob (oneCi kk) [.int (nI gg)])) := wy_of2 hwy (fun z z1 z2 => hfe z (by omega))
    have hXe : (va_up f n (ob (oneCi kk) [.int (nI gg)])) x = ob 11 (xfs s i0 t w os rs b) := (hfe x hx2).trans hX
    have hwhe := h.hw.ext hfe (Nat.le_succ n)
    refine go_astore_n (ls' := [some (.ref x), some (.int (nI p)), some (.int (nI gz)), some (.ref n)]) dX11_borneIfTold_16 ⟨by decide, rfl, rfl⟩ ?_
    refine go_aload_n dX11_borneIfTold_17 rfl ?_
    refine go_ifnonnull dX11_borneIfTold_18 ?_
    refine go_aload_n dX11_borneIfTold_23 rfl ?_
    refine go_get dX11_borneIfTold_24 fl_X11_19_11 hXe hx1 (by omega) rfl ?_
    refine go_aload_n dX11_borneIfTold_27 rfl ?_
    refine go_get dX11_borneIfTold_28 fl_X11_10_11 hXe hx1 (by omega) rfl ?_
    refine go_mem (f' := sc G (sc G (va_up f n (ob (oneCi kk) [.int (nI gg)])) s F W A B) t F3 W3 A3 B3) (by rw [hse, hte]) ?_
    refine go_V [.ref s] [] dX11_borneIfTold_31 vl_X11_61 ⟨by omega, by decide⟩ (e_X5_becomes2 hqt (by omega) hq (by omega) hdj (who2s hwhe (zSW.st hz))) sc_obj hqt (by omega) rfl rfl (Nat.le_of_ble_eq_true rfl) (Nat.le_of_ble_eq_true rfl) (Nat.le_of_ble_eq_true rfl) (fun rb fb nb hb => ?_)
    obtain ⟨hb1, hb2, hb3⟩ := hb
    subst rb
    subst fb
    subst nb
    refine go_mem (f' := (sc G (va_up f n (ob (oneCi kk) [.int (nI gg)])) t F W (upA A 2 p (nI gz)) B)) (by rw [hse]; exact sc_rows (fun r h3 h7 => upA_n _ (by omega) _ _)) ?_
    have hXb : (sc G (va_up f n (ob (oneCi kk) [.int (nI gg)])) t F W (upA A 2 p (nI gz)) B) x = ob 11 (xfs s i0 t w os rs b) := (sc_out hxt).trans hXe
    refine go_aload_n dX11_borneIfTold_34 rfl ?_
    refine go_get dX11_borneIfTold_35 fl_X11_19_11 hXb hx1 (by omega) rfl ?_
    refine go_aload_n dX11_borneIfTold_38 rfl ?_
    refine go_iload_n dX11_borneIfTold_39 rfl ?_
    have hv0 : oneM G (va_up f n (ob (oneCi kk) [.int (nI gg)])) (n + 1) n ((upA A 2 p (nI gz)) 1 p) ((upA A 2 p (nI gz)) 2 p) := ⟨kk, gg, hkk, hgg, ek, by rw [upA_s]; simp only [upd]; rw [if_pos trivial]; exact eg, vup_at, by omega, by omega⟩
    refine go_V [.ref n, .int (nI p)] [] dX11_borneIfTold_40 vl_X11_356 ⟨by omega, by decide⟩ (e_X5_seat (F := F) (W := W) (A := (upA A 2 p (nI gz))) (B := B) (N := N) hqt (by omega) h.hN h.hN8 hp hv0 (by omega) (who_fig (whoT hwhe (zSW.st hz)) (by obtain ⟨k2, g2, z1, z2, z3, z4, z5⟩ := hv0; exact ⟨k2, g2, z1, z2, z3, by rw [upA_s] at z4; simp only [upd] at z4; rw [if_pos trivial] at z4; exact z4, z5⟩) (by omega)) (beX_fig h.hbe)) sc_obj hqt (by omega) rfl rfl (Nat.le_of_ble_eq_true rfl) (Nat.le_of_ble_eq_true rfl) (Nat.le_of_ble_eq_true rfl) (fun rb fb nb hb => ?_)
    obtain ⟨hb1, ⟨B4, hB4, hb2⟩, hb3⟩ := hb
    subst rb
    subst fb
    subst nb
    have hXc : (sc G (va_up f n (ob (oneCi kk) [.int (nI gg)])) t F (va_up W p (some n)) (upA A 2 p (nI gz)) B4) x = ob 11 (xfs s i0 t w os rs b) := (sc_out hxt).trans hXe
    refine go_aload_n dX11_borneIfTold_43 rfl ?_
    refine go_get dX11_borneIfTold_44 fl_X11_25_11 hXc hx1 (by omega) rfl ?_
    refine go_aload_n dX11_borneIfTold_47 rfl ?_
    refine go_get dX11_borneIfTold_48 fl_X11_19_11 hXc hx1 (by omega) rfl ?_
    refine go_iconst (v := 0) dX11_borneIfTold_51 rfl ?_
    refine go_mem (f' := sc G (wy G (va_up f n (ob (oneCi kk) [.int (nI gg)])) w V C Mt Wl T) t F (va_up W p (some n)) (upA A 2 p (nI gz)) B4) (by rw [hwe]) ?_
    refine go_V [.ref t, .int (if false then 1 else 0)] [] dX11_borneIfTold_52 vl_X11_177 ⟨by omega, by decide⟩ (e_X9_tryTwos hqt (by omega) hqw (by omega) hdt h.hN h.hN8 hB4) ((sc_out (by omega)).trans wy_obj) hqw (by omega) rfl rfl (Nat.le_of_ble_eq_true rfl) (Nat.le_of_ble_eq_true rfl) (Nat.le_of_ble_eq_true rfl) (fun rb fb nb hb => ?_)
    obtain ⟨hb1, hb2, hb3⟩ := hb
    subst rb
    subst fb
    subst nb
    have hdt2 : w < t ∨ t + 8 ≤ w := by omega
    have hkf2 := kf_fig (p := p) hkf hg
    have hXd : (sc G (wy G (va_up f n (ob (oneCi kk) [.int (nI gg)])) w (wV (pairS N (upA A 2 p (nI gz)) false (N + 1) 0 0 (frN 8 Mt) (-1, 0, C)) (if false then 1 else 0) (V 2)) (pairS N (upA A 2 p (nI gz)) false (N + 1) 0 0 (frN 8 Mt) (-1, 0, C)).2.2 (frN 8 Mt) Wl T) t F (va_up W p (some n)) (upA A 2 p (nI gz)) B4) x = ob 11 (xfs s i0 t w os rs b) := (sc_out hxt).trans ((wy_out hxw).trans hXe)
    have hfd : ∀ z, z < n → (z < t ∨ t + 8 ≤ z) → (z < w ∨ w + 5 ≤ z) → (sc G (wy G (va_up f n (ob (oneCi kk) [.int (nI gg)])) w (wV (pairS N (upA A 2 p (nI gz)) false (N + 1) 0 0 (frN 8 Mt) (-1, 0, C)) (if false then 1 else 0) (V 2)) (pairS N (upA A 2 p (nI gz)) false (N + 1) 0 0 (frN 8 Mt) (-1, 0, C)).2.2 (frN 8 Mt) Wl T) t F (va_up W p (some n)) (upA A 2 p (nI gz)) B4) z = f z := fun z z1 z2 z3 => (sc_out z2).trans ((wy_out z3).trans (hfe z z1))
    have hsd : sc G (sc G (wy G (va_up f n (ob (oneCi kk) [.int (nI gg)])) w (wV (pairS N (upA A 2 p (nI gz)) false (N + 1) 0 0 (frN 8 Mt) (-1, 0, C)) (if false then 1 else 0) (V 2)) (pairS N (upA A 2 p (nI gz)) false (N + 1) 0 0 (frN 8 Mt) (-1, 0, C)).2.2 (frN 8 Mt) Wl T) t F (va_up W p (some n)) (upA A 2 p (nI gz)) B4) s F W A B = (sc G (wy G (va_up f n (ob (oneCi kk) [.int (nI gg)])) w (wV (pairS N (upA A 2 p (nI gz)) false (N + 1) 0 0 (frN 8 Mt) (-1, 0, C)) (if false then 1 else 0) (V 2)) (pairS N (upA A 2 p (nI gz)) false (N + 1) 0 0 (frN 8 Mt) (-1, 0, C)).2.2 (frN 8 Mt) Wl T) t F (va_up W p (some n)) (upA A 2 p (nI gz)) B4) := sc_of2 hs (fun z z1 z2 => hfd z (by omega) (by omega) (by omega))
    refine go_aload_n dX11_borneIfTold_55 rfl ?_
    refine go_get dX11_borneIfTold_56 fl_X11_10_11 hXd hx1 (by omega) rfl ?_
    refine go_iload_n dX11_borneIfTold_59 rfl ?_
    refine go_aload_n dX11_borneIfTold_60 rfl ?_
    refine go_get dX11_borneIfTold_61 fl_X11_25_11 hXd hx1 (by omega) rfl ?_
    refine go_get dX11_borneIfTold_64 fl_X11_184_9 ((sc_out hdt2).trans wy_obj) hqw (by omega) rfl ?_
    refine go_iload_n dX11_borneIfTold_67 rfl ?_
    refine go_iald dX11_borneIfTold_68 ((sc_out (by omega)).trans wy_1) (by omega) (by omega) (vp_in_nI (n := p) (by show p < 8; omega) (by decide)) ?_
    refine go_tp (z := bsM N (upA A 2 p (nI gz)) p) (by rw [nI_clamp (by omega)]; exact (bes_all h.hN8 hkf2).2 p hp) ?_
    refine go_mem (f' := sc G (sc G (wy G (va_up f n (ob (oneCi kk) [.int (nI gg)])) w (wV (pairS N (upA A 2 p (nI gz)) false (N + 1) 0 0 (frN 8 Mt) (-1, 0, C)) (if false then 1 else 0) (V 2)) (pairS N (upA A 2 p (nI gz)) false (N + 1) 0 0 (frN 8 Mt) (-1, 0, C)).2.2 (frN 8 Mt) Wl T) t F (va_up W p (some n)) (upA A 2 p (nI gz)) B4) s F W A B) hsd.symm ?_
    have hmo := bsM_ok h.hN8 hkf2 p hp
    refine go_Vr [.int (nI p), .int (bsM N (upA A 2 p (nI gz)) p)] [] dX11_borneIfTold_69 vl_X11_360 ⟨by omega, by decide⟩ (e_X5_borneOf hq (by omega) h.hbe hp hmo h.hN8) sc_obj hq (by omega) rfl rfl (Nat.le_of_ble_eq_true rfl) (Nat.le_of_ble_eq_true rfl) (Nat.le_of_ble_eq_true rfl) ?_
    refine go_mem (f' := (sc G (wy G (va_up f n (ob (oneCi kk) [.int (nI gg)])) w (wV (pairS N (upA A 2 p (nI gz)) false (N + 1) 0 0 (frN 8 Mt) (-1, 0, C)) (if false then 1 else 0) (V 2)) (pairS N (upA A 2 p (nI gz)) false (N + 1) 0 0 (frN 8 Mt) (-1, 0, C)).2.2 (frN 8 Mt) Wl T) t F (va_up W p (some n)) (upA A 2 p (nI gz)) B4)) hsd ?_
    exact go_iret dX11_borneIfTold_72 rfl (Nat.le_of_ble_eq_true rfl) (Nat.le_of_ble_eq_true rfl) (hQ9 ▸ ⟨rfl, Nat.le_succ _, hfd, ⟨_, _, _, _, sc_idem⟩, _, _, _, _, _, by rw [← sc_wy hdt, wy_idem]⟩)
theorem thF.tr {G : GX} {f f1 f2 : Mem} {t w n n1 n2 : Nat} (h1 : thF G f t w n n1 f1) (h2 : thF G f1 t w n1 n2 f2) (_ : t + 8 ≤ n) (_ : w + 5 ≤ n) : thF G f t w n n2 f2 := ⟨Nat.le_trans h1.1 h2.1, fun z z1 z2 z3 => (h2.2.1 z (Nat.lt_of_lt_of_le z1 h1.1) z2 z3).trans (h1.2.1 z z1 z2 z3), h2.2.2⟩
theorem ot_n1 {N p k : Nat} {A : Nat → Nat → Int32} {mo : Int32} (h : mo = othM N A p k) (hc : ¬ mo < bbS N A p (nI k)) : mo = othM N A p (k + 1) := by
  show mo = grS (othM N A p k) (bbS N A p (nI k))
  unfold grS
  rw [← h]
  by_cases e : bbS N A p (nI k) < mo
  · rw [if_pos e]
  · rw [if_neg e]
    exact Int32.le_antisymm (Int32.not_lt.mp e) (Int32.not_lt.mp hc)
theorem ot_n2 {N p k : Nat} {A : Nat → Nat → Int32} {mo be : Int32} (h : mo = othM N A p k) (hb : be = othB N A p k) (hc : ¬ mo < bbS N A p (nI k)) : be = othB N A p (k + 1) := by
  show be = if othM N A p k < bbS N A p (nI k) then nI k else othB N A p k
  rw [← h, if_neg hc]
  exact hb
theorem ot_y1 {N p k : Nat} {A : Nat → Nat → Int32} {mo : Int32} (h : mo = othM N A p k) (hc : mo < bbS N A p (nI k)) : bbS N A p (nI k) = othM N A p (k + 1) := by
  show _ = grS (othM N A p k) (bbS N A p (nI k))
  unfold grS
  rw [← h, if_neg]
  exact fun z => Int32.lt_irrefl (Int32.lt_trans z hc)
theorem ot_y2 {N p k : Nat} {A : Nat → Nat → Int32} {mo : Int32} (h : mo = othM N A p k) (hc : mo < bbS N A p (nI k)) : nI k = othB N A p (k + 1) := by
  show nI k = if othM N A p k < bbS N A p (nI k) then nI k else othB N A p k
  rw [← h, if_pos hc]
set_option maxHeartbeats 4000000 in
set_option maxRecDepth 100000 in
theorem e_X11_otherwise (hX : f x = ob 11 (xfs s i0 t w os rs b)) (hs : sc G f s F W A B = f) (htr : sc G f t F3 W3 A3 B3 = f) (hwy : wy G f w V C Mt Wl T = f) (hq : G.2.1 ≤ s) (hn : s + 8 ≤ n) (hqt : G.2.1 ≤ t) (hnt : t + 8 ≤ n) (hqw : G.2.1 ≤ w) (hnw : w + 5 ≤ n) (hdj : s + 8 ≤ t ∨ t + 8 ≤ s) (hdt : w + 5 ≤ t ∨ t + 8 ≤ w) (hds : w + 5 ≤ s ∨ s + 8 ≤ w) (hx1 : G.2.1 ≤ x) (hx2 : x < n) (hxt : x < t ∨ t + 8 ≤ x) (hxw : x < w ∨ w + 5 ≤ x) (h : tsH G f s n N M F W A B) (hkf : kfOK N A) (hz : wP (zSW s t w) W) {q : Int32} : Ev G mX11_otherwise 22 11 11 [.ref x, .int q] f n (fun r f1 n1 => r = some (.int (othS N A q)) ∧ thF G f t w n n1 f1) := by
  generalize hQ9 : (fun r f1 n1 => r = some (.int (othS N A q)) ∧ thF G f t w n n1 f1 : RQ) = Q9
  refine ev_of (by decide) (Nat.le_of_ble_eq_true rfl) (ls := [some (.ref x), some (.int q), none, none, none, none]) rfl (fun hb => ?_)
  have hN8 := h.hN8
  have hso : f s = ob 5 (sfs s F) := (congrFun hs s).symm.trans sc_obj
  have hs1 : f (s + 1) = oa G 2 8 W := (congrFun hs (s + 1)).symm.trans sc_1
  refine go_aload_n dX11_otherwise_0 rfl ?_
  refine go_get dX11_otherwise_1 fl_X11_10_11 hX hx1 (by omega) rfl ?_
  refine go_iload_n dX11_otherwise_4 rfl ?_
  refine go_mem (f' := sc G f s F W A B) hs.symm ?_
  refine go_Vr [.int q] [] dX11_otherwise_5 vl_X11_79 ⟨by omega, by decide⟩ (e_X5_hasPupil hq hn h.hN h.hN8) sc_obj hq (by omega) rfl rfl (Nat.le_of_ble_eq_true rfl) (Nat.le_of_ble_eq_true rfl) (Nat.le_of_ble_eq_true rfl) ?_
  refine go_mem (f' := f) hs ?_
  refine go_if_ne dX11_otherwise_8 (fun c8 => ?_) (fun c8 => ?_)
  · have c8 := bz_t c8
    obtain ⟨jq, hjq, rfl⟩ := okp_nI c8 (by omega)
    have kjq : (nI jq).toNatClampNeg = jq := nI_clamp (by omega)
    refine go_aload_n dX11_otherwise_13 rfl ?_
    refine go_iload_n dX11_otherwise_14 rfl ?_
    refine go_aload_n dX11_otherwise_15 rfl ?_
    refine go_get dX11_otherwise_16 fl_X11_10_11 hX hx1 (by omega) rfl ?_
    refine go_get dX11_otherwise_19 fl_X11_83_5 hso hq (by omega) rfl ?_
    refine go_iload_n dX11_otherwise_22 rfl ?_
    obtain ⟨w23, ew23, hw23, hwo23⟩ := h.hw jq (by omega)
    refine go_oald dX11_otherwise_23 hs1 (by omega) (by omega) (vp_in_nI (n := jq) (by show jq < 8; omega) (by decide)) ?_
    refine go_tv (w := .ref w23) (by rw [nI_clamp (by omega), ew23]; rfl) ?_
    refine go1_X11_figure hw23 dX11_otherwise_24 rfl ?_
    obtain ⟨gz, hgz, egz⟩ := (hkf jq hjq).2
    refine go_tp (z := nI gz) egz ?_
    have hev := e_X11_borneIfTold hX hs htr hwy hq hn hqt hnt hqw hnw hdj hdt hds hx1 hx2 hxt hxw h hkf hz (p := jq) (gz := gz) hjq hgz
    refine go_V [.int (nI jq), .int (nI gz)] [] dX11_otherwise_27 vl_X11_226 ⟨by omega, by decide⟩ hev hX hx1 hx2 rfl rfl (Nat.le_of_ble_eq_true rfl) (Nat.le_of_ble_eq_true rfl) (Nat.le_of_ble_eq_true rfl) (fun r1 f1 n1 h1 => ?_)
    obtain ⟨hr1, hth1⟩ := h1
    subst r1
    refine go_tp (z := othM N A jq 0) (by rw [← egz]; rfl) ?_
    refine go_istore_n (ls' := [some (.ref x), some (.int (nI jq)), some (.int (othM N A jq 0)), none, none, none]) dX11_otherwise_30 ⟨by decide, rfl, rfl⟩ ?_
    refine go_bipush (v := (-4)) dX11_otherwise_31 rfl ?_
    refine go_istore_n (ls' := [some (.ref x), some (.int (nI jq)), some (.int (othM N A jq 0)), some (.int (-4)), none, none]) dX11_otherwise_33 ⟨by decide, rfl, rfl⟩ ?_
    refine go_iconst (v := 0) dX11_otherwise_34 rfl ?_
    refine go_istore (ls' := [some (.ref x), some (.int (nI jq)), some (.int (othM N A jq 0)), some (.int (-4)), some (.int 0), none]) dX11_otherwise_35 ⟨by decide, rfl, rfl⟩ ?_
    have lp0 : ∀ (μ_lp0 : Nat) (k : Nat) (g : Mem) (nn : Nat) (hk : k ≤ 10) (hmk : 11 ≤ k + μ_lp0) (hnn : n ≤ nn) (hth : thF G f t w n nn g) (mo be : Int32) (hmo : mo = othM N A jq k) (hbe2 : be = othB N A jq k) , Go G mX11_otherwise 22 11 11 Q9 (k + 1) (k + 1) 37 [some (.ref x), some (.int (nI jq)), some (.int mo), some (.int be), some (.int (nI k)), none] [] g nn := by
      intro μ_lp0
      induction μ_lp0 with
      | zero =>
        intro k g nn hk hmk hnn hth mo be hmo hbe2
        exact absurd hmk (by omega)
      | succ μ_lp0 ih_lp0 =>
        intro k g nn hk hmk hnn hth mo be hmo hbe2
        refine go_iload dX11_otherwise_37 rfl ?_
        refine go_bipush (v := 9) dX11_otherwise_39 rfl ?_
        refine go_icmp_gt dX11_otherwise_41 (fun c41 => ?_) (fun c41 => ?_)
        · have c41n := (nI_ltI (a := 9) (b := k) (by omega) (by omega)).mp c41
          refine go_iload_n dX11_otherwise_71 rfl ?_
          exact go_iret dX11_otherwise_72 rfl (by omega) (by omega) (hQ9 ▸ ⟨rd_i (by unfold othS; rw [if_pos c8, kjq, hbe2, show k = 10 by omega]), hth⟩)
        · have c41n := mt (nI_ltI (a := 9) (b := k) (by omega) (by omega)).mpr c41
          refine go_aload_n dX11_otherwise_44 rfl ?_
          refine go_iload_n dX11_otherwise_45 rfl ?_
          refine go_iload dX11_otherwise_46 rfl ?_
          obtain ⟨hn9, hg9, ⟨F5, W5, A5, B5, ht5⟩, V5, C5, M5, L5, T5, hw5⟩ := id hth
          have hs5 : sc G g s F W A B = g := sc_of2 hs (fun z z1 z2 => hg9 z (by omega) (by omega) (by omega))
          have h5 : tsH G g s nn N M F W A B := ⟨h.hN, h.hN8, h.hM, h.hM5, h.hbe, fun i hi => (h.hw i hi).elim fun a ⟨y1, ⟨z1, z2, z3, z4, z5, z6, z7, z8, z9⟩, y3⟩ => ⟨a, y1, ⟨z1, z2, z3, z4, z5, z6, (hg9 a z9 (hz i hi a y1).2.1 (hz i hi a y1).2.2).trans z7, z8, Nat.lt_of_lt_of_le z9 hnn⟩, y3⟩, h.hab, h.hI⟩
          have hX5 : g x = ob 11 (xfs s i0 t w os rs b) := (hg9 x hx2 hxt hxw).trans hX
          have hev := e_X11_borneIfTold hX5 hs5 ht5 hw5 hq (by omega) hqt (by omega) hqw (by omega) hdj hdt hds hx1 (by omega) hxt hxw h5 hkf hz (p := jq) (gz := k) hjq (by omega)
          refine go_V [.int (nI jq), .int (nI k)] [] dX11_otherwise_48 vl_X11_226 ⟨by omega, by decide⟩ hev hX5 hx1 (by omega) rfl rfl (Nat.le_of_ble_eq_true rfl) (by omega) (by omega) (fun r1 f1 n1 h1 => ?_)
          obtain ⟨hr1, hth1⟩ := h1
          subst r1
          have hth2 := hth.tr hth1 hnt hnw
          refine go_istore (ls' := [some (.ref x), some (.int (nI jq)), some (.int mo), some (.int be), some (.int (nI k)), some (.int (bbS N A jq (nI k)))]) dX11_otherwise_51 ⟨by decide, rfl, rfl⟩ ?_
          refine go_iload dX11_otherwise_53 rfl ?_
          refine go_iload_n dX11_otherwise_55 rfl ?_
          refine go_icmp_le dX11_otherwise_56 (fun c56 => ?_) (fun c56 => ?_)
          · have c56 := Int32.not_lt.mpr c56
            refine go_iinc (v := nI (k + 1)) (ls' := [some (.ref x), some (.int (nI jq)), some (.int mo), some (.int be), some (.int (nI (k + 1))), some (.int (bbS N A jq (nI k)))]) dX11_otherwise_65 rfl (nI_1 (k)) ⟨by decide, rfl, rfl⟩ ?_
            refine go_goto dX11_otherwise_68 ?_
            refine go_weak (ls' := [some (.ref x), some (.int (nI jq)), some (.int mo), some (.int be), some (.int (nI (k + 1))), none]) ⟨rfl, rfl, rfl, rfl, rfl, trivial⟩ ?_
            exact ih_lp0 (k + 1) f1 n1 (by omega) (by omega) hth2.1 hth2 _ _ (ot_n1 hmo c56) (ot_n2 hmo hbe2 c56)
          · have c56 := Int32.not_le.mp c56
            refine go_iload dX11_otherwise_59 rfl ?_
            refine go_istore_n (ls' := [some (.ref x), some (.int (nI jq)), some (.int (bbS N A jq (nI k))), some (.int be), some (.int (nI k)), some (.int (bbS N A jq (nI k)))]) dX11_otherwise_61 ⟨by decide, rfl, rfl⟩ ?_
            refine go_iload dX11_otherwise_62 rfl ?_
            refine go_istore_n (ls' := [some (.ref x), some (.int (nI jq)), some (.int (bbS N A jq (nI k))), some (.int (nI k)), some (.int (nI k)), some (.int (bbS N A jq (nI k)))]) dX11_otherwise_64 ⟨by decide, rfl, rfl⟩ ?_
            refine go_iinc (v := nI (k + 1)) (ls' := [some (.ref x), some (.int (nI jq)), some (.int (bbS N A jq (nI k))), some (.int (nI k)), some (.int (nI (k + 1))), some (.int (bbS N A jq (nI k)))]) dX11_otherwise_65 rfl (nI_1 (k)) ⟨by decide, rfl, rfl⟩ ?_
            refine go_goto dX11_otherwise_68 ?_
            refine go_weak (ls' := [some (.ref x), some (.int (nI jq)), some (.int (bbS N A jq (nI k))), some (.int (nI k)), some (.int (nI (k + 1))), none]) ⟨rfl, rfl, rfl, rfl, rfl, trivial⟩ ?_
            exact ih_lp0 (k + 1) f1 n1 (by omega) (by omega) hth2.1 hth2 _ _ (ot_y1 hmo c56) (ot_y2 hmo c56)
    exact lp0 11 0 f1 n1 (Nat.zero_le _) (by omega) hth1.1 hth1 _ _ rfl rfl
  · have c8 := bz_f c8
    refine go_iconst (v := (-1)) dX11_otherwise_11 rfl ?_
    exact go_iret dX11_otherwise_12 rfl (Nat.le_of_ble_eq_true rfl) (Nat.le_of_ble_eq_true rfl) (hQ9 ▸ ⟨rd_i (by unfold othS; rw [if_neg c8]), Nat.le_refl _, fun _ _ _ _ => rfl, ⟨_, _, _, _, htr⟩, _, _, _, _, _, hwy⟩)
end E4
