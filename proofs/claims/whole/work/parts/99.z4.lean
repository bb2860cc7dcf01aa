section Z4
variable {G : GX} {y : MD} {R : Room} {Z : State → Prop} {p : Program} {e : Env} {s : State} {m : MethodId} {args : Array Value} {below : List Frame} {meth : Method} {c : Code}
variable {kc ks pc pc2 d mc ms : Nat} {ls ls' : List (Option Value)} {st : List Value} {f : Mem} {n : Nat}
/-- what a method's own table takes -/
theorem gt_catch (C : zC G y p s m args meth c) (X : gX G s) {E name : String} {pre suf : List ExceptionTableEntry} {x : ExceptionTableEntry} (hsplit : c.exceptionTable.toList = pre ++ x :: suf)
    (hpass : ∀ z ∈ pre, covers z pc = false ∨ (z.catchType ≠ 0 ∧ ∃ nm : String, Cond.classLink y.1.cls z.catchType nm ∈ gT ∧ (E, nm) ∈ gXn)) (hx : covers x pc = true) (h0 : x.catchType ≠ 0) (hlink : Cond.classLink y.1.cls x.catchType name ∈ gT) (hcast : (E, name) ∈ gXc)
    {ce : Cell} {q9 : Addr} {n1 : Nat} {H1 : Heap} {locs1 : List Loc} {la : Array Slot} (hP : gP G f n1 H1) (hS : va_S (gA G) s.heap H1 locs1) (hl : lv_has la y.2.2.1 (gl 0 ls)) (hce : H1[q9]? = some ce) (hv : ce.vm = .none) (hcl : s.vm.findClass E = some ce.cls)
    (k : Gz G y R Z p e s m args below meth c kc ks x.handlerPc ls [.ref q9] f n1) : vx_W p G.1 e R s m args below meth c H1 locs1 kc ks Z (F0 m pc la st) q9 :=
  vx_catch C.2.2.2.1 pre x suf hsplit (fun z hz => (hpass z hz).imp id (fun ⟨a1, nm, a2, a3⟩ => ⟨a1, nm, C.ht _ a2, X.2.2.2.2.1 _ a3⟩)) hx h0 (C.ht _ hlink) (va_Nw.use rfl (X.2.2.2.2.2.1 _ hcast)) hce hv hcl (k H1 locs1 la hP hS hl)
end Z4
section Z5
variable {G : GX} {f : Mem} {x s0 i0 t w os rs n a : Nat} {b : Int32} {Os Rs : Nat → Option Nat} {A : Nat → Nat → Int32}
def tosQ (f : Mem) (n : Nat) (v : Int32) : RQ := fun r f1 n1 => r = some (.int v) ∧ (∀ z, z < n → f1 z = f z) ∧ n ≤ n1
theorem tos_nz {k fg : Int32} (h : k = 1 ∨ k = 5 ∨ fg = 0) : tosV k fg = -15 := if_pos h
theorem tos_4 {fg : Int32} (h : ¬ fg = 0) : tosV 4 fg = 200 + costS 4 fg := (if_neg (fun z => z.elim (by decide) fun z => z.elim (by decide) h)).trans (if_pos rfl)
theorem tos_26 {k fg : Int32} (hk : k = 2 ∨ k = 6) (h : ¬ fg = 0) : tosV k fg = 100 + fg := by
  rcases hk with rfl | rfl
  · exact (if_neg (fun z => z.elim (by decide) fun z => z.elim (by decide) h)).trans ((if_neg (by decide)).trans (if_pos (Or.inl rfl)))
  · exact (if_neg (fun z => z.elim (by decide) fun z => z.elim (by decide) h)).trans ((if_neg (by decide)).trans (if_pos (Or.inr rfl)))
theorem tos_e {k fg : Int32} (hk : k = 0 ∨ k = 3 ∨ k = 7) (h : ¬ fg = 0) : tosV k fg = fg := by
  rcases hk with rfl | rfl | rfl
  · exact (if_neg (fun z => z.elim (by decide) fun z => z.elim (by decide) h)).trans ((if_neg (by decide)).trans (if_neg (fun z => z.elim (by decide) (by decide))))
  · exact (if_neg (fun z => z.elim (by decide) fun z => z.elim (by decide) h)).trans ((if_neg (by decide)).trans (if_neg (fun z => z.elim (by decide) (by decide))))
  · exact (if_neg (fun z => z.elim (by decide) fun z => z.elim (by decide) h)).trans ((if_neg (by decide)).trans (if_neg (fun z => z.elim (by decide) (by decide))))
set_option maxHeartbeats 4000000 in
set_option maxRecDepth 100000 in
theorem t_X11_toss (hX : xsK G f x s0 i0 t w os rs n b Os Rs) (hS : ∀ d, d < 8 → shD G f n Os Rs A d) {d : Int32} : EvH G mX11_toss [(16, 20, 23, 347), (16, 20, 33, 319), (16, 20, 42, 312)] 7 1 6 [.ref x, .int d] f n (tosQ f n (tosS A d)) := by
  refine eh_of (by decide) (Nat.le_of_ble_eq_true rfl) (ls := [some (.ref x), some (.int d), none, none]) rfl (fun hb p e s m args below meth c C X hT => ?_)
  by_cases hd : okr d 0 7 = true
  · obtain ⟨jd, hjd, rfl⟩ := okr_nI (k := 7) rfl (by omega) hd
    have kjd : (nI jd).toNatClampNeg = jd := nI_clamp (by omega)
    rcases hS jd (by omega) with ⟨e8, eO, eR⟩ | ⟨e8, eR, ajd, eO, ho⟩ | ⟨e8, eO, b1, ar, R, g, eR, hr, eK⟩
    · refine gz_aload_n C dX11_toss_0 rfl ?_
      refine gz_iload_n C dX11_toss_1 rfl ?_
      refine gz_Vr C [.int (nI jd)] [] dX11_toss_2 vl_X11_337 ⟨(Nat.le_of_ble_eq_true rfl), (Nat.le_of_ble_eq_true rfl), by decide⟩ (e_X11_oneOn hX) hX.1 hX.2.1 hX.2.2.1 rfl rfl (Nat.le_of_ble_eq_true rfl) (Nat.le_of_ble_eq_true rfl) (Nat.le_of_ble_eq_true rfl) ?_
      refine gz_tv C (w := .null) (by rw [if_pos hd, nI_clamp (by omega), eO]; rfl) ?_
      refine gz_astore_nN C (ls' := [some (.ref x), some (.int (nI jd)), some .null, none]) dX11_toss_5 ⟨by decide, rfl, rfl⟩ ?_
      refine gz_aload_nN C dX11_toss_6 rfl ?_
      refine gz_ifnonnullN C dX11_toss_7 ?_
      refine gz_aload_n C dX11_toss_10 rfl ?_
      refine gz_iload_n C dX11_toss_11 rfl ?_
      refine gz_Vr C [.int (nI jd)] [] dX11_toss_12 vl_X11_130 ⟨(Nat.le_of_ble_eq_true rfl), (Nat.le_of_ble_eq_true rfl), by decide⟩ (e_X11_whyNoOne hX hS) hX.1 hX.2.1 hX.2.2.1 rfl rfl (Nat.le_of_ble_eq_true rfl) (Nat.le_of_ble_eq_true rfl) (Nat.le_of_ble_eq_true rfl) ?_
      refine gz_tp C (z := (-11)) (by rw [if_pos hd, nI_clamp (by omega), e8]; rfl) ?_
      exact gt_iret C dX11_toss_15 rfl (Nat.le_of_ble_eq_true rfl) (Nat.le_of_ble_eq_true rfl) ⟨congrArg some (congrArg Value.int (by simp [tosS, wkS, hd, kjd, e8])), fun _ _ => rfl, Nat.le_refl _⟩
    · refine gz_aload_n C dX11_toss_0 rfl ?_
      refine gz_iload_n C dX11_toss_1 rfl ?_
      refine gz_Vr C [.int (nI jd)] [] dX11_toss_2 vl_X11_337 ⟨(Nat.le_of_ble_eq_true rfl), (Nat.le_of_ble_eq_true rfl), by decide⟩ (e_X11_oneOn hX) hX.1 hX.2.1 hX.2.2.1 rfl rfl (Nat.le_of_ble_eq_true rfl) (Nat.le_of_ble_eq_true rfl) (Nat.le_of_ble_eq_true rfl) ?_
      refine gz_tv C (w := .ref ajd) (by rw [if_pos hd, nI_clamp (by omega), eO]; rfl) ?_
      refine gz_astore_n C (ls' := [some (.ref x), some (.int (nI jd)), some (.ref ajd), none]) dX11_toss_5 ⟨by decide, rfl, rfl⟩ ?_
      refine gz_aload_n C dX11_toss_6 rfl ?_
      refine gz_ifnonnull C dX11_toss_7 ?_
      refine gz_aload_n C dX11_toss_16 rfl ?_
      have hv0 : tosS A (nI jd) = tosV (A 9 jd) (A 10 jd) := by simp [tosS, wkS, hd, kjd, e8]
      obtain ⟨kk, gg, hk, hg, ek, eg, he, h1, h2⟩ := ho
      have hv : tosS A (nI jd) = tosV (nI kk) (nI gg) := by rw [hv0, ek, eg]
      clear hv0
      have end48 : ∀ {kc ks}, kc ≤ 1 → ks ≤ 6 → tosV (nI kk) (nI gg) = -15 → Gz G mX11_toss (grm 7 1 6) (vx_MQ below (gQ G (tosQ f n (tosS A (nI jd)))) (fun _ _ _ => False) args s 1 6 (gA G)) p e s m args below meth c kc ks 20 [some (.ref x), some (.int (nI jd)), some (.ref ajd), none] [] f n := by
        intro kc ks z1 z2 z3
        refine gz_goto C dX11_toss_20 ?_
        refine gz_bipush C (v := -15) dX11_toss_48 rfl ?_
        exact gt_iret C dX11_toss_50 rfl z1 z2 ⟨congrArg some (congrArg Value.int (hv.trans z3).symm), fun _ _ => rfl, Nat.le_refl _⟩
      have ho2 : oneM G (gcut f n) n ajd (nI kk) (nI gg) := ⟨kk, gg, hk, hg, rfl, rfl, (gcut_at h2).trans he, h1, h2⟩
      have hoU : ∀ n1, n ≤ n1 → oneM G (gcut f n) n1 ajd (nI kk) (nI gg) := fun n1 hn => ho2.ext (fun _ _ => rfl) hn
      clear ho2
      rcases nt_k hk with rfl | rfl | rfl | rfl | rfl | rfl | rfl | rfl
      · refine gz_OT C X [] [] dX11_toss_17 ol_X11_344_3 ⟨(Nat.le_of_ble_eq_true rfl), (Nat.le_of_ble_eq_true rfl), by decide⟩ (t_X3_fail he fl_X3_7_3 h1 h2) he h1 h2 rfl rfl (Nat.zero_le _) (Nat.le_of_ble_eq_true rfl) (Nat.le_of_ble_eq_true rfl) (fun r f1 n1 hq => ?_) (fun E ce q9 n1 H1 locs1 la y1 y2 y3 y4 y5 y6 y7 y8 => ?_)
        · obtain ⟨hg0, rfl, rfl, rfl⟩ := hq
          exact end48 (Nat.le_of_ble_eq_true rfl) (Nat.le_of_ble_eq_true rfl) (tos_nz (Or.inr (Or.inr hg0)))
        · obtain ⟨yg, rfl⟩ := y1
          have y1 : ¬ nI gg = 0 ∧ True := ⟨yg, trivial⟩
          have ho2 := hoU n1 y2
          exact gt_catch C X (E := "java/lang/IllegalArgumentException") (name := "java/lang/IllegalArgumentException") (pre := [⟨16, 20, 23, 347⟩, ⟨16, 20, 33, 319⟩]) (x := ⟨16, 20, 42, 312⟩) (suf := []) hT (fun z hz => by
              simp only [List.mem_cons, List.not_mem_nil, or_false] at hz
              rcases hz with rfl | rfl
              · exact Or.inr ⟨by decide, "java/lang/UnsupportedOperationException", wm_943, by decide⟩
              · exact Or.inr ⟨by decide, "java/lang/IllegalStateException", wm_944, by decide⟩) rfl (by decide) wm_945 (by decide) y3 y4 y5 y6 y7 y8 (by
            refine gz_astore_n C (ls' := [some (.ref x), some (.int (nI jd)), some (.ref ajd), some (.ref q9)]) dX11_toss_42 ⟨by decide, rfl, rfl⟩ ?_
            refine gz_aload_n C dX11_toss_43 rfl ?_
            refine gz1_X11_figure C ho2 dX11_toss_44 rfl ?_
            exact gt_iret C dX11_toss_47 rfl (Nat.le_of_ble_eq_true rfl) (Nat.le_of_ble_eq_true rfl) ⟨congrArg some (congrArg Value.int (hv.trans (tos_e (Or.inl rfl) y1.1)).symm), fun z hz => gcut_at hz, y2⟩)
      · refine gz_OT C X [] [] dX11_toss_17 ol_X11_344_10 ⟨(Nat.le_of_ble_eq_true rfl), (Nat.le_of_ble_eq_true rfl), by decide⟩ t_X10_fail he h1 h2 rfl rfl (Nat.zero_le _) (Nat.le_of_ble_eq_true rfl) (Nat.le_of_ble_eq_true rfl) (fun r f1 n1 hq => ?_) (fun E ce q9 n1 H1 locs1 la y1 y2 y3 y4 y5 y6 y7 y8 => ?_)
        · obtain ⟨rfl, rfl, rfl⟩ := hq
          exact end48 (Nat.le_of_ble_eq_true rfl) (Nat.le_of_ble_eq_true rfl) (tos_nz (Or.inl rfl))
        · exact y1.elim
      · refine gz_OT C X [] [] dX11_toss_17 ol_X11_344_8 ⟨(Nat.le_of_ble_eq_true rfl), (Nat.le_of_ble_eq_true rfl), by decide⟩ (t_X8_fail he fl_X8_23_8 h1 h2) he h1 h2 rfl rfl (Nat.zero_le _) (Nat.le_of_ble_eq_true rfl) (Nat.le_of_ble_eq_true rfl) (fun r f1 n1 hq => ?_) (fun E ce q9 n1 H1 locs1 la y1 y2 y3 y4 y5 y6 y7 y8 => ?_)
        · obtain ⟨hg0, rfl, rfl, rfl⟩ := hq
          exact end48 (Nat.le_of_ble_eq_true rfl) (Nat.le_of_ble_eq_true rfl) (tos_nz (Or.inr (Or.inr hg0)))
        · obtain ⟨yg, rfl⟩ := y1
          have y1 : ¬ nI gg = 0 ∧ True := ⟨yg, trivial⟩
          have ho2 := hoU n1 y2
          exact gt_catch C X (E := "java/lang/IllegalStateException") (name := "java/lang/IllegalStateException") (pre := [⟨16, 20, 23, 347⟩]) (x := ⟨16, 20, 33, 319⟩) (suf := [⟨16, 20, 42, 312⟩]) hT (fun z hz => by
              simp only [List.mem_cons, List.not_mem_nil, or_false] at hz
              rcases hz with rfl
              · exact Or.inr ⟨by decide, "java/lang/UnsupportedOperationException", wm_943, by decide⟩) rfl (by decide) wm_944 (by decide) y3 y4 y5 y6 y7 y8 (by
            refine gz_astore_n C (ls' := [some (.ref x), some (.int (nI jd)), some (.ref ajd), some (.ref q9)]) dX11_toss_33 ⟨by decide, rfl, rfl⟩ ?_
            refine gz_bipush C (v := 100) dX11_toss_34 rfl ?_
            refine gz_aload_n C dX11_toss_36 rfl ?_
            refine gz1_X11_figure C ho2 dX11_toss_37 rfl ?_
            refine gz_iadd C dX11_toss_40 ?_
            exact gt_iret C dX11_toss_41 rfl (Nat.le_of_ble_eq_true rfl) (Nat.le_of_ble_eq_true rfl) ⟨congrArg some (congrArg Value.int (hv.trans (tos_26 (Or.inl rfl) y1.1)).symm), fun z hz => gcut_at hz, y2⟩)
      · refine gz_OT C X [] [] dX11_toss_17 ol_X11_344_7 ⟨(Nat.le_of_ble_eq_true rfl), (Nat.le_of_ble_eq_true rfl), by decide⟩ (t_X3_fail he fl_X3_7_7 h1 h2) he h1 h2 rfl rfl (Nat.zero_le _) (Nat.le_of_ble_eq_true rfl) (Nat.le_of_ble_eq_true rfl) (fun r f1 n1 hq => ?_) (fun E ce q9 n1 H1 locs1 la y1 y2 y3 y4 y5 y6 y7 y8 => ?_)
        · obtain ⟨hg0, rfl, rfl, rfl⟩ := hq
          exact end48 (Nat.le_of_ble_eq_true rfl) (Nat.le_of_ble_eq_true rfl) (tos_nz (Or.inr (Or.inr hg0)))
        · obtain ⟨yg, rfl⟩ := y1
          have y1 : ¬ nI gg = 0 ∧ True := ⟨yg, trivial⟩
          have ho2 := hoU n1 y2
          exact gt_catch C X (E := "java/lang/IllegalArgumentException") (name := "java/lang/IllegalArgumentException") (pre := [⟨16, 20, 23, 347⟩, ⟨16, 20, 33, 319⟩]) (x := ⟨16, 20, 42, 312⟩) (suf := []) hT (fun z hz => by
              simp only [List.mem_cons, List.not_mem_nil, or_false] at hz
              rcases hz with rfl | rfl
              · exact Or.inr ⟨by decide, "java/lang/UnsupportedOperationException", wm_943, by decide⟩
              · exact Or.inr ⟨by decide, "java/lang/IllegalStateException", wm_944, by decide⟩) rfl (by decide) wm_945 (by decide) y3 y4 y5 y6 y7 y8 (by
            refine gz_astore_n C (ls' := [some (.ref x), some (.int (nI jd)), some (.ref ajd), some (.ref q9)]) dX11_toss_42 ⟨by decide, rfl, rfl⟩ ?_
            refine gz_aload_n C dX11_toss_43 rfl ?_
            refine gz1_X11_figure C ho2 dX11_toss_44 rfl ?_
            exact gt_iret C dX11_toss_47 rfl (Nat.le_of_ble_eq_true rfl) (Nat.le_of_ble_eq_true rfl) ⟨congrArg some (congrArg Value.int (hv.trans (tos_e (Or.inr (Or.inl rfl)) y1.1)).symm), fun z hz => gcut_at hz, y2⟩)
      · refine gz_OT C X [] [] dX11_toss_17 ol_X11_344_0 ⟨(Nat.le_of_ble_eq_true rfl), (Nat.le_of_ble_eq_true rfl), by decide⟩ (t_X0_fail he fl_X0_15_0 h1 h2) he h1 h2 rfl rfl (Nat.zero_le _) (Nat.le_of_ble_eq_true rfl) (Nat.le_of_ble_eq_true rfl) (fun r f1 n1 hq => ?_) (fun E ce q9 n1 H1 locs1 la y1 y2 y3 y4 y5 y6 y7 y8 => ?_)
        · obtain ⟨hg0, rfl, rfl, rfl⟩ := hq
          exact end48 (Nat.le_of_ble_eq_true rfl) (Nat.le_of_ble_eq_true rfl) (tos_nz (Or.inr (Or.inr hg0)))
        · obtain ⟨yg, rfl⟩ := y1
          have y1 : ¬ nI gg = 0 ∧ True := ⟨yg, trivial⟩
          have ho2 := hoU n1 y2
          exact gt_catch C X (E := "java/lang/UnsupportedOperationException") (name := "java/lang/UnsupportedOperationException") (pre := []) (x := ⟨16, 20, 23, 347⟩) (suf := [⟨16, 20, 33, 319⟩, ⟨16, 20, 42, 312⟩]) hT (fun z hz => nomatch hz) rfl (by decide) wm_943 (by decide) y3 y4 y5 y6 y7 y8 (by
            refine gz_astore_n C (ls' := [some (.ref x), some (.int (nI jd)), some (.ref ajd), some (.ref q9)]) dX11_toss_23 ⟨by decide, rfl, rfl⟩ ?_
            refine gz_sipush C (v := 200) dX11_toss_24 rfl ?_
            refine gz_aload_n C dX11_toss_27 rfl ?_
            refine gz1_X11_costs C ho2 dX11_toss_28 rfl ⟨(Nat.le_of_ble_eq_true rfl), (Nat.le_of_ble_eq_true rfl)⟩ (Nat.le_of_ble_eq_true rfl) (Nat.le_of_ble_eq_true rfl) (Nat.le_of_ble_eq_true rfl) ?_
            refine gz_iadd C dX11_toss_31 ?_
            exact gt_iret C dX11_toss_32 rfl (Nat.le_of_ble_eq_true rfl) (Nat.le_of_ble_eq_true rfl) ⟨congrArg some (congrArg Value.int (hv.trans (tos_4 y1.1)).symm), fun z hz => gcut_at hz, y2⟩)
      · refine gz_OT C X [] [] dX11_toss_17 ol_X11_344_6 ⟨(Nat.le_of_ble_eq_true rfl), (Nat.le_of_ble_eq_true rfl), by decide⟩ t_X10_fail he h1 h2 rfl rfl (Nat.zero_le _) (Nat.le_of_ble_eq_true rfl) (Nat.le_of_ble_eq_true rfl) (fun r f1 n1 hq => ?_) (fun E ce q9 n1 H1 locs1 la y1 y2 y3 y4 y5 y6 y7 y8 => ?_)
        · obtain ⟨rfl, rfl, rfl⟩ := hq
          exact end48 (Nat.le_of_ble_eq_true rfl) (Nat.le_of_ble_eq_true rfl) (tos_nz (Or.inr (Or.inl rfl)))
        · exact y1.elim
      · refine gz_OT C X [] [] dX11_toss_17 ol_X11_344_2 ⟨(Nat.le_of_ble_eq_true rfl), (Nat.le_of_ble_eq_true rfl), by decide⟩ (t_X8_fail he fl_X8_23_2 h1 h2) he h1 h2 rfl rfl (Nat.zero_le _) (Nat.le_of_ble_eq_true rfl) (Nat.le_of_ble_eq_true rfl) (fun r f1 n1 hq => ?_) (fun E ce q9 n1 H1 locs1 la y1 y2 y3 y4 y5 y6 y7 y8 => ?_)
        · obtain ⟨hg0, rfl, rfl, rfl⟩ := hq
          exact end48 (Nat.le_of_ble_eq_true rfl) (Nat.le_of_ble_eq_true rfl) (tos_nz (Or.inr (Or.inr hg0)))
        · obtain ⟨yg, rfl⟩ := y1
          have y1 : ¬ nI gg = 0 ∧ True := ⟨yg, trivial⟩
          have ho2 := hoU n1 y2
          exact gt_catch C X (E := "java/lang/IllegalStateException") (name := "java/lang/IllegalStateException") (pre := [⟨16, 20, 23, 347⟩]) (x := ⟨16, 20, 33, 319⟩) (suf := [⟨16, 20, 42, 312⟩]) hT (fun z hz => by
              simp only [List.mem_cons, List.not_mem_nil, or_false] at hz
              rcases hz with rfl
              · exact Or.inr ⟨by decide, "java/lang/UnsupportedOperationException", wm_943, by decide⟩) rfl (by decide) wm_944 (by decide) y3 y4 y5 y6 y7 y8 (by
            refine gz_astore_n C (ls' := [some (.ref x), some (.int (nI jd)), some (.ref ajd), some (.ref q9)]) dX11_toss_33 ⟨by decide, rfl, rfl⟩ ?_
            refine gz_bipush C (v := 100) dX11_toss_34 rfl ?_
            refine gz_aload_n C dX11_toss_36 rfl ?_
            refine gz1_X11_figure C ho2 dX11_toss_37 rfl ?_
            refine gz_iadd C dX11_toss_40 ?_
            exact gt_iret C dX11_toss_41 rfl (Nat.le_of_ble_eq_true rfl) (Nat.le_of_ble_eq_true rfl) ⟨congrArg some (congrArg Value.int (hv.trans (tos_26 (Or.inr rfl) y1.1)).symm), fun z hz => gcut_at hz, y2⟩)
      · refine gz_OT C X [] [] dX11_toss_17 ol_X11_344_1 ⟨(Nat.le_of_ble_eq_true rfl), (Nat.le_of_ble_eq_true rfl), by decide⟩ (t_X3_fail he fl_X3_7_1 h1 h2) he h1 h2 rfl rfl (Nat.zero_le _) (Nat.le_of_ble_eq_true rfl) (Nat.le_of_ble_eq_true rfl) (fun r f1 n1 hq => ?_) (fun E ce q9 n1 H1 locs1 la y1 y2 y3 y4 y5 y6 y7 y8 => ?_)
        · obtain ⟨hg0, rfl, rfl, rfl⟩ := hq
          exact end48 (Nat.le_of_ble_eq_true rfl) (Nat.le_of_ble_eq_true rfl) (tos_nz (Or.inr (Or.inr hg0)))
        · obtain ⟨yg, rfl⟩ := y1
          have y1 : ¬ nI gg = 0 ∧ True := ⟨yg, trivial⟩
          have ho2 := hoU n1 y2
          exact gt_catch C X (E := "java/lang/IllegalArgumentException") (name := "java/lang/IllegalArgumentException") (pre := [⟨16, 20, 23, 347⟩, ⟨16, 20, 33, 319⟩]) (x := ⟨16, 20, 42, 312⟩) (suf := []) hT (fun z hz => by
              simp only [List.mem_cons, List.not_mem_nil, or_false] at hz
              rcases hz with rfl | rfl
              · exact Or.inr ⟨by decide, "java/lang/UnsupportedOperationException", wm_943, by decide⟩
              · exact Or.inr ⟨by decide, "java/lang/IllegalStateException", wm_944, by decide⟩) rfl (by decide) wm_945 (by decide) y3 y4 y5 y6 y7 y8 (by
            refine gz_astore_n C (ls' := [some (.ref x), some (.int (nI jd)), some (.ref ajd), some (.ref q9)]) dX11_toss_42 ⟨by decide, rfl, rfl⟩ ?_
            refine gz_aload_n C dX11_toss_43 rfl ?_
            refine gz1_X11_figure C ho2 dX11_toss_44 rfl ?_
            exact gt_iret C dX11_toss_47 rfl (Nat.le_of_ble_eq_true rfl) (Nat.le_of_ble_eq_true rfl) ⟨congrArg some (congrArg Value.int (hv.trans (tos_e (Or.inr (Or.inr rfl)) y1.1)).symm), fun z hz => gcut_at hz, y2⟩)
    · refine gz_aload_n C dX11_toss_0 rfl ?_
      refine gz_iload_n C dX11_toss_1 rfl ?_
      refine gz_Vr C [.int (nI jd)] [] dX11_toss_2 vl_X11_337 ⟨(Nat.le_of_ble_eq_true rfl), (Nat.le_of_ble_eq_true rfl), by decide⟩ (e_X11_oneOn hX) hX.1 hX.2.1 hX.2.2.1 rfl rfl (Nat.le_of_ble_eq_true rfl) (Nat.le_of_ble_eq_true rfl) (Nat.le_of_ble_eq_true rfl) ?_
      refine gz_tv C (w := .null) (by rw [if_pos hd, nI_clamp (by omega), eO]; rfl) ?_
      refine gz_astore_nN C (ls' := [some (.ref x), some (.int (nI jd)), some .null, none]) dX11_toss_5 ⟨by decide, rfl, rfl⟩ ?_
      refine gz_aload_nN C dX11_toss_6 rfl ?_
      refine gz_ifnonnullN C dX11_toss_7 ?_
      refine gz_aload_n C dX11_toss_10 rfl ?_
      refine gz_iload_n C dX11_toss_11 rfl ?_
      refine gz_Vr C [.int (nI jd)] [] dX11_toss_12 vl_X11_130 ⟨(Nat.le_of_ble_eq_true rfl), (Nat.le_of_ble_eq_true rfl), by decide⟩ (e_X11_whyNoOne hX hS) hX.1 hX.2.1 hX.2.2.1 rfl rfl (Nat.le_of_ble_eq_true rfl) (Nat.le_of_ble_eq_true rfl) (Nat.le_of_ble_eq_true rfl) ?_
      refine gz_tp C (z := (-12)) (by rw [if_pos hd, nI_clamp (by omega), e8]; rfl) ?_
      exact gt_iret C dX11_toss_15 rfl (Nat.le_of_ble_eq_true rfl) (Nat.le_of_ble_eq_true rfl) ⟨congrArg some (congrArg Value.int (by simp [tosS, wkS, hd, kjd, e8])), fun _ _ => rfl, Nat.le_refl _⟩
  · refine gz_aload_n C dX11_toss_0 rfl ?_
    refine gz_iload_n C dX11_toss_1 rfl ?_
    refine gz_Vr C [.int d] [] dX11_toss_2 vl_X11_337 ⟨(Nat.le_of_ble_eq_true rfl), (Nat.le_of_ble_eq_true rfl), by decide⟩ (e_X11_oneOn hX) hX.1 hX.2.1 hX.2.2.1 rfl rfl (Nat.le_of_ble_eq_true rfl) (Nat.le_of_ble_eq_true rfl) (Nat.le_of_ble_eq_true rfl) ?_
    refine gz_tv C (w := .null) (by rw [if_neg hd]; rfl) ?_
    refine gz_astore_nN C (ls' := [some (.ref x), some (.int d), some .null, none]) dX11_toss_5 ⟨by decide, rfl, rfl⟩ ?_
    refine gz_aload_nN C dX11_toss_6 rfl ?_
    refine gz_ifnonnullN C dX11_toss_7 ?_
    refine gz_aload_n C dX11_toss_10 rfl ?_
    refine gz_iload_n C dX11_toss_11 rfl ?_
    refine gz_Vr C [.int d] [] dX11_toss_12 vl_X11_130 ⟨(Nat.le_of_ble_eq_true rfl), (Nat.le_of_ble_eq_true rfl), by decide⟩ (e_X11_whyNoOne hX hS) hX.1 hX.2.1 hX.2.2.1 rfl rfl (Nat.le_of_ble_eq_true rfl) (Nat.le_of_ble_eq_true rfl) (Nat.le_of_ble_eq_true rfl) ?_
    refine gz_tp C (z := (-1)) (if_neg hd) ?_
    exact gt_iret C dX11_toss_15 rfl (Nat.le_of_ble_eq_true rfl) (Nat.le_of_ble_eq_true rfl) ⟨congrArg some (congrArg Value.int (by simp [tosS, wkS, hd])), fun _ _ => rfl, Nat.le_refl _⟩
end Z5
