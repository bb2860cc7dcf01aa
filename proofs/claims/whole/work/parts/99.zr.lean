section LR
theorem sc_mk {G : GX} {f : Mem} {s : Nat} {F : Nat → Int32} {W : Nat → Option Nat} {A : Nat → Nat → Int32} {B : Nat → Int32} (h : ∀ i, i < 8 → f (s + i) = scE G s F W A B i) : sc G f s F W A B = f := by
  funext a
  unfold sc
  by_cases c : a < s ∨ s + 8 ≤ a
  · rw [if_pos c]
  · rw [if_neg c, ← h (a - s) (by omega), show s + (a - s) = a by omega]
theorem wy_mk {G : GX} {f : Mem} {w : Nat} {V C Mt T : Nat → Int32} {Wl : Nat → Int64} (h : ∀ i, i < 5 → f (w + i) = wyE G w V C Mt Wl T i) : wy G f w V C Mt Wl T = f := by
  funext a
  unfold wy
  by_cases c : a < w ∨ w + 5 ≤ a
  · rw [if_pos c]
  · rw [if_neg c, ← h (a - w) (by omega), show w + (a - w) = a by omega]
variable {G : GX} {f0 f : Mem} {x : Nat}
/-- the memory behind the three constructors -/
def lwM (G : GX) (f0 : Mem) (x : Nat) : Mem := va_up (mo G (va_up (mL f0 x (tw0 G x)) (x + 35) (ob 12 [.int 0, .null, .null, .null, .null, .int 0, .null, .null, .null, .int 0, .null, .null, .null, .null, .null, .null, .int 0, .int 0, .int 0, .int 0, .int 0, .null, .null, .null, .null, .null, .int 0, .int 0, .int 0, .null, .int 0, .int 0, .null, .null, .null, .null, .null, .int 0, .null])) (x + 35) (fun _ => 0) (fun _ _ => 0) (fun _ _ => 0) none) (x + 60) (ja G 1 (fun _ => 0))
theorem lwM_t {j : Nat} {e : va_E} (hj : j < 35) (h : (tw0 G x)[j]? = some e) : lwM G f0 x (x + j) = e := by
  unfold lwM
  rw [vup_ne (by omega), mo_out (by omega), vup_ne (by omega)]
  exact mL_get h
theorem lw_none {f : Mem} {n : Nat} (h0 : G.2.1 ≤ x) (hf : ∀ j e, j < 35 → (tw0 G x)[j]? = some e → f (x + j) = e) (hm : mo G f (x + 35) (fun _ => 0) (fun _ _ => 0) (fun _ _ => 0) none = f) (ho : ∃ g, f (x + 60) = ja G 1 g) (hn : x + 61 ≤ n) : JJ G f n x := by
  have who : ∀ (s : Nat), (s = x + 1 ∨ s = x + 10) → f (s + 8) = ob 3 [.int 0] → (∀ p, p < 8 → ∃ a, whS s 8 p = some a ∧ oneM G f n a 0 0) ∧ wP (apZ x) (whS s 8) := by
    intro s hs he
    refine ⟨fun p hp => ⟨s + 8, if_pos hp, 0, 0, by omega, by omega, rfl, rfl, he, by omega, by omega⟩, fun p hp a ha => ?_⟩
    unfold whS at ha
    rw [if_pos hp] at ha
    cases ha
    unfold apZ
    omega
  have ok0 : schOK (0, 0, 0, fun _ _ => 0) := ⟨Nat.zero_le _, Nat.zero_le _, fun p hp => absurd hp (Nat.not_lt_zero _), fun l hl => absurd hl (Nat.not_lt_zero _), fun p hp => absurd hp (Nat.not_lt_zero _), fun l hl => absurd hl (Nat.not_lt_zero _), 0, by omega, rfl⟩
  have tw : two2 0 (fun _ => 0) := fun a _ _ ha => absurd ha (Nat.not_lt_zero _)
  have sch : ∀ (k : Nat), (k = 1 ∨ k = 10) → sc G f (x + k) (fun _ => 0) (whS (x + k) 8) (fun _ _ => 0) (fun _ => 0) = f → f (x + k + 8) = ob 3 [.int 0] → schJ G f n x (x + k) (0, 0, 0, fun _ _ => 0) (fun _ => 0) (whS (x + k) 8) (fun _ => 0) := fun k hk hs he => ⟨hs, rfl, rfl, rfl, fun a b ha => absurd ha (Nat.not_lt_zero _), (who (x + k) (by omega) he).1, (who (x + k) (by omega) he).2, ok0, tw⟩
  have g : ∀ k, (k = 1 ∨ k = 10 ∨ k = 19) → sc G f (x + k) (fun _ => 0) (whS (x + k) 8) (fun _ _ => 0) (fun _ => 0) = f := by
    intro k hk
    refine sc_mk (fun i hi => ?_)
    rw [Nat.add_assoc]
    rcases hk with rfl | rfl | rfl <;> rcases nt_k hi with rfl | rfl | rfl | rfl | rfl | rfl | rfl | rfl <;> exact hf _ _ (by omega) rfl
  refine ⟨0, (0, 0, 0, fun _ _ => 0), (0, 0, 0, fun _ _ => 0), fun _ _ => 0, (fun _ => 0, whS (x + 1) 8, fun _ => 0, fun _ => 0, whS (x + 10) 8, fun _ => 0, fun _ => 0, whS (x + 19) 8, fun _ _ => 0, fun _ => 0, fun _ => 0, fun _ => 0, fun _ => 0, fun _ => 0, fun _ => 0, fun _ => none, fun _ => none), fun _ => 0, none, ⟨h0, hn, hf 0 _ (by omega) rfl, sch 1 (Or.inl rfl) (g 1 (Or.inl rfl)) (hf 9 _ (by omega) rfl), sch 10 (Or.inr rfl) (g 10 (Or.inr (Or.inl rfl))) (hf 18 _ (by omega) rfl), g 19 (Or.inr (Or.inr rfl)), wy_mk (fun i hi => ?_), ⟨hf 33 _ (by omega) rfl, hf 34 _ (by omega) rfl, fun d hd => Or.inl ⟨rfl, rfl, rfl⟩, fun d a e => (nomatch e), fun d b e => (nomatch e), fun d d2 b b2 so so2 ar ar2 e => (nomatch e), fun d b ar R g hd e => (nomatch e), fun d hd => (show okr 0 0 2 = true by decide), fun d hd => ⟨0, by omega, rfl⟩⟩⟩, ⟨hm, rfl, rfl, rfl, Or.inl ⟨rfl, rfl⟩⟩, ho⟩
  rw [Nat.add_assoc]
  have : i = 0 ∨ i = 1 ∨ i = 2 ∨ i = 3 ∨ i = 4 := by omega
  rcases this with rfl | rfl | rfl | rfl | rfl <;> exact hf _ _ (by omega) rfl
theorem lw_M (h0 : G.2.1 ≤ x) : JJ G (lwM G f0 x) (x + 61) x := by
  refine lw_none h0 (fun j e hj h => lwM_t hj h) ?_ ⟨_, vup_at⟩ (Nat.le_refl _)
  unfold lwM
  refine mo_of (f := mo G (va_up (mL f0 x (tw0 G x)) (x + 35) (ob 12 [.int 0, .null, .null, .null, .null, .int 0, .null, .null, .null, .int 0, .null, .null, .null, .null, .null, .null, .int 0, .int 0, .int 0, .int 0, .int 0, .null, .null, .null, .null, .null, .int 0, .int 0, .int 0, .null, .int 0, .int 0, .null, .null, .null, .null, .null, .int 0, .null])) (x + 35) (fun _ => 0) (fun _ _ => 0) (fun _ _ => 0) none) mo_idem (fun z z1 z2 => vup_ne (by omega))
theorem arr_C {args : Array Value} {s : State} {ty : FieldType} (hty : ty = .int ∨ ty = .long) (h : (Cond.arrayClass ty).before args s = true) : ∃ cA, ArrOfT s cA ty ∧ va_RA s cA ty := by
  obtain ⟨c, k, comp, h1, h2, h3⟩ := Cond.arrayClass_spec h
  rcases hty with rfl | rfl
  · exact ⟨c, fun N z => ⟨(fun k h => by cases h), k, h2, comp, h3⟩, h1⟩
  · exact ⟨c, fun N z => ⟨(fun k h => by cases h), k, h2, comp, h3⟩, h1⟩
theorem arr_O {args : Array Value} {s : State} {C : String} (h : (Cond.arrayOver (.object C)).before args s = true) : ∃ cA, ArrOfT s cA (.object C) ∧ va_RA s cA (.object C) := by
  obtain ⟨comp, c, k, h1, h2, h3, h4, h5⟩ := Cond.arrayOver_spec h
  exact ⟨c, fun N z => ⟨(fun k h => by cases h), k, h3, comp, h4⟩, k, comp, h3, h4, h1, h5⟩
theorem tb_in {w : Cond} {i : Nat} (h : tables_1[i]? = some w) : w ∈ lw_tbl := List.mem_append_right _ (List.mem_of_getElem? h)
set_option maxHeartbeats 4000000 in
set_option maxRecDepth 100000 in
theorem lw_world {p : Program} {s : State} {m : MethodId} {meth : Method} {c : Code} {b L : Nat} {xs : Nat → Int32} (l : Launch) (hflags : l.flags = flags0) (C0 : lw_At p s m meth c b L xs) : ∃ G : GX, G.1 = l ∧ G.2.1 = s.heap.size ∧ gK G s ∧ gX G s := by
  obtain ⟨hx, hb, hr, hml, hown, hts, hX, hbl, hlocks, hgv⟩ := id C0
  have hgT : ∀ w ∈ gT, w.before #[Value.ref b] s = true := fun w hw => hts w (List.mem_filter.mp hw).1
  have hfl := flat_of_before _ hgv
  obtain ⟨c0, i0, k0⟩ := u_known (C := RX0) (T := TX0) (N := 1) (n := 1) hgT iw_0 (hts _ (tb_in (i := 239) (by decide +kernel)))
  obtain ⟨c1, i1, k1⟩ := u_known (C := RX1) (T := TX1) (N := 1) (n := 1) hgT iw_1 (hts _ (tb_in (i := 263) (by decide +kernel)))
  obtain ⟨c2, i2, k2⟩ := u_known (C := RX2) (T := TX2) (N := 1) (n := 1) hgT iw_2 (hts _ (tb_in (i := 255) (by decide +kernel)))
  obtain ⟨c3, i3, k3⟩ := u_known (C := RX3) (T := TX3) (N := 1) (n := 1) hgT iw_3 (hts _ (tb_in (i := 39) (by decide +kernel)))
  obtain ⟨c4, i4, k4⟩ := u_known (C := RX4) (T := TX4) (N := 2) (n := 2) hgT iw_4 (hts _ (tb_in (i := 861) (by decide +kernel)))
  obtain ⟨c5, i5, k5⟩ := u_known (C := RX5) (T := TX5) (N := 10) (n := 10) hgT iw_5 (hts _ (tb_in (i := 32) (by decide +kernel)))
  obtain ⟨c6, i6, k6⟩ := u_known (C := RX6) (T := TX6) (N := 1) (n := 1) hgT iw_6 (hts _ (tb_in (i := 247) (by decide +kernel)))
  obtain ⟨c7, i7, k7⟩ := u_known (C := RX7) (T := TX7) (N := 1) (n := 1) hgT iw_7 (hts _ (tb_in (i := 231) (by decide +kernel)))
  obtain ⟨c8, i8, k8⟩ := u_known (C := RX8) (T := TX8) (N := 1) (n := 1) hgT iw_8 (hts _ (tb_in (i := 223) (by decide +kernel)))
  obtain ⟨c9, i9, k9⟩ := u_known (C := RX9) (T := TX9) (N := 7) (n := 7) hgT iw_9 (hts _ (tb_in (i := 100) (by decide +kernel)))
  obtain ⟨c10, i10, k10⟩ := u_known (C := RX10) (T := TX10) (N := 1) (n := 1) hgT iw_10 (hts _ (tb_in (i := 215) (by decide +kernel)))
  obtain ⟨c11, i11, k11⟩ := u_known (C := RX11) (T := TX11) (N := 7) (n := 7) hgT iw_11 (hts _ (tb_in (i := 24) (by decide +kernel)))
  obtain ⟨c12, i12, k12⟩ := u_known (C := RX12) (T := TX12) (N := 39) (n := 39) hgT iw_12 (hts _ (tb_in (i := 1078) (by decide +kernel)))
  obtain ⟨dC, dI, hKc⟩ : ∃ (dC : Nat → ClassId) (dI : Nat → Nat → Nat), ∀ (k : Nat) (q : vw_C), vwCl[k]? = some q → u_Kn s q.1 q.2.1 q.2.2 (dC k) (dI k) := by
    refine ⟨fun k => if k = 0 then c0 else if k = 1 then c1 else if k = 2 then c2 else if k = 3 then c3 else if k = 4 then c4 else if k = 5 then c5 else if k = 6 then c6 else if k = 7 then c7 else if k = 8 then c8 else if k = 9 then c9 else if k = 10 then c10 else if k = 11 then c11 else c12, fun k => if k = 0 then i0 else if k = 1 then i1 else if k = 2 then i2 else if k = 3 then i3 else if k = 4 then i4 else if k = 5 then i5 else if k = 6 then i6 else if k = 7 then i7 else if k = 8 then i8 else if k = 9 then i9 else if k = 10 then i10 else if k = 11 then i11 else i12, ?_⟩
    intro k q hq
    match k, hq with
    | 0, hq => cases hq; exact k0
    | 1, hq => cases hq; exact k1
    | 2, hq => cases hq; exact k2
    | 3, hq => cases hq; exact k3
    | 4, hq => cases hq; exact k4
    | 5, hq => cases hq; exact k5
    | 6, hq => cases hq; exact k6
    | 7, hq => cases hq; exact k7
    | 8, hq => cases hq; exact k8
    | 9, hq => cases hq; exact k9
    | 10, hq => cases hq; exact k10
    | 11, hq => cases hq; exact k11
    | 12, hq => cases hq; exact k12
    | k + 13, hq => simp [vwCl] at hq
  obtain ⟨a0, ha0, hr0⟩ := arr_C (ty := .int) (Or.inl rfl) (hts _ (tb_in (i := 56) (by decide +kernel)))
  obtain ⟨a1, ha1, hr1⟩ := arr_C (ty := .long) (Or.inr rfl) (hts _ (tb_in (i := 130) (by decide +kernel)))
  obtain ⟨a2, ha2, hr2⟩ := arr_O (C := "TwoToALocker$One") (hts _ (tb_in (i := 38) (by decide +kernel)))
  obtain ⟨a3, ha3, hr3⟩ := arr_O (C := "TwoToALocker$Row") (hts _ (tb_in (i := 133) (by decide +kernel)))
  refine ⟨(l, s.heap.size, (dC, dI), fun k => if k = 0 then a0 else if k = 1 then a1 else if k = 2 then a2 else a3), rfl, rfl, ⟨⟨hKc, fun k q hq => ?_⟩, fun q hq => ?_, fun q hq => ?_, va_AO.of (hts _ (tb_in (i := 38) (by decide +kernel))), va_AO.of (hts _ (tb_in (i := 133) (by decide +kernel)))⟩, ?_, ?_, ?_, fun q hq => ?_, fun q hq => ?_, fun q hq => ?_, fun q hq => ?_⟩
  · match k, hq with
    | 0, hq => cases hq; exact ⟨ha0, hr0⟩
    | 1, hq => cases hq; exact ⟨ha1, hr1⟩
    | 2, hq => cases hq; exact ⟨ha2, hr2⟩
    | 3, hq => cases hq; exact ⟨ha3, hr3⟩
    | k + 4, hq => simp [gtys] at hq
  · simp only [gNm, List.mem_cons, List.not_mem_nil, or_false] at hq
    rcases hq with rfl | rfl | rfl
    · exact va_Nw.of rfl (hts _ (tb_in (i := 101) (by decide +kernel)))
    · exact va_Nw.of rfl (hts _ (tb_in (i := 210) (by decide +kernel)))
    · exact va_Nw.of rfl (hts _ (tb_in (i := 274) (by decide +kernel)))
  · simp only [gNc, List.mem_cons, List.not_mem_nil, or_false] at hq
    rcases hq with rfl | rfl | rfl | rfl | rfl | rfl | rfl
    · exact va_Nw.of rfl (hts _ (tb_in (i := 1647) (by decide +kernel)))
    · exact va_Nw.of rfl (hts _ (tb_in (i := 1648) (by decide +kernel)))
    · exact va_Nw.of rfl (hts _ (tb_in (i := 1649) (by decide +kernel)))
    · exact va_Nw.of rfl (hts _ (tb_in (i := 1650) (by decide +kernel)))
    · exact va_Nw.of rfl (hts _ (tb_in (i := 1651) (by decide +kernel)))
    · exact va_Nw.of rfl (hts _ (tb_in (i := 1652) (by decide +kernel)))
    · exact va_Nw.of rfl (hts _ (tb_in (i := 1653) (by decide +kernel)))
  · show l.stackTraces = false
    unfold Launch.stackTraces
    rw [hflags]
    decide
  · exact vx_Zqof (hts _ (tb_in (i := 980) (by decide +kernel))) (hts _ (tb_in (i := 17) (by decide +kernel))) (hfl _ (by decide +kernel)) (fun a h1 h2 => absurd h1 (Nat.not_lt.mpr h2))
  · exact vx_Zqof (hts _ (tb_in (i := 982) (by decide +kernel))) (hts _ (tb_in (i := 17) (by decide +kernel))) (hfl _ (by decide +kernel)) (fun a h1 h2 => absurd h1 (Nat.not_lt.mpr h2))
  · simp only [gXs, List.mem_cons, List.not_mem_nil, or_false] at hq
    rcases hq with rfl | rfl | rfl | rfl | rfl
    · have w : (Cond.stringRef "TwoToALocker$One" 25 "the failure of one").before #[Value.ref b] s = true := (hts _ (tb_in (i := 1057) (by decide +kernel)))
      obtain ⟨k, cf, i, a, h1, h2, h3, h4, h5, h6⟩ := Cond.stringRef_spec (hKc 3 _ rfl).2.1 w
      exact ⟨a, vk_R.of w h6⟩
    · have w : (Cond.stringRef "TwoToALocker$Tidy" 31 "the failure of a tidy one").before #[Value.ref b] s = true := (hts _ (tb_in (i := 1034) (by decide +kernel)))
      obtain ⟨k, cf, i, a, h1, h2, h3, h4, h5, h6⟩ := Cond.stringRef_spec (hKc 8 _ rfl).2.1 w
      exact ⟨a, vk_R.of w h6⟩
    · have w : (Cond.stringRef "TwoToALocker$Fussy" 23 "the failure of a fussy one").before #[Value.ref b] s = true := (hts _ (tb_in (i := 994) (by decide +kernel)))
      obtain ⟨k, cf, i, a, h1, h2, h3, h4, h5, h6⟩ := Cond.stringRef_spec (hKc 0 _ rfl).2.1 w
      exact ⟨a, vk_R.of w h6⟩
    · have w : (Cond.stringRef "TwoToALocker" 314 "no such shelf").before #[Value.ref b] s = true := (hts _ (tb_in (i := 1073) (by decide +kernel)))
      obtain ⟨k, cf, i, a, h1, h2, h3, h4, h5, h6⟩ := Cond.stringRef_spec (hKc 11 _ rfl).2.1 w
      exact ⟨a, vk_R.of w h6⟩
    · have w : (Cond.stringRef "TwoToALocker" 321 "no row, or no such place").before #[Value.ref b] s = true := (hts _ (tb_in (i := 1075) (by decide +kernel)))
      obtain ⟨k, cf, i, a, h1, h2, h3, h4, h5, h6⟩ := Cond.stringRef_spec (hKc 11 _ rfl).2.1 w
      exact ⟨a, vk_R.of w h6⟩
  · simp only [gXn, List.mem_cons, List.not_mem_nil, or_false] at hq
    rcases hq with rfl | rfl | rfl | rfl
    · exact va_Nc.of (hfl _ (by decide +kernel))
    · exact va_Nc.of (hfl _ (by decide +kernel))
    · exact va_Nc.of (hfl _ (by decide +kernel))
    · exact va_Nc.of (hfl _ (by decide +kernel))
  · simp only [gXc, List.mem_cons, List.not_mem_nil, or_false] at hq
    rcases hq with rfl | rfl | rfl
    · exact va_Nw.of rfl (hts _ (tb_in (i := 955) (by decide +kernel)))
    · exact va_Nw.of rfl (hts _ (tb_in (i := 1027) (by decide +kernel)))
    · exact va_Nw.of rfl (hts _ (tb_in (i := 1050) (by decide +kernel)))
  · simp only [gXd, List.mem_cons, List.not_mem_nil, or_false] at hq
    rcases hq with rfl | rfl | rfl
    · exact va_Nw.of rfl (hts _ (tb_in (i := 957) (by decide +kernel)))
    · exact va_Nw.of rfl (hts _ (tb_in (i := 959) (by decide +kernel)))
    · exact va_Nw.of rfl (hts _ (tb_in (i := 961) (by decide +kernel)))
set_option maxHeartbeats 4000000 in
set_option maxRecDepth 100000 in
theorem start_open (hPL : PLeq) {p : Program} {e : Env} {s : State} {m : MethodId} {below : List Frame} {meth : Method} {c : Code} (l : Launch) (hflags : l.flags = flags0) {b L : Nat} {xs : Nat → Int32} (hL : L ≤ 3072) (C0 : lw_At p s m meth c b L xs) : W p l e room_1 s m #[Value.ref b] below meth c s.heap [] 0 0 (lw_Z below #[Value.ref b] s) (entryFrame m ([Value.ref b] : List Value).toArray 8) := by
  obtain ⟨hx, hb, hr, hml, hown, hts, hX, hbl, hlocks, hgv⟩ := id C0
  have hgT : ∀ w ∈ gT, w.before #[Value.ref b] s = true := fun w hw => hts w (List.mem_filter.mp hw).1
  obtain ⟨G, hG1, hG, hK, hXX⟩ := lw_world l hflags C0
  subst hG1
  have C : zC G (mL_law meth.name) p s m #[Value.ref b] meth c := ⟨hx, hb, hml, hown, hgT, hr, hlocks, rfl, hK, by omega⟩
  have hle := lv_entry ([.ref b]) (n := 8) (Nat.le_of_ble_eq_true rfl)
  rw [lg_entry_eq]
  have main : Gz G (mL_law meth.name) room_1 (lw_Z below #[Value.ref b] s) p e s m #[Value.ref b] below meth c 0 0 0 [some (.ref b), none, none, none, none, none, none, none] [] (fun _ => va_hole) s.heap.size := by
    rw [← hG]
    refine gz_new C (ci := 11) (fs := [.null, .null, .null, .null, .null, .null, .int 0]) dL_0 rfl iw_11 tyX11_ok wm_23 wm_24 wm_1 (fun j hj => by
      rcases (show j = 0 ∨ j = 1 ∨ j = 2 ∨ j = 3 ∨ j = 4 ∨ j = 5 ∨ j = 6 by omega) with rfl | rfl | rfl | rfl | rfl | rfl | rfl <;> rfl) (Nat.le_of_ble_eq_true rfl) (Nat.le_of_ble_eq_true rfl) ?_
    refine gz_dup C dL_3 rfl ?_
    refine gz_I C [] [.ref G.2.1] dL_4 il_L_17 ⟨(Nat.le_of_ble_eq_true rfl), (Nat.le_of_ble_eq_true rfl), by decide⟩ (e_X11_init vup_at (Nat.le_refl _)) rfl rfl (Nat.le_of_ble_eq_true rfl) (Nat.le_of_ble_eq_true rfl) (Nat.le_of_ble_eq_true rfl) (fun r f1 n1 z => ?_)
    obtain ⟨rfl, rfl, rfl⟩ := z
    refine gz_astore_n C (ls' := [some (.ref b), some (.ref G.2.1), none, none, none, none, none, none]) dL_7 ⟨Nat.le_of_ble_eq_true rfl, rfl, rfl⟩ ?_
    refine gz_new C (ci := 12) (fs := [.int 0, .null, .null, .null, .null, .int 0, .null, .null, .null, .int 0, .null, .null, .null, .null, .null, .null, .int 0, .int 0, .int 0, .int 0, .int 0, .null, .null, .null, .null, .null, .int 0, .int 0, .int 0, .null, .int 0, .int 0, .null, .null, .null, .null, .null, .int 0, .null]) dL_8 rfl iw_12 tyX12_ok wm_1077 wm_1078 wm_5 (fun j hj => by
      rcases (show j = 0 ∨ j = 1 ∨ j = 2 ∨ j = 3 ∨ j = 4 ∨ j = 5 ∨ j = 6 ∨ j = 7 ∨ j = 8 ∨ j = 9 ∨ j = 10 ∨ j = 11 ∨ j = 12 ∨ j = 13 ∨ j = 14 ∨ j = 15 ∨ j = 16 ∨ j = 17 ∨ j = 18 ∨ j = 19 ∨ j = 20 ∨ j = 21 ∨ j = 22 ∨ j = 23 ∨ j = 24 ∨ j = 25 ∨ j = 26 ∨ j = 27 ∨ j = 28 ∨ j = 29 ∨ j = 30 ∨ j = 31 ∨ j = 32 ∨ j = 33 ∨ j = 34 ∨ j = 35 ∨ j = 36 ∨ j = 37 ∨ j = 38 by omega) with rfl | rfl | rfl | rfl | rfl | rfl | rfl | rfl | rfl | rfl | rfl | rfl | rfl | rfl | rfl | rfl | rfl | rfl | rfl | rfl | rfl | rfl | rfl | rfl | rfl | rfl | rfl | rfl | rfl | rfl | rfl | rfl | rfl | rfl | rfl | rfl | rfl | rfl | rfl <;> rfl) (Nat.le_of_ble_eq_true rfl) (Nat.le_of_ble_eq_true rfl) ?_
    refine gz_dup C dL_11 rfl ?_
    refine gz_I C [] [.ref (G.2.1 + 35)] dL_12 il_L_20 ⟨(Nat.le_of_ble_eq_true rfl), (Nat.le_of_ble_eq_true rfl), by decide⟩ (e_X12_init vup_at (by omega)) rfl rfl (Nat.le_of_ble_eq_true rfl) (Nat.le_of_ble_eq_true rfl) (Nat.le_of_ble_eq_true rfl) (fun r f1 n1 z => ?_)
    obtain ⟨rfl, rfl, rfl⟩ := z
    refine gz_astore_n C (ls' := [some (.ref b), some (.ref G.2.1), some (.ref (G.2.1 + 35)), none, none, none, none, none]) dL_15 ⟨Nat.le_of_ble_eq_true rfl, rfl, rfl⟩ ?_
    refine gz_iconst C (v := 1) dL_16 rfl ?_
    refine gz_newl C (len := 1) dL_17 wm_130 (by decide) rfl (by decide) (Nat.le_of_ble_eq_true rfl) (Nat.le_of_ble_eq_true rfl) ?_
    refine gz_astore_n C (ls' := [some (.ref b), some (.ref G.2.1), some (.ref (G.2.1 + 35)), some (.ref (G.2.1 + 60)), none, none, none, none]) dL_19 ⟨Nat.le_of_ble_eq_true rfl, rfl, rfl⟩ ?_
    refine gz_iconst C (v := 0) dL_20 rfl ?_
    refine gz_istore C (ls' := lwLs b G.2.1 (6 * 0)) dL_21 ⟨Nat.le_of_ble_eq_true rfl, rfl, rfl⟩ ?_
    refine gz_widen C (kc' := 100 + 34 * 0) (ks' := 4000 + 102 * 0) (Nat.le_of_ble_eq_true rfl) (Nat.le_of_ble_eq_true rfl) ?_
    exact lw_loop C hXX hX hbl hG (Nat.le_refl _) hL hPL (L + 1) 0 _ _ (by omega) (by omega) (lw_M (Nat.le_refl _))
  refine main s.heap [] _ ⟨by omega, rfl, fun a h1 h2 => Or.inl rfl⟩ va_S.rf ?_
  exact ⟨hle.1, hle.2.1, fun q hq => hle.2.2 q hq⟩
end LR
