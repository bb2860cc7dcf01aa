abbrev ia (G : GX) (len : Nat) (g : Nat → Int32) : va_E := .inl (G.2.2.2 0, len, .inl g)
abbrev ja (G : GX) (len : Nat) (g : Nat → Int64) : va_E := .inl (G.2.2.2 1, len, .inr (.inl g))
abbrev oa (G : GX) (t len : Nat) (g : Nat → Option Nat) : va_E := .inl (G.2.2.2 t, len, .inr (.inr (.inr (.inr g))))
abbrev ob (ci : Nat) (fs : List Value) : va_E := .inr (ci, fs)
def FL (own : String) (idx ci k : Nat) : Prop := ∃ (C : String) (T : u_T) (N : Nat) (ref : String), vwCl[ci]? = some (C, T, N) ∧ (∀ w ∈ u_ws C T N, w ∈ gT) ∧ k < N ∧ Cond.fieldLink own idx ref (T k).2.1 (T k).2.2.1 ∈ gT ∧ (ref = (T k).1 ∨ Cond.sameField ref (T k).1 (T k).2.1 (T k).2.2.1 ∈ gT)
def FP (own : String) (idx ci k : Nat) (ty : FieldType) : Prop := ∃ (C : String) (T : u_T) (N : Nat) (ty0 : Nat → FieldType), vwCl[ci]? = some (C, T, N) ∧ (∀ w ∈ u_ws C T N, w ∈ gT) ∧ k < N ∧ Cond.fieldLink own idx (T k).1 (T k).2.1 (T k).2.2.1 ∈ gT ∧ (∀ k, k < N → parseFieldDescriptor (T k).2.2.1 = some (ty0 k)) ∧ (∀ a, a < N → ∀ b, b < N → a ≠ b → (T a).2.1 ≠ (T b).2.1) ∧ parseFieldDescriptor (T k).2.2.1 = some ty ∧ ((T k).2.2.2 = false ∨ ((T k).2.2.2 = true ∧ (T k).1 = own))
section GOHEAP
variable {G : GX} {y : MD} {d mc ms : Nat} {Q : RQ} {kc ks pc pc2 : Nat} {ls ls' : List (Option Value)} {st : List Value} {f : Mem} {n : Nat}
theorem gC.ht {p : Program} {s : State} {m : MethodId} {args : Array Value} {meth : Method} {c : Code} (C : gC G y p s m args meth c) : ∀ w ∈ gT, w.before args s = true := fun w h => C.2.2.2.2.1 w (List.mem_cons_of_mem _ h)
theorem go_iret {v : Int32} (hd : decode y.2.1 pc = .ok (.ireturn, 1)) (hr : y.2.2.2 = some .int) (h1 : kc ≤ mc) (h2 : ks ≤ ms) (hq : Q (some (.int v)) f n) : Go G y d mc ms Q kc ks pc ls [.int v] f n := by
  intro p e s m args below meth c C H locs la hP hS hl
  refine W.widen h1 h2 ?_
  exact W.iret C.1 C.2.1 (C.2.2.2.2.2.1.trans hr) (fun t ht hW => ⟨⟨some (.int v), f, n, rfl, hq, by rw [ht]; exact hP⟩, hS.F ht⟩) hS.2.2 hd C.2.2.2.2.2.2.1
theorem go_zret {v : Int32} (hd : decode y.2.1 pc = .ok (.ireturn, 1)) (hr : y.2.2.2 = some .boolean) (h1 : kc ≤ mc) (h2 : ks ≤ ms) (hv : narrow .boolean (.int v) = .int v) (hq : Q (some (.int v)) f n) : Go G y d mc ms Q kc ks pc ls [.int v] f n := by
  intro p e s m args below meth c C H locs la hP hS hl
  refine W.widen h1 h2 ?_
  exact W.zret C.1 C.2.1 (C.2.2.2.2.2.1.trans hr) hv (fun t ht hW => ⟨⟨some (.int v), f, n, rfl, hq, by rw [ht]; exact hP⟩, hS.F ht⟩) hS.2.2 hd C.2.2.2.2.2.2.1
theorem go_lret {v : Int64} (hd : decode y.2.1 pc = .ok (.lreturn, 1)) (hr : y.2.2.2 = some .long) (h1 : kc ≤ mc) (h2 : ks ≤ ms) (hq : Q (some (.long v)) f n) : Go G y d mc ms Q kc ks pc ls [.long v] f n := by
  intro p e s m args below meth c C H locs la hP hS hl
  refine W.widen h1 h2 ?_
  exact W.lret C.1 C.2.1 (C.2.2.2.2.2.1.trans hr) (fun t ht hW => ⟨⟨some (.long v), f, n, rfl, hq, by rw [ht]; exact hP⟩, hS.F ht⟩) hS.2.2 hd C.2.2.2.2.2.2.1
theorem go_vret (hd : decode y.2.1 pc = .ok (.return_, 1)) (hr : y.2.2.2 = none) (h1 : kc ≤ mc) (h2 : ks ≤ ms) (hq : Q none f n) : Go G y d mc ms Q kc ks pc ls [] f n := by
  intro p e s m args below meth c C H locs la hP hS hl
  refine W.widen h1 h2 ?_
  exact W.vret C.1 C.2.1 (C.2.2.2.2.2.1.trans hr) (fun t ht hW => ⟨⟨none, f, n, rfl, hq, by rw [ht]; exact hP⟩, hS.F ht⟩) hS.2.2 hd C.2.2.2.2.2.2.1
theorem go_aret {v : Value} {cn : String} (hd : decode y.2.1 pc = .ok (.areturn, 1)) (hr : y.2.2.2 = some (.object cn)) (hv : v = .null ∨ ∃ a, v = .ref a) (h1 : kc ≤ mc) (h2 : ks ≤ ms) (hq : Q (some v) f n) : Go G y d mc ms Q kc ks pc ls [v] f n := by
  intro p e s m args below meth c C H locs la hP hS hl
  refine W.widen h1 h2 ?_
  exact W.aret C.1 C.2.1 (C.2.2.2.2.2.1.trans hr) (Or.inl ⟨cn, rfl⟩) hv (fun t ht hW => ⟨⟨some v, f, n, rfl, hq, by rw [ht]; exact hP⟩, hS.F ht⟩) hS.2.2 hd C.2.2.2.2.2.2.1
theorem go_get {idx ci k a : Nat} {fs : List Value} {v : Value} (hd : gd y pc (.getfield idx) 3 pc2) (fl : FL y.1.cls idx ci k) (he : f a = ob ci fs) (h1 : G.2.1 ≤ a) (h2 : a < n) (hv : fs[k]? = some v) (kk : Go G y d mc ms Q kc ks pc2 ls (v :: st) f n) : Go G y d mc ms Q kc ks pc ls (.ref a :: st) f n := by
  obtain ⟨hd, rfl⟩ := hd
  obtain ⟨cn, T, N, ref, hc, hin, hk, hlink, hsm⟩ := fl
  intro p e s m args below meth c C H locs la hP hS hl
  refine va_get C.1 C.2.1 C.ht hin C.2.2.2.1 C.2.2.2.2.2.2.2.2.1.1 (hP.2.2.ob he hc h1 h2) 0 rfl hc k hk (C.ht _ hlink) (fun x hx => ?_) hv hd (kk p e s m args below meth c C H locs la hP hS hl)
  rcases hsm with rfl | h
  · exact hx
  · exact u_same (C.ht _ h) x hx
theorem go_put {idx ci k a : Nat} {fs : List Value} {v : Value} {ty : FieldType} (hd : gd y pc (.putfield idx) 3 pc2) (fl : FP y.1.cls idx ci k ty) (hi : y.1.name = "<init>" ∨ ∀ C T N, vwCl[ci]? = some (C, T, N) → (T k).2.2.2 = false) (he : f a = ob ci fs) (h1 : G.2.1 ≤ a) (h2 : a < n) (hn : narrow ty v = v) (hfit : fits ty v = true) (hlen : k < fs.length) (kk : Go G y d mc ms Q kc ks pc2 ls st (va_up f a (ob ci (fs.set k v))) n) : Go G y d mc ms Q kc ks pc ls (v :: .ref a :: st) f n := by
  obtain ⟨hd, rfl⟩ := hd
  obtain ⟨cn, T, N, ty0, hc, hin, hk, hlink, hty, hnm, htk, hfin⟩ := fl
  intro p e s m args below meth c C H locs la hP hS hl
  have hK := C.2.2.2.2.2.2.2.2.1.1
  have hap := va_apart (own := y.1.cls) C.ht hin ty0 hty hnm hK hc
  obtain ⟨r, g1, cell, q1, q2, q3, q4⟩ := (hP.2.2.ob he hc h1 h2) 0 _ rfl
  have hr : r = (cn, T, N) := Option.some.inj (g1.symm.trans hc)
  subst hr
  obtain ⟨hSl, hfc, kC, hkC, hkind⟩ := hK.1 ci _ hc
  obtain ⟨cf, kf, fi, fd, hif, hsl⟩ := hSl k hk
  have hlay := C.ht _ (hin _ (u_in_lay hk))
  have hst := (u_facts hfc hkC (u_lays C.ht hin hk) hif).1
  unfold u_lay at hlay
  have fin : ∀ (H' : Heap), H'[a]? = some (cell.setSlot fd.slot v) → H'.size = H.size → (∀ q : Nat, q ≠ a → H'[q]? = H[q]?) → W p G.1 e (grm d mc ms) s m args below meth c H' (locs ++ [⟨a, fd.slot⟩]) kc ks (MQ below (gQ G Q) args s mc ms (gA G)) (F0 m (pc + 3) la st) := by
    intro H' e1 e2 e3
    rw [hsl] at e1 ⊢
    refine kk p e s m args below meth c C H' _ la ⟨hP.1, e2.trans hP.2.1, ?_⟩ (hS.put e2 e3 h1) hl
    exact hP.2.2.set ⟨_, hc, t_OB.to (V := updV (vp_V fs) k v) ⟨_, e1, q2, q3, t_set q4 hap hk v⟩ (fun j _ => vp_updV_set hlen v j)⟩ e3
  by_cases hff : (T k).2.2.2 = true
  · rw [if_pos hff] at hlay
    have hown : (T k).1 = y.1.cls := by
      rcases hfin with z | z
      · rw [z] at hff; cases hff
      · exact z.2
    have hin2 : meth.name = "<init>" := by
      rcases hi with z | z
      · exact C.2.2.2.2.2.2.2.1.trans z
      · rw [z _ _ _ hc] at hff; cases hff
    have hcf : m.cls = cf := by
      obtain ⟨_, _, c', _, _, _, -, -, hf', -, -, -, hown2, -⟩ := Cond.laysFinal_spec hlay
      have e1 : c' = cf := by have := hif.symm.trans hf'; simp at this; exact this.1.symm
      rw [hown] at hown2
      rw [← e1]; exact Option.some.inj (C.2.2.2.1.symm.trans hown2)
    have h6 := u_fits hfc hkC hkind (Or.inr hlay) hif htk hn hfit
    exact W.putFinK C.1 C.2.1 C.2.2.2.1 (C.ht _ hlink) hif hst hcf hin2 (by rw [q2]; exact h6) q1 q3 (by rw [hsl]; exact k2_hasslot (q4 k hk)) rfl rfl hd fin
  · rw [if_neg hff] at hlay
    have h6 := u_store hfc hkC hkind hlay hif htk hn hfit
    exact W.putK C.1 C.2.1 (f := fd) ⟨C.2.2.2.1, C.ht _ hlink, ⟨_, _, _, hif⟩, hst⟩ (by rw [q2]; exact h6) q1 q3 (by rw [hsl]; exact k2_hasslot (q4 k hk)) rfl rfl hd fin
theorem go_iald {a len : Nat} {g : Nat → Int32} {i : Int32} (hd : gd y pc .iaload 1 pc2) (he : f a = ia G len g) (h1 : G.2.1 ≤ a) (h2 : a < n) (hin : vp_in i len) (kk : Go G y d mc ms Q kc ks pc2 ls (.int (g i.toNatClampNeg) :: st) f n) : Go G y d mc ms Q kc ks pc ls (.int i :: .ref a :: st) f n := by
  obtain ⟨hd, rfl⟩ := hd
  intro p e s m args below meth c C H locs la hP hS hl
  exact va_iald C.1 C.2.1 C.2.2.2.2.2.2.2.2.1.1 (hP.2.2.ar he h1 h2) 0 0 rfl rfl hin hd (kk p e s m args below meth c C H locs la hP hS hl)
theorem go_lald {a len : Nat} {g : Nat → Int64} {i : Int32} (hd : gd y pc .laload 1 pc2) (he : f a = ja G len g) (h1 : G.2.1 ≤ a) (h2 : a < n) (hin : vp_in i len) (kk : Go G y d mc ms Q kc ks pc2 ls (.long (g i.toNatClampNeg) :: st) f n) : Go G y d mc ms Q kc ks pc ls (.int i :: .ref a :: st) f n := by
  obtain ⟨hd, rfl⟩ := hd
  intro p e s m args below meth c C H locs la hP hS hl
  exact va_lald C.1 C.2.1 C.2.2.2.2.2.2.2.2.1.1 (hP.2.2.ar he h1 h2) 0 1 rfl rfl hin hd (kk p e s m args below meth c C H locs la hP hS hl)
theorem go_oald {a len : Nat} {g : Nat → Option Nat} {i : Int32} (hd : gd y pc .aaload 1 pc2) (he : f a = oa G 2 len g) (h1 : G.2.1 ≤ a) (h2 : a < n) (hin : vp_in i len) (kk : Go G y d mc ms Q kc ks pc2 ls (va_rf (g i.toNatClampNeg) :: st) f n) : Go G y d mc ms Q kc ks pc ls (.int i :: .ref a :: st) f n := by
  obtain ⟨hd, rfl⟩ := hd
  intro p e s m args below meth c C H locs la hP hS hl
  exact va_aldq C.1 C.2.1 C.2.2.2.2.2.2.2.2.1.1 (hP.2.2.ar he h1 h2) 0 2 rfl rfl hin hd (kk p e s m args below meth c C H locs la hP hS hl)
theorem go_rald {a len : Nat} {g : Nat → Option Nat} {i : Int32} (hd : gd y pc .aaload 1 pc2) (he : f a = oa G 3 len g) (h1 : G.2.1 ≤ a) (h2 : a < n) (hin : vp_in i len) (kk : Go G y d mc ms Q kc ks pc2 ls (va_rf (g i.toNatClampNeg) :: st) f n) : Go G y d mc ms Q kc ks pc ls (.int i :: .ref a :: st) f n := by
  obtain ⟨hd, rfl⟩ := hd
  intro p e s m args below meth c C H locs la hP hS hl
  exact va_aldq C.1 C.2.1 C.2.2.2.2.2.2.2.2.1.1 (hP.2.2.ar he h1 h2) 0 3 rfl rfl hin hd (kk p e s m args below meth c C H locs la hP hS hl)
theorem go_alen {a len : Nat} {g : Nat → Int32} {v : Int32} (hd : gd y pc .arraylength 1 pc2) (he : f a = ia G len g) (h1 : G.2.1 ≤ a) (h2 : a < n) (hv : Int32.ofNat len = v) (kk : Go G y d mc ms Q kc ks pc2 ls (.int v :: st) f n) : Go G y d mc ms Q kc ks pc ls (.ref a :: st) f n := by
  obtain ⟨hd, rfl⟩ := hd
  intro p e s m args below meth c C H locs la hP hS hl
  exact va_alen C.1 C.2.1 C.2.2.2.2.2.2.2.2.1.1 (hP.2.2.ar he h1 h2) 0 0 (x := (len, .inl g)) rfl rfl hv hd (kk p e s m args below meth c C H locs la hP hS hl)
theorem go_iast {a len : Nat} {g : Nat → Int32} {i x : Int32} (hd : gd y pc .iastore 1 pc2) (he : f a = ia G len g) (h1 : G.2.1 ≤ a) (h2 : a < n) (hin : vp_in i len) (kk : Go G y d mc ms Q kc ks pc2 ls st (va_up f a (ia G len (upd g i.toNatClampNeg x))) n) : Go G y d mc ms Q kc ks pc ls (.int x :: .int i :: .ref a :: st) f n := by
  obtain ⟨hd, rfl⟩ := hd
  intro p e s m args below meth c C H locs la hP hS hl
  refine W.iast C.1 C.2.1 ((hP.2.2.ar he h1 h2) 0 _ rfl) ((C.2.2.2.2.2.2.2.2.1.1.2 0 _ rfl).1 len (fun j => .int (g j))) (fun q => by cases q) (by show ¬ (i < 0 ∨ (arrV _ _ _).slots.size ≤ _); rw [arrV_size]; exact hin) rfl rfl hd fun H1 e0 z oq => ?_
  refine kk p e s m args below meth c C H1 _ la ⟨hP.1, z.trans hP.2.1, ?_⟩ (hS.put z oq h1) hl
  refine hP.2.2.set ?_ oq
  show H1[a]? = some (vp_cell _ _)
  rw [e0]
  rw [vp_cell_i, vp_cell_i, arrV_store]
  congr 2
  funext q
  by_cases hq : q = i.toNatClampNeg
  · subst hq
    simp [updV, upd]
  · simp [updV, upd, hq]
theorem go_last {a len : Nat} {g : Nat → Int64} {i : Int32} {x : Int64} (hd : gd y pc .lastore 1 pc2) (he : f a = ja G len g) (h1 : G.2.1 ≤ a) (h2 : a < n) (hin : vp_in i len) (kk : Go G y d mc ms Q kc ks pc2 ls st (va_up f a (ja G len (vp_updL g i.toNatClampNeg x))) n) : Go G y d mc ms Q kc ks pc ls (.long x :: .int i :: .ref a :: st) f n := by
  obtain ⟨hd, rfl⟩ := hd
  intro p e s m args below meth c C H locs la hP hS hl
  refine W.last C.1 C.2.1 ((hP.2.2.ar he h1 h2) 0 _ rfl) ((C.2.2.2.2.2.2.2.2.1.1.2 1 _ rfl).1 len (fun j => .long (g j))) (fun q => by cases q) (by show ¬ (i < 0 ∨ (arrV _ _ _).slots.size ≤ _); rw [arrV_size]; exact hin) rfl rfl hd fun H1 e0 z oq => ?_
  refine kk p e s m args below meth c C H1 _ la ⟨hP.1, z.trans hP.2.1, ?_⟩ (hS.put z oq h1) hl
  refine hP.2.2.set ?_ oq
  show H1[a]? = some (vp_cell _ _)
  rw [e0]
  rw [vp_cell_l, vp_cell_l, arrV_store]
  congr 2
  funext q
  by_cases hq : q = i.toNatClampNeg
  · subst hq
    simp [updV, vp_updL]
  · simp [updV, vp_updL, hq]
theorem go_new {idx ci N : Nat} {cn : String} {T : u_T} {ty0 : Nat → FieldType} {fs : List Value} (hd : gd y pc (.new idx) 3 pc2) (hc : vwCl[ci]? = some (cn, T, N)) (hin : ∀ w ∈ u_ws cn T N, w ∈ gT) (hty : ∀ k, k < N → parseFieldDescriptor (T k).2.2.1 = some (ty0 k)) (hcl : Cond.classLink y.1.cls idx cn ∈ gT) (hins : Cond.instantiable cn N ∈ gT) (hini : Cond.initialized cn ∈ gT) (hfs : ∀ j, j < N → defaultValue (ty0 j) = vp_V fs j) (hkc : kc + 1 ≤ mc) (hks : ks + N ≤ ms)
    (kk : Go G y d mc ms Q (kc + 1) (ks + N) pc2 ls (.ref n :: st) (va_up f n (ob ci fs)) (n + 1)) : Go G y d mc ms Q kc ks pc ls st f n := by
  obtain ⟨hd, rfl⟩ := hd
  intro p e s m args below meth c C H locs la hP hS hl
  have hK := C.2.2.2.2.2.2.2.2.1.1
  have hKn := hK.1 ci _ hc
  refine W.newcK C.1 C.2.1 C.2.2.2.1 (C.ht _ hcl) (C.ht _ hins) (C.ht _ hini) rfl hd hkc hks hKn.2.1 hP.2.1 fun H1 kC hkC e1 z1 o1 => ?_
  refine kk p e s m args below meth c C H1 locs la ⟨Nat.le_succ_of_le hP.1, z1, ?_⟩ ⟨Nat.le_trans hS.1 (by rw [z1, hP.2.1]; omega), fun x h1 h2 => (o1 x (by rw [← hP.2.1]; exact Nat.lt_of_lt_of_le h1 hS.1)).trans (hS.2.1 x h1 h2), hS.2.2⟩ hl
  refine hP.2.2.push (fun q hq => o1 q (by first | exact hq | (rw [hP.2.1]; exact hq))) ?_
  exact ⟨_, hc, (u_born ty0 C.ht hin hKn hkC e1 hty).to hfs⟩
theorem go_newi {x : Int32} {len : Nat} (hd : gd y pc (.newarray .int) 2 pc2) (harr : Cond.arrayClass .int ∈ gT) (hx : ¬ x < 0) (hlen : x.toNatClampNeg = len) (hb : len * 4 ≤ 536870912) (hkc : kc + 1 ≤ mc) (hks : ks + len ≤ ms)
    (kk : Go G y d mc ms Q (kc + 1) (ks + len) pc2 ls (.ref n :: st) (va_up f n (ia G len (fun _ => 0))) (n + 1)) : Go G y d mc ms Q kc ks pc ls (.int x :: st) f n := by
  obtain ⟨hd, rfl⟩ := hd
  intro p e s m args below meth c C H locs la hP hS hl
  have hK := C.2.2.2.2.2.2.2.2.1.1
  refine va_newaK (atype := .int) C.1 C.2.1 (C.ht _ harr) rfl hd rfl hx hlen hb hkc hks hP.2.1 fun H1 cA e1 z1 o1 hAr hNm => ?_
  have hcA : cA = G.2.2.2 0 := Option.some.inj (hNm.symm.trans (hK.2 0 _ rfl).2)
  subst hcA
  refine kk p e s m args below meth c C H1 locs la ⟨Nat.le_succ_of_le hP.1, z1, ?_⟩ ⟨Nat.le_trans hS.1 (by rw [z1, hP.2.1]; omega), fun x h1 h2 => (o1 x (by rw [← hP.2.1]; exact Nat.lt_of_lt_of_le h1 hS.1)).trans (hS.2.1 x h1 h2), hS.2.2⟩ hl
  refine hP.2.2.push (fun q hq => o1 q (by first | exact hq | (rw [hP.2.1]; exact hq))) ?_
  show H1[n]? = some (vp_cell _ _)
  rw [vp_cell_i]
  exact e1
theorem go_newl {x : Int32} {len : Nat} (hd : gd y pc (.newarray .long) 2 pc2) (harr : Cond.arrayClass .long ∈ gT) (hx : ¬ x < 0) (hlen : x.toNatClampNeg = len) (hb : len * 8 ≤ 536870912) (hkc : kc + 1 ≤ mc) (hks : ks + len ≤ ms)
    (kk : Go G y d mc ms Q (kc + 1) (ks + len) pc2 ls (.ref n :: st) (va_up f n (ja G len (fun _ => 0))) (n + 1)) : Go G y d mc ms Q kc ks pc ls (.int x :: st) f n := by
  obtain ⟨hd, rfl⟩ := hd
  intro p e s m args below meth c C H locs la hP hS hl
  have hK := C.2.2.2.2.2.2.2.2.1.1
  refine va_newaK (atype := .long) C.1 C.2.1 (C.ht _ harr) rfl hd rfl hx hlen hb hkc hks hP.2.1 fun H1 cA e1 z1 o1 hAr hNm => ?_
  have hcA : cA = G.2.2.2 1 := Option.some.inj (hNm.symm.trans (hK.2 1 _ rfl).2)
  subst hcA
  refine kk p e s m args below meth c C H1 locs la ⟨Nat.le_succ_of_le hP.1, z1, ?_⟩ ⟨Nat.le_trans hS.1 (by rw [z1, hP.2.1]; omega), fun x h1 h2 => (o1 x (by rw [← hP.2.1]; exact Nat.lt_of_lt_of_le h1 hS.1)).trans (hS.2.1 x h1 h2), hS.2.2⟩ hl
  refine hP.2.2.push (fun q hq => o1 q (by first | exact hq | (rw [hP.2.1]; exact hq))) ?_
  show H1[n]? = some (vp_cell _ _)
  rw [vp_cell_l]
  exact e1
theorem go_newq {x : Int32} {len idx t : Nat} {cn : String} (hd : gd y pc (.anewarray idx) 3 pc2) (hcl : Cond.classLink y.1.cls idx cn ∈ gT) (hover : ∀ U : State, gK G U → va_AO cn U) (htt : (gtys G)[t]? = some (G.2.2.2 t, .object cn)) (hx : ¬ x < 0) (hlen : x.toNatClampNeg = len) (hb : len * 4 ≤ 536870912) (hkc : kc + 1 ≤ mc) (hks : ks + len ≤ ms)
    (kk : Go G y d mc ms Q (kc + 1) (ks + len) pc2 ls (.ref n :: st) (va_up f n (oa G t len (fun _ => none))) (n + 1)) : Go G y d mc ms Q kc ks pc ls (.int x :: st) f n := by
  obtain ⟨hd, rfl⟩ := hd
  intro p e s m args below meth c C H locs la hP hS hl
  have hK := C.2.2.2.2.2.2.2.2.1.1
  subst hlen
  refine W.anew C.1 C.2.1 C.2.2.2.1 (C.ht _ hcl) (va_AO.use (hover s C.2.2.2.2.2.2.2.2.1)) rfl hd rfl hx hb hkc hks fun cA kA comp f1 f2 f3 f4 => ?_
  have hcA : cA = G.2.2.2 t := by
    obtain ⟨kA', comp', z1, z2, z3, z4⟩ := (hK.2 t _ htt).2
    exact Option.some.inj (f1.symm.trans z4)
  subst hcA
  generalize hH1 : H.push ({ cls := G.2.2.2 t, slots := Array.replicate x.toNatClampNeg .null, vm := .none } : Cell) = H1
  have z1 : H1.size = H.size + 1 := by rw [← hH1, Array.size_push]
  have e1 : H1[H.size]? = some (arrV (G.2.2.2 t) x.toNatClampNeg (fun _ => .null)) := by rw [← hH1, Array.getElem?_push_size, ← arrV_new]
  have o1 : ∀ q : Nat, q < H.size → H1[q]? = H[q]? := fun q hq => by rw [← hH1, Array.getElem?_push, if_neg (Nat.ne_of_lt hq)]
  rw [hP.2.1] at e1 z1
  have key := kk p e s m args below meth c C H1 locs la ⟨Nat.le_succ_of_le hP.1, z1, by
    refine hP.2.2.push (fun q hq => o1 q (by first | exact hq | (rw [hP.2.1]; exact hq))) ?_
    show H1[n]? = some (vp_cell _ _)
    rw [vp_cell_q]
    exact e1⟩ ⟨Nat.le_trans hS.1 (by rw [z1, hP.2.1]; omega), fun x h1 h2 => (o1 x (Nat.lt_of_lt_of_le h1 hS.1)).trans (hS.2.1 x h1 h2), hS.2.2⟩ hl
  rw [hP.2.1]
  exact key
end GOHEAP
