section GOMORE
variable {G : GX} {y : MD} {d mc ms : Nat} {Q : RQ} {kc ks pc pc2 : Nat} {ls ls' : List (Option Value)} {st : List Value} {f : Mem} {n : Nat}
theorem go_oast {a v t len ci : Nat} {g : Nat → Option Nat} {i : Int32} {E : String} {fs : List Value} {q : vw_C} (hd : gd y pc .aastore 1 pc2) (he : f a = oa G t len g) (h1 : G.2.1 ≤ a) (h2 : a < n) (htt : (gtys G)[t]? = some (G.2.2.2 t, .object E)) (hin : vp_in i len) (hv : f v = ob ci fs) (h3 : G.2.1 ≤ v) (h4 : v < n) (hc : vwCl[ci]? = some q) (hca : q.1 = E ∨ (q.1, E) ∈ gNc)
    (kk : Go G y d mc ms Q kc ks pc2 ls st (va_up f a (oa G t len (va_up g i.toNatClampNeg (some v)))) n) : Go G y d mc ms Q kc ks pc ls (.ref v :: .int i :: .ref a :: st) f n := by
  obtain ⟨hd, rfl⟩ := hd
  intro p e s m args below meth c C H locs la hP hS hl
  have hK := C.2.2.2.2.2.2.2.2.1.1
  have hlt : i.toNatClampNeg < len := Nat.not_le.mp fun q => hin (Or.inr q)
  have h0 : ¬ i < 0 := fun q => hin (Or.inl q)
  obtain ⟨r', hr', cellV, g1, g2, g3, -⟩ := (hP.2.2.ob hv hc h3 h4) 0 _ rfl
  have hcls := (hK.1 ci q hc).2
  obtain ⟨kA, comp, k1, k2, k3, -⟩ := (hK.2 t _ htt).2
  obtain ⟨kE, hkE, -⟩ := Vm.findClass_spec k3
  obtain ⟨kC, hkC, -⟩ := hcls.2
  have hass : s.vm.assignable (G.2.2.1.1 ci) comp = true := by
    rcases hca with z | z
    · have hcomp : comp = G.2.2.1.1 ci := Option.some.inj (k3.symm.trans (z ▸ hcls.1))
      rw [hcomp]
      exact va_assign hcls
    · obtain ⟨c0, t1, f1, f2, f3⟩ := Cond.castable_spec (va_Nw.use (A := args) rfl (C.2.2.2.2.2.2.2.2.1.2.2.1 _ z))
      cases hcls.1.symm.trans f1
      cases k3.symm.trans f2
      exact f3
  refine W.aast C.1 C.2.1 ((hP.2.2.ar he h1 h2) 0 _ rfl) (fun q h => by cases h) (fun h => by cases h) k1 k2 rfl hkE ⟨h0, by show _ < (arrV _ _ _).slots.size; rw [arrV_size]; exact hlt⟩ g1 (fun q h => by rw [g3] at h; cases h) (by rw [g2]; exact hkC) (by rw [g2]; exact hass) rfl rfl hd fun H1 e0 z oq => ?_
  refine kk p e s m args below meth c C H1 _ la ⟨hP.1, z.trans hP.2.1, ?_⟩ (hS.put z oq h1) hl
  refine hP.2.2.set ?_ oq
  show H1[a]? = some (vp_cell _ _)
  rw [e0]
  rw [vp_cell_q, vp_cell_q, arrV_store]
  congr 2
  funext q
  by_cases hq : q = i.toNatClampNeg
  · subst hq
    simp [updV, va_up, va_rf]
  · simp [updV, va_up, hq]
theorem go_oastN {a t len : Nat} {g : Nat → Option Nat} {i : Int32} {E : String} (hd : gd y pc .aastore 1 pc2) (he : f a = oa G t len g) (h1 : G.2.1 ≤ a) (h2 : a < n) (htt : (gtys G)[t]? = some (G.2.2.2 t, .object E)) (hin : vp_in i len)
    (kk : Go G y d mc ms Q kc ks pc2 ls st (va_up f a (oa G t len (va_up g i.toNatClampNeg none))) n) : Go G y d mc ms Q kc ks pc ls (.null :: .int i :: .ref a :: st) f n := by
  obtain ⟨hd, rfl⟩ := hd
  intro p e s m args below meth c C H locs la hP hS hl
  have hK := C.2.2.2.2.2.2.2.2.1.1
  refine va_WaastN (C := E) C.1 C.2.1 ((hP.2.2.ar he h1 h2) 0 _ rfl) ((hK.2 t _ htt).1 len (fun j => va_rf (g j))) (fun h => by cases h) (by show ¬ (i < 0 ∨ (arrV _ _ _).slots.size ≤ _); rw [arrV_size]; exact hin) rfl rfl hd fun H1 e0 z oq => ?_
  refine kk p e s m args below meth c C H1 _ la ⟨hP.1, z.trans hP.2.1, ?_⟩ (hS.put z oq h1) hl
  refine hP.2.2.set ?_ oq
  show H1[a]? = some (vp_cell _ _)
  rw [e0]
  rw [vp_cell_q, vp_cell_q, arrV_store]
  congr 2
  funext q
  by_cases hq : q = i.toNatClampNeg
  · subst hq
    simp [updV, va_up, va_rf]
  · simp [updV, va_up, hq]
theorem go_copy {idx a0 a n0 n1 : Nat} {g0 g1 : Nat → Int32} {sp dp k : Int32} {rest : List Value} (hd : gd y pc (.invokestatic idx) 3 pc2) (hlink : Cond.methodLink y.1.cls idx arraycopyName ∈ gT) (hnat : Cond.native arraycopyName ∈ gT) (hstat : Cond.static arraycopyName ∈ gT) (hini : Cond.initialized "java/lang/System" ∈ gT)
    (he0 : f a0 = ia G n0 g0) (he1 : f a = ia G n1 g1) (b0 : G.2.1 ≤ a0) (l0 : a0 < n) (b1 : G.2.1 ≤ a) (l1 : a < n) (h1 : ¬ sp < 0) (h2 : ¬ dp < 0) (h3 : ¬ k < 0) (h4 : sp.toNatClampNeg + k.toNatClampNeg ≤ n0) (h5 : dp.toNatClampNeg + k.toNatClampNeg ≤ n1) (hW : (rest.map fun v => v.category).sum ≤ 8) (hdd : 2 ≤ d)
    (kk : Go G y d mc ms Q kc ks pc2 ls rest (va_up f a (ia G n1 (va_cpy g0 g1 sp.toNatClampNeg dp.toNatClampNeg k.toNatClampNeg))) n) : Go G y d mc ms Q kc ks pc ls (.int k :: .int dp :: .ref a :: .int sp :: .ref a0 :: rest) f n := by
  obtain ⟨hd, rfl⟩ := hd
  intro p e s m args below meth c C H locs la hP hS hl
  have hK := C.2.2.2.2.2.2.2.2.1.1
  have nn : ∀ z : Int32, ¬ z < 0 → z.toInt = (z.toNatClampNeg : Int) := by
    intro z hz
    have hz0 : (0 : Int) ≤ z.toInt := by
      have := Int32.not_lt.mp hz
      simpa using Int32.le_iff_toInt_le.mp this
    show z.toInt = ((z.toInt.toNat : Nat) : Int)
    omega
  intro T hT X
  have hc0 : H[a0]? = some (vp_cell (G.2.2.2 0) (n0, .inl g0)) := (hP.2.2.ar he0 b0 l0) 0 _ rfl
  have hc1 : H[a]? = some (vp_cell (G.2.2.2 0) (n1, .inl g1)) := (hP.2.2.ar he1 b1 l1) 0 _ rfl
  obtain ⟨-, k0, hk0, cm0, hkk0⟩ := (hK.2 0 _ rfl).1 n0 (fun j => .int (g0 j))
  obtain ⟨-, k1, hk1, cm1, hkk1⟩ := (hK.2 0 _ rfl).1 n1 (fun j => .int (g1 j))
  obtain ⟨vm', X', step⟩ := X.arraycopy C.1 C.2.2.2.1 (C.ht _ hlink) (C.ht _ hnat) (C.ht _ hstat) (C.ht _ hini) (src := a0) (dst := a) (cs := vp_cell (G.2.2.2 0) (n0, .inl g0)) (cd := vp_cell (G.2.2.2 0) (n1, .inl g1)) (srcPos := sp) (destPos := dp) (n := k) (by rw [hT]; exact hc0) (by rw [hT]; exact hc1)
    (fun _ h => by cases h) (fun _ h => by cases h) (fun h => by cases h) (fun h => by cases h) hk0 hk1 hkk0 hkk1 (by simp [refKind]) h1 h2 h3
    (by rw [nn sp h1, nn k h3]; show ¬ _ > ((arrV (G.2.2.2 0) n0 (fun j => .int (g0 j))).slots.size : Int); rw [arrV_size]; omega)
    (by rw [nn dp h2, nn k h3]; show ¬ _ > ((arrV (G.2.2.2 0) n1 (fun j => .int (g1 j))).slots.size : Int); rw [arrV_size]; omega)
    (fun vm₁ _ i hi => by
      have e : (vp_cell (G.2.2.2 0) (n0, .inl g0)).slots.getD (sp.toNatClampNeg + i) .null = .int (g0 (sp.toNatClampNeg + i)) := by
        show (arrV (G.2.2.2 0) n0 (fun j => .int (g0 j))).slots.getD _ _ = _
        rw [Array.getD_eq_getD_getElem?, arrV_read _ _ (by omega)]
        rfl
      refine ⟨?_, ?_⟩
      · rw [e]
        rfl
      · rw [e]
        exact trivial)
    (g := F0 m pc la (.int k :: .int dp :: .ref a :: .int sp :: .ref a0 :: rest)) rfl (by rw [C.2.2.1]; exact hl.1) (rest := rest) rfl (by rw [C.2.1]; exact hd) (show 1 ≤ d by omega) (by
      have hz : nativeFrameWords "java/lang/System" "arraycopy" 5 + 11 ≤ 72 := by decide +kernel
      show 2 * 0 + _ + _ ≤ 40 * d
      omega)
  have e1 : copied (vp_cell (G.2.2.2 0) (n0, .inl g0)) (vp_cell (G.2.2.2 0) (n1, .inl g1)) sp dp k = vp_cell (G.2.2.2 0) (n1, .inl (va_cpy g0 g1 sp.toNatClampNeg dp.toNatClampNeg k.toNatClampNeg)) := va_copied (fun z => .int z) (G.2.2.2 0) (G.2.2.2 0) g0 g1 h4
  rw [e1] at X' step
  have hlt : a < H.size := (Array.getElem?_eq_some_iff.mp hc1).1
  have hheap : ((T.setVm vm').setCell a (vp_cell (G.2.2.2 0) (n1, .inl (va_cpy g0 g1 sp.toNatClampNeg dp.toNatClampNeg k.toNatClampNeg)))).heap = H.setIfInBounds a (vp_cell (G.2.2.2 0) (n1, .inl (va_cpy g0 g1 sp.toNatClampNeg dp.toNatClampNeg k.toNatClampNeg))) := by rw [← hT]; rfl
  have oq : ∀ q : Nat, q ≠ a → (H.setIfInBounds a (vp_cell (G.2.2.2 0) (n1, .inl (va_cpy g0 g1 sp.toNatClampNeg dp.toNatClampNeg k.toNatClampNeg))))[q]? = H[q]? := fun q hq => by simp [Array.getElem?_setIfInBounds, Ne.symm hq]
  obtain ⟨t, a1, b1⟩ := kk p e s m args below meth c C _ _ la ⟨hP.1, by simp; exact hP.2.1, by
      exact hP.2.2.set (show (H.setIfInBounds a _)[a]? = some _ by simp [Array.getElem?_setIfInBounds, hlt]) oq⟩ ⟨by simp; exact hS.1, fun q g1 g2 => by
      rw [oq q (fun e => g2 (by rw [e]; exact b1))]
      exact hS.2.1 q g1 g2, fun q hq => by
      rcases List.mem_append.mp hq with h | h
      · exact hS.2.2 q h
      · obtain ⟨z, -, hz⟩ := List.mem_map.mp h
        rw [← hz]
        exact b1⟩ hl _ hheap X'
  exact ⟨t, step t a1, b1⟩
/-- a weaker end -/
theorem Ev.mono {as : List Value} {Q2 : RQ} (h : Ev G y d mc ms as f n Q) (hq : ∀ r f1 n1, Q r f1 n1 → Q2 r f1 n1) : Ev G y d mc ms as f n Q2 := by
  intro p e ha hc hk s m args below hf hs hP hX
  obtain ⟨k, o, z1, z2, z3, ⟨⟨r, f1, n1, w1, w2, w3⟩, w4⟩, w5⟩ := h p e ha hc hk s m args below hf hs hP hX
  exact ⟨k, o, z1, z2, z3, ⟨⟨r, f1, n1, w1, hq _ _ _ w2, w3⟩, w4⟩, w5⟩
/-- a method that only reads -/
abbrev RD (v : Value) (f : Mem) (n : Nat) : RQ := fun r f1 n1 => r = some v ∧ f1 = f ∧ n1 = n
end GOMORE
