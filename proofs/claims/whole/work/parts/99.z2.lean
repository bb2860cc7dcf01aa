/-! what throws -/
def gXs : List (String × Nat × String) := [("TwoToALocker$One", 25, "the failure of one"), ("TwoToALocker$Tidy", 31, "the failure of a tidy one"), ("TwoToALocker$Fussy", 23, "the failure of a fussy one"), ("TwoToALocker", 314, "no such shelf"), ("TwoToALocker", 321, "no row, or no such place")]
def gXn : List (String × String) := [("java/lang/IllegalStateException", "java/lang/UnsupportedOperationException"), ("java/lang/IllegalArgumentException", "java/lang/UnsupportedOperationException"), ("java/lang/IllegalArgumentException", "java/lang/IllegalStateException"), ("java/lang/IllegalStateException", "java/lang/IllegalArgumentException")]
def gXc : List (String × String) := [("java/lang/UnsupportedOperationException", "java/lang/UnsupportedOperationException"), ("java/lang/IllegalStateException", "java/lang/IllegalStateException"), ("java/lang/IllegalArgumentException", "java/lang/IllegalArgumentException")]
def gXd : List MethodName := [Bundle.initS "java/lang/RuntimeException", Bundle.initS "java/lang/Exception", Bundle.initS Bundle.tN]
def gX (G : GX) (U : State) : Prop := G.1.stackTraces = false ∧ vx_Zq Bundle.tN "UNASSIGNED_STACK" Bundle.steD (gA G) U U.heap ∧ vx_Zq Bundle.tN "SUPPRESSED_SENTINEL" Bundle.listD (gA G) U U.heap ∧ (∀ q ∈ gXs, ∃ a, vk_R q.1 q.2.1 q.2.2 a U) ∧ (∀ q ∈ gXn, va_Nc q.1 q.2 U) ∧ (∀ q ∈ gXc, va_Nw (.castable q.1 q.2) U) ∧ ∀ q ∈ gXd, va_Nw (.declares q) U
theorem gX.call {G : GX} {s U : State} {H : Heap} {locs : List Loc} (h : gX G s) (hW : s.WarmedH U.vm) (hH : U.heap = H) (hS : va_S (gA G) s.heap H locs) : gX G U := by
  obtain ⟨h0, h1, h2, h3, h4, h5, h6⟩ := h
  subst hH
  exact ⟨h0, vx_Zq.moved hW.alike (h1.kept hS.2.1), vx_Zq.moved hW.alike (h2.kept hS.2.1), fun q hq => (h3 q hq).elim fun a z => ⟨a, vk_R.warm hW z⟩, fun q hq => va_Nc.moved hW.alike (h4 q hq), fun q hq => va_Nw.warmC hW (h5 q hq), fun q hq => va_Nw.warmD hW (h6 q hq)⟩
theorem gX.same {G : GX} {s U : State} (h : gX G s) (e : s.vm = U.vm) (eh : s.heap = U.heap) : gX G U :=
  gX.call h (locs := []) (by rw [← e]; exact State.WarmedH.refl s) rfl ⟨by rw [eh]; exact Nat.le_refl _, fun q _ _ => by rw [eh], fun _ hl => nomatch hl⟩
/-- what was there before n; behind it nothing is known -/
def gcut (f : Mem) (n : Nat) : Mem := fun a => if a < n then f a else va_hole
theorem gcut_at {f : Mem} {n a : Nat} (h : a < n) : gcut f n a = f a := if_pos h
def gXQ (G : GX) (f : Mem) (n : Nat) (QX : String → Prop) : String → State → State → Prop := fun E st t => QX E ∧ va_F (gA G) st t ∧ ∃ n1, n ≤ n1 ∧ gP G (gcut f n) n1 t.heap
def gwsH (y : MD) (hh : List (Nat × Nat × Nat × Nat)) : List Cond := Cond.codeWith y.1 y.2.1 y.2.2.1 y.2.2.2 hh :: gT
abbrev gPX (G : GX) (as : List Value) (f : Mem) (n : Nat) : Array Value → State → Prop := va_Pc as (fun U => gP G f n U.heap ∧ gK G U ∧ gX G U)
def EvT (G : GX) (y : MD) (d mc ms : Nat) (as : List Value) (f : Mem) (n : Nat) (Q : RQ) (QX : String → Prop) : Prop := vx_Met G.1 y.1 (gws y) (grm d mc ms) (gPX G as f n) (gQ G Q) (gXQ G f n QX) mc ms (gA G)
def EvH (G : GX) (y : MD) (hh : List (Nat × Nat × Nat × Nat)) (d mc ms : Nat) (as : List Value) (f : Mem) (n : Nat) (Q : RQ) : Prop := vx_Met G.1 y.1 (gwsH y hh) (grm d mc ms) (gPX G as f n) (gQ G Q) (fun _ _ _ => False) mc ms (gA G)
theorem gx_blind {G : GX} {as : List Value} {f : Mem} {n : Nat} : FrameBlind (gPX G as f n) := fun _ U _ _ h => ⟨h.1, h.2.1, gK.same (s := U) h.2.2.1 rfl, gX.same (s := U) h.2.2.2 rfl rfl⟩
section Z2
variable {G : GX} {y : MD} {R : Room} {Z : State → Prop} {p : Program} {e : Env} {s : State} {m : MethodId} {args : Array Value} {below : List Frame} {meth : Method} {c : Code}
variable {kc ks pc pc2 d mc ms : Nat} {ls ls' : List (Option Value)} {st : List Value} {f f0 : Mem} {n n0 : Nat} {Q : RQ} {QX : String → Prop} {XC : String → State → State → Prop}
theorem et_of {as : List Value} (hp : plainName y.1.cls = true) (hlen : (lg_sl as).length ≤ y.2.2.1) (hl : ge as ++ List.replicate (y.2.2.1 - (ge as).length) none = ls) (k : G.2.1 ≤ n → ∀ (p : Program) (e : Env) (s : State) (m : MethodId) (args : Array Value) (below : List Frame) (meth : Method) (c : Code), zC G y p s m args meth c → gX G s → (∀ x ∈ c.exceptionTable.toList, False) → Gz G y (grm d mc ms) (vx_MQ below (gQ G Q) (gXQ G f n QX) args s mc ms (gA G)) p e s m args below meth c 0 0 0 ls [] f n) : EvT G y d mc ms as f n Q QX := by
  refine vx_ofW (cc := y.2.1) (maxL := y.2.2.1) (ret := y.2.2.2) hp rfl ?_
  intro p e s m args below meth c s₁ B hml hno hv
  obtain ⟨rfl, hP, hK, hX⟩ := hv
  have hle := lv_entry as hlen
  rw [lg_entry_eq]
  have hb0 : G.2.1 ≤ n := hP.1
  refine k hb0 p e s m _ below meth c ⟨B.exec, B.bytes, hml, findClass_of_methodNamed B.named, fun w hw => atoms_spec (ws := gws y) B.pre w (List.mem_cons_of_mem _ hw), B.returns, B.notSynchronized, (name_of_methodNamed B.named B.method).1, hK, by rw [hP.2.1]; exact hb0⟩ hX hno s.heap [] _ hP va_S.rf ?_
  refine ⟨hle.1, hle.2.1, fun q hq => hle.2.2 q ?_⟩
  rw [← hl, gl_app, gl_none, List.append_nil] at hq
  exact ge_args as 0 q hq
theorem eh_of {as : List Value} {hh : List (Nat × Nat × Nat × Nat)} (hp : plainName y.1.cls = true) (hlen : (lg_sl as).length ≤ y.2.2.1) (hl : ge as ++ List.replicate (y.2.2.1 - (ge as).length) none = ls) (k : G.2.1 ≤ n → ∀ (p : Program) (e : Env) (s : State) (m : MethodId) (args : Array Value) (below : List Frame) (meth : Method) (c : Code), zC G y p s m args meth c → gX G s → c.exceptionTable.toList = tableOf hh → Gz G y (grm d mc ms) (vx_MQ below (gQ G Q) (fun _ _ _ => False) args s mc ms (gA G)) p e s m args below meth c 0 0 0 ls [] f n) : EvH G y hh d mc ms as f n Q := by
  refine vx_ofWH (cc := y.2.1) (maxL := y.2.2.1) (ret := y.2.2.2) (hh := hh) hp rfl ?_
  intro p e s m args below meth c s₁ B hml hv
  obtain ⟨rfl, hP, hK, hX⟩ := hv
  have hle := lv_entry as hlen
  rw [lg_entry_eq]
  have hb0 : G.2.1 ≤ n := hP.1
  refine k hb0 p e s m _ below meth c ⟨B.exec, B.bytes, hml, findClass_of_methodNamed B.named, fun w hw => atoms_spec (ws := gwsH y hh) B.pre w (List.mem_cons_of_mem _ hw), B.returns, B.notSynchronized, (name_of_methodNamed B.named B.method).1, hK, by rw [hP.2.1]; exact hb0⟩ hX (vx_table (x := y.1) B (atoms_spec (ws := gwsH y hh) B.pre _ List.mem_cons_self)) s.heap [] _ hP va_S.rf ?_
  refine ⟨hle.1, hle.2.1, fun q hq => hle.2.2 q ?_⟩
  rw [← hl, gl_app, gl_none, List.append_nil] at hq
  exact ge_args as 0 q hq
theorem gt_vret (C : zC G y p s m args meth c) (hd : decode y.2.1 pc = .ok (.return_, 1)) (hr : y.2.2.2 = none) (h1 : kc ≤ mc) (h2 : ks ≤ ms) (hq : Q none f n) : Gz G y R (vx_MQ below (gQ G Q) XC args s mc ms (gA G)) p e s m args below meth c kc ks pc ls [] f n := by
  intro H locs la hP hS hl
  refine vx_ret (W.widen h1 h2 ?_)
  exact W.vret C.1 C.2.1 (C.2.2.2.2.2.1.trans hr) (fun t ht hW => ⟨⟨none, f, n, rfl, hq, by rw [ht]; exact hP⟩, hS.F ht⟩) hS.2.2 hd C.2.2.2.2.2.2.1
theorem gt_iret (C : zC G y p s m args meth c) {v : Int32} (hd : decode y.2.1 pc = .ok (.ireturn, 1)) (hr : y.2.2.2 = some .int) (h1 : kc ≤ mc) (h2 : ks ≤ ms) (hq : Q (some (.int v)) f n) : Gz G y R (vx_MQ below (gQ G Q) XC args s mc ms (gA G)) p e s m args below meth c kc ks pc ls [.int v] f n := by
  intro H locs la hP hS hl
  refine vx_ret (W.widen h1 h2 ?_)
  exact W.iret C.1 C.2.1 (C.2.2.2.2.2.1.trans hr) (fun t ht hW => ⟨⟨some (.int v), f, n, rfl, hq, by rw [ht]; exact hP⟩, hS.F ht⟩) hS.2.2 hd C.2.2.2.2.2.2.1
theorem gt_lret (C : zC G y p s m args meth c) {v : Int64} (hd : decode y.2.1 pc = .ok (.lreturn, 1)) (hr : y.2.2.2 = some .long) (h1 : kc ≤ mc) (h2 : ks ≤ ms) (hq : Q (some (.long v)) f n) : Gz G y R (vx_MQ below (gQ G Q) XC args s mc ms (gA G)) p e s m args below meth c kc ks pc ls [.long v] f n := by
  intro H locs la hP hS hl
  refine vx_ret (W.widen h1 h2 ?_)
  exact W.lret C.1 C.2.1 (C.2.2.2.2.2.1.trans hr) (fun t ht hW => ⟨⟨some (.long v), f, n, rfl, hq, by rw [ht]; exact hP⟩, hS.F ht⟩) hS.2.2 hd C.2.2.2.2.2.2.1
theorem gcut_gP {H H1 : Heap} (hP : gP G f n H) (h1 : H.size ≤ H1.size) (h2 : ∀ q : Nat, q < H.size → H1[q]? = H[q]?) : ∃ n1, n ≤ n1 ∧ gP G (gcut f n) n1 H1 := by
  refine ⟨H1.size, by rw [← hP.2.1]; exact h1, Nat.le_trans hP.1 (by rw [← hP.2.1]; exact h1), rfl, fun a ha hb => ?_⟩
  by_cases c : a < n
  · rw [gcut_at c]
    exact (hP.2.2 a ha c).imp id (fun z => z.kept (h2 a (by rw [hP.2.1]; exact c)))
  · exact Or.inl (if_neg c)
/-- throw new X(text) -/
theorem gt_throwS (C : zC G y p s m args meth c) (X : gX G s) (hno : ∀ x ∈ c.exceptionTable.toList, False) {cls text : String} {ik is ic sa : Nat} (hcls : Bundle.fit cls = true) (hk : Cond.classLink y.1.cls ik cls ∈ gT) (hini : Cond.initialized cls ∈ gT) (hstr : vk_R y.1.cls is text sa s) (hat : ∀ w ∈ vx_atS y.1.cls ic cls ["java/lang/RuntimeException", "java/lang/Exception"], w.before args s = true) (hgood : ∀ w ∈ Cond.classLink y.1.cls ik cls :: Cond.initialized cls :: vx_atS y.1.cls ic cls ["java/lang/RuntimeException", "java/lang/Exception"], vx_ot w = true)
    (d0 : decode y.2.1 pc = .ok (.new ik, 3)) (d3 : decode y.2.1 (pc + 3) = .ok (.dup, 1)) (d4 : decode y.2.1 (pc + 4) = .ok (.ldc is, 2)) (d6 : decode y.2.1 (pc + 6) = .ok (.invokespecial ic, 3)) (d9 : decode y.2.1 (pc + 9) = .ok (.athrow, 1))
    (hR : 5 < R.frames ∧ 90 ≤ R.locals) (hW : (st.map fun v => v.category).sum ≤ 8) (h1 : kc + 1 ≤ R.cells) (h2 : ks + 6 ≤ R.slots) (h3 : kc + 1 ≤ mc) (h4 : ks + 6 ≤ ms) (hE : QX cls) : Gz G y R (vx_MQ below (gQ G Q) (gXQ G f n QX) args s mc ms (gA G)) p e s m args below meth c kc ks pc ls st f n := by
  intro H locs la hP hS hl
  refine vx_throwS (names := ["java/lang/RuntimeException", "java/lang/Exception"]) C.1 C.2.1 X.1 C.2.2.2.1 hcls (by decide +kernel) (C.ht _ hk) (C.ht _ hini) hstr hat hgood X.2.1 X.2.2.1 hS (by rw [C.2.2.1]; exact hl.1) d0 d3 d4 d6 d9 (fun x hx => (hno x hx).elim) hR.1 ?_ h1 h2 C.2.2.2.2.2.2.1 (fun t ha hz hq => ⟨hE, ⟨Nat.le_trans hS.1 hz, fun q z1 z2 => (hq q (Nat.lt_of_lt_of_le z1 hS.1)).trans (hS.2.1 q z1 z2)⟩, gcut_gP hP hz hq⟩) hS.2.2 h3 h4
  show _ + (13 * (2 + 1) + 43) ≤ R.locals
  omega
theorem gt_throwSW (C : zC G y p s m args meth c) (X : gX G s) (hno : ∀ x ∈ c.exceptionTable.toList, False) {cls text : String} {ik is ic sa : Nat} (hcls : Bundle.fit cls = true) (hk : Cond.classLink y.1.cls ik cls ∈ gT) (hini : Cond.initialized cls ∈ gT) (hstr : vk_R y.1.cls is text sa s) (hat : ∀ w ∈ vx_atS y.1.cls ic cls ["java/lang/RuntimeException", "java/lang/Exception"], w.before args s = true) (hgood : ∀ w ∈ Cond.classLink y.1.cls ik cls :: Cond.initialized cls :: vx_atS y.1.cls ic cls ["java/lang/RuntimeException", "java/lang/Exception"], vx_ot w = true)
    (d0 : decode y.2.1 pc = .ok (.new ik, 3)) (d3 : decode y.2.1 (pc + 3) = .ok (.dup, 1)) (d4 : decode y.2.1 (pc + 4) = .ok (.ldc_w is, 3)) (d7 : decode y.2.1 (pc + 7) = .ok (.invokespecial ic, 3)) (d10 : decode y.2.1 (pc + 10) = .ok (.athrow, 1))
    (hR : 5 < R.frames ∧ 90 ≤ R.locals) (hW : (st.map fun v => v.category).sum ≤ 8) (h1 : kc + 1 ≤ R.cells) (h2 : ks + 6 ≤ R.slots) (h3 : kc + 1 ≤ mc) (h4 : ks + 6 ≤ ms) (hE : QX cls) : Gz G y R (vx_MQ below (gQ G Q) (gXQ G f n QX) args s mc ms (gA G)) p e s m args below meth c kc ks pc ls st f n := by
  intro H locs la hP hS hl
  refine vx_throwSW (names := ["java/lang/RuntimeException", "java/lang/Exception"]) C.1 C.2.1 X.1 C.2.2.2.1 hcls (by decide +kernel) (C.ht _ hk) (C.ht _ hini) hstr hat hgood X.2.1 X.2.2.1 hS (by rw [C.2.2.1]; exact hl.1) d0 d3 d4 d7 d10 (fun x hx => (hno x hx).elim) hR.1 ?_ h1 h2 C.2.2.2.2.2.2.1 (fun t ha hz hq => ⟨hE, ⟨Nat.le_trans hS.1 hz, fun q z1 z2 => (hq q (Nat.lt_of_lt_of_le z1 hS.1)).trans (hS.2.1 q z1 z2)⟩, gcut_gP hP hz hq⟩) hS.2.2 h3 h4
  show _ + (13 * (2 + 1) + 43) ≤ R.locals
  omega
/-- behind a call that may throw -/
theorem z_afterX {H : Heap} {locs : List Loc} {la : Array Slot} {st0 rest : List Value} {mc2 ms2 : Nat} {Q2 : RQ} {a : Array Value}
    (hr : vx_Run p G.1 e R s m args below meth c H locs kc ks mc2 ms2 (F0 m pc la st0) rest (gQ G Q2 a) (gXQ G f n QX) (gA G)) (hS : va_S (gA G) s.heap H locs)
    (kk : ∀ (r : Option Value) (f1 : Mem) (n1 : Nat) (H1 : Heap) (locs1 : List Loc), Q2 r f1 n1 → gP G f1 n1 H1 → va_S (gA G) s.heap H1 locs1 → W p G.1 e R s m args below meth c H1 locs1 (kc + mc2) (ks + ms2) Z (F0 m (pc + 3) la (r.toList ++ rest)))
    (kx : ∀ (E : String) (ce : Cell) (q9 : Addr) (n1 : Nat) (H1 : Heap) (locs1 : List Loc), QX E → n ≤ n1 → gP G (gcut f n) n1 H1 → va_S (gA G) s.heap H1 locs1 → H1[q9]? = some ce → ce.vm = .none → s.vm.findClass E = some ce.cls → vx_W p G.1 e R s m args below meth c H1 locs1 (kc + mc2) (ks + ms2) Z (F0 m pc la rest) q9) : W p G.1 e R s m args below meth c H locs kc ks Z (F0 m pc la st0) := by
  intro T hT X
  rcases hr T hT X with ⟨v, st₀, t, T', L, h0, X', hL, e1, e2, ⟨⟨r, f1, n1, hv, hq, hp⟩, hz, hk⟩, stp⟩ | ⟨q, st₀, t, T', L, E, ce, h0, X', hL, e1, e2, ⟨hE, ⟨hz, hk⟩, n1, hn1, hp⟩, hce, hcv, hcl, stp⟩
  · cases hv
    rw [h0] at hz hk
    obtain ⟨t2, a1, b1⟩ := kk _ f1 n1 T'.heap (locs ++ L) hq (by rw [e1]; exact hp)
      ⟨Nat.le_trans hS.1 (by rw [e1]; exact hz), fun q h1 h2 => by rw [e1, hk q (Nat.lt_of_lt_of_le h1 hS.1) h2]; exact hS.2.1 q h1 h2, fun q hq => by
        rcases List.mem_append.mp hq with h | h
        · exact hS.2.2 q h
        · exact hL q h⟩ T' rfl X'
    exact ⟨t2, stp t2 a1, b1⟩
  · rw [h0] at hz hk
    obtain ⟨t2, a1, b1⟩ := kx E ce q n1 T'.heap (locs ++ L) hE hn1 (by rw [e1]; exact hp)
      ⟨Nat.le_trans hS.1 (by rw [e1]; exact hz), fun q h1 h2 => by rw [e1, hk q (Nat.lt_of_lt_of_le h1 hS.1) h2]; exact hS.2.1 q h1 h2, fun q hq => by
        rcases List.mem_append.mp hq with h | h
        · exact hS.2.2 q h
        · exact hL q h⟩ (by rw [e1]; exact hce) hcv hcl T' rfl X'
    exact ⟨t2, stp.trans a1, b1⟩
/-- a call that may throw, by a name that the receiver's class resolves -/
theorem gz_OT (C : zC G y p s m args meth c) (X : gX G s) {x y2 : MD} {idx np d2 mc2 ms2 a ci : Nat} {fs : List Value} {Q2 : RQ} (As rest : List Value) (hd : gd y pc (.invokevirtual idx) 3 pc2) (vl : OL y.1.cls idx ci x y2 np) (hR : zR R d2 y2.2.2.1)
    (hev : EvT G y2 d2 mc2 ms2 (.ref a :: As) f n Q2 QX) (he : f a = ob ci fs) (h1 : G.2.1 ≤ a) (h2 : a < n) (hnp : As.length = np) (hst : st = As.reverse ++ .ref a :: rest) (hW : (rest.map fun v => v.category).sum ≤ 8) (hk1 : kc + mc2 ≤ R.cells) (hk2 : ks + ms2 ≤ R.slots)
    (kk : ∀ (r : Option Value) (f1 : Mem) (n1 : Nat), Q2 r f1 n1 → Gz G y R Z p e s m args below meth c (kc + mc2) (ks + ms2) pc2 ls (r.toList ++ rest) f1 n1)
    (kx : ∀ (E : String) (ce : Cell) (q9 : Addr) (n1 : Nat) (H1 : Heap) (locs1 : List Loc) (la : Array Slot), QX E → n ≤ n1 → gP G (gcut f n) n1 H1 → va_S (gA G) s.heap H1 locs1 → lv_has la y.2.2.1 (gl 0 ls) → H1[q9]? = some ce → ce.vm = .none → s.vm.findClass E = some ce.cls → vx_W p G.1 e R s m args below meth c H1 locs1 (kc + mc2) (ks + ms2) Z (F0 m pc la rest) q9) : Gz G y R Z p e s m args below meth c kc ks pc ls st f n := by
  obtain ⟨h0, hx, hl, hsm, hix, hi, q, hc, hsel⟩ := vl
  obtain ⟨hd, rfl⟩ := hd
  subst hst
  intro H locs la hP hS hll
  have hG : GoodIn gT (va_wsO y.1.cls idx q.1 x.1.cls x.1 y2.1 (gws y2)) := by
    intro w hw
    have key : ∀ w ∈ gT, w ∈ gT ∧ ((w.onTables && w.keeps) = true ∨ ∃ ty, w = .arrayClass ty) := fun w h => ⟨h, (gT_good w h).2⟩
    unfold va_wsO at hw
    rcases List.mem_append.mp hw with h | h
    · simp only [List.mem_cons, List.not_mem_nil, or_false] at h
      rcases h with rfl | rfl | rfl | rfl | rfl | rfl
      · exact key _ hl
      · exact key _ hsm
      · exact key _ hix
      · exact key _ hsel
      · exact key _ hi
      · exact key _ h0.2.1
    · exact gT_goodIn h0.1 w h
  refine z_afterX (vx_runU (As := As) (rest := rest) ⟨C.1, C.2.1, C.2.2.1, C.2.2.2.1, C.2.2.2.2.1⟩ hev (va_cwO np C.2.2.2.2.1 hG rfl rfl rfl hx.1 ⟨hx.2.2.1, hx.2.2.2.1, hx.2.2.2.2⟩ hR.ok) ⟨gx_blind, va_recv C.2.2.2.2.2.2.2.2.1.1 (hP.2.2.ob he hc h1 h2) (q0 := 0) hc rfl, fun U hU hWm => ⟨rfl, by rw [hU]; exact hP, C.2.2.2.2.2.2.2.2.1.warm hWm, X.call hWm hU hS⟩⟩ rfl hnp hll.1 rfl (lv_room hW) hd ⟨hk1, hk2⟩) hS (fun r f1 n1 H1 locs1 hq hp hs => kk r f1 n1 hq H1 locs1 la hp hs hll) (fun E ce q9 n1 H1 locs1 z1 z2 z3 z4 z5 z6 z7 => kx E ce q9 n1 H1 locs1 la z1 z2 z3 z4 hll z5 z6 z7)
/-- .. by its own -/
theorem gz_VT (C : zC G y p s m args meth c) (X : gX G s) {y2 : MD} {idx np d2 mc2 ms2 a ci : Nat} {fs : List Value} {Q2 : RQ} (As rest : List Value) (hd : gd y pc (.invokevirtual idx) 3 pc2) (vl : VL y.1.cls idx ci y2 np) (hR : zR R d2 y2.2.2.1)
    (hev : EvT G y2 d2 mc2 ms2 (.ref a :: As) f n Q2 QX) (he : f a = ob ci fs) (h1 : G.2.1 ≤ a) (h2 : a < n) (hnp : As.length = np) (hst : st = As.reverse ++ .ref a :: rest) (hW : (rest.map fun v => v.category).sum ≤ 8) (hk1 : kc + mc2 ≤ R.cells) (hk2 : ks + ms2 ≤ R.slots)
    (kk : ∀ (r : Option Value) (f1 : Mem) (n1 : Nat), Q2 r f1 n1 → Gz G y R Z p e s m args below meth c (kc + mc2) (ks + ms2) pc2 ls (r.toList ++ rest) f1 n1)
    (kx : ∀ (E : String) (ce : Cell) (q9 : Addr) (n1 : Nat) (H1 : Heap) (locs1 : List Loc) (la : Array Slot), QX E → n ≤ n1 → gP G (gcut f n) n1 H1 → va_S (gA G) s.heap H1 locs1 → lv_has la y.2.2.1 (gl 0 ls) → H1[q9]? = some ce → ce.vm = .none → s.vm.findClass E = some ce.cls → vx_W p G.1 e R s m args below meth c H1 locs1 (kc + mc2) (ks + ms2) Z (F0 m pc la rest) q9) : Gz G y R Z p e s m args below meth c kc ks pc ls st f n := by
  obtain ⟨h0, hl, hi, q, hc, hsel⟩ := vl
  obtain ⟨hd, rfl⟩ := hd
  subst hst
  intro H locs la hP hS hll
  refine z_afterX (vx_runV (As := As) (rest := rest) ⟨C.1, C.2.1, C.2.2.1, C.2.2.2.1, C.2.2.2.2.1⟩ hev ⟨z_callB C h0 hl hR, C.ht _ hi, C.ht _ hsel⟩ ⟨gx_blind, va_recv C.2.2.2.2.2.2.2.2.1.1 (hP.2.2.ob he hc h1 h2) (q0 := 0) hc rfl, fun U hU hWm => ⟨rfl, by rw [hU]; exact hP, C.2.2.2.2.2.2.2.2.1.warm hWm, X.call hWm hU hS⟩⟩ rfl hnp hll.1 rfl (lv_room hW) hd ⟨hk1, hk2⟩) hS (fun r f1 n1 H1 locs1 hq hp hs => kk r f1 n1 hq H1 locs1 la hp hs hll) (fun E ce q9 n1 H1 locs1 z1 z2 z3 z4 z5 z6 z7 => kx E ce q9 n1 H1 locs1 la z1 z2 z3 z4 hll z5 z6 z7)
/-- a call of a method with handlers of its own: it returns -/
theorem z_after0 {H : Heap} {locs : List Loc} {la : Array Slot} {st0 rest : List Value} {mc2 ms2 : Nat} {Q2 : RQ} {a : Array Value}
    (hr : vx_Run p G.1 e R s m args below meth c H locs kc ks mc2 ms2 (F0 m pc la st0) rest (gQ G Q2 a) (fun _ _ _ => False) (gA G)) (hS : va_S (gA G) s.heap H locs)
    (kk : ∀ (r : Option Value) (f1 : Mem) (n1 : Nat) (H1 : Heap) (locs1 : List Loc), Q2 r f1 n1 → gP G f1 n1 H1 → va_S (gA G) s.heap H1 locs1 → W p G.1 e R s m args below meth c H1 locs1 (kc + mc2) (ks + ms2) Z (F0 m (pc + 3) la (r.toList ++ rest))) : W p G.1 e R s m args below meth c H locs kc ks Z (F0 m pc la st0) := by
  refine z_after (a := a) (fun T hT X => ?_) hS kk
  rcases hr T hT X with z | ⟨q, st₀, t, T', L, E, ce, h0, X', hL, e1, e2, hF, -⟩
  · exact z
  · exact hF.elim
theorem gz_VH (C : zC G y p s m args meth c) (X : gX G s) {y2 : MD} {hh : List (Nat × Nat × Nat × Nat)} {idx np d2 mc2 ms2 a ci : Nat} {fs : List Value} {Q2 : RQ} {q : vw_C} (As rest : List Value) (hd : gd y pc (.invokevirtual idx) 3 pc2) (hcd : Cond.codeWith y2.1 y2.2.1 y2.2.2.1 y2.2.2.2 hh ∈ gT) (hini : Cond.initialized y2.1.cls ∈ gT) (hmh : y2.1.cls ≠ "java/lang/invoke/MethodHandle" ∧ y2.1.cls ≠ "java/lang/invoke/VarHandle" ∧ (parseMethodDescriptor y2.1.desc).map (fun d => d.parameters.length) = some np) (hl : Cond.methodLink y.1.cls idx y2.1 ∈ gT) (hi : Cond.instanceMethod y2.1 ∈ gT) (hc : vwCl[ci]? = some q) (hsel : Cond.selects q.1 y2.1 y2.1 ∈ gT) (hR : zR R d2 y2.2.2.1)
    (hev : EvH G y2 hh d2 mc2 ms2 (.ref a :: As) f n Q2) (he : f a = ob ci fs) (h1 : G.2.1 ≤ a) (h2 : a < n) (hnp : As.length = np) (hst : st = As.reverse ++ .ref a :: rest) (hW : (rest.map fun v => v.category).sum ≤ 8) (hk1 : kc + mc2 ≤ R.cells) (hk2 : ks + ms2 ≤ R.slots)
    (kk : ∀ (r : Option Value) (f1 : Mem) (n1 : Nat), Q2 r f1 n1 → Gz G y R Z p e s m args below meth c (kc + mc2) (ks + ms2) pc2 ls (r.toList ++ rest) f1 n1) : Gz G y R Z p e s m args below meth c kc ks pc ls st f n := by
  obtain ⟨hd, rfl⟩ := hd
  subst hst
  intro H locs la hP hS hll
  have hws : ∀ w ∈ gwsH y2 hh, w ∈ gT := fun w hw => by
    rcases List.mem_cons.mp hw with rfl | z
    · exact hcd
    · exact z
  have hpay : ∀ w ∈ gwsH y2 hh, ∀ (a' : Array Value) (U : State), s.WarmedH U.vm → w.before a' U = true := pay_in C.2.2.2.2.1 (fun w hw => ⟨hws w hw, (gT_good w (hws w hw)).2⟩)
  refine z_after0 (vx_runVX (As := As) (rest := rest) (hh := hh) ⟨C.1, C.2.1, C.2.2.1, C.2.2.2.1, C.2.2.2.2.1⟩ hev ⟨⟨rfl, rfl, hR.ok.1, (hR.ok (mc2 := mc2) (ms2 := ms2)).2, hpay, List.mem_cons_self⟩, C.ht _ hcd, C.ht _ hini, ⟨hmh.1, hmh.2.1⟩, fun sig h => by have h2 := hmh.2.2; rw [h] at h2; exact (Option.some.inj h2).symm, C.ht _ hl, C.ht _ hi, C.ht _ hsel⟩ ⟨gx_blind, va_recv C.2.2.2.2.2.2.2.2.1.1 (hP.2.2.ob he hc h1 h2) (q0 := 0) hc rfl, fun U hU hWm => ⟨rfl, by rw [hU]; exact hP, C.2.2.2.2.2.2.2.2.1.warm hWm, X.call hWm hU hS⟩⟩ rfl hnp hll.1 rfl (lv_room hW) hd ⟨hk1, hk2⟩) hS (fun r f1 n1 H1 locs1 hq hp hs => kk r f1 n1 hq H1 locs1 la hp hs hll)
theorem gz_SH (C : zC G y p s m args meth c) (X : gX G s) {y2 : MD} {hh : List (Nat × Nat × Nat × Nat)} {idx np d2 mc2 ms2 : Nat} {Q2 : RQ} (As rest : List Value) (hd : gd y pc (.invokestatic idx) 3 pc2) (hcd : Cond.codeWith y2.1 y2.2.1 y2.2.2.1 y2.2.2.2 hh ∈ gT) (hini : Cond.initialized y2.1.cls ∈ gT) (hmh : y2.1.cls ≠ "java/lang/invoke/MethodHandle" ∧ y2.1.cls ≠ "java/lang/invoke/VarHandle" ∧ (parseMethodDescriptor y2.1.desc).map (fun d => d.parameters.length) = some np) (hl : Cond.methodLink y.1.cls idx y2.1 ∈ gT) (hi : Cond.static y2.1 ∈ gT) (hR : zR R d2 y2.2.2.1)
    (hev : EvH G y2 hh d2 mc2 ms2 As f n Q2) (hnp : As.length = np) (hst : st = As.reverse ++ rest) (hW : (rest.map fun v => v.category).sum ≤ 8) (hk1 : kc + mc2 ≤ R.cells) (hk2 : ks + ms2 ≤ R.slots)
    (kk : ∀ (r : Option Value) (f1 : Mem) (n1 : Nat), Q2 r f1 n1 → Gz G y R Z p e s m args below meth c (kc + mc2) (ks + ms2) pc2 ls (r.toList ++ rest) f1 n1) : Gz G y R Z p e s m args below meth c kc ks pc ls st f n := by
  obtain ⟨hd, rfl⟩ := hd
  subst hst
  intro H locs la hP hS hll
  have hws : ∀ w ∈ gwsH y2 hh, w ∈ gT := fun w hw => by
    rcases List.mem_cons.mp hw with rfl | z
    · exact hcd
    · exact z
  have hpay : ∀ w ∈ gwsH y2 hh, ∀ (a' : Array Value) (U : State), s.WarmedH U.vm → w.before a' U = true := pay_in C.2.2.2.2.1 (fun w hw => ⟨hws w hw, (gT_good w (hws w hw)).2⟩)
  refine z_after0 (vx_runSX (As := As) (rest := rest) (hh := hh) ⟨C.1, C.2.1, C.2.2.1, C.2.2.2.1, C.2.2.2.2.1⟩ hev ⟨⟨rfl, rfl, hR.ok.1, (hR.ok (mc2 := mc2) (ms2 := ms2)).2, hpay, List.mem_cons_self⟩, C.ht _ hcd, C.ht _ hini, ⟨hmh.1, hmh.2.1⟩, fun sig h => by have h2 := hmh.2.2; rw [h] at h2; exact (Option.some.inj h2).symm, C.ht _ hl, C.ht _ hi⟩ ⟨gx_blind, fun U hU hWm => ⟨rfl, by rw [hU]; exact hP, C.2.2.2.2.2.2.2.2.1.warm hWm, X.call hWm hU hS⟩⟩ rfl hnp hll.1 rfl (lv_room hW) hd ⟨hk1, hk2⟩) hS (fun r f1 n1 H1 locs1 hq hp hs => kk r f1 n1 hq H1 locs1 la hp hs hll)
end Z2
/-- the words of a throw: the good ones lie in the tables, the others are kept -/
theorem at_words {G : GX} {y : MD} {p : Program} {s : State} {m : MethodId} {args : Array Value} {meth : Method} {c : Code} (C : zC G y p s m args meth c) (X : gX G s) {L : List Cond} (ps : List Nat) (h1 : L.filter goodWord = ps.filterMap (fun i => tables_1[i]?)) (h2 : ∀ w ∈ L.filter (fun w => !goodWord w), w ∈ (gXc.map (fun q => Cond.castable q.1 q.2)) ++ gXd.map Cond.declares) : ∀ w ∈ L, w.before args s = true := by
  refine vx_hat (B := (gXc.map (fun q => Cond.castable q.1 q.2)) ++ gXd.map Cond.declares) (fun w hw => ?_) h2 (fun w hw => ?_)
  · have hg := (List.mem_filter.mp hw).2
    rw [h1] at hw
    obtain ⟨i, -, hi⟩ := List.mem_filterMap.mp hw
    exact C.ht w (g_in i hi hg)
  · rcases List.mem_append.mp hw with h | h
    · obtain ⟨q, hq, rfl⟩ := List.mem_map.mp h
      exact va_Nw.use rfl (X.2.2.2.2.2.1 q hq)
    · obtain ⟨q, hq, rfl⟩ := List.mem_map.mp h
      exact va_Nw.use rfl (X.2.2.2.2.2.2 q hq)
theorem aw_One {G : GX} {y : MD} {p : Program} {s : State} {m : MethodId} {args : Array Value} {meth : Method} {c : Code} (C : zC G y p s m args meth c) (X : gX G s) : ∀ w ∈ vx_atS "TwoToALocker$One" 27 "java/lang/IllegalArgumentException" ["java/lang/RuntimeException", "java/lang/Exception"], w.before args s = true := at_words C X [17, 975, 984, 988, 991, 993, 976, 977, 29, 30, 978, 983, 989, 1009, 965, 1010, 967, 1011, 969, 979, 981, 971, 1005, 1006, 1008, 971, 1059, 1060, 1061, 999, 999, 1000, 1001, 1002, 1002, 1003, 1004, 1005, 1058, 1049, 1051, 986, 1052, 1053, 1054, 1055, 974, 973, 1056] (by decide +kernel) (by decide +kernel)
theorem ag_One : ∀ w ∈ Cond.classLink "TwoToALocker$One" 23 "java/lang/IllegalArgumentException" :: Cond.initialized "java/lang/IllegalArgumentException" :: vx_atS "TwoToALocker$One" 27 "java/lang/IllegalArgumentException" ["java/lang/RuntimeException", "java/lang/Exception"], vx_ot w = true := by decide +kernel
theorem aw_Tidy {G : GX} {y : MD} {p : Program} {s : State} {m : MethodId} {args : Array Value} {meth : Method} {c : Code} (C : zC G y p s m args meth c) (X : gX G s) : ∀ w ∈ vx_atS "TwoToALocker$Tidy" 33 "java/lang/IllegalStateException" ["java/lang/RuntimeException", "java/lang/Exception"], w.before args s = true := at_words C X [17, 975, 984, 988, 991, 993, 976, 977, 29, 30, 978, 983, 989, 1009, 965, 1010, 967, 1011, 969, 979, 981, 971, 1005, 1006, 1008, 971, 1036, 1037, 1038, 999, 999, 1000, 1001, 1002, 1002, 1003, 1004, 1005, 1035, 1026, 1028, 987, 1029, 1030, 1031, 1032, 974, 973, 1033] (by decide +kernel) (by decide +kernel)
theorem ag_Tidy : ∀ w ∈ Cond.classLink "TwoToALocker$Tidy" 29 "java/lang/IllegalStateException" :: Cond.initialized "java/lang/IllegalStateException" :: vx_atS "TwoToALocker$Tidy" 33 "java/lang/IllegalStateException" ["java/lang/RuntimeException", "java/lang/Exception"], vx_ot w = true := by decide +kernel
theorem aw_Fussy {G : GX} {y : MD} {p : Program} {s : State} {m : MethodId} {args : Array Value} {meth : Method} {c : Code} (C : zC G y p s m args meth c) (X : gX G s) : ∀ w ∈ vx_atS "TwoToALocker$Fussy" 25 "java/lang/UnsupportedOperationException" ["java/lang/RuntimeException", "java/lang/Exception"], w.before args s = true := at_words C X [17, 975, 984, 988, 991, 993, 976, 977, 29, 30, 978, 983, 989, 1009, 965, 1010, 967, 1011, 969, 979, 981, 971, 1005, 1006, 1008, 971, 996, 997, 998, 999, 999, 1000, 1001, 1002, 1002, 1003, 1004, 1005, 995, 954, 962, 963, 964, 966, 968, 970, 974, 973, 972] (by decide +kernel) (by decide +kernel)
theorem ag_Fussy : ∀ w ∈ Cond.classLink "TwoToALocker$Fussy" 21 "java/lang/UnsupportedOperationException" :: Cond.initialized "java/lang/UnsupportedOperationException" :: vx_atS "TwoToALocker$Fussy" 25 "java/lang/UnsupportedOperationException" ["java/lang/RuntimeException", "java/lang/Exception"], vx_ot w = true := by decide +kernel
theorem aw_El1 {G : GX} {y : MD} {p : Program} {s : State} {m : MethodId} {args : Array Value} {meth : Method} {c : Code} (C : zC G y p s m args meth c) (X : gX G s) : ∀ w ∈ vx_atS "TwoToALocker" 316 "java/lang/IllegalArgumentException" ["java/lang/RuntimeException", "java/lang/Exception"], w.before args s = true := at_words C X [17, 975, 984, 988, 991, 993, 976, 977, 29, 30, 978, 983, 989, 1009, 965, 1010, 967, 1011, 969, 979, 981, 971, 1005, 1006, 1008, 971, 1059, 1060, 1061, 999, 999, 1000, 1001, 1002, 1002, 1003, 1004, 1005, 1074, 1049, 1051, 986, 1052, 1053, 1054, 1055, 974, 973, 1056] (by decide +kernel) (by decide +kernel)
theorem ag_El1 : ∀ w ∈ Cond.classLink "TwoToALocker" 312 "java/lang/IllegalArgumentException" :: Cond.initialized "java/lang/IllegalArgumentException" :: vx_atS "TwoToALocker" 316 "java/lang/IllegalArgumentException" ["java/lang/RuntimeException", "java/lang/Exception"], vx_ot w = true := by decide +kernel
theorem aw_El2 {G : GX} {y : MD} {p : Program} {s : State} {m : MethodId} {args : Array Value} {meth : Method} {c : Code} (C : zC G y p s m args meth c) (X : gX G s) : ∀ w ∈ vx_atS "TwoToALocker" 323 "java/lang/IllegalStateException" ["java/lang/RuntimeException", "java/lang/Exception"], w.before args s = true := at_words C X [17, 975, 984, 988, 991, 993, 976, 977, 29, 30, 978, 983, 989, 1009, 965, 1010, 967, 1011, 969, 979, 981, 971, 1005, 1006, 1008, 971, 1036, 1037, 1038, 999, 999, 1000, 1001, 1002, 1002, 1003, 1004, 1005, 1076, 1026, 1028, 987, 1029, 1030, 1031, 1032, 974, 973, 1033] (by decide +kernel) (by decide +kernel)
theorem ag_El2 : ∀ w ∈ Cond.classLink "TwoToALocker" 319 "java/lang/IllegalStateException" :: Cond.initialized "java/lang/IllegalStateException" :: vx_atS "TwoToALocker" 323 "java/lang/IllegalStateException" ["java/lang/RuntimeException", "java/lang/Exception"], vx_ot w = true := by decide +kernel
