section GOCALL
variable {G : GX} {y : MD} {d mc ms : Nat} {Q : RQ} {kc ks pc pc2 : Nat} {ls ls' : List (Option Value)} {st : List Value} {f : Mem} {n : Nat}
theorem gws_good {y2 : MD} (h : Cond.code y2.1 y2.2.1 y2.2.2.1 y2.2.2.2 ∈ gT) : GoodIn (gws y) (gws y2) := by
  intro w hw
  have hw : w ∈ gT := by
    rcases List.mem_cons.mp hw with rfl | z
    · exact h
    · exact z
  exact ⟨List.mem_cons_of_mem _ hw, (gT_good w hw).2⟩
theorem g_blind {as : List Value} : FrameBlind (va_Pc as (fun U => gP G f n U.heap ∧ gK G U)) := fun _ U _ _ h => ⟨h.1, h.2.1, gK.same (s := U) h.2.2 rfl⟩
theorem g_after {p : Program} {e : Env} {R : Room} {s : State} {m : MethodId} {args : Array Value} {below : List Frame} {meth : Method} {c : Code} {H : Heap} {locs : List Loc} {la : Array Slot} {st0 rest : List Value} {mc2 ms2 : Nat} {Q2 : RQ} {a : Array Value} {Z : State → Prop}
    (hr : va_Run p G.1 e R s m args below meth c H locs kc ks mc2 ms2 (F0 m pc la st0) rest (gQ G Q2 a) (gA G)) (hS : va_S (gA G) s.heap H locs)
    (kk : ∀ (r : Option Value) (f1 : Mem) (n1 : Nat) (H1 : Heap) (locs1 : List Loc), Q2 r f1 n1 → gP G f1 n1 H1 → va_S (gA G) s.heap H1 locs1 → W p G.1 e R s m args below meth c H1 locs1 (kc + mc2) (ks + ms2) Z (F0 m (pc + 3) la (r.toList ++ rest))) : W p G.1 e R s m args below meth c H locs kc ks Z (F0 m pc la st0) := by
  intro T hT X
  obtain ⟨v, st₀, t, T', L, h0, X', hL, e1, e2, ⟨⟨r, f1, n1, hv, hq, hp⟩, hz, hk⟩, stp⟩ := hr T hT X
  cases hv
  rw [h0] at hz hk
  obtain ⟨t2, a1, b1⟩ := kk _ f1 n1 T'.heap (locs ++ L) hq (by rw [e1]; exact hp)
    ⟨Nat.le_trans hS.1 (by rw [e1]; exact hz), fun q h1 h2 => by rw [e1, hk q (Nat.lt_of_lt_of_le h1 hS.1) h2]; exact hS.2.1 q h1 h2, fun q hq => by
      rcases List.mem_append.mp hq with h | h
      · exact hS.2.2 q h
      · exact hL q h⟩ T' rfl X'
  exact ⟨t2, stp t2 a1, b1⟩
/-- a callee's place in the caller's room -/
def gR (d d2 maxL : Nat) : Prop := d2 + 1 ≤ d ∧ maxL ≤ 21
theorem gR.ok {d2 maxL mc2 ms2 : Nat} (h : gR d d2 maxL) : (grm d2 mc2 ms2).frames + 1 ≤ (grm d mc ms).frames ∧ 8 + (maxL + 11) + (grm d2 mc2 ms2).locals ≤ (grm d mc ms).locals := by
  obtain ⟨h1, h2⟩ := h
  refine ⟨h1, ?_⟩
  show 8 + (maxL + 11) + 40 * d2 ≤ 40 * d
  omega
/-- what a callee's name asks of the tables -/
def CW0 (y2 : MD) (np : Nat) : Prop := Cond.code y2.1 y2.2.1 y2.2.2.1 y2.2.2.2 ∈ gT ∧ Cond.initialized y2.1.cls ∈ gT ∧ y2.1.cls ≠ "java/lang/invoke/MethodHandle" ∧ y2.1.cls ≠ "java/lang/invoke/VarHandle" ∧ (parseMethodDescriptor y2.1.desc).map (fun d => d.parameters.length) = some np
theorem g_callB {p : Program} {s : State} {m : MethodId} {args : Array Value} {meth : Method} {c : Code} (C : gC G y p s m args meth c) {y2 : MD} {np idx d2 mc2 ms2 : Nat} (h0 : CW0 y2 np) (hl : Cond.methodLink y.1.cls idx y2.1 ∈ gT) (hR : gR d d2 y2.2.2.1) :
    CallB (grm d mc ms) s args y.1.cls idx y2.1 y2.2.1 y2.2.2.1 y2.2.2.2 (gws y2) (grm d2 mc2 ms2) mc2 ms2 np :=
  callB_of np C.2.2.2.2.1 (gws_good h0.1) rfl rfl rfl (C.ht _ h0.2.1) (C.ht _ hl) ⟨h0.2.2.1, h0.2.2.2.1, h0.2.2.2.2⟩ hR.ok
theorem go_callV {y2 : MD} {idx np d2 mc2 ms2 a ci : Nat} {As rest : List Value} {fs : List Value} {Q2 : RQ} {q : vw_C} (hd : gd y pc (.invokevirtual idx) 3 pc2) (h0 : CW0 y2 np) (hl : Cond.methodLink y.1.cls idx y2.1 ∈ gT) (hi : Cond.instanceMethod y2.1 ∈ gT) (hsel : Cond.selects q.1 y2.1 y2.1 ∈ gT) (hc : vwCl[ci]? = some q) (hR : gR d d2 y2.2.2.1)
    (hev : Ev G y2 d2 mc2 ms2 (.ref a :: As) f n Q2) (he : f a = ob ci fs) (h1 : G.2.1 ≤ a) (h2 : a < n) (hnp : As.length = np) (hst : st = As.reverse ++ .ref a :: rest) (hW : (rest.map fun v => v.category).sum ≤ 8) (hk1 : kc + mc2 ≤ mc) (hk2 : ks + ms2 ≤ ms)
    (kk : ∀ (r : Option Value) (f1 : Mem) (n1 : Nat), Q2 r f1 n1 → Go G y d mc ms Q (kc + mc2) (ks + ms2) pc2 ls (r.toList ++ rest) f1 n1) : Go G y d mc ms Q kc ks pc ls st f n := by
  obtain ⟨hd, rfl⟩ := hd
  subst hst
  intro p e s m args below meth c C H locs la hP hS hll
  refine g_after (va_runV (As := As) (rest := rest) ⟨C.1, C.2.1, C.2.2.1, C.2.2.2.1, C.2.2.2.2.1⟩ hev ⟨g_callB C h0 hl hR, C.ht _ hi, C.ht _ hsel⟩ ⟨g_blind, va_recv C.2.2.2.2.2.2.2.2.1.1 (hP.2.2.ob he hc h1 h2) (q0 := 0) hc rfl, fun U hU hWm => ⟨rfl, by rw [hU]; exact hP, C.2.2.2.2.2.2.2.2.1.warm hWm⟩⟩ rfl hnp hll.1 rfl (lv_room hW) hd ⟨hk1, hk2⟩) hS (fun r f1 n1 H1 locs1 hq hp hs => ?_)
  exact kk r f1 n1 hq p e s m args below meth c C H1 locs1 la hp hs hll
theorem go_callS {y2 : MD} {idx np d2 mc2 ms2 : Nat} {As rest : List Value} {Q2 : RQ} (hd : gd y pc (.invokestatic idx) 3 pc2) (h0 : CW0 y2 np) (hl : Cond.methodLink y.1.cls idx y2.1 ∈ gT) (hi : Cond.static y2.1 ∈ gT) (hR : gR d d2 y2.2.2.1)
    (hev : Ev G y2 d2 mc2 ms2 As f n Q2) (hnp : As.length = np) (hst : st = As.reverse ++ rest) (hW : (rest.map fun v => v.category).sum ≤ 8) (hk1 : kc + mc2 ≤ mc) (hk2 : ks + ms2 ≤ ms)
    (kk : ∀ (r : Option Value) (f1 : Mem) (n1 : Nat), Q2 r f1 n1 → Go G y d mc ms Q (kc + mc2) (ks + ms2) pc2 ls (r.toList ++ rest) f1 n1) : Go G y d mc ms Q kc ks pc ls st f n := by
  obtain ⟨hd, rfl⟩ := hd
  subst hst
  intro p e s m args below meth c C H locs la hP hS hll
  refine g_after (va_runS (As := As) (rest := rest) ⟨C.1, C.2.1, C.2.2.1, C.2.2.2.1, C.2.2.2.2.1⟩ hev ⟨g_callB C h0 hl hR, C.ht _ hi⟩ ⟨g_blind, fun U hU hWm => ⟨rfl, by rw [hU]; exact hP, C.2.2.2.2.2.2.2.2.1.warm hWm⟩⟩ rfl hnp hll.1 rfl (lv_room hW) hd ⟨hk1, hk2⟩) hS (fun r f1 n1 H1 locs1 hq hp hs => ?_)
  exact kk r f1 n1 hq p e s m args below meth c C H1 locs1 la hp hs hll
theorem go_callI {y2 : MD} {idx np d2 mc2 ms2 a : Nat} {As rest : List Value} {Q2 : RQ} (hd : gd y pc (.invokespecial idx) 3 pc2) (h0 : CW0 y2 np) (hl : Cond.methodLink y.1.cls idx y2.1 ∈ gT) (hi : Cond.instanceMethod y2.1 ∈ gT) (hnm : y2.1.name = "<init>") (hvv : y2.2.2.2 = none) (hR : gR d d2 y2.2.2.1)
    (hev : Ev G y2 d2 mc2 ms2 (.ref a :: As) f n Q2) (hnp : As.length = np) (hst : st = As.reverse ++ .ref a :: rest) (hW : (rest.map fun v => v.category).sum ≤ 8) (hk1 : kc + mc2 ≤ mc) (hk2 : ks + ms2 ≤ ms)
    (kk : ∀ (r : Option Value) (f1 : Mem) (n1 : Nat), Q2 r f1 n1 → Go G y d mc ms Q (kc + mc2) (ks + ms2) pc2 ls (r.toList ++ rest) f1 n1) : Go G y d mc ms Q kc ks pc ls st f n := by
  obtain ⟨hd, rfl⟩ := hd
  subst hst
  intro p e s m args below meth c C H locs la hP hS hll
  have hB := g_callB (mc := mc) (ms := ms) (mc2 := mc2) (ms2 := ms2) C h0 hl hR
  rw [hvv] at hB
  refine g_after (va_runI (As := As) (rest := rest) ⟨C.1, C.2.1, C.2.2.1, C.2.2.2.1, C.2.2.2.2.1⟩ hev ⟨hB, hnm, C.ht _ hi⟩ ⟨g_blind, fun U hU hWm => ⟨rfl, by rw [hU]; exact hP, C.2.2.2.2.2.2.2.2.1.warm hWm⟩⟩ rfl hnp hll.1 rfl (lv_room hW) hd ⟨hk1, hk2⟩) hS (fun r f1 n1 H1 locs1 hq hp hs => ?_)
  exact kk r f1 n1 hq p e s m args below meth c C H1 locs1 la hp hs hll
theorem g_callN {p : Program} {s : State} {m : MethodId} {args : Array Value} {meth : Method} {c : Code} (C : gC G y p s m args meth c) {y2 : MD} {np idx d2 mc2 ms2 : Nat} {host : String} (h0 : CW0 y2 np) (hl : (y.1.cls, idx, y2.1, host) ∈ gNm) (hR : gR d d2 y2.2.2.1) :
    va_CN (grm d mc ms) s args y.1.cls idx y2.1 host y2.2.1 y2.2.2.1 y2.2.2.2 (gws y2) (grm d2 mc2 ms2) mc2 ms2 np :=
  va_cnB np C.2.2.2.2.1 (gws_good h0.1) rfl rfl rfl (C.2.2.2.2.2.2.2.2.1.2.1 _ hl) (C.ht _ h0.2.1) ⟨h0.2.2.1, h0.2.2.2.1, h0.2.2.2.2⟩ hR.ok
theorem go_callSN {y2 : MD} {idx np d2 mc2 ms2 : Nat} {host : String} {As rest : List Value} {Q2 : RQ} (hd : gd y pc (.invokestatic idx) 3 pc2) (h0 : CW0 y2 np) (hl : (y.1.cls, idx, y2.1, host) ∈ gNm) (hi : Cond.static y2.1 ∈ gT) (hR : gR d d2 y2.2.2.1)
    (hev : Ev G y2 d2 mc2 ms2 As f n Q2) (hnp : As.length = np) (hst : st = As.reverse ++ rest) (hW : (rest.map fun v => v.category).sum ≤ 8) (hk1 : kc + mc2 ≤ mc) (hk2 : ks + ms2 ≤ ms)
    (kk : ∀ (r : Option Value) (f1 : Mem) (n1 : Nat), Q2 r f1 n1 → Go G y d mc ms Q (kc + mc2) (ks + ms2) pc2 ls (r.toList ++ rest) f1 n1) : Go G y d mc ms Q kc ks pc ls st f n := by
  obtain ⟨hd, rfl⟩ := hd
  subst hst
  intro p e s m args below meth c C H locs la hP hS hll
  refine g_after (va_runSN (As := As) (rest := rest) ⟨C.1, C.2.1, C.2.2.1, C.2.2.2.1, C.2.2.2.2.1⟩ hev ⟨g_callN C h0 hl hR, C.ht _ hi, trivial⟩ ⟨g_blind, fun U hU hWm => ⟨rfl, by rw [hU]; exact hP, C.2.2.2.2.2.2.2.2.1.warm hWm⟩⟩ rfl hnp hll.1 rfl (lv_room hW) hd ⟨hk1, hk2⟩) hS (fun r f1 n1 H1 locs1 hq hp hs => ?_)
  exact kk r f1 n1 hq p e s m args below meth c C H1 locs1 la hp hs hll
theorem go_callIN {y2 : MD} {idx np d2 mc2 ms2 a : Nat} {host : String} {As rest : List Value} {Q2 : RQ} (hd : gd y pc (.invokespecial idx) 3 pc2) (h0 : CW0 y2 np) (hl : (y.1.cls, idx, y2.1, host) ∈ gNm) (hi : Cond.instanceMethod y2.1 ∈ gT) (hnm : y2.1.name = "<init>") (hvv : y2.2.2.2 = none) (hR : gR d d2 y2.2.2.1)
    (hev : Ev G y2 d2 mc2 ms2 (.ref a :: As) f n Q2) (hnp : As.length = np) (hst : st = As.reverse ++ .ref a :: rest) (hW : (rest.map fun v => v.category).sum ≤ 8) (hk1 : kc + mc2 ≤ mc) (hk2 : ks + ms2 ≤ ms)
    (kk : ∀ (r : Option Value) (f1 : Mem) (n1 : Nat), Q2 r f1 n1 → Go G y d mc ms Q (kc + mc2) (ks + ms2) pc2 ls (r.toList ++ rest) f1 n1) : Go G y d mc ms Q kc ks pc ls st f n := by
  obtain ⟨hd, rfl⟩ := hd
  subst hst
  intro p e s m args below meth c C H locs la hP hS hll
  have hB := g_callN (mc := mc) (ms := ms) (mc2 := mc2) (ms2 := ms2) C h0 hl hR
  rw [hvv] at hB
  refine g_after (va_runIN (As := As) (rest := rest) ⟨C.1, C.2.1, C.2.2.1, C.2.2.2.1, C.2.2.2.2.1⟩ hev ⟨hB, hnm, C.ht _ hi⟩ ⟨g_blind, fun U hU hWm => ⟨rfl, by rw [hU]; exact hP, C.2.2.2.2.2.2.2.2.1.warm hWm⟩⟩ rfl hnp hll.1 rfl (lv_room hW) hd ⟨hk1, hk2⟩) hS (fun r f1 n1 H1 locs1 hq hp hs => ?_)
  exact kk r f1 n1 hq p e s m args below meth c C H1 locs1 la hp hs hll
/-- Object's own constructor -/
theorem go_obj {idx a : Nat} {rest : List Value} (hd : gd y pc (.invokespecial idx) 3 pc2) (hl : Cond.methodLink y.1.cls idx Lib.objectInit ∈ gT) (hi : Cond.instanceMethod Lib.objectInit ∈ gT) (hc : Cond.code Lib.objectInit ⟨#[0xb1]⟩ 1 none ∈ gT) (hW : (rest.map fun v => v.category).sum ≤ 8) (hdd : 1 ≤ d) (kk : Go G y d mc ms Q kc ks pc2 ls rest f n) : Go G y d mc ms Q kc ks pc ls (.ref a :: rest) f n := by
  obtain ⟨hd, rfl⟩ := hd
  intro p e s m args below meth c C H locs la hP hS hll
  refine W.objInit C.1 C.2.1 C.2.2.2.1 (C.ht _ hl) (C.ht _ hi) (C.ht _ hc) rfl (by rw [C.2.2.1]; exact hll.1) rfl hd hdd ?_ (kk p e s m args below meth c C H locs la hP hS hll)
  show 2 * 0 + _ + 12 ≤ 40 * d
  omega
/-- super.m(..) -/
theorem go_callP {y2 : MD} {idx np d2 mc2 ms2 a ci : Nat} {As rest : List Value} {fs : List Value} {Q2 : RQ} {q : vw_C} (hd : gd y pc (.invokespecial idx) 3 pc2) (h0 : CW0 y2 np) (hl : Cond.methodLink y.1.cls idx y2.1 ∈ gT) (hi : Cond.instanceMethod y2.1 ∈ gT) (hsm : Cond.sameMethod y2.1.cls y2.1.cls y2.1.name y2.1.desc ∈ gT) (hsup : Cond.superclass y.1.cls y2.1.cls ∈ gT) (hnm : y2.1.name ≠ "<init>") (hc : vwCl[ci]? = some q) (hR : gR d d2 y2.2.2.1)
    (hev : Ev G y2 d2 mc2 ms2 (.ref a :: As) f n Q2) (he : f a = ob ci fs) (h1 : G.2.1 ≤ a) (h2 : a < n) (hnp : As.length = np) (hst : st = As.reverse ++ .ref a :: rest) (hW : (rest.map fun v => v.category).sum ≤ 8) (hk1 : kc + mc2 ≤ mc) (hk2 : ks + ms2 ≤ ms)
    (kk : ∀ (r : Option Value) (f1 : Mem) (n1 : Nat), Q2 r f1 n1 → Go G y d mc ms Q (kc + mc2) (ks + ms2) pc2 ls (r.toList ++ rest) f1 n1) : Go G y d mc ms Q kc ks pc ls st f n := by
  obtain ⟨hd, rfl⟩ := hd
  subst hst
  intro p e s m args below meth c C H locs la hP hS hll
  have hG : GoodIn (gws y) (va_wsSU y.1.cls idx y2.1 (gws y2)) := by
    intro w hw
    have key : ∀ w ∈ gT, w ∈ gws y ∧ ((w.onTables && w.keeps) = true ∨ ∃ ty, w = .arrayClass ty) := fun w h => ⟨List.mem_cons_of_mem _ h, (gT_good w h).2⟩
    unfold va_wsSU at hw
    rcases List.mem_append.mp hw with h | h
    · simp only [List.mem_cons, List.not_mem_nil, or_false] at h
      rcases h with rfl | rfl | rfl | rfl | rfl
      · exact key _ hl
      · exact key _ hsm
      · exact key _ hsup
      · exact key _ hi
      · exact key _ h0.2.1
    · exact gws_good h0.1 w h
  refine g_after (va_runSU (As := As) (rest := rest) (C.2.2.2.2.2.2.2.2.1.1.1 ci _ hc).2 ⟨C.1, C.2.1, C.2.2.1, C.2.2.2.1, C.2.2.2.2.1⟩ hev (va_cwSU np C.2.2.2.2.1 hG rfl rfl rfl ⟨hnm, h0.2.2.2.2⟩ hR.ok) ⟨g_blind, va_recv C.2.2.2.2.2.2.2.2.1.1 (hP.2.2.ob he hc h1 h2) (q0 := 0) hc rfl, fun U hU hWm => ⟨rfl, by rw [hU]; exact hP, C.2.2.2.2.2.2.2.2.1.warm hWm⟩⟩ rfl hnp hll.1 rfl (lv_room hW) hd ⟨hk1, hk2⟩) hS (fun r f1 n1 H1 locs1 hq hp hs => ?_)
  exact kk r f1 n1 hq p e s m args below meth c C H1 locs1 la hp hs hll
/-- a virtual call by the name x, of an object whose class takes y2 for it -/
theorem go_callO {y2 : MD} {x : MethodName} {idx np d2 mc2 ms2 a ci : Nat} {b0 : ByteArray} {m0 : Nat} {r0 : Option FieldType} {As rest : List Value} {fs : List Value} {Q2 : RQ} {q : vw_C} (hd : gd y pc (.invokevirtual idx) 3 pc2) (h0 : CW0 y2 np) (hl : Cond.methodLink y.1.cls idx x ∈ gT) (hsm : Cond.sameMethod x.cls x.cls x.name x.desc ∈ gT) (hix : Cond.instanceMethod x ∈ gT) (hcx : Cond.code x b0 m0 r0 ∈ gT) (hi : Cond.instanceMethod y2.1 ∈ gT) (hsel : Cond.selects q.1 x y2.1 ∈ gT) (hx : x.cls ≠ "java/lang/invoke/MethodHandle" ∧ x.cls ≠ "java/lang/invoke/VarHandle" ∧ (parseMethodDescriptor x.desc).map (fun d => d.parameters.length) = some np) (hc : vwCl[ci]? = some q) (hR : gR d d2 y2.2.2.1)
    (hev : Ev G y2 d2 mc2 ms2 (.ref a :: As) f n Q2) (he : f a = ob ci fs) (h1 : G.2.1 ≤ a) (h2 : a < n) (hnp : As.length = np) (hst : st = As.reverse ++ .ref a :: rest) (hW : (rest.map fun v => v.category).sum ≤ 8) (hk1 : kc + mc2 ≤ mc) (hk2 : ks + ms2 ≤ ms)
    (kk : ∀ (r : Option Value) (f1 : Mem) (n1 : Nat), Q2 r f1 n1 → Go G y d mc ms Q (kc + mc2) (ks + ms2) pc2 ls (r.toList ++ rest) f1 n1) : Go G y d mc ms Q kc ks pc ls st f n := by
  obtain ⟨hd, rfl⟩ := hd
  subst hst
  intro p e s m args below meth c C H locs la hP hS hll
  have hG : GoodIn (gws y) (va_wsO y.1.cls idx q.1 x.cls x y2.1 (gws y2)) := by
    intro w hw
    have key : ∀ w ∈ gT, w ∈ gws y ∧ ((w.onTables && w.keeps) = true ∨ ∃ ty, w = .arrayClass ty) := fun w h => ⟨List.mem_cons_of_mem _ h, (gT_good w h).2⟩
    unfold va_wsO at hw
    rcases List.mem_append.mp hw with h | h
    · simp only [List.mem_cons, List.not_mem_nil, or_false] at h
      rcases h with rfl | rfl | rfl | rfl | rfl | rfl
      · exact key _ hl
      · exact key _ hsm
      · exact key _ hix
      · exact key _ hsel
      · exact key _ hi
      · exact key _ h0.2.1
    · exact gws_good h0.1 w h
  refine g_after (va_runU (As := As) (rest := rest) ⟨C.1, C.2.1, C.2.2.1, C.2.2.2.1, C.2.2.2.2.1⟩ hev (va_cwO np C.2.2.2.2.1 hG rfl rfl rfl (List.mem_cons_of_mem _ hcx) hx hR.ok) ⟨g_blind, va_recv C.2.2.2.2.2.2.2.2.1.1 (hP.2.2.ob he hc h1 h2) (q0 := 0) hc rfl, fun U hU hWm => ⟨rfl, by rw [hU]; exact hP, C.2.2.2.2.2.2.2.2.1.warm hWm⟩⟩ rfl hnp hll.1 rfl (lv_room hW) hd ⟨hk1, hk2⟩) hS (fun r f1 n1 H1 locs1 hq hp hs => ?_)
  exact kk r f1 n1 hq p e s m args below meth c C H1 locs1 la hp hs hll
/-- the locals at the entry -/
def ge : List Value → List (Option Value)
  | [] => []
  | v :: l => if v.category = 2 then some v :: none :: ge l else some v :: ge l
theorem ge_args : ∀ (vs : List Value) (i : Nat) (q : Nat × Value), q ∈ gl i (ge vs) → q ∈ lv_args i vs := by
  intro vs
  induction vs with
  | nil => intro i q h; cases h
  | cons v l ih =>
    intro i q h
    unfold ge at h
    unfold lv_args
    by_cases hv : v.category = 2
    · rw [if_pos hv] at h
      rcases List.mem_cons.mp h with rfl | h
      · simp
      · have := ih (i + 2) q h
        simp [hv, this]
    · rw [if_neg hv] at h
      rcases List.mem_cons.mp h with rfl | h
      · simp
      · have := ih (i + 1) q h
        have hv1 : v.category = 1 := by rcases lv_cat v with z | z; exact z; exact absurd z hv
        simp [hv1, this]
theorem gl_none : ∀ (k i : Nat), gl i (List.replicate k none) = []
  | 0, _ => rfl
  | k + 1, i => gl_none k (i + 1)
theorem gl_app : ∀ (a b : List (Option Value)) (i : Nat), gl i (a ++ b) = gl i a ++ gl (i + a.length) b
  | [], b, i => by simp [gl]
  | none :: l, b, i => by
    have := gl_app l b (i + 1)
    simp only [List.cons_append, gl, this, List.length_cons]
    rw [show i + 1 + l.length = i + (l.length + 1) by omega]
  | some v :: l, b, i => by
    have := gl_app l b (i + 1)
    simp only [List.cons_append, gl, this, List.length_cons]
    rw [show i + 1 + l.length = i + (l.length + 1) by omega]
/-- a method's contract out of its walk -/
theorem ev_of {as : List Value} (hp : plainName y.1.cls = true) (hlen : (lg_sl as).length ≤ y.2.2.1) (hl : ge as ++ List.replicate (y.2.2.1 - (ge as).length) none = ls) (k : G.2.1 ≤ n → Go G y d mc ms Q 0 0 0 ls [] f n) : Ev G y d mc ms as f n Q := by
  refine Met.ofW (cc := y.2.1) (maxL := y.2.2.1) (ret := y.2.2.2) hp rfl ?_
  intro p e s m args below meth c s₁ B hml hv
  obtain ⟨rfl, hP, hK⟩ := hv
  have hle := lv_entry as hlen
  rw [lg_entry_eq]
  have hb0 : G.2.1 ≤ n := hP.1
  refine k hb0 p e s m _ below meth c ⟨B.exec, B.bytes, hml, findClass_of_methodNamed B.named, atoms_spec (ws := gws y) B.pre, B.returns, B.notSynchronized, (name_of_methodNamed B.named B.method).1, hK, by rw [hP.2.1]; exact hb0⟩ s.heap [] _ hP va_S.rf ?_
  refine ⟨hle.1, hle.2.1, fun q hq => hle.2.2 q ?_⟩
  rw [← hl, gl_app, gl_none, List.append_nil] at hq
  exact ge_args as 0 q hq
end GOCALL
