/-! Calls in short: what a call asks of the tables, in one word each; rows for methods that only read. -/
def VL (own : String) (idx ci : Nat) (y2 : MD) (np : Nat) : Prop := CW0 y2 np ∧ Cond.methodLink own idx y2.1 ∈ gT ∧ Cond.instanceMethod y2.1 ∈ gT ∧ ∃ q : vw_C, vwCl[ci]? = some q ∧ Cond.selects q.1 y2.1 y2.1 ∈ gT
def SL (own : String) (idx : Nat) (y2 : MD) (np : Nat) : Prop := CW0 y2 np ∧ Cond.static y2.1 ∈ gT ∧ (Cond.methodLink own idx y2.1 ∈ gT ∨ ∃ host, (own, idx, y2.1, host) ∈ gNm)
def IL (own : String) (idx : Nat) (y2 : MD) (np : Nat) : Prop := CW0 y2 np ∧ Cond.instanceMethod y2.1 ∈ gT ∧ y2.1.name = "<init>" ∧ y2.2.2.2 = none ∧ (Cond.methodLink own idx y2.1 ∈ gT ∨ ∃ host, (own, idx, y2.1, host) ∈ gNm)
def PL (own : String) (idx : Nat) (y2 : MD) (np : Nat) : Prop := CW0 y2 np ∧ Cond.methodLink own idx y2.1 ∈ gT ∧ Cond.instanceMethod y2.1 ∈ gT ∧ Cond.sameMethod y2.1.cls y2.1.cls y2.1.name y2.1.desc ∈ gT ∧ Cond.superclass own y2.1.cls ∈ gT ∧ y2.1.name ≠ "<init>"
def OL (own : String) (idx ci : Nat) (x : MD) (y2 : MD) (np : Nat) : Prop := CW0 y2 np ∧ CW0 x np ∧ Cond.methodLink own idx x.1 ∈ gT ∧ Cond.sameMethod x.1.cls x.1.cls x.1.name x.1.desc ∈ gT ∧ Cond.instanceMethod x.1 ∈ gT ∧ Cond.instanceMethod y2.1 ∈ gT ∧ ∃ q : vw_C, vwCl[ci]? = some q ∧ Cond.selects q.1 x.1 y2.1 ∈ gT
section GOSHORT
variable {G : GX} {y : MD} {d mc ms : Nat} {Q : RQ} {kc ks pc pc2 : Nat} {ls ls' : List (Option Value)} {st : List Value} {f : Mem} {n : Nat}
theorem go_V {y2 : MD} {idx np d2 mc2 ms2 a ci : Nat} {fs : List Value} {Q2 : RQ} (As rest : List Value) (hd : gd y pc (.invokevirtual idx) 3 pc2) (vl : VL y.1.cls idx ci y2 np) (hR : gR d d2 y2.2.2.1)
    (hev : Ev G y2 d2 mc2 ms2 (.ref a :: As) f n Q2) (he : f a = ob ci fs) (h1 : G.2.1 ≤ a) (h2 : a < n) (hnp : As.length = np) (hst : st = As.reverse ++ .ref a :: rest) (hW : (rest.map fun v => v.category).sum ≤ 8) (hk1 : kc + mc2 ≤ mc) (hk2 : ks + ms2 ≤ ms)
    (kk : ∀ (r : Option Value) (f1 : Mem) (n1 : Nat), Q2 r f1 n1 → Go G y d mc ms Q (kc + mc2) (ks + ms2) pc2 ls (r.toList ++ rest) f1 n1) : Go G y d mc ms Q kc ks pc ls st f n := by
  obtain ⟨h0, hl, hi, q, hc, hsel⟩ := vl
  exact go_callV hd h0 hl hi hsel hc hR hev he h1 h2 hnp hst hW hk1 hk2 kk
theorem go_Vr {y2 : MD} {idx np d2 a ci : Nat} {fs : List Value} {v : Value} (As rest : List Value) (hd : gd y pc (.invokevirtual idx) 3 pc2) (vl : VL y.1.cls idx ci y2 np) (hR : gR d d2 y2.2.2.1)
    (hev : Ev G y2 d2 0 0 (.ref a :: As) f n (RD v f n)) (he : f a = ob ci fs) (h1 : G.2.1 ≤ a) (h2 : a < n) (hnp : As.length = np) (hst : st = As.reverse ++ .ref a :: rest) (hW : (rest.map fun v => v.category).sum ≤ 8) (hk1 : kc ≤ mc) (hk2 : ks ≤ ms)
    (kk : Go G y d mc ms Q kc ks pc2 ls (v :: rest) f n) : Go G y d mc ms Q kc ks pc ls st f n := by
  refine go_V As rest hd vl hR hev he h1 h2 hnp hst hW hk1 hk2 (fun r f1 n1 h => ?_)
  obtain ⟨rfl, rfl, rfl⟩ := h
  exact kk
theorem go_S {y2 : MD} {idx np d2 mc2 ms2 : Nat} {Q2 : RQ} (As rest : List Value) (hd : gd y pc (.invokestatic idx) 3 pc2) (vl : SL y.1.cls idx y2 np) (hR : gR d d2 y2.2.2.1)
    (hev : Ev G y2 d2 mc2 ms2 As f n Q2) (hnp : As.length = np) (hst : st = As.reverse ++ rest) (hW : (rest.map fun v => v.category).sum ≤ 8) (hk1 : kc + mc2 ≤ mc) (hk2 : ks + ms2 ≤ ms)
    (kk : ∀ (r : Option Value) (f1 : Mem) (n1 : Nat), Q2 r f1 n1 → Go G y d mc ms Q (kc + mc2) (ks + ms2) pc2 ls (r.toList ++ rest) f1 n1) : Go G y d mc ms Q kc ks pc ls st f n := by
  obtain ⟨h0, hs, hl | ⟨host, hl⟩⟩ := vl
  · exact go_callS hd h0 hl hs hR hev hnp hst hW hk1 hk2 kk
  · exact go_callSN hd h0 hl hs hR hev hnp hst hW hk1 hk2 kk
theorem go_Sr {y2 : MD} {idx np d2 : Nat} {v : Value} (As rest : List Value) (hd : gd y pc (.invokestatic idx) 3 pc2) (vl : SL y.1.cls idx y2 np) (hR : gR d d2 y2.2.2.1)
    (hev : Ev G y2 d2 0 0 As f n (RD v f n)) (hnp : As.length = np) (hst : st = As.reverse ++ rest) (hW : (rest.map fun v => v.category).sum ≤ 8) (hk1 : kc ≤ mc) (hk2 : ks ≤ ms)
    (kk : Go G y d mc ms Q kc ks pc2 ls (v :: rest) f n) : Go G y d mc ms Q kc ks pc ls st f n := by
  refine go_S As rest hd vl hR hev hnp hst hW hk1 hk2 (fun r f1 n1 h => ?_)
  obtain ⟨rfl, rfl, rfl⟩ := h
  exact kk
theorem go_I {y2 : MD} {idx np d2 mc2 ms2 a : Nat} {Q2 : RQ} (As rest : List Value) (hd : gd y pc (.invokespecial idx) 3 pc2) (vl : IL y.1.cls idx y2 np) (hR : gR d d2 y2.2.2.1)
    (hev : Ev G y2 d2 mc2 ms2 (.ref a :: As) f n Q2) (hnp : As.length = np) (hst : st = As.reverse ++ .ref a :: rest) (hW : (rest.map fun v => v.category).sum ≤ 8) (hk1 : kc + mc2 ≤ mc) (hk2 : ks + ms2 ≤ ms)
    (kk : ∀ (r : Option Value) (f1 : Mem) (n1 : Nat), Q2 r f1 n1 → Go G y d mc ms Q (kc + mc2) (ks + ms2) pc2 ls (r.toList ++ rest) f1 n1) : Go G y d mc ms Q kc ks pc ls st f n := by
  obtain ⟨h0, hi, hn, hv, hl | ⟨host, hl⟩⟩ := vl
  · exact go_callI hd h0 hl hi hn hv hR hev hnp hst hW hk1 hk2 kk
  · exact go_callIN hd h0 hl hi hn hv hR hev hnp hst hW hk1 hk2 kk
theorem go_Pr {y2 : MD} {idx np d2 a ci : Nat} {fs : List Value} {v : Value} (As rest : List Value) (hd : gd y pc (.invokespecial idx) 3 pc2) (vl : PL y.1.cls idx y2 np) (hci : ci < 13) (hR : gR d d2 y2.2.2.1)
    (hev : Ev G y2 d2 0 0 (.ref a :: As) f n (RD v f n)) (he : f a = ob ci fs) (h1 : G.2.1 ≤ a) (h2 : a < n) (hnp : As.length = np) (hst : st = As.reverse ++ .ref a :: rest) (hW : (rest.map fun v => v.category).sum ≤ 8) (hk1 : kc ≤ mc) (hk2 : ks ≤ ms)
    (kk : Go G y d mc ms Q kc ks pc2 ls (v :: rest) f n) : Go G y d mc ms Q kc ks pc ls st f n := by
  obtain ⟨h0, hl, hi, hsm, hsup, hnm⟩ := vl
  have hc : vwCl[ci]? = some vwCl[ci] := List.getElem?_eq_getElem hci
  refine go_callP hd h0 hl hi hsm hsup hnm hc hR hev he h1 h2 hnp hst hW hk1 hk2 (fun r f1 n1 h => ?_)
  obtain ⟨rfl, rfl, rfl⟩ := h
  exact kk
theorem go_O {x y2 : MD} {idx np d2 mc2 ms2 a ci : Nat} {fs : List Value} {Q2 : RQ} (As rest : List Value) (hd : gd y pc (.invokevirtual idx) 3 pc2) (vl : OL y.1.cls idx ci x y2 np) (hR : gR d d2 y2.2.2.1)
    (hev : Ev G y2 d2 mc2 ms2 (.ref a :: As) f n Q2) (he : f a = ob ci fs) (h1 : G.2.1 ≤ a) (h2 : a < n) (hnp : As.length = np) (hst : st = As.reverse ++ .ref a :: rest) (hW : (rest.map fun v => v.category).sum ≤ 8) (hk1 : kc + mc2 ≤ mc) (hk2 : ks + ms2 ≤ ms)
    (kk : ∀ (r : Option Value) (f1 : Mem) (n1 : Nat), Q2 r f1 n1 → Go G y d mc ms Q (kc + mc2) (ks + ms2) pc2 ls (r.toList ++ rest) f1 n1) : Go G y d mc ms Q kc ks pc ls st f n := by
  obtain ⟨h0, hx, hl, hsm, hix, hi, q, hc, hsel⟩ := vl
  exact go_callO hd h0 hl hsm hix hx.1 hi hsel ⟨hx.2.2.1, hx.2.2.2.1, hx.2.2.2.2⟩ hc hR hev he h1 h2 hnp hst hW hk1 hk2 kk
/-- another word for the top of the stack, for the stack, the locals, the memory -/
theorem go_tp {x z : Int32} (h : x = z) (k : Go G y d mc ms Q kc ks pc ls (.int z :: st) f n) : Go G y d mc ms Q kc ks pc ls (.int x :: st) f n := h ▸ k
theorem go_tl {x z : Int64} (h : x = z) (k : Go G y d mc ms Q kc ks pc ls (.long z :: st) f n) : Go G y d mc ms Q kc ks pc ls (.long x :: st) f n := h ▸ k
theorem go_mem {f' : Mem} (h : f = f') (k : Go G y d mc ms Q kc ks pc ls st f' n) : Go G y d mc ms Q kc ks pc ls st f n := h ▸ k
theorem go_ls (h : ls = ls') (k : Go G y d mc ms Q kc ks pc ls' st f n) : Go G y d mc ms Q kc ks pc ls st f n := h ▸ k
end GOSHORT
theorem fl_in (C : String) (T : u_T) (N : Nat) (h : ∀ k, k < N → u_lay C T k ∈ gT) : ∀ w ∈ u_ws C T N, w ∈ gT := by
  intro w hw
  obtain ⟨k, hk, rfl⟩ := List.mem_map.mp hw
  exact h k (List.mem_range.mp hk)
