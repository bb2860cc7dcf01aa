/-- as ev_of, for the JDK's own -/
theorem ev_ofJ {G : GX} {y : MD} {d mc ms : Nat} {Q : RQ} {ls : List (Option Value)} {f : Mem} {n : Nat} {as : List Value} (hp : plainFor y.1 = true) (hlen : (lg_sl as).length ≤ y.2.2.1) (hl : ge as ++ List.replicate (y.2.2.1 - (ge as).length) none = ls) (k : G.2.1 ≤ n → Go G y d mc ms Q 0 0 0 ls [] f n) : Ev G y d mc ms as f n Q := by
  refine va_MetF (cc := y.2.1) (maxL := y.2.2.1) (ret := y.2.2.2) hp rfl ?_
  intro p e s m args below meth c s₁ B hml hv
  obtain ⟨rfl, hP, hK⟩ := hv
  have hle := lv_entry as hlen
  rw [lg_entry_eq]
  have hb0 : G.2.1 ≤ n := hP.1
  refine k hb0 p e s m _ below meth c ⟨B.exec, B.bytes, hml, findClass_of_methodNamed B.named, atoms_spec (ws := gws y) B.pre, B.returns, B.notSynchronized, (name_of_methodNamed B.named B.method).1, hK, by rw [hP.2.1]; exact hb0⟩ s.heap [] _ hP va_S.rf ?_
  refine ⟨hle.1, hle.2.1, fun q hq => hle.2.2 q ?_⟩
  rw [← hl, gl_app, gl_none, List.append_nil] at hq
  exact ge_args as 0 q hq
