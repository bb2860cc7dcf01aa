theorem dL_element_0 : gd mL_element 0 (.aload_n 3) 1 1 := ⟨by decide +kernel, rfl⟩
theorem dL_element_1 : gd mL_element 1 (.iconst 0) 1 2 := ⟨by decide +kernel, rfl⟩
theorem dL_element_2 : gd mL_element 2 (.aload_n 0) 1 3 := ⟨by decide +kernel, rfl⟩
theorem dL_element_3 : gd mL_element 3 (.iload_n 1) 1 4 := ⟨by decide +kernel, rfl⟩
theorem dL_element_4 : gd mL_element 4 (.iload_n 2) 1 5 := ⟨by decide +kernel, rfl⟩
theorem dL_element_5 : gd mL_element 5 (.invokevirtual 7) 3 8 := ⟨by decide +kernel, rfl⟩
theorem dL_element_8 : gd mL_element 8 (.lastore) 1 9 := ⟨by decide +kernel, rfl⟩
theorem dL_element_9 : gj mL_element 9 (.goto 11) (11) 12 20 := ⟨by decide +kernel, rfl, by decide⟩
theorem dL_element_12 : gd mL_element 12 (.astore 4) 2 14 := ⟨by decide +kernel, rfl⟩
theorem dL_element_14 : gd mL_element 14 (.iconst 1) 1 15 := ⟨by decide +kernel, rfl⟩
theorem dL_element_15 : decode mL_element.2.1 15 = .ok (.ireturn, 1) := by decide +kernel
theorem dL_element_16 : gd mL_element 16 (.astore 4) 2 18 := ⟨by decide +kernel, rfl⟩
theorem dL_element_18 : gd mL_element 18 (.iconst 2) 1 19 := ⟨by decide +kernel, rfl⟩
theorem dL_element_19 : decode mL_element.2.1 19 = .ok (.ireturn, 1) := by decide +kernel
theorem dL_element_20 : gd mL_element 20 (.iconst 0) 1 21 := ⟨by decide +kernel, rfl⟩
theorem dL_element_21 : decode mL_element.2.1 21 = .ok (.ireturn, 1) := by decide +kernel
section Z6
variable {G : GX} {f : Mem} {x s0 i0 t w os rs n a oA : Nat} {b : Int32} {Os Rs : Nat → Option Nat} {A : Nat → Nat → Int32} {g0 : Nat → Int64}
def leQ (G : GX) (f : Mem) (n : Nat) (Rs : Nat → Option Nat) (A : Nat → Nat → Int32) (d i : Int32) (oA : Nat) (g0 : Nat → Int64) : RQ := fun r f1 n1 =>
  (r = some (.int 0) ∧ ∃ v, elQ G f n Rs A d i (some (.long v)) f n ∧ f1 = va_up f oA (ja G 1 (vp_updL g0 0 v)) ∧ n1 = n) ∨
  (r = some (.int 1) ∧ ¬ okr d 0 7 = true ∧ (∀ z, z < n → f1 z = f z) ∧ n ≤ n1) ∨
  (r = some (.int 2) ∧ okr d 0 7 = true ∧ ¬ (A 8 d.toNatClampNeg = 2 ∧ okp (A 12 d.toNatClampNeg).toNatClampNeg i = true) ∧ (∀ z, z < n → f1 z = f z) ∧ n ≤ n1)
set_option maxHeartbeats 4000000 in
set_option maxRecDepth 100000 in
theorem t_L_element (hX : xsK G f x s0 i0 t w os rs n b Os Rs) (hS : ∀ d, d < 8 → shD G f n Os Rs A d) {d i : Int32} (ho : f oA = ja G 1 g0) (ho1 : G.2.1 ≤ oA) (ho2 : oA < n) : EvH G mL_element [(0, 9, 12, 13), (0, 9, 16, 15)] 7 1 6 [.ref x, .int d, .int i, .ref oA] f n (leQ G f n Rs A d i oA g0) := by
  refine eh_of (by decide) (Nat.le_of_ble_eq_true rfl) (ls := [some (.ref x), some (.int d), some (.int i), some (.ref oA), none]) rfl (fun hb p e s m args below meth c C X hT => ?_)
  refine gz_aload_n C dL_element_0 rfl ?_
  refine gz_iconst C (v := 0) dL_element_1 rfl ?_
  refine gz_aload_n C dL_element_2 rfl ?_
  refine gz_iload_n C dL_element_3 rfl ?_
  refine gz_iload_n C dL_element_4 rfl ?_
  refine gz_VT C X [.int d, .int i] [.int 0, .ref oA] dL_element_5 vl_L_7 ⟨(Nat.le_of_ble_eq_true rfl), (Nat.le_of_ble_eq_true rfl), by decide⟩ (t_X11_element hX hS) hX.1 hX.2.1 hX.2.2.1 rfl rfl (Nat.le_of_ble_eq_true rfl) (Nat.le_of_ble_eq_true rfl) (Nat.le_of_ble_eq_true rfl) (fun r f1 n1 hq => ?_) (fun E ce q9 n1 H1 locs1 la y1 y2 y3 y4 y5 y6 y7 y8 => ?_)
  · have hq2 := hq
    obtain ⟨rfl, rfl, jd, bd, ar, R, gg, hjd, rfl, e8, eR, hr, eK, hi, rfl⟩ := hq
    refine gz_last C dL_element_8 ho ho1 ho2 (vp_in_nI (n := 0) (N := 1) (by decide) (by decide)) ?_
    refine gz_goto C dL_element_9 ?_
    refine gz_iconst C (v := 0) dL_element_20 rfl ?_
    exact gt_iret C dL_element_21 rfl (Nat.le_of_ble_eq_true rfl) (Nat.le_of_ble_eq_true rfl) (Or.inl ⟨rfl, _, hq2, rfl, rfl⟩)
  · rcases y1 with ⟨z1, rfl⟩ | ⟨z1, z2, rfl⟩
    · refine gt_catch C X (E := "java/lang/IllegalArgumentException") (name := "java/lang/IllegalArgumentException") (pre := []) (x := ⟨0, 9, 12, 13⟩) (suf := [⟨0, 9, 16, 15⟩]) hT (fun z hz => nomatch hz) rfl (by decide) wm_1067 (by decide) y3 y4 y5 y6 y7 y8 ?_
      refine gz_astore C (ls' := [some (.ref x), some (.int d), some (.int i), some (.ref oA), some (.ref q9)]) dL_element_12 ⟨by decide, rfl, rfl⟩ ?_
      refine gz_iconst C (v := 1) dL_element_14 rfl ?_
      exact gt_iret C dL_element_15 rfl (Nat.le_of_ble_eq_true rfl) (Nat.le_of_ble_eq_true rfl) (Or.inr (Or.inl ⟨rfl, z1, fun z hz => gcut_at hz, y2⟩))
    · refine gt_catch C X (E := "java/lang/IllegalStateException") (name := "java/lang/IllegalStateException") (pre := [⟨0, 9, 12, 13⟩]) (x := ⟨0, 9, 16, 15⟩) (suf := []) hT (fun z hz => ?_) rfl (by decide) wm_1068 (by decide) y3 y4 y5 y6 y7 y8 ?_
      · simp only [List.mem_cons, List.not_mem_nil, or_false] at hz
        rcases hz with rfl
        exact Or.inr ⟨by decide, "java/lang/IllegalArgumentException", wm_1067, by decide⟩
      refine gz_astore C (ls' := [some (.ref x), some (.int d), some (.int i), some (.ref oA), some (.ref q9)]) dL_element_16 ⟨by decide, rfl, rfl⟩ ?_
      refine gz_iconst C (v := 2) dL_element_18 rfl ?_
      exact gt_iret C dL_element_19 rfl (Nat.le_of_ble_eq_true rfl) (Nat.le_of_ble_eq_true rfl) (Or.inr (Or.inr ⟨rfl, z1, z2, fun z hz => gcut_at hz, y2⟩))
end Z6
