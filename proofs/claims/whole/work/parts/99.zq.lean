/-! THE CLAIM OUT OF ONE WALK OF THE LAW'S BODY. Your part is whole_start (and what it stands on); all else here is the same for every law, but numbers. -/
def R_law : String := "TwoToALockerLaw"
def lw_P (b : Addr) (xs : List Int32) (args : Array Value) (s : State) : Prop := args = #[.ref b] ∧ s.IntsAt b xs ∧ xs.length ≤ 3072 ∧ (Jvm.Cond.and given_1 narrow_1).before args s = true
def lw_Q (_ : Array Value) (s : State) (o : Outcome) (t : State) : Prop := o = .returned (some (.int 1)) ∧ Framed s o t [] 601024 7293034
def lw_Z (below : List Frame) (a : Array Value) (s : State) : State → Prop := fun t => ∃ o, t.status = .running ∧ Ended t below o ∧ lw_Q a s o t
/-- the law's own end, with 1 on the stack, nothing written that was there before, its room as the claim has it -/
theorem lw_ret {p : Program} {l : Launch} {e : Env} {s : State} {m : MethodId} {below : List Frame} {meth : Method} {c : Code} {b : Nat} (hx : p.tables.exec = Jvm.exec) (hb : c.code = code) (hr : meth.sig.returnType = ret) (hlocks : meth.locks = false) {pc : Nat} {H : Heap} {ls : Array Slot} (hdg : decode code pc = .ok (.ireturn, 1)) : W p l e room_1 s m #[Value.ref b] below meth c H [] 601024 7293034 (lw_Z below #[Value.ref b] s) (F0 m pc ls [.int 1]) := by
  intro T hT X
  obtain ⟨fs, hret, hrun, hended, hW, hframe⟩ := X.leave (v := some (.int 1)) (hlocks := hlocks) (fun h => by rw [hr] at h; cases h)
  have hmeth' : T.vm.method? m = some meth := X.method'
  refine ⟨T.setFrames fs, ?_, .returned (some (.int 1)), hrun, hended, rfl, ⟨_, rfl⟩, hW, hframe⟩
  jvm_step X.here [X.here.top, hx, hb, hdg, hmeth', hr, ret, narrow_b1]
  (try refine ⟨rfl, ?_⟩); (try refine ⟨rfl, ?_⟩)
  first | (intro acts; rw [hret _ acts rfl rfl rfl]) | rw [hret _ _ rfl rfl rfl]
  exact Steps.refl _
/-- what holds at the law's entry: the machine, the code, the tables' words (any of lw_tbl by 'hts w (by decide +kernel)'), the script of L ints xs at the cell b, what the Statement gives of the start (any of its parts by flat_of_before) -/
def lw_At (p : Program) (s : State) (m : MethodId) (meth : Method) (c : Code) (b L : Nat) (xs : Nat → Int32) : Prop :=
  p.tables.exec = Jvm.exec ∧ c.code = code ∧ meth.sig.returnType = ret ∧ c.maxLocals = 8 ∧ s.vm.findClass R_law = some m.cls ∧ (∀ w ∈ lw_tbl, w.before #[Value.ref b] s = true) ∧ va_X b L xs s s.heap ∧ b < s.heap.size ∧ meth.locks = false ∧ (Jvm.Cond.and given_1 narrow_1).before #[Value.ref b] s = true
section LQ
variable {G : GX} {p : Program} {e : Env} {s : State} {m : MethodId} {below : List Frame} {meth : Method} {c : Code} {nm : String} {b L x : Nat} {xs : Nat → Int32}
theorem lw_end {kc ks n : Nat} {f : Mem} {ls : List (Option Value)} (C : zC G (mL_law nm) p s m #[Value.ref b] meth c) (hG : G.2.1 = s.heap.size) (h1 : kc ≤ 601024) (h2 : ks ≤ 7293034) : Gz G (mL_law nm) room_1 (lw_Z below #[Value.ref b] s) p e s m #[Value.ref b] below meth c kc ks 1662 ls [] f n := by
  intro H locs la hP hS hl
  refine lv_iconst (v := 1) C.1 C.2.1 eL_1662 rfl ?_
  refine va_forget (fun q hq => by rw [← hG]; exact hS.2.2 q hq) ?_
  refine W.widen h1 h2 ?_
  exact lw_ret C.1 C.2.1 C.2.2.2.2.2.1 C.2.2.2.2.2.2.1 eL_1663
theorem sub6 {i : Nat} (hL : L ≤ 3072) (hi : i < 2 ^ 31) : Int32.ofNat L - 6 < nI i ↔ L < i + 6 := by
  have e : (Int32.ofNat L - 6).toInt = (L : Int) - 6 := by
    show (nI L - nI 6).toInt = _
    rw [Int32.toInt_sub, nI_toInt (by omega), nI_toInt (by omega)]
    exact Int.bmod_eq_of_le (by omega) (by omega)
  rw [i32_lt, e, nI_toInt hi]
  omega
set_option maxHeartbeats 4000000 in
set_option maxRecDepth 100000 in
theorem lw_loop (C : zC G (mL_law nm) p s m #[Value.ref b] meth c) (X : gX G s) (hX : va_X b L xs s s.heap) (hb : b < s.heap.size) (hG : G.2.1 = s.heap.size) (hx : G.2.1 ≤ x) (hL : L ≤ 3072) (hPL : PLeq) : ∀ (μ t : Nat) (f : Mem) (n : Nat), L < 6 * (t + μ) + 6 → 6 * t ≤ L → JJ G f n x → Gz G (mL_law nm) room_1 (lw_Z below #[Value.ref b] s) p e s m #[Value.ref b] below meth c (100 + 34 * t) (4000 + 102 * t) 23 (lwLs b x (6 * t)) [] f n := by
  have hbA : ¬ gA G b := fun z => by
    have z : G.2.1 ≤ b := z
    omega
  have r1 : room_1.cells = 601024 := rfl
  have r2 : room_1.slots = 7293034 := rfl
  intro μ
  induction μ with
  | zero =>
    intro t f n hμ ht h
    refine gz_iload C dL_23 rfl ?_
    refine gz_aload_n C dL_25 rfl ?_
    refine gz_slen C hX hb hbA dL_26 ?_
    refine gz_bipush C (v := 6) dL_27 rfl ?_
    refine gz_isub C dL_29 ?_
    exact gz_icmp_gt C dL_30 (fun _ => lw_end C hG (by omega) (by omega)) (fun z => absurd ((sub6 hL (by omega)).mpr (by omega)) z)
  | succ μ ih =>
    intro t f n hμ ht h
    refine gz_iload C dL_23 rfl ?_
    refine gz_aload_n C dL_25 rfl ?_
    refine gz_slen C hX hb hbA dL_26 ?_
    refine gz_bipush C (v := 6) dL_27 rfl ?_
    refine gz_isub C dL_29 ?_
    refine gz_icmp_gt C dL_30 (fun _ => lw_end C hG (by omega) (by omega)) (fun hc => ?_)
    rw [sub6 hL (by omega)] at hc
    have hi : 6 * t + 6 ≤ L := by omega
    have hn := h.xn
    have nxt : ∀ f' n', JJ G f' n' x → Gz G (mL_law nm) room_1 (lw_Z below #[Value.ref b] s) p e s m #[Value.ref b] below meth c (100 + 34 * t + 34) (4000 + 102 * t + 102) 1656 (lwLs b x (6 * t)) [] f' n' := by
      intro f' n' hj
      refine gz_iinc C (ls' := lwLs b x (6 * (t + 1))) dL_1656 rfl (nI_add (6 * t) 6) ⟨Nat.le_of_ble_eq_true rfl, rfl, rfl⟩ ?_
      refine gz_goto C dL_1659 ?_
      exact gz_widen C (by omega) (by omega) (ih (t + 1) f' n' (by omega) (by omega) hj)
    refine gz_aload_n C dL_33 rfl ?_
    refine gz_iload C dL_34 rfl ?_
    have h36 : ∀ (st : List Value) (K : Gz G (mL_law nm) room_1 (lw_Z below #[Value.ref b] s) p e s m #[Value.ref b] below meth c (100 + 34 * t) (4000 + 102 * t) 37 (lwLs b x (6 * t)) (.int (xs (6 * t)) :: st) f n), Gz G (mL_law nm) room_1 (lw_Z below #[Value.ref b] s) p e s m #[Value.ref b] below meth c (100 + 34 * t) (4000 + 102 * t) 36 (lwLs b x (6 * t)) (.int (nI (6 * t)) :: .ref b :: st) f n := by
      intro st K H locs la hP hS hl
      have hc : (nI (6 * t)).toNatClampNeg = 6 * t := nI_clamp (by omega)
      refine va_sld C.1 C.2.1 hX hb hbA hS (vp_in_nI (n := 6 * t) (N := L) (by omega) (by omega)) eL_36 ?_
      rw [hc]
      exact K H locs la hP hS hl
    refine h36 [] ?_
    refine gz_bipush C (v := 63) dL_37 rfl ?_
    refine gz_iand C dL_39 ?_
    obtain ⟨k, hk, ek⟩ := pk_andE (xs (6 * t)) (m := 63) 6 rfl
    refine gz_tp C ek ?_
    have hk' : k = 0 ∨ k = 1 ∨ k = 2 ∨ k = 3 ∨ k = 4 ∨ k = 5 ∨ k = 6 ∨ k = 7 ∨ k = 8 ∨ k = 9 ∨ k = 10 ∨ k = 11 ∨ k = 12 ∨ k = 13 ∨ k = 14 ∨ k = 15 ∨ k = 16 ∨ k = 17 ∨ k = 18 ∨ k = 19 ∨ k = 20 ∨ k = 21 ∨ k = 22 ∨ k = 23 ∨ k = 24 ∨ k = 25 ∨ k = 26 ∨ k = 27 ∨ k = 28 ∨ k = 29 ∨ k = 30 ∨ k = 31 ∨ k = 32 ∨ k = 33 ∨ k = 34 ∨ k = 35 ∨ k = 36 ∨ k = 37 ∨ k = 38 ∨ k = 39 ∨ k = 40 ∨ k = 41 ∨ k = 42 ∨ k = 43 ∨ k = 44 ∨ 45 ≤ k := by omega
    rcases hk' with rfl | rfl | rfl | rfl | rfl | rfl | rfl | rfl | rfl | rfl | rfl | rfl | rfl | rfl | rfl | rfl | rfl | rfl | rfl | rfl | rfl | rfl | rfl | rfl | rfl | rfl | rfl | rfl | rfl | rfl | rfl | rfl | rfl | rfl | rfl | rfl | rfl | rfl | rfl | rfl | rfl | rfl | rfl | rfl | rfl | hk45
    · exact gz_tableIn C (off := 196) (tgt := 236) eL_40 (by decide) (by decide) rfl rfl (lw_c0 C X hX hb hbA hx hi hL hn h (by omega) (by omega) nxt)
    · exact gz_tableIn C (off := 221) (tgt := 261) eL_40 (by decide) (by decide) rfl rfl (lw_c1 C X hX hb hbA hx hi hL hn h (by omega) (by omega) nxt)
    · exact gz_tableIn C (off := 258) (tgt := 298) eL_40 (by decide) (by decide) rfl rfl (lw_c2 C X hX hb hbA hx hi hL hn h (by omega) (by omega) nxt)
    · exact gz_tableIn C (off := 295) (tgt := 335) eL_40 (by decide) (by decide) rfl rfl (lw_c3 C X hX hb hbA hx hi hL hn h (by omega) (by omega) nxt)
    · exact gz_tableIn C (off := 332) (tgt := 372) eL_40 (by decide) (by decide) rfl rfl (lw_c4 C X hX hb hbA hx hi hL hn h (by omega) (by omega) nxt)
    · exact gz_tableIn C (off := 369) (tgt := 409) eL_40 (by decide) (by decide) rfl rfl (lw_c5 C X hX hb hbA hx hi hL hn h (by omega) (by omega) nxt)
    · exact gz_tableIn C (off := 406) (tgt := 446) eL_40 (by decide) (by decide) rfl rfl (lw_c6 C X hX hb hbA hx hi hL hn h (by omega) (by omega) nxt)
    · exact gz_tableIn C (off := 443) (tgt := 483) eL_40 (by decide) (by decide) rfl rfl (lw_c7 C X hX hb hbA hx hi hL hn h (by omega) (by omega) nxt)
    · exact gz_tableIn C (off := 468) (tgt := 508) eL_40 (by decide) (by decide) rfl rfl (lw_c8 C X hX hb hbA hx hi hL hn h (by omega) (by omega) nxt)
    · exact gz_tableIn C (off := 493) (tgt := 533) eL_40 (by decide) (by decide) rfl rfl (lw_c9 C X hX hb hbA hx hi hL hn h (by omega) (by omega) nxt)
    · exact gz_tableIn C (off := 530) (tgt := 570) eL_40 (by decide) (by decide) rfl rfl (lw_c10 C X hX hb hbA hx hi hL hn h (by omega) (by omega) nxt)
    · exact gz_tableIn C (off := 567) (tgt := 607) eL_40 (by decide) (by decide) rfl rfl (lw_c11 C X hX hb hbA hx hi hL hn h (by omega) (by omega) nxt)
    · exact gz_tableIn C (off := 592) (tgt := 632) eL_40 (by decide) (by decide) rfl rfl (lw_c12 C X hX hb hbA hx hi hL hn h (by omega) (by omega) nxt)
    · exact gz_tableIn C (off := 617) (tgt := 657) eL_40 (by decide) (by decide) rfl rfl (lw_c13 C X hX hb hbA hx hi hL hn h (by omega) (by omega) nxt)
    · exact gz_tableIn C (off := 642) (tgt := 682) eL_40 (by decide) (by decide) rfl rfl (lw_c14 C X hX hb hbA hx hi hL hn h (by omega) (by omega) nxt)
    · exact gz_tableIn C (off := 667) (tgt := 707) eL_40 (by decide) (by decide) rfl rfl (lw_c15 C X hX hb hbA hx hi hL hn h (by omega) (by omega) nxt)
    · exact gz_tableIn C (off := 692) (tgt := 732) eL_40 (by decide) (by decide) rfl rfl (lw_c16 C X hX hb hbA hx hi hL hn h (by omega) (by omega) hPL nxt)
    · exact gz_tableIn C (off := 705) (tgt := 745) eL_40 (by decide) (by decide) rfl rfl (lw_c17 C X hX hb hbA hx hi hL hn h (by omega) (by omega) hPL nxt)
    · exact gz_tableIn C (off := 730) (tgt := 770) eL_40 (by decide) (by decide) rfl rfl (lw_c18 C X hX hb hbA hx hi hL hn h (by omega) (by omega) nxt)
    · exact gz_tableIn C (off := 743) (tgt := 783) eL_40 (by decide) (by decide) rfl rfl (lw_c19 C X hX hb hbA hx hi hL hn h (by omega) (by omega) nxt)
    · exact gz_tableIn C (off := 756) (tgt := 796) eL_40 (by decide) (by decide) rfl rfl (lw_c20 C X hX hb hbA hx hi hL hn h (by omega) (by omega) nxt)
    · exact gz_tableIn C (off := 781) (tgt := 821) eL_40 (by decide) (by decide) rfl rfl (lw_c21 C X hX hb hbA hx hi hL hn h (by omega) (by omega) nxt)
    · exact gz_tableIn C (off := 806) (tgt := 846) eL_40 (by decide) (by decide) rfl rfl (lw_c22 C X hX hb hbA hx hi hL hn h (by omega) (by omega) nxt)
    · exact gz_tableIn C (off := 831) (tgt := 871) eL_40 (by decide) (by decide) rfl rfl (lw_c23 C X hX hb hbA hx hi hL hn h (by omega) (by omega) nxt)
    · exact gz_tableIn C (off := 856) (tgt := 896) eL_40 (by decide) (by decide) rfl rfl (lw_c24 C X hX hb hbA hx hi hL hn h (by omega) (by omega) nxt)
    · exact gz_tableIn C (off := 881) (tgt := 921) eL_40 (by decide) (by decide) rfl rfl (lw_c25 C X hX hb hbA hx hi hL hn h (by omega) (by omega) nxt)
    · exact gz_tableIn C (off := 906) (tgt := 946) eL_40 (by decide) (by decide) rfl rfl (lw_c26 C X hX hb hbA hx hi hL hn h (by omega) (by omega) nxt)
    · exact gz_tableIn C (off := 968) (tgt := 1008) eL_40 (by decide) (by decide) rfl rfl (lw_c27 C X hX hb hbA hx hi hL hn h (by omega) (by omega) nxt)
    · exact gz_tableIn C (off := 1017) (tgt := 1057) eL_40 (by decide) (by decide) rfl rfl (lw_c28 C X hX hb hbA hx hi hL hn h (by omega) (by omega) nxt)
    · exact gz_tableIn C (off := 1042) (tgt := 1082) eL_40 (by decide) (by decide) rfl rfl (lw_c29 C X hX hb hbA hx hi hL hn h (by omega) (by omega) nxt)
    · exact gz_tableIn C (off := 1067) (tgt := 1107) eL_40 (by decide) (by decide) rfl rfl (lw_c30 C X hX hb hbA hx hi hL hn h (by omega) (by omega) nxt)
    · exact gz_tableIn C (off := 1104) (tgt := 1144) eL_40 (by decide) (by decide) rfl rfl (lw_c31 C X hX hb hbA hx hi hL hn h (by omega) (by omega) nxt)
    · exact gz_tableIn C (off := 1129) (tgt := 1169) eL_40 (by decide) (by decide) rfl rfl (lw_c32 C X hX hb hbA hx hi hL hn h (by omega) (by omega) nxt)
    · exact gz_tableIn C (off := 1154) (tgt := 1194) eL_40 (by decide) (by decide) rfl rfl (lw_c33 C X hX hb hbA hx hi hL hn h (by omega) (by omega) nxt)
    · exact gz_tableIn C (off := 1203) (tgt := 1243) eL_40 (by decide) (by decide) rfl rfl (lw_c34 C X hX hb hbA hx hi hL hn h (by omega) (by omega) nxt)
    · exact gz_tableIn C (off := 1216) (tgt := 1256) eL_40 (by decide) (by decide) rfl rfl (lw_c35 C X hX hb hbA hx hi hL hn h (by omega) (by omega) nxt)
    · exact gz_tableIn C (off := 1229) (tgt := 1269) eL_40 (by decide) (by decide) rfl rfl (lw_c36 C X hX hb hbA hx hi hL hn h (by omega) (by omega) nxt)
    · exact gz_tableIn C (off := 1254) (tgt := 1294) eL_40 (by decide) (by decide) rfl rfl (lw_c37 C X hX hb hbA hx hi hL hn h (by omega) (by omega) nxt)
    · exact gz_tableIn C (off := 1267) (tgt := 1307) eL_40 (by decide) (by decide) rfl rfl (lw_c38 C X hX hb hbA hx hi hL hn h (by omega) (by omega) nxt)
    · exact gz_tableIn C (off := 1328) (tgt := 1368) eL_40 (by decide) (by decide) rfl rfl (lw_c39 C X hX hb hbA hx hi hL hn h (by omega) (by omega) nxt)
    · exact gz_tableIn C (off := 1377) (tgt := 1417) eL_40 (by decide) (by decide) rfl rfl (lw_c40 C X hX hb hbA hx hi hL hn h (by omega) (by omega) nxt)
    · exact gz_tableIn C (off := 1426) (tgt := 1466) eL_40 (by decide) (by decide) rfl rfl (lw_c41 C X hX hb hbA hx hi hL hn h (by omega) (by omega) nxt)
    · exact gz_tableIn C (off := 1493) (tgt := 1533) eL_40 (by decide) (by decide) rfl rfl (lw_c42 C X hX hb hbA hx hi hL hn h (by omega) (by omega) nxt)
    · exact gz_tableIn C (off := 1566) (tgt := 1606) eL_40 (by decide) (by decide) rfl rfl (lw_c43 C X hX hb hbA hx hi hL hn h (by omega) (by omega) nxt)
    · exact gz_tableIn C (off := 1591) (tgt := 1631) eL_40 (by decide) (by decide) rfl rfl (lw_c44 C X hX hb hbA hx hi hL hn h (by omega) (by omega) nxt)
    · exact gz_tableOut C eL_40 (Or.inr (by rw [nI_toInt (by omega)]; omega)) rfl (gz_widen C (by omega) (by omega) (nxt f n h))
end LQ
