/-! a statement is carried out -/
def wP (Z : Nat → Prop) (W : Nat → Option Nat) : Prop := ∀ p, p < 8 → ∀ a, W p = some a → Z a
theorem wP.up {Z : Nat → Prop} {W : Nat → Option Nat} {p v : Nat} (h : wP Z W) (hv : Z v) : wP Z (va_up W p (some v)) := by
  intro i hi a ha
  unfold va_up at ha
  by_cases e : i = p
  · rw [if_pos e] at ha
    cases ha
    exact hv
  · rw [if_neg e] at ha
    exact h i hi a ha
theorem oneM.ext {G : GX} {m0 m1 : Mem} {n n1 a : Nat} {k g : Int32} (h : oneM G m0 n a k g) (he : ∀ z, z < n → m1 z = m0 z) (hn : n ≤ n1) : oneM G m1 n1 a k g := by
  obtain ⟨kk, gg, h1, h2, h3, h4, h5, h6, h7⟩ := h
  exact ⟨kk, gg, h1, h2, h3, h4, (he a h7).trans h5, h6, Nat.lt_of_lt_of_le h7 hn⟩
theorem whoOK.ext {G : GX} {m0 m1 : Mem} {s n n1 : Nat} {W : Nat → Option Nat} {A : Nat → Nat → Int32} (h : whoOK G m0 s n W A) (he : ∀ z, z < n → m1 z = m0 z) (hn : n ≤ n1) : whoOK G m1 s n1 W A := fun p hp => by
  obtain ⟨a, h1, h2, h3⟩ := h p hp
  exact ⟨a, h1, h2.ext he hn, h3⟩
theorem whoOK.rows {G : GX} {m0 : Mem} {s n : Nat} {W : Nat → Option Nat} {A A' : Nat → Nat → Int32} (h : whoOK G m0 s n W A) (h1 : A' 1 = A 1) (h2 : A' 2 = A 2) : whoOK G m0 s n W A' := fun p hp => by
  rw [h1, h2]
  exact h p hp
def coQ (G : GX) (m0 : Mem) (s n : Nat) (W : Nat → Option Nat) (o : Option SS) : RQ := fun r f1 n1 => ∃ m1 F' W' A' B', f1 = sc G m1 s F' W' A' B' ∧ n ≤ n1 ∧ n1 ≤ n + 1 ∧ (∀ z, z < n → m1 z = m0 z) ∧ match o with
  | none => r = some (.int 0)
  | some q => r = some (.int 1) ∧ F' 0 = nI q.1 ∧ F' 1 = nI q.2.1 ∧ F' 2 = q.2.2.1 ∧ A' = q.2.2.2 ∧ (∀ a b, a < q.1 → b < q.1 → B' (a * 8 + b) = brS A' a b) ∧ whoOK G m1 s n1 W' A' ∧ ∀ Z : Nat → Prop, (∀ z, n ≤ z → Z z) → wP Z W → wP Z W'
theorem co_n {G : GX} {m0 m1 : Mem} {s n n1 : Nat} {W F' : Nat → _} {W' : Nat → Option Nat} {A' : Nat → Nat → Int32} {B' : Nat → Int32} {o : Option SS} (h : o = none) (h1 : n ≤ n1) (h2 : n1 ≤ n + 1) (h3 : ∀ z, z < n → m1 z = m0 z) : coQ G m0 s n W o (some (.int 0)) (sc G m1 s F' W' A' B') n1 := by
  subst h
  exact ⟨m1, F', W', A', B', rfl, h1, h2, h3, rfl⟩
theorem co_s {G : GX} {m0 : Mem} {s n N M : Nat} {W : Nat → Option Nat} {F' : Nat → Int32} {A A' : Nat → Nat → Int32} {B : Nat → Int32} {P : Int32} {o : Option SS} (hbe : ∀ a b, a < N → b < N → B (a * 8 + b) = brS A a b) (hw : whoOK G m0 s n W A) (h : o = some (N, M, P, A')) (h0 : F' 0 = nI N) (h1 : F' 1 = nI M) (h2 : F' 2 = P) (r1 : A' 1 = A 1) (r2 : A' 2 = A 2) : coQ G m0 s n W o (some (.int 1)) (sc G m0 s F' W A' B) n := by
  subst h
  exact ⟨m0, F', W, A', B, rfl, Nat.le_refl _, Nat.le_succ _, fun _ _ => rfl, rfl, h0, h1, h2, rfl, fun a b ha hb => (hbe a b ha hb).trans (brS_rows r1 r2 a b).symm, hw.rows r1 r2, fun Z _ hW => hW⟩
theorem ex_at2 {c : Nat → Int32} {a : Nat} {s : SS} {l : Int32} (h : c a = l) : exC c s a = exS s l (c (a + 1) - 48) (c (a + 2) - 48) (c (a + 3) - 48) := by
  unfold exC
  rw [h]
theorem dg_at {c : Nat → Int32} {a : Nat} (hg : stG c a = true) (j : Nat) (hj : j < ndS (c a)) : ∃ k, k < 10 ∧ c (a + (j + 1)) - 48 = nI k := by
  have := (st_next hg).2 j hj
  rw [show a + 1 + j = a + (j + 1) by omega] at this
  exact dg_nI this
theorem nI_nn {k : Nat} (h : k < 2 ^ 31) : ¬ nI k < 0 := nI_pos h
theorem co_l {N M : Nat} {P : Int32} {A : Nat → Nat → Int32} {x1 x2 x3 : Int32} (h1 : ∃ k, k < 10 ∧ x1 = nI k) (h2 : ∃ k, k < 10 ∧ x2 = nI k) : (stR M x1 x2 < 0 ∧ exS (N, M, P, A) 108 x1 x2 x3 = none) ∨ (¬ stR M x1 x2 < 0 ∧ stC M x1 x2 = true ∧ exS (N, M, P, A) 108 x1 x2 x3 = some (N, M + 1, P, lcA M A x1 x2)) := by
  obtain ⟨k1, hk1, rfl⟩ := h1
  obtain ⟨k2, hk2, rfl⟩ := h2
  have o1 : okr (nI k1) 0 9 = true := nI_okr (k := 9) (by omega) (by omega)
  have ex : exS (N, M, P, A) 108 (nI k1) (nI k2) x3 = if lcC M (nI k2) then some (N, M + 1, P, lcA M A (nI k1) (nI k2)) else none := by
    unfold exS
    rw [if_neg (by decide), if_pos rfl]
  rw [ex]
  by_cases hc : lcC M (nI k2) = true
  · have hc2 := of_decide_eq_true hc
    have hk : k2 < 2 := (nI_ltI (b := 2) (by omega) (by omega)).mp hc2.1
    have o2 : okr (nI k2) 0 1 = true := nI_okr (k := 1) (by omega) (by omega)
    refine Or.inr ⟨?_, decide_eq_true ⟨o1, o2, hc⟩, if_pos hc⟩
    unfold stR
    rw [if_pos ⟨o1, o2⟩, if_pos hc]
    exact nI_nn (by omega)
  · refine Or.inl ⟨?_, if_neg hc⟩
    unfold stR
    rw [if_neg hc]
    split <;> decide
theorem co_m {N M : Nat} {P : Int32} {A : Nat → Nat → Int32} {x1 x2 x3 : Int32} (hI : insOK N M (A 4)) (hM5 : M ≤ 5) (hN8 : N ≤ 8) : (mvR N M A x1 x2 < 0 ∧ exS (N, M, P, A) 109 x1 x2 x3 = none) ∨ (¬ mvR N M A x1 x2 < 0 ∧ mvA N M A x1 x2 = upA A 4 x1.toNatClampNeg x2 ∧ exS (N, M, P, A) 109 x1 x2 x3 = some (N, M, P, upA A 4 x1.toNatClampNeg x2)) := by
  have ex : exS (N, M, P, A) 109 x1 x2 x3 = if okp N x1 = true ∧ (x2 = 9 ∨ okp M x2 = true) ∧ mmS N (A 4) x1.toNatClampNeg x2 = true then some (N, M, P, upA A 4 x1.toNatClampNeg x2) else none := by
    unfold exS
    rw [if_neg (by decide), if_neg (by decide), if_pos rfl]
  rw [ex]
  unfold mvR mvA
  by_cases hc : mvC N M A x1 x2 = true
  · have hc2 := of_decide_eq_true hc
    by_cases hm : mmS N (A 4) x1.toNatClampNeg x2 = true
    · refine Or.inr ⟨?_, if_pos ⟨hc, hm⟩, if_pos ⟨hc2.1, hc2.2, hm⟩⟩
      rw [if_pos hc, if_pos hm]
      obtain ⟨j, hj, rfl⟩ := okp_nI (N := N) hc2.1 (by omega)
      rw [nI_clamp (by omega)]
      rcases hI j hj with e | ⟨l, hl, e⟩
      · rw [e]; decide
      · rw [e]; exact nI_nn (by omega)
    · refine Or.inl ⟨?_, if_neg (fun z => hm z.2.2)⟩
      rw [if_pos hc, if_neg hm]
      decide
  · refine Or.inl ⟨?_, if_neg (fun z => hc (decide_eq_true ⟨z.1, z.2.1⟩))⟩
    rw [if_neg hc]
    decide
theorem co_x {N M : Nat} {P : Int32} {A : Nat → Nat → Int32} {x1 x2 x3 : Int32} : (chR N A x1 x2 < 0 ∧ exS (N, M, P, A) 120 x1 x2 x3 = none) ∨ (¬ chR N A x1 x2 < 0 ∧ chA N A x1 x2 = swS A x1.toNatClampNeg x2.toNatClampNeg ∧ exS (N, M, P, A) 120 x1 x2 x3 = some (N, M, P, swS A x1.toNatClampNeg x2.toNatClampNeg)) := by
  have ex : exS (N, M, P, A) 120 x1 x2 x3 = if okp N x1 = true ∧ okp N x2 = true ∧ ¬ x1 = x2 then some (N, M, P, swS A x1.toNatClampNeg x2.toNatClampNeg) else none := by
    unfold exS
    rw [if_neg (by decide), if_neg (by decide), if_neg (by decide), if_pos rfl]
  rw [ex]
  unfold chR chA
  by_cases hc : twoS N x1 x2 = true
  · refine Or.inr ⟨?_, if_pos hc, if_pos (twoS_i.mp hc)⟩
    rw [if_pos hc]
    split <;> decide
  · refine Or.inl ⟨?_, if_neg (fun z => hc (twoS_i.mpr z))⟩
    rw [if_neg hc]
    decide
theorem co_k {N M : Nat} {P : Int32} {A : Nat → Nat → Int32} {x1 x2 x3 : Int32} (hky : kyOK M (A 7)) (hM5 : M ≤ 5) : (loR M A x1 < 0 ∧ exS (N, M, P, A) 107 x1 x2 x3 = none) ∨ (¬ loR M A x1 < 0 ∧ loA M A x1 = upA A 7 x1.toNatClampNeg (A 7 x1.toNatClampNeg - 1) ∧ exS (N, M, P, A) 107 x1 x2 x3 = some (N, M, P, upA A 7 x1.toNatClampNeg (A 7 x1.toNatClampNeg - 1))) := by
  have ex : exS (N, M, P, A) 107 x1 x2 x3 = if okp M x1 = true ∧ 0 < A 7 x1.toNatClampNeg then some (N, M, P, upA A 7 x1.toNatClampNeg (A 7 x1.toNatClampNeg - 1)) else none := by
    unfold exS
    rw [if_neg (by decide), if_neg (by decide), if_neg (by decide), if_neg (by decide), if_pos rfl]
  rw [ex]
  unfold loR loA
  by_cases hc : okp M x1 = true
  · obtain ⟨j, hj, rfl⟩ := okp_nI hc (by omega)
    rw [nI_clamp (by omega)]
    obtain ⟨k, hk, e⟩ := hky j hj
    have : k = 0 ∨ k = 1 ∨ k = 2 := by omega
    rw [if_pos hc]
    rcases this with rfl | rfl | rfl
    · exact Or.inl ⟨by rw [e]; decide, if_neg (fun z => by rw [e] at z; exact absurd z.2 (by decide))⟩
    · exact Or.inr ⟨by rw [e]; decide, if_pos ⟨hc, by rw [e]; decide⟩, if_pos ⟨hc, by rw [e]; decide⟩⟩
    · exact Or.inr ⟨by rw [e]; decide, if_pos ⟨hc, by rw [e]; decide⟩, if_pos ⟨hc, by rw [e]; decide⟩⟩
  · refine Or.inl ⟨?_, if_neg (fun z => hc z.1)⟩
    rw [if_neg hc]
    decide
theorem co_k2 {N M : Nat} {P : Int32} {A : Nat → Nat → Int32} {x1 x2 x3 l : Int32} (hP : ∃ k, k < 10000 ∧ P = nI k) (h1 : ¬ l = 112) (h2 : ¬ l = 108) (h3 : ¬ l = 109) (h4 : ¬ l = 120) (h5 : ¬ l = 107) : (maR M P x1 < 0 ∧ exS (N, M, P, A) l x1 x2 x3 = none) ∨ (¬ maR M P x1 < 0 ∧ mkC M P x1 = true ∧ exS (N, M, P, A) l x1 x2 x3 = some (N, M, P + 5, mkA A x1)) := by
  obtain ⟨k, hk, rfl⟩ := hP
  have ex : exS (N, M, nI k, A) l x1 x2 x3 = if mkC M (nI k) x1 then some (N, M, nI k + 5, mkA A x1) else none := by
    unfold exS
    rw [if_neg h1, if_neg h2, if_neg h3, if_neg h4, if_neg h5]
  rw [ex]
  unfold maR
  by_cases hc : mkC M (nI k) x1 = true
  · have hc2 := of_decide_eq_true hc
    refine Or.inr ⟨?_, hc, if_pos hc⟩
    rw [if_pos hc2.1, if_pos hc]
    have e : nI k + 5 = nI (k + 5) := nI_add k 5
    rw [e]
    exact nI_nn (by omega)
  · refine Or.inl ⟨?_, if_neg hc⟩
    rw [if_neg hc]
    split <;> decide
theorem ex_p {N M : Nat} {P : Int32} {A : Nat → Nat → Int32} {x1 x2 x3 : Int32} : exS (N, M, P, A) 112 x1 x2 x3 = if pcC N x1 x3 then some (N + 1, M, P, pcA N A x1 x2 x3) else none := by
  unfold exS
  rw [if_pos rfl]
theorem dg_lt {x : Int32} {b : Nat} (h : ∃ k, k < 10 ∧ x = nI k) (hb : b < 1000) : x < nI (b + 1) ↔ okr x 0 (nI b) = true := by
  obtain ⟨j, hj, rfl⟩ := h
  constructor
  · intro z
    have := (nI_ltI (by omega) (by omega)).mp z
    exact nI_okr (by omega) (by omega)
  · intro z
    have z := okr_i.mp z
    have := mt (nI_ltI (a := b) (b := j) (by omega) (by omega)).mpr z.2
    exact (nI_ltI (by omega) (by omega)).mpr (by omega)
section E1
variable {G : GX} {m0 f : Mem} {x s t n N M b ar R : Nat} {F : Nat → Int32} {W : Nat → Option Nat} {A : Nat → Nat → Int32} {B g : Nat → Int32} {so : Int32}
set_option maxHeartbeats 4000000 in
set_option maxRecDepth 100000 in
theorem e_X5_carriesOut (hq : G.2.1 ≤ s) (hn : s + 8 ≤ n) (hN : F 0 = nI N) (hN8 : N ≤ 8) (hM : F 1 = nI M) (hM5 : M ≤ 5) (hbe : ∀ a b, a < N → b < N → B (a * 8 + b) = brS A a b) (hw : whoOK G m0 s n W A) (hok : schOK (N, M, F 2, A)) (hrb0 : m0 b = ob 4 [.int so, .ref ar]) (hbo : b < s ∨ s + 8 ≤ b) (hb1 : G.2.1 ≤ b) (hb2 : b < n) (hra0 : m0 ar = ia G R g) (hao : ar < s ∨ s + 8 ≤ ar) (ha1 : G.2.1 ≤ ar) (ha2 : ar < n) (hR : R ≤ 100) {a : Nat} (ha : a < R) (hg : stG (ccR g R) a = true) : Ev G mX5_carriesOut 7 1 1 [.ref s, .ref b, .int (nI a)] (sc G m0 s F W A B) n (coQ G m0 s n W (exC (ccR g R) (N, M, F 2, A) a)) := by
  generalize hQ9 : (coQ G m0 s n W (exC (ccR g R) (N, M, F 2, A) a) : RQ) = Q9
  refine ev_of (by decide) (Nat.le_of_ble_eq_true rfl) (ls := [some (.ref s), some (.ref b), some (.int (nI a)), none, none]) rfl (fun hb => ?_)
  have hrb : sc G m0 s F W A B b = ob 4 [.int so, .ref ar] := (sc_out hbo).trans hrb0
  have hra : sc G m0 s F W A B ar = ia G R g := (sc_out hao).trans hra0
  refine go_aload_n dX5_carriesOut_0 rfl ?_
  refine go_iload_n dX5_carriesOut_1 rfl ?_
  refine go_iconst (v := 1) dX5_carriesOut_2 rfl ?_
  refine go_iadd dX5_carriesOut_3 ?_
  refine go_tp (z := nI (a + 1)) (nI_add a 1) ?_
  refine go_Vr [.int (nI (a + 1))] [] dX5_carriesOut_4 vl_X5_59 ⟨by omega, by decide⟩ (e_X4_digitAt (f := (sc G m0 s F W A B)) (n := n) (g := g) (R := R) (so := so) (ar := ar) hrb hb1 (by omega) hra ha1 (by omega) hR) hrb hb1 (by omega) rfl rfl (Nat.le_of_ble_eq_true rfl) (Nat.le_of_ble_eq_true rfl) (Nat.le_of_ble_eq_true rfl) ?_
  refine go_istore_n (ls' := [some (.ref s), some (.ref b), some (.int (nI a)), some (.int (rdC g R (nI (a + 1)) - 48)), none]) dX5_carriesOut_7 ⟨by decide, rfl, rfl⟩ ?_
  refine go_aload_n dX5_carriesOut_8 rfl ?_
  refine go_iload_n dX5_carriesOut_9 rfl ?_
  refine go_iconst (v := 2) dX5_carriesOut_10 rfl ?_
  refine go_iadd dX5_carriesOut_11 ?_
  refine go_tp (z := nI (a + 2)) (nI_add a 2) ?_
  refine go_Vr [.int (nI (a + 2))] [] dX5_carriesOut_12 vl_X5_59 ⟨by omega, by decide⟩ (e_X4_digitAt (f := (sc G m0 s F W A B)) (n := n) (g := g) (R := R) (so := so) (ar := ar) hrb hb1 (by omega) hra ha1 (by omega) hR) hrb hb1 (by omega) rfl rfl (Nat.le_of_ble_eq_true rfl) (Nat.le_of_ble_eq_true rfl) (Nat.le_of_ble_eq_true rfl) ?_
  refine go_istore (ls' := [some (.ref s), some (.ref b), some (.int (nI a)), some (.int (rdC g R (nI (a + 1)) - 48)), some (.int (rdC g R (nI (a + 2)) - 48))]) dX5_carriesOut_15 ⟨by decide, rfl, rfl⟩ ?_
  refine go_aload_n dX5_carriesOut_17 rfl ?_
  refine go_iload_n dX5_carriesOut_18 rfl ?_
  refine go_Vr [.int (nI a)] [] dX5_carriesOut_19 vl_X5_65 ⟨by omega, by decide⟩ (e_X4_at (f := (sc G m0 s F W A B)) (n := n) (g := g) (R := R) (so := so) (ar := ar) hrb hb1 (by omega) hra ha1 (by omega) hR) hrb hb1 (by omega) rfl rfl (Nat.le_of_ble_eq_true rfl) (Nat.le_of_ble_eq_true rfl) (Nat.le_of_ble_eq_true rfl) ?_
  by_cases e22_107 : (rdC g R (nI a) : Int32) = 107
  · refine go_tp e22_107 ?_
    refine go_tableIn (off := 144) (tgt := 166) dX5_carriesOut_22 (by decide) (by decide) (by decide) (by decide) ?_
    have hl0 : ccR g R a = 107 := e22_107
    have d1 : ∃ k, k < 10 ∧ rdC g R (nI (a + 1)) - 48 = nI k := dg_at hg 0 (by rw [hl0]; decide)
    refine go_aload_n dX5_carriesOut_166 rfl ?_
    refine go_iload_n dX5_carriesOut_167 rfl ?_
    refine go_V [.int (rdC g R (nI (a + 1)) - 48)] [] dX5_carriesOut_168 vl_X5_86 ⟨by decide, by decide⟩ (e_X5_lose (F := F) (W := W) (A := A) (B := B) hq hn hM hM5 hok.2.2.2.1) sc_obj hq (by omega) rfl rfl (Nat.le_of_ble_eq_true rfl) (Nat.le_of_ble_eq_true rfl) (Nat.le_of_ble_eq_true rfl) (fun r168 f168 n168 h168 => ?_)
    obtain ⟨rfl, rfl, hn168⟩ := h168
    subst n168
    refine go_if_lt dX5_carriesOut_171 (fun c171 => ?_) (fun c171 => ?_)
    · refine go_iconst (v := 0) dX5_carriesOut_178 rfl ?_
      exact go_zret dX5_carriesOut_179 rfl (Nat.le_of_ble_eq_true rfl) (Nat.le_of_ble_eq_true rfl) (rfl) ((co_k (M := M) (A := A) (x1 := (rdC g R (nI (a + 1)) - 48)) (N := N) (P := F 2) (x2 := (rdC g R (nI (a + 2)) - 48)) (x3 := (rdC g R (nI (a + 3)) - 48)) hok.2.2.2.1 hM5).elim (fun z => hQ9 ▸ co_n ((ex_at2 hl0).trans z.2) (Nat.le_refl _) (Nat.le_succ _) (fun _ _ => rfl)) (fun z => absurd c171 z.1))
    · refine go_iconst (v := 1) dX5_carriesOut_174 rfl ?_
      refine go_goto dX5_carriesOut_175 ?_
      exact go_zret dX5_carriesOut_179 rfl (Nat.le_of_ble_eq_true rfl) (Nat.le_of_ble_eq_true rfl) (rfl) ((co_k (M := M) (A := A) (x1 := (rdC g R (nI (a + 1)) - 48)) (N := N) (P := F 2) (x2 := (rdC g R (nI (a + 2)) - 48)) (x3 := (rdC g R (nI (a + 3)) - 48)) hok.2.2.2.1 hM5).elim (fun z => absurd z.1 c171) (fun z => hQ9 ▸ (by rw [z.2.1]; exact co_s hbe hw ((ex_at2 hl0).trans z.2.2) hN hM rfl rfl rfl)))
  · by_cases e22_108 : (rdC g R (nI a) : Int32) = 108
    · refine go_tp e22_108 ?_
      refine go_tableIn (off := 96) (tgt := 118) dX5_carriesOut_22 (by decide) (by decide) (by decide) (by decide) ?_
      have hl0 : ccR g R a = 108 := e22_108
      have d1 : ∃ k, k < 10 ∧ rdC g R (nI (a + 1)) - 48 = nI k := dg_at hg 0 (by rw [hl0]; decide)
      have d2 : ∃ k, k < 10 ∧ rdC g R (nI (a + 2)) - 48 = nI k := dg_at hg 1 (by rw [hl0]; decide)
      refine go_aload_n dX5_carriesOut_118 rfl ?_
      refine go_iload_n dX5_carriesOut_119 rfl ?_
      refine go_iload dX5_carriesOut_120 rfl ?_
      refine go_V [.int (rdC g R (nI (a + 1)) - 48), .int (rdC g R (nI (a + 2)) - 48)] [] dX5_carriesOut_122 vl_X5_76 ⟨by decide, by decide⟩ (e_X5_stand (F := F) (W := W) (A := A) (B := B) hq hn hM hM5) sc_obj hq (by omega) rfl rfl (Nat.le_of_ble_eq_true rfl) (Nat.le_of_ble_eq_true rfl) (Nat.le_of_ble_eq_true rfl) (fun r122 f122 n122 h122 => ?_)
      obtain ⟨rfl, rfl, hn122⟩ := h122
      subst n122
      refine go_if_lt dX5_carriesOut_125 (fun c125 => ?_) (fun c125 => ?_)
      · refine go_iconst (v := 0) dX5_carriesOut_132 rfl ?_
        exact go_zret dX5_carriesOut_133 rfl (Nat.le_of_ble_eq_true rfl) (Nat.le_of_ble_eq_true rfl) (rfl) ((co_l (M := M) (x1 := (rdC g R (nI (a + 1)) - 48)) (x2 := (rdC g R (nI (a + 2)) - 48)) (N := N) (P := F 2) (A := A) (x3 := (rdC g R (nI (a + 3)) - 48)) d1 d2).elim (fun z => hQ9 ▸ co_n ((ex_at2 hl0).trans z.2) (Nat.le_refl _) (Nat.le_succ _) (fun _ _ => rfl)) (fun z => absurd c125 z.1))
      · refine go_iconst (v := 1) dX5_carriesOut_128 rfl ?_
        refine go_goto dX5_carriesOut_129 ?_
        exact go_zret dX5_carriesOut_133 rfl (Nat.le_of_ble_eq_true rfl) (Nat.le_of_ble_eq_true rfl) (rfl) ((co_l (M := M) (x1 := (rdC g R (nI (a + 1)) - 48)) (x2 := (rdC g R (nI (a + 2)) - 48)) (N := N) (P := F 2) (A := A) (x3 := (rdC g R (nI (a + 3)) - 48)) d1 d2).elim (fun z => absurd z.1 c125) (fun z => hQ9 ▸ (by rw [if_pos z.2.1, if_pos z.2.1]; exact co_s hbe hw ((ex_at2 hl0).trans z.2.2) hN rfl rfl rfl rfl)))
    · by_cases e22_109 : (rdC g R (nI a) : Int32) = 109
      · refine go_tp e22_109 ?_
        refine go_tableIn (off := 112) (tgt := 134) dX5_carriesOut_22 (by decide) (by decide) (by decide) (by decide) ?_
        have hl0 : ccR g R a = 109 := e22_109
        have d1 : ∃ k, k < 10 ∧ rdC g R (nI (a + 1)) - 48 = nI k := dg_at hg 0 (by rw [hl0]; decide)
        have d2 : ∃ k, k < 10 ∧ rdC g R (nI (a + 2)) - 48 = nI k := dg_at hg 1 (by rw [hl0]; decide)
        refine go_aload_n dX5_carriesOut_134 rfl ?_
        refine go_iload_n dX5_carriesOut_135 rfl ?_
        refine go_iload dX5_carriesOut_136 rfl ?_
        refine go_V [.int (rdC g R (nI (a + 1)) - 48), .int (rdC g R (nI (a + 2)) - 48)] [] dX5_carriesOut_138 vl_X5_80 ⟨by decide, by decide⟩ (e_X5_move (F := F) (W := W) (A := A) (B := B) hq hn hN hN8 hM hM5) sc_obj hq (by omega) rfl rfl (Nat.le_of_ble_eq_true rfl) (Nat.le_of_ble_eq_true rfl) (Nat.le_of_ble_eq_true rfl) (fun r138 f138 n138 h138 => ?_)
        obtain ⟨rfl, rfl, hn138⟩ := h138
        subst n138
        refine go_if_lt dX5_carriesOut_141 (fun c141 => ?_) (fun c141 => ?_)
        · refine go_iconst (v := 0) dX5_carriesOut_148 rfl ?_
          exact go_zret dX5_carriesOut_149 rfl (Nat.le_of_ble_eq_true rfl) (Nat.le_of_ble_eq_true rfl) (rfl) ((co_m (N := N) (M := M) (A := A) (x1 := (rdC g R (nI (a + 1)) - 48)) (x2 := (rdC g R (nI (a + 2)) - 48)) (P := F 2) (x3 := (rdC g R (nI (a + 3)) - 48)) hok.2.2.1 hM5 hN8).elim (fun z => hQ9 ▸ co_n ((ex_at2 hl0).trans z.2) (Nat.le_refl _) (Nat.le_succ _) (fun _ _ => rfl)) (fun z => absurd c141 z.1))
        · refine go_iconst (v := 1) dX5_carriesOut_144 rfl ?_
          refine go_goto dX5_carriesOut_145 ?_
          exact go_zret dX5_carriesOut_149 rfl (Nat.le_of_ble_eq_true rfl) (Nat.le_of_ble_eq_true rfl) (rfl) ((co_m (N := N) (M := M) (A := A) (x1 := (rdC g R (nI (a + 1)) - 48)) (x2 := (rdC g R (nI (a + 2)) - 48)) (P := F 2) (x3 := (rdC g R (nI (a + 3)) - 48)) hok.2.2.1 hM5 hN8).elim (fun z => absurd z.1 c141) (fun z => hQ9 ▸ (by rw [z.2.1]; exact co_s hbe hw ((ex_at2 hl0).trans z.2.2) hN hM rfl rfl rfl)))
      · by_cases e22_112 : (rdC g R (nI a) : Int32) = 112
        · refine go_tp e22_112 ?_
          refine go_tableIn (off := 70) (tgt := 92) dX5_carriesOut_22 (by decide) (by decide) (by decide) (by decide) ?_
          have hl0 : ccR g R a = 112 := e22_112
          have d1 : ∃ k, k < 10 ∧ rdC g R (nI (a + 1)) - 48 = nI k := dg_at hg 0 (by rw [hl0]; decide)
          have d2 : ∃ k, k < 10 ∧ rdC g R (nI (a + 2)) - 48 = nI k := dg_at hg 1 (by rw [hl0]; decide)
          have d3 : ∃ k, k < 10 ∧ rdC g R (nI (a + 3)) - 48 = nI k := dg_at hg 2 (by rw [hl0]; decide)
          have ok2 : okr (rdC g R (nI (a + 2)) - 48) 0 9 = true := by obtain ⟨k, hk, e⟩ := d2; rw [e]; exact nI_okr (k := 9) (by omega) (by omega)
          refine go_aload_n dX5_carriesOut_92 rfl ?_
          refine go_iload_n dX5_carriesOut_93 rfl ?_
          refine go_iload dX5_carriesOut_94 rfl ?_
          refine go_S [.int (rdC g R (nI (a + 1)) - 48), .int (rdC g R (nI (a + 2)) - 48)] [.ref s] dX5_carriesOut_96 sl_X5_68 ⟨by omega, by decide⟩ e_X11_oneOf rfl rfl (Nat.le_of_ble_eq_true rfl) (Nat.le_of_ble_eq_true rfl) (Nat.le_of_ble_eq_true rfl) (fun r1 f1 n1 h1 => ?_)
          rcases h1 with ⟨hno, hr1, hf1, hn1⟩ | ⟨kk, gg, hkk, hgg, ek, eg, hr1, hf1, hn1⟩
          · subst r1
            subst f1
            subst n1
            refine go_aload_n dX5_carriesOut_99 rfl ?_
            refine go_iload_n dX5_carriesOut_100 rfl ?_
            refine go_iconst (v := 3) dX5_carriesOut_101 rfl ?_
            refine go_iadd dX5_carriesOut_102 ?_
            refine go_tp (z := nI (a + 3)) (nI_add a 3) ?_
            refine go_Vr [.int (nI (a + 3))] [.null, .ref s] dX5_carriesOut_103 vl_X5_59 ⟨by omega, by decide⟩ (e_X4_digitAt (f := (sc G m0 s F W A B)) (n := n) (g := g) (R := R) (so := so) (ar := ar) hrb hb1 (by omega) hra ha1 (by omega) hR) hrb hb1 (by omega) rfl rfl (Nat.le_of_ble_eq_true rfl) (Nat.le_of_ble_eq_true rfl) (Nat.le_of_ble_eq_true rfl) ?_
            refine go_Vr [.null, .int (rdC g R (nI (a + 3)) - 48)] [] dX5_carriesOut_106 vl_X5_72 ⟨by omega, by decide⟩ (e_X5_joinN hq hn) sc_obj hq (by omega) rfl rfl (Nat.le_of_ble_eq_true rfl) (Nat.le_of_ble_eq_true rfl) (Nat.le_of_ble_eq_true rfl) ?_
            refine go_if_lt dX5_carriesOut_109 (fun c109 => ?_) (fun c109 => ?_)
            · refine go_iconst (v := 0) dX5_carriesOut_116 rfl ?_
              exact go_zret dX5_carriesOut_117 rfl (Nat.le_of_ble_eq_true rfl) (Nat.le_of_ble_eq_true rfl) (rfl) (hQ9 ▸ co_n ((ex_at2 hl0).trans (ex_p.trans (if_neg (fun z => hno ⟨ok2, (dg_lt (b := 7) d1 (by omega)).mp (of_decide_eq_true z).1⟩)))) (Nat.le_refl _) (Nat.le_succ _) (fun _ _ => rfl))
            · first | exact absurd c109 (by decide) | exact absurd (by decide) c109 | exact absurd rfl c109 | omega
          · subst r1
            subst f1
            subst n1
            refine go_mem (f' := (sc G (va_up m0 n (ob (oneCi kk) [.int (nI gg)])) s F W A B)) (sc_upo (by omega) rfl) ?_
            have hrb2 : (sc G (va_up m0 n (ob (oneCi kk) [.int (nI gg)])) s F W A B) b = ob 4 [.int so, .ref ar] := (sc_out hbo).trans ((vup_ne (by omega)).trans hrb0)
            have hra2 : (sc G (va_up m0 n (ob (oneCi kk) [.int (nI gg)])) s F W A B) ar = ia G R g := (sc_out hao).trans ((vup_ne (by omega)).trans hra0)
            have hex : ∀ z, z < n → (va_up m0 n (ob (oneCi kk) [.int (nI gg)])) z = m0 z := fun z hz => vup_ne (by omega)
            have hv2 : oneM G (va_up m0 n (ob (oneCi kk) [.int (nI gg)])) (n + 1) n (rdC g R (nI (a + 1)) - 48) (rdC g R (nI (a + 2)) - 48) := ⟨kk, gg, hkk, hgg, ek, eg, vup_at, by omega, by omega⟩
            have ok1 : okr (rdC g R (nI (a + 1)) - 48) 0 7 = true := by rw [ek]; exact nI_okr (k := 7) (by omega) (by omega)
            refine go_aload_n dX5_carriesOut_99 rfl ?_
            refine go_iload_n dX5_carriesOut_100 rfl ?_
            refine go_iconst (v := 3) dX5_carriesOut_101 rfl ?_
            refine go_iadd dX5_carriesOut_102 ?_
            refine go_tp (z := nI (a + 3)) (nI_add a 3) ?_
            refine go_Vr [.int (nI (a + 3))] [.ref n, .ref s] dX5_carriesOut_103 vl_X5_59 ⟨by omega, by decide⟩ (e_X4_digitAt (f := (sc G (va_up m0 n (ob (oneCi kk) [.int (nI gg)])) s F W A B)) (n := (n + 1)) (g := g) (R := R) (so := so) (ar := ar) hrb2 hb1 (by omega) hra2 ha1 (by omega) hR) hrb2 hb1 (by omega) rfl rfl (Nat.le_of_ble_eq_true rfl) (Nat.le_of_ble_eq_true rfl) (Nat.le_of_ble_eq_true rfl) ?_
            refine go_V [.ref n, .int (rdC g R (nI (a + 3)) - 48)] [] dX5_carriesOut_106 vl_X5_72 ⟨by omega, by decide⟩ (e_X5_join (F := F) (W := W) (A := A) (B := B) hq (by omega) hN hN8 hbe (hw.ext hex (Nat.le_succ _)) hv2 (by omega)) sc_obj hq (by omega) rfl rfl (Nat.le_of_ble_eq_true rfl) (Nat.le_of_ble_eq_true rfl) (Nat.le_of_ble_eq_true rfl) (fun r2 f2 n2 h2 => ?_)
            obtain ⟨hn2, ⟨j1, j2, hr2, B1, hB1, hf2⟩ | ⟨j1, hr2, hf2⟩⟩ := h2
            · subst r2
              subst f2
              subst n2
              refine go_if_lt dX5_carriesOut_109 (fun c109 => ?_) (fun c109 => ?_)
              · have c109n := (n0_lt (a := N) (by omega)).mp c109
                first | exact absurd c109n (by decide) | exact absurd (by decide) c109n | exact absurd rfl c109n | omega
              · have c109n := mt (n0_lt (a := N) (by omega)).mpr c109
                refine go_iconst (v := 1) dX5_carriesOut_112 rfl ?_
                refine go_goto dX5_carriesOut_113 ?_
                exact go_zret dX5_carriesOut_117 rfl (Nat.le_of_ble_eq_true rfl) (Nat.le_of_ble_eq_true rfl) (rfl) (hQ9 ▸ (by rw [ex_at2 hl0, ex_p, if_pos (show pcC N (ccR g R (a + 1) - 48) (ccR g R (a + 3) - 48) = true from decide_eq_true ⟨(dg_lt (b := 7) d1 (by omega)).mpr ok1, (dg_lt (b := 5) d3 (by omega)).mpr j1, j2⟩)]; exact ⟨_, _, _, _, _, rfl, Nat.le_succ _, Nat.le_refl _, hex, rfl, rfl, hM, rfl, rfl, hB1, pc_who (hw.ext hex (Nat.le_succ _)) hv2 (by omega), fun Z hZ hW => hW.up (hZ n (Nat.le_refl _))⟩))
            · subst r2
              subst f2
              subst n2
              refine go_if_lt dX5_carriesOut_109 (fun c109 => ?_) (fun c109 => ?_)
              · refine go_iconst (v := 0) dX5_carriesOut_116 rfl ?_
                exact go_zret dX5_carriesOut_117 rfl (Nat.le_of_ble_eq_true rfl) (Nat.le_of_ble_eq_true rfl) (rfl) (hQ9 ▸ co_n ((ex_at2 hl0).trans (ex_p.trans (if_neg (fun z => j1 ⟨(dg_lt (b := 5) d3 (by omega)).mp (of_decide_eq_true z).2.1, (of_decide_eq_true z).2.2⟩)))) (Nat.le_succ _) (Nat.le_refl _) hex)
              · refine go_iconst (v := 1) dX5_carriesOut_112 rfl ?_
                refine go_goto dX5_carriesOut_113 ?_
                exact go_zret dX5_carriesOut_117 rfl (Nat.le_of_ble_eq_true rfl) (Nat.le_of_ble_eq_true rfl) (rfl) (absurd (by split <;> decide) c109)
        · by_cases e22_120 : (rdC g R (nI a) : Int32) = 120
          · refine go_tp e22_120 ?_
            refine go_tableIn (off := 128) (tgt := 150) dX5_carriesOut_22 (by decide) (by decide) (by decide) (by decide) ?_
            have hl0 : ccR g R a = 120 := e22_120
            have d1 : ∃ k, k < 10 ∧ rdC g R (nI (a + 1)) - 48 = nI k := dg_at hg 0 (by rw [hl0]; decide)
            have d2 : ∃ k, k < 10 ∧ rdC g R (nI (a + 2)) - 48 = nI k := dg_at hg 1 (by rw [hl0]; decide)
            refine go_aload_n dX5_carriesOut_150 rfl ?_
            refine go_iload_n dX5_carriesOut_151 rfl ?_
            refine go_iload dX5_carriesOut_152 rfl ?_
            refine go_V [.int (rdC g R (nI (a + 1)) - 48), .int (rdC g R (nI (a + 2)) - 48)] [] dX5_carriesOut_154 vl_X5_83 ⟨by decide, by decide⟩ (e_X5_change (F := F) (W := W) (A := A) (B := B) hq hn hN hN8) sc_obj hq (by omega) rfl rfl (Nat.le_of_ble_eq_true rfl) (Nat.le_of_ble_eq_true rfl) (Nat.le_of_ble_eq_true rfl) (fun r154 f154 n154 h154 => ?_)
            obtain ⟨rfl, rfl, hn154⟩ := h154
            subst n154
            refine go_if_lt dX5_carriesOut_157 (fun c157 => ?_) (fun c157 => ?_)
            · refine go_iconst (v := 0) dX5_carriesOut_164 rfl ?_
              exact go_zret dX5_carriesOut_165 rfl (Nat.le_of_ble_eq_true rfl) (Nat.le_of_ble_eq_true rfl) (rfl) ((co_x (N := N) (A := A) (x1 := (rdC g R (nI (a + 1)) - 48)) (x2 := (rdC g R (nI (a + 2)) - 48)) (M := M) (P := F 2) (x3 := (rdC g R (nI (a + 3)) - 48))).elim (fun z => hQ9 ▸ co_n ((ex_at2 hl0).trans z.2) (Nat.le_refl _) (Nat.le_succ _) (fun _ _ => rfl)) (fun z => absurd c157 z.1))
            · refine go_iconst (v := 1) dX5_carriesOut_160 rfl ?_
              refine go_goto dX5_carriesOut_161 ?_
              exact go_zret dX5_carriesOut_165 rfl (Nat.le_of_ble_eq_true rfl) (Nat.le_of_ble_eq_true rfl) (rfl) ((co_x (N := N) (A := A) (x1 := (rdC g R (nI (a + 1)) - 48)) (x2 := (rdC g R (nI (a + 2)) - 48)) (M := M) (P := F 2) (x3 := (rdC g R (nI (a + 3)) - 48))).elim (fun z => absurd z.1 c157) (fun z => hQ9 ▸ (by rw [z.2.1]; exact co_s hbe hw ((ex_at2 hl0).trans z.2.2) hN hM rfl (swS_row (by decide)) (swS_row (by decide)))))
          · refine go_tableDef dX5_carriesOut_22 (tgt := 180) (ds := [110, 111, 113, 114, 115, 116, 117, 118, 119]) (by have := i32_ne (v := 107) (k := 107) rfl e22_107; have := i32_ne (v := 108) (k := 108) rfl e22_108; have := i32_ne (v := 109) (k := 109) rfl e22_109; have := i32_ne (v := 112) (k := 112) rfl e22_112; have := i32_ne (v := 120) (k := 120) rfl e22_120; simp; omega) (by decide) (by decide) ?_
            have hn1 : ¬ ccR g R a = 112 := e22_112
            have hn2 : ¬ ccR g R a = 108 := e22_108
            have hn3 : ¬ ccR g R a = 109 := e22_109
            have hn4 : ¬ ccR g R a = 120 := e22_120
            have hn5 : ¬ ccR g R a = 107 := e22_107
            refine go_aload_n dX5_carriesOut_180 rfl ?_
            refine go_iload_n dX5_carriesOut_181 rfl ?_
            refine go_V [.int (rdC g R (nI (a + 1)) - 48)] [] dX5_carriesOut_182 vl_X5_89 ⟨by decide, by decide⟩ (e_X5_make (F := F) (W := W) (A := A) (B := B) hq hn hM hM5 (P := F 2) rfl) sc_obj hq (by omega) rfl rfl (Nat.le_of_ble_eq_true rfl) (Nat.le_of_ble_eq_true rfl) (Nat.le_of_ble_eq_true rfl) (fun r182 f182 n182 h182 => ?_)
            obtain ⟨rfl, rfl, hn182⟩ := h182
            subst n182
            refine go_if_lt dX5_carriesOut_185 (fun c185 => ?_) (fun c185 => ?_)
            · refine go_iconst (v := 0) dX5_carriesOut_192 rfl ?_
              exact go_zret dX5_carriesOut_193 rfl (Nat.le_of_ble_eq_true rfl) (Nat.le_of_ble_eq_true rfl) (rfl) ((co_k2 (M := M) (x1 := (rdC g R (nI (a + 1)) - 48)) (N := N) (A := A) (x2 := (rdC g R (nI (a + 2)) - 48)) (x3 := (rdC g R (nI (a + 3)) - 48)) hok.2.2.2.2.2.2 hn1 hn2 hn3 hn4 hn5).elim (fun z => hQ9 ▸ co_n ((ex_at2 rfl).trans z.2) (Nat.le_refl _) (Nat.le_succ _) (fun _ _ => rfl)) (fun z => absurd c185 z.1))
            · refine go_iconst (v := 1) dX5_carriesOut_188 rfl ?_
              refine go_goto dX5_carriesOut_189 ?_
              exact go_zret dX5_carriesOut_193 rfl (Nat.le_of_ble_eq_true rfl) (Nat.le_of_ble_eq_true rfl) (rfl) ((co_k2 (M := M) (x1 := (rdC g R (nI (a + 1)) - 48)) (N := N) (A := A) (x2 := (rdC g R (nI (a + 2)) - 48)) (x3 := (rdC g R (nI (a + 3)) - 48)) hok.2.2.2.2.2.2 hn1 hn2 hn3 hn4 hn5).elim (fun z => absurd z.1 c185) (fun z => hQ9 ▸ (by rw [if_pos z.2.1, if_pos z.2.1]; exact co_s hbe hw ((ex_at2 rfl).trans z.2.2) hN hM rfl rfl rfl)))
end E1
