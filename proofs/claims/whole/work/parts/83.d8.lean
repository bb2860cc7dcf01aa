/-! the face: what is only tried -/
def x2K (G : GX) (m0 : Mem) (x s i t w os rs n : Nat) (b : Int32) : Prop := m0 x = ob 11 (xfs s i t w os rs b) ∧ G.2.1 ≤ x ∧ x < n ∧ (x < s ∨ s + 8 ≤ x) ∧ (x < t ∨ t + 8 ≤ x)
theorem x2K.at {G : GX} {m0 : Mem} {x s i t w os rs n : Nat} {b : Int32} {F F3 : Nat → Int32} {W W3 : Nat → Option Nat} {A A3 : Nat → Nat → Int32} {B B3 : Nat → Int32} (h : x2K G m0 x s i t w os rs n b) : sc G (sc G m0 s F W A B) t F3 W3 A3 B3 x = ob 11 (xfs s i t w os rs b) := (sc_out h.2.2.2.2).trans ((sc_out h.2.2.2.1).trans h.1)
/-- who are meant by both schools -/
def w2K (G : GX) (m0 : Mem) (s t n : Nat) (W : Nat → Option Nat) (A : Nat → Nat → Int32) : Prop := ∀ p, p < 8 → ∃ a, W p = some a ∧ oneM G m0 n a (A 1 p) (A 2 p) ∧ (a < s ∨ s + 8 ≤ a) ∧ (a < t ∨ t + 8 ≤ a)
theorem w2K.now {G : GX} {m0 : Mem} {s t n : Nat} {W : Nat → Option Nat} {A : Nat → Nat → Int32} (h : w2K G m0 s t n W A) : whoOK G m0 s n W A := fun p hp => by
  obtain ⟨a, h1, h2, h3, h4⟩ := h p hp
  exact ⟨a, h1, h2, h3⟩
theorem w2K.tri {G : GX} {m0 : Mem} {s t n : Nat} {F : Nat → Int32} {W : Nat → Option Nat} {A : Nat → Nat → Int32} {B : Nat → Int32} (h : w2K G m0 s t n W A) : whoOK G (sc G m0 s F W A B) t n W A := fun p hp => by
  obtain ⟨a, h1, h2, h3, h4⟩ := h p hp
  exact ⟨a, h1, h2.sc h3, h4⟩
theorem tsH.tri {G : GX} {m0 : Mem} {s t n N M : Nat} {F : Nat → Int32} {W : Nat → Option Nat} {A : Nat → Nat → Int32} {B : Nat → Int32} (h : tsH G m0 s n N M F W A B) (hw : w2K G m0 s t n W A) : tsH G (sc G m0 s F W A B) t n N M F W A B :=
  ⟨h.hN, h.hN8, h.hM, h.hM5, h.hbe, hw.tri, h.hab, h.hI⟩
section D8
variable {G : GX} {m0 f : Mem} {x s i0 t w os rs n N M : Nat} {F F3 : Nat → Int32} {W W3 : Nat → Option Nat} {A A3 : Nat → Nat → Int32} {B B3 : Nat → Int32} {b : Int32}
set_option maxHeartbeats 4000000 in
set_option maxRecDepth 100000 in
theorem e_X11_changeWhileAgreed (hX : x2K G m0 x s i0 t w os rs n b) (hq : G.2.1 ≤ s) (hn : s + 8 ≤ n) (hqt : G.2.1 ≤ t) (hnt : t + 8 ≤ n) (hdj : s + 8 ≤ t ∨ t + 8 ≤ s) (h : tsH G m0 s n N M F W A B) (hw2 : w2K G m0 s t n W A) : Ev G mX11_changeWhileAgreed 8 0 0 [.ref x] (sc G (sc G m0 s F W A B) t F3 W3 A3 B3) n (fun r f1 n1 => r = some (.int (nI (chC N 60 A))) ∧ f1 = (sc G (sc G m0 s F W A B) t F W (chE N 60 A) B) ∧ n1 = n) := by
  generalize hQ9 : (fun r f1 n1 => r = some (.int (nI (chC N 60 A))) ∧ f1 = (sc G (sc G m0 s F W A B) t F W (chE N 60 A) B) ∧ n1 = n : RQ) = Q9
  refine ev_of (by decide) (Nat.le_of_ble_eq_true rfl) (ls := [some (.ref x), none]) rfl (fun hb => ?_)
  refine go_aload_n dX11_changeWhileAgreed_0 rfl ?_
  refine go_get dX11_changeWhileAgreed_1 fl_X11_19_11 hX.at hX.2.1 hX.2.2.1 rfl ?_
  refine go_aload_n dX11_changeWhileAgreed_4 rfl ?_
  refine go_get dX11_changeWhileAgreed_5 fl_X11_10_11 hX.at hX.2.1 hX.2.2.1 rfl ?_
  refine go_V [.ref s] [] dX11_changeWhileAgreed_8 vl_X11_61 ⟨by decide, by decide⟩ (e_X5_becomes2 (F := F3) (W := W3) (A := A3) (B := B3) hqt hnt hq hn hdj hw2) sc_obj hqt (by omega) rfl rfl (Nat.le_of_ble_eq_true rfl) (Nat.le_of_ble_eq_true rfl) (Nat.le_of_ble_eq_true rfl) (fun r8 f8 n8 h8 => ?_)
  obtain ⟨rfl, rfl, hn8⟩ := h8
  subst n8
  refine go_iconst (v := 0) dX11_changeWhileAgreed_11 rfl ?_
  refine go_istore_n (ls' := [some (.ref x), some (.int 0)]) dX11_changeWhileAgreed_12 ⟨by decide, rfl, rfl⟩ ?_
  have lp0 : ∀ (μ_lp0 : Nat) (k : Nat) (A1 : Nat → Nat → Int32) (hk : k ≤ 60) (hmk : 61 ≤ k + μ_lp0) (hs1 : seR A A1) (hI1 : insOK N M (A1 4)) (hC : chC N 60 A = k + chC N (60 - k) A1) (hE : chE N 60 A = chE N (60 - k) A1), Go G mX11_changeWhileAgreed 8 0 0 Q9 0 0 13 [some (.ref x), some (.int (nI k))] [] (sc G (sc G m0 s F W A B) t F W A1 B) n := by
    intro μ_lp0
    induction μ_lp0 with
    | zero =>
      intro k A1 hk hmk hs1 hI1 hC hE
      exact absurd hmk (by omega)
    | succ μ_lp0 ih_lp0 =>
      intro k A1 hk hmk hs1 hI1 hC hE
      refine go_iload_n dX11_changeWhileAgreed_13 rfl ?_
      refine go_bipush (v := 60) dX11_changeWhileAgreed_14 rfl ?_
      refine go_icmp_ge dX11_changeWhileAgreed_16 (fun c16 => ?_) (fun c16 => ?_)
      · have c16n := (nI_leI (a := 60) (b := k) (by omega) (by omega)).mp c16
        have c16n := Nat.not_lt.mpr c16n
        have c16 := Int32.not_lt.mpr c16
        refine go_iload_n dX11_changeWhileAgreed_35 rfl ?_
        exact go_iret dX11_changeWhileAgreed_36 rfl (Nat.le_of_ble_eq_true rfl) (Nat.le_of_ble_eq_true rfl) (hQ9 ▸ ⟨rd_i (by rw [hC, show k = 60 by omega]; rfl), by rw [hE, show k = 60 by omega]; rfl, rfl⟩)
      · have c16n := mt (nI_leI (a := 60) (b := k) (by omega) (by omega)).mpr c16
        have c16n := Nat.lt_of_not_le c16n
        have c16 := Int32.not_le.mp c16
        refine go_aload_n dX11_changeWhileAgreed_19 rfl ?_
        refine go_get dX11_changeWhileAgreed_20 fl_X11_19_11 hX.at hX.2.1 hX.2.2.1 rfl ?_
        have hs := (h.tri (F := F) (W := W) (B := B) (t := t) hw2).seR hs1.1 hI1
        refine go_V [] [] dX11_changeWhileAgreed_23 vl_X11_271 ⟨by decide, by decide⟩ (e_X5_changeFirstAgreed2 hqt hnt hs) sc_obj hqt (by omega) rfl rfl (Nat.le_of_ble_eq_true rfl) (Nat.le_of_ble_eq_true rfl) (Nat.le_of_ble_eq_true rfl) (fun r23 f23 n23 h23 => ?_)
        obtain ⟨rfl, rfl, hn23⟩ := h23
        subst n23
        by_cases c26 : nxS N A1 < 0
        · refine go_tp (z := 0) (by rw [if_pos c26]) ?_
          refine go_mem (f' := (sc G (sc G m0 s F W A B) t F W A1 B)) (by rw [if_pos c26]) ?_
          refine go_if_eq dX11_changeWhileAgreed_26 (fun c26_3 => ?_) (fun c26_3 => ?_)
          · have c26_3n := (n0_eq (a := 0) (by omega)).mp c26_3
            refine go_iload_n dX11_changeWhileAgreed_35 rfl ?_
            exact go_iret dX11_changeWhileAgreed_36 rfl (Nat.le_of_ble_eq_true rfl) (Nat.le_of_ble_eq_true rfl) (hQ9 ▸ ⟨rd_i (by rw [hC, chC_z c26, Nat.add_zero]), by rw [hE, chE_z c26], rfl⟩)
          · have c26_3n := mt (n0_eq (a := 0) (by omega)).mpr c26_3
            first | exact absurd c26_3n (by decide) | exact absurd (by decide) c26_3n | exact absurd rfl c26_3n | omega
        · refine go_tp (z := 1) (by rw [if_neg c26]) ?_
          refine go_mem (f' := (sc G (sc G m0 s F W A B) t F W (chg A1 (nxS N A1)) B)) (by rw [if_neg c26]) ?_
          have hcg := cg_seR h.hN8 hI1 hs1 c26
          refine go_if_eq dX11_changeWhileAgreed_26 (fun c26_3 => ?_) (fun c26_3 => ?_)
          · have c26_3n := (n0_eq (a := 1) (by omega)).mp c26_3
            first | exact absurd c26_3n (by decide) | exact absurd (by decide) c26_3n | exact absurd rfl c26_3n | omega
          · have c26_3n := mt (n0_eq (a := 1) (by omega)).mpr c26_3
            refine go_iinc (v := nI (k + 1)) (ls' := [some (.ref x), some (.int (nI (k + 1)))]) dX11_changeWhileAgreed_29 rfl (nI_1 (k)) ⟨by decide, rfl, rfl⟩ ?_
            refine go_goto dX11_changeWhileAgreed_32 ?_
            refine ih_lp0 (k + 1) _ (by omega) (by omega) hcg.2 hcg.1 ?_ ?_
            · rw [hC, show 60 - k = (60 - (k + 1)) + 1 by omega]
              conv => lhs; unfold chC
              rw [if_neg c26]
              omega
            · rw [hE, show 60 - k = (60 - (k + 1)) + 1 by omega]
              conv => lhs; unfold chE
              rw [if_neg c26]
  exact lp0 61 0 A (Nat.zero_le _) (by omega) seR_0 h.hI (by rw [Nat.zero_add]) rfl
set_option maxHeartbeats 4000000 in
set_option maxRecDepth 100000 in
theorem e_X11_agreed (hX : x2K G m0 x s i0 t w os rs n b) (hq : G.2.1 ≤ s) (hn : s + 8 ≤ n) (hqt : G.2.1 ≤ t) (hnt : t + 8 ≤ n) (hdj : s + 8 ≤ t ∨ t + 8 ≤ s) (h : tsH G m0 s n N M F W A B) (hw2 : w2K G m0 s t n W A) : Ev G mX11_agreed 9 0 0 [.ref x] (sc G (sc G m0 s F W A B) t F3 W3 A3 B3) n (fun r f1 n1 => r = some (.int (agrS N A)) ∧ (∃ F4 W4 A4 B4, f1 = sc G (sc G m0 s F W A B) t F4 W4 A4 B4) ∧ n1 = n) := by
  generalize hQ9 : (fun r f1 n1 => r = some (.int (agrS N A)) ∧ (∃ F4 W4 A4 B4, f1 = sc G (sc G m0 s F W A B) t F4 W4 A4 B4) ∧ n1 = n : RQ) = Q9
  refine ev_of (by decide) (Nat.le_of_ble_eq_true rfl) (ls := [some (.ref x), none]) rfl (fun hb => ?_)
  have hxn := hX.2.2.1
  refine go_aload_n dX11_agreed_0 rfl ?_
  refine go_V [] [] dX11_agreed_1 vl_X11_202 ⟨by decide, by decide⟩ (e_X11_changeWhileAgreed (F3 := F3) (W3 := W3) (A3 := A3) (B3 := B3) hX hq hn hqt hnt hdj h hw2) hX.at hX.2.1 (by omega) rfl rfl (Nat.le_of_ble_eq_true rfl) (Nat.le_of_ble_eq_true rfl) (Nat.le_of_ble_eq_true rfl) (fun r1 f1 n1 h1 => ?_)
  obtain ⟨rfl, rfl, hn1⟩ := h1
  subst n1
  have hE := chE_ok (M := M) h.hN8 60 h.hI
  have hs := (h.tri (F := F) (W := W) (B := B) (t := t) hw2).seR hE.2.1 hE.1
  refine go_istore_n (ls' := [some (.ref x), some (.int (nI (chC N 60 A)))]) dX11_agreed_4 ⟨by decide, rfl, rfl⟩ ?_
  refine go_aload_n dX11_agreed_5 rfl ?_
  refine go_get dX11_agreed_6 fl_X11_19_11 hX.at hX.2.1 hX.2.2.1 rfl ?_
  refine go_Vr [] [] dX11_agreed_9 vl_X11_205 ⟨by decide, by decide⟩ (e_X5_firstAgreed2 hqt hnt hs) sc_obj hqt (by omega) rfl rfl (Nat.le_of_ble_eq_true rfl) (Nat.le_of_ble_eq_true rfl) (Nat.le_of_ble_eq_true rfl) ?_
  refine go_bipush (v := (-4)) dX11_agreed_12 rfl ?_
  refine go_icmp_ne dX11_agreed_14 (fun c14 => ?_) (fun c14 => ?_)
  · refine go_bipush (v := (-4)) dX11_agreed_21 rfl ?_
    exact go_iret dX11_agreed_23 rfl (Nat.le_of_ble_eq_true rfl) (Nat.le_of_ble_eq_true rfl) (hQ9 ▸ ⟨rd_i (by unfold agrS; rw [if_neg (mt (nxS_4 h.hN8).mpr c14)]), ⟨_, _, _, _, rfl⟩, rfl⟩)
  · refine go_iload_n dX11_agreed_17 rfl ?_
    refine go_goto dX11_agreed_18 ?_
    exact go_iret dX11_agreed_23 rfl (Nat.le_of_ble_eq_true rfl) (Nat.le_of_ble_eq_true rfl) (hQ9 ▸ ⟨rd_i (by unfold agrS; rw [if_pos ((nxS_4 h.hN8).mp c14)]), ⟨_, _, _, _, rfl⟩, rfl⟩)
set_option maxHeartbeats 4000000 in
set_option maxRecDepth 100000 in
theorem e_X11_agreedContent (hX : x2K G m0 x s i0 t w os rs n b) (hq : G.2.1 ≤ s) (hn : s + 8 ≤ n) (hqt : G.2.1 ≤ t) (hnt : t + 8 ≤ n) (hdj : s + 8 ≤ t ∨ t + 8 ≤ s) (h : tsH G m0 s n N M F W A B) (hw2 : w2K G m0 s t n W A) : Ev G mX11_agreedContent 9 0 0 [.ref x] (sc G (sc G m0 s F W A B) t F3 W3 A3 B3) n (fun r f1 n1 => r = some (.int (alS N (chE N 60 A))) ∧ (∃ F4 W4 A4 B4, f1 = sc G (sc G m0 s F W A B) t F4 W4 A4 B4) ∧ n1 = n) := by
  generalize hQ9 : (fun r f1 n1 => r = some (.int (alS N (chE N 60 A))) ∧ (∃ F4 W4 A4 B4, f1 = sc G (sc G m0 s F W A B) t F4 W4 A4 B4) ∧ n1 = n : RQ) = Q9
  refine ev_of (by decide) (Nat.le_of_ble_eq_true rfl) (ls := [some (.ref x)]) rfl (fun hb => ?_)
  have hxn := hX.2.2.1
  refine go_aload_n dX11_agreedContent_0 rfl ?_
  refine go_V [] [] dX11_agreedContent_1 vl_X11_202 ⟨by decide, by decide⟩ (e_X11_changeWhileAgreed (F3 := F3) (W3 := W3) (A3 := A3) (B3 := B3) hX hq hn hqt hnt hdj h hw2) hX.at hX.2.1 (by omega) rfl rfl (Nat.le_of_ble_eq_true rfl) (Nat.le_of_ble_eq_true rfl) (Nat.le_of_ble_eq_true rfl) (fun r1 f1 n1 h1 => ?_)
  obtain ⟨rfl, rfl, hn1⟩ := h1
  subst n1
  have hE := chE_ok (M := M) h.hN8 60 h.hI
  have hs := (h.tri (F := F) (W := W) (B := B) (t := t) hw2).seR hE.2.1 hE.1
  refine go_pop dX11_agreedContent_4 rfl ?_
  refine go_aload_n dX11_agreedContent_5 rfl ?_
  refine go_get dX11_agreedContent_6 fl_X11_19_11 hX.at hX.2.1 hX.2.2.1 rfl ?_
  refine go_Vr [] [] dX11_agreedContent_9 vl_X11_208 ⟨by decide, by decide⟩ (e_X5_contentOfAll hqt hnt hs.hN hs.hN8 hs.hM hs.hM5 hs.hbe hs.hw hs.hab hs.hI) sc_obj hqt (by omega) rfl rfl (Nat.le_of_ble_eq_true rfl) (Nat.le_of_ble_eq_true rfl) (Nat.le_of_ble_eq_true rfl) ?_
  exact go_iret dX11_agreedContent_12 rfl (Nat.le_of_ble_eq_true rfl) (Nat.le_of_ble_eq_true rfl) (hQ9 ▸ ⟨rfl, ⟨_, _, _, _, rfl⟩, rfl⟩)
end D8
