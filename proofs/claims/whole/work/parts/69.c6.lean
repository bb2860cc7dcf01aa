/-- how all bear all, but for the p-th -/
def beX (N p : Nat) (A : Nat → Nat → Int32) (B : Nat → Int32) : Prop := ∀ a b, a < N → b < N → a ≠ p → b ≠ p → B (a * 8 + b) = brS A a b
def beI (N p i : Nat) (A : Nat → Nat → Int32) (B : Nat → Int32) : Prop := beX N p A B ∧ ∀ j, j < i → B (p * 8 + j) = brS A p j ∧ B (j * 8 + p) = brS A j p
theorem beI_s {N p i : Nat} {A : Nat → Nat → Int32} {B : Nat → Int32} (h : beI N p i A B) (hp : p < 8) (hi : i < 8) (hN : N ≤ 8) : beI N p (i + 1) A (upd (upd B (p * 8 + i) (brS A p i)) (i * 8 + p) (brS A i p)) := by
  refine ⟨fun a b ha hb h1 h2 => ?_, fun j hj => ?_⟩
  · unfold upd
    rw [if_neg (by omega), if_neg (by omega), h.1 a b ha hb h1 h2]
  · unfold upd
    by_cases e : j = i
    · subst e
      refine ⟨?_, by rw [if_pos rfl]⟩
      by_cases e2 : p * 8 + j = j * 8 + p
      · have e3 : p = j := by omega
        rw [if_pos e2, e3]
      · rw [if_neg e2, if_pos rfl]
    · obtain ⟨h1, h2⟩ := h.2 j (by omega)
      refine ⟨?_, ?_⟩
      · by_cases e2 : p * 8 + j = i * 8 + p
        · exact absurd (show j = i by omega) e
        · rw [if_neg e2, if_neg (by omega), h1]
      · rw [if_neg (by omega)]
        by_cases e2 : j * 8 + p = p * 8 + i
        · exact absurd (show j = i by omega) e
        · rw [if_neg e2, h2]
theorem beI_e {N p : Nat} {A : Nat → Nat → Int32} {B : Nat → Int32} (h : beI N p N A B) (hp : p < N) : ∀ a b, a < N → b < N → B (a * 8 + b) = brS A a b := by
  intro a b ha hb
  by_cases e : a = p
  · subst e; exact (h.2 b hb).1
  · by_cases e2 : b = p
    · subst e2; exact (h.2 a ha).2
    · exact h.1 a b ha hb e e2
/-- the other's rows, as far as they go; what lay behind stays -/
def cpyA (A A2 : Nat → Nat → Int32) : Nat → Nat → Int32 := fun r i => if (r = 1 ∨ r = 2 ∨ r = 3 ∨ r = 4) ∧ i < 8 then A2 r i else if (r = 5 ∨ r = 6 ∨ r = 7) ∧ i < 5 then A2 r i else A r i
def cpyB (B B2 : Nat → Int32) : Nat → Int32 := fun i => if i < 64 then B2 i else B i
def cpyW (W W2 : Nat → Option Nat) (k : Nat) : Nat → Option Nat := fun i => if i < k then W2 i else W i
theorem cpyW_0 {W W2 : Nat → Option Nat} : cpyW W W2 0 = W := by
  funext i
  unfold cpyW
  rw [if_neg (by omega)]
theorem cpyW_s {W W2 : Nat → Option Nat} {k : Nat} : va_up (cpyW W W2 k) k (W2 k) = cpyW W W2 (k + 1) := by
  funext i
  unfold va_up cpyW
  by_cases e : i = k
  · subst e; rw [if_pos rfl, if_pos (by omega)]
  · rw [if_neg e]
    by_cases h : i < k
    · rw [if_pos h, if_pos (by omega)]
    · rw [if_neg h, if_neg (by omega)]
theorem sc_ext {G : GX} {m0 : Mem} {s : Nat} {F F' : Nat → Int32} {W W' : Nat → Option Nat} {A A' : Nat → Nat → Int32} {B B' : Nat → Int32} (h0 : ∀ j, j < 3 → F' j = F j) (hW : W' = W) (hA : ∀ r, 3 ≤ r → r ≤ 7 → A' r = A r) (hB : B' = B) : sc G m0 s F W A B = sc G m0 s F' W' A' B' := by
  subst hW
  subst hB
  unfold sc scE sfs
  rw [h0 0 (by decide), h0 1 (by decide), h0 2 (by decide), hA 3 (by decide) (by decide), hA 4 (by decide) (by decide), hA 5 (by decide) (by decide), hA 6 (by decide) (by decide), hA 7 (by decide) (by decide)]
theorem sc_cpy {G : GX} {m0 : Mem} {s : Nat} {F : Nat → Int32} {W : Nat → Option Nat} {A : Nat → Nat → Int32} {B : Nat → Int32} {j r len : Nat} {g : Nat → Int32} (h : (j = 2 ∧ r = 3 ∧ len = 8) ∨ (j = 3 ∧ r = 4 ∧ len = 8) ∨ (j = 5 ∧ r = 5 ∧ len = 5) ∨ (j = 6 ∧ r = 6 ∧ len = 5) ∨ (j = 7 ∧ r = 7 ∧ len = 5)) : va_up (sc G m0 s F W A B) (s + j) (ia G len g) = sc G m0 s F W (fun r' => if r' = r then g else A r') B := by
  refine sc_up (by omega) (fun i' hi => ?_)
  unfold scE
  rcases h with ⟨rfl, rfl, rfl⟩ | ⟨rfl, rfl, rfl⟩ | ⟨rfl, rfl, rfl⟩ | ⟨rfl, rfl, rfl⟩ | ⟨rfl, rfl, rfl⟩
  all_goals
    match i', hi with
    | 0, _ => rfl
    | 1, _ => rfl
    | 2, _ => rfl
    | 3, _ => rfl
    | 4, _ => rfl
    | 5, _ => rfl
    | 6, _ => rfl
    | 7, _ => rfl
theorem sc_cpyB {G : GX} {m0 : Mem} {s : Nat} {F : Nat → Int32} {W : Nat → Option Nat} {A : Nat → Nat → Int32} {B g : Nat → Int32} : va_up (sc G m0 s F W A B) (s + 4) (ia G 64 g) = sc G m0 s F W A g := by
  refine sc_up (by decide) (fun i' hi => ?_)
  unfold scE
  match i', hi with
  | 0, _ => rfl
  | 1, _ => rfl
  | 2, _ => rfl
  | 3, _ => rfl
  | 4, _ => rfl
  | 5, _ => rfl
  | 6, _ => rfl
  | 7, _ => rfl
theorem bc_rows {A A2 : Nat → Nat → Int32} {r : Nat} (h3 : 3 ≤ r) (h7 : r ≤ 7) : cpyA A A2 r = (if r = 7 then va_cpy (A2 7) (A 7) 0 0 5 else if r = 6 then va_cpy (A2 6) (A 6) 0 0 5 else if r = 5 then va_cpy (A2 5) (A 5) 0 0 5 else if r = 4 then va_cpy (A2 4) (A 4) 0 0 8 else if r = 3 then va_cpy (A2 3) (A 3) 0 0 8 else A r) := by
  funext i
  unfold cpyA va_cpy
  have : r = 3 ∨ r = 4 ∨ r = 5 ∨ r = 6 ∨ r = 7 := by omega
  rcases this with rfl | rfl | rfl | rfl | rfl <;> simp
theorem bc_B {B B2 : Nat → Int32} : cpyB B B2 = va_cpy B2 B 0 0 64 := by
  funext i
  unfold cpyB va_cpy
  simp
section C6
variable {G : GX} {m0 f : Mem} {s s2 n N M v : Nat} {F F2 : Nat → Int32} {W W2 : Nat → Option Nat} {A A2 : Nat → Nat → Int32} {B B2 : Nat → Int32}
set_option maxHeartbeats 4000000 in
set_option maxRecDepth 100000 in
theorem e_X5_seat (hq : G.2.1 ≤ s) (hn : s + 8 ≤ n) (hN : F 0 = nI N) (hN8 : N ≤ 8) {p : Nat} (hp : p < N) (hv0 : oneM G m0 n v (A 1 p) (A 2 p)) (hvo : v < s ∨ s + 8 ≤ v) (hw : whoOK G m0 s n (va_up W p (some v)) A) (hbe0 : beX N p A B) : Ev G mX5_seat 5 0 0 [.ref s, .ref v, .int (nI p)] (sc G m0 s F W A B) n (fun r f1 n1 => r = none ∧ (∃ B', (∀ a b, a < N → b < N → B' (a * 8 + b) = brS A a b) ∧ f1 = sc G m0 s F (va_up W p (some v)) A B') ∧ n1 = n) := by
  generalize hQ9 : (fun r f1 n1 => r = none ∧ (∃ B', (∀ a b, a < N → b < N → B' (a * 8 + b) = brS A a b) ∧ f1 = sc G m0 s F (va_up W p (some v)) A B') ∧ n1 = n : RQ) = Q9
  refine ev_of (by decide) (Nat.le_of_ble_eq_true rfl) (ls := [some (.ref s), some (.ref v), some (.int (nI p)), none, none]) rfl (fun hb => ?_)
  have hvS : oneM G (sc G m0 s F W A B) n v (A 1 p) (A 2 p) := hv0.sc hvo
  refine go_aload_n dX5_seat_0 rfl ?_
  refine go_get dX5_seat_1 fl_X5_23_5 sc_obj hq (by omega) rfl ?_
  refine go_iload_n dX5_seat_4 rfl ?_
  refine go_aload_n dX5_seat_5 rfl ?_
  obtain ⟨k6, g6, hk6, hg6, ek6, eg6, he6, hlo6, hhi6⟩ := (id hvS)
  refine go_oast dX5_seat_6 sc_1 (by omega) (by omega) rfl (vp_in_nI (n := p) (by show p < 8; omega) (by decide)) he6 hlo6 hhi6 (oneCi_q hk6) (oneCi_c hk6) ?_
  refine go_mem (sc_setW _ _) ?_
  rw [nI_clamp (by omega)]
  refine go_iconst (v := 0) dX5_seat_7 rfl ?_
  refine go_istore_n (ls' := [some (.ref s), some (.ref v), some (.int (nI p)), some (.int 0), none]) dX5_seat_8 ⟨by decide, rfl, rfl⟩ ?_
  have lp0 : ∀ (μ_lp0 : Nat) (i : Nat) (B1 : Nat → Int32) (hi : i ≤ N) (hmi : N + 1 ≤ i + μ_lp0) (hB1 : beI N p i A B1), Go G mX5_seat 5 0 0 Q9 0 0 9 [some (.ref s), some (.ref v), some (.int (nI p)), some (.int (nI i)), none] [] (sc G m0 s F (va_up W p (some v)) A B1) n := by
    intro μ_lp0
    induction μ_lp0 with
    | zero =>
      intro i B1 hi hmi hB1
      exact absurd hmi (by omega)
    | succ μ_lp0 ih_lp0 =>
      intro i B1 hi hmi hB1
      refine go_iload_n dX5_seat_9 rfl ?_
      refine go_aload_n dX5_seat_10 rfl ?_
      refine go_get dX5_seat_11 fl_X5_9_5 sc_obj hq (by omega) rfl ?_
      refine go_tp (z := nI N) (hN) ?_
      refine go_icmp_ge dX5_seat_14 (fun c14 => ?_) (fun c14 => ?_)
      · have c14n := (nI_leI (a := N) (b := i) (by omega) (by omega)).mp c14
        have c14n := Nat.not_lt.mpr c14n
        have c14 := Int32.not_lt.mpr c14
        exact go_vret dX5_seat_80 rfl (Nat.le_of_ble_eq_true rfl) (Nat.le_of_ble_eq_true rfl) (hQ9 ▸ ⟨rfl, ⟨_, beI_e (by have e : i = N := (by omega); rw [e] at hB1; exact hB1) hp, rfl⟩, rfl⟩)
      · have c14n := mt (nI_leI (a := N) (b := i) (by omega) (by omega)).mpr c14
        have c14n := Nat.lt_of_not_le c14n
        have c14 := Int32.not_le.mp c14
        refine go_aload_n dX5_seat_17 rfl ?_
        refine go_get dX5_seat_18 fl_X5_23_5 sc_obj hq (by omega) rfl ?_
        refine go_iload_n dX5_seat_21 rfl ?_
        obtain ⟨w22, ew22, hw22m, hw22o⟩ := hw i (by omega)
        refine go_oald dX5_seat_22 sc_1 (by omega) (by omega) (vp_in_nI (n := i) (by show i < 8; omega) (by decide)) ?_
        refine go_tv (w := .ref w22) (by rw [nI_clamp (by omega), ew22]; rfl) ?_
        refine go_astore (ls' := [some (.ref s), some (.ref v), some (.int (nI p)), some (.int (nI i)), some (.ref w22)]) dX5_seat_23 ⟨by decide, rfl, rfl⟩ ?_
        refine go_aload_n dX5_seat_25 rfl ?_
        refine go_get dX5_seat_26 fl_X5_34_5 sc_obj hq (by omega) rfl ?_
        refine go_iload_n dX5_seat_29 rfl ?_
        refine go_bipush (v := 8) dX5_seat_30 rfl ?_
        refine go_imul dX5_seat_32 ?_
        refine go_tp (z := nI (p * 8)) (pk_mul p 8) ?_
        refine go_iload_n dX5_seat_33 rfl ?_
        refine go_iadd dX5_seat_34 ?_
        refine go_tp (z := nI ((p * 8) + i)) (nI_add (p * 8) i) ?_
        refine go_aload_n dX5_seat_35 rfl ?_
        refine go_aload dX5_seat_36 rfl ?_
        refine go1_X5_figure (hw22m.sc hw22o) dX5_seat_38 rfl ?_
        refine go_aload dX5_seat_41 rfl ?_
        refine go1_X5_damp (hw22m.sc hw22o) dX5_seat_43 rfl (by omega) (Nat.le_of_ble_eq_true rfl) (Nat.le_of_ble_eq_true rfl) (Nat.le_of_ble_eq_true rfl) ?_
        obtain ⟨kj46, gj46, hkj46, hgj46, ekj46, egj46, -, -, -⟩ := (id hw22m)
        refine go_tp (z := dampS (nI kj46)) (by rw [ekj46]) ?_
        refine go1_X5_bearing hkj46 hgj46 egj46 (hv0.sc hvo) dX5_seat_46 rfl (by omega) (Nat.le_of_ble_eq_true rfl) (Nat.le_of_ble_eq_true rfl) (Nat.le_of_ble_eq_true rfl) ?_
        refine go_tp (z := bearS (A 1 p) (A 2 p) (A 1 i) (A 2 i)) (by rw [ekj46]) ?_
        refine go_iast dX5_seat_49 sc_4 (by omega) (by omega) (vp_in_nI (n := (p * 8) + i) (by show (p * 8) + i < 64; omega) (by decide)) ?_
        refine go_mem (sc_set4 _ _) ?_
        rw [nI_clamp (by omega)]
        refine go_aload_n dX5_seat_50 rfl ?_
        refine go_get dX5_seat_51 fl_X5_34_5 sc_obj hq (by omega) rfl ?_
        refine go_iload_n dX5_seat_54 rfl ?_
        refine go_bipush (v := 8) dX5_seat_55 rfl ?_
        refine go_imul dX5_seat_57 ?_
        refine go_tp (z := nI (i * 8)) (pk_mul i 8) ?_
        refine go_iload_n dX5_seat_58 rfl ?_
        refine go_iadd dX5_seat_59 ?_
        refine go_tp (z := nI ((i * 8) + p)) (nI_add (i * 8) p) ?_
        refine go_aload dX5_seat_60 rfl ?_
        refine go_aload_n dX5_seat_62 rfl ?_
        refine go1_X5_figure (hv0.sc hvo) dX5_seat_63 rfl ?_
        refine go_aload_n dX5_seat_66 rfl ?_
        refine go1_X5_damp (hv0.sc hvo) dX5_seat_67 rfl (by omega) (Nat.le_of_ble_eq_true rfl) (Nat.le_of_ble_eq_true rfl) (Nat.le_of_ble_eq_true rfl) ?_
        obtain ⟨kj70, gj70, hkj70, hgj70, ekj70, egj70, -, -, -⟩ := (id hv0)
        refine go_tp (z := dampS (nI kj70)) (by rw [ekj70]) ?_
        refine go1_X5_bearing hkj70 hgj70 egj70 (hw22m.sc hw22o) dX5_seat_70 rfl (by omega) (Nat.le_of_ble_eq_true rfl) (Nat.le_of_ble_eq_true rfl) (Nat.le_of_ble_eq_true rfl) ?_
        refine go_tp (z := bearS (A 1 i) (A 2 i) (A 1 p) (A 2 p)) (by rw [ekj70]) ?_
        refine go_iast dX5_seat_73 sc_4 (by omega) (by omega) (vp_in_nI (n := (i * 8) + p) (by show (i * 8) + p < 64; omega) (by decide)) ?_
        refine go_mem (sc_set4 _ _) ?_
        rw [nI_clamp (by omega)]
        refine go_iinc (v := nI (i + 1)) (ls' := [some (.ref s), some (.ref v), some (.int (nI p)), some (.int (nI (i + 1))), some (.ref w22)]) dX5_seat_74 rfl (nI_1 (i)) ⟨by decide, rfl, rfl⟩ ?_
        refine go_goto dX5_seat_77 ?_
        refine go_weak (ls' := [some (.ref s), some (.ref v), some (.int (nI p)), some (.int (nI (i + 1))), none]) ⟨rfl, rfl, rfl, rfl, trivial⟩ ?_
        exact ih_lp0 (i + 1) _ (by omega) (by omega) (beI_s hB1 (by omega) (by omega) hN8)
  exact lp0 (N + 1) 0 B (Nat.zero_le _) (by omega) ⟨hbe0, fun j hj => absurd hj (by omega)⟩
theorem pcA_34 {N : Nat} {A : Nat → Nat → Int32} {k g h : Int32} {r : Nat} (h3 : 3 ≤ r) : pcA N A k g h r = upA (upA A 3 N h) 4 N 9 r := by
  unfold pcA
  by_cases e4 : r = 4
  · subst e4
    rw [upA_s, upA_s, upA_n _ (by decide), upA_n _ (by decide), upA_n _ (by decide), upA_n _ (by decide)]
  · rw [upA_n _ e4, upA_n _ e4]
    by_cases e3 : r = 3
    · subst e3
      rw [upA_s, upA_s, upA_n _ (by decide), upA_n _ (by decide)]
    · rw [upA_n _ e3, upA_n _ e3, upA_n _ (by omega), upA_n _ (by omega)]
theorem pcA_1 {N : Nat} {A : Nat → Nat → Int32} {k g h : Int32} {p : Nat} : pcA N A k g h 1 p = if p = N then k else A 1 p := by
  unfold pcA
  rw [upA_n _ (by decide), upA_n _ (by decide), upA_n _ (by decide), upA_s]
theorem pcA_2 {N : Nat} {A : Nat → Nat → Int32} {k g h : Int32} {p : Nat} : pcA N A k g h 2 p = if p = N then g else A 2 p := by
  unfold pcA
  rw [upA_n _ (by decide), upA_n _ (by decide), upA_s]
  simp only []
  rw [upA_n _ (by decide)]
theorem pc_br {N : Nat} {A : Nat → Nat → Int32} {k g h : Int32} {B : Nat → Int32} (hbe : ∀ a b, a < N → b < N → B (a * 8 + b) = brS A a b) : beX (N + 1) N (pcA N A k g h) B := by
  intro a b ha hb h1 h2
  rw [hbe a b (by omega) (by omega)]
  unfold brS
  rw [pcA_1, pcA_1, pcA_2, pcA_2, if_neg h1, if_neg h1, if_neg h2, if_neg h2]
theorem pc_who {G : GX} {m0 : Mem} {s n N v : Nat} {W : Nat → Option Nat} {A : Nat → Nat → Int32} {k g h : Int32} (hw : whoOK G m0 s n W A) (hv : oneM G m0 n v k g) (hvo : v < s ∨ s + 8 ≤ v) : whoOK G m0 s n (va_up W N (some v)) (pcA N A k g h) := by
  intro p hp
  by_cases e : p = N
  · subst e
    refine ⟨v, by unfold va_up; rw [if_pos rfl], ?_, hvo⟩
    rw [pcA_1, pcA_2, if_pos rfl, if_pos rfl]
    exact hv
  · obtain ⟨a, h1, h2, h3⟩ := hw p hp
    refine ⟨a, by unfold va_up; rw [if_neg e]; exact h1, ?_, h3⟩
    rw [pcA_1, pcA_2, if_neg e, if_neg e]
    exact h2
/-- one comes: what the class answers, what it leaves -/
def jcQ (G : GX) (m0 : Mem) (s n N : Nat) (F : Nat → Int32) (W : Nat → Option Nat) (A : Nat → Nat → Int32) (B : Nat → Int32) (v : Nat) (k g h : Int32) : RQ := fun r f1 n1 => n1 = n ∧ ((okr h 0 5 = true ∧ N < 8 ∧ r = some (.int (nI N)) ∧ ∃ B', (∀ a b, a < N + 1 → b < N + 1 → B' (a * 8 + b) = brS (pcA N A k g h) a b) ∧ f1 = sc G m0 s (upd F 0 (nI (N + 1))) (va_up W N (some v)) (pcA N A k g h) B') ∨ (¬ (okr h 0 5 = true ∧ N < 8) ∧ r = some (.int (if okr h 0 5 = true then -2 else -1)) ∧ f1 = sc G m0 s F W A B))
set_option maxHeartbeats 4000000 in
set_option maxRecDepth 100000 in
theorem e_X5_join (hq : G.2.1 ≤ s) (hn : s + 8 ≤ n) (hN : F 0 = nI N) (hN8 : N ≤ 8) (hbe : ∀ a b, a < N → b < N → B (a * 8 + b) = brS A a b) (hw : whoOK G m0 s n W A) {kv gv h : Int32} (hv0 : oneM G m0 n v kv gv) (hvo : v < s ∨ s + 8 ≤ v) : Ev G mX5_join 6 0 0 [.ref s, .ref v, .int h] (sc G m0 s F W A B) n (jcQ G m0 s n N F W A B v kv gv h) := by
  generalize hQ9 : (jcQ G m0 s n N F W A B v kv gv h : RQ) = Q9
  refine ev_of (by decide) (Nat.le_of_ble_eq_true rfl) (ls := [some (.ref s), some (.ref v), some (.int h), none]) rfl (fun hb => ?_)
  refine go_aload_n dX5_join_0 rfl ?_
  refine go_ifnull dX5_join_1 ?_
  refine go_iload_n dX5_join_4 rfl ?_
  refine go_iconst (v := 0) dX5_join_5 rfl ?_
  refine go_iconst (v := 5) dX5_join_6 rfl ?_
  refine go_Sr [.int h, .int 0, .int 5] [] dX5_join_7 sl_X5_92 ⟨by decide, by decide⟩ (e_X11_isWithin) rfl rfl (Nat.le_of_ble_eq_true rfl) (Nat.le_of_ble_eq_true rfl) (Nat.le_of_ble_eq_true rfl) ?_
  refine go_if_ne dX5_join_10 (fun c10 => ?_) (fun c10 => ?_)
  · have c10 := bz_t c10
    refine go_aload_n dX5_join_15 rfl ?_
    refine go_get dX5_join_16 fl_X5_9_5 sc_obj hq (by omega) rfl ?_
    refine go_tp (z := nI N) (hN) ?_
    refine go_bipush (v := 8) dX5_join_19 rfl ?_
    refine go_icmp_lt dX5_join_21 (fun c21 => ?_) (fun c21 => ?_)
    · have c21n := (nI_ltI (a := N) (b := 8) (by omega) (by omega)).mp c21
      refine go_aload_n dX5_join_27 rfl ?_
      refine go_get dX5_join_28 fl_X5_9_5 sc_obj hq (by omega) rfl ?_
      refine go_tp (z := nI N) (hN) ?_
      refine go_istore_n (ls' := [some (.ref s), some (.ref v), some (.int h), some (.int (nI N))]) dX5_join_31 ⟨by decide, rfl, rfl⟩ ?_
      refine go_aload_n dX5_join_32 rfl ?_
      refine go_dup dX5_join_33 rfl ?_
      refine go_get dX5_join_34 fl_X5_9_5 sc_obj hq (by omega) rfl ?_
      refine go_tp (z := nI N) (hN) ?_
      refine go_iconst (v := 1) dX5_join_37 rfl ?_
      refine go_iadd dX5_join_38 ?_
      refine go_tp (z := nI (N + 1)) (nI_add N 1) ?_
      refine go_put dX5_join_39 fp_X5_9_5 (Or.inr (fun _ _ _ h => by cases h; rfl)) sc_obj hq (by omega) rfl rfl (Nat.le_of_ble_eq_true rfl) ?_
      refine go_mem (f' := (sc G m0 s (upd F 0 (nI (N + 1))) W A B)) (sc_setF rfl) ?_
      refine go_aload_n dX5_join_42 rfl ?_
      refine go_get dX5_join_43 fl_X5_27_5 sc_obj hq (by omega) rfl ?_
      refine go_iload_n dX5_join_46 rfl ?_
      refine go_iload_n dX5_join_47 rfl ?_
      refine go_iast dX5_join_48 sc_2 (by omega) (by omega) (vp_in_nI (n := N) (by show N < 8; omega) (by decide)) ?_
      refine go_mem (sc_set2 _ _) ?_
      rw [nI_clamp (by omega)]
      refine go_aload_n dX5_join_49 rfl ?_
      refine go_get dX5_join_50 fl_X5_31_5 sc_obj hq (by omega) rfl ?_
      refine go_iload_n dX5_join_53 rfl ?_
      refine go_bipush (v := 9) dX5_join_54 rfl ?_
      refine go_iast dX5_join_56 sc_3 (by omega) (by omega) (vp_in_nI (n := N) (by show N < 8; omega) (by decide)) ?_
      refine go_mem (sc_set3 _ _) ?_
      rw [nI_clamp (by omega)]
      refine go_mem (f' := (sc G m0 s (upd F 0 (nI (N + 1))) W (pcA N A kv gv h) B)) (sc_rows (fun r h3 h7 => pcA_34 h3)) ?_
      refine go_aload_n dX5_join_57 rfl ?_
      refine go_aload_n dX5_join_58 rfl ?_
      refine go_iload_n dX5_join_59 rfl ?_
      refine go_V [.ref v, .int (nI N)] [] dX5_join_60 vl_X5_96 ⟨by decide, by decide⟩ (e_X5_seat (F := (upd F 0 (nI (N + 1)))) (W := W) (A := pcA N A kv gv h) (B := B) hq hn (N := N + 1) rfl (by omega) (p := N) (by omega) (by rw [pcA_1, pcA_2, if_pos rfl, if_pos rfl]; exact hv0) hvo (pc_who hw hv0 hvo) (pc_br hbe)) sc_obj hq (by omega) rfl rfl (Nat.le_of_ble_eq_true rfl) (Nat.le_of_ble_eq_true rfl) (Nat.le_of_ble_eq_true rfl) (fun r60 f60 n60 h60 => ?_)
      obtain ⟨rfl, ⟨B57, hB57, rfl⟩, hn60⟩ := h60
      subst n60
      refine go_iload_n dX5_join_63 rfl ?_
      exact go_iret dX5_join_64 rfl (Nat.le_of_ble_eq_true rfl) (Nat.le_of_ble_eq_true rfl) (hQ9 ▸ ⟨rfl, Or.inl ⟨c10, by omega, rfl, _, hB57, rfl⟩⟩)
    · have c21n := mt (nI_ltI (a := N) (b := 8) (by omega) (by omega)).mpr c21
      refine go_bipush (v := (-2)) dX5_join_24 rfl ?_
      exact go_iret dX5_join_26 rfl (Nat.le_of_ble_eq_true rfl) (Nat.le_of_ble_eq_true rfl) (hQ9 ▸ ⟨rfl, Or.inr ⟨by omega, rd_i (by rw [if_pos c10]), rfl⟩⟩)
  · have c10 := bz_f c10
    refine go_iconst (v := (-1)) dX5_join_13 rfl ?_
    exact go_iret dX5_join_14 rfl (Nat.le_of_ble_eq_true rfl) (Nat.le_of_ble_eq_true rfl) (hQ9 ▸ ⟨rfl, Or.inr ⟨by simp [c10], rd_i (by rw [if_neg c10]), rfl⟩⟩)
set_option maxHeartbeats 4000000 in
set_option maxRecDepth 100000 in
theorem e_X5_joinN (hq : G.2.1 ≤ s) (hn : s + 8 ≤ n) {h : Int32} : Ev G mX5_join 1 0 0 [.ref s, .null, .int h] (sc G m0 s F W A B) n (RD (.int (-1)) (sc G m0 s F W A B) n) := by
  generalize hQ9 : (RD (.int (-1)) (sc G m0 s F W A B) n : RQ) = Q9
  refine ev_of (by decide) (Nat.le_of_ble_eq_true rfl) (ls := [some (.ref s), some (.null), some (.int h), none]) rfl (fun hb => ?_)
  refine go_aload_nN dX5_join_0 rfl ?_
  refine go_ifnullN dX5_join_1 ?_
  refine go_iconst (v := (-1)) dX5_join_13 rfl ?_
  exact go_iret dX5_join_14 rfl (Nat.le_of_ble_eq_true rfl) (Nat.le_of_ble_eq_true rfl) (hQ9 ▸ ⟨rfl, rfl, rfl⟩)
set_option maxHeartbeats 4000000 in
set_option maxRecDepth 100000 in
theorem e_X5_becomes (hq : G.2.1 ≤ s) (hn : s + 8 ≤ n) (hq2 : G.2.1 ≤ s2) (hn2 : s2 + 8 ≤ n) (hdj : s2 + 8 ≤ s ∨ s + 8 ≤ s2) (hw2 : ∀ p, p < 8 → ∃ a, W2 p = some a ∧ oneM G m0 n a (A2 1 p) (A2 2 p) ∧ (a < s2 ∨ s2 + 8 ≤ a) ∧ (a < s ∨ s + 8 ≤ a)) : Ev G mX5_becomes 3 0 0 [.ref s, .ref s2] (sc G (sc G m0 s2 F2 W2 A2 B2) s F W A B) n (fun r f1 n1 => r = none ∧ f1 = sc G (sc G m0 s2 F2 W2 A2 B2) s (upd (upd (upd F 0 (F2 0)) 1 (F2 1)) 2 (F2 2)) (cpyW W W2 8) (cpyA A A2) (cpyB B B2) ∧ n1 = n) := by
  generalize hQ9 : (fun r f1 n1 => r = none ∧ f1 = sc G (sc G m0 s2 F2 W2 A2 B2) s (upd (upd (upd F 0 (F2 0)) 1 (F2 1)) 2 (F2 2)) (cpyW W W2 8) (cpyA A A2) (cpyB B B2) ∧ n1 = n : RQ) = Q9
  refine ev_of (by decide) (Nat.le_of_ble_eq_true rfl) (ls := [some (.ref s), some (.ref s2), none]) rfl (fun hb => ?_)
  refine go_aload_n dX5_becomes_0 rfl ?_
  refine go_aload_n dX5_becomes_1 rfl ?_
  refine go_get dX5_becomes_2 fl_X5_9_5 ((sc_out (by omega)).trans sc_obj) hq2 (by omega) rfl ?_
  refine go_tp (z := F2 0) rfl ?_
  refine go_put dX5_becomes_5 fp_X5_9_5 (Or.inr (fun _ _ _ h => by cases h; rfl)) sc_obj hq (by omega) rfl rfl (Nat.le_of_ble_eq_true rfl) ?_
  refine go_mem (f' := (sc G (sc G m0 s2 F2 W2 A2 B2) s (upd F 0 (F2 0)) W A B)) (sc_setF rfl) ?_
  refine go_aload_n dX5_becomes_8 rfl ?_
  refine go_aload_n dX5_becomes_9 rfl ?_
  refine go_get dX5_becomes_10 fl_X5_15_5 ((sc_out (by omega)).trans sc_obj) hq2 (by omega) rfl ?_
  refine go_tp (z := F2 1) rfl ?_
  refine go_put dX5_becomes_13 fp_X5_15_5 (Or.inr (fun _ _ _ h => by cases h; rfl)) sc_obj hq (by omega) rfl rfl (Nat.le_of_ble_eq_true rfl) ?_
  refine go_mem (f' := (sc G (sc G m0 s2 F2 W2 A2 B2) s (upd (upd F 0 (F2 0)) 1 (F2 1)) W A B)) (sc_setF rfl) ?_
  refine go_aload_n dX5_becomes_16 rfl ?_
  refine go_aload_n dX5_becomes_17 rfl ?_
  refine go_get dX5_becomes_18 fl_X5_18_5 ((sc_out (by omega)).trans sc_obj) hq2 (by omega) rfl ?_
  refine go_tp (z := F2 2) rfl ?_
  refine go_put dX5_becomes_21 fp_X5_18_5 (Or.inr (fun _ _ _ h => by cases h; rfl)) sc_obj hq (by omega) rfl rfl (Nat.le_of_ble_eq_true rfl) ?_
  refine go_mem (f' := (sc G (sc G m0 s2 F2 W2 A2 B2) s (upd (upd (upd F 0 (F2 0)) 1 (F2 1)) 2 (F2 2)) W A B)) (sc_setF rfl) ?_
  refine go_iconst (v := 0) dX5_becomes_24 rfl ?_
  refine go_istore_n (ls' := [some (.ref s), some (.ref s2), some (.int 0)]) dX5_becomes_25 ⟨by decide, rfl, rfl⟩ ?_
  have lp0 : ∀ (μ_lp0 : Nat) (i : Nat) (hi : i ≤ 8) (hmi : 9 ≤ i + μ_lp0), Go G mX5_becomes 3 0 0 Q9 0 0 26 [some (.ref s), some (.ref s2), some (.int (nI i))] [] (sc G (sc G m0 s2 F2 W2 A2 B2) s (upd (upd (upd F 0 (F2 0)) 1 (F2 1)) 2 (F2 2)) (cpyW W W2 i) A B) n := by
    intro μ_lp0
    induction μ_lp0 with
    | zero =>
      intro i hi hmi
      exact absurd hmi (by omega)
    | succ μ_lp0 ih_lp0 =>
      intro i hi hmi
      refine go_iload_n dX5_becomes_26 rfl ?_
      refine go_bipush (v := 8) dX5_becomes_27 rfl ?_
      refine go_icmp_ge dX5_becomes_29 (fun c29 => ?_) (fun c29 => ?_)
      · have c29n := (nI_leI (a := 8) (b := i) (by omega) (by omega)).mp c29
        have c29n := Nat.not_lt.mpr c29n
        have c29 := Int32.not_lt.mpr c29
        refine go_aload_n dX5_becomes_50 rfl ?_
        refine go_get dX5_becomes_51 fl_X5_27_5 ((sc_out (by omega)).trans sc_obj) hq2 (by omega) rfl ?_
        refine go_iconst (v := 0) dX5_becomes_54 rfl ?_
        refine go_aload_n dX5_becomes_55 rfl ?_
        refine go_get dX5_becomes_56 fl_X5_27_5 sc_obj hq (by omega) rfl ?_
        refine go_iconst (v := 0) dX5_becomes_59 rfl ?_
        refine go_bipush (v := 8) dX5_becomes_60 rfl ?_
        refine go_copy dX5_becomes_62 wm_201 wm_203 wm_202 wm_6 ((sc_out (by omega)).trans sc_2) sc_2 (by omega) (by omega) (by omega) (by omega) (by decide) (by decide) (by decide) (by decide) (by decide) (Nat.le_of_ble_eq_true rfl) (by omega) ?_
        refine go_mem (f' := (sc G (sc G m0 s2 F2 W2 A2 B2) s (upd (upd (upd F 0 (F2 0)) 1 (F2 1)) 2 (F2 2)) (cpyW W W2 i) (fun r' => if r' = 3 then va_cpy (A2 3) (A 3) 0 0 8 else A r') B)) (sc_cpy (by omega)) ?_
        refine go_aload_n dX5_becomes_65 rfl ?_
        refine go_get dX5_becomes_66 fl_X5_31_5 ((sc_out (by omega)).trans sc_obj) hq2 (by omega) rfl ?_
        refine go_iconst (v := 0) dX5_becomes_69 rfl ?_
        refine go_aload_n dX5_becomes_70 rfl ?_
        refine go_get dX5_becomes_71 fl_X5_31_5 sc_obj hq (by omega) rfl ?_
        refine go_iconst (v := 0) dX5_becomes_74 rfl ?_
        refine go_bipush (v := 8) dX5_becomes_75 rfl ?_
        refine go_copy dX5_becomes_77 wm_201 wm_203 wm_202 wm_6 ((sc_out (by omega)).trans sc_3) sc_3 (by omega) (by omega) (by omega) (by omega) (by decide) (by decide) (by decide) (by decide) (by decide) (Nat.le_of_ble_eq_true rfl) (by omega) ?_
        refine go_mem (f' := (sc G (sc G m0 s2 F2 W2 A2 B2) s (upd (upd (upd F 0 (F2 0)) 1 (F2 1)) 2 (F2 2)) (cpyW W W2 i) (fun r' => if r' = 4 then va_cpy (A2 4) ((fun r' => if r' = 3 then va_cpy (A2 3) (A 3) 0 0 8 else A r') 4) 0 0 8 else (fun r' => if r' = 3 then va_cpy (A2 3) (A 3) 0 0 8 else A r') r') B)) (sc_cpy (by omega)) ?_
        refine go_aload_n dX5_becomes_80 rfl ?_
        refine go_get dX5_becomes_81 fl_X5_34_5 ((sc_out (by omega)).trans sc_obj) hq2 (by omega) rfl ?_
        refine go_iconst (v := 0) dX5_becomes_84 rfl ?_
        refine go_aload_n dX5_becomes_85 rfl ?_
        refine go_get dX5_becomes_86 fl_X5_34_5 sc_obj hq (by omega) rfl ?_
        refine go_iconst (v := 0) dX5_becomes_89 rfl ?_
        refine go_bipush (v := 64) dX5_becomes_90 rfl ?_
        refine go_copy dX5_becomes_92 wm_201 wm_203 wm_202 wm_6 ((sc_out (by omega)).trans sc_4) sc_4 (by omega) (by omega) (by omega) (by omega) (by decide) (by decide) (by decide) (by decide) (by decide) (Nat.le_of_ble_eq_true rfl) (by omega) ?_
        refine go_mem (f' := (sc G (sc G m0 s2 F2 W2 A2 B2) s (upd (upd (upd F 0 (F2 0)) 1 (F2 1)) 2 (F2 2)) (cpyW W W2 i) (fun r' => if r' = 4 then va_cpy (A2 4) ((fun r' => if r' = 3 then va_cpy (A2 3) (A 3) 0 0 8 else A r') 4) 0 0 8 else (fun r' => if r' = 3 then va_cpy (A2 3) (A 3) 0 0 8 else A r') r') (va_cpy B2 B 0 0 64))) sc_cpyB ?_
        refine go_aload_n dX5_becomes_95 rfl ?_
        refine go_get dX5_becomes_96 fl_X5_37_5 ((sc_out (by omega)).trans sc_obj) hq2 (by omega) rfl ?_
        refine go_iconst (v := 0) dX5_becomes_99 rfl ?_
        refine go_aload_n dX5_becomes_100 rfl ?_
        refine go_get dX5_becomes_101 fl_X5_37_5 sc_obj hq (by omega) rfl ?_
        refine go_iconst (v := 0) dX5_becomes_104 rfl ?_
        refine go_iconst (v := 5) dX5_becomes_105 rfl ?_
        refine go_copy dX5_becomes_106 wm_201 wm_203 wm_202 wm_6 ((sc_out (by omega)).trans sc_5) sc_5 (by omega) (by omega) (by omega) (by omega) (by decide) (by decide) (by decide) (by decide) (by decide) (Nat.le_of_ble_eq_true rfl) (by omega) ?_
        refine go_mem (f' := (sc G (sc G m0 s2 F2 W2 A2 B2) s (upd (upd (upd F 0 (F2 0)) 1 (F2 1)) 2 (F2 2)) (cpyW W W2 i) (fun r' => if r' = 5 then va_cpy (A2 5) ((fun r' => if r' = 4 then va_cpy (A2 4) ((fun r' => if r' = 3 then va_cpy (A2 3) (A 3) 0 0 8 else A r') 4) 0 0 8 else (fun r' => if r' = 3 then va_cpy (A2 3) (A 3) 0 0 8 else A r') r') 5) 0 0 5 else (fun r' => if r' = 4 then va_cpy (A2 4) ((fun r' => if r' = 3 then va_cpy (A2 3) (A 3) 0 0 8 else A r') 4) 0 0 8 else (fun r' => if r' = 3 then va_cpy (A2 3) (A 3) 0 0 8 else A r') r') r') (va_cpy B2 B 0 0 64))) (sc_cpy (by omega)) ?_
        refine go_aload_n dX5_becomes_109 rfl ?_
        refine go_get dX5_becomes_110 fl_X5_40_5 ((sc_out (by omega)).trans sc_obj) hq2 (by omega) rfl ?_
        refine go_iconst (v := 0) dX5_becomes_113 rfl ?_
        refine go_aload_n dX5_becomes_114 rfl ?_
        refine go_get dX5_becomes_115 fl_X5_40_5 sc_obj hq (by omega) rfl ?_
        refine go_iconst (v := 0) dX5_becomes_118 rfl ?_
        refine go_iconst (v := 5) dX5_becomes_119 rfl ?_
        refine go_copy dX5_becomes_120 wm_201 wm_203 wm_202 wm_6 ((sc_out (by omega)).trans sc_6) sc_6 (by omega) (by omega) (by omega) (by omega) (by decide) (by decide) (by decide) (by decide) (by decide) (Nat.le_of_ble_eq_true rfl) (by omega) ?_
        refine go_mem (f' := (sc G (sc G m0 s2 F2 W2 A2 B2) s (upd (upd (upd F 0 (F2 0)) 1 (F2 1)) 2 (F2 2)) (cpyW W W2 i) (fun r' => if r' = 6 then va_cpy (A2 6) ((fun r' => if r' = 5 then va_cpy (A2 5) ((fun r' => if r' = 4 then va_cpy (A2 4) ((fun r' => if r' = 3 then va_cpy (A2 3) (A 3) 0 0 8 else A r') 4) 0 0 8 else (fun r' => if r' = 3 then va_cpy (A2 3) (A 3) 0 0 8 else A r') r') 5) 0 0 5 else (fun r' => if r' = 4 then va_cpy (A2 4) ((fun r' => if r' = 3 then va_cpy (A2 3) (A 3) 0 0 8 else A r') 4) 0 0 8 else (fun r' => if r' = 3 then va_cpy (A2 3) (A 3) 0 0 8 else A r') r') r') 6) 0 0 5 else (fun r' => if r' = 5 then va_cpy (A2 5) ((fun r' => if r' = 4 then va_cpy (A2 4) ((fun r' => if r' = 3 then va_cpy (A2 3) (A 3) 0 0 8 else A r') 4) 0 0 8 else (fun r' => if r' = 3 then va_cpy (A2 3) (A 3) 0 0 8 else A r') r') 5) 0 0 5 else (fun r' => if r' = 4 then va_cpy (A2 4) ((fun r' => if r' = 3 then va_cpy (A2 3) (A 3) 0 0 8 else A r') 4) 0 0 8 else (fun r' => if r' = 3 then va_cpy (A2 3) (A 3) 0 0 8 else A r') r') r') r') (va_cpy B2 B 0 0 64))) (sc_cpy (by omega)) ?_
        refine go_aload_n dX5_becomes_123 rfl ?_
        refine go_get dX5_becomes_124 fl_X5_43_5 ((sc_out (by omega)).trans sc_obj) hq2 (by omega) rfl ?_
        refine go_iconst (v := 0) dX5_becomes_127 rfl ?_
        refine go_aload_n dX5_becomes_128 rfl ?_
        refine go_get dX5_becomes_129 fl_X5_43_5 sc_obj hq (by omega) rfl ?_
        refine go_iconst (v := 0) dX5_becomes_132 rfl ?_
        refine go_iconst (v := 5) dX5_becomes_133 rfl ?_
        refine go_copy dX5_becomes_134 wm_201 wm_203 wm_202 wm_6 ((sc_out (by omega)).trans sc_7) sc_7 (by omega) (by omega) (by omega) (by omega) (by decide) (by decide) (by decide) (by decide) (by decide) (Nat.le_of_ble_eq_true rfl) (by omega) ?_
        refine go_mem (f' := (sc G (sc G m0 s2 F2 W2 A2 B2) s (upd (upd (upd F 0 (F2 0)) 1 (F2 1)) 2 (F2 2)) (cpyW W W2 i) (fun r' => if r' = 7 then va_cpy (A2 7) ((fun r' => if r' = 6 then va_cpy (A2 6) ((fun r' => if r' = 5 then va_cpy (A2 5) ((fun r' => if r' = 4 then va_cpy (A2 4) ((fun r' => if r' = 3 then va_cpy (A2 3) (A 3) 0 0 8 else A r') 4) 0 0 8 else (fun r' => if r' = 3 then va_cpy (A2 3) (A 3) 0 0 8 else A r') r') 5) 0 0 5 else (fun r' => if r' = 4 then va_cpy (A2 4) ((fun r' => if r' = 3 then va_cpy (A2 3) (A 3) 0 0 8 else A r') 4) 0 0 8 else (fun r' => if r' = 3 then va_cpy (A2 3) (A 3) 0 0 8 else A r') r') r') 6) 0 0 5 else (fun r' => if r' = 5 then va_cpy (A2 5) ((fun r' => if r' = 4 then va_cpy (A2 4) ((fun r' => if r' = 3 then va_cpy (A2 3) (A 3) 0 0 8 else A r') 4) 0 0 8 else (fun r' => if r' = 3 then va_cpy (A2 3) (A 3) 0 0 8 else A r') r') 5) 0 0 5 else (fun r' => if r' = 4 then va_cpy (A2 4) ((fun r' => if r' = 3 then va_cpy (A2 3) (A 3) 0 0 8 else A r') 4) 0 0 8 else (fun r' => if r' = 3 then va_cpy (A2 3) (A 3) 0 0 8 else A r') r') r') r') 7) 0 0 5 else (fun r' => if r' = 6 then va_cpy (A2 6) ((fun r' => if r' = 5 then va_cpy (A2 5) ((fun r' => if r' = 4 then va_cpy (A2 4) ((fun r' => if r' = 3 then va_cpy (A2 3) (A 3) 0 0 8 else A r') 4) 0 0 8 else (fun r' => if r' = 3 then va_cpy (A2 3) (A 3) 0 0 8 else A r') r') 5) 0 0 5 else (fun r' => if r' = 4 then va_cpy (A2 4) ((fun r' => if r' = 3 then va_cpy (A2 3) (A 3) 0 0 8 else A r') 4) 0 0 8 else (fun r' => if r' = 3 then va_cpy (A2 3) (A 3) 0 0 8 else A r') r') r') 6) 0 0 5 else (fun r' => if r' = 5 then va_cpy (A2 5) ((fun r' => if r' = 4 then va_cpy (A2 4) ((fun r' => if r' = 3 then va_cpy (A2 3) (A 3) 0 0 8 else A r') 4) 0 0 8 else (fun r' => if r' = 3 then va_cpy (A2 3) (A 3) 0 0 8 else A r') r') 5) 0 0 5 else (fun r' => if r' = 4 then va_cpy (A2 4) ((fun r' => if r' = 3 then va_cpy (A2 3) (A 3) 0 0 8 else A r') 4) 0 0 8 else (fun r' => if r' = 3 then va_cpy (A2 3) (A 3) 0 0 8 else A r') r') r') r') r') (va_cpy B2 B 0 0 64))) (sc_cpy (by omega)) ?_
        exact go_vret dX5_becomes_137 rfl (Nat.le_of_ble_eq_true rfl) (Nat.le_of_ble_eq_true rfl) (hQ9 ▸ ⟨rfl, by rw [show i = 8 by omega]; exact sc_ext (fun _ _ => rfl) rfl (fun r h3 h7 => bc_rows h3 h7) (bc_B), rfl⟩)
      · have c29n := mt (nI_leI (a := 8) (b := i) (by omega) (by omega)).mpr c29
        have c29n := Nat.lt_of_not_le c29n
        have c29 := Int32.not_le.mp c29
        refine go_aload_n dX5_becomes_32 rfl ?_
        refine go_get dX5_becomes_33 fl_X5_23_5 sc_obj hq (by omega) rfl ?_
        refine go_iload_n dX5_becomes_36 rfl ?_
        refine go_aload_n dX5_becomes_37 rfl ?_
        refine go_get dX5_becomes_38 fl_X5_23_5 ((sc_out (by omega)).trans sc_obj) hq2 (by omega) rfl ?_
        refine go_iload_n dX5_becomes_41 rfl ?_
        obtain ⟨w42, ew42, hw42, hwo42, hwp42⟩ := hw2 i (by omega)
        refine go_oald dX5_becomes_42 ((sc_out (by omega)).trans sc_1) (by omega) (by omega) (vp_in_nI (n := i) (by show i < 8; omega) (by decide)) ?_
        refine go_tv (w := .ref w42) (by rw [nI_clamp (by omega), ew42]; rfl) ?_
        have hws42 : oneM G (sc G (sc G m0 s2 F2 W2 A2 B2) s (upd (upd (upd F 0 (F2 0)) 1 (F2 1)) 2 (F2 2)) (cpyW W W2 i) A B) n w42 (A2 1 i) (A2 2 i) := (hw42.sc hwo42).sc hwp42
        obtain ⟨k43, g43, hk43, hg43, ek43, eg43, he43, hlo43, hhi43⟩ := (id hws42)
        refine go_oast dX5_becomes_43 sc_1 (by omega) (by omega) rfl (vp_in_nI (n := i) (by show i < 8; omega) (by decide)) he43 hlo43 hhi43 (oneCi_q hk43) (oneCi_c hk43) ?_
        refine go_mem (sc_setW _ _) ?_
        rw [nI_clamp (by omega)]
        refine go_iinc (v := nI (i + 1)) (ls' := [some (.ref s), some (.ref s2), some (.int (nI (i + 1)))]) dX5_becomes_44 rfl (nI_1 (i)) ⟨by decide, rfl, rfl⟩ ?_
        refine go_goto dX5_becomes_47 ?_
        refine go_mem (f' := (sc G (sc G m0 s2 F2 W2 A2 B2) s (upd (upd (upd F 0 (F2 0)) 1 (F2 1)) 2 (F2 2)) (cpyW W W2 (i + 1)) A B)) (by rw [← ew42, cpyW_s]) ?_
        exact ih_lp0 (i + 1) (by omega) (by omega)
  refine go_mem (f' := (sc G (sc G m0 s2 F2 W2 A2 B2) s (upd (upd (upd F 0 (F2 0)) 1 (F2 1)) 2 (F2 2)) (cpyW W W2 0) A B)) (by rw [cpyW_0]) ?_
  exact lp0 9 0 (Nat.zero_le _) (by omega)
end C6
