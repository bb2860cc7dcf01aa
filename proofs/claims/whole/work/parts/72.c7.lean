/-- all in twos, looked through in order: the greatest liking, the resting ways, whom each has by the first -/
abbrev RS : Type := Int32 × Int32 × (Nat → Int32)
def cpC (Mt C : Nat → Int32) : Nat → Int32 := va_cpy Mt C 0 0 8
def drS2 (N : Nat) (A : Nat → Nat → Int32) (Mt : Nat → Int32) : Bool := n2B (fun a b => wrS A a b (Mt a) (Mt b)) N 0 N
def lookS (N : Nat) (A : Nat → Nat → Int32) (rs : Bool) (lk : Int32) (Mt : Nat → Int32) (R : RS) : RS :=
  if rs then (if drS2 N A Mt then (R.1, R.2.1 + 1, if R.2.1 = 0 then cpC Mt R.2.2 else R.2.2) else R)
  else if R.1 < lk then (lk, R.2.1, cpC Mt R.2.2) else R
/-- the first free one from there on; the end if none -/
def ffM (N : Nat) (Mt : Nat → Int32) : Nat → Nat → Nat
  | a, 0 => a
  | a, k + 1 => if Mt a = -9 then a else ffM N Mt (a + 1) k
def sa8 (Mt : Nat → Int32) : Bool := (List.range 8).any (fun p => decide (Mt p = -4))
def mt2 (Mt : Nat → Int32) (a b : Nat) : Nat → Int32 := fun i => if i = b then nI a else if i = a then nI b else Mt i
def mt1 (Mt : Nat → Int32) (a : Nat) (x : Int32) : Nat → Int32 := fun i => if i = a then x else Mt i
def pfB (rec_ : Int32 → (Nat → Int32) → RS → RS) (A : Nat → Nat → Int32) (lk : Int32) (Mt : Nat → Int32) (a : Nat) : Nat → RS → RS
  | 0, R => R
  | k + 1, R => if Mt (a + 1 + k) = -9 then rec_ (lk + likS A a (a + 1 + k)) (mt2 Mt a (a + 1 + k)) (pfB rec_ A lk Mt a k R) else pfB rec_ A lk Mt a k R
def pairS (N : Nat) (A : Nat → Nat → Int32) (rs : Bool) : Nat → Nat → Int32 → (Nat → Int32) → RS → RS
  | 0, _, _, _, R => R
  | f + 1, from_, lk, Mt, R => if N ≤ ffM N Mt from_ (N - from_) then lookS N A rs lk Mt R
    else if N % 2 = 1 ∧ sa8 Mt = false then pairS N A rs f (ffM N Mt from_ (N - from_) + 1) lk (mt1 Mt (ffM N Mt from_ (N - from_)) (-4)) (pfB (fun lk' mt' R' => pairS N A rs f (ffM N Mt from_ (N - from_) + 1) lk' mt' R') A lk Mt (ffM N Mt from_ (N - from_)) (N - (ffM N Mt from_ (N - from_) + 1)) R)
    else pfB (fun lk' mt' R' => pairS N A rs f (ffM N Mt from_ (N - from_) + 1) lk' mt' R') A lk Mt (ffM N Mt from_ (N - from_)) (N - (ffM N Mt from_ (N - from_) + 1)) R
theorem pairS_s {N f fr : Nat} {A : Nat → Nat → Int32} {rs : Bool} {lk : Int32} {Mt : Nat → Int32} {R : RS} : pairS N A rs (f + 1) fr lk Mt R = if N ≤ ffM N Mt fr (N - fr) then lookS N A rs lk Mt R
    else if N % 2 = 1 ∧ sa8 Mt = false then pairS N A rs f (ffM N Mt fr (N - fr) + 1) lk (mt1 Mt (ffM N Mt fr (N - fr)) (-4)) (pfB (fun lk2 mt2 R2 => pairS N A rs f (ffM N Mt fr (N - fr) + 1) lk2 mt2 R2) A lk Mt (ffM N Mt fr (N - fr)) (N - (ffM N Mt fr (N - fr) + 1)) R)
    else pfB (fun lk2 mt2 R2 => pairS N A rs f (ffM N Mt fr (N - fr) + 1) lk2 mt2 R2) A lk Mt (ffM N Mt fr (N - fr)) (N - (ffM N Mt fr (N - fr) + 1)) R := rfl
theorem ffM_d {N a : Nat} {Mt : Nat → Int32} (h : a < N) : ffM N Mt a (N - a) = if Mt a = -9 then a else ffM N Mt (a + 1) (N - (a + 1)) := by
  rw [show N - a = (N - (a + 1)) + 1 by omega]
  rfl
theorem ffM_0 {N : Nat} {Mt : Nat → Int32} : ffM N Mt N (N - N) = N := by
  rw [Nat.sub_self]
  rfl
/-- mates as they are while the twos are tried: free, nobody, or somebody -/
def mtF (N : Nat) (Mt : Nat → Int32) : Prop := ∀ p, p < N → Mt p < 0 ∨ ∃ o, o < N ∧ Mt p = nI o
theorem mtF_2 {N a b : Nat} {Mt : Nat → Int32} (h : mtF N Mt) (ha : a < N) (hb : b < N) : mtF N (mt2 Mt a b) := by
  intro p hp
  unfold mt2
  by_cases e : p = b
  · rw [if_pos e]; exact Or.inr ⟨a, ha, rfl⟩
  · rw [if_neg e]
    by_cases e2 : p = a
    · rw [if_pos e2]; exact Or.inr ⟨b, hb, rfl⟩
    · rw [if_neg e2]; exact h p hp
theorem mtF_1 {N a : Nat} {Mt : Nat → Int32} {x : Int32} (h : mtF N Mt) (hx : x < 0) : mtF N (mt1 Mt a x) := by
  intro p hp
  unfold mt1
  by_cases e2 : p = a
  · rw [if_pos e2]; exact Or.inl hx
  · rw [if_neg e2]; exact h p hp
theorem sa8_t {Mt : Nat → Int32} {p : Nat} (hp : p < 8) (h : Mt p = -4) : sa8 Mt = true := List.any_eq_true.mpr ⟨p, List.mem_range.mpr hp, decide_eq_true h⟩
theorem sa8_f {Mt : Nat → Int32} (h : ∀ p, p < 8 → ¬ Mt p = -4) : sa8 Mt = false := Bool.eq_false_iff.mpr (fun z => by
  obtain ⟨p, hp, e⟩ := List.any_eq_true.mp z
  exact h p (List.mem_range.mp hp) (of_decide_eq_true e))
theorem sa8_e {Mt : Nat → Int32} (h : sa8 Mt = true) : ∃ p, p < 8 ∧ Mt p = -4 := by
  obtain ⟨p, hp, e⟩ := List.any_eq_true.mp h
  exact ⟨p, List.mem_range.mp hp, of_decide_eq_true e⟩
theorem sa8_1 {Mt : Nat → Int32} {a : Nat} {x : Int32} (ha : Mt a = -9) (hx : ¬ x = -4) : sa8 (mt1 Mt a x) = sa8 Mt := by
  cases h : sa8 Mt with
  | true =>
    obtain ⟨p, hp, e⟩ := sa8_e h
    refine sa8_t hp ?_
    unfold mt1
    rw [if_neg (fun z => by rw [z, ha] at e; exact absurd e (by decide))]
    exact e
  | false =>
    refine sa8_f (fun p hp e => ?_)
    unfold mt1 at e
    by_cases e2 : p = a
    · rw [if_pos e2] at e; exact hx e
    · rw [if_neg e2] at e
      rw [sa8_t hp e] at h
      cases h
theorem mt_set {Mt : Nat → Int32} {a : Nat} {x y : Int32} : upd (mt1 Mt a x) a y = mt1 Mt a y := by
  funext i
  unfold upd mt1
  by_cases e : i = a
  · rw [if_pos e, if_pos e]
  · rw [if_neg e, if_neg e, if_neg e]
theorem mt_free {Mt : Nat → Int32} {a : Nat} (h : Mt a = -9) : mt1 Mt a (-9) = Mt := by
  funext i
  unfold mt1
  by_cases e : i = a
  · rw [if_pos e, e, h]
  · rw [if_neg e]
theorem mt_two {Mt : Nat → Int32} {a b : Nat} {x : Int32} : upd (upd (mt1 Mt a x) a (nI b)) b (nI a) = mt2 Mt a b := by
  funext i
  unfold upd mt1 mt2
  by_cases e : i = b
  · rw [if_pos e, if_pos e]
  · rw [if_neg e, if_neg e]
    by_cases e2 : i = a
    · rw [if_pos e2, if_pos e2]
    · rw [if_neg e2, if_neg e2, if_neg e2]
theorem mt_back {Mt : Nat → Int32} {a b : Nat} (h : Mt b = -9) (hab : a ≠ b) : upd (mt2 Mt a b) b (-9) = mt1 Mt a (nI b) := by
  funext i
  unfold upd mt1 mt2
  by_cases e : i = b
  · rw [if_pos e, e, if_neg (fun z => hab z.symm), h]
  · rw [if_neg e, if_neg e]
def wV (R : RS) (x : Int32) (y : Int32) : Nat → Int32 := fun j => if j = 0 then R.1 else if j = 1 then R.2.1 else if j = 3 then x else y
theorem ffM_in {N : Nat} {Mt : Nat → Int32} : ∀ k a, a + k = N → ffM N Mt a k < N → Mt (ffM N Mt a k) = -9 ∧ a ≤ ffM N Mt a k
  | 0, a, h, hl => by
    have e : ffM N Mt a 0 = a := rfl
    rw [e] at hl
    omega
  | k + 1, a, h, hl => by
    unfold ffM at hl ⊢
    by_cases e : Mt a = -9
    · rw [if_pos e]; exact ⟨e, Nat.le_refl _⟩
    · rw [if_neg e] at hl ⊢
      obtain ⟨h1, h2⟩ := ffM_in k (a + 1) (by omega) hl
      exact ⟨h1, by omega⟩
section C7
variable {G : GX} {m1 f : Mem} {s w n N M : Nat} {F V : Nat → Int32} {W : Nat → Option Nat} {A : Nat → Nat → Int32} {B C Mt T : Nat → Int32} {Wl : Nat → Int64}
set_option maxHeartbeats 4000000 in
set_option maxRecDepth 100000 in
theorem e_X9_someoneIsAlone (hq : G.2.1 ≤ s) (hn : s + 8 ≤ n) (hqw : G.2.1 ≤ w) (hnw : w + 5 ≤ n) (hdw : w + 5 ≤ s ∨ s + 8 ≤ w) : Ev G mX9_someoneIsAlone 1 0 0 [.ref w] (sc G (wy G m1 w V C Mt Wl T) s F W A B) n (RD (.int (if sa8 Mt then 1 else 0)) (sc G (wy G m1 w V C Mt Wl T) s F W A B) n) := by
  generalize hQ9 : (RD (.int (if sa8 Mt then 1 else 0)) (sc G (wy G m1 w V C Mt Wl T) s F W A B) n : RQ) = Q9
  refine ev_of (by decide) (Nat.le_of_ble_eq_true rfl) (ls := [some (.ref w), none]) rfl (fun hb => ?_)
  refine go_iconst (v := 0) dX9_someoneIsAlone_0 rfl ?_
  refine go_istore_n (ls' := [some (.ref w), some (.int 0)]) dX9_someoneIsAlone_1 ⟨by decide, rfl, rfl⟩ ?_
  have lp0 : ∀ (μ_lp0 : Nat) (i : Nat) (hi : i ≤ 8) (hmi : 9 ≤ i + μ_lp0) (hx : ∀ p, p < i → ¬ Mt p = -4), Go G mX9_someoneIsAlone 1 0 0 Q9 0 0 2 [some (.ref w), some (.int (nI i))] [] (sc G (wy G m1 w V C Mt Wl T) s F W A B) n := by
    intro μ_lp0
    induction μ_lp0 with
    | zero =>
      intro i hi hmi hx
      exact absurd hmi (by omega)
    | succ μ_lp0 ih_lp0 =>
      intro i hi hmi hx
      refine go_iload_n dX9_someoneIsAlone_2 rfl ?_
      refine go_bipush (v := 8) dX9_someoneIsAlone_3 rfl ?_
      refine go_icmp_ge dX9_someoneIsAlone_5 (fun c5 => ?_) (fun c5 => ?_)
      · have c5n := (nI_leI (a := 8) (b := i) (by omega) (by omega)).mp c5
        have c5n := Nat.not_lt.mpr c5n
        have c5 := Int32.not_lt.mpr c5
        refine go_iconst (v := 0) dX9_someoneIsAlone_27 rfl ?_
        exact go_zret dX9_someoneIsAlone_28 rfl (Nat.le_of_ble_eq_true rfl) (Nat.le_of_ble_eq_true rfl) (rfl) (hQ9 ▸ ⟨rd_i (by rw [sa8_f (fun p hp => hx p (by omega))]; rfl), rfl, rfl⟩)
      · have c5n := mt (nI_leI (a := 8) (b := i) (by omega) (by omega)).mpr c5
        have c5n := Nat.lt_of_not_le c5n
        have c5 := Int32.not_le.mp c5
        refine go_aload_n dX9_someoneIsAlone_8 rfl ?_
        refine go_get dX9_someoneIsAlone_9 fl_X9_26_9 ((sc_out (by omega)).trans wy_obj) hqw (by omega) rfl ?_
        refine go_iload_n dX9_someoneIsAlone_12 rfl ?_
        refine go_iald dX9_someoneIsAlone_13 ((sc_out (by omega)).trans wy_2) (by omega) (by omega) (vp_in_nI (n := i) (by show i < 8; omega) (by decide)) ?_
        refine go_tp (z := Mt i) (by rw [nI_clamp (by omega)]) ?_
        refine go_bipush (v := (-4)) dX9_someoneIsAlone_14 rfl ?_
        refine go_icmp_ne dX9_someoneIsAlone_16 (fun c16 => ?_) (fun c16 => ?_)
        · refine go_iinc (v := nI (i + 1)) (ls' := [some (.ref w), some (.int (nI (i + 1)))]) dX9_someoneIsAlone_21 rfl (nI_1 (i)) ⟨by decide, rfl, rfl⟩ ?_
          refine go_goto dX9_someoneIsAlone_24 ?_
          exact ih_lp0 (i + 1) (by omega) (by omega) (fun p hp => (Nat.lt_succ_iff_lt_or_eq.mp hp).elim (hx p) (fun e => e ▸ c16))
        · refine go_iconst (v := 1) dX9_someoneIsAlone_19 rfl ?_
          exact go_zret dX9_someoneIsAlone_20 rfl (Nat.le_of_ble_eq_true rfl) (Nat.le_of_ble_eq_true rfl) (rfl) (hQ9 ▸ ⟨rd_i (by rw [sa8_t (p := i) (by omega) c16]; rfl), rfl, rfl⟩)
  exact lp0 9 0 (Nat.zero_le _) (by omega) (fun p hp => absurd hp (by omega))
set_option maxHeartbeats 4000000 in
set_option maxRecDepth 100000 in
theorem e_X9_choose (hq : G.2.1 ≤ s) (hn : s + 8 ≤ n) (hqw : G.2.1 ≤ w) (hnw : w + 5 ≤ n) (hdw : w + 5 ≤ s ∨ s + 8 ≤ w) : Ev G mX9_choose 3 0 0 [.ref w] (sc G (wy G m1 w V C Mt Wl T) s F W A B) n (fun r f1 n1 => r = none ∧ f1 = (sc G (wy G m1 w V (cpC Mt C) Mt Wl T) s F W A B) ∧ n1 = n) := by
  generalize hQ9 : (fun r f1 n1 => r = none ∧ f1 = (sc G (wy G m1 w V (cpC Mt C) Mt Wl T) s F W A B) ∧ n1 = n : RQ) = Q9
  refine ev_of (by decide) (Nat.le_of_ble_eq_true rfl) (ls := [some (.ref w)]) rfl (fun hb => ?_)
  refine go_aload_n dX9_choose_0 rfl ?_
  refine go_get dX9_choose_1 fl_X9_26_9 ((sc_out (by omega)).trans wy_obj) hqw (by omega) rfl ?_
  refine go_iconst (v := 0) dX9_choose_4 rfl ?_
  refine go_aload_n dX9_choose_5 rfl ?_
  refine go_get dX9_choose_6 fl_X9_18_9 ((sc_out (by omega)).trans wy_obj) hqw (by omega) rfl ?_
  refine go_iconst (v := 0) dX9_choose_9 rfl ?_
  refine go_bipush (v := 8) dX9_choose_10 rfl ?_
  refine go_copy dX9_choose_12 wm_574 wm_203 wm_202 wm_6 ((sc_out (by omega)).trans wy_2) ((sc_out (by omega)).trans wy_1) (by omega) (by omega) (by omega) (by omega) (by decide) (by decide) (by decide) (by decide) (by decide) (Nat.le_of_ble_eq_true rfl) (by omega) ?_
  refine go_mem (f' := (sc G (wy G m1 w V (va_cpy Mt C 0 0 8) Mt Wl T) s F W A B)) (sc_upo (by omega) wy_set1) ?_
  exact go_vret dX9_choose_15 rfl (Nat.le_of_ble_eq_true rfl) (Nat.le_of_ble_eq_true rfl) (hQ9 ▸ ⟨rfl, rfl, rfl⟩)
set_option maxHeartbeats 4000000 in
set_option maxRecDepth 100000 in
theorem e_X9_doRest (hq : G.2.1 ≤ s) (hn : s + 8 ≤ n) (hqw : G.2.1 ≤ w) (hnw : w + 5 ≤ n) (hdw : w + 5 ≤ s ∨ s + 8 ≤ w) (hN : F 0 = nI N) (hN8 : N ≤ 8) (hbe : ∀ a b, a < N → b < N → B (a * 8 + b) = brS A a b) (hmt : mtF N Mt) : Ev G mX9_doRest 4 0 0 [.ref w, .ref s] (sc G (wy G m1 w V C Mt Wl T) s F W A B) n (RD (.int (if drS2 N A Mt then 1 else 0)) (sc G (wy G m1 w V C Mt Wl T) s F W A B) n) := by
  generalize hQ9 : (RD (.int (if drS2 N A Mt then 1 else 0)) (sc G (wy G m1 w V C Mt Wl T) s F W A B) n : RQ) = Q9
  refine ev_of (by decide) (Nat.le_of_ble_eq_true rfl) (ls := [some (.ref w), some (.ref s), none, none]) rfl (fun hb => ?_)
  refine go_iconst (v := 0) dX9_doRest_0 rfl ?_
  refine go_istore_n (ls' := [some (.ref w), some (.ref s), some (.int 0), none]) dX9_doRest_1 ⟨by decide, rfl, rfl⟩ ?_
  have lp0 : ∀ (μ_lp0 : Nat) (i : Nat) (hi : i ≤ N) (hmi : N + 1 ≤ i + μ_lp0) (hx : n2B (fun a b => wrS A a b (Mt a) (Mt b)) N 0 N = n2B (fun a b => wrS A a b (Mt a) (Mt b)) N i (N - i)), Go G mX9_doRest 4 0 0 Q9 0 0 2 [some (.ref w), some (.ref s), some (.int (nI i)), none] [] (sc G (wy G m1 w V C Mt Wl T) s F W A B) n := by
    intro μ_lp0
    induction μ_lp0 with
    | zero =>
      intro i hi hmi hx
      exact absurd hmi (by omega)
    | succ μ_lp0 ih_lp0 =>
      intro i hi hmi hx
      refine go_iload_n dX9_doRest_2 rfl ?_
      refine go_aload_n dX9_doRest_3 rfl ?_
      refine go_get dX9_doRest_4 fl_X9_40_5 sc_obj hq (by omega) rfl ?_
      refine go_tp (z := nI N) (hN) ?_
      refine go_icmp_ge dX9_doRest_7 (fun c7 => ?_) (fun c7 => ?_)
      · have c7n := (nI_leI (a := N) (b := i) (by omega) (by omega)).mp c7
        have c7n := Nat.not_lt.mpr c7n
        have c7 := Int32.not_lt.mpr c7
        refine go_iconst (v := 1) dX9_doRest_57 rfl ?_
        exact go_zret dX9_doRest_58 rfl (Nat.le_of_ble_eq_true rfl) (Nat.le_of_ble_eq_true rfl) (rfl) (hQ9 ▸ ⟨rd_i (by show _ = if n2B (fun a b => wrS A a b (Mt a) (Mt b)) N 0 N = true then _ else _; rw [hx, show i = N by omega, n2B_0]; rfl), rfl, rfl⟩)
      · have c7n := mt (nI_leI (a := N) (b := i) (by omega) (by omega)).mpr c7
        have c7n := Nat.lt_of_not_le c7n
        have c7 := Int32.not_le.mp c7
        refine go_iload_n dX9_doRest_10 rfl ?_
        refine go_iconst (v := 1) dX9_doRest_11 rfl ?_
        refine go_iadd dX9_doRest_12 ?_
        refine go_tp (z := nI (i + 1)) (nI_add i 1) ?_
        refine go_istore_n (ls' := [some (.ref w), some (.ref s), some (.int (nI i)), some (.int (nI (i + 1)))]) dX9_doRest_13 ⟨by decide, rfl, rfl⟩ ?_
        have lp1 : ∀ (μ_lp1 : Nat) (k : Nat) (hk0 : i + 1 ≤ k) (hk : k ≤ N) (hmk : N + 1 ≤ k + μ_lp1) (hy : nkB ((fun a b => wrS A a b (Mt a) (Mt b)) i) (i + 1) (N - (i + 1)) = nkB ((fun a b => wrS A a b (Mt a) (Mt b)) i) k (N - k)), Go G mX9_doRest 4 0 0 Q9 0 0 14 [some (.ref w), some (.ref s), some (.int (nI i)), some (.int (nI k))] [] (sc G (wy G m1 w V C Mt Wl T) s F W A B) n := by
          intro μ_lp1
          induction μ_lp1 with
          | zero =>
            intro k hk0 hk hmk hy
            exact absurd hmk (by omega)
          | succ μ_lp1 ih_lp1 =>
            intro k hk0 hk hmk hy
            refine go_iload_n dX9_doRest_14 rfl ?_
            refine go_aload_n dX9_doRest_15 rfl ?_
            refine go_get dX9_doRest_16 fl_X9_40_5 sc_obj hq (by omega) rfl ?_
            refine go_tp (z := nI N) (hN) ?_
            refine go_icmp_ge dX9_doRest_19 (fun c19 => ?_) (fun c19 => ?_)
            · have c19n := (nI_leI (a := N) (b := k) (by omega) (by omega)).mp c19
              have c19n := Nat.not_lt.mpr c19n
              have c19 := Int32.not_lt.mpr c19
              refine go_iinc (v := nI (i + 1)) (ls' := [some (.ref w), some (.ref s), some (.int (nI (i + 1))), some (.int (nI k))]) dX9_doRest_51 rfl (nI_1 (i)) ⟨by decide, rfl, rfl⟩ ?_
              refine go_goto dX9_doRest_54 ?_
              refine go_weak (ls' := [some (.ref w), some (.ref s), some (.int (nI (i + 1))), none]) ⟨rfl, rfl, rfl, trivial⟩ ?_
              exact ih_lp0 (i + 1) (by omega) (by omega) (by rw [hx, n2B_d (by omega), hy, show k = N by omega, nkB_0, Bool.true_and])
            · have c19n := mt (nI_leI (a := N) (b := k) (by omega) (by omega)).mpr c19
              have c19n := Nat.lt_of_not_le c19n
              have c19 := Int32.not_le.mp c19
              refine go_aload_n dX9_doRest_22 rfl ?_
              refine go_iload_n dX9_doRest_23 rfl ?_
              refine go_iload_n dX9_doRest_24 rfl ?_
              refine go_aload_n dX9_doRest_25 rfl ?_
              refine go_get dX9_doRest_26 fl_X9_26_9 ((sc_out (by omega)).trans wy_obj) hqw (by omega) rfl ?_
              refine go_iload_n dX9_doRest_29 rfl ?_
              refine go_iald dX9_doRest_30 ((sc_out (by omega)).trans wy_2) (by omega) (by omega) (vp_in_nI (n := i) (by show i < 8; omega) (by decide)) ?_
              refine go_tp (z := Mt i) (by rw [nI_clamp (by omega)]) ?_
              refine go_aload_n dX9_doRest_31 rfl ?_
              refine go_get dX9_doRest_32 fl_X9_26_9 ((sc_out (by omega)).trans wy_obj) hqw (by omega) rfl ?_
              refine go_iload_n dX9_doRest_35 rfl ?_
              refine go_iald dX9_doRest_36 ((sc_out (by omega)).trans wy_2) (by omega) (by omega) (vp_in_nI (n := k) (by show k < 8; omega) (by decide)) ?_
              refine go_tp (z := Mt k) (by rw [nI_clamp (by omega)]) ?_
              refine go_Vr [.int (nI i), .int (nI k), .int (Mt i), .int (Mt k)] [] dX9_doRest_37 vl_X9_70 ⟨by decide, by decide⟩ (e_X5_wouldRather (F := F) (W := W) (A := A) (B := B) hq hn hbe (by omega) (by omega) (hmt i (by omega)) (hmt k (by omega)) hN8) sc_obj hq (by omega) rfl rfl (Nat.le_of_ble_eq_true rfl) (Nat.le_of_ble_eq_true rfl) (Nat.le_of_ble_eq_true rfl) ?_
              refine go_if_eq dX9_doRest_40 (fun c40 => ?_) (fun c40 => ?_)
              · have c40 := bz_f c40
                refine go_iinc (v := nI (k + 1)) (ls' := [some (.ref w), some (.ref s), some (.int (nI i)), some (.int (nI (k + 1)))]) dX9_doRest_45 rfl (nI_1 (k)) ⟨by decide, rfl, rfl⟩ ?_
                refine go_goto dX9_doRest_48 ?_
                exact ih_lp1 (k + 1) (by omega) (by omega) (by omega) (by rw [hy, nkB_d (by omega)]; simp only []; rw [Bool.eq_false_iff.mpr c40]; rfl)
              · have c40 := bz_t c40
                refine go_iconst (v := 0) dX9_doRest_43 rfl ?_
                exact go_zret dX9_doRest_44 rfl (Nat.le_of_ble_eq_true rfl) (Nat.le_of_ble_eq_true rfl) (rfl) (hQ9 ▸ ⟨rd_i (by show _ = if n2B (fun a b => wrS A a b (Mt a) (Mt b)) N 0 N = true then _ else _; rw [show n2B (fun a b => wrS A a b (Mt a) (Mt b)) N 0 N = false from (by rw [hx, n2B_d (by omega), hy, nkB_d (by omega)]; simp only []; rw [c40]; rfl)]; rfl), rfl, rfl⟩)
        exact lp1 (N + 1) (i + 1) (Nat.le_refl _) (by omega) (by omega) rfl
  exact lp0 (N + 1) 0 (Nat.zero_le _) (by omega) rfl
theorem lk_eq {V V' C C' : Nat → Int32} (h0 : V 0 = V' 0) (h1 : V 1 = V' 1) (h3 : V 3 = V' 3) (hC : C = C') : sc G (wy G m1 w V C Mt Wl T) s F W A B = sc G (wy G m1 w V' C' Mt Wl T) s F W A B := by
  subst hC
  have e : wfs w V = wfs w V' := by unfold wfs; rw [h0, h1, h3]
  have e2 : wy G m1 w V C Mt Wl T = wy G m1 w V' C Mt Wl T := by
    unfold wy wyE
    rw [e]
  rw [e2]
set_option maxHeartbeats 4000000 in
set_option maxRecDepth 100000 in
theorem e_X9_lookAtTwos (hq : G.2.1 ≤ s) (hn : s + 8 ≤ n) (hqw : G.2.1 ≤ w) (hnw : w + 5 ≤ n) (hdw : w + 5 ≤ s ∨ s + 8 ≤ w) (hN : F 0 = nI N) (hN8 : N ≤ 8) (hbe : ∀ a b, a < N → b < N → B (a * 8 + b) = brS A a b) (hmt : mtF N Mt) {rs : Bool} {lk z : Int32} {R : RS} : Ev G mX9_lookAtTwos 5 0 0 [.ref w, .ref s, .int lk] (sc G (wy G m1 w (wV R (if rs then 1 else 0) z) R.2.2 Mt Wl T) s F W A B) n (fun r f1 n1 => r = none ∧ f1 = (sc G (wy G m1 w (wV (lookS N A rs lk Mt R) (if rs then 1 else 0) z) (lookS N A rs lk Mt R).2.2 Mt Wl T) s F W A B) ∧ n1 = n) := by
  generalize hQ9 : (fun r f1 n1 => r = none ∧ f1 = (sc G (wy G m1 w (wV (lookS N A rs lk Mt R) (if rs then 1 else 0) z) (lookS N A rs lk Mt R).2.2 Mt Wl T) s F W A B) ∧ n1 = n : RQ) = Q9
  refine ev_of (by decide) (Nat.le_of_ble_eq_true rfl) (ls := [some (.ref w), some (.ref s), some (.int lk)]) rfl (fun hb => ?_)
  refine go_aload_n dX9_lookAtTwos_0 rfl ?_
  refine go_get dX9_lookAtTwos_1 fl_X9_22_9 ((sc_out (by omega)).trans wy_obj) hqw (by omega) rfl ?_
  refine go_tp (z := if rs then 1 else 0) rfl ?_
  refine go_if_ne dX9_lookAtTwos_4 (fun c4 => ?_) (fun c4 => ?_)
  · have c4 := bz_t c4
    refine go_aload_n dX9_lookAtTwos_24 rfl ?_
    refine go_get dX9_lookAtTwos_25 fl_X9_22_9 ((sc_out (by omega)).trans wy_obj) hqw (by omega) rfl ?_
    refine go_tp (z := if rs then 1 else 0) rfl ?_
    refine go_if_eq dX9_lookAtTwos_28 (fun c28 => ?_) (fun c28 => ?_)
    · have c28 := bz_f c28
      exact absurd c4 c28
    · have c28 := bz_t c28
      refine go_aload_n dX9_lookAtTwos_31 rfl ?_
      refine go_aload_n dX9_lookAtTwos_32 rfl ?_
      refine go_Vr [.ref s] [] dX9_lookAtTwos_33 vl_X9_60 ⟨by decide, by decide⟩ (e_X9_doRest (V := (wV R (if rs then 1 else 0) z)) (C := R.2.2) (Mt := Mt) (Wl := Wl) (T := T) (F := F) (W := W) (A := A) (B := B) hq hn hqw hnw hdw hN hN8 hbe hmt) ((sc_out (by omega)).trans wy_obj) hqw (by omega) rfl rfl (Nat.le_of_ble_eq_true rfl) (Nat.le_of_ble_eq_true rfl) (Nat.le_of_ble_eq_true rfl) ?_
      refine go_if_eq dX9_lookAtTwos_36 (fun c36 => ?_) (fun c36 => ?_)
      · have c36 := bz_f c36
        exact go_vret dX9_lookAtTwos_60 rfl (Nat.le_of_ble_eq_true rfl) (Nat.le_of_ble_eq_true rfl) (hQ9 ▸ ⟨rfl, lk_eq (by simp [lookS, wV, upd, c4, c36]) (by simp [lookS, wV, upd, c4, c36]) (by simp [wV, upd]) (by simp [lookS, c4, c36]), rfl⟩)
      · have c36 := bz_t c36
        refine go_aload_n dX9_lookAtTwos_39 rfl ?_
        refine go_get dX9_lookAtTwos_40 fl_X9_15_9 ((sc_out (by omega)).trans wy_obj) hqw (by omega) rfl ?_
        refine go_tp (z := R.2.1) rfl ?_
        refine go_if_ne dX9_lookAtTwos_43 (fun c43 => ?_) (fun c43 => ?_)
        · refine go_aload_n dX9_lookAtTwos_50 rfl ?_
          refine go_dup dX9_lookAtTwos_51 rfl ?_
          refine go_get dX9_lookAtTwos_52 fl_X9_15_9 ((sc_out (by omega)).trans wy_obj) hqw (by omega) rfl ?_
          refine go_tp (z := R.2.1) rfl ?_
          refine go_iconst (v := 1) dX9_lookAtTwos_55 rfl ?_
          refine go_iadd dX9_lookAtTwos_56 ?_
          refine go_put dX9_lookAtTwos_57 fp_X9_15_9 (Or.inr (fun _ _ _ h => by cases h; rfl)) ((sc_out (by omega)).trans wy_obj) hqw (by omega) (rfl) rfl (Nat.le_of_ble_eq_true rfl) ?_
          refine go_mem (f' := (sc G (wy G m1 w (upd (wV R (if rs then 1 else 0) z) 1 (R.2.1 + 1)) R.2.2 Mt Wl T) s F W A B)) (sc_upo (by omega) (wy_setV rfl)) ?_
          exact go_vret dX9_lookAtTwos_60 rfl (Nat.le_of_ble_eq_true rfl) (Nat.le_of_ble_eq_true rfl) (hQ9 ▸ ⟨rfl, lk_eq (by simp [lookS, wV, upd, c4, c36, c43]) (by simp [lookS, wV, upd, c4, c36, c43]) (by simp [wV, upd]) (by simp [lookS, c4, c36, c43]), rfl⟩)
        · refine go_aload_n dX9_lookAtTwos_46 rfl ?_
          refine go_V [] [] dX9_lookAtTwos_47 vl_X9_57 ⟨by decide, by decide⟩ (e_X9_choose (V := (wV R (if rs then 1 else 0) z)) (C := R.2.2) (Mt := Mt) (Wl := Wl) (T := T) (F := F) (W := W) (A := A) (B := B) hq hn hqw hnw hdw) ((sc_out (by omega)).trans wy_obj) hqw (by omega) rfl rfl (Nat.le_of_ble_eq_true rfl) (Nat.le_of_ble_eq_true rfl) (Nat.le_of_ble_eq_true rfl) (fun r47 f47 n47 h47 => ?_)
          obtain ⟨rfl, rfl, hn47⟩ := h47
          subst n47
          refine go_aload_n dX9_lookAtTwos_50 rfl ?_
          refine go_dup dX9_lookAtTwos_51 rfl ?_
          refine go_get dX9_lookAtTwos_52 fl_X9_15_9 ((sc_out (by omega)).trans wy_obj) hqw (by omega) rfl ?_
          refine go_tp (z := R.2.1) rfl ?_
          refine go_iconst (v := 1) dX9_lookAtTwos_55 rfl ?_
          refine go_iadd dX9_lookAtTwos_56 ?_
          refine go_put dX9_lookAtTwos_57 fp_X9_15_9 (Or.inr (fun _ _ _ h => by cases h; rfl)) ((sc_out (by omega)).trans wy_obj) hqw (by omega) (rfl) rfl (Nat.le_of_ble_eq_true rfl) ?_
          refine go_mem (f' := (sc G (wy G m1 w (upd (wV R (if rs then 1 else 0) z) 1 (R.2.1 + 1)) (cpC Mt R.2.2) Mt Wl T) s F W A B)) (sc_upo (by omega) (wy_setV rfl)) ?_
          exact go_vret dX9_lookAtTwos_60 rfl (Nat.le_of_ble_eq_true rfl) (Nat.le_of_ble_eq_true rfl) (hQ9 ▸ ⟨rfl, lk_eq (by simp [lookS, wV, upd, c4, c36, c43]) (by simp [lookS, wV, upd, c4, c36, c43]) (by simp [wV, upd]) (by simp [lookS, c4, c36, c43]), rfl⟩)
  · have c4 := bz_f c4
    refine go_iload_n dX9_lookAtTwos_7 rfl ?_
    refine go_aload_n dX9_lookAtTwos_8 rfl ?_
    refine go_get dX9_lookAtTwos_9 fl_X9_11_9 ((sc_out (by omega)).trans wy_obj) hqw (by omega) rfl ?_
    refine go_tp (z := R.1) rfl ?_
    refine go_icmp_le dX9_lookAtTwos_12 (fun c12 => ?_) (fun c12 => ?_)
    · have c12 := Int32.not_lt.mpr c12
      refine go_aload_n dX9_lookAtTwos_24 rfl ?_
      refine go_get dX9_lookAtTwos_25 fl_X9_22_9 ((sc_out (by omega)).trans wy_obj) hqw (by omega) rfl ?_
      refine go_tp (z := if rs then 1 else 0) rfl ?_
      refine go_if_eq dX9_lookAtTwos_28 (fun c28 => ?_) (fun c28 => ?_)
      · have c28 := bz_f c28
        exact go_vret dX9_lookAtTwos_60 rfl (Nat.le_of_ble_eq_true rfl) (Nat.le_of_ble_eq_true rfl) (hQ9 ▸ ⟨rfl, lk_eq (by simp [lookS, wV, upd, c4, c12]) (by simp [lookS, wV, upd, c4, c12]) (by simp [wV, upd]) (by simp [lookS, c4, c12]), rfl⟩)
      · have c28 := bz_t c28
        exact absurd c28 c4
    · have c12 := Int32.not_le.mp c12
      refine go_aload_n dX9_lookAtTwos_15 rfl ?_
      refine go_iload_n dX9_lookAtTwos_16 rfl ?_
      refine go_put dX9_lookAtTwos_17 fp_X9_11_9 (Or.inr (fun _ _ _ h => by cases h; rfl)) ((sc_out (by omega)).trans wy_obj) hqw (by omega) (rfl) rfl (Nat.le_of_ble_eq_true rfl) ?_
      refine go_mem (f' := (sc G (wy G m1 w (upd (wV R (if rs then 1 else 0) z) 0 (lk)) R.2.2 Mt Wl T) s F W A B)) (sc_upo (by omega) (wy_setV rfl)) ?_
      refine go_aload_n dX9_lookAtTwos_20 rfl ?_
      refine go_V [] [] dX9_lookAtTwos_21 vl_X9_57 ⟨by decide, by decide⟩ (e_X9_choose (V := (upd (wV R (if rs then 1 else 0) z) 0 (lk))) (C := R.2.2) (Mt := Mt) (Wl := Wl) (T := T) (F := F) (W := W) (A := A) (B := B) hq hn hqw hnw hdw) ((sc_out (by omega)).trans wy_obj) hqw (by omega) rfl rfl (Nat.le_of_ble_eq_true rfl) (Nat.le_of_ble_eq_true rfl) (Nat.le_of_ble_eq_true rfl) (fun r21 f21 n21 h21 => ?_)
      obtain ⟨rfl, rfl, hn21⟩ := h21
      subst n21
      refine go_aload_n dX9_lookAtTwos_24 rfl ?_
      refine go_get dX9_lookAtTwos_25 fl_X9_22_9 ((sc_out (by omega)).trans wy_obj) hqw (by omega) rfl ?_
      refine go_tp (z := if rs then 1 else 0) rfl ?_
      refine go_if_eq dX9_lookAtTwos_28 (fun c28 => ?_) (fun c28 => ?_)
      · have c28 := bz_f c28
        exact go_vret dX9_lookAtTwos_60 rfl (Nat.le_of_ble_eq_true rfl) (Nat.le_of_ble_eq_true rfl) (hQ9 ▸ ⟨rfl, lk_eq (by simp [lookS, wV, upd, c4, c12]) (by simp [lookS, wV, upd, c4, c12]) (by simp [wV, upd]) (by simp [lookS, c4, c12]), rfl⟩)
      · have c28 := bz_t c28
        exact absurd c28 c4
theorem mt_n4 {k : Nat} (h : k < 2 ^ 31) : ¬ nI k = -4 := fun z => nI_pos h (by rw [z]; decide)
set_option maxHeartbeats 8000000 in
set_option maxRecDepth 100000 in
theorem e_X9_pairFrom (hq : G.2.1 ≤ s) (hn : s + 8 ≤ n) (hqw : G.2.1 ≤ w) (hnw : w + 5 ≤ n) (hdw : w + 5 ≤ s ∨ s + 8 ≤ w) (hN : F 0 = nI N) (hN8 : N ≤ 8) (hbe : ∀ a b, a < N → b < N → B (a * 8 + b) = brS A a b) {rs : Bool} {z : Int32} : ∀ (dd fr : Nat) (lk : Int32) (Mt : Nat → Int32) (R : RS) (hfr : fr ≤ N) (hdd : N + 1 ≤ fr + dd) (hmt : mtF N Mt), Ev G mX9_pairFrom (dd + 6) 0 0 [.ref w, .ref s, .int (nI fr), .int lk] (sc G (wy G m1 w (wV R (if rs then 1 else 0) z) R.2.2 Mt Wl T) s F W A B) n (fun r f1 n1 => r = none ∧ f1 = (sc G (wy G m1 w (wV (pairS N A rs dd fr lk Mt R) (if rs then 1 else 0) z) (pairS N A rs dd fr lk Mt R).2.2 Mt Wl T) s F W A B) ∧ n1 = n) := by
  intro dd
  induction dd with
  | zero =>
    intro fr lk Mt R hfr hdd hmt
    exact absurd hdd (by omega)
  | succ dd ih =>
    intro fr lk Mt R hfr hdd hmt
    generalize hQ9 : (fun r f1 n1 => r = none ∧ f1 = (sc G (wy G m1 w (wV (pairS N A rs (dd + 1) fr lk Mt R) (if rs then 1 else 0) z) (pairS N A rs (dd + 1) fr lk Mt R).2.2 Mt Wl T) s F W A B) ∧ n1 = n : RQ) = Q9
    refine ev_of (by decide) (Nat.le_of_ble_eq_true rfl) (ls := [some (.ref w), some (.ref s), some (.int (nI fr)), some (.int lk), none, none]) rfl (fun hb => ?_)
    refine go_iload_n dX9_pairFrom_0 rfl ?_
    refine go_istore (ls' := [some (.ref w), some (.ref s), some (.int (nI fr)), some (.int lk), some (.int (nI fr)), none]) dX9_pairFrom_1 ⟨by decide, rfl, rfl⟩ ?_
    have lp0 : ∀ (μ_lp0 : Nat) (a0 : Nat) (ha0 : fr ≤ a0) (ha1 : a0 ≤ N) (hma : N + 1 ≤ a0 + μ_lp0) (hff : ffM N Mt fr (N - fr) = ffM N Mt a0 (N - a0)), Go G mX9_pairFrom (dd + 1 + 6) 0 0 Q9 0 0 3 [some (.ref w), some (.ref s), some (.int (nI fr)), some (.int lk), some (.int (nI a0)), none] [] (sc G (wy G m1 w (wV R (if rs then 1 else 0) z) R.2.2 Mt Wl T) s F W A B) n := by
      intro μ_lp0
      induction μ_lp0 with
      | zero =>
        intro a0 ha0 ha1 hma hff
        exact absurd hma (by omega)
      | succ μ_lp0 ih_lp0 =>
        intro a0 ha0 ha1 hma hff
        refine go_iload dX9_pairFrom_3 rfl ?_
        refine go_aload_n dX9_pairFrom_5 rfl ?_
        refine go_get dX9_pairFrom_6 fl_X9_40_5 sc_obj hq (by omega) rfl ?_
        refine go_tp (z := nI N) (hN) ?_
        refine go_icmp_ge dX9_pairFrom_9 (fun c9 => ?_) (fun c9 => ?_)
        · have c9n := (nI_leI (a := N) (b := a0) (by omega) (by omega)).mp c9
          have c9n := Nat.not_lt.mpr c9n
          have c9 := Int32.not_lt.mpr c9
          refine go_iload dX9_pairFrom_30 rfl ?_
          refine go_aload_n dX9_pairFrom_32 rfl ?_
          refine go_get dX9_pairFrom_33 fl_X9_40_5 sc_obj hq (by omega) rfl ?_
          refine go_tp (z := nI N) (hN) ?_
          refine go_icmp_lt dX9_pairFrom_36 (fun c36 => ?_) (fun c36 => ?_)
          · have c36n := (nI_ltI (a := a0) (b := N) (by omega) (by omega)).mp c36
            exact absurd c36 c9
          · have c36n := mt (nI_ltI (a := a0) (b := N) (by omega) (by omega)).mpr c36
            refine go_aload_n dX9_pairFrom_39 rfl ?_
            refine go_aload_n dX9_pairFrom_40 rfl ?_
            refine go_iload_n dX9_pairFrom_41 rfl ?_
            refine go_V [.ref s, .int lk] [] dX9_pairFrom_42 vl_X9_45 ⟨by omega, by decide⟩ (e_X9_lookAtTwos (Mt := Mt) (Wl := Wl) (T := T) (F := F) (W := W) (A := A) (B := B) (rs := rs) (lk := lk) (z := z) (R := R) hq hn hqw hnw hdw hN hN8 hbe hmt) ((sc_out (by omega)).trans wy_obj) hqw (by omega) rfl rfl (Nat.le_of_ble_eq_true rfl) (Nat.le_of_ble_eq_true rfl) (Nat.le_of_ble_eq_true rfl) (fun r42 f42 n42 h42 => ?_)
            obtain ⟨rfl, rfl, hn42⟩ := h42
            subst n42
            exact go_vret dX9_pairFrom_45 rfl (Nat.le_of_ble_eq_true rfl) (Nat.le_of_ble_eq_true rfl) (hQ9 ▸ ⟨rfl, (by rw [pairS_s, if_pos (show N ≤ ffM N Mt fr (N - fr) by rw [hff, show a0 = N by omega, ffM_0]; exact Nat.le_refl _)]), rfl⟩)
        · have c9n := mt (nI_leI (a := N) (b := a0) (by omega) (by omega)).mpr c9
          have c9n := Nat.lt_of_not_le c9n
          have c9 := Int32.not_le.mp c9
          refine go_aload_n dX9_pairFrom_12 rfl ?_
          refine go_get dX9_pairFrom_13 fl_X9_26_9 ((sc_out (by omega)).trans wy_obj) hqw (by omega) rfl ?_
          refine go_iload dX9_pairFrom_16 rfl ?_
          refine go_iald dX9_pairFrom_18 ((sc_out (by omega)).trans wy_2) (by omega) (by omega) (vp_in_nI (n := a0) (by show a0 < 8; omega) (by decide)) ?_
          refine go_tp (z := Mt a0) (by rw [nI_clamp (by omega)]) ?_
          refine go_bipush (v := (-9)) dX9_pairFrom_19 rfl ?_
          refine go_icmp_eq dX9_pairFrom_21 (fun c21 => ?_) (fun c21 => ?_)
          · refine go_iload dX9_pairFrom_30 rfl ?_
            refine go_aload_n dX9_pairFrom_32 rfl ?_
            refine go_get dX9_pairFrom_33 fl_X9_40_5 sc_obj hq (by omega) rfl ?_
            refine go_tp (z := nI N) (hN) ?_
            refine go_icmp_lt dX9_pairFrom_36 (fun c36 => ?_) (fun c36 => ?_)
            · have c36n := (nI_ltI (a := a0) (b := N) (by omega) (by omega)).mp c36
              have hfree : Mt a0 = -9 := c21
              obtain ⟨a, rfl⟩ : ∃ a, a = a0 := ⟨a0, rfl⟩
              have hfa : Mt a = -9 := hfree
              have hffa : ffM N Mt fr (N - fr) = a := by rw [hff, ffM_d (by omega), if_pos hfa]
              have hfl : fr ≤ a := ha0
              refine go_iload dX9_pairFrom_46 rfl ?_
              refine go_iconst (v := 1) dX9_pairFrom_48 rfl ?_
              refine go_iadd dX9_pairFrom_49 ?_
              refine go_tp (z := nI (a + 1)) (nI_add a 1) ?_
              refine go_istore (ls' := [some (.ref w), some (.ref s), some (.int (nI fr)), some (.int lk), some (.int (nI a)), some (.int (nI (a + 1)))]) dX9_pairFrom_50 ⟨by decide, rfl, rfl⟩ ?_
              have lp1 : ∀ (μ_lp1 : Nat) (k : Nat) (x : Int32) (hk : a + 1 + k ≤ N) (hmk : N + 1 ≤ k + μ_lp1) (hxx : ¬ x = -4), Go G mX9_pairFrom (dd + 1 + 6) 0 0 Q9 0 0 52 [some (.ref w), some (.ref s), some (.int (nI fr)), some (.int lk), some (.int (nI a)), some (.int (nI (a + 1 + k)))] [] (sc G (wy G m1 w (wV (pfB (fun lk2 mt2 R2 => pairS N A rs dd (a + 1) lk2 mt2 R2) A lk Mt a k R) (if rs then 1 else 0) z) (pfB (fun lk2 mt2 R2 => pairS N A rs dd (a + 1) lk2 mt2 R2) A lk Mt a k R).2.2 (mt1 Mt a x) Wl T) s F W A B) n := by
                intro μ_lp1
                induction μ_lp1 with
                | zero =>
                  intro k x hk hmk hxx
                  exact absurd hmk (by omega)
                | succ μ_lp1 ih_lp1 =>
                  intro k x hk hmk hxx
                  refine go_iload dX9_pairFrom_52 rfl ?_
                  refine go_aload_n dX9_pairFrom_54 rfl ?_
                  refine go_get dX9_pairFrom_55 fl_X9_40_5 sc_obj hq (by omega) rfl ?_
                  refine go_tp (z := nI N) (hN) ?_
                  refine go_icmp_ge dX9_pairFrom_58 (fun c58 => ?_) (fun c58 => ?_)
                  · have c58n := (nI_leI (a := N) (b := a + 1 + k) (by omega) (by omega)).mp c58
                    have c58n := Nat.not_lt.mpr c58n
                    have c58 := Int32.not_lt.mpr c58
                    refine go_aload_n dX9_pairFrom_125 rfl ?_
                    refine go_get dX9_pairFrom_126 fl_X9_40_5 sc_obj hq (by omega) rfl ?_
                    refine go_tp (z := nI N) (hN) ?_
                    refine go_iconst (v := 2) dX9_pairFrom_129 rfl ?_
                    refine go_irem dX9_pairFrom_130 (by decide) ?_
                    refine go_tp (z := nI (N % 2)) (pk_rem (a := N) (d := 2) (by omega) (by omega) (by omega)) ?_
                    refine go_iconst (v := 1) dX9_pairFrom_131 rfl ?_
                    refine go_icmp_ne dX9_pairFrom_132 (fun c132 => ?_) (fun c132 => ?_)
                    · have c132n := mt (nI_eq (a := N % 2) (b := 1) (by omega) (by omega)).mpr c132
                      refine go_aload_n dX9_pairFrom_161 rfl ?_
                      refine go_get dX9_pairFrom_162 fl_X9_26_9 ((sc_out (by omega)).trans wy_obj) hqw (by omega) rfl ?_
                      refine go_iload dX9_pairFrom_165 rfl ?_
                      refine go_bipush (v := (-9)) dX9_pairFrom_167 rfl ?_
                      refine go_iast dX9_pairFrom_169 ((sc_out (by omega)).trans wy_2) (by omega) (by omega) (vp_in_nI (n := a) (by show a < 8; omega) (by decide)) ?_
                      rw [nI_clamp (by omega)]
                      refine go_mem (f' := (sc G (wy G m1 w (wV (pfB (fun lk2 mt2 R2 => pairS N A rs dd (a + 1) lk2 mt2 R2) A lk Mt a k R) (if rs then 1 else 0) z) (pfB (fun lk2 mt2 R2 => pairS N A rs dd (a + 1) lk2 mt2 R2) A lk Mt a k R).2.2 (upd (mt1 Mt a x) a ((-9))) Wl T) s F W A B)) (sc_upo (by omega) wy_set2) ?_
                      have hps : pairS N A rs (dd + 1) fr lk Mt R = (pfB (fun lk2 mt2 R2 => pairS N A rs dd (a + 1) lk2 mt2 R2) A lk Mt a k R) := by
                        rw [pairS_s, hffa, if_neg (show ¬ N ≤ a by omega), if_neg (fun z => c132n z.1), show N - (a + 1) = k by omega]
                      refine go_mem (f' := (sc G (wy G m1 w (wV (pairS N A rs (dd + 1) fr lk Mt R) (if rs then 1 else 0) z) (pairS N A rs (dd + 1) fr lk Mt R).2.2 Mt Wl T) s F W A B)) (by rw [mt_set, mt_free hfa, hps]) ?_
                      exact go_vret dX9_pairFrom_170 rfl (Nat.le_of_ble_eq_true rfl) (Nat.le_of_ble_eq_true rfl) (hQ9 ▸ ⟨rfl, rfl, rfl⟩)
                    · have c132n := (nI_eq (a := N % 2) (b := 1) (by omega) (by omega)).mp c132
                      refine go_aload_n dX9_pairFrom_135 rfl ?_
                      refine go_Vr [] [] dX9_pairFrom_136 vl_X9_53 ⟨by omega, by decide⟩ (e_X9_someoneIsAlone (V := (wV (pfB (fun lk2 mt2 R2 => pairS N A rs dd (a + 1) lk2 mt2 R2) A lk Mt a k R) (if rs then 1 else 0) z)) (C := (pfB (fun lk2 mt2 R2 => pairS N A rs dd (a + 1) lk2 mt2 R2) A lk Mt a k R).2.2) (Mt := (mt1 Mt a x)) (Wl := Wl) (T := T) (F := F) (W := W) (A := A) (B := B) hq hn hqw hnw hdw) ((sc_out (by omega)).trans wy_obj) hqw (by omega) rfl rfl (Nat.le_of_ble_eq_true rfl) (Nat.le_of_ble_eq_true rfl) (Nat.le_of_ble_eq_true rfl) ?_
                      refine go_tp (z := if sa8 Mt then 1 else 0) (by rw [sa8_1 hfa hxx]) ?_
                      refine go_if_ne dX9_pairFrom_139 (fun c139 => ?_) (fun c139 => ?_)
                      · have c139 := bz_t c139
                        refine go_aload_n dX9_pairFrom_161 rfl ?_
                        refine go_get dX9_pairFrom_162 fl_X9_26_9 ((sc_out (by omega)).trans wy_obj) hqw (by omega) rfl ?_
                        refine go_iload dX9_pairFrom_165 rfl ?_
                        refine go_bipush (v := (-9)) dX9_pairFrom_167 rfl ?_
                        refine go_iast dX9_pairFrom_169 ((sc_out (by omega)).trans wy_2) (by omega) (by omega) (vp_in_nI (n := a) (by show a < 8; omega) (by decide)) ?_
                        rw [nI_clamp (by omega)]
                        refine go_mem (f' := (sc G (wy G m1 w (wV (pfB (fun lk2 mt2 R2 => pairS N A rs dd (a + 1) lk2 mt2 R2) A lk Mt a k R) (if rs then 1 else 0) z) (pfB (fun lk2 mt2 R2 => pairS N A rs dd (a + 1) lk2 mt2 R2) A lk Mt a k R).2.2 (upd (mt1 Mt a x) a ((-9))) Wl T) s F W A B)) (sc_upo (by omega) wy_set2) ?_
                        have hps : pairS N A rs (dd + 1) fr lk Mt R = (pfB (fun lk2 mt2 R2 => pairS N A rs dd (a + 1) lk2 mt2 R2) A lk Mt a k R) := by
                          rw [pairS_s, hffa, if_neg (show ¬ N ≤ a by omega), if_neg (fun z => by rw [c139] at z; cases z.2), show N - (a + 1) = k by omega]
                        refine go_mem (f' := (sc G (wy G m1 w (wV (pairS N A rs (dd + 1) fr lk Mt R) (if rs then 1 else 0) z) (pairS N A rs (dd + 1) fr lk Mt R).2.2 Mt Wl T) s F W A B)) (by rw [mt_set, mt_free hfa, hps]) ?_
                        exact go_vret dX9_pairFrom_170 rfl (Nat.le_of_ble_eq_true rfl) (Nat.le_of_ble_eq_true rfl) (hQ9 ▸ ⟨rfl, rfl, rfl⟩)
                      · have c139 := bz_f c139
                        refine go_aload_n dX9_pairFrom_142 rfl ?_
                        refine go_get dX9_pairFrom_143 fl_X9_26_9 ((sc_out (by omega)).trans wy_obj) hqw (by omega) rfl ?_
                        refine go_iload dX9_pairFrom_146 rfl ?_
                        refine go_bipush (v := (-4)) dX9_pairFrom_148 rfl ?_
                        refine go_iast dX9_pairFrom_150 ((sc_out (by omega)).trans wy_2) (by omega) (by omega) (vp_in_nI (n := a) (by show a < 8; omega) (by decide)) ?_
                        rw [nI_clamp (by omega)]
                        refine go_mem (f' := (sc G (wy G m1 w (wV (pfB (fun lk2 mt2 R2 => pairS N A rs dd (a + 1) lk2 mt2 R2) A lk Mt a k R) (if rs then 1 else 0) z) (pfB (fun lk2 mt2 R2 => pairS N A rs dd (a + 1) lk2 mt2 R2) A lk Mt a k R).2.2 (upd (mt1 Mt a x) a ((-4))) Wl T) s F W A B)) (sc_upo (by omega) wy_set2) ?_
                        refine go_mem (f' := (sc G (wy G m1 w (wV (pfB (fun lk2 mt2 R2 => pairS N A rs dd (a + 1) lk2 mt2 R2) A lk Mt a k R) (if rs then 1 else 0) z) (pfB (fun lk2 mt2 R2 => pairS N A rs dd (a + 1) lk2 mt2 R2) A lk Mt a k R).2.2 (mt1 Mt a (-4)) Wl T) s F W A B)) (by rw [mt_set]) ?_
                        refine go_aload_n dX9_pairFrom_151 rfl ?_
                        refine go_aload_n dX9_pairFrom_152 rfl ?_
                        refine go_iload dX9_pairFrom_153 rfl ?_
                        refine go_iconst (v := 1) dX9_pairFrom_155 rfl ?_
                        refine go_iadd dX9_pairFrom_156 ?_
                        refine go_tp (z := nI (a + 1)) (nI_add a 1) ?_
                        refine go_iload_n dX9_pairFrom_157 rfl ?_
                        have hmf158 : mtF N (mt1 Mt a (-4)) := mtF_1 hmt (by decide)
                        refine go_V [.ref s, .int (nI (a + 1)), .int lk] [] dX9_pairFrom_158 vl_X9_36 ⟨by omega, by decide⟩ (ih (a + 1) (lk) (mt1 Mt a (-4)) (pfB (fun lk2 mt2 R2 => pairS N A rs dd (a + 1) lk2 mt2 R2) A lk Mt a k R) (by omega) (by omega) hmf158) ((sc_out (by omega)).trans wy_obj) hqw (by omega) rfl rfl (Nat.le_of_ble_eq_true rfl) (Nat.le_of_ble_eq_true rfl) (Nat.le_of_ble_eq_true rfl) (fun r158 f158 n158 h158 => ?_)
                        obtain ⟨rfl, rfl, hn158⟩ := h158
                        subst n158
                        refine go_aload_n dX9_pairFrom_161 rfl ?_
                        refine go_get dX9_pairFrom_162 fl_X9_26_9 ((sc_out (by omega)).trans wy_obj) hqw (by omega) rfl ?_
                        refine go_iload dX9_pairFrom_165 rfl ?_
                        refine go_bipush (v := (-9)) dX9_pairFrom_167 rfl ?_
                        refine go_iast dX9_pairFrom_169 ((sc_out (by omega)).trans wy_2) (by omega) (by omega) (vp_in_nI (n := a) (by show a < 8; omega) (by decide)) ?_
                        rw [nI_clamp (by omega)]
                        refine go_mem (f' := (sc G (wy G m1 w (wV (pairS N A rs dd (a + 1) (lk) (mt1 Mt a (-4)) (pfB (fun lk2 mt2 R2 => pairS N A rs dd (a + 1) lk2 mt2 R2) A lk Mt a k R)) (if rs then 1 else 0) z) (pairS N A rs dd (a + 1) (lk) (mt1 Mt a (-4)) (pfB (fun lk2 mt2 R2 => pairS N A rs dd (a + 1) lk2 mt2 R2) A lk Mt a k R)).2.2 (upd (mt1 Mt a (-4)) a ((-9))) Wl T) s F W A B)) (sc_upo (by omega) wy_set2) ?_
                        have hps : pairS N A rs (dd + 1) fr lk Mt R = (pairS N A rs dd (a + 1) (lk) (mt1 Mt a (-4)) (pfB (fun lk2 mt2 R2 => pairS N A rs dd (a + 1) lk2 mt2 R2) A lk Mt a k R)) := by
                          rw [pairS_s, hffa, if_neg (show ¬ N ≤ a by omega), if_pos ⟨c132n, Bool.eq_false_iff.mpr c139⟩, show N - (a + 1) = k by omega]
                        refine go_mem (f' := (sc G (wy G m1 w (wV (pairS N A rs (dd + 1) fr lk Mt R) (if rs then 1 else 0) z) (pairS N A rs (dd + 1) fr lk Mt R).2.2 Mt Wl T) s F W A B)) (by rw [mt_set, mt_free hfa, hps]) ?_
                        exact go_vret dX9_pairFrom_170 rfl (Nat.le_of_ble_eq_true rfl) (Nat.le_of_ble_eq_true rfl) (hQ9 ▸ ⟨rfl, rfl, rfl⟩)
                  · have c58n := mt (nI_leI (a := N) (b := a + 1 + k) (by omega) (by omega)).mpr c58
                    have c58n := Nat.lt_of_not_le c58n
                    have c58 := Int32.not_le.mp c58
                    refine go_aload_n dX9_pairFrom_61 rfl ?_
                    refine go_get dX9_pairFrom_62 fl_X9_26_9 ((sc_out (by omega)).trans wy_obj) hqw (by omega) rfl ?_
                    refine go_iload dX9_pairFrom_65 rfl ?_
                    refine go_iald dX9_pairFrom_67 ((sc_out (by omega)).trans wy_2) (by omega) (by omega) (vp_in_nI (n := a + 1 + k) (by show a + 1 + k < 8; omega) (by decide)) ?_
                    refine go_tp (z := Mt (a + 1 + k)) (by rw [nI_clamp (by omega)]; exact if_neg (by omega)) ?_
                    refine go_bipush (v := (-9)) dX9_pairFrom_68 rfl ?_
                    refine go_icmp_ne dX9_pairFrom_70 (fun c70 => ?_) (fun c70 => ?_)
                    · refine go_iinc (v := nI ((a + 1 + k) + 1)) (ls' := [some (.ref w), some (.ref s), some (.int (nI fr)), some (.int lk), some (.int (nI a)), some (.int (nI ((a + 1 + k) + 1)))]) dX9_pairFrom_119 rfl (nI_1 (a + 1 + k)) ⟨by decide, rfl, rfl⟩ ?_
                      refine go_goto dX9_pairFrom_122 ?_
                      refine go_mem (f' := (sc G (wy G m1 w (wV (pfB (fun lk2 mt2 R2 => pairS N A rs dd (a + 1) lk2 mt2 R2) A lk Mt a (k + 1) R) (if rs then 1 else 0) z) (pfB (fun lk2 mt2 R2 => pairS N A rs dd (a + 1) lk2 mt2 R2) A lk Mt a (k + 1) R).2.2 (mt1 Mt a x) Wl T) s F W A B)) (by rw [show pfB (fun lk2 mt2 R2 => pairS N A rs dd (a + 1) lk2 mt2 R2) A lk Mt a (k + 1) R = pfB (fun lk2 mt2 R2 => pairS N A rs dd (a + 1) lk2 mt2 R2) A lk Mt a k R from if_neg c70]) ?_
                      exact ih_lp1 (k + 1) _ (by omega) (by omega) hxx
                    · refine go_aload_n dX9_pairFrom_73 rfl ?_
                      refine go_get dX9_pairFrom_74 fl_X9_26_9 ((sc_out (by omega)).trans wy_obj) hqw (by omega) rfl ?_
                      refine go_iload dX9_pairFrom_77 rfl ?_
                      refine go_iload dX9_pairFrom_79 rfl ?_
                      refine go_iast dX9_pairFrom_81 ((sc_out (by omega)).trans wy_2) (by omega) (by omega) (vp_in_nI (n := a) (by show a < 8; omega) (by decide)) ?_
                      rw [nI_clamp (by omega)]
                      refine go_mem (f' := (sc G (wy G m1 w (wV (pfB (fun lk2 mt2 R2 => pairS N A rs dd (a + 1) lk2 mt2 R2) A lk Mt a k R) (if rs then 1 else 0) z) (pfB (fun lk2 mt2 R2 => pairS N A rs dd (a + 1) lk2 mt2 R2) A lk Mt a k R).2.2 (upd (mt1 Mt a x) a (nI (a + 1 + k))) Wl T) s F W A B)) (sc_upo (by omega) wy_set2) ?_
                      refine go_aload_n dX9_pairFrom_82 rfl ?_
                      refine go_get dX9_pairFrom_83 fl_X9_26_9 ((sc_out (by omega)).trans wy_obj) hqw (by omega) rfl ?_
                      refine go_iload dX9_pairFrom_86 rfl ?_
                      refine go_iload dX9_pairFrom_88 rfl ?_
                      refine go_iast dX9_pairFrom_90 ((sc_out (by omega)).trans wy_2) (by omega) (by omega) (vp_in_nI (n := a + 1 + k) (by show a + 1 + k < 8; omega) (by decide)) ?_
                      rw [nI_clamp (by omega)]
                      refine go_mem (f' := (sc G (wy G m1 w (wV (pfB (fun lk2 mt2 R2 => pairS N A rs dd (a + 1) lk2 mt2 R2) A lk Mt a k R) (if rs then 1 else 0) z) (pfB (fun lk2 mt2 R2 => pairS N A rs dd (a + 1) lk2 mt2 R2) A lk Mt a k R).2.2 (upd (upd (mt1 Mt a x) a (nI (a + 1 + k))) (a + 1 + k) (nI a)) Wl T) s F W A B)) (sc_upo (by omega) wy_set2) ?_
                      refine go_mem (f' := (sc G (wy G m1 w (wV (pfB (fun lk2 mt2 R2 => pairS N A rs dd (a + 1) lk2 mt2 R2) A lk Mt a k R) (if rs then 1 else 0) z) (pfB (fun lk2 mt2 R2 => pairS N A rs dd (a + 1) lk2 mt2 R2) A lk Mt a k R).2.2 (mt2 Mt a (a + 1 + k)) Wl T) s F W A B)) (by rw [mt_two]) ?_
                      refine go_aload_n dX9_pairFrom_91 rfl ?_
                      refine go_aload_n dX9_pairFrom_92 rfl ?_
                      refine go_iload dX9_pairFrom_93 rfl ?_
                      refine go_iconst (v := 1) dX9_pairFrom_95 rfl ?_
                      refine go_iadd dX9_pairFrom_96 ?_
                      refine go_tp (z := nI (a + 1)) (nI_add a 1) ?_
                      refine go_iload_n dX9_pairFrom_97 rfl ?_
                      refine go_aload_n dX9_pairFrom_98 rfl ?_
                      refine go_iload dX9_pairFrom_99 rfl ?_
                      refine go_iload dX9_pairFrom_101 rfl ?_
                      refine go_Vr [.int (nI a), .int (nI (a + 1 + k))] [.int lk, .int (nI (a + 1)), .ref s, .ref w] dX9_pairFrom_103 vl_X9_49 ⟨by omega, by decide⟩ (e_X5_likingOf (m0 := (wy G m1 w (wV (pfB (fun lk2 mt2 R2 => pairS N A rs dd (a + 1) lk2 mt2 R2) A lk Mt a k R) (if rs then 1 else 0) z) (pfB (fun lk2 mt2 R2 => pairS N A rs dd (a + 1) lk2 mt2 R2) A lk Mt a k R).2.2 (mt2 Mt a (a + 1 + k)) Wl T)) (F := F) (W := W) (A := A) (B := B) hq hn hbe (by omega) (by omega) hN8) sc_obj hq (by omega) rfl rfl (Nat.le_of_ble_eq_true rfl) (Nat.le_of_ble_eq_true rfl) (Nat.le_of_ble_eq_true rfl) ?_
                      refine go_iadd dX9_pairFrom_106 ?_
                      have hmf107 : mtF N (mt2 Mt a (a + 1 + k)) := mtF_2 hmt (by omega) (by omega)
                      refine go_V [.ref s, .int (nI (a + 1)), .int (lk + (likS A a (a + 1 + k)))] [] dX9_pairFrom_107 vl_X9_36 ⟨by omega, by decide⟩ (ih (a + 1) (lk + (likS A a (a + 1 + k))) (mt2 Mt a (a + 1 + k)) (pfB (fun lk2 mt2 R2 => pairS N A rs dd (a + 1) lk2 mt2 R2) A lk Mt a k R) (by omega) (by omega) hmf107) ((sc_out (by omega)).trans wy_obj) hqw (by omega) rfl rfl (Nat.le_of_ble_eq_true rfl) (Nat.le_of_ble_eq_true rfl) (Nat.le_of_ble_eq_true rfl) (fun r107 f107 n107 h107 => ?_)
                      obtain ⟨rfl, rfl, hn107⟩ := h107
                      subst n107
                      refine go_aload_n dX9_pairFrom_110 rfl ?_
                      refine go_get dX9_pairFrom_111 fl_X9_26_9 ((sc_out (by omega)).trans wy_obj) hqw (by omega) rfl ?_
                      refine go_iload dX9_pairFrom_114 rfl ?_
                      refine go_bipush (v := (-9)) dX9_pairFrom_116 rfl ?_
                      refine go_iast dX9_pairFrom_118 ((sc_out (by omega)).trans wy_2) (by omega) (by omega) (vp_in_nI (n := a + 1 + k) (by show a + 1 + k < 8; omega) (by decide)) ?_
                      rw [nI_clamp (by omega)]
                      refine go_mem (f' := (sc G (wy G m1 w (wV (pairS N A rs dd (a + 1) (lk + (likS A a (a + 1 + k))) (mt2 Mt a (a + 1 + k)) (pfB (fun lk2 mt2 R2 => pairS N A rs dd (a + 1) lk2 mt2 R2) A lk Mt a k R)) (if rs then 1 else 0) z) (pairS N A rs dd (a + 1) (lk + (likS A a (a + 1 + k))) (mt2 Mt a (a + 1 + k)) (pfB (fun lk2 mt2 R2 => pairS N A rs dd (a + 1) lk2 mt2 R2) A lk Mt a k R)).2.2 (upd (mt2 Mt a (a + 1 + k)) (a + 1 + k) ((-9))) Wl T) s F W A B)) (sc_upo (by omega) wy_set2) ?_
                      refine go_iinc (v := nI ((a + 1 + k) + 1)) (ls' := [some (.ref w), some (.ref s), some (.int (nI fr)), some (.int lk), some (.int (nI a)), some (.int (nI ((a + 1 + k) + 1)))]) dX9_pairFrom_119 rfl (nI_1 (a + 1 + k)) ⟨by decide, rfl, rfl⟩ ?_
                      refine go_goto dX9_pairFrom_122 ?_
                      refine go_mem (f' := (sc G (wy G m1 w (wV (pfB (fun lk2 mt2 R2 => pairS N A rs dd (a + 1) lk2 mt2 R2) A lk Mt a (k + 1) R) (if rs then 1 else 0) z) (pfB (fun lk2 mt2 R2 => pairS N A rs dd (a + 1) lk2 mt2 R2) A lk Mt a (k + 1) R).2.2 (mt1 Mt a (nI (a + 1 + k))) Wl T) s F W A B)) (by rw [mt_back c70 (by omega), show pfB (fun lk2 mt2 R2 => pairS N A rs dd (a + 1) lk2 mt2 R2) A lk Mt a (k + 1) R = (pairS N A rs dd (a + 1) (lk + (likS A a (a + 1 + k))) (mt2 Mt a (a + 1 + k)) (pfB (fun lk2 mt2 R2 => pairS N A rs dd (a + 1) lk2 mt2 R2) A lk Mt a k R)) from if_pos c70]) ?_
                      exact ih_lp1 (k + 1) _ (by omega) (by omega) (mt_n4 (by omega))
              refine go_mem (f' := (sc G (wy G m1 w (wV (pfB (fun lk2 mt2 R2 => pairS N A rs dd (a + 1) lk2 mt2 R2) A lk Mt a 0 R) (if rs then 1 else 0) z) (pfB (fun lk2 mt2 R2 => pairS N A rs dd (a + 1) lk2 mt2 R2) A lk Mt a 0 R).2.2 (mt1 Mt a (-9)) Wl T) s F W A B)) (by rw [mt_free hfa] <;> rfl) ?_
              exact lp1 (N + 1) 0 (-9) (by omega) (by omega) (by decide)
            · have c36n := mt (nI_ltI (a := a0) (b := N) (by omega) (by omega)).mpr c36
              exact absurd c9 c36
          · refine go_iinc (v := nI (a0 + 1)) (ls' := [some (.ref w), some (.ref s), some (.int (nI fr)), some (.int lk), some (.int (nI (a0 + 1))), none]) dX9_pairFrom_24 rfl (nI_1 (a0)) ⟨by decide, rfl, rfl⟩ ?_
            refine go_goto dX9_pairFrom_27 ?_
            exact ih_lp0 (a0 + 1) (by omega) (by omega) (by omega) (by rw [hff, ffM_d (by omega), if_neg c21])
    exact lp0 (N + 1) fr (by omega) (by omega) (by omega) rfl
end C7
