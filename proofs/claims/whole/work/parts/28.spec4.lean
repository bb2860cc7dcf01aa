def okm (N : Nat) (p : Int32) : Bool := decide (¬ p < -1 ∧ p < nI N)
theorem li_okm {N : Nat} {p : Int32} (hN : N < 2 ^ 30) : liS p.toInt64 (-1) (nI N - 1).toInt64 ↔ okm N p := by
  rw [liS_i, show okm N p = true ↔ ¬ p < -1 ∧ p < nI N from decide_eq_true_iff]
  have e : (nI N - 1).toInt = (N : Int) - 1 := pk_sub_toInt (a := N) (b := 1) hN (by omega)
  rw [i64_lt, i64_lt, i32_lt, i32_lt, Int32.toInt_toInt64, Int32.toInt_toInt64, e, nI_toInt (by omega), show ((-1 : Int64).toInt) = -1 from rfl, show ((-1 : Int32).toInt) = -1 from rfl]
  omega
theorem wkS_ok {H : Nat → Int32} {x d : Int32} (h : ¬ wkS H x d < 0) : ∃ j : Nat, j ≤ 7 ∧ d = nI j ∧ H j = x := by
  unfold wkS at h
  by_cases h1 : okr d 0 7 = true
  · rw [if_neg (fun z => z h1)] at h
    obtain ⟨j, hj, rfl⟩ := okr_nI (k := 7) rfl (by omega) h1
    rw [nI_clamp (by omega)] at h
    by_cases h2 : H j = 0
    · rw [if_pos h2] at h
      exact absurd (by decide) h
    · rw [if_neg h2] at h
      by_cases h3 : H j = x
      · exact ⟨j, hj, rfl, h3⟩
      · rw [if_pos h3] at h
        exact absurd (by decide) h
  · rw [if_pos h1] at h
    exact absurd (by decide) h
/-- a row's length -/
def rlOK (A : Nat → Nat → Int32) : Prop := ∀ d, d < 8 → ∃ R, R ≤ 100 ∧ A 12 d = nI R
def jnW (A : Nat → Nat → Int32) (d h : Int32) : Int32 := if okr h 0 5 then wkS (A 8) 1 d else -1
def jnC (N : Nat) (A : Nat → Nat → Int32) (d h : Int32) : Bool := decide (¬ jnW A d h < 0 ∧ pcC N (A 9 d.toNatClampNeg) h = true)
def jnR (N : Nat) (A : Nat → Nat → Int32) (d h : Int32) : Int32 := if jnW A d h < 0 then jnW A d h else if pcC N (A 9 d.toNatClampNeg) h then nI N else -2
def stC (M : Nat) (far ab : Int32) : Bool := decide (okr far 0 9 = true ∧ okr ab 0 1 = true ∧ lcC M ab = true)
def stR (M : Nat) (far ab : Int32) : Int32 := if okr far 0 9 ∧ okr ab 0 1 then (if lcC M ab then nI M else -2) else -1
/-- whom each has -/
def mtOK (N : Nat) (mt : Nat → Int32) : Prop := ∀ p, p < N → mt p < 0 ∨ ∃ o, o < N ∧ mt p = nI o
def mbS (A : Nat → Nat → Int32) (mt : Nat → Int32) (p : Nat) : Int32 := if mt p < 0 then 0 else brS A p (mt p).toNatClampNeg
def raS (A : Nat → Nat → Int32) (mt : Nat → Int32) (a b : Nat) : Bool := decide (¬ mt a = nI b ∧ mbS A mt a < brS A a b ∧ mbS A mt b < brS A b a)
def evP (N : Nat) (A : Nat → Nat → Int32) (p o : Nat) : Bool := decide (¬ o = p ∧ ¬ nI o = mateS N (A 4) p ∧ ctS N A p < cpS A p (A 4 o) (mateS N (A 4) o))
def evS (N : Nat) (A : Nat → Nat → Int32) (p : Nat) : Int32 := cnS (evP N A p) N
def envS (N : Nat) (A : Nat → Nat → Int32) (p : Int32) : Int32 := if okm N p then smS (fun o => if p < 0 ∨ nI o = p then evS N A o else 0) N else -1
def wpP (N : Nat) (A : Nat → Nat → Int32) (q : Int32) (p : Nat) : Bool := decide (¬ mateS N (A 4) p < 0 ∧ q < 12 - brS A p (mateS N (A 4) p).toNatClampNeg)
def wpS (N : Nat) (A : Nat → Nat → Int32) (q : Int32) : Int32 := cnS (wpP N A q) N
def aloS (N : Nat) (A : Nat → Nat → Int32) (q : Int32) : Int32 := if okr q 0 99 then wpS N A q else -1
def lsB (P : Nat → Bool) : Nat → Int32
  | 0 => -4
  | k + 1 => if P k then nI k else lsB P k
def priS (N : Nat) (A : Nat → Nat → Int32) (x : Int32) : Int32 := if x < 1 then -1 else lsB (fun q => decide (¬ wpS N A (nI q) < x)) 100
def hfS (p m v : Int32) : Int32 := if p < m then v - v / 2 else v / 2
def cosS (A : Nat → Nat → Int32) (d : Int32) : Int32 := if wkS (A 8) 1 d < 0 then wkS (A 8) 1 d else costS (A 9 d.toNatClampNeg) (A 10 d.toNatClampNeg)
def tosV (k fg : Int32) : Int32 := if k = 1 ∨ k = 5 ∨ fg = 0 then -15 else if k = 4 then 200 + costS k fg else if k = 2 ∨ k = 6 then 100 + fg else fg
def tosS (A : Nat → Nat → Int32) (d : Int32) : Int32 := if wkS (A 8) 1 d < 0 then wkS (A 8) 1 d else tosV (A 9 d.toNatClampNeg) (A 10 d.toNatClampNeg)
def kpC (d what k fg : Int32) : Bool := decide (okr d 0 7 = true ∧ okr what 0 1 = true ∧ ¬ (what = 1 ∧ ¬ (okr k 0 7 = true ∧ okr fg 0 9 = true)))
def kpA (A : Nat → Nat → Int32) (d what k fg : Int32) : Nat → Nat → Int32 := if kpC d what k fg then upA (upA (upA A 8 d.toNatClampNeg what) 9 d.toNatClampNeg (if what = 1 then k else 0)) 10 d.toNatClampNeg (if what = 1 then fg else 0) else A
def ptR (A : Nat → Nat → Int32) (d i : Int32) : Int32 := if wkS (A 8) 2 d < 0 then wkS (A 8) 2 d else if okp (A 12 d.toNatClampNeg).toNatClampNeg i then 0 else -13
def ptL (A : Nat → Nat → Int32) (L : Nat → Nat → Int64) (d i v : Int32) : Nat → Nat → Int64 := if ¬ wkS (A 8) 2 d < 0 ∧ okp (A 12 d.toNatClampNeg).toNatClampNeg i then upA L 13 (100 * d.toNatClampNeg + i.toNatClampNeg) (nrS v (A 11 d.toNatClampNeg)) else L
/-- element: which throw (1, 2), or none (0); the answer -/
def elT (A : Nat → Nat → Int32) (d i : Int32) : Int32 := if wkS (A 8) 2 d = -1 then 1 else if wkS (A 8) 2 d < 0 ∨ ¬ okp (A 12 d.toNatClampNeg).toNatClampNeg i = true then 2 else 0
def elV (A : Nat → Nat → Int32) (L : Nat → Nat → Int64) (d i : Int32) : Int64 := if 0 < elT A d i then 0 else L 13 (100 * d.toNatClampNeg + i.toNatClampNeg)
theorem p1m (n : Nat) : nI (n + 1) - 1 = nI n := nI_pred n
