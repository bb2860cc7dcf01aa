/-! both, side by side -/
abbrev JD : Type := (Nat → Int32) × (Nat → Option Nat) × (Nat → Int32) × (Nat → Int32) × (Nat → Option Nat) × (Nat → Int32) × (Nat → Int32) × (Nat → Option Nat) × (Nat → Nat → Int32) × (Nat → Int32) × (Nat → Int32) × (Nat → Int32) × (Nat → Int32) × (Nat → Int64) × (Nat → Int32) × (Nat → Option Nat) × (Nat → Option Nat)
abbrev JD.F (j : JD) : Nat → Int32 := j.1
abbrev JD.W (j : JD) : Nat → Option Nat := j.2.1
abbrev JD.B (j : JD) : Nat → Int32 := j.2.2.1
abbrev JD.F2 (j : JD) : Nat → Int32 := j.2.2.2.1
abbrev JD.W2 (j : JD) : Nat → Option Nat := j.2.2.2.2.1
abbrev JD.B2 (j : JD) : Nat → Int32 := j.2.2.2.2.2.1
abbrev JD.F3 (j : JD) : Nat → Int32 := j.2.2.2.2.2.2.1
abbrev JD.W3 (j : JD) : Nat → Option Nat := j.2.2.2.2.2.2.2.1
abbrev JD.A3 (j : JD) : Nat → Nat → Int32 := j.2.2.2.2.2.2.2.2.1
abbrev JD.B3 (j : JD) : Nat → Int32 := j.2.2.2.2.2.2.2.2.2.1
abbrev JD.V (j : JD) : Nat → Int32 := j.2.2.2.2.2.2.2.2.2.2.1
abbrev JD.C (j : JD) : Nat → Int32 := j.2.2.2.2.2.2.2.2.2.2.2.1
abbrev JD.Mt (j : JD) : Nat → Int32 := j.2.2.2.2.2.2.2.2.2.2.2.2.1
abbrev JD.Wl (j : JD) : Nat → Int64 := j.2.2.2.2.2.2.2.2.2.2.2.2.2.1
abbrev JD.T (j : JD) : Nat → Int32 := j.2.2.2.2.2.2.2.2.2.2.2.2.2.2.1
abbrev JD.Os (j : JD) : Nat → Option Nat := j.2.2.2.2.2.2.2.2.2.2.2.2.2.2.2.1
abbrev JD.Rs (j : JD) : Nat → Option Nat := j.2.2.2.2.2.2.2.2.2.2.2.2.2.2.2.2
/-- where a one may lie -/
def apZ (x a : Nat) : Prop := a = x + 9 ∨ a = x + 18 ∨ a = x + 27 ∨ x + 61 ≤ a
/-- two in one at most -/
def two2 (N : Nat) (ins : Nat → Int32) : Prop := ∀ a b c, a < N → b < N → c < N → a ≠ b → a ≠ c → b ≠ c → ¬ ins a = 9 → ins b = ins a → ins c = ins a → False
/-- a school that lies at s -/
def schJ (G : GX) (f : Mem) (n x s : Nat) (q : SS) (F : Nat → Int32) (W : Nat → Option Nat) (B : Nat → Int32) : Prop := (sc G f s F W q.2.2.2 B = f) ∧ (F 0 = nI q.1) ∧ (F 1 = nI q.2.1) ∧ (F 2 = q.2.2.1) ∧ (∀ a b, a < q.1 → b < q.1 → B (a * 8 + b) = brS q.2.2.2 a b) ∧ (∀ p, p < 8 → ∃ a, W p = some a ∧ oneM G f n a (q.2.2.2 1 p) (q.2.2.2 2 p)) ∧ (wP (apZ x) W) ∧ (schOK q) ∧ (two2 q.1 (q.2.2.2 4))
theorem schJ.hs {G : GX} {f : Mem} {n x s : Nat} {q : SS} {F : Nat → Int32} {W : Nat → Option Nat} {B : Nat → Int32} (h : schJ G f n x s q F W B) : sc G f s F W q.2.2.2 B = f := h.1
theorem schJ.f0 {G : GX} {f : Mem} {n x s : Nat} {q : SS} {F : Nat → Int32} {W : Nat → Option Nat} {B : Nat → Int32} (h : schJ G f n x s q F W B) : F 0 = nI q.1 := h.2.1
theorem schJ.f1 {G : GX} {f : Mem} {n x s : Nat} {q : SS} {F : Nat → Int32} {W : Nat → Option Nat} {B : Nat → Int32} (h : schJ G f n x s q F W B) : F 1 = nI q.2.1 := h.2.2.1
theorem schJ.f2 {G : GX} {f : Mem} {n x s : Nat} {q : SS} {F : Nat → Int32} {W : Nat → Option Nat} {B : Nat → Int32} (h : schJ G f n x s q F W B) : F 2 = q.2.2.1 := h.2.2.2.1
theorem schJ.be {G : GX} {f : Mem} {n x s : Nat} {q : SS} {F : Nat → Int32} {W : Nat → Option Nat} {B : Nat → Int32} (h : schJ G f n x s q F W B) : ∀ a b, a < q.1 → b < q.1 → B (a * 8 + b) = brS q.2.2.2 a b := h.2.2.2.2.1
theorem schJ.wh {G : GX} {f : Mem} {n x s : Nat} {q : SS} {F : Nat → Int32} {W : Nat → Option Nat} {B : Nat → Int32} (h : schJ G f n x s q F W B) : ∀ p, p < 8 → ∃ a, W p = some a ∧ oneM G f n a (q.2.2.2 1 p) (q.2.2.2 2 p) := h.2.2.2.2.2.1
theorem schJ.wz {G : GX} {f : Mem} {n x s : Nat} {q : SS} {F : Nat → Int32} {W : Nat → Option Nat} {B : Nat → Int32} (h : schJ G f n x s q F W B) : wP (apZ x) W := h.2.2.2.2.2.2.1
theorem schJ.ok {G : GX} {f : Mem} {n x s : Nat} {q : SS} {F : Nat → Int32} {W : Nat → Option Nat} {B : Nat → Int32} (h : schJ G f n x s q F W B) : schOK q := h.2.2.2.2.2.2.2.1
theorem schJ.tw {G : GX} {f : Mem} {n x s : Nat} {q : SS} {F : Nat → Int32} {W : Nat → Option Nat} {B : Nat → Int32} (h : schJ G f n x s q F W B) : two2 q.1 (q.2.2.2 4) := h.2.2.2.2.2.2.2.2
/-- the shelves -/
def shJ (G : GX) (f : Mem) (n x : Nat) (A : Nat → Nat → Int32) (L : Nat → Nat → Int64) (Os Rs : Nat → Option Nat) : Prop := (f (x + 33) = oa G 2 8 Os) ∧ (f (x + 34) = oa G 3 8 Rs) ∧ (∀ d, d < 8 → shD G f n Os Rs A d) ∧ (∀ d a, Os d = some a → x + 61 ≤ a ∧ a < n) ∧ (∀ d b, Rs d = some b → x + 61 ≤ b ∧ b < n ∧ ∀ so ar, f b = ob 4 [.int so, .ref ar] → x + 61 ≤ ar ∧ ar < n) ∧ (∀ d d2 b b2 so so2 ar ar2, Rs d = some b → Rs d2 = some b2 → f b = ob 4 [.int so, .ref ar] → f b2 = ob 4 [.int so2, .ref ar2] → ar = ar2 → d = d2) ∧ (∀ d b ar R g, d < 8 → Rs d = some b → f b = ob 4 [.int (A 11 d), .ref ar] → f ar = ia G R g → A 12 d = nI R → ∀ k, k < R → L 13 (100 * d + k) = (g k).toInt64) ∧ (∀ d, d < 8 → okr (A 11 d) 0 2 = true) ∧ (rlOK A)
theorem shJ.os {G : GX} {f : Mem} {n x : Nat} {A : Nat → Nat → Int32} {L : Nat → Nat → Int64} {Os Rs : Nat → Option Nat} (h : shJ G f n x A L Os Rs) : f (x + 33) = oa G 2 8 Os := h.1
theorem shJ.rs {G : GX} {f : Mem} {n x : Nat} {A : Nat → Nat → Int32} {L : Nat → Nat → Int64} {Os Rs : Nat → Option Nat} (h : shJ G f n x A L Os Rs) : f (x + 34) = oa G 3 8 Rs := h.2.1
theorem shJ.sh {G : GX} {f : Mem} {n x : Nat} {A : Nat → Nat → Int32} {L : Nat → Nat → Int64} {Os Rs : Nat → Option Nat} (h : shJ G f n x A L Os Rs) : ∀ d, d < 8 → shD G f n Os Rs A d := h.2.2.1
theorem shJ.oz {G : GX} {f : Mem} {n x : Nat} {A : Nat → Nat → Int32} {L : Nat → Nat → Int64} {Os Rs : Nat → Option Nat} (h : shJ G f n x A L Os Rs) : ∀ d a, Os d = some a → x + 61 ≤ a ∧ a < n := h.2.2.2.1
theorem shJ.rz {G : GX} {f : Mem} {n x : Nat} {A : Nat → Nat → Int32} {L : Nat → Nat → Int64} {Os Rs : Nat → Option Nat} (h : shJ G f n x A L Os Rs) : ∀ d b, Rs d = some b → x + 61 ≤ b ∧ b < n ∧ ∀ so ar, f b = ob 4 [.int so, .ref ar] → x + 61 ≤ ar ∧ ar < n := h.2.2.2.2.1
theorem shJ.ra {G : GX} {f : Mem} {n x : Nat} {A : Nat → Nat → Int32} {L : Nat → Nat → Int64} {Os Rs : Nat → Option Nat} (h : shJ G f n x A L Os Rs) : ∀ d d2 b b2 so so2 ar ar2, Rs d = some b → Rs d2 = some b2 → f b = ob 4 [.int so, .ref ar] → f b2 = ob 4 [.int so2, .ref ar2] → ar = ar2 → d = d2 := h.2.2.2.2.2.1
theorem shJ.va {G : GX} {f : Mem} {n x : Nat} {A : Nat → Nat → Int32} {L : Nat → Nat → Int64} {Os Rs : Nat → Option Nat} (h : shJ G f n x A L Os Rs) : ∀ d b ar R g, d < 8 → Rs d = some b → f b = ob 4 [.int (A 11 d), .ref ar] → f ar = ia G R g → A 12 d = nI R → ∀ k, k < R → L 13 (100 * d + k) = (g k).toInt64 := h.2.2.2.2.2.2.1
theorem shJ.so {G : GX} {f : Mem} {n x : Nat} {A : Nat → Nat → Int32} {L : Nat → Nat → Int64} {Os Rs : Nat → Option Nat} (h : shJ G f n x A L Os Rs) : ∀ d, d < 8 → okr (A 11 d) 0 2 = true := h.2.2.2.2.2.2.2.1
theorem shJ.rl {G : GX} {f : Mem} {n x : Nat} {A : Nat → Nat → Int32} {L : Nat → Nat → Int64} {Os Rs : Nat → Option Nat} (h : shJ G f n x A L Os Rs) : rlOK A := h.2.2.2.2.2.2.2.2
def JC (G : GX) (f : Mem) (n x : Nat) (b : Int32) (q J : SS) (L : Nat → Nat → Int64) (j : JD) : Prop := (G.2.1 ≤ x) ∧ (x + 61 ≤ n) ∧ (f x = ob 11 (xfs (x + 1) (x + 10) (x + 19) (x + 28) (x + 33) (x + 34) b)) ∧ (schJ G f n x (x + 1) q j.F j.W j.B) ∧ (schJ G f n x (x + 10) J j.F2 j.W2 j.B2) ∧ (sc G f (x + 19) j.F3 j.W3 j.A3 j.B3 = f) ∧ (wy G f (x + 28) j.V j.C j.Mt j.Wl j.T = f) ∧ (shJ G f n x q.2.2.2 L j.Os j.Rs)
theorem JC.x0 {G : GX} {f : Mem} {n x : Nat} {b : Int32} {q J : SS} {L : Nat → Nat → Int64} {j : JD} (h : JC G f n x b q J L j) : G.2.1 ≤ x := h.1
theorem JC.xn {G : GX} {f : Mem} {n x : Nat} {b : Int32} {q J : SS} {L : Nat → Nat → Int64} {j : JD} (h : JC G f n x b q J L j) : x + 61 ≤ n := h.2.1
theorem JC.x1 {G : GX} {f : Mem} {n x : Nat} {b : Int32} {q J : SS} {L : Nat → Nat → Int64} {j : JD} (h : JC G f n x b q J L j) : f x = ob 11 (xfs (x + 1) (x + 10) (x + 19) (x + 28) (x + 33) (x + 34) b) := h.2.2.1
theorem JC.now {G : GX} {f : Mem} {n x : Nat} {b : Int32} {q J : SS} {L : Nat → Nat → Int64} {j : JD} (h : JC G f n x b q J L j) : schJ G f n x (x + 1) q j.F j.W j.B := h.2.2.2.1
theorem JC.img {G : GX} {f : Mem} {n x : Nat} {b : Int32} {q J : SS} {L : Nat → Nat → Int64} {j : JD} (h : JC G f n x b q J L j) : schJ G f n x (x + 10) J j.F2 j.W2 j.B2 := h.2.2.2.2.1
theorem JC.tri {G : GX} {f : Mem} {n x : Nat} {b : Int32} {q J : SS} {L : Nat → Nat → Int64} {j : JD} (h : JC G f n x b q J L j) : sc G f (x + 19) j.F3 j.W3 j.A3 j.B3 = f := h.2.2.2.2.2.1
theorem JC.way {G : GX} {f : Mem} {n x : Nat} {b : Int32} {q J : SS} {L : Nat → Nat → Int64} {j : JD} (h : JC G f n x b q J L j) : wy G f (x + 28) j.V j.C j.Mt j.Wl j.T = f := h.2.2.2.2.2.2.1
theorem JC.shl {G : GX} {f : Mem} {n x : Nat} {b : Int32} {q J : SS} {L : Nat → Nat → Int64} {j : JD} (h : JC G f n x b q J L j) : shJ G f n x q.2.2.2 L j.Os j.Rs := h.2.2.2.2.2.2.2
/-- the imaged school in the reference's row -/
def imR (J : SS) (r : Nat → Int32) : Prop := r 0 = nI J.1 ∧ r 1 = nI J.2.1 ∧ r 2 = J.2.2.1 ∧ (∀ c p, c < 4 → p < 8 → r (3 + 4 * p + c) = J.2.2.2 (1 + c) p) ∧ ∀ c l, c < 3 → l < 5 → r (35 + 3 * l + c) = J.2.2.2 (5 + c) l
def JM (G : GX) (f : Mem) (x : Nat) (b : Int32) (q J : SS) (L : Nat → Nat → Int64) (F : Nat → Int32) (K : Option Nat) : Prop := (mo G f (x + 35) F q.2.2.2 L K = f) ∧ (F 0 = nI q.1) ∧ (F 5 = nI q.2.1) ∧ (F 9 = q.2.2.1) ∧ ((b = 0 ∧ F 26 = 0) ∨ (b = 1 ∧ F 26 = 1 ∧ imR J (q.2.2.2 18)))
theorem JM.hm {G : GX} {f : Mem} {x : Nat} {b : Int32} {q J : SS} {L : Nat → Nat → Int64} {F : Nat → Int32} {K : Option Nat} (h : JM G f x b q J L F K) : mo G f (x + 35) F q.2.2.2 L K = f := h.1
theorem JM.m0 {G : GX} {f : Mem} {x : Nat} {b : Int32} {q J : SS} {L : Nat → Nat → Int64} {F : Nat → Int32} {K : Option Nat} (h : JM G f x b q J L F K) : F 0 = nI q.1 := h.2.1
theorem JM.m5 {G : GX} {f : Mem} {x : Nat} {b : Int32} {q J : SS} {L : Nat → Nat → Int64} {F : Nat → Int32} {K : Option Nat} (h : JM G f x b q J L F K) : F 5 = nI q.2.1 := h.2.2.1
theorem JM.m9 {G : GX} {f : Mem} {x : Nat} {b : Int32} {q J : SS} {L : Nat → Nat → Int64} {F : Nat → Int32} {K : Option Nat} (h : JM G f x b q J L F K) : F 9 = q.2.2.1 := h.2.2.2.1
theorem JM.mi {G : GX} {f : Mem} {x : Nat} {b : Int32} {q J : SS} {L : Nat → Nat → Int64} {F : Nat → Int32} {K : Option Nat} (h : JM G f x b q J L F K) : (b = 0 ∧ F 26 = 0) ∨ (b = 1 ∧ F 26 = 1 ∧ imR J (q.2.2.2 18)) := h.2.2.2.2
def JJ (G : GX) (f : Mem) (n x : Nat) : Prop := ∃ b q J L j F K, JC G f n x b q J L j ∧ JM G f x b q J L F K ∧ ∃ g, f (x + 60) = ja G 1 g
section ZA
variable {G : GX} {f f' f1 : Mem} {n n' n1 x s : Nat} {q q' J J' : SS} {L L' : Nat → Nat → Int64} {b : Int32} {j j' : JD}
theorem mo_of {F : Nat → Int32} {A : Nat → Nat → Int32} {K : Option Nat} {q0 : Nat} (h : mo G f q0 F A L K = f) (hm : ∀ z, q0 ≤ z → z < q0 + 25 → f' z = f z) : mo G f' q0 F A L K = f' := by
  funext a
  have h1 := congrFun h a
  unfold mo at h1 ⊢
  by_cases c : a < q0 ∨ q0 + 25 ≤ a
  · rw [if_pos c]
  · rw [if_neg c] at h1 ⊢
    rw [hm a (by omega) (by omega), h1]
theorem mo_idem {F F2 : Nat → Int32} {A A2 : Nat → Nat → Int32} {K K2 : Option Nat} {q0 : Nat} : mo G (mo G f q0 F2 A2 L' K2) q0 F A L K = mo G f q0 F A L K := by
  funext a
  unfold mo
  by_cases h : a < q0 ∨ q0 + 25 ≤ a
  · rw [if_pos h, if_pos h, if_pos h]
  · rw [if_neg h, if_neg h]
theorem mo_out {F : Nat → Int32} {A : Nat → Nat → Int32} {K : Option Nat} {q0 a : Nat} (h : a < q0 ∨ q0 + 25 ≤ a) : mo G f q0 F A L K a = f a := if_pos h
theorem oneM.at1 {a : Nat} {k g : Int32} (h : oneM G f n a k g) (he : f' a = f a) (hn : n ≤ n') : oneM G f' n' a k g := by
  obtain ⟨kk, gg, h1, h2, h3, h4, h5, h6, h7⟩ := h
  exact ⟨kk, gg, h1, h2, h3, h4, he.trans h5, h6, Nat.lt_of_lt_of_le h7 hn⟩
theorem oneM.lt {a : Nat} {k g : Int32} (h : oneM G f n a k g) : G.2.1 ≤ a ∧ a < n := ⟨h.choose_spec.choose_spec.2.2.2.2.2.1, h.choose_spec.choose_spec.2.2.2.2.2.2⟩
theorem schJ.ext {F : Nat → Int32} {W : Nat → Option Nat} {B : Nat → Int32} (h : schJ G f n x s q F W B) (h1 : ∀ a, s ≤ a → a < s + 8 → f' a = f a) (h2 : ∀ a, apZ x a → a < n → f' a = f a) (hn : n ≤ n') : schJ G f' n' x s q F W B :=
  ⟨sc_of2 h.hs h1, h.f0, h.f1, h.f2, h.be, fun p hp => by
    obtain ⟨a, e, ho⟩ := h.wh p hp
    exact ⟨a, e, ho.at1 (h2 a (h.wz p hp a e) ho.lt.2) hn⟩, h.wz, h.ok, h.tw⟩
theorem schJ.rows {F : Nat → Int32} {W : Nat → Option Nat} {B : Nat → Int32} {A' : Nat → Nat → Int32} (h : schJ G f n x s q F W B) (hr : ∀ r, 1 ≤ r → r ≤ 7 → A' r = q.2.2.2 r) : schJ G f n x s (q.1, q.2.1, q.2.2.1, A') F W B := by
  refine ⟨(sc_rows (fun r h1 h2 => (hr r (by omega) h2).symm)).trans h.hs, h.f0, h.f1, h.f2, fun a b ha hb => (h.be a b ha hb).trans ?_, fun p hp => ?_, h.wz, ?_, ?_⟩
  · show brS q.2.2.2 a b = brS A' a b
    unfold brS
    rw [hr 1 (by omega) (by omega), hr 2 (by omega) (by omega)]
  · show ∃ a, W p = some a ∧ oneM G f n a (A' 1 p) (A' 2 p)
    rw [hr 1 (by omega) (by omega), hr 2 (by omega) (by omega)]
    exact h.wh p hp
  · obtain ⟨k1, k2, k3, k4, k5, k6, k7⟩ := h.ok
    refine ⟨k1, k2, ?_, ?_, ?_, ?_, k7⟩
    · show insOK q.1 q.2.1 (A' 4)
      rw [hr 4 (by omega) (by omega)]
      exact k3
    · show kyOK q.2.1 (A' 7)
      rw [hr 7 (by omega) (by omega)]
      exact k4
    · show ∀ p, p < q.1 → (∃ k, k < 8 ∧ A' 1 p = nI k) ∧ (∃ k, k < 10 ∧ A' 2 p = nI k) ∧ ∃ k, k < 6 ∧ A' 3 p = nI k
      rw [hr 1 (by omega) (by omega), hr 2 (by omega) (by omega), hr 3 (by omega) (by omega)]
      exact k5
    · show ∀ l, l < q.2.1 → (∃ k, k < 10 ∧ A' 5 l = nI k) ∧ ∃ k, k < 2 ∧ A' 6 l = nI k
      rw [hr 5 (by omega) (by omega), hr 6 (by omega) (by omega)]
      exact k6
  · show two2 q.1 (A' 4)
    rw [hr 4 (by omega) (by omega)]
    exact h.tw
theorem shD.at1 {Os Rs : Nat → Option Nat} {A : Nat → Nat → Int32} {d : Nat} (h : shD G f n Os Rs A d) (ho : ∀ a, Os d = some a → f' a = f a) (hr : ∀ b so ar, Rs d = some b → f b = ob 4 [.int so, .ref ar] → f' b = f b ∧ f' ar = f ar) (hn : n ≤ n') : shD G f' n' Os Rs A d := by
  rcases h with z | ⟨e8, eR, a, eO, ho1⟩ | ⟨e8, eO, b, ar, R, g, eR, ⟨r1, r2, r3, r4, r5, r6, r7⟩, eK⟩
  · exact Or.inl z
  · exact Or.inr (Or.inl ⟨e8, eR, a, eO, ho1.at1 (ho a eO) hn⟩)
  · obtain ⟨z1, z2⟩ := hr b _ ar eR r1
    exact Or.inr (Or.inr ⟨e8, eO, b, ar, R, g, eR, ⟨z1.trans r1, r2, Nat.lt_of_lt_of_le r3 hn, z2.trans r4, r5, Nat.lt_of_lt_of_le r6 hn, r7⟩, eK⟩)
theorem shJ.ext {A : Nat → Nat → Int32} {Os Rs : Nat → Option Nat} (h : shJ G f n x A L Os Rs) (h1 : f' (x + 33) = f (x + 33)) (h2 : f' (x + 34) = f (x + 34)) (h3 : ∀ a, x + 61 ≤ a → a < n → f' a = f a) (hn : n ≤ n') : shJ G f' n' x A L Os Rs := by
  have hb : ∀ d b, Rs d = some b → f' b = f b := fun d b e => h3 b (h.rz d b e).1 (h.rz d b e).2.1
  refine ⟨h1.trans h.os, h2.trans h.rs, fun d hd => (h.sh d hd).at1 (fun a e => h3 a (h.oz d a e).1 (h.oz d a e).2) (fun b so ar e eb => ?_) hn, fun d a e => ⟨(h.oz d a e).1, Nat.lt_of_lt_of_le (h.oz d a e).2 hn⟩, fun d b e => ⟨(h.rz d b e).1, Nat.lt_of_lt_of_le (h.rz d b e).2.1 hn, fun so ar eb => ?_⟩, fun d d2 b b2 so so2 ar ar2 e e2 eb eb2 z => ?_, fun d b ar R g hd e eb ea eR k hk => ?_, h.so, h.rl⟩
  · obtain ⟨z1, z2⟩ := (h.rz d b e).2.2 so ar eb
    exact ⟨hb d b e, h3 ar z1 z2⟩
  · rw [hb d b e] at eb
    obtain ⟨z1, z2⟩ := (h.rz d b e).2.2 so ar eb
    exact ⟨z1, Nat.lt_of_lt_of_le z2 hn⟩
  · rw [hb d b e] at eb
    rw [hb d2 b2 e2] at eb2
    exact h.ra d d2 b b2 so so2 ar ar2 e e2 eb eb2 z
  · rw [hb d b e] at eb
    obtain ⟨z1, z2⟩ := (h.rz d b e).2.2 _ ar eb
    rw [h3 ar z1 z2] at ea
    exact h.va d b ar R g hd e eb ea eR k hk
theorem shJ.rows {A A' : Nat → Nat → Int32} {Os Rs : Nat → Option Nat} (h : shJ G f n x A L Os Rs) (hr : ∀ r, 8 ≤ r → r ≤ 12 → A' r = A r) (hL : L' 13 = L 13) : shJ G f n x A' L' Os Rs := by
  have e8 := hr 8 (by omega) (by omega)
  have e9 := hr 9 (by omega) (by omega)
  have e10 := hr 10 (by omega) (by omega)
  have e11 := hr 11 (by omega) (by omega)
  have e12 := hr 12 (by omega) (by omega)
  refine ⟨h.os, h.rs, fun d hd => ?_, h.oz, h.rz, h.ra, fun d b ar R g hd e eb ea eR k hk => ?_, fun d hd => ?_, fun d hd => ?_⟩
  · have z := h.sh d hd
    unfold shD at z ⊢
    rw [e8, e9, e10, e11, e12]
    exact z
  · rw [e11] at eb
    rw [e12] at eR
    rw [hL]
    exact h.va d b ar R g hd e eb ea eR k hk
  · rw [e11]
    exact h.so d hd
  · rw [e12]
    exact h.rl d hd
theorem JC.ext (h : JC G f n x b q J L j) (h1 : ∀ a, (x ≤ a ∧ a < x + 35) ∨ (x + 61 ≤ a ∧ a < n) → f' a = f a) (hn : n ≤ n') : JC G f' n' x b q J L j := by
  have hz : ∀ a, apZ x a → a < n → f' a = f a := fun a z hl => h1 a (by rcases z with rfl | rfl | rfl | z <;> omega)
  exact ⟨h.x0, Nat.le_trans h.xn hn, (h1 x (by omega)).trans h.x1, h.now.ext (fun a _ _ => h1 a (by omega)) hz hn, h.img.ext (fun a _ _ => h1 a (by omega)) hz hn, sc_of2 h.tri (fun a _ _ => h1 a (by omega)), wy_of2 h.way (fun a _ _ => h1 a (by omega)), h.shl.ext (h1 _ (by omega)) (h1 _ (by omega)) (fun a z1 z2 => h1 a (by omega)) hn⟩
theorem JC.rows {A' : Nat → Nat → Int32} (h : JC G f n x b q J L j) (hr : ∀ r, 1 ≤ r → r ≤ 12 → A' r = q.2.2.2 r) (hL : L' 13 = L 13) : JC G f n x b (q.1, q.2.1, q.2.2.1, A') J L' j :=
  ⟨h.x0, h.xn, h.x1, h.now.rows (fun r h1 h2 => hr r h1 (by omega)), h.img, h.tri, h.way, h.shl.rows (fun r h1 h2 => hr r (by omega) h2) hL⟩
/-- only the trial school has changed -/
theorem JC.trial {F4 : Nat → Int32} {W4 : Nat → Option Nat} {A4 : Nat → Nat → Int32} {B4 : Nat → Int32} (h : JC G f n x b q J L j) : JC G (sc G f (x + 19) F4 W4 A4 B4) n x b q J L (j.F, j.W, j.B, j.F2, j.W2, j.B2, F4, W4, A4, B4, j.V, j.C, j.Mt, j.Wl, j.T, j.Os, j.Rs) := by
  have h1 : ∀ a, a < x + 19 ∨ x + 27 ≤ a → sc G f (x + 19) F4 W4 A4 B4 a = f a := fun a z => sc_out (by omega)
  have hz : ∀ a, apZ x a → a < n → sc G f (x + 19) F4 W4 A4 B4 a = f a := fun a z hl => h1 a (by rcases z with rfl | rfl | rfl | z <;> omega)
  exact ⟨h.x0, h.xn, (h1 x (by omega)).trans h.x1, h.now.ext (fun a _ _ => h1 a (by omega)) hz (Nat.le_refl _), h.img.ext (fun a _ _ => h1 a (by omega)) hz (Nat.le_refl _), sc_idem, wy_of2 h.way (fun a _ _ => h1 a (by omega)), h.shl.ext (h1 _ (by omega)) (h1 _ (by omega)) (fun a z1 z2 => h1 a (by omega)) (Nat.le_refl _)⟩
/-- only the ways have changed -/
theorem JC.ways {V4 C4 M4 T4 : Nat → Int32} {L4 : Nat → Int64} (h : JC G f n x b q J L j) : JC G (wy G f (x + 28) V4 C4 M4 L4 T4) n x b q J L (j.F, j.W, j.B, j.F2, j.W2, j.B2, j.F3, j.W3, j.A3, j.B3, V4, C4, M4, L4, T4, j.Os, j.Rs) := by
  have h1 : ∀ a, a < x + 28 ∨ x + 33 ≤ a → wy G f (x + 28) V4 C4 M4 L4 T4 a = f a := fun a z => wy_out (by omega)
  have hz : ∀ a, apZ x a → a < n → wy G f (x + 28) V4 C4 M4 L4 T4 a = f a := fun a z hl => h1 a (by rcases z with rfl | rfl | rfl | z <;> omega)
  exact ⟨h.x0, h.xn, (h1 x (by omega)).trans h.x1, h.now.ext (fun a _ _ => h1 a (by omega)) hz (Nat.le_refl _), h.img.ext (fun a _ _ => h1 a (by omega)) hz (Nat.le_refl _), sc_of2 h.tri (fun a _ _ => h1 a (by omega)), wy_idem, h.shl.ext (h1 _ (by omega)) (h1 _ (by omega)) (fun a z1 z2 => h1 a (by omega)) (Nat.le_refl _)⟩
/-- the trial school and the ways, and new things -/
theorem JC.think (h : JC G f n x b q J L j) (ht : thF G f (x + 19) (x + 28) n n1 f1) : ∃ j', JC G f1 n1 x b q J L j' := by
  obtain ⟨hn, h1, ⟨F4, W4, A4, B4, ht⟩, V4, C4, M4, L4, T4, hw⟩ := ht
  have h1 : ∀ a, a < n → (a < x + 19 ∨ x + 33 ≤ a ∨ a = x + 27) → f1 a = f a := fun a z1 z2 => h1 a z1 (by omega) (by omega)
  have hxn := h.xn
  have hz : ∀ a, apZ x a → a < n → f1 a = f a := fun a z hl => h1 a hl (by rcases z with rfl | rfl | rfl | z <;> omega)
  exact ⟨(j.F, j.W, j.B, j.F2, j.W2, j.B2, F4, W4, A4, B4, V4, C4, M4, L4, T4, j.Os, j.Rs), h.x0, Nat.le_trans h.xn hn, (h1 x (by omega) (by omega)).trans h.x1, h.now.ext (fun a _ _ => h1 a (by omega) (by omega)) hz hn, h.img.ext (fun a _ _ => h1 a (by omega) (by omega)) hz hn, ht, hw, h.shl.ext (h1 _ (by omega) (by omega)) (h1 _ (by omega) (by omega)) (fun a z1 z2 => h1 a z2 (by omega)) hn⟩
/-- the school of now has changed -/
theorem JC.newNow {F' : Nat → Int32} {W' : Nat → Option Nat} {B' : Nat → Int32} {A' : Nat → Nat → Int32} {N M : Nat} {P : Int32} (h : JC G f n x b q J L j) (f0 : F' 0 = nI N) (f1 : F' 1 = nI M) (f2 : F' 2 = P) (be : ∀ a b, a < N → b < N → B' (a * 8 + b) = brS A' a b) (wh : ∀ p, p < 8 → ∃ a, W' p = some a ∧ oneM G f n a (A' 1 p) (A' 2 p)) (wz : wP (apZ x) W') (ok : schOK (N, M, P, A')) (tw : two2 N (A' 4)) (hr : ∀ r, 8 ≤ r → r ≤ 12 → A' r = q.2.2.2 r) : JC G (sc G f (x + 1) F' W' A' B') n x b (N, M, P, A') J L (F', W', B', j.F2, j.W2, j.B2, j.F3, j.W3, j.A3, j.B3, j.V, j.C, j.Mt, j.Wl, j.T, j.Os, j.Rs) := by
  have h1 : ∀ a, a < x + 1 ∨ x + 9 ≤ a → sc G f (x + 1) F' W' A' B' a = f a := fun a z => sc_out (by omega)
  have hz : ∀ a, apZ x a → a < n → sc G f (x + 1) F' W' A' B' a = f a := fun a z hl => h1 a (by rcases z with rfl | rfl | rfl | z <;> omega)
  refine ⟨h.x0, h.xn, (h1 x (by omega)).trans h.x1, ⟨sc_idem, f0, f1, f2, be, fun p hp => ?_, wz, ok, tw⟩, h.img.ext (fun a _ _ => h1 a (by omega)) hz (Nat.le_refl _), sc_of2 h.tri (fun a _ _ => h1 a (by omega)), wy_of2 h.way (fun a _ _ => h1 a (by omega)), (h.shl.ext (h1 _ (by omega)) (h1 _ (by omega)) (fun a z1 z2 => h1 a (by omega)) (Nat.le_refl _)).rows hr rfl⟩
  obtain ⟨a, e, ho⟩ := wh p hp
  exact ⟨a, e, ho.at1 (hz a (wz p hp a e) ho.lt.2) (Nat.le_refl _)⟩
theorem JM.ext {F : Nat → Int32} {K : Option Nat} (h : JM G f x b q J L F K) (h1 : ∀ a, x + 35 ≤ a → a < x + 60 → f' a = f a) : JM G f' x b q J L F K := ⟨mo_of h.hm (fun a z1 z2 => h1 a z1 (by omega)), h.m0, h.m5, h.m9, h.mi⟩
/-- behind the reference's call -/
theorem JJ.mdl {F' : Nat → Int32} {A' : Nat → Nat → Int32} {K' : Option Nat} {b' : Int32} {g : Nat → Int64} (hc : JC G f1 n1 x b' q' J' L' j') (ho : f1 (x + 60) = ja G 1 g) (hr : ∀ r, 1 ≤ r → r ≤ 12 → A' r = q'.2.2.2 r) (hL : L 13 = L' 13) (m0 : F' 0 = nI q'.1) (m5 : F' 5 = nI q'.2.1) (m9 : F' 9 = q'.2.2.1) (mi : (b' = 0 ∧ F' 26 = 0) ∨ (b' = 1 ∧ F' 26 = 1 ∧ imR J' (A' 18))) : JJ G (mo G f1 (x + 35) F' A' L K') n1 x := by
  have h1 : ∀ a, a < x + 35 ∨ x + 60 ≤ a → mo G f1 (x + 35) F' A' L K' a = f1 a := fun a z => mo_out (by omega)
  exact ⟨b', (q'.1, q'.2.1, q'.2.2.1, A'), J', L, j', F', K', (hc.ext (f' := mo G f1 (x + 35) F' A' L K') (fun a z => h1 a (by omega)) (Nat.le_refl _)).rows hr hL, ⟨mo_idem, m0, m5, m9, mi⟩, g, (h1 _ (by omega)).trans ho⟩
theorem JC.xo (h : JC G f n x b q J L j) : xoK G f x (x + 1) (x + 10) (x + 19) (x + 28) (x + 33) (x + 34) n b := ⟨h.x1, h.x0, by have := h.xn; omega, by omega⟩
theorem JC.xw (h : JC G f n x b q J L j) : xwK G f x (x + 1) (x + 10) (x + 19) (x + 28) (x + 33) (x + 34) n b := ⟨h.x1, h.x0, by have := h.xn; omega, by omega, by omega⟩
theorem JC.x2 (h : JC G f n x b q J L j) : x2K G f x (x + 1) (x + 10) (x + 19) (x + 28) (x + 33) (x + 34) n b := ⟨h.x1, h.x0, by have := h.xn; omega, by omega, by omega⟩
theorem JC.xs (h : JC G f n x b q J L j) : xsK G f x (x + 1) (x + 10) (x + 19) (x + 28) (x + 33) (x + 34) n b j.Os j.Rs := by
  have h0 := h.x0
  have h1 := h.xn
  exact ⟨h.x1, h0, by omega, h.shl.os, by omega, by omega, h.shl.rs, by omega, by omega, by omega, by omega, by omega⟩
theorem JC.q1 (h : JC G f n x b q J L j) : G.2.1 ≤ x + 1 := by have := h.x0; omega
theorem JC.q2 (h : JC G f n x b q J L j) : G.2.1 ≤ x + 10 := by have := h.x0; omega
theorem JC.q3 (h : JC G f n x b q J L j) : G.2.1 ≤ x + 19 := by have := h.x0; omega
theorem JC.q4 (h : JC G f n x b q J L j) : G.2.1 ≤ x + 28 := by have := h.x0; omega
theorem JC.q5 (h : JC G f n x b q J L j) : G.2.1 ≤ x + 35 := by have := h.x0; omega
theorem JC.k1 (h : JC G f n x b q J L j) : x + 1 + 8 ≤ n := by have := h.xn; omega
theorem JC.k2 (h : JC G f n x b q J L j) : x + 10 + 8 ≤ n := by have := h.xn; omega
theorem JC.k3 (h : JC G f n x b q J L j) : x + 19 + 8 ≤ n := by have := h.xn; omega
theorem JC.k4 (h : JC G f n x b q J L j) : x + 28 + 5 ≤ n := by have := h.xn; omega
theorem JC.k5 (h : JC G f n x b q J L j) : x + 35 + 25 ≤ n := by have := h.xn; omega
theorem apZ.sep {a : Nat} (h : apZ x a) : (a < x + 1 ∨ x + 1 + 8 ≤ a) ∧ (a < x + 10 ∨ x + 10 + 8 ≤ a) ∧ (a < x + 19 ∨ x + 19 + 8 ≤ a) ∧ (a < x + 28 ∨ x + 28 + 5 ≤ a) := by
  rcases h with rfl | rfl | rfl | h <;> omega
theorem schJ.who {F : Nat → Int32} {W : Nat → Option Nat} {B : Nat → Int32} (h : schJ G f n x s q F W B) (hs : s = x + 1 ∨ s = x + 10) : whoOK G f s n W q.2.2.2 := fun p hp => by
  obtain ⟨a, e, ho⟩ := h.wh p hp
  refine ⟨a, e, ho, ?_⟩
  have := (h.wz p hp a e).sep
  rcases hs with rfl | rfl <;> omega
theorem schJ.w2 {F : Nat → Int32} {W : Nat → Option Nat} {B : Nat → Int32} {t : Nat} (h : schJ G f n x s q F W B) (hs : s = x + 1 ∨ s = x + 10 ∨ s = x + 19) (ht : t = x + 1 ∨ t = x + 10 ∨ t = x + 19) : w2K G f s t n W q.2.2.2 := fun p hp => by
  obtain ⟨a, e, ho⟩ := h.wh p hp
  have := (h.wz p hp a e).sep
  refine ⟨a, e, ho, ?_, ?_⟩
  · rcases hs with rfl | rfl | rfl <;> omega
  · rcases ht with rfl | rfl | rfl <;> omega
theorem JC.wd (h : JC G f n x b q J L j) : wdOK G f (x + 1) (x + 28) n j.W q.2.2.2 := fun p hp => by
  obtain ⟨a, e, ho⟩ := h.now.wh p hp
  have := (h.now.wz p hp a e).sep
  exact ⟨a, e, ho, by omega, by omega⟩
theorem JC.ab (h : JC G f n x b q J L j) : ∀ l, l < q.2.1 → q.2.2.2 6 l = 0 ∨ q.2.2.2 6 l = 1 := fun l hl => by
  obtain ⟨-, k, hk, e⟩ := h.now.ok.2.2.2.2.2.1 l hl
  rw [e]
  have : k = 0 ∨ k = 1 := by omega
  rcases this with rfl | rfl
  · exact Or.inl rfl
  · exact Or.inr rfl
theorem JC.ts (h : JC G f n x b q J L j) : tsH G f (x + 1) n q.1 q.2.1 j.F j.W q.2.2.2 j.B := ⟨h.now.f0, h.now.ok.1, h.now.f1, h.now.ok.2.1, h.now.be, h.now.who (Or.inl rfl), h.ab, h.now.ok.2.2.1⟩
theorem JC.so (h : JC G f n x b q J L j) {s : Nat} (hs : s = x + 1 ∨ s = x + 10 ∨ s = x + 19) : shO f s j.Os j.Rs := by
  refine ⟨fun d a e => ?_, fun d b e => ⟨?_, fun so ar eb => ?_⟩⟩
  · have := (h.shl.oz d a e).1
    rcases hs with rfl | rfl | rfl <;> omega
  · have := (h.shl.rz d b e).1
    rcases hs with rfl | rfl | rfl <;> omega
  · have := ((h.shl.rz d b e).2.2 so ar eb).1
    rcases hs with rfl | rfl | rfl <;> omega
theorem JC.z3 (h : JC G f n x b q J L j) : wP (zST (x + 1) (x + 19)) j.W := fun p hp a e => ⟨(h.now.wz p hp a e).sep.1, (h.now.wz p hp a e).sep.2.2.1⟩
theorem JC.zw (h : JC G f n x b q J L j) : wP (zSW (x + 1) (x + 19) (x + 28)) j.W := fun p hp a e => ⟨(h.now.wz p hp a e).sep.1, (h.now.wz p hp a e).sep.2.2.1, (h.now.wz p hp a e).sep.2.2.2⟩
theorem JC.kf (h : JC G f n x b q J L j) : kfOK q.1 q.2.2.2 := fun p hp => ⟨(h.now.ok.2.2.2.2.1 p hp).1, (h.now.ok.2.2.2.2.1 p hp).2.1⟩
end ZA
