/-! THE LAW: one command -/
theorem wm_942 : Jvm.Cond.codeWith yX11_toss prog_1_method_46_code 4 (Option.some ClassFile.FieldType.int) [(16, 20, 23, 347), (16, 20, 33, 319), (16, 20, 42, 312)] ∈ gT := g_in4 222 (by decide +kernel) (by decide +kernel)
theorem wm_1066 : Jvm.Cond.codeWith yL_element method_3_code 5 (Option.some ClassFile.FieldType.int) [(0, 9, 12, 13), (0, 9, 16, 15)] ∈ gT := g_in5 106 (by decide +kernel) (by decide +kernel)
section LW
variable {G : GX} {p : Program} {e : Env} {s : State} {m : MethodId} {args : Array Value} {below : List Frame} {meth : Method} {c : Code} {Z : State → Prop} {nm : String} {kc ks b L i x n : Nat} {f : Mem} {xs : Nat → Int32} {pc pc2 pc3 pc4 pc5 pc6 jn : Nat} {ls : List (Option Value)} {st : List Value}
def lwLs (b x i : Nat) : List (Option Value) := [some (.ref b), some (.ref x), some (.ref (x + 35)), some (.ref (x + 60)), some (.int (nI i)), none, none, none]
theorem gz_arg (C : zC G (mL_law nm) p s m args meth c) (hX : va_X b L xs s s.heap) (hb : b < s.heap.size) (hbA : ¬ gA G b) {jn : Nat} {ji : Int} (hj : Int32.ofInt ji = nI jn) (hi : i + jn < L) (hL : L ≤ 3072) (d1 : gd (mL_law nm) pc (.aload_n 0) 1 pc2) (d2 : gd (mL_law nm) pc2 (.iload 4) 2 pc3) (d3 : gd (mL_law nm) pc3 (.iconst ji) 1 pc4) (d4 : gd (mL_law nm) pc4 .iadd 1 pc5) (d5 : gd (mL_law nm) pc5 .iaload 1 pc6)
    (k : Gz G (mL_law nm) room_1 Z p e s m args below meth c kc ks pc6 (lwLs b x i) (.int (xs (i + jn)) :: st) f n) : Gz G (mL_law nm) room_1 Z p e s m args below meth c kc ks pc (lwLs b x i) st f n := by
  refine gz_aload_n C d1 rfl ?_
  refine gz_iload C d2 rfl ?_
  refine gz_iconst C d3 hj ?_
  refine gz_iadd C d4 ?_
  refine gz_tp C (nI_add i jn) ?_
  obtain ⟨hd, rfl⟩ := d5
  intro H locs la hP hS hl
  have hc : (nI (i + jn)).toNatClampNeg = i + jn := nI_clamp (by omega)
  refine va_sld C.1 C.2.1 hX hb hbA hS (vp_in_nI hi (by omega)) hd ?_
  rw [hc]
  exact k H locs la hP hS hl
theorem gz_slen (C : zC G (mL_law nm) p s m args meth c) (hX : va_X b L xs s s.heap) (hb : b < s.heap.size) (hbA : ¬ gA G b) (hd : gd (mL_law nm) pc .arraylength 1 pc2) (k : Gz G (mL_law nm) room_1 Z p e s m args below meth c kc ks pc2 ls (.int (Int32.ofNat L) :: st) f n) : Gz G (mL_law nm) room_1 Z p e s m args below meth c kc ks pc ls (.ref b :: st) f n := by
  obtain ⟨hd, rfl⟩ := hd
  intro H locs la hP hS hl
  exact va_slen C.1 C.2.1 hX hb hbA hS hd (k H locs la hP hS hl)
theorem cat_le (r : Option Value) : ((r.toList ++ []).map fun (v : Value) => v.category).sum ≤ 8 := by
  cases r with
  | none => exact Nat.zero_le _
  | some v => cases v <;> exact Nat.le_of_ble_eq_true rfl
theorem JJ.at_x (h : JJ G f n x) : ∃ fs, f x = ob 11 fs := by
  obtain ⟨b, q, J, L, j, F, K, h1, -⟩ := h
  exact ⟨_, h1.x1⟩
theorem JJ.xn (h : JJ G f n x) : x + 61 ≤ n := by
  obtain ⟨b, q, J, L, j, F, K, h1, -⟩ := h
  exact h1.xn
/-- what is still owed about the best placing -/
def PLeq : Prop := ∀ q : SS, schOK q → two2 q.1 (q.2.2.2 4) → ctnS (plcW q.1 q.2.1 q.2.2.2) = pldS q.1 q.2.1 q.2.2.2 ∧ ∀ i, cpaS q.1 q.2.1 q.2.2.2 i = plaS q.1 q.2.1 q.2.2.2 i
theorem s_placed (h : JJ G f n x) (hPL : PLeq) : StI G x mX11_placed mX12_placed 8 0 0 6 [] f n := by
  obtain ⟨b, q, J, L, j, F, K, h1, h2, g, h3⟩ := h
  have ec := e_X11_placed (m1 := f) (F := j.F) (W := j.W) (A := q.2.2.2) (B := j.B) (V := j.V) (C := j.C) (Mt := j.Mt) (Wl := j.Wl) (T := j.T) h1.xw h1.q1 h1.k1 h1.q4 h1.k4 (by omega) h1.now.f0 h1.now.ok.1 h1.now.f1 h1.now.ok.2.1 h1.now.be h1.ab h1.wd
  rw [h1.way, h1.now.hs] at ec
  refine st_keep h1 h2 h3 ec (v := (ctnS (plcW q.1 q.2.1 q.2.2.2))) (fun r f1 n1 z => ?_) (fun f1 n1 j1 c1 m1 => ?_)
  · obtain ⟨z1, ⟨X, T2, z2⟩, z3⟩ := z
    exact kc_w h1 z1 (Or.inr ⟨_, _, _, _, _, z2⟩) z3
  · have em := e_X12_placed (G := G) (n := n1) (m0 := f1) (q := x + 35) (F := F) (A := q.2.2.2) (L := L) (K := K) c1.q5 c1.k5 m1.m0 c1.now.ok.1 m1.m5 c1.now.ok.2.1
    rw [m1.hm] at em
    refine ⟨_, em, fun r2 f2 n2 z => ⟨z.1.trans (congrArg some (congrArg Value.int (((hPL _ h1.now.ok h1.now.tw).1).symm))), ?_⟩⟩
    obtain ⟨z1, ⟨A', z2, z3⟩, z4⟩ := z
    exact kpM.row z3 z4 rfl rfl rfl rfl (fun r hr => z2 r (by omega) (by omega))
theorem s_placedAt (h : JJ G f n x) (hPL : PLeq) {a0 : Int32} : StI G x mX11_placedAt mX12_placedAt 8 0 0 6 [.int a0] f n := by
  obtain ⟨b, q, J, L, j, F, K, h1, h2, g, h3⟩ := h
  have ec := e_X11_placedAt (m1 := f) (F := j.F) (W := j.W) (A := q.2.2.2) (B := j.B) (V := j.V) (C := j.C) (Mt := j.Mt) (Wl := j.Wl) (T := j.T) h1.xw h1.q1 h1.k1 h1.q4 h1.k4 (by omega) h1.now.f0 h1.now.ok.1 h1.now.f1 h1.now.ok.2.1 h1.now.be h1.ab h1.wd (i := a0)
  rw [h1.way, h1.now.hs] at ec
  refine st_keep h1 h2 h3 ec (v := (cpaS q.1 q.2.1 q.2.2.2 a0)) (fun r f1 n1 z => ?_) (fun f1 n1 j1 c1 m1 => ?_)
  · obtain ⟨z1, ⟨X, T2, z2⟩, z3⟩ := z
    exact kc_w h1 z1 (Or.inr ⟨_, _, _, _, _, z2⟩) z3
  · have em := e_X12_placedAt (G := G) (n := n1) (m0 := f1) (q := x + 35) (F := F) (A := q.2.2.2) (L := L) (K := K) c1.q5 c1.k5 m1.m0 c1.now.ok.1 m1.m5 c1.now.ok.2.1 (i := a0)
    rw [m1.hm] at em
    refine ⟨_, em, fun r2 f2 n2 z => ⟨z.1.trans (congrArg some (congrArg Value.int (((hPL _ h1.now.ok h1.now.tw).2 _).symm))), ?_⟩⟩
    obtain ⟨z1, ⟨A', z2, z3⟩, z4⟩ := z
    exact kpM.row z3 z4 rfl rfl rfl rfl (fun r hr => z2 r (by omega) (by omega))
theorem lw_c0 (C : zC G (mL_law nm) p s m args meth c) (X : gX G s) (hX : va_X b L xs s s.heap) (hb : b < s.heap.size) (hbA : ¬ gA G b) (hx : G.2.1 ≤ x) (hi : i + 6 ≤ L) (hL : L ≤ 3072) (hn : x + 61 ≤ n) (h : JJ G f n x) (hk1 : kc + 34 ≤ room_1.cells) (hk2 : ks + 102 ≤ room_1.slots) (kk : ∀ f' n', JJ G f' n' x → Gz G (mL_law nm) room_1 Z p e s m args below meth c (kc + 34) (ks + 102) 1656 (lwLs b x i) [] f' n') : Gz G (mL_law nm) room_1 Z p e s m args below meth c kc ks 236 (lwLs b x i) [] f n := by
  have hc := h.at_x
  obtain ⟨Qc, ec, hq⟩ := s_school h (a0 := (xs (i + 1)))
  refine gz_aload_n C dL_236 rfl ?_
  refine gz_arg C hX hb hbA (jn := 1) rfl (by omega) hL dL_237 dL_238 dL_240 dL_241 dL_242 ?_
  refine gz_V C [.int (xs (i + 1))] [] dL_243 vl_L_21 ⟨(Nat.le_of_ble_eq_true rfl), (Nat.le_of_ble_eq_true rfl), by decide⟩ ec hc.choose_spec hx (by omega) rfl rfl (Nat.le_of_ble_eq_true rfl) (by omega) (by omega) (fun r f1 n1 z => ?_)
  obtain ⟨hc1, hn1, Qm, em, hm⟩ := hq r f1 n1 z
  refine gz_aload_n C dL_246 rfl ?_
  refine gz_arg C hX hb hbA (jn := 1) rfl (by omega) hL dL_247 dL_248 dL_250 dL_251 dL_252 ?_
  refine gz_V C [.int (xs (i + 1))] (r.toList ++ []) dL_253 vl_L_25 ⟨(Nat.le_of_ble_eq_true rfl), (Nat.le_of_ble_eq_true rfl), by decide⟩ em hc1.choose_spec (by omega) (by omega) rfl rfl (cat_le r) (by omega) (by omega) (fun r2 f2 n2 z2 => ?_)
  obtain ⟨v, rfl, rfl, f3, hs, hj⟩ := hm r2 f2 n2 z2
  refine gz_sim C hs ?_
  exact gz_icmp_eq C dL_256 (fun _ => gz_widen C (by omega) (by omega) (kk f3 n2 hj)) (fun z => absurd rfl z)
theorem lw_c1 (C : zC G (mL_law nm) p s m args meth c) (X : gX G s) (hX : va_X b L xs s s.heap) (hb : b < s.heap.size) (hbA : ¬ gA G b) (hx : G.2.1 ≤ x) (hi : i + 6 ≤ L) (hL : L ≤ 3072) (hn : x + 61 ≤ n) (h : JJ G f n x) (hk1 : kc + 34 ≤ room_1.cells) (hk2 : ks + 102 ≤ room_1.slots) (kk : ∀ f' n', JJ G f' n' x → Gz G (mL_law nm) room_1 Z p e s m args below meth c (kc + 34) (ks + 102) 1656 (lwLs b x i) [] f' n') : Gz G (mL_law nm) room_1 Z p e s m args below meth c kc ks 261 (lwLs b x i) [] f n := by
  have hc := h.at_x
  obtain ⟨Qc, ec, hq⟩ := s_pupil h (a0 := (xs (i + 1))) (a1 := (xs (i + 2)))
  refine gz_aload_n C dL_261 rfl ?_
  refine gz_arg C hX hb hbA (jn := 1) rfl (by omega) hL dL_262 dL_263 dL_265 dL_266 dL_267 ?_
  refine gz_arg C hX hb hbA (jn := 2) rfl (by omega) hL dL_268 dL_269 dL_271 dL_272 dL_273 ?_
  refine gz_V C [.int (xs (i + 1)), .int (xs (i + 2))] [] dL_274 vl_L_26 ⟨(Nat.le_of_ble_eq_true rfl), (Nat.le_of_ble_eq_true rfl), by decide⟩ ec hc.choose_spec hx (by omega) rfl rfl (Nat.le_of_ble_eq_true rfl) (by omega) (by omega) (fun r f1 n1 z => ?_)
  obtain ⟨hc1, hn1, Qm, em, hm⟩ := hq r f1 n1 z
  refine gz_aload_n C dL_277 rfl ?_
  refine gz_arg C hX hb hbA (jn := 1) rfl (by omega) hL dL_278 dL_279 dL_281 dL_282 dL_283 ?_
  refine gz_arg C hX hb hbA (jn := 2) rfl (by omega) hL dL_284 dL_285 dL_287 dL_288 dL_289 ?_
  refine gz_V C [.int (xs (i + 1)), .int (xs (i + 2))] (r.toList ++ []) dL_290 vl_L_30 ⟨(Nat.le_of_ble_eq_true rfl), (Nat.le_of_ble_eq_true rfl), by decide⟩ em hc1.choose_spec (by omega) (by omega) rfl rfl (cat_le r) (by omega) (by omega) (fun r2 f2 n2 z2 => ?_)
  obtain ⟨v, rfl, rfl, f3, hs, hj⟩ := hm r2 f2 n2 z2
  refine gz_sim C hs ?_
  exact gz_icmp_eq C dL_293 (fun _ => gz_widen C (by omega) (by omega) (kk f3 n2 hj)) (fun z => absurd rfl z)
theorem lw_c2 (C : zC G (mL_law nm) p s m args meth c) (X : gX G s) (hX : va_X b L xs s s.heap) (hb : b < s.heap.size) (hbA : ¬ gA G b) (hx : G.2.1 ≤ x) (hi : i + 6 ≤ L) (hL : L ≤ 3072) (hn : x + 61 ≤ n) (h : JJ G f n x) (hk1 : kc + 34 ≤ room_1.cells) (hk2 : ks + 102 ≤ room_1.slots) (kk : ∀ f' n', JJ G f' n' x → Gz G (mL_law nm) room_1 Z p e s m args below meth c (kc + 34) (ks + 102) 1656 (lwLs b x i) [] f' n') : Gz G (mL_law nm) room_1 Z p e s m args below meth c kc ks 298 (lwLs b x i) [] f n := by
  have hc := h.at_x
  obtain ⟨Qc, ec, hq⟩ := s_locker h (a0 := (xs (i + 1))) (a1 := (xs (i + 2)))
  refine gz_aload_n C dL_298 rfl ?_
  refine gz_arg C hX hb hbA (jn := 1) rfl (by omega) hL dL_299 dL_300 dL_302 dL_303 dL_304 ?_
  refine gz_arg C hX hb hbA (jn := 2) rfl (by omega) hL dL_305 dL_306 dL_308 dL_309 dL_310 ?_
  refine gz_V C [.int (xs (i + 1)), .int (xs (i + 2))] [] dL_311 vl_L_31 ⟨(Nat.le_of_ble_eq_true rfl), (Nat.le_of_ble_eq_true rfl), by decide⟩ ec hc.choose_spec hx (by omega) rfl rfl (Nat.le_of_ble_eq_true rfl) (by omega) (by omega) (fun r f1 n1 z => ?_)
  obtain ⟨hc1, hn1, Qm, em, hm⟩ := hq r f1 n1 z
  refine gz_aload_n C dL_314 rfl ?_
  refine gz_arg C hX hb hbA (jn := 1) rfl (by omega) hL dL_315 dL_316 dL_318 dL_319 dL_320 ?_
  refine gz_arg C hX hb hbA (jn := 2) rfl (by omega) hL dL_321 dL_322 dL_324 dL_325 dL_326 ?_
  refine gz_V C [.int (xs (i + 1)), .int (xs (i + 2))] (r.toList ++ []) dL_327 vl_L_34 ⟨(Nat.le_of_ble_eq_true rfl), (Nat.le_of_ble_eq_true rfl), by decide⟩ em hc1.choose_spec (by omega) (by omega) rfl rfl (cat_le r) (by omega) (by omega) (fun r2 f2 n2 z2 => ?_)
  obtain ⟨v, rfl, rfl, f3, hs, hj⟩ := hm r2 f2 n2 z2
  refine gz_sim C hs ?_
  exact gz_icmp_eq C dL_330 (fun _ => gz_widen C (by omega) (by omega) (kk f3 n2 hj)) (fun z => absurd rfl z)
theorem lw_c3 (C : zC G (mL_law nm) p s m args meth c) (X : gX G s) (hX : va_X b L xs s s.heap) (hb : b < s.heap.size) (hbA : ¬ gA G b) (hx : G.2.1 ≤ x) (hi : i + 6 ≤ L) (hL : L ≤ 3072) (hn : x + 61 ≤ n) (h : JJ G f n x) (hk1 : kc + 34 ≤ room_1.cells) (hk2 : ks + 102 ≤ room_1.slots) (kk : ∀ f' n', JJ G f' n' x → Gz G (mL_law nm) room_1 Z p e s m args below meth c (kc + 34) (ks + 102) 1656 (lwLs b x i) [] f' n') : Gz G (mL_law nm) room_1 Z p e s m args below meth c kc ks 335 (lwLs b x i) [] f n := by
  have hc := h.at_x
  obtain ⟨Qc, ec, hq⟩ := s_joins h (a0 := (xs (i + 1))) (a1 := (xs (i + 2)))
  refine gz_aload_n C dL_335 rfl ?_
  refine gz_arg C hX hb hbA (jn := 1) rfl (by omega) hL dL_336 dL_337 dL_339 dL_340 dL_341 ?_
  refine gz_arg C hX hb hbA (jn := 2) rfl (by omega) hL dL_342 dL_343 dL_345 dL_346 dL_347 ?_
  refine gz_V C [.int (xs (i + 1)), .int (xs (i + 2))] [] dL_348 vl_L_35 ⟨(Nat.le_of_ble_eq_true rfl), (Nat.le_of_ble_eq_true rfl), by decide⟩ ec hc.choose_spec hx (by omega) rfl rfl (Nat.le_of_ble_eq_true rfl) (by omega) (by omega) (fun r f1 n1 z => ?_)
  obtain ⟨hc1, hn1, Qm, em, hm⟩ := hq r f1 n1 z
  refine gz_aload_n C dL_351 rfl ?_
  refine gz_arg C hX hb hbA (jn := 1) rfl (by omega) hL dL_352 dL_353 dL_355 dL_356 dL_357 ?_
  refine gz_arg C hX hb hbA (jn := 2) rfl (by omega) hL dL_358 dL_359 dL_361 dL_362 dL_363 ?_
  refine gz_V C [.int (xs (i + 1)), .int (xs (i + 2))] (r.toList ++ []) dL_364 vl_L_38 ⟨(Nat.le_of_ble_eq_true rfl), (Nat.le_of_ble_eq_true rfl), by decide⟩ em hc1.choose_spec (by omega) (by omega) rfl rfl (cat_le r) (by omega) (by omega) (fun r2 f2 n2 z2 => ?_)
  obtain ⟨v, rfl, rfl, f3, hs, hj⟩ := hm r2 f2 n2 z2
  refine gz_sim C hs ?_
  exact gz_icmp_eq C dL_367 (fun _ => gz_widen C (by omega) (by omega) (kk f3 n2 hj)) (fun z => absurd rfl z)
theorem lw_c4 (C : zC G (mL_law nm) p s m args meth c) (X : gX G s) (hX : va_X b L xs s s.heap) (hb : b < s.heap.size) (hbA : ¬ gA G b) (hx : G.2.1 ≤ x) (hi : i + 6 ≤ L) (hL : L ≤ 3072) (hn : x + 61 ≤ n) (h : JJ G f n x) (hk1 : kc + 34 ≤ room_1.cells) (hk2 : ks + 102 ≤ room_1.slots) (kk : ∀ f' n', JJ G f' n' x → Gz G (mL_law nm) room_1 Z p e s m args below meth c (kc + 34) (ks + 102) 1656 (lwLs b x i) [] f' n') : Gz G (mL_law nm) room_1 Z p e s m args below meth c kc ks 372 (lwLs b x i) [] f n := by
  have hc := h.at_x
  obtain ⟨Qc, ec, hq⟩ := s_stands h (a0 := (xs (i + 1))) (a1 := (xs (i + 2)))
  refine gz_aload_n C dL_372 rfl ?_
  refine gz_arg C hX hb hbA (jn := 1) rfl (by omega) hL dL_373 dL_374 dL_376 dL_377 dL_378 ?_
  refine gz_arg C hX hb hbA (jn := 2) rfl (by omega) hL dL_379 dL_380 dL_382 dL_383 dL_384 ?_
  refine gz_V C [.int (xs (i + 1)), .int (xs (i + 2))] [] dL_385 vl_L_39 ⟨(Nat.le_of_ble_eq_true rfl), (Nat.le_of_ble_eq_true rfl), by decide⟩ ec hc.choose_spec hx (by omega) rfl rfl (Nat.le_of_ble_eq_true rfl) (by omega) (by omega) (fun r f1 n1 z => ?_)
  obtain ⟨hc1, hn1, Qm, em, hm⟩ := hq r f1 n1 z
  refine gz_aload_n C dL_388 rfl ?_
  refine gz_arg C hX hb hbA (jn := 1) rfl (by omega) hL dL_389 dL_390 dL_392 dL_393 dL_394 ?_
  refine gz_arg C hX hb hbA (jn := 2) rfl (by omega) hL dL_395 dL_396 dL_398 dL_399 dL_400 ?_
  refine gz_V C [.int (xs (i + 1)), .int (xs (i + 2))] (r.toList ++ []) dL_401 vl_L_42 ⟨(Nat.le_of_ble_eq_true rfl), (Nat.le_of_ble_eq_true rfl), by decide⟩ em hc1.choose_spec (by omega) (by omega) rfl rfl (cat_le r) (by omega) (by omega) (fun r2 f2 n2 z2 => ?_)
  obtain ⟨v, rfl, rfl, f3, hs, hj⟩ := hm r2 f2 n2 z2
  refine gz_sim C hs ?_
  exact gz_icmp_eq C dL_404 (fun _ => gz_widen C (by omega) (by omega) (kk f3 n2 hj)) (fun z => absurd rfl z)
theorem lw_c5 (C : zC G (mL_law nm) p s m args meth c) (X : gX G s) (hX : va_X b L xs s s.heap) (hb : b < s.heap.size) (hbA : ¬ gA G b) (hx : G.2.1 ≤ x) (hi : i + 6 ≤ L) (hL : L ≤ 3072) (hn : x + 61 ≤ n) (h : JJ G f n x) (hk1 : kc + 34 ≤ room_1.cells) (hk2 : ks + 102 ≤ room_1.slots) (kk : ∀ f' n', JJ G f' n' x → Gz G (mL_law nm) room_1 Z p e s m args below meth c (kc + 34) (ks + 102) 1656 (lwLs b x i) [] f' n') : Gz G (mL_law nm) room_1 Z p e s m args below meth c kc ks 409 (lwLs b x i) [] f n := by
  have hc := h.at_x
  obtain ⟨Qc, ec, hq⟩ := s_moves h (a0 := (xs (i + 1))) (a1 := (xs (i + 2)))
  refine gz_aload_n C dL_409 rfl ?_
  refine gz_arg C hX hb hbA (jn := 1) rfl (by omega) hL dL_410 dL_411 dL_413 dL_414 dL_415 ?_
  refine gz_arg C hX hb hbA (jn := 2) rfl (by omega) hL dL_416 dL_417 dL_419 dL_420 dL_421 ?_
  refine gz_V C [.int (xs (i + 1)), .int (xs (i + 2))] [] dL_422 vl_L_43 ⟨(Nat.le_of_ble_eq_true rfl), (Nat.le_of_ble_eq_true rfl), by decide⟩ ec hc.choose_spec hx (by omega) rfl rfl (Nat.le_of_ble_eq_true rfl) (by omega) (by omega) (fun r f1 n1 z => ?_)
  obtain ⟨hc1, hn1, Qm, em, hm⟩ := hq r f1 n1 z
  refine gz_aload_n C dL_425 rfl ?_
  refine gz_arg C hX hb hbA (jn := 1) rfl (by omega) hL dL_426 dL_427 dL_429 dL_430 dL_431 ?_
  refine gz_arg C hX hb hbA (jn := 2) rfl (by omega) hL dL_432 dL_433 dL_435 dL_436 dL_437 ?_
  refine gz_V C [.int (xs (i + 1)), .int (xs (i + 2))] (r.toList ++ []) dL_438 vl_L_46 ⟨(Nat.le_of_ble_eq_true rfl), (Nat.le_of_ble_eq_true rfl), by decide⟩ em hc1.choose_spec (by omega) (by omega) rfl rfl (cat_le r) (by omega) (by omega) (fun r2 f2 n2 z2 => ?_)
  obtain ⟨v, rfl, rfl, f3, hs, hj⟩ := hm r2 f2 n2 z2
  refine gz_sim C hs ?_
  exact gz_icmp_eq C dL_441 (fun _ => gz_widen C (by omega) (by omega) (kk f3 n2 hj)) (fun z => absurd rfl z)
theorem lw_c6 (C : zC G (mL_law nm) p s m args meth c) (X : gX G s) (hX : va_X b L xs s s.heap) (hb : b < s.heap.size) (hbA : ¬ gA G b) (hx : G.2.1 ≤ x) (hi : i + 6 ≤ L) (hL : L ≤ 3072) (hn : x + 61 ≤ n) (h : JJ G f n x) (hk1 : kc + 34 ≤ room_1.cells) (hk2 : ks + 102 ≤ room_1.slots) (kk : ∀ f' n', JJ G f' n' x → Gz G (mL_law nm) room_1 Z p e s m args below meth c (kc + 34) (ks + 102) 1656 (lwLs b x i) [] f' n') : Gz G (mL_law nm) room_1 Z p e s m args below meth c kc ks 446 (lwLs b x i) [] f n := by
  have hc := h.at_x
  obtain ⟨Qc, ec, hq⟩ := s_changes h (a0 := (xs (i + 1))) (a1 := (xs (i + 2)))
  refine gz_aload_n C dL_446 rfl ?_
  refine gz_arg C hX hb hbA (jn := 1) rfl (by omega) hL dL_447 dL_448 dL_450 dL_451 dL_452 ?_
  refine gz_arg C hX hb hbA (jn := 2) rfl (by omega) hL dL_453 dL_454 dL_456 dL_457 dL_458 ?_
  refine gz_V C [.int (xs (i + 1)), .int (xs (i + 2))] [] dL_459 vl_L_47 ⟨(Nat.le_of_ble_eq_true rfl), (Nat.le_of_ble_eq_true rfl), by decide⟩ ec hc.choose_spec hx (by omega) rfl rfl (Nat.le_of_ble_eq_true rfl) (by omega) (by omega) (fun r f1 n1 z => ?_)
  obtain ⟨hc1, hn1, Qm, em, hm⟩ := hq r f1 n1 z
  refine gz_aload_n C dL_462 rfl ?_
  refine gz_arg C hX hb hbA (jn := 1) rfl (by omega) hL dL_463 dL_464 dL_466 dL_467 dL_468 ?_
  refine gz_arg C hX hb hbA (jn := 2) rfl (by omega) hL dL_469 dL_470 dL_472 dL_473 dL_474 ?_
  refine gz_V C [.int (xs (i + 1)), .int (xs (i + 2))] (r.toList ++ []) dL_475 vl_L_50 ⟨(Nat.le_of_ble_eq_true rfl), (Nat.le_of_ble_eq_true rfl), by decide⟩ em hc1.choose_spec (by omega) (by omega) rfl rfl (cat_le r) (by omega) (by omega) (fun r2 f2 n2 z2 => ?_)
  obtain ⟨v, rfl, rfl, f3, hs, hj⟩ := hm r2 f2 n2 z2
  refine gz_sim C hs ?_
  exact gz_icmp_eq C dL_478 (fun _ => gz_widen C (by omega) (by omega) (kk f3 n2 hj)) (fun z => absurd rfl z)
theorem lw_c7 (C : zC G (mL_law nm) p s m args meth c) (X : gX G s) (hX : va_X b L xs s s.heap) (hb : b < s.heap.size) (hbA : ¬ gA G b) (hx : G.2.1 ≤ x) (hi : i + 6 ≤ L) (hL : L ≤ 3072) (hn : x + 61 ≤ n) (h : JJ G f n x) (hk1 : kc + 34 ≤ room_1.cells) (hk2 : ks + 102 ≤ room_1.slots) (kk : ∀ f' n', JJ G f' n' x → Gz G (mL_law nm) room_1 Z p e s m args below meth c (kc + 34) (ks + 102) 1656 (lwLs b x i) [] f' n') : Gz G (mL_law nm) room_1 Z p e s m args below meth c kc ks 483 (lwLs b x i) [] f n := by
  have hc := h.at_x
  obtain ⟨Qc, ec, hq⟩ := s_loses h (a0 := (xs (i + 1)))
  refine gz_aload_n C dL_483 rfl ?_
  refine gz_arg C hX hb hbA (jn := 1) rfl (by omega) hL dL_484 dL_485 dL_487 dL_488 dL_489 ?_
  refine gz_V C [.int (xs (i + 1))] [] dL_490 vl_L_51 ⟨(Nat.le_of_ble_eq_true rfl), (Nat.le_of_ble_eq_true rfl), by decide⟩ ec hc.choose_spec hx (by omega) rfl rfl (Nat.le_of_ble_eq_true rfl) (by omega) (by omega) (fun r f1 n1 z => ?_)
  obtain ⟨hc1, hn1, Qm, em, hm⟩ := hq r f1 n1 z
  refine gz_aload_n C dL_493 rfl ?_
  refine gz_arg C hX hb hbA (jn := 1) rfl (by omega) hL dL_494 dL_495 dL_497 dL_498 dL_499 ?_
  refine gz_V C [.int (xs (i + 1))] (r.toList ++ []) dL_500 vl_L_54 ⟨(Nat.le_of_ble_eq_true rfl), (Nat.le_of_ble_eq_true rfl), by decide⟩ em hc1.choose_spec (by omega) (by omega) rfl rfl (cat_le r) (by omega) (by omega) (fun r2 f2 n2 z2 => ?_)
  obtain ⟨v, rfl, rfl, f3, hs, hj⟩ := hm r2 f2 n2 z2
  refine gz_sim C hs ?_
  exact gz_icmp_eq C dL_503 (fun _ => gz_widen C (by omega) (by omega) (kk f3 n2 hj)) (fun z => absurd rfl z)
theorem lw_c8 (C : zC G (mL_law nm) p s m args meth c) (X : gX G s) (hX : va_X b L xs s s.heap) (hb : b < s.heap.size) (hbA : ¬ gA G b) (hx : G.2.1 ≤ x) (hi : i + 6 ≤ L) (hL : L ≤ 3072) (hn : x + 61 ≤ n) (h : JJ G f n x) (hk1 : kc + 34 ≤ room_1.cells) (hk2 : ks + 102 ≤ room_1.slots) (kk : ∀ f' n', JJ G f' n' x → Gz G (mL_law nm) room_1 Z p e s m args below meth c (kc + 34) (ks + 102) 1656 (lwLs b x i) [] f' n') : Gz G (mL_law nm) room_1 Z p e s m args below meth c kc ks 508 (lwLs b x i) [] f n := by
  have hc := h.at_x
  obtain ⟨Qc, ec, hq⟩ := s_makes h (a0 := (xs (i + 1)))
  refine gz_aload_n C dL_508 rfl ?_
  refine gz_arg C hX hb hbA (jn := 1) rfl (by omega) hL dL_509 dL_510 dL_512 dL_513 dL_514 ?_
  refine gz_V C [.int (xs (i + 1))] [] dL_515 vl_L_55 ⟨(Nat.le_of_ble_eq_true rfl), (Nat.le_of_ble_eq_true rfl), by decide⟩ ec hc.choose_spec hx (by omega) rfl rfl (Nat.le_of_ble_eq_true rfl) (by omega) (by omega) (fun r f1 n1 z => ?_)
  obtain ⟨hc1, hn1, Qm, em, hm⟩ := hq r f1 n1 z
  refine gz_aload_n C dL_518 rfl ?_
  refine gz_arg C hX hb hbA (jn := 1) rfl (by omega) hL dL_519 dL_520 dL_522 dL_523 dL_524 ?_
  refine gz_V C [.int (xs (i + 1))] (r.toList ++ []) dL_525 vl_L_58 ⟨(Nat.le_of_ble_eq_true rfl), (Nat.le_of_ble_eq_true rfl), by decide⟩ em hc1.choose_spec (by omega) (by omega) rfl rfl (cat_le r) (by omega) (by omega) (fun r2 f2 n2 z2 => ?_)
  obtain ⟨v, rfl, rfl, f3, hs, hj⟩ := hm r2 f2 n2 z2
  refine gz_sim C hs ?_
  exact gz_icmp_eq C dL_528 (fun _ => gz_widen C (by omega) (by omega) (kk f3 n2 hj)) (fun z => absurd rfl z)
theorem lw_c9 (C : zC G (mL_law nm) p s m args meth c) (X : gX G s) (hX : va_X b L xs s s.heap) (hb : b < s.heap.size) (hbA : ¬ gA G b) (hx : G.2.1 ≤ x) (hi : i + 6 ≤ L) (hL : L ≤ 3072) (hn : x + 61 ≤ n) (h : JJ G f n x) (hk1 : kc + 34 ≤ room_1.cells) (hk2 : ks + 102 ≤ room_1.slots) (kk : ∀ f' n', JJ G f' n' x → Gz G (mL_law nm) room_1 Z p e s m args below meth c (kc + 34) (ks + 102) 1656 (lwLs b x i) [] f' n') : Gz G (mL_law nm) room_1 Z p e s m args below meth c kc ks 533 (lwLs b x i) [] f n := by
  have hc := h.at_x
  obtain ⟨Qc, ec, hq⟩ := s_bears h (a0 := (xs (i + 1))) (a1 := (xs (i + 2)))
  refine gz_aload_n C dL_533 rfl ?_
  refine gz_arg C hX hb hbA (jn := 1) rfl (by omega) hL dL_534 dL_535 dL_537 dL_538 dL_539 ?_
  refine gz_arg C hX hb hbA (jn := 2) rfl (by omega) hL dL_540 dL_541 dL_543 dL_544 dL_545 ?_
  refine gz_V C [.int (xs (i + 1)), .int (xs (i + 2))] [] dL_546 vl_L_59 ⟨(Nat.le_of_ble_eq_true rfl), (Nat.le_of_ble_eq_true rfl), by decide⟩ ec hc.choose_spec hx (by omega) rfl rfl (Nat.le_of_ble_eq_true rfl) (by omega) (by omega) (fun r f1 n1 z => ?_)
  obtain ⟨hc1, hn1, Qm, em, hm⟩ := hq r f1 n1 z
  refine gz_aload_n C dL_549 rfl ?_
  refine gz_arg C hX hb hbA (jn := 1) rfl (by omega) hL dL_550 dL_551 dL_553 dL_554 dL_555 ?_
  refine gz_arg C hX hb hbA (jn := 2) rfl (by omega) hL dL_556 dL_557 dL_559 dL_560 dL_561 ?_
  refine gz_V C [.int (xs (i + 1)), .int (xs (i + 2))] (r.toList ++ []) dL_562 vl_L_62 ⟨(Nat.le_of_ble_eq_true rfl), (Nat.le_of_ble_eq_true rfl), by decide⟩ em hc1.choose_spec (by omega) (by omega) rfl rfl (cat_le r) (by omega) (by omega) (fun r2 f2 n2 z2 => ?_)
  obtain ⟨v, rfl, rfl, f3, hs, hj⟩ := hm r2 f2 n2 z2
  refine gz_sim C hs ?_
  exact gz_icmp_eq C dL_565 (fun _ => gz_widen C (by omega) (by omega) (kk f3 n2 hj)) (fun z => absurd rfl z)
theorem lw_c10 (C : zC G (mL_law nm) p s m args meth c) (X : gX G s) (hX : va_X b L xs s s.heap) (hb : b < s.heap.size) (hbA : ¬ gA G b) (hx : G.2.1 ≤ x) (hi : i + 6 ≤ L) (hL : L ≤ 3072) (hn : x + 61 ≤ n) (h : JJ G f n x) (hk1 : kc + 34 ≤ room_1.cells) (hk2 : ks + 102 ≤ room_1.slots) (kk : ∀ f' n', JJ G f' n' x → Gz G (mL_law nm) room_1 Z p e s m args below meth c (kc + 34) (ks + 102) 1656 (lwLs b x i) [] f' n') : Gz G (mL_law nm) room_1 Z p e s m args below meth c kc ks 570 (lwLs b x i) [] f n := by
  have hc := h.at_x
  obtain ⟨Qc, ec, hq⟩ := s_trouble h (a0 := (xs (i + 1))) (a1 := (xs (i + 2)))
  refine gz_aload_n C dL_570 rfl ?_
  refine gz_arg C hX hb hbA (jn := 1) rfl (by omega) hL dL_571 dL_572 dL_574 dL_575 dL_576 ?_
  refine gz_arg C hX hb hbA (jn := 2) rfl (by omega) hL dL_577 dL_578 dL_580 dL_581 dL_582 ?_
  refine gz_V C [.int (xs (i + 1)), .int (xs (i + 2))] [] dL_583 vl_L_63 ⟨(Nat.le_of_ble_eq_true rfl), (Nat.le_of_ble_eq_true rfl), by decide⟩ ec hc.choose_spec hx (by omega) rfl rfl (Nat.le_of_ble_eq_true rfl) (by omega) (by omega) (fun r f1 n1 z => ?_)
  obtain ⟨hc1, hn1, Qm, em, hm⟩ := hq r f1 n1 z
  refine gz_aload_n C dL_586 rfl ?_
  refine gz_arg C hX hb hbA (jn := 1) rfl (by omega) hL dL_587 dL_588 dL_590 dL_591 dL_592 ?_
  refine gz_arg C hX hb hbA (jn := 2) rfl (by omega) hL dL_593 dL_594 dL_596 dL_597 dL_598 ?_
  refine gz_V C [.int (xs (i + 1)), .int (xs (i + 2))] (r.toList ++ []) dL_599 vl_L_66 ⟨(Nat.le_of_ble_eq_true rfl), (Nat.le_of_ble_eq_true rfl), by decide⟩ em hc1.choose_spec (by omega) (by omega) rfl rfl (cat_le r) (by omega) (by omega) (fun r2 f2 n2 z2 => ?_)
  obtain ⟨v, rfl, rfl, f3, hs, hj⟩ := hm r2 f2 n2 z2
  refine gz_sim C hs ?_
  exact gz_icmp_eq C dL_602 (fun _ => gz_widen C (by omega) (by omega) (kk f3 n2 hj)) (fun z => absurd rfl z)
theorem lw_c11 (C : zC G (mL_law nm) p s m args meth c) (X : gX G s) (hX : va_X b L xs s s.heap) (hb : b < s.heap.size) (hbA : ¬ gA G b) (hx : G.2.1 ≤ x) (hi : i + 6 ≤ L) (hL : L ≤ 3072) (hn : x + 61 ≤ n) (h : JJ G f n x) (hk1 : kc + 34 ≤ room_1.cells) (hk2 : ks + 102 ≤ room_1.slots) (kk : ∀ f' n', JJ G f' n' x → Gz G (mL_law nm) room_1 Z p e s m args below meth c (kc + 34) (ks + 102) 1656 (lwLs b x i) [] f' n') : Gz G (mL_law nm) room_1 Z p e s m args below meth c kc ks 607 (lwLs b x i) [] f n := by
  have hc := h.at_x
  obtain ⟨Qc, ec, hq⟩ := s_content h (a0 := (xs (i + 1)))
  refine gz_aload_n C dL_607 rfl ?_
  refine gz_arg C hX hb hbA (jn := 1) rfl (by omega) hL dL_608 dL_609 dL_611 dL_612 dL_613 ?_
  refine gz_V C [.int (xs (i + 1))] [] dL_614 vl_L_67 ⟨(Nat.le_of_ble_eq_true rfl), (Nat.le_of_ble_eq_true rfl), by decide⟩ ec hc.choose_spec hx (by omega) rfl rfl (Nat.le_of_ble_eq_true rfl) (by omega) (by omega) (fun r f1 n1 z => ?_)
  obtain ⟨hc1, hn1, Qm, em, hm⟩ := hq r f1 n1 z
  refine gz_aload_n C dL_617 rfl ?_
  refine gz_arg C hX hb hbA (jn := 1) rfl (by omega) hL dL_618 dL_619 dL_621 dL_622 dL_623 ?_
  refine gz_V C [.int (xs (i + 1))] (r.toList ++ []) dL_624 vl_L_70 ⟨(Nat.le_of_ble_eq_true rfl), (Nat.le_of_ble_eq_true rfl), by decide⟩ em hc1.choose_spec (by omega) (by omega) rfl rfl (cat_le r) (by omega) (by omega) (fun r2 f2 n2 z2 => ?_)
  obtain ⟨v, rfl, rfl, f3, hs, hj⟩ := hm r2 f2 n2 z2
  refine gz_sim C hs ?_
  exact gz_icmp_eq C dL_627 (fun _ => gz_widen C (by omega) (by omega) (kk f3 n2 hj)) (fun z => absurd rfl z)
theorem lw_c12 (C : zC G (mL_law nm) p s m args meth c) (X : gX G s) (hX : va_X b L xs s s.heap) (hb : b < s.heap.size) (hbA : ¬ gA G b) (hx : G.2.1 ≤ x) (hi : i + 6 ≤ L) (hL : L ≤ 3072) (hn : x + 61 ≤ n) (h : JJ G f n x) (hk1 : kc + 34 ≤ room_1.cells) (hk2 : ks + 102 ≤ room_1.slots) (kk : ∀ f' n', JJ G f' n' x → Gz G (mL_law nm) room_1 Z p e s m args below meth c (kc + 34) (ks + 102) 1656 (lwLs b x i) [] f' n') : Gz G (mL_law nm) room_1 Z p e s m args below meth c kc ks 632 (lwLs b x i) [] f n := by
  have hc := h.at_x
  obtain ⟨Qc, ec, hq⟩ := s_clashes h (a0 := (xs (i + 1)))
  refine gz_aload_n C dL_632 rfl ?_
  refine gz_arg C hX hb hbA (jn := 1) rfl (by omega) hL dL_633 dL_634 dL_636 dL_637 dL_638 ?_
  refine gz_V C [.int (xs (i + 1))] [] dL_639 vl_L_71 ⟨(Nat.le_of_ble_eq_true rfl), (Nat.le_of_ble_eq_true rfl), by decide⟩ ec hc.choose_spec hx (by omega) rfl rfl (Nat.le_of_ble_eq_true rfl) (by omega) (by omega) (fun r f1 n1 z => ?_)
  obtain ⟨hc1, hn1, Qm, em, hm⟩ := hq r f1 n1 z
  refine gz_aload_n C dL_642 rfl ?_
  refine gz_arg C hX hb hbA (jn := 1) rfl (by omega) hL dL_643 dL_644 dL_646 dL_647 dL_648 ?_
  refine gz_V C [.int (xs (i + 1))] (r.toList ++ []) dL_649 vl_L_74 ⟨(Nat.le_of_ble_eq_true rfl), (Nat.le_of_ble_eq_true rfl), by decide⟩ em hc1.choose_spec (by omega) (by omega) rfl rfl (cat_le r) (by omega) (by omega) (fun r2 f2 n2 z2 => ?_)
  obtain ⟨v, rfl, rfl, f3, hs, hj⟩ := hm r2 f2 n2 z2
  refine gz_sim C hs ?_
  exact gz_icmp_eq C dL_652 (fun _ => gz_widen C (by omega) (by omega) (kk f3 n2 hj)) (fun z => absurd rfl z)
theorem lw_c13 (C : zC G (mL_law nm) p s m args meth c) (X : gX G s) (hX : va_X b L xs s s.heap) (hb : b < s.heap.size) (hbA : ¬ gA G b) (hx : G.2.1 ≤ x) (hi : i + 6 ≤ L) (hL : L ≤ 3072) (hn : x + 61 ≤ n) (h : JJ G f n x) (hk1 : kc + 34 ≤ room_1.cells) (hk2 : ks + 102 ≤ room_1.slots) (kk : ∀ f' n', JJ G f' n' x → Gz G (mL_law nm) room_1 Z p e s m args below meth c (kc + 34) (ks + 102) 1656 (lwLs b x i) [] f' n') : Gz G (mL_law nm) room_1 Z p e s m args below meth c kc ks 657 (lwLs b x i) [] f n := by
  have hc := h.at_x
  obtain ⟨Qc, ec, hq⟩ := s_rather h (a0 := (xs (i + 1)))
  refine gz_aload_n C dL_657 rfl ?_
  refine gz_arg C hX hb hbA (jn := 1) rfl (by omega) hL dL_658 dL_659 dL_661 dL_662 dL_663 ?_
  refine gz_V C [.int (xs (i + 1))] [] dL_664 vl_L_75 ⟨(Nat.le_of_ble_eq_true rfl), (Nat.le_of_ble_eq_true rfl), by decide⟩ ec hc.choose_spec hx (by omega) rfl rfl (Nat.le_of_ble_eq_true rfl) (by omega) (by omega) (fun r f1 n1 z => ?_)
  obtain ⟨hc1, hn1, Qm, em, hm⟩ := hq r f1 n1 z
  refine gz_aload_n C dL_667 rfl ?_
  refine gz_arg C hX hb hbA (jn := 1) rfl (by omega) hL dL_668 dL_669 dL_671 dL_672 dL_673 ?_
  refine gz_V C [.int (xs (i + 1))] (r.toList ++ []) dL_674 vl_L_78 ⟨(Nat.le_of_ble_eq_true rfl), (Nat.le_of_ble_eq_true rfl), by decide⟩ em hc1.choose_spec (by omega) (by omega) rfl rfl (cat_le r) (by omega) (by omega) (fun r2 f2 n2 z2 => ?_)
  obtain ⟨v, rfl, rfl, f3, hs, hj⟩ := hm r2 f2 n2 z2
  refine gz_sim C hs ?_
  exact gz_icmp_eq C dL_677 (fun _ => gz_widen C (by omega) (by omega) (kk f3 n2 hj)) (fun z => absurd rfl z)
theorem lw_c14 (C : zC G (mL_law nm) p s m args meth c) (X : gX G s) (hX : va_X b L xs s s.heap) (hb : b < s.heap.size) (hbA : ¬ gA G b) (hx : G.2.1 ≤ x) (hi : i + 6 ≤ L) (hL : L ≤ 3072) (hn : x + 61 ≤ n) (h : JJ G f n x) (hk1 : kc + 34 ≤ room_1.cells) (hk2 : ks + 102 ≤ room_1.slots) (kk : ∀ f' n', JJ G f' n' x → Gz G (mL_law nm) room_1 Z p e s m args below meth c (kc + 34) (ks + 102) 1656 (lwLs b x i) [] f' n') : Gz G (mL_law nm) room_1 Z p e s m args below meth c kc ks 682 (lwLs b x i) [] f n := by
  have hc := h.at_x
  obtain ⟨Qc, ec, hq⟩ := s_best h (a0 := (xs (i + 1)))
  refine gz_aload_n C dL_682 rfl ?_
  refine gz_arg C hX hb hbA (jn := 1) rfl (by omega) hL dL_683 dL_684 dL_686 dL_687 dL_688 ?_
  refine gz_V C [.int (xs (i + 1))] [] dL_689 vl_L_79 ⟨(Nat.le_of_ble_eq_true rfl), (Nat.le_of_ble_eq_true rfl), by decide⟩ ec hc.choose_spec hx (by omega) rfl rfl (Nat.le_of_ble_eq_true rfl) (by omega) (by omega) (fun r f1 n1 z => ?_)
  obtain ⟨hc1, hn1, Qm, em, hm⟩ := hq r f1 n1 z
  refine gz_aload_n C dL_692 rfl ?_
  refine gz_arg C hX hb hbA (jn := 1) rfl (by omega) hL dL_693 dL_694 dL_696 dL_697 dL_698 ?_
  refine gz_V C [.int (xs (i + 1))] (r.toList ++ []) dL_699 vl_L_82 ⟨(Nat.le_of_ble_eq_true rfl), (Nat.le_of_ble_eq_true rfl), by decide⟩ em hc1.choose_spec (by omega) (by omega) rfl rfl (cat_le r) (by omega) (by omega) (fun r2 f2 n2 z2 => ?_)
  obtain ⟨v, rfl, rfl, f3, hs, hj⟩ := hm r2 f2 n2 z2
  refine gz_sim C hs ?_
  exact gz_icmp_eq C dL_702 (fun _ => gz_widen C (by omega) (by omega) (kk f3 n2 hj)) (fun z => absurd rfl z)
theorem lw_c15 (C : zC G (mL_law nm) p s m args meth c) (X : gX G s) (hX : va_X b L xs s s.heap) (hb : b < s.heap.size) (hbA : ¬ gA G b) (hx : G.2.1 ≤ x) (hi : i + 6 ≤ L) (hL : L ≤ 3072) (hn : x + 61 ≤ n) (h : JJ G f n x) (hk1 : kc + 34 ≤ room_1.cells) (hk2 : ks + 102 ≤ room_1.slots) (kk : ∀ f' n', JJ G f' n' x → Gz G (mL_law nm) room_1 Z p e s m args below meth c (kc + 34) (ks + 102) 1656 (lwLs b x i) [] f' n') : Gz G (mL_law nm) room_1 Z p e s m args below meth c kc ks 707 (lwLs b x i) [] f n := by
  have hc := h.at_x
  obtain ⟨Qc, ec, hq⟩ := s_rests h (a0 := (xs (i + 1)))
  refine gz_aload_n C dL_707 rfl ?_
  refine gz_arg C hX hb hbA (jn := 1) rfl (by omega) hL dL_708 dL_709 dL_711 dL_712 dL_713 ?_
  refine gz_V C [.int (xs (i + 1))] [] dL_714 vl_L_83 ⟨(Nat.le_of_ble_eq_true rfl), (Nat.le_of_ble_eq_true rfl), by decide⟩ ec hc.choose_spec hx (by omega) rfl rfl (Nat.le_of_ble_eq_true rfl) (by omega) (by omega) (fun r f1 n1 z => ?_)
  obtain ⟨hc1, hn1, Qm, em, hm⟩ := hq r f1 n1 z
  refine gz_aload_n C dL_717 rfl ?_
  refine gz_arg C hX hb hbA (jn := 1) rfl (by omega) hL dL_718 dL_719 dL_721 dL_722 dL_723 ?_
  refine gz_V C [.int (xs (i + 1))] (r.toList ++ []) dL_724 vl_L_86 ⟨(Nat.le_of_ble_eq_true rfl), (Nat.le_of_ble_eq_true rfl), by decide⟩ em hc1.choose_spec (by omega) (by omega) rfl rfl (cat_le r) (by omega) (by omega) (fun r2 f2 n2 z2 => ?_)
  obtain ⟨v, rfl, rfl, f3, hs, hj⟩ := hm r2 f2 n2 z2
  refine gz_sim C hs ?_
  exact gz_icmp_eq C dL_727 (fun _ => gz_widen C (by omega) (by omega) (kk f3 n2 hj)) (fun z => absurd rfl z)
theorem lw_c16 (C : zC G (mL_law nm) p s m args meth c) (X : gX G s) (hX : va_X b L xs s s.heap) (hb : b < s.heap.size) (hbA : ¬ gA G b) (hx : G.2.1 ≤ x) (hi : i + 6 ≤ L) (hL : L ≤ 3072) (hn : x + 61 ≤ n) (h : JJ G f n x) (hk1 : kc + 34 ≤ room_1.cells) (hk2 : ks + 102 ≤ room_1.slots) (hPL : PLeq) (kk : ∀ f' n', JJ G f' n' x → Gz G (mL_law nm) room_1 Z p e s m args below meth c (kc + 34) (ks + 102) 1656 (lwLs b x i) [] f' n') : Gz G (mL_law nm) room_1 Z p e s m args below meth c kc ks 732 (lwLs b x i) [] f n := by
  have hc := h.at_x
  obtain ⟨Qc, ec, hq⟩ := s_placed h hPL
  refine gz_aload_n C dL_732 rfl ?_
  refine gz_V C [] [] dL_733 vl_L_87 ⟨(Nat.le_of_ble_eq_true rfl), (Nat.le_of_ble_eq_true rfl), by decide⟩ ec hc.choose_spec hx (by omega) rfl rfl (Nat.le_of_ble_eq_true rfl) (by omega) (by omega) (fun r f1 n1 z => ?_)
  obtain ⟨hc1, hn1, Qm, em, hm⟩ := hq r f1 n1 z
  refine gz_aload_n C dL_736 rfl ?_
  refine gz_V C [] (r.toList ++ []) dL_737 vl_L_91 ⟨(Nat.le_of_ble_eq_true rfl), (Nat.le_of_ble_eq_true rfl), by decide⟩ em hc1.choose_spec (by omega) (by omega) rfl rfl (cat_le r) (by omega) (by omega) (fun r2 f2 n2 z2 => ?_)
  obtain ⟨v, rfl, rfl, f3, hs, hj⟩ := hm r2 f2 n2 z2
  refine gz_sim C hs ?_
  exact gz_icmp_eq C dL_740 (fun _ => gz_widen C (by omega) (by omega) (kk f3 n2 hj)) (fun z => absurd rfl z)
theorem lw_c17 (C : zC G (mL_law nm) p s m args meth c) (X : gX G s) (hX : va_X b L xs s s.heap) (hb : b < s.heap.size) (hbA : ¬ gA G b) (hx : G.2.1 ≤ x) (hi : i + 6 ≤ L) (hL : L ≤ 3072) (hn : x + 61 ≤ n) (h : JJ G f n x) (hk1 : kc + 34 ≤ room_1.cells) (hk2 : ks + 102 ≤ room_1.slots) (hPL : PLeq) (kk : ∀ f' n', JJ G f' n' x → Gz G (mL_law nm) room_1 Z p e s m args below meth c (kc + 34) (ks + 102) 1656 (lwLs b x i) [] f' n') : Gz G (mL_law nm) room_1 Z p e s m args below meth c kc ks 745 (lwLs b x i) [] f n := by
  have hc := h.at_x
  obtain ⟨Qc, ec, hq⟩ := s_placedAt h hPL (a0 := (xs (i + 1)))
  refine gz_aload_n C dL_745 rfl ?_
  refine gz_arg C hX hb hbA (jn := 1) rfl (by omega) hL dL_746 dL_747 dL_749 dL_750 dL_751 ?_
  refine gz_V C [.int (xs (i + 1))] [] dL_752 vl_L_92 ⟨(Nat.le_of_ble_eq_true rfl), (Nat.le_of_ble_eq_true rfl), by decide⟩ ec hc.choose_spec hx (by omega) rfl rfl (Nat.le_of_ble_eq_true rfl) (by omega) (by omega) (fun r f1 n1 z => ?_)
  obtain ⟨hc1, hn1, Qm, em, hm⟩ := hq r f1 n1 z
  refine gz_aload_n C dL_755 rfl ?_
  refine gz_arg C hX hb hbA (jn := 1) rfl (by omega) hL dL_756 dL_757 dL_759 dL_760 dL_761 ?_
  refine gz_V C [.int (xs (i + 1))] (r.toList ++ []) dL_762 vl_L_95 ⟨(Nat.le_of_ble_eq_true rfl), (Nat.le_of_ble_eq_true rfl), by decide⟩ em hc1.choose_spec (by omega) (by omega) rfl rfl (cat_le r) (by omega) (by omega) (fun r2 f2 n2 z2 => ?_)
  obtain ⟨v, rfl, rfl, f3, hs, hj⟩ := hm r2 f2 n2 z2
  refine gz_sim C hs ?_
  exact gz_icmp_eq C dL_765 (fun _ => gz_widen C (by omega) (by omega) (kk f3 n2 hj)) (fun z => absurd rfl z)
theorem lw_c18 (C : zC G (mL_law nm) p s m args meth c) (X : gX G s) (hX : va_X b L xs s s.heap) (hb : b < s.heap.size) (hbA : ¬ gA G b) (hx : G.2.1 ≤ x) (hi : i + 6 ≤ L) (hL : L ≤ 3072) (hn : x + 61 ≤ n) (h : JJ G f n x) (hk1 : kc + 34 ≤ room_1.cells) (hk2 : ks + 102 ≤ room_1.slots) (kk : ∀ f' n', JJ G f' n' x → Gz G (mL_law nm) room_1 Z p e s m args below meth c (kc + 34) (ks + 102) 1656 (lwLs b x i) [] f' n') : Gz G (mL_law nm) room_1 Z p e s m args below meth c kc ks 770 (lwLs b x i) [] f n := by
  have hc := h.at_x
  obtain ⟨Qc, ec, hq⟩ := s_agreed h
  refine gz_aload_n C dL_770 rfl ?_
  refine gz_V C [] [] dL_771 vl_L_96 ⟨(Nat.le_of_ble_eq_true rfl), (Nat.le_of_ble_eq_true rfl), by decide⟩ ec hc.choose_spec hx (by omega) rfl rfl (Nat.le_of_ble_eq_true rfl) (by omega) (by omega) (fun r f1 n1 z => ?_)
  obtain ⟨hc1, hn1, Qm, em, hm⟩ := hq r f1 n1 z
  refine gz_aload_n C dL_774 rfl ?_
  refine gz_V C [] (r.toList ++ []) dL_775 vl_L_99 ⟨(Nat.le_of_ble_eq_true rfl), (Nat.le_of_ble_eq_true rfl), by decide⟩ em hc1.choose_spec (by omega) (by omega) rfl rfl (cat_le r) (by omega) (by omega) (fun r2 f2 n2 z2 => ?_)
  obtain ⟨v, rfl, rfl, f3, hs, hj⟩ := hm r2 f2 n2 z2
  refine gz_sim C hs ?_
  exact gz_icmp_eq C dL_778 (fun _ => gz_widen C (by omega) (by omega) (kk f3 n2 hj)) (fun z => absurd rfl z)
theorem lw_c19 (C : zC G (mL_law nm) p s m args meth c) (X : gX G s) (hX : va_X b L xs s s.heap) (hb : b < s.heap.size) (hbA : ¬ gA G b) (hx : G.2.1 ≤ x) (hi : i + 6 ≤ L) (hL : L ≤ 3072) (hn : x + 61 ≤ n) (h : JJ G f n x) (hk1 : kc + 34 ≤ room_1.cells) (hk2 : ks + 102 ≤ room_1.slots) (kk : ∀ f' n', JJ G f' n' x → Gz G (mL_law nm) room_1 Z p e s m args below meth c (kc + 34) (ks + 102) 1656 (lwLs b x i) [] f' n') : Gz G (mL_law nm) room_1 Z p e s m args below meth c kc ks 783 (lwLs b x i) [] f n := by
  have hc := h.at_x
  obtain ⟨Qc, ec, hq⟩ := s_agreedContent h
  refine gz_aload_n C dL_783 rfl ?_
  refine gz_V C [] [] dL_784 vl_L_100 ⟨(Nat.le_of_ble_eq_true rfl), (Nat.le_of_ble_eq_true rfl), by decide⟩ ec hc.choose_spec hx (by omega) rfl rfl (Nat.le_of_ble_eq_true rfl) (by omega) (by omega) (fun r f1 n1 z => ?_)
  obtain ⟨hc1, hn1, Qm, em, hm⟩ := hq r f1 n1 z
  refine gz_aload_n C dL_787 rfl ?_
  refine gz_V C [] (r.toList ++ []) dL_788 vl_L_103 ⟨(Nat.le_of_ble_eq_true rfl), (Nat.le_of_ble_eq_true rfl), by decide⟩ em hc1.choose_spec (by omega) (by omega) rfl rfl (cat_le r) (by omega) (by omega) (fun r2 f2 n2 z2 => ?_)
  obtain ⟨v, rfl, rfl, f3, hs, hj⟩ := hm r2 f2 n2 z2
  refine gz_sim C hs ?_
  exact gz_icmp_eq C dL_791 (fun _ => gz_widen C (by omega) (by omega) (kk f3 n2 hj)) (fun z => absurd rfl z)
theorem lw_c20 (C : zC G (mL_law nm) p s m args meth c) (X : gX G s) (hX : va_X b L xs s s.heap) (hb : b < s.heap.size) (hbA : ¬ gA G b) (hx : G.2.1 ≤ x) (hi : i + 6 ≤ L) (hL : L ≤ 3072) (hn : x + 61 ≤ n) (h : JJ G f n x) (hk1 : kc + 34 ≤ room_1.cells) (hk2 : ks + 102 ≤ room_1.slots) (kk : ∀ f' n', JJ G f' n' x → Gz G (mL_law nm) room_1 Z p e s m args below meth c (kc + 34) (ks + 102) 1656 (lwLs b x i) [] f' n') : Gz G (mL_law nm) room_1 Z p e s m args below meth c kc ks 796 (lwLs b x i) [] f n := by
  have hc := h.at_x
  obtain ⟨Qc, ec, hq⟩ := s_list h (a0 := (xs (i + 1)))
  refine gz_aload_n C dL_796 rfl ?_
  refine gz_arg C hX hb hbA (jn := 1) rfl (by omega) hL dL_797 dL_798 dL_800 dL_801 dL_802 ?_
  refine gz_V C [.int (xs (i + 1))] [] dL_803 vl_L_104 ⟨(Nat.le_of_ble_eq_true rfl), (Nat.le_of_ble_eq_true rfl), by decide⟩ ec hc.choose_spec hx (by omega) rfl rfl (Nat.le_of_ble_eq_true rfl) (by omega) (by omega) (fun r f1 n1 z => ?_)
  obtain ⟨hc1, hn1, Qm, em, hm⟩ := hq r f1 n1 z
  refine gz_aload_n C dL_806 rfl ?_
  refine gz_arg C hX hb hbA (jn := 1) rfl (by omega) hL dL_807 dL_808 dL_810 dL_811 dL_812 ?_
  refine gz_V C [.int (xs (i + 1))] (r.toList ++ []) dL_813 vl_L_107 ⟨(Nat.le_of_ble_eq_true rfl), (Nat.le_of_ble_eq_true rfl), by decide⟩ em hc1.choose_spec (by omega) (by omega) rfl rfl (cat_le r) (by omega) (by omega) (fun r2 f2 n2 z2 => ?_)
  obtain ⟨v, rfl, rfl, f3, hs, hj⟩ := hm r2 f2 n2 z2
  refine gz_sim C hs ?_
  exact gz_icmp_eq C dL_816 (fun _ => gz_widen C (by omega) (by omega) (kk f3 n2 hj)) (fun z => absurd rfl z)
theorem lw_c21 (C : zC G (mL_law nm) p s m args meth c) (X : gX G s) (hX : va_X b L xs s s.heap) (hb : b < s.heap.size) (hbA : ¬ gA G b) (hx : G.2.1 ≤ x) (hi : i + 6 ≤ L) (hL : L ≤ 3072) (hn : x + 61 ≤ n) (h : JJ G f n x) (hk1 : kc + 34 ≤ room_1.cells) (hk2 : ks + 102 ≤ room_1.slots) (kk : ∀ f' n', JJ G f' n' x → Gz G (mL_law nm) room_1 Z p e s m args below meth c (kc + 34) (ks + 102) 1656 (lwLs b x i) [] f' n') : Gz G (mL_law nm) room_1 Z p e s m args below meth c kc ks 821 (lwLs b x i) [] f n := by
  have hc := h.at_x
  obtain ⟨Qc, ec, hq⟩ := s_alone h (a0 := (xs (i + 1)))
  refine gz_aload_n C dL_821 rfl ?_
  refine gz_arg C hX hb hbA (jn := 1) rfl (by omega) hL dL_822 dL_823 dL_825 dL_826 dL_827 ?_
  refine gz_V C [.int (xs (i + 1))] [] dL_828 vl_L_108 ⟨(Nat.le_of_ble_eq_true rfl), (Nat.le_of_ble_eq_true rfl), by decide⟩ ec hc.choose_spec hx (by omega) rfl rfl (Nat.le_of_ble_eq_true rfl) (by omega) (by omega) (fun r f1 n1 z => ?_)
  obtain ⟨hc1, hn1, Qm, em, hm⟩ := hq r f1 n1 z
  refine gz_aload_n C dL_831 rfl ?_
  refine gz_arg C hX hb hbA (jn := 1) rfl (by omega) hL dL_832 dL_833 dL_835 dL_836 dL_837 ?_
  refine gz_V C [.int (xs (i + 1))] (r.toList ++ []) dL_838 vl_L_111 ⟨(Nat.le_of_ble_eq_true rfl), (Nat.le_of_ble_eq_true rfl), by decide⟩ em hc1.choose_spec (by omega) (by omega) rfl rfl (cat_le r) (by omega) (by omega) (fun r2 f2 n2 z2 => ?_)
  obtain ⟨v, rfl, rfl, f3, hs, hj⟩ := hm r2 f2 n2 z2
  refine gz_sim C hs ?_
  exact gz_icmp_eq C dL_841 (fun _ => gz_widen C (by omega) (by omega) (kk f3 n2 hj)) (fun z => absurd rfl z)
theorem lw_c22 (C : zC G (mL_law nm) p s m args meth c) (X : gX G s) (hX : va_X b L xs s s.heap) (hb : b < s.heap.size) (hbA : ¬ gA G b) (hx : G.2.1 ≤ x) (hi : i + 6 ≤ L) (hL : L ≤ 3072) (hn : x + 61 ≤ n) (h : JJ G f n x) (hk1 : kc + 34 ≤ room_1.cells) (hk2 : ks + 102 ≤ room_1.slots) (kk : ∀ f' n', JJ G f' n' x → Gz G (mL_law nm) room_1 Z p e s m args below meth c (kc + 34) (ks + 102) 1656 (lwLs b x i) [] f' n') : Gz G (mL_law nm) room_1 Z p e s m args below meth c kc ks 846 (lwLs b x i) [] f n := by
  have hc := h.at_x
  obtain ⟨Qc, ec, hq⟩ := s_price h (a0 := (xs (i + 1)))
  refine gz_aload_n C dL_846 rfl ?_
  refine gz_arg C hX hb hbA (jn := 1) rfl (by omega) hL dL_847 dL_848 dL_850 dL_851 dL_852 ?_
  refine gz_V C [.int (xs (i + 1))] [] dL_853 vl_L_112 ⟨(Nat.le_of_ble_eq_true rfl), (Nat.le_of_ble_eq_true rfl), by decide⟩ ec hc.choose_spec hx (by omega) rfl rfl (Nat.le_of_ble_eq_true rfl) (by omega) (by omega) (fun r f1 n1 z => ?_)
  obtain ⟨hc1, hn1, Qm, em, hm⟩ := hq r f1 n1 z
  refine gz_aload_n C dL_856 rfl ?_
  refine gz_arg C hX hb hbA (jn := 1) rfl (by omega) hL dL_857 dL_858 dL_860 dL_861 dL_862 ?_
  refine gz_V C [.int (xs (i + 1))] (r.toList ++ []) dL_863 vl_L_115 ⟨(Nat.le_of_ble_eq_true rfl), (Nat.le_of_ble_eq_true rfl), by decide⟩ em hc1.choose_spec (by omega) (by omega) rfl rfl (cat_le r) (by omega) (by omega) (fun r2 f2 n2 z2 => ?_)
  obtain ⟨v, rfl, rfl, f3, hs, hj⟩ := hm r2 f2 n2 z2
  refine gz_sim C hs ?_
  exact gz_icmp_eq C dL_866 (fun _ => gz_widen C (by omega) (by omega) (kk f3 n2 hj)) (fun z => absurd rfl z)
theorem lw_c23 (C : zC G (mL_law nm) p s m args meth c) (X : gX G s) (hX : va_X b L xs s s.heap) (hb : b < s.heap.size) (hbA : ¬ gA G b) (hx : G.2.1 ≤ x) (hi : i + 6 ≤ L) (hL : L ≤ 3072) (hn : x + 61 ≤ n) (h : JJ G f n x) (hk1 : kc + 34 ≤ room_1.cells) (hk2 : ks + 102 ≤ room_1.slots) (kk : ∀ f' n', JJ G f' n' x → Gz G (mL_law nm) room_1 Z p e s m args below meth c (kc + 34) (ks + 102) 1656 (lwLs b x i) [] f' n') : Gz G (mL_law nm) room_1 Z p e s m args below meth c kc ks 871 (lwLs b x i) [] f n := by
  have hc := h.at_x
  obtain ⟨Qc, ec, hq⟩ := s_otherwise h (a0 := (xs (i + 1)))
  refine gz_aload_n C dL_871 rfl ?_
  refine gz_arg C hX hb hbA (jn := 1) rfl (by omega) hL dL_872 dL_873 dL_875 dL_876 dL_877 ?_
  refine gz_V C [.int (xs (i + 1))] [] dL_878 vl_L_116 ⟨(Nat.le_of_ble_eq_true rfl), (Nat.le_of_ble_eq_true rfl), by decide⟩ ec hc.choose_spec hx (by omega) rfl rfl (Nat.le_of_ble_eq_true rfl) (by omega) (by omega) (fun r f1 n1 z => ?_)
  obtain ⟨hc1, hn1, Qm, em, hm⟩ := hq r f1 n1 z
  refine gz_aload_n C dL_881 rfl ?_
  refine gz_arg C hX hb hbA (jn := 1) rfl (by omega) hL dL_882 dL_883 dL_885 dL_886 dL_887 ?_
  refine gz_V C [.int (xs (i + 1))] (r.toList ++ []) dL_888 vl_L_119 ⟨(Nat.le_of_ble_eq_true rfl), (Nat.le_of_ble_eq_true rfl), by decide⟩ em hc1.choose_spec (by omega) (by omega) rfl rfl (cat_le r) (by omega) (by omega) (fun r2 f2 n2 z2 => ?_)
  obtain ⟨v, rfl, rfl, f3, hs, hj⟩ := hm r2 f2 n2 z2
  refine gz_sim C hs ?_
  exact gz_icmp_eq C dL_891 (fun _ => gz_widen C (by omega) (by omega) (kk f3 n2 hj)) (fun z => absurd rfl z)
theorem lw_c24 (C : zC G (mL_law nm) p s m args meth c) (X : gX G s) (hX : va_X b L xs s s.heap) (hb : b < s.heap.size) (hbA : ¬ gA G b) (hx : G.2.1 ≤ x) (hi : i + 6 ≤ L) (hL : L ≤ 3072) (hn : x + 61 ≤ n) (h : JJ G f n x) (hk1 : kc + 34 ≤ room_1.cells) (hk2 : ks + 102 ≤ room_1.slots) (kk : ∀ f' n', JJ G f' n' x → Gz G (mL_law nm) room_1 Z p e s m args below meth c (kc + 34) (ks + 102) 1656 (lwLs b x i) [] f' n') : Gz G (mL_law nm) room_1 Z p e s m args below meth c kc ks 896 (lwLs b x i) [] f n := by
  have hc := h.at_x
  obtain ⟨Qc, ec, hq⟩ := s_hours h (a0 := (xs (i + 1)))
  refine gz_aload_n C dL_896 rfl ?_
  refine gz_arg C hX hb hbA (jn := 1) rfl (by omega) hL dL_897 dL_898 dL_900 dL_901 dL_902 ?_
  refine gz_V C [.int (xs (i + 1))] [] dL_903 vl_L_120 ⟨(Nat.le_of_ble_eq_true rfl), (Nat.le_of_ble_eq_true rfl), by decide⟩ ec hc.choose_spec hx (by omega) rfl rfl (Nat.le_of_ble_eq_true rfl) (by omega) (by omega) (fun r f1 n1 z => ?_)
  obtain ⟨hc1, hn1, Qm, em, hm⟩ := hq r f1 n1 z
  refine gz_aload_n C dL_906 rfl ?_
  refine gz_arg C hX hb hbA (jn := 1) rfl (by omega) hL dL_907 dL_908 dL_910 dL_911 dL_912 ?_
  refine gz_V C [.int (xs (i + 1))] (r.toList ++ []) dL_913 vl_L_123 ⟨(Nat.le_of_ble_eq_true rfl), (Nat.le_of_ble_eq_true rfl), by decide⟩ em hc1.choose_spec (by omega) (by omega) rfl rfl (cat_le r) (by omega) (by omega) (fun r2 f2 n2 z2 => ?_)
  obtain ⟨v, rfl, rfl, f3, hs, hj⟩ := hm r2 f2 n2 z2
  refine gz_sim C hs ?_
  exact gz_icmp_eq C dL_916 (fun _ => gz_widen C (by omega) (by omega) (kk f3 n2 hj)) (fun z => absurd rfl z)
theorem lw_c25 (C : zC G (mL_law nm) p s m args meth c) (X : gX G s) (hX : va_X b L xs s s.heap) (hb : b < s.heap.size) (hbA : ¬ gA G b) (hx : G.2.1 ≤ x) (hi : i + 6 ≤ L) (hL : L ≤ 3072) (hn : x + 61 ≤ n) (h : JJ G f n x) (hk1 : kc + 34 ≤ room_1.cells) (hk2 : ks + 102 ≤ room_1.slots) (kk : ∀ f' n', JJ G f' n' x → Gz G (mL_law nm) room_1 Z p e s m args below meth c (kc + 34) (ks + 102) 1656 (lwLs b x i) [] f' n') : Gz G (mL_law nm) room_1 Z p e s m args below meth c kc ks 921 (lwLs b x i) [] f n := by
  have hc := h.at_x
  obtain ⟨Qc, ec, hq⟩ := s_envy h (a0 := (xs (i + 1)))
  refine gz_aload_n C dL_921 rfl ?_
  refine gz_arg C hX hb hbA (jn := 1) rfl (by omega) hL dL_922 dL_923 dL_925 dL_926 dL_927 ?_
  refine gz_V C [.int (xs (i + 1))] [] dL_928 vl_L_124 ⟨(Nat.le_of_ble_eq_true rfl), (Nat.le_of_ble_eq_true rfl), by decide⟩ ec hc.choose_spec hx (by omega) rfl rfl (Nat.le_of_ble_eq_true rfl) (by omega) (by omega) (fun r f1 n1 z => ?_)
  obtain ⟨hc1, hn1, Qm, em, hm⟩ := hq r f1 n1 z
  refine gz_aload_n C dL_931 rfl ?_
  refine gz_arg C hX hb hbA (jn := 1) rfl (by omega) hL dL_932 dL_933 dL_935 dL_936 dL_937 ?_
  refine gz_V C [.int (xs (i + 1))] (r.toList ++ []) dL_938 vl_L_127 ⟨(Nat.le_of_ble_eq_true rfl), (Nat.le_of_ble_eq_true rfl), by decide⟩ em hc1.choose_spec (by omega) (by omega) rfl rfl (cat_le r) (by omega) (by omega) (fun r2 f2 n2 z2 => ?_)
  obtain ⟨v, rfl, rfl, f3, hs, hj⟩ := hm r2 f2 n2 z2
  refine gz_sim C hs ?_
  exact gz_icmp_eq C dL_941 (fun _ => gz_widen C (by omega) (by omega) (kk f3 n2 hj)) (fun z => absurd rfl z)
theorem lw_c26 (C : zC G (mL_law nm) p s m args meth c) (X : gX G s) (hX : va_X b L xs s s.heap) (hb : b < s.heap.size) (hbA : ¬ gA G b) (hx : G.2.1 ≤ x) (hi : i + 6 ≤ L) (hL : L ≤ 3072) (hn : x + 61 ≤ n) (h : JJ G f n x) (hk1 : kc + 34 ≤ room_1.cells) (hk2 : ks + 102 ≤ room_1.slots) (kk : ∀ f' n', JJ G f' n' x → Gz G (mL_law nm) room_1 Z p e s m args below meth c (kc + 34) (ks + 102) 1656 (lwLs b x i) [] f' n') : Gz G (mL_law nm) room_1 Z p e s m args below meth c kc ks 946 (lwLs b x i) [] f n := by
  have hc := h.at_x
  obtain ⟨Qc, ec, hq⟩ := s_gone h (a0 := (xs (i + 1))) (a1 := (xs (i + 2))) (a2 := (xs (i + 3))) (a3 := (xs (i + 4)))
  refine gz_aload_n C dL_946 rfl ?_
  refine gz_arg C hX hb hbA (jn := 1) rfl (by omega) hL dL_947 dL_948 dL_950 dL_951 dL_952 ?_
  refine gz_arg C hX hb hbA (jn := 2) rfl (by omega) hL dL_953 dL_954 dL_956 dL_957 dL_958 ?_
  refine gz_arg C hX hb hbA (jn := 3) rfl (by omega) hL dL_959 dL_960 dL_962 dL_963 dL_964 ?_
  refine gz_arg C hX hb hbA (jn := 4) rfl (by omega) hL dL_965 dL_966 dL_968 dL_969 dL_970 ?_
  refine gz_V C [.int (xs (i + 1)), .int (xs (i + 2)), .int (xs (i + 3)), .int (xs (i + 4))] [] dL_971 vl_L_128 ⟨(Nat.le_of_ble_eq_true rfl), (Nat.le_of_ble_eq_true rfl), by decide⟩ ec hc.choose_spec hx (by omega) rfl rfl (Nat.le_of_ble_eq_true rfl) (by omega) (by omega) (fun r f1 n1 z => ?_)
  obtain ⟨hc1, hn1, Qm, em, hm⟩ := hq r f1 n1 z
  refine gz_aload_n C dL_974 rfl ?_
  refine gz_arg C hX hb hbA (jn := 1) rfl (by omega) hL dL_975 dL_976 dL_978 dL_979 dL_980 ?_
  refine gz_arg C hX hb hbA (jn := 2) rfl (by omega) hL dL_981 dL_982 dL_984 dL_985 dL_986 ?_
  refine gz_arg C hX hb hbA (jn := 3) rfl (by omega) hL dL_987 dL_988 dL_990 dL_991 dL_992 ?_
  refine gz_arg C hX hb hbA (jn := 4) rfl (by omega) hL dL_993 dL_994 dL_996 dL_997 dL_998 ?_
  refine gz_V C [.int (xs (i + 1)), .int (xs (i + 2)), .int (xs (i + 3)), .int (xs (i + 4))] (r.toList ++ []) dL_999 vl_L_132 ⟨(Nat.le_of_ble_eq_true rfl), (Nat.le_of_ble_eq_true rfl), by decide⟩ em hc1.choose_spec (by omega) (by omega) rfl rfl (cat_le r) (by omega) (by omega) (fun r2 f2 n2 z2 => ?_)
  obtain ⟨v, ⟨v, rfl⟩, rfl, rfl, f3, hs, hj⟩ := hm r2 f2 n2 z2
  refine gz_sim C hs ?_
  refine gz_lcmp C dL_1002 ?_
  exact gz_if_eq C dL_1003 (fun _ => gz_widen C (by omega) (by omega) (kk f3 n2 hj)) (fun z => absurd ((lc_eq v v).mpr rfl) z)
theorem lw_c27 (C : zC G (mL_law nm) p s m args meth c) (X : gX G s) (hX : va_X b L xs s s.heap) (hb : b < s.heap.size) (hbA : ¬ gA G b) (hx : G.2.1 ≤ x) (hi : i + 6 ≤ L) (hL : L ≤ 3072) (hn : x + 61 ≤ n) (h : JJ G f n x) (hk1 : kc + 34 ≤ room_1.cells) (hk2 : ks + 102 ≤ room_1.slots) (kk : ∀ f' n', JJ G f' n' x → Gz G (mL_law nm) room_1 Z p e s m args below meth c (kc + 34) (ks + 102) 1656 (lwLs b x i) [] f' n') : Gz G (mL_law nm) room_1 Z p e s m args below meth c kc ks 1008 (lwLs b x i) [] f n := by
  have hc := h.at_x
  obtain ⟨Qc, ec, hq⟩ := s_dent h (a0 := (xs (i + 1))) (a1 := (xs (i + 2))) (a2 := (xs (i + 3)))
  refine gz_aload_n C dL_1008 rfl ?_
  refine gz_arg C hX hb hbA (jn := 1) rfl (by omega) hL dL_1009 dL_1010 dL_1012 dL_1013 dL_1014 ?_
  refine gz_arg C hX hb hbA (jn := 2) rfl (by omega) hL dL_1015 dL_1016 dL_1018 dL_1019 dL_1020 ?_
  refine gz_arg C hX hb hbA (jn := 3) rfl (by omega) hL dL_1021 dL_1022 dL_1024 dL_1025 dL_1026 ?_
  refine gz_V C [.int (xs (i + 1)), .int (xs (i + 2)), .int (xs (i + 3))] [] dL_1027 vl_L_133 ⟨(Nat.le_of_ble_eq_true rfl), (Nat.le_of_ble_eq_true rfl), by decide⟩ ec hc.choose_spec hx (by omega) rfl rfl (Nat.le_of_ble_eq_true rfl) (by omega) (by omega) (fun r f1 n1 z => ?_)
  obtain ⟨hc1, hn1, Qm, em, hm⟩ := hq r f1 n1 z
  refine gz_aload_n C dL_1030 rfl ?_
  refine gz_arg C hX hb hbA (jn := 1) rfl (by omega) hL dL_1031 dL_1032 dL_1034 dL_1035 dL_1036 ?_
  refine gz_arg C hX hb hbA (jn := 2) rfl (by omega) hL dL_1037 dL_1038 dL_1040 dL_1041 dL_1042 ?_
  refine gz_arg C hX hb hbA (jn := 3) rfl (by omega) hL dL_1043 dL_1044 dL_1046 dL_1047 dL_1048 ?_
  refine gz_V C [.int (xs (i + 1)), .int (xs (i + 2)), .int (xs (i + 3))] (r.toList ++ []) dL_1049 vl_L_137 ⟨(Nat.le_of_ble_eq_true rfl), (Nat.le_of_ble_eq_true rfl), by decide⟩ em hc1.choose_spec (by omega) (by omega) rfl rfl (cat_le r) (by omega) (by omega) (fun r2 f2 n2 z2 => ?_)
  obtain ⟨v, rfl, rfl, f3, hs, hj⟩ := hm r2 f2 n2 z2
  refine gz_sim C hs ?_
  exact gz_icmp_eq C dL_1052 (fun _ => gz_widen C (by omega) (by omega) (kk f3 n2 hj)) (fun z => absurd rfl z)
theorem lw_c28 (C : zC G (mL_law nm) p s m args meth c) (X : gX G s) (hX : va_X b L xs s s.heap) (hb : b < s.heap.size) (hbA : ¬ gA G b) (hx : G.2.1 ≤ x) (hi : i + 6 ≤ L) (hL : L ≤ 3072) (hn : x + 61 ≤ n) (h : JJ G f n x) (hk1 : kc + 34 ≤ room_1.cells) (hk2 : ks + 102 ≤ room_1.slots) (kk : ∀ f' n', JJ G f' n' x → Gz G (mL_law nm) room_1 Z p e s m args below meth c (kc + 34) (ks + 102) 1656 (lwLs b x i) [] f' n') : Gz G (mL_law nm) room_1 Z p e s m args below meth c kc ks 1057 (lwLs b x i) [] f n := by
  have hc := h.at_x
  obtain ⟨Qc, ec, hq⟩ := s_turn h (a0 := (xs (i + 1)))
  refine gz_aload_n C dL_1057 rfl ?_
  refine gz_arg C hX hb hbA (jn := 1) rfl (by omega) hL dL_1058 dL_1059 dL_1061 dL_1062 dL_1063 ?_
  refine gz_V C [.int (xs (i + 1))] [] dL_1064 vl_L_138 ⟨(Nat.le_of_ble_eq_true rfl), (Nat.le_of_ble_eq_true rfl), by decide⟩ ec hc.choose_spec hx (by omega) rfl rfl (Nat.le_of_ble_eq_true rfl) (by omega) (by omega) (fun r f1 n1 z => ?_)
  obtain ⟨hc1, hn1, Qm, em, hm⟩ := hq r f1 n1 z
  refine gz_aload_n C dL_1067 rfl ?_
  refine gz_arg C hX hb hbA (jn := 1) rfl (by omega) hL dL_1068 dL_1069 dL_1071 dL_1072 dL_1073 ?_
  refine gz_V C [.int (xs (i + 1))] (r.toList ++ []) dL_1074 vl_L_141 ⟨(Nat.le_of_ble_eq_true rfl), (Nat.le_of_ble_eq_true rfl), by decide⟩ em hc1.choose_spec (by omega) (by omega) rfl rfl (cat_le r) (by omega) (by omega) (fun r2 f2 n2 z2 => ?_)
  obtain ⟨v, rfl, rfl, f3, hs, hj⟩ := hm r2 f2 n2 z2
  refine gz_sim C hs ?_
  exact gz_icmp_eq C dL_1077 (fun _ => gz_widen C (by omega) (by omega) (kk f3 n2 hj)) (fun z => absurd rfl z)
theorem lw_c29 (C : zC G (mL_law nm) p s m args meth c) (X : gX G s) (hX : va_X b L xs s s.heap) (hb : b < s.heap.size) (hbA : ¬ gA G b) (hx : G.2.1 ≤ x) (hi : i + 6 ≤ L) (hL : L ≤ 3072) (hn : x + 61 ≤ n) (h : JJ G f n x) (hk1 : kc + 34 ≤ room_1.cells) (hk2 : ks + 102 ≤ room_1.slots) (kk : ∀ f' n', JJ G f' n' x → Gz G (mL_law nm) room_1 Z p e s m args below meth c (kc + 34) (ks + 102) 1656 (lwLs b x i) [] f' n') : Gz G (mL_law nm) room_1 Z p e s m args below meth c kc ks 1082 (lwLs b x i) [] f n := by
  have hc := h.at_x
  obtain ⟨Qc, ec, hq⟩ := s_widowed h (a0 := (xs (i + 1)))
  refine gz_aload_n C dL_1082 rfl ?_
  refine gz_arg C hX hb hbA (jn := 1) rfl (by omega) hL dL_1083 dL_1084 dL_1086 dL_1087 dL_1088 ?_
  refine gz_V C [.int (xs (i + 1))] [] dL_1089 vl_L_142 ⟨(Nat.le_of_ble_eq_true rfl), (Nat.le_of_ble_eq_true rfl), by decide⟩ ec hc.choose_spec hx (by omega) rfl rfl (Nat.le_of_ble_eq_true rfl) (by omega) (by omega) (fun r f1 n1 z => ?_)
  obtain ⟨hc1, hn1, Qm, em, hm⟩ := hq r f1 n1 z
  refine gz_aload_n C dL_1092 rfl ?_
  refine gz_arg C hX hb hbA (jn := 1) rfl (by omega) hL dL_1093 dL_1094 dL_1096 dL_1097 dL_1098 ?_
  refine gz_V C [.int (xs (i + 1))] (r.toList ++ []) dL_1099 vl_L_145 ⟨(Nat.le_of_ble_eq_true rfl), (Nat.le_of_ble_eq_true rfl), by decide⟩ em hc1.choose_spec (by omega) (by omega) rfl rfl (cat_le r) (by omega) (by omega) (fun r2 f2 n2 z2 => ?_)
  obtain ⟨v, rfl, rfl, f3, hs, hj⟩ := hm r2 f2 n2 z2
  refine gz_sim C hs ?_
  exact gz_icmp_eq C dL_1102 (fun _ => gz_widen C (by omega) (by omega) (kk f3 n2 hj)) (fun z => absurd rfl z)
theorem lw_c30 (C : zC G (mL_law nm) p s m args meth c) (X : gX G s) (hX : va_X b L xs s s.heap) (hb : b < s.heap.size) (hbA : ¬ gA G b) (hx : G.2.1 ≤ x) (hi : i + 6 ≤ L) (hL : L ≤ 3072) (hn : x + 61 ≤ n) (h : JJ G f n x) (hk1 : kc + 34 ≤ room_1.cells) (hk2 : ks + 102 ≤ room_1.slots) (kk : ∀ f' n', JJ G f' n' x → Gz G (mL_law nm) room_1 Z p e s m args below meth c (kc + 34) (ks + 102) 1656 (lwLs b x i) [] f' n') : Gz G (mL_law nm) room_1 Z p e s m args below meth c kc ks 1107 (lwLs b x i) [] f n := by
  have hc := h.at_x
  obtain ⟨Qc, ec, hq⟩ := s_june h (a0 := (xs (i + 1))) (a1 := (xs (i + 2)))
  refine gz_aload_n C dL_1107 rfl ?_
  refine gz_arg C hX hb hbA (jn := 1) rfl (by omega) hL dL_1108 dL_1109 dL_1111 dL_1112 dL_1113 ?_
  refine gz_arg C hX hb hbA (jn := 2) rfl (by omega) hL dL_1114 dL_1115 dL_1117 dL_1118 dL_1119 ?_
  refine gz_V C [.int (xs (i + 1)), .int (xs (i + 2))] [] dL_1120 vl_L_146 ⟨(Nat.le_of_ble_eq_true rfl), (Nat.le_of_ble_eq_true rfl), by decide⟩ ec hc.choose_spec hx (by omega) rfl rfl (Nat.le_of_ble_eq_true rfl) (by omega) (by omega) (fun r f1 n1 z => ?_)
  obtain ⟨hc1, hn1, Qm, em, hm⟩ := hq r f1 n1 z
  refine gz_aload_n C dL_1123 rfl ?_
  refine gz_arg C hX hb hbA (jn := 1) rfl (by omega) hL dL_1124 dL_1125 dL_1127 dL_1128 dL_1129 ?_
  refine gz_arg C hX hb hbA (jn := 2) rfl (by omega) hL dL_1130 dL_1131 dL_1133 dL_1134 dL_1135 ?_
  refine gz_V C [.int (xs (i + 1)), .int (xs (i + 2))] (r.toList ++ []) dL_1136 vl_L_149 ⟨(Nat.le_of_ble_eq_true rfl), (Nat.le_of_ble_eq_true rfl), by decide⟩ em hc1.choose_spec (by omega) (by omega) rfl rfl (cat_le r) (by omega) (by omega) (fun r2 f2 n2 z2 => ?_)
  obtain ⟨v, rfl, rfl, f3, hs, hj⟩ := hm r2 f2 n2 z2
  refine gz_sim C hs ?_
  exact gz_icmp_eq C dL_1139 (fun _ => gz_widen C (by omega) (by omega) (kk f3 n2 hj)) (fun z => absurd rfl z)
theorem lw_c31 (C : zC G (mL_law nm) p s m args meth c) (X : gX G s) (hX : va_X b L xs s s.heap) (hb : b < s.heap.size) (hbA : ¬ gA G b) (hx : G.2.1 ≤ x) (hi : i + 6 ≤ L) (hL : L ≤ 3072) (hn : x + 61 ≤ n) (h : JJ G f n x) (hk1 : kc + 34 ≤ room_1.cells) (hk2 : ks + 102 ≤ room_1.slots) (kk : ∀ f' n', JJ G f' n' x → Gz G (mL_law nm) room_1 Z p e s m args below meth c (kc + 34) (ks + 102) 1656 (lwLs b x i) [] f' n') : Gz G (mL_law nm) room_1 Z p e s m args below meth c kc ks 1144 (lwLs b x i) [] f n := by
  have hc := h.at_x
  obtain ⟨Qc, ec, hq⟩ := s_forged h (a0 := (xs (i + 1)))
  refine gz_aload_n C dL_1144 rfl ?_
  refine gz_arg C hX hb hbA (jn := 1) rfl (by omega) hL dL_1145 dL_1146 dL_1148 dL_1149 dL_1150 ?_
  refine gz_V C [.int (xs (i + 1))] [] dL_1151 vl_L_150 ⟨(Nat.le_of_ble_eq_true rfl), (Nat.le_of_ble_eq_true rfl), by decide⟩ ec hc.choose_spec hx (by omega) rfl rfl (Nat.le_of_ble_eq_true rfl) (by omega) (by omega) (fun r f1 n1 z => ?_)
  obtain ⟨hc1, hn1, Qm, em, hm⟩ := hq r f1 n1 z
  refine gz_aload_n C dL_1154 rfl ?_
  refine gz_arg C hX hb hbA (jn := 1) rfl (by omega) hL dL_1155 dL_1156 dL_1158 dL_1159 dL_1160 ?_
  refine gz_V C [.int (xs (i + 1))] (r.toList ++ []) dL_1161 vl_L_153 ⟨(Nat.le_of_ble_eq_true rfl), (Nat.le_of_ble_eq_true rfl), by decide⟩ em hc1.choose_spec (by omega) (by omega) rfl rfl (cat_le r) (by omega) (by omega) (fun r2 f2 n2 z2 => ?_)
  obtain ⟨v, rfl, rfl, f3, hs, hj⟩ := hm r2 f2 n2 z2
  refine gz_sim C hs ?_
  exact gz_icmp_eq C dL_1164 (fun _ => gz_widen C (by omega) (by omega) (kk f3 n2 hj)) (fun z => absurd rfl z)
theorem lw_c32 (C : zC G (mL_law nm) p s m args meth c) (X : gX G s) (hX : va_X b L xs s s.heap) (hb : b < s.heap.size) (hbA : ¬ gA G b) (hx : G.2.1 ≤ x) (hi : i + 6 ≤ L) (hL : L ≤ 3072) (hn : x + 61 ≤ n) (h : JJ G f n x) (hk1 : kc + 34 ≤ room_1.cells) (hk2 : ks + 102 ≤ room_1.slots) (kk : ∀ f' n', JJ G f' n' x → Gz G (mL_law nm) room_1 Z p e s m args below meth c (kc + 34) (ks + 102) 1656 (lwLs b x i) [] f' n') : Gz G (mL_law nm) room_1 Z p e s m args below meth c kc ks 1169 (lwLs b x i) [] f n := by
  have hc := h.at_x
  obtain ⟨Qc, ec, hq⟩ := s_judge h (a0 := (xs (i + 1)))
  refine gz_aload_n C dL_1169 rfl ?_
  refine gz_arg C hX hb hbA (jn := 1) rfl (by omega) hL dL_1170 dL_1171 dL_1173 dL_1174 dL_1175 ?_
  refine gz_V C [.int (xs (i + 1))] [] dL_1176 vl_L_154 ⟨(Nat.le_of_ble_eq_true rfl), (Nat.le_of_ble_eq_true rfl), by decide⟩ ec hc.choose_spec hx (by omega) rfl rfl (Nat.le_of_ble_eq_true rfl) (by omega) (by omega) (fun r f1 n1 z => ?_)
  obtain ⟨hc1, hn1, Qm, em, hm⟩ := hq r f1 n1 z
  refine gz_aload_n C dL_1179 rfl ?_
  refine gz_arg C hX hb hbA (jn := 1) rfl (by omega) hL dL_1180 dL_1181 dL_1183 dL_1184 dL_1185 ?_
  refine gz_V C [.int (xs (i + 1))] (r.toList ++ []) dL_1186 vl_L_157 ⟨(Nat.le_of_ble_eq_true rfl), (Nat.le_of_ble_eq_true rfl), by decide⟩ em hc1.choose_spec (by omega) (by omega) rfl rfl (cat_le r) (by omega) (by omega) (fun r2 f2 n2 z2 => ?_)
  obtain ⟨v, rfl, rfl, f3, hs, hj⟩ := hm r2 f2 n2 z2
  refine gz_sim C hs ?_
  exact gz_icmp_eq C dL_1189 (fun _ => gz_widen C (by omega) (by omega) (kk f3 n2 hj)) (fun z => absurd rfl z)
theorem lw_c33 (C : zC G (mL_law nm) p s m args meth c) (X : gX G s) (hX : va_X b L xs s s.heap) (hb : b < s.heap.size) (hbA : ¬ gA G b) (hx : G.2.1 ≤ x) (hi : i + 6 ≤ L) (hL : L ≤ 3072) (hn : x + 61 ≤ n) (h : JJ G f n x) (hk1 : kc + 34 ≤ room_1.cells) (hk2 : ks + 102 ≤ room_1.slots) (kk : ∀ f' n', JJ G f' n' x → Gz G (mL_law nm) room_1 Z p e s m args below meth c (kc + 34) (ks + 102) 1656 (lwLs b x i) [] f' n') : Gz G (mL_law nm) room_1 Z p e s m args below meth c kc ks 1194 (lwLs b x i) [] f n := by
  have hc := h.at_x
  obtain ⟨Qc, ec, hq⟩ := s_terms h (a0 := (xs (i + 1))) (a1 := (xs (i + 2))) (a2 := (xs (i + 3)))
  refine gz_aload_n C dL_1194 rfl ?_
  refine gz_arg C hX hb hbA (jn := 1) rfl (by omega) hL dL_1195 dL_1196 dL_1198 dL_1199 dL_1200 ?_
  refine gz_arg C hX hb hbA (jn := 2) rfl (by omega) hL dL_1201 dL_1202 dL_1204 dL_1205 dL_1206 ?_
  refine gz_arg C hX hb hbA (jn := 3) rfl (by omega) hL dL_1207 dL_1208 dL_1210 dL_1211 dL_1212 ?_
  refine gz_V C [.int (xs (i + 1)), .int (xs (i + 2)), .int (xs (i + 3))] [] dL_1213 vl_L_158 ⟨(Nat.le_of_ble_eq_true rfl), (Nat.le_of_ble_eq_true rfl), by decide⟩ ec hc.choose_spec hx (by omega) rfl rfl (Nat.le_of_ble_eq_true rfl) (by omega) (by omega) (fun r f1 n1 z => ?_)
  obtain ⟨hc1, hn1, Qm, em, hm⟩ := hq r f1 n1 z
  refine gz_aload_n C dL_1216 rfl ?_
  refine gz_arg C hX hb hbA (jn := 1) rfl (by omega) hL dL_1217 dL_1218 dL_1220 dL_1221 dL_1222 ?_
  refine gz_arg C hX hb hbA (jn := 2) rfl (by omega) hL dL_1223 dL_1224 dL_1226 dL_1227 dL_1228 ?_
  refine gz_arg C hX hb hbA (jn := 3) rfl (by omega) hL dL_1229 dL_1230 dL_1232 dL_1233 dL_1234 ?_
  refine gz_V C [.int (xs (i + 1)), .int (xs (i + 2)), .int (xs (i + 3))] (r.toList ++ []) dL_1235 vl_L_161 ⟨(Nat.le_of_ble_eq_true rfl), (Nat.le_of_ble_eq_true rfl), by decide⟩ em hc1.choose_spec (by omega) (by omega) rfl rfl (cat_le r) (by omega) (by omega) (fun r2 f2 n2 z2 => ?_)
  obtain ⟨v, rfl, rfl, f3, hs, hj⟩ := hm r2 f2 n2 z2
  refine gz_sim C hs ?_
  exact gz_icmp_eq C dL_1238 (fun _ => gz_widen C (by omega) (by omega) (kk f3 n2 hj)) (fun z => absurd rfl z)
theorem lw_c34 (C : zC G (mL_law nm) p s m args meth c) (X : gX G s) (hX : va_X b L xs s s.heap) (hb : b < s.heap.size) (hbA : ¬ gA G b) (hx : G.2.1 ≤ x) (hi : i + 6 ≤ L) (hL : L ≤ 3072) (hn : x + 61 ≤ n) (h : JJ G f n x) (hk1 : kc + 34 ≤ room_1.cells) (hk2 : ks + 102 ≤ room_1.slots) (kk : ∀ f' n', JJ G f' n' x → Gz G (mL_law nm) room_1 Z p e s m args below meth c (kc + 34) (ks + 102) 1656 (lwLs b x i) [] f' n') : Gz G (mL_law nm) room_1 Z p e s m args below meth c kc ks 1243 (lwLs b x i) [] f n := by
  have hc := h.at_x
  obtain ⟨Qc, ec, hq⟩ := s_image h
  refine gz_aload_n C dL_1243 rfl ?_
  refine gz_V C [] [] dL_1244 vl_L_162 ⟨(Nat.le_of_ble_eq_true rfl), (Nat.le_of_ble_eq_true rfl), by decide⟩ ec hc.choose_spec hx (by omega) rfl rfl (Nat.le_of_ble_eq_true rfl) (by omega) (by omega) (fun r f1 n1 z => ?_)
  obtain ⟨hc1, hn1, Qm, em, hm⟩ := hq r f1 n1 z
  refine gz_aload_n C dL_1247 rfl ?_
  refine gz_V C [] (r.toList ++ []) dL_1248 vl_L_165 ⟨(Nat.le_of_ble_eq_true rfl), (Nat.le_of_ble_eq_true rfl), by decide⟩ em hc1.choose_spec (by omega) (by omega) rfl rfl (cat_le r) (by omega) (by omega) (fun r2 f2 n2 z2 => ?_)
  obtain ⟨v, rfl, rfl, f3, hs, hj⟩ := hm r2 f2 n2 z2
  refine gz_sim C hs ?_
  exact gz_icmp_eq C dL_1251 (fun _ => gz_widen C (by omega) (by omega) (kk f3 n2 hj)) (fun z => absurd rfl z)
theorem lw_c35 (C : zC G (mL_law nm) p s m args meth c) (X : gX G s) (hX : va_X b L xs s s.heap) (hb : b < s.heap.size) (hbA : ¬ gA G b) (hx : G.2.1 ≤ x) (hi : i + 6 ≤ L) (hL : L ≤ 3072) (hn : x + 61 ≤ n) (h : JJ G f n x) (hk1 : kc + 34 ≤ room_1.cells) (hk2 : ks + 102 ≤ room_1.slots) (kk : ∀ f' n', JJ G f' n' x → Gz G (mL_law nm) room_1 Z p e s m args below meth c (kc + 34) (ks + 102) 1656 (lwLs b x i) [] f' n') : Gz G (mL_law nm) room_1 Z p e s m args below meth c kc ks 1256 (lwLs b x i) [] f n := by
  have hc := h.at_x
  obtain ⟨Qc, ec, hq⟩ := s_restore h
  refine gz_aload_n C dL_1256 rfl ?_
  refine gz_V C [] [] dL_1257 vl_L_166 ⟨(Nat.le_of_ble_eq_true rfl), (Nat.le_of_ble_eq_true rfl), by decide⟩ ec hc.choose_spec hx (by omega) rfl rfl (Nat.le_of_ble_eq_true rfl) (by omega) (by omega) (fun r f1 n1 z => ?_)
  obtain ⟨hc1, hn1, Qm, em, hm⟩ := hq r f1 n1 z
  refine gz_aload_n C dL_1260 rfl ?_
  refine gz_V C [] (r.toList ++ []) dL_1261 vl_L_169 ⟨(Nat.le_of_ble_eq_true rfl), (Nat.le_of_ble_eq_true rfl), by decide⟩ em hc1.choose_spec (by omega) (by omega) rfl rfl (cat_le r) (by omega) (by omega) (fun r2 f2 n2 z2 => ?_)
  obtain ⟨v, rfl, rfl, f3, hs, hj⟩ := hm r2 f2 n2 z2
  refine gz_sim C hs ?_
  exact gz_icmp_eq C dL_1264 (fun _ => gz_widen C (by omega) (by omega) (kk f3 n2 hj)) (fun z => absurd rfl z)
theorem lw_c36 (C : zC G (mL_law nm) p s m args meth c) (X : gX G s) (hX : va_X b L xs s s.heap) (hb : b < s.heap.size) (hbA : ¬ gA G b) (hx : G.2.1 ≤ x) (hi : i + 6 ≤ L) (hL : L ≤ 3072) (hn : x + 61 ≤ n) (h : JJ G f n x) (hk1 : kc + 34 ≤ room_1.cells) (hk2 : ks + 102 ≤ room_1.slots) (kk : ∀ f' n', JJ G f' n' x → Gz G (mL_law nm) room_1 Z p e s m args below meth c (kc + 34) (ks + 102) 1656 (lwLs b x i) [] f' n') : Gz G (mL_law nm) room_1 Z p e s m args below meth c kc ks 1269 (lwLs b x i) [] f n := by
  have hc := h.at_x
  obtain ⟨Qc, ec, hq⟩ := s_count h (a0 := (xs (i + 1)))
  refine gz_aload_n C dL_1269 rfl ?_
  refine gz_arg C hX hb hbA (jn := 1) rfl (by omega) hL dL_1270 dL_1271 dL_1273 dL_1274 dL_1275 ?_
  refine gz_V C [.int (xs (i + 1))] [] dL_1276 vl_L_170 ⟨(Nat.le_of_ble_eq_true rfl), (Nat.le_of_ble_eq_true rfl), by decide⟩ ec hc.choose_spec hx (by omega) rfl rfl (Nat.le_of_ble_eq_true rfl) (by omega) (by omega) (fun r f1 n1 z => ?_)
  obtain ⟨hc1, hn1, Qm, em, hm⟩ := hq r f1 n1 z
  refine gz_aload_n C dL_1279 rfl ?_
  refine gz_arg C hX hb hbA (jn := 1) rfl (by omega) hL dL_1280 dL_1281 dL_1283 dL_1284 dL_1285 ?_
  refine gz_V C [.int (xs (i + 1))] (r.toList ++ []) dL_1286 vl_L_173 ⟨(Nat.le_of_ble_eq_true rfl), (Nat.le_of_ble_eq_true rfl), by decide⟩ em hc1.choose_spec (by omega) (by omega) rfl rfl (cat_le r) (by omega) (by omega) (fun r2 f2 n2 z2 => ?_)
  obtain ⟨v, rfl, rfl, f3, hs, hj⟩ := hm r2 f2 n2 z2
  refine gz_sim C hs ?_
  exact gz_icmp_eq C dL_1289 (fun _ => gz_widen C (by omega) (by omega) (kk f3 n2 hj)) (fun z => absurd rfl z)
theorem lw_c37 (C : zC G (mL_law nm) p s m args meth c) (X : gX G s) (hX : va_X b L xs s s.heap) (hb : b < s.heap.size) (hbA : ¬ gA G b) (hx : G.2.1 ≤ x) (hi : i + 6 ≤ L) (hL : L ≤ 3072) (hn : x + 61 ≤ n) (h : JJ G f n x) (hk1 : kc + 34 ≤ room_1.cells) (hk2 : ks + 102 ≤ room_1.slots) (kk : ∀ f' n', JJ G f' n' x → Gz G (mL_law nm) room_1 Z p e s m args below meth c (kc + 34) (ks + 102) 1656 (lwLs b x i) [] f' n') : Gz G (mL_law nm) room_1 Z p e s m args below meth c kc ks 1294 (lwLs b x i) [] f n := by
  have hc := h.at_x
  obtain ⟨Qc, ec, hq⟩ := s_all h
  refine gz_aload_n C dL_1294 rfl ?_
  refine gz_V C [] [] dL_1295 vl_L_174 ⟨(Nat.le_of_ble_eq_true rfl), (Nat.le_of_ble_eq_true rfl), by decide⟩ ec hc.choose_spec hx (by omega) rfl rfl (Nat.le_of_ble_eq_true rfl) (by omega) (by omega) (fun r f1 n1 z => ?_)
  obtain ⟨hc1, hn1, Qm, em, hm⟩ := hq r f1 n1 z
  refine gz_aload_n C dL_1298 rfl ?_
  refine gz_V C [] (r.toList ++ []) dL_1299 vl_L_177 ⟨(Nat.le_of_ble_eq_true rfl), (Nat.le_of_ble_eq_true rfl), by decide⟩ em hc1.choose_spec (by omega) (by omega) rfl rfl (cat_le r) (by omega) (by omega) (fun r2 f2 n2 z2 => ?_)
  obtain ⟨v, rfl, rfl, f3, hs, hj⟩ := hm r2 f2 n2 z2
  refine gz_sim C hs ?_
  exact gz_icmp_eq C dL_1302 (fun _ => gz_widen C (by omega) (by omega) (kk f3 n2 hj)) (fun z => absurd rfl z)
theorem lw_c38 (C : zC G (mL_law nm) p s m args meth c) (X : gX G s) (hX : va_X b L xs s s.heap) (hb : b < s.heap.size) (hbA : ¬ gA G b) (hx : G.2.1 ≤ x) (hi : i + 6 ≤ L) (hL : L ≤ 3072) (hn : x + 61 ≤ n) (h : JJ G f n x) (hk1 : kc + 34 ≤ room_1.cells) (hk2 : ks + 102 ≤ room_1.slots) (kk : ∀ f' n', JJ G f' n' x → Gz G (mL_law nm) room_1 Z p e s m args below meth c (kc + 34) (ks + 102) 1656 (lwLs b x i) [] f' n') : Gz G (mL_law nm) room_1 Z p e s m args below meth c kc ks 1307 (lwLs b x i) [] f n := by
  have hc := h.at_x
  obtain ⟨Qc, ec, hq⟩ := s_keep h (a0 := (xs (i + 1))) (a1 := (xs (i + 2))) (a2 := (xs (i + 3))) (a3 := (xs (i + 4)))
  refine gz_aload_n C dL_1307 rfl ?_
  refine gz_arg C hX hb hbA (jn := 1) rfl (by omega) hL dL_1308 dL_1309 dL_1311 dL_1312 dL_1313 ?_
  refine gz_arg C hX hb hbA (jn := 2) rfl (by omega) hL dL_1314 dL_1315 dL_1317 dL_1318 dL_1319 ?_
  refine gz_arg C hX hb hbA (jn := 3) rfl (by omega) hL dL_1320 dL_1321 dL_1323 dL_1324 dL_1325 ?_
  refine gz_arg C hX hb hbA (jn := 4) rfl (by omega) hL dL_1326 dL_1327 dL_1329 dL_1330 dL_1331 ?_
  refine gz_V C [.int (xs (i + 1)), .int (xs (i + 2)), .int (xs (i + 3)), .int (xs (i + 4))] [] dL_1332 vl_L_178 ⟨(Nat.le_of_ble_eq_true rfl), (Nat.le_of_ble_eq_true rfl), by decide⟩ ec hc.choose_spec hx (by omega) rfl rfl (Nat.le_of_ble_eq_true rfl) (by omega) (by omega) (fun r f1 n1 z => ?_)
  obtain ⟨hc1, hn1, Qm, em, hm⟩ := hq r f1 n1 z
  refine gz_aload_n C dL_1335 rfl ?_
  refine gz_arg C hX hb hbA (jn := 1) rfl (by omega) hL dL_1336 dL_1337 dL_1339 dL_1340 dL_1341 ?_
  refine gz_arg C hX hb hbA (jn := 2) rfl (by omega) hL dL_1342 dL_1343 dL_1345 dL_1346 dL_1347 ?_
  refine gz_arg C hX hb hbA (jn := 3) rfl (by omega) hL dL_1348 dL_1349 dL_1351 dL_1352 dL_1353 ?_
  refine gz_arg C hX hb hbA (jn := 4) rfl (by omega) hL dL_1354 dL_1355 dL_1357 dL_1358 dL_1359 ?_
  refine gz_V C [.int (xs (i + 1)), .int (xs (i + 2)), .int (xs (i + 3)), .int (xs (i + 4))] (r.toList ++ []) dL_1360 vl_L_182 ⟨(Nat.le_of_ble_eq_true rfl), (Nat.le_of_ble_eq_true rfl), by decide⟩ em hc1.choose_spec (by omega) (by omega) rfl rfl (cat_le r) (by omega) (by omega) (fun r2 f2 n2 z2 => ?_)
  obtain ⟨v, rfl, rfl, f3, hs, hj⟩ := hm r2 f2 n2 z2
  refine gz_sim C hs ?_
  exact gz_icmp_eq C dL_1363 (fun _ => gz_widen C (by omega) (by omega) (kk f3 n2 hj)) (fun z => absurd rfl z)
theorem lw_c39 (C : zC G (mL_law nm) p s m args meth c) (X : gX G s) (hX : va_X b L xs s s.heap) (hb : b < s.heap.size) (hbA : ¬ gA G b) (hx : G.2.1 ≤ x) (hi : i + 6 ≤ L) (hL : L ≤ 3072) (hn : x + 61 ≤ n) (h : JJ G f n x) (hk1 : kc + 34 ≤ room_1.cells) (hk2 : ks + 102 ≤ room_1.slots) (kk : ∀ f' n', JJ G f' n' x → Gz G (mL_law nm) room_1 Z p e s m args below meth c (kc + 34) (ks + 102) 1656 (lwLs b x i) [] f' n') : Gz G (mL_law nm) room_1 Z p e s m args below meth c kc ks 1368 (lwLs b x i) [] f n := by
  have hc := h.at_x
  obtain ⟨Qc, ec, hq⟩ := s_row h (a0 := (xs (i + 1))) (a1 := (xs (i + 2))) (a2 := (xs (i + 3)))
  refine gz_aload_n C dL_1368 rfl ?_
  refine gz_arg C hX hb hbA (jn := 1) rfl (by omega) hL dL_1369 dL_1370 dL_1372 dL_1373 dL_1374 ?_
  refine gz_arg C hX hb hbA (jn := 2) rfl (by omega) hL dL_1375 dL_1376 dL_1378 dL_1379 dL_1380 ?_
  refine gz_arg C hX hb hbA (jn := 3) rfl (by omega) hL dL_1381 dL_1382 dL_1384 dL_1385 dL_1386 ?_
  refine gz_V C [.int (xs (i + 1)), .int (xs (i + 2)), .int (xs (i + 3))] [] dL_1387 vl_L_183 ⟨(Nat.le_of_ble_eq_true rfl), (Nat.le_of_ble_eq_true rfl), by decide⟩ ec hc.choose_spec hx (by omega) rfl rfl (Nat.le_of_ble_eq_true rfl) (by omega) (by omega) (fun r f1 n1 z => ?_)
  obtain ⟨hc1, hn1, Qm, em, hm⟩ := hq r f1 n1 z
  refine gz_aload_n C dL_1390 rfl ?_
  refine gz_arg C hX hb hbA (jn := 1) rfl (by omega) hL dL_1391 dL_1392 dL_1394 dL_1395 dL_1396 ?_
  refine gz_arg C hX hb hbA (jn := 2) rfl (by omega) hL dL_1397 dL_1398 dL_1400 dL_1401 dL_1402 ?_
  refine gz_arg C hX hb hbA (jn := 3) rfl (by omega) hL dL_1403 dL_1404 dL_1406 dL_1407 dL_1408 ?_
  refine gz_V C [.int (xs (i + 1)), .int (xs (i + 2)), .int (xs (i + 3))] (r.toList ++ []) dL_1409 vl_L_186 ⟨(Nat.le_of_ble_eq_true rfl), (Nat.le_of_ble_eq_true rfl), by decide⟩ em hc1.choose_spec (by omega) (by omega) rfl rfl (cat_le r) (by omega) (by omega) (fun r2 f2 n2 z2 => ?_)
  obtain ⟨v, rfl, rfl, f3, hs, hj⟩ := hm r2 f2 n2 z2
  refine gz_sim C hs ?_
  exact gz_icmp_eq C dL_1412 (fun _ => gz_widen C (by omega) (by omega) (kk f3 n2 hj)) (fun z => absurd rfl z)
theorem lw_c40 (C : zC G (mL_law nm) p s m args meth c) (X : gX G s) (hX : va_X b L xs s s.heap) (hb : b < s.heap.size) (hbA : ¬ gA G b) (hx : G.2.1 ≤ x) (hi : i + 6 ≤ L) (hL : L ≤ 3072) (hn : x + 61 ≤ n) (h : JJ G f n x) (hk1 : kc + 34 ≤ room_1.cells) (hk2 : ks + 102 ≤ room_1.slots) (kk : ∀ f' n', JJ G f' n' x → Gz G (mL_law nm) room_1 Z p e s m args below meth c (kc + 34) (ks + 102) 1656 (lwLs b x i) [] f' n') : Gz G (mL_law nm) room_1 Z p e s m args below meth c kc ks 1417 (lwLs b x i) [] f n := by
  have hc := h.at_x
  obtain ⟨Qc, ec, hq⟩ := s_put h (a0 := (xs (i + 1))) (a1 := (xs (i + 2))) (a2 := (xs (i + 3)))
  refine gz_aload_n C dL_1417 rfl ?_
  refine gz_arg C hX hb hbA (jn := 1) rfl (by omega) hL dL_1418 dL_1419 dL_1421 dL_1422 dL_1423 ?_
  refine gz_arg C hX hb hbA (jn := 2) rfl (by omega) hL dL_1424 dL_1425 dL_1427 dL_1428 dL_1429 ?_
  refine gz_arg C hX hb hbA (jn := 3) rfl (by omega) hL dL_1430 dL_1431 dL_1433 dL_1434 dL_1435 ?_
  refine gz_V C [.int (xs (i + 1)), .int (xs (i + 2)), .int (xs (i + 3))] [] dL_1436 vl_L_187 ⟨(Nat.le_of_ble_eq_true rfl), (Nat.le_of_ble_eq_true rfl), by decide⟩ ec hc.choose_spec hx (by omega) rfl rfl (Nat.le_of_ble_eq_true rfl) (by omega) (by omega) (fun r f1 n1 z => ?_)
  obtain ⟨hc1, hn1, Qm, em, hm⟩ := hq r f1 n1 z
  refine gz_aload_n C dL_1439 rfl ?_
  refine gz_arg C hX hb hbA (jn := 1) rfl (by omega) hL dL_1440 dL_1441 dL_1443 dL_1444 dL_1445 ?_
  refine gz_arg C hX hb hbA (jn := 2) rfl (by omega) hL dL_1446 dL_1447 dL_1449 dL_1450 dL_1451 ?_
  refine gz_arg C hX hb hbA (jn := 3) rfl (by omega) hL dL_1452 dL_1453 dL_1455 dL_1456 dL_1457 ?_
  refine gz_V C [.int (xs (i + 1)), .int (xs (i + 2)), .int (xs (i + 3))] (r.toList ++ []) dL_1458 vl_L_190 ⟨(Nat.le_of_ble_eq_true rfl), (Nat.le_of_ble_eq_true rfl), by decide⟩ em hc1.choose_spec (by omega) (by omega) rfl rfl (cat_le r) (by omega) (by omega) (fun r2 f2 n2 z2 => ?_)
  obtain ⟨v, rfl, rfl, f3, hs, hj⟩ := hm r2 f2 n2 z2
  refine gz_sim C hs ?_
  exact gz_icmp_eq C dL_1461 (fun _ => gz_widen C (by omega) (by omega) (kk f3 n2 hj)) (fun z => absurd rfl z)
theorem lw_c42 (C : zC G (mL_law nm) p s m args meth c) (X : gX G s) (hX : va_X b L xs s s.heap) (hb : b < s.heap.size) (hbA : ¬ gA G b) (hx : G.2.1 ≤ x) (hi : i + 6 ≤ L) (hL : L ≤ 3072) (hn : x + 61 ≤ n) (h : JJ G f n x) (hk1 : kc + 34 ≤ room_1.cells) (hk2 : ks + 102 ≤ room_1.slots) (kk : ∀ f' n', JJ G f' n' x → Gz G (mL_law nm) room_1 Z p e s m args below meth c (kc + 34) (ks + 102) 1656 (lwLs b x i) [] f' n') : Gz G (mL_law nm) room_1 Z p e s m args below meth c kc ks 1533 (lwLs b x i) [] f n := by
  have hc := h.at_x
  obtain ⟨Qc, ec, hq⟩ := s_copy h (a0 := (xs (i + 1))) (a1 := (xs (i + 2))) (a2 := (xs (i + 3))) (a3 := (xs (i + 4))) (a4 := (xs (i + 5)))
  refine gz_aload_n C dL_1533 rfl ?_
  refine gz_arg C hX hb hbA (jn := 1) rfl (by omega) hL dL_1534 dL_1535 dL_1537 dL_1538 dL_1539 ?_
  refine gz_arg C hX hb hbA (jn := 2) rfl (by omega) hL dL_1540 dL_1541 dL_1543 dL_1544 dL_1545 ?_
  refine gz_arg C hX hb hbA (jn := 3) rfl (by omega) hL dL_1546 dL_1547 dL_1549 dL_1550 dL_1551 ?_
  refine gz_arg C hX hb hbA (jn := 4) rfl (by omega) hL dL_1552 dL_1553 dL_1555 dL_1556 dL_1557 ?_
  refine gz_arg C hX hb hbA (jn := 5) rfl (by omega) hL dL_1558 dL_1559 dL_1561 dL_1562 dL_1563 ?_
  refine gz_V C [.int (xs (i + 1)), .int (xs (i + 2)), .int (xs (i + 3)), .int (xs (i + 4)), .int (xs (i + 5))] [] dL_1564 vl_L_200 ⟨(Nat.le_of_ble_eq_true rfl), (Nat.le_of_ble_eq_true rfl), by decide⟩ ec hc.choose_spec hx (by omega) rfl rfl (Nat.le_of_ble_eq_true rfl) (by omega) (by omega) (fun r f1 n1 z => ?_)
  obtain ⟨hc1, hn1, Qm, em, hm⟩ := hq r f1 n1 z
  refine gz_aload_n C dL_1567 rfl ?_
  refine gz_arg C hX hb hbA (jn := 1) rfl (by omega) hL dL_1568 dL_1569 dL_1571 dL_1572 dL_1573 ?_
  refine gz_arg C hX hb hbA (jn := 2) rfl (by omega) hL dL_1574 dL_1575 dL_1577 dL_1578 dL_1579 ?_
  refine gz_arg C hX hb hbA (jn := 3) rfl (by omega) hL dL_1580 dL_1581 dL_1583 dL_1584 dL_1585 ?_
  refine gz_arg C hX hb hbA (jn := 4) rfl (by omega) hL dL_1586 dL_1587 dL_1589 dL_1590 dL_1591 ?_
  refine gz_arg C hX hb hbA (jn := 5) rfl (by omega) hL dL_1592 dL_1593 dL_1595 dL_1596 dL_1597 ?_
  refine gz_V C [.int (xs (i + 1)), .int (xs (i + 2)), .int (xs (i + 3)), .int (xs (i + 4)), .int (xs (i + 5))] (r.toList ++ []) dL_1598 vl_L_204 ⟨(Nat.le_of_ble_eq_true rfl), (Nat.le_of_ble_eq_true rfl), by decide⟩ em hc1.choose_spec (by omega) (by omega) rfl rfl (cat_le r) (by omega) (by omega) (fun r2 f2 n2 z2 => ?_)
  obtain ⟨v, rfl, rfl, f3, hs, hj⟩ := hm r2 f2 n2 z2
  refine gz_sim C hs ?_
  exact gz_icmp_eq C dL_1601 (fun _ => gz_widen C (by omega) (by omega) (kk f3 n2 hj)) (fun z => absurd rfl z)
theorem lw_c43 (C : zC G (mL_law nm) p s m args meth c) (X : gX G s) (hX : va_X b L xs s s.heap) (hb : b < s.heap.size) (hbA : ¬ gA G b) (hx : G.2.1 ≤ x) (hi : i + 6 ≤ L) (hL : L ≤ 3072) (hn : x + 61 ≤ n) (h : JJ G f n x) (hk1 : kc + 34 ≤ room_1.cells) (hk2 : ks + 102 ≤ room_1.slots) (kk : ∀ f' n', JJ G f' n' x → Gz G (mL_law nm) room_1 Z p e s m args below meth c (kc + 34) (ks + 102) 1656 (lwLs b x i) [] f' n') : Gz G (mL_law nm) room_1 Z p e s m args below meth c kc ks 1606 (lwLs b x i) [] f n := by
  have hc := h.at_x
  obtain ⟨Qc, ec, hq⟩ := s_cost h (a0 := (xs (i + 1)))
  refine gz_aload_n C dL_1606 rfl ?_
  refine gz_arg C hX hb hbA (jn := 1) rfl (by omega) hL dL_1607 dL_1608 dL_1610 dL_1611 dL_1612 ?_
  refine gz_V C [.int (xs (i + 1))] [] dL_1613 vl_L_205 ⟨(Nat.le_of_ble_eq_true rfl), (Nat.le_of_ble_eq_true rfl), by decide⟩ ec hc.choose_spec hx (by omega) rfl rfl (Nat.le_of_ble_eq_true rfl) (by omega) (by omega) (fun r f1 n1 z => ?_)
  obtain ⟨hc1, hn1, Qm, em, hm⟩ := hq r f1 n1 z
  refine gz_aload_n C dL_1616 rfl ?_
  refine gz_arg C hX hb hbA (jn := 1) rfl (by omega) hL dL_1617 dL_1618 dL_1620 dL_1621 dL_1622 ?_
  refine gz_V C [.int (xs (i + 1))] (r.toList ++ []) dL_1623 vl_L_208 ⟨(Nat.le_of_ble_eq_true rfl), (Nat.le_of_ble_eq_true rfl), by decide⟩ em hc1.choose_spec (by omega) (by omega) rfl rfl (cat_le r) (by omega) (by omega) (fun r2 f2 n2 z2 => ?_)
  obtain ⟨v, rfl, rfl, f3, hs, hj⟩ := hm r2 f2 n2 z2
  refine gz_sim C hs ?_
  exact gz_icmp_eq C dL_1626 (fun _ => gz_widen C (by omega) (by omega) (kk f3 n2 hj)) (fun z => absurd rfl z)
theorem lw_c44 (C : zC G (mL_law nm) p s m args meth c) (X : gX G s) (hX : va_X b L xs s s.heap) (hb : b < s.heap.size) (hbA : ¬ gA G b) (hx : G.2.1 ≤ x) (hi : i + 6 ≤ L) (hL : L ≤ 3072) (hn : x + 61 ≤ n) (h : JJ G f n x) (hk1 : kc + 34 ≤ room_1.cells) (hk2 : ks + 102 ≤ room_1.slots) (kk : ∀ f' n', JJ G f' n' x → Gz G (mL_law nm) room_1 Z p e s m args below meth c (kc + 34) (ks + 102) 1656 (lwLs b x i) [] f' n') : Gz G (mL_law nm) room_1 Z p e s m args below meth c kc ks 1631 (lwLs b x i) [] f n := by
  have hc := h.at_x
  obtain ⟨Qc, ec, hq⟩ := s_toss h (a0 := (xs (i + 1)))
  refine gz_aload_n C dL_1631 rfl ?_
  refine gz_arg C hX hb hbA (jn := 1) rfl (by omega) hL dL_1632 dL_1633 dL_1635 dL_1636 dL_1637 ?_
  refine gz_VH C X (y2 := mX11_toss) (np := 1) (q := vwCl[11]) [.int (xs (i + 1))] [] dL_1638 (ci := 11) wm_942 (wm_1) ⟨by decide, by decide, by decide +kernel⟩ (wm_939) (wm_940) rfl (wm_941) ⟨(Nat.le_of_ble_eq_true rfl), (Nat.le_of_ble_eq_true rfl), by decide⟩ ec hc.choose_spec hx (by omega) rfl rfl (Nat.le_of_ble_eq_true rfl) (by omega) (by omega) (fun r f1 n1 z => ?_)
  obtain ⟨hc1, hn1, Qm, em, hm⟩ := hq r f1 n1 z
  refine gz_aload_n C dL_1641 rfl ?_
  refine gz_arg C hX hb hbA (jn := 1) rfl (by omega) hL dL_1642 dL_1643 dL_1645 dL_1646 dL_1647 ?_
  refine gz_V C [.int (xs (i + 1))] (r.toList ++ []) dL_1648 vl_L_212 ⟨(Nat.le_of_ble_eq_true rfl), (Nat.le_of_ble_eq_true rfl), by decide⟩ em hc1.choose_spec (by omega) (by omega) rfl rfl (cat_le r) (by omega) (by omega) (fun r2 f2 n2 z2 => ?_)
  obtain ⟨v, ⟨v, rfl⟩, rfl, rfl, f3, hs, hj⟩ := hm r2 f2 n2 z2
  refine gz_sim C hs ?_
  exact gz_icmp_eq C dL_1651 (fun _ => gz_widen C (by omega) (by omega) (kk f3 n2 hj)) (fun z => absurd rfl z)
theorem gz_arg2 (C : zC G (mL_law nm) p s m args meth c) (hX : va_X b L xs s s.heap) (hb : b < s.heap.size) (hbA : ¬ gA G b) {k : Int32} {jn : Nat} {ji : Int} (hj : Int32.ofInt ji = nI jn) (hi : i + jn < L) (hL : L ≤ 3072) (d1 : gd (mL_law nm) pc (.aload_n 0) 1 pc2) (d2 : gd (mL_law nm) pc2 (.iload 4) 2 pc3) (d3 : gd (mL_law nm) pc3 (.iconst ji) 1 pc4) (d4 : gd (mL_law nm) pc4 .iadd 1 pc5) (d5 : gd (mL_law nm) pc5 .iaload 1 pc6)
    (kk : Gz G (mL_law nm) room_1 Z p e s m args below meth c kc ks pc6 [some (.ref b), some (.ref x), some (.ref (x + 35)), some (.ref (x + 60)), some (.int (nI i)), some (.int k), none, none] (.int (xs (i + jn)) :: st) f n) : Gz G (mL_law nm) room_1 Z p e s m args below meth c kc ks pc [some (.ref b), some (.ref x), some (.ref (x + 35)), some (.ref (x + 60)), some (.int (nI i)), some (.int k), none, none] st f n := by
  refine gz_aload_n C d1 rfl ?_
  refine gz_iload C d2 rfl ?_
  refine gz_iconst C d3 hj ?_
  refine gz_iadd C d4 ?_
  refine gz_tp C (nI_add i jn) ?_
  obtain ⟨hd, rfl⟩ := d5
  intro H locs la hP hS hl
  have hc : (nI (i + jn)).toNatClampNeg = i + jn := nI_clamp (by omega)
  refine va_sld C.1 C.2.1 hX hb hbA hS (vp_in_nI hi (by omega)) hd ?_
  rw [hc]
  exact kk H locs la hP hS hl
theorem lw_c41 (C : zC G (mL_law nm) p s m args meth c) (X : gX G s) (hX : va_X b L xs s s.heap) (hb : b < s.heap.size) (hbA : ¬ gA G b) (hx : G.2.1 ≤ x) (hi : i + 6 ≤ L) (hL : L ≤ 3072) (hn : x + 61 ≤ n) (h : JJ G f n x) (hk1 : kc + 34 ≤ room_1.cells) (hk2 : ks + 102 ≤ room_1.slots) (kk : ∀ f' n', JJ G f' n' x → Gz G (mL_law nm) room_1 Z p e s m args below meth c (kc + 34) (ks + 102) 1656 (lwLs b x i) [] f' n') : Gz G (mL_law nm) room_1 Z p e s m args below meth c kc ks 1466 (lwLs b x i) [] f n := by
  have hc := h.at_x
  obtain ⟨Qc, ec, hq⟩ := s_element h (a0 := xs (i + 1)) (a1 := xs (i + 2))
  refine gz_aload_n C dL_1466 rfl ?_
  refine gz_arg C hX hb hbA (jn := 1) rfl (by omega) hL dL_1467 dL_1468 dL_1470 dL_1471 dL_1472 ?_
  refine gz_arg C hX hb hbA (jn := 2) rfl (by omega) hL dL_1473 dL_1474 dL_1476 dL_1477 dL_1478 ?_
  refine gz_aload_n C dL_1479 rfl ?_
  refine gz_SH C X (y2 := mL_element) (np := 4) [.ref x, .int (xs (i + 1)), .int (xs (i + 2)), .ref (x + 60)] [] dL_1480 wm_1066 (wm_0) ⟨by decide, by decide, by decide +kernel⟩ (wm_1064) (wm_1065) ⟨(Nat.le_of_ble_eq_true rfl), (Nat.le_of_ble_eq_true rfl), by decide⟩ ec rfl rfl (Nat.le_of_ble_eq_true rfl) (by omega) (by omega) (fun r f1 n1 z => ?_)
  obtain ⟨k, rfl, hc1, hn1, Qm, em, hm⟩ := hq r f1 n1 z
  refine gz_istore C (ls' := [some (.ref b), some (.ref x), some (.ref (x + 35)), some (.ref (x + 60)), some (.int (nI i)), some (.int k), none, none]) dL_1483 ⟨Nat.le_of_ble_eq_true rfl, rfl, rfl⟩ ?_
  refine gz_aload_n C dL_1485 rfl ?_
  refine gz_arg2 C hX hb hbA (jn := 1) rfl (by omega) hL dL_1486 dL_1487 dL_1489 dL_1490 dL_1491 ?_
  refine gz_arg2 C hX hb hbA (jn := 2) rfl (by omega) hL dL_1492 dL_1493 dL_1495 dL_1496 dL_1497 ?_
  refine gz_V C [.int (xs (i + 1)), .int (xs (i + 2))] [] dL_1498 vl_L_196 ⟨(Nat.le_of_ble_eq_true rfl), (Nat.le_of_ble_eq_true rfl), by decide⟩ em hc1.choose_spec (by omega) (by omega) rfl rfl (Nat.le_of_ble_eq_true rfl) (by omega) (by omega) (fun r2 f2 n2 z2 => ?_)
  obtain ⟨hc2, hn2, bL, g, rfl, et, ho, hv, hj⟩ := hm r2 f2 n2 z2
  refine gz_lstore C (ls' := [some (.ref b), some (.ref x), some (.ref (x + 35)), some (.ref (x + 60)), some (.int (nI i)), some (.int k), some (.long bL), none]) dL_1501 ⟨Nat.le_of_ble_eq_true rfl, rfl, rfl⟩ ?_
  refine gz_aload_n C dL_1503 rfl ?_
  refine gz_Vr C [] [] dL_1504 vl_L_197 ⟨(Nat.le_of_ble_eq_true rfl), (Nat.le_of_ble_eq_true rfl), by decide⟩ et hc2.choose_spec (by omega) (by omega) rfl rfl (Nat.le_of_ble_eq_true rfl) (by omega) (by omega) ?_
  refine gz_iload C dL_1507 rfl ?_
  refine gz_icmp_eq C dL_1509 (fun _ => ?_) (fun z => absurd rfl z)
  refine gz_iload C dL_1514 rfl ?_
  have fin : Gz G (mL_law nm) room_1 Z p e s m args below meth c (kc + 34) (ks + 102) 1656 [some (.ref b), some (.ref x), some (.ref (x + 35)), some (.ref (x + 60)), some (.int (nI i)), some (.int k), some (.long bL), none] [] f2 n2 := gz_weak C (ls' := lwLs b x i) ⟨rfl, rfl, rfl, rfl, rfl, trivial⟩ (kk f2 n2 hj)
  refine gz_if_ne C dL_1516 (fun _ => ?_) (fun k0 => ?_)
  · refine gz_goto C dL_1530 ?_
    exact gz_widen C (by omega) (by omega) fin
  refine gz_aload_n C dL_1519 rfl ?_
  refine gz_iconst C (v := 0) dL_1520 rfl ?_
  refine gz_lald C dL_1521 ho (by omega) (by omega) (vp_in_nI (n := 0) (N := 1) (by decide) (by decide)) ?_
  refine gz_lload C dL_1522 rfl ?_
  refine gz_lcmp C dL_1524 ?_
  refine gz_if_eq C dL_1525 (fun _ => ?_) (fun z => absurd ((lc_eq _ _).mpr (hv k0)) z)
  refine gz_goto C dL_1530 ?_
  exact gz_widen C (by omega) (by omega) fin
end LW
