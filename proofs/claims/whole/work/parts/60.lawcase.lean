/-! ===== the law's own rows: script, doubles; each case over what its two calls answer ===== -/
def Sc (g : jv_G) (X : jv_X) (b M : Nat) (xs : Nat → Int32) : Prop := match X with
  | (_, _, _, _, s, _, _, _, _, _, _) => va_X b M xs s s.heap ∧ b < s.heap.size ∧ g.1 = s.heap.size
section JLW
variable {g : jv_G} {X : jv_X} {I : jv_I} {pc n : Nat} {ls rest : List (Option Value)} {st : List Value} {sh : Nat → jv_S} {V : Nat → Nat → Int32} {L : Nat → Nat → Int64} {k z : Nat}
theorem jl_ld0 {b : Nat} (d : decode (jb I) pc = .ok (.aload_n 0, 1)) (kk : jv_J g X I (pc + 1) (some (.ref b) :: rest) (.ref b :: st) n sh V L k z) : jv_J g X I pc (some (.ref b) :: rest) st n sh V L k z := by
  obtain ⟨p, l, e, R, s, m, args, below, meth, c, Q⟩ := X
  intro hC lsA H locs cells slots hP hS hl hc hs
  exact lv_aload_n hC.1 hC.2.1 d rfl (jv_ld (v := Value.ref b) hl rfl) (kk hC lsA H locs cells slots hP hS hl hc hs)
theorem jl_sld {b M j : Nat} {xs : Nat → Int32} (hX : Sc g X b M xs) (hj : j < M) (hM : M ≤ 2560) (d : decode (jb I) pc = .ok (.iaload, 1)) (kk : jv_J g X I (pc + 1) ls (.int (xs j) :: st) n sh V L k z) : jv_J g X I pc ls (.int (nI j) :: .ref b :: st) n sh V L k z := by
  obtain ⟨p, l, e, R, s, m, args, below, meth, c, Q⟩ := X
  intro hC lsA H locs cells slots hP hS hl hc hs
  obtain ⟨x1, x2, x3⟩ := hX
  refine va_sld hC.1 hC.2.1 x1 x2 (by omega) hS (vp_in_nI hj (by omega)) d ?_
  rw [nI_clamp (by omega)]
  exact kk hC lsA H locs cells slots hP hS hl hc hs
theorem jl_slen {b M : Nat} {xs : Nat → Int32} (hX : Sc g X b M xs) (d : decode (jb I) pc = .ok (.arraylength, 1)) (kk : jv_J g X I (pc + 1) ls (.int (nI M) :: st) n sh V L k z) : jv_J g X I pc ls (.ref b :: st) n sh V L k z := by
  obtain ⟨p, l, e, R, s, m, args, below, meth, c, Q⟩ := X
  intro hC lsA H locs cells slots hP hS hl hc hs
  obtain ⟨x1, x2, x3⟩ := hX
  exact va_slen hC.1 hC.2.1 x1 x2 (by omega) hS d (kk hC lsA H locs cells slots hP hS hl hc hs)
theorem jl_dcmp {x y : UInt64} {op : CmpOp} (d : decode (jb I) pc = .ok (.dcmp op, 1)) (kk : jv_J g X I (pc + 1) ls (.int (Op.cmpValue (FP.dcmp x y) op) :: st) n sh V L k z) : jv_J g X I pc ls (.double y :: .double x :: st) n sh V L k z := by
  obtain ⟨p, l, e, R, s, m, args, below, meth, c, Q⟩ := X
  intro hC lsA H locs cells slots hP hS hl hc hs
  exact lv_dcmp hC.1 hC.2.1 d (kk hC lsA H locs cells slots hP hS hl hc hs)
end JLW
theorem lg_self (x : Int64) : lg_cmp x x = 0 := by
  unfold lg_cmp
  rw [if_neg (by exact Int64.lt_irrefl), if_pos rfl]
/-- a call of the law that comes back with the number c, the class's memory being V1 and the law's row L1 then -/
def TA (n c : Nat) (sx : Nat → jv_S) (V1 : Nat → Nat → Int32) (L1 : Nat → Nat → Int64) : jv_T := fun o n' sh' V' L' => n ≤ n' ∧ o = .inl (some (.int (nI c))) ∧ sh' = SH sx ∧ V' = V1 ∧ L' = L1
abbrev lws (g : jv_G) (b i : Nat) (v5 v6 v7 v8 : Option Value) : List (Option Value) := [some (.ref b), some (jv_r g 0), some (jv_r g 123), some (jv_r g 140), some (.int (nI i)), v5, v6, v7, v8]

set_option maxHeartbeats 4000000 in
set_option maxRecDepth 100000 in
theorem lc_0 {g : jv_G} {X : jv_X} {n : Nat} {sx : Nat → jv_S} {V : Nat → Nat → Int32} {L : Nat → Nat → Int64} {k z b M i : Nat} {xs : Nat → Int32} {v5 v6 v7 v8 : Option Value} (hSc : Sc g X b M xs) (hM : M ≤ 2560) (hi : i + 5 ≤ M) (hk : 1 ≤ k) (hz : 6 ≤ z) {c : Nat} {r : Int32} {V1 V2 : Nat → Nat → Int32} {L1 : Nat → Nat → Int64}
    (hA : ∀ X', jv_M g X' (TA n c sx V1 L1) → jv_J g X' I_L_build 0 [some (jv_r g 0), some (.int (xs (i + 1))), some (jv_r g 140), none] [] n (SH sx) V L 1 6)
    (hB : ∀ n', n ≤ n' → ∀ X' T', jv_M g X' T' → T' (.inl (some (.int r))) n' (SH sx) V2 L1 → jv_J g X' I_X5_build 0 [some (jv_r g 123), some (.int (xs (i + 1)))] [] n' (SH sx) V1 L1 0 0)
    (hth : V2 123 0 = nI c) (hout : nI c = 0 → L1 140 0 = r.toInt64)
    (next : ∀ n', n ≤ n' → jv_J g X I_L_law 2712 (lws g b i (some (.int (nI c))) (some (.int r)) v7 v8) [] n' (SH sx) V2 L1 (k - 1) (z - 6)) : jv_J g X I_L_law 232 (lws g b i v5 v6 v7 v8) [] n (SH sx) V L k z := by
  refine j_aload_n_1 dL_law_232 ?_
  refine jl_ld0 dL_law_233 ?_
  refine j_iload_4 dL_law_234 ?_
  refine j_iconst (v := nI 1) dL_law_236 nc_iconst_1 ?_
  refine j_iaddN dL_law_237 ?_
  refine jl_sld hSc (by omega) hM dL_law_238 ?_
  refine j_aload_n_3 dL_law_239 ?_
  refine R_L_136 (n1 := 0) (sh1 := fun _ => (0, 0, fun _ => none)) (V1 := fun _ _ => 0) (L1 := fun _ _ => 0) (T' := TA n c sx V1 L1) (k2 := k - 1) (z2 := z - 6) rfl (by decide) dL_law_240 (Nat.le_of_ble_eq_true rfl) (show 1 + (k - 1) ≤ k by omega) (show 6 + (z - 6) ≤ z by omega) hA (fun v n' sh' V' L' h => ?_) (fun E n' sh' V' L' h => by cases h.2.1)
  obtain ⟨hn, ev, rfl, rfl, rfl⟩ := h
  cases ev
  show jv_J g X I_L_law 243 _ [.int (nI c)] _ _ _ _ _ _
  refine j_istore_5 rfl (by decide) dL_law_243 ?_
  refine j_aload_n_2 dL_law_245 ?_
  refine jl_ld0 dL_law_246 ?_
  refine j_iload_4 dL_law_247 ?_
  refine j_iconst (v := nI 1) dL_law_249 nc_iconst_1 ?_
  refine j_iaddN dL_law_250 ?_
  refine jl_sld hSc (by omega) hM dL_law_251 ?_
  refine C_L_141 rfl (by decide) dL_law_252 sk_123 (Nat.le_of_ble_eq_true rfl) (Nat.le_of_eq (Nat.zero_add _)) (Nat.le_of_eq (Nat.zero_add _)) (fun X' T' hM' hT' => hB n' hn X' T' hM' hT') ?_
  refine j_istore_6 rfl (by decide) dL_law_255 ?_
  refine j_aload_n_2 dL_law_257 ?_
  refine C_L_142 rfl (by decide) dL_law_258 sk_123 (Nat.le_of_ble_eq_true rfl) (Nat.le_of_eq (Nat.zero_add _)) (Nat.le_of_eq (Nat.zero_add _)) (fun _ _ hM' hT' => y_thrown hM' hT') ?_
  refine j_top (y := nI c) hth ?_
  refine j_iload_5 dL_law_261 ?_
  refine j_ic_eq (tgt := 268) dL_law_263 (by decide) (fun _ => ?_) (fun h => absurd rfl h)
  refine j_iload_5 dL_law_268 ?_
  refine j_if_ne (tgt := 285) dL_law_270 (by decide) (fun h => ?_) (fun h => ?_)
  · refine j_goto (tgt := 2712) dL_law_285 (by decide) ?_
    exact next n' hn
  · refine j_aload_n_3 dL_law_273 ?_
    refine j_iconst (v := nI 0) dL_law_274 nc_iconst_0 ?_
    refine j_lald dL_law_275 sk_140 sn_140 (by omega) (by decide) ?_
    refine j_topl (y := r.toInt64) (hout h) ?_
    refine j_iload_6 dL_law_276 ?_
    refine j_i2l dL_law_278 ?_
    refine j_lcmp dL_law_279 ?_
    refine j_top (y := 0) (lg_self _) ?_
    refine j_if_eq (tgt := 285) dL_law_280 (by decide) (fun _ => ?_) (fun h => absurd rfl h)
    refine j_goto (tgt := 2712) dL_law_285 (by decide) ?_
    exact next n' hn

set_option maxHeartbeats 4000000 in
set_option maxRecDepth 100000 in
theorem lc_1 {g : jv_G} {X : jv_X} {n : Nat} {sx : Nat → jv_S} {V : Nat → Nat → Int32} {L : Nat → Nat → Int64} {k z b M i : Nat} {xs : Nat → Int32} {v5 v6 v7 v8 : Option Value} (hSc : Sc g X b M xs) (hM : M ≤ 2560) (hi : i + 5 ≤ M) (hk : 1 ≤ k) (hz : 6 ≤ z) {c : Nat} {r : Int32} {V1 V2 : Nat → Nat → Int32} {L1 : Nat → Nat → Int64}
    (hA : ∀ X', jv_M g X' (TA n c sx V1 L1) → jv_J g X' I_L_setStay 0 [some (jv_r g 0), some (.int (xs (i + 1))), some (.int (xs (i + 2))), some (jv_r g 140), none] [] n (SH sx) V L 1 6)
    (hB : ∀ n', n ≤ n' → ∀ X' T', jv_M g X' T' → T' (.inl (some (.int r))) n' (SH sx) V2 L1 → jv_J g X' I_X5_setStay 0 [some (jv_r g 123), some (.int (xs (i + 1))), some (.int (xs (i + 2)))] [] n' (SH sx) V1 L1 0 0)
    (hth : V2 123 0 = nI c) (hout : nI c = 0 → L1 140 0 = r.toInt64)
    (next : ∀ n', n ≤ n' → jv_J g X I_L_law 2712 (lws g b i (some (.int (nI c))) (some (.int r)) v7 v8) [] n' (SH sx) V2 L1 (k - 1) (z - 6)) : jv_J g X I_L_law 288 (lws g b i v5 v6 v7 v8) [] n (SH sx) V L k z := by
  refine j_aload_n_1 dL_law_288 ?_
  refine jl_ld0 dL_law_289 ?_
  refine j_iload_4 dL_law_290 ?_
  refine j_iconst (v := nI 1) dL_law_292 nc_iconst_1 ?_
  refine j_iaddN dL_law_293 ?_
  refine jl_sld hSc (by omega) hM dL_law_294 ?_
  refine jl_ld0 dL_law_295 ?_
  refine j_iload_4 dL_law_296 ?_
  refine j_iconst (v := nI 2) dL_law_298 nc_iconst_2 ?_
  refine j_iaddN dL_law_299 ?_
  refine jl_sld hSc (by omega) hM dL_law_300 ?_
  refine j_aload_n_3 dL_law_301 ?_
  refine R_L_146 (n1 := 0) (sh1 := fun _ => (0, 0, fun _ => none)) (V1 := fun _ _ => 0) (L1 := fun _ _ => 0) (T' := TA n c sx V1 L1) (k2 := k - 1) (z2 := z - 6) rfl (by decide) dL_law_302 (Nat.le_of_ble_eq_true rfl) (show 1 + (k - 1) ≤ k by omega) (show 6 + (z - 6) ≤ z by omega) hA (fun v n' sh' V' L' h => ?_) (fun E n' sh' V' L' h => by cases h.2.1)
  obtain ⟨hn, ev, rfl, rfl, rfl⟩ := h
  cases ev
  show jv_J g X I_L_law 305 _ [.int (nI c)] _ _ _ _ _ _
  refine j_istore_5 rfl (by decide) dL_law_305 ?_
  refine j_aload_n_2 dL_law_307 ?_
  refine jl_ld0 dL_law_308 ?_
  refine j_iload_4 dL_law_309 ?_
  refine j_iconst (v := nI 1) dL_law_311 nc_iconst_1 ?_
  refine j_iaddN dL_law_312 ?_
  refine jl_sld hSc (by omega) hM dL_law_313 ?_
  refine jl_ld0 dL_law_314 ?_
  refine j_iload_4 dL_law_315 ?_
  refine j_iconst (v := nI 2) dL_law_317 nc_iconst_2 ?_
  refine j_iaddN dL_law_318 ?_
  refine jl_sld hSc (by omega) hM dL_law_319 ?_
  refine C_L_149 rfl (by decide) dL_law_320 sk_123 (Nat.le_of_ble_eq_true rfl) (Nat.le_of_eq (Nat.zero_add _)) (Nat.le_of_eq (Nat.zero_add _)) (fun X' T' hM' hT' => hB n' hn X' T' hM' hT') ?_
  refine j_istore_6 rfl (by decide) dL_law_323 ?_
  refine j_aload_n_2 dL_law_325 ?_
  refine C_L_142 rfl (by decide) dL_law_326 sk_123 (Nat.le_of_ble_eq_true rfl) (Nat.le_of_eq (Nat.zero_add _)) (Nat.le_of_eq (Nat.zero_add _)) (fun _ _ hM' hT' => y_thrown hM' hT') ?_
  refine j_top (y := nI c) hth ?_
  refine j_iload_5 dL_law_329 ?_
  refine j_ic_eq (tgt := 336) dL_law_331 (by decide) (fun _ => ?_) (fun h => absurd rfl h)
  refine j_iload_5 dL_law_336 ?_
  refine j_if_ne (tgt := 353) dL_law_338 (by decide) (fun h => ?_) (fun h => ?_)
  · refine j_goto (tgt := 2712) dL_law_353 (by decide) ?_
    exact next n' hn
  · refine j_aload_n_3 dL_law_341 ?_
    refine j_iconst (v := nI 0) dL_law_342 nc_iconst_0 ?_
    refine j_lald dL_law_343 sk_140 sn_140 (by omega) (by decide) ?_
    refine j_topl (y := r.toInt64) (hout h) ?_
    refine j_iload_6 dL_law_344 ?_
    refine j_i2l dL_law_346 ?_
    refine j_lcmp dL_law_347 ?_
    refine j_top (y := 0) (lg_self _) ?_
    refine j_if_eq (tgt := 353) dL_law_348 (by decide) (fun _ => ?_) (fun h => absurd rfl h)
    refine j_goto (tgt := 2712) dL_law_353 (by decide) ?_
    exact next n' hn

set_option maxHeartbeats 4000000 in
set_option maxRecDepth 100000 in
theorem lc_2 {g : jv_G} {X : jv_X} {n : Nat} {sx : Nat → jv_S} {V : Nat → Nat → Int32} {L : Nat → Nat → Int64} {k z b M i : Nat} {xs : Nat → Int32} {v5 v6 v7 v8 : Option Value} (hSc : Sc g X b M xs) (hM : M ≤ 2560) (hi : i + 5 ≤ M) (hk : 1 ≤ k) (hz : 6 ≤ z) {c : Nat} {r : Int32} {V1 V2 : Nat → Nat → Int32} {L1 : Nat → Nat → Int64}
    (hA : ∀ X', jv_M g X' (TA n c sx V1 L1) → jv_J g X' I_L_setHeads 0 [some (jv_r g 0), some (.int (xs (i + 1))), some (.int (xs (i + 2))), some (jv_r g 140), none] [] n (SH sx) V L 1 6)
    (hB : ∀ n', n ≤ n' → ∀ X' T', jv_M g X' T' → T' (.inl (some (.int r))) n' (SH sx) V2 L1 → jv_J g X' I_X5_setHeads 0 [some (jv_r g 123), some (.int (xs (i + 1))), some (.int (xs (i + 2)))] [] n' (SH sx) V1 L1 0 0)
    (hth : V2 123 0 = nI c) (hout : nI c = 0 → L1 140 0 = r.toInt64)
    (next : ∀ n', n ≤ n' → jv_J g X I_L_law 2712 (lws g b i (some (.int (nI c))) (some (.int r)) v7 v8) [] n' (SH sx) V2 L1 (k - 1) (z - 6)) : jv_J g X I_L_law 356 (lws g b i v5 v6 v7 v8) [] n (SH sx) V L k z := by
  refine j_aload_n_1 dL_law_356 ?_
  refine jl_ld0 dL_law_357 ?_
  refine j_iload_4 dL_law_358 ?_
  refine j_iconst (v := nI 1) dL_law_360 nc_iconst_1 ?_
  refine j_iaddN dL_law_361 ?_
  refine jl_sld hSc (by omega) hM dL_law_362 ?_
  refine jl_ld0 dL_law_363 ?_
  refine j_iload_4 dL_law_364 ?_
  refine j_iconst (v := nI 2) dL_law_366 nc_iconst_2 ?_
  refine j_iaddN dL_law_367 ?_
  refine jl_sld hSc (by omega) hM dL_law_368 ?_
  refine j_aload_n_3 dL_law_369 ?_
  refine R_L_150 (n1 := 0) (sh1 := fun _ => (0, 0, fun _ => none)) (V1 := fun _ _ => 0) (L1 := fun _ _ => 0) (T' := TA n c sx V1 L1) (k2 := k - 1) (z2 := z - 6) rfl (by decide) dL_law_370 (Nat.le_of_ble_eq_true rfl) (show 1 + (k - 1) ≤ k by omega) (show 6 + (z - 6) ≤ z by omega) hA (fun v n' sh' V' L' h => ?_) (fun E n' sh' V' L' h => by cases h.2.1)
  obtain ⟨hn, ev, rfl, rfl, rfl⟩ := h
  cases ev
  show jv_J g X I_L_law 373 _ [.int (nI c)] _ _ _ _ _ _
  refine j_istore_5 rfl (by decide) dL_law_373 ?_
  refine j_aload_n_2 dL_law_375 ?_
  refine jl_ld0 dL_law_376 ?_
  refine j_iload_4 dL_law_377 ?_
  refine j_iconst (v := nI 1) dL_law_379 nc_iconst_1 ?_
  refine j_iaddN dL_law_380 ?_
  refine jl_sld hSc (by omega) hM dL_law_381 ?_
  refine jl_ld0 dL_law_382 ?_
  refine j_iload_4 dL_law_383 ?_
  refine j_iconst (v := nI 2) dL_law_385 nc_iconst_2 ?_
  refine j_iaddN dL_law_386 ?_
  refine jl_sld hSc (by omega) hM dL_law_387 ?_
  refine C_L_152 rfl (by decide) dL_law_388 sk_123 (Nat.le_of_ble_eq_true rfl) (Nat.le_of_eq (Nat.zero_add _)) (Nat.le_of_eq (Nat.zero_add _)) (fun X' T' hM' hT' => hB n' hn X' T' hM' hT') ?_
  refine j_istore_6 rfl (by decide) dL_law_391 ?_
  refine j_aload_n_2 dL_law_393 ?_
  refine C_L_142 rfl (by decide) dL_law_394 sk_123 (Nat.le_of_ble_eq_true rfl) (Nat.le_of_eq (Nat.zero_add _)) (Nat.le_of_eq (Nat.zero_add _)) (fun _ _ hM' hT' => y_thrown hM' hT') ?_
  refine j_top (y := nI c) hth ?_
  refine j_iload_5 dL_law_397 ?_
  refine j_ic_eq (tgt := 404) dL_law_399 (by decide) (fun _ => ?_) (fun h => absurd rfl h)
  refine j_iload_5 dL_law_404 ?_
  refine j_if_ne (tgt := 421) dL_law_406 (by decide) (fun h => ?_) (fun h => ?_)
  · refine j_goto (tgt := 2712) dL_law_421 (by decide) ?_
    exact next n' hn
  · refine j_aload_n_3 dL_law_409 ?_
    refine j_iconst (v := nI 0) dL_law_410 nc_iconst_0 ?_
    refine j_lald dL_law_411 sk_140 sn_140 (by omega) (by decide) ?_
    refine j_topl (y := r.toInt64) (hout h) ?_
    refine j_iload_6 dL_law_412 ?_
    refine j_i2l dL_law_414 ?_
    refine j_lcmp dL_law_415 ?_
    refine j_top (y := 0) (lg_self _) ?_
    refine j_if_eq (tgt := 421) dL_law_416 (by decide) (fun _ => ?_) (fun h => absurd rfl h)
    refine j_goto (tgt := 2712) dL_law_421 (by decide) ?_
    exact next n' hn

set_option maxHeartbeats 4000000 in
set_option maxRecDepth 100000 in
theorem lc_3 {g : jv_G} {X : jv_X} {n : Nat} {sx : Nat → jv_S} {V : Nat → Nat → Int32} {L : Nat → Nat → Int64} {k z b M i : Nat} {xs : Nat → Int32} {v5 v6 v7 v8 : Option Value} (hSc : Sc g X b M xs) (hM : M ≤ 2560) (hi : i + 5 ≤ M) (hk : 1 ≤ k) (hz : 6 ≤ z) {c : Nat} {r : Int32} {V1 V2 : Nat → Nat → Int32} {L1 : Nat → Nat → Int64}
    (hA : ∀ X', jv_M g X' (TA n c sx V1 L1) → jv_J g X' I_L_setStairs 0 [some (jv_r g 0), some (.int (xs (i + 1))), some (.int (xs (i + 2))), some (jv_r g 140), none] [] n (SH sx) V L 1 6)
    (hB : ∀ n', n ≤ n' → ∀ X' T', jv_M g X' T' → T' (.inl (some (.int r))) n' (SH sx) V2 L1 → jv_J g X' I_X5_setStairs 0 [some (jv_r g 123), some (.int (xs (i + 1))), some (.int (xs (i + 2)))] [] n' (SH sx) V1 L1 0 0)
    (hth : V2 123 0 = nI c) (hout : nI c = 0 → L1 140 0 = r.toInt64)
    (next : ∀ n', n ≤ n' → jv_J g X I_L_law 2712 (lws g b i (some (.int (nI c))) (some (.int r)) v7 v8) [] n' (SH sx) V2 L1 (k - 1) (z - 6)) : jv_J g X I_L_law 424 (lws g b i v5 v6 v7 v8) [] n (SH sx) V L k z := by
  refine j_aload_n_1 dL_law_424 ?_
  refine jl_ld0 dL_law_425 ?_
  refine j_iload_4 dL_law_426 ?_
  refine j_iconst (v := nI 1) dL_law_428 nc_iconst_1 ?_
  refine j_iaddN dL_law_429 ?_
  refine jl_sld hSc (by omega) hM dL_law_430 ?_
  refine jl_ld0 dL_law_431 ?_
  refine j_iload_4 dL_law_432 ?_
  refine j_iconst (v := nI 2) dL_law_434 nc_iconst_2 ?_
  refine j_iaddN dL_law_435 ?_
  refine jl_sld hSc (by omega) hM dL_law_436 ?_
  refine j_aload_n_3 dL_law_437 ?_
  refine R_L_153 (n1 := 0) (sh1 := fun _ => (0, 0, fun _ => none)) (V1 := fun _ _ => 0) (L1 := fun _ _ => 0) (T' := TA n c sx V1 L1) (k2 := k - 1) (z2 := z - 6) rfl (by decide) dL_law_438 (Nat.le_of_ble_eq_true rfl) (show 1 + (k - 1) ≤ k by omega) (show 6 + (z - 6) ≤ z by omega) hA (fun v n' sh' V' L' h => ?_) (fun E n' sh' V' L' h => by cases h.2.1)
  obtain ⟨hn, ev, rfl, rfl, rfl⟩ := h
  cases ev
  show jv_J g X I_L_law 441 _ [.int (nI c)] _ _ _ _ _ _
  refine j_istore_5 rfl (by decide) dL_law_441 ?_
  refine j_aload_n_2 dL_law_443 ?_
  refine jl_ld0 dL_law_444 ?_
  refine j_iload_4 dL_law_445 ?_
  refine j_iconst (v := nI 1) dL_law_447 nc_iconst_1 ?_
  refine j_iaddN dL_law_448 ?_
  refine jl_sld hSc (by omega) hM dL_law_449 ?_
  refine jl_ld0 dL_law_450 ?_
  refine j_iload_4 dL_law_451 ?_
  refine j_iconst (v := nI 2) dL_law_453 nc_iconst_2 ?_
  refine j_iaddN dL_law_454 ?_
  refine jl_sld hSc (by omega) hM dL_law_455 ?_
  refine C_L_155 rfl (by decide) dL_law_456 sk_123 (Nat.le_of_ble_eq_true rfl) (Nat.le_of_eq (Nat.zero_add _)) (Nat.le_of_eq (Nat.zero_add _)) (fun X' T' hM' hT' => hB n' hn X' T' hM' hT') ?_
  refine j_istore_6 rfl (by decide) dL_law_459 ?_
  refine j_aload_n_2 dL_law_461 ?_
  refine C_L_142 rfl (by decide) dL_law_462 sk_123 (Nat.le_of_ble_eq_true rfl) (Nat.le_of_eq (Nat.zero_add _)) (Nat.le_of_eq (Nat.zero_add _)) (fun _ _ hM' hT' => y_thrown hM' hT') ?_
  refine j_top (y := nI c) hth ?_
  refine j_iload_5 dL_law_465 ?_
  refine j_ic_eq (tgt := 472) dL_law_467 (by decide) (fun _ => ?_) (fun h => absurd rfl h)
  refine j_iload_5 dL_law_472 ?_
  refine j_if_ne (tgt := 489) dL_law_474 (by decide) (fun h => ?_) (fun h => ?_)
  · refine j_goto (tgt := 2712) dL_law_489 (by decide) ?_
    exact next n' hn
  · refine j_aload_n_3 dL_law_477 ?_
    refine j_iconst (v := nI 0) dL_law_478 nc_iconst_0 ?_
    refine j_lald dL_law_479 sk_140 sn_140 (by omega) (by decide) ?_
    refine j_topl (y := r.toInt64) (hout h) ?_
    refine j_iload_6 dL_law_480 ?_
    refine j_i2l dL_law_482 ?_
    refine j_lcmp dL_law_483 ?_
    refine j_top (y := 0) (lg_self _) ?_
    refine j_if_eq (tgt := 489) dL_law_484 (by decide) (fun _ => ?_) (fun h => absurd rfl h)
    refine j_goto (tgt := 2712) dL_law_489 (by decide) ?_
    exact next n' hn

set_option maxHeartbeats 4000000 in
set_option maxRecDepth 100000 in
theorem lc_4 {g : jv_G} {X : jv_X} {n : Nat} {sx : Nat → jv_S} {V : Nat → Nat → Int32} {L : Nat → Nat → Int64} {k z b M i : Nat} {xs : Nat → Int32} {v5 v6 v7 v8 : Option Value} (hSc : Sc g X b M xs) (hM : M ≤ 2560) (hi : i + 5 ≤ M) (hk : 1 ≤ k) (hz : 6 ≤ z) {c : Nat} {r : Int32} {V1 V2 : Nat → Nat → Int32} {L1 : Nat → Nat → Int64}
    (hA : ∀ X', jv_M g X' (TA n c sx V1 L1) → jv_J g X' I_L_turnStairs 0 [some (jv_r g 0), some (.int (xs (i + 1))), some (jv_r g 140), none] [] n (SH sx) V L 1 6)
    (hB : ∀ n', n ≤ n' → ∀ X' T', jv_M g X' T' → T' (.inl (some (.int r))) n' (SH sx) V2 L1 → jv_J g X' I_X5_turnStairs 0 [some (jv_r g 123), some (.int (xs (i + 1)))] [] n' (SH sx) V1 L1 0 0)
    (hth : V2 123 0 = nI c) (hout : nI c = 0 → L1 140 0 = if r = 0 then 0 else 1)
    (next : ∀ n', n ≤ n' → jv_J g X I_L_law 2712 (lws g b i (some (.int (nI c))) (some (.int r)) v7 v8) [] n' (SH sx) V2 L1 (k - 1) (z - 6)) : jv_J g X I_L_law 492 (lws g b i v5 v6 v7 v8) [] n (SH sx) V L k z := by
  refine j_aload_n_1 dL_law_492 ?_
  refine jl_ld0 dL_law_493 ?_
  refine j_iload_4 dL_law_494 ?_
  refine j_iconst (v := nI 1) dL_law_496 nc_iconst_1 ?_
  refine j_iaddN dL_law_497 ?_
  refine jl_sld hSc (by omega) hM dL_law_498 ?_
  refine j_aload_n_3 dL_law_499 ?_
  refine R_L_156 (n1 := 0) (sh1 := fun _ => (0, 0, fun _ => none)) (V1 := fun _ _ => 0) (L1 := fun _ _ => 0) (T' := TA n c sx V1 L1) (k2 := k - 1) (z2 := z - 6) rfl (by decide) dL_law_500 (Nat.le_of_ble_eq_true rfl) (show 1 + (k - 1) ≤ k by omega) (show 6 + (z - 6) ≤ z by omega) hA (fun v n' sh' V' L' h => ?_) (fun E n' sh' V' L' h => by cases h.2.1)
  obtain ⟨hn, ev, rfl, rfl, rfl⟩ := h
  cases ev
  show jv_J g X I_L_law 503 _ [.int (nI c)] _ _ _ _ _ _
  refine j_istore_5 rfl (by decide) dL_law_503 ?_
  refine j_aload_n_2 dL_law_505 ?_
  refine jl_ld0 dL_law_506 ?_
  refine j_iload_4 dL_law_507 ?_
  refine j_iconst (v := nI 1) dL_law_509 nc_iconst_1 ?_
  refine j_iaddN dL_law_510 ?_
  refine jl_sld hSc (by omega) hM dL_law_511 ?_
  refine C_L_158 rfl (by decide) dL_law_512 sk_123 (Nat.le_of_ble_eq_true rfl) (Nat.le_of_eq (Nat.zero_add _)) (Nat.le_of_eq (Nat.zero_add _)) (fun X' T' hM' hT' => hB n' hn X' T' hM' hT') ?_
  refine j_istore_6 rfl (by decide) dL_law_515 ?_
  refine j_aload_n_2 dL_law_517 ?_
  refine C_L_142 rfl (by decide) dL_law_518 sk_123 (Nat.le_of_ble_eq_true rfl) (Nat.le_of_eq (Nat.zero_add _)) (Nat.le_of_eq (Nat.zero_add _)) (fun _ _ hM' hT' => y_thrown hM' hT') ?_
  refine j_top (y := nI c) hth ?_
  refine j_iload_5 dL_law_521 ?_
  refine j_ic_eq (tgt := 528) dL_law_523 (by decide) (fun _ => ?_) (fun h => absurd rfl h)
  refine j_iload_5 dL_law_528 ?_
  refine j_if_ne (tgt := 552) dL_law_530 (by decide) (fun h => ?_) (fun h => ?_)
  · refine j_goto (tgt := 2712) dL_law_552 (by decide) ?_
    exact next n' hn
  · refine j_aload_n_3 dL_law_533 ?_
    refine j_iconst (v := nI 0) dL_law_534 nc_iconst_0 ?_
    refine j_lald dL_law_535 sk_140 sn_140 (by omega) (by decide) ?_
    refine j_topl (y := if r = 0 then 0 else 1) (hout h) ?_
    refine j_iload_6 dL_law_536 ?_
    refine j_if_eq (tgt := 545) dL_law_538 (by decide) (fun h0 => ?_) (fun h0 => ?_)
    · refine j_lconst dL_law_545 rfl ?_
      refine j_lcmp dL_law_546 ?_
      refine j_top (y := 0) (by rw [if_pos h0]; exact lg_self _) ?_
      refine j_if_eq (tgt := 552) dL_law_547 (by decide) (fun _ => ?_) (fun h => absurd rfl h)
      refine j_goto (tgt := 2712) dL_law_552 (by decide) ?_
      exact next n' hn
    · refine j_lconst dL_law_541 rfl ?_
      refine j_goto (tgt := 546) dL_law_542 (by decide) ?_
      refine j_lcmp dL_law_546 ?_
      refine j_top (y := 0) (by rw [if_neg h0]; exact lg_self _) ?_
      refine j_if_eq (tgt := 552) dL_law_547 (by decide) (fun _ => ?_) (fun h => absurd rfl h)
      refine j_goto (tgt := 2712) dL_law_552 (by decide) ?_
      exact next n' hn

set_option maxHeartbeats 4000000 in
set_option maxRecDepth 100000 in
theorem lc_5 {g : jv_G} {X : jv_X} {n : Nat} {sx : Nat → jv_S} {V : Nat → Nat → Int32} {L : Nat → Nat → Int64} {k z b M i : Nat} {xs : Nat → Int32} {v5 v6 v7 v8 : Option Value} (hSc : Sc g X b M xs) (hM : M ≤ 2560) (hi : i + 5 ≤ M) (hk : 1 ≤ k) (hz : 6 ≤ z) {c : Nat} {r : Int32} {V1 V2 : Nat → Nat → Int32} {L1 : Nat → Nat → Int64}
    (hA : ∀ X', jv_M g X' (TA n c sx V1 L1) → jv_J g X' I_L_addLift 0 [some (jv_r g 0), some (.int (xs (i + 1))), some (.int (xs (i + 2))), some (.int (xs (i + 3))), some (.int (xs (i + 4))), some (jv_r g 140), none] [] n (SH sx) V L 1 6)
    (hB : ∀ n', n ≤ n' → ∀ X' T', jv_M g X' T' → T' (.inl (some (.int r))) n' (SH sx) V2 L1 → jv_J g X' I_X5_addLift 0 [some (jv_r g 123), some (.int (xs (i + 1))), some (.int (xs (i + 2))), some (.int (xs (i + 3))), some (.int (xs (i + 4)))] [] n' (SH sx) V1 L1 0 0)
    (hth : V2 123 0 = nI c) (hout : nI c = 0 → L1 140 0 = r.toInt64)
    (next : ∀ n', n ≤ n' → jv_J g X I_L_law 2712 (lws g b i (some (.int (nI c))) (some (.int r)) v7 v8) [] n' (SH sx) V2 L1 (k - 1) (z - 6)) : jv_J g X I_L_law 555 (lws g b i v5 v6 v7 v8) [] n (SH sx) V L k z := by
  refine j_aload_n_1 dL_law_555 ?_
  refine jl_ld0 dL_law_556 ?_
  refine j_iload_4 dL_law_557 ?_
  refine j_iconst (v := nI 1) dL_law_559 nc_iconst_1 ?_
  refine j_iaddN dL_law_560 ?_
  refine jl_sld hSc (by omega) hM dL_law_561 ?_
  refine jl_ld0 dL_law_562 ?_
  refine j_iload_4 dL_law_563 ?_
  refine j_iconst (v := nI 2) dL_law_565 nc_iconst_2 ?_
  refine j_iaddN dL_law_566 ?_
  refine jl_sld hSc (by omega) hM dL_law_567 ?_
  refine jl_ld0 dL_law_568 ?_
  refine j_iload_4 dL_law_569 ?_
  refine j_iconst (v := nI 3) dL_law_571 nc_iconst_3 ?_
  refine j_iaddN dL_law_572 ?_
  refine jl_sld hSc (by omega) hM dL_law_573 ?_
  refine jl_ld0 dL_law_574 ?_
  refine j_iload_4 dL_law_575 ?_
  refine j_iconst (v := nI 4) dL_law_577 nc_iconst_4 ?_
  refine j_iaddN dL_law_578 ?_
  refine jl_sld hSc (by omega) hM dL_law_579 ?_
  refine j_aload_n_3 dL_law_580 ?_
  refine R_L_159 (n1 := 0) (sh1 := fun _ => (0, 0, fun _ => none)) (V1 := fun _ _ => 0) (L1 := fun _ _ => 0) (T' := TA n c sx V1 L1) (k2 := k - 1) (z2 := z - 6) rfl (by decide) dL_law_581 (Nat.le_of_ble_eq_true rfl) (show 1 + (k - 1) ≤ k by omega) (show 6 + (z - 6) ≤ z by omega) hA (fun v n' sh' V' L' h => ?_) (fun E n' sh' V' L' h => by cases h.2.1)
  obtain ⟨hn, ev, rfl, rfl, rfl⟩ := h
  cases ev
  show jv_J g X I_L_law 584 _ [.int (nI c)] _ _ _ _ _ _
  refine j_istore_5 rfl (by decide) dL_law_584 ?_
  refine j_aload_n_2 dL_law_586 ?_
  refine jl_ld0 dL_law_587 ?_
  refine j_iload_4 dL_law_588 ?_
  refine j_iconst (v := nI 1) dL_law_590 nc_iconst_1 ?_
  refine j_iaddN dL_law_591 ?_
  refine jl_sld hSc (by omega) hM dL_law_592 ?_
  refine jl_ld0 dL_law_593 ?_
  refine j_iload_4 dL_law_594 ?_
  refine j_iconst (v := nI 2) dL_law_596 nc_iconst_2 ?_
  refine j_iaddN dL_law_597 ?_
  refine jl_sld hSc (by omega) hM dL_law_598 ?_
  refine jl_ld0 dL_law_599 ?_
  refine j_iload_4 dL_law_600 ?_
  refine j_iconst (v := nI 3) dL_law_602 nc_iconst_3 ?_
  refine j_iaddN dL_law_603 ?_
  refine jl_sld hSc (by omega) hM dL_law_604 ?_
  refine jl_ld0 dL_law_605 ?_
  refine j_iload_4 dL_law_606 ?_
  refine j_iconst (v := nI 4) dL_law_608 nc_iconst_4 ?_
  refine j_iaddN dL_law_609 ?_
  refine jl_sld hSc (by omega) hM dL_law_610 ?_
  refine C_L_162 rfl (by decide) dL_law_611 sk_123 (Nat.le_of_ble_eq_true rfl) (Nat.le_of_eq (Nat.zero_add _)) (Nat.le_of_eq (Nat.zero_add _)) (fun X' T' hM' hT' => hB n' hn X' T' hM' hT') ?_
  refine j_istore_6 rfl (by decide) dL_law_614 ?_
  refine j_aload_n_2 dL_law_616 ?_
  refine C_L_142 rfl (by decide) dL_law_617 sk_123 (Nat.le_of_ble_eq_true rfl) (Nat.le_of_eq (Nat.zero_add _)) (Nat.le_of_eq (Nat.zero_add _)) (fun _ _ hM' hT' => y_thrown hM' hT') ?_
  refine j_top (y := nI c) hth ?_
  refine j_iload_5 dL_law_620 ?_
  refine j_ic_eq (tgt := 627) dL_law_622 (by decide) (fun _ => ?_) (fun h => absurd rfl h)
  refine j_iload_5 dL_law_627 ?_
  refine j_if_ne (tgt := 644) dL_law_629 (by decide) (fun h => ?_) (fun h => ?_)
  · refine j_goto (tgt := 2712) dL_law_644 (by decide) ?_
    exact next n' hn
  · refine j_aload_n_3 dL_law_632 ?_
    refine j_iconst (v := nI 0) dL_law_633 nc_iconst_0 ?_
    refine j_lald dL_law_634 sk_140 sn_140 (by omega) (by decide) ?_
    refine j_topl (y := r.toInt64) (hout h) ?_
    refine j_iload_6 dL_law_635 ?_
    refine j_i2l dL_law_637 ?_
    refine j_lcmp dL_law_638 ?_
    refine j_top (y := 0) (lg_self _) ?_
    refine j_if_eq (tgt := 644) dL_law_639 (by decide) (fun _ => ?_) (fun h => absurd rfl h)
    refine j_goto (tgt := 2712) dL_law_644 (by decide) ?_
    exact next n' hn

set_option maxHeartbeats 4000000 in
set_option maxRecDepth 100000 in
theorem lc_6 {g : jv_G} {X : jv_X} {n : Nat} {sx : Nat → jv_S} {V : Nat → Nat → Int32} {L : Nat → Nat → Int64} {k z b M i : Nat} {xs : Nat → Int32} {v5 v6 v7 v8 : Option Value} (hSc : Sc g X b M xs) (hM : M ≤ 2560) (hi : i + 5 ≤ M) (hk : 1 ≤ k) (hz : 6 ≤ z) {c : Nat} {r : Int32} {V1 V2 : Nat → Nat → Int32} {L1 : Nat → Nat → Int64}
    (hA : ∀ X', jv_M g X' (TA n c sx V1 L1) → jv_J g X' I_L_turnLift 0 [some (jv_r g 0), some (.int (xs (i + 1))), some (jv_r g 140), none] [] n (SH sx) V L 1 6)
    (hB : ∀ n', n ≤ n' → ∀ X' T', jv_M g X' T' → T' (.inl (some (.int r))) n' (SH sx) V2 L1 → jv_J g X' I_X5_turnLift 0 [some (jv_r g 123), some (.int (xs (i + 1)))] [] n' (SH sx) V1 L1 0 0)
    (hth : V2 123 0 = nI c) (hout : nI c = 0 → L1 140 0 = if r = 0 then 0 else 1)
    (next : ∀ n', n ≤ n' → jv_J g X I_L_law 2712 (lws g b i (some (.int (nI c))) (some (.int r)) v7 v8) [] n' (SH sx) V2 L1 (k - 1) (z - 6)) : jv_J g X I_L_law 647 (lws g b i v5 v6 v7 v8) [] n (SH sx) V L k z := by
  refine j_aload_n_1 dL_law_647 ?_
  refine jl_ld0 dL_law_648 ?_
  refine j_iload_4 dL_law_649 ?_
  refine j_iconst (v := nI 1) dL_law_651 nc_iconst_1 ?_
  refine j_iaddN dL_law_652 ?_
  refine jl_sld hSc (by omega) hM dL_law_653 ?_
  refine j_aload_n_3 dL_law_654 ?_
  refine R_L_163 (n1 := 0) (sh1 := fun _ => (0, 0, fun _ => none)) (V1 := fun _ _ => 0) (L1 := fun _ _ => 0) (T' := TA n c sx V1 L1) (k2 := k - 1) (z2 := z - 6) rfl (by decide) dL_law_655 (Nat.le_of_ble_eq_true rfl) (show 1 + (k - 1) ≤ k by omega) (show 6 + (z - 6) ≤ z by omega) hA (fun v n' sh' V' L' h => ?_) (fun E n' sh' V' L' h => by cases h.2.1)
  obtain ⟨hn, ev, rfl, rfl, rfl⟩ := h
  cases ev
  show jv_J g X I_L_law 658 _ [.int (nI c)] _ _ _ _ _ _
  refine j_istore_5 rfl (by decide) dL_law_658 ?_
  refine j_aload_n_2 dL_law_660 ?_
  refine jl_ld0 dL_law_661 ?_
  refine j_iload_4 dL_law_662 ?_
  refine j_iconst (v := nI 1) dL_law_664 nc_iconst_1 ?_
  refine j_iaddN dL_law_665 ?_
  refine jl_sld hSc (by omega) hM dL_law_666 ?_
  refine C_L_165 rfl (by decide) dL_law_667 sk_123 (Nat.le_of_ble_eq_true rfl) (Nat.le_of_eq (Nat.zero_add _)) (Nat.le_of_eq (Nat.zero_add _)) (fun X' T' hM' hT' => hB n' hn X' T' hM' hT') ?_
  refine j_istore_6 rfl (by decide) dL_law_670 ?_
  refine j_aload_n_2 dL_law_672 ?_
  refine C_L_142 rfl (by decide) dL_law_673 sk_123 (Nat.le_of_ble_eq_true rfl) (Nat.le_of_eq (Nat.zero_add _)) (Nat.le_of_eq (Nat.zero_add _)) (fun _ _ hM' hT' => y_thrown hM' hT') ?_
  refine j_top (y := nI c) hth ?_
  refine j_iload_5 dL_law_676 ?_
  refine j_ic_eq (tgt := 683) dL_law_678 (by decide) (fun _ => ?_) (fun h => absurd rfl h)
  refine j_iload_5 dL_law_683 ?_
  refine j_if_ne (tgt := 707) dL_law_685 (by decide) (fun h => ?_) (fun h => ?_)
  · refine j_goto (tgt := 2712) dL_law_707 (by decide) ?_
    exact next n' hn
  · refine j_aload_n_3 dL_law_688 ?_
    refine j_iconst (v := nI 0) dL_law_689 nc_iconst_0 ?_
    refine j_lald dL_law_690 sk_140 sn_140 (by omega) (by decide) ?_
    refine j_topl (y := if r = 0 then 0 else 1) (hout h) ?_
    refine j_iload_6 dL_law_691 ?_
    refine j_if_eq (tgt := 700) dL_law_693 (by decide) (fun h0 => ?_) (fun h0 => ?_)
    · refine j_lconst dL_law_700 rfl ?_
      refine j_lcmp dL_law_701 ?_
      refine j_top (y := 0) (by rw [if_pos h0]; exact lg_self _) ?_
      refine j_if_eq (tgt := 707) dL_law_702 (by decide) (fun _ => ?_) (fun h => absurd rfl h)
      refine j_goto (tgt := 2712) dL_law_707 (by decide) ?_
      exact next n' hn
    · refine j_lconst dL_law_696 rfl ?_
      refine j_goto (tgt := 701) dL_law_697 (by decide) ?_
      refine j_lcmp dL_law_701 ?_
      refine j_top (y := 0) (by rw [if_neg h0]; exact lg_self _) ?_
      refine j_if_eq (tgt := 707) dL_law_702 (by decide) (fun _ => ?_) (fun h => absurd rfl h)
      refine j_goto (tgt := 2712) dL_law_707 (by decide) ?_
      exact next n' hn

set_option maxHeartbeats 4000000 in
set_option maxRecDepth 100000 in
theorem lc_7 {g : jv_G} {X : jv_X} {n : Nat} {sx : Nat → jv_S} {V : Nat → Nat → Int32} {L : Nat → Nat → Int64} {k z b M i : Nat} {xs : Nat → Int32} {v5 v6 v7 v8 : Option Value} (hSc : Sc g X b M xs) (hM : M ≤ 2560) (hi : i + 5 ≤ M) (hk : 1 ≤ k) (hz : 6 ≤ z) {c : Nat} {r : Int32} {V1 V2 : Nat → Nat → Int32} {L1 : Nat → Nat → Int64}
    (hA : ∀ X', jv_M g X' (TA n c sx V1 L1) → jv_J g X' I_L_startRumour 0 [some (jv_r g 0), some (.int (xs (i + 1))), some (.int (xs (i + 2))), some (jv_r g 140), none] [] n (SH sx) V L 1 6)
    (hB : ∀ n', n ≤ n' → ∀ X' T', jv_M g X' T' → T' (.inl (some (.int r))) n' (SH sx) V2 L1 → jv_J g X' I_X5_startRumour 0 [some (jv_r g 123), some (.int (xs (i + 1))), some (.int (xs (i + 2))), none, none, none, none] [] n' (SH sx) V1 L1 0 0)
    (hth : V2 123 0 = nI c) (hout : nI c = 0 → L1 140 0 = r.toInt64)
    (next : ∀ n', n ≤ n' → jv_J g X I_L_law 2712 (lws g b i (some (.int (nI c))) (some (.int r)) v7 v8) [] n' (SH sx) V2 L1 (k - 1) (z - 6)) : jv_J g X I_L_law 710 (lws g b i v5 v6 v7 v8) [] n (SH sx) V L k z := by
  refine j_aload_n_1 dL_law_710 ?_
  refine jl_ld0 dL_law_711 ?_
  refine j_iload_4 dL_law_712 ?_
  refine j_iconst (v := nI 1) dL_law_714 nc_iconst_1 ?_
  refine j_iaddN dL_law_715 ?_
  refine jl_sld hSc (by omega) hM dL_law_716 ?_
  refine jl_ld0 dL_law_717 ?_
  refine j_iload_4 dL_law_718 ?_
  refine j_iconst (v := nI 2) dL_law_720 nc_iconst_2 ?_
  refine j_iaddN dL_law_721 ?_
  refine jl_sld hSc (by omega) hM dL_law_722 ?_
  refine j_aload_n_3 dL_law_723 ?_
  refine R_L_166 (n1 := 0) (sh1 := fun _ => (0, 0, fun _ => none)) (V1 := fun _ _ => 0) (L1 := fun _ _ => 0) (T' := TA n c sx V1 L1) (k2 := k - 1) (z2 := z - 6) rfl (by decide) dL_law_724 (Nat.le_of_ble_eq_true rfl) (show 1 + (k - 1) ≤ k by omega) (show 6 + (z - 6) ≤ z by omega) hA (fun v n' sh' V' L' h => ?_) (fun E n' sh' V' L' h => by cases h.2.1)
  obtain ⟨hn, ev, rfl, rfl, rfl⟩ := h
  cases ev
  show jv_J g X I_L_law 727 _ [.int (nI c)] _ _ _ _ _ _
  refine j_istore_5 rfl (by decide) dL_law_727 ?_
  refine j_aload_n_2 dL_law_729 ?_
  refine jl_ld0 dL_law_730 ?_
  refine j_iload_4 dL_law_731 ?_
  refine j_iconst (v := nI 1) dL_law_733 nc_iconst_1 ?_
  refine j_iaddN dL_law_734 ?_
  refine jl_sld hSc (by omega) hM dL_law_735 ?_
  refine jl_ld0 dL_law_736 ?_
  refine j_iload_4 dL_law_737 ?_
  refine j_iconst (v := nI 2) dL_law_739 nc_iconst_2 ?_
  refine j_iaddN dL_law_740 ?_
  refine jl_sld hSc (by omega) hM dL_law_741 ?_
  refine C_L_168 rfl (by decide) dL_law_742 sk_123 (Nat.le_of_ble_eq_true rfl) (Nat.le_of_eq (Nat.zero_add _)) (Nat.le_of_eq (Nat.zero_add _)) (fun X' T' hM' hT' => hB n' hn X' T' hM' hT') ?_
  refine j_istore_6 rfl (by decide) dL_law_745 ?_
  refine j_aload_n_2 dL_law_747 ?_
  refine C_L_142 rfl (by decide) dL_law_748 sk_123 (Nat.le_of_ble_eq_true rfl) (Nat.le_of_eq (Nat.zero_add _)) (Nat.le_of_eq (Nat.zero_add _)) (fun _ _ hM' hT' => y_thrown hM' hT') ?_
  refine j_top (y := nI c) hth ?_
  refine j_iload_5 dL_law_751 ?_
  refine j_ic_eq (tgt := 758) dL_law_753 (by decide) (fun _ => ?_) (fun h => absurd rfl h)
  refine j_iload_5 dL_law_758 ?_
  refine j_if_ne (tgt := 775) dL_law_760 (by decide) (fun h => ?_) (fun h => ?_)
  · refine j_goto (tgt := 2712) dL_law_775 (by decide) ?_
    exact next n' hn
  · refine j_aload_n_3 dL_law_763 ?_
    refine j_iconst (v := nI 0) dL_law_764 nc_iconst_0 ?_
    refine j_lald dL_law_765 sk_140 sn_140 (by omega) (by decide) ?_
    refine j_topl (y := r.toInt64) (hout h) ?_
    refine j_iload_6 dL_law_766 ?_
    refine j_i2l dL_law_768 ?_
    refine j_lcmp dL_law_769 ?_
    refine j_top (y := 0) (lg_self _) ?_
    refine j_if_eq (tgt := 775) dL_law_770 (by decide) (fun _ => ?_) (fun h => absurd rfl h)
    refine j_goto (tgt := 2712) dL_law_775 (by decide) ?_
    exact next n' hn

set_option maxHeartbeats 4000000 in
set_option maxRecDepth 100000 in
theorem lc_8 {g : jv_G} {X : jv_X} {n : Nat} {sx : Nat → jv_S} {V : Nat → Nat → Int32} {L : Nat → Nat → Int64} {k z b M i : Nat} {xs : Nat → Int32} {v5 v6 v7 v8 : Option Value} (hSc : Sc g X b M xs) (hM : M ≤ 2560) (hi : i + 5 ≤ M) (hk : 1 ≤ k) (hz : 6 ≤ z) {c : Nat} {r : Int32} {V1 V2 : Nat → Nat → Int32} {L1 : Nat → Nat → Int64}
    (hA : ∀ X', jv_M g X' (TA n c sx V1 L1) → jv_J g X' I_L_startDenial 0 [some (jv_r g 0), some (.int (xs (i + 1))), some (.int (xs (i + 2))), some (jv_r g 140), none] [] n (SH sx) V L 1 6)
    (hB : ∀ n', n ≤ n' → ∀ X' T', jv_M g X' T' → T' (.inl (some (.int r))) n' (SH sx) V2 L1 → jv_J g X' I_X5_startDenial 0 [some (jv_r g 123), some (.int (xs (i + 1))), some (.int (xs (i + 2))), none, none] [] n' (SH sx) V1 L1 0 0)
    (hth : V2 123 0 = nI c) (hout : nI c = 0 → L1 140 0 = r.toInt64)
    (next : ∀ n', n ≤ n' → jv_J g X I_L_law 2712 (lws g b i (some (.int (nI c))) (some (.int r)) v7 v8) [] n' (SH sx) V2 L1 (k - 1) (z - 6)) : jv_J g X I_L_law 778 (lws g b i v5 v6 v7 v8) [] n (SH sx) V L k z := by
  refine j_aload_n_1 dL_law_778 ?_
  refine jl_ld0 dL_law_779 ?_
  refine j_iload_4 dL_law_780 ?_
  refine j_iconst (v := nI 1) dL_law_782 nc_iconst_1 ?_
  refine j_iaddN dL_law_783 ?_
  refine jl_sld hSc (by omega) hM dL_law_784 ?_
  refine jl_ld0 dL_law_785 ?_
  refine j_iload_4 dL_law_786 ?_
  refine j_iconst (v := nI 2) dL_law_788 nc_iconst_2 ?_
  refine j_iaddN dL_law_789 ?_
  refine jl_sld hSc (by omega) hM dL_law_790 ?_
  refine j_aload_n_3 dL_law_791 ?_
  refine R_L_169 (n1 := 0) (sh1 := fun _ => (0, 0, fun _ => none)) (V1 := fun _ _ => 0) (L1 := fun _ _ => 0) (T' := TA n c sx V1 L1) (k2 := k - 1) (z2 := z - 6) rfl (by decide) dL_law_792 (Nat.le_of_ble_eq_true rfl) (show 1 + (k - 1) ≤ k by omega) (show 6 + (z - 6) ≤ z by omega) hA (fun v n' sh' V' L' h => ?_) (fun E n' sh' V' L' h => by cases h.2.1)
  obtain ⟨hn, ev, rfl, rfl, rfl⟩ := h
  cases ev
  show jv_J g X I_L_law 795 _ [.int (nI c)] _ _ _ _ _ _
  refine j_istore_5 rfl (by decide) dL_law_795 ?_
  refine j_aload_n_2 dL_law_797 ?_
  refine jl_ld0 dL_law_798 ?_
  refine j_iload_4 dL_law_799 ?_
  refine j_iconst (v := nI 1) dL_law_801 nc_iconst_1 ?_
  refine j_iaddN dL_law_802 ?_
  refine jl_sld hSc (by omega) hM dL_law_803 ?_
  refine jl_ld0 dL_law_804 ?_
  refine j_iload_4 dL_law_805 ?_
  refine j_iconst (v := nI 2) dL_law_807 nc_iconst_2 ?_
  refine j_iaddN dL_law_808 ?_
  refine jl_sld hSc (by omega) hM dL_law_809 ?_
  refine C_L_171 rfl (by decide) dL_law_810 sk_123 (Nat.le_of_ble_eq_true rfl) (Nat.le_of_eq (Nat.zero_add _)) (Nat.le_of_eq (Nat.zero_add _)) (fun X' T' hM' hT' => hB n' hn X' T' hM' hT') ?_
  refine j_istore_6 rfl (by decide) dL_law_813 ?_
  refine j_aload_n_2 dL_law_815 ?_
  refine C_L_142 rfl (by decide) dL_law_816 sk_123 (Nat.le_of_ble_eq_true rfl) (Nat.le_of_eq (Nat.zero_add _)) (Nat.le_of_eq (Nat.zero_add _)) (fun _ _ hM' hT' => y_thrown hM' hT') ?_
  refine j_top (y := nI c) hth ?_
  refine j_iload_5 dL_law_819 ?_
  refine j_ic_eq (tgt := 826) dL_law_821 (by decide) (fun _ => ?_) (fun h => absurd rfl h)
  refine j_iload_5 dL_law_826 ?_
  refine j_if_ne (tgt := 843) dL_law_828 (by decide) (fun h => ?_) (fun h => ?_)
  · refine j_goto (tgt := 2712) dL_law_843 (by decide) ?_
    exact next n' hn
  · refine j_aload_n_3 dL_law_831 ?_
    refine j_iconst (v := nI 0) dL_law_832 nc_iconst_0 ?_
    refine j_lald dL_law_833 sk_140 sn_140 (by omega) (by decide) ?_
    refine j_topl (y := r.toInt64) (hout h) ?_
    refine j_iload_6 dL_law_834 ?_
    refine j_i2l dL_law_836 ?_
    refine j_lcmp dL_law_837 ?_
    refine j_top (y := 0) (lg_self _) ?_
    refine j_if_eq (tgt := 843) dL_law_838 (by decide) (fun _ => ?_) (fun h => absurd rfl h)
    refine j_goto (tgt := 2712) dL_law_843 (by decide) ?_
    exact next n' hn

set_option maxHeartbeats 4000000 in
set_option maxRecDepth 100000 in
theorem lc_9 {g : jv_G} {X : jv_X} {n : Nat} {sx : Nat → jv_S} {V : Nat → Nat → Int32} {L : Nat → Nat → Int64} {k z b M i : Nat} {xs : Nat → Int32} {v5 v6 v7 v8 : Option Value} (hSc : Sc g X b M xs) (hM : M ≤ 2560) (hi : i + 5 ≤ M) (hk : 1 ≤ k) (hz : 6 ≤ z) {c : Nat} {r : Int32} {V1 V2 : Nat → Nat → Int32} {L1 : Nat → Nat → Int64}
    (hA : ∀ X', jv_M g X' (TA n c sx V1 L1) → jv_J g X' I_L_passHours 0 [some (jv_r g 0), some (.int (xs (i + 1))), some (jv_r g 140), none] [] n (SH sx) V L 1 6)
    (hB : ∀ n', n ≤ n' → ∀ X' T', jv_M g X' T' → T' (.inl (some (.int r))) n' (SH sx) V2 L1 → jv_J g X' I_X5_passHours 0 [some (jv_r g 123), some (.int (xs (i + 1))), none, none] [] n' (SH sx) V1 L1 0 0)
    (hth : V2 123 0 = nI c) (hout : nI c = 0 → L1 140 0 = r.toInt64)
    (next : ∀ n', n ≤ n' → jv_J g X I_L_law 2712 (lws g b i (some (.int (nI c))) (some (.int r)) v7 v8) [] n' (SH sx) V2 L1 (k - 1) (z - 6)) : jv_J g X I_L_law 846 (lws g b i v5 v6 v7 v8) [] n (SH sx) V L k z := by
  refine j_aload_n_1 dL_law_846 ?_
  refine jl_ld0 dL_law_847 ?_
  refine j_iload_4 dL_law_848 ?_
  refine j_iconst (v := nI 1) dL_law_850 nc_iconst_1 ?_
  refine j_iaddN dL_law_851 ?_
  refine jl_sld hSc (by omega) hM dL_law_852 ?_
  refine j_aload_n_3 dL_law_853 ?_
  refine R_L_172 (n1 := 0) (sh1 := fun _ => (0, 0, fun _ => none)) (V1 := fun _ _ => 0) (L1 := fun _ _ => 0) (T' := TA n c sx V1 L1) (k2 := k - 1) (z2 := z - 6) rfl (by decide) dL_law_854 (Nat.le_of_ble_eq_true rfl) (show 1 + (k - 1) ≤ k by omega) (show 6 + (z - 6) ≤ z by omega) hA (fun v n' sh' V' L' h => ?_) (fun E n' sh' V' L' h => by cases h.2.1)
  obtain ⟨hn, ev, rfl, rfl, rfl⟩ := h
  cases ev
  show jv_J g X I_L_law 857 _ [.int (nI c)] _ _ _ _ _ _
  refine j_istore_5 rfl (by decide) dL_law_857 ?_
  refine j_aload_n_2 dL_law_859 ?_
  refine jl_ld0 dL_law_860 ?_
  refine j_iload_4 dL_law_861 ?_
  refine j_iconst (v := nI 1) dL_law_863 nc_iconst_1 ?_
  refine j_iaddN dL_law_864 ?_
  refine jl_sld hSc (by omega) hM dL_law_865 ?_
  refine C_L_174 rfl (by decide) dL_law_866 sk_123 (Nat.le_of_ble_eq_true rfl) (Nat.le_of_eq (Nat.zero_add _)) (Nat.le_of_eq (Nat.zero_add _)) (fun X' T' hM' hT' => hB n' hn X' T' hM' hT') ?_
  refine j_istore_6 rfl (by decide) dL_law_869 ?_
  refine j_aload_n_2 dL_law_871 ?_
  refine C_L_142 rfl (by decide) dL_law_872 sk_123 (Nat.le_of_ble_eq_true rfl) (Nat.le_of_eq (Nat.zero_add _)) (Nat.le_of_eq (Nat.zero_add _)) (fun _ _ hM' hT' => y_thrown hM' hT') ?_
  refine j_top (y := nI c) hth ?_
  refine j_iload_5 dL_law_875 ?_
  refine j_ic_eq (tgt := 882) dL_law_877 (by decide) (fun _ => ?_) (fun h => absurd rfl h)
  refine j_iload_5 dL_law_882 ?_
  refine j_if_ne (tgt := 899) dL_law_884 (by decide) (fun h => ?_) (fun h => ?_)
  · refine j_goto (tgt := 2712) dL_law_899 (by decide) ?_
    exact next n' hn
  · refine j_aload_n_3 dL_law_887 ?_
    refine j_iconst (v := nI 0) dL_law_888 nc_iconst_0 ?_
    refine j_lald dL_law_889 sk_140 sn_140 (by omega) (by decide) ?_
    refine j_topl (y := r.toInt64) (hout h) ?_
    refine j_iload_6 dL_law_890 ?_
    refine j_i2l dL_law_892 ?_
    refine j_lcmp dL_law_893 ?_
    refine j_top (y := 0) (lg_self _) ?_
    refine j_if_eq (tgt := 899) dL_law_894 (by decide) (fun _ => ?_) (fun h => absurd rfl h)
    refine j_goto (tgt := 2712) dL_law_899 (by decide) ?_
    exact next n' hn

set_option maxHeartbeats 4000000 in
set_option maxRecDepth 100000 in
theorem lc_14 {g : jv_G} {X : jv_X} {n : Nat} {sx : Nat → jv_S} {V : Nat → Nat → Int32} {L : Nat → Nat → Int64} {k z b M i : Nat} {xs : Nat → Int32} {v5 v6 v7 v8 : Option Value} (hSc : Sc g X b M xs) (hM : M ≤ 2560) (hi : i + 5 ≤ M) (hk : 1 ≤ k) (hz : 6 ≤ z) {c : Nat} {r : Int32} {V1 V2 : Nat → Nat → Int32} {L1 : Nat → Nat → Int64}
    (hA : ∀ X', jv_M g X' (TA n c sx V1 L1) → jv_J g X' I_L_headsOf 0 [some (jv_r g 0), some (.int (xs (i + 1))), some (jv_r g 140), none] [] n (SH sx) V L 1 6)
    (hB : ∀ n', n ≤ n' → ∀ X' T', jv_M g X' T' → T' (.inl (some (.int r))) n' (SH sx) V2 L1 → jv_J g X' I_X5_headsOf 0 [some (jv_r g 123), some (.int (xs (i + 1)))] [] n' (SH sx) V1 L1 0 0)
    (hth : V2 123 0 = nI c) (hout : nI c = 0 → L1 140 0 = r.toInt64)
    (next : ∀ n', n ≤ n' → jv_J g X I_L_law 2712 (lws g b i (some (.int (nI c))) (some (.int r)) v7 v8) [] n' (SH sx) V2 L1 (k - 1) (z - 6)) : jv_J g X I_L_law 954 (lws g b i v5 v6 v7 v8) [] n (SH sx) V L k z := by
  refine j_aload_n_1 dL_law_954 ?_
  refine jl_ld0 dL_law_955 ?_
  refine j_iload_4 dL_law_956 ?_
  refine j_iconst (v := nI 1) dL_law_958 nc_iconst_1 ?_
  refine j_iaddN dL_law_959 ?_
  refine jl_sld hSc (by omega) hM dL_law_960 ?_
  refine j_aload_n_3 dL_law_961 ?_
  refine R_L_191 (n1 := 0) (sh1 := fun _ => (0, 0, fun _ => none)) (V1 := fun _ _ => 0) (L1 := fun _ _ => 0) (T' := TA n c sx V1 L1) (k2 := k - 1) (z2 := z - 6) rfl (by decide) dL_law_962 (Nat.le_of_ble_eq_true rfl) (show 1 + (k - 1) ≤ k by omega) (show 6 + (z - 6) ≤ z by omega) hA (fun v n' sh' V' L' h => ?_) (fun E n' sh' V' L' h => by cases h.2.1)
  obtain ⟨hn, ev, rfl, rfl, rfl⟩ := h
  cases ev
  show jv_J g X I_L_law 965 _ [.int (nI c)] _ _ _ _ _ _
  refine j_istore_5 rfl (by decide) dL_law_965 ?_
  refine j_aload_n_2 dL_law_967 ?_
  refine jl_ld0 dL_law_968 ?_
  refine j_iload_4 dL_law_969 ?_
  refine j_iconst (v := nI 1) dL_law_971 nc_iconst_1 ?_
  refine j_iaddN dL_law_972 ?_
  refine jl_sld hSc (by omega) hM dL_law_973 ?_
  refine C_L_193 rfl (by decide) dL_law_974 sk_123 (Nat.le_of_ble_eq_true rfl) (Nat.le_of_eq (Nat.zero_add _)) (Nat.le_of_eq (Nat.zero_add _)) (fun X' T' hM' hT' => hB n' hn X' T' hM' hT') ?_
  refine j_istore_6 rfl (by decide) dL_law_977 ?_
  refine j_aload_n_2 dL_law_979 ?_
  refine C_L_142 rfl (by decide) dL_law_980 sk_123 (Nat.le_of_ble_eq_true rfl) (Nat.le_of_eq (Nat.zero_add _)) (Nat.le_of_eq (Nat.zero_add _)) (fun _ _ hM' hT' => y_thrown hM' hT') ?_
  refine j_top (y := nI c) hth ?_
  refine j_iload_5 dL_law_983 ?_
  refine j_ic_eq (tgt := 990) dL_law_985 (by decide) (fun _ => ?_) (fun h => absurd rfl h)
  refine j_iload_5 dL_law_990 ?_
  refine j_if_ne (tgt := 1007) dL_law_992 (by decide) (fun h => ?_) (fun h => ?_)
  · refine j_goto (tgt := 2712) dL_law_1007 (by decide) ?_
    exact next n' hn
  · refine j_aload_n_3 dL_law_995 ?_
    refine j_iconst (v := nI 0) dL_law_996 nc_iconst_0 ?_
    refine j_lald dL_law_997 sk_140 sn_140 (by omega) (by decide) ?_
    refine j_topl (y := r.toInt64) (hout h) ?_
    refine j_iload_6 dL_law_998 ?_
    refine j_i2l dL_law_1000 ?_
    refine j_lcmp dL_law_1001 ?_
    refine j_top (y := 0) (lg_self _) ?_
    refine j_if_eq (tgt := 1007) dL_law_1002 (by decide) (fun _ => ?_) (fun h => absurd rfl h)
    refine j_goto (tgt := 2712) dL_law_1007 (by decide) ?_
    exact next n' hn

set_option maxHeartbeats 4000000 in
set_option maxRecDepth 100000 in
theorem lc_15 {g : jv_G} {X : jv_X} {n : Nat} {sx : Nat → jv_S} {V : Nat → Nat → Int32} {L : Nat → Nat → Int64} {k z b M i : Nat} {xs : Nat → Int32} {v5 v6 v7 v8 : Option Value} (hSc : Sc g X b M xs) (hM : M ≤ 2560) (hi : i + 5 ≤ M) (hk : 1 ≤ k) (hz : 6 ≤ z) {c : Nat} {r : Int32} {V1 V2 : Nat → Nat → Int32} {L1 : Nat → Nat → Int64}
    (hA : ∀ X', jv_M g X' (TA n c sx V1 L1) → jv_J g X' I_L_stayOf 0 [some (jv_r g 0), some (.int (xs (i + 1))), some (jv_r g 140), none] [] n (SH sx) V L 1 6)
    (hB : ∀ n', n ≤ n' → ∀ X' T', jv_M g X' T' → T' (.inl (some (.int r))) n' (SH sx) V2 L1 → jv_J g X' I_X5_stayOf 0 [some (jv_r g 123), some (.int (xs (i + 1)))] [] n' (SH sx) V1 L1 0 0)
    (hth : V2 123 0 = nI c) (hout : nI c = 0 → L1 140 0 = r.toInt64)
    (next : ∀ n', n ≤ n' → jv_J g X I_L_law 2712 (lws g b i (some (.int (nI c))) (some (.int r)) v7 v8) [] n' (SH sx) V2 L1 (k - 1) (z - 6)) : jv_J g X I_L_law 1010 (lws g b i v5 v6 v7 v8) [] n (SH sx) V L k z := by
  refine j_aload_n_1 dL_law_1010 ?_
  refine jl_ld0 dL_law_1011 ?_
  refine j_iload_4 dL_law_1012 ?_
  refine j_iconst (v := nI 1) dL_law_1014 nc_iconst_1 ?_
  refine j_iaddN dL_law_1015 ?_
  refine jl_sld hSc (by omega) hM dL_law_1016 ?_
  refine j_aload_n_3 dL_law_1017 ?_
  refine R_L_194 (n1 := 0) (sh1 := fun _ => (0, 0, fun _ => none)) (V1 := fun _ _ => 0) (L1 := fun _ _ => 0) (T' := TA n c sx V1 L1) (k2 := k - 1) (z2 := z - 6) rfl (by decide) dL_law_1018 (Nat.le_of_ble_eq_true rfl) (show 1 + (k - 1) ≤ k by omega) (show 6 + (z - 6) ≤ z by omega) hA (fun v n' sh' V' L' h => ?_) (fun E n' sh' V' L' h => by cases h.2.1)
  obtain ⟨hn, ev, rfl, rfl, rfl⟩ := h
  cases ev
  show jv_J g X I_L_law 1021 _ [.int (nI c)] _ _ _ _ _ _
  refine j_istore_5 rfl (by decide) dL_law_1021 ?_
  refine j_aload_n_2 dL_law_1023 ?_
  refine jl_ld0 dL_law_1024 ?_
  refine j_iload_4 dL_law_1025 ?_
  refine j_iconst (v := nI 1) dL_law_1027 nc_iconst_1 ?_
  refine j_iaddN dL_law_1028 ?_
  refine jl_sld hSc (by omega) hM dL_law_1029 ?_
  refine C_L_196 rfl (by decide) dL_law_1030 sk_123 (Nat.le_of_ble_eq_true rfl) (Nat.le_of_eq (Nat.zero_add _)) (Nat.le_of_eq (Nat.zero_add _)) (fun X' T' hM' hT' => hB n' hn X' T' hM' hT') ?_
  refine j_istore_6 rfl (by decide) dL_law_1033 ?_
  refine j_aload_n_2 dL_law_1035 ?_
  refine C_L_142 rfl (by decide) dL_law_1036 sk_123 (Nat.le_of_ble_eq_true rfl) (Nat.le_of_eq (Nat.zero_add _)) (Nat.le_of_eq (Nat.zero_add _)) (fun _ _ hM' hT' => y_thrown hM' hT') ?_
  refine j_top (y := nI c) hth ?_
  refine j_iload_5 dL_law_1039 ?_
  refine j_ic_eq (tgt := 1046) dL_law_1041 (by decide) (fun _ => ?_) (fun h => absurd rfl h)
  refine j_iload_5 dL_law_1046 ?_
  refine j_if_ne (tgt := 1063) dL_law_1048 (by decide) (fun h => ?_) (fun h => ?_)
  · refine j_goto (tgt := 2712) dL_law_1063 (by decide) ?_
    exact next n' hn
  · refine j_aload_n_3 dL_law_1051 ?_
    refine j_iconst (v := nI 0) dL_law_1052 nc_iconst_0 ?_
    refine j_lald dL_law_1053 sk_140 sn_140 (by omega) (by decide) ?_
    refine j_topl (y := r.toInt64) (hout h) ?_
    refine j_iload_6 dL_law_1054 ?_
    refine j_i2l dL_law_1056 ?_
    refine j_lcmp dL_law_1057 ?_
    refine j_top (y := 0) (lg_self _) ?_
    refine j_if_eq (tgt := 1063) dL_law_1058 (by decide) (fun _ => ?_) (fun h => absurd rfl h)
    refine j_goto (tgt := 2712) dL_law_1063 (by decide) ?_
    exact next n' hn

set_option maxHeartbeats 4000000 in
set_option maxRecDepth 100000 in
theorem lc_16 {g : jv_G} {X : jv_X} {n : Nat} {sx : Nat → jv_S} {V : Nat → Nat → Int32} {L : Nat → Nat → Int64} {k z b M i : Nat} {xs : Nat → Int32} {v5 v6 v7 v8 : Option Value} (hSc : Sc g X b M xs) (hM : M ≤ 2560) (hi : i + 5 ≤ M) (hk : 1 ≤ k) (hz : 6 ≤ z) {c : Nat} {r : Int32} {V1 V2 : Nat → Nat → Int32} {L1 : Nat → Nat → Int64}
    (hA : ∀ X', jv_M g X' (TA n c sx V1 L1) → jv_J g X' I_L_stairsOf 0 [some (jv_r g 0), some (.int (xs (i + 1))), some (jv_r g 140), none] [] n (SH sx) V L 1 6)
    (hB : ∀ n', n ≤ n' → ∀ X' T', jv_M g X' T' → T' (.inl (some (.int r))) n' (SH sx) V2 L1 → jv_J g X' I_X5_stairsOf 0 [some (jv_r g 123), some (.int (xs (i + 1)))] [] n' (SH sx) V1 L1 0 0)
    (hth : V2 123 0 = nI c) (hout : nI c = 0 → L1 140 0 = r.toInt64)
    (next : ∀ n', n ≤ n' → jv_J g X I_L_law 2712 (lws g b i (some (.int (nI c))) (some (.int r)) v7 v8) [] n' (SH sx) V2 L1 (k - 1) (z - 6)) : jv_J g X I_L_law 1066 (lws g b i v5 v6 v7 v8) [] n (SH sx) V L k z := by
  refine j_aload_n_1 dL_law_1066 ?_
  refine jl_ld0 dL_law_1067 ?_
  refine j_iload_4 dL_law_1068 ?_
  refine j_iconst (v := nI 1) dL_law_1070 nc_iconst_1 ?_
  refine j_iaddN dL_law_1071 ?_
  refine jl_sld hSc (by omega) hM dL_law_1072 ?_
  refine j_aload_n_3 dL_law_1073 ?_
  refine R_L_197 (n1 := 0) (sh1 := fun _ => (0, 0, fun _ => none)) (V1 := fun _ _ => 0) (L1 := fun _ _ => 0) (T' := TA n c sx V1 L1) (k2 := k - 1) (z2 := z - 6) rfl (by decide) dL_law_1074 (Nat.le_of_ble_eq_true rfl) (show 1 + (k - 1) ≤ k by omega) (show 6 + (z - 6) ≤ z by omega) hA (fun v n' sh' V' L' h => ?_) (fun E n' sh' V' L' h => by cases h.2.1)
  obtain ⟨hn, ev, rfl, rfl, rfl⟩ := h
  cases ev
  show jv_J g X I_L_law 1077 _ [.int (nI c)] _ _ _ _ _ _
  refine j_istore_5 rfl (by decide) dL_law_1077 ?_
  refine j_aload_n_2 dL_law_1079 ?_
  refine jl_ld0 dL_law_1080 ?_
  refine j_iload_4 dL_law_1081 ?_
  refine j_iconst (v := nI 1) dL_law_1083 nc_iconst_1 ?_
  refine j_iaddN dL_law_1084 ?_
  refine jl_sld hSc (by omega) hM dL_law_1085 ?_
  refine C_L_199 rfl (by decide) dL_law_1086 sk_123 (Nat.le_of_ble_eq_true rfl) (Nat.le_of_eq (Nat.zero_add _)) (Nat.le_of_eq (Nat.zero_add _)) (fun X' T' hM' hT' => hB n' hn X' T' hM' hT') ?_
  refine j_istore_6 rfl (by decide) dL_law_1089 ?_
  refine j_aload_n_2 dL_law_1091 ?_
  refine C_L_142 rfl (by decide) dL_law_1092 sk_123 (Nat.le_of_ble_eq_true rfl) (Nat.le_of_eq (Nat.zero_add _)) (Nat.le_of_eq (Nat.zero_add _)) (fun _ _ hM' hT' => y_thrown hM' hT') ?_
  refine j_top (y := nI c) hth ?_
  refine j_iload_5 dL_law_1095 ?_
  refine j_ic_eq (tgt := 1102) dL_law_1097 (by decide) (fun _ => ?_) (fun h => absurd rfl h)
  refine j_iload_5 dL_law_1102 ?_
  refine j_if_ne (tgt := 1119) dL_law_1104 (by decide) (fun h => ?_) (fun h => ?_)
  · refine j_goto (tgt := 2712) dL_law_1119 (by decide) ?_
    exact next n' hn
  · refine j_aload_n_3 dL_law_1107 ?_
    refine j_iconst (v := nI 0) dL_law_1108 nc_iconst_0 ?_
    refine j_lald dL_law_1109 sk_140 sn_140 (by omega) (by decide) ?_
    refine j_topl (y := r.toInt64) (hout h) ?_
    refine j_iload_6 dL_law_1110 ?_
    refine j_i2l dL_law_1112 ?_
    refine j_lcmp dL_law_1113 ?_
    refine j_top (y := 0) (lg_self _) ?_
    refine j_if_eq (tgt := 1119) dL_law_1114 (by decide) (fun _ => ?_) (fun h => absurd rfl h)
    refine j_goto (tgt := 2712) dL_law_1119 (by decide) ?_
    exact next n' hn

set_option maxHeartbeats 4000000 in
set_option maxRecDepth 100000 in
theorem lc_17 {g : jv_G} {X : jv_X} {n : Nat} {sx : Nat → jv_S} {V : Nat → Nat → Int32} {L : Nat → Nat → Int64} {k z b M i : Nat} {xs : Nat → Int32} {v5 v6 v7 v8 : Option Value} (hSc : Sc g X b M xs) (hM : M ≤ 2560) (hi : i + 5 ≤ M) (hk : 1 ≤ k) (hz : 6 ≤ z) {c : Nat} {r : Int32} {V1 V2 : Nat → Nat → Int32} {L1 : Nat → Nat → Int64}
    (hA : ∀ X', jv_M g X' (TA n c sx V1 L1) → jv_J g X' I_L_isOpen 0 [some (jv_r g 0), some (.int (xs (i + 1))), some (jv_r g 140), none] [] n (SH sx) V L 1 6)
    (hB : ∀ n', n ≤ n' → ∀ X' T', jv_M g X' T' → T' (.inl (some (.int r))) n' (SH sx) V2 L1 → jv_J g X' I_X5_isOpen 0 [some (jv_r g 123), some (.int (xs (i + 1)))] [] n' (SH sx) V1 L1 0 0)
    (hth : V2 123 0 = nI c) (hout : nI c = 0 → L1 140 0 = if r = 0 then 0 else 1)
    (next : ∀ n', n ≤ n' → jv_J g X I_L_law 2712 (lws g b i (some (.int (nI c))) (some (.int r)) v7 v8) [] n' (SH sx) V2 L1 (k - 1) (z - 6)) : jv_J g X I_L_law 1122 (lws g b i v5 v6 v7 v8) [] n (SH sx) V L k z := by
  refine j_aload_n_1 dL_law_1122 ?_
  refine jl_ld0 dL_law_1123 ?_
  refine j_iload_4 dL_law_1124 ?_
  refine j_iconst (v := nI 1) dL_law_1126 nc_iconst_1 ?_
  refine j_iaddN dL_law_1127 ?_
  refine jl_sld hSc (by omega) hM dL_law_1128 ?_
  refine j_aload_n_3 dL_law_1129 ?_
  refine R_L_200 (n1 := 0) (sh1 := fun _ => (0, 0, fun _ => none)) (V1 := fun _ _ => 0) (L1 := fun _ _ => 0) (T' := TA n c sx V1 L1) (k2 := k - 1) (z2 := z - 6) rfl (by decide) dL_law_1130 (Nat.le_of_ble_eq_true rfl) (show 1 + (k - 1) ≤ k by omega) (show 6 + (z - 6) ≤ z by omega) hA (fun v n' sh' V' L' h => ?_) (fun E n' sh' V' L' h => by cases h.2.1)
  obtain ⟨hn, ev, rfl, rfl, rfl⟩ := h
  cases ev
  show jv_J g X I_L_law 1133 _ [.int (nI c)] _ _ _ _ _ _
  refine j_istore_5 rfl (by decide) dL_law_1133 ?_
  refine j_aload_n_2 dL_law_1135 ?_
  refine jl_ld0 dL_law_1136 ?_
  refine j_iload_4 dL_law_1137 ?_
  refine j_iconst (v := nI 1) dL_law_1139 nc_iconst_1 ?_
  refine j_iaddN dL_law_1140 ?_
  refine jl_sld hSc (by omega) hM dL_law_1141 ?_
  refine C_L_202 rfl (by decide) dL_law_1142 sk_123 (Nat.le_of_ble_eq_true rfl) (Nat.le_of_eq (Nat.zero_add _)) (Nat.le_of_eq (Nat.zero_add _)) (fun X' T' hM' hT' => hB n' hn X' T' hM' hT') ?_
  refine j_istore_6 rfl (by decide) dL_law_1145 ?_
  refine j_aload_n_2 dL_law_1147 ?_
  refine C_L_142 rfl (by decide) dL_law_1148 sk_123 (Nat.le_of_ble_eq_true rfl) (Nat.le_of_eq (Nat.zero_add _)) (Nat.le_of_eq (Nat.zero_add _)) (fun _ _ hM' hT' => y_thrown hM' hT') ?_
  refine j_top (y := nI c) hth ?_
  refine j_iload_5 dL_law_1151 ?_
  refine j_ic_eq (tgt := 1158) dL_law_1153 (by decide) (fun _ => ?_) (fun h => absurd rfl h)
  refine j_iload_5 dL_law_1158 ?_
  refine j_if_ne (tgt := 1182) dL_law_1160 (by decide) (fun h => ?_) (fun h => ?_)
  · refine j_goto (tgt := 2712) dL_law_1182 (by decide) ?_
    exact next n' hn
  · refine j_aload_n_3 dL_law_1163 ?_
    refine j_iconst (v := nI 0) dL_law_1164 nc_iconst_0 ?_
    refine j_lald dL_law_1165 sk_140 sn_140 (by omega) (by decide) ?_
    refine j_topl (y := if r = 0 then 0 else 1) (hout h) ?_
    refine j_iload_6 dL_law_1166 ?_
    refine j_if_eq (tgt := 1175) dL_law_1168 (by decide) (fun h0 => ?_) (fun h0 => ?_)
    · refine j_lconst dL_law_1175 rfl ?_
      refine j_lcmp dL_law_1176 ?_
      refine j_top (y := 0) (by rw [if_pos h0]; exact lg_self _) ?_
      refine j_if_eq (tgt := 1182) dL_law_1177 (by decide) (fun _ => ?_) (fun h => absurd rfl h)
      refine j_goto (tgt := 2712) dL_law_1182 (by decide) ?_
      exact next n' hn
    · refine j_lconst dL_law_1171 rfl ?_
      refine j_goto (tgt := 1176) dL_law_1172 (by decide) ?_
      refine j_lcmp dL_law_1176 ?_
      refine j_top (y := 0) (by rw [if_neg h0]; exact lg_self _) ?_
      refine j_if_eq (tgt := 1182) dL_law_1177 (by decide) (fun _ => ?_) (fun h => absurd rfl h)
      refine j_goto (tgt := 2712) dL_law_1182 (by decide) ?_
      exact next n' hn

set_option maxHeartbeats 4000000 in
set_option maxRecDepth 100000 in
theorem lc_18 {g : jv_G} {X : jv_X} {n : Nat} {sx : Nat → jv_S} {V : Nat → Nat → Int32} {L : Nat → Nat → Int64} {k z b M i : Nat} {xs : Nat → Int32} {v5 v6 v7 v8 : Option Value} (hSc : Sc g X b M xs) (hM : M ≤ 2560) (hi : i + 5 ≤ M) (hk : 1 ≤ k) (hz : 6 ≤ z) {c : Nat} {r : Int32} {V1 V2 : Nat → Nat → Int32} {L1 : Nat → Nat → Int64}
    (hA : ∀ X', jv_M g X' (TA n c sx V1 L1) → jv_J g X' I_L_runs 0 [some (jv_r g 0), some (.int (xs (i + 1))), some (jv_r g 140), none] [] n (SH sx) V L 1 6)
    (hB : ∀ n', n ≤ n' → ∀ X' T', jv_M g X' T' → T' (.inl (some (.int r))) n' (SH sx) V2 L1 → jv_J g X' I_X5_runs 0 [some (jv_r g 123), some (.int (xs (i + 1)))] [] n' (SH sx) V1 L1 0 0)
    (hth : V2 123 0 = nI c) (hout : nI c = 0 → L1 140 0 = if r = 0 then 0 else 1)
    (next : ∀ n', n ≤ n' → jv_J g X I_L_law 2712 (lws g b i (some (.int (nI c))) (some (.int r)) v7 v8) [] n' (SH sx) V2 L1 (k - 1) (z - 6)) : jv_J g X I_L_law 1185 (lws g b i v5 v6 v7 v8) [] n (SH sx) V L k z := by
  refine j_aload_n_1 dL_law_1185 ?_
  refine jl_ld0 dL_law_1186 ?_
  refine j_iload_4 dL_law_1187 ?_
  refine j_iconst (v := nI 1) dL_law_1189 nc_iconst_1 ?_
  refine j_iaddN dL_law_1190 ?_
  refine jl_sld hSc (by omega) hM dL_law_1191 ?_
  refine j_aload_n_3 dL_law_1192 ?_
  refine R_L_203 (n1 := 0) (sh1 := fun _ => (0, 0, fun _ => none)) (V1 := fun _ _ => 0) (L1 := fun _ _ => 0) (T' := TA n c sx V1 L1) (k2 := k - 1) (z2 := z - 6) rfl (by decide) dL_law_1193 (Nat.le_of_ble_eq_true rfl) (show 1 + (k - 1) ≤ k by omega) (show 6 + (z - 6) ≤ z by omega) hA (fun v n' sh' V' L' h => ?_) (fun E n' sh' V' L' h => by cases h.2.1)
  obtain ⟨hn, ev, rfl, rfl, rfl⟩ := h
  cases ev
  show jv_J g X I_L_law 1196 _ [.int (nI c)] _ _ _ _ _ _
  refine j_istore_5 rfl (by decide) dL_law_1196 ?_
  refine j_aload_n_2 dL_law_1198 ?_
  refine jl_ld0 dL_law_1199 ?_
  refine j_iload_4 dL_law_1200 ?_
  refine j_iconst (v := nI 1) dL_law_1202 nc_iconst_1 ?_
  refine j_iaddN dL_law_1203 ?_
  refine jl_sld hSc (by omega) hM dL_law_1204 ?_
  refine C_L_205 rfl (by decide) dL_law_1205 sk_123 (Nat.le_of_ble_eq_true rfl) (Nat.le_of_eq (Nat.zero_add _)) (Nat.le_of_eq (Nat.zero_add _)) (fun X' T' hM' hT' => hB n' hn X' T' hM' hT') ?_
  refine j_istore_6 rfl (by decide) dL_law_1208 ?_
  refine j_aload_n_2 dL_law_1210 ?_
  refine C_L_142 rfl (by decide) dL_law_1211 sk_123 (Nat.le_of_ble_eq_true rfl) (Nat.le_of_eq (Nat.zero_add _)) (Nat.le_of_eq (Nat.zero_add _)) (fun _ _ hM' hT' => y_thrown hM' hT') ?_
  refine j_top (y := nI c) hth ?_
  refine j_iload_5 dL_law_1214 ?_
  refine j_ic_eq (tgt := 1221) dL_law_1216 (by decide) (fun _ => ?_) (fun h => absurd rfl h)
  refine j_iload_5 dL_law_1221 ?_
  refine j_if_ne (tgt := 1245) dL_law_1223 (by decide) (fun h => ?_) (fun h => ?_)
  · refine j_goto (tgt := 2712) dL_law_1245 (by decide) ?_
    exact next n' hn
  · refine j_aload_n_3 dL_law_1226 ?_
    refine j_iconst (v := nI 0) dL_law_1227 nc_iconst_0 ?_
    refine j_lald dL_law_1228 sk_140 sn_140 (by omega) (by decide) ?_
    refine j_topl (y := if r = 0 then 0 else 1) (hout h) ?_
    refine j_iload_6 dL_law_1229 ?_
    refine j_if_eq (tgt := 1238) dL_law_1231 (by decide) (fun h0 => ?_) (fun h0 => ?_)
    · refine j_lconst dL_law_1238 rfl ?_
      refine j_lcmp dL_law_1239 ?_
      refine j_top (y := 0) (by rw [if_pos h0]; exact lg_self _) ?_
      refine j_if_eq (tgt := 1245) dL_law_1240 (by decide) (fun _ => ?_) (fun h => absurd rfl h)
      refine j_goto (tgt := 2712) dL_law_1245 (by decide) ?_
      exact next n' hn
    · refine j_lconst dL_law_1234 rfl ?_
      refine j_goto (tgt := 1239) dL_law_1235 (by decide) ?_
      refine j_lcmp dL_law_1239 ?_
      refine j_top (y := 0) (by rw [if_neg h0]; exact lg_self _) ?_
      refine j_if_eq (tgt := 1245) dL_law_1240 (by decide) (fun _ => ?_) (fun h => absurd rfl h)
      refine j_goto (tgt := 2712) dL_law_1245 (by decide) ?_
      exact next n' hn

set_option maxHeartbeats 4000000 in
set_option maxRecDepth 100000 in
theorem lc_19 {g : jv_G} {X : jv_X} {n : Nat} {sx : Nat → jv_S} {V : Nat → Nat → Int32} {L : Nat → Nat → Int64} {k z b M i : Nat} {xs : Nat → Int32} {v5 v6 v7 v8 : Option Value} (hSc : Sc g X b M xs) (hM : M ≤ 2560) (hi : i + 5 ≤ M) (hk : 1 ≤ k) (hz : 6 ≤ z) {c : Nat} {r : Int32} {V1 V2 : Nat → Nat → Int32} {L1 : Nat → Nat → Int64}
    (hA : ∀ X', jv_M g X' (TA n c sx V1 L1) → jv_J g X' I_L_serves 0 [some (jv_r g 0), some (.int (xs (i + 1))), some (.int (xs (i + 2))), some (jv_r g 140), none] [] n (SH sx) V L 1 6)
    (hB : ∀ n', n ≤ n' → ∀ X' T', jv_M g X' T' → T' (.inl (some (.int r))) n' (SH sx) V2 L1 → jv_J g X' I_X5_serves 0 [some (jv_r g 123), some (.int (xs (i + 1))), some (.int (xs (i + 2)))] [] n' (SH sx) V1 L1 0 0)
    (hth : V2 123 0 = nI c) (hout : nI c = 0 → L1 140 0 = if r = 0 then 0 else 1)
    (next : ∀ n', n ≤ n' → jv_J g X I_L_law 2712 (lws g b i (some (.int (nI c))) (some (.int r)) v7 v8) [] n' (SH sx) V2 L1 (k - 1) (z - 6)) : jv_J g X I_L_law 1248 (lws g b i v5 v6 v7 v8) [] n (SH sx) V L k z := by
  refine j_aload_n_1 dL_law_1248 ?_
  refine jl_ld0 dL_law_1249 ?_
  refine j_iload_4 dL_law_1250 ?_
  refine j_iconst (v := nI 1) dL_law_1252 nc_iconst_1 ?_
  refine j_iaddN dL_law_1253 ?_
  refine jl_sld hSc (by omega) hM dL_law_1254 ?_
  refine jl_ld0 dL_law_1255 ?_
  refine j_iload_4 dL_law_1256 ?_
  refine j_iconst (v := nI 2) dL_law_1258 nc_iconst_2 ?_
  refine j_iaddN dL_law_1259 ?_
  refine jl_sld hSc (by omega) hM dL_law_1260 ?_
  refine j_aload_n_3 dL_law_1261 ?_
  refine R_L_206 (n1 := 0) (sh1 := fun _ => (0, 0, fun _ => none)) (V1 := fun _ _ => 0) (L1 := fun _ _ => 0) (T' := TA n c sx V1 L1) (k2 := k - 1) (z2 := z - 6) rfl (by decide) dL_law_1262 (Nat.le_of_ble_eq_true rfl) (show 1 + (k - 1) ≤ k by omega) (show 6 + (z - 6) ≤ z by omega) hA (fun v n' sh' V' L' h => ?_) (fun E n' sh' V' L' h => by cases h.2.1)
  obtain ⟨hn, ev, rfl, rfl, rfl⟩ := h
  cases ev
  show jv_J g X I_L_law 1265 _ [.int (nI c)] _ _ _ _ _ _
  refine j_istore_5 rfl (by decide) dL_law_1265 ?_
  refine j_aload_n_2 dL_law_1267 ?_
  refine jl_ld0 dL_law_1268 ?_
  refine j_iload_4 dL_law_1269 ?_
  refine j_iconst (v := nI 1) dL_law_1271 nc_iconst_1 ?_
  refine j_iaddN dL_law_1272 ?_
  refine jl_sld hSc (by omega) hM dL_law_1273 ?_
  refine jl_ld0 dL_law_1274 ?_
  refine j_iload_4 dL_law_1275 ?_
  refine j_iconst (v := nI 2) dL_law_1277 nc_iconst_2 ?_
  refine j_iaddN dL_law_1278 ?_
  refine jl_sld hSc (by omega) hM dL_law_1279 ?_
  refine C_L_208 rfl (by decide) dL_law_1280 sk_123 (Nat.le_of_ble_eq_true rfl) (Nat.le_of_eq (Nat.zero_add _)) (Nat.le_of_eq (Nat.zero_add _)) (fun X' T' hM' hT' => hB n' hn X' T' hM' hT') ?_
  refine j_istore_6 rfl (by decide) dL_law_1283 ?_
  refine j_aload_n_2 dL_law_1285 ?_
  refine C_L_142 rfl (by decide) dL_law_1286 sk_123 (Nat.le_of_ble_eq_true rfl) (Nat.le_of_eq (Nat.zero_add _)) (Nat.le_of_eq (Nat.zero_add _)) (fun _ _ hM' hT' => y_thrown hM' hT') ?_
  refine j_top (y := nI c) hth ?_
  refine j_iload_5 dL_law_1289 ?_
  refine j_ic_eq (tgt := 1296) dL_law_1291 (by decide) (fun _ => ?_) (fun h => absurd rfl h)
  refine j_iload_5 dL_law_1296 ?_
  refine j_if_ne (tgt := 1320) dL_law_1298 (by decide) (fun h => ?_) (fun h => ?_)
  · refine j_goto (tgt := 2712) dL_law_1320 (by decide) ?_
    exact next n' hn
  · refine j_aload_n_3 dL_law_1301 ?_
    refine j_iconst (v := nI 0) dL_law_1302 nc_iconst_0 ?_
    refine j_lald dL_law_1303 sk_140 sn_140 (by omega) (by decide) ?_
    refine j_topl (y := if r = 0 then 0 else 1) (hout h) ?_
    refine j_iload_6 dL_law_1304 ?_
    refine j_if_eq (tgt := 1313) dL_law_1306 (by decide) (fun h0 => ?_) (fun h0 => ?_)
    · refine j_lconst dL_law_1313 rfl ?_
      refine j_lcmp dL_law_1314 ?_
      refine j_top (y := 0) (by rw [if_pos h0]; exact lg_self _) ?_
      refine j_if_eq (tgt := 1320) dL_law_1315 (by decide) (fun _ => ?_) (fun h => absurd rfl h)
      refine j_goto (tgt := 2712) dL_law_1320 (by decide) ?_
      exact next n' hn
    · refine j_lconst dL_law_1309 rfl ?_
      refine j_goto (tgt := 1314) dL_law_1310 (by decide) ?_
      refine j_lcmp dL_law_1314 ?_
      refine j_top (y := 0) (by rw [if_neg h0]; exact lg_self _) ?_
      refine j_if_eq (tgt := 1320) dL_law_1315 (by decide) (fun _ => ?_) (fun h => absurd rfl h)
      refine j_goto (tgt := 2712) dL_law_1320 (by decide) ?_
      exact next n' hn

set_option maxHeartbeats 4000000 in
set_option maxRecDepth 100000 in
theorem lc_20 {g : jv_G} {X : jv_X} {n : Nat} {sx : Nat → jv_S} {V : Nat → Nat → Int32} {L : Nat → Nat → Int64} {k z b M i : Nat} {xs : Nat → Int32} {v5 v6 v7 v8 : Option Value} (hSc : Sc g X b M xs) (hM : M ≤ 2560) (hi : i + 5 ≤ M) (hk : 1 ≤ k) (hz : 6 ≤ z) {c : Nat} {r : Int32} {V1 V2 : Nat → Nat → Int32} {L1 : Nat → Nat → Int64}
    (hA : ∀ X', jv_M g X' (TA n c sx V1 L1) → jv_J g X' I_L_pipe 0 [some (jv_r g 0), some (.int (xs (i + 1))), some (.int (xs (i + 2))), some (jv_r g 140), none] [] n (SH sx) V L 1 6)
    (hB : ∀ n', n ≤ n' → ∀ X' T', jv_M g X' T' → T' (.inl (some (.int r))) n' (SH sx) V2 L1 → jv_J g X' I_X5_pipe 0 [some (jv_r g 123), some (.int (xs (i + 1))), some (.int (xs (i + 2)))] [] n' (SH sx) V1 L1 0 0)
    (hth : V2 123 0 = nI c) (hout : nI c = 0 → L1 140 0 = r.toInt64)
    (next : ∀ n', n ≤ n' → jv_J g X I_L_law 2712 (lws g b i (some (.int (nI c))) (some (.int r)) v7 v8) [] n' (SH sx) V2 L1 (k - 1) (z - 6)) : jv_J g X I_L_law 1323 (lws g b i v5 v6 v7 v8) [] n (SH sx) V L k z := by
  refine j_aload_n_1 dL_law_1323 ?_
  refine jl_ld0 dL_law_1324 ?_
  refine j_iload_4 dL_law_1325 ?_
  refine j_iconst (v := nI 1) dL_law_1327 nc_iconst_1 ?_
  refine j_iaddN dL_law_1328 ?_
  refine jl_sld hSc (by omega) hM dL_law_1329 ?_
  refine jl_ld0 dL_law_1330 ?_
  refine j_iload_4 dL_law_1331 ?_
  refine j_iconst (v := nI 2) dL_law_1333 nc_iconst_2 ?_
  refine j_iaddN dL_law_1334 ?_
  refine jl_sld hSc (by omega) hM dL_law_1335 ?_
  refine j_aload_n_3 dL_law_1336 ?_
  refine R_L_209 (n1 := 0) (sh1 := fun _ => (0, 0, fun _ => none)) (V1 := fun _ _ => 0) (L1 := fun _ _ => 0) (T' := TA n c sx V1 L1) (k2 := k - 1) (z2 := z - 6) rfl (by decide) dL_law_1337 (Nat.le_of_ble_eq_true rfl) (show 1 + (k - 1) ≤ k by omega) (show 6 + (z - 6) ≤ z by omega) hA (fun v n' sh' V' L' h => ?_) (fun E n' sh' V' L' h => by cases h.2.1)
  obtain ⟨hn, ev, rfl, rfl, rfl⟩ := h
  cases ev
  show jv_J g X I_L_law 1340 _ [.int (nI c)] _ _ _ _ _ _
  refine j_istore_5 rfl (by decide) dL_law_1340 ?_
  refine j_aload_n_2 dL_law_1342 ?_
  refine jl_ld0 dL_law_1343 ?_
  refine j_iload_4 dL_law_1344 ?_
  refine j_iconst (v := nI 1) dL_law_1346 nc_iconst_1 ?_
  refine j_iaddN dL_law_1347 ?_
  refine jl_sld hSc (by omega) hM dL_law_1348 ?_
  refine jl_ld0 dL_law_1349 ?_
  refine j_iload_4 dL_law_1350 ?_
  refine j_iconst (v := nI 2) dL_law_1352 nc_iconst_2 ?_
  refine j_iaddN dL_law_1353 ?_
  refine jl_sld hSc (by omega) hM dL_law_1354 ?_
  refine C_L_211 rfl (by decide) dL_law_1355 sk_123 (Nat.le_of_ble_eq_true rfl) (Nat.le_of_eq (Nat.zero_add _)) (Nat.le_of_eq (Nat.zero_add _)) (fun X' T' hM' hT' => hB n' hn X' T' hM' hT') ?_
  refine j_istore_6 rfl (by decide) dL_law_1358 ?_
  refine j_aload_n_2 dL_law_1360 ?_
  refine C_L_142 rfl (by decide) dL_law_1361 sk_123 (Nat.le_of_ble_eq_true rfl) (Nat.le_of_eq (Nat.zero_add _)) (Nat.le_of_eq (Nat.zero_add _)) (fun _ _ hM' hT' => y_thrown hM' hT') ?_
  refine j_top (y := nI c) hth ?_
  refine j_iload_5 dL_law_1364 ?_
  refine j_ic_eq (tgt := 1371) dL_law_1366 (by decide) (fun _ => ?_) (fun h => absurd rfl h)
  refine j_iload_5 dL_law_1371 ?_
  refine j_if_ne (tgt := 1388) dL_law_1373 (by decide) (fun h => ?_) (fun h => ?_)
  · refine j_goto (tgt := 2712) dL_law_1388 (by decide) ?_
    exact next n' hn
  · refine j_aload_n_3 dL_law_1376 ?_
    refine j_iconst (v := nI 0) dL_law_1377 nc_iconst_0 ?_
    refine j_lald dL_law_1378 sk_140 sn_140 (by omega) (by decide) ?_
    refine j_topl (y := r.toInt64) (hout h) ?_
    refine j_iload_6 dL_law_1379 ?_
    refine j_i2l dL_law_1381 ?_
    refine j_lcmp dL_law_1382 ?_
    refine j_top (y := 0) (lg_self _) ?_
    refine j_if_eq (tgt := 1388) dL_law_1383 (by decide) (fun _ => ?_) (fun h => absurd rfl h)
    refine j_goto (tgt := 2712) dL_law_1388 (by decide) ?_
    exact next n' hn

set_option maxHeartbeats 4000000 in
set_option maxRecDepth 100000 in
theorem lc_21 {g : jv_G} {X : jv_X} {n : Nat} {sx : Nat → jv_S} {V : Nat → Nat → Int32} {L : Nat → Nat → Int64} {k z b M i : Nat} {xs : Nat → Int32} {v5 v6 v7 v8 : Option Value} (hSc : Sc g X b M xs) (hM : M ≤ 2560) (hi : i + 5 ≤ M) (hk : 1 ≤ k) (hz : 6 ≤ z) {c : Nat} {r : Int32} {V1 V2 : Nat → Nat → Int32} {L1 : Nat → Nat → Int64}
    (hA : ∀ X', jv_M g X' (TA n c sx V1 L1) → jv_J g X' I_L_neighbours 0 [some (jv_r g 0), some (.int (xs (i + 1))), some (jv_r g 140), none] [] n (SH sx) V L 1 6)
    (hB : ∀ n', n ≤ n' → ∀ X' T', jv_M g X' T' → T' (.inl (some (.int r))) n' (SH sx) V2 L1 → jv_J g X' I_X5_neighbours 0 [some (jv_r g 123), some (.int (xs (i + 1)))] [] n' (SH sx) V1 L1 0 0)
    (hth : V2 123 0 = nI c) (hout : nI c = 0 → L1 140 0 = r.toInt64)
    (next : ∀ n', n ≤ n' → jv_J g X I_L_law 2712 (lws g b i (some (.int (nI c))) (some (.int r)) v7 v8) [] n' (SH sx) V2 L1 (k - 1) (z - 6)) : jv_J g X I_L_law 1391 (lws g b i v5 v6 v7 v8) [] n (SH sx) V L k z := by
  refine j_aload_n_1 dL_law_1391 ?_
  refine jl_ld0 dL_law_1392 ?_
  refine j_iload_4 dL_law_1393 ?_
  refine j_iconst (v := nI 1) dL_law_1395 nc_iconst_1 ?_
  refine j_iaddN dL_law_1396 ?_
  refine jl_sld hSc (by omega) hM dL_law_1397 ?_
  refine j_aload_n_3 dL_law_1398 ?_
  refine R_L_212 (n1 := 0) (sh1 := fun _ => (0, 0, fun _ => none)) (V1 := fun _ _ => 0) (L1 := fun _ _ => 0) (T' := TA n c sx V1 L1) (k2 := k - 1) (z2 := z - 6) rfl (by decide) dL_law_1399 (Nat.le_of_ble_eq_true rfl) (show 1 + (k - 1) ≤ k by omega) (show 6 + (z - 6) ≤ z by omega) hA (fun v n' sh' V' L' h => ?_) (fun E n' sh' V' L' h => by cases h.2.1)
  obtain ⟨hn, ev, rfl, rfl, rfl⟩ := h
  cases ev
  show jv_J g X I_L_law 1402 _ [.int (nI c)] _ _ _ _ _ _
  refine j_istore_5 rfl (by decide) dL_law_1402 ?_
  refine j_aload_n_2 dL_law_1404 ?_
  refine jl_ld0 dL_law_1405 ?_
  refine j_iload_4 dL_law_1406 ?_
  refine j_iconst (v := nI 1) dL_law_1408 nc_iconst_1 ?_
  refine j_iaddN dL_law_1409 ?_
  refine jl_sld hSc (by omega) hM dL_law_1410 ?_
  refine C_L_214 rfl (by decide) dL_law_1411 sk_123 (Nat.le_of_ble_eq_true rfl) (Nat.le_of_eq (Nat.zero_add _)) (Nat.le_of_eq (Nat.zero_add _)) (fun X' T' hM' hT' => hB n' hn X' T' hM' hT') ?_
  refine j_istore_6 rfl (by decide) dL_law_1414 ?_
  refine j_aload_n_2 dL_law_1416 ?_
  refine C_L_142 rfl (by decide) dL_law_1417 sk_123 (Nat.le_of_ble_eq_true rfl) (Nat.le_of_eq (Nat.zero_add _)) (Nat.le_of_eq (Nat.zero_add _)) (fun _ _ hM' hT' => y_thrown hM' hT') ?_
  refine j_top (y := nI c) hth ?_
  refine j_iload_5 dL_law_1420 ?_
  refine j_ic_eq (tgt := 1427) dL_law_1422 (by decide) (fun _ => ?_) (fun h => absurd rfl h)
  refine j_iload_5 dL_law_1427 ?_
  refine j_if_ne (tgt := 1444) dL_law_1429 (by decide) (fun h => ?_) (fun h => ?_)
  · refine j_goto (tgt := 2712) dL_law_1444 (by decide) ?_
    exact next n' hn
  · refine j_aload_n_3 dL_law_1432 ?_
    refine j_iconst (v := nI 0) dL_law_1433 nc_iconst_0 ?_
    refine j_lald dL_law_1434 sk_140 sn_140 (by omega) (by decide) ?_
    refine j_topl (y := r.toInt64) (hout h) ?_
    refine j_iload_6 dL_law_1435 ?_
    refine j_i2l dL_law_1437 ?_
    refine j_lcmp dL_law_1438 ?_
    refine j_top (y := 0) (lg_self _) ?_
    refine j_if_eq (tgt := 1444) dL_law_1439 (by decide) (fun _ => ?_) (fun h => absurd rfl h)
    refine j_goto (tgt := 2712) dL_law_1444 (by decide) ?_
    exact next n' hn

set_option maxHeartbeats 4000000 in
set_option maxRecDepth 100000 in
theorem lc_22 {g : jv_G} {X : jv_X} {n : Nat} {sx : Nat → jv_S} {V : Nat → Nat → Int32} {L : Nat → Nat → Int64} {k z b M i : Nat} {xs : Nat → Int32} {v5 v6 v7 v8 : Option Value} (hSc : Sc g X b M xs) (hM : M ≤ 2560) (hi : i + 5 ≤ M) (hk : 1 ≤ k) (hz : 6 ≤ z) {c : Nat} {r : Int32} {V1 V2 : Nat → Nat → Int32} {L1 : Nat → Nat → Int64}
    (hA : ∀ X', jv_M g X' (TA n c sx V1 L1) → jv_J g X' I_L_originOf 0 [some (jv_r g 0), some (.int (xs (i + 1))), some (jv_r g 140), none] [] n (SH sx) V L 1 6)
    (hB : ∀ n', n ≤ n' → ∀ X' T', jv_M g X' T' → T' (.inl (some (.int r))) n' (SH sx) V2 L1 → jv_J g X' I_X5_originOf 0 [some (jv_r g 123), some (.int (xs (i + 1)))] [] n' (SH sx) V1 L1 0 0)
    (hth : V2 123 0 = nI c) (hout : nI c = 0 → L1 140 0 = r.toInt64)
    (next : ∀ n', n ≤ n' → jv_J g X I_L_law 2712 (lws g b i (some (.int (nI c))) (some (.int r)) v7 v8) [] n' (SH sx) V2 L1 (k - 1) (z - 6)) : jv_J g X I_L_law 1447 (lws g b i v5 v6 v7 v8) [] n (SH sx) V L k z := by
  refine j_aload_n_1 dL_law_1447 ?_
  refine jl_ld0 dL_law_1448 ?_
  refine j_iload_4 dL_law_1449 ?_
  refine j_iconst (v := nI 1) dL_law_1451 nc_iconst_1 ?_
  refine j_iaddN dL_law_1452 ?_
  refine jl_sld hSc (by omega) hM dL_law_1453 ?_
  refine j_aload_n_3 dL_law_1454 ?_
  refine R_L_215 (n1 := 0) (sh1 := fun _ => (0, 0, fun _ => none)) (V1 := fun _ _ => 0) (L1 := fun _ _ => 0) (T' := TA n c sx V1 L1) (k2 := k - 1) (z2 := z - 6) rfl (by decide) dL_law_1455 (Nat.le_of_ble_eq_true rfl) (show 1 + (k - 1) ≤ k by omega) (show 6 + (z - 6) ≤ z by omega) hA (fun v n' sh' V' L' h => ?_) (fun E n' sh' V' L' h => by cases h.2.1)
  obtain ⟨hn, ev, rfl, rfl, rfl⟩ := h
  cases ev
  show jv_J g X I_L_law 1458 _ [.int (nI c)] _ _ _ _ _ _
  refine j_istore_5 rfl (by decide) dL_law_1458 ?_
  refine j_aload_n_2 dL_law_1460 ?_
  refine jl_ld0 dL_law_1461 ?_
  refine j_iload_4 dL_law_1462 ?_
  refine j_iconst (v := nI 1) dL_law_1464 nc_iconst_1 ?_
  refine j_iaddN dL_law_1465 ?_
  refine jl_sld hSc (by omega) hM dL_law_1466 ?_
  refine C_L_217 rfl (by decide) dL_law_1467 sk_123 (Nat.le_of_ble_eq_true rfl) (Nat.le_of_eq (Nat.zero_add _)) (Nat.le_of_eq (Nat.zero_add _)) (fun X' T' hM' hT' => hB n' hn X' T' hM' hT') ?_
  refine j_istore_6 rfl (by decide) dL_law_1470 ?_
  refine j_aload_n_2 dL_law_1472 ?_
  refine C_L_142 rfl (by decide) dL_law_1473 sk_123 (Nat.le_of_ble_eq_true rfl) (Nat.le_of_eq (Nat.zero_add _)) (Nat.le_of_eq (Nat.zero_add _)) (fun _ _ hM' hT' => y_thrown hM' hT') ?_
  refine j_top (y := nI c) hth ?_
  refine j_iload_5 dL_law_1476 ?_
  refine j_ic_eq (tgt := 1483) dL_law_1478 (by decide) (fun _ => ?_) (fun h => absurd rfl h)
  refine j_iload_5 dL_law_1483 ?_
  refine j_if_ne (tgt := 1500) dL_law_1485 (by decide) (fun h => ?_) (fun h => ?_)
  · refine j_goto (tgt := 2712) dL_law_1500 (by decide) ?_
    exact next n' hn
  · refine j_aload_n_3 dL_law_1488 ?_
    refine j_iconst (v := nI 0) dL_law_1489 nc_iconst_0 ?_
    refine j_lald dL_law_1490 sk_140 sn_140 (by omega) (by decide) ?_
    refine j_topl (y := r.toInt64) (hout h) ?_
    refine j_iload_6 dL_law_1491 ?_
    refine j_i2l dL_law_1493 ?_
    refine j_lcmp dL_law_1494 ?_
    refine j_top (y := 0) (lg_self _) ?_
    refine j_if_eq (tgt := 1500) dL_law_1495 (by decide) (fun _ => ?_) (fun h => absurd rfl h)
    refine j_goto (tgt := 2712) dL_law_1500 (by decide) ?_
    exact next n' hn

set_option maxHeartbeats 4000000 in
set_option maxRecDepth 100000 in
theorem lc_23 {g : jv_G} {X : jv_X} {n : Nat} {sx : Nat → jv_S} {V : Nat → Nat → Int32} {L : Nat → Nat → Int64} {k z b M i : Nat} {xs : Nat → Int32} {v5 v6 v7 v8 : Option Value} (hSc : Sc g X b M xs) (hM : M ≤ 2560) (hi : i + 5 ≤ M) (hk : 1 ≤ k) (hz : 6 ≤ z) {c : Nat} {r : Int32} {V1 V2 : Nat → Nat → Int32} {L1 : Nat → Nat → Int64}
    (hA : ∀ X', jv_M g X' (TA n c sx V1 L1) → jv_J g X' I_L_reachOf 0 [some (jv_r g 0), some (.int (xs (i + 1))), some (jv_r g 140), none] [] n (SH sx) V L 1 6)
    (hB : ∀ n', n ≤ n' → ∀ X' T', jv_M g X' T' → T' (.inl (some (.int r))) n' (SH sx) V2 L1 → jv_J g X' I_X5_reachOf 0 [some (jv_r g 123), some (.int (xs (i + 1)))] [] n' (SH sx) V1 L1 0 0)
    (hth : V2 123 0 = nI c) (hout : nI c = 0 → L1 140 0 = r.toInt64)
    (next : ∀ n', n ≤ n' → jv_J g X I_L_law 2712 (lws g b i (some (.int (nI c))) (some (.int r)) v7 v8) [] n' (SH sx) V2 L1 (k - 1) (z - 6)) : jv_J g X I_L_law 1503 (lws g b i v5 v6 v7 v8) [] n (SH sx) V L k z := by
  refine j_aload_n_1 dL_law_1503 ?_
  refine jl_ld0 dL_law_1504 ?_
  refine j_iload_4 dL_law_1505 ?_
  refine j_iconst (v := nI 1) dL_law_1507 nc_iconst_1 ?_
  refine j_iaddN dL_law_1508 ?_
  refine jl_sld hSc (by omega) hM dL_law_1509 ?_
  refine j_aload_n_3 dL_law_1510 ?_
  refine R_L_218 (n1 := 0) (sh1 := fun _ => (0, 0, fun _ => none)) (V1 := fun _ _ => 0) (L1 := fun _ _ => 0) (T' := TA n c sx V1 L1) (k2 := k - 1) (z2 := z - 6) rfl (by decide) dL_law_1511 (Nat.le_of_ble_eq_true rfl) (show 1 + (k - 1) ≤ k by omega) (show 6 + (z - 6) ≤ z by omega) hA (fun v n' sh' V' L' h => ?_) (fun E n' sh' V' L' h => by cases h.2.1)
  obtain ⟨hn, ev, rfl, rfl, rfl⟩ := h
  cases ev
  show jv_J g X I_L_law 1514 _ [.int (nI c)] _ _ _ _ _ _
  refine j_istore_5 rfl (by decide) dL_law_1514 ?_
  refine j_aload_n_2 dL_law_1516 ?_
  refine jl_ld0 dL_law_1517 ?_
  refine j_iload_4 dL_law_1518 ?_
  refine j_iconst (v := nI 1) dL_law_1520 nc_iconst_1 ?_
  refine j_iaddN dL_law_1521 ?_
  refine jl_sld hSc (by omega) hM dL_law_1522 ?_
  refine C_L_220 rfl (by decide) dL_law_1523 sk_123 (Nat.le_of_ble_eq_true rfl) (Nat.le_of_eq (Nat.zero_add _)) (Nat.le_of_eq (Nat.zero_add _)) (fun X' T' hM' hT' => hB n' hn X' T' hM' hT') ?_
  refine j_istore_6 rfl (by decide) dL_law_1526 ?_
  refine j_aload_n_2 dL_law_1528 ?_
  refine C_L_142 rfl (by decide) dL_law_1529 sk_123 (Nat.le_of_ble_eq_true rfl) (Nat.le_of_eq (Nat.zero_add _)) (Nat.le_of_eq (Nat.zero_add _)) (fun _ _ hM' hT' => y_thrown hM' hT') ?_
  refine j_top (y := nI c) hth ?_
  refine j_iload_5 dL_law_1532 ?_
  refine j_ic_eq (tgt := 1539) dL_law_1534 (by decide) (fun _ => ?_) (fun h => absurd rfl h)
  refine j_iload_5 dL_law_1539 ?_
  refine j_if_ne (tgt := 1556) dL_law_1541 (by decide) (fun h => ?_) (fun h => ?_)
  · refine j_goto (tgt := 2712) dL_law_1556 (by decide) ?_
    exact next n' hn
  · refine j_aload_n_3 dL_law_1544 ?_
    refine j_iconst (v := nI 0) dL_law_1545 nc_iconst_0 ?_
    refine j_lald dL_law_1546 sk_140 sn_140 (by omega) (by decide) ?_
    refine j_topl (y := r.toInt64) (hout h) ?_
    refine j_iload_6 dL_law_1547 ?_
    refine j_i2l dL_law_1549 ?_
    refine j_lcmp dL_law_1550 ?_
    refine j_top (y := 0) (lg_self _) ?_
    refine j_if_eq (tgt := 1556) dL_law_1551 (by decide) (fun _ => ?_) (fun h => absurd rfl h)
    refine j_goto (tgt := 2712) dL_law_1556 (by decide) ?_
    exact next n' hn

set_option maxHeartbeats 4000000 in
set_option maxRecDepth 100000 in
theorem lc_24 {g : jv_G} {X : jv_X} {n : Nat} {sx : Nat → jv_S} {V : Nat → Nat → Int32} {L : Nat → Nat → Int64} {k z b M i : Nat} {xs : Nat → Int32} {v5 v6 v7 v8 : Option Value} (hSc : Sc g X b M xs) (hM : M ≤ 2560) (hi : i + 5 ≤ M) (hk : 1 ≤ k) (hz : 6 ≤ z) {c : Nat} {r : Int32} {V1 V2 : Nat → Nat → Int32} {L1 : Nat → Nat → Int64}
    (hA : ∀ X', jv_M g X' (TA n c sx V1 L1) → jv_J g X' I_L_stateOf 0 [some (jv_r g 0), some (.int (xs (i + 1))), some (.int (xs (i + 2))), some (jv_r g 140), none] [] n (SH sx) V L 1 6)
    (hB : ∀ n', n ≤ n' → ∀ X' T', jv_M g X' T' → T' (.inl (some (.int r))) n' (SH sx) V2 L1 → jv_J g X' I_X5_stateOf 0 [some (jv_r g 123), some (.int (xs (i + 1))), some (.int (xs (i + 2)))] [] n' (SH sx) V1 L1 0 0)
    (hth : V2 123 0 = nI c) (hout : nI c = 0 → L1 140 0 = r.toInt64)
    (next : ∀ n', n ≤ n' → jv_J g X I_L_law 2712 (lws g b i (some (.int (nI c))) (some (.int r)) v7 v8) [] n' (SH sx) V2 L1 (k - 1) (z - 6)) : jv_J g X I_L_law 1559 (lws g b i v5 v6 v7 v8) [] n (SH sx) V L k z := by
  refine j_aload_n_1 dL_law_1559 ?_
  refine jl_ld0 dL_law_1560 ?_
  refine j_iload_4 dL_law_1561 ?_
  refine j_iconst (v := nI 1) dL_law_1563 nc_iconst_1 ?_
  refine j_iaddN dL_law_1564 ?_
  refine jl_sld hSc (by omega) hM dL_law_1565 ?_
  refine jl_ld0 dL_law_1566 ?_
  refine j_iload_4 dL_law_1567 ?_
  refine j_iconst (v := nI 2) dL_law_1569 nc_iconst_2 ?_
  refine j_iaddN dL_law_1570 ?_
  refine jl_sld hSc (by omega) hM dL_law_1571 ?_
  refine j_aload_n_3 dL_law_1572 ?_
  refine R_L_221 (n1 := 0) (sh1 := fun _ => (0, 0, fun _ => none)) (V1 := fun _ _ => 0) (L1 := fun _ _ => 0) (T' := TA n c sx V1 L1) (k2 := k - 1) (z2 := z - 6) rfl (by decide) dL_law_1573 (Nat.le_of_ble_eq_true rfl) (show 1 + (k - 1) ≤ k by omega) (show 6 + (z - 6) ≤ z by omega) hA (fun v n' sh' V' L' h => ?_) (fun E n' sh' V' L' h => by cases h.2.1)
  obtain ⟨hn, ev, rfl, rfl, rfl⟩ := h
  cases ev
  show jv_J g X I_L_law 1576 _ [.int (nI c)] _ _ _ _ _ _
  refine j_istore_5 rfl (by decide) dL_law_1576 ?_
  refine j_aload_n_2 dL_law_1578 ?_
  refine jl_ld0 dL_law_1579 ?_
  refine j_iload_4 dL_law_1580 ?_
  refine j_iconst (v := nI 1) dL_law_1582 nc_iconst_1 ?_
  refine j_iaddN dL_law_1583 ?_
  refine jl_sld hSc (by omega) hM dL_law_1584 ?_
  refine jl_ld0 dL_law_1585 ?_
  refine j_iload_4 dL_law_1586 ?_
  refine j_iconst (v := nI 2) dL_law_1588 nc_iconst_2 ?_
  refine j_iaddN dL_law_1589 ?_
  refine jl_sld hSc (by omega) hM dL_law_1590 ?_
  refine C_L_223 rfl (by decide) dL_law_1591 sk_123 (Nat.le_of_ble_eq_true rfl) (Nat.le_of_eq (Nat.zero_add _)) (Nat.le_of_eq (Nat.zero_add _)) (fun X' T' hM' hT' => hB n' hn X' T' hM' hT') ?_
  refine j_istore_6 rfl (by decide) dL_law_1594 ?_
  refine j_aload_n_2 dL_law_1596 ?_
  refine C_L_142 rfl (by decide) dL_law_1597 sk_123 (Nat.le_of_ble_eq_true rfl) (Nat.le_of_eq (Nat.zero_add _)) (Nat.le_of_eq (Nat.zero_add _)) (fun _ _ hM' hT' => y_thrown hM' hT') ?_
  refine j_top (y := nI c) hth ?_
  refine j_iload_5 dL_law_1600 ?_
  refine j_ic_eq (tgt := 1607) dL_law_1602 (by decide) (fun _ => ?_) (fun h => absurd rfl h)
  refine j_iload_5 dL_law_1607 ?_
  refine j_if_ne (tgt := 1624) dL_law_1609 (by decide) (fun h => ?_) (fun h => ?_)
  · refine j_goto (tgt := 2712) dL_law_1624 (by decide) ?_
    exact next n' hn
  · refine j_aload_n_3 dL_law_1612 ?_
    refine j_iconst (v := nI 0) dL_law_1613 nc_iconst_0 ?_
    refine j_lald dL_law_1614 sk_140 sn_140 (by omega) (by decide) ?_
    refine j_topl (y := r.toInt64) (hout h) ?_
    refine j_iload_6 dL_law_1615 ?_
    refine j_i2l dL_law_1617 ?_
    refine j_lcmp dL_law_1618 ?_
    refine j_top (y := 0) (lg_self _) ?_
    refine j_if_eq (tgt := 1624) dL_law_1619 (by decide) (fun _ => ?_) (fun h => absurd rfl h)
    refine j_goto (tgt := 2712) dL_law_1624 (by decide) ?_
    exact next n' hn

set_option maxHeartbeats 4000000 in
set_option maxRecDepth 100000 in
theorem lc_25 {g : jv_G} {X : jv_X} {n : Nat} {sx : Nat → jv_S} {V : Nat → Nat → Int32} {L : Nat → Nat → Int64} {k z b M i : Nat} {xs : Nat → Int32} {v5 v6 v7 v8 : Option Value} (hSc : Sc g X b M xs) (hM : M ≤ 2560) (hi : i + 5 ≤ M) (hk : 1 ≤ k) (hz : 6 ≤ z) {c : Nat} {r : Int32} {V1 V2 : Nat → Nat → Int32} {L1 : Nat → Nat → Int64}
    (hA : ∀ X', jv_M g X' (TA n c sx V1 L1) → jv_J g X' I_L_heardAt 0 [some (jv_r g 0), some (.int (xs (i + 1))), some (.int (xs (i + 2))), some (jv_r g 140), none] [] n (SH sx) V L 1 6)
    (hB : ∀ n', n ≤ n' → ∀ X' T', jv_M g X' T' → T' (.inl (some (.int r))) n' (SH sx) V2 L1 → jv_J g X' I_X5_heardAt 0 [some (jv_r g 123), some (.int (xs (i + 1))), some (.int (xs (i + 2)))] [] n' (SH sx) V1 L1 0 0)
    (hth : V2 123 0 = nI c) (hout : nI c = 0 → L1 140 0 = r.toInt64)
    (next : ∀ n', n ≤ n' → jv_J g X I_L_law 2712 (lws g b i (some (.int (nI c))) (some (.int r)) v7 v8) [] n' (SH sx) V2 L1 (k - 1) (z - 6)) : jv_J g X I_L_law 1627 (lws g b i v5 v6 v7 v8) [] n (SH sx) V L k z := by
  refine j_aload_n_1 dL_law_1627 ?_
  refine jl_ld0 dL_law_1628 ?_
  refine j_iload_4 dL_law_1629 ?_
  refine j_iconst (v := nI 1) dL_law_1631 nc_iconst_1 ?_
  refine j_iaddN dL_law_1632 ?_
  refine jl_sld hSc (by omega) hM dL_law_1633 ?_
  refine jl_ld0 dL_law_1634 ?_
  refine j_iload_4 dL_law_1635 ?_
  refine j_iconst (v := nI 2) dL_law_1637 nc_iconst_2 ?_
  refine j_iaddN dL_law_1638 ?_
  refine jl_sld hSc (by omega) hM dL_law_1639 ?_
  refine j_aload_n_3 dL_law_1640 ?_
  refine R_L_224 (n1 := 0) (sh1 := fun _ => (0, 0, fun _ => none)) (V1 := fun _ _ => 0) (L1 := fun _ _ => 0) (T' := TA n c sx V1 L1) (k2 := k - 1) (z2 := z - 6) rfl (by decide) dL_law_1641 (Nat.le_of_ble_eq_true rfl) (show 1 + (k - 1) ≤ k by omega) (show 6 + (z - 6) ≤ z by omega) hA (fun v n' sh' V' L' h => ?_) (fun E n' sh' V' L' h => by cases h.2.1)
  obtain ⟨hn, ev, rfl, rfl, rfl⟩ := h
  cases ev
  show jv_J g X I_L_law 1644 _ [.int (nI c)] _ _ _ _ _ _
  refine j_istore_5 rfl (by decide) dL_law_1644 ?_
  refine j_aload_n_2 dL_law_1646 ?_
  refine jl_ld0 dL_law_1647 ?_
  refine j_iload_4 dL_law_1648 ?_
  refine j_iconst (v := nI 1) dL_law_1650 nc_iconst_1 ?_
  refine j_iaddN dL_law_1651 ?_
  refine jl_sld hSc (by omega) hM dL_law_1652 ?_
  refine jl_ld0 dL_law_1653 ?_
  refine j_iload_4 dL_law_1654 ?_
  refine j_iconst (v := nI 2) dL_law_1656 nc_iconst_2 ?_
  refine j_iaddN dL_law_1657 ?_
  refine jl_sld hSc (by omega) hM dL_law_1658 ?_
  refine C_L_226 rfl (by decide) dL_law_1659 sk_123 (Nat.le_of_ble_eq_true rfl) (Nat.le_of_eq (Nat.zero_add _)) (Nat.le_of_eq (Nat.zero_add _)) (fun X' T' hM' hT' => hB n' hn X' T' hM' hT') ?_
  refine j_istore_6 rfl (by decide) dL_law_1662 ?_
  refine j_aload_n_2 dL_law_1664 ?_
  refine C_L_142 rfl (by decide) dL_law_1665 sk_123 (Nat.le_of_ble_eq_true rfl) (Nat.le_of_eq (Nat.zero_add _)) (Nat.le_of_eq (Nat.zero_add _)) (fun _ _ hM' hT' => y_thrown hM' hT') ?_
  refine j_top (y := nI c) hth ?_
  refine j_iload_5 dL_law_1668 ?_
  refine j_ic_eq (tgt := 1675) dL_law_1670 (by decide) (fun _ => ?_) (fun h => absurd rfl h)
  refine j_iload_5 dL_law_1675 ?_
  refine j_if_ne (tgt := 1692) dL_law_1677 (by decide) (fun h => ?_) (fun h => ?_)
  · refine j_goto (tgt := 2712) dL_law_1692 (by decide) ?_
    exact next n' hn
  · refine j_aload_n_3 dL_law_1680 ?_
    refine j_iconst (v := nI 0) dL_law_1681 nc_iconst_0 ?_
    refine j_lald dL_law_1682 sk_140 sn_140 (by omega) (by decide) ?_
    refine j_topl (y := r.toInt64) (hout h) ?_
    refine j_iload_6 dL_law_1683 ?_
    refine j_i2l dL_law_1685 ?_
    refine j_lcmp dL_law_1686 ?_
    refine j_top (y := 0) (lg_self _) ?_
    refine j_if_eq (tgt := 1692) dL_law_1687 (by decide) (fun _ => ?_) (fun h => absurd rfl h)
    refine j_goto (tgt := 2712) dL_law_1692 (by decide) ?_
    exact next n' hn

set_option maxHeartbeats 4000000 in
set_option maxRecDepth 100000 in
theorem lc_26 {g : jv_G} {X : jv_X} {n : Nat} {sx : Nat → jv_S} {V : Nat → Nat → Int32} {L : Nat → Nat → Int64} {k z b M i : Nat} {xs : Nat → Int32} {v5 v6 v7 v8 : Option Value} (hSc : Sc g X b M xs) (hM : M ≤ 2560) (hi : i + 5 ≤ M) (hk : 1 ≤ k) (hz : 6 ≤ z) {c : Nat} {r : Int32} {V1 V2 : Nat → Nat → Int32} {L1 : Nat → Nat → Int64}
    (hA : ∀ X', jv_M g X' (TA n c sx V1 L1) → jv_J g X' I_L_deniedAt 0 [some (jv_r g 0), some (.int (xs (i + 1))), some (.int (xs (i + 2))), some (jv_r g 140), none] [] n (SH sx) V L 1 6)
    (hB : ∀ n', n ≤ n' → ∀ X' T', jv_M g X' T' → T' (.inl (some (.int r))) n' (SH sx) V2 L1 → jv_J g X' I_X5_deniedAt 0 [some (jv_r g 123), some (.int (xs (i + 1))), some (.int (xs (i + 2)))] [] n' (SH sx) V1 L1 0 0)
    (hth : V2 123 0 = nI c) (hout : nI c = 0 → L1 140 0 = r.toInt64)
    (next : ∀ n', n ≤ n' → jv_J g X I_L_law 2712 (lws g b i (some (.int (nI c))) (some (.int r)) v7 v8) [] n' (SH sx) V2 L1 (k - 1) (z - 6)) : jv_J g X I_L_law 1695 (lws g b i v5 v6 v7 v8) [] n (SH sx) V L k z := by
  refine j_aload_n_1 dL_law_1695 ?_
  refine jl_ld0 dL_law_1696 ?_
  refine j_iload_4 dL_law_1697 ?_
  refine j_iconst (v := nI 1) dL_law_1699 nc_iconst_1 ?_
  refine j_iaddN dL_law_1700 ?_
  refine jl_sld hSc (by omega) hM dL_law_1701 ?_
  refine jl_ld0 dL_law_1702 ?_
  refine j_iload_4 dL_law_1703 ?_
  refine j_iconst (v := nI 2) dL_law_1705 nc_iconst_2 ?_
  refine j_iaddN dL_law_1706 ?_
  refine jl_sld hSc (by omega) hM dL_law_1707 ?_
  refine j_aload_n_3 dL_law_1708 ?_
  refine R_L_227 (n1 := 0) (sh1 := fun _ => (0, 0, fun _ => none)) (V1 := fun _ _ => 0) (L1 := fun _ _ => 0) (T' := TA n c sx V1 L1) (k2 := k - 1) (z2 := z - 6) rfl (by decide) dL_law_1709 (Nat.le_of_ble_eq_true rfl) (show 1 + (k - 1) ≤ k by omega) (show 6 + (z - 6) ≤ z by omega) hA (fun v n' sh' V' L' h => ?_) (fun E n' sh' V' L' h => by cases h.2.1)
  obtain ⟨hn, ev, rfl, rfl, rfl⟩ := h
  cases ev
  show jv_J g X I_L_law 1712 _ [.int (nI c)] _ _ _ _ _ _
  refine j_istore_5 rfl (by decide) dL_law_1712 ?_
  refine j_aload_n_2 dL_law_1714 ?_
  refine jl_ld0 dL_law_1715 ?_
  refine j_iload_4 dL_law_1716 ?_
  refine j_iconst (v := nI 1) dL_law_1718 nc_iconst_1 ?_
  refine j_iaddN dL_law_1719 ?_
  refine jl_sld hSc (by omega) hM dL_law_1720 ?_
  refine jl_ld0 dL_law_1721 ?_
  refine j_iload_4 dL_law_1722 ?_
  refine j_iconst (v := nI 2) dL_law_1724 nc_iconst_2 ?_
  refine j_iaddN dL_law_1725 ?_
  refine jl_sld hSc (by omega) hM dL_law_1726 ?_
  refine C_L_229 rfl (by decide) dL_law_1727 sk_123 (Nat.le_of_ble_eq_true rfl) (Nat.le_of_eq (Nat.zero_add _)) (Nat.le_of_eq (Nat.zero_add _)) (fun X' T' hM' hT' => hB n' hn X' T' hM' hT') ?_
  refine j_istore_6 rfl (by decide) dL_law_1730 ?_
  refine j_aload_n_2 dL_law_1732 ?_
  refine C_L_142 rfl (by decide) dL_law_1733 sk_123 (Nat.le_of_ble_eq_true rfl) (Nat.le_of_eq (Nat.zero_add _)) (Nat.le_of_eq (Nat.zero_add _)) (fun _ _ hM' hT' => y_thrown hM' hT') ?_
  refine j_top (y := nI c) hth ?_
  refine j_iload_5 dL_law_1736 ?_
  refine j_ic_eq (tgt := 1743) dL_law_1738 (by decide) (fun _ => ?_) (fun h => absurd rfl h)
  refine j_iload_5 dL_law_1743 ?_
  refine j_if_ne (tgt := 1760) dL_law_1745 (by decide) (fun h => ?_) (fun h => ?_)
  · refine j_goto (tgt := 2712) dL_law_1760 (by decide) ?_
    exact next n' hn
  · refine j_aload_n_3 dL_law_1748 ?_
    refine j_iconst (v := nI 0) dL_law_1749 nc_iconst_0 ?_
    refine j_lald dL_law_1750 sk_140 sn_140 (by omega) (by decide) ?_
    refine j_topl (y := r.toInt64) (hout h) ?_
    refine j_iload_6 dL_law_1751 ?_
    refine j_i2l dL_law_1753 ?_
    refine j_lcmp dL_law_1754 ?_
    refine j_top (y := 0) (lg_self _) ?_
    refine j_if_eq (tgt := 1760) dL_law_1755 (by decide) (fun _ => ?_) (fun h => absurd rfl h)
    refine j_goto (tgt := 2712) dL_law_1760 (by decide) ?_
    exact next n' hn

set_option maxHeartbeats 4000000 in
set_option maxRecDepth 100000 in
theorem lc_27 {g : jv_G} {X : jv_X} {n : Nat} {sx : Nat → jv_S} {V : Nat → Nat → Int32} {L : Nat → Nat → Int64} {k z b M i : Nat} {xs : Nat → Int32} {v5 v6 v7 v8 : Option Value} (hSc : Sc g X b M xs) (hM : M ≤ 2560) (hi : i + 5 ≤ M) (hk : 1 ≤ k) (hz : 6 ≤ z) {c : Nat} {r : Int32} {V1 V2 : Nat → Nat → Int32} {L1 : Nat → Nat → Int64}
    (hA : ∀ X', jv_M g X' (TA n c sx V1 L1) → jv_J g X' I_L_pipesTo 0 [some (jv_r g 0), some (.int (xs (i + 1))), some (.int (xs (i + 2))), some (jv_r g 140), none] [] n (SH sx) V L 1 6)
    (hB : ∀ n', n ≤ n' → ∀ X' T', jv_M g X' T' → T' (.inl (some (.int r))) n' (SH sx) V2 L1 → jv_J g X' I_X5_pipesTo 0 [some (jv_r g 123), some (.int (xs (i + 1))), some (.int (xs (i + 2)))] [] n' (SH sx) V1 L1 0 0)
    (hth : V2 123 0 = nI c) (hout : nI c = 0 → L1 140 0 = r.toInt64)
    (next : ∀ n', n ≤ n' → jv_J g X I_L_law 2712 (lws g b i (some (.int (nI c))) (some (.int r)) v7 v8) [] n' (SH sx) V2 L1 (k - 1) (z - 6)) : jv_J g X I_L_law 1763 (lws g b i v5 v6 v7 v8) [] n (SH sx) V L k z := by
  refine j_aload_n_1 dL_law_1763 ?_
  refine jl_ld0 dL_law_1764 ?_
  refine j_iload_4 dL_law_1765 ?_
  refine j_iconst (v := nI 1) dL_law_1767 nc_iconst_1 ?_
  refine j_iaddN dL_law_1768 ?_
  refine jl_sld hSc (by omega) hM dL_law_1769 ?_
  refine jl_ld0 dL_law_1770 ?_
  refine j_iload_4 dL_law_1771 ?_
  refine j_iconst (v := nI 2) dL_law_1773 nc_iconst_2 ?_
  refine j_iaddN dL_law_1774 ?_
  refine jl_sld hSc (by omega) hM dL_law_1775 ?_
  refine j_aload_n_3 dL_law_1776 ?_
  refine R_L_230 (n1 := 0) (sh1 := fun _ => (0, 0, fun _ => none)) (V1 := fun _ _ => 0) (L1 := fun _ _ => 0) (T' := TA n c sx V1 L1) (k2 := k - 1) (z2 := z - 6) rfl (by decide) dL_law_1777 (Nat.le_of_ble_eq_true rfl) (show 1 + (k - 1) ≤ k by omega) (show 6 + (z - 6) ≤ z by omega) hA (fun v n' sh' V' L' h => ?_) (fun E n' sh' V' L' h => by cases h.2.1)
  obtain ⟨hn, ev, rfl, rfl, rfl⟩ := h
  cases ev
  show jv_J g X I_L_law 1780 _ [.int (nI c)] _ _ _ _ _ _
  refine j_istore_5 rfl (by decide) dL_law_1780 ?_
  refine j_aload_n_2 dL_law_1782 ?_
  refine jl_ld0 dL_law_1783 ?_
  refine j_iload_4 dL_law_1784 ?_
  refine j_iconst (v := nI 1) dL_law_1786 nc_iconst_1 ?_
  refine j_iaddN dL_law_1787 ?_
  refine jl_sld hSc (by omega) hM dL_law_1788 ?_
  refine jl_ld0 dL_law_1789 ?_
  refine j_iload_4 dL_law_1790 ?_
  refine j_iconst (v := nI 2) dL_law_1792 nc_iconst_2 ?_
  refine j_iaddN dL_law_1793 ?_
  refine jl_sld hSc (by omega) hM dL_law_1794 ?_
  refine C_L_232 rfl (by decide) dL_law_1795 sk_123 (Nat.le_of_ble_eq_true rfl) (Nat.le_of_eq (Nat.zero_add _)) (Nat.le_of_eq (Nat.zero_add _)) (fun X' T' hM' hT' => hB n' hn X' T' hM' hT') ?_
  refine j_istore_6 rfl (by decide) dL_law_1798 ?_
  refine j_aload_n_2 dL_law_1800 ?_
  refine C_L_142 rfl (by decide) dL_law_1801 sk_123 (Nat.le_of_ble_eq_true rfl) (Nat.le_of_eq (Nat.zero_add _)) (Nat.le_of_eq (Nat.zero_add _)) (fun _ _ hM' hT' => y_thrown hM' hT') ?_
  refine j_top (y := nI c) hth ?_
  refine j_iload_5 dL_law_1804 ?_
  refine j_ic_eq (tgt := 1811) dL_law_1806 (by decide) (fun _ => ?_) (fun h => absurd rfl h)
  refine j_iload_5 dL_law_1811 ?_
  refine j_if_ne (tgt := 1828) dL_law_1813 (by decide) (fun h => ?_) (fun h => ?_)
  · refine j_goto (tgt := 2712) dL_law_1828 (by decide) ?_
    exact next n' hn
  · refine j_aload_n_3 dL_law_1816 ?_
    refine j_iconst (v := nI 0) dL_law_1817 nc_iconst_0 ?_
    refine j_lald dL_law_1818 sk_140 sn_140 (by omega) (by decide) ?_
    refine j_topl (y := r.toInt64) (hout h) ?_
    refine j_iload_6 dL_law_1819 ?_
    refine j_i2l dL_law_1821 ?_
    refine j_lcmp dL_law_1822 ?_
    refine j_top (y := 0) (lg_self _) ?_
    refine j_if_eq (tgt := 1828) dL_law_1823 (by decide) (fun _ => ?_) (fun h => absurd rfl h)
    refine j_goto (tgt := 2712) dL_law_1828 (by decide) ?_
    exact next n' hn

set_option maxHeartbeats 4000000 in
set_option maxRecDepth 100000 in
theorem lc_28 {g : jv_G} {X : jv_X} {n : Nat} {sx : Nat → jv_S} {V : Nat → Nat → Int32} {L : Nat → Nat → Int64} {k z b M i : Nat} {xs : Nat → Int32} {v5 v6 v7 v8 : Option Value} (hSc : Sc g X b M xs) (hM : M ≤ 2560) (hi : i + 5 ≤ M) (hk : 1 ≤ k) (hz : 6 ≤ z) {c : Nat} {r : Int32} {V1 V2 : Nat → Nat → Int32} {L1 : Nat → Nat → Int64}
    (hA : ∀ X', jv_M g X' (TA n c sx V1 L1) → jv_J g X' I_L_believers 0 [some (jv_r g 0), some (.int (xs (i + 1))), some (jv_r g 140), none] [] n (SH sx) V L 1 6)
    (hB : ∀ n', n ≤ n' → ∀ X' T', jv_M g X' T' → T' (.inl (some (.int r))) n' (SH sx) V2 L1 → jv_J g X' I_X5_believers 0 [some (jv_r g 123), some (.int (xs (i + 1)))] [] n' (SH sx) V1 L1 0 0)
    (hth : V2 123 0 = nI c) (hout : nI c = 0 → L1 140 0 = r.toInt64)
    (next : ∀ n', n ≤ n' → jv_J g X I_L_law 2712 (lws g b i (some (.int (nI c))) (some (.int r)) v7 v8) [] n' (SH sx) V2 L1 (k - 1) (z - 6)) : jv_J g X I_L_law 1831 (lws g b i v5 v6 v7 v8) [] n (SH sx) V L k z := by
  refine j_aload_n_1 dL_law_1831 ?_
  refine jl_ld0 dL_law_1832 ?_
  refine j_iload_4 dL_law_1833 ?_
  refine j_iconst (v := nI 1) dL_law_1835 nc_iconst_1 ?_
  refine j_iaddN dL_law_1836 ?_
  refine jl_sld hSc (by omega) hM dL_law_1837 ?_
  refine j_aload_n_3 dL_law_1838 ?_
  refine R_L_233 (n1 := 0) (sh1 := fun _ => (0, 0, fun _ => none)) (V1 := fun _ _ => 0) (L1 := fun _ _ => 0) (T' := TA n c sx V1 L1) (k2 := k - 1) (z2 := z - 6) rfl (by decide) dL_law_1839 (Nat.le_of_ble_eq_true rfl) (show 1 + (k - 1) ≤ k by omega) (show 6 + (z - 6) ≤ z by omega) hA (fun v n' sh' V' L' h => ?_) (fun E n' sh' V' L' h => by cases h.2.1)
  obtain ⟨hn, ev, rfl, rfl, rfl⟩ := h
  cases ev
  show jv_J g X I_L_law 1842 _ [.int (nI c)] _ _ _ _ _ _
  refine j_istore_5 rfl (by decide) dL_law_1842 ?_
  refine j_aload_n_2 dL_law_1844 ?_
  refine jl_ld0 dL_law_1845 ?_
  refine j_iload_4 dL_law_1846 ?_
  refine j_iconst (v := nI 1) dL_law_1848 nc_iconst_1 ?_
  refine j_iaddN dL_law_1849 ?_
  refine jl_sld hSc (by omega) hM dL_law_1850 ?_
  refine C_L_235 rfl (by decide) dL_law_1851 sk_123 (Nat.le_of_ble_eq_true rfl) (Nat.le_of_eq (Nat.zero_add _)) (Nat.le_of_eq (Nat.zero_add _)) (fun X' T' hM' hT' => hB n' hn X' T' hM' hT') ?_
  refine j_istore_6 rfl (by decide) dL_law_1854 ?_
  refine j_aload_n_2 dL_law_1856 ?_
  refine C_L_142 rfl (by decide) dL_law_1857 sk_123 (Nat.le_of_ble_eq_true rfl) (Nat.le_of_eq (Nat.zero_add _)) (Nat.le_of_eq (Nat.zero_add _)) (fun _ _ hM' hT' => y_thrown hM' hT') ?_
  refine j_top (y := nI c) hth ?_
  refine j_iload_5 dL_law_1860 ?_
  refine j_ic_eq (tgt := 1867) dL_law_1862 (by decide) (fun _ => ?_) (fun h => absurd rfl h)
  refine j_iload_5 dL_law_1867 ?_
  refine j_if_ne (tgt := 1884) dL_law_1869 (by decide) (fun h => ?_) (fun h => ?_)
  · refine j_goto (tgt := 2712) dL_law_1884 (by decide) ?_
    exact next n' hn
  · refine j_aload_n_3 dL_law_1872 ?_
    refine j_iconst (v := nI 0) dL_law_1873 nc_iconst_0 ?_
    refine j_lald dL_law_1874 sk_140 sn_140 (by omega) (by decide) ?_
    refine j_topl (y := r.toInt64) (hout h) ?_
    refine j_iload_6 dL_law_1875 ?_
    refine j_i2l dL_law_1877 ?_
    refine j_lcmp dL_law_1878 ?_
    refine j_top (y := 0) (lg_self _) ?_
    refine j_if_eq (tgt := 1884) dL_law_1879 (by decide) (fun _ => ?_) (fun h => absurd rfl h)
    refine j_goto (tgt := 2712) dL_law_1884 (by decide) ?_
    exact next n' hn

set_option maxHeartbeats 4000000 in
set_option maxRecDepth 100000 in
theorem lc_29 {g : jv_G} {X : jv_X} {n : Nat} {sx : Nat → jv_S} {V : Nat → Nat → Int32} {L : Nat → Nat → Int64} {k z b M i : Nat} {xs : Nat → Int32} {v5 v6 v7 v8 : Option Value} (hSc : Sc g X b M xs) (hM : M ≤ 2560) (hi : i + 5 ≤ M) (hk : 1 ≤ k) (hz : 6 ≤ z) {c : Nat} {r : Int32} {V1 V2 : Nat → Nat → Int32} {L1 : Nat → Nat → Int64}
    (hA : ∀ X', jv_M g X' (TA n c sx V1 L1) → jv_J g X' I_L_reached 0 [some (jv_r g 0), some (.int (xs (i + 1))), some (jv_r g 140), none] [] n (SH sx) V L 1 6)
    (hB : ∀ n', n ≤ n' → ∀ X' T', jv_M g X' T' → T' (.inl (some (.int r))) n' (SH sx) V2 L1 → jv_J g X' I_X5_reached 0 [some (jv_r g 123), some (.int (xs (i + 1)))] [] n' (SH sx) V1 L1 0 0)
    (hth : V2 123 0 = nI c) (hout : nI c = 0 → L1 140 0 = r.toInt64)
    (next : ∀ n', n ≤ n' → jv_J g X I_L_law 2712 (lws g b i (some (.int (nI c))) (some (.int r)) v7 v8) [] n' (SH sx) V2 L1 (k - 1) (z - 6)) : jv_J g X I_L_law 1887 (lws g b i v5 v6 v7 v8) [] n (SH sx) V L k z := by
  refine j_aload_n_1 dL_law_1887 ?_
  refine jl_ld0 dL_law_1888 ?_
  refine j_iload_4 dL_law_1889 ?_
  refine j_iconst (v := nI 1) dL_law_1891 nc_iconst_1 ?_
  refine j_iaddN dL_law_1892 ?_
  refine jl_sld hSc (by omega) hM dL_law_1893 ?_
  refine j_aload_n_3 dL_law_1894 ?_
  refine R_L_236 (n1 := 0) (sh1 := fun _ => (0, 0, fun _ => none)) (V1 := fun _ _ => 0) (L1 := fun _ _ => 0) (T' := TA n c sx V1 L1) (k2 := k - 1) (z2 := z - 6) rfl (by decide) dL_law_1895 (Nat.le_of_ble_eq_true rfl) (show 1 + (k - 1) ≤ k by omega) (show 6 + (z - 6) ≤ z by omega) hA (fun v n' sh' V' L' h => ?_) (fun E n' sh' V' L' h => by cases h.2.1)
  obtain ⟨hn, ev, rfl, rfl, rfl⟩ := h
  cases ev
  show jv_J g X I_L_law 1898 _ [.int (nI c)] _ _ _ _ _ _
  refine j_istore_5 rfl (by decide) dL_law_1898 ?_
  refine j_aload_n_2 dL_law_1900 ?_
  refine jl_ld0 dL_law_1901 ?_
  refine j_iload_4 dL_law_1902 ?_
  refine j_iconst (v := nI 1) dL_law_1904 nc_iconst_1 ?_
  refine j_iaddN dL_law_1905 ?_
  refine jl_sld hSc (by omega) hM dL_law_1906 ?_
  refine C_L_238 rfl (by decide) dL_law_1907 sk_123 (Nat.le_of_ble_eq_true rfl) (Nat.le_of_eq (Nat.zero_add _)) (Nat.le_of_eq (Nat.zero_add _)) (fun X' T' hM' hT' => hB n' hn X' T' hM' hT') ?_
  refine j_istore_6 rfl (by decide) dL_law_1910 ?_
  refine j_aload_n_2 dL_law_1912 ?_
  refine C_L_142 rfl (by decide) dL_law_1913 sk_123 (Nat.le_of_ble_eq_true rfl) (Nat.le_of_eq (Nat.zero_add _)) (Nat.le_of_eq (Nat.zero_add _)) (fun _ _ hM' hT' => y_thrown hM' hT') ?_
  refine j_top (y := nI c) hth ?_
  refine j_iload_5 dL_law_1916 ?_
  refine j_ic_eq (tgt := 1923) dL_law_1918 (by decide) (fun _ => ?_) (fun h => absurd rfl h)
  refine j_iload_5 dL_law_1923 ?_
  refine j_if_ne (tgt := 1940) dL_law_1925 (by decide) (fun h => ?_) (fun h => ?_)
  · refine j_goto (tgt := 2712) dL_law_1940 (by decide) ?_
    exact next n' hn
  · refine j_aload_n_3 dL_law_1928 ?_
    refine j_iconst (v := nI 0) dL_law_1929 nc_iconst_0 ?_
    refine j_lald dL_law_1930 sk_140 sn_140 (by omega) (by decide) ?_
    refine j_topl (y := r.toInt64) (hout h) ?_
    refine j_iload_6 dL_law_1931 ?_
    refine j_i2l dL_law_1933 ?_
    refine j_lcmp dL_law_1934 ?_
    refine j_top (y := 0) (lg_self _) ?_
    refine j_if_eq (tgt := 1940) dL_law_1935 (by decide) (fun _ => ?_) (fun h => absurd rfl h)
    refine j_goto (tgt := 2712) dL_law_1940 (by decide) ?_
    exact next n' hn

set_option maxHeartbeats 4000000 in
set_option maxRecDepth 100000 in
theorem lc_30 {g : jv_G} {X : jv_X} {n : Nat} {sx : Nat → jv_S} {V : Nat → Nat → Int32} {L : Nat → Nat → Int64} {k z b M i : Nat} {xs : Nat → Int32} {v5 v6 v7 v8 : Option Value} (hSc : Sc g X b M xs) (hM : M ≤ 2560) (hi : i + 5 ≤ M) (hk : 1 ≤ k) (hz : 6 ≤ z) {c : Nat} {r : Int32} {V1 V2 : Nat → Nat → Int32} {L1 : Nat → Nat → Int64}
    (hA : ∀ X', jv_M g X' (TA n c sx V1 L1) → jv_J g X' I_L_underWay 0 [some (jv_r g 0), some (.int (xs (i + 1))), some (jv_r g 140), none] [] n (SH sx) V L 1 6)
    (hB : ∀ n', n ≤ n' → ∀ X' T', jv_M g X' T' → T' (.inl (some (.int r))) n' (SH sx) V2 L1 → jv_J g X' I_X5_underWay 0 [some (jv_r g 123), some (.int (xs (i + 1)))] [] n' (SH sx) V1 L1 0 0)
    (hth : V2 123 0 = nI c) (hout : nI c = 0 → L1 140 0 = r.toInt64)
    (next : ∀ n', n ≤ n' → jv_J g X I_L_law 2712 (lws g b i (some (.int (nI c))) (some (.int r)) v7 v8) [] n' (SH sx) V2 L1 (k - 1) (z - 6)) : jv_J g X I_L_law 1943 (lws g b i v5 v6 v7 v8) [] n (SH sx) V L k z := by
  refine j_aload_n_1 dL_law_1943 ?_
  refine jl_ld0 dL_law_1944 ?_
  refine j_iload_4 dL_law_1945 ?_
  refine j_iconst (v := nI 1) dL_law_1947 nc_iconst_1 ?_
  refine j_iaddN dL_law_1948 ?_
  refine jl_sld hSc (by omega) hM dL_law_1949 ?_
  refine j_aload_n_3 dL_law_1950 ?_
  refine R_L_239 (n1 := 0) (sh1 := fun _ => (0, 0, fun _ => none)) (V1 := fun _ _ => 0) (L1 := fun _ _ => 0) (T' := TA n c sx V1 L1) (k2 := k - 1) (z2 := z - 6) rfl (by decide) dL_law_1951 (Nat.le_of_ble_eq_true rfl) (show 1 + (k - 1) ≤ k by omega) (show 6 + (z - 6) ≤ z by omega) hA (fun v n' sh' V' L' h => ?_) (fun E n' sh' V' L' h => by cases h.2.1)
  obtain ⟨hn, ev, rfl, rfl, rfl⟩ := h
  cases ev
  show jv_J g X I_L_law 1954 _ [.int (nI c)] _ _ _ _ _ _
  refine j_istore_5 rfl (by decide) dL_law_1954 ?_
  refine j_aload_n_2 dL_law_1956 ?_
  refine jl_ld0 dL_law_1957 ?_
  refine j_iload_4 dL_law_1958 ?_
  refine j_iconst (v := nI 1) dL_law_1960 nc_iconst_1 ?_
  refine j_iaddN dL_law_1961 ?_
  refine jl_sld hSc (by omega) hM dL_law_1962 ?_
  refine C_L_241 rfl (by decide) dL_law_1963 sk_123 (Nat.le_of_ble_eq_true rfl) (Nat.le_of_eq (Nat.zero_add _)) (Nat.le_of_eq (Nat.zero_add _)) (fun X' T' hM' hT' => hB n' hn X' T' hM' hT') ?_
  refine j_istore_6 rfl (by decide) dL_law_1966 ?_
  refine j_aload_n_2 dL_law_1968 ?_
  refine C_L_142 rfl (by decide) dL_law_1969 sk_123 (Nat.le_of_ble_eq_true rfl) (Nat.le_of_eq (Nat.zero_add _)) (Nat.le_of_eq (Nat.zero_add _)) (fun _ _ hM' hT' => y_thrown hM' hT') ?_
  refine j_top (y := nI c) hth ?_
  refine j_iload_5 dL_law_1972 ?_
  refine j_ic_eq (tgt := 1979) dL_law_1974 (by decide) (fun _ => ?_) (fun h => absurd rfl h)
  refine j_iload_5 dL_law_1979 ?_
  refine j_if_ne (tgt := 1996) dL_law_1981 (by decide) (fun h => ?_) (fun h => ?_)
  · refine j_goto (tgt := 2712) dL_law_1996 (by decide) ?_
    exact next n' hn
  · refine j_aload_n_3 dL_law_1984 ?_
    refine j_iconst (v := nI 0) dL_law_1985 nc_iconst_0 ?_
    refine j_lald dL_law_1986 sk_140 sn_140 (by omega) (by decide) ?_
    refine j_topl (y := r.toInt64) (hout h) ?_
    refine j_iload_6 dL_law_1987 ?_
    refine j_i2l dL_law_1989 ?_
    refine j_lcmp dL_law_1990 ?_
    refine j_top (y := 0) (lg_self _) ?_
    refine j_if_eq (tgt := 1996) dL_law_1991 (by decide) (fun _ => ?_) (fun h => absurd rfl h)
    refine j_goto (tgt := 2712) dL_law_1996 (by decide) ?_
    exact next n' hn

set_option maxHeartbeats 4000000 in
set_option maxRecDepth 100000 in
theorem lc_31 {g : jv_G} {X : jv_X} {n : Nat} {sx : Nat → jv_S} {V : Nat → Nat → Int32} {L : Nat → Nat → Int64} {k z b M i : Nat} {xs : Nat → Int32} {v5 v6 v7 v8 : Option Value} (hSc : Sc g X b M xs) (hM : M ≤ 2560) (hi : i + 5 ≤ M) (hk : 1 ≤ k) (hz : 6 ≤ z) {c : Nat} {r : Int32} {V1 V2 : Nat → Nat → Int32} {L1 : Nat → Nat → Int64}
    (hA : ∀ X', jv_M g X' (TA n c sx V1 L1) → jv_J g X' I_L_quickest 0 [some (jv_r g 0), some (.int (xs (i + 1))), some (.int (xs (i + 2))), some (jv_r g 140), none] [] n (SH sx) V L 1 6)
    (hB : ∀ n', n ≤ n' → ∀ X' T', jv_M g X' T' → T' (.inl (some (.int r))) n' (SH sx) V2 L1 → jv_J g X' I_X5_quickest 0 [some (jv_r g 123), some (.int (xs (i + 1))), some (.int (xs (i + 2)))] [] n' (SH sx) V1 L1 0 0)
    (hth : V2 123 0 = nI c) (hout : nI c = 0 → L1 140 0 = r.toInt64)
    (next : ∀ n', n ≤ n' → jv_J g X I_L_law 2712 (lws g b i (some (.int (nI c))) (some (.int r)) v7 v8) [] n' (SH sx) V2 L1 (k - 1) (z - 6)) : jv_J g X I_L_law 1999 (lws g b i v5 v6 v7 v8) [] n (SH sx) V L k z := by
  refine j_aload_n_1 dL_law_1999 ?_
  refine jl_ld0 dL_law_2000 ?_
  refine j_iload_4 dL_law_2001 ?_
  refine j_iconst (v := nI 1) dL_law_2003 nc_iconst_1 ?_
  refine j_iaddN dL_law_2004 ?_
  refine jl_sld hSc (by omega) hM dL_law_2005 ?_
  refine jl_ld0 dL_law_2006 ?_
  refine j_iload_4 dL_law_2007 ?_
  refine j_iconst (v := nI 2) dL_law_2009 nc_iconst_2 ?_
  refine j_iaddN dL_law_2010 ?_
  refine jl_sld hSc (by omega) hM dL_law_2011 ?_
  refine j_aload_n_3 dL_law_2012 ?_
  refine R_L_242 (n1 := 0) (sh1 := fun _ => (0, 0, fun _ => none)) (V1 := fun _ _ => 0) (L1 := fun _ _ => 0) (T' := TA n c sx V1 L1) (k2 := k - 1) (z2 := z - 6) rfl (by decide) dL_law_2013 (Nat.le_of_ble_eq_true rfl) (show 1 + (k - 1) ≤ k by omega) (show 6 + (z - 6) ≤ z by omega) hA (fun v n' sh' V' L' h => ?_) (fun E n' sh' V' L' h => by cases h.2.1)
  obtain ⟨hn, ev, rfl, rfl, rfl⟩ := h
  cases ev
  show jv_J g X I_L_law 2016 _ [.int (nI c)] _ _ _ _ _ _
  refine j_istore_5 rfl (by decide) dL_law_2016 ?_
  refine j_aload_n_2 dL_law_2018 ?_
  refine jl_ld0 dL_law_2019 ?_
  refine j_iload_4 dL_law_2020 ?_
  refine j_iconst (v := nI 1) dL_law_2022 nc_iconst_1 ?_
  refine j_iaddN dL_law_2023 ?_
  refine jl_sld hSc (by omega) hM dL_law_2024 ?_
  refine jl_ld0 dL_law_2025 ?_
  refine j_iload_4 dL_law_2026 ?_
  refine j_iconst (v := nI 2) dL_law_2028 nc_iconst_2 ?_
  refine j_iaddN dL_law_2029 ?_
  refine jl_sld hSc (by omega) hM dL_law_2030 ?_
  refine C_L_244 rfl (by decide) dL_law_2031 sk_123 (Nat.le_of_ble_eq_true rfl) (Nat.le_of_eq (Nat.zero_add _)) (Nat.le_of_eq (Nat.zero_add _)) (fun X' T' hM' hT' => hB n' hn X' T' hM' hT') ?_
  refine j_istore_6 rfl (by decide) dL_law_2034 ?_
  refine j_aload_n_2 dL_law_2036 ?_
  refine C_L_142 rfl (by decide) dL_law_2037 sk_123 (Nat.le_of_ble_eq_true rfl) (Nat.le_of_eq (Nat.zero_add _)) (Nat.le_of_eq (Nat.zero_add _)) (fun _ _ hM' hT' => y_thrown hM' hT') ?_
  refine j_top (y := nI c) hth ?_
  refine j_iload_5 dL_law_2040 ?_
  refine j_ic_eq (tgt := 2047) dL_law_2042 (by decide) (fun _ => ?_) (fun h => absurd rfl h)
  refine j_iload_5 dL_law_2047 ?_
  refine j_if_ne (tgt := 2064) dL_law_2049 (by decide) (fun h => ?_) (fun h => ?_)
  · refine j_goto (tgt := 2712) dL_law_2064 (by decide) ?_
    exact next n' hn
  · refine j_aload_n_3 dL_law_2052 ?_
    refine j_iconst (v := nI 0) dL_law_2053 nc_iconst_0 ?_
    refine j_lald dL_law_2054 sk_140 sn_140 (by omega) (by decide) ?_
    refine j_topl (y := r.toInt64) (hout h) ?_
    refine j_iload_6 dL_law_2055 ?_
    refine j_i2l dL_law_2057 ?_
    refine j_lcmp dL_law_2058 ?_
    refine j_top (y := 0) (lg_self _) ?_
    refine j_if_eq (tgt := 2064) dL_law_2059 (by decide) (fun _ => ?_) (fun h => absurd rfl h)
    refine j_goto (tgt := 2712) dL_law_2064 (by decide) ?_
    exact next n' hn

set_option maxHeartbeats 4000000 in
set_option maxRecDepth 100000 in
theorem lc_32 {g : jv_G} {X : jv_X} {n : Nat} {sx : Nat → jv_S} {V : Nat → Nat → Int32} {L : Nat → Nat → Int64} {k z b M i : Nat} {xs : Nat → Int32} {v5 v6 v7 v8 : Option Value} (hSc : Sc g X b M xs) (hM : M ≤ 2560) (hi : i + 5 ≤ M) (hk : 1 ≤ k) (hz : 6 ≤ z) {c : Nat} {r : Int32} {V1 V2 : Nat → Nat → Int32} {L1 : Nat → Nat → Int64}
    (hA : ∀ X', jv_M g X' (TA n c sx V1 L1) → jv_J g X' I_L_pipesBetween 0 [some (jv_r g 0), some (.int (xs (i + 1))), some (.int (xs (i + 2))), some (jv_r g 140), none] [] n (SH sx) V L 1 6)
    (hB : ∀ n', n ≤ n' → ∀ X' T', jv_M g X' T' → T' (.inl (some (.int r))) n' (SH sx) V2 L1 → jv_J g X' I_X5_pipesBetween 0 [some (jv_r g 123), some (.int (xs (i + 1))), some (.int (xs (i + 2)))] [] n' (SH sx) V1 L1 0 0)
    (hth : V2 123 0 = nI c) (hout : nI c = 0 → L1 140 0 = r.toInt64)
    (next : ∀ n', n ≤ n' → jv_J g X I_L_law 2712 (lws g b i (some (.int (nI c))) (some (.int r)) v7 v8) [] n' (SH sx) V2 L1 (k - 1) (z - 6)) : jv_J g X I_L_law 2067 (lws g b i v5 v6 v7 v8) [] n (SH sx) V L k z := by
  refine j_aload_n_1 dL_law_2067 ?_
  refine jl_ld0 dL_law_2068 ?_
  refine j_iload_4 dL_law_2069 ?_
  refine j_iconst (v := nI 1) dL_law_2071 nc_iconst_1 ?_
  refine j_iaddN dL_law_2072 ?_
  refine jl_sld hSc (by omega) hM dL_law_2073 ?_
  refine jl_ld0 dL_law_2074 ?_
  refine j_iload_4 dL_law_2075 ?_
  refine j_iconst (v := nI 2) dL_law_2077 nc_iconst_2 ?_
  refine j_iaddN dL_law_2078 ?_
  refine jl_sld hSc (by omega) hM dL_law_2079 ?_
  refine j_aload_n_3 dL_law_2080 ?_
  refine R_L_245 (n1 := 0) (sh1 := fun _ => (0, 0, fun _ => none)) (V1 := fun _ _ => 0) (L1 := fun _ _ => 0) (T' := TA n c sx V1 L1) (k2 := k - 1) (z2 := z - 6) rfl (by decide) dL_law_2081 (Nat.le_of_ble_eq_true rfl) (show 1 + (k - 1) ≤ k by omega) (show 6 + (z - 6) ≤ z by omega) hA (fun v n' sh' V' L' h => ?_) (fun E n' sh' V' L' h => by cases h.2.1)
  obtain ⟨hn, ev, rfl, rfl, rfl⟩ := h
  cases ev
  show jv_J g X I_L_law 2084 _ [.int (nI c)] _ _ _ _ _ _
  refine j_istore_5 rfl (by decide) dL_law_2084 ?_
  refine j_aload_n_2 dL_law_2086 ?_
  refine jl_ld0 dL_law_2087 ?_
  refine j_iload_4 dL_law_2088 ?_
  refine j_iconst (v := nI 1) dL_law_2090 nc_iconst_1 ?_
  refine j_iaddN dL_law_2091 ?_
  refine jl_sld hSc (by omega) hM dL_law_2092 ?_
  refine jl_ld0 dL_law_2093 ?_
  refine j_iload_4 dL_law_2094 ?_
  refine j_iconst (v := nI 2) dL_law_2096 nc_iconst_2 ?_
  refine j_iaddN dL_law_2097 ?_
  refine jl_sld hSc (by omega) hM dL_law_2098 ?_
  refine C_L_247 rfl (by decide) dL_law_2099 sk_123 (Nat.le_of_ble_eq_true rfl) (Nat.le_of_eq (Nat.zero_add _)) (Nat.le_of_eq (Nat.zero_add _)) (fun X' T' hM' hT' => hB n' hn X' T' hM' hT') ?_
  refine j_istore_6 rfl (by decide) dL_law_2102 ?_
  refine j_aload_n_2 dL_law_2104 ?_
  refine C_L_142 rfl (by decide) dL_law_2105 sk_123 (Nat.le_of_ble_eq_true rfl) (Nat.le_of_eq (Nat.zero_add _)) (Nat.le_of_eq (Nat.zero_add _)) (fun _ _ hM' hT' => y_thrown hM' hT') ?_
  refine j_top (y := nI c) hth ?_
  refine j_iload_5 dL_law_2108 ?_
  refine j_ic_eq (tgt := 2115) dL_law_2110 (by decide) (fun _ => ?_) (fun h => absurd rfl h)
  refine j_iload_5 dL_law_2115 ?_
  refine j_if_ne (tgt := 2132) dL_law_2117 (by decide) (fun h => ?_) (fun h => ?_)
  · refine j_goto (tgt := 2712) dL_law_2132 (by decide) ?_
    exact next n' hn
  · refine j_aload_n_3 dL_law_2120 ?_
    refine j_iconst (v := nI 0) dL_law_2121 nc_iconst_0 ?_
    refine j_lald dL_law_2122 sk_140 sn_140 (by omega) (by decide) ?_
    refine j_topl (y := r.toInt64) (hout h) ?_
    refine j_iload_6 dL_law_2123 ?_
    refine j_i2l dL_law_2125 ?_
    refine j_lcmp dL_law_2126 ?_
    refine j_top (y := 0) (lg_self _) ?_
    refine j_if_eq (tgt := 2132) dL_law_2127 (by decide) (fun _ => ?_) (fun h => absurd rfl h)
    refine j_goto (tgt := 2712) dL_law_2132 (by decide) ?_
    exact next n' hn

set_option maxHeartbeats 4000000 in
set_option maxRecDepth 100000 in
theorem lc_33 {g : jv_G} {X : jv_X} {n : Nat} {sx : Nat → jv_S} {V : Nat → Nat → Int32} {L : Nat → Nat → Int64} {k z b M i : Nat} {xs : Nat → Int32} {v5 v6 v7 v8 : Option Value} (hSc : Sc g X b M xs) (hM : M ≤ 2560) (hi : i + 5 ≤ M) (hk : 1 ≤ k) (hz : 6 ≤ z) {c : Nat} {r : Int32} {V1 V2 : Nat → Nat → Int32} {L1 : Nat → Nat → Int64}
    (hA : ∀ X', jv_M g X' (TA n c sx V1 L1) → jv_J g X' I_L_farthestFrom 0 [some (jv_r g 0), some (.int (xs (i + 1))), some (jv_r g 140), none] [] n (SH sx) V L 1 6)
    (hB : ∀ n', n ≤ n' → ∀ X' T', jv_M g X' T' → T' (.inl (some (.int r))) n' (SH sx) V2 L1 → jv_J g X' I_X5_farthestFrom 0 [some (jv_r g 123), some (.int (xs (i + 1)))] [] n' (SH sx) V1 L1 0 0)
    (hth : V2 123 0 = nI c) (hout : nI c = 0 → L1 140 0 = r.toInt64)
    (next : ∀ n', n ≤ n' → jv_J g X I_L_law 2712 (lws g b i (some (.int (nI c))) (some (.int r)) v7 v8) [] n' (SH sx) V2 L1 (k - 1) (z - 6)) : jv_J g X I_L_law 2135 (lws g b i v5 v6 v7 v8) [] n (SH sx) V L k z := by
  refine j_aload_n_1 dL_law_2135 ?_
  refine jl_ld0 dL_law_2136 ?_
  refine j_iload_4 dL_law_2137 ?_
  refine j_iconst (v := nI 1) dL_law_2139 nc_iconst_1 ?_
  refine j_iaddN dL_law_2140 ?_
  refine jl_sld hSc (by omega) hM dL_law_2141 ?_
  refine j_aload_n_3 dL_law_2142 ?_
  refine R_L_248 (n1 := 0) (sh1 := fun _ => (0, 0, fun _ => none)) (V1 := fun _ _ => 0) (L1 := fun _ _ => 0) (T' := TA n c sx V1 L1) (k2 := k - 1) (z2 := z - 6) rfl (by decide) dL_law_2143 (Nat.le_of_ble_eq_true rfl) (show 1 + (k - 1) ≤ k by omega) (show 6 + (z - 6) ≤ z by omega) hA (fun v n' sh' V' L' h => ?_) (fun E n' sh' V' L' h => by cases h.2.1)
  obtain ⟨hn, ev, rfl, rfl, rfl⟩ := h
  cases ev
  show jv_J g X I_L_law 2146 _ [.int (nI c)] _ _ _ _ _ _
  refine j_istore_5 rfl (by decide) dL_law_2146 ?_
  refine j_aload_n_2 dL_law_2148 ?_
  refine jl_ld0 dL_law_2149 ?_
  refine j_iload_4 dL_law_2150 ?_
  refine j_iconst (v := nI 1) dL_law_2152 nc_iconst_1 ?_
  refine j_iaddN dL_law_2153 ?_
  refine jl_sld hSc (by omega) hM dL_law_2154 ?_
  refine C_L_250 rfl (by decide) dL_law_2155 sk_123 (Nat.le_of_ble_eq_true rfl) (Nat.le_of_eq (Nat.zero_add _)) (Nat.le_of_eq (Nat.zero_add _)) (fun X' T' hM' hT' => hB n' hn X' T' hM' hT') ?_
  refine j_istore_6 rfl (by decide) dL_law_2158 ?_
  refine j_aload_n_2 dL_law_2160 ?_
  refine C_L_142 rfl (by decide) dL_law_2161 sk_123 (Nat.le_of_ble_eq_true rfl) (Nat.le_of_eq (Nat.zero_add _)) (Nat.le_of_eq (Nat.zero_add _)) (fun _ _ hM' hT' => y_thrown hM' hT') ?_
  refine j_top (y := nI c) hth ?_
  refine j_iload_5 dL_law_2164 ?_
  refine j_ic_eq (tgt := 2171) dL_law_2166 (by decide) (fun _ => ?_) (fun h => absurd rfl h)
  refine j_iload_5 dL_law_2171 ?_
  refine j_if_ne (tgt := 2188) dL_law_2173 (by decide) (fun h => ?_) (fun h => ?_)
  · refine j_goto (tgt := 2712) dL_law_2188 (by decide) ?_
    exact next n' hn
  · refine j_aload_n_3 dL_law_2176 ?_
    refine j_iconst (v := nI 0) dL_law_2177 nc_iconst_0 ?_
    refine j_lald dL_law_2178 sk_140 sn_140 (by omega) (by decide) ?_
    refine j_topl (y := r.toInt64) (hout h) ?_
    refine j_iload_6 dL_law_2179 ?_
    refine j_i2l dL_law_2181 ?_
    refine j_lcmp dL_law_2182 ?_
    refine j_top (y := 0) (lg_self _) ?_
    refine j_if_eq (tgt := 2188) dL_law_2183 (by decide) (fun _ => ?_) (fun h => absurd rfl h)
    refine j_goto (tgt := 2712) dL_law_2188 (by decide) ?_
    exact next n' hn

set_option maxHeartbeats 4000000 in
set_option maxRecDepth 100000 in
theorem lc_36 {g : jv_G} {X : jv_X} {n : Nat} {sx : Nat → jv_S} {V : Nat → Nat → Int32} {L : Nat → Nat → Int64} {k z b M i : Nat} {xs : Nat → Int32} {v5 v6 v7 v8 : Option Value} (hSc : Sc g X b M xs) (hM : M ≤ 2560) (hi : i + 5 ≤ M) (hk : 1 ≤ k) (hz : 6 ≤ z) {c : Nat} {r : Int32} {V1 V2 : Nat → Nat → Int32} {L1 : Nat → Nat → Int64}
    (hA : ∀ X', jv_M g X' (TA n c sx V1 L1) → jv_J g X' I_L_gainBy 0 [some (jv_r g 0), some (.int (xs (i + 1))), some (.int (xs (i + 2))), some (.int (xs (i + 3))), some (jv_r g 140), none] [] n (SH sx) V L 1 6)
    (hB : ∀ n', n ≤ n' → ∀ X' T', jv_M g X' T' → T' (.inl (some (.int r))) n' (SH sx) V2 L1 → jv_J g X' I_X5_gainBy 0 [some (jv_r g 123), some (.int (xs (i + 1))), some (.int (xs (i + 2))), some (.int (xs (i + 3))), none, none] [] n' (SH sx) V1 L1 0 0)
    (hth : V2 123 0 = nI c) (hout : nI c = 0 → L1 140 0 = r.toInt64)
    (next : ∀ n', n ≤ n' → jv_J g X I_L_law 2712 (lws g b i (some (.int (nI c))) (some (.int r)) v7 v8) [] n' (SH sx) V2 L1 (k - 1) (z - 6)) : jv_J g X I_L_law 2217 (lws g b i v5 v6 v7 v8) [] n (SH sx) V L k z := by
  refine j_aload_n_1 dL_law_2217 ?_
  refine jl_ld0 dL_law_2218 ?_
  refine j_iload_4 dL_law_2219 ?_
  refine j_iconst (v := nI 1) dL_law_2221 nc_iconst_1 ?_
  refine j_iaddN dL_law_2222 ?_
  refine jl_sld hSc (by omega) hM dL_law_2223 ?_
  refine jl_ld0 dL_law_2224 ?_
  refine j_iload_4 dL_law_2225 ?_
  refine j_iconst (v := nI 2) dL_law_2227 nc_iconst_2 ?_
  refine j_iaddN dL_law_2228 ?_
  refine jl_sld hSc (by omega) hM dL_law_2229 ?_
  refine jl_ld0 dL_law_2230 ?_
  refine j_iload_4 dL_law_2231 ?_
  refine j_iconst (v := nI 3) dL_law_2233 nc_iconst_3 ?_
  refine j_iaddN dL_law_2234 ?_
  refine jl_sld hSc (by omega) hM dL_law_2235 ?_
  refine j_aload_n_3 dL_law_2236 ?_
  refine R_L_259 (n1 := 0) (sh1 := fun _ => (0, 0, fun _ => none)) (V1 := fun _ _ => 0) (L1 := fun _ _ => 0) (T' := TA n c sx V1 L1) (k2 := k - 1) (z2 := z - 6) rfl (by decide) dL_law_2237 (Nat.le_of_ble_eq_true rfl) (show 1 + (k - 1) ≤ k by omega) (show 6 + (z - 6) ≤ z by omega) hA (fun v n' sh' V' L' h => ?_) (fun E n' sh' V' L' h => by cases h.2.1)
  obtain ⟨hn, ev, rfl, rfl, rfl⟩ := h
  cases ev
  show jv_J g X I_L_law 2240 _ [.int (nI c)] _ _ _ _ _ _
  refine j_istore_5 rfl (by decide) dL_law_2240 ?_
  refine j_aload_n_2 dL_law_2242 ?_
  refine jl_ld0 dL_law_2243 ?_
  refine j_iload_4 dL_law_2244 ?_
  refine j_iconst (v := nI 1) dL_law_2246 nc_iconst_1 ?_
  refine j_iaddN dL_law_2247 ?_
  refine jl_sld hSc (by omega) hM dL_law_2248 ?_
  refine jl_ld0 dL_law_2249 ?_
  refine j_iload_4 dL_law_2250 ?_
  refine j_iconst (v := nI 2) dL_law_2252 nc_iconst_2 ?_
  refine j_iaddN dL_law_2253 ?_
  refine jl_sld hSc (by omega) hM dL_law_2254 ?_
  refine jl_ld0 dL_law_2255 ?_
  refine j_iload_4 dL_law_2256 ?_
  refine j_iconst (v := nI 3) dL_law_2258 nc_iconst_3 ?_
  refine j_iaddN dL_law_2259 ?_
  refine jl_sld hSc (by omega) hM dL_law_2260 ?_
  refine C_L_262 rfl (by decide) dL_law_2261 sk_123 (Nat.le_of_ble_eq_true rfl) (Nat.le_of_eq (Nat.zero_add _)) (Nat.le_of_eq (Nat.zero_add _)) (fun X' T' hM' hT' => hB n' hn X' T' hM' hT') ?_
  refine j_istore_6 rfl (by decide) dL_law_2264 ?_
  refine j_aload_n_2 dL_law_2266 ?_
  refine C_L_142 rfl (by decide) dL_law_2267 sk_123 (Nat.le_of_ble_eq_true rfl) (Nat.le_of_eq (Nat.zero_add _)) (Nat.le_of_eq (Nat.zero_add _)) (fun _ _ hM' hT' => y_thrown hM' hT') ?_
  refine j_top (y := nI c) hth ?_
  refine j_iload_5 dL_law_2270 ?_
  refine j_ic_eq (tgt := 2277) dL_law_2272 (by decide) (fun _ => ?_) (fun h => absurd rfl h)
  refine j_iload_5 dL_law_2277 ?_
  refine j_if_ne (tgt := 2294) dL_law_2279 (by decide) (fun h => ?_) (fun h => ?_)
  · refine j_goto (tgt := 2712) dL_law_2294 (by decide) ?_
    exact next n' hn
  · refine j_aload_n_3 dL_law_2282 ?_
    refine j_iconst (v := nI 0) dL_law_2283 nc_iconst_0 ?_
    refine j_lald dL_law_2284 sk_140 sn_140 (by omega) (by decide) ?_
    refine j_topl (y := r.toInt64) (hout h) ?_
    refine j_iload_6 dL_law_2285 ?_
    refine j_i2l dL_law_2287 ?_
    refine j_lcmp dL_law_2288 ?_
    refine j_top (y := 0) (lg_self _) ?_
    refine j_if_eq (tgt := 2294) dL_law_2289 (by decide) (fun _ => ?_) (fun h => absurd rfl h)
    refine j_goto (tgt := 2712) dL_law_2294 (by decide) ?_
    exact next n' hn

set_option maxHeartbeats 4000000 in
set_option maxRecDepth 100000 in
theorem lc_37 {g : jv_G} {X : jv_X} {n : Nat} {sx : Nat → jv_S} {V : Nat → Nat → Int32} {L : Nat → Nat → Int64} {k z b M i : Nat} {xs : Nat → Int32} {v5 v6 v7 v8 : Option Value} (hSc : Sc g X b M xs) (hM : M ≤ 2560) (hi : i + 5 ≤ M) (hk : 1 ≤ k) (hz : 6 ≤ z) {c : Nat} {r : Int32} {V1 V2 : Nat → Nat → Int32} {L1 : Nat → Nat → Int64}
    (hA : ∀ X', jv_M g X' (TA n c sx V1 L1) → jv_J g X' I_L_wouldHear 0 [some (jv_r g 0), some (.int (xs (i + 1))), some (.int (xs (i + 2))), some (jv_r g 140), none] [] n (SH sx) V L 1 6)
    (hB : ∀ n', n ≤ n' → ∀ X' T', jv_M g X' T' → T' (.inl (some (.int r))) n' (SH sx) V2 L1 → jv_J g X' I_X5_wouldHear 0 [some (jv_r g 123), some (.int (xs (i + 1))), some (.int (xs (i + 2))), none] [] n' (SH sx) V1 L1 0 0)
    (hth : V2 123 0 = nI c) (hout : nI c = 0 → L1 140 0 = r.toInt64)
    (next : ∀ n', n ≤ n' → jv_J g X I_L_law 2712 (lws g b i (some (.int (nI c))) (some (.int r)) v7 v8) [] n' (SH sx) V2 L1 (k - 1) (z - 6)) : jv_J g X I_L_law 2297 (lws g b i v5 v6 v7 v8) [] n (SH sx) V L k z := by
  refine j_aload_n_1 dL_law_2297 ?_
  refine jl_ld0 dL_law_2298 ?_
  refine j_iload_4 dL_law_2299 ?_
  refine j_iconst (v := nI 1) dL_law_2301 nc_iconst_1 ?_
  refine j_iaddN dL_law_2302 ?_
  refine jl_sld hSc (by omega) hM dL_law_2303 ?_
  refine jl_ld0 dL_law_2304 ?_
  refine j_iload_4 dL_law_2305 ?_
  refine j_iconst (v := nI 2) dL_law_2307 nc_iconst_2 ?_
  refine j_iaddN dL_law_2308 ?_
  refine jl_sld hSc (by omega) hM dL_law_2309 ?_
  refine j_aload_n_3 dL_law_2310 ?_
  refine R_L_263 (n1 := 0) (sh1 := fun _ => (0, 0, fun _ => none)) (V1 := fun _ _ => 0) (L1 := fun _ _ => 0) (T' := TA n c sx V1 L1) (k2 := k - 1) (z2 := z - 6) rfl (by decide) dL_law_2311 (Nat.le_of_ble_eq_true rfl) (show 1 + (k - 1) ≤ k by omega) (show 6 + (z - 6) ≤ z by omega) hA (fun v n' sh' V' L' h => ?_) (fun E n' sh' V' L' h => by cases h.2.1)
  obtain ⟨hn, ev, rfl, rfl, rfl⟩ := h
  cases ev
  show jv_J g X I_L_law 2314 _ [.int (nI c)] _ _ _ _ _ _
  refine j_istore_5 rfl (by decide) dL_law_2314 ?_
  refine j_aload_n_2 dL_law_2316 ?_
  refine jl_ld0 dL_law_2317 ?_
  refine j_iload_4 dL_law_2318 ?_
  refine j_iconst (v := nI 1) dL_law_2320 nc_iconst_1 ?_
  refine j_iaddN dL_law_2321 ?_
  refine jl_sld hSc (by omega) hM dL_law_2322 ?_
  refine jl_ld0 dL_law_2323 ?_
  refine j_iload_4 dL_law_2324 ?_
  refine j_iconst (v := nI 2) dL_law_2326 nc_iconst_2 ?_
  refine j_iaddN dL_law_2327 ?_
  refine jl_sld hSc (by omega) hM dL_law_2328 ?_
  refine C_L_265 rfl (by decide) dL_law_2329 sk_123 (Nat.le_of_ble_eq_true rfl) (Nat.le_of_eq (Nat.zero_add _)) (Nat.le_of_eq (Nat.zero_add _)) (fun X' T' hM' hT' => hB n' hn X' T' hM' hT') ?_
  refine j_istore_6 rfl (by decide) dL_law_2332 ?_
  refine j_aload_n_2 dL_law_2334 ?_
  refine C_L_142 rfl (by decide) dL_law_2335 sk_123 (Nat.le_of_ble_eq_true rfl) (Nat.le_of_eq (Nat.zero_add _)) (Nat.le_of_eq (Nat.zero_add _)) (fun _ _ hM' hT' => y_thrown hM' hT') ?_
  refine j_top (y := nI c) hth ?_
  refine j_iload_5 dL_law_2338 ?_
  refine j_ic_eq (tgt := 2345) dL_law_2340 (by decide) (fun _ => ?_) (fun h => absurd rfl h)
  refine j_iload_5 dL_law_2345 ?_
  refine j_if_ne (tgt := 2362) dL_law_2347 (by decide) (fun h => ?_) (fun h => ?_)
  · refine j_goto (tgt := 2712) dL_law_2362 (by decide) ?_
    exact next n' hn
  · refine j_aload_n_3 dL_law_2350 ?_
    refine j_iconst (v := nI 0) dL_law_2351 nc_iconst_0 ?_
    refine j_lald dL_law_2352 sk_140 sn_140 (by omega) (by decide) ?_
    refine j_topl (y := r.toInt64) (hout h) ?_
    refine j_iload_6 dL_law_2353 ?_
    refine j_i2l dL_law_2355 ?_
    refine j_lcmp dL_law_2356 ?_
    refine j_top (y := 0) (lg_self _) ?_
    refine j_if_eq (tgt := 2362) dL_law_2357 (by decide) (fun _ => ?_) (fun h => absurd rfl h)
    refine j_goto (tgt := 2712) dL_law_2362 (by decide) ?_
    exact next n' hn

set_option maxHeartbeats 4000000 in
set_option maxRecDepth 100000 in
theorem lc_38 {g : jv_G} {X : jv_X} {n : Nat} {sx : Nat → jv_S} {V : Nat → Nat → Int32} {L : Nat → Nat → Int64} {k z b M i : Nat} {xs : Nat → Int32} {v5 v6 v7 v8 : Option Value} (hSc : Sc g X b M xs) (hM : M ≤ 2560) (hi : i + 5 ≤ M) (hk : 1 ≤ k) (hz : 6 ≤ z) {c : Nat} {r : Int32} {V1 V2 : Nat → Nat → Int32} {L1 : Nat → Nat → Int64}
    (hA : ∀ X', jv_M g X' (TA n c sx V1 L1) → jv_J g X' I_L_believersInTheEnd 0 [some (jv_r g 0), some (.int (xs (i + 1))), some (jv_r g 140), none] [] n (SH sx) V L 1 6)
    (hB : ∀ n', n ≤ n' → ∀ X' T', jv_M g X' T' → T' (.inl (some (.int r))) n' (SH sx) V2 L1 → jv_J g X' I_X5_believersInTheEnd 0 [some (jv_r g 123), some (.int (xs (i + 1)))] [] n' (SH sx) V1 L1 0 0)
    (hth : V2 123 0 = nI c) (hout : nI c = 0 → L1 140 0 = r.toInt64)
    (next : ∀ n', n ≤ n' → jv_J g X I_L_law 2712 (lws g b i (some (.int (nI c))) (some (.int r)) v7 v8) [] n' (SH sx) V2 L1 (k - 1) (z - 6)) : jv_J g X I_L_law 2365 (lws g b i v5 v6 v7 v8) [] n (SH sx) V L k z := by
  refine j_aload_n_1 dL_law_2365 ?_
  refine jl_ld0 dL_law_2366 ?_
  refine j_iload_4 dL_law_2367 ?_
  refine j_iconst (v := nI 1) dL_law_2369 nc_iconst_1 ?_
  refine j_iaddN dL_law_2370 ?_
  refine jl_sld hSc (by omega) hM dL_law_2371 ?_
  refine j_aload_n_3 dL_law_2372 ?_
  refine R_L_266 (n1 := 0) (sh1 := fun _ => (0, 0, fun _ => none)) (V1 := fun _ _ => 0) (L1 := fun _ _ => 0) (T' := TA n c sx V1 L1) (k2 := k - 1) (z2 := z - 6) rfl (by decide) dL_law_2373 (Nat.le_of_ble_eq_true rfl) (show 1 + (k - 1) ≤ k by omega) (show 6 + (z - 6) ≤ z by omega) hA (fun v n' sh' V' L' h => ?_) (fun E n' sh' V' L' h => by cases h.2.1)
  obtain ⟨hn, ev, rfl, rfl, rfl⟩ := h
  cases ev
  show jv_J g X I_L_law 2376 _ [.int (nI c)] _ _ _ _ _ _
  refine j_istore_5 rfl (by decide) dL_law_2376 ?_
  refine j_aload_n_2 dL_law_2378 ?_
  refine jl_ld0 dL_law_2379 ?_
  refine j_iload_4 dL_law_2380 ?_
  refine j_iconst (v := nI 1) dL_law_2382 nc_iconst_1 ?_
  refine j_iaddN dL_law_2383 ?_
  refine jl_sld hSc (by omega) hM dL_law_2384 ?_
  refine C_L_268 rfl (by decide) dL_law_2385 sk_123 (Nat.le_of_ble_eq_true rfl) (Nat.le_of_eq (Nat.zero_add _)) (Nat.le_of_eq (Nat.zero_add _)) (fun X' T' hM' hT' => hB n' hn X' T' hM' hT') ?_
  refine j_istore_6 rfl (by decide) dL_law_2388 ?_
  refine j_aload_n_2 dL_law_2390 ?_
  refine C_L_142 rfl (by decide) dL_law_2391 sk_123 (Nat.le_of_ble_eq_true rfl) (Nat.le_of_eq (Nat.zero_add _)) (Nat.le_of_eq (Nat.zero_add _)) (fun _ _ hM' hT' => y_thrown hM' hT') ?_
  refine j_top (y := nI c) hth ?_
  refine j_iload_5 dL_law_2394 ?_
  refine j_ic_eq (tgt := 2401) dL_law_2396 (by decide) (fun _ => ?_) (fun h => absurd rfl h)
  refine j_iload_5 dL_law_2401 ?_
  refine j_if_ne (tgt := 2418) dL_law_2403 (by decide) (fun h => ?_) (fun h => ?_)
  · refine j_goto (tgt := 2712) dL_law_2418 (by decide) ?_
    exact next n' hn
  · refine j_aload_n_3 dL_law_2406 ?_
    refine j_iconst (v := nI 0) dL_law_2407 nc_iconst_0 ?_
    refine j_lald dL_law_2408 sk_140 sn_140 (by omega) (by decide) ?_
    refine j_topl (y := r.toInt64) (hout h) ?_
    refine j_iload_6 dL_law_2409 ?_
    refine j_i2l dL_law_2411 ?_
    refine j_lcmp dL_law_2412 ?_
    refine j_top (y := 0) (lg_self _) ?_
    refine j_if_eq (tgt := 2418) dL_law_2413 (by decide) (fun _ => ?_) (fun h => absurd rfl h)
    refine j_goto (tgt := 2712) dL_law_2418 (by decide) ?_
    exact next n' hn

set_option maxHeartbeats 4000000 in
set_option maxRecDepth 100000 in
theorem lc_39 {g : jv_G} {X : jv_X} {n : Nat} {sx : Nat → jv_S} {V : Nat → Nat → Int32} {L : Nat → Nat → Int64} {k z b M i : Nat} {xs : Nat → Int32} {v5 v6 v7 v8 : Option Value} (hSc : Sc g X b M xs) (hM : M ≤ 2560) (hi : i + 5 ≤ M) (hk : 1 ≤ k) (hz : 6 ≤ z) {c : Nat} {r : Int32} {V1 V2 : Nat → Nat → Int32} {L1 : Nat → Nat → Int64}
    (hA : ∀ X', jv_M g X' (TA n c sx V1 L1) → jv_J g X' I_L_quietIn 0 [some (jv_r g 0), some (.int (xs (i + 1))), some (jv_r g 140), none] [] n (SH sx) V L 1 6)
    (hB : ∀ n', n ≤ n' → ∀ X' T', jv_M g X' T' → T' (.inl (some (.int r))) n' (SH sx) V2 L1 → jv_J g X' I_X5_quietIn 0 [some (jv_r g 123), some (.int (xs (i + 1)))] [] n' (SH sx) V1 L1 0 0)
    (hth : V2 123 0 = nI c) (hout : nI c = 0 → L1 140 0 = r.toInt64)
    (next : ∀ n', n ≤ n' → jv_J g X I_L_law 2712 (lws g b i (some (.int (nI c))) (some (.int r)) v7 v8) [] n' (SH sx) V2 L1 (k - 1) (z - 6)) : jv_J g X I_L_law 2421 (lws g b i v5 v6 v7 v8) [] n (SH sx) V L k z := by
  refine j_aload_n_1 dL_law_2421 ?_
  refine jl_ld0 dL_law_2422 ?_
  refine j_iload_4 dL_law_2423 ?_
  refine j_iconst (v := nI 1) dL_law_2425 nc_iconst_1 ?_
  refine j_iaddN dL_law_2426 ?_
  refine jl_sld hSc (by omega) hM dL_law_2427 ?_
  refine j_aload_n_3 dL_law_2428 ?_
  refine R_L_269 (n1 := 0) (sh1 := fun _ => (0, 0, fun _ => none)) (V1 := fun _ _ => 0) (L1 := fun _ _ => 0) (T' := TA n c sx V1 L1) (k2 := k - 1) (z2 := z - 6) rfl (by decide) dL_law_2429 (Nat.le_of_ble_eq_true rfl) (show 1 + (k - 1) ≤ k by omega) (show 6 + (z - 6) ≤ z by omega) hA (fun v n' sh' V' L' h => ?_) (fun E n' sh' V' L' h => by cases h.2.1)
  obtain ⟨hn, ev, rfl, rfl, rfl⟩ := h
  cases ev
  show jv_J g X I_L_law 2432 _ [.int (nI c)] _ _ _ _ _ _
  refine j_istore_5 rfl (by decide) dL_law_2432 ?_
  refine j_aload_n_2 dL_law_2434 ?_
  refine jl_ld0 dL_law_2435 ?_
  refine j_iload_4 dL_law_2436 ?_
  refine j_iconst (v := nI 1) dL_law_2438 nc_iconst_1 ?_
  refine j_iaddN dL_law_2439 ?_
  refine jl_sld hSc (by omega) hM dL_law_2440 ?_
  refine C_L_271 rfl (by decide) dL_law_2441 sk_123 (Nat.le_of_ble_eq_true rfl) (Nat.le_of_eq (Nat.zero_add _)) (Nat.le_of_eq (Nat.zero_add _)) (fun X' T' hM' hT' => hB n' hn X' T' hM' hT') ?_
  refine j_istore_6 rfl (by decide) dL_law_2444 ?_
  refine j_aload_n_2 dL_law_2446 ?_
  refine C_L_142 rfl (by decide) dL_law_2447 sk_123 (Nat.le_of_ble_eq_true rfl) (Nat.le_of_eq (Nat.zero_add _)) (Nat.le_of_eq (Nat.zero_add _)) (fun _ _ hM' hT' => y_thrown hM' hT') ?_
  refine j_top (y := nI c) hth ?_
  refine j_iload_5 dL_law_2450 ?_
  refine j_ic_eq (tgt := 2457) dL_law_2452 (by decide) (fun _ => ?_) (fun h => absurd rfl h)
  refine j_iload_5 dL_law_2457 ?_
  refine j_if_ne (tgt := 2474) dL_law_2459 (by decide) (fun h => ?_) (fun h => ?_)
  · refine j_goto (tgt := 2712) dL_law_2474 (by decide) ?_
    exact next n' hn
  · refine j_aload_n_3 dL_law_2462 ?_
    refine j_iconst (v := nI 0) dL_law_2463 nc_iconst_0 ?_
    refine j_lald dL_law_2464 sk_140 sn_140 (by omega) (by decide) ?_
    refine j_topl (y := r.toInt64) (hout h) ?_
    refine j_iload_6 dL_law_2465 ?_
    refine j_i2l dL_law_2467 ?_
    refine j_lcmp dL_law_2468 ?_
    refine j_top (y := 0) (lg_self _) ?_
    refine j_if_eq (tgt := 2474) dL_law_2469 (by decide) (fun _ => ?_) (fun h => absurd rfl h)
    refine j_goto (tgt := 2712) dL_law_2474 (by decide) ?_
    exact next n' hn

set_option maxHeartbeats 4000000 in
set_option maxRecDepth 100000 in
theorem lc_40 {g : jv_G} {X : jv_X} {n : Nat} {sx : Nat → jv_S} {V : Nat → Nat → Int32} {L : Nat → Nat → Int64} {k z b M i : Nat} {xs : Nat → Int32} {v5 v6 v7 v8 : Option Value} (hSc : Sc g X b M xs) (hM : M ≤ 2560) (hi : i + 5 ≤ M) (hk : 1 ≤ k) (hz : 6 ≤ z) {c : Nat} {r : Int32} {V1 V2 : Nat → Nat → Int32} {L1 : Nat → Nat → Int64}
    (hA : ∀ X', jv_M g X' (TA n c sx V1 L1) → jv_J g X' I_L_believersWith 0 [some (jv_r g 0), some (.int (xs (i + 1))), some (.int (xs (i + 2))), some (jv_r g 140), none] [] n (SH sx) V L 1 6)
    (hB : ∀ n', n ≤ n' → ∀ X' T', jv_M g X' T' → T' (.inl (some (.int r))) n' (SH sx) V2 L1 → jv_J g X' I_X5_believersWith 0 [some (jv_r g 123), some (.int (xs (i + 1))), some (.int (xs (i + 2)))] [] n' (SH sx) V1 L1 0 0)
    (hth : V2 123 0 = nI c) (hout : nI c = 0 → L1 140 0 = r.toInt64)
    (next : ∀ n', n ≤ n' → jv_J g X I_L_law 2712 (lws g b i (some (.int (nI c))) (some (.int r)) v7 v8) [] n' (SH sx) V2 L1 (k - 1) (z - 6)) : jv_J g X I_L_law 2477 (lws g b i v5 v6 v7 v8) [] n (SH sx) V L k z := by
  refine j_aload_n_1 dL_law_2477 ?_
  refine jl_ld0 dL_law_2478 ?_
  refine j_iload_4 dL_law_2479 ?_
  refine j_iconst (v := nI 1) dL_law_2481 nc_iconst_1 ?_
  refine j_iaddN dL_law_2482 ?_
  refine jl_sld hSc (by omega) hM dL_law_2483 ?_
  refine jl_ld0 dL_law_2484 ?_
  refine j_iload_4 dL_law_2485 ?_
  refine j_iconst (v := nI 2) dL_law_2487 nc_iconst_2 ?_
  refine j_iaddN dL_law_2488 ?_
  refine jl_sld hSc (by omega) hM dL_law_2489 ?_
  refine j_aload_n_3 dL_law_2490 ?_
  refine R_L_272 (n1 := 0) (sh1 := fun _ => (0, 0, fun _ => none)) (V1 := fun _ _ => 0) (L1 := fun _ _ => 0) (T' := TA n c sx V1 L1) (k2 := k - 1) (z2 := z - 6) rfl (by decide) dL_law_2491 (Nat.le_of_ble_eq_true rfl) (show 1 + (k - 1) ≤ k by omega) (show 6 + (z - 6) ≤ z by omega) hA (fun v n' sh' V' L' h => ?_) (fun E n' sh' V' L' h => by cases h.2.1)
  obtain ⟨hn, ev, rfl, rfl, rfl⟩ := h
  cases ev
  show jv_J g X I_L_law 2494 _ [.int (nI c)] _ _ _ _ _ _
  refine j_istore_5 rfl (by decide) dL_law_2494 ?_
  refine j_aload_n_2 dL_law_2496 ?_
  refine jl_ld0 dL_law_2497 ?_
  refine j_iload_4 dL_law_2498 ?_
  refine j_iconst (v := nI 1) dL_law_2500 nc_iconst_1 ?_
  refine j_iaddN dL_law_2501 ?_
  refine jl_sld hSc (by omega) hM dL_law_2502 ?_
  refine jl_ld0 dL_law_2503 ?_
  refine j_iload_4 dL_law_2504 ?_
  refine j_iconst (v := nI 2) dL_law_2506 nc_iconst_2 ?_
  refine j_iaddN dL_law_2507 ?_
  refine jl_sld hSc (by omega) hM dL_law_2508 ?_
  refine C_L_274 rfl (by decide) dL_law_2509 sk_123 (Nat.le_of_ble_eq_true rfl) (Nat.le_of_eq (Nat.zero_add _)) (Nat.le_of_eq (Nat.zero_add _)) (fun X' T' hM' hT' => hB n' hn X' T' hM' hT') ?_
  refine j_istore_6 rfl (by decide) dL_law_2512 ?_
  refine j_aload_n_2 dL_law_2514 ?_
  refine C_L_142 rfl (by decide) dL_law_2515 sk_123 (Nat.le_of_ble_eq_true rfl) (Nat.le_of_eq (Nat.zero_add _)) (Nat.le_of_eq (Nat.zero_add _)) (fun _ _ hM' hT' => y_thrown hM' hT') ?_
  refine j_top (y := nI c) hth ?_
  refine j_iload_5 dL_law_2518 ?_
  refine j_ic_eq (tgt := 2525) dL_law_2520 (by decide) (fun _ => ?_) (fun h => absurd rfl h)
  refine j_iload_5 dL_law_2525 ?_
  refine j_if_ne (tgt := 2542) dL_law_2527 (by decide) (fun h => ?_) (fun h => ?_)
  · refine j_goto (tgt := 2712) dL_law_2542 (by decide) ?_
    exact next n' hn
  · refine j_aload_n_3 dL_law_2530 ?_
    refine j_iconst (v := nI 0) dL_law_2531 nc_iconst_0 ?_
    refine j_lald dL_law_2532 sk_140 sn_140 (by omega) (by decide) ?_
    refine j_topl (y := r.toInt64) (hout h) ?_
    refine j_iload_6 dL_law_2533 ?_
    refine j_i2l dL_law_2535 ?_
    refine j_lcmp dL_law_2536 ?_
    refine j_top (y := 0) (lg_self _) ?_
    refine j_if_eq (tgt := 2542) dL_law_2537 (by decide) (fun _ => ?_) (fun h => absurd rfl h)
    refine j_goto (tgt := 2712) dL_law_2542 (by decide) ?_
    exact next n' hn

set_option maxHeartbeats 4000000 in
set_option maxRecDepth 100000 in
theorem lc_41 {g : jv_G} {X : jv_X} {n : Nat} {sx : Nat → jv_S} {V : Nat → Nat → Int32} {L : Nat → Nat → Int64} {k z b M i : Nat} {xs : Nat → Int32} {v5 v6 v7 v8 : Option Value} (hSc : Sc g X b M xs) (hM : M ≤ 2560) (hi : i + 5 ≤ M) (hk : 1 ≤ k) (hz : 6 ≤ z) {c : Nat} {r : Int32} {V1 V2 : Nat → Nat → Int32} {L1 : Nat → Nat → Int64}
    (hA : ∀ X', jv_M g X' (TA n c sx V1 L1) → jv_J g X' I_L_bestDenial 0 [some (jv_r g 0), some (.int (xs (i + 1))), some (jv_r g 140), none] [] n (SH sx) V L 1 6)
    (hB : ∀ n', n ≤ n' → ∀ X' T', jv_M g X' T' → T' (.inl (some (.int r))) n' (SH sx) V2 L1 → jv_J g X' I_X5_bestDenial 0 [some (jv_r g 123), some (.int (xs (i + 1)))] [] n' (SH sx) V1 L1 0 0)
    (hth : V2 123 0 = nI c) (hout : nI c = 0 → L1 140 0 = r.toInt64)
    (next : ∀ n', n ≤ n' → jv_J g X I_L_law 2712 (lws g b i (some (.int (nI c))) (some (.int r)) v7 v8) [] n' (SH sx) V2 L1 (k - 1) (z - 6)) : jv_J g X I_L_law 2545 (lws g b i v5 v6 v7 v8) [] n (SH sx) V L k z := by
  refine j_aload_n_1 dL_law_2545 ?_
  refine jl_ld0 dL_law_2546 ?_
  refine j_iload_4 dL_law_2547 ?_
  refine j_iconst (v := nI 1) dL_law_2549 nc_iconst_1 ?_
  refine j_iaddN dL_law_2550 ?_
  refine jl_sld hSc (by omega) hM dL_law_2551 ?_
  refine j_aload_n_3 dL_law_2552 ?_
  refine R_L_275 (n1 := 0) (sh1 := fun _ => (0, 0, fun _ => none)) (V1 := fun _ _ => 0) (L1 := fun _ _ => 0) (T' := TA n c sx V1 L1) (k2 := k - 1) (z2 := z - 6) rfl (by decide) dL_law_2553 (Nat.le_of_ble_eq_true rfl) (show 1 + (k - 1) ≤ k by omega) (show 6 + (z - 6) ≤ z by omega) hA (fun v n' sh' V' L' h => ?_) (fun E n' sh' V' L' h => by cases h.2.1)
  obtain ⟨hn, ev, rfl, rfl, rfl⟩ := h
  cases ev
  show jv_J g X I_L_law 2556 _ [.int (nI c)] _ _ _ _ _ _
  refine j_istore_5 rfl (by decide) dL_law_2556 ?_
  refine j_aload_n_2 dL_law_2558 ?_
  refine jl_ld0 dL_law_2559 ?_
  refine j_iload_4 dL_law_2560 ?_
  refine j_iconst (v := nI 1) dL_law_2562 nc_iconst_1 ?_
  refine j_iaddN dL_law_2563 ?_
  refine jl_sld hSc (by omega) hM dL_law_2564 ?_
  refine C_L_277 rfl (by decide) dL_law_2565 sk_123 (Nat.le_of_ble_eq_true rfl) (Nat.le_of_eq (Nat.zero_add _)) (Nat.le_of_eq (Nat.zero_add _)) (fun X' T' hM' hT' => hB n' hn X' T' hM' hT') ?_
  refine j_istore_6 rfl (by decide) dL_law_2568 ?_
  refine j_aload_n_2 dL_law_2570 ?_
  refine C_L_142 rfl (by decide) dL_law_2571 sk_123 (Nat.le_of_ble_eq_true rfl) (Nat.le_of_eq (Nat.zero_add _)) (Nat.le_of_eq (Nat.zero_add _)) (fun _ _ hM' hT' => y_thrown hM' hT') ?_
  refine j_top (y := nI c) hth ?_
  refine j_iload_5 dL_law_2574 ?_
  refine j_ic_eq (tgt := 2581) dL_law_2576 (by decide) (fun _ => ?_) (fun h => absurd rfl h)
  refine j_iload_5 dL_law_2581 ?_
  refine j_if_ne (tgt := 2598) dL_law_2583 (by decide) (fun h => ?_) (fun h => ?_)
  · refine j_goto (tgt := 2712) dL_law_2598 (by decide) ?_
    exact next n' hn
  · refine j_aload_n_3 dL_law_2586 ?_
    refine j_iconst (v := nI 0) dL_law_2587 nc_iconst_0 ?_
    refine j_lald dL_law_2588 sk_140 sn_140 (by omega) (by decide) ?_
    refine j_topl (y := r.toInt64) (hout h) ?_
    refine j_iload_6 dL_law_2589 ?_
    refine j_i2l dL_law_2591 ?_
    refine j_lcmp dL_law_2592 ?_
    refine j_top (y := 0) (lg_self _) ?_
    refine j_if_eq (tgt := 2598) dL_law_2593 (by decide) (fun _ => ?_) (fun h => absurd rfl h)
    refine j_goto (tgt := 2712) dL_law_2598 (by decide) ?_
    exact next n' hn

set_option maxHeartbeats 4000000 in
set_option maxRecDepth 100000 in
theorem lc_42 {g : jv_G} {X : jv_X} {n : Nat} {sx : Nat → jv_S} {V : Nat → Nat → Int32} {L : Nat → Nat → Int64} {k z b M i : Nat} {xs : Nat → Int32} {v5 v6 v7 v8 : Option Value} (hSc : Sc g X b M xs) (hM : M ≤ 2560) (hi : i + 5 ≤ M) (hk : 1 ≤ k) (hz : 6 ≤ z) {c : Nat} {r : Int32} {V1 V2 : Nat → Nat → Int32} {L1 : Nat → Nat → Int64}
    (hA : ∀ X', jv_M g X' (TA n c sx V1 L1) → jv_J g X' I_L_bestStairsToShut 0 [some (jv_r g 0), some (.int (xs (i + 1))), some (jv_r g 140), none] [] n (SH sx) V L 1 6)
    (hB : ∀ n', n ≤ n' → ∀ X' T', jv_M g X' T' → T' (.inl (some (.int r))) n' (SH sx) V2 L1 → jv_J g X' I_X5_bestStairsToShut 0 [some (jv_r g 123), some (.int (xs (i + 1)))] [] n' (SH sx) V1 L1 0 0)
    (hth : V2 123 0 = nI c) (hout : nI c = 0 → L1 140 0 = r.toInt64)
    (next : ∀ n', n ≤ n' → jv_J g X I_L_law 2712 (lws g b i (some (.int (nI c))) (some (.int r)) v7 v8) [] n' (SH sx) V2 L1 (k - 1) (z - 6)) : jv_J g X I_L_law 2601 (lws g b i v5 v6 v7 v8) [] n (SH sx) V L k z := by
  refine j_aload_n_1 dL_law_2601 ?_
  refine jl_ld0 dL_law_2602 ?_
  refine j_iload_4 dL_law_2603 ?_
  refine j_iconst (v := nI 1) dL_law_2605 nc_iconst_1 ?_
  refine j_iaddN dL_law_2606 ?_
  refine jl_sld hSc (by omega) hM dL_law_2607 ?_
  refine j_aload_n_3 dL_law_2608 ?_
  refine R_L_278 (n1 := 0) (sh1 := fun _ => (0, 0, fun _ => none)) (V1 := fun _ _ => 0) (L1 := fun _ _ => 0) (T' := TA n c sx V1 L1) (k2 := k - 1) (z2 := z - 6) rfl (by decide) dL_law_2609 (Nat.le_of_ble_eq_true rfl) (show 1 + (k - 1) ≤ k by omega) (show 6 + (z - 6) ≤ z by omega) hA (fun v n' sh' V' L' h => ?_) (fun E n' sh' V' L' h => by cases h.2.1)
  obtain ⟨hn, ev, rfl, rfl, rfl⟩ := h
  cases ev
  show jv_J g X I_L_law 2612 _ [.int (nI c)] _ _ _ _ _ _
  refine j_istore_5 rfl (by decide) dL_law_2612 ?_
  refine j_aload_n_2 dL_law_2614 ?_
  refine jl_ld0 dL_law_2615 ?_
  refine j_iload_4 dL_law_2616 ?_
  refine j_iconst (v := nI 1) dL_law_2618 nc_iconst_1 ?_
  refine j_iaddN dL_law_2619 ?_
  refine jl_sld hSc (by omega) hM dL_law_2620 ?_
  refine C_L_280 rfl (by decide) dL_law_2621 sk_123 (Nat.le_of_ble_eq_true rfl) (Nat.le_of_eq (Nat.zero_add _)) (Nat.le_of_eq (Nat.zero_add _)) (fun X' T' hM' hT' => hB n' hn X' T' hM' hT') ?_
  refine j_istore_6 rfl (by decide) dL_law_2624 ?_
  refine j_aload_n_2 dL_law_2626 ?_
  refine C_L_142 rfl (by decide) dL_law_2627 sk_123 (Nat.le_of_ble_eq_true rfl) (Nat.le_of_eq (Nat.zero_add _)) (Nat.le_of_eq (Nat.zero_add _)) (fun _ _ hM' hT' => y_thrown hM' hT') ?_
  refine j_top (y := nI c) hth ?_
  refine j_iload_5 dL_law_2630 ?_
  refine j_ic_eq (tgt := 2637) dL_law_2632 (by decide) (fun _ => ?_) (fun h => absurd rfl h)
  refine j_iload_5 dL_law_2637 ?_
  refine j_if_ne (tgt := 2654) dL_law_2639 (by decide) (fun h => ?_) (fun h => ?_)
  · refine j_goto (tgt := 2712) dL_law_2654 (by decide) ?_
    exact next n' hn
  · refine j_aload_n_3 dL_law_2642 ?_
    refine j_iconst (v := nI 0) dL_law_2643 nc_iconst_0 ?_
    refine j_lald dL_law_2644 sk_140 sn_140 (by omega) (by decide) ?_
    refine j_topl (y := r.toInt64) (hout h) ?_
    refine j_iload_6 dL_law_2645 ?_
    refine j_i2l dL_law_2647 ?_
    refine j_lcmp dL_law_2648 ?_
    refine j_top (y := 0) (lg_self _) ?_
    refine j_if_eq (tgt := 2654) dL_law_2649 (by decide) (fun _ => ?_) (fun h => absurd rfl h)
    refine j_goto (tgt := 2712) dL_law_2654 (by decide) ?_
    exact next n' hn

set_option maxHeartbeats 4000000 in
set_option maxRecDepth 100000 in
theorem lc_10 {g : jv_G} {X : jv_X} {n : Nat} {sx : Nat → jv_S} {V : Nat → Nat → Int32} {L : Nat → Nat → Int64} {k z b i : Nat} {v5 v6 v7 v8 : Option Value} {r : Int32} {V1 V2 : Nat → Nat → Int32}
    (hA : ∀ X' T', jv_M g X' T' → T' (.inl (some (.int r))) n (SH sx) V1 L → jv_J g X' I_X4_floors 0 [some (jv_r g 0)] [] n (SH sx) V L 0 0)
    (hB : ∀ X' T', jv_M g X' T' → T' (.inl (some (.int r))) n (SH sx) V2 L → jv_J g X' I_X5_floors 0 [some (jv_r g 123)] [] n (SH sx) V1 L 0 0)
    (next : jv_J g X I_L_law 2712 (lws g b i v5 v6 v7 v8) [] n (SH sx) V2 L k z) : jv_J g X I_L_law 902 (lws g b i v5 v6 v7 v8) [] n (SH sx) V L k z := by
  refine j_aload_n_1 dL_law_902 ?_
  refine C_L_175 rfl (by decide) dL_law_903 sk_0 (Nat.le_of_ble_eq_true rfl) (Nat.le_of_eq (Nat.zero_add _)) (Nat.le_of_eq (Nat.zero_add _)) hA ?_
  refine j_aload_n_2 dL_law_906 ?_
  refine C_L_178 rfl (by decide) dL_law_907 sk_123 (Nat.le_of_ble_eq_true rfl) (Nat.le_of_eq (Nat.zero_add _)) (Nat.le_of_eq (Nat.zero_add _)) hB ?_
  exact j_ic_eq (tgt := 2712) dL_law_910 (by decide) (fun _ => next) (fun h => absurd rfl h)

set_option maxHeartbeats 4000000 in
set_option maxRecDepth 100000 in
theorem lc_11 {g : jv_G} {X : jv_X} {n : Nat} {sx : Nat → jv_S} {V : Nat → Nat → Int32} {L : Nat → Nat → Int64} {k z b i : Nat} {v5 v6 v7 v8 : Option Value} {r : Int32} {V1 V2 : Nat → Nat → Int32}
    (hA : ∀ X' T', jv_M g X' T' → T' (.inl (some (.int r))) n (SH sx) V1 L → jv_J g X' I_X4_hours 0 [some (jv_r g 0)] [] n (SH sx) V L 0 0)
    (hB : ∀ X' T', jv_M g X' T' → T' (.inl (some (.int r))) n (SH sx) V2 L → jv_J g X' I_X5_hours 0 [some (jv_r g 123)] [] n (SH sx) V1 L 0 0)
    (next : jv_J g X I_L_law 2712 (lws g b i v5 v6 v7 v8) [] n (SH sx) V2 L k z) : jv_J g X I_L_law 915 (lws g b i v5 v6 v7 v8) [] n (SH sx) V L k z := by
  refine j_aload_n_1 dL_law_915 ?_
  refine C_L_179 rfl (by decide) dL_law_916 sk_0 (Nat.le_of_ble_eq_true rfl) (Nat.le_of_eq (Nat.zero_add _)) (Nat.le_of_eq (Nat.zero_add _)) hA ?_
  refine j_aload_n_2 dL_law_919 ?_
  refine C_L_182 rfl (by decide) dL_law_920 sk_123 (Nat.le_of_ble_eq_true rfl) (Nat.le_of_eq (Nat.zero_add _)) (Nat.le_of_eq (Nat.zero_add _)) hB ?_
  exact j_ic_eq (tgt := 2712) dL_law_923 (by decide) (fun _ => next) (fun h => absurd rfl h)

set_option maxHeartbeats 4000000 in
set_option maxRecDepth 100000 in
theorem lc_12 {g : jv_G} {X : jv_X} {n : Nat} {sx : Nat → jv_S} {V : Nat → Nat → Int32} {L : Nat → Nat → Int64} {k z b i : Nat} {v5 v6 v7 v8 : Option Value} {r : Int32} {V1 V2 : Nat → Nat → Int32}
    (hA : ∀ X' T', jv_M g X' T' → T' (.inl (some (.int r))) n (SH sx) V1 L → jv_J g X' I_X4_lifts 0 [some (jv_r g 0)] [] n (SH sx) V L 0 0)
    (hB : ∀ X' T', jv_M g X' T' → T' (.inl (some (.int r))) n (SH sx) V2 L → jv_J g X' I_X5_lifts 0 [some (jv_r g 123)] [] n (SH sx) V1 L 0 0)
    (next : jv_J g X I_L_law 2712 (lws g b i v5 v6 v7 v8) [] n (SH sx) V2 L k z) : jv_J g X I_L_law 928 (lws g b i v5 v6 v7 v8) [] n (SH sx) V L k z := by
  refine j_aload_n_1 dL_law_928 ?_
  refine C_L_183 rfl (by decide) dL_law_929 sk_0 (Nat.le_of_ble_eq_true rfl) (Nat.le_of_eq (Nat.zero_add _)) (Nat.le_of_eq (Nat.zero_add _)) hA ?_
  refine j_aload_n_2 dL_law_932 ?_
  refine C_L_186 rfl (by decide) dL_law_933 sk_123 (Nat.le_of_ble_eq_true rfl) (Nat.le_of_eq (Nat.zero_add _)) (Nat.le_of_eq (Nat.zero_add _)) hB ?_
  exact j_ic_eq (tgt := 2712) dL_law_936 (by decide) (fun _ => next) (fun h => absurd rfl h)

set_option maxHeartbeats 4000000 in
set_option maxRecDepth 100000 in
theorem lc_13 {g : jv_G} {X : jv_X} {n : Nat} {sx : Nat → jv_S} {V : Nat → Nat → Int32} {L : Nat → Nat → Int64} {k z b i : Nat} {v5 v6 v7 v8 : Option Value} {r : Int32} {V1 V2 : Nat → Nat → Int32}
    (hA : ∀ X' T', jv_M g X' T' → T' (.inl (some (.int r))) n (SH sx) V1 L → jv_J g X' I_X4_rumours 0 [some (jv_r g 0)] [] n (SH sx) V L 0 0)
    (hB : ∀ X' T', jv_M g X' T' → T' (.inl (some (.int r))) n (SH sx) V2 L → jv_J g X' I_X5_rumours 0 [some (jv_r g 123)] [] n (SH sx) V1 L 0 0)
    (next : jv_J g X I_L_law 2712 (lws g b i v5 v6 v7 v8) [] n (SH sx) V2 L k z) : jv_J g X I_L_law 941 (lws g b i v5 v6 v7 v8) [] n (SH sx) V L k z := by
  refine j_aload_n_1 dL_law_941 ?_
  refine C_L_187 rfl (by decide) dL_law_942 sk_0 (Nat.le_of_ble_eq_true rfl) (Nat.le_of_eq (Nat.zero_add _)) (Nat.le_of_eq (Nat.zero_add _)) hA ?_
  refine j_aload_n_2 dL_law_945 ?_
  refine C_L_190 rfl (by decide) dL_law_946 sk_123 (Nat.le_of_ble_eq_true rfl) (Nat.le_of_eq (Nat.zero_add _)) (Nat.le_of_eq (Nat.zero_add _)) hB ?_
  exact j_ic_eq (tgt := 2712) dL_law_949 (by decide) (fun _ => next) (fun h => absurd rfl h)

set_option maxHeartbeats 4000000 in
set_option maxRecDepth 100000 in
theorem lc_34 {g : jv_G} {X : jv_X} {n : Nat} {sx : Nat → jv_S} {V : Nat → Nat → Int32} {L : Nat → Nat → Int64} {k z b i : Nat} {v5 v6 v7 v8 : Option Value} {r : Int32} {V1 V2 : Nat → Nat → Int32}
    (hA : ∀ X' T', jv_M g X' T' → T' (.inl (some (.int r))) n (SH sx) V1 L → jv_J g X' I_X4_centre 0 [some (jv_r g 0), none, none, none, none] [] n (SH sx) V L 0 0)
    (hB : ∀ X' T', jv_M g X' T' → T' (.inl (some (.int r))) n (SH sx) V2 L → jv_J g X' I_X5_centre 0 [some (jv_r g 123)] [] n (SH sx) V1 L 0 0)
    (next : jv_J g X I_L_law 2712 (lws g b i v5 v6 v7 v8) [] n (SH sx) V2 L k z) : jv_J g X I_L_law 2191 (lws g b i v5 v6 v7 v8) [] n (SH sx) V L k z := by
  refine j_aload_n_1 dL_law_2191 ?_
  refine C_L_251 rfl (by decide) dL_law_2192 sk_0 (Nat.le_of_ble_eq_true rfl) (Nat.le_of_eq (Nat.zero_add _)) (Nat.le_of_eq (Nat.zero_add _)) hA ?_
  refine j_aload_n_2 dL_law_2195 ?_
  refine C_L_254 rfl (by decide) dL_law_2196 sk_123 (Nat.le_of_ble_eq_true rfl) (Nat.le_of_eq (Nat.zero_add _)) (Nat.le_of_eq (Nat.zero_add _)) hB ?_
  exact j_ic_eq (tgt := 2712) dL_law_2199 (by decide) (fun _ => next) (fun h => absurd rfl h)

set_option maxHeartbeats 4000000 in
set_option maxRecDepth 100000 in
theorem lc_35 {g : jv_G} {X : jv_X} {n : Nat} {sx : Nat → jv_S} {V : Nat → Nat → Int32} {L : Nat → Nat → Int64} {k z b i : Nat} {v5 v6 v7 v8 : Option Value} {r : Int32} {V1 V2 : Nat → Nat → Int32}
    (hA : ∀ X' T', jv_M g X' T' → T' (.inl (some (.int r))) n (SH sx) V1 L → jv_J g X' I_X4_parts 0 [some (jv_r g 0), none, none] [] n (SH sx) V L 0 0)
    (hB : ∀ X' T', jv_M g X' T' → T' (.inl (some (.int r))) n (SH sx) V2 L → jv_J g X' I_X5_parts 0 [some (jv_r g 123)] [] n (SH sx) V1 L 0 0)
    (next : jv_J g X I_L_law 2712 (lws g b i v5 v6 v7 v8) [] n (SH sx) V2 L k z) : jv_J g X I_L_law 2204 (lws g b i v5 v6 v7 v8) [] n (SH sx) V L k z := by
  refine j_aload_n_1 dL_law_2204 ?_
  refine C_L_255 rfl (by decide) dL_law_2205 sk_0 (Nat.le_of_ble_eq_true rfl) (Nat.le_of_eq (Nat.zero_add _)) (Nat.le_of_eq (Nat.zero_add _)) hA ?_
  refine j_aload_n_2 dL_law_2208 ?_
  refine C_L_258 rfl (by decide) dL_law_2209 sk_123 (Nat.le_of_ble_eq_true rfl) (Nat.le_of_eq (Nat.zero_add _)) (Nat.le_of_eq (Nat.zero_add _)) hB ?_
  exact j_ic_eq (tgt := 2712) dL_law_2212 (by decide) (fun _ => next) (fun h => absurd rfl h)

set_option maxHeartbeats 4000000 in
set_option maxRecDepth 100000 in
theorem lc_44 {g : jv_G} {X : jv_X} {n : Nat} {sx : Nat → jv_S} {V : Nat → Nat → Int32} {L : Nat → Nat → Int64} {k z b i : Nat} {v5 v6 v7 v8 : Option Value} (hk : 21 ≤ k) (hz : 138 ≤ z) {r : Int64} {V1 : Nat → Nat → Int32} {T2 : jv_T}
    (hA : ∀ X' T', jv_M g X' T' → T' (.inl (some (.long r))) n (SH sx) V1 L → jv_J g X' I_X4_digest 0 [some (jv_r g 0), none, none, none] [] n (SH sx) V L 0 0)
    (hB : ∀ X', jv_M g X' T2 → jv_J g X' I_X5_digest 0 [some (jv_r g 123), none, none, none, none, none, none, none, none, none] [] n (SH sx) V1 L 21 138)
    (hx : ∀ E n' sh' V' L', T2 (.inr E) n' sh' V' L' → False)
    (hT2 : ∀ v n' sh' V' L', T2 (.inl v) n' sh' V' L' → ∃ sx', v = some (.long r) ∧ sh' = SH sx' ∧ L' = L ∧ jv_J g X I_L_law 2712 (lws g b i v5 v6 v7 v8) [] n' (SH sx') V' L (k - 21) (z - 138)) : jv_J g X I_L_law 2698 (lws g b i v5 v6 v7 v8) [] n (SH sx) V L k z := by
  refine j_aload_n_1 dL_law_2698 ?_
  refine C_L_286 rfl (by decide) dL_law_2699 sk_0 (Nat.le_of_ble_eq_true rfl) (Nat.le_of_eq (Nat.zero_add _)) (Nat.le_of_eq (Nat.zero_add _)) hA ?_
  refine j_aload_n_2 dL_law_2702 ?_
  refine R_L_290 (n1 := 0) (sh1 := fun _ => (0, 0, fun _ => none)) (V1 := fun _ _ => 0) (L1 := fun _ _ => 0) (T' := T2) (k2 := k - 21) (z2 := z - 138) rfl (by decide) dL_law_2703 sk_123 (Nat.le_of_ble_eq_true rfl) (show 21 + (k - 21) ≤ k by omega) (show 138 + (z - 138) ≤ z by omega) hB (fun v n' sh' V' L' h => ?_) (fun E n' sh' V' L' h => (hx E n' sh' V' L' h).elim)
  obtain ⟨sx', rfl, rfl, rfl, hn⟩ := hT2 v n' sh' V' L' h
  show jv_J g X I_L_law 2706 _ [.long r, .long r] _ _ _ _ _ _
  refine j_lcmp dL_law_2706 ?_
  refine j_top (y := 0) (lg_self _) ?_
  exact j_if_eq (tgt := 2712) dL_law_2707 (by decide) (fun _ => hn) (fun h => absurd rfl h)

set_option maxHeartbeats 4000000 in
set_option maxRecDepth 100000 in
theorem lc_43 {g : jv_G} {X : jv_X} {n : Nat} {sx : Nat → jv_S} {V : Nat → Nat → Int32} {L : Nat → Nat → Int64} {k z b i : Nat} {v5 v6 v7 v8 : Option Value} {r : UInt64} {V1 V2 : Nat → Nat → Int32} (hr : Op.cmpValue (FP.dcmp r r) .l = 0)
    (hA : ∀ X' T', jv_M g X' T' → T' (.inl (some (.double r))) n (SH sx) V1 L → jv_J g X' I_X4_meanHeads 0 [some (jv_r g 0), none, none] [] n (SH sx) V L 0 0)
    (hB : ∀ X' T', jv_M g X' T' → T' (.inl (some (.double r))) n (SH sx) V2 L → jv_J g X' I_X5_meanHeads 0 [some (jv_r g 123), none, none] [] n (SH sx) V1 L 0 0)
    (next : jv_J g X I_L_law 2712 (lws g b i (some (.double r)) none (some (.double r)) none) [] n (SH sx) V2 L k z) : jv_J g X I_L_law 2657 (lws g b i v5 v6 v7 v8) [] n (SH sx) V L k z := by
  refine j_aload_n_1 dL_law_2657 ?_
  refine C_L_281 rfl (by decide) dL_law_2658 sk_0 (Nat.le_of_ble_eq_true rfl) (Nat.le_of_eq (Nat.zero_add _)) (Nat.le_of_eq (Nat.zero_add _)) hA ?_
  refine j_dstore_5 rfl (by decide) dL_law_2661 ?_
  refine j_aload_n_2 dL_law_2663 ?_
  refine C_L_285 rfl (by decide) dL_law_2664 sk_123 (Nat.le_of_ble_eq_true rfl) (Nat.le_of_eq (Nat.zero_add _)) (Nat.le_of_eq (Nat.zero_add _)) hB ?_
  refine j_dstore_7 rfl (by decide) dL_law_2667 ?_
  refine j_dload_5 dL_law_2669 ?_
  refine j_dload_7 dL_law_2671 ?_
  refine jl_dcmp dL_law_2673 ?_
  refine j_top (y := 0) hr ?_
  refine j_if_eq (tgt := 2695) dL_law_2674 (by decide) (fun _ => ?_) (fun h => absurd rfl h)
  exact j_goto (tgt := 2712) dL_law_2695 (by decide) next

set_option maxHeartbeats 4000000 in
set_option maxRecDepth 100000 in
/-- the switch: 45 cases, and what is none -/
theorem law_sw {g : jv_G} {X : jv_X} {n : Nat} {sx : Nat → jv_S} {V : Nat → Nat → Int32} {L : Nat → Nat → Int64} {k z b i j : Nat} {v5 v6 v7 v8 : Option Value} (hj : j < 64)
    (h0 : j = 0 → jv_J g X I_L_law 232 (lws g b i v5 v6 v7 v8) [] n (SH sx) V L k z)
    (h1 : j = 1 → jv_J g X I_L_law 288 (lws g b i v5 v6 v7 v8) [] n (SH sx) V L k z)
    (h2 : j = 2 → jv_J g X I_L_law 356 (lws g b i v5 v6 v7 v8) [] n (SH sx) V L k z)
    (h3 : j = 3 → jv_J g X I_L_law 424 (lws g b i v5 v6 v7 v8) [] n (SH sx) V L k z)
    (h4 : j = 4 → jv_J g X I_L_law 492 (lws g b i v5 v6 v7 v8) [] n (SH sx) V L k z)
    (h5 : j = 5 → jv_J g X I_L_law 555 (lws g b i v5 v6 v7 v8) [] n (SH sx) V L k z)
    (h6 : j = 6 → jv_J g X I_L_law 647 (lws g b i v5 v6 v7 v8) [] n (SH sx) V L k z)
    (h7 : j = 7 → jv_J g X I_L_law 710 (lws g b i v5 v6 v7 v8) [] n (SH sx) V L k z)
    (h8 : j = 8 → jv_J g X I_L_law 778 (lws g b i v5 v6 v7 v8) [] n (SH sx) V L k z)
    (h9 : j = 9 → jv_J g X I_L_law 846 (lws g b i v5 v6 v7 v8) [] n (SH sx) V L k z)
    (h10 : j = 10 → jv_J g X I_L_law 902 (lws g b i v5 v6 v7 v8) [] n (SH sx) V L k z)
    (h11 : j = 11 → jv_J g X I_L_law 915 (lws g b i v5 v6 v7 v8) [] n (SH sx) V L k z)
    (h12 : j = 12 → jv_J g X I_L_law 928 (lws g b i v5 v6 v7 v8) [] n (SH sx) V L k z)
    (h13 : j = 13 → jv_J g X I_L_law 941 (lws g b i v5 v6 v7 v8) [] n (SH sx) V L k z)
    (h14 : j = 14 → jv_J g X I_L_law 954 (lws g b i v5 v6 v7 v8) [] n (SH sx) V L k z)
    (h15 : j = 15 → jv_J g X I_L_law 1010 (lws g b i v5 v6 v7 v8) [] n (SH sx) V L k z)
    (h16 : j = 16 → jv_J g X I_L_law 1066 (lws g b i v5 v6 v7 v8) [] n (SH sx) V L k z)
    (h17 : j = 17 → jv_J g X I_L_law 1122 (lws g b i v5 v6 v7 v8) [] n (SH sx) V L k z)
    (h18 : j = 18 → jv_J g X I_L_law 1185 (lws g b i v5 v6 v7 v8) [] n (SH sx) V L k z)
    (h19 : j = 19 → jv_J g X I_L_law 1248 (lws g b i v5 v6 v7 v8) [] n (SH sx) V L k z)
    (h20 : j = 20 → jv_J g X I_L_law 1323 (lws g b i v5 v6 v7 v8) [] n (SH sx) V L k z)
    (h21 : j = 21 → jv_J g X I_L_law 1391 (lws g b i v5 v6 v7 v8) [] n (SH sx) V L k z)
    (h22 : j = 22 → jv_J g X I_L_law 1447 (lws g b i v5 v6 v7 v8) [] n (SH sx) V L k z)
    (h23 : j = 23 → jv_J g X I_L_law 1503 (lws g b i v5 v6 v7 v8) [] n (SH sx) V L k z)
    (h24 : j = 24 → jv_J g X I_L_law 1559 (lws g b i v5 v6 v7 v8) [] n (SH sx) V L k z)
    (h25 : j = 25 → jv_J g X I_L_law 1627 (lws g b i v5 v6 v7 v8) [] n (SH sx) V L k z)
    (h26 : j = 26 → jv_J g X I_L_law 1695 (lws g b i v5 v6 v7 v8) [] n (SH sx) V L k z)
    (h27 : j = 27 → jv_J g X I_L_law 1763 (lws g b i v5 v6 v7 v8) [] n (SH sx) V L k z)
    (h28 : j = 28 → jv_J g X I_L_law 1831 (lws g b i v5 v6 v7 v8) [] n (SH sx) V L k z)
    (h29 : j = 29 → jv_J g X I_L_law 1887 (lws g b i v5 v6 v7 v8) [] n (SH sx) V L k z)
    (h30 : j = 30 → jv_J g X I_L_law 1943 (lws g b i v5 v6 v7 v8) [] n (SH sx) V L k z)
    (h31 : j = 31 → jv_J g X I_L_law 1999 (lws g b i v5 v6 v7 v8) [] n (SH sx) V L k z)
    (h32 : j = 32 → jv_J g X I_L_law 2067 (lws g b i v5 v6 v7 v8) [] n (SH sx) V L k z)
    (h33 : j = 33 → jv_J g X I_L_law 2135 (lws g b i v5 v6 v7 v8) [] n (SH sx) V L k z)
    (h34 : j = 34 → jv_J g X I_L_law 2191 (lws g b i v5 v6 v7 v8) [] n (SH sx) V L k z)
    (h35 : j = 35 → jv_J g X I_L_law 2204 (lws g b i v5 v6 v7 v8) [] n (SH sx) V L k z)
    (h36 : j = 36 → jv_J g X I_L_law 2217 (lws g b i v5 v6 v7 v8) [] n (SH sx) V L k z)
    (h37 : j = 37 → jv_J g X I_L_law 2297 (lws g b i v5 v6 v7 v8) [] n (SH sx) V L k z)
    (h38 : j = 38 → jv_J g X I_L_law 2365 (lws g b i v5 v6 v7 v8) [] n (SH sx) V L k z)
    (h39 : j = 39 → jv_J g X I_L_law 2421 (lws g b i v5 v6 v7 v8) [] n (SH sx) V L k z)
    (h40 : j = 40 → jv_J g X I_L_law 2477 (lws g b i v5 v6 v7 v8) [] n (SH sx) V L k z)
    (h41 : j = 41 → jv_J g X I_L_law 2545 (lws g b i v5 v6 v7 v8) [] n (SH sx) V L k z)
    (h42 : j = 42 → jv_J g X I_L_law 2601 (lws g b i v5 v6 v7 v8) [] n (SH sx) V L k z)
    (h43 : j = 43 → jv_J g X I_L_law 2657 (lws g b i v5 v6 v7 v8) [] n (SH sx) V L k z)
    (h44 : j = 44 → jv_J g X I_L_law 2698 (lws g b i v5 v6 v7 v8) [] n (SH sx) V L k z)
    (ho : 45 ≤ j → jv_J g X I_L_law 2712 (lws g b i v5 v6 v7 v8) [] n (SH sx) V L k z) : jv_J g X I_L_law 39 (lws g b i v5 v6 v7 v8) [.int (nI j)] n (SH sx) V L k z := by
  by_cases hb : 45 ≤ j
  · exact j_swOut dL_law_39 (Or.inr (by rw [nI_toInt (by omega)]; omega)) (tgt := 2712) (by decide) (ho hb)
  have hc : j = 0 ∨ j = 1 ∨ j = 2 ∨ j = 3 ∨ j = 4 ∨ j = 5 ∨ j = 6 ∨ j = 7 ∨ j = 8 ∨ j = 9 ∨ j = 10 ∨ j = 11 ∨ j = 12 ∨ j = 13 ∨ j = 14 ∨ j = 15 ∨ j = 16 ∨ j = 17 ∨ j = 18 ∨ j = 19 ∨ j = 20 ∨ j = 21 ∨ j = 22 ∨ j = 23 ∨ j = 24 ∨ j = 25 ∨ j = 26 ∨ j = 27 ∨ j = 28 ∨ j = 29 ∨ j = 30 ∨ j = 31 ∨ j = 32 ∨ j = 33 ∨ j = 34 ∨ j = 35 ∨ j = 36 ∨ j = 37 ∨ j = 38 ∨ j = 39 ∨ j = 40 ∨ j = 41 ∨ j = 42 ∨ j = 43 ∨ j = 44 := by omega
  rcases hc with e | e | e | e | e | e | e | e | e | e | e | e | e | e | e | e | e | e | e | e | e | e | e | e | e | e | e | e | e | e | e | e | e | e | e | e | e | e | e | e | e | e | e | e | e <;> subst e
  · exact j_swIn dL_law_39 (by decide +kernel) (by decide +kernel) (off := 193) (by decide +kernel) (tgt := 232) (by decide) (h0 rfl)
  · exact j_swIn dL_law_39 (by decide +kernel) (by decide +kernel) (off := 249) (by decide +kernel) (tgt := 288) (by decide) (h1 rfl)
  · exact j_swIn dL_law_39 (by decide +kernel) (by decide +kernel) (off := 317) (by decide +kernel) (tgt := 356) (by decide) (h2 rfl)
  · exact j_swIn dL_law_39 (by decide +kernel) (by decide +kernel) (off := 385) (by decide +kernel) (tgt := 424) (by decide) (h3 rfl)
  · exact j_swIn dL_law_39 (by decide +kernel) (by decide +kernel) (off := 453) (by decide +kernel) (tgt := 492) (by decide) (h4 rfl)
  · exact j_swIn dL_law_39 (by decide +kernel) (by decide +kernel) (off := 516) (by decide +kernel) (tgt := 555) (by decide) (h5 rfl)
  · exact j_swIn dL_law_39 (by decide +kernel) (by decide +kernel) (off := 608) (by decide +kernel) (tgt := 647) (by decide) (h6 rfl)
  · exact j_swIn dL_law_39 (by decide +kernel) (by decide +kernel) (off := 671) (by decide +kernel) (tgt := 710) (by decide) (h7 rfl)
  · exact j_swIn dL_law_39 (by decide +kernel) (by decide +kernel) (off := 739) (by decide +kernel) (tgt := 778) (by decide) (h8 rfl)
  · exact j_swIn dL_law_39 (by decide +kernel) (by decide +kernel) (off := 807) (by decide +kernel) (tgt := 846) (by decide) (h9 rfl)
  · exact j_swIn dL_law_39 (by decide +kernel) (by decide +kernel) (off := 863) (by decide +kernel) (tgt := 902) (by decide) (h10 rfl)
  · exact j_swIn dL_law_39 (by decide +kernel) (by decide +kernel) (off := 876) (by decide +kernel) (tgt := 915) (by decide) (h11 rfl)
  · exact j_swIn dL_law_39 (by decide +kernel) (by decide +kernel) (off := 889) (by decide +kernel) (tgt := 928) (by decide) (h12 rfl)
  · exact j_swIn dL_law_39 (by decide +kernel) (by decide +kernel) (off := 902) (by decide +kernel) (tgt := 941) (by decide) (h13 rfl)
  · exact j_swIn dL_law_39 (by decide +kernel) (by decide +kernel) (off := 915) (by decide +kernel) (tgt := 954) (by decide) (h14 rfl)
  · exact j_swIn dL_law_39 (by decide +kernel) (by decide +kernel) (off := 971) (by decide +kernel) (tgt := 1010) (by decide) (h15 rfl)
  · exact j_swIn dL_law_39 (by decide +kernel) (by decide +kernel) (off := 1027) (by decide +kernel) (tgt := 1066) (by decide) (h16 rfl)
  · exact j_swIn dL_law_39 (by decide +kernel) (by decide +kernel) (off := 1083) (by decide +kernel) (tgt := 1122) (by decide) (h17 rfl)
  · exact j_swIn dL_law_39 (by decide +kernel) (by decide +kernel) (off := 1146) (by decide +kernel) (tgt := 1185) (by decide) (h18 rfl)
  · exact j_swIn dL_law_39 (by decide +kernel) (by decide +kernel) (off := 1209) (by decide +kernel) (tgt := 1248) (by decide) (h19 rfl)
  · exact j_swIn dL_law_39 (by decide +kernel) (by decide +kernel) (off := 1284) (by decide +kernel) (tgt := 1323) (by decide) (h20 rfl)
  · exact j_swIn dL_law_39 (by decide +kernel) (by decide +kernel) (off := 1352) (by decide +kernel) (tgt := 1391) (by decide) (h21 rfl)
  · exact j_swIn dL_law_39 (by decide +kernel) (by decide +kernel) (off := 1408) (by decide +kernel) (tgt := 1447) (by decide) (h22 rfl)
  · exact j_swIn dL_law_39 (by decide +kernel) (by decide +kernel) (off := 1464) (by decide +kernel) (tgt := 1503) (by decide) (h23 rfl)
  · exact j_swIn dL_law_39 (by decide +kernel) (by decide +kernel) (off := 1520) (by decide +kernel) (tgt := 1559) (by decide) (h24 rfl)
  · exact j_swIn dL_law_39 (by decide +kernel) (by decide +kernel) (off := 1588) (by decide +kernel) (tgt := 1627) (by decide) (h25 rfl)
  · exact j_swIn dL_law_39 (by decide +kernel) (by decide +kernel) (off := 1656) (by decide +kernel) (tgt := 1695) (by decide) (h26 rfl)
  · exact j_swIn dL_law_39 (by decide +kernel) (by decide +kernel) (off := 1724) (by decide +kernel) (tgt := 1763) (by decide) (h27 rfl)
  · exact j_swIn dL_law_39 (by decide +kernel) (by decide +kernel) (off := 1792) (by decide +kernel) (tgt := 1831) (by decide) (h28 rfl)
  · exact j_swIn dL_law_39 (by decide +kernel) (by decide +kernel) (off := 1848) (by decide +kernel) (tgt := 1887) (by decide) (h29 rfl)
  · exact j_swIn dL_law_39 (by decide +kernel) (by decide +kernel) (off := 1904) (by decide +kernel) (tgt := 1943) (by decide) (h30 rfl)
  · exact j_swIn dL_law_39 (by decide +kernel) (by decide +kernel) (off := 1960) (by decide +kernel) (tgt := 1999) (by decide) (h31 rfl)
  · exact j_swIn dL_law_39 (by decide +kernel) (by decide +kernel) (off := 2028) (by decide +kernel) (tgt := 2067) (by decide) (h32 rfl)
  · exact j_swIn dL_law_39 (by decide +kernel) (by decide +kernel) (off := 2096) (by decide +kernel) (tgt := 2135) (by decide) (h33 rfl)
  · exact j_swIn dL_law_39 (by decide +kernel) (by decide +kernel) (off := 2152) (by decide +kernel) (tgt := 2191) (by decide) (h34 rfl)
  · exact j_swIn dL_law_39 (by decide +kernel) (by decide +kernel) (off := 2165) (by decide +kernel) (tgt := 2204) (by decide) (h35 rfl)
  · exact j_swIn dL_law_39 (by decide +kernel) (by decide +kernel) (off := 2178) (by decide +kernel) (tgt := 2217) (by decide) (h36 rfl)
  · exact j_swIn dL_law_39 (by decide +kernel) (by decide +kernel) (off := 2258) (by decide +kernel) (tgt := 2297) (by decide) (h37 rfl)
  · exact j_swIn dL_law_39 (by decide +kernel) (by decide +kernel) (off := 2326) (by decide +kernel) (tgt := 2365) (by decide) (h38 rfl)
  · exact j_swIn dL_law_39 (by decide +kernel) (by decide +kernel) (off := 2382) (by decide +kernel) (tgt := 2421) (by decide) (h39 rfl)
  · exact j_swIn dL_law_39 (by decide +kernel) (by decide +kernel) (off := 2438) (by decide +kernel) (tgt := 2477) (by decide) (h40 rfl)
  · exact j_swIn dL_law_39 (by decide +kernel) (by decide +kernel) (off := 2506) (by decide +kernel) (tgt := 2545) (by decide) (h41 rfl)
  · exact j_swIn dL_law_39 (by decide +kernel) (by decide +kernel) (off := 2562) (by decide +kernel) (tgt := 2601) (by decide) (h42 rfl)
  · exact j_swIn dL_law_39 (by decide +kernel) (by decide +kernel) (off := 2618) (by decide +kernel) (tgt := 2657) (by decide) (h43 rfl)
  · exact j_swIn dL_law_39 (by decide +kernel) (by decide +kernel) (off := 2659) (by decide +kernel) (tgt := 2698) (by decide) (h44 rfl)
