/-! ===== the law: the ways ===== -/
theorem jv_any {g : jv_G} {X : jv_X} {I : jv_I} {pc n : Nat} {ls : List (Option Value)} {st : List Value} {sh : Nat → jv_S} {V1 : Nat → Nat → Int32} {L : Nat → Nat → Int64} {k z : Nat} (P : (Nat → Nat → Int32) → Prop) (h : P V1) (kk : ∀ V, P V → jv_J g X I pc ls st n sh V L k z) : jv_J g X I pc ls st n sh V1 L k z := kk _ h
/-- alike but for the working rows, the heap beyond the class too -/
def EqX (V' V : Nat → Nat → Int32) : Prop := EqV V' V ∧ ∀ q, 123 ≤ q → V' q = V q
theorem EqX.refl {V : Nat → Nat → Int32} : EqX V V := ⟨EqV.refl V, fun _ _ => rfl⟩
theorem EqX.trans {A B C : Nat → Nat → Int32} (h1 : EqX A B) (h2 : EqX B C) : EqX A C := ⟨h1.1.trans h2.1, fun q h => (h1.2 q h).trans (h2.2 q h)⟩
theorem EqX.lo {V' V : Nat → Nat → Int32} (h : EqX V' V) : ∀ q, q < 29 → V' q = V q := fun q hq => h.1 q (by omega) (by omega) (by omega)
theorem EqX_of {V' V : Nat → Nat → Int32} (h : ∀ q, ¬ (29 ≤ q ∧ q ≤ 31) → ¬ (33 ≤ q ∧ q ≤ 42) → V' q = V q) : EqX V' V := ⟨fun q _ h2 h3 => h q h2 h3, fun q h1 => h q (by omega) (by omega)⟩
theorem EqX_fnd {V : Nat → Nat → Int32} {N f : Nat} : EqX (fndC V N f) V := EqX_of (fun q h2 h3 => fndC_out (by omega))
theorem EqX_cen {V : Nat → Nat → Int32} {N : Nat} {l : Int32} : EqX (cenL N N 0 V none l).1 V := EqX_of (fun q h2 h3 => cenL_out (by omega) _ _ _ _ _)
theorem EqX_par {V : Nat → Nat → Int32} {N : Nat} : EqX (parL N N 0 V 0).1 V := EqX_of (fun q h2 h3 => parL_out (by omega) _ _ _ _)
theorem cen_cg {V : Nat → Nat → Int32} {N : Nat} (hN : N ≤ 12) : ∀ m i V1 V2 b l, (∀ q, q < 29 → V1 q = V q) → (∀ q, q < 29 → V2 q = V q) → (cenL N m i V1 b l).2 = (cenL N m i V2 b l).2 := by
  intro m
  induction m with
  | zero => intro i V1 V2 b l _ _; rfl
  | succ m ih =>
    intro i V1 V2 b l h1 h2
    have e1 : gthL (fndC V1 N i) N 0 (nI 0) = gt V N i := gt_cg hN h1
    have e2 : gthL (fndC V2 N i) N 0 (nI 0) = gt V N i := gt_cg hN h2
    have f1 : ∀ q, q < 29 → fndC V1 N i q = V q := fun q hq => (fndC_out (by omega)).trans (h1 q hq)
    have f2 : ∀ q, q < 29 → fndC V2 N i q = V q := fun q hq => (fndC_out (by omega)).trans (h2 q hq)
    unfold cenL
    rw [e1, e2]
    split
    · exact ih _ _ _ _ _ f1 f2
    · exact ih _ _ _ _ _ f1 f2
theorem par_cg {V : Nat → Nat → Int32} {N : Nat} (hN : N ≤ 12) : ∀ m i V1 V2 a, i + m ≤ N → (∀ q, q < 29 → V1 q = V q) → (∀ q, q < 29 → V2 q = V q) → (parL N m i V1 a).2 = (parL N m i V2 a).2 := by
  intro m
  induction m with
  | zero => intro i V1 V2 a _ _ _; rfl
  | succ m ih =>
    intro i V1 V2 a hi h1 h2
    have f1 : ∀ q, q < 29 → fndC V1 N i q = V q := fun q hq => (fndC_out (by omega)).trans (h1 q hq)
    have f2 : ∀ q, q < 29 → fndC V2 N i q = V q := fun q hq => (fndC_out (by omega)).trans (h2 q hq)
    have e : lbwL (fndC V1 N i) i 0 = lbwL (fndC V2 N i) i 0 := by
      have hl : ∀ m c, c + m ≤ 12 → lbwL (fndC V1 N i) m c = lbwL (fndC V2 N i) m c := by
        intro m
        induction m with
        | zero => intro c _; rfl
        | succ m ih =>
          intro c hc
          unfold lbwL
          rw [ih _ (by omega), show fndC V1 N i 29 c = fndC V2 N i 29 c from (qk_cg hN (by omega) h1).trans (qk_cg hN (by omega) h2).symm]
      exact hl i 0 (by omega)
    show (parL N m (i + 1) (fndC V1 N i) (if lbwL (fndC V1 N i) i 0 = true then a else a + 1)).2 = (parL N m (i + 1) (fndC V2 N i) (if lbwL (fndC V2 N i) i 0 = true then a else a + 1)).2
    rw [e]
    exact ih _ _ _ _ (by omega) f1 f2
theorem par_le {N : Nat} : ∀ m i V1 a, (parL N m i V1 a).2 ≤ a + m := by
  intro m
  induction m with
  | zero => intro i V1 a; exact Nat.le_refl _
  | succ m ih =>
    intro i V1 a
    have := ih (i + 1) (fndC V1 N i) (if lbwL (fndC V1 N i) i 0 = true then a else a + 1)
    show (parL N m (i + 1) (fndC V1 N i) (if lbwL (fndC V1 N i) i 0 = true then a else a + 1)).2 ≤ a + (m + 1)
    have h2 : (if lbwL (fndC V1 N i) i 0 = true then a else a + 1) ≤ a + 1 := by split <;> omega
    omega
theorem nn {x : Nat} (h : x < 2 ^ 31) : 0 ≤ nI x := nI_pos' h
theorem m1neg : (-1 : Int32) < 0 := by decide +kernel
theorem m1nle : ¬ (0 : Int32) ≤ -1 := by decide +kernel
theorem qk_sgn {V : Nat → Nat → Int32} {N f t : Nat} (G : PG V N) (hf : f < N) (ht : t < N) : (0 ≤ pb V N f t ↔ 0 ≤ qk V N f t) ∧ (qk V N f t < 0 ↔ ¬ 0 ≤ qk V N f t) ∧ ¬ nI (N - 1) < pb V N f t := by
  have hN := G.2.1
  rcases qk_val G hf ht with ⟨e1, e2⟩ | ⟨h, u, e1, e2, -, e4, e5⟩
  · rw [e1, e2]
    exact ⟨Iff.rfl, by decide +kernel, fun c => nI_pos (n := N - 1) (by omega) (Int32.lt_trans c m1neg)⟩
  · rw [e1, e2]
    exact ⟨⟨fun _ => nn (by omega), fun _ => nn (by omega)⟩, ⟨fun c => absurd c (nI_pos (by omega)), fun c => absurd (nn (by omega)) c⟩, nI_nlt (by omega) (by omega)⟩
theorem qk_nn {V : Nat → Nat → Int32} {N f t : Nat} (G : PG V N) (hf : f < N) (ht : t < N) (h : ¬ qk V N f t < 0) : ∃ a, qk V N f t = nI a ∧ a ≤ 276 := by
  rcases qk_val G hf ht with ⟨e1, e2⟩ | ⟨a, u, e1, e2, -, e4, e5⟩
  · rw [e1] at h
    exact absurd m1neg h
  · exact ⟨a, e1, e5⟩
set_option maxHeartbeats 4000000 in
set_option maxRecDepth 100000 in
theorem c_lw249 {g : jv_G} {X : jv_X} {L : Nat → Nat → Int64} {k z : Nat} {sx : Nat → jv_S} {n i : Nat} {x : Int32} {d : Int64} {V Vb : Nat → Nat → Int32} {N K R t : Nat} (HT : TS Vb N K R t) (hV : EqX V Vb) {a w b : Nat} (ha : a < N) (hb : b < N) (kk : ∀ V, EqX V Vb → jv_J g X I_L_law 116 [some (.ref (scB g)), some (jv_r g 0), some (jv_r g 123), some (.int (nI i)), some (.int x), some (.long d), none, some (.int (nI N)), some (.int (nI a)), some (.int (nI w)), some (.int (nI (b + 1))), none, none, none, none, none, none, none, none] [] n (SH sx) V L k z) : jv_J g X I_L_law 249 [some (.ref (scB g)), some (jv_r g 0), some (jv_r g 123), some (.int (nI i)), some (.int x), some (.long d), none, some (.int (nI N)), some (.int (nI a)), some (.int (nI w)), some (.int (nI b)), some (.int (qk Vb N a b)), none, none, none, none, none, none, none] [] n (SH sx) V L k z := by
  have G := HT.pg
  have hN2 := HT.N2
  have hN12 := HT.N12
  have hK4 := HT.K4
  have hR8 := HT.R8
  obtain ⟨hs, hl, hn1⟩ := qk_sgn G ha hb
  have hz := pb_zero G ha hb
  refine j_aload_n_1 dL_law_249 ?_
  refine j_iload_8 dL_law_250 ?_
  refine j_iload_10 dL_law_252 ?_
  refine C_L_136  rfl (by decide) dL_law_254 sk_0 (Nat.le_of_ble_eq_true rfl) (Nat.le_of_eq (Nat.zero_add _)) (Nat.le_of_eq (Nat.zero_add _)) (fun _ _ hM' hT' => g_pipesBetween (HT.eq hV.1).ct ha hb hM' hT') ?_
  refine j_top (y := pb Vb N a b) (pb_cg hN12 (by omega) hV.lo) ?_
  refine jv_any (fun V => EqX V Vb) (EqX_fnd.trans hV) (fun V hV => ?_)
  refine j_istore_15 rfl (by decide) dL_law_257 ?_
  refine j_iload_15 dL_law_259 ?_
  refine j_if_ge (tgt := 268) dL_law_261 (by decide) (fun h261 => ?_) (fun h261 => ?_)
  · refine j_iconst (v := nI 0) dL_law_268 nc_iconst_0 ?_
    refine j_iload_11 dL_law_269 ?_
    refine j_if_ge (tgt := 278) dL_law_271 (by decide) (fun h271 => ?_) (fun h271 => ?_)
    · refine j_iconst (v := nI 0) dL_law_278 nc_iconst_0 ?_
      refine j_ic_neN (by omega) (by omega) (tgt := 316) dL_law_279 (by decide) (fun h279 => ?_) (fun h279 => ?_)
      · exact absurd rfl h279
      · refine j_iload_15 dL_law_282 ?_
        refine j_iload_7 dL_law_284 ?_
        refine j_iconst (v := nI 1) dL_law_286 nc_iconst_1 ?_
        refine j_isubN (by omega) dL_law_287 ?_
        refine j_ic_gt (tgt := 316) dL_law_288 (by decide) (fun h288 => ?_) (fun h288 => ?_)
        · exact absurd h288 hn1
        · refine j_iload_15 dL_law_291 ?_
          refine j_if_ne (tgt := 300) dL_law_293 (by decide) (fun h293 => ?_) (fun h293 => ?_)
          · refine j_iconst (v := nI 0) dL_law_300 nc_iconst_0 ?_
            refine j_iload_8 dL_law_301 ?_
            refine j_iload_10 dL_law_303 ?_
            refine j_ic_neN (by omega) (by omega) (tgt := 312) dL_law_305 (by decide) (fun h305 => ?_) (fun h305 => ?_)
            · refine j_iconst (v := nI 0) dL_law_312 nc_iconst_0 ?_
              refine j_ic_eqN (by omega) (by omega) (tgt := 318) dL_law_313 (by decide) (fun h313 => ?_) (fun h313 => ?_)
              · refine j_inc1_10 rfl (by decide) dL_law_318 ?_
                refine j_goto (tgt := 116) dL_law_321 (by decide) ?_
                exact jv_drop 11 (jv_drop 15 (kk V hV))
              · exact absurd rfl h313
            · exact absurd (hz.mpr (by omega)) h293
          · refine j_iconst (v := nI 1) dL_law_296 nc_iconst_1 ?_
            refine j_goto (tgt := 301) dL_law_297 (by decide) ?_
            refine j_iload_8 dL_law_301 ?_
            refine j_iload_10 dL_law_303 ?_
            refine j_ic_neN (by omega) (by omega) (tgt := 312) dL_law_305 (by decide) (fun h305 => ?_) (fun h305 => ?_)
            · exact absurd (hz.mp h293) (by omega)
            · refine j_iconst (v := nI 1) dL_law_308 nc_iconst_1 ?_
              refine j_goto (tgt := 313) dL_law_309 (by decide) ?_
              refine j_ic_eqN (by omega) (by omega) (tgt := 318) dL_law_313 (by decide) (fun h313 => ?_) (fun h313 => ?_)
              · refine j_inc1_10 rfl (by decide) dL_law_318 ?_
                refine j_goto (tgt := 116) dL_law_321 (by decide) ?_
                exact jv_drop 11 (jv_drop 15 (kk V hV))
              · exact absurd rfl h313
    · exact absurd (hs.mp h261) h271
  · refine j_iconst (v := nI 1) dL_law_264 nc_iconst_1 ?_
    refine j_goto (tgt := 269) dL_law_265 (by decide) ?_
    refine j_iload_11 dL_law_269 ?_
    refine j_if_ge (tgt := 278) dL_law_271 (by decide) (fun h271 => ?_) (fun h271 => ?_)
    · exact absurd (hs.mpr h271) h261
    · refine j_iconst (v := nI 1) dL_law_274 nc_iconst_1 ?_
      refine j_goto (tgt := 279) dL_law_275 (by decide) ?_
      refine j_ic_neN (by omega) (by omega) (tgt := 316) dL_law_279 (by decide) (fun h279 => ?_) (fun h279 => ?_)
      · exact absurd rfl h279
      · refine j_iload_15 dL_law_282 ?_
        refine j_iload_7 dL_law_284 ?_
        refine j_iconst (v := nI 1) dL_law_286 nc_iconst_1 ?_
        refine j_isubN (by omega) dL_law_287 ?_
        refine j_ic_gt (tgt := 316) dL_law_288 (by decide) (fun h288 => ?_) (fun h288 => ?_)
        · exact absurd h288 hn1
        · refine j_iload_15 dL_law_291 ?_
          refine j_if_ne (tgt := 300) dL_law_293 (by decide) (fun h293 => ?_) (fun h293 => ?_)
          · refine j_iconst (v := nI 0) dL_law_300 nc_iconst_0 ?_
            refine j_iload_8 dL_law_301 ?_
            refine j_iload_10 dL_law_303 ?_
            refine j_ic_neN (by omega) (by omega) (tgt := 312) dL_law_305 (by decide) (fun h305 => ?_) (fun h305 => ?_)
            · refine j_iconst (v := nI 0) dL_law_312 nc_iconst_0 ?_
              refine j_ic_eqN (by omega) (by omega) (tgt := 318) dL_law_313 (by decide) (fun h313 => ?_) (fun h313 => ?_)
              · refine j_inc1_10 rfl (by decide) dL_law_318 ?_
                refine j_goto (tgt := 116) dL_law_321 (by decide) ?_
                exact jv_drop 11 (jv_drop 15 (kk V hV))
              · exact absurd rfl h313
            · exact absurd (hz.mpr (by omega)) h293
          · refine j_iconst (v := nI 1) dL_law_296 nc_iconst_1 ?_
            refine j_goto (tgt := 301) dL_law_297 (by decide) ?_
            refine j_iload_8 dL_law_301 ?_
            refine j_iload_10 dL_law_303 ?_
            refine j_ic_neN (by omega) (by omega) (tgt := 312) dL_law_305 (by decide) (fun h305 => ?_) (fun h305 => ?_)
            · exact absurd (hz.mp h293) (by omega)
            · refine j_iconst (v := nI 1) dL_law_308 nc_iconst_1 ?_
              refine j_goto (tgt := 313) dL_law_309 (by decide) ?_
              refine j_ic_eqN (by omega) (by omega) (tgt := 318) dL_law_313 (by decide) (fun h313 => ?_) (fun h313 => ?_)
              · refine j_inc1_10 rfl (by decide) dL_law_318 ?_
                refine j_goto (tgt := 116) dL_law_321 (by decide) ?_
                exact jv_drop 11 (jv_drop 15 (kk V hV))
              · exact absurd rfl h313

theorem okP_n0 {x : Int32} (h : okP x) : ¬ x = 0 := by
  rcases h with h | ⟨p, h, h1, h2⟩
  · rw [h]; decide +kernel
  · rw [h]; exact nI_ne0 (by omega) (by omega)
theorem okP_pos {x : Int32} (h : okP x) (h2 : ¬ x ≤ 0) : ∃ p, x = nI p ∧ 1 ≤ p ∧ p ≤ 14 := by
  rcases h with h | h
  · exact absurd (by rw [h]; decide +kernel) h2
  · exact h
set_option maxHeartbeats 4000000 in
set_option maxRecDepth 100000 in
theorem c_lw116 {g : jv_G} {X : jv_X} {L : Nat → Nat → Int64} {k z : Nat} {sx : Nat → jv_S} {n i : Nat} {x : Int32} {d : Int64} {Vb : Nat → Nat → Int32} {N K R t : Nat} (HT : TS Vb N K R t) {a w : Nat} (ha : a < N) (hw : w < N) : ∀ (m : Nat) (b : Nat) (V : Nat → Nat → Int32), b ≤ N → N + 1 ≤ b + m → EqX V Vb → (kk : ∀ V, EqX V Vb → jv_J g X I_L_law 324 [some (.ref (scB g)), some (jv_r g 0), some (jv_r g 123), some (.int (nI i)), some (.int x), some (.long d), none, some (.int (nI N)), some (.int (nI a)), some (.int (nI w)), some (.int (nI N)), none, none, none, none, none, none, none, none] [] n (SH sx) V L k z) → jv_J g X I_L_law 116 [some (.ref (scB g)), some (jv_r g 0), some (jv_r g 123), some (.int (nI i)), some (.int x), some (.long d), none, some (.int (nI N)), some (.int (nI a)), some (.int (nI w)), some (.int (nI b)), none, none, none, none, none, none, none, none] [] n (SH sx) V L k z := by
  intro m
  induction m with
  | zero => intro b V hb0 hm2 hV kk; omega
  | succ m ih =>
  intro b V hb0 hm2 hV kk
  have G := HT.pg
  have hN2 := HT.N2
  have hN12 := HT.N12
  have hK4 := HT.K4
  have hR8 := HT.R8
  have hN12 := HT.N12
  refine j_iload_10 dL_law_116 ?_
  refine j_iload_7 dL_law_118 ?_
  refine j_ic_geN (by omega) (by omega) (tgt := 324) dL_law_120 (by decide) (fun h120 => ?_) (fun h120 => ?_)
  · obtain rfl : b = N := by omega
    exact kk V hV
  · have hb : b < N := by omega
    have kk2 : ∀ V, EqX V Vb → jv_J g X I_L_law 116 [some (.ref (scB g)), some (jv_r g 0), some (jv_r g 123), some (.int (nI i)), some (.int x), some (.long d), none, some (.int (nI N)), some (.int (nI a)), some (.int (nI w)), some (.int (nI (b + 1))), none, none, none, none, none, none, none, none] [] n (SH sx) V L k z := fun V hV => ih (b + 1) V (by omega) (by omega) hV kk
    have hsym := (G.2.2.1 a b ha hb).1
    have hokp := (G.2.2.1 a b ha hb).2
    obtain ⟨sa, esa, hsa⟩ := G.2.2.2 a ha
    refine j_aload_n_1 dL_law_123 ?_
    refine j_iload_8 dL_law_124 ?_
    refine j_iload_10 dL_law_126 ?_
    refine C_L_127  rfl (by decide) dL_law_128 sk_0 (Nat.le_of_ble_eq_true rfl) (Nat.le_of_eq (Nat.zero_add _)) (Nat.le_of_eq (Nat.zero_add _)) (fun _ _ hM' hT' => g_quickest (HT.eq hV.1).ct ha hb hM' hT') ?_
    refine j_top (y := qk Vb N a b) (qk_cg hN12 (Nat.lt_of_lt_of_le hb hN12) hV.lo) ?_
    refine jv_any (fun V => EqX V Vb) (EqX_fnd.trans hV) (fun V hV => ?_)
    refine j_istore_11 rfl (by decide) dL_law_131 ?_
    refine j_aload_n_1 dL_law_133 ?_
    refine j_iload_8 dL_law_134 ?_
    refine j_iload_10 dL_law_136 ?_
    refine C_L_130  rfl (by decide) dL_law_138 sk_0 (Nat.le_of_ble_eq_true rfl) (Nat.le_of_eq (Nat.zero_add _)) (Nat.le_of_eq (Nat.zero_add _)) (fun _ _ hM' hT' => g_pipe (HT.eq hV.1).ct ha hb hM' hT') ?_
    refine j_top (y := Vb (8 + a) b) (by rw [hV.lo (8 + a) (by omega)]) ?_
    refine j_istore_12 rfl (by decide) dL_law_141 ?_
    refine j_aload_n_1 dL_law_143 ?_
    refine j_iload_8 dL_law_144 ?_
    refine j_iload_9 dL_law_146 ?_
    refine C_L_127  rfl (by decide) dL_law_148 sk_0 (Nat.le_of_ble_eq_true rfl) (Nat.le_of_eq (Nat.zero_add _)) (Nat.le_of_eq (Nat.zero_add _)) (fun _ _ hM' hT' => g_quickest (HT.eq hV.1).ct ha hw hM' hT') ?_
    refine j_top (y := qk Vb N a w) (qk_cg hN12 (Nat.lt_of_lt_of_le hw hN12) hV.lo) ?_
    refine jv_any (fun V => EqX V Vb) (EqX_fnd.trans hV) (fun V hV => ?_)
    refine j_istore_13 rfl (by decide) dL_law_151 ?_
    refine j_aload_n_1 dL_law_153 ?_
    refine j_iload_9 dL_law_154 ?_
    refine j_iload_10 dL_law_156 ?_
    refine C_L_127  rfl (by decide) dL_law_158 sk_0 (Nat.le_of_ble_eq_true rfl) (Nat.le_of_eq (Nat.zero_add _)) (Nat.le_of_eq (Nat.zero_add _)) (fun _ _ hM' hT' => g_quickest (HT.eq hV.1).ct hw hb hM' hT') ?_
    refine j_top (y := qk Vb N w b) (qk_cg hN12 (Nat.lt_of_lt_of_le hb hN12) hV.lo) ?_
    refine jv_any (fun V => EqX V Vb) (EqX_fnd.trans hV) (fun V hV => ?_)
    refine j_istore_14 rfl (by decide) dL_law_161 ?_
    refine j_iload_12 dL_law_163 ?_
    refine j_aload_n_1 dL_law_165 ?_
    refine j_iload_10 dL_law_166 ?_
    refine j_iload_8 dL_law_168 ?_
    refine C_L_130  rfl (by decide) dL_law_170 sk_0 (Nat.le_of_ble_eq_true rfl) (Nat.le_of_eq (Nat.zero_add _)) (Nat.le_of_eq (Nat.zero_add _)) (fun _ _ hM' hT' => g_pipe (HT.eq hV.1).ct hb ha hM' hT') ?_
    refine j_top (y := Vb (8 + a) b) (by rw [hV.lo (8 + b) (by omega)]; exact hsym.symm) ?_
    refine j_ic_ne (tgt := 247) dL_law_173 (by decide) (fun h173 => ?_) (fun h173 => ?_)
    · exact absurd rfl h173
    · refine j_iload_12 dL_law_176 ?_
      refine j_if_eq (tgt := 247) dL_law_178 (by decide) (fun h178 => ?_) (fun h178 => ?_)
      · exact absurd h178 (okP_n0 hokp)
      · refine j_iload_8 dL_law_181 ?_
        refine j_iload_10 dL_law_183 ?_
        refine j_ic_neN (by omega) (by omega) (tgt := 198) dL_law_185 (by decide) (fun h185 => ?_) (fun h185 => ?_)
        · refine j_iload_12 dL_law_198 ?_
          refine j_if_le (tgt := 222) dL_law_200 (by decide) (fun h200 => ?_) (fun h200 => ?_)
          · refine j_iload_13 dL_law_222 ?_
            refine j_if_lt (tgt := 249) dL_law_224 (by decide) (fun h224 => ?_) (fun h224 => ?_)
            · exact jv_drop 12 (jv_drop 13 (jv_drop 14 (c_lw249 HT hV ha hb kk2)))
            · refine j_iload_14 dL_law_227 ?_
              refine j_if_lt (tgt := 249) dL_law_229 (by decide) (fun h229 => ?_) (fun h229 => ?_)
              · exact jv_drop 12 (jv_drop 13 (jv_drop 14 (c_lw249 HT hV ha hb kk2)))
              · refine j_iload_11 dL_law_232 ?_
                refine j_if_lt (tgt := 247) dL_law_234 (by decide) (fun h234 => ?_) (fun h234 => ?_)
                · obtain ⟨p, ep, hp⟩ := qk_nn G ha hw h224
                  obtain ⟨q, eq, hq⟩ := qk_nn G hw hb h229
                  obtain ⟨c, ec, hc⟩ := qk_tri G ha hw hb ep eq (by omega) (by omega)
                  exact absurd (by rw [ec] at h234; exact h234) (nI_pos (by omega))
                · refine j_iload_11 dL_law_237 ?_
                  refine j_iload_13 dL_law_239 ?_
                  refine j_iload_14 dL_law_241 ?_
                  refine j_iadd dL_law_243 ?_
                  refine j_ic_le (tgt := 249) dL_law_244 (by decide) (fun h244 => ?_) (fun h244 => ?_)
                  · exact jv_drop 12 (jv_drop 13 (jv_drop 14 (c_lw249 HT hV ha hb kk2)))
                  · obtain ⟨p, ep, hp⟩ := qk_nn G ha hw h224
                    obtain ⟨q, eq, hq⟩ := qk_nn G hw hb h229
                    obtain ⟨c, ec, hc⟩ := qk_tri G ha hw hb ep eq (by omega) (by omega)
                    rw [ec, ep, eq, nI_add] at h244
                    exact absurd (nI_le hc (by omega)) h244
          · refine j_iload_11 dL_law_203 ?_
            refine j_if_lt (tgt := 247) dL_law_205 (by decide) (fun h205 => ?_) (fun h205 => ?_)
            · obtain ⟨p, ep, hp1, hp14⟩ := okP_pos hokp h200
              obtain ⟨c, ec, hc⟩ := qk_edge G ha hb ep hp14 esa hsa
              exact absurd (by rw [ec] at h205; exact h205) (nI_pos (by omega))
            · refine j_iload_11 dL_law_208 ?_
              refine j_iload_12 dL_law_210 ?_
              refine j_aload_n_1 dL_law_212 ?_
              refine j_iload_8 dL_law_213 ?_
              refine C_L_133  rfl (by decide) dL_law_215 sk_0 (Nat.le_of_ble_eq_true rfl) (Nat.le_of_eq (Nat.zero_add _)) (Nat.le_of_eq (Nat.zero_add _)) (fun _ _ hM' hT' => g_stayOf (HT.eq hV.1).ct ha hM' hT') ?_
              refine j_top (y := Vb 3 a) (by rw [hV.lo 3 (by omega)]) ?_
              refine j_iadd dL_law_218 ?_
              refine j_ic_gt (tgt := 247) dL_law_219 (by decide) (fun h219 => ?_) (fun h219 => ?_)
              · obtain ⟨p, ep, hp1, hp14⟩ := okP_pos hokp h200
                obtain ⟨c, ec, hc⟩ := qk_edge G ha hb ep hp14 esa hsa
                rw [ec, ep, esa, nI_add] at h219
                exact absurd h219 (nI_nlt (by omega) (by omega))
              · refine j_iload_13 dL_law_222 ?_
                refine j_if_lt (tgt := 249) dL_law_224 (by decide) (fun h224 => ?_) (fun h224 => ?_)
                · exact jv_drop 12 (jv_drop 13 (jv_drop 14 (c_lw249 HT hV ha hb kk2)))
                · refine j_iload_14 dL_law_227 ?_
                  refine j_if_lt (tgt := 249) dL_law_229 (by decide) (fun h229 => ?_) (fun h229 => ?_)
                  · exact jv_drop 12 (jv_drop 13 (jv_drop 14 (c_lw249 HT hV ha hb kk2)))
                  · refine j_iload_11 dL_law_232 ?_
                    refine j_if_lt (tgt := 247) dL_law_234 (by decide) (fun h234 => ?_) (fun h234 => ?_)
                    · obtain ⟨p, ep, hp⟩ := qk_nn G ha hw h224
                      obtain ⟨q, eq, hq⟩ := qk_nn G hw hb h229
                      obtain ⟨c, ec, hc⟩ := qk_tri G ha hw hb ep eq (by omega) (by omega)
                      exact absurd (by rw [ec] at h234; exact h234) (nI_pos (by omega))
                    · refine j_iload_11 dL_law_237 ?_
                      refine j_iload_13 dL_law_239 ?_
                      refine j_iload_14 dL_law_241 ?_
                      refine j_iadd dL_law_243 ?_
                      refine j_ic_le (tgt := 249) dL_law_244 (by decide) (fun h244 => ?_) (fun h244 => ?_)
                      · exact jv_drop 12 (jv_drop 13 (jv_drop 14 (c_lw249 HT hV ha hb kk2)))
                      · obtain ⟨p, ep, hp⟩ := qk_nn G ha hw h224
                        obtain ⟨q, eq, hq⟩ := qk_nn G hw hb h229
                        obtain ⟨c, ec, hc⟩ := qk_tri G ha hw hb ep eq (by omega) (by omega)
                        rw [ec, ep, eq, nI_add] at h244
                        exact absurd (nI_le hc (by omega)) h244
        · refine j_iload_12 dL_law_188 ?_
          refine j_if_ge (tgt := 247) dL_law_190 (by decide) (fun h190 => ?_) (fun h190 => ?_)
          · exact absurd h190 (by rw [show b = a by omega, HT.ce.self ha]; exact m1nle)
          · refine j_iload_11 dL_law_193 ?_
            refine j_if_ne (tgt := 247) dL_law_195 (by decide) (fun h195 => ?_) (fun h195 => ?_)
            · exact absurd (by rw [show b = a by omega, (qk_self G ha).1]; rfl) h195
            · refine j_iload_12 dL_law_198 ?_
              refine j_if_le (tgt := 222) dL_law_200 (by decide) (fun h200 => ?_) (fun h200 => ?_)
              · refine j_iload_13 dL_law_222 ?_
                refine j_if_lt (tgt := 249) dL_law_224 (by decide) (fun h224 => ?_) (fun h224 => ?_)
                · exact jv_drop 12 (jv_drop 13 (jv_drop 14 (c_lw249 HT hV ha hb kk2)))
                · refine j_iload_14 dL_law_227 ?_
                  refine j_if_lt (tgt := 249) dL_law_229 (by decide) (fun h229 => ?_) (fun h229 => ?_)
                  · exact jv_drop 12 (jv_drop 13 (jv_drop 14 (c_lw249 HT hV ha hb kk2)))
                  · refine j_iload_11 dL_law_232 ?_
                    refine j_if_lt (tgt := 247) dL_law_234 (by decide) (fun h234 => ?_) (fun h234 => ?_)
                    · obtain ⟨p, ep, hp⟩ := qk_nn G ha hw h224
                      obtain ⟨q, eq, hq⟩ := qk_nn G hw hb h229
                      obtain ⟨c, ec, hc⟩ := qk_tri G ha hw hb ep eq (by omega) (by omega)
                      exact absurd (by rw [ec] at h234; exact h234) (nI_pos (by omega))
                    · refine j_iload_11 dL_law_237 ?_
                      refine j_iload_13 dL_law_239 ?_
                      refine j_iload_14 dL_law_241 ?_
                      refine j_iadd dL_law_243 ?_
                      refine j_ic_le (tgt := 249) dL_law_244 (by decide) (fun h244 => ?_) (fun h244 => ?_)
                      · exact jv_drop 12 (jv_drop 13 (jv_drop 14 (c_lw249 HT hV ha hb kk2)))
                      · obtain ⟨p, ep, hp⟩ := qk_nn G ha hw h224
                        obtain ⟨q, eq, hq⟩ := qk_nn G hw hb h229
                        obtain ⟨c, ec, hc⟩ := qk_tri G ha hw hb ep eq (by omega) (by omega)
                        rw [ec, ep, eq, nI_add] at h244
                        exact absurd (nI_le hc (by omega)) h244
              · refine j_iload_11 dL_law_203 ?_
                refine j_if_lt (tgt := 247) dL_law_205 (by decide) (fun h205 => ?_) (fun h205 => ?_)
                · obtain ⟨p, ep, hp1, hp14⟩ := okP_pos hokp h200
                  obtain ⟨c, ec, hc⟩ := qk_edge G ha hb ep hp14 esa hsa
                  exact absurd (by rw [ec] at h205; exact h205) (nI_pos (by omega))
                · refine j_iload_11 dL_law_208 ?_
                  refine j_iload_12 dL_law_210 ?_
                  refine j_aload_n_1 dL_law_212 ?_
                  refine j_iload_8 dL_law_213 ?_
                  refine C_L_133  rfl (by decide) dL_law_215 sk_0 (Nat.le_of_ble_eq_true rfl) (Nat.le_of_eq (Nat.zero_add _)) (Nat.le_of_eq (Nat.zero_add _)) (fun _ _ hM' hT' => g_stayOf (HT.eq hV.1).ct ha hM' hT') ?_
                  refine j_top (y := Vb 3 a) (by rw [hV.lo 3 (by omega)]) ?_
                  refine j_iadd dL_law_218 ?_
                  refine j_ic_gt (tgt := 247) dL_law_219 (by decide) (fun h219 => ?_) (fun h219 => ?_)
                  · obtain ⟨p, ep, hp1, hp14⟩ := okP_pos hokp h200
                    obtain ⟨c, ec, hc⟩ := qk_edge G ha hb ep hp14 esa hsa
                    rw [ec, ep, esa, nI_add] at h219
                    exact absurd h219 (nI_nlt (by omega) (by omega))
                  · refine j_iload_13 dL_law_222 ?_
                    refine j_if_lt (tgt := 249) dL_law_224 (by decide) (fun h224 => ?_) (fun h224 => ?_)
                    · exact jv_drop 12 (jv_drop 13 (jv_drop 14 (c_lw249 HT hV ha hb kk2)))
                    · refine j_iload_14 dL_law_227 ?_
                      refine j_if_lt (tgt := 249) dL_law_229 (by decide) (fun h229 => ?_) (fun h229 => ?_)
                      · exact jv_drop 12 (jv_drop 13 (jv_drop 14 (c_lw249 HT hV ha hb kk2)))
                      · refine j_iload_11 dL_law_232 ?_
                        refine j_if_lt (tgt := 247) dL_law_234 (by decide) (fun h234 => ?_) (fun h234 => ?_)
                        · obtain ⟨p, ep, hp⟩ := qk_nn G ha hw h224
                          obtain ⟨q, eq, hq⟩ := qk_nn G hw hb h229
                          obtain ⟨c, ec, hc⟩ := qk_tri G ha hw hb ep eq (by omega) (by omega)
                          exact absurd (by rw [ec] at h234; exact h234) (nI_pos (by omega))
                        · refine j_iload_11 dL_law_237 ?_
                          refine j_iload_13 dL_law_239 ?_
                          refine j_iload_14 dL_law_241 ?_
                          refine j_iadd dL_law_243 ?_
                          refine j_ic_le (tgt := 249) dL_law_244 (by decide) (fun h244 => ?_) (fun h244 => ?_)
                          · exact jv_drop 12 (jv_drop 13 (jv_drop 14 (c_lw249 HT hV ha hb kk2)))
                          · obtain ⟨p, ep, hp⟩ := qk_nn G ha hw h224
                            obtain ⟨q, eq, hq⟩ := qk_nn G hw hb h229
                            obtain ⟨c, ec, hc⟩ := qk_tri G ha hw hb ep eq (by omega) (by omega)
                            rw [ec, ep, eq, nI_add] at h244
                            exact absurd (nI_le hc (by omega)) h244

set_option maxHeartbeats 4000000 in
set_option maxRecDepth 100000 in
theorem c_lw94 {g : jv_G} {X : jv_X} {L : Nat → Nat → Int64} {k z : Nat} {sx : Nat → jv_S} {n i : Nat} {x : Int32} {d : Int64} {Vb : Nat → Nat → Int32} {N K R t : Nat} (HT : TS Vb N K R t) : ∀ (m : Nat) (a : Nat) (V : Nat → Nat → Int32), a ≤ N → N + 1 ≤ a + m → EqX V Vb → (kk : ∀ V, EqX V Vb → jv_J g X I_L_law 394 [some (.ref (scB g)), some (jv_r g 0), some (jv_r g 123), some (.int (nI i)), some (.int x), some (.long d), none, some (.int (nI N)), some (.int (nI N)), none, none, none, none, none, none, none, none, none, none] [] n (SH sx) V L k z) → jv_J g X I_L_law 94 [some (.ref (scB g)), some (jv_r g 0), some (jv_r g 123), some (.int (nI i)), some (.int x), some (.long d), none, some (.int (nI N)), some (.int (nI a)), none, none, none, none, none, none, none, none, none, none] [] n (SH sx) V L k z := by
  intro m
  induction m with
  | zero => intro a V ha0 hm2 hV kk; omega
  | succ m ih =>
  intro a V ha0 hm2 hV kk
  have G := HT.pg
  have hN2 := HT.N2
  have hN12 := HT.N12
  have hK4 := HT.K4
  have hR8 := HT.R8
  
  refine j_iload_8 dL_law_94 ?_
  refine j_iload_7 dL_law_96 ?_
  refine j_ic_geN (by omega) (by omega) (tgt := 394) dL_law_98 (by decide) (fun h98 => ?_) (fun h98 => ?_)
  · obtain rfl : a = N := by omega
    exact kk V hV
  · have ha : a < N := by omega
    refine j_iload_4 dL_law_101 ?_
    refine j_iload_8 dL_law_103 ?_
    refine j_ishr dL_law_105 ?_
    refine j_iload_7 dL_law_106 ?_
    refine C_L_15  rfl (by decide) dL_law_108 (Nat.le_of_ble_eq_true rfl) (Nat.le_of_eq (Nat.zero_add _)) (Nat.le_of_eq (Nat.zero_add _)) (fun _ _ hM' hT' => c_below (m := N) (by omega) (by omega) hM' hT') ?_
    have hw : bel (x >>> (nI a &&& 31)) N < N := bel_lt (by omega)
    generalize bel (x >>> (nI a &&& 31)) N = w at hw ⊢
    refine j_istore_9 rfl (by decide) dL_law_111 ?_
    refine j_iconst (v := nI 0) dL_law_113 nc_iconst_0 ?_
    refine j_istore_10 rfl (by decide) dL_law_114 ?_
    refine c_lw116 HT ha hw (N + 1) 0 V (by omega) (by omega) hV (fun V hV => ?_)
    refine j_aload_n_1 dL_law_324 ?_
    refine j_iload_8 dL_law_325 ?_
    refine j_aload_n_1 dL_law_327 ?_
    refine j_iload_8 dL_law_328 ?_
    refine C_L_139  rfl (by decide) dL_law_330 sk_0 (Nat.le_of_ble_eq_true rfl) (Nat.le_of_eq (Nat.zero_add _)) (Nat.le_of_eq (Nat.zero_add _)) (fun _ _ hM' hT' => g_farthestFrom (HT.eq hV.1).ct ha hM' hT') ?_
    refine j_top (y := nI (fr Vb N a)) (by rw [show farL (fndC V N a) N 0 a = fr V N a from rfl, fr_cg hN12 (by omega) hV.lo]) ?_
    refine jv_any (fun V => EqX V Vb) (EqX_fnd.trans hV) (fun V hV => ?_)
    refine C_L_127  rfl (by decide) dL_law_333 sk_0 (Nat.le_of_ble_eq_true rfl) (Nat.le_of_eq (Nat.zero_add _)) (Nat.le_of_eq (Nat.zero_add _)) (fun _ _ hM' hT' => g_quickest (HT.eq hV.1).ct ha (fr_lt ha) hM' hT') ?_
    refine j_top (y := qk Vb N a (fr Vb N a)) (qk_cg hN12 (Nat.lt_of_lt_of_le (fr_lt ha) hN12) hV.lo) ?_
    refine jv_any (fun V => EqX V Vb) (EqX_fnd.trans hV) (fun V hV => ?_)
    refine j_aload_n_1 dL_law_336 ?_
    refine j_iload_8 dL_law_337 ?_
    refine j_iload_9 dL_law_339 ?_
    refine C_L_127  rfl (by decide) dL_law_341 sk_0 (Nat.le_of_ble_eq_true rfl) (Nat.le_of_eq (Nat.zero_add _)) (Nat.le_of_eq (Nat.zero_add _)) (fun _ _ hM' hT' => g_quickest (HT.eq hV.1).ct ha hw hM' hT') ?_
    refine j_top (y := qk Vb N a w) (qk_cg hN12 (Nat.lt_of_lt_of_le hw hN12) hV.lo) ?_
    refine jv_any (fun V => EqX V Vb) (EqX_fnd.trans hV) (fun V hV => ?_)
    refine j_ic_lt (tgt := 386) dL_law_344 (by decide) (fun h344 => ?_) (fun h344 => ?_)
    · exact absurd (Int32.lt_of_lt_of_le h344 (fr_max hw)) (Int32.lt_irrefl)
    · refine j_aload_n_1 dL_law_347 ?_
      refine C_L_142  rfl (by decide) dL_law_348 sk_0 (Nat.le_of_ble_eq_true rfl) (Nat.le_of_eq (Nat.zero_add _)) (Nat.le_of_eq (Nat.zero_add _)) (fun _ _ hM' hT' => g_parts (HT.eq hV.1).ct hM' hT') ?_
      refine j_top (y := nI (parL N N 0 Vb 0).2) (congrArg nI (par_cg hN12 N 0 V Vb 0 (by omega) hV.lo (fun _ _ => rfl))) ?_
      refine jv_any (fun V => EqX V Vb) (EqX_par.trans hV) (fun V hV => ?_)
      refine j_iconst (v := nI 1) dL_law_351 nc_iconst_1 ?_
      have hpl := par_le (N := N) N 0 Vb 0
      refine j_ic_neN (by omega) (by omega) (tgt := 388) dL_law_352 (by decide) (fun h352 => ?_) (fun h352 => ?_)
      · refine j_inc1_8 rfl (by decide) dL_law_388 ?_
        refine j_goto (tgt := 94) dL_law_391 (by decide) ?_
        exact jv_drop 9 (jv_drop 10 (jv_drop 11 (jv_drop 12 (jv_drop 13 (jv_drop 14 (jv_drop 15 (ih (a + 1) V (by omega) (by omega) hV kk)))))))
      · have hall := par_all G (V1 := Vb) (fun _ _ => rfl) (by omega)
        obtain ⟨j, ej, hj, hbest⟩ := cen_best G (V1 := Vb) (l := nI 0) (fun _ _ => rfl) hall
        refine j_aload_n_1 dL_law_355 ?_
        refine j_aload_n_1 dL_law_356 ?_
        refine C_L_145  rfl (by decide) dL_law_357 sk_0 (Nat.le_of_ble_eq_true rfl) (Nat.le_of_eq (Nat.zero_add _)) (Nat.le_of_eq (Nat.zero_add _)) (fun _ _ hM' hT' => g_centre (HT.eq hV.1).ct hM' hT') ?_
        refine j_top (y := nI j) (by rw [cen_cg hN12 N 0 V Vb none (nI 0) hV.lo (fun _ _ => rfl), ej]; rfl) ?_
        refine jv_any (fun V => EqX V Vb) (EqX_cen.trans hV) (fun V hV => ?_)
        refine j_aload_n_1 dL_law_360 ?_
        refine j_aload_n_1 dL_law_361 ?_
        refine C_L_145  rfl (by decide) dL_law_362 sk_0 (Nat.le_of_ble_eq_true rfl) (Nat.le_of_eq (Nat.zero_add _)) (Nat.le_of_eq (Nat.zero_add _)) (fun _ _ hM' hT' => g_centre (HT.eq hV.1).ct hM' hT') ?_
        refine j_top (y := nI j) (by rw [cen_cg hN12 N 0 V Vb none (nI 0) hV.lo (fun _ _ => rfl), ej]; rfl) ?_
        refine jv_any (fun V => EqX V Vb) (EqX_cen.trans hV) (fun V hV => ?_)
        refine C_L_139  rfl (by decide) dL_law_365 sk_0 (Nat.le_of_ble_eq_true rfl) (Nat.le_of_eq (Nat.zero_add _)) (Nat.le_of_eq (Nat.zero_add _)) (fun _ _ hM' hT' => g_farthestFrom (HT.eq hV.1).ct hj hM' hT') ?_
        refine j_top (y := nI (fr Vb N j)) (by rw [show farL (fndC V N j) N 0 j = fr V N j from rfl, fr_cg hN12 (by omega) hV.lo]) ?_
        refine jv_any (fun V => EqX V Vb) (EqX_fnd.trans hV) (fun V hV => ?_)
        refine C_L_127  rfl (by decide) dL_law_368 sk_0 (Nat.le_of_ble_eq_true rfl) (Nat.le_of_eq (Nat.zero_add _)) (Nat.le_of_eq (Nat.zero_add _)) (fun _ _ hM' hT' => g_quickest (HT.eq hV.1).ct hj (fr_lt hj) hM' hT') ?_
        refine j_top (y := qk Vb N j (fr Vb N j)) (qk_cg hN12 (Nat.lt_of_lt_of_le (fr_lt hj) hN12) hV.lo) ?_
        refine jv_any (fun V => EqX V Vb) (EqX_fnd.trans hV) (fun V hV => ?_)
        refine j_aload_n_1 dL_law_371 ?_
        refine j_iload_8 dL_law_372 ?_
        refine j_aload_n_1 dL_law_374 ?_
        refine j_iload_8 dL_law_375 ?_
        refine C_L_139  rfl (by decide) dL_law_377 sk_0 (Nat.le_of_ble_eq_true rfl) (Nat.le_of_eq (Nat.zero_add _)) (Nat.le_of_eq (Nat.zero_add _)) (fun _ _ hM' hT' => g_farthestFrom (HT.eq hV.1).ct ha hM' hT') ?_
        refine j_top (y := nI (fr Vb N a)) (by rw [show farL (fndC V N a) N 0 a = fr V N a from rfl, fr_cg hN12 (by omega) hV.lo]) ?_
        refine jv_any (fun V => EqX V Vb) (EqX_fnd.trans hV) (fun V hV => ?_)
        refine C_L_127  rfl (by decide) dL_law_380 sk_0 (Nat.le_of_ble_eq_true rfl) (Nat.le_of_eq (Nat.zero_add _)) (Nat.le_of_eq (Nat.zero_add _)) (fun _ _ hM' hT' => g_quickest (HT.eq hV.1).ct ha (fr_lt ha) hM' hT') ?_
        refine j_top (y := qk Vb N a (fr Vb N a)) (qk_cg hN12 (Nat.lt_of_lt_of_le (fr_lt ha) hN12) hV.lo) ?_
        refine jv_any (fun V => EqX V Vb) (EqX_fnd.trans hV) (fun V hV => ?_)
        refine j_ic_le (tgt := 388) dL_law_383 (by decide) (fun h383 => ?_) (fun h383 => ?_)
        · refine j_inc1_8 rfl (by decide) dL_law_388 ?_
          refine j_goto (tgt := 94) dL_law_391 (by decide) ?_
          exact jv_drop 9 (jv_drop 10 (jv_drop 11 (jv_drop 12 (jv_drop 13 (jv_drop 14 (jv_drop 15 (ih (a + 1) V (by omega) (by omega) hV kk)))))))
        · exact absurd (hbest a ha) h383
