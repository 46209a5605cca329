/-! ===== telling walked; an hour; hours ===== -/
theorem its_m {x : Int32} (h : okP x) (hx : x < 0) : x = -1 := by
  rcases h with h | ⟨p, h, -, h2⟩
  · exact h
  · rw [h] at hx
    exact absurd hx (nI_pos (by omega))
theorem its_n {x : Int32} (h : okP x) (hx : ¬ x < 0) : ¬ x = -1 := fun c => hx (by rw [c]; decide +kernel)
theorem its_0 {x : Int32} (hx : 0 ≤ x) : ¬ x < 0 := fun c => by
  simp only [Int32.lt_iff_toInt_lt, Int32.le_iff_toInt_le] at c hx
  omega
theorem its_1 {x : Int32} (hx : ¬ 0 ≤ x) : x < 0 := by
  simp only [Int32.lt_iff_toInt_lt, Int32.le_iff_toInt_le] at hx ⊢
  omega
theorem add_ne {t : Nat} {x : Int32} (h : okP x) (hx : ¬ x = -1) (ht : t < 2 ^ 30) : ¬ nI t + x = -1 := by
  obtain ⟨p, e, h1, h2⟩ := h.resolve_left hx
  rw [e, nI_add]
  exact m1n (by omega)
/-- how many floors are still to be told, of those from i on, but f -/
def rem (N f i : Nat) : Nat := (N - i) - (if i ≤ f then 1 else 0)
theorem rem_s {N f i : Nat} (hi : i < N) (hf : f < N) (hne : i ≠ f) : rem N f i = rem N f (i + 1) + 1 := by
  unfold rem
  by_cases e : i ≤ f
  · rw [if_pos e, if_pos (by omega)]
    omega
  · rw [if_neg e, if_neg (by omega)]
    omega
theorem rem_f {N f i : Nat} (hf : f < N) (he : i = f) : rem N f i = rem N f (i + 1) := by
  subst he
  unfold rem
  rw [if_pos (Nat.le_refl _), if_neg (by omega)]
  omega
theorem rem_le {N f i : Nat} : rem N f (i + 1) ≤ rem N f i := by
  unfold rem
  by_cases e : i ≤ f
  · rw [if_pos e]
    by_cases e2 : i + 1 ≤ f
    · rw [if_pos e2]; omega
    · rw [if_neg e2]; omega
  · rw [if_neg e, if_neg (by omega)]; omega
def bn (b : Bool) : Nat := if b = true then 1 else 0
/-- the state in the hours' walk: rumour j's way moves, all else of the places stands -/
def PL (pl pl0 : Nat → Nat) (j : Nat) : Prop := ∀ ρ, ρ ≠ 20 + 10 * j + 7 → pl ρ = pl0 ρ
theorem lo1_s {A : Nat → Nat → Int32} {r f i : Nat} {p h : Int32} {a b : Bool} (hr : 43 ≤ r) (hf : f < 12) (e : ¬ A (8 + f) i = -1) : lo1 A r f i p h a b = if b = true then s9 (if a = true then s7 A r i (h + A (8 + f) i) p else A) r i (h + A (8 + f) i) else (if a = true then s7 A r i (h + A (8 + f) i) p else A) := by
  have e8 : ∀ Y : Nat → Nat → Int32, Y (8 + f) = A (8 + f) → td1 Y r f i h = s9 Y r i (h + A (8 + f) i) := fun Y hY => by
    rw [td1_s9, hY, if_neg e]
  have e7 : tr1 A r f i p h = s7 A r i (h + A (8 + f) i) p := by rw [tr1_s7, if_neg e]
  have eo : s7 A r i (h + A (8 + f) i) p (8 + f) = A (8 + f) := by rw [← e7, tr1_o (by omega) (by omega)]
  unfold lo1
  cases a <;> cases b
  · rfl
  · show td1 A r f i h = s9 A r i (h + A (8 + f) i)
    exact e8 A rfl
  · exact e7
  · show td1 (tr1 A r f i p h) r f i h = s9 (s7 A r i (h + A (8 + f) i) p) r i (h + A (8 + f) i)
    rw [e7]
    exact e8 _ eo
theorem lo1_m {A : Nat → Nat → Int32} {r f i : Nat} {p h : Int32} {a b : Bool} (hr : 43 ≤ r) (hf : f < 12) (e : A (8 + f) i = -1) : lo1 A r f i p h a b = A := by
  have e7 : tr1 A r f i p h = A := by rw [tr1_s7, if_pos e]
  have e9 : td1 A r f i h = A := by rw [td1_s9, if_pos e]
  unfold lo1
  cases a <;> cases b
  · rfl
  · exact e9
  · exact e7
  · show td1 (tr1 A r f i p h) r f i h = A
    rw [e7, e9]
theorem s7_o {A : Nat → Nat → Int32} {r o q : Nat} {h m : Int32} (h1 : q ≠ r + 7) (h2 : q ≠ r + 8) : s7 A r o h m q = A q := by
  unfold s7
  split
  · rw [jv_U_other h2, jv_U_other h1]
  · rfl
theorem s9_o {A : Nat → Nat → Int32} {r o q : Nat} {h : Int32} (h1 : q ≠ r + 9) : s9 A r o h q = A q := by
  unfold s9
  split
  · rw [jv_U_other h1]
  · rfl

set_option maxHeartbeats 4000000 in
set_option maxRecDepth 100000 in
theorem c_pO {g : jv_G} {X : jv_X} {L : Nat → Nat → Int64} {N K R : Nat} {j f P y t : Nat} {a0 b : Bool} (hj : j < R) (hf : f < N) (hP : P ≤ 20) (hy : y ≤ 20) (ht : t < 2 ^ 30) (hN12 : N ≤ 12) (hK4 : K ≤ 4) {p8 p0 n0 k2 : Nat} {pl0 : Nat → Nat} {sh0 : Nat → jv_S} {V0 FC : Nat → Nat → Int32} (kk : ∀ tg1 pl1 n1 s1 V1 v9 v10, REP tg1 pl1 n1 s1 V1 FC N K R → PL pl1 pl0 j → n0 ≤ n1 → (∀ q, q < 123 → s1 q = sh0 q ∧ V1 q = V0 q) → jv_J g X I_X6_pass 344 [some (jv_r g 123), some (jv_r g p8), some (.int (nI R)), some (.int (nI j)), some (jv_r g p0), some (.int (nI N)), some (.int (nI f)), some (.int (bz a0)), some (.int (bz b)), v9, v10] [] n1 s1 V1 L k2 (20 * k2)) : ∀ (m : Nat) (i : Nat) (A : (Nat → Nat → Int32)) (tg pl : Nat → Nat) (n : Nat) (sh : Nat → jv_S) (V : (Nat → Nat → Int32)) (k : Nat) (v10 : Option Value), i ≤ N → N + 1 ≤ i + m → REP tg pl n sh V A N K R → PL pl pl0 j → n0 ≤ n → (∀ q, q < 123 → sh q = sh0 q ∧ V q = V0 q) → pl (20 + 10 * j) = p0 → CE A N K t → (a0 = true → A (43 + 10 * j + 4) f = nI P) → A (43 + 10 * j) 1 = nI y → k2 + 3 * (bn a0 + bn b) * rem N f i ≤ k → loL (43 + 10 * j) f (nI (P + 1)) (nI t) (a0 && decide (P + 1 ≤ y)) b (N - i) i A = FC → jv_J g X I_X6_pass 232 [some (jv_r g 123), some (jv_r g p8), some (.int (nI R)), some (.int (nI j)), some (jv_r g p0), some (.int (nI N)), some (.int (nI f)), some (.int (bz a0)), some (.int (bz b)), some (.int (nI i)), v10] [] n sh V L k (20 * k) := by
  intro m
  induction m with
  | zero => intro i A tg pl n sh V k v10 hi hm2 H hPL hn hlow hp0 E hP4 hy1 hk hFC; omega
  | succ m ih =>
  intro i A tg pl n sh V k v10 hi hm2 H hPL hn hlow hp0 E hP4 hy1 hk hFC
  rw [← hp0]
  refine j_iload_9 dX6_pass_232 ?_
  refine j_iload_5 dX6_pass_234 ?_
  refine j_ic_geN (by omega) (by omega) (tgt := 344) dX6_pass_236 (by decide) (fun h236 => ?_) (fun h236 => ?_)
  · obtain rfl : i = N := by omega
    rw [Nat.sub_self] at hFC
    subst hFC
    rw [hp0]
    refine jv_less (by omega) (by omega) (kk _ _ n sh V _ _ H hPL hn hlow)
  · have hi2 : i < N := by omega
    have hok := (E.2.1 f i hf hi2).2
    refine j_iload_7 dX6_pass_239 ?_
    refine j_if_ne (tgt := 249) dX6_pass_241 (by decide) (fun h241 => ?_) (fun h241 => ?_)
    · refine j_aload_n_0 dX6_pass_249 ?_
      refine j_iload_6 dX6_pass_250 ?_
      refine j_iload_9 dX6_pass_252 ?_
      refine C_X6_97  rfl (by decide) dX6_pass_254 H.s (Nat.le_of_ble_eq_true rfl) (Nat.le_of_eq (Nat.zero_add _)) (Nat.le_of_eq (Nat.zero_add _)) (fun _ _ hM' hT' => c_pipe H hf hi2 E.2.2.2 hM' hT') ?_
      refine j_top (y := A (8 + f) i) ((E.2.1 f i hf hi2).1.symm) ?_
      refine j_goto (tgt := 261) dX6_pass_257 (by decide) ?_
      refine j_istore_10 rfl (by decide) dX6_pass_261 ?_
      refine j_iload_10 dX6_pass_263 ?_
      refine j_if_ge (tgt := 271) dX6_pass_265 (by decide) (fun h265 => ?_) (fun h265 => ?_)
      · have hm : ¬ A (8 + f) i = -1 := its_n hok (its_0 h265)
        have hif : i ≠ f := fun c => hm (by rw [c]; exact E.self hf)
        refine j_iload_7 dX6_pass_271 ?_
        refine j_if_eq (tgt := 317) dX6_pass_273 (by decide) (fun h273 => ?_) (fun h273 => ?_)
        · refine j_iload_8 dX6_pass_317 ?_
          refine j_if_eq (tgt := 338) dX6_pass_319 (by decide) (fun h319 => ?_) (fun h319 => ?_)
          · refine j_inc1_9 rfl (by decide) dX6_pass_338 ?_
            refine j_goto (tgt := 232) dX6_pass_341 (by decide) ?_
            have e1 : ∀ q, ¬ (43 + 10 * j + 7 ≤ q ∧ q ≤ 43 + 10 * j + 9) → A q = A q := fun q hq => by rfl
            rw [hp0]
            refine ih (i + 1) A _ _ n sh V k _ (by omega) (by omega) H hPL hn hlow hp0 (E.to hN12 hK4 (by rw [e1 0 (by omega)]; exact E.1) (fun q _ h2 => e1 q (by omega))) (fun c => by rw [e1 _ (by omega)]; exact hP4 c) (by rw [e1 _ (by omega)]; exact hy1) ?_ ?_
            · have e8 := rem_s hi2 hf hif
              have ea : bn a0 = 0 := by rw [bz_f h273]; rfl
              have eb : bn b = 0 := by rw [bz_f h319]; rfl
              rw [ea, eb] at hk ⊢
              omega
            · rw [show N - i = N - (i + 1) + 1 by omega] at hFC
              rw [← hFC]
              show _ = loL (43 + 10 * j) f (nI (P + 1)) (nI t) _ b (N - (i + 1)) (i + 1) (lo1 A (43 + 10 * j) f i (nI (P + 1)) (nI t) _ b)
              rw [lo1_s (by omega) (by omega) hm]
              have ea : a0 = false := bz_f h273
              have eb : b = false := bz_f h319
              have ec : (a0 && decide (P + 1 ≤ y)) = false := by rw [ea]; rfl
              rw [ec, eb]
              rfl
          · refine j_aload_4 dX6_pass_322 ?_
            refine j_iload_9 dX6_pass_324 ?_
            refine j_aload_n_0 dX6_pass_326 ?_
            refine G_X6_35 rfl dX6_pass_327 H.s ?_
            refine j_top (y := nI t) (H.hr.trans E.1) ?_
            refine j_iload_10 dX6_pass_330 ?_
            refine j_iadd dX6_pass_332 ?_
            refine j_iconst (v := nI 1) dX6_pass_333 nc_iconst_1 ?_
            refine j_iconst (v := nI 0) dX6_pass_334 nc_iconst_0 ?_
            refine Q_X6_112 (k' := 3) (z' := 60) (k2 := k - 3) (z2 := 20 * (k - 3)) (P := SQ pl n sh V (s9 A (43 + 10 * j) i (nI t + A (8 + f) i)) N K R j) rfl (by decide) dX6_pass_335 (H.ob hj).1 (Nat.le_of_ble_eq_true rfl) (by have ea : bn a0 = 0 := (by rw [bz_f h273]; rfl); have eb : bn b = 1 := (by rw [bz_t h319]; rfl); have e8 := rem_s hi2 hf hif; rw [ea, eb, e8] at hk; omega) (by have ea : bn a0 = 0 := (by rw [bz_f h273]; rfl); have eb : bn b = 1 := (by rw [bz_t h319]; rfl); have e8 := rem_s hi2 hf hif; rw [ea, eb, e8] at hk; omega) (fun _ _ hM' hT' => c_send1P (o := i) (hr := nI t + A (8 + f) i) H hj hi2 (add_ne hok hm ht) (by omega) (by omega) hM' hT') (fun n3 s3 W3 hP3 => ?_)
            obtain ⟨tg3, pl3, H3, hq3, hn3, hlw3⟩ := hP3
            have hPL3 : PL pl3 pl0 j := fun ρ h => (hq3 ρ h).trans (hPL ρ h)
            have hn3 : n0 ≤ n3 := by omega
            have hlow3 : ∀ q, q < 123 → s3 q = sh0 q ∧ W3 q = V0 q := fun q hq => ⟨(hlw3 q hq).1.trans (hlow q hq).1, (hlw3 q hq).2.trans (hlow q hq).2⟩
            have hp03 : pl3 (20 + 10 * j) = p0 := (hq3 _ (by omega)).trans hp0
            rw [hp0, ← hp03]
            refine j_inc1_9 rfl (by decide) dX6_pass_338 ?_
            refine j_goto (tgt := 232) dX6_pass_341 (by decide) ?_
            have e1 : ∀ q, ¬ (43 + 10 * j + 7 ≤ q ∧ q ≤ 43 + 10 * j + 9) → (s9 A (43 + 10 * j) i (nI t + A (8 + f) i)) q = A q := fun q hq => by rw [s9_o (by omega)]
            rw [hp03]
            refine ih (i + 1) (s9 A (43 + 10 * j) i (nI t + A (8 + f) i)) _ _ n3 s3 W3 (k - 3) _ (by omega) (by omega) H3 hPL3 hn3 hlow3 hp03 (E.to hN12 hK4 (by rw [e1 0 (by omega)]; exact E.1) (fun q _ h2 => e1 q (by omega))) (fun c => by rw [e1 _ (by omega)]; exact hP4 c) (by rw [e1 _ (by omega)]; exact hy1) ?_ ?_
            · have e8 := rem_s hi2 hf hif
              have ea : bn a0 = 0 := by rw [bz_f h273]; rfl
              have eb : bn b = 1 := by rw [bz_t h319]; rfl
              rw [ea, eb] at hk ⊢
              omega
            · rw [show N - i = N - (i + 1) + 1 by omega] at hFC
              rw [← hFC]
              show _ = loL (43 + 10 * j) f (nI (P + 1)) (nI t) _ b (N - (i + 1)) (i + 1) (lo1 A (43 + 10 * j) f i (nI (P + 1)) (nI t) _ b)
              rw [lo1_s (by omega) (by omega) hm]
              have ea : a0 = false := bz_f h273
              have eb : b = true := bz_t h319
              have ec : (a0 && decide (P + 1 ≤ y)) = false := by rw [ea]; rfl
              rw [ec, eb]
              rfl
        · refine j_aload_4 dX6_pass_276 ?_
          refine G_X6_71 rfl dX6_pass_278 (H.ob hj).1 ((H.ob hj).2.2.2 4 (by decide) (by decide)) ?_
          refine j_iload_6 dX6_pass_281 ?_
          refine j_iald dX6_pass_283 (H.rw hj 4 (by decide) (by decide)).1 (H.rw hj 4 (by decide) (by decide)).2.1 (by omega) (by omega) ?_
          refine j_top (y := nI P) (((H.rw hj 4 (by decide) (by decide)).2.2 f hf).trans (hP4 (bz_t h273))) ?_
          refine j_aload_4 dX6_pass_284 ?_
          refine G_X6_58 rfl dX6_pass_286 (H.ob hj).1 ?_
          refine j_top (y := nI y) ((H.ob hj).2.2.1.trans hy1) ?_
          refine j_ic_geN (by omega) (by omega) (tgt := 317) dX6_pass_289 (by decide) (fun h289 => ?_) (fun h289 => ?_)
          · refine j_iload_8 dX6_pass_317 ?_
            refine j_if_eq (tgt := 338) dX6_pass_319 (by decide) (fun h319 => ?_) (fun h319 => ?_)
            · refine j_inc1_9 rfl (by decide) dX6_pass_338 ?_
              refine j_goto (tgt := 232) dX6_pass_341 (by decide) ?_
              have e1 : ∀ q, ¬ (43 + 10 * j + 7 ≤ q ∧ q ≤ 43 + 10 * j + 9) → A q = A q := fun q hq => by rfl
              rw [hp0]
              refine ih (i + 1) A _ _ n sh V k _ (by omega) (by omega) H hPL hn hlow hp0 (E.to hN12 hK4 (by rw [e1 0 (by omega)]; exact E.1) (fun q _ h2 => e1 q (by omega))) (fun c => by rw [e1 _ (by omega)]; exact hP4 c) (by rw [e1 _ (by omega)]; exact hy1) ?_ ?_
              · have e8 := rem_s hi2 hf hif
                have ea : bn a0 = 1 := by rw [bz_t h273]; rfl
                have eb : bn b = 0 := by rw [bz_f h319]; rfl
                rw [ea, eb] at hk ⊢
                omega
              · rw [show N - i = N - (i + 1) + 1 by omega] at hFC
                rw [← hFC]
                show _ = loL (43 + 10 * j) f (nI (P + 1)) (nI t) _ b (N - (i + 1)) (i + 1) (lo1 A (43 + 10 * j) f i (nI (P + 1)) (nI t) _ b)
                rw [lo1_s (by omega) (by omega) hm]
                have ea : a0 = true := bz_t h273
                have eb : b = false := bz_f h319
                have ec : (a0 && decide (P + 1 ≤ y)) = false := by rw [decide_eq_false (by omega), Bool.and_false]
                rw [ec, eb]
                rfl
            · refine j_aload_4 dX6_pass_322 ?_
              refine j_iload_9 dX6_pass_324 ?_
              refine j_aload_n_0 dX6_pass_326 ?_
              refine G_X6_35 rfl dX6_pass_327 H.s ?_
              refine j_top (y := nI t) (H.hr.trans E.1) ?_
              refine j_iload_10 dX6_pass_330 ?_
              refine j_iadd dX6_pass_332 ?_
              refine j_iconst (v := nI 1) dX6_pass_333 nc_iconst_1 ?_
              refine j_iconst (v := nI 0) dX6_pass_334 nc_iconst_0 ?_
              refine Q_X6_112 (k' := 3) (z' := 60) (k2 := k - 3) (z2 := 20 * (k - 3)) (P := SQ pl n sh V (s9 A (43 + 10 * j) i (nI t + A (8 + f) i)) N K R j) rfl (by decide) dX6_pass_335 (H.ob hj).1 (Nat.le_of_ble_eq_true rfl) (by have ea : bn a0 = 1 := (by rw [bz_t h273]; rfl); have eb : bn b = 1 := (by rw [bz_t h319]; rfl); have e8 := rem_s hi2 hf hif; rw [ea, eb, e8] at hk; omega) (by have ea : bn a0 = 1 := (by rw [bz_t h273]; rfl); have eb : bn b = 1 := (by rw [bz_t h319]; rfl); have e8 := rem_s hi2 hf hif; rw [ea, eb, e8] at hk; omega) (fun _ _ hM' hT' => c_send1P (o := i) (hr := nI t + A (8 + f) i) H hj hi2 (add_ne hok hm ht) (by omega) (by omega) hM' hT') (fun n3 s3 W3 hP3 => ?_)
              obtain ⟨tg3, pl3, H3, hq3, hn3, hlw3⟩ := hP3
              have hPL3 : PL pl3 pl0 j := fun ρ h => (hq3 ρ h).trans (hPL ρ h)
              have hn3 : n0 ≤ n3 := by omega
              have hlow3 : ∀ q, q < 123 → s3 q = sh0 q ∧ W3 q = V0 q := fun q hq => ⟨(hlw3 q hq).1.trans (hlow q hq).1, (hlw3 q hq).2.trans (hlow q hq).2⟩
              have hp03 : pl3 (20 + 10 * j) = p0 := (hq3 _ (by omega)).trans hp0
              rw [hp0, ← hp03]
              refine j_inc1_9 rfl (by decide) dX6_pass_338 ?_
              refine j_goto (tgt := 232) dX6_pass_341 (by decide) ?_
              have e1 : ∀ q, ¬ (43 + 10 * j + 7 ≤ q ∧ q ≤ 43 + 10 * j + 9) → (s9 A (43 + 10 * j) i (nI t + A (8 + f) i)) q = A q := fun q hq => by rw [s9_o (by omega)]
              rw [hp03]
              refine ih (i + 1) (s9 A (43 + 10 * j) i (nI t + A (8 + f) i)) _ _ n3 s3 W3 (k - 3) _ (by omega) (by omega) H3 hPL3 hn3 hlow3 hp03 (E.to hN12 hK4 (by rw [e1 0 (by omega)]; exact E.1) (fun q _ h2 => e1 q (by omega))) (fun c => by rw [e1 _ (by omega)]; exact hP4 c) (by rw [e1 _ (by omega)]; exact hy1) ?_ ?_
              · have e8 := rem_s hi2 hf hif
                have ea : bn a0 = 1 := by rw [bz_t h273]; rfl
                have eb : bn b = 1 := by rw [bz_t h319]; rfl
                rw [ea, eb] at hk ⊢
                omega
              · rw [show N - i = N - (i + 1) + 1 by omega] at hFC
                rw [← hFC]
                show _ = loL (43 + 10 * j) f (nI (P + 1)) (nI t) _ b (N - (i + 1)) (i + 1) (lo1 A (43 + 10 * j) f i (nI (P + 1)) (nI t) _ b)
                rw [lo1_s (by omega) (by omega) hm]
                have ea : a0 = true := bz_t h273
                have eb : b = true := bz_t h319
                have ec : (a0 && decide (P + 1 ≤ y)) = false := by rw [decide_eq_false (by omega), Bool.and_false]
                rw [ec, eb]
                rfl
          · refine j_aload_4 dX6_pass_292 ?_
            refine j_iload_9 dX6_pass_294 ?_
            refine j_aload_n_0 dX6_pass_296 ?_
            refine G_X6_35 rfl dX6_pass_297 H.s ?_
            refine j_top (y := nI t) (H.hr.trans E.1) ?_
            refine j_iload_10 dX6_pass_300 ?_
            refine j_iadd dX6_pass_302 ?_
            refine j_iconst (v := nI 0) dX6_pass_303 nc_iconst_0 ?_
            refine j_aload_4 dX6_pass_304 ?_
            refine G_X6_71 rfl dX6_pass_306 (H.ob hj).1 ((H.ob hj).2.2.2 4 (by decide) (by decide)) ?_
            refine j_iload_6 dX6_pass_309 ?_
            refine j_iald dX6_pass_311 (H.rw hj 4 (by decide) (by decide)).1 (H.rw hj 4 (by decide) (by decide)).2.1 (by omega) (by omega) ?_
            refine j_top (y := nI P) (((H.rw hj 4 (by decide) (by decide)).2.2 f hf).trans (hP4 (bz_t h273))) ?_
            refine j_iconst (v := nI 1) dX6_pass_312 nc_iconst_1 ?_
            refine j_iaddN dX6_pass_313 ?_
            refine Q_X6_112 (k' := 3) (z' := 60) (k2 := k - 3) (z2 := 20 * (k - 3)) (P := SQ pl n sh V (s7 A (43 + 10 * j) i (nI t + A (8 + f) i) (nI (P + 1))) N K R j) rfl (by decide) dX6_pass_314 (H.ob hj).1 (Nat.le_of_ble_eq_true rfl) (by have ea : bn a0 = 1 := (by rw [bz_t h273]; rfl); have e8 := rem_s hi2 hf hif; rw [ea, e8] at hk; have e7 : 3 * (1 + bn b) * (rem N f (i + 1) + 1) = 3 * (1 + bn b) * rem N f (i + 1) + 3 * (1 + bn b) := Nat.mul_succ _ _; omega) (by have ea : bn a0 = 1 := (by rw [bz_t h273]; rfl); have e8 := rem_s hi2 hf hif; rw [ea, e8] at hk; have e7 : 3 * (1 + bn b) * (rem N f (i + 1) + 1) = 3 * (1 + bn b) * rem N f (i + 1) + 3 * (1 + bn b) := Nat.mul_succ _ _; omega) (fun _ _ hM' hT' => c_send0P (o := i) (hr := nI t + A (8 + f) i) (m := nI (P + 1)) H hj hi2 (add_ne hok hm ht) (by omega) (by omega) hM' hT') (fun n2 s2 W2 hP2 => ?_)
            obtain ⟨tg2, pl2, H2, hq2, hn2, hlw2⟩ := hP2
            have hPL2 : PL pl2 pl0 j := fun ρ h => (hq2 ρ h).trans (hPL ρ h)
            have hn2 : n0 ≤ n2 := by omega
            have hlow2 : ∀ q, q < 123 → s2 q = sh0 q ∧ W2 q = V0 q := fun q hq => ⟨(hlw2 q hq).1.trans (hlow q hq).1, (hlw2 q hq).2.trans (hlow q hq).2⟩
            have hp02 : pl2 (20 + 10 * j) = p0 := (hq2 _ (by omega)).trans hp0
            rw [hp0, ← hp02]
            refine j_iload_8 dX6_pass_317 ?_
            refine j_if_eq (tgt := 338) dX6_pass_319 (by decide) (fun h319 => ?_) (fun h319 => ?_)
            · refine j_inc1_9 rfl (by decide) dX6_pass_338 ?_
              refine j_goto (tgt := 232) dX6_pass_341 (by decide) ?_
              have e1 : ∀ q, ¬ (43 + 10 * j + 7 ≤ q ∧ q ≤ 43 + 10 * j + 9) → (s7 A (43 + 10 * j) i (nI t + A (8 + f) i) (nI (P + 1))) q = A q := fun q hq => by rw [s7_o (by omega) (by omega)]
              rw [hp02]
              refine ih (i + 1) (s7 A (43 + 10 * j) i (nI t + A (8 + f) i) (nI (P + 1))) _ _ n2 s2 W2 (k - 3) _ (by omega) (by omega) H2 hPL2 hn2 hlow2 hp02 (E.to hN12 hK4 (by rw [e1 0 (by omega)]; exact E.1) (fun q _ h2 => e1 q (by omega))) (fun c => by rw [e1 _ (by omega)]; exact hP4 c) (by rw [e1 _ (by omega)]; exact hy1) ?_ ?_
              · have e8 := rem_s hi2 hf hif
                have ea : bn a0 = 1 := by rw [bz_t h273]; rfl
                have eb : bn b = 0 := by rw [bz_f h319]; rfl
                rw [ea, eb] at hk ⊢
                omega
              · rw [show N - i = N - (i + 1) + 1 by omega] at hFC
                rw [← hFC]
                show _ = loL (43 + 10 * j) f (nI (P + 1)) (nI t) _ b (N - (i + 1)) (i + 1) (lo1 A (43 + 10 * j) f i (nI (P + 1)) (nI t) _ b)
                rw [lo1_s (by omega) (by omega) hm]
                have ea : a0 = true := bz_t h273
                have eb : b = false := bz_f h319
                have ec : (a0 && decide (P + 1 ≤ y)) = true := by rw [ea, decide_eq_true (by omega)]; rfl
                rw [ec, eb]
                rfl
            · refine j_aload_4 dX6_pass_322 ?_
              refine j_iload_9 dX6_pass_324 ?_
              refine j_aload_n_0 dX6_pass_326 ?_
              refine G_X6_35 rfl dX6_pass_327 H2.s ?_
              refine j_top (y := nI t) (H2.hr.trans ((congrFun (s7_o (by omega) (by omega)) 5).trans E.1)) ?_
              refine j_iload_10 dX6_pass_330 ?_
              refine j_iadd dX6_pass_332 ?_
              refine j_iconst (v := nI 1) dX6_pass_333 nc_iconst_1 ?_
              refine j_iconst (v := nI 0) dX6_pass_334 nc_iconst_0 ?_
              refine Q_X6_112 (k' := 3) (z' := 60) (k2 := k - 6) (z2 := 20 * (k - 6)) (P := SQ pl2 n2 s2 W2 (s9 (s7 A (43 + 10 * j) i (nI t + A (8 + f) i) (nI (P + 1))) (43 + 10 * j) i (nI t + A (8 + f) i)) N K R j) rfl (by decide) dX6_pass_335 (H2.ob hj).1 (Nat.le_of_ble_eq_true rfl) (by have ea : bn a0 = 1 := (by rw [bz_t h273]; rfl); have eb : bn b = 1 := (by rw [bz_t h319]; rfl); have e8 := rem_s hi2 hf hif; rw [ea, eb, e8] at hk; omega) (by have ea : bn a0 = 1 := (by rw [bz_t h273]; rfl); have eb : bn b = 1 := (by rw [bz_t h319]; rfl); have e8 := rem_s hi2 hf hif; rw [ea, eb, e8] at hk; omega) (fun _ _ hM' hT' => c_send1P (o := i) (hr := nI t + A (8 + f) i) H2 hj hi2 (add_ne hok hm ht) (by omega) (by omega) hM' hT') (fun n3 s3 W3 hP3 => ?_)
              obtain ⟨tg3, pl3, H3, hq3, hn3, hlw3⟩ := hP3
              have hPL3 : PL pl3 pl0 j := fun ρ h => (hq3 ρ h).trans (hPL2 ρ h)
              have hn3 : n0 ≤ n3 := by omega
              have hlow3 : ∀ q, q < 123 → s3 q = sh0 q ∧ W3 q = V0 q := fun q hq => ⟨(hlw3 q hq).1.trans (hlow2 q hq).1, (hlw3 q hq).2.trans (hlow2 q hq).2⟩
              have hp03 : pl3 (20 + 10 * j) = p0 := (hq3 _ (by omega)).trans hp02
              rw [hp02, ← hp03]
              refine j_inc1_9 rfl (by decide) dX6_pass_338 ?_
              refine j_goto (tgt := 232) dX6_pass_341 (by decide) ?_
              have e1 : ∀ q, ¬ (43 + 10 * j + 7 ≤ q ∧ q ≤ 43 + 10 * j + 9) → (s9 (s7 A (43 + 10 * j) i (nI t + A (8 + f) i) (nI (P + 1))) (43 + 10 * j) i (nI t + A (8 + f) i)) q = A q := fun q hq => by rw [s9_o (by omega), s7_o (by omega) (by omega)]
              rw [hp03]
              refine ih (i + 1) (s9 (s7 A (43 + 10 * j) i (nI t + A (8 + f) i) (nI (P + 1))) (43 + 10 * j) i (nI t + A (8 + f) i)) _ _ n3 s3 W3 (k - 6) _ (by omega) (by omega) H3 hPL3 hn3 hlow3 hp03 (E.to hN12 hK4 (by rw [e1 0 (by omega)]; exact E.1) (fun q _ h2 => e1 q (by omega))) (fun c => by rw [e1 _ (by omega)]; exact hP4 c) (by rw [e1 _ (by omega)]; exact hy1) ?_ ?_
              · have e8 := rem_s hi2 hf hif
                have ea : bn a0 = 1 := by rw [bz_t h273]; rfl
                have eb : bn b = 1 := by rw [bz_t h319]; rfl
                rw [ea, eb] at hk ⊢
                omega
              · rw [show N - i = N - (i + 1) + 1 by omega] at hFC
                rw [← hFC]
                show _ = loL (43 + 10 * j) f (nI (P + 1)) (nI t) _ b (N - (i + 1)) (i + 1) (lo1 A (43 + 10 * j) f i (nI (P + 1)) (nI t) _ b)
                rw [lo1_s (by omega) (by omega) hm]
                have ea : a0 = true := bz_t h273
                have eb : b = true := bz_t h319
                have ec : (a0 && decide (P + 1 ≤ y)) = true := by rw [ea, decide_eq_true (by omega)]; rfl
                rw [ec, eb]
                rfl
      · have hm : A (8 + f) i = -1 := its_m hok (its_1 h265)
        refine j_goto (tgt := 338) dX6_pass_268 (by decide) ?_
        refine j_inc1_9 rfl (by decide) dX6_pass_338 ?_
        refine j_goto (tgt := 232) dX6_pass_341 (by decide) ?_
        rw [hp0]
        refine ih (i + 1) A _ _ n sh V k _ (by omega) (by omega) H hPL hn hlow hp0 E hP4 hy1 ?_ ?_
        · have := rem_le (N := N) (f := f) (i := i)
          have := Nat.mul_le_mul_left (3 * (bn a0 + bn b)) this
          omega
        · rw [show N - i = N - (i + 1) + 1 by omega] at hFC
          rw [← hFC]
          show _ = loL (43 + 10 * j) f (nI (P + 1)) (nI t) _ b (N - (i + 1)) (i + 1) (lo1 A (43 + 10 * j) f i (nI (P + 1)) (nI t) (a0 && decide (P + 1 ≤ y)) b)
          rw [lo1_m (by omega) (by omega) hm]
    · refine j_iload_8 dX6_pass_244 ?_
      refine j_if_eq (tgt := 260) dX6_pass_246 (by decide) (fun h246 => ?_) (fun h246 => ?_)
      · refine j_iconst (v := -1) dX6_pass_260 nc_iconst_m1 ?_
        refine j_istore_10 rfl (by decide) dX6_pass_261 ?_
        refine j_iload_10 dX6_pass_263 ?_
        refine j_if_ge (tgt := 271) dX6_pass_265 (by decide) (fun h265 => ?_) (fun h265 => ?_)
        · exact absurd h265 (by decide +kernel)
        · refine j_goto (tgt := 338) dX6_pass_268 (by decide) ?_
          refine j_inc1_9 rfl (by decide) dX6_pass_338 ?_
          refine j_goto (tgt := 232) dX6_pass_341 (by decide) ?_
          rw [hp0]
          refine ih (i + 1) A _ _ n sh V k _ (by omega) (by omega) H hPL hn hlow hp0 E hP4 hy1 ?_ ?_
          · have := rem_le (N := N) (f := f) (i := i)
            have := Nat.mul_le_mul_left (3 * (bn a0 + bn b)) this
            omega
          · rw [show N - i = N - (i + 1) + 1 by omega] at hFC
            rw [← hFC]
            show _ = loL (43 + 10 * j) f (nI (P + 1)) (nI t) _ b (N - (i + 1)) (i + 1) (lo1 A (43 + 10 * j) f i (nI (P + 1)) (nI t) (a0 && decide (P + 1 ≤ y)) b)
            rw [show a0 = false from bz_f h241, show b = false from bz_f h246]
            rfl
      · refine j_aload_n_0 dX6_pass_249 ?_
        refine j_iload_6 dX6_pass_250 ?_
        refine j_iload_9 dX6_pass_252 ?_
        refine C_X6_97  rfl (by decide) dX6_pass_254 H.s (Nat.le_of_ble_eq_true rfl) (Nat.le_of_eq (Nat.zero_add _)) (Nat.le_of_eq (Nat.zero_add _)) (fun _ _ hM' hT' => c_pipe H hf hi2 E.2.2.2 hM' hT') ?_
        refine j_top (y := A (8 + f) i) ((E.2.1 f i hf hi2).1.symm) ?_
        refine j_goto (tgt := 261) dX6_pass_257 (by decide) ?_
        refine j_istore_10 rfl (by decide) dX6_pass_261 ?_
        refine j_iload_10 dX6_pass_263 ?_
        refine j_if_ge (tgt := 271) dX6_pass_265 (by decide) (fun h265 => ?_) (fun h265 => ?_)
        · have hm : ¬ A (8 + f) i = -1 := its_n hok (its_0 h265)
          have hif : i ≠ f := fun c => hm (by rw [c]; exact E.self hf)
          refine j_iload_7 dX6_pass_271 ?_
          refine j_if_eq (tgt := 317) dX6_pass_273 (by decide) (fun h273 => ?_) (fun h273 => ?_)
          · refine j_iload_8 dX6_pass_317 ?_
            refine j_if_eq (tgt := 338) dX6_pass_319 (by decide) (fun h319 => ?_) (fun h319 => ?_)
            · refine j_inc1_9 rfl (by decide) dX6_pass_338 ?_
              refine j_goto (tgt := 232) dX6_pass_341 (by decide) ?_
              have e1 : ∀ q, ¬ (43 + 10 * j + 7 ≤ q ∧ q ≤ 43 + 10 * j + 9) → A q = A q := fun q hq => by rfl
              rw [hp0]
              refine ih (i + 1) A _ _ n sh V k _ (by omega) (by omega) H hPL hn hlow hp0 (E.to hN12 hK4 (by rw [e1 0 (by omega)]; exact E.1) (fun q _ h2 => e1 q (by omega))) (fun c => by rw [e1 _ (by omega)]; exact hP4 c) (by rw [e1 _ (by omega)]; exact hy1) ?_ ?_
              · have e8 := rem_s hi2 hf hif
                have ea : bn a0 = 0 := by rw [bz_f h273]; rfl
                have eb : bn b = 0 := by rw [bz_f h319]; rfl
                rw [ea, eb] at hk ⊢
                omega
              · rw [show N - i = N - (i + 1) + 1 by omega] at hFC
                rw [← hFC]
                show _ = loL (43 + 10 * j) f (nI (P + 1)) (nI t) _ b (N - (i + 1)) (i + 1) (lo1 A (43 + 10 * j) f i (nI (P + 1)) (nI t) _ b)
                rw [lo1_s (by omega) (by omega) hm]
                have ea : a0 = false := bz_f h273
                have eb : b = false := bz_f h319
                have ec : (a0 && decide (P + 1 ≤ y)) = false := by rw [ea]; rfl
                rw [ec, eb]
                rfl
            · refine j_aload_4 dX6_pass_322 ?_
              refine j_iload_9 dX6_pass_324 ?_
              refine j_aload_n_0 dX6_pass_326 ?_
              refine G_X6_35 rfl dX6_pass_327 H.s ?_
              refine j_top (y := nI t) (H.hr.trans E.1) ?_
              refine j_iload_10 dX6_pass_330 ?_
              refine j_iadd dX6_pass_332 ?_
              refine j_iconst (v := nI 1) dX6_pass_333 nc_iconst_1 ?_
              refine j_iconst (v := nI 0) dX6_pass_334 nc_iconst_0 ?_
              refine Q_X6_112 (k' := 3) (z' := 60) (k2 := k - 3) (z2 := 20 * (k - 3)) (P := SQ pl n sh V (s9 A (43 + 10 * j) i (nI t + A (8 + f) i)) N K R j) rfl (by decide) dX6_pass_335 (H.ob hj).1 (Nat.le_of_ble_eq_true rfl) (by have ea : bn a0 = 0 := (by rw [bz_f h273]; rfl); have eb : bn b = 1 := (by rw [bz_t h319]; rfl); have e8 := rem_s hi2 hf hif; rw [ea, eb, e8] at hk; omega) (by have ea : bn a0 = 0 := (by rw [bz_f h273]; rfl); have eb : bn b = 1 := (by rw [bz_t h319]; rfl); have e8 := rem_s hi2 hf hif; rw [ea, eb, e8] at hk; omega) (fun _ _ hM' hT' => c_send1P (o := i) (hr := nI t + A (8 + f) i) H hj hi2 (add_ne hok hm ht) (by omega) (by omega) hM' hT') (fun n3 s3 W3 hP3 => ?_)
              obtain ⟨tg3, pl3, H3, hq3, hn3, hlw3⟩ := hP3
              have hPL3 : PL pl3 pl0 j := fun ρ h => (hq3 ρ h).trans (hPL ρ h)
              have hn3 : n0 ≤ n3 := by omega
              have hlow3 : ∀ q, q < 123 → s3 q = sh0 q ∧ W3 q = V0 q := fun q hq => ⟨(hlw3 q hq).1.trans (hlow q hq).1, (hlw3 q hq).2.trans (hlow q hq).2⟩
              have hp03 : pl3 (20 + 10 * j) = p0 := (hq3 _ (by omega)).trans hp0
              rw [hp0, ← hp03]
              refine j_inc1_9 rfl (by decide) dX6_pass_338 ?_
              refine j_goto (tgt := 232) dX6_pass_341 (by decide) ?_
              have e1 : ∀ q, ¬ (43 + 10 * j + 7 ≤ q ∧ q ≤ 43 + 10 * j + 9) → (s9 A (43 + 10 * j) i (nI t + A (8 + f) i)) q = A q := fun q hq => by rw [s9_o (by omega)]
              rw [hp03]
              refine ih (i + 1) (s9 A (43 + 10 * j) i (nI t + A (8 + f) i)) _ _ n3 s3 W3 (k - 3) _ (by omega) (by omega) H3 hPL3 hn3 hlow3 hp03 (E.to hN12 hK4 (by rw [e1 0 (by omega)]; exact E.1) (fun q _ h2 => e1 q (by omega))) (fun c => by rw [e1 _ (by omega)]; exact hP4 c) (by rw [e1 _ (by omega)]; exact hy1) ?_ ?_
              · have e8 := rem_s hi2 hf hif
                have ea : bn a0 = 0 := by rw [bz_f h273]; rfl
                have eb : bn b = 1 := by rw [bz_t h319]; rfl
                rw [ea, eb] at hk ⊢
                omega
              · rw [show N - i = N - (i + 1) + 1 by omega] at hFC
                rw [← hFC]
                show _ = loL (43 + 10 * j) f (nI (P + 1)) (nI t) _ b (N - (i + 1)) (i + 1) (lo1 A (43 + 10 * j) f i (nI (P + 1)) (nI t) _ b)
                rw [lo1_s (by omega) (by omega) hm]
                have ea : a0 = false := bz_f h273
                have eb : b = true := bz_t h319
                have ec : (a0 && decide (P + 1 ≤ y)) = false := by rw [ea]; rfl
                rw [ec, eb]
                rfl
          · refine j_aload_4 dX6_pass_276 ?_
            refine G_X6_71 rfl dX6_pass_278 (H.ob hj).1 ((H.ob hj).2.2.2 4 (by decide) (by decide)) ?_
            refine j_iload_6 dX6_pass_281 ?_
            refine j_iald dX6_pass_283 (H.rw hj 4 (by decide) (by decide)).1 (H.rw hj 4 (by decide) (by decide)).2.1 (by omega) (by omega) ?_
            refine j_top (y := nI P) (((H.rw hj 4 (by decide) (by decide)).2.2 f hf).trans (hP4 (bz_t h273))) ?_
            refine j_aload_4 dX6_pass_284 ?_
            refine G_X6_58 rfl dX6_pass_286 (H.ob hj).1 ?_
            refine j_top (y := nI y) ((H.ob hj).2.2.1.trans hy1) ?_
            refine j_ic_geN (by omega) (by omega) (tgt := 317) dX6_pass_289 (by decide) (fun h289 => ?_) (fun h289 => ?_)
            · refine j_iload_8 dX6_pass_317 ?_
              refine j_if_eq (tgt := 338) dX6_pass_319 (by decide) (fun h319 => ?_) (fun h319 => ?_)
              · refine j_inc1_9 rfl (by decide) dX6_pass_338 ?_
                refine j_goto (tgt := 232) dX6_pass_341 (by decide) ?_
                have e1 : ∀ q, ¬ (43 + 10 * j + 7 ≤ q ∧ q ≤ 43 + 10 * j + 9) → A q = A q := fun q hq => by rfl
                rw [hp0]
                refine ih (i + 1) A _ _ n sh V k _ (by omega) (by omega) H hPL hn hlow hp0 (E.to hN12 hK4 (by rw [e1 0 (by omega)]; exact E.1) (fun q _ h2 => e1 q (by omega))) (fun c => by rw [e1 _ (by omega)]; exact hP4 c) (by rw [e1 _ (by omega)]; exact hy1) ?_ ?_
                · have e8 := rem_s hi2 hf hif
                  have ea : bn a0 = 1 := by rw [bz_t h273]; rfl
                  have eb : bn b = 0 := by rw [bz_f h319]; rfl
                  rw [ea, eb] at hk ⊢
                  omega
                · rw [show N - i = N - (i + 1) + 1 by omega] at hFC
                  rw [← hFC]
                  show _ = loL (43 + 10 * j) f (nI (P + 1)) (nI t) _ b (N - (i + 1)) (i + 1) (lo1 A (43 + 10 * j) f i (nI (P + 1)) (nI t) _ b)
                  rw [lo1_s (by omega) (by omega) hm]
                  have ea : a0 = true := bz_t h273
                  have eb : b = false := bz_f h319
                  have ec : (a0 && decide (P + 1 ≤ y)) = false := by rw [decide_eq_false (by omega), Bool.and_false]
                  rw [ec, eb]
                  rfl
              · refine j_aload_4 dX6_pass_322 ?_
                refine j_iload_9 dX6_pass_324 ?_
                refine j_aload_n_0 dX6_pass_326 ?_
                refine G_X6_35 rfl dX6_pass_327 H.s ?_
                refine j_top (y := nI t) (H.hr.trans E.1) ?_
                refine j_iload_10 dX6_pass_330 ?_
                refine j_iadd dX6_pass_332 ?_
                refine j_iconst (v := nI 1) dX6_pass_333 nc_iconst_1 ?_
                refine j_iconst (v := nI 0) dX6_pass_334 nc_iconst_0 ?_
                refine Q_X6_112 (k' := 3) (z' := 60) (k2 := k - 3) (z2 := 20 * (k - 3)) (P := SQ pl n sh V (s9 A (43 + 10 * j) i (nI t + A (8 + f) i)) N K R j) rfl (by decide) dX6_pass_335 (H.ob hj).1 (Nat.le_of_ble_eq_true rfl) (by have ea : bn a0 = 1 := (by rw [bz_t h273]; rfl); have eb : bn b = 1 := (by rw [bz_t h319]; rfl); have e8 := rem_s hi2 hf hif; rw [ea, eb, e8] at hk; omega) (by have ea : bn a0 = 1 := (by rw [bz_t h273]; rfl); have eb : bn b = 1 := (by rw [bz_t h319]; rfl); have e8 := rem_s hi2 hf hif; rw [ea, eb, e8] at hk; omega) (fun _ _ hM' hT' => c_send1P (o := i) (hr := nI t + A (8 + f) i) H hj hi2 (add_ne hok hm ht) (by omega) (by omega) hM' hT') (fun n3 s3 W3 hP3 => ?_)
                obtain ⟨tg3, pl3, H3, hq3, hn3, hlw3⟩ := hP3
                have hPL3 : PL pl3 pl0 j := fun ρ h => (hq3 ρ h).trans (hPL ρ h)
                have hn3 : n0 ≤ n3 := by omega
                have hlow3 : ∀ q, q < 123 → s3 q = sh0 q ∧ W3 q = V0 q := fun q hq => ⟨(hlw3 q hq).1.trans (hlow q hq).1, (hlw3 q hq).2.trans (hlow q hq).2⟩
                have hp03 : pl3 (20 + 10 * j) = p0 := (hq3 _ (by omega)).trans hp0
                rw [hp0, ← hp03]
                refine j_inc1_9 rfl (by decide) dX6_pass_338 ?_
                refine j_goto (tgt := 232) dX6_pass_341 (by decide) ?_
                have e1 : ∀ q, ¬ (43 + 10 * j + 7 ≤ q ∧ q ≤ 43 + 10 * j + 9) → (s9 A (43 + 10 * j) i (nI t + A (8 + f) i)) q = A q := fun q hq => by rw [s9_o (by omega)]
                rw [hp03]
                refine ih (i + 1) (s9 A (43 + 10 * j) i (nI t + A (8 + f) i)) _ _ n3 s3 W3 (k - 3) _ (by omega) (by omega) H3 hPL3 hn3 hlow3 hp03 (E.to hN12 hK4 (by rw [e1 0 (by omega)]; exact E.1) (fun q _ h2 => e1 q (by omega))) (fun c => by rw [e1 _ (by omega)]; exact hP4 c) (by rw [e1 _ (by omega)]; exact hy1) ?_ ?_
                · have e8 := rem_s hi2 hf hif
                  have ea : bn a0 = 1 := by rw [bz_t h273]; rfl
                  have eb : bn b = 1 := by rw [bz_t h319]; rfl
                  rw [ea, eb] at hk ⊢
                  omega
                · rw [show N - i = N - (i + 1) + 1 by omega] at hFC
                  rw [← hFC]
                  show _ = loL (43 + 10 * j) f (nI (P + 1)) (nI t) _ b (N - (i + 1)) (i + 1) (lo1 A (43 + 10 * j) f i (nI (P + 1)) (nI t) _ b)
                  rw [lo1_s (by omega) (by omega) hm]
                  have ea : a0 = true := bz_t h273
                  have eb : b = true := bz_t h319
                  have ec : (a0 && decide (P + 1 ≤ y)) = false := by rw [decide_eq_false (by omega), Bool.and_false]
                  rw [ec, eb]
                  rfl
            · refine j_aload_4 dX6_pass_292 ?_
              refine j_iload_9 dX6_pass_294 ?_
              refine j_aload_n_0 dX6_pass_296 ?_
              refine G_X6_35 rfl dX6_pass_297 H.s ?_
              refine j_top (y := nI t) (H.hr.trans E.1) ?_
              refine j_iload_10 dX6_pass_300 ?_
              refine j_iadd dX6_pass_302 ?_
              refine j_iconst (v := nI 0) dX6_pass_303 nc_iconst_0 ?_
              refine j_aload_4 dX6_pass_304 ?_
              refine G_X6_71 rfl dX6_pass_306 (H.ob hj).1 ((H.ob hj).2.2.2 4 (by decide) (by decide)) ?_
              refine j_iload_6 dX6_pass_309 ?_
              refine j_iald dX6_pass_311 (H.rw hj 4 (by decide) (by decide)).1 (H.rw hj 4 (by decide) (by decide)).2.1 (by omega) (by omega) ?_
              refine j_top (y := nI P) (((H.rw hj 4 (by decide) (by decide)).2.2 f hf).trans (hP4 (bz_t h273))) ?_
              refine j_iconst (v := nI 1) dX6_pass_312 nc_iconst_1 ?_
              refine j_iaddN dX6_pass_313 ?_
              refine Q_X6_112 (k' := 3) (z' := 60) (k2 := k - 3) (z2 := 20 * (k - 3)) (P := SQ pl n sh V (s7 A (43 + 10 * j) i (nI t + A (8 + f) i) (nI (P + 1))) N K R j) rfl (by decide) dX6_pass_314 (H.ob hj).1 (Nat.le_of_ble_eq_true rfl) (by have ea : bn a0 = 1 := (by rw [bz_t h273]; rfl); have e8 := rem_s hi2 hf hif; rw [ea, e8] at hk; have e7 : 3 * (1 + bn b) * (rem N f (i + 1) + 1) = 3 * (1 + bn b) * rem N f (i + 1) + 3 * (1 + bn b) := Nat.mul_succ _ _; omega) (by have ea : bn a0 = 1 := (by rw [bz_t h273]; rfl); have e8 := rem_s hi2 hf hif; rw [ea, e8] at hk; have e7 : 3 * (1 + bn b) * (rem N f (i + 1) + 1) = 3 * (1 + bn b) * rem N f (i + 1) + 3 * (1 + bn b) := Nat.mul_succ _ _; omega) (fun _ _ hM' hT' => c_send0P (o := i) (hr := nI t + A (8 + f) i) (m := nI (P + 1)) H hj hi2 (add_ne hok hm ht) (by omega) (by omega) hM' hT') (fun n2 s2 W2 hP2 => ?_)
              obtain ⟨tg2, pl2, H2, hq2, hn2, hlw2⟩ := hP2
              have hPL2 : PL pl2 pl0 j := fun ρ h => (hq2 ρ h).trans (hPL ρ h)
              have hn2 : n0 ≤ n2 := by omega
              have hlow2 : ∀ q, q < 123 → s2 q = sh0 q ∧ W2 q = V0 q := fun q hq => ⟨(hlw2 q hq).1.trans (hlow q hq).1, (hlw2 q hq).2.trans (hlow q hq).2⟩
              have hp02 : pl2 (20 + 10 * j) = p0 := (hq2 _ (by omega)).trans hp0
              rw [hp0, ← hp02]
              refine j_iload_8 dX6_pass_317 ?_
              refine j_if_eq (tgt := 338) dX6_pass_319 (by decide) (fun h319 => ?_) (fun h319 => ?_)
              · refine j_inc1_9 rfl (by decide) dX6_pass_338 ?_
                refine j_goto (tgt := 232) dX6_pass_341 (by decide) ?_
                have e1 : ∀ q, ¬ (43 + 10 * j + 7 ≤ q ∧ q ≤ 43 + 10 * j + 9) → (s7 A (43 + 10 * j) i (nI t + A (8 + f) i) (nI (P + 1))) q = A q := fun q hq => by rw [s7_o (by omega) (by omega)]
                rw [hp02]
                refine ih (i + 1) (s7 A (43 + 10 * j) i (nI t + A (8 + f) i) (nI (P + 1))) _ _ n2 s2 W2 (k - 3) _ (by omega) (by omega) H2 hPL2 hn2 hlow2 hp02 (E.to hN12 hK4 (by rw [e1 0 (by omega)]; exact E.1) (fun q _ h2 => e1 q (by omega))) (fun c => by rw [e1 _ (by omega)]; exact hP4 c) (by rw [e1 _ (by omega)]; exact hy1) ?_ ?_
                · have e8 := rem_s hi2 hf hif
                  have ea : bn a0 = 1 := by rw [bz_t h273]; rfl
                  have eb : bn b = 0 := by rw [bz_f h319]; rfl
                  rw [ea, eb] at hk ⊢
                  omega
                · rw [show N - i = N - (i + 1) + 1 by omega] at hFC
                  rw [← hFC]
                  show _ = loL (43 + 10 * j) f (nI (P + 1)) (nI t) _ b (N - (i + 1)) (i + 1) (lo1 A (43 + 10 * j) f i (nI (P + 1)) (nI t) _ b)
                  rw [lo1_s (by omega) (by omega) hm]
                  have ea : a0 = true := bz_t h273
                  have eb : b = false := bz_f h319
                  have ec : (a0 && decide (P + 1 ≤ y)) = true := by rw [ea, decide_eq_true (by omega)]; rfl
                  rw [ec, eb]
                  rfl
              · refine j_aload_4 dX6_pass_322 ?_
                refine j_iload_9 dX6_pass_324 ?_
                refine j_aload_n_0 dX6_pass_326 ?_
                refine G_X6_35 rfl dX6_pass_327 H2.s ?_
                refine j_top (y := nI t) (H2.hr.trans ((congrFun (s7_o (by omega) (by omega)) 5).trans E.1)) ?_
                refine j_iload_10 dX6_pass_330 ?_
                refine j_iadd dX6_pass_332 ?_
                refine j_iconst (v := nI 1) dX6_pass_333 nc_iconst_1 ?_
                refine j_iconst (v := nI 0) dX6_pass_334 nc_iconst_0 ?_
                refine Q_X6_112 (k' := 3) (z' := 60) (k2 := k - 6) (z2 := 20 * (k - 6)) (P := SQ pl2 n2 s2 W2 (s9 (s7 A (43 + 10 * j) i (nI t + A (8 + f) i) (nI (P + 1))) (43 + 10 * j) i (nI t + A (8 + f) i)) N K R j) rfl (by decide) dX6_pass_335 (H2.ob hj).1 (Nat.le_of_ble_eq_true rfl) (by have ea : bn a0 = 1 := (by rw [bz_t h273]; rfl); have eb : bn b = 1 := (by rw [bz_t h319]; rfl); have e8 := rem_s hi2 hf hif; rw [ea, eb, e8] at hk; omega) (by have ea : bn a0 = 1 := (by rw [bz_t h273]; rfl); have eb : bn b = 1 := (by rw [bz_t h319]; rfl); have e8 := rem_s hi2 hf hif; rw [ea, eb, e8] at hk; omega) (fun _ _ hM' hT' => c_send1P (o := i) (hr := nI t + A (8 + f) i) H2 hj hi2 (add_ne hok hm ht) (by omega) (by omega) hM' hT') (fun n3 s3 W3 hP3 => ?_)
                obtain ⟨tg3, pl3, H3, hq3, hn3, hlw3⟩ := hP3
                have hPL3 : PL pl3 pl0 j := fun ρ h => (hq3 ρ h).trans (hPL2 ρ h)
                have hn3 : n0 ≤ n3 := by omega
                have hlow3 : ∀ q, q < 123 → s3 q = sh0 q ∧ W3 q = V0 q := fun q hq => ⟨(hlw3 q hq).1.trans (hlow2 q hq).1, (hlw3 q hq).2.trans (hlow2 q hq).2⟩
                have hp03 : pl3 (20 + 10 * j) = p0 := (hq3 _ (by omega)).trans hp02
                rw [hp02, ← hp03]
                refine j_inc1_9 rfl (by decide) dX6_pass_338 ?_
                refine j_goto (tgt := 232) dX6_pass_341 (by decide) ?_
                have e1 : ∀ q, ¬ (43 + 10 * j + 7 ≤ q ∧ q ≤ 43 + 10 * j + 9) → (s9 (s7 A (43 + 10 * j) i (nI t + A (8 + f) i) (nI (P + 1))) (43 + 10 * j) i (nI t + A (8 + f) i)) q = A q := fun q hq => by rw [s9_o (by omega), s7_o (by omega) (by omega)]
                rw [hp03]
                refine ih (i + 1) (s9 (s7 A (43 + 10 * j) i (nI t + A (8 + f) i) (nI (P + 1))) (43 + 10 * j) i (nI t + A (8 + f) i)) _ _ n3 s3 W3 (k - 6) _ (by omega) (by omega) H3 hPL3 hn3 hlow3 hp03 (E.to hN12 hK4 (by rw [e1 0 (by omega)]; exact E.1) (fun q _ h2 => e1 q (by omega))) (fun c => by rw [e1 _ (by omega)]; exact hP4 c) (by rw [e1 _ (by omega)]; exact hy1) ?_ ?_
                · have e8 := rem_s hi2 hf hif
                  have ea : bn a0 = 1 := by rw [bz_t h273]; rfl
                  have eb : bn b = 1 := by rw [bz_t h319]; rfl
                  rw [ea, eb] at hk ⊢
                  omega
                · rw [show N - i = N - (i + 1) + 1 by omega] at hFC
                  rw [← hFC]
                  show _ = loL (43 + 10 * j) f (nI (P + 1)) (nI t) _ b (N - (i + 1)) (i + 1) (lo1 A (43 + 10 * j) f i (nI (P + 1)) (nI t) _ b)
                  rw [lo1_s (by omega) (by omega) hm]
                  have ea : a0 = true := bz_t h273
                  have eb : b = true := bz_t h319
                  have ec : (a0 && decide (P + 1 ≤ y)) = true := by rw [ea, decide_eq_true (by omega)]; rfl
                  rw [ec, eb]
                  rfl
        · have hm : A (8 + f) i = -1 := its_m hok (its_1 h265)
          refine j_goto (tgt := 338) dX6_pass_268 (by decide) ?_
          refine j_inc1_9 rfl (by decide) dX6_pass_338 ?_
          refine j_goto (tgt := 232) dX6_pass_341 (by decide) ?_
          rw [hp0]
          refine ih (i + 1) A _ _ n sh V k _ (by omega) (by omega) H hPL hn hlow hp0 E hP4 hy1 ?_ ?_
          · have := rem_le (N := N) (f := f) (i := i)
            have := Nat.mul_le_mul_left (3 * (bn a0 + bn b)) this
            omega
          · rw [show N - i = N - (i + 1) + 1 by omega] at hFC
            rw [← hFC]
            show _ = loL (43 + 10 * j) f (nI (P + 1)) (nI t) _ b (N - (i + 1)) (i + 1) (lo1 A (43 + 10 * j) f i (nI (P + 1)) (nI t) (a0 && decide (P + 1 ≤ y)) b)
            rw [lo1_m (by omega) (by omega) hm]
