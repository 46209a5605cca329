/-! ===== an hour of one rumour, of all, hours ===== -/
theorem loL_f {r f : Nat} {p p' h : Int32} {b : Bool} (hr : 43 ≤ r) (hf : f < 12) (m i : Nat) (C : Nat → Nat → Int32) : loL r f p h false b m i C = loL r f p' h false b m i C := by
  rw [loL_eq hr hf, loL_eq hr hf]
  simp only [Bool.false_eq_true, if_false]
theorem te1_lo {A : Nat → Nat → Int32} {r N f P y t : Nat} (hr : 43 ≤ r) (hf : f < 12) (hP : A (r + 5) f = nI t → A (r + 4) f = nI P) (hP20 : P ≤ 20) (hy : A r 1 = nI y) (hy20 : y ≤ 20) : loL r f (nI (P + 1)) (nI t) (decide (A (r + 5) f = nI t) && decide (P + 1 ≤ y)) (decide (A (r + 6) f = nI t)) N 0 (ck A r f (decide (A (r + 5) f = nI t)) (decide (A (r + 6) f = nI t))) = te1 A r N f (nI t) := by
  rw [te1_eq hr hf]
  by_cases e : A (r + 5) f = nI t
  · have e4 := hP e
    have ec : decide (A (r + 5) f = nI t ∧ A (r + 4) f + nI 1 ≤ A r 1) = (decide (A (r + 5) f = nI t) && decide (P + 1 ≤ y)) := by
      rw [e4, nI_add, hy, decide_eq_true e, Bool.true_and]
      by_cases c : P + 1 ≤ y
      · rw [decide_eq_true c]
        exact decide_eq_true ⟨e, (nI_leI (by omega) (by omega)).mpr c⟩
      · rw [decide_eq_false c]
        exact decide_eq_false (fun d => c ((nI_leI (by omega) (by omega)).mp d.2))
    rw [ec, e4, nI_add]
  · rw [decide_eq_false e, Bool.false_and, decide_eq_false (show ¬ (A (r + 5) f = nI t ∧ A (r + 4) f + nI 1 ≤ A r 1) from fun c => e c.1)]
    exact loL_f hr hf _ _ _
theorem b2n_d {p : Prop} [Decidable p] : b2n p = bn (decide p) := by
  unfold b2n bn
  by_cases h : p
  · rw [if_pos h, if_pos (decide_eq_true h)]
  · rw [if_neg h, if_neg (by rw [decide_eq_false h]; decide)]
theorem rem_0 {N f : Nat} (hN : N ≤ 12) : rem N f 0 ≤ 11 := by
  unfold rem
  rw [if_pos (Nat.zero_le _)]
  omega
theorem sm_37 {C : Nat → Nat → Int32} {r N : Nat} {h : Int32} (hr : 4 ≤ r) (hh : ¬ h = -1) : (any7 C r N h → 3 + Fi (hrV r h N 0 C) r N ≤ Fi C r N) ∧ (any9 C r N h → 3 + Fi (hrV r h N 0 C) r N ≤ Fi C r N) ∧ (any7 C r N h → any9 C r N h → 6 + Fi (hrV r h N 0 C) r N ≤ Fi C r N) ∧ Fi (hrV r h N 0 C) r N ≤ Fi C r N := by
  have h1 := Fi_hr (C := C) (r := r) (N := N) hr hh
  rw [sm_add] at h1
  have h7 : any7 C r N h → 3 ≤ sm (fun f => if C (r + 7) f = h then 3 else 0) N := fun ⟨f, hf, e⟩ => sm_one (f := f) N hf (by show 3 ≤ (if C (r + 7) f = h then 3 else 0); rw [if_pos e]; exact Nat.le_refl _)
  have h9 : any9 C r N h → 3 ≤ sm (fun f => if C (r + 9) f = h then 3 else 0) N := fun ⟨f, hf, e⟩ => sm_one (f := f) N hf (by show 3 ≤ (if C (r + 9) f = h then 3 else 0); rw [if_pos e]; exact Nat.le_refl _)
  exact ⟨fun a => by have := h7 a; omega, fun a => by have := h9 a; omega, fun a b => by have := h7 a; have := h9 b; omega, by omega⟩

set_option maxHeartbeats 4000000 in
set_option maxRecDepth 100000 in
theorem c_pT {g : jv_G} {X : jv_X} {L : Nat → Nat → Int64} {N K R : Nat} {j y t0 f0 t : Nat} (hj : j < R) (hy : y ≤ 20) (h0t : t0 ≤ t) (ht : t < 2 ^ 30) (hN12 : N ≤ 12) (hK4 : K ≤ 4) {p8 p0 n0 k2 : Nat} {pl0 : Nat → Nat} {sh0 : Nat → jv_S} {V0 FC : Nat → Nat → Int32} (hp00 : pl0 (20 + 10 * j) = p0) (kk : ∀ tg1 pl1 n1 s1 V1 v4 v5 v6 v7 v8 v9 v10, REP tg1 pl1 n1 s1 V1 FC N K R → PL pl1 pl0 j → n0 ≤ n1 → (∀ q, q < 123 → s1 q = sh0 q ∧ V1 q = V0 q) → jv_J g X I_X6_pass 350 [some (jv_r g 123), some (jv_r g p8), some (.int (nI R)), some (.int (nI j)), v4, v5, v6, v7, v8, v9, v10] [] n1 s1 V1 L k2 (20 * k2)) : ∀ (m : Nat) (f : Nat) (A : (Nat → Nat → Int32)) (tg pl : Nat → Nat) (n : Nat) (sh : Nat → jv_S) (V : (Nat → Nat → Int32)) (k : Nat) (v7 v8 v9 v10 : Option Value), f ≤ N → N + 1 ≤ f + m → REP tg pl n sh V A N K R → PL pl pl0 j → n0 ≤ n → (∀ q, q < 123 → sh q = sh0 q ∧ V q = V0 q) → pl (20 + 10 * j) = p0 → RT A (43 + 10 * j) N t y t0 f0 f → CE A N K t → A (43 + 10 * j) 1 = nI y → k2 + Fi A (43 + 10 * j) N ≤ k + Fi FC (43 + 10 * j) N → teL (43 + 10 * j) N (nI t) (N - f) f A = FC → jv_J g X I_X6_pass 150 [some (jv_r g 123), some (jv_r g p8), some (.int (nI R)), some (.int (nI j)), some (jv_r g p0), some (.int (nI N)), some (.int (nI f)), v7, v8, v9, v10] [] n sh V L k (20 * k) := by
  intro m
  induction m with
  | zero => intro f A tg pl n sh V k v7 v8 v9 v10 hfN hm2 H hPL hn hlow hp0 HT E h1 hk hFC; omega
  | succ m ih =>
  intro f A tg pl n sh V k v7 v8 v9 v10 hfN hm2 H hPL hn hlow hp0 HT E h1 hk hFC
  rw [← hp0]
  refine j_iload_6 dX6_pass_150 ?_
  refine j_iload_5 dX6_pass_152 ?_
  refine j_ic_geN (by omega) (by omega) (tgt := 350) dX6_pass_154 (by decide) (fun h154 => ?_) (fun h154 => ?_)
  · obtain rfl : f = N := by omega
    rw [Nat.sub_self] at hFC
    have hFC' : A = FC := hFC
    subst hFC'
    rw [hp0]
    exact jv_less (by omega) (by omega) (kk _ _ n sh V _ _ _ _ _ _ _ H hPL hn hlow)
  · have hf : f < N := by omega
    refine j_aload_4 dX6_pass_157 ?_
    refine G_X6_74 rfl dX6_pass_159 (H.ob hj).1 ((H.ob hj).2.2.2 5 (by decide) (by decide)) ?_
    refine j_iload_6 dX6_pass_162 ?_
    refine j_iald dX6_pass_164 (H.rw hj 5 (by decide) (by decide)).1 (H.rw hj 5 (by decide) (by decide)).2.1 (by omega) (by omega) ?_
    refine j_top (y := A (43 + 10 * j + 5) f) ((H.rw hj 5 (by decide) (by decide)).2.2 f hf) ?_
    refine j_aload_n_0 dX6_pass_165 ?_
    refine G_X6_35 rfl dX6_pass_166 H.s ?_
    refine j_top (y := nI t) (H.hr.trans E.1) ?_
    refine j_ic_ne (tgt := 176) dX6_pass_169 (by decide) (fun h169 => ?_) (fun h169 => ?_)
    · refine j_iconst (v := nI 0) dX6_pass_176 nc_iconst_0 ?_
      refine j_top (y := bz (decide (A (43 + 10 * j + 5) f = nI t))) (bz_nI (decide_eq_false h169)) ?_
      refine j_istore_7 rfl (by decide) dX6_pass_177 ?_
      refine j_aload_4 dX6_pass_179 ?_
      refine G_X6_80 rfl dX6_pass_181 (H.ob hj).1 ((H.ob hj).2.2.2 6 (by decide) (by decide)) ?_
      refine j_iload_6 dX6_pass_184 ?_
      refine j_iald dX6_pass_186 (H.rw hj 6 (by decide) (by decide)).1 (H.rw hj 6 (by decide) (by decide)).2.1 (by omega) (by omega) ?_
      refine j_top (y := A (43 + 10 * j + 6) f) ((H.rw hj 6 (by decide) (by decide)).2.2 f hf) ?_
      refine j_aload_n_0 dX6_pass_187 ?_
      refine G_X6_35 rfl dX6_pass_188 H.s ?_
      refine j_top (y := nI t) (H.hr.trans E.1) ?_
      refine j_ic_ne (tgt := 198) dX6_pass_191 (by decide) (fun h191 => ?_) (fun h191 => ?_)
      · refine j_iconst (v := nI 0) dX6_pass_198 nc_iconst_0 ?_
        refine j_top (y := bz (decide (A (43 + 10 * j + 6) f = nI t))) (bz_nI (decide_eq_false h191)) ?_
        refine j_istore_8 rfl (by decide) dX6_pass_199 ?_
        refine j_iload_7 dX6_pass_201 ?_
        refine j_if_eq (tgt := 215) dX6_pass_203 (by decide) (fun h203 => ?_) (fun h203 => ?_)
        · refine j_iload_8 dX6_pass_215 ?_
          refine j_if_eq (tgt := 229) dX6_pass_217 (by decide) (fun h217 => ?_) (fun h217 => ?_)
          · refine j_iconst (v := nI 0) dX6_pass_229 nc_iconst_0 ?_
            refine j_istore_9 rfl (by decide) dX6_pass_230 ?_
            have fa := bz_f h203
            have fb := bz_f h217
            have Hc : REP tg pl n sh V (ck A (43 + 10 * j) f (decide (A (43 + 10 * j + 5) f = nI t)) (decide (A (43 + 10 * j + 6) f = nI t))) N K R := by
              rw [fa, fb]
              exact H
            obtain ⟨P, hP, hP20⟩ : ∃ P, (A (43 + 10 * j + 5) f = nI t → A (43 + 10 * j + 4) f = nI P) ∧ P ≤ 20 := by
              by_cases e : A (43 + 10 * j + 5) f = nI t
              · obtain ⟨b1, b2, b3, b4, b5, b6, b7, b8, b9, b10, b11⟩ := HT f hf
                have c1 := (b10.resolve_left (fun d => m1n (by omega) (e.symm.trans d))).1
                obtain ⟨a', p, d1, d2, d3, d4, -⟩ := b6.resolve_left (fun d => b3 c1 d.1)
                exact ⟨p, fun _ => d2, by omega⟩
              · exact ⟨0, fun c => absurd c e, by omega⟩
            have hte := Fi_te HT (by omega) hN12 hf E ht
            have hcO : ∀ q, q < 43 → ck A (43 + 10 * j) f (decide (A (43 + 10 * j + 5) f = nI t)) (decide (A (43 + 10 * j + 6) f = nI t)) q = A q := fun q hq => ck_o (by omega) (by omega)
            have hFm : Fi FC (43 + 10 * j) N ≤ Fi (te1 A (43 + 10 * j) N f (nI t)) (43 + 10 * j) N := by
              rw [← hFC, show N - f = N - (f + 1) + 1 by omega]
              exact (RT.tel (by omega) hN12 hK4 hy h0t ht (N - (f + 1)) (f + 1) _ (by omega) (HT.te (by omega) hN12 hf E h1 hy h0t ht) (E.te (by omega) hN12 hK4) (by rw [te1_out (Or.inl (by omega))]; exact h1)).2
            rw [b2n_d, b2n_d] at hte
            have hr0 := rem_0 (N := N) (f := f) hN12
            have hr1 := Nat.mul_le_mul_left (3 * (bn (decide (A (43 + 10 * j + 5) f = nI t)) + bn (decide (A (43 + 10 * j + 6) f = nI t)))) hr0
            rw [hp0]
            refine c_pO (P := P) (y := y) (t := t) hj hf hP20 hy ht hN12 hK4 (p8 := p8) (p0 := p0) (n0 := n0) (k2 := k - 33 * (bn (decide (A (43 + 10 * j + 5) f = nI t)) + bn (decide (A (43 + 10 * j + 6) f = nI t)))) (pl0 := pl0) (sh0 := sh0) (V0 := V0) (FC := te1 A (43 + 10 * j) N f (nI t)) ?_ (N + 1) 0 _ tg pl n sh _ k _ (by omega) (by omega) Hc hPL hn hlow hp0 (E.to hN12 hK4 (by rw [hcO 0 (by omega)]; exact E.1) (fun q _ h2 => hcO q (by omega))) (fun c => by rw [ck_o (by omega) (by omega)]; exact hP (of_decide_eq_true c)) (by rw [ck_o (by omega) (by omega)]; exact h1) (by omega) (te1_lo (by omega) (by omega) hP hP20 h1 hy)
            intro tg1 pl1 n1 s1 V1 v9 v10 H3 hPL3 hn3 hlow3
            refine j_inc1_6 rfl (by decide) dX6_pass_344 ?_
            refine j_goto (tgt := 150) dX6_pass_347 (by decide) ?_
            refine ih (f + 1) _ tg1 pl1 n1 s1 V1 _ _ _ _ _ (by omega) (by omega) H3 hPL3 hn3 hlow3 ((hPL3 _ (by omega)).trans hp00) (HT.te (by omega) hN12 hf E h1 hy h0t ht) (E.te (by omega) hN12 hK4) (by rw [te1_out (Or.inl (by omega))]; exact h1) (by omega) ?_
            rw [show N - f = N - (f + 1) + 1 by omega] at hFC
            exact hFC
          · exact absurd (bz_t h217) (by rw [decide_eq_false h191]; decide)
        · exact absurd (bz_t h203) (by rw [decide_eq_false h169]; decide)
      · refine j_iconst (v := nI 1) dX6_pass_194 nc_iconst_1 ?_
        refine j_top (y := bz (decide (A (43 + 10 * j + 6) f = nI t))) (bz_nI1 (decide_eq_true h191)) ?_
        refine j_goto (tgt := 199) dX6_pass_195 (by decide) ?_
        refine j_istore_8 rfl (by decide) dX6_pass_199 ?_
        refine j_iload_7 dX6_pass_201 ?_
        refine j_if_eq (tgt := 215) dX6_pass_203 (by decide) (fun h203 => ?_) (fun h203 => ?_)
        · refine j_iload_8 dX6_pass_215 ?_
          refine j_if_eq (tgt := 229) dX6_pass_217 (by decide) (fun h217 => ?_) (fun h217 => ?_)
          · exact absurd (bz_f h217) (by rw [decide_eq_true h191]; decide)
          · refine j_aload_4 dX6_pass_220 ?_
            refine G_X6_80 rfl dX6_pass_222 (H.ob hj).1 ((H.ob hj).2.2.2 6 (by decide) (by decide)) ?_
            refine j_iload_6 dX6_pass_225 ?_
            refine j_iconst (v := -1) dX6_pass_227 nc_iconst_m1 ?_
            refine j_iast dX6_pass_228 (H.rw hj 6 (by decide) (by decide)).1 (H.rw hj 6 (by decide) (by decide)).2.1 (by omega) (by omega) ?_
            have H2 := H.w (o := 6) (f := f) (x := -1) hj (by decide) (by decide)
            refine j_iconst (v := nI 0) dX6_pass_229 nc_iconst_0 ?_
            refine j_istore_9 rfl (by decide) dX6_pass_230 ?_
            have fa := bz_f h203
            have fb := bz_t h217
            have Hc : REP tg pl n sh (jv_U V (pl (20 + 10 * j + 6)) f (-1)) (ck A (43 + 10 * j) f (decide (A (43 + 10 * j + 5) f = nI t)) (decide (A (43 + 10 * j + 6) f = nI t))) N K R := by
              rw [fa, fb]
              exact H2
            obtain ⟨P, hP, hP20⟩ : ∃ P, (A (43 + 10 * j + 5) f = nI t → A (43 + 10 * j + 4) f = nI P) ∧ P ≤ 20 := by
              by_cases e : A (43 + 10 * j + 5) f = nI t
              · obtain ⟨b1, b2, b3, b4, b5, b6, b7, b8, b9, b10, b11⟩ := HT f hf
                have c1 := (b10.resolve_left (fun d => m1n (by omega) (e.symm.trans d))).1
                obtain ⟨a', p, d1, d2, d3, d4, -⟩ := b6.resolve_left (fun d => b3 c1 d.1)
                exact ⟨p, fun _ => d2, by omega⟩
              · exact ⟨0, fun c => absurd c e, by omega⟩
            have hte := Fi_te HT (by omega) hN12 hf E ht
            have hcO : ∀ q, q < 43 → ck A (43 + 10 * j) f (decide (A (43 + 10 * j + 5) f = nI t)) (decide (A (43 + 10 * j + 6) f = nI t)) q = A q := fun q hq => ck_o (by omega) (by omega)
            have hFm : Fi FC (43 + 10 * j) N ≤ Fi (te1 A (43 + 10 * j) N f (nI t)) (43 + 10 * j) N := by
              rw [← hFC, show N - f = N - (f + 1) + 1 by omega]
              exact (RT.tel (by omega) hN12 hK4 hy h0t ht (N - (f + 1)) (f + 1) _ (by omega) (HT.te (by omega) hN12 hf E h1 hy h0t ht) (E.te (by omega) hN12 hK4) (by rw [te1_out (Or.inl (by omega))]; exact h1)).2
            rw [b2n_d, b2n_d] at hte
            have hr0 := rem_0 (N := N) (f := f) hN12
            have hr1 := Nat.mul_le_mul_left (3 * (bn (decide (A (43 + 10 * j + 5) f = nI t)) + bn (decide (A (43 + 10 * j + 6) f = nI t)))) hr0
            rw [hp0]
            refine c_pO (P := P) (y := y) (t := t) hj hf hP20 hy ht hN12 hK4 (p8 := p8) (p0 := p0) (n0 := n0) (k2 := k - 33 * (bn (decide (A (43 + 10 * j + 5) f = nI t)) + bn (decide (A (43 + 10 * j + 6) f = nI t)))) (pl0 := pl0) (sh0 := sh0) (V0 := V0) (FC := te1 A (43 + 10 * j) N f (nI t)) ?_ (N + 1) 0 _ tg pl n sh _ k _ (by omega) (by omega) Hc hPL hn (fun q hq => ⟨(hlow q hq).1, by rw [jv_U_other (by have := H.ge (used.o (K := K) hj (o := 6) (by decide)); omega)]; exact (hlow q hq).2⟩) hp0 (E.to hN12 hK4 (by rw [hcO 0 (by omega)]; exact E.1) (fun q _ h2 => hcO q (by omega))) (fun c => by rw [ck_o (by omega) (by omega)]; exact hP (of_decide_eq_true c)) (by rw [ck_o (by omega) (by omega)]; exact h1) (by omega) (te1_lo (by omega) (by omega) hP hP20 h1 hy)
            intro tg1 pl1 n1 s1 V1 v9 v10 H3 hPL3 hn3 hlow3
            refine j_inc1_6 rfl (by decide) dX6_pass_344 ?_
            refine j_goto (tgt := 150) dX6_pass_347 (by decide) ?_
            refine ih (f + 1) _ tg1 pl1 n1 s1 V1 _ _ _ _ _ (by omega) (by omega) H3 hPL3 hn3 hlow3 ((hPL3 _ (by omega)).trans hp00) (HT.te (by omega) hN12 hf E h1 hy h0t ht) (E.te (by omega) hN12 hK4) (by rw [te1_out (Or.inl (by omega))]; exact h1) (by omega) ?_
            rw [show N - f = N - (f + 1) + 1 by omega] at hFC
            exact hFC
        · exact absurd (bz_t h203) (by rw [decide_eq_false h169]; decide)
    · refine j_iconst (v := nI 1) dX6_pass_172 nc_iconst_1 ?_
      refine j_top (y := bz (decide (A (43 + 10 * j + 5) f = nI t))) (bz_nI1 (decide_eq_true h169)) ?_
      refine j_goto (tgt := 177) dX6_pass_173 (by decide) ?_
      refine j_istore_7 rfl (by decide) dX6_pass_177 ?_
      refine j_aload_4 dX6_pass_179 ?_
      refine G_X6_80 rfl dX6_pass_181 (H.ob hj).1 ((H.ob hj).2.2.2 6 (by decide) (by decide)) ?_
      refine j_iload_6 dX6_pass_184 ?_
      refine j_iald dX6_pass_186 (H.rw hj 6 (by decide) (by decide)).1 (H.rw hj 6 (by decide) (by decide)).2.1 (by omega) (by omega) ?_
      refine j_top (y := A (43 + 10 * j + 6) f) ((H.rw hj 6 (by decide) (by decide)).2.2 f hf) ?_
      refine j_aload_n_0 dX6_pass_187 ?_
      refine G_X6_35 rfl dX6_pass_188 H.s ?_
      refine j_top (y := nI t) (H.hr.trans E.1) ?_
      refine j_ic_ne (tgt := 198) dX6_pass_191 (by decide) (fun h191 => ?_) (fun h191 => ?_)
      · refine j_iconst (v := nI 0) dX6_pass_198 nc_iconst_0 ?_
        refine j_top (y := bz (decide (A (43 + 10 * j + 6) f = nI t))) (bz_nI (decide_eq_false h191)) ?_
        refine j_istore_8 rfl (by decide) dX6_pass_199 ?_
        refine j_iload_7 dX6_pass_201 ?_
        refine j_if_eq (tgt := 215) dX6_pass_203 (by decide) (fun h203 => ?_) (fun h203 => ?_)
        · exact absurd (bz_f h203) (by rw [decide_eq_true h169]; decide)
        · refine j_aload_4 dX6_pass_206 ?_
          refine G_X6_74 rfl dX6_pass_208 (H.ob hj).1 ((H.ob hj).2.2.2 5 (by decide) (by decide)) ?_
          refine j_iload_6 dX6_pass_211 ?_
          refine j_iconst (v := -1) dX6_pass_213 nc_iconst_m1 ?_
          refine j_iast dX6_pass_214 (H.rw hj 5 (by decide) (by decide)).1 (H.rw hj 5 (by decide) (by decide)).2.1 (by omega) (by omega) ?_
          have H1 := H.w (o := 5) (f := f) (x := -1) hj (by decide) (by decide)
          refine j_iload_8 dX6_pass_215 ?_
          refine j_if_eq (tgt := 229) dX6_pass_217 (by decide) (fun h217 => ?_) (fun h217 => ?_)
          · refine j_iconst (v := nI 0) dX6_pass_229 nc_iconst_0 ?_
            refine j_istore_9 rfl (by decide) dX6_pass_230 ?_
            have fa := bz_t h203
            have fb := bz_f h217
            have Hc : REP tg pl n sh (jv_U V (pl (20 + 10 * j + 5)) f (-1)) (ck A (43 + 10 * j) f (decide (A (43 + 10 * j + 5) f = nI t)) (decide (A (43 + 10 * j + 6) f = nI t))) N K R := by
              rw [fa, fb]
              exact H1
            obtain ⟨P, hP, hP20⟩ : ∃ P, (A (43 + 10 * j + 5) f = nI t → A (43 + 10 * j + 4) f = nI P) ∧ P ≤ 20 := by
              by_cases e : A (43 + 10 * j + 5) f = nI t
              · obtain ⟨b1, b2, b3, b4, b5, b6, b7, b8, b9, b10, b11⟩ := HT f hf
                have c1 := (b10.resolve_left (fun d => m1n (by omega) (e.symm.trans d))).1
                obtain ⟨a', p, d1, d2, d3, d4, -⟩ := b6.resolve_left (fun d => b3 c1 d.1)
                exact ⟨p, fun _ => d2, by omega⟩
              · exact ⟨0, fun c => absurd c e, by omega⟩
            have hte := Fi_te HT (by omega) hN12 hf E ht
            have hcO : ∀ q, q < 43 → ck A (43 + 10 * j) f (decide (A (43 + 10 * j + 5) f = nI t)) (decide (A (43 + 10 * j + 6) f = nI t)) q = A q := fun q hq => ck_o (by omega) (by omega)
            have hFm : Fi FC (43 + 10 * j) N ≤ Fi (te1 A (43 + 10 * j) N f (nI t)) (43 + 10 * j) N := by
              rw [← hFC, show N - f = N - (f + 1) + 1 by omega]
              exact (RT.tel (by omega) hN12 hK4 hy h0t ht (N - (f + 1)) (f + 1) _ (by omega) (HT.te (by omega) hN12 hf E h1 hy h0t ht) (E.te (by omega) hN12 hK4) (by rw [te1_out (Or.inl (by omega))]; exact h1)).2
            rw [b2n_d, b2n_d] at hte
            have hr0 := rem_0 (N := N) (f := f) hN12
            have hr1 := Nat.mul_le_mul_left (3 * (bn (decide (A (43 + 10 * j + 5) f = nI t)) + bn (decide (A (43 + 10 * j + 6) f = nI t)))) hr0
            rw [hp0]
            refine c_pO (P := P) (y := y) (t := t) hj hf hP20 hy ht hN12 hK4 (p8 := p8) (p0 := p0) (n0 := n0) (k2 := k - 33 * (bn (decide (A (43 + 10 * j + 5) f = nI t)) + bn (decide (A (43 + 10 * j + 6) f = nI t)))) (pl0 := pl0) (sh0 := sh0) (V0 := V0) (FC := te1 A (43 + 10 * j) N f (nI t)) ?_ (N + 1) 0 _ tg pl n sh _ k _ (by omega) (by omega) Hc hPL hn (fun q hq => ⟨(hlow q hq).1, by rw [jv_U_other (by have := H.ge (used.o (K := K) hj (o := 5) (by decide)); omega)]; exact (hlow q hq).2⟩) hp0 (E.to hN12 hK4 (by rw [hcO 0 (by omega)]; exact E.1) (fun q _ h2 => hcO q (by omega))) (fun c => by rw [ck_o (by omega) (by omega)]; exact hP (of_decide_eq_true c)) (by rw [ck_o (by omega) (by omega)]; exact h1) (by omega) (te1_lo (by omega) (by omega) hP hP20 h1 hy)
            intro tg1 pl1 n1 s1 V1 v9 v10 H3 hPL3 hn3 hlow3
            refine j_inc1_6 rfl (by decide) dX6_pass_344 ?_
            refine j_goto (tgt := 150) dX6_pass_347 (by decide) ?_
            refine ih (f + 1) _ tg1 pl1 n1 s1 V1 _ _ _ _ _ (by omega) (by omega) H3 hPL3 hn3 hlow3 ((hPL3 _ (by omega)).trans hp00) (HT.te (by omega) hN12 hf E h1 hy h0t ht) (E.te (by omega) hN12 hK4) (by rw [te1_out (Or.inl (by omega))]; exact h1) (by omega) ?_
            rw [show N - f = N - (f + 1) + 1 by omega] at hFC
            exact hFC
          · exact absurd (bz_t h217) (by rw [decide_eq_false h191]; decide)
      · refine j_iconst (v := nI 1) dX6_pass_194 nc_iconst_1 ?_
        refine j_top (y := bz (decide (A (43 + 10 * j + 6) f = nI t))) (bz_nI1 (decide_eq_true h191)) ?_
        refine j_goto (tgt := 199) dX6_pass_195 (by decide) ?_
        refine j_istore_8 rfl (by decide) dX6_pass_199 ?_
        refine j_iload_7 dX6_pass_201 ?_
        refine j_if_eq (tgt := 215) dX6_pass_203 (by decide) (fun h203 => ?_) (fun h203 => ?_)
        · exact absurd (bz_f h203) (by rw [decide_eq_true h169]; decide)
        · refine j_aload_4 dX6_pass_206 ?_
          refine G_X6_74 rfl dX6_pass_208 (H.ob hj).1 ((H.ob hj).2.2.2 5 (by decide) (by decide)) ?_
          refine j_iload_6 dX6_pass_211 ?_
          refine j_iconst (v := -1) dX6_pass_213 nc_iconst_m1 ?_
          refine j_iast dX6_pass_214 (H.rw hj 5 (by decide) (by decide)).1 (H.rw hj 5 (by decide) (by decide)).2.1 (by omega) (by omega) ?_
          have H1 := H.w (o := 5) (f := f) (x := -1) hj (by decide) (by decide)
          refine j_iload_8 dX6_pass_215 ?_
          refine j_if_eq (tgt := 229) dX6_pass_217 (by decide) (fun h217 => ?_) (fun h217 => ?_)
          · exact absurd (bz_f h217) (by rw [decide_eq_true h191]; decide)
          · refine j_aload_4 dX6_pass_220 ?_
            refine G_X6_80 rfl dX6_pass_222 (H1.ob hj).1 ((H1.ob hj).2.2.2 6 (by decide) (by decide)) ?_
            refine j_iload_6 dX6_pass_225 ?_
            refine j_iconst (v := -1) dX6_pass_227 nc_iconst_m1 ?_
            refine j_iast dX6_pass_228 (H1.rw hj 6 (by decide) (by decide)).1 (H1.rw hj 6 (by decide) (by decide)).2.1 (by omega) (by omega) ?_
            have H2 := H1.w (o := 6) (f := f) (x := -1) hj (by decide) (by decide)
            refine j_iconst (v := nI 0) dX6_pass_229 nc_iconst_0 ?_
            refine j_istore_9 rfl (by decide) dX6_pass_230 ?_
            have fa := bz_t h203
            have fb := bz_t h217
            have Hc : REP tg pl n sh (jv_U (jv_U V (pl (20 + 10 * j + 5)) f (-1)) (pl (20 + 10 * j + 6)) f (-1)) (ck A (43 + 10 * j) f (decide (A (43 + 10 * j + 5) f = nI t)) (decide (A (43 + 10 * j + 6) f = nI t))) N K R := by
              rw [fa, fb]
              exact H2
            obtain ⟨P, hP, hP20⟩ : ∃ P, (A (43 + 10 * j + 5) f = nI t → A (43 + 10 * j + 4) f = nI P) ∧ P ≤ 20 := by
              by_cases e : A (43 + 10 * j + 5) f = nI t
              · obtain ⟨b1, b2, b3, b4, b5, b6, b7, b8, b9, b10, b11⟩ := HT f hf
                have c1 := (b10.resolve_left (fun d => m1n (by omega) (e.symm.trans d))).1
                obtain ⟨a', p, d1, d2, d3, d4, -⟩ := b6.resolve_left (fun d => b3 c1 d.1)
                exact ⟨p, fun _ => d2, by omega⟩
              · exact ⟨0, fun c => absurd c e, by omega⟩
            have hte := Fi_te HT (by omega) hN12 hf E ht
            have hcO : ∀ q, q < 43 → ck A (43 + 10 * j) f (decide (A (43 + 10 * j + 5) f = nI t)) (decide (A (43 + 10 * j + 6) f = nI t)) q = A q := fun q hq => ck_o (by omega) (by omega)
            have hFm : Fi FC (43 + 10 * j) N ≤ Fi (te1 A (43 + 10 * j) N f (nI t)) (43 + 10 * j) N := by
              rw [← hFC, show N - f = N - (f + 1) + 1 by omega]
              exact (RT.tel (by omega) hN12 hK4 hy h0t ht (N - (f + 1)) (f + 1) _ (by omega) (HT.te (by omega) hN12 hf E h1 hy h0t ht) (E.te (by omega) hN12 hK4) (by rw [te1_out (Or.inl (by omega))]; exact h1)).2
            rw [b2n_d, b2n_d] at hte
            have hr0 := rem_0 (N := N) (f := f) hN12
            have hr1 := Nat.mul_le_mul_left (3 * (bn (decide (A (43 + 10 * j + 5) f = nI t)) + bn (decide (A (43 + 10 * j + 6) f = nI t)))) hr0
            rw [hp0]
            refine c_pO (P := P) (y := y) (t := t) hj hf hP20 hy ht hN12 hK4 (p8 := p8) (p0 := p0) (n0 := n0) (k2 := k - 33 * (bn (decide (A (43 + 10 * j + 5) f = nI t)) + bn (decide (A (43 + 10 * j + 6) f = nI t)))) (pl0 := pl0) (sh0 := sh0) (V0 := V0) (FC := te1 A (43 + 10 * j) N f (nI t)) ?_ (N + 1) 0 _ tg pl n sh _ k _ (by omega) (by omega) Hc hPL hn (fun q hq => ⟨(hlow q hq).1, by rw [jv_U_other (by have := H.ge (used.o (K := K) hj (o := 6) (by decide)); omega), jv_U_other (by have := H.ge (used.o (K := K) hj (o := 5) (by decide)); omega)]; exact (hlow q hq).2⟩) hp0 (E.to hN12 hK4 (by rw [hcO 0 (by omega)]; exact E.1) (fun q _ h2 => hcO q (by omega))) (fun c => by rw [ck_o (by omega) (by omega)]; exact hP (of_decide_eq_true c)) (by rw [ck_o (by omega) (by omega)]; exact h1) (by omega) (te1_lo (by omega) (by omega) hP hP20 h1 hy)
            intro tg1 pl1 n1 s1 V1 v9 v10 H3 hPL3 hn3 hlow3
            refine j_inc1_6 rfl (by decide) dX6_pass_344 ?_
            refine j_goto (tgt := 150) dX6_pass_347 (by decide) ?_
            refine ih (f + 1) _ tg1 pl1 n1 s1 V1 _ _ _ _ _ (by omega) (by omega) H3 hPL3 hn3 hlow3 ((hPL3 _ (by omega)).trans hp00) (HT.te (by omega) hN12 hf E h1 hy h0t ht) (E.te (by omega) hN12 hK4) (by rw [te1_out (Or.inl (by omega))]; exact h1) (by omega) ?_
            rw [show N - f = N - (f + 1) + 1 by omega] at hFC
            exact hFC

set_option maxHeartbeats 4000000 in
set_option maxRecDepth 100000 in
theorem c_p147 {g : jv_G} {X : jv_X} {L : Nat → Nat → Int64} {N K R : Nat} {j t : Nat} (hj : j < R) (ht : t < 2 ^ 30) {p8 p0 n0 k2 : Nat} {pl0 : Nat → Nat} {sh0 : Nat → jv_S} {V0 FC C : Nat → Nat → Int32} {tg pl : Nat → Nat} {n : Nat} {sh : Nat → jv_S} {V : Nat → Nat → Int32} {k : Nat} (H : REP tg pl n sh V (hrV (43 + 10 * j) (nI t) N 0 C) N K R) (hPL : PL pl pl0 j) (hn : n0 ≤ n) (hlow : (∀ q, q < 123 → sh q = sh0 q ∧ V q = V0 q)) (hp00 : pl0 (20 + 10 * j) = p0) (E : CE C N K t) (HI : RI C (43 + 10 * j) N t) (hFC : phV C (43 + 10 * j) N (nI t) = FC) (hk : k2 + Fi (hrV (43 + 10 * j) (nI t) N 0 C) (43 + 10 * j) N ≤ k + Fi FC (43 + 10 * j) N) (kk : ∀ tg1 pl1 n1 s1 V1 v4 v5 v6 v7 v8 v9 v10, REP tg1 pl1 n1 s1 V1 FC N K R → PL pl1 pl0 j → n0 ≤ n1 → (∀ q, q < 123 → s1 q = sh0 q ∧ V1 q = V0 q) → jv_J g X I_X6_pass 350 [some (jv_r g 123), some (jv_r g p8), some (.int (nI R)), some (.int (nI j)), v4, v5, v6, v7, v8, v9, v10] [] n1 s1 V1 L k2 (20 * k2)) {v6 v7 v8 v9 v10 : Option Value} : jv_J g X I_X6_pass 147 [some (jv_r g 123), some (jv_r g p8), some (.int (nI R)), some (.int (nI j)), some (jv_r g p0), some (.int (nI N)), v6, v7, v8, v9, v10] [] n sh V L k (20 * k) := by
  have hN12 := H.N12
  have hK4 := H.K4
  obtain ⟨y, t0, f0, h0, h1, h2, h3, h4, h5, h6⟩ := HI.hr (by omega) hN12 E ht
  refine j_iconst (v := nI 0) dX6_pass_147 nc_iconst_0 ?_
  refine j_istore_6 rfl (by decide) dX6_pass_148 ?_
  exact c_pT hj h4 h5 ht hN12 hK4 hp00 kk (N + 1) 0 _ tg pl n sh V k _ _ _ _ (by omega) (by omega) H hPL hn hlow ((hPL _ (by omega)).trans hp00) h6 (E.hr (by omega) hN12 hK4) h2 hk hFC

set_option maxHeartbeats 4000000 in
set_option maxRecDepth 100000 in
theorem c_p90 {g : jv_G} {X : jv_X} {L : Nat → Nat → Int64} {N K R : Nat} {j t : Nat} (hj : j < R) (ht : t < 2 ^ 30) {p8 p0 n0 k2 : Nat} {pl0 : Nat → Nat} {sh0 : Nat → jv_S} {V0 FC C : Nat → Nat → Int32} {tg pl : Nat → Nat} {n : Nat} {sh : Nat → jv_S} {V : Nat → Nat → Int32} {k : Nat} (H : REP tg pl n sh V (hRL (43 + 10 * j) (nI t) N 0 C) N K R) (hPL : PL pl pl0 j) (hn : n0 ≤ n) (hlow : (∀ q, q < 123 → sh q = sh0 q ∧ V q = V0 q)) (hp00 : pl0 (20 + 10 * j) = p0) (E : CE C N K t) (HI : RI C (43 + 10 * j) N t) (hFC : phV C (43 + 10 * j) N (nI t) = FC) (hp8 : pl 8 = p8) (hFm : Fi FC (43 + 10 * j) N ≤ Fi (hrV (43 + 10 * j) (nI t) N 0 C) (43 + 10 * j) N) (hk0 : k2 + Fi (hrV (43 + 10 * j) (nI t) N 0 C) (43 + 10 * j) N ≤ k + Fi FC (43 + 10 * j) N) (hk9 : any9 (hRL (43 + 10 * j) (nI t) N 0 C) (43 + 10 * j) N (nI t) → k2 + 3 + Fi (hrV (43 + 10 * j) (nI t) N 0 C) (43 + 10 * j) N ≤ k + Fi FC (43 + 10 * j) N) (kk : ∀ tg1 pl1 n1 s1 V1 v4 v5 v6 v7 v8 v9 v10, REP tg1 pl1 n1 s1 V1 FC N K R → PL pl1 pl0 j → n0 ≤ n1 → (∀ q, q < 123 → s1 q = sh0 q ∧ V1 q = V0 q) → jv_J g X I_X6_pass 350 [some (jv_r g 123), some (jv_r g p8), some (.int (nI R)), some (.int (nI j)), v4, v5, v6, v7, v8, v9, v10] [] n1 s1 V1 L k2 (20 * k2)) {v6 v7 v8 v9 v10 : Option Value} : jv_J g X I_X6_pass 90 [some (jv_r g 123), some (jv_r g p8), some (.int (nI R)), some (.int (nI j)), some (jv_r g p0), some (.int (nI N)), v6, v7, v8, v9, v10] [] n sh V L k (20 * k) := by
  have hp0 : pl (20 + 10 * j) = p0 := (hPL _ (by omega)).trans hp00
  rw [← hp0]
  obtain ⟨l, hWL, hWT⟩ := H.wy hj
  have hl := hWT.len H.N12
  have h05 : hRL (43 + 10 * j) (nI t) N 0 C 0 5 = nI t := (congrFun (hRL_o (by omega) _ _ _) 5).trans E.1
  refine j_aload_4 dX6_pass_90 ?_
  refine j_aload_n_0 dX6_pass_92 ?_
  refine G_X6_35 rfl dX6_pass_93 H.s ?_
  refine j_top (y := nI t) (H.hr.trans h05) ?_
  refine j_iconst (v := nI 1) dX6_pass_96 nc_iconst_1 ?_
  refine C_X6_100  rfl (by decide) dX6_pass_97 (H.ob hj).1 (Nat.le_of_ble_eq_true rfl) (Nat.le_of_eq (Nat.zero_add _)) (Nat.le_of_eq (Nat.zero_add _)) (fun _ _ hM' hT' => c_comes (H.ob hj).1 ((H.ob hj).2.2.2 7 (by decide) (by decide)) hWL hl hM' hT') ?_
  refine j_if_eq (tgt := 147) dX6_pass_100 (by decide) (fun h100 => ?_) (fun h100 => ?_)
  · have hno : ∀ f, 0 ≤ f → f < 0 + N → ¬ hRL (43 + 10 * j) (nI t) N 0 C (43 + 10 * j + 9) f = nI t := fun f _ h2 e => by
      have h9 := (hWT.any1 (m1n (by omega))).mpr ⟨f, by omega, e⟩
      rw [h9] at h100
      exact absurd h100 (by decide +kernel)
    have eH : hrV (43 + 10 * j) (nI t) N 0 C = hRL (43 + 10 * j) (nI t) N 0 C := by rw [← dRL_hRL, dRL_none _ _ _ hno]
    rw [hp0]
    exact c_p147 hj ht (by rw [eH]; exact H) hPL hn hlow hp00 E HI hFC hk0 kk
  · refine j_aload_4 dX6_pass_103 ?_
    refine j_aload_n_0 dX6_pass_105 ?_
    refine G_X6_35 rfl dX6_pass_106 H.s ?_
    refine j_top (y := nI t) (H.hr.trans h05) ?_
    refine j_iconst (v := nI 1) dX6_pass_109 nc_iconst_1 ?_
    refine Q_X6_104 (k' := 3) (z' := 60) (k2 := k - 3) (z2 := 20 * (k - 3)) (P := TQ pl n sh V (T9 (hRL (43 + 10 * j) (nI t) N 0 C) (43 + 10 * j) (nI t) 0 N) N K R j (fun f => if hRL (43 + 10 * j) (nI t) N 0 C (43 + 10 * j + 9) f = nI t then nI 0 else -1)) rfl (by decide) dX6_pass_110 (H.ob hj).1 (Nat.le_of_ble_eq_true rfl) (by have := hk9 ((hWT.any1 (m1n (by omega))).mp (bz_t h100)); have := hFm; omega) (by have := hk9 ((hWT.any1 (m1n (by omega))).mp (bz_t h100)); have := hFm; omega) (fun _ _ hM' hT' => c_take1P H hj (m1n (by omega)) (by omega) (by omega) hM' hT') (fun n1 s1 V1 hP1 => ?_)
    obtain ⟨tg1, pl1, H1, hq1, hn1, hlw1, hck, hcn, hct, hcv⟩ := hP1
    have hp81 : pl1 8 = p8 := (hq1 _ (by omega)).trans hp8
    refine j_astore_6 rfl (by decide) dX6_pass_113 ?_
    refine j_iconst (v := nI 0) dX6_pass_115 nc_iconst_0 ?_
    refine j_istore_7 rfl (by decide) dX6_pass_116 ?_
    rw [show pl (20 + 10 * j) = pl1 (20 + 10 * j) from (hq1 _ (by omega)).symm, ← hp81]
    have hp01 : pl1 (20 + 10 * j) = p0 := (hq1 _ (by omega)).trans hp0
    refine c_pB hj (m1n (by omega)) (p8 := pl1 8) (V0 := V1) hck hcn hct ?_ (N + 1) 0 (hRL (43 + 10 * j) (nI t) N 0 C) V1 _ _ _ (by omega) (by omega) H1 (by rw [hRL_o (by omega)]; exact E.1) (fun f _ h2 => hcv f h2) (fun q _ => rfl) rfl
    intro W1 v6 v7 v8 v9 v10 H2 hlo2
    rw [hp01, hp81]
    rw [Nat.sub_zero, dRL_hRL] at H2
    exact c_p147 hj ht H2 (fun ρ h => (hq1 ρ h).trans (hPL ρ h)) (by omega) (fun q hq => ⟨(hlw1 q hq).1.trans (hlow q hq).1, (hlo2 q hq).trans ((hlw1 q hq).2.trans (hlow q hq).2)⟩) hp00 E HI hFC (by have := hk9 ((hWT.any1 (m1n (by omega))).mp (bz_t h100)); omega) kk

set_option maxHeartbeats 4000000 in
set_option maxRecDepth 100000 in
theorem c_p1 {g : jv_G} {X : jv_X} {L : Nat → Nat → Int64} {N K R : Nat} {j t : Nat} (hj : j < R) (ht : t < 2 ^ 30) {p8 k2 : Nat} {FC C : Nat → Nat → Int32} {tg pl : Nat → Nat} {n : Nat} {sh : Nat → jv_S} {V : Nat → Nat → Int32} {k : Nat} (H : REP tg pl n sh V C N K R) (E : CE C N K t) (HI : RI C (43 + 10 * j) N t) (hFC : phV C (43 + 10 * j) N (nI t) = FC) (hp8 : pl 8 = p8) (hk : k2 + Fi C (43 + 10 * j) N ≤ k + Fi FC (43 + 10 * j) N) (kk : ∀ tg1 pl1 n1 s1 V1 v4 v5 v6 v7 v8 v9 v10, REP tg1 pl1 n1 s1 V1 FC N K R → PL pl1 pl j → n ≤ n1 → (∀ q, q < 123 → s1 q = sh q ∧ V1 q = V q) → jv_J g X I_X6_pass 350 [some (jv_r g 123), some (jv_r g p8), some (.int (nI R)), some (.int (nI j)), v4, v5, v6, v7, v8, v9, v10] [] n1 s1 V1 L k2 (20 * k2)) {v4 v5 v6 v7 v8 v9 v10 : Option Value} : jv_J g X I_X6_pass 15 [some (jv_r g 123), some (jv_r g p8), some (.int (nI R)), some (.int (nI j)), v4, v5, v6, v7, v8, v9, v10] [] n sh V L k (20 * k) := by
  rw [← hp8]
  obtain ⟨l, hWL, hWT⟩ := H.wy hj
  have hl := hWT.len H.N12
  have hN12 := H.N12
  have hK4 := H.K4
  have h37 := sm_37 (C := C) (r := 43 + 10 * j) (N := N) (h := nI t) (by omega) (m1n (by omega))
  obtain ⟨y, t0, f0, h0, h1, h2, h3, h4, h5, h6⟩ := HI.hr (by omega) hN12 E ht
  have hFm : Fi FC (43 + 10 * j) N ≤ Fi (hrV (43 + 10 * j) (nI t) N 0 C) (43 + 10 * j) N := by
    rw [← hFC]
    exact (RT.tel (by omega) hN12 hK4 h4 h5 ht N 0 _ (by omega) h6 (E.hr (by omega) hN12 hK4) h2).2
  refine j_aload_n_1 dX6_pass_15 ?_
  refine j_iload_n_3 dX6_pass_16 ?_
  refine jr_aaldR dX6_pass_17 H.q8.1 H.q8.2.1 (by omega) (by have := H.R8; omega) (H.q8.2.2 j hj) ?_
  refine j_astore_4 rfl (by decide) dX6_pass_18 ?_
  refine j_aload_4 dX6_pass_20 ?_
  refine G_X6_65 rfl dX6_pass_22 (H.ob hj).1 ((H.ob hj).2.2.2 1 (by decide) (by decide)) ?_
  refine j_alen dX6_pass_25 (H.rw hj 1 (by decide) (by decide)).1 (H.rw hj 1 (by decide) (by decide)).2.1 ?_
  refine j_istore_5 rfl (by decide) dX6_pass_26 ?_
  refine j_aload_4 dX6_pass_28 ?_
  refine j_aload_n_0 dX6_pass_30 ?_
  refine G_X6_35 rfl dX6_pass_31 H.s ?_
  refine j_top (y := nI t) (H.hr.trans E.1) ?_
  refine j_iconst (v := nI 0) dX6_pass_34 nc_iconst_0 ?_
  refine C_X6_100  rfl (by decide) dX6_pass_35 (H.ob hj).1 (Nat.le_of_ble_eq_true rfl) (Nat.le_of_eq (Nat.zero_add _)) (Nat.le_of_eq (Nat.zero_add _)) (fun _ _ hM' hT' => c_comes (H.ob hj).1 ((H.ob hj).2.2.2 7 (by decide) (by decide)) hWL hl hM' hT') ?_
  refine j_if_eq (tgt := 90) dX6_pass_38 (by decide) (fun h38 => ?_) (fun h38 => ?_)
  · have hno : ∀ f, 0 ≤ f → f < 0 + N → ¬ C (43 + 10 * j + 7) f = nI t := fun f _ h2 e => by
      have h9 := (hWT.any0 (m1n (by omega))).mpr ⟨f, by omega, e⟩
      rw [h9] at h38
      exact absurd h38 (by decide +kernel)
    rw [hp8]
    refine c_p90 hj ht (pl0 := pl) (by rw [hRL_none _ _ _ hno]; exact H) (fun _ _ => rfl) (Nat.le_refl _) (fun _ _ => ⟨rfl, rfl⟩) rfl E HI hFC hp8 hFm (by have := h37.2.2.2; omega) (fun c => by
      rw [hRL_none _ _ _ hno] at c
      have := h37.2.1 c
      omega) kk
  · refine j_aload_4 dX6_pass_41 ?_
    refine j_aload_n_0 dX6_pass_43 ?_
    refine G_X6_35 rfl dX6_pass_44 H.s ?_
    refine j_top (y := nI t) (H.hr.trans E.1) ?_
    refine j_iconst (v := nI 0) dX6_pass_47 nc_iconst_0 ?_
    refine Q_X6_104 (k' := 3) (z' := 60) (k2 := k - 3) (z2 := 20 * (k - 3)) (P := TQ pl n sh V (T7 C (43 + 10 * j) (nI t) 0 N) N K R j (fun f => if C (43 + 10 * j + 7) f = nI t then C (43 + 10 * j + 8) f else -1)) rfl (by decide) dX6_pass_48 (H.ob hj).1 (Nat.le_of_ble_eq_true rfl) (by have := h37.1 ((hWT.any0 (m1n (by omega))).mp (bz_t h38)); omega) (by have := h37.1 ((hWT.any0 (m1n (by omega))).mp (bz_t h38)); omega) (fun _ _ hM' hT' => c_take0P H hj (m1n (by omega)) (by omega) (by omega) hM' hT') (fun n1 s1 V1 hP1 => ?_)
    obtain ⟨tg1, pl1, H1, hq1, hn1, hlw1, hck, hcn, hct, hcv⟩ := hP1
    have hp81 : pl1 8 = p8 := (hq1 _ (by omega)).trans hp8
    refine j_astore_6 rfl (by decide) dX6_pass_51 ?_
    refine j_iconst (v := nI 0) dX6_pass_53 nc_iconst_0 ?_
    refine j_istore_7 rfl (by decide) dX6_pass_54 ?_
    rw [show pl (20 + 10 * j) = pl1 (20 + 10 * j) from (hq1 _ (by omega)).symm, show pl 8 = pl1 8 from (hq1 _ (by omega)).symm]
    have hp01 : pl1 (20 + 10 * j) = pl (20 + 10 * j) := hq1 _ (by omega)
    refine c_pA hj (m1n (by omega)) (p8 := pl1 8) (V0 := V1) hck hcn hct ?_ (N + 1) 0 C V1 _ _ _ (by omega) (by omega) H1 E.1 (fun f _ h2 e => HI.come h2 ht e) (fun f _ h2 => hcv f h2) (fun q _ => rfl) rfl
    intro W1 v6 v7 v8 v9 v10 H2 hlo2
    rw [hp01, hp81]
    rw [Nat.sub_zero] at H2
    have h9e : any9 (hRL (43 + 10 * j) (nI t) N 0 C) (43 + 10 * j) N (nI t) → any9 C (43 + 10 * j) N (nI t) := fun ⟨f, hf, e⟩ => ⟨f, hf, by rw [hRL_o (by omega)] at e; exact e⟩
    have h7 := (hWT.any0 (m1n (by omega))).mp (bz_t h38)
    exact c_p90 hj ht (pl0 := pl) H2 hq1 hn1 (fun q hq => ⟨(hlw1 q hq).1, (hlo2 q hq).trans (hlw1 q hq).2⟩) rfl E HI hFC hp81 hFm (by have := h37.1 h7; omega) (fun c => by have := h37.2.2.1 h7 (h9e c); omega) kk

/-- what all rumours cost still -/
def FA (C : Nat → Nat → Int32) (N R : Nat) : Nat := sm (fun j => Fi C (43 + 10 * j) N) R
theorem Fi_cg {C C1 : Nat → Nat → Int32} {r N : Nat} (h : ∀ o f, o ≤ 9 → f < N → C1 (r + o) f = C (r + o) f) : Fi C1 r N = Fi C r N := sm_cg N (fun f hf => by
  show fi (cl C1 r f) = fi (cl C r f)
  unfold fi
  rw [show cl C1 r f 1 = cl C r f 1 from h 1 f (by omega) hf, show cl C1 r f 5 = cl C r f 5 from h 5 f (by omega) hf, show cl C1 r f 6 = cl C r f 6 from h 6 f (by omega) hf, show cl C1 r f 7 = cl C r f 7 from h 7 f (by omega) hf, show cl C1 r f 9 = cl C r f 9 from h 9 f (by omega) hf])
theorem sm_swap {a b : Nat → Nat} {j : Nat} : ∀ R, j < R → (∀ i, i < R → i ≠ j → b i = a i) → sm b R + a j = sm a R + b j := by
  intro R
  induction R with
  | zero => intro h; omega
  | succ R ih =>
    intro h hb
    show sm b R + b R + a j = sm a R + a R + b j
    by_cases e : j = R
    · subst e
      have := sm_cg (a := b) (b := a) j (fun i hi => hb i (by omega) (by omega))
      omega
    · have := ih (by omega) (fun i hi hne => hb i (by omega) hne)
      have := hb R (by omega) (fun c => e c.symm)
      omega
theorem FA_ph {C : Nat → Nat → Int32} {N R j : Nat} {h : Int32} (hj : j < R) : FA (phV C (43 + 10 * j) N h) N R + Fi C (43 + 10 * j) N = FA C N R + Fi (phV C (43 + 10 * j) N h) (43 + 10 * j) N :=
  sm_swap (a := fun j => Fi C (43 + 10 * j) N) (b := fun i => Fi (phV C (43 + 10 * j) N h) (43 + 10 * i) N) R hj (fun i hi hne => Fi_cg (fun o f h1 _ => by rw [phV_out (by unfold Rout; omega)]))
/-- all rumours in an hour, those below j are through -/
def RA (C : Nat → Nat → Int32) (N R t j : Nat) : Prop := ∀ i, i < R → RI C (43 + 10 * i) N (if i < j then t + 1 else t)
theorem RI.cg {C C1 : Nat → Nat → Int32} {r N t : Nat} (H : RI C r N t) (h : ∀ o, o ≤ 9 → C1 (r + o) = C (r + o)) : RI C1 r N t := by
  obtain ⟨y, t0, f0, h0, h1, h2, h3, h4, h5, h6⟩ := H
  have e0 : C1 r = C r := h 0 (by omega)
  refine ⟨y, t0, f0, by rw [e0]; exact h0, h1, by rw [e0]; exact h2, h3, h4, h5, fun f hf => ?_⟩
  have := h6 f hf
  unfold RC at this ⊢
  have e : ∀ o, o ≤ 9 → cl C1 r f o = cl C r f o := fun o ho => congrFun (h o ho) f
  rw [e 1 (by omega), e 2 (by omega), e 3 (by omega), e 4 (by omega), e 5 (by omega), e 6 (by omega), e 7 (by omega), e 8 (by omega), e 9 (by omega)]
  exact this
theorem RA.step {C : Nat → Nat → Int32} {N K R t j : Nat} (H : RA C N R t j) (hj : j < R) (hN : N ≤ 12) (hK : K ≤ 4) (E : CE C N K t) (ht : t < 2 ^ 30) : RA (phV C (43 + 10 * j) N (nI t)) N R t (j + 1) ∧ Fi (phV C (43 + 10 * j) N (nI t)) (43 + 10 * j) N ≤ Fi C (43 + 10 * j) N := by
  have hjj := H j hj
  rw [if_neg (by omega)] at hjj
  have h1 := hjj.ph (by omega) hN hK E ht
  refine ⟨fun i hi => ?_, h1.2⟩
  by_cases e : i = j
  · subst e
    rw [if_pos (by omega)]
    exact h1.1
  · have h2 := H i hi
    have h3 : RI (phV C (43 + 10 * j) N (nI t)) (43 + 10 * i) N (if i < j then t + 1 else t) := h2.cg (fun o ho => phV_out (by unfold Rout; omega))
    by_cases c : i < j
    · rw [if_pos (by omega)]
      rw [if_pos c] at h3
      exact h3
    · rw [if_neg (by omega)]
      rw [if_neg c] at h3
      exact h3
theorem RA.all {N K R t : Nat} (hN : N ≤ 12) (hK : K ≤ 4) (ht : t < 2 ^ 30) : ∀ m j C, j + m ≤ R → RA C N R t j → CE C N K t → RA (inV N (nI t) m j C) N R t (j + m) ∧ CE (inV N (nI t) m j C) N K t ∧ FA (inV N (nI t) m j C) N R ≤ FA C N R := by
  intro m
  induction m with
  | zero => intro j C _ H E; exact ⟨H, E, Nat.le_refl _⟩
  | succ m ih =>
    intro j C hj H E
    have h1 := H.step (by omega) hN hK E ht
    have h2 := ih (j + 1) (phV C (43 + 10 * j) N (nI t)) (by omega) h1.1 (E.ph (by omega) hN hK)
    have h3 := FA_ph (C := C) (N := N) (R := R) (j := j) (h := nI t) (by omega)
    rw [show j + (m + 1) = j + 1 + m by omega]
    exact ⟨h2.1, h2.2.1, by
      have := h2.2.2
      have := h1.2
      show FA (inV N (nI t) m (j + 1) (phV C (43 + 10 * j) N (nI t))) N R ≤ _
      omega⟩

set_option maxHeartbeats 4000000 in
set_option maxRecDepth 100000 in
theorem c_pJ {g : jv_G} {X : jv_X} {T : jv_T} {L : Nat → Nat → Int64} {N K R : Nat} {t : Nat} (ht : t < 2 ^ 30) {p8 n0 : Nat} {sh0 : Nat → jv_S} {V0 FC : (Nat → Nat → Int32)} (hM : jv_M g X T) (hT : ∀ n1 s1 V1, (∃ tg1 pl1, REP tg1 pl1 n1 s1 V1 (jv_U FC 0 5 (nI t + nI 1)) N K R ∧ n0 ≤ n1 ∧ ∀ q, q < 123 → s1 q = sh0 q ∧ V1 q = V0 q) → T (.inl none) n1 s1 V1 L) : ∀ (m : Nat) (j : Nat) (A : (Nat → Nat → Int32)) (tg pl : Nat → Nat) (n : Nat) (sh : Nat → jv_S) (V : (Nat → Nat → Int32)) (k : Nat) (v4 v5 v6 v7 v8 v9 v10 : Option Value), j ≤ R → R + 1 ≤ j + m → REP tg pl n sh V A N K R → n0 ≤ n → (∀ q, q < 123 → sh q = sh0 q ∧ V q = V0 q) → pl 8 = p8 → RA A N R t j → CE A N K t → FA A N R ≤ k + FA FC N R → inV N (nI t) (R - j) j A = FC → jv_J g X I_X6_pass 10 [some (jv_r g 123), some (jv_r g p8), some (.int (nI R)), some (.int (nI j)), v4, v5, v6, v7, v8, v9, v10] [] n sh V L k (20 * k) := by
  intro m
  induction m with
  | zero => intro j A tg pl n sh V k v4 v5 v6 v7 v8 v9 v10 hjR hm2 H hn hlow hp8 HA E hk hFC; omega
  | succ m ih =>
  intro j A tg pl n sh V k v4 v5 v6 v7 v8 v9 v10 hjR hm2 H hn hlow hp8 HA E hk hFC
  refine j_iload_n_3 dX6_pass_10 ?_
  refine j_iload_n_2 dX6_pass_11 ?_
  refine j_ic_geN (by have := H.R8; omega) (by have := H.R8; omega) (tgt := 356) dX6_pass_12 (by decide) (fun h12 => ?_) (fun h12 => ?_)
  · obtain rfl : j = R := by omega
    rw [Nat.sub_self] at hFC
    subst hFC
    refine j_aload_n_0 dX6_pass_356 ?_
    refine j_dup rfl dX6_pass_357 ?_
    refine G_X6_35 rfl dX6_pass_358 H.s ?_
    refine j_top (y := nI t) (H.hr.trans E.1) ?_
    refine j_iconst (v := nI 1) dX6_pass_361 nc_iconst_1 ?_
    refine j_iadd dX6_pass_362 ?_
    refine P_X6_35 rfl dX6_pass_363 H.s ?_
    exact j_vret hM dX6_pass_366 rfl (hT n sh _ ⟨tg, pl, H.hour, hn, fun q hq => ⟨(hlow q hq).1, by rw [jv_U_other (by omega)]; exact (hlow q hq).2⟩⟩)
  · have hj : j < R := by omega
    have hN12 := H.N12
    have hK4 := H.K4
    have h1 := HA.step hj hN12 hK4 E ht
    have h2 := FA_ph (C := A) (N := N) (R := R) (j := j) (h := nI t) hj
    have hjj := HA j hj
    rw [if_neg (by omega)] at hjj
    have hFm : FA FC N R ≤ FA (phV A (43 + 10 * j) N (nI t)) N R := by
      rw [← hFC, show R - j = R - (j + 1) + 1 by omega]
      exact (RA.all hN12 hK4 ht (R - (j + 1)) (j + 1) _ (by omega) h1.1 (E.ph (by omega) hN12 hK4)).2.2
    refine c_p1 hj ht (k2 := k - (Fi A (43 + 10 * j) N - Fi (phV A (43 + 10 * j) N (nI t)) (43 + 10 * j) N)) H E hjj rfl hp8 (by have := h1.2; omega) ?_
    intro tg1 pl1 n1 s1 V1 v4 v5 v6 v7 v8 v9 v10 H1 hPL1 hn1 hlw1
    refine j_inc1_3 rfl (by decide) dX6_pass_350 ?_
    refine j_goto (tgt := 10) dX6_pass_353 (by decide) ?_
    refine ih (j + 1) _ tg1 pl1 n1 s1 V1 _ _ _ _ _ _ _ _ (by omega) (by omega) H1 (by omega) (fun q hq => ⟨(hlw1 q hq).1.trans (hlow q hq).1, (hlw1 q hq).2.trans (hlow q hq).2⟩) ((hPL1 _ (by omega)).trans hp8) h1.1 (E.ph (by omega) hN12 hK4) (by have := h1.2; omega) ?_
    rw [show R - j = R - (j + 1) + 1 by omega] at hFC
    exact hFC

theorem alV_t {C : Nat → Nat → Int32} {N R t : Nat} (h : C 0 5 = nI t) : alV N R C = jv_U (inV N (nI t) R 0 C) 0 5 (nI t + nI 1) := by
  unfold alV
  rw [h]
/-- behind an hour -/
theorem hour_all {C : Nat → Nat → Int32} {N K R t : Nat} (hN : N ≤ 12) (hK : K ≤ 4) (hR : R ≤ 8) (ht : t < 2 ^ 30) (HA : ∀ j, j < R → RI C (43 + 10 * j) N t) (E : CE C N K t) : (∀ j, j < R → RI (alV N R C) (43 + 10 * j) N (t + 1)) ∧ CE (alV N R C) N K (t + 1) ∧ FA (alV N R C) N R ≤ FA C N R := by
  have h1 := RA.all (R := R) hN hK ht R 0 C (by omega) (fun i hi => by rw [if_neg (Nat.not_lt_zero i)]; exact HA i hi) E
  rw [alV_t E.1]
  refine ⟨fun j hj => ?_, h1.2.1.to hN hK (by rw [jv_Ueq, nI_add]) (fun q hq _ => jv_U_other (by omega)), ?_⟩
  · have h2 := h1.1 j hj
    rw [if_pos (by omega)] at h2
    exact h2.cg (fun o _ => jv_U_other (by omega))
  · have : FA (jv_U (inV N (nI t) R 0 C) 0 5 (nI t + nI 1)) N R = FA (inV N (nI t) R 0 C) N R := sm_cg R (fun j hj => Fi_cg (fun o f _ _ => by rw [jv_U_other (by omega)]))
    rw [this]
    exact h1.2.2
set_option maxHeartbeats 4000000 in
set_option maxRecDepth 100000 in
theorem c_pass {g : jv_G} {X : jv_X} {T : jv_T} {L : Nat → Nat → Int64} {N K R : Nat} {t : Nat} (ht : t < 2 ^ 30) {tg pl : Nat → Nat} {n : Nat} {sh : Nat → jv_S} {V C : (Nat → Nat → Int32)} {k : Nat} (H : REP tg pl n sh V C N K R) (E : CE C N K t) (HA : ∀ j, j < R → RI C (43 + 10 * j) N t) (hk : FA C N R ≤ k + FA (alV N R C) N R) (hM : jv_M g X T) (hT : ∀ n1 s1 V1, (∃ tg1 pl1, REP tg1 pl1 n1 s1 V1 (alV N R C) N K R ∧ n ≤ n1 ∧ ∀ q, q < 123 → s1 q = sh q ∧ V1 q = V q) → T (.inl none) n1 s1 V1 L) : jv_J g X I_X6_pass 0 [some (jv_r g 123), none, none, none, none, none, none, none, none, none, none] [] n sh V L k (20 * k) := by
  refine j_aload_n_0 dX6_pass_0 ?_
  refine G_X6_30 rfl dX6_pass_1 H.s H.s6 ?_
  refine j_astore_n_1 rfl (by decide) dX6_pass_4 ?_
  refine j_aload_n_1 dX6_pass_5 ?_
  refine jr_alenR dX6_pass_6 H.q8.1 H.q8.2.1 ?_
  refine j_istore_n_2 rfl (by decide) dX6_pass_7 ?_
  refine j_iconst (v := nI 0) dX6_pass_8 nc_iconst_0 ?_
  refine j_istore_n_3 rfl (by decide) dX6_pass_9 ?_
  have hF : FA (alV N R C) N R = FA (inV N (nI t) R 0 C) N R := by
    rw [alV_t E.1]
    exact sm_cg R (fun j hj => Fi_cg (fun o f _ _ => by rw [jv_U_other (by omega)]))
  rw [hF] at hk
  rw [alV_t E.1] at hT
  exact c_pJ ht hM hT (R + 1) 0 C tg pl n sh V k _ _ _ _ _ _ _ (by omega) (by omega) H (Nat.le_refl _) (fun _ _ => ⟨rfl, rfl⟩) rfl (fun i hi => by rw [if_neg (Nat.not_lt_zero i)]; exact HA i hi) E hk rfl

theorem hours_all {N K R : Nat} (hN : N ≤ 12) (hK : K ≤ 4) (hR : R ≤ 8) : ∀ m t C, t + m ≤ 2 ^ 30 → (∀ j, j < R → RI C (43 + 10 * j) N t) → CE C N K t → (∀ j, j < R → RI (ouV N R m C) (43 + 10 * j) N (t + m)) ∧ CE (ouV N R m C) N K (t + m) ∧ FA (ouV N R m C) N R ≤ FA C N R := by
  intro m
  induction m with
  | zero => intro t C _ HA E; exact ⟨HA, E, Nat.le_refl _⟩
  | succ m ih =>
    intro t C ht HA E
    have h1 := hour_all hN hK hR (by omega) HA E
    have h2 := ih (t + 1) (alV N R C) (by omega) h1.1 h1.2.1
    rw [show t + (m + 1) = t + 1 + m by omega]
    exact ⟨h2.1, h2.2.1, Nat.le_trans h2.2.2 h1.2.2⟩
set_option maxHeartbeats 4000000 in
set_option maxRecDepth 100000 in
theorem c_pH {g : jv_G} {X : jv_X} {T : jv_T} {L : Nat → Nat → Int64} {N K R : Nat} {t0 m0 : Nat} (ht : t0 + m0 < 2 ^ 30) {n0 : Nat} {sh0 : Nat → jv_S} {V0 FC : (Nat → Nat → Int32)} (hM : jv_M g X T) (hT : ∀ n1 s1 V1, (∃ tg1 pl1, REP tg1 pl1 n1 s1 V1 FC N K R ∧ n0 ≤ n1 ∧ ∀ q, q < 123 → s1 q = sh0 q ∧ V1 q = V0 q) → T (.inl none) n1 s1 V1 L) : ∀ (m : Nat) (i : Nat) (A : (Nat → Nat → Int32)) (tg pl : Nat → Nat) (n : Nat) (sh : Nat → jv_S) (V : (Nat → Nat → Int32)) (k : Nat), i ≤ m0 → m0 + 1 ≤ i + m → REP tg pl n sh V A N K R → n0 ≤ n → (∀ q, q < 123 → sh q = sh0 q ∧ V q = V0 q) → (∀ j, j < R → RI A (43 + 10 * j) N (t0 + i)) → CE A N K (t0 + i) → FA A N R ≤ k + FA FC N R → ouV N R (m0 - i) A = FC → jv_J g X I_X6_pass_ 2 [some (jv_r g 123), some (.int (nI m0)), some (.int (nI i))] [] n sh V L k (20 * k) := by
  intro m
  induction m with
  | zero => intro i A tg pl n sh V k him hm2 H hn hlow HA E hk hFC; omega
  | succ m ih =>
  intro i A tg pl n sh V k him hm2 H hn hlow HA E hk hFC
  refine j_iload_n_2 dX6_pass__2 ?_
  refine j_iload_n_1 dX6_pass__3 ?_
  refine j_ic_geN (by omega) (by omega) (tgt := 17) dX6_pass__4 (by decide) (fun h4 => ?_) (fun h4 => ?_)
  · obtain rfl : i = m0 := by omega
    rw [Nat.sub_self] at hFC
    subst hFC
    exact j_vret hM dX6_pass__17 rfl (hT n sh V ⟨tg, pl, H, hn, hlow⟩)
  · have hN12 := H.N12
    have hK4 := H.K4
    have h1 := hour_all hN12 hK4 H.R8 (by omega) HA E
    have hFm : FA FC N R ≤ FA (alV N R A) N R := by
      rw [← hFC, show m0 - i = m0 - (i + 1) + 1 by omega]
      exact (hours_all hN12 hK4 H.R8 (m0 - (i + 1)) (t0 + i + 1) _ (by omega) h1.1 h1.2.1).2.2
    refine j_aload_n_0 dX6_pass__7 ?_
    refine Q_X6_116 (k' := FA A N R - FA (alV N R A) N R) (z' := 20 * (FA A N R - FA (alV N R A) N R)) (k2 := k - (FA A N R - FA (alV N R A) N R)) (z2 := 20 * (k - (FA A N R - FA (alV N R A) N R))) (P := fun n1 s1 V1 => (∃ tg1 pl1, REP tg1 pl1 n1 s1 V1 (alV N R A) N K R ∧ n ≤ n1 ∧ ∀ q, q < 123 → s1 q = sh q ∧ V1 q = V q)) rfl (by decide) dX6_pass__8 H.s (Nat.le_of_ble_eq_true rfl) (by have := h1.2.2; omega) (by have := h1.2.2; omega) (fun _ _ hM' hT' => c_pass (t := t0 + i) (by omega) H E HA (by have := h1.2.2; omega) hM' hT') (fun n1 s1 V1 hP1 => ?_)
    obtain ⟨tg1, pl1, H1, hn1, hlw1⟩ := hP1
    refine j_inc1_2 rfl (by decide) dX6_pass__11 ?_
    refine j_goto (tgt := 2) dX6_pass__14 (by decide) ?_
    refine ih (i + 1) _ tg1 pl1 n1 s1 V1 _ (by omega) (by omega) H1 (by omega) (fun q hq => ⟨(hlw1 q hq).1.trans (hlow q hq).1, (hlw1 q hq).2.trans (hlow q hq).2⟩) h1.1 h1.2.1 (by have := h1.2.2; omega) ?_
    rw [show m0 - i = m0 - (i + 1) + 1 by omega] at hFC
    exact hFC

set_option maxHeartbeats 4000000 in
set_option maxRecDepth 100000 in
theorem c_passH {g : jv_G} {X : jv_X} {T : jv_T} {L : Nat → Nat → Int64} {N K R : Nat} {t m0 : Nat} (ht : t + m0 < 2 ^ 30) {tg pl : Nat → Nat} {n : Nat} {sh : Nat → jv_S} {V C : (Nat → Nat → Int32)} {k : Nat} (H : REP tg pl n sh V C N K R) (E : CE C N K t) (HA : ∀ j, j < R → RI C (43 + 10 * j) N t) (hk : FA C N R ≤ k + FA (ouV N R m0 C) N R) (hM : jv_M g X T) (hT : ∀ n1 s1 V1, (∃ tg1 pl1, REP tg1 pl1 n1 s1 V1 (ouV N R m0 C) N K R ∧ n ≤ n1 ∧ ∀ q, q < 123 → s1 q = sh q ∧ V1 q = V q) → T (.inl none) n1 s1 V1 L) : jv_J g X I_X6_pass_ 0 [some (jv_r g 123), some (.int (nI m0)), none] [] n sh V L k (20 * k) := by
  refine j_iconst (v := nI 0) dX6_pass__0 nc_iconst_0 ?_
  refine j_istore_n_2 rfl (by decide) dX6_pass__1 ?_
  exact c_pH (t0 := t) ht hM hT (m0 + 1) 0 C tg pl n sh V k (by omega) (by omega) H (Nat.le_refl _) (fun _ _ => ⟨rfl, rfl⟩) HA E hk rfl
