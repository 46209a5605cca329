/-! ===== the two towers are the same ===== -/
theorem dcq_all : (List.range 1189).all (fun s => (List.range 11).all fun c => decide (Op.cmpValue (FP.dcmp (FP.ddiv (FP.i2d (nI s)) (FP.i2d (nI (c + 2)))) (FP.ddiv (FP.i2d (nI s)) (FP.i2d (nI (c + 2))))) .l = 0)) = true := by decide +kernel
theorem dcq {s c : Nat} (hs : s < 1189) (hc : 2 ≤ c) (h12 : c ≤ 12) : Op.cmpValue (FP.dcmp (FP.ddiv (FP.i2d (nI s)) (FP.i2d (nI c))) (FP.ddiv (FP.i2d (nI s)) (FP.i2d (nI c)))) .l = 0 := by
  have h1 := List.all_eq_true.mp dcq_all s (List.mem_range.mpr hs)
  have h2 := of_decide_eq_true (List.all_eq_true.mp h1 (c - 2) (List.mem_range.mpr (by omega)))
  rw [show c - 2 + 2 = c by omega] at h2
  exact h2
theorem smL_99 {V W : Nat → Nat → Int32} (h : ∀ f, f < 12 → V 2 f = W 124 f ∧ ∃ a, W 124 f = nI a ∧ a ≤ 99) : ∀ m i s, i + m ≤ 12 → s ≤ 99 * i → ∃ s', smL V m i (nI s) = nI s' ∧ s' ≤ 99 * (i + m) := by
  intro m
  induction m with
  | zero => intro i s _ hs; exact ⟨s, rfl, hs⟩
  | succ m ih =>
    intro i s hi hs
    obtain ⟨h1, a, h2, h3⟩ := h i (by omega)
    unfold smL
    rw [h1, h2, nI_add]
    obtain ⟨s', k2, k3⟩ := ih (i + 1) (s + a) (by omega) (by omega)
    exact ⟨s', k2, by omega⟩
theorem TS.sm {V : Nat → Nat → Int32} {N K R t : Nat} (H : TS V N K R t) : ∃ s, smL V N 0 (nI 0) = nI s ∧ s < 1189 := by
  have hN := H.N12
  obtain ⟨⟨W, h⟩, -⟩ := H
  obtain ⟨s, es, hs⟩ := smL_99 h.2.2.2.2.1.2.2.1 N 0 0 (by omega) (by omega)
  exact ⟨s, es, by omega⟩
theorem rea_re {C : Nat → Nat → Int32} {j : Nat} : ∀ m i a, hcL C (43 + 10 * j) m i a = reachedL C j m i a := by
  intro m
  induction m with
  | zero => intro i a; rfl
  | succ m ih => intro i a; exact ih (i + 1) _
theorem und_uw {l : List WE} {C : Nat → Nat → Int32} {j N : Nat} (H : WT l C (43 + 10 * j) N) (hN : N ≤ 12) : ∀ m i a, i + m ≤ N → undL l m i a = underWayL C j m i a := by
  intro m
  induction m with
  | zero => intro i a _; rfl
  | succ m ih =>
    intro i a hi
    show undL l m (i + 1) _ = underWayL C j m (i + 1) _
    rw [ih _ _ (by omega), H.und hN (by omega)]
    cases uwB C (43 + 10 * j) i <;> rfl
set_option maxHeartbeats 4000000 in
set_option maxRecDepth 100000 in
theorem c_same1 {g : jv_G} {X : jv_X} {L : Nat → Nat → Int64} {k z : Nat} {sx : Nat → jv_S} {tg pl : Nat → Nat} {n : Nat} {V : Nat → Nat → Int32} {N K R t : Nat} (HT : TS V N K R t) (H : REP tg pl n (SH sx) V V N K R) : ∀ (m : Nat) (i : Nat) (a : Int32), i ≤ N → N + 1 ≤ i + m → jv_J g X I_X6_isSame 95 [some (jv_r g 123), some (jv_r g 0), some (.int (smL V (N - i) i a)), some (.int (nI N)), none, none] [] n (SH sx) V L k z → jv_J g X I_X6_isSame 4 [some (jv_r g 123), some (jv_r g 0), some (.int a), some (.int (nI i)), none, none] [] n (SH sx) V L k z := by
  intro m
  induction m with
  | zero => intro i a hi hm2 kk; omega
  | succ m ih =>
  intro i a hi hm2 kk
  have hn := H.n124
  have hN2 := H.N2
  have hN12 := H.N12
  have hK4 := H.K4
  have hR8 := H.R8
  
  refine j_iload_n_3 dX6_isSame_4 ?_
  refine j_aload_n_0 dX6_isSame_5 ?_
  refine G_X6_7 rfl dX6_isSame_6 H.s H.s1 ?_
  refine j_alen dX6_isSame_9 H.q2.1 H.q2.2.1 ?_
  refine j_ic_geN (by omega) (by omega) (tgt := 95) dX6_isSame_10 (by decide) (fun h10 => ?_) (fun h10 => ?_)
  · obtain rfl : i = N := by omega
    rw [Nat.sub_self] at kk
    exact kk
  · refine j_iload_n_2 dX6_isSame_13 ?_
    refine j_aload_n_0 dX6_isSame_14 ?_
    refine G_X6_7 rfl dX6_isSame_15 H.s H.s1 ?_
    refine j_iload_n_3 dX6_isSame_18 ?_
    refine j_iald dX6_isSame_19 H.q2.1 H.q2.2.1 (by omega) (by omega) ?_
    refine j_top (y := V 2 i) (H.q2.2.2 i (by omega)) ?_
    refine j_iadd dX6_isSame_20 ?_
    refine j_istore_n_2 rfl (by decide) dX6_isSame_21 ?_
    refine j_aload_n_1 dX6_isSame_22 ?_
    refine j_iload_n_3 dX6_isSame_23 ?_
    refine C_X6_123  rfl (by decide) dX6_isSame_24 sk_0 (Nat.le_of_ble_eq_true rfl) (Nat.le_of_eq (Nat.zero_add _)) (Nat.le_of_eq (Nat.zero_add _)) (fun _ _ hM' hT' => g_headsOf HT.ct (by omega) hM' hT') ?_
    refine j_aload_n_0 dX6_isSame_27 ?_
    refine G_X6_7 rfl dX6_isSame_28 H.s H.s1 ?_
    refine j_iload_n_3 dX6_isSame_31 ?_
    refine j_iald dX6_isSame_32 H.q2.1 H.q2.2.1 (by omega) (by omega) ?_
    refine j_top (y := V 2 i) (H.q2.2.2 i (by omega)) ?_
    refine j_ic_ne (tgt := 87) dX6_isSame_33 (by decide) (fun h33 => ?_) (fun h33 => ?_)
    · exact absurd rfl h33
    · refine j_aload_n_1 dX6_isSame_36 ?_
      refine j_iload_n_3 dX6_isSame_37 ?_
      refine C_X6_129  rfl (by decide) dX6_isSame_38 sk_0 (Nat.le_of_ble_eq_true rfl) (Nat.le_of_eq (Nat.zero_add _)) (Nat.le_of_eq (Nat.zero_add _)) (fun _ _ hM' hT' => g_stayOf HT.ct (by omega) hM' hT') ?_
      refine j_aload_n_0 dX6_isSame_41 ?_
      refine G_X6_13 rfl dX6_isSame_42 H.s H.s2 ?_
      refine j_iload_n_3 dX6_isSame_45 ?_
      refine j_iald dX6_isSame_46 H.q3.1 H.q3.2.1 (by omega) (by omega) ?_
      refine j_top (y := V 3 i) (H.q3.2.2 i (by omega)) ?_
      refine j_ic_ne (tgt := 87) dX6_isSame_47 (by decide) (fun h47 => ?_) (fun h47 => ?_)
      · exact absurd rfl h47
      · refine j_iload_n_3 dX6_isSame_50 ?_
        refine j_aload_n_0 dX6_isSame_51 ?_
        refine G_X6_16 rfl dX6_isSame_52 H.s H.s3 ?_
        refine j_alen dX6_isSame_55 H.q4.1 H.q4.2.1 ?_
        refine j_ic_geN (by omega) (by omega) (tgt := 89) dX6_isSame_56 (by decide) (fun h56 => ?_) (fun h56 => ?_)
        · refine j_inc1_3 rfl (by decide) dX6_isSame_89 ?_
          refine j_goto (tgt := 4) dX6_isSame_92 (by decide) ?_
          refine ih (i + 1) _ (by omega) (by omega) ?_
          rw [show N - i = (N - (i + 1)) + 1 by omega] at kk
          exact kk
        · refine j_aload_n_1 dX6_isSame_59 ?_
          refine j_iload_n_3 dX6_isSame_60 ?_
          refine C_X6_132  rfl (by decide) dX6_isSame_61 sk_0 (Nat.le_of_ble_eq_true rfl) (Nat.le_of_eq (Nat.zero_add _)) (Nat.le_of_eq (Nat.zero_add _)) (fun _ _ hM' hT' => g_stairsOf HT.ct (by omega) hM' hT') ?_
          refine j_aload_n_0 dX6_isSame_64 ?_
          refine G_X6_16 rfl dX6_isSame_65 H.s H.s3 ?_
          refine j_iload_n_3 dX6_isSame_68 ?_
          refine j_iald dX6_isSame_69 H.q4.1 H.q4.2.1 (by omega) (by omega) ?_
          refine j_top (y := V 4 i) (H.q4.2.2 i (by omega)) ?_
          refine j_ic_ne (tgt := 87) dX6_isSame_70 (by decide) (fun h70 => ?_) (fun h70 => ?_)
          · exact absurd rfl h70
          · refine j_aload_n_1 dX6_isSame_73 ?_
            refine j_iload_n_3 dX6_isSame_74 ?_
            refine C_X6_135  rfl (by decide) dX6_isSame_75 sk_0 (Nat.le_of_ble_eq_true rfl) (Nat.le_of_eq (Nat.zero_add _)) (Nat.le_of_eq (Nat.zero_add _)) (fun _ _ hM' hT' => g_isOpen HT.ct (by omega) (HT.op i (by omega)) hM' hT') ?_
            refine j_aload_n_0 dX6_isSame_78 ?_
            refine G_X6_19 rfl dX6_isSame_79 H.s H.s4 ?_
            refine j_iload_n_3 dX6_isSame_82 ?_
            refine j_bald dX6_isSame_83 H.q5.1 H.q5.2.1 (by omega) (by omega) ?_
            refine j_top (y := V 5 i) (H.q5.2.2 i (by omega)) ?_
            refine j_ic_eq (tgt := 89) dX6_isSame_84 (by decide) (fun h84 => ?_) (fun h84 => ?_)
            · refine j_inc1_3 rfl (by decide) dX6_isSame_89 ?_
              refine j_goto (tgt := 4) dX6_isSame_92 (by decide) ?_
              refine ih (i + 1) _ (by omega) (by omega) ?_
              rw [show N - i = (N - (i + 1)) + 1 by omega] at kk
              exact kk
            · exact absurd rfl h84

set_option maxHeartbeats 4000000 in
set_option maxRecDepth 100000 in
theorem c_same2 {g : jv_G} {X : jv_X} {L : Nat → Nat → Int64} {k z : Nat} {sx : Nat → jv_S} {tg pl : Nat → Nat} {n : Nat} {V : Nat → Nat → Int32} {N K R t : Nat} (HT : TS V N K R t) (H : REP tg pl n (SH sx) V V N K R) {a : Int32} (kk : jv_J g X I_X6_isSame 139 [some (jv_r g 123), some (jv_r g 0), some (.int a), some (.int (nI K)), none, none] [] n (SH sx) V L k z) : ∀ (m : Nat) (l : Nat), l ≤ K → K + 1 ≤ l + m → jv_J g X I_X6_isSame 97 [some (jv_r g 123), some (jv_r g 0), some (.int a), some (.int (nI l)), none, none] [] n (SH sx) V L k z := by
  intro m
  induction m with
  | zero => intro l hi hm2; omega
  | succ m ih =>
  intro l hi hm2
  have hn := H.n124
  have hN2 := H.N2
  have hN12 := H.N12
  have hK4 := H.K4
  have hR8 := H.R8
  
  refine j_iload_n_3 dX6_isSame_97 ?_
  refine j_aload_n_0 dX6_isSame_98 ?_
  refine G_X6_24 rfl dX6_isSame_99 H.s H.s5 ?_
  refine jr_alenA dX6_isSame_102 H.q7.1 H.q7.2.1 ?_
  refine j_ic_geN (by omega) (by omega) (tgt := 139) dX6_isSame_103 (by decide) (fun h103 => ?_) (fun h103 => ?_)
  · obtain rfl : l = K := by omega
    exact kk
  · refine j_aload_n_1 dX6_isSame_106 ?_
    refine j_iload_n_3 dX6_isSame_107 ?_
    have hl : l < K := by omega
    obtain ⟨lk, ln, -, -, -, -, -, -, -, -, -, -, -, -, -, -, d0, d1, -⟩ := H.lf hl
    refine C_X6_139  rfl (by decide) dX6_isSame_108 sk_0 (Nat.le_of_ble_eq_true rfl) (Nat.le_of_eq (Nat.zero_add _)) (Nat.le_of_eq (Nat.zero_add _)) (fun _ _ hM' hT' => g_runs HT.ct (by omega) (HT.rn l (by omega)) hM' hT') ?_
    refine j_aload_n_0 dX6_isSame_111 ?_
    refine G_X6_24 rfl dX6_isSame_112 H.s H.s5 ?_
    refine j_iload_n_3 dX6_isSame_115 ?_
    refine jr_aaldA dX6_isSame_116 H.q7.1 H.q7.2.1 hl (by omega) (H.q7.2.2 l hl) ?_
    refine j_iconst (v := nI 4) dX6_isSame_117 nc_iconst_4 ?_
    refine j_iald dX6_isSame_118 lk ln (by decide) (by decide) ?_
    refine j_top (y := V (20 + 2 * l) 0) d1.symm ?_
    refine j_iconst (v := nI 1) dX6_isSame_119 nc_iconst_1 ?_
    refine j_ic_ne (tgt := 127) dX6_isSame_120 (by decide) (fun h120 => ?_) (fun h120 => ?_)
    · refine j_iconst (v := nI 0) dX6_isSame_127 nc_iconst_0 ?_
      refine j_ic_eq (tgt := 133) dX6_isSame_128 (by decide) (fun h128 => ?_) (fun h128 => ?_)
      · refine j_inc1_3 rfl (by decide) dX6_isSame_133 ?_
        refine j_goto (tgt := 97) dX6_isSame_136 (by decide) ?_
        exact ih (l + 1) (by omega) (by omega)
      · exact absurd ((HT.rn l hl).resolve_right h120) h128
    · refine j_iconst (v := nI 1) dX6_isSame_123 nc_iconst_1 ?_
      refine j_goto (tgt := 128) dX6_isSame_124 (by decide) ?_
      refine j_ic_eq (tgt := 133) dX6_isSame_128 (by decide) (fun h128 => ?_) (fun h128 => ?_)
      · refine j_inc1_3 rfl (by decide) dX6_isSame_133 ?_
        refine j_goto (tgt := 97) dX6_isSame_136 (by decide) ?_
        exact ih (l + 1) (by omega) (by omega)
      · exact absurd h120 h128

set_option maxHeartbeats 4000000 in
set_option maxRecDepth 100000 in
theorem c_same3i {g : jv_G} {X : jv_X} {L : Nat → Nat → Int64} {k z : Nat} {sx : Nat → jv_S} {tg pl : Nat → Nat} {n : Nat} {V : Nat → Nat → Int32} {N K R t : Nat} (HT : TS V N K R t) (H : REP tg pl n (SH sx) V V N K R) {a : Int32} {j : Nat} (hj : j < R) (kk : jv_J g X I_X6_isSame 318 [some (jv_r g 123), some (jv_r g 0), some (.int a), some (.int (nI j)), some (jv_r g (pl (20 + 10 * j))), some (.int (nI N))] [] n (SH sx) V L k z) : ∀ (m : Nat) (f : Nat), f ≤ N → N + 1 ≤ f + m → jv_J g X I_X6_isSame 228 [some (jv_r g 123), some (jv_r g 0), some (.int a), some (.int (nI j)), some (jv_r g (pl (20 + 10 * j))), some (.int (nI f))] [] n (SH sx) V L k z := by
  intro m
  induction m with
  | zero => intro f hi hm2; omega
  | succ m ih =>
  intro f hi hm2
  have hn := H.n124
  have hN2 := H.N2
  have hN12 := H.N12
  have hK4 := H.K4
  have hR8 := H.R8
  
  refine j_iload_5 dX6_isSame_228 ?_
  refine j_aload_n_0 dX6_isSame_230 ?_
  refine G_X6_7 rfl dX6_isSame_231 H.s H.s1 ?_
  refine j_alen dX6_isSame_234 H.q2.1 H.q2.2.1 ?_
  refine j_ic_geN (by omega) (by omega) (tgt := 318) dX6_isSame_235 (by decide) (fun h235 => ?_) (fun h235 => ?_)
  · obtain rfl : f = N := by omega
    exact kk
  · refine j_aload_n_1 dX6_isSame_238 ?_
    refine j_iload_n_3 dX6_isSame_239 ?_
    refine j_iload_5 dX6_isSame_240 ?_
    refine C_X6_160  rfl (by decide) dX6_isSame_242 sk_0 (Nat.le_of_ble_eq_true rfl) (Nat.le_of_eq (Nat.zero_add _)) (Nat.le_of_eq (Nat.zero_add _)) (fun _ _ hM' hT' => g_stateOf HT.ct hj (by omega) hM' hT') ?_
    refine j_aload_4 dX6_isSame_245 ?_
    refine G_X6_65 rfl dX6_isSame_247 (H.ob hj).1 ((H.ob hj).2.2.2 1 (by decide) (by decide)) ?_
    refine j_iload_5 dX6_isSame_250 ?_
    refine j_iald dX6_isSame_252 (H.rw hj 1 (by decide) (by decide)).1 (H.rw hj 1 (by decide) (by decide)).2.1 (by omega) (by omega) ?_
    refine j_top (y := V (43 + 10 * j + 1) f) ((H.rw hj 1 (by decide) (by decide)).2.2 f (by omega)) ?_
    refine j_ic_ne (tgt := 310) dX6_isSame_253 (by decide) (fun h253 => ?_) (fun h253 => ?_)
    · exact absurd rfl h253
    · refine j_aload_n_1 dX6_isSame_256 ?_
      refine j_iload_n_3 dX6_isSame_257 ?_
      refine j_iload_5 dX6_isSame_258 ?_
      refine C_X6_163  rfl (by decide) dX6_isSame_260 sk_0 (Nat.le_of_ble_eq_true rfl) (Nat.le_of_eq (Nat.zero_add _)) (Nat.le_of_eq (Nat.zero_add _)) (fun _ _ hM' hT' => g_heardAt HT.ct hj (by omega) hM' hT') ?_
      refine j_aload_4 dX6_isSame_263 ?_
      refine G_X6_68 rfl dX6_isSame_265 (H.ob hj).1 ((H.ob hj).2.2.2 2 (by decide) (by decide)) ?_
      refine j_iload_5 dX6_isSame_268 ?_
      refine j_iald dX6_isSame_270 (H.rw hj 2 (by decide) (by decide)).1 (H.rw hj 2 (by decide) (by decide)).2.1 (by omega) (by omega) ?_
      refine j_top (y := V (43 + 10 * j + 2) f) ((H.rw hj 2 (by decide) (by decide)).2.2 f (by omega)) ?_
      refine j_ic_ne (tgt := 310) dX6_isSame_271 (by decide) (fun h271 => ?_) (fun h271 => ?_)
      · exact absurd rfl h271
      · refine j_aload_n_1 dX6_isSame_274 ?_
        refine j_iload_n_3 dX6_isSame_275 ?_
        refine j_iload_5 dX6_isSame_276 ?_
        refine C_X6_166  rfl (by decide) dX6_isSame_278 sk_0 (Nat.le_of_ble_eq_true rfl) (Nat.le_of_eq (Nat.zero_add _)) (Nat.le_of_eq (Nat.zero_add _)) (fun _ _ hM' hT' => g_deniedAt HT.ct hj (by omega) hM' hT') ?_
        refine j_aload_4 dX6_isSame_281 ?_
        refine G_X6_77 rfl dX6_isSame_283 (H.ob hj).1 ((H.ob hj).2.2.2 3 (by decide) (by decide)) ?_
        refine j_iload_5 dX6_isSame_286 ?_
        refine j_iald dX6_isSame_288 (H.rw hj 3 (by decide) (by decide)).1 (H.rw hj 3 (by decide) (by decide)).2.1 (by omega) (by omega) ?_
        refine j_top (y := V (43 + 10 * j + 3) f) ((H.rw hj 3 (by decide) (by decide)).2.2 f (by omega)) ?_
        refine j_ic_ne (tgt := 310) dX6_isSame_289 (by decide) (fun h289 => ?_) (fun h289 => ?_)
        · exact absurd rfl h289
        · refine j_aload_n_1 dX6_isSame_292 ?_
          refine j_iload_n_3 dX6_isSame_293 ?_
          refine j_iload_5 dX6_isSame_294 ?_
          refine C_X6_169  rfl (by decide) dX6_isSame_296 sk_0 (Nat.le_of_ble_eq_true rfl) (Nat.le_of_eq (Nat.zero_add _)) (Nat.le_of_eq (Nat.zero_add _)) (fun _ _ hM' hT' => g_pipesTo HT.ct hj (by omega) hM' hT') ?_
          refine j_aload_4 dX6_isSame_299 ?_
          refine G_X6_71 rfl dX6_isSame_301 (H.ob hj).1 ((H.ob hj).2.2.2 4 (by decide) (by decide)) ?_
          refine j_iload_5 dX6_isSame_304 ?_
          refine j_iald dX6_isSame_306 (H.rw hj 4 (by decide) (by decide)).1 (H.rw hj 4 (by decide) (by decide)).2.1 (by omega) (by omega) ?_
          refine j_top (y := V (43 + 10 * j + 4) f) ((H.rw hj 4 (by decide) (by decide)).2.2 f (by omega)) ?_
          refine j_ic_eq (tgt := 312) dX6_isSame_307 (by decide) (fun h307 => ?_) (fun h307 => ?_)
          · refine j_inc1_5 rfl (by decide) dX6_isSame_312 ?_
            refine j_goto (tgt := 228) dX6_isSame_315 (by decide) ?_
            exact ih (f + 1) (by omega) (by omega)
          · exact absurd rfl h307

theorem rea_cg {v w : Nat → Int32} {N : Nat} (h : ∀ f, f < N → v f = w f) : reaL v N 0 0 = reaL w N 0 0 := by
  have : ∀ m i a, i + m ≤ N → reaL v m i a = reaL w m i a := by
    intro m
    induction m with
    | zero => intro i a _; rfl
    | succ m ih =>
      intro i a hi
      show reaL v m (i + 1) _ = reaL w m (i + 1) _
      rw [ih _ _ (by omega), h i (by omega)]
  exact this N 0 0 (by omega)
set_option maxHeartbeats 4000000 in
set_option maxRecDepth 100000 in
theorem c_same3 {g : jv_G} {X : jv_X} {L : Nat → Nat → Int64} {k z : Nat} {sx : Nat → jv_S} {tg pl : Nat → Nat} {n : Nat} {V : Nat → Nat → Int32} {N K R t : Nat} (HT : TS V N K R t) (H : REP tg pl n (SH sx) V V N K R) {a : Int32} (ht : t < 2 ^ 30) (kk : jv_J g X I_X6_isSame 324 [some (jv_r g 123), some (jv_r g 0), some (.int a), some (.int (nI R)), none, none] [] n (SH sx) V L k z) : ∀ (m : Nat) (j : Nat), j ≤ R → R + 1 ≤ j + m → jv_J g X I_X6_isSame 141 [some (jv_r g 123), some (jv_r g 0), some (.int a), some (.int (nI j)), none, none] [] n (SH sx) V L k z := by
  intro m
  induction m with
  | zero => intro j hi hm2; omega
  | succ m ih =>
  intro j hi hm2
  have hn := H.n124
  have hN2 := H.N2
  have hN12 := H.N12
  have hK4 := H.K4
  have hR8 := H.R8
  
  refine j_iload_n_3 dX6_isSame_141 ?_
  refine j_aload_n_0 dX6_isSame_142 ?_
  refine G_X6_30 rfl dX6_isSame_143 H.s H.s6 ?_
  refine jr_alenR dX6_isSame_146 H.q8.1 H.q8.2.1 ?_
  refine j_ic_geN (by omega) (by omega) (tgt := 324) dX6_isSame_147 (by decide) (fun h147 => ?_) (fun h147 => ?_)
  · obtain rfl : j = R := by omega
    exact kk
  · have hj : j < R := by omega
    obtain ⟨l, hWL, hWT⟩ := H.wy hj
    have hob := H.ob hj
    refine j_aload_n_0 dX6_isSame_150 ?_
    refine G_X6_30 rfl dX6_isSame_151 H.s H.s6 ?_
    refine j_iload_n_3 dX6_isSame_154 ?_
    refine jr_aaldR dX6_isSame_155 H.q8.1 H.q8.2.1 hj (by omega) (H.q8.2.2 j hj) ?_
    refine j_astore_4 rfl (by decide) dX6_isSame_156 ?_
    refine j_aload_n_1 dX6_isSame_158 ?_
    refine j_iload_n_3 dX6_isSame_159 ?_
    refine C_X6_142  rfl (by decide) dX6_isSame_160 sk_0 (Nat.le_of_ble_eq_true rfl) (Nat.le_of_eq (Nat.zero_add _)) (Nat.le_of_eq (Nat.zero_add _)) (fun _ _ hM' hT' => g_originOf HT.ct hj hM' hT') ?_
    refine j_aload_4 dX6_isSame_163 ?_
    refine G_X6_55 rfl dX6_isSame_165 (H.ob hj).1 ?_
    refine j_top (y := V (43 + 10 * j) 0) hob.2.1 ?_
    refine j_ic_ne (tgt := 223) dX6_isSame_168 (by decide) (fun h168 => ?_) (fun h168 => ?_)
    · exact absurd rfl h168
    · refine j_aload_n_1 dX6_isSame_171 ?_
      refine j_iload_n_3 dX6_isSame_172 ?_
      refine C_X6_145  rfl (by decide) dX6_isSame_173 sk_0 (Nat.le_of_ble_eq_true rfl) (Nat.le_of_eq (Nat.zero_add _)) (Nat.le_of_eq (Nat.zero_add _)) (fun _ _ hM' hT' => g_reachOf HT.ct hj hM' hT') ?_
      refine j_aload_4 dX6_isSame_176 ?_
      refine G_X6_58 rfl dX6_isSame_178 (H.ob hj).1 ?_
      refine j_top (y := V (43 + 10 * j) 1) hob.2.2.1 ?_
      refine j_ic_ne (tgt := 223) dX6_isSame_181 (by decide) (fun h181 => ?_) (fun h181 => ?_)
      · exact absurd rfl h181
      · refine j_aload_n_1 dX6_isSame_184 ?_
        refine j_iload_n_3 dX6_isSame_185 ?_
        refine C_X6_148  rfl (by decide) dX6_isSame_186 sk_0 (Nat.le_of_ble_eq_true rfl) (Nat.le_of_eq (Nat.zero_add _)) (Nat.le_of_eq (Nat.zero_add _)) (fun _ _ hM' hT' => g_believers HT.ct hj hM' hT') ?_
        refine j_aload_n_0 dX6_isSame_189 ?_
        refine j_iload_n_3 dX6_isSame_190 ?_
        refine C_X6_151  rfl (by decide) dX6_isSame_191 H.s (Nat.le_of_ble_eq_true rfl) (Nat.le_of_eq (Nat.zero_add _)) (Nat.le_of_eq (Nat.zero_add _)) (fun _ _ hM' hT' => c_believ H hj hM' hT') ?_
        refine j_ic_ne (tgt := 223) dX6_isSame_194 (by decide) (fun h194 => ?_) (fun h194 => ?_)
        · exact absurd rfl h194
        · refine j_aload_n_1 dX6_isSame_197 ?_
          refine j_iload_n_3 dX6_isSame_198 ?_
          refine C_X6_152  rfl (by decide) dX6_isSame_199 sk_0 (Nat.le_of_ble_eq_true rfl) (Nat.le_of_eq (Nat.zero_add _)) (Nat.le_of_eq (Nat.zero_add _)) (fun _ _ hM' hT' => g_reached HT.ct hj hM' hT') ?_
          refine j_aload_4 dX6_isSame_202 ?_
          refine C_X6_119  rfl (by decide) dX6_isSame_204 (H.ob hj).1 (Nat.le_of_ble_eq_true rfl) (Nat.le_of_eq (Nat.zero_add _)) (Nat.le_of_eq (Nat.zero_add _)) (fun _ _ hM' hT' => c_reachd hob.1 (hob.2.2.2 2 (by decide) (by decide)) (H.rw hj 2 (by decide) (by decide)).1 (H.rw hj 2 (by decide) (by decide)).2.1 hN12 hM' hT') ?_
          refine j_ic_ne (tgt := 223) dX6_isSame_207 (by decide) (fun h207 => ?_) (fun h207 => ?_)
          · exact absurd (by rw [rea_cg (fun f hf => (H.rw hj 2 (by decide) (by decide)).2.2 f hf), rea_hc (HT.2 j hj) ht N 0 0 (by omega), rea_re]) h207
          · refine j_aload_n_1 dX6_isSame_210 ?_
            refine j_iload_n_3 dX6_isSame_211 ?_
            refine C_X6_154  rfl (by decide) dX6_isSame_212 sk_0 (Nat.le_of_ble_eq_true rfl) (Nat.le_of_eq (Nat.zero_add _)) (Nat.le_of_eq (Nat.zero_add _)) (fun _ _ hM' hT' => g_underWay HT.ct hj hM' hT') ?_
            refine j_aload_4 dX6_isSame_215 ?_
            refine C_X6_157  rfl (by decide) dX6_isSame_217 (H.ob hj).1 (Nat.le_of_ble_eq_true rfl) (Nat.le_of_eq (Nat.zero_add _)) (Nat.le_of_eq (Nat.zero_add _)) (fun _ _ hM' hT' => c_under hob.1 (hob.2.2.2 7 (by decide) (by decide)) hWL (hWT.len hN12) (hob.2.2.2 1 (by decide) (by decide)) (H.rw hj 1 (by decide) (by decide)).1 (H.rw hj 1 (by decide) (by decide)).2.1 hN12 hM' hT') ?_
            refine j_ic_eq (tgt := 225) dX6_isSame_220 (by decide) (fun h220 => ?_) (fun h220 => ?_)
            · refine j_iconst (v := nI 0) dX6_isSame_225 nc_iconst_0 ?_
              refine j_istore_5 rfl (by decide) dX6_isSame_226 ?_
              refine c_same3i HT H hj ?_ (N + 1) 0 (by omega) (by omega)
              refine j_inc1_3 rfl (by decide) dX6_isSame_318 ?_
              refine j_goto (tgt := 141) dX6_isSame_321 (by decide) ?_
              exact jv_drop 4 (jv_drop 5 (ih (j + 1) (by omega) (by omega)))
            · exact absurd (by rw [und_uw hWT hN12 N 0 0 (by omega)]) h220

set_option maxHeartbeats 4000000 in
set_option maxRecDepth 100000 in
theorem c_same {g : jv_G} {X : jv_X} {T : jv_T} {L : Nat → Nat → Int64} {k z : Nat} {sx : Nat → jv_S} {tg pl : Nat → Nat} {n : Nat} {V : Nat → Nat → Int32} {N K R t : Nat} (HT : TS V N K R t) (H : REP tg pl n (SH sx) V V N K R) (ht : t < 2 ^ 30) (hM : jv_M g X T) (hT : T (.inl (some (.int (nI 1)))) n (SH sx) V L) : jv_J g X I_X6_isSame 0 [some (jv_r g 123), some (jv_r g 0), none, none, none, none] [] n (SH sx) V L k z := by
  have hn := H.n124
  have hN2 := H.N2
  have hN12 := H.N12
  have hK4 := H.K4
  have hR8 := H.R8
  
  refine j_iconst (v := nI 0) dX6_isSame_0 nc_iconst_0 ?_
  refine j_istore_n_2 rfl (by decide) dX6_isSame_1 ?_
  refine j_iconst (v := nI 0) dX6_isSame_2 nc_iconst_0 ?_
  refine j_istore_n_3 rfl (by decide) dX6_isSame_3 ?_
  refine c_same1 HT H (N + 1) 0 (nI 0) (by omega) (by omega) ?_
  refine j_iconst (v := nI 0) dX6_isSame_95 nc_iconst_0 ?_
  refine j_istore_n_3 rfl (by decide) dX6_isSame_96 ?_
  refine c_same2 HT H ?_ (K + 1) 0 (by omega) (by omega)
  refine j_iconst (v := nI 0) dX6_isSame_139 nc_iconst_0 ?_
  refine j_istore_n_3 rfl (by decide) dX6_isSame_140 ?_
  refine c_same3 HT H ht ?_ (R + 1) 0 (by omega) (by omega)
  obtain ⟨s, es, hs⟩ := HT.sm
  rw [Nat.sub_zero, es]
  refine j_aload_n_1 dX6_isSame_324 ?_
  refine C_X6_172  rfl (by decide) dX6_isSame_325 sk_0 (Nat.le_of_ble_eq_true rfl) (Nat.le_of_eq (Nat.zero_add _)) (Nat.le_of_eq (Nat.zero_add _)) (fun _ _ hM' hT' => g_floors HT.ct hM' hT') ?_
  refine j_aload_n_0 dX6_isSame_328 ?_
  refine G_X6_7 rfl dX6_isSame_329 H.s H.s1 ?_
  refine j_alen dX6_isSame_332 H.q2.1 H.q2.2.1 ?_
  refine j_ic_neN (by omega) (by omega) (tgt := 392) dX6_isSame_333 (by decide) (fun h333 => ?_) (fun h333 => ?_)
  · exact absurd rfl h333
  · refine j_aload_n_1 dX6_isSame_336 ?_
    refine C_X6_175  rfl (by decide) dX6_isSame_337 sk_0 (Nat.le_of_ble_eq_true rfl) (Nat.le_of_eq (Nat.zero_add _)) (Nat.le_of_eq (Nat.zero_add _)) (fun _ _ hM' hT' => g_hours HT.ct hM' hT') ?_
    refine j_aload_n_0 dX6_isSame_340 ?_
    refine G_X6_35 rfl dX6_isSame_341 H.s ?_
    refine j_top (y := V 0 5) H.hr ?_
    refine j_ic_ne (tgt := 392) dX6_isSame_344 (by decide) (fun h344 => ?_) (fun h344 => ?_)
    · exact absurd rfl h344
    · refine j_aload_n_1 dX6_isSame_347 ?_
      refine C_X6_178  rfl (by decide) dX6_isSame_348 sk_0 (Nat.le_of_ble_eq_true rfl) (Nat.le_of_eq (Nat.zero_add _)) (Nat.le_of_eq (Nat.zero_add _)) (fun _ _ hM' hT' => g_lifts HT.ct hM' hT') ?_
      refine j_aload_n_0 dX6_isSame_351 ?_
      refine G_X6_24 rfl dX6_isSame_352 H.s H.s5 ?_
      refine jr_alenA dX6_isSame_355 H.q7.1 H.q7.2.1 ?_
      refine j_ic_neN (by omega) (by omega) (tgt := 392) dX6_isSame_356 (by decide) (fun h356 => ?_) (fun h356 => ?_)
      · exact absurd rfl h356
      · refine j_aload_n_1 dX6_isSame_359 ?_
        refine C_X6_180  rfl (by decide) dX6_isSame_360 sk_0 (Nat.le_of_ble_eq_true rfl) (Nat.le_of_eq (Nat.zero_add _)) (Nat.le_of_eq (Nat.zero_add _)) (fun _ _ hM' hT' => g_rumours HT.ct hM' hT') ?_
        refine j_aload_n_0 dX6_isSame_363 ?_
        refine G_X6_30 rfl dX6_isSame_364 H.s H.s6 ?_
        refine jr_alenR dX6_isSame_367 H.q8.1 H.q8.2.1 ?_
        refine j_ic_neN (by omega) (by omega) (tgt := 392) dX6_isSame_368 (by decide) (fun h368 => ?_) (fun h368 => ?_)
        · exact absurd rfl h368
        · refine j_aload_n_1 dX6_isSame_371 ?_
          refine C_X6_182  rfl (by decide) dX6_isSame_372 sk_0 (Nat.le_of_ble_eq_true rfl) (Nat.le_of_eq (Nat.zero_add _)) (Nat.le_of_eq (Nat.zero_add _)) (fun _ _ hM' hT' => g_meanHeads HT.ct (by rw [es]; exact dv_n64 hs hN2 hN12) hM' hT') ?_
          refine j_iload_n_2 dX6_isSame_375 ?_
          refine j_i2d dX6_isSame_376 ?_
          refine j_aload_n_0 dX6_isSame_377 ?_
          refine G_X6_7 rfl dX6_isSame_378 H.s H.s1 ?_
          refine j_alen dX6_isSame_381 H.q2.1 H.q2.2.1 ?_
          refine j_i2d dX6_isSame_382 ?_
          refine j_ddiv (dv_n64 hs hN2 hN12) dX6_isSame_383 ?_
          rw [es]
          refine j_dcmp dX6_isSame_384 ?_
          refine j_if_ne (tgt := 392) dX6_isSame_385 (by decide) (fun h385 => ?_) (fun h385 => ?_)
          · exact absurd (dcq hs hN2 hN12) h385
          · refine j_iconst (v := nI 1) dX6_isSame_388 nc_iconst_1 ?_
            refine j_goto (tgt := 393) dX6_isSame_389 (by decide) ?_
            exact j_zret hM dX6_isSame_393 rfl (jv_b01 (by first | exact Or.inl rfl | exact Or.inr rfl | assumption)) hT
