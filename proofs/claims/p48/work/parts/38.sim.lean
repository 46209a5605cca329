/-! ===== the hand's tower: its own methods ===== -/
theorem jv_Ucm {V : Nat → Nat → Int32} {p q i j : Nat} {x y : Int32} (h : p ≠ q) : jv_U (jv_U V p i x) q j y = jv_U (jv_U V q j y) p i x := by
  funext a b
  unfold jv_U
  by_cases e1 : a = q
  · by_cases e2 : a = p
    · exact absurd (e2.symm.trans e1) h
    · simp only [if_pos e1, if_neg e2]
  · by_cases e2 : a = p
    · simp only [if_neg e1, if_pos e2]
    · simp only [if_neg e1, if_neg e2]
theorem reaL_cg {v w : Nat → Int32} : ∀ m f a, (∀ c, f ≤ c → c < f + m → v c = w c) → reaL v m f a = reaL w m f a := by
  intro m
  induction m with
  | zero => intro f a _; rfl
  | succ m ih =>
    intro f a h
    show reaL v m (f + 1) _ = reaL w m (f + 1) _
    rw [h f (by omega) (by omega), ih _ _ (fun c h1 h2 => h c (by omega) (by omega))]
def heaL (C : Nat → Nat → Int32) (N : Nat) : Nat → Nat → Int32 → Int32
  | 0, _, s => s
  | m + 1, j, s => heaL C N m (j + 1) (s + nI (reaL (C (43 + 10 * j + 2)) N 0 0))
theorem add_nI0 (a : Int32) : a + nI 0 = a := by rw [nI_0]; exact Int32.add_zero a
def okP (x : Int32) : Prop := x = -1 ∨ ∃ p, x = nI p ∧ 1 ≤ p ∧ p ≤ 14
def enc (acc : Int32) : Int32 := if acc = -1 then nI 99 else acc
theorem enc_m : enc (-1) = nI 99 := if_pos rfl
theorem okP.ne {x : Int32} (h : okP x) : x = -1 ∨ ¬ x = nI 99 := by
  rcases h with h | ⟨p, rfl, h1, h2⟩
  · exact Or.inl h
  · exact Or.inr (fun c => by rw [nI_eq (by omega) (by omega)] at c; omega)
def stp1 (acc y : Int32) : Int32 := if ¬ y = -1 ∧ (acc = -1 ∨ y < acc) then y else acc
theorem stp1_ok {acc : Int32} {p : Nat} (h : okP acc) (h1 : 1 ≤ p) (h2 : p ≤ 14) : okP (stp1 acc (nI p)) := by
  unfold stp1
  split
  · exact Or.inr ⟨p, rfl, h1, h2⟩
  · exact h
theorem enc_min {acc : Int32} {p : Nat} (h : okP acc) (h2 : p ≤ 14) : (if nI p < enc acc then nI p else enc acc) = enc (stp1 acc (nI p)) := by
  have hp : ¬ nI p = -1 := nI_nm1 (by omega)
  by_cases e : acc = -1
  · subst e
    have e1 : stp1 (-1) (nI p) = nI p := if_pos ⟨hp, Or.inl rfl⟩
    have e2 : enc (nI p) = nI p := if_neg hp
    rw [e1, e2, enc_m, if_pos (nI_lt (by omega) (by omega))]
  · have e1 : enc acc = acc := if_neg e
    unfold stp1
    rw [e1]
    by_cases c : nI p < acc
    · rw [if_pos c, if_pos ⟨hp, Or.inr c⟩]
      unfold enc
      rw [if_neg hp]
    · rw [if_neg c, if_neg (fun d => d.2.elim e c), e1]
theorem layX_fh {C : Nat → Nat → Int32} {K a b lw hg : Nat} (h : (a = lw ∧ b = hg) ∨ (a = hg ∧ b = lw)) (hl : lw < hg) : layX C K (8 + a) b = fhL C lw hg K 0 (if hg - lw = 1 ∧ ¬ C 5 lw = 0 then C 4 lw else -1) := by
  unfold layX
  rcases h with ⟨rfl, rfl⟩ | ⟨rfl, rfl⟩
  · rw [if_neg (by omega), if_pos (by omega), show 8 + a - 8 = a by omega]
    rfl
  · rw [if_neg (by omega), if_neg (by omega), show 8 + a - 8 = a by omega]
    rfl
theorem hrs_no {C : Nat → Nat → Int32} {q lw hg : Nat} (h : C q 0 = 0 ∨ C (q + 1) lw = 0 ∨ C (q + 1) hg = 0) : hrs C q lw hg = -1 := by
  unfold hrs
  rw [if_neg (fun c => h.elim c.1 (fun d => d.elim c.2.1 c.2.2))]
theorem fhL_step {C : Nat → Nat → Int32} {K k lw hg : Nat} {acc : Int32} (hk : k < K) : fhL C lw hg (K - k) k acc = fhL C lw hg (K - (k + 1)) (k + 1) (stp1 acc (hrs C (20 + 2 * k) lw hg)) := by
  rw [show K - k = K - (k + 1) + 1 by omega]
  rfl
theorem stp1_no {acc : Int32} : stp1 acc (-1) = acc := by
  unfold stp1
  rw [if_neg (fun c => c.1 rfl)]

set_option maxHeartbeats 4000000 in
set_option maxRecDepth 100000 in
theorem c_hear {g : jv_G} {X : jv_X} {T : jv_T} {n : Nat} {sh : Nat → jv_S} {V : Nat → Nat → Int32} {L : Nat → Nat → Int64} {k z : Nat} {tg pl : Nat → Nat} {C : Nat → Nat → Int32} {N K R : Nat} (H : REP tg pl n sh V C N K R) {j f : Nat} {p : Int32} (hj : j < R) (hf : f < N) (hM : jv_M g X T) (hT : ∀ V1, REP tg pl n sh V1 (brR C (43 + 10 * j) f p (C 0 5)) N K R → (∀ q, (∀ o, 1 ≤ o → o ≤ 6 → q ≠ pl (20 + 10 * j + o)) → V1 q = V q) → T (.inl none) n sh V1 L) : jv_J g X I_X6_hear 0 [some (jv_r g 123), some (jv_r g (pl (20 + 10 * j))), some (.int (nI f)), some (.int p)] [] n sh V L k z := by
  have hb := H.N12
  refine j_aload_n_1 dX6_hear_0 ?_
  refine G_X6_65 rfl dX6_hear_1 (H.ob hj).1 ((H.ob hj).2.2.2 1 (by decide) (by decide)) ?_
  refine j_iload_n_2 dX6_hear_4 ?_
  refine j_iald dX6_hear_5 (H.rw hj 1 (by decide) (by decide)).1 (H.rw hj 1 (by decide) (by decide)).2.1 (by omega) (by omega) ?_
  refine j_top (y := C (43 + 10 * j + 1) f) ((H.rw hj 1 (by decide) (by decide)).2.2 f hf) ?_
  refine j_if_eq (tgt := 10) dX6_hear_6 (by decide) (fun h6 => ?_) (fun h6 => ?_)
  · refine j_aload_n_1 dX6_hear_10 ?_
    refine G_X6_65 rfl dX6_hear_11 (H.ob hj).1 ((H.ob hj).2.2.2 1 (by decide) (by decide)) ?_
    refine j_iload_n_2 dX6_hear_14 ?_
    refine j_iconst (v := nI 1) dX6_hear_15 nc_iconst_1 ?_
    refine j_iast dX6_hear_16 (H.rw hj 1 (by decide) (by decide)).1 (H.rw hj 1 (by decide) (by decide)).2.1 (by omega) (by omega) ?_
    have H1 := H.w (o := 1) (f := f) (x := nI 1) hj (by decide) (by decide)
    refine j_aload_n_1 dX6_hear_17 ?_
    refine G_X6_68 rfl dX6_hear_18 (H1.ob hj).1 ((H1.ob hj).2.2.2 2 (by decide) (by decide)) ?_
    refine j_iload_n_2 dX6_hear_21 ?_
    refine j_aload_n_0 dX6_hear_22 ?_
    refine G_X6_35 rfl dX6_hear_23 H1.s ?_
    refine j_top (y := C 0 5) (H1.hr.trans (jv_Une (by omega))) ?_
    refine j_iast dX6_hear_26 (H1.rw hj 2 (by decide) (by decide)).1 (H1.rw hj 2 (by decide) (by decide)).2.1 (by omega) (by omega) ?_
    have H2 := H1.w (o := 2) (f := f) (x := C 0 5) hj (by decide) (by decide)
    refine j_aload_n_1 dX6_hear_27 ?_
    refine G_X6_71 rfl dX6_hear_28 (H2.ob hj).1 ((H2.ob hj).2.2.2 4 (by decide) (by decide)) ?_
    refine j_iload_n_2 dX6_hear_31 ?_
    refine j_iload_n_3 dX6_hear_32 ?_
    refine j_iast dX6_hear_33 (H2.rw hj 4 (by decide) (by decide)).1 (H2.rw hj 4 (by decide) (by decide)).2.1 (by omega) (by omega) ?_
    have H3 := H2.w (o := 4) (f := f) (x := p) hj (by decide) (by decide)
    refine j_aload_n_1 dX6_hear_34 ?_
    refine G_X6_74 rfl dX6_hear_35 (H3.ob hj).1 ((H3.ob hj).2.2.2 5 (by decide) (by decide)) ?_
    refine j_iload_n_2 dX6_hear_38 ?_
    refine j_aload_n_0 dX6_hear_39 ?_
    refine G_X6_35 rfl dX6_hear_40 H3.s ?_
    refine j_top (y := C 0 5) (H3.hr.trans (by rw [jv_Une (by omega), jv_Une (by omega), jv_Une (by omega)])) ?_
    refine j_aload_n_0 dX6_hear_43 ?_
    refine G_X6_13 rfl dX6_hear_44 H3.s H3.s2 ?_
    refine j_iload_n_2 dX6_hear_47 ?_
    refine j_iald dX6_hear_48 H3.q3.1 H3.q3.2.1 (by omega) (by omega) ?_
    refine j_top (y := C 3 f) ((H3.q3.2.2 f hf).trans (by rw [jv_Une (by omega), jv_Une (by omega), jv_Une (by omega)])) ?_
    refine j_iadd dX6_hear_49 ?_
    refine j_iast dX6_hear_50 (H3.rw hj 5 (by decide) (by decide)).1 (H3.rw hj 5 (by decide) (by decide)).2.1 (by omega) (by omega) ?_
    have H4 := H3.w (o := 5) (f := f) (x := C 0 5 + C 3 f) hj (by decide) (by decide)
    exact j_vret hM dX6_hear_51 rfl (hT _ (by unfold brR; rw [if_pos h6]; exact H4) (fun q hq => by rw [jv_U_other (hq 5 (by decide) (by decide)), jv_U_other (hq 4 (by decide) (by decide)), jv_U_other (hq 2 (by decide) (by decide)), jv_U_other (hq 1 (by decide) (by decide))]))
  · exact j_vret hM dX6_hear_9 rfl (hT V (by unfold brR; rw [if_neg h6]; exact H) (fun _ _ => rfl))

set_option maxHeartbeats 4000000 in
set_option maxRecDepth 100000 in
theorem c_deny {g : jv_G} {X : jv_X} {T : jv_T} {n : Nat} {sh : Nat → jv_S} {V : Nat → Nat → Int32} {L : Nat → Nat → Int64} {k z : Nat} {tg pl : Nat → Nat} {C : Nat → Nat → Int32} {N K R : Nat} (H : REP tg pl n sh V C N K R) {j f : Nat} (hj : j < R) (hf : f < N) (hM : jv_M g X T) (hT : ∀ V1, REP tg pl n sh V1 (brD C (43 + 10 * j) f (C 0 5)) N K R → (∀ q, (∀ o, 1 ≤ o → o ≤ 6 → q ≠ pl (20 + 10 * j + o)) → V1 q = V q) → T (.inl none) n sh V1 L) : jv_J g X I_X6_deny 0 [some (jv_r g 123), some (jv_r g (pl (20 + 10 * j))), some (.int (nI f))] [] n sh V L k z := by
  have hb := H.N12
  refine j_aload_n_1 dX6_deny_0 ?_
  refine G_X6_65 rfl dX6_deny_1 (H.ob hj).1 ((H.ob hj).2.2.2 1 (by decide) (by decide)) ?_
  refine j_iload_n_2 dX6_deny_4 ?_
  refine j_iald dX6_deny_5 (H.rw hj 1 (by decide) (by decide)).1 (H.rw hj 1 (by decide) (by decide)).2.1 (by omega) (by omega) ?_
  refine j_top (y := C (43 + 10 * j + 1) f) ((H.rw hj 1 (by decide) (by decide)).2.2 f hf) ?_
  refine j_iconst (v := nI 2) dX6_deny_6 nc_iconst_2 ?_
  refine j_ic_ne (tgt := 11) dX6_deny_7 (by decide) (fun h7 => ?_) (fun h7 => ?_)
  · refine j_aload_n_1 dX6_deny_11 ?_
    refine G_X6_65 rfl dX6_deny_12 (H.ob hj).1 ((H.ob hj).2.2.2 1 (by decide) (by decide)) ?_
    refine j_iload_n_2 dX6_deny_15 ?_
    refine j_iconst (v := nI 2) dX6_deny_16 nc_iconst_2 ?_
    refine j_iast dX6_deny_17 (H.rw hj 1 (by decide) (by decide)).1 (H.rw hj 1 (by decide) (by decide)).2.1 (by omega) (by omega) ?_
    have H1 := H.w (o := 1) (f := f) (x := nI 2) hj (by decide) (by decide)
    refine j_aload_n_1 dX6_deny_18 ?_
    refine G_X6_77 rfl dX6_deny_19 (H1.ob hj).1 ((H1.ob hj).2.2.2 3 (by decide) (by decide)) ?_
    refine j_iload_n_2 dX6_deny_22 ?_
    refine j_aload_n_0 dX6_deny_23 ?_
    refine G_X6_35 rfl dX6_deny_24 H1.s ?_
    refine j_top (y := C 0 5) (H1.hr.trans (jv_Une (by omega))) ?_
    refine j_iast dX6_deny_27 (H1.rw hj 3 (by decide) (by decide)).1 (H1.rw hj 3 (by decide) (by decide)).2.1 (by omega) (by omega) ?_
    have H2 := H1.w (o := 3) (f := f) (x := C 0 5) hj (by decide) (by decide)
    refine j_aload_n_1 dX6_deny_28 ?_
    refine G_X6_74 rfl dX6_deny_29 (H2.ob hj).1 ((H2.ob hj).2.2.2 5 (by decide) (by decide)) ?_
    refine j_iload_n_2 dX6_deny_32 ?_
    refine j_iconst (v := -1) dX6_deny_33 nc_iconst_m1 ?_
    refine j_iast dX6_deny_34 (H2.rw hj 5 (by decide) (by decide)).1 (H2.rw hj 5 (by decide) (by decide)).2.1 (by omega) (by omega) ?_
    have H3 := H2.w (o := 5) (f := f) (x := -1) hj (by decide) (by decide)
    refine j_aload_n_1 dX6_deny_35 ?_
    refine G_X6_80 rfl dX6_deny_36 (H3.ob hj).1 ((H3.ob hj).2.2.2 6 (by decide) (by decide)) ?_
    refine j_iload_n_2 dX6_deny_39 ?_
    refine j_aload_n_0 dX6_deny_40 ?_
    refine G_X6_35 rfl dX6_deny_41 H3.s ?_
    refine j_top (y := C 0 5) (H3.hr.trans (by rw [jv_Une (by omega), jv_Une (by omega), jv_Une (by omega)])) ?_
    refine j_aload_n_0 dX6_deny_44 ?_
    refine G_X6_13 rfl dX6_deny_45 H3.s H3.s2 ?_
    refine j_iload_n_2 dX6_deny_48 ?_
    refine j_iald dX6_deny_49 H3.q3.1 H3.q3.2.1 (by omega) (by omega) ?_
    refine j_top (y := C 3 f) ((H3.q3.2.2 f hf).trans (by rw [jv_Une (by omega), jv_Une (by omega), jv_Une (by omega)])) ?_
    refine j_iconst (v := nI 2) dX6_deny_50 nc_iconst_2 ?_
    refine j_idiv (by decide +kernel) dX6_deny_51 ?_
    refine j_iadd dX6_deny_52 ?_
    refine j_iast dX6_deny_53 (H3.rw hj 6 (by decide) (by decide)).1 (H3.rw hj 6 (by decide) (by decide)).2.1 (by omega) (by omega) ?_
    have H4 := H3.w (o := 6) (f := f) (x := C 0 5 + C 3 f / nI 2) hj (by decide) (by decide)
    exact j_vret hM dX6_deny_54 rfl (hT _ (by unfold brD; rw [if_neg h7, jv_Ucm (p := 43 + 10 * j + 6) (q := 43 + 10 * j + 5) (by omega)]; exact H4) (fun q hq => by rw [jv_U_other (hq 6 (by decide) (by decide)), jv_U_other (hq 5 (by decide) (by decide)), jv_U_other (hq 3 (by decide) (by decide)), jv_U_other (hq 1 (by decide) (by decide))]))
  · exact j_vret hM dX6_deny_10 rfl (hT V (by unfold brD; rw [if_pos h7]; exact H) (fun _ _ => rfl))

set_option maxHeartbeats 4000000 in
set_option maxRecDepth 100000 in
theorem c_serves_loop {g : jv_G} {X : jv_X} {T : jv_T} {n : Nat} {sh : Nat → jv_S} {V : Nat → Nat → Int32} {L : Nat → Nat → Int64} {k z : Nat} {q f lo hi ev : Nat} (hqk : (sh q).1 = 10) (hqn : (sh q).2.1 = 5) (b0 : V q 0 = nI lo) (b1 : V q 1 = nI hi) (b2 : V q 2 = nI ev) (hl : lo < hi) (hh : hi < 12) (he : 1 ≤ ev) (he2 : ev ≤ 12) (hf : f < 12) (hM : jv_M g X T) (hT : T (.inl (some (.int (bz (decide (¬ stp lo hi ev f = 0)))))) n sh V L) : ∀ (m : Nat) (at1 : Nat), lo ≤ at1 → at1 ≤ 24 → 25 ≤ at1 + m → (at1 - lo) % ev = 0 → (∀ b, lo ≤ b → b < at1 → (b - lo) % ev = 0 → ¬ b = f) → jv_J g X I_X6_serves 4 [some (jv_r g q), some (.int (nI f)), some (.int (nI at1))] [] n sh V L k z := by
  intro m
  induction m with
  | zero => intro at1 h1 h2 hm hmod hno; omega
  | succ m ih =>
  intro at1 h1 h2 hm hmod hno
  refine j_iload_n_2 dX6_serves_4 ?_
  refine j_aload_n_0 dX6_serves_5 ?_
  refine j_iconst (v := nI 1) dX6_serves_6 nc_iconst_1 ?_
  refine j_iald dX6_serves_7 hqk hqn (by omega) (by omega) ?_
  refine j_top (y := nI hi) b1 ?_
  refine j_ic_gtN (by omega) (by omega) (tgt := 27) dX6_serves_8 (by decide) (fun h8 => ?_) (fun h8 => ?_)
  · have e0 : stp lo hi ev f = nI 0 := if_neg (fun c => hno f c.1 (by omega) c.2.2 rfl)
    rw [e0, decide_eq_false (fun c => c nI_0)] at hT
    refine j_iconst (v := nI 0) dX6_serves_27 nc_iconst_0 ?_
    exact j_zret hM dX6_serves_28 rfl (jv_b01 (by first | exact Or.inl rfl | exact Or.inr rfl | assumption)) hT
  · refine j_iload_n_2 dX6_serves_11 ?_
    refine j_iload_n_1 dX6_serves_12 ?_
    refine j_ic_neN (by omega) (by omega) (tgt := 18) dX6_serves_13 (by decide) (fun h13 => ?_) (fun h13 => ?_)
    · refine j_iload_n_2 dX6_serves_18 ?_
      refine j_aload_n_0 dX6_serves_19 ?_
      refine j_iconst (v := nI 2) dX6_serves_20 nc_iconst_2 ?_
      refine j_iald dX6_serves_21 hqk hqn (by omega) (by omega) ?_
      refine j_top (y := nI ev) b2 ?_
      refine j_iaddN dX6_serves_22 ?_
      refine j_istore_n_2 rfl (by decide) dX6_serves_23 ?_
      refine j_goto (tgt := 4) dX6_serves_24 (by decide) ?_
      refine ih (at1 + ev) (by omega) (by omega) (by omega) (by rw [show at1 + ev - lo = (at1 - lo) + ev by omega, Nat.add_mod_right]; exact hmod) (fun b c1 c2 c3 => ?_)
      by_cases e : b < at1
      · exact hno b c1 e c3
      · have c4 : (b - at1) % ev = 0 := by
          have c5 : b - lo = (b - at1) + (at1 - lo) := by omega
          rw [c5, Nat.add_mod, hmod, Nat.add_zero, Nat.mod_mod] at c3
          exact c3
        rw [Nat.mod_eq_of_lt (by omega)] at c4
        omega
    · have e0 : stp lo hi ev f = nI 1 := if_pos ⟨by omega, by omega, by rw [← h13]; exact hmod⟩
      rw [e0, decide_eq_true (by decide +kernel)] at hT
      refine j_iconst (v := nI 1) dX6_serves_16 nc_iconst_1 ?_
      exact j_zret hM dX6_serves_17 rfl (jv_b01 (by first | exact Or.inl rfl | exact Or.inr rfl | assumption)) hT

set_option maxHeartbeats 4000000 in
set_option maxRecDepth 100000 in
theorem c_serves {g : jv_G} {X : jv_X} {T : jv_T} {n : Nat} {sh : Nat → jv_S} {V : Nat → Nat → Int32} {L : Nat → Nat → Int64} {k z : Nat} {q f lo hi ev : Nat} (hqk : (sh q).1 = 10) (hqn : (sh q).2.1 = 5) (b0 : V q 0 = nI lo) (b1 : V q 1 = nI hi) (b2 : V q 2 = nI ev) (hl : lo < hi) (hh : hi < 12) (he : 1 ≤ ev) (he2 : ev ≤ 12) (hf : f < 12) (hM : jv_M g X T) (hT : T (.inl (some (.int (bz (decide (¬ stp lo hi ev f = 0)))))) n sh V L) : jv_J g X I_X6_serves 0 [some (jv_r g q), some (.int (nI f)), none] [] n sh V L k z := by
  refine j_aload_n_0 dX6_serves_0 ?_
  refine j_iconst (v := nI 0) dX6_serves_1 nc_iconst_0 ?_
  refine j_iald dX6_serves_2 hqk hqn (by omega) (by omega) ?_
  refine j_top (y := nI lo) b0 ?_
  refine j_istore_n_2 rfl (by decide) dX6_serves_3 ?_
  exact c_serves_loop hqk hqn b0 b1 b2 hl hh he he2 hf hM hT 25 lo (by omega) (by omega) (by omega) (by rw [Nat.sub_self]; exact Nat.zero_mod _) (fun b c1 c2 => by omega)

set_option maxHeartbeats 4000000 in
set_option maxRecDepth 100000 in
theorem c_pipe_loop {g : jv_G} {X : jv_X} {T : jv_T} {n : Nat} {sh : Nat → jv_S} {V : Nat → Nat → Int32} {L : Nat → Nat → Int64} {kk z : Nat} {tg pl : Nat → Nat} {C : Nat → Nat → Int32} {N K R : Nat} (H : REP tg pl n sh V C N K R) {a b : Nat} (ha : a < N) (hb : b < N) {lw hg : Nat} (hab : (a = lw ∧ b = hg) ∨ (a = hg ∧ b = lw)) (hlh : lw < hg) (hM : jv_M g X T) : ∀ (m : Nat) (k : Nat) (acc : Int32) (v7 : Option Value), k ≤ K → K + 1 ≤ k + m → okP acc → T (.inl (some (.int (fhL C lw hg (K - k) k acc)))) n sh V L → jv_J g X I_X6_pipe 70 [some (jv_r g 123), some (.int (nI a)), some (.int (nI b)), some (.int (enc acc)), some (jv_r g (pl 7)), some (.int (nI K)), some (.int (nI k)), v7] [] n sh V L kk z := by
  intro m
  induction m with
  | zero => intro k acc v7 hk1 hm hacc hT; omega
  | succ m ih =>
  intro k acc v7 hk1 hm hacc hT
  refine j_iload_6 dX6_pipe_70 ?_
  refine j_iload_5 dX6_pipe_72 ?_
  refine j_ic_geN (by have := H.K4; omega) (by have := H.K4; omega) (tgt := 142) dX6_pipe_74 (by decide) (fun h74 => ?_) (fun h74 => ?_)
  · rw [show K - k = 0 by omega] at hT
    refine j_iload_n_3 dX6_pipe_142 ?_
    refine j_bipush (v := nI 99) dX6_pipe_143 nc_bipush_99 ?_
    refine j_ic_ne (tgt := 152) dX6_pipe_145 (by decide) (fun h145 => ?_) (fun h145 => ?_)
    · have e9 : enc acc = acc := if_neg (fun c => h145 (by rw [c]; exact enc_m))
      refine j_iload_n_3 dX6_pipe_152 ?_
      exact j_iret hM dX6_pipe_153 rfl (by rw [e9]; exact hT)
    · refine j_iconst (v := -1) dX6_pipe_148 nc_iconst_m1 ?_
      refine j_goto (tgt := 153) dX6_pipe_149 (by decide) ?_
      exact j_iret hM dX6_pipe_153 rfl (by have e8 : acc = -1 := Decidable.byContradiction (fun c => hacc.ne.elim c (fun d => d ((if_neg c : enc acc = acc).symm.trans h145))); rw [← e8]; exact hT)
  · have hk : k < K := by omega
    obtain ⟨hlk, hln, lo, hi, ev, wt, b0, b1, b2, b3, c1, c2, c3, c4, c5, c6, d0, d1, d2, d3⟩ := H.lf hk
    have hN := H.N12
    have sa : C (20 + 2 * k + 1) a = stp lo hi ev a := d3 a (by omega)
    have sb : C (20 + 2 * k + 1) b = stp lo hi ev b := d3 b (by omega)
    have hed : ev ≤ 12 := by omega
    refine j_aload_4 dX6_pipe_77 ?_
    refine j_iload_6 dX6_pipe_79 ?_
    refine jr_aaldA dX6_pipe_81 H.q7.1 H.q7.2.1 (by omega) (by have := H.K4; omega) (H.q7.2.2 k hk) ?_
    refine j_astore_7 rfl (by decide) dX6_pipe_82 ?_
    refine j_aload_7 dX6_pipe_84 ?_
    refine j_iconst (v := nI 4) dX6_pipe_86 nc_iconst_4 ?_
    refine j_iald dX6_pipe_87 hlk hln (by omega) (by omega) ?_
    refine j_iconst (v := nI 1) dX6_pipe_88 nc_iconst_1 ?_
    refine j_ic_ne (tgt := 136) dX6_pipe_89 (by decide) (fun h89 => ?_) (fun h89 => ?_)
    · refine j_inc1_6 rfl (by decide) dX6_pipe_136 ?_
      refine j_goto (tgt := 70) dX6_pipe_139 (by decide) ?_
      refine ih (k + 1) acc _ (by omega) (by omega) hacc ?_
      rw [fhL_step hk, hrs_no (Or.inl (by rw [d1]; exact d0.resolve_right (fun c => h89 (c.trans (by decide +kernel))))), stp1_no] at hT
      exact hT
    · refine j_aload_7 dX6_pipe_92 ?_
      refine j_iload_n_1 dX6_pipe_94 ?_
      refine C_X6_83  rfl (by decide) dX6_pipe_95 (Nat.le_of_ble_eq_true rfl) (Nat.le_of_eq (Nat.zero_add _)) (Nat.le_of_eq (Nat.zero_add _)) (fun _ _ hM' hT' => c_serves (lo := lo) (hi := hi) (ev := ev) (f := a) hlk hln b0 b1 b2 c1 (by omega) c3 hed (by omega) hM' hT') ?_
      refine j_if_eq (tgt := 136) dX6_pipe_98 (by decide) (fun h98 => ?_) (fun h98 => ?_)
      · refine j_inc1_6 rfl (by decide) dX6_pipe_136 ?_
        refine j_goto (tgt := 70) dX6_pipe_139 (by decide) ?_
        have n2 : C (20 + 2 * k + 1) a = 0 := by
          rw [sa]
          exact Decidable.byContradiction (fun c => by rw [decide_eq_true c] at h98; exact absurd h98 (by decide +kernel))
        have n3 : C (20 + 2 * k + 1) lw = 0 ∨ C (20 + 2 * k + 1) hg = 0 := by
          rcases hab with ⟨e1, e2⟩ | ⟨e1, e2⟩
          · exact Or.inl (by rw [← e1]; exact n2)
          · exact Or.inr (by rw [← e1]; exact n2)
        refine ih (k + 1) acc _ (by omega) (by omega) hacc ?_
        rw [fhL_step hk, hrs_no (Or.inr n3), stp1_no] at hT
        exact hT
      · refine j_aload_7 dX6_pipe_101 ?_
        refine j_iload_n_2 dX6_pipe_103 ?_
        refine C_X6_83  rfl (by decide) dX6_pipe_104 (Nat.le_of_ble_eq_true rfl) (Nat.le_of_eq (Nat.zero_add _)) (Nat.le_of_eq (Nat.zero_add _)) (fun _ _ hM' hT' => c_serves (lo := lo) (hi := hi) (ev := ev) (f := b) hlk hln b0 b1 b2 c1 (by omega) c3 hed (by omega) hM' hT') ?_
        refine j_if_eq (tgt := 136) dX6_pipe_107 (by decide) (fun h107 => ?_) (fun h107 => ?_)
        · refine j_inc1_6 rfl (by decide) dX6_pipe_136 ?_
          refine j_goto (tgt := 70) dX6_pipe_139 (by decide) ?_
          have n2 : C (20 + 2 * k + 1) b = 0 := by
            rw [sb]
            exact Decidable.byContradiction (fun c => by rw [decide_eq_true c] at h107; exact absurd h107 (by decide +kernel))
          have n3 : C (20 + 2 * k + 1) lw = 0 ∨ C (20 + 2 * k + 1) hg = 0 := by
            rcases hab with ⟨e1, e2⟩ | ⟨e1, e2⟩
            · exact Or.inr (by rw [← e2]; exact n2)
            · exact Or.inl (by rw [← e2]; exact n2)
          refine ih (k + 1) acc _ (by omega) (by omega) hacc ?_
          rw [fhL_step hk, hrs_no (Or.inr n3), stp1_no] at hT
          exact hT
        · refine j_iload_n_3 dX6_pipe_110 ?_
          refine j_aload_7 dX6_pipe_111 ?_
          refine j_iconst (v := nI 3) dX6_pipe_113 nc_iconst_3 ?_
          refine j_iald dX6_pipe_114 hlk hln (by omega) (by omega) ?_
          refine j_top (y := nI wt) b3 ?_
          refine j_iload_n_1 dX6_pipe_115 ?_
          refine j_iload_n_2 dX6_pipe_116 ?_
          refine j_ic_leN (by have := H.N12; omega) (by have := H.N12; omega) (tgt := 126) dX6_pipe_117 (by decide) (fun h117 => ?_) (fun h117 => ?_)
          · refine j_iload_n_2 dX6_pipe_126 ?_
            refine j_iload_n_1 dX6_pipe_127 ?_
            refine j_isubN (by omega) dX6_pipe_128 ?_
            refine j_iconst (v := nI 2) dX6_pipe_129 nc_iconst_2 ?_
            refine j_idiv (by decide +kernel) dX6_pipe_130 ?_
            refine j_top (y := nI ((b - a) / 2)) (pk_div (by omega) (by decide) (by decide)) ?_
            refine j_iaddN dX6_pipe_131 ?_
            refine j_top (y := nI (wt + (hg - lw) / 2)) (by rw [show b - a = hg - lw by omega]) ?_
            refine MX_X6_87 rfl (by decide) dX6_pipe_132 (Nat.le_of_ble_eq_true rfl) ?_
            refine j_top (y := _) (enc_min hacc (by omega)) ?_
            refine j_istore_n_3 rfl (by decide) dX6_pipe_135 ?_
            refine j_inc1_6 rfl (by decide) dX6_pipe_136 ?_
            refine j_goto (tgt := 70) dX6_pipe_139 (by decide) ?_
            refine ih (k + 1) _ _ (by omega) (by omega) (stp1_ok hacc (p := wt + (hg - lw) / 2) (by omega) (by omega)) ?_
            rw [fhL_step hk, show hrs C (20 + 2 * k) lw hg = nI (wt + (hg - lw) / 2) from by
              unfold hrs
              have n1 : ¬ C (20 + 2 * k) 0 = 0 := by rw [d1, h89]; decide +kernel
              have n2 : ¬ C (20 + 2 * k + 1) a = 0 := by
                rw [sa]
                intro c
                rw [decide_eq_false (fun d => d c)] at h98
                exact h98 (by decide +kernel)
              have n3 : ¬ C (20 + 2 * k + 1) b = 0 := by
                rw [sb]
                intro c
                rw [decide_eq_false (fun d => d c)] at h107
                exact h107 (by decide +kernel)
              rw [if_pos (by rcases hab with ⟨e1, e2⟩ | ⟨e1, e2⟩ <;> subst e1 <;> subst e2 <;> first | exact ⟨n1, n2, n3⟩ | exact ⟨n1, n3, n2⟩), d2, nI_add]] at hT
            exact hT
          · refine j_iload_n_1 dX6_pipe_120 ?_
            refine j_iload_n_2 dX6_pipe_121 ?_
            refine j_isubN (by omega) dX6_pipe_122 ?_
            refine j_goto (tgt := 129) dX6_pipe_123 (by decide) ?_
            refine j_iconst (v := nI 2) dX6_pipe_129 nc_iconst_2 ?_
            refine j_idiv (by decide +kernel) dX6_pipe_130 ?_
            refine j_top (y := nI ((a - b) / 2)) (pk_div (by omega) (by decide) (by decide)) ?_
            refine j_iaddN dX6_pipe_131 ?_
            refine j_top (y := nI (wt + (hg - lw) / 2)) (by rw [show a - b = hg - lw by omega]) ?_
            refine MX_X6_87 rfl (by decide) dX6_pipe_132 (Nat.le_of_ble_eq_true rfl) ?_
            refine j_top (y := _) (enc_min hacc (by omega)) ?_
            refine j_istore_n_3 rfl (by decide) dX6_pipe_135 ?_
            refine j_inc1_6 rfl (by decide) dX6_pipe_136 ?_
            refine j_goto (tgt := 70) dX6_pipe_139 (by decide) ?_
            refine ih (k + 1) _ _ (by omega) (by omega) (stp1_ok hacc (p := wt + (hg - lw) / 2) (by omega) (by omega)) ?_
            rw [fhL_step hk, show hrs C (20 + 2 * k) lw hg = nI (wt + (hg - lw) / 2) from by
              unfold hrs
              have n1 : ¬ C (20 + 2 * k) 0 = 0 := by rw [d1, h89]; decide +kernel
              have n2 : ¬ C (20 + 2 * k + 1) a = 0 := by
                rw [sa]
                intro c
                rw [decide_eq_false (fun d => d c)] at h98
                exact h98 (by decide +kernel)
              have n3 : ¬ C (20 + 2 * k + 1) b = 0 := by
                rw [sb]
                intro c
                rw [decide_eq_false (fun d => d c)] at h107
                exact h107 (by decide +kernel)
              rw [if_pos (by rcases hab with ⟨e1, e2⟩ | ⟨e1, e2⟩ <;> subst e1 <;> subst e2 <;> first | exact ⟨n1, n2, n3⟩ | exact ⟨n1, n3, n2⟩), d2, nI_add]] at hT
            exact hT

set_option maxHeartbeats 4000000 in
set_option maxRecDepth 100000 in
theorem c_pipe {g : jv_G} {X : jv_X} {T : jv_T} {n : Nat} {sh : Nat → jv_S} {V : Nat → Nat → Int32} {L : Nat → Nat → Int64} {k z : Nat} {tg pl : Nat → Nat} {C : Nat → Nat → Int32} {N K R : Nat} (H : REP tg pl n sh V C N K R) {a b : Nat} (ha : a < N) (hb : b < N) (hst : ∀ f, f < N - 1 → ∃ s, C 4 f = nI s ∧ 1 ≤ s ∧ s ≤ 9) (hM : jv_M g X T) (hT : T (.inl (some (.int (layX C K (8 + a) b)))) n sh V L) : jv_J g X I_X6_pipe 0 [some (jv_r g 123), some (.int (nI a)), some (.int (nI b)), none, none, none, none, none] [] n sh V L k z := by
  have hN := H.N12
  refine j_iload_n_1 dX6_pipe_0 ?_
  refine j_iload_n_2 dX6_pipe_1 ?_
  refine j_ic_neN (by omega) (by omega) (tgt := 7) dX6_pipe_2 (by decide) (fun h2 => ?_) (fun h2 => ?_)
  · refine j_bipush (v := nI 99) dX6_pipe_7 nc_bipush_99 ?_
    refine j_istore_n_3 rfl (by decide) dX6_pipe_9 ?_
    refine j_iload_n_1 dX6_pipe_10 ?_
    refine j_iload_n_2 dX6_pipe_11 ?_
    refine j_iconst (v := nI 1) dX6_pipe_12 nc_iconst_1 ?_
    refine j_iaddN dX6_pipe_13 ?_
    refine j_ic_neN (by omega) (by omega) (tgt := 33) dX6_pipe_14 (by decide) (fun h14 => ?_) (fun h14 => ?_)
    · refine j_iload_n_2 dX6_pipe_33 ?_
      refine j_iload_n_1 dX6_pipe_34 ?_
      refine j_iconst (v := nI 1) dX6_pipe_35 nc_iconst_1 ?_
      refine j_iaddN dX6_pipe_36 ?_
      refine j_ic_neN (by omega) (by omega) (tgt := 56) dX6_pipe_37 (by decide) (fun h37 => ?_) (fun h37 => ?_)
      · refine j_aload_n_0 dX6_pipe_56 ?_
        refine G_X6_24 rfl dX6_pipe_57 H.s H.s5 ?_
        refine j_astore_4 rfl (by decide) dX6_pipe_60 ?_
        refine j_aload_4 dX6_pipe_62 ?_
        refine jr_alenA dX6_pipe_64 H.q7.1 H.q7.2.1 ?_
        refine j_istore_5 rfl (by decide) dX6_pipe_65 ?_
        refine j_iconst (v := nI 0) dX6_pipe_67 nc_iconst_0 ?_
        refine j_istore_6 rfl (by decide) dX6_pipe_68 ?_
        have hN := H.N12
        rcases Nat.lt_or_gt_of_ne h2 with hl | hl
        · rw [layX_fh (Or.inl ⟨rfl, rfl⟩) hl, if_neg (fun c => by omega)] at hT
          have := c_pipe_loop (kk := k) (z := z) H ha hb (Or.inl ⟨rfl, rfl⟩) hl hM (K + 1) 0 (-1) none (by omega) (by omega) (Or.inl rfl) hT
          rw [enc_m] at this
          exact this
        · rw [layX_fh (Or.inr ⟨rfl, rfl⟩) hl, if_neg (fun c => by omega)] at hT
          have := c_pipe_loop (kk := k) (z := z) H ha hb (Or.inr ⟨rfl, rfl⟩) hl hM (K + 1) 0 (-1) none (by omega) (by omega) (Or.inl rfl) hT
          rw [enc_m] at this
          exact this
      · refine j_aload_n_0 dX6_pipe_40 ?_
        refine G_X6_19 rfl dX6_pipe_41 H.s H.s4 ?_
        refine j_iload_n_1 dX6_pipe_44 ?_
        refine j_bald dX6_pipe_45 H.q5.1 H.q5.2.1 (by omega) (by omega) ?_
        refine j_top (y := C 5 a) (H.q5.2.2 a (by omega)) ?_
        refine j_if_eq (tgt := 56) dX6_pipe_46 (by decide) (fun h46 => ?_) (fun h46 => ?_)
        · refine j_aload_n_0 dX6_pipe_56 ?_
          refine G_X6_24 rfl dX6_pipe_57 H.s H.s5 ?_
          refine j_astore_4 rfl (by decide) dX6_pipe_60 ?_
          refine j_aload_4 dX6_pipe_62 ?_
          refine jr_alenA dX6_pipe_64 H.q7.1 H.q7.2.1 ?_
          refine j_istore_5 rfl (by decide) dX6_pipe_65 ?_
          refine j_iconst (v := nI 0) dX6_pipe_67 nc_iconst_0 ?_
          refine j_istore_6 rfl (by decide) dX6_pipe_68 ?_
          rw [layX_fh (Or.inl ⟨rfl, rfl⟩) (by omega : a < b), if_neg (fun c => c.2 h46)] at hT
          have := c_pipe_loop (kk := k) (z := z) H ha hb (Or.inl ⟨rfl, rfl⟩) (by omega : a < b) hM (K + 1) 0 (-1) none (by omega) (by omega) (Or.inl rfl) hT
          rw [enc_m] at this
          exact this
        · refine j_aload_n_0 dX6_pipe_49 ?_
          refine G_X6_16 rfl dX6_pipe_50 H.s H.s3 ?_
          refine j_iload_n_1 dX6_pipe_53 ?_
          refine j_iald dX6_pipe_54 H.q4.1 H.q4.2.1 (by omega) (by omega) ?_
          refine j_top (y := C 4 a) (H.q4.2.2 a (by omega)) ?_
          refine j_istore_n_3 rfl (by decide) dX6_pipe_55 ?_
          refine j_aload_n_0 dX6_pipe_56 ?_
          refine G_X6_24 rfl dX6_pipe_57 H.s H.s5 ?_
          refine j_astore_4 rfl (by decide) dX6_pipe_60 ?_
          refine j_aload_4 dX6_pipe_62 ?_
          refine jr_alenA dX6_pipe_64 H.q7.1 H.q7.2.1 ?_
          refine j_istore_5 rfl (by decide) dX6_pipe_65 ?_
          refine j_iconst (v := nI 0) dX6_pipe_67 nc_iconst_0 ?_
          refine j_istore_6 rfl (by decide) dX6_pipe_68 ?_
          rw [layX_fh (Or.inl ⟨rfl, rfl⟩) (by omega : a < b), if_pos ⟨by omega, h46⟩] at hT
          obtain ⟨s, hs, hs1, hs9⟩ := hst a (by omega)
          have hsk : okP (C 4 a) := Or.inr ⟨s, hs, hs1, by omega⟩
          have := c_pipe_loop (kk := k) (z := z) H ha hb (Or.inl ⟨rfl, rfl⟩) (by omega : a < b) hM (K + 1) 0 (C 4 a) none (by omega) (by omega) hsk hT
          rw [show enc (C 4 a) = C 4 a from if_neg (by rw [hs]; exact nI_nm1 (by omega))] at this
          exact this
    · refine j_aload_n_0 dX6_pipe_17 ?_
      refine G_X6_19 rfl dX6_pipe_18 H.s H.s4 ?_
      refine j_iload_n_2 dX6_pipe_21 ?_
      refine j_bald dX6_pipe_22 H.q5.1 H.q5.2.1 (by omega) (by omega) ?_
      refine j_top (y := C 5 b) (H.q5.2.2 b (by omega)) ?_
      refine j_if_eq (tgt := 33) dX6_pipe_23 (by decide) (fun h23 => ?_) (fun h23 => ?_)
      · refine j_iload_n_2 dX6_pipe_33 ?_
        refine j_iload_n_1 dX6_pipe_34 ?_
        refine j_iconst (v := nI 1) dX6_pipe_35 nc_iconst_1 ?_
        refine j_iaddN dX6_pipe_36 ?_
        refine j_ic_neN (by omega) (by omega) (tgt := 56) dX6_pipe_37 (by decide) (fun h37 => ?_) (fun h37 => ?_)
        · refine j_aload_n_0 dX6_pipe_56 ?_
          refine G_X6_24 rfl dX6_pipe_57 H.s H.s5 ?_
          refine j_astore_4 rfl (by decide) dX6_pipe_60 ?_
          refine j_aload_4 dX6_pipe_62 ?_
          refine jr_alenA dX6_pipe_64 H.q7.1 H.q7.2.1 ?_
          refine j_istore_5 rfl (by decide) dX6_pipe_65 ?_
          refine j_iconst (v := nI 0) dX6_pipe_67 nc_iconst_0 ?_
          refine j_istore_6 rfl (by decide) dX6_pipe_68 ?_
          rw [layX_fh (Or.inr ⟨rfl, rfl⟩) (by omega : b < a), if_neg (fun c => c.2 h23)] at hT
          have := c_pipe_loop (kk := k) (z := z) H ha hb (Or.inr ⟨rfl, rfl⟩) (by omega : b < a) hM (K + 1) 0 (-1) none (by omega) (by omega) (Or.inl rfl) hT
          rw [enc_m] at this
          exact this
        · omega
      · refine j_aload_n_0 dX6_pipe_26 ?_
        refine G_X6_16 rfl dX6_pipe_27 H.s H.s3 ?_
        refine j_iload_n_2 dX6_pipe_30 ?_
        refine j_iald dX6_pipe_31 H.q4.1 H.q4.2.1 (by omega) (by omega) ?_
        refine j_top (y := C 4 b) (H.q4.2.2 b (by omega)) ?_
        refine j_istore_n_3 rfl (by decide) dX6_pipe_32 ?_
        refine j_iload_n_2 dX6_pipe_33 ?_
        refine j_iload_n_1 dX6_pipe_34 ?_
        refine j_iconst (v := nI 1) dX6_pipe_35 nc_iconst_1 ?_
        refine j_iaddN dX6_pipe_36 ?_
        refine j_ic_neN (by omega) (by omega) (tgt := 56) dX6_pipe_37 (by decide) (fun h37 => ?_) (fun h37 => ?_)
        · refine j_aload_n_0 dX6_pipe_56 ?_
          refine G_X6_24 rfl dX6_pipe_57 H.s H.s5 ?_
          refine j_astore_4 rfl (by decide) dX6_pipe_60 ?_
          refine j_aload_4 dX6_pipe_62 ?_
          refine jr_alenA dX6_pipe_64 H.q7.1 H.q7.2.1 ?_
          refine j_istore_5 rfl (by decide) dX6_pipe_65 ?_
          refine j_iconst (v := nI 0) dX6_pipe_67 nc_iconst_0 ?_
          refine j_istore_6 rfl (by decide) dX6_pipe_68 ?_
          rw [layX_fh (Or.inr ⟨rfl, rfl⟩) (by omega : b < a), if_pos ⟨by omega, h23⟩] at hT
          obtain ⟨s, hs, hs1, hs9⟩ := hst b (by omega)
          have hsk : okP (C 4 b) := Or.inr ⟨s, hs, hs1, by omega⟩
          have := c_pipe_loop (kk := k) (z := z) H ha hb (Or.inr ⟨rfl, rfl⟩) (by omega : b < a) hM (K + 1) 0 (C 4 b) none (by omega) (by omega) hsk hT
          rw [show enc (C 4 b) = C 4 b from if_neg (by rw [hs]; exact nI_nm1 (by omega))] at this
          exact this
        · omega
  · refine j_iconst (v := -1) dX6_pipe_5 nc_iconst_m1 ?_
    exact j_iret hM dX6_pipe_6 rfl (by rw [show layX C K (8 + a) b = -1 from if_pos (by omega)] at hT; exact hT)

set_option maxHeartbeats 4000000 in
set_option maxRecDepth 100000 in
theorem c_heard_loop {g : jv_G} {X : jv_X} {T : jv_T} {n : Nat} {sh : Nat → jv_S} {V : Nat → Nat → Int32} {L : Nat → Nat → Int64} {k z : Nat} {tg pl : Nat → Nat} {C : Nat → Nat → Int32} {N K R : Nat} (H : REP tg pl n sh V C N K R) (hM : jv_M g X T) : ∀ (m : Nat) (j : Nat) (s : Int32) (v5 : Option Value), j ≤ R → R + 1 ≤ j + m → T (.inl (some (.int (heaL C N (R - j) j s)))) n sh V L → jv_J g X I_X6_heard 13 [some (jv_r g 123), some (.int s), some (jv_r g (pl 8)), some (.int (nI R)), some (.int (nI j)), v5] [] n sh V L k z := by
  intro m
  induction m with
  | zero => intro j s v5 hj1 hm hT; omega
  | succ m ih =>
  intro j s v5 hj1 hm hT
  refine j_iload_4 dX6_heard_13 ?_
  refine j_iload_n_3 dX6_heard_15 ?_
  refine j_ic_geN (by have := H.R8; omega) (by have := H.R8; omega) (tgt := 39) dX6_heard_16 (by decide) (fun h16 => ?_) (fun h16 => ?_)
  · rw [show R - j = 0 by omega] at hT
    refine j_iload_n_1 dX6_heard_39 ?_
    exact j_iret hM dX6_heard_40 rfl hT
  · have hj : j < R := by omega
    refine j_aload_n_2 dX6_heard_19 ?_
    refine j_iload_4 dX6_heard_20 ?_
    refine jr_aaldR dX6_heard_22 H.q8.1 H.q8.2.1 (by omega) (by have := H.R8; omega) (H.q8.2.2 j hj) ?_
    refine j_astore_5 rfl (by decide) dX6_heard_23 ?_
    refine j_iload_n_1 dX6_heard_25 ?_
    refine j_aload_5 dX6_heard_26 ?_
    refine C_X6_119  rfl (by decide) dX6_heard_28 (H.ob hj).1 (Nat.le_of_ble_eq_true rfl) (Nat.le_of_eq (Nat.zero_add _)) (Nat.le_of_eq (Nat.zero_add _)) (fun _ _ hM' hT' => c_reachd (N := N) (H.ob hj).1 ((H.ob hj).2.2.2 2 (by decide) (by decide)) (H.rw hj 2 (by decide) (by decide)).1 (H.rw hj 2 (by decide) (by decide)).2.1 H.N12 hM' hT') ?_
    refine j_top (y := nI (reaL (C (43 + 10 * j + 2)) N 0 0)) (by rw [reaL_cg N 0 0 (fun c _ h => (H.rw hj 2 (by decide) (by decide)).2.2 c (by omega))]) ?_
    refine j_iadd dX6_heard_31 ?_
    refine j_istore_n_1 rfl (by decide) dX6_heard_32 ?_
    refine j_inc1_4 rfl (by decide) dX6_heard_33 ?_
    refine j_goto (tgt := 13) dX6_heard_36 (by decide) ?_
    exact ih (j + 1) _ _ (by omega) (by omega) (by rw [show R - j = R - (j + 1) + 1 by omega] at hT; exact hT)

set_option maxHeartbeats 4000000 in
set_option maxRecDepth 100000 in
theorem c_heard {g : jv_G} {X : jv_X} {T : jv_T} {n : Nat} {sh : Nat → jv_S} {V : Nat → Nat → Int32} {L : Nat → Nat → Int64} {k z : Nat} {tg pl : Nat → Nat} {C : Nat → Nat → Int32} {N K R : Nat} (H : REP tg pl n sh V C N K R) (hM : jv_M g X T) (hT : T (.inl (some (.int (heaL C N R 0 (nI 0))))) n sh V L) : jv_J g X I_X6_heard 0 [some (jv_r g 123), none, none, none, none, none] [] n sh V L k z := by
  refine j_iconst (v := nI 0) dX6_heard_0 nc_iconst_0 ?_
  refine j_istore_n_1 rfl (by decide) dX6_heard_1 ?_
  refine j_aload_n_0 dX6_heard_2 ?_
  refine G_X6_30 rfl dX6_heard_3 H.s H.s6 ?_
  refine j_astore_n_2 rfl (by decide) dX6_heard_6 ?_
  refine j_aload_n_2 dX6_heard_7 ?_
  refine jr_alenR dX6_heard_8 H.q8.1 H.q8.2.1 ?_
  refine j_istore_n_3 rfl (by decide) dX6_heard_9 ?_
  refine j_iconst (v := nI 0) dX6_heard_10 nc_iconst_0 ?_
  refine j_istore_4 rfl (by decide) dX6_heard_11 ?_
  exact c_heard_loop H hM (R + 1) 0 _ _ (by omega) (by omega) hT

set_option maxHeartbeats 4000000 in
set_option maxRecDepth 100000 in
theorem c_bel_loop {g : jv_G} {X : jv_X} {T : jv_T} {n : Nat} {sh : Nat → jv_S} {V : Nat → Nat → Int32} {L : Nat → Nat → Int64} {k z : Nat} {tg pl : Nat → Nat} {C : Nat → Nat → Int32} {N K R : Nat} (H : REP tg pl n sh V C N K R) {j : Nat} (hj : j < R) (hM : jv_M g X T) : ∀ (m : Nat) (f : Nat) (s : Int32), f ≤ N → N + 1 ≤ f + m → T (.inl (some (.int (hbL C (43 + 10 * j) (N - f) f s)))) n sh V L → jv_J g X I_X6_believers 4 [some (jv_r g 123), some (.int (nI j)), some (.int s), some (.int (nI f))] [] n sh V L k z := by
  intro m
  induction m with
  | zero => intro f s hf1 hm hT; omega
  | succ m ih =>
  intro f s hf1 hm hT
  refine j_iload_n_3 dX6_believers_4 ?_
  refine j_aload_n_0 dX6_believers_5 ?_
  refine G_X6_7 rfl dX6_believers_6 H.s H.s1 ?_
  refine j_alen dX6_believers_9 H.q2.1 H.q2.2.1 ?_
  refine j_ic_geN (by have := H.N12; omega) (by have := H.N12; omega) (tgt := 47) dX6_believers_10 (by decide) (fun h10 => ?_) (fun h10 => ?_)
  · rw [show N - f = 0 by omega] at hT
    refine j_iload_n_2 dX6_believers_47 ?_
    exact j_iret hM dX6_believers_48 rfl hT
  · have hf : f < N := by omega
    refine j_iload_n_2 dX6_believers_13 ?_
    refine j_aload_n_0 dX6_believers_14 ?_
    refine G_X6_30 rfl dX6_believers_15 H.s H.s6 ?_
    refine j_iload_n_1 dX6_believers_18 ?_
    refine jr_aaldR dX6_believers_19 H.q8.1 H.q8.2.1 (by omega) (by have := H.R8; omega) (H.q8.2.2 j hj) ?_
    refine G_X6_65 rfl dX6_believers_20 (H.ob hj).1 ((H.ob hj).2.2.2 1 (by decide) (by decide)) ?_
    refine j_iload_n_3 dX6_believers_23 ?_
    refine j_iald dX6_believers_24 (H.rw hj 1 (by decide) (by decide)).1 (H.rw hj 1 (by decide) (by decide)).2.1 (by omega) (by have := H.N12; omega) ?_
    refine j_top (y := C (43 + 10 * j + 1) f) ((H.rw hj 1 (by decide) (by decide)).2.2 f hf) ?_
    refine j_iconst (v := nI 1) dX6_believers_25 nc_iconst_1 ?_
    refine j_ic_ne (tgt := 38) dX6_believers_26 (by decide) (fun h26 => ?_) (fun h26 => ?_)
    · refine j_iconst (v := nI 0) dX6_believers_38 nc_iconst_0 ?_
      refine j_iadd dX6_believers_39 ?_
      refine j_top (y := s) (add_nI0 s) ?_
      refine j_istore_n_2 rfl (by decide) dX6_believers_40 ?_
      refine j_inc1_3 rfl (by decide) dX6_believers_41 ?_
      refine j_goto (tgt := 4) dX6_believers_44 (by decide) ?_
      exact ih (f + 1) _ (by omega) (by omega) (by rw [show N - f = N - (f + 1) + 1 by omega, hbL, if_neg h26] at hT; exact hT)
    · refine j_aload_n_0 dX6_believers_29 ?_
      refine G_X6_7 rfl dX6_believers_30 H.s H.s1 ?_
      refine j_iload_n_3 dX6_believers_33 ?_
      refine j_iald dX6_believers_34 H.q2.1 H.q2.2.1 (by omega) (by have := H.N12; omega) ?_
      refine j_top (y := C 2 f) (H.q2.2.2 f hf) ?_
      refine j_goto (tgt := 39) dX6_believers_35 (by decide) ?_
      refine j_iadd dX6_believers_39 ?_
      refine j_istore_n_2 rfl (by decide) dX6_believers_40 ?_
      refine j_inc1_3 rfl (by decide) dX6_believers_41 ?_
      refine j_goto (tgt := 4) dX6_believers_44 (by decide) ?_
      exact ih (f + 1) _ (by omega) (by omega) (by rw [show N - f = N - (f + 1) + 1 by omega, hbL, if_pos h26] at hT; exact hT)

set_option maxHeartbeats 4000000 in
set_option maxRecDepth 100000 in
theorem c_believ {g : jv_G} {X : jv_X} {T : jv_T} {n : Nat} {sh : Nat → jv_S} {V : Nat → Nat → Int32} {L : Nat → Nat → Int64} {k z : Nat} {tg pl : Nat → Nat} {C : Nat → Nat → Int32} {N K R : Nat} (H : REP tg pl n sh V C N K R) {j : Nat} (hj : j < R) (hM : jv_M g X T) (hT : T (.inl (some (.int (hbL C (43 + 10 * j) N 0 (nI 0))))) n sh V L) : jv_J g X I_X6_believers 0 [some (jv_r g 123), some (.int (nI j)), none, none] [] n sh V L k z := by
  refine j_iconst (v := nI 0) dX6_believers_0 nc_iconst_0 ?_
  refine j_istore_n_2 rfl (by decide) dX6_believers_1 ?_
  refine j_iconst (v := nI 0) dX6_believers_2 nc_iconst_0 ?_
  refine j_istore_n_3 rfl (by decide) dX6_believers_3 ?_
  exact c_bel_loop H hj hM (N + 1) 0 _ (by omega) (by omega) hT
