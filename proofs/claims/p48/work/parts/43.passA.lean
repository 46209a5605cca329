/-! ===== an hour of the hand's tower ===== -/
/-- the way of rumour j is new, C1 is what the heap says now -/
def SQ (pl : Nat → Nat) (n : Nat) (sh : Nat → jv_S) (V C1 : Nat → Nat → Int32) (N K R j n1 : Nat) (s1 : Nat → jv_S) (V1 : Nat → Nat → Int32) : Prop := ∃ tg1 pl1, REP tg1 pl1 n1 s1 V1 C1 N K R ∧ (∀ ρ, ρ ≠ 20 + 10 * j + 7 → pl1 ρ = pl ρ) ∧ n ≤ n1 ∧ ∀ q, q < 123 → s1 q = sh q ∧ V1 q = V q
theorem lo123 {tg pl : Nat → Nat} {n : Nat} {sh : Nat → jv_S} {V C : Nat → Nat → Int32} {N K R j : Nat} (H : REP tg pl n sh V C N K R) (hj : j < R) : 124 ≤ pl (20 + 10 * j) := H.ge (used.o (o := 0) hj (by decide))
theorem c_send0P {g : jv_G} {X : jv_X} {T : jv_T} {n : Nat} {sh : Nat → jv_S} {V : Nat → Nat → Int32} {L : Nat → Nat → Int64} {k z : Nat} {tg pl : Nat → Nat} {C : Nat → Nat → Int32} {N K R j o : Nat} {hr m : Int32} (H : REP tg pl n sh V C N K R) (hj : j < R) (ho : o < N) (hne : ¬ hr = -1) (hk : 3 ≤ k) (hz : 60 ≤ z) (hM : jv_M g X T) (hT : ∀ n1 s1 V1, SQ pl n sh V (s7 C (43 + 10 * j) o hr m) N K R j n1 s1 V1 → T (.inl none) n1 s1 V1 L) : jv_J g X I_X5_send 0 [some (jv_r g (pl (20 + 10 * j))), some (.int (nI o)), some (.int hr), some (.int (nI 0)), some (.int m), none, none, none, none, none, none, none] [] n sh V L k z := by
  obtain ⟨l, hWL, hWT⟩ := H.wy hj
  have hl := hWT.len H.N12
  refine c_send (H.ob hj).1 (H.lt (used.o (o := 0) hj (by decide))) ((H.ob hj).2.2.2 7 (by decide) (by decide)) hWL hl hk hz hM (fun n1 s1 V1 hP => hT n1 s1 V1 ?_)
  obtain ⟨p1, p2, p3, p4, p5, w1, p6, p7, p8⟩ := hP
  have h124 := lo123 H hj
  have hn := H.n124
  exact ⟨_, _, H.way hj p1 p2 p3 p4 p5 p6 p7 p8 (hWT.send0 H.N12 ho hne) (fun q hq => by
    unfold s7
    split
    · rw [jv_U_other (by omega), jv_U_other (by omega)]
    · rfl), fun ρ h => wyP_n h, p1, fun q hq => ⟨p2 q (by omega) (by omega), p3 q (by omega)⟩⟩
theorem c_send1P {g : jv_G} {X : jv_X} {T : jv_T} {n : Nat} {sh : Nat → jv_S} {V : Nat → Nat → Int32} {L : Nat → Nat → Int64} {k z : Nat} {tg pl : Nat → Nat} {C : Nat → Nat → Int32} {N K R j o : Nat} {hr : Int32} (H : REP tg pl n sh V C N K R) (hj : j < R) (ho : o < N) (hne : ¬ hr = -1) (hk : 3 ≤ k) (hz : 60 ≤ z) (hM : jv_M g X T) (hT : ∀ n1 s1 V1, SQ pl n sh V (s9 C (43 + 10 * j) o hr) N K R j n1 s1 V1 → T (.inl none) n1 s1 V1 L) : jv_J g X I_X5_send 0 [some (jv_r g (pl (20 + 10 * j))), some (.int (nI o)), some (.int hr), some (.int (nI 1)), some (.int (nI 0)), none, none, none, none, none, none, none] [] n sh V L k z := by
  obtain ⟨l, hWL, hWT⟩ := H.wy hj
  have hl := hWT.len H.N12
  refine c_send (H.ob hj).1 (H.lt (used.o (o := 0) hj (by decide))) ((H.ob hj).2.2.2 7 (by decide) (by decide)) hWL hl hk hz hM (fun n1 s1 V1 hP => hT n1 s1 V1 ?_)
  obtain ⟨p1, p2, p3, p4, p5, w1, p6, p7, p8⟩ := hP
  have h124 := lo123 H hj
  have hn := H.n124
  exact ⟨_, _, H.way hj p1 p2 p3 p4 p5 p6 p7 p8 (hWT.send1 H.N12 ho hne) (fun q hq => by
    unfold s9
    split
    · rw [jv_U_other (by omega)]
    · rfl), fun ρ h => wyP_n h, p1, fun q hq => ⟨p2 q (by omega) (by omega), p3 q (by omega)⟩⟩
def TQ (pl : Nat → Nat) (n : Nat) (sh : Nat → jv_S) (V C1 : Nat → Nat → Int32) (N K R j : Nat) (w : Nat → Int32) (n1 : Nat) (s1 : Nat → jv_S) (V1 : Nat → Nat → Int32) : Prop := ∃ tg1 pl1, REP tg1 pl1 n1 s1 V1 C1 N K R ∧ (∀ ρ, ρ ≠ 20 + 10 * j + 7 → pl1 ρ = pl ρ) ∧ n ≤ n1 ∧ (∀ q, q < 123 → s1 q = sh q ∧ V1 q = V q) ∧ (s1 n).1 = 10 ∧ (s1 n).2.1 = N ∧ tg1 n = 1 ∧ ∀ f, f < N → V1 n f = w f

theorem WL.mono {E E' : Nat → Prop} {n w : Nat} {sh : Nat → jv_S} {V : Nat → Nat → Int32} {l : List WE} (h : WL E n sh V w l) (hE : ∀ e, E e → E' e) : WL E' n sh V w l := ⟨h.1, h.2.1, h.2.2.1, fun i x hx => by
  obtain ⟨e, a, b, c, d⟩ := h.2.2.2 i x hx
  exact ⟨e, a, b, hE e c, d⟩⟩
theorem c_take0P {g : jv_G} {X : jv_X} {T : jv_T} {n : Nat} {sh : Nat → jv_S} {V : Nat → Nat → Int32} {L : Nat → Nat → Int64} {k z : Nat} {tg pl : Nat → Nat} {C : Nat → Nat → Int32} {N K R j : Nat} {hr : Int32} (H : REP tg pl n sh V C N K R) (hj : j < R) (hne : ¬ hr = -1) (hk : 3 ≤ k) (hz : 60 ≤ z) (hM : jv_M g X T) (hT : ∀ n1 s1 V1, TQ pl n sh V (T7 C (43 + 10 * j) hr 0 N) N K R j (fun f => if C (43 + 10 * j + 7) f = hr then C (43 + 10 * j + 8) f else -1) n1 s1 V1 → T (.inl (some (jv_r g n))) n1 s1 V1 L) : jv_J g X I_X5_take 0 [some (jv_r g (pl (20 + 10 * j))), some (.int hr), some (.int (nI 0)), none, none, none, none, none, none, none] [] n sh V L k z := by
  obtain ⟨l, hWL, hWT⟩ := H.wy hj
  have hl := hWT.len H.N12
  refine c_take (H.ob hj).1 (H.lt (used.o (o := 0) hj (by decide))) ((H.ob hj).2.2.2 7 (by decide) (by decide)) hWL hl ((H.ob hj).2.2.2 1 (by decide) (by decide)) (H.rw hj 1 (by decide) (by decide)).1 (H.rw hj 1 (by decide) (by decide)).2.1 H.N12 (fun x hx _ => hWT.key x hx) hk hz hM (fun n1 s1 V1 hP => hT n1 s1 V1 ?_)
  obtain ⟨p1, p2, p3, p4, p5, p6, p7, p8, p9, p10⟩ := hP
  have h124 := lo123 H hj
  have hn := H.n124
  refine ⟨_, _, H.way hj (by omega) p2 p3 p4 p5 p6 (p7.mono (fun e h => Or.inl h)) (Or.inr (by omega)) hWT.take0 (fun q hq => T7_o (by omega)), fun ρ h => wyP_n h, by omega, fun q hq => ⟨p2 q (by omega) (by omega), p3 q (by omega)⟩, p8, p9, wyT_1 (Nat.le_refl _) (by omega), fun f hf => ?_⟩
  rw [p10]
  exact hWT.come0 H.N12 hf hne
theorem c_take1P {g : jv_G} {X : jv_X} {T : jv_T} {n : Nat} {sh : Nat → jv_S} {V : Nat → Nat → Int32} {L : Nat → Nat → Int64} {k z : Nat} {tg pl : Nat → Nat} {C : Nat → Nat → Int32} {N K R j : Nat} {hr : Int32} (H : REP tg pl n sh V C N K R) (hj : j < R) (hne : ¬ hr = -1) (hk : 3 ≤ k) (hz : 60 ≤ z) (hM : jv_M g X T) (hT : ∀ n1 s1 V1, TQ pl n sh V (T9 C (43 + 10 * j) hr 0 N) N K R j (fun f => if C (43 + 10 * j + 9) f = hr then nI 0 else -1) n1 s1 V1 → T (.inl (some (jv_r g n))) n1 s1 V1 L) : jv_J g X I_X5_take 0 [some (jv_r g (pl (20 + 10 * j))), some (.int hr), some (.int (nI 1)), none, none, none, none, none, none, none] [] n sh V L k z := by
  obtain ⟨l, hWL, hWT⟩ := H.wy hj
  have hl := hWT.len H.N12
  refine c_take (H.ob hj).1 (H.lt (used.o (o := 0) hj (by decide))) ((H.ob hj).2.2.2 7 (by decide) (by decide)) hWL hl ((H.ob hj).2.2.2 1 (by decide) (by decide)) (H.rw hj 1 (by decide) (by decide)).1 (H.rw hj 1 (by decide) (by decide)).2.1 H.N12 (fun x hx _ => hWT.key x hx) hk hz hM (fun n1 s1 V1 hP => hT n1 s1 V1 ?_)
  obtain ⟨p1, p2, p3, p4, p5, p6, p7, p8, p9, p10⟩ := hP
  have h124 := lo123 H hj
  have hn := H.n124
  refine ⟨_, _, H.way hj (by omega) p2 p3 p4 p5 p6 (p7.mono (fun e h => Or.inl h)) (Or.inr (by omega)) hWT.take1 (fun q hq => T9_o (by omega)), fun ρ h => wyP_n h, by omega, fun q hq => ⟨p2 q (by omega) (by omega), p3 q (by omega)⟩, p8, p9, wyT_1 (Nat.le_refl _) (by omega), fun f hf => ?_⟩
  rw [p10]
  exact hWT.come1 H.N12 hf hne
theorem h1R_0 {A : Nat → Nat → Int32} {j i : Nat} {h : Int32} : h1R A (43 + 10 * j) i h 0 5 = A 0 5 := by
  have := hRL_o (r := 43 + 10 * j) (q := 0) (h := h) (by omega) 1 i A
  exact congrFun this 5
theorem h1D_0 {A : Nat → Nat → Int32} {j i : Nat} {h : Int32} : h1D A (43 + 10 * j) i h 0 5 = A 0 5 := by
  have := dRL_o (r := 43 + 10 * j) (q := 0) (h := h) (by omega) 1 i A
  exact congrFun this 5
set_option maxHeartbeats 4000000 in
set_option maxRecDepth 100000 in
theorem c_pA {g : jv_G} {X : jv_X} {n : Nat} {sh : Nat → jv_S} {L : Nat → Nat → Int64} {k z : Nat} {tg pl : Nat → Nat} {N K R : Nat} {j : Nat} (hj : j < R) {h : Int32} (hh : ¬ h = -1) {p8 cm : Nat} {FC V0 : Nat → Nat → Int32} (hck : (sh cm).1 = 10) (hcn : (sh cm).2.1 = N) (hct : tg cm = 1) (kk : ∀ V1 v6 v7 v8 v9 v10, REP tg pl n sh V1 FC N K R → (∀ q, q < 123 → V1 q = V0 q) → jv_J g X I_X6_pass 90 [some (jv_r g 123), some (jv_r g p8), some (.int (nI R)), some (.int (nI j)), some (jv_r g (pl (20 + 10 * j))), some (.int (nI N)), v6, v7, v8, v9, v10] [] n sh V1 L k z) : ∀ (m : Nat) (i : Nat) (A V : (Nat → Nat → Int32)) (v8 v9 v10 : Option Value), i ≤ N → N + 1 ≤ i + m → REP tg pl n sh V (T7 A (43 + 10 * j) h i N) N K R → A 0 5 = h → (∀ f, i ≤ f → f < N → A (43 + 10 * j + 7) f = h → ∃ p, A (43 + 10 * j + 8) f = nI p ∧ 1 ≤ p ∧ p ≤ 20) → (∀ f, i ≤ f → f < N → V cm f = if A (43 + 10 * j + 7) f = h then A (43 + 10 * j + 8) f else -1) → (∀ q, q < 123 → V q = V0 q) → hRL (43 + 10 * j) h (N - i) i A = FC → jv_J g X I_X6_pass 56 [some (jv_r g 123), some (jv_r g p8), some (.int (nI R)), some (.int (nI j)), some (jv_r g (pl (20 + 10 * j))), some (.int (nI N)), some (jv_r g cm), some (.int (nI i)), v8, v9, v10] [] n sh V L k z := by
  intro m
  induction m with
  | zero => intro i A V v8 v9 v10 hi hm H hA hcp hcv hlow hFC; omega
  | succ m ih =>
  intro i A V v8 v9 v10 hi hm H hA hcp hcv hlow hFC
  refine j_iload_7 dX6_pass_56 ?_
  refine j_iload_5 dX6_pass_58 ?_
  refine j_ic_geN (by have := H.N12; omega) (by have := H.N12; omega) (tgt := 90) dX6_pass_60 (by decide) (fun h60 => ?_) (fun h60 => ?_)
  · obtain rfl : i = N := by omega
    rw [T7_end] at H
    rw [Nat.sub_self] at hFC
    subst hFC
    exact kk V _ _ _ _ _ H hlow
  · have hiN : i < N := by omega
    have hcvi := hcv i (Nat.le_refl _) hiN
    refine j_aload_6 dX6_pass_63 ?_
    refine j_iload_7 dX6_pass_65 ?_
    refine j_iald dX6_pass_67 hck hcn (by omega) (by have := H.N12; omega) ?_
    refine j_top (y := _) hcvi ?_
    refine j_if_lt (tgt := 84) dX6_pass_68 (by decide) (fun h68 => ?_) (fun h68 => ?_)
    · refine j_inc1_7 rfl (by decide) dX6_pass_84 ?_
      refine j_goto (tgt := 56) dX6_pass_87 (by decide) ?_
      have hno : ¬ A (43 + 10 * j + 7) i = h := fun c => by
        rw [if_pos c] at h68
        obtain ⟨p, e1, e2, e3⟩ := hcp i (Nat.le_refl _) hiN c
        rw [e1] at h68
        exact nI_pos (by omega) h68
      refine ih (i + 1) A V _ _ _ (by omega) (by omega) (by rw [← T7_no hno]; exact H) hA (fun f h1 h2 => hcp f (by omega) h2) (fun f h1 h2 => hcv f (by omega) h2) hlow ?_
      rw [show N - i = N - (i + 1) + 1 by omega] at hFC
      rw [← hFC]
      show _ = hRL (43 + 10 * j) h (N - (i + 1)) (i + 1) (h1R A (43 + 10 * j) i h)
      rw [h1R_no hno]
    · have hye : A (43 + 10 * j + 7) i = h := Decidable.byContradiction (fun c => by
        rw [if_neg c] at h68
        exact h68 (by decide +kernel))
      rw [if_pos hye] at hcvi
      refine j_aload_n_0 dX6_pass_71 ?_
      refine j_aload_4 dX6_pass_72 ?_
      refine j_iload_7 dX6_pass_74 ?_
      refine j_aload_6 dX6_pass_76 ?_
      refine j_iload_7 dX6_pass_78 ?_
      refine j_iald dX6_pass_80 hck hcn (by omega) (by have := H.N12; omega) ?_
      refine j_top (y := A (43 + 10 * j + 8) i) (by rw [hcv i (Nat.le_refl _) hiN]; exact if_pos hye) ?_
      refine Q_X6_61 (k' := 0) (z' := 0) (k2 := k) (z2 := z) (P := fun n1 s1 V1 => n1 = n ∧ s1 = sh ∧ REP tg pl n sh V1 (brR (T7 A (43 + 10 * j) h i N) (43 + 10 * j) i (A (43 + 10 * j + 8) i) h) N K R ∧ ∀ q, (∀ o, 1 ≤ o → o ≤ 6 → q ≠ pl (20 + 10 * j + o)) → V1 q = V q) rfl (by decide) dX6_pass_81 H.s (Nat.le_of_ble_eq_true rfl) (Nat.le_of_eq (Nat.zero_add _)) (Nat.le_of_eq (Nat.zero_add _)) (fun _ _ hM' hT' => c_hear H hj hiN hM' (fun V1 a b => hT' _ _ _ ⟨rfl, rfl, by rw [show T7 A (43 + 10 * j) h i N 0 5 = h from by rw [T7_o (by omega)]; exact hA] at a; exact a, b⟩)) (fun n1 s1 V1 hP1 => ?_)
      obtain ⟨rfl, rfl, hR1, hfr⟩ := hP1
      refine j_inc1_7 rfl (by decide) dX6_pass_84 ?_
      refine j_goto (tgt := 56) dX6_pass_87 (by decide) ?_
      refine ih (i + 1) (h1R A (43 + 10 * j) i h) V1 _ _ _ (by omega) (by omega) (by rw [← T7_step (by omega) hiN hh hye]; exact hR1) (by rw [h1R_0]; exact hA) (fun f h1 h2 e => by rw [h1R_n (by omega)] at e; rw [h1R_n (by omega)]; exact hcp f (by omega) h2 e) (fun f h1 h2 => ?_) (fun q hq => by rw [hfr q (fun o h1 h2 => by have := H.ge (used.o (K := K) hj (o := o) (by omega)); omega), hlow q hq]) ?_
      · rw [hfr cm (fun o h1 h2 => H.nee (used.o hj (by omega)) hct), hcv f (by omega) h2, h1R_n (by omega), h1R_n (by omega)]
      · rw [show N - i = N - (i + 1) + 1 by omega] at hFC
        exact hFC

set_option maxHeartbeats 4000000 in
set_option maxRecDepth 100000 in
theorem c_pB {g : jv_G} {X : jv_X} {n : Nat} {sh : Nat → jv_S} {L : Nat → Nat → Int64} {k z : Nat} {tg pl : Nat → Nat} {N K R : Nat} {j : Nat} (hj : j < R) {h : Int32} (hh : ¬ h = -1) {p8 cm : Nat} {FC V0 : Nat → Nat → Int32} (hck : (sh cm).1 = 10) (hcn : (sh cm).2.1 = N) (hct : tg cm = 1) (kk : ∀ V1 v6 v7 v8 v9 v10, REP tg pl n sh V1 FC N K R → (∀ q, q < 123 → V1 q = V0 q) → jv_J g X I_X6_pass 147 [some (jv_r g 123), some (jv_r g p8), some (.int (nI R)), some (.int (nI j)), some (jv_r g (pl (20 + 10 * j))), some (.int (nI N)), v6, v7, v8, v9, v10] [] n sh V1 L k z) : ∀ (m : Nat) (i : Nat) (A V : (Nat → Nat → Int32)) (v8 v9 v10 : Option Value), i ≤ N → N + 1 ≤ i + m → REP tg pl n sh V (T9 A (43 + 10 * j) h i N) N K R → A 0 5 = h → (∀ f, i ≤ f → f < N → V cm f = if A (43 + 10 * j + 9) f = h then nI 0 else -1) → (∀ q, q < 123 → V q = V0 q) → dRL (43 + 10 * j) h (N - i) i A = FC → jv_J g X I_X6_pass 118 [some (jv_r g 123), some (jv_r g p8), some (.int (nI R)), some (.int (nI j)), some (jv_r g (pl (20 + 10 * j))), some (.int (nI N)), some (jv_r g cm), some (.int (nI i)), v8, v9, v10] [] n sh V L k z := by
  intro m
  induction m with
  | zero => intro i A V v8 v9 v10 hi hm H hA hcv hlow hFC; omega
  | succ m ih =>
  intro i A V v8 v9 v10 hi hm H hA hcv hlow hFC
  refine j_iload_7 dX6_pass_118 ?_
  refine j_iload_5 dX6_pass_120 ?_
  refine j_ic_geN (by have := H.N12; omega) (by have := H.N12; omega) (tgt := 147) dX6_pass_122 (by decide) (fun h122 => ?_) (fun h122 => ?_)
  · obtain rfl : i = N := by omega
    rw [T9_end] at H
    rw [Nat.sub_self] at hFC
    subst hFC
    exact kk V _ _ _ _ _ H hlow
  · have hiN : i < N := by omega
    have hcvi := hcv i (Nat.le_refl _) hiN
    refine j_aload_6 dX6_pass_125 ?_
    refine j_iload_7 dX6_pass_127 ?_
    refine j_iald dX6_pass_129 hck hcn (by omega) (by have := H.N12; omega) ?_
    refine j_top (y := _) hcvi ?_
    refine j_if_lt (tgt := 141) dX6_pass_130 (by decide) (fun h130 => ?_) (fun h130 => ?_)
    · refine j_inc1_7 rfl (by decide) dX6_pass_141 ?_
      refine j_goto (tgt := 118) dX6_pass_144 (by decide) ?_
      have hno : ¬ A (43 + 10 * j + 9) i = h := fun c => by
        rw [if_pos c] at h130
        exact absurd h130 (by decide +kernel)
      refine ih (i + 1) A V _ _ _ (by omega) (by omega) (by rw [← T9_no hno]; exact H) hA (fun f h1 h2 => hcv f (by omega) h2) hlow ?_
      rw [show N - i = N - (i + 1) + 1 by omega] at hFC
      rw [← hFC]
      show _ = dRL (43 + 10 * j) h (N - (i + 1)) (i + 1) (h1D A (43 + 10 * j) i h)
      rw [h1D_no hno]
    · have hye : A (43 + 10 * j + 9) i = h := Decidable.byContradiction (fun c => by
        rw [if_neg c] at h130
        exact h130 (by decide +kernel))
      refine j_aload_n_0 dX6_pass_133 ?_
      refine j_aload_4 dX6_pass_134 ?_
      refine j_iload_7 dX6_pass_136 ?_
      refine Q_X6_108 (k' := 0) (z' := 0) (k2 := k) (z2 := z) (P := fun n1 s1 V1 => n1 = n ∧ s1 = sh ∧ REP tg pl n sh V1 (brD (T9 A (43 + 10 * j) h i N) (43 + 10 * j) i h) N K R ∧ ∀ q, (∀ o, 1 ≤ o → o ≤ 6 → q ≠ pl (20 + 10 * j + o)) → V1 q = V q) rfl (by decide) dX6_pass_138 H.s (Nat.le_of_ble_eq_true rfl) (Nat.le_of_eq (Nat.zero_add _)) (Nat.le_of_eq (Nat.zero_add _)) (fun _ _ hM' hT' => c_deny H hj hiN hM' (fun V1 a b => hT' _ _ _ ⟨rfl, rfl, by rw [show T9 A (43 + 10 * j) h i N 0 5 = h from by rw [T9_o (by omega)]; exact hA] at a; exact a, b⟩)) (fun n1 s1 V1 hP1 => ?_)
      obtain ⟨rfl, rfl, hR1, hfr⟩ := hP1
      refine j_inc1_7 rfl (by decide) dX6_pass_141 ?_
      refine j_goto (tgt := 118) dX6_pass_144 (by decide) ?_
      refine ih (i + 1) (h1D A (43 + 10 * j) i h) V1 _ _ _ (by omega) (by omega) (by rw [← T9_step (by omega) hiN hh hye]; exact hR1) (by rw [h1D_0]; exact hA) (fun f h1 h2 => ?_) (fun q hq => by rw [hfr q (fun o h1 h2 => by have := H.ge (used.o (K := K) hj (o := o) (by omega)); omega), hlow q hq]) ?_
      · rw [hfr cm (fun o h1 h2 => H.nee (used.o hj (by omega)) hct), hcv f (by omega) h2, h1D_n (by omega)]
      · rw [show N - i = N - (i + 1) + 1 by omega] at hFC
        exact hFC
