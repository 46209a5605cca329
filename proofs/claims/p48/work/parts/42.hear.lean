/-! ===== hearing: the hand's order and the class's; what holds behind an hour ===== -/
theorem jv_Ucc {V : Nat → Nat → Int32} {p q i j : Nat} {x y : Int32} (h : i ≠ j) : jv_U (jv_U V p i x) q j y = jv_U (jv_U V q j y) p i x := by
  funext a b
  unfold jv_U
  by_cases e1 : a = q <;> by_cases e2 : a = p <;> by_cases e3 : b = j <;> by_cases e4 : b = i
  all_goals first | (simp only [e1, e2, e3, e4, if_true, if_false]; done) | skip
  all_goals first | (exact absurd (e4.symm.trans e3) h) | (simp [e1, e2, e3, e4, h, Ne.symm h])
theorem brR_n {B : Nat → Nat → Int32} {r f q c : Nat} {p h : Int32} (hc : c ≠ f) : brR B r f p h q c = B q c := by
  unfold brR
  split
  · rw [jv_Unj hc, jv_Unj hc, jv_Unj hc, jv_Unj hc]
  · rfl
theorem h1R_n {B : Nat → Nat → Int32} {r f q c : Nat} {h : Int32} (hc : c ≠ f) : h1R B r f h q c = B q c := by
  unfold h1R
  split
  · rw [brR_n hc, jv_Unj hc]
  · rfl
theorem brR_U {B : Nat → Nat → Int32} {r f q c : Nat} {p h x : Int32} (hc : c ≠ f) : jv_U (brR B r f p h) q c x = brR (jv_U B q c x) r f p h := by
  unfold brR
  rw [jv_Unj (Ne.symm hc), jv_Unj (Ne.symm hc)]
  split
  · rw [jv_Ucc (Ne.symm hc), jv_Ucc (Ne.symm hc), jv_Ucc (Ne.symm hc), jv_Ucc (Ne.symm hc)]
  · rfl
theorem h1R_U {B : Nat → Nat → Int32} {r f q c : Nat} {h x : Int32} (hc : c ≠ f) : jv_U (h1R B r f h) q c x = h1R (jv_U B q c x) r f h := by
  have e : ∀ Y : Nat → Nat → Int32, h1R Y r f h = if Y (r + 7) f = h then brR (jv_U Y (r + 7) f (-1)) r f (Y (r + 8) f) h else Y := fun Y => by
    unfold h1R
    rw [jv_Une (by omega)]
  rw [e, e, jv_Unj (Ne.symm hc), jv_Unj (Ne.symm hc)]
  split
  · rw [brR_U hc, jv_Ucc (Ne.symm hc)]
  · rfl
theorem brD_h1 {Y : Nat → Nat → Int32} {r i k : Nat} {h : Int32} (hc : i ≠ k) : brD (h1R Y r k h) r i h = h1R (brD Y r i h) r k h := by
  unfold brD
  rw [h1R_n hc, h1R_n hc]
  split
  · rfl
  · rw [h1R_U hc, h1R_U hc, h1R_U hc, h1R_U hc]
theorem d1_h1 {Y : Nat → Nat → Int32} {r i k : Nat} {h : Int32} (hc : i ≠ k) : h1D (h1R Y r k h) r i h = h1R (h1D Y r i h) r k h := by
  have e : ∀ Z : Nat → Nat → Int32, h1D Z r i h = if Z (r + 9) i = h then brD (jv_U Z (r + 9) i (-1)) r i h else Z := fun Z => rfl
  rw [e, e, h1R_n hc]
  split
  · rw [h1R_U hc, brD_h1 hc]
  · rfl
def hRL (r : Nat) (h : Int32) : Nat → Nat → (Nat → Nat → Int32) → (Nat → Nat → Int32)
  | 0, _, C => C
  | m + 1, i, C => hRL r h m (i + 1) (h1R C r i h)
def dRL (r : Nat) (h : Int32) : Nat → Nat → (Nat → Nat → Int32) → (Nat → Nat → Int32)
  | 0, _, C => C
  | m + 1, i, C => dRL r h m (i + 1) (h1D C r i h)
theorem d1_hRL {r i : Nat} {h : Int32} : ∀ m k Y, i < k → h1D (hRL r h m k Y) r i h = hRL r h m k (h1D Y r i h) := by
  intro m
  induction m with
  | zero => intro k Y _; rfl
  | succ m ih =>
    intro k Y hk
    show h1D (hRL r h m (k + 1) (h1R Y r k h)) r i h = hRL r h m (k + 1) (h1R (h1D Y r i h) r k h)
    rw [ih _ _ (by omega), d1_h1 (by omega)]
theorem dRL_hRL {r : Nat} {h : Int32} : ∀ m i C, dRL r h m i (hRL r h m i C) = hrV r h m i C := by
  intro m
  induction m with
  | zero => intro i C; rfl
  | succ m ih =>
    intro i C
    show dRL r h m (i + 1) (h1D (hRL r h m (i + 1) (h1R C r i h)) r i h) = hrV r h m (i + 1) (hr1 C r i h)
    rw [d1_hRL _ _ _ (by omega), ih]
    rfl
theorem T7_U {B : Nat → Nat → Int32} {r i N q c : Nat} {h x : Int32} (hq : q ≠ r + 7) : jv_U (T7 B r h i N) q c x = T7 (jv_U B q c x) r h i N := by
  funext a b
  by_cases e : a = q
  · subst e
    rw [T7_o hq, jv_U_self, jv_U_self, T7_o hq]
  · rw [jv_U_other e]
    unfold T7
    rw [jv_U_other e, jv_U_other (fun d => hq d.symm)]
theorem T9_U {B : Nat → Nat → Int32} {r i N q c : Nat} {h x : Int32} (hq : q ≠ r + 9) : jv_U (T9 B r h i N) q c x = T9 (jv_U B q c x) r h i N := by
  funext a b
  by_cases e : a = q
  · subst e
    rw [T9_o hq, jv_U_self, jv_U_self, T9_o hq]
  · rw [jv_U_other e]
    unfold T9
    rw [jv_U_other e, jv_U_other (fun d => hq d.symm)]
theorem T7_end {A : Nat → Nat → Int32} {r N : Nat} {h : Int32} : T7 A r h N N = A := by
  funext q c
  unfold T7
  rw [if_neg (fun d => by omega)]
theorem T9_end {A : Nat → Nat → Int32} {r N : Nat} {h : Int32} : T9 A r h N N = A := by
  funext q c
  unfold T9
  rw [if_neg (fun d => by omega)]
theorem T7_no {A : Nat → Nat → Int32} {r i N : Nat} {h : Int32} (e : ¬ A (r + 7) i = h) : T7 A r h i N = T7 A r h (i + 1) N := by
  funext q c
  unfold T7
  by_cases d : q = r + 7 ∧ i ≤ c ∧ c < N ∧ A (r + 7) c = h
  · rw [if_pos d, if_pos ⟨d.1, by
      have : c ≠ i := fun z => e (z ▸ d.2.2.2)
      omega, d.2.2⟩]
  · rw [if_neg d, if_neg (fun z => d ⟨z.1, by omega, z.2.2⟩)]
theorem T9_no {A : Nat → Nat → Int32} {r i N : Nat} {h : Int32} (e : ¬ A (r + 9) i = h) : T9 A r h i N = T9 A r h (i + 1) N := by
  funext q c
  unfold T9
  by_cases d : q = r + 9 ∧ i ≤ c ∧ c < N ∧ A (r + 9) c = h
  · rw [if_pos d, if_pos ⟨d.1, by
      have : c ≠ i := fun z => e (z ▸ d.2.2.2)
      omega, d.2.2⟩]
  · rw [if_neg d, if_neg (fun z => d ⟨z.1, by omega, z.2.2⟩)]
theorem T7_yes {A : Nat → Nat → Int32} {r i N : Nat} {h : Int32} (e : A (r + 7) i = h) (hi : i < N) (hh : ¬ h = -1) : T7 A r h i N = T7 (jv_U A (r + 7) i (-1)) r h (i + 1) N := by
  funext q c
  by_cases hq : q = r + 7
  · subst hq
    rw [T7_at, T7_at]
    by_cases hc : c = i
    · subst hc
      rw [if_pos ⟨by omega, hi, e⟩, if_neg (fun z => by omega), jv_Ueq]
    · rw [jv_Unj hc]
      by_cases d : i ≤ c ∧ c < N ∧ A (r + 7) c = h
      · rw [if_pos d, if_pos ⟨by omega, d.2⟩]
      · rw [if_neg d, if_neg (fun z => d ⟨by omega, z.2⟩)]
  · rw [T7_o hq, T7_o hq, jv_U_other hq]
theorem T9_yes {A : Nat → Nat → Int32} {r i N : Nat} {h : Int32} (e : A (r + 9) i = h) (hi : i < N) (hh : ¬ h = -1) : T9 A r h i N = T9 (jv_U A (r + 9) i (-1)) r h (i + 1) N := by
  funext q c
  by_cases hq : q = r + 9
  · subst hq
    rw [T9_at, T9_at]
    by_cases hc : c = i
    · subst hc
      rw [if_pos ⟨by omega, hi, e⟩, if_neg (fun z => by omega), jv_Ueq]
    · rw [jv_Unj hc]
      by_cases d : i ≤ c ∧ c < N ∧ A (r + 9) c = h
      · rw [if_pos d, if_pos ⟨by omega, d.2⟩]
      · rw [if_neg d, if_neg (fun z => d ⟨by omega, z.2⟩)]
  · rw [T9_o hq, T9_o hq, jv_U_other hq]
theorem T7_br {B : Nat → Nat → Int32} {r f i N : Nat} {p h h' : Int32} (hr : 4 ≤ r) : brR (T7 B r h' i N) r f p h = T7 (brR B r f p h) r h' i N := by
  unfold brR
  rw [T7_o (by omega), T7_o (by omega)]
  split
  · rw [T7_U (by omega), T7_U (by omega), T7_U (by omega), T7_U (by omega)]
  · rfl
theorem T9_de {B : Nat → Nat → Int32} {r f i N : Nat} {h h' : Int32} (hr : 4 ≤ r) : brD (T9 B r h' i N) r f h = T9 (brD B r f h) r h' i N := by
  unfold brD
  rw [T9_o (by omega), T9_o (by omega)]
  split
  · rfl
  · rw [T9_U (by omega), T9_U (by omega), T9_U (by omega), T9_U (by omega)]
theorem T7_step {A : Nat → Nat → Int32} {r i N : Nat} {h : Int32} (hr : 4 ≤ r) (hi : i < N) (hh : ¬ h = -1) (e : A (r + 7) i = h) : brR (T7 A r h i N) r i (A (r + 8) i) h = T7 (h1R A r i h) r h (i + 1) N := by
  rw [T7_yes e hi hh, T7_br hr]
  unfold h1R
  rw [if_pos e, jv_Une (show r + 8 ≠ r + 7 by omega)]
theorem T9_step {A : Nat → Nat → Int32} {r i N : Nat} {h : Int32} (hr : 4 ≤ r) (hi : i < N) (hh : ¬ h = -1) (e : A (r + 9) i = h) : brD (T9 A r h i N) r i h = T9 (h1D A r i h) r h (i + 1) N := by
  rw [T9_yes e hi hh, T9_de hr]
  unfold h1D
  rw [if_pos e]
theorem h1R_no {A : Nat → Nat → Int32} {r i : Nat} {h : Int32} (e : ¬ A (r + 7) i = h) : h1R A r i h = A := if_neg e
theorem h1D_no {A : Nat → Nat → Int32} {r i : Nat} {h : Int32} (e : ¬ A (r + 9) i = h) : h1D A r i h = A := if_neg e
theorem h1D_n {B : Nat → Nat → Int32} {r f q c : Nat} {h : Int32} (hc : c ≠ f) : h1D B r f h q c = B q c := by
  unfold h1D
  split
  · unfold brD
    split
    · rw [jv_Unj hc]
    · rw [jv_Unj hc, jv_Unj hc, jv_Unj hc, jv_Unj hc, jv_Unj hc]
  · rfl
theorem hRL_none {r : Nat} {h : Int32} : ∀ m i A, (∀ f, i ≤ f → f < i + m → ¬ A (r + 7) f = h) → hRL r h m i A = A := by
  intro m
  induction m with
  | zero => intro i A _; rfl
  | succ m ih =>
    intro i A hA
    show hRL r h m (i + 1) (h1R A r i h) = A
    rw [h1R_no (hA i (by omega) (by omega))]
    exact ih _ _ (fun f h1 h2 => hA f (by omega) (by omega))
theorem dRL_none {r : Nat} {h : Int32} : ∀ m i A, (∀ f, i ≤ f → f < i + m → ¬ A (r + 9) f = h) → dRL r h m i A = A := by
  intro m
  induction m with
  | zero => intro i A _; rfl
  | succ m ih =>
    intro i A hA
    show dRL r h m (i + 1) (h1D A r i h) = A
    rw [h1D_no (hA i (by omega) (by omega))]
    exact ih _ _ (fun f h1 h2 => hA f (by omega) (by omega))
theorem hRL_o {r q : Nat} {h : Int32} (hq : q < r + 1 ∨ r + 9 < q ∨ q = r + 9) : ∀ m i A, hRL r h m i A q = A q := by
  intro m
  induction m with
  | zero => intro i A; rfl
  | succ m ih =>
    intro i A
    show hRL r h m (i + 1) (h1R A r i h) q = A q
    rw [ih]
    unfold h1R
    split
    · unfold brR
      split
      · rw [jv_U_other (by omega), jv_U_other (by omega), jv_U_other (by omega), jv_U_other (by omega), jv_U_other (by omega)]
      · rw [jv_U_other (by omega)]
    · rfl
theorem dRL_o {r q : Nat} {h : Int32} (hq : q < r + 1 ∨ r + 9 < q) : ∀ m i A, dRL r h m i A q = A q := by
  intro m
  induction m with
  | zero => intro i A; rfl
  | succ m ih =>
    intro i A
    show dRL r h m (i + 1) (h1D A r i h) q = A q
    rw [ih]
    unfold h1D
    split
    · unfold brD
      split
      · rw [jv_U_other (by omega)]
      · rw [jv_U_other (by omega), jv_U_other (by omega), jv_U_other (by omega), jv_U_other (by omega), jv_U_other (by omega)]
    · rfl
/-! an hour keeps what holds -/
theorem CE.to {C C1 : Nat → Nat → Int32} {N K t t1 : Nat} (H : CE C N K t) (hN : N ≤ 12) (hK : K ≤ 4) (h0 : C1 0 5 = nI t1) (h : ∀ q, 1 ≤ q → q < 28 → C1 q = C q) : CE C1 N K t1 := by
  obtain ⟨a, b, c, d⟩ := H
  have hfh : ∀ lo hi m i acc, i + m ≤ 4 → fhL C1 lo hi m i acc = fhL C lo hi m i acc := by
    intro lo hi m
    induction m with
    | zero => intro i acc _; rfl
    | succ m ih =>
      intro i acc hi'
      have e : hrs C1 (20 + 2 * i) lo hi = hrs C (20 + 2 * i) lo hi := by
        unfold hrs
        rw [h _ (by omega) (by omega), h (20 + 2 * i + 1) (by omega) (by omega)]
      show fhL C1 lo hi m (i + 1) _ = fhL C lo hi m (i + 1) _
      rw [ih _ _ (by omega), e]
  have hlx : ∀ q x, layX C1 K q x = layX C K q x := fun q x => by
    unfold layX fh
    rw [hfh _ _ _ _ _ (by omega), hfh _ _ _ _ _ (by omega), h 4 (by omega) (by omega), h 5 (by omega) (by omega)]
  refine ⟨h0, fun x y hx hy => ?_, fun f hf => ?_, fun f hf => ?_⟩
  · rw [h (8 + x) (by omega) (by omega), hlx]
    exact b x y hx hy
  · rw [h 3 (by omega) (by omega)]
    exact c f hf
  · rw [h 4 (by omega) (by omega)]
    exact d f hf
theorem RI.hr {C : Nat → Nat → Int32} {r N K t : Nat} (H : RI C r N t) (hr : 43 ≤ r) (hN : N ≤ 12) (E : CE C N K t) (ht : t < 2 ^ 30) : ∃ y t0 f0, hrV r (nI t) N 0 C r 0 = nI f0 ∧ f0 < N ∧ hrV r (nI t) N 0 C r 1 = nI y ∧ 1 ≤ y ∧ y ≤ 20 ∧ t0 ≤ t ∧ RT (hrV r (nI t) N 0 C) r N t y t0 f0 0 := by
  obtain ⟨y, t0, f0, h0, h1, h2, h3, h4, h5, h6⟩ := H
  have e : hrV r (nI t) N 0 C r = C r := hrV_out (Or.inl (by omega)) _ _ _
  refine ⟨y, t0, f0, by rw [e]; exact h0, h1, by rw [e]; exact h2, h3, h4, h5, fun c hc => ?_⟩
  have ec := cl_hrV (h := nI t) (show 4 ≤ r by omega) N 0 C c
  rw [if_pos ⟨Nat.zero_le _, by omega⟩] at ec
  rw [ec, if_neg (Nat.not_lt_zero _)]
  obtain ⟨s, hs, hs9⟩ := E.2.2.1 c hc
  rw [hs]
  exact ((h6 c hc).h1 hs9 ht).d1 hs9 ht
theorem CE.te {C : Nat → Nat → Int32} {r N K t i : Nat} {h : Int32} (hr : 43 ≤ r) (hN : N ≤ 12) (hK : K ≤ 4) (E : CE C N K t) : CE (te1 C r N i h) N K t :=
  E.to hN hK (by rw [te1_out (Or.inl (by omega))]; exact E.1) (fun q _ h2 => te1_out (Or.inl (by omega)))
theorem RT.tel {r N K t y t0 f0 : Nat} (hr : 43 ≤ r) (hN : N ≤ 12) (hK : K ≤ 4) (hy : y ≤ 20) (h0 : t0 ≤ t) (ht : t < 2 ^ 30) : ∀ m i C, i + m ≤ N → RT C r N t y t0 f0 i → CE C N K t → C r 1 = nI y → RT (teL r N (nI t) m i C) r N t y t0 f0 (i + m) ∧ Fi (teL r N (nI t) m i C) r N ≤ Fi C r N := by
  intro m
  induction m with
  | zero => intro i C _ H _ _; exact ⟨H, Nat.le_refl _⟩
  | succ m ih =>
    intro i C hi H E h1
    have e : te1 C r N i (nI t) r = C r := te1_out (Or.inl (by omega))
    have h2 := ih (i + 1) (te1 C r N i (nI t)) (by omega) (H.te hr hN (by omega) E h1 hy h0 ht) (E.te hr hN hK) (by rw [e]; exact h1)
    have h3 := Fi_te H hr hN (by omega) E ht
    show RT (teL r N (nI t) m (i + 1) (te1 C r N i (nI t))) r N t y t0 f0 (i + (m + 1)) ∧ Fi (teL r N (nI t) m (i + 1) (te1 C r N i (nI t))) r N ≤ _
    rw [show i + (m + 1) = i + 1 + m by omega]
    exact ⟨h2.1, by omega⟩
theorem CE.hr {C : Nat → Nat → Int32} {r N K t : Nat} {h : Int32} (hr : 43 ≤ r) (hN : N ≤ 12) (hK : K ≤ 4) (E : CE C N K t) : CE (hrV r h N 0 C) N K t :=
  E.to hN hK (by rw [hrV_out (Or.inl (by omega))]; exact E.1) (fun q _ h2 => hrV_out (Or.inl (by omega)) _ _ _)
theorem CE.ph {C : Nat → Nat → Int32} {r N K t : Nat} {h : Int32} (hr : 43 ≤ r) (hN : N ≤ 12) (hK : K ≤ 4) (E : CE C N K t) : CE (phV C r N h) N K t :=
  E.to hN hK (by rw [phV_out (Or.inl (by omega))]; exact E.1) (fun q _ h2 => phV_out (Or.inl (by omega)))
theorem RI.ph {C : Nat → Nat → Int32} {r N K t : Nat} (H : RI C r N t) (hr : 43 ≤ r) (hN : N ≤ 12) (hK : K ≤ 4) (E : CE C N K t) (ht : t < 2 ^ 30) : RI (phV C r N (nI t)) r N (t + 1) ∧ Fi (phV C r N (nI t)) r N ≤ Fi C r N := by
  obtain ⟨y, t0, f0, h0, h1, h2, h3, h4, h5, h6⟩ := H.hr hr hN E ht
  obtain ⟨h7, h8⟩ := RT.tel hr hN hK h4 h5 ht N 0 _ (by omega) h6 (E.hr hr hN hK) h2
  have h9 := Fi_hr (C := C) (r := r) (N := N) (h := nI t) (by omega) (m1n (by omega))
  have e : phV C r N (nI t) r = hrV r (nI t) N 0 C r := teL_out (Or.inl (by omega)) _ _ _
  refine ⟨⟨y, t0, f0, by rw [e]; exact h0, h1, by rw [e]; exact h2, h3, h4, by omega, fun c hc => ?_⟩, ?_⟩
  · have := h7 c hc
    rw [if_pos (by omega)] at this
    exact this.next
  · show Fi (teL r N (nI t) N 0 (hrV r (nI t) N 0 C)) r N ≤ _
    omega
/-- behind the arrivals of rumours, before those of denials -/
theorem RI.come {C : Nat → Nat → Int32} {r N t f : Nat} (H : RI C r N t) (hf : f < N) (ht : t < 2 ^ 30) (e : C (r + 7) f = nI t) : ∃ p, C (r + 8) f = nI p ∧ 1 ≤ p ∧ p ≤ 20 := by
  obtain ⟨y, t0, f0, h0, h1, h2, h3, h4, h5, h6⟩ := H
  obtain ⟨a, p, b1, b2, b3, b4, b5, b6, b7⟩ := (h6 f hf).2.2.2.2.2.2.2.1.resolve_left (fun c => m1n (by omega) (e.symm.trans c))
  exact ⟨p, b2, b5, by omega⟩
