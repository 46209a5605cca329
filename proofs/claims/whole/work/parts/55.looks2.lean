/-! ===== looks on both sides, over the whole relation ===== -/
theorem INV.sim {V W : Nat → Nat → Int32} {N K R t j : Nat} (H : INV V W N K R t) (hj : j < R) : Sim V W (43 + 10 * j) j N K (nI t) := (H.2.2.2.2.2.2.2 j hj).1
theorem INV.bd {V W : Nat → Nat → Int32} {N K R t j : Nat} (H : INV V W N K R t) (hj : j < R) : Bd V (43 + 10 * j) := (H.2.2.2.2.2.2.2 j hj).2.1
theorem INV.hd {V W : Nat → Nat → Int32} {N K R t : Nat} (H : INV V W N K R t) : ∀ f, f < 12 → V 2 f = W 124 f := fun f hf => (H.2.2.2.2.1.2.2.1 f hf).1
theorem EqV_tri {V : Nat → Nat → Int32} {N j : Nat} : EqV (triV V N j) V := fun q h1 h2 h3 => triV_out (by omega)
theorem EqV_triD {V : Nat → Nat → Int32} {N j f : Nat} : EqV (triD V N j f) V := fun q h1 h2 h3 => triD_out (by omega)
theorem EqW_bb {W X : Nat → Nat → Int32} (h : ∀ q, 123 ≤ q → q ≤ 134 → X q = W q) (h6 : X 136 = kpM W 136) : EqW (bbM X) W :=
  ⟨fun c _ => by rw [bbM_out (by omega), h _ (by omega) (by omega)], fun q h1 h2 => by rw [bbM_out (by omega), h _ (by omega) h2], fun c hc => bb_kp h6 c hc⟩
theorem EqW_ie {W : Nat → Nat → Int32} {N K j : Nat} : EqW (bbM (ieM W N K j)) W := EqW_bb (fun q h1 h2 => ieM_out (by omega)) (by unfold ieM; exact lkM_out (by omega) _ _)
theorem EqW_wi {W : Nat → Nat → Int32} {N K j f : Nat} : EqW (bbM (wiM W N K j f)) W := EqW_bb (fun q h1 h2 => wiM_out (by omega)) (by unfold wiM; rw [lkM_out (by omega), deM_out (by omega)])
theorem qtL_o {N K r q : Nat} (h : q ≠ 135) : ∀ m p W, (qtL N K r m p W).1 q = W q := by
  intro m
  induction m with
  | zero => intro p W; rfl
  | succ m ih =>
    intro p W
    unfold qtL
    split
    · rfl
    · rw [ih, lkM_out h]
theorem EqW_qt {W : Nat → Nat → Int32} {N K j : Nat} : EqW (bbM (qtM W N K j).1) W := EqW_bb (fun q h1 h2 => by unfold qtM; rw [qtL_o (by omega), kpM_out (by omega)]) (by unfold qtM; rw [qtL_o (by omega)])
theorem INV.tri {V W : Nat → Nat → Int32} {N K R t j : Nat} (H : INV V W N K R t) (ht : t ≤ 2 ^ 29) (hj : j < R) : INV (triV V N j) (bbM (ieM W N K j)) N K R t ∧ hbL (triV V N j) 33 N 0 (nI 0) = beL (ieM W N K j) j N 0 (nI 0) ∧ ∀ f, f < 12 → triV V N j 35 f = ieM W N K j 135 (96 + 12 * j + f) := by
  have hR := H.R8
  have hN := H.N12
  obtain ⟨t', S⟩ := Sim.trial (H.sim hj) (H.bd hj) H.2.1 (by omega) hN ht
  refine ⟨H.to EqV_tri EqW_ie, S.heads (fun f hf => ?_) _ _ _ (by omega), fun f hf => ?_⟩
  · rw [triV_out (by omega), ieM_out (by omega)]; exact H.hd f hf
  · rw [Nat.add_assoc 96]; exact S.1 2 f (by omega) (by omega) hf
theorem INV.trd {V W : Nat → Nat → Int32} {N K R t j f : Nat} (H : INV V W N K R t) (ht : t ≤ 2 ^ 29) (hj : j < R) (hf : f < N) : INV (triD V N j f) (bbM (wiM W N K j f)) N K R t ∧ hbL (triD V N j f) 33 N 0 (nI 0) = beL (wiM W N K j f) j N 0 (nI 0) := by
  have hR := H.R8
  have hN := H.N12
  obtain ⟨t', S⟩ := Sim.trialD (H.sim hj) (H.bd hj) H.2.1 (by omega) hN (show f < 12 by omega) ht
  refine ⟨H.to EqV_triD EqW_wi, S.heads (fun f hf => ?_) _ _ _ (by omega)⟩
  rw [triD_out (by omega), wiM_out (by omega)]; exact H.hd f hf
theorem INV.triQ {V W : Nat → Nat → Int32} {N K R t j : Nat} (H : INV V W N K R t) (ht : t ≤ 2 ^ 29) (hj : j < R) : INV (triV V N j) (bbM (qtM W N K j).1) N K R t ∧ qtR V N j = qtI (qtM W N K j).2 := by
  have hR := H.R8
  exact ⟨H.to EqV_tri EqW_qt, Sim.trialQ (H.sim hj) (H.bd hj) H.2.1 (by omega) H.N12 ht⟩
theorem bd_alike {N K R t j : Nat} (ht : t ≤ 2 ^ 29) (hj : j < R) : ∀ m i V W b l, i + m ≤ N → INV V W N K R t → INV (bdV N j m i V) (dnV N K j m i W) N K R t ∧ bdB N j m i V b l = dnB N K j m i W b l := by
  intro m
  induction m with
  | zero => intro i V W b l _ H; exact ⟨H, rfl⟩
  | succ m ih =>
    intro i V W b l hi H
    obtain ⟨T1, T2⟩ := H.trd ht hj (show i < N by omega)
    refine ⟨(ih (i + 1) _ _ b l (by omega) T1).1, ?_⟩
    unfold bdB dnB
    rw [T2]
    by_cases hc : l ≤ beL (wiM W N K j i) j N 0 (nI 0)
    · rw [if_pos hc, if_neg (Int32.not_lt.mpr hc)]
      exact (ih _ _ _ _ _ (by omega) T1).2
    · rw [if_neg hc, if_pos (Int32.not_le.mp hc)]
      exact (ih _ _ _ _ _ (by omega) T1).2
theorem INV.bestD {V W : Nat → Nat → Int32} {N K R t j : Nat} (H : INV V W N K R t) (ht : t ≤ 2 ^ 29) (hj : j < R) : INV (bdV N j (N - 1) 1 (triD V N j 0)) (dnX W N K j) N K R t ∧ bdB N j (N - 1) 1 (triD V N j 0) 0 (hbL (triD V N j 0) 33 N 0 (nI 0)) = dnR W N K j := by
  have hN2 := H.1.2.2.2.1
  obtain ⟨T1, T2⟩ := H.trd ht hj (show 0 < N by omega)
  obtain ⟨a, b⟩ := bd_alike ht hj (N - 1) 1 _ _ 0 (hbL (triD V N j 0) 33 N 0 (nI 0)) (by omega) T1
  refine ⟨a, ?_⟩
  rw [b, T2]
  rfl
/-- the tower changed, and its pipes laid anew -/
theorem INV.lay {V W V1 W1 : Nat → Nat → Int32} {N K K' R t : Nat} (H : INV V W N K R t) (hC : Ct V1 N K' R) (hM : Mt W1 N K' R) (hT : TW V1 W1 K') (h0 : V1 0 = V 0) (h43 : ∀ q, 43 ≤ q → q < 123 → V1 q = V q) (hw : ∀ q, 133 ≤ q → q ≤ 135 → W1 q = W q) : INV (layV V1 N K') W1 N K' R t := by
  obtain ⟨-, h5, -, h8, -, -, hO, hS⟩ := H
  have hN := hC.2.2.2.2.1
  have hK := hC.2.2.2.2.2.1
  have hR := hC.2.2.2.2.2.2
  have hP : PW (layV V1 N K') W1 N K' := pipes2 hT.1 hT.2.1 hK hN
  have hT' : TW (layV V1 N K') W1 K' := hT.to hK (fun q h => layV_out (by omega)) (fun q h1 h2 => rfl)
  refine ⟨hC.o (layV_out (by omega)) (layV_out (by omega)), by rw [layV_out (by omega), h0]; exact h5, hM, by rw [hw 135 (by omega) (by omega)]; exact h8, hT', hP, fun j hj => ?_, ?_⟩
  · rw [layV_out (by omega), h43 _ (by omega) (by omega), hw 133 (by omega) (by omega)]; exact hO j hj
  · exact hS.to hR (fun q h1 h2 => by rw [layV_out (by omega), h43 q h1 h2]) (fun f hf => (hT'.2.2.2.1 f hf).1) hP (fun c _ => by rw [hw 135 (by omega) (by omega)]) (fun j _ => by rw [hw 134 (by omega) (by omega)])
theorem TW.open_ {V W : Nat → Nat → Int32} {K i : Nat} {b : Int32} (H : TW V W K) (hK : K ≤ 4) (hb : b = 0 ∨ b = 1) : TW (jv_U V 5 i b) (jv_U W 127 i b) K := by
  have st := H.st
  obtain ⟨h1, h2, h3, h4, h5, h6⟩ := H
  refine ⟨h1.congr hK (fun q g1 g2 => ?_) (fun q g1 g2 => ?_), fun f hf => ?_, ?_, ?_, ?_, fun f hf => ?_⟩
  · rw [mg_lo (by omega), mg_lo (by omega), jv_U_other (by omega)]
  · rw [mg_hi (by omega), mg_hi (by omega), jv_U_other (by omega)]
  · rw [mg_4, mg_5, mg_126, mg_127, jv_U_other (by omega : 4 ≠ 5), jv_U_other (by omega : 126 ≠ 127)]
    obtain ⟨s1, s2⟩ := st f hf
    refine ⟨s1, ?_⟩
    by_cases e : f = i
    · subst e; rw [jv_Ueq, jv_Ueq]
    · rw [jv_Unj e, jv_Unj e]; exact s2
  · rw [jv_U_other (by omega), jv_U_other (by omega)]; exact h3
  · rw [jv_U_other (by omega), jv_U_other (by omega)]; exact h4
  · rw [jv_U_other (by omega)]; exact h5
  · by_cases e : f = i
    · subst e; rw [jv_Ueq]; exact hb
    · rw [jv_Unj e]; exact h6 f hf
theorem INV.shut {V W : Nat → Nat → Int32} {N K R t i : Nat} {b : Int32} (H : INV V W N K R t) (hb : b = 0 ∨ b = 1) : INV (shuV V N K i b) (jv_U W 127 i b) N K R t :=
  H.lay (H.1.o (jv_U_other (by omega)) (jv_U_other (by omega))) (U127_Mt H.2.2.1) (H.2.2.2.2.1.open_ H.K4 hb) (jv_U_other (by omega)) (fun q h1 h2 => jv_U_other (by omega)) (fun q h1 h2 => jv_U_other (by omega))
theorem bs_alike {N K R t j : Nat} (ht : t ≤ 2 ^ 29) (hj : j < R) : ∀ m i V W b l, i + m ≤ 12 → INV V W N K R t → INV (bsL N K j m i V b l).1 (shL N K j m i W b l).1 N K R t ∧ (bsL N K j m i V b l).2 = (shL N K j m i W b l).2 := by
  intro m
  induction m with
  | zero => intro i V W b l _ H; exact ⟨H, rfl⟩
  | succ m ih =>
    intro i V W b l hi H
    have e5 := (H.2.2.2.2.1.st i (by omega)).2
    unfold bsL shL
    rw [e5]
    by_cases h0 : W 127 i = 0
    · rw [if_pos h0, if_pos h0]
      exact ih _ _ _ _ _ (by omega) H
    · rw [if_neg h0, if_neg h0]
      have S0 : INV (shuV V N K i (nI 0)) (jv_U W 127 i (nI 0)) N K R t := H.shut (Or.inl nI_0)
      obtain ⟨T1, T2, -⟩ := S0.tri ht hj
      have S1 : INV (shoV V N K j i) (smO W N K j i) N K R t := T1.shut (i := i) (b := nI 1) (Or.inr (by decide +kernel))
      have T3 : hbL (shtV V N K j i) 33 N 0 (nI 0) = beL (smV W N K j i) j N 0 (nI 0) := T2
      rw [T3]
      by_cases hc : l ≤ beL (smV W N K j i) j N 0 (nI 0)
      · rw [if_pos hc, if_neg (Int32.not_lt.mpr hc)]
        exact ih _ _ _ _ _ (by omega) S1
      · rw [if_neg hc, if_pos (Int32.not_le.mp hc)]
        exact ih _ _ _ _ _ (by omega) S1
theorem INV.bestS {V W : Nat → Nat → Int32} {N K R t j : Nat} (H : INV V W N K R t) (ht : t ≤ 2 ^ 29) (hj : j < R) : INV (bsL N K j (N - 1) 0 (triV V N j) none (hbL (triV V N j) 33 N 0 (nI 0))).1 (shX W N K j).1 N K R t ∧ (bsL N K j (N - 1) 0 (triV V N j) none (hbL (triV V N j) 33 N 0 (nI 0))).2 = (shX W N K j).2 := by
  have hN := H.N12
  obtain ⟨T1, T2, -⟩ := H.tri ht hj
  have := bs_alike (K := K) ht hj (N - 1) 0 _ _ none (hbL (triV V N j) 33 N 0 (nI 0)) (by omega) T1
  rw [T2] at this ⊢
  exact this
