/-! ===== how many floors come to believe ===== -/
def hcL (V : Nat → Nat → Int32) (r : Nat) : Nat → Nat → Nat → Nat
  | 0, _, a => a
  | m + 1, i, a => hcL V r m (i + 1) (if V (r + 2) i = -1 then a else a + 1)
theorem hcL_add {V : Nat → Nat → Int32} {r : Nat} : ∀ m i a, hcL V r m i a = a + hcL V r m i 0 := by
  intro m
  induction m with
  | zero => intro i a; rfl
  | succ m ih =>
    intro i a
    unfold hcL
    rw [ih, ih (i + 1) (if V (r + 2) i = -1 then 0 else 0 + 1)]
    split <;> omega
theorem hcL_congr {V V' : Nat → Nat → Int32} {r : Nat} : ∀ m i a, (∀ c, i ≤ c → V' (r + 2) c = V (r + 2) c) → hcL V' r m i a = hcL V r m i a := by
  intro m
  induction m with
  | zero => intro i a _; rfl
  | succ m ih =>
    intro i a h
    unfold hcL
    rw [h i (by omega), ih _ _ (fun c hc => h c (by omega))]
theorem Sim.hc {V W : Nat → Nat → Int32} {r j N K : Nat} {h : Int32} (H : Sim V W r j N K h) : ∀ m i a, i + m ≤ 12 → hcL V r m i a = hdL W j m i a := by
  intro m
  induction m with
  | zero => intro i a _; rfl
  | succ m ih =>
    intro i a hi
    have e2 : V (r + 2) i = W 135 (96 + 12 * j + i) := by rw [Nat.add_assoc 96]; exact H.1 2 i (by omega) (by omega) (by omega)
    unfold hcL hdL
    rw [e2, ih _ _ (by omega)]
    rfl
theorem brR_ne {V : Nat → Nat → Int32} {r f c o : Nat} {p h : Int32} (hc : c ≠ f) : brR V r f p h (r + o) c = V (r + o) c := by
  unfold brR
  split
  · rw [jv_Unj hc, jv_Unj hc, jv_Unj hc, jv_Unj hc]
  · rfl
theorem brD_ne {V : Nat → Nat → Int32} {r f c o : Nat} {h : Int32} (hc : c ≠ f) : brD V r f h (r + o) c = V (r + o) c := by
  unfold brD
  split
  · rfl
  · rw [jv_Unj hc, jv_Unj hc, jv_Unj hc, jv_Unj hc]
theorem hr1_ne {V : Nat → Nat → Int32} {r f c o : Nat} {h : Int32} (hc : c ≠ f) : hr1 V r f h (r + o) c = V (r + o) c := by
  have a : h1R V r f h (r + o) c = V (r + o) c := by
    unfold h1R
    split
    · rw [brR_ne hc, jv_Unj hc]
    · rfl
  unfold hr1 h1D
  split
  · rw [brD_ne hc, jv_Unj hc, a]
  · exact a
theorem brD_2 {V : Nat → Nat → Int32} {r f : Nat} {h : Int32} : brD V r f h (r + 2) = V (r + 2) := by
  unfold brD
  split
  · rfl
  · rw [jv_U_other (by omega), jv_U_other (by omega), jv_U_other (by omega), jv_U_other (by omega)]
theorem hr1_2 {V : Nat → Nat → Int32} {r f : Nat} {h : Int32} : hr1 V r f h (r + 2) f = if V (r + 7) f = h ∧ V (r + 1) f = 0 then h else V (r + 2) f := by
  have b : hr1 V r f h (r + 2) = h1R V r f h (r + 2) := by
    unfold hr1 h1D
    split
    · rw [brD_2, jv_U_other (by omega)]
    · rfl
  rw [b]
  unfold h1R
  by_cases h7 : V (r + 7) f = h
  · rw [if_pos h7]
    unfold brR
    rw [jv_Une (by omega : r + 1 ≠ r + 7)]
    by_cases h1 : V (r + 1) f = 0
    · rw [if_pos h1, if_pos ⟨h7, h1⟩, jv_Une (by omega), jv_Une (by omega), jv_Ueq]
    · rw [if_neg h1, if_neg (fun c => h1 c.2), jv_Une (by omega)]
  · rw [if_neg h7, if_neg (fun c => h7 c.1)]
theorem hrV_lo {r o c : Nat} {h : Int32} : ∀ m i V, c < i → hrV r h m i V (r + o) c = V (r + o) c := by
  intro m
  induction m with
  | zero => intro i V _; rfl
  | succ m ih =>
    intro i V hc
    show hrV r h m (i + 1) _ (r + o) c = _
    rw [ih _ _ (by omega), hr1_ne (by omega)]
/-- a floor that isn't reached hasn't heard -/
def Zr (V : Nat → Nat → Int32) (r : Nat) : Prop := ∀ f, f < 12 → V (r + 1) f = 0 → V (r + 2) f = -1
theorem hrN_hc {r : Nat} {h : Int32} (hh : ¬ h = -1) : ∀ m i V b, i + m ≤ 12 → (∀ f, i ≤ f → f < 12 → V (r + 1) f = 0 → V (r + 2) f = -1) → nI (hcL (hrV r h m i V) r m i 0) + b = nI (hcL V r m i 0) + hrN r h m i V b := by
  intro m
  induction m with
  | zero => intro i V b _ _; rfl
  | succ m ih =>
    intro i V b hi Z
    have IH := ih (i + 1) (hr1 V r i h) (hnw V r i h b) (by omega) (fun f h1 h2 h3 => by
      rw [hr1_ne (by omega)] at h3
      rw [hr1_ne (by omega)]
      exact Z f (by omega) h2 h3)
    have e1 : hcL (hr1 V r i h) r m (i + 1) 0 = hcL V r m (i + 1) 0 := hcL_congr _ _ _ (fun c hc => hr1_ne (by omega))
    have e2 : hrV r h m (i + 1) (hr1 V r i h) (r + 2) i = hr1 V r i h (r + 2) i := hrV_lo _ _ _ (by omega)
    rw [e1] at IH
    show nI (hcL (hrV r h m (i + 1) (hr1 V r i h)) r (m + 1) i 0) + b = nI (hcL V r (m + 1) i 0) + hrN r h m (i + 1) (hr1 V r i h) (hnw V r i h b)
    unfold hcL
    rw [e2, hr1_2, hcL_add m (i + 1), hcL_add (V := V) m (i + 1)]
    unfold hnw at IH ⊢
    rw [jv_Une (by omega : r + 1 ≠ r + 7)] at IH ⊢
    by_cases hc : V (r + 7) i = h ∧ V (r + 1) i = 0
    · rw [if_pos hc, if_neg hh, if_pos (Z i (by omega) (by omega) hc.2), Nat.zero_add, ← nI_add]
      rw [if_pos hc.1, decide_eq_true hc.2] at IH ⊢
      rw [Nat.zero_add, ← IH]
      show nI 1 + _ + b = _ + (b + nI 1)
      rw [Int32.add_comm (nI 1), Int32.add_assoc, Int32.add_comm (nI 1)]
    · have en : (if V (r + 7) i = h then b + bz (decide (V (r + 1) i = 0)) else b) = b := by
        by_cases h7 : V (r + 7) i = h
        · rw [if_pos h7, decide_eq_false (fun c => hc ⟨h7, c⟩)]
          exact add_nI0 b
        · rw [if_neg h7]
      rw [en] at IH ⊢
      rw [if_neg hc, ← nI_add, ← nI_add, Int32.add_assoc, Int32.add_assoc, IH]
theorem te1_2 {V : Nat → Nat → Int32} {r N f o : Nat} {h : Int32} (ho : o ≤ 4) : te1 V r N f h (r + o) = V (r + o) := by
  have t1 : ∀ p m i U, trL r f p h m i U (r + o) = U (r + o) := by
    intro p m
    induction m with
    | zero => intro i U; rfl
    | succ m ih =>
      intro i U
      show trL r f p h m (i + 1) _ (r + o) = _
      rw [ih]
      unfold tr1
      split
      · rw [jv_U_other (by omega), jv_U_other (by omega)]
      · rfl
  have t2 : ∀ m i U, tdL r f h m i U (r + o) = U (r + o) := by
    intro m
    induction m with
    | zero => intro i U; rfl
    | succ m ih =>
      intro i U
      show tdL r f h m (i + 1) _ (r + o) = _
      rw [ih]
      unfold td1
      split
      · rw [jv_U_other (by omega)]
      · rfl
  have t3 : t1R V r N f h (r + o) = V (r + o) := by
    unfold t1R telR
    split
    · split
      · rw [t1, jv_U_other (by omega)]
      · rw [jv_U_other (by omega)]
    · rfl
  unfold te1 t1D
  split
  · rw [t2, jv_U_other (by omega), t3]
  · exact t3
theorem teL_2 {r N o : Nat} {h : Int32} (ho : o ≤ 4) : ∀ m i V, teL r N h m i V (r + o) = V (r + o) := by
  intro m
  induction m with
  | zero => intro i V; rfl
  | succ m ih =>
    intro i V
    show teL r N h m (i + 1) _ (r + o) = _
    rw [ih, te1_2 ho]
/-- the news of an hour are the floors that have heard more -/
theorem phN_hc {V : Nat → Nat → Int32} {r N : Nat} {h : Int32} (hh : ¬ h = -1) (hN : N ≤ 12) (Z : Zr V r) : nI (hcL (phV V r N h) r N 0 0) = nI (hcL V r N 0 0) + phN V r N h := by
  have a := hrN_hc hh N 0 V (nI 0) (by omega) (fun f _ h2 h3 => Z f h2 h3)
  rw [add_nI0] at a
  unfold phN
  rw [← a]
  congr 1
  exact hcL_congr _ _ _ (fun c _ => by unfold phV; rw [teL_2 (by omega)])
