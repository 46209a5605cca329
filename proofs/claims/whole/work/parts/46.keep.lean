/-! ===== a floor that isn't reached hasn't heard: kept ===== -/
theorem nI2_ne : ¬ nI 2 = 0 := by decide +kernel
theorem brR_s {V : Nat → Nat → Int32} {r f : Nat} {p h : Int32} : ¬ brR V r f p h (r + 1) f = 0 := by
  unfold brR
  split
  · rw [jv_Une (by omega), jv_Une (by omega), jv_Une (by omega), jv_Ueq]; exact nI1_ne
  · assumption
theorem brD_s {V : Nat → Nat → Int32} {r f : Nat} {h : Int32} : ¬ brD V r f h (r + 1) f = 0 := by
  unfold brD
  split
  · rename_i e; rw [e]; exact nI2_ne
  · rw [jv_Une (by omega), jv_Une (by omega), jv_Une (by omega), jv_Ueq]; exact nI2_ne
theorem Zr.deny {V : Nat → Nat → Int32} {r f : Nat} {h : Int32} (Z : Zr V r) : Zr (brD V r f h) r := by
  intro c hc h1
  by_cases e : c = f
  · subst e; exact absurd h1 brD_s
  · rw [brD_ne e] at h1 ⊢; exact Z c hc h1
theorem Zr.arr {V : Nat → Nat → Int32} {r f : Nat} {h : Int32} (Z : Zr V r) : Zr (hr1 V r f h) r := by
  intro c hc h1
  by_cases e : c = f
  · subst e
    have a : ¬ V (r + 7) c = h := by
      intro h7
      apply (show ¬ hr1 V r c h (r + 1) c = 0 from ?_) h1
      have b : ¬ h1R V r c h (r + 1) c = 0 := by unfold h1R; rw [if_pos h7]; exact brR_s
      unfold hr1 h1D
      split
      · exact brD_s
      · exact b
    have s : V (r + 1) c = 0 := by
      by_cases h9 : h1R V r c h (r + 9) c = h
      · unfold hr1 h1D at h1
        rw [if_pos h9] at h1
        exact absurd h1 brD_s
      · unfold hr1 h1D at h1
        rw [if_neg h9] at h1
        unfold h1R at h1
        rw [if_neg a] at h1
        exact h1
    rw [hr1_2, if_neg (fun d => a d.1)]
    exact Z c hc s
  · rw [hr1_ne e] at h1 ⊢; exact Z c hc h1
theorem Zr.hearL {r : Nat} {h : Int32} : ∀ m i V, Zr V r → Zr (hrV r h m i V) r := by
  intro m
  induction m with
  | zero => intro i V Z; exact Z
  | succ m ih => intro i V Z; exact ih _ _ Z.arr
theorem Zr.hour {V : Nat → Nat → Int32} {r N : Nat} {h : Int32} (Z : Zr V r) : Zr (phV V r N h) r := by
  intro c hc h1
  unfold phV at h1 ⊢
  rw [teL_2 (by omega)] at h1 ⊢
  exact Zr.hearL _ _ _ Z c hc h1
