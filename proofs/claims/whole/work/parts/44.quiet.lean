/-! ===== class and reference alike: in how many hours all is quiet ===== -/
theorem laC_le {r N : Nat} {h : Int32} : ∀ m p V, laC r N h m p V ≤ p + m := by
  intro m
  induction m with
  | zero => intro p V; exact Nat.le_refl _
  | succ m ih =>
    intro p V
    unfold laC
    split
    · omega
    · have := ih (p + 1) (phV V r N (h + nI p)); omega
theorem lkM_1 {W : Nat → Nat → Int32} {N K j : Nat} : lkM N K j 1 W = hoN (hfM W N K j) := rfl
theorem Sim.quietIn {r j N K c : Nat} (hr : 33 ≤ r) (hj : j < 8) (hN : N ≤ 12) : ∀ m p V W, c + p + m ≤ 2 ^ 30 → Bd V r → Sim V W r j N K (nI (c + p)) → (qtL N K j (m + 1) p W).2 = if quL (laV r N (nI c) m p V) r N 0 = true then laC r N (nI c) m p V else p + m + 1 := by
  intro m
  induction m with
  | zero =>
    intro p V W _ B H
    have e := H.quiet N 0 (by omega)
    unfold qtL laV laC
    rw [e]
    by_cases hq : qmL W j N 0 = true
    · rw [if_pos hq, if_pos hq]
    · rw [if_neg hq, if_neg hq]
      rfl
  | succ m ih =>
    intro p V W hp B H
    have e := H.quiet N 0 (by omega)
    unfold qtL laV laC
    by_cases hq : quL V r N 0 = true
    · rw [if_pos (by rw [← e]; exact hq), if_pos hq, if_pos hq, if_pos hq]
    · rw [if_neg (by rw [← e]; exact hq), if_neg hq, if_neg hq, nI_add, lkM_1]
      have H' := (H.hour B hr hj hN).next hj
      rw [nI_add] at H'
      rw [ih (p + 1) _ _ (by omega) (B.hour hN) H']
      split
      · rfl
      · omega
theorem Sim.quietR {V V0 W : Nat → Nat → Int32} {j N K c : Nat} (hj : j < 8) (hN : N ≤ 12) (hc : c ≤ 2 ^ 29) (B : Bd V 33) (H : Sim V W 33 j N K (nI c)) : (if quL (laV 33 N (nI c) 100 0 V) 33 N 0 = true then nI (laC 33 N (nI c) 100 0 V) else -1) = qtI (qtL N K j 101 0 W).2 := by
  rw [Sim.quietIn (c := c) (by omega) hj hN 100 0 V W (by omega) B H]
  have hle := laC_le (r := 33) (N := N) (h := nI c) 100 0 V
  unfold qtI
  split
  · rw [if_neg (by omega)]
  · rw [if_pos (by omega)]
