/-! ===== class and reference alike: looks ahead, counts ===== -/
theorem Sim.uw {V W : Nat → Nat → Int32} {r j N K i : Nat} {h : Int32} (H : Sim V W r j N K h) (hi : i < 12) : uwB V r i = owB W (12 * j + i) := by
  have e7 : V (r + 7) i = W 135 (576 + (12 * j + i)) := H.1 7 i (by omega) (by omega) hi
  have e9 : V (r + 9) i = W 135 (768 + (12 * j + i)) := H.1 9 i (by omega) (by omega) hi
  unfold uwB owB
  rw [e7, e9]
theorem Sim.quiet {V W : Nat → Nat → Int32} {r j N K : Nat} {h : Int32} (H : Sim V W r j N K h) : ∀ m i, i + m ≤ 12 → quL V r m i = qmL W j m i := by
  intro m
  induction m with
  | zero => intro i _; rfl
  | succ m ih =>
    intro i hi
    have e5 : V (r + 5) i = W 135 (384 + (12 * j + i)) := H.1 5 i (by omega) (by omega) (by omega)
    have e6 : V (r + 6) i = W 135 (480 + (12 * j + i)) := H.1 6 i (by omega) (by omega) (by omega)
    unfold quL qmL
    rw [e5, e6, H.uw (by omega), ih _ (by omega)]
    by_cases hc : owB W (12 * j + i) = false ∧ W 135 (384 + (12 * j + i)) = -1 ∧ W 135 (480 + (12 * j + i)) = -1
    · rw [if_pos hc, if_pos ⟨hc.2.1, hc.2.2, hc.1⟩]
    · rw [if_neg hc, if_neg (fun c => hc ⟨c.2.2, c.1, c.2.1⟩)]
theorem add_nI0 (a : Int32) : a + nI 0 = a := by rw [nI_0]; exact Int32.add_zero a
theorem Sim.heads {V W : Nat → Nat → Int32} {r j N K : Nat} {h : Int32} (H : Sim V W r j N K h) (hh : ∀ f, f < 12 → V 2 f = W 124 f) : ∀ m i a, i + m ≤ 12 → hbL V r m i a = beL W j m i a := by
  intro m
  induction m with
  | zero => intro i a _; rfl
  | succ m ih =>
    intro i a hi
    have e1 : V (r + 1) i = W 135 (0 + 12 * j + i) := by rw [Nat.add_assoc]; exact H.1 1 i (by omega) (by omega) (by omega)
    unfold hbL beL
    rw [e1, hh i (by omega), ih _ _ (by omega), add_nI0]
theorem Sim.heard {V W : Nat → Nat → Int32} {j N K : Nat} {h : Int32} (H : Sim V W (43 + 10 * j) j N K h) : ∀ m i a, i + m ≤ 12 → reachedL V j m i a = hdL W j m i a := by
  intro m
  induction m with
  | zero => intro i a _; rfl
  | succ m ih =>
    intro i a hi
    have e2 : V (43 + 10 * j + 2) i = W 135 (96 + 12 * j + i) := by rw [Nat.add_assoc 96]; exact H.1 2 i (by omega) (by omega) (by omega)
    unfold reachedL hdL
    rw [e2, ih _ _ (by omega)]
    rfl
theorem Sim.under {V W : Nat → Nat → Int32} {j N K : Nat} {h : Int32} (H : Sim V W (43 + 10 * j) j N K h) : ∀ m i a, i + m ≤ 12 → underWayL V j m i a = owL W j m i a := by
  intro m
  induction m with
  | zero => intro i a _; rfl
  | succ m ih =>
    intro i a hi
    unfold underWayL owL
    rw [H.uw (by omega), ih _ _ (by omega)]
    cases owB W (12 * j + i) <;> rfl
theorem Sim.next {V W : Nat → Nat → Int32} {r j N K : Nat} {h : Int32} (H : Sim V W r j N K h) (hj : j < 8) : Sim V (hoN W) r j N K (h + nI 1) := by
  obtain ⟨a, b, c, d, e⟩ := H
  refine ⟨fun o f h1 h9 hf => ?_, fun f hf => ?_, fun p q hp hq => ?_, ?_, ?_⟩
  · have := fo_le h9
    unfold hoN
    rw [jv_Unj (by omega)]; exact a o f h1 h9 hf
  · rw [hoN_out (by omega)]; exact b f hf
  · rw [hoM_congr (V := W) (fun q h1 h2 => hoN_out (by omega))]; exact c p q hp hq
  · unfold hoN
    rw [jv_Ueq, d]
  · rw [hoN_out (by omega)]; exact e
/-- what is quiet stays so: an hour changes nothing -/
def Qt (W : Nat → Nat → Int32) (j N : Nat) : Prop := ∀ i, i < N → owB W (12 * j + i) = false ∧ W 135 (384 + (12 * j + i)) = -1 ∧ W 135 (480 + (12 * j + i)) = -1
theorem qmL_Qt {W : Nat → Nat → Int32} {j N : Nat} : ∀ m i, i + m = N → qmL W j m i = true → ∀ c, i ≤ c → c < N → owB W (12 * j + c) = false ∧ W 135 (384 + (12 * j + c)) = -1 ∧ W 135 (480 + (12 * j + c)) = -1 := by
  intro m
  induction m with
  | zero => intro i hi _ c h1 h2; omega
  | succ m ih =>
    intro i hi hq c h1 h2
    unfold qmL at hq
    split at hq
    · rename_i hc
      by_cases e : c = i
      · subst e; exact hc
      · exact ih _ (by omega) hq c (by omega) h2
    · cases hq
theorem owB_f {W : Nat → Nat → Int32} {a : Nat} (h : owB W a = false) : W 135 (576 + a) = -1 ∧ W 135 (768 + a) = -1 := by
  unfold owB at h
  have := of_decide_eq_false h
  constructor
  · by_cases c : W 135 (576 + a) = -1
    · exact c
    · exact absurd (Or.inl c) this
  · by_cases c : W 135 (768 + a) = -1
    · exact c
    · exact absurd (Or.inr c) this
theorem Qt.arr {W : Nat → Nat → Int32} {j N : Nat} (H : Qt W j N) (h : ¬ W 135 864 = -1) : ∀ m i, i + m ≤ N → haL j m i W = W := by
  intro m
  induction m with
  | zero => intro i _; rfl
  | succ m ih =>
    intro i hi
    obtain ⟨a, b⟩ := owB_f (H i (by omega)).1
    have e : arM W (12 * j + i) = W := by
      have e1 : arR W (12 * j + i) = W := by
        unfold arR
        rw [a, if_neg (fun c => h c.symm)]
      unfold arM
      rw [e1]
      unfold arD
      rw [b, if_neg (fun c => h c.symm)]
    unfold haL
    rw [e]
    exact ih _ (by omega)
theorem Qt.tell {W : Nat → Nat → Int32} {j N K : Nat} (H : Qt W j N) (h : ¬ W 135 864 = -1) : ∀ m i, i + m ≤ N → htL N K j m i W = W := by
  intro m
  induction m with
  | zero => intro i _; rfl
  | succ m ih =>
    intro i hi
    obtain ⟨-, a, b⟩ := H i (by omega)
    have e : tmM W N K j i = W := by
      have e1 : tmR W N K j i = W := by
        unfold tmR
        rw [a, if_neg (fun c => h c.symm)]
      unfold tmM
      rw [e1]
      unfold tmD
      rw [b, if_neg (fun c => h c.symm)]
    unfold htL
    rw [e]
    exact ih _ (by omega)
theorem Qt.hour {W : Nat → Nat → Int32} {j N K : Nat} (H : Qt W j N) (h : ¬ W 135 864 = -1) : hfM W N K j = W := by
  unfold hfM
  rw [H.arr h _ _ (by omega), H.tell h _ _ (by omega)]
theorem Qt.next {W : Nat → Nat → Int32} {j N : Nat} (H : Qt W j N) (hj : j < 8) (hN : N ≤ 12) : Qt (hoN W) j N := by
  intro i hi
  have := H i hi
  unfold owB hoN at *
  rw [jv_Unj (by omega), jv_Unj (by omega), jv_Unj (by omega), jv_Unj (by omega)]
  exact this
theorem Sim.still {r j N K : Nat} {V : Nat → Nat → Int32} (hj : j < 8) (hN : N ≤ 12) : ∀ m t W, t + m ≤ 2 ^ 30 → Qt W j N → Sim V W r j N K (nI t) → ∃ t', Sim V (lkM N K j m W) r j N K (nI t') := by
  intro m
  induction m with
  | zero => intro t W _ _ H; exact ⟨t, H⟩
  | succ m ih =>
    intro t W ht Q H
    have hne : ¬ W 135 864 = -1 := by rw [H.2.2.2.1]; exact nI_nm1 (by omega)
    unfold lkM
    rw [Q.hour hne]
    refine ih (t + 1) _ (by omega) (Q.next hj hN) ?_
    have := H.next hj
    rw [nI_add] at this
    exact this
/-- the look ahead on both sides -/
theorem Sim.look {r j N K c : Nat} (hr : 33 ≤ r) (hj : j < 8) (hN : N ≤ 12) : ∀ m p V W, c + p + m ≤ 2 ^ 30 → Bd V r → Sim V W r j N K (nI (c + p)) → ∃ t', Sim (laV r N (nI c) m p V) (lkM N K j m W) r j N K (nI t') := by
  intro m
  induction m with
  | zero => intro p V W _ _ H; exact ⟨_, H⟩
  | succ m ih =>
    intro p V W hp B H
    unfold laV
    by_cases hq : quL V r N 0 = true
    · rw [if_pos hq]
      rw [H.quiet _ _ (by omega)] at hq
      exact Sim.still hj hN _ _ _ (by omega) (fun i hi => qmL_Qt N 0 (by omega) hq i (by omega) hi) H
    · rw [if_neg hq, nI_add]
      unfold lkM
      refine ih (p + 1) _ _ (by omega) (B.hour hN) ?_
      have := (H.hour B hr hj hN).next hj
      rw [nI_add] at this
      exact this
