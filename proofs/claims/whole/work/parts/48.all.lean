/-! ===== an hour of all rumours on both sides ===== -/
def SimA (V W : Nat → Nat → Int32) (N K R : Nat) (h : Int32) : Prop := ∀ j, j < R → Sim V W (43 + 10 * j) j N K h ∧ Bd V (43 + 10 * j) ∧ Zr V (43 + 10 * j)
theorem Bd.other {V V' : Nat → Nat → Int32} {r : Nat} (B : Bd V r) (h : ∀ o, o ≤ 9 → V' (r + o) = V (r + o)) : Bd V' r := by
  obtain ⟨a, b⟩ := B
  have h0 := h 0 (by omega)
  rw [Nat.add_zero] at h0
  exact ⟨by rw [h0]; exact a, fun f hf => by rw [h 4 (by omega), h 8 (by omega)]; exact b f hf⟩
theorem Zr.other {V V' : Nat → Nat → Int32} {r : Nat} (Z : Zr V r) (h : ∀ o, o ≤ 9 → V' (r + o) = V (r + o)) : Zr V' r := by
  intro f hf h1
  rw [h 1 (by omega)] at h1
  rw [h 2 (by omega)]
  exact Z f hf h1
theorem SimA.one {V W : Nat → Nat → Int32} {N K R i : Nat} {h : Int32} (H : SimA V W N K R h) (hN : N ≤ 12) (hR : R ≤ 8) (hi : i < R) : SimA (phV V (43 + 10 * i) N h) (hfM W N K i) N K R h := by
  intro j hj
  obtain ⟨a, b, c⟩ := H j hj
  by_cases e : j = i
  · subst e
    exact ⟨a.hour b (by omega) (by omega) hN, b.hour hN, c.hour⟩
  · have ho : ∀ q, (q < 43 + 10 * i ∨ 43 + 10 * i + 9 < q) → phV V (43 + 10 * i) N h q = V q := fun q hq => phV_out (by unfold Rout; omega)
    exact ⟨a.other e (by omega) hN (Tch.hour (by omega) hN) _ ho, b.other (fun o _ => ho _ (by omega)), c.other (fun o _ => ho _ (by omega))⟩
theorem SimA.all {N K R : Nat} {h : Int32} (hN : N ≤ 12) (hR : R ≤ 8) : ∀ m i V W, i + m ≤ R → SimA V W N K R h → SimA (inV N h m i V) (hqL N K m i W) N K R h := by
  intro m
  induction m with
  | zero => intro i V W _ H; exact H
  | succ m ih => intro i V W hi H; exact ih _ _ _ (by omega) (H.one hN hR (by omega))
theorem hdL_congr {W W' : Nat → Nat → Int32} {j : Nat} : ∀ m i a, (∀ c, i ≤ c → c < i + m → W' 135 (96 + 12 * j + c) = W 135 (96 + 12 * j + c)) → hdL W' j m i a = hdL W j m i a := by
  intro m
  induction m with
  | zero => intro i a _; rfl
  | succ m ih =>
    intro i a h
    unfold hdL
    rw [h i (by omega) (by omega), ih _ _ (fun c h1 h2 => h c (by omega) (by omega))]
theorem haA_add {W : Nat → Nat → Int32} {N : Nat} : ∀ m i a, haA W N m i a = a + haA W N m i 0 := by
  intro m
  induction m with
  | zero => intro i a; rfl
  | succ m ih =>
    intro i a
    unfold haA
    rw [ih, ih (i + 1) (0 + hdL W i N 0 0)]
    omega
theorem haA_congr {W W' : Nat → Nat → Int32} {N : Nat} : ∀ m i a, (∀ j, i ≤ j → j < i + m → hdL W' j N 0 0 = hdL W j N 0 0) → haA W' N m i a = haA W N m i a := by
  intro m
  induction m with
  | zero => intro i a _; rfl
  | succ m ih =>
    intro i a h
    unfold haA
    rw [h i (by omega) (by omega), ih _ _ (fun c h1 h2 => h c (by omega) (by omega))]
theorem Tch.hd {W W' : Nat → Nat → Int32} {i j N : Nat} (T : Tch i W W') (hne : j ≠ i) (hj : j < 8) (hN : N ≤ 12) : hdL W' j N 0 0 = hdL W j N 0 0 :=
  hdL_congr _ _ _ (fun c _ h2 => T.2 _ (fun q => by have := q.2; omega))
theorem hqL_lo {N K j : Nat} (hN : N ≤ 12) : ∀ m i W, j < i → i + m ≤ 8 → hdL (hqL N K m i W) j N 0 0 = hdL W j N 0 0 := by
  intro m
  induction m with
  | zero => intro i W _ _; rfl
  | succ m ih =>
    intro i W h1 h2
    show hdL (hqL N K m (i + 1) _) j N 0 0 = _
    rw [ih _ _ (by omega) (by omega), (Tch.hour (W := W) (K := K) (show i < 8 by omega) hN).hd (by omega) (by omega) hN]
/-- the news of an hour of all rumours -/
theorem SimA.news {N K R : Nat} {h : Int32} (hh : ¬ h = -1) (hN : N ≤ 12) (hR : R ≤ 8) : ∀ m i V W b, i + m ≤ R → SimA V W N K R h → nI (haA (hqL N K m i W) N m i 0) + b = nI (haA W N m i 0) + inN N h m i V b := by
  intro m
  induction m with
  | zero => intro i V W b _ _; rfl
  | succ m ih =>
    intro i V W b hi H
    obtain ⟨s, bd, z⟩ := H i (by omega)
    have IH := ih (i + 1) _ _ (b + phN V (43 + 10 * i) N h) (by omega) (H.one hN hR (i := i) (by omega))
    have s' := s.hour bd (by omega) (by omega) hN
    have one := phN_hc hh hN z
    rw [s'.hc N 0 0 (by omega), s.hc N 0 0 (by omega)] at one
    have e1 : haA (hfM W N K i) N m (i + 1) 0 = haA W N m (i + 1) 0 := haA_congr _ _ _ (fun j h1 h2 => (Tch.hour (show i < 8 by omega) hN).hd (by omega) (by omega) hN)
    have e2 : hdL (hqL N K m (i + 1) (hfM W N K i)) i N 0 0 = hdL (hfM W N K i) i N 0 0 := hqL_lo hN _ _ _ (by omega) (by omega)
    rw [e1] at IH
    show nI (haA (hqL N K m (i + 1) (hfM W N K i)) N (m + 1) i 0) + b = nI (haA W N (m + 1) i 0) + inN N h m (i + 1) _ (b + phN V (43 + 10 * i) N h)
    unfold haA
    rw [e2, haA_add m (i + 1) (0 + _), haA_add (W := W) m (i + 1) (0 + _), Nat.zero_add, Nat.zero_add, ← nI_add, ← nI_add, one]
    rw [show ∀ p q c d : Int32, p + q + c + d = p + (c + (d + q)) from fun p q c d => by rw [Int32.add_assoc, Int32.add_assoc, Int32.add_comm q, Int32.add_assoc]]
    rw [IH, Int32.add_assoc]
theorem SimA.next {V W : Nat → Nat → Int32} {N K R : Nat} {h : Int32} (H : SimA V W N K R h) (hR : R ≤ 8) : SimA (jv_U V 0 5 (h + nI 1)) (hoN W) N K R (h + nI 1) := by
  intro j hj
  obtain ⟨a, b, c⟩ := H j hj
  have a' := a.next (by omega)
  have ho : ∀ q, q ≠ 0 → jv_U V 0 5 (h + nI 1) q = V q := fun q hq => jv_U_other hq
  obtain ⟨x1, x2, x3, x4, x5⟩ := a'
  exact ⟨⟨fun o f h1 h9 hf => by rw [ho _ (by omega)]; exact x1 o f h1 h9 hf, fun f hf => by rw [ho _ (by omega)]; exact x2 f hf, fun p q hp hq => by rw [ho _ (by omega)]; exact x3 p q hp hq, x4, by rw [ho _ (by omega)]; exact x5⟩, b.other (fun o _ => ho _ (by omega)), c.other (fun o _ => ho _ (by omega))⟩
