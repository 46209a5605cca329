/-! ===== farthest, centre, parts, neighbours on both sides ===== -/
theorem far_lt {V : Nat → Nat → Int32} {N : Nat} : ∀ m i b, i + m ≤ N → b < N → farL V m i b < N := by
  intro m
  induction m with
  | zero => intro i b _ h; exact h
  | succ m ih =>
    intro i b hi h
    unfold farL
    split
    · exact ih _ _ (by omega) h
    · exact ih _ _ (by omega) (by omega)
theorem far_alike {V W : Nat → Nat → Int32} {N f : Nat} (H : Wy V W N f) (hf : f < N) : ∀ m i b, i + m ≤ N → b < N → (b = f ∨ b < i) → farL V m i b = fmL W m i b := by
  intro m
  induction m with
  | zero => intro i b _ _ _; rfl
  | succ m ih =>
    intro i b hi hb hbi
    have e1 := (H.2 i (by omega)).1
    have e2 := (H.2 b hb).1
    have e3 := (H.2 f hf).1
    unfold farL fmL
    rw [← e1, ← e2]
    by_cases hc : V 29 i ≤ V 29 b
    · rw [if_pos hc, if_neg]
      · exact ih _ _ (by omega) hb (by omega)
      · rintro (c | ⟨c1, c2, c3⟩)
        · exact absurd hc (Int32.not_le.mpr c)
        · have eb : b = f := by omega
          subst eb
          rw [c1, H.1, nI_0] at c3
          exact c3 (Int32.le_refl _)
    · rw [if_neg hc, if_pos (Or.inl (Int32.not_le.mp hc))]
      exact ih _ _ (by omega) (by omega) (by omega)
theorem gth_alike {V W : Nat → Nat → Int32} {N f : Nat} (H : Wy V W N f) : ∀ m i b, i + m ≤ N → gthL V m i (V 29 b) = if aaL W m i = true then V 29 (farL V m i b) else -1 := by
  intro m
  induction m with
  | zero => intro i b _; rfl
  | succ m ih =>
    intro i b hi
    have e1 := (H.2 i (by omega)).1
    unfold gthL aaL farL
    rw [← e1]
    by_cases hc : V 29 i = -1
    · rw [if_pos hc, if_pos hc, if_neg (by decide)]
    · rw [if_neg hc, if_neg hc]
      by_cases hl : V 29 i ≤ V 29 b
      · rw [if_neg (Int32.not_lt.mpr hl), if_pos hl]
        exact ih _ _ (by omega)
      · rw [if_pos (Int32.not_le.mp hl), if_neg hl]
        exact ih _ _ (by omega)
theorem aaL_all {W : Nat → Nat → Int32} : ∀ m i, aaL W m i = true → ∀ c, i ≤ c → c < i + m → ¬ W 137 c = -1 := by
  intro m
  induction m with
  | zero => intro i _ c h1 h2; omega
  | succ m ih =>
    intro i h c h1 h2
    unfold aaL at h
    split at h
    · cases h
    · rename_i hn
      by_cases e : c = i
      · subst e; exact hn
      · exact ih _ h c (by omega) (by omega)
theorem gth_md {V W : Nat → Nat → Int32} {N f : Nat} (H : Wy V W N f) (hf : f < N) : (¬ gthL V N 0 (nI 0) = -1 ↔ aaL W N 0 = true) ∧ (aaL W N 0 = true → gthL V N 0 (nI 0) = W 137 (fmL W N 0 f)) := by
  have e := gth_alike H N 0 f (by omega)
  rw [H.1] at e
  have e2 := far_alike H hf N 0 f (by omega) hf (Or.inl rfl)
  have e3 := far_lt (V := V) N 0 f (by omega) hf
  have e4 := (H.2 _ e3).1
  by_cases ha : aaL W N 0 = true
  · rw [if_pos ha] at e
    have hn := aaL_all N 0 ha _ (Nat.zero_le _) (by omega : farL V N 0 f < 0 + N)
    refine ⟨⟨fun _ => ha, fun _ => ?_⟩, fun _ => ?_⟩
    · rw [e, e4]; exact hn
    · rw [e, e4, e2]
  · rw [if_neg ha] at e
    exact ⟨⟨fun h => absurd e h, fun h => absurd h ha⟩, fun h => absurd h ha⟩
theorem WP.way {V W : Nat → Nat → Int32} {N K f g : Nat} (P : WP V W N K) (hN : N ≤ 12) : WP (fndC V N f) (wayM W N K g) N K :=
  P.to hN (fun q hq => fndC_out (by omega)) (fun q h1 h2 => wayM_out (by omega))
theorem cen_alike {N K : Nat} (hN : N ≤ 12) : ∀ m i V W b l, i + m ≤ N → WP V W N K → (cenL N m i V b l).2 = (mdL N K m i W b l).2 := by
  intro m
  induction m with
  | zero => intro i V W b l _ _; rfl
  | succ m ih =>
    intro i V W b l hi P
    have H := ways_alike P hN (show i < N by omega)
    obtain ⟨g1, g2⟩ := gth_md H (by omega)
    unfold cenL mdL
    by_cases ha : aaL (wayM W N K i) N 0 = true
    · have e := g2 ha
      by_cases hl : b = none ∨ gthL (fndC V N i) N 0 (nI 0) < l
      · rw [if_pos ⟨g1.mpr ha, hl⟩, if_pos ⟨ha, by rw [← e]; exact hl⟩, ← e]
        exact ih _ _ _ _ _ (by omega) (P.way hN)
      · rw [if_neg (fun c => hl c.2), if_neg (fun c => hl (by rw [e]; exact c.2))]
        exact ih _ _ _ _ _ (by omega) (P.way hN)
    · rw [if_neg (fun c => ha (g1.mp c.1)), if_neg (fun c => ha c.1)]
      exact ih _ _ _ _ _ (by omega) (P.way hN)
theorem lbw_fs {V W : Nat → Nat → Int32} {N f : Nat} (H : Wy V W N f) (hf : f < N) : ∀ m i, i + m = f → (lbwL V m i = true ↔ ¬ fsL W (N - i) i = f) := by
  intro m
  induction m with
  | zero =>
    intro i hi
    have ei : i = f := by omega
    subst ei
    have e1 := (H.2 i hf).1
    rw [H.1] at e1
    obtain ⟨k, hk⟩ : ∃ k, N - i = k + 1 := ⟨N - i - 1, by omega⟩
    rw [hk]
    unfold lbwL fsL
    rw [← e1, if_neg (nI_nm1 (by omega))]
    exact ⟨fun h => (by cases h), fun h => absurd rfl h⟩
  | succ m ih =>
    intro i hi
    have e1 := (H.2 i (by omega)).1
    have IH := ih (i + 1) (by omega)
    obtain ⟨k, hk⟩ : ∃ k, N - i = k + 1 := ⟨N - i - 1, by omega⟩
    rw [show N - (i + 1) = k by omega] at IH
    rw [hk]
    unfold lbwL fsL
    rw [← e1]
    by_cases hc : V 29 i = -1
    · rw [if_neg (fun h => h hc), if_pos hc]; exact IH
    · rw [if_pos hc, if_neg hc]
      exact ⟨fun _ => by omega, fun _ => rfl⟩
theorem par_alike {N K : Nat} (hN : N ≤ 12) : ∀ m i V W a, i + m ≤ N → WP V W N K → (parL N m i V a).2 = (pnL N K m i W a).2 := by
  intro m
  induction m with
  | zero => intro i V W a _ _; rfl
  | succ m ih =>
    intro i V W a hi P
    have H := ways_alike P hN (show i < N by omega)
    have e := lbw_fs H (by omega) i 0 (by omega)
    rw [Nat.sub_zero] at e
    unfold parL pnL
    by_cases hc : fsL (wayM W N K i) N 0 = i
    · rw [if_neg (fun h => e.mp h hc), if_pos hc]
      exact ih _ _ _ _ (by omega) (P.way hN)
    · rw [if_pos (e.mpr hc), if_neg hc]
      exact ih _ _ _ _ (by omega) (P.way hN)
theorem nei_alike {V W : Nat → Nat → Int32} {N K f : Nat} (P : ∀ a b, a < N → b < N → V (8 + a) b = hoM W K a b) (hf : f < N) : ∀ m i a, i + m ≤ N → neighboursL V f m i a = arL W K f m i a := by
  intro m
  induction m with
  | zero => intro i a _; rfl
  | succ m ih =>
    intro i a hi
    unfold neighboursL arL
    rw [P f i hf (by omega)]
    exact ih _ _ (by omega)
theorem pb_alike {V W : Nat → Nat → Int32} {N f c : Nat} (H : Wy V W N f) (hc : c < N) : V 30 c = pbM (W 137 c) (W 138 c) := by
  obtain ⟨h1, h2⟩ := H.2 c hc
  unfold pbM
  rw [← h1]
  rcases h2 with h2 | ⟨t, e1, e2, e3⟩
  · rw [if_pos h2.1, h2.2]
  · rw [if_neg (by rw [e1]; exact nI_nm1 (by omega)), e3]
