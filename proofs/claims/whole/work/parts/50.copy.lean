/-! ===== a rumour copied for a look ===== -/
theorem cpR_at {V : Nat → Nat → Int32} {s r o f : Nat} (h1 : 1 ≤ o) (h9 : o ≤ 9) (hf : f < 12) (hsr : s + 9 < r ∨ r + 9 < s) : cpR V s r (r + o) f = V (s + o) f := by
  have hlt : ∀ (U : Nat → Nat → Int32) k, jv_cpy U (s + k) (r + k) 12 (r + k) f = U (s + k) f := by
    intro U k
    unfold jv_cpy
    rw [if_pos rfl, if_pos hf]
  have hne : ∀ (U : Nat → Nat → Int32) k q c, q ≠ r + k → jv_cpy U (s + k) (r + k) 12 q c = U q c := by
    intro U k q c h
    unfold jv_cpy
    rw [if_neg h]
  unfold cpR
  have hs : ∀ (U : Nat → Nat → Int32) k, k ≤ 9 → jv_cpy U (s + k) (r + k) 12 (s + o) f = U (s + o) f := fun U k hk => hne U k _ _ (by omega)
  have ho : o = 1 ∨ o = 2 ∨ o = 3 ∨ o = 4 ∨ o = 5 ∨ o = 6 ∨ o = 7 ∨ o = 8 ∨ o = 9 := by omega
  rcases ho with e | e | e | e | e | e | e | e | e <;> subst e
  · rw [hne _ 9 _ _ (by omega), hne _ 8 _ _ (by omega), hne _ 7 _ _ (by omega), hne _ 6 _ _ (by omega), hne _ 5 _ _ (by omega), hne _ 4 _ _ (by omega), hne _ 3 _ _ (by omega), hne _ 2 _ _ (by omega), hlt, jv_Une (by omega), jv_Une (by omega)]
  · rw [hne _ 9 _ _ (by omega), hne _ 8 _ _ (by omega), hne _ 7 _ _ (by omega), hne _ 6 _ _ (by omega), hne _ 5 _ _ (by omega), hne _ 4 _ _ (by omega), hne _ 3 _ _ (by omega), hlt, hs _ 1 (by omega), jv_Une (by omega), jv_Une (by omega)]
  · rw [hne _ 9 _ _ (by omega), hne _ 8 _ _ (by omega), hne _ 7 _ _ (by omega), hne _ 6 _ _ (by omega), hne _ 5 _ _ (by omega), hne _ 4 _ _ (by omega), hlt, hs _ 2 (by omega), hs _ 1 (by omega), jv_Une (by omega), jv_Une (by omega)]
  · rw [hne _ 9 _ _ (by omega), hne _ 8 _ _ (by omega), hne _ 7 _ _ (by omega), hne _ 6 _ _ (by omega), hne _ 5 _ _ (by omega), hlt, hs _ 3 (by omega), hs _ 2 (by omega), hs _ 1 (by omega), jv_Une (by omega), jv_Une (by omega)]
  · rw [hne _ 9 _ _ (by omega), hne _ 8 _ _ (by omega), hne _ 7 _ _ (by omega), hne _ 6 _ _ (by omega), hlt, hs _ 4 (by omega), hs _ 3 (by omega), hs _ 2 (by omega), hs _ 1 (by omega), jv_Une (by omega), jv_Une (by omega)]
  · rw [hne _ 9 _ _ (by omega), hne _ 8 _ _ (by omega), hne _ 7 _ _ (by omega), hlt, hs _ 5 (by omega), hs _ 4 (by omega), hs _ 3 (by omega), hs _ 2 (by omega), hs _ 1 (by omega), jv_Une (by omega), jv_Une (by omega)]
  · rw [hne _ 9 _ _ (by omega), hne _ 8 _ _ (by omega), hlt, hs _ 6 (by omega), hs _ 5 (by omega), hs _ 4 (by omega), hs _ 3 (by omega), hs _ 2 (by omega), hs _ 1 (by omega), jv_Une (by omega), jv_Une (by omega)]
  · rw [hne _ 9 _ _ (by omega), hlt, hs _ 7 (by omega), hs _ 6 (by omega), hs _ 5 (by omega), hs _ 4 (by omega), hs _ 3 (by omega), hs _ 2 (by omega), hs _ 1 (by omega), jv_Une (by omega), jv_Une (by omega)]
  · rw [hlt, hs _ 8 (by omega), hs _ 7 (by omega), hs _ 6 (by omega), hs _ 5 (by omega), hs _ 4 (by omega), hs _ 3 (by omega), hs _ 2 (by omega), hs _ 1 (by omega), jv_Une (by omega), jv_Une (by omega)]
theorem cpR_1 {V : Nat → Nat → Int32} {s r : Nat} (hsr : s ≠ r) : cpR V s r r 1 = V s 1 := by
  have hne : ∀ (U : Nat → Nat → Int32) k, 1 ≤ k → jv_cpy U (s + k) (r + k) 12 r 1 = U r 1 := by
    intro U k h
    unfold jv_cpy
    rw [if_neg (by omega)]
  unfold cpR
  rw [hne _ 9 (by omega), hne _ 8 (by omega), hne _ 7 (by omega), hne _ 6 (by omega), hne _ 5 (by omega), hne _ 4 (by omega), hne _ 3 (by omega), hne _ 2 (by omega), hne _ 1 (by omega), jv_Ueq]
/-- the trial of the class is the rumour, and so is what the reference keeps and goes on with -/
theorem Sim.copy {V W : Nat → Nat → Int32} {j N K : Nat} {h : Int32} (H : Sim V W (43 + 10 * j) j N K h) (hN : N ≤ 12) : Sim (cpR V (43 + 10 * j) 33) (kpM W) 33 j N K h := by
  obtain ⟨a, b, c, d, e⟩ := H
  refine ⟨fun o f h1 h9 hf => ?_, fun f hf => ?_, fun p q hp hq => ?_, ?_, ?_⟩
  · rw [cpR_at h1 h9 hf (by omega), kpM_out (by omega)]; exact a o f h1 h9 hf
  · rw [cpR_out (by omega), kpM_out (by omega)]; exact b f hf
  · rw [cpR_out (by omega), hoM_congr (V := W) (fun q h1 h2 => kpM_out (by omega))]; exact c p q hp hq
  · rw [kpM_out (by omega)]; exact d
  · rw [cpR_1 (by omega), kpM_out (by omega)]; exact e
theorem Bd.copy {V : Nat → Nat → Int32} {j : Nat} (B : Bd V (43 + 10 * j)) : Bd (cpR V (43 + 10 * j) 33) 33 := by
  obtain ⟨a, b⟩ := B
  exact ⟨by rw [cpR_1 (by omega)]; exact a, fun f hf => by rw [cpR_at (by omega) (by omega) hf (by omega), cpR_at (by omega) (by omega) hf (by omega)]; exact b f hf⟩
