/-! ===== trials on both sides ===== -/
theorem Sim.trial {V W : Nat → Nat → Int32} {j N K c : Nat} (H : Sim V W (43 + 10 * j) j N K (nI c)) (B : Bd V (43 + 10 * j)) (h5 : V 0 5 = nI c) (hj : j < 8) (hN : N ≤ 12) (hc : c ≤ 2 ^ 29) : ∃ t, Sim (triV V N j) (ieM W N K j) 33 j N K (nI t) := by
  unfold triV ieM
  rw [h5]
  exact Sim.look (c := c) (by omega) hj hN 100 0 _ _ (by omega) B.copy (H.copy hN)
theorem Sim.trialD {V W : Nat → Nat → Int32} {j N K c f : Nat} (H : Sim V W (43 + 10 * j) j N K (nI c)) (B : Bd V (43 + 10 * j)) (h5 : V 0 5 = nI c) (hj : j < 8) (hN : N ≤ 12) (hf : f < 12) (hc : c ≤ 2 ^ 29) : ∃ t, Sim (triD V N j f) (wiM W N K j f) 33 j N K (nI t) := by
  unfold triD wiM
  rw [h5]
  exact Sim.look (c := c) (by omega) hj hN 100 0 _ _ (by omega) B.copy.deny ((H.copy hN).deny (by omega) hj hN hf)
theorem Sim.trialQ {V W : Nat → Nat → Int32} {j N K c : Nat} (H : Sim V W (43 + 10 * j) j N K (nI c)) (B : Bd V (43 + 10 * j)) (h5 : V 0 5 = nI c) (hj : j < 8) (hN : N ≤ 12) (hc : c ≤ 2 ^ 29) : qtR V N j = qtI (qtM W N K j).2 := by
  unfold qtR triV qtM
  rw [h5]
  exact Sim.quietR (V0 := V) hj hN hc B.copy (H.copy hN)
theorem bb_kp {W X : Nat → Nat → Int32} (h : X 136 = kpM W 136) : ∀ c, c < 865 → bbM X 135 c = W 135 c := by
  intro c hc
  unfold bbM jv_cpy
  rw [if_pos rfl, if_pos hc, h]
  unfold kpM jv_cpy
  rw [if_pos rfl, if_pos hc]
