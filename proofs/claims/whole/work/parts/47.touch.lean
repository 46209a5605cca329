/-! ===== an hour of the reference's rumour i touches no other rumour ===== -/
def Tch (i : Nat) (W W' : Nat → Nat → Int32) : Prop := (∀ q, q ≠ 135 → W' q = W q) ∧ ∀ c, ¬ (c < 864 ∧ c % 96 / 12 = i) → W' 135 c = W 135 c
theorem Tch.refl (i : Nat) (W : Nat → Nat → Int32) : Tch i W W := ⟨fun _ _ => rfl, fun _ _ => rfl⟩
theorem Tch.w {i : Nat} {W W' : Nat → Nat → Int32} {c : Nat} {x : Int32} (H : Tch i W W') (hc : c < 864 ∧ c % 96 / 12 = i) : Tch i W (jv_U W' 135 c x) := by
  refine ⟨fun q hq => by rw [jv_U_other hq]; exact H.1 q hq, fun d hd => ?_⟩
  have : d ≠ c := fun e => hd (by rw [e]; exact hc)
  rw [jv_Unj this]
  exact H.2 d hd
theorem Tch.he {i f : Nat} {W W' : Nat → Nat → Int32} {p : Int32} (H : Tch i W W') (hi : i < 8) (hf : f < 12) : Tch i W (heM W' (12 * i + f) p) := by
  unfold heM
  split
  · exact (((H.w (by omega)).w (by omega)).w (by omega)).w (by omega)
  · exact H
theorem Tch.de {i f : Nat} {W W' : Nat → Nat → Int32} (H : Tch i W W') (hi : i < 8) (hf : f < 12) : Tch i W (deM W' (12 * i + f)) := by
  unfold deM
  split
  · exact H
  · exact (((H.w (by omega)).w (by omega)).w (by omega)).w (by omega)
theorem Tch.arr {i f : Nat} {W W' : Nat → Nat → Int32} (H : Tch i W W') (hi : i < 8) (hf : f < 12) : Tch i W (arM W' (12 * i + f)) := by
  have a : Tch i W (arR W' (12 * i + f)) := by
    unfold arR
    split
    · exact (H.w (by omega)).he hi hf
    · exact H
  unfold arM arD
  split
  · exact (a.w (by omega)).de hi hf
  · exact a
theorem Tch.sr {i f K : Nat} {p : Int32} {W : Nat → Nat → Int32} (hi : i < 8) : ∀ m t W', t + m ≤ 12 → Tch i W W' → Tch i W (srL K i f p m t W') := by
  intro m
  induction m with
  | zero => intro t W' _ H; exact H
  | succ m ih =>
    intro t W' ht H
    refine ih _ _ (by omega) ?_
    unfold sr1
    split
    · exact H
    · split
      · exact (H.w (by omega)).w (by omega)
      · exact H
theorem Tch.sd {i f K : Nat} {W : Nat → Nat → Int32} (hi : i < 8) : ∀ m t W', t + m ≤ 12 → Tch i W W' → Tch i W (sdL K i f m t W') := by
  intro m
  induction m with
  | zero => intro t W' _ H; exact H
  | succ m ih =>
    intro t W' ht H
    refine ih _ _ (by omega) ?_
    unfold sd1
    split
    · exact H
    · exact H.w (by omega)
theorem Tch.te {i f N K : Nat} {W W' : Nat → Nat → Int32} (H : Tch i W W') (hi : i < 8) (hf : f < 12) (hN : N ≤ 12) : Tch i W (tmM W' N K i f) := by
  have a : Tch i W (tmR W' N K i f) := by
    unfold tmR tuR seR
    split
    · split
      · exact H.w (by omega)
      · exact Tch.sr hi _ _ _ (by omega) (H.w (by omega))
    · exact H
  unfold tmM tmD seD
  split
  · exact Tch.sd hi _ _ _ (by omega) (a.w (by omega))
  · exact a
theorem Tch.hour {i N K : Nat} {W : Nat → Nat → Int32} (hi : i < 8) (hN : N ≤ 12) : Tch i W (hfM W N K i) := by
  have a : ∀ m t W', t + m ≤ 12 → Tch i W W' → Tch i W (haL i m t W') := by
    intro m
    induction m with
    | zero => intro t W' _ H; exact H
    | succ m ih => intro t W' ht H; exact ih _ _ (by omega) (H.arr hi (by omega))
  have b : ∀ m t W', t + m ≤ 12 → Tch i W W' → Tch i W (htL N K i m t W') := by
    intro m
    induction m with
    | zero => intro t W' _ H; exact H
    | succ m ih => intro t W' ht H; exact ih _ _ (by omega) (H.te hi (by omega) hN)
  exact b _ _ _ (by omega) (a _ _ _ (by omega) (Tch.refl i W))
/-- the other rumours stay alike -/
theorem Sim.other {V W W' : Nat → Nat → Int32} {j i N K : Nat} {h : Int32} (H : Sim V W (43 + 10 * j) j N K h) (hne : j ≠ i) (hj : j < 8) (hN : N ≤ 12) (T : Tch i W W') (V' : Nat → Nat → Int32) (hV : ∀ q, (q < 43 + 10 * i ∨ 43 + 10 * i + 9 < q) → V' q = V q) : Sim V' W' (43 + 10 * j) j N K h := by
  obtain ⟨a, b, c, d, e⟩ := H
  refine ⟨fun o f h1 h9 hf => ?_, fun f hf => ?_, fun p q hp hq => ?_, ?_, ?_⟩
  · rw [hV _ (by omega), T.2 _ (fun q => by
      have q2 := q.2
      unfold fo at q2
      split at q2
      · omega
      · split at q2 <;> omega)]
    exact a o f h1 h9 hf
  · rw [hV _ (by omega), T.1 _ (by omega)]; exact b f hf
  · rw [hoM_congr (V := W) (fun q h1 h2 => T.1 q (by omega))]
    rw [hV _ (by omega)]; exact c p q hp hq
  · rw [T.2 _ (by omega)]; exact d
  · rw [hV _ (by omega), T.1 _ (by omega)]; exact e
