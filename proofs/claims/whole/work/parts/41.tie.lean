/-! ===== class and reference alike: a rumour (two memories: V the class's, W the reference's) ===== -/
def fo (o : Nat) : Nat := if o = 3 then 288 else if o = 4 then 192 else 96 * (o - 1)
theorem fo_le {o : Nat} (h9 : o ≤ 9) : fo o ≤ 768 := by
  unfold fo
  split
  · omega
  · split <;> omega
theorem fo_inj {o o' a b : Nat} (h1 : 1 ≤ o) (h9 : o ≤ 9) (h1' : 1 ≤ o') (h9' : o' ≤ 9) (ha : a < 96) (hb : b < 96) (h : fo o + a = fo o' + b) : o = o' ∧ a = b := by
  unfold fo at h
  split at h <;> split at h <;> try split at h
  all_goals try split at h
  all_goals omega
theorem jv_U_comm {V : Nat → Nat → Int32} {p q i j : Nat} {x y : Int32} (h : p ≠ q) : jv_U (jv_U V p i x) q j y = jv_U (jv_U V q j y) p i x := by
  funext a c
  unfold jv_U
  by_cases e1 : a = q
  · subst e1
    rw [if_pos rfl, if_neg (Ne.symm h), if_neg (Ne.symm h), if_pos rfl]
  · rw [if_neg e1]
    by_cases e2 : a = p
    · subst e2
      rw [if_pos rfl, if_pos rfl, if_neg e1]
    · rw [if_neg e2, if_neg e2, if_neg e1]
/-- the rumour at r of the class is the rumour j of the reference; stay, pipes, hour and reach as well -/
def Sim (V W : Nat → Nat → Int32) (r j N K : Nat) (h : Int32) : Prop := (∀ o f, 1 ≤ o → o ≤ 9 → f < 12 → V (r + o) f = W 135 (fo o + (12 * j + f))) ∧ (∀ f, f < 12 → V 3 f = W 125 f) ∧ (∀ a b, a < N → b < N → V (8 + a) b = hoM W K a b) ∧ W 135 864 = h ∧ V r 1 = W 134 j
theorem Sim.w {V W : Nat → Nat → Int32} {r j N K o f : Nat} {h x : Int32} (H : Sim V W r j N K h) (hr : 33 ≤ r) (hj : j < 8) (hN : N ≤ 12) (h1 : 1 ≤ o) (h9 : o ≤ 9) (hf : f < 12) : Sim (jv_U V (r + o) f x) (jv_U W 135 (fo o + (12 * j + f)) x) r j N K h := by
  obtain ⟨a, b, c, d, e⟩ := H
  have := fo_le h9
  refine ⟨fun o' f' g1 g9 gf => ?_, fun f' gf => ?_, fun p q hp hq => ?_, ?_, ?_⟩
  · by_cases eo : o' = o
    · subst eo
      by_cases ef : f' = f
      · subst ef; rw [jv_Ueq, jv_Ueq]
      · rw [jv_Unj ef, jv_Unj (by omega)]; exact a o' f' g1 g9 gf
    · rw [jv_Une (by omega), jv_Unj (fun q => eo (fo_inj g1 g9 h1 h9 (by omega) (by omega) q).1)]; exact a o' f' g1 g9 gf
  · rw [jv_Une (by omega), jv_Une (by omega)]; exact b f' gf
  · rw [jv_Une (by omega), hoM_congr (V := W) (fun q h1 h2 => jv_U_other (by omega))]; exact c p q hp hq
  · rw [jv_Unj (by omega)]; exact d
  · rw [jv_Une (by omega), jv_Une (by omega)]; exact e
theorem Sim.hear {V W : Nat → Nat → Int32} {r j N K f : Nat} {h p : Int32} (H : Sim V W r j N K h) (hr : 33 ≤ r) (hj : j < 8) (hN : N ≤ 12) (hf : f < 12) : Sim (brR V r f p h) (heM W (12 * j + f) p) r j N K h := by
  have e1 : V (r + 1) f = W 135 (0 + (12 * j + f)) := H.1 1 f (by omega) (by omega) hf
  have es : V 3 f = W 125 ((12 * j + f) % 12) := by rw [show (12 * j + f) % 12 = f by omega]; exact H.2.1 f hf
  unfold brR heM
  rw [e1, es, H.2.2.2.1]
  split
  · exact (((H.w (o := 1) hr hj hN (by omega) (by omega) hf).w (o := 2) hr hj hN (by omega) (by omega) hf).w (o := 4) hr hj hN (by omega) (by omega) hf).w (o := 5) hr hj hN (by omega) (by omega) hf
  · exact H
theorem Sim.deny {V W : Nat → Nat → Int32} {r j N K f : Nat} {h : Int32} (H : Sim V W r j N K h) (hr : 33 ≤ r) (hj : j < 8) (hN : N ≤ 12) (hf : f < 12) : Sim (brD V r f h) (deM W (12 * j + f)) r j N K h := by
  have e1 : V (r + 1) f = W 135 (0 + (12 * j + f)) := H.1 1 f (by omega) (by omega) hf
  have es : V 3 f = W 125 ((12 * j + f) % 12) := by rw [show (12 * j + f) % 12 = f by omega]; exact H.2.1 f hf
  unfold brD deM
  rw [e1, es, H.2.2.2.1]
  split
  · exact H
  · rw [jv_U_comm (show r + 6 ≠ r + 5 by omega)]
    exact (((H.w (o := 1) hr hj hN (by omega) (by omega) hf).w (o := 3) hr hj hN (by omega) (by omega) hf).w (o := 5) hr hj hN (by omega) (by omega) hf).w (o := 6) hr hj hN (by omega) (by omega) hf
theorem Sim.arr {V W : Nat → Nat → Int32} {r j N K f : Nat} {h : Int32} (H : Sim V W r j N K h) (hr : 33 ≤ r) (hj : j < 8) (hN : N ≤ 12) (hf : f < 12) : Sim (hr1 V r f h) (arM W (12 * j + f)) r j N K h := by
  have step1 : Sim (h1R V r f h) (arR W (12 * j + f)) r j N K h := by
    have e7 : V (r + 7) f = W 135 (576 + (12 * j + f)) := H.1 7 f (by omega) (by omega) hf
    have H7 : Sim (jv_U V (r + 7) f (-1)) (jv_U W 135 (576 + (12 * j + f)) (-1)) r j N K h := H.w (o := 7) hr hj hN (by omega) (by omega) hf
    have e8 : jv_U V (r + 7) f (-1) (r + 8) f = jv_U W 135 (576 + (12 * j + f)) (-1) 135 (672 + (12 * j + f)) := H7.1 8 f (by omega) (by omega) hf
    unfold h1R arR
    rw [e7, H.2.2.2.1, e8]
    split
    · exact H7.hear hr hj hN hf
    · exact H
  have e9 : h1R V r f h (r + 9) f = arR W (12 * j + f) 135 (768 + (12 * j + f)) := step1.1 9 f (by omega) (by omega) hf
  have H9 : Sim (jv_U (h1R V r f h) (r + 9) f (-1)) (jv_U (arR W (12 * j + f)) 135 (768 + (12 * j + f)) (-1)) r j N K h := step1.w (o := 9) hr hj hN (by omega) (by omega) hf
  unfold hr1 arM h1D arD
  rw [e9, step1.2.2.2.1]
  split
  · exact H9.deny hr hj hN hf
  · exact step1
theorem Sim.hearL {r j N K : Nat} {h : Int32} (hr : 33 ≤ r) (hj : j < 8) (hN : N ≤ 12) : ∀ m i V W, i + m ≤ 12 → Sim V W r j N K h → Sim (hrV r h m i V) (haL j m i W) r j N K h := by
  intro m
  induction m with
  | zero => intro i V W _ H; exact H
  | succ m ih =>
    intro i V W hi H
    exact ih _ _ _ (by omega) (H.arr hr hj hN (by omega))
theorem Sim.tell1 {V W : Nat → Nat → Int32} {r j N K f i : Nat} {h p : Int32} (H : Sim V W r j N K h) (hr : 33 ≤ r) (hj : j < 8) (hN : N ≤ 12) (hf : f < N) (hi : i < N) : Sim (tr1 V r f i p h) (sr1 W K j f i p) r j N K h := by
  have e7 : V (r + 7) i = W 135 (576 + (12 * j + i)) := H.1 7 i (by omega) (by omega) (by omega)
  have e8 : V (r + 8) i = W 135 (672 + (12 * j + i)) := H.1 8 i (by omega) (by omega) (by omega)
  unfold tr1
  unfold sr1
  rw [H.2.2.1 f i hf hi, e7, e8, H.2.2.2.1]
  by_cases hp : hoM W K f i = -1
  · rw [if_neg (fun c => c.1 hp), if_pos hp]; exact H
  · rw [if_neg hp]
    by_cases hc : W 135 (576 + (12 * j + i)) = -1 ∨ h + hoM W K f i < W 135 (576 + (12 * j + i)) ∨ (h + hoM W K f i = W 135 (576 + (12 * j + i)) ∧ p < W 135 (672 + (12 * j + i)))
    · rw [if_pos ⟨hp, hc⟩, if_pos hc]
      exact (H.w (o := 7) hr hj hN (by omega) (by omega) (by omega)).w (o := 8) hr hj hN (by omega) (by omega) (by omega)
    · rw [if_neg (fun c => hc c.2), if_neg hc]; exact H
