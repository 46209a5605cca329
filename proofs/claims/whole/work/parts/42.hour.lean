/-! ===== class and reference alike: an hour of a rumour ===== -/
/-- reach and pipes gone stay small -/
def Bd (V : Nat → Nat → Int32) (r : Nat) : Prop := V r 1 ≤ nI 20 ∧ ∀ f, f < 12 → V (r + 4) f ≤ nI 20 ∧ V (r + 8) f ≤ nI 20
theorem Bd.w {V : Nat → Nat → Int32} {r o f : Nat} {x : Int32} (H : Bd V r) (h1 : 1 ≤ o) (hx : o = 4 ∨ o = 8 → x ≤ nI 20) : Bd (jv_U V (r + o) f x) r := by
  obtain ⟨a, b⟩ := H
  refine ⟨by rw [jv_Une (by omega)]; exact a, fun f' hf' => ⟨?_, ?_⟩⟩
  · by_cases e : r + 4 = r + o
    · by_cases ef : f' = f
      · rw [e, ef, jv_Ueq]; exact hx (Or.inl (by omega))
      · rw [jv_Unj ef]; exact (b f' hf').1
    · rw [jv_Une e]; exact (b f' hf').1
  · by_cases e : r + 8 = r + o
    · by_cases ef : f' = f
      · rw [e, ef, jv_Ueq]; exact hx (Or.inr (by omega))
      · rw [jv_Unj ef]; exact (b f' hf').2
    · rw [jv_Une e]; exact (b f' hf').2
theorem Bd.hear {V : Nat → Nat → Int32} {r f : Nat} {h p : Int32} (H : Bd V r) (hp : p ≤ nI 20) : Bd (brR V r f p h) r := by
  unfold brR
  split
  · exact (((H.w (o := 1) (by omega) (by omega)).w (o := 2) (by omega) (by omega)).w (o := 4) (by omega) (fun _ => hp)).w (o := 5) (by omega) (by omega)
  · exact H
theorem Bd.deny {V : Nat → Nat → Int32} {r f : Nat} {h : Int32} (H : Bd V r) : Bd (brD V r f h) r := by
  unfold brD
  split
  · exact H
  · exact (((H.w (o := 1) (by omega) (by omega)).w (o := 3) (by omega) (by omega)).w (o := 6) (by omega) (by omega)).w (o := 5) (by omega) (by omega)
theorem Bd.arr {V : Nat → Nat → Int32} {r f : Nat} {h : Int32} (H : Bd V r) (hf : f < 12) : Bd (hr1 V r f h) r := by
  have a : Bd (h1R V r f h) r := by
    unfold h1R
    split
    · have H7 := H.w (o := 7) (f := f) (x := -1) (by omega) (by omega)
      exact H7.hear (H7.2 f hf).2
    · exact H
  unfold hr1 h1D
  split
  · exact (a.w (o := 9) (by omega) (by omega)).deny
  · exact a
theorem Bd.hearL {r : Nat} {h : Int32} : ∀ m i V, i + m ≤ 12 → Bd V r → Bd (hrV r h m i V) r := by
  intro m
  induction m with
  | zero => intro i V _ H; exact H
  | succ m ih => intro i V hi H; exact ih _ _ (by omega) (H.arr (by omega))
theorem Bd.tell1 {V : Nat → Nat → Int32} {r f i : Nat} {h p : Int32} (H : Bd V r) (hp : p ≤ nI 20) : Bd (tr1 V r f i p h) r := by
  unfold tr1
  split
  · exact (H.w (o := 7) (by omega) (by omega)).w (o := 8) (by omega) (fun _ => hp)
  · exact H
theorem Bd.tellL {r f : Nat} {h p : Int32} (hp : p ≤ nI 20) : ∀ m i V, Bd V r → Bd (trL r f p h m i V) r := by
  intro m
  induction m with
  | zero => intro i V H; exact H
  | succ m ih => intro i V H; exact ih _ _ (H.tell1 hp)
theorem Bd.tell {V : Nat → Nat → Int32} {r N f : Nat} {h : Int32} (H : Bd V r) : Bd (telR V r N f h) r := by
  unfold telR
  split
  · rename_i hc
    exact Bd.tellL (Int32.le_trans hc H.1) _ _ _ H
  · exact H
theorem Bd.den1 {V : Nat → Nat → Int32} {r f i : Nat} {h : Int32} (H : Bd V r) : Bd (td1 V r f i h) r := by
  unfold td1
  split
  · exact H.w (o := 9) (by omega) (by omega)
  · exact H
theorem Bd.denL {r f : Nat} {h : Int32} : ∀ m i V, Bd V r → Bd (tdL r f h m i V) r := by
  intro m
  induction m with
  | zero => intro i V H; exact H
  | succ m ih => intro i V H; exact ih _ _ H.den1
theorem Bd.te {V : Nat → Nat → Int32} {r N f : Nat} {h : Int32} (H : Bd V r) : Bd (te1 V r N f h) r := by
  have a : Bd (t1R V r N f h) r := by
    unfold t1R
    split
    · exact (H.w (o := 5) (by omega) (by omega)).tell
    · exact H
  unfold te1 t1D
  split
  · exact Bd.denL _ _ _ (a.w (o := 6) (by omega) (by omega))
  · exact a
theorem Bd.teL {r N : Nat} {h : Int32} : ∀ m i V, Bd V r → Bd (teL r N h m i V) r := by
  intro m
  induction m with
  | zero => intro i V H; exact H
  | succ m ih => intro i V H; exact ih _ _ H.te
theorem Bd.hour {V : Nat → Nat → Int32} {r N : Nat} {h : Int32} (H : Bd V r) (hN : N ≤ 12) : Bd (phV V r N h) r := Bd.teL _ _ _ (Bd.hearL _ _ _ (by omega) H)
theorem tu_iff {x y : Int32} (hx : x ≤ nI 20) : x + nI 1 ≤ y ↔ ¬ y ≤ x := by
  rw [Int32.le_iff_toInt_le, Int32.le_iff_toInt_le, Int32.toInt_add]
  rw [Int32.le_iff_toInt_le, nI_toInt (by omega)] at hx
  rw [nI_toInt (by omega)]
  have h1 := Int32.le_toInt x
  rw [show ((x.toInt + ((1 : Nat) : Int)).bmod (2 ^ 32)) = x.toInt + 1 by unfold Int.bmod; simp only []; split <;> omega]
  omega
theorem Sim.tellL {r j N K f : Nat} {h p : Int32} (hr : 33 ≤ r) (hj : j < 8) (hN : N ≤ 12) (hf : f < N) : ∀ m i V W, i + m ≤ N → Sim V W r j N K h → Sim (trL r f p h m i V) (srL K j f p m i W) r j N K h := by
  intro m
  induction m with
  | zero => intro i V W _ H; exact H
  | succ m ih => intro i V W hi H; exact ih _ _ _ (by omega) (H.tell1 hr hj hN hf (by omega))
theorem Sim.den1 {V W : Nat → Nat → Int32} {r j N K f i : Nat} {h : Int32} (H : Sim V W r j N K h) (hr : 33 ≤ r) (hj : j < 8) (hN : N ≤ 12) (hf : f < N) (hi : i < N) : Sim (td1 V r f i h) (sd1 W K j f i) r j N K h := by
  have e9 : V (r + 9) i = W 135 (768 + (12 * j + i)) := H.1 9 i (by omega) (by omega) (by omega)
  unfold td1 sd1
  rw [H.2.2.1 f i hf hi, e9, H.2.2.2.1]
  by_cases hp : hoM W K f i = -1
  · rw [if_neg (fun c => c.1 hp), if_pos hp]; exact H
  · rw [if_neg hp]
    by_cases h1 : W 135 (768 + (12 * j + i)) = -1
    · rw [if_pos ⟨hp, Or.inl h1⟩, if_pos h1]
      exact H.w (o := 9) hr hj hN (by omega) (by omega) (by omega)
    · rw [if_neg h1]
      unfold mnI
      by_cases h2 : h + hoM W K f i < W 135 (768 + (12 * j + i))
      · rw [if_pos ⟨hp, Or.inr h2⟩, if_pos h2]
        exact H.w (o := 9) hr hj hN (by omega) (by omega) (by omega)
      · rw [if_neg (fun c => c.2.elim h1 h2), if_neg h2]
        have e : jv_U W 135 (768 + (12 * j + i)) (W 135 (768 + (12 * j + i))) = W := by
          funext q c
          unfold jv_U
          by_cases a : q = 135
          · subst a
            by_cases b : c = 768 + (12 * j + i)
            · subst b; rw [if_pos rfl, if_pos rfl]
            · rw [if_pos rfl, if_neg b]
          · rw [if_neg a]
        rw [e]; exact H
theorem Sim.denL {r j N K f : Nat} {h : Int32} (hr : 33 ≤ r) (hj : j < 8) (hN : N ≤ 12) (hf : f < N) : ∀ m i V W, i + m ≤ N → Sim V W r j N K h → Sim (tdL r f h m i V) (sdL K j f m i W) r j N K h := by
  intro m
  induction m with
  | zero => intro i V W _ H; exact H
  | succ m ih => intro i V W hi H; exact ih _ _ _ (by omega) (H.den1 hr hj hN hf (by omega))
theorem Sim.tell {V W : Nat → Nat → Int32} {r j N K f : Nat} {h : Int32} (H : Sim V W r j N K h) (B : Bd V r) (hr : 33 ≤ r) (hj : j < 8) (hN : N ≤ 12) (hf : f < N) : Sim (telR V r N f h) (tuR W N K j f) r j N K h := by
  have e4 : V (r + 4) f = W 135 (192 + (12 * j + f)) := H.1 4 f (by omega) (by omega) (by omega)
  have hb := (B.2 f (by omega)).1
  unfold telR tuR seR
  rw [Nat.add_assoc 192 (12 * j) f, ← e4, ← H.2.2.2.2]
  by_cases hc : V r 1 ≤ V (r + 4) f
  · rw [if_neg (fun c => (tu_iff hb).mp c hc), if_pos hc]; exact H
  · rw [if_pos ((tu_iff hb).mpr hc), if_neg hc]
    exact Sim.tellL hr hj hN hf _ _ _ _ (by omega) H
theorem Sim.te {V W : Nat → Nat → Int32} {r j N K f : Nat} {h : Int32} (H : Sim V W r j N K h) (B : Bd V r) (hr : 33 ≤ r) (hj : j < 8) (hN : N ≤ 12) (hf : f < N) : Sim (te1 V r N f h) (tmM W N K j f) r j N K h := by
  have s1 : Sim (t1R V r N f h) (tmR W N K j f) r j N K h := by
    have e5 : V (r + 5) f = W 135 (384 + (12 * j + f)) := H.1 5 f (by omega) (by omega) (by omega)
    have H5 : Sim (jv_U V (r + 5) f (-1)) (jv_U W 135 (384 + (12 * j + f)) (-1)) r j N K h := H.w (o := 5) hr hj hN (by omega) (by omega) (by omega)
    unfold t1R tmR
    rw [e5, H.2.2.2.1]
    split
    · exact H5.tell (B.w (o := 5) (by omega) (by omega)) hr hj hN hf
    · exact H
  have e6 : t1R V r N f h (r + 6) f = tmR W N K j f 135 (480 + (12 * j + f)) := s1.1 6 f (by omega) (by omega) (by omega)
  have H6 : Sim (jv_U (t1R V r N f h) (r + 6) f (-1)) (jv_U (tmR W N K j f) 135 (480 + (12 * j + f)) (-1)) r j N K h := s1.w (o := 6) hr hj hN (by omega) (by omega) (by omega)
  unfold te1 tmM t1D tmD seD
  rw [e6, s1.2.2.2.1]
  split
  · exact Sim.denL hr hj hN hf _ _ _ _ (by omega) H6
  · exact s1
theorem Sim.teL {r j N K : Nat} {h : Int32} (hr : 33 ≤ r) (hj : j < 8) (hN : N ≤ 12) : ∀ m i V W, i + m ≤ N → Bd V r → Sim V W r j N K h → Sim (teL r N h m i V) (htL N K j m i W) r j N K h := by
  intro m
  induction m with
  | zero => intro i V W _ _ H; exact H
  | succ m ih => intro i V W hi B H; exact ih _ _ _ (by omega) B.te (H.te B hr hj hN (by omega))
/-- an hour of the rumour on both sides -/
theorem Sim.hour {V W : Nat → Nat → Int32} {r j N K : Nat} {h : Int32} (H : Sim V W r j N K h) (B : Bd V r) (hr : 33 ≤ r) (hj : j < 8) (hN : N ≤ 12) : Sim (phV V r N h) (hfM W N K j) r j N K h :=
  Sim.teL hr hj hN _ _ _ _ (by omega) (Bd.hearL _ _ _ (by omega) B) (Sim.hearL hr hj hN _ _ _ _ (by omega) H)
