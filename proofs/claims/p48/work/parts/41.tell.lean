/-! ===== telling on: both sides' order, columns, what holds behind an hour ===== -/
theorem tr1_s7 {C : Nat → Nat → Int32} {r f i : Nat} {p h : Int32} : tr1 C r f i p h = if C (8 + f) i = -1 then C else s7 C r i (h + C (8 + f) i) p := by
  unfold tr1 s7
  by_cases e : C (8 + f) i = -1
  · rw [if_neg (fun c => c.1 e), if_pos e]
  · rw [if_neg e]
    by_cases c : C (r + 7) i = -1 ∨ h + C (8 + f) i < C (r + 7) i ∨ (h + C (8 + f) i = C (r + 7) i ∧ p < C (r + 8) i)
    · rw [if_pos ⟨e, c⟩, if_pos c]
    · rw [if_neg (fun d => c d.2), if_neg c]
theorem td1_s9 {C : Nat → Nat → Int32} {r f i : Nat} {h : Int32} : td1 C r f i h = if C (8 + f) i = -1 then C else s9 C r i (h + C (8 + f) i) := by
  unfold td1 s9
  by_cases e : C (8 + f) i = -1
  · rw [if_neg (fun c => c.1 e), if_pos e]
  · rw [if_neg e]
    by_cases c : C (r + 9) i = -1 ∨ h + C (8 + f) i < C (r + 9) i
    · rw [if_pos ⟨e, c⟩, if_pos c]
    · rw [if_neg (fun d => c d.2), if_neg c]
theorem tr1_o {C : Nat → Nat → Int32} {r f i q : Nat} {p h : Int32} (h1 : q ≠ r + 7) (h2 : q ≠ r + 8) : tr1 C r f i p h q = C q := by
  unfold tr1
  split
  · rw [jv_U_other h2, jv_U_other h1]
  · rfl
theorem td1_o {C : Nat → Nat → Int32} {r f i q : Nat} {h : Int32} (h1 : q ≠ r + 9) : td1 C r f i h q = C q := by
  unfold td1
  split
  · rw [jv_U_other h1]
  · rfl
theorem tr1_U {C : Nat → Nat → Int32} {r f i q c : Nat} {p h x : Int32} (h0 : 8 + f ≠ q) (h1 : r + 7 ≠ q) (h2 : r + 8 ≠ q) : jv_U (tr1 C r f i p h) q c x = tr1 (jv_U C q c x) r f i p h := by
  unfold tr1
  rw [jv_U_other h0, jv_U_other h1, jv_U_other h2]
  split
  · rw [jv_Ucm h2, jv_Ucm h1]
  · rfl
theorem trL_o {r f q : Nat} {p h : Int32} (h1 : q ≠ r + 7) (h2 : q ≠ r + 8) : ∀ m i C, trL r f p h m i C q = C q := by
  intro m
  induction m with
  | zero => intro i C; rfl
  | succ m ih => intro i C; show trL r f p h m (i + 1) _ q = _; rw [ih, tr1_o h1 h2]
theorem tdL_o {r f q : Nat} {h : Int32} (h1 : q ≠ r + 9) : ∀ m i C, tdL r f h m i C q = C q := by
  intro m
  induction m with
  | zero => intro i C; rfl
  | succ m ih => intro i C; show tdL r f h m (i + 1) _ q = _; rw [ih, td1_o h1]
theorem trL_U {r f q c : Nat} {p h x : Int32} (h0 : 8 + f ≠ q) (h1 : r + 7 ≠ q) (h2 : r + 8 ≠ q) : ∀ m i C, jv_U (trL r f p h m i C) q c x = trL r f p h m i (jv_U C q c x) := by
  intro m
  induction m with
  | zero => intro i C; rfl
  | succ m ih => intro i C; show jv_U (trL r f p h m (i + 1) _) q c x = trL r f p h m (i + 1) _; rw [ih, tr1_U h0 h1 h2]
theorem td1_tr1 {C : Nat → Nat → Int32} {r f i k : Nat} {p h : Int32} (hr : 43 ≤ r) (hf : f < 12) : td1 (tr1 C r f k p h) r f i h = tr1 (td1 C r f i h) r f k p h := by
  have e : td1 (tr1 C r f k p h) r f i h = if ¬ C (8 + f) i = -1 ∧ (C (r + 9) i = -1 ∨ h + C (8 + f) i < C (r + 9) i) then jv_U (tr1 C r f k p h) (r + 9) i (h + C (8 + f) i) else tr1 C r f k p h := by
    unfold td1
    rw [tr1_o (by omega) (by omega), tr1_o (by omega) (by omega)]
  rw [e]
  unfold td1
  by_cases c : ¬ C (8 + f) i = -1 ∧ (C (r + 9) i = -1 ∨ h + C (8 + f) i < C (r + 9) i)
  · rw [if_pos c, if_pos c, tr1_U (by omega) (by omega) (by omega)]
  · rw [if_neg c, if_neg c]
theorem td1_trL {r f i : Nat} {p h : Int32} (hr : 43 ≤ r) (hf : f < 12) : ∀ m k C, td1 (trL r f p h m k C) r f i h = trL r f p h m k (td1 C r f i h) := by
  intro m
  induction m with
  | zero => intro k C; rfl
  | succ m ih => intro k C; show td1 (trL r f p h m (k + 1) _) r f i h = trL r f p h m (k + 1) _; rw [ih, td1_tr1 hr hf]
/-- the hand's order: floor by floor, rumour and denial -/
def lo1 (C : Nat → Nat → Int32) (r f i : Nat) (p h : Int32) (a b : Bool) : Nat → Nat → Int32 := if b = true then td1 (if a = true then tr1 C r f i p h else C) r f i h else (if a = true then tr1 C r f i p h else C)
def loL (r f : Nat) (p h : Int32) (a b : Bool) : Nat → Nat → (Nat → Nat → Int32) → (Nat → Nat → Int32)
  | 0, _, C => C
  | m + 1, i, C => loL r f p h a b m (i + 1) (lo1 C r f i p h a b)
theorem loL_eq {r f : Nat} {p h : Int32} (hr : 43 ≤ r) (hf : f < 12) (a b : Bool) : ∀ m i C, loL r f p h a b m i C = if b = true then tdL r f h m i (if a = true then trL r f p h m i C else C) else (if a = true then trL r f p h m i C else C) := by
  intro m
  induction m with
  | zero => intro i C; cases a <;> cases b <;> rfl
  | succ m ih =>
    intro i C
    show loL r f p h a b m (i + 1) (lo1 C r f i p h a b) = _
    rw [ih]
    cases a <;> cases b
    · rfl
    · rfl
    · rfl
    · show tdL r f h m (i + 1) (trL r f p h m (i + 1) (td1 (tr1 C r f i p h) r f i h)) = tdL r f h m (i + 1) (td1 (trL r f p h m (i + 1) (tr1 C r f i p h)) r f i h)
      rw [td1_trL hr hf]
/-- floor f's marks are taken off -/
def ck (C : Nat → Nat → Int32) (r f : Nat) (a b : Bool) : Nat → Nat → Int32 := if b = true then jv_U (if a = true then jv_U C (r + 5) f (-1) else C) (r + 6) f (-1) else (if a = true then jv_U C (r + 5) f (-1) else C)
theorem te1_eq {C : Nat → Nat → Int32} {r N f : Nat} {h : Int32} (hr : 43 ≤ r) (hf : f < 12) : te1 C r N f h = loL r f (C (r + 4) f + nI 1) h (decide (C (r + 5) f = h ∧ C (r + 4) f + nI 1 ≤ C r 1)) (decide (C (r + 6) f = h)) N 0 (ck C r f (decide (C (r + 5) f = h)) (decide (C (r + 6) f = h))) := by
  rw [loL_eq hr hf]
  have eD : ∀ X : Nat → Nat → Int32, X (r + 6) f = C (r + 6) f → t1D X r N f h = if C (r + 6) f = h then tdL r f h N 0 (jv_U X (r + 6) f (-1)) else X := fun X hX => by
    unfold t1D
    rw [hX]
  unfold te1
  by_cases a : C (r + 5) f = h
  · by_cases a2 : C (r + 4) f + nI 1 ≤ C r 1
    · have eR : t1R C r N f h = trL r f (C (r + 4) f + nI 1) h N 0 (jv_U C (r + 5) f (-1)) := by
        unfold t1R telR
        rw [if_pos a, jv_Une (by omega), jv_Une (by omega), if_pos a2]
      rw [eR, eD _ (by rw [trL_o (by omega) (by omega), jv_Une (by omega)]), decide_eq_true (show C (r + 5) f = h ∧ C (r + 4) f + nI 1 ≤ C r 1 from ⟨a, a2⟩), decide_eq_true a]
      by_cases b : C (r + 6) f = h
      · rw [if_pos b, decide_eq_true b, trL_U (by omega) (by omega) (by omega)]
        rfl
      · rw [if_neg b, decide_eq_false b]
        rfl
    · have eR : t1R C r N f h = jv_U C (r + 5) f (-1) := by
        unfold t1R telR
        rw [if_pos a, jv_Une (by omega), jv_Une (by omega), if_neg a2]
      rw [eR, eD _ (by rw [jv_Une (by omega)]), decide_eq_false (show ¬ (C (r + 5) f = h ∧ C (r + 4) f + nI 1 ≤ C r 1) from fun c => a2 c.2), decide_eq_true a]
      by_cases b : C (r + 6) f = h
      · rw [if_pos b, decide_eq_true b]
        rfl
      · rw [if_neg b, decide_eq_false b]
        rfl
  · have eR : t1R C r N f h = C := by
      unfold t1R
      rw [if_neg a]
    rw [eR, eD _ rfl, decide_eq_false (show ¬ (C (r + 5) f = h ∧ C (r + 4) f + nI 1 ≤ C r 1) from fun c => a c.1), decide_eq_false a]
    by_cases b : C (r + 6) f = h
    · rw [if_pos b, decide_eq_true b]
      rfl
    · rw [if_neg b, decide_eq_false b]
      rfl
/-! columns -/
theorem trL_col {r f c : Nat} {p h : Int32} (hr : 43 ≤ r) (hf : f < 12) : ∀ m i C, (trL r f p h m i C (r + 7) c = C (r + 7) c ∧ trL r f p h m i C (r + 8) c = C (r + 8) c) ∨ (¬ C (8 + f) c = -1 ∧ trL r f p h m i C (r + 7) c = h + C (8 + f) c ∧ trL r f p h m i C (r + 8) c = p) := by
  intro m
  induction m with
  | zero => intro i C; exact Or.inl ⟨rfl, rfl⟩
  | succ m ih =>
    intro i C
    have h1 := ih (i + 1) (tr1 C r f i p h)
    rw [show tr1 C r f i p h (8 + f) = C (8 + f) from tr1_o (by omega) (by omega)] at h1
    show (trL r f p h m (i + 1) (tr1 C r f i p h) (r + 7) c = _ ∧ _) ∨ _
    rcases h1 with ⟨h1, h2⟩ | h1
    · by_cases e : c = i
      · subst e
        unfold tr1 at h1 h2
        split at h1
        · rename_i hc
          rw [if_pos hc] at h2
          refine Or.inr ⟨hc.1, ?_, ?_⟩
          · show trL r f p h m (c + 1) (tr1 C r f c p h) (r + 7) c = _
            unfold tr1
            rw [if_pos hc, h1, jv_Une (by omega), jv_Ueq]
          · show trL r f p h m (c + 1) (tr1 C r f c p h) (r + 8) c = _
            unfold tr1
            rw [if_pos hc, h2, jv_Ueq]
        · rename_i hc
          rw [if_neg hc] at h2
          left
          have e1 : tr1 C r f c p h = C := by
            unfold tr1
            rw [if_neg hc]
          exact ⟨by rw [e1]; exact h1, by
            show trL r f p h m (c + 1) (tr1 C r f c p h) (r + 8) c = _
            rw [e1]
            exact h2⟩
      · left
        have e1 : ∀ q, tr1 C r f i p h q c = C q c := fun q => by
          unfold tr1
          split
          · rw [jv_Unj e, jv_Unj e]
          · rfl
        rw [e1] at h1 h2
        exact ⟨h1, h2⟩
    · exact Or.inr h1
theorem tdL_col {r f c : Nat} {h : Int32} (hr : 43 ≤ r) (hf : f < 12) : ∀ m i C, tdL r f h m i C (r + 9) c = C (r + 9) c ∨ (¬ C (8 + f) c = -1 ∧ tdL r f h m i C (r + 9) c = h + C (8 + f) c) := by
  intro m
  induction m with
  | zero => intro i C; exact Or.inl rfl
  | succ m ih =>
    intro i C
    have h1 := ih (i + 1) (td1 C r f i h)
    rw [show td1 C r f i h (8 + f) = C (8 + f) from td1_o (by omega)] at h1
    show tdL r f h m (i + 1) (td1 C r f i h) (r + 9) c = _ ∨ _
    rcases h1 with h1 | h1
    · by_cases e : c = i
      · subst e
        unfold td1 at h1
        split at h1
        · rename_i hc
          refine Or.inr ⟨hc.1, ?_⟩
          show tdL r f h m (c + 1) (td1 C r f c h) (r + 9) c = _
          unfold td1
          rw [if_pos hc, h1, jv_Ueq]
        · rename_i hc
          left
          unfold td1
          rw [if_neg hc]
          exact h1
      · left
        rw [h1]
        unfold td1
        split
        · rw [jv_Unj e]
        · rfl
    · exact Or.inr h1
theorem ck_o {C : Nat → Nat → Int32} {r f q : Nat} {a b : Bool} (h5 : q ≠ r + 5) (h6 : q ≠ r + 6) : ck C r f a b q = C q := by
  cases a <;> cases b
  · rfl
  · exact jv_U_other h6
  · exact jv_U_other h5
  · exact (jv_U_other h6).trans (jv_U_other h5)
theorem ck_5 {C : Nat → Nat → Int32} {r f c : Nat} {a b : Bool} : ck C r f a b (r + 5) c = if c = f ∧ a = true then -1 else C (r + 5) c := by
  cases a <;> cases b
  · rw [if_neg (fun d => by cases d.2)]; rfl
  · rw [if_neg (fun d => by cases d.2)]; exact jv_Une (by omega)
  · by_cases e : c = f
    · rw [if_pos ⟨e, rfl⟩, e]; exact jv_Ueq
    · rw [if_neg (fun d => e d.1)]; exact jv_Unj e
  · by_cases e : c = f
    · rw [if_pos ⟨e, rfl⟩, e]; exact (jv_Une (by omega)).trans jv_Ueq
    · rw [if_neg (fun d => e d.1)]; exact (jv_Unj e).trans (jv_Unj e)
theorem ck_6 {C : Nat → Nat → Int32} {r f c : Nat} {a b : Bool} : ck C r f a b (r + 6) c = if c = f ∧ b = true then -1 else C (r + 6) c := by
  cases a <;> cases b
  · rw [if_neg (fun d => by cases d.2)]; rfl
  · by_cases e : c = f
    · rw [if_pos ⟨e, rfl⟩, e]; exact jv_Ueq
    · rw [if_neg (fun d => e d.1)]; exact jv_Unj e
  · rw [if_neg (fun d => by cases d.2)]; exact jv_Une (by omega)
  · by_cases e : c = f
    · rw [if_pos ⟨e, rfl⟩, e]; exact jv_Ueq
    · rw [if_neg (fun d => e d.1)]; exact (jv_Unj e).trans (jv_Unj e)
theorem loL_o {r f q : Nat} {p h : Int32} (hr : 43 ≤ r) (hf : f < 12) (h7 : q ≠ r + 7) (h8 : q ≠ r + 8) (h9 : q ≠ r + 9) (a b : Bool) : ∀ m i C, loL r f p h a b m i C q = C q := by
  intro m i C
  rw [loL_eq hr hf]
  cases a <;> cases b
  · rfl
  · exact tdL_o h9 _ _ _
  · exact trL_o h7 h8 _ _ _
  · exact (tdL_o h9 _ _ _).trans (trL_o h7 h8 _ _ _)
theorem loL_78 {r f c : Nat} {p h : Int32} (hr : 43 ≤ r) (hf : f < 12) (a b : Bool) (m i : Nat) (C : Nat → Nat → Int32) : (loL r f p h a b m i C (r + 7) c = C (r + 7) c ∧ loL r f p h a b m i C (r + 8) c = C (r + 8) c) ∨ (a = true ∧ ¬ C (8 + f) c = -1 ∧ loL r f p h a b m i C (r + 7) c = h + C (8 + f) c ∧ loL r f p h a b m i C (r + 8) c = p) := by
  rw [loL_eq hr hf]
  cases a <;> cases b
  · exact Or.inl ⟨rfl, rfl⟩
  · exact Or.inl ⟨by rw [if_pos rfl, tdL_o (by omega)]; rfl, by rw [if_pos rfl, tdL_o (by omega)]; rfl⟩
  · rcases trL_col (p := p) (h := h) (c := c) hr hf m i C with h1 | h1
    · exact Or.inl h1
    · exact Or.inr ⟨rfl, h1⟩
  · rw [if_pos rfl, tdL_o (by omega), tdL_o (by omega)]
    rcases trL_col (p := p) (h := h) (c := c) hr hf m i C with h1 | h1
    · exact Or.inl h1
    · exact Or.inr ⟨rfl, h1⟩
theorem loL_9 {r f c : Nat} {p h : Int32} (hr : 43 ≤ r) (hf : f < 12) (a b : Bool) (m i : Nat) (C : Nat → Nat → Int32) : loL r f p h a b m i C (r + 9) c = C (r + 9) c ∨ (b = true ∧ ¬ C (8 + f) c = -1 ∧ loL r f p h a b m i C (r + 9) c = h + C (8 + f) c) := by
  rw [loL_eq hr hf]
  cases a <;> cases b
  · exact Or.inl rfl
  · rcases tdL_col (h := h) (c := c) hr hf m i C with h1 | h1
    · exact Or.inl h1
    · exact Or.inr ⟨rfl, h1⟩
  · exact Or.inl (by rw [if_neg (by decide), if_pos rfl, trL_o (by omega) (by omega)])
  · have h1 := tdL_col (h := h) (c := c) hr hf m i (trL r f p h m i C)
    rw [trL_o (by omega) (by omega), trL_o (by omega) (by omega)] at h1
    rcases h1 with h1 | h1
    · exact Or.inl h1
    · exact Or.inr ⟨rfl, h1⟩
/-- all that an hour's telling does to a column -/
theorem te1_cl {C : Nat → Nat → Int32} {r N f c : Nat} {h : Int32} (hr : 43 ≤ r) (hf : f < 12) :
    (∀ q, q ≠ r + 5 → q ≠ r + 6 → q ≠ r + 7 → q ≠ r + 8 → q ≠ r + 9 → te1 C r N f h q = C q) ∧ te1 C r N f h (r + 5) c = (if c = f ∧ C (r + 5) f = h then -1 else C (r + 5) c) ∧ te1 C r N f h (r + 6) c = (if c = f ∧ C (r + 6) f = h then -1 else C (r + 6) c) ∧
    ((te1 C r N f h (r + 7) c = C (r + 7) c ∧ te1 C r N f h (r + 8) c = C (r + 8) c) ∨ (C (r + 5) f = h ∧ C (r + 4) f + nI 1 ≤ C r 1 ∧ ¬ C (8 + f) c = -1 ∧ te1 C r N f h (r + 7) c = h + C (8 + f) c ∧ te1 C r N f h (r + 8) c = C (r + 4) f + nI 1)) ∧
    (te1 C r N f h (r + 9) c = C (r + 9) c ∨ (C (r + 6) f = h ∧ ¬ C (8 + f) c = -1 ∧ te1 C r N f h (r + 9) c = h + C (8 + f) c)) := by
  rw [te1_eq hr hf]
  refine ⟨fun q h5 h6 h7 h8 h9 => ?_, ?_, ?_, ?_, ?_⟩
  · rw [loL_o hr hf h7 h8 h9, ck_o h5 h6]
  · rw [loL_o hr hf (by omega) (by omega) (by omega), ck_5]
    by_cases e : c = f ∧ C (r + 5) f = h
    · rw [if_pos ⟨e.1, decide_eq_true e.2⟩, if_pos e]
    · rw [if_neg (fun d => e ⟨d.1, of_decide_eq_true d.2⟩), if_neg e]
  · rw [loL_o hr hf (by omega) (by omega) (by omega), ck_6]
    by_cases e : c = f ∧ C (r + 6) f = h
    · rw [if_pos ⟨e.1, decide_eq_true e.2⟩, if_pos e]
    · rw [if_neg (fun d => e ⟨d.1, of_decide_eq_true d.2⟩), if_neg e]
  · have h1 := loL_78 (p := C (r + 4) f + nI 1) (h := h) (c := c) hr hf (decide (C (r + 5) f = h ∧ C (r + 4) f + nI 1 ≤ C r 1)) (decide (C (r + 6) f = h)) N 0 (ck C r f (decide (C (r + 5) f = h)) (decide (C (r + 6) f = h)))
    rw [ck_o (q := r + 7) (by omega) (by omega), ck_o (q := r + 8) (by omega) (by omega), ck_o (q := 8 + f) (by omega) (by omega)] at h1
    rcases h1 with h1 | ⟨h1, h2⟩
    · exact Or.inl h1
    · have h3 := of_decide_eq_true h1
      exact Or.inr ⟨h3.1, h3.2, h2⟩
  · have h1 := loL_9 (p := C (r + 4) f + nI 1) (h := h) (c := c) hr hf (decide (C (r + 5) f = h ∧ C (r + 4) f + nI 1 ≤ C r 1)) (decide (C (r + 6) f = h)) N 0 (ck C r f (decide (C (r + 5) f = h)) (decide (C (r + 6) f = h)))
    rw [ck_o (q := r + 9) (by omega) (by omega), ck_o (q := 8 + f) (by omega) (by omega)] at h1
    rcases h1 with h1 | ⟨h1, h2⟩
    · exact Or.inl h1
    · exact Or.inr ⟨of_decide_eq_true h1, h2⟩
/-- the tower's numbers, as far as an hour reads them -/
def CE (C : Nat → Nat → Int32) (N K t : Nat) : Prop := C 0 5 = nI t ∧ (∀ a b, a < N → b < N → C (8 + a) b = layX C K (8 + a) b ∧ okP (C (8 + a) b)) ∧ (∀ f, f < N → ∃ s, C 3 f = nI s ∧ s ≤ 9) ∧ ∀ f, f < N - 1 → ∃ s, C 4 f = nI s ∧ 1 ≤ s ∧ s ≤ 9
theorem CE.self {C : Nat → Nat → Int32} {N K t f : Nat} (H : CE C N K t) (hf : f < N) : C (8 + f) f = -1 := by
  rw [(H.2.1 f f hf hf).1]
  exact if_pos rfl
/-- a rumour in an hour: what holds of it -/
def RI (C : Nat → Nat → Int32) (r N t : Nat) : Prop := ∃ y t0 f0, C r 0 = nI f0 ∧ f0 < N ∧ C r 1 = nI y ∧ 1 ≤ y ∧ y ≤ 20 ∧ t0 ≤ t ∧ ∀ f, f < N → RC (cl C r f) t t t t t y t0 (f = f0)
theorem RC.next {v : Nat → Int32} {t y t0 : Nat} {o : Prop} (H : RC v (t + 1) (t + 1) (t + 1) (t + 1) t y t0 o) : RC v (t + 1) (t + 1) (t + 1) (t + 1) (t + 1) y t0 o := by
  obtain ⟨a1, a2, a3, a4, a5, a6, a7, a8, a9, a10, a11⟩ := H
  refine ⟨a1, a2, a3, a4, fun h => ?_, ?_, a7, ?_, ?_, ?_, ?_⟩
  · obtain ⟨a, b, c⟩ := a5 h
    exact ⟨a, b, by omega⟩
  · rcases a6 with a6 | ⟨a, p, b1, b2, b3, b4⟩
    · exact Or.inl a6
    · exact Or.inr ⟨a, p, b1, b2, by omega, b4⟩
  · rcases a8 with a8 | ⟨a, p, b1, b2, b3, b4, b5⟩
    · exact Or.inl a8
    · exact Or.inr ⟨a, p, b1, b2, b3, by omega, b5⟩
  · rcases a9 with a9 | ⟨a, b1, b3, b4⟩
    · exact Or.inl a9
    · exact Or.inr ⟨a, b1, b3, by omega⟩
  · rcases a10 with a9 | ⟨a0, a, b1, b3, b4⟩
    · exact Or.inl a9
    · exact Or.inr ⟨a0, a, b1, b3, by omega⟩
  · rcases a11 with a9 | ⟨a0, a, b1, b3, b4⟩
    · exact Or.inl a9
    · exact Or.inr ⟨a0, a, b1, b3, by omega⟩
/-- between the floors' telling -/
def RT (C : Nat → Nat → Int32) (r N t y t0 f0 i : Nat) : Prop := ∀ c, c < N → RC (cl C r c) (t + 1) (t + 1) (if c < i then t + 1 else t) (if c < i then t + 1 else t) t y t0 (c = f0)
theorem RT.te {C : Nat → Nat → Int32} {r N K t y t0 f0 i : Nat} (H : RT C r N t y t0 f0 i) (hr : 43 ≤ r) (hN : N ≤ 12) (hi : i < N) (E : CE C N K t) (h1 : C r 1 = nI y) (hy : y ≤ 20) (h0 : t0 ≤ t) (ht : t < 2 ^ 30) : RT (te1 C r N i (nI t)) r N t y t0 f0 (i + 1) := by
  intro c hc
  obtain ⟨e0, e5, e6, e78, e9⟩ := te1_cl (C := C) (r := r) (N := N) (f := i) (c := c) (h := nI t) hr (by omega)
  have hv : ∀ o, 1 ≤ o → o ≤ 4 → cl (te1 C r N i (nI t)) r c o = cl C r c o := fun o h1 h4 => by
    show te1 C r N i (nI t) (r + o) c = C (r + o) c
    rw [e0 (r + o) (by omega) (by omega) (by omega) (by omega) (by omega)]
  obtain ⟨a1, a2, a3, a4, a5, a6, a7, a8, a9, a10, a11⟩ := H c hc
  have v5 : cl (te1 C r N i (nI t)) r c 5 = _ := e5
  have v6 : cl (te1 C r N i (nI t)) r c 6 = _ := e6
  unfold RC
  rw [hv 1 (by omega) (by omega), hv 2 (by omega) (by omega), hv 3 (by omega) (by omega), hv 4 (by omega) (by omega), v5, v6]
  refine ⟨a1, a2, a3, a4, a5, a6, a7, ?_, ?_, ?_, ?_⟩
  · rcases e78 with ⟨q1, q2⟩ | ⟨q1, q2, q3, q4, q5⟩
    · have w7 : cl (te1 C r N i (nI t)) r c 7 = cl C r c 7 := q1
      have w8 : cl (te1 C r N i (nI t)) r c 8 = cl C r c 8 := q2
      rw [w7, w8]
      exact a8
    · have w7 : cl (te1 C r N i (nI t)) r c 7 = _ := q4
      have w8 : cl (te1 C r N i (nI t)) r c 8 = _ := q5
      rw [w7, w8]
      obtain ⟨b1, b2, b3, b4, b5, b6, b7, b8, b9, b10, b11⟩ := H i hi
      have c1 := (b10.resolve_left (fun d => m1n (by omega) (q1.symm.trans d))).1
      obtain ⟨a, p, d1, d2, d3, d4, -⟩ := b6.resolve_left (fun d => b3 c1 d.1)
      obtain ⟨P, p1, p2, p3⟩ := (E.2.1 i c hi hc).2.resolve_left q3
      have d2' : C (r + 4) i = nI p := d2
      rw [d2', nI_add, h1, nI_leI (by omega) (by omega)] at q2
      refine Or.inr ⟨t + P, p + 1, by rw [p1, nI_add], by rw [d2', nI_add], by omega, by omega, by omega, by omega, by omega⟩
  · rcases e9 with q1 | ⟨q1, q3, q4⟩
    · have w9 : cl (te1 C r N i (nI t)) r c 9 = cl C r c 9 := q1
      rw [w9]
      exact a9
    · have w9 : cl (te1 C r N i (nI t)) r c 9 = _ := q4
      rw [w9]
      obtain ⟨P, p1, p2, p3⟩ := (E.2.1 i c hi hc).2.resolve_left q3
      exact Or.inr ⟨t + P, by rw [p1, nI_add], by omega, by omega⟩
  · by_cases e : c = i
    · subst e
      by_cases q : C (r + 5) c = nI t
      · rw [if_pos ⟨rfl, q⟩]
        exact Or.inl rfl
      · rw [if_neg (fun d => q d.2), if_pos (by omega)]
        rw [if_neg (by omega)] at a10
        rcases a10 with a10 | ⟨b0, a, b1, b2, b3⟩
        · exact Or.inl a10
        · have b1' : C (r + 5) c = nI a := b1
          have : a ≠ t := fun d => q (by rw [b1', d])
          exact Or.inr ⟨b0, a, b1, by omega, b3⟩
    · rw [if_neg (fun d => e d.1)]
      by_cases q : c < i
      · rw [if_pos (by omega)]
        rw [if_pos q] at a10
        exact a10
      · rw [if_neg (by omega)]
        rw [if_neg q] at a10
        exact a10
  · by_cases e : c = i
    · subst e
      by_cases q : C (r + 6) c = nI t
      · rw [if_pos ⟨rfl, q⟩]
        exact Or.inl rfl
      · rw [if_neg (fun d => q d.2), if_pos (by omega)]
        rw [if_neg (by omega)] at a11
        rcases a11 with a11 | ⟨b0, a, b1, b2, b3⟩
        · exact Or.inl a11
        · have b1' : C (r + 6) c = nI a := b1
          have : a ≠ t := fun d => q (by rw [b1', d])
          exact Or.inr ⟨b0, a, b1, by omega, b3⟩
    · rw [if_neg (fun d => e d.1)]
      by_cases q : c < i
      · rw [if_pos (by omega)]
        rw [if_pos q] at a11
        exact a11
      · rw [if_neg (by omega)]
        rw [if_neg q] at a11
        exact a11
def b2n (p : Prop) [Decidable p] : Nat := if p then 1 else 0
/-- telling pays for its rows -/
theorem Fi_te {C : Nat → Nat → Int32} {r N K t y t0 f0 i : Nat} (H : RT C r N t y t0 f0 i) (hr : 43 ≤ r) (hN : N ≤ 12) (hi : i < N) (E : CE C N K t) (ht : t < 2 ^ 30) : Fi (te1 C r N i (nI t)) r N + 33 * (b2n (C (r + 5) i = nI t) + b2n (C (r + 6) i = nI t)) ≤ Fi C r N := by
  have key := sm_pay (a := fun f => fi (cl C r f)) (b := fun f => fi (cl (te1 C r N i (nI t)) r f)) (f := i) (x := 3 * (b2n (C (r + 5) i = nI t) + b2n (C (r + 6) i = nI t))) (y := 66 * (b2n (C (r + 5) i = nI t) + b2n (C (r + 6) i = nI t))) N hi (fun c hc hne => ?_) ?_
  · have e : ∀ z : Nat, z * 3 * 0 = 0 := fun _ => rfl
    unfold Fi
    have h1 : 3 * (b2n (C (r + 5) i = nI t) + b2n (C (r + 6) i = nI t)) * (N - 1) ≤ 3 * (b2n (C (r + 5) i = nI t) + b2n (C (r + 6) i = nI t)) * 11 := Nat.mul_le_mul_left _ (by omega)
    omega
  · obtain ⟨e0, e5, e6, e78, e9⟩ := te1_cl (C := C) (r := r) (N := N) (f := i) (c := c) (h := nI t) hr (by omega)
    have v1 : cl (te1 C r N i (nI t)) r c 1 = cl C r c 1 := by
      show te1 C r N i (nI t) (r + 1) c = C (r + 1) c
      rw [e0 (r + 1) (by omega) (by omega) (by omega) (by omega) (by omega)]
    have v5 : cl (te1 C r N i (nI t)) r c 5 = cl C r c 5 := by rw [show cl (te1 C r N i (nI t)) r c 5 = _ from e5, if_neg (fun d => hne d.1)]; rfl
    have v6 : cl (te1 C r N i (nI t)) r c 6 = cl C r c 6 := by rw [show cl (te1 C r N i (nI t)) r c 6 = _ from e6, if_neg (fun d => hne d.1)]; rfl
    have w7 : (if cl (te1 C r N i (nI t)) r c 7 = -1 then 0 else 3) ≤ (if cl C r c 7 = -1 then 0 else 3) + 3 * b2n (C (r + 5) i = nI t) := by
      rcases e78 with ⟨q1, -⟩ | ⟨q1, -⟩
      · rw [show cl (te1 C r N i (nI t)) r c 7 = cl C r c 7 from q1]
        omega
      · unfold b2n
        rw [if_pos q1]
        split <;> omega
    have w9 : (if cl (te1 C r N i (nI t)) r c 9 = -1 then 0 else 3) ≤ (if cl C r c 9 = -1 then 0 else 3) + 3 * b2n (C (r + 6) i = nI t) := by
      rcases e9 with q1 | ⟨q1, -⟩
      · rw [show cl (te1 C r N i (nI t)) r c 9 = cl C r c 9 from q1]
        omega
      · unfold b2n
        rw [if_pos q1]
        split <;> omega
    show fi _ ≤ fi _ + _
    unfold fi
    rw [v1, v5, v6]
    omega
  · obtain ⟨e0, e5, e6, e78, e9⟩ := te1_cl (C := C) (r := r) (N := N) (f := i) (c := i) (h := nI t) hr (by omega)
    have hs := E.self hi
    have v1 : cl (te1 C r N i (nI t)) r i 1 = cl C r i 1 := by
      show te1 C r N i (nI t) (r + 1) i = C (r + 1) i
      rw [e0 (r + 1) (by omega) (by omega) (by omega) (by omega) (by omega)]
    have w7 : cl (te1 C r N i (nI t)) r i 7 = cl C r i 7 := by
      rcases e78 with ⟨q1, -⟩ | ⟨-, -, q1, -⟩
      · exact q1
      · exact absurd hs q1
    have w9 : cl (te1 C r N i (nI t)) r i 9 = cl C r i 9 := by
      rcases e9 with q1 | ⟨-, q1, -⟩
      · exact q1
      · exact absurd hs q1
    obtain ⟨b1, b2, b3, b4, b5, b6, b7, b8, b9, b10, b11⟩ := H i hi
    have w5 : (if cl (te1 C r N i (nI t)) r i 1 = 0 ∨ ¬ cl (te1 C r N i (nI t)) r i 5 = -1 then 66 else 0) + 66 * b2n (C (r + 5) i = nI t) ≤ (if cl C r i 1 = 0 ∨ ¬ cl C r i 5 = -1 then 66 else 0) := by
      rw [v1]
      unfold b2n
      by_cases q : C (r + 5) i = nI t
      · have c0 : cl C r i 5 = nI t := q
        have c1 := (b10.resolve_left (fun d => m1n (by omega) (c0.symm.trans d))).1
        rw [if_pos (show i = i ∧ C (r + 5) i = nI t from ⟨rfl, q⟩)] at e5
        have v5 : cl (te1 C r N i (nI t)) r i 5 = -1 := e5
        rw [v5, if_pos q, c1, if_neg (fun d => d.elim nI01 (fun z => z rfl)), c0, if_pos (Or.inr (m1n (by omega)))]
        exact Nat.le_refl _
      · rw [if_neg (fun d => q d.2)] at e5
        have v5 : cl (te1 C r N i (nI t)) r i 5 = cl C r i 5 := e5
        rw [v5, if_neg q]
        exact Nat.le_refl _
    have w6 : (if ¬ cl (te1 C r N i (nI t)) r i 1 = nI 2 ∨ ¬ cl (te1 C r N i (nI t)) r i 6 = -1 then 66 else 0) + 66 * b2n (C (r + 6) i = nI t) ≤ (if ¬ cl C r i 1 = nI 2 ∨ ¬ cl C r i 6 = -1 then 66 else 0) := by
      rw [v1]
      unfold b2n
      by_cases q : C (r + 6) i = nI t
      · have c0 : cl C r i 6 = nI t := q
        have c1 := (b11.resolve_left (fun d => m1n (by omega) (c0.symm.trans d))).1
        rw [if_pos (show i = i ∧ C (r + 6) i = nI t from ⟨rfl, q⟩)] at e6
        have v6 : cl (te1 C r N i (nI t)) r i 6 = -1 := e6
        rw [v6, if_pos q, c1, if_neg (fun d => d.elim (fun z => z rfl) (fun z => z rfl)), c0, if_pos (Or.inr (m1n (by omega)))]
        exact Nat.le_refl _
      · rw [if_neg (fun d => q d.2)] at e6
        have v6 : cl (te1 C r N i (nI t)) r i 6 = cl C r i 6 := e6
        rw [v6, if_neg q]
        exact Nat.le_refl _
    show fi _ + _ ≤ fi _
    unfold fi
    rw [w7, w9]
    omega
