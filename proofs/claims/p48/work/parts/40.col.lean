/-! ===== a floor's column in a rumour: what holds of it, and what an hour does to it ===== -/
def cl (C : Nat → Nat → Int32) (r f : Nat) : Nat → Int32 := fun o => C (r + o) f
def brv (v : Nat → Int32) (s p h : Int32) : Nat → Int32 := if v 1 = 0 then (fun o => if o = 5 then h + s else if o = 4 then p else if o = 2 then h else if o = 1 then nI 1 else v o) else v
def dev (v : Nat → Int32) (s h : Int32) : Nat → Int32 := if v 1 = nI 2 then v else (fun o => if o = 5 then -1 else if o = 6 then h + s / nI 2 else if o = 3 then h else if o = 1 then nI 2 else v o)
def up (v : Nat → Int32) (i : Nat) (x : Int32) : Nat → Int32 := fun o => if o = i then x else v o
def h1v (v : Nat → Int32) (s h : Int32) : Nat → Int32 := if v 7 = h then brv (up v 7 (-1)) s (v 8) h else v
def d1v (v : Nat → Int32) (s h : Int32) : Nat → Int32 := if v 9 = h then dev (up v 9 (-1)) s h else v
theorem cl_U {C : Nat → Nat → Int32} {r f i : Nat} {x : Int32} : cl (jv_U C (r + i) f x) r f = up (cl C r f) i x := by
  funext o
  unfold cl up jv_U
  by_cases e : o = i
  · subst e; simp
  · rw [if_neg e, if_neg (by omega)]
theorem cl_Uc {C : Nat → Nat → Int32} {r f c q : Nat} {x : Int32} (h : c ≠ f) : cl (jv_U C q f x) r c = cl C r c := by
  funext o
  exact jv_Unj h
theorem cl_br {C : Nat → Nat → Int32} {r f : Nat} {p h : Int32} : cl (brR C r f p h) r f = brv (cl C r f) (C 3 f) p h := by
  unfold brR brv
  by_cases e : C (r + 1) f = 0
  · rw [if_pos e, if_pos (show cl C r f 1 = 0 from e), cl_U, cl_U, cl_U, cl_U]
    rfl
  · rw [if_neg e, if_neg (show ¬ cl C r f 1 = 0 from e)]
theorem cl_brc {C : Nat → Nat → Int32} {r f c : Nat} {p h : Int32} (hc : c ≠ f) : cl (brR C r f p h) r c = cl C r c := by
  unfold brR
  split
  · rw [cl_Uc hc, cl_Uc hc, cl_Uc hc, cl_Uc hc]
  · rfl
theorem cl_de {C : Nat → Nat → Int32} {r f : Nat} {h : Int32} : cl (brD C r f h) r f = dev (cl C r f) (C 3 f) h := by
  unfold brD dev
  by_cases e : C (r + 1) f = nI 2
  · rw [if_pos e, if_pos (show cl C r f 1 = nI 2 from e)]
  · rw [if_neg e, if_neg (show ¬ cl C r f 1 = nI 2 from e), cl_U, cl_U, cl_U, cl_U]
    rfl
theorem cl_dec {C : Nat → Nat → Int32} {r f c : Nat} {h : Int32} (hc : c ≠ f) : cl (brD C r f h) r c = cl C r c := by
  unfold brD
  split
  · rfl
  · rw [cl_Uc hc, cl_Uc hc, cl_Uc hc, cl_Uc hc]
theorem U_3 {C : Nat → Nat → Int32} {r i f : Nat} {x : Int32} (hr : 4 ≤ r) : jv_U C (r + i) f x 3 = C 3 := jv_U_other (by omega)
theorem cl_h1 {C : Nat → Nat → Int32} {r f : Nat} {h : Int32} (hr : 4 ≤ r) : cl (h1R C r f h) r f = h1v (cl C r f) (C 3 f) h := by
  unfold h1R h1v
  by_cases e : C (r + 7) f = h
  · rw [if_pos e, if_pos (show cl C r f 7 = h from e), cl_br, cl_U, U_3 hr, jv_Une (by omega)]
    rfl
  · rw [if_neg e, if_neg (show ¬ cl C r f 7 = h from e)]
theorem cl_h1c {C : Nat → Nat → Int32} {r f c : Nat} {h : Int32} (hc : c ≠ f) : cl (h1R C r f h) r c = cl C r c := by
  unfold h1R
  split
  · rw [cl_brc hc, cl_Uc hc]
  · rfl
theorem cl_d1 {C : Nat → Nat → Int32} {r f : Nat} {h : Int32} (hr : 4 ≤ r) : cl (h1D C r f h) r f = d1v (cl C r f) (C 3 f) h := by
  unfold h1D d1v
  by_cases e : C (r + 9) f = h
  · rw [if_pos e, if_pos (show cl C r f 9 = h from e), cl_de, cl_U, U_3 hr]
  · rw [if_neg e, if_neg (show ¬ cl C r f 9 = h from e)]
theorem cl_d1c {C : Nat → Nat → Int32} {r f c : Nat} {h : Int32} (hc : c ≠ f) : cl (h1D C r f h) r c = cl C r c := by
  unfold h1D
  split
  · rw [cl_dec hc, cl_Uc hc]
  · rfl
theorem br_3 {C : Nat → Nat → Int32} {r f : Nat} {p h : Int32} (hr : 4 ≤ r) : brR C r f p h 3 = C 3 := brR_out (Or.inl (by omega))
theorem h1_3 {C : Nat → Nat → Int32} {r f : Nat} {h : Int32} (hr : 4 ≤ r) : h1R C r f h 3 = C 3 := by
  unfold h1R
  split
  · rw [br_3 hr, U_3 hr]
  · rfl
theorem hr1_3 {C : Nat → Nat → Int32} {r f : Nat} {h : Int32} (hr : 4 ≤ r) : hr1 C r f h 3 = C 3 := hr1_out (Or.inl (by omega))
theorem cl_hr1 {C : Nat → Nat → Int32} {r f : Nat} {h : Int32} (hr : 4 ≤ r) : cl (hr1 C r f h) r f = d1v (h1v (cl C r f) (C 3 f) h) (C 3 f) h := by
  unfold hr1
  rw [cl_d1 hr, cl_h1 hr, h1_3 hr]
theorem cl_hr1c {C : Nat → Nat → Int32} {r f c : Nat} {h : Int32} (hc : c ≠ f) : cl (hr1 C r f h) r c = cl C r c := by
  unfold hr1
  rw [cl_d1c hc, cl_h1c hc]
theorem cl_hrV {r : Nat} {h : Int32} (hr : 4 ≤ r) : ∀ m i C c, cl (hrV r h m i C) r c = if i ≤ c ∧ c < i + m then d1v (h1v (cl C r c) (C 3 c) h) (C 3 c) h else cl C r c := by
  intro m
  induction m with
  | zero => intro i C c; rw [if_neg (by omega)]; rfl
  | succ m ih =>
    intro i C c
    show cl (hrV r h m (i + 1) (hr1 C r i h)) r c = _
    rw [ih, hr1_3 hr]
    by_cases e : c = i
    · subst e
      rw [if_neg (by omega), if_pos (by omega), cl_hr1 hr]
    · rw [cl_hr1c e]
      by_cases e2 : i + 1 ≤ c ∧ c < i + 1 + m
      · rw [if_pos e2, if_pos (by omega)]
      · rw [if_neg e2, if_neg (by omega)]
/-- what holds of a floor's column; T7 .. T6: no arrival, denial's arrival, telling, denial's telling stands ahead of these hours -/
def RC (v : Nat → Int32) (T7 T9 T5 T6 t y t0 : Nat) (o : Prop) : Prop :=
  (v 1 = 0 ∨ v 1 = nI 1 ∨ v 1 = nI 2) ∧ (v 1 = 0 → v 2 = -1) ∧ (v 1 = nI 1 → ¬ v 2 = -1) ∧ (¬ v 1 = nI 2 → v 3 = -1) ∧ (v 1 = nI 2 → ∃ a, v 3 = nI a ∧ a ≤ t) ∧
  ((v 2 = -1 ∧ v 4 = -1) ∨ ∃ a p, v 2 = nI a ∧ v 4 = nI p ∧ a ≤ t ∧ p ≤ y ∧ (¬ o → 1 ≤ p ∧ t0 < a) ∧ (o → p = 0 ∧ a = t0)) ∧ (o → ¬ v 2 = -1) ∧
  (v 7 = -1 ∨ ∃ a p, v 7 = nI a ∧ v 8 = nI p ∧ T7 ≤ a ∧ a ≤ t + 30 ∧ 1 ≤ p ∧ p ≤ y ∧ t0 < a) ∧
  (v 9 = -1 ∨ ∃ a, v 9 = nI a ∧ T9 ≤ a ∧ a ≤ t + 30) ∧
  (v 5 = -1 ∨ (v 1 = nI 1 ∧ ∃ a, v 5 = nI a ∧ T5 ≤ a ∧ a ≤ t + 30)) ∧
  (v 6 = -1 ∨ (v 1 = nI 2 ∧ ∃ a, v 6 = nI a ∧ T6 ≤ a ∧ a ≤ t + 30))
theorem nI02 : ¬ nI 2 = 0 := by decide +kernel
theorem nI01 : ¬ nI 1 = 0 := by decide +kernel
theorem nI12 : ¬ nI 1 = nI 2 := by decide +kernel
theorem z2 : ¬ (0 : Int32) = nI 2 := by decide +kernel
theorem z1 : ¬ (0 : Int32) = nI 1 := by decide +kernel
theorem m1n {a : Nat} (h : a < 2 ^ 31) : ¬ nI a = -1 := nI_nm1 h
theorem RC.up7 {v : Nat → Int32} {T7 T9 T5 T6 t y t0 : Nat} {o : Prop} (H : RC v T7 T9 T5 T6 t y t0 o) (T : Nat) : RC (up v 7 (-1)) T T9 T5 T6 t y t0 o := by
  obtain ⟨a1, a2, a3, a4, a5, a6, a7, a8, a9, a10, a11⟩ := H
  exact ⟨a1, a2, a3, a4, a5, a6, a7, Or.inl rfl, a9, a10, a11⟩
theorem RC.up9 {v : Nat → Int32} {T7 T9 T5 T6 t y t0 : Nat} {o : Prop} (H : RC v T7 T9 T5 T6 t y t0 o) (T : Nat) : RC (up v 9 (-1)) T7 T T5 T6 t y t0 o := by
  obtain ⟨a1, a2, a3, a4, a5, a6, a7, a8, a9, a10, a11⟩ := H
  exact ⟨a1, a2, a3, a4, a5, a6, a7, a8, Or.inl rfl, a10, a11⟩
theorem RC.up5 {v : Nat → Int32} {T7 T9 T5 T6 t y t0 : Nat} {o : Prop} (H : RC v T7 T9 T5 T6 t y t0 o) (T : Nat) : RC (up v 5 (-1)) T7 T9 T T6 t y t0 o := by
  obtain ⟨a1, a2, a3, a4, a5, a6, a7, a8, a9, a10, a11⟩ := H
  exact ⟨a1, a2, a3, a4, a5, a6, a7, a8, a9, Or.inl rfl, a11⟩
theorem RC.up6 {v : Nat → Int32} {T7 T9 T5 T6 t y t0 : Nat} {o : Prop} (H : RC v T7 T9 T5 T6 t y t0 o) (T : Nat) : RC (up v 6 (-1)) T7 T9 T5 T t y t0 o := by
  obtain ⟨a1, a2, a3, a4, a5, a6, a7, a8, a9, a10, a11⟩ := H
  exact ⟨a1, a2, a3, a4, a5, a6, a7, a8, a9, a10, Or.inl rfl⟩
/-- a rumour comes -/
theorem RC.br {v : Nat → Int32} {T7 T9 T6 t y t0 s p : Nat} {o : Prop} (H : RC v T7 T9 t T6 t y t0 o) (hs : s ≤ 9) (hp : p ≤ y) (h1 : 1 ≤ p) (h0 : t0 < t) (ht : t < 2 ^ 30) : RC (brv v (nI s) (nI p) (nI t)) T7 T9 t T6 t y t0 o := by
  unfold brv
  by_cases e : v 1 = 0
  · rw [if_pos e]
    obtain ⟨a1, a2, a3, a4, a5, a6, a7, a8, a9, a10, a11⟩ := H
    have ho : ¬ o := fun c => a7 c (a2 e)
    have e2 : ¬ v 1 = nI 2 := by rw [e]; exact z2
    refine ⟨Or.inr (Or.inl rfl), fun c => absurd c nI01, fun _ => m1n (by omega), fun _ => a4 e2, fun c => absurd c nI12, Or.inr ⟨t, p, rfl, rfl, by omega, hp, fun _ => ⟨h1, h0⟩, fun c => absurd c ho⟩, fun c => absurd c ho, a8, a9, Or.inr ⟨rfl, t + s, ?_, by omega, by omega⟩, Or.inl ?_⟩
    · show nI t + nI s = _
      rw [nI_add]
    · show v 6 = -1
      exact a11.resolve_right (fun c => e2 c.1)
  · rw [if_neg e]
    exact H
/-- a rumour is begun -/
theorem RC.de {v : Nat → Int32} {T7 T9 T5 t y t0 s : Nat} {o : Prop} (H : RC v T7 T9 T5 t t y t0 o) (hs : s ≤ 9) (ht : t < 2 ^ 30) : RC (dev v (nI s) (nI t)) T7 T9 T5 t t y t0 o := by
  unfold dev
  by_cases e : v 1 = nI 2
  · rw [if_pos e]
    exact H
  · rw [if_neg e]
    obtain ⟨a1, a2, a3, a4, a5, a6, a7, a8, a9, a10, a11⟩ := H
    refine ⟨Or.inr (Or.inr rfl), fun c => absurd c nI02, fun c => absurd c.symm nI12, fun c => absurd rfl c, fun _ => ⟨t, rfl, by omega⟩, a6, a7, a8, a9, Or.inl rfl, Or.inr ⟨rfl, t + s / 2, ?_, by omega, by omega⟩⟩
    show nI t + nI s / nI 2 = _
    rw [pk_div (by omega) (by decide) (by decide), nI_add]
theorem RC.h1 {v : Nat → Int32} {T9 T6 t y t0 s : Nat} {o : Prop} (H : RC v t T9 t T6 t y t0 o) (hs : s ≤ 9) (ht : t < 2 ^ 30) : RC (h1v v (nI s) (nI t)) (t + 1) T9 t T6 t y t0 o := by
  unfold h1v
  by_cases e : v 7 = nI t
  · rw [if_pos e]
    obtain ⟨a, p, b1, b2, b3, b4, b5, b6, b7⟩ := H.2.2.2.2.2.2.2.1.resolve_left (fun c => m1n (by omega) (e.symm.trans c))
    have ha : a = t := (nI_eq (by omega) (by omega)).mp (b1.symm.trans e)
    rw [b2]
    exact (H.up7 (t + 1)).br hs b6 b5 (by omega) ht
  · rw [if_neg e]
    obtain ⟨a1, a2, a3, a4, a5, a6, a7, a8, a9, a10, a11⟩ := H
    refine ⟨a1, a2, a3, a4, a5, a6, a7, ?_, a9, a10, a11⟩
    rcases a8 with a8 | ⟨a, p, b1, b2, b3, b4⟩
    · exact Or.inl a8
    · exact Or.inr ⟨a, p, b1, b2, by
        have : a ≠ t := fun c => e (by rw [b1, c])
        omega, b4⟩
theorem RC.d1 {v : Nat → Int32} {T7 T5 t y t0 s : Nat} {o : Prop} (H : RC v T7 t T5 t t y t0 o) (hs : s ≤ 9) (ht : t < 2 ^ 30) : RC (d1v v (nI s) (nI t)) T7 (t + 1) T5 t t y t0 o := by
  unfold d1v
  by_cases e : v 9 = nI t
  · rw [if_pos e]
    exact (H.up9 (t + 1)).de hs ht
  · rw [if_neg e]
    obtain ⟨a1, a2, a3, a4, a5, a6, a7, a8, a9, a10, a11⟩ := H
    refine ⟨a1, a2, a3, a4, a5, a6, a7, a8, ?_, a10, a11⟩
    rcases a9 with a9 | ⟨a, b1, b3, b4⟩
    · exact Or.inl a9
    · exact Or.inr ⟨a, b1, by
        have : a ≠ t := fun c => e (by rw [b1, c])
        omega, b4⟩
/-- what a column costs still -/
def fi (v : Nat → Int32) : Nat := (if v 1 = 0 ∨ ¬ v 5 = -1 then 66 else 0) + (if ¬ v 1 = nI 2 ∨ ¬ v 6 = -1 then 66 else 0) + (if v 7 = -1 then 0 else 3) + (if v 9 = -1 then 0 else 3)
theorem fi_br {v : Nat → Int32} {s p h : Int32} : fi (brv v s p h) ≤ fi v := by
  unfold brv
  by_cases e : v 1 = 0
  · rw [if_pos e]
    have h2 : ¬ v 1 = nI 2 := by rw [e]; exact z2
    unfold fi
    rw [if_pos (show v 1 = 0 ∨ ¬ v 5 = -1 from Or.inl e), if_pos (show ¬ v 1 = nI 2 ∨ ¬ v 6 = -1 from Or.inl h2)]
    show (if _ then 66 else 0) + (if _ then 66 else 0) + (if v 7 = -1 then 0 else 3) + (if v 9 = -1 then 0 else 3) ≤ _
    split <;> split <;> omega
  · rw [if_neg e]
    exact Nat.le_refl _
theorem fi_de {v : Nat → Int32} {s h : Int32} : fi (dev v s h) ≤ fi v := by
  unfold dev
  by_cases e : v 1 = nI 2
  · rw [if_pos e]
    exact Nat.le_refl _
  · rw [if_neg e]
    unfold fi
    rw [if_pos (show ¬ v 1 = nI 2 ∨ ¬ v 6 = -1 from Or.inl e)]
    show (if nI 2 = 0 ∨ ¬ (-1 : Int32) = -1 then 66 else 0) + (if _ then 66 else 0) + (if v 7 = -1 then 0 else 3) + (if v 9 = -1 then 0 else 3) ≤ _
    rw [if_neg (fun c => c.elim nI02 (fun d => d rfl))]
    split <;> split <;> omega
theorem fi_up7 {v : Nat → Int32} (h : ¬ v 7 = -1) : fi (up v 7 (-1)) + 3 = fi v := by
  have e : fi v = (if v 1 = 0 ∨ ¬ v 5 = -1 then 66 else 0) + (if ¬ v 1 = nI 2 ∨ ¬ v 6 = -1 then 66 else 0) + (if v 7 = -1 then 0 else 3) + (if v 9 = -1 then 0 else 3) := rfl
  have e' : fi (up v 7 (-1)) = (if v 1 = 0 ∨ ¬ v 5 = -1 then 66 else 0) + (if ¬ v 1 = nI 2 ∨ ¬ v 6 = -1 then 66 else 0) + 0 + (if v 9 = -1 then 0 else 3) := rfl
  rw [e, e', if_neg h]
  omega
theorem fi_up9 {v : Nat → Int32} (h : ¬ v 9 = -1) : fi (up v 9 (-1)) + 3 = fi v := by
  have e : fi v = (if v 1 = 0 ∨ ¬ v 5 = -1 then 66 else 0) + (if ¬ v 1 = nI 2 ∨ ¬ v 6 = -1 then 66 else 0) + (if v 7 = -1 then 0 else 3) + (if v 9 = -1 then 0 else 3) := rfl
  have e' : fi (up v 9 (-1)) = (if v 1 = 0 ∨ ¬ v 5 = -1 then 66 else 0) + (if ¬ v 1 = nI 2 ∨ ¬ v 6 = -1 then 66 else 0) + (if v 7 = -1 then 0 else 3) + 0 := rfl
  rw [e, e', if_neg h]
theorem fi_h1 {v : Nat → Int32} {s h : Int32} (hh : ¬ h = -1) : fi (h1v v s h) + (if v 7 = h then 3 else 0) ≤ fi v := by
  unfold h1v
  by_cases e : v 7 = h
  · rw [if_pos e, if_pos e]
    have := fi_up7 (v := v) (by rw [e]; exact hh)
    have := fi_br (v := up v 7 (-1)) (s := s) (p := v 8) (h := h)
    omega
  · rw [if_neg e, if_neg e]
    omega
theorem fi_d1 {v : Nat → Int32} {s h : Int32} (hh : ¬ h = -1) : fi (d1v v s h) + (if v 9 = h then 3 else 0) ≤ fi v := by
  unfold d1v
  by_cases e : v 9 = h
  · rw [if_pos e, if_pos e]
    have := fi_up9 (v := v) (by rw [e]; exact hh)
    have := fi_de (v := up v 9 (-1)) (s := s) (h := h)
    omega
  · rw [if_neg e, if_neg e]
    omega
theorem h1v_9 {v : Nat → Int32} {s h : Int32} : h1v v s h 9 = v 9 := by
  unfold h1v
  split
  · unfold brv
    split
    · rfl
    · rfl
  · rfl
def sm (a : Nat → Nat) : Nat → Nat
  | 0 => 0
  | n + 1 => sm a n + a n
theorem sm_le {a b : Nat → Nat} : ∀ n, (∀ f, f < n → a f ≤ b f) → sm a n ≤ sm b n := by
  intro n
  induction n with
  | zero => intro _; exact Nat.le_refl _
  | succ n ih =>
    intro h
    have := ih (fun f hf => h f (by omega))
    have := h n (by omega)
    show sm a n + a n ≤ sm b n + b n
    omega
theorem sm_add {a b : Nat → Nat} : ∀ n, sm (fun f => a f + b f) n = sm a n + sm b n := by
  intro n
  induction n with
  | zero => rfl
  | succ n ih =>
    show sm (fun f => a f + b f) n + (a n + b n) = (sm a n + a n) + (sm b n + b n)
    omega
theorem sm_one {a : Nat → Nat} {f x : Nat} : ∀ n, f < n → x ≤ a f → x ≤ sm a n := by
  intro n
  induction n with
  | zero => intro h; omega
  | succ n ih =>
    intro h hx
    show x ≤ sm a n + a n
    by_cases e : f = n
    · subst e; omega
    · have := ih (by omega) hx
      omega
theorem sm_cg {a b : Nat → Nat} (n : Nat) (h : ∀ f, f < n → a f = b f) : sm a n = sm b n := Nat.le_antisymm (sm_le n (fun f hf => Nat.le_of_eq (h f hf))) (sm_le n (fun f hf => Nat.le_of_eq (h f hf).symm))
/-- one floor pays, the others get at most x each -/
theorem sm_pay {a b : Nat → Nat} {f x y : Nat} : ∀ n, f < n → (∀ c, c < n → c ≠ f → b c ≤ a c + x) → b f + y ≤ a f → sm b n + y ≤ sm a n + x * (n - 1) := by
  intro n
  induction n with
  | zero => intro h; omega
  | succ n ih =>
    intro h h1 h2
    show sm b n + b n + y ≤ sm a n + a n + x * n
    by_cases e : f = n
    · subst e
      have : sm b f ≤ sm a f + x * f := by
        have h3 := sm_le (a := b) (b := fun c => a c + x) f (fun c hc => h1 c (by omega) (by omega))
        rw [sm_add] at h3
        have h4 : ∀ m, sm (fun _ => x) m = x * m := fun m => by
          induction m with
          | zero => rfl
          | succ m ih => show sm (fun _ => x) m + x = x * (m + 1); rw [ih, Nat.mul_succ]
        rw [h4] at h3
        exact h3
      omega
    · have h3 := ih (by omega) (fun c hc hne => h1 c (by omega) hne) h2
      have h4 := h1 n (by omega) (fun c => e c.symm)
      have : x * (n - 1) + x = x * n := by
        obtain ⟨k, rfl⟩ : ∃ k, n = k + 1 := ⟨n - 1, by omega⟩
        rw [Nat.mul_succ]
        rfl
      omega
/-- what a rumour costs still -/
def Fi (C : Nat → Nat → Int32) (r N : Nat) : Nat := sm (fun f => fi (cl C r f)) N
def any7 (C : Nat → Nat → Int32) (r N : Nat) (h : Int32) : Prop := ∃ f, f < N ∧ C (r + 7) f = h
def any9 (C : Nat → Nat → Int32) (r N : Nat) (h : Int32) : Prop := ∃ f, f < N ∧ C (r + 9) f = h
theorem Fi_hr {C : Nat → Nat → Int32} {r N : Nat} {h : Int32} (hr : 4 ≤ r) (hh : ¬ h = -1) : sm (fun f => (if C (r + 7) f = h then 3 else 0) + (if C (r + 9) f = h then 3 else 0)) N + Fi (hrV r h N 0 C) r N ≤ Fi C r N := by
  unfold Fi
  rw [← sm_add]
  refine sm_le N (fun f hf => ?_)
  show ((if C (r + 7) f = h then 3 else 0) + (if C (r + 9) f = h then 3 else 0)) + fi (cl (hrV r h N 0 C) r f) ≤ fi (cl C r f)
  have ec := cl_hrV (h := h) hr N 0 C f
  rw [if_pos ⟨Nat.zero_le _, by omega⟩] at ec
  rw [ec]
  have h1 := fi_h1 (v := cl C r f) (s := C 3 f) hh
  have h2 := fi_d1 (v := h1v (cl C r f) (C 3 f) h) (s := C 3 f) hh
  rw [h1v_9] at h2
  have e7 : cl C r f 7 = C (r + 7) f := rfl
  have e9 : cl C r f 9 = C (r + 9) f := rfl
  rw [e7] at h1
  rw [e9] at h2
  omega
