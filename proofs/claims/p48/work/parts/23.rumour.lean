/-! ===== a rumour at the places r .. r + 9 ===== -/
/-- the rumour is brought to floor f by p pipes in hour h -/
def brR (V : Nat → Nat → Int32) (r f : Nat) (p h : Int32) : Nat → Nat → Int32 := if V (r + 1) f = 0 then jv_U (jv_U (jv_U (jv_U V (r + 1) f (nI 1)) (r + 2) f h) (r + 4) f p) (r + 5) f (h + V 3 f) else V
/-- the denial is brought to floor f in hour h -/
def brD (V : Nat → Nat → Int32) (r f : Nat) (h : Int32) : Nat → Nat → Int32 := if V (r + 1) f = nI 2 then V else jv_U (jv_U (jv_U (jv_U V (r + 1) f (nI 2)) (r + 3) f h) (r + 6) f (h + V 3 f / nI 2)) (r + 5) f (-1)
def h1R (V : Nat → Nat → Int32) (r f : Nat) (h : Int32) : Nat → Nat → Int32 := if V (r + 7) f = h then brR (jv_U V (r + 7) f (-1)) r f (jv_U V (r + 7) f (-1) (r + 8) f) h else V
def h1D (V : Nat → Nat → Int32) (r f : Nat) (h : Int32) : Nat → Nat → Int32 := if V (r + 9) f = h then brD (jv_U V (r + 9) f (-1)) r f h else V
def hr1 (V : Nat → Nat → Int32) (r f : Nat) (h : Int32) : Nat → Nat → Int32 := h1D (h1R V r f h) r f h
def hnw (V : Nat → Nat → Int32) (r f : Nat) (h a : Int32) : Int32 := if V (r + 7) f = h then a + bz (decide (jv_U V (r + 7) f (-1) (r + 1) f = 0)) else a
def hrV (r : Nat) (h : Int32) : Nat → Nat → (Nat → Nat → Int32) → (Nat → Nat → Int32)
  | 0, _, V => V
  | m + 1, i, V => hrV r h m (i + 1) (hr1 V r i h)
def hrN (r : Nat) (h : Int32) : Nat → Nat → (Nat → Nat → Int32) → Int32 → Int32
  | 0, _, _, a => a
  | m + 1, i, V, a => hrN r h m (i + 1) (hr1 V r i h) (hnw V r i h a)
/-- what floor f tells on reaches floor i -/
def tr1 (V : Nat → Nat → Int32) (r f i : Nat) (p h : Int32) : Nat → Nat → Int32 := if ¬ V (8 + f) i = -1 ∧ (V (r + 7) i = -1 ∨ h + V (8 + f) i < V (r + 7) i ∨ (h + V (8 + f) i = V (r + 7) i ∧ p < V (r + 8) i)) then jv_U (jv_U V (r + 7) i (h + V (8 + f) i)) (r + 8) i p else V
def trL (r f : Nat) (p h : Int32) : Nat → Nat → (Nat → Nat → Int32) → (Nat → Nat → Int32)
  | 0, _, V => V
  | m + 1, i, V => trL r f p h m (i + 1) (tr1 V r f i p h)
def telR (V : Nat → Nat → Int32) (r N f : Nat) (h : Int32) : Nat → Nat → Int32 := if V (r + 4) f + nI 1 ≤ V r 1 then trL r f (V (r + 4) f + nI 1) h N 0 V else V
def td1 (V : Nat → Nat → Int32) (r f i : Nat) (h : Int32) : Nat → Nat → Int32 := if ¬ V (8 + f) i = -1 ∧ (V (r + 9) i = -1 ∨ h + V (8 + f) i < V (r + 9) i) then jv_U V (r + 9) i (h + V (8 + f) i) else V
def tdL (r f : Nat) (h : Int32) : Nat → Nat → (Nat → Nat → Int32) → (Nat → Nat → Int32)
  | 0, _, V => V
  | m + 1, i, V => tdL r f h m (i + 1) (td1 V r f i h)
def t1R (V : Nat → Nat → Int32) (r N f : Nat) (h : Int32) : Nat → Nat → Int32 := if V (r + 5) f = h then telR (jv_U V (r + 5) f (-1)) r N f h else V
def t1D (V : Nat → Nat → Int32) (r N f : Nat) (h : Int32) : Nat → Nat → Int32 := if V (r + 6) f = h then tdL r f h N 0 (jv_U V (r + 6) f (-1)) else V
def te1 (V : Nat → Nat → Int32) (r N f : Nat) (h : Int32) : Nat → Nat → Int32 := t1D (t1R V r N f h) r N f h
def teL (r N : Nat) (h : Int32) : Nat → Nat → (Nat → Nat → Int32) → (Nat → Nat → Int32)
  | 0, _, V => V
  | m + 1, i, V => teL r N h m (i + 1) (te1 V r N i h)
/-- an hour of the rumour -/
def phV (V : Nat → Nat → Int32) (r N : Nat) (h : Int32) : Nat → Nat → Int32 := teL r N h N 0 (hrV r h N 0 V)
def phN (V : Nat → Nat → Int32) (r N : Nat) (h : Int32) : Int32 := hrN r h N 0 V (nI 0)
def uwB (V : Nat → Nat → Int32) (r i : Nat) : Bool := decide (¬ V (r + 7) i = -1 ∨ ¬ V (r + 9) i = -1)
def quL (V : Nat → Nat → Int32) (r : Nat) : Nat → Nat → Bool
  | 0, _ => true
  | m + 1, i => if V (r + 5) i = -1 ∧ V (r + 6) i = -1 ∧ uwB V r i = false then quL V r m (i + 1) else false
def laV (r N : Nat) (h : Int32) : Nat → Nat → (Nat → Nat → Int32) → (Nat → Nat → Int32)
  | 0, _, V => V
  | m + 1, p, V => if quL V r N 0 = true then V else laV r N h m (p + 1) (phV V r N (h + nI p))
def laC (r N : Nat) (h : Int32) : Nat → Nat → (Nat → Nat → Int32) → Nat
  | 0, p, _ => p
  | m + 1, p, V => if quL V r N 0 = true then p else laC r N h m (p + 1) (phV V r N (h + nI p))
def hbL (V : Nat → Nat → Int32) (r : Nat) : Nat → Nat → Int32 → Int32
  | 0, _, a => a
  | m + 1, i, a => hbL V r m (i + 1) (if V (r + 1) i = nI 1 then a + V 2 i else a)
/-! what they leave as it was -/
def Rout (r q : Nat) : Prop := q < r + 1 ∨ r + 9 < q
theorem brR_out {V : Nat → Nat → Int32} {r f q : Nat} {p h : Int32} (h1 : Rout r q) : brR V r f p h q = V q := by
  have h1 : q < r + 1 ∨ r + 9 < q := h1
  unfold brR
  split
  · rw [jv_U_other (by omega), jv_U_other (by omega), jv_U_other (by omega), jv_U_other (by omega)]
  · rfl
theorem brD_out {V : Nat → Nat → Int32} {r f q : Nat} {h : Int32} (h1 : Rout r q) : brD V r f h q = V q := by
  have h1 : q < r + 1 ∨ r + 9 < q := h1
  unfold brD
  split
  · rfl
  · rw [jv_U_other (by omega), jv_U_other (by omega), jv_U_other (by omega), jv_U_other (by omega)]
theorem hr1_out {V : Nat → Nat → Int32} {r f q : Nat} {h : Int32} (h1 : Rout r q) : hr1 V r f h q = V q := by
  have h2 : q < r + 1 ∨ r + 9 < q := h1
  have e : ∀ W, h1R W r f h q = W q := by
    intro W
    unfold h1R
    split
    · rw [brR_out h1, jv_U_other (by omega)]
    · rfl
  unfold hr1 h1D
  split
  · rw [brD_out h1, jv_U_other (by omega), e]
  · rw [e]
theorem hrV_out {r q : Nat} {h : Int32} (h1 : Rout r q) : ∀ m i V, hrV r h m i V q = V q := by
  intro m
  induction m with
  | zero => intro i V; rfl
  | succ m ih =>
    intro i V
    show hrV r h m (i + 1) _ q = _
    rw [ih, hr1_out h1]
theorem tr1_out {V : Nat → Nat → Int32} {r f i q : Nat} {p h : Int32} (h1 : Rout r q) : tr1 V r f i p h q = V q := by
  have h1 : q < r + 1 ∨ r + 9 < q := h1
  unfold tr1
  split
  · rw [jv_U_other (by omega), jv_U_other (by omega)]
  · rfl
theorem trL_out {r f q : Nat} {p h : Int32} (h1 : Rout r q) : ∀ m i V, trL r f p h m i V q = V q := by
  intro m
  induction m with
  | zero => intro i V; rfl
  | succ m ih =>
    intro i V
    show trL r f p h m (i + 1) _ q = _
    rw [ih, tr1_out h1]
theorem td1_out {V : Nat → Nat → Int32} {r f i q : Nat} {h : Int32} (h1 : Rout r q) : td1 V r f i h q = V q := by
  have h1 : q < r + 1 ∨ r + 9 < q := h1
  unfold td1
  split
  · rw [jv_U_other (by omega)]
  · rfl
theorem tdL_out {r f q : Nat} {h : Int32} (h1 : Rout r q) : ∀ m i V, tdL r f h m i V q = V q := by
  intro m
  induction m with
  | zero => intro i V; rfl
  | succ m ih =>
    intro i V
    show tdL r f h m (i + 1) _ q = _
    rw [ih, td1_out h1]
theorem te1_out {V : Nat → Nat → Int32} {r N f q : Nat} {h : Int32} (h1 : Rout r q) : te1 V r N f h q = V q := by
  have h2 : q < r + 1 ∨ r + 9 < q := h1
  have e : ∀ W, t1R W r N f h q = W q := by
    intro W
    unfold t1R
    split
    · unfold telR
      split
      · rw [trL_out h1, jv_U_other (by omega)]
      · rw [jv_U_other (by omega)]
    · rfl
  unfold te1 t1D
  split
  · rw [tdL_out h1, jv_U_other (by omega), e]
  · rw [e]
theorem teL_out {r N q : Nat} {h : Int32} (h1 : Rout r q) : ∀ m i V, teL r N h m i V q = V q := by
  intro m
  induction m with
  | zero => intro i V; rfl
  | succ m ih =>
    intro i V
    show teL r N h m (i + 1) _ q = _
    rw [ih, te1_out h1]
theorem phV_out {V : Nat → Nat → Int32} {r N q : Nat} {h : Int32} (h1 : Rout r q) : phV V r N h q = V q := by
  unfold phV
  rw [teL_out h1, hrV_out h1]
theorem laV_out {r N q : Nat} {h : Int32} (h1 : Rout r q) : ∀ m p V, laV r N h m p V q = V q := by
  intro m
  induction m with
  | zero => intro p V; rfl
  | succ m ih =>
    intro p V
    unfold laV
    split
    · rfl
    · rw [ih, phV_out h1]
theorem Rout.lo {r q : Nat} (hr : isRum r) (h : q < 33) : Rout r q := Or.inl (by have := hr.lo; omega)

set_option maxHeartbeats 4000000 in
set_option maxRecDepth 100000 in
theorem c_bringRumour {sx : Nat → jv_S} {g : jv_G} {X : jv_X} {T : jv_T} {n : Nat} {V : Nat → Nat → Int32} {L : Nat → Nat → Int64} {k z : Nat} {r f : Nat} {p h : Int32} (hr : isRum r) (hf : f < 12) (hM : jv_M g X T) (hT : T (.inl (some (.int (bz (decide (V (r + 1) f = 0)))))) n (SH sx) (brR V r f p h) L) : jv_J g X I_X1_bringRumour 0 [some (jv_r g r), some (jv_r g 1), some (.int (nI f)), some (.int p), some (.int h)] [] n (SH sx) V L k z := by
  have hr3 := hr.lo
  refine j_aload_n_0 dX1_bringRumour_0 ?_
  refine G_X1_18 rfl dX1_bringRumour_1 (sk_rum hr) (sr_rum_2 hr) ?_
  refine j_iload_n_2 dX1_bringRumour_4 ?_
  refine j_iald dX1_bringRumour_5 (sk_rua_1 hr) (sn_rua_1 hr) (by omega) (by decide) ?_
  refine j_if_eq (tgt := 11) dX1_bringRumour_6 (by decide) (fun h6 => ?_) (fun h6 => ?_)
  · refine j_aload_n_0 dX1_bringRumour_11 ?_
    refine G_X1_18 rfl dX1_bringRumour_12 (sk_rum hr) (sr_rum_2 hr) ?_
    refine j_iload_n_2 dX1_bringRumour_15 ?_
    refine j_iconst (v := nI 1) dX1_bringRumour_16 nc_iconst_1 ?_
    refine j_iast dX1_bringRumour_17 (sk_rua_1 hr) (sn_rua_1 hr) (by omega) (by decide) ?_
    refine j_aload_n_0 dX1_bringRumour_18 ?_
    refine G_X1_22 rfl dX1_bringRumour_19 (sk_rum hr) (sr_rum_3 hr) ?_
    refine j_iload_n_2 dX1_bringRumour_22 ?_
    refine j_iload_4 dX1_bringRumour_23 ?_
    refine j_iast dX1_bringRumour_25 (sk_rua_2 hr) (sn_rua_2 hr) (by omega) (by decide) ?_
    refine j_aload_n_0 dX1_bringRumour_26 ?_
    refine G_X1_28 rfl dX1_bringRumour_27 (sk_rum hr) (sr_rum_5 hr) ?_
    refine j_iload_n_2 dX1_bringRumour_30 ?_
    refine j_iload_n_3 dX1_bringRumour_31 ?_
    refine j_iast dX1_bringRumour_32 (sk_rua_4 hr) (sn_rua_4 hr) (by omega) (by decide) ?_
    refine j_aload_n_0 dX1_bringRumour_33 ?_
    refine G_X1_31 rfl dX1_bringRumour_34 (sk_rum hr) (sr_rum_6 hr) ?_
    refine j_iload_n_2 dX1_bringRumour_37 ?_
    refine j_iload_4 dX1_bringRumour_38 ?_
    refine j_aload_n_1 dX1_bringRumour_40 ?_
    refine G_X1_56 rfl dX1_bringRumour_41 sk_1 sr_1_3 ?_
    refine j_iload_n_2 dX1_bringRumour_44 ?_
    refine j_iald dX1_bringRumour_45 sk_3 sn_3 (by omega) (by decide) ?_
    refine j_top (y := V 3 f) (by rw [jv_Une (by omega), jv_Une (by omega), jv_Une (by omega)]) ?_
    refine j_iadd dX1_bringRumour_46 ?_
    refine j_iast dX1_bringRumour_47 (sk_rua_5 hr) (sn_rua_5 hr) (by omega) (by decide) ?_
    refine j_iconst (v := nI 1) dX1_bringRumour_48 nc_iconst_1 ?_
    exact j_zret hM dX1_bringRumour_49 rfl (jv_b01 (by first | exact Or.inl rfl | exact Or.inr rfl | assumption)) (by unfold brR at hT; rw [if_pos h6, show bz (decide (V (r + 1) f = 0)) = nI 1 by unfold bz; rw [if_pos (by simp only [h6, decide_true])]] at hT; exact hT)
  · refine j_iconst (v := nI 0) dX1_bringRumour_9 nc_iconst_0 ?_
    exact j_zret hM dX1_bringRumour_10 rfl (jv_b01 (by first | exact Or.inl rfl | exact Or.inr rfl | assumption)) (by rw [show brR V r f p h = V by unfold brR; rw [if_neg h6], show bz (decide (V (r + 1) f = 0)) = nI 0 by unfold bz; rw [if_neg (by simp only [h6, decide_false, Bool.false_eq_true, not_false_eq_true])]] at hT; exact hT)

set_option maxHeartbeats 4000000 in
set_option maxRecDepth 100000 in
theorem c_bringDenial {sx : Nat → jv_S} {g : jv_G} {X : jv_X} {T : jv_T} {n : Nat} {V : Nat → Nat → Int32} {L : Nat → Nat → Int64} {k z : Nat} {r f : Nat} {h : Int32} (hr : isRum r) (hf : f < 12) (hM : jv_M g X T) (hT : T (.inl none) n (SH sx) (brD V r f h) L) : jv_J g X I_X1_bringDenial 0 [some (jv_r g r), some (jv_r g 1), some (.int (nI f)), some (.int h)] [] n (SH sx) V L k z := by
  have hr3 := hr.lo
  refine j_aload_n_0 dX1_bringDenial_0 ?_
  refine G_X1_18 rfl dX1_bringDenial_1 (sk_rum hr) (sr_rum_2 hr) ?_
  refine j_iload_n_2 dX1_bringDenial_4 ?_
  refine j_iald dX1_bringDenial_5 (sk_rua_1 hr) (sn_rua_1 hr) (by omega) (by decide) ?_
  refine j_iconst (v := nI 2) dX1_bringDenial_6 nc_iconst_2 ?_
  refine j_ic_ne (tgt := 11) dX1_bringDenial_7 (by decide) (fun h7 => ?_) (fun h7 => ?_)
  · refine j_aload_n_0 dX1_bringDenial_11 ?_
    refine G_X1_18 rfl dX1_bringDenial_12 (sk_rum hr) (sr_rum_2 hr) ?_
    refine j_iload_n_2 dX1_bringDenial_15 ?_
    refine j_iconst (v := nI 2) dX1_bringDenial_16 nc_iconst_2 ?_
    refine j_iast dX1_bringDenial_17 (sk_rua_1 hr) (sn_rua_1 hr) (by omega) (by decide) ?_
    refine j_aload_n_0 dX1_bringDenial_18 ?_
    refine G_X1_25 rfl dX1_bringDenial_19 (sk_rum hr) (sr_rum_4 hr) ?_
    refine j_iload_n_2 dX1_bringDenial_22 ?_
    refine j_iload_n_3 dX1_bringDenial_23 ?_
    refine j_iast dX1_bringDenial_24 (sk_rua_3 hr) (sn_rua_3 hr) (by omega) (by decide) ?_
    refine j_aload_n_0 dX1_bringDenial_25 ?_
    refine G_X1_34 rfl dX1_bringDenial_26 (sk_rum hr) (sr_rum_7 hr) ?_
    refine j_iload_n_2 dX1_bringDenial_29 ?_
    refine j_iload_n_3 dX1_bringDenial_30 ?_
    refine j_aload_n_1 dX1_bringDenial_31 ?_
    refine G_X1_56 rfl dX1_bringDenial_32 sk_1 sr_1_3 ?_
    refine j_iload_n_2 dX1_bringDenial_35 ?_
    refine j_iald dX1_bringDenial_36 sk_3 sn_3 (by omega) (by decide) ?_
    refine j_top (y := V 3 f) (by rw [jv_Une (by omega), jv_Une (by omega)]) ?_
    refine j_iconst (v := nI 2) dX1_bringDenial_37 nc_iconst_2 ?_
    refine j_idiv (by decide +kernel) dX1_bringDenial_38 ?_
    refine j_iadd dX1_bringDenial_39 ?_
    refine j_iast dX1_bringDenial_40 (sk_rua_6 hr) (sn_rua_6 hr) (by omega) (by decide) ?_
    refine j_aload_n_0 dX1_bringDenial_41 ?_
    refine G_X1_31 rfl dX1_bringDenial_42 (sk_rum hr) (sr_rum_6 hr) ?_
    refine j_iload_n_2 dX1_bringDenial_45 ?_
    refine j_iconst (v := -1) dX1_bringDenial_46 nc_iconst_m1 ?_
    refine j_iast dX1_bringDenial_47 (sk_rua_5 hr) (sn_rua_5 hr) (by omega) (by decide) ?_
    exact j_vret hM dX1_bringDenial_48 rfl (by unfold brD at hT; rw [if_neg h7] at hT; exact hT)
  · exact j_vret hM dX1_bringDenial_10 rfl (by unfold brD at hT; rw [if_pos h7] at hT; exact hT)

set_option maxHeartbeats 4000000 in
set_option maxRecDepth 100000 in
theorem c_telR_loop {sx : Nat → jv_S} {g : jv_G} {X : jv_X} {T : jv_T} {n : Nat} {V : Nat → Nat → Int32} {L : Nat → Nat → Int64} {k z : Nat} {r N f : Nat} {p h : Int32} (hr : isRum r) (hb : N ≤ 12) (hf : f < N) (hM : jv_M g X T) : ∀ (m : Nat) (i : Nat) (V : (Nat → Nat → Int32)) (v6 v7 : Option Value), V 1 0 = nI N → i ≤ N → N + 1 ≤ i + m → T (.inl none) n (SH sx) (trL r f p h (N - i) i V) L → jv_J g X I_X1_tellRumour 23 [some (jv_r g r), some (jv_r g 1), some (.int (nI f)), some (.int h), some (.int p), some (.int (nI i)), v6, v7] [] n (SH sx) V L k z := by
  intro m
  induction m with
  | zero => intro i V v6 v7 hN hi him hT; omega
  | succ m ih =>
  intro i V v6 v7 hN hi him hT
  refine j_iload_5 dX1_tellRumour_23 ?_
  refine j_aload_n_1 dX1_tellRumour_25 ?_
  refine G_X1_61 rfl dX1_tellRumour_26 sk_1 ?_
  refine j_top (y := nI N) hN ?_
  refine j_ic_geN (by omega) (by omega) (tgt := 141) dX1_tellRumour_29 (by decide) (fun h29 => ?_) (fun h29 => ?_)
  · exact j_vret hM dX1_tellRumour_141 rfl (by rw [show N - i = 0 by omega] at hT; exact hT)
  · refine j_iload_n_3 dX1_tellRumour_32 ?_
    refine j_aload_n_1 dX1_tellRumour_33 ?_
    refine G_X1_74 rfl dX1_tellRumour_34 sk_1 sr_1_7 ?_
    refine j_iload_n_2 dX1_tellRumour_37 ?_
    refine jv_aald (t := 5) (fun _ => rfl) rfl (by decide) (by decide) dX1_tellRumour_38 sk_7 sn_7 (by omega) (by decide) (sr_row (by omega)) ?_
    refine j_iload_5 dX1_tellRumour_39 ?_
    refine j_iald dX1_tellRumour_41 (sk_row (by omega)) (sn_row (by omega)) (by omega) (by decide) ?_
    refine j_iadd dX1_tellRumour_42 ?_
    refine j_istore_6 rfl (by decide) dX1_tellRumour_43 ?_
    refine j_aload_n_0 dX1_tellRumour_45 ?_
    refine G_X1_37 rfl dX1_tellRumour_46 (sk_rum hr) (sr_rum_8 hr) ?_
    refine j_iload_5 dX1_tellRumour_49 ?_
    refine j_iald dX1_tellRumour_51 (sk_rua_7 hr) (sn_rua_7 hr) (by omega) (by decide) ?_
    refine j_iconst (v := -1) dX1_tellRumour_52 nc_iconst_m1 ?_
    refine j_ic_eq (tgt := 92) dX1_tellRumour_53 (by decide) (fun h53 => ?_) (fun h53 => ?_)
    · refine j_iconst (v := nI 1) dX1_tellRumour_92 nc_iconst_1 ?_
      refine j_goto (tgt := 97) dX1_tellRumour_93 (by decide) ?_
      refine j_istore_7 rfl (by decide) dX1_tellRumour_97 ?_
      refine j_aload_n_1 dX1_tellRumour_99 ?_
      refine G_X1_74 rfl dX1_tellRumour_100 sk_1 sr_1_7 ?_
      refine j_iload_n_2 dX1_tellRumour_103 ?_
      refine jv_aald (t := 5) (fun _ => rfl) rfl (by decide) (by decide) dX1_tellRumour_104 sk_7 sn_7 (by omega) (by decide) (sr_row (by omega)) ?_
      refine j_iload_5 dX1_tellRumour_105 ?_
      refine j_iald dX1_tellRumour_107 (sk_row (by omega)) (sn_row (by omega)) (by omega) (by decide) ?_
      refine j_iconst (v := -1) dX1_tellRumour_108 nc_iconst_m1 ?_
      refine j_ic_eq (tgt := 135) dX1_tellRumour_109 (by decide) (fun h109 => ?_) (fun h109 => ?_)
      · refine j_inc1_5 rfl (by decide) dX1_tellRumour_135 ?_
        refine j_goto (tgt := 23) dX1_tellRumour_138 (by decide) ?_
        refine ih (i + 1) _ _ _ (by have := tr1_out (V := V) (f := f) (i := i) (p := p) (h := h) (Rout.lo hr (show 1 < 33 by omega)); unfold tr1 at this; rw [if_neg (fun c => c.1 h109)] at this; rw [this]; exact hN) (by omega) (by omega) ?_
        rw [show N - i = (N - (i + 1)) + 1 by omega] at hT
        unfold trL tr1 at hT
        rw [if_neg (fun c => c.1 h109)] at hT
        exact hT
      · refine j_iload_7 dX1_tellRumour_112 ?_
        refine j_if_eq (tgt := 135) dX1_tellRumour_114 (by decide) (fun h114 => ?_) (fun h114 => ?_)
        · exact absurd h114 (by decide +kernel)
        · refine j_aload_n_0 dX1_tellRumour_117 ?_
          refine G_X1_37 rfl dX1_tellRumour_118 (sk_rum hr) (sr_rum_8 hr) ?_
          refine j_iload_5 dX1_tellRumour_121 ?_
          refine j_iload_6 dX1_tellRumour_123 ?_
          refine j_iast dX1_tellRumour_125 (sk_rua_7 hr) (sn_rua_7 hr) (by omega) (by decide) ?_
          refine j_aload_n_0 dX1_tellRumour_126 ?_
          refine G_X1_40 rfl dX1_tellRumour_127 (sk_rum hr) (sr_rum_9 hr) ?_
          refine j_iload_5 dX1_tellRumour_130 ?_
          refine j_iload_4 dX1_tellRumour_132 ?_
          refine j_iast dX1_tellRumour_134 (sk_rua_8 hr) (sn_rua_8 hr) (by omega) (by decide) ?_
          refine j_inc1_5 rfl (by decide) dX1_tellRumour_135 ?_
          refine j_goto (tgt := 23) dX1_tellRumour_138 (by decide) ?_
          refine ih (i + 1) _ _ _ (by have := tr1_out (V := V) (f := f) (i := i) (p := p) (h := h) (Rout.lo hr (show 1 < 33 by omega)); unfold tr1 at this; rw [if_pos ⟨h109, Or.inl h53⟩] at this; rw [this]; exact hN) (by omega) (by omega) ?_
          rw [show N - i = (N - (i + 1)) + 1 by omega] at hT
          unfold trL tr1 at hT
          rw [if_pos ⟨h109, Or.inl h53⟩] at hT
          exact hT
    · refine j_iload_6 dX1_tellRumour_56 ?_
      refine j_aload_n_0 dX1_tellRumour_58 ?_
      refine G_X1_37 rfl dX1_tellRumour_59 (sk_rum hr) (sr_rum_8 hr) ?_
      refine j_iload_5 dX1_tellRumour_62 ?_
      refine j_iald dX1_tellRumour_64 (sk_rua_7 hr) (sn_rua_7 hr) (by omega) (by decide) ?_
      refine j_ic_lt (tgt := 92) dX1_tellRumour_65 (by decide) (fun h65 => ?_) (fun h65 => ?_)
      · refine j_iconst (v := nI 1) dX1_tellRumour_92 nc_iconst_1 ?_
        refine j_goto (tgt := 97) dX1_tellRumour_93 (by decide) ?_
        refine j_istore_7 rfl (by decide) dX1_tellRumour_97 ?_
        refine j_aload_n_1 dX1_tellRumour_99 ?_
        refine G_X1_74 rfl dX1_tellRumour_100 sk_1 sr_1_7 ?_
        refine j_iload_n_2 dX1_tellRumour_103 ?_
        refine jv_aald (t := 5) (fun _ => rfl) rfl (by decide) (by decide) dX1_tellRumour_104 sk_7 sn_7 (by omega) (by decide) (sr_row (by omega)) ?_
        refine j_iload_5 dX1_tellRumour_105 ?_
        refine j_iald dX1_tellRumour_107 (sk_row (by omega)) (sn_row (by omega)) (by omega) (by decide) ?_
        refine j_iconst (v := -1) dX1_tellRumour_108 nc_iconst_m1 ?_
        refine j_ic_eq (tgt := 135) dX1_tellRumour_109 (by decide) (fun h109 => ?_) (fun h109 => ?_)
        · refine j_inc1_5 rfl (by decide) dX1_tellRumour_135 ?_
          refine j_goto (tgt := 23) dX1_tellRumour_138 (by decide) ?_
          refine ih (i + 1) _ _ _ (by have := tr1_out (V := V) (f := f) (i := i) (p := p) (h := h) (Rout.lo hr (show 1 < 33 by omega)); unfold tr1 at this; rw [if_neg (fun c => c.1 h109)] at this; rw [this]; exact hN) (by omega) (by omega) ?_
          rw [show N - i = (N - (i + 1)) + 1 by omega] at hT
          unfold trL tr1 at hT
          rw [if_neg (fun c => c.1 h109)] at hT
          exact hT
        · refine j_iload_7 dX1_tellRumour_112 ?_
          refine j_if_eq (tgt := 135) dX1_tellRumour_114 (by decide) (fun h114 => ?_) (fun h114 => ?_)
          · exact absurd h114 (by decide +kernel)
          · refine j_aload_n_0 dX1_tellRumour_117 ?_
            refine G_X1_37 rfl dX1_tellRumour_118 (sk_rum hr) (sr_rum_8 hr) ?_
            refine j_iload_5 dX1_tellRumour_121 ?_
            refine j_iload_6 dX1_tellRumour_123 ?_
            refine j_iast dX1_tellRumour_125 (sk_rua_7 hr) (sn_rua_7 hr) (by omega) (by decide) ?_
            refine j_aload_n_0 dX1_tellRumour_126 ?_
            refine G_X1_40 rfl dX1_tellRumour_127 (sk_rum hr) (sr_rum_9 hr) ?_
            refine j_iload_5 dX1_tellRumour_130 ?_
            refine j_iload_4 dX1_tellRumour_132 ?_
            refine j_iast dX1_tellRumour_134 (sk_rua_8 hr) (sn_rua_8 hr) (by omega) (by decide) ?_
            refine j_inc1_5 rfl (by decide) dX1_tellRumour_135 ?_
            refine j_goto (tgt := 23) dX1_tellRumour_138 (by decide) ?_
            refine ih (i + 1) _ _ _ (by have := tr1_out (V := V) (f := f) (i := i) (p := p) (h := h) (Rout.lo hr (show 1 < 33 by omega)); unfold tr1 at this; rw [if_pos ⟨h109, Or.inr (Or.inl h65)⟩] at this; rw [this]; exact hN) (by omega) (by omega) ?_
            rw [show N - i = (N - (i + 1)) + 1 by omega] at hT
            unfold trL tr1 at hT
            rw [if_pos ⟨h109, Or.inr (Or.inl h65)⟩] at hT
            exact hT
      · refine j_iload_6 dX1_tellRumour_68 ?_
        refine j_aload_n_0 dX1_tellRumour_70 ?_
        refine G_X1_37 rfl dX1_tellRumour_71 (sk_rum hr) (sr_rum_8 hr) ?_
        refine j_iload_5 dX1_tellRumour_74 ?_
        refine j_iald dX1_tellRumour_76 (sk_rua_7 hr) (sn_rua_7 hr) (by omega) (by decide) ?_
        refine j_ic_ne (tgt := 96) dX1_tellRumour_77 (by decide) (fun h77 => ?_) (fun h77 => ?_)
        · refine j_iconst (v := nI 0) dX1_tellRumour_96 nc_iconst_0 ?_
          refine j_istore_7 rfl (by decide) dX1_tellRumour_97 ?_
          refine j_aload_n_1 dX1_tellRumour_99 ?_
          refine G_X1_74 rfl dX1_tellRumour_100 sk_1 sr_1_7 ?_
          refine j_iload_n_2 dX1_tellRumour_103 ?_
          refine jv_aald (t := 5) (fun _ => rfl) rfl (by decide) (by decide) dX1_tellRumour_104 sk_7 sn_7 (by omega) (by decide) (sr_row (by omega)) ?_
          refine j_iload_5 dX1_tellRumour_105 ?_
          refine j_iald dX1_tellRumour_107 (sk_row (by omega)) (sn_row (by omega)) (by omega) (by decide) ?_
          refine j_iconst (v := -1) dX1_tellRumour_108 nc_iconst_m1 ?_
          refine j_ic_eq (tgt := 135) dX1_tellRumour_109 (by decide) (fun h109 => ?_) (fun h109 => ?_)
          · refine j_inc1_5 rfl (by decide) dX1_tellRumour_135 ?_
            refine j_goto (tgt := 23) dX1_tellRumour_138 (by decide) ?_
            refine ih (i + 1) _ _ _ (by have := tr1_out (V := V) (f := f) (i := i) (p := p) (h := h) (Rout.lo hr (show 1 < 33 by omega)); unfold tr1 at this; rw [if_neg (fun c => c.1 h109)] at this; rw [this]; exact hN) (by omega) (by omega) ?_
            rw [show N - i = (N - (i + 1)) + 1 by omega] at hT
            unfold trL tr1 at hT
            rw [if_neg (fun c => c.1 h109)] at hT
            exact hT
          · refine j_iload_7 dX1_tellRumour_112 ?_
            refine j_if_eq (tgt := 135) dX1_tellRumour_114 (by decide) (fun h114 => ?_) (fun h114 => ?_)
            · refine j_inc1_5 rfl (by decide) dX1_tellRumour_135 ?_
              refine j_goto (tgt := 23) dX1_tellRumour_138 (by decide) ?_
              refine ih (i + 1) _ _ _ (by have := tr1_out (V := V) (f := f) (i := i) (p := p) (h := h) (Rout.lo hr (show 1 < 33 by omega)); unfold tr1 at this; rw [if_neg (fun c => c.2.elim h53 (fun c => c.elim h65 (fun c => h77 c.1)))] at this; rw [this]; exact hN) (by omega) (by omega) ?_
              rw [show N - i = (N - (i + 1)) + 1 by omega] at hT
              unfold trL tr1 at hT
              rw [if_neg (fun c => c.2.elim h53 (fun c => c.elim h65 (fun c => h77 c.1)))] at hT
              exact hT
            · exact absurd nI_0 h114
        · refine j_iload_4 dX1_tellRumour_80 ?_
          refine j_aload_n_0 dX1_tellRumour_82 ?_
          refine G_X1_40 rfl dX1_tellRumour_83 (sk_rum hr) (sr_rum_9 hr) ?_
          refine j_iload_5 dX1_tellRumour_86 ?_
          refine j_iald dX1_tellRumour_88 (sk_rua_8 hr) (sn_rua_8 hr) (by omega) (by decide) ?_
          refine j_ic_ge (tgt := 96) dX1_tellRumour_89 (by decide) (fun h89 => ?_) (fun h89 => ?_)
          · refine j_iconst (v := nI 0) dX1_tellRumour_96 nc_iconst_0 ?_
            refine j_istore_7 rfl (by decide) dX1_tellRumour_97 ?_
            refine j_aload_n_1 dX1_tellRumour_99 ?_
            refine G_X1_74 rfl dX1_tellRumour_100 sk_1 sr_1_7 ?_
            refine j_iload_n_2 dX1_tellRumour_103 ?_
            refine jv_aald (t := 5) (fun _ => rfl) rfl (by decide) (by decide) dX1_tellRumour_104 sk_7 sn_7 (by omega) (by decide) (sr_row (by omega)) ?_
            refine j_iload_5 dX1_tellRumour_105 ?_
            refine j_iald dX1_tellRumour_107 (sk_row (by omega)) (sn_row (by omega)) (by omega) (by decide) ?_
            refine j_iconst (v := -1) dX1_tellRumour_108 nc_iconst_m1 ?_
            refine j_ic_eq (tgt := 135) dX1_tellRumour_109 (by decide) (fun h109 => ?_) (fun h109 => ?_)
            · refine j_inc1_5 rfl (by decide) dX1_tellRumour_135 ?_
              refine j_goto (tgt := 23) dX1_tellRumour_138 (by decide) ?_
              refine ih (i + 1) _ _ _ (by have := tr1_out (V := V) (f := f) (i := i) (p := p) (h := h) (Rout.lo hr (show 1 < 33 by omega)); unfold tr1 at this; rw [if_neg (fun c => c.1 h109)] at this; rw [this]; exact hN) (by omega) (by omega) ?_
              rw [show N - i = (N - (i + 1)) + 1 by omega] at hT
              unfold trL tr1 at hT
              rw [if_neg (fun c => c.1 h109)] at hT
              exact hT
            · refine j_iload_7 dX1_tellRumour_112 ?_
              refine j_if_eq (tgt := 135) dX1_tellRumour_114 (by decide) (fun h114 => ?_) (fun h114 => ?_)
              · refine j_inc1_5 rfl (by decide) dX1_tellRumour_135 ?_
                refine j_goto (tgt := 23) dX1_tellRumour_138 (by decide) ?_
                refine ih (i + 1) _ _ _ (by have := tr1_out (V := V) (f := f) (i := i) (p := p) (h := h) (Rout.lo hr (show 1 < 33 by omega)); unfold tr1 at this; rw [if_neg (fun c => c.2.elim h53 (fun c => c.elim h65 (fun c => absurd c.2 (Int32.not_lt.mpr h89))))] at this; rw [this]; exact hN) (by omega) (by omega) ?_
                rw [show N - i = (N - (i + 1)) + 1 by omega] at hT
                unfold trL tr1 at hT
                rw [if_neg (fun c => c.2.elim h53 (fun c => c.elim h65 (fun c => absurd c.2 (Int32.not_lt.mpr h89))))] at hT
                exact hT
              · exact absurd nI_0 h114
          · refine j_iconst (v := nI 1) dX1_tellRumour_92 nc_iconst_1 ?_
            refine j_goto (tgt := 97) dX1_tellRumour_93 (by decide) ?_
            refine j_istore_7 rfl (by decide) dX1_tellRumour_97 ?_
            refine j_aload_n_1 dX1_tellRumour_99 ?_
            refine G_X1_74 rfl dX1_tellRumour_100 sk_1 sr_1_7 ?_
            refine j_iload_n_2 dX1_tellRumour_103 ?_
            refine jv_aald (t := 5) (fun _ => rfl) rfl (by decide) (by decide) dX1_tellRumour_104 sk_7 sn_7 (by omega) (by decide) (sr_row (by omega)) ?_
            refine j_iload_5 dX1_tellRumour_105 ?_
            refine j_iald dX1_tellRumour_107 (sk_row (by omega)) (sn_row (by omega)) (by omega) (by decide) ?_
            refine j_iconst (v := -1) dX1_tellRumour_108 nc_iconst_m1 ?_
            refine j_ic_eq (tgt := 135) dX1_tellRumour_109 (by decide) (fun h109 => ?_) (fun h109 => ?_)
            · refine j_inc1_5 rfl (by decide) dX1_tellRumour_135 ?_
              refine j_goto (tgt := 23) dX1_tellRumour_138 (by decide) ?_
              refine ih (i + 1) _ _ _ (by have := tr1_out (V := V) (f := f) (i := i) (p := p) (h := h) (Rout.lo hr (show 1 < 33 by omega)); unfold tr1 at this; rw [if_neg (fun c => c.1 h109)] at this; rw [this]; exact hN) (by omega) (by omega) ?_
              rw [show N - i = (N - (i + 1)) + 1 by omega] at hT
              unfold trL tr1 at hT
              rw [if_neg (fun c => c.1 h109)] at hT
              exact hT
            · refine j_iload_7 dX1_tellRumour_112 ?_
              refine j_if_eq (tgt := 135) dX1_tellRumour_114 (by decide) (fun h114 => ?_) (fun h114 => ?_)
              · exact absurd h114 (by decide +kernel)
              · refine j_aload_n_0 dX1_tellRumour_117 ?_
                refine G_X1_37 rfl dX1_tellRumour_118 (sk_rum hr) (sr_rum_8 hr) ?_
                refine j_iload_5 dX1_tellRumour_121 ?_
                refine j_iload_6 dX1_tellRumour_123 ?_
                refine j_iast dX1_tellRumour_125 (sk_rua_7 hr) (sn_rua_7 hr) (by omega) (by decide) ?_
                refine j_aload_n_0 dX1_tellRumour_126 ?_
                refine G_X1_40 rfl dX1_tellRumour_127 (sk_rum hr) (sr_rum_9 hr) ?_
                refine j_iload_5 dX1_tellRumour_130 ?_
                refine j_iload_4 dX1_tellRumour_132 ?_
                refine j_iast dX1_tellRumour_134 (sk_rua_8 hr) (sn_rua_8 hr) (by omega) (by decide) ?_
                refine j_inc1_5 rfl (by decide) dX1_tellRumour_135 ?_
                refine j_goto (tgt := 23) dX1_tellRumour_138 (by decide) ?_
                refine ih (i + 1) _ _ _ (by have := tr1_out (V := V) (f := f) (i := i) (p := p) (h := h) (Rout.lo hr (show 1 < 33 by omega)); unfold tr1 at this; rw [if_pos ⟨h109, Or.inr (Or.inr ⟨h77, Int32.not_le.mp h89⟩)⟩] at this; rw [this]; exact hN) (by omega) (by omega) ?_
                rw [show N - i = (N - (i + 1)) + 1 by omega] at hT
                unfold trL tr1 at hT
                rw [if_pos ⟨h109, Or.inr (Or.inr ⟨h77, Int32.not_le.mp h89⟩)⟩] at hT
                exact hT

set_option maxHeartbeats 4000000 in
set_option maxRecDepth 100000 in
theorem c_tellRumour {sx : Nat → jv_S} {g : jv_G} {X : jv_X} {T : jv_T} {n : Nat} {V : Nat → Nat → Int32} {L : Nat → Nat → Int64} {k z : Nat} {r N f : Nat} {h : Int32} (hr : isRum r) (hN : V 1 0 = nI N) (hb : N ≤ 12) (hf : f < N) (hM : jv_M g X T) (hT : T (.inl none) n (SH sx) (telR V r N f h) L) : jv_J g X I_X1_tellRumour 0 [some (jv_r g r), some (jv_r g 1), some (.int (nI f)), some (.int h), none, none, none, none] [] n (SH sx) V L k z := by
  refine j_aload_n_0 dX1_tellRumour_0 ?_
  refine G_X1_28 rfl dX1_tellRumour_1 (sk_rum hr) (sr_rum_5 hr) ?_
  refine j_iload_n_2 dX1_tellRumour_4 ?_
  refine j_iald dX1_tellRumour_5 (sk_rua_4 hr) (sn_rua_4 hr) (by omega) (by decide) ?_
  refine j_iconst (v := nI 1) dX1_tellRumour_6 nc_iconst_1 ?_
  refine j_iadd dX1_tellRumour_7 ?_
  refine j_istore_4 rfl (by decide) dX1_tellRumour_8 ?_
  refine j_iload_4 dX1_tellRumour_10 ?_
  refine j_aload_n_0 dX1_tellRumour_12 ?_
  refine G_X1_15 rfl dX1_tellRumour_13 (sk_rum hr) ?_
  refine j_ic_le (tgt := 20) dX1_tellRumour_16 (by decide) (fun h16 => ?_) (fun h16 => ?_)
  · refine j_iconst (v := nI 0) dX1_tellRumour_20 nc_iconst_0 ?_
    refine j_istore_5 rfl (by decide) dX1_tellRumour_21 ?_
    exact c_telR_loop (V := V) hr hb hf hM (N + 1) 0 V _ _ hN (by omega) (by omega) (by unfold telR at hT; rw [if_pos h16] at hT; exact hT)
  · exact j_vret hM dX1_tellRumour_19 rfl (by unfold telR at hT; rw [if_neg h16] at hT; exact hT)

set_option maxHeartbeats 4000000 in
set_option maxRecDepth 100000 in
theorem c_telD_loop {sx : Nat → jv_S} {g : jv_G} {X : jv_X} {T : jv_T} {n : Nat} {V : Nat → Nat → Int32} {L : Nat → Nat → Int64} {k z : Nat} {r N f : Nat} {h : Int32} (hr : isRum r) (hb : N ≤ 12) (hf : f < N) (hM : jv_M g X T) : ∀ (m : Nat) (i : Nat) (V : (Nat → Nat → Int32)) (v5 v6 : Option Value), V 1 0 = nI N → i ≤ N → N + 1 ≤ i + m → T (.inl none) n (SH sx) (tdL r f h (N - i) i V) L → jv_J g X I_X1_tellDenial 3 [some (jv_r g r), some (jv_r g 1), some (.int (nI f)), some (.int h), some (.int (nI i)), v5, v6] [] n (SH sx) V L k z := by
  intro m
  induction m with
  | zero => intro i V v5 v6 hN hi him hT; omega
  | succ m ih =>
  intro i V v5 v6 hN hi him hT
  refine j_iload_4 dX1_tellDenial_3 ?_
  refine j_aload_n_1 dX1_tellDenial_5 ?_
  refine G_X1_61 rfl dX1_tellDenial_6 sk_1 ?_
  refine j_top (y := nI N) hN ?_
  refine j_ic_geN (by omega) (by omega) (tgt := 88) dX1_tellDenial_9 (by decide) (fun h9 => ?_) (fun h9 => ?_)
  · exact j_vret hM dX1_tellDenial_88 rfl (by rw [show N - i = 0 by omega] at hT; exact hT)
  · refine j_iload_n_3 dX1_tellDenial_12 ?_
    refine j_aload_n_1 dX1_tellDenial_13 ?_
    refine G_X1_74 rfl dX1_tellDenial_14 sk_1 sr_1_7 ?_
    refine j_iload_n_2 dX1_tellDenial_17 ?_
    refine jv_aald (t := 5) (fun _ => rfl) rfl (by decide) (by decide) dX1_tellDenial_18 sk_7 sn_7 (by omega) (by decide) (sr_row (by omega)) ?_
    refine j_iload_4 dX1_tellDenial_19 ?_
    refine j_iald dX1_tellDenial_21 (sk_row (by omega)) (sn_row (by omega)) (by omega) (by decide) ?_
    refine j_iadd dX1_tellDenial_22 ?_
    refine j_istore_5 rfl (by decide) dX1_tellDenial_23 ?_
    refine j_aload_n_0 dX1_tellDenial_25 ?_
    refine G_X1_43 rfl dX1_tellDenial_26 (sk_rum hr) (sr_rum_10 hr) ?_
    refine j_iload_4 dX1_tellDenial_29 ?_
    refine j_iald dX1_tellDenial_31 (sk_rua_9 hr) (sn_rua_9 hr) (by omega) (by decide) ?_
    refine j_iconst (v := -1) dX1_tellDenial_32 nc_iconst_m1 ?_
    refine j_ic_eq (tgt := 48) dX1_tellDenial_33 (by decide) (fun h33 => ?_) (fun h33 => ?_)
    · refine j_iconst (v := nI 1) dX1_tellDenial_48 nc_iconst_1 ?_
      refine j_goto (tgt := 53) dX1_tellDenial_49 (by decide) ?_
      refine j_istore_6 rfl (by decide) dX1_tellDenial_53 ?_
      refine j_aload_n_1 dX1_tellDenial_55 ?_
      refine G_X1_74 rfl dX1_tellDenial_56 sk_1 sr_1_7 ?_
      refine j_iload_n_2 dX1_tellDenial_59 ?_
      refine jv_aald (t := 5) (fun _ => rfl) rfl (by decide) (by decide) dX1_tellDenial_60 sk_7 sn_7 (by omega) (by decide) (sr_row (by omega)) ?_
      refine j_iload_4 dX1_tellDenial_61 ?_
      refine j_iald dX1_tellDenial_63 (sk_row (by omega)) (sn_row (by omega)) (by omega) (by decide) ?_
      refine j_iconst (v := -1) dX1_tellDenial_64 nc_iconst_m1 ?_
      refine j_ic_eq (tgt := 82) dX1_tellDenial_65 (by decide) (fun h65 => ?_) (fun h65 => ?_)
      · refine j_inc1_4 rfl (by decide) dX1_tellDenial_82 ?_
        refine j_goto (tgt := 3) dX1_tellDenial_85 (by decide) ?_
        refine ih (i + 1) _ _ _ (by have := td1_out (V := V) (f := f) (i := i) (h := h) (Rout.lo hr (show 1 < 33 by omega)); unfold td1 at this; rw [if_neg (fun c => c.1 h65)] at this; rw [this]; exact hN) (by omega) (by omega) ?_
        rw [show N - i = (N - (i + 1)) + 1 by omega] at hT
        unfold tdL td1 at hT
        rw [if_neg (fun c => c.1 h65)] at hT
        exact hT
      · refine j_iload_6 dX1_tellDenial_68 ?_
        refine j_if_eq (tgt := 82) dX1_tellDenial_70 (by decide) (fun h70 => ?_) (fun h70 => ?_)
        · exact absurd h70 (by decide +kernel)
        · refine j_aload_n_0 dX1_tellDenial_73 ?_
          refine G_X1_43 rfl dX1_tellDenial_74 (sk_rum hr) (sr_rum_10 hr) ?_
          refine j_iload_4 dX1_tellDenial_77 ?_
          refine j_iload_5 dX1_tellDenial_79 ?_
          refine j_iast dX1_tellDenial_81 (sk_rua_9 hr) (sn_rua_9 hr) (by omega) (by decide) ?_
          refine j_inc1_4 rfl (by decide) dX1_tellDenial_82 ?_
          refine j_goto (tgt := 3) dX1_tellDenial_85 (by decide) ?_
          refine ih (i + 1) _ _ _ (by have := td1_out (V := V) (f := f) (i := i) (h := h) (Rout.lo hr (show 1 < 33 by omega)); unfold td1 at this; rw [if_pos ⟨h65, Or.inl h33⟩] at this; rw [this]; exact hN) (by omega) (by omega) ?_
          rw [show N - i = (N - (i + 1)) + 1 by omega] at hT
          unfold tdL td1 at hT
          rw [if_pos ⟨h65, Or.inl h33⟩] at hT
          exact hT
    · refine j_iload_5 dX1_tellDenial_36 ?_
      refine j_aload_n_0 dX1_tellDenial_38 ?_
      refine G_X1_43 rfl dX1_tellDenial_39 (sk_rum hr) (sr_rum_10 hr) ?_
      refine j_iload_4 dX1_tellDenial_42 ?_
      refine j_iald dX1_tellDenial_44 (sk_rua_9 hr) (sn_rua_9 hr) (by omega) (by decide) ?_
      refine j_ic_ge (tgt := 52) dX1_tellDenial_45 (by decide) (fun h45 => ?_) (fun h45 => ?_)
      · refine j_iconst (v := nI 0) dX1_tellDenial_52 nc_iconst_0 ?_
        refine j_istore_6 rfl (by decide) dX1_tellDenial_53 ?_
        refine j_aload_n_1 dX1_tellDenial_55 ?_
        refine G_X1_74 rfl dX1_tellDenial_56 sk_1 sr_1_7 ?_
        refine j_iload_n_2 dX1_tellDenial_59 ?_
        refine jv_aald (t := 5) (fun _ => rfl) rfl (by decide) (by decide) dX1_tellDenial_60 sk_7 sn_7 (by omega) (by decide) (sr_row (by omega)) ?_
        refine j_iload_4 dX1_tellDenial_61 ?_
        refine j_iald dX1_tellDenial_63 (sk_row (by omega)) (sn_row (by omega)) (by omega) (by decide) ?_
        refine j_iconst (v := -1) dX1_tellDenial_64 nc_iconst_m1 ?_
        refine j_ic_eq (tgt := 82) dX1_tellDenial_65 (by decide) (fun h65 => ?_) (fun h65 => ?_)
        · refine j_inc1_4 rfl (by decide) dX1_tellDenial_82 ?_
          refine j_goto (tgt := 3) dX1_tellDenial_85 (by decide) ?_
          refine ih (i + 1) _ _ _ (by have := td1_out (V := V) (f := f) (i := i) (h := h) (Rout.lo hr (show 1 < 33 by omega)); unfold td1 at this; rw [if_neg (fun c => c.1 h65)] at this; rw [this]; exact hN) (by omega) (by omega) ?_
          rw [show N - i = (N - (i + 1)) + 1 by omega] at hT
          unfold tdL td1 at hT
          rw [if_neg (fun c => c.1 h65)] at hT
          exact hT
        · refine j_iload_6 dX1_tellDenial_68 ?_
          refine j_if_eq (tgt := 82) dX1_tellDenial_70 (by decide) (fun h70 => ?_) (fun h70 => ?_)
          · refine j_inc1_4 rfl (by decide) dX1_tellDenial_82 ?_
            refine j_goto (tgt := 3) dX1_tellDenial_85 (by decide) ?_
            refine ih (i + 1) _ _ _ (by have := td1_out (V := V) (f := f) (i := i) (h := h) (Rout.lo hr (show 1 < 33 by omega)); unfold td1 at this; rw [if_neg (fun c => c.2.elim h33 (fun c => absurd c (Int32.not_lt.mpr h45)))] at this; rw [this]; exact hN) (by omega) (by omega) ?_
            rw [show N - i = (N - (i + 1)) + 1 by omega] at hT
            unfold tdL td1 at hT
            rw [if_neg (fun c => c.2.elim h33 (fun c => absurd c (Int32.not_lt.mpr h45)))] at hT
            exact hT
          · exact absurd nI_0 h70
      · refine j_iconst (v := nI 1) dX1_tellDenial_48 nc_iconst_1 ?_
        refine j_goto (tgt := 53) dX1_tellDenial_49 (by decide) ?_
        refine j_istore_6 rfl (by decide) dX1_tellDenial_53 ?_
        refine j_aload_n_1 dX1_tellDenial_55 ?_
        refine G_X1_74 rfl dX1_tellDenial_56 sk_1 sr_1_7 ?_
        refine j_iload_n_2 dX1_tellDenial_59 ?_
        refine jv_aald (t := 5) (fun _ => rfl) rfl (by decide) (by decide) dX1_tellDenial_60 sk_7 sn_7 (by omega) (by decide) (sr_row (by omega)) ?_
        refine j_iload_4 dX1_tellDenial_61 ?_
        refine j_iald dX1_tellDenial_63 (sk_row (by omega)) (sn_row (by omega)) (by omega) (by decide) ?_
        refine j_iconst (v := -1) dX1_tellDenial_64 nc_iconst_m1 ?_
        refine j_ic_eq (tgt := 82) dX1_tellDenial_65 (by decide) (fun h65 => ?_) (fun h65 => ?_)
        · refine j_inc1_4 rfl (by decide) dX1_tellDenial_82 ?_
          refine j_goto (tgt := 3) dX1_tellDenial_85 (by decide) ?_
          refine ih (i + 1) _ _ _ (by have := td1_out (V := V) (f := f) (i := i) (h := h) (Rout.lo hr (show 1 < 33 by omega)); unfold td1 at this; rw [if_neg (fun c => c.1 h65)] at this; rw [this]; exact hN) (by omega) (by omega) ?_
          rw [show N - i = (N - (i + 1)) + 1 by omega] at hT
          unfold tdL td1 at hT
          rw [if_neg (fun c => c.1 h65)] at hT
          exact hT
        · refine j_iload_6 dX1_tellDenial_68 ?_
          refine j_if_eq (tgt := 82) dX1_tellDenial_70 (by decide) (fun h70 => ?_) (fun h70 => ?_)
          · exact absurd h70 (by decide +kernel)
          · refine j_aload_n_0 dX1_tellDenial_73 ?_
            refine G_X1_43 rfl dX1_tellDenial_74 (sk_rum hr) (sr_rum_10 hr) ?_
            refine j_iload_4 dX1_tellDenial_77 ?_
            refine j_iload_5 dX1_tellDenial_79 ?_
            refine j_iast dX1_tellDenial_81 (sk_rua_9 hr) (sn_rua_9 hr) (by omega) (by decide) ?_
            refine j_inc1_4 rfl (by decide) dX1_tellDenial_82 ?_
            refine j_goto (tgt := 3) dX1_tellDenial_85 (by decide) ?_
            refine ih (i + 1) _ _ _ (by have := td1_out (V := V) (f := f) (i := i) (h := h) (Rout.lo hr (show 1 < 33 by omega)); unfold td1 at this; rw [if_pos ⟨h65, Or.inr (Int32.not_le.mp h45)⟩] at this; rw [this]; exact hN) (by omega) (by omega) ?_
            rw [show N - i = (N - (i + 1)) + 1 by omega] at hT
            unfold tdL td1 at hT
            rw [if_pos ⟨h65, Or.inr (Int32.not_le.mp h45)⟩] at hT
            exact hT

set_option maxHeartbeats 4000000 in
set_option maxRecDepth 100000 in
theorem c_tellDenial {sx : Nat → jv_S} {g : jv_G} {X : jv_X} {T : jv_T} {n : Nat} {V : Nat → Nat → Int32} {L : Nat → Nat → Int64} {k z : Nat} {r N f : Nat} {h : Int32} (hr : isRum r) (hN : V 1 0 = nI N) (hb : N ≤ 12) (hf : f < N) (hM : jv_M g X T) (hT : T (.inl none) n (SH sx) (tdL r f h N 0 V) L) : jv_J g X I_X1_tellDenial 0 [some (jv_r g r), some (jv_r g 1), some (.int (nI f)), some (.int h), none, none, none] [] n (SH sx) V L k z := by
  refine j_iconst (v := nI 0) dX1_tellDenial_0 nc_iconst_0 ?_
  refine j_istore_4 rfl (by decide) dX1_tellDenial_1 ?_
  exact c_telD_loop (V := V) hr hb hf hM (N + 1) 0 V _ _ hN (by omega) (by omega) hT

theorem telR_out {V : Nat → Nat → Int32} {r N f q : Nat} {h : Int32} (h1 : Rout r q) : telR V r N f h q = V q := by
  unfold telR
  split
  · rw [trL_out h1]
  · rfl

set_option maxHeartbeats 4000000 in
set_option maxRecDepth 100000 in
theorem c_pass_tell {sx : Nat → jv_S} {g : jv_G} {X : jv_X} {T : jv_T} {n : Nat} {V : Nat → Nat → Int32} {L : Nat → Nat → Int64} {k z : Nat} {r N : Nat} {h x3 : Int32} (hr : isRum r) (hb : N ≤ 12) (hM : jv_M g X T) : ∀ (m : Nat) (i : Nat) (V : (Nat → Nat → Int32)), V 1 0 = nI N → i ≤ N → N + 1 ≤ i + m → T (.inl (some (.int x3))) n (SH sx) (teL r N h (N - i) i V) L → jv_J g X I_X1_passHour 95 [some (jv_r g r), some (jv_r g 1), some (.int h), some (.int x3), some (.int (nI i))] [] n (SH sx) V L k z := by
  intro m
  induction m with
  | zero => intro i V hN hi him hT; omega
  | succ m ih =>
  intro i V hN hi him hT
  have hr3 := hr.lo
  refine j_iload_4 dX1_passHour_95 ?_
  refine j_aload_n_1 dX1_passHour_97 ?_
  refine G_X1_61 rfl dX1_passHour_98 sk_1 ?_
  refine j_top (y := nI N) hN ?_
  refine j_ic_geN (by omega) (by omega) (tgt := 164) dX1_passHour_101 (by decide) (fun h101 => ?_) (fun h101 => ?_)
  · refine j_iload_n_3 dX1_passHour_164 ?_
    exact j_iret hM dX1_passHour_165 rfl (by rw [show N - i = 0 by omega] at hT; exact hT)
  · refine j_aload_n_0 dX1_passHour_104 ?_
    refine G_X1_31 rfl dX1_passHour_105 (sk_rum hr) (sr_rum_6 hr) ?_
    refine j_iload_4 dX1_passHour_108 ?_
    refine j_iald dX1_passHour_110 (sk_rua_5 hr) (sn_rua_5 hr) (by omega) (by decide) ?_
    refine j_iload_n_2 dX1_passHour_111 ?_
    refine j_ic_ne (tgt := 131) dX1_passHour_112 (by decide) (fun h112 => ?_) (fun h112 => ?_)
    · have hN2 : _ = nI N := hN
      refine j_aload_n_0 dX1_passHour_131 ?_
      refine G_X1_34 rfl dX1_passHour_132 (sk_rum hr) (sr_rum_7 hr) ?_
      refine j_iload_4 dX1_passHour_135 ?_
      refine j_iald dX1_passHour_137 (sk_rua_6 hr) (sn_rua_6 hr) (by omega) (by decide) ?_
      refine j_iload_n_2 dX1_passHour_138 ?_
      refine j_ic_ne (tgt := 158) dX1_passHour_139 (by decide) (fun h139 => ?_) (fun h139 => ?_)
      · refine j_inc1_4 rfl (by decide) dX1_passHour_158 ?_
        refine j_goto (tgt := 95) dX1_passHour_161 (by decide) ?_
        have e : te1 V r N i h = V := by unfold te1 t1R; rw [if_neg h112]; unfold t1D; rw [if_neg h139]
        refine ih (i + 1) _ (by rw [← e, te1_out (Rout.lo hr (by omega))]; exact hN) (by omega) (by omega) ?_
        rw [show N - i = (N - (i + 1)) + 1 by omega] at hT
        unfold teL at hT
        rw [e] at hT
        exact hT
      · refine j_aload_n_0 dX1_passHour_142 ?_
        refine G_X1_34 rfl dX1_passHour_143 (sk_rum hr) (sr_rum_7 hr) ?_
        refine j_iload_4 dX1_passHour_146 ?_
        refine j_iconst (v := -1) dX1_passHour_148 nc_iconst_m1 ?_
        refine j_iast dX1_passHour_149 (sk_rua_6 hr) (sn_rua_6 hr) (by omega) (by decide) ?_
        refine j_aload_n_0 dX1_passHour_150 ?_
        refine j_aload_n_1 dX1_passHour_151 ?_
        refine j_iload_4 dX1_passHour_152 ?_
        refine j_iload_n_2 dX1_passHour_154 ?_
        refine C_X1_71 rfl (by decide) dX1_passHour_155 (sk_rum hr) (Nat.le_of_ble_eq_true rfl) (Nat.le_of_eq (Nat.zero_add _)) (Nat.le_of_eq (Nat.zero_add _)) (fun _ _ hM' hT' => c_tellDenial hr (by rw [jv_Une (by omega)]; exact hN2) hb (by omega) hM' hT') ?_
        refine j_inc1_4 rfl (by decide) dX1_passHour_158 ?_
        refine j_goto (tgt := 95) dX1_passHour_161 (by decide) ?_
        have e : te1 V r N i h = (tdL r i h N 0 (jv_U V (r + 6) i (-1))) := by unfold te1 t1R; rw [if_neg h112]; unfold t1D; rw [if_pos h139]
        refine ih (i + 1) _ (by rw [← e, te1_out (Rout.lo hr (by omega))]; exact hN) (by omega) (by omega) ?_
        rw [show N - i = (N - (i + 1)) + 1 by omega] at hT
        unfold teL at hT
        rw [e] at hT
        exact hT
    · refine j_aload_n_0 dX1_passHour_115 ?_
      refine G_X1_31 rfl dX1_passHour_116 (sk_rum hr) (sr_rum_6 hr) ?_
      refine j_iload_4 dX1_passHour_119 ?_
      refine j_iconst (v := -1) dX1_passHour_121 nc_iconst_m1 ?_
      refine j_iast dX1_passHour_122 (sk_rua_5 hr) (sn_rua_5 hr) (by omega) (by decide) ?_
      refine j_aload_n_0 dX1_passHour_123 ?_
      refine j_aload_n_1 dX1_passHour_124 ?_
      refine j_iload_4 dX1_passHour_125 ?_
      refine j_iload_n_2 dX1_passHour_127 ?_
      refine C_X1_68 rfl (by decide) dX1_passHour_128 (sk_rum hr) (Nat.le_of_ble_eq_true rfl) (Nat.le_of_eq (Nat.zero_add _)) (Nat.le_of_eq (Nat.zero_add _)) (fun _ _ hM' hT' => c_tellRumour hr (by rw [jv_Une (by omega)]; exact hN) hb (by omega) hM' hT') ?_
      have hN2 : telR (jv_U V (r + 5) i (-1)) r N i h 1 0 = nI N := by rw [telR_out (Rout.lo hr (by omega)), jv_Une (by omega)]; exact hN
      refine j_aload_n_0 dX1_passHour_131 ?_
      refine G_X1_34 rfl dX1_passHour_132 (sk_rum hr) (sr_rum_7 hr) ?_
      refine j_iload_4 dX1_passHour_135 ?_
      refine j_iald dX1_passHour_137 (sk_rua_6 hr) (sn_rua_6 hr) (by omega) (by decide) ?_
      refine j_iload_n_2 dX1_passHour_138 ?_
      refine j_ic_ne (tgt := 158) dX1_passHour_139 (by decide) (fun h139 => ?_) (fun h139 => ?_)
      · refine j_inc1_4 rfl (by decide) dX1_passHour_158 ?_
        refine j_goto (tgt := 95) dX1_passHour_161 (by decide) ?_
        have e : te1 V r N i h = (telR (jv_U V (r + 5) i (-1)) r N i h) := by unfold te1 t1R; rw [if_pos h112]; unfold t1D; rw [if_neg h139]
        refine ih (i + 1) _ (by rw [← e, te1_out (Rout.lo hr (by omega))]; exact hN) (by omega) (by omega) ?_
        rw [show N - i = (N - (i + 1)) + 1 by omega] at hT
        unfold teL at hT
        rw [e] at hT
        exact hT
      · refine j_aload_n_0 dX1_passHour_142 ?_
        refine G_X1_34 rfl dX1_passHour_143 (sk_rum hr) (sr_rum_7 hr) ?_
        refine j_iload_4 dX1_passHour_146 ?_
        refine j_iconst (v := -1) dX1_passHour_148 nc_iconst_m1 ?_
        refine j_iast dX1_passHour_149 (sk_rua_6 hr) (sn_rua_6 hr) (by omega) (by decide) ?_
        refine j_aload_n_0 dX1_passHour_150 ?_
        refine j_aload_n_1 dX1_passHour_151 ?_
        refine j_iload_4 dX1_passHour_152 ?_
        refine j_iload_n_2 dX1_passHour_154 ?_
        refine C_X1_71 rfl (by decide) dX1_passHour_155 (sk_rum hr) (Nat.le_of_ble_eq_true rfl) (Nat.le_of_eq (Nat.zero_add _)) (Nat.le_of_eq (Nat.zero_add _)) (fun _ _ hM' hT' => c_tellDenial hr (by rw [jv_Une (by omega)]; exact hN2) hb (by omega) hM' hT') ?_
        refine j_inc1_4 rfl (by decide) dX1_passHour_158 ?_
        refine j_goto (tgt := 95) dX1_passHour_161 (by decide) ?_
        have e : te1 V r N i h = (tdL r i h N 0 (jv_U (telR (jv_U V (r + 5) i (-1)) r N i h) (r + 6) i (-1))) := by unfold te1 t1R; rw [if_pos h112]; unfold t1D; rw [if_pos h139]
        refine ih (i + 1) _ (by rw [← e, te1_out (Rout.lo hr (by omega))]; exact hN) (by omega) (by omega) ?_
        rw [show N - i = (N - (i + 1)) + 1 by omega] at hT
        unfold teL at hT
        rw [e] at hT
        exact hT

set_option maxHeartbeats 4000000 in
set_option maxRecDepth 100000 in
theorem c_pass_hear {sx : Nat → jv_S} {g : jv_G} {X : jv_X} {T : jv_T} {n : Nat} {V : Nat → Nat → Int32} {L : Nat → Nat → Int64} {k z : Nat} {r N : Nat} {h : Int32} (hr : isRum r) (hb : N ≤ 12) (hM : jv_M g X T) : ∀ (m : Nat) (i : Nat) (V : (Nat → Nat → Int32)) (x3 : Int32), V 1 0 = nI N → i ≤ N → N + 1 ≤ i + m → T (.inl (some (.int (hrN r h (N - i) i V x3)))) n (SH sx) (teL r N h N 0 (hrV r h (N - i) i V)) L → jv_J g X I_X1_passHour 5 [some (jv_r g r), some (jv_r g 1), some (.int h), some (.int x3), some (.int (nI i))] [] n (SH sx) V L k z := by
  intro m
  induction m with
  | zero => intro i V x3 hN hi him hT; omega
  | succ m ih =>
  intro i V x3 hN hi him hT
  have hr3 := hr.lo
  refine j_iload_4 dX1_passHour_5 ?_
  refine j_aload_n_1 dX1_passHour_7 ?_
  refine G_X1_61 rfl dX1_passHour_8 sk_1 ?_
  refine j_top (y := nI N) hN ?_
  refine j_ic_geN (by omega) (by omega) (tgt := 92) dX1_passHour_11 (by decide) (fun h11 => ?_) (fun h11 => ?_)
  · refine j_iconst (v := nI 0) dX1_passHour_92 nc_iconst_0 ?_
    refine j_istore_4 rfl (by decide) dX1_passHour_93 ?_
    exact c_pass_tell (V := V) hr hb hM (N + 1) 0 V hN (by omega) (by omega) (by rw [show N - i = 0 by omega] at hT; exact hT)
  · refine j_aload_n_0 dX1_passHour_14 ?_
    refine G_X1_37 rfl dX1_passHour_15 (sk_rum hr) (sr_rum_8 hr) ?_
    refine j_iload_4 dX1_passHour_18 ?_
    refine j_iald dX1_passHour_20 (sk_rua_7 hr) (sn_rua_7 hr) (by omega) (by decide) ?_
    refine j_iload_n_2 dX1_passHour_21 ?_
    refine j_ic_ne (tgt := 59) dX1_passHour_22 (by decide) (fun h22 => ?_) (fun h22 => ?_)
    · refine j_aload_n_0 dX1_passHour_59 ?_
      refine G_X1_43 rfl dX1_passHour_60 (sk_rum hr) (sr_rum_10 hr) ?_
      refine j_iload_4 dX1_passHour_63 ?_
      refine j_iald dX1_passHour_65 (sk_rua_9 hr) (sn_rua_9 hr) (by omega) (by decide) ?_
      refine j_iload_n_2 dX1_passHour_66 ?_
      refine j_ic_ne (tgt := 86) dX1_passHour_67 (by decide) (fun h67 => ?_) (fun h67 => ?_)
      · refine j_inc1_4 rfl (by decide) dX1_passHour_86 ?_
        refine j_goto (tgt := 5) dX1_passHour_89 (by decide) ?_
        have e : hr1 V r i h = V := by unfold hr1 h1R; rw [if_neg h22]; unfold h1D; rw [if_neg h67]
        have e' : hnw V r i h x3 = x3 := by unfold hnw; rw [if_neg h22]
        refine ih (i + 1) _ _ (by rw [← e, hr1_out (Rout.lo hr (by omega))]; exact hN) (by omega) (by omega) ?_
        rw [show N - i = (N - (i + 1)) + 1 by omega] at hT
        unfold hrV hrN at hT
        rw [e, e'] at hT
        exact hT
      · refine j_aload_n_0 dX1_passHour_70 ?_
        refine G_X1_43 rfl dX1_passHour_71 (sk_rum hr) (sr_rum_10 hr) ?_
        refine j_iload_4 dX1_passHour_74 ?_
        refine j_iconst (v := -1) dX1_passHour_76 nc_iconst_m1 ?_
        refine j_iast dX1_passHour_77 (sk_rua_9 hr) (sn_rua_9 hr) (by omega) (by decide) ?_
        refine j_aload_n_0 dX1_passHour_78 ?_
        refine j_aload_n_1 dX1_passHour_79 ?_
        refine j_iload_4 dX1_passHour_80 ?_
        refine j_iload_n_2 dX1_passHour_82 ?_
        refine C_X1_64 rfl (by decide) dX1_passHour_83 (sk_rum hr) (Nat.le_of_ble_eq_true rfl) (Nat.le_of_eq (Nat.zero_add _)) (Nat.le_of_eq (Nat.zero_add _)) (fun _ _ hM' hT' => c_bringDenial hr (by omega) hM' hT') ?_
        refine j_inc1_4 rfl (by decide) dX1_passHour_86 ?_
        refine j_goto (tgt := 5) dX1_passHour_89 (by decide) ?_
        have e : hr1 V r i h = (brD (jv_U V (r + 9) i (-1)) r i h) := by unfold hr1 h1R; rw [if_neg h22]; unfold h1D; rw [if_pos h67]
        have e' : hnw V r i h x3 = x3 := by unfold hnw; rw [if_neg h22]
        refine ih (i + 1) _ _ (by rw [← e, hr1_out (Rout.lo hr (by omega))]; exact hN) (by omega) (by omega) ?_
        rw [show N - i = (N - (i + 1)) + 1 by omega] at hT
        unfold hrV hrN at hT
        rw [e, e'] at hT
        exact hT
    · refine j_aload_n_0 dX1_passHour_25 ?_
      refine G_X1_37 rfl dX1_passHour_26 (sk_rum hr) (sr_rum_8 hr) ?_
      refine j_iload_4 dX1_passHour_29 ?_
      refine j_iconst (v := -1) dX1_passHour_31 nc_iconst_m1 ?_
      refine j_iast dX1_passHour_32 (sk_rua_7 hr) (sn_rua_7 hr) (by omega) (by decide) ?_
      refine j_iload_n_3 dX1_passHour_33 ?_
      refine j_aload_n_0 dX1_passHour_34 ?_
      refine j_aload_n_1 dX1_passHour_35 ?_
      refine j_iload_4 dX1_passHour_36 ?_
      refine j_aload_n_0 dX1_passHour_38 ?_
      refine G_X1_40 rfl dX1_passHour_39 (sk_rum hr) (sr_rum_9 hr) ?_
      refine j_iload_4 dX1_passHour_42 ?_
      refine j_iald dX1_passHour_44 (sk_rua_8 hr) (sn_rua_8 hr) (by omega) (by decide) ?_
      refine j_iload_n_2 dX1_passHour_45 ?_
      refine C_X1_46 rfl (by decide) dX1_passHour_46 (sk_rum hr) (Nat.le_of_ble_eq_true rfl) (Nat.le_of_eq (Nat.zero_add _)) (Nat.le_of_eq (Nat.zero_add _)) (fun _ _ hM' hT' => c_bringRumour hr (by omega) hM' hT') ?_
      refine j_if_eq (tgt := 56) dX1_passHour_49 (by decide) (fun h49 => ?_) (fun h49 => ?_)
      · refine j_iconst (v := nI 0) dX1_passHour_56 nc_iconst_0 ?_
        refine j_top (y := bz (decide (jv_U V (r + 7) i (-1) (r + 1) i = 0))) (by unfold bz; rw [if_neg (by rw [bz_f h49]; decide)]) ?_
        refine j_iadd dX1_passHour_57 ?_
        refine j_istore_n_3 rfl (by decide) dX1_passHour_58 ?_
        refine j_aload_n_0 dX1_passHour_59 ?_
        refine G_X1_43 rfl dX1_passHour_60 (sk_rum hr) (sr_rum_10 hr) ?_
        refine j_iload_4 dX1_passHour_63 ?_
        refine j_iald dX1_passHour_65 (sk_rua_9 hr) (sn_rua_9 hr) (by omega) (by decide) ?_
        refine j_iload_n_2 dX1_passHour_66 ?_
        refine j_ic_ne (tgt := 86) dX1_passHour_67 (by decide) (fun h67 => ?_) (fun h67 => ?_)
        · refine j_inc1_4 rfl (by decide) dX1_passHour_86 ?_
          refine j_goto (tgt := 5) dX1_passHour_89 (by decide) ?_
          have e : hr1 V r i h = (brR (jv_U V (r + 7) i (-1)) r i (jv_U V (r + 7) i (-1) (r + 8) i) h) := by unfold hr1 h1R; rw [if_pos h22]; unfold h1D; rw [if_neg h67]
          have e' : hnw V r i h x3 = x3 + bz (decide (jv_U V (r + 7) i (-1) (r + 1) i = 0)) := by unfold hnw; rw [if_pos h22]
          refine ih (i + 1) _ _ (by rw [← e, hr1_out (Rout.lo hr (by omega))]; exact hN) (by omega) (by omega) ?_
          rw [show N - i = (N - (i + 1)) + 1 by omega] at hT
          unfold hrV hrN at hT
          rw [e, e'] at hT
          exact hT
        · refine j_aload_n_0 dX1_passHour_70 ?_
          refine G_X1_43 rfl dX1_passHour_71 (sk_rum hr) (sr_rum_10 hr) ?_
          refine j_iload_4 dX1_passHour_74 ?_
          refine j_iconst (v := -1) dX1_passHour_76 nc_iconst_m1 ?_
          refine j_iast dX1_passHour_77 (sk_rua_9 hr) (sn_rua_9 hr) (by omega) (by decide) ?_
          refine j_aload_n_0 dX1_passHour_78 ?_
          refine j_aload_n_1 dX1_passHour_79 ?_
          refine j_iload_4 dX1_passHour_80 ?_
          refine j_iload_n_2 dX1_passHour_82 ?_
          refine C_X1_64 rfl (by decide) dX1_passHour_83 (sk_rum hr) (Nat.le_of_ble_eq_true rfl) (Nat.le_of_eq (Nat.zero_add _)) (Nat.le_of_eq (Nat.zero_add _)) (fun _ _ hM' hT' => c_bringDenial hr (by omega) hM' hT') ?_
          refine j_inc1_4 rfl (by decide) dX1_passHour_86 ?_
          refine j_goto (tgt := 5) dX1_passHour_89 (by decide) ?_
          have e : hr1 V r i h = (brD (jv_U (brR (jv_U V (r + 7) i (-1)) r i (jv_U V (r + 7) i (-1) (r + 8) i) h) (r + 9) i (-1)) r i h) := by unfold hr1 h1R; rw [if_pos h22]; unfold h1D; rw [if_pos h67]
          have e' : hnw V r i h x3 = x3 + bz (decide (jv_U V (r + 7) i (-1) (r + 1) i = 0)) := by unfold hnw; rw [if_pos h22]
          refine ih (i + 1) _ _ (by rw [← e, hr1_out (Rout.lo hr (by omega))]; exact hN) (by omega) (by omega) ?_
          rw [show N - i = (N - (i + 1)) + 1 by omega] at hT
          unfold hrV hrN at hT
          rw [e, e'] at hT
          exact hT
      · refine j_iconst (v := nI 1) dX1_passHour_52 nc_iconst_1 ?_
        refine j_top (y := bz (decide (jv_U V (r + 7) i (-1) (r + 1) i = 0))) (by unfold bz; rw [if_pos (bz_t h49)]) ?_
        refine j_goto (tgt := 57) dX1_passHour_53 (by decide) ?_
        refine j_iadd dX1_passHour_57 ?_
        refine j_istore_n_3 rfl (by decide) dX1_passHour_58 ?_
        refine j_aload_n_0 dX1_passHour_59 ?_
        refine G_X1_43 rfl dX1_passHour_60 (sk_rum hr) (sr_rum_10 hr) ?_
        refine j_iload_4 dX1_passHour_63 ?_
        refine j_iald dX1_passHour_65 (sk_rua_9 hr) (sn_rua_9 hr) (by omega) (by decide) ?_
        refine j_iload_n_2 dX1_passHour_66 ?_
        refine j_ic_ne (tgt := 86) dX1_passHour_67 (by decide) (fun h67 => ?_) (fun h67 => ?_)
        · refine j_inc1_4 rfl (by decide) dX1_passHour_86 ?_
          refine j_goto (tgt := 5) dX1_passHour_89 (by decide) ?_
          have e : hr1 V r i h = (brR (jv_U V (r + 7) i (-1)) r i (jv_U V (r + 7) i (-1) (r + 8) i) h) := by unfold hr1 h1R; rw [if_pos h22]; unfold h1D; rw [if_neg h67]
          have e' : hnw V r i h x3 = x3 + bz (decide (jv_U V (r + 7) i (-1) (r + 1) i = 0)) := by unfold hnw; rw [if_pos h22]
          refine ih (i + 1) _ _ (by rw [← e, hr1_out (Rout.lo hr (by omega))]; exact hN) (by omega) (by omega) ?_
          rw [show N - i = (N - (i + 1)) + 1 by omega] at hT
          unfold hrV hrN at hT
          rw [e, e'] at hT
          exact hT
        · refine j_aload_n_0 dX1_passHour_70 ?_
          refine G_X1_43 rfl dX1_passHour_71 (sk_rum hr) (sr_rum_10 hr) ?_
          refine j_iload_4 dX1_passHour_74 ?_
          refine j_iconst (v := -1) dX1_passHour_76 nc_iconst_m1 ?_
          refine j_iast dX1_passHour_77 (sk_rua_9 hr) (sn_rua_9 hr) (by omega) (by decide) ?_
          refine j_aload_n_0 dX1_passHour_78 ?_
          refine j_aload_n_1 dX1_passHour_79 ?_
          refine j_iload_4 dX1_passHour_80 ?_
          refine j_iload_n_2 dX1_passHour_82 ?_
          refine C_X1_64 rfl (by decide) dX1_passHour_83 (sk_rum hr) (Nat.le_of_ble_eq_true rfl) (Nat.le_of_eq (Nat.zero_add _)) (Nat.le_of_eq (Nat.zero_add _)) (fun _ _ hM' hT' => c_bringDenial hr (by omega) hM' hT') ?_
          refine j_inc1_4 rfl (by decide) dX1_passHour_86 ?_
          refine j_goto (tgt := 5) dX1_passHour_89 (by decide) ?_
          have e : hr1 V r i h = (brD (jv_U (brR (jv_U V (r + 7) i (-1)) r i (jv_U V (r + 7) i (-1) (r + 8) i) h) (r + 9) i (-1)) r i h) := by unfold hr1 h1R; rw [if_pos h22]; unfold h1D; rw [if_pos h67]
          have e' : hnw V r i h x3 = x3 + bz (decide (jv_U V (r + 7) i (-1) (r + 1) i = 0)) := by unfold hnw; rw [if_pos h22]
          refine ih (i + 1) _ _ (by rw [← e, hr1_out (Rout.lo hr (by omega))]; exact hN) (by omega) (by omega) ?_
          rw [show N - i = (N - (i + 1)) + 1 by omega] at hT
          unfold hrV hrN at hT
          rw [e, e'] at hT
          exact hT

set_option maxHeartbeats 4000000 in
set_option maxRecDepth 100000 in
theorem c_passHour {sx : Nat → jv_S} {g : jv_G} {X : jv_X} {T : jv_T} {n : Nat} {V : Nat → Nat → Int32} {L : Nat → Nat → Int64} {k z : Nat} {r N : Nat} {h : Int32} (hr : isRum r) (hN : V 1 0 = nI N) (hb : N ≤ 12) (hM : jv_M g X T) (hT : T (.inl (some (.int (phN V r N h)))) n (SH sx) (phV V r N h) L) : jv_J g X I_X1_passHour 0 [some (jv_r g r), some (jv_r g 1), some (.int h), none, none] [] n (SH sx) V L k z := by
  refine j_iconst (v := nI 0) dX1_passHour_0 nc_iconst_0 ?_
  refine j_istore_n_3 rfl (by decide) dX1_passHour_1 ?_
  refine j_iconst (v := nI 0) dX1_passHour_2 nc_iconst_0 ?_
  refine j_istore_4 rfl (by decide) dX1_passHour_3 ?_
  exact c_pass_hear (V := V) hr hb hM (N + 1) 0 V _ hN (by omega) (by omega) hT

set_option maxHeartbeats 4000000 in
set_option maxRecDepth 100000 in
theorem c_isUnderWayTo {sx : Nat → jv_S} {g : jv_G} {X : jv_X} {T : jv_T} {n : Nat} {V : Nat → Nat → Int32} {L : Nat → Nat → Int64} {k z : Nat} {r f : Nat} (hr : isRum r) (hf : f < 12) (hM : jv_M g X T) (hT : T (.inl (some (.int (bz (uwB V r f))))) n (SH sx) V L) : jv_J g X I_X1_isUnderWayTo 0 [some (jv_r g r), some (.int (nI f))] [] n (SH sx) V L k z := by
  refine j_aload_n_0 dX1_isUnderWayTo_0 ?_
  refine G_X1_37 rfl dX1_isUnderWayTo_1 (sk_rum hr) (sr_rum_8 hr) ?_
  refine j_iload_n_1 dX1_isUnderWayTo_4 ?_
  refine j_iald dX1_isUnderWayTo_5 (sk_rua_7 hr) (sn_rua_7 hr) (by omega) (by decide) ?_
  refine j_iconst (v := -1) dX1_isUnderWayTo_6 nc_iconst_m1 ?_
  refine j_ic_ne (tgt := 20) dX1_isUnderWayTo_7 (by decide) (fun h7 => ?_) (fun h7 => ?_)
  · refine j_iconst (v := nI 1) dX1_isUnderWayTo_20 nc_iconst_1 ?_
    refine j_goto (tgt := 25) dX1_isUnderWayTo_21 (by decide) ?_
    exact j_zret hM dX1_isUnderWayTo_25 rfl (jv_b01 (by first | exact Or.inl rfl | exact Or.inr rfl | assumption)) (by rw [show uwB V r f = true from decide_eq_true (Or.inl h7)] at hT; exact hT)
  · refine j_aload_n_0 dX1_isUnderWayTo_10 ?_
    refine G_X1_43 rfl dX1_isUnderWayTo_11 (sk_rum hr) (sr_rum_10 hr) ?_
    refine j_iload_n_1 dX1_isUnderWayTo_14 ?_
    refine j_iald dX1_isUnderWayTo_15 (sk_rua_9 hr) (sn_rua_9 hr) (by omega) (by decide) ?_
    refine j_iconst (v := -1) dX1_isUnderWayTo_16 nc_iconst_m1 ?_
    refine j_ic_eq (tgt := 24) dX1_isUnderWayTo_17 (by decide) (fun h17 => ?_) (fun h17 => ?_)
    · refine j_iconst (v := nI 0) dX1_isUnderWayTo_24 nc_iconst_0 ?_
      exact j_zret hM dX1_isUnderWayTo_25 rfl (jv_b01 (by first | exact Or.inl rfl | exact Or.inr rfl | assumption)) (by rw [show uwB V r f = false from decide_eq_false (fun c => c.elim (fun c => c h7) (fun c => c h17))] at hT; exact hT)
    · refine j_iconst (v := nI 1) dX1_isUnderWayTo_20 nc_iconst_1 ?_
      refine j_goto (tgt := 25) dX1_isUnderWayTo_21 (by decide) ?_
      exact j_zret hM dX1_isUnderWayTo_25 rfl (jv_b01 (by first | exact Or.inl rfl | exact Or.inr rfl | assumption)) (by rw [show uwB V r f = true from decide_eq_true (Or.inr h17)] at hT; exact hT)

set_option maxHeartbeats 4000000 in
set_option maxRecDepth 100000 in
theorem c_quiet_loop {sx : Nat → jv_S} {g : jv_G} {X : jv_X} {T : jv_T} {n : Nat} {V : Nat → Nat → Int32} {L : Nat → Nat → Int64} {k z : Nat} {r N : Nat} (hr : isRum r) (hb : N ≤ 12) (hM : jv_M g X T) : ∀ (m : Nat) (i : Nat), i ≤ N → N + 1 ≤ i + m → T (.inl (some (.int (bz (quL V r (N - i) i))))) n (SH sx) V L → jv_J g X I_X1_isQuiet 2 [some (jv_r g r), some (.int (nI N)), some (.int (nI i))] [] n (SH sx) V L k z := by
  intro m
  induction m with
  | zero => intro i hi him hT; omega
  | succ m ih =>
  intro i hi him hT
  refine j_iload_n_2 dX1_isQuiet_2 ?_
  refine j_iload_n_1 dX1_isQuiet_3 ?_
  refine j_ic_geN (by omega) (by omega) (tgt := 43) dX1_isQuiet_4 (by decide) (fun h4 => ?_) (fun h4 => ?_)
  · refine j_iconst (v := nI 1) dX1_isQuiet_43 nc_iconst_1 ?_
    exact j_zret hM dX1_isQuiet_44 rfl (jv_b01 (by first | exact Or.inl rfl | exact Or.inr rfl | assumption)) (by rw [show N - i = 0 by omega] at hT; exact hT)
  · refine j_aload_n_0 dX1_isQuiet_7 ?_
    refine G_X1_31 rfl dX1_isQuiet_8 (sk_rum hr) (sr_rum_6 hr) ?_
    refine j_iload_n_2 dX1_isQuiet_11 ?_
    refine j_iald dX1_isQuiet_12 (sk_rua_5 hr) (sn_rua_5 hr) (by omega) (by decide) ?_
    refine j_iconst (v := -1) dX1_isQuiet_13 nc_iconst_m1 ?_
    refine j_ic_ne (tgt := 35) dX1_isQuiet_14 (by decide) (fun h14 => ?_) (fun h14 => ?_)
    · refine j_iconst (v := nI 0) dX1_isQuiet_35 nc_iconst_0 ?_
      exact j_zret hM dX1_isQuiet_36 rfl (jv_b01 (by first | exact Or.inl rfl | exact Or.inr rfl | assumption)) (by rw [show N - i = (N - (i + 1)) + 1 by omega] at hT; unfold quL at hT; rw [if_neg (fun c => h14 c.1)] at hT; exact hT)
    · refine j_aload_n_0 dX1_isQuiet_17 ?_
      refine G_X1_34 rfl dX1_isQuiet_18 (sk_rum hr) (sr_rum_7 hr) ?_
      refine j_iload_n_2 dX1_isQuiet_21 ?_
      refine j_iald dX1_isQuiet_22 (sk_rua_6 hr) (sn_rua_6 hr) (by omega) (by decide) ?_
      refine j_iconst (v := -1) dX1_isQuiet_23 nc_iconst_m1 ?_
      refine j_ic_ne (tgt := 35) dX1_isQuiet_24 (by decide) (fun h24 => ?_) (fun h24 => ?_)
      · refine j_iconst (v := nI 0) dX1_isQuiet_35 nc_iconst_0 ?_
        exact j_zret hM dX1_isQuiet_36 rfl (jv_b01 (by first | exact Or.inl rfl | exact Or.inr rfl | assumption)) (by rw [show N - i = (N - (i + 1)) + 1 by omega] at hT; unfold quL at hT; rw [if_neg (fun c => h24 c.2.1)] at hT; exact hT)
      · refine j_aload_n_0 dX1_isQuiet_27 ?_
        refine j_iload_n_2 dX1_isQuiet_28 ?_
        refine C_X1_86 rfl (by decide) dX1_isQuiet_29 (sk_rum hr) (Nat.le_of_ble_eq_true rfl) (Nat.le_of_eq (Nat.zero_add _)) (Nat.le_of_eq (Nat.zero_add _)) (fun _ _ hM' hT' => c_isUnderWayTo hr (by omega) hM' hT') ?_
        refine j_if_eq (tgt := 37) dX1_isQuiet_32 (by decide) (fun h32 => ?_) (fun h32 => ?_)
        · refine j_inc1_2 rfl (by decide) dX1_isQuiet_37 ?_
          refine j_goto (tgt := 2) dX1_isQuiet_40 (by decide) ?_
          refine ih (i + 1) (by omega) (by omega) ?_
          rw [show N - i = (N - (i + 1)) + 1 by omega] at hT
          unfold quL at hT
          rw [if_pos ⟨h14, h24, bz_f h32⟩] at hT
          exact hT
        · refine j_iconst (v := nI 0) dX1_isQuiet_35 nc_iconst_0 ?_
          exact j_zret hM dX1_isQuiet_36 rfl (jv_b01 (by first | exact Or.inl rfl | exact Or.inr rfl | assumption)) (by rw [show N - i = (N - (i + 1)) + 1 by omega] at hT; unfold quL at hT; rw [if_neg (fun c => by rw [bz_t h32] at c; exact absurd c.2.2 (by decide))] at hT; exact hT)

set_option maxHeartbeats 4000000 in
set_option maxRecDepth 100000 in
theorem c_isQuiet {sx : Nat → jv_S} {g : jv_G} {X : jv_X} {T : jv_T} {n : Nat} {V : Nat → Nat → Int32} {L : Nat → Nat → Int64} {k z : Nat} {r N : Nat} (hr : isRum r) (hb : N ≤ 12) (hM : jv_M g X T) (hT : T (.inl (some (.int (bz (quL V r N 0))))) n (SH sx) V L) : jv_J g X I_X1_isQuiet 0 [some (jv_r g r), some (.int (nI N)), none] [] n (SH sx) V L k z := by
  refine j_iconst (v := nI 0) dX1_isQuiet_0 nc_iconst_0 ?_
  refine j_istore_n_2 rfl (by decide) dX1_isQuiet_1 ?_
  exact c_quiet_loop hr hb hM (N + 1) 0 (by omega) (by omega) hT

set_option maxHeartbeats 4000000 in
set_option maxRecDepth 100000 in
theorem c_look_loop {sx : Nat → jv_S} {g : jv_G} {X : jv_X} {T : jv_T} {n : Nat} {V : Nat → Nat → Int32} {L : Nat → Nat → Int64} {k z : Nat} {r N : Nat} {h : Int32} (hr : isRum r) (hb : N ≤ 12) (hM : jv_M g X T) : ∀ (m : Nat) (i : Nat) (V : (Nat → Nat → Int32)), V 1 0 = nI N → i ≤ 100 → 101 ≤ i + m → T (.inl (some (.int (nI (laC r N h (100 - i) i V))))) n (SH sx) (laV r N h (100 - i) i V) L → jv_J g X I_X1_lookAhead 2 [some (jv_r g r), some (jv_r g 1), some (.int h), some (.int (nI i))] [] n (SH sx) V L k z := by
  intro m
  induction m with
  | zero => intro i V hN hi him hT; omega
  | succ m ih =>
  intro i V hN hi him hT
  refine j_iload_n_3 dX1_lookAhead_2 ?_
  refine j_bipush (v := nI 100) dX1_lookAhead_3 nc_bipush_100 ?_
  refine j_ic_geN (by omega) (by omega) (tgt := 34) dX1_lookAhead_5 (by decide) (fun h5 => ?_) (fun h5 => ?_)
  · refine j_iload_n_3 dX1_lookAhead_34 ?_
    exact j_iret hM dX1_lookAhead_35 rfl (by rw [show 100 - i = 0 by omega] at hT; exact hT)
  · refine j_aload_n_0 dX1_lookAhead_8 ?_
    refine j_aload_n_1 dX1_lookAhead_9 ?_
    refine G_X1_61 rfl dX1_lookAhead_10 sk_1 ?_
    refine j_top (y := nI N) hN ?_
    refine C_X1_78 rfl (by decide) dX1_lookAhead_13 (sk_rum hr) (Nat.le_of_ble_eq_true rfl) (Nat.le_of_eq (Nat.zero_add _)) (Nat.le_of_eq (Nat.zero_add _)) (fun _ _ hM' hT' => c_isQuiet hr hb hM' hT') ?_
    refine j_if_ne (tgt := 34) dX1_lookAhead_16 (by decide) (fun h16 => ?_) (fun h16 => ?_)
    · refine j_iload_n_3 dX1_lookAhead_34 ?_
      exact j_iret hM dX1_lookAhead_35 rfl (by rw [show 100 - i = (100 - (i + 1)) + 1 by omega] at hT; unfold laV laC at hT; rw [if_pos (bz_t h16), if_pos (bz_t h16)] at hT; exact hT)
    · refine j_aload_n_0 dX1_lookAhead_19 ?_
      refine j_aload_n_1 dX1_lookAhead_20 ?_
      refine j_iload_n_2 dX1_lookAhead_21 ?_
      refine j_iload_n_3 dX1_lookAhead_22 ?_
      refine j_iadd dX1_lookAhead_23 ?_
      refine C_X1_82 rfl (by decide) dX1_lookAhead_24 (sk_rum hr) (Nat.le_of_ble_eq_true rfl) (Nat.le_of_eq (Nat.zero_add _)) (Nat.le_of_eq (Nat.zero_add _)) (fun _ _ hM' hT' => c_passHour hr hN hb hM' hT') ?_
      refine j_pop rfl dX1_lookAhead_27 ?_
      refine j_inc1_3 rfl (by decide) dX1_lookAhead_28 ?_
      refine j_goto (tgt := 2) dX1_lookAhead_31 (by decide) ?_
      refine ih (i + 1) _ (by rw [phV_out (Rout.lo hr (by omega))]; exact hN) (by omega) (by omega) ?_
      rw [show 100 - i = (100 - (i + 1)) + 1 by omega] at hT
      unfold laV laC at hT
      rw [if_neg (by rw [bz_f h16]; decide), if_neg (by rw [bz_f h16]; decide)] at hT
      exact hT

set_option maxHeartbeats 4000000 in
set_option maxRecDepth 100000 in
theorem c_lookAhead {sx : Nat → jv_S} {g : jv_G} {X : jv_X} {T : jv_T} {n : Nat} {V : Nat → Nat → Int32} {L : Nat → Nat → Int64} {k z : Nat} {r N : Nat} {h : Int32} (hr : isRum r) (hN : V 1 0 = nI N) (hb : N ≤ 12) (hM : jv_M g X T) (hT : T (.inl (some (.int (nI (laC r N h 100 0 V))))) n (SH sx) (laV r N h 100 0 V) L) : jv_J g X I_X1_lookAhead 0 [some (jv_r g r), some (jv_r g 1), some (.int h), none] [] n (SH sx) V L k z := by
  refine j_iconst (v := nI 0) dX1_lookAhead_0 nc_iconst_0 ?_
  refine j_istore_n_3 rfl (by decide) dX1_lookAhead_1 ?_
  exact c_look_loop (V := V) hr hb hM 101 0 V hN (by omega) (by omega) hT

set_option maxHeartbeats 4000000 in
set_option maxRecDepth 100000 in
theorem c_heads_loop {sx : Nat → jv_S} {g : jv_G} {X : jv_X} {T : jv_T} {n : Nat} {V : Nat → Nat → Int32} {L : Nat → Nat → Int64} {k z : Nat} {r N : Nat} (hr : isRum r) (hN : V 1 0 = nI N) (hb : N ≤ 12) (hM : jv_M g X T) : ∀ (m : Nat) (i : Nat) (a : Int32), i ≤ N → N + 1 ≤ i + m → T (.inl (some (.int (hbL V r (N - i) i a)))) n (SH sx) V L → jv_J g X I_X1_headsThatBelieve 4 [some (jv_r g r), some (jv_r g 1), some (.int a), some (.int (nI i))] [] n (SH sx) V L k z := by
  intro m
  induction m with
  | zero => intro i a hi him hT; omega
  | succ m ih =>
  intro i a hi him hT
  refine j_iload_n_3 dX1_headsThatBelieve_4 ?_
  refine j_aload_n_1 dX1_headsThatBelieve_5 ?_
  refine G_X1_61 rfl dX1_headsThatBelieve_6 sk_1 ?_
  refine j_top (y := nI N) hN ?_
  refine j_ic_geN (by omega) (by omega) (tgt := 37) dX1_headsThatBelieve_9 (by decide) (fun h9 => ?_) (fun h9 => ?_)
  · refine j_iload_n_2 dX1_headsThatBelieve_37 ?_
    exact j_iret hM dX1_headsThatBelieve_38 rfl (by rw [show N - i = 0 by omega] at hT; exact hT)
  · refine j_aload_n_0 dX1_headsThatBelieve_12 ?_
    refine G_X1_18 rfl dX1_headsThatBelieve_13 (sk_rum hr) (sr_rum_2 hr) ?_
    refine j_iload_n_3 dX1_headsThatBelieve_16 ?_
    refine j_iald dX1_headsThatBelieve_17 (sk_rua_1 hr) (sn_rua_1 hr) (by omega) (by decide) ?_
    refine j_iconst (v := nI 1) dX1_headsThatBelieve_18 nc_iconst_1 ?_
    refine j_ic_ne (tgt := 31) dX1_headsThatBelieve_19 (by decide) (fun h19 => ?_) (fun h19 => ?_)
    · refine j_inc1_3 rfl (by decide) dX1_headsThatBelieve_31 ?_
      refine j_goto (tgt := 4) dX1_headsThatBelieve_34 (by decide) ?_
      refine ih (i + 1) _ (by omega) (by omega) ?_
      rw [show N - i = (N - (i + 1)) + 1 by omega] at hT
      unfold hbL at hT
      rw [if_neg h19] at hT
      exact hT
    · refine j_iload_n_2 dX1_headsThatBelieve_22 ?_
      refine j_aload_n_1 dX1_headsThatBelieve_23 ?_
      refine G_X1_89 rfl dX1_headsThatBelieve_24 sk_1 sr_1_2 ?_
      refine j_iload_n_3 dX1_headsThatBelieve_27 ?_
      refine j_iald dX1_headsThatBelieve_28 sk_2 sn_2 (by omega) (by decide) ?_
      refine j_iadd dX1_headsThatBelieve_29 ?_
      refine j_istore_n_2 rfl (by decide) dX1_headsThatBelieve_30 ?_
      refine j_inc1_3 rfl (by decide) dX1_headsThatBelieve_31 ?_
      refine j_goto (tgt := 4) dX1_headsThatBelieve_34 (by decide) ?_
      refine ih (i + 1) _ (by omega) (by omega) ?_
      rw [show N - i = (N - (i + 1)) + 1 by omega] at hT
      unfold hbL at hT
      rw [if_pos h19] at hT
      exact hT

set_option maxHeartbeats 4000000 in
set_option maxRecDepth 100000 in
theorem c_headsThatBelieve {sx : Nat → jv_S} {g : jv_G} {X : jv_X} {T : jv_T} {n : Nat} {V : Nat → Nat → Int32} {L : Nat → Nat → Int64} {k z : Nat} {r N : Nat} (hr : isRum r) (hN : V 1 0 = nI N) (hb : N ≤ 12) (hM : jv_M g X T) (hT : T (.inl (some (.int (hbL V r N 0 (nI 0))))) n (SH sx) V L) : jv_J g X I_X1_headsThatBelieve 0 [some (jv_r g r), some (jv_r g 1), none, none] [] n (SH sx) V L k z := by
  refine j_iconst (v := nI 0) dX1_headsThatBelieve_0 nc_iconst_0 ?_
  refine j_istore_n_2 rfl (by decide) dX1_headsThatBelieve_1 ?_
  refine j_iconst (v := nI 0) dX1_headsThatBelieve_2 nc_iconst_0 ?_
  refine j_istore_n_3 rfl (by decide) dX1_headsThatBelieve_3 ?_
  exact c_heads_loop hr hN hb hM (N + 1) 0 _ (by omega) (by omega) hT

def cpR (V : Nat → Nat → Int32) (s r : Nat) : Nat → Nat → Int32 := (jv_cpy (jv_cpy (jv_cpy (jv_cpy (jv_cpy (jv_cpy (jv_cpy (jv_cpy (jv_cpy (jv_U (jv_U V r 0 (V s 0)) r 1 (V s 1)) (s + 1) (r + 1) 12) (s + 2) (r + 2) 12) (s + 3) (r + 3) 12) (s + 4) (r + 4) 12) (s + 5) (r + 5) 12) (s + 6) (r + 6) 12) (s + 7) (r + 7) 12) (s + 8) (r + 8) 12) (s + 9) (r + 9) 12)

set_option maxHeartbeats 4000000 in
set_option maxRecDepth 100000 in
theorem c_copyFrom {sx : Nat → jv_S} {g : jv_G} {X : jv_X} {T : jv_T} {n : Nat} {V : Nat → Nat → Int32} {L : Nat → Nat → Int64} {k z : Nat} {s r : Nat} (hr : isRum r) (hs : isRum s) (hsr : s ≠ r) (hM : jv_M g X T) (hT : T (.inl none) n (SH sx) (cpR V s r) L) : jv_J g X I_X1_copyFrom 0 [some (jv_r g r), some (jv_r g s)] [] n (SH sx) V L k z := by
  refine j_aload_n_0 dX1_copyFrom_0 ?_
  refine j_aload_n_1 dX1_copyFrom_1 ?_
  refine G_X1_9 rfl dX1_copyFrom_2 (sk_rum hs) ?_
  refine P_X1_9 rfl dX1_copyFrom_5 (sk_rum hr) ?_
  refine j_aload_n_0 dX1_copyFrom_8 ?_
  refine j_aload_n_1 dX1_copyFrom_9 ?_
  refine G_X1_15 rfl dX1_copyFrom_10 (sk_rum hs) ?_
  refine j_top (y := V s 1) (jv_Une hsr) ?_
  refine P_X1_15 rfl dX1_copyFrom_13 (sk_rum hr) ?_
  refine j_aload_n_1 dX1_copyFrom_16 ?_
  refine G_X1_18 rfl dX1_copyFrom_17 (sk_rum hs) (sr_rum_2 hs) ?_
  refine j_iconst (v := nI 0) dX1_copyFrom_20 nc_iconst_0 ?_
  refine j_aload_n_0 dX1_copyFrom_21 ?_
  refine G_X1_18 rfl dX1_copyFrom_22 (sk_rum hr) (sr_rum_2 hr) ?_
  refine j_iconst (v := nI 0) dX1_copyFrom_25 nc_iconst_0 ?_
  refine j_bipush (v := nI 12) dX1_copyFrom_26 nc_bipush_12 ?_
  refine AC_X1_50 rfl (by decide) dX1_copyFrom_28 (sk_rua_1 hs) (sk_rua_1 hr) (sn_rua_1 hs) (sn_rua_1 hr) (by decide) (by decide) (Nat.le_of_ble_eq_true rfl) ?_
  refine j_aload_n_1 dX1_copyFrom_31 ?_
  refine G_X1_22 rfl dX1_copyFrom_32 (sk_rum hs) (sr_rum_3 hs) ?_
  refine j_iconst (v := nI 0) dX1_copyFrom_35 nc_iconst_0 ?_
  refine j_aload_n_0 dX1_copyFrom_36 ?_
  refine G_X1_22 rfl dX1_copyFrom_37 (sk_rum hr) (sr_rum_3 hr) ?_
  refine j_iconst (v := nI 0) dX1_copyFrom_40 nc_iconst_0 ?_
  refine j_bipush (v := nI 12) dX1_copyFrom_41 nc_bipush_12 ?_
  refine AC_X1_50 rfl (by decide) dX1_copyFrom_43 (sk_rua_2 hs) (sk_rua_2 hr) (sn_rua_2 hs) (sn_rua_2 hr) (by decide) (by decide) (Nat.le_of_ble_eq_true rfl) ?_
  refine j_aload_n_1 dX1_copyFrom_46 ?_
  refine G_X1_25 rfl dX1_copyFrom_47 (sk_rum hs) (sr_rum_4 hs) ?_
  refine j_iconst (v := nI 0) dX1_copyFrom_50 nc_iconst_0 ?_
  refine j_aload_n_0 dX1_copyFrom_51 ?_
  refine G_X1_25 rfl dX1_copyFrom_52 (sk_rum hr) (sr_rum_4 hr) ?_
  refine j_iconst (v := nI 0) dX1_copyFrom_55 nc_iconst_0 ?_
  refine j_bipush (v := nI 12) dX1_copyFrom_56 nc_bipush_12 ?_
  refine AC_X1_50 rfl (by decide) dX1_copyFrom_58 (sk_rua_3 hs) (sk_rua_3 hr) (sn_rua_3 hs) (sn_rua_3 hr) (by decide) (by decide) (Nat.le_of_ble_eq_true rfl) ?_
  refine j_aload_n_1 dX1_copyFrom_61 ?_
  refine G_X1_28 rfl dX1_copyFrom_62 (sk_rum hs) (sr_rum_5 hs) ?_
  refine j_iconst (v := nI 0) dX1_copyFrom_65 nc_iconst_0 ?_
  refine j_aload_n_0 dX1_copyFrom_66 ?_
  refine G_X1_28 rfl dX1_copyFrom_67 (sk_rum hr) (sr_rum_5 hr) ?_
  refine j_iconst (v := nI 0) dX1_copyFrom_70 nc_iconst_0 ?_
  refine j_bipush (v := nI 12) dX1_copyFrom_71 nc_bipush_12 ?_
  refine AC_X1_50 rfl (by decide) dX1_copyFrom_73 (sk_rua_4 hs) (sk_rua_4 hr) (sn_rua_4 hs) (sn_rua_4 hr) (by decide) (by decide) (Nat.le_of_ble_eq_true rfl) ?_
  refine j_aload_n_1 dX1_copyFrom_76 ?_
  refine G_X1_31 rfl dX1_copyFrom_77 (sk_rum hs) (sr_rum_6 hs) ?_
  refine j_iconst (v := nI 0) dX1_copyFrom_80 nc_iconst_0 ?_
  refine j_aload_n_0 dX1_copyFrom_81 ?_
  refine G_X1_31 rfl dX1_copyFrom_82 (sk_rum hr) (sr_rum_6 hr) ?_
  refine j_iconst (v := nI 0) dX1_copyFrom_85 nc_iconst_0 ?_
  refine j_bipush (v := nI 12) dX1_copyFrom_86 nc_bipush_12 ?_
  refine AC_X1_50 rfl (by decide) dX1_copyFrom_88 (sk_rua_5 hs) (sk_rua_5 hr) (sn_rua_5 hs) (sn_rua_5 hr) (by decide) (by decide) (Nat.le_of_ble_eq_true rfl) ?_
  refine j_aload_n_1 dX1_copyFrom_91 ?_
  refine G_X1_34 rfl dX1_copyFrom_92 (sk_rum hs) (sr_rum_7 hs) ?_
  refine j_iconst (v := nI 0) dX1_copyFrom_95 nc_iconst_0 ?_
  refine j_aload_n_0 dX1_copyFrom_96 ?_
  refine G_X1_34 rfl dX1_copyFrom_97 (sk_rum hr) (sr_rum_7 hr) ?_
  refine j_iconst (v := nI 0) dX1_copyFrom_100 nc_iconst_0 ?_
  refine j_bipush (v := nI 12) dX1_copyFrom_101 nc_bipush_12 ?_
  refine AC_X1_50 rfl (by decide) dX1_copyFrom_103 (sk_rua_6 hs) (sk_rua_6 hr) (sn_rua_6 hs) (sn_rua_6 hr) (by decide) (by decide) (Nat.le_of_ble_eq_true rfl) ?_
  refine j_aload_n_1 dX1_copyFrom_106 ?_
  refine G_X1_37 rfl dX1_copyFrom_107 (sk_rum hs) (sr_rum_8 hs) ?_
  refine j_iconst (v := nI 0) dX1_copyFrom_110 nc_iconst_0 ?_
  refine j_aload_n_0 dX1_copyFrom_111 ?_
  refine G_X1_37 rfl dX1_copyFrom_112 (sk_rum hr) (sr_rum_8 hr) ?_
  refine j_iconst (v := nI 0) dX1_copyFrom_115 nc_iconst_0 ?_
  refine j_bipush (v := nI 12) dX1_copyFrom_116 nc_bipush_12 ?_
  refine AC_X1_50 rfl (by decide) dX1_copyFrom_118 (sk_rua_7 hs) (sk_rua_7 hr) (sn_rua_7 hs) (sn_rua_7 hr) (by decide) (by decide) (Nat.le_of_ble_eq_true rfl) ?_
  refine j_aload_n_1 dX1_copyFrom_121 ?_
  refine G_X1_40 rfl dX1_copyFrom_122 (sk_rum hs) (sr_rum_9 hs) ?_
  refine j_iconst (v := nI 0) dX1_copyFrom_125 nc_iconst_0 ?_
  refine j_aload_n_0 dX1_copyFrom_126 ?_
  refine G_X1_40 rfl dX1_copyFrom_127 (sk_rum hr) (sr_rum_9 hr) ?_
  refine j_iconst (v := nI 0) dX1_copyFrom_130 nc_iconst_0 ?_
  refine j_bipush (v := nI 12) dX1_copyFrom_131 nc_bipush_12 ?_
  refine AC_X1_50 rfl (by decide) dX1_copyFrom_133 (sk_rua_8 hs) (sk_rua_8 hr) (sn_rua_8 hs) (sn_rua_8 hr) (by decide) (by decide) (Nat.le_of_ble_eq_true rfl) ?_
  refine j_aload_n_1 dX1_copyFrom_136 ?_
  refine G_X1_43 rfl dX1_copyFrom_137 (sk_rum hs) (sr_rum_10 hs) ?_
  refine j_iconst (v := nI 0) dX1_copyFrom_140 nc_iconst_0 ?_
  refine j_aload_n_0 dX1_copyFrom_141 ?_
  refine G_X1_43 rfl dX1_copyFrom_142 (sk_rum hr) (sr_rum_10 hr) ?_
  refine j_iconst (v := nI 0) dX1_copyFrom_145 nc_iconst_0 ?_
  refine j_bipush (v := nI 12) dX1_copyFrom_146 nc_bipush_12 ?_
  refine AC_X1_50 rfl (by decide) dX1_copyFrom_148 (sk_rua_9 hs) (sk_rua_9 hr) (sn_rua_9 hs) (sn_rua_9 hr) (by decide) (by decide) (Nat.le_of_ble_eq_true rfl) ?_
  exact j_vret hM dX1_copyFrom_151 rfl hT

def stI (V : Nat → Nat → Int32) (r i : Nat) : Nat → Nat → Int32 := fun q c => if c < i ∧ r < q ∧ q < r + 10 then (if q = r + 1 then nI 0 else -1) else V q c
theorem stI_0 {V : Nat → Nat → Int32} {r : Nat} : stI V r 0 = V := by
  funext q c
  unfold stI
  rw [if_neg (by omega)]
theorem stI_s {V : Nat → Nat → Int32} {r i : Nat} : jv_U (jv_U (jv_U (jv_U (jv_U (jv_U (jv_U (jv_U (jv_U (stI V r i) (r + 1) i (nI 0)) (r + 2) i (-1)) (r + 3) i (-1)) (r + 4) i (-1)) (r + 5) i (-1)) (r + 6) i (-1)) (r + 7) i (-1)) (r + 8) i (-1)) (r + 9) i (-1) = stI V r (i + 1) := by
  funext q c
  unfold jv_U stI
  by_cases hc : c = i
  · subst hc
    simp only [if_true]
    by_cases hq : r < q ∧ q < r + 10
    · rw [if_pos (⟨Nat.lt_succ_self c, hq⟩ : c < c + 1 ∧ r < q ∧ q < r + 10)]
      by_cases h9 : q = r + 9
      · rw [if_pos h9, if_neg (by omega)]
      rw [if_neg h9]
      by_cases h9 : q = r + 8
      · rw [if_pos h9, if_neg (by omega)]
      rw [if_neg h9]
      by_cases h9 : q = r + 7
      · rw [if_pos h9, if_neg (by omega)]
      rw [if_neg h9]
      by_cases h9 : q = r + 6
      · rw [if_pos h9, if_neg (by omega)]
      rw [if_neg h9]
      by_cases h9 : q = r + 5
      · rw [if_pos h9, if_neg (by omega)]
      rw [if_neg h9]
      by_cases h9 : q = r + 4
      · rw [if_pos h9, if_neg (by omega)]
      rw [if_neg h9]
      by_cases h9 : q = r + 3
      · rw [if_pos h9, if_neg (by omega)]
      rw [if_neg h9]
      by_cases h9 : q = r + 2
      · rw [if_pos h9, if_neg (by omega)]
      rw [if_neg h9]
      have h1 : q = r + 1 := by omega
      rw [if_pos h1, if_pos h1]
    · rw [if_neg (by omega), if_neg (by omega), if_neg (by omega), if_neg (by omega), if_neg (by omega), if_neg (by omega), if_neg (by omega), if_neg (by omega), if_neg (by omega), if_neg (fun d : c < c ∧ r < q ∧ q < r + 10 => hq d.2), if_neg (fun d : c < c + 1 ∧ r < q ∧ q < r + 10 => hq d.2)]
  · simp only [if_neg hc, ite_self]
    by_cases h : c < i ∧ r < q ∧ q < r + 10
    · rw [if_pos h, if_pos (⟨by omega, h.2⟩ : c < i + 1 ∧ r < q ∧ q < r + 10)]
    · rw [if_neg h, if_neg (fun d : c < i + 1 ∧ r < q ∧ q < r + 10 => h ⟨by omega, d.2⟩)]
theorem stI_out {V : Nat → Nat → Int32} {r i q : Nat} (h1 : Rout r q) : stI V r i q = V q := by
  have h1 : q < r + 1 ∨ r + 9 < q := h1
  funext c
  unfold stI
  rw [if_neg (by omega)]
/-- a rumour is started at floor f, with reach y, in hour h -/
def staR (V : Nat → Nat → Int32) (r f : Nat) (y h : Int32) : Nat → Nat → Int32 := brR (stI (jv_U (jv_U V r 0 (nI f)) r 1 y) r 12) r f (nI 0) h

set_option maxHeartbeats 4000000 in
set_option maxRecDepth 100000 in
theorem c_start_loop {sx : Nat → jv_S} {g : jv_G} {X : jv_X} {T : jv_T} {n : Nat} {V : Nat → Nat → Int32} {L : Nat → Nat → Int64} {k z : Nat} {r f : Nat} {y h : Int32} (hr : isRum r) (hf : f < 12) (hM : jv_M g X T) (hT : T (.inl none) n (SH sx) (brR (stI V r 12) r f (nI 0) h) L) : ∀ (m : Nat) (i : Nat), i ≤ 12 → 13 ≤ i + m → jv_J g X I_X1_start 13 [some (jv_r g r), some (jv_r g 1), some (.int (nI f)), some (.int y), some (.int h), some (.int (nI i))] [] n (SH sx) (stI V r i) L k z := by
  intro m
  induction m with
  | zero => intro i hi him; omega
  | succ m ih =>
  intro i hi him
  refine j_iload_5 dX1_start_13 ?_
  refine j_bipush (v := nI 12) dX1_start_15 nc_bipush_12 ?_
  refine j_ic_geN (by omega) (by omega) (tgt := 98) dX1_start_17 (by decide) (fun h17 => ?_) (fun h17 => ?_)
  · have e12 : i = 12 := by omega
    subst e12
    refine j_aload_n_0 dX1_start_98 ?_
    refine j_aload_n_1 dX1_start_99 ?_
    refine j_iload_n_2 dX1_start_100 ?_
    refine j_iconst (v := nI 0) dX1_start_101 nc_iconst_0 ?_
    refine j_iload_4 dX1_start_102 ?_
    refine C_X1_46 rfl (by decide) dX1_start_104 (sk_rum hr) (Nat.le_of_ble_eq_true rfl) (Nat.le_of_eq (Nat.zero_add _)) (Nat.le_of_eq (Nat.zero_add _)) (fun _ _ hM' hT' => c_bringRumour hr hf hM' hT') ?_
    refine j_pop rfl dX1_start_107 ?_
    exact j_vret hM dX1_start_108 rfl hT
  · refine j_aload_n_0 dX1_start_20 ?_
    refine G_X1_18 rfl dX1_start_21 (sk_rum hr) (sr_rum_2 hr) ?_
    refine j_iload_5 dX1_start_24 ?_
    refine j_iconst (v := nI 0) dX1_start_26 nc_iconst_0 ?_
    refine j_iast dX1_start_27 (sk_rua_1 hr) (sn_rua_1 hr) (by omega) (by decide) ?_
    refine j_aload_n_0 dX1_start_28 ?_
    refine G_X1_22 rfl dX1_start_29 (sk_rum hr) (sr_rum_3 hr) ?_
    refine j_iload_5 dX1_start_32 ?_
    refine j_iconst (v := -1) dX1_start_34 nc_iconst_m1 ?_
    refine j_iast dX1_start_35 (sk_rua_2 hr) (sn_rua_2 hr) (by omega) (by decide) ?_
    refine j_aload_n_0 dX1_start_36 ?_
    refine G_X1_25 rfl dX1_start_37 (sk_rum hr) (sr_rum_4 hr) ?_
    refine j_iload_5 dX1_start_40 ?_
    refine j_iconst (v := -1) dX1_start_42 nc_iconst_m1 ?_
    refine j_iast dX1_start_43 (sk_rua_3 hr) (sn_rua_3 hr) (by omega) (by decide) ?_
    refine j_aload_n_0 dX1_start_44 ?_
    refine G_X1_28 rfl dX1_start_45 (sk_rum hr) (sr_rum_5 hr) ?_
    refine j_iload_5 dX1_start_48 ?_
    refine j_iconst (v := -1) dX1_start_50 nc_iconst_m1 ?_
    refine j_iast dX1_start_51 (sk_rua_4 hr) (sn_rua_4 hr) (by omega) (by decide) ?_
    refine j_aload_n_0 dX1_start_52 ?_
    refine G_X1_31 rfl dX1_start_53 (sk_rum hr) (sr_rum_6 hr) ?_
    refine j_iload_5 dX1_start_56 ?_
    refine j_iconst (v := -1) dX1_start_58 nc_iconst_m1 ?_
    refine j_iast dX1_start_59 (sk_rua_5 hr) (sn_rua_5 hr) (by omega) (by decide) ?_
    refine j_aload_n_0 dX1_start_60 ?_
    refine G_X1_34 rfl dX1_start_61 (sk_rum hr) (sr_rum_7 hr) ?_
    refine j_iload_5 dX1_start_64 ?_
    refine j_iconst (v := -1) dX1_start_66 nc_iconst_m1 ?_
    refine j_iast dX1_start_67 (sk_rua_6 hr) (sn_rua_6 hr) (by omega) (by decide) ?_
    refine j_aload_n_0 dX1_start_68 ?_
    refine G_X1_37 rfl dX1_start_69 (sk_rum hr) (sr_rum_8 hr) ?_
    refine j_iload_5 dX1_start_72 ?_
    refine j_iconst (v := -1) dX1_start_74 nc_iconst_m1 ?_
    refine j_iast dX1_start_75 (sk_rua_7 hr) (sn_rua_7 hr) (by omega) (by decide) ?_
    refine j_aload_n_0 dX1_start_76 ?_
    refine G_X1_40 rfl dX1_start_77 (sk_rum hr) (sr_rum_9 hr) ?_
    refine j_iload_5 dX1_start_80 ?_
    refine j_iconst (v := -1) dX1_start_82 nc_iconst_m1 ?_
    refine j_iast dX1_start_83 (sk_rua_8 hr) (sn_rua_8 hr) (by omega) (by decide) ?_
    refine j_aload_n_0 dX1_start_84 ?_
    refine G_X1_43 rfl dX1_start_85 (sk_rum hr) (sr_rum_10 hr) ?_
    refine j_iload_5 dX1_start_88 ?_
    refine j_iconst (v := -1) dX1_start_90 nc_iconst_m1 ?_
    refine j_iast dX1_start_91 (sk_rua_9 hr) (sn_rua_9 hr) (by omega) (by decide) ?_
    refine j_mem stI_s ?_
    refine j_inc1_5 rfl (by decide) dX1_start_92 ?_
    refine j_goto (tgt := 13) dX1_start_95 (by decide) ?_
    refine ih (i + 1) (by omega) (by omega)

set_option maxHeartbeats 4000000 in
set_option maxRecDepth 100000 in
theorem c_start {sx : Nat → jv_S} {g : jv_G} {X : jv_X} {T : jv_T} {n : Nat} {V : Nat → Nat → Int32} {L : Nat → Nat → Int64} {k z : Nat} {r f : Nat} {y h : Int32} (hr : isRum r) (hf : f < 12) (hM : jv_M g X T) (hT : T (.inl none) n (SH sx) (staR V r f y h) L) : jv_J g X I_X1_start 0 [some (jv_r g r), some (jv_r g 1), some (.int (nI f)), some (.int y), some (.int h), none] [] n (SH sx) V L k z := by
  refine j_aload_n_0 dX1_start_0 ?_
  refine j_iload_n_2 dX1_start_1 ?_
  refine P_X1_9 rfl dX1_start_2 (sk_rum hr) ?_
  refine j_aload_n_0 dX1_start_5 ?_
  refine j_iload_n_3 dX1_start_6 ?_
  refine P_X1_15 rfl dX1_start_7 (sk_rum hr) ?_
  refine j_iconst (v := nI 0) dX1_start_10 nc_iconst_0 ?_
  refine j_istore_5 rfl (by decide) dX1_start_11 ?_
  refine j_mem (stI_0 (r := r)).symm ?_
  exact c_start_loop (V := jv_U (jv_U V r 0 (nI f)) r 1 y) hr hf hM hT 13 0 (by omega) (by omega)
