/-! ===== quickest ways: hours at h, pipes at p, settled at s ===== -/
def bz (b : Bool) : Int32 := if b = true then nI 1 else nI 0
theorem bz_t {b : Bool} (h : ¬ bz b = 0) : b = true := by
  cases b
  · exact absurd (show bz false = 0 by decide +kernel) h
  · rfl
theorem bz_f {b : Bool} (h : bz b = 0) : b = false := by
  cases b
  · rfl
  · exact absurd h (by decide +kernel)
theorem nI_nm1 {j : Nat} (h : j < 2 ^ 31) : ¬ nI j = -1 := by
  intro c
  have := congrArg Int32.toInt c
  rw [nI_toInt h] at this
  have h2 : (-1 : Int32).toInt = -1 := by decide +kernel
  omega
def ov (b : Option Nat) : Int32 := match b with
  | none => -1
  | some j => nI j
def btI (V : Nat → Nat → Int32) (h p : Nat) (x y : Int32) (f : Nat) : Bool := decide (x < V h f) || (decide (x = V h f) && decide (y < V p f))
def btb (V : Nat → Nat → Int32) (h p : Nat) (b : Option Nat) (i : Nat) : Bool := match b with
  | none => true
  | some j => btI V h p (V h i) (V p i) j
/-- the nearest floor that isn't settled -/
def nrs (V : Nat → Nat → Int32) (h p s : Nat) : Nat → Nat → Option Nat → Option Nat
  | 0, _, b => b
  | m + 1, i, b => nrs V h p s m (i + 1) (if (V s i = 0 ∧ ¬ V h i = -1) ∧ btb V h p b i = true then some i else b)
theorem nrs_lt {V : Nat → Nat → Int32} {h p s N : Nat} : ∀ m i b, i + m ≤ N → (∀ j, b = some j → j < N) → ∀ j, nrs V h p s m i b = some j → j < N := by
  intro m
  induction m with
  | zero => intro i b _ hb j hj; exact hb j hj
  | succ m ih =>
    intro i b hi hb j hj
    refine ih (i + 1) _ (by omega) (fun j' hj' => ?_) j hj
    split at hj'
    · cases hj'; omega
    · exact hb j' hj'

set_option maxHeartbeats 4000000 in
set_option maxRecDepth 100000 in
theorem c_isBetterC {sx : Nat → jv_S} {g : jv_G} {X : jv_X} {T : jv_T} {n : Nat} {V : Nat → Nat → Int32} {L : Nat → Nat → Int64} {k z : Nat} {x y : Int32} {f : Nat} (hf : f < 12) (hM : jv_M g X T) (hT : T (.inl (some (.int (bz (btI V 29 30 x y f))))) n (SH sx) V L) : jv_J g X I_X3_isBetter 0 [some (jv_r g 28), some (.int x), some (.int y), some (.int (nI f))] [] n (SH sx) V L k z := by
  refine j_iload_n_1 dX3_isBetter_0 ?_
  refine j_aload_n_0 dX3_isBetter_1 ?_
  refine G_X3_9 rfl dX3_isBetter_2 sk_28 sr_28_0 ?_
  refine j_iload_n_3 dX3_isBetter_5 ?_
  refine j_iald dX3_isBetter_6 sk_29 sn_29 (by omega) (by decide) ?_
  refine j_ic_lt (tgt := 30) dX3_isBetter_7 (by decide) (fun h7 => ?_) (fun h7 => ?_)
  · refine j_iconst (v := nI 1) dX3_isBetter_30 nc_iconst_1 ?_
    refine j_goto (tgt := 35) dX3_isBetter_31 (by decide) ?_
    exact j_zret hM dX3_isBetter_35 rfl (jv_b01 (by first | exact Or.inl rfl | exact Or.inr rfl | assumption)) (by rw [show btI V 29 30 x y f = true by simp [btI, h7]] at hT; exact hT)
  · refine j_iload_n_1 dX3_isBetter_10 ?_
    refine j_aload_n_0 dX3_isBetter_11 ?_
    refine G_X3_9 rfl dX3_isBetter_12 sk_28 sr_28_0 ?_
    refine j_iload_n_3 dX3_isBetter_15 ?_
    refine j_iald dX3_isBetter_16 sk_29 sn_29 (by omega) (by decide) ?_
    refine j_ic_ne (tgt := 34) dX3_isBetter_17 (by decide) (fun h17 => ?_) (fun h17 => ?_)
    · refine j_iconst (v := nI 0) dX3_isBetter_34 nc_iconst_0 ?_
      exact j_zret hM dX3_isBetter_35 rfl (jv_b01 (by first | exact Or.inl rfl | exact Or.inr rfl | assumption)) (by rw [show btI V 29 30 x y f = false by simp [btI, h7, h17]] at hT; exact hT)
    · refine j_iload_n_2 dX3_isBetter_20 ?_
      refine j_aload_n_0 dX3_isBetter_21 ?_
      refine G_X3_15 rfl dX3_isBetter_22 sk_28 sr_28_1 ?_
      refine j_iload_n_3 dX3_isBetter_25 ?_
      refine j_iald dX3_isBetter_26 sk_30 sn_30 (by omega) (by decide) ?_
      refine j_ic_ge (tgt := 34) dX3_isBetter_27 (by decide) (fun h27 => ?_) (fun h27 => ?_)
      · refine j_iconst (v := nI 0) dX3_isBetter_34 nc_iconst_0 ?_
        exact j_zret hM dX3_isBetter_35 rfl (jv_b01 (by first | exact Or.inl rfl | exact Or.inr rfl | assumption)) (by rw [show btI V 29 30 x y f = false by simp [btI, h7, h17, Int32.not_lt.mpr h27]] at hT; exact hT)
      · refine j_iconst (v := nI 1) dX3_isBetter_30 nc_iconst_1 ?_
        refine j_goto (tgt := 35) dX3_isBetter_31 (by decide) ?_
        exact j_zret hM dX3_isBetter_35 rfl (jv_b01 (by first | exact Or.inl rfl | exact Or.inr rfl | assumption)) (by rw [show btI V 29 30 x y f = true by simp [btI, h17, Int32.not_le.mp h27]] at hT; exact hT)

set_option maxHeartbeats 4000000 in
set_option maxRecDepth 100000 in
theorem c_near_loop {sx : Nat → jv_S} {g : jv_G} {X : jv_X} {T : jv_T} {n : Nat} {V : Nat → Nat → Int32} {L : Nat → Nat → Int64} {k z : Nat} {N : Nat} (hb : N ≤ 12) (hM : jv_M g X T) : ∀ (m : Nat) (i : Nat) (b : Option Nat) (v4 : Option Value), i ≤ N → N + 1 ≤ i + m → (∀ j, b = some j → j < 12) → T (.inl (some (.int (ov (nrs V 29 30 31 (N - i) i b))))) n (SH sx) V L → jv_J g X I_X3_nearest 4 [some (jv_r g 28), some (.int (nI N)), some (.int (ov b)), some (.int (nI i)), v4] [] n (SH sx) V L k z := by
  intro m
  induction m with
  | zero => intro i b v4 hi him hbj hT; omega
  | succ m ih =>
  intro i b v4 hi him hbj hT
  cases b with
  | none =>
    show jv_J g X I_X3_nearest 4 [some (jv_r g 28), some (.int (nI N)), some (.int (-1)), some (.int (nI i)), v4] [] n (SH sx) V L k z
    refine j_iload_n_3 dX3_nearest_4 ?_
    refine j_iload_n_1 dX3_nearest_5 ?_
    refine j_ic_geN (by omega) (by omega) (tgt := 73) dX3_nearest_6 (by decide) (fun h6 => ?_) (fun h6 => ?_)
    · refine j_iload_n_2 dX3_nearest_73 ?_
      exact j_iret hM dX3_nearest_74 rfl (by rw [show N - i = 0 by omega] at hT; exact hT)
    · refine j_aload_n_0 dX3_nearest_9 ?_
      refine G_X3_18 rfl dX3_nearest_10 sk_28 sr_28_2 ?_
      refine j_iload_n_3 dX3_nearest_13 ?_
      refine j_bald dX3_nearest_14 sk_31 sn_31 (by omega) (by decide) ?_
      refine j_if_ne (tgt := 32) dX3_nearest_15 (by decide) (fun h15 => ?_) (fun h15 => ?_)
      · refine j_iconst (v := nI 0) dX3_nearest_32 nc_iconst_0 ?_
        refine j_istore_4 rfl (by decide) dX3_nearest_33 ?_
        refine j_iload_4 dX3_nearest_35 ?_
        refine j_if_eq (tgt := 67) dX3_nearest_37 (by decide) (fun h37 => ?_) (fun h37 => ?_)
        · refine j_inc1_3 rfl (by decide) dX3_nearest_67 ?_
          refine j_goto (tgt := 4) dX3_nearest_70 (by decide) ?_
          refine ih (i + 1) none _ (by omega) (by omega) hbj ?_
          rw [show N - i = (N - (i + 1)) + 1 by omega] at hT
          simp only [nrs, h15, not_true_eq_false, not_false_eq_true, true_and, and_true, false_and, and_false, or_true, true_or, or_false, false_or, if_true, if_false, ite_true, ite_false, reduceIte, Bool.false_eq_true] at hT
          exact hT
        · exact absurd nI_0 h37
      · refine j_aload_n_0 dX3_nearest_18 ?_
        refine G_X3_9 rfl dX3_nearest_19 sk_28 sr_28_0 ?_
        refine j_iload_n_3 dX3_nearest_22 ?_
        refine j_iald dX3_nearest_23 sk_29 sn_29 (by omega) (by decide) ?_
        refine j_iconst (v := -1) dX3_nearest_24 nc_iconst_m1 ?_
        refine j_ic_eq (tgt := 32) dX3_nearest_25 (by decide) (fun h25 => ?_) (fun h25 => ?_)
        · refine j_iconst (v := nI 0) dX3_nearest_32 nc_iconst_0 ?_
          refine j_istore_4 rfl (by decide) dX3_nearest_33 ?_
          refine j_iload_4 dX3_nearest_35 ?_
          refine j_if_eq (tgt := 67) dX3_nearest_37 (by decide) (fun h37 => ?_) (fun h37 => ?_)
          · refine j_inc1_3 rfl (by decide) dX3_nearest_67 ?_
            refine j_goto (tgt := 4) dX3_nearest_70 (by decide) ?_
            refine ih (i + 1) none _ (by omega) (by omega) hbj ?_
            rw [show N - i = (N - (i + 1)) + 1 by omega] at hT
            simp only [nrs, h15, h25, not_true_eq_false, not_false_eq_true, true_and, and_true, false_and, and_false, or_true, true_or, or_false, false_or, if_true, if_false, ite_true, ite_false, reduceIte, Bool.false_eq_true] at hT
            exact hT
          · exact absurd nI_0 h37
        · refine j_iconst (v := nI 1) dX3_nearest_28 nc_iconst_1 ?_
          refine j_goto (tgt := 33) dX3_nearest_29 (by decide) ?_
          refine j_istore_4 rfl (by decide) dX3_nearest_33 ?_
          refine j_iload_4 dX3_nearest_35 ?_
          refine j_if_eq (tgt := 67) dX3_nearest_37 (by decide) (fun h37 => ?_) (fun h37 => ?_)
          · exact absurd h37 (by decide +kernel)
          · refine j_iload_n_2 dX3_nearest_40 ?_
            refine j_iconst (v := -1) dX3_nearest_41 nc_iconst_m1 ?_
            refine j_ic_eq (tgt := 65) dX3_nearest_42 (by decide) (fun h42 => ?_) (fun h42 => ?_)
            · refine j_iload_n_3 dX3_nearest_65 ?_
              refine j_istore_n_2 rfl (by decide) dX3_nearest_66 ?_
              refine j_inc1_3 rfl (by decide) dX3_nearest_67 ?_
              refine j_goto (tgt := 4) dX3_nearest_70 (by decide) ?_
              refine ih (i + 1) (some i) _ (by omega) (by omega) (fun j hj => by cases hj; omega) ?_
              rw [show N - i = (N - (i + 1)) + 1 by omega] at hT
              simp only [nrs, h15, h25, btb, not_true_eq_false, not_false_eq_true, true_and, and_true, false_and, and_false, or_true, true_or, or_false, false_or, if_true, if_false, ite_true, ite_false, reduceIte, Bool.false_eq_true] at hT
              exact hT
            · exact absurd rfl h42
  | some j =>
    have hj : j < 12 := hbj j rfl
    show jv_J g X I_X3_nearest 4 [some (jv_r g 28), some (.int (nI N)), some (.int (nI j)), some (.int (nI i)), v4] [] n (SH sx) V L k z
    refine j_iload_n_3 dX3_nearest_4 ?_
    refine j_iload_n_1 dX3_nearest_5 ?_
    refine j_ic_geN (by omega) (by omega) (tgt := 73) dX3_nearest_6 (by decide) (fun h6 => ?_) (fun h6 => ?_)
    · refine j_iload_n_2 dX3_nearest_73 ?_
      exact j_iret hM dX3_nearest_74 rfl (by rw [show N - i = 0 by omega] at hT; exact hT)
    · refine j_aload_n_0 dX3_nearest_9 ?_
      refine G_X3_18 rfl dX3_nearest_10 sk_28 sr_28_2 ?_
      refine j_iload_n_3 dX3_nearest_13 ?_
      refine j_bald dX3_nearest_14 sk_31 sn_31 (by omega) (by decide) ?_
      refine j_if_ne (tgt := 32) dX3_nearest_15 (by decide) (fun h15 => ?_) (fun h15 => ?_)
      · refine j_iconst (v := nI 0) dX3_nearest_32 nc_iconst_0 ?_
        refine j_istore_4 rfl (by decide) dX3_nearest_33 ?_
        refine j_iload_4 dX3_nearest_35 ?_
        refine j_if_eq (tgt := 67) dX3_nearest_37 (by decide) (fun h37 => ?_) (fun h37 => ?_)
        · refine j_inc1_3 rfl (by decide) dX3_nearest_67 ?_
          refine j_goto (tgt := 4) dX3_nearest_70 (by decide) ?_
          refine ih (i + 1) (some j) _ (by omega) (by omega) hbj ?_
          rw [show N - i = (N - (i + 1)) + 1 by omega] at hT
          simp only [nrs, h15, not_true_eq_false, not_false_eq_true, true_and, and_true, false_and, and_false, or_true, true_or, or_false, false_or, if_true, if_false, ite_true, ite_false, reduceIte, Bool.false_eq_true] at hT
          exact hT
        · exact absurd nI_0 h37
      · refine j_aload_n_0 dX3_nearest_18 ?_
        refine G_X3_9 rfl dX3_nearest_19 sk_28 sr_28_0 ?_
        refine j_iload_n_3 dX3_nearest_22 ?_
        refine j_iald dX3_nearest_23 sk_29 sn_29 (by omega) (by decide) ?_
        refine j_iconst (v := -1) dX3_nearest_24 nc_iconst_m1 ?_
        refine j_ic_eq (tgt := 32) dX3_nearest_25 (by decide) (fun h25 => ?_) (fun h25 => ?_)
        · refine j_iconst (v := nI 0) dX3_nearest_32 nc_iconst_0 ?_
          refine j_istore_4 rfl (by decide) dX3_nearest_33 ?_
          refine j_iload_4 dX3_nearest_35 ?_
          refine j_if_eq (tgt := 67) dX3_nearest_37 (by decide) (fun h37 => ?_) (fun h37 => ?_)
          · refine j_inc1_3 rfl (by decide) dX3_nearest_67 ?_
            refine j_goto (tgt := 4) dX3_nearest_70 (by decide) ?_
            refine ih (i + 1) (some j) _ (by omega) (by omega) hbj ?_
            rw [show N - i = (N - (i + 1)) + 1 by omega] at hT
            simp only [nrs, h15, h25, not_true_eq_false, not_false_eq_true, true_and, and_true, false_and, and_false, or_true, true_or, or_false, false_or, if_true, if_false, ite_true, ite_false, reduceIte, Bool.false_eq_true] at hT
            exact hT
          · exact absurd nI_0 h37
        · refine j_iconst (v := nI 1) dX3_nearest_28 nc_iconst_1 ?_
          refine j_goto (tgt := 33) dX3_nearest_29 (by decide) ?_
          refine j_istore_4 rfl (by decide) dX3_nearest_33 ?_
          refine j_iload_4 dX3_nearest_35 ?_
          refine j_if_eq (tgt := 67) dX3_nearest_37 (by decide) (fun h37 => ?_) (fun h37 => ?_)
          · exact absurd h37 (by decide +kernel)
          · refine j_iload_n_2 dX3_nearest_40 ?_
            refine j_iconst (v := -1) dX3_nearest_41 nc_iconst_m1 ?_
            refine j_ic_eq (tgt := 65) dX3_nearest_42 (by decide) (fun h42 => ?_) (fun h42 => ?_)
            · exact absurd h42 (nI_nm1 (by omega))
            · refine j_aload_n_0 dX3_nearest_45 ?_
              refine j_aload_n_0 dX3_nearest_46 ?_
              refine G_X3_9 rfl dX3_nearest_47 sk_28 sr_28_0 ?_
              refine j_iload_n_3 dX3_nearest_50 ?_
              refine j_iald dX3_nearest_51 sk_29 sn_29 (by omega) (by decide) ?_
              refine j_aload_n_0 dX3_nearest_52 ?_
              refine G_X3_15 rfl dX3_nearest_53 sk_28 sr_28_1 ?_
              refine j_iload_n_3 dX3_nearest_56 ?_
              refine j_iald dX3_nearest_57 sk_30 sn_30 (by omega) (by decide) ?_
              refine j_iload_n_2 dX3_nearest_58 ?_
              refine C_X3_36 rfl (by decide) dX3_nearest_59 sk_28 (Nat.le_of_ble_eq_true rfl) (Nat.le_of_eq (Nat.zero_add _)) (Nat.le_of_eq (Nat.zero_add _)) (fun _ _ hM' hT' => c_isBetterC (by omega) hM' hT') ?_
              refine j_if_eq (tgt := 67) dX3_nearest_62 (by decide) (fun h62 => ?_) (fun h62 => ?_)
              · refine j_inc1_3 rfl (by decide) dX3_nearest_67 ?_
                refine j_goto (tgt := 4) dX3_nearest_70 (by decide) ?_
                refine ih (i + 1) (some j) _ (by omega) (by omega) hbj ?_
                rw [show N - i = (N - (i + 1)) + 1 by omega] at hT
                simp only [nrs, h15, h25, btb, bz_f h62, not_true_eq_false, not_false_eq_true, true_and, and_true, false_and, and_false, or_true, true_or, or_false, false_or, if_true, if_false, ite_true, ite_false, reduceIte, Bool.false_eq_true] at hT
                exact hT
              · refine j_iload_n_3 dX3_nearest_65 ?_
                refine j_istore_n_2 rfl (by decide) dX3_nearest_66 ?_
                refine j_inc1_3 rfl (by decide) dX3_nearest_67 ?_
                refine j_goto (tgt := 4) dX3_nearest_70 (by decide) ?_
                refine ih (i + 1) (some i) _ (by omega) (by omega) (fun j hj => by cases hj; omega) ?_
                rw [show N - i = (N - (i + 1)) + 1 by omega] at hT
                simp only [nrs, h15, h25, btb, bz_t h62, not_true_eq_false, not_false_eq_true, true_and, and_true, false_and, and_false, or_true, true_or, or_false, false_or, if_true, if_false, ite_true, ite_false, reduceIte, Bool.false_eq_true] at hT
                exact hT

set_option maxHeartbeats 4000000 in
set_option maxRecDepth 100000 in
theorem c_nearest {sx : Nat → jv_S} {g : jv_G} {X : jv_X} {T : jv_T} {n : Nat} {V : Nat → Nat → Int32} {L : Nat → Nat → Int64} {k z : Nat} {N : Nat} (hb : N ≤ 12) (hM : jv_M g X T) (hT : T (.inl (some (.int (ov (nrs V 29 30 31 N 0 none))))) n (SH sx) V L) : jv_J g X I_X3_nearest 0 [some (jv_r g 28), some (.int (nI N)), none, none, none] [] n (SH sx) V L k z := by
  refine j_iconst (v := -1) dX3_nearest_0 nc_iconst_m1 ?_
  refine j_istore_n_2 rfl (by decide) dX3_nearest_1 ?_
  refine j_iconst (v := nI 0) dX3_nearest_2 nc_iconst_0 ?_
  refine j_istore_n_3 rfl (by decide) dX3_nearest_3 ?_
  exact c_near_loop hb hM (N + 1) 0 none _ (by omega) (by omega) (fun j hj => by cases hj) hT

/-- what is told on from floor f to floor i, with the pipe of x hours, the stay y -/
def ldb (V : Nat → Nat → Int32) (h p f i : Nat) (x y : Int32) : Nat → Nat → Int32 := if ¬ x = -1 ∧ (V h i = -1 ∨ btI V h p (V h f + y + x) (V p f + nI 1) i = true) then jv_U (jv_U V h i (V h f + y + x)) p i (V p f + nI 1) else V
def ldL (f : Nat) : Nat → Nat → (Nat → Nat → Int32) → (Nat → Nat → Int32)
  | 0, _, V => V
  | m + 1, i, V => ldL f m (i + 1) (ldb V 29 30 f i (V (8 + f) i) (V 3 f))
theorem ldb_out {V : Nat → Nat → Int32} {h p f i q : Nat} {x y : Int32} (h1 : q ≠ h) (h2 : q ≠ p) : ldb V h p f i x y q = V q := by
  unfold ldb
  split
  · rw [jv_U_other h2, jv_U_other h1]
  · rfl
theorem ldL_out {f q : Nat} (h1 : q ≠ 29) (h2 : q ≠ 30) : ∀ m i V, ldL f m i V q = V q := by
  intro m
  induction m with
  | zero => intro i V; rfl
  | succ m ih =>
    intro i V
    show ldL f m (i + 1) _ q = _
    rw [ih, ldb_out h1 h2]

set_option maxHeartbeats 4000000 in
set_option maxRecDepth 100000 in
theorem c_lead_loop {sx : Nat → jv_S} {g : jv_G} {X : jv_X} {T : jv_T} {n : Nat} {V : Nat → Nat → Int32} {L : Nat → Nat → Int64} {k z : Nat} {N f : Nat} (hb : N ≤ 12) (hf : f < N) (hM : jv_M g X T) : ∀ (m : Nat) (i : Nat) (V : Nat → Nat → Int32) (v4 v5 : Option Value), V 1 0 = nI N → i ≤ N → N + 1 ≤ i + m → T (.inl none) n (SH sx) (ldL f (N - i) i V) L → jv_J g X I_X3_leadOn 2 [some (jv_r g 28), some (jv_r g 1), some (.int (nI f)), some (.int (nI i)), v4, v5] [] n (SH sx) V L k z := by
  intro m
  induction m with
  | zero => intro i V v4 v5 hN hi him hT; omega
  | succ m ih =>
  intro i V v4 v5 hN hi him hT
  refine j_iload_n_3 dX3_leadOn_2 ?_
  refine j_aload_n_1 dX3_leadOn_3 ?_
  refine G_X3_22 rfl dX3_leadOn_4 sk_1 ?_
  refine j_top (y := nI N) hN ?_
  refine j_ic_geN (by omega) (by omega) (tgt := 100) dX3_leadOn_7 (by decide) (fun h7 => ?_) (fun h7 => ?_)
  · exact j_vret hM dX3_leadOn_100 rfl (by rw [show N - i = 0 by omega] at hT; exact hT)
  · refine j_aload_n_1 dX3_leadOn_10 ?_
    refine G_X3_40 rfl dX3_leadOn_11 sk_1 sr_1_7 ?_
    refine j_iload_n_2 dX3_leadOn_14 ?_
    refine jv_aald (t := 5) (fun _ => rfl) rfl (by decide) (by decide) dX3_leadOn_15 sk_7 sn_7 (by omega) (by decide) (sr_row (by omega)) ?_
    refine j_iload_n_3 dX3_leadOn_16 ?_
    refine j_iald dX3_leadOn_17 (sk_row (by omega)) (sn_row (by omega)) (by omega) (by decide) ?_
    refine j_iconst (v := -1) dX3_leadOn_18 nc_iconst_m1 ?_
    refine j_ic_eq (tgt := 94) dX3_leadOn_19 (by decide) (fun h19 => ?_) (fun h19 => ?_)
    · refine j_inc1_3 rfl (by decide) dX3_leadOn_94 ?_
      refine j_goto (tgt := 2) dX3_leadOn_97 (by decide) ?_
      refine ih (i + 1) _ _ _ hN (by omega) (by omega) ?_
      rw [show N - i = (N - (i + 1)) + 1 by omega] at hT
      simp only [ldL, ldb, h19, not_true_eq_false, not_false_eq_true, true_and, and_true, false_and, and_false, or_true, true_or, or_false, false_or, if_true, if_false, ite_true, ite_false, reduceIte, Bool.false_eq_true] at hT
      exact hT
    · refine j_aload_n_0 dX3_leadOn_22 ?_
      refine G_X3_9 rfl dX3_leadOn_23 sk_28 sr_28_0 ?_
      refine j_iload_n_2 dX3_leadOn_26 ?_
      refine j_iald dX3_leadOn_27 sk_29 sn_29 (by omega) (by decide) ?_
      refine j_aload_n_1 dX3_leadOn_28 ?_
      refine G_X3_43 rfl dX3_leadOn_29 sk_1 sr_1_3 ?_
      refine j_iload_n_2 dX3_leadOn_32 ?_
      refine j_iald dX3_leadOn_33 sk_3 sn_3 (by omega) (by decide) ?_
      refine j_iadd dX3_leadOn_34 ?_
      refine j_aload_n_1 dX3_leadOn_35 ?_
      refine G_X3_40 rfl dX3_leadOn_36 sk_1 sr_1_7 ?_
      refine j_iload_n_2 dX3_leadOn_39 ?_
      refine jv_aald (t := 5) (fun _ => rfl) rfl (by decide) (by decide) dX3_leadOn_40 sk_7 sn_7 (by omega) (by decide) (sr_row (by omega)) ?_
      refine j_iload_n_3 dX3_leadOn_41 ?_
      refine j_iald dX3_leadOn_42 (sk_row (by omega)) (sn_row (by omega)) (by omega) (by decide) ?_
      refine j_iadd dX3_leadOn_43 ?_
      refine j_istore_4 rfl (by decide) dX3_leadOn_44 ?_
      refine j_aload_n_0 dX3_leadOn_46 ?_
      refine G_X3_15 rfl dX3_leadOn_47 sk_28 sr_28_1 ?_
      refine j_iload_n_2 dX3_leadOn_50 ?_
      refine j_iald dX3_leadOn_51 sk_30 sn_30 (by omega) (by decide) ?_
      refine j_iconst (v := nI 1) dX3_leadOn_52 nc_iconst_1 ?_
      refine j_iadd dX3_leadOn_53 ?_
      refine j_istore_5 rfl (by decide) dX3_leadOn_54 ?_
      refine j_aload_n_0 dX3_leadOn_56 ?_
      refine G_X3_9 rfl dX3_leadOn_57 sk_28 sr_28_0 ?_
      refine j_iload_n_3 dX3_leadOn_60 ?_
      refine j_iald dX3_leadOn_61 sk_29 sn_29 (by omega) (by decide) ?_
      refine j_iconst (v := -1) dX3_leadOn_62 nc_iconst_m1 ?_
      refine j_ic_eq (tgt := 78) dX3_leadOn_63 (by decide) (fun h63 => ?_) (fun h63 => ?_)
      · refine j_aload_n_0 dX3_leadOn_78 ?_
        refine G_X3_9 rfl dX3_leadOn_79 sk_28 sr_28_0 ?_
        refine j_iload_n_3 dX3_leadOn_82 ?_
        refine j_iload_4 dX3_leadOn_83 ?_
        refine j_iast dX3_leadOn_85 sk_29 sn_29 (by omega) (by decide) ?_
        refine j_aload_n_0 dX3_leadOn_86 ?_
        refine G_X3_15 rfl dX3_leadOn_87 sk_28 sr_28_1 ?_
        refine j_iload_n_3 dX3_leadOn_90 ?_
        refine j_iload_5 dX3_leadOn_91 ?_
        refine j_iast dX3_leadOn_93 sk_30 sn_30 (by omega) (by decide) ?_
        refine j_inc1_3 rfl (by decide) dX3_leadOn_94 ?_
        refine j_goto (tgt := 2) dX3_leadOn_97 (by decide) ?_
        refine ih (i + 1) _ _ _ (by rw [jv_Une (by omega), jv_Une (by omega)]; exact hN) (by omega) (by omega) ?_
        rw [show N - i = (N - (i + 1)) + 1 by omega] at hT
        simp only [ldL, ldb, h19, h63, not_true_eq_false, not_false_eq_true, true_and, and_true, false_and, and_false, or_true, true_or, or_false, false_or, if_true, if_false, ite_true, ite_false, reduceIte, Bool.false_eq_true] at hT
        exact hT
      · refine j_aload_n_0 dX3_leadOn_66 ?_
        refine j_iload_4 dX3_leadOn_67 ?_
        refine j_iload_5 dX3_leadOn_69 ?_
        refine j_iload_n_3 dX3_leadOn_71 ?_
        refine C_X3_36 rfl (by decide) dX3_leadOn_72 sk_28 (Nat.le_of_ble_eq_true rfl) (Nat.le_of_eq (Nat.zero_add _)) (Nat.le_of_eq (Nat.zero_add _)) (fun _ _ hM' hT' => c_isBetterC (by omega) hM' hT') ?_
        refine j_if_eq (tgt := 94) dX3_leadOn_75 (by decide) (fun h75 => ?_) (fun h75 => ?_)
        · refine j_inc1_3 rfl (by decide) dX3_leadOn_94 ?_
          refine j_goto (tgt := 2) dX3_leadOn_97 (by decide) ?_
          refine ih (i + 1) _ _ _ hN (by omega) (by omega) ?_
          rw [show N - i = (N - (i + 1)) + 1 by omega] at hT
          simp only [ldL, ldb, h19, h63, bz_f h75, not_true_eq_false, not_false_eq_true, true_and, and_true, false_and, and_false, or_true, true_or, or_false, false_or, if_true, if_false, ite_true, ite_false, reduceIte, Bool.false_eq_true] at hT
          exact hT
        · refine j_aload_n_0 dX3_leadOn_78 ?_
          refine G_X3_9 rfl dX3_leadOn_79 sk_28 sr_28_0 ?_
          refine j_iload_n_3 dX3_leadOn_82 ?_
          refine j_iload_4 dX3_leadOn_83 ?_
          refine j_iast dX3_leadOn_85 sk_29 sn_29 (by omega) (by decide) ?_
          refine j_aload_n_0 dX3_leadOn_86 ?_
          refine G_X3_15 rfl dX3_leadOn_87 sk_28 sr_28_1 ?_
          refine j_iload_n_3 dX3_leadOn_90 ?_
          refine j_iload_5 dX3_leadOn_91 ?_
          refine j_iast dX3_leadOn_93 sk_30 sn_30 (by omega) (by decide) ?_
          refine j_inc1_3 rfl (by decide) dX3_leadOn_94 ?_
          refine j_goto (tgt := 2) dX3_leadOn_97 (by decide) ?_
          refine ih (i + 1) _ _ _ (by rw [jv_Une (by omega), jv_Une (by omega)]; exact hN) (by omega) (by omega) ?_
          rw [show N - i = (N - (i + 1)) + 1 by omega] at hT
          simp only [ldL, ldb, h19, h63, bz_t h75, not_true_eq_false, not_false_eq_true, true_and, and_true, false_and, and_false, or_true, true_or, or_false, false_or, if_true, if_false, ite_true, ite_false, reduceIte, Bool.false_eq_true] at hT
          exact hT

set_option maxHeartbeats 4000000 in
set_option maxRecDepth 100000 in
theorem c_leadOn {sx : Nat → jv_S} {g : jv_G} {X : jv_X} {T : jv_T} {n : Nat} {V : Nat → Nat → Int32} {L : Nat → Nat → Int64} {k z : Nat} {N f : Nat} (hN : V 1 0 = nI N) (hb : N ≤ 12) (hf : f < N) (hM : jv_M g X T) (hT : T (.inl none) n (SH sx) (ldL f N 0 V) L) : jv_J g X I_X3_leadOn 0 [some (jv_r g 28), some (jv_r g 1), some (.int (nI f)), none, none, none] [] n (SH sx) V L k z := by
  refine j_iconst (v := nI 0) dX3_leadOn_0 nc_iconst_0 ?_
  refine j_istore_n_3 rfl (by decide) dX3_leadOn_1 ?_
  exact c_lead_loop (V := V) hb hf hM (N + 1) 0 V _ _ hN (by omega) (by omega) hT

def rndC (N : Nat) : Nat → (Nat → Nat → Int32) → (Nat → Nat → Int32)
  | 0, V => V
  | m + 1, V => match nrs V 29 30 31 N 0 none with
    | none => V
    | some a => rndC N m (ldL a N 0 (jv_U V 31 a (nI 1)))
def iniC (V : Nat → Nat → Int32) (i : Nat) : Nat → Nat → Int32 := fun q c => if c < i then (if q = 29 then -1 else if q = 30 then -1 else if q = 31 then nI 0 else V q c) else V q c
/-- all ways from a floor -/
def fndC (V : Nat → Nat → Int32) (N f : Nat) : Nat → Nat → Int32 := rndC N N (jv_U (jv_U (iniC V 12) 29 f (nI 0)) 30 f (nI 0))
theorem rndC_out {N q : Nat} (h1 : q < 29 ∨ 31 < q) : ∀ m V, rndC N m V q = V q := by
  intro m
  induction m with
  | zero => intro V; rfl
  | succ m ih =>
    intro V
    unfold rndC
    cases nrs V 29 30 31 N 0 none with
    | none => rfl
    | some a =>
      show rndC N m _ q = _
      rw [ih, ldL_out (by omega) (by omega), jv_U_other (by omega)]
theorem iniC_out {V : Nat → Nat → Int32} {i q : Nat} (h1 : q < 29 ∨ 31 < q) : iniC V i q = V q := by
  funext c
  unfold iniC
  rw [if_neg (by omega : ¬ q = 29), if_neg (by omega : ¬ q = 30), if_neg (by omega : ¬ q = 31), ite_self]
theorem fndC_out {V : Nat → Nat → Int32} {N f q : Nat} (h1 : q < 29 ∨ 31 < q) : fndC V N f q = V q := by
  unfold fndC
  rw [rndC_out h1, jv_U_other (by omega), jv_U_other (by omega), iniC_out h1]
theorem iniC_0 {V : Nat → Nat → Int32} : iniC V 0 = V := by
  funext q c
  unfold iniC
  rw [if_neg (by omega)]
theorem iniC_s {V : Nat → Nat → Int32} {i : Nat} : jv_U (jv_U (jv_U (iniC V i) 29 i (-1)) 30 i (-1)) 31 i (nI 0) = iniC V (i + 1) := by
  funext q c
  unfold jv_U iniC
  by_cases hc : c = i
  · subst hc
    rw [if_neg (Nat.lt_irrefl c), if_pos (Nat.lt_succ_self c)]
    simp only [if_true]
    by_cases h5 : q = 31
    · subst h5; rfl
    · by_cases h4 : q = 30
      · subst h4; rfl
      · by_cases h3 : q = 29
        · subst h3; rfl
        · rw [if_neg h5, if_neg h4, if_neg h3, if_neg h3, if_neg h4, if_neg h5]
  · simp only [if_neg hc, ite_self]
    by_cases h : c < i
    · have h' : c < i + 1 := by omega
      simp only [if_pos h, if_pos h']
    · have h' : ¬ c < i + 1 := by omega
      simp only [if_neg h, if_neg h']

set_option maxHeartbeats 4000000 in
set_option maxRecDepth 100000 in
theorem c_find_loop {sx : Nat → jv_S} {g : jv_G} {X : jv_X} {T : jv_T} {n : Nat} {V : Nat → Nat → Int32} {L : Nat → Nat → Int64} {k z : Nat} {N : Nat} {x2 : Int32} (hb : N ≤ 12) (hM : jv_M g X T) : ∀ (m : Nat) (i : Nat) (V : Nat → Nat → Int32) (v4 : Option Value), V 1 0 = nI N → i ≤ N → N + 1 ≤ i + m → T (.inl none) n (SH sx) (rndC N (N - i) V) L → jv_J g X I_X3_findFrom 51 [some (jv_r g 28), some (jv_r g 1), some (.int x2), some (.int (nI i)), v4] [] n (SH sx) V L k z := by
  intro m
  induction m with
  | zero => intro i V v4 hN hi him hT; omega
  | succ m ih =>
  intro i V v4 hN hi him hT
  refine j_iload_n_3 dX3_findFrom_51 ?_
  refine j_aload_n_1 dX3_findFrom_52 ?_
  refine G_X3_22 rfl dX3_findFrom_53 sk_1 ?_
  refine j_top (y := nI N) hN ?_
  refine j_ic_geN (by omega) (by omega) (tgt := 97) dX3_findFrom_56 (by decide) (fun h56 => ?_) (fun h56 => ?_)
  · exact j_vret hM dX3_findFrom_97 rfl (by rw [show N - i = 0 by omega] at hT; exact hT)
  · refine j_aload_n_0 dX3_findFrom_59 ?_
    refine j_aload_n_1 dX3_findFrom_60 ?_
    refine G_X3_22 rfl dX3_findFrom_61 sk_1 ?_
    refine j_top (y := nI N) hN ?_
    refine C_X3_28 rfl (by decide) dX3_findFrom_64 sk_28 (Nat.le_of_ble_eq_true rfl) (Nat.le_of_eq (Nat.zero_add _)) (Nat.le_of_eq (Nat.zero_add _)) (fun _ _ hM' hT' => c_nearest hb hM' hT') ?_
    have hT2 := hT
    rw [show N - i = (N - (i + 1)) + 1 by omega] at hT2
    unfold rndC at hT2
    cases hq : nrs V 29 30 31 N 0 none with
    | none =>
      rw [hq] at hT2
      replace hT : T (.inl none) n (SH sx) V L := hT2
      show jv_J g X I_X3_findFrom _ _ [.int (-1)] n (SH sx) V L k z
      refine j_istore_4 rfl (by decide) dX3_findFrom_67 ?_
      refine j_iload_4 dX3_findFrom_69 ?_
      refine j_iconst (v := -1) dX3_findFrom_71 nc_iconst_m1 ?_
      refine j_ic_ne (tgt := 76) dX3_findFrom_72 (by decide) (fun h72 => ?_) (fun h72 => ?_)
      · exact absurd rfl h72
      · exact j_vret hM dX3_findFrom_75 rfl hT
    | some a =>
      rw [hq] at hT2
      replace hT : T (.inl none) n (SH sx) (rndC N (N - (i + 1)) (ldL a N 0 (jv_U V 31 a (nI 1)))) L := hT2
      have hf : a < N := nrs_lt N 0 none (by omega) (fun j hj => by cases hj) a hq
      show jv_J g X I_X3_findFrom _ _ [.int (nI a)] n (SH sx) V L k z
      refine j_istore_4 rfl (by decide) dX3_findFrom_67 ?_
      refine j_iload_4 dX3_findFrom_69 ?_
      refine j_iconst (v := -1) dX3_findFrom_71 nc_iconst_m1 ?_
      refine j_ic_ne (tgt := 76) dX3_findFrom_72 (by decide) (fun h72 => ?_) (fun h72 => ?_)
      · refine j_aload_n_0 dX3_findFrom_76 ?_
        refine G_X3_18 rfl dX3_findFrom_77 sk_28 sr_28_2 ?_
        refine j_iload_4 dX3_findFrom_80 ?_
        refine j_iconst (v := nI 1) dX3_findFrom_82 nc_iconst_1 ?_
        refine j_bast dX3_findFrom_83 (jv_b01 (by first | exact Or.inl rfl | exact Or.inr rfl | assumption)) sk_31 sn_31 (by omega) (by decide) ?_
        refine j_aload_n_0 dX3_findFrom_84 ?_
        refine j_aload_n_1 dX3_findFrom_85 ?_
        refine j_iload_4 dX3_findFrom_86 ?_
        refine C_X3_32 rfl (by decide) dX3_findFrom_88 sk_28 (Nat.le_of_ble_eq_true rfl) (Nat.le_of_eq (Nat.zero_add _)) (Nat.le_of_eq (Nat.zero_add _)) (fun _ _ hM' hT' => c_leadOn (by rw [jv_Une (by omega)]; exact hN) hb hf hM' hT') ?_
        refine j_inc1_3 rfl (by decide) dX3_findFrom_91 ?_
        refine j_goto (tgt := 51) dX3_findFrom_94 (by decide) ?_
        refine ih (i + 1) _ _ (by rw [ldL_out (by omega) (by omega), jv_Une (by omega)]; exact hN) (by omega) (by omega) ?_
        exact hT
      · exact absurd ‹_› (nI_nm1 (by omega))

set_option maxHeartbeats 4000000 in
set_option maxRecDepth 100000 in
theorem c_find_ini {sx : Nat → jv_S} {g : jv_G} {X : jv_X} {T : jv_T} {n : Nat} {V : Nat → Nat → Int32} {L : Nat → Nat → Int64} {k z : Nat} {N f : Nat} (hN : V 1 0 = nI N) (hb : N ≤ 12) (hf : f < N) (hM : jv_M g X T) (hT : T (.inl none) n (SH sx) (fndC V N f) L) : ∀ (m : Nat) (i : Nat), i ≤ 12 → 13 ≤ i + m → jv_J g X I_X3_findFrom 2 [some (jv_r g 28), some (jv_r g 1), some (.int (nI f)), some (.int (nI i)), none] [] n (SH sx) (iniC V i) L k z := by
  intro m
  induction m with
  | zero => intro i hi him; omega
  | succ m ih =>
  intro i hi him
  refine j_iload_n_3 dX3_findFrom_2 ?_
  refine j_bipush (v := nI 12) dX3_findFrom_3 nc_bipush_12 ?_
  refine j_ic_geN (by omega) (by omega) (tgt := 35) dX3_findFrom_5 (by decide) (fun h5 => ?_) (fun h5 => ?_)
  · have e12 : i = 12 := by omega
    subst e12
    refine j_aload_n_0 dX3_findFrom_35 ?_
    refine G_X3_9 rfl dX3_findFrom_36 sk_28 sr_28_0 ?_
    refine j_iload_n_2 dX3_findFrom_39 ?_
    refine j_iconst (v := nI 0) dX3_findFrom_40 nc_iconst_0 ?_
    refine j_iast dX3_findFrom_41 sk_29 sn_29 (by omega) (by decide) ?_
    refine j_aload_n_0 dX3_findFrom_42 ?_
    refine G_X3_15 rfl dX3_findFrom_43 sk_28 sr_28_1 ?_
    refine j_iload_n_2 dX3_findFrom_46 ?_
    refine j_iconst (v := nI 0) dX3_findFrom_47 nc_iconst_0 ?_
    refine j_iast dX3_findFrom_48 sk_30 sn_30 (by omega) (by decide) ?_
    refine j_iconst (v := nI 0) dX3_findFrom_49 nc_iconst_0 ?_
    refine j_istore_n_3 rfl (by decide) dX3_findFrom_50 ?_
    exact c_find_loop (V := V) hb hM (N + 1) 0 _ _ (by rw [jv_Une (by omega), jv_Une (by omega), iniC_out (by omega)]; exact hN) (by omega) (by omega) hT
  · refine j_aload_n_0 dX3_findFrom_8 ?_
    refine G_X3_9 rfl dX3_findFrom_9 sk_28 sr_28_0 ?_
    refine j_iload_n_3 dX3_findFrom_12 ?_
    refine j_iconst (v := -1) dX3_findFrom_13 nc_iconst_m1 ?_
    refine j_iast dX3_findFrom_14 sk_29 sn_29 (by omega) (by decide) ?_
    refine j_aload_n_0 dX3_findFrom_15 ?_
    refine G_X3_15 rfl dX3_findFrom_16 sk_28 sr_28_1 ?_
    refine j_iload_n_3 dX3_findFrom_19 ?_
    refine j_iconst (v := -1) dX3_findFrom_20 nc_iconst_m1 ?_
    refine j_iast dX3_findFrom_21 sk_30 sn_30 (by omega) (by decide) ?_
    refine j_aload_n_0 dX3_findFrom_22 ?_
    refine G_X3_18 rfl dX3_findFrom_23 sk_28 sr_28_2 ?_
    refine j_iload_n_3 dX3_findFrom_26 ?_
    refine j_iconst (v := nI 0) dX3_findFrom_27 nc_iconst_0 ?_
    refine j_bast dX3_findFrom_28 (jv_b01 (by first | exact Or.inl rfl | exact Or.inr rfl | assumption)) sk_31 sn_31 (by omega) (by decide) ?_
    refine j_mem iniC_s ?_
    refine j_inc1_3 rfl (by decide) dX3_findFrom_29 ?_
    refine j_goto (tgt := 2) dX3_findFrom_32 (by decide) ?_
    exact ih (i + 1) (by omega) (by omega)

set_option maxHeartbeats 4000000 in
set_option maxRecDepth 100000 in
theorem c_findFrom {sx : Nat → jv_S} {g : jv_G} {X : jv_X} {T : jv_T} {n : Nat} {V : Nat → Nat → Int32} {L : Nat → Nat → Int64} {k z : Nat} {N f : Nat} (hN : V 1 0 = nI N) (hb : N ≤ 12) (hf : f < N) (hM : jv_M g X T) (hT : T (.inl none) n (SH sx) (fndC V N f) L) : jv_J g X I_X3_findFrom 0 [some (jv_r g 28), some (jv_r g 1), some (.int (nI f)), none, none] [] n (SH sx) V L k z := by
  refine j_iconst (v := nI 0) dX3_findFrom_0 nc_iconst_0 ?_
  refine j_istore_n_3 rfl (by decide) dX3_findFrom_1 ?_
  refine j_mem iniC_0.symm ?_
  exact c_find_ini hN hb hf hM hT 13 0 (by omega) (by omega)

def gthL (V : Nat → Nat → Int32) : Nat → Nat → Int32 → Int32
  | 0, _, a => a
  | m + 1, i, a => if V 29 i = -1 then -1 else gthL V m (i + 1) (if a < V 29 i then V 29 i else a)
def lbwL (V : Nat → Nat → Int32) : Nat → Nat → Bool
  | 0, _ => false
  | m + 1, i => if ¬ V 29 i = -1 then true else lbwL V m (i + 1)

set_option maxHeartbeats 4000000 in
set_option maxRecDepth 100000 in
theorem c_gre_loop {sx : Nat → jv_S} {g : jv_G} {X : jv_X} {T : jv_T} {n : Nat} {V : Nat → Nat → Int32} {L : Nat → Nat → Int64} {k z : Nat} {N : Nat} (hb : N ≤ 12) (hM : jv_M g X T) : ∀ (m : Nat) (i : Nat) (a : Int32), i ≤ N → N + 1 ≤ i + m → T (.inl (some (.int (gthL V (N - i) i a)))) n (SH sx) V L → jv_J g X I_X3_greatestHours 4 [some (jv_r g 28), some (.int (nI N)), some (.int a), some (.int (nI i))] [] n (SH sx) V L k z := by
  intro m
  induction m with
  | zero => intro i a hi him hT; omega
  | succ m ih =>
  intro i a hi him hT
  refine j_iload_n_3 dX3_greatestHours_4 ?_
  refine j_iload_n_1 dX3_greatestHours_5 ?_
  refine j_ic_geN (by omega) (by omega) (tgt := 38) dX3_greatestHours_6 (by decide) (fun h6 => ?_) (fun h6 => ?_)
  · refine j_iload_n_2 dX3_greatestHours_38 ?_
    exact j_iret hM dX3_greatestHours_39 rfl (by rw [show N - i = 0 by omega] at hT; exact hT)
  · refine j_aload_n_0 dX3_greatestHours_9 ?_
    refine G_X3_9 rfl dX3_greatestHours_10 sk_28 sr_28_0 ?_
    refine j_iload_n_3 dX3_greatestHours_13 ?_
    refine j_iald dX3_greatestHours_14 sk_29 sn_29 (by omega) (by decide) ?_
    refine j_iconst (v := -1) dX3_greatestHours_15 nc_iconst_m1 ?_
    refine j_ic_ne (tgt := 21) dX3_greatestHours_16 (by decide) (fun h16 => ?_) (fun h16 => ?_)
    · refine j_iload_n_2 dX3_greatestHours_21 ?_
      refine j_aload_n_0 dX3_greatestHours_22 ?_
      refine G_X3_9 rfl dX3_greatestHours_23 sk_28 sr_28_0 ?_
      refine j_iload_n_3 dX3_greatestHours_26 ?_
      refine j_iald dX3_greatestHours_27 sk_29 sn_29 (by omega) (by decide) ?_
      refine MX_X3_46 rfl (by decide) dX3_greatestHours_28 (Nat.le_of_ble_eq_true rfl) ?_
      refine j_istore_n_2 rfl (by decide) dX3_greatestHours_31 ?_
      refine j_inc1_3 rfl (by decide) dX3_greatestHours_32 ?_
      refine j_goto (tgt := 4) dX3_greatestHours_35 (by decide) ?_
      refine ih (i + 1) _ (by omega) (by omega) ?_
      rw [show N - i = (N - (i + 1)) + 1 by omega] at hT
      unfold gthL at hT
      rw [if_neg h16] at hT
      exact hT
    · refine j_iconst (v := -1) dX3_greatestHours_19 nc_iconst_m1 ?_
      exact j_iret hM dX3_greatestHours_20 rfl (by rw [show N - i = (N - (i + 1)) + 1 by omega] at hT; unfold gthL at hT; rw [if_pos h16] at hT; exact hT)

set_option maxHeartbeats 4000000 in
set_option maxRecDepth 100000 in
theorem c_greatestHours {sx : Nat → jv_S} {g : jv_G} {X : jv_X} {T : jv_T} {n : Nat} {V : Nat → Nat → Int32} {L : Nat → Nat → Int64} {k z : Nat} {N : Nat} (hb : N ≤ 12) (hM : jv_M g X T) (hT : T (.inl (some (.int (gthL V N 0 (nI 0))))) n (SH sx) V L) : jv_J g X I_X3_greatestHours 0 [some (jv_r g 28), some (.int (nI N)), none, none] [] n (SH sx) V L k z := by
  refine j_iconst (v := nI 0) dX3_greatestHours_0 nc_iconst_0 ?_
  refine j_istore_n_2 rfl (by decide) dX3_greatestHours_1 ?_
  refine j_iconst (v := nI 0) dX3_greatestHours_2 nc_iconst_0 ?_
  refine j_istore_n_3 rfl (by decide) dX3_greatestHours_3 ?_
  exact c_gre_loop hb hM (N + 1) 0 _ (by omega) (by omega) hT

set_option maxHeartbeats 4000000 in
set_option maxRecDepth 100000 in
theorem c_below_loop {sx : Nat → jv_S} {g : jv_G} {X : jv_X} {T : jv_T} {n : Nat} {V : Nat → Nat → Int32} {L : Nat → Nat → Int64} {k z : Nat} {f : Nat} (hb : f ≤ 12) (hM : jv_M g X T) : ∀ (m : Nat) (i : Nat), i ≤ f → f + 1 ≤ i + m → T (.inl (some (.int (bz (lbwL V (f - i) i))))) n (SH sx) V L → jv_J g X I_X3_leadBelow 2 [some (jv_r g 28), some (.int (nI f)), some (.int (nI i))] [] n (SH sx) V L k z := by
  intro m
  induction m with
  | zero => intro i hi him hT; omega
  | succ m ih =>
  intro i hi him hT
  refine j_iload_n_2 dX3_leadBelow_2 ?_
  refine j_iload_n_1 dX3_leadBelow_3 ?_
  refine j_ic_geN (by omega) (by omega) (tgt := 25) dX3_leadBelow_4 (by decide) (fun h4 => ?_) (fun h4 => ?_)
  · refine j_iconst (v := nI 0) dX3_leadBelow_25 nc_iconst_0 ?_
    exact j_zret hM dX3_leadBelow_26 rfl (jv_b01 (by first | exact Or.inl rfl | exact Or.inr rfl | assumption)) (by rw [show f - i = 0 by omega] at hT; exact hT)
  · refine j_aload_n_0 dX3_leadBelow_7 ?_
    refine G_X3_9 rfl dX3_leadBelow_8 sk_28 sr_28_0 ?_
    refine j_iload_n_2 dX3_leadBelow_11 ?_
    refine j_iald dX3_leadBelow_12 sk_29 sn_29 (by omega) (by decide) ?_
    refine j_iconst (v := -1) dX3_leadBelow_13 nc_iconst_m1 ?_
    refine j_ic_eq (tgt := 19) dX3_leadBelow_14 (by decide) (fun h14 => ?_) (fun h14 => ?_)
    · refine j_inc1_2 rfl (by decide) dX3_leadBelow_19 ?_
      refine j_goto (tgt := 2) dX3_leadBelow_22 (by decide) ?_
      refine ih (i + 1) (by omega) (by omega) ?_
      rw [show f - i = (f - (i + 1)) + 1 by omega] at hT
      unfold lbwL at hT
      rw [if_neg (fun c => c h14)] at hT
      exact hT
    · refine j_iconst (v := nI 1) dX3_leadBelow_17 nc_iconst_1 ?_
      exact j_zret hM dX3_leadBelow_18 rfl (jv_b01 (by first | exact Or.inl rfl | exact Or.inr rfl | assumption)) (by rw [show f - i = (f - (i + 1)) + 1 by omega] at hT; unfold lbwL at hT; rw [if_pos h14] at hT; exact hT)

set_option maxHeartbeats 4000000 in
set_option maxRecDepth 100000 in
theorem c_leadBelow {sx : Nat → jv_S} {g : jv_G} {X : jv_X} {T : jv_T} {n : Nat} {V : Nat → Nat → Int32} {L : Nat → Nat → Int64} {k z : Nat} {f : Nat} (hb : f ≤ 12) (hM : jv_M g X T) (hT : T (.inl (some (.int (bz (lbwL V f 0))))) n (SH sx) V L) : jv_J g X I_X3_leadBelow 0 [some (jv_r g 28), some (.int (nI f)), none] [] n (SH sx) V L k z := by
  refine j_iconst (v := nI 0) dX3_leadBelow_0 nc_iconst_0 ?_
  refine j_istore_n_2 rfl (by decide) dX3_leadBelow_1 ?_
  exact c_below_loop hb hM (f + 1) 0 (by omega) (by omega) hT
