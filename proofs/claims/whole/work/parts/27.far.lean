/-! ===== the reference: farthest, middle, parts, around ===== -/
theorem nrs_past {V : (Nat → Nat → Int32)} {h p s f N : Nat} (hV : ∀ j, j < N → j ≠ f → V h j = -1) : ∀ m i b, i + m ≤ N → f < i → nrs V h p s m i b = b := by
  intro m
  induction m with
  | zero => intro i b _ _; rfl
  | succ m ih =>
    intro i b hi hf
    unfold nrs
    rw [ih _ _ (by omega) (by omega), if_neg (fun c => c.1.2 (hV i (by omega) (by omega)))]
theorem nrs_only {V : (Nat → Nat → Int32)} {h p s f N : Nat} (hV : ∀ j, j < N → j ≠ f → V h j = -1) (h1 : ¬ V h f = -1) (h2 : V s f = 0) : ∀ m i, i + m = N → i ≤ f → f < N → nrs V h p s m i none = some f := by
  intro m
  induction m with
  | zero => intro i hi h3 h4; omega
  | succ m ih =>
    intro i hi h3 h4
    unfold nrs
    by_cases e : i = f
    · subst e
      rw [if_pos ⟨⟨h2, h1⟩, rfl⟩, nrs_past hV _ _ _ (by omega) (by omega)]
    · rw [if_neg (fun c => c.1.2 (hV i (by omega) e)), ih _ (by omega) (by omega) h4]
theorem rlb_keep {V : (Nat → Nat → Int32)} {K a i f : Nat} (h1 : ¬ V 139 f = 0) : rlb V K a i 137 f = V 137 f ∧ rlb V K a i 139 = V 139 := by
  refine ⟨?_, rlb_out (by omega)⟩
  unfold rlb
  split
  · rename_i hc
    have e : f ≠ i := fun e => h1 (by rw [e]; exact hc.2.1)
    rw [jv_Une (by omega), jv_Unj e]
  · rfl
theorem rlL_keep {K a f : Nat} : ∀ m i V, ¬ V 139 f = 0 → rlL K a m i V 137 f = V 137 f ∧ rlL K a m i V 139 = V 139 := by
  intro m
  induction m with
  | zero => intro i V h; exact ⟨rfl, rfl⟩
  | succ m ih =>
    intro i V h
    obtain ⟨a1, a2⟩ := rlb_keep (K := K) (a := a) (i := i) h
    obtain ⟨b1, b2⟩ := ih (i + 1) (rlb V K a i) (by rw [a2]; exact h)
    show rlL K a m (i + 1) _ 137 f = _ ∧ rlL K a m (i + 1) _ 139 = _
    exact ⟨by rw [b1, a1], by rw [b2, a2]⟩
theorem nI1_ne : ¬ nI 1 = 0 := by decide +kernel
theorem rndM_keep {N K f : Nat} : ∀ m V, ¬ V 139 f = 0 → rndM N K m V 137 f = V 137 f := by
  intro m
  induction m with
  | zero => intro V h; rfl
  | succ m ih =>
    intro V h
    unfold rndM
    cases nrs V 137 138 139 N 0 none with
    | none => rfl
    | some a =>
      have h' : ¬ jv_U V 139 a (nI 1) 139 f = 0 := by
        by_cases e : f = a
        · subst e; rw [jv_Ueq]; exact nI1_ne
        · rw [jv_Unj e]; exact h
      obtain ⟨b1, b2⟩ := rlL_keep (K := K) (a := a) N 0 (jv_U V 139 a (nI 1)) h'
      show rndM N K m _ 137 f = _
      rw [ih _ (by rw [b2]; exact h'), b1, jv_Une (by omega)]
theorem wayM_self {V : (Nat → Nat → Int32)} {N K f : Nat} (hf : f < N) : wayM V N K f 137 f = nI 0 := by
  unfold wayM
  obtain ⟨m, rfl⟩ : ∃ m, N = m + 1 := ⟨N - 1, by omega⟩
  show rndM (m + 1) K (m + 1) _ 137 f = _
  unfold rndM
  have e : nrs (jv_U (jv_U (iniM V (m + 1)) 137 f (nI 0)) 138 f (nI 0)) 137 138 139 (m + 1) 0 none = some f := by
    refine nrs_only (N := m + 1) (fun j hj hne => ?_) ?_ ?_ (m + 1) 0 (by omega) (by omega) hf
    · rw [jv_Une (by omega), jv_Unj hne]
      unfold iniM
      rw [if_pos hj, if_pos rfl]
    · rw [jv_Une (by omega), jv_Ueq, nI_0]; decide
    · rw [jv_Une (by omega), jv_Une (by omega)]
      unfold iniM
      rw [if_pos hf, if_neg (by omega), if_pos rfl]
      exact nI_0
  rw [e]
  have h' : ¬ jv_U (jv_U (jv_U (iniM V (m + 1)) 137 f (nI 0)) 138 f (nI 0)) 139 f (nI 1) 139 f = 0 := by rw [jv_Ueq]; exact nI1_ne
  obtain ⟨b1, b2⟩ := rlL_keep (K := K) (a := f) (m + 1) 0 _ h'
  show rndM (m + 1) K m _ 137 f = _
  rw [rndM_keep _ _ (by rw [b2]; exact h'), b1, jv_Une (by omega), jv_Une (by omega), jv_Ueq]
def fmL (V : (Nat → Nat → Int32)) : Nat → Nat → Nat → Nat
  | 0, _, b => b
  | m + 1, i, b => fmL V m (i + 1) (if V 137 b < V 137 i ∨ (V 137 i = V 137 b ∧ i < b ∧ ¬ V 137 i ≤ 0) then i else b)
theorem fmL_lt {V : (Nat → Nat → Int32)} {N : Nat} : ∀ m i b, i + m ≤ N → b < N → fmL V m i b < N := by
  intro m
  induction m with
  | zero => intro i b _ h; exact h
  | succ m ih =>
    intro i b hi h
    unfold fmL
    refine ih _ _ (by omega) ?_
    split <;> omega
def aaL (V : (Nat → Nat → Int32)) : Nat → Nat → Bool
  | 0, _ => true
  | m + 1, i => if V 137 i = -1 then false else aaL V m (i + 1)
def mdL (N K : Nat) : Nat → Nat → (Nat → Nat → Int32) → Option Nat → Int32 → (Nat → Nat → Int32) × Option Nat
  | 0, _, V, b, _ => (V, b)
  | m + 1, i, V, b, l => if aaL (wayM V N K i) N 0 = true ∧ (b = none ∨ wayM V N K i 137 (fmL (wayM V N K i) N 0 i) < l) then mdL N K m (i + 1) (wayM V N K i) (some i) (wayM V N K i 137 (fmL (wayM V N K i) N 0 i)) else mdL N K m (i + 1) (wayM V N K i) b l
def fsL (V : (Nat → Nat → Int32)) : Nat → Nat → Nat
  | 0, i => i
  | m + 1, i => if V 137 i = -1 then fsL V m (i + 1) else i
def pnL (N K : Nat) : Nat → Nat → (Nat → Nat → Int32) → Nat → (Nat → Nat → Int32) × Nat
  | 0, _, V, a => (V, a)
  | m + 1, i, V, a => pnL N K m (i + 1) (wayM V N K i) (if fsL (wayM V N K i) N 0 = i then a + 1 else a + 0)
def arL (V : (Nat → Nat → Int32)) (K f : Nat) : Nat → Nat → Nat → Nat
  | 0, _, a => a
  | m + 1, i, a => arL V K f m (i + 1) (if hoM V K f i = -1 then a + 0 else a + 1)
theorem oz_max (b : Option Nat) (h : ∀ j, b = some j → j < 12) : (if nI 0 < ov b then ov b else nI 0) = oz b := by
  cases b with
  | none => exact if_neg (by show ¬ nI 0 < -1; decide +kernel)
  | some j =>
    show (if nI 0 < nI j then nI j else nI 0) = nI j
    have := h j rfl
    by_cases e : j = 0
    · subst e; exact if_neg (nI_nlt (by omega) (by omega))
    · exact if_pos ((nI_ltI (by omega) (by omega)).mpr (by omega))
theorem mdL_lt {N K : Nat} : ∀ m i V b l, i + m ≤ N → (∀ j, b = some j → j < N) → ∀ j, (mdL N K m i V b l).2 = some j → j < N := by
  intro m
  induction m with
  | zero => intro i V b l _ hb; exact hb
  | succ m ih =>
    intro i V b l hi hb
    unfold mdL
    split
    · exact ih _ _ _ _ (by omega) (fun j hj => by cases hj; omega)
    · exact ih _ _ _ _ (by omega) hb
theorem mdL_out {N K q : Nat} (h : q < 137 ∨ 139 < q) : ∀ m i V b l, (mdL N K m i V b l).1 q = V q := by
  intro m
  induction m with
  | zero => intro i V b l; rfl
  | succ m ih =>
    intro i V b l
    unfold mdL
    split
    · rw [ih, wayM_out h]
    · rw [ih, wayM_out h]
theorem pnL_out {N K q : Nat} (h : q < 137 ∨ 139 < q) : ∀ m i V a, (pnL N K m i V a).1 q = V q := by
  intro m
  induction m with
  | zero => intro i V a; rfl
  | succ m ih =>
    intro i V a
    unfold pnL
    rw [ih, wayM_out h]

set_option maxHeartbeats 4000000 in
set_option maxRecDepth 100000 in
theorem y_far_loop {sx : Nat → jv_S} {g : jv_G} {X : jv_X} {T : jv_T} {n : Nat} {V : Nat → Nat → Int32} {L : Nat → Nat → Int64} {k z : Nat} {N K R : Nat} (hC : Mt V N K R) {x1 : Int32} (hM : jv_M g X T) : ∀ (m : Nat) (i b : Nat), b < N → i ≤ N → N + 1 ≤ i + m → T (.inl (some (.int (nI (fmL V (N - i) i b))))) n (SH sx) (V) L → jv_J g X I_X5_farthest 9 [some (jv_r g 123), some (.int x1), some (.int (nI b)), some (.int (nI i))] [] n (SH sx) V L k z := by
  intro m
  induction m with
  | zero => intro i b hbN hi him hT; omega
  | succ m ih =>
  intro i b hbN hi him hT
  obtain ⟨hN, hK, hR, hN2, hb, hK4, hR8, hEv⟩ := id hC
  refine j_iload_n_3 dX5_farthest_9 ?_
  refine j_aload_n_0 dX5_farthest_10 ?_
  refine G_X5_67 rfl dX5_farthest_11 sk_123 ?_
  refine j_top (y := nI N) hN ?_
  refine j_ic_geN (by omega) (by omega) (tgt := 69) dX5_farthest_14 (by decide) (fun h14 => ?_) (fun h14 => ?_)
  · refine j_iload_n_2 dX5_farthest_69 ?_
    exact j_iret hM dX5_farthest_70 rfl (by rw [show N - i = 0 by omega] at hT; exact hT)
  · refine j_aload_n_0 dX5_farthest_17 ?_
    refine G_X5_50 rfl dX5_farthest_18 sk_123 sr_123_17 ?_
    refine j_iload_n_3 dX5_farthest_21 ?_
    refine j_iald dX5_farthest_22 sk_137 sn_137 (by omega) (by decide) ?_
    refine j_aload_n_0 dX5_farthest_23 ?_
    refine G_X5_50 rfl dX5_farthest_24 sk_123 sr_123_17 ?_
    refine j_iload_n_2 dX5_farthest_27 ?_
    refine j_iald dX5_farthest_28 sk_137 sn_137 (by omega) (by decide) ?_
    refine j_ic_gt (tgt := 61) dX5_farthest_29 (by decide) (fun h29 => ?_) (fun h29 => ?_)
    · refine j_iload_n_3 dX5_farthest_61 ?_
      refine j_istore_n_2 rfl (by decide) dX5_farthest_62 ?_
      refine j_inc1_3 rfl (by decide) dX5_farthest_63 ?_
      refine j_goto (tgt := 9) dX5_farthest_66 (by decide) ?_
      refine ih (i + 1) _ (by omega) (by omega) (by omega) ?_
      rw [show N - i = (N - (i + 1)) + 1 by omega] at hT
      unfold fmL at hT
      rw [if_pos (Or.inl h29)] at hT
      exact hT
    · refine j_aload_n_0 dX5_farthest_32 ?_
      refine G_X5_50 rfl dX5_farthest_33 sk_123 sr_123_17 ?_
      refine j_iload_n_3 dX5_farthest_36 ?_
      refine j_iald dX5_farthest_37 sk_137 sn_137 (by omega) (by decide) ?_
      refine j_aload_n_0 dX5_farthest_38 ?_
      refine G_X5_50 rfl dX5_farthest_39 sk_123 sr_123_17 ?_
      refine j_iload_n_2 dX5_farthest_42 ?_
      refine j_iald dX5_farthest_43 sk_137 sn_137 (by omega) (by decide) ?_
      refine j_ic_ne (tgt := 63) dX5_farthest_44 (by decide) (fun h44 => ?_) (fun h44 => ?_)
      · refine j_inc1_3 rfl (by decide) dX5_farthest_63 ?_
        refine j_goto (tgt := 9) dX5_farthest_66 (by decide) ?_
        refine ih (i + 1) _ (by omega) (by omega) (by omega) ?_
        rw [show N - i = (N - (i + 1)) + 1 by omega] at hT
        unfold fmL at hT
        rw [if_neg (fun c => c.elim h29 (fun c => h44 c.1))] at hT
        exact hT
      · refine j_iload_n_3 dX5_farthest_47 ?_
        refine j_iload_n_2 dX5_farthest_48 ?_
        refine j_ic_geN (by omega) (by omega) (tgt := 63) dX5_farthest_49 (by decide) (fun h49 => ?_) (fun h49 => ?_)
        · refine j_inc1_3 rfl (by decide) dX5_farthest_63 ?_
          refine j_goto (tgt := 9) dX5_farthest_66 (by decide) ?_
          refine ih (i + 1) _ (by omega) (by omega) (by omega) ?_
          rw [show N - i = (N - (i + 1)) + 1 by omega] at hT
          unfold fmL at hT
          rw [if_neg (fun c => c.elim h29 (fun c => absurd c.2.1 (by omega)))] at hT
          exact hT
        · refine j_aload_n_0 dX5_farthest_52 ?_
          refine G_X5_50 rfl dX5_farthest_53 sk_123 sr_123_17 ?_
          refine j_iload_n_3 dX5_farthest_56 ?_
          refine j_iald dX5_farthest_57 sk_137 sn_137 (by omega) (by decide) ?_
          refine j_if_le (tgt := 63) dX5_farthest_58 (by decide) (fun h58 => ?_) (fun h58 => ?_)
          · refine j_inc1_3 rfl (by decide) dX5_farthest_63 ?_
            refine j_goto (tgt := 9) dX5_farthest_66 (by decide) ?_
            refine ih (i + 1) _ (by omega) (by omega) (by omega) ?_
            rw [show N - i = (N - (i + 1)) + 1 by omega] at hT
            unfold fmL at hT
            rw [if_neg (fun c => c.elim h29 (fun c => c.2.2 h58))] at hT
            exact hT
          · refine j_iload_n_3 dX5_farthest_61 ?_
            refine j_istore_n_2 rfl (by decide) dX5_farthest_62 ?_
            refine j_inc1_3 rfl (by decide) dX5_farthest_63 ?_
            refine j_goto (tgt := 9) dX5_farthest_66 (by decide) ?_
            refine ih (i + 1) _ (by omega) (by omega) (by omega) ?_
            rw [show N - i = (N - (i + 1)) + 1 by omega] at hT
            unfold fmL at hT
            rw [if_pos (Or.inr ⟨h44, h49, h58⟩)] at hT
            exact hT

set_option maxHeartbeats 4000000 in
set_option maxRecDepth 100000 in
theorem y_farthest {sx : Nat → jv_S} {g : jv_G} {X : jv_X} {T : jv_T} {n : Nat} {V : Nat → Nat → Int32} {L : Nat → Nat → Int64} {k z : Nat} {N K R : Nat} (hC : Mt V N K R) {f : Nat} (hf : f < N) (hM : jv_M g X T) (hT : T (.inl (some (.int (nI (fmL (wayM V N K f) N 0 f))))) n (SH sx) (wayM V N K f) L) : jv_J g X I_X5_farthest 0 [some (jv_r g 123), some (.int (nI f)), none, none] [] n (SH sx) V L k z := by
  obtain ⟨hN, hK, hR, hN2, hb, hK4, hR8, hEv⟩ := id hC
  refine j_aload_n_0 dX5_farthest_0 ?_
  refine j_iload_n_1 dX5_farthest_1 ?_
  refine C_X5_105 rfl (by decide) dX5_farthest_2 sk_123 (Nat.le_of_ble_eq_true rfl) (Nat.le_of_eq (Nat.zero_add _)) (Nat.le_of_eq (Nat.zero_add _)) (fun _ _ hM' hT' => y_ways hC hf hM' hT') ?_
  refine j_iload_n_1 dX5_farthest_5 ?_
  refine j_istore_n_2 rfl (by decide) dX5_farthest_6 ?_
  refine j_iconst (v := nI 0) dX5_farthest_7 nc_iconst_0 ?_
  refine j_istore_n_3 rfl (by decide) dX5_farthest_8 ?_
  exact y_far_loop (V := wayM V N K f) (wayM_Mt hC) hM (N + 1) 0 f hf (by omega) (by omega) hT

set_option maxHeartbeats 4000000 in
set_option maxRecDepth 100000 in
theorem y_all_loop {sx : Nat → jv_S} {g : jv_G} {X : jv_X} {T : jv_T} {n : Nat} {V : Nat → Nat → Int32} {L : Nat → Nat → Int64} {k z : Nat} {N K R : Nat} (hC : Mt V N K R) (hM : jv_M g X T) : ∀ (m : Nat) (i : Nat), i ≤ N → N + 1 ≤ i + m → T (.inl (some (.int (bz (aaL V (N - i) i))))) n (SH sx) (V) L → jv_J g X I_X5_isAllAround 2 [some (jv_r g 123), some (.int (nI i))] [] n (SH sx) V L k z := by
  intro m
  induction m with
  | zero => intro i hi him hT; omega
  | succ m ih =>
  intro i hi him hT
  obtain ⟨hN, hK, hR, hN2, hb, hK4, hR8, hEv⟩ := id hC
  refine j_iload_n_1 dX5_isAllAround_2 ?_
  refine j_aload_n_0 dX5_isAllAround_3 ?_
  refine G_X5_67 rfl dX5_isAllAround_4 sk_123 ?_
  refine j_top (y := nI N) hN ?_
  refine j_ic_geN (by omega) (by omega) (tgt := 28) dX5_isAllAround_7 (by decide) (fun h7 => ?_) (fun h7 => ?_)
  · refine j_iconst (v := nI 1) dX5_isAllAround_28 nc_iconst_1 ?_
    exact j_zret hM dX5_isAllAround_29 rfl (jv_b01 (by first | exact Or.inl rfl | exact Or.inr rfl | assumption)) (by rw [show N - i = 0 by omega] at hT; exact hT)
  · refine j_aload_n_0 dX5_isAllAround_10 ?_
    refine G_X5_50 rfl dX5_isAllAround_11 sk_123 sr_123_17 ?_
    refine j_iload_n_1 dX5_isAllAround_14 ?_
    refine j_iald dX5_isAllAround_15 sk_137 sn_137 (by omega) (by decide) ?_
    refine j_iconst (v := -1) dX5_isAllAround_16 nc_iconst_m1 ?_
    refine j_ic_ne (tgt := 22) dX5_isAllAround_17 (by decide) (fun h17 => ?_) (fun h17 => ?_)
    · refine j_inc1_1 rfl (by decide) dX5_isAllAround_22 ?_
      refine j_goto (tgt := 2) dX5_isAllAround_25 (by decide) ?_
      refine ih (i + 1) (by omega) (by omega) ?_
      rw [show N - i = (N - (i + 1)) + 1 by omega] at hT
      unfold aaL at hT
      rw [if_neg h17] at hT
      exact hT
    · refine j_iconst (v := nI 0) dX5_isAllAround_20 nc_iconst_0 ?_
      exact j_zret hM dX5_isAllAround_21 rfl (jv_b01 (by first | exact Or.inl rfl | exact Or.inr rfl | assumption)) (by rw [show N - i = (N - (i + 1)) + 1 by omega] at hT; unfold aaL at hT; rw [if_pos h17] at hT; exact hT)

set_option maxHeartbeats 4000000 in
set_option maxRecDepth 100000 in
theorem y_isAllAround {sx : Nat → jv_S} {g : jv_G} {X : jv_X} {T : jv_T} {n : Nat} {V : Nat → Nat → Int32} {L : Nat → Nat → Int64} {k z : Nat} {N K R : Nat} (hC : Mt V N K R) (hM : jv_M g X T) (hT : T (.inl (some (.int (bz (aaL V N 0))))) n (SH sx) (V) L) : jv_J g X I_X5_isAllAround 0 [some (jv_r g 123), none] [] n (SH sx) V L k z := by
  obtain ⟨hN, hK, hR, hN2, hb, hK4, hR8, hEv⟩ := id hC
  refine j_iconst (v := nI 0) dX5_isAllAround_0 nc_iconst_0 ?_
  refine j_istore_n_1 rfl (by decide) dX5_isAllAround_1 ?_
  exact y_all_loop hC hM (N + 1) 0 (by omega) (by omega) hT

set_option maxHeartbeats 4000000 in
set_option maxRecDepth 100000 in
theorem y_mid_loop {sx : Nat → jv_S} {g : jv_G} {X : jv_X} {T : jv_T} {n : Nat} {V : Nat → Nat → Int32} {L : Nat → Nat → Int64} {k z : Nat} {N K R : Nat} (hM : jv_M g X T) : ∀ (m : Nat) (i : Nat) (V : (Nat → Nat → Int32)) (b : Option Nat) (x2 : Int32) (v4 : Option Value), Mt V N K R → (∀ j, b = some j → j < N) → i ≤ N → N + 1 ≤ i + m → T (.inl (some (.int (oz (mdL N K (N - i) i V b x2).2)))) n (SH sx) ((mdL N K (N - i) i V b x2).1) L → jv_J g X I_X5_middle 6 [some (jv_r g 123), some (.int (ov b)), some (.int x2), some (.int (nI i)), v4] [] n (SH sx) V L k z := by
  intro m
  induction m with
  | zero => intro i V b x2 v4 hC hbj hi him hT; omega
  | succ m ih =>
  intro i V b x2 v4 hC hbj hi him hT
  obtain ⟨hN, hK, hR, hN2, hb, hK4, hR8, hEv⟩ := id hC
  cases b with
  | none =>
    show jv_J g X I_X5_middle 6 [some (jv_r g 123), some (.int (-1)), some (.int x2), some (.int (nI i)), v4] [] n (SH sx) V L k z
    refine j_iload_n_3 dX5_middle_6 ?_
    refine j_aload_n_0 dX5_middle_7 ?_
    refine G_X5_67 rfl dX5_middle_8 sk_123 ?_
    refine j_top (y := nI N) hN ?_
    refine j_ic_geN (by omega) (by omega) (tgt := 58) dX5_middle_11 (by decide) (fun h11 => ?_) (fun h11 => ?_)
    · refine j_iconst (v := nI 0) dX5_middle_58 nc_iconst_0 ?_
      refine j_iload_n_1 dX5_middle_59 ?_
      refine MX_X5_92 rfl (by decide) dX5_middle_60 (Nat.le_of_ble_eq_true rfl) ?_
      refine j_top (y := oz none) (oz_max none (fun q hq => by have := hbj q hq; omega)) ?_
      exact j_iret hM dX5_middle_63 rfl (by rw [show N - i = 0 by omega] at hT; exact hT)
    · have hfl : fmL (wayM V N K i) N 0 i < N := fmL_lt _ _ _ (by omega) (by omega)
      refine j_aload_n_0 dX5_middle_14 ?_
      refine G_X5_50 rfl dX5_middle_15 sk_123 sr_123_17 ?_
      refine j_aload_n_0 dX5_middle_18 ?_
      refine j_iload_n_3 dX5_middle_19 ?_
      refine C_X5_108 rfl (by decide) dX5_middle_20 sk_123 (Nat.le_of_ble_eq_true rfl) (Nat.le_of_eq (Nat.zero_add _)) (Nat.le_of_eq (Nat.zero_add _)) (fun _ _ hM' hT' => y_farthest hC (by omega) hM' hT') ?_
      refine j_iald dX5_middle_23 sk_137 sn_137 (by omega) (by decide) ?_
      refine j_istore_4 rfl (by decide) dX5_middle_24 ?_
      refine j_aload_n_0 dX5_middle_26 ?_
      refine C_X5_112 rfl (by decide) dX5_middle_27 sk_123 (Nat.le_of_ble_eq_true rfl) (Nat.le_of_eq (Nat.zero_add _)) (Nat.le_of_eq (Nat.zero_add _)) (fun _ _ hM' hT' => y_isAllAround (wayM_Mt hC) hM' hT') ?_
      refine j_if_eq (tgt := 52) dX5_middle_30 (by decide) (fun h30 => ?_) (fun h30 => ?_)
      · refine j_inc1_3 rfl (by decide) dX5_middle_52 ?_
        refine j_goto (tgt := 6) dX5_middle_55 (by decide) ?_
        refine ih (i + 1) (wayM V N K i) none _ _ (wayM_Mt hC) (fun j hj => by cases hj) (by omega) (by omega) ?_
        rw [show N - i = (N - (i + 1)) + 1 by omega] at hT
        unfold mdL at hT
        rw [if_neg (fun c => by rw [bz_f h30] at c; exact absurd c.1 (by decide))] at hT
        exact hT
      · refine j_iload_n_1 dX5_middle_33 ?_
        refine j_iconst (v := -1) dX5_middle_34 nc_iconst_m1 ?_
        refine j_ic_eq (tgt := 47) dX5_middle_35 (by decide) (fun h35 => ?_) (fun h35 => ?_)
        · refine j_iload_n_3 dX5_middle_47 ?_
          refine j_istore_n_1 rfl (by decide) dX5_middle_48 ?_
          refine j_iload_4 dX5_middle_49 ?_
          refine j_istore_n_2 rfl (by decide) dX5_middle_51 ?_
          refine j_inc1_3 rfl (by decide) dX5_middle_52 ?_
          refine j_goto (tgt := 6) dX5_middle_55 (by decide) ?_
          refine ih (i + 1) (wayM V N K i) (some i) _ _ (wayM_Mt hC) (fun j hj => by cases hj; omega) (by omega) (by omega) ?_
          rw [show N - i = (N - (i + 1)) + 1 by omega] at hT
          unfold mdL at hT
          rw [if_pos ⟨bz_t h30, Or.inl rfl⟩] at hT
          exact hT
        · exact absurd rfl h35
  | some j =>
    have hj : j < N := hbj j rfl
    show jv_J g X I_X5_middle 6 [some (jv_r g 123), some (.int (nI j)), some (.int x2), some (.int (nI i)), v4] [] n (SH sx) V L k z
    refine j_iload_n_3 dX5_middle_6 ?_
    refine j_aload_n_0 dX5_middle_7 ?_
    refine G_X5_67 rfl dX5_middle_8 sk_123 ?_
    refine j_top (y := nI N) hN ?_
    refine j_ic_geN (by omega) (by omega) (tgt := 58) dX5_middle_11 (by decide) (fun h11 => ?_) (fun h11 => ?_)
    · refine j_iconst (v := nI 0) dX5_middle_58 nc_iconst_0 ?_
      refine j_iload_n_1 dX5_middle_59 ?_
      refine MX_X5_92 rfl (by decide) dX5_middle_60 (Nat.le_of_ble_eq_true rfl) ?_
      refine j_top (y := oz (some j)) (oz_max (some j) (fun q hq => by have := hbj q hq; omega)) ?_
      exact j_iret hM dX5_middle_63 rfl (by rw [show N - i = 0 by omega] at hT; exact hT)
    · have hfl : fmL (wayM V N K i) N 0 i < N := fmL_lt _ _ _ (by omega) (by omega)
      refine j_aload_n_0 dX5_middle_14 ?_
      refine G_X5_50 rfl dX5_middle_15 sk_123 sr_123_17 ?_
      refine j_aload_n_0 dX5_middle_18 ?_
      refine j_iload_n_3 dX5_middle_19 ?_
      refine C_X5_108 rfl (by decide) dX5_middle_20 sk_123 (Nat.le_of_ble_eq_true rfl) (Nat.le_of_eq (Nat.zero_add _)) (Nat.le_of_eq (Nat.zero_add _)) (fun _ _ hM' hT' => y_farthest hC (by omega) hM' hT') ?_
      refine j_iald dX5_middle_23 sk_137 sn_137 (by omega) (by decide) ?_
      refine j_istore_4 rfl (by decide) dX5_middle_24 ?_
      refine j_aload_n_0 dX5_middle_26 ?_
      refine C_X5_112 rfl (by decide) dX5_middle_27 sk_123 (Nat.le_of_ble_eq_true rfl) (Nat.le_of_eq (Nat.zero_add _)) (Nat.le_of_eq (Nat.zero_add _)) (fun _ _ hM' hT' => y_isAllAround (wayM_Mt hC) hM' hT') ?_
      refine j_if_eq (tgt := 52) dX5_middle_30 (by decide) (fun h30 => ?_) (fun h30 => ?_)
      · refine j_inc1_3 rfl (by decide) dX5_middle_52 ?_
        refine j_goto (tgt := 6) dX5_middle_55 (by decide) ?_
        refine ih (i + 1) (wayM V N K i) (some j) _ _ (wayM_Mt hC) hbj (by omega) (by omega) ?_
        rw [show N - i = (N - (i + 1)) + 1 by omega] at hT
        unfold mdL at hT
        rw [if_neg (fun c => by rw [bz_f h30] at c; exact absurd c.1 (by decide))] at hT
        exact hT
      · refine j_iload_n_1 dX5_middle_33 ?_
        refine j_iconst (v := -1) dX5_middle_34 nc_iconst_m1 ?_
        refine j_ic_eq (tgt := 47) dX5_middle_35 (by decide) (fun h35 => ?_) (fun h35 => ?_)
        · exact absurd h35 (nI_nm1 (by omega))
        · refine j_iload_4 dX5_middle_38 ?_
          refine j_iload_n_2 dX5_middle_40 ?_
          refine j_ic_lt (tgt := 47) dX5_middle_41 (by decide) (fun h41 => ?_) (fun h41 => ?_)
          · refine j_iload_n_3 dX5_middle_47 ?_
            refine j_istore_n_1 rfl (by decide) dX5_middle_48 ?_
            refine j_iload_4 dX5_middle_49 ?_
            refine j_istore_n_2 rfl (by decide) dX5_middle_51 ?_
            refine j_inc1_3 rfl (by decide) dX5_middle_52 ?_
            refine j_goto (tgt := 6) dX5_middle_55 (by decide) ?_
            refine ih (i + 1) (wayM V N K i) (some i) _ _ (wayM_Mt hC) (fun j hj => by cases hj; omega) (by omega) (by omega) ?_
            rw [show N - i = (N - (i + 1)) + 1 by omega] at hT
            unfold mdL at hT
            rw [if_pos ⟨bz_t h30, Or.inr h41⟩] at hT
            exact hT
          · refine j_goto (tgt := 52) dX5_middle_44 (by decide) ?_
            refine j_inc1_3 rfl (by decide) dX5_middle_52 ?_
            refine j_goto (tgt := 6) dX5_middle_55 (by decide) ?_
            refine ih (i + 1) (wayM V N K i) (some j) _ _ (wayM_Mt hC) hbj (by omega) (by omega) ?_
            rw [show N - i = (N - (i + 1)) + 1 by omega] at hT
            unfold mdL at hT
            rw [if_neg (fun c => c.2.elim (fun q => by cases q) h41)] at hT
            exact hT

set_option maxHeartbeats 4000000 in
set_option maxRecDepth 100000 in
theorem y_middle {sx : Nat → jv_S} {g : jv_G} {X : jv_X} {T : jv_T} {n : Nat} {V : Nat → Nat → Int32} {L : Nat → Nat → Int64} {k z : Nat} {N K R : Nat} (hC : Mt V N K R) (hM : jv_M g X T) (hT : T (.inl (some (.int (oz (mdL N K N 0 V none (nI 0)).2)))) n (SH sx) ((mdL N K N 0 V none (nI 0)).1) L) : jv_J g X I_X5_middle 0 [some (jv_r g 123), none, none, none, none] [] n (SH sx) V L k z := by
  obtain ⟨hN, hK, hR, hN2, hb, hK4, hR8, hEv⟩ := id hC
  refine j_iconst (v := -1) dX5_middle_0 nc_iconst_m1 ?_
  refine j_istore_n_1 rfl (by decide) dX5_middle_1 ?_
  refine j_iconst (v := nI 0) dX5_middle_2 nc_iconst_0 ?_
  refine j_istore_n_2 rfl (by decide) dX5_middle_3 ?_
  refine j_iconst (v := nI 0) dX5_middle_4 nc_iconst_0 ?_
  refine j_istore_n_3 rfl (by decide) dX5_middle_5 ?_
  exact y_mid_loop (V := V) hM (N + 1) 0 V none _ _ hC (fun j hj => by cases hj) (by omega) (by omega) hT

set_option maxHeartbeats 4000000 in
set_option maxRecDepth 100000 in
theorem y_first {sx : Nat → jv_S} {g : jv_G} {X : jv_X} {T : jv_T} {n : Nat} {V : Nat → Nat → Int32} {L : Nat → Nat → Int64} {k z : Nat} {N K R : Nat} (hC : Mt V N K R) {p a : Nat} (hp : ¬ V 137 p = -1) (hpN : p < N) : ∀ (m : Nat) (i : Nat), i ≤ p → p + 1 ≤ i + m → (∀ u, u ≤ p → u = fsL V (N - i) i → jv_J g X I_X5_partsNow 35 [some (jv_r g 123), some (.int (nI a)), some (.int (nI p)), some (.int (nI u))] [] n (SH sx) V L k z) → jv_J g X I_X5_partsNow 19 [some (jv_r g 123), some (.int (nI a)), some (.int (nI p)), some (.int (nI i))] [] n (SH sx) V L k z := by
  intro m
  induction m with
  | zero => intro i hi him kk; omega
  | succ m ih =>
  intro i hi him kk
  obtain ⟨hN, hK, hR, hN2, hb, hK4, hR8, hEv⟩ := id hC
  refine j_aload_n_0 dX5_partsNow_19 ?_
  refine G_X5_50 rfl dX5_partsNow_20 sk_123 sr_123_17 ?_
  refine j_iload_n_3 dX5_partsNow_23 ?_
  refine j_iald dX5_partsNow_24 sk_137 sn_137 (by omega) (by decide) ?_
  refine j_iconst (v := -1) dX5_partsNow_25 nc_iconst_m1 ?_
  refine j_ic_ne (tgt := 35) dX5_partsNow_26 (by decide) (fun h26 => ?_) (fun h26 => ?_)
  · exact kk i hi (by rw [show N - i = (N - (i + 1)) + 1 by omega]; unfold fsL; rw [if_neg h26])
  · refine j_inc1_3 rfl (by decide) dX5_partsNow_29 ?_
    refine j_goto (tgt := 19) dX5_partsNow_32 (by decide) ?_
    exact ih (i + 1) (by have : i ≠ p := fun e => hp (by rw [← e]; exact h26); omega) (by omega) (fun u hu e => kk u hu (by rw [show N - i = (N - (i + 1)) + 1 by omega]; unfold fsL; rw [if_pos h26]; exact e))

set_option maxHeartbeats 4000000 in
set_option maxRecDepth 100000 in
theorem y_parts_loop {sx : Nat → jv_S} {g : jv_G} {X : jv_X} {T : jv_T} {n : Nat} {V : Nat → Nat → Int32} {L : Nat → Nat → Int64} {k z : Nat} {N K R : Nat} (hM : jv_M g X T) : ∀ (m : Nat) (i : Nat) (V : (Nat → Nat → Int32)) (a : Nat) (v3 : Option Value), Mt V N K R → i ≤ N → N + 1 ≤ i + m → T (.inl (some (.int (nI (pnL N K (N - i) i V a).2)))) n (SH sx) ((pnL N K (N - i) i V a).1) L → jv_J g X I_X5_partsNow 4 [some (jv_r g 123), some (.int (nI a)), some (.int (nI i)), v3] [] n (SH sx) V L k z := by
  intro m
  induction m with
  | zero => intro i V a v3 hC hi him hT; omega
  | succ m ih =>
  intro i V a v3 hC hi him hT
  obtain ⟨hN, hK, hR, hN2, hb, hK4, hR8, hEv⟩ := id hC
  refine j_iload_n_2 dX5_partsNow_4 ?_
  refine j_aload_n_0 dX5_partsNow_5 ?_
  refine G_X5_67 rfl dX5_partsNow_6 sk_123 ?_
  refine j_top (y := nI N) hN ?_
  refine j_ic_geN (by omega) (by omega) (tgt := 54) dX5_partsNow_9 (by decide) (fun h9 => ?_) (fun h9 => ?_)
  · refine j_iload_n_1 dX5_partsNow_54 ?_
    exact j_iret hM dX5_partsNow_55 rfl (by rw [show N - i = 0 by omega] at hT; exact hT)
  · refine j_aload_n_0 dX5_partsNow_12 ?_
    refine j_iload_n_2 dX5_partsNow_13 ?_
    refine C_X5_105 rfl (by decide) dX5_partsNow_14 sk_123 (Nat.le_of_ble_eq_true rfl) (Nat.le_of_eq (Nat.zero_add _)) (Nat.le_of_eq (Nat.zero_add _)) (fun _ _ hM' hT' => y_ways hC (by omega) hM' hT') ?_
    refine j_iconst (v := nI 0) dX5_partsNow_17 nc_iconst_0 ?_
    refine j_istore_n_3 rfl (by decide) dX5_partsNow_18 ?_
    refine y_first (T := T) (V := wayM V N K i) (wayM_Mt hC) (by rw [wayM_self (by omega)]; exact nI_nm1 (by omega)) (by omega) (N + 1) 0 (by omega) (by omega) ?_
    intro u hu e1
    rw [show N - 0 = N by omega] at e1
    refine j_iload_n_1 dX5_partsNow_35 ?_
    refine j_iload_n_3 dX5_partsNow_36 ?_
    refine j_iload_n_2 dX5_partsNow_37 ?_
    refine j_ic_neN (by omega) (by omega) (tgt := 45) dX5_partsNow_38 (by decide) (fun h38 => ?_) (fun h38 => ?_)
    · refine j_iconst (v := nI 0) dX5_partsNow_45 nc_iconst_0 ?_
      refine j_iaddN dX5_partsNow_46 ?_
      refine j_istore_n_1 rfl (by decide) dX5_partsNow_47 ?_
      refine j_inc1_2 rfl (by decide) dX5_partsNow_48 ?_
      refine j_goto (tgt := 4) dX5_partsNow_51 (by decide) ?_
      refine ih (i + 1) _ _ _ (wayM_Mt hC) (by omega) (by omega) ?_
      rw [show N - i = (N - (i + 1)) + 1 by omega] at hT
      unfold pnL at hT
      rw [if_neg (by rw [← e1]; exact h38)] at hT
      exact hT
    · refine j_iconst (v := nI 1) dX5_partsNow_41 nc_iconst_1 ?_
      refine j_goto (tgt := 46) dX5_partsNow_42 (by decide) ?_
      refine j_iaddN dX5_partsNow_46 ?_
      refine j_istore_n_1 rfl (by decide) dX5_partsNow_47 ?_
      refine j_inc1_2 rfl (by decide) dX5_partsNow_48 ?_
      refine j_goto (tgt := 4) dX5_partsNow_51 (by decide) ?_
      refine ih (i + 1) _ _ _ (wayM_Mt hC) (by omega) (by omega) ?_
      rw [show N - i = (N - (i + 1)) + 1 by omega] at hT
      unfold pnL at hT
      rw [if_pos (by rw [← e1]; exact h38)] at hT
      exact hT

set_option maxHeartbeats 4000000 in
set_option maxRecDepth 100000 in
theorem y_partsNow {sx : Nat → jv_S} {g : jv_G} {X : jv_X} {T : jv_T} {n : Nat} {V : Nat → Nat → Int32} {L : Nat → Nat → Int64} {k z : Nat} {N K R : Nat} (hC : Mt V N K R) (hM : jv_M g X T) (hT : T (.inl (some (.int (nI (pnL N K N 0 V 0).2)))) n (SH sx) ((pnL N K N 0 V 0).1) L) : jv_J g X I_X5_partsNow 0 [some (jv_r g 123), none, none, none] [] n (SH sx) V L k z := by
  obtain ⟨hN, hK, hR, hN2, hb, hK4, hR8, hEv⟩ := id hC
  refine j_iconst (v := nI 0) dX5_partsNow_0 nc_iconst_0 ?_
  refine j_istore_n_1 rfl (by decide) dX5_partsNow_1 ?_
  refine j_iconst (v := nI 0) dX5_partsNow_2 nc_iconst_0 ?_
  refine j_istore_n_2 rfl (by decide) dX5_partsNow_3 ?_
  exact y_parts_loop (V := V) hM (N + 1) 0 V 0 _ hC (by omega) (by omega) hT

set_option maxHeartbeats 4000000 in
set_option maxRecDepth 100000 in
theorem y_around_loop {sx : Nat → jv_S} {g : jv_G} {X : jv_X} {T : jv_T} {n : Nat} {V : Nat → Nat → Int32} {L : Nat → Nat → Int64} {k z : Nat} {N K R : Nat} (hC : Mt V N K R) {f : Nat} (hf : f < N) (hM : jv_M g X T) : ∀ (m : Nat) (i a : Nat), i ≤ N → N + 1 ≤ i + m → T (.inl (some (.int (nI (arL V K f (N - i) i a))))) n (SH sx) (V) L → jv_J g X I_X5_around 4 [some (jv_r g 123), some (.int (nI f)), some (.int (nI a)), some (.int (nI i))] [] n (SH sx) V L k z := by
  intro m
  induction m with
  | zero => intro i a hi him hT; omega
  | succ m ih =>
  intro i a hi him hT
  obtain ⟨hN, hK, hR, hN2, hb, hK4, hR8, hEv⟩ := id hC
  refine j_iload_n_3 dX5_around_4 ?_
  refine j_aload_n_0 dX5_around_5 ?_
  refine G_X5_67 rfl dX5_around_6 sk_123 ?_
  refine j_top (y := nI N) hN ?_
  refine j_ic_geN (by omega) (by omega) (tgt := 36) dX5_around_9 (by decide) (fun h9 => ?_) (fun h9 => ?_)
  · refine j_iload_n_2 dX5_around_36 ?_
    exact j_iret hM dX5_around_37 rfl (by rw [show N - i = 0 by omega] at hT; exact hT)
  · refine j_iload_n_2 dX5_around_12 ?_
    refine j_aload_n_0 dX5_around_13 ?_
    refine j_iload_n_1 dX5_around_14 ?_
    refine j_iload_n_3 dX5_around_15 ?_
    refine C_X5_99 rfl (by decide) dX5_around_16 sk_123 (Nat.le_of_ble_eq_true rfl) (Nat.le_of_eq (Nat.zero_add _)) (Nat.le_of_eq (Nat.zero_add _)) (fun _ _ hM' hT' => y_hoursOf hC (by omega) (by omega) hM' hT') ?_
    refine j_iconst (v := -1) dX5_around_19 nc_iconst_m1 ?_
    refine j_ic_ne (tgt := 27) dX5_around_20 (by decide) (fun h20 => ?_) (fun h20 => ?_)
    · refine j_iconst (v := nI 1) dX5_around_27 nc_iconst_1 ?_
      refine j_iaddN dX5_around_28 ?_
      refine j_istore_n_2 rfl (by decide) dX5_around_29 ?_
      refine j_inc1_3 rfl (by decide) dX5_around_30 ?_
      refine j_goto (tgt := 4) dX5_around_33 (by decide) ?_
      refine ih (i + 1) _ (by omega) (by omega) ?_
      rw [show N - i = (N - (i + 1)) + 1 by omega] at hT
      unfold arL at hT
      rw [if_neg h20] at hT
      exact hT
    · refine j_iconst (v := nI 0) dX5_around_23 nc_iconst_0 ?_
      refine j_goto (tgt := 28) dX5_around_24 (by decide) ?_
      refine j_iaddN dX5_around_28 ?_
      refine j_istore_n_2 rfl (by decide) dX5_around_29 ?_
      refine j_inc1_3 rfl (by decide) dX5_around_30 ?_
      refine j_goto (tgt := 4) dX5_around_33 (by decide) ?_
      refine ih (i + 1) _ (by omega) (by omega) ?_
      rw [show N - i = (N - (i + 1)) + 1 by omega] at hT
      unfold arL at hT
      rw [if_pos h20] at hT
      exact hT

set_option maxHeartbeats 4000000 in
set_option maxRecDepth 100000 in
theorem y_around {sx : Nat → jv_S} {g : jv_G} {X : jv_X} {T : jv_T} {n : Nat} {V : Nat → Nat → Int32} {L : Nat → Nat → Int64} {k z : Nat} {N K R : Nat} (hC : Mt V N K R) {f : Nat} (hf : f < N) (hM : jv_M g X T) (hT : T (.inl (some (.int (nI (arL V K f N 0 0))))) n (SH sx) (V) L) : jv_J g X I_X5_around 0 [some (jv_r g 123), some (.int (nI f)), none, none] [] n (SH sx) V L k z := by
  obtain ⟨hN, hK, hR, hN2, hb, hK4, hR8, hEv⟩ := id hC
  refine j_iconst (v := nI 0) dX5_around_0 nc_iconst_0 ?_
  refine j_istore_n_2 rfl (by decide) dX5_around_1 ?_
  refine j_iconst (v := nI 0) dX5_around_2 nc_iconst_0 ?_
  refine j_istore_n_3 rfl (by decide) dX5_around_3 ?_
  exact y_around_loop hC hf hM (N + 1) 0 0 (by omega) (by omega) hT

def wwM (V : (Nat → Nat → Int32)) (N K l f : Nat) (b : Int32) : (Nat → Nat → Int32) := wayM (jv_U V 132 l b) N K f
def wwV (V : (Nat → Nat → Int32)) (N K l f : Nat) (b : Int32) : (Nat → Nat → Int32) := jv_U (wwM V N K l f b) 132 l (V 132 l)

set_option maxHeartbeats 4000000 in
set_option maxRecDepth 100000 in
theorem y_wayWith {sx : Nat → jv_S} {g : jv_G} {X : jv_X} {T : jv_T} {n : Nat} {V : Nat → Nat → Int32} {L : Nat → Nat → Int64} {k z : Nat} {N K R : Nat} (hC : Mt V N K R) {l f t : Nat} {b : Int32} (hl : l < K) (hf : f < N) (ht : t < N) (hb1 : b = 0 ∨ b = 1) (hx : V 132 l = 0 ∨ V 132 l = 1) (hM : jv_M g X T) (hT : T (.inl (some (.int (wwM V N K l f b 137 t)))) n (SH sx) (wwV V N K l f b) L) : jv_J g X I_X5_wayWith 0 [some (jv_r g 123), some (.int (nI l)), some (.int b), some (.int (nI f)), some (.int (nI t)), none, none] [] n (SH sx) V L k z := by
  obtain ⟨hN, hK, hR, hN2, hb, hK4, hR8, hEv⟩ := id hC
  refine j_aload_n_0 dX5_wayWith_0 ?_
  refine G_X5_35 rfl dX5_wayWith_1 sk_123 sr_123_12 ?_
  refine j_iload_n_1 dX5_wayWith_4 ?_
  refine j_bald dX5_wayWith_5 sk_132 sn_132 (by omega) (by decide) ?_
  refine j_istore_5 rfl (by decide) dX5_wayWith_6 ?_
  refine j_aload_n_0 dX5_wayWith_8 ?_
  refine G_X5_35 rfl dX5_wayWith_9 sk_123 sr_123_12 ?_
  refine j_iload_n_1 dX5_wayWith_12 ?_
  refine j_iload_n_2 dX5_wayWith_13 ?_
  refine j_bast dX5_wayWith_14 (jv_b01 hb1) sk_132 sn_132 (by omega) (by decide) ?_
  refine j_aload_n_0 dX5_wayWith_15 ?_
  refine j_iload_n_3 dX5_wayWith_16 ?_
  refine j_iload_4 dX5_wayWith_17 ?_
  refine C_X5_196 rfl (by decide) dX5_wayWith_19 sk_123 (Nat.le_of_ble_eq_true rfl) (Nat.le_of_eq (Nat.zero_add _)) (Nat.le_of_eq (Nat.zero_add _)) (fun _ _ hM' hT' => y_way (hC.o (jv_U_other (by omega)) (jv_U_other (by omega))) hf ht hM' hT') ?_
  refine j_istore_6 rfl (by decide) dX5_wayWith_22 ?_
  refine j_aload_n_0 dX5_wayWith_24 ?_
  refine G_X5_35 rfl dX5_wayWith_25 sk_123 sr_123_12 ?_
  refine j_iload_n_1 dX5_wayWith_28 ?_
  refine j_iload_5 dX5_wayWith_29 ?_
  refine j_bast dX5_wayWith_31 (jv_b01 hx) sk_132 sn_132 (by omega) (by decide) ?_
  refine j_iload_6 dX5_wayWith_32 ?_
  exact j_iret hM dX5_wayWith_34 rfl hT
