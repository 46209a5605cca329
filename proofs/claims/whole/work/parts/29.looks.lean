/-! ===== the reference: looks ===== -/
def kpM (V : (Nat → Nat → Int32)) : (Nat → Nat → Int32) := jv_cpy V 135 136 865
def bbM (V : (Nat → Nat → Int32)) : (Nat → Nat → Int32) := jv_cpy V 136 135 865
def ieM (V : (Nat → Nat → Int32)) (N K r : Nat) : (Nat → Nat → Int32) := lkM N K r 100 (kpM V)
def wiM (V : (Nat → Nat → Int32)) (N K r f : Nat) : (Nat → Nat → Int32) := lkM N K r 100 (deM (kpM V) (12 * r + f))
theorem kpM_out {V : (Nat → Nat → Int32)} {q : Nat} (h : q ≠ 136) : kpM V q = V q := by
  funext c
  unfold kpM jv_cpy
  rw [if_neg h]
theorem bbM_out {V : (Nat → Nat → Int32)} {q : Nat} (h : q ≠ 135) : bbM V q = V q := by
  funext c
  unfold bbM jv_cpy
  rw [if_neg h]
theorem ieM_out {V : (Nat → Nat → Int32)} {N K r q : Nat} (h : q < 135 ∨ 136 < q) : ieM V N K r q = V q := by
  unfold ieM
  rw [lkM_out (by omega), kpM_out (by omega)]
theorem wiM_out {V : (Nat → Nat → Int32)} {N K r f q : Nat} (h : q < 135 ∨ 136 < q) : wiM V N K r f q = V q := by
  unfold wiM
  rw [lkM_out (by omega), deM_out (by omega), kpM_out (by omega)]
theorem kpM_Mt {V : (Nat → Nat → Int32)} {N K R : Nat} (h : Mt V N K R) : Mt (kpM V) N K R := h.o (kpM_out (by omega)) (kpM_out (by omega))
theorem bbM_Mt {V : (Nat → Nat → Int32)} {N K R : Nat} (h : Mt V N K R) : Mt (bbM V) N K R := h.o (bbM_out (by omega)) (bbM_out (by omega))
theorem lkM_Mt {V : (Nat → Nat → Int32)} {N K R K' r m : Nat} (h : Mt V N K R) : Mt (lkM N K' r m V) N K R := h.o (lkM_out (by omega) _ _) (lkM_out (by omega) _ _)
theorem deM_Mt {V : (Nat → Nat → Int32)} {N K R a : Nat} (h : Mt V N K R) : Mt (deM V a) N K R := h.o (deM_out (by omega)) (deM_out (by omega))
theorem ieM_Mt {V : (Nat → Nat → Int32)} {N K R r : Nat} (h : Mt V N K R) : Mt (ieM V N K r) N K R := lkM_Mt (kpM_Mt h)
theorem wiM_Mt {V : (Nat → Nat → Int32)} {N K R r f : Nat} (h : Mt V N K R) : Mt (wiM V N K r f) N K R := lkM_Mt (deM_Mt (kpM_Mt h))
def qtL (N K r : Nat) : Nat → Nat → (Nat → Nat → Int32) → (Nat → Nat → Int32) × Nat
  | 0, p, V => (V, p)
  | m + 1, p, V => if qmL V r N 0 = true then (V, p) else qtL N K r m (p + 1) (lkM N K r 1 V)
def qtM (V : (Nat → Nat → Int32)) (N K r : Nat) : (Nat → Nat → Int32) × Nat := qtL N K r 101 0 (kpM V)
def qtI (p : Nat) : Int32 := if 100 < p then -1 else nI p
def dnV (N K r : Nat) : Nat → Nat → (Nat → Nat → Int32) → (Nat → Nat → Int32)
  | 0, _, V => V
  | m + 1, i, V => dnV N K r m (i + 1) (bbM (wiM V N K r i))
def dnB (N K r : Nat) : Nat → Nat → (Nat → Nat → Int32) → Nat → Int32 → Nat
  | 0, _, _, b, _ => b
  | m + 1, i, V, b, l => if beL (wiM V N K r i) r N 0 (nI 0) < l then dnB N K r m (i + 1) (bbM (wiM V N K r i)) i (beL (wiM V N K r i) r N 0 (nI 0)) else dnB N K r m (i + 1) (bbM (wiM V N K r i)) b l
def smV (V : (Nat → Nat → Int32)) (N K r i : Nat) : (Nat → Nat → Int32) := ieM (jv_U V 127 i (nI 0)) N K r
def smO (V : (Nat → Nat → Int32)) (N K r i : Nat) : (Nat → Nat → Int32) := jv_U (bbM (smV V N K r i)) 127 i (nI 1)
def shL (N K r : Nat) : Nat → Nat → (Nat → Nat → Int32) → Option Nat → Int32 → (Nat → Nat → Int32) × Option Nat
  | 0, _, V, b, _ => (V, b)
  | m + 1, i, V, b, l => if V 127 i = 0 then shL N K r m (i + 1) V b l else if beL (smV V N K r i) r N 0 (nI 0) < l then shL N K r m (i + 1) (smO V N K r i) (some i) (beL (smV V N K r i) r N 0 (nI 0)) else shL N K r m (i + 1) (smO V N K r i) b l
theorem U127_Mt {V : (Nat → Nat → Int32)} {N K R i : Nat} {x : Int32} (h : Mt V N K R) : Mt (jv_U V 127 i x) N K R := h.o (jv_U_other (by omega)) (jv_U_other (by omega))
theorem smO_Mt {V : (Nat → Nat → Int32)} {N K R r i : Nat} (h : Mt V N K R) : Mt (smO V N K r i) N K R := U127_Mt (bbM_Mt (ieM_Mt (U127_Mt h)))
def dnX (V : (Nat → Nat → Int32)) (N K r : Nat) : (Nat → Nat → Int32) := dnV N K r (N - 1) 1 (bbM (wiM V N K r 0))
def dnR (V : (Nat → Nat → Int32)) (N K r : Nat) : Nat := dnB N K r (N - 1) 1 (bbM (wiM V N K r 0)) 0 (beL (wiM V N K r 0) r N 0 (nI 0))
def shX (V : (Nat → Nat → Int32)) (N K r : Nat) : (Nat → Nat → Int32) × Option Nat := shL N K r (N - 1) 0 (bbM (ieM V N K r)) none (beL (ieM V N K r) r N 0 (nI 0))
theorem dnV_Mt {N K R r : Nat} : ∀ m i V, Mt V N K R → Mt (dnV N K r m i V) N K R := by
  intro m
  induction m with
  | zero => intro i V h; exact h
  | succ m ih => intro i V h; exact ih _ _ (bbM_Mt (wiM_Mt h))
theorem dnX_Mt {V : (Nat → Nat → Int32)} {N K R r : Nat} (h : Mt V N K R) : Mt (dnX V N K r) N K R := dnV_Mt _ _ _ (bbM_Mt (wiM_Mt h))
theorem shL_Mt {N K R r : Nat} : ∀ m i V b l, Mt V N K R → Mt (shL N K r m i V b l).1 N K R := by
  intro m
  induction m with
  | zero => intro i V b l h; exact h
  | succ m ih =>
    intro i V b l h
    unfold shL
    split
    · exact ih _ _ _ _ h
    · split
      · exact ih _ _ _ _ (smO_Mt h)
      · exact ih _ _ _ _ (smO_Mt h)
theorem shX_Mt {V : (Nat → Nat → Int32)} {N K R r : Nat} (h : Mt V N K R) : Mt (shX V N K r).1 N K R := shL_Mt _ _ _ _ _ (bbM_Mt (ieM_Mt h))
theorem qtL_Mt {N K R r : Nat} : ∀ m p V, Mt V N K R → Mt (qtL N K r m p V).1 N K R := by
  intro m
  induction m with
  | zero => intro p V h; exact h
  | succ m ih =>
    intro p V h
    unfold qtL
    split
    · exact h
    · exact ih _ _ (lkM_Mt h)

set_option maxHeartbeats 4000000 in
set_option maxRecDepth 100000 in
theorem y_keep {sx : Nat → jv_S} {g : jv_G} {X : jv_X} {T : jv_T} {n : Nat} {V : Nat → Nat → Int32} {L : Nat → Nat → Int64} {k z : Nat} (hM : jv_M g X T) (hT : T (.inl none) n (SH sx) (kpM V) L) : jv_J g X I_X5_keep 0 [some (jv_r g 123)] [] n (SH sx) V L k z := by
  refine j_aload_n_0 dX5_keep_0 ?_
  refine G_X5_44 rfl dX5_keep_1 sk_123 sr_123_15 ?_
  refine j_iconst (v := nI 0) dX5_keep_4 nc_iconst_0 ?_
  refine j_aload_n_0 dX5_keep_5 ?_
  refine G_X5_47 rfl dX5_keep_6 sk_123 sr_123_16 ?_
  refine j_iconst (v := nI 0) dX5_keep_9 nc_iconst_0 ?_
  refine j_sipush (v := nI 865) dX5_keep_10 nc_sipush_865 ?_
  refine AC_X5_80 rfl (by decide) dX5_keep_13 sk_135 sk_136 sn_135 sn_136 (by decide) (by decide) (Nat.le_of_ble_eq_true rfl) ?_
  exact j_vret hM dX5_keep_16 rfl hT

set_option maxHeartbeats 4000000 in
set_option maxRecDepth 100000 in
theorem y_bringBack {sx : Nat → jv_S} {g : jv_G} {X : jv_X} {T : jv_T} {n : Nat} {V : Nat → Nat → Int32} {L : Nat → Nat → Int64} {k z : Nat} (hM : jv_M g X T) (hT : T (.inl none) n (SH sx) (bbM V) L) : jv_J g X I_X5_bringBack 0 [some (jv_r g 123)] [] n (SH sx) V L k z := by
  refine j_aload_n_0 dX5_bringBack_0 ?_
  refine G_X5_47 rfl dX5_bringBack_1 sk_123 sr_123_16 ?_
  refine j_iconst (v := nI 0) dX5_bringBack_4 nc_iconst_0 ?_
  refine j_aload_n_0 dX5_bringBack_5 ?_
  refine G_X5_44 rfl dX5_bringBack_6 sk_123 sr_123_15 ?_
  refine j_iconst (v := nI 0) dX5_bringBack_9 nc_iconst_0 ?_
  refine j_sipush (v := nI 865) dX5_bringBack_10 nc_sipush_865 ?_
  refine AC_X5_80 rfl (by decide) dX5_bringBack_13 sk_136 sk_135 sn_136 sn_135 (by decide) (by decide) (Nat.le_of_ble_eq_true rfl) ?_
  exact j_vret hM dX5_bringBack_16 rfl hT

set_option maxHeartbeats 4000000 in
set_option maxRecDepth 100000 in
theorem y_later {sx : Nat → jv_S} {g : jv_G} {X : jv_X} {T : jv_T} {n : Nat} {V : Nat → Nat → Int32} {L : Nat → Nat → Int64} {k z : Nat} {N K R : Nat} (hC : Mt V N K R) {r : Nat} (hr : r < 8) (hM : jv_M g X T) (hT : T (.inl (some (.int (beL (lkM N K r 100 V) r N 0 (nI 0))))) n (SH sx) (bbM (lkM N K r 100 V)) L) : jv_J g X I_X5_later 0 [some (jv_r g 123), some (.int (nI r)), none] [] n (SH sx) V L k z := by
  obtain ⟨hN, hK, hR, hN2, hb, hK4, hR8, hEv⟩ := id hC
  refine j_aload_n_0 dX5_later_0 ?_
  refine j_iload_n_1 dX5_later_1 ?_
  refine j_bipush (v := nI 100) dX5_later_2 nc_bipush_100 ?_
  refine C_X5_212 rfl (by decide) dX5_later_4 sk_123 (Nat.le_of_ble_eq_true rfl) (Nat.le_of_eq (Nat.zero_add _)) (Nat.le_of_eq (Nat.zero_add _)) (fun _ _ hM' hT' => y_lookOn hC hr (by omega) hM' hT') ?_
  refine j_aload_n_0 dX5_later_7 ?_
  refine j_iload_n_1 dX5_later_8 ?_
  refine C_X5_190 rfl (by decide) dX5_later_9 sk_123 (Nat.le_of_ble_eq_true rfl) (Nat.le_of_eq (Nat.zero_add _)) (Nat.le_of_eq (Nat.zero_add _)) (fun _ _ hM' hT' => y_believing (lkM_Mt hC) hr hM' hT') ?_
  refine j_istore_n_2 rfl (by decide) dX5_later_12 ?_
  refine j_aload_n_0 dX5_later_13 ?_
  refine C_X5_215 rfl (by decide) dX5_later_14 sk_123 (Nat.le_of_ble_eq_true rfl) (Nat.le_of_eq (Nat.zero_add _)) (Nat.le_of_eq (Nat.zero_add _)) (fun _ _ hM' hT' => y_bringBack hM' hT') ?_
  refine j_iload_n_2 dX5_later_17 ?_
  exact j_iret hM dX5_later_18 rfl hT

set_option maxHeartbeats 4000000 in
set_option maxRecDepth 100000 in
theorem y_inTheEnd {sx : Nat → jv_S} {g : jv_G} {X : jv_X} {T : jv_T} {n : Nat} {V : Nat → Nat → Int32} {L : Nat → Nat → Int64} {k z : Nat} {N K R : Nat} (hC : Mt V N K R) {r : Nat} (hr : r < 8) (hM : jv_M g X T) (hT : T (.inl (some (.int (beL (ieM V N K r) r N 0 (nI 0))))) n (SH sx) (bbM (ieM V N K r)) L) : jv_J g X I_X5_inTheEnd 0 [some (jv_r g 123), some (.int (nI r))] [] n (SH sx) V L k z := by
  obtain ⟨hN, hK, hR, hN2, hb, hK4, hR8, hEv⟩ := id hC
  refine j_aload_n_0 dX5_inTheEnd_0 ?_
  refine C_X5_209 rfl (by decide) dX5_inTheEnd_1 sk_123 (Nat.le_of_ble_eq_true rfl) (Nat.le_of_eq (Nat.zero_add _)) (Nat.le_of_eq (Nat.zero_add _)) (fun _ _ hM' hT' => y_keep hM' hT') ?_
  refine j_aload_n_0 dX5_inTheEnd_4 ?_
  refine j_iload_n_1 dX5_inTheEnd_5 ?_
  refine C_X5_218 rfl (by decide) dX5_inTheEnd_6 sk_123 (Nat.le_of_ble_eq_true rfl) (Nat.le_of_eq (Nat.zero_add _)) (Nat.le_of_eq (Nat.zero_add _)) (fun _ _ hM' hT' => y_later (kpM_Mt hC) hr hM' hT') ?_
  exact j_iret hM dX5_inTheEnd_9 rfl hT

set_option maxHeartbeats 4000000 in
set_option maxRecDepth 100000 in
theorem y_with {sx : Nat → jv_S} {g : jv_G} {X : jv_X} {T : jv_T} {n : Nat} {V : Nat → Nat → Int32} {L : Nat → Nat → Int64} {k z : Nat} {N K R : Nat} (hC : Mt V N K R) {r f : Nat} (hr : r < 8) (hf : f < N) (hM : jv_M g X T) (hT : T (.inl (some (.int (beL (wiM V N K r f) r N 0 (nI 0))))) n (SH sx) (bbM (wiM V N K r f)) L) : jv_J g X I_X5_with 0 [some (jv_r g 123), some (.int (nI r)), some (.int (nI f))] [] n (SH sx) V L k z := by
  obtain ⟨hN, hK, hR, hN2, hb, hK4, hR8, hEv⟩ := id hC
  refine j_aload_n_0 dX5_with_0 ?_
  refine C_X5_209 rfl (by decide) dX5_with_1 sk_123 (Nat.le_of_ble_eq_true rfl) (Nat.le_of_eq (Nat.zero_add _)) (Nat.le_of_eq (Nat.zero_add _)) (fun _ _ hM' hT' => y_keep hM' hT') ?_
  refine j_aload_n_0 dX5_with_4 ?_
  refine j_bipush (v := nI 12) dX5_with_5 nc_bipush_12 ?_
  refine j_iload_n_1 dX5_with_7 ?_
  refine j_imulN dX5_with_8 ?_
  refine j_iload_n_2 dX5_with_9 ?_
  refine j_iaddN dX5_with_10 ?_
  refine C_X5_120 rfl (by decide) dX5_with_11 sk_123 (Nat.le_of_ble_eq_true rfl) (Nat.le_of_eq (Nat.zero_add _)) (Nat.le_of_eq (Nat.zero_add _)) (fun _ _ hM' hT' => y_deny (by omega) hM' hT') ?_
  refine j_aload_n_0 dX5_with_14 ?_
  refine j_iload_n_1 dX5_with_15 ?_
  refine C_X5_218 rfl (by decide) dX5_with_16 sk_123 (Nat.le_of_ble_eq_true rfl) (Nat.le_of_eq (Nat.zero_add _)) (Nat.le_of_eq (Nat.zero_add _)) (fun _ _ hM' hT' => y_later (deM_Mt (kpM_Mt hC)) hr hM' hT') ?_
  exact j_iret hM dX5_with_19 rfl hT

set_option maxHeartbeats 4000000 in
set_option maxRecDepth 100000 in
theorem y_qt_loop {sx : Nat → jv_S} {g : jv_G} {X : jv_X} {T : jv_T} {n : Nat} {V : Nat → Nat → Int32} {L : Nat → Nat → Int64} {k z : Nat} {N K R r : Nat} (hr : r < 8) (hM : jv_M g X T) : ∀ (m : Nat) (i : Nat) (V : (Nat → Nat → Int32)), Mt V N K R → i ≤ 101 → 102 ≤ i + m → T (.inl (some (.int (qtI (qtL N K r (101 - i) i V).2)))) n (SH sx) (bbM (qtL N K r (101 - i) i V).1) L → jv_J g X I_X5_quiet 6 [some (jv_r g 123), some (.int (nI r)), some (.int (nI i))] [] n (SH sx) V L k z := by
  intro m
  induction m with
  | zero => intro i V hC hi him hT; omega
  | succ m ih =>
  intro i V hC hi him hT
  obtain ⟨hN, hK, hR, hN2, hb, hK4, hR8, hEv⟩ := id hC
  refine j_iload_n_2 dX5_quiet_6 ?_
  refine j_bipush (v := nI 100) dX5_quiet_7 nc_bipush_100 ?_
  refine j_ic_gtN (by omega) (by omega) (tgt := 32) dX5_quiet_9 (by decide) (fun h9 => ?_) (fun h9 => ?_)
  · refine j_aload_n_0 dX5_quiet_32 ?_
    refine C_X5_215 rfl (by decide) dX5_quiet_33 sk_123 (Nat.le_of_ble_eq_true rfl) (Nat.le_of_eq (Nat.zero_add _)) (Nat.le_of_eq (Nat.zero_add _)) (fun _ _ hM' hT' => y_bringBack hM' hT') ?_
    refine j_iload_n_2 dX5_quiet_36 ?_
    refine j_bipush (v := nI 100) dX5_quiet_37 nc_bipush_100 ?_
    refine j_ic_leN (by omega) (by omega) (tgt := 46) dX5_quiet_39 (by decide) (fun h39 => ?_) (fun h39 => ?_)
    · refine j_iload_n_2 dX5_quiet_46 ?_
      exact j_iret hM dX5_quiet_47 rfl (by rw [show 101 - i = 0 by omega] at hT; unfold qtL qtI at hT; rw [if_neg (by omega)] at hT; exact hT)
    · refine j_iconst (v := -1) dX5_quiet_42 nc_iconst_m1 ?_
      refine j_goto (tgt := 47) dX5_quiet_43 (by decide) ?_
      exact j_iret hM dX5_quiet_47 rfl (by rw [show 101 - i = 0 by omega] at hT; unfold qtL qtI at hT; rw [if_pos (by omega)] at hT; exact hT)
  · refine j_aload_n_0 dX5_quiet_12 ?_
    refine j_iload_n_1 dX5_quiet_13 ?_
    refine C_X5_224 rfl (by decide) dX5_quiet_14 sk_123 (Nat.le_of_ble_eq_true rfl) (Nat.le_of_eq (Nat.zero_add _)) (Nat.le_of_eq (Nat.zero_add _)) (fun _ _ hM' hT' => y_isQuiet hC hr hM' hT') ?_
    refine j_if_ne (tgt := 32) dX5_quiet_17 (by decide) (fun h17 => ?_) (fun h17 => ?_)
    · refine j_aload_n_0 dX5_quiet_32 ?_
      refine C_X5_215 rfl (by decide) dX5_quiet_33 sk_123 (Nat.le_of_ble_eq_true rfl) (Nat.le_of_eq (Nat.zero_add _)) (Nat.le_of_eq (Nat.zero_add _)) (fun _ _ hM' hT' => y_bringBack hM' hT') ?_
      refine j_iload_n_2 dX5_quiet_36 ?_
      refine j_bipush (v := nI 100) dX5_quiet_37 nc_bipush_100 ?_
      refine j_ic_leN (by omega) (by omega) (tgt := 46) dX5_quiet_39 (by decide) (fun h39 => ?_) (fun h39 => ?_)
      · refine j_iload_n_2 dX5_quiet_46 ?_
        exact j_iret hM dX5_quiet_47 rfl (by rw [show 101 - i = (101 - (i + 1)) + 1 by omega] at hT; unfold qtL qtI at hT; rw [if_pos (bz_t h17)] at hT; rw [if_neg (by omega)] at hT; exact hT)
      · refine j_iconst (v := -1) dX5_quiet_42 nc_iconst_m1 ?_
        refine j_goto (tgt := 47) dX5_quiet_43 (by decide) ?_
        exact j_iret hM dX5_quiet_47 rfl (by rw [show 101 - i = (101 - (i + 1)) + 1 by omega] at hT; unfold qtL qtI at hT; rw [if_pos (bz_t h17)] at hT; rw [if_pos (by omega)] at hT; exact hT)
    · refine j_aload_n_0 dX5_quiet_20 ?_
      refine j_iload_n_1 dX5_quiet_21 ?_
      refine j_iconst (v := nI 1) dX5_quiet_22 nc_iconst_1 ?_
      refine C_X5_212 rfl (by decide) dX5_quiet_23 sk_123 (Nat.le_of_ble_eq_true rfl) (Nat.le_of_eq (Nat.zero_add _)) (Nat.le_of_eq (Nat.zero_add _)) (fun _ _ hM' hT' => y_lookOn hC hr (by omega) hM' hT') ?_
      refine j_inc1_2 rfl (by decide) dX5_quiet_26 ?_
      refine j_goto (tgt := 6) dX5_quiet_29 (by decide) ?_
      refine ih (i + 1) _ (lkM_Mt hC) (by omega) (by omega) ?_
      rw [show 101 - i = (101 - (i + 1)) + 1 by omega] at hT
      unfold qtL at hT
      rw [if_neg (by rw [bz_f h17]; decide)] at hT
      exact hT

set_option maxHeartbeats 4000000 in
set_option maxRecDepth 100000 in
theorem y_quiet {sx : Nat → jv_S} {g : jv_G} {X : jv_X} {T : jv_T} {n : Nat} {V : Nat → Nat → Int32} {L : Nat → Nat → Int64} {k z : Nat} {N K R : Nat} (hC : Mt V N K R) {r : Nat} (hr : r < 8) (hM : jv_M g X T) (hT : T (.inl (some (.int (qtI (qtM V N K r).2)))) n (SH sx) (bbM (qtM V N K r).1) L) : jv_J g X I_X5_quiet 0 [some (jv_r g 123), some (.int (nI r)), none] [] n (SH sx) V L k z := by
  obtain ⟨hN, hK, hR, hN2, hb, hK4, hR8, hEv⟩ := id hC
  refine j_aload_n_0 dX5_quiet_0 ?_
  refine C_X5_209 rfl (by decide) dX5_quiet_1 sk_123 (Nat.le_of_ble_eq_true rfl) (Nat.le_of_eq (Nat.zero_add _)) (Nat.le_of_eq (Nat.zero_add _)) (fun _ _ hM' hT' => y_keep hM' hT') ?_
  refine j_iconst (v := nI 0) dX5_quiet_4 nc_iconst_0 ?_
  refine j_istore_n_2 rfl (by decide) dX5_quiet_5 ?_
  exact y_qt_loop (V := kpM V) hr hM 102 0 (kpM V) (kpM_Mt hC) (by omega) (by omega) hT

set_option maxHeartbeats 4000000 in
set_option maxRecDepth 100000 in
theorem y_dn_loop {sx : Nat → jv_S} {g : jv_G} {X : jv_X} {T : jv_T} {n : Nat} {V : Nat → Nat → Int32} {L : Nat → Nat → Int64} {k z : Nat} {N K R r : Nat} (hr : r < 8) (hM : jv_M g X T) : ∀ (m : Nat) (i : Nat) (V : (Nat → Nat → Int32)) (b : Nat) (l : Int32) (v5 : Option Value), Mt V N K R → i ≤ N → N + 1 ≤ i + m → T (.inl (some (.int (nI (dnB N K r (N - i) i V b l))))) n (SH sx) (dnV N K r (N - i) i V) L → jv_J g X I_X5_denial 12 [some (jv_r g 123), some (.int (nI r)), some (.int (nI b)), some (.int l), some (.int (nI i)), v5] [] n (SH sx) V L k z := by
  intro m
  induction m with
  | zero => intro i V b l v5 hC hi him hT; omega
  | succ m ih =>
  intro i V b l v5 hC hi him hT
  obtain ⟨hN, hK, hR, hN2, hb, hK4, hR8, hEv⟩ := id hC
  refine j_iload_4 dX5_denial_12 ?_
  refine j_aload_n_0 dX5_denial_14 ?_
  refine G_X5_67 rfl dX5_denial_15 sk_123 ?_
  refine j_top (y := nI N) hN ?_
  refine j_ic_geN (by omega) (by omega) (tgt := 51) dX5_denial_18 (by decide) (fun h18 => ?_) (fun h18 => ?_)
  · refine j_iload_n_2 dX5_denial_51 ?_
    exact j_iret hM dX5_denial_52 rfl (by rw [show N - i = 0 by omega] at hT; exact hT)
  · refine j_aload_n_0 dX5_denial_21 ?_
    refine j_iload_n_1 dX5_denial_22 ?_
    refine j_iload_4 dX5_denial_23 ?_
    refine C_X5_230 rfl (by decide) dX5_denial_25 sk_123 (Nat.le_of_ble_eq_true rfl) (Nat.le_of_eq (Nat.zero_add _)) (Nat.le_of_eq (Nat.zero_add _)) (fun _ _ hM' hT' => y_with hC hr (by omega) hM' hT') ?_
    refine j_istore_5 rfl (by decide) dX5_denial_28 ?_
    refine j_iload_5 dX5_denial_30 ?_
    refine j_iload_n_3 dX5_denial_32 ?_
    refine j_ic_lt (tgt := 39) dX5_denial_33 (by decide) (fun h33 => ?_) (fun h33 => ?_)
    · refine j_iload_4 dX5_denial_39 ?_
      refine j_istore_n_2 rfl (by decide) dX5_denial_41 ?_
      refine j_iload_5 dX5_denial_42 ?_
      refine j_istore_n_3 rfl (by decide) dX5_denial_44 ?_
      refine j_inc1_4 rfl (by decide) dX5_denial_45 ?_
      refine j_goto (tgt := 12) dX5_denial_48 (by decide) ?_
      refine ih (i + 1) _ _ _ _ (bbM_Mt (wiM_Mt hC)) (by omega) (by omega) ?_
      rw [show N - i = (N - (i + 1)) + 1 by omega] at hT
      unfold dnB dnV at hT
      rw [if_pos h33] at hT
      exact hT
    · refine j_goto (tgt := 45) dX5_denial_36 (by decide) ?_
      refine j_inc1_4 rfl (by decide) dX5_denial_45 ?_
      refine j_goto (tgt := 12) dX5_denial_48 (by decide) ?_
      refine ih (i + 1) _ _ _ _ (bbM_Mt (wiM_Mt hC)) (by omega) (by omega) ?_
      rw [show N - i = (N - (i + 1)) + 1 by omega] at hT
      unfold dnB dnV at hT
      rw [if_neg h33] at hT
      exact hT

set_option maxHeartbeats 4000000 in
set_option maxRecDepth 100000 in
theorem y_denial {sx : Nat → jv_S} {g : jv_G} {X : jv_X} {T : jv_T} {n : Nat} {V : Nat → Nat → Int32} {L : Nat → Nat → Int64} {k z : Nat} {N K R : Nat} (hC : Mt V N K R) {r : Nat} (hr : r < 8) (hM : jv_M g X T) (hT : T (.inl (some (.int (nI (dnR V N K r))))) n (SH sx) (dnX V N K r) L) : jv_J g X I_X5_denial 0 [some (jv_r g 123), some (.int (nI r)), none, none, none, none] [] n (SH sx) V L k z := by
  obtain ⟨hN, hK, hR, hN2, hb, hK4, hR8, hEv⟩ := id hC
  refine j_iconst (v := nI 0) dX5_denial_0 nc_iconst_0 ?_
  refine j_istore_n_2 rfl (by decide) dX5_denial_1 ?_
  refine j_aload_n_0 dX5_denial_2 ?_
  refine j_iload_n_1 dX5_denial_3 ?_
  refine j_iconst (v := nI 0) dX5_denial_4 nc_iconst_0 ?_
  refine C_X5_230 rfl (by decide) dX5_denial_5 sk_123 (Nat.le_of_ble_eq_true rfl) (Nat.le_of_eq (Nat.zero_add _)) (Nat.le_of_eq (Nat.zero_add _)) (fun _ _ hM' hT' => y_with hC hr (by omega) hM' hT') ?_
  refine j_istore_n_3 rfl (by decide) dX5_denial_8 ?_
  refine j_iconst (v := nI 1) dX5_denial_9 nc_iconst_1 ?_
  refine j_istore_4 rfl (by decide) dX5_denial_10 ?_
  exact y_dn_loop (V := V) hr hM (N + 1) 1 _ _ _ _ (bbM_Mt (wiM_Mt hC)) (by omega) (by omega) hT

set_option maxHeartbeats 4000000 in
set_option maxRecDepth 100000 in
theorem y_sh_loop {sx : Nat → jv_S} {g : jv_G} {X : jv_X} {T : jv_T} {n : Nat} {V : Nat → Nat → Int32} {L : Nat → Nat → Int64} {k z : Nat} {N K R r : Nat} (hr : r < 8) (hM : jv_M g X T) : ∀ (m : Nat) (i : Nat) (V : (Nat → Nat → Int32)) (b : Option Nat) (l : Int32) (v5 : Option Value), Mt V N K R → i ≤ N - 1 → N + 1 ≤ i + m → T (.inl (some (.int (ov (shL N K r (N - 1 - i) i V b l).2)))) n (SH sx) ((shL N K r (N - 1 - i) i V b l).1) L → jv_J g X I_X5_toShut 11 [some (jv_r g 123), some (.int (nI r)), some (.int (ov b)), some (.int l), some (.int (nI i)), v5] [] n (SH sx) V L k z := by
  intro m
  induction m with
  | zero => intro i V b l v5 hC hi him hT; omega
  | succ m ih =>
  intro i V b l v5 hC hi him hT
  obtain ⟨hN, hK, hR, hN2, hb, hK4, hR8, hEv⟩ := id hC
  refine j_iload_4 dX5_toShut_11 ?_
  refine j_aload_n_0 dX5_toShut_13 ?_
  refine G_X5_67 rfl dX5_toShut_14 sk_123 ?_
  refine j_top (y := nI N) hN ?_
  refine j_iconst (v := nI 1) dX5_toShut_17 nc_iconst_1 ?_
  refine j_isubN (by omega) dX5_toShut_18 ?_
  refine j_ic_geN (by omega) (by omega) (tgt := 79) dX5_toShut_19 (by decide) (fun h19 => ?_) (fun h19 => ?_)
  · refine j_iload_n_2 dX5_toShut_79 ?_
    exact j_iret hM dX5_toShut_80 rfl (by rw [show N - 1 - i = 0 by omega] at hT; exact hT)
  · refine j_aload_n_0 dX5_toShut_22 ?_
    refine G_X5_19 rfl dX5_toShut_23 sk_123 sr_123_7 ?_
    refine j_iload_4 dX5_toShut_26 ?_
    refine j_bald dX5_toShut_28 sk_127 sn_127 (by omega) (by decide) ?_
    refine j_if_ne (tgt := 35) dX5_toShut_29 (by decide) (fun h29 => ?_) (fun h29 => ?_)
    · refine j_aload_n_0 dX5_toShut_35 ?_
      refine G_X5_19 rfl dX5_toShut_36 sk_123 sr_123_7 ?_
      refine j_iload_4 dX5_toShut_39 ?_
      refine j_iconst (v := nI 0) dX5_toShut_41 nc_iconst_0 ?_
      refine j_bast dX5_toShut_42 (jv_b01 nI01a) sk_127 sn_127 (by omega) (by decide) ?_
      refine j_aload_n_0 dX5_toShut_43 ?_
      refine j_iload_n_1 dX5_toShut_44 ?_
      refine C_X5_221 rfl (by decide) dX5_toShut_45 sk_123 (Nat.le_of_ble_eq_true rfl) (Nat.le_of_eq (Nat.zero_add _)) (Nat.le_of_eq (Nat.zero_add _)) (fun _ _ hM' hT' => y_inTheEnd (U127_Mt hC) hr hM' hT') ?_
      refine j_istore_5 rfl (by decide) dX5_toShut_48 ?_
      refine j_aload_n_0 dX5_toShut_50 ?_
      refine G_X5_19 rfl dX5_toShut_51 sk_123 sr_123_7 ?_
      refine j_iload_4 dX5_toShut_54 ?_
      refine j_iconst (v := nI 1) dX5_toShut_56 nc_iconst_1 ?_
      refine j_bast dX5_toShut_57 (jv_b01 nI01b) sk_127 sn_127 (by omega) (by decide) ?_
      refine j_iload_5 dX5_toShut_58 ?_
      refine j_iload_n_3 dX5_toShut_60 ?_
      refine j_ic_lt (tgt := 67) dX5_toShut_61 (by decide) (fun h61 => ?_) (fun h61 => ?_)
      · refine j_iload_4 dX5_toShut_67 ?_
        refine j_istore_n_2 rfl (by decide) dX5_toShut_69 ?_
        refine j_iload_5 dX5_toShut_70 ?_
        refine j_istore_n_3 rfl (by decide) dX5_toShut_72 ?_
        refine j_inc1_4 rfl (by decide) dX5_toShut_73 ?_
        refine j_goto (tgt := 11) dX5_toShut_76 (by decide) ?_
        refine ih (i + 1) _ (some i) _ _ (smO_Mt hC) (by omega) (by omega) ?_
        rw [show N - 1 - i = (N - 1 - (i + 1)) + 1 by omega] at hT
        unfold shL at hT
        rw [if_neg h29, if_pos (show beL (smV V N K r i) r N 0 (nI 0) < l from h61)] at hT
        exact hT
      · refine j_goto (tgt := 73) dX5_toShut_64 (by decide) ?_
        refine j_inc1_4 rfl (by decide) dX5_toShut_73 ?_
        refine j_goto (tgt := 11) dX5_toShut_76 (by decide) ?_
        refine ih (i + 1) _ b _ _ (smO_Mt hC) (by omega) (by omega) ?_
        rw [show N - 1 - i = (N - 1 - (i + 1)) + 1 by omega] at hT
        unfold shL at hT
        rw [if_neg h29, if_neg (show ¬ beL (smV V N K r i) r N 0 (nI 0) < l from h61)] at hT
        exact hT
    · refine j_goto (tgt := 73) dX5_toShut_32 (by decide) ?_
      refine j_inc1_4 rfl (by decide) dX5_toShut_73 ?_
      refine j_goto (tgt := 11) dX5_toShut_76 (by decide) ?_
      refine ih (i + 1) _ b _ _ hC (by omega) (by omega) ?_
      rw [show N - 1 - i = (N - 1 - (i + 1)) + 1 by omega] at hT
      unfold shL at hT
      rw [if_pos h29] at hT
      exact hT

set_option maxHeartbeats 4000000 in
set_option maxRecDepth 100000 in
theorem y_toShut {sx : Nat → jv_S} {g : jv_G} {X : jv_X} {T : jv_T} {n : Nat} {V : Nat → Nat → Int32} {L : Nat → Nat → Int64} {k z : Nat} {N K R : Nat} (hC : Mt V N K R) {r : Nat} (hr : r < 8) (hM : jv_M g X T) (hT : T (.inl (some (.int (ov (shX V N K r).2)))) n (SH sx) ((shX V N K r).1) L) : jv_J g X I_X5_toShut 0 [some (jv_r g 123), some (.int (nI r)), none, none, none, none] [] n (SH sx) V L k z := by
  obtain ⟨hN, hK, hR, hN2, hb, hK4, hR8, hEv⟩ := id hC
  refine j_iconst (v := -1) dX5_toShut_0 nc_iconst_m1 ?_
  refine j_istore_n_2 rfl (by decide) dX5_toShut_1 ?_
  refine j_aload_n_0 dX5_toShut_2 ?_
  refine j_iload_n_1 dX5_toShut_3 ?_
  refine C_X5_221 rfl (by decide) dX5_toShut_4 sk_123 (Nat.le_of_ble_eq_true rfl) (Nat.le_of_eq (Nat.zero_add _)) (Nat.le_of_eq (Nat.zero_add _)) (fun _ _ hM' hT' => y_inTheEnd hC hr hM' hT') ?_
  refine j_istore_n_3 rfl (by decide) dX5_toShut_7 ?_
  refine j_iconst (v := nI 0) dX5_toShut_8 nc_iconst_0 ?_
  refine j_istore_4 rfl (by decide) dX5_toShut_9 ?_
  exact y_sh_loop (V := V) hr hM (N + 1) 0 _ none _ _ (bbM_Mt (ieM_Mt hC)) (by omega) (by omega) hT
