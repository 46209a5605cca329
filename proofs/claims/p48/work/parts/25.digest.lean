/-! ===== mean heads; the checksum ===== -/
def smL (V : Nat → Nat → Int32) : Nat → Nat → Int32 → Int32
  | 0, _, a => a
  | m + 1, i, a => smL V m (i + 1) (a + V 2 i)

set_option maxHeartbeats 4000000 in
set_option maxRecDepth 100000 in
theorem c_mean_loop {sx : Nat → jv_S} {g : jv_G} {X : jv_X} {T : jv_T} {n : Nat} {V : Nat → Nat → Int32} {L : Nat → Nat → Int64} {k z : Nat} {N K R : Nat} (hC : Ct V N K R) (hM : jv_M g X T) : ∀ (m : Nat) (i : Nat) (a : Int32), i ≤ N → N + 1 ≤ i + m → vf_n64 (FP.ddiv (FP.i2d (smL V (N - i) i a)) (FP.i2d (nI N))) → T (.inl (some (.double (FP.ddiv (FP.i2d (smL V (N - i) i a)) (FP.i2d (nI N)))))) n (SH sx) V L → jv_J g X I_X4_meanHeads 4 [some (jv_r g 0), some (.int a), some (.int (nI i))] [] n (SH sx) V L k z := by
  intro m
  induction m with
  | zero => intro i a hi him hn hT; omega
  | succ m ih =>
  intro i a hi him hn hT
  obtain ⟨hN, hK, hR, hN2, hb, hK4, hR8⟩ := id hC
  refine j_iload_n_2 dX4_meanHeads_4 ?_
  refine j_aload_n_0 dX4_meanHeads_5 ?_
  refine G_X4_10 rfl dX4_meanHeads_6 sk_0 sr_0_0 ?_
  refine G_X4_128 rfl dX4_meanHeads_9 sk_1 ?_
  refine j_top (y := nI N) hN ?_
  refine j_ic_geN (by omega) (by omega) (tgt := 33) dX4_meanHeads_12 (by decide) (fun h12 => ?_) (fun h12 => ?_)
  · refine j_aload_n_0 dX4_meanHeads_33 ?_
    refine G_X4_10 rfl dX4_meanHeads_34 sk_0 sr_0_0 ?_
    refine G_X4_128 rfl dX4_meanHeads_37 sk_1 ?_
    refine j_top (y := nI N) hN ?_
    refine j_if_le (tgt := 57) dX4_meanHeads_40 (by decide) (fun h40 => ?_) (fun h40 => ?_)
    · exact absurd h40 (by rw [← nI_0, nI_leI (by omega) (by omega)]; omega)
    · refine j_iload_n_1 dX4_meanHeads_43 ?_
      refine j_i2d dX4_meanHeads_44 ?_
      refine j_aload_n_0 dX4_meanHeads_45 ?_
      refine G_X4_10 rfl dX4_meanHeads_46 sk_0 sr_0_0 ?_
      refine G_X4_128 rfl dX4_meanHeads_49 sk_1 ?_
      refine j_top (y := nI N) hN ?_
      refine j_i2d dX4_meanHeads_52 ?_
      refine j_ddiv (by rw [show N - i = 0 by omega] at hn; exact hn) dX4_meanHeads_53 ?_
      refine j_goto (tgt := 58) dX4_meanHeads_54 (by decide) ?_
      exact j_dret hM dX4_meanHeads_58 rfl (by rw [show N - i = 0 by omega] at hT; exact hT)
  · refine j_iload_n_1 dX4_meanHeads_15 ?_
    refine j_aload_n_0 dX4_meanHeads_16 ?_
    refine G_X4_10 rfl dX4_meanHeads_17 sk_0 sr_0_0 ?_
    refine G_X4_56 rfl dX4_meanHeads_20 sk_1 sr_1_2 ?_
    refine j_iload_n_2 dX4_meanHeads_23 ?_
    refine j_iald dX4_meanHeads_24 sk_2 sn_2 (by omega) (by decide) ?_
    refine j_iadd dX4_meanHeads_25 ?_
    refine j_istore_n_1 rfl (by decide) dX4_meanHeads_26 ?_
    refine j_inc1_2 rfl (by decide) dX4_meanHeads_27 ?_
    refine j_goto (tgt := 4) dX4_meanHeads_30 (by decide) ?_
    rw [show N - i = (N - (i + 1)) + 1 by omega] at hT hn
    refine ih (i + 1) _ (by omega) (by omega) hn ?_
    exact hT

set_option maxHeartbeats 4000000 in
set_option maxRecDepth 100000 in
theorem g_meanHeads {sx : Nat → jv_S} {g : jv_G} {X : jv_X} {T : jv_T} {n : Nat} {V : Nat → Nat → Int32} {L : Nat → Nat → Int64} {k z : Nat} {N K R : Nat} (hC : Ct V N K R) (hn : vf_n64 (FP.ddiv (FP.i2d (smL V N 0 (nI 0))) (FP.i2d (nI N)))) (hM : jv_M g X T) (hT : T (.inl (some (.double (FP.ddiv (FP.i2d (smL V N 0 (nI 0))) (FP.i2d (nI N)))))) n (SH sx) V L) : jv_J g X I_X4_meanHeads 0 [some (jv_r g 0), none, none] [] n (SH sx) V L k z := by
  obtain ⟨hN, hK, hR, hN2, hb, hK4, hR8⟩ := id hC
  refine j_iconst (v := nI 0) dX4_meanHeads_0 nc_iconst_0 ?_
  refine j_istore_n_1 rfl (by decide) dX4_meanHeads_1 ?_
  refine j_iconst (v := nI 0) dX4_meanHeads_2 nc_iconst_0 ?_
  refine j_istore_n_2 rfl (by decide) dX4_meanHeads_3 ?_
  exact c_mean_loop hC hM (N + 1) 0 _ (by omega) (by omega) hn hT

def mx (d x : Int64) : Int64 := d * 31 + x

set_option maxHeartbeats 4000000 in
set_option maxRecDepth 100000 in
theorem g_mixed {sx : Nat → jv_S} {g : jv_G} {X : jv_X} {T : jv_T} {n : Nat} {V : Nat → Nat → Int32} {L : Nat → Nat → Int64} {k z : Nat} {d x : Int64} (hM : jv_M g X T) (hT : T (.inl (some (.long (mx d x)))) n (SH sx) V L) : jv_J g X I_X4_mixed 0 [some (.long d), none, some (.long x), none] [] n (SH sx) V L k z := by
  refine j_lload_n_0 dX4_mixed_0 ?_
  refine j_ldc2 (v := 31) dX4_mixed_1 (jv_gwm 508 (by decide +kernel) rfl) ?_
  refine j_lmul dX4_mixed_4 ?_
  refine j_lload_n_2 dX4_mixed_5 ?_
  refine j_ladd dX4_mixed_6 ?_
  exact j_lret hM dX4_mixed_7 rfl hT

theorem cenL_out {N q : Nat} (h : q < 29 ∨ 31 < q) : ∀ m i V b l, (cenL N m i V b l).1 q = V q := by
  intro m
  induction m with
  | zero => intro i V b l; rfl
  | succ m ih =>
    intro i V b l
    unfold cenL
    split
    · rw [ih, fndC_out h]
    · rw [ih, fndC_out h]
theorem parL_out {N q : Nat} (h : q < 29 ∨ 31 < q) : ∀ m i V a, (parL N m i V a).1 q = V q := by
  intro m
  induction m with
  | zero => intro i V a; rfl
  | succ m ih =>
    intro i V a
    unfold parL
    rw [ih, fndC_out h]
theorem bdV_out {N j q : Nat} (h : q < 33 ∨ 43 ≤ q) : ∀ m i V, bdV N j m i V q = V q := by
  intro m
  induction m with
  | zero => intro i V; rfl
  | succ m ih =>
    intro i V
    unfold bdV
    rw [ih, triD_out h]
theorem bsL_Ct {N K R j : Nat} : ∀ m i V b l, Ct V N K R → Ct (bsL N K j m i V b l).1 N K R := by
  intro m
  induction m with
  | zero => intro i V b l h; exact h
  | succ m ih =>
    intro i V b l h
    unfold bsL
    split
    · exact ih _ _ _ _ h
    · split
      · exact ih _ _ _ _ (shoV_Ct h)
      · exact ih _ _ _ _ (shoV_Ct h)
/-- a rumour's part of the checksum: the memories and the number -/
def wr1 (V : (Nat → Nat → Int32)) (N j : Nat) : (Nat → Nat → Int32) := triV V N j
def wr2 (V : (Nat → Nat → Int32)) (N j : Nat) : (Nat → Nat → Int32) := triV (wr1 V N j) N j
def wr3 (V : (Nat → Nat → Int32)) (N j : Nat) : (Nat → Nat → Int32) := bdV N j (N - 1) 1 (triD (wr2 V N j) N j 0)
def wrB (V : (Nat → Nat → Int32)) (N j : Nat) : Nat := bdB N j (N - 1) 1 (triD (wr2 V N j) N j 0) 0 (hbL (triD (wr2 V N j) N j 0) 33 N 0 (nI 0))
def wrX (V : (Nat → Nat → Int32)) (N K j : Nat) : (Nat → Nat → Int32) × Option Nat := bsL N K j (N - 1) 0 (triV (wr3 V N j) N j) none (hbL (triV (wr3 V N j) N j) 33 N 0 (nI 0))
def wrL (V : (Nat → Nat → Int32)) (j : Nat) : Nat → Nat → Int64 → Int64
  | 0, _, d => d
  | m + 1, i, d => wrL V j m (i + 1) (mx (mx (mx (mx d (V (43 + 10 * j + 1) i).toInt64) (V (43 + 10 * j + 2) i).toInt64) (V (43 + 10 * j + 3) i).toInt64) (V (43 + 10 * j + 4) i).toInt64)
def wrD (V : (Nat → Nat → Int32)) (N K j : Nat) (d : Int64) : Int64 :=
  wrL (wrX V N K j).1 j N 0 (mx (mx (mx (mx (mx (mx (mx (mx (mx d (V (43 + 10 * j) 0).toInt64) (V (43 + 10 * j) 1).toInt64) (hbL V (43 + 10 * j) N 0 (nI 0)).toInt64) (nI (reachedL V j N 0 0)).toInt64) (nI (underWayL V j N 0 0)).toInt64) (qtR V N j).toInt64) (hbL (triV (wr1 V N j) N j) 33 N 0 (nI 0)).toInt64) (nI (wrB V N j)).toInt64) (ov (wrX V N K j).2).toInt64)
theorem wr1_Ct {V : (Nat → Nat → Int32)} {N K R j : Nat} (h : Ct V N K R) : Ct (wr1 V N j) N K R := triV_Ct h
theorem wr2_Ct {V : (Nat → Nat → Int32)} {N K R j : Nat} (h : Ct V N K R) : Ct (wr2 V N j) N K R := triV_Ct (wr1_Ct h)
theorem wr3_Ct {V : (Nat → Nat → Int32)} {N K R j : Nat} (h : Ct V N K R) : Ct (wr3 V N j) N K R := (triD_Ct (wr2_Ct h)).o (bdV_out (by omega) _ _ _) (bdV_out (by omega) _ _ _)
theorem wrX_Ct {V : (Nat → Nat → Int32)} {N K R j : Nat} (h : Ct V N K R) : Ct (wrX V N K j).1 N K R := bsL_Ct _ _ _ _ _ (triV_Ct (wr3_Ct h))

set_option maxHeartbeats 4000000 in
set_option maxRecDepth 100000 in
theorem c_wr_loop {sx : Nat → jv_S} {g : jv_G} {X : jv_X} {T : jv_T} {n : Nat} {V : Nat → Nat → Int32} {L : Nat → Nat → Int64} {k z : Nat} {N K R : Nat} (hC : Ct V N K R) {j : Nat} {d0 : Int64} (hj : j < R) (hM : jv_M g X T) : ∀ (m : Nat) (i : Nat) (d : Int64), i ≤ N → N + 1 ≤ i + m → T (.inl (some (.long (wrL V j (N - i) i d)))) n (SH sx) V L → jv_J g X I_X4_withRumour 123 [some (jv_r g 0), some (.long d0), none, some (.int (nI j)), some (.long d), none, some (.int (nI i))] [] n (SH sx) V L k z := by
  intro m
  induction m with
  | zero => intro i d hi him hT; omega
  | succ m ih =>
  intro i d hi him hT
  obtain ⟨hN, hK, hR, hN2, hb, hK4, hR8⟩ := id hC
  refine j_iload_6 dX4_withRumour_123 ?_
  refine j_aload_n_0 dX4_withRumour_125 ?_
  refine G_X4_10 rfl dX4_withRumour_126 sk_0 sr_0_0 ?_
  refine G_X4_128 rfl dX4_withRumour_129 sk_1 ?_
  refine j_top (y := nI N) hN ?_
  refine j_ic_geN (by omega) (by omega) (tgt := 201) dX4_withRumour_132 (by decide) (fun h132 => ?_) (fun h132 => ?_)
  · refine j_lload_4 dX4_withRumour_201 ?_
    exact j_lret hM dX4_withRumour_203 rfl (by rw [show N - i = 0 by omega] at hT; exact hT)
  · refine j_lload_4 dX4_withRumour_135 ?_
    refine j_aload_n_0 dX4_withRumour_137 ?_
    refine j_iload_n_3 dX4_withRumour_138 ?_
    refine j_iload_6 dX4_withRumour_139 ?_
    refine C_X4_269 rfl (by decide) dX4_withRumour_141 sk_0 (Nat.le_of_ble_eq_true rfl) (Nat.le_of_eq (Nat.zero_add _)) (Nat.le_of_eq (Nat.zero_add _)) (fun _ _ hM' hT' => g_stateOf hC hj (by omega) hM' hT') ?_
    refine j_i2l dX4_withRumour_144 ?_
    refine C_X4_203 rfl (by decide) dX4_withRumour_145 (Nat.le_of_ble_eq_true rfl) (Nat.le_of_eq (Nat.zero_add _)) (Nat.le_of_eq (Nat.zero_add _)) (fun _ _ hM' hT' => g_mixed hM' hT') ?_
    refine j_lstore_4 rfl (by decide) dX4_withRumour_148 ?_
    refine j_lload_4 dX4_withRumour_150 ?_
    refine j_aload_n_0 dX4_withRumour_152 ?_
    refine j_iload_n_3 dX4_withRumour_153 ?_
    refine j_iload_6 dX4_withRumour_154 ?_
    refine C_X4_272 rfl (by decide) dX4_withRumour_156 sk_0 (Nat.le_of_ble_eq_true rfl) (Nat.le_of_eq (Nat.zero_add _)) (Nat.le_of_eq (Nat.zero_add _)) (fun _ _ hM' hT' => g_heardAt hC hj (by omega) hM' hT') ?_
    refine j_i2l dX4_withRumour_159 ?_
    refine C_X4_203 rfl (by decide) dX4_withRumour_160 (Nat.le_of_ble_eq_true rfl) (Nat.le_of_eq (Nat.zero_add _)) (Nat.le_of_eq (Nat.zero_add _)) (fun _ _ hM' hT' => g_mixed hM' hT') ?_
    refine j_lstore_4 rfl (by decide) dX4_withRumour_163 ?_
    refine j_lload_4 dX4_withRumour_165 ?_
    refine j_aload_n_0 dX4_withRumour_167 ?_
    refine j_iload_n_3 dX4_withRumour_168 ?_
    refine j_iload_6 dX4_withRumour_169 ?_
    refine C_X4_275 rfl (by decide) dX4_withRumour_171 sk_0 (Nat.le_of_ble_eq_true rfl) (Nat.le_of_eq (Nat.zero_add _)) (Nat.le_of_eq (Nat.zero_add _)) (fun _ _ hM' hT' => g_deniedAt hC hj (by omega) hM' hT') ?_
    refine j_i2l dX4_withRumour_174 ?_
    refine C_X4_203 rfl (by decide) dX4_withRumour_175 (Nat.le_of_ble_eq_true rfl) (Nat.le_of_eq (Nat.zero_add _)) (Nat.le_of_eq (Nat.zero_add _)) (fun _ _ hM' hT' => g_mixed hM' hT') ?_
    refine j_lstore_4 rfl (by decide) dX4_withRumour_178 ?_
    refine j_lload_4 dX4_withRumour_180 ?_
    refine j_aload_n_0 dX4_withRumour_182 ?_
    refine j_iload_n_3 dX4_withRumour_183 ?_
    refine j_iload_6 dX4_withRumour_184 ?_
    refine C_X4_278 rfl (by decide) dX4_withRumour_186 sk_0 (Nat.le_of_ble_eq_true rfl) (Nat.le_of_eq (Nat.zero_add _)) (Nat.le_of_eq (Nat.zero_add _)) (fun _ _ hM' hT' => g_pipesTo hC hj (by omega) hM' hT') ?_
    refine j_i2l dX4_withRumour_189 ?_
    refine C_X4_203 rfl (by decide) dX4_withRumour_190 (Nat.le_of_ble_eq_true rfl) (Nat.le_of_eq (Nat.zero_add _)) (Nat.le_of_eq (Nat.zero_add _)) (fun _ _ hM' hT' => g_mixed hM' hT') ?_
    refine j_lstore_4 rfl (by decide) dX4_withRumour_193 ?_
    refine j_inc1_6 rfl (by decide) dX4_withRumour_195 ?_
    refine j_goto (tgt := 123) dX4_withRumour_198 (by decide) ?_
    refine ih (i + 1) _ (by omega) (by omega) ?_
    rw [show N - i = (N - (i + 1)) + 1 by omega] at hT
    exact hT

set_option maxHeartbeats 4000000 in
set_option maxRecDepth 100000 in
theorem g_withRumour {sx : Nat → jv_S} {g : jv_G} {X : jv_X} {T : jv_T} {n : Nat} {V : Nat → Nat → Int32} {L : Nat → Nat → Int64} {k z : Nat} {N K R : Nat} (hC : Ct V N K R) {j : Nat} {d : Int64} (hj : j < R) (hM : jv_M g X T) (hT : T (.inl (some (.long (wrD V N K j d)))) n (SH sx) (wrX V N K j).1 L) : jv_J g X I_X4_withRumour 0 [some (jv_r g 0), some (.long d), none, some (.int (nI j)), none, none, none] [] n (SH sx) V L k z := by
  obtain ⟨hN, hK, hR, hN2, hb, hK4, hR8⟩ := id hC
  refine j_lload_n_1 dX4_withRumour_0 ?_
  refine j_lstore_4 rfl (by decide) dX4_withRumour_1 ?_
  refine j_lload_4 dX4_withRumour_3 ?_
  refine j_aload_n_0 dX4_withRumour_5 ?_
  refine j_iload_n_3 dX4_withRumour_6 ?_
  refine C_X4_245 rfl (by decide) dX4_withRumour_7 sk_0 (Nat.le_of_ble_eq_true rfl) (Nat.le_of_eq (Nat.zero_add _)) (Nat.le_of_eq (Nat.zero_add _)) (fun _ _ hM' hT' => g_originOf hC hj hM' hT') ?_
  refine j_i2l dX4_withRumour_10 ?_
  refine C_X4_203 rfl (by decide) dX4_withRumour_11 (Nat.le_of_ble_eq_true rfl) (Nat.le_of_eq (Nat.zero_add _)) (Nat.le_of_eq (Nat.zero_add _)) (fun _ _ hM' hT' => g_mixed hM' hT') ?_
  refine j_lstore_4 rfl (by decide) dX4_withRumour_14 ?_
  refine j_lload_4 dX4_withRumour_16 ?_
  refine j_aload_n_0 dX4_withRumour_18 ?_
  refine j_iload_n_3 dX4_withRumour_19 ?_
  refine C_X4_248 rfl (by decide) dX4_withRumour_20 sk_0 (Nat.le_of_ble_eq_true rfl) (Nat.le_of_eq (Nat.zero_add _)) (Nat.le_of_eq (Nat.zero_add _)) (fun _ _ hM' hT' => g_reachOf hC hj hM' hT') ?_
  refine j_i2l dX4_withRumour_23 ?_
  refine C_X4_203 rfl (by decide) dX4_withRumour_24 (Nat.le_of_ble_eq_true rfl) (Nat.le_of_eq (Nat.zero_add _)) (Nat.le_of_eq (Nat.zero_add _)) (fun _ _ hM' hT' => g_mixed hM' hT') ?_
  refine j_lstore_4 rfl (by decide) dX4_withRumour_27 ?_
  refine j_lload_4 dX4_withRumour_29 ?_
  refine j_aload_n_0 dX4_withRumour_31 ?_
  refine j_iload_n_3 dX4_withRumour_32 ?_
  refine C_X4_251 rfl (by decide) dX4_withRumour_33 sk_0 (Nat.le_of_ble_eq_true rfl) (Nat.le_of_eq (Nat.zero_add _)) (Nat.le_of_eq (Nat.zero_add _)) (fun _ _ hM' hT' => g_believers hC hj hM' hT') ?_
  refine j_i2l dX4_withRumour_36 ?_
  refine C_X4_203 rfl (by decide) dX4_withRumour_37 (Nat.le_of_ble_eq_true rfl) (Nat.le_of_eq (Nat.zero_add _)) (Nat.le_of_eq (Nat.zero_add _)) (fun _ _ hM' hT' => g_mixed hM' hT') ?_
  refine j_lstore_4 rfl (by decide) dX4_withRumour_40 ?_
  refine j_lload_4 dX4_withRumour_42 ?_
  refine j_aload_n_0 dX4_withRumour_44 ?_
  refine j_iload_n_3 dX4_withRumour_45 ?_
  refine C_X4_254 rfl (by decide) dX4_withRumour_46 sk_0 (Nat.le_of_ble_eq_true rfl) (Nat.le_of_eq (Nat.zero_add _)) (Nat.le_of_eq (Nat.zero_add _)) (fun _ _ hM' hT' => g_reached hC hj hM' hT') ?_
  refine j_i2l dX4_withRumour_49 ?_
  refine C_X4_203 rfl (by decide) dX4_withRumour_50 (Nat.le_of_ble_eq_true rfl) (Nat.le_of_eq (Nat.zero_add _)) (Nat.le_of_eq (Nat.zero_add _)) (fun _ _ hM' hT' => g_mixed hM' hT') ?_
  refine j_lstore_4 rfl (by decide) dX4_withRumour_53 ?_
  refine j_lload_4 dX4_withRumour_55 ?_
  refine j_aload_n_0 dX4_withRumour_57 ?_
  refine j_iload_n_3 dX4_withRumour_58 ?_
  refine C_X4_257 rfl (by decide) dX4_withRumour_59 sk_0 (Nat.le_of_ble_eq_true rfl) (Nat.le_of_eq (Nat.zero_add _)) (Nat.le_of_eq (Nat.zero_add _)) (fun _ _ hM' hT' => g_underWay hC hj hM' hT') ?_
  refine j_i2l dX4_withRumour_62 ?_
  refine C_X4_203 rfl (by decide) dX4_withRumour_63 (Nat.le_of_ble_eq_true rfl) (Nat.le_of_eq (Nat.zero_add _)) (Nat.le_of_eq (Nat.zero_add _)) (fun _ _ hM' hT' => g_mixed hM' hT') ?_
  refine j_lstore_4 rfl (by decide) dX4_withRumour_66 ?_
  refine j_lload_4 dX4_withRumour_68 ?_
  refine j_aload_n_0 dX4_withRumour_70 ?_
  refine j_iload_n_3 dX4_withRumour_71 ?_
  refine C_X4_260 rfl (by decide) dX4_withRumour_72 sk_0 (Nat.le_of_ble_eq_true rfl) (Nat.le_of_eq (Nat.zero_add _)) (Nat.le_of_eq (Nat.zero_add _)) (fun _ _ hM' hT' => g_quietIn hC hj hM' hT') ?_
  refine j_i2l dX4_withRumour_75 ?_
  refine C_X4_203 rfl (by decide) dX4_withRumour_76 (Nat.le_of_ble_eq_true rfl) (Nat.le_of_eq (Nat.zero_add _)) (Nat.le_of_eq (Nat.zero_add _)) (fun _ _ hM' hT' => g_mixed hM' hT') ?_
  refine j_lstore_4 rfl (by decide) dX4_withRumour_79 ?_
  refine j_lload_4 dX4_withRumour_81 ?_
  refine j_aload_n_0 dX4_withRumour_83 ?_
  refine j_iload_n_3 dX4_withRumour_84 ?_
  refine C_X4_194 rfl (by decide) dX4_withRumour_85 sk_0 (Nat.le_of_ble_eq_true rfl) (Nat.le_of_eq (Nat.zero_add _)) (Nat.le_of_eq (Nat.zero_add _)) (fun _ _ hM' hT' => g_believersInTheEnd (wr1_Ct hC) hj hM' hT') ?_
  refine j_i2l dX4_withRumour_88 ?_
  refine C_X4_203 rfl (by decide) dX4_withRumour_89 (Nat.le_of_ble_eq_true rfl) (Nat.le_of_eq (Nat.zero_add _)) (Nat.le_of_eq (Nat.zero_add _)) (fun _ _ hM' hT' => g_mixed hM' hT') ?_
  refine j_lstore_4 rfl (by decide) dX4_withRumour_92 ?_
  refine j_lload_4 dX4_withRumour_94 ?_
  refine j_aload_n_0 dX4_withRumour_96 ?_
  refine j_iload_n_3 dX4_withRumour_97 ?_
  refine C_X4_263 rfl (by decide) dX4_withRumour_98 sk_0 (Nat.le_of_ble_eq_true rfl) (Nat.le_of_eq (Nat.zero_add _)) (Nat.le_of_eq (Nat.zero_add _)) (fun _ _ hM' hT' => g_bestDenial (wr2_Ct hC) hj hM' hT') ?_
  refine j_i2l dX4_withRumour_101 ?_
  refine C_X4_203 rfl (by decide) dX4_withRumour_102 (Nat.le_of_ble_eq_true rfl) (Nat.le_of_eq (Nat.zero_add _)) (Nat.le_of_eq (Nat.zero_add _)) (fun _ _ hM' hT' => g_mixed hM' hT') ?_
  refine j_lstore_4 rfl (by decide) dX4_withRumour_105 ?_
  refine j_lload_4 dX4_withRumour_107 ?_
  refine j_aload_n_0 dX4_withRumour_109 ?_
  refine j_iload_n_3 dX4_withRumour_110 ?_
  refine C_X4_266 rfl (by decide) dX4_withRumour_111 sk_0 (Nat.le_of_ble_eq_true rfl) (Nat.le_of_eq (Nat.zero_add _)) (Nat.le_of_eq (Nat.zero_add _)) (fun _ _ hM' hT' => g_bestStairsToShut (wr3_Ct hC) hj hM' hT') ?_
  refine j_i2l dX4_withRumour_114 ?_
  refine C_X4_203 rfl (by decide) dX4_withRumour_115 (Nat.le_of_ble_eq_true rfl) (Nat.le_of_eq (Nat.zero_add _)) (Nat.le_of_eq (Nat.zero_add _)) (fun _ _ hM' hT' => g_mixed hM' hT') ?_
  refine j_lstore_4 rfl (by decide) dX4_withRumour_118 ?_
  refine j_iconst (v := nI 0) dX4_withRumour_120 nc_iconst_0 ?_
  refine j_istore_6 rfl (by decide) dX4_withRumour_121 ?_
  exact c_wr_loop (V := (wrX V N K j).1) (wrX_Ct hC) hj hM (N + 1) 0 _ (by omega) (by omega) hT

/-- the checksum's loops -/
def dgF (N : Nat) : Nat → Nat → (Nat → Nat → Int32) → Int64 → (Nat → Nat → Int32) × Int64
  | 0, _, V, d => (V, d)
  | m + 1, i, V, d => dgF N m (i + 1) (fndC (fndC V N i) N 0) (mx (mx (mx (mx (mx d (V 2 i).toInt64) (V 3 i).toInt64) (nI (neighboursL V i N 0 0)).toInt64) (nI (farL (fndC V N i) N 0 i)).toInt64) (fndC (fndC V N i) N 0 29 i).toInt64)
def dgS (V : (Nat → Nat → Int32)) : Nat → Nat → Int64 → Int64
  | 0, _, d => d
  | m + 1, i, d => dgS V m (i + 1) (mx (mx d (V 4 i).toInt64) (if V 5 i = 0 then 0 else 1))
def dgL (V : (Nat → Nat → Int32)) : Nat → Nat → Int64 → Int64
  | 0, _, d => d
  | m + 1, i, d => dgL V m (i + 1) (mx d (if V (20 + 2 * i) 0 = 0 then 0 else 1))
def dgR (N K : Nat) : Nat → Nat → (Nat → Nat → Int32) → Int64 → (Nat → Nat → Int32) × Int64
  | 0, _, V, d => (V, d)
  | m + 1, i, V, d => dgR N K m (i + 1) (wrX V N K i).1 (wrD V N K i d)
theorem dgF_out {N q : Nat} (h : q < 29 ∨ 31 < q) : ∀ m i V d, (dgF N m i V d).1 q = V q := by
  intro m
  induction m with
  | zero => intro i V d; rfl
  | succ m ih =>
    intro i V d
    unfold dgF
    rw [ih, fndC_out h, fndC_out h]
def dgc (V : (Nat → Nat → Int32)) (N : Nat) : (Nat → Nat → Int32) := (cenL N N 0 V none (nI 0)).1
def dgp (V : (Nat → Nat → Int32)) (N : Nat) : (Nat → Nat → Int32) := (parL N N 0 (dgc V N) 0).1
def dg0 (V : (Nat → Nat → Int32)) (N K R : Nat) : Int64 := mx (mx (mx (mx (mx (mx 2287 (nI N).toInt64) (V 0 5).toInt64) (nI K).toInt64) (nI R).toInt64) (oz (cenL N N 0 V none (nI 0)).2).toInt64) (nI (parL N N 0 (dgc V N) 0).2).toInt64
def dgG (V : (Nat → Nat → Int32)) (N K R : Nat) : (Nat → Nat → Int32) × Int64 := dgF N N 0 (dgp V N) (dg0 V N K R)
def dgX (V : (Nat → Nat → Int32)) (N K R : Nat) : (Nat → Nat → Int32) × Int64 := dgR N K R 0 (dgG V N K R).1 (dgL (dgG V N K R).1 K 0 (dgS (dgG V N K R).1 (N - 1) 0 (dgG V N K R).2))
theorem dgc_out {V : (Nat → Nat → Int32)} {N q : Nat} (h : q < 29 ∨ 31 < q) : dgc V N q = V q := cenL_out h _ _ _ _ _
theorem dgp_out {V : (Nat → Nat → Int32)} {N q : Nat} (h : q < 29 ∨ 31 < q) : dgp V N q = V q := by
  unfold dgp
  rw [parL_out h, dgc_out h]
theorem dgG_out {V : (Nat → Nat → Int32)} {N K R q : Nat} (h : q < 29 ∨ 31 < q) : (dgG V N K R).1 q = V q := by
  unfold dgG
  rw [dgF_out h, dgp_out h]
theorem dgc_Ct {V : (Nat → Nat → Int32)} {N K R : Nat} (h : Ct V N K R) : Ct (dgc V N) N K R := h.o (dgc_out (by omega)) (dgc_out (by omega))
theorem dgp_Ct {V : (Nat → Nat → Int32)} {N K R : Nat} (h : Ct V N K R) : Ct (dgp V N) N K R := h.o (dgp_out (by omega)) (dgp_out (by omega))
theorem dgG_Ct {V : (Nat → Nat → Int32)} {N K R : Nat} (h : Ct V N K R) : Ct (dgG V N K R).1 N K R := h.o (dgG_out (by omega)) (dgG_out (by omega))

set_option maxHeartbeats 4000000 in
set_option maxRecDepth 100000 in
theorem c_dgR_loop {sx : Nat → jv_S} {g : jv_G} {X : jv_X} {T : jv_T} {n : Nat} {V : Nat → Nat → Int32} {L : Nat → Nat → Int64} {k z : Nat} {N K R : Nat} (hM : jv_M g X T) : ∀ (m : Nat) (i : Nat) (V : (Nat → Nat → Int32)) (d : Int64), Ct V N K R → i ≤ R → R + 1 ≤ i + m → T (.inl (some (.long (dgR N K (R - i) i V d).2))) n (SH sx) (dgR N K (R - i) i V d).1 L → jv_J g X I_X4_digest 228 [some (jv_r g 0), some (.long d), none, some (.int (nI i))] [] n (SH sx) V L k z := by
  intro m
  induction m with
  | zero => intro i V d hC hi him hT; omega
  | succ m ih =>
  intro i V d hC hi him hT
  obtain ⟨hN, hK, hR, hN2, hb, hK4, hR8⟩ := id hC
  refine j_iload_n_3 dX4_digest_228 ?_
  refine j_aload_n_0 dX4_digest_229 ?_
  refine G_X4_34 rfl dX4_digest_230 sk_0 ?_
  refine j_top (y := nI R) hR ?_
  refine j_ic_geN (by omega) (by omega) (tgt := 249) dX4_digest_233 (by decide) (fun h233 => ?_) (fun h233 => ?_)
  · refine j_lload_n_1 dX4_digest_249 ?_
    exact j_lret hM dX4_digest_250 rfl (by rw [show R - i = 0 by omega] at hT; exact hT)
  · refine j_aload_n_0 dX4_digest_236 ?_
    refine j_lload_n_1 dX4_digest_237 ?_
    refine j_iload_n_3 dX4_digest_238 ?_
    refine C_X4_241 rfl (by decide) dX4_digest_239 sk_0 (Nat.le_of_ble_eq_true rfl) (Nat.le_of_eq (Nat.zero_add _)) (Nat.le_of_eq (Nat.zero_add _)) (fun _ _ hM' hT' => g_withRumour hC (by omega) hM' hT') ?_
    refine j_lstore_n_1 rfl (by decide) dX4_digest_242 ?_
    refine j_inc1_3 rfl (by decide) dX4_digest_243 ?_
    refine j_goto (tgt := 228) dX4_digest_246 (by decide) ?_
    refine ih (i + 1) _ _ (wrX_Ct hC) (by omega) (by omega) ?_
    rw [show R - i = (R - (i + 1)) + 1 by omega] at hT
    exact hT

set_option maxHeartbeats 4000000 in
set_option maxRecDepth 100000 in
theorem c_dgL_loop {sx : Nat → jv_S} {g : jv_G} {X : jv_X} {T : jv_T} {n : Nat} {V : Nat → Nat → Int32} {L : Nat → Nat → Int64} {k z : Nat} {N K R : Nat} (hC : Ct V N K R) (hB : ∀ l, l < K → V (20 + 2 * l) 0 = 0 ∨ V (20 + 2 * l) 0 = 1) (hM : jv_M g X T) : ∀ (m : Nat) (i : Nat) (d : Int64), i ≤ K → K + 1 ≤ i + m → T (.inl (some (.long (dgR N K R 0 V (dgL V (K - i) i d)).2))) n (SH sx) (dgR N K R 0 V (dgL V (K - i) i d)).1 L → jv_J g X I_X4_digest 191 [some (jv_r g 0), some (.long d), none, some (.int (nI i))] [] n (SH sx) V L k z := by
  intro m
  induction m with
  | zero => intro i d hi him hT; omega
  | succ m ih =>
  intro i d hi him hT
  obtain ⟨hN, hK, hR, hN2, hb, hK4, hR8⟩ := id hC
  refine j_iload_n_3 dX4_digest_191 ?_
  refine j_aload_n_0 dX4_digest_192 ?_
  refine G_X4_10 rfl dX4_digest_193 sk_0 sr_0_0 ?_
  refine G_X4_76 rfl dX4_digest_196 sk_1 ?_
  refine j_top (y := nI K) hK ?_
  refine j_ic_geN (by omega) (by omega) (tgt := 226) dX4_digest_199 (by decide) (fun h199 => ?_) (fun h199 => ?_)
  · refine j_iconst (v := nI 0) dX4_digest_226 nc_iconst_0 ?_
    refine j_istore_n_3 rfl (by decide) dX4_digest_227 ?_
    exact c_dgR_loop (V := V) hM (R + 1) 0 V _ hC (by omega) (by omega) (by rw [show K - i = 0 by omega] at hT; exact hT)
  · refine j_lload_n_1 dX4_digest_202 ?_
    refine j_aload_n_0 dX4_digest_203 ?_
    refine j_iload_n_3 dX4_digest_204 ?_
    refine C_X4_238 rfl (by decide) dX4_digest_205 sk_0 (Nat.le_of_ble_eq_true rfl) (Nat.le_of_eq (Nat.zero_add _)) (Nat.le_of_eq (Nat.zero_add _)) (fun _ _ hM' hT' => g_runs hC (by omega) (hB i (by omega)) hM' hT') ?_
    refine j_if_eq (tgt := 215) dX4_digest_208 (by decide) (fun h208 => ?_) (fun h208 => ?_)
    · refine j_lconst dX4_digest_215 rfl ?_
      refine j_topl (y := if V (20 + 2 * i) 0 = 0 then 0 else 1) (by rw [if_pos h208]; rfl) ?_
      refine C_X4_203 rfl (by decide) dX4_digest_216 (Nat.le_of_ble_eq_true rfl) (Nat.le_of_eq (Nat.zero_add _)) (Nat.le_of_eq (Nat.zero_add _)) (fun _ _ hM' hT' => g_mixed hM' hT') ?_
      refine j_lstore_n_1 rfl (by decide) dX4_digest_219 ?_
      refine j_inc1_3 rfl (by decide) dX4_digest_220 ?_
      refine j_goto (tgt := 191) dX4_digest_223 (by decide) ?_
      refine ih (i + 1) _ (by omega) (by omega) ?_
      rw [show K - i = (K - (i + 1)) + 1 by omega] at hT
      exact hT
    · refine j_lconst dX4_digest_211 rfl ?_
      refine j_goto (tgt := 216) dX4_digest_212 (by decide) ?_
      refine j_topl (y := if V (20 + 2 * i) 0 = 0 then 0 else 1) (by rw [if_neg h208]; rfl) ?_
      refine C_X4_203 rfl (by decide) dX4_digest_216 (Nat.le_of_ble_eq_true rfl) (Nat.le_of_eq (Nat.zero_add _)) (Nat.le_of_eq (Nat.zero_add _)) (fun _ _ hM' hT' => g_mixed hM' hT') ?_
      refine j_lstore_n_1 rfl (by decide) dX4_digest_219 ?_
      refine j_inc1_3 rfl (by decide) dX4_digest_220 ?_
      refine j_goto (tgt := 191) dX4_digest_223 (by decide) ?_
      refine ih (i + 1) _ (by omega) (by omega) ?_
      rw [show K - i = (K - (i + 1)) + 1 by omega] at hT
      exact hT

set_option maxHeartbeats 4000000 in
set_option maxRecDepth 100000 in
theorem c_dgS_loop {sx : Nat → jv_S} {g : jv_G} {X : jv_X} {T : jv_T} {n : Nat} {V : Nat → Nat → Int32} {L : Nat → Nat → Int64} {k z : Nat} {N K R : Nat} (hC : Ct V N K R) (hB : ∀ l, l < K → V (20 + 2 * l) 0 = 0 ∨ V (20 + 2 * l) 0 = 1) (hO : ∀ f, f < 12 → V 5 f = 0 ∨ V 5 f = 1) (hM : jv_M g X T) : ∀ (m : Nat) (i : Nat) (d : Int64), i ≤ N - 1 → N + 1 ≤ i + m → T (.inl (some (.long (dgR N K R 0 V (dgL V K 0 (dgS V (N - 1 - i) i d))).2))) n (SH sx) (dgR N K R 0 V (dgL V K 0 (dgS V (N - 1 - i) i d))).1 L → jv_J g X I_X4_digest 141 [some (jv_r g 0), some (.long d), none, some (.int (nI i))] [] n (SH sx) V L k z := by
  intro m
  induction m with
  | zero => intro i d hi him hT; omega
  | succ m ih =>
  intro i d hi him hT
  obtain ⟨hN, hK, hR, hN2, hb, hK4, hR8⟩ := id hC
  refine j_iload_n_3 dX4_digest_141 ?_
  refine j_aload_n_0 dX4_digest_142 ?_
  refine G_X4_10 rfl dX4_digest_143 sk_0 sr_0_0 ?_
  refine G_X4_128 rfl dX4_digest_146 sk_1 ?_
  refine j_top (y := nI N) hN ?_
  refine j_iconst (v := nI 1) dX4_digest_149 nc_iconst_1 ?_
  refine j_isubN (by omega) dX4_digest_150 ?_
  refine j_ic_geN (by omega) (by omega) (tgt := 189) dX4_digest_151 (by decide) (fun h151 => ?_) (fun h151 => ?_)
  · refine j_iconst (v := nI 0) dX4_digest_189 nc_iconst_0 ?_
    refine j_istore_n_3 rfl (by decide) dX4_digest_190 ?_
    exact c_dgL_loop hC hB hM (K + 1) 0 _ (by omega) (by omega) (by rw [show N - 1 - i = 0 by omega] at hT; exact hT)
  · refine j_lload_n_1 dX4_digest_154 ?_
    refine j_aload_n_0 dX4_digest_155 ?_
    refine j_iload_n_3 dX4_digest_156 ?_
    refine C_X4_232 rfl (by decide) dX4_digest_157 sk_0 (Nat.le_of_ble_eq_true rfl) (Nat.le_of_eq (Nat.zero_add _)) (Nat.le_of_eq (Nat.zero_add _)) (fun _ _ hM' hT' => g_stairsOf hC (by omega) hM' hT') ?_
    refine j_i2l dX4_digest_160 ?_
    refine C_X4_203 rfl (by decide) dX4_digest_161 (Nat.le_of_ble_eq_true rfl) (Nat.le_of_eq (Nat.zero_add _)) (Nat.le_of_eq (Nat.zero_add _)) (fun _ _ hM' hT' => g_mixed hM' hT') ?_
    refine j_lstore_n_1 rfl (by decide) dX4_digest_164 ?_
    refine j_lload_n_1 dX4_digest_165 ?_
    refine j_aload_n_0 dX4_digest_166 ?_
    refine j_iload_n_3 dX4_digest_167 ?_
    refine C_X4_235 rfl (by decide) dX4_digest_168 sk_0 (Nat.le_of_ble_eq_true rfl) (Nat.le_of_eq (Nat.zero_add _)) (Nat.le_of_eq (Nat.zero_add _)) (fun _ _ hM' hT' => g_isOpen hC (by omega) (hO i (by omega)) hM' hT') ?_
    refine j_if_eq (tgt := 178) dX4_digest_171 (by decide) (fun h171 => ?_) (fun h171 => ?_)
    · refine j_lconst dX4_digest_178 rfl ?_
      refine j_topl (y := if V 5 i = 0 then 0 else 1) (by rw [if_pos h171]; rfl) ?_
      refine C_X4_203 rfl (by decide) dX4_digest_179 (Nat.le_of_ble_eq_true rfl) (Nat.le_of_eq (Nat.zero_add _)) (Nat.le_of_eq (Nat.zero_add _)) (fun _ _ hM' hT' => g_mixed hM' hT') ?_
      refine j_lstore_n_1 rfl (by decide) dX4_digest_182 ?_
      refine j_inc1_3 rfl (by decide) dX4_digest_183 ?_
      refine j_goto (tgt := 141) dX4_digest_186 (by decide) ?_
      refine ih (i + 1) _ (by omega) (by omega) ?_
      rw [show N - 1 - i = (N - 1 - (i + 1)) + 1 by omega] at hT
      exact hT
    · refine j_lconst dX4_digest_174 rfl ?_
      refine j_goto (tgt := 179) dX4_digest_175 (by decide) ?_
      refine j_topl (y := if V 5 i = 0 then 0 else 1) (by rw [if_neg h171]; rfl) ?_
      refine C_X4_203 rfl (by decide) dX4_digest_179 (Nat.le_of_ble_eq_true rfl) (Nat.le_of_eq (Nat.zero_add _)) (Nat.le_of_eq (Nat.zero_add _)) (fun _ _ hM' hT' => g_mixed hM' hT') ?_
      refine j_lstore_n_1 rfl (by decide) dX4_digest_182 ?_
      refine j_inc1_3 rfl (by decide) dX4_digest_183 ?_
      refine j_goto (tgt := 141) dX4_digest_186 (by decide) ?_
      refine ih (i + 1) _ (by omega) (by omega) ?_
      rw [show N - 1 - i = (N - 1 - (i + 1)) + 1 by omega] at hT
      exact hT

set_option maxHeartbeats 4000000 in
set_option maxRecDepth 100000 in
theorem c_dgF_loop {sx : Nat → jv_S} {g : jv_G} {X : jv_X} {T : jv_T} {n : Nat} {V : Nat → Nat → Int32} {L : Nat → Nat → Int64} {k z : Nat} {N K R : Nat} (hM : jv_M g X T) : ∀ (m : Nat) (i : Nat) (V : (Nat → Nat → Int32)) (d : Int64), Ct V N K R → (∀ l, l < K → V (20 + 2 * l) 0 = 0 ∨ V (20 + 2 * l) 0 = 1) → (∀ f, f < 12 → V 5 f = 0 ∨ V 5 f = 1) → i ≤ N → N + 1 ≤ i + m → T (.inl (some (.long (dgR N K R 0 (dgF N (N - i) i V d).1 (dgL (dgF N (N - i) i V d).1 K 0 (dgS (dgF N (N - i) i V d).1 (N - 1) 0 (dgF N (N - i) i V d).2))).2))) n (SH sx) (dgR N K R 0 (dgF N (N - i) i V d).1 (dgL (dgF N (N - i) i V d).1 K 0 (dgS (dgF N (N - i) i V d).1 (N - 1) 0 (dgF N (N - i) i V d).2))).1 L → jv_J g X I_X4_digest 66 [some (jv_r g 0), some (.long d), none, some (.int (nI i))] [] n (SH sx) V L k z := by
  intro m
  induction m with
  | zero => intro i V d hC hB hO hi him hT; omega
  | succ m ih =>
  intro i V d hC hB hO hi him hT
  obtain ⟨hN, hK, hR, hN2, hb, hK4, hR8⟩ := id hC
  refine j_iload_n_3 dX4_digest_66 ?_
  refine j_aload_n_0 dX4_digest_67 ?_
  refine G_X4_10 rfl dX4_digest_68 sk_0 sr_0_0 ?_
  refine G_X4_128 rfl dX4_digest_71 sk_1 ?_
  refine j_top (y := nI N) hN ?_
  refine j_ic_geN (by omega) (by omega) (tgt := 139) dX4_digest_74 (by decide) (fun h74 => ?_) (fun h74 => ?_)
  · refine j_iconst (v := nI 0) dX4_digest_139 nc_iconst_0 ?_
    refine j_istore_n_3 rfl (by decide) dX4_digest_140 ?_
    exact c_dgS_loop hC hB hO hM (N + 1) 0 _ (by omega) (by omega) (by rw [show N - i = 0 by omega] at hT; exact hT)
  · refine j_lload_n_1 dX4_digest_77 ?_
    refine j_aload_n_0 dX4_digest_78 ?_
    refine j_iload_n_3 dX4_digest_79 ?_
    refine C_X4_220 rfl (by decide) dX4_digest_80 sk_0 (Nat.le_of_ble_eq_true rfl) (Nat.le_of_eq (Nat.zero_add _)) (Nat.le_of_eq (Nat.zero_add _)) (fun _ _ hM' hT' => g_headsOf hC (by omega) hM' hT') ?_
    refine j_i2l dX4_digest_83 ?_
    refine C_X4_203 rfl (by decide) dX4_digest_84 (Nat.le_of_ble_eq_true rfl) (Nat.le_of_eq (Nat.zero_add _)) (Nat.le_of_eq (Nat.zero_add _)) (fun _ _ hM' hT' => g_mixed hM' hT') ?_
    refine j_lstore_n_1 rfl (by decide) dX4_digest_87 ?_
    refine j_lload_n_1 dX4_digest_88 ?_
    refine j_aload_n_0 dX4_digest_89 ?_
    refine j_iload_n_3 dX4_digest_90 ?_
    refine C_X4_223 rfl (by decide) dX4_digest_91 sk_0 (Nat.le_of_ble_eq_true rfl) (Nat.le_of_eq (Nat.zero_add _)) (Nat.le_of_eq (Nat.zero_add _)) (fun _ _ hM' hT' => g_stayOf hC (by omega) hM' hT') ?_
    refine j_i2l dX4_digest_94 ?_
    refine C_X4_203 rfl (by decide) dX4_digest_95 (Nat.le_of_ble_eq_true rfl) (Nat.le_of_eq (Nat.zero_add _)) (Nat.le_of_eq (Nat.zero_add _)) (fun _ _ hM' hT' => g_mixed hM' hT') ?_
    refine j_lstore_n_1 rfl (by decide) dX4_digest_98 ?_
    refine j_lload_n_1 dX4_digest_99 ?_
    refine j_aload_n_0 dX4_digest_100 ?_
    refine j_iload_n_3 dX4_digest_101 ?_
    refine C_X4_226 rfl (by decide) dX4_digest_102 sk_0 (Nat.le_of_ble_eq_true rfl) (Nat.le_of_eq (Nat.zero_add _)) (Nat.le_of_eq (Nat.zero_add _)) (fun _ _ hM' hT' => g_neighbours hC (by omega) hM' hT') ?_
    refine j_i2l dX4_digest_105 ?_
    refine C_X4_203 rfl (by decide) dX4_digest_106 (Nat.le_of_ble_eq_true rfl) (Nat.le_of_eq (Nat.zero_add _)) (Nat.le_of_eq (Nat.zero_add _)) (fun _ _ hM' hT' => g_mixed hM' hT') ?_
    refine j_lstore_n_1 rfl (by decide) dX4_digest_109 ?_
    refine j_lload_n_1 dX4_digest_110 ?_
    refine j_aload_n_0 dX4_digest_111 ?_
    refine j_iload_n_3 dX4_digest_112 ?_
    refine C_X4_229 rfl (by decide) dX4_digest_113 sk_0 (Nat.le_of_ble_eq_true rfl) (Nat.le_of_eq (Nat.zero_add _)) (Nat.le_of_eq (Nat.zero_add _)) (fun _ _ hM' hT' => g_farthestFrom hC (by omega) hM' hT') ?_
    refine j_i2l dX4_digest_116 ?_
    refine C_X4_203 rfl (by decide) dX4_digest_117 (Nat.le_of_ble_eq_true rfl) (Nat.le_of_eq (Nat.zero_add _)) (Nat.le_of_eq (Nat.zero_add _)) (fun _ _ hM' hT' => g_mixed hM' hT') ?_
    refine j_lstore_n_1 rfl (by decide) dX4_digest_120 ?_
    refine j_lload_n_1 dX4_digest_121 ?_
    refine j_aload_n_0 dX4_digest_122 ?_
    refine j_iconst (v := nI 0) dX4_digest_123 nc_iconst_0 ?_
    refine j_iload_n_3 dX4_digest_124 ?_
    refine C_X4_177 rfl (by decide) dX4_digest_125 sk_0 (Nat.le_of_ble_eq_true rfl) (Nat.le_of_eq (Nat.zero_add _)) (Nat.le_of_eq (Nat.zero_add _)) (fun _ _ hM' hT' => g_quickest (fndC_Ct hC) (by omega) (by omega) hM' hT') ?_
    refine j_i2l dX4_digest_128 ?_
    refine C_X4_203 rfl (by decide) dX4_digest_129 (Nat.le_of_ble_eq_true rfl) (Nat.le_of_eq (Nat.zero_add _)) (Nat.le_of_eq (Nat.zero_add _)) (fun _ _ hM' hT' => g_mixed hM' hT') ?_
    refine j_lstore_n_1 rfl (by decide) dX4_digest_132 ?_
    refine j_inc1_3 rfl (by decide) dX4_digest_133 ?_
    refine j_goto (tgt := 66) dX4_digest_136 (by decide) ?_
    refine ih (i + 1) _ _ (fndC_Ct (fndC_Ct hC)) (fun l hl => by rw [fndC_out (by omega), fndC_out (by omega)]; exact hB l hl) (fun f hf => by rw [fndC_out (by omega), fndC_out (by omega)]; exact hO f hf) (by omega) (by omega) ?_
    rw [show N - i = (N - (i + 1)) + 1 by omega] at hT
    exact hT

set_option maxHeartbeats 4000000 in
set_option maxRecDepth 100000 in
theorem g_digest {sx : Nat → jv_S} {g : jv_G} {X : jv_X} {T : jv_T} {n : Nat} {V : Nat → Nat → Int32} {L : Nat → Nat → Int64} {k z : Nat} {N K R : Nat} (hC : Ct V N K R) (hB : ∀ l, l < K → V (20 + 2 * l) 0 = 0 ∨ V (20 + 2 * l) 0 = 1) (hO : ∀ f, f < 12 → V 5 f = 0 ∨ V 5 f = 1) (hM : jv_M g X T) (hT : T (.inl (some (.long (dgX V N K R).2))) n (SH sx) (dgX V N K R).1 L) : jv_J g X I_X4_digest 0 [some (jv_r g 0), none, none, none] [] n (SH sx) V L k z := by
  obtain ⟨hN, hK, hR, hN2, hb, hK4, hR8⟩ := id hC
  refine j_ldc2 (v := 2287) dX4_digest_0 (jv_gwm 503 (by decide +kernel) rfl) ?_
  refine j_lstore_n_1 rfl (by decide) dX4_digest_3 ?_
  refine j_lload_n_1 dX4_digest_4 ?_
  refine j_aload_n_0 dX4_digest_5 ?_
  refine C_X4_199 rfl (by decide) dX4_digest_6 sk_0 (Nat.le_of_ble_eq_true rfl) (Nat.le_of_eq (Nat.zero_add _)) (Nat.le_of_eq (Nat.zero_add _)) (fun _ _ hM' hT' => g_floors hC hM' hT') ?_
  refine j_i2l dX4_digest_9 ?_
  refine C_X4_203 rfl (by decide) dX4_digest_10 (Nat.le_of_ble_eq_true rfl) (Nat.le_of_eq (Nat.zero_add _)) (Nat.le_of_eq (Nat.zero_add _)) (fun _ _ hM' hT' => g_mixed hM' hT') ?_
  refine j_lstore_n_1 rfl (by decide) dX4_digest_13 ?_
  refine j_lload_n_1 dX4_digest_14 ?_
  refine j_aload_n_0 dX4_digest_15 ?_
  refine C_X4_207 rfl (by decide) dX4_digest_16 sk_0 (Nat.le_of_ble_eq_true rfl) (Nat.le_of_eq (Nat.zero_add _)) (Nat.le_of_eq (Nat.zero_add _)) (fun _ _ hM' hT' => g_hours hC hM' hT') ?_
  refine j_i2l dX4_digest_19 ?_
  refine C_X4_203 rfl (by decide) dX4_digest_20 (Nat.le_of_ble_eq_true rfl) (Nat.le_of_eq (Nat.zero_add _)) (Nat.le_of_eq (Nat.zero_add _)) (fun _ _ hM' hT' => g_mixed hM' hT') ?_
  refine j_lstore_n_1 rfl (by decide) dX4_digest_23 ?_
  refine j_lload_n_1 dX4_digest_24 ?_
  refine j_aload_n_0 dX4_digest_25 ?_
  refine C_X4_209 rfl (by decide) dX4_digest_26 sk_0 (Nat.le_of_ble_eq_true rfl) (Nat.le_of_eq (Nat.zero_add _)) (Nat.le_of_eq (Nat.zero_add _)) (fun _ _ hM' hT' => g_lifts hC hM' hT') ?_
  refine j_i2l dX4_digest_29 ?_
  refine C_X4_203 rfl (by decide) dX4_digest_30 (Nat.le_of_ble_eq_true rfl) (Nat.le_of_eq (Nat.zero_add _)) (Nat.le_of_eq (Nat.zero_add _)) (fun _ _ hM' hT' => g_mixed hM' hT') ?_
  refine j_lstore_n_1 rfl (by decide) dX4_digest_33 ?_
  refine j_lload_n_1 dX4_digest_34 ?_
  refine j_aload_n_0 dX4_digest_35 ?_
  refine C_X4_211 rfl (by decide) dX4_digest_36 sk_0 (Nat.le_of_ble_eq_true rfl) (Nat.le_of_eq (Nat.zero_add _)) (Nat.le_of_eq (Nat.zero_add _)) (fun _ _ hM' hT' => g_rumours hC hM' hT') ?_
  refine j_i2l dX4_digest_39 ?_
  refine C_X4_203 rfl (by decide) dX4_digest_40 (Nat.le_of_ble_eq_true rfl) (Nat.le_of_eq (Nat.zero_add _)) (Nat.le_of_eq (Nat.zero_add _)) (fun _ _ hM' hT' => g_mixed hM' hT') ?_
  refine j_lstore_n_1 rfl (by decide) dX4_digest_43 ?_
  refine j_lload_n_1 dX4_digest_44 ?_
  refine j_aload_n_0 dX4_digest_45 ?_
  refine C_X4_214 rfl (by decide) dX4_digest_46 sk_0 (Nat.le_of_ble_eq_true rfl) (Nat.le_of_eq (Nat.zero_add _)) (Nat.le_of_eq (Nat.zero_add _)) (fun _ _ hM' hT' => g_centre hC hM' hT') ?_
  refine j_i2l dX4_digest_49 ?_
  refine C_X4_203 rfl (by decide) dX4_digest_50 (Nat.le_of_ble_eq_true rfl) (Nat.le_of_eq (Nat.zero_add _)) (Nat.le_of_eq (Nat.zero_add _)) (fun _ _ hM' hT' => g_mixed hM' hT') ?_
  refine j_lstore_n_1 rfl (by decide) dX4_digest_53 ?_
  refine j_lload_n_1 dX4_digest_54 ?_
  refine j_aload_n_0 dX4_digest_55 ?_
  refine C_X4_217 rfl (by decide) dX4_digest_56 sk_0 (Nat.le_of_ble_eq_true rfl) (Nat.le_of_eq (Nat.zero_add _)) (Nat.le_of_eq (Nat.zero_add _)) (fun _ _ hM' hT' => g_parts (dgc_Ct hC) hM' hT') ?_
  refine j_i2l dX4_digest_59 ?_
  refine C_X4_203 rfl (by decide) dX4_digest_60 (Nat.le_of_ble_eq_true rfl) (Nat.le_of_eq (Nat.zero_add _)) (Nat.le_of_eq (Nat.zero_add _)) (fun _ _ hM' hT' => g_mixed hM' hT') ?_
  refine j_lstore_n_1 rfl (by decide) dX4_digest_63 ?_
  refine j_iconst (v := nI 0) dX4_digest_64 nc_iconst_0 ?_
  refine j_istore_n_3 rfl (by decide) dX4_digest_65 ?_
  exact c_dgF_loop (V := V) hM (N + 1) 0 (dgp V N) _ (dgp_Ct hC) (fun l hl => by rw [dgp_out (by omega)]; exact hB l hl) (fun f hf => by rw [dgp_out (by omega)]; exact hO f hf) (by omega) (by omega) hT

theorem dv_all : (List.range 1189).all (fun s => (List.range 11).all fun c => decide (FP.ddiv (FP.i2d (nI s)) (FP.i2d (nI (c + 2))) &&& 0x7fffffffffffffff ≤ 0x7ff0000000000000)) = true := by decide +kernel
theorem dv_n64 {s c : Nat} (hs : s < 1189) (hc : 2 ≤ c) (h12 : c ≤ 12) : vf_n64 (FP.ddiv (FP.i2d (nI s)) (FP.i2d (nI c))) := by
  have h1 := List.all_eq_true.mp dv_all s (List.mem_range.mpr hs)
  have h2 := of_decide_eq_true (List.all_eq_true.mp h1 (c - 2) (List.mem_range.mpr (by omega)))
  rw [show c - 2 + 2 = c by omega] at h2
  exact h2
