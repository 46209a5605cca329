/-! ===== the reference: what it asks of arguments; pipes; ways ===== -/
/-- floors, lifts, rumours of the reference: how many; no lift's step is zero -/
def Mt (V : (Nat → Nat → Int32)) (N K R : Nat) : Prop := V 123 1 = nI N ∧ V 123 2 = nI K ∧ V 123 3 = nI R ∧ 2 ≤ N ∧ N ≤ 12 ∧ K ≤ 4 ∧ R ≤ 8 ∧ ∀ k, k < K → ¬ V 130 k = 0
theorem Mt.to {V W : (Nat → Nat → Int32)} {N K R : Nat} (h : Mt V N K R) (h1 : W 123 1 = V 123 1) (h2 : W 123 2 = V 123 2) (h3 : W 123 3 = V 123 3) (h4 : W 130 = V 130) : Mt W N K R := by
  obtain ⟨a, b, c, d, e, f, g, i⟩ := h
  exact ⟨by rw [h1]; exact a, by rw [h2]; exact b, by rw [h3]; exact c, d, e, f, g, by rw [h4]; exact i⟩
theorem Mt.o {V W : (Nat → Nat → Int32)} {N K R : Nat} (h : Mt V N K R) (h1 : W 123 = V 123) (h4 : W 130 = V 130) : Mt W N K R := h.to (by rw [h1]) (by rw [h1]) (by rw [h1]) h4
def inB (v lo hi : Int32) : Bool := decide (¬ v < lo ∧ ¬ hi < v)
theorem inB_ok {f N c : Nat} (h : f + c ≤ N) (hN : N ≤ 12) : inB (nI f) (nI 0) (nI N - nI c) = true := by
  unfold inB
  apply decide_eq_true
  refine ⟨nI_nlt (by omega) (by omega), ?_⟩
  rw [pk_sub (by omega : c ≤ N)]
  exact nI_nlt (by omega) (by omega)
theorem inB_bad {x : Int32} {N c : Nat} (hc : 1 ≤ c) (hcN : c ≤ N + 1) (hN : N ≤ 12) (h : x < 0 ∨ nI (N + 1 - c) ≤ x) : inB x (nI 0) (nI N - nI c) = false := by
  unfold inB
  apply decide_eq_false
  rintro ⟨h1, h2⟩
  rcases h with h | h
  · rw [nI_0] at h1; exact h1 h
  · apply h2
    rw [Int32.lt_iff_toInt_lt, pk_sub_toInt (by omega) (by omega)]
    rw [Int32.le_iff_toInt_le, nI_toInt (by omega)] at h
    omega
theorem inN_ok {m a b : Nat} (h1 : a ≤ m) (h2 : m ≤ b) (hb : b < 2 ^ 31) : inB (nI m) (nI a) (nI b) = true := by
  unfold inB
  apply decide_eq_true
  exact ⟨nI_nlt h1 (by omega), nI_nlt h2 (by omega)⟩
theorem inX_ok {x a b : Int32} (h1 : ¬ x < a) (h2 : x ≤ b) : inB x a b = true := decide_eq_true ⟨h1, Int32.not_lt.mpr h2⟩
theorem inX_bad {x a b : Int32} (h : x < a ∨ b < x) : inB x a b = false := decide_eq_false (fun c => h.elim c.1 c.2)
def svB (V : (Nat → Nat → Int32)) (k : Nat) (x : Int32) : Bool := inB x (V 128 k) (V 129 k) && decide ((x - V 128 k) - (x - V 128 k) / V 130 k * V 130 k = 0)

set_option maxHeartbeats 4000000 in
set_option maxRecDepth 100000 in
theorem y_isIn {sx : Nat → jv_S} {g : jv_G} {X : jv_X} {T : jv_T} {n : Nat} {V : Nat → Nat → Int32} {L : Nat → Nat → Int64} {k z : Nat} {x a b : Int32} (hM : jv_M g X T) (hT : T (.inl (some (.int (bz (inB x a b))))) n (SH sx) (V) L) : jv_J g X I_X5_isIn 0 [some (.int x), some (.int a), some (.int b)] [] n (SH sx) V L k z := by
  refine j_iload_n_0 dX5_isIn_0 ?_
  refine j_iload_n_1 dX5_isIn_1 ?_
  refine j_ic_lt (tgt := 14) dX5_isIn_2 (by decide) (fun h2 => ?_) (fun h2 => ?_)
  · refine j_iconst (v := nI 0) dX5_isIn_14 nc_iconst_0 ?_
    exact j_zret hM dX5_isIn_15 rfl (jv_b01 (by first | exact Or.inl rfl | exact Or.inr rfl | assumption)) (by rw [show inB x a b = false from decide_eq_false (fun c => c.1 h2)] at hT; exact hT)
  · refine j_iload_n_0 dX5_isIn_5 ?_
    refine j_iload_n_2 dX5_isIn_6 ?_
    refine j_ic_gt (tgt := 14) dX5_isIn_7 (by decide) (fun h7 => ?_) (fun h7 => ?_)
    · refine j_iconst (v := nI 0) dX5_isIn_14 nc_iconst_0 ?_
      exact j_zret hM dX5_isIn_15 rfl (jv_b01 (by first | exact Or.inl rfl | exact Or.inr rfl | assumption)) (by rw [show inB x a b = false from decide_eq_false (fun c => c.2 h7)] at hT; exact hT)
    · refine j_iconst (v := nI 1) dX5_isIn_10 nc_iconst_1 ?_
      refine j_goto (tgt := 15) dX5_isIn_11 (by decide) ?_
      exact j_zret hM dX5_isIn_15 rfl (jv_b01 (by first | exact Or.inl rfl | exact Or.inr rfl | assumption)) (by rw [show inB x a b = true from decide_eq_true ⟨h2, h7⟩] at hT; exact hT)

set_option maxHeartbeats 4000000 in
set_option maxRecDepth 100000 in
theorem y_isFloor {sx : Nat → jv_S} {g : jv_G} {X : jv_X} {T : jv_T} {n : Nat} {V : Nat → Nat → Int32} {L : Nat → Nat → Int64} {k z : Nat} {N K R : Nat} (hC : Mt V N K R) {f : Nat} (hf : f < N) (hM : jv_M g X T) (hT : T (.inl (some (.int (nI 1)))) n (SH sx) (V) L) : jv_J g X I_X5_isFloor 0 [some (jv_r g 123), some (.int (nI f))] [] n (SH sx) V L k z := by
  obtain ⟨hN, hK, hR, hN2, hb, hK4, hR8, hEv⟩ := id hC
  refine j_iload_n_1 dX5_isFloor_0 ?_
  refine j_iconst (v := nI 0) dX5_isFloor_1 nc_iconst_0 ?_
  refine j_aload_n_0 dX5_isFloor_2 ?_
  refine G_X5_67 rfl dX5_isFloor_3 sk_123 ?_
  refine j_top (y := nI N) hN ?_
  refine j_iconst (v := nI 1) dX5_isFloor_6 nc_iconst_1 ?_
  refine j_isub dX5_isFloor_7 ?_
  refine C_X5_70 rfl (by decide) dX5_isFloor_8 (Nat.le_of_ble_eq_true rfl) (Nat.le_of_eq (Nat.zero_add _)) (Nat.le_of_eq (Nat.zero_add _)) (fun _ _ hM' hT' => y_isIn hM' hT') ?_
  refine j_top (y := nI 1) (by rw [inB_ok (by omega) (by omega)]; rfl) ?_
  exact j_zret hM dX5_isFloor_11 rfl (jv_b01 nI01b) hT

set_option maxHeartbeats 4000000 in
set_option maxRecDepth 100000 in
theorem n_isFloor {sx : Nat → jv_S} {g : jv_G} {X : jv_X} {T : jv_T} {n : Nat} {V : Nat → Nat → Int32} {L : Nat → Nat → Int64} {k z : Nat} {N K R : Nat} (hC : Mt V N K R) {x : Int32} (hx : x < 0 ∨ nI N ≤ x) (hM : jv_M g X T) (hT : T (.inl (some (.int (nI 0)))) n (SH sx) (V) L) : jv_J g X I_X5_isFloor 0 [some (jv_r g 123), some (.int x)] [] n (SH sx) V L k z := by
  obtain ⟨hN, hK, hR, hN2, hb, hK4, hR8, hEv⟩ := id hC
  refine j_iload_n_1 dX5_isFloor_0 ?_
  refine j_iconst (v := nI 0) dX5_isFloor_1 nc_iconst_0 ?_
  refine j_aload_n_0 dX5_isFloor_2 ?_
  refine G_X5_67 rfl dX5_isFloor_3 sk_123 ?_
  refine j_top (y := nI N) hN ?_
  refine j_iconst (v := nI 1) dX5_isFloor_6 nc_iconst_1 ?_
  refine j_isub dX5_isFloor_7 ?_
  refine C_X5_70 rfl (by decide) dX5_isFloor_8 (Nat.le_of_ble_eq_true rfl) (Nat.le_of_eq (Nat.zero_add _)) (Nat.le_of_eq (Nat.zero_add _)) (fun _ _ hM' hT' => y_isIn hM' hT') ?_
  refine j_top (y := nI 0) (by rw [inB_bad (by omega) (by omega) (by omega) hx]; rfl) ?_
  exact j_zret hM dX5_isFloor_11 rfl (jv_b01 nI01a) hT

set_option maxHeartbeats 4000000 in
set_option maxRecDepth 100000 in
theorem y_isStairs {sx : Nat → jv_S} {g : jv_G} {X : jv_X} {T : jv_T} {n : Nat} {V : Nat → Nat → Int32} {L : Nat → Nat → Int64} {k z : Nat} {N K R : Nat} (hC : Mt V N K R) {f : Nat} (hf : f + 1 < N) (hM : jv_M g X T) (hT : T (.inl (some (.int (nI 1)))) n (SH sx) (V) L) : jv_J g X I_X5_isStairs 0 [some (jv_r g 123), some (.int (nI f))] [] n (SH sx) V L k z := by
  obtain ⟨hN, hK, hR, hN2, hb, hK4, hR8, hEv⟩ := id hC
  refine j_iload_n_1 dX5_isStairs_0 ?_
  refine j_iconst (v := nI 0) dX5_isStairs_1 nc_iconst_0 ?_
  refine j_aload_n_0 dX5_isStairs_2 ?_
  refine G_X5_67 rfl dX5_isStairs_3 sk_123 ?_
  refine j_top (y := nI N) hN ?_
  refine j_iconst (v := nI 2) dX5_isStairs_6 nc_iconst_2 ?_
  refine j_isub dX5_isStairs_7 ?_
  refine C_X5_70 rfl (by decide) dX5_isStairs_8 (Nat.le_of_ble_eq_true rfl) (Nat.le_of_eq (Nat.zero_add _)) (Nat.le_of_eq (Nat.zero_add _)) (fun _ _ hM' hT' => y_isIn hM' hT') ?_
  refine j_top (y := nI 1) (by rw [inB_ok (by omega) (by omega)]; rfl) ?_
  exact j_zret hM dX5_isStairs_11 rfl (jv_b01 nI01b) hT

set_option maxHeartbeats 4000000 in
set_option maxRecDepth 100000 in
theorem n_isStairs {sx : Nat → jv_S} {g : jv_G} {X : jv_X} {T : jv_T} {n : Nat} {V : Nat → Nat → Int32} {L : Nat → Nat → Int64} {k z : Nat} {N K R : Nat} (hC : Mt V N K R) {x : Int32} (hx : x < 0 ∨ nI (N - 1) ≤ x) (hM : jv_M g X T) (hT : T (.inl (some (.int (nI 0)))) n (SH sx) (V) L) : jv_J g X I_X5_isStairs 0 [some (jv_r g 123), some (.int x)] [] n (SH sx) V L k z := by
  obtain ⟨hN, hK, hR, hN2, hb, hK4, hR8, hEv⟩ := id hC
  refine j_iload_n_1 dX5_isStairs_0 ?_
  refine j_iconst (v := nI 0) dX5_isStairs_1 nc_iconst_0 ?_
  refine j_aload_n_0 dX5_isStairs_2 ?_
  refine G_X5_67 rfl dX5_isStairs_3 sk_123 ?_
  refine j_top (y := nI N) hN ?_
  refine j_iconst (v := nI 2) dX5_isStairs_6 nc_iconst_2 ?_
  refine j_isub dX5_isStairs_7 ?_
  refine C_X5_70 rfl (by decide) dX5_isStairs_8 (Nat.le_of_ble_eq_true rfl) (Nat.le_of_eq (Nat.zero_add _)) (Nat.le_of_eq (Nat.zero_add _)) (fun _ _ hM' hT' => y_isIn hM' hT') ?_
  refine j_top (y := nI 0) (by rw [inB_bad (by omega) (by omega) (by omega) hx]; rfl) ?_
  exact j_zret hM dX5_isStairs_11 rfl (jv_b01 nI01a) hT

set_option maxHeartbeats 4000000 in
set_option maxRecDepth 100000 in
theorem y_isLift {sx : Nat → jv_S} {g : jv_G} {X : jv_X} {T : jv_T} {n : Nat} {V : Nat → Nat → Int32} {L : Nat → Nat → Int64} {k z : Nat} {N K R : Nat} (hC : Mt V N K R) {f : Nat} (hf : f < K) (hM : jv_M g X T) (hT : T (.inl (some (.int (nI 1)))) n (SH sx) (V) L) : jv_J g X I_X5_isLift 0 [some (jv_r g 123), some (.int (nI f))] [] n (SH sx) V L k z := by
  obtain ⟨hN, hK, hR, hN2, hb, hK4, hR8, hEv⟩ := id hC
  refine j_iload_n_1 dX5_isLift_0 ?_
  refine j_iconst (v := nI 0) dX5_isLift_1 nc_iconst_0 ?_
  refine j_aload_n_0 dX5_isLift_2 ?_
  refine G_X5_74 rfl dX5_isLift_3 sk_123 ?_
  refine j_top (y := nI K) hK ?_
  refine j_iconst (v := nI 1) dX5_isLift_6 nc_iconst_1 ?_
  refine j_isub dX5_isLift_7 ?_
  refine C_X5_70 rfl (by decide) dX5_isLift_8 (Nat.le_of_ble_eq_true rfl) (Nat.le_of_eq (Nat.zero_add _)) (Nat.le_of_eq (Nat.zero_add _)) (fun _ _ hM' hT' => y_isIn hM' hT') ?_
  refine j_top (y := nI 1) (by rw [inB_ok (by omega) (by omega)]; rfl) ?_
  exact j_zret hM dX5_isLift_11 rfl (jv_b01 nI01b) hT

set_option maxHeartbeats 4000000 in
set_option maxRecDepth 100000 in
theorem n_isLift {sx : Nat → jv_S} {g : jv_G} {X : jv_X} {T : jv_T} {n : Nat} {V : Nat → Nat → Int32} {L : Nat → Nat → Int64} {k z : Nat} {N K R : Nat} (hC : Mt V N K R) {x : Int32} (hx : x < 0 ∨ nI K ≤ x) (hM : jv_M g X T) (hT : T (.inl (some (.int (nI 0)))) n (SH sx) (V) L) : jv_J g X I_X5_isLift 0 [some (jv_r g 123), some (.int x)] [] n (SH sx) V L k z := by
  obtain ⟨hN, hK, hR, hN2, hb, hK4, hR8, hEv⟩ := id hC
  refine j_iload_n_1 dX5_isLift_0 ?_
  refine j_iconst (v := nI 0) dX5_isLift_1 nc_iconst_0 ?_
  refine j_aload_n_0 dX5_isLift_2 ?_
  refine G_X5_74 rfl dX5_isLift_3 sk_123 ?_
  refine j_top (y := nI K) hK ?_
  refine j_iconst (v := nI 1) dX5_isLift_6 nc_iconst_1 ?_
  refine j_isub dX5_isLift_7 ?_
  refine C_X5_70 rfl (by decide) dX5_isLift_8 (Nat.le_of_ble_eq_true rfl) (Nat.le_of_eq (Nat.zero_add _)) (Nat.le_of_eq (Nat.zero_add _)) (fun _ _ hM' hT' => y_isIn hM' hT') ?_
  refine j_top (y := nI 0) (by rw [inB_bad (by omega) (by omega) (by omega) hx]; rfl) ?_
  exact j_zret hM dX5_isLift_11 rfl (jv_b01 nI01a) hT

set_option maxHeartbeats 4000000 in
set_option maxRecDepth 100000 in
theorem y_isRumour {sx : Nat → jv_S} {g : jv_G} {X : jv_X} {T : jv_T} {n : Nat} {V : Nat → Nat → Int32} {L : Nat → Nat → Int64} {k z : Nat} {N K R : Nat} (hC : Mt V N K R) {f : Nat} (hf : f < R) (hM : jv_M g X T) (hT : T (.inl (some (.int (nI 1)))) n (SH sx) (V) L) : jv_J g X I_X5_isRumour 0 [some (jv_r g 123), some (.int (nI f))] [] n (SH sx) V L k z := by
  obtain ⟨hN, hK, hR, hN2, hb, hK4, hR8, hEv⟩ := id hC
  refine j_iload_n_1 dX5_isRumour_0 ?_
  refine j_iconst (v := nI 0) dX5_isRumour_1 nc_iconst_0 ?_
  refine j_aload_n_0 dX5_isRumour_2 ?_
  refine G_X5_77 rfl dX5_isRumour_3 sk_123 ?_
  refine j_top (y := nI R) hR ?_
  refine j_iconst (v := nI 1) dX5_isRumour_6 nc_iconst_1 ?_
  refine j_isub dX5_isRumour_7 ?_
  refine C_X5_70 rfl (by decide) dX5_isRumour_8 (Nat.le_of_ble_eq_true rfl) (Nat.le_of_eq (Nat.zero_add _)) (Nat.le_of_eq (Nat.zero_add _)) (fun _ _ hM' hT' => y_isIn hM' hT') ?_
  refine j_top (y := nI 1) (by rw [inB_ok (by omega) (by omega)]; rfl) ?_
  exact j_zret hM dX5_isRumour_11 rfl (jv_b01 nI01b) hT

set_option maxHeartbeats 4000000 in
set_option maxRecDepth 100000 in
theorem n_isRumour {sx : Nat → jv_S} {g : jv_G} {X : jv_X} {T : jv_T} {n : Nat} {V : Nat → Nat → Int32} {L : Nat → Nat → Int64} {k z : Nat} {N K R : Nat} (hC : Mt V N K R) {x : Int32} (hx : x < 0 ∨ nI R ≤ x) (hM : jv_M g X T) (hT : T (.inl (some (.int (nI 0)))) n (SH sx) (V) L) : jv_J g X I_X5_isRumour 0 [some (jv_r g 123), some (.int x)] [] n (SH sx) V L k z := by
  obtain ⟨hN, hK, hR, hN2, hb, hK4, hR8, hEv⟩ := id hC
  refine j_iload_n_1 dX5_isRumour_0 ?_
  refine j_iconst (v := nI 0) dX5_isRumour_1 nc_iconst_0 ?_
  refine j_aload_n_0 dX5_isRumour_2 ?_
  refine G_X5_77 rfl dX5_isRumour_3 sk_123 ?_
  refine j_top (y := nI R) hR ?_
  refine j_iconst (v := nI 1) dX5_isRumour_6 nc_iconst_1 ?_
  refine j_isub dX5_isRumour_7 ?_
  refine C_X5_70 rfl (by decide) dX5_isRumour_8 (Nat.le_of_ble_eq_true rfl) (Nat.le_of_eq (Nat.zero_add _)) (Nat.le_of_eq (Nat.zero_add _)) (fun _ _ hM' hT' => y_isIn hM' hT') ?_
  refine j_top (y := nI 0) (by rw [inB_bad (by omega) (by omega) (by omega) hx]; rfl) ?_
  exact j_zret hM dX5_isRumour_11 rfl (jv_b01 nI01a) hT

set_option maxHeartbeats 4000000 in
set_option maxRecDepth 100000 in
theorem y_isServed {sx : Nat → jv_S} {g : jv_G} {X : jv_X} {T : jv_T} {n : Nat} {V : Nat → Nat → Int32} {L : Nat → Nat → Int64} {k z : Nat} {c : Nat} {x : Int32} (hc : c < 4) (hz0 : ¬ V 130 c = 0) (hM : jv_M g X T) (hT : T (.inl (some (.int (bz (svB V c x))))) n (SH sx) (V) L) : jv_J g X I_X5_isServed 0 [some (jv_r g 123), some (.int (nI c)), some (.int x)] [] n (SH sx) V L k z := by
  refine j_iload_n_2 dX5_isServed_0 ?_
  refine j_aload_n_0 dX5_isServed_1 ?_
  refine G_X5_23 rfl dX5_isServed_2 sk_123 sr_123_8 ?_
  refine j_iload_n_1 dX5_isServed_5 ?_
  refine j_iald dX5_isServed_6 sk_128 sn_128 (by omega) (by decide) ?_
  refine j_aload_n_0 dX5_isServed_7 ?_
  refine G_X5_26 rfl dX5_isServed_8 sk_123 sr_123_9 ?_
  refine j_iload_n_1 dX5_isServed_11 ?_
  refine j_iald dX5_isServed_12 sk_129 sn_129 (by omega) (by decide) ?_
  refine C_X5_70 rfl (by decide) dX5_isServed_13 (Nat.le_of_ble_eq_true rfl) (Nat.le_of_eq (Nat.zero_add _)) (Nat.le_of_eq (Nat.zero_add _)) (fun _ _ hM' hT' => y_isIn hM' hT') ?_
  refine j_if_eq (tgt := 41) dX5_isServed_16 (by decide) (fun h16 => ?_) (fun h16 => ?_)
  · refine j_iconst (v := nI 0) dX5_isServed_41 nc_iconst_0 ?_
    exact j_zret hM dX5_isServed_42 rfl (jv_b01 (by first | exact Or.inl rfl | exact Or.inr rfl | assumption)) (by rw [show svB V c x = false by unfold svB; rw [bz_f h16]; rfl] at hT; exact hT)
  · refine j_iload_n_2 dX5_isServed_19 ?_
    refine j_aload_n_0 dX5_isServed_20 ?_
    refine G_X5_23 rfl dX5_isServed_21 sk_123 sr_123_8 ?_
    refine j_iload_n_1 dX5_isServed_24 ?_
    refine j_iald dX5_isServed_25 sk_128 sn_128 (by omega) (by decide) ?_
    refine j_isub dX5_isServed_26 ?_
    refine j_aload_n_0 dX5_isServed_27 ?_
    refine G_X5_29 rfl dX5_isServed_28 sk_123 sr_123_10 ?_
    refine j_iload_n_1 dX5_isServed_31 ?_
    refine j_iald dX5_isServed_32 sk_130 sn_130 (by omega) (by decide) ?_
    refine j_irem hz0 dX5_isServed_33 ?_
    refine j_if_ne (tgt := 41) dX5_isServed_34 (by decide) (fun h34 => ?_) (fun h34 => ?_)
    · refine j_iconst (v := nI 0) dX5_isServed_41 nc_iconst_0 ?_
      exact j_zret hM dX5_isServed_42 rfl (jv_b01 (by first | exact Or.inl rfl | exact Or.inr rfl | assumption)) (by rw [show svB V c x = false by unfold svB; rw [decide_eq_false h34, Bool.and_false]] at hT; exact hT)
    · refine j_iconst (v := nI 1) dX5_isServed_37 nc_iconst_1 ?_
      refine j_goto (tgt := 42) dX5_isServed_38 (by decide) ?_
      exact j_zret hM dX5_isServed_42 rfl (jv_b01 (by first | exact Or.inl rfl | exact Or.inr rfl | assumption)) (by rw [show svB V c x = true by unfold svB; rw [bz_t h16, decide_eq_true h34]; rfl] at hT; exact hT)

/-- the hours of the pipe between two floors as the reference reckons them -/
def hoL (V : (Nat → Nat → Int32)) (a b ap : Nat) : Nat → Nat → Int32 → Int32
  | 0, _, acc => acc
  | m + 1, i, acc => hoL V a b ap m (i + 1) (if ¬ V 132 i = 0 ∧ svB V i (nI a) = true ∧ svB V i (nI b) = true then (if acc = -1 then V 131 i + nI (ap / 2) else if V 131 i + nI (ap / 2) < acc then V 131 i + nI (ap / 2) else acc) else acc)
def hoX (V : (Nat → Nat → Int32)) (K a b mn mxx : Nat) : Int32 := if a = b then -1 else hoL V a b (mxx - mn) K 0 (if mxx - mn = 1 ∧ ¬ V 127 mn = 0 then V 126 mn else -1)
def hoM (V : (Nat → Nat → Int32)) (K a b : Nat) : Int32 := hoX V K a b (min a b) (max a b)
theorem hoL_congr {V W : (Nat → Nat → Int32)} {a b ap : Nat} (h : ∀ q, 126 ≤ q → q ≤ 132 → W q = V q) : ∀ m i acc, hoL W a b ap m i acc = hoL V a b ap m i acc := by
  intro m
  induction m with
  | zero => intro i acc; rfl
  | succ m ih =>
    intro i acc
    unfold hoL
    have e : ∀ x, svB W i x = svB V i x := by
      intro x
      unfold svB
      rw [h 128 (by omega) (by omega), h 129 (by omega) (by omega), h 130 (by omega) (by omega)]
    rw [ih, e, e, h 132 (by omega) (by omega), h 131 (by omega) (by omega)]
theorem hoM_congr {V W : (Nat → Nat → Int32)} {K a b : Nat} (h : ∀ q, 126 ≤ q → q ≤ 132 → W q = V q) : hoM W K a b = hoM V K a b := by
  unfold hoM hoX
  rw [hoL_congr h, h 127 (by omega) (by omega), h 126 (by omega) (by omega)]
theorem nI_min (a b : Nat) (ha : a < 12) (hb : b < 12) : (if nI b < nI a then nI b else nI a) = nI (min a b) := by
  by_cases h : b < a
  · rw [if_pos ((nI_ltI (by omega) (by omega)).mpr h), Nat.min_eq_right (by omega)]
  · rw [if_neg (nI_nlt (by omega) (by omega)), Nat.min_eq_left (by omega)]
theorem nI_max (a b : Nat) (ha : a < 12) (hb : b < 12) : (if nI a < nI b then nI b else nI a) = nI (max a b) := by
  by_cases h : a < b
  · rw [if_pos ((nI_ltI (by omega) (by omega)).mpr h), Nat.max_eq_right (by omega)]
  · rw [if_neg (nI_nlt (by omega) (by omega)), Nat.max_eq_left (by omega)]

set_option maxHeartbeats 4000000 in
set_option maxRecDepth 100000 in
theorem y_ho_loop {sx : Nat → jv_S} {g : jv_G} {X : jv_X} {T : jv_T} {n : Nat} {V : Nat → Nat → Int32} {L : Nat → Nat → Int64} {k z : Nat} {K a b mn ap : Nat} (hK : V 123 2 = nI K) (hK4 : K ≤ 4) (hz0 : ∀ k, k < K → ¬ V 130 k = 0) (hap : ap < 12) (hM : jv_M g X T) : ∀ (m : Nat) (i : Nat) (acc : Int32) (v7 : Option Value), i ≤ K → K + 1 ≤ i + m → T (.inl (some (.int (hoL V a b ap (K - i) i acc)))) n (SH sx) (V) L → jv_J g X I_X5_hoursOf 52 [some (jv_r g 123), some (.int (nI a)), some (.int (nI b)), some (.int (nI mn)), some (.int (nI ap)), some (.int acc), some (.int (nI i)), v7] [] n (SH sx) V L k z := by
  intro m
  induction m with
  | zero => intro i acc v7 hi him hT; omega
  | succ m ih =>
  intro i acc v7 hi him hT
  refine j_iload_6 dX5_hoursOf_52 ?_
  refine j_aload_n_0 dX5_hoursOf_54 ?_
  refine G_X5_74 rfl dX5_hoursOf_55 sk_123 ?_
  refine j_top (y := nI K) hK ?_
  refine j_ic_geN (by omega) (by omega) (tgt := 134) dX5_hoursOf_58 (by decide) (fun h58 => ?_) (fun h58 => ?_)
  · refine j_iload_5 dX5_hoursOf_134 ?_
    exact j_iret hM dX5_hoursOf_136 rfl (by rw [show K - i = 0 by omega] at hT; exact hT)
  · refine j_aload_n_0 dX5_hoursOf_61 ?_
    refine G_X5_35 rfl dX5_hoursOf_62 sk_123 sr_123_12 ?_
    refine j_iload_6 dX5_hoursOf_65 ?_
    refine j_bald dX5_hoursOf_67 sk_132 sn_132 (by omega) (by decide) ?_
    refine j_if_eq (tgt := 128) dX5_hoursOf_68 (by decide) (fun h68 => ?_) (fun h68 => ?_)
    · refine j_inc1_6 rfl (by decide) dX5_hoursOf_128 ?_
      refine j_goto (tgt := 52) dX5_hoursOf_131 (by decide) ?_
      refine ih (i + 1) _ _ (by omega) (by omega) ?_
      rw [show K - i = (K - (i + 1)) + 1 by omega] at hT
      unfold hoL at hT
      rw [if_neg (fun c => c.1 h68)] at hT
      exact hT
    · refine j_aload_n_0 dX5_hoursOf_71 ?_
      refine j_iload_6 dX5_hoursOf_72 ?_
      refine j_iload_n_1 dX5_hoursOf_74 ?_
      refine C_X5_95 rfl (by decide) dX5_hoursOf_75 sk_123 (Nat.le_of_ble_eq_true rfl) (Nat.le_of_eq (Nat.zero_add _)) (Nat.le_of_eq (Nat.zero_add _)) (fun _ _ hM' hT' => y_isServed (by omega) (hz0 i (by omega)) hM' hT') ?_
      refine j_if_eq (tgt := 128) dX5_hoursOf_78 (by decide) (fun h78 => ?_) (fun h78 => ?_)
      · refine j_inc1_6 rfl (by decide) dX5_hoursOf_128 ?_
        refine j_goto (tgt := 52) dX5_hoursOf_131 (by decide) ?_
        refine ih (i + 1) _ _ (by omega) (by omega) ?_
        rw [show K - i = (K - (i + 1)) + 1 by omega] at hT
        unfold hoL at hT
        rw [if_neg (fun c => by rw [bz_f h78] at c; exact absurd c.2.1 (by decide))] at hT
        exact hT
      · refine j_aload_n_0 dX5_hoursOf_81 ?_
        refine j_iload_6 dX5_hoursOf_82 ?_
        refine j_iload_n_2 dX5_hoursOf_84 ?_
        refine C_X5_95 rfl (by decide) dX5_hoursOf_85 sk_123 (Nat.le_of_ble_eq_true rfl) (Nat.le_of_eq (Nat.zero_add _)) (Nat.le_of_eq (Nat.zero_add _)) (fun _ _ hM' hT' => y_isServed (by omega) (hz0 i (by omega)) hM' hT') ?_
        refine j_if_ne (tgt := 94) dX5_hoursOf_88 (by decide) (fun h88 => ?_) (fun h88 => ?_)
        · refine j_aload_n_0 dX5_hoursOf_94 ?_
          refine G_X5_32 rfl dX5_hoursOf_95 sk_123 sr_123_11 ?_
          refine j_iload_6 dX5_hoursOf_98 ?_
          refine j_iald dX5_hoursOf_100 sk_131 sn_131 (by omega) (by decide) ?_
          refine j_iload_4 dX5_hoursOf_101 ?_
          refine j_iconst (v := nI 2) dX5_hoursOf_103 nc_iconst_2 ?_
          refine j_idiv (by decide +kernel) dX5_hoursOf_104 ?_
          refine j_top (y := nI (ap / 2)) (pk_div (by omega) (by decide) (by decide)) ?_
          refine j_iadd dX5_hoursOf_105 ?_
          refine j_istore_7 rfl (by decide) dX5_hoursOf_106 ?_
          refine j_iload_5 dX5_hoursOf_108 ?_
          refine j_iconst (v := -1) dX5_hoursOf_110 nc_iconst_m1 ?_
          refine j_ic_ne (tgt := 119) dX5_hoursOf_111 (by decide) (fun h111 => ?_) (fun h111 => ?_)
          · refine j_iload_5 dX5_hoursOf_119 ?_
            refine j_iload_7 dX5_hoursOf_121 ?_
            refine MX_X5_86 rfl (by decide) dX5_hoursOf_123 (Nat.le_of_ble_eq_true rfl) ?_
            refine j_istore_5 rfl (by decide) dX5_hoursOf_126 ?_
            refine j_inc1_6 rfl (by decide) dX5_hoursOf_128 ?_
            refine j_goto (tgt := 52) dX5_hoursOf_131 (by decide) ?_
            refine ih (i + 1) _ _ (by omega) (by omega) ?_
            rw [show K - i = (K - (i + 1)) + 1 by omega] at hT
            unfold hoL at hT
            rw [if_pos ⟨h68, bz_t h78, bz_t h88⟩, if_neg h111] at hT
            exact hT
          · refine j_iload_7 dX5_hoursOf_114 ?_
            refine j_goto (tgt := 126) dX5_hoursOf_116 (by decide) ?_
            refine j_istore_5 rfl (by decide) dX5_hoursOf_126 ?_
            refine j_inc1_6 rfl (by decide) dX5_hoursOf_128 ?_
            refine j_goto (tgt := 52) dX5_hoursOf_131 (by decide) ?_
            refine ih (i + 1) _ _ (by omega) (by omega) ?_
            rw [show K - i = (K - (i + 1)) + 1 by omega] at hT
            unfold hoL at hT
            rw [if_pos ⟨h68, bz_t h78, bz_t h88⟩, if_pos h111] at hT
            exact hT
        · refine j_goto (tgt := 128) dX5_hoursOf_91 (by decide) ?_
          refine j_inc1_6 rfl (by decide) dX5_hoursOf_128 ?_
          refine j_goto (tgt := 52) dX5_hoursOf_131 (by decide) ?_
          refine ih (i + 1) _ _ (by omega) (by omega) ?_
          rw [show K - i = (K - (i + 1)) + 1 by omega] at hT
          unfold hoL at hT
          rw [if_neg (fun c => by rw [bz_f h88] at c; exact absurd c.2.2 (by decide))] at hT
          exact hT

set_option maxHeartbeats 4000000 in
set_option maxRecDepth 100000 in
theorem y_hoursOf0 {sx : Nat → jv_S} {g : jv_G} {X : jv_X} {T : jv_T} {n : Nat} {V : Nat → Nat → Int32} {L : Nat → Nat → Int64} {k z : Nat} {N K R : Nat} (hC : Mt V N K R) {a b mn mxx : Nat} (ha : a < 12) (hb2 : b < 12) (emn : (if nI b < nI a then nI b else nI a) = nI mn) (emx : (if nI a < nI b then nI b else nI a) = nI mxx) (hmn : mn < 12) (hmx : mxx < 12) (hle : mn ≤ mxx) (hM : jv_M g X T) (hT : T (.inl (some (.int (hoX V K a b mn mxx)))) n (SH sx) (V) L) : jv_J g X I_X5_hoursOf 0 [some (jv_r g 123), some (.int (nI a)), some (.int (nI b)), none, none, none, none, none] [] n (SH sx) V L k z := by
  obtain ⟨hN, hK, hR, hN2, hb, hK4, hR8, hEv⟩ := id hC
  refine j_iload_n_1 dX5_hoursOf_0 ?_
  refine j_iload_n_2 dX5_hoursOf_1 ?_
  refine j_ic_neN (by omega) (by omega) (tgt := 7) dX5_hoursOf_2 (by decide) (fun h2 => ?_) (fun h2 => ?_)
  · refine j_iload_n_1 dX5_hoursOf_7 ?_
    refine j_iload_n_2 dX5_hoursOf_8 ?_
    refine MX_X5_86 rfl (by decide) dX5_hoursOf_9 (Nat.le_of_ble_eq_true rfl) ?_
    refine j_top (y := nI mn) emn ?_
    refine j_istore_n_3 rfl (by decide) dX5_hoursOf_12 ?_
    refine j_iload_n_1 dX5_hoursOf_13 ?_
    refine j_iload_n_2 dX5_hoursOf_14 ?_
    refine MX_X5_92 rfl (by decide) dX5_hoursOf_15 (Nat.le_of_ble_eq_true rfl) ?_
    refine j_top (y := nI mxx) emx ?_
    refine j_iload_n_3 dX5_hoursOf_18 ?_
    refine j_isubN (by omega) dX5_hoursOf_19 ?_
    refine j_istore_4 rfl (by decide) dX5_hoursOf_20 ?_
    refine j_iload_4 dX5_hoursOf_22 ?_
    refine j_iconst (v := nI 1) dX5_hoursOf_24 nc_iconst_1 ?_
    refine j_ic_neN (by omega) (by omega) (tgt := 46) dX5_hoursOf_25 (by decide) (fun h25 => ?_) (fun h25 => ?_)
    · refine j_iconst (v := -1) dX5_hoursOf_46 nc_iconst_m1 ?_
      refine j_istore_5 rfl (by decide) dX5_hoursOf_47 ?_
      refine j_iconst (v := nI 0) dX5_hoursOf_49 nc_iconst_0 ?_
      refine j_istore_6 rfl (by decide) dX5_hoursOf_50 ?_
      exact y_ho_loop hK hK4 hEv (by omega) hM (K + 1) 0 _ _ (by omega) (by omega) (by unfold hoX at hT; rw [if_neg h2, if_neg (fun c => h25 c.1)] at hT; exact hT)
    · refine j_aload_n_0 dX5_hoursOf_28 ?_
      refine G_X5_19 rfl dX5_hoursOf_29 sk_123 sr_123_7 ?_
      refine j_iload_n_3 dX5_hoursOf_32 ?_
      refine j_bald dX5_hoursOf_33 sk_127 sn_127 (by omega) (by decide) ?_
      refine j_if_eq (tgt := 46) dX5_hoursOf_34 (by decide) (fun h34 => ?_) (fun h34 => ?_)
      · refine j_iconst (v := -1) dX5_hoursOf_46 nc_iconst_m1 ?_
        refine j_istore_5 rfl (by decide) dX5_hoursOf_47 ?_
        refine j_iconst (v := nI 0) dX5_hoursOf_49 nc_iconst_0 ?_
        refine j_istore_6 rfl (by decide) dX5_hoursOf_50 ?_
        exact y_ho_loop hK hK4 hEv (by omega) hM (K + 1) 0 _ _ (by omega) (by omega) (by unfold hoX at hT; rw [if_neg h2, if_neg (fun c => c.2 h34)] at hT; exact hT)
      · refine j_aload_n_0 dX5_hoursOf_37 ?_
        refine G_X5_16 rfl dX5_hoursOf_38 sk_123 sr_123_6 ?_
        refine j_iload_n_3 dX5_hoursOf_41 ?_
        refine j_iald dX5_hoursOf_42 sk_126 sn_126 (by omega) (by decide) ?_
        refine j_goto (tgt := 47) dX5_hoursOf_43 (by decide) ?_
        refine j_istore_5 rfl (by decide) dX5_hoursOf_47 ?_
        refine j_iconst (v := nI 0) dX5_hoursOf_49 nc_iconst_0 ?_
        refine j_istore_6 rfl (by decide) dX5_hoursOf_50 ?_
        exact y_ho_loop hK hK4 hEv (by omega) hM (K + 1) 0 _ _ (by omega) (by omega) (by unfold hoX at hT; rw [if_neg h2, if_pos ⟨h25, h34⟩] at hT; exact hT)
  · refine j_iconst (v := -1) dX5_hoursOf_5 nc_iconst_m1 ?_
    exact j_iret hM dX5_hoursOf_6 rfl (by unfold hoX at hT; rw [if_pos h2] at hT; exact hT)

theorem y_hoursOf {sx : Nat → jv_S} {g : jv_G} {X : jv_X} {T : jv_T} {n : Nat} {V : Nat → Nat → Int32} {L : Nat → Nat → Int64} {k z : Nat} {N K R : Nat} (hC : Mt V N K R) {a b : Nat} (ha : a < 12) (hb2 : b < 12) (hM : jv_M g X T) (hT : T (.inl (some (.int (hoM V K a b)))) n (SH sx) (V) L) : jv_J g X I_X5_hoursOf 0 [some (jv_r g 123), some (.int (nI a)), some (.int (nI b)), none, none, none, none, none] [] n (SH sx) V L k z :=
  y_hoursOf0 hC ha hb2 (nI_min a b ha hb2) (nI_max a b ha hb2) (by omega) (by omega) (by omega) hM hT

def beB (V : (Nat → Nat → Int32)) (x y : Int32) (f : Nat) : Bool := decide (V 137 f = -1 ∨ btI V 137 138 x y f = true)

set_option maxHeartbeats 4000000 in
set_option maxRecDepth 100000 in
theorem y_isBetter {sx : Nat → jv_S} {g : jv_G} {X : jv_X} {T : jv_T} {n : Nat} {V : Nat → Nat → Int32} {L : Nat → Nat → Int64} {k z : Nat} {x y : Int32} {f : Nat} (hf : f < 12) (hM : jv_M g X T) (hT : T (.inl (some (.int (bz (beB V x y f))))) n (SH sx) (V) L) : jv_J g X I_X5_isBetter 0 [some (jv_r g 123), some (.int x), some (.int y), some (.int (nI f))] [] n (SH sx) V L k z := by
  refine j_aload_n_0 dX5_isBetter_0 ?_
  refine G_X5_50 rfl dX5_isBetter_1 sk_123 sr_123_17 ?_
  refine j_iload_n_3 dX5_isBetter_4 ?_
  refine j_iald dX5_isBetter_5 sk_137 sn_137 (by omega) (by decide) ?_
  refine j_iconst (v := -1) dX5_isBetter_6 nc_iconst_m1 ?_
  refine j_ic_eq (tgt := 40) dX5_isBetter_7 (by decide) (fun h7 => ?_) (fun h7 => ?_)
  · refine j_iconst (v := nI 1) dX5_isBetter_40 nc_iconst_1 ?_
    refine j_goto (tgt := 45) dX5_isBetter_41 (by decide) ?_
    exact j_zret hM dX5_isBetter_45 rfl (jv_b01 (by first | exact Or.inl rfl | exact Or.inr rfl | assumption)) (by rw [show beB V x y f = true from decide_eq_true (Or.inl h7)] at hT; exact hT)
  · refine j_iload_n_1 dX5_isBetter_10 ?_
    refine j_aload_n_0 dX5_isBetter_11 ?_
    refine G_X5_50 rfl dX5_isBetter_12 sk_123 sr_123_17 ?_
    refine j_iload_n_3 dX5_isBetter_15 ?_
    refine j_iald dX5_isBetter_16 sk_137 sn_137 (by omega) (by decide) ?_
    refine j_ic_lt (tgt := 40) dX5_isBetter_17 (by decide) (fun h17 => ?_) (fun h17 => ?_)
    · refine j_iconst (v := nI 1) dX5_isBetter_40 nc_iconst_1 ?_
      refine j_goto (tgt := 45) dX5_isBetter_41 (by decide) ?_
      exact j_zret hM dX5_isBetter_45 rfl (jv_b01 (by first | exact Or.inl rfl | exact Or.inr rfl | assumption)) (by rw [show beB V x y f = true from decide_eq_true (Or.inr (by simp [btI, h17]))] at hT; exact hT)
    · refine j_iload_n_1 dX5_isBetter_20 ?_
      refine j_aload_n_0 dX5_isBetter_21 ?_
      refine G_X5_50 rfl dX5_isBetter_22 sk_123 sr_123_17 ?_
      refine j_iload_n_3 dX5_isBetter_25 ?_
      refine j_iald dX5_isBetter_26 sk_137 sn_137 (by omega) (by decide) ?_
      refine j_ic_ne (tgt := 44) dX5_isBetter_27 (by decide) (fun h27 => ?_) (fun h27 => ?_)
      · refine j_iconst (v := nI 0) dX5_isBetter_44 nc_iconst_0 ?_
        exact j_zret hM dX5_isBetter_45 rfl (jv_b01 (by first | exact Or.inl rfl | exact Or.inr rfl | assumption)) (by rw [show beB V x y f = false from decide_eq_false (fun c => c.elim h7 (by simp [btI, h17, h27]))] at hT; exact hT)
      · refine j_iload_n_2 dX5_isBetter_30 ?_
        refine j_aload_n_0 dX5_isBetter_31 ?_
        refine G_X5_53 rfl dX5_isBetter_32 sk_123 sr_123_18 ?_
        refine j_iload_n_3 dX5_isBetter_35 ?_
        refine j_iald dX5_isBetter_36 sk_138 sn_138 (by omega) (by decide) ?_
        refine j_ic_ge (tgt := 44) dX5_isBetter_37 (by decide) (fun h37 => ?_) (fun h37 => ?_)
        · refine j_iconst (v := nI 0) dX5_isBetter_44 nc_iconst_0 ?_
          exact j_zret hM dX5_isBetter_45 rfl (jv_b01 (by first | exact Or.inl rfl | exact Or.inr rfl | assumption)) (by rw [show beB V x y f = false from decide_eq_false (fun c => c.elim h7 (by simp [btI, h17, h27, Int32.not_lt.mpr h37]))] at hT; exact hT)
        · refine j_iconst (v := nI 1) dX5_isBetter_40 nc_iconst_1 ?_
          refine j_goto (tgt := 45) dX5_isBetter_41 (by decide) ?_
          exact j_zret hM dX5_isBetter_45 rfl (jv_b01 (by first | exact Or.inl rfl | exact Or.inr rfl | assumption)) (by rw [show beB V x y f = true from decide_eq_true (Or.inr (by simp [btI, h27, Int32.not_le.mp h37]))] at hT; exact hT)
