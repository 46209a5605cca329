/-! ===== the law's calls of the class, with their exceptions ===== -/
theorem jok {ls : List (Option Value)} {i j0 q : Nat} (h : ls[j0]? = some (some (.ref q))) (hj : j0 + 1 = i) : jv_ok ls i := by
  intro j v hj' hv
  have e : j = j0 := by omega
  subst e
  rw [h] at hv
  cases hv
  show (1 : Nat) ≠ 2
  decide

set_option maxHeartbeats 4000000 in
set_option maxRecDepth 100000 in
theorem wg_build {sx : Nat → jv_S} {g : jv_G} {X : jv_X} {T : jv_T} {n : Nat} {V : Nat → Nat → Int32} {L : Nat → Nat → Int64} {k z : Nat} {m : Nat} (hm2 : 2 ≤ m) (hm : m ≤ 12) (hM : jv_M g X T) (hT : T (.inl (some (.int (nI 0)))) n (SH sx) (jv_U (layV (rstV (jv_U (jv_U V 1 0 (nI m)) 1 1 (nI 0)) 12) m 0) 0 4 (nI 0)) (jv_UL L 140 0 ((nI (m - 1) : Int32).toInt64))) : jv_J g X I_L_build 0 [some (jv_r g 0), some (.int (nI m)), some (jv_r g 140), none] [] n (SH sx) V L k z := by
  refine j_aload_n_2 dL_build_0 ?_
  refine j_iconst (v := nI 0) dL_build_1 nc_iconst_0 ?_
  refine j_aload_n_0 dL_build_2 ?_
  refine j_iload_n_1 dL_build_3 ?_
  refine C_L_7 rfl (by decide) dL_build_4 sk_0 (Nat.le_of_ble_eq_true rfl) (Nat.le_of_eq (Nat.zero_add _)) (Nat.le_of_eq (Nat.zero_add _)) (fun _ _ hM' hT' => g_build hm2 hm hM' hT') ?_
  refine j_i2l dL_build_7 ?_
  refine j_last dL_build_8 sk_140 sn_140 (by decide) (by decide) ?_
  refine j_goto (tgt := 15) dL_build_9 (by decide) ?_
  refine j_iconst (v := nI 0) dL_build_15 nc_iconst_0 ?_
  exact j_iret hM dL_build_16 rfl hT

set_option maxHeartbeats 4000000 in
set_option maxRecDepth 100000 in
theorem we_build_4 {sx : Nat → jv_S} {g : jv_G} {X : jv_X} {T : jv_T} {n : Nat} {V : Nat → Nat → Int32} {L : Nat → Nat → Int64} {k z : Nat} {x : Int32} (hx : x < nI 2 ∨ nI 12 < x) (hk : 1 ≤ k) (hz : 6 ≤ z) (hM : jv_M g X T) (hT : ∀ n', n ≤ n' → T (.inl (some (.int (nI 1)))) n' (SH sx) V L) : jv_J g X I_L_build 0 [some (jv_r g 0), some (.int x), some (jv_r g 140), none] [] n (SH sx) V L k z := by
  refine j_aload_n_2 dL_build_0 ?_
  refine j_iconst (v := nI 0) dL_build_1 nc_iconst_0 ?_
  refine j_aload_n_0 dL_build_2 ?_
  refine j_iload_n_1 dL_build_3 ?_
  refine X_L_7 (n1 := 0) (sh1 := fun _ => (0, 0, fun _ => none)) (V1 := fun _ _ => 0) (L1 := fun _ _ => 0) rfl (by decide) dL_build_4 sk_0 (Nat.le_of_ble_eq_true rfl) (show 1 + 0 ≤ k from hk) (show 6 + 0 ≤ z from hz) (fun _ _ hM' hT' => e_build_4 hx (Nat.le_refl 1) (Nat.le_refl 6) hM' hT') (fun n' hn' => ?_)
  refine j_catch (by decide +kernel) [] (0, 9, 12, 13) [] rfl (fun y hy => absurd hy List.not_mem_nil) (by decide) (by decide) (by decide) (show Cond.classLink RL 13 "java/lang/IllegalArgumentException" ∈ jv_gw from jv_gwm 553 (by decide +kernel) rfl) (fun q => ?_)
  refine j_exst_n (I := I_L_build) (i := 3) dL_build_12 (by decide) (jok (j0 := 2) rfl rfl) ?_
  refine j_iconst (v := nI 1) dL_build_13 nc_iconst_1 ?_
  exact j_iret hM dL_build_14 rfl (hT n' hn')

set_option maxHeartbeats 4000000 in
set_option maxRecDepth 100000 in
theorem wg_setStay {sx : Nat → jv_S} {g : jv_G} {X : jv_X} {T : jv_T} {n : Nat} {V : Nat → Nat → Int32} {L : Nat → Nat → Int64} {k z : Nat} {N K R : Nat} (hC : Ct V N K R) {f : Nat} (hf : (f < N)) {x : Int32} (hAx : ¬ x < nI 0) (hBx : x ≤ nI 9) (hM : jv_M g X T) (hT : T (.inl (some (.int (nI 0)))) n (SH sx) (jv_U V 3 f x) (jv_UL L 140 0 ((V 3 f : Int32).toInt64))) : jv_J g X I_L_setStay 0 [some (jv_r g 0), some (.int (nI f)), some (.int x), some (jv_r g 140), none] [] n (SH sx) V L k z := by
  refine j_aload_n_3 dL_setStay_0 ?_
  refine j_iconst (v := nI 0) dL_setStay_1 nc_iconst_0 ?_
  refine j_aload_n_0 dL_setStay_2 ?_
  refine j_iload_n_1 dL_setStay_3 ?_
  refine j_iload_n_2 dL_setStay_4 ?_
  refine C_L_15 rfl (by decide) dL_setStay_5 sk_0 (Nat.le_of_ble_eq_true rfl) (Nat.le_of_eq (Nat.zero_add _)) (Nat.le_of_eq (Nat.zero_add _)) (fun _ _ hM' hT' => g_setStay hC hf hAx hBx hM' hT') ?_
  refine j_i2l dL_setStay_8 ?_
  refine j_last dL_setStay_9 sk_140 sn_140 (by decide) (by decide) ?_
  refine j_goto (tgt := 21) dL_setStay_10 (by decide) ?_
  refine j_iconst (v := nI 0) dL_setStay_21 nc_iconst_0 ?_
  exact j_iret hM dL_setStay_22 rfl hT

set_option maxHeartbeats 4000000 in
set_option maxRecDepth 100000 in
theorem we_setStay_2 {sx : Nat → jv_S} {g : jv_G} {X : jv_X} {T : jv_T} {n : Nat} {V : Nat → Nat → Int32} {L : Nat → Nat → Int64} {k z : Nat} {N K R : Nat} (hC : Ct V N K R) {f : Int32} {x : Int32} (hx : f < 0 ∨ nI N ≤ f) (hk : 1 ≤ k) (hz : 6 ≤ z) (hM : jv_M g X T) (hT : ∀ n', n ≤ n' → T (.inl (some (.int (nI 1)))) n' (SH sx) V L) : jv_J g X I_L_setStay 0 [some (jv_r g 0), some (.int f), some (.int x), some (jv_r g 140), none] [] n (SH sx) V L k z := by
  refine j_aload_n_3 dL_setStay_0 ?_
  refine j_iconst (v := nI 0) dL_setStay_1 nc_iconst_0 ?_
  refine j_aload_n_0 dL_setStay_2 ?_
  refine j_iload_n_1 dL_setStay_3 ?_
  refine j_iload_n_2 dL_setStay_4 ?_
  refine X_L_15 (n1 := 0) (sh1 := fun _ => (0, 0, fun _ => none)) (V1 := fun _ _ => 0) (L1 := fun _ _ => 0) rfl (by decide) dL_setStay_5 sk_0 (Nat.le_of_ble_eq_true rfl) (show 1 + 0 ≤ k from hk) (show 6 + 0 ≤ z from hz) (fun _ _ hM' hT' => e_setStay_2 hC hx (Nat.le_refl 1) (Nat.le_refl 6) hM' hT') (fun n' hn' => ?_)
  refine j_catch (by decide +kernel) [] (0, 10, 13, 19) [(0, 10, 17, 13)] rfl (fun y hy => absurd hy List.not_mem_nil) (by decide) (by decide) (by decide) (show Cond.classLink RL 19 "java/lang/IndexOutOfBoundsException" ∈ jv_gw from jv_gwm 581 (by decide +kernel) rfl) (fun q => ?_)
  refine j_exst (I := I_L_setStay) (i := 4) (v := none) dL_setStay_13 (by decide) (jok (j0 := 3) rfl rfl) ?_
  refine j_iconst (v := nI 1) dL_setStay_15 nc_iconst_1 ?_
  exact j_iret hM dL_setStay_16 rfl (hT n' hn')

set_option maxHeartbeats 4000000 in
set_option maxRecDepth 100000 in
theorem we_setStay_9 {sx : Nat → jv_S} {g : jv_G} {X : jv_X} {T : jv_T} {n : Nat} {V : Nat → Nat → Int32} {L : Nat → Nat → Int64} {k z : Nat} {N K R : Nat} (hC : Ct V N K R) {f : Nat} (hf : (f < N)) {x : Int32} (hx : x < nI 0 ∨ nI 9 < x) (hk : 1 ≤ k) (hz : 6 ≤ z) (hM : jv_M g X T) (hT : ∀ n', n ≤ n' → T (.inl (some (.int (nI 2)))) n' (SH sx) V L) : jv_J g X I_L_setStay 0 [some (jv_r g 0), some (.int (nI f)), some (.int x), some (jv_r g 140), none] [] n (SH sx) V L k z := by
  refine j_aload_n_3 dL_setStay_0 ?_
  refine j_iconst (v := nI 0) dL_setStay_1 nc_iconst_0 ?_
  refine j_aload_n_0 dL_setStay_2 ?_
  refine j_iload_n_1 dL_setStay_3 ?_
  refine j_iload_n_2 dL_setStay_4 ?_
  refine X_L_15 (n1 := 0) (sh1 := fun _ => (0, 0, fun _ => none)) (V1 := fun _ _ => 0) (L1 := fun _ _ => 0) rfl (by decide) dL_setStay_5 sk_0 (Nat.le_of_ble_eq_true rfl) (show 1 + 0 ≤ k from hk) (show 6 + 0 ≤ z from hz) (fun _ _ hM' hT' => e_setStay_9 hC hf hx (Nat.le_refl 1) (Nat.le_refl 6) hM' hT') (fun n' hn' => ?_)
  refine j_catch (by decide +kernel) [(0, 10, 13, 19)] (0, 10, 17, 13) [] rfl (List.forall_mem_cons.mpr ⟨⟨by decide, "java/lang/IndexOutOfBoundsException", by decide +kernel, by decide, (show Cond.classLink RL 19 "java/lang/IndexOutOfBoundsException" ∈ jv_gw from jv_gwm 581 (by decide +kernel) rfl)⟩, fun y hy => absurd hy List.not_mem_nil⟩) (by decide) (by decide) (by decide) (show Cond.classLink RL 13 "java/lang/IllegalArgumentException" ∈ jv_gw from jv_gwm 553 (by decide +kernel) rfl) (fun q => ?_)
  refine j_exst (I := I_L_setStay) (i := 4) (v := none) dL_setStay_17 (by decide) (jok (j0 := 3) rfl rfl) ?_
  refine j_iconst (v := nI 2) dL_setStay_19 nc_iconst_2 ?_
  exact j_iret hM dL_setStay_20 rfl (hT n' hn')

set_option maxHeartbeats 4000000 in
set_option maxRecDepth 100000 in
theorem wg_setHeads {sx : Nat → jv_S} {g : jv_G} {X : jv_X} {T : jv_T} {n : Nat} {V : Nat → Nat → Int32} {L : Nat → Nat → Int64} {k z : Nat} {N K R : Nat} (hC : Ct V N K R) {f : Nat} (hf : (f < N)) {x : Int32} (hAx : ¬ x < nI 0) (hBx : x ≤ nI 99) (hM : jv_M g X T) (hT : T (.inl (some (.int (nI 0)))) n (SH sx) (jv_U V 2 f x) (jv_UL L 140 0 ((V 2 f : Int32).toInt64))) : jv_J g X I_L_setHeads 0 [some (jv_r g 0), some (.int (nI f)), some (.int x), some (jv_r g 140), none] [] n (SH sx) V L k z := by
  refine j_aload_n_3 dL_setHeads_0 ?_
  refine j_iconst (v := nI 0) dL_setHeads_1 nc_iconst_0 ?_
  refine j_aload_n_0 dL_setHeads_2 ?_
  refine j_iload_n_1 dL_setHeads_3 ?_
  refine j_iload_n_2 dL_setHeads_4 ?_
  refine C_L_21 rfl (by decide) dL_setHeads_5 sk_0 (Nat.le_of_ble_eq_true rfl) (Nat.le_of_eq (Nat.zero_add _)) (Nat.le_of_eq (Nat.zero_add _)) (fun _ _ hM' hT' => g_setHeads hC hf hAx hBx hM' hT') ?_
  refine j_i2l dL_setHeads_8 ?_
  refine j_last dL_setHeads_9 sk_140 sn_140 (by decide) (by decide) ?_
  refine j_goto (tgt := 21) dL_setHeads_10 (by decide) ?_
  refine j_iconst (v := nI 0) dL_setHeads_21 nc_iconst_0 ?_
  exact j_iret hM dL_setHeads_22 rfl hT

set_option maxHeartbeats 4000000 in
set_option maxRecDepth 100000 in
theorem we_setHeads_2 {sx : Nat → jv_S} {g : jv_G} {X : jv_X} {T : jv_T} {n : Nat} {V : Nat → Nat → Int32} {L : Nat → Nat → Int64} {k z : Nat} {N K R : Nat} (hC : Ct V N K R) {f : Int32} {x : Int32} (hx : f < 0 ∨ nI N ≤ f) (hk : 1 ≤ k) (hz : 6 ≤ z) (hM : jv_M g X T) (hT : ∀ n', n ≤ n' → T (.inl (some (.int (nI 1)))) n' (SH sx) V L) : jv_J g X I_L_setHeads 0 [some (jv_r g 0), some (.int f), some (.int x), some (jv_r g 140), none] [] n (SH sx) V L k z := by
  refine j_aload_n_3 dL_setHeads_0 ?_
  refine j_iconst (v := nI 0) dL_setHeads_1 nc_iconst_0 ?_
  refine j_aload_n_0 dL_setHeads_2 ?_
  refine j_iload_n_1 dL_setHeads_3 ?_
  refine j_iload_n_2 dL_setHeads_4 ?_
  refine X_L_21 (n1 := 0) (sh1 := fun _ => (0, 0, fun _ => none)) (V1 := fun _ _ => 0) (L1 := fun _ _ => 0) rfl (by decide) dL_setHeads_5 sk_0 (Nat.le_of_ble_eq_true rfl) (show 1 + 0 ≤ k from hk) (show 6 + 0 ≤ z from hz) (fun _ _ hM' hT' => e_setHeads_2 hC hx (Nat.le_refl 1) (Nat.le_refl 6) hM' hT') (fun n' hn' => ?_)
  refine j_catch (by decide +kernel) [] (0, 10, 13, 19) [(0, 10, 17, 13)] rfl (fun y hy => absurd hy List.not_mem_nil) (by decide) (by decide) (by decide) (show Cond.classLink RL 19 "java/lang/IndexOutOfBoundsException" ∈ jv_gw from jv_gwm 581 (by decide +kernel) rfl) (fun q => ?_)
  refine j_exst (I := I_L_setHeads) (i := 4) (v := none) dL_setHeads_13 (by decide) (jok (j0 := 3) rfl rfl) ?_
  refine j_iconst (v := nI 1) dL_setHeads_15 nc_iconst_1 ?_
  exact j_iret hM dL_setHeads_16 rfl (hT n' hn')

set_option maxHeartbeats 4000000 in
set_option maxRecDepth 100000 in
theorem we_setHeads_9 {sx : Nat → jv_S} {g : jv_G} {X : jv_X} {T : jv_T} {n : Nat} {V : Nat → Nat → Int32} {L : Nat → Nat → Int64} {k z : Nat} {N K R : Nat} (hC : Ct V N K R) {f : Nat} (hf : (f < N)) {x : Int32} (hx : x < nI 0 ∨ nI 99 < x) (hk : 1 ≤ k) (hz : 6 ≤ z) (hM : jv_M g X T) (hT : ∀ n', n ≤ n' → T (.inl (some (.int (nI 2)))) n' (SH sx) V L) : jv_J g X I_L_setHeads 0 [some (jv_r g 0), some (.int (nI f)), some (.int x), some (jv_r g 140), none] [] n (SH sx) V L k z := by
  refine j_aload_n_3 dL_setHeads_0 ?_
  refine j_iconst (v := nI 0) dL_setHeads_1 nc_iconst_0 ?_
  refine j_aload_n_0 dL_setHeads_2 ?_
  refine j_iload_n_1 dL_setHeads_3 ?_
  refine j_iload_n_2 dL_setHeads_4 ?_
  refine X_L_21 (n1 := 0) (sh1 := fun _ => (0, 0, fun _ => none)) (V1 := fun _ _ => 0) (L1 := fun _ _ => 0) rfl (by decide) dL_setHeads_5 sk_0 (Nat.le_of_ble_eq_true rfl) (show 1 + 0 ≤ k from hk) (show 6 + 0 ≤ z from hz) (fun _ _ hM' hT' => e_setHeads_9 hC hf hx (Nat.le_refl 1) (Nat.le_refl 6) hM' hT') (fun n' hn' => ?_)
  refine j_catch (by decide +kernel) [(0, 10, 13, 19)] (0, 10, 17, 13) [] rfl (List.forall_mem_cons.mpr ⟨⟨by decide, "java/lang/IndexOutOfBoundsException", by decide +kernel, by decide, (show Cond.classLink RL 19 "java/lang/IndexOutOfBoundsException" ∈ jv_gw from jv_gwm 581 (by decide +kernel) rfl)⟩, fun y hy => absurd hy List.not_mem_nil⟩) (by decide) (by decide) (by decide) (show Cond.classLink RL 13 "java/lang/IllegalArgumentException" ∈ jv_gw from jv_gwm 553 (by decide +kernel) rfl) (fun q => ?_)
  refine j_exst (I := I_L_setHeads) (i := 4) (v := none) dL_setHeads_17 (by decide) (jok (j0 := 3) rfl rfl) ?_
  refine j_iconst (v := nI 2) dL_setHeads_19 nc_iconst_2 ?_
  exact j_iret hM dL_setHeads_20 rfl (hT n' hn')

set_option maxHeartbeats 4000000 in
set_option maxRecDepth 100000 in
theorem wg_setStairs {sx : Nat → jv_S} {g : jv_G} {X : jv_X} {T : jv_T} {n : Nat} {V : Nat → Nat → Int32} {L : Nat → Nat → Int64} {k z : Nat} {N K R : Nat} (hC : Ct V N K R) {f : Nat} (hf : (f + 1 < N)) {x : Int32} (hAx : ¬ x < nI 1) (hBx : x ≤ nI 9) (hM : jv_M g X T) (hT : T (.inl (some (.int (nI 0)))) n (SH sx) (layV (jv_U V 4 f x) N K) (jv_UL L 140 0 ((V 4 f : Int32).toInt64))) : jv_J g X I_L_setStairs 0 [some (jv_r g 0), some (.int (nI f)), some (.int x), some (jv_r g 140), none] [] n (SH sx) V L k z := by
  refine j_aload_n_3 dL_setStairs_0 ?_
  refine j_iconst (v := nI 0) dL_setStairs_1 nc_iconst_0 ?_
  refine j_aload_n_0 dL_setStairs_2 ?_
  refine j_iload_n_1 dL_setStairs_3 ?_
  refine j_iload_n_2 dL_setStairs_4 ?_
  refine C_L_24 rfl (by decide) dL_setStairs_5 sk_0 (Nat.le_of_ble_eq_true rfl) (Nat.le_of_eq (Nat.zero_add _)) (Nat.le_of_eq (Nat.zero_add _)) (fun _ _ hM' hT' => g_setStairs hC hf hAx hBx hM' hT') ?_
  refine j_i2l dL_setStairs_8 ?_
  refine j_last dL_setStairs_9 sk_140 sn_140 (by decide) (by decide) ?_
  refine j_goto (tgt := 21) dL_setStairs_10 (by decide) ?_
  refine j_iconst (v := nI 0) dL_setStairs_21 nc_iconst_0 ?_
  exact j_iret hM dL_setStairs_22 rfl hT

set_option maxHeartbeats 4000000 in
set_option maxRecDepth 100000 in
theorem we_setStairs_2 {sx : Nat → jv_S} {g : jv_G} {X : jv_X} {T : jv_T} {n : Nat} {V : Nat → Nat → Int32} {L : Nat → Nat → Int64} {k z : Nat} {N K R : Nat} (hC : Ct V N K R) {f : Int32} {x : Int32} (hx : f < 0 ∨ nI (N - 1) ≤ f) (hk : 1 ≤ k) (hz : 6 ≤ z) (hM : jv_M g X T) (hT : ∀ n', n ≤ n' → T (.inl (some (.int (nI 1)))) n' (SH sx) V L) : jv_J g X I_L_setStairs 0 [some (jv_r g 0), some (.int f), some (.int x), some (jv_r g 140), none] [] n (SH sx) V L k z := by
  refine j_aload_n_3 dL_setStairs_0 ?_
  refine j_iconst (v := nI 0) dL_setStairs_1 nc_iconst_0 ?_
  refine j_aload_n_0 dL_setStairs_2 ?_
  refine j_iload_n_1 dL_setStairs_3 ?_
  refine j_iload_n_2 dL_setStairs_4 ?_
  refine X_L_24 (n1 := 0) (sh1 := fun _ => (0, 0, fun _ => none)) (V1 := fun _ _ => 0) (L1 := fun _ _ => 0) rfl (by decide) dL_setStairs_5 sk_0 (Nat.le_of_ble_eq_true rfl) (show 1 + 0 ≤ k from hk) (show 6 + 0 ≤ z from hz) (fun _ _ hM' hT' => e_setStairs_2 hC hx (Nat.le_refl 1) (Nat.le_refl 6) hM' hT') (fun n' hn' => ?_)
  refine j_catch (by decide +kernel) [] (0, 10, 13, 19) [(0, 10, 17, 13)] rfl (fun y hy => absurd hy List.not_mem_nil) (by decide) (by decide) (by decide) (show Cond.classLink RL 19 "java/lang/IndexOutOfBoundsException" ∈ jv_gw from jv_gwm 581 (by decide +kernel) rfl) (fun q => ?_)
  refine j_exst (I := I_L_setStairs) (i := 4) (v := none) dL_setStairs_13 (by decide) (jok (j0 := 3) rfl rfl) ?_
  refine j_iconst (v := nI 1) dL_setStairs_15 nc_iconst_1 ?_
  exact j_iret hM dL_setStairs_16 rfl (hT n' hn')

set_option maxHeartbeats 4000000 in
set_option maxRecDepth 100000 in
theorem we_setStairs_9 {sx : Nat → jv_S} {g : jv_G} {X : jv_X} {T : jv_T} {n : Nat} {V : Nat → Nat → Int32} {L : Nat → Nat → Int64} {k z : Nat} {N K R : Nat} (hC : Ct V N K R) {f : Nat} (hf : (f + 1 < N)) {x : Int32} (hx : x < nI 1 ∨ nI 9 < x) (hk : 1 ≤ k) (hz : 6 ≤ z) (hM : jv_M g X T) (hT : ∀ n', n ≤ n' → T (.inl (some (.int (nI 2)))) n' (SH sx) V L) : jv_J g X I_L_setStairs 0 [some (jv_r g 0), some (.int (nI f)), some (.int x), some (jv_r g 140), none] [] n (SH sx) V L k z := by
  refine j_aload_n_3 dL_setStairs_0 ?_
  refine j_iconst (v := nI 0) dL_setStairs_1 nc_iconst_0 ?_
  refine j_aload_n_0 dL_setStairs_2 ?_
  refine j_iload_n_1 dL_setStairs_3 ?_
  refine j_iload_n_2 dL_setStairs_4 ?_
  refine X_L_24 (n1 := 0) (sh1 := fun _ => (0, 0, fun _ => none)) (V1 := fun _ _ => 0) (L1 := fun _ _ => 0) rfl (by decide) dL_setStairs_5 sk_0 (Nat.le_of_ble_eq_true rfl) (show 1 + 0 ≤ k from hk) (show 6 + 0 ≤ z from hz) (fun _ _ hM' hT' => e_setStairs_9 hC hf hx (Nat.le_refl 1) (Nat.le_refl 6) hM' hT') (fun n' hn' => ?_)
  refine j_catch (by decide +kernel) [(0, 10, 13, 19)] (0, 10, 17, 13) [] rfl (List.forall_mem_cons.mpr ⟨⟨by decide, "java/lang/IndexOutOfBoundsException", by decide +kernel, by decide, (show Cond.classLink RL 19 "java/lang/IndexOutOfBoundsException" ∈ jv_gw from jv_gwm 581 (by decide +kernel) rfl)⟩, fun y hy => absurd hy List.not_mem_nil⟩) (by decide) (by decide) (by decide) (show Cond.classLink RL 13 "java/lang/IllegalArgumentException" ∈ jv_gw from jv_gwm 553 (by decide +kernel) rfl) (fun q => ?_)
  refine j_exst (I := I_L_setStairs) (i := 4) (v := none) dL_setStairs_17 (by decide) (jok (j0 := 3) rfl rfl) ?_
  refine j_iconst (v := nI 2) dL_setStairs_19 nc_iconst_2 ?_
  exact j_iret hM dL_setStairs_20 rfl (hT n' hn')

set_option maxHeartbeats 4000000 in
set_option maxRecDepth 100000 in
theorem wg_turnStairs {sx : Nat → jv_S} {g : jv_G} {X : jv_X} {T : jv_T} {n : Nat} {V : Nat → Nat → Int32} {L : Nat → Nat → Int64} {k z : Nat} {N K R : Nat} (hC : Ct V N K R) {f : Nat} (hf : (f + 1 < N)) (hM : jv_M g X T) (hT : T (.inl (some (.int (nI 0)))) n (SH sx) (layV (jv_U V 5 f (nb (V 5 f))) N K) (jv_UL L 140 0 (if nb (V 5 f) = 0 then 0 else 1))) : jv_J g X I_L_turnStairs 0 [some (jv_r g 0), some (.int (nI f)), some (jv_r g 140), none] [] n (SH sx) V L k z := by
  refine j_aload_n_2 dL_turnStairs_0 ?_
  refine j_iconst (v := nI 0) dL_turnStairs_1 nc_iconst_0 ?_
  refine j_aload_n_0 dL_turnStairs_2 ?_
  refine j_iload_n_1 dL_turnStairs_3 ?_
  refine C_L_27 rfl (by decide) dL_turnStairs_4 sk_0 (Nat.le_of_ble_eq_true rfl) (Nat.le_of_eq (Nat.zero_add _)) (Nat.le_of_eq (Nat.zero_add _)) (fun _ _ hM' hT' => g_turnStairs hC hf hM' hT') ?_
  refine j_if_eq (tgt := 14) dL_turnStairs_7 (by decide) (fun h7 => ?_) (fun h7 => ?_)
  · refine j_lconst dL_turnStairs_14 rfl ?_
    refine j_topl (y := if nb (V 5 f) = 0 then 0 else 1) (by rw [if_pos h7]; rfl) ?_
    refine j_last dL_turnStairs_15 sk_140 sn_140 (by decide) (by decide) ?_
    refine j_goto (tgt := 22) dL_turnStairs_16 (by decide) ?_
    refine j_iconst (v := nI 0) dL_turnStairs_22 nc_iconst_0 ?_
    exact j_iret hM dL_turnStairs_23 rfl hT
  · refine j_lconst dL_turnStairs_10 rfl ?_
    refine j_goto (tgt := 15) dL_turnStairs_11 (by decide) ?_
    refine j_topl (y := if nb (V 5 f) = 0 then 0 else 1) (by rw [if_neg h7]; rfl) ?_
    refine j_last dL_turnStairs_15 sk_140 sn_140 (by decide) (by decide) ?_
    refine j_goto (tgt := 22) dL_turnStairs_16 (by decide) ?_
    refine j_iconst (v := nI 0) dL_turnStairs_22 nc_iconst_0 ?_
    exact j_iret hM dL_turnStairs_23 rfl hT

set_option maxHeartbeats 4000000 in
set_option maxRecDepth 100000 in
theorem we_turnStairs_2 {sx : Nat → jv_S} {g : jv_G} {X : jv_X} {T : jv_T} {n : Nat} {V : Nat → Nat → Int32} {L : Nat → Nat → Int64} {k z : Nat} {N K R : Nat} (hC : Ct V N K R) {f : Int32} (hx : f < 0 ∨ nI (N - 1) ≤ f) (hk : 1 ≤ k) (hz : 6 ≤ z) (hM : jv_M g X T) (hT : ∀ n', n ≤ n' → T (.inl (some (.int (nI 1)))) n' (SH sx) V L) : jv_J g X I_L_turnStairs 0 [some (jv_r g 0), some (.int f), some (jv_r g 140), none] [] n (SH sx) V L k z := by
  refine j_aload_n_2 dL_turnStairs_0 ?_
  refine j_iconst (v := nI 0) dL_turnStairs_1 nc_iconst_0 ?_
  refine j_aload_n_0 dL_turnStairs_2 ?_
  refine j_iload_n_1 dL_turnStairs_3 ?_
  refine X_L_27 (n1 := 0) (sh1 := fun _ => (0, 0, fun _ => none)) (V1 := fun _ _ => 0) (L1 := fun _ _ => 0) rfl (by decide) dL_turnStairs_4 sk_0 (Nat.le_of_ble_eq_true rfl) (show 1 + 0 ≤ k from hk) (show 6 + 0 ≤ z from hz) (fun _ _ hM' hT' => e_turnStairs_2 hC hx (Nat.le_refl 1) (Nat.le_refl 6) hM' hT') (fun n' hn' => ?_)
  refine j_catch (by decide +kernel) [] (0, 16, 19, 19) [] rfl (fun y hy => absurd hy List.not_mem_nil) (by decide) (by decide) (by decide) (show Cond.classLink RL 19 "java/lang/IndexOutOfBoundsException" ∈ jv_gw from jv_gwm 581 (by decide +kernel) rfl) (fun q => ?_)
  refine j_exst_n (I := I_L_turnStairs) (i := 3) dL_turnStairs_19 (by decide) (jok (j0 := 2) rfl rfl) ?_
  refine j_iconst (v := nI 1) dL_turnStairs_20 nc_iconst_1 ?_
  exact j_iret hM dL_turnStairs_21 rfl (hT n' hn')

set_option maxHeartbeats 4000000 in
set_option maxRecDepth 100000 in
theorem we_addLift_2 {sx : Nat → jv_S} {g : jv_G} {X : jv_X} {T : jv_T} {n : Nat} {V : Nat → Nat → Int32} {L : Nat → Nat → Int64} {k z : Nat} {N K R : Nat} (hC : Ct V N K R) {lo : Int32} {hi : Int32} {ev : Int32} {w : Int32} (hx : lo < 0 ∨ nI N ≤ lo) (hk : 1 ≤ k) (hz : 6 ≤ z) (hM : jv_M g X T) (hT : ∀ n', n ≤ n' → T (.inl (some (.int (nI 1)))) n' (SH sx) V L) : jv_J g X I_L_addLift 0 [some (jv_r g 0), some (.int lo), some (.int hi), some (.int ev), some (.int w), some (jv_r g 140), none] [] n (SH sx) V L k z := by
  refine j_aload_5 dL_addLift_0 ?_
  refine j_iconst (v := nI 0) dL_addLift_2 nc_iconst_0 ?_
  refine j_aload_n_0 dL_addLift_3 ?_
  refine j_iload_n_1 dL_addLift_4 ?_
  refine j_iload_n_2 dL_addLift_5 ?_
  refine j_iload_n_3 dL_addLift_6 ?_
  refine j_iload_4 dL_addLift_7 ?_
  refine X_L_31 (n1 := 0) (sh1 := fun _ => (0, 0, fun _ => none)) (V1 := fun _ _ => 0) (L1 := fun _ _ => 0) rfl (by decide) dL_addLift_9 sk_0 (Nat.le_of_ble_eq_true rfl) (show 1 + 0 ≤ k from hk) (show 6 + 0 ≤ z from hz) (fun _ _ hM' hT' => e_addLift_2 hC hx (Nat.le_refl 1) (Nat.le_refl 6) hM' hT') (fun n' hn' => ?_)
  refine j_catch (by decide +kernel) [] (0, 14, 17, 19) [(0, 14, 21, 13), (0, 14, 25, 35)] rfl (fun y hy => absurd hy List.not_mem_nil) (by decide) (by decide) (by decide) (show Cond.classLink RL 19 "java/lang/IndexOutOfBoundsException" ∈ jv_gw from jv_gwm 581 (by decide +kernel) rfl) (fun q => ?_)
  refine j_exst (I := I_L_addLift) (i := 6) (v := none) dL_addLift_17 (by decide) (jok (j0 := 5) rfl rfl) ?_
  refine j_iconst (v := nI 1) dL_addLift_19 nc_iconst_1 ?_
  exact j_iret hM dL_addLift_20 rfl (hT n' hn')

set_option maxHeartbeats 4000000 in
set_option maxRecDepth 100000 in
theorem we_addLift_7 {sx : Nat → jv_S} {g : jv_G} {X : jv_X} {T : jv_T} {n : Nat} {V : Nat → Nat → Int32} {L : Nat → Nat → Int64} {k z : Nat} {N K R : Nat} (hC : Ct V N K R) {lo : Nat} (hlo : (lo < N)) {hi : Int32} {ev : Int32} {w : Int32} (hx : hi < 0 ∨ nI N ≤ hi) (hk : 1 ≤ k) (hz : 6 ≤ z) (hM : jv_M g X T) (hT : ∀ n', n ≤ n' → T (.inl (some (.int (nI 1)))) n' (SH sx) V L) : jv_J g X I_L_addLift 0 [some (jv_r g 0), some (.int (nI lo)), some (.int hi), some (.int ev), some (.int w), some (jv_r g 140), none] [] n (SH sx) V L k z := by
  refine j_aload_5 dL_addLift_0 ?_
  refine j_iconst (v := nI 0) dL_addLift_2 nc_iconst_0 ?_
  refine j_aload_n_0 dL_addLift_3 ?_
  refine j_iload_n_1 dL_addLift_4 ?_
  refine j_iload_n_2 dL_addLift_5 ?_
  refine j_iload_n_3 dL_addLift_6 ?_
  refine j_iload_4 dL_addLift_7 ?_
  refine X_L_31 (n1 := 0) (sh1 := fun _ => (0, 0, fun _ => none)) (V1 := fun _ _ => 0) (L1 := fun _ _ => 0) rfl (by decide) dL_addLift_9 sk_0 (Nat.le_of_ble_eq_true rfl) (show 1 + 0 ≤ k from hk) (show 6 + 0 ≤ z from hz) (fun _ _ hM' hT' => e_addLift_7 hC hlo hx (Nat.le_refl 1) (Nat.le_refl 6) hM' hT') (fun n' hn' => ?_)
  refine j_catch (by decide +kernel) [] (0, 14, 17, 19) [(0, 14, 21, 13), (0, 14, 25, 35)] rfl (fun y hy => absurd hy List.not_mem_nil) (by decide) (by decide) (by decide) (show Cond.classLink RL 19 "java/lang/IndexOutOfBoundsException" ∈ jv_gw from jv_gwm 581 (by decide +kernel) rfl) (fun q => ?_)
  refine j_exst (I := I_L_addLift) (i := 6) (v := none) dL_addLift_17 (by decide) (jok (j0 := 5) rfl rfl) ?_
  refine j_iconst (v := nI 1) dL_addLift_19 nc_iconst_1 ?_
  exact j_iret hM dL_addLift_20 rfl (hT n' hn')

set_option maxHeartbeats 4000000 in
set_option maxRecDepth 100000 in
theorem wg_addLift {sx : Nat → jv_S} {g : jv_G} {X : jv_X} {T : jv_T} {n : Nat} {V : Nat → Nat → Int32} {L : Nat → Nat → Int64} {k z : Nat} {N K R : Nat} (hC : Ct V N K R) {lo hi ev : Nat} (hlo : lo < N) (hhi : hi < N) {w : Int32} (hl : lo < hi) (he : 1 ≤ ev) (hev : ev ≤ hi - lo) (hA : ¬ w < nI 1) (hB : w ≤ nI 9) (hK3 : K < 4) (hM : jv_M g X T) (hT : T (.inl (some (.int (nI 0)))) n (SH sx) (layV (putV V K lo hi ev w) N (K + 1)) (jv_UL L 140 0 ((nI K : Int32).toInt64))) : jv_J g X I_L_addLift 0 [some (jv_r g 0), some (.int (nI lo)), some (.int (nI hi)), some (.int (nI ev)), some (.int w), some (jv_r g 140), none] [] n (SH sx) V L k z := by
  refine j_aload_5 dL_addLift_0 ?_
  refine j_iconst (v := nI 0) dL_addLift_2 nc_iconst_0 ?_
  refine j_aload_n_0 dL_addLift_3 ?_
  refine j_iload_n_1 dL_addLift_4 ?_
  refine j_iload_n_2 dL_addLift_5 ?_
  refine j_iload_n_3 dL_addLift_6 ?_
  refine j_iload_4 dL_addLift_7 ?_
  refine C_L_31 rfl (by decide) dL_addLift_9 sk_0 (Nat.le_of_ble_eq_true rfl) (Nat.le_of_eq (Nat.zero_add _)) (Nat.le_of_eq (Nat.zero_add _)) (fun _ _ hM' hT' => g_addLift hC hlo hhi hl he hev hA hB hK3 hM' hT') ?_
  refine j_i2l dL_addLift_12 ?_
  refine j_last dL_addLift_13 sk_140 sn_140 (by decide) (by decide) ?_
  refine j_goto (tgt := 29) dL_addLift_14 (by decide) ?_
  refine j_iconst (v := nI 0) dL_addLift_29 nc_iconst_0 ?_
  exact j_iret hM dL_addLift_30 rfl hT

set_option maxHeartbeats 4000000 in
set_option maxRecDepth 100000 in
theorem we_addLift_15 {sx : Nat → jv_S} {g : jv_G} {X : jv_X} {T : jv_T} {n : Nat} {V : Nat → Nat → Int32} {L : Nat → Nat → Int64} {k z : Nat} {N K R : Nat} (hC : Ct V N K R) {lo hi : Nat} (hlo : lo < N) (hhi : hi < N) {ev w : Int32} (hx : ev < nI 1 ∨ nI hi - nI lo < ev) (hk : 1 ≤ k) (hz : 6 ≤ z) (hM : jv_M g X T) (hT : ∀ n', n ≤ n' → T (.inl (some (.int (nI 2)))) n' (SH sx) V L) : jv_J g X I_L_addLift 0 [some (jv_r g 0), some (.int (nI lo)), some (.int (nI hi)), some (.int ev), some (.int w), some (jv_r g 140), none] [] n (SH sx) V L k z := by
  refine j_aload_5 dL_addLift_0 ?_
  refine j_iconst (v := nI 0) dL_addLift_2 nc_iconst_0 ?_
  refine j_aload_n_0 dL_addLift_3 ?_
  refine j_iload_n_1 dL_addLift_4 ?_
  refine j_iload_n_2 dL_addLift_5 ?_
  refine j_iload_n_3 dL_addLift_6 ?_
  refine j_iload_4 dL_addLift_7 ?_
  refine X_L_31 (n1 := 0) (sh1 := fun _ => (0, 0, fun _ => none)) (V1 := fun _ _ => 0) (L1 := fun _ _ => 0) rfl (by decide) dL_addLift_9 sk_0 (Nat.le_of_ble_eq_true rfl) (show 1 + 0 ≤ k from hk) (show 6 + 0 ≤ z from hz) (fun _ _ hM' hT' => e_addLift_15 hC hlo hhi hx (Nat.le_refl 1) (Nat.le_refl 6) hM' hT') (fun n' hn' => ?_)
  refine j_catch (by decide +kernel) [(0, 14, 17, 19)] (0, 14, 21, 13) [(0, 14, 25, 35)] rfl (List.forall_mem_cons.mpr ⟨⟨by decide, "java/lang/IndexOutOfBoundsException", by decide +kernel, by decide, (show Cond.classLink RL 19 "java/lang/IndexOutOfBoundsException" ∈ jv_gw from jv_gwm 581 (by decide +kernel) rfl)⟩, fun y hy => absurd hy List.not_mem_nil⟩) (by decide) (by decide) (by decide) (show Cond.classLink RL 13 "java/lang/IllegalArgumentException" ∈ jv_gw from jv_gwm 553 (by decide +kernel) rfl) (fun q => ?_)
  refine j_exst (I := I_L_addLift) (i := 6) (v := none) dL_addLift_21 (by decide) (jok (j0 := 5) rfl rfl) ?_
  refine j_iconst (v := nI 2) dL_addLift_23 nc_iconst_2 ?_
  exact j_iret hM dL_addLift_24 rfl (hT n' hn')

set_option maxHeartbeats 4000000 in
set_option maxRecDepth 100000 in
theorem we_addLift_23 {sx : Nat → jv_S} {g : jv_G} {X : jv_X} {T : jv_T} {n : Nat} {V : Nat → Nat → Int32} {L : Nat → Nat → Int64} {k z : Nat} {N K R : Nat} (hC : Ct V N K R) {lo hi ev : Nat} (hlo : lo < N) (hhi : hi < N) {w : Int32} (hl : lo < hi) (he : 1 ≤ ev) (hev : ev ≤ hi - lo) (hx : w < nI 1 ∨ nI 9 < w) (hk : 1 ≤ k) (hz : 6 ≤ z) (hM : jv_M g X T) (hT : ∀ n', n ≤ n' → T (.inl (some (.int (nI 2)))) n' (SH sx) V L) : jv_J g X I_L_addLift 0 [some (jv_r g 0), some (.int (nI lo)), some (.int (nI hi)), some (.int (nI ev)), some (.int w), some (jv_r g 140), none] [] n (SH sx) V L k z := by
  refine j_aload_5 dL_addLift_0 ?_
  refine j_iconst (v := nI 0) dL_addLift_2 nc_iconst_0 ?_
  refine j_aload_n_0 dL_addLift_3 ?_
  refine j_iload_n_1 dL_addLift_4 ?_
  refine j_iload_n_2 dL_addLift_5 ?_
  refine j_iload_n_3 dL_addLift_6 ?_
  refine j_iload_4 dL_addLift_7 ?_
  refine X_L_31 (n1 := 0) (sh1 := fun _ => (0, 0, fun _ => none)) (V1 := fun _ _ => 0) (L1 := fun _ _ => 0) rfl (by decide) dL_addLift_9 sk_0 (Nat.le_of_ble_eq_true rfl) (show 1 + 0 ≤ k from hk) (show 6 + 0 ≤ z from hz) (fun _ _ hM' hT' => e_addLift_23 hC hlo hhi hl he hev hx (Nat.le_refl 1) (Nat.le_refl 6) hM' hT') (fun n' hn' => ?_)
  refine j_catch (by decide +kernel) [(0, 14, 17, 19)] (0, 14, 21, 13) [(0, 14, 25, 35)] rfl (List.forall_mem_cons.mpr ⟨⟨by decide, "java/lang/IndexOutOfBoundsException", by decide +kernel, by decide, (show Cond.classLink RL 19 "java/lang/IndexOutOfBoundsException" ∈ jv_gw from jv_gwm 581 (by decide +kernel) rfl)⟩, fun y hy => absurd hy List.not_mem_nil⟩) (by decide) (by decide) (by decide) (show Cond.classLink RL 13 "java/lang/IllegalArgumentException" ∈ jv_gw from jv_gwm 553 (by decide +kernel) rfl) (fun q => ?_)
  refine j_exst (I := I_L_addLift) (i := 6) (v := none) dL_addLift_21 (by decide) (jok (j0 := 5) rfl rfl) ?_
  refine j_iconst (v := nI 2) dL_addLift_23 nc_iconst_2 ?_
  exact j_iret hM dL_addLift_24 rfl (hT n' hn')

set_option maxHeartbeats 4000000 in
set_option maxRecDepth 100000 in
theorem we_addLift_34 {sx : Nat → jv_S} {g : jv_G} {X : jv_X} {T : jv_T} {n : Nat} {V : Nat → Nat → Int32} {L : Nat → Nat → Int64} {k z : Nat} {N K R : Nat} (hC : Ct V N K R) {lo hi ev : Nat} (hlo : lo < N) (hhi : hi < N) {w : Int32} (hl : lo < hi) (he : 1 ≤ ev) (hev : ev ≤ hi - lo) (hA : ¬ w < nI 1) (hB : w ≤ nI 9) (hK3 : 4 ≤ K) (hk : 1 ≤ k) (hz : 6 ≤ z) (hM : jv_M g X T) (hT : ∀ n', n ≤ n' → T (.inl (some (.int (nI 3)))) n' (SH sx) V L) : jv_J g X I_L_addLift 0 [some (jv_r g 0), some (.int (nI lo)), some (.int (nI hi)), some (.int (nI ev)), some (.int w), some (jv_r g 140), none] [] n (SH sx) V L k z := by
  refine j_aload_5 dL_addLift_0 ?_
  refine j_iconst (v := nI 0) dL_addLift_2 nc_iconst_0 ?_
  refine j_aload_n_0 dL_addLift_3 ?_
  refine j_iload_n_1 dL_addLift_4 ?_
  refine j_iload_n_2 dL_addLift_5 ?_
  refine j_iload_n_3 dL_addLift_6 ?_
  refine j_iload_4 dL_addLift_7 ?_
  refine X_L_31 (n1 := 0) (sh1 := fun _ => (0, 0, fun _ => none)) (V1 := fun _ _ => 0) (L1 := fun _ _ => 0) rfl (by decide) dL_addLift_9 sk_0 (Nat.le_of_ble_eq_true rfl) (show 1 + 0 ≤ k from hk) (show 6 + 0 ≤ z from hz) (fun _ _ hM' hT' => e_addLift_34 hC hlo hhi hl he hev hA hB hK3 (Nat.le_refl 1) (Nat.le_refl 6) hM' hT') (fun n' hn' => ?_)
  refine j_catch (by decide +kernel) [(0, 14, 17, 19), (0, 14, 21, 13)] (0, 14, 25, 35) [] rfl (List.forall_mem_cons.mpr ⟨⟨by decide, "java/lang/IndexOutOfBoundsException", by decide +kernel, by decide, (show Cond.classLink RL 19 "java/lang/IndexOutOfBoundsException" ∈ jv_gw from jv_gwm 581 (by decide +kernel) rfl)⟩, List.forall_mem_cons.mpr ⟨⟨by decide, "java/lang/IllegalArgumentException", by decide +kernel, by decide, (show Cond.classLink RL 13 "java/lang/IllegalArgumentException" ∈ jv_gw from jv_gwm 553 (by decide +kernel) rfl)⟩, fun y hy => absurd hy List.not_mem_nil⟩⟩) (by decide) (by decide) (by decide) (show Cond.classLink RL 35 "java/lang/IllegalStateException" ∈ jv_gw from jv_gwm 611 (by decide +kernel) rfl) (fun q => ?_)
  refine j_exst (I := I_L_addLift) (i := 6) (v := none) dL_addLift_25 (by decide) (jok (j0 := 5) rfl rfl) ?_
  refine j_iconst (v := nI 3) dL_addLift_27 nc_iconst_3 ?_
  exact j_iret hM dL_addLift_28 rfl (hT n' hn')

set_option maxHeartbeats 4000000 in
set_option maxRecDepth 100000 in
theorem wg_turnLift {sx : Nat → jv_S} {g : jv_G} {X : jv_X} {T : jv_T} {n : Nat} {V : Nat → Nat → Int32} {L : Nat → Nat → Int64} {k z : Nat} {N K R : Nat} (hC : Ct V N K R) {l : Nat} (hl : (l < K)) (hM : jv_M g X T) (hT : T (.inl (some (.int (nI 0)))) n (SH sx) (layV (jv_U V (20 + 2 * l) 0 (nb (V (20 + 2 * l) 0))) N K) (jv_UL L 140 0 (if nb (V (20 + 2 * l) 0) = 0 then 0 else 1))) : jv_J g X I_L_turnLift 0 [some (jv_r g 0), some (.int (nI l)), some (jv_r g 140), none] [] n (SH sx) V L k z := by
  refine j_aload_n_2 dL_turnLift_0 ?_
  refine j_iconst (v := nI 0) dL_turnLift_1 nc_iconst_0 ?_
  refine j_aload_n_0 dL_turnLift_2 ?_
  refine j_iload_n_1 dL_turnLift_3 ?_
  refine C_L_37 rfl (by decide) dL_turnLift_4 sk_0 (Nat.le_of_ble_eq_true rfl) (Nat.le_of_eq (Nat.zero_add _)) (Nat.le_of_eq (Nat.zero_add _)) (fun _ _ hM' hT' => g_turnLift hC hl hM' hT') ?_
  refine j_if_eq (tgt := 14) dL_turnLift_7 (by decide) (fun h7 => ?_) (fun h7 => ?_)
  · refine j_lconst dL_turnLift_14 rfl ?_
    refine j_topl (y := if nb (V (20 + 2 * l) 0) = 0 then 0 else 1) (by rw [if_pos h7]; rfl) ?_
    refine j_last dL_turnLift_15 sk_140 sn_140 (by decide) (by decide) ?_
    refine j_goto (tgt := 22) dL_turnLift_16 (by decide) ?_
    refine j_iconst (v := nI 0) dL_turnLift_22 nc_iconst_0 ?_
    exact j_iret hM dL_turnLift_23 rfl hT
  · refine j_lconst dL_turnLift_10 rfl ?_
    refine j_goto (tgt := 15) dL_turnLift_11 (by decide) ?_
    refine j_topl (y := if nb (V (20 + 2 * l) 0) = 0 then 0 else 1) (by rw [if_neg h7]; rfl) ?_
    refine j_last dL_turnLift_15 sk_140 sn_140 (by decide) (by decide) ?_
    refine j_goto (tgt := 22) dL_turnLift_16 (by decide) ?_
    refine j_iconst (v := nI 0) dL_turnLift_22 nc_iconst_0 ?_
    exact j_iret hM dL_turnLift_23 rfl hT

set_option maxHeartbeats 4000000 in
set_option maxRecDepth 100000 in
theorem we_turnLift_2 {sx : Nat → jv_S} {g : jv_G} {X : jv_X} {T : jv_T} {n : Nat} {V : Nat → Nat → Int32} {L : Nat → Nat → Int64} {k z : Nat} {N K R : Nat} (hC : Ct V N K R) {l : Int32} (hx : l < 0 ∨ nI K ≤ l) (hk : 1 ≤ k) (hz : 6 ≤ z) (hM : jv_M g X T) (hT : ∀ n', n ≤ n' → T (.inl (some (.int (nI 1)))) n' (SH sx) V L) : jv_J g X I_L_turnLift 0 [some (jv_r g 0), some (.int l), some (jv_r g 140), none] [] n (SH sx) V L k z := by
  refine j_aload_n_2 dL_turnLift_0 ?_
  refine j_iconst (v := nI 0) dL_turnLift_1 nc_iconst_0 ?_
  refine j_aload_n_0 dL_turnLift_2 ?_
  refine j_iload_n_1 dL_turnLift_3 ?_
  refine X_L_37 (n1 := 0) (sh1 := fun _ => (0, 0, fun _ => none)) (V1 := fun _ _ => 0) (L1 := fun _ _ => 0) rfl (by decide) dL_turnLift_4 sk_0 (Nat.le_of_ble_eq_true rfl) (show 1 + 0 ≤ k from hk) (show 6 + 0 ≤ z from hz) (fun _ _ hM' hT' => e_turnLift_2 hC hx (Nat.le_refl 1) (Nat.le_refl 6) hM' hT') (fun n' hn' => ?_)
  refine j_catch (by decide +kernel) [] (0, 16, 19, 19) [] rfl (fun y hy => absurd hy List.not_mem_nil) (by decide) (by decide) (by decide) (show Cond.classLink RL 19 "java/lang/IndexOutOfBoundsException" ∈ jv_gw from jv_gwm 581 (by decide +kernel) rfl) (fun q => ?_)
  refine j_exst_n (I := I_L_turnLift) (i := 3) dL_turnLift_19 (by decide) (jok (j0 := 2) rfl rfl) ?_
  refine j_iconst (v := nI 1) dL_turnLift_20 nc_iconst_1 ?_
  exact j_iret hM dL_turnLift_21 rfl (hT n' hn')

set_option maxHeartbeats 4000000 in
set_option maxRecDepth 100000 in
theorem wg_startRumour {sx : Nat → jv_S} {g : jv_G} {X : jv_X} {T : jv_T} {n : Nat} {V : Nat → Nat → Int32} {L : Nat → Nat → Int64} {k z : Nat} {N K R : Nat} (hC : Ct V N K R) {f : Nat} (hf : (f < N)) {y : Int32} (hAy : ¬ y < nI 1) (hBy : y ≤ nI 20) (hR7 : R < 8) (hM : jv_M g X T) (hT : T (.inl (some (.int (nI 0)))) n (SH sx) (jv_U (staR V (43 + 10 * R) f y (V 0 5)) 0 4 (nI (R + 1))) (jv_UL L 140 0 ((nI R : Int32).toInt64))) : jv_J g X I_L_startRumour 0 [some (jv_r g 0), some (.int (nI f)), some (.int y), some (jv_r g 140), none] [] n (SH sx) V L k z := by
  refine j_aload_n_3 dL_startRumour_0 ?_
  refine j_iconst (v := nI 0) dL_startRumour_1 nc_iconst_0 ?_
  refine j_aload_n_0 dL_startRumour_2 ?_
  refine j_iload_n_1 dL_startRumour_3 ?_
  refine j_iload_n_2 dL_startRumour_4 ?_
  refine C_L_40 rfl (by decide) dL_startRumour_5 sk_0 (Nat.le_of_ble_eq_true rfl) (Nat.le_of_eq (Nat.zero_add _)) (Nat.le_of_eq (Nat.zero_add _)) (fun _ _ hM' hT' => g_startRumour hC hf hAy hBy hR7 hM' hT') ?_
  refine j_i2l dL_startRumour_8 ?_
  refine j_last dL_startRumour_9 sk_140 sn_140 (by decide) (by decide) ?_
  refine j_goto (tgt := 25) dL_startRumour_10 (by decide) ?_
  refine j_iconst (v := nI 0) dL_startRumour_25 nc_iconst_0 ?_
  exact j_iret hM dL_startRumour_26 rfl hT

set_option maxHeartbeats 4000000 in
set_option maxRecDepth 100000 in
theorem we_startRumour_2 {sx : Nat → jv_S} {g : jv_G} {X : jv_X} {T : jv_T} {n : Nat} {V : Nat → Nat → Int32} {L : Nat → Nat → Int64} {k z : Nat} {N K R : Nat} (hC : Ct V N K R) {f : Int32} {y : Int32} (hx : f < 0 ∨ nI N ≤ f) (hk : 1 ≤ k) (hz : 6 ≤ z) (hM : jv_M g X T) (hT : ∀ n', n ≤ n' → T (.inl (some (.int (nI 1)))) n' (SH sx) V L) : jv_J g X I_L_startRumour 0 [some (jv_r g 0), some (.int f), some (.int y), some (jv_r g 140), none] [] n (SH sx) V L k z := by
  refine j_aload_n_3 dL_startRumour_0 ?_
  refine j_iconst (v := nI 0) dL_startRumour_1 nc_iconst_0 ?_
  refine j_aload_n_0 dL_startRumour_2 ?_
  refine j_iload_n_1 dL_startRumour_3 ?_
  refine j_iload_n_2 dL_startRumour_4 ?_
  refine X_L_40 (n1 := 0) (sh1 := fun _ => (0, 0, fun _ => none)) (V1 := fun _ _ => 0) (L1 := fun _ _ => 0) rfl (by decide) dL_startRumour_5 sk_0 (Nat.le_of_ble_eq_true rfl) (show 1 + 0 ≤ k from hk) (show 6 + 0 ≤ z from hz) (fun _ _ hM' hT' => e_startRumour_2 hC hx (Nat.le_refl 1) (Nat.le_refl 6) hM' hT') (fun n' hn' => ?_)
  refine j_catch (by decide +kernel) [] (0, 10, 13, 19) [(0, 10, 17, 13), (0, 10, 21, 35)] rfl (fun y hy => absurd hy List.not_mem_nil) (by decide) (by decide) (by decide) (show Cond.classLink RL 19 "java/lang/IndexOutOfBoundsException" ∈ jv_gw from jv_gwm 581 (by decide +kernel) rfl) (fun q => ?_)
  refine j_exst (I := I_L_startRumour) (i := 4) (v := none) dL_startRumour_13 (by decide) (jok (j0 := 3) rfl rfl) ?_
  refine j_iconst (v := nI 1) dL_startRumour_15 nc_iconst_1 ?_
  exact j_iret hM dL_startRumour_16 rfl (hT n' hn')

set_option maxHeartbeats 4000000 in
set_option maxRecDepth 100000 in
theorem we_startRumour_9 {sx : Nat → jv_S} {g : jv_G} {X : jv_X} {T : jv_T} {n : Nat} {V : Nat → Nat → Int32} {L : Nat → Nat → Int64} {k z : Nat} {N K R : Nat} (hC : Ct V N K R) {f : Nat} (hf : (f < N)) {y : Int32} (hx : y < nI 1 ∨ nI 20 < y) (hk : 1 ≤ k) (hz : 6 ≤ z) (hM : jv_M g X T) (hT : ∀ n', n ≤ n' → T (.inl (some (.int (nI 2)))) n' (SH sx) V L) : jv_J g X I_L_startRumour 0 [some (jv_r g 0), some (.int (nI f)), some (.int y), some (jv_r g 140), none] [] n (SH sx) V L k z := by
  refine j_aload_n_3 dL_startRumour_0 ?_
  refine j_iconst (v := nI 0) dL_startRumour_1 nc_iconst_0 ?_
  refine j_aload_n_0 dL_startRumour_2 ?_
  refine j_iload_n_1 dL_startRumour_3 ?_
  refine j_iload_n_2 dL_startRumour_4 ?_
  refine X_L_40 (n1 := 0) (sh1 := fun _ => (0, 0, fun _ => none)) (V1 := fun _ _ => 0) (L1 := fun _ _ => 0) rfl (by decide) dL_startRumour_5 sk_0 (Nat.le_of_ble_eq_true rfl) (show 1 + 0 ≤ k from hk) (show 6 + 0 ≤ z from hz) (fun _ _ hM' hT' => e_startRumour_9 hC hf hx (Nat.le_refl 1) (Nat.le_refl 6) hM' hT') (fun n' hn' => ?_)
  refine j_catch (by decide +kernel) [(0, 10, 13, 19)] (0, 10, 17, 13) [(0, 10, 21, 35)] rfl (List.forall_mem_cons.mpr ⟨⟨by decide, "java/lang/IndexOutOfBoundsException", by decide +kernel, by decide, (show Cond.classLink RL 19 "java/lang/IndexOutOfBoundsException" ∈ jv_gw from jv_gwm 581 (by decide +kernel) rfl)⟩, fun y hy => absurd hy List.not_mem_nil⟩) (by decide) (by decide) (by decide) (show Cond.classLink RL 13 "java/lang/IllegalArgumentException" ∈ jv_gw from jv_gwm 553 (by decide +kernel) rfl) (fun q => ?_)
  refine j_exst (I := I_L_startRumour) (i := 4) (v := none) dL_startRumour_17 (by decide) (jok (j0 := 3) rfl rfl) ?_
  refine j_iconst (v := nI 2) dL_startRumour_19 nc_iconst_2 ?_
  exact j_iret hM dL_startRumour_20 rfl (hT n' hn')

set_option maxHeartbeats 4000000 in
set_option maxRecDepth 100000 in
theorem we_startRumour_18 {sx : Nat → jv_S} {g : jv_G} {X : jv_X} {T : jv_T} {n : Nat} {V : Nat → Nat → Int32} {L : Nat → Nat → Int64} {k z : Nat} {N K R : Nat} (hC : Ct V N K R) {f : Nat} (hf : f < N) {y : Int32} (hA : ¬ y < nI 1) (hB : y ≤ nI 20) (hR7 : 8 ≤ R) (hk : 1 ≤ k) (hz : 6 ≤ z) (hM : jv_M g X T) (hT : ∀ n', n ≤ n' → T (.inl (some (.int (nI 3)))) n' (SH sx) V L) : jv_J g X I_L_startRumour 0 [some (jv_r g 0), some (.int (nI f)), some (.int y), some (jv_r g 140), none] [] n (SH sx) V L k z := by
  refine j_aload_n_3 dL_startRumour_0 ?_
  refine j_iconst (v := nI 0) dL_startRumour_1 nc_iconst_0 ?_
  refine j_aload_n_0 dL_startRumour_2 ?_
  refine j_iload_n_1 dL_startRumour_3 ?_
  refine j_iload_n_2 dL_startRumour_4 ?_
  refine X_L_40 (n1 := 0) (sh1 := fun _ => (0, 0, fun _ => none)) (V1 := fun _ _ => 0) (L1 := fun _ _ => 0) rfl (by decide) dL_startRumour_5 sk_0 (Nat.le_of_ble_eq_true rfl) (show 1 + 0 ≤ k from hk) (show 6 + 0 ≤ z from hz) (fun _ _ hM' hT' => e_startRumour_18 hC hf hA hB hR7 (Nat.le_refl 1) (Nat.le_refl 6) hM' hT') (fun n' hn' => ?_)
  refine j_catch (by decide +kernel) [(0, 10, 13, 19), (0, 10, 17, 13)] (0, 10, 21, 35) [] rfl (List.forall_mem_cons.mpr ⟨⟨by decide, "java/lang/IndexOutOfBoundsException", by decide +kernel, by decide, (show Cond.classLink RL 19 "java/lang/IndexOutOfBoundsException" ∈ jv_gw from jv_gwm 581 (by decide +kernel) rfl)⟩, List.forall_mem_cons.mpr ⟨⟨by decide, "java/lang/IllegalArgumentException", by decide +kernel, by decide, (show Cond.classLink RL 13 "java/lang/IllegalArgumentException" ∈ jv_gw from jv_gwm 553 (by decide +kernel) rfl)⟩, fun y hy => absurd hy List.not_mem_nil⟩⟩) (by decide) (by decide) (by decide) (show Cond.classLink RL 35 "java/lang/IllegalStateException" ∈ jv_gw from jv_gwm 611 (by decide +kernel) rfl) (fun q => ?_)
  refine j_exst (I := I_L_startRumour) (i := 4) (v := none) dL_startRumour_21 (by decide) (jok (j0 := 3) rfl rfl) ?_
  refine j_iconst (v := nI 3) dL_startRumour_23 nc_iconst_3 ?_
  exact j_iret hM dL_startRumour_24 rfl (hT n' hn')

set_option maxHeartbeats 4000000 in
set_option maxRecDepth 100000 in
theorem wg_startDenial {sx : Nat → jv_S} {g : jv_G} {X : jv_X} {T : jv_T} {n : Nat} {V : Nat → Nat → Int32} {L : Nat → Nat → Int64} {k z : Nat} {N K R : Nat} (hC : Ct V N K R) {j f : Nat} (hj : j < R) (hf : f < N) (hS : ¬ V (43 + 10 * j + 1) f = nI 2) (hM : jv_M g X T) (hT : T (.inl (some (.int (nI 0)))) n (SH sx) (brD V (43 + 10 * j) f (V 0 5)) (jv_UL L 140 0 ((hdB V (43 + 10 * j) f : Int32).toInt64))) : jv_J g X I_L_startDenial 0 [some (jv_r g 0), some (.int (nI j)), some (.int (nI f)), some (jv_r g 140), none] [] n (SH sx) V L k z := by
  refine j_aload_n_3 dL_startDenial_0 ?_
  refine j_iconst (v := nI 0) dL_startDenial_1 nc_iconst_0 ?_
  refine j_aload_n_0 dL_startDenial_2 ?_
  refine j_iload_n_1 dL_startDenial_3 ?_
  refine j_iload_n_2 dL_startDenial_4 ?_
  refine C_L_43 rfl (by decide) dL_startDenial_5 sk_0 (Nat.le_of_ble_eq_true rfl) (Nat.le_of_eq (Nat.zero_add _)) (Nat.le_of_eq (Nat.zero_add _)) (fun _ _ hM' hT' => g_startDenial hC hj hf hS hM' hT') ?_
  refine j_i2l dL_startDenial_8 ?_
  refine j_last dL_startDenial_9 sk_140 sn_140 (by decide) (by decide) ?_
  refine j_goto (tgt := 21) dL_startDenial_10 (by decide) ?_
  refine j_iconst (v := nI 0) dL_startDenial_21 nc_iconst_0 ?_
  exact j_iret hM dL_startDenial_22 rfl hT

set_option maxHeartbeats 4000000 in
set_option maxRecDepth 100000 in
theorem we_startDenial_24 {sx : Nat → jv_S} {g : jv_G} {X : jv_X} {T : jv_T} {n : Nat} {V : Nat → Nat → Int32} {L : Nat → Nat → Int64} {k z : Nat} {N K R : Nat} (hC : Ct V N K R) {j f : Nat} (hj : j < R) (hf : f < N) (hS : V (43 + 10 * j + 1) f = nI 2) (hk : 1 ≤ k) (hz : 6 ≤ z) (hM : jv_M g X T) (hT : ∀ n', n ≤ n' → T (.inl (some (.int (nI 2)))) n' (SH sx) V L) : jv_J g X I_L_startDenial 0 [some (jv_r g 0), some (.int (nI j)), some (.int (nI f)), some (jv_r g 140), none] [] n (SH sx) V L k z := by
  refine j_aload_n_3 dL_startDenial_0 ?_
  refine j_iconst (v := nI 0) dL_startDenial_1 nc_iconst_0 ?_
  refine j_aload_n_0 dL_startDenial_2 ?_
  refine j_iload_n_1 dL_startDenial_3 ?_
  refine j_iload_n_2 dL_startDenial_4 ?_
  refine X_L_43 (n1 := 0) (sh1 := fun _ => (0, 0, fun _ => none)) (V1 := fun _ _ => 0) (L1 := fun _ _ => 0) rfl (by decide) dL_startDenial_5 sk_0 (Nat.le_of_ble_eq_true rfl) (show 1 + 0 ≤ k from hk) (show 6 + 0 ≤ z from hz) (fun _ _ hM' hT' => e_startDenial_24 hC hj hf hS (Nat.le_refl 1) (Nat.le_refl 6) hM' hT') (fun n' hn' => ?_)
  refine j_catch (by decide +kernel) [(0, 10, 13, 19)] (0, 10, 17, 35) [] rfl (List.forall_mem_cons.mpr ⟨⟨by decide, "java/lang/IndexOutOfBoundsException", by decide +kernel, by decide, (show Cond.classLink RL 19 "java/lang/IndexOutOfBoundsException" ∈ jv_gw from jv_gwm 581 (by decide +kernel) rfl)⟩, fun y hy => absurd hy List.not_mem_nil⟩) (by decide) (by decide) (by decide) (show Cond.classLink RL 35 "java/lang/IllegalStateException" ∈ jv_gw from jv_gwm 611 (by decide +kernel) rfl) (fun q => ?_)
  refine j_exst (I := I_L_startDenial) (i := 4) (v := none) dL_startDenial_17 (by decide) (jok (j0 := 3) rfl rfl) ?_
  refine j_iconst (v := nI 2) dL_startDenial_19 nc_iconst_2 ?_
  exact j_iret hM dL_startDenial_20 rfl (hT n' hn')

set_option maxHeartbeats 4000000 in
set_option maxRecDepth 100000 in
theorem we_startDenial_2 {sx : Nat → jv_S} {g : jv_G} {X : jv_X} {T : jv_T} {n : Nat} {V : Nat → Nat → Int32} {L : Nat → Nat → Int64} {k z : Nat} {N K R : Nat} (hC : Ct V N K R) {j : Int32} {f : Int32} (hx : j < 0 ∨ nI R ≤ j) (hk : 1 ≤ k) (hz : 6 ≤ z) (hM : jv_M g X T) (hT : ∀ n', n ≤ n' → T (.inl (some (.int (nI 1)))) n' (SH sx) V L) : jv_J g X I_L_startDenial 0 [some (jv_r g 0), some (.int j), some (.int f), some (jv_r g 140), none] [] n (SH sx) V L k z := by
  refine j_aload_n_3 dL_startDenial_0 ?_
  refine j_iconst (v := nI 0) dL_startDenial_1 nc_iconst_0 ?_
  refine j_aload_n_0 dL_startDenial_2 ?_
  refine j_iload_n_1 dL_startDenial_3 ?_
  refine j_iload_n_2 dL_startDenial_4 ?_
  refine X_L_43 (n1 := 0) (sh1 := fun _ => (0, 0, fun _ => none)) (V1 := fun _ _ => 0) (L1 := fun _ _ => 0) rfl (by decide) dL_startDenial_5 sk_0 (Nat.le_of_ble_eq_true rfl) (show 1 + 0 ≤ k from hk) (show 6 + 0 ≤ z from hz) (fun _ _ hM' hT' => e_startDenial_2 hC hx (Nat.le_refl 1) (Nat.le_refl 6) hM' hT') (fun n' hn' => ?_)
  refine j_catch (by decide +kernel) [] (0, 10, 13, 19) [(0, 10, 17, 35)] rfl (fun y hy => absurd hy List.not_mem_nil) (by decide) (by decide) (by decide) (show Cond.classLink RL 19 "java/lang/IndexOutOfBoundsException" ∈ jv_gw from jv_gwm 581 (by decide +kernel) rfl) (fun q => ?_)
  refine j_exst (I := I_L_startDenial) (i := 4) (v := none) dL_startDenial_13 (by decide) (jok (j0 := 3) rfl rfl) ?_
  refine j_iconst (v := nI 1) dL_startDenial_15 nc_iconst_1 ?_
  exact j_iret hM dL_startDenial_16 rfl (hT n' hn')

set_option maxHeartbeats 4000000 in
set_option maxRecDepth 100000 in
theorem we_startDenial_7 {sx : Nat → jv_S} {g : jv_G} {X : jv_X} {T : jv_T} {n : Nat} {V : Nat → Nat → Int32} {L : Nat → Nat → Int64} {k z : Nat} {N K R : Nat} (hC : Ct V N K R) {j : Nat} (hj : (j < R)) {f : Int32} (hx : f < 0 ∨ nI N ≤ f) (hk : 1 ≤ k) (hz : 6 ≤ z) (hM : jv_M g X T) (hT : ∀ n', n ≤ n' → T (.inl (some (.int (nI 1)))) n' (SH sx) V L) : jv_J g X I_L_startDenial 0 [some (jv_r g 0), some (.int (nI j)), some (.int f), some (jv_r g 140), none] [] n (SH sx) V L k z := by
  refine j_aload_n_3 dL_startDenial_0 ?_
  refine j_iconst (v := nI 0) dL_startDenial_1 nc_iconst_0 ?_
  refine j_aload_n_0 dL_startDenial_2 ?_
  refine j_iload_n_1 dL_startDenial_3 ?_
  refine j_iload_n_2 dL_startDenial_4 ?_
  refine X_L_43 (n1 := 0) (sh1 := fun _ => (0, 0, fun _ => none)) (V1 := fun _ _ => 0) (L1 := fun _ _ => 0) rfl (by decide) dL_startDenial_5 sk_0 (Nat.le_of_ble_eq_true rfl) (show 1 + 0 ≤ k from hk) (show 6 + 0 ≤ z from hz) (fun _ _ hM' hT' => e_startDenial_7 hC hj hx (Nat.le_refl 1) (Nat.le_refl 6) hM' hT') (fun n' hn' => ?_)
  refine j_catch (by decide +kernel) [] (0, 10, 13, 19) [(0, 10, 17, 35)] rfl (fun y hy => absurd hy List.not_mem_nil) (by decide) (by decide) (by decide) (show Cond.classLink RL 19 "java/lang/IndexOutOfBoundsException" ∈ jv_gw from jv_gwm 581 (by decide +kernel) rfl) (fun q => ?_)
  refine j_exst (I := I_L_startDenial) (i := 4) (v := none) dL_startDenial_13 (by decide) (jok (j0 := 3) rfl rfl) ?_
  refine j_iconst (v := nI 1) dL_startDenial_15 nc_iconst_1 ?_
  exact j_iret hM dL_startDenial_16 rfl (hT n' hn')

set_option maxHeartbeats 4000000 in
set_option maxRecDepth 100000 in
theorem wg_passHours {sx : Nat → jv_S} {g : jv_G} {X : jv_X} {T : jv_T} {n : Nat} {V : Nat → Nat → Int32} {L : Nat → Nat → Int64} {k z : Nat} {N K R : Nat} (hC : Ct V N K R) {m : Nat} (hm1 : 1 ≤ m) (hm : m ≤ 60) (hM : jv_M g X T) (hT : T (.inl (some (.int (nI 0)))) n (SH sx) (ouV N R m V) (jv_UL L 140 0 ((ouN N R m V (nI 0) : Int32).toInt64))) : jv_J g X I_L_passHours 0 [some (jv_r g 0), some (.int (nI m)), some (jv_r g 140), none] [] n (SH sx) V L k z := by
  refine j_aload_n_2 dL_passHours_0 ?_
  refine j_iconst (v := nI 0) dL_passHours_1 nc_iconst_0 ?_
  refine j_aload_n_0 dL_passHours_2 ?_
  refine j_iload_n_1 dL_passHours_3 ?_
  refine C_L_46 rfl (by decide) dL_passHours_4 sk_0 (Nat.le_of_ble_eq_true rfl) (Nat.le_of_eq (Nat.zero_add _)) (Nat.le_of_eq (Nat.zero_add _)) (fun _ _ hM' hT' => g_passHours hC hm1 hm hM' hT') ?_
  refine j_i2l dL_passHours_7 ?_
  refine j_last dL_passHours_8 sk_140 sn_140 (by decide) (by decide) ?_
  refine j_goto (tgt := 15) dL_passHours_9 (by decide) ?_
  refine j_iconst (v := nI 0) dL_passHours_15 nc_iconst_0 ?_
  exact j_iret hM dL_passHours_16 rfl hT

set_option maxHeartbeats 4000000 in
set_option maxRecDepth 100000 in
theorem we_passHours_4 {sx : Nat → jv_S} {g : jv_G} {X : jv_X} {T : jv_T} {n : Nat} {V : Nat → Nat → Int32} {L : Nat → Nat → Int64} {k z : Nat} {x : Int32} (hx : x < nI 1 ∨ nI 60 < x) (hk : 1 ≤ k) (hz : 6 ≤ z) (hM : jv_M g X T) (hT : ∀ n', n ≤ n' → T (.inl (some (.int (nI 1)))) n' (SH sx) V L) : jv_J g X I_L_passHours 0 [some (jv_r g 0), some (.int x), some (jv_r g 140), none] [] n (SH sx) V L k z := by
  refine j_aload_n_2 dL_passHours_0 ?_
  refine j_iconst (v := nI 0) dL_passHours_1 nc_iconst_0 ?_
  refine j_aload_n_0 dL_passHours_2 ?_
  refine j_iload_n_1 dL_passHours_3 ?_
  refine X_L_46 (n1 := 0) (sh1 := fun _ => (0, 0, fun _ => none)) (V1 := fun _ _ => 0) (L1 := fun _ _ => 0) rfl (by decide) dL_passHours_4 sk_0 (Nat.le_of_ble_eq_true rfl) (show 1 + 0 ≤ k from hk) (show 6 + 0 ≤ z from hz) (fun _ _ hM' hT' => e_passHours_4 hx (Nat.le_refl 1) (Nat.le_refl 6) hM' hT') (fun n' hn' => ?_)
  refine j_catch (by decide +kernel) [] (0, 9, 12, 13) [] rfl (fun y hy => absurd hy List.not_mem_nil) (by decide) (by decide) (by decide) (show Cond.classLink RL 13 "java/lang/IllegalArgumentException" ∈ jv_gw from jv_gwm 553 (by decide +kernel) rfl) (fun q => ?_)
  refine j_exst_n (I := I_L_passHours) (i := 3) dL_passHours_12 (by decide) (jok (j0 := 2) rfl rfl) ?_
  refine j_iconst (v := nI 1) dL_passHours_13 nc_iconst_1 ?_
  exact j_iret hM dL_passHours_14 rfl (hT n' hn')

set_option maxHeartbeats 4000000 in
set_option maxRecDepth 100000 in
theorem wg_headsOf {sx : Nat → jv_S} {g : jv_G} {X : jv_X} {T : jv_T} {n : Nat} {V : Nat → Nat → Int32} {L : Nat → Nat → Int64} {k z : Nat} {N K R : Nat} (hC : Ct V N K R) {f : Nat} (hf : (f < N)) (hM : jv_M g X T) (hT : T (.inl (some (.int (nI 0)))) n (SH sx) (V) (jv_UL L 140 0 ((V 2 f : Int32).toInt64))) : jv_J g X I_L_headsOf 0 [some (jv_r g 0), some (.int (nI f)), some (jv_r g 140), none] [] n (SH sx) V L k z := by
  refine j_aload_n_2 dL_headsOf_0 ?_
  refine j_iconst (v := nI 0) dL_headsOf_1 nc_iconst_0 ?_
  refine j_aload_n_0 dL_headsOf_2 ?_
  refine j_iload_n_1 dL_headsOf_3 ?_
  refine C_L_49 rfl (by decide) dL_headsOf_4 sk_0 (Nat.le_of_ble_eq_true rfl) (Nat.le_of_eq (Nat.zero_add _)) (Nat.le_of_eq (Nat.zero_add _)) (fun _ _ hM' hT' => g_headsOf hC hf hM' hT') ?_
  refine j_i2l dL_headsOf_7 ?_
  refine j_last dL_headsOf_8 sk_140 sn_140 (by decide) (by decide) ?_
  refine j_goto (tgt := 15) dL_headsOf_9 (by decide) ?_
  refine j_iconst (v := nI 0) dL_headsOf_15 nc_iconst_0 ?_
  exact j_iret hM dL_headsOf_16 rfl hT

set_option maxHeartbeats 4000000 in
set_option maxRecDepth 100000 in
theorem we_headsOf_2 {sx : Nat → jv_S} {g : jv_G} {X : jv_X} {T : jv_T} {n : Nat} {V : Nat → Nat → Int32} {L : Nat → Nat → Int64} {k z : Nat} {N K R : Nat} (hC : Ct V N K R) {f : Int32} (hx : f < 0 ∨ nI N ≤ f) (hk : 1 ≤ k) (hz : 6 ≤ z) (hM : jv_M g X T) (hT : ∀ n', n ≤ n' → T (.inl (some (.int (nI 1)))) n' (SH sx) V L) : jv_J g X I_L_headsOf 0 [some (jv_r g 0), some (.int f), some (jv_r g 140), none] [] n (SH sx) V L k z := by
  refine j_aload_n_2 dL_headsOf_0 ?_
  refine j_iconst (v := nI 0) dL_headsOf_1 nc_iconst_0 ?_
  refine j_aload_n_0 dL_headsOf_2 ?_
  refine j_iload_n_1 dL_headsOf_3 ?_
  refine X_L_49 (n1 := 0) (sh1 := fun _ => (0, 0, fun _ => none)) (V1 := fun _ _ => 0) (L1 := fun _ _ => 0) rfl (by decide) dL_headsOf_4 sk_0 (Nat.le_of_ble_eq_true rfl) (show 1 + 0 ≤ k from hk) (show 6 + 0 ≤ z from hz) (fun _ _ hM' hT' => e_headsOf_2 hC hx (Nat.le_refl 1) (Nat.le_refl 6) hM' hT') (fun n' hn' => ?_)
  refine j_catch (by decide +kernel) [] (0, 9, 12, 19) [] rfl (fun y hy => absurd hy List.not_mem_nil) (by decide) (by decide) (by decide) (show Cond.classLink RL 19 "java/lang/IndexOutOfBoundsException" ∈ jv_gw from jv_gwm 581 (by decide +kernel) rfl) (fun q => ?_)
  refine j_exst_n (I := I_L_headsOf) (i := 3) dL_headsOf_12 (by decide) (jok (j0 := 2) rfl rfl) ?_
  refine j_iconst (v := nI 1) dL_headsOf_13 nc_iconst_1 ?_
  exact j_iret hM dL_headsOf_14 rfl (hT n' hn')

set_option maxHeartbeats 4000000 in
set_option maxRecDepth 100000 in
theorem wg_stayOf {sx : Nat → jv_S} {g : jv_G} {X : jv_X} {T : jv_T} {n : Nat} {V : Nat → Nat → Int32} {L : Nat → Nat → Int64} {k z : Nat} {N K R : Nat} (hC : Ct V N K R) {f : Nat} (hf : (f < N)) (hM : jv_M g X T) (hT : T (.inl (some (.int (nI 0)))) n (SH sx) (V) (jv_UL L 140 0 ((V 3 f : Int32).toInt64))) : jv_J g X I_L_stayOf 0 [some (jv_r g 0), some (.int (nI f)), some (jv_r g 140), none] [] n (SH sx) V L k z := by
  refine j_aload_n_2 dL_stayOf_0 ?_
  refine j_iconst (v := nI 0) dL_stayOf_1 nc_iconst_0 ?_
  refine j_aload_n_0 dL_stayOf_2 ?_
  refine j_iload_n_1 dL_stayOf_3 ?_
  refine C_L_52 rfl (by decide) dL_stayOf_4 sk_0 (Nat.le_of_ble_eq_true rfl) (Nat.le_of_eq (Nat.zero_add _)) (Nat.le_of_eq (Nat.zero_add _)) (fun _ _ hM' hT' => g_stayOf hC hf hM' hT') ?_
  refine j_i2l dL_stayOf_7 ?_
  refine j_last dL_stayOf_8 sk_140 sn_140 (by decide) (by decide) ?_
  refine j_goto (tgt := 15) dL_stayOf_9 (by decide) ?_
  refine j_iconst (v := nI 0) dL_stayOf_15 nc_iconst_0 ?_
  exact j_iret hM dL_stayOf_16 rfl hT

set_option maxHeartbeats 4000000 in
set_option maxRecDepth 100000 in
theorem we_stayOf_2 {sx : Nat → jv_S} {g : jv_G} {X : jv_X} {T : jv_T} {n : Nat} {V : Nat → Nat → Int32} {L : Nat → Nat → Int64} {k z : Nat} {N K R : Nat} (hC : Ct V N K R) {f : Int32} (hx : f < 0 ∨ nI N ≤ f) (hk : 1 ≤ k) (hz : 6 ≤ z) (hM : jv_M g X T) (hT : ∀ n', n ≤ n' → T (.inl (some (.int (nI 1)))) n' (SH sx) V L) : jv_J g X I_L_stayOf 0 [some (jv_r g 0), some (.int f), some (jv_r g 140), none] [] n (SH sx) V L k z := by
  refine j_aload_n_2 dL_stayOf_0 ?_
  refine j_iconst (v := nI 0) dL_stayOf_1 nc_iconst_0 ?_
  refine j_aload_n_0 dL_stayOf_2 ?_
  refine j_iload_n_1 dL_stayOf_3 ?_
  refine X_L_52 (n1 := 0) (sh1 := fun _ => (0, 0, fun _ => none)) (V1 := fun _ _ => 0) (L1 := fun _ _ => 0) rfl (by decide) dL_stayOf_4 sk_0 (Nat.le_of_ble_eq_true rfl) (show 1 + 0 ≤ k from hk) (show 6 + 0 ≤ z from hz) (fun _ _ hM' hT' => e_stayOf_2 hC hx (Nat.le_refl 1) (Nat.le_refl 6) hM' hT') (fun n' hn' => ?_)
  refine j_catch (by decide +kernel) [] (0, 9, 12, 19) [] rfl (fun y hy => absurd hy List.not_mem_nil) (by decide) (by decide) (by decide) (show Cond.classLink RL 19 "java/lang/IndexOutOfBoundsException" ∈ jv_gw from jv_gwm 581 (by decide +kernel) rfl) (fun q => ?_)
  refine j_exst_n (I := I_L_stayOf) (i := 3) dL_stayOf_12 (by decide) (jok (j0 := 2) rfl rfl) ?_
  refine j_iconst (v := nI 1) dL_stayOf_13 nc_iconst_1 ?_
  exact j_iret hM dL_stayOf_14 rfl (hT n' hn')

set_option maxHeartbeats 4000000 in
set_option maxRecDepth 100000 in
theorem wg_stairsOf {sx : Nat → jv_S} {g : jv_G} {X : jv_X} {T : jv_T} {n : Nat} {V : Nat → Nat → Int32} {L : Nat → Nat → Int64} {k z : Nat} {N K R : Nat} (hC : Ct V N K R) {f : Nat} (hf : (f + 1 < N)) (hM : jv_M g X T) (hT : T (.inl (some (.int (nI 0)))) n (SH sx) (V) (jv_UL L 140 0 ((V 4 f : Int32).toInt64))) : jv_J g X I_L_stairsOf 0 [some (jv_r g 0), some (.int (nI f)), some (jv_r g 140), none] [] n (SH sx) V L k z := by
  refine j_aload_n_2 dL_stairsOf_0 ?_
  refine j_iconst (v := nI 0) dL_stairsOf_1 nc_iconst_0 ?_
  refine j_aload_n_0 dL_stairsOf_2 ?_
  refine j_iload_n_1 dL_stairsOf_3 ?_
  refine C_L_55 rfl (by decide) dL_stairsOf_4 sk_0 (Nat.le_of_ble_eq_true rfl) (Nat.le_of_eq (Nat.zero_add _)) (Nat.le_of_eq (Nat.zero_add _)) (fun _ _ hM' hT' => g_stairsOf hC hf hM' hT') ?_
  refine j_i2l dL_stairsOf_7 ?_
  refine j_last dL_stairsOf_8 sk_140 sn_140 (by decide) (by decide) ?_
  refine j_goto (tgt := 15) dL_stairsOf_9 (by decide) ?_
  refine j_iconst (v := nI 0) dL_stairsOf_15 nc_iconst_0 ?_
  exact j_iret hM dL_stairsOf_16 rfl hT

set_option maxHeartbeats 4000000 in
set_option maxRecDepth 100000 in
theorem we_stairsOf_2 {sx : Nat → jv_S} {g : jv_G} {X : jv_X} {T : jv_T} {n : Nat} {V : Nat → Nat → Int32} {L : Nat → Nat → Int64} {k z : Nat} {N K R : Nat} (hC : Ct V N K R) {f : Int32} (hx : f < 0 ∨ nI (N - 1) ≤ f) (hk : 1 ≤ k) (hz : 6 ≤ z) (hM : jv_M g X T) (hT : ∀ n', n ≤ n' → T (.inl (some (.int (nI 1)))) n' (SH sx) V L) : jv_J g X I_L_stairsOf 0 [some (jv_r g 0), some (.int f), some (jv_r g 140), none] [] n (SH sx) V L k z := by
  refine j_aload_n_2 dL_stairsOf_0 ?_
  refine j_iconst (v := nI 0) dL_stairsOf_1 nc_iconst_0 ?_
  refine j_aload_n_0 dL_stairsOf_2 ?_
  refine j_iload_n_1 dL_stairsOf_3 ?_
  refine X_L_55 (n1 := 0) (sh1 := fun _ => (0, 0, fun _ => none)) (V1 := fun _ _ => 0) (L1 := fun _ _ => 0) rfl (by decide) dL_stairsOf_4 sk_0 (Nat.le_of_ble_eq_true rfl) (show 1 + 0 ≤ k from hk) (show 6 + 0 ≤ z from hz) (fun _ _ hM' hT' => e_stairsOf_2 hC hx (Nat.le_refl 1) (Nat.le_refl 6) hM' hT') (fun n' hn' => ?_)
  refine j_catch (by decide +kernel) [] (0, 9, 12, 19) [] rfl (fun y hy => absurd hy List.not_mem_nil) (by decide) (by decide) (by decide) (show Cond.classLink RL 19 "java/lang/IndexOutOfBoundsException" ∈ jv_gw from jv_gwm 581 (by decide +kernel) rfl) (fun q => ?_)
  refine j_exst_n (I := I_L_stairsOf) (i := 3) dL_stairsOf_12 (by decide) (jok (j0 := 2) rfl rfl) ?_
  refine j_iconst (v := nI 1) dL_stairsOf_13 nc_iconst_1 ?_
  exact j_iret hM dL_stairsOf_14 rfl (hT n' hn')

set_option maxHeartbeats 4000000 in
set_option maxRecDepth 100000 in
theorem wg_isOpen {sx : Nat → jv_S} {g : jv_G} {X : jv_X} {T : jv_T} {n : Nat} {V : Nat → Nat → Int32} {L : Nat → Nat → Int64} {k z : Nat} {N K R : Nat} (hC : Ct V N K R) {f : Nat} (hf : (f + 1 < N)) (hx : V 5 f = 0 ∨ V 5 f = 1) (hM : jv_M g X T) (hT : T (.inl (some (.int (nI 0)))) n (SH sx) (V) (jv_UL L 140 0 (if V 5 f = 0 then 0 else 1))) : jv_J g X I_L_isOpen 0 [some (jv_r g 0), some (.int (nI f)), some (jv_r g 140), none] [] n (SH sx) V L k z := by
  refine j_aload_n_2 dL_isOpen_0 ?_
  refine j_iconst (v := nI 0) dL_isOpen_1 nc_iconst_0 ?_
  refine j_aload_n_0 dL_isOpen_2 ?_
  refine j_iload_n_1 dL_isOpen_3 ?_
  refine C_L_58 rfl (by decide) dL_isOpen_4 sk_0 (Nat.le_of_ble_eq_true rfl) (Nat.le_of_eq (Nat.zero_add _)) (Nat.le_of_eq (Nat.zero_add _)) (fun _ _ hM' hT' => g_isOpen hC hf hx hM' hT') ?_
  refine j_if_eq (tgt := 14) dL_isOpen_7 (by decide) (fun h7 => ?_) (fun h7 => ?_)
  · refine j_lconst dL_isOpen_14 rfl ?_
    refine j_topl (y := if V 5 f = 0 then 0 else 1) (by rw [if_pos h7]; rfl) ?_
    refine j_last dL_isOpen_15 sk_140 sn_140 (by decide) (by decide) ?_
    refine j_goto (tgt := 22) dL_isOpen_16 (by decide) ?_
    refine j_iconst (v := nI 0) dL_isOpen_22 nc_iconst_0 ?_
    exact j_iret hM dL_isOpen_23 rfl hT
  · refine j_lconst dL_isOpen_10 rfl ?_
    refine j_goto (tgt := 15) dL_isOpen_11 (by decide) ?_
    refine j_topl (y := if V 5 f = 0 then 0 else 1) (by rw [if_neg h7]; rfl) ?_
    refine j_last dL_isOpen_15 sk_140 sn_140 (by decide) (by decide) ?_
    refine j_goto (tgt := 22) dL_isOpen_16 (by decide) ?_
    refine j_iconst (v := nI 0) dL_isOpen_22 nc_iconst_0 ?_
    exact j_iret hM dL_isOpen_23 rfl hT

set_option maxHeartbeats 4000000 in
set_option maxRecDepth 100000 in
theorem we_isOpen_2 {sx : Nat → jv_S} {g : jv_G} {X : jv_X} {T : jv_T} {n : Nat} {V : Nat → Nat → Int32} {L : Nat → Nat → Int64} {k z : Nat} {N K R : Nat} (hC : Ct V N K R) {f : Int32} (hx : f < 0 ∨ nI (N - 1) ≤ f) (hk : 1 ≤ k) (hz : 6 ≤ z) (hM : jv_M g X T) (hT : ∀ n', n ≤ n' → T (.inl (some (.int (nI 1)))) n' (SH sx) V L) : jv_J g X I_L_isOpen 0 [some (jv_r g 0), some (.int f), some (jv_r g 140), none] [] n (SH sx) V L k z := by
  refine j_aload_n_2 dL_isOpen_0 ?_
  refine j_iconst (v := nI 0) dL_isOpen_1 nc_iconst_0 ?_
  refine j_aload_n_0 dL_isOpen_2 ?_
  refine j_iload_n_1 dL_isOpen_3 ?_
  refine X_L_58 (n1 := 0) (sh1 := fun _ => (0, 0, fun _ => none)) (V1 := fun _ _ => 0) (L1 := fun _ _ => 0) rfl (by decide) dL_isOpen_4 sk_0 (Nat.le_of_ble_eq_true rfl) (show 1 + 0 ≤ k from hk) (show 6 + 0 ≤ z from hz) (fun _ _ hM' hT' => e_isOpen_2 hC hx (Nat.le_refl 1) (Nat.le_refl 6) hM' hT') (fun n' hn' => ?_)
  refine j_catch (by decide +kernel) [] (0, 16, 19, 19) [] rfl (fun y hy => absurd hy List.not_mem_nil) (by decide) (by decide) (by decide) (show Cond.classLink RL 19 "java/lang/IndexOutOfBoundsException" ∈ jv_gw from jv_gwm 581 (by decide +kernel) rfl) (fun q => ?_)
  refine j_exst_n (I := I_L_isOpen) (i := 3) dL_isOpen_19 (by decide) (jok (j0 := 2) rfl rfl) ?_
  refine j_iconst (v := nI 1) dL_isOpen_20 nc_iconst_1 ?_
  exact j_iret hM dL_isOpen_21 rfl (hT n' hn')

set_option maxHeartbeats 4000000 in
set_option maxRecDepth 100000 in
theorem wg_runs {sx : Nat → jv_S} {g : jv_G} {X : jv_X} {T : jv_T} {n : Nat} {V : Nat → Nat → Int32} {L : Nat → Nat → Int64} {k z : Nat} {N K R : Nat} (hC : Ct V N K R) {l : Nat} (hl : (l < K)) (hx : V (20 + 2 * l) 0 = 0 ∨ V (20 + 2 * l) 0 = 1) (hM : jv_M g X T) (hT : T (.inl (some (.int (nI 0)))) n (SH sx) (V) (jv_UL L 140 0 (if V (20 + 2 * l) 0 = 0 then 0 else 1))) : jv_J g X I_L_runs 0 [some (jv_r g 0), some (.int (nI l)), some (jv_r g 140), none] [] n (SH sx) V L k z := by
  refine j_aload_n_2 dL_runs_0 ?_
  refine j_iconst (v := nI 0) dL_runs_1 nc_iconst_0 ?_
  refine j_aload_n_0 dL_runs_2 ?_
  refine j_iload_n_1 dL_runs_3 ?_
  refine C_L_61 rfl (by decide) dL_runs_4 sk_0 (Nat.le_of_ble_eq_true rfl) (Nat.le_of_eq (Nat.zero_add _)) (Nat.le_of_eq (Nat.zero_add _)) (fun _ _ hM' hT' => g_runs hC hl hx hM' hT') ?_
  refine j_if_eq (tgt := 14) dL_runs_7 (by decide) (fun h7 => ?_) (fun h7 => ?_)
  · refine j_lconst dL_runs_14 rfl ?_
    refine j_topl (y := if V (20 + 2 * l) 0 = 0 then 0 else 1) (by rw [if_pos h7]; rfl) ?_
    refine j_last dL_runs_15 sk_140 sn_140 (by decide) (by decide) ?_
    refine j_goto (tgt := 22) dL_runs_16 (by decide) ?_
    refine j_iconst (v := nI 0) dL_runs_22 nc_iconst_0 ?_
    exact j_iret hM dL_runs_23 rfl hT
  · refine j_lconst dL_runs_10 rfl ?_
    refine j_goto (tgt := 15) dL_runs_11 (by decide) ?_
    refine j_topl (y := if V (20 + 2 * l) 0 = 0 then 0 else 1) (by rw [if_neg h7]; rfl) ?_
    refine j_last dL_runs_15 sk_140 sn_140 (by decide) (by decide) ?_
    refine j_goto (tgt := 22) dL_runs_16 (by decide) ?_
    refine j_iconst (v := nI 0) dL_runs_22 nc_iconst_0 ?_
    exact j_iret hM dL_runs_23 rfl hT

set_option maxHeartbeats 4000000 in
set_option maxRecDepth 100000 in
theorem we_runs_2 {sx : Nat → jv_S} {g : jv_G} {X : jv_X} {T : jv_T} {n : Nat} {V : Nat → Nat → Int32} {L : Nat → Nat → Int64} {k z : Nat} {N K R : Nat} (hC : Ct V N K R) {l : Int32} (hx : l < 0 ∨ nI K ≤ l) (hk : 1 ≤ k) (hz : 6 ≤ z) (hM : jv_M g X T) (hT : ∀ n', n ≤ n' → T (.inl (some (.int (nI 1)))) n' (SH sx) V L) : jv_J g X I_L_runs 0 [some (jv_r g 0), some (.int l), some (jv_r g 140), none] [] n (SH sx) V L k z := by
  refine j_aload_n_2 dL_runs_0 ?_
  refine j_iconst (v := nI 0) dL_runs_1 nc_iconst_0 ?_
  refine j_aload_n_0 dL_runs_2 ?_
  refine j_iload_n_1 dL_runs_3 ?_
  refine X_L_61 (n1 := 0) (sh1 := fun _ => (0, 0, fun _ => none)) (V1 := fun _ _ => 0) (L1 := fun _ _ => 0) rfl (by decide) dL_runs_4 sk_0 (Nat.le_of_ble_eq_true rfl) (show 1 + 0 ≤ k from hk) (show 6 + 0 ≤ z from hz) (fun _ _ hM' hT' => e_runs_2 hC hx (Nat.le_refl 1) (Nat.le_refl 6) hM' hT') (fun n' hn' => ?_)
  refine j_catch (by decide +kernel) [] (0, 16, 19, 19) [] rfl (fun y hy => absurd hy List.not_mem_nil) (by decide) (by decide) (by decide) (show Cond.classLink RL 19 "java/lang/IndexOutOfBoundsException" ∈ jv_gw from jv_gwm 581 (by decide +kernel) rfl) (fun q => ?_)
  refine j_exst_n (I := I_L_runs) (i := 3) dL_runs_19 (by decide) (jok (j0 := 2) rfl rfl) ?_
  refine j_iconst (v := nI 1) dL_runs_20 nc_iconst_1 ?_
  exact j_iret hM dL_runs_21 rfl (hT n' hn')

set_option maxHeartbeats 4000000 in
set_option maxRecDepth 100000 in
theorem wg_serves {sx : Nat → jv_S} {g : jv_G} {X : jv_X} {T : jv_T} {n : Nat} {V : Nat → Nat → Int32} {L : Nat → Nat → Int64} {k z : Nat} {N K R : Nat} (hC : Ct V N K R) {l : Nat} (hl : (l < K)) {f : Nat} (hf : (f < N)) (hx : V (20 + 2 * l + 1) f = 0 ∨ V (20 + 2 * l + 1) f = 1) (hM : jv_M g X T) (hT : T (.inl (some (.int (nI 0)))) n (SH sx) (V) (jv_UL L 140 0 (if V (20 + 2 * l + 1) f = 0 then 0 else 1))) : jv_J g X I_L_serves 0 [some (jv_r g 0), some (.int (nI l)), some (.int (nI f)), some (jv_r g 140), none] [] n (SH sx) V L k z := by
  refine j_aload_n_3 dL_serves_0 ?_
  refine j_iconst (v := nI 0) dL_serves_1 nc_iconst_0 ?_
  refine j_aload_n_0 dL_serves_2 ?_
  refine j_iload_n_1 dL_serves_3 ?_
  refine j_iload_n_2 dL_serves_4 ?_
  refine C_L_64 rfl (by decide) dL_serves_5 sk_0 (Nat.le_of_ble_eq_true rfl) (Nat.le_of_eq (Nat.zero_add _)) (Nat.le_of_eq (Nat.zero_add _)) (fun _ _ hM' hT' => g_serves hC hl hf hx hM' hT') ?_
  refine j_if_eq (tgt := 15) dL_serves_8 (by decide) (fun h8 => ?_) (fun h8 => ?_)
  · refine j_lconst dL_serves_15 rfl ?_
    refine j_topl (y := if V (20 + 2 * l + 1) f = 0 then 0 else 1) (by rw [if_pos h8]; rfl) ?_
    refine j_last dL_serves_16 sk_140 sn_140 (by decide) (by decide) ?_
    refine j_goto (tgt := 24) dL_serves_17 (by decide) ?_
    refine j_iconst (v := nI 0) dL_serves_24 nc_iconst_0 ?_
    exact j_iret hM dL_serves_25 rfl hT
  · refine j_lconst dL_serves_11 rfl ?_
    refine j_goto (tgt := 16) dL_serves_12 (by decide) ?_
    refine j_topl (y := if V (20 + 2 * l + 1) f = 0 then 0 else 1) (by rw [if_neg h8]; rfl) ?_
    refine j_last dL_serves_16 sk_140 sn_140 (by decide) (by decide) ?_
    refine j_goto (tgt := 24) dL_serves_17 (by decide) ?_
    refine j_iconst (v := nI 0) dL_serves_24 nc_iconst_0 ?_
    exact j_iret hM dL_serves_25 rfl hT

set_option maxHeartbeats 4000000 in
set_option maxRecDepth 100000 in
theorem we_serves_2 {sx : Nat → jv_S} {g : jv_G} {X : jv_X} {T : jv_T} {n : Nat} {V : Nat → Nat → Int32} {L : Nat → Nat → Int64} {k z : Nat} {N K R : Nat} (hC : Ct V N K R) {l : Int32} {f : Int32} (hx : l < 0 ∨ nI K ≤ l) (hk : 1 ≤ k) (hz : 6 ≤ z) (hM : jv_M g X T) (hT : ∀ n', n ≤ n' → T (.inl (some (.int (nI 1)))) n' (SH sx) V L) : jv_J g X I_L_serves 0 [some (jv_r g 0), some (.int l), some (.int f), some (jv_r g 140), none] [] n (SH sx) V L k z := by
  refine j_aload_n_3 dL_serves_0 ?_
  refine j_iconst (v := nI 0) dL_serves_1 nc_iconst_0 ?_
  refine j_aload_n_0 dL_serves_2 ?_
  refine j_iload_n_1 dL_serves_3 ?_
  refine j_iload_n_2 dL_serves_4 ?_
  refine X_L_64 (n1 := 0) (sh1 := fun _ => (0, 0, fun _ => none)) (V1 := fun _ _ => 0) (L1 := fun _ _ => 0) rfl (by decide) dL_serves_5 sk_0 (Nat.le_of_ble_eq_true rfl) (show 1 + 0 ≤ k from hk) (show 6 + 0 ≤ z from hz) (fun _ _ hM' hT' => e_serves_2 hC hx (Nat.le_refl 1) (Nat.le_refl 6) hM' hT') (fun n' hn' => ?_)
  refine j_catch (by decide +kernel) [] (0, 17, 20, 19) [] rfl (fun y hy => absurd hy List.not_mem_nil) (by decide) (by decide) (by decide) (show Cond.classLink RL 19 "java/lang/IndexOutOfBoundsException" ∈ jv_gw from jv_gwm 581 (by decide +kernel) rfl) (fun q => ?_)
  refine j_exst (I := I_L_serves) (i := 4) (v := none) dL_serves_20 (by decide) (jok (j0 := 3) rfl rfl) ?_
  refine j_iconst (v := nI 1) dL_serves_22 nc_iconst_1 ?_
  exact j_iret hM dL_serves_23 rfl (hT n' hn')

set_option maxHeartbeats 4000000 in
set_option maxRecDepth 100000 in
theorem we_serves_7 {sx : Nat → jv_S} {g : jv_G} {X : jv_X} {T : jv_T} {n : Nat} {V : Nat → Nat → Int32} {L : Nat → Nat → Int64} {k z : Nat} {N K R : Nat} (hC : Ct V N K R) {l : Nat} (hl : (l < K)) {f : Int32} (hx : f < 0 ∨ nI N ≤ f) (hk : 1 ≤ k) (hz : 6 ≤ z) (hM : jv_M g X T) (hT : ∀ n', n ≤ n' → T (.inl (some (.int (nI 1)))) n' (SH sx) V L) : jv_J g X I_L_serves 0 [some (jv_r g 0), some (.int (nI l)), some (.int f), some (jv_r g 140), none] [] n (SH sx) V L k z := by
  refine j_aload_n_3 dL_serves_0 ?_
  refine j_iconst (v := nI 0) dL_serves_1 nc_iconst_0 ?_
  refine j_aload_n_0 dL_serves_2 ?_
  refine j_iload_n_1 dL_serves_3 ?_
  refine j_iload_n_2 dL_serves_4 ?_
  refine X_L_64 (n1 := 0) (sh1 := fun _ => (0, 0, fun _ => none)) (V1 := fun _ _ => 0) (L1 := fun _ _ => 0) rfl (by decide) dL_serves_5 sk_0 (Nat.le_of_ble_eq_true rfl) (show 1 + 0 ≤ k from hk) (show 6 + 0 ≤ z from hz) (fun _ _ hM' hT' => e_serves_7 hC hl hx (Nat.le_refl 1) (Nat.le_refl 6) hM' hT') (fun n' hn' => ?_)
  refine j_catch (by decide +kernel) [] (0, 17, 20, 19) [] rfl (fun y hy => absurd hy List.not_mem_nil) (by decide) (by decide) (by decide) (show Cond.classLink RL 19 "java/lang/IndexOutOfBoundsException" ∈ jv_gw from jv_gwm 581 (by decide +kernel) rfl) (fun q => ?_)
  refine j_exst (I := I_L_serves) (i := 4) (v := none) dL_serves_20 (by decide) (jok (j0 := 3) rfl rfl) ?_
  refine j_iconst (v := nI 1) dL_serves_22 nc_iconst_1 ?_
  exact j_iret hM dL_serves_23 rfl (hT n' hn')

set_option maxHeartbeats 4000000 in
set_option maxRecDepth 100000 in
theorem wg_pipe {sx : Nat → jv_S} {g : jv_G} {X : jv_X} {T : jv_T} {n : Nat} {V : Nat → Nat → Int32} {L : Nat → Nat → Int64} {k z : Nat} {N K R : Nat} (hC : Ct V N K R) {f : Nat} (hf : (f < N)) {t : Nat} (ht : (t < N)) (hM : jv_M g X T) (hT : T (.inl (some (.int (nI 0)))) n (SH sx) (V) (jv_UL L 140 0 ((V (8 + f) t : Int32).toInt64))) : jv_J g X I_L_pipe 0 [some (jv_r g 0), some (.int (nI f)), some (.int (nI t)), some (jv_r g 140), none] [] n (SH sx) V L k z := by
  refine j_aload_n_3 dL_pipe_0 ?_
  refine j_iconst (v := nI 0) dL_pipe_1 nc_iconst_0 ?_
  refine j_aload_n_0 dL_pipe_2 ?_
  refine j_iload_n_1 dL_pipe_3 ?_
  refine j_iload_n_2 dL_pipe_4 ?_
  refine C_L_68 rfl (by decide) dL_pipe_5 sk_0 (Nat.le_of_ble_eq_true rfl) (Nat.le_of_eq (Nat.zero_add _)) (Nat.le_of_eq (Nat.zero_add _)) (fun _ _ hM' hT' => g_pipe hC hf ht hM' hT') ?_
  refine j_i2l dL_pipe_8 ?_
  refine j_last dL_pipe_9 sk_140 sn_140 (by decide) (by decide) ?_
  refine j_goto (tgt := 17) dL_pipe_10 (by decide) ?_
  refine j_iconst (v := nI 0) dL_pipe_17 nc_iconst_0 ?_
  exact j_iret hM dL_pipe_18 rfl hT

set_option maxHeartbeats 4000000 in
set_option maxRecDepth 100000 in
theorem we_pipe_2 {sx : Nat → jv_S} {g : jv_G} {X : jv_X} {T : jv_T} {n : Nat} {V : Nat → Nat → Int32} {L : Nat → Nat → Int64} {k z : Nat} {N K R : Nat} (hC : Ct V N K R) {f : Int32} {t : Int32} (hx : f < 0 ∨ nI N ≤ f) (hk : 1 ≤ k) (hz : 6 ≤ z) (hM : jv_M g X T) (hT : ∀ n', n ≤ n' → T (.inl (some (.int (nI 1)))) n' (SH sx) V L) : jv_J g X I_L_pipe 0 [some (jv_r g 0), some (.int f), some (.int t), some (jv_r g 140), none] [] n (SH sx) V L k z := by
  refine j_aload_n_3 dL_pipe_0 ?_
  refine j_iconst (v := nI 0) dL_pipe_1 nc_iconst_0 ?_
  refine j_aload_n_0 dL_pipe_2 ?_
  refine j_iload_n_1 dL_pipe_3 ?_
  refine j_iload_n_2 dL_pipe_4 ?_
  refine X_L_68 (n1 := 0) (sh1 := fun _ => (0, 0, fun _ => none)) (V1 := fun _ _ => 0) (L1 := fun _ _ => 0) rfl (by decide) dL_pipe_5 sk_0 (Nat.le_of_ble_eq_true rfl) (show 1 + 0 ≤ k from hk) (show 6 + 0 ≤ z from hz) (fun _ _ hM' hT' => e_pipe_2 hC hx (Nat.le_refl 1) (Nat.le_refl 6) hM' hT') (fun n' hn' => ?_)
  refine j_catch (by decide +kernel) [] (0, 10, 13, 19) [] rfl (fun y hy => absurd hy List.not_mem_nil) (by decide) (by decide) (by decide) (show Cond.classLink RL 19 "java/lang/IndexOutOfBoundsException" ∈ jv_gw from jv_gwm 581 (by decide +kernel) rfl) (fun q => ?_)
  refine j_exst (I := I_L_pipe) (i := 4) (v := none) dL_pipe_13 (by decide) (jok (j0 := 3) rfl rfl) ?_
  refine j_iconst (v := nI 1) dL_pipe_15 nc_iconst_1 ?_
  exact j_iret hM dL_pipe_16 rfl (hT n' hn')

set_option maxHeartbeats 4000000 in
set_option maxRecDepth 100000 in
theorem we_pipe_7 {sx : Nat → jv_S} {g : jv_G} {X : jv_X} {T : jv_T} {n : Nat} {V : Nat → Nat → Int32} {L : Nat → Nat → Int64} {k z : Nat} {N K R : Nat} (hC : Ct V N K R) {f : Nat} (hf : (f < N)) {t : Int32} (hx : t < 0 ∨ nI N ≤ t) (hk : 1 ≤ k) (hz : 6 ≤ z) (hM : jv_M g X T) (hT : ∀ n', n ≤ n' → T (.inl (some (.int (nI 1)))) n' (SH sx) V L) : jv_J g X I_L_pipe 0 [some (jv_r g 0), some (.int (nI f)), some (.int t), some (jv_r g 140), none] [] n (SH sx) V L k z := by
  refine j_aload_n_3 dL_pipe_0 ?_
  refine j_iconst (v := nI 0) dL_pipe_1 nc_iconst_0 ?_
  refine j_aload_n_0 dL_pipe_2 ?_
  refine j_iload_n_1 dL_pipe_3 ?_
  refine j_iload_n_2 dL_pipe_4 ?_
  refine X_L_68 (n1 := 0) (sh1 := fun _ => (0, 0, fun _ => none)) (V1 := fun _ _ => 0) (L1 := fun _ _ => 0) rfl (by decide) dL_pipe_5 sk_0 (Nat.le_of_ble_eq_true rfl) (show 1 + 0 ≤ k from hk) (show 6 + 0 ≤ z from hz) (fun _ _ hM' hT' => e_pipe_7 hC hf hx (Nat.le_refl 1) (Nat.le_refl 6) hM' hT') (fun n' hn' => ?_)
  refine j_catch (by decide +kernel) [] (0, 10, 13, 19) [] rfl (fun y hy => absurd hy List.not_mem_nil) (by decide) (by decide) (by decide) (show Cond.classLink RL 19 "java/lang/IndexOutOfBoundsException" ∈ jv_gw from jv_gwm 581 (by decide +kernel) rfl) (fun q => ?_)
  refine j_exst (I := I_L_pipe) (i := 4) (v := none) dL_pipe_13 (by decide) (jok (j0 := 3) rfl rfl) ?_
  refine j_iconst (v := nI 1) dL_pipe_15 nc_iconst_1 ?_
  exact j_iret hM dL_pipe_16 rfl (hT n' hn')

set_option maxHeartbeats 4000000 in
set_option maxRecDepth 100000 in
theorem wg_originOf {sx : Nat → jv_S} {g : jv_G} {X : jv_X} {T : jv_T} {n : Nat} {V : Nat → Nat → Int32} {L : Nat → Nat → Int64} {k z : Nat} {N K R : Nat} (hC : Ct V N K R) {j : Nat} (hj : (j < R)) (hM : jv_M g X T) (hT : T (.inl (some (.int (nI 0)))) n (SH sx) (V) (jv_UL L 140 0 ((V (43 + 10 * j) 0 : Int32).toInt64))) : jv_J g X I_L_originOf 0 [some (jv_r g 0), some (.int (nI j)), some (jv_r g 140), none] [] n (SH sx) V L k z := by
  refine j_aload_n_2 dL_originOf_0 ?_
  refine j_iconst (v := nI 0) dL_originOf_1 nc_iconst_0 ?_
  refine j_aload_n_0 dL_originOf_2 ?_
  refine j_iload_n_1 dL_originOf_3 ?_
  refine C_L_74 rfl (by decide) dL_originOf_4 sk_0 (Nat.le_of_ble_eq_true rfl) (Nat.le_of_eq (Nat.zero_add _)) (Nat.le_of_eq (Nat.zero_add _)) (fun _ _ hM' hT' => g_originOf hC hj hM' hT') ?_
  refine j_i2l dL_originOf_7 ?_
  refine j_last dL_originOf_8 sk_140 sn_140 (by decide) (by decide) ?_
  refine j_goto (tgt := 15) dL_originOf_9 (by decide) ?_
  refine j_iconst (v := nI 0) dL_originOf_15 nc_iconst_0 ?_
  exact j_iret hM dL_originOf_16 rfl hT

set_option maxHeartbeats 4000000 in
set_option maxRecDepth 100000 in
theorem we_originOf_2 {sx : Nat → jv_S} {g : jv_G} {X : jv_X} {T : jv_T} {n : Nat} {V : Nat → Nat → Int32} {L : Nat → Nat → Int64} {k z : Nat} {N K R : Nat} (hC : Ct V N K R) {j : Int32} (hx : j < 0 ∨ nI R ≤ j) (hk : 1 ≤ k) (hz : 6 ≤ z) (hM : jv_M g X T) (hT : ∀ n', n ≤ n' → T (.inl (some (.int (nI 1)))) n' (SH sx) V L) : jv_J g X I_L_originOf 0 [some (jv_r g 0), some (.int j), some (jv_r g 140), none] [] n (SH sx) V L k z := by
  refine j_aload_n_2 dL_originOf_0 ?_
  refine j_iconst (v := nI 0) dL_originOf_1 nc_iconst_0 ?_
  refine j_aload_n_0 dL_originOf_2 ?_
  refine j_iload_n_1 dL_originOf_3 ?_
  refine X_L_74 (n1 := 0) (sh1 := fun _ => (0, 0, fun _ => none)) (V1 := fun _ _ => 0) (L1 := fun _ _ => 0) rfl (by decide) dL_originOf_4 sk_0 (Nat.le_of_ble_eq_true rfl) (show 1 + 0 ≤ k from hk) (show 6 + 0 ≤ z from hz) (fun _ _ hM' hT' => e_originOf_2 hC hx (Nat.le_refl 1) (Nat.le_refl 6) hM' hT') (fun n' hn' => ?_)
  refine j_catch (by decide +kernel) [] (0, 9, 12, 19) [] rfl (fun y hy => absurd hy List.not_mem_nil) (by decide) (by decide) (by decide) (show Cond.classLink RL 19 "java/lang/IndexOutOfBoundsException" ∈ jv_gw from jv_gwm 581 (by decide +kernel) rfl) (fun q => ?_)
  refine j_exst_n (I := I_L_originOf) (i := 3) dL_originOf_12 (by decide) (jok (j0 := 2) rfl rfl) ?_
  refine j_iconst (v := nI 1) dL_originOf_13 nc_iconst_1 ?_
  exact j_iret hM dL_originOf_14 rfl (hT n' hn')

set_option maxHeartbeats 4000000 in
set_option maxRecDepth 100000 in
theorem wg_reachOf {sx : Nat → jv_S} {g : jv_G} {X : jv_X} {T : jv_T} {n : Nat} {V : Nat → Nat → Int32} {L : Nat → Nat → Int64} {k z : Nat} {N K R : Nat} (hC : Ct V N K R) {j : Nat} (hj : (j < R)) (hM : jv_M g X T) (hT : T (.inl (some (.int (nI 0)))) n (SH sx) (V) (jv_UL L 140 0 ((V (43 + 10 * j) 1 : Int32).toInt64))) : jv_J g X I_L_reachOf 0 [some (jv_r g 0), some (.int (nI j)), some (jv_r g 140), none] [] n (SH sx) V L k z := by
  refine j_aload_n_2 dL_reachOf_0 ?_
  refine j_iconst (v := nI 0) dL_reachOf_1 nc_iconst_0 ?_
  refine j_aload_n_0 dL_reachOf_2 ?_
  refine j_iload_n_1 dL_reachOf_3 ?_
  refine C_L_77 rfl (by decide) dL_reachOf_4 sk_0 (Nat.le_of_ble_eq_true rfl) (Nat.le_of_eq (Nat.zero_add _)) (Nat.le_of_eq (Nat.zero_add _)) (fun _ _ hM' hT' => g_reachOf hC hj hM' hT') ?_
  refine j_i2l dL_reachOf_7 ?_
  refine j_last dL_reachOf_8 sk_140 sn_140 (by decide) (by decide) ?_
  refine j_goto (tgt := 15) dL_reachOf_9 (by decide) ?_
  refine j_iconst (v := nI 0) dL_reachOf_15 nc_iconst_0 ?_
  exact j_iret hM dL_reachOf_16 rfl hT

set_option maxHeartbeats 4000000 in
set_option maxRecDepth 100000 in
theorem we_reachOf_2 {sx : Nat → jv_S} {g : jv_G} {X : jv_X} {T : jv_T} {n : Nat} {V : Nat → Nat → Int32} {L : Nat → Nat → Int64} {k z : Nat} {N K R : Nat} (hC : Ct V N K R) {j : Int32} (hx : j < 0 ∨ nI R ≤ j) (hk : 1 ≤ k) (hz : 6 ≤ z) (hM : jv_M g X T) (hT : ∀ n', n ≤ n' → T (.inl (some (.int (nI 1)))) n' (SH sx) V L) : jv_J g X I_L_reachOf 0 [some (jv_r g 0), some (.int j), some (jv_r g 140), none] [] n (SH sx) V L k z := by
  refine j_aload_n_2 dL_reachOf_0 ?_
  refine j_iconst (v := nI 0) dL_reachOf_1 nc_iconst_0 ?_
  refine j_aload_n_0 dL_reachOf_2 ?_
  refine j_iload_n_1 dL_reachOf_3 ?_
  refine X_L_77 (n1 := 0) (sh1 := fun _ => (0, 0, fun _ => none)) (V1 := fun _ _ => 0) (L1 := fun _ _ => 0) rfl (by decide) dL_reachOf_4 sk_0 (Nat.le_of_ble_eq_true rfl) (show 1 + 0 ≤ k from hk) (show 6 + 0 ≤ z from hz) (fun _ _ hM' hT' => e_reachOf_2 hC hx (Nat.le_refl 1) (Nat.le_refl 6) hM' hT') (fun n' hn' => ?_)
  refine j_catch (by decide +kernel) [] (0, 9, 12, 19) [] rfl (fun y hy => absurd hy List.not_mem_nil) (by decide) (by decide) (by decide) (show Cond.classLink RL 19 "java/lang/IndexOutOfBoundsException" ∈ jv_gw from jv_gwm 581 (by decide +kernel) rfl) (fun q => ?_)
  refine j_exst_n (I := I_L_reachOf) (i := 3) dL_reachOf_12 (by decide) (jok (j0 := 2) rfl rfl) ?_
  refine j_iconst (v := nI 1) dL_reachOf_13 nc_iconst_1 ?_
  exact j_iret hM dL_reachOf_14 rfl (hT n' hn')

set_option maxHeartbeats 4000000 in
set_option maxRecDepth 100000 in
theorem wg_stateOf {sx : Nat → jv_S} {g : jv_G} {X : jv_X} {T : jv_T} {n : Nat} {V : Nat → Nat → Int32} {L : Nat → Nat → Int64} {k z : Nat} {N K R : Nat} (hC : Ct V N K R) {j : Nat} (hj : (j < R)) {f : Nat} (hf : (f < N)) (hM : jv_M g X T) (hT : T (.inl (some (.int (nI 0)))) n (SH sx) (V) (jv_UL L 140 0 ((V (43 + 10 * j + 1) f : Int32).toInt64))) : jv_J g X I_L_stateOf 0 [some (jv_r g 0), some (.int (nI j)), some (.int (nI f)), some (jv_r g 140), none] [] n (SH sx) V L k z := by
  refine j_aload_n_3 dL_stateOf_0 ?_
  refine j_iconst (v := nI 0) dL_stateOf_1 nc_iconst_0 ?_
  refine j_aload_n_0 dL_stateOf_2 ?_
  refine j_iload_n_1 dL_stateOf_3 ?_
  refine j_iload_n_2 dL_stateOf_4 ?_
  refine C_L_80 rfl (by decide) dL_stateOf_5 sk_0 (Nat.le_of_ble_eq_true rfl) (Nat.le_of_eq (Nat.zero_add _)) (Nat.le_of_eq (Nat.zero_add _)) (fun _ _ hM' hT' => g_stateOf hC hj hf hM' hT') ?_
  refine j_i2l dL_stateOf_8 ?_
  refine j_last dL_stateOf_9 sk_140 sn_140 (by decide) (by decide) ?_
  refine j_goto (tgt := 17) dL_stateOf_10 (by decide) ?_
  refine j_iconst (v := nI 0) dL_stateOf_17 nc_iconst_0 ?_
  exact j_iret hM dL_stateOf_18 rfl hT

set_option maxHeartbeats 4000000 in
set_option maxRecDepth 100000 in
theorem we_stateOf_2 {sx : Nat → jv_S} {g : jv_G} {X : jv_X} {T : jv_T} {n : Nat} {V : Nat → Nat → Int32} {L : Nat → Nat → Int64} {k z : Nat} {N K R : Nat} (hC : Ct V N K R) {j : Int32} {f : Int32} (hx : j < 0 ∨ nI R ≤ j) (hk : 1 ≤ k) (hz : 6 ≤ z) (hM : jv_M g X T) (hT : ∀ n', n ≤ n' → T (.inl (some (.int (nI 1)))) n' (SH sx) V L) : jv_J g X I_L_stateOf 0 [some (jv_r g 0), some (.int j), some (.int f), some (jv_r g 140), none] [] n (SH sx) V L k z := by
  refine j_aload_n_3 dL_stateOf_0 ?_
  refine j_iconst (v := nI 0) dL_stateOf_1 nc_iconst_0 ?_
  refine j_aload_n_0 dL_stateOf_2 ?_
  refine j_iload_n_1 dL_stateOf_3 ?_
  refine j_iload_n_2 dL_stateOf_4 ?_
  refine X_L_80 (n1 := 0) (sh1 := fun _ => (0, 0, fun _ => none)) (V1 := fun _ _ => 0) (L1 := fun _ _ => 0) rfl (by decide) dL_stateOf_5 sk_0 (Nat.le_of_ble_eq_true rfl) (show 1 + 0 ≤ k from hk) (show 6 + 0 ≤ z from hz) (fun _ _ hM' hT' => e_stateOf_2 hC hx (Nat.le_refl 1) (Nat.le_refl 6) hM' hT') (fun n' hn' => ?_)
  refine j_catch (by decide +kernel) [] (0, 10, 13, 19) [] rfl (fun y hy => absurd hy List.not_mem_nil) (by decide) (by decide) (by decide) (show Cond.classLink RL 19 "java/lang/IndexOutOfBoundsException" ∈ jv_gw from jv_gwm 581 (by decide +kernel) rfl) (fun q => ?_)
  refine j_exst (I := I_L_stateOf) (i := 4) (v := none) dL_stateOf_13 (by decide) (jok (j0 := 3) rfl rfl) ?_
  refine j_iconst (v := nI 1) dL_stateOf_15 nc_iconst_1 ?_
  exact j_iret hM dL_stateOf_16 rfl (hT n' hn')

set_option maxHeartbeats 4000000 in
set_option maxRecDepth 100000 in
theorem we_stateOf_7 {sx : Nat → jv_S} {g : jv_G} {X : jv_X} {T : jv_T} {n : Nat} {V : Nat → Nat → Int32} {L : Nat → Nat → Int64} {k z : Nat} {N K R : Nat} (hC : Ct V N K R) {j : Nat} (hj : (j < R)) {f : Int32} (hx : f < 0 ∨ nI N ≤ f) (hk : 1 ≤ k) (hz : 6 ≤ z) (hM : jv_M g X T) (hT : ∀ n', n ≤ n' → T (.inl (some (.int (nI 1)))) n' (SH sx) V L) : jv_J g X I_L_stateOf 0 [some (jv_r g 0), some (.int (nI j)), some (.int f), some (jv_r g 140), none] [] n (SH sx) V L k z := by
  refine j_aload_n_3 dL_stateOf_0 ?_
  refine j_iconst (v := nI 0) dL_stateOf_1 nc_iconst_0 ?_
  refine j_aload_n_0 dL_stateOf_2 ?_
  refine j_iload_n_1 dL_stateOf_3 ?_
  refine j_iload_n_2 dL_stateOf_4 ?_
  refine X_L_80 (n1 := 0) (sh1 := fun _ => (0, 0, fun _ => none)) (V1 := fun _ _ => 0) (L1 := fun _ _ => 0) rfl (by decide) dL_stateOf_5 sk_0 (Nat.le_of_ble_eq_true rfl) (show 1 + 0 ≤ k from hk) (show 6 + 0 ≤ z from hz) (fun _ _ hM' hT' => e_stateOf_7 hC hj hx (Nat.le_refl 1) (Nat.le_refl 6) hM' hT') (fun n' hn' => ?_)
  refine j_catch (by decide +kernel) [] (0, 10, 13, 19) [] rfl (fun y hy => absurd hy List.not_mem_nil) (by decide) (by decide) (by decide) (show Cond.classLink RL 19 "java/lang/IndexOutOfBoundsException" ∈ jv_gw from jv_gwm 581 (by decide +kernel) rfl) (fun q => ?_)
  refine j_exst (I := I_L_stateOf) (i := 4) (v := none) dL_stateOf_13 (by decide) (jok (j0 := 3) rfl rfl) ?_
  refine j_iconst (v := nI 1) dL_stateOf_15 nc_iconst_1 ?_
  exact j_iret hM dL_stateOf_16 rfl (hT n' hn')

set_option maxHeartbeats 4000000 in
set_option maxRecDepth 100000 in
theorem wg_heardAt {sx : Nat → jv_S} {g : jv_G} {X : jv_X} {T : jv_T} {n : Nat} {V : Nat → Nat → Int32} {L : Nat → Nat → Int64} {k z : Nat} {N K R : Nat} (hC : Ct V N K R) {j : Nat} (hj : (j < R)) {f : Nat} (hf : (f < N)) (hM : jv_M g X T) (hT : T (.inl (some (.int (nI 0)))) n (SH sx) (V) (jv_UL L 140 0 ((V (43 + 10 * j + 2) f : Int32).toInt64))) : jv_J g X I_L_heardAt 0 [some (jv_r g 0), some (.int (nI j)), some (.int (nI f)), some (jv_r g 140), none] [] n (SH sx) V L k z := by
  refine j_aload_n_3 dL_heardAt_0 ?_
  refine j_iconst (v := nI 0) dL_heardAt_1 nc_iconst_0 ?_
  refine j_aload_n_0 dL_heardAt_2 ?_
  refine j_iload_n_1 dL_heardAt_3 ?_
  refine j_iload_n_2 dL_heardAt_4 ?_
  refine C_L_83 rfl (by decide) dL_heardAt_5 sk_0 (Nat.le_of_ble_eq_true rfl) (Nat.le_of_eq (Nat.zero_add _)) (Nat.le_of_eq (Nat.zero_add _)) (fun _ _ hM' hT' => g_heardAt hC hj hf hM' hT') ?_
  refine j_i2l dL_heardAt_8 ?_
  refine j_last dL_heardAt_9 sk_140 sn_140 (by decide) (by decide) ?_
  refine j_goto (tgt := 17) dL_heardAt_10 (by decide) ?_
  refine j_iconst (v := nI 0) dL_heardAt_17 nc_iconst_0 ?_
  exact j_iret hM dL_heardAt_18 rfl hT

set_option maxHeartbeats 4000000 in
set_option maxRecDepth 100000 in
theorem we_heardAt_2 {sx : Nat → jv_S} {g : jv_G} {X : jv_X} {T : jv_T} {n : Nat} {V : Nat → Nat → Int32} {L : Nat → Nat → Int64} {k z : Nat} {N K R : Nat} (hC : Ct V N K R) {j : Int32} {f : Int32} (hx : j < 0 ∨ nI R ≤ j) (hk : 1 ≤ k) (hz : 6 ≤ z) (hM : jv_M g X T) (hT : ∀ n', n ≤ n' → T (.inl (some (.int (nI 1)))) n' (SH sx) V L) : jv_J g X I_L_heardAt 0 [some (jv_r g 0), some (.int j), some (.int f), some (jv_r g 140), none] [] n (SH sx) V L k z := by
  refine j_aload_n_3 dL_heardAt_0 ?_
  refine j_iconst (v := nI 0) dL_heardAt_1 nc_iconst_0 ?_
  refine j_aload_n_0 dL_heardAt_2 ?_
  refine j_iload_n_1 dL_heardAt_3 ?_
  refine j_iload_n_2 dL_heardAt_4 ?_
  refine X_L_83 (n1 := 0) (sh1 := fun _ => (0, 0, fun _ => none)) (V1 := fun _ _ => 0) (L1 := fun _ _ => 0) rfl (by decide) dL_heardAt_5 sk_0 (Nat.le_of_ble_eq_true rfl) (show 1 + 0 ≤ k from hk) (show 6 + 0 ≤ z from hz) (fun _ _ hM' hT' => e_heardAt_2 hC hx (Nat.le_refl 1) (Nat.le_refl 6) hM' hT') (fun n' hn' => ?_)
  refine j_catch (by decide +kernel) [] (0, 10, 13, 19) [] rfl (fun y hy => absurd hy List.not_mem_nil) (by decide) (by decide) (by decide) (show Cond.classLink RL 19 "java/lang/IndexOutOfBoundsException" ∈ jv_gw from jv_gwm 581 (by decide +kernel) rfl) (fun q => ?_)
  refine j_exst (I := I_L_heardAt) (i := 4) (v := none) dL_heardAt_13 (by decide) (jok (j0 := 3) rfl rfl) ?_
  refine j_iconst (v := nI 1) dL_heardAt_15 nc_iconst_1 ?_
  exact j_iret hM dL_heardAt_16 rfl (hT n' hn')

set_option maxHeartbeats 4000000 in
set_option maxRecDepth 100000 in
theorem we_heardAt_7 {sx : Nat → jv_S} {g : jv_G} {X : jv_X} {T : jv_T} {n : Nat} {V : Nat → Nat → Int32} {L : Nat → Nat → Int64} {k z : Nat} {N K R : Nat} (hC : Ct V N K R) {j : Nat} (hj : (j < R)) {f : Int32} (hx : f < 0 ∨ nI N ≤ f) (hk : 1 ≤ k) (hz : 6 ≤ z) (hM : jv_M g X T) (hT : ∀ n', n ≤ n' → T (.inl (some (.int (nI 1)))) n' (SH sx) V L) : jv_J g X I_L_heardAt 0 [some (jv_r g 0), some (.int (nI j)), some (.int f), some (jv_r g 140), none] [] n (SH sx) V L k z := by
  refine j_aload_n_3 dL_heardAt_0 ?_
  refine j_iconst (v := nI 0) dL_heardAt_1 nc_iconst_0 ?_
  refine j_aload_n_0 dL_heardAt_2 ?_
  refine j_iload_n_1 dL_heardAt_3 ?_
  refine j_iload_n_2 dL_heardAt_4 ?_
  refine X_L_83 (n1 := 0) (sh1 := fun _ => (0, 0, fun _ => none)) (V1 := fun _ _ => 0) (L1 := fun _ _ => 0) rfl (by decide) dL_heardAt_5 sk_0 (Nat.le_of_ble_eq_true rfl) (show 1 + 0 ≤ k from hk) (show 6 + 0 ≤ z from hz) (fun _ _ hM' hT' => e_heardAt_7 hC hj hx (Nat.le_refl 1) (Nat.le_refl 6) hM' hT') (fun n' hn' => ?_)
  refine j_catch (by decide +kernel) [] (0, 10, 13, 19) [] rfl (fun y hy => absurd hy List.not_mem_nil) (by decide) (by decide) (by decide) (show Cond.classLink RL 19 "java/lang/IndexOutOfBoundsException" ∈ jv_gw from jv_gwm 581 (by decide +kernel) rfl) (fun q => ?_)
  refine j_exst (I := I_L_heardAt) (i := 4) (v := none) dL_heardAt_13 (by decide) (jok (j0 := 3) rfl rfl) ?_
  refine j_iconst (v := nI 1) dL_heardAt_15 nc_iconst_1 ?_
  exact j_iret hM dL_heardAt_16 rfl (hT n' hn')

set_option maxHeartbeats 4000000 in
set_option maxRecDepth 100000 in
theorem wg_deniedAt {sx : Nat → jv_S} {g : jv_G} {X : jv_X} {T : jv_T} {n : Nat} {V : Nat → Nat → Int32} {L : Nat → Nat → Int64} {k z : Nat} {N K R : Nat} (hC : Ct V N K R) {j : Nat} (hj : (j < R)) {f : Nat} (hf : (f < N)) (hM : jv_M g X T) (hT : T (.inl (some (.int (nI 0)))) n (SH sx) (V) (jv_UL L 140 0 ((V (43 + 10 * j + 3) f : Int32).toInt64))) : jv_J g X I_L_deniedAt 0 [some (jv_r g 0), some (.int (nI j)), some (.int (nI f)), some (jv_r g 140), none] [] n (SH sx) V L k z := by
  refine j_aload_n_3 dL_deniedAt_0 ?_
  refine j_iconst (v := nI 0) dL_deniedAt_1 nc_iconst_0 ?_
  refine j_aload_n_0 dL_deniedAt_2 ?_
  refine j_iload_n_1 dL_deniedAt_3 ?_
  refine j_iload_n_2 dL_deniedAt_4 ?_
  refine C_L_86 rfl (by decide) dL_deniedAt_5 sk_0 (Nat.le_of_ble_eq_true rfl) (Nat.le_of_eq (Nat.zero_add _)) (Nat.le_of_eq (Nat.zero_add _)) (fun _ _ hM' hT' => g_deniedAt hC hj hf hM' hT') ?_
  refine j_i2l dL_deniedAt_8 ?_
  refine j_last dL_deniedAt_9 sk_140 sn_140 (by decide) (by decide) ?_
  refine j_goto (tgt := 17) dL_deniedAt_10 (by decide) ?_
  refine j_iconst (v := nI 0) dL_deniedAt_17 nc_iconst_0 ?_
  exact j_iret hM dL_deniedAt_18 rfl hT

set_option maxHeartbeats 4000000 in
set_option maxRecDepth 100000 in
theorem we_deniedAt_2 {sx : Nat → jv_S} {g : jv_G} {X : jv_X} {T : jv_T} {n : Nat} {V : Nat → Nat → Int32} {L : Nat → Nat → Int64} {k z : Nat} {N K R : Nat} (hC : Ct V N K R) {j : Int32} {f : Int32} (hx : j < 0 ∨ nI R ≤ j) (hk : 1 ≤ k) (hz : 6 ≤ z) (hM : jv_M g X T) (hT : ∀ n', n ≤ n' → T (.inl (some (.int (nI 1)))) n' (SH sx) V L) : jv_J g X I_L_deniedAt 0 [some (jv_r g 0), some (.int j), some (.int f), some (jv_r g 140), none] [] n (SH sx) V L k z := by
  refine j_aload_n_3 dL_deniedAt_0 ?_
  refine j_iconst (v := nI 0) dL_deniedAt_1 nc_iconst_0 ?_
  refine j_aload_n_0 dL_deniedAt_2 ?_
  refine j_iload_n_1 dL_deniedAt_3 ?_
  refine j_iload_n_2 dL_deniedAt_4 ?_
  refine X_L_86 (n1 := 0) (sh1 := fun _ => (0, 0, fun _ => none)) (V1 := fun _ _ => 0) (L1 := fun _ _ => 0) rfl (by decide) dL_deniedAt_5 sk_0 (Nat.le_of_ble_eq_true rfl) (show 1 + 0 ≤ k from hk) (show 6 + 0 ≤ z from hz) (fun _ _ hM' hT' => e_deniedAt_2 hC hx (Nat.le_refl 1) (Nat.le_refl 6) hM' hT') (fun n' hn' => ?_)
  refine j_catch (by decide +kernel) [] (0, 10, 13, 19) [] rfl (fun y hy => absurd hy List.not_mem_nil) (by decide) (by decide) (by decide) (show Cond.classLink RL 19 "java/lang/IndexOutOfBoundsException" ∈ jv_gw from jv_gwm 581 (by decide +kernel) rfl) (fun q => ?_)
  refine j_exst (I := I_L_deniedAt) (i := 4) (v := none) dL_deniedAt_13 (by decide) (jok (j0 := 3) rfl rfl) ?_
  refine j_iconst (v := nI 1) dL_deniedAt_15 nc_iconst_1 ?_
  exact j_iret hM dL_deniedAt_16 rfl (hT n' hn')

set_option maxHeartbeats 4000000 in
set_option maxRecDepth 100000 in
theorem we_deniedAt_7 {sx : Nat → jv_S} {g : jv_G} {X : jv_X} {T : jv_T} {n : Nat} {V : Nat → Nat → Int32} {L : Nat → Nat → Int64} {k z : Nat} {N K R : Nat} (hC : Ct V N K R) {j : Nat} (hj : (j < R)) {f : Int32} (hx : f < 0 ∨ nI N ≤ f) (hk : 1 ≤ k) (hz : 6 ≤ z) (hM : jv_M g X T) (hT : ∀ n', n ≤ n' → T (.inl (some (.int (nI 1)))) n' (SH sx) V L) : jv_J g X I_L_deniedAt 0 [some (jv_r g 0), some (.int (nI j)), some (.int f), some (jv_r g 140), none] [] n (SH sx) V L k z := by
  refine j_aload_n_3 dL_deniedAt_0 ?_
  refine j_iconst (v := nI 0) dL_deniedAt_1 nc_iconst_0 ?_
  refine j_aload_n_0 dL_deniedAt_2 ?_
  refine j_iload_n_1 dL_deniedAt_3 ?_
  refine j_iload_n_2 dL_deniedAt_4 ?_
  refine X_L_86 (n1 := 0) (sh1 := fun _ => (0, 0, fun _ => none)) (V1 := fun _ _ => 0) (L1 := fun _ _ => 0) rfl (by decide) dL_deniedAt_5 sk_0 (Nat.le_of_ble_eq_true rfl) (show 1 + 0 ≤ k from hk) (show 6 + 0 ≤ z from hz) (fun _ _ hM' hT' => e_deniedAt_7 hC hj hx (Nat.le_refl 1) (Nat.le_refl 6) hM' hT') (fun n' hn' => ?_)
  refine j_catch (by decide +kernel) [] (0, 10, 13, 19) [] rfl (fun y hy => absurd hy List.not_mem_nil) (by decide) (by decide) (by decide) (show Cond.classLink RL 19 "java/lang/IndexOutOfBoundsException" ∈ jv_gw from jv_gwm 581 (by decide +kernel) rfl) (fun q => ?_)
  refine j_exst (I := I_L_deniedAt) (i := 4) (v := none) dL_deniedAt_13 (by decide) (jok (j0 := 3) rfl rfl) ?_
  refine j_iconst (v := nI 1) dL_deniedAt_15 nc_iconst_1 ?_
  exact j_iret hM dL_deniedAt_16 rfl (hT n' hn')

set_option maxHeartbeats 4000000 in
set_option maxRecDepth 100000 in
theorem wg_pipesTo {sx : Nat → jv_S} {g : jv_G} {X : jv_X} {T : jv_T} {n : Nat} {V : Nat → Nat → Int32} {L : Nat → Nat → Int64} {k z : Nat} {N K R : Nat} (hC : Ct V N K R) {j : Nat} (hj : (j < R)) {f : Nat} (hf : (f < N)) (hM : jv_M g X T) (hT : T (.inl (some (.int (nI 0)))) n (SH sx) (V) (jv_UL L 140 0 ((V (43 + 10 * j + 4) f : Int32).toInt64))) : jv_J g X I_L_pipesTo 0 [some (jv_r g 0), some (.int (nI j)), some (.int (nI f)), some (jv_r g 140), none] [] n (SH sx) V L k z := by
  refine j_aload_n_3 dL_pipesTo_0 ?_
  refine j_iconst (v := nI 0) dL_pipesTo_1 nc_iconst_0 ?_
  refine j_aload_n_0 dL_pipesTo_2 ?_
  refine j_iload_n_1 dL_pipesTo_3 ?_
  refine j_iload_n_2 dL_pipesTo_4 ?_
  refine C_L_89 rfl (by decide) dL_pipesTo_5 sk_0 (Nat.le_of_ble_eq_true rfl) (Nat.le_of_eq (Nat.zero_add _)) (Nat.le_of_eq (Nat.zero_add _)) (fun _ _ hM' hT' => g_pipesTo hC hj hf hM' hT') ?_
  refine j_i2l dL_pipesTo_8 ?_
  refine j_last dL_pipesTo_9 sk_140 sn_140 (by decide) (by decide) ?_
  refine j_goto (tgt := 17) dL_pipesTo_10 (by decide) ?_
  refine j_iconst (v := nI 0) dL_pipesTo_17 nc_iconst_0 ?_
  exact j_iret hM dL_pipesTo_18 rfl hT

set_option maxHeartbeats 4000000 in
set_option maxRecDepth 100000 in
theorem we_pipesTo_2 {sx : Nat → jv_S} {g : jv_G} {X : jv_X} {T : jv_T} {n : Nat} {V : Nat → Nat → Int32} {L : Nat → Nat → Int64} {k z : Nat} {N K R : Nat} (hC : Ct V N K R) {j : Int32} {f : Int32} (hx : j < 0 ∨ nI R ≤ j) (hk : 1 ≤ k) (hz : 6 ≤ z) (hM : jv_M g X T) (hT : ∀ n', n ≤ n' → T (.inl (some (.int (nI 1)))) n' (SH sx) V L) : jv_J g X I_L_pipesTo 0 [some (jv_r g 0), some (.int j), some (.int f), some (jv_r g 140), none] [] n (SH sx) V L k z := by
  refine j_aload_n_3 dL_pipesTo_0 ?_
  refine j_iconst (v := nI 0) dL_pipesTo_1 nc_iconst_0 ?_
  refine j_aload_n_0 dL_pipesTo_2 ?_
  refine j_iload_n_1 dL_pipesTo_3 ?_
  refine j_iload_n_2 dL_pipesTo_4 ?_
  refine X_L_89 (n1 := 0) (sh1 := fun _ => (0, 0, fun _ => none)) (V1 := fun _ _ => 0) (L1 := fun _ _ => 0) rfl (by decide) dL_pipesTo_5 sk_0 (Nat.le_of_ble_eq_true rfl) (show 1 + 0 ≤ k from hk) (show 6 + 0 ≤ z from hz) (fun _ _ hM' hT' => e_pipesTo_2 hC hx (Nat.le_refl 1) (Nat.le_refl 6) hM' hT') (fun n' hn' => ?_)
  refine j_catch (by decide +kernel) [] (0, 10, 13, 19) [] rfl (fun y hy => absurd hy List.not_mem_nil) (by decide) (by decide) (by decide) (show Cond.classLink RL 19 "java/lang/IndexOutOfBoundsException" ∈ jv_gw from jv_gwm 581 (by decide +kernel) rfl) (fun q => ?_)
  refine j_exst (I := I_L_pipesTo) (i := 4) (v := none) dL_pipesTo_13 (by decide) (jok (j0 := 3) rfl rfl) ?_
  refine j_iconst (v := nI 1) dL_pipesTo_15 nc_iconst_1 ?_
  exact j_iret hM dL_pipesTo_16 rfl (hT n' hn')

set_option maxHeartbeats 4000000 in
set_option maxRecDepth 100000 in
theorem we_pipesTo_7 {sx : Nat → jv_S} {g : jv_G} {X : jv_X} {T : jv_T} {n : Nat} {V : Nat → Nat → Int32} {L : Nat → Nat → Int64} {k z : Nat} {N K R : Nat} (hC : Ct V N K R) {j : Nat} (hj : (j < R)) {f : Int32} (hx : f < 0 ∨ nI N ≤ f) (hk : 1 ≤ k) (hz : 6 ≤ z) (hM : jv_M g X T) (hT : ∀ n', n ≤ n' → T (.inl (some (.int (nI 1)))) n' (SH sx) V L) : jv_J g X I_L_pipesTo 0 [some (jv_r g 0), some (.int (nI j)), some (.int f), some (jv_r g 140), none] [] n (SH sx) V L k z := by
  refine j_aload_n_3 dL_pipesTo_0 ?_
  refine j_iconst (v := nI 0) dL_pipesTo_1 nc_iconst_0 ?_
  refine j_aload_n_0 dL_pipesTo_2 ?_
  refine j_iload_n_1 dL_pipesTo_3 ?_
  refine j_iload_n_2 dL_pipesTo_4 ?_
  refine X_L_89 (n1 := 0) (sh1 := fun _ => (0, 0, fun _ => none)) (V1 := fun _ _ => 0) (L1 := fun _ _ => 0) rfl (by decide) dL_pipesTo_5 sk_0 (Nat.le_of_ble_eq_true rfl) (show 1 + 0 ≤ k from hk) (show 6 + 0 ≤ z from hz) (fun _ _ hM' hT' => e_pipesTo_7 hC hj hx (Nat.le_refl 1) (Nat.le_refl 6) hM' hT') (fun n' hn' => ?_)
  refine j_catch (by decide +kernel) [] (0, 10, 13, 19) [] rfl (fun y hy => absurd hy List.not_mem_nil) (by decide) (by decide) (by decide) (show Cond.classLink RL 19 "java/lang/IndexOutOfBoundsException" ∈ jv_gw from jv_gwm 581 (by decide +kernel) rfl) (fun q => ?_)
  refine j_exst (I := I_L_pipesTo) (i := 4) (v := none) dL_pipesTo_13 (by decide) (jok (j0 := 3) rfl rfl) ?_
  refine j_iconst (v := nI 1) dL_pipesTo_15 nc_iconst_1 ?_
  exact j_iret hM dL_pipesTo_16 rfl (hT n' hn')

set_option maxHeartbeats 4000000 in
set_option maxRecDepth 100000 in
theorem wg_believers {sx : Nat → jv_S} {g : jv_G} {X : jv_X} {T : jv_T} {n : Nat} {V : Nat → Nat → Int32} {L : Nat → Nat → Int64} {k z : Nat} {N K R : Nat} (hC : Ct V N K R) {j : Nat} (hj : (j < R)) (hM : jv_M g X T) (hT : T (.inl (some (.int (nI 0)))) n (SH sx) (V) (jv_UL L 140 0 ((hbL V (43 + 10 * j) N 0 (nI 0) : Int32).toInt64))) : jv_J g X I_L_believers 0 [some (jv_r g 0), some (.int (nI j)), some (jv_r g 140), none] [] n (SH sx) V L k z := by
  refine j_aload_n_2 dL_believers_0 ?_
  refine j_iconst (v := nI 0) dL_believers_1 nc_iconst_0 ?_
  refine j_aload_n_0 dL_believers_2 ?_
  refine j_iload_n_1 dL_believers_3 ?_
  refine C_L_92 rfl (by decide) dL_believers_4 sk_0 (Nat.le_of_ble_eq_true rfl) (Nat.le_of_eq (Nat.zero_add _)) (Nat.le_of_eq (Nat.zero_add _)) (fun _ _ hM' hT' => g_believers hC hj hM' hT') ?_
  refine j_i2l dL_believers_7 ?_
  refine j_last dL_believers_8 sk_140 sn_140 (by decide) (by decide) ?_
  refine j_goto (tgt := 15) dL_believers_9 (by decide) ?_
  refine j_iconst (v := nI 0) dL_believers_15 nc_iconst_0 ?_
  exact j_iret hM dL_believers_16 rfl hT

set_option maxHeartbeats 4000000 in
set_option maxRecDepth 100000 in
theorem we_believers_2 {sx : Nat → jv_S} {g : jv_G} {X : jv_X} {T : jv_T} {n : Nat} {V : Nat → Nat → Int32} {L : Nat → Nat → Int64} {k z : Nat} {N K R : Nat} (hC : Ct V N K R) {j : Int32} (hx : j < 0 ∨ nI R ≤ j) (hk : 1 ≤ k) (hz : 6 ≤ z) (hM : jv_M g X T) (hT : ∀ n', n ≤ n' → T (.inl (some (.int (nI 1)))) n' (SH sx) V L) : jv_J g X I_L_believers 0 [some (jv_r g 0), some (.int j), some (jv_r g 140), none] [] n (SH sx) V L k z := by
  refine j_aload_n_2 dL_believers_0 ?_
  refine j_iconst (v := nI 0) dL_believers_1 nc_iconst_0 ?_
  refine j_aload_n_0 dL_believers_2 ?_
  refine j_iload_n_1 dL_believers_3 ?_
  refine X_L_92 (n1 := 0) (sh1 := fun _ => (0, 0, fun _ => none)) (V1 := fun _ _ => 0) (L1 := fun _ _ => 0) rfl (by decide) dL_believers_4 sk_0 (Nat.le_of_ble_eq_true rfl) (show 1 + 0 ≤ k from hk) (show 6 + 0 ≤ z from hz) (fun _ _ hM' hT' => e_believers_2 hC hx (Nat.le_refl 1) (Nat.le_refl 6) hM' hT') (fun n' hn' => ?_)
  refine j_catch (by decide +kernel) [] (0, 9, 12, 19) [] rfl (fun y hy => absurd hy List.not_mem_nil) (by decide) (by decide) (by decide) (show Cond.classLink RL 19 "java/lang/IndexOutOfBoundsException" ∈ jv_gw from jv_gwm 581 (by decide +kernel) rfl) (fun q => ?_)
  refine j_exst_n (I := I_L_believers) (i := 3) dL_believers_12 (by decide) (jok (j0 := 2) rfl rfl) ?_
  refine j_iconst (v := nI 1) dL_believers_13 nc_iconst_1 ?_
  exact j_iret hM dL_believers_14 rfl (hT n' hn')

set_option maxHeartbeats 4000000 in
set_option maxRecDepth 100000 in
theorem wg_neighbours {sx : Nat → jv_S} {g : jv_G} {X : jv_X} {T : jv_T} {n : Nat} {V : Nat → Nat → Int32} {L : Nat → Nat → Int64} {k z : Nat} {N K R : Nat} (hC : Ct V N K R) {f : Nat} (hf : (f < N)) (hM : jv_M g X T) (hT : T (.inl (some (.int (nI 0)))) n (SH sx) (V) (jv_UL L 140 0 ((nI (neighboursL V f N 0 0) : Int32).toInt64))) : jv_J g X I_L_neighbours 0 [some (jv_r g 0), some (.int (nI f)), some (jv_r g 140), none] [] n (SH sx) V L k z := by
  refine j_aload_n_2 dL_neighbours_0 ?_
  refine j_iconst (v := nI 0) dL_neighbours_1 nc_iconst_0 ?_
  refine j_aload_n_0 dL_neighbours_2 ?_
  refine j_iload_n_1 dL_neighbours_3 ?_
  refine C_L_71 rfl (by decide) dL_neighbours_4 sk_0 (Nat.le_of_ble_eq_true rfl) (Nat.le_of_eq (Nat.zero_add _)) (Nat.le_of_eq (Nat.zero_add _)) (fun _ _ hM' hT' => g_neighbours hC hf hM' hT') ?_
  refine j_i2l dL_neighbours_7 ?_
  refine j_last dL_neighbours_8 sk_140 sn_140 (by decide) (by decide) ?_
  refine j_goto (tgt := 15) dL_neighbours_9 (by decide) ?_
  refine j_iconst (v := nI 0) dL_neighbours_15 nc_iconst_0 ?_
  exact j_iret hM dL_neighbours_16 rfl hT

set_option maxHeartbeats 4000000 in
set_option maxRecDepth 100000 in
theorem we_neighbours_2 {sx : Nat → jv_S} {g : jv_G} {X : jv_X} {T : jv_T} {n : Nat} {V : Nat → Nat → Int32} {L : Nat → Nat → Int64} {k z : Nat} {N K R : Nat} (hC : Ct V N K R) {f : Int32} (hx : f < 0 ∨ nI N ≤ f) (hk : 1 ≤ k) (hz : 6 ≤ z) (hM : jv_M g X T) (hT : ∀ n', n ≤ n' → T (.inl (some (.int (nI 1)))) n' (SH sx) V L) : jv_J g X I_L_neighbours 0 [some (jv_r g 0), some (.int f), some (jv_r g 140), none] [] n (SH sx) V L k z := by
  refine j_aload_n_2 dL_neighbours_0 ?_
  refine j_iconst (v := nI 0) dL_neighbours_1 nc_iconst_0 ?_
  refine j_aload_n_0 dL_neighbours_2 ?_
  refine j_iload_n_1 dL_neighbours_3 ?_
  refine X_L_71 (n1 := 0) (sh1 := fun _ => (0, 0, fun _ => none)) (V1 := fun _ _ => 0) (L1 := fun _ _ => 0) rfl (by decide) dL_neighbours_4 sk_0 (Nat.le_of_ble_eq_true rfl) (show 1 + 0 ≤ k from hk) (show 6 + 0 ≤ z from hz) (fun _ _ hM' hT' => e_neighbours_2 hC hx (Nat.le_refl 1) (Nat.le_refl 6) hM' hT') (fun n' hn' => ?_)
  refine j_catch (by decide +kernel) [] (0, 9, 12, 19) [] rfl (fun y hy => absurd hy List.not_mem_nil) (by decide) (by decide) (by decide) (show Cond.classLink RL 19 "java/lang/IndexOutOfBoundsException" ∈ jv_gw from jv_gwm 581 (by decide +kernel) rfl) (fun q => ?_)
  refine j_exst_n (I := I_L_neighbours) (i := 3) dL_neighbours_12 (by decide) (jok (j0 := 2) rfl rfl) ?_
  refine j_iconst (v := nI 1) dL_neighbours_13 nc_iconst_1 ?_
  exact j_iret hM dL_neighbours_14 rfl (hT n' hn')

set_option maxHeartbeats 4000000 in
set_option maxRecDepth 100000 in
theorem wg_reached {sx : Nat → jv_S} {g : jv_G} {X : jv_X} {T : jv_T} {n : Nat} {V : Nat → Nat → Int32} {L : Nat → Nat → Int64} {k z : Nat} {N K R : Nat} (hC : Ct V N K R) {j : Nat} (hj : (j < R)) (hM : jv_M g X T) (hT : T (.inl (some (.int (nI 0)))) n (SH sx) (V) (jv_UL L 140 0 ((nI (reachedL V j N 0 0) : Int32).toInt64))) : jv_J g X I_L_reached 0 [some (jv_r g 0), some (.int (nI j)), some (jv_r g 140), none] [] n (SH sx) V L k z := by
  refine j_aload_n_2 dL_reached_0 ?_
  refine j_iconst (v := nI 0) dL_reached_1 nc_iconst_0 ?_
  refine j_aload_n_0 dL_reached_2 ?_
  refine j_iload_n_1 dL_reached_3 ?_
  refine C_L_95 rfl (by decide) dL_reached_4 sk_0 (Nat.le_of_ble_eq_true rfl) (Nat.le_of_eq (Nat.zero_add _)) (Nat.le_of_eq (Nat.zero_add _)) (fun _ _ hM' hT' => g_reached hC hj hM' hT') ?_
  refine j_i2l dL_reached_7 ?_
  refine j_last dL_reached_8 sk_140 sn_140 (by decide) (by decide) ?_
  refine j_goto (tgt := 15) dL_reached_9 (by decide) ?_
  refine j_iconst (v := nI 0) dL_reached_15 nc_iconst_0 ?_
  exact j_iret hM dL_reached_16 rfl hT

set_option maxHeartbeats 4000000 in
set_option maxRecDepth 100000 in
theorem we_reached_2 {sx : Nat → jv_S} {g : jv_G} {X : jv_X} {T : jv_T} {n : Nat} {V : Nat → Nat → Int32} {L : Nat → Nat → Int64} {k z : Nat} {N K R : Nat} (hC : Ct V N K R) {j : Int32} (hx : j < 0 ∨ nI R ≤ j) (hk : 1 ≤ k) (hz : 6 ≤ z) (hM : jv_M g X T) (hT : ∀ n', n ≤ n' → T (.inl (some (.int (nI 1)))) n' (SH sx) V L) : jv_J g X I_L_reached 0 [some (jv_r g 0), some (.int j), some (jv_r g 140), none] [] n (SH sx) V L k z := by
  refine j_aload_n_2 dL_reached_0 ?_
  refine j_iconst (v := nI 0) dL_reached_1 nc_iconst_0 ?_
  refine j_aload_n_0 dL_reached_2 ?_
  refine j_iload_n_1 dL_reached_3 ?_
  refine X_L_95 (n1 := 0) (sh1 := fun _ => (0, 0, fun _ => none)) (V1 := fun _ _ => 0) (L1 := fun _ _ => 0) rfl (by decide) dL_reached_4 sk_0 (Nat.le_of_ble_eq_true rfl) (show 1 + 0 ≤ k from hk) (show 6 + 0 ≤ z from hz) (fun _ _ hM' hT' => e_reached_2 hC hx (Nat.le_refl 1) (Nat.le_refl 6) hM' hT') (fun n' hn' => ?_)
  refine j_catch (by decide +kernel) [] (0, 9, 12, 19) [] rfl (fun y hy => absurd hy List.not_mem_nil) (by decide) (by decide) (by decide) (show Cond.classLink RL 19 "java/lang/IndexOutOfBoundsException" ∈ jv_gw from jv_gwm 581 (by decide +kernel) rfl) (fun q => ?_)
  refine j_exst_n (I := I_L_reached) (i := 3) dL_reached_12 (by decide) (jok (j0 := 2) rfl rfl) ?_
  refine j_iconst (v := nI 1) dL_reached_13 nc_iconst_1 ?_
  exact j_iret hM dL_reached_14 rfl (hT n' hn')

set_option maxHeartbeats 4000000 in
set_option maxRecDepth 100000 in
theorem wg_underWay {sx : Nat → jv_S} {g : jv_G} {X : jv_X} {T : jv_T} {n : Nat} {V : Nat → Nat → Int32} {L : Nat → Nat → Int64} {k z : Nat} {N K R : Nat} (hC : Ct V N K R) {j : Nat} (hj : (j < R)) (hM : jv_M g X T) (hT : T (.inl (some (.int (nI 0)))) n (SH sx) (V) (jv_UL L 140 0 ((nI (underWayL V j N 0 0) : Int32).toInt64))) : jv_J g X I_L_underWay 0 [some (jv_r g 0), some (.int (nI j)), some (jv_r g 140), none] [] n (SH sx) V L k z := by
  refine j_aload_n_2 dL_underWay_0 ?_
  refine j_iconst (v := nI 0) dL_underWay_1 nc_iconst_0 ?_
  refine j_aload_n_0 dL_underWay_2 ?_
  refine j_iload_n_1 dL_underWay_3 ?_
  refine C_L_98 rfl (by decide) dL_underWay_4 sk_0 (Nat.le_of_ble_eq_true rfl) (Nat.le_of_eq (Nat.zero_add _)) (Nat.le_of_eq (Nat.zero_add _)) (fun _ _ hM' hT' => g_underWay hC hj hM' hT') ?_
  refine j_i2l dL_underWay_7 ?_
  refine j_last dL_underWay_8 sk_140 sn_140 (by decide) (by decide) ?_
  refine j_goto (tgt := 15) dL_underWay_9 (by decide) ?_
  refine j_iconst (v := nI 0) dL_underWay_15 nc_iconst_0 ?_
  exact j_iret hM dL_underWay_16 rfl hT

set_option maxHeartbeats 4000000 in
set_option maxRecDepth 100000 in
theorem we_underWay_2 {sx : Nat → jv_S} {g : jv_G} {X : jv_X} {T : jv_T} {n : Nat} {V : Nat → Nat → Int32} {L : Nat → Nat → Int64} {k z : Nat} {N K R : Nat} (hC : Ct V N K R) {j : Int32} (hx : j < 0 ∨ nI R ≤ j) (hk : 1 ≤ k) (hz : 6 ≤ z) (hM : jv_M g X T) (hT : ∀ n', n ≤ n' → T (.inl (some (.int (nI 1)))) n' (SH sx) V L) : jv_J g X I_L_underWay 0 [some (jv_r g 0), some (.int j), some (jv_r g 140), none] [] n (SH sx) V L k z := by
  refine j_aload_n_2 dL_underWay_0 ?_
  refine j_iconst (v := nI 0) dL_underWay_1 nc_iconst_0 ?_
  refine j_aload_n_0 dL_underWay_2 ?_
  refine j_iload_n_1 dL_underWay_3 ?_
  refine X_L_98 (n1 := 0) (sh1 := fun _ => (0, 0, fun _ => none)) (V1 := fun _ _ => 0) (L1 := fun _ _ => 0) rfl (by decide) dL_underWay_4 sk_0 (Nat.le_of_ble_eq_true rfl) (show 1 + 0 ≤ k from hk) (show 6 + 0 ≤ z from hz) (fun _ _ hM' hT' => e_underWay_2 hC hx (Nat.le_refl 1) (Nat.le_refl 6) hM' hT') (fun n' hn' => ?_)
  refine j_catch (by decide +kernel) [] (0, 9, 12, 19) [] rfl (fun y hy => absurd hy List.not_mem_nil) (by decide) (by decide) (by decide) (show Cond.classLink RL 19 "java/lang/IndexOutOfBoundsException" ∈ jv_gw from jv_gwm 581 (by decide +kernel) rfl) (fun q => ?_)
  refine j_exst_n (I := I_L_underWay) (i := 3) dL_underWay_12 (by decide) (jok (j0 := 2) rfl rfl) ?_
  refine j_iconst (v := nI 1) dL_underWay_13 nc_iconst_1 ?_
  exact j_iret hM dL_underWay_14 rfl (hT n' hn')

set_option maxHeartbeats 4000000 in
set_option maxRecDepth 100000 in
theorem wg_quickest {sx : Nat → jv_S} {g : jv_G} {X : jv_X} {T : jv_T} {n : Nat} {V : Nat → Nat → Int32} {L : Nat → Nat → Int64} {k z : Nat} {N K R : Nat} (hC : Ct V N K R) {f : Nat} (hf : (f < N)) {t : Nat} (ht : (t < N)) (hM : jv_M g X T) (hT : T (.inl (some (.int (nI 0)))) n (SH sx) (fndC V N f) (jv_UL L 140 0 ((fndC V N f 29 t : Int32).toInt64))) : jv_J g X I_L_quickest 0 [some (jv_r g 0), some (.int (nI f)), some (.int (nI t)), some (jv_r g 140), none] [] n (SH sx) V L k z := by
  refine j_aload_n_3 dL_quickest_0 ?_
  refine j_iconst (v := nI 0) dL_quickest_1 nc_iconst_0 ?_
  refine j_aload_n_0 dL_quickest_2 ?_
  refine j_iload_n_1 dL_quickest_3 ?_
  refine j_iload_n_2 dL_quickest_4 ?_
  refine C_L_101 rfl (by decide) dL_quickest_5 sk_0 (Nat.le_of_ble_eq_true rfl) (Nat.le_of_eq (Nat.zero_add _)) (Nat.le_of_eq (Nat.zero_add _)) (fun _ _ hM' hT' => g_quickest hC hf ht hM' hT') ?_
  refine j_i2l dL_quickest_8 ?_
  refine j_last dL_quickest_9 sk_140 sn_140 (by decide) (by decide) ?_
  refine j_goto (tgt := 17) dL_quickest_10 (by decide) ?_
  refine j_iconst (v := nI 0) dL_quickest_17 nc_iconst_0 ?_
  exact j_iret hM dL_quickest_18 rfl hT

set_option maxHeartbeats 4000000 in
set_option maxRecDepth 100000 in
theorem we_quickest_2 {sx : Nat → jv_S} {g : jv_G} {X : jv_X} {T : jv_T} {n : Nat} {V : Nat → Nat → Int32} {L : Nat → Nat → Int64} {k z : Nat} {N K R : Nat} (hC : Ct V N K R) {f : Int32} {t : Int32} (hx : f < 0 ∨ nI N ≤ f) (hk : 1 ≤ k) (hz : 6 ≤ z) (hM : jv_M g X T) (hT : ∀ n', n ≤ n' → T (.inl (some (.int (nI 1)))) n' (SH sx) V L) : jv_J g X I_L_quickest 0 [some (jv_r g 0), some (.int f), some (.int t), some (jv_r g 140), none] [] n (SH sx) V L k z := by
  refine j_aload_n_3 dL_quickest_0 ?_
  refine j_iconst (v := nI 0) dL_quickest_1 nc_iconst_0 ?_
  refine j_aload_n_0 dL_quickest_2 ?_
  refine j_iload_n_1 dL_quickest_3 ?_
  refine j_iload_n_2 dL_quickest_4 ?_
  refine X_L_101 (n1 := 0) (sh1 := fun _ => (0, 0, fun _ => none)) (V1 := fun _ _ => 0) (L1 := fun _ _ => 0) rfl (by decide) dL_quickest_5 sk_0 (Nat.le_of_ble_eq_true rfl) (show 1 + 0 ≤ k from hk) (show 6 + 0 ≤ z from hz) (fun _ _ hM' hT' => e_quickest_2 hC hx (Nat.le_refl 1) (Nat.le_refl 6) hM' hT') (fun n' hn' => ?_)
  refine j_catch (by decide +kernel) [] (0, 10, 13, 19) [] rfl (fun y hy => absurd hy List.not_mem_nil) (by decide) (by decide) (by decide) (show Cond.classLink RL 19 "java/lang/IndexOutOfBoundsException" ∈ jv_gw from jv_gwm 581 (by decide +kernel) rfl) (fun q => ?_)
  refine j_exst (I := I_L_quickest) (i := 4) (v := none) dL_quickest_13 (by decide) (jok (j0 := 3) rfl rfl) ?_
  refine j_iconst (v := nI 1) dL_quickest_15 nc_iconst_1 ?_
  exact j_iret hM dL_quickest_16 rfl (hT n' hn')

set_option maxHeartbeats 4000000 in
set_option maxRecDepth 100000 in
theorem we_quickest_7 {sx : Nat → jv_S} {g : jv_G} {X : jv_X} {T : jv_T} {n : Nat} {V : Nat → Nat → Int32} {L : Nat → Nat → Int64} {k z : Nat} {N K R : Nat} (hC : Ct V N K R) {f : Nat} (hf : (f < N)) {t : Int32} (hx : t < 0 ∨ nI N ≤ t) (hk : 1 ≤ k) (hz : 6 ≤ z) (hM : jv_M g X T) (hT : ∀ n', n ≤ n' → T (.inl (some (.int (nI 1)))) n' (SH sx) V L) : jv_J g X I_L_quickest 0 [some (jv_r g 0), some (.int (nI f)), some (.int t), some (jv_r g 140), none] [] n (SH sx) V L k z := by
  refine j_aload_n_3 dL_quickest_0 ?_
  refine j_iconst (v := nI 0) dL_quickest_1 nc_iconst_0 ?_
  refine j_aload_n_0 dL_quickest_2 ?_
  refine j_iload_n_1 dL_quickest_3 ?_
  refine j_iload_n_2 dL_quickest_4 ?_
  refine X_L_101 (n1 := 0) (sh1 := fun _ => (0, 0, fun _ => none)) (V1 := fun _ _ => 0) (L1 := fun _ _ => 0) rfl (by decide) dL_quickest_5 sk_0 (Nat.le_of_ble_eq_true rfl) (show 1 + 0 ≤ k from hk) (show 6 + 0 ≤ z from hz) (fun _ _ hM' hT' => e_quickest_7 hC hf hx (Nat.le_refl 1) (Nat.le_refl 6) hM' hT') (fun n' hn' => ?_)
  refine j_catch (by decide +kernel) [] (0, 10, 13, 19) [] rfl (fun y hy => absurd hy List.not_mem_nil) (by decide) (by decide) (by decide) (show Cond.classLink RL 19 "java/lang/IndexOutOfBoundsException" ∈ jv_gw from jv_gwm 581 (by decide +kernel) rfl) (fun q => ?_)
  refine j_exst (I := I_L_quickest) (i := 4) (v := none) dL_quickest_13 (by decide) (jok (j0 := 3) rfl rfl) ?_
  refine j_iconst (v := nI 1) dL_quickest_15 nc_iconst_1 ?_
  exact j_iret hM dL_quickest_16 rfl (hT n' hn')

set_option maxHeartbeats 4000000 in
set_option maxRecDepth 100000 in
theorem wg_pipesBetween {sx : Nat → jv_S} {g : jv_G} {X : jv_X} {T : jv_T} {n : Nat} {V : Nat → Nat → Int32} {L : Nat → Nat → Int64} {k z : Nat} {N K R : Nat} (hC : Ct V N K R) {f : Nat} (hf : (f < N)) {t : Nat} (ht : (t < N)) (hM : jv_M g X T) (hT : T (.inl (some (.int (nI 0)))) n (SH sx) (fndC V N f) (jv_UL L 140 0 ((fndC V N f 30 t : Int32).toInt64))) : jv_J g X I_L_pipesBetween 0 [some (jv_r g 0), some (.int (nI f)), some (.int (nI t)), some (jv_r g 140), none] [] n (SH sx) V L k z := by
  refine j_aload_n_3 dL_pipesBetween_0 ?_
  refine j_iconst (v := nI 0) dL_pipesBetween_1 nc_iconst_0 ?_
  refine j_aload_n_0 dL_pipesBetween_2 ?_
  refine j_iload_n_1 dL_pipesBetween_3 ?_
  refine j_iload_n_2 dL_pipesBetween_4 ?_
  refine C_L_104 rfl (by decide) dL_pipesBetween_5 sk_0 (Nat.le_of_ble_eq_true rfl) (Nat.le_of_eq (Nat.zero_add _)) (Nat.le_of_eq (Nat.zero_add _)) (fun _ _ hM' hT' => g_pipesBetween hC hf ht hM' hT') ?_
  refine j_i2l dL_pipesBetween_8 ?_
  refine j_last dL_pipesBetween_9 sk_140 sn_140 (by decide) (by decide) ?_
  refine j_goto (tgt := 17) dL_pipesBetween_10 (by decide) ?_
  refine j_iconst (v := nI 0) dL_pipesBetween_17 nc_iconst_0 ?_
  exact j_iret hM dL_pipesBetween_18 rfl hT

set_option maxHeartbeats 4000000 in
set_option maxRecDepth 100000 in
theorem we_pipesBetween_2 {sx : Nat → jv_S} {g : jv_G} {X : jv_X} {T : jv_T} {n : Nat} {V : Nat → Nat → Int32} {L : Nat → Nat → Int64} {k z : Nat} {N K R : Nat} (hC : Ct V N K R) {f : Int32} {t : Int32} (hx : f < 0 ∨ nI N ≤ f) (hk : 1 ≤ k) (hz : 6 ≤ z) (hM : jv_M g X T) (hT : ∀ n', n ≤ n' → T (.inl (some (.int (nI 1)))) n' (SH sx) V L) : jv_J g X I_L_pipesBetween 0 [some (jv_r g 0), some (.int f), some (.int t), some (jv_r g 140), none] [] n (SH sx) V L k z := by
  refine j_aload_n_3 dL_pipesBetween_0 ?_
  refine j_iconst (v := nI 0) dL_pipesBetween_1 nc_iconst_0 ?_
  refine j_aload_n_0 dL_pipesBetween_2 ?_
  refine j_iload_n_1 dL_pipesBetween_3 ?_
  refine j_iload_n_2 dL_pipesBetween_4 ?_
  refine X_L_104 (n1 := 0) (sh1 := fun _ => (0, 0, fun _ => none)) (V1 := fun _ _ => 0) (L1 := fun _ _ => 0) rfl (by decide) dL_pipesBetween_5 sk_0 (Nat.le_of_ble_eq_true rfl) (show 1 + 0 ≤ k from hk) (show 6 + 0 ≤ z from hz) (fun _ _ hM' hT' => e_pipesBetween_2 hC hx (Nat.le_refl 1) (Nat.le_refl 6) hM' hT') (fun n' hn' => ?_)
  refine j_catch (by decide +kernel) [] (0, 10, 13, 19) [] rfl (fun y hy => absurd hy List.not_mem_nil) (by decide) (by decide) (by decide) (show Cond.classLink RL 19 "java/lang/IndexOutOfBoundsException" ∈ jv_gw from jv_gwm 581 (by decide +kernel) rfl) (fun q => ?_)
  refine j_exst (I := I_L_pipesBetween) (i := 4) (v := none) dL_pipesBetween_13 (by decide) (jok (j0 := 3) rfl rfl) ?_
  refine j_iconst (v := nI 1) dL_pipesBetween_15 nc_iconst_1 ?_
  exact j_iret hM dL_pipesBetween_16 rfl (hT n' hn')

set_option maxHeartbeats 4000000 in
set_option maxRecDepth 100000 in
theorem we_pipesBetween_7 {sx : Nat → jv_S} {g : jv_G} {X : jv_X} {T : jv_T} {n : Nat} {V : Nat → Nat → Int32} {L : Nat → Nat → Int64} {k z : Nat} {N K R : Nat} (hC : Ct V N K R) {f : Nat} (hf : (f < N)) {t : Int32} (hx : t < 0 ∨ nI N ≤ t) (hk : 1 ≤ k) (hz : 6 ≤ z) (hM : jv_M g X T) (hT : ∀ n', n ≤ n' → T (.inl (some (.int (nI 1)))) n' (SH sx) V L) : jv_J g X I_L_pipesBetween 0 [some (jv_r g 0), some (.int (nI f)), some (.int t), some (jv_r g 140), none] [] n (SH sx) V L k z := by
  refine j_aload_n_3 dL_pipesBetween_0 ?_
  refine j_iconst (v := nI 0) dL_pipesBetween_1 nc_iconst_0 ?_
  refine j_aload_n_0 dL_pipesBetween_2 ?_
  refine j_iload_n_1 dL_pipesBetween_3 ?_
  refine j_iload_n_2 dL_pipesBetween_4 ?_
  refine X_L_104 (n1 := 0) (sh1 := fun _ => (0, 0, fun _ => none)) (V1 := fun _ _ => 0) (L1 := fun _ _ => 0) rfl (by decide) dL_pipesBetween_5 sk_0 (Nat.le_of_ble_eq_true rfl) (show 1 + 0 ≤ k from hk) (show 6 + 0 ≤ z from hz) (fun _ _ hM' hT' => e_pipesBetween_7 hC hf hx (Nat.le_refl 1) (Nat.le_refl 6) hM' hT') (fun n' hn' => ?_)
  refine j_catch (by decide +kernel) [] (0, 10, 13, 19) [] rfl (fun y hy => absurd hy List.not_mem_nil) (by decide) (by decide) (by decide) (show Cond.classLink RL 19 "java/lang/IndexOutOfBoundsException" ∈ jv_gw from jv_gwm 581 (by decide +kernel) rfl) (fun q => ?_)
  refine j_exst (I := I_L_pipesBetween) (i := 4) (v := none) dL_pipesBetween_13 (by decide) (jok (j0 := 3) rfl rfl) ?_
  refine j_iconst (v := nI 1) dL_pipesBetween_15 nc_iconst_1 ?_
  exact j_iret hM dL_pipesBetween_16 rfl (hT n' hn')

set_option maxHeartbeats 4000000 in
set_option maxRecDepth 100000 in
theorem wg_farthestFrom {sx : Nat → jv_S} {g : jv_G} {X : jv_X} {T : jv_T} {n : Nat} {V : Nat → Nat → Int32} {L : Nat → Nat → Int64} {k z : Nat} {N K R : Nat} (hC : Ct V N K R) {f : Nat} (hf : (f < N)) (hM : jv_M g X T) (hT : T (.inl (some (.int (nI 0)))) n (SH sx) (fndC V N f) (jv_UL L 140 0 ((nI (farL (fndC V N f) N 0 f) : Int32).toInt64))) : jv_J g X I_L_farthestFrom 0 [some (jv_r g 0), some (.int (nI f)), some (jv_r g 140), none] [] n (SH sx) V L k z := by
  refine j_aload_n_2 dL_farthestFrom_0 ?_
  refine j_iconst (v := nI 0) dL_farthestFrom_1 nc_iconst_0 ?_
  refine j_aload_n_0 dL_farthestFrom_2 ?_
  refine j_iload_n_1 dL_farthestFrom_3 ?_
  refine C_L_107 rfl (by decide) dL_farthestFrom_4 sk_0 (Nat.le_of_ble_eq_true rfl) (Nat.le_of_eq (Nat.zero_add _)) (Nat.le_of_eq (Nat.zero_add _)) (fun _ _ hM' hT' => g_farthestFrom hC hf hM' hT') ?_
  refine j_i2l dL_farthestFrom_7 ?_
  refine j_last dL_farthestFrom_8 sk_140 sn_140 (by decide) (by decide) ?_
  refine j_goto (tgt := 15) dL_farthestFrom_9 (by decide) ?_
  refine j_iconst (v := nI 0) dL_farthestFrom_15 nc_iconst_0 ?_
  exact j_iret hM dL_farthestFrom_16 rfl hT

set_option maxHeartbeats 4000000 in
set_option maxRecDepth 100000 in
theorem we_farthestFrom_2 {sx : Nat → jv_S} {g : jv_G} {X : jv_X} {T : jv_T} {n : Nat} {V : Nat → Nat → Int32} {L : Nat → Nat → Int64} {k z : Nat} {N K R : Nat} (hC : Ct V N K R) {f : Int32} (hx : f < 0 ∨ nI N ≤ f) (hk : 1 ≤ k) (hz : 6 ≤ z) (hM : jv_M g X T) (hT : ∀ n', n ≤ n' → T (.inl (some (.int (nI 1)))) n' (SH sx) V L) : jv_J g X I_L_farthestFrom 0 [some (jv_r g 0), some (.int f), some (jv_r g 140), none] [] n (SH sx) V L k z := by
  refine j_aload_n_2 dL_farthestFrom_0 ?_
  refine j_iconst (v := nI 0) dL_farthestFrom_1 nc_iconst_0 ?_
  refine j_aload_n_0 dL_farthestFrom_2 ?_
  refine j_iload_n_1 dL_farthestFrom_3 ?_
  refine X_L_107 (n1 := 0) (sh1 := fun _ => (0, 0, fun _ => none)) (V1 := fun _ _ => 0) (L1 := fun _ _ => 0) rfl (by decide) dL_farthestFrom_4 sk_0 (Nat.le_of_ble_eq_true rfl) (show 1 + 0 ≤ k from hk) (show 6 + 0 ≤ z from hz) (fun _ _ hM' hT' => e_farthestFrom_2 hC hx (Nat.le_refl 1) (Nat.le_refl 6) hM' hT') (fun n' hn' => ?_)
  refine j_catch (by decide +kernel) [] (0, 9, 12, 19) [] rfl (fun y hy => absurd hy List.not_mem_nil) (by decide) (by decide) (by decide) (show Cond.classLink RL 19 "java/lang/IndexOutOfBoundsException" ∈ jv_gw from jv_gwm 581 (by decide +kernel) rfl) (fun q => ?_)
  refine j_exst_n (I := I_L_farthestFrom) (i := 3) dL_farthestFrom_12 (by decide) (jok (j0 := 2) rfl rfl) ?_
  refine j_iconst (v := nI 1) dL_farthestFrom_13 nc_iconst_1 ?_
  exact j_iret hM dL_farthestFrom_14 rfl (hT n' hn')

set_option maxHeartbeats 4000000 in
set_option maxRecDepth 100000 in
theorem wg_gainBy {sx : Nat → jv_S} {g : jv_G} {X : jv_X} {T : jv_T} {n : Nat} {V : Nat → Nat → Int32} {L : Nat → Nat → Int64} {k z : Nat} {N K R : Nat} (hC : Ct V N K R) {l : Nat} (hl : (l < K)) {f : Nat} (hf : (f < N)) {t : Nat} (ht : (t < N)) (hx : V (20 + 2 * l) 0 = 0 ∨ V (20 + 2 * l) 0 = 1) (hM : jv_M g X T) (hT : T (.inl (some (.int (nI 0)))) n (SH sx) (gbV V N K l f) (jv_UL L 140 0 ((gbR (gb1 V N K l f 29 t) (gb2 V N K l f 29 t) : Int32).toInt64))) : jv_J g X I_L_gainBy 0 [some (jv_r g 0), some (.int (nI l)), some (.int (nI f)), some (.int (nI t)), some (jv_r g 140), none] [] n (SH sx) V L k z := by
  refine j_aload_4 dL_gainBy_0 ?_
  refine j_iconst (v := nI 0) dL_gainBy_2 nc_iconst_0 ?_
  refine j_aload_n_0 dL_gainBy_3 ?_
  refine j_iload_n_1 dL_gainBy_4 ?_
  refine j_iload_n_2 dL_gainBy_5 ?_
  refine j_iload_n_3 dL_gainBy_6 ?_
  refine C_L_110 rfl (by decide) dL_gainBy_7 sk_0 (Nat.le_of_ble_eq_true rfl) (Nat.le_of_eq (Nat.zero_add _)) (Nat.le_of_eq (Nat.zero_add _)) (fun _ _ hM' hT' => g_gainBy hC hl hf ht hx hM' hT') ?_
  refine j_i2l dL_gainBy_10 ?_
  refine j_last dL_gainBy_11 sk_140 sn_140 (by decide) (by decide) ?_
  refine j_goto (tgt := 19) dL_gainBy_12 (by decide) ?_
  refine j_iconst (v := nI 0) dL_gainBy_19 nc_iconst_0 ?_
  exact j_iret hM dL_gainBy_20 rfl hT

set_option maxHeartbeats 4000000 in
set_option maxRecDepth 100000 in
theorem we_gainBy_2 {sx : Nat → jv_S} {g : jv_G} {X : jv_X} {T : jv_T} {n : Nat} {V : Nat → Nat → Int32} {L : Nat → Nat → Int64} {k z : Nat} {N K R : Nat} (hC : Ct V N K R) {l : Int32} {f : Int32} {t : Int32} (hx : l < 0 ∨ nI K ≤ l) (hk : 1 ≤ k) (hz : 6 ≤ z) (hM : jv_M g X T) (hT : ∀ n', n ≤ n' → T (.inl (some (.int (nI 1)))) n' (SH sx) V L) : jv_J g X I_L_gainBy 0 [some (jv_r g 0), some (.int l), some (.int f), some (.int t), some (jv_r g 140), none] [] n (SH sx) V L k z := by
  refine j_aload_4 dL_gainBy_0 ?_
  refine j_iconst (v := nI 0) dL_gainBy_2 nc_iconst_0 ?_
  refine j_aload_n_0 dL_gainBy_3 ?_
  refine j_iload_n_1 dL_gainBy_4 ?_
  refine j_iload_n_2 dL_gainBy_5 ?_
  refine j_iload_n_3 dL_gainBy_6 ?_
  refine X_L_110 (n1 := 0) (sh1 := fun _ => (0, 0, fun _ => none)) (V1 := fun _ _ => 0) (L1 := fun _ _ => 0) rfl (by decide) dL_gainBy_7 sk_0 (Nat.le_of_ble_eq_true rfl) (show 1 + 0 ≤ k from hk) (show 6 + 0 ≤ z from hz) (fun _ _ hM' hT' => e_gainBy_2 hC hx (Nat.le_refl 1) (Nat.le_refl 6) hM' hT') (fun n' hn' => ?_)
  refine j_catch (by decide +kernel) [] (0, 12, 15, 19) [] rfl (fun y hy => absurd hy List.not_mem_nil) (by decide) (by decide) (by decide) (show Cond.classLink RL 19 "java/lang/IndexOutOfBoundsException" ∈ jv_gw from jv_gwm 581 (by decide +kernel) rfl) (fun q => ?_)
  refine j_exst (I := I_L_gainBy) (i := 5) (v := none) dL_gainBy_15 (by decide) (jok (j0 := 4) rfl rfl) ?_
  refine j_iconst (v := nI 1) dL_gainBy_17 nc_iconst_1 ?_
  exact j_iret hM dL_gainBy_18 rfl (hT n' hn')

set_option maxHeartbeats 4000000 in
set_option maxRecDepth 100000 in
theorem we_gainBy_7 {sx : Nat → jv_S} {g : jv_G} {X : jv_X} {T : jv_T} {n : Nat} {V : Nat → Nat → Int32} {L : Nat → Nat → Int64} {k z : Nat} {N K R : Nat} (hC : Ct V N K R) {l : Nat} (hl : (l < K)) {f : Int32} {t : Int32} (hx : f < 0 ∨ nI N ≤ f) (hk : 1 ≤ k) (hz : 6 ≤ z) (hM : jv_M g X T) (hT : ∀ n', n ≤ n' → T (.inl (some (.int (nI 1)))) n' (SH sx) V L) : jv_J g X I_L_gainBy 0 [some (jv_r g 0), some (.int (nI l)), some (.int f), some (.int t), some (jv_r g 140), none] [] n (SH sx) V L k z := by
  refine j_aload_4 dL_gainBy_0 ?_
  refine j_iconst (v := nI 0) dL_gainBy_2 nc_iconst_0 ?_
  refine j_aload_n_0 dL_gainBy_3 ?_
  refine j_iload_n_1 dL_gainBy_4 ?_
  refine j_iload_n_2 dL_gainBy_5 ?_
  refine j_iload_n_3 dL_gainBy_6 ?_
  refine X_L_110 (n1 := 0) (sh1 := fun _ => (0, 0, fun _ => none)) (V1 := fun _ _ => 0) (L1 := fun _ _ => 0) rfl (by decide) dL_gainBy_7 sk_0 (Nat.le_of_ble_eq_true rfl) (show 1 + 0 ≤ k from hk) (show 6 + 0 ≤ z from hz) (fun _ _ hM' hT' => e_gainBy_7 hC hl hx (Nat.le_refl 1) (Nat.le_refl 6) hM' hT') (fun n' hn' => ?_)
  refine j_catch (by decide +kernel) [] (0, 12, 15, 19) [] rfl (fun y hy => absurd hy List.not_mem_nil) (by decide) (by decide) (by decide) (show Cond.classLink RL 19 "java/lang/IndexOutOfBoundsException" ∈ jv_gw from jv_gwm 581 (by decide +kernel) rfl) (fun q => ?_)
  refine j_exst (I := I_L_gainBy) (i := 5) (v := none) dL_gainBy_15 (by decide) (jok (j0 := 4) rfl rfl) ?_
  refine j_iconst (v := nI 1) dL_gainBy_17 nc_iconst_1 ?_
  exact j_iret hM dL_gainBy_18 rfl (hT n' hn')

set_option maxHeartbeats 4000000 in
set_option maxRecDepth 100000 in
theorem we_gainBy_12 {sx : Nat → jv_S} {g : jv_G} {X : jv_X} {T : jv_T} {n : Nat} {V : Nat → Nat → Int32} {L : Nat → Nat → Int64} {k z : Nat} {N K R : Nat} (hC : Ct V N K R) {l : Nat} (hl : (l < K)) {f : Nat} (hf : (f < N)) {t : Int32} (hx : t < 0 ∨ nI N ≤ t) (hk : 1 ≤ k) (hz : 6 ≤ z) (hM : jv_M g X T) (hT : ∀ n', n ≤ n' → T (.inl (some (.int (nI 1)))) n' (SH sx) V L) : jv_J g X I_L_gainBy 0 [some (jv_r g 0), some (.int (nI l)), some (.int (nI f)), some (.int t), some (jv_r g 140), none] [] n (SH sx) V L k z := by
  refine j_aload_4 dL_gainBy_0 ?_
  refine j_iconst (v := nI 0) dL_gainBy_2 nc_iconst_0 ?_
  refine j_aload_n_0 dL_gainBy_3 ?_
  refine j_iload_n_1 dL_gainBy_4 ?_
  refine j_iload_n_2 dL_gainBy_5 ?_
  refine j_iload_n_3 dL_gainBy_6 ?_
  refine X_L_110 (n1 := 0) (sh1 := fun _ => (0, 0, fun _ => none)) (V1 := fun _ _ => 0) (L1 := fun _ _ => 0) rfl (by decide) dL_gainBy_7 sk_0 (Nat.le_of_ble_eq_true rfl) (show 1 + 0 ≤ k from hk) (show 6 + 0 ≤ z from hz) (fun _ _ hM' hT' => e_gainBy_12 hC hl hf hx (Nat.le_refl 1) (Nat.le_refl 6) hM' hT') (fun n' hn' => ?_)
  refine j_catch (by decide +kernel) [] (0, 12, 15, 19) [] rfl (fun y hy => absurd hy List.not_mem_nil) (by decide) (by decide) (by decide) (show Cond.classLink RL 19 "java/lang/IndexOutOfBoundsException" ∈ jv_gw from jv_gwm 581 (by decide +kernel) rfl) (fun q => ?_)
  refine j_exst (I := I_L_gainBy) (i := 5) (v := none) dL_gainBy_15 (by decide) (jok (j0 := 4) rfl rfl) ?_
  refine j_iconst (v := nI 1) dL_gainBy_17 nc_iconst_1 ?_
  exact j_iret hM dL_gainBy_18 rfl (hT n' hn')

set_option maxHeartbeats 4000000 in
set_option maxRecDepth 100000 in
theorem wg_wouldHear {sx : Nat → jv_S} {g : jv_G} {X : jv_X} {T : jv_T} {n : Nat} {V : Nat → Nat → Int32} {L : Nat → Nat → Int64} {k z : Nat} {N K R : Nat} (hC : Ct V N K R) {j : Nat} (hj : (j < R)) {f : Nat} (hf : (f < N)) (hM : jv_M g X T) (hT : T (.inl (some (.int (nI 0)))) n (SH sx) (triV V N j) (jv_UL L 140 0 ((triV V N j 35 f : Int32).toInt64))) : jv_J g X I_L_wouldHear 0 [some (jv_r g 0), some (.int (nI j)), some (.int (nI f)), some (jv_r g 140), none] [] n (SH sx) V L k z := by
  refine j_aload_n_3 dL_wouldHear_0 ?_
  refine j_iconst (v := nI 0) dL_wouldHear_1 nc_iconst_0 ?_
  refine j_aload_n_0 dL_wouldHear_2 ?_
  refine j_iload_n_1 dL_wouldHear_3 ?_
  refine j_iload_n_2 dL_wouldHear_4 ?_
  refine C_L_114 rfl (by decide) dL_wouldHear_5 sk_0 (Nat.le_of_ble_eq_true rfl) (Nat.le_of_eq (Nat.zero_add _)) (Nat.le_of_eq (Nat.zero_add _)) (fun _ _ hM' hT' => g_wouldHear hC hj hf hM' hT') ?_
  refine j_i2l dL_wouldHear_8 ?_
  refine j_last dL_wouldHear_9 sk_140 sn_140 (by decide) (by decide) ?_
  refine j_goto (tgt := 17) dL_wouldHear_10 (by decide) ?_
  refine j_iconst (v := nI 0) dL_wouldHear_17 nc_iconst_0 ?_
  exact j_iret hM dL_wouldHear_18 rfl hT

set_option maxHeartbeats 4000000 in
set_option maxRecDepth 100000 in
theorem we_wouldHear_2 {sx : Nat → jv_S} {g : jv_G} {X : jv_X} {T : jv_T} {n : Nat} {V : Nat → Nat → Int32} {L : Nat → Nat → Int64} {k z : Nat} {N K R : Nat} (hC : Ct V N K R) {j : Int32} {f : Int32} (hx : j < 0 ∨ nI R ≤ j) (hk : 1 ≤ k) (hz : 6 ≤ z) (hM : jv_M g X T) (hT : ∀ n', n ≤ n' → T (.inl (some (.int (nI 1)))) n' (SH sx) V L) : jv_J g X I_L_wouldHear 0 [some (jv_r g 0), some (.int j), some (.int f), some (jv_r g 140), none] [] n (SH sx) V L k z := by
  refine j_aload_n_3 dL_wouldHear_0 ?_
  refine j_iconst (v := nI 0) dL_wouldHear_1 nc_iconst_0 ?_
  refine j_aload_n_0 dL_wouldHear_2 ?_
  refine j_iload_n_1 dL_wouldHear_3 ?_
  refine j_iload_n_2 dL_wouldHear_4 ?_
  refine X_L_114 (n1 := 0) (sh1 := fun _ => (0, 0, fun _ => none)) (V1 := fun _ _ => 0) (L1 := fun _ _ => 0) rfl (by decide) dL_wouldHear_5 sk_0 (Nat.le_of_ble_eq_true rfl) (show 1 + 0 ≤ k from hk) (show 6 + 0 ≤ z from hz) (fun _ _ hM' hT' => e_wouldHear_2 hC hx (Nat.le_refl 1) (Nat.le_refl 6) hM' hT') (fun n' hn' => ?_)
  refine j_catch (by decide +kernel) [] (0, 10, 13, 19) [] rfl (fun y hy => absurd hy List.not_mem_nil) (by decide) (by decide) (by decide) (show Cond.classLink RL 19 "java/lang/IndexOutOfBoundsException" ∈ jv_gw from jv_gwm 581 (by decide +kernel) rfl) (fun q => ?_)
  refine j_exst (I := I_L_wouldHear) (i := 4) (v := none) dL_wouldHear_13 (by decide) (jok (j0 := 3) rfl rfl) ?_
  refine j_iconst (v := nI 1) dL_wouldHear_15 nc_iconst_1 ?_
  exact j_iret hM dL_wouldHear_16 rfl (hT n' hn')

set_option maxHeartbeats 4000000 in
set_option maxRecDepth 100000 in
theorem we_wouldHear_7 {sx : Nat → jv_S} {g : jv_G} {X : jv_X} {T : jv_T} {n : Nat} {V : Nat → Nat → Int32} {L : Nat → Nat → Int64} {k z : Nat} {N K R : Nat} (hC : Ct V N K R) {j : Nat} (hj : (j < R)) {f : Int32} (hx : f < 0 ∨ nI N ≤ f) (hk : 1 ≤ k) (hz : 6 ≤ z) (hM : jv_M g X T) (hT : ∀ n', n ≤ n' → T (.inl (some (.int (nI 1)))) n' (SH sx) V L) : jv_J g X I_L_wouldHear 0 [some (jv_r g 0), some (.int (nI j)), some (.int f), some (jv_r g 140), none] [] n (SH sx) V L k z := by
  refine j_aload_n_3 dL_wouldHear_0 ?_
  refine j_iconst (v := nI 0) dL_wouldHear_1 nc_iconst_0 ?_
  refine j_aload_n_0 dL_wouldHear_2 ?_
  refine j_iload_n_1 dL_wouldHear_3 ?_
  refine j_iload_n_2 dL_wouldHear_4 ?_
  refine X_L_114 (n1 := 0) (sh1 := fun _ => (0, 0, fun _ => none)) (V1 := fun _ _ => 0) (L1 := fun _ _ => 0) rfl (by decide) dL_wouldHear_5 sk_0 (Nat.le_of_ble_eq_true rfl) (show 1 + 0 ≤ k from hk) (show 6 + 0 ≤ z from hz) (fun _ _ hM' hT' => e_wouldHear_7 hC hj hx (Nat.le_refl 1) (Nat.le_refl 6) hM' hT') (fun n' hn' => ?_)
  refine j_catch (by decide +kernel) [] (0, 10, 13, 19) [] rfl (fun y hy => absurd hy List.not_mem_nil) (by decide) (by decide) (by decide) (show Cond.classLink RL 19 "java/lang/IndexOutOfBoundsException" ∈ jv_gw from jv_gwm 581 (by decide +kernel) rfl) (fun q => ?_)
  refine j_exst (I := I_L_wouldHear) (i := 4) (v := none) dL_wouldHear_13 (by decide) (jok (j0 := 3) rfl rfl) ?_
  refine j_iconst (v := nI 1) dL_wouldHear_15 nc_iconst_1 ?_
  exact j_iret hM dL_wouldHear_16 rfl (hT n' hn')

set_option maxHeartbeats 4000000 in
set_option maxRecDepth 100000 in
theorem wg_believersInTheEnd {sx : Nat → jv_S} {g : jv_G} {X : jv_X} {T : jv_T} {n : Nat} {V : Nat → Nat → Int32} {L : Nat → Nat → Int64} {k z : Nat} {N K R : Nat} (hC : Ct V N K R) {j : Nat} (hj : (j < R)) (hM : jv_M g X T) (hT : T (.inl (some (.int (nI 0)))) n (SH sx) (triV V N j) (jv_UL L 140 0 ((hbL (triV V N j) 33 N 0 (nI 0) : Int32).toInt64))) : jv_J g X I_L_believersInTheEnd 0 [some (jv_r g 0), some (.int (nI j)), some (jv_r g 140), none] [] n (SH sx) V L k z := by
  refine j_aload_n_2 dL_believersInTheEnd_0 ?_
  refine j_iconst (v := nI 0) dL_believersInTheEnd_1 nc_iconst_0 ?_
  refine j_aload_n_0 dL_believersInTheEnd_2 ?_
  refine j_iload_n_1 dL_believersInTheEnd_3 ?_
  refine C_L_117 rfl (by decide) dL_believersInTheEnd_4 sk_0 (Nat.le_of_ble_eq_true rfl) (Nat.le_of_eq (Nat.zero_add _)) (Nat.le_of_eq (Nat.zero_add _)) (fun _ _ hM' hT' => g_believersInTheEnd hC hj hM' hT') ?_
  refine j_i2l dL_believersInTheEnd_7 ?_
  refine j_last dL_believersInTheEnd_8 sk_140 sn_140 (by decide) (by decide) ?_
  refine j_goto (tgt := 15) dL_believersInTheEnd_9 (by decide) ?_
  refine j_iconst (v := nI 0) dL_believersInTheEnd_15 nc_iconst_0 ?_
  exact j_iret hM dL_believersInTheEnd_16 rfl hT

set_option maxHeartbeats 4000000 in
set_option maxRecDepth 100000 in
theorem we_believersInTheEnd_2 {sx : Nat → jv_S} {g : jv_G} {X : jv_X} {T : jv_T} {n : Nat} {V : Nat → Nat → Int32} {L : Nat → Nat → Int64} {k z : Nat} {N K R : Nat} (hC : Ct V N K R) {j : Int32} (hx : j < 0 ∨ nI R ≤ j) (hk : 1 ≤ k) (hz : 6 ≤ z) (hM : jv_M g X T) (hT : ∀ n', n ≤ n' → T (.inl (some (.int (nI 1)))) n' (SH sx) V L) : jv_J g X I_L_believersInTheEnd 0 [some (jv_r g 0), some (.int j), some (jv_r g 140), none] [] n (SH sx) V L k z := by
  refine j_aload_n_2 dL_believersInTheEnd_0 ?_
  refine j_iconst (v := nI 0) dL_believersInTheEnd_1 nc_iconst_0 ?_
  refine j_aload_n_0 dL_believersInTheEnd_2 ?_
  refine j_iload_n_1 dL_believersInTheEnd_3 ?_
  refine X_L_117 (n1 := 0) (sh1 := fun _ => (0, 0, fun _ => none)) (V1 := fun _ _ => 0) (L1 := fun _ _ => 0) rfl (by decide) dL_believersInTheEnd_4 sk_0 (Nat.le_of_ble_eq_true rfl) (show 1 + 0 ≤ k from hk) (show 6 + 0 ≤ z from hz) (fun _ _ hM' hT' => e_believersInTheEnd_2 hC hx (Nat.le_refl 1) (Nat.le_refl 6) hM' hT') (fun n' hn' => ?_)
  refine j_catch (by decide +kernel) [] (0, 9, 12, 19) [] rfl (fun y hy => absurd hy List.not_mem_nil) (by decide) (by decide) (by decide) (show Cond.classLink RL 19 "java/lang/IndexOutOfBoundsException" ∈ jv_gw from jv_gwm 581 (by decide +kernel) rfl) (fun q => ?_)
  refine j_exst_n (I := I_L_believersInTheEnd) (i := 3) dL_believersInTheEnd_12 (by decide) (jok (j0 := 2) rfl rfl) ?_
  refine j_iconst (v := nI 1) dL_believersInTheEnd_13 nc_iconst_1 ?_
  exact j_iret hM dL_believersInTheEnd_14 rfl (hT n' hn')

set_option maxHeartbeats 4000000 in
set_option maxRecDepth 100000 in
theorem wg_quietIn {sx : Nat → jv_S} {g : jv_G} {X : jv_X} {T : jv_T} {n : Nat} {V : Nat → Nat → Int32} {L : Nat → Nat → Int64} {k z : Nat} {N K R : Nat} (hC : Ct V N K R) {j : Nat} (hj : (j < R)) (hM : jv_M g X T) (hT : T (.inl (some (.int (nI 0)))) n (SH sx) (triV V N j) (jv_UL L 140 0 ((qtR V N j : Int32).toInt64))) : jv_J g X I_L_quietIn 0 [some (jv_r g 0), some (.int (nI j)), some (jv_r g 140), none] [] n (SH sx) V L k z := by
  refine j_aload_n_2 dL_quietIn_0 ?_
  refine j_iconst (v := nI 0) dL_quietIn_1 nc_iconst_0 ?_
  refine j_aload_n_0 dL_quietIn_2 ?_
  refine j_iload_n_1 dL_quietIn_3 ?_
  refine C_L_120 rfl (by decide) dL_quietIn_4 sk_0 (Nat.le_of_ble_eq_true rfl) (Nat.le_of_eq (Nat.zero_add _)) (Nat.le_of_eq (Nat.zero_add _)) (fun _ _ hM' hT' => g_quietIn hC hj hM' hT') ?_
  refine j_i2l dL_quietIn_7 ?_
  refine j_last dL_quietIn_8 sk_140 sn_140 (by decide) (by decide) ?_
  refine j_goto (tgt := 15) dL_quietIn_9 (by decide) ?_
  refine j_iconst (v := nI 0) dL_quietIn_15 nc_iconst_0 ?_
  exact j_iret hM dL_quietIn_16 rfl hT

set_option maxHeartbeats 4000000 in
set_option maxRecDepth 100000 in
theorem we_quietIn_2 {sx : Nat → jv_S} {g : jv_G} {X : jv_X} {T : jv_T} {n : Nat} {V : Nat → Nat → Int32} {L : Nat → Nat → Int64} {k z : Nat} {N K R : Nat} (hC : Ct V N K R) {j : Int32} (hx : j < 0 ∨ nI R ≤ j) (hk : 1 ≤ k) (hz : 6 ≤ z) (hM : jv_M g X T) (hT : ∀ n', n ≤ n' → T (.inl (some (.int (nI 1)))) n' (SH sx) V L) : jv_J g X I_L_quietIn 0 [some (jv_r g 0), some (.int j), some (jv_r g 140), none] [] n (SH sx) V L k z := by
  refine j_aload_n_2 dL_quietIn_0 ?_
  refine j_iconst (v := nI 0) dL_quietIn_1 nc_iconst_0 ?_
  refine j_aload_n_0 dL_quietIn_2 ?_
  refine j_iload_n_1 dL_quietIn_3 ?_
  refine X_L_120 (n1 := 0) (sh1 := fun _ => (0, 0, fun _ => none)) (V1 := fun _ _ => 0) (L1 := fun _ _ => 0) rfl (by decide) dL_quietIn_4 sk_0 (Nat.le_of_ble_eq_true rfl) (show 1 + 0 ≤ k from hk) (show 6 + 0 ≤ z from hz) (fun _ _ hM' hT' => e_quietIn_2 hC hx (Nat.le_refl 1) (Nat.le_refl 6) hM' hT') (fun n' hn' => ?_)
  refine j_catch (by decide +kernel) [] (0, 9, 12, 19) [] rfl (fun y hy => absurd hy List.not_mem_nil) (by decide) (by decide) (by decide) (show Cond.classLink RL 19 "java/lang/IndexOutOfBoundsException" ∈ jv_gw from jv_gwm 581 (by decide +kernel) rfl) (fun q => ?_)
  refine j_exst_n (I := I_L_quietIn) (i := 3) dL_quietIn_12 (by decide) (jok (j0 := 2) rfl rfl) ?_
  refine j_iconst (v := nI 1) dL_quietIn_13 nc_iconst_1 ?_
  exact j_iret hM dL_quietIn_14 rfl (hT n' hn')

set_option maxHeartbeats 4000000 in
set_option maxRecDepth 100000 in
theorem wg_believersWith {sx : Nat → jv_S} {g : jv_G} {X : jv_X} {T : jv_T} {n : Nat} {V : Nat → Nat → Int32} {L : Nat → Nat → Int64} {k z : Nat} {N K R : Nat} (hC : Ct V N K R) {j : Nat} (hj : (j < R)) {f : Nat} (hf : (f < N)) (hM : jv_M g X T) (hT : T (.inl (some (.int (nI 0)))) n (SH sx) (triD V N j f) (jv_UL L 140 0 ((hbL (triD V N j f) 33 N 0 (nI 0) : Int32).toInt64))) : jv_J g X I_L_believersWith 0 [some (jv_r g 0), some (.int (nI j)), some (.int (nI f)), some (jv_r g 140), none] [] n (SH sx) V L k z := by
  refine j_aload_n_3 dL_believersWith_0 ?_
  refine j_iconst (v := nI 0) dL_believersWith_1 nc_iconst_0 ?_
  refine j_aload_n_0 dL_believersWith_2 ?_
  refine j_iload_n_1 dL_believersWith_3 ?_
  refine j_iload_n_2 dL_believersWith_4 ?_
  refine C_L_123 rfl (by decide) dL_believersWith_5 sk_0 (Nat.le_of_ble_eq_true rfl) (Nat.le_of_eq (Nat.zero_add _)) (Nat.le_of_eq (Nat.zero_add _)) (fun _ _ hM' hT' => g_believersWith hC hj hf hM' hT') ?_
  refine j_i2l dL_believersWith_8 ?_
  refine j_last dL_believersWith_9 sk_140 sn_140 (by decide) (by decide) ?_
  refine j_goto (tgt := 17) dL_believersWith_10 (by decide) ?_
  refine j_iconst (v := nI 0) dL_believersWith_17 nc_iconst_0 ?_
  exact j_iret hM dL_believersWith_18 rfl hT

set_option maxHeartbeats 4000000 in
set_option maxRecDepth 100000 in
theorem we_believersWith_2 {sx : Nat → jv_S} {g : jv_G} {X : jv_X} {T : jv_T} {n : Nat} {V : Nat → Nat → Int32} {L : Nat → Nat → Int64} {k z : Nat} {N K R : Nat} (hC : Ct V N K R) {j : Int32} {f : Int32} (hx : j < 0 ∨ nI R ≤ j) (hk : 1 ≤ k) (hz : 6 ≤ z) (hM : jv_M g X T) (hT : ∀ n', n ≤ n' → T (.inl (some (.int (nI 1)))) n' (SH sx) V L) : jv_J g X I_L_believersWith 0 [some (jv_r g 0), some (.int j), some (.int f), some (jv_r g 140), none] [] n (SH sx) V L k z := by
  refine j_aload_n_3 dL_believersWith_0 ?_
  refine j_iconst (v := nI 0) dL_believersWith_1 nc_iconst_0 ?_
  refine j_aload_n_0 dL_believersWith_2 ?_
  refine j_iload_n_1 dL_believersWith_3 ?_
  refine j_iload_n_2 dL_believersWith_4 ?_
  refine X_L_123 (n1 := 0) (sh1 := fun _ => (0, 0, fun _ => none)) (V1 := fun _ _ => 0) (L1 := fun _ _ => 0) rfl (by decide) dL_believersWith_5 sk_0 (Nat.le_of_ble_eq_true rfl) (show 1 + 0 ≤ k from hk) (show 6 + 0 ≤ z from hz) (fun _ _ hM' hT' => e_believersWith_2 hC hx (Nat.le_refl 1) (Nat.le_refl 6) hM' hT') (fun n' hn' => ?_)
  refine j_catch (by decide +kernel) [] (0, 10, 13, 19) [] rfl (fun y hy => absurd hy List.not_mem_nil) (by decide) (by decide) (by decide) (show Cond.classLink RL 19 "java/lang/IndexOutOfBoundsException" ∈ jv_gw from jv_gwm 581 (by decide +kernel) rfl) (fun q => ?_)
  refine j_exst (I := I_L_believersWith) (i := 4) (v := none) dL_believersWith_13 (by decide) (jok (j0 := 3) rfl rfl) ?_
  refine j_iconst (v := nI 1) dL_believersWith_15 nc_iconst_1 ?_
  exact j_iret hM dL_believersWith_16 rfl (hT n' hn')

set_option maxHeartbeats 4000000 in
set_option maxRecDepth 100000 in
theorem we_believersWith_7 {sx : Nat → jv_S} {g : jv_G} {X : jv_X} {T : jv_T} {n : Nat} {V : Nat → Nat → Int32} {L : Nat → Nat → Int64} {k z : Nat} {N K R : Nat} (hC : Ct V N K R) {j : Nat} (hj : (j < R)) {f : Int32} (hx : f < 0 ∨ nI N ≤ f) (hk : 1 ≤ k) (hz : 6 ≤ z) (hM : jv_M g X T) (hT : ∀ n', n ≤ n' → T (.inl (some (.int (nI 1)))) n' (SH sx) V L) : jv_J g X I_L_believersWith 0 [some (jv_r g 0), some (.int (nI j)), some (.int f), some (jv_r g 140), none] [] n (SH sx) V L k z := by
  refine j_aload_n_3 dL_believersWith_0 ?_
  refine j_iconst (v := nI 0) dL_believersWith_1 nc_iconst_0 ?_
  refine j_aload_n_0 dL_believersWith_2 ?_
  refine j_iload_n_1 dL_believersWith_3 ?_
  refine j_iload_n_2 dL_believersWith_4 ?_
  refine X_L_123 (n1 := 0) (sh1 := fun _ => (0, 0, fun _ => none)) (V1 := fun _ _ => 0) (L1 := fun _ _ => 0) rfl (by decide) dL_believersWith_5 sk_0 (Nat.le_of_ble_eq_true rfl) (show 1 + 0 ≤ k from hk) (show 6 + 0 ≤ z from hz) (fun _ _ hM' hT' => e_believersWith_7 hC hj hx (Nat.le_refl 1) (Nat.le_refl 6) hM' hT') (fun n' hn' => ?_)
  refine j_catch (by decide +kernel) [] (0, 10, 13, 19) [] rfl (fun y hy => absurd hy List.not_mem_nil) (by decide) (by decide) (by decide) (show Cond.classLink RL 19 "java/lang/IndexOutOfBoundsException" ∈ jv_gw from jv_gwm 581 (by decide +kernel) rfl) (fun q => ?_)
  refine j_exst (I := I_L_believersWith) (i := 4) (v := none) dL_believersWith_13 (by decide) (jok (j0 := 3) rfl rfl) ?_
  refine j_iconst (v := nI 1) dL_believersWith_15 nc_iconst_1 ?_
  exact j_iret hM dL_believersWith_16 rfl (hT n' hn')

set_option maxHeartbeats 4000000 in
set_option maxRecDepth 100000 in
theorem wg_bestDenial {sx : Nat → jv_S} {g : jv_G} {X : jv_X} {T : jv_T} {n : Nat} {V : Nat → Nat → Int32} {L : Nat → Nat → Int64} {k z : Nat} {N K R : Nat} (hC : Ct V N K R) {j : Nat} (hj : (j < R)) (hM : jv_M g X T) (hT : T (.inl (some (.int (nI 0)))) n (SH sx) (bdV N j (N - 1) 1 (triD V N j 0)) (jv_UL L 140 0 ((nI (bdB N j (N - 1) 1 (triD V N j 0) 0 (hbL (triD V N j 0) 33 N 0 (nI 0))) : Int32).toInt64))) : jv_J g X I_L_bestDenial 0 [some (jv_r g 0), some (.int (nI j)), some (jv_r g 140), none] [] n (SH sx) V L k z := by
  refine j_aload_n_2 dL_bestDenial_0 ?_
  refine j_iconst (v := nI 0) dL_bestDenial_1 nc_iconst_0 ?_
  refine j_aload_n_0 dL_bestDenial_2 ?_
  refine j_iload_n_1 dL_bestDenial_3 ?_
  refine C_L_126 rfl (by decide) dL_bestDenial_4 sk_0 (Nat.le_of_ble_eq_true rfl) (Nat.le_of_eq (Nat.zero_add _)) (Nat.le_of_eq (Nat.zero_add _)) (fun _ _ hM' hT' => g_bestDenial hC hj hM' hT') ?_
  refine j_i2l dL_bestDenial_7 ?_
  refine j_last dL_bestDenial_8 sk_140 sn_140 (by decide) (by decide) ?_
  refine j_goto (tgt := 15) dL_bestDenial_9 (by decide) ?_
  refine j_iconst (v := nI 0) dL_bestDenial_15 nc_iconst_0 ?_
  exact j_iret hM dL_bestDenial_16 rfl hT

set_option maxHeartbeats 4000000 in
set_option maxRecDepth 100000 in
theorem we_bestDenial_2 {sx : Nat → jv_S} {g : jv_G} {X : jv_X} {T : jv_T} {n : Nat} {V : Nat → Nat → Int32} {L : Nat → Nat → Int64} {k z : Nat} {N K R : Nat} (hC : Ct V N K R) {j : Int32} (hx : j < 0 ∨ nI R ≤ j) (hk : 1 ≤ k) (hz : 6 ≤ z) (hM : jv_M g X T) (hT : ∀ n', n ≤ n' → T (.inl (some (.int (nI 1)))) n' (SH sx) V L) : jv_J g X I_L_bestDenial 0 [some (jv_r g 0), some (.int j), some (jv_r g 140), none] [] n (SH sx) V L k z := by
  refine j_aload_n_2 dL_bestDenial_0 ?_
  refine j_iconst (v := nI 0) dL_bestDenial_1 nc_iconst_0 ?_
  refine j_aload_n_0 dL_bestDenial_2 ?_
  refine j_iload_n_1 dL_bestDenial_3 ?_
  refine X_L_126 (n1 := 0) (sh1 := fun _ => (0, 0, fun _ => none)) (V1 := fun _ _ => 0) (L1 := fun _ _ => 0) rfl (by decide) dL_bestDenial_4 sk_0 (Nat.le_of_ble_eq_true rfl) (show 1 + 0 ≤ k from hk) (show 6 + 0 ≤ z from hz) (fun _ _ hM' hT' => e_bestDenial_2 hC hx (Nat.le_refl 1) (Nat.le_refl 6) hM' hT') (fun n' hn' => ?_)
  refine j_catch (by decide +kernel) [] (0, 9, 12, 19) [] rfl (fun y hy => absurd hy List.not_mem_nil) (by decide) (by decide) (by decide) (show Cond.classLink RL 19 "java/lang/IndexOutOfBoundsException" ∈ jv_gw from jv_gwm 581 (by decide +kernel) rfl) (fun q => ?_)
  refine j_exst_n (I := I_L_bestDenial) (i := 3) dL_bestDenial_12 (by decide) (jok (j0 := 2) rfl rfl) ?_
  refine j_iconst (v := nI 1) dL_bestDenial_13 nc_iconst_1 ?_
  exact j_iret hM dL_bestDenial_14 rfl (hT n' hn')

set_option maxHeartbeats 4000000 in
set_option maxRecDepth 100000 in
theorem wg_bestStairsToShut {sx : Nat → jv_S} {g : jv_G} {X : jv_X} {T : jv_T} {n : Nat} {V : Nat → Nat → Int32} {L : Nat → Nat → Int64} {k z : Nat} {N K R : Nat} (hC : Ct V N K R) {j : Nat} (hj : (j < R)) (hM : jv_M g X T) (hT : T (.inl (some (.int (nI 0)))) n (SH sx) ((bsL N K j (N - 1) 0 (triV V N j) none (hbL (triV V N j) 33 N 0 (nI 0))).1) (jv_UL L 140 0 ((ov (bsL N K j (N - 1) 0 (triV V N j) none (hbL (triV V N j) 33 N 0 (nI 0))).2 : Int32).toInt64))) : jv_J g X I_L_bestStairsToShut 0 [some (jv_r g 0), some (.int (nI j)), some (jv_r g 140), none] [] n (SH sx) V L k z := by
  refine j_aload_n_2 dL_bestStairsToShut_0 ?_
  refine j_iconst (v := nI 0) dL_bestStairsToShut_1 nc_iconst_0 ?_
  refine j_aload_n_0 dL_bestStairsToShut_2 ?_
  refine j_iload_n_1 dL_bestStairsToShut_3 ?_
  refine C_L_129 rfl (by decide) dL_bestStairsToShut_4 sk_0 (Nat.le_of_ble_eq_true rfl) (Nat.le_of_eq (Nat.zero_add _)) (Nat.le_of_eq (Nat.zero_add _)) (fun _ _ hM' hT' => g_bestStairsToShut hC hj hM' hT') ?_
  refine j_i2l dL_bestStairsToShut_7 ?_
  refine j_last dL_bestStairsToShut_8 sk_140 sn_140 (by decide) (by decide) ?_
  refine j_goto (tgt := 15) dL_bestStairsToShut_9 (by decide) ?_
  refine j_iconst (v := nI 0) dL_bestStairsToShut_15 nc_iconst_0 ?_
  exact j_iret hM dL_bestStairsToShut_16 rfl hT

set_option maxHeartbeats 4000000 in
set_option maxRecDepth 100000 in
theorem we_bestStairsToShut_2 {sx : Nat → jv_S} {g : jv_G} {X : jv_X} {T : jv_T} {n : Nat} {V : Nat → Nat → Int32} {L : Nat → Nat → Int64} {k z : Nat} {N K R : Nat} (hC : Ct V N K R) {j : Int32} (hx : j < 0 ∨ nI R ≤ j) (hk : 1 ≤ k) (hz : 6 ≤ z) (hM : jv_M g X T) (hT : ∀ n', n ≤ n' → T (.inl (some (.int (nI 1)))) n' (SH sx) V L) : jv_J g X I_L_bestStairsToShut 0 [some (jv_r g 0), some (.int j), some (jv_r g 140), none] [] n (SH sx) V L k z := by
  refine j_aload_n_2 dL_bestStairsToShut_0 ?_
  refine j_iconst (v := nI 0) dL_bestStairsToShut_1 nc_iconst_0 ?_
  refine j_aload_n_0 dL_bestStairsToShut_2 ?_
  refine j_iload_n_1 dL_bestStairsToShut_3 ?_
  refine X_L_129 (n1 := 0) (sh1 := fun _ => (0, 0, fun _ => none)) (V1 := fun _ _ => 0) (L1 := fun _ _ => 0) rfl (by decide) dL_bestStairsToShut_4 sk_0 (Nat.le_of_ble_eq_true rfl) (show 1 + 0 ≤ k from hk) (show 6 + 0 ≤ z from hz) (fun _ _ hM' hT' => e_bestStairsToShut_2 hC hx (Nat.le_refl 1) (Nat.le_refl 6) hM' hT') (fun n' hn' => ?_)
  refine j_catch (by decide +kernel) [] (0, 9, 12, 19) [] rfl (fun y hy => absurd hy List.not_mem_nil) (by decide) (by decide) (by decide) (show Cond.classLink RL 19 "java/lang/IndexOutOfBoundsException" ∈ jv_gw from jv_gwm 581 (by decide +kernel) rfl) (fun q => ?_)
  refine j_exst_n (I := I_L_bestStairsToShut) (i := 3) dL_bestStairsToShut_12 (by decide) (jok (j0 := 2) rfl rfl) ?_
  refine j_iconst (v := nI 1) dL_bestStairsToShut_13 nc_iconst_1 ?_
  exact j_iret hM dL_bestStairsToShut_14 rfl (hT n' hn')
