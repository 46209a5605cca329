/-! ===== the law's loop ===== -/
set_option maxHeartbeats 4000000 in
set_option maxRecDepth 100000 in
theorem law_loop {g : jv_G} {X : jv_X} {b M : Nat} {xs : Nat → Int32} (hSc : Sc g X b M xs) (hM : M ≤ 2560) (hEnd : ∀ ls n sh V L k z, jv_J g X I_L_law 2718 ls [] n sh V L k z) : ∀ (m i n : Nat) (sx : Nat → jv_S) (V : Nat → Nat → Int32) (L : Nat → Nat → Int64) (k z N K R t : Nat) (v5 v6 v7 v8 : Option Value), M < i + 5 * m + 5 → i ≤ 10000 → INV V V N K R t → t + 60 * m ≤ 2 ^ 28 → 22 * m ≤ k → 144 * m ≤ z → jv_J g X I_L_law 23 (lws g b i v5 v6 v7 v8) [] n (SH sx) V L k z := by
  intro m
  induction m with
  | zero =>
    intro i n sx V L k z N K R t v5 v6 v7 v8 hi hib H _ _ _
    refine j_iload_4 dL_law_23 ?_
    refine jl_ld0 dL_law_25 ?_
    refine jl_slen hSc dL_law_26 ?_
    refine j_iconst (v := nI 5) dL_law_27 nc_iconst_5 ?_
    refine j_isub dL_law_28 ?_
    refine j_ic_gt (tgt := 2718) dL_law_29 (by decide) (fun _ => hEnd _ _ _ _ _ _ _) (fun h => absurd ?_ h)
    rw [Int32.lt_iff_toInt_lt, pk_sub_toInt (by omega) (by omega), nI_toInt (by omega)]
    omega
  | succ m ih =>
    intro i n sx V L k z N K R t v5 v6 v7 v8 hi hib H ht hk hz
    refine j_iload_4 dL_law_23 ?_
    refine jl_ld0 dL_law_25 ?_
    refine jl_slen hSc dL_law_26 ?_
    refine j_iconst (v := nI 5) dL_law_27 nc_iconst_5 ?_
    refine j_isub dL_law_28 ?_
    refine j_ic_gt (tgt := 2718) dL_law_29 (by decide) (fun _ => hEnd _ _ _ _ _ _ _) (fun h => ?_)
    have hi5 : i + 5 ≤ M := by
      rw [Int32.lt_iff_toInt_lt, pk_sub_toInt (by omega) (by omega), nI_toInt (by omega)] at h
      omega
    refine jl_ld0 dL_law_32 ?_
    refine j_iload_4 dL_law_33 ?_
    refine jl_sld hSc (by omega) hM dL_law_35 ?_
    refine j_bipush (v := nI 63) dL_law_36 nc_bipush_63 ?_
    refine j_iand dL_law_38 ?_
    obtain ⟨j, hj, ej⟩ := pk_andE (xs i) (m := nI 63) 6 (by decide +kernel)
    refine j_top (y := nI j) ej ?_
    have next : ∀ n' sx' V' L' N' K' R' t' w5 w6 w7 w8, INV V' V' N' K' R' t' → t' ≤ t + 60 → jv_J g X I_L_law 2712 (lws g b i w5 w6 w7 w8) [] n' (SH sx') V' L' (k - 22) (z - 144) := by
      intro n' sx' V' L' N' K' R' t' w5 w6 w7 w8 H' ht'
      refine j_iinc_4 (v := nI (i + 5)) rfl (by decide) dL_law_2712 (by rw [show Int32.ofInt 5 = nI 5 from by decide +kernel, nI_add]) ?_
      refine j_goto (tgt := 23) dL_law_2715 (by decide) ?_
      exact ih (i + 5) n' sx' V' L' (k - 22) (z - 144) N' K' R' t' w5 w6 w7 w8 (by omega) (by omega) H' (by omega) (by omega) (by omega)
    have ht2 : t + 60 ≤ 2 ^ 29 := by omega
    have hk2 : 22 ≤ k := by omega
    have hz2 : 144 ≤ z := by omega
    exact law_sw hj (fun _ => br_0 hSc hM hi5 H ht2 hk2 hz2 next) (fun _ => br_1 hSc hM hi5 H ht2 hk2 hz2 next) (fun _ => br_2 hSc hM hi5 H ht2 hk2 hz2 next) (fun _ => br_3 hSc hM hi5 H ht2 hk2 hz2 next) (fun _ => br_4 hSc hM hi5 H ht2 hk2 hz2 next) (fun _ => br_5 hSc hM hi5 H ht2 hk2 hz2 next) (fun _ => br_6 hSc hM hi5 H ht2 hk2 hz2 next) (fun _ => br_7 hSc hM hi5 H ht2 hk2 hz2 next) (fun _ => br_8 hSc hM hi5 H ht2 hk2 hz2 next) (fun _ => br_9 hSc hM hi5 H ht2 hk2 hz2 next) (fun _ => br_10 hSc hM hi5 H ht2 hk2 hz2 next) (fun _ => br_11 hSc hM hi5 H ht2 hk2 hz2 next) (fun _ => br_12 hSc hM hi5 H ht2 hk2 hz2 next) (fun _ => br_13 hSc hM hi5 H ht2 hk2 hz2 next) (fun _ => br_14 hSc hM hi5 H ht2 hk2 hz2 next) (fun _ => br_15 hSc hM hi5 H ht2 hk2 hz2 next) (fun _ => br_16 hSc hM hi5 H ht2 hk2 hz2 next) (fun _ => br_17 hSc hM hi5 H ht2 hk2 hz2 next) (fun _ => br_18 hSc hM hi5 H ht2 hk2 hz2 next) (fun _ => br_19 hSc hM hi5 H ht2 hk2 hz2 next) (fun _ => br_20 hSc hM hi5 H ht2 hk2 hz2 next) (fun _ => br_21 hSc hM hi5 H ht2 hk2 hz2 next) (fun _ => br_22 hSc hM hi5 H ht2 hk2 hz2 next) (fun _ => br_23 hSc hM hi5 H ht2 hk2 hz2 next) (fun _ => br_24 hSc hM hi5 H ht2 hk2 hz2 next) (fun _ => br_25 hSc hM hi5 H ht2 hk2 hz2 next) (fun _ => br_26 hSc hM hi5 H ht2 hk2 hz2 next) (fun _ => br_27 hSc hM hi5 H ht2 hk2 hz2 next) (fun _ => br_28 hSc hM hi5 H ht2 hk2 hz2 next) (fun _ => br_29 hSc hM hi5 H ht2 hk2 hz2 next) (fun _ => br_30 hSc hM hi5 H ht2 hk2 hz2 next) (fun _ => br_31 hSc hM hi5 H ht2 hk2 hz2 next) (fun _ => br_32 hSc hM hi5 H ht2 hk2 hz2 next) (fun _ => br_33 hSc hM hi5 H ht2 hk2 hz2 next) (fun _ => br_34 hSc hM hi5 H ht2 hk2 hz2 next) (fun _ => br_35 hSc hM hi5 H ht2 hk2 hz2 next) (fun _ => br_36 hSc hM hi5 H ht2 hk2 hz2 next) (fun _ => br_37 hSc hM hi5 H ht2 hk2 hz2 next) (fun _ => br_38 hSc hM hi5 H ht2 hk2 hz2 next) (fun _ => br_39 hSc hM hi5 H ht2 hk2 hz2 next) (fun _ => br_40 hSc hM hi5 H ht2 hk2 hz2 next) (fun _ => br_41 hSc hM hi5 H ht2 hk2 hz2 next) (fun _ => br_42 hSc hM hi5 H ht2 hk2 hz2 next) (fun _ => br_43 hSc hM hi5 H ht2 hk2 hz2 next) (fun _ => br_44 hSc hM hi5 H ht2 hk2 hz2 next) (fun _ => j_wk (by omega) (by omega) (next n sx V L N K R t v5 v6 v7 v8 H (by omega)))
