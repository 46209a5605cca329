/-! ===== the law: the rumours ===== -/
theorem uw_le {V : Nat → Nat → Int32} {j : Nat} : ∀ m i a, underWayL V j m i a ≤ a + m := by
  intro m
  induction m with
  | zero => intro i a; exact Nat.le_refl _
  | succ m ih =>
    intro i a
    have := ih (i + 1) (if uwB V (43 + 10 * j) i = false then a else a + 1)
    show underWayL V j m (i + 1) (if uwB V (43 + 10 * j) i = false then a else a + 1) ≤ a + (m + 1)
    have h2 : (if uwB V (43 + 10 * j) i = false then a else a + 1) ≤ a + 1 := by split <;> omega
    omega
theorem m1le {x : Nat} (h : x < 2 ^ 31) : -1 ≤ nI x := Int32.le_of_lt (Int32.lt_of_lt_of_le m1neg (nn h))
set_option maxHeartbeats 4000000 in
set_option maxRecDepth 100000 in
theorem c_lw492_0n {g : jv_G} {X : jv_X} {L : Nat → Nat → Int64} {k z : Nat} {sx : Nat → jv_S} {n i : Nat} {x : Int32} {d : Int64} {V : Nat → Nat → Int32} {N K R t : Nat} (HT : TS V N K R t) {j f f0 y t0 c : Nat} {a : Int32} (hj : j < R) (hf : f < N) (h0 : V (43 + 10 * j) 0 = nI f0) (hf0 : f0 < N) (h1 : V (43 + 10 * j) 1 = nI y) (hy : y ≤ 20) (ht : t < 2 ^ 30) (h3 : V (43 + 10 * j + 3) f = -1) (kk : jv_J g X I_L_law 640 [some (.ref (scB g)), some (jv_r g 0), some (jv_r g 123), some (.int (nI i)), some (.int x), some (.long d), none, some (.int (nI N)), some (.int (nI R)), some (.int (nI j)), some (.int a), some (.int (nI c)), some (.int (nI f)), none, none, none, none, none, none] [] n (SH sx) V L k z) : jv_J g X I_L_law 492 [some (.ref (scB g)), some (jv_r g 0), some (jv_r g 123), some (.int (nI i)), some (.int x), some (.long d), none, some (.int (nI N)), some (.int (nI R)), some (.int (nI j)), some (.int a), some (.int (nI c)), some (.int (nI f)), some (.int (nI 0)), some (.int (-1)), some (.int (-1)), none, none, none] [] n (SH sx) V L k z := by
  have hN12 := HT.N12
  
  refine j_iload_13 dL_law_492 ?_
  refine j_if_lt (tgt := 597) dL_law_494 (by decide) (fun h494 => ?_) (fun h494 => ?_)
  · exact absurd h494 (nI_pos (by decide))
  · refine j_iload_13 dL_law_497 ?_
    refine j_iconst (v := nI 2) dL_law_499 nc_iconst_2 ?_
    refine j_ic_gtN (by omega) (by omega) (tgt := 597) dL_law_500 (by decide) (fun h500 => ?_) (fun h500 => ?_)
    · exact absurd h500 (by decide)
    · refine j_iload_13 dL_law_503 ?_
      refine j_iconst (v := nI 2) dL_law_505 nc_iconst_2 ?_
      refine j_ic_neN (by omega) (by omega) (tgt := 513) dL_law_506 (by decide) (fun h506 => ?_) (fun h506 => ?_)
      · refine j_iconst (v := nI 0) dL_law_513 nc_iconst_0 ?_
        refine j_aload_n_1 dL_law_514 ?_
        refine j_iload_9 dL_law_515 ?_
        refine j_iload_12 dL_law_517 ?_
        refine C_L_162  rfl (by decide) dL_law_519 sk_0 (Nat.le_of_ble_eq_true rfl) (Nat.le_of_eq (Nat.zero_add _)) (Nat.le_of_eq (Nat.zero_add _)) (fun _ _ hM' hT' => g_deniedAt HT.ct hj hf hM' hT') ?_
        refine j_top (y := -1) h3 ?_
        refine j_if_lt (tgt := 529) dL_law_522 (by decide) (fun h522 => ?_) (fun h522 => ?_)
        · refine j_iconst (v := nI 0) dL_law_529 nc_iconst_0 ?_
          refine j_ic_neN (by omega) (by omega) (tgt := 597) dL_law_530 (by decide) (fun h530 => ?_) (fun h530 => ?_)
          · exact absurd rfl h530
          · refine j_iload_13 dL_law_533 ?_
            refine j_iconst (v := nI 1) dL_law_535 nc_iconst_1 ?_
            refine j_ic_neN (by omega) (by omega) (tgt := 544) dL_law_536 (by decide) (fun h536 => ?_) (fun h536 => ?_)
            · refine j_iload_13 dL_law_544 ?_
              refine j_if_ne (tgt := 554) dL_law_546 (by decide) (fun h546 => ?_) (fun h546 => ?_)
              · exact absurd nI_0 h546
              · refine j_iload_14 dL_law_549 ?_
                refine j_if_ge (tgt := 597) dL_law_551 (by decide) (fun h551 => ?_) (fun h551 => ?_)
                · exact absurd h551 m1nle
                · refine j_iload_14 dL_law_554 ?_
                  refine j_if_ge (tgt := 563) dL_law_556 (by decide) (fun h556 => ?_) (fun h556 => ?_)
                  · exact absurd h556 m1nle
                  · refine j_iconst (v := nI 1) dL_law_559 nc_iconst_1 ?_
                    refine j_goto (tgt := 564) dL_law_560 (by decide) ?_
                    refine j_iload_15 dL_law_564 ?_
                    refine j_if_ge (tgt := 573) dL_law_566 (by decide) (fun h566 => ?_) (fun h566 => ?_)
                    · exact absurd h566 m1nle
                    · refine j_iconst (v := nI 1) dL_law_569 nc_iconst_1 ?_
                      refine j_goto (tgt := 574) dL_law_570 (by decide) ?_
                      refine j_ic_neN (by omega) (by omega) (tgt := 597) dL_law_574 (by decide) (fun h574 => ?_) (fun h574 => ?_)
                      · exact absurd rfl h574
                      · refine j_iload_15 dL_law_577 ?_
                        refine j_aload_n_1 dL_law_579 ?_
                        refine j_iload_9 dL_law_580 ?_
                        refine C_L_165  rfl (by decide) dL_law_582 sk_0 (Nat.le_of_ble_eq_true rfl) (Nat.le_of_eq (Nat.zero_add _)) (Nat.le_of_eq (Nat.zero_add _)) (fun _ _ hM' hT' => g_reachOf HT.ct hj hM' hT') ?_
                        refine j_top (y := nI y) h1 ?_
                        refine j_ic_gt (tgt := 597) dL_law_585 (by decide) (fun h585 => ?_) (fun h585 => ?_)
                        · exact absurd (Int32.lt_trans h585 m1neg) (nI_pos (by omega))
                        · refine j_iload_14 dL_law_588 ?_
                          refine j_aload_n_1 dL_law_590 ?_
                          refine C_L_168  rfl (by decide) dL_law_591 sk_0 (Nat.le_of_ble_eq_true rfl) (Nat.le_of_eq (Nat.zero_add _)) (Nat.le_of_eq (Nat.zero_add _)) (fun _ _ hM' hT' => g_hours HT.ct hM' hT') ?_
                          refine j_top (y := nI t) HT.h ?_
                          refine j_ic_le (tgt := 599) dL_law_594 (by decide) (fun h594 => ?_) (fun h594 => ?_)
                          · refine j_iload_14 dL_law_599 ?_
                            refine j_if_lt (tgt := 640) dL_law_601 (by decide) (fun h601 => ?_) (fun h601 => ?_)
                            · exact jv_drop 13 (jv_drop 14 (jv_drop 15 (kk)))
                            · exact absurd m1neg h601
                          · exact absurd (m1le (by omega)) h594
            · exact absurd h536 (by decide)
        · exact absurd m1neg h522
      · exact absurd h506 (by decide)

set_option maxHeartbeats 4000000 in
set_option maxRecDepth 100000 in
theorem c_lw492_1b {g : jv_G} {X : jv_X} {L : Nat → Nat → Int64} {k z : Nat} {sx : Nat → jv_S} {n i : Nat} {x : Int32} {d : Int64} {V : Nat → Nat → Int32} {N K R t : Nat} (HT : TS V N K R t) {j f f0 y t0 c b p : Nat} {a : Int32} (hj : j < R) (hf : f < N) (h0 : V (43 + 10 * j) 0 = nI f0) (hf0 : f0 < N) (h1 : V (43 + 10 * j) 1 = nI y) (hy : y ≤ 20) (ht : t < 2 ^ 30) (h3 : V (43 + 10 * j + 3) f = -1) (hb : b ≤ t) (hp : p ≤ y) (hno : ¬ f = f0 → 1 ≤ p ∧ t0 < b) (ho : V (43 + 10 * j + 2) f0 = nI t0) (ht0 : t0 ≤ t) (kk : jv_J g X I_L_law 640 [some (.ref (scB g)), some (jv_r g 0), some (jv_r g 123), some (.int (nI i)), some (.int x), some (.long d), none, some (.int (nI N)), some (.int (nI R)), some (.int (nI j)), some (.int a), some (.int (nI c)), some (.int (nI f)), none, none, none, none, none, none] [] n (SH sx) V L k z) : jv_J g X I_L_law 492 [some (.ref (scB g)), some (jv_r g 0), some (jv_r g 123), some (.int (nI i)), some (.int x), some (.long d), none, some (.int (nI N)), some (.int (nI R)), some (.int (nI j)), some (.int a), some (.int (nI c)), some (.int (nI f)), some (.int (nI 1)), some (.int (nI b)), some (.int (nI p)), none, none, none] [] n (SH sx) V L k z := by
  have hN12 := HT.N12
  
  refine j_iload_13 dL_law_492 ?_
  refine j_if_lt (tgt := 597) dL_law_494 (by decide) (fun h494 => ?_) (fun h494 => ?_)
  · exact absurd h494 (nI_pos (by decide))
  · refine j_iload_13 dL_law_497 ?_
    refine j_iconst (v := nI 2) dL_law_499 nc_iconst_2 ?_
    refine j_ic_gtN (by omega) (by omega) (tgt := 597) dL_law_500 (by decide) (fun h500 => ?_) (fun h500 => ?_)
    · exact absurd h500 (by decide)
    · refine j_iload_13 dL_law_503 ?_
      refine j_iconst (v := nI 2) dL_law_505 nc_iconst_2 ?_
      refine j_ic_neN (by omega) (by omega) (tgt := 513) dL_law_506 (by decide) (fun h506 => ?_) (fun h506 => ?_)
      · refine j_iconst (v := nI 0) dL_law_513 nc_iconst_0 ?_
        refine j_aload_n_1 dL_law_514 ?_
        refine j_iload_9 dL_law_515 ?_
        refine j_iload_12 dL_law_517 ?_
        refine C_L_162  rfl (by decide) dL_law_519 sk_0 (Nat.le_of_ble_eq_true rfl) (Nat.le_of_eq (Nat.zero_add _)) (Nat.le_of_eq (Nat.zero_add _)) (fun _ _ hM' hT' => g_deniedAt HT.ct hj hf hM' hT') ?_
        refine j_top (y := -1) h3 ?_
        refine j_if_lt (tgt := 529) dL_law_522 (by decide) (fun h522 => ?_) (fun h522 => ?_)
        · refine j_iconst (v := nI 0) dL_law_529 nc_iconst_0 ?_
          refine j_ic_neN (by omega) (by omega) (tgt := 597) dL_law_530 (by decide) (fun h530 => ?_) (fun h530 => ?_)
          · exact absurd rfl h530
          · refine j_iload_13 dL_law_533 ?_
            refine j_iconst (v := nI 1) dL_law_535 nc_iconst_1 ?_
            refine j_ic_neN (by omega) (by omega) (tgt := 544) dL_law_536 (by decide) (fun h536 => ?_) (fun h536 => ?_)
            · exact absurd rfl h536
            · refine j_iload_14 dL_law_539 ?_
              refine j_if_lt (tgt := 597) dL_law_541 (by decide) (fun h541 => ?_) (fun h541 => ?_)
              · exact absurd h541 (nI_pos (by omega))
              · refine j_iload_13 dL_law_544 ?_
                refine j_if_ne (tgt := 554) dL_law_546 (by decide) (fun h546 => ?_) (fun h546 => ?_)
                · refine j_iload_14 dL_law_554 ?_
                  refine j_if_ge (tgt := 563) dL_law_556 (by decide) (fun h556 => ?_) (fun h556 => ?_)
                  · refine j_iconst (v := nI 0) dL_law_563 nc_iconst_0 ?_
                    refine j_iload_15 dL_law_564 ?_
                    refine j_if_ge (tgt := 573) dL_law_566 (by decide) (fun h566 => ?_) (fun h566 => ?_)
                    · refine j_iconst (v := nI 0) dL_law_573 nc_iconst_0 ?_
                      refine j_ic_neN (by omega) (by omega) (tgt := 597) dL_law_574 (by decide) (fun h574 => ?_) (fun h574 => ?_)
                      · exact absurd rfl h574
                      · refine j_iload_15 dL_law_577 ?_
                        refine j_aload_n_1 dL_law_579 ?_
                        refine j_iload_9 dL_law_580 ?_
                        refine C_L_165  rfl (by decide) dL_law_582 sk_0 (Nat.le_of_ble_eq_true rfl) (Nat.le_of_eq (Nat.zero_add _)) (Nat.le_of_eq (Nat.zero_add _)) (fun _ _ hM' hT' => g_reachOf HT.ct hj hM' hT') ?_
                        refine j_top (y := nI y) h1 ?_
                        refine j_ic_gtN (by omega) (by omega) (tgt := 597) dL_law_585 (by decide) (fun h585 => ?_) (fun h585 => ?_)
                        · exact absurd hp (by omega)
                        · refine j_iload_14 dL_law_588 ?_
                          refine j_aload_n_1 dL_law_590 ?_
                          refine C_L_168  rfl (by decide) dL_law_591 sk_0 (Nat.le_of_ble_eq_true rfl) (Nat.le_of_eq (Nat.zero_add _)) (Nat.le_of_eq (Nat.zero_add _)) (fun _ _ hM' hT' => g_hours HT.ct hM' hT') ?_
                          refine j_top (y := nI t) HT.h ?_
                          refine j_ic_leN (by omega) (by omega) (tgt := 599) dL_law_594 (by decide) (fun h594 => ?_) (fun h594 => ?_)
                          · refine j_iload_14 dL_law_599 ?_
                            refine j_if_lt (tgt := 640) dL_law_601 (by decide) (fun h601 => ?_) (fun h601 => ?_)
                            · exact absurd h601 (nI_pos (by omega))
                            · refine j_iload_12 dL_law_604 ?_
                              refine j_aload_n_1 dL_law_606 ?_
                              refine j_iload_9 dL_law_607 ?_
                              refine C_L_171  rfl (by decide) dL_law_609 sk_0 (Nat.le_of_ble_eq_true rfl) (Nat.le_of_eq (Nat.zero_add _)) (Nat.le_of_eq (Nat.zero_add _)) (fun _ _ hM' hT' => g_originOf HT.ct hj hM' hT') ?_
                              refine j_top (y := nI f0) h0 ?_
                              refine j_ic_eqN (by omega) (by omega) (tgt := 640) dL_law_612 (by decide) (fun h612 => ?_) (fun h612 => ?_)
                              · exact jv_drop 13 (jv_drop 14 (jv_drop 15 (kk)))
                              · obtain ⟨hp1, htb⟩ := hno (by omega)
                                refine j_iload_15 dL_law_615 ?_
                                refine j_iconst (v := nI 1) dL_law_617 nc_iconst_1 ?_
                                refine j_ic_ltN (by omega) (by omega) (tgt := 638) dL_law_618 (by decide) (fun h618 => ?_) (fun h618 => ?_)
                                · exact absurd hp1 (by omega)
                                · refine j_iload_14 dL_law_621 ?_
                                  refine j_aload_n_1 dL_law_623 ?_
                                  refine j_iload_9 dL_law_624 ?_
                                  refine j_aload_n_1 dL_law_626 ?_
                                  refine j_iload_9 dL_law_627 ?_
                                  refine C_L_171  rfl (by decide) dL_law_629 sk_0 (Nat.le_of_ble_eq_true rfl) (Nat.le_of_eq (Nat.zero_add _)) (Nat.le_of_eq (Nat.zero_add _)) (fun _ _ hM' hT' => g_originOf HT.ct hj hM' hT') ?_
                                  refine j_top (y := nI f0) h0 ?_
                                  refine C_L_153  rfl (by decide) dL_law_632 sk_0 (Nat.le_of_ble_eq_true rfl) (Nat.le_of_eq (Nat.zero_add _)) (Nat.le_of_eq (Nat.zero_add _)) (fun _ _ hM' hT' => g_heardAt HT.ct hj hf0 hM' hT') ?_
                                  refine j_top (y := nI t0) ho ?_
                                  refine j_ic_gtN (by omega) (by omega) (tgt := 640) dL_law_635 (by decide) (fun h635 => ?_) (fun h635 => ?_)
                                  · exact jv_drop 13 (jv_drop 14 (jv_drop 15 (kk)))
                                  · exact absurd htb (by omega)
                          · exact absurd hb (by omega)
                    · exact absurd (nn (by omega)) h566
                  · exact absurd (nn (by omega)) h556
                · exact absurd h546 (nI_ne0 (by decide) (by decide))
        · exact absurd m1neg h522
      · exact absurd h506 (by decide)

set_option maxHeartbeats 4000000 in
set_option maxRecDepth 100000 in
theorem c_lw492_2n {g : jv_G} {X : jv_X} {L : Nat → Nat → Int64} {k z : Nat} {sx : Nat → jv_S} {n i : Nat} {x : Int32} {d : Int64} {V : Nat → Nat → Int32} {N K R t : Nat} (HT : TS V N K R t) {j f f0 y t0 c e : Nat} {a : Int32} (hj : j < R) (hf : f < N) (h0 : V (43 + 10 * j) 0 = nI f0) (hf0 : f0 < N) (h1 : V (43 + 10 * j) 1 = nI y) (hy : y ≤ 20) (ht : t < 2 ^ 30) (h3 : V (43 + 10 * j + 3) f = nI e) (he : e < 2 ^ 30) (kk : jv_J g X I_L_law 640 [some (.ref (scB g)), some (jv_r g 0), some (jv_r g 123), some (.int (nI i)), some (.int x), some (.long d), none, some (.int (nI N)), some (.int (nI R)), some (.int (nI j)), some (.int a), some (.int (nI c)), some (.int (nI f)), none, none, none, none, none, none] [] n (SH sx) V L k z) : jv_J g X I_L_law 492 [some (.ref (scB g)), some (jv_r g 0), some (jv_r g 123), some (.int (nI i)), some (.int x), some (.long d), none, some (.int (nI N)), some (.int (nI R)), some (.int (nI j)), some (.int a), some (.int (nI c)), some (.int (nI f)), some (.int (nI 2)), some (.int (-1)), some (.int (-1)), none, none, none] [] n (SH sx) V L k z := by
  have hN12 := HT.N12
  
  refine j_iload_13 dL_law_492 ?_
  refine j_if_lt (tgt := 597) dL_law_494 (by decide) (fun h494 => ?_) (fun h494 => ?_)
  · exact absurd h494 (nI_pos (by decide))
  · refine j_iload_13 dL_law_497 ?_
    refine j_iconst (v := nI 2) dL_law_499 nc_iconst_2 ?_
    refine j_ic_gtN (by omega) (by omega) (tgt := 597) dL_law_500 (by decide) (fun h500 => ?_) (fun h500 => ?_)
    · exact absurd h500 (by decide)
    · refine j_iload_13 dL_law_503 ?_
      refine j_iconst (v := nI 2) dL_law_505 nc_iconst_2 ?_
      refine j_ic_neN (by omega) (by omega) (tgt := 513) dL_law_506 (by decide) (fun h506 => ?_) (fun h506 => ?_)
      · exact absurd rfl h506
      · refine j_iconst (v := nI 1) dL_law_509 nc_iconst_1 ?_
        refine j_goto (tgt := 514) dL_law_510 (by decide) ?_
        refine j_aload_n_1 dL_law_514 ?_
        refine j_iload_9 dL_law_515 ?_
        refine j_iload_12 dL_law_517 ?_
        refine C_L_162  rfl (by decide) dL_law_519 sk_0 (Nat.le_of_ble_eq_true rfl) (Nat.le_of_eq (Nat.zero_add _)) (Nat.le_of_eq (Nat.zero_add _)) (fun _ _ hM' hT' => g_deniedAt HT.ct hj hf hM' hT') ?_
        refine j_top (y := nI e) h3 ?_
        refine j_if_lt (tgt := 529) dL_law_522 (by decide) (fun h522 => ?_) (fun h522 => ?_)
        · exact absurd h522 (nI_pos (by omega))
        · refine j_iconst (v := nI 1) dL_law_525 nc_iconst_1 ?_
          refine j_goto (tgt := 530) dL_law_526 (by decide) ?_
          refine j_ic_neN (by omega) (by omega) (tgt := 597) dL_law_530 (by decide) (fun h530 => ?_) (fun h530 => ?_)
          · exact absurd rfl h530
          · refine j_iload_13 dL_law_533 ?_
            refine j_iconst (v := nI 1) dL_law_535 nc_iconst_1 ?_
            refine j_ic_neN (by omega) (by omega) (tgt := 544) dL_law_536 (by decide) (fun h536 => ?_) (fun h536 => ?_)
            · refine j_iload_13 dL_law_544 ?_
              refine j_if_ne (tgt := 554) dL_law_546 (by decide) (fun h546 => ?_) (fun h546 => ?_)
              · refine j_iload_14 dL_law_554 ?_
                refine j_if_ge (tgt := 563) dL_law_556 (by decide) (fun h556 => ?_) (fun h556 => ?_)
                · exact absurd h556 m1nle
                · refine j_iconst (v := nI 1) dL_law_559 nc_iconst_1 ?_
                  refine j_goto (tgt := 564) dL_law_560 (by decide) ?_
                  refine j_iload_15 dL_law_564 ?_
                  refine j_if_ge (tgt := 573) dL_law_566 (by decide) (fun h566 => ?_) (fun h566 => ?_)
                  · exact absurd h566 m1nle
                  · refine j_iconst (v := nI 1) dL_law_569 nc_iconst_1 ?_
                    refine j_goto (tgt := 574) dL_law_570 (by decide) ?_
                    refine j_ic_neN (by omega) (by omega) (tgt := 597) dL_law_574 (by decide) (fun h574 => ?_) (fun h574 => ?_)
                    · exact absurd rfl h574
                    · refine j_iload_15 dL_law_577 ?_
                      refine j_aload_n_1 dL_law_579 ?_
                      refine j_iload_9 dL_law_580 ?_
                      refine C_L_165  rfl (by decide) dL_law_582 sk_0 (Nat.le_of_ble_eq_true rfl) (Nat.le_of_eq (Nat.zero_add _)) (Nat.le_of_eq (Nat.zero_add _)) (fun _ _ hM' hT' => g_reachOf HT.ct hj hM' hT') ?_
                      refine j_top (y := nI y) h1 ?_
                      refine j_ic_gt (tgt := 597) dL_law_585 (by decide) (fun h585 => ?_) (fun h585 => ?_)
                      · exact absurd (Int32.lt_trans h585 m1neg) (nI_pos (by omega))
                      · refine j_iload_14 dL_law_588 ?_
                        refine j_aload_n_1 dL_law_590 ?_
                        refine C_L_168  rfl (by decide) dL_law_591 sk_0 (Nat.le_of_ble_eq_true rfl) (Nat.le_of_eq (Nat.zero_add _)) (Nat.le_of_eq (Nat.zero_add _)) (fun _ _ hM' hT' => g_hours HT.ct hM' hT') ?_
                        refine j_top (y := nI t) HT.h ?_
                        refine j_ic_le (tgt := 599) dL_law_594 (by decide) (fun h594 => ?_) (fun h594 => ?_)
                        · refine j_iload_14 dL_law_599 ?_
                          refine j_if_lt (tgt := 640) dL_law_601 (by decide) (fun h601 => ?_) (fun h601 => ?_)
                          · exact jv_drop 13 (jv_drop 14 (jv_drop 15 (kk)))
                          · exact absurd m1neg h601
                        · exact absurd (m1le (by omega)) h594
              · exact absurd h546 (nI_ne0 (by decide) (by decide))
            · exact absurd h536 (by decide)

set_option maxHeartbeats 4000000 in
set_option maxRecDepth 100000 in
theorem c_lw492_2b {g : jv_G} {X : jv_X} {L : Nat → Nat → Int64} {k z : Nat} {sx : Nat → jv_S} {n i : Nat} {x : Int32} {d : Int64} {V : Nat → Nat → Int32} {N K R t : Nat} (HT : TS V N K R t) {j f f0 y t0 c b p e : Nat} {a : Int32} (hj : j < R) (hf : f < N) (h0 : V (43 + 10 * j) 0 = nI f0) (hf0 : f0 < N) (h1 : V (43 + 10 * j) 1 = nI y) (hy : y ≤ 20) (ht : t < 2 ^ 30) (h3 : V (43 + 10 * j + 3) f = nI e) (he : e < 2 ^ 30) (hb : b ≤ t) (hp : p ≤ y) (hno : ¬ f = f0 → 1 ≤ p ∧ t0 < b) (ho : V (43 + 10 * j + 2) f0 = nI t0) (ht0 : t0 ≤ t) (kk : jv_J g X I_L_law 640 [some (.ref (scB g)), some (jv_r g 0), some (jv_r g 123), some (.int (nI i)), some (.int x), some (.long d), none, some (.int (nI N)), some (.int (nI R)), some (.int (nI j)), some (.int a), some (.int (nI c)), some (.int (nI f)), none, none, none, none, none, none] [] n (SH sx) V L k z) : jv_J g X I_L_law 492 [some (.ref (scB g)), some (jv_r g 0), some (jv_r g 123), some (.int (nI i)), some (.int x), some (.long d), none, some (.int (nI N)), some (.int (nI R)), some (.int (nI j)), some (.int a), some (.int (nI c)), some (.int (nI f)), some (.int (nI 2)), some (.int (nI b)), some (.int (nI p)), none, none, none] [] n (SH sx) V L k z := by
  have hN12 := HT.N12
  
  refine j_iload_13 dL_law_492 ?_
  refine j_if_lt (tgt := 597) dL_law_494 (by decide) (fun h494 => ?_) (fun h494 => ?_)
  · exact absurd h494 (nI_pos (by decide))
  · refine j_iload_13 dL_law_497 ?_
    refine j_iconst (v := nI 2) dL_law_499 nc_iconst_2 ?_
    refine j_ic_gtN (by omega) (by omega) (tgt := 597) dL_law_500 (by decide) (fun h500 => ?_) (fun h500 => ?_)
    · exact absurd h500 (by decide)
    · refine j_iload_13 dL_law_503 ?_
      refine j_iconst (v := nI 2) dL_law_505 nc_iconst_2 ?_
      refine j_ic_neN (by omega) (by omega) (tgt := 513) dL_law_506 (by decide) (fun h506 => ?_) (fun h506 => ?_)
      · exact absurd rfl h506
      · refine j_iconst (v := nI 1) dL_law_509 nc_iconst_1 ?_
        refine j_goto (tgt := 514) dL_law_510 (by decide) ?_
        refine j_aload_n_1 dL_law_514 ?_
        refine j_iload_9 dL_law_515 ?_
        refine j_iload_12 dL_law_517 ?_
        refine C_L_162  rfl (by decide) dL_law_519 sk_0 (Nat.le_of_ble_eq_true rfl) (Nat.le_of_eq (Nat.zero_add _)) (Nat.le_of_eq (Nat.zero_add _)) (fun _ _ hM' hT' => g_deniedAt HT.ct hj hf hM' hT') ?_
        refine j_top (y := nI e) h3 ?_
        refine j_if_lt (tgt := 529) dL_law_522 (by decide) (fun h522 => ?_) (fun h522 => ?_)
        · exact absurd h522 (nI_pos (by omega))
        · refine j_iconst (v := nI 1) dL_law_525 nc_iconst_1 ?_
          refine j_goto (tgt := 530) dL_law_526 (by decide) ?_
          refine j_ic_neN (by omega) (by omega) (tgt := 597) dL_law_530 (by decide) (fun h530 => ?_) (fun h530 => ?_)
          · exact absurd rfl h530
          · refine j_iload_13 dL_law_533 ?_
            refine j_iconst (v := nI 1) dL_law_535 nc_iconst_1 ?_
            refine j_ic_neN (by omega) (by omega) (tgt := 544) dL_law_536 (by decide) (fun h536 => ?_) (fun h536 => ?_)
            · refine j_iload_13 dL_law_544 ?_
              refine j_if_ne (tgt := 554) dL_law_546 (by decide) (fun h546 => ?_) (fun h546 => ?_)
              · refine j_iload_14 dL_law_554 ?_
                refine j_if_ge (tgt := 563) dL_law_556 (by decide) (fun h556 => ?_) (fun h556 => ?_)
                · refine j_iconst (v := nI 0) dL_law_563 nc_iconst_0 ?_
                  refine j_iload_15 dL_law_564 ?_
                  refine j_if_ge (tgt := 573) dL_law_566 (by decide) (fun h566 => ?_) (fun h566 => ?_)
                  · refine j_iconst (v := nI 0) dL_law_573 nc_iconst_0 ?_
                    refine j_ic_neN (by omega) (by omega) (tgt := 597) dL_law_574 (by decide) (fun h574 => ?_) (fun h574 => ?_)
                    · exact absurd rfl h574
                    · refine j_iload_15 dL_law_577 ?_
                      refine j_aload_n_1 dL_law_579 ?_
                      refine j_iload_9 dL_law_580 ?_
                      refine C_L_165  rfl (by decide) dL_law_582 sk_0 (Nat.le_of_ble_eq_true rfl) (Nat.le_of_eq (Nat.zero_add _)) (Nat.le_of_eq (Nat.zero_add _)) (fun _ _ hM' hT' => g_reachOf HT.ct hj hM' hT') ?_
                      refine j_top (y := nI y) h1 ?_
                      refine j_ic_gtN (by omega) (by omega) (tgt := 597) dL_law_585 (by decide) (fun h585 => ?_) (fun h585 => ?_)
                      · exact absurd hp (by omega)
                      · refine j_iload_14 dL_law_588 ?_
                        refine j_aload_n_1 dL_law_590 ?_
                        refine C_L_168  rfl (by decide) dL_law_591 sk_0 (Nat.le_of_ble_eq_true rfl) (Nat.le_of_eq (Nat.zero_add _)) (Nat.le_of_eq (Nat.zero_add _)) (fun _ _ hM' hT' => g_hours HT.ct hM' hT') ?_
                        refine j_top (y := nI t) HT.h ?_
                        refine j_ic_leN (by omega) (by omega) (tgt := 599) dL_law_594 (by decide) (fun h594 => ?_) (fun h594 => ?_)
                        · refine j_iload_14 dL_law_599 ?_
                          refine j_if_lt (tgt := 640) dL_law_601 (by decide) (fun h601 => ?_) (fun h601 => ?_)
                          · exact absurd h601 (nI_pos (by omega))
                          · refine j_iload_12 dL_law_604 ?_
                            refine j_aload_n_1 dL_law_606 ?_
                            refine j_iload_9 dL_law_607 ?_
                            refine C_L_171  rfl (by decide) dL_law_609 sk_0 (Nat.le_of_ble_eq_true rfl) (Nat.le_of_eq (Nat.zero_add _)) (Nat.le_of_eq (Nat.zero_add _)) (fun _ _ hM' hT' => g_originOf HT.ct hj hM' hT') ?_
                            refine j_top (y := nI f0) h0 ?_
                            refine j_ic_eqN (by omega) (by omega) (tgt := 640) dL_law_612 (by decide) (fun h612 => ?_) (fun h612 => ?_)
                            · exact jv_drop 13 (jv_drop 14 (jv_drop 15 (kk)))
                            · obtain ⟨hp1, htb⟩ := hno (by omega)
                              refine j_iload_15 dL_law_615 ?_
                              refine j_iconst (v := nI 1) dL_law_617 nc_iconst_1 ?_
                              refine j_ic_ltN (by omega) (by omega) (tgt := 638) dL_law_618 (by decide) (fun h618 => ?_) (fun h618 => ?_)
                              · exact absurd hp1 (by omega)
                              · refine j_iload_14 dL_law_621 ?_
                                refine j_aload_n_1 dL_law_623 ?_
                                refine j_iload_9 dL_law_624 ?_
                                refine j_aload_n_1 dL_law_626 ?_
                                refine j_iload_9 dL_law_627 ?_
                                refine C_L_171  rfl (by decide) dL_law_629 sk_0 (Nat.le_of_ble_eq_true rfl) (Nat.le_of_eq (Nat.zero_add _)) (Nat.le_of_eq (Nat.zero_add _)) (fun _ _ hM' hT' => g_originOf HT.ct hj hM' hT') ?_
                                refine j_top (y := nI f0) h0 ?_
                                refine C_L_153  rfl (by decide) dL_law_632 sk_0 (Nat.le_of_ble_eq_true rfl) (Nat.le_of_eq (Nat.zero_add _)) (Nat.le_of_eq (Nat.zero_add _)) (fun _ _ hM' hT' => g_heardAt HT.ct hj hf0 hM' hT') ?_
                                refine j_top (y := nI t0) ho ?_
                                refine j_ic_gtN (by omega) (by omega) (tgt := 640) dL_law_635 (by decide) (fun h635 => ?_) (fun h635 => ?_)
                                · exact jv_drop 13 (jv_drop 14 (jv_drop 15 (kk)))
                                · exact absurd htb (by omega)
                        · exact absurd hb (by omega)
                  · exact absurd (nn (by omega)) h566
                · exact absurd (nn (by omega)) h556
              · exact absurd h546 (nI_ne0 (by decide) (by decide))
            · exact absurd h536 (by decide)

set_option maxHeartbeats 4000000 in
set_option maxRecDepth 100000 in
theorem c_lw492 {g : jv_G} {X : jv_X} {L : Nat → Nat → Int64} {k z : Nat} {sx : Nat → jv_S} {n i : Nat} {x : Int32} {d : Int64} {V : Nat → Nat → Int32} {N K R t : Nat} (HT : TS V N K R t) {j f c : Nat} {a : Int32} (hj : j < R) (hf : f < N) (ht : t < 2 ^ 29) (kk : jv_J g X I_L_law 640 [some (.ref (scB g)), some (jv_r g 0), some (jv_r g 123), some (.int (nI i)), some (.int x), some (.long d), none, some (.int (nI N)), some (.int (nI R)), some (.int (nI j)), some (.int a), some (.int (nI c)), some (.int (nI f)), none, none, none, none, none, none] [] n (SH sx) V L k z) : jv_J g X I_L_law 492 [some (.ref (scB g)), some (jv_r g 0), some (jv_r g 123), some (.int (nI i)), some (.int x), some (.long d), none, some (.int (nI N)), some (.int (nI R)), some (.int (nI j)), some (.int a), some (.int (nI c)), some (.int (nI f)), some (.int (V (43 + 10 * j + 1) f)), some (.int (V (43 + 10 * j + 2) f)), some (.int (V (43 + 10 * j + 4) f)), none, none, none] [] n (SH sx) V L k z := by
  obtain ⟨y, t0, f0, h0, hf0, h1, hy1, hy, ht0, hRC⟩ := HT.2 j hj
  obtain ⟨-, -, -, -, -, o6, o7, -⟩ := hRC f0 hf0
  have ho : V (43 + 10 * j + 2) f0 = nI t0 := by
    rcases o6 with ⟨c, -⟩ | ⟨b, p, c1, c2, c3, c4, c5, c6⟩
    · exact absurd c (o7 rfl)
    · rw [← (c6 rfl).2]
      exact c1
  obtain ⟨a1, a2, a3, a4, a5, a6, a7, -⟩ := hRC f hf
  have v1 : cl V (43 + 10 * j) f 1 = V (43 + 10 * j + 1) f := rfl
  have v2 : cl V (43 + 10 * j) f 2 = V (43 + 10 * j + 2) f := rfl
  have v3 : cl V (43 + 10 * j) f 3 = V (43 + 10 * j + 3) f := rfl
  have v4 : cl V (43 + 10 * j) f 4 = V (43 + 10 * j + 4) f := rfl
  rw [v1] at a1 a2 a3 a4 a5
  rw [v2] at a2 a3 a6
  rw [v3] at a4 a5
  rw [v4] at a6
  rcases a1 with s | s | s
  · have e2 := a2 s
    have e3 := a4 (by rw [s]; decide +kernel)
    have e4 : V (43 + 10 * j + 4) f = -1 := by
      rcases a6 with ⟨-, c⟩ | ⟨b, p, c1, -, c3, -⟩
      · exact c
      · exact absurd (c1.symm.trans e2) (nI_nm1 (by omega))
    rw [s, e2, e4, ← nI_0]
    exact c_lw492_0n (t0 := t0) HT hj hf h0 hf0 h1 hy (by omega) e3 kk
  · have e3 := a4 (by rw [s]; decide +kernel)
    rcases a6 with ⟨c, -⟩ | ⟨b, p, c1, c2, c3, c4, c5, c6⟩
    · exact absurd c (a3 s)
    · rw [s, c1, c2]
      exact c_lw492_1b HT hj hf h0 hf0 h1 hy (by omega) e3 c3 c4 c5 ho ht0 kk
  · obtain ⟨e, e3, he⟩ := a5 s
    rcases a6 with ⟨c, c'⟩ | ⟨b, p, c1, c2, c3, c4, c5, c6⟩
    · rw [s, c, c']
      exact c_lw492_2n (t0 := t0) HT hj hf h0 hf0 h1 hy (by omega) e3 (by omega) kk
    · rw [s, c1, c2]
      exact c_lw492_2b HT hj hf h0 hf0 h1 hy (by omega) e3 (by omega) c3 c4 c5 ho ht0 kk

set_option maxHeartbeats 4000000 in
set_option maxRecDepth 100000 in
theorem c_lw419 {g : jv_G} {X : jv_X} {L : Nat → Nat → Int64} {k z : Nat} {sx : Nat → jv_S} {n i : Nat} {x : Int32} {d : Int64} {V : Nat → Nat → Int32} {N K R t : Nat} (HT : TS V N K R t) {j : Nat} (hj : j < R) (ht : t < 2 ^ 29) : ∀ (m : Nat) (f c : Nat) (a : Int32), f ≤ N → N + 1 ≤ f + m → (kk : jv_J g X I_L_law 646 [some (.ref (scB g)), some (jv_r g 0), some (jv_r g 123), some (.int (nI i)), some (.int x), some (.long d), none, some (.int (nI N)), some (.int (nI R)), some (.int (nI j)), some (.int (hbL V (43 + 10 * j) (N - f) f a)), some (.int (nI (reaL (V (43 + 10 * j + 2)) (N - f) f c))), some (.int (nI N)), none, none, none, none, none, none] [] n (SH sx) V L k z) → jv_J g X I_L_law 419 [some (.ref (scB g)), some (jv_r g 0), some (jv_r g 123), some (.int (nI i)), some (.int x), some (.long d), none, some (.int (nI N)), some (.int (nI R)), some (.int (nI j)), some (.int a), some (.int (nI c)), some (.int (nI f)), none, none, none, none, none, none] [] n (SH sx) V L k z := by
  intro m
  induction m with
  | zero => intro f c a hf0 hm2 kk; omega
  | succ m ih =>
  intro f c a hf0 hm2 kk
  have hN12 := HT.N12
  
  refine j_iload_12 dL_law_419 ?_
  refine j_iload_7 dL_law_421 ?_
  refine j_ic_geN (by omega) (by omega) (tgt := 646) dL_law_423 (by decide) (fun h423 => ?_) (fun h423 => ?_)
  · obtain rfl : f = N := by omega
    rw [Nat.sub_self] at kk
    exact kk
  · have hf : f < N := by omega
    refine j_aload_n_1 dL_law_426 ?_
    refine j_iload_9 dL_law_427 ?_
    refine j_iload_12 dL_law_429 ?_
    refine C_L_150  rfl (by decide) dL_law_431 sk_0 (Nat.le_of_ble_eq_true rfl) (Nat.le_of_eq (Nat.zero_add _)) (Nat.le_of_eq (Nat.zero_add _)) (fun _ _ hM' hT' => g_stateOf HT.ct hj hf hM' hT') ?_
    refine j_istore_13 rfl (by decide) dL_law_434 ?_
    refine j_aload_n_1 dL_law_436 ?_
    refine j_iload_9 dL_law_437 ?_
    refine j_iload_12 dL_law_439 ?_
    refine C_L_153  rfl (by decide) dL_law_441 sk_0 (Nat.le_of_ble_eq_true rfl) (Nat.le_of_eq (Nat.zero_add _)) (Nat.le_of_eq (Nat.zero_add _)) (fun _ _ hM' hT' => g_heardAt HT.ct hj hf hM' hT') ?_
    refine j_istore_14 rfl (by decide) dL_law_444 ?_
    refine j_aload_n_1 dL_law_446 ?_
    refine j_iload_9 dL_law_447 ?_
    refine j_iload_12 dL_law_449 ?_
    refine C_L_156  rfl (by decide) dL_law_451 sk_0 (Nat.le_of_ble_eq_true rfl) (Nat.le_of_eq (Nat.zero_add _)) (Nat.le_of_eq (Nat.zero_add _)) (fun _ _ hM' hT' => g_pipesTo HT.ct hj hf hM' hT') ?_
    refine j_istore_15 rfl (by decide) dL_law_454 ?_
    refine j_iload_10 dL_law_456 ?_
    refine j_iload_13 dL_law_458 ?_
    refine j_iconst (v := nI 1) dL_law_460 nc_iconst_1 ?_
    refine j_ic_ne (tgt := 473) dL_law_461 (by decide) (fun h461 => ?_) (fun h461 => ?_)
    · refine j_iconst (v := nI 0) dL_law_473 nc_iconst_0 ?_
      refine j_iadd dL_law_474 ?_
      refine j_top (y := (if V (43 + 10 * j + 1) f = nI 1 then a + V 2 f else a)) (by rw [if_neg h461, add_nI0]) ?_
      refine j_istore_10 rfl (by decide) dL_law_475 ?_
      refine j_iload_11 dL_law_477 ?_
      refine j_iload_14 dL_law_479 ?_
      refine j_if_lt (tgt := 488) dL_law_481 (by decide) (fun h481 => ?_) (fun h481 => ?_)
      · refine j_iconst (v := nI 0) dL_law_488 nc_iconst_0 ?_
        refine j_iaddN dL_law_489 ?_
        refine j_top (y := nI (if V (43 + 10 * j + 2) f < 0 then c else c + 1)) (by rw [if_pos h481]; rfl) ?_
        refine j_istore_11 rfl (by decide) dL_law_490 ?_
        refine c_lw492 HT hj hf ht ?_
        refine j_inc1_12 rfl (by decide) dL_law_640 ?_
        refine j_goto (tgt := 419) dL_law_643 (by decide) ?_
        refine ih (f + 1) _ _ (by omega) (by omega) ?_
        rw [show N - f = (N - (f + 1)) + 1 by omega] at kk
        exact kk
      · refine j_iconst (v := nI 1) dL_law_484 nc_iconst_1 ?_
        refine j_goto (tgt := 489) dL_law_485 (by decide) ?_
        refine j_iaddN dL_law_489 ?_
        refine j_top (y := nI (if V (43 + 10 * j + 2) f < 0 then c else c + 1)) (by rw [if_neg h481]) ?_
        refine j_istore_11 rfl (by decide) dL_law_490 ?_
        refine c_lw492 HT hj hf ht ?_
        refine j_inc1_12 rfl (by decide) dL_law_640 ?_
        refine j_goto (tgt := 419) dL_law_643 (by decide) ?_
        refine ih (f + 1) _ _ (by omega) (by omega) ?_
        rw [show N - f = (N - (f + 1)) + 1 by omega] at kk
        exact kk
    · refine j_aload_n_1 dL_law_464 ?_
      refine j_iload_12 dL_law_465 ?_
      refine C_L_159  rfl (by decide) dL_law_467 sk_0 (Nat.le_of_ble_eq_true rfl) (Nat.le_of_eq (Nat.zero_add _)) (Nat.le_of_eq (Nat.zero_add _)) (fun _ _ hM' hT' => g_headsOf HT.ct hf hM' hT') ?_
      refine j_goto (tgt := 474) dL_law_470 (by decide) ?_
      refine j_iadd dL_law_474 ?_
      refine j_top (y := (if V (43 + 10 * j + 1) f = nI 1 then a + V 2 f else a)) (by rw [if_pos h461]) ?_
      refine j_istore_10 rfl (by decide) dL_law_475 ?_
      refine j_iload_11 dL_law_477 ?_
      refine j_iload_14 dL_law_479 ?_
      refine j_if_lt (tgt := 488) dL_law_481 (by decide) (fun h481 => ?_) (fun h481 => ?_)
      · refine j_iconst (v := nI 0) dL_law_488 nc_iconst_0 ?_
        refine j_iaddN dL_law_489 ?_
        refine j_top (y := nI (if V (43 + 10 * j + 2) f < 0 then c else c + 1)) (by rw [if_pos h481]; rfl) ?_
        refine j_istore_11 rfl (by decide) dL_law_490 ?_
        refine c_lw492 HT hj hf ht ?_
        refine j_inc1_12 rfl (by decide) dL_law_640 ?_
        refine j_goto (tgt := 419) dL_law_643 (by decide) ?_
        refine ih (f + 1) _ _ (by omega) (by omega) ?_
        rw [show N - f = (N - (f + 1)) + 1 by omega] at kk
        exact kk
      · refine j_iconst (v := nI 1) dL_law_484 nc_iconst_1 ?_
        refine j_goto (tgt := 489) dL_law_485 (by decide) ?_
        refine j_iaddN dL_law_489 ?_
        refine j_top (y := nI (if V (43 + 10 * j + 2) f < 0 then c else c + 1)) (by rw [if_neg h481]) ?_
        refine j_istore_11 rfl (by decide) dL_law_490 ?_
        refine c_lw492 HT hj hf ht ?_
        refine j_inc1_12 rfl (by decide) dL_law_640 ?_
        refine j_goto (tgt := 419) dL_law_643 (by decide) ?_
        refine ih (f + 1) _ _ (by omega) (by omega) ?_
        rw [show N - f = (N - (f + 1)) + 1 by omega] at kk
        exact kk

set_option maxHeartbeats 4000000 in
set_option maxRecDepth 100000 in
theorem c_lw403 {g : jv_G} {X : jv_X} {L : Nat → Nat → Int64} {k z : Nat} {sx : Nat → jv_S} {n i : Nat} {x : Int32} {d : Int64} {V : Nat → Nat → Int32} {N K R t : Nat} (HT : TS V N K R t) (ht : t < 2 ^ 29) (kk : jv_J g X I_L_law 702 [some (.ref (scB g)), some (jv_r g 0), some (jv_r g 123), some (.int (nI i)), some (.int x), some (.long d), none, some (.int (nI N)), some (.int (nI R)), some (.int (nI R)), none, none, none, none, none, none, none, none, none] [] n (SH sx) V L k z) : ∀ (m : Nat) (j : Nat), j ≤ R → R + 1 ≤ j + m → jv_J g X I_L_law 403 [some (.ref (scB g)), some (jv_r g 0), some (jv_r g 123), some (.int (nI i)), some (.int x), some (.long d), none, some (.int (nI N)), some (.int (nI R)), some (.int (nI j)), none, none, none, none, none, none, none, none, none] [] n (SH sx) V L k z := by
  intro m
  induction m with
  | zero => intro j hj0 hm2; omega
  | succ m ih =>
  intro j hj0 hm2
  have hN12 := HT.N12
  have hR8 := HT.R8
  
  refine j_iload_9 dL_law_403 ?_
  refine j_iload_8 dL_law_405 ?_
  refine j_ic_geN (by omega) (by omega) (tgt := 702) dL_law_407 (by decide) (fun h407 => ?_) (fun h407 => ?_)
  · obtain rfl : j = R := by omega
    exact kk
  · have hj : j < R := by omega
    refine j_iconst (v := nI 0) dL_law_410 nc_iconst_0 ?_
    refine j_istore_10 rfl (by decide) dL_law_411 ?_
    refine j_iconst (v := nI 0) dL_law_413 nc_iconst_0 ?_
    refine j_istore_11 rfl (by decide) dL_law_414 ?_
    refine j_iconst (v := nI 0) dL_law_416 nc_iconst_0 ?_
    refine j_istore_12 rfl (by decide) dL_law_417 ?_
    refine c_lw419 HT hj ht (N + 1) 0 0 (nI 0) (by omega) (by omega) ?_
    obtain ⟨y, t0, f0, h0, hf0, h1, hy1, hy, ht0, hRC⟩ := HT.2 j hj
    obtain ⟨-, -, -, -, -, o6, o7, -⟩ := hRC f0 hf0
    have hpo : V (43 + 10 * j + 4) f0 = nI 0 := by
      rcases o6 with ⟨c, -⟩ | ⟨b, p, c1, c2, c3, c4, c5, c6⟩
      · exact absurd c (o7 rfl)
      · rw [← (c6 rfl).1]
        exact c2
    rw [Nat.sub_zero]
    refine j_aload_n_1 dL_law_646 ?_
    refine j_iload_9 dL_law_647 ?_
    refine j_aload_n_1 dL_law_649 ?_
    refine j_iload_9 dL_law_650 ?_
    refine C_L_171  rfl (by decide) dL_law_652 sk_0 (Nat.le_of_ble_eq_true rfl) (Nat.le_of_eq (Nat.zero_add _)) (Nat.le_of_eq (Nat.zero_add _)) (fun _ _ hM' hT' => g_originOf HT.ct hj hM' hT') ?_
    refine j_top (y := nI f0) h0 ?_
    refine C_L_156  rfl (by decide) dL_law_655 sk_0 (Nat.le_of_ble_eq_true rfl) (Nat.le_of_eq (Nat.zero_add _)) (Nat.le_of_eq (Nat.zero_add _)) (fun _ _ hM' hT' => g_pipesTo HT.ct hj hf0 hM' hT') ?_
    refine j_top (y := nI 0) hpo ?_
    refine j_if_ne (tgt := 694) dL_law_658 (by decide) (fun h658 => ?_) (fun h658 => ?_)
    · exact absurd nI_0 h658
    · refine j_iload_10 dL_law_661 ?_
      refine j_aload_n_1 dL_law_663 ?_
      refine j_iload_9 dL_law_664 ?_
      refine C_L_174  rfl (by decide) dL_law_666 sk_0 (Nat.le_of_ble_eq_true rfl) (Nat.le_of_eq (Nat.zero_add _)) (Nat.le_of_eq (Nat.zero_add _)) (fun _ _ hM' hT' => g_believers HT.ct hj hM' hT') ?_
      refine j_ic_ne (tgt := 694) dL_law_669 (by decide) (fun h669 => ?_) (fun h669 => ?_)
      · exact absurd rfl h669
      · refine j_iload_11 dL_law_672 ?_
        refine j_aload_n_1 dL_law_674 ?_
        refine j_iload_9 dL_law_675 ?_
        refine C_L_177  rfl (by decide) dL_law_677 sk_0 (Nat.le_of_ble_eq_true rfl) (Nat.le_of_eq (Nat.zero_add _)) (Nat.le_of_eq (Nat.zero_add _)) (fun _ _ hM' hT' => g_reached HT.ct hj hM' hT') ?_
        refine j_top (y := nI (reaL (V (43 + 10 * j + 2)) N 0 0)) (by rw [rea_hc (HT.2 j hj) (by omega) N 0 0 (by omega), rea_re]) ?_
        refine j_ic_ne (tgt := 694) dL_law_680 (by decide) (fun h680 => ?_) (fun h680 => ?_)
        · exact absurd rfl h680
        · refine j_aload_n_1 dL_law_683 ?_
          refine j_iload_9 dL_law_684 ?_
          refine C_L_180  rfl (by decide) dL_law_686 sk_0 (Nat.le_of_ble_eq_true rfl) (Nat.le_of_eq (Nat.zero_add _)) (Nat.le_of_eq (Nat.zero_add _)) (fun _ _ hM' hT' => g_underWay HT.ct hj hM' hT') ?_
          have hu := uw_le (V := V) (j := j) N 0 0
          refine j_iload_7 dL_law_689 ?_
          refine j_ic_leN (by omega) (by omega) (tgt := 696) dL_law_691 (by decide) (fun h691 => ?_) (fun h691 => ?_)
          · refine j_inc1_9 rfl (by decide) dL_law_696 ?_
            refine j_goto (tgt := 403) dL_law_699 (by decide) ?_
            exact jv_drop 10 (jv_drop 11 (jv_drop 12 (ih (j + 1) (by omega) (by omega))))
          · exact absurd h691 (by omega)
