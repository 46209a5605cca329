/-! ===== the law: the rounds, the whole ===== -/
theorem PO.un {F t n1 : Nat} {s1 : Nat → jv_S} {V1 : Nat → Nat → Int32} (h : PO F t n1 s1 V1) : ∃ sy N K R t1, s1 = SH sy ∧ TS V1 N K R t1 ∧ (∃ tg pl, REP tg pl n1 (SH sy) V1 V1 N K R) ∧ FA V1 N R = F ∧ t1 ≤ t := by
  obtain ⟨sy, tg, pl, N, K, R, t1, a, b, c, d, e⟩ := h
  exact ⟨sy, N, K, R, t1, a, b, ⟨tg, pl, c⟩, d, e⟩
set_option maxHeartbeats 4000000 in
set_option maxRecDepth 100000 in
theorem c_l65 {g : jv_G} {X : jv_X} {L : Nat → Nat → Int64} {i : Nat} {x : Int32} {n : Nat} {s1 : Nat → jv_S} {V1 : Nat → Nat → Int32} {F t q m k : Nat} {y : Int32} (hP : PO F t n s1 V1) (ht : t + 60 < 2 ^ 30) (hk : F + 1700 + m ≤ k) (kk : ∀ F1 k1 n1 s1 V1, PO F1 (t + 60) n1 s1 V1 → F1 + m ≤ k1 → jv_J g X I_L_law 44 [some (.ref (scB g)), some (jv_r g 0), some (jv_r g 123), some (.int (nI i)), some (.int x), some (.int (nI (q + 1))), none, none, none, none, none, none, none, none, none, none, none, none, none] [] n1 s1 V1 L k1 (20 * k1)) : jv_J g X I_L_law 65 [some (.ref (scB g)), some (jv_r g 0), some (jv_r g 123), some (.int (nI i)), some (.int x), some (.int (nI q)), none, none, none, none, none, none, none, none, none, none, none, none, none] [.int y, jv_r g 123, jv_r g 0] n s1 V1 L k (20 * k) := by
  obtain ⟨sy, tg, pl, N, K, R, t1, rfl, HT, H, rfl, ht1⟩ := hP
  obtain ⟨F, hF, hact⟩ := c_act HT H (by omega) y
  refine Q_L_112 (k' := FA V1 N R + 1700 - F) (z' := 20 * (FA V1 N R + 1700 - F)) (k2 := k - (FA V1 N R + 1700 - F)) (z2 := 20 * (k - (FA V1 N R + 1700 - F))) (P := PO F (t1 + 60)) rfl (by decide) dL_law_65 (Nat.le_of_ble_eq_true rfl) (by omega) (by omega) (fun _ _ hM' hT' => hact (by omega) hM' hT') (fun n2 s2 V2 h2 => ?_)
  refine j_if_ne (tgt := 73) dL_law_68 (by decide) (fun h => ?_) (fun h => ?_)
  · refine j_inc1_5 rfl (by decide) dL_law_73 ?_
    refine j_goto (tgt := 44) dL_law_76 (by decide) ?_
    exact kk F _ n2 s2 V2 (h2.le (by omega)) (by omega)
  · exact absurd h z1'

set_option maxHeartbeats 4000000 in
set_option maxRecDepth 100000 in
theorem c_law44 {g : jv_G} {X : jv_X} {L : Nat → Nat → Int64} {i : Nat} {x : Int32} {M0 t0 : Nat} (ht0 : t0 < 2 ^ 20) (kk : ∀ (F t k n : Nat) (s1 : Nat → jv_S) (V1 : (Nat → Nat → Int32)), PO F t n s1 V1 → t ≤ t0 + 300 → F + M0 ≤ k → jv_J g X I_L_law 79 [some (.ref (scB g)), some (jv_r g 0), some (jv_r g 123), some (.int (nI i)), some (.int x), some (.int (nI 5)), none, none, none, none, none, none, none, none, none, none, none, none, none] [] n s1 V1 L k (20 * k)) : ∀ (m : Nat) (q F t k n : Nat) (s1 : Nat → jv_S) (V1 : (Nat → Nat → Int32)), q ≤ 5 → 6 ≤ q + m → PO F t n s1 V1 → t ≤ t0 + 60 * q → F + 1700 * (5 - q) + M0 ≤ k → jv_J g X I_L_law 44 [some (.ref (scB g)), some (jv_r g 0), some (jv_r g 123), some (.int (nI i)), some (.int x), some (.int (nI q)), none, none, none, none, none, none, none, none, none, none, none, none, none] [] n s1 V1 L k (20 * k) := by
  intro m
  induction m with
  | zero => intro q F t k n s1 V1 hq hm2 hP ht hk; omega
  | succ m ih =>
  intro q F t k n s1 V1 hq hm2 hP ht hk
  refine j_iload_5 dL_law_44 ?_
  refine j_iconst (v := nI 5) dL_law_46 nc_iconst_5 ?_
  refine j_ic_geN (by omega) (by omega) (tgt := 79) dL_law_47 (by decide) (fun h47 => ?_) (fun h47 => ?_)
  · obtain rfl : q = 5 := by omega
    exact kk F t k n s1 V1 hP (by omega) (by omega)
  · refine j_aload_n_1 dL_law_50 ?_
    refine j_aload_n_2 dL_law_51 ?_
    refine j_iload_4 dL_law_52 ?_
    refine j_iconst (v := nI 3) dL_law_54 nc_iconst_3 ?_
    refine j_iload_5 dL_law_55 ?_
    refine j_imulN dL_law_57 ?_
    refine j_ishr dL_law_58 ?_
    refine j_bipush (v := nI 29) dL_law_59 nc_bipush_29 ?_
    refine j_iload_5 dL_law_61 ?_
    refine j_imulN dL_law_63 ?_
    refine j_iadd dL_law_64 ?_
    exact c_l65 hP (by omega) (m := 1700 * (5 - (q + 1)) + M0) (by omega) (fun F1 k1 n1 s1 V1 hP1 hk1 => ih (q + 1) F1 (t + 60) k1 n1 s1 V1 (by omega) (by omega) hP1 (by omega) (by omega))

set_option maxHeartbeats 4000000 in
set_option maxRecDepth 100000 in
theorem c_law79 {g : jv_G} {X : jv_X} {L : Nat → Nat → Int64} {i : Nat} {x : Int32} {sx : Nat → jv_S} {n k : Nat} {V : (Nat → Nat → Int32)} {N K R t M0 : Nat} (HT : TS V N K R t) (hRP : ∃ tg pl, REP tg pl n (SH sx) V V N K R) (ht : t + 100 < 2 ^ 29) (hk : FA V N R + M0 ≤ k) (kk : ∀ (V9 : (Nat → Nat → Int32)) (n9 : Nat) (sx9 : Nat → jv_S) (k9 t9 : Nat), t9 ≤ t + 100 → (TS V9 N K R t9 ∧ ∃ tg pl, REP tg pl n9 (SH sx9) V9 V9 N K R) → FA V9 N R + M0 ≤ k9 → jv_J g X I_L_law 1033 [some (.ref (scB g)), some (jv_r g 0), some (jv_r g 123), some (.int (nI i)), none, none, none, none, none, none, none, none, none, none, none, none, none, none, none] [] n9 (SH sx9) V9 L k9 (20 * k9)) : jv_J g X I_L_law 79 [some (.ref (scB g)), some (jv_r g 0), some (jv_r g 123), some (.int (nI i)), some (.int x), some (.int (nI 5)), none, none, none, none, none, none, none, none, none, none, none, none, none] [] n (SH sx) V L k (20 * k) := by
  have hN2 := HT.N2
  have hN12 := HT.N12
  have hR8 := HT.R8
  have hg := HT.dig (by omega)
  have hgh := HT.hi.1
  refine j_aload_n_1 dL_law_79 ?_
  refine C_L_120  rfl (by decide) dL_law_80 sk_0 (Nat.le_of_ble_eq_true rfl) (Nat.le_of_eq (Nat.zero_add _)) (Nat.le_of_eq (Nat.zero_add _)) (fun _ _ hM' hT' => g_digest HT.ct HT.rn HT.op hM' hT') ?_
  have hdd : ∀ V', EqB N V' V → (dgX V' N K R).2 = (dgX V N K R).2 := fun V' h => HT.digE (by omega) h
  generalize (dgX V N K R).2 = d at hdd ⊢
  refine jv_any (fun U => (TS U N K R t ∧ EqB N U V) ∧ ∀ q, 123 ≤ q → U q = V q) ⟨hg, hgh⟩ (fun U hU3 => ?_)
  obtain ⟨hU, hUh⟩ := hU3
  refine j_lstore_5 rfl (by decide) dL_law_83 ?_
  refine j_aload_n_1 dL_law_85 ?_
  refine C_L_124  rfl (by decide) dL_law_86 sk_0 (Nat.le_of_ble_eq_true rfl) (Nat.le_of_eq (Nat.zero_add _)) (Nat.le_of_eq (Nat.zero_add _)) (fun _ _ hM' hT' => g_floors hU.1.ct hM' hT') ?_
  refine j_istore_7 rfl (by decide) dL_law_89 ?_
  refine j_iconst (v := nI 0) dL_law_91 nc_iconst_0 ?_
  refine j_istore_8 rfl (by decide) dL_law_92 ?_
  refine c_lw94 hU.1 (N + 1) 0 U (by omega) (by omega) EqX.refl (fun V2 hV2 => ?_)
  have hUV2 : EqB N V2 V := (hV2.1.b hN12).trans hU.2
  have HT2 : TS V2 N K R t := HT.eqB hUV2
  have hd2 : ∀ V', EqB N V' V2 → (dgX V' N K R).2 = d := fun V' h => hdd V' (h.trans hUV2)
  have hRP2 : ∃ tg pl, REP tg pl n (SH sx) V2 V2 N K R := by
    obtain ⟨tg, pl, H⟩ := hRP
    exact ⟨tg, pl, H.eqB hUV2 (fun q hq => (hV2.2 q hq).trans (hUh q hq))⟩
  refine j_aload_n_1 dL_law_394 ?_
  refine C_L_148  rfl (by decide) dL_law_395 sk_0 (Nat.le_of_ble_eq_true rfl) (Nat.le_of_eq (Nat.zero_add _)) (Nat.le_of_eq (Nat.zero_add _)) (fun _ _ hM' hT' => g_rumours HT2.ct hM' hT') ?_
  refine j_istore_8 rfl (by decide) dL_law_398 ?_
  refine j_iconst (v := nI 0) dL_law_400 nc_iconst_0 ?_
  refine j_istore_9 rfl (by decide) dL_law_401 ?_
  refine c_lw403 HT2 (by omega) ?_ (R + 1) 0 (by omega) (by omega)
  refine j_iload_8 dL_law_702 ?_
  refine j_if_ne (tgt := 710) dL_law_704 (by decide) (fun h704 => ?_) (fun h704 => ?_)
  · have hR0 : 0 < R := by
      rcases Nat.eq_zero_or_pos R with c | c
      · subst c; exact absurd nI_0 h704
      · exact c
    exact c_lw710 HT2 hRP2 hd2 (by omega) hR0 (by rw [FA_eqB hR8 hUV2]; exact hk) (fun V9 n9 sx9 k9 h9 hF9 => kk V9 n9 sx9 k9 (t + 100) (Nat.le_refl _) h9 hF9)
  · refine j_goto (tgt := 1033) dL_law_707 (by decide) ?_
    exact jv_drop 4 (jv_drop 5 (jv_drop 6 (jv_drop 7 (jv_drop 8 (jv_drop 9 (jv_drop 10 (jv_drop 11 (jv_drop 12 (jv_drop 13 (jv_drop 14 (jv_drop 15 (jv_drop 16 (jv_drop 17 (jv_drop 18 (kk V2 n sx k t (by omega) ⟨HT2, hRP2⟩ (by rw [FA_eqB hR8 hUV2]; exact hk))))))))))))))))

set_option maxHeartbeats 4000000 in
set_option maxRecDepth 100000 in
theorem c_law22 {g : jv_G} {X : jv_X} {L : Nat → Nat → Int64} (fin : ∀ ls n sh V L k z, jv_J g X I_L_law 1044 ls [.int (nI 1)] n sh V L k z) : ∀ (m : Nat) (i F t k n : Nat) (s1 : Nat → jv_S) (V1 : (Nat → Nat → Int32)), i ≤ 3 → 4 ≤ i + m → PO F t n s1 V1 → t ≤ 2000 + 400 * i → F + 8500 * (3 - i) ≤ k → jv_J g X I_L_law 22 [some (.ref (scB g)), some (jv_r g 0), some (jv_r g 123), some (.int (nI i)), none, none, none, none, none, none, none, none, none, none, none, none, none, none, none] [] n s1 V1 L k (20 * k) := by
  intro m
  induction m with
  | zero => intro i F t k n s1 V1 hi hm2 hP ht hk; omega
  | succ m ih =>
  intro i F t k n s1 V1 hi hm2 hP ht hk
  refine j_iload_n_3 dL_law_22 ?_
  refine j_iconst (v := nI 3) dL_law_23 nc_iconst_3 ?_
  refine j_ic_geN (by omega) (by omega) (tgt := 1039) dL_law_24 (by decide) (fun h24 => ?_) (fun h24 => ?_)
  · obtain ⟨sy, tg, pl, N, K, R, t1, rfl, HT, H, rfl, ht1⟩ := hP
    refine j_aload_n_2 dL_law_1039 ?_
    refine j_aload_n_1 dL_law_1040 ?_
    refine C_L_206 rfl (by decide) dL_law_1041 H.s (Nat.le_of_ble_eq_true rfl) (Nat.le_of_eq (Nat.zero_add _)) (Nat.le_of_eq (Nat.zero_add _)) (fun _ _ hM' hT' => c_same HT H (by omega) hM' hT') ?_
    exact fin _ _ _ _ _ _ _
  · refine jl_ld0 dL_law_27 ?_
    refine j_iload_n_3 dL_law_28 ?_
    refine C_L_108  rfl (by decide) dL_law_29 (Nat.le_of_ble_eq_true rfl) (Nat.le_of_eq (Nat.zero_add _)) (Nat.le_of_eq (Nat.zero_add _)) (fun _ _ hM' hT' => c_cell (j := i) (by omega) hM' hT') ?_
    refine j_iconst (v := nI 2) dL_law_32 nc_iconst_2 ?_
    refine j_ishr dL_law_33 ?_
    refine j_bipush (v := nI 53) dL_law_34 nc_bipush_53 ?_
    refine j_iload_n_3 dL_law_36 ?_
    refine j_imulN dL_law_37 ?_
    refine j_iadd dL_law_38 ?_
    refine j_istore_4 rfl (by decide) dL_law_39 ?_
    refine j_iconst (v := nI 0) dL_law_41 nc_iconst_0 ?_
    refine j_istore_5 rfl (by decide) dL_law_42 ?_
    refine c_law44 (t0 := t) (M0 := 8500 * (3 - (i + 1))) (by omega) (fun F5 t5 k5 n5 s5 V5 hP5 ht5 hk5 => ?_) 6 0 F t k n s1 V1 (by omega) (by omega) hP (by omega) (by omega)
    obtain ⟨sy, N, K, R, t6, rfl, HT6, hRP6, rfl, ht6⟩ := hP5.un
    refine c_law79 HT6 hRP6 (by omega) hk5 (fun V9 n9 sx9 k9 t9 ht9 h9 hF9 => ?_)
    refine j_inc1_3 rfl (by decide) dL_law_1033 ?_
    refine j_goto (tgt := 22) dL_law_1036 (by decide) ?_
    obtain ⟨h9, tg9, pl9, H9⟩ := h9
    exact ih (i + 1) _ t9 k9 n9 _ V9 (by omega) (by omega) ⟨sx9, tg9, pl9, N, K, R, t9, rfl, h9, H9, rfl, Nat.le_refl _⟩ (by omega) (by omega)

theorem NO_L_30 {g : jv_G} {X : jv_X} {I : jv_I} {pc n : Nat} {ls : List (Option Value)} {stk : List Value} {sh : Nat → jv_S} {V : Nat → Nat → Int32} {L : Nat → Nat → Int64} {k z k2 z2 : Nat} (hI : jo I = RL) (d : decode (jb I) pc = .ok (.new 30, 3)) (hk : 1 + k2 ≤ k) (hz : 6 + z2 ≤ z) (kk : ∀ sh1 V1, nw n sh V (5, 0, fun _ => none) (fun _ => 0) sh1 V1 → jv_J g X I (pc + 3) ls (jv_r g n :: stk) (n + 1) sh1 V1 L k2 z2) : jv_J g X I pc ls stk n sh V L k z :=
  jv_new jv_cls4 (by rw [hI]; exact (jv_gwm 29 (by decide +kernel) rfl)) (jv_gwm 30 (by decide +kernel) rfl) (jv_gwm 14 (by decide +kernel) rfl) (fun j hj => (show ∀ j, j < 6 → defaultValue (tyX4 j) = if jv_isR 4 j then .null else .int 0 by decide +kernel) j hj) d hk hz (kk _ _ nw.of)
set_option maxHeartbeats 4000000 in
set_option maxRecDepth 100000 in
theorem c_law7 {g : jv_G} {X : jv_X} {L : Nat → Nat → Int64} {k : Nat} {sx : Nat → jv_S} {V : (Nat → Nat → Int32)} {N K R t0 : Nat} (HT : TS V N K R t0) (h05 : V 0 5 = nI 0) (ht0 : t0 < 200) (hk : 110000 ≤ k) (fin : ∀ ls n sh V L k z, jv_J g X I_L_law 1044 ls [.int (nI 1)] n sh V L k z) : jv_J g X I_L_law 7 [some (.ref (scB g)), none, none, none, none, none, none, none, none, none, none, none, none, none, none, none, none, none, none] [jv_r g 0] 123 (SH sx) V L k (20 * k) := by
  refine j_astore_n_1 rfl (by decide) dL_law_7 ?_
  refine j_aload_n_1 dL_law_8 ?_
  refine jl_ld0 dL_law_9 ?_
  refine Q_L_117 (k' := 65000) (z' := 20 * 65000) (k2 := k - 65000) (z2 := 20 * (k - 65000)) (P := fun n s1 V1 => ∃ F t, PO F t n s1 V1 ∧ t ≤ t0 + 1740) rfl (by decide) dL_law_10 (Nat.le_of_ble_eq_true rfl) (by omega) (by omega) (fun _ _ hM' hT' => c_build HT h05 (by omega) (Nat.le_refl _) hM' (fun F t n s1 V1 hP ht => hT' n s1 V1 ⟨F, t, hP, ht⟩)) (fun n1 s1 V1 hP1 => ?_)
  obtain ⟨F, t, hP, ht⟩ := hP1
  refine j_astore_n_2 rfl (by decide) dL_law_13 ?_
  refine j_aload_n_2 dL_law_14 ?_
  refine j_ifnn (tgt := 20) dL_law_15 (by decide) ?_
  refine j_iconst (v := nI 0) dL_law_20 nc_iconst_0 ?_
  refine j_istore_n_3 rfl (by decide) dL_law_21 ?_
  have hF : F ≤ 13248 := by
    obtain ⟨sy, N1, K1, R1, t1, -, a, -, b, -⟩ := hP.un
    rw [← b]
    exact FA_max a.N12 a.R8
  exact c_law22 fin 4 0 F t _ n1 s1 V1 (by omega) (by omega) hP (by omega) (by omega)
