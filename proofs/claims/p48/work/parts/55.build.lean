/-! ===== the law's build ===== -/
/-- what is known of a local is forgotten -/
theorem jv_drop {g : jv_G} {X : jv_X} {I : jv_I} {pc n : Nat} {ls : List (Option Value)} {st : List Value} {sh : Nat → jv_S} {V : Nat → Nat → Int32} {L : Nat → Nat → Int64} {k z : Nat} (j : Nat) (h : jv_J g X I pc (ls.set j none) st n sh V L k z) : jv_J g X I pc ls st n sh V L k z := by
  obtain ⟨p, l, e, R, s, m, args, below, meth, c, Q⟩ := X
  intro hC lsA H locs cells slots hP hS hl hc hs
  refine h hC lsA H locs cells slots hP hS ⟨hl.1, hl.2.1, fun q hq => hl.2.2 q (jv_lst_mem.mpr ?_)⟩ hc hs
  have h1 := jv_lst_mem.mp hq
  rw [List.getElem?_set] at h1
  split at h1
  · split at h1
    · cases h1
    · cases h1
  · exact h1
theorem FA_max {C : Nat → Nat → Int32} {N R : Nat} (hN : N ≤ 12) (hR : R ≤ 8) : FA C N R ≤ 13248 := by
  have h1 : FA C N R ≤ 1656 * R := sm_max (fun j => by
    have : Fi C (43 + 10 * j) N ≤ 138 * N := sm_max (fun f => fi_le) N
    omega) R
  omega
theorem NO_L_10 {g : jv_G} {X : jv_X} {I : jv_I} {pc n : Nat} {ls : List (Option Value)} {stk : List Value} {sh : Nat → jv_S} {V : Nat → Nat → Int32} {L : Nat → Nat → Int64} {k z k2 z2 : Nat} (hI : jo I = RL) (d : decode (jb I) pc = .ok (.new 10, 3)) (hk : 1 + k2 ≤ k) (hz : 7 + z2 ≤ z) (kk : ∀ sh1 V1, nw n sh V (7, 0, fun _ => none) (fun _ => 0) sh1 V1 → jv_J g X I (pc + 3) ls (jv_r g n :: stk) (n + 1) sh1 V1 L k2 z2) : jv_J g X I pc ls stk n sh V L k z :=
  jv_new jv_cls6 (by rw [hI]; exact (jv_gwm 790 (by decide +kernel) rfl)) (jv_gwm 791 (by decide +kernel) rfl) (jv_gwm 19 (by decide +kernel) rfl) (fun j hj => (show ∀ j, j < 7 → defaultValue (tyX6 j) = if jv_isR 6 j then .null else .int 0 by decide +kernel) j hj) d hk hz (kk _ _ nw.of)
set_option maxHeartbeats 4000000 in
set_option maxRecDepth 100000 in
theorem c_b130 {g : jv_G} {X : jv_X} {L : Nat → Nat → Int64} {n : Nat} {s1 : Nat → jv_S} {V1 : Nat → Nat → Int32} {F t N0 M i m k : Nat} {x y : Int32} (hP : PO F t n s1 V1) (ht : t + 60 < 2 ^ 30) (hk : F + 1700 + m ≤ k) (kk : ∀ F1 k1 n1 s1 V1, PO F1 (t + 60) n1 s1 V1 → F1 + m ≤ k1 → jv_J g X I_L_build 59 [some (jv_r g 0), some (.ref (scB g)), some (jv_r g 123), some (.int (nI N0)), some (.int (nI M)), some (.int (nI (i + 1))), some (.int y)] [] n1 s1 V1 L k1 (20 * k1)) : jv_J g X I_L_build 130 [some (jv_r g 0), some (.ref (scB g)), some (jv_r g 123), some (.int (nI N0)), some (.int (nI M)), some (.int (nI i)), some (.int y)] [.int x, jv_r g 123, jv_r g 0] n s1 V1 L k (20 * k) := by
  obtain ⟨sy, tg, pl, N, K, R, t1, rfl, HT, H, rfl, ht1⟩ := hP
  obtain ⟨F, hF, hact⟩ := c_act HT H (by omega) x
  refine Q_L_112 (k' := FA V1 N R + 1700 - F) (z' := 20 * (FA V1 N R + 1700 - F)) (k2 := k - (FA V1 N R + 1700 - F)) (z2 := 20 * (k - (FA V1 N R + 1700 - F))) (P := PO F (t1 + 60)) rfl (by decide) dL_build_130 (Nat.le_of_ble_eq_true rfl) (by omega) (by omega) (fun _ _ hM' hT' => hact (by omega) hM' hT') (fun n2 s2 V2 h2 => ?_)
  refine j_if_ne (tgt := 138) dL_build_133 (by decide) (fun h => ?_) (fun h => ?_)
  · refine j_inc1_5 rfl (by decide) dL_build_138 ?_
    refine j_goto (tgt := 59) dL_build_141 (by decide) ?_
    exact kk F _ n2 s2 V2 (h2.le (by omega)) (by omega)
  · exact absurd h z1'

set_option maxHeartbeats 4000000 in
set_option maxRecDepth 100000 in
theorem c_bld_loop {g : jv_G} {X : jv_X} {T : jv_T} {L : Nat → Nat → Int64}  {N0 M t0 : Nat} (hM29 : M ≤ 29) (ht0 : t0 < 1000) (hM : jv_M g X T) (hT : ∀ F t n s1 V1, PO F t n s1 V1 → t ≤ t0 + 1740 → T (.inl (some (jv_r g 123))) n s1 V1 L) : ∀ (m : Nat) (i F t k n : Nat) (s1 : Nat → jv_S) (V1 : Nat → Nat → Int32), i ≤ M → M + 1 ≤ i + m → PO F t n s1 V1 → t ≤ t0 + 60 * i → F + 1700 * (M - i) ≤ k → jv_J g X I_L_build 59 [some (jv_r g 0), some (.ref (scB g)), some (jv_r g 123), some (.int (nI N0)), some (.int (nI M)), some (.int (nI i)), none] [] n s1 V1 L k (20 * k) := by
  intro m
  induction m with
  | zero => intro i F t k n s1 V1 hi hm2 hP ht hk; omega
  | succ m ih =>
  intro i F t k n s1 V1 hi hm2 hP ht hk
  refine j_iload_5 dL_build_59 ?_
  refine j_iload_4 dL_build_61 ?_
  refine j_ic_geN (by omega) (by omega) (tgt := 144) dL_build_63 (by decide) (fun h63 => ?_) (fun h63 => ?_)
  · refine j_aload_n_2 dL_build_144 ?_
    exact j_aret hM dL_build_145 rfl (Or.inl ⟨_, rfl⟩) (hT F t n s1 V1 hP (by omega))
  · refine jl_ld1 dL_build_66 ?_
    refine j_iconst (v := nI 1) dL_build_67 nc_iconst_1 ?_
    refine j_iload_5 dL_build_68 ?_
    refine j_bipush (v := nI 15) dL_build_70 nc_bipush_15 ?_
    refine j_irem (nI_ne0 (by decide) (by decide)) dL_build_72 ?_
    refine j_top (y := nI (i % 15)) (pk_rem (by omega) (by decide) (by decide)) ?_
    refine j_iaddN dL_build_73 ?_
    refine C_L_108  rfl (by decide) dL_build_74 (Nat.le_of_ble_eq_true rfl) (Nat.le_of_eq (Nat.zero_add _)) (Nat.le_of_eq (Nat.zero_add _)) (fun _ _ hM' hT' => c_cell (by omega) hM' hT') ?_
    refine j_iload_5 dL_build_77 ?_
    refine j_bipush (v := nI 15) dL_build_79 nc_bipush_15 ?_
    refine j_idiv (nI_ne0 (by decide) (by decide)) dL_build_81 ?_
    refine j_iconst (v := nI 3) dL_build_82 nc_iconst_3 ?_
    refine j_imul dL_build_83 ?_
    refine j_ishr dL_build_84 ?_
    refine j_bipush (v := nI 37) dL_build_85 nc_bipush_37 ?_
    refine j_iload_5 dL_build_87 ?_
    refine j_imulN dL_build_89 ?_
    refine j_iadd dL_build_90 ?_
    refine j_istore_6 rfl (by decide) dL_build_91 ?_
    refine j_aload_n_0 dL_build_93 ?_
    refine j_aload_n_2 dL_build_94 ?_
    refine j_iload_5 dL_build_95 ?_
    refine j_iconst (v := nI 4) dL_build_97 nc_iconst_4 ?_
    refine j_irem (nI_ne0 (by decide) (by decide)) dL_build_98 ?_
    refine j_top (y := nI (i % 4)) (pk_rem (by omega) (by decide) (by decide)) ?_
    refine j_iconst (v := nI 3) dL_build_99 nc_iconst_3 ?_
    refine j_ic_geN (by omega) (by omega) (tgt := 128) dL_build_100 (by decide) (fun h100 => ?_) (fun h100 => ?_)
    · refine j_iload_6 dL_build_128 ?_
      exact c_b130 hP (by omega) (m := 1700 * (M - (i + 1))) (by omega) (fun F1 k1 n1 s1 V1 hP1 hk1 => jv_drop 6 (ih (i + 1) F1 (t + 60) k1 n1 s1 V1 (by omega) (by omega) hP1 (by omega) (by omega)))
    · refine j_iload_6 dL_build_103 ?_
      refine j_iload_6 dL_build_105 ?_
      refine j_bipush (v := nI 20) dL_build_107 nc_bipush_20 ?_
      refine C_L_15  rfl (by decide) dL_build_109 (Nat.le_of_ble_eq_true rfl) (Nat.le_of_eq (Nat.zero_add _)) (Nat.le_of_eq (Nat.zero_add _)) (fun _ _ hM' hT' => c_below (m := 20) (by omega) (by omega) hM' hT') ?_
      refine j_isub dL_build_112 ?_
      refine j_iconst (v := nI 1) dL_build_113 nc_iconst_1 ?_
      refine j_iadd dL_build_114 ?_
      refine j_iload_6 dL_build_115 ?_
      refine j_iconst (v := nI 5) dL_build_117 nc_iconst_5 ?_
      refine j_ishr dL_build_118 ?_
      refine j_bipush (v := nI 14) dL_build_119 nc_bipush_14 ?_
      refine C_L_15  rfl (by decide) dL_build_121 (Nat.le_of_ble_eq_true rfl) (Nat.le_of_eq (Nat.zero_add _)) (Nat.le_of_eq (Nat.zero_add _)) (fun _ _ hM' hT' => c_below (m := 14) (by omega) (by omega) hM' hT') ?_
      refine j_iadd dL_build_124 ?_
      refine j_goto (tgt := 130) dL_build_125 (by decide) ?_
      exact c_b130 hP (by omega) (m := 1700 * (M - (i + 1))) (by omega) (fun F1 k1 n1 s1 V1 hP1 hk1 => jv_drop 6 (ih (i + 1) F1 (t + 60) k1 n1 s1 V1 (by omega) (by omega) hP1 (by omega) (by omega)))

set_option maxHeartbeats 4000000 in
set_option maxRecDepth 100000 in
theorem c_build {g : jv_G} {X : jv_X} {T : jv_T} {L : Nat → Nat → Int64} {k : Nat} {sx : Nat → jv_S} {V : Nat → Nat → Int32} {N K R t0 : Nat} (HT : TS V N K R t0) (h05 : V 0 5 = nI 0) (ht0 : t0 < 1000) (hk : 65000 ≤ k) (hM : jv_M g X T) (hT : ∀ F t n s1 V1, PO F t n s1 V1 → t ≤ t0 + 1740 → T (.inl (some (jv_r g 123))) n s1 V1 L) : jv_J g X I_L_build 0 [some (jv_r g 0), some (.ref (scB g)), none, none, none, none, none] [] 123 (SH sx) V L k (20 * k) := by
  refine NO_L_10 (k2 := k - 1) (z2 := 20 * k - 7) rfl dL_build_0 (by omega) (by omega) (fun sh1 W1 hw1 => ?_)
  have hS0 : (sh1 123).1 = 7 := by rw [hw1.2.1]
  refine j_dup rfl dL_build_3 ?_
  refine Q_L_107 (k' := 6) (z' := 36) (k2 := k - 7) (z2 := 20 * k - 43) (P := fun n1 s1 V1 => n1 = 124 + 6 ∧ (∀ q, q < 124 → q ≠ 123 → s1 q = sh1 q) ∧ (∀ q, q < 124 → V1 q = W1 q) ∧ (s1 123).1 = 7) rfl (by decide) dL_build_4 hS0 (Nat.le_of_ble_eq_true rfl) (by omega) (by omega) (fun _ _ hM' hT' => c_simInit hS0 (by decide) (Nat.le_refl _) (Nat.le_refl _) hM' hT') (fun n1 s1 V1 hP1 => ?_)
  obtain ⟨rfl, p1, p2, hS⟩ := hP1
  have hA : ∀ q, q < 123 → s1 q = SH sx q ∧ V1 q = V q := fun q hq => ⟨(p1 q (by omega) (by omega)).trans (hw1.1 q (by omega)).1, (p2 q (by omega)).trans (hw1.1 q (by omega)).2⟩
  have h0 : V1 123 0 = V1 0 5 := by rw [p2 123 (by omega), hw1.2.2, (hA 0 (by omega)).2, h05]; rfl
  refine j_astore_n_2 rfl (by decide) dL_build_7 ?_
  refine j_iconst (v := nI 2) dL_build_8 nc_iconst_2 ?_
  refine jl_ld1 dL_build_9 ?_
  refine j_iconst (v := nI 0) dL_build_10 nc_iconst_0 ?_
  refine C_L_108  rfl (by decide) dL_build_11 (Nat.le_of_ble_eq_true rfl) (Nat.le_of_eq (Nat.zero_add _)) (Nat.le_of_eq (Nat.zero_add _)) (fun _ _ hM' hT' => c_cell (by decide) hM' hT') ?_
  refine j_bipush (v := nI 11) dL_build_14 nc_bipush_11 ?_
  refine C_L_15  rfl (by decide) dL_build_16 (Nat.le_of_ble_eq_true rfl) (Nat.le_of_eq (Nat.zero_add _)) (Nat.le_of_eq (Nat.zero_add _)) (fun _ _ hM' hT' => c_below (m := 11) (by omega) (by omega) hM' hT') ?_
  refine j_iaddN dL_build_19 ?_
  have hm : bel (cellX g 0) 11 < 11 := bel_lt (by omega)
  generalize bel (cellX g 0) 11 = m at hm ⊢
  refine j_istore_n_3 rfl (by decide) dL_build_20 ?_
  refine j_aload_n_2 dL_build_21 ?_
  refine j_iload_n_3 dL_build_22 ?_
  refine Q_L_25 (k' := 6) (z' := 60) (k2 := k - 13) (z2 := 20 * (k - 13)) (P := BP 130 s1 V1 (2 + m)) rfl (by decide) dL_build_23 hS (Nat.le_of_ble_eq_true rfl) (by omega) (by omega) (fun _ _ hM' hT' => c_simBuild (by omega) (by omega) hS (by omega) (Nat.le_refl _) (Nat.le_refl _) hM' hT') (fun n2 s2 V2 hP2 => ?_)
  obtain ⟨tg1, pl1, H1⟩ := hP2.rep (by decide) h0 (by omega) (by omega)
  have hB := hP2.low (by decide)
  obtain ⟨sy, rfl⟩ := SH_ex (fun q hq => (hB q hq).1.trans (hA q hq).1)
  have hag : Ag V2 V := fun q hq => ((hB q hq).2).trans (hA q hq).2
  have hag1 : Ag V2 V1 := fun q hq => (hB q hq).2
  have HT1 : TS V2 N K R t0 := HT.eq hag.eqv
  have hPO : PO 0 t0 n2 (SH sy) (buV V2 (2 + m)) := ⟨sy, tg1, pl1, 2 + m, 0, 0, t0, rfl, HT1.built (by omega) (by omega), H1.built hag1, rfl, Nat.le_refl _⟩
  refine j_aload_n_0 dL_build_26 ?_
  refine j_iload_n_3 dL_build_27 ?_
  refine C_L_29  rfl (by decide) dL_build_28 sk_0 (Nat.le_of_ble_eq_true rfl) (Nat.le_of_eq (Nat.zero_add _)) (Nat.le_of_eq (Nat.zero_add _)) (fun _ _ hM' hT' => g_build (by omega) (by omega) hM' hT') ?_
  refine j_iload_n_3 dL_build_31 ?_
  refine j_iconst (v := nI 1) dL_build_32 nc_iconst_1 ?_
  refine j_isubN (by omega) dL_build_33 ?_
  refine j_ic_eqN (by omega) (by omega) (tgt := 39) dL_build_34 (by decide) (fun h34 => ?_) (fun h34 => ?_)
  · refine j_bipush (v := nI 10) dL_build_39 nc_bipush_10 ?_
    refine jl_ld1 dL_build_41 ?_
    refine j_iconst (v := nI 0) dL_build_42 nc_iconst_0 ?_
    refine C_L_108  rfl (by decide) dL_build_43 (Nat.le_of_ble_eq_true rfl) (Nat.le_of_eq (Nat.zero_add _)) (Nat.le_of_eq (Nat.zero_add _)) (fun _ _ hM' hT' => c_cell (by decide) hM' hT') ?_
    refine j_iconst (v := nI 4) dL_build_46 nc_iconst_4 ?_
    refine j_ishr dL_build_47 ?_
    refine j_bipush (v := nI 20) dL_build_48 nc_bipush_20 ?_
    refine C_L_15  rfl (by decide) dL_build_50 (Nat.le_of_ble_eq_true rfl) (Nat.le_of_eq (Nat.zero_add _)) (Nat.le_of_eq (Nat.zero_add _)) (fun _ _ hM' hT' => c_below (m := 20) (by omega) (by omega) hM' hT') ?_
    refine j_iaddN dL_build_53 ?_
    have hm2 : bel (cellX g 0 >>> (nI 4 &&& 31)) 20 < 20 := bel_lt (by omega)
    generalize bel (cellX g 0 >>> (nI 4 &&& 31)) 20 = m2 at hm2 ⊢
    refine j_istore_4 rfl (by decide) dL_build_54 ?_
    refine j_iconst (v := nI 0) dL_build_56 nc_iconst_0 ?_
    refine j_istore_5 rfl (by decide) dL_build_57 ?_
    exact c_bld_loop (t0 := t0) (by omega) ht0 hM hT (10 + m2 + 1) 0 0 t0 (k - 13) n2 _ _ (by omega) (by omega) hPO (by omega) (by omega)
  · exact absurd (by omega) h34
