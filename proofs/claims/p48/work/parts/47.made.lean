/-! ===== the hand's tower: made, built, lifts and rumours added ===== -/
theorem NO_X6_28 {g : jv_G} {X : jv_X} {I : jv_I} {pc n : Nat} {ls : List (Option Value)} {stk : List Value} {sh : Nat → jv_S} {V : Nat → Nat → Int32} {L : Nat → Nat → Int64} {k z k2 z2 : Nat} (hI : jo I = RX6) (d : decode (jb I) pc = .ok (.new 28, 3)) (hk : 1 + k2 ≤ k) (hz : 9 + z2 ≤ z) (kk : ∀ sh1 V1, nw n sh V (6, 0, fun _ => none) (fun _ => 0) sh1 V1 → jv_J g X I (pc + 3) ls (jv_r g n :: stk) (n + 1) sh1 V1 L k2 z2) : jv_J g X I pc ls stk n sh V L k z :=
  jv_new jv_cls5 (by rw [hI]; exact (jv_gwm 652 (by decide +kernel) rfl)) (jv_gwm 727 (by decide +kernel) rfl) (jv_gwm 26 (by decide +kernel) rfl) (fun j hj => (show ∀ j, j < 9 → defaultValue (tyX5 j) = if jv_isR 5 j then .null else .int 0 by decide +kernel) j hj) d hk hz (kk _ _ nw.of)
set_option maxHeartbeats 4000000 in
set_option maxRecDepth 100000 in
theorem c_simInit {g : jv_G} {X : jv_X} {T : jv_T} {n : Nat} {sh : Nat → jv_S} {V : Nat → Nat → Int32} {L : Nat → Nat → Int64} {k z : Nat} {p : Nat} (hp : (sh p).1 = 7) (hpn : p < n) (hk : 6 ≤ k) (hz : 36 ≤ z) (hM : jv_M g X T) (hT : ∀ n1 s1 V1, (n1 = n + 6 ∧ (∀ q, q < n → q ≠ p → s1 q = sh q) ∧ (∀ q, q < n → V1 q = V q) ∧ (s1 p).1 = 7) → T (.inl none) n1 s1 V1 L) : jv_J g X I_X6_init 0 [some (jv_r g p)] [] n sh V L k z := by
  refine j_aload_n_0 dX6_init_0 ?_
  refine OI_X6 rfl (by decide) dX6_init_1 (Nat.le_of_ble_eq_true rfl) ?_
  refine j_aload_n_0 dX6_init_4 ?_
  refine j_bipush (v := nI 6) dX6_init_5 nc_bipush_6 ?_
  refine jr_newI (jv_gwm 64 (by decide +kernel) rfl) dX6_init_7 (by decide) (k2 := k - 1) (z2 := z - 6) (by omega) (by omega) (fun sh1 W1 hw1 => ?_)
  have kp0 : (sh1 p).1 = 7 := by rw [(hw1.1 p (by omega)).1]; exact hp
  have ka0 : (sh1 n).1 = 10 := by rw [hw1.2.1]
  have kn0 : (sh1 n).2.1 = 6 := by rw [hw1.2.1]
  refine j_dup rfl dX6_init_9 ?_
  refine j_iconst (v := nI 0) dX6_init_10 nc_iconst_0 ?_
  refine j_bipush (v := nI 10) dX6_init_11 nc_bipush_10 ?_
  refine j_iast dX6_init_13 ka0 kn0 (by omega) (by omega) ?_
  refine j_dup rfl dX6_init_14 ?_
  refine j_iconst (v := nI 1) dX6_init_15 nc_iconst_1 ?_
  refine j_bipush (v := nI 10) dX6_init_16 nc_bipush_10 ?_
  refine j_iast dX6_init_18 ka0 kn0 (by omega) (by omega) ?_
  refine j_dup rfl dX6_init_19 ?_
  refine j_iconst (v := nI 2) dX6_init_20 nc_iconst_2 ?_
  refine j_bipush (v := nI 10) dX6_init_21 nc_bipush_10 ?_
  refine j_iast dX6_init_23 ka0 kn0 (by omega) (by omega) ?_
  refine j_dup rfl dX6_init_24 ?_
  refine j_iconst (v := nI 3) dX6_init_25 nc_iconst_3 ?_
  refine j_bipush (v := nI 10) dX6_init_26 nc_bipush_10 ?_
  refine j_iast dX6_init_28 ka0 kn0 (by omega) (by omega) ?_
  refine j_dup rfl dX6_init_29 ?_
  refine j_iconst (v := nI 4) dX6_init_30 nc_iconst_4 ?_
  refine j_bipush (v := nI 10) dX6_init_31 nc_bipush_10 ?_
  refine j_iast dX6_init_33 ka0 kn0 (by omega) (by omega) ?_
  refine j_dup rfl dX6_init_34 ?_
  refine j_iconst (v := nI 5) dX6_init_35 nc_iconst_5 ?_
  refine j_bipush (v := nI 10) dX6_init_36 nc_bipush_10 ?_
  refine j_iast dX6_init_38 ka0 kn0 (by omega) (by omega) ?_
  refine P_X6_7 rfl dX6_init_39 kp0 ?_
  have lp0 : (jv_US sh1 p 1 (n + 0) p).1 = 7 := by rw [US_1]; exact kp0
  refine j_aload_n_0 dX6_init_42 ?_
  refine j_bipush (v := nI 6) dX6_init_43 nc_bipush_6 ?_
  refine jr_newI (jv_gwm 64 (by decide +kernel) rfl) dX6_init_45 (by decide) (k2 := k - 2) (z2 := z - 12) (by omega) (by omega) (fun sh2 W2 hw2 => ?_)
  have kp1 : (sh2 p).1 = 7 := by rw [(hw2.1 p (by omega)).1]; exact lp0
  have ka1 : (sh2 (n + 1)).1 = 10 := by rw [hw2.2.1]
  have kn1 : (sh2 (n + 1)).2.1 = 6 := by rw [hw2.2.1]
  refine j_dup rfl dX6_init_47 ?_
  refine j_iconst (v := nI 0) dX6_init_48 nc_iconst_0 ?_
  refine j_iconst (v := nI 2) dX6_init_49 nc_iconst_2 ?_
  refine j_iast dX6_init_50 ka1 kn1 (by omega) (by omega) ?_
  refine j_dup rfl dX6_init_51 ?_
  refine j_iconst (v := nI 1) dX6_init_52 nc_iconst_1 ?_
  refine j_iconst (v := nI 2) dX6_init_53 nc_iconst_2 ?_
  refine j_iast dX6_init_54 ka1 kn1 (by omega) (by omega) ?_
  refine j_dup rfl dX6_init_55 ?_
  refine j_iconst (v := nI 2) dX6_init_56 nc_iconst_2 ?_
  refine j_iconst (v := nI 2) dX6_init_57 nc_iconst_2 ?_
  refine j_iast dX6_init_58 ka1 kn1 (by omega) (by omega) ?_
  refine j_dup rfl dX6_init_59 ?_
  refine j_iconst (v := nI 3) dX6_init_60 nc_iconst_3 ?_
  refine j_iconst (v := nI 2) dX6_init_61 nc_iconst_2 ?_
  refine j_iast dX6_init_62 ka1 kn1 (by omega) (by omega) ?_
  refine j_dup rfl dX6_init_63 ?_
  refine j_iconst (v := nI 4) dX6_init_64 nc_iconst_4 ?_
  refine j_iconst (v := nI 2) dX6_init_65 nc_iconst_2 ?_
  refine j_iast dX6_init_66 ka1 kn1 (by omega) (by omega) ?_
  refine j_dup rfl dX6_init_67 ?_
  refine j_iconst (v := nI 5) dX6_init_68 nc_iconst_5 ?_
  refine j_iconst (v := nI 2) dX6_init_69 nc_iconst_2 ?_
  refine j_iast dX6_init_70 ka1 kn1 (by omega) (by omega) ?_
  refine P_X6_13 rfl dX6_init_71 kp1 ?_
  have lp1 : (jv_US sh2 p 2 (n + 1) p).1 = 7 := by rw [US_1]; exact kp1
  refine j_aload_n_0 dX6_init_74 ?_
  refine j_iconst (v := nI 5) dX6_init_75 nc_iconst_5 ?_
  refine jr_newI (jv_gwm 64 (by decide +kernel) rfl) dX6_init_76 (by decide) (k2 := k - 3) (z2 := z - 18) (by omega) (by omega) (fun sh3 W3 hw3 => ?_)
  have kp2 : (sh3 p).1 = 7 := by rw [(hw3.1 p (by omega)).1]; exact lp1
  have ka2 : (sh3 (n + 2)).1 = 10 := by rw [hw3.2.1]
  have kn2 : (sh3 (n + 2)).2.1 = 5 := by rw [hw3.2.1]
  refine j_dup rfl dX6_init_78 ?_
  refine j_iconst (v := nI 0) dX6_init_79 nc_iconst_0 ?_
  refine j_iconst (v := nI 3) dX6_init_80 nc_iconst_3 ?_
  refine j_iast dX6_init_81 ka2 kn2 (by omega) (by omega) ?_
  refine j_dup rfl dX6_init_82 ?_
  refine j_iconst (v := nI 1) dX6_init_83 nc_iconst_1 ?_
  refine j_iconst (v := nI 3) dX6_init_84 nc_iconst_3 ?_
  refine j_iast dX6_init_85 ka2 kn2 (by omega) (by omega) ?_
  refine j_dup rfl dX6_init_86 ?_
  refine j_iconst (v := nI 2) dX6_init_87 nc_iconst_2 ?_
  refine j_iconst (v := nI 3) dX6_init_88 nc_iconst_3 ?_
  refine j_iast dX6_init_89 ka2 kn2 (by omega) (by omega) ?_
  refine j_dup rfl dX6_init_90 ?_
  refine j_iconst (v := nI 3) dX6_init_91 nc_iconst_3 ?_
  refine j_iconst (v := nI 3) dX6_init_92 nc_iconst_3 ?_
  refine j_iast dX6_init_93 ka2 kn2 (by omega) (by omega) ?_
  refine j_dup rfl dX6_init_94 ?_
  refine j_iconst (v := nI 4) dX6_init_95 nc_iconst_4 ?_
  refine j_iconst (v := nI 3) dX6_init_96 nc_iconst_3 ?_
  refine j_iast dX6_init_97 ka2 kn2 (by omega) (by omega) ?_
  refine P_X6_16 rfl dX6_init_98 kp2 ?_
  have lp2 : (jv_US sh3 p 3 (n + 2) p).1 = 7 := by rw [US_1]; exact kp2
  refine j_aload_n_0 dX6_init_101 ?_
  refine j_iconst (v := nI 5) dX6_init_102 nc_iconst_5 ?_
  refine jr_newZ (jv_gwm 65 (by decide +kernel) rfl) dX6_init_103 (by decide) (k2 := k - 4) (z2 := z - 24) (by omega) (by omega) (fun sh4 W4 hw4 => ?_)
  have kp3 : (sh4 p).1 = 7 := by rw [(hw4.1 p (by omega)).1]; exact lp2
  have ka3 : (sh4 (n + 3)).1 = 11 := by rw [hw4.2.1]
  have kn3 : (sh4 (n + 3)).2.1 = 5 := by rw [hw4.2.1]
  refine j_dup rfl dX6_init_105 ?_
  refine j_iconst (v := nI 0) dX6_init_106 nc_iconst_0 ?_
  refine j_iconst (v := nI 1) dX6_init_107 nc_iconst_1 ?_
  refine j_bast dX6_init_108 (jv_b01 (by first | exact Or.inl rfl | exact Or.inr rfl | assumption)) ka3 kn3 (by omega) (by omega) ?_
  refine j_dup rfl dX6_init_109 ?_
  refine j_iconst (v := nI 1) dX6_init_110 nc_iconst_1 ?_
  refine j_iconst (v := nI 1) dX6_init_111 nc_iconst_1 ?_
  refine j_bast dX6_init_112 (jv_b01 (by first | exact Or.inl rfl | exact Or.inr rfl | assumption)) ka3 kn3 (by omega) (by omega) ?_
  refine j_dup rfl dX6_init_113 ?_
  refine j_iconst (v := nI 2) dX6_init_114 nc_iconst_2 ?_
  refine j_iconst (v := nI 1) dX6_init_115 nc_iconst_1 ?_
  refine j_bast dX6_init_116 (jv_b01 (by first | exact Or.inl rfl | exact Or.inr rfl | assumption)) ka3 kn3 (by omega) (by omega) ?_
  refine j_dup rfl dX6_init_117 ?_
  refine j_iconst (v := nI 3) dX6_init_118 nc_iconst_3 ?_
  refine j_iconst (v := nI 1) dX6_init_119 nc_iconst_1 ?_
  refine j_bast dX6_init_120 (jv_b01 (by first | exact Or.inl rfl | exact Or.inr rfl | assumption)) ka3 kn3 (by omega) (by omega) ?_
  refine j_dup rfl dX6_init_121 ?_
  refine j_iconst (v := nI 4) dX6_init_122 nc_iconst_4 ?_
  refine j_iconst (v := nI 1) dX6_init_123 nc_iconst_1 ?_
  refine j_bast dX6_init_124 (jv_b01 (by first | exact Or.inl rfl | exact Or.inr rfl | assumption)) ka3 kn3 (by omega) (by omega) ?_
  refine P_X6_19 rfl dX6_init_125 kp3 ?_
  have lp3 : (jv_US sh4 p 4 (n + 3) p).1 = 7 := by rw [US_1]; exact kp3
  refine j_aload_n_0 dX6_init_128 ?_
  refine j_iconst (v := nI 0) dX6_init_129 nc_iconst_0 ?_
  refine jr_anewA (jv_gwm 651 (by decide +kernel) rfl) dX6_init_130 (by decide) (k2 := k - 5) (z2 := z - 30) (by omega) (by omega) (fun sh5 hw5 => ?_)
  have kp4 : (sh5 p).1 = 7 := by rw [(hw5.1 p (by omega)).1]; exact lp3
  have ka4 : (sh5 (n + 4)).1 = 15 := by rw [hw5.2.1]
  have kn4 : (sh5 (n + 4)).2.1 = 0 := by rw [hw5.2.1]
  refine P_X6_24 rfl dX6_init_133 kp4 ?_
  have lp4 : (jv_US sh5 p 5 (n + 4) p).1 = 7 := by rw [US_1]; exact kp4
  refine j_aload_n_0 dX6_init_136 ?_
  refine j_iconst (v := nI 0) dX6_init_137 nc_iconst_0 ?_
  refine jr_anewR (jv_gwm 652 (by decide +kernel) rfl) dX6_init_138 (by decide) (k2 := k - 6) (z2 := z - 36) (by omega) (by omega) (fun sh6 hw6 => ?_)
  have kp5 : (sh6 p).1 = 7 := by rw [(hw6.1 p (by omega)).1]; exact lp4
  have ka5 : (sh6 (n + 5)).1 = 12 := by rw [hw6.2.1]
  have kn5 : (sh6 (n + 5)).2.1 = 0 := by rw [hw6.2.1]
  refine P_X6_30 rfl dX6_init_141 kp5 ?_
  have lp5 : (jv_US sh6 p 6 (n + 5) p).1 = 7 := by rw [US_1]; exact kp5
  exact j_vret hM dX6_init_144 rfl (hT _ _ _ ⟨rfl, fun q hq hqp => by rw [jv_US_other hqp, (hw6.1 q (by omega)).1, jv_US_other hqp, (hw5.1 q (by omega)).1, jv_US_other hqp, (hw4.1 q (by omega)).1, jv_US_other hqp, (hw3.1 q (by omega)).1, jv_US_other hqp, (hw2.1 q (by omega)).1, jv_US_other hqp, (hw1.1 q (by omega)).1], fun q hq => by rw [jv_U_other (by omega), jv_U_other (by omega), jv_U_other (by omega), jv_U_other (by omega), jv_U_other (by omega), (hw4.1 q (by omega)).2, jv_U_other (by omega), jv_U_other (by omega), jv_U_other (by omega), jv_U_other (by omega), jv_U_other (by omega), (hw3.1 q (by omega)).2, jv_U_other (by omega), jv_U_other (by omega), jv_U_other (by omega), jv_U_other (by omega), jv_U_other (by omega), jv_U_other (by omega), (hw2.1 q (by omega)).2, jv_U_other (by omega), jv_U_other (by omega), jv_U_other (by omega), jv_U_other (by omega), jv_U_other (by omega), jv_U_other (by omega), (hw1.1 q (by omega)).2], lp5⟩)

set_option maxHeartbeats 4000000 in
set_option maxRecDepth 100000 in
theorem c_bui_loop {g : jv_G} {X : jv_X} {n : Nat} {sh : Nat → jv_S} {L : Nat → Nat → Int64} {k z : Nat} {N a : Nat} {V0 : (Nat → Nat → Int32)} (hN2 : 2 ≤ N) (hN12 : N ≤ 12) (hp : (sh 123).1 = 7) (r1 : (sh 123).2.2 1 = some a) (r2 : (sh 123).2.2 2 = some (a + 1)) (r3 : (sh 123).2.2 3 = some (a + 2)) (r4 : (sh 123).2.2 4 = some (a + 3)) (kh : (sh a).1 = 10) (nh : (sh a).2.1 = N) (ks : (sh (a + 1)).1 = 10) (ns : (sh (a + 1)).2.1 = N) (kt : (sh (a + 2)).1 = 10) (nt : (sh (a + 2)).2.1 = N - 1) (ko : (sh (a + 3)).1 = 11) (no : (sh (a + 3)).2.1 = N - 1) (kk : ∀ V, (∀ q, q < a → V q = V0 q) → (∀ f, f < N → V a f = nI 10 ∧ V (a + 1) f = nI 2) → (∀ f, f < N - 1 → V (a + 2) f = nI 3 ∧ V (a + 3) f = nI 1) → jv_J g X I_X6_build 84 [some (jv_r g 123), some (.int (nI N)), some (.int (nI N))] [] n sh V L k z) : ∀ (m : Nat) (i : Nat) (V : (Nat → Nat → Int32)), i ≤ N → N + 1 ≤ i + m → (∀ q, q < a → V q = V0 q) → (∀ f, f < i → V a f = nI 10 ∧ V (a + 1) f = nI 2) → (∀ f, f < i → f < N - 1 → V (a + 2) f = nI 3 ∧ V (a + 3) f = nI 1) → jv_J g X I_X6_build 34 [some (jv_r g 123), some (.int (nI N)), some (.int (nI i))] [] n sh V L k z := by
  intro m
  induction m with
  | zero => intro i V hi hm hV h2 h3; omega
  | succ m ih =>
  intro i V hi hm hV h2 h3
  refine j_iload_n_2 dX6_build_34 ?_
  refine j_iload_n_1 dX6_build_35 ?_
  refine j_ic_geN (by omega) (by omega) (tgt := 84) dX6_build_36 (by decide) (fun h36 => ?_) (fun h36 => ?_)
  · obtain rfl : i = N := by omega
    exact kk V hV h2 (fun f hf => h3 f (by omega) hf)
  · refine j_aload_n_0 dX6_build_39 ?_
    refine G_X6_7 rfl dX6_build_40 hp r1 ?_
    refine j_iload_n_2 dX6_build_43 ?_
    refine j_bipush (v := nI 10) dX6_build_44 nc_bipush_10 ?_
    refine j_iast dX6_build_46 kh nh (by omega) (by omega) ?_
    refine j_aload_n_0 dX6_build_47 ?_
    refine G_X6_13 rfl dX6_build_48 hp r2 ?_
    refine j_iload_n_2 dX6_build_51 ?_
    refine j_iconst (v := nI 2) dX6_build_52 nc_iconst_2 ?_
    refine j_iast dX6_build_53 ks ns (by omega) (by omega) ?_
    refine j_iload_n_2 dX6_build_54 ?_
    refine j_iload_n_1 dX6_build_55 ?_
    refine j_iconst (v := nI 1) dX6_build_56 nc_iconst_1 ?_
    refine j_isubN (by omega) dX6_build_57 ?_
    refine j_ic_neN (by omega) (by omega) (tgt := 64) dX6_build_58 (by decide) (fun h58 => ?_) (fun h58 => ?_)
    · refine j_aload_n_0 dX6_build_64 ?_
      refine G_X6_16 rfl dX6_build_65 hp r3 ?_
      refine j_iload_n_2 dX6_build_68 ?_
      refine j_iconst (v := nI 3) dX6_build_69 nc_iconst_3 ?_
      refine j_iast dX6_build_70 kt nt (by omega) (by omega) ?_
      refine j_aload_n_0 dX6_build_71 ?_
      refine G_X6_19 rfl dX6_build_72 hp r4 ?_
      refine j_iload_n_2 dX6_build_75 ?_
      refine j_iconst (v := nI 1) dX6_build_76 nc_iconst_1 ?_
      refine j_bast dX6_build_77 (jv_b01 (Or.inr (by decide +kernel))) ko no (by omega) (by omega) ?_
      refine j_inc1_2 rfl (by decide) dX6_build_78 ?_
      refine j_goto (tgt := 34) dX6_build_81 (by decide) ?_
      refine ih (i + 1) _ (by omega) (by omega) (fun q hq => ?_) (fun f hf => ?_) (fun f hf hf2 => ?_)
      · rw [jv_U_other (by omega), jv_U_other (by omega), jv_U_other (by omega), jv_U_other (by omega)]; exact hV q hq
      · by_cases e : f = i
        · subst e
          exact ⟨by rw [jv_Une (by omega), jv_Une (by omega), jv_Une (by omega), jv_Ueq], by rw [jv_Une (by omega), jv_Une (by omega), jv_Ueq]⟩
        · rw [jv_Unj e, jv_Unj e, jv_Unj e, jv_Unj e, jv_Unj e, jv_Unj e, jv_Unj e, jv_Unj e]
          exact h2 f (by omega)
      · by_cases e : f = i
        · subst e
          exact ⟨by rw [jv_Une (by omega), jv_Ueq], jv_Ueq⟩
        · rw [jv_Unj e, jv_Unj e, jv_Unj e, jv_Unj e, jv_Unj e, jv_Unj e, jv_Unj e, jv_Unj e]
          exact h3 f (by omega) hf2
    · refine j_goto (tgt := 78) dX6_build_61 (by decide) ?_
      refine j_inc1_2 rfl (by decide) dX6_build_78 ?_
      refine j_goto (tgt := 34) dX6_build_81 (by decide) ?_
      refine ih (i + 1) _ (by omega) (by omega) (fun q hq => ?_) (fun f hf => ?_) (fun f hf hf2 => ?_)
      · rw [jv_U_other (by omega), jv_U_other (by omega)]; exact hV q hq
      · by_cases e : f = i
        · subst e
          exact ⟨by rw [jv_Une (by omega), jv_Ueq], jv_Ueq⟩
        · rw [jv_Unj e, jv_Unj e, jv_Unj e, jv_Unj e]
          exact h2 f (by omega)
      · rw [jv_Une (by omega), jv_Une (by omega), jv_Une (by omega), jv_Une (by omega)]
        exact h3 f (by omega) hf2

set_option maxHeartbeats 4000000 in
set_option maxRecDepth 100000 in
theorem c_simBuild {g : jv_G} {X : jv_X} {T : jv_T} {n : Nat} {sh : Nat → jv_S} {V : Nat → Nat → Int32} {L : Nat → Nat → Int64} {k z : Nat} {N : Nat} (hN2 : 2 ≤ N) (hN12 : N ≤ 12) (hp : (sh 123).1 = 7) (hpn : 124 ≤ n) (hk : 6 ≤ k) (hz : 60 ≤ z) (hM : jv_M g X T) (hT : ∀ n1 s1 V1, (n1 = n + 6 ∧ (∀ q, q < n → q ≠ 123 → s1 q = sh q) ∧ (∀ q, q < n → V1 q = V q) ∧ (s1 123).1 = 7 ∧ (∀ i, 1 ≤ i → i ≤ 6 → (s1 123).2.2 i = some (n + (i - 1))) ∧ (∀ i, 2 ≤ i → i ≤ 5 → (s1 (n + (i - 2))).1 = (if i = 5 then 11 else 10) ∧ (s1 (n + (i - 2))).2.1 = tlen N i ∧ ∀ f, f < tlen N i → V1 (n + (i - 2)) f = (if i = 2 then nI 10 else if i = 3 then nI 2 else if i = 4 then nI 3 else nI 1)) ∧ (s1 (n + 4)).1 = 15 ∧ (s1 (n + 4)).2.1 = 0 ∧ (s1 (n + 5)).1 = 12 ∧ (s1 (n + 5)).2.1 = 0) → T (.inl none) n1 s1 V1 L) : jv_J g X I_X6_build 0 [some (jv_r g 123), some (.int (nI N)), none] [] n sh V L k z := by
  refine j_aload_n_0 dX6_build_0 ?_
  refine j_iload_n_1 dX6_build_1 ?_
  refine jr_newI (jv_gwm 64 (by decide +kernel) rfl) dX6_build_2 (by omega) (k2 := k - 1) (z2 := z - 12) (by omega) (by omega) (fun sh1 W1 hw1 => ?_)
  have kp0 : (sh1 123).1 = 7 := by rw [(hw1.1 123 (by omega)).1]; exact hp
  have ka0 : sh1 (n + 0) = (10, N, fun _ => none) := hw1.2.1
  refine P_X6_7 rfl dX6_build_4 kp0 ?_
  have lp0 : (jv_US sh1 123 1 (n + 0) 123).1 = 7 := by rw [US_1]; exact kp0
  refine j_aload_n_0 dX6_build_7 ?_
  refine j_iload_n_1 dX6_build_8 ?_
  refine jr_newI (jv_gwm 64 (by decide +kernel) rfl) dX6_build_9 (by omega) (k2 := k - 2) (z2 := z - 24) (by omega) (by omega) (fun sh2 W2 hw2 => ?_)
  have kp1 : (sh2 123).1 = 7 := by rw [(hw2.1 123 (by omega)).1]; exact lp0
  have ka1 : sh2 (n + 1) = (10, N, fun _ => none) := hw2.2.1
  refine P_X6_13 rfl dX6_build_11 kp1 ?_
  have lp1 : (jv_US sh2 123 2 (n + 1) 123).1 = 7 := by rw [US_1]; exact kp1
  refine j_aload_n_0 dX6_build_14 ?_
  refine j_iload_n_1 dX6_build_15 ?_
  refine j_iconst (v := nI 1) dX6_build_16 nc_iconst_1 ?_
  refine j_isubN (by omega) dX6_build_17 ?_
  refine jr_newI (jv_gwm 64 (by decide +kernel) rfl) dX6_build_18 (by omega) (k2 := k - 3) (z2 := z - 36) (by omega) (by omega) (fun sh3 W3 hw3 => ?_)
  have kp2 : (sh3 123).1 = 7 := by rw [(hw3.1 123 (by omega)).1]; exact lp1
  have ka2 : sh3 (n + 2) = (10, (N - 1), fun _ => none) := hw3.2.1
  refine P_X6_16 rfl dX6_build_20 kp2 ?_
  have lp2 : (jv_US sh3 123 3 (n + 2) 123).1 = 7 := by rw [US_1]; exact kp2
  refine j_aload_n_0 dX6_build_23 ?_
  refine j_iload_n_1 dX6_build_24 ?_
  refine j_iconst (v := nI 1) dX6_build_25 nc_iconst_1 ?_
  refine j_isubN (by omega) dX6_build_26 ?_
  refine jr_newZ (jv_gwm 65 (by decide +kernel) rfl) dX6_build_27 (by omega) (k2 := k - 4) (z2 := z - 48) (by omega) (by omega) (fun sh4 W4 hw4 => ?_)
  have kp3 : (sh4 123).1 = 7 := by rw [(hw4.1 123 (by omega)).1]; exact lp2
  have ka3 : sh4 (n + 3) = (11, (N - 1), fun _ => none) := hw4.2.1
  refine P_X6_19 rfl dX6_build_29 kp3 ?_
  have lp3 : (jv_US sh4 123 4 (n + 3) 123).1 = 7 := by rw [US_1]; exact kp3
  refine j_iconst (v := nI 0) dX6_build_32 nc_iconst_0 ?_
  refine j_istore_n_2 rfl (by decide) dX6_build_33 ?_
  have s4o : ∀ q, q < n → q ≠ 123 → jv_US sh4 123 4 (n + 3) q = sh q := fun q a b => by rw [jv_US_other b, (hw4.1 q (by omega)).1, jv_US_other b, (hw3.1 q (by omega)).1, jv_US_other b, (hw2.1 q (by omega)).1, jv_US_other b, (hw1.1 q (by omega)).1]
  have w4o : ∀ q, q < n → W4 q = V q := fun q a => by rw [(hw4.1 q (by omega)).2, (hw3.1 q (by omega)).2, (hw2.1 q (by omega)).2, (hw1.1 q (by omega)).2]
  have x4 : (jv_US sh4 123 4 (n + 3) 123).2.2 4 = some (n + 3) := US_eq
  have x3 : (jv_US sh4 123 4 (n + 3) 123).2.2 3 = some (n + 2) := by rw [US_nej (by decide), (hw4.1 123 (by omega)).1]; exact US_eq
  have x2 : (jv_US sh4 123 4 (n + 3) 123).2.2 2 = some (n + 1) := by rw [US_nej (by decide), (hw4.1 123 (by omega)).1, US_nej (by decide), (hw3.1 123 (by omega)).1]; exact US_eq
  have x1 : (jv_US sh4 123 4 (n + 3) 123).2.2 1 = some n := by rw [US_nej (by decide), (hw4.1 123 (by omega)).1, US_nej (by decide), (hw3.1 123 (by omega)).1, US_nej (by decide), (hw2.1 123 (by omega)).1]; exact US_eq
  have y4 : jv_US sh4 123 4 (n + 3) (n + 3) = (11, N - 1, fun _ => none) := by rw [jv_US_other (by omega)]; exact ka3
  have y3 : jv_US sh4 123 4 (n + 3) (n + 2) = (10, N - 1, fun _ => none) := by rw [jv_US_other (by omega), (hw4.1 (n + 2) (by omega)).1, jv_US_other (by omega)]; exact ka2
  have y2 : jv_US sh4 123 4 (n + 3) (n + 1) = (10, N, fun _ => none) := by rw [jv_US_other (by omega), (hw4.1 (n + 1) (by omega)).1, jv_US_other (by omega), (hw3.1 (n + 1) (by omega)).1, jv_US_other (by omega)]; exact ka1
  have y1 : jv_US sh4 123 4 (n + 3) n = (10, N, fun _ => none) := by rw [jv_US_other (by omega), (hw4.1 n (by omega)).1, jv_US_other (by omega), (hw3.1 n (by omega)).1, jv_US_other (by omega), (hw2.1 n (by omega)).1, jv_US_other (by omega)]; exact ka0
  refine c_bui_loop (a := n) hN2 hN12 lp3 x1 x2 x3 x4 (by rw [y1]) (by rw [y1]) (by rw [y2]) (by rw [y2]) (by rw [y3]) (by rw [y3]) (by rw [y4]) (by rw [y4]) (V0 := V) ?_ (N + 1) 0 W4 (by omega) (by omega) w4o (fun f hf => absurd hf (by omega)) (fun f hf _ => absurd hf (by omega))
  intro V5 hV5 hr2 hr3
  generalize jv_US sh4 123 4 (n + 3) = sh5 at s4o x1 x2 x3 x4 y1 y2 y3 y4 lp3 ⊢
  refine j_aload_n_0 dX6_build_84 ?_
  refine j_iconst (v := nI 0) dX6_build_85 nc_iconst_0 ?_
  refine jr_anewA (jv_gwm 651 (by decide +kernel) rfl) dX6_build_86 (by decide) (k2 := k - 5) (z2 := z - 50) (by omega) (by omega) (fun sh6 hw6 => ?_)
  have kp5 : (sh6 123).1 = 7 := by rw [(hw6.1 123 (by omega)).1]; exact lp3
  refine P_X6_24 rfl dX6_build_89 kp5 ?_
  have lp5 : (jv_US sh6 123 5 (n + 4) 123).1 = 7 := by rw [US_1]; exact kp5
  refine j_aload_n_0 dX6_build_92 ?_
  refine j_iconst (v := nI 0) dX6_build_93 nc_iconst_0 ?_
  refine jr_anewR (jv_gwm 652 (by decide +kernel) rfl) dX6_build_94 (by decide) (k2 := k - 6) (z2 := z - 52) (by omega) (by omega) (fun sh7 hw7 => ?_)
  have kp6 : (sh7 123).1 = 7 := by rw [(hw7.1 123 (by omega)).1]; exact lp5
  refine P_X6_30 rfl dX6_build_97 kp6 ?_
  refine j_vret hM dX6_build_100 rfl ?_
  have ee : ∀ q, q ≠ 123 → q ≠ n + 4 → q ≠ n + 5 → jv_US sh7 123 6 (n + 5) q = sh5 q := fun q a b c => by rw [jv_US_other a, (hw7.1 q c).1, jv_US_other a, (hw6.1 q b).1]
  refine hT _ _ _ ⟨rfl, fun q a b => by rw [ee q b (by omega) (by omega)]; exact s4o q a b, hV5, by rw [US_1]; exact kp6, fun i a b => ?_, fun i a b => ?_, ?_, ?_, ?_, ?_⟩
  · have hi : i = 1 ∨ i = 2 ∨ i = 3 ∨ i = 4 ∨ i = 5 ∨ i = 6 := by omega
    have peel : ∀ i, i ≠ 6 → i ≠ 5 → (jv_US sh7 123 6 (n + 5) 123).2.2 i = (sh5 123).2.2 i := fun i a b => by rw [US_nej a, (hw7.1 123 (by omega)).1, US_nej b, (hw6.1 123 (by omega)).1]
    rcases hi with rfl | rfl | rfl | rfl | rfl | rfl
    · rw [peel 1 (by decide) (by decide)]; exact x1
    · rw [peel 2 (by decide) (by decide)]; exact x2
    · rw [peel 3 (by decide) (by decide)]; exact x3
    · rw [peel 4 (by decide) (by decide)]; exact x4
    · rw [US_nej (by decide), (hw7.1 123 (by omega)).1]; exact US_eq
    · exact US_eq
  · have hi : i = 2 ∨ i = 3 ∨ i = 4 ∨ i = 5 := by omega
    rcases hi with rfl | rfl | rfl | rfl
    · show (jv_US sh7 123 6 (n + 5) n).1 = 10 ∧ (jv_US sh7 123 6 (n + 5) n).2.1 = N ∧ ∀ f, f < N → V5 n f = nI 10
      rw [ee n (by omega) (by omega) (by omega), y1]
      exact ⟨rfl, rfl, fun f hf => (hr2 f hf).1⟩
    · show (jv_US sh7 123 6 (n + 5) (n + 1)).1 = 10 ∧ (jv_US sh7 123 6 (n + 5) (n + 1)).2.1 = N ∧ ∀ f, f < N → V5 (n + 1) f = nI 2
      rw [ee _ (by omega) (by omega) (by omega), y2]
      exact ⟨rfl, rfl, fun f hf => (hr2 f hf).2⟩
    · show (jv_US sh7 123 6 (n + 5) (n + 2)).1 = 10 ∧ (jv_US sh7 123 6 (n + 5) (n + 2)).2.1 = N - 1 ∧ ∀ f, f < N - 1 → V5 (n + 2) f = nI 3
      rw [ee _ (by omega) (by omega) (by omega), y3]
      exact ⟨rfl, rfl, fun f hf => (hr3 f hf).1⟩
    · show (jv_US sh7 123 6 (n + 5) (n + 3)).1 = 11 ∧ (jv_US sh7 123 6 (n + 5) (n + 3)).2.1 = N - 1 ∧ ∀ f, f < N - 1 → V5 (n + 3) f = nI 1
      rw [ee _ (by omega) (by omega) (by omega), y4]
      exact ⟨rfl, rfl, fun f hf => (hr3 f hf).2⟩
  · rw [US_1, (hw7.1 (n + 4) (by omega)).1, US_1, hw6.2.1]
  · rw [US_2, (hw7.1 (n + 4) (by omega)).1, US_2, hw6.2.1]
  · rw [US_1, hw7.2.1]
  · rw [US_2, hw7.2.1]
