/-! ===== the law's act, the rest ===== -/
theorem c_ahandler {g : jv_G} {X : jv_X} {T : jv_T} {n q : Nat} {sh : Nat → jv_S} {V : Nat → Nat → Int32} {L : Nat → Nat → Int64} {k z : Nat} {x : Int32} {N f R : Nat} {v7 v8 v9 v10 : Option Value} (hok : jv_ok [some (jv_r g 0), some (jv_r g 123), some (.int x), some (.int (nI N)), some (.int (nI f)), some (.int (nI R)), some (.int (nI 0)), v7, v8, v9, v10] 7) (hM : jv_M g X T) (hT : T (.inl (some (.int (nI 1)))) n sh V L) : jv_J g X I_L_act 894 [some (jv_r g 0), some (jv_r g 123), some (.int x), some (.int (nI N)), some (.int (nI f)), some (.int (nI R)), some (.int (nI 0)), v7, v8, v9, v10] [.ref q] n sh V L k z := by
  refine j_exst (I := I_L_act) (i := 7) (v := none) dL_act_894 (by decide) hok ?_
  refine j_iload_6 dL_act_896 ?_
  refine j_if_ne (tgt := 905) dL_act_898 (by decide) (fun h => ?_) (fun h => ?_)
  · exact absurd rfl h
  refine j_iconst (v := nI 1) dL_act_901 nc_iconst_1 ?_
  refine j_goto (tgt := 906) dL_act_902 (by decide) ?_
  exact j_zret hM dL_act_906 rfl (jv_b01 (by first | exact Or.inl rfl | exact Or.inr rfl)) hT
/-- caught by a row of the table, the rows before cover other places -/
theorem j_catchN {g : jv_G} {X : jv_X} {I : jv_I} {pc n : Nat} {ls : List (Option Value)} {rest : List Value} {sh : Nat → jv_S} {V : Nat → Nat → Int32} {L : Nat → Nat → Int64} {k z : Nat} {E : String} (hE : E ∈ jv_exs) (pre : List (Nat × Nat × Nat × Nat)) (x : Nat × Nat × Nat × Nat) (suf : List (Nat × Nat × Nat × Nat)) (hsp : jh I = pre ++ x :: suf)
    (hpass : ∀ y ∈ pre, y.2.1 ≤ pc) (hlo : x.1 ≤ pc) (hhi : pc < x.2.1) (h0 : x.2.2.2 ≠ 0) (hl : Cond.classLink (jo I) x.2.2.2 E ∈ jv_gw)
    (kk : ∀ q, jv_J g X I x.2.2.1 ls [.ref q] n sh V L k z) : jv_Th g X I pc ls rest E n sh V L k z := by
  obtain ⟨p, l, e, R, s, m, args, below, meth, cd, Q⟩ := X
  intro hC lsA H locs cells slots q ce hP hS hl0 hcc hss hce hcv hcl
  obtain ⟨c1, c2, c3, c4, c5, c6, c7, c8, c9, c10, c11, c12, c13⟩ := id hC
  have hsp' : cd.exceptionTable.toList = tableOf pre ++ ⟨x.1, x.2.1, x.2.2.1, x.2.2.2⟩ :: tableOf suf := by
    rw [c9, hsp]
    unfold tableOf
    rw [List.map_append, List.map_cons]
  refine vx_catch c4 (tableOf pre) ⟨x.1, x.2.1, x.2.2.1, x.2.2.2⟩ (tableOf suf) hsp' (fun y hy => ?_) ?_ h0 (c5 _ hl) (va_Nw.use rfl (c10.2.2.2.2.2.2.2.2.2.1 _ (jv_exo E hE))) hce hcv hcl (kk q hC lsA H locs cells slots hP hS hl0 hcc hss)
  · obtain ⟨w, hw, rfl⟩ := List.mem_map.mp hy
    have := hpass w hw
    refine Or.inl ?_
    simp [covers]
    omega
  · simp [covers, hlo, hhi]
theorem inV_hi {N q : Nat} {h : Int32} (h1 : 123 ≤ q) : ∀ m i V, i + m ≤ 8 → inV N h m i V q = V q := by
  intro m
  induction m with
  | zero => intro i V _; rfl
  | succ m ih =>
    intro i V hi
    show inV N h m (i + 1) _ q = _
    rw [ih _ _ (by omega), phV_out (by unfold Rout; omega)]
theorem ouV_hi {N R q : Nat} (hR : R ≤ 8) (h1 : 123 ≤ q) : ∀ m V, ouV N R m V q = V q := by
  intro m
  induction m with
  | zero => intro V; rfl
  | succ m ih =>
    intro V
    show ouV N R m _ q = _
    rw [ih]
    unfold alV
    rw [jv_U_other (by omega), inV_hi h1 _ _ _ (by omega)]
def hoQ (x : Int32) : Nat := if nI (bel (x >>> (nI 8 &&& 31)) 6) = 0 then 1 + bel (x >>> (nI 4 &&& 31)) 60 else 1 + bel (x >>> (nI 4 &&& 31)) 5
theorem hoQ_le {x : Int32} : 1 ≤ hoQ x ∧ hoQ x ≤ 60 := by
  unfold hoQ
  have h1 := bel_lt (x := x >>> (nI 4 &&& 31)) (m := 60) (by decide)
  have h2 := bel_lt (x := x >>> (nI 4 &&& 31)) (m := 5) (by decide)
  split <;> omega
def yeM (x : Int32) : Nat := if nI (bel (x >>> (nI 8 &&& 31)) 2) = 0 then 1 + bel (x >>> (nI 6 &&& 31)) 20 else 1 + bel (x >>> (nI 6 &&& 31)) 3
theorem yeM_le {x : Int32} : 1 ≤ yeM x ∧ yeM x ≤ 20 := by
  unfold yeM
  have h1 := bel_lt (x := x >>> (nI 6 &&& 31)) (m := 20) (by decide)
  have h2 := bel_lt (x := x >>> (nI 6 &&& 31)) (m := 3) (by decide)
  split <;> omega
theorem TS.hea {V : Nat → Nat → Int32} {N K R t m : Nat} (H : TS V N K R t) (ht : t + m < 2 ^ 30) : ouN N R m V (nI 0) = heaL (ouV N R m V) N R 0 (nI 0) - heaL V N R 0 (nI 0) := by
  have hR := H.passed (m := m) (by omega)
  obtain ⟨⟨W, h⟩, hRI⟩ := H
  obtain ⟨h1, h2⟩ := h.pass (m := m) (by omega)
  rw [h2, hea_W h1 hR.2 ht R 0 0 (by omega), hea_W h hRI (by omega) R 0 0 (by omega)]
theorem heaL_cg {V1 V : Nat → Nat → Int32} {N : Nat} (h : Ag V1 V) : ∀ m j a, j + m ≤ 8 → heaL V1 N m j a = heaL V N m j a := by
  intro m
  induction m with
  | zero => intro j a _; rfl
  | succ m ih =>
    intro j a hj
    show heaL V1 N m (j + 1) _ = heaL V N m (j + 1) _
    rw [ih _ _ (by omega), h (43 + 10 * j + 2) (by omega)]
set_option maxHeartbeats 4000000 in
set_option maxRecDepth 100000 in
theorem c_apassB {g : jv_G} {X : jv_X} {T : jv_T} {L : Nat → Nat → Int64} {k : Nat} {sx : Nat → jv_S} {tg pl : Nat → Nat} {n : Nat} {V : Nat → Nat → Int32} {N K R t : Nat} (HT : TS V N K R t) (H : REP tg pl n (SH sx) V V N K R) {x : Int32} {f m : Nat} (h1m : 1 ≤ m) (hm : m ≤ 60) (ht : t + m < 2 ^ 30) (hk : FA V N R ≤ k + FA (ouV N R m V) N R) (hM : jv_M g X T) (hT : ∀ n1 s1 V1, PO (FA (ouV N R m V) N R) (t + m) n1 s1 V1 → T (.inl (some (.int (nI 1)))) n1 s1 V1 L) : jv_J g X I_L_act 860 [some (jv_r g 0), some (jv_r g 123), some (.int x), some (.int (nI N)), some (.int (nI f)), some (.int (nI R)), some (.int (nI 1)), some (.int (nI m)), none, none, none] [] n (SH sx) V L k (20 * k) := by
  have hn := H.n124
  have hN2 := H.N2
  have hN12 := H.N12
  have hK4 := H.K4
  have hR8 := H.R8
  
  refine j_aload_n_1 dL_act_860 ?_
  refine C_L_95  rfl (by decide) dL_act_861 H.s (Nat.le_of_ble_eq_true rfl) (Nat.le_of_eq (Nat.zero_add _)) (Nat.le_of_eq (Nat.zero_add _)) (fun _ _ hM' hT' => c_heard H hM' hT') ?_
  refine j_istore_8 rfl (by decide) dL_act_864 ?_
  refine j_aload_n_1 dL_act_866 ?_
  refine j_iload_7 dL_act_867 ?_
  refine Q_L_99 (k' := k) (z' := 20 * k) (k2 := 0) (z2 := 0) (P := (fun n1 s1 V1 => (∃ tg1 pl1, REP tg1 pl1 n1 s1 V1 (ouV N R m V) N K R ∧ n ≤ n1 ∧ ∀ q, q < 123 → s1 q = SH sx q ∧ V1 q = V q))) rfl (by decide) dL_act_869 H.s (Nat.le_of_ble_eq_true rfl) (by omega) (by omega) (fun _ _ hM' hT' => c_passH ht H HT.ce HT.2 hk hM' hT') (fun n1 s1 V1 hP1 => ?_)
  obtain ⟨tg1, pl1, H1, hn1, hA⟩ := hP1
  obtain ⟨sy, rfl⟩ := SH_ex (fun q hq => (hA q hq).1)
  have hag : Ag V1 V := fun q hq => (hA q hq).2
  have HT1 : TS V1 N K R t := HT.eq hag.eqv
  have HT2 := HT1.passed (m := m) (by omega)
  have hao : Ag (ouV N R m V1) (ouV N R m V) := Ag.ou hN12 hR8 _ _ _ hag
  have H2 : REP tg1 pl1 n1 (SH sy) (ouV N R m V1) (ouV N R m V1) N K R := H1.cls (fun q hq => ouV_hi hR8 hq _ _) (congrFun (hao 0 (by omega)) 5) (fun q hq => hao q (by omega))
  have hFIN : T (.inl (some (.int (nI 1)))) n1 (SH sy) (ouV N R m V1) L := hT _ _ _ ⟨sy, tg1, pl1, N, K, R, t + m, rfl, HT2, H2, FA_cg hR8 (fun q h1 h2 => hao q h2), Nat.le_refl _⟩
  refine j_aload_n_0 dL_act_872 ?_
  refine j_iload_7 dL_act_873 ?_
  refine C_L_102  rfl (by decide) dL_act_875 sk_0 (Nat.le_of_ble_eq_true rfl) (Nat.le_of_eq (Nat.zero_add _)) (Nat.le_of_eq (Nat.zero_add _)) (fun _ _ hM' hT' => g_passHours HT1.ct h1m hm hM' hT') ?_
  refine j_aload_n_1 dL_act_878 ?_
  refine C_L_95  rfl (by decide) dL_act_879 H1.s (Nat.le_of_ble_eq_true rfl) (Nat.le_of_eq (Nat.zero_add _)) (Nat.le_of_eq (Nat.zero_add _)) (fun _ _ hM' hT' => c_heard H2 hM' hT') ?_
  refine j_iload_8 dL_act_882 ?_
  refine j_isub dL_act_884 ?_
  refine j_ic_ne (tgt := 892) dL_act_885 (by decide) (fun h885 => ?_) (fun h885 => ?_)
  · exact absurd (by rw [HT1.hea ht, heaL_cg hag R 0 (nI 0) (by omega)]) h885
  · refine j_iconst (v := nI 1) dL_act_888 nc_iconst_1 ?_
    refine j_goto (tgt := 893) dL_act_889 (by decide) ?_
    exact j_zret hM dL_act_893 rfl (jv_b01 (by first | exact Or.inl rfl | exact Or.inr rfl | assumption)) hFIN

set_option maxHeartbeats 4000000 in
set_option maxRecDepth 100000 in
theorem c_apass {g : jv_G} {X : jv_X} {T : jv_T} {L : Nat → Nat → Int64} {k : Nat} {sx : Nat → jv_S} {tg pl : Nat → Nat} {n : Nat} {V : Nat → Nat → Int32} {N K R t : Nat} (HT : TS V N K R t) (H : REP tg pl n (SH sx) V V N K R) {x : Int32} {f : Nat} (ht : t + 60 < 2 ^ 30) (hk : FA V N R ≤ k + FA (ouV N R (hoQ x) V) N R) (hM : jv_M g X T) (hT : ∀ n1 s1 V1, PO (FA (ouV N R (hoQ x) V) N R) (t + 60) n1 s1 V1 → T (.inl (some (.int (nI 1)))) n1 s1 V1 L) : jv_J g X I_L_act 832 [some (jv_r g 0), some (jv_r g 123), some (.int x), some (.int (nI N)), some (.int (nI f)), some (.int (nI R)), some (.int (nI 1)), none, none, none, none] [] n (SH sx) V L k (20 * k) := by
  have hn := H.n124
  have hN2 := H.N2
  have hN12 := H.N12
  have hK4 := H.K4
  have hR8 := H.R8
  
  have hoL := hoQ_le (x := x)
  refine j_iconst (v := nI 1) dL_act_832 nc_iconst_1 ?_
  refine j_iload_n_2 dL_act_833 ?_
  refine j_iconst (v := nI 4) dL_act_834 nc_iconst_4 ?_
  refine j_ishr dL_act_835 ?_
  refine j_iload_n_2 dL_act_836 ?_
  refine j_bipush (v := nI 8) dL_act_837 nc_bipush_8 ?_
  refine j_ishr dL_act_839 ?_
  refine j_bipush (v := nI 6) dL_act_840 nc_bipush_6 ?_
  refine C_L_15  rfl (by decide) dL_act_842 (Nat.le_of_ble_eq_true rfl) (Nat.le_of_eq (Nat.zero_add _)) (Nat.le_of_eq (Nat.zero_add _)) (fun _ _ hM' hT' => c_below (m := 6) (by omega) (by omega) hM' hT') ?_
  refine j_if_ne (tgt := 853) dL_act_845 (by decide) (fun h845 => ?_) (fun h845 => ?_)
  · refine j_iconst (v := nI 5) dL_act_853 nc_iconst_5 ?_
    refine C_L_15  rfl (by decide) dL_act_854 (Nat.le_of_ble_eq_true rfl) (Nat.le_of_eq (Nat.zero_add _)) (Nat.le_of_eq (Nat.zero_add _)) (fun _ _ hM' hT' => c_below (m := 5) (by omega) (by omega) hM' hT') ?_
    refine j_iaddN dL_act_857 ?_
    refine j_istore_7 rfl (by decide) dL_act_858 ?_
    have eM : hoQ x = 1 + bel (x >>> (nI 4 &&& 31)) 5 := if_neg h845
    rw [← eM]
    exact c_apassB HT H hoL.1 hoL.2 (by omega) hk hM (fun n1 s1 V1 h => hT n1 s1 V1 (by obtain ⟨a1, a2, a3, a4, a5, a6, a7, b1, b2, b3, b4, b5⟩ := h; exact ⟨a1, a2, a3, a4, a5, a6, a7, b1, b2, b3, b4, by omega⟩))
  · refine j_bipush (v := nI 60) dL_act_848 nc_bipush_60 ?_
    refine j_goto (tgt := 854) dL_act_850 (by decide) ?_
    refine C_L_15  rfl (by decide) dL_act_854 (Nat.le_of_ble_eq_true rfl) (Nat.le_of_eq (Nat.zero_add _)) (Nat.le_of_eq (Nat.zero_add _)) (fun _ _ hM' hT' => c_below (m := 60) (by omega) (by omega) hM' hT') ?_
    refine j_iaddN dL_act_857 ?_
    refine j_istore_7 rfl (by decide) dL_act_858 ?_
    have eM : hoQ x = 1 + bel (x >>> (nI 4 &&& 31)) 60 := if_pos h845
    rw [← eM]
    exact c_apassB HT H hoL.1 hoL.2 (by omega) hk hM (fun n1 s1 V1 h => hT n1 s1 V1 (by obtain ⟨a1, a2, a3, a4, a5, a6, a7, b1, b2, b3, b4, b5⟩ := h; exact ⟨a1, a2, a3, a4, a5, a6, a7, b1, b2, b3, b4, by omega⟩))

set_option maxHeartbeats 4000000 in
set_option maxRecDepth 100000 in
theorem c_astart {g : jv_G} {X : jv_X} {T : jv_T} {L : Nat → Nat → Int64} {k z : Nat} {sx : Nat → jv_S} {tg pl : Nat → Nat} {n : Nat} {V : Nat → Nat → Int32} {N K R t : Nat} (HT : TS V N K R t) (H : REP tg pl n (SH sx) V V N K R) {x : Int32} {f y : Nat} (hf : f < N) (h1y : 1 ≤ y) (hy : y ≤ 20) (ht : t < 2 ^ 30) (hk : 30 ≤ k) (hz : 300 ≤ z) (hM : jv_M g X T) (hT : ∀ n1 s1 V1, PO (if 8 ≤ R then FA V N R else FA (staR V (43 + 10 * R) f (nI y) (V 0 5)) N (R + 1)) (t) n1 s1 V1 → T (.inl (some (.int (nI 1)))) n1 s1 V1 L) : jv_J g X I_L_act 667 [some (jv_r g 0), some (jv_r g 123), some (.int x), some (.int (nI N)), some (.int (nI f)), some (.int (nI R)), some (.int (nI 1)), some (.int (nI y)), none, none, none] [] n (SH sx) V L k z := by
  have hn := H.n124
  have hN2 := H.N2
  have hN12 := H.N12
  have hK4 := H.K4
  have hR8 := H.R8
  
  refine j_iload_5 dL_act_667 ?_
  refine j_bipush (v := nI 8) dL_act_669 nc_bipush_8 ?_
  refine j_ic_geN (by omega) (by omega) (tgt := 678) dL_act_671 (by decide) (fun h671 => ?_) (fun h671 => ?_)
  · rw [if_pos h671] at hT
    refine j_iconst (v := nI 0) dL_act_678 nc_iconst_0 ?_
    refine j_istore_6 rfl (by decide) dL_act_679 ?_
    refine j_iload_6 dL_act_681 ?_
    refine j_if_eq (tgt := 694) dL_act_683 (by decide) (fun h683 => ?_) (fun h683 => ?_)
    · refine j_aload_n_0 dL_act_694 ?_
      refine j_iload_4 dL_act_695 ?_
      refine j_iload_7 dL_act_697 ?_
      refine X_L_80 (n1 := 0) (sh1 := fun _ => (0, 0, fun _ => none)) (V1 := fun _ _ => 0) (L1 := fun _ _ => 0) (k' := 1) (z' := 6) (k2 := k - 1) (z2 := z - 6) rfl (by decide) dL_act_699 sk_0 (Nat.le_of_ble_eq_true rfl) (by omega) (by omega) (fun _ _ hM' hT' => e_startRumour_18 HT.ct hf (nI_nlt h1y (by omega)) (nI_le hy (by omega)) h671 (Nat.le_refl _) (Nat.le_refl _) hM' hT') (fun n' hn' => ?_)
      refine j_catchN (by decide +kernel) [(25, 116, 894, 105), (117, 154, 894, 105), (155, 217, 894, 105), (218, 280, 894, 105), (281, 356, 894, 105), (357, 412, 894, 105), (413, 562, 894, 105), (563, 572, 894, 105), (573, 638, 894, 105)] (639, 717, 894, 105) [(718, 724, 894, 105), (725, 831, 894, 105), (832, 893, 894, 105)] rfl (by decide) (by decide) (by decide) (by decide) (show Cond.classLink RL 105 "java/lang/IllegalStateException" ∈ jv_gw from jv_gwm 646 (by decide +kernel) rfl) (fun q => ?_)
      exact c_ahandler (jokI (j0 := 6) rfl rfl) hM (hT _ _ _ ⟨sx, tg, pl, N, K, R, t, rfl, HT, H.grow hn' (fun q _ _ => ⟨rfl, rfl⟩), rfl, Nat.le_refl _⟩)
    · exact absurd rfl h683
  · rw [if_neg (by omega)] at hT
    refine j_iconst (v := nI 1) dL_act_674 nc_iconst_1 ?_
    refine j_goto (tgt := 679) dL_act_675 (by decide) ?_
    refine j_istore_6 rfl (by decide) dL_act_679 ?_
    refine j_iload_6 dL_act_681 ?_
    refine j_if_eq (tgt := 694) dL_act_683 (by decide) (fun h683 => ?_) (fun h683 => ?_)
    · exact absurd h683 z1'
    · refine j_aload_n_1 dL_act_686 ?_
      refine j_iload_4 dL_act_687 ?_
      refine j_iload_7 dL_act_689 ?_
      refine Q_L_76 (k' := 9) (z' := 110) (k2 := k - 9) (z2 := z - 110) (P := (fun n1 s1 V1 => (∃ tg1 pl1, REP tg1 pl1 n1 s1 V1 (staR V (43 + 10 * R) f (nI y) (V 0 5)) N K (R + 1)) ∧ n ≤ n1 ∧ ∀ q, q < 123 → s1 q = SH sx q ∧ V1 q = V q)) rfl (by decide) dL_act_691 H.s (Nat.le_of_ble_eq_true rfl) (by omega) (by omega) (fun _ _ hM' hT' => c_simStart H (by omega) hf (Nat.le_refl _) (Nat.le_refl _) hM' hT') (fun n1 s1 V1 hP1 => ?_)
      obtain ⟨⟨tg1, pl1, H1⟩, hn1, hA⟩ := hP1
      obtain ⟨sy, rfl⟩ := SH_ex (fun q hq => (hA q hq).1)
      have hag : Ag V1 V := fun q hq => (hA q hq).2
      have HT1 : TS V1 N K R t := HT.eq hag.eqv
      have hao : Ag (staR V1 (43 + 10 * R) f (nI y) (V1 0 5)) (staR V (43 + 10 * R) f (nI y) (V 0 5)) := by
        rw [show V1 0 5 = V 0 5 from congrFun (hag 0 (by omega)) 5]
        exact hag.st (by omega)
      have hFIN : T (.inl (some (.int (nI 1)))) n1 (SH sy) (jv_U (staR V1 (43 + 10 * R) f (nI y) (V1 0 5)) 0 4 (nI (R + 1))) L := hT _ _ _ ⟨sy, tg1, pl1, N, K, R + 1, t, rfl, HT1.started hf h1y hy (by omega) ht, H1.cls (fun q hq => by rw [jv_U_other (by omega), staR_o (by omega)]) (by rw [jv_Unj (by omega)]; exact congrFun (hao 0 (by omega)) 5) (fun q hq => by rw [jv_U_other (by omega)]; exact hao q (by omega)), FA_cg (by omega) (fun q h1 h2 => by rw [jv_U_other (by omega)]; exact hao q h2), Nat.le_refl _⟩
      refine j_aload_n_0 dL_act_694 ?_
      refine j_iload_4 dL_act_695 ?_
      refine j_iload_7 dL_act_697 ?_
      refine C_L_80  rfl (by decide) dL_act_699 sk_0 (Nat.le_of_ble_eq_true rfl) (Nat.le_of_eq (Nat.zero_add _)) (Nat.le_of_eq (Nat.zero_add _)) (fun _ _ hM' hT' => g_startRumour HT1.ct hf (nI_nlt h1y (by omega)) (nI_le hy (by omega)) (by omega) hM' hT') ?_
      refine j_iload_5 dL_act_702 ?_
      refine j_ic_neN (by omega) (by omega) (tgt := 716) dL_act_704 (by decide) (fun h704 => ?_) (fun h704 => ?_)
      · exact absurd rfl h704
      · refine j_iload_6 dL_act_707 ?_
        refine j_if_eq (tgt := 716) dL_act_709 (by decide) (fun h709 => ?_) (fun h709 => ?_)
        · exact absurd h709 z1'
        · refine j_iconst (v := nI 1) dL_act_712 nc_iconst_1 ?_
          refine j_goto (tgt := 717) dL_act_713 (by decide) ?_
          exact j_zret hM dL_act_717 rfl (jv_b01 (by first | exact Or.inl rfl | exact Or.inr rfl | assumption)) hFIN

set_option maxHeartbeats 4000000 in
set_option maxRecDepth 100000 in
theorem c_astarts {g : jv_G} {X : jv_X} {T : jv_T} {L : Nat → Nat → Int64} {k z : Nat} {sx : Nat → jv_S} {tg pl : Nat → Nat} {n : Nat} {V : Nat → Nat → Int32} {N K R t : Nat} (HT : TS V N K R t) (H : REP tg pl n (SH sx) V V N K R) {x : Int32} {f : Nat} (hf : f < N) (ht : t < 2 ^ 30) (hk : 30 ≤ k) (hz : 300 ≤ z) (hM : jv_M g X T) (hT : ∀ n1 s1 V1, PO (if 8 ≤ R then FA V N R else FA (staR V (43 + 10 * R) f (nI (yeM x)) (V 0 5)) N (R + 1)) (t) n1 s1 V1 → T (.inl (some (.int (nI 1)))) n1 s1 V1 L) : jv_J g X I_L_act 639 [some (jv_r g 0), some (jv_r g 123), some (.int x), some (.int (nI N)), some (.int (nI f)), some (.int (nI R)), some (.int (nI 1)), none, none, none, none] [] n (SH sx) V L k z := by
  have hn := H.n124
  have hN2 := H.N2
  have hN12 := H.N12
  have hK4 := H.K4
  have hR8 := H.R8
  
  have yeL := yeM_le (x := x)
  refine j_iconst (v := nI 1) dL_act_639 nc_iconst_1 ?_
  refine j_iload_n_2 dL_act_640 ?_
  refine j_bipush (v := nI 6) dL_act_641 nc_bipush_6 ?_
  refine j_ishr dL_act_643 ?_
  refine j_iload_n_2 dL_act_644 ?_
  refine j_bipush (v := nI 8) dL_act_645 nc_bipush_8 ?_
  refine j_ishr dL_act_647 ?_
  refine j_iconst (v := nI 2) dL_act_648 nc_iconst_2 ?_
  refine C_L_15  rfl (by decide) dL_act_649 (Nat.le_of_ble_eq_true rfl) (Nat.le_of_eq (Nat.zero_add _)) (Nat.le_of_eq (Nat.zero_add _)) (fun _ _ hM' hT' => c_below (m := 2) (by omega) (by omega) hM' hT') ?_
  refine j_if_ne (tgt := 660) dL_act_652 (by decide) (fun h652 => ?_) (fun h652 => ?_)
  · refine j_iconst (v := nI 3) dL_act_660 nc_iconst_3 ?_
    refine C_L_15  rfl (by decide) dL_act_661 (Nat.le_of_ble_eq_true rfl) (Nat.le_of_eq (Nat.zero_add _)) (Nat.le_of_eq (Nat.zero_add _)) (fun _ _ hM' hT' => c_below (m := 3) (by omega) (by omega) hM' hT') ?_
    refine j_iaddN dL_act_664 ?_
    refine j_istore_7 rfl (by decide) dL_act_665 ?_
    have eM : yeM x = 1 + bel (x >>> (nI 6 &&& 31)) 3 := if_neg h652
    rw [← eM]
    exact c_astart HT H hf yeL.1 yeL.2 ht hk hz hM hT
  · refine j_bipush (v := nI 20) dL_act_655 nc_bipush_20 ?_
    refine j_goto (tgt := 661) dL_act_657 (by decide) ?_
    refine C_L_15  rfl (by decide) dL_act_661 (Nat.le_of_ble_eq_true rfl) (Nat.le_of_eq (Nat.zero_add _)) (Nat.le_of_eq (Nat.zero_add _)) (fun _ _ hM' hT' => c_below (m := 20) (by omega) (by omega) hM' hT') ?_
    refine j_iaddN dL_act_664 ?_
    refine j_istore_7 rfl (by decide) dL_act_665 ?_
    have eM : yeM x = 1 + bel (x >>> (nI 6 &&& 31)) 20 := if_pos h652
    rw [← eM]
    exact c_astart HT H hf yeL.1 yeL.2 ht hk hz hM hT

theorem Fi_de {C : Nat → Nat → Int32} {r f N : Nat} {h : Int32} : Fi (brD C r f h) r N ≤ Fi C r N := sm_le N (fun c _ => by
  by_cases e : c = f
  · subst e
    rw [cl_de]
    exact fi_de
  · rw [cl_dec e]
    exact Nat.le_refl _)
theorem FA_de {C : Nat → Nat → Int32} {f j N R : Nat} {h : Int32} : FA (brD C (43 + 10 * j) f h) N R ≤ FA C N R := sm_le R (fun i _ => by
  by_cases e : i = j
  · subst e
    exact Fi_de
  · rw [Fi_cg (fun o f' ho _ => by rw [brD_out (by unfold Rout; omega)])]
    exact Nat.le_refl _)
theorem fi_le {v : Nat → Int32} : fi v ≤ 138 := by
  unfold fi
  repeat' split
  all_goals omega
theorem sm_max {a : Nat → Nat} {x : Nat} (h : ∀ f, a f ≤ x) : ∀ n, sm a n ≤ x * n := by
  intro n
  induction n with
  | zero => exact Nat.zero_le _
  | succ n ih =>
    have := h n
    show sm a n + a n ≤ _
    rw [Nat.mul_succ]
    omega
theorem FA_sta {C : Nat → Nat → Int32} {f N R : Nat} {y h : Int32} (hN : N ≤ 12) : FA (staR C (43 + 10 * R) f y h) N (R + 1) ≤ FA C N R + 1656 := by
  show sm _ R + Fi (staR C (43 + 10 * R) f y h) (43 + 10 * R) N ≤ _
  have h1 : Fi (staR C (43 + 10 * R) f y h) (43 + 10 * R) N ≤ 138 * N := sm_max (fun f => fi_le) N
  have h2 : sm (fun j => Fi (staR C (43 + 10 * R) f y h) (43 + 10 * j) N) R = FA C N R := sm_cg R (fun j hj => Fi_cg (fun o f _ _ => by rw [staR_o (by omega)]))
  rw [h2]
  omega
set_option maxHeartbeats 4000000 in
set_option maxRecDepth 100000 in
theorem c_adenyB {g : jv_G} {X : jv_X} {T : jv_T} {L : Nat → Nat → Int64} {k z : Nat} {sx : Nat → jv_S} {tg pl : Nat → Nat} {n : Nat} {V : (Nat → Nat → Int32)} {N K R t f j : Nat} {x : Int32} (HT : TS V N K R t) (H : REP tg pl n (SH sx) V V N K R) (hj : j < R) (hf : f < N) (ht : t < 2 ^ 30) (hk : 30 ≤ k) (hz : 300 ≤ z) (hM : jv_M g X T) (hT : ∀ n1 s1 V1, PO (if V (43 + 10 * j + 1) f = nI 2 then FA V N R else FA (brD V (43 + 10 * j) f (V 0 5)) N R) (t) n1 s1 V1 → T (.inl (some (.int (nI 1)))) n1 s1 V1 L) : jv_J g X I_L_act 736 [some (jv_r g 0), some (jv_r g 123), some (.int x), some (.int (nI N)), some (.int (nI f)), some (.int (nI R)), some (.int (nI 1)), some (.int (nI j)), none, none, none] [] n (SH sx) V L k z := by
  have hn := H.n124
  have hN2 := H.N2
  have hN12 := H.N12
  have hK4 := H.K4
  have hR8 := H.R8
  
  have hu := used.o (K := K) (o := 0) hj (by decide)
  have hp0 := H.ge hu
  refine j_aload_n_1 dL_act_736 ?_
  refine G_L_21 rfl dL_act_737 H.s H.s6 ?_
  refine j_iload_7 dL_act_740 ?_
  refine jr_aaldR dL_act_742 H.q8.1 H.q8.2.1 hj (by omega) (H.q8.2.2 j hj) ?_
  refine G_L_83 rfl dL_act_743 (H.ob hj).1 ((H.ob hj).2.2.2 1 (by decide) (by decide)) ?_
  refine j_iload_4 dL_act_746 ?_
  refine j_iald dL_act_748 (H.rw hj 1 (by decide) (by decide)).1 (H.rw hj 1 (by decide) (by decide)).2.1 hf (by omega) ?_
  refine j_top (y := V (43 + 10 * j + 1) f) ((H.rw hj 1 (by decide) (by decide)).2.2 f hf) ?_
  refine j_iconst (v := nI 2) dL_act_749 nc_iconst_2 ?_
  refine j_ic_eq (tgt := 757) dL_act_750 (by decide) (fun h750 => ?_) (fun h750 => ?_)
  · rw [if_pos h750] at hT
    refine j_iconst (v := nI 0) dL_act_757 nc_iconst_0 ?_
    refine j_istore_6 rfl (by decide) dL_act_758 ?_
    refine j_aload_n_1 dL_act_760 ?_
    refine G_L_21 rfl dL_act_761 H.s H.s6 ?_
    refine j_iload_7 dL_act_764 ?_
    refine jr_aaldR dL_act_766 H.q8.1 H.q8.2.1 hj (by omega) (H.q8.2.2 j hj) ?_
    refine G_L_83 rfl dL_act_767 (H.ob hj).1 ((H.ob hj).2.2.2 1 (by decide) (by decide)) ?_
    refine j_iload_4 dL_act_770 ?_
    refine j_iald dL_act_772 (H.rw hj 1 (by decide) (by decide)).1 (H.rw hj 1 (by decide) (by decide)).2.1 hf (by omega) ?_
    refine j_top (y := V (43 + 10 * j + 1) f) ((H.rw hj 1 (by decide) (by decide)).2.2 f hf) ?_
    refine j_iconst (v := nI 1) dL_act_773 nc_iconst_1 ?_
    refine j_ic_ne (tgt := 787) dL_act_774 (by decide) (fun h774 => ?_) (fun h774 => ?_)
    · refine j_iconst (v := nI 0) dL_act_787 nc_iconst_0 ?_
      refine j_top (y := hdB V (43 + 10 * j) f) (by unfold hdB; rw [if_neg h774]) ?_
      refine j_istore_8 rfl (by decide) dL_act_788 ?_
      refine j_iload_6 dL_act_790 ?_
      refine j_if_eq (tgt := 808) dL_act_792 (by decide) (fun h792 => ?_) (fun h792 => ?_)
      · refine j_aload_n_0 dL_act_808 ?_
        refine j_iload_7 dL_act_809 ?_
        refine j_iload_4 dL_act_811 ?_
        refine X_L_92 (n1 := 0) (sh1 := fun _ => (0, 0, fun _ => none)) (V1 := fun _ _ => 0) (L1 := fun _ _ => 0) (k' := 1) (z' := 6) (k2 := k - 1) (z2 := z - 6) rfl (by decide) dL_act_813 sk_0 (Nat.le_of_ble_eq_true rfl) (by omega) (by omega) (fun _ _ hM' hT' => e_startDenial_24 HT.ct hj hf h750 (Nat.le_refl _) (Nat.le_refl _) hM' hT') (fun n' hn' => ?_)
        refine j_catchN (by decide +kernel) [(25, 116, 894, 105), (117, 154, 894, 105), (155, 217, 894, 105), (218, 280, 894, 105), (281, 356, 894, 105), (357, 412, 894, 105), (413, 562, 894, 105), (563, 572, 894, 105), (573, 638, 894, 105), (639, 717, 894, 105), (718, 724, 894, 105)] (725, 831, 894, 105) [(832, 893, 894, 105)] rfl (by decide) (by decide) (by decide) (by decide) (show Cond.classLink RL 105 "java/lang/IllegalStateException" ∈ jv_gw from jv_gwm 646 (by decide +kernel) rfl) (fun q => ?_)
        exact c_ahandler (jokI (j0 := 6) rfl rfl) hM (hT _ _ _ ⟨sx, tg, pl, N, K, R, t, rfl, HT, H.grow hn' (fun q _ _ => ⟨rfl, rfl⟩), rfl, Nat.le_refl _⟩)
      · exact absurd rfl h792
    · refine j_aload_n_1 dL_act_777 ?_
      refine G_L_9 rfl dL_act_778 H.s H.s1 ?_
      refine j_iload_4 dL_act_781 ?_
      refine j_iald dL_act_783 H.q2.1 H.q2.2.1 hf (by omega) ?_
      refine j_top (y := V 2 f) (H.q2.2.2 f hf) ?_
      refine j_goto (tgt := 788) dL_act_784 (by decide) ?_
      refine j_top (y := hdB V (43 + 10 * j) f) (by unfold hdB; rw [if_pos h774]) ?_
      refine j_istore_8 rfl (by decide) dL_act_788 ?_
      refine j_iload_6 dL_act_790 ?_
      refine j_if_eq (tgt := 808) dL_act_792 (by decide) (fun h792 => ?_) (fun h792 => ?_)
      · refine j_aload_n_0 dL_act_808 ?_
        refine j_iload_7 dL_act_809 ?_
        refine j_iload_4 dL_act_811 ?_
        refine X_L_92 (n1 := 0) (sh1 := fun _ => (0, 0, fun _ => none)) (V1 := fun _ _ => 0) (L1 := fun _ _ => 0) (k' := 1) (z' := 6) (k2 := k - 1) (z2 := z - 6) rfl (by decide) dL_act_813 sk_0 (Nat.le_of_ble_eq_true rfl) (by omega) (by omega) (fun _ _ hM' hT' => e_startDenial_24 HT.ct hj hf h750 (Nat.le_refl _) (Nat.le_refl _) hM' hT') (fun n' hn' => ?_)
        refine j_catchN (by decide +kernel) [(25, 116, 894, 105), (117, 154, 894, 105), (155, 217, 894, 105), (218, 280, 894, 105), (281, 356, 894, 105), (357, 412, 894, 105), (413, 562, 894, 105), (563, 572, 894, 105), (573, 638, 894, 105), (639, 717, 894, 105), (718, 724, 894, 105)] (725, 831, 894, 105) [(832, 893, 894, 105)] rfl (by decide) (by decide) (by decide) (by decide) (show Cond.classLink RL 105 "java/lang/IllegalStateException" ∈ jv_gw from jv_gwm 646 (by decide +kernel) rfl) (fun q => ?_)
        exact c_ahandler (jokI (j0 := 6) rfl rfl) hM (hT _ _ _ ⟨sx, tg, pl, N, K, R, t, rfl, HT, H.grow hn' (fun q _ _ => ⟨rfl, rfl⟩), rfl, Nat.le_refl _⟩)
      · exact absurd rfl h792
  · rw [if_neg h750] at hT
    refine j_iconst (v := nI 1) dL_act_753 nc_iconst_1 ?_
    refine j_goto (tgt := 758) dL_act_754 (by decide) ?_
    refine j_istore_6 rfl (by decide) dL_act_758 ?_
    refine j_aload_n_1 dL_act_760 ?_
    refine G_L_21 rfl dL_act_761 H.s H.s6 ?_
    refine j_iload_7 dL_act_764 ?_
    refine jr_aaldR dL_act_766 H.q8.1 H.q8.2.1 hj (by omega) (H.q8.2.2 j hj) ?_
    refine G_L_83 rfl dL_act_767 (H.ob hj).1 ((H.ob hj).2.2.2 1 (by decide) (by decide)) ?_
    refine j_iload_4 dL_act_770 ?_
    refine j_iald dL_act_772 (H.rw hj 1 (by decide) (by decide)).1 (H.rw hj 1 (by decide) (by decide)).2.1 hf (by omega) ?_
    refine j_top (y := V (43 + 10 * j + 1) f) ((H.rw hj 1 (by decide) (by decide)).2.2 f hf) ?_
    refine j_iconst (v := nI 1) dL_act_773 nc_iconst_1 ?_
    refine j_ic_ne (tgt := 787) dL_act_774 (by decide) (fun h774 => ?_) (fun h774 => ?_)
    · refine j_iconst (v := nI 0) dL_act_787 nc_iconst_0 ?_
      refine j_top (y := hdB V (43 + 10 * j) f) (by unfold hdB; rw [if_neg h774]) ?_
      refine j_istore_8 rfl (by decide) dL_act_788 ?_
      refine j_iload_6 dL_act_790 ?_
      refine j_if_eq (tgt := 808) dL_act_792 (by decide) (fun h792 => ?_) (fun h792 => ?_)
      · exact absurd h792 z1'
      · refine j_aload_n_1 dL_act_795 ?_
        refine j_aload_n_1 dL_act_796 ?_
        refine G_L_21 rfl dL_act_797 H.s H.s6 ?_
        refine j_iload_7 dL_act_800 ?_
        refine jr_aaldR dL_act_802 H.q8.1 H.q8.2.1 hj (by omega) (H.q8.2.2 j hj) ?_
        refine j_iload_4 dL_act_803 ?_
        refine Q_L_88 (k' := 0) (z' := 0) (k2 := k) (z2 := z) (P := (fun n1 s1 V1 => n1 = n ∧ s1 = SH sx ∧ REP tg pl n (SH sx) V1 (brD V (43 + 10 * j) f (V 0 5)) N K R ∧ ∀ q, (∀ o, 1 ≤ o → o ≤ 6 → q ≠ pl (20 + 10 * j + o)) → V1 q = V q)) rfl (by decide) dL_act_805 H.s (Nat.le_of_ble_eq_true rfl) (by omega) (by omega) (fun _ _ hM' hT' => c_deny H hj hf hM' (fun V1 a b => hT' _ _ _ ⟨rfl, rfl, a, b⟩)) (fun n1 s1 V1 hP1 => ?_)
        obtain ⟨rfl, rfl, H1, hfr⟩ := hP1
        have hag : Ag V1 V := fun q hq => hfr q (fun o a b => by have := H.ge (used.o (K := K) (o := o) hj (by omega)); omega)
        have HT1 : TS V1 N K R t := HT.eq hag.eqv
        have h05 : V1 0 5 = V 0 5 := congrFun (hag 0 (by omega)) 5
        have hao : Ag (brD V1 (43 + 10 * j) f (V1 0 5)) (brD V (43 + 10 * j) f (V 0 5)) := by
          rw [h05]
          exact hag.de (by omega)
        have hFIN : T (.inl (some (.int (nI 1)))) n1 (SH sx) (brD V1 (43 + 10 * j) f (V1 0 5)) L := hT _ _ _ ⟨sx, tg, pl, N, K, R, t, rfl, HT1.denied hj hf ht, H1.cls (fun q hq => brD_out (by unfold Rout; omega)) (congrFun (hao 0 (by omega)) 5) (fun q hq => hao q (by omega)), FA_cg hR8 (fun q h1 h2 => hao q h2), Nat.le_refl _⟩
        refine j_aload_n_0 dL_act_808 ?_
        refine j_iload_7 dL_act_809 ?_
        refine j_iload_4 dL_act_811 ?_
        refine C_L_92  rfl (by decide) dL_act_813 sk_0 (Nat.le_of_ble_eq_true rfl) (Nat.le_of_eq (Nat.zero_add _)) (Nat.le_of_eq (Nat.zero_add _)) (fun _ _ hM' hT' => g_startDenial HT1.ct hj hf (by rw [hag _ (by omega)]; exact h750) hM' hT') ?_
        refine j_iload_8 dL_act_816 ?_
        refine j_ic_ne (tgt := 830) dL_act_818 (by decide) (fun h818 => ?_) (fun h818 => ?_)
        · exact absurd (by unfold hdB; rw [hag 2 (by omega), hag (43 + 10 * j + 1) (by omega)]) h818
        · refine j_iload_6 dL_act_821 ?_
          refine j_if_eq (tgt := 830) dL_act_823 (by decide) (fun h823 => ?_) (fun h823 => ?_)
          · exact absurd h823 z1'
          · refine j_iconst (v := nI 1) dL_act_826 nc_iconst_1 ?_
            refine j_goto (tgt := 831) dL_act_827 (by decide) ?_
            exact j_zret hM dL_act_831 rfl (jv_b01 (by first | exact Or.inl rfl | exact Or.inr rfl | assumption)) hFIN
    · refine j_aload_n_1 dL_act_777 ?_
      refine G_L_9 rfl dL_act_778 H.s H.s1 ?_
      refine j_iload_4 dL_act_781 ?_
      refine j_iald dL_act_783 H.q2.1 H.q2.2.1 hf (by omega) ?_
      refine j_top (y := V 2 f) (H.q2.2.2 f hf) ?_
      refine j_goto (tgt := 788) dL_act_784 (by decide) ?_
      refine j_top (y := hdB V (43 + 10 * j) f) (by unfold hdB; rw [if_pos h774]) ?_
      refine j_istore_8 rfl (by decide) dL_act_788 ?_
      refine j_iload_6 dL_act_790 ?_
      refine j_if_eq (tgt := 808) dL_act_792 (by decide) (fun h792 => ?_) (fun h792 => ?_)
      · exact absurd h792 z1'
      · refine j_aload_n_1 dL_act_795 ?_
        refine j_aload_n_1 dL_act_796 ?_
        refine G_L_21 rfl dL_act_797 H.s H.s6 ?_
        refine j_iload_7 dL_act_800 ?_
        refine jr_aaldR dL_act_802 H.q8.1 H.q8.2.1 hj (by omega) (H.q8.2.2 j hj) ?_
        refine j_iload_4 dL_act_803 ?_
        refine Q_L_88 (k' := 0) (z' := 0) (k2 := k) (z2 := z) (P := (fun n1 s1 V1 => n1 = n ∧ s1 = SH sx ∧ REP tg pl n (SH sx) V1 (brD V (43 + 10 * j) f (V 0 5)) N K R ∧ ∀ q, (∀ o, 1 ≤ o → o ≤ 6 → q ≠ pl (20 + 10 * j + o)) → V1 q = V q)) rfl (by decide) dL_act_805 H.s (Nat.le_of_ble_eq_true rfl) (by omega) (by omega) (fun _ _ hM' hT' => c_deny H hj hf hM' (fun V1 a b => hT' _ _ _ ⟨rfl, rfl, a, b⟩)) (fun n1 s1 V1 hP1 => ?_)
        obtain ⟨rfl, rfl, H1, hfr⟩ := hP1
        have hag : Ag V1 V := fun q hq => hfr q (fun o a b => by have := H.ge (used.o (K := K) (o := o) hj (by omega)); omega)
        have HT1 : TS V1 N K R t := HT.eq hag.eqv
        have h05 : V1 0 5 = V 0 5 := congrFun (hag 0 (by omega)) 5
        have hao : Ag (brD V1 (43 + 10 * j) f (V1 0 5)) (brD V (43 + 10 * j) f (V 0 5)) := by
          rw [h05]
          exact hag.de (by omega)
        have hFIN : T (.inl (some (.int (nI 1)))) n1 (SH sx) (brD V1 (43 + 10 * j) f (V1 0 5)) L := hT _ _ _ ⟨sx, tg, pl, N, K, R, t, rfl, HT1.denied hj hf ht, H1.cls (fun q hq => brD_out (by unfold Rout; omega)) (congrFun (hao 0 (by omega)) 5) (fun q hq => hao q (by omega)), FA_cg hR8 (fun q h1 h2 => hao q h2), Nat.le_refl _⟩
        refine j_aload_n_0 dL_act_808 ?_
        refine j_iload_7 dL_act_809 ?_
        refine j_iload_4 dL_act_811 ?_
        refine C_L_92  rfl (by decide) dL_act_813 sk_0 (Nat.le_of_ble_eq_true rfl) (Nat.le_of_eq (Nat.zero_add _)) (Nat.le_of_eq (Nat.zero_add _)) (fun _ _ hM' hT' => g_startDenial HT1.ct hj hf (by rw [hag _ (by omega)]; exact h750) hM' hT') ?_
        refine j_iload_8 dL_act_816 ?_
        refine j_ic_ne (tgt := 830) dL_act_818 (by decide) (fun h818 => ?_) (fun h818 => ?_)
        · exact absurd (by unfold hdB; rw [hag 2 (by omega), hag (43 + 10 * j + 1) (by omega)]) h818
        · refine j_iload_6 dL_act_821 ?_
          refine j_if_eq (tgt := 830) dL_act_823 (by decide) (fun h823 => ?_) (fun h823 => ?_)
          · exact absurd h823 z1'
          · refine j_iconst (v := nI 1) dL_act_826 nc_iconst_1 ?_
            refine j_goto (tgt := 831) dL_act_827 (by decide) ?_
            exact j_zret hM dL_act_831 rfl (jv_b01 (by first | exact Or.inl rfl | exact Or.inr rfl | assumption)) hFIN

def deF (V : Nat → Nat → Int32) (N R f : Nat) (x : Int32) : Nat := if R = 0 then FA V N R else if V (43 + 10 * bel (x >>> (nI 6 &&& 31)) R + 1) f = nI 2 then FA V N R else FA (brD V (43 + 10 * bel (x >>> (nI 6 &&& 31)) R) f (V 0 5)) N R
set_option maxHeartbeats 4000000 in
set_option maxRecDepth 100000 in
theorem c_adeny {g : jv_G} {X : jv_X} {T : jv_T} {L : Nat → Nat → Int64} {k z : Nat} {sx : Nat → jv_S} {tg pl : Nat → Nat} {n : Nat} {V : Nat → Nat → Int32} {N K R t : Nat} (HT : TS V N K R t) (H : REP tg pl n (SH sx) V V N K R) {x : Int32} {f : Nat} (hf : f < N) (ht : t < 2 ^ 30) (hk : 30 ≤ k) (hz : 300 ≤ z) (hM : jv_M g X T) (hT : ∀ n1 s1 V1, PO (deF V N R f x) (t) n1 s1 V1 → T (.inl (some (.int (nI 1)))) n1 s1 V1 L) : jv_J g X I_L_act 718 [some (jv_r g 0), some (jv_r g 123), some (.int x), some (.int (nI N)), some (.int (nI f)), some (.int (nI R)), some (.int (nI 1)), none, none, none, none] [] n (SH sx) V L k z := by
  have hn := H.n124
  have hN2 := H.N2
  have hN12 := H.N12
  have hK4 := H.K4
  have hR8 := H.R8
  
  unfold deF at hT
  refine j_iload_5 dL_act_718 ?_
  refine j_if_ne (tgt := 725) dL_act_720 (by decide) (fun h720 => ?_) (fun h720 => ?_)
  · have hR0 : 0 < R := by
      rcases Nat.eq_zero_or_pos R with c | c
      · subst c; exact absurd rfl h720
      · exact c
    rw [if_neg (by omega)] at hT
    refine j_iload_n_2 dL_act_725 ?_
    refine j_bipush (v := nI 6) dL_act_726 nc_bipush_6 ?_
    refine j_ishr dL_act_728 ?_
    refine j_iload_5 dL_act_729 ?_
    refine C_L_15  rfl (by decide) dL_act_731 (Nat.le_of_ble_eq_true rfl) (Nat.le_of_eq (Nat.zero_add _)) (Nat.le_of_eq (Nat.zero_add _)) (fun _ _ hM' hT' => c_below (m := R) (by omega) (by omega) hM' hT') ?_
    refine j_istore_7 rfl (by decide) dL_act_734 ?_
    exact c_adenyB HT H (bel_lt hR0) hf ht hk hz hM hT
  · have hR0 : R = 0 := by
      rcases Nat.eq_zero_or_pos R with c | c
      · exact c
      · exact absurd h720 (nI_ne0 c (by omega))
    rw [if_pos hR0] at hT
    refine j_iconst (v := nI 1) dL_act_723 nc_iconst_1 ?_
    exact j_zret hM dL_act_724 rfl (jv_b01 (by first | exact Or.inl rfl | exact Or.inr rfl | assumption)) (hT _ _ _ ⟨sx, tg, pl, N, K, R, t, rfl, HT, H, rfl, Nat.le_refl _⟩)

/-- the class's numbers with a lift more -/
def liV (V : Nat → Nat → Int32) (N K lo hi ev wt : Nat) : Nat → Nat → Int32 := layV (putV V K lo hi ev (nI wt)) N (K + 1)
theorem liV_o {V : Nat → Nat → Int32} {N K lo hi ev wt q : Nat} (hN : N ≤ 12) (h : 20 ≤ q ∨ (2 ≤ q ∧ q < 8) ∨ q = 0) (h1 : q ≠ 20 + 2 * K) (h2 : q ≠ 20 + 2 * K + 1) : liV V N K lo hi ev wt q = V q := by
  unfold liV
  rw [layV_out (by omega), putV_o (by omega) h1 h2]
theorem liV_l {V : Nat → Nat → Int32} {N K lo hi ev wt : Nat} (hN : N ≤ 12) : liV V N K lo hi ev wt (20 + 2 * K) 0 = 1 ∧ liV V N K lo hi ev wt (20 + 2 * K) 1 = nI wt ∧ ∀ c, c < 12 → liV V N K lo hi ev wt (20 + 2 * K + 1) c = stp lo hi ev c := by
  unfold liV
  rw [layV_o hN (by omega), layV_o hN (by omega)]
  unfold putV
  refine ⟨?_, ?_, fun c hc => ?_⟩
  · rw [jv_Une (by omega), jv_fill_ne (by omega), jv_Unj (by omega), jv_Ueq]
    rfl
  · rw [jv_Une (by omega), jv_fill_ne (by omega), jv_Ueq]
  · rw [jv_Une (by omega)]
    unfold jv_fill
    rw [if_pos ⟨rfl, hc⟩]
theorem Ag.li {V1 V : Nat → Nat → Int32} {N K lo hi ev wt q : Nat} (h : Ag V1 V) (hN : N ≤ 12) (hK : K ≤ 4) (hq : q < 123) (hq2 : 20 ≤ q ∨ (2 ≤ q ∧ q < 8) ∨ q = 0) : liV V1 N K lo hi ev wt q = liV V N K lo hi ev wt q := by
  unfold liV
  rw [layV_out (by omega), layV_out (by omega)]
  unfold putV
  refine (Ag.U (p := 1) (i := 1) (x := nI (K + 1)) (fun q hq => ?_)) q hq
  funext c
  unfold jv_fill
  rw [((h.U (p := 20 + 2 * K) (i := 0) (x := nI 1)).U (p := 20 + 2 * K) (i := 1) (x := nI wt)) q hq]
set_option maxHeartbeats 4000000 in
set_option maxRecDepth 100000 in
theorem c_aliftB {g : jv_G} {X : jv_X} {T : jv_T} {L : Nat → Nat → Int64} {k z : Nat} {sx : Nat → jv_S} {tg pl : Nat → Nat} {n : Nat} {V : Nat → Nat → Int32} {N K R t : Nat} (HT : TS V N K R t) (H : REP tg pl n (SH sx) V V N K R) {x : Int32} {f lo hi ev wt : Nat} {s1 : Nat → jv_S} {V1 : (Nat → Nat → Int32)} (hs : ∀ q, q < n → s1 q = SH sx q ∧ V1 q = V q) (hok : (s1 n).1 = 10) (hon : (s1 n).2.1 = 5) (v0 : V1 n 0 = nI lo) (v1 : V1 n 1 = nI hi) (v2 : V1 n 2 = nI ev) (v3 : V1 n 3 = nI wt) (v4 : V1 n 4 = 1) (hl : lo < hi) (hhi : hi < N) (he : 1 ≤ ev) (hev : ev ≤ hi - lo) (h1w : 1 ≤ wt) (h9w : wt ≤ 9) (hk : 10 ≤ k) (hz : 100 ≤ z) (hM : jv_M g X T) (hT : ∀ n1 s1 V1, PO (FA V N R) (t) n1 s1 V1 → T (.inl (some (.int (nI 1)))) n1 s1 V1 L) : jv_J g X I_L_act 493 [some (jv_r g 0), some (jv_r g 123), some (.int x), some (.int (nI N)), some (.int (nI f)), some (.int (nI R)), some (.int (nI 1)), some (.int (nI lo)), some (.int (nI hi)), some (jv_r g n), none] [] (n + 1) s1 V1 L k z := by
  have hn := H.n124
  have hN2 := H.N2
  have hN12 := H.N12
  have hK4 := H.K4
  have hR8 := H.R8
  have hA : ∀ q, q < 123 → s1 q = SH sx q ∧ V1 q = V q := fun q hq => hs q (by omega)
  obtain ⟨sy, rfl⟩ := SH_ex (fun q hq => (hA q hq).1)
  have hag : Ag V1 V := fun q hq => (hA q hq).2
  have H1 := H.grow (n1 := n + 1) (sh1 := SH sy) (V1 := V1) (by omega) (fun q _ hq => hs q hq)
  have HT1 : TS V1 N K R t := HT.eq hag.eqv
  refine j_aload_n_1 dL_act_493 ?_
  refine G_L_62 rfl dL_act_494 H1.s H1.s5 ?_
  refine jr_alenA dL_act_497 H1.q7.1 H1.q7.2.1 ?_
  refine j_iconst (v := nI 4) dL_act_498 nc_iconst_4 ?_
  refine j_ic_geN (by omega) (by omega) (tgt := 506) dL_act_499 (by decide) (fun h499 => ?_) (fun h499 => ?_)
  · refine j_iconst (v := nI 0) dL_act_506 nc_iconst_0 ?_
    refine j_istore_6 rfl (by decide) dL_act_507 ?_
    refine j_aload_n_1 dL_act_509 ?_
    refine G_L_62 rfl dL_act_510 H1.s H1.s5 ?_
    refine jr_alenA dL_act_513 H1.q7.1 H1.q7.2.1 ?_
    refine j_istore_10 rfl (by decide) dL_act_514 ?_
    refine j_iload_6 dL_act_516 ?_
    refine j_if_eq (tgt := 527) dL_act_518 (by decide) (fun h518 => ?_) (fun h518 => ?_)
    · refine j_aload_n_0 dL_act_527 ?_
      refine j_aload_9 dL_act_528 ?_
      refine j_iconst (v := nI 0) dL_act_530 nc_iconst_0 ?_
      refine j_iald dL_act_531 hok hon (by omega) (by omega) ?_
      refine j_top (y := nI lo) (v0) ?_
      refine j_aload_9 dL_act_532 ?_
      refine j_iconst (v := nI 1) dL_act_534 nc_iconst_1 ?_
      refine j_iald dL_act_535 hok hon (by omega) (by omega) ?_
      refine j_top (y := nI hi) (v1) ?_
      refine j_aload_9 dL_act_536 ?_
      refine j_iconst (v := nI 2) dL_act_538 nc_iconst_2 ?_
      refine j_iald dL_act_539 hok hon (by omega) (by omega) ?_
      refine j_top (y := nI ev) (v2) ?_
      refine j_aload_9 dL_act_540 ?_
      refine j_iconst (v := nI 3) dL_act_542 nc_iconst_3 ?_
      refine j_iald dL_act_543 hok hon (by omega) (by omega) ?_
      refine j_top (y := nI wt) (v3) ?_
      refine X_L_70 (n1 := 0) (sh1 := fun _ => (0, 0, fun _ => none)) (V1 := fun _ _ => 0) (L1 := fun _ _ => 0) (k' := 1) (z' := 6) (k2 := k - 1) (z2 := z - 6) rfl (by decide) dL_act_544 sk_0 (Nat.le_of_ble_eq_true rfl) (by omega) (by omega) (fun _ _ hM' hT' => e_addLift_34 HT1.ct (by omega) hhi hl he hev (nI_nlt h1w (by omega)) (nI_le h9w (by omega)) h499 (Nat.le_refl _) (Nat.le_refl _) hM' hT') (fun n' hn' => ?_)
      refine j_catchN (by decide +kernel) [(25, 116, 894, 105), (117, 154, 894, 105), (155, 217, 894, 105), (218, 280, 894, 105), (281, 356, 894, 105), (357, 412, 894, 105)] (413, 562, 894, 105) [(563, 572, 894, 105), (573, 638, 894, 105), (639, 717, 894, 105), (718, 724, 894, 105), (725, 831, 894, 105), (832, 893, 894, 105)] rfl (by decide) (by decide) (by decide) (by decide) (show Cond.classLink RL 105 "java/lang/IllegalStateException" ∈ jv_gw from jv_gwm 646 (by decide +kernel) rfl) (fun q => ?_)
      exact c_ahandler (jokI (j0 := 6) rfl rfl) hM (hT _ _ _ ⟨sy, tg, pl, N, K, R, t, rfl, HT1, (H1.cls (V2 := V1) (fun q _ => rfl) (congrFun (hag 0 (by omega)) 5) (fun q hq => hag q (by omega))).grow hn' (fun q _ _ => ⟨rfl, rfl⟩), FA_cg hR8 (fun q h1 h2 => hag q h2), Nat.le_refl _⟩)
    · exact absurd rfl h518
  · refine j_iconst (v := nI 1) dL_act_502 nc_iconst_1 ?_
    refine j_goto (tgt := 507) dL_act_503 (by decide) ?_
    refine j_istore_6 rfl (by decide) dL_act_507 ?_
    refine j_aload_n_1 dL_act_509 ?_
    refine G_L_62 rfl dL_act_510 H1.s H1.s5 ?_
    refine jr_alenA dL_act_513 H1.q7.1 H1.q7.2.1 ?_
    refine j_istore_10 rfl (by decide) dL_act_514 ?_
    refine j_iload_6 dL_act_516 ?_
    refine j_if_eq (tgt := 527) dL_act_518 (by decide) (fun h518 => ?_) (fun h518 => ?_)
    · exact absurd h518 z1'
    · refine j_aload_n_1 dL_act_521 ?_
      refine j_aload_9 dL_act_522 ?_
      refine Q_L_66 (k' := 1) (z' := 5) (k2 := k - 1) (z2 := z - 5) (P := (fun n2 s2 V2 => (∃ tg1 pl1, REP tg1 pl1 n2 s2 V2 (liV V N K lo hi ev wt) N (K + 1) R) ∧ n + 1 ≤ n2 ∧ (∀ q, q < 123 → s2 q = SH sy q ∧ V2 q = V1 q) ∧ s2 n = SH sy n ∧ V2 n = V1 n)) rfl (by decide) dL_act_524 H1.s (Nat.le_of_ble_eq_true rfl) (by omega) (by omega) (fun _ _ hM' hT' => c_simLift (C1 := liV V N K lo hi ev wt) H (by omega) hs hok hon ⟨lo, hi, ev, wt, v0, v1, v2, v3, hl, hhi, he, hev, h1w, h9w, Or.inr v4, (liV_l hN12).1.trans v4.symm, (liV_l hN12).2.1, (liV_l hN12).2.2⟩ (fun q a b => liV_o hN12 (by omega) (by omega) (by omega)) (by rw [liV_o hN12 (by omega) (by omega) (by omega)]) (Nat.le_refl _) (Nat.le_refl _) hM' hT') (fun n2 s2 V2 hP2 => ?_)
      obtain ⟨⟨tg1, pl1, H2⟩, hn2, hB, e1, e2⟩ := hP2
      obtain ⟨sz, rfl⟩ := SH_ex (fun q hq => (hB q hq).1.trans (hA q hq).1)
      have hag2 : Ag V2 V := fun q hq => ((hB q hq).2).trans (hA q hq).2
      have HT2 : TS V2 N K R t := HT.eq hag2.eqv
      have ok2 : (SH sz n).1 = 10 := by rw [e1]; exact hok
      have on2 : (SH sz n).2.1 = 5 := by rw [e1]; exact hon
      have hFIN : T (.inl (some (.int (nI 1)))) n2 (SH sz) (layV (putV V2 K lo hi ev (nI wt)) N (K + 1)) L := hT _ _ _ ⟨sz, tg1, pl1, N, K + 1, R, t, rfl, HT2.addL hhi hl he hev h1w h9w (by omega), H2.cls (fun q hq => liV_o hN12 (by omega) (by omega) (by omega)) (congrFun (hag2.li hN12 hK4 (by omega) (by omega)) 5) (fun q hq => hag2.li hN12 hK4 (by omega) (by omega)), FA_cg hR8 (fun q h1 h2 => (liV_o hN12 (by omega) (by omega) (by omega)).trans (hag2 q h2)), Nat.le_refl _⟩
      refine j_aload_n_0 dL_act_527 ?_
      refine j_aload_9 dL_act_528 ?_
      refine j_iconst (v := nI 0) dL_act_530 nc_iconst_0 ?_
      refine j_iald dL_act_531 ok2 on2 (by omega) (by omega) ?_
      refine j_top (y := nI lo) (by rw [e2]; exact v0) ?_
      refine j_aload_9 dL_act_532 ?_
      refine j_iconst (v := nI 1) dL_act_534 nc_iconst_1 ?_
      refine j_iald dL_act_535 ok2 on2 (by omega) (by omega) ?_
      refine j_top (y := nI hi) (by rw [e2]; exact v1) ?_
      refine j_aload_9 dL_act_536 ?_
      refine j_iconst (v := nI 2) dL_act_538 nc_iconst_2 ?_
      refine j_iald dL_act_539 ok2 on2 (by omega) (by omega) ?_
      refine j_top (y := nI ev) (by rw [e2]; exact v2) ?_
      refine j_aload_9 dL_act_540 ?_
      refine j_iconst (v := nI 3) dL_act_542 nc_iconst_3 ?_
      refine j_iald dL_act_543 ok2 on2 (by omega) (by omega) ?_
      refine j_top (y := nI wt) (by rw [e2]; exact v3) ?_
      refine C_L_70  rfl (by decide) dL_act_544 sk_0 (Nat.le_of_ble_eq_true rfl) (Nat.le_of_eq (Nat.zero_add _)) (Nat.le_of_eq (Nat.zero_add _)) (fun _ _ hM' hT' => g_addLift HT2.ct (by omega) hhi hl he hev (nI_nlt h1w (by omega)) (nI_le h9w (by omega)) (by omega) hM' hT') ?_
      refine j_iload_10 dL_act_547 ?_
      refine j_ic_neN (by omega) (by omega) (tgt := 561) dL_act_549 (by decide) (fun h549 => ?_) (fun h549 => ?_)
      · exact absurd rfl h549
      · refine j_iload_6 dL_act_552 ?_
        refine j_if_eq (tgt := 561) dL_act_554 (by decide) (fun h554 => ?_) (fun h554 => ?_)
        · exact absurd h554 z1'
        · refine j_iconst (v := nI 1) dL_act_557 nc_iconst_1 ?_
          refine j_goto (tgt := 562) dL_act_558 (by decide) ?_
          exact j_zret hM dL_act_562 rfl (jv_b01 (by first | exact Or.inl rfl | exact Or.inr rfl | assumption)) hFIN

set_option maxHeartbeats 4000000 in
set_option maxRecDepth 100000 in
theorem c_alift {g : jv_G} {X : jv_X} {T : jv_T} {L : Nat → Nat → Int64} {k z : Nat} {sx : Nat → jv_S} {tg pl : Nat → Nat} {n : Nat} {V : Nat → Nat → Int32} {N K R t : Nat} (HT : TS V N K R t) (H : REP tg pl n (SH sx) V V N K R) {x : Int32} {f : Nat} (hk : 30 ≤ k) (hz : 300 ≤ z) (hM : jv_M g X T) (hT : ∀ n1 s1 V1, PO (FA V N R) (t) n1 s1 V1 → T (.inl (some (.int (nI 1)))) n1 s1 V1 L) : jv_J g X I_L_act 413 [some (jv_r g 0), some (jv_r g 123), some (.int x), some (.int (nI N)), some (.int (nI f)), some (.int (nI R)), some (.int (nI 1)), none, none, none, none] [] n (SH sx) V L k z := by
  have hn := H.n124
  have hN2 := H.N2
  have hN12 := H.N12
  have hK4 := H.K4
  have hR8 := H.R8
  
  refine j_iload_n_2 dL_act_413 ?_
  refine j_iconst (v := nI 4) dL_act_414 nc_iconst_4 ?_
  refine j_ishr dL_act_415 ?_
  refine j_iload_n_3 dL_act_416 ?_
  refine j_iconst (v := nI 1) dL_act_417 nc_iconst_1 ?_
  refine j_isubN (by omega) dL_act_418 ?_
  refine C_L_15  rfl (by decide) dL_act_419 (Nat.le_of_ble_eq_true rfl) (Nat.le_of_eq (Nat.zero_add _)) (Nat.le_of_eq (Nat.zero_add _)) (fun _ _ hM' hT' => c_below (m := (N - 1)) (by omega) (by omega) hM' hT') ?_
  have hlo : bel (x >>> (nI 4 &&& 31)) (N - 1) < N - 1 := bel_lt (by omega)
  generalize bel (x >>> (nI 4 &&& 31)) (N - 1) = lo at hlo ⊢
  refine j_istore_7 rfl (by decide) dL_act_422 ?_
  refine j_iload_7 dL_act_424 ?_
  refine j_iconst (v := nI 1) dL_act_426 nc_iconst_1 ?_
  refine j_iaddN dL_act_427 ?_
  refine j_iload_n_2 dL_act_428 ?_
  refine j_bipush (v := nI 6) dL_act_429 nc_bipush_6 ?_
  refine j_ishr dL_act_431 ?_
  refine j_iload_n_3 dL_act_432 ?_
  refine j_iconst (v := nI 1) dL_act_433 nc_iconst_1 ?_
  refine j_isubN (by omega) dL_act_434 ?_
  refine j_iload_7 dL_act_435 ?_
  refine j_isubN (by omega) dL_act_437 ?_
  refine C_L_15  rfl (by decide) dL_act_438 (Nat.le_of_ble_eq_true rfl) (Nat.le_of_eq (Nat.zero_add _)) (Nat.le_of_eq (Nat.zero_add _)) (fun _ _ hM' hT' => c_below (m := (N - 1 - lo)) (by omega) (by omega) hM' hT') ?_
  have hd : bel (x >>> (nI 6 &&& 31)) (N - 1 - lo) < N - 1 - lo := bel_lt (by omega)
  generalize bel (x >>> (nI 6 &&& 31)) (N - 1 - lo) = d at hd ⊢
  refine j_iaddN dL_act_441 ?_
  refine j_istore_8 rfl (by decide) dL_act_442 ?_
  refine j_iconst (v := nI 5) dL_act_444 nc_iconst_5 ?_
  refine jr_newI (jv_gwm 64 (by decide +kernel) rfl) dL_act_445 (by omega) (k2 := k - 1) (z2 := z - 5) (by omega) (by omega) (fun sh1 W1 hw1 => ?_)
  have hok : (sh1 n).1 = 10 := by rw [hw1.2.1]
  have hon : (sh1 n).2.1 = 5 := by rw [hw1.2.1]
  refine j_dup rfl dL_act_447 ?_
  refine j_iconst (v := nI 0) dL_act_448 nc_iconst_0 ?_
  refine j_iload_7 dL_act_449 ?_
  refine j_iast dL_act_451 hok hon (by omega) (by omega) ?_
  refine j_dup rfl dL_act_452 ?_
  refine j_iconst (v := nI 1) dL_act_453 nc_iconst_1 ?_
  refine j_iload_8 dL_act_454 ?_
  refine j_iast dL_act_456 hok hon (by omega) (by omega) ?_
  refine j_dup rfl dL_act_457 ?_
  refine j_iconst (v := nI 2) dL_act_458 nc_iconst_2 ?_
  refine j_iconst (v := nI 1) dL_act_459 nc_iconst_1 ?_
  refine j_iload_n_2 dL_act_460 ?_
  refine j_bipush (v := nI 8) dL_act_461 nc_bipush_8 ?_
  refine j_ishr dL_act_463 ?_
  refine j_iload_8 dL_act_464 ?_
  refine j_iload_7 dL_act_466 ?_
  refine j_isubN (by omega) dL_act_468 ?_
  refine C_L_15  rfl (by decide) dL_act_469 (Nat.le_of_ble_eq_true rfl) (Nat.le_of_eq (Nat.zero_add _)) (Nat.le_of_eq (Nat.zero_add _)) (fun _ _ hM' hT' => c_below (m := (lo + 1 + d - lo)) (by omega) (by omega) hM' hT') ?_
  have he : bel (x >>> (nI 8 &&& 31)) (lo + 1 + d - lo) < lo + 1 + d - lo := bel_lt (by omega)
  generalize bel (x >>> (nI 8 &&& 31)) (lo + 1 + d - lo) = e at he ⊢
  refine j_iaddN dL_act_472 ?_
  refine j_iast dL_act_473 hok hon (by omega) (by omega) ?_
  refine j_dup rfl dL_act_474 ?_
  refine j_iconst (v := nI 3) dL_act_475 nc_iconst_3 ?_
  refine j_iconst (v := nI 1) dL_act_476 nc_iconst_1 ?_
  refine j_iload_n_2 dL_act_477 ?_
  refine j_iconst (v := nI 5) dL_act_478 nc_iconst_5 ?_
  refine j_ishr dL_act_479 ?_
  refine j_bipush (v := nI 9) dL_act_480 nc_bipush_9 ?_
  refine C_L_15  rfl (by decide) dL_act_482 (Nat.le_of_ble_eq_true rfl) (Nat.le_of_eq (Nat.zero_add _)) (Nat.le_of_eq (Nat.zero_add _)) (fun _ _ hM' hT' => c_below (m := 9) (by omega) (by omega) hM' hT') ?_
  have hw : bel (x >>> (nI 5 &&& 31)) 9 < 9 := bel_lt (by omega)
  generalize bel (x >>> (nI 5 &&& 31)) 9 = w at hw ⊢
  refine j_iaddN dL_act_485 ?_
  refine j_iast dL_act_486 hok hon (by omega) (by omega) ?_
  refine j_dup rfl dL_act_487 ?_
  refine j_iconst (v := nI 4) dL_act_488 nc_iconst_4 ?_
  refine j_iconst (v := nI 1) dL_act_489 nc_iconst_1 ?_
  refine j_iast dL_act_490 hok hon (by omega) (by omega) ?_
  refine j_astore_9 rfl (by decide) dL_act_491 ?_
  refine c_aliftB HT H (lo := lo) (hi := lo + 1 + d) (ev := 1 + e) (wt := 1 + w) (V1 := (jv_U (jv_U (jv_U (jv_U (jv_U W1 n 0 (nI lo)) n 1 (nI (lo + 1 + d))) n 2 (nI (1 + e))) n 3 (nI (1 + w))) n 4 (nI 1))) (fun q hq => ⟨(hw1.1 q (by omega)).1, by rw [jv_U_other (by omega), jv_U_other (by omega), jv_U_other (by omega), jv_U_other (by omega), jv_U_other (by omega)]; exact (hw1.1 q (by omega)).2⟩) hok hon ?_ ?_ ?_ ?_ ?_ (by omega) (by omega) (by omega) (by omega) (by omega) (by omega) (by omega) (by omega) hM hT
  · rw [jv_Unj (by omega), jv_Unj (by omega), jv_Unj (by omega), jv_Unj (by omega), jv_Ueq]
  · rw [jv_Unj (by omega), jv_Unj (by omega), jv_Unj (by omega), jv_Ueq]
  · rw [jv_Unj (by omega), jv_Unj (by omega), jv_Ueq]
  · rw [jv_Unj (by omega), jv_Ueq]
  · rw [jv_Ueq]
    rfl

set_option maxHeartbeats 4000000 in
set_option maxRecDepth 100000 in
theorem c_act0 {g : jv_G} {X : jv_X} {L : Nat → Nat → Int64} {k z : Nat} {sx : Nat → jv_S} {tg pl : Nat → Nat} {n : Nat} {V : Nat → Nat → Int32} {N K R t : Nat} (HT : TS V N K R t) (H : REP tg pl n (SH sx) V V N K R) {x : Int32} (kk : jv_J g X I_L_act 31 [some (jv_r g 0), some (jv_r g 123), some (.int x), some (.int (nI N)), some (.int (nI (bel (x >>> (nI 4 &&& 31)) N))), some (.int (nI R)), some (.int (nI 1)), none, none, none, none] [.int (nI (bel x 20))] n (SH sx) V L k z) : jv_J g X I_L_act 0 [some (jv_r g 0), some (jv_r g 123), some (.int x), none, none, none, none, none, none, none, none] [] n (SH sx) V L k z := by
  have hn := H.n124
  have hN2 := H.N2
  have hN12 := H.N12
  have hK4 := H.K4
  have hR8 := H.R8
  
  refine j_aload_n_1 dL_act_0 ?_
  refine G_L_9 rfl dL_act_1 H.s H.s1 ?_
  refine j_alen dL_act_4 H.q2.1 H.q2.2.1 ?_
  refine j_istore_n_3 rfl (by decide) dL_act_5 ?_
  refine j_iload_n_2 dL_act_6 ?_
  refine j_iconst (v := nI 4) dL_act_7 nc_iconst_4 ?_
  refine j_ishr dL_act_8 ?_
  refine j_iload_n_3 dL_act_9 ?_
  refine C_L_15  rfl (by decide) dL_act_10 (Nat.le_of_ble_eq_true rfl) (Nat.le_of_eq (Nat.zero_add _)) (Nat.le_of_eq (Nat.zero_add _)) (fun _ _ hM' hT' => c_below (m := N) (by omega) (by omega) hM' hT') ?_
  refine j_istore_4 rfl (by decide) dL_act_13 ?_
  refine j_aload_n_1 dL_act_15 ?_
  refine G_L_21 rfl dL_act_16 H.s H.s6 ?_
  refine jr_alenR dL_act_19 H.q8.1 H.q8.2.1 ?_
  refine j_istore_5 rfl (by decide) dL_act_20 ?_
  refine j_iconst (v := nI 1) dL_act_22 nc_iconst_1 ?_
  refine j_istore_6 rfl (by decide) dL_act_23 ?_
  refine j_iload_n_2 dL_act_25 ?_
  refine j_bipush (v := nI 20) dL_act_26 nc_bipush_20 ?_
  refine C_L_15  rfl (by decide) dL_act_28 (Nat.le_of_ble_eq_true rfl) (Nat.le_of_eq (Nat.zero_add _)) (Nat.le_of_eq (Nat.zero_add _)) (fun _ _ hM' hT' => c_below (m := 20) (by omega) (by omega) hM' hT') ?_
  exact kk

theorem PO.le {F t t' n1 : Nat} {s1 : Nat → jv_S} {V1 : Nat → Nat → Int32} (h : PO F t n1 s1 V1) (ht : t ≤ t') : PO F t' n1 s1 V1 := by
  obtain ⟨a1, a2, a3, a4, a5, a6, a7, b1, b2, b3, b4, b5⟩ := h
  exact ⟨a1, a2, a3, a4, a5, a6, a7, b1, b2, b3, b4, by omega⟩
set_option maxHeartbeats 4000000 in
set_option maxRecDepth 100000 in
/-- one act, on both: they say the same, and the credit is known beforehand -/
theorem c_act {sx : Nat → jv_S} {tg pl : Nat → Nat} {n : Nat} {V : Nat → Nat → Int32} {N K R t : Nat} (HT : TS V N K R t) (H : REP tg pl n (SH sx) V V N K R) (ht : t + 60 < 2 ^ 30) (x : Int32) : ∃ F, F + 40 ≤ FA V N R + 1700 ∧ ∀ {g : jv_G} {X : jv_X} {T : jv_T} {L : Nat → Nat → Int64} {k : Nat}, FA V N R + 1700 ≤ k + F → jv_M g X T → (∀ n1 s1 V1, PO F (t + 60) n1 s1 V1 → T (.inl (some (.int (nI 1)))) n1 s1 V1 L) → jv_J g X I_L_act 0 [some (jv_r g 0), some (jv_r g 123), some (.int x), none, none, none, none, none, none, none, none] [] n (SH sx) V L k (20 * k) := by
  have hN2 := H.N2
  have hf : bel (x >>> (nI 4 &&& 31)) N < N := bel_lt (by omega)
  have hFo : FA (ouV N R (hoQ x) V) N R ≤ FA V N R := (hours_all H.N12 H.K4 H.R8 (hoQ x) t V (by have := hoQ_le (x := x); omega) HT.2 HT.ce).2.2
  have hc : bel x 20 = 0 ∨ bel x 20 = 1 ∨ bel x 20 = 2 ∨ bel x 20 = 3 ∨ bel x 20 = 4 ∨ bel x 20 = 5 ∨ bel x 20 = 6 ∨ bel x 20 = 7 ∨ bel x 20 = 8 ∨ bel x 20 = 9 ∨ bel x 20 = 10 ∨ bel x 20 = 11 ∨ bel x 20 = 12 ∨ bel x 20 = 13 ∨ bel x 20 = 14 ∨ 14 < bel x 20 := by omega
  rcases hc with he | he | he | he | he | he | he | he | he | he | he | he | he | he | he | he
  · have hF : (if nI (bel (x >>> (nI 5 &&& 31)) 6) ≤ 0 then 0 else FA V N R) + 40 ≤ FA V N R + 1700 := by split <;> omega
    refine ⟨(if nI (bel (x >>> (nI 5 &&& 31)) 6) ≤ 0 then 0 else FA V N R), hF, fun {g X T L k} hk hM hT => c_act0 HT H ?_⟩
    rw [he]
    exact j_swIn dL_act_31 (by decide +kernel) (by decide +kernel) (off := 73) (by decide +kernel) (tgt := 104) (by decide) (c_abuild HT H (by omega) (by omega) hM (fun n1 s1 V1 h => hT n1 s1 V1 (h.le (by omega))))
  · have hF : FA V N R + 40 ≤ FA V N R + 1700 := by omega
    refine ⟨FA V N R, hF, fun {g X T L k} hk hM hT => c_act0 HT H ?_⟩
    rw [he]
    exact j_swIn dL_act_31 (by decide +kernel) (by decide +kernel) (off := 124) (by decide +kernel) (tgt := 155) (by decide) (c_astay HT H hf (by omega) (by omega) hM (fun n1 s1 V1 h => hT n1 s1 V1 (h.le (by omega))))
  · have hF : FA V N R + 40 ≤ FA V N R + 1700 := by omega
    refine ⟨FA V N R, hF, fun {g X T L k} hk hM hT => c_act0 HT H ?_⟩
    rw [he]
    exact j_swIn dL_act_31 (by decide +kernel) (by decide +kernel) (off := 124) (by decide +kernel) (tgt := 155) (by decide) (c_astay HT H hf (by omega) (by omega) hM (fun n1 s1 V1 h => hT n1 s1 V1 (h.le (by omega))))
  · have hF : FA V N R + 40 ≤ FA V N R + 1700 := by omega
    refine ⟨FA V N R, hF, fun {g X T L k} hk hM hT => c_act0 HT H ?_⟩
    rw [he]
    exact j_swIn dL_act_31 (by decide +kernel) (by decide +kernel) (off := 187) (by decide +kernel) (tgt := 218) (by decide) (c_aheads HT H hf (by omega) (by omega) hM (fun n1 s1 V1 h => hT n1 s1 V1 (h.le (by omega))))
  · have hF : FA V N R + 40 ≤ FA V N R + 1700 := by omega
    refine ⟨FA V N R, hF, fun {g X T L k} hk hM hT => c_act0 HT H ?_⟩
    rw [he]
    exact j_swIn dL_act_31 (by decide +kernel) (by decide +kernel) (off := 250) (by decide +kernel) (tgt := 281) (by decide) (c_astairs HT H hf (by omega) (by omega) hM (fun n1 s1 V1 h => hT n1 s1 V1 (h.le (by omega))))
  · have hF : FA V N R + 40 ≤ FA V N R + 1700 := by omega
    refine ⟨FA V N R, hF, fun {g X T L k} hk hM hT => c_act0 HT H ?_⟩
    rw [he]
    exact j_swIn dL_act_31 (by decide +kernel) (by decide +kernel) (off := 326) (by decide +kernel) (tgt := 357) (by decide) (c_aopen HT H hM (fun n1 s1 V1 h => hT n1 s1 V1 (h.le (by omega))))
  · have hF : FA V N R + 40 ≤ FA V N R + 1700 := by omega
    refine ⟨FA V N R, hF, fun {g X T L k} hk hM hT => c_act0 HT H ?_⟩
    rw [he]
    exact j_swIn dL_act_31 (by decide +kernel) (by decide +kernel) (off := 326) (by decide +kernel) (tgt := 357) (by decide) (c_aopen HT H hM (fun n1 s1 V1 h => hT n1 s1 V1 (h.le (by omega))))
  · have hF : FA V N R + 40 ≤ FA V N R + 1700 := by omega
    refine ⟨FA V N R, hF, fun {g X T L k} hk hM hT => c_act0 HT H ?_⟩
    rw [he]
    exact j_swIn dL_act_31 (by decide +kernel) (by decide +kernel) (off := 382) (by decide +kernel) (tgt := 413) (by decide) (c_alift HT H (by omega) (by omega) hM (fun n1 s1 V1 h => hT n1 s1 V1 (h.le (by omega))))
  · have hF : FA V N R + 40 ≤ FA V N R + 1700 := by omega
    refine ⟨FA V N R, hF, fun {g X T L k} hk hM hT => c_act0 HT H ?_⟩
    rw [he]
    exact j_swIn dL_act_31 (by decide +kernel) (by decide +kernel) (off := 382) (by decide +kernel) (tgt := 413) (by decide) (c_alift HT H (by omega) (by omega) hM (fun n1 s1 V1 h => hT n1 s1 V1 (h.le (by omega))))
  · have hF : FA V N R + 40 ≤ FA V N R + 1700 := by omega
    refine ⟨FA V N R, hF, fun {g X T L k} hk hM hT => c_act0 HT H ?_⟩
    rw [he]
    exact j_swIn dL_act_31 (by decide +kernel) (by decide +kernel) (off := 532) (by decide +kernel) (tgt := 563) (by decide) (c_aturn HT H hM (fun n1 s1 V1 h => hT n1 s1 V1 (h.le (by omega))))
  · have hF : (if 8 ≤ R then FA V N R else FA (staR V (43 + 10 * R) (bel (x >>> (nI 4 &&& 31)) N) (nI (yeM x)) (V 0 5)) N (R + 1)) + 40 ≤ FA V N R + 1700 := by have := FA_sta (C := V) (f := (bel (x >>> (nI 4 &&& 31)) N)) (R := R) (y := nI (yeM x)) (h := V 0 5) H.N12; split <;> omega
    refine ⟨(if 8 ≤ R then FA V N R else FA (staR V (43 + 10 * R) (bel (x >>> (nI 4 &&& 31)) N) (nI (yeM x)) (V 0 5)) N (R + 1)), hF, fun {g X T L k} hk hM hT => c_act0 HT H ?_⟩
    rw [he]
    exact j_swIn dL_act_31 (by decide +kernel) (by decide +kernel) (off := 608) (by decide +kernel) (tgt := 639) (by decide) (c_astarts HT H hf (by omega) (by omega) (by omega) hM (fun n1 s1 V1 h => hT n1 s1 V1 (h.le (by omega))))
  · have hF : (if 8 ≤ R then FA V N R else FA (staR V (43 + 10 * R) (bel (x >>> (nI 4 &&& 31)) N) (nI (yeM x)) (V 0 5)) N (R + 1)) + 40 ≤ FA V N R + 1700 := by have := FA_sta (C := V) (f := (bel (x >>> (nI 4 &&& 31)) N)) (R := R) (y := nI (yeM x)) (h := V 0 5) H.N12; split <;> omega
    refine ⟨(if 8 ≤ R then FA V N R else FA (staR V (43 + 10 * R) (bel (x >>> (nI 4 &&& 31)) N) (nI (yeM x)) (V 0 5)) N (R + 1)), hF, fun {g X T L k} hk hM hT => c_act0 HT H ?_⟩
    rw [he]
    exact j_swIn dL_act_31 (by decide +kernel) (by decide +kernel) (off := 608) (by decide +kernel) (tgt := 639) (by decide) (c_astarts HT H hf (by omega) (by omega) (by omega) hM (fun n1 s1 V1 h => hT n1 s1 V1 (h.le (by omega))))
  · have hF : (if 8 ≤ R then FA V N R else FA (staR V (43 + 10 * R) (bel (x >>> (nI 4 &&& 31)) N) (nI (yeM x)) (V 0 5)) N (R + 1)) + 40 ≤ FA V N R + 1700 := by have := FA_sta (C := V) (f := (bel (x >>> (nI 4 &&& 31)) N)) (R := R) (y := nI (yeM x)) (h := V 0 5) H.N12; split <;> omega
    refine ⟨(if 8 ≤ R then FA V N R else FA (staR V (43 + 10 * R) (bel (x >>> (nI 4 &&& 31)) N) (nI (yeM x)) (V 0 5)) N (R + 1)), hF, fun {g X T L k} hk hM hT => c_act0 HT H ?_⟩
    rw [he]
    exact j_swIn dL_act_31 (by decide +kernel) (by decide +kernel) (off := 608) (by decide +kernel) (tgt := 639) (by decide) (c_astarts HT H hf (by omega) (by omega) (by omega) hM (fun n1 s1 V1 h => hT n1 s1 V1 (h.le (by omega))))
  · have hF : (deF V N R (bel (x >>> (nI 4 &&& 31)) N) x) + 40 ≤ FA V N R + 1700 := by have := FA_de (C := V) (f := (bel (x >>> (nI 4 &&& 31)) N)) (j := bel (x >>> (nI 6 &&& 31)) R) (N := N) (R := R) (h := V 0 5); unfold deF; split; omega; split <;> omega
    refine ⟨(deF V N R (bel (x >>> (nI 4 &&& 31)) N) x), hF, fun {g X T L k} hk hM hT => c_act0 HT H ?_⟩
    rw [he]
    exact j_swIn dL_act_31 (by decide +kernel) (by decide +kernel) (off := 687) (by decide +kernel) (tgt := 718) (by decide) (c_adeny HT H hf (by omega) (by omega) (by omega) hM (fun n1 s1 V1 h => hT n1 s1 V1 (h.le (by omega))))
  · have hF : (deF V N R (bel (x >>> (nI 4 &&& 31)) N) x) + 40 ≤ FA V N R + 1700 := by have := FA_de (C := V) (f := (bel (x >>> (nI 4 &&& 31)) N)) (j := bel (x >>> (nI 6 &&& 31)) R) (N := N) (R := R) (h := V 0 5); unfold deF; split; omega; split <;> omega
    refine ⟨(deF V N R (bel (x >>> (nI 4 &&& 31)) N) x), hF, fun {g X T L k} hk hM hT => c_act0 HT H ?_⟩
    rw [he]
    exact j_swIn dL_act_31 (by decide +kernel) (by decide +kernel) (off := 687) (by decide +kernel) (tgt := 718) (by decide) (c_adeny HT H hf (by omega) (by omega) (by omega) hM (fun n1 s1 V1 h => hT n1 s1 V1 (h.le (by omega))))
  · refine ⟨FA (ouV N R (hoQ x) V) N R, by omega, fun {g X T L k} hk hM hT => c_act0 HT H ?_⟩
    exact j_swOut dL_act_31 (Or.inr (by have := bel_lt (x := x) (m := 20) (by decide); rw [nI_toInt (by omega)]; omega)) (tgt := 832) (by decide) (c_apass HT H ht (by omega) hM hT)