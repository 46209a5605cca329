/-! ===== the law: the looks and the hundred hours ===== -/
theorem lg_self (x : Int64) : lg_cmp x x = 0 := by
  unfold lg_cmp
  rw [if_neg (by simp [gt_iff_lt, Int64.lt_iff_toInt_lt]), if_pos rfl]
theorem not_le_m1 {x : Nat} (h : x < 2 ^ 31) : ¬ nI x ≤ -1 := fun c => nI_pos h (Int32.lt_of_le_of_lt c m1neg)
theorem qtI_le {q : Nat} : qtI q ≤ nI 100 := by
  unfold qtI
  split
  · exact m1le (by decide)
  · exact nI_le (by omega) (by decide)
/-- the state in the hundred hours, hour s of them -/
def HS (Z : Nat → Nat → Int32) (N K R t s n : Nat) (sx : Nat → jv_S) (V : Nat → Nat → Int32) : Prop := Ag V (ouV N R s Z) ∧ TS V N K R (t + s) ∧ ∃ tg pl, REP tg pl n (SH sx) V V N K R
set_option maxHeartbeats 4000000 in
set_option maxRecDepth 100000 in
theorem c_lw908n {g : jv_G} {X : jv_X} {L : Nat → Nat → Int64} {z : Nat} {i : Nat} {x : Int32} {d : Int64} {k : Nat} {sx : Nat → jv_S} {n : Nat} {V : (Nat → Nat → Int32)} {N K R t s j f : Nat} {wd en qu : Int32} (HT : TS V N K R (t + s)) (ht : t + 100 < 2 ^ 29) (hs100 : s ≤ 100) (hj : j < R) (hf : f < N) (hs : V (43 + 10 * j + 2) f = -1) (hw : wd = -1 ∨ ∃ a, wd = nI a ∧ t + s ≤ a ∧ a < t + 100) (kk : jv_J g X I_L_law 962 [some (.ref (scB g)), some (jv_r g 0), some (jv_r g 123), some (.int (nI i)), some (.int x), some (.long d), none, some (.int (nI N)), some (.int (nI R)), some (.int (nI j)), some (.int (nI f)), some (.int wd), none, some (.int en), some (.int qu), none, some (.int (nI t)), some (.int (nI s)), none] [] n (SH sx) V L k z) : jv_J g X I_L_law 908 [some (.ref (scB g)), some (jv_r g 0), some (jv_r g 123), some (.int (nI i)), some (.int x), some (.long d), none, some (.int (nI N)), some (.int (nI R)), some (.int (nI j)), some (.int (nI f)), some (.int wd), none, some (.int en), some (.int qu), none, some (.int (nI t)), some (.int (nI s)), none] [] n (SH sx) V L k z := by
  have hN12 := HT.N12
  
  refine j_aload_n_1 dL_law_908 ?_
  refine j_iload_9 dL_law_909 ?_
  refine j_iload_10 dL_law_911 ?_
  refine C_L_153  rfl (by decide) dL_law_913 sk_0 (Nat.le_of_ble_eq_true rfl) (Nat.le_of_eq (Nat.zero_add _)) (Nat.le_of_eq (Nat.zero_add _)) (fun _ _ hM' hT' => g_heardAt HT.ct hj hf hM' hT') ?_
  refine j_top (y := -1) hs ?_
  refine j_if_lt (tgt := 923) dL_law_916 (by decide) (fun h916 => ?_) (fun h916 => ?_)
  · refine j_iconst (v := nI 0) dL_law_923 nc_iconst_0 ?_
    refine j_iload_11 dL_law_924 ?_
    refine j_if_lt (tgt := 943) dL_law_926 (by decide) (fun h926 => ?_) (fun h926 => ?_)
    · refine j_iconst (v := nI 0) dL_law_943 nc_iconst_0 ?_
      refine j_ic_eqN (by omega) (by omega) (tgt := 962) dL_law_944 (by decide) (fun h944 => ?_) (fun h944 => ?_)
      · exact kk
      · exact absurd rfl h944
    · obtain ⟨a, rfl, ha, ha2⟩ := hw.resolve_left (fun c => h926 (by rw [c]; exact m1neg))
      refine j_iload_11 dL_law_929 ?_
      refine j_iload_16 dL_law_931 ?_
      refine j_iload_17 dL_law_933 ?_
      refine j_iaddN dL_law_935 ?_
      refine j_ic_ge (tgt := 943) dL_law_936 (by decide) (fun h936 => ?_) (fun h936 => ?_)
      · refine j_iconst (v := nI 0) dL_law_943 nc_iconst_0 ?_
        refine j_ic_eqN (by omega) (by omega) (tgt := 962) dL_law_944 (by decide) (fun h944 => ?_) (fun h944 => ?_)
        · exact kk
        · exact absurd rfl h944
      · exact absurd (nI_le ha (by omega)) h936
  · exact absurd m1neg h916

set_option maxHeartbeats 4000000 in
set_option maxRecDepth 100000 in
theorem c_lw908p {g : jv_G} {X : jv_X} {L : Nat → Nat → Int64} {z : Nat} {i : Nat} {x : Int32} {d : Int64} {k : Nat} {sx : Nat → jv_S} {n : Nat} {V : (Nat → Nat → Int32)} {N K R t s j f : Nat} {wd en qu : Int32} (HT : TS V N K R (t + s)) (ht : t + 100 < 2 ^ 29) (hs100 : s ≤ 100) (hj : j < R) (hf : f < N) {a : Nat} (hs : V (43 + 10 * j + 2) f = nI a) (hw : wd = nI a) (ha : a < t + s ∨ a = t) (ha2 : a < t + 100) (kk : jv_J g X I_L_law 962 [some (.ref (scB g)), some (jv_r g 0), some (jv_r g 123), some (.int (nI i)), some (.int x), some (.long d), none, some (.int (nI N)), some (.int (nI R)), some (.int (nI j)), some (.int (nI f)), some (.int wd), none, some (.int en), some (.int qu), none, some (.int (nI t)), some (.int (nI s)), none] [] n (SH sx) V L k z) : jv_J g X I_L_law 908 [some (.ref (scB g)), some (jv_r g 0), some (jv_r g 123), some (.int (nI i)), some (.int x), some (.long d), none, some (.int (nI N)), some (.int (nI R)), some (.int (nI j)), some (.int (nI f)), some (.int wd), none, some (.int en), some (.int qu), none, some (.int (nI t)), some (.int (nI s)), none] [] n (SH sx) V L k z := by
  have hN12 := HT.N12
  subst hw
  refine j_aload_n_1 dL_law_908 ?_
  refine j_iload_9 dL_law_909 ?_
  refine j_iload_10 dL_law_911 ?_
  refine C_L_153  rfl (by decide) dL_law_913 sk_0 (Nat.le_of_ble_eq_true rfl) (Nat.le_of_eq (Nat.zero_add _)) (Nat.le_of_eq (Nat.zero_add _)) (fun _ _ hM' hT' => g_heardAt HT.ct hj hf hM' hT') ?_
  refine j_top (y := nI a) hs ?_
  refine j_if_lt (tgt := 923) dL_law_916 (by decide) (fun h916 => ?_) (fun h916 => ?_)
  · exact absurd h916 (nI_pos (by omega))
  · refine j_iconst (v := nI 1) dL_law_919 nc_iconst_1 ?_
    refine j_goto (tgt := 924) dL_law_920 (by decide) ?_
    refine j_iload_11 dL_law_924 ?_
    refine j_if_lt (tgt := 943) dL_law_926 (by decide) (fun h926 => ?_) (fun h926 => ?_)
    · exact absurd h926 (nI_pos (by omega))
    · refine j_iload_11 dL_law_929 ?_
      refine j_iload_16 dL_law_931 ?_
      refine j_iload_17 dL_law_933 ?_
      refine j_iaddN dL_law_935 ?_
      refine j_ic_geN (by omega) (by omega) (tgt := 943) dL_law_936 (by decide) (fun h936 => ?_) (fun h936 => ?_)
      · refine j_iconst (v := nI 0) dL_law_943 nc_iconst_0 ?_
        refine j_ic_eqN (by omega) (by omega) (tgt := 962) dL_law_944 (by decide) (fun h944 => ?_) (fun h944 => ?_)
        · exact absurd h944 (by decide)
        · have ea : t = a := by omega
          refine j_aload_n_1 dL_law_947 ?_
          refine j_iload_9 dL_law_948 ?_
          refine j_iload_10 dL_law_950 ?_
          refine C_L_153  rfl (by decide) dL_law_952 sk_0 (Nat.le_of_ble_eq_true rfl) (Nat.le_of_eq (Nat.zero_add _)) (Nat.le_of_eq (Nat.zero_add _)) (fun _ _ hM' hT' => g_heardAt HT.ct hj hf hM' hT') ?_
          refine j_top (y := nI a) hs ?_
          refine j_iload_16 dL_law_955 ?_
          refine j_ic_eqN (by omega) (by omega) (tgt := 962) dL_law_957 (by decide) (fun h957 => ?_) (fun h957 => ?_)
          · exact kk
          · exact absurd ea (by omega)
      · refine j_iconst (v := nI 1) dL_law_939 nc_iconst_1 ?_
        refine j_goto (tgt := 944) dL_law_940 (by decide) ?_
        refine j_ic_eqN (by omega) (by omega) (tgt := 962) dL_law_944 (by decide) (fun h944 => ?_) (fun h944 => ?_)
        · exact kk
        · exact absurd rfl h944

theorem c_lw908 {g : jv_G} {X : jv_X} {L : Nat → Nat → Int64} {z : Nat} {i : Nat} {x : Int32} {d : Int64} {k : Nat} {sx : Nat → jv_S} {n : Nat} {V : (Nat → Nat → Int32)} {N K R t s j f : Nat} {wd en qu : Int32} (HT : TS V N K R (t + s)) (ht : t + 100 < 2 ^ 29) (hs100 : s ≤ 100) (hj : j < R) (hf : f < N) (h : (V (43 + 10 * j + 2) f = -1 ∧ (wd = -1 ∨ ∃ a, wd = nI a ∧ t + s ≤ a ∧ a < t + 100)) ∨ ∃ a, V (43 + 10 * j + 2) f = nI a ∧ wd = nI a ∧ (a < t + s ∨ a = t) ∧ a < t + 100) (kk : jv_J g X I_L_law 962 [some (.ref (scB g)), some (jv_r g 0), some (jv_r g 123), some (.int (nI i)), some (.int x), some (.long d), none, some (.int (nI N)), some (.int (nI R)), some (.int (nI j)), some (.int (nI f)), some (.int wd), none, some (.int en), some (.int qu), none, some (.int (nI t)), some (.int (nI s)), none] [] n (SH sx) V L k z) : jv_J g X I_L_law 908 [some (.ref (scB g)), some (jv_r g 0), some (jv_r g 123), some (.int (nI i)), some (.int x), some (.long d), none, some (.int (nI N)), some (.int (nI R)), some (.int (nI j)), some (.int (nI f)), some (.int wd), none, some (.int en), some (.int qu), none, some (.int (nI t)), some (.int (nI s)), none] [] n (SH sx) V L k z := by
  rcases h with ⟨h1, h2⟩ | ⟨a, h1, h2, h3, h4⟩
  · exact c_lw908n HT ht hs100 hj hf h1 h2 kk
  · exact c_lw908p HT ht hs100 hj hf h1 h2 h3 h4 kk
set_option maxHeartbeats 4000000 in
set_option maxRecDepth 100000 in
theorem c_lw885 {g : jv_G} {X : jv_X} {L : Nat → Nat → Int64} {i : Nat} {x : Int32} {d : Int64} {Z : (Nat → Nat → Int32)} {N K R t j f M0 : Nat} {wd en qu : Int32} (ht : t + 100 < 2 ^ 29) (hj : j < R) (hf : f < N) (hwd : ∀ s, s ≤ 100 → (ouV N R s Z (43 + 10 * j + 2) f = -1 ∧ (wd = -1 ∨ ∃ a, wd = nI a ∧ t + s ≤ a ∧ a < t + 100)) ∨ ∃ a, ouV N R s Z (43 + 10 * j + 2) f = nI a ∧ wd = nI a ∧ (a < t + s ∨ a = t) ∧ a < t + 100) (hqu : ∃ q, qu = qtI q ∧ (q ≤ 100 → underWayL (ouV N R q Z) j N 0 0 = 0)) : ∀ (m : Nat) (s : Nat) (V : (Nat → Nat → Int32)) (n : Nat) (sx : Nat → jv_S) (k : Nat), s ≤ 100 → 101 ≤ s + m → HS Z N K R t s n sx V → FA V N R + M0 ≤ k → (kk : ∀ (V : (Nat → Nat → Int32)) (n : Nat) (sx : Nat → jv_S) (k : Nat), HS Z N K R t 100 n sx V → FA V N R + M0 ≤ k → jv_J g X I_L_law 995 [some (.ref (scB g)), some (jv_r g 0), some (jv_r g 123), some (.int (nI i)), some (.int x), some (.long d), none, some (.int (nI N)), some (.int (nI R)), some (.int (nI j)), some (.int (nI f)), some (.int wd), none, some (.int en), some (.int qu), none, some (.int (nI t)), some (.int (nI 100)), none] [] n (SH sx) V L k (20 * k)) → jv_J g X I_L_law 885 [some (.ref (scB g)), some (jv_r g 0), some (jv_r g 123), some (.int (nI i)), some (.int x), some (.long d), none, some (.int (nI N)), some (.int (nI R)), some (.int (nI j)), some (.int (nI f)), some (.int wd), none, some (.int en), some (.int qu), none, some (.int (nI t)), some (.int (nI s)), none] [] n (SH sx) V L k (20 * k) := by
  intro m
  induction m with
  | zero => intro s V n sx k hs100 hm2 hS hk kk; omega
  | succ m ih =>
  intro s V n sx k hs100 hm2 hS hk kk
  obtain ⟨hag, HT, tg, pl, H⟩ := hS
  have hN2 := HT.N2
  have hN12 := HT.N12
  have hK4 := HT.K4
  have hR8 := HT.R8
  have hFm : FA (alV N R V) N R ≤ FA V N R := (hour_all hN12 hK4 hR8 (by omega) HT.2 HT.ce).2.2
  have e2 : V (43 + 10 * j + 2) f = ouV N R s Z (43 + 10 * j + 2) f := congrFun (hag _ (by omega)) f
  refine j_iload_17 dL_law_885 ?_
  refine j_bipush (v := nI 100) dL_law_887 nc_bipush_100 ?_
  refine j_ic_geN (by omega) (by omega) (tgt := 995) dL_law_889 (by decide) (fun h889 => ?_) (fun h889 => ?_)
  · obtain rfl : s = 100 := by omega
    exact kk V n sx k ⟨hag, HT, tg, pl, H⟩ hk
  · refine j_iload_17 dL_law_892 ?_
    refine j_iload_14 dL_law_894 ?_
    refine j_ic_ne (tgt := 908) dL_law_896 (by decide) (fun h896 => ?_) (fun h896 => ?_)
    · refine c_lw908 HT ht (by omega) hj hf (by rw [e2]; exact hwd s (by omega)) ?_
      refine j_aload_n_2 dL_law_962 ?_
      refine C_L_95  rfl (by decide) dL_law_963 H.s (Nat.le_of_ble_eq_true rfl) (Nat.le_of_eq (Nat.zero_add _)) (Nat.le_of_eq (Nat.zero_add _)) (fun _ _ hM' hT' => c_heard H hM' hT') ?_
      refine j_istore_18 rfl (by decide) dL_law_966 ?_
      refine j_aload_n_2 dL_law_968 ?_
      refine Q_L_204 (k' := FA V N R - FA (alV N R V) N R) (z' := 20 * (FA V N R - FA (alV N R V) N R)) (k2 := k - (FA V N R - FA (alV N R V) N R)) (z2 := 20 * (k - (FA V N R - FA (alV N R V) N R))) (P := fun n1 s1 V1 => ∃ tg1 pl1, REP tg1 pl1 n1 s1 V1 (alV N R V) N K R ∧ n ≤ n1 ∧ ∀ q, q < 123 → s1 q = SH sx q ∧ V1 q = V q) rfl (by decide) dL_law_969 H.s (Nat.le_of_ble_eq_true rfl) (by omega) (by omega) (fun _ _ hM' hT' => c_pass (by omega) H HT.ce HT.2 (by omega) hM' hT') (fun n1 s1 V1 hP1 => ?_)
      obtain ⟨tg1, pl1, H1, hn1, hA⟩ := hP1
      obtain ⟨sy, rfl⟩ := SH_ex (fun q hq => (hA q hq).1)
      have hag1 : Ag V1 V := fun q hq => (hA q hq).2
      have HT1 : TS V1 N K R (t + s) := HT.eq hag1.eqv
      have HT2 := HT1.passed (m := 1) (by omega)
      have hao : Ag (ouV N R 1 V1) (alV N R V) := Ag.al hag1 hN12 hR8
      have H2 : REP tg1 pl1 n1 (SH sy) (ouV N R 1 V1) (ouV N R 1 V1) N K R := H1.cls (fun q hq => ouV_hi hR8 hq _ _) (congrFun (hao 0 (by omega)) 5) (fun q hq => hao q (by omega))
      have hF2 : FA (ouV N R 1 V1) N R = FA (alV N R V) N R := FA_cg hR8 (fun q h1 h2 => hao q h2)
      refine j_aload_n_1 dL_law_972 ?_
      refine j_iconst (v := nI 1) dL_law_973 nc_iconst_1 ?_
      refine C_L_102  rfl (by decide) dL_law_974 sk_0 (Nat.le_of_ble_eq_true rfl) (Nat.le_of_eq (Nat.zero_add _)) (Nat.le_of_eq (Nat.zero_add _)) (fun _ _ hM' hT' => g_passHours HT1.ct (m := 1) (by decide) (by decide) hM' hT') ?_
      refine j_aload_n_2 dL_law_977 ?_
      refine C_L_95  rfl (by decide) dL_law_978 H1.s (Nat.le_of_ble_eq_true rfl) (Nat.le_of_eq (Nat.zero_add _)) (Nat.le_of_eq (Nat.zero_add _)) (fun _ _ hM' hT' => c_heard H2 hM' hT') ?_
      refine j_iload_18 dL_law_981 ?_
      refine j_isub dL_law_983 ?_
      refine j_ic_eq (tgt := 989) dL_law_984 (by decide) (fun h984 => ?_) (fun h984 => ?_)
      · refine j_inc1_17 rfl (by decide) dL_law_989 ?_
        refine j_goto (tgt := 885) dL_law_992 (by decide) ?_
        exact jv_drop 18 (ih (s + 1) _ _ _ _ (by omega) (by omega) ⟨fun q hq => (hao q hq).trans ((by rw [ou_s]; exact Ag.al hag hN12 hR8 : Ag (alV N R V) (ouV N R (s + 1) Z)) q hq), HT2, tg1, pl1, H2⟩ (by omega) kk)
      · exact absurd (by rw [HT1.hea (by omega), heaL_cg hag1 R 0 (nI 0) (by omega)]) h984
    · refine j_aload_n_1 dL_law_899 ?_
      refine j_iload_9 dL_law_900 ?_
      refine C_L_180  rfl (by decide) dL_law_902 sk_0 (Nat.le_of_ble_eq_true rfl) (Nat.le_of_eq (Nat.zero_add _)) (Nat.le_of_eq (Nat.zero_add _)) (fun _ _ hM' hT' => g_underWay HT.ct hj hM' hT') ?_
      have huw : underWayL V j N 0 0 = 0 := by
        rw [uw_cg (hag _ (by omega)) (hag _ (by omega)) N 0 0]
        obtain ⟨q, q1, q2⟩ := hqu
        rw [q1] at h896
        unfold qtI at h896
        by_cases c : 100 < q
        · rw [if_pos c] at h896
          exact absurd h896 (nI_nm1 (by omega))
        · rw [if_neg c] at h896
          have := nIi h896 (by omega) (by omega)
          subst this
          exact q2 (by omega)
      rw [huw]
      refine j_if_gt (tgt := 960) dL_law_905 (by decide) (fun h905 => ?_) (fun h905 => ?_)
      · exact absurd h905 (by decide +kernel)
      · refine c_lw908 HT ht (by omega) hj hf (by rw [e2]; exact hwd s (by omega)) ?_
        refine j_aload_n_2 dL_law_962 ?_
        refine C_L_95  rfl (by decide) dL_law_963 H.s (Nat.le_of_ble_eq_true rfl) (Nat.le_of_eq (Nat.zero_add _)) (Nat.le_of_eq (Nat.zero_add _)) (fun _ _ hM' hT' => c_heard H hM' hT') ?_
        refine j_istore_18 rfl (by decide) dL_law_966 ?_
        refine j_aload_n_2 dL_law_968 ?_
        refine Q_L_204 (k' := FA V N R - FA (alV N R V) N R) (z' := 20 * (FA V N R - FA (alV N R V) N R)) (k2 := k - (FA V N R - FA (alV N R V) N R)) (z2 := 20 * (k - (FA V N R - FA (alV N R V) N R))) (P := fun n1 s1 V1 => ∃ tg1 pl1, REP tg1 pl1 n1 s1 V1 (alV N R V) N K R ∧ n ≤ n1 ∧ ∀ q, q < 123 → s1 q = SH sx q ∧ V1 q = V q) rfl (by decide) dL_law_969 H.s (Nat.le_of_ble_eq_true rfl) (by omega) (by omega) (fun _ _ hM' hT' => c_pass (by omega) H HT.ce HT.2 (by omega) hM' hT') (fun n1 s1 V1 hP1 => ?_)
        obtain ⟨tg1, pl1, H1, hn1, hA⟩ := hP1
        obtain ⟨sy, rfl⟩ := SH_ex (fun q hq => (hA q hq).1)
        have hag1 : Ag V1 V := fun q hq => (hA q hq).2
        have HT1 : TS V1 N K R (t + s) := HT.eq hag1.eqv
        have HT2 := HT1.passed (m := 1) (by omega)
        have hao : Ag (ouV N R 1 V1) (alV N R V) := Ag.al hag1 hN12 hR8
        have H2 : REP tg1 pl1 n1 (SH sy) (ouV N R 1 V1) (ouV N R 1 V1) N K R := H1.cls (fun q hq => ouV_hi hR8 hq _ _) (congrFun (hao 0 (by omega)) 5) (fun q hq => hao q (by omega))
        have hF2 : FA (ouV N R 1 V1) N R = FA (alV N R V) N R := FA_cg hR8 (fun q h1 h2 => hao q h2)
        refine j_aload_n_1 dL_law_972 ?_
        refine j_iconst (v := nI 1) dL_law_973 nc_iconst_1 ?_
        refine C_L_102  rfl (by decide) dL_law_974 sk_0 (Nat.le_of_ble_eq_true rfl) (Nat.le_of_eq (Nat.zero_add _)) (Nat.le_of_eq (Nat.zero_add _)) (fun _ _ hM' hT' => g_passHours HT1.ct (m := 1) (by decide) (by decide) hM' hT') ?_
        refine j_aload_n_2 dL_law_977 ?_
        refine C_L_95  rfl (by decide) dL_law_978 H1.s (Nat.le_of_ble_eq_true rfl) (Nat.le_of_eq (Nat.zero_add _)) (Nat.le_of_eq (Nat.zero_add _)) (fun _ _ hM' hT' => c_heard H2 hM' hT') ?_
        refine j_iload_18 dL_law_981 ?_
        refine j_isub dL_law_983 ?_
        refine j_ic_eq (tgt := 989) dL_law_984 (by decide) (fun h984 => ?_) (fun h984 => ?_)
        · refine j_inc1_17 rfl (by decide) dL_law_989 ?_
          refine j_goto (tgt := 885) dL_law_992 (by decide) ?_
          exact jv_drop 18 (ih (s + 1) _ _ _ _ (by omega) (by omega) ⟨fun q hq => (hao q hq).trans ((by rw [ou_s]; exact Ag.al hag hN12 hR8 : Ag (alV N R V) (ouV N R (s + 1) Z)) q hq), HT2, tg1, pl1, H2⟩ (by omega) kk)
        · exact absurd (by rw [HT1.hea (by omega), heaL_cg hag1 R 0 (nI 0) (by omega)]) h984
