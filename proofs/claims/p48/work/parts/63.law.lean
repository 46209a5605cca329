/-! ===== the law: the looks, the rounds, the whole ===== -/
theorem EqX_tri {V : Nat → Nat → Int32} {N j : Nat} : EqX (triV V N j) V := EqX_of (fun q _ h3 => triV_out (by omega))
theorem EqX_triD {V : Nat → Nat → Int32} {N j f : Nat} : EqX (triD V N j f) V := EqX_of (fun q _ h3 => triD_out (by omega))
theorem EqX_bd {V : Nat → Nat → Int32} {N j : Nat} : EqX (bdV N j (N - 1) 1 (triD V N j 0)) V := EqX_of (fun q _ h3 => by rw [bdV_out (by omega), triD_out (by omega)])
set_option maxHeartbeats 4000000 in
set_option maxRecDepth 100000 in
theorem c_lw812 {g : jv_G} {X : jv_X} {L : Nat → Nat → Int64} {k : Nat} {sx : Nat → jv_S} {n i : Nat} {x : Int32} {d : Int64} {V W : (Nat → Nat → Int32)} {N K R t j f be M0 : Nat} {wd en qu : Int32} (HT : TS V N K R t) (hRP : ∃ tg pl, REP tg pl n (SH sx) V V N K R) (hWX : EqX W V) (hd : ∀ V', EqB N V' V → (dgX V' N K R).2 = d) (ht : t + 100 < 2 ^ 29) (hj : j < R) (hf : f < N) (hk : FA V N R + M0 ≤ k) (hwd : ∀ V4 f', EqB N V4 V → f' < N → f' = f → ouV N R 100 V4 (43 + 10 * j + 2) f' = wd) (hen : ∀ V4, EqB N V4 V → hbL (ouV N R 100 V4) (43 + 10 * j) N 0 (nI 0) = en) (hqu : ∃ q, qu = qtI q ∧ ∀ V4, EqB N V4 V → q ≤ 100 → underWayL (ouV N R q V4) j N 0 0 = 0) (hqle : qu ≤ nI 100) (kk : ∀ (V9 : (Nat → Nat → Int32)) (n9 : Nat) (sx9 : Nat → jv_S) (k9 : Nat), (TS V9 N K R (t + 100) ∧ ∃ tg pl, REP tg pl n9 (SH sx9) V9 V9 N K R) → FA V9 N R + M0 ≤ k9 → jv_J g X I_L_law 1033 [some (.ref (scB g)), some (jv_r g 0), some (jv_r g 123), some (.int (nI i)), none, none, none, none, none, none, none, none, none, none, none, none, none, none, none] [] n9 (SH sx9) V9 L k9 (20 * k9)) : jv_J g X I_L_law 812 [some (.ref (scB g)), some (jv_r g 0), some (jv_r g 123), some (.int (nI i)), some (.int x), some (.long d), none, some (.int (nI N)), some (.int (nI R)), some (.int (nI j)), some (.int (nI f)), some (.int wd), some (.int (nI be)), some (.int en), some (.int qu), none, none, none, none] [] n (SH sx) W L k (20 * k) := by
  have hN2 := HT.N2
  have hN12 := HT.N12
  have hR8 := HT.R8
  have hWV : EqB N W V := hWX.1.b hN12
  have HW : TS W N K R t := HT.eqB hWV
  refine j_aload_n_1 dL_law_812 ?_
  refine C_L_120  rfl (by decide) dL_law_813 sk_0 (Nat.le_of_ble_eq_true rfl) (Nat.le_of_eq (Nat.zero_add _)) (Nat.le_of_eq (Nat.zero_add _)) (fun _ _ hM' hT' => g_digest HW.ct HW.rn HW.op hM' hT') ?_
  refine j_topl (hd W hWV) ?_
  have hg := HW.dig (by omega)
  refine jv_any (fun Y => (TS Y N K R t ∧ EqB N Y V) ∧ ∀ q, 123 ≤ q → Y q = V q) ⟨⟨hg.1, hg.2.trans hWV⟩, fun q hq => (HW.hi.1 q hq).trans (hWX.2 q hq)⟩ (fun Y hY3 => ?_)
  obtain ⟨hY, hYh⟩ := hY3
  refine j_lload_5 dL_law_816 ?_
  refine j_lcmp dL_law_818 ?_
  refine j_if_eq (tgt := 824) dL_law_819 (by decide) (fun h819 => ?_) (fun h819 => ?_)
  · refine j_aload_n_1 dL_law_824 ?_
    refine j_iload_9 dL_law_825 ?_
    refine C_L_198  rfl (by decide) dL_law_827 sk_0 (Nat.le_of_ble_eq_true rfl) (Nat.le_of_eq (Nat.zero_add _)) (Nat.le_of_eq (Nat.zero_add _)) (fun _ _ hM' hT' => g_bestStairsToShut hY.1.ct hj hM' hT') ?_
    obtain ⟨z1, z2, z3⟩ := hY.1.shut (by omega) hj
    generalize (bsL N K j (N - 1) 0 (triV Y N j) none (hbL (triV Y N j) 33 N 0 (nI 0))).2 = bo at z3 ⊢
    refine jv_any (fun Z => TS Z N K R t ∧ EqB N Z Y ∧ ∀ q, 123 ≤ q → Z q = V q) ⟨z1, z2, fun q hq => (hY.1.hi.2 j q hq).trans (hYh q hq)⟩ (fun Z4 hZ => ?_)
    have hZB : EqB N Z4 V := hZ.2.1.trans hY.2
    obtain ⟨tg, pl, H⟩ := hRP
    have hREP : ∃ tg pl, REP tg pl n (SH sx) Z4 Z4 N K R := ⟨tg, pl, H.eqB hZB hZ.2.2⟩
    refine j_istore_15 rfl (by decide) dL_law_830 ?_
    refine j_iload_15 dL_law_832 ?_
    refine j_iload_7 dL_law_834 ?_
    refine j_iconst (v := nI 1) dL_law_836 nc_iconst_1 ?_
    refine j_isubN (by omega) dL_law_837 ?_
    refine j_ic_ge (tgt := 874) dL_law_838 (by decide) (fun h838 => ?_) (fun h838 => ?_)
    · cases bo with
      | none => exact absurd h838 (not_le_m1 (by omega))
      | some c => exact absurd ((nI_leI (by omega) (by have := (z3 c rfl).1; omega)).mp h838) (by have := (z3 c rfl).1; omega)
    · refine j_iload_15 dL_law_841 ?_
      refine j_if_lt (tgt := 855) dL_law_843 (by decide) (fun h843 => ?_) (fun h843 => ?_)
      · refine j_iload_11 dL_law_855 ?_
        refine j_aload_n_1 dL_law_857 ?_
        have hS0 := fun s hs => (hZ.1).heard (s := s) hj hf hs ht
        have hwZ := hwd Z4 f hZB hf rfl
        refine C_L_168  rfl (by decide) dL_law_858 sk_0 (Nat.le_of_ble_eq_true rfl) (Nat.le_of_eq (Nat.zero_add _)) (Nat.le_of_eq (Nat.zero_add _)) (fun _ _ hM' hT' => g_hours hZ.1.ct hM' hT') ?_
        refine j_top (y := nI t) hZ.1.h ?_
        refine j_bipush (v := nI 100) dL_law_861 nc_bipush_100 ?_
        refine j_iaddN dL_law_863 ?_
        refine j_ic_ge (tgt := 874) dL_law_864 (by decide) (fun h864 => ?_) (fun h864 => ?_)
        · rcases hS0 0 (by omega) with ⟨-, b⟩ | ⟨a, -, b, -, b2⟩
          · rcases b with b | ⟨a, b, -, b2⟩
            · rw [← hwZ, b] at h864
              exact absurd h864 (not_le_m1 (by omega))
            · rw [← hwZ, b] at h864
              exact absurd h864 (nI_ge b2 (by omega))
          · rw [← hwZ, b] at h864
            exact absurd h864 (nI_ge b2 (by omega))
        · refine j_iload_14 dL_law_867 ?_
          refine j_bipush (v := nI 100) dL_law_869 nc_bipush_100 ?_
          refine j_ic_le (tgt := 876) dL_law_871 (by decide) (fun h871 => ?_) (fun h871 => ?_)
          · refine j_aload_n_1 dL_law_876 ?_
            refine C_L_168  rfl (by decide) dL_law_877 sk_0 (Nat.le_of_ble_eq_true rfl) (Nat.le_of_eq (Nat.zero_add _)) (Nat.le_of_eq (Nat.zero_add _)) (fun _ _ hM' hT' => g_hours hZ.1.ct hM' hT') ?_
            refine j_top (y := nI t) hZ.1.h ?_
            refine j_istore_16 rfl (by decide) dL_law_880 ?_
            refine j_iconst (v := nI 0) dL_law_882 nc_iconst_0 ?_
            refine j_istore_17 rfl (by decide) dL_law_883 ?_
            refine jv_drop 12 (jv_drop 15 (c_lw885 (Z := Z4) (M0 := M0) ht hj hf (fun s hs => by rw [← hwZ]; exact hS0 s hs) (by obtain ⟨q, q1, q2⟩ := hqu; exact ⟨q, q1, q2 Z4 hZB⟩) 101 0 Z4 n sx k (by omega) (by omega) ⟨fun q _ => rfl, hZ.1, hREP⟩ (by rw [FA_eqB hR8 hZB]; exact hk) ?_))
            intro V9 n9 sx9 k9 hHS hF9
            obtain ⟨hag9, HT9, tg9, pl9, H9⟩ := hHS
            refine j_aload_n_1 dL_law_995 ?_
            refine j_iload_9 dL_law_996 ?_
            refine C_L_174  rfl (by decide) dL_law_998 sk_0 (Nat.le_of_ble_eq_true rfl) (Nat.le_of_eq (Nat.zero_add _)) (Nat.le_of_eq (Nat.zero_add _)) (fun _ _ hM' hT' => g_believers HT9.ct hj hM' hT') ?_
            refine j_top (y := en) (by rw [hb_cg (hag9 _ (by omega)) (hag9 2 (by omega)) N 0 (nI 0)]; exact hen Z4 hZB) ?_
            refine j_iload_13 dL_law_1001 ?_
            refine j_ic_ne (tgt := 1031) dL_law_1003 (by decide) (fun h1003 => ?_) (fun h1003 => ?_)
            · exact absurd rfl h1003
            · refine j_aload_n_1 dL_law_1006 ?_
              refine j_iload_9 dL_law_1007 ?_
              refine j_iload_10 dL_law_1009 ?_
              refine C_L_153  rfl (by decide) dL_law_1011 sk_0 (Nat.le_of_ble_eq_true rfl) (Nat.le_of_eq (Nat.zero_add _)) (Nat.le_of_eq (Nat.zero_add _)) (fun _ _ hM' hT' => g_heardAt HT9.ct hj hf hM' hT') ?_
              refine j_top (y := wd) ((congrFun (hag9 (43 + 10 * j + 2) (by omega)) f).trans (hwd Z4 f hZB hf rfl)) ?_
              refine j_iload_11 dL_law_1014 ?_
              refine j_ic_ne (tgt := 1031) dL_law_1016 (by decide) (fun h1016 => ?_) (fun h1016 => ?_)
              · exact absurd rfl h1016
              · refine j_aload_n_1 dL_law_1019 ?_
                refine C_L_168  rfl (by decide) dL_law_1020 sk_0 (Nat.le_of_ble_eq_true rfl) (Nat.le_of_eq (Nat.zero_add _)) (Nat.le_of_eq (Nat.zero_add _)) (fun _ _ hM' hT' => g_hours HT9.ct hM' hT') ?_
                refine j_top (y := nI (t + 100)) HT9.h ?_
                refine j_iload_16 dL_law_1023 ?_
                refine j_bipush (v := nI 100) dL_law_1025 nc_bipush_100 ?_
                refine j_iaddN dL_law_1027 ?_
                refine j_ic_eqN (by omega) (by omega) (tgt := 1033) dL_law_1028 (by decide) (fun h1028 => ?_) (fun h1028 => ?_)
                · exact jv_drop 4 (jv_drop 5 (jv_drop 6 (jv_drop 7 (jv_drop 8 (jv_drop 9 (jv_drop 10 (jv_drop 11 (jv_drop 12 (jv_drop 13 (jv_drop 14 (jv_drop 15 (jv_drop 16 (jv_drop 17 (jv_drop 18 (kk V9 n9 sx9 k9 ⟨HT9, tg9, pl9, H9⟩ hF9)))))))))))))))
                · exact absurd rfl h1028
          · exact absurd hqle h871
      · rcases bo with _ | c
        · exact absurd m1neg h843
        obtain ⟨c1, c2⟩ := z3 c rfl
        refine j_aload_n_1 dL_law_846 ?_
        refine j_iload_15 dL_law_847 ?_
        refine C_L_201  rfl (by decide) dL_law_849 sk_0 (Nat.le_of_ble_eq_true rfl) (Nat.le_of_eq (Nat.zero_add _)) (Nat.le_of_eq (Nat.zero_add _)) (fun _ _ hM' hT' => g_isOpen (f := c) hZ.1.ct (by omega) (hZ.1.op c (by omega)) hM' hT') ?_
        refine j_if_eq (tgt := 874) dL_law_852 (by decide) (fun h852 => ?_) (fun h852 => ?_)
        · exact absurd ((congrFun (hZ.2.1.1 5 (by omega) (by omega) (by omega) (by omega)) c).symm.trans h852) c2
        · refine j_iload_11 dL_law_855 ?_
          refine j_aload_n_1 dL_law_857 ?_
          have hS0 := fun s hs => (hZ.1).heard (s := s) hj hf hs ht
          have hwZ := hwd Z4 f hZB hf rfl
          refine C_L_168  rfl (by decide) dL_law_858 sk_0 (Nat.le_of_ble_eq_true rfl) (Nat.le_of_eq (Nat.zero_add _)) (Nat.le_of_eq (Nat.zero_add _)) (fun _ _ hM' hT' => g_hours hZ.1.ct hM' hT') ?_
          refine j_top (y := nI t) hZ.1.h ?_
          refine j_bipush (v := nI 100) dL_law_861 nc_bipush_100 ?_
          refine j_iaddN dL_law_863 ?_
          refine j_ic_ge (tgt := 874) dL_law_864 (by decide) (fun h864 => ?_) (fun h864 => ?_)
          · rcases hS0 0 (by omega) with ⟨-, b⟩ | ⟨a, -, b, -, b2⟩
            · rcases b with b | ⟨a, b, -, b2⟩
              · rw [← hwZ, b] at h864
                exact absurd h864 (not_le_m1 (by omega))
              · rw [← hwZ, b] at h864
                exact absurd h864 (nI_ge b2 (by omega))
            · rw [← hwZ, b] at h864
              exact absurd h864 (nI_ge b2 (by omega))
          · refine j_iload_14 dL_law_867 ?_
            refine j_bipush (v := nI 100) dL_law_869 nc_bipush_100 ?_
            refine j_ic_le (tgt := 876) dL_law_871 (by decide) (fun h871 => ?_) (fun h871 => ?_)
            · refine j_aload_n_1 dL_law_876 ?_
              refine C_L_168  rfl (by decide) dL_law_877 sk_0 (Nat.le_of_ble_eq_true rfl) (Nat.le_of_eq (Nat.zero_add _)) (Nat.le_of_eq (Nat.zero_add _)) (fun _ _ hM' hT' => g_hours hZ.1.ct hM' hT') ?_
              refine j_top (y := nI t) hZ.1.h ?_
              refine j_istore_16 rfl (by decide) dL_law_880 ?_
              refine j_iconst (v := nI 0) dL_law_882 nc_iconst_0 ?_
              refine j_istore_17 rfl (by decide) dL_law_883 ?_
              refine jv_drop 12 (jv_drop 15 (c_lw885 (Z := Z4) (M0 := M0) ht hj hf (fun s hs => by rw [← hwZ]; exact hS0 s hs) (by obtain ⟨q, q1, q2⟩ := hqu; exact ⟨q, q1, q2 Z4 hZB⟩) 101 0 Z4 n sx k (by omega) (by omega) ⟨fun q _ => rfl, hZ.1, hREP⟩ (by rw [FA_eqB hR8 hZB]; exact hk) ?_))
              intro V9 n9 sx9 k9 hHS hF9
              obtain ⟨hag9, HT9, tg9, pl9, H9⟩ := hHS
              refine j_aload_n_1 dL_law_995 ?_
              refine j_iload_9 dL_law_996 ?_
              refine C_L_174  rfl (by decide) dL_law_998 sk_0 (Nat.le_of_ble_eq_true rfl) (Nat.le_of_eq (Nat.zero_add _)) (Nat.le_of_eq (Nat.zero_add _)) (fun _ _ hM' hT' => g_believers HT9.ct hj hM' hT') ?_
              refine j_top (y := en) (by rw [hb_cg (hag9 _ (by omega)) (hag9 2 (by omega)) N 0 (nI 0)]; exact hen Z4 hZB) ?_
              refine j_iload_13 dL_law_1001 ?_
              refine j_ic_ne (tgt := 1031) dL_law_1003 (by decide) (fun h1003 => ?_) (fun h1003 => ?_)
              · exact absurd rfl h1003
              · refine j_aload_n_1 dL_law_1006 ?_
                refine j_iload_9 dL_law_1007 ?_
                refine j_iload_10 dL_law_1009 ?_
                refine C_L_153  rfl (by decide) dL_law_1011 sk_0 (Nat.le_of_ble_eq_true rfl) (Nat.le_of_eq (Nat.zero_add _)) (Nat.le_of_eq (Nat.zero_add _)) (fun _ _ hM' hT' => g_heardAt HT9.ct hj hf hM' hT') ?_
                refine j_top (y := wd) ((congrFun (hag9 (43 + 10 * j + 2) (by omega)) f).trans (hwd Z4 f hZB hf rfl)) ?_
                refine j_iload_11 dL_law_1014 ?_
                refine j_ic_ne (tgt := 1031) dL_law_1016 (by decide) (fun h1016 => ?_) (fun h1016 => ?_)
                · exact absurd rfl h1016
                · refine j_aload_n_1 dL_law_1019 ?_
                  refine C_L_168  rfl (by decide) dL_law_1020 sk_0 (Nat.le_of_ble_eq_true rfl) (Nat.le_of_eq (Nat.zero_add _)) (Nat.le_of_eq (Nat.zero_add _)) (fun _ _ hM' hT' => g_hours HT9.ct hM' hT') ?_
                  refine j_top (y := nI (t + 100)) HT9.h ?_
                  refine j_iload_16 dL_law_1023 ?_
                  refine j_bipush (v := nI 100) dL_law_1025 nc_bipush_100 ?_
                  refine j_iaddN dL_law_1027 ?_
                  refine j_ic_eqN (by omega) (by omega) (tgt := 1033) dL_law_1028 (by decide) (fun h1028 => ?_) (fun h1028 => ?_)
                  · exact jv_drop 4 (jv_drop 5 (jv_drop 6 (jv_drop 7 (jv_drop 8 (jv_drop 9 (jv_drop 10 (jv_drop 11 (jv_drop 12 (jv_drop 13 (jv_drop 14 (jv_drop 15 (jv_drop 16 (jv_drop 17 (jv_drop 18 (kk V9 n9 sx9 k9 ⟨HT9, tg9, pl9, H9⟩ hF9)))))))))))))))
                  · exact absurd rfl h1028
            · exact absurd hqle h871
  · exact absurd (lg_self d) h819

set_option maxHeartbeats 4000000 in
set_option maxRecDepth 100000 in
theorem c_lw710 {g : jv_G} {X : jv_X} {L : Nat → Nat → Int64} {k : Nat} {sx : Nat → jv_S} {n i : Nat} {x : Int32} {d : Int64} {V : (Nat → Nat → Int32)} {N K R t M0 : Nat} (HT : TS V N K R t) (hRP : ∃ tg pl, REP tg pl n (SH sx) V V N K R) (hd : ∀ V', EqB N V' V → (dgX V' N K R).2 = d) (ht : t + 100 < 2 ^ 29) (hR0 : 0 < R) (hk : FA V N R + M0 ≤ k) (kk : ∀ (V9 : (Nat → Nat → Int32)) (n9 : Nat) (sx9 : Nat → jv_S) (k9 : Nat), (TS V9 N K R (t + 100) ∧ ∃ tg pl, REP tg pl n9 (SH sx9) V9 V9 N K R) → FA V9 N R + M0 ≤ k9 → jv_J g X I_L_law 1033 [some (.ref (scB g)), some (jv_r g 0), some (jv_r g 123), some (.int (nI i)), none, none, none, none, none, none, none, none, none, none, none, none, none, none, none] [] n9 (SH sx9) V9 L k9 (20 * k9)) : jv_J g X I_L_law 710 [some (.ref (scB g)), some (jv_r g 0), some (jv_r g 123), some (.int (nI i)), some (.int x), some (.long d), none, some (.int (nI N)), some (.int (nI R)), some (.int (nI R)), none, none, none, none, none, none, none, none, none] [] n (SH sx) V L k (20 * k) := by
  have hN2 := HT.N2
  have hN12 := HT.N12
  have hK4 := HT.K4
  have hR8 := HT.R8
  refine j_iload_4 dL_law_710 ?_
  refine j_iconst (v := nI 5) dL_law_712 nc_iconst_5 ?_
  refine j_ishr dL_law_713 ?_
  refine j_iload_8 dL_law_714 ?_
  refine C_L_15  rfl (by decide) dL_law_716 (Nat.le_of_ble_eq_true rfl) (Nat.le_of_eq (Nat.zero_add _)) (Nat.le_of_eq (Nat.zero_add _)) (fun _ _ hM' hT' => c_below (m := R) (by omega) (by omega) hM' hT') ?_
  have hj : bel (x >>> (nI 5 &&& 31)) R < R := bel_lt hR0
  generalize bel (x >>> (nI 5 &&& 31)) R = j at hj ⊢
  refine j_istore_9 rfl (by decide) dL_law_719 ?_
  refine j_iload_4 dL_law_721 ?_
  refine j_bipush (v := nI 7) dL_law_723 nc_bipush_7 ?_
  refine j_ishr dL_law_725 ?_
  refine j_iload_7 dL_law_726 ?_
  refine C_L_15  rfl (by decide) dL_law_728 (Nat.le_of_ble_eq_true rfl) (Nat.le_of_eq (Nat.zero_add _)) (Nat.le_of_eq (Nat.zero_add _)) (fun _ _ hM' hT' => c_below (m := N) (by omega) (by omega) hM' hT') ?_
  have hf : bel (x >>> (nI 7 &&& 31)) N < N := bel_lt (by omega)
  generalize bel (x >>> (nI 7 &&& 31)) N = f at hf ⊢
  refine j_istore_10 rfl (by decide) dL_law_731 ?_
  refine j_aload_n_1 dL_law_733 ?_
  refine j_iload_9 dL_law_734 ?_
  refine j_iload_10 dL_law_736 ?_
  refine C_L_183  rfl (by decide) dL_law_738 sk_0 (Nat.le_of_ble_eq_true rfl) (Nat.le_of_eq (Nat.zero_add _)) (Nat.le_of_eq (Nat.zero_add _)) (fun _ _ hM' hT' => g_wouldHear HT.ct hj hf hM' hT') ?_
  have hwd := (HT.ahead2 EqB.refl ht hj).1
  have hwf : ∀ V4 f', EqB N V4 V → f' = f → ouV N R 100 V4 (43 + 10 * j + 2) f' = triV V N j 35 f := fun V4 f' a b => by rw [b]; exact hwd V4 f a hf
  generalize triV V N j 35 f = wd at hwf ⊢
  clear hwd
  have hwd : ∀ V4 f', EqB N V4 V → f' < N → f' = f → ouV N R 100 V4 (43 + 10 * j + 2) f' = wd := fun V4 f' a _ b => hwf V4 f' a b
  refine jv_any (fun U => EqX U V) EqX_tri (fun U hU => ?_)
  refine j_istore_11 rfl (by decide) dL_law_741 ?_
  refine j_aload_n_1 dL_law_743 ?_
  refine j_iload_9 dL_law_744 ?_
  refine C_L_186  rfl (by decide) dL_law_746 sk_0 (Nat.le_of_ble_eq_true rfl) (Nat.le_of_eq (Nat.zero_add _)) (Nat.le_of_eq (Nat.zero_add _)) (fun _ _ hM' hT' => g_bestDenial (HT.eq hU.1).ct hj hM' hT') ?_
  obtain ⟨bw, hbw, hbN, hbm⟩ := (HT.eq hU.1).best (by omega) hj
  generalize bdB N j (N - 1) 1 (triD U N j 0) 0 (hbL (triD U N j 0) 33 N 0 (nI 0)) = be at hbN hbm ⊢
  refine jv_any (fun W => EqX W U) EqX_bd (fun W hW => ?_)
  refine j_istore_12 rfl (by decide) dL_law_749 ?_
  refine j_aload_n_1 dL_law_751 ?_
  refine j_iload_9 dL_law_752 ?_
  refine C_L_189  rfl (by decide) dL_law_754 sk_0 (Nat.le_of_ble_eq_true rfl) (Nat.le_of_eq (Nat.zero_add _)) (Nat.le_of_eq (Nat.zero_add _)) (fun _ _ hM' hT' => g_believersInTheEnd (HT.eq (hW.trans hU).1).ct hj hM' hT') ?_
  have hen := (HT.ahead2 ((hW.trans hU).1.b hN12) ht hj).2.1
  generalize hbL (triV W N j) 33 N 0 (nI 0) = en at hen ⊢
  refine jv_any (fun W => EqX W U) (EqX_tri.trans hW) (fun W hW => ?_)
  refine j_istore_13 rfl (by decide) dL_law_757 ?_
  refine j_aload_n_1 dL_law_759 ?_
  refine j_iload_9 dL_law_760 ?_
  refine C_L_192  rfl (by decide) dL_law_762 sk_0 (Nat.le_of_ble_eq_true rfl) (Nat.le_of_eq (Nat.zero_add _)) (Nat.le_of_eq (Nat.zero_add _)) (fun _ _ hM' hT' => g_quietIn (HT.eq (hW.trans hU).1).ct hj hM' hT') ?_
  have hqu := (HT.ahead2 ((hW.trans hU).1.b hN12) ht hj).2.2
  have hqle : qtR W N j ≤ nI 100 := by
    obtain ⟨q, q1, -⟩ := hqu
    rw [q1]
    exact qtI_le
  generalize qtR W N j = qu at hqu hqle ⊢
  refine jv_any (fun W => EqX W U) (EqX_tri.trans hW) (fun W hW => ?_)
  refine j_istore_14 rfl (by decide) dL_law_765 ?_
  refine j_aload_n_1 dL_law_767 ?_
  refine j_iload_9 dL_law_768 ?_
  refine j_iload_12 dL_law_770 ?_
  refine C_L_195  rfl (by decide) dL_law_772 sk_0 (Nat.le_of_ble_eq_true rfl) (Nat.le_of_eq (Nat.zero_add _)) (Nat.le_of_eq (Nat.zero_add _)) (fun _ _ hM' hT' => g_believersWith (HT.eq (hW.trans hU).1).ct hj hbN hM' hT') ?_
  refine j_top (y := bw be) (hbw W be hW.1 hbN) ?_
  refine jv_any (fun W => EqX W U) (EqX_triD.trans hW) (fun W hW => ?_)
  refine j_aload_n_1 dL_law_775 ?_
  refine j_iload_9 dL_law_776 ?_
  refine j_iload_10 dL_law_778 ?_
  refine C_L_195  rfl (by decide) dL_law_780 sk_0 (Nat.le_of_ble_eq_true rfl) (Nat.le_of_eq (Nat.zero_add _)) (Nat.le_of_eq (Nat.zero_add _)) (fun _ _ hM' hT' => g_believersWith (HT.eq (hW.trans hU).1).ct hj hf hM' hT') ?_
  refine j_top (y := bw f) (hbw W f hW.1 hf) ?_
  refine jv_any (fun W => EqX W U) (EqX_triD.trans hW) (fun W hW => ?_)
  refine j_ic_gt (tgt := 822) dL_law_783 (by decide) (fun h783 => ?_) (fun h783 => ?_)
  · exact absurd h783 (Int32.not_lt.mpr (hbm f hf).1)
  · refine j_iload_10 dL_law_786 ?_
    refine j_iload_12 dL_law_788 ?_
    refine j_ic_geN (by omega) (by omega) (tgt := 812) dL_law_790 (by decide) (fun h790 => ?_) (fun h790 => ?_)
    · exact c_lw812 HT hRP (hW.trans hU) hd ht hj hf hk hwd hen hqu hqle kk
    · refine j_aload_n_1 dL_law_793 ?_
      refine j_iload_9 dL_law_794 ?_
      refine j_iload_12 dL_law_796 ?_
      refine C_L_195  rfl (by decide) dL_law_798 sk_0 (Nat.le_of_ble_eq_true rfl) (Nat.le_of_eq (Nat.zero_add _)) (Nat.le_of_eq (Nat.zero_add _)) (fun _ _ hM' hT' => g_believersWith (HT.eq (hW.trans hU).1).ct hj hbN hM' hT') ?_
      refine j_top (y := bw be) (hbw W be hW.1 hbN) ?_
      refine jv_any (fun W => EqX W U) (EqX_triD.trans hW) (fun W hW => ?_)
      refine j_aload_n_1 dL_law_801 ?_
      refine j_iload_9 dL_law_802 ?_
      refine j_iload_10 dL_law_804 ?_
      refine C_L_195  rfl (by decide) dL_law_806 sk_0 (Nat.le_of_ble_eq_true rfl) (Nat.le_of_eq (Nat.zero_add _)) (Nat.le_of_eq (Nat.zero_add _)) (fun _ _ hM' hT' => g_believersWith (HT.eq (hW.trans hU).1).ct hj hf hM' hT') ?_
      refine j_top (y := bw f) (hbw W f hW.1 hf) ?_
      refine jv_any (fun W => EqX W U) (EqX_triD.trans hW) (fun W hW => ?_)
      refine j_ic_eq (tgt := 822) dL_law_809 (by decide) (fun h809 => ?_) (fun h809 => ?_)
      · exact absurd h809.symm ((hbm f hf).2 (by omega))
      · exact c_lw812 HT hRP (hW.trans hU) hd ht hj hf hk hwd hen hqu hqle kk
