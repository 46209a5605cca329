/-! ===== a lift, a rumour more ===== -/
set_option maxHeartbeats 4000000 in
set_option maxRecDepth 100000 in
theorem c_li_loop {g : jv_G} {X : jv_X} {L : Nat → Nat → Int64} {k z : Nat} {N K R : Nat} {tg pl : Nat → Nat} {n0 : Nat} {shA sh1 : Nat → jv_S} {V V0 C : (Nat → Nat → Int32)} (H : REP tg pl n0 shA V0 C N K R) (hK : K < 4) (hS0 : (sh1 123).1 = 7) (hS50 : (sh1 123).2.2 5 = some (pl 7)) (h710 : (sh1 (pl 7)).1 = 15) (h720 : (sh1 (pl 7)).2.1 = K) (h730 : ∀ i, i < K → (sh1 (pl 7)).2.2 i = some (pl (10 + i))) (hE : ∀ i, i < K → (sh1 (pl (10 + i))).1 = 10) (kk : ∀ sh, (∀ q, q ≠ n0 + 1 → sh q = sh1 q) → (sh (n0 + 1)).1 = 15 → (sh (n0 + 1)).2.1 = K + 1 → (∀ i, i < K → (sh (n0 + 1)).2.2 i = (sh1 (pl 7)).2.2 i) → jv_J g X I_X6_addLift 37 [some (jv_r g 123), some (jv_r g n0), some (jv_r g (n0 + 1)), some (.int (nI K))] [] (n0 + 2) sh V L k z) : ∀ (m : Nat) (k1 : Nat) (sh : Nat → jv_S), k1 ≤ K → K + 1 ≤ k1 + m → (∀ q, q ≠ n0 + 1 → sh q = sh1 q) → (sh (n0 + 1)).1 = 15 → (sh (n0 + 1)).2.1 = K + 1 → (∀ i, i < k1 → (sh (n0 + 1)).2.2 i = (sh1 (pl 7)).2.2 i) → jv_J g X I_X6_addLift 13 [some (jv_r g 123), some (jv_r g n0), some (jv_r g (n0 + 1)), some (.int (nI k1))] [] (n0 + 2) sh V L k z := by
  intro m
  induction m with
  | zero => intro k1 sh hk1 hm2 hs hmk hmn hrf; omega
  | succ m ih =>
  intro k1 sh hk1 hm2 hs hmk hmn hrf
  have hn := H.n124
  have u7 : used K R 7 := used.la
  have p7lt := H.lt u7
  have p7ge := H.ge u7
  have hS : (sh 123).1 = 7 := by rw [hs 123 (by omega)]; exact hS0
  have hS5 : (sh 123).2.2 5 = some (pl 7) := by rw [hs 123 (by omega)]; exact hS50
  have h71 : (sh (pl 7)).1 = 15 := by rw [hs _ (by omega)]; exact h710
  have h72 : (sh (pl 7)).2.1 = K := by rw [hs _ (by omega)]; exact h720
  refine j_iload_n_3 dX6_addLift_13 ?_
  refine j_aload_n_0 dX6_addLift_14 ?_
  refine G_X6_24 rfl dX6_addLift_15 hS hS5 ?_
  refine jr_alenA dX6_addLift_18 h71 h72 ?_
  refine j_ic_geN (by omega) (by omega) (tgt := 37) dX6_addLift_19 (by decide) (fun h19 => ?_) (fun h19 => ?_)
  · obtain rfl : k1 = K := by omega
    exact kk sh hs hmk hmn hrf
  · have hk : k1 < K := by omega
    have ul : used K R (10 + k1) := used.l hk
    have he0 := h730 k1 hk
    have he : (sh (pl 7)).2.2 k1 = some (pl (10 + k1)) := by rw [hs _ (by omega)]; exact he0
    have hek : (sh (pl (10 + k1))).1 = 10 := by rw [hs _ (by have := H.lt ul; omega)]; exact hE k1 hk
    refine j_aload_n_2 dX6_addLift_22 ?_
    refine j_iload_n_3 dX6_addLift_23 ?_
    refine j_aload_n_0 dX6_addLift_24 ?_
    refine G_X6_24 rfl dX6_addLift_25 hS hS5 ?_
    refine j_iload_n_3 dX6_addLift_28 ?_
    refine jr_aaldA dX6_addLift_29 h71 h72 (by omega) (by omega) he ?_
    refine jr_aastA dX6_addLift_30 hmk hmn (by omega) (by omega) hek (fun sh2 hst => ?_)
    refine j_inc1_3 rfl (by decide) dX6_addLift_31 ?_
    refine j_goto (tgt := 13) dX6_addLift_34 (by decide) ?_
    refine ih (k1 + 1) sh2 (by omega) (by omega) (fun q hq => (hst.1 q hq).trans (hs q hq)) (hst.2.1.trans hmk) (hst.2.2.1.trans hmn) (fun i hi => ?_)
    by_cases c : i = k1
    · subst c
      rw [hst.2.2.2.2]
      exact (h730 i hk).symm
    · rw [hst.2.2.2.1 i c]
      exact hrf i (by omega)

set_option maxHeartbeats 4000000 in
set_option maxRecDepth 100000 in
theorem c_simLift {g : jv_G} {X : jv_X} {T : jv_T} {L : Nat → Nat → Int64} {k z : Nat} {N K R : Nat} {tg pl : Nat → Nat} {n0 : Nat} {sh0 : Nat → jv_S} {V0 C C1 : (Nat → Nat → Int32)} (H : REP tg pl n0 sh0 V0 C N K R) (hK : K < 4) {sh : Nat → jv_S} {V : (Nat → Nat → Int32)} (hs : ∀ q, q < n0 → sh q = sh0 q ∧ V q = V0 q) (hok : (sh n0).1 = 10) (hon : (sh n0).2.1 = 5) (hLF : LF (V n0) C1 N K) (hC : ∀ q, ¬ (q = 20 + 2 * K ∨ q = 20 + 2 * K + 1) → (2 ≤ q ∧ q ≤ 5) ∨ (20 ≤ q ∧ q < 28) ∨ (43 ≤ q ∧ q < 123) → C1 q = C q) (hC0 : C1 0 5 = C 0 5) (hk : 1 ≤ k) (hz : 5 ≤ z) (hM : jv_M g X T) (hT : ∀ n1 s1 V1, ((∃ tg1 pl1, REP tg1 pl1 n1 s1 V1 C1 N (K + 1) R) ∧ n0 + 1 ≤ n1 ∧ (∀ q, q < 123 → s1 q = sh q ∧ V1 q = V q) ∧ s1 n0 = sh n0 ∧ V1 n0 = V n0) → T (.inl none) n1 s1 V1 L) : jv_J g X I_X6_addLift 0 [some (jv_r g 123), some (jv_r g n0), none, none] [] (n0 + 1) sh V L k z := by
  have hn := H.n124
  have u7 : used K R 7 := used.la
  have p7lt := H.lt u7
  have p7ge := H.ge u7
  have hS : (sh 123).1 = 7 := by rw [(hs 123 (by omega)).1]; exact H.s
  have hS5 : (sh 123).2.2 5 = some (pl 7) := by rw [(hs 123 (by omega)).1]; exact H.s5
  have h71 : (sh (pl 7)).1 = 15 := by rw [(hs _ p7lt).1]; exact H.q7.1
  have h72 : (sh (pl 7)).2.1 = K := by rw [(hs _ p7lt).1]; exact H.q7.2.1
  refine j_aload_n_0 dX6_addLift_0 ?_
  refine G_X6_24 rfl dX6_addLift_1 hS hS5 ?_
  refine jr_alenA dX6_addLift_4 h71 h72 ?_
  refine j_iconst (v := nI 1) dX6_addLift_5 nc_iconst_1 ?_
  refine j_iaddN dX6_addLift_6 ?_
  refine jr_anewA (jv_gwm 651 (by decide +kernel) rfl) dX6_addLift_7 (by omega) (k2 := k - 1) (z2 := z - 5) (by omega) (by omega) (fun sh1 hw1 => ?_)
  have gS0 : (sh1 123).1 = 7 := by rw [(hw1.1 123 (by omega)).1]; exact hS
  have gS50 : (sh1 123).2.2 5 = some (pl 7) := by rw [(hw1.1 123 (by omega)).1]; exact hS5
  have g710 : (sh1 (pl 7)).1 = 15 := by rw [(hw1.1 (pl 7) (by omega)).1]; exact h71
  have g720 : (sh1 (pl 7)).2.1 = K := by rw [(hw1.1 (pl 7) (by omega)).1]; exact h72
  refine j_astore_n_2 rfl (by decide) dX6_addLift_10 ?_
  refine j_iconst (v := nI 0) dX6_addLift_11 nc_iconst_0 ?_
  refine j_istore_n_3 rfl (by decide) dX6_addLift_12 ?_
  refine c_li_loop (n0 := n0) (V := V) H hK (sh1 := sh1) gS0 gS50 g710 g720 (fun i hi => by rw [(hw1.1 (pl 7) (by omega)).1, (hs (pl 7) p7lt).1]; exact H.q7.2.2 i hi) (fun i hi => by rw [(hw1.1 _ (by have := H.lt (used.l (R := R) hi); omega)).1, (hs _ (H.lt (used.l hi))).1]; exact (H.lf hi).1) ?_ (K + 1) 0 sh1 (by omega) (by omega) (fun q _ => rfl) (by rw [hw1.2.1]) (by rw [hw1.2.1]) (fun i hi => absurd hi (by omega))
  intro sh3 hs3 hmk hmn hrf3
  have gS : (sh3 123).1 = 7 := by rw [hs3 123 (by omega)]; exact gS0
  have gS5 : (sh3 123).2.2 5 = some (pl 7) := by rw [hs3 123 (by omega)]; exact gS50
  have g71 : (sh3 (pl 7)).1 = 15 := by rw [hs3 _ (by omega)]; exact g710
  have g72 : (sh3 (pl 7)).2.1 = K := by rw [hs3 _ (by omega)]; exact g720
  have gok : (sh3 n0).1 = 10 := by rw [hs3 n0 (by omega), (hw1.1 n0 (by omega)).1]; exact hok
  refine j_aload_n_2 dX6_addLift_37 ?_
  refine j_aload_n_0 dX6_addLift_38 ?_
  refine G_X6_24 rfl dX6_addLift_39 gS gS5 ?_
  refine jr_alenA dX6_addLift_42 g71 g72 ?_
  refine j_aload_n_1 dX6_addLift_43 ?_
  refine jr_aastA dX6_addLift_44 hmk hmn (by omega) (by omega) gok (fun sh4 hst => ?_)
  have kS : (sh4 123).1 = 7 := hst.k.trans gS
  refine j_aload_n_0 dX6_addLift_45 ?_
  refine j_aload_n_2 dX6_addLift_46 ?_
  refine P_X6_24 rfl dX6_addLift_47 kS ?_
  refine j_vret hM dX6_addLift_50 rfl ?_
  have e4 : ∀ q, q ≠ 123 → q ≠ n0 + 1 → jv_US sh4 123 5 (n0 + 1) q = sh q := fun q a b => by rw [jv_US_other a, hst.1 q b, hs3 q b, (hw1.1 q b).1]
  have hREP := H.li (s1 := jv_US sh4 123 5 (n0 + 1)) (V1 := V) (C1 := C1) hK (fun q a b => by rw [e4 q a (by omega), (hs q b).1]) (fun q b => (hs q b).2) (by rw [US_1]; exact kS) (fun i a => by rw [US_nej a, hst.1 _ (by omega), hs3 _ (by omega), (hw1.1 123 (by omega)).1, (hs 123 (by omega)).1]) US_eq (by rw [e4 n0 (by omega) (by omega)]; exact hok) (by rw [e4 n0 (by omega) (by omega)]; exact hon) (by rw [US_1]; exact hst.2.1.trans hmk) (by rw [US_2]; exact hst.2.2.1.trans hmn) (fun i hi => by rw [jv_US_other (by omega), hst.2.2.2.1 i (by omega), hrf3 i hi, (hw1.1 (pl 7) (by omega)).1, (hs (pl 7) p7lt).1]) (by rw [jv_US_other (by omega)]; exact hst.2.2.2.2) hLF hC hC0
  exact hT _ _ _ ⟨⟨_, _, hREP⟩, by omega, fun q hq => ⟨e4 q (by omega) (by omega), rfl⟩, by rw [e4 n0 (by omega) (by omega)], rfl⟩

theorem stI_in {V : Nat → Nat → Int32} {r o f : Nat} (h1 : 1 ≤ o) (h9 : o ≤ 9) (hf : f < 12) : stI V r 12 (r + o) f = if o = 1 then nI 0 else -1 := by
  unfold stI
  rw [if_pos ⟨hf, by omega, by omega⟩]
  by_cases e : o = 1
  · rw [if_pos e, if_pos (by omega)]
  · rw [if_neg e, if_neg (by omega)]
theorem c_hearp {g : jv_G} {X : jv_X} {T : jv_T} {n : Nat} {sh : Nat → jv_S} {V : Nat → Nat → Int32} {L : Nat → Nat → Int64} {k z : Nat} {tg pl : Nat → Nat} {C : Nat → Nat → Int32} {N K R : Nat} (H : REP tg pl n sh V C N K R) {j f p0 : Nat} {p : Int32} (hj : j < R) (hf : f < N) (hp : pl (20 + 10 * j) = p0) (hM : jv_M g X T) (hT : ∀ V1, REP tg pl n sh V1 (brR C (43 + 10 * j) f p (C 0 5)) N K R → (∀ q, (∀ o, 1 ≤ o → o ≤ 6 → q ≠ pl (20 + 10 * j + o)) → V1 q = V q) → T (.inl none) n sh V1 L) : jv_J g X I_X6_hear 0 [some (jv_r g 123), some (jv_r g p0), some (.int (nI f)), some (.int p)] [] n sh V L k z := by
  rw [← hp]
  exact c_hear H hj hf hM hT
set_option maxHeartbeats 4000000 in
set_option maxRecDepth 100000 in
theorem c_st_loop {g : jv_G} {X : jv_X} {L : Nat → Nat → Int64} {k z : Nat} {N K R : Nat} {tg pl : Nat → Nat} {n0 f : Nat} {y : Int32} {shA sh1 : Nat → jv_S} {V V0 C : (Nat → Nat → Int32)} (H : REP tg pl n0 shA V0 C N K R) (hS0 : (sh1 123).1 = 7) (hS60 : (sh1 123).2.2 6 = some (pl 8)) (h810 : (sh1 (pl 8)).1 = 12) (h820 : (sh1 (pl 8)).2.1 = R) (h830 : ∀ i, i < R → (sh1 (pl 8)).2.2 i = some (pl (20 + 10 * i))) (hE : ∀ i, i < R → (sh1 (pl (20 + 10 * i))).1 = 6) (kk : ∀ sh, (∀ q, q ≠ n0 + 8 → sh q = sh1 q) → (sh (n0 + 8)).1 = 12 → (sh (n0 + 8)).2.1 = R + 1 → (∀ i, i < R → (sh (n0 + 8)).2.2 i = (sh1 (pl 8)).2.2 i) → jv_J g X I_X6_start 66 [some (jv_r g 123), some (.int (nI f)), some (.int y), some (jv_r g n0), some (jv_r g (n0 + 8)), some (.int (nI R))] [] (n0 + 9) sh V L k z) : ∀ (m : Nat) (j : Nat) (sh : Nat → jv_S), j ≤ R → R + 1 ≤ j + m → (∀ q, q ≠ n0 + 8 → sh q = sh1 q) → (sh (n0 + 8)).1 = 12 → (sh (n0 + 8)).2.1 = R + 1 → (∀ i, i < j → (sh (n0 + 8)).2.2 i = (sh1 (pl 8)).2.2 i) → jv_J g X I_X6_start 38 [some (jv_r g 123), some (.int (nI f)), some (.int y), some (jv_r g n0), some (jv_r g (n0 + 8)), some (.int (nI j))] [] (n0 + 9) sh V L k z := by
  intro m
  induction m with
  | zero => intro j sh hk1 hm2 hs hmk hmn hrf; omega
  | succ m ih =>
  intro j sh hk1 hm2 hs hmk hmn hrf
  have hn := H.n124
  have u8 : used K R 8 := used.ra
  have p8lt := H.lt u8
  have p8ge := H.ge u8
  have hS : (sh 123).1 = 7 := by rw [hs 123 (by omega)]; exact hS0
  have hS6 : (sh 123).2.2 6 = some (pl 8) := by rw [hs 123 (by omega)]; exact hS60
  have h81 : (sh (pl 8)).1 = 12 := by rw [hs _ (by omega)]; exact h810
  have h82 : (sh (pl 8)).2.1 = R := by rw [hs _ (by omega)]; exact h820
  refine j_iload_5 dX6_start_38 ?_
  refine j_aload_n_0 dX6_start_40 ?_
  refine G_X6_30 rfl dX6_start_41 hS hS6 ?_
  refine jr_alenR dX6_start_44 h81 h82 ?_
  refine j_ic_geN (by have := H.R8; omega) (by have := H.R8; omega) (tgt := 66) dX6_start_45 (by decide) (fun h45 => ?_) (fun h45 => ?_)
  · obtain rfl : j = R := by omega
    exact kk sh hs hmk hmn hrf
  · have hj : j < R := by omega
    have ul : used K R (20 + 10 * j) := used.o (o := 0) hj (by decide)
    have he0 := h830 j hj
    have he : (sh (pl 8)).2.2 j = some (pl (20 + 10 * j)) := by rw [hs _ (by omega)]; exact he0
    have hek : (sh (pl (20 + 10 * j))).1 = 6 := by rw [hs _ (by have := H.lt ul; omega)]; exact hE j hj
    refine j_aload_4 dX6_start_48 ?_
    refine j_iload_5 dX6_start_50 ?_
    refine j_aload_n_0 dX6_start_52 ?_
    refine G_X6_30 rfl dX6_start_53 hS hS6 ?_
    refine j_iload_5 dX6_start_56 ?_
    refine jr_aaldR dX6_start_58 h81 h82 (by omega) (by have := H.R8; omega) he ?_
    refine jr_aastR dX6_start_59 hmk hmn (by omega) (by have := H.R8; omega) hek (fun sh2 hst => ?_)
    refine j_inc1_5 rfl (by decide) dX6_start_60 ?_
    refine j_goto (tgt := 38) dX6_start_63 (by decide) ?_
    refine ih (j + 1) sh2 (by omega) (by omega) (fun q hq => (hst.1 q hq).trans (hs q hq)) (hst.2.1.trans hmk) (hst.2.2.1.trans hmn) (fun i hi => ?_)
    by_cases c : i = j
    · subst c
      rw [hst.2.2.2.2]
      exact (h830 i hj).symm
    · rw [hst.2.2.2.1 i c]
      exact hrf i (by omega)

set_option maxHeartbeats 4000000 in
set_option maxRecDepth 100000 in
theorem c_simStart {g : jv_G} {X : jv_X} {T : jv_T} {L : Nat → Nat → Int64} {k z : Nat} {N K R : Nat} {tg pl : Nat → Nat} {n : Nat} {sh : Nat → jv_S} {V C : (Nat → Nat → Int32)} (H : REP tg pl n sh V C N K R) (hR : R < 8) {f : Nat} {y : Int32} (hf : f < N) (hk : 9 ≤ k) (hz : 110 ≤ z) (hM : jv_M g X T) (hT : ∀ n1 s1 V1, ((∃ tg1 pl1, REP tg1 pl1 n1 s1 V1 (staR C (43 + 10 * R) f y (C 0 5)) N K (R + 1)) ∧ n ≤ n1 ∧ ∀ q, q < 123 → s1 q = sh q ∧ V1 q = V q) → T (.inl none) n1 s1 V1 L) : jv_J g X I_X6_start 0 [some (jv_r g 123), some (.int (nI f)), some (.int y), none, none, none] [] n sh V L k z := by
  have hn := H.n124
  have u8 : used K R 8 := used.ra
  have p8lt := H.lt u8
  have p8ge := H.ge u8
  have hN12 := H.N12
  refine NO_X6_28 (k2 := k - 1) (z2 := z - 9) rfl dX6_start_0 (by omega) (by omega) (fun sh1 W1 hw1 => ?_)
  have hob1 : (sh1 n).1 = 6 := by rw [hw1.2.1]
  have H1 := H.grow (n1 := n + 1) (sh1 := sh1) (V1 := W1) (by omega) (fun q _ hq => hw1.1 q (by omega))
  refine j_dup rfl dX6_start_3 ?_
  refine j_aload_n_0 dX6_start_4 ?_
  refine G_X6_7 rfl dX6_start_5 H1.s H1.s1 ?_
  refine j_alen dX6_start_8 H1.q2.1 H1.q2.2.1 ?_
  refine Q_X6_52 (k' := 7) (z' := 80) (k2 := k - 8) (z2 := z - 89) (P := NP (n + 1) sh1 W1 n N) rfl (by decide) dX6_start_9 hob1 (Nat.le_of_ble_eq_true rfl) (by omega) (by omega) (fun _ _ hM' hT' => c_newR (p := n) (N := N) hob1 (by omega) hN12 (by omega) (by omega) hM' hT') (fun n1 s1 V1 hP1 => ?_)
  obtain ⟨rfl, a1, a2, a3, a4, a5, a6, a7⟩ := hP1
  have H2 := H.grow (n1 := n + 1 + 7) (sh1 := s1) (V1 := jv_U (jv_U V1 n 0 (nI f)) n 1 y) (by omega) (fun q h1 h2 => ⟨(a1 q (by omega) (by omega)).trans (hw1.1 q (by omega)).1, by rw [jv_U_other (by omega), jv_U_other (by omega), a2 q (by omega), (hw1.1 q (by omega)).2]⟩)
  have gS0 : (s1 123).1 = 7 := H2.s
  refine j_astore_n_3 rfl (by decide) dX6_start_12 ?_
  refine j_aload_n_3 dX6_start_13 ?_
  refine j_iload_n_1 dX6_start_14 ?_
  refine P_X6_55 rfl dX6_start_15 a3 ?_
  refine j_aload_n_3 dX6_start_18 ?_
  refine j_iload_n_2 dX6_start_19 ?_
  refine P_X6_58 rfl dX6_start_20 a3 ?_
  refine j_aload_n_0 dX6_start_23 ?_
  refine G_X6_30 rfl dX6_start_24 H2.s H2.s6 ?_
  refine jr_alenR dX6_start_27 H2.q8.1 H2.q8.2.1 ?_
  refine j_iconst (v := nI 1) dX6_start_28 nc_iconst_1 ?_
  refine j_iaddN dX6_start_29 ?_
  refine jr_anewR (jv_gwm 652 (by decide +kernel) rfl) dX6_start_30 (by omega) (k2 := k - 9) (z2 := z - 100) (by omega) (by omega) (fun sh3 hw3 => ?_)
  have gS3 : (sh3 123).1 = 7 := by rw [(hw3.1 123 (by omega)).1]; exact H2.s
  have gS63 : (sh3 123).2.2 6 = some (pl 8) := by rw [(hw3.1 123 (by omega)).1]; exact H2.s6
  have g813 : (sh3 (pl 8)).1 = 12 := by rw [(hw3.1 (pl 8) (by omega)).1]; exact H2.q8.1
  have g823 : (sh3 (pl 8)).2.1 = R := by rw [(hw3.1 (pl 8) (by omega)).1]; exact H2.q8.2.1
  refine j_astore_4 rfl (by decide) dX6_start_33 ?_
  refine j_iconst (v := nI 0) dX6_start_35 nc_iconst_0 ?_
  refine j_istore_5 rfl (by decide) dX6_start_36 ?_
  refine c_st_loop (n0 := n) (f := f) (y := y) (V := jv_U (jv_U V1 n 0 (nI f)) n 1 y) H (sh1 := sh3) gS3 gS63 g813 g823 (fun i hi => by rw [(hw3.1 (pl 8) (by omega)).1]; exact H2.q8.2.2 i hi) (fun i hi => by rw [(hw3.1 _ (by have := H.lt (ρ := 20 + 10 * i) (used.o (o := 0) hi (by decide)); omega)).1]; exact (H2.ob hi).1) ?_ (R + 1) 0 sh3 (by omega) (by omega) (fun q _ => rfl) (by rw [show n + 8 = n + 1 + 7 by omega, hw3.2.1]) (by rw [show n + 8 = n + 1 + 7 by omega, hw3.2.1]) (fun i hi => absurd hi (by omega))
  intro sh4 hs4 hmk hmn hrf4
  have gS : (sh4 123).1 = 7 := by rw [hs4 123 (by omega)]; exact gS3
  have gS6 : (sh4 123).2.2 6 = some (pl 8) := by rw [hs4 123 (by omega)]; exact gS63
  have g81 : (sh4 (pl 8)).1 = 12 := by rw [hs4 _ (by omega)]; exact g813
  have g82 : (sh4 (pl 8)).2.1 = R := by rw [hs4 _ (by omega)]; exact g823
  have gob : (sh4 n).1 = 6 := by rw [hs4 n (by omega), (hw3.1 n (by omega)).1]; exact a3
  refine j_aload_4 dX6_start_66 ?_
  refine j_aload_n_0 dX6_start_68 ?_
  refine G_X6_30 rfl dX6_start_69 gS gS6 ?_
  refine jr_alenR dX6_start_72 g81 g82 ?_
  refine j_aload_n_3 dX6_start_73 ?_
  refine jr_aastR dX6_start_74 hmk hmn (by omega) (by omega) gob (fun sh5 hst => ?_)
  have kS : (sh5 123).1 = 7 := hst.k.trans gS
  refine j_aload_n_0 dX6_start_75 ?_
  refine j_aload_4 dX6_start_76 ?_
  refine P_X6_30 rfl dX6_start_78 kS ?_
  have e5 : ∀ q, q ≠ 123 → q ≠ n + 8 → jv_US sh5 123 6 (n + 8) q = s1 q := fun q a b => by rw [jv_US_other a, hst.1 q b, hs4 q b, (hw3.1 q b).1]
  have r0 : 43 + 10 * R ≤ 113 := by omega
  have hCo : ∀ q, ¬ (43 + 10 * R ≤ q ∧ q ≤ 52 + 10 * R) → (stI (jv_U (jv_U C (43 + 10 * R) 0 (nI f)) (43 + 10 * R) 1 y) (43 + 10 * R) 12) q = C q := fun q hq => by rw [stI_out (by unfold Rout; omega), jv_U_other (by omega), jv_U_other (by omega)]
  have hrowR : ∀ o, 1 ≤ o → o ≤ 6 → (jv_US sh5 123 6 (n + 8) n).2.2 (o + 1) = some (n + 1 + o) ∧ (jv_US sh5 123 6 (n + 8) (n + 1 + o)).1 = 10 ∧ (jv_US sh5 123 6 (n + 8) (n + 1 + o)).2.1 = N ∧ ∀ f', f' < N → jv_U (jv_U V1 n 0 (nI f)) n 1 y (n + 1 + o) f' = (stI (jv_U (jv_U C (43 + 10 * R) 0 (nI f)) (43 + 10 * R) 1 y) (43 + 10 * R) 12) (43 + 10 * R + o) f' := fun o b1 b2 => by
    rw [e5 n (by omega) (by omega), e5 (n + 1 + o) (by omega) (by omega)]
    obtain ⟨b3, b4, b5, b6⟩ := a4 o b1 b2
    refine ⟨b3, b4, b5, fun f' hf' => ?_⟩
    rw [jv_U_other (by omega), jv_U_other (by omega), b6 f' hf', stI_in b1 (by omega) (by omega)]
    by_cases c : o = 1
    · rw [if_pos c, if_pos c, nI_0]
    · rw [if_neg c, if_neg c]
  obtain ⟨tg1, pl1, hREP, hpb⟩ := H.ru (s1 := jv_US sh5 123 6 (n + 8)) (V1 := jv_U (jv_U V1 n 0 (nI f)) n 1 y) (C1 := (stI (jv_U (jv_U C (43 + 10 * R) 0 (nI f)) (43 + 10 * R) 1 y) (43 + 10 * R) 12)) hR (fun q a b => by rw [e5 q a (by omega), a1 q (by omega) (by omega), (hw1.1 q (by omega)).1]) (fun q b => by rw [jv_U_other (by omega), jv_U_other (by omega), a2 q (by omega), (hw1.1 q (by omega)).2]) (by rw [US_1]; exact kS) (fun i a => by rw [US_nej a, hst.1 _ (by omega), hs4 _ (by omega), (hw3.1 123 (by omega)).1, a1 123 (by omega) (by omega), (hw1.1 123 (by omega)).1]) US_eq (by rw [e5 n (by omega) (by omega)]; exact a3) (by rw [stI_out (by unfold Rout; omega), jv_Unj (by decide), jv_Ueq, jv_Unj (by decide), jv_Ueq]) (by rw [stI_out (by unfold Rout; omega), jv_Ueq, jv_Ueq]) (by rw [e5 n (by omega) (by omega)]; exact a5) hrowR (by rw [e5 (n + 1) (by omega) (by omega)]; exact a6) (by rw [e5 (n + 1) (by omega) (by omega)]; exact a7) (by rw [US_1]; exact hst.2.1.trans hmk) (by rw [US_2]; exact hst.2.2.1.trans hmn) (fun i hi => by rw [jv_US_other (by omega), hst.2.2.2.1 i (by omega), hrf4 i hi, (hw3.1 (pl 8) (by omega)).1, a1 _ (by omega) (by omega), (hw1.1 (pl 8) (by omega)).1]) (by rw [jv_US_other (by omega)]; exact hst.2.2.2.2) (fun f' hf' => ⟨by rw [stI_in (by omega) (by omega) (by omega)]; rfl, by rw [stI_in (by omega) (by omega) (by omega)]; rfl⟩) (fun q a _ => hCo q a) (by rw [hCo 0 (by omega)])
  have gob5 : (jv_US sh5 123 6 (n + 8) n).1 = 6 := by rw [e5 n (by omega) (by omega)]; exact a3
  refine j_aload_n_0 dX6_start_81 ?_
  refine j_aload_n_3 dX6_start_82 ?_
  refine j_iload_n_1 dX6_start_83 ?_
  refine j_iconst (v := nI 0) dX6_start_84 nc_iconst_0 ?_
  refine Q_X6_61 (k' := 0) (z' := 0) (k2 := k - 9) (z2 := z - 100) (P := fun n1 s2 V2 => n1 = n + 9 ∧ s2 = jv_US sh5 123 6 (n + 8) ∧ REP tg1 pl1 (n + 9) s2 V2 (brR (stI (jv_U (jv_U C (43 + 10 * R) 0 (nI f)) (43 + 10 * R) 1 y) (43 + 10 * R) 12) (43 + 10 * R) f (nI 0) ((stI (jv_U (jv_U C (43 + 10 * R) 0 (nI f)) (43 + 10 * R) 1 y) (43 + 10 * R) 12) 0 5)) N K (R + 1) ∧ ∀ q, (∀ o, 1 ≤ o → o ≤ 6 → q ≠ pl1 (20 + 10 * R + o)) → V2 q = jv_U (jv_U V1 n 0 (nI f)) n 1 y q) rfl (by decide) dX6_start_85 hREP.s (Nat.le_of_ble_eq_true rfl) (by omega) (by omega) (fun _ _ hM' hT' => c_hearp hREP (by omega) hf hpb hM' (fun V1 a b => hT' _ _ _ ⟨rfl, rfl, a, b⟩)) (fun n2 s2 V2 hP2 => ?_)
  obtain ⟨rfl, rfl, hRE, hfr⟩ := hP2
  exact j_vret hM dX6_start_88 rfl (hT _ _ _ ⟨⟨tg1, pl1, by unfold staR; rw [show C 0 5 = (stI (jv_U (jv_U C (43 + 10 * R) 0 (nI f)) (43 + 10 * R) 1 y) (43 + 10 * R) 12) 0 5 by rw [hCo 0 (by omega)]]; exact hRE⟩, by omega, fun q hq => ⟨by rw [e5 q (by omega) (by omega), a1 q (by omega) (by omega), (hw1.1 q (by omega)).1], by rw [hfr q (fun o b1 b2 => by have := hREP.ge (used.o (K := K) (R := R + 1) (j := R) (o := o) (by omega) (by omega)); omega), jv_U_other (by omega), jv_U_other (by omega), a2 q (by omega), (hw1.1 q (by omega)).2]⟩⟩)
