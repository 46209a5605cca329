/-! ===== the heap while it is built: places below m, the references of p set below f p ===== -/
def s0 : Nat → jv_S := fun _ => (0, 0, fun _ => none)
def PS (m : Nat) (f : Nat → Nat) : Nat → jv_S := fun p => if p < m then ((SH s0 p).1, (SH s0 p).2.1, fun k => if k < f p then (SH s0 p).2.2 k else none) else (0, 0, fun _ => none)
def upf (f : Nat → Nat) (q r : Nat) : Nat → Nat := fun p => if p = q then r else f p
theorem upf_eq {f : Nat → Nat} {q r : Nat} : upf f q r q = r := if_pos rfl
theorem upf_ne {f : Nat → Nat} {q r p : Nat} (h : p ≠ q) : upf f q r p = f p := if_neg h
def full (f : Nat → Nat) (p : Nat) : Prop := ∀ k, f p ≤ k → (SH s0 p).2.2 k = none
theorem PS_k {m p K : Nat} {f : Nat → Nat} (h : p < m) (hk : (SH s0 p).1 = K) : (PS m f p).1 = K := by unfold PS; rw [if_pos h]; exact hk
theorem PS_n {m p K : Nat} {f : Nat → Nat} (h : p < m) (hk : (SH s0 p).2.1 = K) : (PS m f p).2.1 = K := by unfold PS; rw [if_pos h]; exact hk
theorem PS_r {m p i q2 : Nat} {f : Nat → Nat} (h : p < m) (hi : i < f p) (hk : (SH s0 p).2.2 i = some q2) : (PS m f p).2.2 i = some q2 := by unfold PS; rw [if_pos h]; show (if i < f p then _ else _) = _; rw [if_pos hi]; exact hk
theorem PS_ns {m K N r0 : Nat} {f : Nat → Nat} (h1 : (SH s0 m).1 = K) (h2 : (SH s0 m).2.1 = N) (h3 : ∀ k, k < r0 → (SH s0 m).2.2 k = none) : jv_NS (PS m f) m (K, N, fun _ => none) = PS (m + 1) (upf f m r0) := by
  funext p
  unfold jv_NS PS upf
  by_cases e : p = m
  · subst e
    rw [if_pos rfl, if_pos (by omega), h1, h2]
    congr 2
    funext k
    rw [if_pos rfl]
    by_cases hk : k < r0
    · rw [if_pos hk, h3 k hk]
    · rw [if_neg hk]
  · rw [if_neg e]
    by_cases h : p < m
    · rw [if_pos h, if_pos (by omega), if_neg e]
    · rw [if_neg h, if_neg (by omega)]
theorem PS_nr {m K N : Nat} {f : Nat → Nat} (h : SH s0 m = (K, N, fun _ => none)) : jv_NS (PS m f) m (K, N, fun _ => none) = PS (m + 1) (upf f m 0) := PS_ns (by rw [h]) (by rw [h]) (fun k hk => absurd hk (Nat.not_lt_zero k))
theorem PS_us {m q i q2 : Nat} {f : Nat → Nat} (hq : q < m) (hf : f q = i) (hr : (SH s0 q).2.2 i = some q2) : jv_US (PS m f) q i q2 = PS m (upf f q (i + 1)) := by
  funext p
  by_cases e : p = q
  · subst e
    rw [jv_US_self]
    unfold PS upf
    rw [if_pos hq, if_pos hq]
    show (_, _, _) = (_, _, _)
    congr 2
    funext k
    show (if k = i then some q2 else (if k < f p then (SH s0 p).2.2 k else none)) = if k < (if p = p then i + 1 else f p) then (SH s0 p).2.2 k else none
    rw [if_pos (rfl : p = p), hf]
    by_cases hk : k = i
    · subst hk; rw [if_pos rfl, if_pos (by omega), hr]
    · rw [if_neg hk]
      by_cases h2 : k < i
      · rw [if_pos h2, if_pos (by omega)]
      · rw [if_neg h2, if_neg (by omega)]
  · rw [jv_US_other e]
    unfold PS
    rw [upf_ne e]
theorem full_of {f f' : Nat → Nat} {p : Nat} (h : full f p) (e : f' p = f p) : full f' p := by unfold full; rw [e]; exact h
theorem full_row {f : Nat → Nat} {p K N : Nat} (h : SH s0 p = (K, N, fun _ => none)) : full f p := by unfold full; rw [h]; intro k _; rfl
theorem no_ref {m r0 K N : Nat} (h : SH s0 m = (K, N, fun _ => none)) : ∀ k, k < r0 → (SH s0 m).2.2 k = none := by rw [h]; intro k _; rfl
theorem PS_done {m : Nat} {f : Nat → Nat} (h : ∀ p, p < m → full f p) : PS m f = fun p => if p < m then SH s0 p else (0, 0, fun _ => none) := by
  funext p
  unfold PS
  by_cases hp : p < m
  · rw [if_pos hp, if_pos hp]
    have : (fun k => if k < f p then (SH s0 p).2.2 k else none) = (SH s0 p).2.2 := by
      funext k
      by_cases hk : k < f p
      · rw [if_pos hk]
      · rw [if_neg hk, h p hp k (by omega)]
    rw [this]
  · rw [if_neg hp, if_neg hp]
/-- the tower built, nothing else: and all but the law's own row built -/
def SHT : Nat → jv_S := fun p => if p = 0 then (5, 0, fun _ => none) else if p < 28 then SH s0 p else (0, 0, fun _ => none)
theorem SHT_eq {p : Nat} (h0 : p ≠ 0) (h : p < 28) : SHT p = SH s0 p := by unfold SHT; rw [if_neg h0, if_pos h]
theorem PS_T {f : Nat → Nat} (h0 : f 0 = 0) (h : ∀ p, 1 ≤ p → p < 28 → full f p) : PS 28 f = SHT := by
  funext p
  by_cases e : p = 0
  · subst e
    unfold PS SHT
    rw [if_pos (by omega), if_pos rfl, h0]
    show (5, 0, _) = (5, 0, _)
    congr 2
  · unfold SHT
    rw [if_neg e]
    unfold PS
    by_cases hp : p < 28
    · rw [if_pos hp, if_pos hp]
      have : (fun k => if k < f p then (SH s0 p).2.2 k else none) = (SH s0 p).2.2 := by
        funext k
        by_cases hk : k < f p
        · rw [if_pos hk]
        · rw [if_neg hk, h p (by omega) hp k (by omega)]
      rw [this]
    · rw [if_neg hp, if_neg hp]
theorem tk_1 : (SHT 1).1 = 3 := rfl
theorem tk_2 : (SHT 2).1 = 10 := rfl
theorem tn_2 : (SHT 2).2.1 = 12 := rfl
theorem tk_3 : (SHT 3).1 = 10 := rfl
theorem tn_3 : (SHT 3).2.1 = 12 := rfl
theorem tk_4 : (SHT 4).1 = 10 := rfl
theorem tn_4 : (SHT 4).2.1 = 12 := rfl
theorem tk_5 : (SHT 5).1 = 11 := rfl
theorem tn_5 : (SHT 5).2.1 = 12 := rfl
theorem tk_6 : (SHT 6).1 = 14 := rfl
theorem tn_6 : (SHT 6).2.1 = 4 := rfl
theorem tk_7 : (SHT 7).1 = 15 := rfl
theorem tn_7 : (SHT 7).2.1 = 12 := rfl
theorem tr_1_2 : (SHT 1).2.2 2 = some 2 := rfl
theorem tr_1_3 : (SHT 1).2.2 3 = some 3 := rfl
theorem tr_1_4 : (SHT 1).2.2 4 = some 4 := rfl
theorem tr_1_5 : (SHT 1).2.2 5 = some 5 := rfl
theorem tr_1_6 : (SHT 1).2.2 6 = some 6 := rfl
theorem tr_1_7 : (SHT 1).2.2 7 = some 7 := rfl
theorem tk_row {a : Nat} (h : a < 12) : (SHT (8 + a)).1 = 10 := by rw [SHT_eq (by omega) (by omega)]; exact sk_row h
theorem tn_row {a : Nat} (h : a < 12) : (SHT (8 + a)).2.1 = 12 := by rw [SHT_eq (by omega) (by omega)]; exact sn_row h
theorem tr_row {a : Nat} (h : a < 12) : (SHT 7).2.2 a = some (8 + a) := by rw [SHT_eq (by omega) (by omega)]; exact sr_row h
theorem tr_lif {a : Nat} (h : a < 4) : (SHT 6).2.2 a = some (20 + 2 * a) := by rw [SHT_eq (by omega) (by omega)]; exact sr_lif h
theorem tk_lif {q : Nat} (h : isLif q) : (SHT q).1 = 1 := by rw [SHT_eq (by have := h.lo; omega) (by have := h.hi; omega)]; exact sk_lif h
theorem tr_lis {q : Nat} (h : isLif q) : (SHT q).2.2 2 = some (q + 1) := by rw [SHT_eq (by have := h.lo; omega) (by have := h.hi; omega)]; exact sr_lis h
theorem tk_lis {q : Nat} (h : isLif q) : (SHT (q + 1)).1 = 11 := by rw [SHT_eq (by omega) (by have := h.hi; omega)]; exact sk_lis h
theorem tn_lis {q : Nat} (h : isLif q) : (SHT (q + 1)).2.1 = 12 := by rw [SHT_eq (by omega) (by have := h.hi; omega)]; exact sn_lis h
set_option maxHeartbeats 4000000 in
set_option maxRecDepth 100000 in
theorem tc_hoursBetween {g : jv_G} {X : jv_X} {T : jv_T} {n : Nat} {V : Nat → Nat → Int32} {L : Nat → Nat → Int64} {k z : Nat} {q low high : Nat} (hq : isLif q) (h1 : low < high) (h2 : high < 12) (hM : jv_M g X T) (hT : T (.inl (some (.int (hrs V q low high)))) n SHT V L) : jv_J g X I_X0_hoursBetween 0 [some (jv_r g q), some (.int (nI low)), some (.int (nI high)), none] [] n SHT V L k z := by
  refine j_aload_n_0 dX0_hoursBetween_0 ?_
  refine G_X0_9 rfl dX0_hoursBetween_1 (tk_lif hq) ?_
  refine j_if_eq (tgt := 29) dX0_hoursBetween_4 (by decide) (fun h4 => ?_) (fun h4 => ?_)
  · refine j_iconst (v := nI 0) dX0_hoursBetween_29 nc_iconst_0 ?_
    refine j_istore_n_3 rfl (by decide) dX0_hoursBetween_30 ?_
    refine j_iload_n_3 dX0_hoursBetween_31 ?_
    refine j_if_eq (tgt := 48) dX0_hoursBetween_32 (by decide) (fun h32 => ?_) (fun h32 => ?_)
    · refine j_iconst (v := -1) dX0_hoursBetween_48 nc_iconst_m1 ?_
      exact j_iret hM dX0_hoursBetween_49 rfl (by simpa [hrs, h4, h32] using hT)
    · exact absurd nI_0 h32
  · refine j_aload_n_0 dX0_hoursBetween_7 ?_
    refine G_X0_19 rfl dX0_hoursBetween_8 (tk_lif hq) (tr_lis hq) ?_
    refine j_iload_n_1 dX0_hoursBetween_11 ?_
    refine j_bald dX0_hoursBetween_12 (tk_lis hq) (tn_lis hq) (by omega) (by decide) ?_
    refine j_if_eq (tgt := 29) dX0_hoursBetween_13 (by decide) (fun h13 => ?_) (fun h13 => ?_)
    · refine j_iconst (v := nI 0) dX0_hoursBetween_29 nc_iconst_0 ?_
      refine j_istore_n_3 rfl (by decide) dX0_hoursBetween_30 ?_
      refine j_iload_n_3 dX0_hoursBetween_31 ?_
      refine j_if_eq (tgt := 48) dX0_hoursBetween_32 (by decide) (fun h32 => ?_) (fun h32 => ?_)
      · refine j_iconst (v := -1) dX0_hoursBetween_48 nc_iconst_m1 ?_
        exact j_iret hM dX0_hoursBetween_49 rfl (by simpa [hrs, h4, h13, h32] using hT)
      · exact absurd nI_0 h32
    · refine j_aload_n_0 dX0_hoursBetween_16 ?_
      refine G_X0_19 rfl dX0_hoursBetween_17 (tk_lif hq) (tr_lis hq) ?_
      refine j_iload_n_2 dX0_hoursBetween_20 ?_
      refine j_bald dX0_hoursBetween_21 (tk_lis hq) (tn_lis hq) (by omega) (by decide) ?_
      refine j_if_eq (tgt := 29) dX0_hoursBetween_22 (by decide) (fun h22 => ?_) (fun h22 => ?_)
      · refine j_iconst (v := nI 0) dX0_hoursBetween_29 nc_iconst_0 ?_
        refine j_istore_n_3 rfl (by decide) dX0_hoursBetween_30 ?_
        refine j_iload_n_3 dX0_hoursBetween_31 ?_
        refine j_if_eq (tgt := 48) dX0_hoursBetween_32 (by decide) (fun h32 => ?_) (fun h32 => ?_)
        · refine j_iconst (v := -1) dX0_hoursBetween_48 nc_iconst_m1 ?_
          exact j_iret hM dX0_hoursBetween_49 rfl (by simpa [hrs, h4, h13, h22, h32] using hT)
        · exact absurd nI_0 h32
      · refine j_iconst (v := nI 1) dX0_hoursBetween_25 nc_iconst_1 ?_
        refine j_goto (tgt := 30) dX0_hoursBetween_26 (by decide) ?_
        refine j_istore_n_3 rfl (by decide) dX0_hoursBetween_30 ?_
        refine j_iload_n_3 dX0_hoursBetween_31 ?_
        refine j_if_eq (tgt := 48) dX0_hoursBetween_32 (by decide) (fun h32 => ?_) (fun h32 => ?_)
        · exact absurd h32 (by decide +kernel)
        · refine j_aload_n_0 dX0_hoursBetween_35 ?_
          refine G_X0_15 rfl dX0_hoursBetween_36 (tk_lif hq) ?_
          refine j_iload_n_2 dX0_hoursBetween_39 ?_
          refine j_iload_n_1 dX0_hoursBetween_40 ?_
          refine j_isubN (by omega) dX0_hoursBetween_41 ?_
          refine j_iconst (v := nI 2) dX0_hoursBetween_42 nc_iconst_2 ?_
          refine j_idiv (by decide +kernel) dX0_hoursBetween_43 ?_
          refine j_top (y := nI ((high - low) / 2)) (pk_div (by omega) (by decide) (by decide)) ?_
          refine j_iadd dX0_hoursBetween_44 ?_
          refine j_goto (tgt := 49) dX0_hoursBetween_45 (by decide) ?_
          exact j_iret hM dX0_hoursBetween_49 rfl (by simpa [hrs, h4, h13, h22, h32] using hT)
set_option maxHeartbeats 4000000 in
set_option maxRecDepth 100000 in
theorem tc_fh_loop {g : jv_G} {X : jv_X} {T : jv_T} {n : Nat} {V : Nat → Nat → Int32} {L : Nat → Nat → Int64} {k z : Nat} {K low high : Nat} (hK : V 1 1 = nI K) (hK4 : K ≤ 4) (hlh : low < high) (hh : high < 12) (hM : jv_M g X T) : ∀ (m i : Nat) (acc : Int32) (v5 : Option Value), i ≤ K → K + 1 ≤ i + m → T (.inl (some (.int (fhL V low high (K - i) i acc)))) n SHT V L → jv_J g X I_X2_fewestHours 30 [some (jv_r g 1), some (.int (nI low)), some (.int (nI high)), some (.int acc), some (.int (nI i)), v5] [] n SHT V L k z := by
  intro m
  induction m with
  | zero => intro i acc v5 h1 h2; omega
  | succ m ih =>
  intro i acc v5 hi him hT
  refine j_iload_4 dX2_fewestHours_30 ?_
  refine j_aload_n_0 dX2_fewestHours_32 ?_
  refine G_X2_45 rfl dX2_fewestHours_33 tk_1 ?_
  refine j_top (y := nI K) hK ?_
  refine j_ic_geN (by omega) (by omega) (tgt := 79) dX2_fewestHours_36 (by decide) (fun h36 => ?_) (fun h36 => ?_)
  · refine j_iload_n_3 dX2_fewestHours_79 ?_
    exact j_iret hM dX2_fewestHours_80 rfl (by rw [show K - i = 0 by omega] at hT; exact hT)
  · refine j_aload_n_0 dX2_fewestHours_39 ?_
    refine G_X2_27 rfl dX2_fewestHours_40 tk_1 tr_1_6 ?_
    refine j_iload_4 dX2_fewestHours_43 ?_
    refine jv_aald (t := 4) (fun _ => rfl) rfl (by decide) (by decide) dX2_fewestHours_45 tk_6 tn_6 (by omega) (by decide) (tr_lif (by omega)) ?_
    refine j_iload_n_1 dX2_fewestHours_46 ?_
    refine j_iload_n_2 dX2_fewestHours_47 ?_
    refine C_X2_63 rfl (by decide) dX2_fewestHours_48 (tk_lif (isLif.of (by omega))) (Nat.le_of_ble_eq_true rfl) (Nat.le_of_eq (Nat.zero_add _)) (Nat.le_of_eq (Nat.zero_add _)) (fun _ _ hM' hT' => tc_hoursBetween (isLif.of (by omega)) hlh hh hM' hT') ?_
    refine j_istore_5 rfl (by decide) dX2_fewestHours_51 ?_
    refine j_iload_5 dX2_fewestHours_53 ?_
    refine j_iconst (v := -1) dX2_fewestHours_55 nc_iconst_m1 ?_
    refine j_ic_eq (tgt := 73) dX2_fewestHours_56 (by decide) (fun h56 => ?_) (fun h56 => ?_)
    · refine j_inc1_4 rfl (by decide) dX2_fewestHours_73 ?_
      refine j_goto (tgt := 30) dX2_fewestHours_76 (by decide) ?_
      refine ih (i + 1) _ _ (by omega) (by omega) ?_
      rw [show K - i = (K - (i + 1)) + 1 by omega] at hT
      simp only [fhL, h56, not_true_eq_false, not_false_eq_true, true_and, and_true, false_and, and_false, or_true, true_or, or_false, false_or, if_true, if_false, ite_true, ite_false, reduceIte] at hT
      exact hT
    · refine j_iload_n_3 dX2_fewestHours_59 ?_
      refine j_iconst (v := -1) dX2_fewestHours_60 nc_iconst_m1 ?_
      refine j_ic_eq (tgt := 70) dX2_fewestHours_61 (by decide) (fun h61 => ?_) (fun h61 => ?_)
      · refine j_iload_5 dX2_fewestHours_70 ?_
        refine j_istore_n_3 rfl (by decide) dX2_fewestHours_72 ?_
        refine j_inc1_4 rfl (by decide) dX2_fewestHours_73 ?_
        refine j_goto (tgt := 30) dX2_fewestHours_76 (by decide) ?_
        refine ih (i + 1) _ _ (by omega) (by omega) ?_
        rw [show K - i = (K - (i + 1)) + 1 by omega] at hT
        simp only [fhL, h56, h61, not_true_eq_false, not_false_eq_true, true_and, and_true, false_and, and_false, or_true, true_or, or_false, false_or, if_true, if_false, ite_true, ite_false, reduceIte] at hT
        exact hT
      · refine j_iload_5 dX2_fewestHours_64 ?_
        refine j_iload_n_3 dX2_fewestHours_66 ?_
        refine j_ic_ge (tgt := 73) dX2_fewestHours_67 (by decide) (fun h67 => ?_) (fun h67 => ?_)
        · refine j_inc1_4 rfl (by decide) dX2_fewestHours_73 ?_
          refine j_goto (tgt := 30) dX2_fewestHours_76 (by decide) ?_
          refine ih (i + 1) _ _ (by omega) (by omega) ?_
          rw [show K - i = (K - (i + 1)) + 1 by omega] at hT
          simp only [fhL, h56, h61, Int32.not_lt.mpr h67, not_true_eq_false, not_false_eq_true, true_and, and_true, false_and, and_false, or_true, true_or, or_false, false_or, if_true, if_false, ite_true, ite_false, reduceIte] at hT
          exact hT
        · refine j_iload_5 dX2_fewestHours_70 ?_
          refine j_istore_n_3 rfl (by decide) dX2_fewestHours_72 ?_
          refine j_inc1_4 rfl (by decide) dX2_fewestHours_73 ?_
          refine j_goto (tgt := 30) dX2_fewestHours_76 (by decide) ?_
          refine ih (i + 1) _ _ (by omega) (by omega) ?_
          rw [show K - i = (K - (i + 1)) + 1 by omega] at hT
          simp only [fhL, h56, h61, Int32.not_le.mp h67, not_true_eq_false, not_false_eq_true, true_and, and_true, false_and, and_false, or_true, true_or, or_false, false_or, if_true, if_false, ite_true, ite_false, reduceIte] at hT
          exact hT
set_option maxHeartbeats 4000000 in
set_option maxRecDepth 100000 in
theorem tc_fewestHours {g : jv_G} {X : jv_X} {T : jv_T} {n : Nat} {V : Nat → Nat → Int32} {L : Nat → Nat → Int64} {k z : Nat} {K low high : Nat} (hK : V 1 1 = nI K) (hK4 : K ≤ 4) (hlh : low < high) (hh : high < 12) (hM : jv_M g X T) (hT : T (.inl (some (.int (fh V K low high)))) n SHT V L) : jv_J g X I_X2_fewestHours 0 [some (jv_r g 1), some (.int (nI low)), some (.int (nI high)), none, none, none] [] n SHT V L k z := by
  refine j_iload_n_2 dX2_fewestHours_0 ?_
  refine j_iload_n_1 dX2_fewestHours_1 ?_
  refine j_isubN (by omega) dX2_fewestHours_2 ?_
  refine j_iconst (v := nI 1) dX2_fewestHours_3 nc_iconst_1 ?_
  refine j_ic_neN (by omega) (by omega) (tgt := 25) dX2_fewestHours_4 (by decide) (fun h4 => ?_) (fun h4 => ?_)
  · refine j_iconst (v := -1) dX2_fewestHours_25 nc_iconst_m1 ?_
    refine j_istore_n_3 rfl (by decide) dX2_fewestHours_26 ?_
    refine j_iconst (v := nI 0) dX2_fewestHours_27 nc_iconst_0 ?_
    refine j_istore_4 rfl (by decide) dX2_fewestHours_28 ?_
    unfold fh at hT
    exact tc_fh_loop hK hK4 hlh hh hM (K + 1) 0 _ _ (by omega) (by omega) (by rw [if_neg (fun c => h4 c.1)] at hT; exact hT)
  · refine j_aload_n_0 dX2_fewestHours_7 ?_
    refine G_X2_21 rfl dX2_fewestHours_8 tk_1 tr_1_5 ?_
    refine j_iload_n_1 dX2_fewestHours_11 ?_
    refine j_bald dX2_fewestHours_12 tk_5 tn_5 (by omega) (by decide) ?_
    refine j_if_eq (tgt := 25) dX2_fewestHours_13 (by decide) (fun h13 => ?_) (fun h13 => ?_)
    · refine j_iconst (v := -1) dX2_fewestHours_25 nc_iconst_m1 ?_
      refine j_istore_n_3 rfl (by decide) dX2_fewestHours_26 ?_
      refine j_iconst (v := nI 0) dX2_fewestHours_27 nc_iconst_0 ?_
      refine j_istore_4 rfl (by decide) dX2_fewestHours_28 ?_
      unfold fh at hT
      exact tc_fh_loop hK hK4 hlh hh hM (K + 1) 0 _ _ (by omega) (by omega) (by rw [if_neg (fun c => c.2 h13)] at hT; exact hT)
    · refine j_aload_n_0 dX2_fewestHours_16 ?_
      refine G_X2_18 rfl dX2_fewestHours_17 tk_1 tr_1_4 ?_
      refine j_iload_n_1 dX2_fewestHours_20 ?_
      refine j_iald dX2_fewestHours_21 tk_4 tn_4 (by omega) (by decide) ?_
      refine j_goto (tgt := 26) dX2_fewestHours_22 (by decide) ?_
      refine j_istore_n_3 rfl (by decide) dX2_fewestHours_26 ?_
      refine j_iconst (v := nI 0) dX2_fewestHours_27 nc_iconst_0 ?_
      refine j_istore_4 rfl (by decide) dX2_fewestHours_28 ?_
      unfold fh at hT
      exact tc_fh_loop hK hK4 hlh hh hM (K + 1) 0 _ _ (by omega) (by omega) (by rw [if_pos ⟨h4, h13⟩] at hT; exact hT)
set_option maxHeartbeats 4000000 in
set_option maxRecDepth 100000 in
theorem tc_lay_in {g : jv_G} {X : jv_X} {T : jv_T} {n : Nat} {V : Nat → Nat → Int32} {L : Nat → Nat → Int64} {k z : Nat} {N K i : Nat} (hN : V 1 0 = nI N) (hb : N ≤ 12) (hK : V 1 1 = nI K) (hK4 : K ≤ 4) (hi : i < N) (kk : ∀ v3, jv_J g X I_X2_layPipes 62 [some (jv_r g 1), some (.int (nI i)), some (.int (nI N)), v3] [] n SHT (layP V N K i N) L k z) : ∀ (m j : Nat) (v3 : Option Value), i + 1 ≤ j → j ≤ N → N + 1 ≤ j + m → jv_J g X I_X2_layPipes 23 [some (jv_r g 1), some (.int (nI i)), some (.int (nI j)), v3] [] n SHT (layP V N K i j) L k z := by
  intro m
  induction m with
  | zero => intro j v3 h1 h2 h3; omega
  | succ m ih =>
  intro j v3 hij hjN hjm
  refine j_iload_n_2 dX2_layPipes_23 ?_
  refine j_aload_n_0 dX2_layPipes_24 ?_
  refine G_X2_41 rfl dX2_layPipes_25 tk_1 ?_
  refine j_top (y := nI N) (by rw [layP_out (by omega)]; exact hN) ?_
  refine j_ic_geN (by omega) (by omega) (tgt := 62) dX2_layPipes_28 (by decide) (fun h28 => ?_) (fun h28 => ?_)
  · have e : j = N := by omega
    subst e
    exact kk _
  · refine j_aload_n_0 dX2_layPipes_31 ?_
    refine j_iload_n_1 dX2_layPipes_32 ?_
    refine j_iload_n_2 dX2_layPipes_33 ?_
    refine C_X2_59 rfl (by decide) dX2_layPipes_34 tk_1 (Nat.le_of_ble_eq_true rfl) (Nat.le_of_eq (Nat.zero_add _)) (Nat.le_of_eq (Nat.zero_add _)) (fun _ _ hM' hT' => tc_fewestHours (by rw [layP_out (by omega)]; exact hK) hK4 (by omega) (by omega) hM' hT') ?_
    refine j_top (fh_layP hb) ?_
    refine j_istore_n_3 rfl (by decide) dX2_layPipes_37 ?_
    refine j_aload_n_0 dX2_layPipes_38 ?_
    refine G_X2_33 rfl dX2_layPipes_39 tk_1 tr_1_7 ?_
    refine j_iload_n_1 dX2_layPipes_42 ?_
    refine jv_aald (t := 5) (fun _ => rfl) rfl (by decide) (by decide) dX2_layPipes_43 tk_7 tn_7 (by omega) (by decide) (tr_row (by omega)) ?_
    refine j_iload_n_2 dX2_layPipes_44 ?_
    refine j_iload_n_3 dX2_layPipes_45 ?_
    refine j_iast dX2_layPipes_46 (tk_row (by omega)) (tn_row (by omega)) (by omega) (by decide) ?_
    refine j_aload_n_0 dX2_layPipes_47 ?_
    refine G_X2_33 rfl dX2_layPipes_48 tk_1 tr_1_7 ?_
    refine j_iload_n_2 dX2_layPipes_51 ?_
    refine jv_aald (t := 5) (fun _ => rfl) rfl (by decide) (by decide) dX2_layPipes_52 tk_7 tn_7 (by omega) (by decide) (tr_row (by omega)) ?_
    refine j_iload_n_1 dX2_layPipes_53 ?_
    refine j_iload_n_3 dX2_layPipes_54 ?_
    refine j_iast dX2_layPipes_55 (tk_row (by omega)) (tn_row (by omega)) (by omega) (by decide) ?_
    refine j_inc1_2 rfl (by decide) dX2_layPipes_56 ?_
    refine j_goto (tgt := 23) dX2_layPipes_59 (by decide) ?_
    refine j_mem (layP_two (by omega) (by omega)) ?_
    exact ih (j + 1) _ (by omega) (by omega) (by omega)
set_option maxHeartbeats 4000000 in
set_option maxRecDepth 100000 in
theorem tc_lay_out {g : jv_G} {X : jv_X} {T : jv_T} {n : Nat} {V : Nat → Nat → Int32} {L : Nat → Nat → Int64} {k z : Nat} {N K : Nat} (hN : V 1 0 = nI N) (hb : N ≤ 12) (hK : V 1 1 = nI K) (hK4 : K ≤ 4) (hM : jv_M g X T) (hT : T (.inl none) n SHT (layV V N K) L) : ∀ (m i : Nat) (v2 v3 : Option Value), i ≤ N → N + 1 ≤ i + m → jv_J g X I_X2_layPipes 2 [some (jv_r g 1), some (.int (nI i)), v2, v3] [] n SHT (layP V N K i i) L k z := by
  intro m
  induction m with
  | zero => intro i v2 v3 h1 h2; omega
  | succ m ih =>
  intro i v2 v3 hi him
  refine j_iload_n_1 dX2_layPipes_2 ?_
  refine j_aload_n_0 dX2_layPipes_3 ?_
  refine G_X2_41 rfl dX2_layPipes_4 tk_1 ?_
  refine j_top (y := nI N) (by rw [layP_out (by omega)]; exact hN) ?_
  refine j_ic_geN (by omega) (by omega) (tgt := 68) dX2_layPipes_7 (by decide) (fun h7 => ?_) (fun h7 => ?_)
  · exact j_vret hM dX2_layPipes_68 rfl (by rw [layP_end (by omega)]; exact hT)
  · refine j_aload_n_0 dX2_layPipes_10 ?_
    refine G_X2_33 rfl dX2_layPipes_11 tk_1 tr_1_7 ?_
    refine j_iload_n_1 dX2_layPipes_14 ?_
    refine jv_aald (t := 5) (fun _ => rfl) rfl (by decide) (by decide) dX2_layPipes_15 tk_7 tn_7 (by omega) (by decide) (tr_row (by omega)) ?_
    refine j_iload_n_1 dX2_layPipes_16 ?_
    refine j_iconst (v := -1) dX2_layPipes_17 nc_iconst_m1 ?_
    refine j_iast dX2_layPipes_18 (tk_row (by omega)) (tn_row (by omega)) (by omega) (by decide) ?_
    refine j_mem (layP_dia (by omega)) ?_
    refine j_iload_n_1 dX2_layPipes_19 ?_
    refine j_iconst (v := nI 1) dX2_layPipes_20 nc_iconst_1 ?_
    refine j_iaddN dX2_layPipes_21 ?_
    refine j_istore_n_2 rfl (by decide) dX2_layPipes_22 ?_
    refine tc_lay_in (T := T) hN hb hK hK4 (by omega) (fun v3 => ?_) (N + 1) (i + 1) _ (by omega) (by omega) (by omega)
    refine j_inc1_1 rfl (by decide) dX2_layPipes_62 ?_
    refine j_goto (tgt := 2) dX2_layPipes_65 (by decide) ?_
    refine j_mem (layP_row (by omega)) ?_
    exact ih (i + 1) _ _ (by omega) (by omega)
set_option maxHeartbeats 4000000 in
set_option maxRecDepth 100000 in
theorem tc_layPipes {g : jv_G} {X : jv_X} {T : jv_T} {n : Nat} {V : Nat → Nat → Int32} {L : Nat → Nat → Int64} {k z : Nat} {N K : Nat} (hN : V 1 0 = nI N) (hb : N ≤ 12) (hK : V 1 1 = nI K) (hK4 : K ≤ 4) (hM : jv_M g X T) (hT : T (.inl none) n SHT (layV V N K) L) : jv_J g X I_X2_layPipes 0 [some (jv_r g 1), none, none, none] [] n SHT V L k z := by
  refine j_iconst (v := nI 0) dX2_layPipes_0 nc_iconst_0 ?_
  refine j_istore_n_1 rfl (by decide) dX2_layPipes_1 ?_
  refine j_mem (layP_0 (N := N) (K := K)).symm ?_
  exact tc_lay_out hN hb hK hK4 hM hT (N + 1) 0 _ _ (by omega) (by omega)
set_option maxHeartbeats 4000000 in
set_option maxRecDepth 100000 in
theorem tc_reset_loop {g : jv_G} {X : jv_X} {T : jv_T} {n : Nat} {V : Nat → Nat → Int32} {L : Nat → Nat → Int64} {k z : Nat} {x1 : Int32} {N : Nat} (hN : V 1 0 = nI N) (hb : N ≤ 12) (hK : V 1 1 = nI 0) (hM : jv_M g X T) (hT : T (.inl none) n SHT (layV (rstV V 12) N 0) L) : ∀ (m i : Nat), i ≤ 12 → 13 ≤ i + m → jv_J g X I_X2_reset 12 [some (jv_r g 1), some (.int x1), some (.int (nI i))] [] n SHT (rstV V i) L k z := by
  intro m
  induction m with
  | zero => intro i h1 h2; omega
  | succ m ih =>
  intro i hi him
  refine j_iload_n_2 dX2_reset_12 ?_
  refine j_bipush (v := nI 12) dX2_reset_13 nc_bipush_12 ?_
  refine j_ic_geN (by omega) (by omega) (tgt := 53) dX2_reset_15 (by decide) (fun h15 => ?_) (fun h15 => ?_)
  · have e12 : i = 12 := by omega
    subst e12
    refine j_aload_n_0 dX2_reset_53 ?_
    refine C_X2_48 rfl (by decide) dX2_reset_54 tk_1 (Nat.le_of_ble_eq_true rfl) (Nat.le_of_eq (Nat.zero_add _)) (Nat.le_of_eq (Nat.zero_add _)) (fun _ _ hM' hT' => tc_layPipes (by rw [rstV_out (by omega)]; exact hN) hb (by rw [rstV_out (by omega)]; exact hK) (by omega) hM' hT') ?_
    exact j_vret hM dX2_reset_57 rfl hT
  · refine j_aload_n_0 dX2_reset_18 ?_
    refine G_X2_9 rfl dX2_reset_19 tk_1 tr_1_2 ?_
    refine j_iload_n_2 dX2_reset_22 ?_
    refine j_bipush (v := nI 10) dX2_reset_23 nc_bipush_10 ?_
    refine j_iast dX2_reset_25 tk_2 tn_2 (by omega) (by decide) ?_
    refine j_aload_n_0 dX2_reset_26 ?_
    refine G_X2_15 rfl dX2_reset_27 tk_1 tr_1_3 ?_
    refine j_iload_n_2 dX2_reset_30 ?_
    refine j_iconst (v := nI 2) dX2_reset_31 nc_iconst_2 ?_
    refine j_iast dX2_reset_32 tk_3 tn_3 (by omega) (by decide) ?_
    refine j_aload_n_0 dX2_reset_33 ?_
    refine G_X2_18 rfl dX2_reset_34 tk_1 tr_1_4 ?_
    refine j_iload_n_2 dX2_reset_37 ?_
    refine j_iconst (v := nI 3) dX2_reset_38 nc_iconst_3 ?_
    refine j_iast dX2_reset_39 tk_4 tn_4 (by omega) (by decide) ?_
    refine j_aload_n_0 dX2_reset_40 ?_
    refine G_X2_21 rfl dX2_reset_41 tk_1 tr_1_5 ?_
    refine j_iload_n_2 dX2_reset_44 ?_
    refine j_iconst (v := nI 1) dX2_reset_45 nc_iconst_1 ?_
    refine j_bast dX2_reset_46 (jv_b01 (by first | exact Or.inl rfl | exact Or.inr rfl | assumption)) tk_5 tn_5 (by omega) (by decide) ?_
    refine j_mem rstV_s ?_
    refine j_inc1_2 rfl (by decide) dX2_reset_47 ?_
    refine j_goto (tgt := 12) dX2_reset_50 (by decide) ?_
    exact ih (i + 1) (by omega) (by omega)
set_option maxHeartbeats 4000000 in
set_option maxRecDepth 100000 in
theorem tc_reset {g : jv_G} {X : jv_X} {T : jv_T} {n : Nat} {V : Nat → Nat → Int32} {L : Nat → Nat → Int64} {k z : Nat} {N : Nat} (hb : N ≤ 12) (hM : jv_M g X T) (hT : T (.inl none) n SHT (layV (rstV (jv_U (jv_U V 1 0 (nI N)) 1 1 (nI 0)) 12) N 0) L) : jv_J g X I_X2_reset 0 [some (jv_r g 1), some (.int (nI N)), none] [] n SHT V L k z := by
  refine j_aload_n_0 dX2_reset_0 ?_
  refine j_iload_n_1 dX2_reset_1 ?_
  refine P_X2_41 rfl dX2_reset_2 tk_1 ?_
  refine j_aload_n_0 dX2_reset_5 ?_
  refine j_iconst (v := nI 0) dX2_reset_6 nc_iconst_0 ?_
  refine P_X2_45 rfl dX2_reset_7 tk_1 ?_
  refine j_iconst (v := nI 0) dX2_reset_10 nc_iconst_0 ?_
  refine j_istore_n_2 rfl (by decide) dX2_reset_11 ?_
  refine j_mem rstV_0.symm ?_
  exact tc_reset_loop (by rw [jv_Unj (by omega), jv_Ueq]) hb jv_Ueq hM hT 13 0 (by omega) (by omega)
set_option maxHeartbeats 4000000 in
set_option maxHeartbeats 4000000 in
set_option maxRecDepth 100000 in
theorem k_X0 {g : jv_G} {X : jv_X} {T : jv_T} {V : Nat → Nat → Int32} {L : Nat → Nat → Int64} {f : Nat → Nat} {q : Nat} (hq : isLif q) (hf : f q = 2) (hM : jv_M g X T) (hT : ∀ V' f', (∀ p, p < q → V' p = V p) → (∀ p, p < q → f' p = f p) → (∀ p, q ≤ p → p < q + 2 → full f' p) → T (.inl none) (q + 2) (PS (q + 2) f') V' L) : jv_J g X I_X0_init 0 [some (jv_r g q)] [] (q + 1) (PS (q + 1) f) V L 1 12 := by
  refine j_aload_n_0 dX0_init_0 ?_
  refine j_objInit (jv_gwm 51 (by decide +kernel) rfl) (jv_gwm 35 (by decide +kernel) rfl) (jv_gwm 36 (by decide +kernel) rfl) (by decide) dX0_init_1 (Nat.le_of_ble_eq_true rfl) ?_
  refine j_aload_n_0 dX0_init_4 ?_
  refine j_iconst (v := nI 0) dX0_init_5 nc_iconst_0 ?_
  refine P_X0_9 rfl (Or.inl nI_0) dX0_init_6 (PS_k (by omega) (sk_lif hq)) ?_
  refine j_aload_n_0 dX0_init_9 ?_
  refine j_iconst (v := nI 0) dX0_init_10 nc_iconst_0 ?_
  refine P_X0_15 rfl dX0_init_11 (PS_k (by omega) (sk_lif hq)) ?_
  refine j_aload_n_0 dX0_init_14 ?_
  refine j_bipush (v := nI 12) dX0_init_15 nc_bipush_12 ?_
  refine jv_newZ (k2 := 0) (z2 := 0) (jv_gwm 65 (by decide +kernel) rfl) dX0_init_17 (by omega) (by omega) (by omega) ?_
  rw [PS_nr (SH_lis hq)]
  refine P_X0_19 rfl rfl dX0_init_19 (PS_k (by omega) (sk_lif hq)) ?_
  rw [PS_us (by omega) ((upf_ne (by omega)).trans hf) (sr_lis hq)]
  refine j_vret hM dX0_init_22 rfl (hT _ _ (fun p hp => by rw [NV_o (by omega), jv_U_other (by omega), jv_U_other (by omega)]) (fun p hp => by rw [upf_ne (by omega), upf_ne (by omega)]) (fun p h1 h2 => ?_))
  have hc : p = q ∨ p = q + 1 := by omega
  rcases hc with e | e <;> subst e
  · intro k hk
    rw [upf_eq] at hk
    rw [SH_lif hq]
    exact if_neg (by omega)
  · exact full_row (SH_lis hq)

set_option maxHeartbeats 4000000 in
set_option maxRecDepth 100000 in
theorem k_X1 {g : jv_G} {X : jv_X} {T : jv_T} {V : Nat → Nat → Int32} {L : Nat → Nat → Int64} {f : Nat → Nat} {q : Nat} (hq : isRum q) (hf : f q = 2) (hM : jv_M g X T) (hT : ∀ V' f', (∀ p, p < q → V' p = V p) → (∀ p, p < q → f' p = f p) → (∀ p, q ≤ p → p < q + 10 → full f' p) → T (.inl none) (q + 10) (PS (q + 10) f') V' L) : jv_J g X I_X1_init 0 [some (jv_r g q)] [] (q + 1) (PS (q + 1) f) V L 9 108 := by
  refine j_aload_n_0 dX1_init_0 ?_
  refine j_objInit (jv_gwm 146 (by decide +kernel) rfl) (jv_gwm 35 (by decide +kernel) rfl) (jv_gwm 36 (by decide +kernel) rfl) (by decide) dX1_init_1 (Nat.le_of_ble_eq_true rfl) ?_
  refine j_aload_n_0 dX1_init_4 ?_
  refine j_iconst (v := nI 0) dX1_init_5 nc_iconst_0 ?_
  refine P_X1_9 rfl dX1_init_6 (PS_k (by omega) (sk_rum hq)) ?_
  refine j_aload_n_0 dX1_init_9 ?_
  refine j_iconst (v := nI 0) dX1_init_10 nc_iconst_0 ?_
  refine P_X1_15 rfl dX1_init_11 (PS_k (by omega) (sk_rum hq)) ?_
  refine j_aload_n_0 dX1_init_14 ?_
  refine j_bipush (v := nI 12) dX1_init_15 nc_bipush_12 ?_
  refine jv_newI (k2 := 8) (z2 := 96) (jv_gwm 64 (by decide +kernel) rfl) dX1_init_17 (by omega) (by omega) (by omega) ?_
  rw [PS_nr (SH_rua (i := 1) hq (by omega) (by omega))]
  refine P_X1_18 rfl rfl dX1_init_19 (PS_k (by omega) (sk_rum hq)) ?_
  rw [PS_us (by omega) ((upf_ne (by omega)).trans hf) (sr_rum_2 hq)]
  refine j_aload_n_0 dX1_init_22 ?_
  refine j_bipush (v := nI 12) dX1_init_23 nc_bipush_12 ?_
  refine jv_newI (k2 := 7) (z2 := 84) (jv_gwm 64 (by decide +kernel) rfl) dX1_init_25 (by omega) (by omega) (by omega) ?_
  rw [PS_nr (SH_rua (i := 2) hq (by omega) (by omega))]
  refine P_X1_22 rfl rfl dX1_init_27 (PS_k (by omega) (sk_rum hq)) ?_
  rw [PS_us (by omega) ((upf_ne (by omega)).trans upf_eq) (sr_rum_3 hq)]
  refine j_aload_n_0 dX1_init_30 ?_
  refine j_bipush (v := nI 12) dX1_init_31 nc_bipush_12 ?_
  refine jv_newI (k2 := 6) (z2 := 72) (jv_gwm 64 (by decide +kernel) rfl) dX1_init_33 (by omega) (by omega) (by omega) ?_
  rw [PS_nr (SH_rua (i := 3) hq (by omega) (by omega))]
  refine P_X1_25 rfl rfl dX1_init_35 (PS_k (by omega) (sk_rum hq)) ?_
  rw [PS_us (by omega) ((upf_ne (by omega)).trans upf_eq) (sr_rum_4 hq)]
  refine j_aload_n_0 dX1_init_38 ?_
  refine j_bipush (v := nI 12) dX1_init_39 nc_bipush_12 ?_
  refine jv_newI (k2 := 5) (z2 := 60) (jv_gwm 64 (by decide +kernel) rfl) dX1_init_41 (by omega) (by omega) (by omega) ?_
  rw [PS_nr (SH_rua (i := 4) hq (by omega) (by omega))]
  refine P_X1_28 rfl rfl dX1_init_43 (PS_k (by omega) (sk_rum hq)) ?_
  rw [PS_us (by omega) ((upf_ne (by omega)).trans upf_eq) (sr_rum_5 hq)]
  refine j_aload_n_0 dX1_init_46 ?_
  refine j_bipush (v := nI 12) dX1_init_47 nc_bipush_12 ?_
  refine jv_newI (k2 := 4) (z2 := 48) (jv_gwm 64 (by decide +kernel) rfl) dX1_init_49 (by omega) (by omega) (by omega) ?_
  rw [PS_nr (SH_rua (i := 5) hq (by omega) (by omega))]
  refine P_X1_31 rfl rfl dX1_init_51 (PS_k (by omega) (sk_rum hq)) ?_
  rw [PS_us (by omega) ((upf_ne (by omega)).trans upf_eq) (sr_rum_6 hq)]
  refine j_aload_n_0 dX1_init_54 ?_
  refine j_bipush (v := nI 12) dX1_init_55 nc_bipush_12 ?_
  refine jv_newI (k2 := 3) (z2 := 36) (jv_gwm 64 (by decide +kernel) rfl) dX1_init_57 (by omega) (by omega) (by omega) ?_
  rw [PS_nr (SH_rua (i := 6) hq (by omega) (by omega))]
  refine P_X1_34 rfl rfl dX1_init_59 (PS_k (by omega) (sk_rum hq)) ?_
  rw [PS_us (by omega) ((upf_ne (by omega)).trans upf_eq) (sr_rum_7 hq)]
  refine j_aload_n_0 dX1_init_62 ?_
  refine j_bipush (v := nI 12) dX1_init_63 nc_bipush_12 ?_
  refine jv_newI (k2 := 2) (z2 := 24) (jv_gwm 64 (by decide +kernel) rfl) dX1_init_65 (by omega) (by omega) (by omega) ?_
  rw [PS_nr (SH_rua (i := 7) hq (by omega) (by omega))]
  refine P_X1_37 rfl rfl dX1_init_67 (PS_k (by omega) (sk_rum hq)) ?_
  rw [PS_us (by omega) ((upf_ne (by omega)).trans upf_eq) (sr_rum_8 hq)]
  refine j_aload_n_0 dX1_init_70 ?_
  refine j_bipush (v := nI 12) dX1_init_71 nc_bipush_12 ?_
  refine jv_newI (k2 := 1) (z2 := 12) (jv_gwm 64 (by decide +kernel) rfl) dX1_init_73 (by omega) (by omega) (by omega) ?_
  rw [PS_nr (SH_rua (i := 8) hq (by omega) (by omega))]
  refine P_X1_40 rfl rfl dX1_init_75 (PS_k (by omega) (sk_rum hq)) ?_
  rw [PS_us (by omega) ((upf_ne (by omega)).trans upf_eq) (sr_rum_9 hq)]
  refine j_aload_n_0 dX1_init_78 ?_
  refine j_bipush (v := nI 12) dX1_init_79 nc_bipush_12 ?_
  refine jv_newI (k2 := 0) (z2 := 0) (jv_gwm 64 (by decide +kernel) rfl) dX1_init_81 (by omega) (by omega) (by omega) ?_
  rw [PS_nr (SH_rua (i := 9) hq (by omega) (by omega))]
  refine P_X1_43 rfl rfl dX1_init_83 (PS_k (by omega) (sk_rum hq)) ?_
  rw [PS_us (by omega) ((upf_ne (by omega)).trans upf_eq) (sr_rum_10 hq)]
  refine j_vret hM dX1_init_86 rfl (hT _ _ (fun p hp => by rw [NV_o (by omega), NV_o (by omega), NV_o (by omega), NV_o (by omega), NV_o (by omega), NV_o (by omega), NV_o (by omega), NV_o (by omega), NV_o (by omega), jv_U_other (by omega), jv_U_other (by omega)]) (fun p hp => by rw [upf_ne (by omega), upf_ne (by omega), upf_ne (by omega), upf_ne (by omega), upf_ne (by omega), upf_ne (by omega), upf_ne (by omega), upf_ne (by omega), upf_ne (by omega), upf_ne (by omega), upf_ne (by omega), upf_ne (by omega), upf_ne (by omega), upf_ne (by omega), upf_ne (by omega), upf_ne (by omega), upf_ne (by omega), upf_ne (by omega)]) (fun p h1 h2 => ?_))
  have hc : p = q ∨ p = q + 1 ∨ p = q + 2 ∨ p = q + 3 ∨ p = q + 4 ∨ p = q + 5 ∨ p = q + 6 ∨ p = q + 7 ∨ p = q + 8 ∨ p = q + 9 := by omega
  rcases hc with e | e | e | e | e | e | e | e | e | e <;> subst e
  · intro k hk
    rw [upf_eq] at hk
    rw [SH_rum hq]
    exact if_neg (by omega)
  · exact full_row (SH_rua (i := 1) hq (by omega) (by omega))
  · exact full_row (SH_rua (i := 2) hq (by omega) (by omega))
  · exact full_row (SH_rua (i := 3) hq (by omega) (by omega))
  · exact full_row (SH_rua (i := 4) hq (by omega) (by omega))
  · exact full_row (SH_rua (i := 5) hq (by omega) (by omega))
  · exact full_row (SH_rua (i := 6) hq (by omega) (by omega))
  · exact full_row (SH_rua (i := 7) hq (by omega) (by omega))
  · exact full_row (SH_rua (i := 8) hq (by omega) (by omega))
  · exact full_row (SH_rua (i := 9) hq (by omega) (by omega))

theorem SH_28 : SH s0 28 = (4, 0, fun k => if k < 3 then some (29 + k) else none) := rfl
theorem SH_29 : SH s0 (28 + 1) = (10, 12, fun _ => none) := rfl
theorem SH_30 : SH s0 (28 + 2) = (10, 12, fun _ => none) := rfl
theorem SH_31 : SH s0 (28 + 3) = (11, 12, fun _ => none) := rfl

set_option maxHeartbeats 4000000 in
set_option maxRecDepth 100000 in
theorem k_X3 {g : jv_G} {X : jv_X} {T : jv_T} {V : Nat → Nat → Int32} {L : Nat → Nat → Int64} {f : Nat → Nat} (hf : f 28 = 0) (hM : jv_M g X T) (hT : ∀ V' f', (∀ p, p < 28 → V' p = V p) → (∀ p, p < 28 → f' p = f p) → (∀ p, 28 ≤ p → p < 28 + 4 → full f' p) → T (.inl none) (28 + 4) (PS (28 + 4) f') V' L) : jv_J g X I_X3_init 0 [some (jv_r g 28)] [] (28 + 1) (PS (28 + 1) f) V L 3 36 := by
  refine j_aload_n_0 dX3_init_0 ?_
  refine j_objInit (jv_gwm 127 (by decide +kernel) rfl) (jv_gwm 35 (by decide +kernel) rfl) (jv_gwm 36 (by decide +kernel) rfl) (by decide) dX3_init_1 (Nat.le_of_ble_eq_true rfl) ?_
  refine j_aload_n_0 dX3_init_4 ?_
  refine j_bipush (v := nI 12) dX3_init_5 nc_bipush_12 ?_
  refine jv_newI (k2 := 2) (z2 := 24) (jv_gwm 64 (by decide +kernel) rfl) dX3_init_7 (by omega) (by omega) (by omega) ?_
  rw [PS_nr SH_29]
  refine P_X3_9 rfl rfl dX3_init_9 (PS_k (by omega) sk_28) ?_
  rw [PS_us (by omega) ((upf_ne (by omega)).trans hf) sr_28_0]
  refine j_aload_n_0 dX3_init_12 ?_
  refine j_bipush (v := nI 12) dX3_init_13 nc_bipush_12 ?_
  refine jv_newI (k2 := 1) (z2 := 12) (jv_gwm 64 (by decide +kernel) rfl) dX3_init_15 (by omega) (by omega) (by omega) ?_
  rw [PS_nr SH_30]
  refine P_X3_15 rfl rfl dX3_init_17 (PS_k (by omega) sk_28) ?_
  rw [PS_us (by omega) ((upf_ne (by omega)).trans upf_eq) sr_28_1]
  refine j_aload_n_0 dX3_init_20 ?_
  refine j_bipush (v := nI 12) dX3_init_21 nc_bipush_12 ?_
  refine jv_newZ (k2 := 0) (z2 := 0) (jv_gwm 65 (by decide +kernel) rfl) dX3_init_23 (by omega) (by omega) (by omega) ?_
  rw [PS_nr SH_31]
  refine P_X3_18 rfl rfl dX3_init_25 (PS_k (by omega) sk_28) ?_
  rw [PS_us (by omega) ((upf_ne (by omega)).trans upf_eq) sr_28_2]
  refine j_vret hM dX3_init_28 rfl (hT _ _ (fun p hp => by rw [NV_o (by omega), NV_o (by omega), NV_o (by omega)]) (fun p hp => by rw [upf_ne (by omega), upf_ne (by omega), upf_ne (by omega), upf_ne (by omega), upf_ne (by omega), upf_ne (by omega)]) (fun p h1 h2 => ?_))
  have hc : p = 28 ∨ p = 28 + 1 ∨ p = 28 + 2 ∨ p = 28 + 3 := by omega
  rcases hc with e | e | e | e <;> subst e
  · intro k hk
    rw [upf_eq] at hk
    rw [SH_28]
    exact if_neg (by omega)
  · exact full_row SH_29
  · exact full_row SH_30
  · exact full_row SH_31

theorem SH_2 : SH s0 2 = (10, 12, fun _ => none) := rfl
theorem SH_3 : SH s0 3 = (10, 12, fun _ => none) := rfl
theorem SH_4 : SH s0 4 = (10, 12, fun _ => none) := rfl
theorem SH_5 : SH s0 5 = (11, 12, fun _ => none) := rfl
theorem PS_mna {f : Nat → Nat} : jv_mnS (PS 7 f) 7 12 12 = PS (7 + 1 + 12) (upf f 7 12) := by
  funext p
  unfold jv_mnS PS upf
  by_cases e : p = 7
  · subst e
    rw [if_pos rfl, if_pos (by omega)]
    show (15, 12, _) = (15, 12, _)
    congr 2
    funext k
    simp only [if_pos]
    by_cases hk : k < 12
    · rw [if_pos hk, if_pos hk]; exact (sr_row hk).symm
    · rw [if_neg hk, if_neg hk]
  · rw [if_neg e]
    by_cases h : 7 < p ∧ p ≤ 7 + 12
    · rw [if_pos h, if_pos (by omega)]
      obtain ⟨a, ha, rfl⟩ : ∃ a, a < 12 ∧ p = 8 + a := ⟨p - 8, by omega, by omega⟩
      have : SH s0 (8 + a) = (10, 12, fun _ => none) := by
        unfold SH
        rw [if_neg (by omega), if_pos (by omega)]
      rw [this]
      congr 2
      funext k
      exact (ite_self _).symm
    · rw [if_neg h]
      by_cases h7 : p < 7
      · rw [if_pos h7, if_pos (by omega), if_neg e]
      · rw [if_neg h7, if_neg (by omega)]
def TK (T0 : Nat → (Nat → jv_S) → (Nat → Nat → Int32) → (Nat → Nat → Int64) → Prop) : jv_T := fun o n sh V L => o = .inl none ∧ T0 n sh V L

set_option maxHeartbeats 4000000 in
set_option maxRecDepth 100000 in
theorem k_X2_loop {g : jv_G} {X : jv_X} {T : jv_T} {V0 : Nat → Nat → Int32} {L : Nat → Nat → Int64} (hM : jv_M g X T) (hT : ∀ U f', U 0 = V0 0 → f' 0 = 0 → (∀ p, 1 ≤ p → p < 28 → full f' p) → T (.inl none) 28 (PS 28 f') (layV (rstV (jv_U (jv_U U 1 0 (nI 6)) 1 1 (nI 0)) 12) 6 0) L) : ∀ (m i : Nat) (V : Nat → Nat → Int32) (f : Nat → Nat), i + m = 4 → f 6 = i → f 0 = 0 → f 1 = 8 → (∀ p, 1 ≤ p → p < 20 + 2 * i → p ≠ 6 → full f p) → V 0 = V0 0 → jv_J g X I_X2_init 58 [some (jv_r g 1), some (.int (nI i))] [] (20 + 2 * i) (PS (20 + 2 * i) f) V L (2 * m) (15 * m) := by
  intro m
  induction m with
  | zero =>
    intro i V f hi h6 h0 h1 hfu hV
    have e4 : i = 4 := by omega
    subst e4
    refine j_iload_n_1 dX2_init_58 ?_
    refine j_iconst (v := nI 4) dX2_init_59 nc_iconst_4 ?_
    refine j_ic_ge (tgt := 82) dX2_init_60 (by decide) (fun _ => ?_) (fun h => absurd (Int32.le_refl _) h)
    refine j_aload_n_0 dX2_init_82 ?_
    refine j_bipush (v := nI 6) dX2_init_83 nc_bipush_6 ?_
    have e : PS 28 f = SHT := PS_T h0 (fun p p1 p2 => by
      by_cases e : p = 6
      · subst e
        intro k hk
        rw [h6] at hk
        show (if k < 4 then some (20 + 2 * k) else none) = none
        exact if_neg (by omega)
      · exact hfu p p1 (by omega) e)
    show jv_J g X I_X2_init 85 _ _ 28 (PS 28 f) _ _ _ _
    rw [e]
    refine C_X2_37 rfl (by decide) dX2_init_85 tk_1 (Nat.le_of_ble_eq_true rfl) (Nat.le_of_eq (Nat.zero_add _)) (Nat.le_of_eq (Nat.zero_add _)) (fun _ _ hM' hT' => tc_reset (by omega) hM' hT') ?_
    refine j_vret hM dX2_init_88 rfl ?_
    rw [← e]
    exact hT V f hV h0 (fun p p1 p2 => by
      by_cases e : p = 6
      · subst e
        intro k hk
        rw [h6] at hk
        show (if k < 4 then some (20 + 2 * k) else none) = none
        exact if_neg (by omega)
      · exact hfu p p1 (by omega) e)
  | succ m ih =>
    intro i V f hi h6 h0 h1 hfu hV
    have hq : isLif (20 + 2 * i) := isLif.of (by omega)
    refine j_iload_n_1 dX2_init_58 ?_
    refine j_iconst (v := nI 4) dX2_init_59 nc_iconst_4 ?_
    refine j_ic_ge (tgt := 82) dX2_init_60 (by decide) (fun h => absurd h (nI_ge (by omega) (by omega))) (fun _ => ?_)
    refine j_aload_n_0 dX2_init_63 ?_
    refine G_X2_27 rfl dX2_init_64 (PS_k (by omega) sk_1) (PS_r (by omega) (by omega) sr_1_6) ?_
    refine j_iload_n_1 dX2_init_67 ?_
    refine jv_new (k2 := 1 + 2 * m) (z2 := 12 + 15 * m) jv_cls0 (jv_gwm 43 (by decide +kernel) rfl) (jv_gwm 47 (by decide +kernel) rfl) (jv_gwm 16 (by decide +kernel) rfl) (by decide +kernel) dX2_init_68 (by omega) (by omega) ?_
    rw [PS_ns (K := 0 + 1) (N := 0) (r0 := 2) (sk_lif hq) (by rw [SH_lif hq]) (fun k hk => by rw [SH_lif hq]; exact if_neg (by omega))]
    refine j_dup rfl dX2_init_71 ?_
    generalize hW : jv_NV V (20 + 2 * i) (fun _ => 0) = V1
    generalize hg : upf f (20 + 2 * i) 2 = f1
    refine R_X2_36 (n1 := 0) (sh1 := fun _ => (0, 0, fun _ => none)) (V1 := fun _ _ => 0) (L1 := fun _ _ => 0) (T' := (fun o n' sh' V' L' => ∃ f', o = .inl none ∧ n' = (20 + 2 * i) + 2 ∧ sh' = PS ((20 + 2 * i) + 2) f' ∧ (∀ p, p < (20 + 2 * i) → V' p = V1 p) ∧ (∀ p, p < (20 + 2 * i) → f' p = f1 p) ∧ (∀ p, (20 + 2 * i) ≤ p → p < (20 + 2 * i) + 2 → full f' p) ∧ L = L')) (k' := 1) (z' := 12) (k2 := 2 * m) (z2 := 15 * m) rfl (by decide) dX2_init_72 (PS_k (by omega) (sk_lif hq)) (Nat.le_of_ble_eq_true rfl) (by omega) (by omega) (fun X' hM' => k_X0 hq (by rw [← hg]; exact upf_eq) hM' (fun V' f' h1 h2 h3 => ⟨f', rfl, rfl, rfl, h1, h2, h3, rfl⟩)) (fun v n' sh' V' L' h => ?_) (fun E n' sh' V' L' h => by obtain ⟨_, h, _⟩ := h; cases h)
    obtain ⟨f', ev, rfl, rfl, hV', hf', hfu', rfl⟩ := h
    cases ev
    refine jv_aast (ci := 0) (t := 4) jv_cls0 (fun _ => rfl) (by decide) (by decide) dX2_init_75 (PS_k (by omega) sk_6) (PS_n (by omega) sn_6) (show i < 4 by omega) (by omega) (PS_k (by omega) (sk_lif hq)) ?_
    rw [PS_us (by omega) (by rw [hf' 6 (by omega), ← hg, upf_ne (by omega)]; exact h6) (sr_lif (by omega))]
    refine j_inc1_1 rfl (by decide) dX2_init_76 ?_
    refine j_goto (tgt := 58) dX2_init_79 (by decide) ?_
    refine ih (i + 1) V' (upf f' 6 (i + 1)) (by omega) upf_eq (by rw [upf_ne (by omega), hf' 0 (by omega), ← hg, upf_ne (by omega)]; exact h0) (by rw [upf_ne (by omega), hf' 1 (by omega), ← hg, upf_ne (by omega)]; exact h1) (fun p p1 p2 p6 => ?_) (by rw [hV' 0 (by omega), ← hW, NV_o (by omega)]; exact hV)
    by_cases hp : p < 20 + 2 * i
    · exact full_of (hfu p p1 hp p6) (by rw [upf_ne p6, hf' p hp, ← hg, upf_ne (by omega)])
    · exact full_of (hfu' p (by omega) (by omega)) (upf_ne p6)

set_option maxHeartbeats 4000000 in
set_option maxRecDepth 100000 in
theorem k_X2 {g : jv_G} {X : jv_X} {T : jv_T} {V : Nat → Nat → Int32} {L : Nat → Nat → Int64} {f : Nat → Nat} (hf : f 1 = 2) (h0 : f 0 = 0) (hM : jv_M g X T) (hT : ∀ U f', U 0 = V 0 → f' 0 = 0 → (∀ p, 1 ≤ p → p < 28 → full f' p) → T (.inl none) 28 (PS 28 f') (layV (rstV (jv_U (jv_U U 1 0 (nI 6)) 1 1 (nI 0)) 12) 6 0) L) : jv_J g X I_X2_init 0 [some (jv_r g 1), none] [] 2 (PS 2 f) V L 26 268 := by
  refine j_aload_n_0 dX2_init_0 ?_
  refine j_objInit (jv_gwm 42 (by decide +kernel) rfl) (jv_gwm 35 (by decide +kernel) rfl) (jv_gwm 36 (by decide +kernel) rfl) (by decide) dX2_init_1 (Nat.le_of_ble_eq_true rfl) ?_
  refine j_aload_n_0 dX2_init_4 ?_
  refine j_bipush (v := nI 12) dX2_init_5 nc_bipush_12 ?_
  refine jv_newI (k2 := 25) (z2 := 256) (jv_gwm 64 (by decide +kernel) rfl) dX2_init_7 (by omega) (by omega) (by omega) ?_
  rw [PS_nr SH_2]
  refine P_X2_9 rfl rfl dX2_init_9 (PS_k (by omega) sk_1) ?_
  rw [PS_us (by omega) ((upf_ne (by omega)).trans hf) sr_1_2]
  refine j_aload_n_0 dX2_init_12 ?_
  refine j_bipush (v := nI 12) dX2_init_13 nc_bipush_12 ?_
  refine jv_newI (k2 := 24) (z2 := 244) (jv_gwm 64 (by decide +kernel) rfl) dX2_init_15 (by omega) (by omega) (by omega) ?_
  rw [PS_nr SH_3]
  refine P_X2_15 rfl rfl dX2_init_17 (PS_k (by omega) sk_1) ?_
  rw [PS_us (by omega) ((upf_ne (by omega)).trans upf_eq) sr_1_3]
  refine j_aload_n_0 dX2_init_20 ?_
  refine j_bipush (v := nI 12) dX2_init_21 nc_bipush_12 ?_
  refine jv_newI (k2 := 23) (z2 := 232) (jv_gwm 64 (by decide +kernel) rfl) dX2_init_23 (by omega) (by omega) (by omega) ?_
  rw [PS_nr SH_4]
  refine P_X2_18 rfl rfl dX2_init_25 (PS_k (by omega) sk_1) ?_
  rw [PS_us (by omega) ((upf_ne (by omega)).trans upf_eq) sr_1_4]
  refine j_aload_n_0 dX2_init_28 ?_
  refine j_bipush (v := nI 12) dX2_init_29 nc_bipush_12 ?_
  refine jv_newZ (k2 := 22) (z2 := 220) (jv_gwm 65 (by decide +kernel) rfl) dX2_init_31 (by omega) (by omega) (by omega) ?_
  rw [PS_nr SH_5]
  refine P_X2_21 rfl rfl dX2_init_33 (PS_k (by omega) sk_1) ?_
  rw [PS_us (by omega) ((upf_ne (by omega)).trans upf_eq) sr_1_5]
  refine j_aload_n_0 dX2_init_36 ?_
  refine j_iconst (v := nI 4) dX2_init_37 nc_iconst_4 ?_
  refine jv_anew (t := 4) (k2 := 21) (z2 := 216) (fun _ => rfl) (by decide) (by decide) (fun U h => h.2.2.2.2.2.2.1) (jv_gwm 43 (by decide +kernel) rfl) dX2_init_38 (by omega) (by omega) (by omega) ?_
  rw [PS_ns (K := 4 + 10) (N := 4) (r0 := 0) sk_6 sn_6 (fun k h => absurd h (Nat.not_lt_zero k))]
  refine P_X2_27 rfl rfl dX2_init_41 (PS_k (by omega) sk_1) ?_
  rw [PS_us (by omega) ((upf_ne (by omega)).trans upf_eq) sr_1_6]
  refine j_aload_n_0 dX2_init_44 ?_
  refine j_bipush (v := nI 12) dX2_init_45 nc_bipush_12 ?_
  refine j_bipush (v := nI 12) dX2_init_47 nc_bipush_12 ?_
  refine jv_mna (k2 := 8) (z2 := 60) (jv_gwm 45 (by decide +kernel) rfl) (jv_gwm 64 (by decide +kernel) rfl) dX2_init_49 (by omega) (by omega) (by omega) (by omega) ?_
  rw [PS_mna]
  refine P_X2_33 rfl rfl dX2_init_53 (PS_k (by omega) sk_1) ?_
  rw [PS_us (by omega) ((upf_ne (by omega)).trans upf_eq) sr_1_7]
  refine j_iconst (v := nI 0) dX2_init_56 nc_iconst_0 ?_
  refine j_istore_n_1 rfl (by decide) dX2_init_57 ?_
  refine k_X2_loop hM hT 4 0 _ _ (by omega) ?_ ?_ ?_ (fun p p1 p2 p6 => ?_) ?_
  · rw [upf_ne (by omega), upf_ne (by omega), upf_ne (by omega), upf_eq]
  · rw [upf_ne (by omega), upf_ne (by omega), upf_ne (by omega), upf_ne (by omega), upf_ne (by omega), upf_ne (by omega), upf_ne (by omega), upf_ne (by omega), upf_ne (by omega), upf_ne (by omega), upf_ne (by omega), upf_ne (by omega)]; exact h0
  · rw [upf_eq]
  · have hc : p = 1 ∨ p = 2 ∨ p = 3 ∨ p = 4 ∨ p = 5 ∨ p = 7 ∨ (8 ≤ p ∧ p < 20) := by omega
    rcases hc with e | e | e | e | e | e | ⟨e1, e2⟩
    · subst e; intro k hk; rw [upf_eq] at hk; show (if 2 ≤ k ∧ k ≤ 7 then some k else none) = none; exact if_neg (by omega)
    · subst e; exact full_row SH_2
    · subst e; exact full_row SH_3
    · subst e; exact full_row SH_4
    · subst e; exact full_row SH_5
    · subst e; intro k hk; rw [upf_ne (by omega), upf_eq] at hk; show (if k < 12 then some (8 + k) else none) = none; exact if_neg (by omega)
    · obtain ⟨a, ha, rfl⟩ : ∃ a, a < 12 ∧ p = 8 + a := ⟨p - 8, by omega, by omega⟩
      exact full_row (K := 10) (N := 12) (by unfold SH; rw [if_neg (by omega), if_pos (by omega)])
  · show jv_mnV _ 7 12 0 = V 0
    unfold jv_mnV
    rw [if_neg (by omega), NV_o (by omega), NV_o (by omega), NV_o (by omega), NV_o (by omega)]

set_option maxHeartbeats 4000000 in
set_option maxRecDepth 100000 in
theorem k_X4_loop {g : jv_G} {X : jv_X} {T : jv_T} {V0 : Nat → Nat → Int32} {L : Nat → Nat → Int64} (hM : jv_M g X T) (hT : ∀ V' f', (∀ p, p < 43 → V' p = V0 p) → (∀ p, p < 123 → full f' p) → T (.inl none) 123 (PS 123 f') V' L) : ∀ (m i : Nat) (V : Nat → Nat → Int32) (f : Nat → Nat), i + m = 8 → f 32 = i → f 0 = 4 → (∀ p, p < 43 + 10 * i → p ≠ 32 → full f p) → (∀ p, p < 43 → V p = V0 p) → jv_J g X I_X4_init 58 [some (jv_r g 0), some (.int (nI i))] [] (43 + 10 * i) (PS (43 + 10 * i) f) V L (10 * m) (119 * m) := by
  intro m
  induction m with
  | zero =>
    intro i V f hi h32 h0 hfu hV
    have e8 : i = 8 := by omega
    subst e8
    refine j_iload_n_1 dX4_init_58 ?_
    refine j_bipush (v := nI 8) dX4_init_59 nc_bipush_8 ?_
    refine j_ic_ge (tgt := 83) dX4_init_61 (by decide) (fun _ => ?_) (fun h => absurd (Int32.le_refl _) h)
    refine j_vret hM dX4_init_83 rfl (hT V f hV (fun p hp => ?_))
    by_cases e : p = 32
    · subst e
      intro k hk
      rw [h32] at hk
      show (if k < 8 then some (43 + 10 * k) else none) = none
      exact if_neg (by omega)
    · exact hfu p (by omega) e
  | succ m ih =>
    intro i V f hi h32 h0 hfu hV
    have hq : isRum (43 + 10 * i) := isRum.of (by omega)
    refine j_iload_n_1 dX4_init_58 ?_
    refine j_bipush (v := nI 8) dX4_init_59 nc_bipush_8 ?_
    refine j_ic_ge (tgt := 83) dX4_init_61 (by decide) (fun h => absurd h (nI_ge (by omega) (by omega))) (fun _ => ?_)
    refine j_aload_n_0 dX4_init_64 ?_
    refine G_X4_25 rfl dX4_init_65 (PS_k (by omega) sk_0) (PS_r (by omega) (by omega) sr_0_2) ?_
    refine j_iload_n_1 dX4_init_68 ?_
    refine jv_new (k2 := 9 + 10 * m) (z2 := 108 + 119 * m) jv_cls1 (jv_gwm 140 (by decide +kernel) rfl) (jv_gwm 142 (by decide +kernel) rfl) (jv_gwm 18 (by decide +kernel) rfl) (by decide +kernel) dX4_init_69 (by omega) (by omega) ?_
    rw [PS_ns (K := 1 + 1) (N := 0) (r0 := 2) (sk_rum hq) (by rw [SH_rum hq]) (fun k hk => by rw [SH_rum hq]; exact if_neg (by omega))]
    refine j_dup rfl dX4_init_72 ?_
    generalize hW : jv_NV V (43 + 10 * i) (fun _ => 0) = V1
    generalize hg : upf f (43 + 10 * i) 2 = f1
    refine R_X4_29 (n1 := 0) (sh1 := fun _ => (0, 0, fun _ => none)) (V1 := fun _ _ => 0) (L1 := fun _ _ => 0) (T' := (fun o n' sh' V' L' => ∃ f', o = .inl none ∧ n' = (43 + 10 * i) + 10 ∧ sh' = PS ((43 + 10 * i) + 10) f' ∧ (∀ p, p < (43 + 10 * i) → V' p = V1 p) ∧ (∀ p, p < (43 + 10 * i) → f' p = f1 p) ∧ (∀ p, (43 + 10 * i) ≤ p → p < (43 + 10 * i) + 10 → full f' p) ∧ L = L')) (k' := 9) (z' := 108) (k2 := 10 * m) (z2 := 119 * m) rfl (by decide) dX4_init_73 (PS_k (by omega) (sk_rum hq)) (Nat.le_of_ble_eq_true rfl) (by omega) (by omega) (fun X' hM' => k_X1 hq (by rw [← hg]; exact upf_eq) hM' (fun V' f' h1 h2 h3 => ⟨f', rfl, rfl, rfl, h1, h2, h3, rfl⟩)) (fun v n' sh' V' L' h => ?_) (fun E n' sh' V' L' h => by obtain ⟨_, h, _⟩ := h; cases h)
    obtain ⟨f', ev, rfl, rfl, hV', hf', hfu', rfl⟩ := h
    cases ev
    refine jv_aast (ci := 1) (t := 3) jv_cls1 (fun _ => rfl) (by decide) (by decide) dX4_init_76 (PS_k (by omega) sk_32) (PS_n (by omega) sn_32) (show i < 8 by omega) (by omega) (PS_k (by omega) (sk_rum hq)) ?_
    rw [PS_us (by omega) (by rw [hf' 32 (by omega), ← hg, upf_ne (by omega)]; exact h32) (sr_sta (by omega))]
    refine j_inc1_1 rfl (by decide) dX4_init_77 ?_
    refine j_goto (tgt := 58) dX4_init_80 (by decide) ?_
    refine ih (i + 1) V' (upf f' 32 (i + 1)) (by omega) upf_eq (by rw [upf_ne (by omega), hf' 0 (by omega), ← hg, upf_ne (by omega)]; exact h0) (fun p p2 p6 => ?_) (fun p hp => by rw [hV' p (by omega), ← hW, NV_o (by omega)]; exact hV p hp)
    by_cases hp : p < 43 + 10 * i
    · exact full_of (hfu p hp p6) (by rw [upf_ne p6, hf' p hp, ← hg, upf_ne (by omega)])
    · exact full_of (hfu' p (by omega) (by omega)) (upf_ne p6)

set_option maxHeartbeats 4000000 in
set_option maxRecDepth 100000 in
theorem k_X4 {g : jv_G} {X : jv_X} {T : jv_T} {V : Nat → Nat → Int32} {L : Nat → Nat → Int64} {f : Nat → Nat} (hf : f 0 = 0) (hM : jv_M g X T) (hT : ∀ V' f' U, U 0 = V 0 → (∀ q, 1 ≤ q → q < 20 → V' q = layV (rstV (jv_U (jv_U U 1 0 (nI 6)) 1 1 (nI 0)) 12) 6 0 q) → V' 0 4 = nI 0 → V' 0 5 = nI 0 → (∀ p, p < 123 → full f' p) → T (.inl none) 123 (PS 123 f') V' L) : jv_J g X I_X4_init 0 [some (jv_r g 0), none] [] 1 (PS 1 f) V L 122 1394 := by
  refine j_aload_n_0 dX4_init_0 ?_
  refine j_objInit (jv_gwm 34 (by decide +kernel) rfl) (jv_gwm 35 (by decide +kernel) rfl) (jv_gwm 36 (by decide +kernel) rfl) (by decide) dX4_init_1 (Nat.le_of_ble_eq_true rfl) ?_
  refine j_aload_n_0 dX4_init_4 ?_
  refine jv_new (k2 := 121) (z2 := 1386) jv_cls2 (jv_gwm 37 (by decide +kernel) rfl) (jv_gwm 38 (by decide +kernel) rfl) (jv_gwm 15 (by decide +kernel) rfl) (by decide +kernel) dX4_init_5 (by omega) (by omega) ?_
  rw [PS_ns (K := 2 + 1) (N := 0) (r0 := 2) sk_1 rfl (fun k hk => by show (if 2 ≤ k ∧ k ≤ 7 then some k else none) = none; exact if_neg (by omega))]
  refine j_dup rfl dX4_init_8 ?_
  generalize hW : jv_NV V 1 (fun _ => 0) = V1
  have hW0 : V1 0 = V 0 := by rw [← hW, NV_o (by omega)]
  refine R_X4_9 (n1 := 0) (sh1 := fun _ => (0, 0, fun _ => none)) (V1 := fun _ _ => 0) (L1 := fun _ _ => 0) (T' := fun o n' sh' V' L' => ∃ U f', o = .inl none ∧ n' = 28 ∧ sh' = PS 28 f' ∧ U 0 = V1 0 ∧ f' 0 = 0 ∧ (∀ p, 1 ≤ p → p < 28 → full f' p) ∧ V' = layV (rstV (jv_U (jv_U U 1 0 (nI 6)) 1 1 (nI 0)) 12) 6 0 ∧ L = L') (k' := 26) (z' := 268) (k2 := 95) (z2 := 1118) rfl (by decide) dX4_init_9 (PS_k (by omega) sk_1) (Nat.le_of_ble_eq_true rfl) (by omega) (by omega) (fun X' hM' => k_X2 upf_eq (by rw [upf_ne (by omega)]; exact hf) hM' (fun U f' h1 h2 h3 => ⟨U, f', rfl, rfl, rfl, h1, h2, h3, rfl, rfl⟩)) (fun v n' sh' V' L' h => ?_) (fun E n' sh' V' L' h => by obtain ⟨_, _, h, _⟩ := h; cases h)
  obtain ⟨U, f2, ev, rfl, rfl, hU, hf2, hfu2, hV2, rfl⟩ := h
  cases ev
  subst hV2
  generalize hTm : layV (rstV (jv_U (jv_U U 1 0 (nI 6)) 1 1 (nI 0)) 12) 6 0 = Tm
  show jv_J g X I_X4_init 12 _ [jv_r g 1, jv_r g 0] _ _ _ _ _ _
  refine P_X4_10 rfl rfl dX4_init_12 (PS_k (by omega) sk_0) ?_
  rw [PS_us (by omega) hf2 sr_0_0]
  refine j_aload_n_0 dX4_init_15 ?_
  refine jv_new (k2 := 94) (z2 := 1115) jv_cls3 (jv_gwm 122 (by decide +kernel) rfl) (jv_gwm 123 (by decide +kernel) rfl) (jv_gwm 17 (by decide +kernel) rfl) (by decide +kernel) dX4_init_16 (by omega) (by omega) ?_
  rw [PS_ns (K := 3 + 1) (N := 0) (r0 := 0) sk_28 rfl (fun k h => absurd h (Nat.not_lt_zero k))]
  refine j_dup rfl dX4_init_19 ?_
  generalize hW3 : jv_NV Tm 28 (fun _ => 0) = V3
  generalize hg3 : upf (upf f2 0 (0 + 1)) 28 0 = f3
  refine R_X4_18 (n1 := 0) (sh1 := fun _ => (0, 0, fun _ => none)) (V1 := fun _ _ => 0) (L1 := fun _ _ => 0) (T' := (fun o n' sh' V' L' => ∃ f', o = .inl none ∧ n' = 28 + 4 ∧ sh' = PS (28 + 4) f' ∧ (∀ p, p < 28 → V' p = V3 p) ∧ (∀ p, p < 28 → f' p = f3 p) ∧ (∀ p, 28 ≤ p → p < 28 + 4 → full f' p) ∧ L = L')) (k' := 3) (z' := 36) (k2 := 91) (z2 := 1079) rfl (by decide) dX4_init_20 (PS_k (by omega) sk_28) (Nat.le_of_ble_eq_true rfl) (by omega) (by omega) (fun X' hM' => k_X3 (by rw [← hg3]; exact upf_eq) hM' (fun V' f' h1 h2 h3 => ⟨f', rfl, rfl, rfl, h1, h2, h3, rfl⟩)) (fun v n' sh' V' L' h => ?_) (fun E n' sh' V' L' h => by obtain ⟨_, h, _⟩ := h; cases h)
  obtain ⟨f4, ev, rfl, rfl, hV4, hf4, hfu4, rfl⟩ := h
  cases ev
  show jv_J g X I_X4_init 23 _ [jv_r g 28, jv_r g 0] _ _ _ _ _ _
  have z4 : f4 0 = 1 := by rw [hf4 0 (by omega), ← hg3, upf_ne (by omega), upf_eq]
  refine P_X4_19 rfl rfl dX4_init_23 (PS_k (by omega) sk_0) ?_
  rw [PS_us (by omega) z4 sr_0_1]
  refine j_aload_n_0 dX4_init_26 ?_
  refine j_bipush (v := nI 8) dX4_init_27 nc_bipush_8 ?_
  refine jv_anew (t := 3) (k2 := 90) (z2 := 1071) (fun _ => rfl) (by decide) (by decide) (fun U h => h.2.2.2.2.2.1.1.1) (jv_gwm 140 (by decide +kernel) rfl) dX4_init_29 (by omega) (by omega) (by omega) ?_
  rw [PS_ns (m := 28 + 4) (K := 3 + 10) (N := 8) (r0 := 0) sk_32 sn_32 (fun k h => absurd h (Nat.not_lt_zero k))]
  refine P_X4_25 rfl rfl dX4_init_32 (PS_k (by omega) sk_0) ?_
  rw [PS_us (by omega) (by rw [upf_ne (by omega), upf_eq]) sr_0_2]
  refine j_aload_n_0 dX4_init_35 ?_
  refine jv_new (k2 := 89) (z2 := 1060) jv_cls1 (jv_gwm 140 (by decide +kernel) rfl) (jv_gwm 142 (by decide +kernel) rfl) (jv_gwm 18 (by decide +kernel) rfl) (by decide +kernel) dX4_init_36 (by omega) (by omega) ?_
  rw [PS_ns (m := 28 + 4 + 1) (K := 1 + 1) (N := 0) (r0 := 2) (sk_rum isRum.tr) (by show (SH s0 33).2.1 = 0; rw [SH_rum isRum.tr]) (fun k hk => by show (SH s0 33).2.2 k = none; rw [SH_rum isRum.tr]; exact if_neg (by omega))]
  refine j_dup rfl dX4_init_39 ?_
  generalize hW5 : jv_NV V' (28 + 4 + 1) (fun _ => 0) = V5
  generalize hg5 : upf (upf (upf (upf f4 0 (1 + 1)) (28 + 4) 0) 0 (2 + 1)) (28 + 4 + 1) 2 = f5
  show jv_J g X I_X4_init 40 _ [jv_r g 33, jv_r g 33, jv_r g 0] (33 + 1) (PS (33 + 1) f5) _ _ _ _
  refine R_X4_29 (n1 := 0) (sh1 := fun _ => (0, 0, fun _ => none)) (V1 := fun _ _ => 0) (L1 := fun _ _ => 0) (T' := (fun o n' sh' V' L' => ∃ f', o = .inl none ∧ n' = 33 + 10 ∧ sh' = PS (33 + 10) f' ∧ (∀ p, p < 33 → V' p = V5 p) ∧ (∀ p, p < 33 → f' p = f5 p) ∧ (∀ p, 33 ≤ p → p < 33 + 10 → full f' p) ∧ L = L')) (k' := 9) (z' := 108) (k2 := 80) (z2 := 952) rfl (by decide) dX4_init_40 (PS_k (by omega) (sk_rum isRum.tr)) (Nat.le_of_ble_eq_true rfl) (by omega) (by omega) (fun X' hM' => k_X1 isRum.tr (by rw [← hg5]; exact upf_eq) hM' (fun V' f' h1 h2 h3 => ⟨f', rfl, rfl, rfl, h1, h2, h3, rfl⟩)) (fun v n' sh' V6 L' h => ?_) (fun E n' sh' V' L' h => by obtain ⟨_, h, _⟩ := h; cases h)
  obtain ⟨f6, ev, rfl, rfl, hV6, hf6, hfu6, rfl⟩ := h
  cases ev
  show jv_J g X I_X4_init 43 _ [jv_r g 33, jv_r g 0] _ _ _ _ _ _
  have z6 : f6 0 = 3 := by rw [hf6 0 (by omega), ← hg5, upf_ne (by omega), upf_eq]
  refine P_X4_30 rfl rfl dX4_init_43 (PS_k (by omega) sk_0) ?_
  rw [PS_us (by omega) z6 sr_0_3]
  refine j_aload_n_0 dX4_init_46 ?_
  refine j_iconst (v := nI 0) dX4_init_47 nc_iconst_0 ?_
  refine P_X4_34 rfl dX4_init_48 (PS_k (by omega) sk_0) ?_
  refine j_aload_n_0 dX4_init_51 ?_
  refine j_iconst (v := nI 0) dX4_init_52 nc_iconst_0 ?_
  refine P_X4_38 rfl dX4_init_53 (PS_k (by omega) sk_0) ?_
  refine j_iconst (v := nI 0) dX4_init_56 nc_iconst_0 ?_
  refine j_istore_n_1 rfl (by decide) dX4_init_57 ?_
  have hrow : ∀ q, 1 ≤ q → q < 20 → V6 q = Tm q := fun q q1 q2 => by rw [hV6 q (by omega), ← hW5, NV_o (by omega), hV4 q (by omega), ← hW3, NV_o (by omega)]
  refine k_X4_loop (V0 := jv_U (jv_U V6 0 4 (nI 0)) 0 5 (nI 0)) hM (fun V' f' h1 h2 => hT V' f' U (hU.trans hW0) (fun q q1 q2 => by rw [h1 q (by omega), jv_U_other (by omega), jv_U_other (by omega), hrow q q1 q2, hTm]) (by rw [h1 0 (by omega), jv_Unj (by omega), jv_Ueq]) (by rw [h1 0 (by omega), jv_Ueq]) h2) 8 0 _ _ (by omega) ?_ upf_eq (fun p p2 p6 => ?_) (fun p hp => rfl)
  · rw [upf_ne (by omega), hf6 32 (by omega), ← hg5, upf_ne (by omega), upf_ne (by omega), upf_eq]
  · have hc : p = 0 ∨ (1 ≤ p ∧ p < 28) ∨ (28 ≤ p ∧ p < 32) ∨ (33 ≤ p ∧ p < 43) := by omega
    rcases hc with e | ⟨e1, e2⟩ | ⟨e1, e2⟩ | ⟨e1, e2⟩
    · subst e
      intro k hk
      rw [upf_eq] at hk
      obtain ⟨a, rfl⟩ : ∃ a, k = a + 4 := ⟨k - 4, by omega⟩
      rfl
    · exact full_of (hfu2 p e1 e2) (by rw [upf_ne (by omega), hf6 p (by omega), ← hg5, upf_ne (by omega), upf_ne (by omega), upf_ne (by omega), upf_ne (by omega), hf4 p (by omega), ← hg3, upf_ne (by omega), upf_ne (by omega)])
    · exact full_of (hfu4 p e1 e2) (by rw [upf_ne (by omega), hf6 p (by omega), ← hg5, upf_ne (by omega), upf_ne (by omega), upf_ne (by omega), upf_ne (by omega)])
    · exact full_of (hfu6 p e1 e2) (by rw [upf_ne (by omega)])

/-- at the start there are neither lifts nor rumours -/
theorem INV.bare {V W V' W' : Nat → Nat → Int32} {N t : Nat} (H : INV V W N 0 0 t) (e4 : V' 0 4 = V 0 4) (e5 : V' 0 5 = V 0 5) (e1 : ∀ q, 1 ≤ q → q < 20 → V' q = V q) (w : W' = W) : INV V' W' N 0 0 t := by
  subst w
  obtain ⟨⟨c1, c2, c3, c4, c5, c6, c7⟩, h5, hM, h8, hT, hP, hO, hS⟩ := H
  obtain ⟨t1, t2, t3, t4, t5, t6⟩ := hT
  refine ⟨⟨by rw [e1 1 (by omega) (by omega)]; exact c1, by rw [e1 1 (by omega) (by omega)]; exact c2, by rw [e4]; exact c3, c4, c5, c6, c7⟩, by rw [e5]; exact h5, hM, h8, ⟨fun k hk => by omega, t2.congr ?_ ?_ ?_ ?_, ?_, ?_, t5, t6⟩, fun a b ha hb => ?_, fun j hj => by omega, fun j hj => by omega⟩
  · rw [mg_lo (by omega), mg_lo (by omega), e1 4 (by omega) (by omega)]
  · rw [mg_lo (by omega), mg_lo (by omega), e1 5 (by omega) (by omega)]
  · rw [mg_hi (by omega), mg_hi (by omega)]
  · rw [mg_hi (by omega), mg_hi (by omega)]
  · rw [e1 2 (by omega) (by omega)]; exact t3
  · rw [e1 3 (by omega) (by omega)]; exact t4
  · rw [e1 _ (by omega) (by omega)]; exact hP a b ha hb

set_option maxHeartbeats 4000000 in
theorem PS_123 {f : Nat → Nat} (h : ∀ p, p < 123 → full f p) : PS 123 f = SH s0 := by
  rw [PS_done h]
  funext p
  by_cases c : p < 123
  · rw [if_pos c]
  · rw [if_neg c]
    unfold SH
    rw [if_neg (by omega), if_neg (by omega), if_neg (by omega), if_neg (by omega), if_neg (by omega)]
    rfl
