/-! ===== the tower ===== -/
def fhL (V : Nat → Nat → Int32) (low high : Nat) : Nat → Nat → Int32 → Int32
  | 0, _, acc => acc
  | m + 1, i, acc => fhL V low high m (i + 1) (if ¬ hrs V (20 + 2 * i) low high = -1 ∧ (acc = -1 ∨ hrs V (20 + 2 * i) low high < acc) then hrs V (20 + 2 * i) low high else acc)
/-- the hours of the pipe between two floors, the lower one first, with K lifts -/
def fh (V : Nat → Nat → Int32) (K low high : Nat) : Int32 := fhL V low high K 0 (if high - low = 1 ∧ ¬ V 5 low = 0 then V 4 low else -1)
theorem fhL_congr {V W : Nat → Nat → Int32} {low high : Nat} (h : ∀ q, (q < 8 ∨ 20 ≤ q) → W q = V q) : ∀ m i acc, fhL W low high m i acc = fhL V low high m i acc := by
  intro m
  induction m with
  | zero => intro i acc; rfl
  | succ m ih =>
    intro i acc
    have e : hrs W (20 + 2 * i) low high = hrs V (20 + 2 * i) low high := by
      unfold hrs
      rw [h (20 + 2 * i) (by omega), h (20 + 2 * i + 1) (by omega)]
    show fhL W low high m (i + 1) _ = fhL V low high m (i + 1) _
    rw [ih, e]
theorem fh_congr {V W : Nat → Nat → Int32} {K low high : Nat} (h : ∀ q, (q < 8 ∨ 20 ≤ q) → W q = V q) : fh W K low high = fh V K low high := by
  unfold fh
  rw [fhL_congr h, h 4 (by omega), h 5 (by omega)]

set_option maxHeartbeats 4000000 in
set_option maxRecDepth 100000 in
theorem c_fh_loop {sx : Nat → jv_S} {g : jv_G} {X : jv_X} {T : jv_T} {n : Nat} {V : Nat → Nat → Int32} {L : Nat → Nat → Int64} {k z : Nat} {K low high : Nat} (hK : V 1 1 = nI K) (hK4 : K ≤ 4) (hlh : low < high) (hh : high < 12) (hM : jv_M g X T) : ∀ (m i : Nat) (acc : Int32) (v5 : Option Value), i ≤ K → K + 1 ≤ i + m → T (.inl (some (.int (fhL V low high (K - i) i acc)))) n (SH sx) V L → jv_J g X I_X2_fewestHours 30 [some (jv_r g 1), some (.int (nI low)), some (.int (nI high)), some (.int acc), some (.int (nI i)), v5] [] n (SH sx) V L k z := by
  intro m
  induction m with
  | zero => intro i acc v5 h1 h2; omega
  | succ m ih =>
  intro i acc v5 hi him hT
  refine j_iload_4 dX2_fewestHours_30 ?_
  refine j_aload_n_0 dX2_fewestHours_32 ?_
  refine G_X2_45 rfl dX2_fewestHours_33 sk_1 ?_
  refine j_top (y := nI K) hK ?_
  refine j_ic_geN (by omega) (by omega) (tgt := 79) dX2_fewestHours_36 (by decide) (fun h36 => ?_) (fun h36 => ?_)
  · refine j_iload_n_3 dX2_fewestHours_79 ?_
    exact j_iret hM dX2_fewestHours_80 rfl (by rw [show K - i = 0 by omega] at hT; exact hT)
  · refine j_aload_n_0 dX2_fewestHours_39 ?_
    refine G_X2_27 rfl dX2_fewestHours_40 sk_1 sr_1_6 ?_
    refine j_iload_4 dX2_fewestHours_43 ?_
    refine jv_aald (t := 4) (fun _ => rfl) rfl (by decide) (by decide) dX2_fewestHours_45 sk_6 sn_6 (by omega) (by decide) (sr_lif (by omega)) ?_
    refine j_iload_n_1 dX2_fewestHours_46 ?_
    refine j_iload_n_2 dX2_fewestHours_47 ?_
    refine C_X2_63 rfl (by decide) dX2_fewestHours_48 (sk_lif (isLif.of (by omega))) (Nat.le_of_ble_eq_true rfl) (Nat.le_of_eq (Nat.zero_add _)) (Nat.le_of_eq (Nat.zero_add _)) (fun _ _ hM' hT' => c_hoursBetween (isLif.of (by omega)) hlh hh hM' hT') ?_
    refine j_istore_5 rfl (by decide) dX2_fewestHours_51 ?_
    refine j_iload_5 dX2_fewestHours_53 ?_
    refine j_iconst (v := -1) dX2_fewestHours_55 nc_iconst_m1 ?_
    refine j_ic_eq (tgt := 73) dX2_fewestHours_56 (by decide) (fun h56 => ?_) (fun h56 => ?_)
    · refine j_inc1_4 rfl (by decide) dX2_fewestHours_73 ?_
      refine j_goto (tgt := 30) dX2_fewestHours_76 (by decide) ?_
      refine ih (i + 1) _ _ (by omega) (by omega) ?_
      rw [show K - i = (K - (i + 1)) + 1 by omega] at hT
      simp only [fhL, h56, not_true_eq_false, not_false_eq_true, true_and, and_true, false_and, and_false, or_true, true_or, or_false, false_or, if_true, if_false, ite_true, ite_false, reduceIte] at hT
      exact hT
    · refine j_iload_n_3 dX2_fewestHours_59 ?_
      refine j_iconst (v := -1) dX2_fewestHours_60 nc_iconst_m1 ?_
      refine j_ic_eq (tgt := 70) dX2_fewestHours_61 (by decide) (fun h61 => ?_) (fun h61 => ?_)
      · refine j_iload_5 dX2_fewestHours_70 ?_
        refine j_istore_n_3 rfl (by decide) dX2_fewestHours_72 ?_
        refine j_inc1_4 rfl (by decide) dX2_fewestHours_73 ?_
        refine j_goto (tgt := 30) dX2_fewestHours_76 (by decide) ?_
        refine ih (i + 1) _ _ (by omega) (by omega) ?_
        rw [show K - i = (K - (i + 1)) + 1 by omega] at hT
        simp only [fhL, h56, h61, not_true_eq_false, not_false_eq_true, true_and, and_true, false_and, and_false, or_true, true_or, or_false, false_or, if_true, if_false, ite_true, ite_false, reduceIte] at hT
        exact hT
      · refine j_iload_5 dX2_fewestHours_64 ?_
        refine j_iload_n_3 dX2_fewestHours_66 ?_
        refine j_ic_ge (tgt := 73) dX2_fewestHours_67 (by decide) (fun h67 => ?_) (fun h67 => ?_)
        · refine j_inc1_4 rfl (by decide) dX2_fewestHours_73 ?_
          refine j_goto (tgt := 30) dX2_fewestHours_76 (by decide) ?_
          refine ih (i + 1) _ _ (by omega) (by omega) ?_
          rw [show K - i = (K - (i + 1)) + 1 by omega] at hT
          simp only [fhL, h56, h61, Int32.not_lt.mpr h67, not_true_eq_false, not_false_eq_true, true_and, and_true, false_and, and_false, or_true, true_or, or_false, false_or, if_true, if_false, ite_true, ite_false, reduceIte] at hT
          exact hT
        · refine j_iload_5 dX2_fewestHours_70 ?_
          refine j_istore_n_3 rfl (by decide) dX2_fewestHours_72 ?_
          refine j_inc1_4 rfl (by decide) dX2_fewestHours_73 ?_
          refine j_goto (tgt := 30) dX2_fewestHours_76 (by decide) ?_
          refine ih (i + 1) _ _ (by omega) (by omega) ?_
          rw [show K - i = (K - (i + 1)) + 1 by omega] at hT
          simp only [fhL, h56, h61, Int32.not_le.mp h67, not_true_eq_false, not_false_eq_true, true_and, and_true, false_and, and_false, or_true, true_or, or_false, false_or, if_true, if_false, ite_true, ite_false, reduceIte] at hT
          exact hT

set_option maxHeartbeats 4000000 in
set_option maxRecDepth 100000 in
theorem c_fewestHours {sx : Nat → jv_S} {g : jv_G} {X : jv_X} {T : jv_T} {n : Nat} {V : Nat → Nat → Int32} {L : Nat → Nat → Int64} {k z : Nat} {K low high : Nat} (hK : V 1 1 = nI K) (hK4 : K ≤ 4) (hlh : low < high) (hh : high < 12) (hM : jv_M g X T) (hT : T (.inl (some (.int (fh V K low high)))) n (SH sx) V L) : jv_J g X I_X2_fewestHours 0 [some (jv_r g 1), some (.int (nI low)), some (.int (nI high)), none, none, none] [] n (SH sx) V L k z := by
  refine j_iload_n_2 dX2_fewestHours_0 ?_
  refine j_iload_n_1 dX2_fewestHours_1 ?_
  refine j_isubN (by omega) dX2_fewestHours_2 ?_
  refine j_iconst (v := nI 1) dX2_fewestHours_3 nc_iconst_1 ?_
  refine j_ic_neN (by omega) (by omega) (tgt := 25) dX2_fewestHours_4 (by decide) (fun h4 => ?_) (fun h4 => ?_)
  · refine j_iconst (v := -1) dX2_fewestHours_25 nc_iconst_m1 ?_
    refine j_istore_n_3 rfl (by decide) dX2_fewestHours_26 ?_
    refine j_iconst (v := nI 0) dX2_fewestHours_27 nc_iconst_0 ?_
    refine j_istore_4 rfl (by decide) dX2_fewestHours_28 ?_
    unfold fh at hT
    exact c_fh_loop hK hK4 hlh hh hM (K + 1) 0 _ _ (by omega) (by omega) (by rw [if_neg (fun c => h4 c.1)] at hT; exact hT)
  · refine j_aload_n_0 dX2_fewestHours_7 ?_
    refine G_X2_21 rfl dX2_fewestHours_8 sk_1 sr_1_5 ?_
    refine j_iload_n_1 dX2_fewestHours_11 ?_
    refine j_bald dX2_fewestHours_12 sk_5 sn_5 (by omega) (by decide) ?_
    refine j_if_eq (tgt := 25) dX2_fewestHours_13 (by decide) (fun h13 => ?_) (fun h13 => ?_)
    · refine j_iconst (v := -1) dX2_fewestHours_25 nc_iconst_m1 ?_
      refine j_istore_n_3 rfl (by decide) dX2_fewestHours_26 ?_
      refine j_iconst (v := nI 0) dX2_fewestHours_27 nc_iconst_0 ?_
      refine j_istore_4 rfl (by decide) dX2_fewestHours_28 ?_
      unfold fh at hT
      exact c_fh_loop hK hK4 hlh hh hM (K + 1) 0 _ _ (by omega) (by omega) (by rw [if_neg (fun c => c.2 h13)] at hT; exact hT)
    · refine j_aload_n_0 dX2_fewestHours_16 ?_
      refine G_X2_18 rfl dX2_fewestHours_17 sk_1 sr_1_4 ?_
      refine j_iload_n_1 dX2_fewestHours_20 ?_
      refine j_iald dX2_fewestHours_21 sk_4 sn_4 (by omega) (by decide) ?_
      refine j_goto (tgt := 26) dX2_fewestHours_22 (by decide) ?_
      refine j_istore_n_3 rfl (by decide) dX2_fewestHours_26 ?_
      refine j_iconst (v := nI 0) dX2_fewestHours_27 nc_iconst_0 ?_
      refine j_istore_4 rfl (by decide) dX2_fewestHours_28 ?_
      unfold fh at hT
      exact c_fh_loop hK hK4 hlh hh hM (K + 1) 0 _ _ (by omega) (by omega) (by rw [if_pos ⟨h4, h13⟩] at hT; exact hT)

/-- the hours of the pipe as the row at q has them -/
def layX (V : Nat → Nat → Int32) (K q c : Nat) : Int32 := if q = 8 + c then -1 else if q < 8 + c then fh V K (q - 8) c else fh V K c (q - 8)
/-- all pipes laid anew; and laid as far as the pair of floors (i, j) -/
def layV (V : Nat → Nat → Int32) (N K : Nat) : Nat → Nat → Int32 := fun q c => if 8 ≤ q ∧ q < 8 + N ∧ c < N then layX V K q c else V q c
def layP (V : Nat → Nat → Int32) (N K i j : Nat) : Nat → Nat → Int32 := fun q c => if (8 ≤ q ∧ q < 8 + N ∧ c < N) ∧ (q < 8 + i ∨ c < i ∨ (q = 8 + i ∧ c < j) ∨ (c = i ∧ q < 8 + j)) then layX V K q c else V q c
theorem layP_out {V : Nat → Nat → Int32} {N K i j q : Nat} (h : q < 8 ∨ 8 + N ≤ q) : layP V N K i j q = V q := by
  funext c
  unfold layP
  rw [if_neg (by omega)]
theorem layV_out {V : Nat → Nat → Int32} {N K q : Nat} (h : q < 8 ∨ 8 + N ≤ q) : layV V N K q = V q := by
  funext c
  unfold layV
  rw [if_neg (by omega)]
theorem layP_0 {V : Nat → Nat → Int32} {N K : Nat} : layP V N K 0 0 = V := by
  funext q c
  unfold layP
  rw [if_neg (by omega)]
theorem layP_end {V : Nat → Nat → Int32} {N K i : Nat} (h : N ≤ i) : layP V N K i i = layV V N K := by
  funext q c
  unfold layP layV
  by_cases h1 : 8 ≤ q ∧ q < 8 + N ∧ c < N
  · rw [if_pos h1, if_pos ⟨h1, by omega⟩]
  · rw [if_neg h1, if_neg (fun z => h1 z.1)]
theorem layP_row {V : Nat → Nat → Int32} {N K i : Nat} (h : i < N) : layP V N K i N = layP V N K (i + 1) (i + 1) := by
  funext q c
  unfold layP
  by_cases h1 : 8 ≤ q ∧ q < 8 + N ∧ c < N
  · by_cases h2 : q < 8 + i ∨ c < i ∨ (q = 8 + i ∧ c < N) ∨ (c = i ∧ q < 8 + N)
    · rw [if_pos ⟨h1, h2⟩, if_pos ⟨h1, by omega⟩]
    · rw [if_neg (fun z => h2 z.2), if_neg (fun z => by omega)]
  · rw [if_neg (fun z => h1 z.1), if_neg (fun z => h1 z.1)]
theorem layP_dia {V : Nat → Nat → Int32} {N K i : Nat} (h : i < N) : jv_U (layP V N K i i) (8 + i) i (-1) = layP V N K i (i + 1) := by
  funext q c
  unfold jv_U layP
  by_cases h1 : q = 8 + i
  · by_cases h2 : c = i
    · subst h1; subst h2
      rw [if_pos rfl, if_pos rfl, if_pos (by omega)]
      unfold layX
      rw [if_pos rfl]
    · rw [if_pos h1, if_neg h2]
      by_cases h3 : (8 ≤ q ∧ q < 8 + N ∧ c < N) ∧ (q < 8 + i ∨ c < i ∨ (q = 8 + i ∧ c < i) ∨ (c = i ∧ q < 8 + i))
      · rw [if_pos h3, if_pos (by omega)]
      · rw [if_neg h3, if_neg (by omega)]
  · rw [if_neg h1]
    by_cases h3 : (8 ≤ q ∧ q < 8 + N ∧ c < N) ∧ (q < 8 + i ∨ c < i ∨ (q = 8 + i ∧ c < i) ∨ (c = i ∧ q < 8 + i))
    · rw [if_pos h3, if_pos (by omega)]
    · rw [if_neg h3, if_neg (by omega)]
theorem layP_two {V : Nat → Nat → Int32} {N K i j : Nat} (hi : i < j) (hj : j < N) : jv_U (jv_U (layP V N K i j) (8 + i) j (fh V K i j)) (8 + j) i (fh V K i j) = layP V N K i (j + 1) := by
  funext q c
  unfold jv_U layP
  by_cases h1 : q = 8 + j ∧ c = i
  · obtain ⟨rfl, rfl⟩ := h1
    rw [if_pos rfl, if_pos rfl, if_pos (by omega)]
    unfold layX
    rw [if_neg (by omega), if_neg (by omega), show 8 + j - 8 = j by omega]
  · by_cases h2 : q = 8 + i ∧ c = j
    · obtain ⟨rfl, rfl⟩ := h2
      rw [if_neg (by omega), if_pos rfl, if_pos rfl, if_pos (by omega)]
      unfold layX
      rw [if_neg (by omega), if_pos (by omega), show 8 + i - 8 = i by omega]
    · have e1 : ∀ A : Int32, (if q = 8 + j then if c = i then fh V K i j else if q = 8 + i then if c = j then fh V K i j else A else A else if q = 8 + i then if c = j then fh V K i j else A else A) = A := by
        intro A
        by_cases a1 : q = 8 + j
        · rw [if_pos a1, if_neg (fun z => h1 ⟨a1, z⟩), if_neg (by omega)]
        · rw [if_neg a1]
          by_cases a2 : q = 8 + i
          · rw [if_pos a2, if_neg (fun z => h2 ⟨a2, z⟩)]
          · rw [if_neg a2]
      rw [e1]
      by_cases h3 : (8 ≤ q ∧ q < 8 + N ∧ c < N) ∧ (q < 8 + i ∨ c < i ∨ (q = 8 + i ∧ c < j) ∨ (c = i ∧ q < 8 + j))
      · rw [if_pos h3, if_pos (by omega)]
      · rw [if_neg h3, if_neg (by omega)]
theorem fh_layP {V : Nat → Nat → Int32} {N K i j a b : Nat} (h : N ≤ 12) : fh (layP V N K i j) K a b = fh V K a b := fh_congr fun q hq => layP_out (by omega)
theorem fh_layV {V : Nat → Nat → Int32} {N K N' K' a b : Nat} (h : N ≤ 12) : fh (layV V N K) K' a b = fh V K' a b := fh_congr fun q hq => layV_out (by omega)

set_option maxHeartbeats 4000000 in
set_option maxRecDepth 100000 in
theorem c_lay_in {sx : Nat → jv_S} {g : jv_G} {X : jv_X} {T : jv_T} {n : Nat} {V : Nat → Nat → Int32} {L : Nat → Nat → Int64} {k z : Nat} {N K i : Nat} (hN : V 1 0 = nI N) (hb : N ≤ 12) (hK : V 1 1 = nI K) (hK4 : K ≤ 4) (hi : i < N) (kk : ∀ v3, jv_J g X I_X2_layPipes 62 [some (jv_r g 1), some (.int (nI i)), some (.int (nI N)), v3] [] n (SH sx) (layP V N K i N) L k z) : ∀ (m j : Nat) (v3 : Option Value), i + 1 ≤ j → j ≤ N → N + 1 ≤ j + m → jv_J g X I_X2_layPipes 23 [some (jv_r g 1), some (.int (nI i)), some (.int (nI j)), v3] [] n (SH sx) (layP V N K i j) L k z := by
  intro m
  induction m with
  | zero => intro j v3 h1 h2 h3; omega
  | succ m ih =>
  intro j v3 hij hjN hjm
  refine j_iload_n_2 dX2_layPipes_23 ?_
  refine j_aload_n_0 dX2_layPipes_24 ?_
  refine G_X2_41 rfl dX2_layPipes_25 sk_1 ?_
  refine j_top (y := nI N) (by rw [layP_out (by omega)]; exact hN) ?_
  refine j_ic_geN (by omega) (by omega) (tgt := 62) dX2_layPipes_28 (by decide) (fun h28 => ?_) (fun h28 => ?_)
  · have e : j = N := by omega
    subst e
    exact kk _
  · refine j_aload_n_0 dX2_layPipes_31 ?_
    refine j_iload_n_1 dX2_layPipes_32 ?_
    refine j_iload_n_2 dX2_layPipes_33 ?_
    refine C_X2_59 rfl (by decide) dX2_layPipes_34 sk_1 (Nat.le_of_ble_eq_true rfl) (Nat.le_of_eq (Nat.zero_add _)) (Nat.le_of_eq (Nat.zero_add _)) (fun _ _ hM' hT' => c_fewestHours (by rw [layP_out (by omega)]; exact hK) hK4 (by omega) (by omega) hM' hT') ?_
    refine j_top (fh_layP hb) ?_
    refine j_istore_n_3 rfl (by decide) dX2_layPipes_37 ?_
    refine j_aload_n_0 dX2_layPipes_38 ?_
    refine G_X2_33 rfl dX2_layPipes_39 sk_1 sr_1_7 ?_
    refine j_iload_n_1 dX2_layPipes_42 ?_
    refine jv_aald (t := 5) (fun _ => rfl) rfl (by decide) (by decide) dX2_layPipes_43 sk_7 sn_7 (by omega) (by decide) (sr_row (by omega)) ?_
    refine j_iload_n_2 dX2_layPipes_44 ?_
    refine j_iload_n_3 dX2_layPipes_45 ?_
    refine j_iast dX2_layPipes_46 (sk_row (by omega)) (sn_row (by omega)) (by omega) (by decide) ?_
    refine j_aload_n_0 dX2_layPipes_47 ?_
    refine G_X2_33 rfl dX2_layPipes_48 sk_1 sr_1_7 ?_
    refine j_iload_n_2 dX2_layPipes_51 ?_
    refine jv_aald (t := 5) (fun _ => rfl) rfl (by decide) (by decide) dX2_layPipes_52 sk_7 sn_7 (by omega) (by decide) (sr_row (by omega)) ?_
    refine j_iload_n_1 dX2_layPipes_53 ?_
    refine j_iload_n_3 dX2_layPipes_54 ?_
    refine j_iast dX2_layPipes_55 (sk_row (by omega)) (sn_row (by omega)) (by omega) (by decide) ?_
    refine j_inc1_2 rfl (by decide) dX2_layPipes_56 ?_
    refine j_goto (tgt := 23) dX2_layPipes_59 (by decide) ?_
    refine j_mem (layP_two (by omega) (by omega)) ?_
    exact ih (j + 1) _ (by omega) (by omega) (by omega)

set_option maxHeartbeats 4000000 in
set_option maxRecDepth 100000 in
theorem c_lay_out {sx : Nat → jv_S} {g : jv_G} {X : jv_X} {T : jv_T} {n : Nat} {V : Nat → Nat → Int32} {L : Nat → Nat → Int64} {k z : Nat} {N K : Nat} (hN : V 1 0 = nI N) (hb : N ≤ 12) (hK : V 1 1 = nI K) (hK4 : K ≤ 4) (hM : jv_M g X T) (hT : T (.inl none) n (SH sx) (layV V N K) L) : ∀ (m i : Nat) (v2 v3 : Option Value), i ≤ N → N + 1 ≤ i + m → jv_J g X I_X2_layPipes 2 [some (jv_r g 1), some (.int (nI i)), v2, v3] [] n (SH sx) (layP V N K i i) L k z := by
  intro m
  induction m with
  | zero => intro i v2 v3 h1 h2; omega
  | succ m ih =>
  intro i v2 v3 hi him
  refine j_iload_n_1 dX2_layPipes_2 ?_
  refine j_aload_n_0 dX2_layPipes_3 ?_
  refine G_X2_41 rfl dX2_layPipes_4 sk_1 ?_
  refine j_top (y := nI N) (by rw [layP_out (by omega)]; exact hN) ?_
  refine j_ic_geN (by omega) (by omega) (tgt := 68) dX2_layPipes_7 (by decide) (fun h7 => ?_) (fun h7 => ?_)
  · exact j_vret hM dX2_layPipes_68 rfl (by rw [layP_end (by omega)]; exact hT)
  · refine j_aload_n_0 dX2_layPipes_10 ?_
    refine G_X2_33 rfl dX2_layPipes_11 sk_1 sr_1_7 ?_
    refine j_iload_n_1 dX2_layPipes_14 ?_
    refine jv_aald (t := 5) (fun _ => rfl) rfl (by decide) (by decide) dX2_layPipes_15 sk_7 sn_7 (by omega) (by decide) (sr_row (by omega)) ?_
    refine j_iload_n_1 dX2_layPipes_16 ?_
    refine j_iconst (v := -1) dX2_layPipes_17 nc_iconst_m1 ?_
    refine j_iast dX2_layPipes_18 (sk_row (by omega)) (sn_row (by omega)) (by omega) (by decide) ?_
    refine j_mem (layP_dia (by omega)) ?_
    refine j_iload_n_1 dX2_layPipes_19 ?_
    refine j_iconst (v := nI 1) dX2_layPipes_20 nc_iconst_1 ?_
    refine j_iaddN dX2_layPipes_21 ?_
    refine j_istore_n_2 rfl (by decide) dX2_layPipes_22 ?_
    refine c_lay_in (T := T) hN hb hK hK4 (by omega) (fun v3 => ?_) (N + 1) (i + 1) _ (by omega) (by omega) (by omega)
    refine j_inc1_1 rfl (by decide) dX2_layPipes_62 ?_
    refine j_goto (tgt := 2) dX2_layPipes_65 (by decide) ?_
    refine j_mem (layP_row (by omega)) ?_
    exact ih (i + 1) _ _ (by omega) (by omega)

set_option maxHeartbeats 4000000 in
set_option maxRecDepth 100000 in
theorem c_layPipes {sx : Nat → jv_S} {g : jv_G} {X : jv_X} {T : jv_T} {n : Nat} {V : Nat → Nat → Int32} {L : Nat → Nat → Int64} {k z : Nat} {N K : Nat} (hN : V 1 0 = nI N) (hb : N ≤ 12) (hK : V 1 1 = nI K) (hK4 : K ≤ 4) (hM : jv_M g X T) (hT : T (.inl none) n (SH sx) (layV V N K) L) : jv_J g X I_X2_layPipes 0 [some (jv_r g 1), none, none, none] [] n (SH sx) V L k z := by
  refine j_iconst (v := nI 0) dX2_layPipes_0 nc_iconst_0 ?_
  refine j_istore_n_1 rfl (by decide) dX2_layPipes_1 ?_
  refine j_mem (layP_0 (N := N) (K := K)).symm ?_
  exact c_lay_out hN hb hK hK4 hM hT (N + 1) 0 _ _ (by omega) (by omega)

/-- floors and stairs as at first, up to floor i -/
def rstV (V : Nat → Nat → Int32) (i : Nat) : Nat → Nat → Int32 := fun q c => if c < i then (if q = 2 then nI 10 else if q = 3 then nI 2 else if q = 4 then nI 3 else if q = 5 then nI 1 else V q c) else V q c
theorem rstV_0 {V : Nat → Nat → Int32} : rstV V 0 = V := by
  funext q c
  unfold rstV
  rw [if_neg (by omega)]
theorem rstV_out {V : Nat → Nat → Int32} {i q : Nat} (h : q < 2 ∨ 5 < q) : rstV V i q = V q := by
  funext c
  unfold rstV
  rw [if_neg (by omega : ¬ q = 2), if_neg (by omega : ¬ q = 3), if_neg (by omega : ¬ q = 4), if_neg (by omega : ¬ q = 5), ite_self]
theorem rstV_s {V : Nat → Nat → Int32} {i : Nat} : jv_U (jv_U (jv_U (jv_U (rstV V i) 2 i (nI 10)) 3 i (nI 2)) 4 i (nI 3)) 5 i (nI 1) = rstV V (i + 1) := by
  funext q c
  unfold jv_U rstV
  by_cases hc : c = i
  · subst hc
    rw [if_neg (Nat.lt_irrefl c), if_pos (Nat.lt_succ_self c)]
    simp only [if_true]
    by_cases h5 : q = 5
    · subst h5; rfl
    · by_cases h4 : q = 4
      · subst h4; rfl
      · by_cases h3 : q = 3
        · subst h3; rfl
        · rw [if_neg h5, if_neg h4, if_neg h3, if_neg h3, if_neg h4, if_neg h5]
  · simp only [if_neg hc, ite_self]
    by_cases h : c < i
    · have h' : c < i + 1 := by omega
      simp only [if_pos h, if_pos h']
    · have h' : ¬ c < i + 1 := by omega
      simp only [if_neg h, if_neg h']

set_option maxHeartbeats 4000000 in
set_option maxRecDepth 100000 in
theorem c_reset_loop {sx : Nat → jv_S} {g : jv_G} {X : jv_X} {T : jv_T} {n : Nat} {V : Nat → Nat → Int32} {L : Nat → Nat → Int64} {k z : Nat} {x1 : Int32} {N : Nat} (hN : V 1 0 = nI N) (hb : N ≤ 12) (hK : V 1 1 = nI 0) (hM : jv_M g X T) (hT : T (.inl none) n (SH sx) (layV (rstV V 12) N 0) L) : ∀ (m i : Nat), i ≤ 12 → 13 ≤ i + m → jv_J g X I_X2_reset 12 [some (jv_r g 1), some (.int x1), some (.int (nI i))] [] n (SH sx) (rstV V i) L k z := by
  intro m
  induction m with
  | zero => intro i h1 h2; omega
  | succ m ih =>
  intro i hi him
  refine j_iload_n_2 dX2_reset_12 ?_
  refine j_bipush (v := nI 12) dX2_reset_13 nc_bipush_12 ?_
  refine j_ic_geN (by omega) (by omega) (tgt := 53) dX2_reset_15 (by decide) (fun h15 => ?_) (fun h15 => ?_)
  · have e12 : i = 12 := by omega
    subst e12
    refine j_aload_n_0 dX2_reset_53 ?_
    refine C_X2_48 rfl (by decide) dX2_reset_54 sk_1 (Nat.le_of_ble_eq_true rfl) (Nat.le_of_eq (Nat.zero_add _)) (Nat.le_of_eq (Nat.zero_add _)) (fun _ _ hM' hT' => c_layPipes (by rw [rstV_out (by omega)]; exact hN) hb (by rw [rstV_out (by omega)]; exact hK) (by omega) hM' hT') ?_
    exact j_vret hM dX2_reset_57 rfl hT
  · refine j_aload_n_0 dX2_reset_18 ?_
    refine G_X2_9 rfl dX2_reset_19 sk_1 sr_1_2 ?_
    refine j_iload_n_2 dX2_reset_22 ?_
    refine j_bipush (v := nI 10) dX2_reset_23 nc_bipush_10 ?_
    refine j_iast dX2_reset_25 sk_2 sn_2 (by omega) (by decide) ?_
    refine j_aload_n_0 dX2_reset_26 ?_
    refine G_X2_15 rfl dX2_reset_27 sk_1 sr_1_3 ?_
    refine j_iload_n_2 dX2_reset_30 ?_
    refine j_iconst (v := nI 2) dX2_reset_31 nc_iconst_2 ?_
    refine j_iast dX2_reset_32 sk_3 sn_3 (by omega) (by decide) ?_
    refine j_aload_n_0 dX2_reset_33 ?_
    refine G_X2_18 rfl dX2_reset_34 sk_1 sr_1_4 ?_
    refine j_iload_n_2 dX2_reset_37 ?_
    refine j_iconst (v := nI 3) dX2_reset_38 nc_iconst_3 ?_
    refine j_iast dX2_reset_39 sk_4 sn_4 (by omega) (by decide) ?_
    refine j_aload_n_0 dX2_reset_40 ?_
    refine G_X2_21 rfl dX2_reset_41 sk_1 sr_1_5 ?_
    refine j_iload_n_2 dX2_reset_44 ?_
    refine j_iconst (v := nI 1) dX2_reset_45 nc_iconst_1 ?_
    refine j_bast dX2_reset_46 (jv_b01 (by first | exact Or.inl rfl | exact Or.inr rfl | assumption)) sk_5 sn_5 (by omega) (by decide) ?_
    refine j_mem rstV_s ?_
    refine j_inc1_2 rfl (by decide) dX2_reset_47 ?_
    refine j_goto (tgt := 12) dX2_reset_50 (by decide) ?_
    exact ih (i + 1) (by omega) (by omega)

set_option maxHeartbeats 4000000 in
set_option maxRecDepth 100000 in
theorem c_reset {sx : Nat → jv_S} {g : jv_G} {X : jv_X} {T : jv_T} {n : Nat} {V : Nat → Nat → Int32} {L : Nat → Nat → Int64} {k z : Nat} {N : Nat} (hb : N ≤ 12) (hM : jv_M g X T) (hT : T (.inl none) n (SH sx) (layV (rstV (jv_U (jv_U V 1 0 (nI N)) 1 1 (nI 0)) 12) N 0) L) : jv_J g X I_X2_reset 0 [some (jv_r g 1), some (.int (nI N)), none] [] n (SH sx) V L k z := by
  refine j_aload_n_0 dX2_reset_0 ?_
  refine j_iload_n_1 dX2_reset_1 ?_
  refine P_X2_41 rfl dX2_reset_2 sk_1 ?_
  refine j_aload_n_0 dX2_reset_5 ?_
  refine j_iconst (v := nI 0) dX2_reset_6 nc_iconst_0 ?_
  refine P_X2_45 rfl dX2_reset_7 sk_1 ?_
  refine j_iconst (v := nI 0) dX2_reset_10 nc_iconst_0 ?_
  refine j_istore_n_2 rfl (by decide) dX2_reset_11 ?_
  refine j_mem rstV_0.symm ?_
  exact c_reset_loop (by rw [jv_Unj (by omega), jv_Ueq]) hb jv_Ueq hM hT 13 0 (by omega) (by omega)

/-- a lift put at the end of the row -/
def putV (V : Nat → Nat → Int32) (K lo hi ev : Nat) (w : Int32) : Nat → Nat → Int32 := jv_U (jv_fill (jv_U (jv_U V (20 + 2 * K) 0 (nI 1)) (20 + 2 * K) 1 w) (20 + 2 * K + 1) 12 (stp lo hi ev)) 1 1 (nI (K + 1))
theorem putV_low {V : Nat → Nat → Int32} {K lo hi ev q : Nat} {w : Int32} (hq : q < 20) (h1 : q ≠ 1) : putV V K lo hi ev w q = V q := by
  funext c
  unfold putV
  rw [jv_Une h1, jv_fill_ne (by omega), jv_Une (by omega), jv_Une (by omega)]
theorem putV_10 {V : Nat → Nat → Int32} {K lo hi ev : Nat} {w : Int32} : putV V K lo hi ev w 1 0 = V 1 0 := by
  unfold putV
  rw [jv_Unj (by omega), jv_fill_ne (by omega), jv_Une (by omega), jv_Une (by omega)]
theorem putV_11 {V : Nat → Nat → Int32} {K lo hi ev : Nat} {w : Int32} : putV V K lo hi ev w 1 1 = nI (K + 1) := by
  unfold putV
  rw [jv_Ueq]

set_option maxHeartbeats 4000000 in
set_option maxRecDepth 100000 in
theorem c_putLift {sx : Nat → jv_S} {g : jv_G} {X : jv_X} {T : jv_T} {n : Nat} {V : Nat → Nat → Int32} {L : Nat → Nat → Int64} {k z : Nat} {N K lo hi ev : Nat} {w : Int32} (hN : V 1 0 = nI N) (hb : N ≤ 12) (hK : V 1 1 = nI K) (hK4 : K < 4) (hl : lo < hi) (hh : hi < 12) (he : 1 ≤ ev) (h3 : ev ≤ 12) (hM : jv_M g X T) (hT : T (.inl (some (.int (nI K)))) n (SH sx) (layV (putV V K lo hi ev w) N (K + 1)) L) : jv_J g X I_X2_putLift 0 [some (jv_r g 1), some (.int (nI lo)), some (.int (nI hi)), some (.int (nI ev)), some (.int w), none] [] n (SH sx) V L k z := by
  refine j_aload_n_0 dX2_putLift_0 ?_
  refine G_X2_45 rfl dX2_putLift_1 sk_1 ?_
  refine j_top (y := nI K) hK ?_
  refine j_istore_5 rfl (by decide) dX2_putLift_4 ?_
  refine j_aload_n_0 dX2_putLift_6 ?_
  refine G_X2_27 rfl dX2_putLift_7 sk_1 sr_1_6 ?_
  refine j_iload_5 dX2_putLift_10 ?_
  refine jv_aald (t := 4) (fun _ => rfl) rfl (by decide) (by decide) dX2_putLift_12 sk_6 sn_6 (by omega) (by decide) (sr_lif (by omega)) ?_
  refine j_iload_n_1 dX2_putLift_13 ?_
  refine j_iload_n_2 dX2_putLift_14 ?_
  refine j_iload_n_3 dX2_putLift_15 ?_
  refine j_iload_4 dX2_putLift_16 ?_
  refine C_X2_51 rfl (by decide) dX2_putLift_18 (sk_lif (isLif.of (by omega))) (Nat.le_of_ble_eq_true rfl) (Nat.le_of_eq (Nat.zero_add _)) (Nat.le_of_eq (Nat.zero_add _)) (fun _ _ hM' hT' => c_set (isLif.of (by omega)) hl hh he h3 hM' hT') ?_
  refine j_aload_n_0 dX2_putLift_21 ?_
  refine j_iload_5 dX2_putLift_22 ?_
  refine j_iconst (v := nI 1) dX2_putLift_24 nc_iconst_1 ?_
  refine j_iaddN dX2_putLift_25 ?_
  refine P_X2_45 rfl dX2_putLift_26 sk_1 ?_
  refine j_aload_n_0 dX2_putLift_29 ?_
  refine C_X2_48 rfl (by decide) dX2_putLift_30 sk_1 (Nat.le_of_ble_eq_true rfl) (Nat.le_of_eq (Nat.zero_add _)) (Nat.le_of_eq (Nat.zero_add _)) (fun _ _ hM' hT' => c_layPipes (by rw [show jv_U _ 1 1 _ = putV V K lo hi ev w from rfl, putV_10]; exact hN) hb (by rw [show jv_U _ 1 1 _ = putV V K lo hi ev w from rfl, putV_11]) (by omega) hM' hT') ?_
  refine j_iload_5 dX2_putLift_33 ?_
  exact j_iret hM dX2_putLift_35 rfl hT

set_option maxHeartbeats 4000000 in
set_option maxRecDepth 100000 in
theorem c_letStairs {sx : Nat → jv_S} {g : jv_G} {X : jv_X} {T : jv_T} {n : Nat} {V : Nat → Nat → Int32} {L : Nat → Nat → Int64} {k z : Nat} {N K f : Nat} {b : Int32} (hN : V 1 0 = nI N) (hb : N ≤ 12) (hK : V 1 1 = nI K) (hK4 : K ≤ 4) (hf : f < 12) (hb1 : b = 0 ∨ b = 1) (hM : jv_M g X T) (hT : T (.inl none) n (SH sx) (layV (jv_U V 5 f b) N K) L) : jv_J g X I_X2_letStairs 0 [some (jv_r g 1), some (.int (nI f)), some (.int b)] [] n (SH sx) V L k z := by
  refine j_aload_n_0 dX2_letStairs_0 ?_
  refine G_X2_21 rfl dX2_letStairs_1 sk_1 sr_1_5 ?_
  refine j_iload_n_1 dX2_letStairs_4 ?_
  refine j_iload_n_2 dX2_letStairs_5 ?_
  refine j_bast dX2_letStairs_6 (jv_b01 hb1) sk_5 sn_5 (by omega) (by decide) ?_
  refine j_aload_n_0 dX2_letStairs_7 ?_
  refine C_X2_48 rfl (by decide) dX2_letStairs_8 sk_1 (Nat.le_of_ble_eq_true rfl) (Nat.le_of_eq (Nat.zero_add _)) (Nat.le_of_eq (Nat.zero_add _)) (fun _ _ hM' hT' => c_layPipes (by rw [jv_Une (by omega)]; exact hN) hb (by rw [jv_Une (by omega)]; exact hK) hK4 hM' hT') ?_
  exact j_vret hM dX2_letStairs_11 rfl hT

set_option maxHeartbeats 4000000 in
set_option maxRecDepth 100000 in
theorem c_letLift {sx : Nat → jv_S} {g : jv_G} {X : jv_X} {T : jv_T} {n : Nat} {V : Nat → Nat → Int32} {L : Nat → Nat → Int64} {k z : Nat} {N K f : Nat} {b : Int32} (hN : V 1 0 = nI N) (hb : N ≤ 12) (hK : V 1 1 = nI K) (hK4 : K ≤ 4) (hf : f < K) (hb1 : b = 0 ∨ b = 1) (hM : jv_M g X T) (hT : T (.inl none) n (SH sx) (layV (jv_U V (20 + 2 * f) 0 b) N K) L) : jv_J g X I_X2_letLift 0 [some (jv_r g 1), some (.int (nI f)), some (.int b)] [] n (SH sx) V L k z := by
  refine j_aload_n_0 dX2_letLift_0 ?_
  refine G_X2_27 rfl dX2_letLift_1 sk_1 sr_1_6 ?_
  refine j_iload_n_1 dX2_letLift_4 ?_
  refine jv_aald (t := 4) (fun _ => rfl) rfl (by decide) (by decide) dX2_letLift_5 sk_6 sn_6 (by omega) (by decide) (sr_lif (by omega)) ?_
  refine j_iload_n_2 dX2_letLift_6 ?_
  refine P_X2_55 rfl hb1 dX2_letLift_7 (sk_lif (isLif.of (by omega))) ?_
  refine j_aload_n_0 dX2_letLift_10 ?_
  refine C_X2_48 rfl (by decide) dX2_letLift_11 sk_1 (Nat.le_of_ble_eq_true rfl) (Nat.le_of_eq (Nat.zero_add _)) (Nat.le_of_eq (Nat.zero_add _)) (fun _ _ hM' hT' => c_layPipes (by rw [jv_Une (by omega)]; exact hN) hb (by rw [jv_Une (by omega)]; exact hK) hK4 hM' hT') ?_
  exact j_vret hM dX2_letLift_14 rfl hT
