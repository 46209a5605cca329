/-! ===== the law's rumour: its own methods ===== -/
theorem any_step {l : List WE} {i : Nat} {x : WE} (h : l[i]? = some x) (f : WE → Bool) : (l.drop i).any f = (f x || (l.drop (i + 1)).any f) := by
  obtain ⟨hi, hx⟩ := List.getElem?_eq_some_iff.mp h
  rw [List.drop_eq_getElem_cons hi, List.any_cons, hx]
theorem any_end {l : List WE} {i : Nat} (h : l.length ≤ i) (f : WE → Bool) : (l.drop i).any f = false := by
  rw [List.drop_eq_nil_of_le h]
  rfl
def mt (h κ : Int32) (x : WE) : Bool := decide (x.2.1 = h ∧ x.2.2.1 = κ)
theorem mt_n1 {h κ : Int32} {x : WE} (e : ¬ x.2.1 = h) : mt h κ x = false := decide_eq_false (fun c => e c.1)
theorem mt_n2 {h κ : Int32} {x : WE} (e : ¬ x.2.2.1 = κ) : mt h κ x = false := decide_eq_false (fun c => e c.2)
theorem mt_y {h κ : Int32} {x : WE} (e1 : x.2.1 = h) (e2 : x.2.2.1 = κ) : mt h κ x = true := decide_eq_true ⟨e1, e2⟩
def atF (f : Nat) (x : WE) : Bool := decide (x.1 = nI f)
def undL (l : List WE) : Nat → Nat → Nat → Nat
  | 0, _, a => a
  | m + 1, f, a => undL l m (f + 1) (if l.any (atF f) = true then a + 1 else a)
def reaL (v : Nat → Int32) : Nat → Nat → Nat → Nat
  | 0, _, a => a
  | m + 1, f, a => reaL v m (f + 1) (if v f < 0 then a else a + 1)
theorem bz_or0 (b : Bool) : bz b ||| nI 0 = bz (b || false) := by cases b <;> decide +kernel
theorem bz_or1 (b : Bool) : bz b ||| nI 1 = bz (b || true) := by cases b <;> decide +kernel
theorem bz_nI {b : Bool} (h : b = false) : nI 0 = bz b := by rw [h]; rfl
theorem bz_nI1 {b : Bool} (h : b = true) : nI 1 = bz b := by rw [h]; rfl

set_option maxHeartbeats 4000000 in
set_option maxRecDepth 100000 in
theorem c_none_loop {g : jv_G} {X : jv_X} {T : jv_T} {n : Nat} {sh : Nat → jv_S} {V : Nat → Nat → Int32} {L : Nat → Nat → Int64} {k z : Nat} {q N : Nat} (hq : (sh q).1 = 10) (hqn : (sh q).2.1 = N) (hN : N ≤ 12) (hM : jv_M g X T) (hT : T (.inl (some (jv_r g q))) n sh (jv_fill V q N (fun _ => -1)) L) : ∀ (m : Nat) (i : Nat), i ≤ N → N + 1 ≤ i + m → jv_J g X I_X5_none 6 [some (.int (nI N)), some (jv_r g q), some (.int (nI i))] [] n sh (jv_fill V q i (fun _ => -1)) L k z := by
  intro m
  induction m with
  | zero => intro i hi hm; omega
  | succ m ih =>
  intro i hi hm
  refine j_iload_n_2 dX5_none_6 ?_
  refine j_iload_n_0 dX5_none_7 ?_
  refine j_ic_geN (by omega) (by omega) (tgt := 21) dX5_none_8 (by decide) (fun h8 => ?_) (fun h8 => ?_)
  · obtain rfl : i = N := by omega
    refine j_aload_n_1 dX5_none_21 ?_
    exact j_aret hM dX5_none_22 rfl (Or.inr ⟨_, rfl⟩) hT
  · refine j_aload_n_1 dX5_none_11 ?_
    refine j_iload_n_2 dX5_none_12 ?_
    refine j_iconst (v := -1) dX5_none_13 nc_iconst_m1 ?_
    refine j_iast dX5_none_14 hq hqn (by omega) (by omega) ?_
    rw [jv_fill_s rfl]
    refine j_inc1_2 rfl (by decide) dX5_none_15 ?_
    refine j_goto (tgt := 6) dX5_none_18 (by decide) ?_
    exact ih (i + 1) (by omega) (by omega)

set_option maxHeartbeats 4000000 in
set_option maxRecDepth 100000 in
theorem c_none {g : jv_G} {X : jv_X} {T : jv_T} {n : Nat} {sh : Nat → jv_S} {V : Nat → Nat → Int32} {L : Nat → Nat → Int64} {k z : Nat} {N : Nat} (hN : N ≤ 12) (hk : 1 ≤ k) (hz : 12 ≤ z) (hM : jv_M g X T) (hT : ∀ n1 s1 V1, (n1 = n + 1 ∧ nw n sh V (10, N, fun _ => none) (fun j => if j < N then -1 else 0) s1 V1) → T (.inl (some (jv_r g n))) n1 s1 V1 L) : jv_J g X I_X5_none 0 [some (.int (nI N)), none, none] [] n sh V L k z := by
  refine j_iload_n_0 dX5_none_0 ?_
  refine jr_newI (jv_gwm 64 (by decide +kernel) rfl) dX5_none_1 (by omega) (k2 := k - 1) (z2 := z - N) (by omega) (by omega) (fun sh1 V1 hw => ?_)
  refine j_astore_n_1 rfl (by decide) dX5_none_3 ?_
  refine j_iconst (v := nI 0) dX5_none_4 nc_iconst_0 ?_
  refine j_istore_n_2 rfl (by decide) dX5_none_5 ?_
  have e0 : jv_fill V1 n 0 (fun _ => -1) = V1 := jv_fill_0 _ _ _
  rw [← e0]
  refine c_none_loop (q := n) (N := N) (by rw [hw.2.1]) (by rw [hw.2.1]) hN hM (hT _ _ _ ⟨rfl, fun q hq => ⟨(hw.1 q hq).1, ?_⟩, hw.2.1, ?_⟩) (N + 1) 0 (by omega) (by omega)
  · funext j
    rw [jv_fill_ne hq, (hw.1 q hq).2]
  · funext j
    by_cases hj : j < N
    · rw [jv_fill_in hj, if_pos hj]
    · rw [jv_fill_out (by omega), if_neg hj, hw.2.2]

set_option maxHeartbeats 4000000 in
set_option maxRecDepth 100000 in
theorem c_comes_loop {g : jv_G} {X : jv_X} {T : jv_T} {n : Nat} {sh : Nat → jv_S} {V : Nat → Nat → Int32} {L : Nat → Nat → Int64} {k z : Nat} {E : Nat → Prop} {p w : Nat} {l : List WE} (hp : (sh p).1 = 6) (hw : (sh p).2.2 8 = some w) (hW : WL E n sh V w l) (hl : l.length ≤ 24) {h κ : Int32} (hM : jv_M g X T) : ∀ (m : Nat) (i : Nat) (v6 : Option Value), i ≤ l.length → l.length + 1 ≤ i + m → T (.inl (some (.int (bz ((l.drop i).any (mt h κ)))))) n sh V L → jv_J g X I_X5_comes 12 [some (jv_r g p), some (.int h), some (.int κ), some (jv_r g w), some (.int (nI l.length)), some (.int (nI i)), v6] [] n sh V L k z := by
  intro m
  induction m with
  | zero => intro i v6 hi hm hT; omega
  | succ m ih =>
  intro i v6 hi hm hT
  refine j_iload_5 dX5_comes_12 ?_
  refine j_iload_4 dX5_comes_14 ?_
  refine j_ic_geN (by omega) (by omega) (tgt := 49) dX5_comes_16 (by decide) (fun h16 => ?_) (fun h16 => ?_)
  · refine j_iconst (v := nI 0) dX5_comes_49 nc_iconst_0 ?_
    exact j_zret hM dX5_comes_50 rfl (jv_b01 (by first | exact Or.inl rfl | exact Or.inr rfl | assumption)) (by rw [any_end (by omega)] at hT; exact hT)
  · obtain ⟨x, e, hx, he, hen, hE, hr⟩ := hW.at (i := i) (by omega)
    refine j_aload_n_3 dX5_comes_19 ?_
    refine j_iload_5 dX5_comes_20 ?_
    refine jr_aaldA dX5_comes_22 hW.1 hW.2.1 (by omega) (by omega) he ?_
    refine j_astore_6 rfl (by decide) dX5_comes_23 ?_
    refine j_aload_6 dX5_comes_25 ?_
    refine j_iconst (v := nI 1) dX5_comes_27 nc_iconst_1 ?_
    refine j_iald dX5_comes_28 hr.1 hr.2.1 (by omega) (by omega) ?_
    refine j_top (y := x.2.1) hr.2.2.2.1 ?_
    refine j_iload_n_1 dX5_comes_29 ?_
    refine j_ic_ne (tgt := 43) dX5_comes_30 (by decide) (fun h30 => ?_) (fun h30 => ?_)
    · refine j_inc1_5 rfl (by decide) dX5_comes_43 ?_
      refine j_goto (tgt := 12) dX5_comes_46 (by decide) ?_
      exact ih (i + 1) _ (by omega) (by omega) (by rw [any_step hx, mt_n1 h30, Bool.false_or] at hT; exact hT)
    · refine j_aload_6 dX5_comes_33 ?_
      refine j_iconst (v := nI 2) dX5_comes_35 nc_iconst_2 ?_
      refine j_iald dX5_comes_36 hr.1 hr.2.1 (by omega) (by omega) ?_
      refine j_top (y := x.2.2.1) hr.2.2.2.2.1 ?_
      refine j_iload_n_2 dX5_comes_37 ?_
      refine j_ic_ne (tgt := 43) dX5_comes_38 (by decide) (fun h38 => ?_) (fun h38 => ?_)
      · refine j_inc1_5 rfl (by decide) dX5_comes_43 ?_
        refine j_goto (tgt := 12) dX5_comes_46 (by decide) ?_
        exact ih (i + 1) _ (by omega) (by omega) (by rw [any_step hx, mt_n2 h38, Bool.false_or] at hT; exact hT)
      · refine j_iconst (v := nI 1) dX5_comes_41 nc_iconst_1 ?_
        exact j_zret hM dX5_comes_42 rfl (jv_b01 (by first | exact Or.inl rfl | exact Or.inr rfl | assumption)) (by rw [any_step hx, mt_y h30 h38, Bool.true_or] at hT; exact hT)

set_option maxHeartbeats 4000000 in
set_option maxRecDepth 100000 in
theorem c_comes {g : jv_G} {X : jv_X} {T : jv_T} {n : Nat} {sh : Nat → jv_S} {V : Nat → Nat → Int32} {L : Nat → Nat → Int64} {k z : Nat} {E : Nat → Prop} {p w : Nat} {l : List WE} (hp : (sh p).1 = 6) (hw : (sh p).2.2 8 = some w) (hW : WL E n sh V w l) (hl : l.length ≤ 24) {h κ : Int32} (hM : jv_M g X T) (hT : T (.inl (some (.int (bz (l.any (mt h κ)))))) n sh V L) : jv_J g X I_X5_comes 0 [some (jv_r g p), some (.int h), some (.int κ), none, none, none, none] [] n sh V L k z := by
  refine j_aload_n_0 dX5_comes_0 ?_
  refine G_X5_9 rfl dX5_comes_1 hp hw ?_
  refine j_astore_n_3 rfl (by decide) dX5_comes_4 ?_
  refine j_aload_n_3 dX5_comes_5 ?_
  refine jr_alenA dX5_comes_6 hW.1 hW.2.1 ?_
  refine j_istore_4 rfl (by decide) dX5_comes_7 ?_
  refine j_iconst (v := nI 0) dX5_comes_9 nc_iconst_0 ?_
  refine j_istore_5 rfl (by decide) dX5_comes_10 ?_
  exact c_comes_loop hp hw hW hl hM (l.length + 1) 0 _ (by omega) (by omega) hT

set_option maxHeartbeats 4000000 in
set_option maxRecDepth 100000 in
theorem c_under_in {g : jv_G} {X : jv_X} {n : Nat} {sh : Nat → jv_S} {V : Nat → Nat → Int32} {L : Nat → Nat → Int64} {k z : Nat} {E : Nat → Prop} {p w : Nat} {l : List WE} (hp : (sh p).1 = 6) (hw : (sh p).2.2 8 = some w) (hW : WL E n sh V w l) (hl : l.length ≤ 24) {s f : Nat} (hf : f < 12) : ∀ (m : Nat) (i : Nat) (b : Bool) (v7 : Option Value), i ≤ l.length → l.length + 1 ≤ i + m → (∀ v4 v5 v6 v7, jv_J g X I_X5_under 65 [some (jv_r g p), some (.int (nI s)), some (.int (nI f)), some (.int (bz (b || (l.drop i).any (atF f)))), v4, v5, v6, v7] [] n sh V L k z) → jv_J g X I_X5_under 29 [some (jv_r g p), some (.int (nI s)), some (.int (nI f)), some (.int (bz b)), some (jv_r g w), some (.int (nI l.length)), some (.int (nI i)), v7] [] n sh V L k z := by
  intro m
  induction m with
  | zero => intro i b v7 hi hm kk; omega
  | succ m ih =>
  intro i b v7 hi hm kk
  refine j_iload_6 dX5_under_29 ?_
  refine j_iload_5 dX5_under_31 ?_
  refine j_ic_geN (by omega) (by omega) (tgt := 65) dX5_under_33 (by decide) (fun h33 => ?_) (fun h33 => ?_)
  · rw [any_end (by omega), Bool.or_false] at kk
    exact kk _ _ _ _
  · obtain ⟨x, e, hx, he, hen, hE, hr⟩ := hW.at (i := i) (by omega)
    refine j_aload_4 dX5_under_36 ?_
    refine j_iload_6 dX5_under_38 ?_
    refine jr_aaldA dX5_under_40 hW.1 hW.2.1 (by omega) (by omega) he ?_
    refine j_astore_7 rfl (by decide) dX5_under_41 ?_
    refine j_iload_n_3 dX5_under_43 ?_
    refine j_aload_7 dX5_under_44 ?_
    refine j_iconst (v := nI 0) dX5_under_46 nc_iconst_0 ?_
    refine j_iald dX5_under_47 hr.1 hr.2.1 (by omega) (by omega) ?_
    refine j_top (y := x.1) hr.2.2.1 ?_
    refine j_iload_n_2 dX5_under_48 ?_
    refine j_ic_ne (tgt := 56) dX5_under_49 (by decide) (fun h49 => ?_) (fun h49 => ?_)
    · refine j_iconst (v := nI 0) dX5_under_56 nc_iconst_0 ?_
      refine j_ior dX5_under_57 ?_
      refine j_top (y := _) (bz_or0 b) ?_
      refine j_istore_n_3 rfl (by decide) dX5_under_58 ?_
      refine j_inc1_6 rfl (by decide) dX5_under_59 ?_
      refine j_goto (tgt := 29) dX5_under_62 (by decide) ?_
      refine ih (i + 1) _ _ (by omega) (by omega) ?_
      rw [any_step hx, ← Bool.or_assoc, show atF f x = false from decide_eq_false h49] at kk
      exact kk
    · refine j_iconst (v := nI 1) dX5_under_52 nc_iconst_1 ?_
      refine j_goto (tgt := 57) dX5_under_53 (by decide) ?_
      refine j_ior dX5_under_57 ?_
      refine j_top (y := _) (bz_or1 b) ?_
      refine j_istore_n_3 rfl (by decide) dX5_under_58 ?_
      refine j_inc1_6 rfl (by decide) dX5_under_59 ?_
      refine j_goto (tgt := 29) dX5_under_62 (by decide) ?_
      refine ih (i + 1) _ _ (by omega) (by omega) ?_
      rw [any_step hx, ← Bool.or_assoc, show atF f x = true from decide_eq_true h49] at kk
      exact kk

set_option maxHeartbeats 4000000 in
set_option maxRecDepth 100000 in
theorem c_under_loop {g : jv_G} {X : jv_X} {T : jv_T} {n : Nat} {sh : Nat → jv_S} {V : Nat → Nat → Int32} {L : Nat → Nat → Int64} {k z : Nat} {E : Nat → Prop} {p w : Nat} {l : List WE} (hp : (sh p).1 = 6) (hw : (sh p).2.2 8 = some w) (hW : WL E n sh V w l) (hl : l.length ≤ 24) {a N : Nat} (ha : (sh p).2.2 2 = some a) (hak : (sh a).1 = 10) (han : (sh a).2.1 = N) (hN : N ≤ 12) (hM : jv_M g X T) : ∀ (m : Nat) (f s : Nat) (v3 v4 v5 v6 v7 : Option Value), f ≤ N → N + 1 ≤ f + m → T (.inl (some (.int (nI (undL l (N - f) f s))))) n sh V L → jv_J g X I_X5_under 4 [some (jv_r g p), some (.int (nI s)), some (.int (nI f)), v3, v4, v5, v6, v7] [] n sh V L k z := by
  intro m
  induction m with
  | zero => intro f s v3 v4 v5 v6 v7 hf hm hT; omega
  | succ m ih =>
  intro f s v3 v4 v5 v6 v7 hf hm hT
  refine j_iload_n_2 dX5_under_4 ?_
  refine j_aload_n_0 dX5_under_5 ?_
  refine G_X5_15 rfl dX5_under_6 hp ha ?_
  refine j_alen dX5_under_9 hak han ?_
  refine j_ic_geN (by omega) (by omega) (tgt := 83) dX5_under_10 (by decide) (fun h10 => ?_) (fun h10 => ?_)
  · rw [show N - f = 0 by omega] at hT
    refine j_iload_n_1 dX5_under_83 ?_
    exact j_iret hM dX5_under_84 rfl hT
  · refine j_iconst (v := nI 0) dX5_under_13 nc_iconst_0 ?_
    refine j_istore_n_3 rfl (by decide) dX5_under_14 ?_
    refine j_aload_n_0 dX5_under_15 ?_
    refine G_X5_9 rfl dX5_under_16 hp hw ?_
    refine j_astore_4 rfl (by decide) dX5_under_19 ?_
    refine j_aload_4 dX5_under_21 ?_
    refine jr_alenA dX5_under_23 hW.1 hW.2.1 ?_
    refine j_istore_5 rfl (by decide) dX5_under_24 ?_
    refine j_iconst (v := nI 0) dX5_under_26 nc_iconst_0 ?_
    refine j_istore_6 rfl (by decide) dX5_under_27 ?_
    refine c_under_in hp hw hW hl (by omega) (l.length + 1) 0 false _ (by omega) (by omega) (fun v4 v5 v6 v7 => ?_)
    rw [Bool.false_or, List.drop_zero]
    refine j_iload_n_1 dX5_under_65 ?_
    refine j_iload_n_3 dX5_under_66 ?_
    refine j_if_eq (tgt := 74) dX5_under_67 (by decide) (fun h67 => ?_) (fun h67 => ?_)
    · refine j_iconst (v := nI 0) dX5_under_74 nc_iconst_0 ?_
      refine j_iaddN dX5_under_75 ?_
      refine j_istore_n_1 rfl (by decide) dX5_under_76 ?_
      refine j_inc1_2 rfl (by decide) dX5_under_77 ?_
      refine j_goto (tgt := 4) dX5_under_80 (by decide) ?_
      exact ih (f + 1) _ _ _ _ _ _ (by omega) (by omega) (by rw [show N - f = N - (f + 1) + 1 by omega, undL, if_neg (by rw [bz_f h67]; decide)] at hT; exact hT)
    · refine j_iconst (v := nI 1) dX5_under_70 nc_iconst_1 ?_
      refine j_goto (tgt := 75) dX5_under_71 (by decide) ?_
      refine j_iaddN dX5_under_75 ?_
      refine j_istore_n_1 rfl (by decide) dX5_under_76 ?_
      refine j_inc1_2 rfl (by decide) dX5_under_77 ?_
      refine j_goto (tgt := 4) dX5_under_80 (by decide) ?_
      exact ih (f + 1) _ _ _ _ _ _ (by omega) (by omega) (by rw [show N - f = N - (f + 1) + 1 by omega, undL, if_pos (bz_t h67)] at hT; exact hT)

set_option maxHeartbeats 4000000 in
set_option maxRecDepth 100000 in
theorem c_under {g : jv_G} {X : jv_X} {T : jv_T} {n : Nat} {sh : Nat → jv_S} {V : Nat → Nat → Int32} {L : Nat → Nat → Int64} {k z : Nat} {E : Nat → Prop} {p w : Nat} {l : List WE} (hp : (sh p).1 = 6) (hw : (sh p).2.2 8 = some w) (hW : WL E n sh V w l) (hl : l.length ≤ 24) {a N : Nat} (ha : (sh p).2.2 2 = some a) (hak : (sh a).1 = 10) (han : (sh a).2.1 = N) (hN : N ≤ 12) (hM : jv_M g X T) (hT : T (.inl (some (.int (nI (undL l N 0 0))))) n sh V L) : jv_J g X I_X5_under 0 [some (jv_r g p), none, none, none, none, none, none, none] [] n sh V L k z := by
  refine j_iconst (v := nI 0) dX5_under_0 nc_iconst_0 ?_
  refine j_istore_n_1 rfl (by decide) dX5_under_1 ?_
  refine j_iconst (v := nI 0) dX5_under_2 nc_iconst_0 ?_
  refine j_istore_n_2 rfl (by decide) dX5_under_3 ?_
  exact c_under_loop hp hw hW hl ha hak han hN hM (N + 1) 0 0 _ _ _ _ _ (by omega) (by omega) hT

set_option maxHeartbeats 4000000 in
set_option maxRecDepth 100000 in
theorem c_rea_loop {g : jv_G} {X : jv_X} {T : jv_T} {n : Nat} {sh : Nat → jv_S} {V : Nat → Nat → Int32} {L : Nat → Nat → Int64} {k z : Nat} {p a N : Nat} (hp : (sh p).1 = 6) (ha : (sh p).2.2 3 = some a) (hak : (sh a).1 = 10) (han : (sh a).2.1 = N) (hN : N ≤ 12) (hM : jv_M g X T) : ∀ (m : Nat) (f s : Nat) (v5 : Option Value), f ≤ N → N + 1 ≤ f + m → T (.inl (some (.int (nI (reaL (V a) (N - f) f s))))) n sh V L → jv_J g X I_X5_reached 13 [some (jv_r g p), some (.int (nI s)), some (jv_r g a), some (.int (nI N)), some (.int (nI f)), v5] [] n sh V L k z := by
  intro m
  induction m with
  | zero => intro f s v5 hf hm hT; omega
  | succ m ih =>
  intro f s v5 hf hm hT
  refine j_iload_4 dX5_reached_13 ?_
  refine j_iload_n_3 dX5_reached_15 ?_
  refine j_ic_geN (by omega) (by omega) (tgt := 44) dX5_reached_16 (by decide) (fun h16 => ?_) (fun h16 => ?_)
  · rw [show N - f = 0 by omega] at hT
    refine j_iload_n_1 dX5_reached_44 ?_
    exact j_iret hM dX5_reached_45 rfl hT
  · refine j_aload_n_2 dX5_reached_19 ?_
    refine j_iload_4 dX5_reached_20 ?_
    refine j_iald dX5_reached_22 hak han (by omega) (by omega) ?_
    refine j_istore_5 rfl (by decide) dX5_reached_23 ?_
    refine j_iload_n_1 dX5_reached_25 ?_
    refine j_iload_5 dX5_reached_26 ?_
    refine j_if_lt (tgt := 35) dX5_reached_28 (by decide) (fun h28 => ?_) (fun h28 => ?_)
    · refine j_iconst (v := nI 0) dX5_reached_35 nc_iconst_0 ?_
      refine j_iaddN dX5_reached_36 ?_
      refine j_istore_n_1 rfl (by decide) dX5_reached_37 ?_
      refine j_inc1_4 rfl (by decide) dX5_reached_38 ?_
      refine j_goto (tgt := 13) dX5_reached_41 (by decide) ?_
      exact ih (f + 1) _ _ (by omega) (by omega) (by rw [show N - f = N - (f + 1) + 1 by omega, reaL, if_pos h28] at hT; exact hT)
    · refine j_iconst (v := nI 1) dX5_reached_31 nc_iconst_1 ?_
      refine j_goto (tgt := 36) dX5_reached_32 (by decide) ?_
      refine j_iaddN dX5_reached_36 ?_
      refine j_istore_n_1 rfl (by decide) dX5_reached_37 ?_
      refine j_inc1_4 rfl (by decide) dX5_reached_38 ?_
      refine j_goto (tgt := 13) dX5_reached_41 (by decide) ?_
      exact ih (f + 1) _ _ (by omega) (by omega) (by rw [show N - f = N - (f + 1) + 1 by omega, reaL, if_neg h28] at hT; exact hT)

set_option maxHeartbeats 4000000 in
set_option maxRecDepth 100000 in
theorem c_reachd {g : jv_G} {X : jv_X} {T : jv_T} {n : Nat} {sh : Nat → jv_S} {V : Nat → Nat → Int32} {L : Nat → Nat → Int64} {k z : Nat} {p a N : Nat} (hp : (sh p).1 = 6) (ha : (sh p).2.2 3 = some a) (hak : (sh a).1 = 10) (han : (sh a).2.1 = N) (hN : N ≤ 12) (hM : jv_M g X T) (hT : T (.inl (some (.int (nI (reaL (V a) N 0 0))))) n sh V L) : jv_J g X I_X5_reached 0 [some (jv_r g p), none, none, none, none, none] [] n sh V L k z := by
  refine j_iconst (v := nI 0) dX5_reached_0 nc_iconst_0 ?_
  refine j_istore_n_1 rfl (by decide) dX5_reached_1 ?_
  refine j_aload_n_0 dX5_reached_2 ?_
  refine G_X5_22 rfl dX5_reached_3 hp ha ?_
  refine j_astore_n_2 rfl (by decide) dX5_reached_6 ?_
  refine j_aload_n_2 dX5_reached_7 ?_
  refine j_alen dX5_reached_8 hak han ?_
  refine j_istore_n_3 rfl (by decide) dX5_reached_9 ?_
  refine j_iconst (v := nI 0) dX5_reached_10 nc_iconst_0 ?_
  refine j_istore_4 rfl (by decide) dX5_reached_11 ?_
  exact c_rea_loop hp ha hak han hN hM (N + 1) 0 0 _ (by omega) (by omega) hT
