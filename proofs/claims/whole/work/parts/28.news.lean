/-! ===== the reference: news and denials; the places of a floor of a rumour: 12 * r + f ===== -/
def heM (V : (Nat → Nat → Int32)) (a : Nat) (p : Int32) : (Nat → Nat → Int32) := if V 135 (0 + a) = 0 then jv_U (jv_U (jv_U (jv_U V 135 (0 + a) (nI 1)) 135 (96 + a) (V 135 864)) 135 (192 + a) p) 135 (384 + a) (V 135 864 + V 125 (a % 12)) else V
def deM (V : (Nat → Nat → Int32)) (a : Nat) : (Nat → Nat → Int32) := if V 135 (0 + a) = nI 2 then V else jv_U (jv_U (jv_U (jv_U V 135 (0 + a) (nI 2)) 135 (288 + a) (V 135 864)) 135 (384 + a) (-1)) 135 (480 + a) (V 135 864 + V 125 (a % 12) / nI 2)
def arR (V : (Nat → Nat → Int32)) (a : Nat) : (Nat → Nat → Int32) := if V 135 (576 + a) = V 135 864 then heM (jv_U V 135 (576 + a) (-1)) a (jv_U V 135 (576 + a) (-1) 135 (672 + a)) else V
def arD (V : (Nat → Nat → Int32)) (a : Nat) : (Nat → Nat → Int32) := if V 135 (768 + a) = V 135 864 then deM (jv_U V 135 (768 + a) (-1)) a else V
def arM (V : (Nat → Nat → Int32)) (a : Nat) : (Nat → Nat → Int32) := arD (arR V a) a
def sr1 (V : (Nat → Nat → Int32)) (K r f i : Nat) (p : Int32) : (Nat → Nat → Int32) := if hoM V K f i = -1 then V else if V 135 (576 + (12 * r + i)) = -1 ∨ V 135 864 + hoM V K f i < V 135 (576 + (12 * r + i)) ∨ (V 135 864 + hoM V K f i = V 135 (576 + (12 * r + i)) ∧ p < V 135 (672 + (12 * r + i))) then jv_U (jv_U V 135 (576 + (12 * r + i)) (V 135 864 + hoM V K f i)) 135 (672 + (12 * r + i)) p else V
def srL (K r f : Nat) (p : Int32) : Nat → Nat → (Nat → Nat → Int32) → (Nat → Nat → Int32)
  | 0, _, V => V
  | m + 1, i, V => srL K r f p m (i + 1) (sr1 V K r f i p)
def mnI (x y : Int32) : Int32 := if y < x then y else x
def sd1 (V : (Nat → Nat → Int32)) (K r f i : Nat) : (Nat → Nat → Int32) := if hoM V K f i = -1 then V else jv_U V 135 (768 + (12 * r + i)) (if V 135 (768 + (12 * r + i)) = -1 then V 135 864 + hoM V K f i else mnI (V 135 (768 + (12 * r + i))) (V 135 864 + hoM V K f i))
def sdL (K r f : Nat) : Nat → Nat → (Nat → Nat → Int32) → (Nat → Nat → Int32)
  | 0, _, V => V
  | m + 1, i, V => sdL K r f m (i + 1) (sd1 V K r f i)
def seR (V : (Nat → Nat → Int32)) (N K r f : Nat) : (Nat → Nat → Int32) := srL K r f (V 135 (192 + 12 * r + f) + nI 1) N 0 V
def seD (V : (Nat → Nat → Int32)) (N K r f : Nat) : (Nat → Nat → Int32) := sdL K r f N 0 V
def tuR (V : (Nat → Nat → Int32)) (N K r f : Nat) : (Nat → Nat → Int32) := if V 134 r ≤ V 135 (192 + (12 * r + f)) then V else seR V N K r f
def tmR (V : (Nat → Nat → Int32)) (N K r f : Nat) : (Nat → Nat → Int32) := if V 135 (384 + (12 * r + f)) = V 135 864 then tuR (jv_U V 135 (384 + (12 * r + f)) (-1)) N K r f else V
def tmD (V : (Nat → Nat → Int32)) (N K r f : Nat) : (Nat → Nat → Int32) := if V 135 (480 + (12 * r + f)) = V 135 864 then seD (jv_U V 135 (480 + (12 * r + f)) (-1)) N K r f else V
def tmM (V : (Nat → Nat → Int32)) (N K r f : Nat) : (Nat → Nat → Int32) := tmD (tmR V N K r f) N K r f
def haL (r : Nat) : Nat → Nat → (Nat → Nat → Int32) → (Nat → Nat → Int32)
  | 0, _, V => V
  | m + 1, i, V => haL r m (i + 1) (arM V (12 * r + i))
def htL (N K r : Nat) : Nat → Nat → (Nat → Nat → Int32) → (Nat → Nat → Int32)
  | 0, _, V => V
  | m + 1, i, V => htL N K r m (i + 1) (tmM V N K r i)
/-- an hour of one rumour -/
def hfM (V : (Nat → Nat → Int32)) (N K r : Nat) : (Nat → Nat → Int32) := htL N K r N 0 (haL r N 0 V)
def hoN (V : (Nat → Nat → Int32)) : (Nat → Nat → Int32) := jv_U V 135 864 (V 135 864 + nI 1)
def hqL (N K : Nat) : Nat → Nat → (Nat → Nat → Int32) → (Nat → Nat → Int32)
  | 0, _, V => V
  | m + 1, i, V => hqL N K m (i + 1) (hfM V N K i)
def houM (V : (Nat → Nat → Int32)) (N K R : Nat) : (Nat → Nat → Int32) := hoN (hqL N K R 0 V)
def lkM (N K r : Nat) : Nat → (Nat → Nat → Int32) → (Nat → Nat → Int32)
  | 0, V => V
  | m + 1, V => lkM N K r m (hoN (hfM V N K r))
def hdL (V : (Nat → Nat → Int32)) (r : Nat) : Nat → Nat → Nat → Nat
  | 0, _, a => a
  | m + 1, i, a => hdL V r m (i + 1) (if V 135 (96 + 12 * r + i) = -1 then a + 0 else a + 1)
def haA (V : (Nat → Nat → Int32)) (N : Nat) : Nat → Nat → Nat → Nat
  | 0, _, a => a
  | m + 1, i, a => haA V N m (i + 1) (a + hdL V i N 0 0)
def beL (V : (Nat → Nat → Int32)) (r : Nat) : Nat → Nat → Int32 → Int32
  | 0, _, a => a
  | m + 1, i, a => beL V r m (i + 1) (if V 135 (0 + 12 * r + i) = nI 1 then a + V 124 i else a + nI 0)
def owB (V : (Nat → Nat → Int32)) (a : Nat) : Bool := decide (¬ V 135 (576 + a) = -1 ∨ ¬ V 135 (768 + a) = -1)
def qmL (V : (Nat → Nat → Int32)) (r : Nat) : Nat → Nat → Bool
  | 0, _ => true
  | m + 1, i => if owB V (12 * r + i) = false ∧ V 135 (384 + (12 * r + i)) = -1 ∧ V 135 (480 + (12 * r + i)) = -1 then qmL V r m (i + 1) else false
def owL (V : (Nat → Nat → Int32)) (r : Nat) : Nat → Nat → Nat → Nat
  | 0, _, a => a
  | m + 1, i, a => owL V r m (i + 1) (if owB V (12 * r + i) = true then a + 1 else a + 0)
/-! all of them leave every place but 135 -/
theorem heM_out {V : (Nat → Nat → Int32)} {a q : Nat} {p : Int32} (h : q ≠ 135) : heM V a p q = V q := by
  unfold heM
  split
  · rw [jv_U_other h, jv_U_other h, jv_U_other h, jv_U_other h]
  · rfl
theorem deM_out {V : (Nat → Nat → Int32)} {a q : Nat} (h : q ≠ 135) : deM V a q = V q := by
  unfold deM
  split
  · rfl
  · rw [jv_U_other h, jv_U_other h, jv_U_other h, jv_U_other h]
theorem arR_out {V : (Nat → Nat → Int32)} {a q : Nat} (h : q ≠ 135) : arR V a q = V q := by
  unfold arR
  split
  · rw [heM_out h, jv_U_other h]
  · rfl
theorem arD_out {V : (Nat → Nat → Int32)} {a q : Nat} (h : q ≠ 135) : arD V a q = V q := by
  unfold arD
  split
  · rw [deM_out h, jv_U_other h]
  · rfl
theorem arM_out {V : (Nat → Nat → Int32)} {a q : Nat} (h : q ≠ 135) : arM V a q = V q := by
  unfold arM
  rw [arD_out h, arR_out h]
theorem sr1_out {V : (Nat → Nat → Int32)} {K r f i q : Nat} {p : Int32} (h : q ≠ 135) : sr1 V K r f i p q = V q := by
  unfold sr1
  split
  · rfl
  · split
    · rw [jv_U_other h, jv_U_other h]
    · rfl
theorem sd1_out {V : (Nat → Nat → Int32)} {K r f i q : Nat} (h : q ≠ 135) : sd1 V K r f i q = V q := by
  unfold sd1
  split
  · rfl
  · rw [jv_U_other h]
theorem srL_out {K r f q : Nat} {p : Int32} (h : q ≠ 135) : ∀ m i V, srL K r f p m i V q = V q := by
  intro m
  induction m with
  | zero => intro i V; rfl
  | succ m ih =>
    intro i V
    show srL K r f p m (i + 1) _ q = _
    rw [ih, sr1_out h]
theorem sdL_out {K r f q : Nat} (h : q ≠ 135) : ∀ m i V, sdL K r f m i V q = V q := by
  intro m
  induction m with
  | zero => intro i V; rfl
  | succ m ih =>
    intro i V
    show sdL K r f m (i + 1) _ q = _
    rw [ih, sd1_out h]
theorem tuR_out {V : (Nat → Nat → Int32)} {N K r f q : Nat} (h : q ≠ 135) : tuR V N K r f q = V q := by
  unfold tuR seR
  split
  · rfl
  · rw [srL_out h]
theorem tmR_out {V : (Nat → Nat → Int32)} {N K r f q : Nat} (h : q ≠ 135) : tmR V N K r f q = V q := by
  unfold tmR
  split
  · rw [tuR_out h, jv_U_other h]
  · rfl
theorem tmD_out {V : (Nat → Nat → Int32)} {N K r f q : Nat} (h : q ≠ 135) : tmD V N K r f q = V q := by
  unfold tmD seD
  split
  · rw [sdL_out h, jv_U_other h]
  · rfl
theorem tmM_out {V : (Nat → Nat → Int32)} {N K r f q : Nat} (h : q ≠ 135) : tmM V N K r f q = V q := by
  unfold tmM
  rw [tmD_out h, tmR_out h]
theorem haL_out {r q : Nat} (h : q ≠ 135) : ∀ m i V, haL r m i V q = V q := by
  intro m
  induction m with
  | zero => intro i V; rfl
  | succ m ih =>
    intro i V
    show haL r m (i + 1) _ q = _
    rw [ih, arM_out h]
theorem htL_out {N K r q : Nat} (h : q ≠ 135) : ∀ m i V, htL N K r m i V q = V q := by
  intro m
  induction m with
  | zero => intro i V; rfl
  | succ m ih =>
    intro i V
    show htL N K r m (i + 1) _ q = _
    rw [ih, tmM_out h]
theorem hfM_out {V : (Nat → Nat → Int32)} {N K r q : Nat} (h : q ≠ 135) : hfM V N K r q = V q := by
  unfold hfM
  rw [htL_out h, haL_out h]
theorem hoN_out {V : (Nat → Nat → Int32)} {q : Nat} (h : q ≠ 135) : hoN V q = V q := jv_U_other h
theorem hqL_out {N K q : Nat} (h : q ≠ 135) : ∀ m i V, hqL N K m i V q = V q := by
  intro m
  induction m with
  | zero => intro i V; rfl
  | succ m ih =>
    intro i V
    show hqL N K m (i + 1) _ q = _
    rw [ih, hfM_out h]
theorem houM_out {V : (Nat → Nat → Int32)} {N K R q : Nat} (h : q ≠ 135) : houM V N K R q = V q := by
  unfold houM
  rw [hoN_out h, hqL_out h]
theorem lkM_out {N K r q : Nat} (h : q ≠ 135) : ∀ m V, lkM N K r m V q = V q := by
  intro m
  induction m with
  | zero => intro V; rfl
  | succ m ih =>
    intro V
    show lkM N K r m _ q = _
    rw [ih, hoN_out h, hfM_out h]

set_option maxHeartbeats 4000000 in
set_option maxRecDepth 100000 in
theorem y_hear {sx : Nat → jv_S} {g : jv_G} {X : jv_X} {T : jv_T} {n : Nat} {V : Nat → Nat → Int32} {L : Nat → Nat → Int64} {k z : Nat} {a : Nat} {p : Int32} (ha : a < 96) (hM : jv_M g X T) (hT : T (.inl none) n (SH sx) (heM V a p) L) : jv_J g X I_X5_hear 0 [some (jv_r g 123), some (.int (nI a)), some (.int p)] [] n (SH sx) V L k z := by
  refine j_aload_n_0 dX5_hear_0 ?_
  refine G_X5_44 rfl dX5_hear_1 sk_123 sr_123_15 ?_
  refine j_iconst (v := nI 0) dX5_hear_4 nc_iconst_0 ?_
  refine j_iload_n_1 dX5_hear_5 ?_
  refine j_iaddN dX5_hear_6 ?_
  refine j_iald dX5_hear_7 sk_135 sn_135 (by omega) (by decide) ?_
  refine j_if_eq (tgt := 12) dX5_hear_8 (by decide) (fun h8 => ?_) (fun h8 => ?_)
  · refine j_aload_n_0 dX5_hear_12 ?_
    refine G_X5_44 rfl dX5_hear_13 sk_123 sr_123_15 ?_
    refine j_iconst (v := nI 0) dX5_hear_16 nc_iconst_0 ?_
    refine j_iload_n_1 dX5_hear_17 ?_
    refine j_iaddN dX5_hear_18 ?_
    refine j_iconst (v := nI 1) dX5_hear_19 nc_iconst_1 ?_
    refine j_iast dX5_hear_20 sk_135 sn_135 (by omega) (by decide) ?_
    refine j_aload_n_0 dX5_hear_21 ?_
    refine G_X5_44 rfl dX5_hear_22 sk_123 sr_123_15 ?_
    refine j_bipush (v := nI 96) dX5_hear_25 nc_bipush_96 ?_
    refine j_iload_n_1 dX5_hear_27 ?_
    refine j_iaddN dX5_hear_28 ?_
    refine j_aload_n_0 dX5_hear_29 ?_
    refine G_X5_44 rfl dX5_hear_30 sk_123 sr_123_15 ?_
    refine j_sipush (v := nI 864) dX5_hear_33 nc_sipush_864 ?_
    refine j_iald dX5_hear_36 sk_135 sn_135 (by omega) (by decide) ?_
    refine j_top (y := V 135 864) (by rw [jv_Unj (by omega)]) ?_
    refine j_iast dX5_hear_37 sk_135 sn_135 (by omega) (by decide) ?_
    refine j_aload_n_0 dX5_hear_38 ?_
    refine G_X5_44 rfl dX5_hear_39 sk_123 sr_123_15 ?_
    refine j_sipush (v := nI 192) dX5_hear_42 nc_sipush_192 ?_
    refine j_iload_n_1 dX5_hear_45 ?_
    refine j_iaddN dX5_hear_46 ?_
    refine j_iload_n_2 dX5_hear_47 ?_
    refine j_iast dX5_hear_48 sk_135 sn_135 (by omega) (by decide) ?_
    refine j_aload_n_0 dX5_hear_49 ?_
    refine G_X5_44 rfl dX5_hear_50 sk_123 sr_123_15 ?_
    refine j_sipush (v := nI 384) dX5_hear_53 nc_sipush_384 ?_
    refine j_iload_n_1 dX5_hear_56 ?_
    refine j_iaddN dX5_hear_57 ?_
    refine j_aload_n_0 dX5_hear_58 ?_
    refine G_X5_44 rfl dX5_hear_59 sk_123 sr_123_15 ?_
    refine j_sipush (v := nI 864) dX5_hear_62 nc_sipush_864 ?_
    refine j_iald dX5_hear_65 sk_135 sn_135 (by omega) (by decide) ?_
    refine j_top (y := V 135 864) (by rw [jv_Unj (by omega), jv_Unj (by omega), jv_Unj (by omega)]) ?_
    refine j_aload_n_0 dX5_hear_66 ?_
    refine G_X5_13 rfl dX5_hear_67 sk_123 sr_123_5 ?_
    refine j_iload_n_1 dX5_hear_70 ?_
    refine j_bipush (v := nI 12) dX5_hear_71 nc_bipush_12 ?_
    refine j_irem (by decide +kernel) dX5_hear_73 ?_
    refine j_top (y := nI (a % 12)) (pk_rem (by omega) (by decide) (by decide)) ?_
    refine j_iald dX5_hear_74 sk_125 sn_125 (by omega) (by decide) ?_
    refine j_top (y := V 125 (a % 12)) (by rw [jv_Une (by omega), jv_Une (by omega), jv_Une (by omega)]) ?_
    refine j_iadd dX5_hear_75 ?_
    refine j_iast dX5_hear_76 sk_135 sn_135 (by omega) (by decide) ?_
    exact j_vret hM dX5_hear_77 rfl (by unfold heM at hT; rw [if_pos h8] at hT; exact hT)
  · exact j_vret hM dX5_hear_11 rfl (by unfold heM at hT; rw [if_neg h8] at hT; exact hT)

set_option maxHeartbeats 4000000 in
set_option maxRecDepth 100000 in
theorem y_deny {sx : Nat → jv_S} {g : jv_G} {X : jv_X} {T : jv_T} {n : Nat} {V : Nat → Nat → Int32} {L : Nat → Nat → Int64} {k z : Nat} {a : Nat} (ha : a < 96) (hM : jv_M g X T) (hT : T (.inl none) n (SH sx) (deM V a) L) : jv_J g X I_X5_deny 0 [some (jv_r g 123), some (.int (nI a))] [] n (SH sx) V L k z := by
  refine j_aload_n_0 dX5_deny_0 ?_
  refine G_X5_44 rfl dX5_deny_1 sk_123 sr_123_15 ?_
  refine j_iconst (v := nI 0) dX5_deny_4 nc_iconst_0 ?_
  refine j_iload_n_1 dX5_deny_5 ?_
  refine j_iaddN dX5_deny_6 ?_
  refine j_iald dX5_deny_7 sk_135 sn_135 (by omega) (by decide) ?_
  refine j_iconst (v := nI 2) dX5_deny_8 nc_iconst_2 ?_
  refine j_ic_ne (tgt := 13) dX5_deny_9 (by decide) (fun h9 => ?_) (fun h9 => ?_)
  · refine j_aload_n_0 dX5_deny_13 ?_
    refine G_X5_44 rfl dX5_deny_14 sk_123 sr_123_15 ?_
    refine j_iconst (v := nI 0) dX5_deny_17 nc_iconst_0 ?_
    refine j_iload_n_1 dX5_deny_18 ?_
    refine j_iaddN dX5_deny_19 ?_
    refine j_iconst (v := nI 2) dX5_deny_20 nc_iconst_2 ?_
    refine j_iast dX5_deny_21 sk_135 sn_135 (by omega) (by decide) ?_
    refine j_aload_n_0 dX5_deny_22 ?_
    refine G_X5_44 rfl dX5_deny_23 sk_123 sr_123_15 ?_
    refine j_sipush (v := nI 288) dX5_deny_26 nc_sipush_288 ?_
    refine j_iload_n_1 dX5_deny_29 ?_
    refine j_iaddN dX5_deny_30 ?_
    refine j_aload_n_0 dX5_deny_31 ?_
    refine G_X5_44 rfl dX5_deny_32 sk_123 sr_123_15 ?_
    refine j_sipush (v := nI 864) dX5_deny_35 nc_sipush_864 ?_
    refine j_iald dX5_deny_38 sk_135 sn_135 (by omega) (by decide) ?_
    refine j_top (y := V 135 864) (by rw [jv_Unj (by omega)]) ?_
    refine j_iast dX5_deny_39 sk_135 sn_135 (by omega) (by decide) ?_
    refine j_aload_n_0 dX5_deny_40 ?_
    refine G_X5_44 rfl dX5_deny_41 sk_123 sr_123_15 ?_
    refine j_sipush (v := nI 384) dX5_deny_44 nc_sipush_384 ?_
    refine j_iload_n_1 dX5_deny_47 ?_
    refine j_iaddN dX5_deny_48 ?_
    refine j_iconst (v := -1) dX5_deny_49 nc_iconst_m1 ?_
    refine j_iast dX5_deny_50 sk_135 sn_135 (by omega) (by decide) ?_
    refine j_aload_n_0 dX5_deny_51 ?_
    refine G_X5_44 rfl dX5_deny_52 sk_123 sr_123_15 ?_
    refine j_sipush (v := nI 480) dX5_deny_55 nc_sipush_480 ?_
    refine j_iload_n_1 dX5_deny_58 ?_
    refine j_iaddN dX5_deny_59 ?_
    refine j_aload_n_0 dX5_deny_60 ?_
    refine G_X5_44 rfl dX5_deny_61 sk_123 sr_123_15 ?_
    refine j_sipush (v := nI 864) dX5_deny_64 nc_sipush_864 ?_
    refine j_iald dX5_deny_67 sk_135 sn_135 (by omega) (by decide) ?_
    refine j_top (y := V 135 864) (by rw [jv_Unj (by omega), jv_Unj (by omega), jv_Unj (by omega)]) ?_
    refine j_aload_n_0 dX5_deny_68 ?_
    refine G_X5_13 rfl dX5_deny_69 sk_123 sr_123_5 ?_
    refine j_iload_n_1 dX5_deny_72 ?_
    refine j_bipush (v := nI 12) dX5_deny_73 nc_bipush_12 ?_
    refine j_irem (by decide +kernel) dX5_deny_75 ?_
    refine j_top (y := nI (a % 12)) (pk_rem (by omega) (by decide) (by decide)) ?_
    refine j_iald dX5_deny_76 sk_125 sn_125 (by omega) (by decide) ?_
    refine j_top (y := V 125 (a % 12)) (by rw [jv_Une (by omega), jv_Une (by omega), jv_Une (by omega)]) ?_
    refine j_iconst (v := nI 2) dX5_deny_77 nc_iconst_2 ?_
    refine j_idiv (by decide +kernel) dX5_deny_78 ?_
    refine j_iadd dX5_deny_79 ?_
    refine j_iast dX5_deny_80 sk_135 sn_135 (by omega) (by decide) ?_
    exact j_vret hM dX5_deny_81 rfl (by unfold deM at hT; rw [if_neg h9] at hT; exact hT)
  · exact j_vret hM dX5_deny_12 rfl (by unfold deM at hT; rw [if_pos h9] at hT; exact hT)

set_option maxHeartbeats 4000000 in
set_option maxRecDepth 100000 in
theorem y_arrive {sx : Nat → jv_S} {g : jv_G} {X : jv_X} {T : jv_T} {n : Nat} {V : Nat → Nat → Int32} {L : Nat → Nat → Int64} {k z : Nat} {a : Nat} (ha : a < 96) (hM : jv_M g X T) (hT : T (.inl none) n (SH sx) (arM V a) L) : jv_J g X I_X5_arrive 0 [some (jv_r g 123), some (.int (nI a))] [] n (SH sx) V L k z := by
  refine j_aload_n_0 dX5_arrive_0 ?_
  refine G_X5_44 rfl dX5_arrive_1 sk_123 sr_123_15 ?_
  refine j_sipush (v := nI 576) dX5_arrive_4 nc_sipush_576 ?_
  refine j_iload_n_1 dX5_arrive_7 ?_
  refine j_iaddN dX5_arrive_8 ?_
  refine j_iald dX5_arrive_9 sk_135 sn_135 (by omega) (by decide) ?_
  refine j_aload_n_0 dX5_arrive_10 ?_
  refine G_X5_44 rfl dX5_arrive_11 sk_123 sr_123_15 ?_
  refine j_sipush (v := nI 864) dX5_arrive_14 nc_sipush_864 ?_
  refine j_iald dX5_arrive_17 sk_135 sn_135 (by omega) (by decide) ?_
  refine j_ic_ne (tgt := 47) dX5_arrive_18 (by decide) (fun h18 => ?_) (fun h18 => ?_)
  · refine j_aload_n_0 dX5_arrive_47 ?_
    refine G_X5_44 rfl dX5_arrive_48 sk_123 sr_123_15 ?_
    refine j_sipush (v := nI 768) dX5_arrive_51 nc_sipush_768 ?_
    refine j_iload_n_1 dX5_arrive_54 ?_
    refine j_iaddN dX5_arrive_55 ?_
    refine j_iald dX5_arrive_56 sk_135 sn_135 (by omega) (by decide) ?_
    refine j_aload_n_0 dX5_arrive_57 ?_
    refine G_X5_44 rfl dX5_arrive_58 sk_123 sr_123_15 ?_
    refine j_sipush (v := nI 864) dX5_arrive_61 nc_sipush_864 ?_
    refine j_iald dX5_arrive_64 sk_135 sn_135 (by omega) (by decide) ?_
    refine j_ic_ne (tgt := 84) dX5_arrive_65 (by decide) (fun h65 => ?_) (fun h65 => ?_)
    · exact j_vret hM dX5_arrive_84 rfl (by unfold arM arR at hT; rw [if_neg h18] at hT; unfold arD at hT; rw [if_neg h65] at hT; exact hT)
    · refine j_aload_n_0 dX5_arrive_68 ?_
      refine G_X5_44 rfl dX5_arrive_69 sk_123 sr_123_15 ?_
      refine j_sipush (v := nI 768) dX5_arrive_72 nc_sipush_768 ?_
      refine j_iload_n_1 dX5_arrive_75 ?_
      refine j_iaddN dX5_arrive_76 ?_
      refine j_iconst (v := -1) dX5_arrive_77 nc_iconst_m1 ?_
      refine j_iast dX5_arrive_78 sk_135 sn_135 (by omega) (by decide) ?_
      refine j_aload_n_0 dX5_arrive_79 ?_
      refine j_iload_n_1 dX5_arrive_80 ?_
      refine C_X5_120 rfl (by decide) dX5_arrive_81 sk_123 (Nat.le_of_ble_eq_true rfl) (Nat.le_of_eq (Nat.zero_add _)) (Nat.le_of_eq (Nat.zero_add _)) (fun _ _ hM' hT' => y_deny ha hM' hT') ?_
      exact j_vret hM dX5_arrive_84 rfl (by unfold arM arR at hT; rw [if_neg h18] at hT; unfold arD at hT; rw [if_pos h65] at hT; exact hT)
  · refine j_aload_n_0 dX5_arrive_21 ?_
    refine G_X5_44 rfl dX5_arrive_22 sk_123 sr_123_15 ?_
    refine j_sipush (v := nI 576) dX5_arrive_25 nc_sipush_576 ?_
    refine j_iload_n_1 dX5_arrive_28 ?_
    refine j_iaddN dX5_arrive_29 ?_
    refine j_iconst (v := -1) dX5_arrive_30 nc_iconst_m1 ?_
    refine j_iast dX5_arrive_31 sk_135 sn_135 (by omega) (by decide) ?_
    refine j_aload_n_0 dX5_arrive_32 ?_
    refine j_iload_n_1 dX5_arrive_33 ?_
    refine j_aload_n_0 dX5_arrive_34 ?_
    refine G_X5_44 rfl dX5_arrive_35 sk_123 sr_123_15 ?_
    refine j_sipush (v := nI 672) dX5_arrive_38 nc_sipush_672 ?_
    refine j_iload_n_1 dX5_arrive_41 ?_
    refine j_iaddN dX5_arrive_42 ?_
    refine j_iald dX5_arrive_43 sk_135 sn_135 (by omega) (by decide) ?_
    refine C_X5_116 rfl (by decide) dX5_arrive_44 sk_123 (Nat.le_of_ble_eq_true rfl) (Nat.le_of_eq (Nat.zero_add _)) (Nat.le_of_eq (Nat.zero_add _)) (fun _ _ hM' hT' => y_hear ha hM' hT') ?_
    refine j_aload_n_0 dX5_arrive_47 ?_
    refine G_X5_44 rfl dX5_arrive_48 sk_123 sr_123_15 ?_
    refine j_sipush (v := nI 768) dX5_arrive_51 nc_sipush_768 ?_
    refine j_iload_n_1 dX5_arrive_54 ?_
    refine j_iaddN dX5_arrive_55 ?_
    refine j_iald dX5_arrive_56 sk_135 sn_135 (by omega) (by decide) ?_
    refine j_aload_n_0 dX5_arrive_57 ?_
    refine G_X5_44 rfl dX5_arrive_58 sk_123 sr_123_15 ?_
    refine j_sipush (v := nI 864) dX5_arrive_61 nc_sipush_864 ?_
    refine j_iald dX5_arrive_64 sk_135 sn_135 (by omega) (by decide) ?_
    refine j_ic_ne (tgt := 84) dX5_arrive_65 (by decide) (fun h65 => ?_) (fun h65 => ?_)
    · exact j_vret hM dX5_arrive_84 rfl (by unfold arM arR at hT; rw [if_pos h18] at hT; unfold arD at hT; rw [if_neg h65] at hT; exact hT)
    · refine j_aload_n_0 dX5_arrive_68 ?_
      refine G_X5_44 rfl dX5_arrive_69 sk_123 sr_123_15 ?_
      refine j_sipush (v := nI 768) dX5_arrive_72 nc_sipush_768 ?_
      refine j_iload_n_1 dX5_arrive_75 ?_
      refine j_iaddN dX5_arrive_76 ?_
      refine j_iconst (v := -1) dX5_arrive_77 nc_iconst_m1 ?_
      refine j_iast dX5_arrive_78 sk_135 sn_135 (by omega) (by decide) ?_
      refine j_aload_n_0 dX5_arrive_79 ?_
      refine j_iload_n_1 dX5_arrive_80 ?_
      refine C_X5_120 rfl (by decide) dX5_arrive_81 sk_123 (Nat.le_of_ble_eq_true rfl) (Nat.le_of_eq (Nat.zero_add _)) (Nat.le_of_eq (Nat.zero_add _)) (fun _ _ hM' hT' => y_deny ha hM' hT') ?_
      exact j_vret hM dX5_arrive_84 rfl (by unfold arM arR at hT; rw [if_pos h18] at hT; unfold arD at hT; rw [if_pos h65] at hT; exact hT)

set_option maxHeartbeats 4000000 in
set_option maxRecDepth 100000 in
theorem y_sendR {sx : Nat → jv_S} {g : jv_G} {X : jv_X} {T : jv_T} {n : Nat} {V : Nat → Nat → Int32} {L : Nat → Nat → Int64} {k z : Nat} {N K R r f : Nat} {p : Int32} (hr : r < 8) (hf : f < N) (hM : jv_M g X T) : ∀ (m : Nat) (i : Nat) (V : (Nat → Nat → Int32)) (v6 v7 v8 : Option Value), Mt V N K R → i ≤ N → N + 1 ≤ i + m → T (.inl none) n (SH sx) (srL K r f p (N - i) i V) L → jv_J g X I_X5_send 22 [some (jv_r g 123), some (.int (nI r)), some (.int (nI f)), some (.int (nI 0)), some (.int p), some (.int (nI i)), v6, v7, v8] [] n (SH sx) V L k z := by
  intro m
  induction m with
  | zero => intro i V v6 v7 v8 hC hi him hT; omega
  | succ m ih =>
  intro i V v6 v7 v8 hC hi him hT
  obtain ⟨hN, hK, hR, hN2, hb, hK4, hR8, hEv⟩ := id hC
  refine j_iload_5 dX5_send_22 ?_
  refine j_aload_n_0 dX5_send_24 ?_
  refine G_X5_67 rfl dX5_send_25 sk_123 ?_
  refine j_top (y := nI N) hN ?_
  refine j_ic_geN (by omega) (by omega) (tgt := 220) dX5_send_28 (by decide) (fun h28 => ?_) (fun h28 => ?_)
  · exact j_vret hM dX5_send_220 rfl (by rw [show N - i = 0 by omega] at hT; exact hT)
  · refine j_aload_n_0 dX5_send_31 ?_
    refine j_iload_n_2 dX5_send_32 ?_
    refine j_iload_5 dX5_send_33 ?_
    refine C_X5_99 rfl (by decide) dX5_send_35 sk_123 (Nat.le_of_ble_eq_true rfl) (Nat.le_of_eq (Nat.zero_add _)) (Nat.le_of_eq (Nat.zero_add _)) (fun _ _ hM' hT' => y_hoursOf hC (by omega) (by omega) hM' hT') ?_
    refine j_istore_6 rfl (by decide) dX5_send_38 ?_
    refine j_iload_6 dX5_send_40 ?_
    refine j_iconst (v := -1) dX5_send_42 nc_iconst_m1 ?_
    refine j_ic_ne (tgt := 49) dX5_send_43 (by decide) (fun h43 => ?_) (fun h43 => ?_)
    · refine j_bipush (v := nI 12) dX5_send_49 nc_bipush_12 ?_
      refine j_iload_n_1 dX5_send_51 ?_
      refine j_imulN dX5_send_52 ?_
      refine j_iload_5 dX5_send_53 ?_
      refine j_iaddN dX5_send_55 ?_
      refine j_istore_7 rfl (by decide) dX5_send_56 ?_
      refine j_aload_n_0 dX5_send_58 ?_
      refine G_X5_44 rfl dX5_send_59 sk_123 sr_123_15 ?_
      refine j_sipush (v := nI 864) dX5_send_62 nc_sipush_864 ?_
      refine j_iald dX5_send_65 sk_135 sn_135 (by omega) (by decide) ?_
      refine j_iload_6 dX5_send_66 ?_
      refine j_iadd dX5_send_68 ?_
      refine j_istore_8 rfl (by decide) dX5_send_69 ?_
      refine j_iload_n_3 dX5_send_71 ?_
      refine j_if_eq (tgt := 125) dX5_send_72 (by decide) (fun h72 => ?_) (fun h72 => ?_)
      · refine j_aload_n_0 dX5_send_125 ?_
        refine G_X5_44 rfl dX5_send_126 sk_123 sr_123_15 ?_
        refine j_sipush (v := nI 576) dX5_send_129 nc_sipush_576 ?_
        refine j_iload_7 dX5_send_132 ?_
        refine j_iaddN dX5_send_134 ?_
        refine j_iald dX5_send_135 sk_135 sn_135 (by omega) (by decide) ?_
        refine j_iconst (v := -1) dX5_send_136 nc_iconst_m1 ?_
        refine j_ic_eq (tgt := 188) dX5_send_137 (by decide) (fun h137 => ?_) (fun h137 => ?_)
        · refine j_aload_n_0 dX5_send_188 ?_
          refine G_X5_44 rfl dX5_send_189 sk_123 sr_123_15 ?_
          refine j_sipush (v := nI 576) dX5_send_192 nc_sipush_576 ?_
          refine j_iload_7 dX5_send_195 ?_
          refine j_iaddN dX5_send_197 ?_
          refine j_iload_8 dX5_send_198 ?_
          refine j_iast dX5_send_200 sk_135 sn_135 (by omega) (by decide) ?_
          refine j_aload_n_0 dX5_send_201 ?_
          refine G_X5_44 rfl dX5_send_202 sk_123 sr_123_15 ?_
          refine j_sipush (v := nI 672) dX5_send_205 nc_sipush_672 ?_
          refine j_iload_7 dX5_send_208 ?_
          refine j_iaddN dX5_send_210 ?_
          refine j_iload_4 dX5_send_211 ?_
          refine j_iast dX5_send_213 sk_135 sn_135 (by omega) (by decide) ?_
          refine j_inc1_5 rfl (by decide) dX5_send_214 ?_
          refine j_goto (tgt := 22) dX5_send_217 (by decide) ?_
          have hC2 : Mt (sr1 V K r f i p) N K R := hC.o (sr1_out (by omega)) (sr1_out (by omega))
          unfold sr1 at hC2
          rw [if_neg h43, if_pos (Or.inl h137)] at hC2
          refine ih (i + 1) _ _ _ _ hC2 (by omega) (by omega) ?_
          rw [show N - i = (N - (i + 1)) + 1 by omega] at hT
          unfold srL sr1 at hT
          rw [if_neg h43, if_pos (Or.inl h137)] at hT
          exact hT
        · refine j_iload_8 dX5_send_140 ?_
          refine j_aload_n_0 dX5_send_142 ?_
          refine G_X5_44 rfl dX5_send_143 sk_123 sr_123_15 ?_
          refine j_sipush (v := nI 576) dX5_send_146 nc_sipush_576 ?_
          refine j_iload_7 dX5_send_149 ?_
          refine j_iaddN dX5_send_151 ?_
          refine j_iald dX5_send_152 sk_135 sn_135 (by omega) (by decide) ?_
          refine j_ic_lt (tgt := 188) dX5_send_153 (by decide) (fun h153 => ?_) (fun h153 => ?_)
          · refine j_aload_n_0 dX5_send_188 ?_
            refine G_X5_44 rfl dX5_send_189 sk_123 sr_123_15 ?_
            refine j_sipush (v := nI 576) dX5_send_192 nc_sipush_576 ?_
            refine j_iload_7 dX5_send_195 ?_
            refine j_iaddN dX5_send_197 ?_
            refine j_iload_8 dX5_send_198 ?_
            refine j_iast dX5_send_200 sk_135 sn_135 (by omega) (by decide) ?_
            refine j_aload_n_0 dX5_send_201 ?_
            refine G_X5_44 rfl dX5_send_202 sk_123 sr_123_15 ?_
            refine j_sipush (v := nI 672) dX5_send_205 nc_sipush_672 ?_
            refine j_iload_7 dX5_send_208 ?_
            refine j_iaddN dX5_send_210 ?_
            refine j_iload_4 dX5_send_211 ?_
            refine j_iast dX5_send_213 sk_135 sn_135 (by omega) (by decide) ?_
            refine j_inc1_5 rfl (by decide) dX5_send_214 ?_
            refine j_goto (tgt := 22) dX5_send_217 (by decide) ?_
            have hC2 : Mt (sr1 V K r f i p) N K R := hC.o (sr1_out (by omega)) (sr1_out (by omega))
            unfold sr1 at hC2
            rw [if_neg h43, if_pos (Or.inr (Or.inl h153))] at hC2
            refine ih (i + 1) _ _ _ _ hC2 (by omega) (by omega) ?_
            rw [show N - i = (N - (i + 1)) + 1 by omega] at hT
            unfold srL sr1 at hT
            rw [if_neg h43, if_pos (Or.inr (Or.inl h153))] at hT
            exact hT
          · refine j_iload_8 dX5_send_156 ?_
            refine j_aload_n_0 dX5_send_158 ?_
            refine G_X5_44 rfl dX5_send_159 sk_123 sr_123_15 ?_
            refine j_sipush (v := nI 576) dX5_send_162 nc_sipush_576 ?_
            refine j_iload_7 dX5_send_165 ?_
            refine j_iaddN dX5_send_167 ?_
            refine j_iald dX5_send_168 sk_135 sn_135 (by omega) (by decide) ?_
            refine j_ic_ne (tgt := 214) dX5_send_169 (by decide) (fun h169 => ?_) (fun h169 => ?_)
            · refine j_inc1_5 rfl (by decide) dX5_send_214 ?_
              refine j_goto (tgt := 22) dX5_send_217 (by decide) ?_
              have hC2 : Mt (sr1 V K r f i p) N K R := hC.o (sr1_out (by omega)) (sr1_out (by omega))
              unfold sr1 at hC2
              rw [if_neg h43, if_neg (fun c => c.elim h137 (fun c => c.elim h153 (fun c => h169 c.1)))] at hC2
              refine ih (i + 1) _ _ _ _ hC2 (by omega) (by omega) ?_
              rw [show N - i = (N - (i + 1)) + 1 by omega] at hT
              unfold srL sr1 at hT
              rw [if_neg h43, if_neg (fun c => c.elim h137 (fun c => c.elim h153 (fun c => h169 c.1)))] at hT
              exact hT
            · refine j_iload_4 dX5_send_172 ?_
              refine j_aload_n_0 dX5_send_174 ?_
              refine G_X5_44 rfl dX5_send_175 sk_123 sr_123_15 ?_
              refine j_sipush (v := nI 672) dX5_send_178 nc_sipush_672 ?_
              refine j_iload_7 dX5_send_181 ?_
              refine j_iaddN dX5_send_183 ?_
              refine j_iald dX5_send_184 sk_135 sn_135 (by omega) (by decide) ?_
              refine j_ic_ge (tgt := 214) dX5_send_185 (by decide) (fun h185 => ?_) (fun h185 => ?_)
              · refine j_inc1_5 rfl (by decide) dX5_send_214 ?_
                refine j_goto (tgt := 22) dX5_send_217 (by decide) ?_
                have hC2 : Mt (sr1 V K r f i p) N K R := hC.o (sr1_out (by omega)) (sr1_out (by omega))
                unfold sr1 at hC2
                rw [if_neg h43, if_neg (fun c => c.elim h137 (fun c => c.elim h153 (fun c => absurd c.2 (Int32.not_lt.mpr h185))))] at hC2
                refine ih (i + 1) _ _ _ _ hC2 (by omega) (by omega) ?_
                rw [show N - i = (N - (i + 1)) + 1 by omega] at hT
                unfold srL sr1 at hT
                rw [if_neg h43, if_neg (fun c => c.elim h137 (fun c => c.elim h153 (fun c => absurd c.2 (Int32.not_lt.mpr h185))))] at hT
                exact hT
              · refine j_aload_n_0 dX5_send_188 ?_
                refine G_X5_44 rfl dX5_send_189 sk_123 sr_123_15 ?_
                refine j_sipush (v := nI 576) dX5_send_192 nc_sipush_576 ?_
                refine j_iload_7 dX5_send_195 ?_
                refine j_iaddN dX5_send_197 ?_
                refine j_iload_8 dX5_send_198 ?_
                refine j_iast dX5_send_200 sk_135 sn_135 (by omega) (by decide) ?_
                refine j_aload_n_0 dX5_send_201 ?_
                refine G_X5_44 rfl dX5_send_202 sk_123 sr_123_15 ?_
                refine j_sipush (v := nI 672) dX5_send_205 nc_sipush_672 ?_
                refine j_iload_7 dX5_send_208 ?_
                refine j_iaddN dX5_send_210 ?_
                refine j_iload_4 dX5_send_211 ?_
                refine j_iast dX5_send_213 sk_135 sn_135 (by omega) (by decide) ?_
                refine j_inc1_5 rfl (by decide) dX5_send_214 ?_
                refine j_goto (tgt := 22) dX5_send_217 (by decide) ?_
                have hC2 : Mt (sr1 V K r f i p) N K R := hC.o (sr1_out (by omega)) (sr1_out (by omega))
                unfold sr1 at hC2
                rw [if_neg h43, if_pos (Or.inr (Or.inr ⟨h169, Int32.not_le.mp h185⟩))] at hC2
                refine ih (i + 1) _ _ _ _ hC2 (by omega) (by omega) ?_
                rw [show N - i = (N - (i + 1)) + 1 by omega] at hT
                unfold srL sr1 at hT
                rw [if_neg h43, if_pos (Or.inr (Or.inr ⟨h169, Int32.not_le.mp h185⟩))] at hT
                exact hT
      · exact absurd nI_0 h72
    · refine j_goto (tgt := 214) dX5_send_46 (by decide) ?_
      refine j_inc1_5 rfl (by decide) dX5_send_214 ?_
      refine j_goto (tgt := 22) dX5_send_217 (by decide) ?_
      have hC2 : Mt (sr1 V K r f i p) N K R := hC.o (sr1_out (by omega)) (sr1_out (by omega))
      unfold sr1 at hC2
      rw [if_pos h43] at hC2
      refine ih (i + 1) _ _ _ _ hC2 (by omega) (by omega) ?_
      rw [show N - i = (N - (i + 1)) + 1 by omega] at hT
      unfold srL sr1 at hT
      rw [if_pos h43] at hT
      exact hT

set_option maxHeartbeats 4000000 in
set_option maxRecDepth 100000 in
theorem y_sendD {sx : Nat → jv_S} {g : jv_G} {X : jv_X} {T : jv_T} {n : Nat} {V : Nat → Nat → Int32} {L : Nat → Nat → Int64} {k z : Nat} {N K R r f : Nat} {p : Int32} (hr : r < 8) (hf : f < N) (hM : jv_M g X T) : ∀ (m : Nat) (i : Nat) (V : (Nat → Nat → Int32)) (v6 v7 v8 : Option Value), Mt V N K R → i ≤ N → N + 1 ≤ i + m → T (.inl none) n (SH sx) (sdL K r f (N - i) i V) L → jv_J g X I_X5_send 22 [some (jv_r g 123), some (.int (nI r)), some (.int (nI f)), some (.int (nI 1)), some (.int p), some (.int (nI i)), v6, v7, v8] [] n (SH sx) V L k z := by
  intro m
  induction m with
  | zero => intro i V v6 v7 v8 hC hi him hT; omega
  | succ m ih =>
  intro i V v6 v7 v8 hC hi him hT
  obtain ⟨hN, hK, hR, hN2, hb, hK4, hR8, hEv⟩ := id hC
  refine j_iload_5 dX5_send_22 ?_
  refine j_aload_n_0 dX5_send_24 ?_
  refine G_X5_67 rfl dX5_send_25 sk_123 ?_
  refine j_top (y := nI N) hN ?_
  refine j_ic_geN (by omega) (by omega) (tgt := 220) dX5_send_28 (by decide) (fun h28 => ?_) (fun h28 => ?_)
  · exact j_vret hM dX5_send_220 rfl (by rw [show N - i = 0 by omega] at hT; exact hT)
  · refine j_aload_n_0 dX5_send_31 ?_
    refine j_iload_n_2 dX5_send_32 ?_
    refine j_iload_5 dX5_send_33 ?_
    refine C_X5_99 rfl (by decide) dX5_send_35 sk_123 (Nat.le_of_ble_eq_true rfl) (Nat.le_of_eq (Nat.zero_add _)) (Nat.le_of_eq (Nat.zero_add _)) (fun _ _ hM' hT' => y_hoursOf hC (by omega) (by omega) hM' hT') ?_
    refine j_istore_6 rfl (by decide) dX5_send_38 ?_
    refine j_iload_6 dX5_send_40 ?_
    refine j_iconst (v := -1) dX5_send_42 nc_iconst_m1 ?_
    refine j_ic_ne (tgt := 49) dX5_send_43 (by decide) (fun h43 => ?_) (fun h43 => ?_)
    · refine j_bipush (v := nI 12) dX5_send_49 nc_bipush_12 ?_
      refine j_iload_n_1 dX5_send_51 ?_
      refine j_imulN dX5_send_52 ?_
      refine j_iload_5 dX5_send_53 ?_
      refine j_iaddN dX5_send_55 ?_
      refine j_istore_7 rfl (by decide) dX5_send_56 ?_
      refine j_aload_n_0 dX5_send_58 ?_
      refine G_X5_44 rfl dX5_send_59 sk_123 sr_123_15 ?_
      refine j_sipush (v := nI 864) dX5_send_62 nc_sipush_864 ?_
      refine j_iald dX5_send_65 sk_135 sn_135 (by omega) (by decide) ?_
      refine j_iload_6 dX5_send_66 ?_
      refine j_iadd dX5_send_68 ?_
      refine j_istore_8 rfl (by decide) dX5_send_69 ?_
      refine j_iload_n_3 dX5_send_71 ?_
      refine j_if_eq (tgt := 125) dX5_send_72 (by decide) (fun h72 => ?_) (fun h72 => ?_)
      · exact absurd h72 nI1_ne
      · refine j_aload_n_0 dX5_send_75 ?_
        refine G_X5_44 rfl dX5_send_76 sk_123 sr_123_15 ?_
        refine j_sipush (v := nI 768) dX5_send_79 nc_sipush_768 ?_
        refine j_iload_7 dX5_send_82 ?_
        refine j_iaddN dX5_send_84 ?_
        refine j_aload_n_0 dX5_send_85 ?_
        refine G_X5_44 rfl dX5_send_86 sk_123 sr_123_15 ?_
        refine j_sipush (v := nI 768) dX5_send_89 nc_sipush_768 ?_
        refine j_iload_7 dX5_send_92 ?_
        refine j_iaddN dX5_send_94 ?_
        refine j_iald dX5_send_95 sk_135 sn_135 (by omega) (by decide) ?_
        refine j_iconst (v := -1) dX5_send_96 nc_iconst_m1 ?_
        refine j_ic_ne (tgt := 105) dX5_send_97 (by decide) (fun h97 => ?_) (fun h97 => ?_)
        · refine j_aload_n_0 dX5_send_105 ?_
          refine G_X5_44 rfl dX5_send_106 sk_123 sr_123_15 ?_
          refine j_sipush (v := nI 768) dX5_send_109 nc_sipush_768 ?_
          refine j_iload_7 dX5_send_112 ?_
          refine j_iaddN dX5_send_114 ?_
          refine j_iald dX5_send_115 sk_135 sn_135 (by omega) (by decide) ?_
          refine j_iload_8 dX5_send_116 ?_
          refine MX_X5_86 rfl (by decide) dX5_send_118 (Nat.le_of_ble_eq_true rfl) ?_
          refine j_top (y := mnI (V 135 (768 + (12 * r + i))) (V 135 864 + hoM V K f i)) rfl ?_
          refine j_iast dX5_send_121 sk_135 sn_135 (by omega) (by decide) ?_
          refine j_goto (tgt := 214) dX5_send_122 (by decide) ?_
          refine j_inc1_5 rfl (by decide) dX5_send_214 ?_
          refine j_goto (tgt := 22) dX5_send_217 (by decide) ?_
          have hC2 : Mt (sd1 V K r f i) N K R := hC.o (sd1_out (by omega)) (sd1_out (by omega))
          unfold sd1 at hC2
          rw [if_neg h43, if_neg h97] at hC2
          refine ih (i + 1) _ _ _ _ hC2 (by omega) (by omega) ?_
          rw [show N - i = (N - (i + 1)) + 1 by omega] at hT
          unfold sdL sd1 at hT
          rw [if_neg h43, if_neg h97] at hT
          exact hT
        · refine j_iload_8 dX5_send_100 ?_
          refine j_goto (tgt := 121) dX5_send_102 (by decide) ?_
          refine j_iast dX5_send_121 sk_135 sn_135 (by omega) (by decide) ?_
          refine j_goto (tgt := 214) dX5_send_122 (by decide) ?_
          refine j_inc1_5 rfl (by decide) dX5_send_214 ?_
          refine j_goto (tgt := 22) dX5_send_217 (by decide) ?_
          have hC2 : Mt (sd1 V K r f i) N K R := hC.o (sd1_out (by omega)) (sd1_out (by omega))
          unfold sd1 at hC2
          rw [if_neg h43, if_pos h97] at hC2
          refine ih (i + 1) _ _ _ _ hC2 (by omega) (by omega) ?_
          rw [show N - i = (N - (i + 1)) + 1 by omega] at hT
          unfold sdL sd1 at hT
          rw [if_neg h43, if_pos h97] at hT
          exact hT
    · refine j_goto (tgt := 214) dX5_send_46 (by decide) ?_
      refine j_inc1_5 rfl (by decide) dX5_send_214 ?_
      refine j_goto (tgt := 22) dX5_send_217 (by decide) ?_
      have hC2 : Mt (sd1 V K r f i) N K R := hC.o (sd1_out (by omega)) (sd1_out (by omega))
      unfold sd1 at hC2
      rw [if_pos h43] at hC2
      refine ih (i + 1) _ _ _ _ hC2 (by omega) (by omega) ?_
      rw [show N - i = (N - (i + 1)) + 1 by omega] at hT
      unfold sdL sd1 at hT
      rw [if_pos h43] at hT
      exact hT

set_option maxHeartbeats 4000000 in
set_option maxRecDepth 100000 in
theorem y_send0 {sx : Nat → jv_S} {g : jv_G} {X : jv_X} {T : jv_T} {n : Nat} {V : Nat → Nat → Int32} {L : Nat → Nat → Int64} {k z : Nat} {N K R : Nat} (hC : Mt V N K R) {r f : Nat} (hr : r < 8) (hf : f < N) (hM : jv_M g X T) (hT : T (.inl none) n (SH sx) (seR V N K r f) L) : jv_J g X I_X5_send 0 [some (jv_r g 123), some (.int (nI r)), some (.int (nI f)), some (.int (nI 0)), none, none, none, none, none] [] n (SH sx) V L k z := by
  obtain ⟨hN, hK, hR, hN2, hb, hK4, hR8, hEv⟩ := id hC
  refine j_aload_n_0 dX5_send_0 ?_
  refine G_X5_44 rfl dX5_send_1 sk_123 sr_123_15 ?_
  refine j_sipush (v := nI 192) dX5_send_4 nc_sipush_192 ?_
  refine j_bipush (v := nI 12) dX5_send_7 nc_bipush_12 ?_
  refine j_iload_n_1 dX5_send_9 ?_
  refine j_imulN dX5_send_10 ?_
  refine j_iaddN dX5_send_11 ?_
  refine j_iload_n_2 dX5_send_12 ?_
  refine j_iaddN dX5_send_13 ?_
  refine j_iald dX5_send_14 sk_135 sn_135 (by omega) (by decide) ?_
  refine j_iconst (v := nI 1) dX5_send_15 nc_iconst_1 ?_
  refine j_iadd dX5_send_16 ?_
  refine j_istore_4 rfl (by decide) dX5_send_17 ?_
  refine j_iconst (v := nI 0) dX5_send_19 nc_iconst_0 ?_
  refine j_istore_5 rfl (by decide) dX5_send_20 ?_
  exact y_sendR (V := V) hr hf hM (N + 1) 0 V _ _ _ hC (by omega) (by omega) hT

set_option maxHeartbeats 4000000 in
set_option maxRecDepth 100000 in
theorem y_send1 {sx : Nat → jv_S} {g : jv_G} {X : jv_X} {T : jv_T} {n : Nat} {V : Nat → Nat → Int32} {L : Nat → Nat → Int64} {k z : Nat} {N K R : Nat} (hC : Mt V N K R) {r f : Nat} (hr : r < 8) (hf : f < N) (hM : jv_M g X T) (hT : T (.inl none) n (SH sx) (seD V N K r f) L) : jv_J g X I_X5_send 0 [some (jv_r g 123), some (.int (nI r)), some (.int (nI f)), some (.int (nI 1)), none, none, none, none, none] [] n (SH sx) V L k z := by
  obtain ⟨hN, hK, hR, hN2, hb, hK4, hR8, hEv⟩ := id hC
  refine j_aload_n_0 dX5_send_0 ?_
  refine G_X5_44 rfl dX5_send_1 sk_123 sr_123_15 ?_
  refine j_sipush (v := nI 192) dX5_send_4 nc_sipush_192 ?_
  refine j_bipush (v := nI 12) dX5_send_7 nc_bipush_12 ?_
  refine j_iload_n_1 dX5_send_9 ?_
  refine j_imulN dX5_send_10 ?_
  refine j_iaddN dX5_send_11 ?_
  refine j_iload_n_2 dX5_send_12 ?_
  refine j_iaddN dX5_send_13 ?_
  refine j_iald dX5_send_14 sk_135 sn_135 (by omega) (by decide) ?_
  refine j_iconst (v := nI 1) dX5_send_15 nc_iconst_1 ?_
  refine j_iadd dX5_send_16 ?_
  refine j_istore_4 rfl (by decide) dX5_send_17 ?_
  refine j_iconst (v := nI 0) dX5_send_19 nc_iconst_0 ?_
  refine j_istore_5 rfl (by decide) dX5_send_20 ?_
  exact y_sendD (V := V) hr hf hM (N + 1) 0 V _ _ _ hC (by omega) (by omega) hT

set_option maxHeartbeats 4000000 in
set_option maxRecDepth 100000 in
theorem y_tell {sx : Nat → jv_S} {g : jv_G} {X : jv_X} {T : jv_T} {n : Nat} {V : Nat → Nat → Int32} {L : Nat → Nat → Int64} {k z : Nat} {N K R : Nat} (hC : Mt V N K R) {r f : Nat} (hr : r < 8) (hf : f < N) (hM : jv_M g X T) (hT : T (.inl none) n (SH sx) (tmM V N K r f) L) : jv_J g X I_X5_tell 0 [some (jv_r g 123), some (.int (nI r)), some (.int (nI f)), none] [] n (SH sx) V L k z := by
  obtain ⟨hN, hK, hR, hN2, hb, hK4, hR8, hEv⟩ := id hC
  refine j_bipush (v := nI 12) dX5_tell_0 nc_bipush_12 ?_
  refine j_iload_n_1 dX5_tell_2 ?_
  refine j_imulN dX5_tell_3 ?_
  refine j_iload_n_2 dX5_tell_4 ?_
  refine j_iaddN dX5_tell_5 ?_
  refine j_istore_n_3 rfl (by decide) dX5_tell_6 ?_
  refine j_aload_n_0 dX5_tell_7 ?_
  refine G_X5_44 rfl dX5_tell_8 sk_123 sr_123_15 ?_
  refine j_sipush (v := nI 384) dX5_tell_11 nc_sipush_384 ?_
  refine j_iload_n_3 dX5_tell_14 ?_
  refine j_iaddN dX5_tell_15 ?_
  refine j_iald dX5_tell_16 sk_135 sn_135 (by omega) (by decide) ?_
  refine j_aload_n_0 dX5_tell_17 ?_
  refine G_X5_44 rfl dX5_tell_18 sk_123 sr_123_15 ?_
  refine j_sipush (v := nI 864) dX5_tell_21 nc_sipush_864 ?_
  refine j_iald dX5_tell_24 sk_135 sn_135 (by omega) (by decide) ?_
  refine j_ic_ne (tgt := 65) dX5_tell_25 (by decide) (fun h25 => ?_) (fun h25 => ?_)
  · have hC2 : Mt V N K R := hC
    refine j_aload_n_0 dX5_tell_65 ?_
    refine G_X5_44 rfl dX5_tell_66 sk_123 sr_123_15 ?_
    refine j_sipush (v := nI 480) dX5_tell_69 nc_sipush_480 ?_
    refine j_iload_n_3 dX5_tell_72 ?_
    refine j_iaddN dX5_tell_73 ?_
    refine j_iald dX5_tell_74 sk_135 sn_135 (by omega) (by decide) ?_
    refine j_aload_n_0 dX5_tell_75 ?_
    refine G_X5_44 rfl dX5_tell_76 sk_123 sr_123_15 ?_
    refine j_sipush (v := nI 864) dX5_tell_79 nc_sipush_864 ?_
    refine j_iald dX5_tell_82 sk_135 sn_135 (by omega) (by decide) ?_
    refine j_ic_eq (tgt := 87) dX5_tell_83 (by decide) (fun h83 => ?_) (fun h83 => ?_)
    · refine j_aload_n_0 dX5_tell_87 ?_
      refine G_X5_44 rfl dX5_tell_88 sk_123 sr_123_15 ?_
      refine j_sipush (v := nI 480) dX5_tell_91 nc_sipush_480 ?_
      refine j_iload_n_3 dX5_tell_94 ?_
      refine j_iaddN dX5_tell_95 ?_
      refine j_iconst (v := -1) dX5_tell_96 nc_iconst_m1 ?_
      refine j_iast dX5_tell_97 sk_135 sn_135 (by omega) (by decide) ?_
      refine j_aload_n_0 dX5_tell_98 ?_
      refine j_iload_n_1 dX5_tell_99 ?_
      refine j_iload_n_2 dX5_tell_100 ?_
      refine j_iconst (v := nI 1) dX5_tell_101 nc_iconst_1 ?_
      refine C_X5_123 rfl (by decide) dX5_tell_102 sk_123 (Nat.le_of_ble_eq_true rfl) (Nat.le_of_eq (Nat.zero_add _)) (Nat.le_of_eq (Nat.zero_add _)) (fun _ _ hM' hT' => y_send1 (hC2.o (jv_U_other (by omega)) (jv_U_other (by omega))) hr hf hM' hT') ?_
      exact j_vret hM dX5_tell_105 rfl (by unfold tmM tmR at hT; rw [if_neg h25] at hT; unfold tmD at hT; rw [if_pos h83] at hT; exact hT)
    · exact j_vret hM dX5_tell_86 rfl (by unfold tmM tmR at hT; rw [if_neg h25] at hT; unfold tmD at hT; rw [if_neg h83] at hT; exact hT)
  · refine j_aload_n_0 dX5_tell_28 ?_
    refine G_X5_44 rfl dX5_tell_29 sk_123 sr_123_15 ?_
    refine j_sipush (v := nI 384) dX5_tell_32 nc_sipush_384 ?_
    refine j_iload_n_3 dX5_tell_35 ?_
    refine j_iaddN dX5_tell_36 ?_
    refine j_iconst (v := -1) dX5_tell_37 nc_iconst_m1 ?_
    refine j_iast dX5_tell_38 sk_135 sn_135 (by omega) (by decide) ?_
    refine j_aload_n_0 dX5_tell_39 ?_
    refine G_X5_44 rfl dX5_tell_40 sk_123 sr_123_15 ?_
    refine j_sipush (v := nI 192) dX5_tell_43 nc_sipush_192 ?_
    refine j_iload_n_3 dX5_tell_46 ?_
    refine j_iaddN dX5_tell_47 ?_
    refine j_iald dX5_tell_48 sk_135 sn_135 (by omega) (by decide) ?_
    refine j_aload_n_0 dX5_tell_49 ?_
    refine G_X5_41 rfl dX5_tell_50 sk_123 sr_123_14 ?_
    refine j_iload_n_1 dX5_tell_53 ?_
    refine j_iald dX5_tell_54 sk_134 sn_134 (by omega) (by decide) ?_
    refine j_ic_ge (tgt := 65) dX5_tell_55 (by decide) (fun h55 => ?_) (fun h55 => ?_)
    · have hC2 : Mt (jv_U V 135 (384 + (12 * r + f)) (-1)) N K R := hC.o (jv_U_other (by omega)) (jv_U_other (by omega))
      refine j_aload_n_0 dX5_tell_65 ?_
      refine G_X5_44 rfl dX5_tell_66 sk_123 sr_123_15 ?_
      refine j_sipush (v := nI 480) dX5_tell_69 nc_sipush_480 ?_
      refine j_iload_n_3 dX5_tell_72 ?_
      refine j_iaddN dX5_tell_73 ?_
      refine j_iald dX5_tell_74 sk_135 sn_135 (by omega) (by decide) ?_
      refine j_aload_n_0 dX5_tell_75 ?_
      refine G_X5_44 rfl dX5_tell_76 sk_123 sr_123_15 ?_
      refine j_sipush (v := nI 864) dX5_tell_79 nc_sipush_864 ?_
      refine j_iald dX5_tell_82 sk_135 sn_135 (by omega) (by decide) ?_
      refine j_ic_eq (tgt := 87) dX5_tell_83 (by decide) (fun h83 => ?_) (fun h83 => ?_)
      · refine j_aload_n_0 dX5_tell_87 ?_
        refine G_X5_44 rfl dX5_tell_88 sk_123 sr_123_15 ?_
        refine j_sipush (v := nI 480) dX5_tell_91 nc_sipush_480 ?_
        refine j_iload_n_3 dX5_tell_94 ?_
        refine j_iaddN dX5_tell_95 ?_
        refine j_iconst (v := -1) dX5_tell_96 nc_iconst_m1 ?_
        refine j_iast dX5_tell_97 sk_135 sn_135 (by omega) (by decide) ?_
        refine j_aload_n_0 dX5_tell_98 ?_
        refine j_iload_n_1 dX5_tell_99 ?_
        refine j_iload_n_2 dX5_tell_100 ?_
        refine j_iconst (v := nI 1) dX5_tell_101 nc_iconst_1 ?_
        refine C_X5_123 rfl (by decide) dX5_tell_102 sk_123 (Nat.le_of_ble_eq_true rfl) (Nat.le_of_eq (Nat.zero_add _)) (Nat.le_of_eq (Nat.zero_add _)) (fun _ _ hM' hT' => y_send1 (hC2.o (jv_U_other (by omega)) (jv_U_other (by omega))) hr hf hM' hT') ?_
        exact j_vret hM dX5_tell_105 rfl (by unfold tmM tmR at hT; rw [if_pos h25] at hT; unfold tuR at hT; rw [if_pos h55] at hT; unfold tmD at hT; rw [if_pos h83] at hT; exact hT)
      · exact j_vret hM dX5_tell_86 rfl (by unfold tmM tmR at hT; rw [if_pos h25] at hT; unfold tuR at hT; rw [if_pos h55] at hT; unfold tmD at hT; rw [if_neg h83] at hT; exact hT)
    · refine j_aload_n_0 dX5_tell_58 ?_
      refine j_iload_n_1 dX5_tell_59 ?_
      refine j_iload_n_2 dX5_tell_60 ?_
      refine j_iconst (v := nI 0) dX5_tell_61 nc_iconst_0 ?_
      refine C_X5_123 rfl (by decide) dX5_tell_62 sk_123 (Nat.le_of_ble_eq_true rfl) (Nat.le_of_eq (Nat.zero_add _)) (Nat.le_of_eq (Nat.zero_add _)) (fun _ _ hM' hT' => y_send0 (hC.o (jv_U_other (by omega)) (jv_U_other (by omega))) hr hf hM' hT') ?_
      have hC2 : Mt (seR (jv_U V 135 (384 + (12 * r + f)) (-1)) N K r f) N K R := hC.o ((srL_out (by omega) _ _ _).trans (jv_U_other (by omega))) ((srL_out (by omega) _ _ _).trans (jv_U_other (by omega)))
      refine j_aload_n_0 dX5_tell_65 ?_
      refine G_X5_44 rfl dX5_tell_66 sk_123 sr_123_15 ?_
      refine j_sipush (v := nI 480) dX5_tell_69 nc_sipush_480 ?_
      refine j_iload_n_3 dX5_tell_72 ?_
      refine j_iaddN dX5_tell_73 ?_
      refine j_iald dX5_tell_74 sk_135 sn_135 (by omega) (by decide) ?_
      refine j_aload_n_0 dX5_tell_75 ?_
      refine G_X5_44 rfl dX5_tell_76 sk_123 sr_123_15 ?_
      refine j_sipush (v := nI 864) dX5_tell_79 nc_sipush_864 ?_
      refine j_iald dX5_tell_82 sk_135 sn_135 (by omega) (by decide) ?_
      refine j_ic_eq (tgt := 87) dX5_tell_83 (by decide) (fun h83 => ?_) (fun h83 => ?_)
      · refine j_aload_n_0 dX5_tell_87 ?_
        refine G_X5_44 rfl dX5_tell_88 sk_123 sr_123_15 ?_
        refine j_sipush (v := nI 480) dX5_tell_91 nc_sipush_480 ?_
        refine j_iload_n_3 dX5_tell_94 ?_
        refine j_iaddN dX5_tell_95 ?_
        refine j_iconst (v := -1) dX5_tell_96 nc_iconst_m1 ?_
        refine j_iast dX5_tell_97 sk_135 sn_135 (by omega) (by decide) ?_
        refine j_aload_n_0 dX5_tell_98 ?_
        refine j_iload_n_1 dX5_tell_99 ?_
        refine j_iload_n_2 dX5_tell_100 ?_
        refine j_iconst (v := nI 1) dX5_tell_101 nc_iconst_1 ?_
        refine C_X5_123 rfl (by decide) dX5_tell_102 sk_123 (Nat.le_of_ble_eq_true rfl) (Nat.le_of_eq (Nat.zero_add _)) (Nat.le_of_eq (Nat.zero_add _)) (fun _ _ hM' hT' => y_send1 (hC2.o (jv_U_other (by omega)) (jv_U_other (by omega))) hr hf hM' hT') ?_
        exact j_vret hM dX5_tell_105 rfl (by unfold tmM tmR at hT; rw [if_pos h25] at hT; unfold tuR at hT; rw [if_neg h55] at hT; unfold tmD at hT; rw [if_pos h83] at hT; exact hT)
      · exact j_vret hM dX5_tell_86 rfl (by unfold tmM tmR at hT; rw [if_pos h25] at hT; unfold tuR at hT; rw [if_neg h55] at hT; unfold tmD at hT; rw [if_neg h83] at hT; exact hT)

set_option maxHeartbeats 4000000 in
set_option maxRecDepth 100000 in
theorem y_hf_tell {sx : Nat → jv_S} {g : jv_G} {X : jv_X} {T : jv_T} {n : Nat} {V : Nat → Nat → Int32} {L : Nat → Nat → Int64} {k z : Nat} {N K R r : Nat} (hr : r < 8) (hM : jv_M g X T) : ∀ (m : Nat) (i : Nat) (V : (Nat → Nat → Int32)), Mt V N K R → i ≤ N → N + 1 ≤ i + m → T (.inl none) n (SH sx) (htL N K r (N - i) i V) L → jv_J g X I_X5_hourFor 28 [some (jv_r g 123), some (.int (nI r)), some (.int (nI i))] [] n (SH sx) V L k z := by
  intro m
  induction m with
  | zero => intro i V hC hi him hT; omega
  | succ m ih =>
  intro i V hC hi him hT
  obtain ⟨hN, hK, hR, hN2, hb, hK4, hR8, hEv⟩ := id hC
  refine j_iload_n_2 dX5_hourFor_28 ?_
  refine j_aload_n_0 dX5_hourFor_29 ?_
  refine G_X5_67 rfl dX5_hourFor_30 sk_123 ?_
  refine j_top (y := nI N) hN ?_
  refine j_ic_geN (by omega) (by omega) (tgt := 48) dX5_hourFor_33 (by decide) (fun h33 => ?_) (fun h33 => ?_)
  · exact j_vret hM dX5_hourFor_48 rfl (by rw [show N - i = 0 by omega] at hT; exact hT)
  · refine j_aload_n_0 dX5_hourFor_36 ?_
    refine j_iload_n_1 dX5_hourFor_37 ?_
    refine j_iload_n_2 dX5_hourFor_38 ?_
    refine C_X5_130 rfl (by decide) dX5_hourFor_39 sk_123 (Nat.le_of_ble_eq_true rfl) (Nat.le_of_eq (Nat.zero_add _)) (Nat.le_of_eq (Nat.zero_add _)) (fun _ _ hM' hT' => y_tell hC hr (by omega) hM' hT') ?_
    refine j_inc1_2 rfl (by decide) dX5_hourFor_42 ?_
    refine j_goto (tgt := 28) dX5_hourFor_45 (by decide) ?_
    refine ih (i + 1) _ (hC.o (tmM_out (by omega)) (tmM_out (by omega))) (by omega) (by omega) ?_
    rw [show N - i = (N - (i + 1)) + 1 by omega] at hT
    exact hT

set_option maxHeartbeats 4000000 in
set_option maxRecDepth 100000 in
theorem y_hf_arr {sx : Nat → jv_S} {g : jv_G} {X : jv_X} {T : jv_T} {n : Nat} {V : Nat → Nat → Int32} {L : Nat → Nat → Int64} {k z : Nat} {N K R r : Nat} (hr : r < 8) (hM : jv_M g X T) : ∀ (m : Nat) (i : Nat) (V : (Nat → Nat → Int32)), Mt V N K R → i ≤ N → N + 1 ≤ i + m → T (.inl none) n (SH sx) (htL N K r N 0 (haL r (N - i) i V)) L → jv_J g X I_X5_hourFor 2 [some (jv_r g 123), some (.int (nI r)), some (.int (nI i))] [] n (SH sx) V L k z := by
  intro m
  induction m with
  | zero => intro i V hC hi him hT; omega
  | succ m ih =>
  intro i V hC hi him hT
  obtain ⟨hN, hK, hR, hN2, hb, hK4, hR8, hEv⟩ := id hC
  refine j_iload_n_2 dX5_hourFor_2 ?_
  refine j_aload_n_0 dX5_hourFor_3 ?_
  refine G_X5_67 rfl dX5_hourFor_4 sk_123 ?_
  refine j_top (y := nI N) hN ?_
  refine j_ic_geN (by omega) (by omega) (tgt := 26) dX5_hourFor_7 (by decide) (fun h7 => ?_) (fun h7 => ?_)
  · refine j_iconst (v := nI 0) dX5_hourFor_26 nc_iconst_0 ?_
    refine j_istore_n_2 rfl (by decide) dX5_hourFor_27 ?_
    exact y_hf_tell (V := V) hr hM (N + 1) 0 V hC (by omega) (by omega) (by rw [show N - i = 0 by omega] at hT; exact hT)
  · refine j_aload_n_0 dX5_hourFor_10 ?_
    refine j_bipush (v := nI 12) dX5_hourFor_11 nc_bipush_12 ?_
    refine j_iload_n_1 dX5_hourFor_13 ?_
    refine j_imulN dX5_hourFor_14 ?_
    refine j_iload_n_2 dX5_hourFor_15 ?_
    refine j_iaddN dX5_hourFor_16 ?_
    refine C_X5_127 rfl (by decide) dX5_hourFor_17 sk_123 (Nat.le_of_ble_eq_true rfl) (Nat.le_of_eq (Nat.zero_add _)) (Nat.le_of_eq (Nat.zero_add _)) (fun _ _ hM' hT' => y_arrive (by omega) hM' hT') ?_
    refine j_inc1_2 rfl (by decide) dX5_hourFor_20 ?_
    refine j_goto (tgt := 2) dX5_hourFor_23 (by decide) ?_
    refine ih (i + 1) _ (hC.o (arM_out (by omega)) (arM_out (by omega))) (by omega) (by omega) ?_
    rw [show N - i = (N - (i + 1)) + 1 by omega] at hT
    exact hT

set_option maxHeartbeats 4000000 in
set_option maxRecDepth 100000 in
theorem y_hourFor {sx : Nat → jv_S} {g : jv_G} {X : jv_X} {T : jv_T} {n : Nat} {V : Nat → Nat → Int32} {L : Nat → Nat → Int64} {k z : Nat} {N K R : Nat} (hC : Mt V N K R) {r : Nat} (hr : r < 8) (hM : jv_M g X T) (hT : T (.inl none) n (SH sx) (hfM V N K r) L) : jv_J g X I_X5_hourFor 0 [some (jv_r g 123), some (.int (nI r)), none] [] n (SH sx) V L k z := by
  obtain ⟨hN, hK, hR, hN2, hb, hK4, hR8, hEv⟩ := id hC
  refine j_iconst (v := nI 0) dX5_hourFor_0 nc_iconst_0 ?_
  refine j_istore_n_2 rfl (by decide) dX5_hourFor_1 ?_
  exact y_hf_arr (V := V) hr hM (N + 1) 0 V hC (by omega) (by omega) hT

set_option maxHeartbeats 4000000 in
set_option maxRecDepth 100000 in
theorem y_on_loop {sx : Nat → jv_S} {g : jv_G} {X : jv_X} {T : jv_T} {n : Nat} {V : Nat → Nat → Int32} {L : Nat → Nat → Int64} {k z : Nat} {N K R : Nat} (hM : jv_M g X T) : ∀ (m : Nat) (i : Nat) (V : (Nat → Nat → Int32)), Mt V N K R → i ≤ R → R + 1 ≤ i + m → T (.inl none) n (SH sx) (hoN (hqL N K (R - i) i V)) L → jv_J g X I_X5_hourOn 2 [some (jv_r g 123), some (.int (nI i))] [] n (SH sx) V L k z := by
  intro m
  induction m with
  | zero => intro i V hC hi him hT; omega
  | succ m ih =>
  intro i V hC hi him hT
  obtain ⟨hN, hK, hR, hN2, hb, hK4, hR8, hEv⟩ := id hC
  refine j_iload_n_1 dX5_hourOn_2 ?_
  refine j_aload_n_0 dX5_hourOn_3 ?_
  refine G_X5_77 rfl dX5_hourOn_4 sk_123 ?_
  refine j_top (y := nI R) hR ?_
  refine j_ic_geN (by omega) (by omega) (tgt := 21) dX5_hourOn_7 (by decide) (fun h7 => ?_) (fun h7 => ?_)
  · refine j_aload_n_0 dX5_hourOn_21 ?_
    refine G_X5_44 rfl dX5_hourOn_22 sk_123 sr_123_15 ?_
    refine j_sipush (v := nI 864) dX5_hourOn_25 nc_sipush_864 ?_
    refine j_dup2 rfl rfl dX5_hourOn_28 ?_
    refine j_iald dX5_hourOn_29 sk_135 sn_135 (by omega) (by decide) ?_
    refine j_iconst (v := nI 1) dX5_hourOn_30 nc_iconst_1 ?_
    refine j_iadd dX5_hourOn_31 ?_
    refine j_iast dX5_hourOn_32 sk_135 sn_135 (by omega) (by decide) ?_
    exact j_vret hM dX5_hourOn_33 rfl (by rw [show R - i = 0 by omega] at hT; exact hT)
  · refine j_aload_n_0 dX5_hourOn_10 ?_
    refine j_iload_n_1 dX5_hourOn_11 ?_
    refine C_X5_133 rfl (by decide) dX5_hourOn_12 sk_123 (Nat.le_of_ble_eq_true rfl) (Nat.le_of_eq (Nat.zero_add _)) (Nat.le_of_eq (Nat.zero_add _)) (fun _ _ hM' hT' => y_hourFor hC (by omega) hM' hT') ?_
    refine j_inc1_1 rfl (by decide) dX5_hourOn_15 ?_
    refine j_goto (tgt := 2) dX5_hourOn_18 (by decide) ?_
    refine ih (i + 1) _ (hC.o (hfM_out (by omega)) (hfM_out (by omega))) (by omega) (by omega) ?_
    rw [show R - i = (R - (i + 1)) + 1 by omega] at hT
    exact hT

set_option maxHeartbeats 4000000 in
set_option maxRecDepth 100000 in
theorem y_hourOn {sx : Nat → jv_S} {g : jv_G} {X : jv_X} {T : jv_T} {n : Nat} {V : Nat → Nat → Int32} {L : Nat → Nat → Int64} {k z : Nat} {N K R : Nat} (hC : Mt V N K R) (hM : jv_M g X T) (hT : T (.inl none) n (SH sx) (houM V N K R) L) : jv_J g X I_X5_hourOn 0 [some (jv_r g 123), none] [] n (SH sx) V L k z := by
  obtain ⟨hN, hK, hR, hN2, hb, hK4, hR8, hEv⟩ := id hC
  refine j_iconst (v := nI 0) dX5_hourOn_0 nc_iconst_0 ?_
  refine j_istore_n_1 rfl (by decide) dX5_hourOn_1 ?_
  exact y_on_loop (V := V) hM (R + 1) 0 V hC (by omega) (by omega) hT

set_option maxHeartbeats 4000000 in
set_option maxRecDepth 100000 in
theorem y_look_loop {sx : Nat → jv_S} {g : jv_G} {X : jv_X} {T : jv_T} {n : Nat} {V : Nat → Nat → Int32} {L : Nat → Nat → Int64} {k z : Nat} {N K R r M : Nat} (hr : r < 8) (hMm : M ≤ 100) (hM : jv_M g X T) : ∀ (m : Nat) (i : Nat) (V : (Nat → Nat → Int32)), Mt V N K R → i ≤ M → M + 1 ≤ i + m → T (.inl none) n (SH sx) (lkM N K r (M - i) V) L → jv_J g X I_X5_lookOn 2 [some (jv_r g 123), some (.int (nI r)), some (.int (nI M)), some (.int (nI i))] [] n (SH sx) V L k z := by
  intro m
  induction m with
  | zero => intro i V hC hi him hT; omega
  | succ m ih =>
  intro i V hC hi him hT
  obtain ⟨hN, hK, hR, hN2, hb, hK4, hR8, hEv⟩ := id hC
  refine j_iload_n_3 dX5_lookOn_2 ?_
  refine j_iload_n_2 dX5_lookOn_3 ?_
  refine j_ic_geN (by omega) (by omega) (tgt := 30) dX5_lookOn_4 (by decide) (fun h4 => ?_) (fun h4 => ?_)
  · exact j_vret hM dX5_lookOn_30 rfl (by rw [show M - i = 0 by omega] at hT; exact hT)
  · refine j_aload_n_0 dX5_lookOn_7 ?_
    refine j_iload_n_1 dX5_lookOn_8 ?_
    refine C_X5_133 rfl (by decide) dX5_lookOn_9 sk_123 (Nat.le_of_ble_eq_true rfl) (Nat.le_of_eq (Nat.zero_add _)) (Nat.le_of_eq (Nat.zero_add _)) (fun _ _ hM' hT' => y_hourFor hC hr hM' hT') ?_
    refine j_aload_n_0 dX5_lookOn_12 ?_
    refine G_X5_44 rfl dX5_lookOn_13 sk_123 sr_123_15 ?_
    refine j_sipush (v := nI 864) dX5_lookOn_16 nc_sipush_864 ?_
    refine j_dup2 rfl rfl dX5_lookOn_19 ?_
    refine j_iald dX5_lookOn_20 sk_135 sn_135 (by omega) (by decide) ?_
    refine j_iconst (v := nI 1) dX5_lookOn_21 nc_iconst_1 ?_
    refine j_iadd dX5_lookOn_22 ?_
    refine j_iast dX5_lookOn_23 sk_135 sn_135 (by omega) (by decide) ?_
    refine j_inc1_3 rfl (by decide) dX5_lookOn_24 ?_
    refine j_goto (tgt := 2) dX5_lookOn_27 (by decide) ?_
    refine ih (i + 1) _ (hC.o ((hoN_out (by omega)).trans (hfM_out (by omega))) ((hoN_out (by omega)).trans (hfM_out (by omega)))) (by omega) (by omega) ?_
    rw [show M - i = (M - (i + 1)) + 1 by omega] at hT
    exact hT

set_option maxHeartbeats 4000000 in
set_option maxRecDepth 100000 in
theorem y_lookOn {sx : Nat → jv_S} {g : jv_G} {X : jv_X} {T : jv_T} {n : Nat} {V : Nat → Nat → Int32} {L : Nat → Nat → Int64} {k z : Nat} {N K R : Nat} (hC : Mt V N K R) {r M : Nat} (hr : r < 8) (hMm : M ≤ 100) (hM : jv_M g X T) (hT : T (.inl none) n (SH sx) (lkM N K r M V) L) : jv_J g X I_X5_lookOn 0 [some (jv_r g 123), some (.int (nI r)), some (.int (nI M)), none] [] n (SH sx) V L k z := by
  obtain ⟨hN, hK, hR, hN2, hb, hK4, hR8, hEv⟩ := id hC
  refine j_iconst (v := nI 0) dX5_lookOn_0 nc_iconst_0 ?_
  refine j_istore_n_3 rfl (by decide) dX5_lookOn_1 ?_
  exact y_look_loop (V := V) hr hMm hM (M + 1) 0 V hC (by omega) (by omega) hT

set_option maxHeartbeats 4000000 in
set_option maxRecDepth 100000 in
theorem y_hd_loop {sx : Nat → jv_S} {g : jv_G} {X : jv_X} {T : jv_T} {n : Nat} {V : Nat → Nat → Int32} {L : Nat → Nat → Int64} {k z : Nat} {N K R : Nat} (hC : Mt V N K R) {r : Nat} (hr : r < 8) (hM : jv_M g X T) : ∀ (m : Nat) (i a : Nat), i ≤ N → N + 1 ≤ i + m → T (.inl (some (.int (nI (hdL V r (N - i) i a))))) n (SH sx) (V) L → jv_J g X I_X5_heardOf 4 [some (jv_r g 123), some (.int (nI r)), some (.int (nI a)), some (.int (nI i))] [] n (SH sx) V L k z := by
  intro m
  induction m with
  | zero => intro i a hi him hT; omega
  | succ m ih =>
  intro i a hi him hT
  obtain ⟨hN, hK, hR, hN2, hb, hK4, hR8, hEv⟩ := id hC
  refine j_iload_n_3 dX5_heardOf_4 ?_
  refine j_aload_n_0 dX5_heardOf_5 ?_
  refine G_X5_67 rfl dX5_heardOf_6 sk_123 ?_
  refine j_top (y := nI N) hN ?_
  refine j_ic_geN (by omega) (by omega) (tgt := 44) dX5_heardOf_9 (by decide) (fun h9 => ?_) (fun h9 => ?_)
  · refine j_iload_n_2 dX5_heardOf_44 ?_
    exact j_iret hM dX5_heardOf_45 rfl (by rw [show N - i = 0 by omega] at hT; exact hT)
  · refine j_iload_n_2 dX5_heardOf_12 ?_
    refine j_aload_n_0 dX5_heardOf_13 ?_
    refine G_X5_44 rfl dX5_heardOf_14 sk_123 sr_123_15 ?_
    refine j_bipush (v := nI 96) dX5_heardOf_17 nc_bipush_96 ?_
    refine j_bipush (v := nI 12) dX5_heardOf_19 nc_bipush_12 ?_
    refine j_iload_n_1 dX5_heardOf_21 ?_
    refine j_imulN dX5_heardOf_22 ?_
    refine j_iaddN dX5_heardOf_23 ?_
    refine j_iload_n_3 dX5_heardOf_24 ?_
    refine j_iaddN dX5_heardOf_25 ?_
    refine j_iald dX5_heardOf_26 sk_135 sn_135 (by omega) (by decide) ?_
    refine j_iconst (v := -1) dX5_heardOf_27 nc_iconst_m1 ?_
    refine j_ic_ne (tgt := 35) dX5_heardOf_28 (by decide) (fun h28 => ?_) (fun h28 => ?_)
    · refine j_iconst (v := nI 1) dX5_heardOf_35 nc_iconst_1 ?_
      refine j_iaddN dX5_heardOf_36 ?_
      refine j_istore_n_2 rfl (by decide) dX5_heardOf_37 ?_
      refine j_inc1_3 rfl (by decide) dX5_heardOf_38 ?_
      refine j_goto (tgt := 4) dX5_heardOf_41 (by decide) ?_
      refine ih (i + 1) _ (by omega) (by omega) ?_
      rw [show N - i = (N - (i + 1)) + 1 by omega] at hT
      unfold hdL at hT
      rw [if_neg h28] at hT
      exact hT
    · refine j_iconst (v := nI 0) dX5_heardOf_31 nc_iconst_0 ?_
      refine j_goto (tgt := 36) dX5_heardOf_32 (by decide) ?_
      refine j_iaddN dX5_heardOf_36 ?_
      refine j_istore_n_2 rfl (by decide) dX5_heardOf_37 ?_
      refine j_inc1_3 rfl (by decide) dX5_heardOf_38 ?_
      refine j_goto (tgt := 4) dX5_heardOf_41 (by decide) ?_
      refine ih (i + 1) _ (by omega) (by omega) ?_
      rw [show N - i = (N - (i + 1)) + 1 by omega] at hT
      unfold hdL at hT
      rw [if_pos h28] at hT
      exact hT

set_option maxHeartbeats 4000000 in
set_option maxRecDepth 100000 in
theorem y_heardOf {sx : Nat → jv_S} {g : jv_G} {X : jv_X} {T : jv_T} {n : Nat} {V : Nat → Nat → Int32} {L : Nat → Nat → Int64} {k z : Nat} {N K R : Nat} (hC : Mt V N K R) {r : Nat} (hr : r < 8) (hM : jv_M g X T) (hT : T (.inl (some (.int (nI (hdL V r N 0 0))))) n (SH sx) (V) L) : jv_J g X I_X5_heardOf 0 [some (jv_r g 123), some (.int (nI r)), none, none] [] n (SH sx) V L k z := by
  obtain ⟨hN, hK, hR, hN2, hb, hK4, hR8, hEv⟩ := id hC
  refine j_iconst (v := nI 0) dX5_heardOf_0 nc_iconst_0 ?_
  refine j_istore_n_2 rfl (by decide) dX5_heardOf_1 ?_
  refine j_iconst (v := nI 0) dX5_heardOf_2 nc_iconst_0 ?_
  refine j_istore_n_3 rfl (by decide) dX5_heardOf_3 ?_
  exact y_hd_loop hC hr hM (N + 1) 0 0 (by omega) (by omega) hT

set_option maxHeartbeats 4000000 in
set_option maxRecDepth 100000 in
theorem y_ha_loop {sx : Nat → jv_S} {g : jv_G} {X : jv_X} {T : jv_T} {n : Nat} {V : Nat → Nat → Int32} {L : Nat → Nat → Int64} {k z : Nat} {N K R : Nat} (hC : Mt V N K R) (hM : jv_M g X T) : ∀ (m : Nat) (i a : Nat), i ≤ R → R + 1 ≤ i + m → T (.inl (some (.int (nI (haA V N (R - i) i a))))) n (SH sx) (V) L → jv_J g X I_X5_heardInAll 4 [some (jv_r g 123), some (.int (nI a)), some (.int (nI i))] [] n (SH sx) V L k z := by
  intro m
  induction m with
  | zero => intro i a hi him hT; omega
  | succ m ih =>
  intro i a hi him hT
  obtain ⟨hN, hK, hR, hN2, hb, hK4, hR8, hEv⟩ := id hC
  refine j_iload_n_2 dX5_heardInAll_4 ?_
  refine j_aload_n_0 dX5_heardInAll_5 ?_
  refine G_X5_77 rfl dX5_heardInAll_6 sk_123 ?_
  refine j_top (y := nI R) hR ?_
  refine j_ic_geN (by omega) (by omega) (tgt := 26) dX5_heardInAll_9 (by decide) (fun h9 => ?_) (fun h9 => ?_)
  · refine j_iload_n_1 dX5_heardInAll_26 ?_
    exact j_iret hM dX5_heardInAll_27 rfl (by rw [show R - i = 0 by omega] at hT; exact hT)
  · refine j_iload_n_1 dX5_heardInAll_12 ?_
    refine j_aload_n_0 dX5_heardInAll_13 ?_
    refine j_iload_n_2 dX5_heardInAll_14 ?_
    refine C_X5_136 rfl (by decide) dX5_heardInAll_15 sk_123 (Nat.le_of_ble_eq_true rfl) (Nat.le_of_eq (Nat.zero_add _)) (Nat.le_of_eq (Nat.zero_add _)) (fun _ _ hM' hT' => y_heardOf hC (by omega) hM' hT') ?_
    refine j_iaddN dX5_heardInAll_18 ?_
    refine j_istore_n_1 rfl (by decide) dX5_heardInAll_19 ?_
    refine j_inc1_2 rfl (by decide) dX5_heardInAll_20 ?_
    refine j_goto (tgt := 4) dX5_heardInAll_23 (by decide) ?_
    refine ih (i + 1) _ (by omega) (by omega) ?_
    rw [show R - i = (R - (i + 1)) + 1 by omega] at hT
    exact hT

set_option maxHeartbeats 4000000 in
set_option maxRecDepth 100000 in
theorem y_heardInAll {sx : Nat → jv_S} {g : jv_G} {X : jv_X} {T : jv_T} {n : Nat} {V : Nat → Nat → Int32} {L : Nat → Nat → Int64} {k z : Nat} {N K R : Nat} (hC : Mt V N K R) (hM : jv_M g X T) (hT : T (.inl (some (.int (nI (haA V N R 0 0))))) n (SH sx) (V) L) : jv_J g X I_X5_heardInAll 0 [some (jv_r g 123), none, none] [] n (SH sx) V L k z := by
  obtain ⟨hN, hK, hR, hN2, hb, hK4, hR8, hEv⟩ := id hC
  refine j_iconst (v := nI 0) dX5_heardInAll_0 nc_iconst_0 ?_
  refine j_istore_n_1 rfl (by decide) dX5_heardInAll_1 ?_
  refine j_iconst (v := nI 0) dX5_heardInAll_2 nc_iconst_0 ?_
  refine j_istore_n_2 rfl (by decide) dX5_heardInAll_3 ?_
  exact y_ha_loop hC hM (R + 1) 0 0 (by omega) (by omega) hT

set_option maxHeartbeats 4000000 in
set_option maxRecDepth 100000 in
theorem y_be_loop {sx : Nat → jv_S} {g : jv_G} {X : jv_X} {T : jv_T} {n : Nat} {V : Nat → Nat → Int32} {L : Nat → Nat → Int64} {k z : Nat} {N K R : Nat} (hC : Mt V N K R) {r : Nat} (hr : r < 8) (hM : jv_M g X T) : ∀ (m : Nat) (i : Nat) (a : Int32), i ≤ N → N + 1 ≤ i + m → T (.inl (some (.int (beL V r (N - i) i a)))) n (SH sx) (V) L → jv_J g X I_X5_believing 4 [some (jv_r g 123), some (.int (nI r)), some (.int a), some (.int (nI i))] [] n (SH sx) V L k z := by
  intro m
  induction m with
  | zero => intro i a hi him hT; omega
  | succ m ih =>
  intro i a hi him hT
  obtain ⟨hN, hK, hR, hN2, hb, hK4, hR8, hEv⟩ := id hC
  refine j_iload_n_3 dX5_believing_4 ?_
  refine j_aload_n_0 dX5_believing_5 ?_
  refine G_X5_67 rfl dX5_believing_6 sk_123 ?_
  refine j_top (y := nI N) hN ?_
  refine j_ic_geN (by omega) (by omega) (tgt := 48) dX5_believing_9 (by decide) (fun h9 => ?_) (fun h9 => ?_)
  · refine j_iload_n_2 dX5_believing_48 ?_
    exact j_iret hM dX5_believing_49 rfl (by rw [show N - i = 0 by omega] at hT; exact hT)
  · refine j_iload_n_2 dX5_believing_12 ?_
    refine j_aload_n_0 dX5_believing_13 ?_
    refine G_X5_44 rfl dX5_believing_14 sk_123 sr_123_15 ?_
    refine j_iconst (v := nI 0) dX5_believing_17 nc_iconst_0 ?_
    refine j_bipush (v := nI 12) dX5_believing_18 nc_bipush_12 ?_
    refine j_iload_n_1 dX5_believing_20 ?_
    refine j_imulN dX5_believing_21 ?_
    refine j_iaddN dX5_believing_22 ?_
    refine j_iload_n_3 dX5_believing_23 ?_
    refine j_iaddN dX5_believing_24 ?_
    refine j_iald dX5_believing_25 sk_135 sn_135 (by omega) (by decide) ?_
    refine j_iconst (v := nI 1) dX5_believing_26 nc_iconst_1 ?_
    refine j_ic_ne (tgt := 39) dX5_believing_27 (by decide) (fun h27 => ?_) (fun h27 => ?_)
    · refine j_iconst (v := nI 0) dX5_believing_39 nc_iconst_0 ?_
      refine j_iadd dX5_believing_40 ?_
      refine j_istore_n_2 rfl (by decide) dX5_believing_41 ?_
      refine j_inc1_3 rfl (by decide) dX5_believing_42 ?_
      refine j_goto (tgt := 4) dX5_believing_45 (by decide) ?_
      refine ih (i + 1) _ (by omega) (by omega) ?_
      rw [show N - i = (N - (i + 1)) + 1 by omega] at hT
      unfold beL at hT
      rw [if_neg h27] at hT
      exact hT
    · refine j_aload_n_0 dX5_believing_30 ?_
      refine G_X5_9 rfl dX5_believing_31 sk_123 sr_123_4 ?_
      refine j_iload_n_3 dX5_believing_34 ?_
      refine j_iald dX5_believing_35 sk_124 sn_124 (by omega) (by decide) ?_
      refine j_goto (tgt := 40) dX5_believing_36 (by decide) ?_
      refine j_iadd dX5_believing_40 ?_
      refine j_istore_n_2 rfl (by decide) dX5_believing_41 ?_
      refine j_inc1_3 rfl (by decide) dX5_believing_42 ?_
      refine j_goto (tgt := 4) dX5_believing_45 (by decide) ?_
      refine ih (i + 1) _ (by omega) (by omega) ?_
      rw [show N - i = (N - (i + 1)) + 1 by omega] at hT
      unfold beL at hT
      rw [if_pos h27] at hT
      exact hT

set_option maxHeartbeats 4000000 in
set_option maxRecDepth 100000 in
theorem y_believing {sx : Nat → jv_S} {g : jv_G} {X : jv_X} {T : jv_T} {n : Nat} {V : Nat → Nat → Int32} {L : Nat → Nat → Int64} {k z : Nat} {N K R : Nat} (hC : Mt V N K R) {r : Nat} (hr : r < 8) (hM : jv_M g X T) (hT : T (.inl (some (.int (beL V r N 0 (nI 0))))) n (SH sx) (V) L) : jv_J g X I_X5_believing 0 [some (jv_r g 123), some (.int (nI r)), none, none] [] n (SH sx) V L k z := by
  obtain ⟨hN, hK, hR, hN2, hb, hK4, hR8, hEv⟩ := id hC
  refine j_iconst (v := nI 0) dX5_believing_0 nc_iconst_0 ?_
  refine j_istore_n_2 rfl (by decide) dX5_believing_1 ?_
  refine j_iconst (v := nI 0) dX5_believing_2 nc_iconst_0 ?_
  refine j_istore_n_3 rfl (by decide) dX5_believing_3 ?_
  exact y_be_loop hC hr hM (N + 1) 0 _ (by omega) (by omega) hT

set_option maxHeartbeats 4000000 in
set_option maxRecDepth 100000 in
theorem y_isOnWay {sx : Nat → jv_S} {g : jv_G} {X : jv_X} {T : jv_T} {n : Nat} {V : Nat → Nat → Int32} {L : Nat → Nat → Int64} {k z : Nat} {a : Nat} (ha : a < 96) (hM : jv_M g X T) (hT : T (.inl (some (.int (bz (owB V a))))) n (SH sx) (V) L) : jv_J g X I_X5_isOnWay 0 [some (jv_r g 123), some (.int (nI a))] [] n (SH sx) V L k z := by
  refine j_aload_n_0 dX5_isOnWay_0 ?_
  refine G_X5_44 rfl dX5_isOnWay_1 sk_123 sr_123_15 ?_
  refine j_sipush (v := nI 576) dX5_isOnWay_4 nc_sipush_576 ?_
  refine j_iload_n_1 dX5_isOnWay_7 ?_
  refine j_iaddN dX5_isOnWay_8 ?_
  refine j_iald dX5_isOnWay_9 sk_135 sn_135 (by omega) (by decide) ?_
  refine j_iconst (v := -1) dX5_isOnWay_10 nc_iconst_m1 ?_
  refine j_ic_ne (tgt := 28) dX5_isOnWay_11 (by decide) (fun h11 => ?_) (fun h11 => ?_)
  · refine j_iconst (v := nI 1) dX5_isOnWay_28 nc_iconst_1 ?_
    refine j_goto (tgt := 33) dX5_isOnWay_29 (by decide) ?_
    exact j_zret hM dX5_isOnWay_33 rfl (jv_b01 (by first | exact Or.inl rfl | exact Or.inr rfl | assumption)) (by rw [show owB V a = true from decide_eq_true (Or.inl h11)] at hT; exact hT)
  · refine j_aload_n_0 dX5_isOnWay_14 ?_
    refine G_X5_44 rfl dX5_isOnWay_15 sk_123 sr_123_15 ?_
    refine j_sipush (v := nI 768) dX5_isOnWay_18 nc_sipush_768 ?_
    refine j_iload_n_1 dX5_isOnWay_21 ?_
    refine j_iaddN dX5_isOnWay_22 ?_
    refine j_iald dX5_isOnWay_23 sk_135 sn_135 (by omega) (by decide) ?_
    refine j_iconst (v := -1) dX5_isOnWay_24 nc_iconst_m1 ?_
    refine j_ic_eq (tgt := 32) dX5_isOnWay_25 (by decide) (fun h25 => ?_) (fun h25 => ?_)
    · refine j_iconst (v := nI 0) dX5_isOnWay_32 nc_iconst_0 ?_
      exact j_zret hM dX5_isOnWay_33 rfl (jv_b01 (by first | exact Or.inl rfl | exact Or.inr rfl | assumption)) (by rw [show owB V a = false from decide_eq_false (fun c => c.elim (fun c => c h11) (fun c => c h25))] at hT; exact hT)
    · refine j_iconst (v := nI 1) dX5_isOnWay_28 nc_iconst_1 ?_
      refine j_goto (tgt := 33) dX5_isOnWay_29 (by decide) ?_
      exact j_zret hM dX5_isOnWay_33 rfl (jv_b01 (by first | exact Or.inl rfl | exact Or.inr rfl | assumption)) (by rw [show owB V a = true from decide_eq_true (Or.inr h25)] at hT; exact hT)

set_option maxHeartbeats 4000000 in
set_option maxRecDepth 100000 in
theorem y_quiet_loop {sx : Nat → jv_S} {g : jv_G} {X : jv_X} {T : jv_T} {n : Nat} {V : Nat → Nat → Int32} {L : Nat → Nat → Int64} {k z : Nat} {N K R : Nat} (hC : Mt V N K R) {r : Nat} (hr : r < 8) (hM : jv_M g X T) : ∀ (m : Nat) (i : Nat) (v3 : Option Value), i ≤ N → N + 1 ≤ i + m → T (.inl (some (.int (bz (qmL V r (N - i) i))))) n (SH sx) (V) L → jv_J g X I_X5_isQuiet 2 [some (jv_r g 123), some (.int (nI r)), some (.int (nI i)), v3] [] n (SH sx) V L k z := by
  intro m
  induction m with
  | zero => intro i v3 hi him hT; omega
  | succ m ih =>
  intro i v3 hi him hT
  obtain ⟨hN, hK, hR, hN2, hb, hK4, hR8, hEv⟩ := id hC
  refine j_iload_n_2 dX5_isQuiet_2 ?_
  refine j_aload_n_0 dX5_isQuiet_3 ?_
  refine G_X5_67 rfl dX5_isQuiet_4 sk_123 ?_
  refine j_top (y := nI N) hN ?_
  refine j_ic_geN (by omega) (by omega) (tgt := 61) dX5_isQuiet_7 (by decide) (fun h7 => ?_) (fun h7 => ?_)
  · refine j_iconst (v := nI 1) dX5_isQuiet_61 nc_iconst_1 ?_
    exact j_zret hM dX5_isQuiet_62 rfl (jv_b01 (by first | exact Or.inl rfl | exact Or.inr rfl | assumption)) (by rw [show N - i = 0 by omega] at hT; exact hT)
  · refine j_bipush (v := nI 12) dX5_isQuiet_10 nc_bipush_12 ?_
    refine j_iload_n_1 dX5_isQuiet_12 ?_
    refine j_imulN dX5_isQuiet_13 ?_
    refine j_iload_n_2 dX5_isQuiet_14 ?_
    refine j_iaddN dX5_isQuiet_15 ?_
    refine j_istore_n_3 rfl (by decide) dX5_isQuiet_16 ?_
    refine j_aload_n_0 dX5_isQuiet_17 ?_
    refine j_iload_n_3 dX5_isQuiet_18 ?_
    refine C_X5_139 rfl (by decide) dX5_isQuiet_19 sk_123 (Nat.le_of_ble_eq_true rfl) (Nat.le_of_eq (Nat.zero_add _)) (Nat.le_of_eq (Nat.zero_add _)) (fun _ _ hM' hT' => y_isOnWay (by omega) hM' hT') ?_
    refine j_if_ne (tgt := 53) dX5_isQuiet_22 (by decide) (fun h22 => ?_) (fun h22 => ?_)
    · refine j_iconst (v := nI 0) dX5_isQuiet_53 nc_iconst_0 ?_
      exact j_zret hM dX5_isQuiet_54 rfl (jv_b01 (by first | exact Or.inl rfl | exact Or.inr rfl | assumption)) (by rw [show N - i = (N - (i + 1)) + 1 by omega] at hT; unfold qmL at hT; rw [if_neg (fun c => by rw [bz_t h22] at c; exact absurd c.1 (by decide))] at hT; exact hT)
    · refine j_aload_n_0 dX5_isQuiet_25 ?_
      refine G_X5_44 rfl dX5_isQuiet_26 sk_123 sr_123_15 ?_
      refine j_sipush (v := nI 384) dX5_isQuiet_29 nc_sipush_384 ?_
      refine j_iload_n_3 dX5_isQuiet_32 ?_
      refine j_iaddN dX5_isQuiet_33 ?_
      refine j_iald dX5_isQuiet_34 sk_135 sn_135 (by omega) (by decide) ?_
      refine j_iconst (v := -1) dX5_isQuiet_35 nc_iconst_m1 ?_
      refine j_ic_ne (tgt := 53) dX5_isQuiet_36 (by decide) (fun h36 => ?_) (fun h36 => ?_)
      · refine j_iconst (v := nI 0) dX5_isQuiet_53 nc_iconst_0 ?_
        exact j_zret hM dX5_isQuiet_54 rfl (jv_b01 (by first | exact Or.inl rfl | exact Or.inr rfl | assumption)) (by rw [show N - i = (N - (i + 1)) + 1 by omega] at hT; unfold qmL at hT; rw [if_neg (fun c => h36 c.2.1)] at hT; exact hT)
      · refine j_aload_n_0 dX5_isQuiet_39 ?_
        refine G_X5_44 rfl dX5_isQuiet_40 sk_123 sr_123_15 ?_
        refine j_sipush (v := nI 480) dX5_isQuiet_43 nc_sipush_480 ?_
        refine j_iload_n_3 dX5_isQuiet_46 ?_
        refine j_iaddN dX5_isQuiet_47 ?_
        refine j_iald dX5_isQuiet_48 sk_135 sn_135 (by omega) (by decide) ?_
        refine j_iconst (v := -1) dX5_isQuiet_49 nc_iconst_m1 ?_
        refine j_ic_eq (tgt := 55) dX5_isQuiet_50 (by decide) (fun h50 => ?_) (fun h50 => ?_)
        · refine j_inc1_2 rfl (by decide) dX5_isQuiet_55 ?_
          refine j_goto (tgt := 2) dX5_isQuiet_58 (by decide) ?_
          refine ih (i + 1) _ (by omega) (by omega) ?_
          rw [show N - i = (N - (i + 1)) + 1 by omega] at hT
          unfold qmL at hT
          rw [if_pos ⟨bz_f h22, h36, h50⟩] at hT
          exact hT
        · refine j_iconst (v := nI 0) dX5_isQuiet_53 nc_iconst_0 ?_
          exact j_zret hM dX5_isQuiet_54 rfl (jv_b01 (by first | exact Or.inl rfl | exact Or.inr rfl | assumption)) (by rw [show N - i = (N - (i + 1)) + 1 by omega] at hT; unfold qmL at hT; rw [if_neg (fun c => h50 c.2.2)] at hT; exact hT)

set_option maxHeartbeats 4000000 in
set_option maxRecDepth 100000 in
theorem y_isQuiet {sx : Nat → jv_S} {g : jv_G} {X : jv_X} {T : jv_T} {n : Nat} {V : Nat → Nat → Int32} {L : Nat → Nat → Int64} {k z : Nat} {N K R : Nat} (hC : Mt V N K R) {r : Nat} (hr : r < 8) (hM : jv_M g X T) (hT : T (.inl (some (.int (bz (qmL V r N 0))))) n (SH sx) (V) L) : jv_J g X I_X5_isQuiet 0 [some (jv_r g 123), some (.int (nI r)), none, none] [] n (SH sx) V L k z := by
  obtain ⟨hN, hK, hR, hN2, hb, hK4, hR8, hEv⟩ := id hC
  refine j_iconst (v := nI 0) dX5_isQuiet_0 nc_iconst_0 ?_
  refine j_istore_n_2 rfl (by decide) dX5_isQuiet_1 ?_
  exact y_quiet_loop hC hr hM (N + 1) 0 _ (by omega) (by omega) hT

set_option maxHeartbeats 4000000 in
set_option maxRecDepth 100000 in
theorem y_ow_loop {sx : Nat → jv_S} {g : jv_G} {X : jv_X} {T : jv_T} {n : Nat} {V : Nat → Nat → Int32} {L : Nat → Nat → Int64} {k z : Nat} {N K R : Nat} (hC : Mt V N K R) {r : Nat} (hr : r < 8) (hM : jv_M g X T) : ∀ (m : Nat) (i a : Nat), i ≤ N → N + 1 ≤ i + m → T (.inl (some (.int (nI (owL V r (N - i) i a))))) n (SH sx) (V) L → jv_J g X I_X5_onWay 4 [some (jv_r g 123), some (.int (nI r)), some (.int (nI a)), some (.int (nI i))] [] n (SH sx) V L k z := by
  intro m
  induction m with
  | zero => intro i a hi him hT; omega
  | succ m ih =>
  intro i a hi him hT
  obtain ⟨hN, hK, hR, hN2, hb, hK4, hR8, hEv⟩ := id hC
  refine j_iload_n_3 dX5_onWay_4 ?_
  refine j_aload_n_0 dX5_onWay_5 ?_
  refine G_X5_67 rfl dX5_onWay_6 sk_123 ?_
  refine j_top (y := nI N) hN ?_
  refine j_ic_geN (by omega) (by omega) (tgt := 39) dX5_onWay_9 (by decide) (fun h9 => ?_) (fun h9 => ?_)
  · refine j_iload_n_2 dX5_onWay_39 ?_
    exact j_iret hM dX5_onWay_40 rfl (by rw [show N - i = 0 by omega] at hT; exact hT)
  · refine j_iload_n_2 dX5_onWay_12 ?_
    refine j_aload_n_0 dX5_onWay_13 ?_
    refine j_bipush (v := nI 12) dX5_onWay_14 nc_bipush_12 ?_
    refine j_iload_n_1 dX5_onWay_16 ?_
    refine j_imulN dX5_onWay_17 ?_
    refine j_iload_n_3 dX5_onWay_18 ?_
    refine j_iaddN dX5_onWay_19 ?_
    refine C_X5_139 rfl (by decide) dX5_onWay_20 sk_123 (Nat.le_of_ble_eq_true rfl) (Nat.le_of_eq (Nat.zero_add _)) (Nat.le_of_eq (Nat.zero_add _)) (fun _ _ hM' hT' => y_isOnWay (by omega) hM' hT') ?_
    refine j_if_eq (tgt := 30) dX5_onWay_23 (by decide) (fun h23 => ?_) (fun h23 => ?_)
    · refine j_iconst (v := nI 0) dX5_onWay_30 nc_iconst_0 ?_
      refine j_iaddN dX5_onWay_31 ?_
      refine j_istore_n_2 rfl (by decide) dX5_onWay_32 ?_
      refine j_inc1_3 rfl (by decide) dX5_onWay_33 ?_
      refine j_goto (tgt := 4) dX5_onWay_36 (by decide) ?_
      refine ih (i + 1) _ (by omega) (by omega) ?_
      rw [show N - i = (N - (i + 1)) + 1 by omega] at hT
      unfold owL at hT
      rw [if_neg (by rw [bz_f h23]; decide)] at hT
      exact hT
    · refine j_iconst (v := nI 1) dX5_onWay_26 nc_iconst_1 ?_
      refine j_goto (tgt := 31) dX5_onWay_27 (by decide) ?_
      refine j_iaddN dX5_onWay_31 ?_
      refine j_istore_n_2 rfl (by decide) dX5_onWay_32 ?_
      refine j_inc1_3 rfl (by decide) dX5_onWay_33 ?_
      refine j_goto (tgt := 4) dX5_onWay_36 (by decide) ?_
      refine ih (i + 1) _ (by omega) (by omega) ?_
      rw [show N - i = (N - (i + 1)) + 1 by omega] at hT
      unfold owL at hT
      rw [if_pos (bz_t h23)] at hT
      exact hT

set_option maxHeartbeats 4000000 in
set_option maxRecDepth 100000 in
theorem y_onWay {sx : Nat → jv_S} {g : jv_G} {X : jv_X} {T : jv_T} {n : Nat} {V : Nat → Nat → Int32} {L : Nat → Nat → Int64} {k z : Nat} {N K R : Nat} (hC : Mt V N K R) {r : Nat} (hr : r < 8) (hM : jv_M g X T) (hT : T (.inl (some (.int (nI (owL V r N 0 0))))) n (SH sx) (V) L) : jv_J g X I_X5_onWay 0 [some (jv_r g 123), some (.int (nI r)), none, none] [] n (SH sx) V L k z := by
  obtain ⟨hN, hK, hR, hN2, hb, hK4, hR8, hEv⟩ := id hC
  refine j_iconst (v := nI 0) dX5_onWay_0 nc_iconst_0 ?_
  refine j_istore_n_2 rfl (by decide) dX5_onWay_1 ?_
  refine j_iconst (v := nI 0) dX5_onWay_2 nc_iconst_0 ?_
  refine j_istore_n_3 rfl (by decide) dX5_onWay_3 ?_
  exact y_ow_loop hC hr hM (N + 1) 0 0 (by omega) (by omega) hT
