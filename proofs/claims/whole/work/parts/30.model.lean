/-! ===== the reference's public face ===== -/
def t0 (V : (Nat → Nat → Int32)) : (Nat → Nat → Int32) := jv_U V 123 0 (nI 0)
def t1 (V : (Nat → Nat → Int32)) (c : Nat) : (Nat → Nat → Int32) := jv_U (t0 V) 123 0 (nI c)
def t2 (V : (Nat → Nat → Int32)) (c : Nat) : (Nat → Nat → Int32) := jv_U V 123 0 (nI c)
theorem t0_Mt {V : (Nat → Nat → Int32)} {N K R : Nat} (h : Mt V N K R) : Mt (t0 V) N K R := h.to (jv_Unj (by omega)) (jv_Unj (by omega)) (jv_Unj (by omega)) (jv_U_other (by omega))
theorem t0_out {V : (Nat → Nat → Int32)} {q : Nat} (h : q ≠ 123) : t0 V q = V q := jv_U_other h
theorem t2_Mt {V : (Nat → Nat → Int32)} {N K R c : Nat} (h : Mt V N K R) : Mt (t2 V c) N K R := h.to (jv_Unj (by omega)) (jv_Unj (by omega)) (jv_Unj (by omega)) (jv_U_other (by omega))

set_option maxHeartbeats 4000000 in
set_option maxRecDepth 100000 in
theorem y_no {sx : Nat → jv_S} {g : jv_G} {X : jv_X} {T : jv_T} {n : Nat} {V : Nat → Nat → Int32} {L : Nat → Nat → Int64} {k z : Nat} {c : Int32} (hM : jv_M g X T) (hT : T (.inl (some (.int (nI 0)))) n (SH sx) (jv_U V 123 0 c) L) : jv_J g X I_X5_no 0 [some (jv_r g 123), some (.int c)] [] n (SH sx) V L k z := by
  refine j_aload_n_0 dX5_no_0 ?_
  refine j_iload_n_1 dX5_no_1 ?_
  refine P_X5_63 rfl dX5_no_2 sk_123 ?_
  refine j_iconst (v := nI 0) dX5_no_5 nc_iconst_0 ?_
  exact j_iret hM dX5_no_6 rfl hT

set_option maxHeartbeats 4000000 in
set_option maxRecDepth 100000 in
theorem y_isNot {sx : Nat → jv_S} {g : jv_G} {X : jv_X} {T : jv_T} {n : Nat} {V : Nat → Nat → Int32} {L : Nat → Nat → Int64} {k z : Nat} {c : Int32} (hM : jv_M g X T) (hT : T (.inl (some (.int (nI 0)))) n (SH sx) (jv_U V 123 0 c) L) : jv_J g X I_X5_isNot 0 [some (jv_r g 123), some (.int c)] [] n (SH sx) V L k z := by
  refine j_aload_n_0 dX5_isNot_0 ?_
  refine j_iload_n_1 dX5_isNot_1 ?_
  refine P_X5_63 rfl dX5_isNot_2 sk_123 ?_
  refine j_iconst (v := nI 0) dX5_isNot_5 nc_iconst_0 ?_
  exact j_zret hM dX5_isNot_6 rfl (jv_b01 nI01a) hT

set_option maxHeartbeats 4000000 in
set_option maxRecDepth 100000 in
theorem y_ok {sx : Nat → jv_S} {g : jv_G} {X : jv_X} {T : jv_T} {n : Nat} {V : Nat → Nat → Int32} {L : Nat → Nat → Int64} {k z : Nat} {c : Int32} (hM : jv_M g X T) (hT : T (.inl (some (.int (c)))) n (SH sx) (jv_U V 123 0 (nI 0)) L) : jv_J g X I_X5_ok 0 [some (jv_r g 123), some (.int c)] [] n (SH sx) V L k z := by
  refine j_aload_n_0 dX5_ok_0 ?_
  refine j_iconst (v := nI 0) dX5_ok_1 nc_iconst_0 ?_
  refine P_X5_63 rfl dX5_ok_2 sk_123 ?_
  refine j_iload_n_1 dX5_ok_5 ?_
  exact j_iret hM dX5_ok_6 rfl hT

set_option maxHeartbeats 4000000 in
set_option maxRecDepth 100000 in
theorem y_thrown {sx : Nat → jv_S} {g : jv_G} {X : jv_X} {T : jv_T} {n : Nat} {V : Nat → Nat → Int32} {L : Nat → Nat → Int64} {k z : Nat} (hM : jv_M g X T) (hT : T (.inl (some (.int (V 123 0)))) n (SH sx) (V) L) : jv_J g X I_X5_thrown 0 [some (jv_r g 123)] [] n (SH sx) V L k z := by
  refine j_aload_n_0 dX5_thrown_0 ?_
  refine G_X5_63 rfl dX5_thrown_1 sk_123 ?_
  exact j_iret hM dX5_thrown_4 rfl hT

set_option maxHeartbeats 4000000 in
set_option maxRecDepth 100000 in
theorem y_let {sx : Nat → jv_S} {g : jv_G} {X : jv_X} {T : jv_T} {n : Nat} {V : Nat → Nat → Int32} {L : Nat → Nat → Int64} {k z : Nat} {q f : Nat} (hq : (SH sx q).1 = 10) (hn : (SH sx q).2.1 = 12) (hf : f < 12) {x : Int32} (hM : jv_M g X T) (hT : T (.inl (some (.int (V q f)))) n (SH sx) (jv_U V q f x) L) : jv_J g X I_X5_let 0 [some (jv_r g 123), some (jv_r g q), some (.int (nI f)), some (.int x), none] [] n (SH sx) V L k z := by
  refine j_aload_n_1 dX5_let_0 ?_
  refine j_iload_n_2 dX5_let_1 ?_
  refine j_iald dX5_let_2 hq hn (by omega) (by decide) ?_
  refine j_istore_4 rfl (by decide) dX5_let_3 ?_
  refine j_aload_n_1 dX5_let_5 ?_
  refine j_iload_n_2 dX5_let_6 ?_
  refine j_iload_n_3 dX5_let_7 ?_
  refine j_iast dX5_let_8 hq hn (by omega) (by decide) ?_
  refine j_iload_4 dX5_let_9 ?_
  exact j_iret hM dX5_let_11 rfl hT

set_option maxHeartbeats 4000000 in
set_option maxRecDepth 100000 in
theorem y_turned12 {sx : Nat → jv_S} {g : jv_G} {X : jv_X} {T : jv_T} {n : Nat} {V : Nat → Nat → Int32} {L : Nat → Nat → Int64} {k z : Nat} {q f : Nat} (hq : (SH sx q).1 = 11) (hn : (SH sx q).2.1 = 12) (hf : f < 12) (hM : jv_M g X T) (hT : T (.inl (some (.int (nb (V q f))))) n (SH sx) (jv_U V q f (nb (V q f))) L) : jv_J g X I_X5_turned 0 [some (jv_r g 123), some (jv_r g q), some (.int (nI f))] [] n (SH sx) V L k z := by
  refine j_aload_n_1 dX5_turned_0 ?_
  refine j_iload_n_2 dX5_turned_1 ?_
  refine j_aload_n_1 dX5_turned_2 ?_
  refine j_iload_n_2 dX5_turned_3 ?_
  refine j_bald dX5_turned_4 hq hn (by omega) (by decide) ?_
  refine j_if_ne (tgt := 12) dX5_turned_5 (by decide) (fun h5 => ?_) (fun h5 => ?_)
  · refine j_iconst (v := nI 0) dX5_turned_12 nc_iconst_0 ?_
    refine j_top (y := nb (V q f)) (by unfold nb; rw [if_neg h5]) ?_
    refine j_bast dX5_turned_13 (jv_b01 (nb01 _)) hq hn (by omega) (by decide) ?_
    refine j_aload_n_1 dX5_turned_14 ?_
    refine j_iload_n_2 dX5_turned_15 ?_
    refine j_bald dX5_turned_16 hq hn (by omega) (by decide) ?_
    refine j_top (y := nb (V q f)) jv_Ueq ?_
    exact j_zret hM dX5_turned_17 rfl (jv_b01 (nb01 _)) hT
  · refine j_iconst (v := nI 1) dX5_turned_8 nc_iconst_1 ?_
    refine j_top (y := nb (V q f)) (by unfold nb; rw [if_pos h5]) ?_
    refine j_goto (tgt := 13) dX5_turned_9 (by decide) ?_
    refine j_bast dX5_turned_13 (jv_b01 (nb01 _)) hq hn (by omega) (by decide) ?_
    refine j_aload_n_1 dX5_turned_14 ?_
    refine j_iload_n_2 dX5_turned_15 ?_
    refine j_bald dX5_turned_16 hq hn (by omega) (by decide) ?_
    refine j_top (y := nb (V q f)) jv_Ueq ?_
    exact j_zret hM dX5_turned_17 rfl (jv_b01 (nb01 _)) hT

set_option maxHeartbeats 4000000 in
set_option maxRecDepth 100000 in
theorem y_turned4 {sx : Nat → jv_S} {g : jv_G} {X : jv_X} {T : jv_T} {n : Nat} {V : Nat → Nat → Int32} {L : Nat → Nat → Int64} {k z : Nat} {q f : Nat} (hq : (SH sx q).1 = 11) (hn : (SH sx q).2.1 = 4) (hf : f < 4) (hM : jv_M g X T) (hT : T (.inl (some (.int (nb (V q f))))) n (SH sx) (jv_U V q f (nb (V q f))) L) : jv_J g X I_X5_turned 0 [some (jv_r g 123), some (jv_r g q), some (.int (nI f))] [] n (SH sx) V L k z := by
  refine j_aload_n_1 dX5_turned_0 ?_
  refine j_iload_n_2 dX5_turned_1 ?_
  refine j_aload_n_1 dX5_turned_2 ?_
  refine j_iload_n_2 dX5_turned_3 ?_
  refine j_bald dX5_turned_4 hq hn (by omega) (by decide) ?_
  refine j_if_ne (tgt := 12) dX5_turned_5 (by decide) (fun h5 => ?_) (fun h5 => ?_)
  · refine j_iconst (v := nI 0) dX5_turned_12 nc_iconst_0 ?_
    refine j_top (y := nb (V q f)) (by unfold nb; rw [if_neg h5]) ?_
    refine j_bast dX5_turned_13 (jv_b01 (nb01 _)) hq hn (by omega) (by decide) ?_
    refine j_aload_n_1 dX5_turned_14 ?_
    refine j_iload_n_2 dX5_turned_15 ?_
    refine j_bald dX5_turned_16 hq hn (by omega) (by decide) ?_
    refine j_top (y := nb (V q f)) jv_Ueq ?_
    exact j_zret hM dX5_turned_17 rfl (jv_b01 (nb01 _)) hT
  · refine j_iconst (v := nI 1) dX5_turned_8 nc_iconst_1 ?_
    refine j_top (y := nb (V q f)) (by unfold nb; rw [if_pos h5]) ?_
    refine j_goto (tgt := 13) dX5_turned_9 (by decide) ?_
    refine j_bast dX5_turned_13 (jv_b01 (nb01 _)) hq hn (by omega) (by decide) ?_
    refine j_aload_n_1 dX5_turned_14 ?_
    refine j_iload_n_2 dX5_turned_15 ?_
    refine j_bald dX5_turned_16 hq hn (by omega) (by decide) ?_
    refine j_top (y := nb (V q f)) jv_Ueq ?_
    exact j_zret hM dX5_turned_17 rfl (jv_b01 (nb01 _)) hT

set_option maxHeartbeats 4000000 in
set_option maxRecDepth 100000 in
theorem y_of12 {sx : Nat → jv_S} {g : jv_G} {X : jv_X} {T : jv_T} {n : Nat} {V : Nat → Nat → Int32} {L : Nat → Nat → Int64} {k z : Nat} {q f : Nat} (hq : (SH sx q).1 = 10) (hn : (SH sx q).2.1 = 12) (hf : f < 12) (hne : q ≠ 123) (hM : jv_M g X T) (hT : T (.inl (some (.int (V q f)))) n (SH sx) (t2 V 0) L) : jv_J g X I_X5_of 0 [some (jv_r g 123), some (jv_r g q), some (.int (nI f)), some (.int (nI 1))] [] n (SH sx) V L k z := by
  refine j_aload_n_0 dX5_of_0 ?_
  refine j_iload_n_3 dX5_of_1 ?_
  refine j_if_eq (tgt := 9) dX5_of_2 (by decide) (fun h2 => ?_) (fun h2 => ?_)
  · exact absurd h2 nI1_ne
  · refine j_iconst (v := nI 0) dX5_of_5 nc_iconst_0 ?_
    refine j_goto (tgt := 10) dX5_of_6 (by decide) ?_
    refine P_X5_63 rfl dX5_of_10 sk_123 ?_
    refine j_iload_n_3 dX5_of_13 ?_
    refine j_if_eq (tgt := 23) dX5_of_14 (by decide) (fun h14 => ?_) (fun h14 => ?_)
    · exact absurd h14 nI1_ne
    · refine j_aload_n_1 dX5_of_17 ?_
      refine j_iload_n_2 dX5_of_18 ?_
      refine j_iald dX5_of_19 hq hn (by omega) (by decide) ?_
      refine j_top (y := V q f) (jv_Une hne) ?_
      refine j_goto (tgt := 24) dX5_of_20 (by decide) ?_
      exact j_iret hM dX5_of_24 rfl hT

set_option maxHeartbeats 4000000 in
set_option maxRecDepth 100000 in
theorem y_of8 {sx : Nat → jv_S} {g : jv_G} {X : jv_X} {T : jv_T} {n : Nat} {V : Nat → Nat → Int32} {L : Nat → Nat → Int64} {k z : Nat} {q f : Nat} (hq : (SH sx q).1 = 10) (hn : (SH sx q).2.1 = 8) (hf : f < 8) (hne : q ≠ 123) (hM : jv_M g X T) (hT : T (.inl (some (.int (V q f)))) n (SH sx) (t2 V 0) L) : jv_J g X I_X5_of 0 [some (jv_r g 123), some (jv_r g q), some (.int (nI f)), some (.int (nI 1))] [] n (SH sx) V L k z := by
  refine j_aload_n_0 dX5_of_0 ?_
  refine j_iload_n_3 dX5_of_1 ?_
  refine j_if_eq (tgt := 9) dX5_of_2 (by decide) (fun h2 => ?_) (fun h2 => ?_)
  · exact absurd h2 nI1_ne
  · refine j_iconst (v := nI 0) dX5_of_5 nc_iconst_0 ?_
    refine j_goto (tgt := 10) dX5_of_6 (by decide) ?_
    refine P_X5_63 rfl dX5_of_10 sk_123 ?_
    refine j_iload_n_3 dX5_of_13 ?_
    refine j_if_eq (tgt := 23) dX5_of_14 (by decide) (fun h14 => ?_) (fun h14 => ?_)
    · exact absurd h14 nI1_ne
    · refine j_aload_n_1 dX5_of_17 ?_
      refine j_iload_n_2 dX5_of_18 ?_
      refine j_iald dX5_of_19 hq hn (by omega) (by decide) ?_
      refine j_top (y := V q f) (jv_Une hne) ?_
      refine j_goto (tgt := 24) dX5_of_20 (by decide) ?_
      exact j_iret hM dX5_of_24 rfl hT

set_option maxHeartbeats 4000000 in
set_option maxRecDepth 100000 in
theorem n_of {sx : Nat → jv_S} {g : jv_G} {X : jv_X} {T : jv_T} {n : Nat} {V : Nat → Nat → Int32} {L : Nat → Nat → Int64} {k z : Nat} {q : Nat} {x : Int32} (hM : jv_M g X T) (hT : T (.inl (some (.int (nI 0)))) n (SH sx) (t2 V 1) L) : jv_J g X I_X5_of 0 [some (jv_r g 123), some (jv_r g q), some (.int x), some (.int (nI 0))] [] n (SH sx) V L k z := by
  refine j_aload_n_0 dX5_of_0 ?_
  refine j_iload_n_3 dX5_of_1 ?_
  refine j_if_eq (tgt := 9) dX5_of_2 (by decide) (fun h2 => ?_) (fun h2 => ?_)
  · refine j_iconst (v := nI 1) dX5_of_9 nc_iconst_1 ?_
    refine P_X5_63 rfl dX5_of_10 sk_123 ?_
    refine j_iload_n_3 dX5_of_13 ?_
    refine j_if_eq (tgt := 23) dX5_of_14 (by decide) (fun h14 => ?_) (fun h14 => ?_)
    · refine j_iconst (v := nI 0) dX5_of_23 nc_iconst_0 ?_
      exact j_iret hM dX5_of_24 rfl hT
    · exact absurd nI_0 h14
  · exact absurd nI_0 h2

def anI (V : (Nat → Nat → Int32)) (i : Nat) : (Nat → Nat → Int32) := fun q c => if c < i then (if q = 124 then nI 10 else if q = 125 then nI 2 else if q = 126 then nI 3 else if q = 127 then nI 1 else V q c) else V q c
def anM (V : (Nat → Nat → Int32)) (m : Nat) : (Nat → Nat → Int32) := anI (jv_U (jv_U (jv_U V 123 1 (nI m)) 123 2 (nI 0)) 123 3 (nI 0)) 12
theorem anI_0 {V : (Nat → Nat → Int32)} : anI V 0 = V := by
  funext q c
  unfold anI
  rw [if_neg (by omega)]
theorem anI_s {V : (Nat → Nat → Int32)} {i : Nat} : jv_U (jv_U (jv_U (jv_U (anI V i) 124 i (nI 10)) 125 i (nI 2)) 126 i (nI 3)) 127 i (nI 1) = anI V (i + 1) := by
  funext q c
  unfold jv_U anI
  by_cases hc : c = i
  · subst hc
    rw [if_neg (Nat.lt_irrefl c), if_pos (Nat.lt_succ_self c)]
    simp only [if_true]
    by_cases h1 : q = 127
    · subst h1; rfl
    · by_cases h2 : q = 126
      · subst h2; rfl
      · by_cases h3 : q = 125
        · subst h3; rfl
        · by_cases h4 : q = 124
          · subst h4; rfl
          · rw [if_neg h1, if_neg h2, if_neg h3, if_neg h4, if_neg h4, if_neg h3, if_neg h2, if_neg h1]
  · simp only [if_neg hc, ite_self]
    by_cases h : c < i
    · have h' : c < i + 1 := by omega
      simp only [if_pos h, if_pos h']
    · have h' : ¬ c < i + 1 := by omega
      simp only [if_neg h, if_neg h']

set_option maxHeartbeats 4000000 in
set_option maxRecDepth 100000 in
theorem y_anew_loop {sx : Nat → jv_S} {g : jv_G} {X : jv_X} {T : jv_T} {n : Nat} {V : Nat → Nat → Int32} {L : Nat → Nat → Int64} {k z : Nat} {x1 : Int32} (hM : jv_M g X T) (hT : T (.inl none) n (SH sx) (anI V 12) L) : ∀ (m : Nat) (i : Nat), i ≤ 12 → 13 ≤ i + m → jv_J g X I_X5_anew 17 [some (jv_r g 123), some (.int x1), some (.int (nI i))] [] n (SH sx) (anI V i) L k z := by
  intro m
  induction m with
  | zero => intro i hi him; omega
  | succ m ih =>
  intro i hi him
  refine j_iload_n_2 dX5_anew_17 ?_
  refine j_bipush (v := nI 12) dX5_anew_18 nc_bipush_12 ?_
  refine j_ic_geN (by omega) (by omega) (tgt := 58) dX5_anew_20 (by decide) (fun h20 => ?_) (fun h20 => ?_)
  · have e12 : i = 12 := by omega
    subst e12
    exact j_vret hM dX5_anew_58 rfl hT
  · refine j_aload_n_0 dX5_anew_23 ?_
    refine G_X5_9 rfl dX5_anew_24 sk_123 sr_123_4 ?_
    refine j_iload_n_2 dX5_anew_27 ?_
    refine j_bipush (v := nI 10) dX5_anew_28 nc_bipush_10 ?_
    refine j_iast dX5_anew_30 sk_124 sn_124 (by omega) (by decide) ?_
    refine j_aload_n_0 dX5_anew_31 ?_
    refine G_X5_13 rfl dX5_anew_32 sk_123 sr_123_5 ?_
    refine j_iload_n_2 dX5_anew_35 ?_
    refine j_iconst (v := nI 2) dX5_anew_36 nc_iconst_2 ?_
    refine j_iast dX5_anew_37 sk_125 sn_125 (by omega) (by decide) ?_
    refine j_aload_n_0 dX5_anew_38 ?_
    refine G_X5_16 rfl dX5_anew_39 sk_123 sr_123_6 ?_
    refine j_iload_n_2 dX5_anew_42 ?_
    refine j_iconst (v := nI 3) dX5_anew_43 nc_iconst_3 ?_
    refine j_iast dX5_anew_44 sk_126 sn_126 (by omega) (by decide) ?_
    refine j_aload_n_0 dX5_anew_45 ?_
    refine G_X5_19 rfl dX5_anew_46 sk_123 sr_123_7 ?_
    refine j_iload_n_2 dX5_anew_49 ?_
    refine j_iconst (v := nI 1) dX5_anew_50 nc_iconst_1 ?_
    refine j_bast dX5_anew_51 (jv_b01 nI01b) sk_127 sn_127 (by omega) (by decide) ?_
    refine j_mem anI_s ?_
    refine j_inc1_2 rfl (by decide) dX5_anew_52 ?_
    refine j_goto (tgt := 17) dX5_anew_55 (by decide) ?_
    exact ih (i + 1) (by omega) (by omega)

set_option maxHeartbeats 4000000 in
set_option maxRecDepth 100000 in
theorem y_anew {sx : Nat → jv_S} {g : jv_G} {X : jv_X} {T : jv_T} {n : Nat} {V : Nat → Nat → Int32} {L : Nat → Nat → Int64} {k z : Nat} {m : Nat} (hM : jv_M g X T) (hT : T (.inl none) n (SH sx) (anM V m) L) : jv_J g X I_X5_anew 0 [some (jv_r g 123), some (.int (nI m)), none] [] n (SH sx) V L k z := by
  refine j_aload_n_0 dX5_anew_0 ?_
  refine j_iload_n_1 dX5_anew_1 ?_
  refine P_X5_67 rfl dX5_anew_2 sk_123 ?_
  refine j_aload_n_0 dX5_anew_5 ?_
  refine j_iconst (v := nI 0) dX5_anew_6 nc_iconst_0 ?_
  refine P_X5_74 rfl dX5_anew_7 sk_123 ?_
  refine j_aload_n_0 dX5_anew_10 ?_
  refine j_iconst (v := nI 0) dX5_anew_11 nc_iconst_0 ?_
  refine P_X5_77 rfl dX5_anew_12 sk_123 ?_
  refine j_iconst (v := nI 0) dX5_anew_15 nc_iconst_0 ?_
  refine j_istore_n_2 rfl (by decide) dX5_anew_16 ?_
  refine j_mem anI_0.symm ?_
  exact y_anew_loop hM hT 13 0 (by omega) (by omega)

set_option maxHeartbeats 4000000 in
set_option maxRecDepth 100000 in
theorem m_build {sx : Nat → jv_S} {g : jv_G} {X : jv_X} {T : jv_T} {n : Nat} {V : Nat → Nat → Int32} {L : Nat → Nat → Int64} {k z : Nat} {m : Nat} (hm2 : 2 ≤ m) (hm : m ≤ 12) (hM : jv_M g X T) (hT : T (.inl (some (.int (nI (m - 1))))) n (SH sx) (anM (t0 V) m) L) : jv_J g X I_X5_build 0 [some (jv_r g 123), some (.int (nI m))] [] n (SH sx) V L k z := by
  refine j_aload_n_0 dX5_build_0 ?_
  refine j_iconst (v := nI 0) dX5_build_1 nc_iconst_0 ?_
  refine P_X5_63 rfl dX5_build_2 sk_123 ?_
  refine j_iload_n_1 dX5_build_5 ?_
  refine j_iconst (v := nI 2) dX5_build_6 nc_iconst_2 ?_
  refine j_bipush (v := nI 12) dX5_build_7 nc_bipush_12 ?_
  refine C_X5_70 rfl (by decide) dX5_build_9 (Nat.le_of_ble_eq_true rfl) (Nat.le_of_eq (Nat.zero_add _)) (Nat.le_of_eq (Nat.zero_add _)) (fun _ _ hM' hT' => y_isIn hM' hT') ?_
  refine j_top (y := nI 1) (by rw [inN_ok hm2 hm (by omega)]; rfl) ?_
  refine j_if_ne (tgt := 21) dX5_build_12 (by decide) (fun h12 => ?_) (fun h12 => ?_)
  · refine j_aload_n_0 dX5_build_21 ?_
    refine j_iload_n_1 dX5_build_22 ?_
    refine C_X5_59 rfl (by decide) dX5_build_23 sk_123 (Nat.le_of_ble_eq_true rfl) (Nat.le_of_eq (Nat.zero_add _)) (Nat.le_of_eq (Nat.zero_add _)) (fun _ _ hM' hT' => y_anew hM' hT') ?_
    refine j_iload_n_1 dX5_build_26 ?_
    refine j_iconst (v := nI 1) dX5_build_27 nc_iconst_1 ?_
    refine j_isubN (by omega) dX5_build_28 ?_
    exact j_iret hM dX5_build_29 rfl hT
  · exact absurd h12 nI1_ne

set_option maxHeartbeats 4000000 in
set_option maxRecDepth 100000 in
theorem q_build_0 {sx : Nat → jv_S} {g : jv_G} {X : jv_X} {T : jv_T} {n : Nat} {V : Nat → Nat → Int32} {L : Nat → Nat → Int64} {k z : Nat} {x : Int32} (hx : x < nI 2 ∨ nI 12 < x) (hM : jv_M g X T) (hT : T (.inl (some (.int (nI 0)))) n (SH sx) (t1 V 1) L) : jv_J g X I_X5_build 0 [some (jv_r g 123), some (.int x)] [] n (SH sx) V L k z := by
  refine j_aload_n_0 dX5_build_0 ?_
  refine j_iconst (v := nI 0) dX5_build_1 nc_iconst_0 ?_
  refine P_X5_63 rfl dX5_build_2 sk_123 ?_
  refine j_iload_n_1 dX5_build_5 ?_
  refine j_iconst (v := nI 2) dX5_build_6 nc_iconst_2 ?_
  refine j_bipush (v := nI 12) dX5_build_7 nc_bipush_12 ?_
  refine C_X5_70 rfl (by decide) dX5_build_9 (Nat.le_of_ble_eq_true rfl) (Nat.le_of_eq (Nat.zero_add _)) (Nat.le_of_eq (Nat.zero_add _)) (fun _ _ hM' hT' => y_isIn hM' hT') ?_
  refine j_top (y := nI 0) (by rw [inX_bad hx]; rfl) ?_
  refine j_if_ne (tgt := 21) dX5_build_12 (by decide) (fun h12 => ?_) (fun h12 => ?_)
  · exact absurd nI_0 h12
  · refine j_aload_n_0 dX5_build_15 ?_
    refine j_iconst (v := nI 1) dX5_build_16 nc_iconst_1 ?_
    refine C_X5_143 rfl (by decide) dX5_build_17 sk_123 (Nat.le_of_ble_eq_true rfl) (Nat.le_of_eq (Nat.zero_add _)) (Nat.le_of_eq (Nat.zero_add _)) (fun _ _ hM' hT' => y_no hM' hT') ?_
    exact j_iret hM dX5_build_20 rfl hT

set_option maxHeartbeats 4000000 in
set_option maxRecDepth 100000 in
theorem m_setStay {sx : Nat → jv_S} {g : jv_G} {X : jv_X} {T : jv_T} {n : Nat} {V : Nat → Nat → Int32} {L : Nat → Nat → Int64} {k z : Nat} {N K R : Nat} (hC : Mt V N K R) {f : Nat} (hf : f < N) {x : Int32} (hA : ¬ x < nI 0) (hB : x ≤ nI 9) (hM : jv_M g X T) (hT : T (.inl (some (.int (V 125 f)))) n (SH sx) (jv_U (t0 V) 125 f x) L) : jv_J g X I_X5_setStay 0 [some (jv_r g 123), some (.int (nI f)), some (.int x)] [] n (SH sx) V L k z := by
  obtain ⟨hN, hK, hR, hN2, hb, hK4, hR8, hEv⟩ := id hC
  obtain ⟨hN', hK', hR', -⟩ := t0_Mt hC
  refine j_aload_n_0 dX5_setStay_0 ?_
  refine j_iconst (v := nI 0) dX5_setStay_1 nc_iconst_0 ?_
  refine P_X5_63 rfl dX5_setStay_2 sk_123 ?_
  refine j_aload_n_0 dX5_setStay_5 ?_
  refine j_iload_n_1 dX5_setStay_6 ?_
  refine C_X5_146 rfl (by decide) dX5_setStay_7 sk_123 (Nat.le_of_ble_eq_true rfl) (Nat.le_of_eq (Nat.zero_add _)) (Nat.le_of_eq (Nat.zero_add _)) (fun _ _ hM' hT' => y_isFloor (t0_Mt hC) hf hM' hT') ?_
  refine j_if_ne (tgt := 19) dX5_setStay_10 (by decide) (fun h10 => ?_) (fun h10 => ?_)
  · refine j_iload_n_2 dX5_setStay_19 ?_
    refine j_iconst (v := nI 0) dX5_setStay_20 nc_iconst_0 ?_
    refine j_bipush (v := nI 9) dX5_setStay_21 nc_bipush_9 ?_
    refine C_X5_70 rfl (by decide) dX5_setStay_23 (Nat.le_of_ble_eq_true rfl) (Nat.le_of_eq (Nat.zero_add _)) (Nat.le_of_eq (Nat.zero_add _)) (fun _ _ hM' hT' => y_isIn hM' hT') ?_
    refine j_top (y := nI 1) (by rw [inX_ok hA hB]; rfl) ?_
    refine j_if_eq (tgt := 42) dX5_setStay_26 (by decide) (fun h26 => ?_) (fun h26 => ?_)
    · exact absurd h26 nI1_ne
    · refine j_aload_n_0 dX5_setStay_29 ?_
      refine j_aload_n_0 dX5_setStay_30 ?_
      refine G_X5_13 rfl dX5_setStay_31 sk_123 sr_123_5 ?_
      refine j_iload_n_1 dX5_setStay_34 ?_
      refine j_iload_n_2 dX5_setStay_35 ?_
      refine C_X5_149 rfl (by decide) dX5_setStay_36 sk_123 (Nat.le_of_ble_eq_true rfl) (Nat.le_of_eq (Nat.zero_add _)) (Nat.le_of_eq (Nat.zero_add _)) (fun _ _ hM' hT' => y_let sk_125 sn_125 (by omega) hM' hT') ?_
      refine j_top (y := V 125 f) (by rw [t0_out (by omega)]) ?_
      refine j_goto (tgt := 47) dX5_setStay_39 (by decide) ?_
      exact j_iret hM dX5_setStay_47 rfl hT
  · exact absurd h10 nI1_ne

set_option maxHeartbeats 4000000 in
set_option maxRecDepth 100000 in
theorem q_setStay_0 {sx : Nat → jv_S} {g : jv_G} {X : jv_X} {T : jv_T} {n : Nat} {V : Nat → Nat → Int32} {L : Nat → Nat → Int64} {k z : Nat} {N K R : Nat} (hC : Mt V N K R) {f : Int32} {x : Int32} (hx : f < 0 ∨ nI N ≤ f) (hM : jv_M g X T) (hT : T (.inl (some (.int (nI 0)))) n (SH sx) (t1 V 1) L) : jv_J g X I_X5_setStay 0 [some (jv_r g 123), some (.int f), some (.int x)] [] n (SH sx) V L k z := by
  obtain ⟨hN, hK, hR, hN2, hb, hK4, hR8, hEv⟩ := id hC
  obtain ⟨hN', hK', hR', -⟩ := t0_Mt hC
  refine j_aload_n_0 dX5_setStay_0 ?_
  refine j_iconst (v := nI 0) dX5_setStay_1 nc_iconst_0 ?_
  refine P_X5_63 rfl dX5_setStay_2 sk_123 ?_
  refine j_aload_n_0 dX5_setStay_5 ?_
  refine j_iload_n_1 dX5_setStay_6 ?_
  refine C_X5_146 rfl (by decide) dX5_setStay_7 sk_123 (Nat.le_of_ble_eq_true rfl) (Nat.le_of_eq (Nat.zero_add _)) (Nat.le_of_eq (Nat.zero_add _)) (fun _ _ hM' hT' => n_isFloor (t0_Mt hC) hx hM' hT') ?_
  refine j_if_ne (tgt := 19) dX5_setStay_10 (by decide) (fun h10 => ?_) (fun h10 => ?_)
  · exact absurd nI_0 h10
  · refine j_aload_n_0 dX5_setStay_13 ?_
    refine j_iconst (v := nI 1) dX5_setStay_14 nc_iconst_1 ?_
    refine C_X5_143 rfl (by decide) dX5_setStay_15 sk_123 (Nat.le_of_ble_eq_true rfl) (Nat.le_of_eq (Nat.zero_add _)) (Nat.le_of_eq (Nat.zero_add _)) (fun _ _ hM' hT' => y_no hM' hT') ?_
    exact j_iret hM dX5_setStay_18 rfl hT

set_option maxHeartbeats 4000000 in
set_option maxRecDepth 100000 in
theorem q_setStay_1 {sx : Nat → jv_S} {g : jv_G} {X : jv_X} {T : jv_T} {n : Nat} {V : Nat → Nat → Int32} {L : Nat → Nat → Int64} {k z : Nat} {N K R : Nat} (hC : Mt V N K R) {f : Nat} (hf : f < N) {x : Int32} (hx : x < nI 0 ∨ nI 9 < x) (hM : jv_M g X T) (hT : T (.inl (some (.int (nI 0)))) n (SH sx) (t1 V 2) L) : jv_J g X I_X5_setStay 0 [some (jv_r g 123), some (.int (nI f)), some (.int x)] [] n (SH sx) V L k z := by
  obtain ⟨hN, hK, hR, hN2, hb, hK4, hR8, hEv⟩ := id hC
  obtain ⟨hN', hK', hR', -⟩ := t0_Mt hC
  refine j_aload_n_0 dX5_setStay_0 ?_
  refine j_iconst (v := nI 0) dX5_setStay_1 nc_iconst_0 ?_
  refine P_X5_63 rfl dX5_setStay_2 sk_123 ?_
  refine j_aload_n_0 dX5_setStay_5 ?_
  refine j_iload_n_1 dX5_setStay_6 ?_
  refine C_X5_146 rfl (by decide) dX5_setStay_7 sk_123 (Nat.le_of_ble_eq_true rfl) (Nat.le_of_eq (Nat.zero_add _)) (Nat.le_of_eq (Nat.zero_add _)) (fun _ _ hM' hT' => y_isFloor (t0_Mt hC) hf hM' hT') ?_
  refine j_if_ne (tgt := 19) dX5_setStay_10 (by decide) (fun h10 => ?_) (fun h10 => ?_)
  · refine j_iload_n_2 dX5_setStay_19 ?_
    refine j_iconst (v := nI 0) dX5_setStay_20 nc_iconst_0 ?_
    refine j_bipush (v := nI 9) dX5_setStay_21 nc_bipush_9 ?_
    refine C_X5_70 rfl (by decide) dX5_setStay_23 (Nat.le_of_ble_eq_true rfl) (Nat.le_of_eq (Nat.zero_add _)) (Nat.le_of_eq (Nat.zero_add _)) (fun _ _ hM' hT' => y_isIn hM' hT') ?_
    refine j_top (y := nI 0) (by rw [inX_bad hx]; rfl) ?_
    refine j_if_eq (tgt := 42) dX5_setStay_26 (by decide) (fun h26 => ?_) (fun h26 => ?_)
    · refine j_aload_n_0 dX5_setStay_42 ?_
      refine j_iconst (v := nI 2) dX5_setStay_43 nc_iconst_2 ?_
      refine C_X5_143 rfl (by decide) dX5_setStay_44 sk_123 (Nat.le_of_ble_eq_true rfl) (Nat.le_of_eq (Nat.zero_add _)) (Nat.le_of_eq (Nat.zero_add _)) (fun _ _ hM' hT' => y_no hM' hT') ?_
      exact j_iret hM dX5_setStay_47 rfl hT
    · exact absurd nI_0 h26
  · exact absurd h10 nI1_ne

set_option maxHeartbeats 4000000 in
set_option maxRecDepth 100000 in
theorem m_setHeads {sx : Nat → jv_S} {g : jv_G} {X : jv_X} {T : jv_T} {n : Nat} {V : Nat → Nat → Int32} {L : Nat → Nat → Int64} {k z : Nat} {N K R : Nat} (hC : Mt V N K R) {f : Nat} (hf : f < N) {x : Int32} (hA : ¬ x < nI 0) (hB : x ≤ nI 99) (hM : jv_M g X T) (hT : T (.inl (some (.int (V 124 f)))) n (SH sx) (jv_U (t0 V) 124 f x) L) : jv_J g X I_X5_setHeads 0 [some (jv_r g 123), some (.int (nI f)), some (.int x)] [] n (SH sx) V L k z := by
  obtain ⟨hN, hK, hR, hN2, hb, hK4, hR8, hEv⟩ := id hC
  obtain ⟨hN', hK', hR', -⟩ := t0_Mt hC
  refine j_aload_n_0 dX5_setHeads_0 ?_
  refine j_iconst (v := nI 0) dX5_setHeads_1 nc_iconst_0 ?_
  refine P_X5_63 rfl dX5_setHeads_2 sk_123 ?_
  refine j_aload_n_0 dX5_setHeads_5 ?_
  refine j_iload_n_1 dX5_setHeads_6 ?_
  refine C_X5_146 rfl (by decide) dX5_setHeads_7 sk_123 (Nat.le_of_ble_eq_true rfl) (Nat.le_of_eq (Nat.zero_add _)) (Nat.le_of_eq (Nat.zero_add _)) (fun _ _ hM' hT' => y_isFloor (t0_Mt hC) hf hM' hT') ?_
  refine j_if_ne (tgt := 19) dX5_setHeads_10 (by decide) (fun h10 => ?_) (fun h10 => ?_)
  · refine j_iload_n_2 dX5_setHeads_19 ?_
    refine j_iconst (v := nI 0) dX5_setHeads_20 nc_iconst_0 ?_
    refine j_bipush (v := nI 99) dX5_setHeads_21 nc_bipush_99 ?_
    refine C_X5_70 rfl (by decide) dX5_setHeads_23 (Nat.le_of_ble_eq_true rfl) (Nat.le_of_eq (Nat.zero_add _)) (Nat.le_of_eq (Nat.zero_add _)) (fun _ _ hM' hT' => y_isIn hM' hT') ?_
    refine j_top (y := nI 1) (by rw [inX_ok hA hB]; rfl) ?_
    refine j_if_eq (tgt := 42) dX5_setHeads_26 (by decide) (fun h26 => ?_) (fun h26 => ?_)
    · exact absurd h26 nI1_ne
    · refine j_aload_n_0 dX5_setHeads_29 ?_
      refine j_aload_n_0 dX5_setHeads_30 ?_
      refine G_X5_9 rfl dX5_setHeads_31 sk_123 sr_123_4 ?_
      refine j_iload_n_1 dX5_setHeads_34 ?_
      refine j_iload_n_2 dX5_setHeads_35 ?_
      refine C_X5_149 rfl (by decide) dX5_setHeads_36 sk_123 (Nat.le_of_ble_eq_true rfl) (Nat.le_of_eq (Nat.zero_add _)) (Nat.le_of_eq (Nat.zero_add _)) (fun _ _ hM' hT' => y_let sk_124 sn_124 (by omega) hM' hT') ?_
      refine j_top (y := V 124 f) (by rw [t0_out (by omega)]) ?_
      refine j_goto (tgt := 47) dX5_setHeads_39 (by decide) ?_
      exact j_iret hM dX5_setHeads_47 rfl hT
  · exact absurd h10 nI1_ne

set_option maxHeartbeats 4000000 in
set_option maxRecDepth 100000 in
theorem q_setHeads_0 {sx : Nat → jv_S} {g : jv_G} {X : jv_X} {T : jv_T} {n : Nat} {V : Nat → Nat → Int32} {L : Nat → Nat → Int64} {k z : Nat} {N K R : Nat} (hC : Mt V N K R) {f : Int32} {x : Int32} (hx : f < 0 ∨ nI N ≤ f) (hM : jv_M g X T) (hT : T (.inl (some (.int (nI 0)))) n (SH sx) (t1 V 1) L) : jv_J g X I_X5_setHeads 0 [some (jv_r g 123), some (.int f), some (.int x)] [] n (SH sx) V L k z := by
  obtain ⟨hN, hK, hR, hN2, hb, hK4, hR8, hEv⟩ := id hC
  obtain ⟨hN', hK', hR', -⟩ := t0_Mt hC
  refine j_aload_n_0 dX5_setHeads_0 ?_
  refine j_iconst (v := nI 0) dX5_setHeads_1 nc_iconst_0 ?_
  refine P_X5_63 rfl dX5_setHeads_2 sk_123 ?_
  refine j_aload_n_0 dX5_setHeads_5 ?_
  refine j_iload_n_1 dX5_setHeads_6 ?_
  refine C_X5_146 rfl (by decide) dX5_setHeads_7 sk_123 (Nat.le_of_ble_eq_true rfl) (Nat.le_of_eq (Nat.zero_add _)) (Nat.le_of_eq (Nat.zero_add _)) (fun _ _ hM' hT' => n_isFloor (t0_Mt hC) hx hM' hT') ?_
  refine j_if_ne (tgt := 19) dX5_setHeads_10 (by decide) (fun h10 => ?_) (fun h10 => ?_)
  · exact absurd nI_0 h10
  · refine j_aload_n_0 dX5_setHeads_13 ?_
    refine j_iconst (v := nI 1) dX5_setHeads_14 nc_iconst_1 ?_
    refine C_X5_143 rfl (by decide) dX5_setHeads_15 sk_123 (Nat.le_of_ble_eq_true rfl) (Nat.le_of_eq (Nat.zero_add _)) (Nat.le_of_eq (Nat.zero_add _)) (fun _ _ hM' hT' => y_no hM' hT') ?_
    exact j_iret hM dX5_setHeads_18 rfl hT

set_option maxHeartbeats 4000000 in
set_option maxRecDepth 100000 in
theorem q_setHeads_1 {sx : Nat → jv_S} {g : jv_G} {X : jv_X} {T : jv_T} {n : Nat} {V : Nat → Nat → Int32} {L : Nat → Nat → Int64} {k z : Nat} {N K R : Nat} (hC : Mt V N K R) {f : Nat} (hf : f < N) {x : Int32} (hx : x < nI 0 ∨ nI 99 < x) (hM : jv_M g X T) (hT : T (.inl (some (.int (nI 0)))) n (SH sx) (t1 V 2) L) : jv_J g X I_X5_setHeads 0 [some (jv_r g 123), some (.int (nI f)), some (.int x)] [] n (SH sx) V L k z := by
  obtain ⟨hN, hK, hR, hN2, hb, hK4, hR8, hEv⟩ := id hC
  obtain ⟨hN', hK', hR', -⟩ := t0_Mt hC
  refine j_aload_n_0 dX5_setHeads_0 ?_
  refine j_iconst (v := nI 0) dX5_setHeads_1 nc_iconst_0 ?_
  refine P_X5_63 rfl dX5_setHeads_2 sk_123 ?_
  refine j_aload_n_0 dX5_setHeads_5 ?_
  refine j_iload_n_1 dX5_setHeads_6 ?_
  refine C_X5_146 rfl (by decide) dX5_setHeads_7 sk_123 (Nat.le_of_ble_eq_true rfl) (Nat.le_of_eq (Nat.zero_add _)) (Nat.le_of_eq (Nat.zero_add _)) (fun _ _ hM' hT' => y_isFloor (t0_Mt hC) hf hM' hT') ?_
  refine j_if_ne (tgt := 19) dX5_setHeads_10 (by decide) (fun h10 => ?_) (fun h10 => ?_)
  · refine j_iload_n_2 dX5_setHeads_19 ?_
    refine j_iconst (v := nI 0) dX5_setHeads_20 nc_iconst_0 ?_
    refine j_bipush (v := nI 99) dX5_setHeads_21 nc_bipush_99 ?_
    refine C_X5_70 rfl (by decide) dX5_setHeads_23 (Nat.le_of_ble_eq_true rfl) (Nat.le_of_eq (Nat.zero_add _)) (Nat.le_of_eq (Nat.zero_add _)) (fun _ _ hM' hT' => y_isIn hM' hT') ?_
    refine j_top (y := nI 0) (by rw [inX_bad hx]; rfl) ?_
    refine j_if_eq (tgt := 42) dX5_setHeads_26 (by decide) (fun h26 => ?_) (fun h26 => ?_)
    · refine j_aload_n_0 dX5_setHeads_42 ?_
      refine j_iconst (v := nI 2) dX5_setHeads_43 nc_iconst_2 ?_
      refine C_X5_143 rfl (by decide) dX5_setHeads_44 sk_123 (Nat.le_of_ble_eq_true rfl) (Nat.le_of_eq (Nat.zero_add _)) (Nat.le_of_eq (Nat.zero_add _)) (fun _ _ hM' hT' => y_no hM' hT') ?_
      exact j_iret hM dX5_setHeads_47 rfl hT
    · exact absurd nI_0 h26
  · exact absurd h10 nI1_ne

set_option maxHeartbeats 4000000 in
set_option maxRecDepth 100000 in
theorem m_setStairs {sx : Nat → jv_S} {g : jv_G} {X : jv_X} {T : jv_T} {n : Nat} {V : Nat → Nat → Int32} {L : Nat → Nat → Int64} {k z : Nat} {N K R : Nat} (hC : Mt V N K R) {f : Nat} (hf : f + 1 < N) {x : Int32} (hA : ¬ x < nI 1) (hB : x ≤ nI 9) (hM : jv_M g X T) (hT : T (.inl (some (.int (V 126 f)))) n (SH sx) (jv_U (t0 V) 126 f x) L) : jv_J g X I_X5_setStairs 0 [some (jv_r g 123), some (.int (nI f)), some (.int x)] [] n (SH sx) V L k z := by
  obtain ⟨hN, hK, hR, hN2, hb, hK4, hR8, hEv⟩ := id hC
  obtain ⟨hN', hK', hR', -⟩ := t0_Mt hC
  refine j_aload_n_0 dX5_setStairs_0 ?_
  refine j_iconst (v := nI 0) dX5_setStairs_1 nc_iconst_0 ?_
  refine P_X5_63 rfl dX5_setStairs_2 sk_123 ?_
  refine j_aload_n_0 dX5_setStairs_5 ?_
  refine j_iload_n_1 dX5_setStairs_6 ?_
  refine C_X5_153 rfl (by decide) dX5_setStairs_7 sk_123 (Nat.le_of_ble_eq_true rfl) (Nat.le_of_eq (Nat.zero_add _)) (Nat.le_of_eq (Nat.zero_add _)) (fun _ _ hM' hT' => y_isStairs (t0_Mt hC) hf hM' hT') ?_
  refine j_if_ne (tgt := 19) dX5_setStairs_10 (by decide) (fun h10 => ?_) (fun h10 => ?_)
  · refine j_iload_n_2 dX5_setStairs_19 ?_
    refine j_iconst (v := nI 1) dX5_setStairs_20 nc_iconst_1 ?_
    refine j_bipush (v := nI 9) dX5_setStairs_21 nc_bipush_9 ?_
    refine C_X5_70 rfl (by decide) dX5_setStairs_23 (Nat.le_of_ble_eq_true rfl) (Nat.le_of_eq (Nat.zero_add _)) (Nat.le_of_eq (Nat.zero_add _)) (fun _ _ hM' hT' => y_isIn hM' hT') ?_
    refine j_top (y := nI 1) (by rw [inX_ok hA hB]; rfl) ?_
    refine j_if_eq (tgt := 42) dX5_setStairs_26 (by decide) (fun h26 => ?_) (fun h26 => ?_)
    · exact absurd h26 nI1_ne
    · refine j_aload_n_0 dX5_setStairs_29 ?_
      refine j_aload_n_0 dX5_setStairs_30 ?_
      refine G_X5_16 rfl dX5_setStairs_31 sk_123 sr_123_6 ?_
      refine j_iload_n_1 dX5_setStairs_34 ?_
      refine j_iload_n_2 dX5_setStairs_35 ?_
      refine C_X5_149 rfl (by decide) dX5_setStairs_36 sk_123 (Nat.le_of_ble_eq_true rfl) (Nat.le_of_eq (Nat.zero_add _)) (Nat.le_of_eq (Nat.zero_add _)) (fun _ _ hM' hT' => y_let sk_126 sn_126 (by omega) hM' hT') ?_
      refine j_top (y := V 126 f) (by rw [t0_out (by omega)]) ?_
      refine j_goto (tgt := 47) dX5_setStairs_39 (by decide) ?_
      exact j_iret hM dX5_setStairs_47 rfl hT
  · exact absurd h10 nI1_ne

set_option maxHeartbeats 4000000 in
set_option maxRecDepth 100000 in
theorem q_setStairs_0 {sx : Nat → jv_S} {g : jv_G} {X : jv_X} {T : jv_T} {n : Nat} {V : Nat → Nat → Int32} {L : Nat → Nat → Int64} {k z : Nat} {N K R : Nat} (hC : Mt V N K R) {f : Int32} {x : Int32} (hx : f < 0 ∨ nI (N - 1) ≤ f) (hM : jv_M g X T) (hT : T (.inl (some (.int (nI 0)))) n (SH sx) (t1 V 1) L) : jv_J g X I_X5_setStairs 0 [some (jv_r g 123), some (.int f), some (.int x)] [] n (SH sx) V L k z := by
  obtain ⟨hN, hK, hR, hN2, hb, hK4, hR8, hEv⟩ := id hC
  obtain ⟨hN', hK', hR', -⟩ := t0_Mt hC
  refine j_aload_n_0 dX5_setStairs_0 ?_
  refine j_iconst (v := nI 0) dX5_setStairs_1 nc_iconst_0 ?_
  refine P_X5_63 rfl dX5_setStairs_2 sk_123 ?_
  refine j_aload_n_0 dX5_setStairs_5 ?_
  refine j_iload_n_1 dX5_setStairs_6 ?_
  refine C_X5_153 rfl (by decide) dX5_setStairs_7 sk_123 (Nat.le_of_ble_eq_true rfl) (Nat.le_of_eq (Nat.zero_add _)) (Nat.le_of_eq (Nat.zero_add _)) (fun _ _ hM' hT' => n_isStairs (t0_Mt hC) hx hM' hT') ?_
  refine j_if_ne (tgt := 19) dX5_setStairs_10 (by decide) (fun h10 => ?_) (fun h10 => ?_)
  · exact absurd nI_0 h10
  · refine j_aload_n_0 dX5_setStairs_13 ?_
    refine j_iconst (v := nI 1) dX5_setStairs_14 nc_iconst_1 ?_
    refine C_X5_143 rfl (by decide) dX5_setStairs_15 sk_123 (Nat.le_of_ble_eq_true rfl) (Nat.le_of_eq (Nat.zero_add _)) (Nat.le_of_eq (Nat.zero_add _)) (fun _ _ hM' hT' => y_no hM' hT') ?_
    exact j_iret hM dX5_setStairs_18 rfl hT

set_option maxHeartbeats 4000000 in
set_option maxRecDepth 100000 in
theorem q_setStairs_1 {sx : Nat → jv_S} {g : jv_G} {X : jv_X} {T : jv_T} {n : Nat} {V : Nat → Nat → Int32} {L : Nat → Nat → Int64} {k z : Nat} {N K R : Nat} (hC : Mt V N K R) {f : Nat} (hf : f + 1 < N) {x : Int32} (hx : x < nI 1 ∨ nI 9 < x) (hM : jv_M g X T) (hT : T (.inl (some (.int (nI 0)))) n (SH sx) (t1 V 2) L) : jv_J g X I_X5_setStairs 0 [some (jv_r g 123), some (.int (nI f)), some (.int x)] [] n (SH sx) V L k z := by
  obtain ⟨hN, hK, hR, hN2, hb, hK4, hR8, hEv⟩ := id hC
  obtain ⟨hN', hK', hR', -⟩ := t0_Mt hC
  refine j_aload_n_0 dX5_setStairs_0 ?_
  refine j_iconst (v := nI 0) dX5_setStairs_1 nc_iconst_0 ?_
  refine P_X5_63 rfl dX5_setStairs_2 sk_123 ?_
  refine j_aload_n_0 dX5_setStairs_5 ?_
  refine j_iload_n_1 dX5_setStairs_6 ?_
  refine C_X5_153 rfl (by decide) dX5_setStairs_7 sk_123 (Nat.le_of_ble_eq_true rfl) (Nat.le_of_eq (Nat.zero_add _)) (Nat.le_of_eq (Nat.zero_add _)) (fun _ _ hM' hT' => y_isStairs (t0_Mt hC) hf hM' hT') ?_
  refine j_if_ne (tgt := 19) dX5_setStairs_10 (by decide) (fun h10 => ?_) (fun h10 => ?_)
  · refine j_iload_n_2 dX5_setStairs_19 ?_
    refine j_iconst (v := nI 1) dX5_setStairs_20 nc_iconst_1 ?_
    refine j_bipush (v := nI 9) dX5_setStairs_21 nc_bipush_9 ?_
    refine C_X5_70 rfl (by decide) dX5_setStairs_23 (Nat.le_of_ble_eq_true rfl) (Nat.le_of_eq (Nat.zero_add _)) (Nat.le_of_eq (Nat.zero_add _)) (fun _ _ hM' hT' => y_isIn hM' hT') ?_
    refine j_top (y := nI 0) (by rw [inX_bad hx]; rfl) ?_
    refine j_if_eq (tgt := 42) dX5_setStairs_26 (by decide) (fun h26 => ?_) (fun h26 => ?_)
    · refine j_aload_n_0 dX5_setStairs_42 ?_
      refine j_iconst (v := nI 2) dX5_setStairs_43 nc_iconst_2 ?_
      refine C_X5_143 rfl (by decide) dX5_setStairs_44 sk_123 (Nat.le_of_ble_eq_true rfl) (Nat.le_of_eq (Nat.zero_add _)) (Nat.le_of_eq (Nat.zero_add _)) (fun _ _ hM' hT' => y_no hM' hT') ?_
      exact j_iret hM dX5_setStairs_47 rfl hT
    · exact absurd nI_0 h26
  · exact absurd h10 nI1_ne

set_option maxHeartbeats 4000000 in
set_option maxRecDepth 100000 in
theorem m_turnStairs {sx : Nat → jv_S} {g : jv_G} {X : jv_X} {T : jv_T} {n : Nat} {V : Nat → Nat → Int32} {L : Nat → Nat → Int64} {k z : Nat} {N K R : Nat} (hC : Mt V N K R) {f : Nat} (hf : f + 1 < N)  (hM : jv_M g X T) (hT : T (.inl (some (.int (nb (V 127 f))))) n (SH sx) (jv_U (t0 V) 127 f (nb (V 127 f))) L) : jv_J g X I_X5_turnStairs 0 [some (jv_r g 123), some (.int (nI f))] [] n (SH sx) V L k z := by
  obtain ⟨hN, hK, hR, hN2, hb, hK4, hR8, hEv⟩ := id hC
  obtain ⟨hN', hK', hR', -⟩ := t0_Mt hC
  refine j_aload_n_0 dX5_turnStairs_0 ?_
  refine j_iconst (v := nI 0) dX5_turnStairs_1 nc_iconst_0 ?_
  refine P_X5_63 rfl dX5_turnStairs_2 sk_123 ?_
  refine j_aload_n_0 dX5_turnStairs_5 ?_
  refine j_iload_n_1 dX5_turnStairs_6 ?_
  refine C_X5_153 rfl (by decide) dX5_turnStairs_7 sk_123 (Nat.le_of_ble_eq_true rfl) (Nat.le_of_eq (Nat.zero_add _)) (Nat.le_of_eq (Nat.zero_add _)) (fun _ _ hM' hT' => y_isStairs (t0_Mt hC) hf hM' hT') ?_
  refine j_if_eq (tgt := 25) dX5_turnStairs_10 (by decide) (fun h10 => ?_) (fun h10 => ?_)
  · exact absurd h10 nI1_ne
  · refine j_aload_n_0 dX5_turnStairs_13 ?_
    refine j_aload_n_0 dX5_turnStairs_14 ?_
    refine G_X5_19 rfl dX5_turnStairs_15 sk_123 sr_123_7 ?_
    refine j_iload_n_1 dX5_turnStairs_18 ?_
    refine C_X5_156 rfl (by decide) dX5_turnStairs_19 sk_123 (Nat.le_of_ble_eq_true rfl) (Nat.le_of_eq (Nat.zero_add _)) (Nat.le_of_eq (Nat.zero_add _)) (fun _ _ hM' hT' => y_turned12 sk_127 sn_127 (by omega) hM' hT') ?_
    refine j_goto (tgt := 30) dX5_turnStairs_22 (by decide) ?_
    exact j_zret hM dX5_turnStairs_30 rfl (jv_b01 (nb01 _)) (by rw [← (congrFun (t0_out (V := V) (q := 127) (by omega)) f)] at hT; exact hT)

set_option maxHeartbeats 4000000 in
set_option maxRecDepth 100000 in
theorem q_turnStairs_0 {sx : Nat → jv_S} {g : jv_G} {X : jv_X} {T : jv_T} {n : Nat} {V : Nat → Nat → Int32} {L : Nat → Nat → Int64} {k z : Nat} {N K R : Nat} (hC : Mt V N K R) {f : Int32} (hx : f < 0 ∨ nI (N - 1) ≤ f) (hM : jv_M g X T) (hT : T (.inl (some (.int (nI 0)))) n (SH sx) (t1 V 1) L) : jv_J g X I_X5_turnStairs 0 [some (jv_r g 123), some (.int f)] [] n (SH sx) V L k z := by
  obtain ⟨hN, hK, hR, hN2, hb, hK4, hR8, hEv⟩ := id hC
  obtain ⟨hN', hK', hR', -⟩ := t0_Mt hC
  refine j_aload_n_0 dX5_turnStairs_0 ?_
  refine j_iconst (v := nI 0) dX5_turnStairs_1 nc_iconst_0 ?_
  refine P_X5_63 rfl dX5_turnStairs_2 sk_123 ?_
  refine j_aload_n_0 dX5_turnStairs_5 ?_
  refine j_iload_n_1 dX5_turnStairs_6 ?_
  refine C_X5_153 rfl (by decide) dX5_turnStairs_7 sk_123 (Nat.le_of_ble_eq_true rfl) (Nat.le_of_eq (Nat.zero_add _)) (Nat.le_of_eq (Nat.zero_add _)) (fun _ _ hM' hT' => n_isStairs (t0_Mt hC) hx hM' hT') ?_
  refine j_if_eq (tgt := 25) dX5_turnStairs_10 (by decide) (fun h10 => ?_) (fun h10 => ?_)
  · refine j_aload_n_0 dX5_turnStairs_25 ?_
    refine j_iconst (v := nI 1) dX5_turnStairs_26 nc_iconst_1 ?_
    refine C_X5_160 rfl (by decide) dX5_turnStairs_27 sk_123 (Nat.le_of_ble_eq_true rfl) (Nat.le_of_eq (Nat.zero_add _)) (Nat.le_of_eq (Nat.zero_add _)) (fun _ _ hM' hT' => y_isNot hM' hT') ?_
    exact j_zret hM dX5_turnStairs_30 rfl (jv_b01 nI01a) hT
  · exact absurd nI_0 h10

set_option maxHeartbeats 4000000 in
set_option maxRecDepth 100000 in
theorem m_turnLift {sx : Nat → jv_S} {g : jv_G} {X : jv_X} {T : jv_T} {n : Nat} {V : Nat → Nat → Int32} {L : Nat → Nat → Int64} {k z : Nat} {N K R : Nat} (hC : Mt V N K R) {l : Nat} (hl : l < K)  (hM : jv_M g X T) (hT : T (.inl (some (.int (nb (V 132 l))))) n (SH sx) (jv_U (t0 V) 132 l (nb (V 132 l))) L) : jv_J g X I_X5_turnLift 0 [some (jv_r g 123), some (.int (nI l))] [] n (SH sx) V L k z := by
  obtain ⟨hN, hK, hR, hN2, hb, hK4, hR8, hEv⟩ := id hC
  obtain ⟨hN', hK', hR', -⟩ := t0_Mt hC
  refine j_aload_n_0 dX5_turnLift_0 ?_
  refine j_iconst (v := nI 0) dX5_turnLift_1 nc_iconst_0 ?_
  refine P_X5_63 rfl dX5_turnLift_2 sk_123 ?_
  refine j_aload_n_0 dX5_turnLift_5 ?_
  refine j_iload_n_1 dX5_turnLift_6 ?_
  refine C_X5_163 rfl (by decide) dX5_turnLift_7 sk_123 (Nat.le_of_ble_eq_true rfl) (Nat.le_of_eq (Nat.zero_add _)) (Nat.le_of_eq (Nat.zero_add _)) (fun _ _ hM' hT' => y_isLift (t0_Mt hC) hl hM' hT') ?_
  refine j_if_eq (tgt := 25) dX5_turnLift_10 (by decide) (fun h10 => ?_) (fun h10 => ?_)
  · exact absurd h10 nI1_ne
  · refine j_aload_n_0 dX5_turnLift_13 ?_
    refine j_aload_n_0 dX5_turnLift_14 ?_
    refine G_X5_35 rfl dX5_turnLift_15 sk_123 sr_123_12 ?_
    refine j_iload_n_1 dX5_turnLift_18 ?_
    refine C_X5_156 rfl (by decide) dX5_turnLift_19 sk_123 (Nat.le_of_ble_eq_true rfl) (Nat.le_of_eq (Nat.zero_add _)) (Nat.le_of_eq (Nat.zero_add _)) (fun _ _ hM' hT' => y_turned4 sk_132 sn_132 (by omega) hM' hT') ?_
    refine j_goto (tgt := 30) dX5_turnLift_22 (by decide) ?_
    exact j_zret hM dX5_turnLift_30 rfl (jv_b01 (nb01 _)) (by rw [← (congrFun (t0_out (V := V) (q := 132) (by omega)) l)] at hT; exact hT)

set_option maxHeartbeats 4000000 in
set_option maxRecDepth 100000 in
theorem q_turnLift_0 {sx : Nat → jv_S} {g : jv_G} {X : jv_X} {T : jv_T} {n : Nat} {V : Nat → Nat → Int32} {L : Nat → Nat → Int64} {k z : Nat} {N K R : Nat} (hC : Mt V N K R) {l : Int32} (hx : l < 0 ∨ nI K ≤ l) (hM : jv_M g X T) (hT : T (.inl (some (.int (nI 0)))) n (SH sx) (t1 V 1) L) : jv_J g X I_X5_turnLift 0 [some (jv_r g 123), some (.int l)] [] n (SH sx) V L k z := by
  obtain ⟨hN, hK, hR, hN2, hb, hK4, hR8, hEv⟩ := id hC
  obtain ⟨hN', hK', hR', -⟩ := t0_Mt hC
  refine j_aload_n_0 dX5_turnLift_0 ?_
  refine j_iconst (v := nI 0) dX5_turnLift_1 nc_iconst_0 ?_
  refine P_X5_63 rfl dX5_turnLift_2 sk_123 ?_
  refine j_aload_n_0 dX5_turnLift_5 ?_
  refine j_iload_n_1 dX5_turnLift_6 ?_
  refine C_X5_163 rfl (by decide) dX5_turnLift_7 sk_123 (Nat.le_of_ble_eq_true rfl) (Nat.le_of_eq (Nat.zero_add _)) (Nat.le_of_eq (Nat.zero_add _)) (fun _ _ hM' hT' => n_isLift (t0_Mt hC) hx hM' hT') ?_
  refine j_if_eq (tgt := 25) dX5_turnLift_10 (by decide) (fun h10 => ?_) (fun h10 => ?_)
  · refine j_aload_n_0 dX5_turnLift_25 ?_
    refine j_iconst (v := nI 1) dX5_turnLift_26 nc_iconst_1 ?_
    refine C_X5_160 rfl (by decide) dX5_turnLift_27 sk_123 (Nat.le_of_ble_eq_true rfl) (Nat.le_of_eq (Nat.zero_add _)) (Nat.le_of_eq (Nat.zero_add _)) (fun _ _ hM' hT' => y_isNot hM' hT') ?_
    exact j_zret hM dX5_turnLift_30 rfl (jv_b01 nI01a) hT
  · exact absurd nI_0 h10

def adM (V : (Nat → Nat → Int32)) (K lo hi ev : Nat) (w : Int32) : (Nat → Nat → Int32) := jv_U (jv_U (jv_U (jv_U (jv_U (jv_U V 128 K (nI lo)) 129 K (nI hi)) 130 K (nI ev)) 131 K w) 132 K (nI 1)) 123 2 (nI (K + 1))

set_option maxHeartbeats 4000000 in
set_option maxRecDepth 100000 in
theorem q_addLift_0 {sx : Nat → jv_S} {g : jv_G} {X : jv_X} {T : jv_T} {n : Nat} {V : Nat → Nat → Int32} {L : Nat → Nat → Int64} {k z : Nat} {N K R : Nat} (hC : Mt V N K R) {lo : Int32} {hi : Int32} {ev : Int32} {w : Int32} (hx : lo < 0 ∨ nI N ≤ lo) (hM : jv_M g X T) (hT : T (.inl (some (.int (nI 0)))) n (SH sx) (t1 V 1) L) : jv_J g X I_X5_addLift 0 [some (jv_r g 123), some (.int lo), some (.int hi), some (.int ev), some (.int w)] [] n (SH sx) V L k z := by
  obtain ⟨hN, hK, hR, hN2, hb, hK4, hR8, hEv⟩ := id hC
  obtain ⟨hN', hK', hR', -⟩ := t0_Mt hC
  refine j_aload_n_0 dX5_addLift_0 ?_
  refine j_iconst (v := nI 0) dX5_addLift_1 nc_iconst_0 ?_
  refine P_X5_63 rfl dX5_addLift_2 sk_123 ?_
  refine j_aload_n_0 dX5_addLift_5 ?_
  refine j_iload_n_1 dX5_addLift_6 ?_
  refine C_X5_146 rfl (by decide) dX5_addLift_7 sk_123 (Nat.le_of_ble_eq_true rfl) (Nat.le_of_eq (Nat.zero_add _)) (Nat.le_of_eq (Nat.zero_add _)) (fun _ _ hM' hT' => n_isFloor (t0_Mt hC) hx hM' hT') ?_
  refine j_if_eq (tgt := 21) dX5_addLift_10 (by decide) (fun h10 => ?_) (fun h10 => ?_)
  · refine j_aload_n_0 dX5_addLift_21 ?_
    refine j_iconst (v := nI 1) dX5_addLift_22 nc_iconst_1 ?_
    refine C_X5_143 rfl (by decide) dX5_addLift_23 sk_123 (Nat.le_of_ble_eq_true rfl) (Nat.le_of_eq (Nat.zero_add _)) (Nat.le_of_eq (Nat.zero_add _)) (fun _ _ hM' hT' => y_no hM' hT') ?_
    exact j_iret hM dX5_addLift_26 rfl hT
  · exact absurd nI_0 h10

set_option maxHeartbeats 4000000 in
set_option maxRecDepth 100000 in
theorem q_addLift_1 {sx : Nat → jv_S} {g : jv_G} {X : jv_X} {T : jv_T} {n : Nat} {V : Nat → Nat → Int32} {L : Nat → Nat → Int64} {k z : Nat} {N K R : Nat} (hC : Mt V N K R) {lo : Nat} {hi : Int32} {ev : Int32} {w : Int32} (hlo : lo < N) (hx : hi < 0 ∨ nI N ≤ hi) (hM : jv_M g X T) (hT : T (.inl (some (.int (nI 0)))) n (SH sx) (t1 V 1) L) : jv_J g X I_X5_addLift 0 [some (jv_r g 123), some (.int (nI lo)), some (.int hi), some (.int ev), some (.int w)] [] n (SH sx) V L k z := by
  obtain ⟨hN, hK, hR, hN2, hb, hK4, hR8, hEv⟩ := id hC
  obtain ⟨hN', hK', hR', -⟩ := t0_Mt hC
  refine j_aload_n_0 dX5_addLift_0 ?_
  refine j_iconst (v := nI 0) dX5_addLift_1 nc_iconst_0 ?_
  refine P_X5_63 rfl dX5_addLift_2 sk_123 ?_
  refine j_aload_n_0 dX5_addLift_5 ?_
  refine j_iload_n_1 dX5_addLift_6 ?_
  refine C_X5_146 rfl (by decide) dX5_addLift_7 sk_123 (Nat.le_of_ble_eq_true rfl) (Nat.le_of_eq (Nat.zero_add _)) (Nat.le_of_eq (Nat.zero_add _)) (fun _ _ hM' hT' => y_isFloor (t0_Mt hC) hlo hM' hT') ?_
  refine j_if_eq (tgt := 21) dX5_addLift_10 (by decide) (fun h10 => ?_) (fun h10 => ?_)
  · exact absurd h10 nI1_ne
  · refine j_aload_n_0 dX5_addLift_13 ?_
    refine j_iload_n_2 dX5_addLift_14 ?_
    refine C_X5_146 rfl (by decide) dX5_addLift_15 sk_123 (Nat.le_of_ble_eq_true rfl) (Nat.le_of_eq (Nat.zero_add _)) (Nat.le_of_eq (Nat.zero_add _)) (fun _ _ hM' hT' => n_isFloor (t0_Mt hC) hx hM' hT') ?_
    refine j_if_ne (tgt := 27) dX5_addLift_18 (by decide) (fun h18 => ?_) (fun h18 => ?_)
    · exact absurd nI_0 h18
    · refine j_aload_n_0 dX5_addLift_21 ?_
      refine j_iconst (v := nI 1) dX5_addLift_22 nc_iconst_1 ?_
      refine C_X5_143 rfl (by decide) dX5_addLift_23 sk_123 (Nat.le_of_ble_eq_true rfl) (Nat.le_of_eq (Nat.zero_add _)) (Nat.le_of_eq (Nat.zero_add _)) (fun _ _ hM' hT' => y_no hM' hT') ?_
      exact j_iret hM dX5_addLift_26 rfl hT

set_option maxHeartbeats 4000000 in
set_option maxRecDepth 100000 in
theorem q_addLift_2 {sx : Nat → jv_S} {g : jv_G} {X : jv_X} {T : jv_T} {n : Nat} {V : Nat → Nat → Int32} {L : Nat → Nat → Int64} {k z : Nat} {N K R : Nat} (hC : Mt V N K R) {lo : Nat} {hi : Nat} {ev : Int32} {w : Int32} (hlo : lo < N) (hhi : hi < N) (hx : hi ≤ lo ∨ ev < nI 1 ∨ nI hi - nI lo < ev) (hM : jv_M g X T) (hT : T (.inl (some (.int (nI 0)))) n (SH sx) (t1 V 2) L) : jv_J g X I_X5_addLift 0 [some (jv_r g 123), some (.int (nI lo)), some (.int (nI hi)), some (.int ev), some (.int w)] [] n (SH sx) V L k z := by
  obtain ⟨hN, hK, hR, hN2, hb, hK4, hR8, hEv⟩ := id hC
  obtain ⟨hN', hK', hR', -⟩ := t0_Mt hC
  refine j_aload_n_0 dX5_addLift_0 ?_
  refine j_iconst (v := nI 0) dX5_addLift_1 nc_iconst_0 ?_
  refine P_X5_63 rfl dX5_addLift_2 sk_123 ?_
  refine j_aload_n_0 dX5_addLift_5 ?_
  refine j_iload_n_1 dX5_addLift_6 ?_
  refine C_X5_146 rfl (by decide) dX5_addLift_7 sk_123 (Nat.le_of_ble_eq_true rfl) (Nat.le_of_eq (Nat.zero_add _)) (Nat.le_of_eq (Nat.zero_add _)) (fun _ _ hM' hT' => y_isFloor (t0_Mt hC) hlo hM' hT') ?_
  refine j_if_eq (tgt := 21) dX5_addLift_10 (by decide) (fun h10 => ?_) (fun h10 => ?_)
  · exact absurd h10 nI1_ne
  · refine j_aload_n_0 dX5_addLift_13 ?_
    refine j_iload_n_2 dX5_addLift_14 ?_
    refine C_X5_146 rfl (by decide) dX5_addLift_15 sk_123 (Nat.le_of_ble_eq_true rfl) (Nat.le_of_eq (Nat.zero_add _)) (Nat.le_of_eq (Nat.zero_add _)) (fun _ _ hM' hT' => y_isFloor (t0_Mt hC) hhi hM' hT') ?_
    refine j_if_ne (tgt := 27) dX5_addLift_18 (by decide) (fun h18 => ?_) (fun h18 => ?_)
    · refine j_iload_n_1 dX5_addLift_27 ?_
      refine j_iload_n_2 dX5_addLift_28 ?_
      refine j_ic_geN (by omega) (by omega) (tgt := 54) dX5_addLift_29 (by decide) (fun h29 => ?_) (fun h29 => ?_)
      · refine j_aload_n_0 dX5_addLift_54 ?_
        refine j_iconst (v := nI 2) dX5_addLift_55 nc_iconst_2 ?_
        refine C_X5_143 rfl (by decide) dX5_addLift_56 sk_123 (Nat.le_of_ble_eq_true rfl) (Nat.le_of_eq (Nat.zero_add _)) (Nat.le_of_eq (Nat.zero_add _)) (fun _ _ hM' hT' => y_no hM' hT') ?_
        exact j_iret hM dX5_addLift_59 rfl hT
      · refine j_iload_n_3 dX5_addLift_32 ?_
        refine j_iconst (v := nI 1) dX5_addLift_33 nc_iconst_1 ?_
        refine j_iload_n_2 dX5_addLift_34 ?_
        refine j_iload_n_1 dX5_addLift_35 ?_
        refine j_isub dX5_addLift_36 ?_
        refine C_X5_70 rfl (by decide) dX5_addLift_37 (Nat.le_of_ble_eq_true rfl) (Nat.le_of_eq (Nat.zero_add _)) (Nat.le_of_eq (Nat.zero_add _)) (fun _ _ hM' hT' => y_isIn hM' hT') ?_
        refine j_top (y := nI 0) (by rw [inX_bad (hx.resolve_left (by omega))]; rfl) ?_
        refine j_if_eq (tgt := 54) dX5_addLift_40 (by decide) (fun h40 => ?_) (fun h40 => ?_)
        · refine j_aload_n_0 dX5_addLift_54 ?_
          refine j_iconst (v := nI 2) dX5_addLift_55 nc_iconst_2 ?_
          refine C_X5_143 rfl (by decide) dX5_addLift_56 sk_123 (Nat.le_of_ble_eq_true rfl) (Nat.le_of_eq (Nat.zero_add _)) (Nat.le_of_eq (Nat.zero_add _)) (fun _ _ hM' hT' => y_no hM' hT') ?_
          exact j_iret hM dX5_addLift_59 rfl hT
        · exact absurd nI_0 h40
    · exact absurd h18 nI1_ne

set_option maxHeartbeats 4000000 in
set_option maxRecDepth 100000 in
theorem q_addLift_3 {sx : Nat → jv_S} {g : jv_G} {X : jv_X} {T : jv_T} {n : Nat} {V : Nat → Nat → Int32} {L : Nat → Nat → Int64} {k z : Nat} {N K R : Nat} (hC : Mt V N K R) {lo : Nat} {hi : Nat} {ev : Nat} {w : Int32} (hlo : lo < N) (hhi : hi < N) (hl : lo < hi) (he : 1 ≤ ev) (hev : ev ≤ hi - lo) (hx : w < nI 1 ∨ nI 9 < w) (hM : jv_M g X T) (hT : T (.inl (some (.int (nI 0)))) n (SH sx) (t1 V 2) L) : jv_J g X I_X5_addLift 0 [some (jv_r g 123), some (.int (nI lo)), some (.int (nI hi)), some (.int (nI ev)), some (.int w)] [] n (SH sx) V L k z := by
  obtain ⟨hN, hK, hR, hN2, hb, hK4, hR8, hEv⟩ := id hC
  obtain ⟨hN', hK', hR', -⟩ := t0_Mt hC
  refine j_aload_n_0 dX5_addLift_0 ?_
  refine j_iconst (v := nI 0) dX5_addLift_1 nc_iconst_0 ?_
  refine P_X5_63 rfl dX5_addLift_2 sk_123 ?_
  refine j_aload_n_0 dX5_addLift_5 ?_
  refine j_iload_n_1 dX5_addLift_6 ?_
  refine C_X5_146 rfl (by decide) dX5_addLift_7 sk_123 (Nat.le_of_ble_eq_true rfl) (Nat.le_of_eq (Nat.zero_add _)) (Nat.le_of_eq (Nat.zero_add _)) (fun _ _ hM' hT' => y_isFloor (t0_Mt hC) hlo hM' hT') ?_
  refine j_if_eq (tgt := 21) dX5_addLift_10 (by decide) (fun h10 => ?_) (fun h10 => ?_)
  · exact absurd h10 nI1_ne
  · refine j_aload_n_0 dX5_addLift_13 ?_
    refine j_iload_n_2 dX5_addLift_14 ?_
    refine C_X5_146 rfl (by decide) dX5_addLift_15 sk_123 (Nat.le_of_ble_eq_true rfl) (Nat.le_of_eq (Nat.zero_add _)) (Nat.le_of_eq (Nat.zero_add _)) (fun _ _ hM' hT' => y_isFloor (t0_Mt hC) hhi hM' hT') ?_
    refine j_if_ne (tgt := 27) dX5_addLift_18 (by decide) (fun h18 => ?_) (fun h18 => ?_)
    · refine j_iload_n_1 dX5_addLift_27 ?_
      refine j_iload_n_2 dX5_addLift_28 ?_
      refine j_ic_geN (by omega) (by omega) (tgt := 54) dX5_addLift_29 (by decide) (fun h29 => ?_) (fun h29 => ?_)
      · exact absurd h29 (by omega)
      · refine j_iload_n_3 dX5_addLift_32 ?_
        refine j_iconst (v := nI 1) dX5_addLift_33 nc_iconst_1 ?_
        refine j_iload_n_2 dX5_addLift_34 ?_
        refine j_iload_n_1 dX5_addLift_35 ?_
        refine j_isubN (by omega) dX5_addLift_36 ?_
        refine C_X5_70 rfl (by decide) dX5_addLift_37 (Nat.le_of_ble_eq_true rfl) (Nat.le_of_eq (Nat.zero_add _)) (Nat.le_of_eq (Nat.zero_add _)) (fun _ _ hM' hT' => y_isIn hM' hT') ?_
        refine j_top (y := nI 1) (by rw [inN_ok he hev (by omega)]; rfl) ?_
        refine j_if_eq (tgt := 54) dX5_addLift_40 (by decide) (fun h40 => ?_) (fun h40 => ?_)
        · exact absurd h40 nI1_ne
        · refine j_iload_4 dX5_addLift_43 ?_
          refine j_iconst (v := nI 1) dX5_addLift_45 nc_iconst_1 ?_
          refine j_bipush (v := nI 9) dX5_addLift_46 nc_bipush_9 ?_
          refine C_X5_70 rfl (by decide) dX5_addLift_48 (Nat.le_of_ble_eq_true rfl) (Nat.le_of_eq (Nat.zero_add _)) (Nat.le_of_eq (Nat.zero_add _)) (fun _ _ hM' hT' => y_isIn hM' hT') ?_
          refine j_top (y := nI 0) (by rw [inX_bad hx]; rfl) ?_
          refine j_if_ne (tgt := 60) dX5_addLift_51 (by decide) (fun h51 => ?_) (fun h51 => ?_)
          · exact absurd nI_0 h51
          · refine j_aload_n_0 dX5_addLift_54 ?_
            refine j_iconst (v := nI 2) dX5_addLift_55 nc_iconst_2 ?_
            refine C_X5_143 rfl (by decide) dX5_addLift_56 sk_123 (Nat.le_of_ble_eq_true rfl) (Nat.le_of_eq (Nat.zero_add _)) (Nat.le_of_eq (Nat.zero_add _)) (fun _ _ hM' hT' => y_no hM' hT') ?_
            exact j_iret hM dX5_addLift_59 rfl hT
    · exact absurd h18 nI1_ne

set_option maxHeartbeats 4000000 in
set_option maxRecDepth 100000 in
theorem q_addLift_4 {sx : Nat → jv_S} {g : jv_G} {X : jv_X} {T : jv_T} {n : Nat} {V : Nat → Nat → Int32} {L : Nat → Nat → Int64} {k z : Nat} {N K R : Nat} (hC : Mt V N K R) {lo : Nat} {hi : Nat} {ev : Nat} {w : Int32} (hlo : lo < N) (hhi : hi < N) (hl : lo < hi) (he : 1 ≤ ev) (hev : ev ≤ hi - lo) (hA : ¬ w < nI 1) (hB : w ≤ nI 9) (hK3 : 4 ≤ K) (hM : jv_M g X T) (hT : T (.inl (some (.int (nI 0)))) n (SH sx) (t1 V 3) L) : jv_J g X I_X5_addLift 0 [some (jv_r g 123), some (.int (nI lo)), some (.int (nI hi)), some (.int (nI ev)), some (.int w)] [] n (SH sx) V L k z := by
  obtain ⟨hN, hK, hR, hN2, hb, hK4, hR8, hEv⟩ := id hC
  obtain ⟨hN', hK', hR', -⟩ := t0_Mt hC
  refine j_aload_n_0 dX5_addLift_0 ?_
  refine j_iconst (v := nI 0) dX5_addLift_1 nc_iconst_0 ?_
  refine P_X5_63 rfl dX5_addLift_2 sk_123 ?_
  refine j_aload_n_0 dX5_addLift_5 ?_
  refine j_iload_n_1 dX5_addLift_6 ?_
  refine C_X5_146 rfl (by decide) dX5_addLift_7 sk_123 (Nat.le_of_ble_eq_true rfl) (Nat.le_of_eq (Nat.zero_add _)) (Nat.le_of_eq (Nat.zero_add _)) (fun _ _ hM' hT' => y_isFloor (t0_Mt hC) hlo hM' hT') ?_
  refine j_if_eq (tgt := 21) dX5_addLift_10 (by decide) (fun h10 => ?_) (fun h10 => ?_)
  · exact absurd h10 nI1_ne
  · refine j_aload_n_0 dX5_addLift_13 ?_
    refine j_iload_n_2 dX5_addLift_14 ?_
    refine C_X5_146 rfl (by decide) dX5_addLift_15 sk_123 (Nat.le_of_ble_eq_true rfl) (Nat.le_of_eq (Nat.zero_add _)) (Nat.le_of_eq (Nat.zero_add _)) (fun _ _ hM' hT' => y_isFloor (t0_Mt hC) hhi hM' hT') ?_
    refine j_if_ne (tgt := 27) dX5_addLift_18 (by decide) (fun h18 => ?_) (fun h18 => ?_)
    · refine j_iload_n_1 dX5_addLift_27 ?_
      refine j_iload_n_2 dX5_addLift_28 ?_
      refine j_ic_geN (by omega) (by omega) (tgt := 54) dX5_addLift_29 (by decide) (fun h29 => ?_) (fun h29 => ?_)
      · exact absurd h29 (by omega)
      · refine j_iload_n_3 dX5_addLift_32 ?_
        refine j_iconst (v := nI 1) dX5_addLift_33 nc_iconst_1 ?_
        refine j_iload_n_2 dX5_addLift_34 ?_
        refine j_iload_n_1 dX5_addLift_35 ?_
        refine j_isubN (by omega) dX5_addLift_36 ?_
        refine C_X5_70 rfl (by decide) dX5_addLift_37 (Nat.le_of_ble_eq_true rfl) (Nat.le_of_eq (Nat.zero_add _)) (Nat.le_of_eq (Nat.zero_add _)) (fun _ _ hM' hT' => y_isIn hM' hT') ?_
        refine j_top (y := nI 1) (by rw [inN_ok he hev (by omega)]; rfl) ?_
        refine j_if_eq (tgt := 54) dX5_addLift_40 (by decide) (fun h40 => ?_) (fun h40 => ?_)
        · exact absurd h40 nI1_ne
        · refine j_iload_4 dX5_addLift_43 ?_
          refine j_iconst (v := nI 1) dX5_addLift_45 nc_iconst_1 ?_
          refine j_bipush (v := nI 9) dX5_addLift_46 nc_bipush_9 ?_
          refine C_X5_70 rfl (by decide) dX5_addLift_48 (Nat.le_of_ble_eq_true rfl) (Nat.le_of_eq (Nat.zero_add _)) (Nat.le_of_eq (Nat.zero_add _)) (fun _ _ hM' hT' => y_isIn hM' hT') ?_
          refine j_top (y := nI 1) (by rw [inX_ok hA hB]; rfl) ?_
          refine j_if_ne (tgt := 60) dX5_addLift_51 (by decide) (fun h51 => ?_) (fun h51 => ?_)
          · refine j_aload_n_0 dX5_addLift_60 ?_
            refine G_X5_74 rfl dX5_addLift_61 sk_123 ?_
            refine j_top (y := nI K) hK' ?_
            refine j_iconst (v := nI 4) dX5_addLift_64 nc_iconst_4 ?_
            refine j_ic_neN (by omega) (by omega) (tgt := 74) dX5_addLift_65 (by decide) (fun h65 => ?_) (fun h65 => ?_)
            · exact absurd (show K = 4 by omega) h65
            · refine j_aload_n_0 dX5_addLift_68 ?_
              refine j_iconst (v := nI 3) dX5_addLift_69 nc_iconst_3 ?_
              refine C_X5_143 rfl (by decide) dX5_addLift_70 sk_123 (Nat.le_of_ble_eq_true rfl) (Nat.le_of_eq (Nat.zero_add _)) (Nat.le_of_eq (Nat.zero_add _)) (fun _ _ hM' hT' => y_no hM' hT') ?_
              exact j_iret hM dX5_addLift_73 rfl hT
          · exact absurd h51 nI1_ne
    · exact absurd h18 nI1_ne

set_option maxHeartbeats 4000000 in
set_option maxRecDepth 100000 in
theorem m_addLift {sx : Nat → jv_S} {g : jv_G} {X : jv_X} {T : jv_T} {n : Nat} {V : Nat → Nat → Int32} {L : Nat → Nat → Int64} {k z : Nat} {N K R : Nat} (hC : Mt V N K R) {lo hi ev : Nat} {w : Int32} (hlo : lo < N) (hhi : hi < N) (hl : lo < hi) (he : 1 ≤ ev) (hev : ev ≤ hi - lo) (hA : ¬ w < nI 1) (hB : w ≤ nI 9) (hK3 : K < 4) (hM : jv_M g X T) (hT : T (.inl (some (.int (nI (K + 1 - 1))))) n (SH sx) (adM (t0 V) K lo hi ev w) L) : jv_J g X I_X5_addLift 0 [some (jv_r g 123), some (.int (nI lo)), some (.int (nI hi)), some (.int (nI ev)), some (.int w)] [] n (SH sx) V L k z := by
  obtain ⟨hN, hK, hR, hN2, hb, hK4, hR8, hEv⟩ := id hC
  obtain ⟨hN', hK', hR', -⟩ := t0_Mt hC
  refine j_aload_n_0 dX5_addLift_0 ?_
  refine j_iconst (v := nI 0) dX5_addLift_1 nc_iconst_0 ?_
  refine P_X5_63 rfl dX5_addLift_2 sk_123 ?_
  refine j_aload_n_0 dX5_addLift_5 ?_
  refine j_iload_n_1 dX5_addLift_6 ?_
  refine C_X5_146 rfl (by decide) dX5_addLift_7 sk_123 (Nat.le_of_ble_eq_true rfl) (Nat.le_of_eq (Nat.zero_add _)) (Nat.le_of_eq (Nat.zero_add _)) (fun _ _ hM' hT' => y_isFloor (t0_Mt hC) hlo hM' hT') ?_
  refine j_if_eq (tgt := 21) dX5_addLift_10 (by decide) (fun h10 => ?_) (fun h10 => ?_)
  · exact absurd h10 nI1_ne
  · refine j_aload_n_0 dX5_addLift_13 ?_
    refine j_iload_n_2 dX5_addLift_14 ?_
    refine C_X5_146 rfl (by decide) dX5_addLift_15 sk_123 (Nat.le_of_ble_eq_true rfl) (Nat.le_of_eq (Nat.zero_add _)) (Nat.le_of_eq (Nat.zero_add _)) (fun _ _ hM' hT' => y_isFloor (t0_Mt hC) hhi hM' hT') ?_
    refine j_if_ne (tgt := 27) dX5_addLift_18 (by decide) (fun h18 => ?_) (fun h18 => ?_)
    · refine j_iload_n_1 dX5_addLift_27 ?_
      refine j_iload_n_2 dX5_addLift_28 ?_
      refine j_ic_geN (by omega) (by omega) (tgt := 54) dX5_addLift_29 (by decide) (fun h29 => ?_) (fun h29 => ?_)
      · exact absurd h29 (by omega)
      · refine j_iload_n_3 dX5_addLift_32 ?_
        refine j_iconst (v := nI 1) dX5_addLift_33 nc_iconst_1 ?_
        refine j_iload_n_2 dX5_addLift_34 ?_
        refine j_iload_n_1 dX5_addLift_35 ?_
        refine j_isubN (by omega) dX5_addLift_36 ?_
        refine C_X5_70 rfl (by decide) dX5_addLift_37 (Nat.le_of_ble_eq_true rfl) (Nat.le_of_eq (Nat.zero_add _)) (Nat.le_of_eq (Nat.zero_add _)) (fun _ _ hM' hT' => y_isIn hM' hT') ?_
        refine j_top (y := nI 1) (by rw [inN_ok he hev (by omega)]; rfl) ?_
        refine j_if_eq (tgt := 54) dX5_addLift_40 (by decide) (fun h40 => ?_) (fun h40 => ?_)
        · exact absurd h40 nI1_ne
        · refine j_iload_4 dX5_addLift_43 ?_
          refine j_iconst (v := nI 1) dX5_addLift_45 nc_iconst_1 ?_
          refine j_bipush (v := nI 9) dX5_addLift_46 nc_bipush_9 ?_
          refine C_X5_70 rfl (by decide) dX5_addLift_48 (Nat.le_of_ble_eq_true rfl) (Nat.le_of_eq (Nat.zero_add _)) (Nat.le_of_eq (Nat.zero_add _)) (fun _ _ hM' hT' => y_isIn hM' hT') ?_
          refine j_top (y := nI 1) (by rw [inX_ok hA hB]; rfl) ?_
          refine j_if_ne (tgt := 60) dX5_addLift_51 (by decide) (fun h51 => ?_) (fun h51 => ?_)
          · refine j_aload_n_0 dX5_addLift_60 ?_
            refine G_X5_74 rfl dX5_addLift_61 sk_123 ?_
            refine j_top (y := nI K) (by first | exact hK' | (rw [jv_Une (by omega)]; exact hK') | (rw [jv_Une (by omega), jv_Une (by omega)]; exact hK') | (rw [jv_Une (by omega), jv_Une (by omega), jv_Une (by omega)]; exact hK') | (rw [jv_Une (by omega), jv_Une (by omega), jv_Une (by omega), jv_Une (by omega)]; exact hK') | (rw [jv_Une (by omega), jv_Une (by omega), jv_Une (by omega), jv_Une (by omega), jv_Une (by omega)]; exact hK')) ?_
            refine j_iconst (v := nI 4) dX5_addLift_64 nc_iconst_4 ?_
            refine j_ic_neN (by omega) (by omega) (tgt := 74) dX5_addLift_65 (by decide) (fun h65 => ?_) (fun h65 => ?_)
            · refine j_aload_n_0 dX5_addLift_74 ?_
              refine G_X5_23 rfl dX5_addLift_75 sk_123 sr_123_8 ?_
              refine j_aload_n_0 dX5_addLift_78 ?_
              refine G_X5_74 rfl dX5_addLift_79 sk_123 ?_
              refine j_top (y := nI K) (by first | exact hK' | (rw [jv_Une (by omega)]; exact hK') | (rw [jv_Une (by omega), jv_Une (by omega)]; exact hK') | (rw [jv_Une (by omega), jv_Une (by omega), jv_Une (by omega)]; exact hK') | (rw [jv_Une (by omega), jv_Une (by omega), jv_Une (by omega), jv_Une (by omega)]; exact hK') | (rw [jv_Une (by omega), jv_Une (by omega), jv_Une (by omega), jv_Une (by omega), jv_Une (by omega)]; exact hK')) ?_
              refine j_iload_n_1 dX5_addLift_82 ?_
              refine j_iast dX5_addLift_83 sk_128 sn_128 (by omega) (by decide) ?_
              refine j_aload_n_0 dX5_addLift_84 ?_
              refine G_X5_26 rfl dX5_addLift_85 sk_123 sr_123_9 ?_
              refine j_aload_n_0 dX5_addLift_88 ?_
              refine G_X5_74 rfl dX5_addLift_89 sk_123 ?_
              refine j_top (y := nI K) (by first | exact hK' | (rw [jv_Une (by omega)]; exact hK') | (rw [jv_Une (by omega), jv_Une (by omega)]; exact hK') | (rw [jv_Une (by omega), jv_Une (by omega), jv_Une (by omega)]; exact hK') | (rw [jv_Une (by omega), jv_Une (by omega), jv_Une (by omega), jv_Une (by omega)]; exact hK') | (rw [jv_Une (by omega), jv_Une (by omega), jv_Une (by omega), jv_Une (by omega), jv_Une (by omega)]; exact hK')) ?_
              refine j_iload_n_2 dX5_addLift_92 ?_
              refine j_iast dX5_addLift_93 sk_129 sn_129 (by omega) (by decide) ?_
              refine j_aload_n_0 dX5_addLift_94 ?_
              refine G_X5_29 rfl dX5_addLift_95 sk_123 sr_123_10 ?_
              refine j_aload_n_0 dX5_addLift_98 ?_
              refine G_X5_74 rfl dX5_addLift_99 sk_123 ?_
              refine j_top (y := nI K) (by first | exact hK' | (rw [jv_Une (by omega)]; exact hK') | (rw [jv_Une (by omega), jv_Une (by omega)]; exact hK') | (rw [jv_Une (by omega), jv_Une (by omega), jv_Une (by omega)]; exact hK') | (rw [jv_Une (by omega), jv_Une (by omega), jv_Une (by omega), jv_Une (by omega)]; exact hK') | (rw [jv_Une (by omega), jv_Une (by omega), jv_Une (by omega), jv_Une (by omega), jv_Une (by omega)]; exact hK')) ?_
              refine j_iload_n_3 dX5_addLift_102 ?_
              refine j_iast dX5_addLift_103 sk_130 sn_130 (by omega) (by decide) ?_
              refine j_aload_n_0 dX5_addLift_104 ?_
              refine G_X5_32 rfl dX5_addLift_105 sk_123 sr_123_11 ?_
              refine j_aload_n_0 dX5_addLift_108 ?_
              refine G_X5_74 rfl dX5_addLift_109 sk_123 ?_
              refine j_top (y := nI K) (by first | exact hK' | (rw [jv_Une (by omega)]; exact hK') | (rw [jv_Une (by omega), jv_Une (by omega)]; exact hK') | (rw [jv_Une (by omega), jv_Une (by omega), jv_Une (by omega)]; exact hK') | (rw [jv_Une (by omega), jv_Une (by omega), jv_Une (by omega), jv_Une (by omega)]; exact hK') | (rw [jv_Une (by omega), jv_Une (by omega), jv_Une (by omega), jv_Une (by omega), jv_Une (by omega)]; exact hK')) ?_
              refine j_iload_4 dX5_addLift_112 ?_
              refine j_iast dX5_addLift_114 sk_131 sn_131 (by omega) (by decide) ?_
              refine j_aload_n_0 dX5_addLift_115 ?_
              refine G_X5_35 rfl dX5_addLift_116 sk_123 sr_123_12 ?_
              refine j_aload_n_0 dX5_addLift_119 ?_
              refine G_X5_74 rfl dX5_addLift_120 sk_123 ?_
              refine j_top (y := nI K) (by first | exact hK' | (rw [jv_Une (by omega)]; exact hK') | (rw [jv_Une (by omega), jv_Une (by omega)]; exact hK') | (rw [jv_Une (by omega), jv_Une (by omega), jv_Une (by omega)]; exact hK') | (rw [jv_Une (by omega), jv_Une (by omega), jv_Une (by omega), jv_Une (by omega)]; exact hK') | (rw [jv_Une (by omega), jv_Une (by omega), jv_Une (by omega), jv_Une (by omega), jv_Une (by omega)]; exact hK')) ?_
              refine j_iconst (v := nI 1) dX5_addLift_123 nc_iconst_1 ?_
              refine j_bast dX5_addLift_124 (jv_b01 nI01b) sk_132 sn_132 (by omega) (by decide) ?_
              refine j_aload_n_0 dX5_addLift_125 ?_
              refine j_dup rfl dX5_addLift_126 ?_
              refine G_X5_74 rfl dX5_addLift_127 sk_123 ?_
              refine j_top (y := nI K) (by first | exact hK' | (rw [jv_Une (by omega)]; exact hK') | (rw [jv_Une (by omega), jv_Une (by omega)]; exact hK') | (rw [jv_Une (by omega), jv_Une (by omega), jv_Une (by omega)]; exact hK') | (rw [jv_Une (by omega), jv_Une (by omega), jv_Une (by omega), jv_Une (by omega)]; exact hK') | (rw [jv_Une (by omega), jv_Une (by omega), jv_Une (by omega), jv_Une (by omega), jv_Une (by omega)]; exact hK')) ?_
              refine j_iconst (v := nI 1) dX5_addLift_130 nc_iconst_1 ?_
              refine j_iaddN dX5_addLift_131 ?_
              refine P_X5_74 rfl dX5_addLift_132 sk_123 ?_
              refine j_aload_n_0 dX5_addLift_135 ?_
              refine G_X5_74 rfl dX5_addLift_136 sk_123 ?_
              refine j_top (y := nI (K + 1)) jv_Ueq ?_
              refine j_iconst (v := nI 1) dX5_addLift_139 nc_iconst_1 ?_
              refine j_isubN (by omega) dX5_addLift_140 ?_
              exact j_iret hM dX5_addLift_141 rfl hT
            · exact absurd h65 (by omega)
          · exact absurd h51 nI1_ne
    · exact absurd h18 nI1_ne

/-- one place of a new rumour cleared, as far as the field what -/
def clW (V : (Nat → Nat → Int32)) (a w : Nat) : (Nat → Nat → Int32) := fun q c => if q = 135 ∧ c % 96 = a ∧ 96 ≤ c ∧ c < w then -1 else V q c
theorem clW_0 {V : (Nat → Nat → Int32)} {a : Nat} : clW V a 96 = V := by
  funext q c
  unfold clW
  rw [if_neg (by omega)]
theorem clW_s {V : (Nat → Nat → Int32)} {a k : Nat} (ha : a < 96) (hk : 1 ≤ k) : jv_U (clW V a (96 * k)) 135 (96 * k + a) (-1) = clW V a (96 * (k + 1)) := by
  funext q c
  unfold jv_U clW
  by_cases hq : q = 135
  · subst hq
    rw [if_pos rfl]
    by_cases hc : c = 96 * k + a
    · rw [if_pos hc, if_pos (⟨rfl, by omega, by omega, by omega⟩ : 135 = 135 ∧ c % 96 = a ∧ 96 ≤ c ∧ c < 96 * (k + 1))]
    · rw [if_neg hc]
      by_cases h : 135 = 135 ∧ c % 96 = a ∧ 96 ≤ c ∧ c < 96 * k
      · rw [if_pos h, if_pos (by omega : 135 = 135 ∧ c % 96 = a ∧ 96 ≤ c ∧ c < 96 * (k + 1))]
      · rw [if_neg h, if_neg (by omega : ¬ (135 = 135 ∧ c % 96 = a ∧ 96 ≤ c ∧ c < 96 * (k + 1)))]
  · rw [if_neg hq, if_neg (fun d => hq d.1), if_neg (fun d => hq d.1)]
def cl1 (V : (Nat → Nat → Int32)) (a : Nat) : (Nat → Nat → Int32) := clW (jv_U V 135 (0 + a) (nI 0)) a 864
def clL (r : Nat) : Nat → Nat → (Nat → Nat → Int32) → (Nat → Nat → Int32)
  | 0, _, V => V
  | m + 1, i, V => clL r m (i + 1) (cl1 V (12 * r + i))
def srM (V : (Nat → Nat → Int32)) (R f : Nat) (y : Int32) : (Nat → Nat → Int32) := heM (clL R 12 0 (jv_U (jv_U (jv_U V 123 3 (nI (R + 1))) 133 R (nI f)) 134 R y)) (12 * R + f) (nI 0)

theorem inc96 (k : Nat) : nI (96 * k) + Int32.ofInt 96 = nI (96 * (k + 1)) := by
  rw [show Int32.ofInt 96 = nI 96 by decide +kernel, nI_add, Nat.mul_succ]

set_option maxHeartbeats 4000000 in
set_option maxRecDepth 100000 in
theorem y_cl_in {sx : Nat → jv_S} {g : jv_G} {X : jv_X} {T : jv_T} {n : Nat} {V : Nat → Nat → Int32} {L : Nat → Nat → Int64} {k0 z : Nat} {x1 x2 : Int32} {r c a : Nat} (ha : a < 96) : ∀ (m : Nat) (k : Nat), 1 ≤ k → k ≤ 9 → 10 ≤ k + m → (jv_J g X I_X5_startRumour 137 [some (jv_r g 123), some (.int x1), some (.int x2), some (.int (nI r)), some (.int (nI c)), some (.int (nI a)), some (.int (nI 864))] [] n (SH sx) (clW V a 864) L k0 z) → jv_J g X I_X5_startRumour 112 [some (jv_r g 123), some (.int x1), some (.int x2), some (.int (nI r)), some (.int (nI c)), some (.int (nI a)), some (.int (nI (96 * k)))] [] n (SH sx) (clW V a (96 * k)) L k0 z := by
  intro m
  induction m with
  | zero => intro k hk1 hk9 hkm kk; omega
  | succ m ih =>
  intro k hk1 hk9 hkm kk
  refine j_iload_6 dX5_startRumour_112 ?_
  refine j_sipush (v := nI 864) dX5_startRumour_114 nc_sipush_864 ?_
  refine j_ic_geN (by omega) (by omega) (tgt := 137) dX5_startRumour_117 (by decide) (fun h117 => ?_) (fun h117 => ?_)
  · have e9 : k = 9 := by omega
    subst e9
    exact kk
  · refine j_aload_n_0 dX5_startRumour_120 ?_
    refine G_X5_44 rfl dX5_startRumour_121 sk_123 sr_123_15 ?_
    refine j_iload_6 dX5_startRumour_124 ?_
    refine j_iload_5 dX5_startRumour_126 ?_
    refine j_iaddN dX5_startRumour_128 ?_
    refine j_iconst (v := -1) dX5_startRumour_129 nc_iconst_m1 ?_
    refine j_iast dX5_startRumour_130 sk_135 sn_135 (by omega) (by decide) ?_
    refine j_iinc_6 (v := nI (96 * (k + 1))) rfl (by decide) dX5_startRumour_131 (inc96 k) ?_
    refine j_goto (tgt := 112) dX5_startRumour_134 (by decide) ?_
    refine j_mem (clW_s ha hk1) ?_
    exact ih (k + 1) (by omega) (by omega) (by omega) kk

set_option maxHeartbeats 4000000 in
set_option maxRecDepth 100000 in
theorem y_cl_out {sx : Nat → jv_S} {g : jv_G} {X : jv_X} {T : jv_T} {n : Nat} {V : Nat → Nat → Int32} {L : Nat → Nat → Int64} {k z : Nat} {x1 x2 : Int32} {r : Nat} (hr : r < 8) : ∀ (m : Nat) (i : Nat) (V : (Nat → Nat → Int32)) (v5 v6 : Option Value), i ≤ 12 → 13 ≤ i + m → (∀ V' v5 v6, V' = clL r (12 - i) i V → jv_J g X I_X5_startRumour 143 [some (jv_r g 123), some (.int x1), some (.int x2), some (.int (nI r)), some (.int (nI 12)), v5, v6] [] n (SH sx) V' L k z) → jv_J g X I_X5_startRumour 82 [some (jv_r g 123), some (.int x1), some (.int x2), some (.int (nI r)), some (.int (nI i)), v5, v6] [] n (SH sx) V L k z := by
  intro m
  induction m with
  | zero => intro i V v5 v6 hi him kk; omega
  | succ m ih =>
  intro i V v5 v6 hi him kk
  refine j_iload_4 dX5_startRumour_82 ?_
  refine j_bipush (v := nI 12) dX5_startRumour_84 nc_bipush_12 ?_
  refine j_ic_geN (by omega) (by omega) (tgt := 143) dX5_startRumour_86 (by decide) (fun h86 => ?_) (fun h86 => ?_)
  · have e12 : i = 12 := by omega
    subst e12
    exact kk V _ _ (by rw [show 12 - 12 = 0 by omega]; rfl)
  · refine j_bipush (v := nI 12) dX5_startRumour_89 nc_bipush_12 ?_
    refine j_iload_n_3 dX5_startRumour_91 ?_
    refine j_imulN dX5_startRumour_92 ?_
    refine j_iload_4 dX5_startRumour_93 ?_
    refine j_iaddN dX5_startRumour_95 ?_
    refine j_istore_5 rfl (by decide) dX5_startRumour_96 ?_
    refine j_aload_n_0 dX5_startRumour_98 ?_
    refine G_X5_44 rfl dX5_startRumour_99 sk_123 sr_123_15 ?_
    refine j_iconst (v := nI 0) dX5_startRumour_102 nc_iconst_0 ?_
    refine j_iload_5 dX5_startRumour_103 ?_
    refine j_iaddN dX5_startRumour_105 ?_
    refine j_iconst (v := nI 0) dX5_startRumour_106 nc_iconst_0 ?_
    refine j_iast dX5_startRumour_107 sk_135 sn_135 (by omega) (by decide) ?_
    refine j_bipush (v := nI 96) dX5_startRumour_108 nc_bipush_96 ?_
    refine j_istore_6 rfl (by decide) dX5_startRumour_110 ?_
    refine j_mem (clW_0 (a := 12 * r + i)).symm ?_
    refine y_cl_in (T := T) (by omega) 10 1 (by omega) (by omega) (by omega) ?_
    refine j_inc1_4 rfl (by decide) dX5_startRumour_137 ?_
    refine j_goto (tgt := 82) dX5_startRumour_140 (by decide) ?_
    refine ih (i + 1) _ _ _ (by omega) (by omega) ?_
    intro V' v5 v6 e1
    exact kk V' v5 v6 (by rw [show 12 - i = (12 - (i + 1)) + 1 by omega]; exact e1)

set_option maxHeartbeats 4000000 in
set_option maxRecDepth 100000 in
theorem m_startRumour {sx : Nat → jv_S} {g : jv_G} {X : jv_X} {T : jv_T} {n : Nat} {V : Nat → Nat → Int32} {L : Nat → Nat → Int64} {k z : Nat} {N K R : Nat} (hC : Mt V N K R) {f : Nat} (hf : f < N) {y : Int32} (hA : ¬ y < nI 1) (hB : y ≤ nI 20) (hR7 : R < 8) (hM : jv_M g X T) (hT : T (.inl (some (.int (nI R)))) n (SH sx) (srM (t0 V) R f y) L) : jv_J g X I_X5_startRumour 0 [some (jv_r g 123), some (.int (nI f)), some (.int y), none, none, none, none] [] n (SH sx) V L k z := by
  obtain ⟨hN, hK, hR, hN2, hb, hK4, hR8, hEv⟩ := id hC
  obtain ⟨hN', hK', hR', -⟩ := t0_Mt hC
  refine j_aload_n_0 dX5_startRumour_0 ?_
  refine j_iconst (v := nI 0) dX5_startRumour_1 nc_iconst_0 ?_
  refine P_X5_63 rfl dX5_startRumour_2 sk_123 ?_
  refine j_aload_n_0 dX5_startRumour_5 ?_
  refine j_iload_n_1 dX5_startRumour_6 ?_
  refine C_X5_146 rfl (by decide) dX5_startRumour_7 sk_123 (Nat.le_of_ble_eq_true rfl) (Nat.le_of_eq (Nat.zero_add _)) (Nat.le_of_eq (Nat.zero_add _)) (fun _ _ hM' hT' => y_isFloor (t0_Mt hC) hf hM' hT') ?_
  refine j_if_ne (tgt := 19) dX5_startRumour_10 (by decide) (fun h10 => ?_) (fun h10 => ?_)
  · refine j_iload_n_2 dX5_startRumour_19 ?_
    refine j_iconst (v := nI 1) dX5_startRumour_20 nc_iconst_1 ?_
    refine j_bipush (v := nI 20) dX5_startRumour_21 nc_bipush_20 ?_
    refine C_X5_70 rfl (by decide) dX5_startRumour_23 (Nat.le_of_ble_eq_true rfl) (Nat.le_of_eq (Nat.zero_add _)) (Nat.le_of_eq (Nat.zero_add _)) (fun _ _ hM' hT' => y_isIn hM' hT') ?_
    refine j_top (y := nI 1) (by rw [inX_ok hA hB]; rfl) ?_
    refine j_if_ne (tgt := 35) dX5_startRumour_26 (by decide) (fun h26 => ?_) (fun h26 => ?_)
    · refine j_aload_n_0 dX5_startRumour_35 ?_
      refine G_X5_77 rfl dX5_startRumour_36 sk_123 ?_
      refine j_top (y := nI R) hR' ?_
      refine j_bipush (v := nI 8) dX5_startRumour_39 nc_bipush_8 ?_
      refine j_ic_neN (by omega) (by omega) (tgt := 50) dX5_startRumour_41 (by decide) (fun h41 => ?_) (fun h41 => ?_)
      · refine j_aload_n_0 dX5_startRumour_50 ?_
        refine G_X5_77 rfl dX5_startRumour_51 sk_123 ?_
        refine j_top (y := nI R) hR' ?_
        refine j_istore_n_3 rfl (by decide) dX5_startRumour_54 ?_
        refine j_aload_n_0 dX5_startRumour_55 ?_
        refine j_dup rfl dX5_startRumour_56 ?_
        refine G_X5_77 rfl dX5_startRumour_57 sk_123 ?_
        refine j_top (y := nI R) hR' ?_
        refine j_iconst (v := nI 1) dX5_startRumour_60 nc_iconst_1 ?_
        refine j_iaddN dX5_startRumour_61 ?_
        refine P_X5_77 rfl dX5_startRumour_62 sk_123 ?_
        refine j_aload_n_0 dX5_startRumour_65 ?_
        refine G_X5_38 rfl dX5_startRumour_66 sk_123 sr_123_13 ?_
        refine j_iload_n_3 dX5_startRumour_69 ?_
        refine j_iload_n_1 dX5_startRumour_70 ?_
        refine j_iast dX5_startRumour_71 sk_133 sn_133 (by omega) (by decide) ?_
        refine j_aload_n_0 dX5_startRumour_72 ?_
        refine G_X5_41 rfl dX5_startRumour_73 sk_123 sr_123_14 ?_
        refine j_iload_n_3 dX5_startRumour_76 ?_
        refine j_iload_n_2 dX5_startRumour_77 ?_
        refine j_iast dX5_startRumour_78 sk_134 sn_134 (by omega) (by decide) ?_
        refine j_iconst (v := nI 0) dX5_startRumour_79 nc_iconst_0 ?_
        refine j_istore_4 rfl (by decide) dX5_startRumour_80 ?_
        refine y_cl_out (T := T) (V := V) (by omega) 13 0 _ _ _ (by omega) (by omega) ?_
        intro V' v5 v6 e1
        subst e1
        refine j_aload_n_0 dX5_startRumour_143 ?_
        refine j_bipush (v := nI 12) dX5_startRumour_144 nc_bipush_12 ?_
        refine j_iload_n_3 dX5_startRumour_146 ?_
        refine j_imulN dX5_startRumour_147 ?_
        refine j_iload_n_1 dX5_startRumour_148 ?_
        refine j_iaddN dX5_startRumour_149 ?_
        refine j_iconst (v := nI 0) dX5_startRumour_150 nc_iconst_0 ?_
        refine C_X5_116 rfl (by decide) dX5_startRumour_151 sk_123 (Nat.le_of_ble_eq_true rfl) (Nat.le_of_eq (Nat.zero_add _)) (Nat.le_of_eq (Nat.zero_add _)) (fun _ _ hM' hT' => y_hear (by omega) hM' hT') ?_
        refine j_iload_n_3 dX5_startRumour_154 ?_
        exact j_iret hM dX5_startRumour_155 rfl hT
      · exact absurd h41 (by omega)
    · exact absurd h26 nI1_ne
  · exact absurd h10 nI1_ne

set_option maxHeartbeats 4000000 in
set_option maxRecDepth 100000 in
theorem q_startRumour_2 {sx : Nat → jv_S} {g : jv_G} {X : jv_X} {T : jv_T} {n : Nat} {V : Nat → Nat → Int32} {L : Nat → Nat → Int64} {k z : Nat} {N K R : Nat} (hC : Mt V N K R) {f : Nat} (hf : f < N) {y : Int32} (hA : ¬ y < nI 1) (hB : y ≤ nI 20) (hR7 : 8 ≤ R) (hM : jv_M g X T) (hT : T (.inl (some (.int (nI 0)))) n (SH sx) (t1 V 3) L) : jv_J g X I_X5_startRumour 0 [some (jv_r g 123), some (.int (nI f)), some (.int y), none, none, none, none] [] n (SH sx) V L k z := by
  obtain ⟨hN, hK, hR, hN2, hb, hK4, hR8, hEv⟩ := id hC
  obtain ⟨hN', hK', hR', -⟩ := t0_Mt hC
  refine j_aload_n_0 dX5_startRumour_0 ?_
  refine j_iconst (v := nI 0) dX5_startRumour_1 nc_iconst_0 ?_
  refine P_X5_63 rfl dX5_startRumour_2 sk_123 ?_
  refine j_aload_n_0 dX5_startRumour_5 ?_
  refine j_iload_n_1 dX5_startRumour_6 ?_
  refine C_X5_146 rfl (by decide) dX5_startRumour_7 sk_123 (Nat.le_of_ble_eq_true rfl) (Nat.le_of_eq (Nat.zero_add _)) (Nat.le_of_eq (Nat.zero_add _)) (fun _ _ hM' hT' => y_isFloor (t0_Mt hC) hf hM' hT') ?_
  refine j_if_ne (tgt := 19) dX5_startRumour_10 (by decide) (fun h10 => ?_) (fun h10 => ?_)
  · refine j_iload_n_2 dX5_startRumour_19 ?_
    refine j_iconst (v := nI 1) dX5_startRumour_20 nc_iconst_1 ?_
    refine j_bipush (v := nI 20) dX5_startRumour_21 nc_bipush_20 ?_
    refine C_X5_70 rfl (by decide) dX5_startRumour_23 (Nat.le_of_ble_eq_true rfl) (Nat.le_of_eq (Nat.zero_add _)) (Nat.le_of_eq (Nat.zero_add _)) (fun _ _ hM' hT' => y_isIn hM' hT') ?_
    refine j_top (y := nI 1) (by rw [inX_ok hA hB]; rfl) ?_
    refine j_if_ne (tgt := 35) dX5_startRumour_26 (by decide) (fun h26 => ?_) (fun h26 => ?_)
    · refine j_aload_n_0 dX5_startRumour_35 ?_
      refine G_X5_77 rfl dX5_startRumour_36 sk_123 ?_
      refine j_top (y := nI R) hR' ?_
      refine j_bipush (v := nI 8) dX5_startRumour_39 nc_bipush_8 ?_
      refine j_ic_neN (by omega) (by omega) (tgt := 50) dX5_startRumour_41 (by decide) (fun h41 => ?_) (fun h41 => ?_)
      · exact absurd (show R = 8 by omega) h41
      · refine j_aload_n_0 dX5_startRumour_44 ?_
        refine j_iconst (v := nI 3) dX5_startRumour_45 nc_iconst_3 ?_
        refine C_X5_143 rfl (by decide) dX5_startRumour_46 sk_123 (Nat.le_of_ble_eq_true rfl) (Nat.le_of_eq (Nat.zero_add _)) (Nat.le_of_eq (Nat.zero_add _)) (fun _ _ hM' hT' => y_no hM' hT') ?_
        exact j_iret hM dX5_startRumour_49 rfl hT
    · exact absurd h26 nI1_ne
  · exact absurd h10 nI1_ne

set_option maxHeartbeats 4000000 in
set_option maxRecDepth 100000 in
theorem q_startRumour_0 {sx : Nat → jv_S} {g : jv_G} {X : jv_X} {T : jv_T} {n : Nat} {V : Nat → Nat → Int32} {L : Nat → Nat → Int64} {k z : Nat} {N K R : Nat} (hC : Mt V N K R) {f : Int32} {y : Int32} (hx : f < 0 ∨ nI N ≤ f) (hM : jv_M g X T) (hT : T (.inl (some (.int (nI 0)))) n (SH sx) (t1 V 1) L) : jv_J g X I_X5_startRumour 0 [some (jv_r g 123), some (.int f), some (.int y), none, none, none, none] [] n (SH sx) V L k z := by
  obtain ⟨hN, hK, hR, hN2, hb, hK4, hR8, hEv⟩ := id hC
  obtain ⟨hN', hK', hR', -⟩ := t0_Mt hC
  refine j_aload_n_0 dX5_startRumour_0 ?_
  refine j_iconst (v := nI 0) dX5_startRumour_1 nc_iconst_0 ?_
  refine P_X5_63 rfl dX5_startRumour_2 sk_123 ?_
  refine j_aload_n_0 dX5_startRumour_5 ?_
  refine j_iload_n_1 dX5_startRumour_6 ?_
  refine C_X5_146 rfl (by decide) dX5_startRumour_7 sk_123 (Nat.le_of_ble_eq_true rfl) (Nat.le_of_eq (Nat.zero_add _)) (Nat.le_of_eq (Nat.zero_add _)) (fun _ _ hM' hT' => n_isFloor (t0_Mt hC) hx hM' hT') ?_
  refine j_if_ne (tgt := 19) dX5_startRumour_10 (by decide) (fun h10 => ?_) (fun h10 => ?_)
  · exact absurd nI_0 h10
  · refine j_aload_n_0 dX5_startRumour_13 ?_
    refine j_iconst (v := nI 1) dX5_startRumour_14 nc_iconst_1 ?_
    refine C_X5_143 rfl (by decide) dX5_startRumour_15 sk_123 (Nat.le_of_ble_eq_true rfl) (Nat.le_of_eq (Nat.zero_add _)) (Nat.le_of_eq (Nat.zero_add _)) (fun _ _ hM' hT' => y_no hM' hT') ?_
    exact j_iret hM dX5_startRumour_18 rfl hT

set_option maxHeartbeats 4000000 in
set_option maxRecDepth 100000 in
theorem q_startRumour_1 {sx : Nat → jv_S} {g : jv_G} {X : jv_X} {T : jv_T} {n : Nat} {V : Nat → Nat → Int32} {L : Nat → Nat → Int64} {k z : Nat} {N K R : Nat} (hC : Mt V N K R) {f : Nat} (hf : f < N) {y : Int32} (hx : y < nI 1 ∨ nI 20 < y) (hM : jv_M g X T) (hT : T (.inl (some (.int (nI 0)))) n (SH sx) (t1 V 2) L) : jv_J g X I_X5_startRumour 0 [some (jv_r g 123), some (.int (nI f)), some (.int y), none, none, none, none] [] n (SH sx) V L k z := by
  obtain ⟨hN, hK, hR, hN2, hb, hK4, hR8, hEv⟩ := id hC
  obtain ⟨hN', hK', hR', -⟩ := t0_Mt hC
  refine j_aload_n_0 dX5_startRumour_0 ?_
  refine j_iconst (v := nI 0) dX5_startRumour_1 nc_iconst_0 ?_
  refine P_X5_63 rfl dX5_startRumour_2 sk_123 ?_
  refine j_aload_n_0 dX5_startRumour_5 ?_
  refine j_iload_n_1 dX5_startRumour_6 ?_
  refine C_X5_146 rfl (by decide) dX5_startRumour_7 sk_123 (Nat.le_of_ble_eq_true rfl) (Nat.le_of_eq (Nat.zero_add _)) (Nat.le_of_eq (Nat.zero_add _)) (fun _ _ hM' hT' => y_isFloor (t0_Mt hC) hf hM' hT') ?_
  refine j_if_ne (tgt := 19) dX5_startRumour_10 (by decide) (fun h10 => ?_) (fun h10 => ?_)
  · refine j_iload_n_2 dX5_startRumour_19 ?_
    refine j_iconst (v := nI 1) dX5_startRumour_20 nc_iconst_1 ?_
    refine j_bipush (v := nI 20) dX5_startRumour_21 nc_bipush_20 ?_
    refine C_X5_70 rfl (by decide) dX5_startRumour_23 (Nat.le_of_ble_eq_true rfl) (Nat.le_of_eq (Nat.zero_add _)) (Nat.le_of_eq (Nat.zero_add _)) (fun _ _ hM' hT' => y_isIn hM' hT') ?_
    refine j_top (y := nI 0) (by rw [inX_bad hx]; rfl) ?_
    refine j_if_ne (tgt := 35) dX5_startRumour_26 (by decide) (fun h26 => ?_) (fun h26 => ?_)
    · exact absurd nI_0 h26
    · refine j_aload_n_0 dX5_startRumour_29 ?_
      refine j_iconst (v := nI 2) dX5_startRumour_30 nc_iconst_2 ?_
      refine C_X5_143 rfl (by decide) dX5_startRumour_31 sk_123 (Nat.le_of_ble_eq_true rfl) (Nat.le_of_eq (Nat.zero_add _)) (Nat.le_of_eq (Nat.zero_add _)) (fun _ _ hM' hT' => y_no hM' hT') ?_
      exact j_iret hM dX5_startRumour_34 rfl hT
  · exact absurd h10 nI1_ne

def hdM (V : (Nat → Nat → Int32)) (a f : Nat) : Int32 := if V 135 (0 + a) = nI 1 then V 124 f else nI 0

set_option maxHeartbeats 4000000 in
set_option maxRecDepth 100000 in
theorem m_startDenial {sx : Nat → jv_S} {g : jv_G} {X : jv_X} {T : jv_T} {n : Nat} {V : Nat → Nat → Int32} {L : Nat → Nat → Int64} {k z : Nat} {N K R : Nat} (hC : Mt V N K R) {j f : Nat} (hj : j < R) (hf : f < N) (hS : ¬ V 135 (0 + (12 * j + f)) = nI 2) (hM : jv_M g X T) (hT : T (.inl (some (.int (hdM V (12 * j + f) f)))) n (SH sx) (deM (t0 V) (12 * j + f)) L) : jv_J g X I_X5_startDenial 0 [some (jv_r g 123), some (.int (nI j)), some (.int (nI f)), none, none] [] n (SH sx) V L k z := by
  obtain ⟨hN, hK, hR, hN2, hb, hK4, hR8, hEv⟩ := id hC
  obtain ⟨hN', hK', hR', -⟩ := t0_Mt hC
  refine j_aload_n_0 dX5_startDenial_0 ?_
  refine j_iconst (v := nI 0) dX5_startDenial_1 nc_iconst_0 ?_
  refine P_X5_63 rfl dX5_startDenial_2 sk_123 ?_
  refine j_aload_n_0 dX5_startDenial_5 ?_
  refine j_iload_n_1 dX5_startDenial_6 ?_
  refine C_X5_166 rfl (by decide) dX5_startDenial_7 sk_123 (Nat.le_of_ble_eq_true rfl) (Nat.le_of_eq (Nat.zero_add _)) (Nat.le_of_eq (Nat.zero_add _)) (fun _ _ hM' hT' => y_isRumour (t0_Mt hC) hj hM' hT') ?_
  refine j_if_eq (tgt := 21) dX5_startDenial_10 (by decide) (fun h10 => ?_) (fun h10 => ?_)
  · exact absurd h10 nI1_ne
  · refine j_aload_n_0 dX5_startDenial_13 ?_
    refine j_iload_n_2 dX5_startDenial_14 ?_
    refine C_X5_146 rfl (by decide) dX5_startDenial_15 sk_123 (Nat.le_of_ble_eq_true rfl) (Nat.le_of_eq (Nat.zero_add _)) (Nat.le_of_eq (Nat.zero_add _)) (fun _ _ hM' hT' => y_isFloor (t0_Mt hC) hf hM' hT') ?_
    refine j_if_ne (tgt := 27) dX5_startDenial_18 (by decide) (fun h18 => ?_) (fun h18 => ?_)
    · refine j_bipush (v := nI 12) dX5_startDenial_27 nc_bipush_12 ?_
      refine j_iload_n_1 dX5_startDenial_29 ?_
      refine j_imulN dX5_startDenial_30 ?_
      refine j_iload_n_2 dX5_startDenial_31 ?_
      refine j_iaddN dX5_startDenial_32 ?_
      refine j_istore_n_3 rfl (by decide) dX5_startDenial_33 ?_
      refine j_aload_n_0 dX5_startDenial_34 ?_
      refine G_X5_44 rfl dX5_startDenial_35 sk_123 sr_123_15 ?_
      refine j_iconst (v := nI 0) dX5_startDenial_38 nc_iconst_0 ?_
      refine j_iload_n_3 dX5_startDenial_39 ?_
      refine j_iaddN dX5_startDenial_40 ?_
      refine j_iald dX5_startDenial_41 sk_135 sn_135 (by omega) (by decide) ?_
      refine j_top (y := V 135 (0 + (12 * j + f))) (by rw [t0_out (by omega)]) ?_
      refine j_iconst (v := nI 2) dX5_startDenial_42 nc_iconst_2 ?_
      refine j_ic_ne (tgt := 52) dX5_startDenial_43 (by decide) (fun h43 => ?_) (fun h43 => ?_)
      · refine j_aload_n_0 dX5_startDenial_52 ?_
        refine G_X5_44 rfl dX5_startDenial_53 sk_123 sr_123_15 ?_
        refine j_iconst (v := nI 0) dX5_startDenial_56 nc_iconst_0 ?_
        refine j_iload_n_3 dX5_startDenial_57 ?_
        refine j_iaddN dX5_startDenial_58 ?_
        refine j_iald dX5_startDenial_59 sk_135 sn_135 (by omega) (by decide) ?_
        refine j_top (y := V 135 (0 + (12 * j + f))) (by rw [t0_out (by omega)]) ?_
        refine j_iconst (v := nI 1) dX5_startDenial_60 nc_iconst_1 ?_
        refine j_ic_ne (tgt := 73) dX5_startDenial_61 (by decide) (fun h61 => ?_) (fun h61 => ?_)
        · refine j_iconst (v := nI 0) dX5_startDenial_73 nc_iconst_0 ?_
          refine j_top (y := hdM V (12 * j + f) f) (by unfold hdM; rw [if_neg h61]) ?_
          refine j_istore_4 rfl (by decide) dX5_startDenial_74 ?_
          refine j_aload_n_0 dX5_startDenial_76 ?_
          refine j_iload_n_3 dX5_startDenial_77 ?_
          refine C_X5_120 rfl (by decide) dX5_startDenial_78 sk_123 (Nat.le_of_ble_eq_true rfl) (Nat.le_of_eq (Nat.zero_add _)) (Nat.le_of_eq (Nat.zero_add _)) (fun _ _ hM' hT' => y_deny (by omega) hM' hT') ?_
          refine j_iload_4 dX5_startDenial_81 ?_
          exact j_iret hM dX5_startDenial_83 rfl hT
        · refine j_aload_n_0 dX5_startDenial_64 ?_
          refine G_X5_9 rfl dX5_startDenial_65 sk_123 sr_123_4 ?_
          refine j_iload_n_2 dX5_startDenial_68 ?_
          refine j_iald dX5_startDenial_69 sk_124 sn_124 (by omega) (by decide) ?_
          refine j_top (y := hdM V (12 * j + f) f) (by rw [t0_out (by omega)]; unfold hdM; rw [if_pos h61]) ?_
          refine j_goto (tgt := 74) dX5_startDenial_70 (by decide) ?_
          refine j_istore_4 rfl (by decide) dX5_startDenial_74 ?_
          refine j_aload_n_0 dX5_startDenial_76 ?_
          refine j_iload_n_3 dX5_startDenial_77 ?_
          refine C_X5_120 rfl (by decide) dX5_startDenial_78 sk_123 (Nat.le_of_ble_eq_true rfl) (Nat.le_of_eq (Nat.zero_add _)) (Nat.le_of_eq (Nat.zero_add _)) (fun _ _ hM' hT' => y_deny (by omega) hM' hT') ?_
          refine j_iload_4 dX5_startDenial_81 ?_
          exact j_iret hM dX5_startDenial_83 rfl hT
      · exact absurd h43 hS
    · exact absurd h18 nI1_ne

set_option maxHeartbeats 4000000 in
set_option maxRecDepth 100000 in
theorem q_startDenial_2 {sx : Nat → jv_S} {g : jv_G} {X : jv_X} {T : jv_T} {n : Nat} {V : Nat → Nat → Int32} {L : Nat → Nat → Int64} {k z : Nat} {N K R : Nat} (hC : Mt V N K R) {j f : Nat} (hj : j < R) (hf : f < N) (hS : V 135 (0 + (12 * j + f)) = nI 2) (hM : jv_M g X T) (hT : T (.inl (some (.int (nI 0)))) n (SH sx) (t1 V 2) L) : jv_J g X I_X5_startDenial 0 [some (jv_r g 123), some (.int (nI j)), some (.int (nI f)), none, none] [] n (SH sx) V L k z := by
  obtain ⟨hN, hK, hR, hN2, hb, hK4, hR8, hEv⟩ := id hC
  obtain ⟨hN', hK', hR', -⟩ := t0_Mt hC
  refine j_aload_n_0 dX5_startDenial_0 ?_
  refine j_iconst (v := nI 0) dX5_startDenial_1 nc_iconst_0 ?_
  refine P_X5_63 rfl dX5_startDenial_2 sk_123 ?_
  refine j_aload_n_0 dX5_startDenial_5 ?_
  refine j_iload_n_1 dX5_startDenial_6 ?_
  refine C_X5_166 rfl (by decide) dX5_startDenial_7 sk_123 (Nat.le_of_ble_eq_true rfl) (Nat.le_of_eq (Nat.zero_add _)) (Nat.le_of_eq (Nat.zero_add _)) (fun _ _ hM' hT' => y_isRumour (t0_Mt hC) hj hM' hT') ?_
  refine j_if_eq (tgt := 21) dX5_startDenial_10 (by decide) (fun h10 => ?_) (fun h10 => ?_)
  · exact absurd h10 nI1_ne
  · refine j_aload_n_0 dX5_startDenial_13 ?_
    refine j_iload_n_2 dX5_startDenial_14 ?_
    refine C_X5_146 rfl (by decide) dX5_startDenial_15 sk_123 (Nat.le_of_ble_eq_true rfl) (Nat.le_of_eq (Nat.zero_add _)) (Nat.le_of_eq (Nat.zero_add _)) (fun _ _ hM' hT' => y_isFloor (t0_Mt hC) hf hM' hT') ?_
    refine j_if_ne (tgt := 27) dX5_startDenial_18 (by decide) (fun h18 => ?_) (fun h18 => ?_)
    · refine j_bipush (v := nI 12) dX5_startDenial_27 nc_bipush_12 ?_
      refine j_iload_n_1 dX5_startDenial_29 ?_
      refine j_imulN dX5_startDenial_30 ?_
      refine j_iload_n_2 dX5_startDenial_31 ?_
      refine j_iaddN dX5_startDenial_32 ?_
      refine j_istore_n_3 rfl (by decide) dX5_startDenial_33 ?_
      refine j_aload_n_0 dX5_startDenial_34 ?_
      refine G_X5_44 rfl dX5_startDenial_35 sk_123 sr_123_15 ?_
      refine j_iconst (v := nI 0) dX5_startDenial_38 nc_iconst_0 ?_
      refine j_iload_n_3 dX5_startDenial_39 ?_
      refine j_iaddN dX5_startDenial_40 ?_
      refine j_iald dX5_startDenial_41 sk_135 sn_135 (by omega) (by decide) ?_
      refine j_top (y := V 135 (0 + (12 * j + f))) (by rw [t0_out (by omega)]) ?_
      refine j_iconst (v := nI 2) dX5_startDenial_42 nc_iconst_2 ?_
      refine j_ic_ne (tgt := 52) dX5_startDenial_43 (by decide) (fun h43 => ?_) (fun h43 => ?_)
      · exact absurd hS h43
      · refine j_aload_n_0 dX5_startDenial_46 ?_
        refine j_iconst (v := nI 2) dX5_startDenial_47 nc_iconst_2 ?_
        refine C_X5_143 rfl (by decide) dX5_startDenial_48 sk_123 (Nat.le_of_ble_eq_true rfl) (Nat.le_of_eq (Nat.zero_add _)) (Nat.le_of_eq (Nat.zero_add _)) (fun _ _ hM' hT' => y_no hM' hT') ?_
        exact j_iret hM dX5_startDenial_51 rfl hT
    · exact absurd h18 nI1_ne

set_option maxHeartbeats 4000000 in
set_option maxRecDepth 100000 in
theorem q_startDenial_0 {sx : Nat → jv_S} {g : jv_G} {X : jv_X} {T : jv_T} {n : Nat} {V : Nat → Nat → Int32} {L : Nat → Nat → Int64} {k z : Nat} {N K R : Nat} (hC : Mt V N K R) {j : Int32} {f : Int32} (hx : j < 0 ∨ nI R ≤ j) (hM : jv_M g X T) (hT : T (.inl (some (.int (nI 0)))) n (SH sx) (t1 V 1) L) : jv_J g X I_X5_startDenial 0 [some (jv_r g 123), some (.int j), some (.int f), none, none] [] n (SH sx) V L k z := by
  obtain ⟨hN, hK, hR, hN2, hb, hK4, hR8, hEv⟩ := id hC
  obtain ⟨hN', hK', hR', -⟩ := t0_Mt hC
  refine j_aload_n_0 dX5_startDenial_0 ?_
  refine j_iconst (v := nI 0) dX5_startDenial_1 nc_iconst_0 ?_
  refine P_X5_63 rfl dX5_startDenial_2 sk_123 ?_
  refine j_aload_n_0 dX5_startDenial_5 ?_
  refine j_iload_n_1 dX5_startDenial_6 ?_
  refine C_X5_166 rfl (by decide) dX5_startDenial_7 sk_123 (Nat.le_of_ble_eq_true rfl) (Nat.le_of_eq (Nat.zero_add _)) (Nat.le_of_eq (Nat.zero_add _)) (fun _ _ hM' hT' => n_isRumour (t0_Mt hC) hx hM' hT') ?_
  refine j_if_eq (tgt := 21) dX5_startDenial_10 (by decide) (fun h10 => ?_) (fun h10 => ?_)
  · refine j_aload_n_0 dX5_startDenial_21 ?_
    refine j_iconst (v := nI 1) dX5_startDenial_22 nc_iconst_1 ?_
    refine C_X5_143 rfl (by decide) dX5_startDenial_23 sk_123 (Nat.le_of_ble_eq_true rfl) (Nat.le_of_eq (Nat.zero_add _)) (Nat.le_of_eq (Nat.zero_add _)) (fun _ _ hM' hT' => y_no hM' hT') ?_
    exact j_iret hM dX5_startDenial_26 rfl hT
  · exact absurd nI_0 h10

set_option maxHeartbeats 4000000 in
set_option maxRecDepth 100000 in
theorem q_startDenial_1 {sx : Nat → jv_S} {g : jv_G} {X : jv_X} {T : jv_T} {n : Nat} {V : Nat → Nat → Int32} {L : Nat → Nat → Int64} {k z : Nat} {N K R : Nat} (hC : Mt V N K R) {j : Nat} (hj : j < R) {f : Int32} (hx : f < 0 ∨ nI N ≤ f) (hM : jv_M g X T) (hT : T (.inl (some (.int (nI 0)))) n (SH sx) (t1 V 1) L) : jv_J g X I_X5_startDenial 0 [some (jv_r g 123), some (.int (nI j)), some (.int f), none, none] [] n (SH sx) V L k z := by
  obtain ⟨hN, hK, hR, hN2, hb, hK4, hR8, hEv⟩ := id hC
  obtain ⟨hN', hK', hR', -⟩ := t0_Mt hC
  refine j_aload_n_0 dX5_startDenial_0 ?_
  refine j_iconst (v := nI 0) dX5_startDenial_1 nc_iconst_0 ?_
  refine P_X5_63 rfl dX5_startDenial_2 sk_123 ?_
  refine j_aload_n_0 dX5_startDenial_5 ?_
  refine j_iload_n_1 dX5_startDenial_6 ?_
  refine C_X5_166 rfl (by decide) dX5_startDenial_7 sk_123 (Nat.le_of_ble_eq_true rfl) (Nat.le_of_eq (Nat.zero_add _)) (Nat.le_of_eq (Nat.zero_add _)) (fun _ _ hM' hT' => y_isRumour (t0_Mt hC) hj hM' hT') ?_
  refine j_if_eq (tgt := 21) dX5_startDenial_10 (by decide) (fun h10 => ?_) (fun h10 => ?_)
  · exact absurd h10 nI1_ne
  · refine j_aload_n_0 dX5_startDenial_13 ?_
    refine j_iload_n_2 dX5_startDenial_14 ?_
    refine C_X5_146 rfl (by decide) dX5_startDenial_15 sk_123 (Nat.le_of_ble_eq_true rfl) (Nat.le_of_eq (Nat.zero_add _)) (Nat.le_of_eq (Nat.zero_add _)) (fun _ _ hM' hT' => n_isFloor (t0_Mt hC) hx hM' hT') ?_
    refine j_if_ne (tgt := 27) dX5_startDenial_18 (by decide) (fun h18 => ?_) (fun h18 => ?_)
    · exact absurd nI_0 h18
    · refine j_aload_n_0 dX5_startDenial_21 ?_
      refine j_iconst (v := nI 1) dX5_startDenial_22 nc_iconst_1 ?_
      refine C_X5_143 rfl (by decide) dX5_startDenial_23 sk_123 (Nat.le_of_ble_eq_true rfl) (Nat.le_of_eq (Nat.zero_add _)) (Nat.le_of_eq (Nat.zero_add _)) (fun _ _ hM' hT' => y_no hM' hT') ?_
      exact j_iret hM dX5_startDenial_26 rfl hT

def ouM (N K R : Nat) : Nat → (Nat → Nat → Int32) → (Nat → Nat → Int32)
  | 0, V => V
  | m + 1, V => ouM N K R m (houM V N K R)

set_option maxHeartbeats 4000000 in
set_option maxRecDepth 100000 in
theorem y_ph_loop {sx : Nat → jv_S} {g : jv_G} {X : jv_X} {T : jv_T} {n : Nat} {V : Nat → Nat → Int32} {L : Nat → Nat → Int64} {k z : Nat} {N K R m0 a : Nat} (hm0 : m0 ≤ 60) (hM : jv_M g X T) : ∀ (m : Nat) (i : Nat) (V : (Nat → Nat → Int32)), Mt V N K R → i ≤ m0 → m0 + 1 ≤ i + m → T (.inl (some (.int (nI (haA (ouM N K R (m0 - i) V) N R 0 0) - nI a)))) n (SH sx) (ouM N K R (m0 - i) V) L → jv_J g X I_X5_passHours 28 [some (jv_r g 123), some (.int (nI m0)), some (.int (nI a)), some (.int (nI i))] [] n (SH sx) V L k z := by
  intro m
  induction m with
  | zero => intro i V hC hi him hT; omega
  | succ m ih =>
  intro i V hC hi him hT
  obtain ⟨hN, hK, hR, hN2, hb, hK4, hR8, hEv⟩ := id hC
  refine j_iload_n_3 dX5_passHours_28 ?_
  refine j_iload_n_1 dX5_passHours_29 ?_
  refine j_ic_geN (by omega) (by omega) (tgt := 43) dX5_passHours_30 (by decide) (fun h30 => ?_) (fun h30 => ?_)
  · refine j_aload_n_0 dX5_passHours_43 ?_
    refine C_X5_169 rfl (by decide) dX5_passHours_44 sk_123 (Nat.le_of_ble_eq_true rfl) (Nat.le_of_eq (Nat.zero_add _)) (Nat.le_of_eq (Nat.zero_add _)) (fun _ _ hM' hT' => y_heardInAll hC hM' hT') ?_
    refine j_iload_n_2 dX5_passHours_47 ?_
    refine j_isub dX5_passHours_48 ?_
    exact j_iret hM dX5_passHours_49 rfl (by rw [show m0 - i = 0 by omega] at hT; exact hT)
  · refine j_aload_n_0 dX5_passHours_33 ?_
    refine C_X5_173 rfl (by decide) dX5_passHours_34 sk_123 (Nat.le_of_ble_eq_true rfl) (Nat.le_of_eq (Nat.zero_add _)) (Nat.le_of_eq (Nat.zero_add _)) (fun _ _ hM' hT' => y_hourOn hC hM' hT') ?_
    refine j_inc1_3 rfl (by decide) dX5_passHours_37 ?_
    refine j_goto (tgt := 28) dX5_passHours_40 (by decide) ?_
    refine ih (i + 1) _ (hC.o (houM_out (by omega)) (houM_out (by omega))) (by omega) (by omega) ?_
    rw [show m0 - i = (m0 - (i + 1)) + 1 by omega] at hT
    exact hT

set_option maxHeartbeats 4000000 in
set_option maxRecDepth 100000 in
theorem m_passHours {sx : Nat → jv_S} {g : jv_G} {X : jv_X} {T : jv_T} {n : Nat} {V : Nat → Nat → Int32} {L : Nat → Nat → Int64} {k z : Nat} {N K R : Nat} (hC : Mt V N K R) {m : Nat} (hm1 : 1 ≤ m) (hm : m ≤ 60) (hM : jv_M g X T) (hT : T (.inl (some (.int (nI (haA (ouM N K R m (t0 V)) N R 0 0) - nI (haA (t0 V) N R 0 0))))) n (SH sx) (ouM N K R m (t0 V)) L) : jv_J g X I_X5_passHours 0 [some (jv_r g 123), some (.int (nI m)), none, none] [] n (SH sx) V L k z := by
  obtain ⟨hN, hK, hR, hN2, hb, hK4, hR8, hEv⟩ := id hC
  obtain ⟨hN', hK', hR', -⟩ := t0_Mt hC
  refine j_aload_n_0 dX5_passHours_0 ?_
  refine j_iconst (v := nI 0) dX5_passHours_1 nc_iconst_0 ?_
  refine P_X5_63 rfl dX5_passHours_2 sk_123 ?_
  refine j_iload_n_1 dX5_passHours_5 ?_
  refine j_iconst (v := nI 1) dX5_passHours_6 nc_iconst_1 ?_
  refine j_bipush (v := nI 60) dX5_passHours_7 nc_bipush_60 ?_
  refine C_X5_70 rfl (by decide) dX5_passHours_9 (Nat.le_of_ble_eq_true rfl) (Nat.le_of_eq (Nat.zero_add _)) (Nat.le_of_eq (Nat.zero_add _)) (fun _ _ hM' hT' => y_isIn hM' hT') ?_
  refine j_top (y := nI 1) (by rw [inN_ok hm1 hm (by omega)]; rfl) ?_
  refine j_if_ne (tgt := 21) dX5_passHours_12 (by decide) (fun h12 => ?_) (fun h12 => ?_)
  · refine j_aload_n_0 dX5_passHours_21 ?_
    refine C_X5_169 rfl (by decide) dX5_passHours_22 sk_123 (Nat.le_of_ble_eq_true rfl) (Nat.le_of_eq (Nat.zero_add _)) (Nat.le_of_eq (Nat.zero_add _)) (fun _ _ hM' hT' => y_heardInAll (t0_Mt hC) hM' hT') ?_
    refine j_istore_n_2 rfl (by decide) dX5_passHours_25 ?_
    refine j_iconst (v := nI 0) dX5_passHours_26 nc_iconst_0 ?_
    refine j_istore_n_3 rfl (by decide) dX5_passHours_27 ?_
    exact y_ph_loop (V := t0 V) hm hM (m + 1) 0 _ (t0_Mt hC) (by omega) (by omega) hT
  · exact absurd h12 nI1_ne

set_option maxHeartbeats 4000000 in
set_option maxRecDepth 100000 in
theorem q_passHours_0 {sx : Nat → jv_S} {g : jv_G} {X : jv_X} {T : jv_T} {n : Nat} {V : Nat → Nat → Int32} {L : Nat → Nat → Int64} {k z : Nat} {x : Int32} (hx : x < nI 1 ∨ nI 60 < x) (hM : jv_M g X T) (hT : T (.inl (some (.int (nI 0)))) n (SH sx) (t1 V 1) L) : jv_J g X I_X5_passHours 0 [some (jv_r g 123), some (.int x), none, none] [] n (SH sx) V L k z := by
  refine j_aload_n_0 dX5_passHours_0 ?_
  refine j_iconst (v := nI 0) dX5_passHours_1 nc_iconst_0 ?_
  refine P_X5_63 rfl dX5_passHours_2 sk_123 ?_
  refine j_iload_n_1 dX5_passHours_5 ?_
  refine j_iconst (v := nI 1) dX5_passHours_6 nc_iconst_1 ?_
  refine j_bipush (v := nI 60) dX5_passHours_7 nc_bipush_60 ?_
  refine C_X5_70 rfl (by decide) dX5_passHours_9 (Nat.le_of_ble_eq_true rfl) (Nat.le_of_eq (Nat.zero_add _)) (Nat.le_of_eq (Nat.zero_add _)) (fun _ _ hM' hT' => y_isIn hM' hT') ?_
  refine j_top (y := nI 0) (by rw [inX_bad hx]; rfl) ?_
  refine j_if_ne (tgt := 21) dX5_passHours_12 (by decide) (fun h12 => ?_) (fun h12 => ?_)
  · exact absurd nI_0 h12
  · refine j_aload_n_0 dX5_passHours_15 ?_
    refine j_iconst (v := nI 1) dX5_passHours_16 nc_iconst_1 ?_
    refine C_X5_143 rfl (by decide) dX5_passHours_17 sk_123 (Nat.le_of_ble_eq_true rfl) (Nat.le_of_eq (Nat.zero_add _)) (Nat.le_of_eq (Nat.zero_add _)) (fun _ _ hM' hT' => y_no hM' hT') ?_
    exact j_iret hM dX5_passHours_20 rfl hT

set_option maxHeartbeats 4000000 in
set_option maxRecDepth 100000 in
theorem m_floors {sx : Nat → jv_S} {g : jv_G} {X : jv_X} {T : jv_T} {n : Nat} {V : Nat → Nat → Int32} {L : Nat → Nat → Int64} {k z : Nat} {N K R : Nat} (hC : Mt V N K R) (hM : jv_M g X T) (hT : T (.inl (some (.int (nI N)))) n (SH sx) (t2 V 0) L) : jv_J g X I_X5_floors 0 [some (jv_r g 123)] [] n (SH sx) V L k z := by
  obtain ⟨hN, hK, hR, hN2, hb, hK4, hR8, hEv⟩ := id hC
  refine j_aload_n_0 dX5_floors_0 ?_
  refine j_aload_n_0 dX5_floors_1 ?_
  refine G_X5_67 rfl dX5_floors_2 sk_123 ?_
  refine j_top (y := nI N) hN ?_
  refine C_X5_176 rfl (by decide) dX5_floors_5 sk_123 (Nat.le_of_ble_eq_true rfl) (Nat.le_of_eq (Nat.zero_add _)) (Nat.le_of_eq (Nat.zero_add _)) (fun _ _ hM' hT' => y_ok hM' hT') ?_
  exact j_iret hM dX5_floors_8 rfl hT

set_option maxHeartbeats 4000000 in
set_option maxRecDepth 100000 in
theorem m_lifts {sx : Nat → jv_S} {g : jv_G} {X : jv_X} {T : jv_T} {n : Nat} {V : Nat → Nat → Int32} {L : Nat → Nat → Int64} {k z : Nat} {N K R : Nat} (hC : Mt V N K R) (hM : jv_M g X T) (hT : T (.inl (some (.int (nI K)))) n (SH sx) (t2 V 0) L) : jv_J g X I_X5_lifts 0 [some (jv_r g 123)] [] n (SH sx) V L k z := by
  obtain ⟨hN, hK, hR, hN2, hb, hK4, hR8, hEv⟩ := id hC
  refine j_aload_n_0 dX5_lifts_0 ?_
  refine j_aload_n_0 dX5_lifts_1 ?_
  refine G_X5_74 rfl dX5_lifts_2 sk_123 ?_
  refine j_top (y := nI K) hK ?_
  refine C_X5_176 rfl (by decide) dX5_lifts_5 sk_123 (Nat.le_of_ble_eq_true rfl) (Nat.le_of_eq (Nat.zero_add _)) (Nat.le_of_eq (Nat.zero_add _)) (fun _ _ hM' hT' => y_ok hM' hT') ?_
  exact j_iret hM dX5_lifts_8 rfl hT

set_option maxHeartbeats 4000000 in
set_option maxRecDepth 100000 in
theorem m_rumours {sx : Nat → jv_S} {g : jv_G} {X : jv_X} {T : jv_T} {n : Nat} {V : Nat → Nat → Int32} {L : Nat → Nat → Int64} {k z : Nat} {N K R : Nat} (hC : Mt V N K R) (hM : jv_M g X T) (hT : T (.inl (some (.int (nI R)))) n (SH sx) (t2 V 0) L) : jv_J g X I_X5_rumours 0 [some (jv_r g 123)] [] n (SH sx) V L k z := by
  obtain ⟨hN, hK, hR, hN2, hb, hK4, hR8, hEv⟩ := id hC
  refine j_aload_n_0 dX5_rumours_0 ?_
  refine j_aload_n_0 dX5_rumours_1 ?_
  refine G_X5_77 rfl dX5_rumours_2 sk_123 ?_
  refine j_top (y := nI R) hR ?_
  refine C_X5_176 rfl (by decide) dX5_rumours_5 sk_123 (Nat.le_of_ble_eq_true rfl) (Nat.le_of_eq (Nat.zero_add _)) (Nat.le_of_eq (Nat.zero_add _)) (fun _ _ hM' hT' => y_ok hM' hT') ?_
  exact j_iret hM dX5_rumours_8 rfl hT

set_option maxHeartbeats 4000000 in
set_option maxRecDepth 100000 in
theorem m_hours {sx : Nat → jv_S} {g : jv_G} {X : jv_X} {T : jv_T} {n : Nat} {V : Nat → Nat → Int32} {L : Nat → Nat → Int64} {k z : Nat} {N K R : Nat} (hC : Mt V N K R) (hM : jv_M g X T) (hT : T (.inl (some (.int (V 135 864)))) n (SH sx) (t2 V 0) L) : jv_J g X I_X5_hours 0 [some (jv_r g 123)] [] n (SH sx) V L k z := by
  obtain ⟨hN, hK, hR, hN2, hb, hK4, hR8, hEv⟩ := id hC
  refine j_aload_n_0 dX5_hours_0 ?_
  refine j_aload_n_0 dX5_hours_1 ?_
  refine G_X5_44 rfl dX5_hours_2 sk_123 sr_123_15 ?_
  refine j_sipush (v := nI 864) dX5_hours_5 nc_sipush_864 ?_
  refine j_iald dX5_hours_8 sk_135 sn_135 (by omega) (by decide) ?_
  refine C_X5_176 rfl (by decide) dX5_hours_9 sk_123 (Nat.le_of_ble_eq_true rfl) (Nat.le_of_eq (Nat.zero_add _)) (Nat.le_of_eq (Nat.zero_add _)) (fun _ _ hM' hT' => y_ok hM' hT') ?_
  exact j_iret hM dX5_hours_12 rfl hT

set_option maxHeartbeats 4000000 in
set_option maxRecDepth 100000 in
theorem m_centre {sx : Nat → jv_S} {g : jv_G} {X : jv_X} {T : jv_T} {n : Nat} {V : Nat → Nat → Int32} {L : Nat → Nat → Int64} {k z : Nat} {N K R : Nat} (hC : Mt V N K R) (hM : jv_M g X T) (hT : T (.inl (some (.int (oz (mdL N K N 0 V none (nI 0)).2)))) n (SH sx) (t2 (mdL N K N 0 V none (nI 0)).1 0) L) : jv_J g X I_X5_centre 0 [some (jv_r g 123)] [] n (SH sx) V L k z := by
  obtain ⟨hN, hK, hR, hN2, hb, hK4, hR8, hEv⟩ := id hC
  refine j_aload_n_0 dX5_centre_0 ?_
  refine j_aload_n_0 dX5_centre_1 ?_
  refine C_X5_199 rfl (by decide) dX5_centre_2 sk_123 (Nat.le_of_ble_eq_true rfl) (Nat.le_of_eq (Nat.zero_add _)) (Nat.le_of_eq (Nat.zero_add _)) (fun _ _ hM' hT' => y_middle hC hM' hT') ?_
  refine C_X5_176 rfl (by decide) dX5_centre_5 sk_123 (Nat.le_of_ble_eq_true rfl) (Nat.le_of_eq (Nat.zero_add _)) (Nat.le_of_eq (Nat.zero_add _)) (fun _ _ hM' hT' => y_ok hM' hT') ?_
  exact j_iret hM dX5_centre_8 rfl hT

set_option maxHeartbeats 4000000 in
set_option maxRecDepth 100000 in
theorem m_parts {sx : Nat → jv_S} {g : jv_G} {X : jv_X} {T : jv_T} {n : Nat} {V : Nat → Nat → Int32} {L : Nat → Nat → Int64} {k z : Nat} {N K R : Nat} (hC : Mt V N K R) (hM : jv_M g X T) (hT : T (.inl (some (.int (nI (pnL N K N 0 V 0).2)))) n (SH sx) (t2 (pnL N K N 0 V 0).1 0) L) : jv_J g X I_X5_parts 0 [some (jv_r g 123)] [] n (SH sx) V L k z := by
  obtain ⟨hN, hK, hR, hN2, hb, hK4, hR8, hEv⟩ := id hC
  refine j_aload_n_0 dX5_parts_0 ?_
  refine j_aload_n_0 dX5_parts_1 ?_
  refine C_X5_202 rfl (by decide) dX5_parts_2 sk_123 (Nat.le_of_ble_eq_true rfl) (Nat.le_of_eq (Nat.zero_add _)) (Nat.le_of_eq (Nat.zero_add _)) (fun _ _ hM' hT' => y_partsNow hC hM' hT') ?_
  refine C_X5_176 rfl (by decide) dX5_parts_5 sk_123 (Nat.le_of_ble_eq_true rfl) (Nat.le_of_eq (Nat.zero_add _)) (Nat.le_of_eq (Nat.zero_add _)) (fun _ _ hM' hT' => y_ok hM' hT') ?_
  exact j_iret hM dX5_parts_8 rfl hT

set_option maxHeartbeats 4000000 in
set_option maxRecDepth 100000 in
theorem m_headsOf {sx : Nat → jv_S} {g : jv_G} {X : jv_X} {T : jv_T} {n : Nat} {V : Nat → Nat → Int32} {L : Nat → Nat → Int64} {k z : Nat} {N K R : Nat} (hC : Mt V N K R) {f : Nat} (hf : f < N) (hM : jv_M g X T) (hT : T (.inl (some (.int (V 124 f)))) n (SH sx) (t2 V 0) L) : jv_J g X I_X5_headsOf 0 [some (jv_r g 123), some (.int (nI f))] [] n (SH sx) V L k z := by
  obtain ⟨hN, hK, hR, hN2, hb, hK4, hR8, hEv⟩ := id hC
  refine j_aload_n_0 dX5_headsOf_0 ?_
  refine j_aload_n_0 dX5_headsOf_1 ?_
  refine G_X5_9 rfl dX5_headsOf_2 sk_123 sr_123_4 ?_
  refine j_iload_n_1 dX5_headsOf_5 ?_
  refine j_aload_n_0 dX5_headsOf_6 ?_
  refine j_iload_n_1 dX5_headsOf_7 ?_
  refine C_X5_146 rfl (by decide) dX5_headsOf_8 sk_123 (Nat.le_of_ble_eq_true rfl) (Nat.le_of_eq (Nat.zero_add _)) (Nat.le_of_eq (Nat.zero_add _)) (fun _ _ hM' hT' => y_isFloor hC hf hM' hT') ?_
  refine C_X5_179 rfl (by decide) dX5_headsOf_11 sk_123 (Nat.le_of_ble_eq_true rfl) (Nat.le_of_eq (Nat.zero_add _)) (Nat.le_of_eq (Nat.zero_add _)) (fun _ _ hM' hT' => y_of12 sk_124 sn_124 (by omega) (by omega) hM' hT') ?_
  exact j_iret hM dX5_headsOf_14 rfl hT

set_option maxHeartbeats 4000000 in
set_option maxRecDepth 100000 in
theorem q_headsOf_0 {sx : Nat → jv_S} {g : jv_G} {X : jv_X} {T : jv_T} {n : Nat} {V : Nat → Nat → Int32} {L : Nat → Nat → Int64} {k z : Nat} {N K R : Nat} (hC : Mt V N K R) {x : Int32} (hx : x < 0 ∨ nI N ≤ x) (hM : jv_M g X T) (hT : T (.inl (some (.int (nI 0)))) n (SH sx) (t2 V 1) L) : jv_J g X I_X5_headsOf 0 [some (jv_r g 123), some (.int x)] [] n (SH sx) V L k z := by
  obtain ⟨hN, hK, hR, hN2, hb, hK4, hR8, hEv⟩ := id hC
  refine j_aload_n_0 dX5_headsOf_0 ?_
  refine j_aload_n_0 dX5_headsOf_1 ?_
  refine G_X5_9 rfl dX5_headsOf_2 sk_123 sr_123_4 ?_
  refine j_iload_n_1 dX5_headsOf_5 ?_
  refine j_aload_n_0 dX5_headsOf_6 ?_
  refine j_iload_n_1 dX5_headsOf_7 ?_
  refine C_X5_146 rfl (by decide) dX5_headsOf_8 sk_123 (Nat.le_of_ble_eq_true rfl) (Nat.le_of_eq (Nat.zero_add _)) (Nat.le_of_eq (Nat.zero_add _)) (fun _ _ hM' hT' => n_isFloor hC hx hM' hT') ?_
  refine C_X5_179 rfl (by decide) dX5_headsOf_11 sk_123 (Nat.le_of_ble_eq_true rfl) (Nat.le_of_eq (Nat.zero_add _)) (Nat.le_of_eq (Nat.zero_add _)) (fun _ _ hM' hT' => n_of hM' hT') ?_
  exact j_iret hM dX5_headsOf_14 rfl hT

set_option maxHeartbeats 4000000 in
set_option maxRecDepth 100000 in
theorem m_stayOf {sx : Nat → jv_S} {g : jv_G} {X : jv_X} {T : jv_T} {n : Nat} {V : Nat → Nat → Int32} {L : Nat → Nat → Int64} {k z : Nat} {N K R : Nat} (hC : Mt V N K R) {f : Nat} (hf : f < N) (hM : jv_M g X T) (hT : T (.inl (some (.int (V 125 f)))) n (SH sx) (t2 V 0) L) : jv_J g X I_X5_stayOf 0 [some (jv_r g 123), some (.int (nI f))] [] n (SH sx) V L k z := by
  obtain ⟨hN, hK, hR, hN2, hb, hK4, hR8, hEv⟩ := id hC
  refine j_aload_n_0 dX5_stayOf_0 ?_
  refine j_aload_n_0 dX5_stayOf_1 ?_
  refine G_X5_13 rfl dX5_stayOf_2 sk_123 sr_123_5 ?_
  refine j_iload_n_1 dX5_stayOf_5 ?_
  refine j_aload_n_0 dX5_stayOf_6 ?_
  refine j_iload_n_1 dX5_stayOf_7 ?_
  refine C_X5_146 rfl (by decide) dX5_stayOf_8 sk_123 (Nat.le_of_ble_eq_true rfl) (Nat.le_of_eq (Nat.zero_add _)) (Nat.le_of_eq (Nat.zero_add _)) (fun _ _ hM' hT' => y_isFloor hC hf hM' hT') ?_
  refine C_X5_179 rfl (by decide) dX5_stayOf_11 sk_123 (Nat.le_of_ble_eq_true rfl) (Nat.le_of_eq (Nat.zero_add _)) (Nat.le_of_eq (Nat.zero_add _)) (fun _ _ hM' hT' => y_of12 sk_125 sn_125 (by omega) (by omega) hM' hT') ?_
  exact j_iret hM dX5_stayOf_14 rfl hT

set_option maxHeartbeats 4000000 in
set_option maxRecDepth 100000 in
theorem q_stayOf_0 {sx : Nat → jv_S} {g : jv_G} {X : jv_X} {T : jv_T} {n : Nat} {V : Nat → Nat → Int32} {L : Nat → Nat → Int64} {k z : Nat} {N K R : Nat} (hC : Mt V N K R) {x : Int32} (hx : x < 0 ∨ nI N ≤ x) (hM : jv_M g X T) (hT : T (.inl (some (.int (nI 0)))) n (SH sx) (t2 V 1) L) : jv_J g X I_X5_stayOf 0 [some (jv_r g 123), some (.int x)] [] n (SH sx) V L k z := by
  obtain ⟨hN, hK, hR, hN2, hb, hK4, hR8, hEv⟩ := id hC
  refine j_aload_n_0 dX5_stayOf_0 ?_
  refine j_aload_n_0 dX5_stayOf_1 ?_
  refine G_X5_13 rfl dX5_stayOf_2 sk_123 sr_123_5 ?_
  refine j_iload_n_1 dX5_stayOf_5 ?_
  refine j_aload_n_0 dX5_stayOf_6 ?_
  refine j_iload_n_1 dX5_stayOf_7 ?_
  refine C_X5_146 rfl (by decide) dX5_stayOf_8 sk_123 (Nat.le_of_ble_eq_true rfl) (Nat.le_of_eq (Nat.zero_add _)) (Nat.le_of_eq (Nat.zero_add _)) (fun _ _ hM' hT' => n_isFloor hC hx hM' hT') ?_
  refine C_X5_179 rfl (by decide) dX5_stayOf_11 sk_123 (Nat.le_of_ble_eq_true rfl) (Nat.le_of_eq (Nat.zero_add _)) (Nat.le_of_eq (Nat.zero_add _)) (fun _ _ hM' hT' => n_of hM' hT') ?_
  exact j_iret hM dX5_stayOf_14 rfl hT

set_option maxHeartbeats 4000000 in
set_option maxRecDepth 100000 in
theorem m_stairsOf {sx : Nat → jv_S} {g : jv_G} {X : jv_X} {T : jv_T} {n : Nat} {V : Nat → Nat → Int32} {L : Nat → Nat → Int64} {k z : Nat} {N K R : Nat} (hC : Mt V N K R) {f : Nat} (hf : f + 1 < N) (hM : jv_M g X T) (hT : T (.inl (some (.int (V 126 f)))) n (SH sx) (t2 V 0) L) : jv_J g X I_X5_stairsOf 0 [some (jv_r g 123), some (.int (nI f))] [] n (SH sx) V L k z := by
  obtain ⟨hN, hK, hR, hN2, hb, hK4, hR8, hEv⟩ := id hC
  refine j_aload_n_0 dX5_stairsOf_0 ?_
  refine j_aload_n_0 dX5_stairsOf_1 ?_
  refine G_X5_16 rfl dX5_stairsOf_2 sk_123 sr_123_6 ?_
  refine j_iload_n_1 dX5_stairsOf_5 ?_
  refine j_aload_n_0 dX5_stairsOf_6 ?_
  refine j_iload_n_1 dX5_stairsOf_7 ?_
  refine C_X5_153 rfl (by decide) dX5_stairsOf_8 sk_123 (Nat.le_of_ble_eq_true rfl) (Nat.le_of_eq (Nat.zero_add _)) (Nat.le_of_eq (Nat.zero_add _)) (fun _ _ hM' hT' => y_isStairs hC hf hM' hT') ?_
  refine C_X5_179 rfl (by decide) dX5_stairsOf_11 sk_123 (Nat.le_of_ble_eq_true rfl) (Nat.le_of_eq (Nat.zero_add _)) (Nat.le_of_eq (Nat.zero_add _)) (fun _ _ hM' hT' => y_of12 sk_126 sn_126 (by omega) (by omega) hM' hT') ?_
  exact j_iret hM dX5_stairsOf_14 rfl hT

set_option maxHeartbeats 4000000 in
set_option maxRecDepth 100000 in
theorem q_stairsOf_0 {sx : Nat → jv_S} {g : jv_G} {X : jv_X} {T : jv_T} {n : Nat} {V : Nat → Nat → Int32} {L : Nat → Nat → Int64} {k z : Nat} {N K R : Nat} (hC : Mt V N K R) {x : Int32} (hx : x < 0 ∨ nI (N - 1) ≤ x) (hM : jv_M g X T) (hT : T (.inl (some (.int (nI 0)))) n (SH sx) (t2 V 1) L) : jv_J g X I_X5_stairsOf 0 [some (jv_r g 123), some (.int x)] [] n (SH sx) V L k z := by
  obtain ⟨hN, hK, hR, hN2, hb, hK4, hR8, hEv⟩ := id hC
  refine j_aload_n_0 dX5_stairsOf_0 ?_
  refine j_aload_n_0 dX5_stairsOf_1 ?_
  refine G_X5_16 rfl dX5_stairsOf_2 sk_123 sr_123_6 ?_
  refine j_iload_n_1 dX5_stairsOf_5 ?_
  refine j_aload_n_0 dX5_stairsOf_6 ?_
  refine j_iload_n_1 dX5_stairsOf_7 ?_
  refine C_X5_153 rfl (by decide) dX5_stairsOf_8 sk_123 (Nat.le_of_ble_eq_true rfl) (Nat.le_of_eq (Nat.zero_add _)) (Nat.le_of_eq (Nat.zero_add _)) (fun _ _ hM' hT' => n_isStairs hC hx hM' hT') ?_
  refine C_X5_179 rfl (by decide) dX5_stairsOf_11 sk_123 (Nat.le_of_ble_eq_true rfl) (Nat.le_of_eq (Nat.zero_add _)) (Nat.le_of_eq (Nat.zero_add _)) (fun _ _ hM' hT' => n_of hM' hT') ?_
  exact j_iret hM dX5_stairsOf_14 rfl hT

set_option maxHeartbeats 4000000 in
set_option maxRecDepth 100000 in
theorem m_originOf {sx : Nat → jv_S} {g : jv_G} {X : jv_X} {T : jv_T} {n : Nat} {V : Nat → Nat → Int32} {L : Nat → Nat → Int64} {k z : Nat} {N K R : Nat} (hC : Mt V N K R) {j : Nat} (hj : j < R) (hM : jv_M g X T) (hT : T (.inl (some (.int (V 133 j)))) n (SH sx) (t2 V 0) L) : jv_J g X I_X5_originOf 0 [some (jv_r g 123), some (.int (nI j))] [] n (SH sx) V L k z := by
  obtain ⟨hN, hK, hR, hN2, hb, hK4, hR8, hEv⟩ := id hC
  refine j_aload_n_0 dX5_originOf_0 ?_
  refine j_aload_n_0 dX5_originOf_1 ?_
  refine G_X5_38 rfl dX5_originOf_2 sk_123 sr_123_13 ?_
  refine j_iload_n_1 dX5_originOf_5 ?_
  refine j_aload_n_0 dX5_originOf_6 ?_
  refine j_iload_n_1 dX5_originOf_7 ?_
  refine C_X5_166 rfl (by decide) dX5_originOf_8 sk_123 (Nat.le_of_ble_eq_true rfl) (Nat.le_of_eq (Nat.zero_add _)) (Nat.le_of_eq (Nat.zero_add _)) (fun _ _ hM' hT' => y_isRumour hC hj hM' hT') ?_
  refine C_X5_179 rfl (by decide) dX5_originOf_11 sk_123 (Nat.le_of_ble_eq_true rfl) (Nat.le_of_eq (Nat.zero_add _)) (Nat.le_of_eq (Nat.zero_add _)) (fun _ _ hM' hT' => y_of8 sk_133 sn_133 (by omega) (by omega) hM' hT') ?_
  exact j_iret hM dX5_originOf_14 rfl hT

set_option maxHeartbeats 4000000 in
set_option maxRecDepth 100000 in
theorem q_originOf_0 {sx : Nat → jv_S} {g : jv_G} {X : jv_X} {T : jv_T} {n : Nat} {V : Nat → Nat → Int32} {L : Nat → Nat → Int64} {k z : Nat} {N K R : Nat} (hC : Mt V N K R) {x : Int32} (hx : x < 0 ∨ nI R ≤ x) (hM : jv_M g X T) (hT : T (.inl (some (.int (nI 0)))) n (SH sx) (t2 V 1) L) : jv_J g X I_X5_originOf 0 [some (jv_r g 123), some (.int x)] [] n (SH sx) V L k z := by
  obtain ⟨hN, hK, hR, hN2, hb, hK4, hR8, hEv⟩ := id hC
  refine j_aload_n_0 dX5_originOf_0 ?_
  refine j_aload_n_0 dX5_originOf_1 ?_
  refine G_X5_38 rfl dX5_originOf_2 sk_123 sr_123_13 ?_
  refine j_iload_n_1 dX5_originOf_5 ?_
  refine j_aload_n_0 dX5_originOf_6 ?_
  refine j_iload_n_1 dX5_originOf_7 ?_
  refine C_X5_166 rfl (by decide) dX5_originOf_8 sk_123 (Nat.le_of_ble_eq_true rfl) (Nat.le_of_eq (Nat.zero_add _)) (Nat.le_of_eq (Nat.zero_add _)) (fun _ _ hM' hT' => n_isRumour hC hx hM' hT') ?_
  refine C_X5_179 rfl (by decide) dX5_originOf_11 sk_123 (Nat.le_of_ble_eq_true rfl) (Nat.le_of_eq (Nat.zero_add _)) (Nat.le_of_eq (Nat.zero_add _)) (fun _ _ hM' hT' => n_of hM' hT') ?_
  exact j_iret hM dX5_originOf_14 rfl hT

set_option maxHeartbeats 4000000 in
set_option maxRecDepth 100000 in
theorem m_reachOf {sx : Nat → jv_S} {g : jv_G} {X : jv_X} {T : jv_T} {n : Nat} {V : Nat → Nat → Int32} {L : Nat → Nat → Int64} {k z : Nat} {N K R : Nat} (hC : Mt V N K R) {j : Nat} (hj : j < R) (hM : jv_M g X T) (hT : T (.inl (some (.int (V 134 j)))) n (SH sx) (t2 V 0) L) : jv_J g X I_X5_reachOf 0 [some (jv_r g 123), some (.int (nI j))] [] n (SH sx) V L k z := by
  obtain ⟨hN, hK, hR, hN2, hb, hK4, hR8, hEv⟩ := id hC
  refine j_aload_n_0 dX5_reachOf_0 ?_
  refine j_aload_n_0 dX5_reachOf_1 ?_
  refine G_X5_41 rfl dX5_reachOf_2 sk_123 sr_123_14 ?_
  refine j_iload_n_1 dX5_reachOf_5 ?_
  refine j_aload_n_0 dX5_reachOf_6 ?_
  refine j_iload_n_1 dX5_reachOf_7 ?_
  refine C_X5_166 rfl (by decide) dX5_reachOf_8 sk_123 (Nat.le_of_ble_eq_true rfl) (Nat.le_of_eq (Nat.zero_add _)) (Nat.le_of_eq (Nat.zero_add _)) (fun _ _ hM' hT' => y_isRumour hC hj hM' hT') ?_
  refine C_X5_179 rfl (by decide) dX5_reachOf_11 sk_123 (Nat.le_of_ble_eq_true rfl) (Nat.le_of_eq (Nat.zero_add _)) (Nat.le_of_eq (Nat.zero_add _)) (fun _ _ hM' hT' => y_of8 sk_134 sn_134 (by omega) (by omega) hM' hT') ?_
  exact j_iret hM dX5_reachOf_14 rfl hT

set_option maxHeartbeats 4000000 in
set_option maxRecDepth 100000 in
theorem q_reachOf_0 {sx : Nat → jv_S} {g : jv_G} {X : jv_X} {T : jv_T} {n : Nat} {V : Nat → Nat → Int32} {L : Nat → Nat → Int64} {k z : Nat} {N K R : Nat} (hC : Mt V N K R) {x : Int32} (hx : x < 0 ∨ nI R ≤ x) (hM : jv_M g X T) (hT : T (.inl (some (.int (nI 0)))) n (SH sx) (t2 V 1) L) : jv_J g X I_X5_reachOf 0 [some (jv_r g 123), some (.int x)] [] n (SH sx) V L k z := by
  obtain ⟨hN, hK, hR, hN2, hb, hK4, hR8, hEv⟩ := id hC
  refine j_aload_n_0 dX5_reachOf_0 ?_
  refine j_aload_n_0 dX5_reachOf_1 ?_
  refine G_X5_41 rfl dX5_reachOf_2 sk_123 sr_123_14 ?_
  refine j_iload_n_1 dX5_reachOf_5 ?_
  refine j_aload_n_0 dX5_reachOf_6 ?_
  refine j_iload_n_1 dX5_reachOf_7 ?_
  refine C_X5_166 rfl (by decide) dX5_reachOf_8 sk_123 (Nat.le_of_ble_eq_true rfl) (Nat.le_of_eq (Nat.zero_add _)) (Nat.le_of_eq (Nat.zero_add _)) (fun _ _ hM' hT' => n_isRumour hC hx hM' hT') ?_
  refine C_X5_179 rfl (by decide) dX5_reachOf_11 sk_123 (Nat.le_of_ble_eq_true rfl) (Nat.le_of_eq (Nat.zero_add _)) (Nat.le_of_eq (Nat.zero_add _)) (fun _ _ hM' hT' => n_of hM' hT') ?_
  exact j_iret hM dX5_reachOf_14 rfl hT

set_option maxHeartbeats 4000000 in
set_option maxRecDepth 100000 in
theorem m_isOpen {sx : Nat → jv_S} {g : jv_G} {X : jv_X} {T : jv_T} {n : Nat} {V : Nat → Nat → Int32} {L : Nat → Nat → Int64} {k z : Nat} {N K R : Nat} (hC : Mt V N K R) {f : Nat} (hf : f + 1 < N) (hx : V 127 f = 0 ∨ V 127 f = 1) (hM : jv_M g X T) (hT : T (.inl (some (.int (V 127 f)))) n (SH sx) (t0 V) L) : jv_J g X I_X5_isOpen 0 [some (jv_r g 123), some (.int (nI f))] [] n (SH sx) V L k z := by
  obtain ⟨hN, hK, hR, hN2, hb, hK4, hR8, hEv⟩ := id hC
  obtain ⟨hN', hK', hR', -⟩ := t0_Mt hC
  refine j_aload_n_0 dX5_isOpen_0 ?_
  refine j_iconst (v := nI 0) dX5_isOpen_1 nc_iconst_0 ?_
  refine P_X5_63 rfl dX5_isOpen_2 sk_123 ?_
  refine j_aload_n_0 dX5_isOpen_5 ?_
  refine j_iload_n_1 dX5_isOpen_6 ?_
  refine C_X5_153 rfl (by decide) dX5_isOpen_7 sk_123 (Nat.le_of_ble_eq_true rfl) (Nat.le_of_eq (Nat.zero_add _)) (Nat.le_of_eq (Nat.zero_add _)) (fun _ _ hM' hT' => y_isStairs (t0_Mt hC) hf hM' hT') ?_
  refine j_if_eq (tgt := 22) dX5_isOpen_10 (by decide) (fun h10 => ?_) (fun h10 => ?_)
  · exact absurd h10 nI1_ne
  · refine j_aload_n_0 dX5_isOpen_13 ?_
    refine G_X5_19 rfl dX5_isOpen_14 sk_123 sr_123_7 ?_
    refine j_iload_n_1 dX5_isOpen_17 ?_
    refine j_bald dX5_isOpen_18 sk_127 sn_127 (by omega) (by decide) ?_
    refine j_top (y := V 127 f) (by rw [t0_out (by omega)]) ?_
    refine j_goto (tgt := 27) dX5_isOpen_19 (by decide) ?_
    exact j_zret hM dX5_isOpen_27 rfl (jv_b01 hx) hT

set_option maxHeartbeats 4000000 in
set_option maxRecDepth 100000 in
theorem q_isOpen_0 {sx : Nat → jv_S} {g : jv_G} {X : jv_X} {T : jv_T} {n : Nat} {V : Nat → Nat → Int32} {L : Nat → Nat → Int64} {k z : Nat} {N K R : Nat} (hC : Mt V N K R) {f : Int32} (hx : f < 0 ∨ nI (N - 1) ≤ f) (hM : jv_M g X T) (hT : T (.inl (some (.int (nI 0)))) n (SH sx) (t1 V 1) L) : jv_J g X I_X5_isOpen 0 [some (jv_r g 123), some (.int f)] [] n (SH sx) V L k z := by
  obtain ⟨hN, hK, hR, hN2, hb, hK4, hR8, hEv⟩ := id hC
  obtain ⟨hN', hK', hR', -⟩ := t0_Mt hC
  refine j_aload_n_0 dX5_isOpen_0 ?_
  refine j_iconst (v := nI 0) dX5_isOpen_1 nc_iconst_0 ?_
  refine P_X5_63 rfl dX5_isOpen_2 sk_123 ?_
  refine j_aload_n_0 dX5_isOpen_5 ?_
  refine j_iload_n_1 dX5_isOpen_6 ?_
  refine C_X5_153 rfl (by decide) dX5_isOpen_7 sk_123 (Nat.le_of_ble_eq_true rfl) (Nat.le_of_eq (Nat.zero_add _)) (Nat.le_of_eq (Nat.zero_add _)) (fun _ _ hM' hT' => n_isStairs (t0_Mt hC) hx hM' hT') ?_
  refine j_if_eq (tgt := 22) dX5_isOpen_10 (by decide) (fun h10 => ?_) (fun h10 => ?_)
  · refine j_aload_n_0 dX5_isOpen_22 ?_
    refine j_iconst (v := nI 1) dX5_isOpen_23 nc_iconst_1 ?_
    refine C_X5_160 rfl (by decide) dX5_isOpen_24 sk_123 (Nat.le_of_ble_eq_true rfl) (Nat.le_of_eq (Nat.zero_add _)) (Nat.le_of_eq (Nat.zero_add _)) (fun _ _ hM' hT' => y_isNot hM' hT') ?_
    exact j_zret hM dX5_isOpen_27 rfl (jv_b01 nI01a) hT
  · exact absurd nI_0 h10

set_option maxHeartbeats 4000000 in
set_option maxRecDepth 100000 in
theorem m_runs {sx : Nat → jv_S} {g : jv_G} {X : jv_X} {T : jv_T} {n : Nat} {V : Nat → Nat → Int32} {L : Nat → Nat → Int64} {k z : Nat} {N K R : Nat} (hC : Mt V N K R) {l : Nat} (hl : l < K) (hx : V 132 l = 0 ∨ V 132 l = 1) (hM : jv_M g X T) (hT : T (.inl (some (.int (V 132 l)))) n (SH sx) (t0 V) L) : jv_J g X I_X5_runs 0 [some (jv_r g 123), some (.int (nI l))] [] n (SH sx) V L k z := by
  obtain ⟨hN, hK, hR, hN2, hb, hK4, hR8, hEv⟩ := id hC
  obtain ⟨hN', hK', hR', -⟩ := t0_Mt hC
  refine j_aload_n_0 dX5_runs_0 ?_
  refine j_iconst (v := nI 0) dX5_runs_1 nc_iconst_0 ?_
  refine P_X5_63 rfl dX5_runs_2 sk_123 ?_
  refine j_aload_n_0 dX5_runs_5 ?_
  refine j_iload_n_1 dX5_runs_6 ?_
  refine C_X5_163 rfl (by decide) dX5_runs_7 sk_123 (Nat.le_of_ble_eq_true rfl) (Nat.le_of_eq (Nat.zero_add _)) (Nat.le_of_eq (Nat.zero_add _)) (fun _ _ hM' hT' => y_isLift (t0_Mt hC) hl hM' hT') ?_
  refine j_if_eq (tgt := 22) dX5_runs_10 (by decide) (fun h10 => ?_) (fun h10 => ?_)
  · exact absurd h10 nI1_ne
  · refine j_aload_n_0 dX5_runs_13 ?_
    refine G_X5_35 rfl dX5_runs_14 sk_123 sr_123_12 ?_
    refine j_iload_n_1 dX5_runs_17 ?_
    refine j_bald dX5_runs_18 sk_132 sn_132 (by omega) (by decide) ?_
    refine j_top (y := V 132 l) (by rw [t0_out (by omega)]) ?_
    refine j_goto (tgt := 27) dX5_runs_19 (by decide) ?_
    exact j_zret hM dX5_runs_27 rfl (jv_b01 hx) hT

set_option maxHeartbeats 4000000 in
set_option maxRecDepth 100000 in
theorem q_runs_0 {sx : Nat → jv_S} {g : jv_G} {X : jv_X} {T : jv_T} {n : Nat} {V : Nat → Nat → Int32} {L : Nat → Nat → Int64} {k z : Nat} {N K R : Nat} (hC : Mt V N K R) {l : Int32} (hx : l < 0 ∨ nI K ≤ l) (hM : jv_M g X T) (hT : T (.inl (some (.int (nI 0)))) n (SH sx) (t1 V 1) L) : jv_J g X I_X5_runs 0 [some (jv_r g 123), some (.int l)] [] n (SH sx) V L k z := by
  obtain ⟨hN, hK, hR, hN2, hb, hK4, hR8, hEv⟩ := id hC
  obtain ⟨hN', hK', hR', -⟩ := t0_Mt hC
  refine j_aload_n_0 dX5_runs_0 ?_
  refine j_iconst (v := nI 0) dX5_runs_1 nc_iconst_0 ?_
  refine P_X5_63 rfl dX5_runs_2 sk_123 ?_
  refine j_aload_n_0 dX5_runs_5 ?_
  refine j_iload_n_1 dX5_runs_6 ?_
  refine C_X5_163 rfl (by decide) dX5_runs_7 sk_123 (Nat.le_of_ble_eq_true rfl) (Nat.le_of_eq (Nat.zero_add _)) (Nat.le_of_eq (Nat.zero_add _)) (fun _ _ hM' hT' => n_isLift (t0_Mt hC) hx hM' hT') ?_
  refine j_if_eq (tgt := 22) dX5_runs_10 (by decide) (fun h10 => ?_) (fun h10 => ?_)
  · refine j_aload_n_0 dX5_runs_22 ?_
    refine j_iconst (v := nI 1) dX5_runs_23 nc_iconst_1 ?_
    refine C_X5_160 rfl (by decide) dX5_runs_24 sk_123 (Nat.le_of_ble_eq_true rfl) (Nat.le_of_eq (Nat.zero_add _)) (Nat.le_of_eq (Nat.zero_add _)) (fun _ _ hM' hT' => y_isNot hM' hT') ?_
    exact j_zret hM dX5_runs_27 rfl (jv_b01 nI01a) hT
  · exact absurd nI_0 h10

theorem svB_t0 {V : (Nat → Nat → Int32)} {c : Nat} {x : Int32} : svB (t0 V) c x = svB V c x := by
  unfold svB
  rw [t0_out (by omega), t0_out (by omega), t0_out (by omega)]
theorem hoM_t0 {V : (Nat → Nat → Int32)} {K a b : Nat} : hoM (t0 V) K a b = hoM V K a b := hoM_congr (fun q h1 h2 => t0_out (by omega))

set_option maxHeartbeats 4000000 in
set_option maxRecDepth 100000 in
theorem m_serves {sx : Nat → jv_S} {g : jv_G} {X : jv_X} {T : jv_T} {n : Nat} {V : Nat → Nat → Int32} {L : Nat → Nat → Int64} {k z : Nat} {N K R : Nat} (hC : Mt V N K R) {l : Nat} (hl : l < K) {f : Nat} (hf : f < N)  (hM : jv_M g X T) (hT : T (.inl (some (.int (bz (svB V l (nI f)))))) n (SH sx) (t0 V) L) : jv_J g X I_X5_serves 0 [some (jv_r g 123), some (.int (nI l)), some (.int (nI f))] [] n (SH sx) V L k z := by
  obtain ⟨hN, hK, hR, hN2, hb, hK4, hR8, hEv⟩ := id hC
  obtain ⟨hN', hK', hR', -⟩ := t0_Mt hC
  refine j_aload_n_0 dX5_serves_0 ?_
  refine j_iconst (v := nI 0) dX5_serves_1 nc_iconst_0 ?_
  refine P_X5_63 rfl dX5_serves_2 sk_123 ?_
  refine j_aload_n_0 dX5_serves_5 ?_
  refine j_iload_n_1 dX5_serves_6 ?_
  refine C_X5_163 rfl (by decide) dX5_serves_7 sk_123 (Nat.le_of_ble_eq_true rfl) (Nat.le_of_eq (Nat.zero_add _)) (Nat.le_of_eq (Nat.zero_add _)) (fun _ _ hM' hT' => y_isLift (t0_Mt hC) hl hM' hT') ?_
  refine j_if_eq (tgt := 30) dX5_serves_10 (by decide) (fun h10 => ?_) (fun h10 => ?_)
  · exact absurd h10 nI1_ne
  · refine j_aload_n_0 dX5_serves_13 ?_
    refine j_iload_n_2 dX5_serves_14 ?_
    refine C_X5_146 rfl (by decide) dX5_serves_15 sk_123 (Nat.le_of_ble_eq_true rfl) (Nat.le_of_eq (Nat.zero_add _)) (Nat.le_of_eq (Nat.zero_add _)) (fun _ _ hM' hT' => y_isFloor (t0_Mt hC) hf hM' hT') ?_
    refine j_if_eq (tgt := 30) dX5_serves_18 (by decide) (fun h18 => ?_) (fun h18 => ?_)
    · exact absurd h18 nI1_ne
    · refine j_aload_n_0 dX5_serves_21 ?_
      refine j_iload_n_1 dX5_serves_22 ?_
      refine j_iload_n_2 dX5_serves_23 ?_
      refine C_X5_95 rfl (by decide) dX5_serves_24 sk_123 (Nat.le_of_ble_eq_true rfl) (Nat.le_of_eq (Nat.zero_add _)) (Nat.le_of_eq (Nat.zero_add _)) (fun _ _ hM' hT' => y_isServed (by omega) ((t0_Mt hC).2.2.2.2.2.2.2 l hl) hM' hT') ?_
      refine j_top (y := bz (svB V l (nI f))) (by rw [svB_t0]) ?_
      refine j_goto (tgt := 35) dX5_serves_27 (by decide) ?_
      exact j_zret hM dX5_serves_35 rfl (jv_b01 (bz01 _)) hT

set_option maxHeartbeats 4000000 in
set_option maxRecDepth 100000 in
theorem q_serves_0 {sx : Nat → jv_S} {g : jv_G} {X : jv_X} {T : jv_T} {n : Nat} {V : Nat → Nat → Int32} {L : Nat → Nat → Int64} {k z : Nat} {N K R : Nat} (hC : Mt V N K R) {l : Int32} {f : Int32} (hx : l < 0 ∨ nI K ≤ l) (hM : jv_M g X T) (hT : T (.inl (some (.int (nI 0)))) n (SH sx) (t1 V 1) L) : jv_J g X I_X5_serves 0 [some (jv_r g 123), some (.int l), some (.int f)] [] n (SH sx) V L k z := by
  obtain ⟨hN, hK, hR, hN2, hb, hK4, hR8, hEv⟩ := id hC
  obtain ⟨hN', hK', hR', -⟩ := t0_Mt hC
  refine j_aload_n_0 dX5_serves_0 ?_
  refine j_iconst (v := nI 0) dX5_serves_1 nc_iconst_0 ?_
  refine P_X5_63 rfl dX5_serves_2 sk_123 ?_
  refine j_aload_n_0 dX5_serves_5 ?_
  refine j_iload_n_1 dX5_serves_6 ?_
  refine C_X5_163 rfl (by decide) dX5_serves_7 sk_123 (Nat.le_of_ble_eq_true rfl) (Nat.le_of_eq (Nat.zero_add _)) (Nat.le_of_eq (Nat.zero_add _)) (fun _ _ hM' hT' => n_isLift (t0_Mt hC) hx hM' hT') ?_
  refine j_if_eq (tgt := 30) dX5_serves_10 (by decide) (fun h10 => ?_) (fun h10 => ?_)
  · refine j_aload_n_0 dX5_serves_30 ?_
    refine j_iconst (v := nI 1) dX5_serves_31 nc_iconst_1 ?_
    refine C_X5_160 rfl (by decide) dX5_serves_32 sk_123 (Nat.le_of_ble_eq_true rfl) (Nat.le_of_eq (Nat.zero_add _)) (Nat.le_of_eq (Nat.zero_add _)) (fun _ _ hM' hT' => y_isNot hM' hT') ?_
    exact j_zret hM dX5_serves_35 rfl (jv_b01 nI01a) hT
  · exact absurd nI_0 h10

set_option maxHeartbeats 4000000 in
set_option maxRecDepth 100000 in
theorem q_serves_1 {sx : Nat → jv_S} {g : jv_G} {X : jv_X} {T : jv_T} {n : Nat} {V : Nat → Nat → Int32} {L : Nat → Nat → Int64} {k z : Nat} {N K R : Nat} (hC : Mt V N K R) {l : Nat} (hl : l < K) {f : Int32} (hx : f < 0 ∨ nI N ≤ f) (hM : jv_M g X T) (hT : T (.inl (some (.int (nI 0)))) n (SH sx) (t1 V 1) L) : jv_J g X I_X5_serves 0 [some (jv_r g 123), some (.int (nI l)), some (.int f)] [] n (SH sx) V L k z := by
  obtain ⟨hN, hK, hR, hN2, hb, hK4, hR8, hEv⟩ := id hC
  obtain ⟨hN', hK', hR', -⟩ := t0_Mt hC
  refine j_aload_n_0 dX5_serves_0 ?_
  refine j_iconst (v := nI 0) dX5_serves_1 nc_iconst_0 ?_
  refine P_X5_63 rfl dX5_serves_2 sk_123 ?_
  refine j_aload_n_0 dX5_serves_5 ?_
  refine j_iload_n_1 dX5_serves_6 ?_
  refine C_X5_163 rfl (by decide) dX5_serves_7 sk_123 (Nat.le_of_ble_eq_true rfl) (Nat.le_of_eq (Nat.zero_add _)) (Nat.le_of_eq (Nat.zero_add _)) (fun _ _ hM' hT' => y_isLift (t0_Mt hC) hl hM' hT') ?_
  refine j_if_eq (tgt := 30) dX5_serves_10 (by decide) (fun h10 => ?_) (fun h10 => ?_)
  · exact absurd h10 nI1_ne
  · refine j_aload_n_0 dX5_serves_13 ?_
    refine j_iload_n_2 dX5_serves_14 ?_
    refine C_X5_146 rfl (by decide) dX5_serves_15 sk_123 (Nat.le_of_ble_eq_true rfl) (Nat.le_of_eq (Nat.zero_add _)) (Nat.le_of_eq (Nat.zero_add _)) (fun _ _ hM' hT' => n_isFloor (t0_Mt hC) hx hM' hT') ?_
    refine j_if_eq (tgt := 30) dX5_serves_18 (by decide) (fun h18 => ?_) (fun h18 => ?_)
    · refine j_aload_n_0 dX5_serves_30 ?_
      refine j_iconst (v := nI 1) dX5_serves_31 nc_iconst_1 ?_
      refine C_X5_160 rfl (by decide) dX5_serves_32 sk_123 (Nat.le_of_ble_eq_true rfl) (Nat.le_of_eq (Nat.zero_add _)) (Nat.le_of_eq (Nat.zero_add _)) (fun _ _ hM' hT' => y_isNot hM' hT') ?_
      exact j_zret hM dX5_serves_35 rfl (jv_b01 nI01a) hT
    · exact absurd nI_0 h18

set_option maxHeartbeats 4000000 in
set_option maxRecDepth 100000 in
theorem m_pipe {sx : Nat → jv_S} {g : jv_G} {X : jv_X} {T : jv_T} {n : Nat} {V : Nat → Nat → Int32} {L : Nat → Nat → Int64} {k z : Nat} {N K R : Nat} (hC : Mt V N K R) {f : Nat} (hf : f < N) {t : Nat} (ht : t < N)  (hM : jv_M g X T) (hT : T (.inl (some (.int (hoM V K f t)))) n (SH sx) (t0 V) L) : jv_J g X I_X5_pipe 0 [some (jv_r g 123), some (.int (nI f)), some (.int (nI t))] [] n (SH sx) V L k z := by
  obtain ⟨hN, hK, hR, hN2, hb, hK4, hR8, hEv⟩ := id hC
  obtain ⟨hN', hK', hR', -⟩ := t0_Mt hC
  refine j_aload_n_0 dX5_pipe_0 ?_
  refine j_iconst (v := nI 0) dX5_pipe_1 nc_iconst_0 ?_
  refine P_X5_63 rfl dX5_pipe_2 sk_123 ?_
  refine j_aload_n_0 dX5_pipe_5 ?_
  refine j_iload_n_1 dX5_pipe_6 ?_
  refine C_X5_146 rfl (by decide) dX5_pipe_7 sk_123 (Nat.le_of_ble_eq_true rfl) (Nat.le_of_eq (Nat.zero_add _)) (Nat.le_of_eq (Nat.zero_add _)) (fun _ _ hM' hT' => y_isFloor (t0_Mt hC) hf hM' hT') ?_
  refine j_if_eq (tgt := 30) dX5_pipe_10 (by decide) (fun h10 => ?_) (fun h10 => ?_)
  · exact absurd h10 nI1_ne
  · refine j_aload_n_0 dX5_pipe_13 ?_
    refine j_iload_n_2 dX5_pipe_14 ?_
    refine C_X5_146 rfl (by decide) dX5_pipe_15 sk_123 (Nat.le_of_ble_eq_true rfl) (Nat.le_of_eq (Nat.zero_add _)) (Nat.le_of_eq (Nat.zero_add _)) (fun _ _ hM' hT' => y_isFloor (t0_Mt hC) ht hM' hT') ?_
    refine j_if_eq (tgt := 30) dX5_pipe_18 (by decide) (fun h18 => ?_) (fun h18 => ?_)
    · exact absurd h18 nI1_ne
    · refine j_aload_n_0 dX5_pipe_21 ?_
      refine j_iload_n_1 dX5_pipe_22 ?_
      refine j_iload_n_2 dX5_pipe_23 ?_
      refine C_X5_99 rfl (by decide) dX5_pipe_24 sk_123 (Nat.le_of_ble_eq_true rfl) (Nat.le_of_eq (Nat.zero_add _)) (Nat.le_of_eq (Nat.zero_add _)) (fun _ _ hM' hT' => y_hoursOf (t0_Mt hC) (by omega) (by omega) hM' hT') ?_
      refine j_top (y := hoM V K f t) hoM_t0 ?_
      refine j_goto (tgt := 35) dX5_pipe_27 (by decide) ?_
      exact j_iret hM dX5_pipe_35 rfl hT

set_option maxHeartbeats 4000000 in
set_option maxRecDepth 100000 in
theorem q_pipe_0 {sx : Nat → jv_S} {g : jv_G} {X : jv_X} {T : jv_T} {n : Nat} {V : Nat → Nat → Int32} {L : Nat → Nat → Int64} {k z : Nat} {N K R : Nat} (hC : Mt V N K R) {f : Int32} {t : Int32} (hx : f < 0 ∨ nI N ≤ f) (hM : jv_M g X T) (hT : T (.inl (some (.int (nI 0)))) n (SH sx) (t1 V 1) L) : jv_J g X I_X5_pipe 0 [some (jv_r g 123), some (.int f), some (.int t)] [] n (SH sx) V L k z := by
  obtain ⟨hN, hK, hR, hN2, hb, hK4, hR8, hEv⟩ := id hC
  obtain ⟨hN', hK', hR', -⟩ := t0_Mt hC
  refine j_aload_n_0 dX5_pipe_0 ?_
  refine j_iconst (v := nI 0) dX5_pipe_1 nc_iconst_0 ?_
  refine P_X5_63 rfl dX5_pipe_2 sk_123 ?_
  refine j_aload_n_0 dX5_pipe_5 ?_
  refine j_iload_n_1 dX5_pipe_6 ?_
  refine C_X5_146 rfl (by decide) dX5_pipe_7 sk_123 (Nat.le_of_ble_eq_true rfl) (Nat.le_of_eq (Nat.zero_add _)) (Nat.le_of_eq (Nat.zero_add _)) (fun _ _ hM' hT' => n_isFloor (t0_Mt hC) hx hM' hT') ?_
  refine j_if_eq (tgt := 30) dX5_pipe_10 (by decide) (fun h10 => ?_) (fun h10 => ?_)
  · refine j_aload_n_0 dX5_pipe_30 ?_
    refine j_iconst (v := nI 1) dX5_pipe_31 nc_iconst_1 ?_
    refine C_X5_143 rfl (by decide) dX5_pipe_32 sk_123 (Nat.le_of_ble_eq_true rfl) (Nat.le_of_eq (Nat.zero_add _)) (Nat.le_of_eq (Nat.zero_add _)) (fun _ _ hM' hT' => y_no hM' hT') ?_
    exact j_iret hM dX5_pipe_35 rfl hT
  · exact absurd nI_0 h10

set_option maxHeartbeats 4000000 in
set_option maxRecDepth 100000 in
theorem q_pipe_1 {sx : Nat → jv_S} {g : jv_G} {X : jv_X} {T : jv_T} {n : Nat} {V : Nat → Nat → Int32} {L : Nat → Nat → Int64} {k z : Nat} {N K R : Nat} (hC : Mt V N K R) {f : Nat} (hf : f < N) {t : Int32} (hx : t < 0 ∨ nI N ≤ t) (hM : jv_M g X T) (hT : T (.inl (some (.int (nI 0)))) n (SH sx) (t1 V 1) L) : jv_J g X I_X5_pipe 0 [some (jv_r g 123), some (.int (nI f)), some (.int t)] [] n (SH sx) V L k z := by
  obtain ⟨hN, hK, hR, hN2, hb, hK4, hR8, hEv⟩ := id hC
  obtain ⟨hN', hK', hR', -⟩ := t0_Mt hC
  refine j_aload_n_0 dX5_pipe_0 ?_
  refine j_iconst (v := nI 0) dX5_pipe_1 nc_iconst_0 ?_
  refine P_X5_63 rfl dX5_pipe_2 sk_123 ?_
  refine j_aload_n_0 dX5_pipe_5 ?_
  refine j_iload_n_1 dX5_pipe_6 ?_
  refine C_X5_146 rfl (by decide) dX5_pipe_7 sk_123 (Nat.le_of_ble_eq_true rfl) (Nat.le_of_eq (Nat.zero_add _)) (Nat.le_of_eq (Nat.zero_add _)) (fun _ _ hM' hT' => y_isFloor (t0_Mt hC) hf hM' hT') ?_
  refine j_if_eq (tgt := 30) dX5_pipe_10 (by decide) (fun h10 => ?_) (fun h10 => ?_)
  · exact absurd h10 nI1_ne
  · refine j_aload_n_0 dX5_pipe_13 ?_
    refine j_iload_n_2 dX5_pipe_14 ?_
    refine C_X5_146 rfl (by decide) dX5_pipe_15 sk_123 (Nat.le_of_ble_eq_true rfl) (Nat.le_of_eq (Nat.zero_add _)) (Nat.le_of_eq (Nat.zero_add _)) (fun _ _ hM' hT' => n_isFloor (t0_Mt hC) hx hM' hT') ?_
    refine j_if_eq (tgt := 30) dX5_pipe_18 (by decide) (fun h18 => ?_) (fun h18 => ?_)
    · refine j_aload_n_0 dX5_pipe_30 ?_
      refine j_iconst (v := nI 1) dX5_pipe_31 nc_iconst_1 ?_
      refine C_X5_143 rfl (by decide) dX5_pipe_32 sk_123 (Nat.le_of_ble_eq_true rfl) (Nat.le_of_eq (Nat.zero_add _)) (Nat.le_of_eq (Nat.zero_add _)) (fun _ _ hM' hT' => y_no hM' hT') ?_
      exact j_iret hM dX5_pipe_35 rfl hT
    · exact absurd nI_0 h18

set_option maxHeartbeats 4000000 in
set_option maxRecDepth 100000 in
theorem m_neighbours {sx : Nat → jv_S} {g : jv_G} {X : jv_X} {T : jv_T} {n : Nat} {V : Nat → Nat → Int32} {L : Nat → Nat → Int64} {k z : Nat} {N K R : Nat} (hC : Mt V N K R) {f : Nat} (hf : f < N)  (hM : jv_M g X T) (hT : T (.inl (some (.int (nI (arL (t0 V) K f N 0 0))))) n (SH sx) (t0 V) L) : jv_J g X I_X5_neighbours 0 [some (jv_r g 123), some (.int (nI f))] [] n (SH sx) V L k z := by
  obtain ⟨hN, hK, hR, hN2, hb, hK4, hR8, hEv⟩ := id hC
  obtain ⟨hN', hK', hR', -⟩ := t0_Mt hC
  refine j_aload_n_0 dX5_neighbours_0 ?_
  refine j_iconst (v := nI 0) dX5_neighbours_1 nc_iconst_0 ?_
  refine P_X5_63 rfl dX5_neighbours_2 sk_123 ?_
  refine j_aload_n_0 dX5_neighbours_5 ?_
  refine j_iload_n_1 dX5_neighbours_6 ?_
  refine C_X5_146 rfl (by decide) dX5_neighbours_7 sk_123 (Nat.le_of_ble_eq_true rfl) (Nat.le_of_eq (Nat.zero_add _)) (Nat.le_of_eq (Nat.zero_add _)) (fun _ _ hM' hT' => y_isFloor (t0_Mt hC) hf hM' hT') ?_
  refine j_if_eq (tgt := 21) dX5_neighbours_10 (by decide) (fun h10 => ?_) (fun h10 => ?_)
  · exact absurd h10 nI1_ne
  · refine j_aload_n_0 dX5_neighbours_13 ?_
    refine j_iload_n_1 dX5_neighbours_14 ?_
    refine C_X5_183 rfl (by decide) dX5_neighbours_15 sk_123 (Nat.le_of_ble_eq_true rfl) (Nat.le_of_eq (Nat.zero_add _)) (Nat.le_of_eq (Nat.zero_add _)) (fun _ _ hM' hT' => y_around (t0_Mt hC) hf hM' hT') ?_
    refine j_goto (tgt := 26) dX5_neighbours_18 (by decide) ?_
    exact j_iret hM dX5_neighbours_26 rfl hT

set_option maxHeartbeats 4000000 in
set_option maxRecDepth 100000 in
theorem q_neighbours_0 {sx : Nat → jv_S} {g : jv_G} {X : jv_X} {T : jv_T} {n : Nat} {V : Nat → Nat → Int32} {L : Nat → Nat → Int64} {k z : Nat} {N K R : Nat} (hC : Mt V N K R) {f : Int32} (hx : f < 0 ∨ nI N ≤ f) (hM : jv_M g X T) (hT : T (.inl (some (.int (nI 0)))) n (SH sx) (t1 V 1) L) : jv_J g X I_X5_neighbours 0 [some (jv_r g 123), some (.int f)] [] n (SH sx) V L k z := by
  obtain ⟨hN, hK, hR, hN2, hb, hK4, hR8, hEv⟩ := id hC
  obtain ⟨hN', hK', hR', -⟩ := t0_Mt hC
  refine j_aload_n_0 dX5_neighbours_0 ?_
  refine j_iconst (v := nI 0) dX5_neighbours_1 nc_iconst_0 ?_
  refine P_X5_63 rfl dX5_neighbours_2 sk_123 ?_
  refine j_aload_n_0 dX5_neighbours_5 ?_
  refine j_iload_n_1 dX5_neighbours_6 ?_
  refine C_X5_146 rfl (by decide) dX5_neighbours_7 sk_123 (Nat.le_of_ble_eq_true rfl) (Nat.le_of_eq (Nat.zero_add _)) (Nat.le_of_eq (Nat.zero_add _)) (fun _ _ hM' hT' => n_isFloor (t0_Mt hC) hx hM' hT') ?_
  refine j_if_eq (tgt := 21) dX5_neighbours_10 (by decide) (fun h10 => ?_) (fun h10 => ?_)
  · refine j_aload_n_0 dX5_neighbours_21 ?_
    refine j_iconst (v := nI 1) dX5_neighbours_22 nc_iconst_1 ?_
    refine C_X5_143 rfl (by decide) dX5_neighbours_23 sk_123 (Nat.le_of_ble_eq_true rfl) (Nat.le_of_eq (Nat.zero_add _)) (Nat.le_of_eq (Nat.zero_add _)) (fun _ _ hM' hT' => y_no hM' hT') ?_
    exact j_iret hM dX5_neighbours_26 rfl hT
  · exact absurd nI_0 h10

set_option maxHeartbeats 4000000 in
set_option maxRecDepth 100000 in
theorem y_told {sx : Nat → jv_S} {g : jv_G} {X : jv_X} {T : jv_T} {n : Nat} {V : Nat → Nat → Int32} {L : Nat → Nat → Int64} {k z : Nat} {N K R : Nat} (hC : Mt V N K R) {j f w : Nat} (hj : j < R) (hf : f < N) (hw : w ≤ 288) (hM : jv_M g X T) (hT : T (.inl (some (.int (V 135 (w + 12 * j + f))))) n (SH sx) (t0 V) L) : jv_J g X I_X5_told 0 [some (jv_r g 123), some (.int (nI j)), some (.int (nI f)), some (.int (nI w))] [] n (SH sx) V L k z := by
  obtain ⟨hN, hK, hR, hN2, hb, hK4, hR8, hEv⟩ := id hC
  obtain ⟨hN', hK', hR', -⟩ := t0_Mt hC
  refine j_aload_n_0 dX5_told_0 ?_
  refine j_iconst (v := nI 0) dX5_told_1 nc_iconst_0 ?_
  refine P_X5_63 rfl dX5_told_2 sk_123 ?_
  refine j_aload_n_0 dX5_told_5 ?_
  refine j_iload_n_1 dX5_told_6 ?_
  refine C_X5_166 rfl (by decide) dX5_told_7 sk_123 (Nat.le_of_ble_eq_true rfl) (Nat.le_of_eq (Nat.zero_add _)) (Nat.le_of_eq (Nat.zero_add _)) (fun _ _ hM' hT' => y_isRumour (t0_Mt hC) hj hM' hT') ?_
  refine j_if_eq (tgt := 37) dX5_told_10 (by decide) (fun h10 => ?_) (fun h10 => ?_)
  · exact absurd h10 nI1_ne
  · refine j_aload_n_0 dX5_told_13 ?_
    refine j_iload_n_2 dX5_told_14 ?_
    refine C_X5_146 rfl (by decide) dX5_told_15 sk_123 (Nat.le_of_ble_eq_true rfl) (Nat.le_of_eq (Nat.zero_add _)) (Nat.le_of_eq (Nat.zero_add _)) (fun _ _ hM' hT' => y_isFloor (t0_Mt hC) hf hM' hT') ?_
    refine j_if_eq (tgt := 37) dX5_told_18 (by decide) (fun h18 => ?_) (fun h18 => ?_)
    · exact absurd h18 nI1_ne
    · refine j_aload_n_0 dX5_told_21 ?_
      refine G_X5_44 rfl dX5_told_22 sk_123 sr_123_15 ?_
      refine j_iload_n_3 dX5_told_25 ?_
      refine j_bipush (v := nI 12) dX5_told_26 nc_bipush_12 ?_
      refine j_iload_n_1 dX5_told_28 ?_
      refine j_imulN dX5_told_29 ?_
      refine j_iaddN dX5_told_30 ?_
      refine j_iload_n_2 dX5_told_31 ?_
      refine j_iaddN dX5_told_32 ?_
      refine j_iald dX5_told_33 sk_135 sn_135 (by omega) (by decide) ?_
      refine j_top (y := V 135 (w + 12 * j + f)) (by rw [t0_out (by omega)]) ?_
      refine j_goto (tgt := 42) dX5_told_34 (by decide) ?_
      exact j_iret hM dX5_told_42 rfl hT

set_option maxHeartbeats 4000000 in
set_option maxRecDepth 100000 in
theorem n_told0 {sx : Nat → jv_S} {g : jv_G} {X : jv_X} {T : jv_T} {n : Nat} {V : Nat → Nat → Int32} {L : Nat → Nat → Int64} {k z : Nat} {N K R : Nat} (hC : Mt V N K R) {j f w : Int32} (hx : j < 0 ∨ nI R ≤ j) (hM : jv_M g X T) (hT : T (.inl (some (.int (nI 0)))) n (SH sx) (t1 V 1) L) : jv_J g X I_X5_told 0 [some (jv_r g 123), some (.int j), some (.int f), some (.int w)] [] n (SH sx) V L k z := by
  obtain ⟨hN, hK, hR, hN2, hb, hK4, hR8, hEv⟩ := id hC
  obtain ⟨hN', hK', hR', -⟩ := t0_Mt hC
  refine j_aload_n_0 dX5_told_0 ?_
  refine j_iconst (v := nI 0) dX5_told_1 nc_iconst_0 ?_
  refine P_X5_63 rfl dX5_told_2 sk_123 ?_
  refine j_aload_n_0 dX5_told_5 ?_
  refine j_iload_n_1 dX5_told_6 ?_
  refine C_X5_166 rfl (by decide) dX5_told_7 sk_123 (Nat.le_of_ble_eq_true rfl) (Nat.le_of_eq (Nat.zero_add _)) (Nat.le_of_eq (Nat.zero_add _)) (fun _ _ hM' hT' => n_isRumour (t0_Mt hC) hx hM' hT') ?_
  refine j_if_eq (tgt := 37) dX5_told_10 (by decide) (fun h10 => ?_) (fun h10 => ?_)
  · refine j_aload_n_0 dX5_told_37 ?_
    refine j_iconst (v := nI 1) dX5_told_38 nc_iconst_1 ?_
    refine C_X5_143 rfl (by decide) dX5_told_39 sk_123 (Nat.le_of_ble_eq_true rfl) (Nat.le_of_eq (Nat.zero_add _)) (Nat.le_of_eq (Nat.zero_add _)) (fun _ _ hM' hT' => y_no hM' hT') ?_
    exact j_iret hM dX5_told_42 rfl hT
  · exact absurd nI_0 h10

set_option maxHeartbeats 4000000 in
set_option maxRecDepth 100000 in
theorem n_told1 {sx : Nat → jv_S} {g : jv_G} {X : jv_X} {T : jv_T} {n : Nat} {V : Nat → Nat → Int32} {L : Nat → Nat → Int64} {k z : Nat} {N K R : Nat} (hC : Mt V N K R) {j : Nat} {f w : Int32} (hj : j < R) (hx : f < 0 ∨ nI N ≤ f) (hM : jv_M g X T) (hT : T (.inl (some (.int (nI 0)))) n (SH sx) (t1 V 1) L) : jv_J g X I_X5_told 0 [some (jv_r g 123), some (.int (nI j)), some (.int f), some (.int w)] [] n (SH sx) V L k z := by
  obtain ⟨hN, hK, hR, hN2, hb, hK4, hR8, hEv⟩ := id hC
  obtain ⟨hN', hK', hR', -⟩ := t0_Mt hC
  refine j_aload_n_0 dX5_told_0 ?_
  refine j_iconst (v := nI 0) dX5_told_1 nc_iconst_0 ?_
  refine P_X5_63 rfl dX5_told_2 sk_123 ?_
  refine j_aload_n_0 dX5_told_5 ?_
  refine j_iload_n_1 dX5_told_6 ?_
  refine C_X5_166 rfl (by decide) dX5_told_7 sk_123 (Nat.le_of_ble_eq_true rfl) (Nat.le_of_eq (Nat.zero_add _)) (Nat.le_of_eq (Nat.zero_add _)) (fun _ _ hM' hT' => y_isRumour (t0_Mt hC) hj hM' hT') ?_
  refine j_if_eq (tgt := 37) dX5_told_10 (by decide) (fun h10 => ?_) (fun h10 => ?_)
  · exact absurd h10 nI1_ne
  · refine j_aload_n_0 dX5_told_13 ?_
    refine j_iload_n_2 dX5_told_14 ?_
    refine C_X5_146 rfl (by decide) dX5_told_15 sk_123 (Nat.le_of_ble_eq_true rfl) (Nat.le_of_eq (Nat.zero_add _)) (Nat.le_of_eq (Nat.zero_add _)) (fun _ _ hM' hT' => n_isFloor (t0_Mt hC) hx hM' hT') ?_
    refine j_if_eq (tgt := 37) dX5_told_18 (by decide) (fun h18 => ?_) (fun h18 => ?_)
    · refine j_aload_n_0 dX5_told_37 ?_
      refine j_iconst (v := nI 1) dX5_told_38 nc_iconst_1 ?_
      refine C_X5_143 rfl (by decide) dX5_told_39 sk_123 (Nat.le_of_ble_eq_true rfl) (Nat.le_of_eq (Nat.zero_add _)) (Nat.le_of_eq (Nat.zero_add _)) (fun _ _ hM' hT' => y_no hM' hT') ?_
      exact j_iret hM dX5_told_42 rfl hT
    · exact absurd nI_0 h18

set_option maxHeartbeats 4000000 in
set_option maxRecDepth 100000 in
theorem m_stateOf {sx : Nat → jv_S} {g : jv_G} {X : jv_X} {T : jv_T} {n : Nat} {V : Nat → Nat → Int32} {L : Nat → Nat → Int64} {k z : Nat} {N K R : Nat} (hC : Mt V N K R) {j f : Nat} (hj : j < R) (hf : f < N) (hM : jv_M g X T) (hT : T (.inl (some (.int (V 135 (0 + 12 * j + f))))) n (SH sx) (t0 V) L) : jv_J g X I_X5_stateOf 0 [some (jv_r g 123), some (.int (nI j)), some (.int (nI f))] [] n (SH sx) V L k z := by
  refine j_aload_n_0 dX5_stateOf_0 ?_
  refine j_iload_n_1 dX5_stateOf_1 ?_
  refine j_iload_n_2 dX5_stateOf_2 ?_
  refine j_iconst (v := nI 0) dX5_stateOf_3 nc_iconst_0 ?_
  refine C_X5_186 rfl (by decide) dX5_stateOf_4 sk_123 (Nat.le_of_ble_eq_true rfl) (Nat.le_of_eq (Nat.zero_add _)) (Nat.le_of_eq (Nat.zero_add _)) (fun _ _ hM' hT' => y_told hC hj hf (by omega) hM' hT') ?_
  exact j_iret hM dX5_stateOf_7 rfl hT

set_option maxHeartbeats 4000000 in
set_option maxRecDepth 100000 in
theorem q_stateOf_0 {sx : Nat → jv_S} {g : jv_G} {X : jv_X} {T : jv_T} {n : Nat} {V : Nat → Nat → Int32} {L : Nat → Nat → Int64} {k z : Nat} {N K R : Nat} (hC : Mt V N K R) {j f : Int32} (hx : j < 0 ∨ nI R ≤ j) (hM : jv_M g X T) (hT : T (.inl (some (.int (nI 0)))) n (SH sx) (t1 V 1) L) : jv_J g X I_X5_stateOf 0 [some (jv_r g 123), some (.int j), some (.int f)] [] n (SH sx) V L k z := by
  refine j_aload_n_0 dX5_stateOf_0 ?_
  refine j_iload_n_1 dX5_stateOf_1 ?_
  refine j_iload_n_2 dX5_stateOf_2 ?_
  refine j_iconst (v := nI 0) dX5_stateOf_3 nc_iconst_0 ?_
  refine C_X5_186 rfl (by decide) dX5_stateOf_4 sk_123 (Nat.le_of_ble_eq_true rfl) (Nat.le_of_eq (Nat.zero_add _)) (Nat.le_of_eq (Nat.zero_add _)) (fun _ _ hM' hT' => n_told0 hC hx hM' hT') ?_
  exact j_iret hM dX5_stateOf_7 rfl hT

set_option maxHeartbeats 4000000 in
set_option maxRecDepth 100000 in
theorem q_stateOf_1 {sx : Nat → jv_S} {g : jv_G} {X : jv_X} {T : jv_T} {n : Nat} {V : Nat → Nat → Int32} {L : Nat → Nat → Int64} {k z : Nat} {N K R : Nat} (hC : Mt V N K R) {j : Nat} {f : Int32} (hj : j < R) (hx : f < 0 ∨ nI N ≤ f) (hM : jv_M g X T) (hT : T (.inl (some (.int (nI 0)))) n (SH sx) (t1 V 1) L) : jv_J g X I_X5_stateOf 0 [some (jv_r g 123), some (.int (nI j)), some (.int f)] [] n (SH sx) V L k z := by
  refine j_aload_n_0 dX5_stateOf_0 ?_
  refine j_iload_n_1 dX5_stateOf_1 ?_
  refine j_iload_n_2 dX5_stateOf_2 ?_
  refine j_iconst (v := nI 0) dX5_stateOf_3 nc_iconst_0 ?_
  refine C_X5_186 rfl (by decide) dX5_stateOf_4 sk_123 (Nat.le_of_ble_eq_true rfl) (Nat.le_of_eq (Nat.zero_add _)) (Nat.le_of_eq (Nat.zero_add _)) (fun _ _ hM' hT' => n_told1 hC hj hx hM' hT') ?_
  exact j_iret hM dX5_stateOf_7 rfl hT

set_option maxHeartbeats 4000000 in
set_option maxRecDepth 100000 in
theorem m_heardAt {sx : Nat → jv_S} {g : jv_G} {X : jv_X} {T : jv_T} {n : Nat} {V : Nat → Nat → Int32} {L : Nat → Nat → Int64} {k z : Nat} {N K R : Nat} (hC : Mt V N K R) {j f : Nat} (hj : j < R) (hf : f < N) (hM : jv_M g X T) (hT : T (.inl (some (.int (V 135 (96 + 12 * j + f))))) n (SH sx) (t0 V) L) : jv_J g X I_X5_heardAt 0 [some (jv_r g 123), some (.int (nI j)), some (.int (nI f))] [] n (SH sx) V L k z := by
  refine j_aload_n_0 dX5_heardAt_0 ?_
  refine j_iload_n_1 dX5_heardAt_1 ?_
  refine j_iload_n_2 dX5_heardAt_2 ?_
  refine j_bipush (v := nI 96) dX5_heardAt_3 nc_bipush_96 ?_
  refine C_X5_186 rfl (by decide) dX5_heardAt_5 sk_123 (Nat.le_of_ble_eq_true rfl) (Nat.le_of_eq (Nat.zero_add _)) (Nat.le_of_eq (Nat.zero_add _)) (fun _ _ hM' hT' => y_told hC hj hf (by omega) hM' hT') ?_
  exact j_iret hM dX5_heardAt_8 rfl hT

set_option maxHeartbeats 4000000 in
set_option maxRecDepth 100000 in
theorem q_heardAt_0 {sx : Nat → jv_S} {g : jv_G} {X : jv_X} {T : jv_T} {n : Nat} {V : Nat → Nat → Int32} {L : Nat → Nat → Int64} {k z : Nat} {N K R : Nat} (hC : Mt V N K R) {j f : Int32} (hx : j < 0 ∨ nI R ≤ j) (hM : jv_M g X T) (hT : T (.inl (some (.int (nI 0)))) n (SH sx) (t1 V 1) L) : jv_J g X I_X5_heardAt 0 [some (jv_r g 123), some (.int j), some (.int f)] [] n (SH sx) V L k z := by
  refine j_aload_n_0 dX5_heardAt_0 ?_
  refine j_iload_n_1 dX5_heardAt_1 ?_
  refine j_iload_n_2 dX5_heardAt_2 ?_
  refine j_bipush (v := nI 96) dX5_heardAt_3 nc_bipush_96 ?_
  refine C_X5_186 rfl (by decide) dX5_heardAt_5 sk_123 (Nat.le_of_ble_eq_true rfl) (Nat.le_of_eq (Nat.zero_add _)) (Nat.le_of_eq (Nat.zero_add _)) (fun _ _ hM' hT' => n_told0 hC hx hM' hT') ?_
  exact j_iret hM dX5_heardAt_8 rfl hT

set_option maxHeartbeats 4000000 in
set_option maxRecDepth 100000 in
theorem q_heardAt_1 {sx : Nat → jv_S} {g : jv_G} {X : jv_X} {T : jv_T} {n : Nat} {V : Nat → Nat → Int32} {L : Nat → Nat → Int64} {k z : Nat} {N K R : Nat} (hC : Mt V N K R) {j : Nat} {f : Int32} (hj : j < R) (hx : f < 0 ∨ nI N ≤ f) (hM : jv_M g X T) (hT : T (.inl (some (.int (nI 0)))) n (SH sx) (t1 V 1) L) : jv_J g X I_X5_heardAt 0 [some (jv_r g 123), some (.int (nI j)), some (.int f)] [] n (SH sx) V L k z := by
  refine j_aload_n_0 dX5_heardAt_0 ?_
  refine j_iload_n_1 dX5_heardAt_1 ?_
  refine j_iload_n_2 dX5_heardAt_2 ?_
  refine j_bipush (v := nI 96) dX5_heardAt_3 nc_bipush_96 ?_
  refine C_X5_186 rfl (by decide) dX5_heardAt_5 sk_123 (Nat.le_of_ble_eq_true rfl) (Nat.le_of_eq (Nat.zero_add _)) (Nat.le_of_eq (Nat.zero_add _)) (fun _ _ hM' hT' => n_told1 hC hj hx hM' hT') ?_
  exact j_iret hM dX5_heardAt_8 rfl hT

set_option maxHeartbeats 4000000 in
set_option maxRecDepth 100000 in
theorem m_deniedAt {sx : Nat → jv_S} {g : jv_G} {X : jv_X} {T : jv_T} {n : Nat} {V : Nat → Nat → Int32} {L : Nat → Nat → Int64} {k z : Nat} {N K R : Nat} (hC : Mt V N K R) {j f : Nat} (hj : j < R) (hf : f < N) (hM : jv_M g X T) (hT : T (.inl (some (.int (V 135 (288 + 12 * j + f))))) n (SH sx) (t0 V) L) : jv_J g X I_X5_deniedAt 0 [some (jv_r g 123), some (.int (nI j)), some (.int (nI f))] [] n (SH sx) V L k z := by
  refine j_aload_n_0 dX5_deniedAt_0 ?_
  refine j_iload_n_1 dX5_deniedAt_1 ?_
  refine j_iload_n_2 dX5_deniedAt_2 ?_
  refine j_sipush (v := nI 288) dX5_deniedAt_3 nc_sipush_288 ?_
  refine C_X5_186 rfl (by decide) dX5_deniedAt_6 sk_123 (Nat.le_of_ble_eq_true rfl) (Nat.le_of_eq (Nat.zero_add _)) (Nat.le_of_eq (Nat.zero_add _)) (fun _ _ hM' hT' => y_told hC hj hf (by omega) hM' hT') ?_
  exact j_iret hM dX5_deniedAt_9 rfl hT

set_option maxHeartbeats 4000000 in
set_option maxRecDepth 100000 in
theorem q_deniedAt_0 {sx : Nat → jv_S} {g : jv_G} {X : jv_X} {T : jv_T} {n : Nat} {V : Nat → Nat → Int32} {L : Nat → Nat → Int64} {k z : Nat} {N K R : Nat} (hC : Mt V N K R) {j f : Int32} (hx : j < 0 ∨ nI R ≤ j) (hM : jv_M g X T) (hT : T (.inl (some (.int (nI 0)))) n (SH sx) (t1 V 1) L) : jv_J g X I_X5_deniedAt 0 [some (jv_r g 123), some (.int j), some (.int f)] [] n (SH sx) V L k z := by
  refine j_aload_n_0 dX5_deniedAt_0 ?_
  refine j_iload_n_1 dX5_deniedAt_1 ?_
  refine j_iload_n_2 dX5_deniedAt_2 ?_
  refine j_sipush (v := nI 288) dX5_deniedAt_3 nc_sipush_288 ?_
  refine C_X5_186 rfl (by decide) dX5_deniedAt_6 sk_123 (Nat.le_of_ble_eq_true rfl) (Nat.le_of_eq (Nat.zero_add _)) (Nat.le_of_eq (Nat.zero_add _)) (fun _ _ hM' hT' => n_told0 hC hx hM' hT') ?_
  exact j_iret hM dX5_deniedAt_9 rfl hT

set_option maxHeartbeats 4000000 in
set_option maxRecDepth 100000 in
theorem q_deniedAt_1 {sx : Nat → jv_S} {g : jv_G} {X : jv_X} {T : jv_T} {n : Nat} {V : Nat → Nat → Int32} {L : Nat → Nat → Int64} {k z : Nat} {N K R : Nat} (hC : Mt V N K R) {j : Nat} {f : Int32} (hj : j < R) (hx : f < 0 ∨ nI N ≤ f) (hM : jv_M g X T) (hT : T (.inl (some (.int (nI 0)))) n (SH sx) (t1 V 1) L) : jv_J g X I_X5_deniedAt 0 [some (jv_r g 123), some (.int (nI j)), some (.int f)] [] n (SH sx) V L k z := by
  refine j_aload_n_0 dX5_deniedAt_0 ?_
  refine j_iload_n_1 dX5_deniedAt_1 ?_
  refine j_iload_n_2 dX5_deniedAt_2 ?_
  refine j_sipush (v := nI 288) dX5_deniedAt_3 nc_sipush_288 ?_
  refine C_X5_186 rfl (by decide) dX5_deniedAt_6 sk_123 (Nat.le_of_ble_eq_true rfl) (Nat.le_of_eq (Nat.zero_add _)) (Nat.le_of_eq (Nat.zero_add _)) (fun _ _ hM' hT' => n_told1 hC hj hx hM' hT') ?_
  exact j_iret hM dX5_deniedAt_9 rfl hT

set_option maxHeartbeats 4000000 in
set_option maxRecDepth 100000 in
theorem m_pipesTo {sx : Nat → jv_S} {g : jv_G} {X : jv_X} {T : jv_T} {n : Nat} {V : Nat → Nat → Int32} {L : Nat → Nat → Int64} {k z : Nat} {N K R : Nat} (hC : Mt V N K R) {j f : Nat} (hj : j < R) (hf : f < N) (hM : jv_M g X T) (hT : T (.inl (some (.int (V 135 (192 + 12 * j + f))))) n (SH sx) (t0 V) L) : jv_J g X I_X5_pipesTo 0 [some (jv_r g 123), some (.int (nI j)), some (.int (nI f))] [] n (SH sx) V L k z := by
  refine j_aload_n_0 dX5_pipesTo_0 ?_
  refine j_iload_n_1 dX5_pipesTo_1 ?_
  refine j_iload_n_2 dX5_pipesTo_2 ?_
  refine j_sipush (v := nI 192) dX5_pipesTo_3 nc_sipush_192 ?_
  refine C_X5_186 rfl (by decide) dX5_pipesTo_6 sk_123 (Nat.le_of_ble_eq_true rfl) (Nat.le_of_eq (Nat.zero_add _)) (Nat.le_of_eq (Nat.zero_add _)) (fun _ _ hM' hT' => y_told hC hj hf (by omega) hM' hT') ?_
  exact j_iret hM dX5_pipesTo_9 rfl hT

set_option maxHeartbeats 4000000 in
set_option maxRecDepth 100000 in
theorem q_pipesTo_0 {sx : Nat → jv_S} {g : jv_G} {X : jv_X} {T : jv_T} {n : Nat} {V : Nat → Nat → Int32} {L : Nat → Nat → Int64} {k z : Nat} {N K R : Nat} (hC : Mt V N K R) {j f : Int32} (hx : j < 0 ∨ nI R ≤ j) (hM : jv_M g X T) (hT : T (.inl (some (.int (nI 0)))) n (SH sx) (t1 V 1) L) : jv_J g X I_X5_pipesTo 0 [some (jv_r g 123), some (.int j), some (.int f)] [] n (SH sx) V L k z := by
  refine j_aload_n_0 dX5_pipesTo_0 ?_
  refine j_iload_n_1 dX5_pipesTo_1 ?_
  refine j_iload_n_2 dX5_pipesTo_2 ?_
  refine j_sipush (v := nI 192) dX5_pipesTo_3 nc_sipush_192 ?_
  refine C_X5_186 rfl (by decide) dX5_pipesTo_6 sk_123 (Nat.le_of_ble_eq_true rfl) (Nat.le_of_eq (Nat.zero_add _)) (Nat.le_of_eq (Nat.zero_add _)) (fun _ _ hM' hT' => n_told0 hC hx hM' hT') ?_
  exact j_iret hM dX5_pipesTo_9 rfl hT

set_option maxHeartbeats 4000000 in
set_option maxRecDepth 100000 in
theorem q_pipesTo_1 {sx : Nat → jv_S} {g : jv_G} {X : jv_X} {T : jv_T} {n : Nat} {V : Nat → Nat → Int32} {L : Nat → Nat → Int64} {k z : Nat} {N K R : Nat} (hC : Mt V N K R) {j : Nat} {f : Int32} (hj : j < R) (hx : f < 0 ∨ nI N ≤ f) (hM : jv_M g X T) (hT : T (.inl (some (.int (nI 0)))) n (SH sx) (t1 V 1) L) : jv_J g X I_X5_pipesTo 0 [some (jv_r g 123), some (.int (nI j)), some (.int f)] [] n (SH sx) V L k z := by
  refine j_aload_n_0 dX5_pipesTo_0 ?_
  refine j_iload_n_1 dX5_pipesTo_1 ?_
  refine j_iload_n_2 dX5_pipesTo_2 ?_
  refine j_sipush (v := nI 192) dX5_pipesTo_3 nc_sipush_192 ?_
  refine C_X5_186 rfl (by decide) dX5_pipesTo_6 sk_123 (Nat.le_of_ble_eq_true rfl) (Nat.le_of_eq (Nat.zero_add _)) (Nat.le_of_eq (Nat.zero_add _)) (fun _ _ hM' hT' => n_told1 hC hj hx hM' hT') ?_
  exact j_iret hM dX5_pipesTo_9 rfl hT

set_option maxHeartbeats 4000000 in
set_option maxRecDepth 100000 in
theorem m_believers {sx : Nat → jv_S} {g : jv_G} {X : jv_X} {T : jv_T} {n : Nat} {V : Nat → Nat → Int32} {L : Nat → Nat → Int64} {k z : Nat} {N K R : Nat} (hC : Mt V N K R) {j : Nat} (hj : j < R)  (hM : jv_M g X T) (hT : T (.inl (some (.int (beL (t0 V) j N 0 (nI 0))))) n (SH sx) (t0 V) L) : jv_J g X I_X5_believers 0 [some (jv_r g 123), some (.int (nI j))] [] n (SH sx) V L k z := by
  obtain ⟨hN, hK, hR, hN2, hb, hK4, hR8, hEv⟩ := id hC
  obtain ⟨hN', hK', hR', -⟩ := t0_Mt hC
  refine j_aload_n_0 dX5_believers_0 ?_
  refine j_iconst (v := nI 0) dX5_believers_1 nc_iconst_0 ?_
  refine P_X5_63 rfl dX5_believers_2 sk_123 ?_
  refine j_aload_n_0 dX5_believers_5 ?_
  refine j_iload_n_1 dX5_believers_6 ?_
  refine C_X5_166 rfl (by decide) dX5_believers_7 sk_123 (Nat.le_of_ble_eq_true rfl) (Nat.le_of_eq (Nat.zero_add _)) (Nat.le_of_eq (Nat.zero_add _)) (fun _ _ hM' hT' => y_isRumour (t0_Mt hC) hj hM' hT') ?_
  refine j_if_eq (tgt := 21) dX5_believers_10 (by decide) (fun h10 => ?_) (fun h10 => ?_)
  · exact absurd h10 nI1_ne
  · refine j_aload_n_0 dX5_believers_13 ?_
    refine j_iload_n_1 dX5_believers_14 ?_
    refine C_X5_190 rfl (by decide) dX5_believers_15 sk_123 (Nat.le_of_ble_eq_true rfl) (Nat.le_of_eq (Nat.zero_add _)) (Nat.le_of_eq (Nat.zero_add _)) (fun _ _ hM' hT' => y_believing (t0_Mt hC) (by omega) hM' hT') ?_
    refine j_goto (tgt := 26) dX5_believers_18 (by decide) ?_
    exact j_iret hM dX5_believers_26 rfl hT

set_option maxHeartbeats 4000000 in
set_option maxRecDepth 100000 in
theorem q_believers_0 {sx : Nat → jv_S} {g : jv_G} {X : jv_X} {T : jv_T} {n : Nat} {V : Nat → Nat → Int32} {L : Nat → Nat → Int64} {k z : Nat} {N K R : Nat} (hC : Mt V N K R) {j : Int32} (hx : j < 0 ∨ nI R ≤ j) (hM : jv_M g X T) (hT : T (.inl (some (.int (nI 0)))) n (SH sx) (t1 V 1) L) : jv_J g X I_X5_believers 0 [some (jv_r g 123), some (.int j)] [] n (SH sx) V L k z := by
  obtain ⟨hN, hK, hR, hN2, hb, hK4, hR8, hEv⟩ := id hC
  obtain ⟨hN', hK', hR', -⟩ := t0_Mt hC
  refine j_aload_n_0 dX5_believers_0 ?_
  refine j_iconst (v := nI 0) dX5_believers_1 nc_iconst_0 ?_
  refine P_X5_63 rfl dX5_believers_2 sk_123 ?_
  refine j_aload_n_0 dX5_believers_5 ?_
  refine j_iload_n_1 dX5_believers_6 ?_
  refine C_X5_166 rfl (by decide) dX5_believers_7 sk_123 (Nat.le_of_ble_eq_true rfl) (Nat.le_of_eq (Nat.zero_add _)) (Nat.le_of_eq (Nat.zero_add _)) (fun _ _ hM' hT' => n_isRumour (t0_Mt hC) hx hM' hT') ?_
  refine j_if_eq (tgt := 21) dX5_believers_10 (by decide) (fun h10 => ?_) (fun h10 => ?_)
  · refine j_aload_n_0 dX5_believers_21 ?_
    refine j_iconst (v := nI 1) dX5_believers_22 nc_iconst_1 ?_
    refine C_X5_143 rfl (by decide) dX5_believers_23 sk_123 (Nat.le_of_ble_eq_true rfl) (Nat.le_of_eq (Nat.zero_add _)) (Nat.le_of_eq (Nat.zero_add _)) (fun _ _ hM' hT' => y_no hM' hT') ?_
    exact j_iret hM dX5_believers_26 rfl hT
  · exact absurd nI_0 h10

set_option maxHeartbeats 4000000 in
set_option maxRecDepth 100000 in
theorem m_reached {sx : Nat → jv_S} {g : jv_G} {X : jv_X} {T : jv_T} {n : Nat} {V : Nat → Nat → Int32} {L : Nat → Nat → Int64} {k z : Nat} {N K R : Nat} (hC : Mt V N K R) {j : Nat} (hj : j < R)  (hM : jv_M g X T) (hT : T (.inl (some (.int (nI (hdL (t0 V) j N 0 0))))) n (SH sx) (t0 V) L) : jv_J g X I_X5_reached 0 [some (jv_r g 123), some (.int (nI j))] [] n (SH sx) V L k z := by
  obtain ⟨hN, hK, hR, hN2, hb, hK4, hR8, hEv⟩ := id hC
  obtain ⟨hN', hK', hR', -⟩ := t0_Mt hC
  refine j_aload_n_0 dX5_reached_0 ?_
  refine j_iconst (v := nI 0) dX5_reached_1 nc_iconst_0 ?_
  refine P_X5_63 rfl dX5_reached_2 sk_123 ?_
  refine j_aload_n_0 dX5_reached_5 ?_
  refine j_iload_n_1 dX5_reached_6 ?_
  refine C_X5_166 rfl (by decide) dX5_reached_7 sk_123 (Nat.le_of_ble_eq_true rfl) (Nat.le_of_eq (Nat.zero_add _)) (Nat.le_of_eq (Nat.zero_add _)) (fun _ _ hM' hT' => y_isRumour (t0_Mt hC) hj hM' hT') ?_
  refine j_if_eq (tgt := 21) dX5_reached_10 (by decide) (fun h10 => ?_) (fun h10 => ?_)
  · exact absurd h10 nI1_ne
  · refine j_aload_n_0 dX5_reached_13 ?_
    refine j_iload_n_1 dX5_reached_14 ?_
    refine C_X5_136 rfl (by decide) dX5_reached_15 sk_123 (Nat.le_of_ble_eq_true rfl) (Nat.le_of_eq (Nat.zero_add _)) (Nat.le_of_eq (Nat.zero_add _)) (fun _ _ hM' hT' => y_heardOf (t0_Mt hC) (by omega) hM' hT') ?_
    refine j_goto (tgt := 26) dX5_reached_18 (by decide) ?_
    exact j_iret hM dX5_reached_26 rfl hT

set_option maxHeartbeats 4000000 in
set_option maxRecDepth 100000 in
theorem q_reached_0 {sx : Nat → jv_S} {g : jv_G} {X : jv_X} {T : jv_T} {n : Nat} {V : Nat → Nat → Int32} {L : Nat → Nat → Int64} {k z : Nat} {N K R : Nat} (hC : Mt V N K R) {j : Int32} (hx : j < 0 ∨ nI R ≤ j) (hM : jv_M g X T) (hT : T (.inl (some (.int (nI 0)))) n (SH sx) (t1 V 1) L) : jv_J g X I_X5_reached 0 [some (jv_r g 123), some (.int j)] [] n (SH sx) V L k z := by
  obtain ⟨hN, hK, hR, hN2, hb, hK4, hR8, hEv⟩ := id hC
  obtain ⟨hN', hK', hR', -⟩ := t0_Mt hC
  refine j_aload_n_0 dX5_reached_0 ?_
  refine j_iconst (v := nI 0) dX5_reached_1 nc_iconst_0 ?_
  refine P_X5_63 rfl dX5_reached_2 sk_123 ?_
  refine j_aload_n_0 dX5_reached_5 ?_
  refine j_iload_n_1 dX5_reached_6 ?_
  refine C_X5_166 rfl (by decide) dX5_reached_7 sk_123 (Nat.le_of_ble_eq_true rfl) (Nat.le_of_eq (Nat.zero_add _)) (Nat.le_of_eq (Nat.zero_add _)) (fun _ _ hM' hT' => n_isRumour (t0_Mt hC) hx hM' hT') ?_
  refine j_if_eq (tgt := 21) dX5_reached_10 (by decide) (fun h10 => ?_) (fun h10 => ?_)
  · refine j_aload_n_0 dX5_reached_21 ?_
    refine j_iconst (v := nI 1) dX5_reached_22 nc_iconst_1 ?_
    refine C_X5_143 rfl (by decide) dX5_reached_23 sk_123 (Nat.le_of_ble_eq_true rfl) (Nat.le_of_eq (Nat.zero_add _)) (Nat.le_of_eq (Nat.zero_add _)) (fun _ _ hM' hT' => y_no hM' hT') ?_
    exact j_iret hM dX5_reached_26 rfl hT
  · exact absurd nI_0 h10

set_option maxHeartbeats 4000000 in
set_option maxRecDepth 100000 in
theorem m_underWay {sx : Nat → jv_S} {g : jv_G} {X : jv_X} {T : jv_T} {n : Nat} {V : Nat → Nat → Int32} {L : Nat → Nat → Int64} {k z : Nat} {N K R : Nat} (hC : Mt V N K R) {j : Nat} (hj : j < R)  (hM : jv_M g X T) (hT : T (.inl (some (.int (nI (owL (t0 V) j N 0 0))))) n (SH sx) (t0 V) L) : jv_J g X I_X5_underWay 0 [some (jv_r g 123), some (.int (nI j))] [] n (SH sx) V L k z := by
  obtain ⟨hN, hK, hR, hN2, hb, hK4, hR8, hEv⟩ := id hC
  obtain ⟨hN', hK', hR', -⟩ := t0_Mt hC
  refine j_aload_n_0 dX5_underWay_0 ?_
  refine j_iconst (v := nI 0) dX5_underWay_1 nc_iconst_0 ?_
  refine P_X5_63 rfl dX5_underWay_2 sk_123 ?_
  refine j_aload_n_0 dX5_underWay_5 ?_
  refine j_iload_n_1 dX5_underWay_6 ?_
  refine C_X5_166 rfl (by decide) dX5_underWay_7 sk_123 (Nat.le_of_ble_eq_true rfl) (Nat.le_of_eq (Nat.zero_add _)) (Nat.le_of_eq (Nat.zero_add _)) (fun _ _ hM' hT' => y_isRumour (t0_Mt hC) hj hM' hT') ?_
  refine j_if_eq (tgt := 21) dX5_underWay_10 (by decide) (fun h10 => ?_) (fun h10 => ?_)
  · exact absurd h10 nI1_ne
  · refine j_aload_n_0 dX5_underWay_13 ?_
    refine j_iload_n_1 dX5_underWay_14 ?_
    refine C_X5_193 rfl (by decide) dX5_underWay_15 sk_123 (Nat.le_of_ble_eq_true rfl) (Nat.le_of_eq (Nat.zero_add _)) (Nat.le_of_eq (Nat.zero_add _)) (fun _ _ hM' hT' => y_onWay (t0_Mt hC) (by omega) hM' hT') ?_
    refine j_goto (tgt := 26) dX5_underWay_18 (by decide) ?_
    exact j_iret hM dX5_underWay_26 rfl hT

set_option maxHeartbeats 4000000 in
set_option maxRecDepth 100000 in
theorem q_underWay_0 {sx : Nat → jv_S} {g : jv_G} {X : jv_X} {T : jv_T} {n : Nat} {V : Nat → Nat → Int32} {L : Nat → Nat → Int64} {k z : Nat} {N K R : Nat} (hC : Mt V N K R) {j : Int32} (hx : j < 0 ∨ nI R ≤ j) (hM : jv_M g X T) (hT : T (.inl (some (.int (nI 0)))) n (SH sx) (t1 V 1) L) : jv_J g X I_X5_underWay 0 [some (jv_r g 123), some (.int j)] [] n (SH sx) V L k z := by
  obtain ⟨hN, hK, hR, hN2, hb, hK4, hR8, hEv⟩ := id hC
  obtain ⟨hN', hK', hR', -⟩ := t0_Mt hC
  refine j_aload_n_0 dX5_underWay_0 ?_
  refine j_iconst (v := nI 0) dX5_underWay_1 nc_iconst_0 ?_
  refine P_X5_63 rfl dX5_underWay_2 sk_123 ?_
  refine j_aload_n_0 dX5_underWay_5 ?_
  refine j_iload_n_1 dX5_underWay_6 ?_
  refine C_X5_166 rfl (by decide) dX5_underWay_7 sk_123 (Nat.le_of_ble_eq_true rfl) (Nat.le_of_eq (Nat.zero_add _)) (Nat.le_of_eq (Nat.zero_add _)) (fun _ _ hM' hT' => n_isRumour (t0_Mt hC) hx hM' hT') ?_
  refine j_if_eq (tgt := 21) dX5_underWay_10 (by decide) (fun h10 => ?_) (fun h10 => ?_)
  · refine j_aload_n_0 dX5_underWay_21 ?_
    refine j_iconst (v := nI 1) dX5_underWay_22 nc_iconst_1 ?_
    refine C_X5_143 rfl (by decide) dX5_underWay_23 sk_123 (Nat.le_of_ble_eq_true rfl) (Nat.le_of_eq (Nat.zero_add _)) (Nat.le_of_eq (Nat.zero_add _)) (fun _ _ hM' hT' => y_no hM' hT') ?_
    exact j_iret hM dX5_underWay_26 rfl hT
  · exact absurd nI_0 h10

set_option maxHeartbeats 4000000 in
set_option maxRecDepth 100000 in
theorem m_quickest {sx : Nat → jv_S} {g : jv_G} {X : jv_X} {T : jv_T} {n : Nat} {V : Nat → Nat → Int32} {L : Nat → Nat → Int64} {k z : Nat} {N K R : Nat} (hC : Mt V N K R) {f : Nat} (hf : f < N) {t : Nat} (ht : t < N)  (hM : jv_M g X T) (hT : T (.inl (some (.int (wayM (t0 V) N K f 137 t)))) n (SH sx) (wayM (t0 V) N K f) L) : jv_J g X I_X5_quickest 0 [some (jv_r g 123), some (.int (nI f)), some (.int (nI t))] [] n (SH sx) V L k z := by
  obtain ⟨hN, hK, hR, hN2, hb, hK4, hR8, hEv⟩ := id hC
  obtain ⟨hN', hK', hR', -⟩ := t0_Mt hC
  refine j_aload_n_0 dX5_quickest_0 ?_
  refine j_iconst (v := nI 0) dX5_quickest_1 nc_iconst_0 ?_
  refine P_X5_63 rfl dX5_quickest_2 sk_123 ?_
  refine j_aload_n_0 dX5_quickest_5 ?_
  refine j_iload_n_1 dX5_quickest_6 ?_
  refine C_X5_146 rfl (by decide) dX5_quickest_7 sk_123 (Nat.le_of_ble_eq_true rfl) (Nat.le_of_eq (Nat.zero_add _)) (Nat.le_of_eq (Nat.zero_add _)) (fun _ _ hM' hT' => y_isFloor (t0_Mt hC) hf hM' hT') ?_
  refine j_if_eq (tgt := 30) dX5_quickest_10 (by decide) (fun h10 => ?_) (fun h10 => ?_)
  · exact absurd h10 nI1_ne
  · refine j_aload_n_0 dX5_quickest_13 ?_
    refine j_iload_n_2 dX5_quickest_14 ?_
    refine C_X5_146 rfl (by decide) dX5_quickest_15 sk_123 (Nat.le_of_ble_eq_true rfl) (Nat.le_of_eq (Nat.zero_add _)) (Nat.le_of_eq (Nat.zero_add _)) (fun _ _ hM' hT' => y_isFloor (t0_Mt hC) ht hM' hT') ?_
    refine j_if_eq (tgt := 30) dX5_quickest_18 (by decide) (fun h18 => ?_) (fun h18 => ?_)
    · exact absurd h18 nI1_ne
    · refine j_aload_n_0 dX5_quickest_21 ?_
      refine j_iload_n_1 dX5_quickest_22 ?_
      refine j_iload_n_2 dX5_quickest_23 ?_
      refine C_X5_196 rfl (by decide) dX5_quickest_24 sk_123 (Nat.le_of_ble_eq_true rfl) (Nat.le_of_eq (Nat.zero_add _)) (Nat.le_of_eq (Nat.zero_add _)) (fun _ _ hM' hT' => y_way (t0_Mt hC) hf ht hM' hT') ?_
      refine j_goto (tgt := 35) dX5_quickest_27 (by decide) ?_
      exact j_iret hM dX5_quickest_35 rfl hT

set_option maxHeartbeats 4000000 in
set_option maxRecDepth 100000 in
theorem q_quickest_0 {sx : Nat → jv_S} {g : jv_G} {X : jv_X} {T : jv_T} {n : Nat} {V : Nat → Nat → Int32} {L : Nat → Nat → Int64} {k z : Nat} {N K R : Nat} (hC : Mt V N K R) {f : Int32} {t : Int32} (hx : f < 0 ∨ nI N ≤ f) (hM : jv_M g X T) (hT : T (.inl (some (.int (nI 0)))) n (SH sx) (t1 V 1) L) : jv_J g X I_X5_quickest 0 [some (jv_r g 123), some (.int f), some (.int t)] [] n (SH sx) V L k z := by
  obtain ⟨hN, hK, hR, hN2, hb, hK4, hR8, hEv⟩ := id hC
  obtain ⟨hN', hK', hR', -⟩ := t0_Mt hC
  refine j_aload_n_0 dX5_quickest_0 ?_
  refine j_iconst (v := nI 0) dX5_quickest_1 nc_iconst_0 ?_
  refine P_X5_63 rfl dX5_quickest_2 sk_123 ?_
  refine j_aload_n_0 dX5_quickest_5 ?_
  refine j_iload_n_1 dX5_quickest_6 ?_
  refine C_X5_146 rfl (by decide) dX5_quickest_7 sk_123 (Nat.le_of_ble_eq_true rfl) (Nat.le_of_eq (Nat.zero_add _)) (Nat.le_of_eq (Nat.zero_add _)) (fun _ _ hM' hT' => n_isFloor (t0_Mt hC) hx hM' hT') ?_
  refine j_if_eq (tgt := 30) dX5_quickest_10 (by decide) (fun h10 => ?_) (fun h10 => ?_)
  · refine j_aload_n_0 dX5_quickest_30 ?_
    refine j_iconst (v := nI 1) dX5_quickest_31 nc_iconst_1 ?_
    refine C_X5_143 rfl (by decide) dX5_quickest_32 sk_123 (Nat.le_of_ble_eq_true rfl) (Nat.le_of_eq (Nat.zero_add _)) (Nat.le_of_eq (Nat.zero_add _)) (fun _ _ hM' hT' => y_no hM' hT') ?_
    exact j_iret hM dX5_quickest_35 rfl hT
  · exact absurd nI_0 h10

set_option maxHeartbeats 4000000 in
set_option maxRecDepth 100000 in
theorem q_quickest_1 {sx : Nat → jv_S} {g : jv_G} {X : jv_X} {T : jv_T} {n : Nat} {V : Nat → Nat → Int32} {L : Nat → Nat → Int64} {k z : Nat} {N K R : Nat} (hC : Mt V N K R) {f : Nat} (hf : f < N) {t : Int32} (hx : t < 0 ∨ nI N ≤ t) (hM : jv_M g X T) (hT : T (.inl (some (.int (nI 0)))) n (SH sx) (t1 V 1) L) : jv_J g X I_X5_quickest 0 [some (jv_r g 123), some (.int (nI f)), some (.int t)] [] n (SH sx) V L k z := by
  obtain ⟨hN, hK, hR, hN2, hb, hK4, hR8, hEv⟩ := id hC
  obtain ⟨hN', hK', hR', -⟩ := t0_Mt hC
  refine j_aload_n_0 dX5_quickest_0 ?_
  refine j_iconst (v := nI 0) dX5_quickest_1 nc_iconst_0 ?_
  refine P_X5_63 rfl dX5_quickest_2 sk_123 ?_
  refine j_aload_n_0 dX5_quickest_5 ?_
  refine j_iload_n_1 dX5_quickest_6 ?_
  refine C_X5_146 rfl (by decide) dX5_quickest_7 sk_123 (Nat.le_of_ble_eq_true rfl) (Nat.le_of_eq (Nat.zero_add _)) (Nat.le_of_eq (Nat.zero_add _)) (fun _ _ hM' hT' => y_isFloor (t0_Mt hC) hf hM' hT') ?_
  refine j_if_eq (tgt := 30) dX5_quickest_10 (by decide) (fun h10 => ?_) (fun h10 => ?_)
  · exact absurd h10 nI1_ne
  · refine j_aload_n_0 dX5_quickest_13 ?_
    refine j_iload_n_2 dX5_quickest_14 ?_
    refine C_X5_146 rfl (by decide) dX5_quickest_15 sk_123 (Nat.le_of_ble_eq_true rfl) (Nat.le_of_eq (Nat.zero_add _)) (Nat.le_of_eq (Nat.zero_add _)) (fun _ _ hM' hT' => n_isFloor (t0_Mt hC) hx hM' hT') ?_
    refine j_if_eq (tgt := 30) dX5_quickest_18 (by decide) (fun h18 => ?_) (fun h18 => ?_)
    · refine j_aload_n_0 dX5_quickest_30 ?_
      refine j_iconst (v := nI 1) dX5_quickest_31 nc_iconst_1 ?_
      refine C_X5_143 rfl (by decide) dX5_quickest_32 sk_123 (Nat.le_of_ble_eq_true rfl) (Nat.le_of_eq (Nat.zero_add _)) (Nat.le_of_eq (Nat.zero_add _)) (fun _ _ hM' hT' => y_no hM' hT') ?_
      exact j_iret hM dX5_quickest_35 rfl hT
    · exact absurd nI_0 h18

def pbM (x y : Int32) : Int32 := if x = -1 then -1 else y

set_option maxHeartbeats 4000000 in
set_option maxRecDepth 100000 in
theorem m_pipesBetween {sx : Nat → jv_S} {g : jv_G} {X : jv_X} {T : jv_T} {n : Nat} {V : Nat → Nat → Int32} {L : Nat → Nat → Int64} {k z : Nat} {N K R : Nat} (hC : Mt V N K R) {f : Nat} (hf : f < N) {t : Nat} (ht : t < N)  (hM : jv_M g X T) (hT : T (.inl (some (.int (pbM (wayM (t0 V) N K f 137 t) (wayM (t0 V) N K f 138 t))))) n (SH sx) (wayM (t0 V) N K f) L) : jv_J g X I_X5_pipesBetween 0 [some (jv_r g 123), some (.int (nI f)), some (.int (nI t))] [] n (SH sx) V L k z := by
  obtain ⟨hN, hK, hR, hN2, hb, hK4, hR8, hEv⟩ := id hC
  obtain ⟨hN', hK', hR', -⟩ := t0_Mt hC
  refine j_aload_n_0 dX5_pipesBetween_0 ?_
  refine j_iconst (v := nI 0) dX5_pipesBetween_1 nc_iconst_0 ?_
  refine P_X5_63 rfl dX5_pipesBetween_2 sk_123 ?_
  refine j_aload_n_0 dX5_pipesBetween_5 ?_
  refine j_iload_n_1 dX5_pipesBetween_6 ?_
  refine C_X5_146 rfl (by decide) dX5_pipesBetween_7 sk_123 (Nat.le_of_ble_eq_true rfl) (Nat.le_of_eq (Nat.zero_add _)) (Nat.le_of_eq (Nat.zero_add _)) (fun _ _ hM' hT' => y_isFloor (t0_Mt hC) hf hM' hT') ?_
  refine j_if_eq (tgt := 21) dX5_pipesBetween_10 (by decide) (fun h10 => ?_) (fun h10 => ?_)
  · exact absurd h10 nI1_ne
  · refine j_aload_n_0 dX5_pipesBetween_13 ?_
    refine j_iload_n_2 dX5_pipesBetween_14 ?_
    refine C_X5_146 rfl (by decide) dX5_pipesBetween_15 sk_123 (Nat.le_of_ble_eq_true rfl) (Nat.le_of_eq (Nat.zero_add _)) (Nat.le_of_eq (Nat.zero_add _)) (fun _ _ hM' hT' => y_isFloor (t0_Mt hC) ht hM' hT') ?_
    refine j_if_ne (tgt := 27) dX5_pipesBetween_18 (by decide) (fun h18 => ?_) (fun h18 => ?_)
    · refine j_aload_n_0 dX5_pipesBetween_27 ?_
      refine j_iload_n_1 dX5_pipesBetween_28 ?_
      refine j_iload_n_2 dX5_pipesBetween_29 ?_
      refine C_X5_196 rfl (by decide) dX5_pipesBetween_30 sk_123 (Nat.le_of_ble_eq_true rfl) (Nat.le_of_eq (Nat.zero_add _)) (Nat.le_of_eq (Nat.zero_add _)) (fun _ _ hM' hT' => y_way (t0_Mt hC) hf ht hM' hT') ?_
      refine j_iconst (v := -1) dX5_pipesBetween_33 nc_iconst_m1 ?_
      refine j_ic_ne (tgt := 41) dX5_pipesBetween_34 (by decide) (fun h34 => ?_) (fun h34 => ?_)
      · refine j_aload_n_0 dX5_pipesBetween_41 ?_
        refine G_X5_53 rfl dX5_pipesBetween_42 sk_123 sr_123_18 ?_
        refine j_iload_n_2 dX5_pipesBetween_45 ?_
        refine j_iald dX5_pipesBetween_46 sk_138 sn_138 (by omega) (by decide) ?_
        exact j_iret hM dX5_pipesBetween_47 rfl (by unfold pbM at hT; rw [if_neg h34] at hT; exact hT)
      · refine j_iconst (v := -1) dX5_pipesBetween_37 nc_iconst_m1 ?_
        refine j_goto (tgt := 47) dX5_pipesBetween_38 (by decide) ?_
        exact j_iret hM dX5_pipesBetween_47 rfl (by unfold pbM at hT; rw [if_pos h34] at hT; exact hT)
    · exact absurd h18 nI1_ne

set_option maxHeartbeats 4000000 in
set_option maxRecDepth 100000 in
theorem q_pipesBetween_0 {sx : Nat → jv_S} {g : jv_G} {X : jv_X} {T : jv_T} {n : Nat} {V : Nat → Nat → Int32} {L : Nat → Nat → Int64} {k z : Nat} {N K R : Nat} (hC : Mt V N K R) {f : Int32} {t : Int32} (hx : f < 0 ∨ nI N ≤ f) (hM : jv_M g X T) (hT : T (.inl (some (.int (nI 0)))) n (SH sx) (t1 V 1) L) : jv_J g X I_X5_pipesBetween 0 [some (jv_r g 123), some (.int f), some (.int t)] [] n (SH sx) V L k z := by
  obtain ⟨hN, hK, hR, hN2, hb, hK4, hR8, hEv⟩ := id hC
  obtain ⟨hN', hK', hR', -⟩ := t0_Mt hC
  refine j_aload_n_0 dX5_pipesBetween_0 ?_
  refine j_iconst (v := nI 0) dX5_pipesBetween_1 nc_iconst_0 ?_
  refine P_X5_63 rfl dX5_pipesBetween_2 sk_123 ?_
  refine j_aload_n_0 dX5_pipesBetween_5 ?_
  refine j_iload_n_1 dX5_pipesBetween_6 ?_
  refine C_X5_146 rfl (by decide) dX5_pipesBetween_7 sk_123 (Nat.le_of_ble_eq_true rfl) (Nat.le_of_eq (Nat.zero_add _)) (Nat.le_of_eq (Nat.zero_add _)) (fun _ _ hM' hT' => n_isFloor (t0_Mt hC) hx hM' hT') ?_
  refine j_if_eq (tgt := 21) dX5_pipesBetween_10 (by decide) (fun h10 => ?_) (fun h10 => ?_)
  · refine j_aload_n_0 dX5_pipesBetween_21 ?_
    refine j_iconst (v := nI 1) dX5_pipesBetween_22 nc_iconst_1 ?_
    refine C_X5_143 rfl (by decide) dX5_pipesBetween_23 sk_123 (Nat.le_of_ble_eq_true rfl) (Nat.le_of_eq (Nat.zero_add _)) (Nat.le_of_eq (Nat.zero_add _)) (fun _ _ hM' hT' => y_no hM' hT') ?_
    exact j_iret hM dX5_pipesBetween_26 rfl hT
  · exact absurd nI_0 h10

set_option maxHeartbeats 4000000 in
set_option maxRecDepth 100000 in
theorem q_pipesBetween_1 {sx : Nat → jv_S} {g : jv_G} {X : jv_X} {T : jv_T} {n : Nat} {V : Nat → Nat → Int32} {L : Nat → Nat → Int64} {k z : Nat} {N K R : Nat} (hC : Mt V N K R) {f : Nat} (hf : f < N) {t : Int32} (hx : t < 0 ∨ nI N ≤ t) (hM : jv_M g X T) (hT : T (.inl (some (.int (nI 0)))) n (SH sx) (t1 V 1) L) : jv_J g X I_X5_pipesBetween 0 [some (jv_r g 123), some (.int (nI f)), some (.int t)] [] n (SH sx) V L k z := by
  obtain ⟨hN, hK, hR, hN2, hb, hK4, hR8, hEv⟩ := id hC
  obtain ⟨hN', hK', hR', -⟩ := t0_Mt hC
  refine j_aload_n_0 dX5_pipesBetween_0 ?_
  refine j_iconst (v := nI 0) dX5_pipesBetween_1 nc_iconst_0 ?_
  refine P_X5_63 rfl dX5_pipesBetween_2 sk_123 ?_
  refine j_aload_n_0 dX5_pipesBetween_5 ?_
  refine j_iload_n_1 dX5_pipesBetween_6 ?_
  refine C_X5_146 rfl (by decide) dX5_pipesBetween_7 sk_123 (Nat.le_of_ble_eq_true rfl) (Nat.le_of_eq (Nat.zero_add _)) (Nat.le_of_eq (Nat.zero_add _)) (fun _ _ hM' hT' => y_isFloor (t0_Mt hC) hf hM' hT') ?_
  refine j_if_eq (tgt := 21) dX5_pipesBetween_10 (by decide) (fun h10 => ?_) (fun h10 => ?_)
  · exact absurd h10 nI1_ne
  · refine j_aload_n_0 dX5_pipesBetween_13 ?_
    refine j_iload_n_2 dX5_pipesBetween_14 ?_
    refine C_X5_146 rfl (by decide) dX5_pipesBetween_15 sk_123 (Nat.le_of_ble_eq_true rfl) (Nat.le_of_eq (Nat.zero_add _)) (Nat.le_of_eq (Nat.zero_add _)) (fun _ _ hM' hT' => n_isFloor (t0_Mt hC) hx hM' hT') ?_
    refine j_if_ne (tgt := 27) dX5_pipesBetween_18 (by decide) (fun h18 => ?_) (fun h18 => ?_)
    · exact absurd nI_0 h18
    · refine j_aload_n_0 dX5_pipesBetween_21 ?_
      refine j_iconst (v := nI 1) dX5_pipesBetween_22 nc_iconst_1 ?_
      refine C_X5_143 rfl (by decide) dX5_pipesBetween_23 sk_123 (Nat.le_of_ble_eq_true rfl) (Nat.le_of_eq (Nat.zero_add _)) (Nat.le_of_eq (Nat.zero_add _)) (fun _ _ hM' hT' => y_no hM' hT') ?_
      exact j_iret hM dX5_pipesBetween_26 rfl hT

set_option maxHeartbeats 4000000 in
set_option maxRecDepth 100000 in
theorem m_farthestFrom {sx : Nat → jv_S} {g : jv_G} {X : jv_X} {T : jv_T} {n : Nat} {V : Nat → Nat → Int32} {L : Nat → Nat → Int64} {k z : Nat} {N K R : Nat} (hC : Mt V N K R) {f : Nat} (hf : f < N)  (hM : jv_M g X T) (hT : T (.inl (some (.int (nI (fmL (wayM (t0 V) N K f) N 0 f))))) n (SH sx) (wayM (t0 V) N K f) L) : jv_J g X I_X5_farthestFrom 0 [some (jv_r g 123), some (.int (nI f))] [] n (SH sx) V L k z := by
  obtain ⟨hN, hK, hR, hN2, hb, hK4, hR8, hEv⟩ := id hC
  obtain ⟨hN', hK', hR', -⟩ := t0_Mt hC
  refine j_aload_n_0 dX5_farthestFrom_0 ?_
  refine j_iconst (v := nI 0) dX5_farthestFrom_1 nc_iconst_0 ?_
  refine P_X5_63 rfl dX5_farthestFrom_2 sk_123 ?_
  refine j_aload_n_0 dX5_farthestFrom_5 ?_
  refine j_iload_n_1 dX5_farthestFrom_6 ?_
  refine C_X5_146 rfl (by decide) dX5_farthestFrom_7 sk_123 (Nat.le_of_ble_eq_true rfl) (Nat.le_of_eq (Nat.zero_add _)) (Nat.le_of_eq (Nat.zero_add _)) (fun _ _ hM' hT' => y_isFloor (t0_Mt hC) hf hM' hT') ?_
  refine j_if_eq (tgt := 21) dX5_farthestFrom_10 (by decide) (fun h10 => ?_) (fun h10 => ?_)
  · exact absurd h10 nI1_ne
  · refine j_aload_n_0 dX5_farthestFrom_13 ?_
    refine j_iload_n_1 dX5_farthestFrom_14 ?_
    refine C_X5_108 rfl (by decide) dX5_farthestFrom_15 sk_123 (Nat.le_of_ble_eq_true rfl) (Nat.le_of_eq (Nat.zero_add _)) (Nat.le_of_eq (Nat.zero_add _)) (fun _ _ hM' hT' => y_farthest (t0_Mt hC) hf hM' hT') ?_
    refine j_goto (tgt := 26) dX5_farthestFrom_18 (by decide) ?_
    exact j_iret hM dX5_farthestFrom_26 rfl hT

set_option maxHeartbeats 4000000 in
set_option maxRecDepth 100000 in
theorem q_farthestFrom_0 {sx : Nat → jv_S} {g : jv_G} {X : jv_X} {T : jv_T} {n : Nat} {V : Nat → Nat → Int32} {L : Nat → Nat → Int64} {k z : Nat} {N K R : Nat} (hC : Mt V N K R) {f : Int32} (hx : f < 0 ∨ nI N ≤ f) (hM : jv_M g X T) (hT : T (.inl (some (.int (nI 0)))) n (SH sx) (t1 V 1) L) : jv_J g X I_X5_farthestFrom 0 [some (jv_r g 123), some (.int f)] [] n (SH sx) V L k z := by
  obtain ⟨hN, hK, hR, hN2, hb, hK4, hR8, hEv⟩ := id hC
  obtain ⟨hN', hK', hR', -⟩ := t0_Mt hC
  refine j_aload_n_0 dX5_farthestFrom_0 ?_
  refine j_iconst (v := nI 0) dX5_farthestFrom_1 nc_iconst_0 ?_
  refine P_X5_63 rfl dX5_farthestFrom_2 sk_123 ?_
  refine j_aload_n_0 dX5_farthestFrom_5 ?_
  refine j_iload_n_1 dX5_farthestFrom_6 ?_
  refine C_X5_146 rfl (by decide) dX5_farthestFrom_7 sk_123 (Nat.le_of_ble_eq_true rfl) (Nat.le_of_eq (Nat.zero_add _)) (Nat.le_of_eq (Nat.zero_add _)) (fun _ _ hM' hT' => n_isFloor (t0_Mt hC) hx hM' hT') ?_
  refine j_if_eq (tgt := 21) dX5_farthestFrom_10 (by decide) (fun h10 => ?_) (fun h10 => ?_)
  · refine j_aload_n_0 dX5_farthestFrom_21 ?_
    refine j_iconst (v := nI 1) dX5_farthestFrom_22 nc_iconst_1 ?_
    refine C_X5_143 rfl (by decide) dX5_farthestFrom_23 sk_123 (Nat.le_of_ble_eq_true rfl) (Nat.le_of_eq (Nat.zero_add _)) (Nat.le_of_eq (Nat.zero_add _)) (fun _ _ hM' hT' => y_no hM' hT') ?_
    exact j_iret hM dX5_farthestFrom_26 rfl hT
  · exact absurd nI_0 h10

theorem wwV_Mt {V : (Nat → Nat → Int32)} {N K R l f : Nat} {b : Int32} (h : Mt V N K R) : Mt (wwV V N K l f b) N K R := by
  unfold wwV wwM
  exact h.o (by rw [jv_U_other (by omega), wayM_out (by omega), jv_U_other (by omega)]) (by rw [jv_U_other (by omega), wayM_out (by omega), jv_U_other (by omega)])
theorem wwV_132 {V : (Nat → Nat → Int32)} {N K l f : Nat} {b : Int32} : wwV V N K l f b 132 l = V 132 l := by
  unfold wwV
  rw [jv_Ueq]
def gm1 (V : (Nat → Nat → Int32)) (N K l f : Nat) : (Nat → Nat → Int32) := wwV (t0 V) N K l f (nI 1)
def gm2 (V : (Nat → Nat → Int32)) (N K l f : Nat) : (Nat → Nat → Int32) := wwV (gm1 V N K l f) N K l f (nI 0)

set_option maxHeartbeats 4000000 in
set_option maxRecDepth 100000 in
theorem m_gainBy {sx : Nat → jv_S} {g : jv_G} {X : jv_X} {T : jv_T} {n : Nat} {V : Nat → Nat → Int32} {L : Nat → Nat → Int64} {k z : Nat} {N K R : Nat} (hC : Mt V N K R) {l : Nat} (hl : l < K) {f : Nat} (hf : f < N) {t : Nat} (ht : t < N) (hx : V 132 l = 0 ∨ V 132 l = 1) (hM : jv_M g X T) (hT : T (.inl (some (.int (gbR (wwM (t0 V) N K l f (nI 1) 137 t) (wwM (gm1 V N K l f) N K l f (nI 0) 137 t))))) n (SH sx) (gm2 V N K l f) L) : jv_J g X I_X5_gainBy 0 [some (jv_r g 123), some (.int (nI l)), some (.int (nI f)), some (.int (nI t)), none, none] [] n (SH sx) V L k z := by
  obtain ⟨hN, hK, hR, hN2, hb, hK4, hR8, hEv⟩ := id hC
  obtain ⟨hN', hK', hR', -⟩ := t0_Mt hC
  refine j_aload_n_0 dX5_gainBy_0 ?_
  refine j_iconst (v := nI 0) dX5_gainBy_1 nc_iconst_0 ?_
  refine P_X5_63 rfl dX5_gainBy_2 sk_123 ?_
  refine j_aload_n_0 dX5_gainBy_5 ?_
  refine j_iload_n_1 dX5_gainBy_6 ?_
  refine C_X5_163 rfl (by decide) dX5_gainBy_7 sk_123 (Nat.le_of_ble_eq_true rfl) (Nat.le_of_eq (Nat.zero_add _)) (Nat.le_of_eq (Nat.zero_add _)) (fun _ _ hM' hT' => y_isLift (t0_Mt hC) hl hM' hT') ?_
  refine j_if_eq (tgt := 29) dX5_gainBy_10 (by decide) (fun h10 => ?_) (fun h10 => ?_)
  · exact absurd h10 nI1_ne
  · refine j_aload_n_0 dX5_gainBy_13 ?_
    refine j_iload_n_2 dX5_gainBy_14 ?_
    refine C_X5_146 rfl (by decide) dX5_gainBy_15 sk_123 (Nat.le_of_ble_eq_true rfl) (Nat.le_of_eq (Nat.zero_add _)) (Nat.le_of_eq (Nat.zero_add _)) (fun _ _ hM' hT' => y_isFloor (t0_Mt hC) hf hM' hT') ?_
    refine j_if_eq (tgt := 29) dX5_gainBy_18 (by decide) (fun h18 => ?_) (fun h18 => ?_)
    · exact absurd h18 nI1_ne
    · refine j_aload_n_0 dX5_gainBy_21 ?_
      refine j_iload_n_3 dX5_gainBy_22 ?_
      refine C_X5_146 rfl (by decide) dX5_gainBy_23 sk_123 (Nat.le_of_ble_eq_true rfl) (Nat.le_of_eq (Nat.zero_add _)) (Nat.le_of_eq (Nat.zero_add _)) (fun _ _ hM' hT' => y_isFloor (t0_Mt hC) ht hM' hT') ?_
      refine j_if_ne (tgt := 35) dX5_gainBy_26 (by decide) (fun h26 => ?_) (fun h26 => ?_)
      · refine j_aload_n_0 dX5_gainBy_35 ?_
        refine j_iload_n_1 dX5_gainBy_36 ?_
        refine j_iconst (v := nI 1) dX5_gainBy_37 nc_iconst_1 ?_
        refine j_iload_n_2 dX5_gainBy_38 ?_
        refine j_iload_n_3 dX5_gainBy_39 ?_
        refine C_X5_205 rfl (by decide) dX5_gainBy_40 sk_123 (Nat.le_of_ble_eq_true rfl) (Nat.le_of_eq (Nat.zero_add _)) (Nat.le_of_eq (Nat.zero_add _)) (fun _ _ hM' hT' => y_wayWith (t0_Mt hC) hl hf ht nI01b (by rw [t0_out (by omega)]; exact hx) hM' hT') ?_
        refine j_istore_4 rfl (by decide) dX5_gainBy_43 ?_
        refine j_aload_n_0 dX5_gainBy_45 ?_
        refine j_iload_n_1 dX5_gainBy_46 ?_
        refine j_iconst (v := nI 0) dX5_gainBy_47 nc_iconst_0 ?_
        refine j_iload_n_2 dX5_gainBy_48 ?_
        refine j_iload_n_3 dX5_gainBy_49 ?_
        refine C_X5_205 rfl (by decide) dX5_gainBy_50 sk_123 (Nat.le_of_ble_eq_true rfl) (Nat.le_of_eq (Nat.zero_add _)) (Nat.le_of_eq (Nat.zero_add _)) (fun _ _ hM' hT' => y_wayWith (wwV_Mt (l := l) (f := f) (b := nI 1) (t0_Mt hC)) hl hf ht nI01a (by rw [wwV_132, t0_out (by omega)]; exact hx) hM' hT') ?_
        refine j_istore_5 rfl (by decide) dX5_gainBy_53 ?_
        refine j_iload_4 dX5_gainBy_55 ?_
        refine j_iconst (v := -1) dX5_gainBy_57 nc_iconst_m1 ?_
        refine j_ic_ne (tgt := 65) dX5_gainBy_58 (by decide) (fun h58 => ?_) (fun h58 => ?_)
        · refine j_iload_5 dX5_gainBy_65 ?_
          refine j_iconst (v := -1) dX5_gainBy_67 nc_iconst_m1 ?_
          refine j_ic_ne (tgt := 75) dX5_gainBy_68 (by decide) (fun h68 => ?_) (fun h68 => ?_)
          · refine j_iload_5 dX5_gainBy_75 ?_
            refine j_iload_4 dX5_gainBy_77 ?_
            refine j_isub dX5_gainBy_79 ?_
            exact j_iret hM dX5_gainBy_80 rfl (by unfold gbR at hT; rw [if_neg h58, if_neg (show ¬ wwM (gm1 V N K l f) N K l f (nI 0) 137 t = -1 from h68)] at hT; exact hT)
          · refine j_iconst (v := -1) dX5_gainBy_71 nc_iconst_m1 ?_
            refine j_goto (tgt := 80) dX5_gainBy_72 (by decide) ?_
            exact j_iret hM dX5_gainBy_80 rfl (by unfold gbR at hT; rw [if_neg h58, if_pos (show wwM (gm1 V N K l f) N K l f (nI 0) 137 t = -1 from h68)] at hT; exact hT)
        · refine j_iconst (v := nI 0) dX5_gainBy_61 nc_iconst_0 ?_
          refine j_goto (tgt := 80) dX5_gainBy_62 (by decide) ?_
          exact j_iret hM dX5_gainBy_80 rfl (by unfold gbR at hT; rw [if_pos h58] at hT; exact hT)
      · exact absurd h26 nI1_ne

set_option maxHeartbeats 4000000 in
set_option maxRecDepth 100000 in
theorem q_gainBy_0 {sx : Nat → jv_S} {g : jv_G} {X : jv_X} {T : jv_T} {n : Nat} {V : Nat → Nat → Int32} {L : Nat → Nat → Int64} {k z : Nat} {N K R : Nat} (hC : Mt V N K R) {l : Int32} {f : Int32} {t : Int32} (hx : l < 0 ∨ nI K ≤ l) (hM : jv_M g X T) (hT : T (.inl (some (.int (nI 0)))) n (SH sx) (t1 V 1) L) : jv_J g X I_X5_gainBy 0 [some (jv_r g 123), some (.int l), some (.int f), some (.int t), none, none] [] n (SH sx) V L k z := by
  obtain ⟨hN, hK, hR, hN2, hb, hK4, hR8, hEv⟩ := id hC
  obtain ⟨hN', hK', hR', -⟩ := t0_Mt hC
  refine j_aload_n_0 dX5_gainBy_0 ?_
  refine j_iconst (v := nI 0) dX5_gainBy_1 nc_iconst_0 ?_
  refine P_X5_63 rfl dX5_gainBy_2 sk_123 ?_
  refine j_aload_n_0 dX5_gainBy_5 ?_
  refine j_iload_n_1 dX5_gainBy_6 ?_
  refine C_X5_163 rfl (by decide) dX5_gainBy_7 sk_123 (Nat.le_of_ble_eq_true rfl) (Nat.le_of_eq (Nat.zero_add _)) (Nat.le_of_eq (Nat.zero_add _)) (fun _ _ hM' hT' => n_isLift (t0_Mt hC) hx hM' hT') ?_
  refine j_if_eq (tgt := 29) dX5_gainBy_10 (by decide) (fun h10 => ?_) (fun h10 => ?_)
  · refine j_aload_n_0 dX5_gainBy_29 ?_
    refine j_iconst (v := nI 1) dX5_gainBy_30 nc_iconst_1 ?_
    refine C_X5_143 rfl (by decide) dX5_gainBy_31 sk_123 (Nat.le_of_ble_eq_true rfl) (Nat.le_of_eq (Nat.zero_add _)) (Nat.le_of_eq (Nat.zero_add _)) (fun _ _ hM' hT' => y_no hM' hT') ?_
    exact j_iret hM dX5_gainBy_34 rfl hT
  · exact absurd nI_0 h10

set_option maxHeartbeats 4000000 in
set_option maxRecDepth 100000 in
theorem q_gainBy_1 {sx : Nat → jv_S} {g : jv_G} {X : jv_X} {T : jv_T} {n : Nat} {V : Nat → Nat → Int32} {L : Nat → Nat → Int64} {k z : Nat} {N K R : Nat} (hC : Mt V N K R) {l : Nat} (hl : l < K) {f : Int32} {t : Int32} (hx : f < 0 ∨ nI N ≤ f) (hM : jv_M g X T) (hT : T (.inl (some (.int (nI 0)))) n (SH sx) (t1 V 1) L) : jv_J g X I_X5_gainBy 0 [some (jv_r g 123), some (.int (nI l)), some (.int f), some (.int t), none, none] [] n (SH sx) V L k z := by
  obtain ⟨hN, hK, hR, hN2, hb, hK4, hR8, hEv⟩ := id hC
  obtain ⟨hN', hK', hR', -⟩ := t0_Mt hC
  refine j_aload_n_0 dX5_gainBy_0 ?_
  refine j_iconst (v := nI 0) dX5_gainBy_1 nc_iconst_0 ?_
  refine P_X5_63 rfl dX5_gainBy_2 sk_123 ?_
  refine j_aload_n_0 dX5_gainBy_5 ?_
  refine j_iload_n_1 dX5_gainBy_6 ?_
  refine C_X5_163 rfl (by decide) dX5_gainBy_7 sk_123 (Nat.le_of_ble_eq_true rfl) (Nat.le_of_eq (Nat.zero_add _)) (Nat.le_of_eq (Nat.zero_add _)) (fun _ _ hM' hT' => y_isLift (t0_Mt hC) hl hM' hT') ?_
  refine j_if_eq (tgt := 29) dX5_gainBy_10 (by decide) (fun h10 => ?_) (fun h10 => ?_)
  · exact absurd h10 nI1_ne
  · refine j_aload_n_0 dX5_gainBy_13 ?_
    refine j_iload_n_2 dX5_gainBy_14 ?_
    refine C_X5_146 rfl (by decide) dX5_gainBy_15 sk_123 (Nat.le_of_ble_eq_true rfl) (Nat.le_of_eq (Nat.zero_add _)) (Nat.le_of_eq (Nat.zero_add _)) (fun _ _ hM' hT' => n_isFloor (t0_Mt hC) hx hM' hT') ?_
    refine j_if_eq (tgt := 29) dX5_gainBy_18 (by decide) (fun h18 => ?_) (fun h18 => ?_)
    · refine j_aload_n_0 dX5_gainBy_29 ?_
      refine j_iconst (v := nI 1) dX5_gainBy_30 nc_iconst_1 ?_
      refine C_X5_143 rfl (by decide) dX5_gainBy_31 sk_123 (Nat.le_of_ble_eq_true rfl) (Nat.le_of_eq (Nat.zero_add _)) (Nat.le_of_eq (Nat.zero_add _)) (fun _ _ hM' hT' => y_no hM' hT') ?_
      exact j_iret hM dX5_gainBy_34 rfl hT
    · exact absurd nI_0 h18

set_option maxHeartbeats 4000000 in
set_option maxRecDepth 100000 in
theorem q_gainBy_2 {sx : Nat → jv_S} {g : jv_G} {X : jv_X} {T : jv_T} {n : Nat} {V : Nat → Nat → Int32} {L : Nat → Nat → Int64} {k z : Nat} {N K R : Nat} (hC : Mt V N K R) {l : Nat} (hl : l < K) {f : Nat} (hf : f < N) {t : Int32} (hx : t < 0 ∨ nI N ≤ t) (hM : jv_M g X T) (hT : T (.inl (some (.int (nI 0)))) n (SH sx) (t1 V 1) L) : jv_J g X I_X5_gainBy 0 [some (jv_r g 123), some (.int (nI l)), some (.int (nI f)), some (.int t), none, none] [] n (SH sx) V L k z := by
  obtain ⟨hN, hK, hR, hN2, hb, hK4, hR8, hEv⟩ := id hC
  obtain ⟨hN', hK', hR', -⟩ := t0_Mt hC
  refine j_aload_n_0 dX5_gainBy_0 ?_
  refine j_iconst (v := nI 0) dX5_gainBy_1 nc_iconst_0 ?_
  refine P_X5_63 rfl dX5_gainBy_2 sk_123 ?_
  refine j_aload_n_0 dX5_gainBy_5 ?_
  refine j_iload_n_1 dX5_gainBy_6 ?_
  refine C_X5_163 rfl (by decide) dX5_gainBy_7 sk_123 (Nat.le_of_ble_eq_true rfl) (Nat.le_of_eq (Nat.zero_add _)) (Nat.le_of_eq (Nat.zero_add _)) (fun _ _ hM' hT' => y_isLift (t0_Mt hC) hl hM' hT') ?_
  refine j_if_eq (tgt := 29) dX5_gainBy_10 (by decide) (fun h10 => ?_) (fun h10 => ?_)
  · exact absurd h10 nI1_ne
  · refine j_aload_n_0 dX5_gainBy_13 ?_
    refine j_iload_n_2 dX5_gainBy_14 ?_
    refine C_X5_146 rfl (by decide) dX5_gainBy_15 sk_123 (Nat.le_of_ble_eq_true rfl) (Nat.le_of_eq (Nat.zero_add _)) (Nat.le_of_eq (Nat.zero_add _)) (fun _ _ hM' hT' => y_isFloor (t0_Mt hC) hf hM' hT') ?_
    refine j_if_eq (tgt := 29) dX5_gainBy_18 (by decide) (fun h18 => ?_) (fun h18 => ?_)
    · exact absurd h18 nI1_ne
    · refine j_aload_n_0 dX5_gainBy_21 ?_
      refine j_iload_n_3 dX5_gainBy_22 ?_
      refine C_X5_146 rfl (by decide) dX5_gainBy_23 sk_123 (Nat.le_of_ble_eq_true rfl) (Nat.le_of_eq (Nat.zero_add _)) (Nat.le_of_eq (Nat.zero_add _)) (fun _ _ hM' hT' => n_isFloor (t0_Mt hC) hx hM' hT') ?_
      refine j_if_ne (tgt := 35) dX5_gainBy_26 (by decide) (fun h26 => ?_) (fun h26 => ?_)
      · exact absurd nI_0 h26
      · refine j_aload_n_0 dX5_gainBy_29 ?_
        refine j_iconst (v := nI 1) dX5_gainBy_30 nc_iconst_1 ?_
        refine C_X5_143 rfl (by decide) dX5_gainBy_31 sk_123 (Nat.le_of_ble_eq_true rfl) (Nat.le_of_eq (Nat.zero_add _)) (Nat.le_of_eq (Nat.zero_add _)) (fun _ _ hM' hT' => y_no hM' hT') ?_
        exact j_iret hM dX5_gainBy_34 rfl hT

set_option maxHeartbeats 4000000 in
set_option maxRecDepth 100000 in
theorem m_wouldHear {sx : Nat → jv_S} {g : jv_G} {X : jv_X} {T : jv_T} {n : Nat} {V : Nat → Nat → Int32} {L : Nat → Nat → Int64} {k z : Nat} {N K R : Nat} (hC : Mt V N K R) {j : Nat} (hj : j < R) {f : Nat} (hf : f < N)  (hM : jv_M g X T) (hT : T (.inl (some (.int (ieM (t0 V) N K j 135 (96 + 12 * j + f))))) n (SH sx) (bbM (ieM (t0 V) N K j)) L) : jv_J g X I_X5_wouldHear 0 [some (jv_r g 123), some (.int (nI j)), some (.int (nI f)), none] [] n (SH sx) V L k z := by
  obtain ⟨hN, hK, hR, hN2, hb, hK4, hR8, hEv⟩ := id hC
  obtain ⟨hN', hK', hR', -⟩ := t0_Mt hC
  refine j_aload_n_0 dX5_wouldHear_0 ?_
  refine j_iconst (v := nI 0) dX5_wouldHear_1 nc_iconst_0 ?_
  refine P_X5_63 rfl dX5_wouldHear_2 sk_123 ?_
  refine j_aload_n_0 dX5_wouldHear_5 ?_
  refine j_iload_n_1 dX5_wouldHear_6 ?_
  refine C_X5_166 rfl (by decide) dX5_wouldHear_7 sk_123 (Nat.le_of_ble_eq_true rfl) (Nat.le_of_eq (Nat.zero_add _)) (Nat.le_of_eq (Nat.zero_add _)) (fun _ _ hM' hT' => y_isRumour (t0_Mt hC) hj hM' hT') ?_
  refine j_if_eq (tgt := 21) dX5_wouldHear_10 (by decide) (fun h10 => ?_) (fun h10 => ?_)
  · exact absurd h10 nI1_ne
  · refine j_aload_n_0 dX5_wouldHear_13 ?_
    refine j_iload_n_2 dX5_wouldHear_14 ?_
    refine C_X5_146 rfl (by decide) dX5_wouldHear_15 sk_123 (Nat.le_of_ble_eq_true rfl) (Nat.le_of_eq (Nat.zero_add _)) (Nat.le_of_eq (Nat.zero_add _)) (fun _ _ hM' hT' => y_isFloor (t0_Mt hC) hf hM' hT') ?_
    refine j_if_ne (tgt := 27) dX5_wouldHear_18 (by decide) (fun h18 => ?_) (fun h18 => ?_)
    · refine j_aload_n_0 dX5_wouldHear_27 ?_
      refine C_X5_209 rfl (by decide) dX5_wouldHear_28 sk_123 (Nat.le_of_ble_eq_true rfl) (Nat.le_of_eq (Nat.zero_add _)) (Nat.le_of_eq (Nat.zero_add _)) (fun _ _ hM' hT' => y_keep hM' hT') ?_
      refine j_aload_n_0 dX5_wouldHear_31 ?_
      refine j_iload_n_1 dX5_wouldHear_32 ?_
      refine j_bipush (v := nI 100) dX5_wouldHear_33 nc_bipush_100 ?_
      refine C_X5_212 rfl (by decide) dX5_wouldHear_35 sk_123 (Nat.le_of_ble_eq_true rfl) (Nat.le_of_eq (Nat.zero_add _)) (Nat.le_of_eq (Nat.zero_add _)) (fun _ _ hM' hT' => y_lookOn (kpM_Mt (t0_Mt hC)) (by omega) (by omega) hM' hT') ?_
      refine j_aload_n_0 dX5_wouldHear_38 ?_
      refine G_X5_44 rfl dX5_wouldHear_39 sk_123 sr_123_15 ?_
      refine j_bipush (v := nI 96) dX5_wouldHear_42 nc_bipush_96 ?_
      refine j_bipush (v := nI 12) dX5_wouldHear_44 nc_bipush_12 ?_
      refine j_iload_n_1 dX5_wouldHear_46 ?_
      refine j_imulN dX5_wouldHear_47 ?_
      refine j_iaddN dX5_wouldHear_48 ?_
      refine j_iload_n_2 dX5_wouldHear_49 ?_
      refine j_iaddN dX5_wouldHear_50 ?_
      refine j_iald dX5_wouldHear_51 sk_135 sn_135 (by omega) (by decide) ?_
      refine j_istore_n_3 rfl (by decide) dX5_wouldHear_52 ?_
      refine j_aload_n_0 dX5_wouldHear_53 ?_
      refine C_X5_215 rfl (by decide) dX5_wouldHear_54 sk_123 (Nat.le_of_ble_eq_true rfl) (Nat.le_of_eq (Nat.zero_add _)) (Nat.le_of_eq (Nat.zero_add _)) (fun _ _ hM' hT' => y_bringBack hM' hT') ?_
      refine j_iload_n_3 dX5_wouldHear_57 ?_
      exact j_iret hM dX5_wouldHear_58 rfl hT
    · exact absurd h18 nI1_ne

set_option maxHeartbeats 4000000 in
set_option maxRecDepth 100000 in
theorem q_wouldHear_0 {sx : Nat → jv_S} {g : jv_G} {X : jv_X} {T : jv_T} {n : Nat} {V : Nat → Nat → Int32} {L : Nat → Nat → Int64} {k z : Nat} {N K R : Nat} (hC : Mt V N K R) {j : Int32} {f : Int32} (hx : j < 0 ∨ nI R ≤ j) (hM : jv_M g X T) (hT : T (.inl (some (.int (nI 0)))) n (SH sx) (t1 V 1) L) : jv_J g X I_X5_wouldHear 0 [some (jv_r g 123), some (.int j), some (.int f), none] [] n (SH sx) V L k z := by
  obtain ⟨hN, hK, hR, hN2, hb, hK4, hR8, hEv⟩ := id hC
  obtain ⟨hN', hK', hR', -⟩ := t0_Mt hC
  refine j_aload_n_0 dX5_wouldHear_0 ?_
  refine j_iconst (v := nI 0) dX5_wouldHear_1 nc_iconst_0 ?_
  refine P_X5_63 rfl dX5_wouldHear_2 sk_123 ?_
  refine j_aload_n_0 dX5_wouldHear_5 ?_
  refine j_iload_n_1 dX5_wouldHear_6 ?_
  refine C_X5_166 rfl (by decide) dX5_wouldHear_7 sk_123 (Nat.le_of_ble_eq_true rfl) (Nat.le_of_eq (Nat.zero_add _)) (Nat.le_of_eq (Nat.zero_add _)) (fun _ _ hM' hT' => n_isRumour (t0_Mt hC) hx hM' hT') ?_
  refine j_if_eq (tgt := 21) dX5_wouldHear_10 (by decide) (fun h10 => ?_) (fun h10 => ?_)
  · refine j_aload_n_0 dX5_wouldHear_21 ?_
    refine j_iconst (v := nI 1) dX5_wouldHear_22 nc_iconst_1 ?_
    refine C_X5_143 rfl (by decide) dX5_wouldHear_23 sk_123 (Nat.le_of_ble_eq_true rfl) (Nat.le_of_eq (Nat.zero_add _)) (Nat.le_of_eq (Nat.zero_add _)) (fun _ _ hM' hT' => y_no hM' hT') ?_
    exact j_iret hM dX5_wouldHear_26 rfl hT
  · exact absurd nI_0 h10

set_option maxHeartbeats 4000000 in
set_option maxRecDepth 100000 in
theorem q_wouldHear_1 {sx : Nat → jv_S} {g : jv_G} {X : jv_X} {T : jv_T} {n : Nat} {V : Nat → Nat → Int32} {L : Nat → Nat → Int64} {k z : Nat} {N K R : Nat} (hC : Mt V N K R) {j : Nat} (hj : j < R) {f : Int32} (hx : f < 0 ∨ nI N ≤ f) (hM : jv_M g X T) (hT : T (.inl (some (.int (nI 0)))) n (SH sx) (t1 V 1) L) : jv_J g X I_X5_wouldHear 0 [some (jv_r g 123), some (.int (nI j)), some (.int f), none] [] n (SH sx) V L k z := by
  obtain ⟨hN, hK, hR, hN2, hb, hK4, hR8, hEv⟩ := id hC
  obtain ⟨hN', hK', hR', -⟩ := t0_Mt hC
  refine j_aload_n_0 dX5_wouldHear_0 ?_
  refine j_iconst (v := nI 0) dX5_wouldHear_1 nc_iconst_0 ?_
  refine P_X5_63 rfl dX5_wouldHear_2 sk_123 ?_
  refine j_aload_n_0 dX5_wouldHear_5 ?_
  refine j_iload_n_1 dX5_wouldHear_6 ?_
  refine C_X5_166 rfl (by decide) dX5_wouldHear_7 sk_123 (Nat.le_of_ble_eq_true rfl) (Nat.le_of_eq (Nat.zero_add _)) (Nat.le_of_eq (Nat.zero_add _)) (fun _ _ hM' hT' => y_isRumour (t0_Mt hC) hj hM' hT') ?_
  refine j_if_eq (tgt := 21) dX5_wouldHear_10 (by decide) (fun h10 => ?_) (fun h10 => ?_)
  · exact absurd h10 nI1_ne
  · refine j_aload_n_0 dX5_wouldHear_13 ?_
    refine j_iload_n_2 dX5_wouldHear_14 ?_
    refine C_X5_146 rfl (by decide) dX5_wouldHear_15 sk_123 (Nat.le_of_ble_eq_true rfl) (Nat.le_of_eq (Nat.zero_add _)) (Nat.le_of_eq (Nat.zero_add _)) (fun _ _ hM' hT' => n_isFloor (t0_Mt hC) hx hM' hT') ?_
    refine j_if_ne (tgt := 27) dX5_wouldHear_18 (by decide) (fun h18 => ?_) (fun h18 => ?_)
    · exact absurd nI_0 h18
    · refine j_aload_n_0 dX5_wouldHear_21 ?_
      refine j_iconst (v := nI 1) dX5_wouldHear_22 nc_iconst_1 ?_
      refine C_X5_143 rfl (by decide) dX5_wouldHear_23 sk_123 (Nat.le_of_ble_eq_true rfl) (Nat.le_of_eq (Nat.zero_add _)) (Nat.le_of_eq (Nat.zero_add _)) (fun _ _ hM' hT' => y_no hM' hT') ?_
      exact j_iret hM dX5_wouldHear_26 rfl hT

set_option maxHeartbeats 4000000 in
set_option maxRecDepth 100000 in
theorem m_believersInTheEnd {sx : Nat → jv_S} {g : jv_G} {X : jv_X} {T : jv_T} {n : Nat} {V : Nat → Nat → Int32} {L : Nat → Nat → Int64} {k z : Nat} {N K R : Nat} (hC : Mt V N K R) {j : Nat} (hj : j < R)  (hM : jv_M g X T) (hT : T (.inl (some (.int (beL (ieM (t0 V) N K j) j N 0 (nI 0))))) n (SH sx) (bbM (ieM (t0 V) N K j)) L) : jv_J g X I_X5_believersInTheEnd 0 [some (jv_r g 123), some (.int (nI j))] [] n (SH sx) V L k z := by
  obtain ⟨hN, hK, hR, hN2, hb, hK4, hR8, hEv⟩ := id hC
  obtain ⟨hN', hK', hR', -⟩ := t0_Mt hC
  refine j_aload_n_0 dX5_believersInTheEnd_0 ?_
  refine j_iconst (v := nI 0) dX5_believersInTheEnd_1 nc_iconst_0 ?_
  refine P_X5_63 rfl dX5_believersInTheEnd_2 sk_123 ?_
  refine j_aload_n_0 dX5_believersInTheEnd_5 ?_
  refine j_iload_n_1 dX5_believersInTheEnd_6 ?_
  refine C_X5_166 rfl (by decide) dX5_believersInTheEnd_7 sk_123 (Nat.le_of_ble_eq_true rfl) (Nat.le_of_eq (Nat.zero_add _)) (Nat.le_of_eq (Nat.zero_add _)) (fun _ _ hM' hT' => y_isRumour (t0_Mt hC) hj hM' hT') ?_
  refine j_if_eq (tgt := 21) dX5_believersInTheEnd_10 (by decide) (fun h10 => ?_) (fun h10 => ?_)
  · exact absurd h10 nI1_ne
  · refine j_aload_n_0 dX5_believersInTheEnd_13 ?_
    refine j_iload_n_1 dX5_believersInTheEnd_14 ?_
    refine C_X5_221 rfl (by decide) dX5_believersInTheEnd_15 sk_123 (Nat.le_of_ble_eq_true rfl) (Nat.le_of_eq (Nat.zero_add _)) (Nat.le_of_eq (Nat.zero_add _)) (fun _ _ hM' hT' => y_inTheEnd (t0_Mt hC) (by omega) hM' hT') ?_
    refine j_goto (tgt := 26) dX5_believersInTheEnd_18 (by decide) ?_
    exact j_iret hM dX5_believersInTheEnd_26 rfl hT

set_option maxHeartbeats 4000000 in
set_option maxRecDepth 100000 in
theorem q_believersInTheEnd_0 {sx : Nat → jv_S} {g : jv_G} {X : jv_X} {T : jv_T} {n : Nat} {V : Nat → Nat → Int32} {L : Nat → Nat → Int64} {k z : Nat} {N K R : Nat} (hC : Mt V N K R) {j : Int32} (hx : j < 0 ∨ nI R ≤ j) (hM : jv_M g X T) (hT : T (.inl (some (.int (nI 0)))) n (SH sx) (t1 V 1) L) : jv_J g X I_X5_believersInTheEnd 0 [some (jv_r g 123), some (.int j)] [] n (SH sx) V L k z := by
  obtain ⟨hN, hK, hR, hN2, hb, hK4, hR8, hEv⟩ := id hC
  obtain ⟨hN', hK', hR', -⟩ := t0_Mt hC
  refine j_aload_n_0 dX5_believersInTheEnd_0 ?_
  refine j_iconst (v := nI 0) dX5_believersInTheEnd_1 nc_iconst_0 ?_
  refine P_X5_63 rfl dX5_believersInTheEnd_2 sk_123 ?_
  refine j_aload_n_0 dX5_believersInTheEnd_5 ?_
  refine j_iload_n_1 dX5_believersInTheEnd_6 ?_
  refine C_X5_166 rfl (by decide) dX5_believersInTheEnd_7 sk_123 (Nat.le_of_ble_eq_true rfl) (Nat.le_of_eq (Nat.zero_add _)) (Nat.le_of_eq (Nat.zero_add _)) (fun _ _ hM' hT' => n_isRumour (t0_Mt hC) hx hM' hT') ?_
  refine j_if_eq (tgt := 21) dX5_believersInTheEnd_10 (by decide) (fun h10 => ?_) (fun h10 => ?_)
  · refine j_aload_n_0 dX5_believersInTheEnd_21 ?_
    refine j_iconst (v := nI 1) dX5_believersInTheEnd_22 nc_iconst_1 ?_
    refine C_X5_143 rfl (by decide) dX5_believersInTheEnd_23 sk_123 (Nat.le_of_ble_eq_true rfl) (Nat.le_of_eq (Nat.zero_add _)) (Nat.le_of_eq (Nat.zero_add _)) (fun _ _ hM' hT' => y_no hM' hT') ?_
    exact j_iret hM dX5_believersInTheEnd_26 rfl hT
  · exact absurd nI_0 h10

set_option maxHeartbeats 4000000 in
set_option maxRecDepth 100000 in
theorem m_quietIn {sx : Nat → jv_S} {g : jv_G} {X : jv_X} {T : jv_T} {n : Nat} {V : Nat → Nat → Int32} {L : Nat → Nat → Int64} {k z : Nat} {N K R : Nat} (hC : Mt V N K R) {j : Nat} (hj : j < R)  (hM : jv_M g X T) (hT : T (.inl (some (.int (qtI (qtM (t0 V) N K j).2)))) n (SH sx) (bbM (qtM (t0 V) N K j).1) L) : jv_J g X I_X5_quietIn 0 [some (jv_r g 123), some (.int (nI j))] [] n (SH sx) V L k z := by
  obtain ⟨hN, hK, hR, hN2, hb, hK4, hR8, hEv⟩ := id hC
  obtain ⟨hN', hK', hR', -⟩ := t0_Mt hC
  refine j_aload_n_0 dX5_quietIn_0 ?_
  refine j_iconst (v := nI 0) dX5_quietIn_1 nc_iconst_0 ?_
  refine P_X5_63 rfl dX5_quietIn_2 sk_123 ?_
  refine j_aload_n_0 dX5_quietIn_5 ?_
  refine j_iload_n_1 dX5_quietIn_6 ?_
  refine C_X5_166 rfl (by decide) dX5_quietIn_7 sk_123 (Nat.le_of_ble_eq_true rfl) (Nat.le_of_eq (Nat.zero_add _)) (Nat.le_of_eq (Nat.zero_add _)) (fun _ _ hM' hT' => y_isRumour (t0_Mt hC) hj hM' hT') ?_
  refine j_if_eq (tgt := 21) dX5_quietIn_10 (by decide) (fun h10 => ?_) (fun h10 => ?_)
  · exact absurd h10 nI1_ne
  · refine j_aload_n_0 dX5_quietIn_13 ?_
    refine j_iload_n_1 dX5_quietIn_14 ?_
    refine C_X5_227 rfl (by decide) dX5_quietIn_15 sk_123 (Nat.le_of_ble_eq_true rfl) (Nat.le_of_eq (Nat.zero_add _)) (Nat.le_of_eq (Nat.zero_add _)) (fun _ _ hM' hT' => y_quiet (t0_Mt hC) (by omega) hM' hT') ?_
    refine j_goto (tgt := 26) dX5_quietIn_18 (by decide) ?_
    exact j_iret hM dX5_quietIn_26 rfl hT

set_option maxHeartbeats 4000000 in
set_option maxRecDepth 100000 in
theorem q_quietIn_0 {sx : Nat → jv_S} {g : jv_G} {X : jv_X} {T : jv_T} {n : Nat} {V : Nat → Nat → Int32} {L : Nat → Nat → Int64} {k z : Nat} {N K R : Nat} (hC : Mt V N K R) {j : Int32} (hx : j < 0 ∨ nI R ≤ j) (hM : jv_M g X T) (hT : T (.inl (some (.int (nI 0)))) n (SH sx) (t1 V 1) L) : jv_J g X I_X5_quietIn 0 [some (jv_r g 123), some (.int j)] [] n (SH sx) V L k z := by
  obtain ⟨hN, hK, hR, hN2, hb, hK4, hR8, hEv⟩ := id hC
  obtain ⟨hN', hK', hR', -⟩ := t0_Mt hC
  refine j_aload_n_0 dX5_quietIn_0 ?_
  refine j_iconst (v := nI 0) dX5_quietIn_1 nc_iconst_0 ?_
  refine P_X5_63 rfl dX5_quietIn_2 sk_123 ?_
  refine j_aload_n_0 dX5_quietIn_5 ?_
  refine j_iload_n_1 dX5_quietIn_6 ?_
  refine C_X5_166 rfl (by decide) dX5_quietIn_7 sk_123 (Nat.le_of_ble_eq_true rfl) (Nat.le_of_eq (Nat.zero_add _)) (Nat.le_of_eq (Nat.zero_add _)) (fun _ _ hM' hT' => n_isRumour (t0_Mt hC) hx hM' hT') ?_
  refine j_if_eq (tgt := 21) dX5_quietIn_10 (by decide) (fun h10 => ?_) (fun h10 => ?_)
  · refine j_aload_n_0 dX5_quietIn_21 ?_
    refine j_iconst (v := nI 1) dX5_quietIn_22 nc_iconst_1 ?_
    refine C_X5_143 rfl (by decide) dX5_quietIn_23 sk_123 (Nat.le_of_ble_eq_true rfl) (Nat.le_of_eq (Nat.zero_add _)) (Nat.le_of_eq (Nat.zero_add _)) (fun _ _ hM' hT' => y_no hM' hT') ?_
    exact j_iret hM dX5_quietIn_26 rfl hT
  · exact absurd nI_0 h10

set_option maxHeartbeats 4000000 in
set_option maxRecDepth 100000 in
theorem m_believersWith {sx : Nat → jv_S} {g : jv_G} {X : jv_X} {T : jv_T} {n : Nat} {V : Nat → Nat → Int32} {L : Nat → Nat → Int64} {k z : Nat} {N K R : Nat} (hC : Mt V N K R) {j : Nat} (hj : j < R) {f : Nat} (hf : f < N)  (hM : jv_M g X T) (hT : T (.inl (some (.int (beL (wiM (t0 V) N K j f) j N 0 (nI 0))))) n (SH sx) (bbM (wiM (t0 V) N K j f)) L) : jv_J g X I_X5_believersWith 0 [some (jv_r g 123), some (.int (nI j)), some (.int (nI f))] [] n (SH sx) V L k z := by
  obtain ⟨hN, hK, hR, hN2, hb, hK4, hR8, hEv⟩ := id hC
  obtain ⟨hN', hK', hR', -⟩ := t0_Mt hC
  refine j_aload_n_0 dX5_believersWith_0 ?_
  refine j_iconst (v := nI 0) dX5_believersWith_1 nc_iconst_0 ?_
  refine P_X5_63 rfl dX5_believersWith_2 sk_123 ?_
  refine j_aload_n_0 dX5_believersWith_5 ?_
  refine j_iload_n_1 dX5_believersWith_6 ?_
  refine C_X5_166 rfl (by decide) dX5_believersWith_7 sk_123 (Nat.le_of_ble_eq_true rfl) (Nat.le_of_eq (Nat.zero_add _)) (Nat.le_of_eq (Nat.zero_add _)) (fun _ _ hM' hT' => y_isRumour (t0_Mt hC) hj hM' hT') ?_
  refine j_if_eq (tgt := 30) dX5_believersWith_10 (by decide) (fun h10 => ?_) (fun h10 => ?_)
  · exact absurd h10 nI1_ne
  · refine j_aload_n_0 dX5_believersWith_13 ?_
    refine j_iload_n_2 dX5_believersWith_14 ?_
    refine C_X5_146 rfl (by decide) dX5_believersWith_15 sk_123 (Nat.le_of_ble_eq_true rfl) (Nat.le_of_eq (Nat.zero_add _)) (Nat.le_of_eq (Nat.zero_add _)) (fun _ _ hM' hT' => y_isFloor (t0_Mt hC) hf hM' hT') ?_
    refine j_if_eq (tgt := 30) dX5_believersWith_18 (by decide) (fun h18 => ?_) (fun h18 => ?_)
    · exact absurd h18 nI1_ne
    · refine j_aload_n_0 dX5_believersWith_21 ?_
      refine j_iload_n_1 dX5_believersWith_22 ?_
      refine j_iload_n_2 dX5_believersWith_23 ?_
      refine C_X5_230 rfl (by decide) dX5_believersWith_24 sk_123 (Nat.le_of_ble_eq_true rfl) (Nat.le_of_eq (Nat.zero_add _)) (Nat.le_of_eq (Nat.zero_add _)) (fun _ _ hM' hT' => y_with (t0_Mt hC) (by omega) hf hM' hT') ?_
      refine j_goto (tgt := 35) dX5_believersWith_27 (by decide) ?_
      exact j_iret hM dX5_believersWith_35 rfl hT

set_option maxHeartbeats 4000000 in
set_option maxRecDepth 100000 in
theorem q_believersWith_0 {sx : Nat → jv_S} {g : jv_G} {X : jv_X} {T : jv_T} {n : Nat} {V : Nat → Nat → Int32} {L : Nat → Nat → Int64} {k z : Nat} {N K R : Nat} (hC : Mt V N K R) {j : Int32} {f : Int32} (hx : j < 0 ∨ nI R ≤ j) (hM : jv_M g X T) (hT : T (.inl (some (.int (nI 0)))) n (SH sx) (t1 V 1) L) : jv_J g X I_X5_believersWith 0 [some (jv_r g 123), some (.int j), some (.int f)] [] n (SH sx) V L k z := by
  obtain ⟨hN, hK, hR, hN2, hb, hK4, hR8, hEv⟩ := id hC
  obtain ⟨hN', hK', hR', -⟩ := t0_Mt hC
  refine j_aload_n_0 dX5_believersWith_0 ?_
  refine j_iconst (v := nI 0) dX5_believersWith_1 nc_iconst_0 ?_
  refine P_X5_63 rfl dX5_believersWith_2 sk_123 ?_
  refine j_aload_n_0 dX5_believersWith_5 ?_
  refine j_iload_n_1 dX5_believersWith_6 ?_
  refine C_X5_166 rfl (by decide) dX5_believersWith_7 sk_123 (Nat.le_of_ble_eq_true rfl) (Nat.le_of_eq (Nat.zero_add _)) (Nat.le_of_eq (Nat.zero_add _)) (fun _ _ hM' hT' => n_isRumour (t0_Mt hC) hx hM' hT') ?_
  refine j_if_eq (tgt := 30) dX5_believersWith_10 (by decide) (fun h10 => ?_) (fun h10 => ?_)
  · refine j_aload_n_0 dX5_believersWith_30 ?_
    refine j_iconst (v := nI 1) dX5_believersWith_31 nc_iconst_1 ?_
    refine C_X5_143 rfl (by decide) dX5_believersWith_32 sk_123 (Nat.le_of_ble_eq_true rfl) (Nat.le_of_eq (Nat.zero_add _)) (Nat.le_of_eq (Nat.zero_add _)) (fun _ _ hM' hT' => y_no hM' hT') ?_
    exact j_iret hM dX5_believersWith_35 rfl hT
  · exact absurd nI_0 h10

set_option maxHeartbeats 4000000 in
set_option maxRecDepth 100000 in
theorem q_believersWith_1 {sx : Nat → jv_S} {g : jv_G} {X : jv_X} {T : jv_T} {n : Nat} {V : Nat → Nat → Int32} {L : Nat → Nat → Int64} {k z : Nat} {N K R : Nat} (hC : Mt V N K R) {j : Nat} (hj : j < R) {f : Int32} (hx : f < 0 ∨ nI N ≤ f) (hM : jv_M g X T) (hT : T (.inl (some (.int (nI 0)))) n (SH sx) (t1 V 1) L) : jv_J g X I_X5_believersWith 0 [some (jv_r g 123), some (.int (nI j)), some (.int f)] [] n (SH sx) V L k z := by
  obtain ⟨hN, hK, hR, hN2, hb, hK4, hR8, hEv⟩ := id hC
  obtain ⟨hN', hK', hR', -⟩ := t0_Mt hC
  refine j_aload_n_0 dX5_believersWith_0 ?_
  refine j_iconst (v := nI 0) dX5_believersWith_1 nc_iconst_0 ?_
  refine P_X5_63 rfl dX5_believersWith_2 sk_123 ?_
  refine j_aload_n_0 dX5_believersWith_5 ?_
  refine j_iload_n_1 dX5_believersWith_6 ?_
  refine C_X5_166 rfl (by decide) dX5_believersWith_7 sk_123 (Nat.le_of_ble_eq_true rfl) (Nat.le_of_eq (Nat.zero_add _)) (Nat.le_of_eq (Nat.zero_add _)) (fun _ _ hM' hT' => y_isRumour (t0_Mt hC) hj hM' hT') ?_
  refine j_if_eq (tgt := 30) dX5_believersWith_10 (by decide) (fun h10 => ?_) (fun h10 => ?_)
  · exact absurd h10 nI1_ne
  · refine j_aload_n_0 dX5_believersWith_13 ?_
    refine j_iload_n_2 dX5_believersWith_14 ?_
    refine C_X5_146 rfl (by decide) dX5_believersWith_15 sk_123 (Nat.le_of_ble_eq_true rfl) (Nat.le_of_eq (Nat.zero_add _)) (Nat.le_of_eq (Nat.zero_add _)) (fun _ _ hM' hT' => n_isFloor (t0_Mt hC) hx hM' hT') ?_
    refine j_if_eq (tgt := 30) dX5_believersWith_18 (by decide) (fun h18 => ?_) (fun h18 => ?_)
    · refine j_aload_n_0 dX5_believersWith_30 ?_
      refine j_iconst (v := nI 1) dX5_believersWith_31 nc_iconst_1 ?_
      refine C_X5_143 rfl (by decide) dX5_believersWith_32 sk_123 (Nat.le_of_ble_eq_true rfl) (Nat.le_of_eq (Nat.zero_add _)) (Nat.le_of_eq (Nat.zero_add _)) (fun _ _ hM' hT' => y_no hM' hT') ?_
      exact j_iret hM dX5_believersWith_35 rfl hT
    · exact absurd nI_0 h18

set_option maxHeartbeats 4000000 in
set_option maxRecDepth 100000 in
theorem m_bestDenial {sx : Nat → jv_S} {g : jv_G} {X : jv_X} {T : jv_T} {n : Nat} {V : Nat → Nat → Int32} {L : Nat → Nat → Int64} {k z : Nat} {N K R : Nat} (hC : Mt V N K R) {j : Nat} (hj : j < R)  (hM : jv_M g X T) (hT : T (.inl (some (.int (nI (dnR (t0 V) N K j))))) n (SH sx) (dnX (t0 V) N K j) L) : jv_J g X I_X5_bestDenial 0 [some (jv_r g 123), some (.int (nI j))] [] n (SH sx) V L k z := by
  obtain ⟨hN, hK, hR, hN2, hb, hK4, hR8, hEv⟩ := id hC
  obtain ⟨hN', hK', hR', -⟩ := t0_Mt hC
  refine j_aload_n_0 dX5_bestDenial_0 ?_
  refine j_iconst (v := nI 0) dX5_bestDenial_1 nc_iconst_0 ?_
  refine P_X5_63 rfl dX5_bestDenial_2 sk_123 ?_
  refine j_aload_n_0 dX5_bestDenial_5 ?_
  refine j_iload_n_1 dX5_bestDenial_6 ?_
  refine C_X5_166 rfl (by decide) dX5_bestDenial_7 sk_123 (Nat.le_of_ble_eq_true rfl) (Nat.le_of_eq (Nat.zero_add _)) (Nat.le_of_eq (Nat.zero_add _)) (fun _ _ hM' hT' => y_isRumour (t0_Mt hC) hj hM' hT') ?_
  refine j_if_eq (tgt := 21) dX5_bestDenial_10 (by decide) (fun h10 => ?_) (fun h10 => ?_)
  · exact absurd h10 nI1_ne
  · refine j_aload_n_0 dX5_bestDenial_13 ?_
    refine j_iload_n_1 dX5_bestDenial_14 ?_
    refine C_X5_233 rfl (by decide) dX5_bestDenial_15 sk_123 (Nat.le_of_ble_eq_true rfl) (Nat.le_of_eq (Nat.zero_add _)) (Nat.le_of_eq (Nat.zero_add _)) (fun _ _ hM' hT' => y_denial (t0_Mt hC) (by omega) hM' hT') ?_
    refine j_goto (tgt := 26) dX5_bestDenial_18 (by decide) ?_
    exact j_iret hM dX5_bestDenial_26 rfl hT

set_option maxHeartbeats 4000000 in
set_option maxRecDepth 100000 in
theorem q_bestDenial_0 {sx : Nat → jv_S} {g : jv_G} {X : jv_X} {T : jv_T} {n : Nat} {V : Nat → Nat → Int32} {L : Nat → Nat → Int64} {k z : Nat} {N K R : Nat} (hC : Mt V N K R) {j : Int32} (hx : j < 0 ∨ nI R ≤ j) (hM : jv_M g X T) (hT : T (.inl (some (.int (nI 0)))) n (SH sx) (t1 V 1) L) : jv_J g X I_X5_bestDenial 0 [some (jv_r g 123), some (.int j)] [] n (SH sx) V L k z := by
  obtain ⟨hN, hK, hR, hN2, hb, hK4, hR8, hEv⟩ := id hC
  obtain ⟨hN', hK', hR', -⟩ := t0_Mt hC
  refine j_aload_n_0 dX5_bestDenial_0 ?_
  refine j_iconst (v := nI 0) dX5_bestDenial_1 nc_iconst_0 ?_
  refine P_X5_63 rfl dX5_bestDenial_2 sk_123 ?_
  refine j_aload_n_0 dX5_bestDenial_5 ?_
  refine j_iload_n_1 dX5_bestDenial_6 ?_
  refine C_X5_166 rfl (by decide) dX5_bestDenial_7 sk_123 (Nat.le_of_ble_eq_true rfl) (Nat.le_of_eq (Nat.zero_add _)) (Nat.le_of_eq (Nat.zero_add _)) (fun _ _ hM' hT' => n_isRumour (t0_Mt hC) hx hM' hT') ?_
  refine j_if_eq (tgt := 21) dX5_bestDenial_10 (by decide) (fun h10 => ?_) (fun h10 => ?_)
  · refine j_aload_n_0 dX5_bestDenial_21 ?_
    refine j_iconst (v := nI 1) dX5_bestDenial_22 nc_iconst_1 ?_
    refine C_X5_143 rfl (by decide) dX5_bestDenial_23 sk_123 (Nat.le_of_ble_eq_true rfl) (Nat.le_of_eq (Nat.zero_add _)) (Nat.le_of_eq (Nat.zero_add _)) (fun _ _ hM' hT' => y_no hM' hT') ?_
    exact j_iret hM dX5_bestDenial_26 rfl hT
  · exact absurd nI_0 h10

set_option maxHeartbeats 4000000 in
set_option maxRecDepth 100000 in
theorem m_bestStairsToShut {sx : Nat → jv_S} {g : jv_G} {X : jv_X} {T : jv_T} {n : Nat} {V : Nat → Nat → Int32} {L : Nat → Nat → Int64} {k z : Nat} {N K R : Nat} (hC : Mt V N K R) {j : Nat} (hj : j < R)  (hM : jv_M g X T) (hT : T (.inl (some (.int (ov (shX (t0 V) N K j).2)))) n (SH sx) ((shX (t0 V) N K j).1) L) : jv_J g X I_X5_bestStairsToShut 0 [some (jv_r g 123), some (.int (nI j))] [] n (SH sx) V L k z := by
  obtain ⟨hN, hK, hR, hN2, hb, hK4, hR8, hEv⟩ := id hC
  obtain ⟨hN', hK', hR', -⟩ := t0_Mt hC
  refine j_aload_n_0 dX5_bestStairsToShut_0 ?_
  refine j_iconst (v := nI 0) dX5_bestStairsToShut_1 nc_iconst_0 ?_
  refine P_X5_63 rfl dX5_bestStairsToShut_2 sk_123 ?_
  refine j_aload_n_0 dX5_bestStairsToShut_5 ?_
  refine j_iload_n_1 dX5_bestStairsToShut_6 ?_
  refine C_X5_166 rfl (by decide) dX5_bestStairsToShut_7 sk_123 (Nat.le_of_ble_eq_true rfl) (Nat.le_of_eq (Nat.zero_add _)) (Nat.le_of_eq (Nat.zero_add _)) (fun _ _ hM' hT' => y_isRumour (t0_Mt hC) hj hM' hT') ?_
  refine j_if_eq (tgt := 21) dX5_bestStairsToShut_10 (by decide) (fun h10 => ?_) (fun h10 => ?_)
  · exact absurd h10 nI1_ne
  · refine j_aload_n_0 dX5_bestStairsToShut_13 ?_
    refine j_iload_n_1 dX5_bestStairsToShut_14 ?_
    refine C_X5_236 rfl (by decide) dX5_bestStairsToShut_15 sk_123 (Nat.le_of_ble_eq_true rfl) (Nat.le_of_eq (Nat.zero_add _)) (Nat.le_of_eq (Nat.zero_add _)) (fun _ _ hM' hT' => y_toShut (t0_Mt hC) (by omega) hM' hT') ?_
    refine j_goto (tgt := 26) dX5_bestStairsToShut_18 (by decide) ?_
    exact j_iret hM dX5_bestStairsToShut_26 rfl hT

set_option maxHeartbeats 4000000 in
set_option maxRecDepth 100000 in
theorem q_bestStairsToShut_0 {sx : Nat → jv_S} {g : jv_G} {X : jv_X} {T : jv_T} {n : Nat} {V : Nat → Nat → Int32} {L : Nat → Nat → Int64} {k z : Nat} {N K R : Nat} (hC : Mt V N K R) {j : Int32} (hx : j < 0 ∨ nI R ≤ j) (hM : jv_M g X T) (hT : T (.inl (some (.int (nI 0)))) n (SH sx) (t1 V 1) L) : jv_J g X I_X5_bestStairsToShut 0 [some (jv_r g 123), some (.int j)] [] n (SH sx) V L k z := by
  obtain ⟨hN, hK, hR, hN2, hb, hK4, hR8, hEv⟩ := id hC
  obtain ⟨hN', hK', hR', -⟩ := t0_Mt hC
  refine j_aload_n_0 dX5_bestStairsToShut_0 ?_
  refine j_iconst (v := nI 0) dX5_bestStairsToShut_1 nc_iconst_0 ?_
  refine P_X5_63 rfl dX5_bestStairsToShut_2 sk_123 ?_
  refine j_aload_n_0 dX5_bestStairsToShut_5 ?_
  refine j_iload_n_1 dX5_bestStairsToShut_6 ?_
  refine C_X5_166 rfl (by decide) dX5_bestStairsToShut_7 sk_123 (Nat.le_of_ble_eq_true rfl) (Nat.le_of_eq (Nat.zero_add _)) (Nat.le_of_eq (Nat.zero_add _)) (fun _ _ hM' hT' => n_isRumour (t0_Mt hC) hx hM' hT') ?_
  refine j_if_eq (tgt := 21) dX5_bestStairsToShut_10 (by decide) (fun h10 => ?_) (fun h10 => ?_)
  · refine j_aload_n_0 dX5_bestStairsToShut_21 ?_
    refine j_iconst (v := nI 1) dX5_bestStairsToShut_22 nc_iconst_1 ?_
    refine C_X5_143 rfl (by decide) dX5_bestStairsToShut_23 sk_123 (Nat.le_of_ble_eq_true rfl) (Nat.le_of_eq (Nat.zero_add _)) (Nat.le_of_eq (Nat.zero_add _)) (fun _ _ hM' hT' => y_no hM' hT') ?_
    exact j_iret hM dX5_bestStairsToShut_26 rfl hT
  · exact absurd nI_0 h10

def smM (V : (Nat → Nat → Int32)) : Nat → Nat → Int32 → Int32
  | 0, _, a => a
  | m + 1, i, a => smM V m (i + 1) (a + V 124 i)

set_option maxHeartbeats 4000000 in
set_option maxRecDepth 100000 in
theorem y_mean_loop {sx : Nat → jv_S} {g : jv_G} {X : jv_X} {T : jv_T} {n : Nat} {V : Nat → Nat → Int32} {L : Nat → Nat → Int64} {k z : Nat} {N K R : Nat} (hC : Mt V N K R) (hM : jv_M g X T) : ∀ (m : Nat) (i : Nat) (a : Int32), i ≤ N → N + 1 ≤ i + m → vf_n64 (FP.ddiv (FP.i2d (smM V (N - i) i a)) (FP.i2d (nI N))) → T (.inl (some (.double (FP.ddiv (FP.i2d (smM V (N - i) i a)) (FP.i2d (nI N)))))) n (SH sx) V L → jv_J g X I_X5_meanHeads 9 [some (jv_r g 123), some (.int a), some (.int (nI i))] [] n (SH sx) V L k z := by
  intro m
  induction m with
  | zero => intro i a hi him hn hT; omega
  | succ m ih =>
  intro i a hi him hn hT
  obtain ⟨hN, hK, hR, hN2, hb, hK4, hR8, hEv⟩ := id hC
  refine j_iload_n_2 dX5_meanHeads_9 ?_
  refine j_aload_n_0 dX5_meanHeads_10 ?_
  refine G_X5_67 rfl dX5_meanHeads_11 sk_123 ?_
  refine j_top (y := nI N) hN ?_
  refine j_ic_geN (by omega) (by omega) (tgt := 32) dX5_meanHeads_14 (by decide) (fun h14 => ?_) (fun h14 => ?_)
  · refine j_iload_n_1 dX5_meanHeads_32 ?_
    refine j_i2d dX5_meanHeads_33 ?_
    refine j_aload_n_0 dX5_meanHeads_34 ?_
    refine G_X5_67 rfl dX5_meanHeads_35 sk_123 ?_
    refine j_top (y := nI N) hN ?_
    refine j_i2d dX5_meanHeads_38 ?_
    refine j_ddiv (by rw [show N - i = 0 by omega] at hn; exact hn) dX5_meanHeads_39 ?_
    exact j_dret hM dX5_meanHeads_40 rfl (by rw [show N - i = 0 by omega] at hT; exact hT)
  · refine j_iload_n_1 dX5_meanHeads_17 ?_
    refine j_aload_n_0 dX5_meanHeads_18 ?_
    refine G_X5_9 rfl dX5_meanHeads_19 sk_123 sr_123_4 ?_
    refine j_iload_n_2 dX5_meanHeads_22 ?_
    refine j_iald dX5_meanHeads_23 sk_124 sn_124 (by omega) (by decide) ?_
    refine j_iadd dX5_meanHeads_24 ?_
    refine j_istore_n_1 rfl (by decide) dX5_meanHeads_25 ?_
    refine j_inc1_2 rfl (by decide) dX5_meanHeads_26 ?_
    refine j_goto (tgt := 9) dX5_meanHeads_29 (by decide) ?_
    rw [show N - i = (N - (i + 1)) + 1 by omega] at hT hn
    refine ih (i + 1) _ (by omega) (by omega) hn ?_
    exact hT

set_option maxHeartbeats 4000000 in
set_option maxRecDepth 100000 in
theorem m_meanHeads {sx : Nat → jv_S} {g : jv_G} {X : jv_X} {T : jv_T} {n : Nat} {V : Nat → Nat → Int32} {L : Nat → Nat → Int64} {k z : Nat} {N K R : Nat} (hC : Mt V N K R) (hn : vf_n64 (FP.ddiv (FP.i2d (smM (t0 V) N 0 (nI 0))) (FP.i2d (nI N)))) (hM : jv_M g X T) (hT : T (.inl (some (.double (FP.ddiv (FP.i2d (smM (t0 V) N 0 (nI 0))) (FP.i2d (nI N)))))) n (SH sx) (t0 V) L) : jv_J g X I_X5_meanHeads 0 [some (jv_r g 123), none, none] [] n (SH sx) V L k z := by
  obtain ⟨hN, hK, hR, hN2, hb, hK4, hR8, hEv⟩ := id hC
  obtain ⟨hN', hK', hR', -⟩ := t0_Mt hC
  refine j_aload_n_0 dX5_meanHeads_0 ?_
  refine j_iconst (v := nI 0) dX5_meanHeads_1 nc_iconst_0 ?_
  refine P_X5_63 rfl dX5_meanHeads_2 sk_123 ?_
  refine j_iconst (v := nI 0) dX5_meanHeads_5 nc_iconst_0 ?_
  refine j_istore_n_1 rfl (by decide) dX5_meanHeads_6 ?_
  refine j_iconst (v := nI 0) dX5_meanHeads_7 nc_iconst_0 ?_
  refine j_istore_n_2 rfl (by decide) dX5_meanHeads_8 ?_
  exact y_mean_loop (t0_Mt hC) hM (N + 1) 0 _ (by omega) (by omega) hn hT
