/-! ===== the law's own methods: below, cell, act ===== -/
def bel (x : Int32) (m : Nat) : Nat := (x.toBitVec.toNat % 2 ^ 31) % m
theorem bel_lt {x : Int32} {m : Nat} (h : 0 < m) : bel x m < m := Nat.mod_lt _ h
theorem bel_eq {x : Int32} {m : Nat} (h0 : 0 < m) (h1 : m < 2 ^ 31) : (x &&& 2147483647) - (x &&& 2147483647) / nI m * nI m = nI (bel x m) := by
  rw [pk_and x 31 (by decide +kernel), pk_rem (Nat.mod_lt _ (by decide)) h0 h1]
  rfl
theorem jv_othm (i : Nat) {c : Cond} (h : lw_tbl[i]? = some c) (hp : jv_isO c = true) : c ∈ jv_oth := List.mem_filter.mpr ⟨List.mem_of_getElem? h, hp⟩
theorem jokI {ls : List (Option Value)} {i j0 : Nat} {x : Int32} (h : ls[j0]? = some (some (.int x))) (hj : j0 + 1 = i) : jv_ok ls i := by
  intro j v hj' hv hc
  obtain rfl : j = j0 := by omega
  rw [h] at hv
  cases hv
  exact absurd hc (show ¬ (1 : Nat) = 2 by decide)
/-- the class's shapes, whatever lies beyond -/
theorem SH_low {sx : Nat → jv_S} {q : Nat} (h : q < 123) : SH sx q = SH (fun _ => (0, 0, fun _ => none)) q := by
  unfold SH
  repeat' split
  all_goals first | rfl | omega
theorem SH_ex {sx s1 : Nat → jv_S} (h : ∀ q, q < 123 → s1 q = SH sx q) : ∃ sy, s1 = SH sy := ⟨s1, (SH_self (fun p hp => (h p hp).trans (SH_low hp))).symm⟩
/-- what stands after an act: the credit F, the clock at most t -/
def PO (F t n1 : Nat) (s1 : Nat → jv_S) (V1 : Nat → Nat → Int32) : Prop := ∃ sy tg pl N K R t1, s1 = SH sy ∧ TS V1 N K R t1 ∧ REP tg pl n1 (SH sy) V1 V1 N K R ∧ FA V1 N R = F ∧ t1 ≤ t
theorem FA_cg {V1 V : Nat → Nat → Int32} {N R : Nat} (hR : R ≤ 8) (h : ∀ q, 43 ≤ q → q < 123 → V1 q = V q) : FA V1 N R = FA V N R := sm_cg R (fun j hj => Fi_cg (fun o f _ _ => by rw [h _ (by omega) (by omega)]))
theorem z1' : ¬ (nI 1 : Int32) = 0 := by decide +kernel
def cellX (g : jv_G) (j : Nat) : Int32 := if j < scM g then scX g j else 790386105 * nI (j + 3)
set_option maxHeartbeats 4000000 in
set_option maxRecDepth 100000 in
theorem c_below {g : jv_G} {X : jv_X} {T : jv_T} {L : Nat → Nat → Int64} {k z : Nat} {n : Nat} {sh : Nat → jv_S} {V : Nat → Nat → Int32} {x : Int32} {m : Nat} (h0 : 0 < m) (h1 : m < 2 ^ 31) (hM : jv_M g X T) (hT : T (.inl (some (.int (nI (bel x m))))) n sh V L) : jv_J g X I_L_below 0 [some (.int x), some (.int (nI m))] [] n sh V L k z := by
  refine j_iload_n_0 dL_below_0 ?_
  refine j_ldc (v := 2147483647) dL_below_1 (jv_gwm 638 (by decide +kernel) rfl) ?_
  refine j_iand dL_below_3 ?_
  refine j_iload_n_1 dL_below_4 ?_
  refine j_irem (nI_ne0 h0 h1) dL_below_5 ?_
  refine j_top (y := nI (bel x m)) (bel_eq h0 h1) ?_
  exact j_iret hM dL_below_6 rfl hT

set_option maxHeartbeats 4000000 in
set_option maxRecDepth 100000 in
theorem c_cell {g : jv_G} {X : jv_X} {T : jv_T} {L : Nat → Nat → Int64} {k z : Nat} {n : Nat} {sh : Nat → jv_S} {V : Nat → Nat → Int32} {j : Nat} (hj : j < 1000) (hM : jv_M g X T) (hT : T (.inl (some (.int (cellX g j)))) n sh V L) : jv_J g X I_L_cell 0 [some (.ref (scB g)), some (.int (nI j))] [] n sh V L k z := by
  refine j_iload_n_1 dL_cell_0 ?_
  refine jl_ld0 dL_cell_1 ?_
  refine jl_slen dL_cell_2 (fun hm => ?_)
  refine j_ic_geN (by omega) (by omega) (tgt := 12) dL_cell_3 (by decide) (fun h3 => ?_) (fun h3 => ?_)
  · have hjm : ¬ j < scM g := by omega
    refine j_ldc (v := 790386105) dL_cell_12 (jv_gwm 642 (by decide +kernel) rfl) ?_
    refine j_iload_n_1 dL_cell_14 ?_
    refine j_iconst (v := nI 3) dL_cell_15 nc_iconst_3 ?_
    refine j_iaddN dL_cell_16 ?_
    refine j_imul dL_cell_17 ?_
    exact j_iret hM dL_cell_18 rfl (by unfold cellX at hT; first | (rw [if_pos hjm] at hT; exact hT) | (rw [if_neg hjm] at hT; exact hT))
  · have hjm : j < scM g := by omega
    refine jl_ld0 dL_cell_6 ?_
    refine j_iload_n_1 dL_cell_7 ?_
    refine jl_sld hjm dL_cell_8 ?_
    refine j_goto (tgt := 18) dL_cell_9 (by decide) ?_
    exact j_iret hM dL_cell_18 rfl (by unfold cellX at hT; first | (rw [if_pos hjm] at hT; exact hT) | (rw [if_neg hjm] at hT; exact hT))

set_option maxHeartbeats 4000000 in
set_option maxRecDepth 100000 in
theorem c_astayB {g : jv_G} {X : jv_X} {T : jv_T} {L : Nat → Nat → Int64} {k z : Nat} {sx : Nat → jv_S} {tg1 pl1 : Nat → Nat} {n : Nat} {V V1 : (Nat → Nat → Int32)} {s1 : Nat → jv_S} {N K R t f a : Nat} {x : Int32} (HT : TS V N K R t) (H1 : REP tg1 pl1 n s1 V1 (jv_U V 3 f (nI a)) N K R) (hA : ∀ q, q < 123 → s1 q = SH sx q ∧ V1 q = V q) (hf : f < N) (ha : a ≤ 9) (hM : jv_M g X T) (hT : ∀ n1 s1 V1, PO (FA V N R) (t) n1 s1 V1 → T (.inl (some (.int (nI 1)))) n1 s1 V1 L) : jv_J g X I_L_act 194 [some (jv_r g 0), some (jv_r g 123), some (.int x), some (.int (nI N)), some (.int (nI f)), some (.int (nI R)), some (.int (nI 1)), some (.int (V 3 f)), none, none, none] [] n s1 V1 L k z := by
  obtain ⟨sy, rfl⟩ := SH_ex (fun q hq => (hA q hq).1)
  have hn := H1.n124
  have hN2 := H1.N2
  have hN12 := H1.N12
  have hR8 := H1.R8
  have hag : Ag V1 V := fun q hq => (hA q hq).2
  have HT1 : TS V1 N K R t := HT.eq hag.eqv
  have hFIN : T (.inl (some (.int (nI 1)))) n (SH sy) (jv_U V1 3 f (nI a)) L := by
    refine hT _ _ _ ⟨sy, tg1, pl1, N, K, R, t, rfl, HT1.stay ha, H1.cls (fun q hq => jv_U_other (by omega)) (by rw [jv_U_other (by omega), jv_U_other (by omega)]; exact congrFun (hag 0 (by omega)) 5) (fun q hq => ?_), FA_cg hR8 (fun q h1 h2 => by rw [jv_U_other (by omega)]; exact hag q h2), Nat.le_refl _⟩
    
    exact hag.U q (by omega)
  refine j_aload_n_0 dL_act_194 ?_
  refine j_iload_4 dL_act_195 ?_
  refine j_aload_n_1 dL_act_197 ?_
  refine G_L_34 rfl dL_act_198 H1.s H1.s2 ?_
  refine j_iload_4 dL_act_201 ?_
  refine j_iald dL_act_203 H1.q3.1 H1.q3.2.1 (by omega) (by omega) ?_
  refine j_top (y := nI a) (by rw [H1.q3.2.2 f (by omega), jv_Ueq]) ?_
  refine C_L_42  rfl (by decide) dL_act_204 sk_0 (Nat.le_of_ble_eq_true rfl) (Nat.le_of_eq (Nat.zero_add _)) (Nat.le_of_eq (Nat.zero_add _)) (fun _ _ hM' hT' => g_setStay HT1.ct hf (nI_nlt (by omega) (by omega)) (nI_le ha (by omega)) hM' hT') ?_
  refine j_iload_7 dL_act_207 ?_
  refine j_ic_ne (tgt := 216) dL_act_209 (by decide) (fun h209 => ?_) (fun h209 => ?_)
  · exact absurd (congrFun (hag 3 (by omega)) f) h209
  · refine j_iconst (v := nI 1) dL_act_212 nc_iconst_1 ?_
    refine j_goto (tgt := 217) dL_act_213 (by decide) ?_
    exact j_zret hM dL_act_217 rfl (jv_b01 (by first | exact Or.inl rfl | exact Or.inr rfl | assumption)) hFIN

set_option maxHeartbeats 4000000 in
set_option maxRecDepth 100000 in
theorem c_astay {g : jv_G} {X : jv_X} {T : jv_T} {L : Nat → Nat → Int64} {k z : Nat} {sx : Nat → jv_S} {tg pl : Nat → Nat} {n : Nat} {V : Nat → Nat → Int32} {N K R t : Nat} (HT : TS V N K R t) (H : REP tg pl n (SH sx) V V N K R) {x : Int32} {f : Nat} (hf : f < N) (hk : 30 ≤ k) (hz : 300 ≤ z) (hM : jv_M g X T) (hT : ∀ n1 s1 V1, PO (FA V N R) (t) n1 s1 V1 → T (.inl (some (.int (nI 1)))) n1 s1 V1 L) : jv_J g X I_L_act 155 [some (jv_r g 0), some (jv_r g 123), some (.int x), some (.int (nI N)), some (.int (nI f)), some (.int (nI R)), some (.int (nI 1)), none, none, none, none] [] n (SH sx) V L k z := by
  have hn := H.n124
  have hN2 := H.N2
  have hN12 := H.N12
  have hK4 := H.K4
  have hR8 := H.R8
  
  refine j_aload_n_1 dL_act_155 ?_
  refine G_L_34 rfl dL_act_156 H.s H.s2 ?_
  refine j_iload_4 dL_act_159 ?_
  refine j_iald dL_act_161 H.q3.1 H.q3.2.1 (by omega) (by omega) ?_
  refine j_top (y := V 3 f) (H.q3.2.2 f (by omega)) ?_
  refine j_istore_7 rfl (by decide) dL_act_162 ?_
  refine j_aload_n_1 dL_act_164 ?_
  refine j_aload_n_1 dL_act_165 ?_
  refine G_L_34 rfl dL_act_166 H.s H.s2 ?_
  refine jv_clone (k2 := k - 1) (z2 := z - 12) (jv_gwm 659 (by decide +kernel) rfl) (jv_gwm 660 (by decide +kernel) rfl) (jv_gwm 661 (by decide +kernel) rfl) (jv_gwm 662 (by decide +kernel) rfl) (jv_gwm 663 (by decide +kernel) rfl) (jv_othm 664 (by rfl) rfl) (by decide) dL_act_169 H.q3.1 H.q3.2.1 (Nat.le_of_ble_eq_true rfl) (by omega) (by omega) ?_
  refine jv_castA (jv_gwm 665 (by decide +kernel) rfl) dL_act_172 (by rw [jv_NS_self]) ?_
  refine P_L_34 rfl dL_act_175 (by rw [jv_NS_ne (by omega)]; exact H.s) ?_
  refine j_aload_n_1 dL_act_178 ?_
  have hS' : (jv_US (jv_NS (SH sx) n (10, N, fun _ => none)) 123 2 n 123).1 = 7 := by rw [US_1, jv_NS_ne (by omega)]; exact H.s
  have hS2' : (jv_US (jv_NS (SH sx) n (10, N, fun _ => none)) 123 2 n 123).2.2 2 = some n := US_eq
  have hw' : (jv_US (jv_NS (SH sx) n (10, N, fun _ => none)) 123 2 n n).1 = 10 := by rw [US_1, jv_NS_self]
  have hwn' : (jv_US (jv_NS (SH sx) n (10, N, fun _ => none)) 123 2 n n).2.1 = N := by rw [US_2, jv_NS_self]
  refine G_L_34 rfl dL_act_179 hS' hS2' ?_
  refine j_iload_4 dL_act_182 ?_
  refine j_iload_n_2 dL_act_184 ?_
  refine j_bipush (v := nI 6) dL_act_185 nc_bipush_6 ?_
  refine j_ishr dL_act_187 ?_
  refine j_bipush (v := nI 10) dL_act_188 nc_bipush_10 ?_
  refine C_L_15  rfl (by decide) dL_act_190 (Nat.le_of_ble_eq_true rfl) (Nat.le_of_eq (Nat.zero_add _)) (Nat.le_of_eq (Nat.zero_add _)) (fun _ _ hM' hT' => c_below (m := 10) (by omega) (by omega) hM' hT') ?_
  refine j_iast dL_act_193 hw' hwn' (by omega) (by omega) ?_
  have hRE := H.row (i := 3) (f := f) (x := nI (bel (x >>> (nI 6 &&& 31)) 10)) (by decide) (by decide)
  exact c_astayB HT hRE (fun q hq => ⟨by rw [jv_US_other (by omega), jv_NS_ne (by omega)], by rw [jv_U_other (by omega), jv_NV_ne (by omega)]⟩) hf (by have := bel_lt (x := x >>> (nI 6 &&& 31)) (m := 10) (by omega); omega) hM hT

set_option maxHeartbeats 4000000 in
set_option maxRecDepth 100000 in
theorem c_aheadsB {g : jv_G} {X : jv_X} {T : jv_T} {L : Nat → Nat → Int64} {k z : Nat} {sx : Nat → jv_S} {tg1 pl1 : Nat → Nat} {n : Nat} {V V1 : (Nat → Nat → Int32)} {s1 : Nat → jv_S} {N K R t f a : Nat} {x : Int32} (HT : TS V N K R t) (H1 : REP tg1 pl1 n s1 V1 (jv_U V 2 f (nI a)) N K R) (hA : ∀ q, q < 123 → s1 q = SH sx q ∧ V1 q = V q) (hf : f < N) (ha : a ≤ 99) (hM : jv_M g X T) (hT : ∀ n1 s1 V1, PO (FA V N R) (t) n1 s1 V1 → T (.inl (some (.int (nI 1)))) n1 s1 V1 L) : jv_J g X I_L_act 257 [some (jv_r g 0), some (jv_r g 123), some (.int x), some (.int (nI N)), some (.int (nI f)), some (.int (nI R)), some (.int (nI 1)), some (.int (V 2 f)), none, none, none] [] n s1 V1 L k z := by
  obtain ⟨sy, rfl⟩ := SH_ex (fun q hq => (hA q hq).1)
  have hn := H1.n124
  have hN2 := H1.N2
  have hN12 := H1.N12
  have hR8 := H1.R8
  have hag : Ag V1 V := fun q hq => (hA q hq).2
  have HT1 : TS V1 N K R t := HT.eq hag.eqv
  have hFIN : T (.inl (some (.int (nI 1)))) n (SH sy) (jv_U V1 2 f (nI a)) L := by
    refine hT _ _ _ ⟨sy, tg1, pl1, N, K, R, t, rfl, HT1.heads ha, H1.cls (fun q hq => jv_U_other (by omega)) (by rw [jv_U_other (by omega), jv_U_other (by omega)]; exact congrFun (hag 0 (by omega)) 5) (fun q hq => ?_), FA_cg hR8 (fun q h1 h2 => by rw [jv_U_other (by omega)]; exact hag q h2), Nat.le_refl _⟩
    
    exact hag.U q (by omega)
  refine j_aload_n_0 dL_act_257 ?_
  refine j_iload_4 dL_act_258 ?_
  refine j_aload_n_1 dL_act_260 ?_
  refine G_L_9 rfl dL_act_261 H1.s H1.s1 ?_
  refine j_iload_4 dL_act_264 ?_
  refine j_iald dL_act_266 H1.q2.1 H1.q2.2.1 (by omega) (by omega) ?_
  refine j_top (y := nI a) (by rw [H1.q2.2.2 f (by omega), jv_Ueq]) ?_
  refine C_L_45  rfl (by decide) dL_act_267 sk_0 (Nat.le_of_ble_eq_true rfl) (Nat.le_of_eq (Nat.zero_add _)) (Nat.le_of_eq (Nat.zero_add _)) (fun _ _ hM' hT' => g_setHeads HT1.ct hf (nI_nlt (by omega) (by omega)) (nI_le ha (by omega)) hM' hT') ?_
  refine j_iload_7 dL_act_270 ?_
  refine j_ic_ne (tgt := 279) dL_act_272 (by decide) (fun h272 => ?_) (fun h272 => ?_)
  · exact absurd (congrFun (hag 2 (by omega)) f) h272
  · refine j_iconst (v := nI 1) dL_act_275 nc_iconst_1 ?_
    refine j_goto (tgt := 280) dL_act_276 (by decide) ?_
    exact j_zret hM dL_act_280 rfl (jv_b01 (by first | exact Or.inl rfl | exact Or.inr rfl | assumption)) hFIN

set_option maxHeartbeats 4000000 in
set_option maxRecDepth 100000 in
theorem c_aheads {g : jv_G} {X : jv_X} {T : jv_T} {L : Nat → Nat → Int64} {k z : Nat} {sx : Nat → jv_S} {tg pl : Nat → Nat} {n : Nat} {V : Nat → Nat → Int32} {N K R t : Nat} (HT : TS V N K R t) (H : REP tg pl n (SH sx) V V N K R) {x : Int32} {f : Nat} (hf : f < N) (hk : 30 ≤ k) (hz : 300 ≤ z) (hM : jv_M g X T) (hT : ∀ n1 s1 V1, PO (FA V N R) (t) n1 s1 V1 → T (.inl (some (.int (nI 1)))) n1 s1 V1 L) : jv_J g X I_L_act 218 [some (jv_r g 0), some (jv_r g 123), some (.int x), some (.int (nI N)), some (.int (nI f)), some (.int (nI R)), some (.int (nI 1)), none, none, none, none] [] n (SH sx) V L k z := by
  have hn := H.n124
  have hN2 := H.N2
  have hN12 := H.N12
  have hK4 := H.K4
  have hR8 := H.R8
  
  refine j_aload_n_1 dL_act_218 ?_
  refine G_L_9 rfl dL_act_219 H.s H.s1 ?_
  refine j_iload_4 dL_act_222 ?_
  refine j_iald dL_act_224 H.q2.1 H.q2.2.1 (by omega) (by omega) ?_
  refine j_top (y := V 2 f) (H.q2.2.2 f (by omega)) ?_
  refine j_istore_7 rfl (by decide) dL_act_225 ?_
  refine j_aload_n_1 dL_act_227 ?_
  refine j_aload_n_1 dL_act_228 ?_
  refine G_L_9 rfl dL_act_229 H.s H.s1 ?_
  refine jv_clone (k2 := k - 1) (z2 := z - 12) (jv_gwm 659 (by decide +kernel) rfl) (jv_gwm 660 (by decide +kernel) rfl) (jv_gwm 661 (by decide +kernel) rfl) (jv_gwm 662 (by decide +kernel) rfl) (jv_gwm 663 (by decide +kernel) rfl) (jv_othm 664 (by rfl) rfl) (by decide) dL_act_232 H.q2.1 H.q2.2.1 (Nat.le_of_ble_eq_true rfl) (by omega) (by omega) ?_
  refine jv_castA (jv_gwm 665 (by decide +kernel) rfl) dL_act_235 (by rw [jv_NS_self]) ?_
  refine P_L_9 rfl dL_act_238 (by rw [jv_NS_ne (by omega)]; exact H.s) ?_
  refine j_aload_n_1 dL_act_241 ?_
  have hS' : (jv_US (jv_NS (SH sx) n (10, N, fun _ => none)) 123 1 n 123).1 = 7 := by rw [US_1, jv_NS_ne (by omega)]; exact H.s
  have hS2' : (jv_US (jv_NS (SH sx) n (10, N, fun _ => none)) 123 1 n 123).2.2 1 = some n := US_eq
  have hw' : (jv_US (jv_NS (SH sx) n (10, N, fun _ => none)) 123 1 n n).1 = 10 := by rw [US_1, jv_NS_self]
  have hwn' : (jv_US (jv_NS (SH sx) n (10, N, fun _ => none)) 123 1 n n).2.1 = N := by rw [US_2, jv_NS_self]
  refine G_L_9 rfl dL_act_242 hS' hS2' ?_
  refine j_iload_4 dL_act_245 ?_
  refine j_iload_n_2 dL_act_247 ?_
  refine j_bipush (v := nI 6) dL_act_248 nc_bipush_6 ?_
  refine j_ishr dL_act_250 ?_
  refine j_bipush (v := nI 100) dL_act_251 nc_bipush_100 ?_
  refine C_L_15  rfl (by decide) dL_act_253 (Nat.le_of_ble_eq_true rfl) (Nat.le_of_eq (Nat.zero_add _)) (Nat.le_of_eq (Nat.zero_add _)) (fun _ _ hM' hT' => c_below (m := 100) (by omega) (by omega) hM' hT') ?_
  refine j_iast dL_act_256 hw' hwn' (by omega) (by omega) ?_
  have hRE := H.row (i := 2) (f := f) (x := nI (bel (x >>> (nI 6 &&& 31)) 100)) (by decide) (by decide)
  exact c_aheadsB HT hRE (fun q hq => ⟨by rw [jv_US_other (by omega), jv_NS_ne (by omega)], by rw [jv_U_other (by omega), jv_NV_ne (by omega)]⟩) hf (by have := bel_lt (x := x >>> (nI 6 &&& 31)) (m := 100) (by omega); omega) hM hT

set_option maxHeartbeats 4000000 in
set_option maxRecDepth 100000 in
theorem c_astairsB {g : jv_G} {X : jv_X} {T : jv_T} {L : Nat → Nat → Int64} {k z : Nat} {sx : Nat → jv_S} {tg1 pl1 : Nat → Nat} {n : Nat} {V V1 : (Nat → Nat → Int32)} {s1 : Nat → jv_S} {N K R t f a e : Nat} {x : Int32} (HT : TS V N K R t) (H1 : REP tg1 pl1 n s1 V1 (jv_U V 4 e (nI a)) N K R) (hA : ∀ q, q < 123 → s1 q = SH sx q ∧ V1 q = V q) (he : e < N - 1) (h1a : 1 ≤ a) (ha : a ≤ 9) (hM : jv_M g X T) (hT : ∀ n1 s1 V1, PO (FA V N R) (t) n1 s1 V1 → T (.inl (some (.int (nI 1)))) n1 s1 V1 L) : jv_J g X I_L_act 333 [some (jv_r g 0), some (jv_r g 123), some (.int x), some (.int (nI N)), some (.int (nI f)), some (.int (nI R)), some (.int (nI 1)), some (.int (nI e)), some (.int (V 4 e)), none, none] [] n s1 V1 L k z := by
  obtain ⟨sy, rfl⟩ := SH_ex (fun q hq => (hA q hq).1)
  have hn := H1.n124
  have hN2 := H1.N2
  have hN12 := H1.N12
  have hR8 := H1.R8
  have hag : Ag V1 V := fun q hq => (hA q hq).2
  have HT1 : TS V1 N K R t := HT.eq hag.eqv
  have hFIN : T (.inl (some (.int (nI 1)))) n (SH sy) (layV (jv_U V1 4 e (nI a)) N K) L := by
    refine hT _ _ _ ⟨sy, tg1, pl1, N, K, R, t, rfl, HT1.stairs h1a ha, H1.cls (fun q hq => by rw [layV_o hN12 (by omega), jv_U_other (by omega)]) (by rw [layV_out (by omega)]; rw [jv_U_other (by omega), jv_U_other (by omega)]; exact congrFun (hag 0 (by omega)) 5) (fun q hq => ?_), FA_cg hR8 (fun q h1 h2 => by rw [layV_o hN12 (by omega)]; rw [jv_U_other (by omega)]; exact hag q h2), Nat.le_refl _⟩
    rw [layV_out (by omega)]
    exact hag.U q (by omega)
  refine j_aload_n_0 dL_act_333 ?_
  refine j_iload_7 dL_act_334 ?_
  refine j_aload_n_1 dL_act_336 ?_
  refine G_L_48 rfl dL_act_337 H1.s H1.s3 ?_
  refine j_iload_7 dL_act_340 ?_
  refine j_iald dL_act_342 H1.q4.1 H1.q4.2.1 (by omega) (by omega) ?_
  refine j_top (y := nI a) (by rw [H1.q4.2.2 e (by omega), jv_Ueq]) ?_
  refine C_L_51  rfl (by decide) dL_act_343 sk_0 (Nat.le_of_ble_eq_true rfl) (Nat.le_of_eq (Nat.zero_add _)) (Nat.le_of_eq (Nat.zero_add _)) (fun _ _ hM' hT' => g_setStairs HT1.ct (by omega) (nI_nlt h1a (by omega)) (nI_le ha (by omega)) hM' hT') ?_
  refine j_iload_8 dL_act_346 ?_
  refine j_ic_ne (tgt := 355) dL_act_348 (by decide) (fun h348 => ?_) (fun h348 => ?_)
  · exact absurd (congrFun (hag 4 (by omega)) e) h348
  · refine j_iconst (v := nI 1) dL_act_351 nc_iconst_1 ?_
    refine j_goto (tgt := 356) dL_act_352 (by decide) ?_
    exact j_zret hM dL_act_356 rfl (jv_b01 (by first | exact Or.inl rfl | exact Or.inr rfl | assumption)) hFIN

set_option maxHeartbeats 4000000 in
set_option maxRecDepth 100000 in
theorem c_astairs {g : jv_G} {X : jv_X} {T : jv_T} {L : Nat → Nat → Int64} {k z : Nat} {sx : Nat → jv_S} {tg pl : Nat → Nat} {n : Nat} {V : Nat → Nat → Int32} {N K R t : Nat} (HT : TS V N K R t) (H : REP tg pl n (SH sx) V V N K R) {x : Int32} {f : Nat} (hf : f < N) (hk : 30 ≤ k) (hz : 300 ≤ z) (hM : jv_M g X T) (hT : ∀ n1 s1 V1, PO (FA V N R) (t) n1 s1 V1 → T (.inl (some (.int (nI 1)))) n1 s1 V1 L) : jv_J g X I_L_act 281 [some (jv_r g 0), some (jv_r g 123), some (.int x), some (.int (nI N)), some (.int (nI f)), some (.int (nI R)), some (.int (nI 1)), none, none, none, none] [] n (SH sx) V L k z := by
  have hn := H.n124
  have hN2 := H.N2
  have hN12 := H.N12
  have hK4 := H.K4
  have hR8 := H.R8
  
  refine j_iload_n_2 dL_act_281 ?_
  refine j_bipush (v := nI 6) dL_act_282 nc_bipush_6 ?_
  refine j_ishr dL_act_284 ?_
  refine j_iload_n_3 dL_act_285 ?_
  refine j_iconst (v := nI 1) dL_act_286 nc_iconst_1 ?_
  refine j_isubN (by omega) dL_act_287 ?_
  refine C_L_15  rfl (by decide) dL_act_288 (Nat.le_of_ble_eq_true rfl) (Nat.le_of_eq (Nat.zero_add _)) (Nat.le_of_eq (Nat.zero_add _)) (fun _ _ hM' hT' => c_below (m := (N - 1)) (by omega) (by omega) hM' hT') ?_
  have he : bel (x >>> (nI 6 &&& 31)) (N - 1) < N - 1 := bel_lt (by omega)
  generalize bel (x >>> (nI 6 &&& 31)) (N - 1) = e at he ⊢
  refine j_istore_7 rfl (by decide) dL_act_291 ?_
  refine j_aload_n_1 dL_act_293 ?_
  refine G_L_48 rfl dL_act_294 H.s H.s3 ?_
  refine j_iload_7 dL_act_297 ?_
  refine j_iald dL_act_299 H.q4.1 H.q4.2.1 (by omega) (by omega) ?_
  refine j_top (y := V 4 e) (H.q4.2.2 e (by omega)) ?_
  refine j_istore_8 rfl (by decide) dL_act_300 ?_
  refine j_aload_n_1 dL_act_302 ?_
  refine j_aload_n_1 dL_act_303 ?_
  refine G_L_48 rfl dL_act_304 H.s H.s3 ?_
  refine jv_clone (k2 := k - 1) (z2 := z - 12) (jv_gwm 659 (by decide +kernel) rfl) (jv_gwm 660 (by decide +kernel) rfl) (jv_gwm 661 (by decide +kernel) rfl) (jv_gwm 662 (by decide +kernel) rfl) (jv_gwm 663 (by decide +kernel) rfl) (jv_othm 664 (by rfl) rfl) (by decide) dL_act_307 H.q4.1 H.q4.2.1 (Nat.le_of_ble_eq_true rfl) (by omega) (by omega) ?_
  refine jv_castA (jv_gwm 665 (by decide +kernel) rfl) dL_act_310 (by rw [jv_NS_self]) ?_
  refine P_L_48 rfl dL_act_313 (by rw [jv_NS_ne (by omega)]; exact H.s) ?_
  refine j_aload_n_1 dL_act_316 ?_
  have hS' : (jv_US (jv_NS (SH sx) n (10, N - 1, fun _ => none)) 123 3 n 123).1 = 7 := by rw [US_1, jv_NS_ne (by omega)]; exact H.s
  have hS2' : (jv_US (jv_NS (SH sx) n (10, N - 1, fun _ => none)) 123 3 n 123).2.2 3 = some n := US_eq
  have hw' : (jv_US (jv_NS (SH sx) n (10, N - 1, fun _ => none)) 123 3 n n).1 = 10 := by rw [US_1, jv_NS_self]
  have hwn' : (jv_US (jv_NS (SH sx) n (10, N - 1, fun _ => none)) 123 3 n n).2.1 = N - 1 := by rw [US_2, jv_NS_self]
  refine G_L_48 rfl dL_act_317 hS' hS2' ?_
  refine j_iload_7 dL_act_320 ?_
  refine j_iconst (v := nI 1) dL_act_322 nc_iconst_1 ?_
  refine j_iload_n_2 dL_act_323 ?_
  refine j_iconst (v := nI 4) dL_act_324 nc_iconst_4 ?_
  refine j_ishr dL_act_325 ?_
  refine j_bipush (v := nI 9) dL_act_326 nc_bipush_9 ?_
  refine C_L_15  rfl (by decide) dL_act_328 (Nat.le_of_ble_eq_true rfl) (Nat.le_of_eq (Nat.zero_add _)) (Nat.le_of_eq (Nat.zero_add _)) (fun _ _ hM' hT' => c_below (m := 9) (by omega) (by omega) hM' hT') ?_
  refine j_iaddN dL_act_331 ?_
  refine j_iast dL_act_332 hw' hwn' (by omega) (by omega) ?_
  have hRE := H.row (i := 4) (f := e) (x := nI (1 + bel (x >>> (nI 4 &&& 31)) 9)) (by decide) (by decide)
  exact c_astairsB HT hRE (fun q hq => ⟨by rw [jv_US_other (by omega), jv_NS_ne (by omega)], by rw [jv_U_other (by omega), jv_NV_ne (by omega)]⟩) he (by omega) (by have := bel_lt (x := x >>> (nI 4 &&& 31)) (m := 9) (by omega); omega) hM hT

def BP (n : Nat) (sh : Nat → jv_S) (V : Nat → Nat → Int32) (N n1 : Nat) (s1 : Nat → jv_S) (V1 : Nat → Nat → Int32) : Prop := n1 = n + 6 ∧ (∀ q, q < n → q ≠ 123 → s1 q = sh q) ∧ (∀ q, q < n → V1 q = V q) ∧ (s1 123).1 = 7 ∧ (∀ i, 1 ≤ i → i ≤ 6 → (s1 123).2.2 i = some (n + (i - 1))) ∧ (∀ i, 2 ≤ i → i ≤ 5 → (s1 (n + (i - 2))).1 = (if i = 5 then 11 else 10) ∧ (s1 (n + (i - 2))).2.1 = tlen N i ∧ ∀ f, f < tlen N i → V1 (n + (i - 2)) f = (if i = 2 then nI 10 else if i = 3 then nI 2 else if i = 4 then nI 3 else nI 1)) ∧ (s1 (n + 4)).1 = 15 ∧ (s1 (n + 4)).2.1 = 0 ∧ (s1 (n + 5)).1 = 12 ∧ (s1 (n + 5)).2.1 = 0
/-- the class's numbers after a build -/
def buV (V : Nat → Nat → Int32) (m : Nat) : Nat → Nat → Int32 := jv_U (layV (rstV (jv_U (jv_U V 1 0 (nI m)) 1 1 (nI 0)) 12) m 0) 0 4 (nI 0)
theorem buV_r {V : Nat → Nat → Int32} {m i f : Nat} (h2 : 2 ≤ i) (h5 : i ≤ 5) (hf : f < 12) : buV V m i f = (if i = 2 then nI 10 else if i = 3 then nI 2 else if i = 4 then nI 3 else nI 1) := by
  unfold buV
  rw [jv_Une (by omega), layV_out (by omega)]
  obtain ⟨a, b, c, d⟩ := rstV_at (V := jv_U (jv_U V 1 0 (nI m)) 1 1 (nI 0)) hf
  have hi : i = 2 ∨ i = 3 ∨ i = 4 ∨ i = 5 := by omega
  rcases hi with rfl | rfl | rfl | rfl
  · rw [a]; rfl
  · rw [b]; rfl
  · rw [c]; rfl
  · rw [d]; rfl
theorem buV_5 {V : Nat → Nat → Int32} {m : Nat} : buV V m 0 5 = V 0 5 := by
  unfold buV
  rw [jv_Unj (by omega), layV_out (by omega), rstV_out (by omega), jv_Une (by omega), jv_Une (by omega)]
theorem buV_o {V : Nat → Nat → Int32} {m q : Nat} (h : 20 ≤ q) (hm : m ≤ 12) : buV V m q = V q := by
  unfold buV
  rw [jv_U_other (by omega), layV_out (by omega), rstV_out (by omega), jv_U_other (by omega), jv_U_other (by omega)]
/-- the hand's tower built, the class not yet -/
theorem BP.rep {n N : Nat} {sh s1 : Nat → jv_S} {V V1 : Nat → Nat → Int32} {n1 : Nat} (hb : BP n sh V N n1 s1 V1) (hn : 124 ≤ n) (h0 : V 123 0 = V 0 5) (hN2 : 2 ≤ N) (hN : N ≤ 12) : ∃ tg1 pl1, REP tg1 pl1 n1 s1 V1 (buV V N) N 0 0 := by
  obtain ⟨rfl, b1, b2, b3, b4, b5, b6, b7, b8, b9⟩ := hb
  exact REP.bu hN2 hN hn b3 b4 (by rw [b2 123 (by omega), h0, buV_5]) (fun i h2 h5 => ⟨(b5 i h2 h5).1, (b5 i h2 h5).2.1, fun f hf => ((b5 i h2 h5).2.2 f hf).trans (buV_r h2 h5 (by unfold tlen at hf; split at hf <;> omega)).symm⟩) b6 b7 b8 b9
theorem BP.low {n N : Nat} {sh s1 : Nat → jv_S} {V V1 : Nat → Nat → Int32} {n1 : Nat} (hb : BP n sh V N n1 s1 V1) (hn : 124 ≤ n) : ∀ q, q < 123 → s1 q = sh q ∧ V1 q = V q := fun q hq => ⟨hb.2.1 q (by omega) (by omega), hb.2.2.1 q (by omega)⟩
/-- the class built too -/
theorem REP.built {tg pl : Nat → Nat} {n N : Nat} {sh : Nat → jv_S} {V V1 : Nat → Nat → Int32} (H : REP tg pl n sh V1 (buV V N) N 0 0) (hag : Ag V1 V) : REP tg pl n sh (buV V1 N) (buV V1 N) N 0 0 := by
  have hN := H.N12
  refine H.cls (fun q hq => buV_o (by omega) hN) ?_ (fun q hq => ?_)
  · rw [buV_5, buV_5, hag 0 (by omega)]
  · rcases hq with h | h | h
    · funext f
      by_cases hf : f < 12
      · rw [buV_r h.1 h.2 hf, buV_r h.1 h.2 hf]
      · unfold buV
        rw [jv_Une (by omega), jv_Une (by omega), layV_out (by omega), layV_out (by omega)]
        unfold rstV
        rw [if_neg hf, if_neg hf, jv_Une (by omega), jv_Une (by omega), jv_Une (by omega), jv_Une (by omega), hag q (by omega)]
    · rw [buV_o (by omega) hN, buV_o (by omega) hN, hag q (by omega)]
    · rw [buV_o (by omega) hN, buV_o (by omega) hN, hag q (by omega)]
set_option maxHeartbeats 4000000 in
set_option maxRecDepth 100000 in
theorem c_abuild {g : jv_G} {X : jv_X} {T : jv_T} {L : Nat → Nat → Int64} {k z : Nat} {sx : Nat → jv_S} {tg pl : Nat → Nat} {n : Nat} {V : Nat → Nat → Int32} {N K R t : Nat} (HT : TS V N K R t) (H : REP tg pl n (SH sx) V V N K R) {x : Int32} {f : Nat} (hk : 30 ≤ k) (hz : 300 ≤ z) (hM : jv_M g X T) (hT : ∀ n1 s1 V1, PO (if nI (bel (x >>> (nI 5 &&& 31)) 6) ≤ 0 then 0 else FA V N R) (t) n1 s1 V1 → T (.inl (some (.int (nI 1)))) n1 s1 V1 L) : jv_J g X I_L_act 104 [some (jv_r g 0), some (jv_r g 123), some (.int x), some (.int (nI N)), some (.int (nI f)), some (.int (nI R)), some (.int (nI 1)), none, none, none, none] [] n (SH sx) V L k z := by
  have hn := H.n124
  have hN2 := H.N2
  have hN12 := H.N12
  have hK4 := H.K4
  have hR8 := H.R8
  
  refine j_iload_n_2 dL_act_104 ?_
  refine j_iconst (v := nI 5) dL_act_105 nc_iconst_5 ?_
  refine j_ishr dL_act_106 ?_
  refine j_bipush (v := nI 6) dL_act_107 nc_bipush_6 ?_
  refine C_L_15  rfl (by decide) dL_act_109 (Nat.le_of_ble_eq_true rfl) (Nat.le_of_eq (Nat.zero_add _)) (Nat.le_of_eq (Nat.zero_add _)) (fun _ _ hM' hT' => c_below (m := 6) (by omega) (by omega) hM' hT') ?_
  refine j_if_le (tgt := 117) dL_act_112 (by decide) (fun h112 => ?_) (fun h112 => ?_)
  · rw [if_pos h112] at hT
    refine j_iconst (v := nI 2) dL_act_117 nc_iconst_2 ?_
    refine j_iload_n_2 dL_act_118 ?_
    refine j_bipush (v := nI 7) dL_act_119 nc_bipush_7 ?_
    refine j_ishr dL_act_121 ?_
    refine j_bipush (v := nI 11) dL_act_122 nc_bipush_11 ?_
    refine C_L_15  rfl (by decide) dL_act_124 (Nat.le_of_ble_eq_true rfl) (Nat.le_of_eq (Nat.zero_add _)) (Nat.le_of_eq (Nat.zero_add _)) (fun _ _ hM' hT' => c_below (m := 11) (by omega) (by omega) hM' hT') ?_
    refine j_iaddN dL_act_127 ?_
    have hm : bel (x >>> (nI 7 &&& 31)) 11 < 11 := bel_lt (by omega)
    generalize bel (x >>> (nI 7 &&& 31)) 11 = m at hm ⊢
    refine j_istore_7 rfl (by decide) dL_act_128 ?_
    refine j_aload_n_1 dL_act_130 ?_
    refine j_iload_7 dL_act_131 ?_
    refine Q_L_25 (k' := 6) (z' := 60) (k2 := k - 6) (z2 := z - 60) (P := BP n (SH sx) V (2 + m)) rfl (by decide) dL_act_133 H.s (Nat.le_of_ble_eq_true rfl) (by omega) (by omega) (fun _ _ hM' hT' => c_simBuild (by omega) (by omega) H.s (by omega) (Nat.le_refl _) (Nat.le_refl _) hM' hT') (fun n1 s1 V1 hP1 => ?_)
    obtain ⟨tg1, pl1, H1⟩ := hP1.rep hn H.hr (by omega) (by omega)
    have hA := hP1.low hn
    obtain ⟨sy, rfl⟩ := SH_ex (fun q hq => (hA q hq).1)
    have hag : Ag V1 V := fun q hq => (hA q hq).2
    have hS := H1.s
    have HT1 : TS V1 N K R t := HT.eq hag.eqv
    refine j_aload_n_0 dL_act_136 ?_
    refine j_iload_7 dL_act_137 ?_
    refine C_L_29  rfl (by decide) dL_act_139 sk_0 (Nat.le_of_ble_eq_true rfl) (Nat.le_of_eq (Nat.zero_add _)) (Nat.le_of_eq (Nat.zero_add _)) (fun _ _ hM' hT' => g_build (by omega) (by omega) hM' hT') ?_
    refine j_iload_7 dL_act_142 ?_
    refine j_iconst (v := nI 1) dL_act_144 nc_iconst_1 ?_
    refine j_isubN (by omega) dL_act_145 ?_
    refine j_ic_neN (by omega) (by omega) (tgt := 153) dL_act_146 (by decide) (fun h146 => ?_) (fun h146 => ?_)
    · exact absurd (by omega) h146
    · refine j_iconst (v := nI 1) dL_act_149 nc_iconst_1 ?_
      refine j_goto (tgt := 154) dL_act_150 (by decide) ?_
      exact j_zret hM dL_act_154 rfl (jv_b01 (by first | exact Or.inl rfl | exact Or.inr rfl | assumption)) (hT _ _ _ ⟨sy, tg1, pl1, 2 + m, 0, 0, t, rfl, HT1.built (by omega) (by omega), H1.built hag, rfl, Nat.le_refl _⟩)
  · rw [if_neg h112] at hT
    refine j_iconst (v := nI 1) dL_act_115 nc_iconst_1 ?_
    exact j_zret hM dL_act_116 rfl (jv_b01 (by first | exact Or.inl rfl | exact Or.inr rfl | assumption)) (hT _ _ _ ⟨sx, tg, pl, N, K, R, t, rfl, HT, H, rfl, Nat.le_refl _⟩)

set_option maxHeartbeats 4000000 in
set_option maxRecDepth 100000 in
theorem c_aopenB {g : jv_G} {X : jv_X} {T : jv_T} {L : Nat → Nat → Int64} {k z : Nat} {sx : Nat → jv_S} {tg1 pl1 : Nat → Nat} {n : Nat} {V V1 : (Nat → Nat → Int32)} {N K R t f e : Nat} {x b : Int32} (HT : TS V N K R t) (H1 : REP tg1 pl1 n (SH sx) V1 (jv_U V 5 e b) N K R) (hag : Ag V1 V) (he : e < N - 1) (hb : b = nb (V 5 e)) (hM : jv_M g X T) (hT : ∀ n1 s1 V1, PO (FA V N R) (t) n1 s1 V1 → T (.inl (some (.int (nI 1)))) n1 s1 V1 L) : jv_J g X I_L_act 391 [some (jv_r g 0), some (jv_r g 123), some (.int x), some (.int (nI N)), some (.int (nI f)), some (.int (nI R)), some (.int (nI 1)), some (.int (nI e)), none, none, none] [] n (SH sx) V1 L k z := by
  have hn := H1.n124
  have hN2 := H1.N2
  have hN12 := H1.N12
  have hR8 := H1.R8
  have hp5 := H1.ge (ρ := 5) (used.t (by decide) (by decide))
  have HT1 : TS V1 N K R t := HT.eq hag.eqv
  have hFIN : T (.inl (some (.int (nI 1)))) n (SH sx) (layV (jv_U V1 5 e (nb (V1 5 e))) N K) L := by
    refine hT _ _ _ ⟨sx, tg1, pl1, N, K, R, t, rfl, HT1.turnS (by omega), H1.cls (fun q hq => by rw [layV_o hN12 (by omega), jv_U_other (by omega)]) (by rw [layV_out (by omega), jv_U_other (by omega), jv_U_other (by omega)]; exact congrFun (hag 0 (by omega)) 5) (fun q hq => ?_), FA_cg hR8 (fun q h1 h2 => by rw [layV_o hN12 (by omega), jv_U_other (by omega)]; exact hag q h2), Nat.le_refl _⟩
    rw [layV_out (by omega), hag 5 (by omega), hb]
    exact hag.U q (by omega)
  refine j_aload_n_0 dL_act_391 ?_
  refine j_iload_7 dL_act_392 ?_
  refine C_L_58  rfl (by decide) dL_act_394 sk_0 (Nat.le_of_ble_eq_true rfl) (Nat.le_of_eq (Nat.zero_add _)) (Nat.le_of_eq (Nat.zero_add _)) (fun _ _ hM' hT' => g_turnStairs HT1.ct (by omega) hM' hT') ?_
  refine j_aload_n_1 dL_act_397 ?_
  refine G_L_54 rfl dL_act_398 H1.s H1.s4 ?_
  refine j_iload_7 dL_act_401 ?_
  refine j_bald dL_act_403 H1.q5.1 H1.q5.2.1 (by omega) (by omega) ?_
  refine j_top (y := b) (by rw [layV_o hN12 (by omega), jv_Une (by omega), H1.q5.2.2 e (by omega), jv_Ueq]) ?_
  refine j_ic_ne (tgt := 411) dL_act_404 (by decide) (fun h404 => ?_) (fun h404 => ?_)
  · exact absurd (by rw [hb, hag 5 (by omega)]) h404
  · refine j_iconst (v := nI 1) dL_act_407 nc_iconst_1 ?_
    refine j_goto (tgt := 412) dL_act_408 (by decide) ?_
    exact j_zret hM dL_act_412 rfl (jv_b01 (by first | exact Or.inl rfl | exact Or.inr rfl | assumption)) hFIN

set_option maxHeartbeats 4000000 in
set_option maxRecDepth 100000 in
theorem c_aopen {g : jv_G} {X : jv_X} {T : jv_T} {L : Nat → Nat → Int64} {k z : Nat} {sx : Nat → jv_S} {tg pl : Nat → Nat} {n : Nat} {V : Nat → Nat → Int32} {N K R t : Nat} (HT : TS V N K R t) (H : REP tg pl n (SH sx) V V N K R) {x : Int32} {f : Nat} (hM : jv_M g X T) (hT : ∀ n1 s1 V1, PO (FA V N R) (t) n1 s1 V1 → T (.inl (some (.int (nI 1)))) n1 s1 V1 L) : jv_J g X I_L_act 357 [some (jv_r g 0), some (jv_r g 123), some (.int x), some (.int (nI N)), some (.int (nI f)), some (.int (nI R)), some (.int (nI 1)), none, none, none, none] [] n (SH sx) V L k z := by
  have hn := H.n124
  have hN2 := H.N2
  have hN12 := H.N12
  have hK4 := H.K4
  have hR8 := H.R8
  
  refine j_iload_n_2 dL_act_357 ?_
  refine j_bipush (v := nI 6) dL_act_358 nc_bipush_6 ?_
  refine j_ishr dL_act_360 ?_
  refine j_iload_n_3 dL_act_361 ?_
  refine j_iconst (v := nI 1) dL_act_362 nc_iconst_1 ?_
  refine j_isubN (by omega) dL_act_363 ?_
  refine C_L_15  rfl (by decide) dL_act_364 (Nat.le_of_ble_eq_true rfl) (Nat.le_of_eq (Nat.zero_add _)) (Nat.le_of_eq (Nat.zero_add _)) (fun _ _ hM' hT' => c_below (m := (N - 1)) (by omega) (by omega) hM' hT') ?_
  have he : bel (x >>> (nI 6 &&& 31)) (N - 1) < N - 1 := bel_lt (by omega)
  generalize bel (x >>> (nI 6 &&& 31)) (N - 1) = e at he ⊢
  have hp5 := H.ge (ρ := 5) (used.t (by decide) (by decide))
  refine j_istore_7 rfl (by decide) dL_act_367 ?_
  refine j_aload_n_1 dL_act_369 ?_
  refine G_L_54 rfl dL_act_370 H.s H.s4 ?_
  refine j_iload_7 dL_act_373 ?_
  refine j_aload_n_1 dL_act_375 ?_
  refine G_L_54 rfl dL_act_376 H.s H.s4 ?_
  refine j_iload_7 dL_act_379 ?_
  refine j_bald dL_act_381 H.q5.1 H.q5.2.1 (by omega) (by omega) ?_
  refine j_top (y := V 5 e) (H.q5.2.2 e (by omega)) ?_
  refine j_if_ne (tgt := 389) dL_act_382 (by decide) (fun h382 => ?_) (fun h382 => ?_)
  · refine j_iconst (v := nI 0) dL_act_389 nc_iconst_0 ?_
    refine j_bast dL_act_390 (jv_b01 (by first | exact Or.inl rfl | exact Or.inr rfl | assumption)) H.q5.1 H.q5.2.1 (by omega) (by omega) ?_
    exact c_aopenB HT (H.op (f := e)) (fun q hq => jv_U_other (by omega)) he (by unfold nb; rw [if_neg h382]) hM hT
  · refine j_iconst (v := nI 1) dL_act_385 nc_iconst_1 ?_
    refine j_goto (tgt := 390) dL_act_386 (by decide) ?_
    refine j_bast dL_act_390 (jv_b01 (by first | exact Or.inl rfl | exact Or.inr rfl | assumption)) H.q5.1 H.q5.2.1 (by omega) (by omega) ?_
    exact c_aopenB HT (H.op (f := e)) (fun q hq => jv_U_other (by omega)) he (by unfold nb; rw [if_pos h382]) hM hT

set_option maxHeartbeats 4000000 in
set_option maxRecDepth 100000 in
theorem c_aturn {g : jv_G} {X : jv_X} {T : jv_T} {L : Nat → Nat → Int64} {k z : Nat} {sx : Nat → jv_S} {tg pl : Nat → Nat} {n : Nat} {V : Nat → Nat → Int32} {N K R t : Nat} (HT : TS V N K R t) (H : REP tg pl n (SH sx) V V N K R) {x : Int32} {f : Nat} (hM : jv_M g X T) (hT : ∀ n1 s1 V1, PO (FA V N R) (t) n1 s1 V1 → T (.inl (some (.int (nI 1)))) n1 s1 V1 L) : jv_J g X I_L_act 563 [some (jv_r g 0), some (jv_r g 123), some (.int x), some (.int (nI N)), some (.int (nI f)), some (.int (nI R)), some (.int (nI 1)), none, none, none, none] [] n (SH sx) V L k z := by
  have hn := H.n124
  have hN2 := H.N2
  have hN12 := H.N12
  have hK4 := H.K4
  have hR8 := H.R8
  
  refine j_aload_n_1 dL_act_563 ?_
  refine G_L_62 rfl dL_act_564 H.s H.s5 ?_
  refine jr_alenA dL_act_567 H.q7.1 H.q7.2.1 ?_
  refine j_if_ne (tgt := 573) dL_act_568 (by decide) (fun h568 => ?_) (fun h568 => ?_)
  · have hK0 : 0 < K := by
      rcases Nat.eq_zero_or_pos K with c | c
      · subst c; exact absurd rfl h568
      · exact c
    refine j_iload_n_2 dL_act_573 ?_
    refine j_iconst (v := nI 5) dL_act_574 nc_iconst_5 ?_
    refine j_ishr dL_act_575 ?_
    refine j_aload_n_1 dL_act_576 ?_
    refine G_L_62 rfl dL_act_577 H.s H.s5 ?_
    refine jr_alenA dL_act_580 H.q7.1 H.q7.2.1 ?_
    refine C_L_15  rfl (by decide) dL_act_581 (Nat.le_of_ble_eq_true rfl) (Nat.le_of_eq (Nat.zero_add _)) (Nat.le_of_eq (Nat.zero_add _)) (fun _ _ hM' hT' => c_below (m := K) (by omega) (by omega) hM' hT') ?_
    have hl : bel (x >>> (nI 5 &&& 31)) K < K := bel_lt hK0
    generalize bel (x >>> (nI 5 &&& 31)) K = l at hl ⊢
    obtain ⟨lk, ln, -, -, -, -, -, -, -, -, -, -, -, -, -, -, d0, d1, -⟩ := H.lf hl
    have hu : used K R (10 + l) := used.l hl
    have hpl := H.ge hu
    refine j_istore_7 rfl (by decide) dL_act_584 ?_
    refine j_aload_n_1 dL_act_586 ?_
    refine G_L_62 rfl dL_act_587 H.s H.s5 ?_
    refine j_iload_7 dL_act_590 ?_
    refine jr_aaldA dL_act_592 H.q7.1 H.q7.2.1 hl (by omega) (H.q7.2.2 l hl) ?_
    refine j_iconst (v := nI 4) dL_act_593 nc_iconst_4 ?_
    refine j_iconst (v := nI 1) dL_act_594 nc_iconst_1 ?_
    refine j_aload_n_1 dL_act_595 ?_
    refine G_L_62 rfl dL_act_596 H.s H.s5 ?_
    refine j_iload_7 dL_act_599 ?_
    refine jr_aaldA dL_act_601 H.q7.1 H.q7.2.1 hl (by omega) (H.q7.2.2 l hl) ?_
    refine j_iconst (v := nI 4) dL_act_602 nc_iconst_4 ?_
    refine j_iald dL_act_603 lk ln (by decide) (by decide) ?_
    refine j_isub dL_act_604 ?_
    refine j_top (y := nb (V (20 + 2 * l) 0)) (by rw [d1]; rcases d0 with c | c <;> rw [c] <;> decide +kernel) ?_
    refine j_iast dL_act_605 lk ln (by decide) (by decide) ?_
    have H1 := H.tl hl (nb01 (V (20 + 2 * l) 0))
    have hag : Ag (jv_U V (pl (10 + l)) 4 (nb (V (20 + 2 * l) 0))) V := fun q hq => jv_U_other (by omega)
    have eW : jv_U V (pl (10 + l)) 4 (nb (V (20 + 2 * l) 0)) (pl (10 + l)) 4 = nb (V (20 + 2 * l) 0) := jv_Ueq
    generalize jv_U V (pl (10 + l)) 4 (nb (V (20 + 2 * l) 0)) = V1 at H1 hag eW ⊢
    have HT1 : TS V1 N K R t := HT.eq hag.eqv
    have e20 := hag (20 + 2 * l) (by omega)
    have hFIN : T (.inl (some (.int (nI 1)))) n (SH sx) (layV (jv_U V1 (20 + 2 * l) 0 (nb (V1 (20 + 2 * l) 0))) N K) L := by
      refine hT _ _ _ ⟨sx, tg, pl, N, K, R, t, rfl, HT1.turnL hl, H1.cls (fun q hq => by rw [layV_o hN12 (by omega), jv_U_other (by omega)]) (by rw [layV_out (by omega), jv_U_other (by omega), jv_U_other (by omega)]; exact congrFun (hag 0 (by omega)) 5) (fun q hq => ?_), FA_cg hR8 (fun q h1 h2 => by rw [layV_o hN12 (by omega), jv_U_other (by omega)]; exact hag q h2), Nat.le_refl _⟩
      have e3 : layV (jv_U V1 (20 + 2 * l) 0 (nb (V1 (20 + 2 * l) 0))) N K q = jv_U V1 (20 + 2 * l) 0 (nb (V1 (20 + 2 * l) 0)) q := layV_out (by omega)
      rw [e3, e20]
      exact hag.U q (by omega)
    refine j_aload_n_0 dL_act_606 ?_
    refine j_iload_7 dL_act_607 ?_
    refine C_L_73  rfl (by decide) dL_act_609 sk_0 (Nat.le_of_ble_eq_true rfl) (Nat.le_of_eq (Nat.zero_add _)) (Nat.le_of_eq (Nat.zero_add _)) (fun _ _ hM' hT' => g_turnLift HT1.ct hl hM' hT') ?_
    refine j_aload_n_1 dL_act_612 ?_
    refine G_L_62 rfl dL_act_613 H.s H.s5 ?_
    refine j_iload_7 dL_act_616 ?_
    refine jr_aaldA dL_act_618 H.q7.1 H.q7.2.1 hl (by omega) (H.q7.2.2 l hl) ?_
    refine j_iconst (v := nI 4) dL_act_619 nc_iconst_4 ?_
    refine j_iald dL_act_620 lk ln (by decide) (by decide) ?_
    refine j_top (y := nb (V (20 + 2 * l) 0)) (by rw [layV_o hN12 (by omega), jv_Une (by omega), eW]) ?_
    refine j_iconst (v := nI 1) dL_act_621 nc_iconst_1 ?_
    refine j_ic_ne (tgt := 629) dL_act_622 (by decide) (fun h622 => ?_) (fun h622 => ?_)
    · refine j_iconst (v := nI 0) dL_act_629 nc_iconst_0 ?_
      refine j_ic_ne (tgt := 637) dL_act_630 (by decide) (fun h630 => ?_) (fun h630 => ?_)
      · exact absurd (by rw [e20]; exact (nb01 _).resolve_right h622) h630
      · refine j_iconst (v := nI 1) dL_act_633 nc_iconst_1 ?_
        refine j_goto (tgt := 638) dL_act_634 (by decide) ?_
        exact j_zret hM dL_act_638 rfl (jv_b01 (by first | exact Or.inl rfl | exact Or.inr rfl | assumption)) hFIN
    · refine j_iconst (v := nI 1) dL_act_625 nc_iconst_1 ?_
      refine j_goto (tgt := 630) dL_act_626 (by decide) ?_
      refine j_ic_ne (tgt := 637) dL_act_630 (by decide) (fun h630 => ?_) (fun h630 => ?_)
      · exact absurd (by rw [e20]; exact h622) h630
      · refine j_iconst (v := nI 1) dL_act_633 nc_iconst_1 ?_
        refine j_goto (tgt := 638) dL_act_634 (by decide) ?_
        exact j_zret hM dL_act_638 rfl (jv_b01 (by first | exact Or.inl rfl | exact Or.inr rfl | assumption)) hFIN
  · refine j_iconst (v := nI 1) dL_act_571 nc_iconst_1 ?_
    exact j_zret hM dL_act_572 rfl (jv_b01 (by first | exact Or.inl rfl | exact Or.inr rfl | assumption)) (hT _ _ _ ⟨sx, tg, pl, N, K, R, t, rfl, HT, H, rfl, Nat.le_refl _⟩)
