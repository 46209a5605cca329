/-! ===== the law's own methods: below, cell, act ===== -/
def bel (x : Int32) (m : Nat) : Nat := (x.toBitVec.toNat % 2 ^ 31) % m
theorem bel_lt {x : Int32} {m : Nat} (h : 0 < m) : bel x m < m := Nat.mod_lt _ h
theorem bel_eq {x : Int32} {m : Nat} (h0 : 0 < m) (h1 : m < 2 ^ 31) : (x &&& 2147483647) - (x &&& 2147483647) / nI m * nI m = nI (bel x m) := by
  rw [pk_and x 31 (by decide +kernel), pk_rem (Nat.mod_lt _ (by decide)) h0 h1]
  rfl
theorem jv_othm (i : Nat) {c : Cond} (h : lw_tbl[i]? = some c) (hp : jv_isO c = true) : c ∈ jv_oth := List.mem_filter.mpr ⟨List.mem_of_getElem? h, hp⟩
theorem jokI {ls : List (Option Value)} {i j0 : Nat} {x : Int32} (h : ls[j0]? = some (some (.int x))) (hj : j0 + 1 = i) : jv_ok ls i := by
  intro j v hj' hv hc
  obtain rfl : j = j0 := by omega
  rw [h] at hv
  cases hv
  exact absurd hc (by decide)
/-- the class's shapes, whatever lies beyond -/
theorem SH_low {sx : Nat → jv_S} {q : Nat} (h : q < 123) : SH sx q = SH (fun _ => (0, 0, fun _ => none)) q := by
  unfold SH
  repeat' split
  all_goals first | rfl | omega
theorem SH_ex {sx s1 : Nat → jv_S} (h : ∀ q, q < 123 → s1 q = SH sx q) : ∃ sy, s1 = SH sy := ⟨s1, (SH_self (fun p hp => (h p hp).trans (SH_low hp))).symm⟩
/-- what stands after an act: the credit F, the clock at most t -/
def PO (F t n1 : Nat) (s1 : Nat → jv_S) (V1 : Nat → Nat → Int32) : Prop := ∃ sy tg pl N K R t1, s1 = SH sy ∧ TS V1 N K R t1 ∧ REP tg pl n1 (SH sy) V1 V1 N K R ∧ FA V1 N R = F ∧ t1 ≤ t
theorem FA_cg {V1 V : Nat → Nat → Int32} {N R : Nat} (hR : R ≤ 8) (h : ∀ q, 43 ≤ q → q < 123 → V1 q = V q) : FA V1 N R = FA V N R := sm_cg R (fun j hj => Fi_cg (fun o f _ _ => by rw [h _ (by omega) (by omega)]))
theorem nI_nlt {a b : Nat} (h : b ≤ a) (ha : a < 2 ^ 31) : ¬ nI a < nI b := fun c => absurd ((nI_ltI ha (by omega)).mp c) (by omega)
theorem z1' : ¬ (nI 1 : Int32) = 0 := by decide +kernel
def cellX (g : jv_G) (j : Nat) : Int32 := if j < scM g then scX g j else 2654435769 * (nI j + nI 3)
set_option maxHeartbeats 4000000 in
set_option maxRecDepth 100000 in
theorem c_below {g : jv_G} {X : jv_X} {T : jv_T} {L : Nat → Nat → Int64} {k z : Nat} {n : Nat} {sh : Nat → jv_S} {V : Nat → Nat → Int32} {x : Int32} {m : Nat} (h0 : 0 < m) (h1 : m < 2 ^ 31) (hM : jv_M g X T) (hT : T (.inl (some (.int (nI (bel x m))))) n sh V L) : jv_J g X I_L_below 0 [some (.int x), some (.int (nI m))] [] n sh V L k z := by
  refine j_iload_n_0 dL_below_0 ?_
  refine j_ldc (v := 2147483647) dL_below_1 (jv_gwm 638 (by decide +kernel) rfl) ?_
  refine j_iand dL_below_3 ?_
  refine j_iload_n_1 dL_below_4 ?_
  refine j_irem (nI_ne0 h0 h1) dL_below_5 ?_
  refine j_top (y := nI (bel x m)) (bel_eq h0 h1) ?_
  exact j_iret hM dL_below_6 rfl hT

set_option maxHeartbeats 4000000 in
set_option maxRecDepth 100000 in
theorem c_cell {g : jv_G} {X : jv_X} {T : jv_T} {L : Nat → Nat → Int64} {k z : Nat} {n : Nat} {sh : Nat → jv_S} {V : Nat → Nat → Int32} {j : Nat} (hj : j < 1000) (hM : jv_M g X T) (hT : T (.inl (some (.int (cellX g j)))) n sh V L) : jv_J g X I_L_cell 0 [some (.ref (scB g)), some (.int (nI j))] [] n sh V L k z := by
  refine j_iload_n_1 dL_cell_0 ?_
  refine jl_ld0 dL_cell_1 ?_
  refine jl_slen dL_cell_2 (fun hm => ?_)
  refine j_ic_geN (by omega) (by omega) (tgt := 12) dL_cell_3 (by decide) (fun h3 => ?_) (fun h3 => ?_)
  · have hjm : ¬ j < scM g := fun c => absurd h3 (nI_ge c (by omega))
    refine j_ldc (v := 790386105) dL_cell_12 (jv_gwm 642 (by decide +kernel) rfl) ?_
    refine j_iload_n_1 dL_cell_14 ?_
    refine j_iconst (v := nI 3) dL_cell_15 nc_iconst_3 ?_
    refine j_iaddN dL_cell_16 ?_
    refine j_imul dL_cell_17 ?_
    exact j_iret hM dL_cell_18 rfl (by unfold cellX at hT; first | (rw [if_pos hjm] at hT; exact hT) | (rw [if_neg hjm] at hT; exact hT))
  · have hjm : j < scM g := (nI_ltI (by omega) (by omega)).mp (by simpa using h3)
    refine jl_ld0 dL_cell_6 ?_
    refine j_iload_n_1 dL_cell_7 ?_
    refine jl_sld hjm dL_cell_8 ?_
    refine j_goto (tgt := 18) dL_cell_9 (by decide) ?_
    exact j_iret hM dL_cell_18 rfl (by unfold cellX at hT; first | (rw [if_pos hjm] at hT; exact hT) | (rw [if_neg hjm] at hT; exact hT))

set_option maxHeartbeats 4000000 in
set_option maxRecDepth 100000 in
theorem c_astayB {g : jv_G} {X : jv_X} {T : jv_T} {L : Nat → Nat → Int64} {k z : Nat} {sx : Nat → jv_S} {tg1 pl1 : Nat → Nat} {n : Nat} {V V1 : (Nat → Nat → Int32)} {s1 : Nat → jv_S} {N K R t f a : Nat} {x : Int32} (HT : TS V N K R t) (H1 : REP tg1 pl1 n s1 V1 (jv_U V 3 f (nI a)) N K R) (hA : ∀ q, q < 123 → s1 q = SH sx q ∧ V1 q = V q) (hf : f < N) (ha : a ≤ 9) (hM : jv_M g X T) (hT : ∀ n1 s1 V1, PO (FA V N R) (t) n1 s1 V1 → T (.inl (some (.int (nI 1)))) n1 s1 V1 L) : jv_J g X I_L_act 194 [some (jv_r g 0), some (jv_r g 123), some (.int x), some (.int (nI N)), some (.int (nI f)), some (.int (nI R)), some (.int (nI 1)), some (.int (V 3 f)), none, none, none] [] n s1 V1 L k z := by
  obtain ⟨sy, rfl⟩ := SH_ex (fun q hq => (hA q hq).1)
  have hn := H1.n124
  have hN2 := H1.N2
  have hN12 := H1.N12
  have hR8 := H1.R8
  have hag : Ag V1 V := fun q hq => (hA q hq).2
  have HT1 : TS V1 N K R t := HT.eq hag.eqv
  have hFIN : T (.inl (some (.int (nI 1)))) n (SH sy) (jv_U V1 3 f (nI a)) L := by
    refine hT _ _ _ ⟨sy, tg1, pl1, N, K, R, t, rfl, HT1.stay ha, H1.cls (fun q hq => jv_U_other (by omega)) (by rw [jv_U_other (by omega), jv_U_other (by omega)]; exact congrFun (hag 0 (by omega)) 5) (fun q hq => ?_), FA_cg hR8 (fun q h1 h2 => by rw [jv_U_other (by omega)]; exact hag q h2), Nat.le_refl _⟩
    
    exact hag.U q (by omega)
  refine j_aload_n_0 dL_act_194 ?_
  refine j_iload_4 dL_act_195 ?_
  refine j_aload_n_1 dL_act_197 ?_
  refine G_L_34 rfl dL_act_198 H1.s H1.s2 ?_
  refine j_iload_4 dL_act_201 ?_
  refine j_iald dL_act_203 H1.q3.1 H1.q3.2.1 (by omega) (by omega) ?_
  refine j_top (y := nI a) (by rw [H1.q3.2.2 f (by omega), jv_Ueq]) ?_
  refine C_L_42  rfl (by decide) dL_act_204 sk_0 (Nat.le_of_ble_eq_true rfl) (Nat.le_of_eq (Nat.zero_add _)) (Nat.le_of_eq (Nat.zero_add _)) (fun _ _ hM' hT' => g_setStay HT1.ct hf (nI_nlt (by omega) (by omega)) (nI_le ha (by omega)) hM' hT') ?_
  refine j_iload_7 dL_act_207 ?_
  refine j_ic_ne (tgt := 216) dL_act_209 (by decide) (fun h209 => ?_) (fun h209 => ?_)
  · exact absurd (congrFun (hag 3 (by omega)) f) h209
  · refine j_iconst (v := nI 1) dL_act_212 nc_iconst_1 ?_
    refine j_goto (tgt := 217) dL_act_213 (by decide) ?_
    exact j_zret hM dL_act_217 rfl (jv_b01 (by first | exact Or.inl rfl | exact Or.inr rfl | assumption)) hFIN

set_option maxHeartbeats 4000000 in
set_option maxRecDepth 100000 in
theorem c_astay {g : jv_G} {X : jv_X} {T : jv_T} {L : Nat → Nat → Int64} {k z : Nat} {sx : Nat → jv_S} {tg pl : Nat → Nat} {n : Nat} {V : Nat → Nat → Int32} {N K R t : Nat} (HT : TS V N K R t) (H : REP tg pl n (SH sx) V V N K R) {x : Int32} {f : Nat} (hf : f < N) (hk : 30 ≤ k) (hz : 300 ≤ z) (hM : jv_M g X T) (hT : ∀ n1 s1 V1, PO (FA V N R) (t) n1 s1 V1 → T (.inl (some (.int (nI 1)))) n1 s1 V1 L) : jv_J g X I_L_act 155 [some (jv_r g 0), some (jv_r g 123), some (.int x), some (.int (nI N)), some (.int (nI f)), some (.int (nI R)), some (.int (nI 1)), none, none, none, none] [] n (SH sx) V L k z := by
  have hn := H.n124
  have hN2 := H.N2
  have hN12 := H.N12
  have hK4 := H.K4
  have hR8 := H.R8
  
  refine j_aload_n_1 dL_act_155 ?_
  refine G_L_34 rfl dL_act_156 H.s H.s2 ?_
  refine j_iload_4 dL_act_159 ?_
  refine j_iald dL_act_161 H.q3.1 H.q3.2.1 (by omega) (by omega) ?_
  refine j_top (y := V 3 f) (H.q3.2.2 f (by omega)) ?_
  refine j_istore_7 rfl (by decide) dL_act_162 ?_
  refine j_aload_n_1 dL_act_164 ?_
  refine j_aload_n_1 dL_act_165 ?_
  refine G_L_34 rfl dL_act_166 H.s H.s2 ?_
  refine jv_clone (k2 := k - 1) (z2 := z - 12) (jv_gwm 659 (by decide +kernel) rfl) (jv_gwm 660 (by decide +kernel) rfl) (jv_gwm 661 (by decide +kernel) rfl) (jv_gwm 662 (by decide +kernel) rfl) (jv_gwm 663 (by decide +kernel) rfl) (jv_othm 664 (by rfl) rfl) (by decide) dL_act_169 H.q3.1 H.q3.2.1 (Nat.le_of_ble_eq_true rfl) (by omega) (by omega) ?_
  refine jv_castA (jv_gwm 665 (by decide +kernel) rfl) dL_act_172 (by rw [jv_NS_self]) ?_
  refine P_L_34 rfl dL_act_175 (by rw [jv_NS_ne (by omega)]; exact H.s) ?_
  refine j_aload_n_1 dL_act_178 ?_
  have hS' : (jv_US (jv_NS (SH sx) n (10, N, fun _ => none)) 123 2 n 123).1 = 7 := by rw [US_1, jv_NS_ne (by omega)]; exact H.s
  have hS2' : (jv_US (jv_NS (SH sx) n (10, N, fun _ => none)) 123 2 n 123).2.2 2 = some n := US_eq
  have hw' : (jv_US (jv_NS (SH sx) n (10, N, fun _ => none)) 123 2 n n).1 = 10 := by rw [US_1, jv_NS_self]
  have hwn' : (jv_US (jv_NS (SH sx) n (10, N, fun _ => none)) 123 2 n n).2.1 = N := by rw [US_2, jv_NS_self]
  refine G_L_34 rfl dL_act_179 hS' hS2' ?_
  refine j_iload_4 dL_act_182 ?_
  refine j_iload_n_2 dL_act_184 ?_
  refine j_bipush (v := nI 6) dL_act_185 nc_bipush_6 ?_
  refine j_ishr dL_act_187 ?_
  refine j_bipush (v := nI 10) dL_act_188 nc_bipush_10 ?_
  refine C_L_15  rfl (by decide) dL_act_190 (Nat.le_of_ble_eq_true rfl) (Nat.le_of_eq (Nat.zero_add _)) (Nat.le_of_eq (Nat.zero_add _)) (fun _ _ hM' hT' => c_below (m := 10) (by omega) (by omega) hM' hT') ?_
  refine j_iast dL_act_193 hw' hwn' (by omega) (by omega) ?_
  have hRE := H.row (i := 3) (f := f) (x := nI (bel (x >>> (nI 6 &&& 31)) 10)) (by decide) (by decide)
  exact c_astayB HT hRE (fun q hq => ⟨by rw [jv_US_other (by omega), jv_NS_ne (by omega)], by rw [jv_U_other (by omega), jv_NV_ne (by omega)]⟩) hf (by have := bel_lt (x := x >>> (nI 6 &&& 31)) (m := 10) (by omega); omega) hM hT

set_option maxHeartbeats 4000000 in
set_option maxRecDepth 100000 in
theorem c_aheadsB {g : jv_G} {X : jv_X} {T : jv_T} {L : Nat → Nat → Int64} {k z : Nat} {sx : Nat → jv_S} {tg1 pl1 : Nat → Nat} {n : Nat} {V V1 : (Nat → Nat → Int32)} {s1 : Nat → jv_S} {N K R t f a : Nat} {x : Int32} (HT : TS V N K R t) (H1 : REP tg1 pl1 n s1 V1 (jv_U V 2 f (nI a)) N K R) (hA : ∀ q, q < 123 → s1 q = SH sx q ∧ V1 q = V q) (hf : f < N) (ha : a ≤ 99) (hM : jv_M g X T) (hT : ∀ n1 s1 V1, PO (FA V N R) (t) n1 s1 V1 → T (.inl (some (.int (nI 1)))) n1 s1 V1 L) : jv_J g X I_L_act 257 [some (jv_r g 0), some (jv_r g 123), some (.int x), some (.int (nI N)), some (.int (nI f)), some (.int (nI R)), some (.int (nI 1)), some (.int (V 2 f)), none, none, none] [] n s1 V1 L k z := by
  obtain ⟨sy, rfl⟩ := SH_ex (fun q hq => (hA q hq).1)
  have hn := H1.n124
  have hN2 := H1.N2
  have hN12 := H1.N12
  have hR8 := H1.R8
  have hag : Ag V1 V := fun q hq => (hA q hq).2
  have HT1 : TS V1 N K R t := HT.eq hag.eqv
  have hFIN : T (.inl (some (.int (nI 1)))) n (SH sy) (jv_U V1 2 f (nI a)) L := by
    refine hT _ _ _ ⟨sy, tg1, pl1, N, K, R, t, rfl, HT1.heads ha, H1.cls (fun q hq => jv_U_other (by omega)) (by rw [jv_U_other (by omega), jv_U_other (by omega)]; exact congrFun (hag 0 (by omega)) 5) (fun q hq => ?_), FA_cg hR8 (fun q h1 h2 => by rw [jv_U_other (by omega)]; exact hag q h2), Nat.le_refl _⟩
    
    exact hag.U q (by omega)
  refine j_aload_n_0 dL_act_257 ?_
  refine j_iload_4 dL_act_258 ?_
  refine j_aload_n_1 dL_act_260 ?_
  refine G_L_9 rfl dL_act_261 H1.s H1.s1 ?_
  refine j_iload_4 dL_act_264 ?_
  refine j_iald dL_act_266 H1.q2.1 H1.q2.2.1 (by omega) (by omega) ?_
  refine j_top (y := nI a) (by rw [H1.q2.2.2 f (by omega), jv_Ueq]) ?_
  refine C_L_45  rfl (by decide) dL_act_267 sk_0 (Nat.le_of_ble_eq_true rfl) (Nat.le_of_eq (Nat.zero_add _)) (Nat.le_of_eq (Nat.zero_add _)) (fun _ _ hM' hT' => g_setHeads HT1.ct hf (nI_nlt (by omega) (by omega)) (nI_le ha (by omega)) hM' hT') ?_
  refine j_iload_7 dL_act_270 ?_
  refine j_ic_ne (tgt := 279) dL_act_272 (by decide) (fun h272 => ?_) (fun h272 => ?_)
  · exact absurd (congrFun (hag 2 (by omega)) f) h272
  · refine j_iconst (v := nI 1) dL_act_275 nc_iconst_1 ?_
    refine j_goto (tgt := 280) dL_act_276 (by decide) ?_
    exact j_zret hM dL_act_280 rfl (jv_b01 (by first | exact Or.inl rfl | exact Or.inr rfl | assumption)) hFIN

set_option maxHeartbeats 4000000 in
set_option maxRecDepth 100000 in
theorem c_aheads {g : jv_G} {X : jv_X} {T : jv_T} {L : Nat → Nat → Int64} {k z : Nat} {sx : Nat → jv_S} {tg pl : Nat → Nat} {n : Nat} {V : Nat → Nat → Int32} {N K R t : Nat} (HT : TS V N K R t) (H : REP tg pl n (SH sx) V V N K R) {x : Int32} {f : Nat} (hf : f < N) (hk : 30 ≤ k) (hz : 300 ≤ z) (hM : jv_M g X T) (hT : ∀ n1 s1 V1, PO (FA V N R) (t) n1 s1 V1 → T (.inl (some (.int (nI 1)))) n1 s1 V1 L) : jv_J g X I_L_act 218 [some (jv_r g 0), some (jv_r g 123), some (.int x), some (.int (nI N)), some (.int (nI f)), some (.int (nI R)), some (.int (nI 1)), none, none, none, none] [] n (SH sx) V L k z := by
  have hn := H.n124
  have hN2 := H.N2
  have hN12 := H.N12
  have hK4 := H.K4
  have hR8 := H.R8
  
  refine j_aload_n_1 dL_act_218 ?_
  refine G_L_9 rfl dL_act_219 H.s H.s1 ?_
  refine j_iload_4 dL_act_222 ?_
  refine j_iald dL_act_224 H.q2.1 H.q2.2.1 (by omega) (by omega) ?_
  refine j_top (y := V 2 f) (H.q2.2.2 f (by omega)) ?_
  refine j_istore_7 rfl (by decide) dL_act_225 ?_
  refine j_aload_n_1 dL_act_227 ?_
  refine j_aload_n_1 dL_act_228 ?_
  refine G_L_9 rfl dL_act_229 H.s H.s1 ?_
  refine jv_clone (k2 := k - 1) (z2 := z - 12) (jv_gwm 659 (by decide +kernel) rfl) (jv_gwm 660 (by decide +kernel) rfl) (jv_gwm 661 (by decide +kernel) rfl) (jv_gwm 662 (by decide +kernel) rfl) (jv_gwm 663 (by decide +kernel) rfl) (jv_othm 664 (by rfl) rfl) (by decide) dL_act_232 H.q2.1 H.q2.2.1 (Nat.le_of_ble_eq_true rfl) (by omega) (by omega) ?_
  refine jv_castA (jv_gwm 665 (by decide +kernel) rfl) dL_act_235 (by rw [jv_NS_self]) ?_
  refine P_L_9 rfl dL_act_238 (by rw [jv_NS_ne (by omega)]; exact H.s) ?_
  refine j_aload_n_1 dL_act_241 ?_
  have hS' : (jv_US (jv_NS (SH sx) n (10, N, fun _ => none)) 123 1 n 123).1 = 7 := by rw [US_1, jv_NS_ne (by omega)]; exact H.s
  have hS2' : (jv_US (jv_NS (SH sx) n (10, N, fun _ => none)) 123 1 n 123).2.2 1 = some n := US_eq
  have hw' : (jv_US (jv_NS (SH sx) n (10, N, fun _ => none)) 123 1 n n).1 = 10 := by rw [US_1, jv_NS_self]
  have hwn' : (jv_US (jv_NS (SH sx) n (10, N, fun _ => none)) 123 1 n n).2.1 = N := by rw [US_2, jv_NS_self]
  refine G_L_9 rfl dL_act_242 hS' hS2' ?_
  refine j_iload_4 dL_act_245 ?_
  refine j_iload_n_2 dL_act_247 ?_
  refine j_bipush (v := nI 6) dL_act_248 nc_bipush_6 ?_
  refine j_ishr dL_act_250 ?_
  refine j_bipush (v := nI 100) dL_act_251 nc_bipush_100 ?_
  refine C_L_15  rfl (by decide) dL_act_253 (Nat.le_of_ble_eq_true rfl) (Nat.le_of_eq (Nat.zero_add _)) (Nat.le_of_eq (Nat.zero_add _)) (fun _ _ hM' hT' => c_below (m := 100) (by omega) (by omega) hM' hT') ?_
  refine j_iast dL_act_256 hw' hwn' (by omega) (by omega) ?_
  have hRE := H.row (i := 2) (f := f) (x := nI (bel (x >>> (nI 6 &&& 31)) 100)) (by decide) (by decide)
  exact c_aheadsB HT hRE (fun q hq => ⟨by rw [jv_US_other (by omega), jv_NS_ne (by omega)], by rw [jv_U_other (by omega), jv_NV_ne (by omega)]⟩) hf (by have := bel_lt (x := x >>> (nI 6 &&& 31)) (m := 100) (by omega); omega) hM hT

set_option maxHeartbeats 4000000 in
set_option maxRecDepth 100000 in
theorem c_astairsB {g : jv_G} {X : jv_X} {T : jv_T} {L : Nat → Nat → Int64} {k z : Nat} {sx : Nat → jv_S} {tg1 pl1 : Nat → Nat} {n : Nat} {V V1 : (Nat → Nat → Int32)} {s1 : Nat → jv_S} {N K R t f a e : Nat} {x : Int32} (HT : TS V N K R t) (H1 : REP tg1 pl1 n s1 V1 (jv_U V 4 e (nI a)) N K R) (hA : ∀ q, q < 123 → s1 q = SH sx q ∧ V1 q = V q) (he : e < N - 1) (h1a : 1 ≤ a) (ha : a ≤ 9) (hM : jv_M g X T) (hT : ∀ n1 s1 V1, PO (FA V N R) (t) n1 s1 V1 → T (.inl (some (.int (nI 1)))) n1 s1 V1 L) : jv_J g X I_L_act 333 [some (jv_r g 0), some (jv_r g 123), some (.int x), some (.int (nI N)), some (.int (nI f)), some (.int (nI R)), some (.int (nI 1)), some (.int (nI e)), some (.int (V 4 e)), none, none] [] n s1 V1 L k z := by
  obtain ⟨sy, rfl⟩ := SH_ex (fun q hq => (hA q hq).1)
  have hn := H1.n124
  have hN2 := H1.N2
  have hN12 := H1.N12
  have hR8 := H1.R8
  have hag : Ag V1 V := fun q hq => (hA q hq).2
  have HT1 : TS V1 N K R t := HT.eq hag.eqv
  have hFIN : T (.inl (some (.int (nI 1)))) n (SH sy) (layV (jv_U V1 4 e (nI a)) N K) L := by
    refine hT _ _ _ ⟨sy, tg1, pl1, N, K, R, t, rfl, HT1.stairs h1a ha, H1.cls (fun q hq => by rw [layV_o hN12 (by omega), jv_U_other (by omega)]) (by rw [layV_out (by omega)]; rw [jv_U_other (by omega), jv_U_other (by omega)]; exact congrFun (hag 0 (by omega)) 5) (fun q hq => ?_), FA_cg hR8 (fun q h1 h2 => by rw [layV_o hN12 (by omega)]; rw [jv_U_other (by omega)]; exact hag q h2), Nat.le_refl _⟩
    rw [layV_out (by omega)]
    exact hag.U q (by omega)
  refine j_aload_n_0 dL_act_333 ?_
  refine j_iload_7 dL_act_334 ?_
  refine j_aload_n_1 dL_act_336 ?_
  refine G_L_48 rfl dL_act_337 H1.s H1.s3 ?_
  refine j_iload_7 dL_act_340 ?_
  refine j_iald dL_act_342 H1.q4.1 H1.q4.2.1 (by omega) (by omega) ?_
  refine j_top (y := nI a) (by rw [H1.q4.2.2 e (by omega), jv_Ueq]) ?_
  refine C_L_51  rfl (by decide) dL_act_343 sk_0 (Nat.le_of_ble_eq_true rfl) (Nat.le_of_eq (Nat.zero_add _)) (Nat.le_of_eq (Nat.zero_add _)) (fun _ _ hM' hT' => g_setStairs HT1.ct (by omega) (nI_nlt h1a (by omega)) (nI_le ha (by omega)) hM' hT') ?_
  refine j_iload_8 dL_act_346 ?_
  refine j_ic_ne (tgt := 355) dL_act_348 (by decide) (fun h348 => ?_) (fun h348 => ?_)
  · exact absurd (congrFun (hag 4 (by omega)) e) h348
  · refine j_iconst (v := nI 1) dL_act_351 nc_iconst_1 ?_
    refine j_goto (tgt := 356) dL_act_352 (by decide) ?_
    exact j_zret hM dL_act_356 rfl (jv_b01 (by first | exact Or.inl rfl | exact Or.inr rfl | assumption)) hFIN

set_option maxHeartbeats 4000000 in
set_option maxRecDepth 100000 in
theorem c_astairs {g : jv_G} {X : jv_X} {T : jv_T} {L : Nat → Nat → Int64} {k z : Nat} {sx : Nat → jv_S} {tg pl : Nat → Nat} {n : Nat} {V : Nat → Nat → Int32} {N K R t : Nat} (HT : TS V N K R t) (H : REP tg pl n (SH sx) V V N K R) {x : Int32} {f : Nat} (hf : f < N) (hk : 30 ≤ k) (hz : 300 ≤ z) (hM : jv_M g X T) (hT : ∀ n1 s1 V1, PO (FA V N R) (t) n1 s1 V1 → T (.inl (some (.int (nI 1)))) n1 s1 V1 L) : jv_J g X I_L_act 281 [some (jv_r g 0), some (jv_r g 123), some (.int x), some (.int (nI N)), some (.int (nI f)), some (.int (nI R)), some (.int (nI 1)), none, none, none, none] [] n (SH sx) V L k z := by
  have hn := H.n124
  have hN2 := H.N2
  have hN12 := H.N12
  have hK4 := H.K4
  have hR8 := H.R8
  
  refine j_iload_n_2 dL_act_281 ?_
  refine j_bipush (v := nI 6) dL_act_282 nc_bipush_6 ?_
  refine j_ishr dL_act_284 ?_
  refine j_iload_n_3 dL_act_285 ?_
  refine j_iconst (v := nI 1) dL_act_286 nc_iconst_1 ?_
  refine j_isubN (by omega) dL_act_287 ?_
  refine C_L_15  rfl (by decide) dL_act_288 (Nat.le_of_ble_eq_true rfl) (Nat.le_of_eq (Nat.zero_add _)) (Nat.le_of_eq (Nat.zero_add _)) (fun _ _ hM' hT' => c_below (m := (N - 1)) (by omega) (by omega) hM' hT') ?_
  have he : bel (x >>> (nI 6 &&& 31)) (N - 1) < N - 1 := bel_lt (by omega)
  generalize bel (x >>> (nI 6 &&& 31)) (N - 1) = e at he ⊢
  refine j_istore_7 rfl (by decide) dL_act_291 ?_
  refine j_aload_n_1 dL_act_293 ?_
  refine G_L_48 rfl dL_act_294 H.s H.s3 ?_
  refine j_iload_7 dL_act_297 ?_
  refine j_iald dL_act_299 H.q4.1 H.q4.2.1 (by omega) (by omega) ?_
  refine j_top (y := V 4 e) (H.q4.2.2 e (by omega)) ?_
  refine j_istore_8 rfl (by decide) dL_act_300 ?_
  refine j_aload_n_1 dL_act_302 ?_
  refine j_aload_n_1 dL_act_303 ?_
  refine G_L_48 rfl dL_act_304 H.s H.s3 ?_
  refine jv_clone (k2 := k - 1) (z2 := z - 12) (jv_gwm 659 (by decide +kernel) rfl) (jv_gwm 660 (by decide +kernel) rfl) (jv_gwm 661 (by decide +kernel) rfl) (jv_gwm 662 (by decide +kernel) rfl) (jv_gwm 663 (by decide +kernel) rfl) (jv_othm 664 (by rfl) rfl) (by decide) dL_act_307 H.q4.1 H.q4.2.1 (Nat.le_of_ble_eq_true rfl) (by omega) (by omega) ?_
  refine jv_castA (jv_gwm 665 (by decide +kernel) rfl) dL_act_310 (by rw [jv_NS_self]) ?_
  refine P_L_48 rfl dL_act_313 (by rw [jv_NS_ne (by omega)]; exact H.s) ?_
  refine j_aload_n_1 dL_act_316 ?_
  have hS' : (jv_US (jv_NS (SH sx) n (10, N - 1, fun _ => none)) 123 3 n 123).1 = 7 := by rw [US_1, jv_NS_ne (by omega)]; exact H.s
  have hS2' : (jv_US (jv_NS (SH sx) n (10, N - 1, fun _ => none)) 123 3 n 123).2.2 3 = some n := US_eq
  have hw' : (jv_US (jv_NS (SH sx) n (10, N - 1, fun _ => none)) 123 3 n n).1 = 10 := by rw [US_1, jv_NS_self]
  have hwn' : (jv_US (jv_NS (SH sx) n (10, N - 1, fun _ => none)) 123 3 n n).2.1 = N - 1 := by rw [US_2, jv_NS_self]
  refine G_L_48 rfl dL_act_317 hS' hS2' ?_
  refine j_iload_7 dL_act_320 ?_
  refine j_iconst (v := nI 1) dL_act_322 nc_iconst_1 ?_
  refine j_iload_n_2 dL_act_323 ?_
  refine j_iconst (v := nI 4) dL_act_324 nc_iconst_4 ?_
  refine j_ishr dL_act_325 ?_
  refine j_bipush (v := nI 9) dL_act_326 nc_bipush_9 ?_
  refine C_L_15  rfl (by decide) dL_act_328 (Nat.le_of_ble_eq_true rfl) (Nat.le_of_eq (Nat.zero_add _)) (Nat.le_of_eq (Nat.zero_add _)) (fun _ _ hM' hT' => c_below (m := 9) (by omega) (by omega) hM' hT') ?_
  refine j_iaddN dL_act_331 ?_
  refine j_iast dL_act_332 hw' hwn' (by omega) (by omega) ?_
  have hRE := H.row (i := 4) (f := e) (x := nI (1 + bel (x >>> (nI 4 &&& 31)) 9)) (by decide) (by decide)
  exact c_astairsB HT hRE (fun q hq => ⟨by rw [jv_US_other (by omega), jv_NS_ne (by omega)], by rw [jv_U_other (by omega), jv_NV_ne (by omega)]⟩) he (by omega) (by have := bel_lt (x := x >>> (nI 4 &&& 31)) (m := 9) (by omega); omega) hM hT
