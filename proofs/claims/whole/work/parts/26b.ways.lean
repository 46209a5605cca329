def rlb (V : (Nat → Nat → Int32)) (K a f : Nat) : (Nat → Nat → Int32) := if ¬ hoM V K a f = -1 ∧ V 139 f = 0 ∧ beB V (V 137 a + V 125 a + hoM V K a f) (V 138 a + nI 1) f = true then jv_U (jv_U V 137 f (V 137 a + V 125 a + hoM V K a f)) 138 f (V 138 a + nI 1) else V
def rlL (K a : Nat) : Nat → Nat → (Nat → Nat → Int32) → (Nat → Nat → Int32)
  | 0, _, V => V
  | m + 1, i, V => rlL K a m (i + 1) (rlb V K a i)
def rndM (N K : Nat) : Nat → (Nat → Nat → Int32) → (Nat → Nat → Int32)
  | 0, V => V
  | m + 1, V => match nrs V 137 138 139 N 0 none with
    | none => V
    | some a => rndM N K m (rlL K a N 0 (jv_U V 139 a (nI 1)))
def iniM (V : (Nat → Nat → Int32)) (i : Nat) : (Nat → Nat → Int32) := fun q c => if c < i then (if q = 137 then -1 else if q = 139 then nI 0 else V q c) else V q c
/-- all ways from a floor, as the reference finds them -/
def wayM (V : (Nat → Nat → Int32)) (N K f : Nat) : (Nat → Nat → Int32) := rndM N K N (jv_U (jv_U (iniM V N) 137 f (nI 0)) 138 f (nI 0))
theorem rlb_out {V : (Nat → Nat → Int32)} {K a f q : Nat} (h : q < 137 ∨ 138 < q) : rlb V K a f q = V q := by
  unfold rlb
  split
  · rw [jv_U_other (by omega), jv_U_other (by omega)]
  · rfl
theorem rlL_out {K a q : Nat} (h : q < 137 ∨ 138 < q) : ∀ m i V, rlL K a m i V q = V q := by
  intro m
  induction m with
  | zero => intro i V; rfl
  | succ m ih =>
    intro i V
    show rlL K a m (i + 1) _ q = _
    rw [ih, rlb_out h]
theorem rndM_out {N K q : Nat} (h : q < 137 ∨ 139 < q) : ∀ m V, rndM N K m V q = V q := by
  intro m
  induction m with
  | zero => intro V; rfl
  | succ m ih =>
    intro V
    unfold rndM
    cases nrs V 137 138 139 N 0 none with
    | none => rfl
    | some a =>
      show rndM N K m _ q = _
      rw [ih, rlL_out (by omega), jv_U_other (by omega)]
theorem iniM_out {V : (Nat → Nat → Int32)} {i q : Nat} (h : q < 137 ∨ 139 < q) : iniM V i q = V q := by
  funext c
  unfold iniM
  rw [if_neg (by omega : ¬ q = 137), if_neg (by omega : ¬ q = 139), ite_self]
theorem wayM_out {V : (Nat → Nat → Int32)} {N K f q : Nat} (h : q < 137 ∨ 139 < q) : wayM V N K f q = V q := by
  unfold wayM
  rw [rndM_out h, jv_U_other (by omega), jv_U_other (by omega), iniM_out h]
theorem wayM_Mt {V : (Nat → Nat → Int32)} {N K R f K' : Nat} (h : Mt V N K R) : Mt (wayM V N K' f) N K R := h.o (wayM_out (by omega)) (wayM_out (by omega))
theorem iniM_0 {V : (Nat → Nat → Int32)} : iniM V 0 = V := by
  funext q c
  unfold iniM
  rw [if_neg (by omega)]
theorem iniM_s {V : (Nat → Nat → Int32)} {i : Nat} : jv_U (jv_U (iniM V i) 137 i (-1)) 139 i (nI 0) = iniM V (i + 1) := by
  funext q c
  unfold jv_U iniM
  by_cases hc : c = i
  · subst hc
    rw [if_neg (Nat.lt_irrefl c), if_pos (Nat.lt_succ_self c)]
    simp only [if_true]
    by_cases h5 : q = 139
    · subst h5; rfl
    · by_cases h4 : q = 137
      · subst h4; rfl
      · rw [if_neg h5, if_neg h4, if_neg h4, if_neg h5]
  · simp only [if_neg hc, ite_self]
    by_cases h : c < i
    · have h' : c < i + 1 := by omega
      simp only [if_pos h, if_pos h']
    · have h' : ¬ c < i + 1 := by omega
      simp only [if_neg h, if_neg h']

set_option maxHeartbeats 4000000 in
set_option maxRecDepth 100000 in
theorem y_relax {sx : Nat → jv_S} {g : jv_G} {X : jv_X} {T : jv_T} {n : Nat} {V : Nat → Nat → Int32} {L : Nat → Nat → Int64} {k z : Nat} {N K R a p : Nat} {x1 : Int32} (ha : a < N) : ∀ (m : Nat) (i : Nat) (V : (Nat → Nat → Int32)) (v5 : Option Value), Mt V N K R → i ≤ N → N + 1 ≤ i + m → (∀ V', Mt V' N K R → V' = rlL K a (N - i) i V → ∀ v5, jv_J g X I_X5_ways 281 [some (jv_r g 123), some (.int x1), some (.int (nI p)), some (.int (nI a)), some (.int (nI N)), v5] [] n (SH sx) V' L k z) → jv_J g X I_X5_ways 167 [some (jv_r g 123), some (.int x1), some (.int (nI p)), some (.int (nI a)), some (.int (nI i)), v5] [] n (SH sx) V L k z := by
  intro m
  induction m with
  | zero => intro i V v5 hC hi him kk; omega
  | succ m ih =>
  intro i V v5 hC hi him kk
  obtain ⟨hN, hK, hR, hN2, hb, hK4, hR8, hEv⟩ := id hC
  refine j_iload_4 dX5_ways_167 ?_
  refine j_aload_n_0 dX5_ways_169 ?_
  refine G_X5_67 rfl dX5_ways_170 sk_123 ?_
  refine j_top (y := nI N) hN ?_
  refine j_ic_geN (by omega) (by omega) (tgt := 281) dX5_ways_173 (by decide) (fun h173 => ?_) (fun h173 => ?_)
  · have ei : i = N := by omega
    subst ei
    exact kk V hC (by rw [show i - i = 0 by omega]; rfl) _
  · refine j_aload_n_0 dX5_ways_176 ?_
    refine j_iload_n_3 dX5_ways_177 ?_
    refine j_iload_4 dX5_ways_178 ?_
    refine C_X5_99 rfl (by decide) dX5_ways_180 sk_123 (Nat.le_of_ble_eq_true rfl) (Nat.le_of_eq (Nat.zero_add _)) (Nat.le_of_eq (Nat.zero_add _)) (fun _ _ hM' hT' => y_hoursOf hC (by omega) (by omega) hM' hT') ?_
    refine j_istore_5 rfl (by decide) dX5_ways_183 ?_
    refine j_iload_5 dX5_ways_185 ?_
    refine j_iconst (v := -1) dX5_ways_187 nc_iconst_m1 ?_
    refine j_ic_eq (tgt := 275) dX5_ways_188 (by decide) (fun h188 => ?_) (fun h188 => ?_)
    · refine j_inc1_4 rfl (by decide) dX5_ways_275 ?_
      refine j_goto (tgt := 167) dX5_ways_278 (by decide) ?_
      refine ih (i + 1) _ _ hC (by omega) (by omega) ?_
      intro V' hC' e1
      exact kk V' hC' (by rw [show N - i = (N - (i + 1)) + 1 by omega]; unfold rlL rlb; rw [if_neg (fun c => c.1 h188)]; exact e1)
    · refine j_aload_n_0 dX5_ways_191 ?_
      refine G_X5_56 rfl dX5_ways_192 sk_123 sr_123_19 ?_
      refine j_iload_4 dX5_ways_195 ?_
      refine j_bald dX5_ways_197 sk_139 sn_139 (by omega) (by decide) ?_
      refine j_if_ne (tgt := 275) dX5_ways_198 (by decide) (fun h198 => ?_) (fun h198 => ?_)
      · refine j_inc1_4 rfl (by decide) dX5_ways_275 ?_
        refine j_goto (tgt := 167) dX5_ways_278 (by decide) ?_
        refine ih (i + 1) _ _ hC (by omega) (by omega) ?_
        intro V' hC' e1
        exact kk V' hC' (by rw [show N - i = (N - (i + 1)) + 1 by omega]; unfold rlL rlb; rw [if_neg (fun c => h198 c.2.1)]; exact e1)
      · refine j_aload_n_0 dX5_ways_201 ?_
        refine j_aload_n_0 dX5_ways_202 ?_
        refine G_X5_50 rfl dX5_ways_203 sk_123 sr_123_17 ?_
        refine j_iload_n_3 dX5_ways_206 ?_
        refine j_iald dX5_ways_207 sk_137 sn_137 (by omega) (by decide) ?_
        refine j_aload_n_0 dX5_ways_208 ?_
        refine G_X5_13 rfl dX5_ways_209 sk_123 sr_123_5 ?_
        refine j_iload_n_3 dX5_ways_212 ?_
        refine j_iald dX5_ways_213 sk_125 sn_125 (by omega) (by decide) ?_
        refine j_iadd dX5_ways_214 ?_
        refine j_iload_5 dX5_ways_215 ?_
        refine j_iadd dX5_ways_217 ?_
        refine j_aload_n_0 dX5_ways_218 ?_
        refine G_X5_53 rfl dX5_ways_219 sk_123 sr_123_18 ?_
        refine j_iload_n_3 dX5_ways_222 ?_
        refine j_iald dX5_ways_223 sk_138 sn_138 (by omega) (by decide) ?_
        refine j_iconst (v := nI 1) dX5_ways_224 nc_iconst_1 ?_
        refine j_iadd dX5_ways_225 ?_
        refine j_iload_4 dX5_ways_226 ?_
        refine C_X5_102 rfl (by decide) dX5_ways_228 sk_123 (Nat.le_of_ble_eq_true rfl) (Nat.le_of_eq (Nat.zero_add _)) (Nat.le_of_eq (Nat.zero_add _)) (fun _ _ hM' hT' => y_isBetter (by omega) hM' hT') ?_
        refine j_if_ne (tgt := 237) dX5_ways_231 (by decide) (fun h231 => ?_) (fun h231 => ?_)
        · refine j_aload_n_0 dX5_ways_237 ?_
          refine G_X5_50 rfl dX5_ways_238 sk_123 sr_123_17 ?_
          refine j_iload_4 dX5_ways_241 ?_
          refine j_aload_n_0 dX5_ways_243 ?_
          refine G_X5_50 rfl dX5_ways_244 sk_123 sr_123_17 ?_
          refine j_iload_n_3 dX5_ways_247 ?_
          refine j_iald dX5_ways_248 sk_137 sn_137 (by omega) (by decide) ?_
          refine j_aload_n_0 dX5_ways_249 ?_
          refine G_X5_13 rfl dX5_ways_250 sk_123 sr_123_5 ?_
          refine j_iload_n_3 dX5_ways_253 ?_
          refine j_iald dX5_ways_254 sk_125 sn_125 (by omega) (by decide) ?_
          refine j_iadd dX5_ways_255 ?_
          refine j_iload_5 dX5_ways_256 ?_
          refine j_iadd dX5_ways_258 ?_
          refine j_iast dX5_ways_259 sk_137 sn_137 (by omega) (by decide) ?_
          refine j_aload_n_0 dX5_ways_260 ?_
          refine G_X5_53 rfl dX5_ways_261 sk_123 sr_123_18 ?_
          refine j_iload_4 dX5_ways_264 ?_
          refine j_aload_n_0 dX5_ways_266 ?_
          refine G_X5_53 rfl dX5_ways_267 sk_123 sr_123_18 ?_
          refine j_iload_n_3 dX5_ways_270 ?_
          refine j_iald dX5_ways_271 sk_138 sn_138 (by omega) (by decide) ?_
          refine j_top (y := V 138 a) (by rw [jv_Une (by omega)]) ?_
          refine j_iconst (v := nI 1) dX5_ways_272 nc_iconst_1 ?_
          refine j_iadd dX5_ways_273 ?_
          refine j_iast dX5_ways_274 sk_138 sn_138 (by omega) (by decide) ?_
          refine j_inc1_4 rfl (by decide) dX5_ways_275 ?_
          refine j_goto (tgt := 167) dX5_ways_278 (by decide) ?_
          refine ih (i + 1) _ _ (hC.o (by rw [jv_U_other (by omega), jv_U_other (by omega)]) (by rw [jv_U_other (by omega), jv_U_other (by omega)])) (by omega) (by omega) ?_
          intro V' hC' e1
          exact kk V' hC' (by rw [show N - i = (N - (i + 1)) + 1 by omega]; unfold rlL rlb; rw [if_pos ⟨h188, h198, bz_t h231⟩]; exact e1)
        · refine j_goto (tgt := 275) dX5_ways_234 (by decide) ?_
          refine j_inc1_4 rfl (by decide) dX5_ways_275 ?_
          refine j_goto (tgt := 167) dX5_ways_278 (by decide) ?_
          refine ih (i + 1) _ _ hC (by omega) (by omega) ?_
          intro V' hC' e1
          exact kk V' hC' (by rw [show N - i = (N - (i + 1)) + 1 by omega]; unfold rlL rlb; rw [if_neg (fun c => by rw [bz_f h231] at c; exact absurd c.2.2 (by decide))]; exact e1)

set_option maxHeartbeats 4000000 in
set_option maxRecDepth 100000 in
theorem y_search {sx : Nat → jv_S} {g : jv_G} {X : jv_X} {T : jv_T} {n : Nat} {V : Nat → Nat → Int32} {L : Nat → Nat → Int64} {k z : Nat} {N K R : Nat} (hC : Mt V N K R) {p : Nat} {x1 : Int32} {v5 : Option Value} : ∀ (m : Nat) (i : Nat) (b : Option Nat), i ≤ N → N + 1 ≤ i + m → (∀ j, b = some j → j < N) → (∀ b', (∀ j, b' = some j → j < N) → b' = nrs V 137 138 139 (N - i) i b → jv_J g X I_X5_ways 151 [some (jv_r g 123), some (.int x1), some (.int (nI p)), some (.int (ov b')), some (.int (nI N)), v5] [] n (SH sx) V L k z) → jv_J g X I_X5_ways 59 [some (jv_r g 123), some (.int x1), some (.int (nI p)), some (.int (ov b)), some (.int (nI i)), v5] [] n (SH sx) V L k z := by
  intro m
  induction m with
  | zero => intro i b hi him hbj kk; omega
  | succ m ih =>
  intro i b hi him hbj kk
  obtain ⟨hN, hK, hR, hN2, hb, hK4, hR8, hEv⟩ := id hC
  cases b with
  | none =>
    show jv_J g X I_X5_ways 59 [some (jv_r g 123), some (.int x1), some (.int (nI p)), some (.int (-1)), some (.int (nI i)), v5] [] n (SH sx) V L k z
    refine j_iload_4 dX5_ways_59 ?_
    refine j_aload_n_0 dX5_ways_61 ?_
    refine G_X5_67 rfl dX5_ways_62 sk_123 ?_
    refine j_top (y := nI N) hN ?_
    refine j_ic_geN (by omega) (by omega) (tgt := 151) dX5_ways_65 (by decide) (fun h65 => ?_) (fun h65 => ?_)
    · have ei : i = N := by omega
      subst ei
      exact kk none hbj (by rw [show i - i = 0 by omega]; rfl)
    · refine j_aload_n_0 dX5_ways_68 ?_
      refine G_X5_56 rfl dX5_ways_69 sk_123 sr_123_19 ?_
      refine j_iload_4 dX5_ways_72 ?_
      refine j_bald dX5_ways_74 sk_139 sn_139 (by omega) (by decide) ?_
      refine j_if_ne (tgt := 145) dX5_ways_75 (by decide) (fun h75 => ?_) (fun h75 => ?_)
      · refine j_inc1_4 rfl (by decide) dX5_ways_145 ?_
        refine j_goto (tgt := 59) dX5_ways_148 (by decide) ?_
        refine ih (i + 1) none (by omega) (by omega) hbj ?_
        intro b' hb' e1
        exact kk b' hb' (by rw [show N - i = (N - (i + 1)) + 1 by omega]; unfold nrs; rw [if_neg (fun c => h75 c.1.1)]; exact e1)
      · refine j_aload_n_0 dX5_ways_78 ?_
        refine G_X5_50 rfl dX5_ways_79 sk_123 sr_123_17 ?_
        refine j_iload_4 dX5_ways_82 ?_
        refine j_iald dX5_ways_84 sk_137 sn_137 (by omega) (by decide) ?_
        refine j_iconst (v := -1) dX5_ways_85 nc_iconst_m1 ?_
        refine j_ic_eq (tgt := 145) dX5_ways_86 (by decide) (fun h86 => ?_) (fun h86 => ?_)
        · refine j_inc1_4 rfl (by decide) dX5_ways_145 ?_
          refine j_goto (tgt := 59) dX5_ways_148 (by decide) ?_
          refine ih (i + 1) none (by omega) (by omega) hbj ?_
          intro b' hb' e1
          exact kk b' hb' (by rw [show N - i = (N - (i + 1)) + 1 by omega]; unfold nrs; rw [if_neg (fun c => c.1.2 h86)]; exact e1)
        · refine j_iload_n_3 dX5_ways_89 ?_
          refine j_iconst (v := -1) dX5_ways_90 nc_iconst_m1 ?_
          refine j_ic_eq (tgt := 142) dX5_ways_91 (by decide) (fun h91 => ?_) (fun h91 => ?_)
          · refine j_iload_4 dX5_ways_142 ?_
            refine j_istore_n_3 rfl (by decide) dX5_ways_144 ?_
            refine j_inc1_4 rfl (by decide) dX5_ways_145 ?_
            refine j_goto (tgt := 59) dX5_ways_148 (by decide) ?_
            refine ih (i + 1) (some i) (by omega) (by omega) (fun j hj => by cases hj; omega) ?_
            intro b' hb' e1
            exact kk b' hb' (by rw [show N - i = (N - (i + 1)) + 1 by omega]; unfold nrs; rw [if_pos ⟨⟨h75, h86⟩, rfl⟩]; exact e1)
          · exact absurd rfl h91
  | some j =>
    have hj : j < 12 := by have := hbj j rfl; omega
    show jv_J g X I_X5_ways 59 [some (jv_r g 123), some (.int x1), some (.int (nI p)), some (.int (nI j)), some (.int (nI i)), v5] [] n (SH sx) V L k z
    refine j_iload_4 dX5_ways_59 ?_
    refine j_aload_n_0 dX5_ways_61 ?_
    refine G_X5_67 rfl dX5_ways_62 sk_123 ?_
    refine j_top (y := nI N) hN ?_
    refine j_ic_geN (by omega) (by omega) (tgt := 151) dX5_ways_65 (by decide) (fun h65 => ?_) (fun h65 => ?_)
    · have ei : i = N := by omega
      subst ei
      exact kk (some j) hbj (by rw [show i - i = 0 by omega]; rfl)
    · refine j_aload_n_0 dX5_ways_68 ?_
      refine G_X5_56 rfl dX5_ways_69 sk_123 sr_123_19 ?_
      refine j_iload_4 dX5_ways_72 ?_
      refine j_bald dX5_ways_74 sk_139 sn_139 (by omega) (by decide) ?_
      refine j_if_ne (tgt := 145) dX5_ways_75 (by decide) (fun h75 => ?_) (fun h75 => ?_)
      · refine j_inc1_4 rfl (by decide) dX5_ways_145 ?_
        refine j_goto (tgt := 59) dX5_ways_148 (by decide) ?_
        refine ih (i + 1) (some j) (by omega) (by omega) hbj ?_
        intro b' hb' e1
        exact kk b' hb' (by rw [show N - i = (N - (i + 1)) + 1 by omega]; unfold nrs; rw [if_neg (fun c => h75 c.1.1)]; exact e1)
      · refine j_aload_n_0 dX5_ways_78 ?_
        refine G_X5_50 rfl dX5_ways_79 sk_123 sr_123_17 ?_
        refine j_iload_4 dX5_ways_82 ?_
        refine j_iald dX5_ways_84 sk_137 sn_137 (by omega) (by decide) ?_
        refine j_iconst (v := -1) dX5_ways_85 nc_iconst_m1 ?_
        refine j_ic_eq (tgt := 145) dX5_ways_86 (by decide) (fun h86 => ?_) (fun h86 => ?_)
        · refine j_inc1_4 rfl (by decide) dX5_ways_145 ?_
          refine j_goto (tgt := 59) dX5_ways_148 (by decide) ?_
          refine ih (i + 1) (some j) (by omega) (by omega) hbj ?_
          intro b' hb' e1
          exact kk b' hb' (by rw [show N - i = (N - (i + 1)) + 1 by omega]; unfold nrs; rw [if_neg (fun c => c.1.2 h86)]; exact e1)
        · refine j_iload_n_3 dX5_ways_89 ?_
          refine j_iconst (v := -1) dX5_ways_90 nc_iconst_m1 ?_
          refine j_ic_eq (tgt := 142) dX5_ways_91 (by decide) (fun h91 => ?_) (fun h91 => ?_)
          · exact absurd h91 (nI_nm1 (by omega))
          · refine j_aload_n_0 dX5_ways_94 ?_
            refine G_X5_50 rfl dX5_ways_95 sk_123 sr_123_17 ?_
            refine j_iload_4 dX5_ways_98 ?_
            refine j_iald dX5_ways_100 sk_137 sn_137 (by omega) (by decide) ?_
            refine j_aload_n_0 dX5_ways_101 ?_
            refine G_X5_50 rfl dX5_ways_102 sk_123 sr_123_17 ?_
            refine j_iload_n_3 dX5_ways_105 ?_
            refine j_iald dX5_ways_106 sk_137 sn_137 (by omega) (by decide) ?_
            refine j_ic_lt (tgt := 142) dX5_ways_107 (by decide) (fun h107 => ?_) (fun h107 => ?_)
            · refine j_iload_4 dX5_ways_142 ?_
              refine j_istore_n_3 rfl (by decide) dX5_ways_144 ?_
              refine j_inc1_4 rfl (by decide) dX5_ways_145 ?_
              refine j_goto (tgt := 59) dX5_ways_148 (by decide) ?_
              refine ih (i + 1) (some i) (by omega) (by omega) (fun j hj => by cases hj; omega) ?_
              intro b' hb' e1
              exact kk b' hb' (by rw [show N - i = (N - (i + 1)) + 1 by omega]; unfold nrs; rw [if_pos ⟨⟨h75, h86⟩, by simp [btb, btI, h107]⟩]; exact e1)
            · refine j_aload_n_0 dX5_ways_110 ?_
              refine G_X5_50 rfl dX5_ways_111 sk_123 sr_123_17 ?_
              refine j_iload_4 dX5_ways_114 ?_
              refine j_iald dX5_ways_116 sk_137 sn_137 (by omega) (by decide) ?_
              refine j_aload_n_0 dX5_ways_117 ?_
              refine G_X5_50 rfl dX5_ways_118 sk_123 sr_123_17 ?_
              refine j_iload_n_3 dX5_ways_121 ?_
              refine j_iald dX5_ways_122 sk_137 sn_137 (by omega) (by decide) ?_
              refine j_ic_ne (tgt := 145) dX5_ways_123 (by decide) (fun h123 => ?_) (fun h123 => ?_)
              · refine j_inc1_4 rfl (by decide) dX5_ways_145 ?_
                refine j_goto (tgt := 59) dX5_ways_148 (by decide) ?_
                refine ih (i + 1) (some j) (by omega) (by omega) hbj ?_
                intro b' hb' e1
                exact kk b' hb' (by rw [show N - i = (N - (i + 1)) + 1 by omega]; unfold nrs; rw [if_neg (fun c => by have := c.2; simp [btb, btI, h107, h123] at this)]; exact e1)
              · refine j_aload_n_0 dX5_ways_126 ?_
                refine G_X5_53 rfl dX5_ways_127 sk_123 sr_123_18 ?_
                refine j_iload_4 dX5_ways_130 ?_
                refine j_iald dX5_ways_132 sk_138 sn_138 (by omega) (by decide) ?_
                refine j_aload_n_0 dX5_ways_133 ?_
                refine G_X5_53 rfl dX5_ways_134 sk_123 sr_123_18 ?_
                refine j_iload_n_3 dX5_ways_137 ?_
                refine j_iald dX5_ways_138 sk_138 sn_138 (by omega) (by decide) ?_
                refine j_ic_ge (tgt := 145) dX5_ways_139 (by decide) (fun h139 => ?_) (fun h139 => ?_)
                · refine j_inc1_4 rfl (by decide) dX5_ways_145 ?_
                  refine j_goto (tgt := 59) dX5_ways_148 (by decide) ?_
                  refine ih (i + 1) (some j) (by omega) (by omega) hbj ?_
                  intro b' hb' e1
                  exact kk b' hb' (by rw [show N - i = (N - (i + 1)) + 1 by omega]; unfold nrs; rw [if_neg (fun c => by have := c.2; simp [btb, btI, h107, h123, Int32.not_lt.mpr h139] at this)]; exact e1)
                · refine j_iload_4 dX5_ways_142 ?_
                  refine j_istore_n_3 rfl (by decide) dX5_ways_144 ?_
                  refine j_inc1_4 rfl (by decide) dX5_ways_145 ?_
                  refine j_goto (tgt := 59) dX5_ways_148 (by decide) ?_
                  refine ih (i + 1) (some i) (by omega) (by omega) (fun j hj => by cases hj; omega) ?_
                  intro b' hb' e1
                  exact kk b' hb' (by rw [show N - i = (N - (i + 1)) + 1 by omega]; unfold nrs; rw [if_pos ⟨⟨h75, h86⟩, by simp [btb, btI, h123, Int32.not_le.mp h139]⟩]; exact e1)

set_option maxHeartbeats 4000000 in
set_option maxRecDepth 100000 in
theorem y_rounds {sx : Nat → jv_S} {g : jv_G} {X : jv_X} {T : jv_T} {n : Nat} {V : Nat → Nat → Int32} {L : Nat → Nat → Int64} {k z : Nat} {N K R : Nat} {x1 : Int32} (hM : jv_M g X T) : ∀ (m : Nat) (i : Nat) (V : (Nat → Nat → Int32)) (v3 v4 v5 : Option Value), Mt V N K R → i ≤ N → N + 1 ≤ i + m → T (.inl none) n (SH sx) (rndM N K (N - i) V) L → jv_J g X I_X5_ways 46 [some (jv_r g 123), some (.int x1), some (.int (nI i)), v3, v4, v5] [] n (SH sx) V L k z := by
  intro m
  induction m with
  | zero => intro i V v3 v4 v5 hC hi him hT; omega
  | succ m ih =>
  intro i V v3 v4 v5 hC hi him hT
  obtain ⟨hN, hK, hR, hN2, hb, hK4, hR8, hEv⟩ := id hC
  refine j_iload_n_2 dX5_ways_46 ?_
  refine j_aload_n_0 dX5_ways_47 ?_
  refine G_X5_67 rfl dX5_ways_48 sk_123 ?_
  refine j_top (y := nI N) hN ?_
  refine j_ic_geN (by omega) (by omega) (tgt := 287) dX5_ways_51 (by decide) (fun h51 => ?_) (fun h51 => ?_)
  · exact j_vret hM dX5_ways_287 rfl (by rw [show N - i = 0 by omega] at hT; exact hT)
  · refine j_iconst (v := -1) dX5_ways_54 nc_iconst_m1 ?_
    refine j_istore_n_3 rfl (by decide) dX5_ways_55 ?_
    refine j_iconst (v := nI 0) dX5_ways_56 nc_iconst_0 ?_
    refine j_istore_4 rfl (by decide) dX5_ways_57 ?_
    refine y_search (T := T) hC (N + 1) 0 none (by omega) (by omega) (fun j hj => by cases hj) ?_
    intro b' hb' e1
    rw [show N - 0 = N by omega] at e1
    have hT2 := hT
    rw [show N - i = (N - (i + 1)) + 1 by omega] at hT2
    unfold rndM at hT2
    rw [← e1] at hT2
    cases b' with
    | none =>
      replace hT : T (.inl none) n (SH sx) V L := hT2
      show jv_J g X I_X5_ways 151 [some (jv_r g 123), some (.int x1), some (.int (nI i)), some (.int (-1)), some (.int (nI N)), v5] [] n (SH sx) V L k z
      refine j_iload_n_3 dX5_ways_151 ?_
      refine j_iconst (v := -1) dX5_ways_152 nc_iconst_m1 ?_
      refine j_ic_ne (tgt := 157) dX5_ways_153 (by decide) (fun h153 => ?_) (fun h153 => ?_)
      · exact absurd rfl h153
      · exact j_vret hM dX5_ways_156 rfl hT
    | some a =>
      replace hT : T (.inl none) n (SH sx) (rndM N K (N - (i + 1)) (rlL K a N 0 (jv_U V 139 a (nI 1)))) L := hT2
      have ha : a < N := hb' a rfl
      show jv_J g X I_X5_ways 151 [some (jv_r g 123), some (.int x1), some (.int (nI i)), some (.int (nI a)), some (.int (nI N)), v5] [] n (SH sx) V L k z
      refine j_iload_n_3 dX5_ways_151 ?_
      refine j_iconst (v := -1) dX5_ways_152 nc_iconst_m1 ?_
      refine j_ic_ne (tgt := 157) dX5_ways_153 (by decide) (fun h153 => ?_) (fun h153 => ?_)
      · refine j_aload_n_0 dX5_ways_157 ?_
        refine G_X5_56 rfl dX5_ways_158 sk_123 sr_123_19 ?_
        refine j_iload_n_3 dX5_ways_161 ?_
        refine j_iconst (v := nI 1) dX5_ways_162 nc_iconst_1 ?_
        refine j_bast dX5_ways_163 (jv_b01 (by first | exact Or.inl rfl | exact Or.inr rfl | assumption)) sk_139 sn_139 (by omega) (by decide) ?_
        refine j_iconst (v := nI 0) dX5_ways_164 nc_iconst_0 ?_
        refine j_istore_4 rfl (by decide) dX5_ways_165 ?_
        refine y_relax (T := T) (V := V) ha (N + 1) 0 _ _ (hC.o (jv_U_other (by omega)) (jv_U_other (by omega))) (by omega) (by omega) ?_
        intro V' hC' e2 v5
        rw [show N - 0 = N by omega] at e2
        subst e2
        refine j_inc1_2 rfl (by decide) dX5_ways_281 ?_
        refine j_goto (tgt := 46) dX5_ways_284 (by decide) ?_
        exact ih (i + 1) _ _ _ _ hC' (by omega) (by omega) hT
      · exact absurd h153 (nI_nm1 (by omega))

set_option maxHeartbeats 4000000 in
set_option maxRecDepth 100000 in
theorem y_ini {sx : Nat → jv_S} {g : jv_G} {X : jv_X} {T : jv_T} {n : Nat} {V : Nat → Nat → Int32} {L : Nat → Nat → Int64} {k z : Nat} {N K R : Nat} (hC : Mt V N K R) {f : Nat} (hf : f < N) (hM : jv_M g X T) (hT : T (.inl none) n (SH sx) (wayM V N K f) L) : ∀ (m : Nat) (i : Nat), i ≤ N → N + 1 ≤ i + m → jv_J g X I_X5_ways 2 [some (jv_r g 123), some (.int (nI f)), some (.int (nI i)), none, none, none] [] n (SH sx) (iniM V i) L k z := by
  intro m
  induction m with
  | zero => intro i hi him; omega
  | succ m ih =>
  intro i hi him
  obtain ⟨hN, hK, hR, hN2, hb, hK4, hR8, hEv⟩ := id hC
  refine j_iload_n_2 dX5_ways_2 ?_
  refine j_aload_n_0 dX5_ways_3 ?_
  refine G_X5_67 rfl dX5_ways_4 sk_123 ?_
  refine j_top (y := nI N) (by rw [iniM_out (by omega)]; exact hN) ?_
  refine j_ic_geN (by omega) (by omega) (tgt := 30) dX5_ways_7 (by decide) (fun h7 => ?_) (fun h7 => ?_)
  · have ei : i = N := by omega
    subst ei
    refine j_aload_n_0 dX5_ways_30 ?_
    refine G_X5_50 rfl dX5_ways_31 sk_123 sr_123_17 ?_
    refine j_iload_n_1 dX5_ways_34 ?_
    refine j_iconst (v := nI 0) dX5_ways_35 nc_iconst_0 ?_
    refine j_iast dX5_ways_36 sk_137 sn_137 (by omega) (by decide) ?_
    refine j_aload_n_0 dX5_ways_37 ?_
    refine G_X5_53 rfl dX5_ways_38 sk_123 sr_123_18 ?_
    refine j_iload_n_1 dX5_ways_41 ?_
    refine j_iconst (v := nI 0) dX5_ways_42 nc_iconst_0 ?_
    refine j_iast dX5_ways_43 sk_138 sn_138 (by omega) (by decide) ?_
    refine j_iconst (v := nI 0) dX5_ways_44 nc_iconst_0 ?_
    refine j_istore_n_2 rfl (by decide) dX5_ways_45 ?_
    exact y_rounds (V := V) hM (i + 1) 0 _ _ _ _ (hC.o (by rw [jv_U_other (by omega), jv_U_other (by omega), iniM_out (by omega)]) (by rw [jv_U_other (by omega), jv_U_other (by omega), iniM_out (by omega)])) (by omega) (by omega) hT
  · refine j_aload_n_0 dX5_ways_10 ?_
    refine G_X5_50 rfl dX5_ways_11 sk_123 sr_123_17 ?_
    refine j_iload_n_2 dX5_ways_14 ?_
    refine j_iconst (v := -1) dX5_ways_15 nc_iconst_m1 ?_
    refine j_iast dX5_ways_16 sk_137 sn_137 (by omega) (by decide) ?_
    refine j_aload_n_0 dX5_ways_17 ?_
    refine G_X5_56 rfl dX5_ways_18 sk_123 sr_123_19 ?_
    refine j_iload_n_2 dX5_ways_21 ?_
    refine j_iconst (v := nI 0) dX5_ways_22 nc_iconst_0 ?_
    refine j_bast dX5_ways_23 (jv_b01 (by first | exact Or.inl rfl | exact Or.inr rfl | assumption)) sk_139 sn_139 (by omega) (by decide) ?_
    refine j_mem iniM_s ?_
    refine j_inc1_2 rfl (by decide) dX5_ways_24 ?_
    refine j_goto (tgt := 2) dX5_ways_27 (by decide) ?_
    exact ih (i + 1) (by omega) (by omega)

set_option maxHeartbeats 4000000 in
set_option maxRecDepth 100000 in
theorem y_ways {sx : Nat → jv_S} {g : jv_G} {X : jv_X} {T : jv_T} {n : Nat} {V : Nat → Nat → Int32} {L : Nat → Nat → Int64} {k z : Nat} {N K R : Nat} (hC : Mt V N K R) {f : Nat} (hf : f < N) (hM : jv_M g X T) (hT : T (.inl none) n (SH sx) (wayM V N K f) L) : jv_J g X I_X5_ways 0 [some (jv_r g 123), some (.int (nI f)), none, none, none, none] [] n (SH sx) V L k z := by
  obtain ⟨hN, hK, hR, hN2, hb, hK4, hR8, hEv⟩ := id hC
  refine j_iconst (v := nI 0) dX5_ways_0 nc_iconst_0 ?_
  refine j_istore_n_2 rfl (by decide) dX5_ways_1 ?_
  refine j_mem iniM_0.symm ?_
  exact y_ini hC hf hM hT (N + 1) 0 (by omega) (by omega)

set_option maxHeartbeats 4000000 in
set_option maxRecDepth 100000 in
theorem y_way {sx : Nat → jv_S} {g : jv_G} {X : jv_X} {T : jv_T} {n : Nat} {V : Nat → Nat → Int32} {L : Nat → Nat → Int64} {k z : Nat} {N K R : Nat} (hC : Mt V N K R) {f t : Nat} (hf : f < N) (ht : t < N) (hM : jv_M g X T) (hT : T (.inl (some (.int (wayM V N K f 137 t)))) n (SH sx) (wayM V N K f) L) : jv_J g X I_X5_way 0 [some (jv_r g 123), some (.int (nI f)), some (.int (nI t))] [] n (SH sx) V L k z := by
  obtain ⟨hN, hK, hR, hN2, hb, hK4, hR8, hEv⟩ := id hC
  refine j_aload_n_0 dX5_way_0 ?_
  refine j_iload_n_1 dX5_way_1 ?_
  refine C_X5_105 rfl (by decide) dX5_way_2 sk_123 (Nat.le_of_ble_eq_true rfl) (Nat.le_of_eq (Nat.zero_add _)) (Nat.le_of_eq (Nat.zero_add _)) (fun _ _ hM' hT' => y_ways hC hf hM' hT') ?_
  refine j_aload_n_0 dX5_way_5 ?_
  refine G_X5_50 rfl dX5_way_6 sk_123 sr_123_17 ?_
  refine j_iload_n_2 dX5_way_9 ?_
  refine j_iald dX5_way_10 sk_137 sn_137 (by omega) (by decide) ?_
  exact j_iret hM dX5_way_11 rfl hT
