/-! ===== the reference's checksum: rows of its own beyond 141 ===== -/
theorem j_n {sx : Nat → jv_S} {g : jv_G} {X : jv_X} {I : jv_I} {pc n : Nat} {ls : List (Option Value)} {st : List Value} {V : (Nat → Nat → Int32)} {L : Nat → Nat → Int64} {k z : Nat} (kk : 140 < n → jv_J g X I pc ls st n (SH sx) V L k z) : jv_J g X I pc ls st n (SH sx) V L k z := by
  obtain ⟨p, l, e, R, s, m, args, below, meth, cd, Q⟩ := X
  intro hC lsA H locs cells slots hP
  exact kk (hP.2.1 140 (by show (12 : Nat) ≠ 0; decide)) hC lsA H locs cells slots hP
theorem SH_NS {sx : Nat → jv_S} {n : Nat} {x : jv_S} (h : 140 < n) : jv_NS (SH sx) n x = SH (jv_NS sx n x) := by
  funext q
  unfold jv_NS SH
  by_cases e : q = n
  · simp only [if_pos e]
    rw [if_neg (by omega), if_neg (by omega), if_neg (by omega), if_neg (by omega), if_neg (by omega), if_neg (by omega)]
  · simp only [if_neg e]
theorem SH_nx {sx : Nat → jv_S} {n : Nat} {x : jv_S} (h : 140 < n) : SH (jv_NS sx n x) n = x := by
  unfold jv_NS SH
  rw [if_neg (by omega), if_neg (by omega), if_neg (by omega), if_neg (by omega), if_neg (by omega), if_neg (by omega)]
  exact if_pos rfl
theorem SH_nk {sx : Nat → jv_S} {n M : Nat} {f : Nat → Option Nat} (h : 140 < n) : (SH (jv_NS sx n (10, M, f)) n).1 = 10 := by rw [SH_nx h]
theorem SH_nn {sx : Nat → jv_S} {n M : Nat} {f : Nat → Option Nat} (h : 140 < n) : (SH (jv_NS sx n (10, M, f)) n).2.1 = M := by rw [SH_nx h]
theorem NV_o {V : (Nat → Nat → Int32)} {n q : Nat} {f : Nat → Int32} (h : q ≠ n) : jv_NV V n f q = V q := if_neg h
theorem NV_Mt {V : (Nat → Nat → Int32)} {N K R n : Nat} {f : Nat → Int32} (hn : 140 < n) (h : Mt V N K R) : Mt (jv_NV V n f) N K R := h.o (NV_o (by omega)) (NV_o (by omega))
theorem Un_Mt {V : (Nat → Nat → Int32)} {N K R n j : Nat} {x : Int32} (hn : 140 < n) (h : Mt V N K R) : Mt (jv_U V n j x) N K R := h.o (jv_U_other (by omega)) (jv_U_other (by omega))
def mxL (V : (Nat → Nat → Int32)) (q : Nat) : Nat → Nat → Int64 → Int64
  | 0, _, d => d
  | m + 1, i, d => mxL V q m (i + 1) (mx d (V q i).toInt64)
def bo (x : Int32) : Int32 := if x = 0 then nI 0 else nI 1
def wmL (V : (Nat → Nat → Int32)) (r : Nat) : Nat → Nat → Int64 → Int64
  | 0, _, d => d
  | m + 1, i, d => wmL V r m (i + 1) (mx (mx (mx (mx d (V 135 (0 + (12 * r + i))).toInt64) (V 135 (96 + (12 * r + i))).toInt64) (V 135 (288 + (12 * r + i))).toInt64) (V 135 (192 + (12 * r + i))).toInt64)
def ssL (V : (Nat → Nat → Int32)) : Nat → Nat → Int64 → Int64
  | 0, _, d => d
  | m + 1, i, d => ssL V m (i + 1) (mx (mx d (V 126 i).toInt64) (bo (V 127 i)).toInt64)
def slL (V : (Nat → Nat → Int32)) : Nat → Nat → Int64 → Int64
  | 0, _, d => d
  | m + 1, i, d => slL V m (i + 1) (mx d (bo (V 132 i)).toInt64)
def z0 : Nat → Int32 := fun _ => 0
def fmA (V : (Nat → Nat → Int32)) (n i : Nat) : (Nat → Nat → Int32) := jv_U (jv_U (jv_NV V n z0) n 0 (V 124 i)) n 1 (V 125 i)
def fmB (V : (Nat → Nat → Int32)) (N K n i : Nat) : (Nat → Nat → Int32) := jv_U (fmA V n i) n 2 (nI (arL (fmA V n i) K i N 0 0))
def fmC (V : (Nat → Nat → Int32)) (N K n i : Nat) : (Nat → Nat → Int32) := wayM (fmB V N K n i) N K i
def fmD (V : (Nat → Nat → Int32)) (N K n i : Nat) : (Nat → Nat → Int32) := jv_U (fmC V N K n i) n 3 (nI (fmL (fmC V N K n i) N 0 i))
def fmE (V : (Nat → Nat → Int32)) (N K n i : Nat) : (Nat → Nat → Int32) := wayM (fmD V N K n i) N K 0
def fmF (V : (Nat → Nat → Int32)) (N K n i : Nat) : (Nat → Nat → Int32) := jv_U (fmE V N K n i) n 4 (fmE V N K n i 137 i)
def dmF (N K : Nat) : Nat → Nat → Nat → (Nat → Nat → Int32) → Int64 → (Nat → Nat → Int32) × Int64
  | 0, _, _, V, d => (V, d)
  | m + 1, i, n, V, d => dmF N K m (i + 1) (n + 1) (fmF V N K n i) (mxL (fmF V N K n i) n 5 0 d)
def rmA (V : (Nat → Nat → Int32)) (n r : Nat) : (Nat → Nat → Int32) := jv_U (jv_U (jv_NV V n z0) n 0 (V 133 r)) n 1 (V 134 r)
def rmB (V : (Nat → Nat → Int32)) (N n r : Nat) : (Nat → Nat → Int32) := jv_U (rmA V n r) n 2 (beL (rmA V n r) r N 0 (nI 0))
def rmC (V : (Nat → Nat → Int32)) (N n r : Nat) : (Nat → Nat → Int32) := jv_U (rmB V N n r) n 3 (nI (hdL (rmB V N n r) r N 0 0))
def rmD (V : (Nat → Nat → Int32)) (N n r : Nat) : (Nat → Nat → Int32) := jv_U (rmC V N n r) n 4 (nI (owL (rmC V N n r) r N 0 0))
def rmF (V : (Nat → Nat → Int32)) (N K n r : Nat) : (Nat → Nat → Int32) := jv_U (bbM (qtM (rmD V N n r) N K r).1) n 5 (qtI (qtM (rmD V N n r) N K r).2)
def rmH (V : (Nat → Nat → Int32)) (N K n r : Nat) : (Nat → Nat → Int32) := jv_U (bbM (ieM (rmF V N K n r) N K r)) n 6 (beL (ieM (rmF V N K n r) N K r) r N 0 (nI 0))
def rmJ (V : (Nat → Nat → Int32)) (N K n r : Nat) : (Nat → Nat → Int32) := jv_U (dnX (rmH V N K n r) N K r) n 7 (nI (dnR (rmH V N K n r) N K r))
def rmL (V : (Nat → Nat → Int32)) (N K n r : Nat) : (Nat → Nat → Int32) := jv_U (shX (rmJ V N K n r) N K r).1 n 8 (ov (shX (rmJ V N K n r) N K r).2)
def dmR (N K : Nat) : Nat → Nat → Nat → (Nat → Nat → Int32) → Int64 → (Nat → Nat → Int32) × Int64
  | 0, _, _, V, d => (V, d)
  | m + 1, i, n, V, d => dmR N K m (i + 1) (n + 1) (rmL V N K n i) (wmL (rmL V N K n i) i N 0 (mxL (rmL V N K n i) n 9 0 d))
theorem fmA_Mt {V : (Nat → Nat → Int32)} {N K R n i : Nat} (hn : 140 < n) (h : Mt V N K R) : Mt (fmA V n i) N K R := Un_Mt hn (Un_Mt hn (NV_Mt hn h))
theorem fmB_Mt {V : (Nat → Nat → Int32)} {N K R n i : Nat} (hn : 140 < n) (h : Mt V N K R) : Mt (fmB V N K n i) N K R := Un_Mt hn (fmA_Mt hn h)
theorem fmD_Mt {V : (Nat → Nat → Int32)} {N K R n i : Nat} (hn : 140 < n) (h : Mt V N K R) : Mt (fmD V N K n i) N K R := Un_Mt hn (wayM_Mt (fmB_Mt hn h))
theorem fmF_Mt {V : (Nat → Nat → Int32)} {N K R n i : Nat} (hn : 140 < n) (h : Mt V N K R) : Mt (fmF V N K n i) N K R := Un_Mt hn (wayM_Mt (fmD_Mt hn h))
theorem rmA_Mt {V : (Nat → Nat → Int32)} {N K R n r : Nat} (hn : 140 < n) (h : Mt V N K R) : Mt (rmA V n r) N K R := Un_Mt hn (Un_Mt hn (NV_Mt hn h))
theorem rmB_Mt {V : (Nat → Nat → Int32)} {N K R n r : Nat} (hn : 140 < n) (h : Mt V N K R) : Mt (rmB V N n r) N K R := Un_Mt hn (rmA_Mt hn h)
theorem rmC_Mt {V : (Nat → Nat → Int32)} {N K R n r : Nat} (hn : 140 < n) (h : Mt V N K R) : Mt (rmC V N n r) N K R := Un_Mt hn (rmB_Mt hn h)
theorem rmD_Mt {V : (Nat → Nat → Int32)} {N K R n r : Nat} (hn : 140 < n) (h : Mt V N K R) : Mt (rmD V N n r) N K R := Un_Mt hn (rmC_Mt hn h)
theorem rmF_Mt {V : (Nat → Nat → Int32)} {N K R n r : Nat} (hn : 140 < n) (h : Mt V N K R) : Mt (rmF V N K n r) N K R := Un_Mt hn (bbM_Mt (qtL_Mt _ _ _ (kpM_Mt (rmD_Mt hn h))))
theorem rmH_Mt {V : (Nat → Nat → Int32)} {N K R n r : Nat} (hn : 140 < n) (h : Mt V N K R) : Mt (rmH V N K n r) N K R := Un_Mt hn (bbM_Mt (ieM_Mt (rmF_Mt hn h)))
theorem rmJ_Mt {V : (Nat → Nat → Int32)} {N K R n r : Nat} (hn : 140 < n) (h : Mt V N K R) : Mt (rmJ V N K n r) N K R := Un_Mt hn (dnX_Mt (rmH_Mt hn h))
theorem rmL_Mt {V : (Nat → Nat → Int32)} {N K R n r : Nat} (hn : 140 < n) (h : Mt V N K R) : Mt (rmL V N K n r) N K R := Un_Mt hn (shX_Mt (rmJ_Mt hn h))
/-- the first row, and the whole -/
def da1 (V : (Nat → Nat → Int32)) (N K R n : Nat) : (Nat → Nat → Int32) := jv_U (jv_U (jv_U (jv_U (jv_NV (t0 V) n z0) n 0 (nI N)) n 1 (V 135 864)) n 2 (nI K)) n 3 (nI R)
def da2 (V : (Nat → Nat → Int32)) (N K R n : Nat) : (Nat → Nat → Int32) := jv_U (mdL N K N 0 (da1 V N K R n) none (nI 0)).1 n 4 (oz (mdL N K N 0 (da1 V N K R n) none (nI 0)).2)
def da3 (V : (Nat → Nat → Int32)) (N K R n : Nat) : (Nat → Nat → Int32) := jv_U (pnL N K N 0 (da2 V N K R n) 0).1 n 5 (nI (pnL N K N 0 (da2 V N K R n) 0).2)
def daF (V : (Nat → Nat → Int32)) (N K R n : Nat) : (Nat → Nat → Int32) × Int64 := dmF N K N 0 (n + 1) (da3 V N K R n) (mxL (da3 V N K R n) n 6 0 2287)
def daX (V : (Nat → Nat → Int32)) (N K R n : Nat) : (Nat → Nat → Int32) × Int64 := dmR N K R 0 (n + 1 + N) (daF V N K R n).1 (slL (daF V N K R n).1 K 0 (ssL (daF V N K R n).1 (N - 1) 0 (daF V N K R n).2))
theorem da1_Mt {V : (Nat → Nat → Int32)} {N K R n : Nat} (hn : 140 < n) (h : Mt V N K R) : Mt (da1 V N K R n) N K R := Un_Mt hn (Un_Mt hn (Un_Mt hn (Un_Mt hn (NV_Mt hn (t0_Mt h)))))
theorem da2_Mt {V : (Nat → Nat → Int32)} {N K R n : Nat} (hn : 140 < n) (h : Mt V N K R) : Mt (da2 V N K R n) N K R := Un_Mt hn ((da1_Mt hn h).o (mdL_out (by omega) _ _ _ _ _) (mdL_out (by omega) _ _ _ _ _))
theorem da3_Mt {V : (Nat → Nat → Int32)} {N K R n : Nat} (hn : 140 < n) (h : Mt V N K R) : Mt (da3 V N K R n) N K R := Un_Mt hn ((da2_Mt hn h).o (pnL_out (by omega) _ _ _ _) (pnL_out (by omega) _ _ _ _))

set_option maxHeartbeats 4000000 in
set_option maxRecDepth 100000 in
theorem y_sum6 {sx : Nat → jv_S} {g : jv_G} {X : jv_X} {T : jv_T} {n : Nat} {V : Nat → Nat → Int32} {L : Nat → Nat → Int64} {k z : Nat} {q : Nat} (hq : (SH sx q).1 = 10) (hqn : (SH sx q).2.1 = 6) {v1 : Nat} {v8 v9 : Option Value} : ∀ (m : Nat) (i : Nat) (d : Int64) (v7 : Option Value), i ≤ 6 → 7 ≤ i + m → (∀ v7, jv_J g X I_X5_digest 101 [some (jv_r g 123), some (jv_r g v1), some (.long (mxL V q (6 - i) i d)), none, some (jv_r g q), some (.int (nI 6)), some (.int (nI 6)), v7, v8, v9] [] n (SH sx) V L k z) → jv_J g X I_X5_digest 71 [some (jv_r g 123), some (jv_r g v1), some (.long d), none, some (jv_r g q), some (.int (nI 6)), some (.int (nI i)), v7, v8, v9] [] n (SH sx) V L k z := by
  intro m
  induction m with
  | zero => intro i d v7 hi him kk; omega
  | succ m ih =>
  intro i d v7 hi him kk
  refine j_iload_6 dX5_digest_71 ?_
  refine j_iload_5 dX5_digest_73 ?_
  refine j_ic_geN (by omega) (by omega) (tgt := 101) dX5_digest_75 (by decide) (fun h75 => ?_) (fun h75 => ?_)
  · have ei : i = 6 := by omega
    subst ei
    exact kk _
  · refine j_aload_4 dX5_digest_78 ?_
    refine j_iload_6 dX5_digest_80 ?_
    refine j_iald dX5_digest_82 hq hqn (by omega) (by decide) ?_
    refine j_istore_7 rfl (by decide) dX5_digest_83 ?_
    refine j_lload_n_2 dX5_digest_85 ?_
    refine j_ldc2 (v := 31) dX5_digest_86 (jv_gwm 1242 (by decide +kernel) rfl) ?_
    refine j_lmul dX5_digest_89 ?_
    refine j_iload_7 dX5_digest_90 ?_
    refine j_i2l dX5_digest_92 ?_
    refine j_ladd dX5_digest_93 ?_
    refine j_lstore_n_2 rfl (by decide) dX5_digest_94 ?_
    refine j_inc1_6 rfl (by decide) dX5_digest_95 ?_
    refine j_goto (tgt := 71) dX5_digest_98 (by decide) ?_
    exact ih (i + 1) _ _ (by omega) (by omega) (fun v7 => by have := kk v7; rw [show 6 - i = (6 - (i + 1)) + 1 by omega] at this; exact this)

set_option maxHeartbeats 4000000 in
set_option maxRecDepth 100000 in
theorem y_sum5 {sx : Nat → jv_S} {g : jv_G} {X : jv_X} {T : jv_T} {n : Nat} {V : Nat → Nat → Int32} {L : Nat → Nat → Int64} {k z : Nat} {q : Nat} (hq : (SH sx q).1 = 10) (hqn : (SH sx q).2.1 = 5) {v1 : Nat} {v5 : Option Value} {c : Nat} : ∀ (m : Nat) (i : Nat) (d : Int64) (v9 : Option Value), i ≤ 5 → 6 ≤ i + m → (∀ v9, jv_J g X I_X5_digest 208 [some (jv_r g 123), some (jv_r g v1), some (.long (mxL V q (5 - i) i d)), none, some (.int (nI c)), v5, some (jv_r g q), some (.int (nI 5)), some (.int (nI 5)), v9] [] n (SH sx) V L k z) → jv_J g X I_X5_digest 178 [some (jv_r g 123), some (jv_r g v1), some (.long d), none, some (.int (nI c)), v5, some (jv_r g q), some (.int (nI 5)), some (.int (nI i)), v9] [] n (SH sx) V L k z := by
  intro m
  induction m with
  | zero => intro i d v9 hi him kk; omega
  | succ m ih =>
  intro i d v9 hi him kk
  refine j_iload_8 dX5_digest_178 ?_
  refine j_iload_7 dX5_digest_180 ?_
  refine j_ic_geN (by omega) (by omega) (tgt := 208) dX5_digest_182 (by decide) (fun h182 => ?_) (fun h182 => ?_)
  · have ei : i = 5 := by omega
    subst ei
    exact kk _
  · refine j_aload_6 dX5_digest_185 ?_
    refine j_iload_8 dX5_digest_187 ?_
    refine j_iald dX5_digest_189 hq hqn (by omega) (by decide) ?_
    refine j_istore_9 rfl (by decide) dX5_digest_190 ?_
    refine j_lload_n_2 dX5_digest_192 ?_
    refine j_ldc2 (v := 31) dX5_digest_193 (jv_gwm 1242 (by decide +kernel) rfl) ?_
    refine j_lmul dX5_digest_196 ?_
    refine j_iload_9 dX5_digest_197 ?_
    refine j_i2l dX5_digest_199 ?_
    refine j_ladd dX5_digest_200 ?_
    refine j_lstore_n_2 rfl (by decide) dX5_digest_201 ?_
    refine j_inc1_8 rfl (by decide) dX5_digest_202 ?_
    refine j_goto (tgt := 178) dX5_digest_205 (by decide) ?_
    exact ih (i + 1) _ _ (by omega) (by omega) (fun v9 => by have := kk v9; rw [show 5 - i = (5 - (i + 1)) + 1 by omega] at this; exact this)

set_option maxHeartbeats 4000000 in
set_option maxRecDepth 100000 in
theorem y_sum9 {sx : Nat → jv_S} {g : jv_G} {X : jv_X} {T : jv_T} {n : Nat} {V : Nat → Nat → Int32} {L : Nat → Nat → Int64} {k z : Nat} {q : Nat} (hq : (SH sx q).1 = 10) (hqn : (SH sx q).2.1 = 9) {v1 : Nat} {v5 : Option Value} {c : Nat} : ∀ (m : Nat) (i : Nat) (d : Int64) (v9 : Option Value), i ≤ 9 → 10 ≤ i + m → (∀ v9, jv_J g X I_X5_digest 457 [some (jv_r g 123), some (jv_r g v1), some (.long (mxL V q (9 - i) i d)), none, some (.int (nI c)), v5, some (jv_r g q), some (.int (nI 9)), some (.int (nI 9)), v9] [] n (SH sx) V L k z) → jv_J g X I_X5_digest 427 [some (jv_r g 123), some (jv_r g v1), some (.long d), none, some (.int (nI c)), v5, some (jv_r g q), some (.int (nI 9)), some (.int (nI i)), v9] [] n (SH sx) V L k z := by
  intro m
  induction m with
  | zero => intro i d v9 hi him kk; omega
  | succ m ih =>
  intro i d v9 hi him kk
  refine j_iload_8 dX5_digest_427 ?_
  refine j_iload_7 dX5_digest_429 ?_
  refine j_ic_geN (by omega) (by omega) (tgt := 457) dX5_digest_431 (by decide) (fun h431 => ?_) (fun h431 => ?_)
  · have ei : i = 9 := by omega
    subst ei
    exact kk _
  · refine j_aload_6 dX5_digest_434 ?_
    refine j_iload_8 dX5_digest_436 ?_
    refine j_iald dX5_digest_438 hq hqn (by omega) (by decide) ?_
    refine j_istore_9 rfl (by decide) dX5_digest_439 ?_
    refine j_lload_n_2 dX5_digest_441 ?_
    refine j_ldc2 (v := 31) dX5_digest_442 (jv_gwm 1242 (by decide +kernel) rfl) ?_
    refine j_lmul dX5_digest_445 ?_
    refine j_iload_9 dX5_digest_446 ?_
    refine j_i2l dX5_digest_448 ?_
    refine j_ladd dX5_digest_449 ?_
    refine j_lstore_n_2 rfl (by decide) dX5_digest_450 ?_
    refine j_inc1_8 rfl (by decide) dX5_digest_451 ?_
    refine j_goto (tgt := 427) dX5_digest_454 (by decide) ?_
    exact ih (i + 1) _ _ (by omega) (by omega) (fun v9 => by have := kk v9; rw [show 9 - i = (9 - (i + 1)) + 1 by omega] at this; exact this)

set_option maxHeartbeats 4000000 in
set_option maxRecDepth 100000 in
theorem y_wm {sx : Nat → jv_S} {g : jv_G} {X : jv_X} {T : jv_T} {n : Nat} {V : Nat → Nat → Int32} {L : Nat → Nat → Int64} {k z : Nat} {N K R : Nat} (hC : Mt V N K R) {r : Nat} (hr : r < 8) {v1 v5 : Nat} {v8 v9 : Option Value} : ∀ (m : Nat) (i : Nat) (d : Int64) (v7 : Option Value), i ≤ N → N + 1 ≤ i + m → (∀ v7, jv_J g X I_X5_digest 554 [some (jv_r g 123), some (jv_r g v1), some (.long (wmL V r (N - i) i d)), none, some (.int (nI r)), some (jv_r g v5), some (.int (nI N)), v7, v8, v9] [] n (SH sx) V L k z) → jv_J g X I_X5_digest 460 [some (jv_r g 123), some (jv_r g v1), some (.long d), none, some (.int (nI r)), some (jv_r g v5), some (.int (nI i)), v7, v8, v9] [] n (SH sx) V L k z := by
  intro m
  induction m with
  | zero => intro i d v7 hi him kk; omega
  | succ m ih =>
  intro i d v7 hi him kk
  obtain ⟨hN, hK, hR, hN2, hb, hK4, hR8, hEv⟩ := id hC
  refine j_iload_6 dX5_digest_460 ?_
  refine j_aload_n_0 dX5_digest_462 ?_
  refine G_X5_67 rfl dX5_digest_463 sk_123 ?_
  refine j_top (y := nI N) hN ?_
  refine j_ic_geN (by omega) (by omega) (tgt := 554) dX5_digest_466 (by decide) (fun h466 => ?_) (fun h466 => ?_)
  · have ei : i = N := by omega
    subst ei
    have := kk v7
    rw [show i - i = 0 by omega] at this
    exact this
  · refine j_bipush (v := nI 12) dX5_digest_469 nc_bipush_12 ?_
    refine j_iload_4 dX5_digest_471 ?_
    refine j_imulN dX5_digest_473 ?_
    refine j_iload_6 dX5_digest_474 ?_
    refine j_iaddN dX5_digest_476 ?_
    refine j_istore_7 rfl (by decide) dX5_digest_477 ?_
    refine j_lload_n_2 dX5_digest_479 ?_
    refine j_ldc2 (v := 31) dX5_digest_480 (jv_gwm 1242 (by decide +kernel) rfl) ?_
    refine j_lmul dX5_digest_483 ?_
    refine j_aload_n_0 dX5_digest_484 ?_
    refine G_X5_44 rfl dX5_digest_485 sk_123 sr_123_15 ?_
    refine j_iconst (v := nI 0) dX5_digest_488 nc_iconst_0 ?_
    refine j_iload_7 dX5_digest_489 ?_
    refine j_iaddN dX5_digest_491 ?_
    refine j_iald dX5_digest_492 sk_135 sn_135 (by omega) (by decide) ?_
    refine j_i2l dX5_digest_493 ?_
    refine j_ladd dX5_digest_494 ?_
    refine j_ldc2 (v := 31) dX5_digest_495 (jv_gwm 1242 (by decide +kernel) rfl) ?_
    refine j_lmul dX5_digest_498 ?_
    refine j_aload_n_0 dX5_digest_499 ?_
    refine G_X5_44 rfl dX5_digest_500 sk_123 sr_123_15 ?_
    refine j_bipush (v := nI 96) dX5_digest_503 nc_bipush_96 ?_
    refine j_iload_7 dX5_digest_505 ?_
    refine j_iaddN dX5_digest_507 ?_
    refine j_iald dX5_digest_508 sk_135 sn_135 (by omega) (by decide) ?_
    refine j_i2l dX5_digest_509 ?_
    refine j_ladd dX5_digest_510 ?_
    refine j_ldc2 (v := 31) dX5_digest_511 (jv_gwm 1242 (by decide +kernel) rfl) ?_
    refine j_lmul dX5_digest_514 ?_
    refine j_aload_n_0 dX5_digest_515 ?_
    refine G_X5_44 rfl dX5_digest_516 sk_123 sr_123_15 ?_
    refine j_sipush (v := nI 288) dX5_digest_519 nc_sipush_288 ?_
    refine j_iload_7 dX5_digest_522 ?_
    refine j_iaddN dX5_digest_524 ?_
    refine j_iald dX5_digest_525 sk_135 sn_135 (by omega) (by decide) ?_
    refine j_i2l dX5_digest_526 ?_
    refine j_ladd dX5_digest_527 ?_
    refine j_lstore_n_2 rfl (by decide) dX5_digest_528 ?_
    refine j_lload_n_2 dX5_digest_529 ?_
    refine j_ldc2 (v := 31) dX5_digest_530 (jv_gwm 1242 (by decide +kernel) rfl) ?_
    refine j_lmul dX5_digest_533 ?_
    refine j_aload_n_0 dX5_digest_534 ?_
    refine G_X5_44 rfl dX5_digest_535 sk_123 sr_123_15 ?_
    refine j_sipush (v := nI 192) dX5_digest_538 nc_sipush_192 ?_
    refine j_iload_7 dX5_digest_541 ?_
    refine j_iaddN dX5_digest_543 ?_
    refine j_iald dX5_digest_544 sk_135 sn_135 (by omega) (by decide) ?_
    refine j_i2l dX5_digest_545 ?_
    refine j_ladd dX5_digest_546 ?_
    refine j_lstore_n_2 rfl (by decide) dX5_digest_547 ?_
    refine j_inc1_6 rfl (by decide) dX5_digest_548 ?_
    refine j_goto (tgt := 460) dX5_digest_551 (by decide) ?_
    exact ih (i + 1) _ _ (by omega) (by omega) (fun v7 => by have := kk v7; rw [show N - i = (N - (i + 1)) + 1 by omega] at this; exact this)

set_option maxHeartbeats 4000000 in
set_option maxRecDepth 100000 in
theorem y_dgR {g : jv_G} {X : jv_X} {T : jv_T} {L : Nat → Nat → Int64} {N K R : Nat} (hM : jv_M g X T) : ∀ (m : Nat) (i n : Nat) (sx : Nat → jv_S) (V : (Nat → Nat → Int32)) (d : Int64) (v1 : Nat) (v5 v6 v7 v8 v9 : Option Value) (k z : Nat), Mt V N K R → i ≤ R → R + 1 ≤ i + m → R - i ≤ k → 9 * (R - i) ≤ z → (∀ n' sx', T (.inl (some (.long ((dmR N K (R - i) i n V d).2)))) n' (SH sx') ((dmR N K (R - i) i n V d).1) L) → jv_J g X I_X5_digest 314 [some (jv_r g 123), some (jv_r g v1), some (.long d), none, some (.int (nI i)), v5, v6, v7, v8, v9] [] n (SH sx) V L k z := by
  intro m
  induction m with
  | zero => intro i n sx V d v1 v5 v6 v7 v8 v9 k z hC hi him hk hz hT; omega
  | succ m ih =>
  intro i n sx V d v1 v5 v6 v7 v8 v9 k z hC hi him hk hz hT
  obtain ⟨hN, hK, hR, hN2, hb, hK4, hR8, hEv⟩ := id hC
  refine j_iload_4 dX5_digest_314 ?_
  refine j_aload_n_0 dX5_digest_316 ?_
  refine G_X5_77 rfl dX5_digest_317 sk_123 ?_
  refine j_top (y := nI R) hR ?_
  refine j_ic_geN (by omega) (by omega) (tgt := 560) dX5_digest_320 (by decide) (fun h320 => ?_) (fun h320 => ?_)
  · refine j_lload_n_2 dX5_digest_560 ?_
    exact j_lret hM dX5_digest_561 rfl (by rw [show R - i = 0 by omega] at hT; exact hT _ _)
  · refine j_bipush (v := nI 9) dX5_digest_323 nc_bipush_9 ?_
    refine j_n (fun hn => ?_)
    refine jv_newI (k2 := k - 1) (z2 := z - 9) (jv_gwm 109 (by decide +kernel) rfl) dX5_digest_325 (by omega) (by omega) (by omega) ?_
    rw [SH_NS hn]
    refine j_dup rfl dX5_digest_327 ?_
    refine j_iconst (v := nI 0) dX5_digest_328 nc_iconst_0 ?_
    refine j_aload_n_0 dX5_digest_329 ?_
    refine G_X5_38 rfl dX5_digest_330 sk_123 sr_123_13 ?_
    refine j_iload_4 dX5_digest_333 ?_
    refine j_iald dX5_digest_335 sk_133 sn_133 (by omega) (by decide) ?_
    refine j_top (y := V 133 i) (by rw [NV_o (by omega)]) ?_
    refine j_iast dX5_digest_336 (SH_nk hn) (SH_nn hn) (by omega) (by decide) ?_
    refine j_dup rfl dX5_digest_337 ?_
    refine j_iconst (v := nI 1) dX5_digest_338 nc_iconst_1 ?_
    refine j_aload_n_0 dX5_digest_339 ?_
    refine G_X5_41 rfl dX5_digest_340 sk_123 sr_123_14 ?_
    refine j_iload_4 dX5_digest_343 ?_
    refine j_iald dX5_digest_345 sk_134 sn_134 (by omega) (by decide) ?_
    refine j_top (y := V 134 i) (by rw [jv_Une (by omega), NV_o (by omega)]) ?_
    refine j_iast dX5_digest_346 (SH_nk hn) (SH_nn hn) (by omega) (by decide) ?_
    refine j_dup rfl dX5_digest_347 ?_
    refine j_iconst (v := nI 2) dX5_digest_348 nc_iconst_2 ?_
    refine j_aload_n_0 dX5_digest_349 ?_
    refine j_iload_4 dX5_digest_350 ?_
    refine C_X5_190 rfl (by decide) dX5_digest_352 sk_123 (Nat.le_of_ble_eq_true rfl) (Nat.le_of_eq (Nat.zero_add _)) (Nat.le_of_eq (Nat.zero_add _)) (fun _ _ hM' hT' => y_believing (rmA_Mt hn hC) (by omega) hM' hT') ?_
    refine j_iast dX5_digest_355 (SH_nk hn) (SH_nn hn) (by omega) (by decide) ?_
    refine j_dup rfl dX5_digest_356 ?_
    refine j_iconst (v := nI 3) dX5_digest_357 nc_iconst_3 ?_
    refine j_aload_n_0 dX5_digest_358 ?_
    refine j_iload_4 dX5_digest_359 ?_
    refine C_X5_136 rfl (by decide) dX5_digest_361 sk_123 (Nat.le_of_ble_eq_true rfl) (Nat.le_of_eq (Nat.zero_add _)) (Nat.le_of_eq (Nat.zero_add _)) (fun _ _ hM' hT' => y_heardOf (rmB_Mt hn hC) (by omega) hM' hT') ?_
    refine j_iast dX5_digest_364 (SH_nk hn) (SH_nn hn) (by omega) (by decide) ?_
    refine j_dup rfl dX5_digest_365 ?_
    refine j_iconst (v := nI 4) dX5_digest_366 nc_iconst_4 ?_
    refine j_aload_n_0 dX5_digest_367 ?_
    refine j_iload_4 dX5_digest_368 ?_
    refine C_X5_193 rfl (by decide) dX5_digest_370 sk_123 (Nat.le_of_ble_eq_true rfl) (Nat.le_of_eq (Nat.zero_add _)) (Nat.le_of_eq (Nat.zero_add _)) (fun _ _ hM' hT' => y_onWay (rmC_Mt hn hC) (by omega) hM' hT') ?_
    refine j_iast dX5_digest_373 (SH_nk hn) (SH_nn hn) (by omega) (by decide) ?_
    refine j_dup rfl dX5_digest_374 ?_
    refine j_iconst (v := nI 5) dX5_digest_375 nc_iconst_5 ?_
    refine j_aload_n_0 dX5_digest_376 ?_
    refine j_iload_4 dX5_digest_377 ?_
    refine C_X5_227 rfl (by decide) dX5_digest_379 sk_123 (Nat.le_of_ble_eq_true rfl) (Nat.le_of_eq (Nat.zero_add _)) (Nat.le_of_eq (Nat.zero_add _)) (fun _ _ hM' hT' => y_quiet (rmD_Mt hn hC) (by omega) hM' hT') ?_
    refine j_iast dX5_digest_382 (SH_nk hn) (SH_nn hn) (by omega) (by decide) ?_
    refine j_dup rfl dX5_digest_383 ?_
    refine j_bipush (v := nI 6) dX5_digest_384 nc_bipush_6 ?_
    refine j_aload_n_0 dX5_digest_386 ?_
    refine j_iload_4 dX5_digest_387 ?_
    refine C_X5_221 rfl (by decide) dX5_digest_389 sk_123 (Nat.le_of_ble_eq_true rfl) (Nat.le_of_eq (Nat.zero_add _)) (Nat.le_of_eq (Nat.zero_add _)) (fun _ _ hM' hT' => y_inTheEnd (rmF_Mt hn hC) (by omega) hM' hT') ?_
    refine j_iast dX5_digest_392 (SH_nk hn) (SH_nn hn) (by omega) (by decide) ?_
    refine j_dup rfl dX5_digest_393 ?_
    refine j_bipush (v := nI 7) dX5_digest_394 nc_bipush_7 ?_
    refine j_aload_n_0 dX5_digest_396 ?_
    refine j_iload_4 dX5_digest_397 ?_
    refine C_X5_233 rfl (by decide) dX5_digest_399 sk_123 (Nat.le_of_ble_eq_true rfl) (Nat.le_of_eq (Nat.zero_add _)) (Nat.le_of_eq (Nat.zero_add _)) (fun _ _ hM' hT' => y_denial (rmH_Mt hn hC) (by omega) hM' hT') ?_
    refine j_iast dX5_digest_402 (SH_nk hn) (SH_nn hn) (by omega) (by decide) ?_
    refine j_dup rfl dX5_digest_403 ?_
    refine j_bipush (v := nI 8) dX5_digest_404 nc_bipush_8 ?_
    refine j_aload_n_0 dX5_digest_406 ?_
    refine j_iload_4 dX5_digest_407 ?_
    refine C_X5_236 rfl (by decide) dX5_digest_409 sk_123 (Nat.le_of_ble_eq_true rfl) (Nat.le_of_eq (Nat.zero_add _)) (Nat.le_of_eq (Nat.zero_add _)) (fun _ _ hM' hT' => y_toShut (rmJ_Mt hn hC) (by omega) hM' hT') ?_
    refine j_iast dX5_digest_412 (SH_nk hn) (SH_nn hn) (by omega) (by decide) ?_
    refine j_astore_5 rfl (by decide) dX5_digest_413 ?_
    refine j_aload_5 dX5_digest_415 ?_
    refine j_astore_6 rfl (by decide) dX5_digest_417 ?_
    refine j_aload_6 dX5_digest_419 ?_
    refine j_alen dX5_digest_421 (SH_nk hn) (SH_nn hn) ?_
    refine j_istore_7 rfl (by decide) dX5_digest_422 ?_
    refine j_iconst (v := nI 0) dX5_digest_424 nc_iconst_0 ?_
    refine j_istore_8 rfl (by decide) dX5_digest_425 ?_
    refine y_sum9 (T := T) (SH_nk hn) (SH_nn hn) 10 0 _ _ (by omega) (by omega) ?_
    intro v9'
    refine j_iconst (v := nI 0) dX5_digest_457 nc_iconst_0 ?_
    refine j_istore_6 rfl (by decide) dX5_digest_458 ?_
    refine y_wm (T := T) (rmL_Mt hn hC) (by omega) (N + 1) 0 _ _ (by omega) (by omega) ?_
    intro v7'
    refine j_inc1_4 rfl (by decide) dX5_digest_554 ?_
    refine j_goto (tgt := 314) dX5_digest_557 (by decide) ?_
    refine ih (i + 1) (n + 1) _ _ _ _ _ _ _ _ _ _ _ (rmL_Mt hn hC) (by omega) (by omega) (by omega) (by omega) ?_
    intro n' sx'
    rw [show R - i = (R - (i + 1)) + 1 by omega] at hT
    exact hT n' sx'

set_option maxHeartbeats 4000000 in
set_option maxRecDepth 100000 in
theorem y_dgL {g : jv_G} {X : jv_X} {T : jv_T} {L : Nat → Nat → Int64} {sx : Nat → jv_S} {n k z : Nat} {V : (Nat → Nat → Int32)} {N K R : Nat} (hC : Mt V N K R) {v1 : Nat} {v5 v6 v7 v8 v9 : Option Value} (hk : R ≤ k) (hz : 9 * R ≤ z) (hM : jv_M g X T) : ∀ (m : Nat) (i : Nat) (d : Int64), i ≤ K → K + 1 ≤ i + m → (∀ n' sx', T (.inl (some (.long ((dmR N K R 0 n V (slL V (K - i) i d)).2)))) n' (SH sx') ((dmR N K R 0 n V (slL V (K - i) i d)).1) L) → jv_J g X I_X5_digest 273 [some (jv_r g 123), some (jv_r g v1), some (.long d), none, some (.int (nI i)), v5, v6, v7, v8, v9] [] n (SH sx) V L k z := by
  intro m
  induction m with
  | zero => intro i d hi him hT; omega
  | succ m ih =>
  intro i d hi him hT
  obtain ⟨hN, hK, hR, hN2, hb, hK4, hR8, hEv⟩ := id hC
  refine j_iload_4 dX5_digest_273 ?_
  refine j_aload_n_0 dX5_digest_275 ?_
  refine G_X5_74 rfl dX5_digest_276 sk_123 ?_
  refine j_top (y := nI K) hK ?_
  refine j_ic_geN (by omega) (by omega) (tgt := 311) dX5_digest_279 (by decide) (fun h279 => ?_) (fun h279 => ?_)
  · refine j_iconst (v := nI 0) dX5_digest_311 nc_iconst_0 ?_
    refine j_istore_4 rfl (by decide) dX5_digest_312 ?_
    exact y_dgR hM (R + 1) 0 n sx V _ _ _ _ _ _ _ k z hC (by omega) (by omega) (by omega) (by omega) (by rw [show K - i = 0 by omega] at hT; exact hT)
  · refine j_lload_n_2 dX5_digest_282 ?_
    refine j_ldc2 (v := 31) dX5_digest_283 (jv_gwm 1242 (by decide +kernel) rfl) ?_
    refine j_lmul dX5_digest_286 ?_
    refine j_aload_n_0 dX5_digest_287 ?_
    refine G_X5_35 rfl dX5_digest_288 sk_123 sr_123_12 ?_
    refine j_iload_4 dX5_digest_291 ?_
    refine j_bald dX5_digest_293 sk_132 sn_132 (by omega) (by decide) ?_
    refine j_if_eq (tgt := 301) dX5_digest_294 (by decide) (fun h294 => ?_) (fun h294 => ?_)
    · refine j_iconst (v := nI 0) dX5_digest_301 nc_iconst_0 ?_
      refine j_top (y := bo (V 132 i)) (by unfold bo; rw [if_pos h294]) ?_
      refine j_i2l dX5_digest_302 ?_
      refine j_ladd dX5_digest_303 ?_
      refine j_lstore_n_2 rfl (by decide) dX5_digest_304 ?_
      refine j_inc1_4 rfl (by decide) dX5_digest_305 ?_
      refine j_goto (tgt := 273) dX5_digest_308 (by decide) ?_
      refine ih (i + 1) _ (by omega) (by omega) ?_
      rw [show K - i = (K - (i + 1)) + 1 by omega] at hT
      exact hT
    · refine j_iconst (v := nI 1) dX5_digest_297 nc_iconst_1 ?_
      refine j_top (y := bo (V 132 i)) (by unfold bo; rw [if_neg h294]) ?_
      refine j_goto (tgt := 302) dX5_digest_298 (by decide) ?_
      refine j_i2l dX5_digest_302 ?_
      refine j_ladd dX5_digest_303 ?_
      refine j_lstore_n_2 rfl (by decide) dX5_digest_304 ?_
      refine j_inc1_4 rfl (by decide) dX5_digest_305 ?_
      refine j_goto (tgt := 273) dX5_digest_308 (by decide) ?_
      refine ih (i + 1) _ (by omega) (by omega) ?_
      rw [show K - i = (K - (i + 1)) + 1 by omega] at hT
      exact hT

set_option maxHeartbeats 4000000 in
set_option maxRecDepth 100000 in
theorem y_dgS {g : jv_G} {X : jv_X} {T : jv_T} {L : Nat → Nat → Int64} {sx : Nat → jv_S} {n k z : Nat} {V : (Nat → Nat → Int32)} {N K R : Nat} (hC : Mt V N K R) {v1 : Nat} {v5 v6 v7 v8 v9 : Option Value} (hk : R ≤ k) (hz : 9 * R ≤ z) (hM : jv_M g X T) : ∀ (m : Nat) (i : Nat) (d : Int64), i ≤ N - 1 → N + 1 ≤ i + m → (∀ n' sx', T (.inl (some (.long ((dmR N K R 0 n V (slL V K 0 (ssL V (N - 1 - i) i d))).2)))) n' (SH sx') ((dmR N K R 0 n V (slL V K 0 (ssL V (N - 1 - i) i d))).1) L) → jv_J g X I_X5_digest 217 [some (jv_r g 123), some (jv_r g v1), some (.long d), none, some (.int (nI i)), v5, v6, v7, v8, v9] [] n (SH sx) V L k z := by
  intro m
  induction m with
  | zero => intro i d hi him hT; omega
  | succ m ih =>
  intro i d hi him hT
  obtain ⟨hN, hK, hR, hN2, hb, hK4, hR8, hEv⟩ := id hC
  refine j_iload_4 dX5_digest_217 ?_
  refine j_aload_n_0 dX5_digest_219 ?_
  refine G_X5_67 rfl dX5_digest_220 sk_123 ?_
  refine j_top (y := nI N) hN ?_
  refine j_iconst (v := nI 1) dX5_digest_223 nc_iconst_1 ?_
  refine j_isubN (by omega) dX5_digest_224 ?_
  refine j_ic_geN (by omega) (by omega) (tgt := 270) dX5_digest_225 (by decide) (fun h225 => ?_) (fun h225 => ?_)
  · refine j_iconst (v := nI 0) dX5_digest_270 nc_iconst_0 ?_
    refine j_istore_4 rfl (by decide) dX5_digest_271 ?_
    exact y_dgL hC hk hz hM (K + 1) 0 _ (by omega) (by omega) (by rw [show N - 1 - i = 0 by omega] at hT; exact hT)
  · refine j_lload_n_2 dX5_digest_228 ?_
    refine j_ldc2 (v := 31) dX5_digest_229 (jv_gwm 1242 (by decide +kernel) rfl) ?_
    refine j_lmul dX5_digest_232 ?_
    refine j_aload_n_0 dX5_digest_233 ?_
    refine G_X5_16 rfl dX5_digest_234 sk_123 sr_123_6 ?_
    refine j_iload_4 dX5_digest_237 ?_
    refine j_iald dX5_digest_239 sk_126 sn_126 (by omega) (by decide) ?_
    refine j_i2l dX5_digest_240 ?_
    refine j_ladd dX5_digest_241 ?_
    refine j_ldc2 (v := 31) dX5_digest_242 (jv_gwm 1242 (by decide +kernel) rfl) ?_
    refine j_lmul dX5_digest_245 ?_
    refine j_aload_n_0 dX5_digest_246 ?_
    refine G_X5_19 rfl dX5_digest_247 sk_123 sr_123_7 ?_
    refine j_iload_4 dX5_digest_250 ?_
    refine j_bald dX5_digest_252 sk_127 sn_127 (by omega) (by decide) ?_
    refine j_if_eq (tgt := 260) dX5_digest_253 (by decide) (fun h253 => ?_) (fun h253 => ?_)
    · refine j_iconst (v := nI 0) dX5_digest_260 nc_iconst_0 ?_
      refine j_top (y := bo (V 127 i)) (by unfold bo; rw [if_pos h253]) ?_
      refine j_i2l dX5_digest_261 ?_
      refine j_ladd dX5_digest_262 ?_
      refine j_lstore_n_2 rfl (by decide) dX5_digest_263 ?_
      refine j_inc1_4 rfl (by decide) dX5_digest_264 ?_
      refine j_goto (tgt := 217) dX5_digest_267 (by decide) ?_
      refine ih (i + 1) _ (by omega) (by omega) ?_
      rw [show N - 1 - i = (N - 1 - (i + 1)) + 1 by omega] at hT
      exact hT
    · refine j_iconst (v := nI 1) dX5_digest_256 nc_iconst_1 ?_
      refine j_top (y := bo (V 127 i)) (by unfold bo; rw [if_neg h253]) ?_
      refine j_goto (tgt := 261) dX5_digest_257 (by decide) ?_
      refine j_i2l dX5_digest_261 ?_
      refine j_ladd dX5_digest_262 ?_
      refine j_lstore_n_2 rfl (by decide) dX5_digest_263 ?_
      refine j_inc1_4 rfl (by decide) dX5_digest_264 ?_
      refine j_goto (tgt := 217) dX5_digest_267 (by decide) ?_
      refine ih (i + 1) _ (by omega) (by omega) ?_
      rw [show N - 1 - i = (N - 1 - (i + 1)) + 1 by omega] at hT
      exact hT

set_option maxHeartbeats 4000000 in
set_option maxRecDepth 100000 in
theorem y_dgF {g : jv_G} {X : jv_X} {T : jv_T} {L : Nat → Nat → Int64} {N K R : Nat} (hM : jv_M g X T) : ∀ (m : Nat) (i n : Nat) (sx : Nat → jv_S) (V : (Nat → Nat → Int32)) (d : Int64) (v1 : Nat) (v5 v6 v7 v8 v9 : Option Value) (k z : Nat), Mt V N K R → i ≤ N → N + 1 ≤ i + m → N - i + R ≤ k → 5 * (N - i) + 9 * R ≤ z → (∀ n' sx', T (.inl (some (.long ((dmR N K R 0 (n + (N - i)) (dmF N K (N - i) i n V d).1 (slL (dmF N K (N - i) i n V d).1 K 0 (ssL (dmF N K (N - i) i n V d).1 (N - 1) 0 (dmF N K (N - i) i n V d).2))).2)))) n' (SH sx') ((dmR N K R 0 (n + (N - i)) (dmF N K (N - i) i n V d).1 (slL (dmF N K (N - i) i n V d).1 K 0 (ssL (dmF N K (N - i) i n V d).1 (N - 1) 0 (dmF N K (N - i) i n V d).2))).1) L) → jv_J g X I_X5_digest 104 [some (jv_r g 123), some (jv_r g v1), some (.long d), none, some (.int (nI i)), v5, v6, v7, v8, v9] [] n (SH sx) V L k z := by
  intro m
  induction m with
  | zero => intro i n sx V d v1 v5 v6 v7 v8 v9 k z hC hi him hk hz hT; omega
  | succ m ih =>
  intro i n sx V d v1 v5 v6 v7 v8 v9 k z hC hi him hk hz hT
  obtain ⟨hN, hK, hR, hN2, hb, hK4, hR8, hEv⟩ := id hC
  refine j_iload_4 dX5_digest_104 ?_
  refine j_aload_n_0 dX5_digest_106 ?_
  refine G_X5_67 rfl dX5_digest_107 sk_123 ?_
  refine j_top (y := nI N) hN ?_
  refine j_ic_geN (by omega) (by omega) (tgt := 214) dX5_digest_110 (by decide) (fun h110 => ?_) (fun h110 => ?_)
  · refine j_iconst (v := nI 0) dX5_digest_214 nc_iconst_0 ?_
    refine j_istore_4 rfl (by decide) dX5_digest_215 ?_
    exact y_dgS hC (by omega) (by omega) hM (N + 1) 0 _ (by omega) (by omega) (by rw [show N - i = 0 by omega] at hT; exact hT)
  · refine j_iconst (v := nI 5) dX5_digest_113 nc_iconst_5 ?_
    refine j_n (fun hn => ?_)
    refine jv_newI (k2 := k - 1) (z2 := z - 5) (jv_gwm 109 (by decide +kernel) rfl) dX5_digest_114 (by omega) (by omega) (by omega) ?_
    rw [SH_NS hn]
    refine j_dup rfl dX5_digest_116 ?_
    refine j_iconst (v := nI 0) dX5_digest_117 nc_iconst_0 ?_
    refine j_aload_n_0 dX5_digest_118 ?_
    refine G_X5_9 rfl dX5_digest_119 sk_123 sr_123_4 ?_
    refine j_iload_4 dX5_digest_122 ?_
    refine j_iald dX5_digest_124 sk_124 sn_124 (by omega) (by decide) ?_
    refine j_top (y := V 124 i) (by rw [NV_o (by omega)]) ?_
    refine j_iast dX5_digest_125 (SH_nk hn) (SH_nn hn) (by omega) (by decide) ?_
    refine j_dup rfl dX5_digest_126 ?_
    refine j_iconst (v := nI 1) dX5_digest_127 nc_iconst_1 ?_
    refine j_aload_n_0 dX5_digest_128 ?_
    refine G_X5_13 rfl dX5_digest_129 sk_123 sr_123_5 ?_
    refine j_iload_4 dX5_digest_132 ?_
    refine j_iald dX5_digest_134 sk_125 sn_125 (by omega) (by decide) ?_
    refine j_top (y := V 125 i) (by rw [jv_Une (by omega), NV_o (by omega)]) ?_
    refine j_iast dX5_digest_135 (SH_nk hn) (SH_nn hn) (by omega) (by decide) ?_
    refine j_dup rfl dX5_digest_136 ?_
    refine j_iconst (v := nI 2) dX5_digest_137 nc_iconst_2 ?_
    refine j_aload_n_0 dX5_digest_138 ?_
    refine j_iload_4 dX5_digest_139 ?_
    refine C_X5_183 rfl (by decide) dX5_digest_141 sk_123 (Nat.le_of_ble_eq_true rfl) (Nat.le_of_eq (Nat.zero_add _)) (Nat.le_of_eq (Nat.zero_add _)) (fun _ _ hM' hT' => y_around (fmA_Mt hn hC) (by omega) hM' hT') ?_
    refine j_iast dX5_digest_144 (SH_nk hn) (SH_nn hn) (by omega) (by decide) ?_
    refine j_dup rfl dX5_digest_145 ?_
    refine j_iconst (v := nI 3) dX5_digest_146 nc_iconst_3 ?_
    refine j_aload_n_0 dX5_digest_147 ?_
    refine j_iload_4 dX5_digest_148 ?_
    refine C_X5_108 rfl (by decide) dX5_digest_150 sk_123 (Nat.le_of_ble_eq_true rfl) (Nat.le_of_eq (Nat.zero_add _)) (Nat.le_of_eq (Nat.zero_add _)) (fun _ _ hM' hT' => y_farthest (fmB_Mt hn hC) (by omega) hM' hT') ?_
    refine j_iast dX5_digest_153 (SH_nk hn) (SH_nn hn) (by omega) (by decide) ?_
    refine j_dup rfl dX5_digest_154 ?_
    refine j_iconst (v := nI 4) dX5_digest_155 nc_iconst_4 ?_
    refine j_aload_n_0 dX5_digest_156 ?_
    refine j_iconst (v := nI 0) dX5_digest_157 nc_iconst_0 ?_
    refine j_iload_4 dX5_digest_158 ?_
    refine C_X5_196 rfl (by decide) dX5_digest_160 sk_123 (Nat.le_of_ble_eq_true rfl) (Nat.le_of_eq (Nat.zero_add _)) (Nat.le_of_eq (Nat.zero_add _)) (fun _ _ hM' hT' => y_way (fmD_Mt hn hC) (by omega) (by omega) hM' hT') ?_
    refine j_iast dX5_digest_163 (SH_nk hn) (SH_nn hn) (by omega) (by decide) ?_
    refine j_astore_5 rfl (by decide) dX5_digest_164 ?_
    refine j_aload_5 dX5_digest_166 ?_
    refine j_astore_6 rfl (by decide) dX5_digest_168 ?_
    refine j_aload_6 dX5_digest_170 ?_
    refine j_alen dX5_digest_172 (SH_nk hn) (SH_nn hn) ?_
    refine j_istore_7 rfl (by decide) dX5_digest_173 ?_
    refine j_iconst (v := nI 0) dX5_digest_175 nc_iconst_0 ?_
    refine j_istore_8 rfl (by decide) dX5_digest_176 ?_
    refine y_sum5 (T := T) (SH_nk hn) (SH_nn hn) 6 0 _ _ (by omega) (by omega) ?_
    intro v9'
    refine j_inc1_4 rfl (by decide) dX5_digest_208 ?_
    refine j_goto (tgt := 104) dX5_digest_211 (by decide) ?_
    refine ih (i + 1) (n + 1) _ _ _ _ _ _ _ _ _ _ _ (fmF_Mt hn hC) (by omega) (by omega) (by omega) (by omega) ?_
    intro n' sx'
    rw [show n + (N - i) = n + 1 + (N - (i + 1)) by omega, show N - i = (N - (i + 1)) + 1 by omega] at hT
    exact hT n' sx'

set_option maxHeartbeats 4000000 in
set_option maxRecDepth 100000 in
theorem m_digest {sx : Nat → jv_S} {g : jv_G} {X : jv_X} {T : jv_T} {n : Nat} {V : Nat → Nat → Int32} {L : Nat → Nat → Int64} {k z : Nat} {N K R : Nat} (hC : Mt V N K R) (hk : 21 ≤ k) (hz : 138 ≤ z) (hM : jv_M g X T) (hT : ∀ n' sx' n, 140 < n → T (.inl (some (.long (daX V N K R n).2))) n' (SH sx') (daX V N K R n).1 L) : jv_J g X I_X5_digest 0 [some (jv_r g 123), none, none, none, none, none, none, none, none, none] [] n (SH sx) V L k z := by
  obtain ⟨hN, hK, hR, hN2, hb, hK4, hR8, hEv⟩ := id hC
  obtain ⟨hN', hK', hR', -⟩ := t0_Mt hC
  refine j_aload_n_0 dX5_digest_0 ?_
  refine j_iconst (v := nI 0) dX5_digest_1 nc_iconst_0 ?_
  refine P_X5_63 rfl dX5_digest_2 sk_123 ?_
  refine j_bipush (v := nI 6) dX5_digest_5 nc_bipush_6 ?_
  refine j_n (fun hn => ?_)
  refine jv_newI (k2 := k - 1) (z2 := z - 6) (jv_gwm 109 (by decide +kernel) rfl) dX5_digest_7 (by omega) (by omega) (by omega) ?_
  rw [SH_NS hn]
  refine j_dup rfl dX5_digest_9 ?_
  refine j_iconst (v := nI 0) dX5_digest_10 nc_iconst_0 ?_
  refine j_aload_n_0 dX5_digest_11 ?_
  refine G_X5_67 rfl dX5_digest_12 sk_123 ?_
  refine j_top (y := nI N) (by rw [NV_o (by omega)]; exact hN') ?_
  refine j_iast dX5_digest_15 (SH_nk hn) (SH_nn hn) (by omega) (by decide) ?_
  refine j_dup rfl dX5_digest_16 ?_
  refine j_iconst (v := nI 1) dX5_digest_17 nc_iconst_1 ?_
  refine j_aload_n_0 dX5_digest_18 ?_
  refine G_X5_44 rfl dX5_digest_19 sk_123 sr_123_15 ?_
  refine j_sipush (v := nI 864) dX5_digest_22 nc_sipush_864 ?_
  refine j_iald dX5_digest_25 sk_135 sn_135 (by omega) (by decide) ?_
  refine j_top (y := V 135 864) (by rw [jv_Une (by omega), NV_o (by omega), jv_Une (by omega)]) ?_
  refine j_iast dX5_digest_26 (SH_nk hn) (SH_nn hn) (by omega) (by decide) ?_
  refine j_dup rfl dX5_digest_27 ?_
  refine j_iconst (v := nI 2) dX5_digest_28 nc_iconst_2 ?_
  refine j_aload_n_0 dX5_digest_29 ?_
  refine G_X5_74 rfl dX5_digest_30 sk_123 ?_
  refine j_top (y := nI K) (by rw [jv_Une (by omega), jv_Une (by omega), NV_o (by omega)]; exact hK') ?_
  refine j_iast dX5_digest_33 (SH_nk hn) (SH_nn hn) (by omega) (by decide) ?_
  refine j_dup rfl dX5_digest_34 ?_
  refine j_iconst (v := nI 3) dX5_digest_35 nc_iconst_3 ?_
  refine j_aload_n_0 dX5_digest_36 ?_
  refine G_X5_77 rfl dX5_digest_37 sk_123 ?_
  refine j_top (y := nI R) (by rw [jv_Une (by omega), jv_Une (by omega), jv_Une (by omega), NV_o (by omega)]; exact hR') ?_
  refine j_iast dX5_digest_40 (SH_nk hn) (SH_nn hn) (by omega) (by decide) ?_
  refine j_dup rfl dX5_digest_41 ?_
  refine j_iconst (v := nI 4) dX5_digest_42 nc_iconst_4 ?_
  refine j_aload_n_0 dX5_digest_43 ?_
  refine C_X5_199 rfl (by decide) dX5_digest_44 sk_123 (Nat.le_of_ble_eq_true rfl) (Nat.le_of_eq (Nat.zero_add _)) (Nat.le_of_eq (Nat.zero_add _)) (fun _ _ hM' hT' => y_middle (da1_Mt hn hC) hM' hT') ?_
  refine j_iast dX5_digest_47 (SH_nk hn) (SH_nn hn) (by omega) (by decide) ?_
  refine j_dup rfl dX5_digest_48 ?_
  refine j_iconst (v := nI 5) dX5_digest_49 nc_iconst_5 ?_
  refine j_aload_n_0 dX5_digest_50 ?_
  refine C_X5_202 rfl (by decide) dX5_digest_51 sk_123 (Nat.le_of_ble_eq_true rfl) (Nat.le_of_eq (Nat.zero_add _)) (Nat.le_of_eq (Nat.zero_add _)) (fun _ _ hM' hT' => y_partsNow (da2_Mt hn hC) hM' hT') ?_
  refine j_iast dX5_digest_54 (SH_nk hn) (SH_nn hn) (by omega) (by decide) ?_
  refine j_astore_n_1 rfl (by decide) dX5_digest_55 ?_
  refine j_ldc2 (v := 2287) dX5_digest_56 (jv_gwm 1241 (by decide +kernel) rfl) ?_
  refine j_lstore_n_2 rfl (by decide) dX5_digest_59 ?_
  refine j_aload_n_1 dX5_digest_60 ?_
  refine j_astore_4 rfl (by decide) dX5_digest_61 ?_
  refine j_aload_4 dX5_digest_63 ?_
  refine j_alen dX5_digest_65 (SH_nk hn) (SH_nn hn) ?_
  refine j_istore_5 rfl (by decide) dX5_digest_66 ?_
  refine j_iconst (v := nI 0) dX5_digest_68 nc_iconst_0 ?_
  refine j_istore_6 rfl (by decide) dX5_digest_69 ?_
  refine y_sum6 (T := T) (SH_nk hn) (SH_nn hn) 7 0 _ _ (by omega) (by omega) ?_
  intro v7'
  refine j_iconst (v := nI 0) dX5_digest_101 nc_iconst_0 ?_
  refine j_istore_4 rfl (by decide) dX5_digest_102 ?_
  exact y_dgF hM (N + 1) 0 (n + 1) _ (da3 V N K R n) _ _ _ _ _ _ _ _ _ (da3_Mt hn hC) (by omega) (by omega) (by omega) (by omega) (by intro n' sx'; exact hT n' sx' n hn)
