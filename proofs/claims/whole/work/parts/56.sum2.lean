/-! ===== the checksum on both sides ===== -/
theorem INV.row {V W W' : Nat → Nat → Int32} {N K R t : Nat} (H : INV V W N K R t) (h : ∀ q, 123 ≤ q → q ≤ 135 → W' q = W q) : INV V W' N K R t := H.to (EqV.refl V) (EqW_of h)
theorem INV.way {V W : Nat → Nat → Int32} {N K R t f g : Nat} (H : INV V W N K R t) : INV (fndC V N f) (wayM W N K g) N K R t := H.to EqV_fnd EqW_way
theorem INV.pw {V W : Nat → Nat → Int32} {N K R t : Nat} (H : INV V W N K R t) : ∀ a b, a < N → b < N → V (8 + a) b = hoM W K a b := H.2.2.2.2.2.1
theorem fmF_row {W : Nat → Nat → Int32} {N K n i : Nat} (hn : 140 < n) : fmF W N K n i n 0 = W 124 i ∧ fmF W N K n i n 1 = W 125 i ∧ fmF W N K n i n 2 = nI (arL (fmA W n i) K i N 0 0) ∧ fmF W N K n i n 3 = nI (fmL (fmC W N K n i) N 0 i) ∧ fmF W N K n i n 4 = fmE W N K n i 137 i := by
  have a0 : fmA W n i n 0 = W 124 i := by unfold fmA; rw [jv_Unj (by omega), jv_Ueq]
  have a1 : fmA W n i n 1 = W 125 i := by
    unfold fmA; rw [jv_Ueq]
  have b : ∀ k, k ≠ 2 → fmB W N K n i n k = fmA W n i n k := fun k hk => by unfold fmB; rw [jv_Unj hk]
  have c : fmC W N K n i n = fmB W N K n i n := by unfold fmC; exact wayM_out (by omega)
  have d : ∀ k, k ≠ 3 → fmD W N K n i n k = fmC W N K n i n k := fun k hk => by unfold fmD; rw [jv_Unj hk]
  have e : fmE W N K n i n = fmD W N K n i n := by unfold fmE; exact wayM_out (by omega)
  have f : ∀ k, k ≠ 4 → fmF W N K n i n k = fmE W N K n i n k := fun k hk => by unfold fmF; rw [jv_Unj hk]
  refine ⟨?_, ?_, ?_, ?_, ?_⟩
  · rw [f 0 (by omega), e, d 0 (by omega), c, b 0 (by omega), a0]
  · rw [f 1 (by omega), e, d 1 (by omega), c, b 1 (by omega), a1]
  · rw [f 2 (by omega), e, d 2 (by omega), c]; unfold fmB; rw [jv_Ueq]
  · rw [f 3 (by omega), e]; unfold fmD; rw [jv_Ueq]
  · unfold fmF; rw [jv_Ueq]
theorem dgF_alike {N K R t : Nat} : ∀ m i n V W d, i + m ≤ N → 140 < n → INV V W N K R t → INV (dgF N m i V d).1 (dmF N K m i n W d).1 N K R t ∧ (dgF N m i V d).2 = (dmF N K m i n W d).2 := by
  intro m
  induction m with
  | zero => intro i n V W d _ _ H; exact ⟨H, rfl⟩
  | succ m ih =>
    intro i n V W d hi hn H
    have hN := H.N12
    have hN2 := H.1.2.2.2.1
    have HA : INV V (fmA W n i) N K R t := H.row (fun q h1 h2 => by unfold fmA; rw [jv_U_other (by omega), jv_U_other (by omega), NV_o (by omega)])
    have HB : INV V (fmB W N K n i) N K R t := HA.row (fun q h1 h2 => by unfold fmB; rw [jv_U_other (by omega)])
    have Y1 : Wy (fndC V N i) (fmC W N K n i) N i := ways_alike HB.wp hN (by omega)
    have HC : INV (fndC V N i) (fmC W N K n i) N K R t := HB.way
    have HD : INV (fndC V N i) (fmD W N K n i) N K R t := HC.row (fun q h1 h2 => by unfold fmD; rw [jv_U_other (by omega)])
    have Y2 : Wy (fndC (fndC V N i) N 0) (fmE W N K n i) N 0 := ways_alike HD.wp hN (by omega)
    have HE : INV (fndC (fndC V N i) N 0) (fmE W N K n i) N K R t := HD.way
    have HF : INV (fndC (fndC V N i) N 0) (fmF W N K n i) N K R t := HE.row (fun q h1 h2 => by unfold fmF; rw [jv_U_other (by omega)])
    have e1 := nei_alike HA.pw (show i < N by omega) N 0 0 (by omega)
    have e2 := far_alike Y1 (by omega) N 0 i (by omega) (by omega) (Or.inl rfl)
    have e3 := (Y2.2 i (by omega)).1
    have e4 := H.hd i (by omega)
    have e5 := (H.2.2.2.2.1.2.2.2.1 i (by omega)).1
    obtain ⟨r0, r1, r2, r3, r4⟩ := fmF_row (W := W) (N := N) (K := K) (i := i) hn
    have key : mx (mx (mx (mx (mx d (V 2 i).toInt64) (V 3 i).toInt64) (nI (neighboursL V i N 0 0)).toInt64) (nI (farL (fndC V N i) N 0 i)).toInt64) (fndC (fndC V N i) N 0 29 i).toInt64 = mxL (fmF W N K n i) n 5 0 d := by
      show _ = mx (mx (mx (mx (mx d (fmF W N K n i n 0).toInt64) (fmF W N K n i n 1).toInt64) (fmF W N K n i n 2).toInt64) (fmF W N K n i n 3).toInt64) (fmF W N K n i n 4).toInt64
      rw [r0, r1, r2, r3, r4, e1, e2, e3, e4, e5]
    unfold dgF dmF
    rw [key]
    exact ih _ _ _ _ _ (by omega) (by omega) HF
theorem bo_64 (x : Int32) : (bo x).toInt64 = if x = 0 then 0 else 1 := by
  unfold bo
  by_cases h : x = 0
  · rw [if_pos h, if_pos h]; rfl
  · rw [if_neg h, if_neg h]; rfl
theorem dgS_alike {V W : Nat → Nat → Int32} (h : ∀ f, f < 12 → V 4 f = W 126 f ∧ V 5 f = W 127 f) : ∀ m i d, i + m ≤ 12 → dgS V m i d = ssL W m i d := by
  intro m
  induction m with
  | zero => intro i d _; rfl
  | succ m ih =>
    intro i d hi
    obtain ⟨h1, h2⟩ := h i (by omega)
    unfold dgS ssL
    rw [h1, h2, bo_64, ih _ _ (by omega)]
theorem TW.run {V W : Nat → Nat → Int32} {K l : Nat} (H : TW V W K) (hK : K ≤ 4) (hl : l < K) : V (20 + 2 * l) 0 = W 132 l ∧ (W 132 l = 0 ∨ W 132 l = 1) := by
  obtain ⟨lo, hi, ev, wt, -, -, -, -, -, -, -, -, -, -, -, c8, -, c10⟩ := H.1 l hl
  rw [mg_L (show l < 4 by omega), mg_132] at c8
  rw [mg_hi (by omega)] at c10
  exact ⟨c8, c10⟩
theorem dgL_alike {V W : Nat → Nat → Int32} {K : Nat} (h : ∀ l, l < K → V (20 + 2 * l) 0 = W 132 l) : ∀ m i d, i + m ≤ K → dgL V m i d = slL W m i d := by
  intro m
  induction m with
  | zero => intro i d _; rfl
  | succ m ih =>
    intro i d hi
    unfold dgL slL
    rw [h i (by omega), bo_64, ih _ _ (by omega)]
theorem wrL_alike {V W : Nat → Nat → Int32} {j N K : Nat} {h : Int32} (S : Sim V W (43 + 10 * j) j N K h) : ∀ m i d, i + m ≤ 12 → wrL V j m i d = wmL W j m i d := by
  intro m
  induction m with
  | zero => intro i d _; rfl
  | succ m ih =>
    intro i d hi
    have e1 : V (43 + 10 * j + 1) i = W 135 (0 + (12 * j + i)) := S.1 1 i (by omega) (by omega) (by omega)
    have e2 : V (43 + 10 * j + 2) i = W 135 (96 + (12 * j + i)) := S.1 2 i (by omega) (by omega) (by omega)
    have e3 : V (43 + 10 * j + 3) i = W 135 (288 + (12 * j + i)) := S.1 3 i (by omega) (by omega) (by omega)
    have e4 : V (43 + 10 * j + 4) i = W 135 (192 + (12 * j + i)) := S.1 4 i (by omega) (by omega) (by omega)
    unfold wrL wmL
    rw [e1, e2, e3, e4, ih _ _ (by omega)]
theorem dnV_o {N K r q : Nat} (h : q ≠ 135) (h' : q ≠ 136) : ∀ m i W, dnV N K r m i W q = W q := by
  intro m
  induction m with
  | zero => intro i W; rfl
  | succ m ih =>
    intro i W
    show dnV N K r m (i + 1) _ q = _
    rw [ih, bbM_out h, wiM_out (by omega)]
theorem dnX_o {W : Nat → Nat → Int32} {N K r q : Nat} (h : q ≠ 135) (h' : q ≠ 136) : dnX W N K r q = W q := by
  unfold dnX
  rw [dnV_o h h', bbM_out h, wiM_out (by omega)]
theorem shL_o {N K r q : Nat} (h : q ≠ 127) (h1 : q ≠ 135) (h2 : q ≠ 136) : ∀ m i W b l, (shL N K r m i W b l).1 q = W q := by
  intro m
  induction m with
  | zero => intro i W b l; rfl
  | succ m ih =>
    intro i W b l
    have o : smO W N K r i q = W q := by unfold smO smV; rw [jv_U_other h, bbM_out h1, ieM_out (by omega), jv_U_other h]
    unfold shL
    split
    · exact ih _ _ _ _
    · split
      · rw [ih, o]
      · rw [ih, o]
theorem shX_o {W : Nat → Nat → Int32} {N K r q : Nat} (h : q ≠ 127) (h1 : q ≠ 135) (h2 : q ≠ 136) : (shX W N K r).1 q = W q := by
  unfold shX
  rw [shL_o h h1 h2, bbM_out h1, ieM_out (by omega)]
theorem rmL_row {W : Nat → Nat → Int32} {N K n r : Nat} (hn : 140 < n) : rmL W N K n r n 0 = W 133 r ∧ rmL W N K n r n 1 = W 134 r ∧ rmL W N K n r n 2 = beL (rmA W n r) r N 0 (nI 0) ∧ rmL W N K n r n 3 = nI (hdL (rmB W N n r) r N 0 0) ∧ rmL W N K n r n 4 = nI (owL (rmC W N n r) r N 0 0) ∧ rmL W N K n r n 5 = qtI (qtM (rmD W N n r) N K r).2 ∧ rmL W N K n r n 6 = beL (ieM (rmF W N K n r) N K r) r N 0 (nI 0) ∧ rmL W N K n r n 7 = nI (dnR (rmH W N K n r) N K r) ∧ rmL W N K n r n 8 = ov (shX (rmJ W N K n r) N K r).2 := by
  have a0 : rmA W n r n 0 = W 133 r := by unfold rmA; rw [jv_Unj (by omega), jv_Ueq]
  have a1 : rmA W n r n 1 = W 134 r := by unfold rmA; rw [jv_Ueq]
  have b : ∀ k, k ≠ 2 → rmB W N n r n k = rmA W n r n k := fun k hk => by unfold rmB; rw [jv_Unj hk]
  have b2 : rmB W N n r n 2 = beL (rmA W n r) r N 0 (nI 0) := by unfold rmB; rw [jv_Ueq]
  have c : ∀ k, k ≠ 3 → rmC W N n r n k = rmB W N n r n k := fun k hk => by unfold rmC; rw [jv_Unj hk]
  have c3 : rmC W N n r n 3 = nI (hdL (rmB W N n r) r N 0 0) := by unfold rmC; rw [jv_Ueq]
  have d : ∀ k, k ≠ 4 → rmD W N n r n k = rmC W N n r n k := fun k hk => by unfold rmD; rw [jv_Unj hk]
  have d4 : rmD W N n r n 4 = nI (owL (rmC W N n r) r N 0 0) := by unfold rmD; rw [jv_Ueq]
  have f : ∀ k, k ≠ 5 → rmF W N K n r n k = rmD W N n r n k := fun k hk => by unfold rmF qtM; rw [jv_Unj hk, bbM_out (by omega), qtL_o (by omega), kpM_out (by omega)]
  have f5 : rmF W N K n r n 5 = qtI (qtM (rmD W N n r) N K r).2 := by unfold rmF; rw [jv_Ueq]
  have h : ∀ k, k ≠ 6 → rmH W N K n r n k = rmF W N K n r n k := fun k hk => by unfold rmH; rw [jv_Unj hk, bbM_out (by omega), ieM_out (by omega)]
  have h6 : rmH W N K n r n 6 = beL (ieM (rmF W N K n r) N K r) r N 0 (nI 0) := by unfold rmH; rw [jv_Ueq]
  have j : ∀ k, k ≠ 7 → rmJ W N K n r n k = rmH W N K n r n k := fun k hk => by unfold rmJ; rw [jv_Unj hk, dnX_o (by omega) (by omega)]
  have j7 : rmJ W N K n r n 7 = nI (dnR (rmH W N K n r) N K r) := by unfold rmJ; rw [jv_Ueq]
  have l : ∀ k, k ≠ 8 → rmL W N K n r n k = rmJ W N K n r n k := fun k hk => by unfold rmL; rw [jv_Unj hk, shX_o (by omega) (by omega) (by omega)]
  have l8 : rmL W N K n r n 8 = ov (shX (rmJ W N K n r) N K r).2 := by unfold rmL; rw [jv_Ueq]
  refine ⟨?_, ?_, ?_, ?_, ?_, ?_, ?_, ?_, l8⟩
  · rw [l 0 (by omega), j 0 (by omega), h 0 (by omega), f 0 (by omega), d 0 (by omega), c 0 (by omega), b 0 (by omega), a0]
  · rw [l 1 (by omega), j 1 (by omega), h 1 (by omega), f 1 (by omega), d 1 (by omega), c 1 (by omega), b 1 (by omega), a1]
  · rw [l 2 (by omega), j 2 (by omega), h 2 (by omega), f 2 (by omega), d 2 (by omega), c 2 (by omega), b2]
  · rw [l 3 (by omega), j 3 (by omega), h 3 (by omega), f 3 (by omega), d 3 (by omega), c3]
  · rw [l 4 (by omega), j 4 (by omega), h 4 (by omega), f 4 (by omega), d4]
  · rw [l 5 (by omega), j 5 (by omega), h 5 (by omega), f5]
  · rw [l 6 (by omega), j 6 (by omega), h6]
  · rw [l 7 (by omega), j7]
theorem wr_alike {V W : Nat → Nat → Int32} {N K R t j n : Nat} (H : INV V W N K R t) (ht : t ≤ 2 ^ 29) (hj : j < R) (hn : 140 < n) (d : Int64) : INV (wrX V N K j).1 (rmL W N K n j) N K R t ∧ wrD V N K j d = wmL (rmL W N K n j) j N 0 (mxL (rmL W N K n j) n 9 0 d) := by
  have hN := H.N12
  have HA : INV V (rmA W n j) N K R t := H.row (fun q h1 h2 => by unfold rmA; rw [jv_U_other (by omega), jv_U_other (by omega), NV_o (by omega)])
  have HB : INV V (rmB W N n j) N K R t := HA.row (fun q h1 h2 => by unfold rmB; rw [jv_U_other (by omega)])
  have HC : INV V (rmC W N n j) N K R t := HB.row (fun q h1 h2 => by unfold rmC; rw [jv_U_other (by omega)])
  have HD : INV V (rmD W N n j) N K R t := HC.row (fun q h1 h2 => by unfold rmD; rw [jv_U_other (by omega)])
  obtain ⟨Q1, Q2⟩ := HD.triQ ht hj
  have HF : INV (wr1 V N j) (rmF W N K n j) N K R t := Q1.row (fun q h1 h2 => by unfold rmF; rw [jv_U_other (by omega)])
  obtain ⟨E1, E2, -⟩ := HF.tri ht hj
  have HH : INV (wr2 V N j) (rmH W N K n j) N K R t := E1.row (fun q h1 h2 => by unfold rmH; rw [jv_U_other (by omega)])
  obtain ⟨D1, D2⟩ := HH.bestD ht hj
  have HJ : INV (wr3 V N j) (rmJ W N K n j) N K R t := D1.row (fun q h1 h2 => by unfold rmJ; rw [jv_U_other (by omega)])
  obtain ⟨S1, S2⟩ := HJ.bestS ht hj
  have HL : INV (wrX V N K j).1 (rmL W N K n j) N K R t := INV.row S1 (fun q h1 h2 => by unfold rmL; rw [jv_U_other (by omega)])
  refine ⟨HL, ?_⟩
  obtain ⟨r0, r1, r2, r3, r4, r5, r6, r7, r8⟩ := rmL_row (W := W) (N := N) (K := K) (r := j) hn
  have e0 : V (43 + 10 * j) 0 = W 133 j := H.2.2.2.2.2.2.1 j hj
  have e1 : V (43 + 10 * j) 1 = W 134 j := (H.sim hj).2.2.2.2
  have e2 : hbL V (43 + 10 * j) N 0 (nI 0) = beL (rmA W n j) j N 0 (nI 0) := (HA.sim hj).heads HA.hd N 0 (nI 0) (by omega)
  have e3 : reachedL V j N 0 0 = hdL (rmB W N n j) j N 0 0 := (HB.sim hj).heard N 0 0 (by omega)
  have e4 : underWayL V j N 0 0 = owL (rmC W N n j) j N 0 0 := (HC.sim hj).under N 0 0 (by omega)
  have e6 : hbL (triV (wr1 V N j) N j) 33 N 0 (nI 0) = beL (ieM (rmF W N K n j) N K j) j N 0 (nI 0) := E2
  have e7 : wrB V N j = dnR (rmH W N K n j) N K j := D2
  have e8 : (wrX V N K j).2 = (shX (rmJ W N K n j) N K j).2 := S2
  have key : mx (mx (mx (mx (mx (mx (mx (mx (mx d (V (43 + 10 * j) 0).toInt64) (V (43 + 10 * j) 1).toInt64) (hbL V (43 + 10 * j) N 0 (nI 0)).toInt64) (nI (reachedL V j N 0 0)).toInt64) (nI (underWayL V j N 0 0)).toInt64) (qtR V N j).toInt64) (hbL (triV (wr1 V N j) N j) 33 N 0 (nI 0)).toInt64) (nI (wrB V N j)).toInt64) (ov (wrX V N K j).2).toInt64 = mxL (rmL W N K n j) n 9 0 d := by
    show _ = mx (mx (mx (mx (mx (mx (mx (mx (mx d (rmL W N K n j n 0).toInt64) (rmL W N K n j n 1).toInt64) (rmL W N K n j n 2).toInt64) (rmL W N K n j n 3).toInt64) (rmL W N K n j n 4).toInt64) (rmL W N K n j n 5).toInt64) (rmL W N K n j n 6).toInt64) (rmL W N K n j n 7).toInt64) (rmL W N K n j n 8).toInt64
    rw [r0, r1, r2, r3, r4, r5, r6, r7, r8, e0, e1, e2, e3, e4, Q2, e6, e7, e8]
  have w := wrL_alike (HL.sim hj) N 0 (mxL (rmL W N K n j) n 9 0 d) (by omega)
  unfold wrD
  rw [key]
  exact w
theorem dgR_alike {N K R t : Nat} (ht : t ≤ 2 ^ 29) : ∀ m i n V W d, i + m ≤ R → 140 < n → INV V W N K R t → INV (dgR N K m i V d).1 (dmR N K m i n W d).1 N K R t ∧ (dgR N K m i V d).2 = (dmR N K m i n W d).2 := by
  intro m
  induction m with
  | zero => intro i n V W d _ _ H; exact ⟨H, rfl⟩
  | succ m ih =>
    intro i n V W d hi hn H
    obtain ⟨a, b⟩ := wr_alike H ht (show i < R by omega) hn d
    unfold dgR dmR
    rw [b]
    exact ih _ _ _ _ _ (by omega) (by omega) a
theorem INV.digest {V W : Nat → Nat → Int32} {N K R t n : Nat} (H : INV V W N K R t) (ht : t ≤ 2 ^ 29) (hn : 140 < n) : INV (dgX V N K R).1 (daX W N K R n).1 N K R t ∧ (dgX V N K R).2 = (daX W N K R n).2 := by
  have hN := H.N12
  have h1 : INV V (da1 W N K R n) N K R t := (H.to (EqV.refl V) EqW_t0).row (fun q h1 h2 => by unfold da1; rw [jv_U_other (by omega), jv_U_other (by omega), jv_U_other (by omega), jv_U_other (by omega), NV_o (by omega)])
  have e1 := cen_alike hN N 0 _ _ none (nI 0) (by omega) h1.wp
  have h2 : INV (dgc V N) (da2 W N K R n) N K R t := h1.to (fun q a b c => dgc_out (by omega)) (EqW_of (fun q a b => by unfold da2; rw [jv_U_other (by omega), mdL_out (by omega)]))
  have e2 := par_alike hN N 0 _ _ 0 (by omega) h2.wp
  have h3 : INV (dgp V N) (da3 W N K R n) N K R t := h2.to (fun q a b c => parL_out (by omega) _ _ _ _) (EqW_of (fun q a b => by unfold da3; rw [jv_U_other (by omega), pnL_out (by omega)]))
  have r1 : ∀ k, da1 W N K R n n k = if k = 3 then nI R else if k = 2 then nI K else if k = 1 then W 135 864 else if k = 0 then nI N else z0 k := by
    intro k
    unfold da1
    by_cases k3 : k = 3
    · subst k3; rw [if_pos rfl, jv_Ueq]
    · rw [if_neg k3, jv_Unj k3]
      by_cases k2 : k = 2
      · subst k2; rw [if_pos rfl, jv_Ueq]
      · rw [if_neg k2, jv_Unj k2]
        by_cases k1 : k = 1
        · subst k1; rw [if_pos rfl, jv_Ueq]
        · rw [if_neg k1, jv_Unj k1]
          by_cases k0 : k = 0
          · subst k0; rw [if_pos rfl, jv_Ueq]
          · rw [if_neg k0, jv_Unj k0]
            unfold jv_NV
            rw [if_pos rfl]
  have r2 : ∀ k, k ≠ 4 → da2 W N K R n n k = da1 W N K R n n k := fun k hk => by unfold da2; rw [jv_Unj hk, mdL_out (by omega)]
  have r24 : da2 W N K R n n 4 = oz (mdL N K N 0 (da1 W N K R n) none (nI 0)).2 := by unfold da2; rw [jv_Ueq]
  have r3 : ∀ k, k ≠ 5 → da3 W N K R n n k = da2 W N K R n n k := fun k hk => by unfold da3; rw [jv_Unj hk, pnL_out (by omega)]
  have r35 : da3 W N K R n n 5 = nI (pnL N K N 0 (da2 W N K R n) 0).2 := by unfold da3; rw [jv_Ueq]
  have q0 : da3 W N K R n n 0 = nI N := by rw [r3 0 (by omega), r2 0 (by omega), r1, if_neg (by omega), if_neg (by omega), if_neg (by omega), if_pos rfl]
  have q1 : da3 W N K R n n 1 = W 135 864 := by rw [r3 1 (by omega), r2 1 (by omega), r1, if_neg (by omega), if_neg (by omega), if_pos rfl]
  have q2 : da3 W N K R n n 2 = nI K := by rw [r3 2 (by omega), r2 2 (by omega), r1, if_neg (by omega), if_pos rfl]
  have q3 : da3 W N K R n n 3 = nI R := by rw [r3 3 (by omega), r2 3 (by omega), r1, if_pos rfl]
  have q4 : da3 W N K R n n 4 = oz (mdL N K N 0 (da1 W N K R n) none (nI 0)).2 := by rw [r3 4 (by omega), r24]
  have e0 : dg0 V N K R = mxL (da3 W N K R n) n 6 0 2287 := by
    show _ = mx (mx (mx (mx (mx (mx 2287 (da3 W N K R n n 0).toInt64) (da3 W N K R n n 1).toInt64) (da3 W N K R n n 2).toInt64) (da3 W N K R n n 3).toInt64) (da3 W N K R n n 4).toInt64) (da3 W N K R n n 5).toInt64
    unfold dg0
    rw [q0, q1, q2, q3, q4, r35, e1, e2, H.2.1, H.2.2.2.1]
  obtain ⟨f1, f2⟩ := dgF_alike N 0 (n + 1) _ _ (dg0 V N K R) (by omega) (by omega) h3
  have g1 : INV (dgG V N K R).1 (daF W N K R n).1 N K R t := by unfold dgG daF; rw [← e0]; exact f1
  have g2 : (dgG V N K R).2 = (daF W N K R n).2 := by unfold dgG daF; rw [← e0]; exact f2
  have s := dgS_alike g1.2.2.2.2.1.st (N - 1) 0 (dgG V N K R).2 (by omega)
  have l := dgL_alike (fun l hl => (g1.2.2.2.2.1.run g1.K4 hl).1) K 0 (dgS (dgG V N K R).1 (N - 1) 0 (dgG V N K R).2) (by omega)
  have fin := dgR_alike ht R 0 (n + 1 + N) _ _ (dgL (dgG V N K R).1 K 0 (dgS (dgG V N K R).1 (N - 1) 0 (dgG V N K R).2)) (by omega) (by omega) g1
  have key : dgL (dgG V N K R).1 K 0 (dgS (dgG V N K R).1 (N - 1) 0 (dgG V N K R).2) = slL (daF W N K R n).1 K 0 (ssL (daF W N K R n).1 (N - 1) 0 (daF W N K R n).2) := by rw [l, s, g2]
  unfold dgX daX
  rw [← key]
  exact fin
