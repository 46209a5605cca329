/-! ===== the tower's calls on both sides ===== -/
theorem jv_U_again {V : Nat → Nat → Int32} {p i : Nat} {x y : Int32} : jv_U (jv_U V p i x) p i y = jv_U V p i y := by
  funext q c
  unfold jv_U
  by_cases e : q = p
  · subst e
    by_cases e2 : c = i
    · subst e2; simp only [if_true]
    · simp only [if_true, if_neg e2]
  · rw [if_neg e, if_neg e, if_neg e]
theorem INV.tz {V W : Nat → Nat → Int32} {N K R t : Nat} (H : INV V W N K R t) : INV V (t0 W) N K R t := H.to (EqV.refl V) EqW_t0
theorem rstV_at {V : Nat → Nat → Int32} {f : Nat} (hf : f < 12) : rstV V 12 2 f = nI 10 ∧ rstV V 12 3 f = nI 2 ∧ rstV V 12 4 f = nI 3 ∧ rstV V 12 5 f = nI 1 := by
  unfold rstV
  refine ⟨?_, ?_, ?_, ?_⟩
  · rw [if_pos hf, if_pos rfl]
  · rw [if_pos hf, if_neg (by omega), if_pos rfl]
  · rw [if_pos hf, if_neg (by omega), if_neg (by omega), if_pos rfl]
  · rw [if_pos hf, if_neg (by omega), if_neg (by omega), if_neg (by omega), if_pos rfl]
theorem anI_at {V : Nat → Nat → Int32} {f : Nat} (hf : f < 12) : anI V 12 124 f = nI 10 ∧ anI V 12 125 f = nI 2 ∧ anI V 12 126 f = nI 3 ∧ anI V 12 127 f = nI 1 := by
  unfold anI
  refine ⟨?_, ?_, ?_, ?_⟩
  · rw [if_pos hf, if_pos rfl]
  · rw [if_pos hf, if_neg (by omega), if_pos rfl]
  · rw [if_pos hf, if_neg (by omega), if_neg (by omega), if_pos rfl]
  · rw [if_pos hf, if_neg (by omega), if_neg (by omega), if_neg (by omega), if_pos rfl]
theorem anI_o {V : Nat → Nat → Int32} {i q : Nat} (h : q < 124 ∨ 127 < q) : anI V i q = V q := by
  funext c
  unfold anI
  rw [if_neg (by omega : ¬ q = 124), if_neg (by omega : ¬ q = 125), if_neg (by omega : ¬ q = 126), if_neg (by omega : ¬ q = 127), ite_self]
theorem anM_o {V : Nat → Nat → Int32} {m q : Nat} (h : q < 123 ∨ 127 < q) : anM V m q = V q := by
  unfold anM
  rw [anI_o (by omega), jv_U_other (by omega), jv_U_other (by omega), jv_U_other (by omega)]
theorem nI1_1 : nI 1 = 1 := by decide +kernel
/-- a tower as built: any memories before it -/
theorem INV.built {V W : Nat → Nat → Int32} {t m : Nat} (h5 : V 0 5 = nI t) (h8 : W 135 864 = nI t) (hm2 : 2 ≤ m) (hm : m ≤ 12) : INV (jv_U (layV (rstV (jv_U (jv_U V 1 0 (nI m)) 1 1 (nI 0)) 12) m 0) 0 4 (nI 0)) (anM W m) m 0 0 t := by
  have hT : TW (rstV (jv_U (jv_U V 1 0 (nI m)) 1 1 (nI 0)) 12) (anM W m) 0 := by
    refine ⟨fun k hk => by omega, fun f hf => ?_, fun f hf => ?_, fun f hf => ?_, fun f hf => ?_, fun f hf => ?_⟩
    · rw [mg_4, mg_5, mg_126, mg_127]
      unfold anM
      rw [(rstV_at hf).2.2.1, (rstV_at hf).2.2.2, (anI_at hf).2.2.1, (anI_at hf).2.2.2]
      exact ⟨rfl, rfl⟩
    · unfold anM
      rw [(rstV_at hf).1, (anI_at hf).1]
      exact ⟨rfl, 10, rfl, by omega⟩
    · unfold anM
      rw [(rstV_at hf).2.1, (anI_at hf).2.1]
      exact ⟨rfl, 2, rfl, by omega⟩
    · unfold anM
      exact ⟨3, (anI_at hf).2.2.1, by omega, by omega⟩
    · unfold anM
      exact Or.inr ((anI_at hf).2.2.2.trans nI1_1)
  have hP := pipes2 hT.1 hT.2.1 (by omega) hm
  refine ⟨⟨?_, ?_, ?_, hm2, hm, by omega, by omega⟩, ?_, ⟨?_, ?_, ?_, hm2, hm, by omega, by omega, fun k hk => by omega⟩, ?_, ?_, ?_, fun j hj => by omega, fun j hj => by omega⟩
  · rw [jv_Une (by omega), layV_out (by omega), rstV_out (by omega), jv_Unj (by omega), jv_Ueq]
  · rw [jv_Une (by omega), layV_out (by omega), rstV_out (by omega), jv_Ueq]
  · rw [jv_Ueq]
  · rw [jv_Unj (by omega), layV_out (by omega), rstV_out (by omega), jv_Une (by omega), jv_Une (by omega)]; exact h5
  · unfold anM; rw [anI_o (by omega), jv_Unj (by omega), jv_Unj (by omega), jv_Ueq]
  · unfold anM; rw [anI_o (by omega), jv_Unj (by omega), jv_Ueq]
  · unfold anM; rw [anI_o (by omega), jv_Ueq]
  · rw [anM_o (by omega)]; exact h8
  · exact hT.to (by omega) (fun q h => by rw [jv_U_other (by omega), layV_out (by omega)]) (fun q h1 h2 => rfl)
  · intro a b ha hb
    rw [jv_Une (by omega)]; exact hP a b ha hb
theorem TW.stay {V W : Nat → Nat → Int32} {K f a : Nat} {x : Int32} (H : TW V W K) (hK : K ≤ 4) (hx : x = nI a) (ha : a ≤ 9) : TW (jv_U V 3 f x) (jv_U W 125 f x) K := by
  obtain ⟨h1, h2, h3, h4, h5, h6⟩ := H
  refine ⟨h1.congr hK (fun q g1 g2 => ?_) (fun q g1 g2 => ?_), h2.congr ?_ ?_ ?_ ?_, ?_, fun c hc => ?_, ?_, ?_⟩
  · rw [mg_lo (by omega), mg_lo (by omega), jv_U_other (by omega)]
  · rw [mg_hi (by omega), mg_hi (by omega), jv_U_other (by omega)]
  · rw [mg_lo (by omega), mg_lo (by omega), jv_U_other (by omega)]
  · rw [mg_lo (by omega), mg_lo (by omega), jv_U_other (by omega)]
  · rw [mg_hi (by omega), mg_hi (by omega), jv_U_other (by omega)]
  · rw [mg_hi (by omega), mg_hi (by omega), jv_U_other (by omega)]
  · rw [jv_U_other (by omega), jv_U_other (by omega)]; exact h3
  · by_cases e : c = f
    · subst e; rw [jv_Ueq, jv_Ueq]; exact ⟨rfl, a, hx, ha⟩
    · rw [jv_Unj e, jv_Unj e]; exact h4 c hc
  · rw [jv_U_other (by omega)]; exact h5
  · rw [jv_U_other (by omega)]; exact h6
theorem TW.heads {V W : Nat → Nat → Int32} {K f a : Nat} {x : Int32} (H : TW V W K) (hK : K ≤ 4) (hx : x = nI a) (ha : a ≤ 99) : TW (jv_U V 2 f x) (jv_U W 124 f x) K := by
  obtain ⟨h1, h2, h3, h4, h5, h6⟩ := H
  refine ⟨h1.congr hK (fun q g1 g2 => ?_) (fun q g1 g2 => ?_), h2.congr ?_ ?_ ?_ ?_, fun c hc => ?_, ?_, ?_, ?_⟩
  · rw [mg_lo (by omega), mg_lo (by omega), jv_U_other (by omega)]
  · rw [mg_hi (by omega), mg_hi (by omega), jv_U_other (by omega)]
  · rw [mg_lo (by omega), mg_lo (by omega), jv_U_other (by omega)]
  · rw [mg_lo (by omega), mg_lo (by omega), jv_U_other (by omega)]
  · rw [mg_hi (by omega), mg_hi (by omega), jv_U_other (by omega)]
  · rw [mg_hi (by omega), mg_hi (by omega), jv_U_other (by omega)]
  · by_cases e : c = f
    · subst e; rw [jv_Ueq, jv_Ueq]; exact ⟨rfl, a, hx, ha⟩
    · rw [jv_Unj e, jv_Unj e]; exact h3 c hc
  · rw [jv_U_other (by omega), jv_U_other (by omega)]; exact h4
  · rw [jv_U_other (by omega)]; exact h5
  · rw [jv_U_other (by omega)]; exact h6
theorem TW.stairs {V W : Nat → Nat → Int32} {K f a : Nat} {x : Int32} (H : TW V W K) (hK : K ≤ 4) (hx : x = nI a) (h1a : 1 ≤ a) (ha : a ≤ 9) : TW (jv_U V 4 f x) (jv_U W 126 f x) K := by
  have st := H.st
  obtain ⟨h1, h2, h3, h4, h5, h6⟩ := H
  refine ⟨h1.congr hK (fun q g1 g2 => ?_) (fun q g1 g2 => ?_), fun c hc => ?_, ?_, ?_, fun c hc => ?_, ?_⟩
  · rw [mg_lo (by omega), mg_lo (by omega), jv_U_other (by omega)]
  · rw [mg_hi (by omega), mg_hi (by omega), jv_U_other (by omega)]
  · rw [mg_4, mg_5, mg_126, mg_127, jv_U_other (by omega : 5 ≠ 4), jv_U_other (by omega : 127 ≠ 126)]
    obtain ⟨s1, s2⟩ := st c hc
    refine ⟨?_, s2⟩
    by_cases e : c = f
    · subst e; rw [jv_Ueq, jv_Ueq]
    · rw [jv_Unj e, jv_Unj e]; exact s1
  · rw [jv_U_other (by omega), jv_U_other (by omega)]; exact h3
  · rw [jv_U_other (by omega), jv_U_other (by omega)]; exact h4
  · by_cases e : c = f
    · subst e; rw [jv_Ueq]; exact ⟨a, hx, h1a, ha⟩
    · rw [jv_Unj e]; exact h5 c hc
  · rw [jv_U_other (by omega)]; exact h6
theorem TW.lift {V W : Nat → Nat → Int32} {K l : Nat} {b : Int32} (H : TW V W K) (hK : K ≤ 4) (hl : l < K) (hb : b = 0 ∨ b = 1) : TW (jv_U V (20 + 2 * l) 0 b) (jv_U W 132 l b) K := by
  obtain ⟨h1, h2, h3, h4, h5, h6⟩ := H
  refine ⟨fun k hk => ?_, h2.congr ?_ ?_ ?_ ?_, ?_, ?_, ?_, ?_⟩
  · obtain ⟨lo, hi, ev, wt, e1, e2, e3, e4, c1, c2, c3, c4, c5, c6, c7, c8, c9, c10⟩ := h1 k hk
    rw [mg_hi (by omega)] at e1 e2 e3 e4 c10
    rw [mg_lo (by omega)] at c7 c9
    rw [mg_L (show k < 4 by omega), mg_132] at c8
    refine ⟨lo, hi, ev, wt, ?_, ?_, ?_, ?_, c1, c2, c3, c4, c5, c6, fun c hc => ?_, ?_, ?_, ?_⟩
    · rw [mg_hi (by omega), jv_U_other (by omega)]; exact e1
    · rw [mg_hi (by omega), jv_U_other (by omega)]; exact e2
    · rw [mg_hi (by omega), jv_U_other (by omega)]; exact e3
    · rw [mg_hi (by omega), jv_U_other (by omega)]; exact e4
    · rw [mg_lo (by omega), jv_U_other (by omega)]; exact c7 c hc
    · rw [mg_L (show k < 4 by omega), mg_132]
      by_cases e : k = l
      · subst e; rw [jv_Ueq, jv_Ueq]
      · rw [jv_Une (by omega), jv_Unj e]; exact c8
    · rw [mg_lo (by omega)]
      by_cases e : k = l
      · subst e; rw [jv_Unj (by omega)]; exact c9
      · rw [jv_Une (by omega)]; exact c9
    · rw [mg_hi (by omega)]
      by_cases e : k = l
      · subst e; rw [jv_Ueq]; exact hb
      · rw [jv_Unj e]; exact c10
  · rw [mg_lo (by omega), mg_lo (by omega), jv_U_other (by omega)]
  · rw [mg_lo (by omega), mg_lo (by omega), jv_U_other (by omega)]
  · rw [mg_hi (by omega), mg_hi (by omega), jv_U_other (by omega)]
  · rw [mg_hi (by omega), mg_hi (by omega), jv_U_other (by omega)]
  · rw [jv_U_other (by omega), jv_U_other (by omega)]; exact h3
  · rw [jv_U_other (by omega), jv_U_other (by omega)]; exact h4
  · rw [jv_U_other (by omega)]; exact h5
  · rw [jv_U_other (by omega)]; exact h6
theorem INV.stay {V W : Nat → Nat → Int32} {N K R t f a : Nat} {x : Int32} (H : INV V W N K R t) (hx : x = nI a) (ha : a ≤ 9) : INV (jv_U V 3 f x) (jv_U W 125 f x) N K R t := by
  obtain ⟨hC, h5, hM, h8, hT, hP, hO, hS⟩ := H
  have hN := hC.2.2.2.2.1
  have hK := hC.2.2.2.2.2.1
  have hR := hC.2.2.2.2.2.2
  have hT' : TW (jv_U V 3 f x) (jv_U W 125 f x) K := hT.stay hK hx ha
  have hP' : PW (jv_U V 3 f x) (jv_U W 125 f x) N K := fun p q hp hq => by
    rw [jv_U_other (by omega), hoM_congr (V := W) (fun q h1 h2 => jv_U_other (by omega))]; exact hP p q hp hq
  refine ⟨hC.o (jv_U_other (by omega)) (jv_U_other (by omega)), by rw [jv_Une (by omega)]; exact h5, hM.o (jv_U_other (by omega)) (jv_U_other (by omega)), by rw [jv_Une (by omega)]; exact h8, hT', hP', fun j hj => by rw [jv_U_other (by omega), jv_U_other (by omega)]; exact hO j hj, ?_⟩
  exact hS.to hR (fun q h1 h2 => jv_U_other (by omega)) (fun c hc => (hT'.2.2.2.1 c hc).1) hP' (fun c _ => jv_Une (by omega)) (fun j _ => jv_Une (by omega))
theorem INV.heads {V W : Nat → Nat → Int32} {N K R t f a : Nat} {x : Int32} (H : INV V W N K R t) (hx : x = nI a) (ha : a ≤ 99) : INV (jv_U V 2 f x) (jv_U W 124 f x) N K R t := by
  obtain ⟨hC, h5, hM, h8, hT, hP, hO, hS⟩ := H
  have hN := hC.2.2.2.2.1
  have hK := hC.2.2.2.2.2.1
  have hR := hC.2.2.2.2.2.2
  have hT' : TW (jv_U V 2 f x) (jv_U W 124 f x) K := hT.heads hK hx ha
  have hP' : PW (jv_U V 2 f x) (jv_U W 124 f x) N K := fun p q hp hq => by
    rw [jv_U_other (by omega), hoM_congr (V := W) (fun q h1 h2 => jv_U_other (by omega))]; exact hP p q hp hq
  refine ⟨hC.o (jv_U_other (by omega)) (jv_U_other (by omega)), by rw [jv_Une (by omega)]; exact h5, hM.o (jv_U_other (by omega)) (jv_U_other (by omega)), by rw [jv_Une (by omega)]; exact h8, hT', hP', fun j hj => by rw [jv_U_other (by omega), jv_U_other (by omega)]; exact hO j hj, ?_⟩
  exact hS.to hR (fun q h1 h2 => jv_U_other (by omega)) (fun c hc => (hT'.2.2.2.1 c hc).1) hP' (fun c _ => jv_Une (by omega)) (fun j _ => jv_Une (by omega))
theorem INV.stairs {V W : Nat → Nat → Int32} {N K R t f a : Nat} {x : Int32} (H : INV V W N K R t) (hx : x = nI a) (h1a : 1 ≤ a) (ha : a ≤ 9) : INV (layV (jv_U V 4 f x) N K) (jv_U W 126 f x) N K R t :=
  H.lay (H.1.o (jv_U_other (by omega)) (jv_U_other (by omega))) (H.2.2.1.o (jv_U_other (by omega)) (jv_U_other (by omega))) (H.2.2.2.2.1.stairs H.K4 hx h1a ha) (jv_U_other (by omega)) (fun q h1 h2 => jv_U_other (by omega)) (fun q h1 h2 => jv_U_other (by omega))
theorem INV.turnS {V W : Nat → Nat → Int32} {N K R t f : Nat} (H : INV V W N K R t) (hf : f < N) : nb (V 5 f) = nb (W 127 f) ∧ INV (layV (jv_U V 5 f (nb (V 5 f))) N K) (jv_U W 127 f (nb (W 127 f))) N K R t := by
  have hN := H.N12
  have e := (H.2.2.2.2.1.st f (by omega)).2
  rw [e]
  exact ⟨rfl, H.shut (nb01 _)⟩
theorem INV.lrun {V W : Nat → Nat → Int32} {N K R t l : Nat} {b : Int32} (H : INV V W N K R t) (hl : l < K) (hb : b = 0 ∨ b = 1) : INV (letL V N K l b) (jv_U W 132 l b) N K R t := by
  have hK := H.K4
  exact H.lay (H.1.o (jv_U_other (by omega)) (jv_U_other (by omega))) (H.2.2.1.o (jv_U_other (by omega)) (jv_U_other (by omega))) (H.2.2.2.2.1.lift H.K4 hl hb) (jv_U_other (by omega)) (fun q h1 h2 => jv_U_other (by omega)) (fun q h1 h2 => jv_U_other (by omega))
theorem INV.turnL {V W : Nat → Nat → Int32} {N K R t l : Nat} (H : INV V W N K R t) (hl : l < K) : nb (V (20 + 2 * l) 0) = nb (W 132 l) ∧ INV (layV (jv_U V (20 + 2 * l) 0 (nb (V (20 + 2 * l) 0))) N K) (jv_U W 132 l (nb (W 132 l))) N K R t := by
  have e := (H.2.2.2.2.1.run H.K4 hl).1
  rw [e]
  exact ⟨rfl, H.lrun hl (nb01 _)⟩
theorem jv_fill_o {V : Nat → Nat → Int32} {p n q : Nat} {f : Nat → Int32} (h : q ≠ p) : jv_fill V p n f q = V q := by
  funext c
  unfold jv_fill
  rw [if_neg (fun d => h d.1)]
theorem putV_o {V : Nat → Nat → Int32} {K lo hi ev q : Nat} {w : Int32} (h1 : q ≠ 1) (h2 : q ≠ 20 + 2 * K) (h3 : q ≠ 20 + 2 * K + 1) : putV V K lo hi ev w q = V q := by
  unfold putV
  rw [jv_U_other h1, jv_fill_o h3, jv_U_other h2, jv_U_other h2]
theorem adM_o {V : Nat → Nat → Int32} {K lo hi ev q : Nat} {w : Int32} (h : q < 123 ∨ (123 < q ∧ q < 128) ∨ 132 < q) : adM V K lo hi ev w q = V q := by
  unfold adM
  rw [jv_U_other (by omega), jv_U_other (by omega), jv_U_other (by omega), jv_U_other (by omega), jv_U_other (by omega), jv_U_other (by omega)]
theorem adM_k {V : Nat → Nat → Int32} {K lo hi ev q k : Nat} {w : Int32} (h : 128 ≤ q) (hk : k ≠ K) : adM V K lo hi ev w q k = V q k := by
  unfold adM
  rw [jv_U_other (by omega), jv_Unj hk, jv_Unj hk, jv_Unj hk, jv_Unj hk, jv_Unj hk]
theorem adM_K {V : Nat → Nat → Int32} {K lo hi ev : Nat} {w : Int32} : adM V K lo hi ev w 128 K = nI lo ∧ adM V K lo hi ev w 129 K = nI hi ∧ adM V K lo hi ev w 130 K = nI ev ∧ adM V K lo hi ev w 131 K = w ∧ adM V K lo hi ev w 132 K = nI 1 := by
  unfold adM
  refine ⟨?_, ?_, ?_, ?_, ?_⟩
  · rw [jv_U_other (by omega), jv_U_other (by omega), jv_U_other (by omega), jv_U_other (by omega), jv_U_other (by omega), jv_Ueq]
  · rw [jv_U_other (by omega), jv_U_other (by omega), jv_U_other (by omega), jv_U_other (by omega), jv_Ueq]
  · rw [jv_U_other (by omega), jv_U_other (by omega), jv_U_other (by omega), jv_Ueq]
  · rw [jv_U_other (by omega), jv_U_other (by omega), jv_Ueq]
  · rw [jv_U_other (by omega), jv_Ueq]
theorem INV.addL {V W : Nat → Nat → Int32} {N K R t lo hi ev wt : Nat} {w : Int32} (H : INV V W N K R t) (hhi : hi < N) (hl : lo < hi) (he : 1 ≤ ev) (hev : ev ≤ hi - lo) (hw : w = nI wt) (h1w : 1 ≤ wt) (h9w : wt ≤ 9) (hK3 : K < 4) : INV (layV (putV V K lo hi ev w) N (K + 1)) (adM W K lo hi ev w) N (K + 1) R t := by
  have hN := H.N12
  obtain ⟨m1, m2, m3, m4, m5, m6, m7, m8⟩ := H.2.2.1
  obtain ⟨c1, c2, c3, c4, c5, c6, c7⟩ := H.1
  obtain ⟨a1, a2, a3, a4, a5⟩ := adM_K (V := W) (K := K) (lo := lo) (hi := hi) (ev := ev) (w := w)
  refine H.lay (V1 := putV V K lo hi ev w) ⟨?_, putV_11, ?_, c4, c5, by omega, c7⟩ ⟨?_, ?_, ?_, m4, m5, by omega, m7, fun k hk => ?_⟩ ?_ (putV_o (by omega) (by omega) (by omega)) (fun q h1 h2 => putV_o (by omega) (by omega) (by omega)) (fun q h1 h2 => adM_o (by omega))
  · unfold putV
    rw [jv_Unj (by omega), jv_fill_o (by omega), jv_U_other (by omega), jv_U_other (by omega)]; exact c1
  · rw [putV_o (by omega) (by omega) (by omega)]; exact c3
  · unfold adM
    rw [jv_Unj (by omega), jv_U_other (by omega), jv_U_other (by omega), jv_U_other (by omega), jv_U_other (by omega), jv_U_other (by omega)]; exact m1
  · unfold adM
    rw [jv_Ueq]
  · unfold adM
    rw [jv_Unj (by omega), jv_U_other (by omega), jv_U_other (by omega), jv_U_other (by omega), jv_U_other (by omega), jv_U_other (by omega)]; exact m3
  · by_cases e : k = K
    · subst e; rw [a3]; exact nI_ne0 (by omega) (by omega)
    · rw [adM_k (by omega) e]; exact m8 k (by omega)
  · obtain ⟨h1, h2, h3, h4, h5, h6⟩ := H.2.2.2.2.1
    refine ⟨fun k hk => ?_, h2.congr ?_ ?_ ?_ ?_, ?_, ?_, ?_, ?_⟩
    · by_cases e : k = K
      · subst e
        refine ⟨lo, hi, ev, wt, ?_, ?_, ?_, ?_, hl, by omega, he, hev, h1w, h9w, fun c hc => ?_, ?_, ?_, ?_⟩
        · rw [mg_hi (by omega)]; exact a1
        · rw [mg_hi (by omega)]; exact a2
        · rw [mg_hi (by omega)]; exact a3
        · rw [mg_hi (by omega), a4]; exact hw
        · rw [mg_lo (by omega)]
          unfold putV
          rw [jv_U_other (by omega)]
          unfold jv_fill
          rw [if_pos ⟨rfl, hc⟩]
        · rw [mg_L hK3, mg_132, a5]
          unfold putV
          rw [jv_U_other (by omega), jv_fill_o (by omega), jv_Unj (by omega), jv_Ueq]
        · rw [mg_lo (by omega)]
          unfold putV
          rw [jv_U_other (by omega), jv_fill_o (by omega), jv_Ueq]; exact hw
        · rw [mg_hi (by omega), a5]; exact Or.inr nI1_1
      · obtain ⟨lo', hi', ev', wt', e1, e2, e3, e4, d1, d2, d3, d4, d5, d6, d7, d8, d9, d10⟩ := h1 k (by omega)
        rw [mg_hi (by omega)] at e1 e2 e3 e4 d10
        rw [mg_lo (by omega)] at d7 d9
        rw [mg_L (show k < 4 by omega), mg_132] at d8
        refine ⟨lo', hi', ev', wt', ?_, ?_, ?_, ?_, d1, d2, d3, d4, d5, d6, fun c hc => ?_, ?_, ?_, ?_⟩
        · rw [mg_hi (by omega), adM_k (by omega) e]; exact e1
        · rw [mg_hi (by omega), adM_k (by omega) e]; exact e2
        · rw [mg_hi (by omega), adM_k (by omega) e]; exact e3
        · rw [mg_hi (by omega), adM_k (by omega) e]; exact e4
        · rw [mg_lo (by omega), putV_o (by omega) (by omega) (by omega)]; exact d7 c hc
        · rw [mg_L (show k < 4 by omega), mg_132, putV_o (by omega) (by omega) (by omega), adM_k (by omega) e]; exact d8
        · rw [mg_lo (by omega), putV_o (by omega) (by omega) (by omega)]; exact d9
        · rw [mg_hi (by omega), adM_k (by omega) e]; exact d10
    · rw [mg_lo (by omega), mg_lo (by omega), putV_o (by omega) (by omega) (by omega)]
    · rw [mg_lo (by omega), mg_lo (by omega), putV_o (by omega) (by omega) (by omega)]
    · rw [mg_hi (by omega), mg_hi (by omega), adM_o (by omega)]
    · rw [mg_hi (by omega), mg_hi (by omega), adM_o (by omega)]
    · rw [putV_o (by omega) (by omega) (by omega), adM_o (by omega)]; exact h3
    · rw [putV_o (by omega) (by omega) (by omega), adM_o (by omega)]; exact h4
    · rw [adM_o (by omega)]; exact h5
    · rw [adM_o (by omega)]; exact h6
theorem INV.gain {V W : Nat → Nat → Int32} {N K R t l f c : Nat} (H : INV V W N K R t) (hl : l < K) (hf : f < N) (hc : c < N) : INV (gbV V N K l f) (gm2 W N K l f) N K R t ∧ gbR (gb1 V N K l f 29 c) (gb2 V N K l f 29 c) = gbR (wwM (t0 W) N K l f (nI 1) 137 c) (wwM (gm1 W N K l f) N K l f (nI 0) 137 c) := by
  have hN := H.N12
  have hK := H.K4
  have H0 := H.tz
  obtain ⟨e1, e2⟩ := H0.2.2.2.2.1.run hK hl
  have A : INV (letL V N K l (nI 1)) (jv_U (t0 W) 132 l (nI 1)) N K R t := H0.lrun hl nI01b
  have Y1 : Wy (gb1 V N K l f) (wwM (t0 W) N K l f (nI 1)) N f := ways_alike A.wp hN hf
  have B : INV (gb1 V N K l f) (wwM (t0 W) N K l f (nI 1)) N K R t := A.way
  have C : INV (letL (gb1 V N K l f) N K l (nI 0)) (jv_U (wwM (t0 W) N K l f (nI 1)) 132 l (nI 0)) N K R t := B.lrun hl nI01a
  have x2 : jv_U (gm1 W N K l f) 132 l (nI 0) = jv_U (wwM (t0 W) N K l f (nI 1)) 132 l (nI 0) := jv_U_again
  rw [← x2] at C
  have Y2 : Wy (gb2 V N K l f) (wwM (gm1 W N K l f) N K l f (nI 0)) N f := ways_alike C.wp hN hf
  have D : INV (gb2 V N K l f) (wwM (gm1 W N K l f) N K l f (nI 0)) N K R t := C.way
  have g : gm1 W N K l f 132 l = t0 W 132 l := by unfold gm1 wwV; rw [jv_Ueq]
  have E : INV (letL (gb2 V N K l f) N K l (V (20 + 2 * l) 0)) (jv_U (wwM (gm1 W N K l f) N K l f (nI 0)) 132 l (gm1 W N K l f 132 l)) N K R t := by
    rw [g, e1]; exact D.lrun hl e2
  refine ⟨E, ?_⟩
  rw [(Y1.2 c hc).1, (Y2.2 c hc).1]
