/-! ===== rumours, denials, hours on both sides ===== -/
theorem cl1_at {V : Nat → Nat → Int32} {a c : Nat} (ha : a < 96) : cl1 V a 135 c = if c % 96 = a ∧ c < 864 then (if c < 96 then nI 0 else -1) else V 135 c := by
  unfold cl1 clW
  by_cases h : c % 96 = a ∧ c < 864
  · rw [if_pos h]
    by_cases h2 : c < 96
    · rw [if_pos h2, if_neg (fun d => by have := d.2.2.1; omega)]
      have e : c = 0 + a := by omega
      rw [e, jv_Ueq]
    · rw [if_neg h2, if_pos ⟨rfl, h.1, by omega, h.2⟩]
  · rw [if_neg h, if_neg (fun d => h ⟨d.2.1, d.2.2.2⟩)]
    have e : c ≠ 0 + a := fun e => h (by omega)
    rw [jv_Unj e]
theorem cl1_o {V : Nat → Nat → Int32} {a q : Nat} (h : q ≠ 135) : cl1 V a q = V q := by
  funext c
  unfold cl1 clW
  rw [if_neg (fun d => h d.1), jv_Une h]
theorem clL_o {r q : Nat} (h : q ≠ 135) : ∀ m i V, clL r m i V q = V q := by
  intro m
  induction m with
  | zero => intro i V; rfl
  | succ m ih =>
    intro i V
    show clL r m (i + 1) _ q = _
    rw [ih, cl1_o h]
theorem clL_at {r : Nat} (hr : r < 8) : ∀ m i V c, i + m ≤ 12 → clL r m i V 135 c = if (12 * r + i ≤ c % 96 ∧ c % 96 < 12 * r + i + m) ∧ c < 864 then (if c < 96 then nI 0 else -1) else V 135 c := by
  intro m
  induction m with
  | zero => intro i V c _; rw [if_neg (fun d => by have := d.1; omega)]; rfl
  | succ m ih =>
    intro i V c hi
    show clL r m (i + 1) _ 135 c = _
    rw [ih _ _ _ (by omega), cl1_at (by omega)]
    by_cases h : (12 * r + i ≤ c % 96 ∧ c % 96 < 12 * r + i + (m + 1)) ∧ c < 864
    · rw [if_pos h]
      by_cases h2 : c % 96 = 12 * r + i
      · rw [if_neg (fun d => by have := d.1.1; omega), if_pos ⟨h2, h.2⟩]
      · rw [if_pos ⟨⟨by omega, by omega⟩, h.2⟩]
    · rw [if_neg h, if_neg (fun d => h ⟨⟨by have := d.1.1; omega, by have := d.1.2; omega⟩, d.2⟩), if_neg (fun d => h ⟨⟨by have := d.1; omega, by have := d.1; omega⟩, d.2⟩)]
theorem Tch.cl {R : Nat} {W : Nat → Nat → Int32} (hR : R < 8) : Tch R W (clL R 12 0 W) := by
  refine ⟨fun q hq => clL_o hq _ _ _, fun c hc => ?_⟩
  rw [clL_at hR _ _ _ _ (by omega), if_neg]
  intro d
  apply hc
  have := d.1
  exact ⟨d.2, by omega⟩
/-- a rumour's rows before it comes to its floor -/
theorem stI_at {V : Nat → Nat → Int32} {r o f : Nat} (h1 : 1 ≤ o) (h9 : o ≤ 9) (hf : f < 12) : stI V r 12 (r + o) f = if o = 1 then nI 0 else -1 := by
  unfold stI
  rw [if_pos ⟨hf, by omega, by omega⟩]
  by_cases e : o = 1
  · subst e; rw [if_pos rfl, if_pos rfl]
  · rw [if_neg (by omega), if_neg e]
theorem m1_le : (-1 : Int32) ≤ nI 20 := by decide +kernel
theorem z_le : nI 0 ≤ nI 20 := by decide +kernel
theorem srM_o {V : Nat → Nat → Int32} {R f q : Nat} {y : Int32} (h : q ≠ 123) (h1 : q ≠ 133) (h2 : q ≠ 134) (h3 : q ≠ 135) : srM V R f y q = V q := by
  unfold srM
  rw [heM_out h3, clL_o h3, jv_U_other h2, jv_U_other h1, jv_U_other h]
theorem staR_o {V : Nat → Nat → Int32} {r f q : Nat} {y h : Int32} (hq : q < r ∨ r + 9 < q) : staR V r f y h q = V q := by
  unfold staR
  rw [brR_out (by unfold Rout; omega), stI_out (by unfold Rout; omega), jv_U_other (by omega), jv_U_other (by omega)]
theorem staR_r {V : Nat → Nat → Int32} {r f : Nat} {y h : Int32} : staR V r f y h r 0 = nI f ∧ staR V r f y h r 1 = y := by
  unfold staR
  rw [brR_out (by unfold Rout; omega), stI_out (by unfold Rout; omega), jv_Unj (by omega), jv_Ueq, jv_Ueq]
  exact ⟨rfl, rfl⟩
theorem INV.started {V W : Nat → Nat → Int32} {N K R t f : Nat} {y : Int32} (H : INV V W N K R t) (hf : f < N) (hy : y ≤ nI 20) (hR7 : R < 8) : INV (jv_U (staR V (43 + 10 * R) f y (V 0 5)) 0 4 (nI (R + 1))) (srM W R f y) N K (R + 1) t := by
  obtain ⟨hC, h5, hM, h8, hT, hP, hO, hS⟩ := H
  obtain ⟨c1, c2, c3, c4, hN, hK, c7⟩ := hC
  obtain ⟨m1, m2, m3, m4, m5, m6, m7, m8⟩ := hM
  let W1 : Nat → Nat → Int32 := jv_U (jv_U (jv_U W 123 3 (nI (R + 1))) 133 R (nI f)) 134 R y
  have w1 : ∀ q, 124 ≤ q → q ≤ 132 → W1 q = W q := fun q g1 g2 => by show jv_U _ _ _ _ q = _; rw [jv_U_other (by omega), jv_U_other (by omega), jv_U_other (by omega)]
  have w5 : W1 135 = W 135 := by show jv_U _ _ _ _ 135 = _; rw [jv_U_other (by omega), jv_U_other (by omega), jv_U_other (by omega)]
  have S1 : SimA V W1 N K R (nI t) := hS.to c7 (fun q g1 g2 => rfl) (fun c hc => by rw [w1 125 (by omega) (by omega)]; exact (hT.2.2.2.1 c hc).1) (fun a b ha hb => by rw [hoM_congr (V := W) (fun q g1 g2 => w1 q (by omega) (by omega))]; exact hP a b ha hb) (fun c _ => by rw [w5]) (fun j hj => by show jv_U _ _ _ _ 134 j = _; rw [jv_Unj (by omega), jv_U_other (by omega), jv_U_other (by omega)])
  have TC : Tch R W1 (srM W R f y) := (Tch.cl (W := W1) hR7).he hR7 (by omega)
  have s134 : srM W R f y 134 = W1 134 := TC.1 134 (by omega)
  have s135 : srM W R f y 135 864 = nI t := by rw [TC.2 864 (by omega), w5]; exact h8
  have base : Sim (stI (jv_U (jv_U V (43 + 10 * R) 0 (nI f)) (43 + 10 * R) 1 y) (43 + 10 * R) 12) (clL R 12 0 W1) (43 + 10 * R) R N K (nI t) := by
    refine ⟨fun o c g1 g9 hc => ?_, fun c hc => ?_, fun a b ha hb => ?_, ?_, ?_⟩
    · rw [stI_at g1 g9 hc, clL_at hR7 _ _ _ _ (by omega)]
      have ho : o = 1 ∨ o = 2 ∨ o = 3 ∨ o = 4 ∨ o = 5 ∨ o = 6 ∨ o = 7 ∨ o = 8 ∨ o = 9 := by omega
      rcases ho with e | e | e | e | e | e | e | e | e <;> subst e
      · show nI 0 = _
        rw [show fo 1 = 0 from rfl, if_pos ⟨by omega, by omega⟩, if_pos (by omega)]
      · show (-1 : Int32) = _
        rw [show fo 2 = 96 from rfl, if_pos ⟨by omega, by omega⟩, if_neg (by omega)]
      · show (-1 : Int32) = _
        rw [show fo 3 = 288 from rfl, if_pos ⟨by omega, by omega⟩, if_neg (by omega)]
      · show (-1 : Int32) = _
        rw [show fo 4 = 192 from rfl, if_pos ⟨by omega, by omega⟩, if_neg (by omega)]
      · show (-1 : Int32) = _
        rw [show fo 5 = 384 from rfl, if_pos ⟨by omega, by omega⟩, if_neg (by omega)]
      · show (-1 : Int32) = _
        rw [show fo 6 = 480 from rfl, if_pos ⟨by omega, by omega⟩, if_neg (by omega)]
      · show (-1 : Int32) = _
        rw [show fo 7 = 576 from rfl, if_pos ⟨by omega, by omega⟩, if_neg (by omega)]
      · show (-1 : Int32) = _
        rw [show fo 8 = 672 from rfl, if_pos ⟨by omega, by omega⟩, if_neg (by omega)]
      · show (-1 : Int32) = _
        rw [show fo 9 = 768 from rfl, if_pos ⟨by omega, by omega⟩, if_neg (by omega)]
    · rw [stI_out (by unfold Rout; omega), jv_U_other (by omega), jv_U_other (by omega), clL_o (by omega), w1 125 (by omega) (by omega)]; exact (hT.2.2.2.1 c hc).1
    · rw [stI_out (by unfold Rout; omega), jv_U_other (by omega), jv_U_other (by omega), hoM_congr (V := W) (fun q g1 g2 => by rw [clL_o (by omega), w1 q (by omega) (by omega)])]; exact hP a b ha hb
    · rw [clL_at hR7 _ _ _ _ (by omega), if_neg (fun d => by have := d.2; omega), w5]; exact h8
    · rw [stI_out (by unfold Rout; omega), jv_Ueq, clL_o (by omega)]; show y = jv_U _ _ _ _ 134 R; rw [jv_Ueq]
  have bdb : Bd (stI (jv_U (jv_U V (43 + 10 * R) 0 (nI f)) (43 + 10 * R) 1 y) (43 + 10 * R) 12) (43 + 10 * R) := by
    refine ⟨?_, fun c hc => ⟨?_, ?_⟩⟩
    · rw [stI_out (by unfold Rout; omega), jv_Ueq]; exact hy
    · rw [stI_at (by omega) (by omega) hc]; exact m1_le
    · rw [stI_at (by omega) (by omega) hc]; exact m1_le
  have zrb : Zr (staR V (43 + 10 * R) f y (V 0 5)) (43 + 10 * R) := by
    intro c hc h1
    unfold staR at h1 ⊢
    by_cases e : c = f
    · subst e; exact absurd h1 brR_s
    · rw [brR_ne e, stI_at (by omega) (by omega) hc]; rfl
  have SS : SimA (staR V (43 + 10 * R) f y (V 0 5)) (srM W R f y) N K (R + 1) (nI t) := by
    intro j hj
    by_cases e : j = R
    · subst e
      refine ⟨?_, bdb.hear z_le, zrb⟩
      rw [h5]
      exact base.hear (by omega) hR7 hN (by omega)
    · obtain ⟨s, b, z⟩ := S1 j (by omega)
      have ho : ∀ q, (q < 43 + 10 * R ∨ 43 + 10 * R + 9 < q) → staR V (43 + 10 * R) f y (V 0 5) q = V q := fun q hq => staR_o hq
      exact ⟨s.other e (by omega) hN TC _ ho, b.other (fun o _ => ho _ (by omega)), z.other (fun o _ => ho _ (by omega))⟩
  have V2 : ∀ q, q ≠ 0 → jv_U (staR V (43 + 10 * R) f y (V 0 5)) 0 4 (nI (R + 1)) q = staR V (43 + 10 * R) f y (V 0 5) q := fun q hq => jv_U_other hq
  have W2 : ∀ q, 124 ≤ q → q ≤ 132 → srM W R f y q = W q := fun q g1 g2 => srM_o (by omega) (by omega) (by omega) (by omega)
  have hT' : TW (jv_U (staR V (43 + 10 * R) f y (V 0 5)) 0 4 (nI (R + 1))) (srM W R f y) K := hT.to hK (fun q hq => by rw [V2 q (by omega), staR_o (by omega)]) (fun q g1 g2 => W2 q g1 g2)
  have hP' : PW (jv_U (staR V (43 + 10 * R) f y (V 0 5)) 0 4 (nI (R + 1))) (srM W R f y) N K := fun a b ha hb => by
    rw [V2 _ (by omega), staR_o (by omega), hoM_congr (V := W) (fun q g1 g2 => W2 q (by omega) g2)]; exact hP a b ha hb
  have w123 : ∀ c, c ≠ 3 → srM W R f y 123 c = W 123 c := fun c hc => by rw [TC.1 123 (by omega)]; show jv_U _ _ _ _ 123 c = _; rw [jv_U_other (by omega), jv_U_other (by omega), jv_Unj hc]
  refine ⟨⟨?_, ?_, ?_, c4, hN, hK, by omega⟩, ?_, ⟨?_, ?_, ?_, m4, m5, m6, by omega, fun k hk => ?_⟩, s135, hT', hP', fun j hj => ?_, ?_⟩
  · rw [V2 1 (by omega), staR_o (by omega)]; exact c1
  · rw [V2 1 (by omega), staR_o (by omega)]; exact c2
  · rw [jv_Ueq]
  · rw [jv_Unj (by omega), staR_o (by omega)]; exact h5
  · rw [w123 1 (by omega)]; exact m1
  · rw [w123 2 (by omega)]; exact m2
  · rw [TC.1 123 (by omega)]; show jv_U _ _ _ _ 123 3 = _; rw [jv_U_other (by omega), jv_U_other (by omega), jv_Ueq]
  · rw [W2 130 (by omega) (by omega)]; exact m8 k hk
  · rw [V2 _ (by omega), TC.1 133 (by omega)]
    show _ = jv_U _ _ _ _ 133 j
    rw [jv_U_other (by omega : 133 ≠ 134)]
    by_cases e : j = R
    · subst e; rw [staR_r.1, jv_Ueq]
    · rw [staR_o (by omega), jv_Unj e, jv_U_other (by omega)]; exact hO j (by omega)
  · exact SS.to (by omega) (fun q g1 g2 => V2 q (by omega)) (fun c hc => (hT'.2.2.2.1 c hc).1) hP' (fun c _ => rfl) (fun j _ => rfl)
theorem INV.denied {V W : Nat → Nat → Int32} {N K R t j f : Nat} (H : INV V W N K R t) (hj : j < R) (hf : f < N) : INV (brD V (43 + 10 * j) f (V 0 5)) (deM W (12 * j + f)) N K R t ∧ hdB V (43 + 10 * j) f = hdM W (12 * j + f) f ∧ V (43 + 10 * j + 1) f = W 135 (0 + (12 * j + f)) := by
  have hN := H.N12
  have hR := H.R8
  have hK := H.K4
  have S := H.sim hj
  have e1 : V (43 + 10 * j + 1) f = W 135 (0 + (12 * j + f)) := S.1 1 f (by omega) (by omega) (by omega)
  have hd : V 2 f = W 124 f := H.hd f (by omega)
  obtain ⟨hC, h5, hM, h8, hT, hP, hO, hS⟩ := H
  have vo : ∀ q, q < 43 + 10 * j + 1 ∨ 43 + 10 * j + 9 < q → brD V (43 + 10 * j) f (V 0 5) q = V q := fun q hq => brD_out hq
  have TC : Tch j W (deM W (12 * j + f)) := (Tch.refl j W).de (by omega) (by omega)
  have wo : ∀ q, q ≠ 135 → deM W (12 * j + f) q = W q := fun q hq => deM_out hq
  refine ⟨⟨hC.o (vo 0 (by omega)) (vo 1 (by omega)), by rw [vo 0 (by omega)]; exact h5, hM.o (wo 123 (by omega)) (wo 130 (by omega)), by rw [TC.2 864 (by omega)]; exact h8, hT.to hK (fun q h => vo q (by omega)) (fun q h1 h2 => wo q (by omega)), fun a b ha hb => ?_, fun i hi => ?_, fun i hi => ?_⟩, ?_, e1⟩
  · rw [vo _ (by omega), hoM_congr (V := W) (fun q h1 h2 => wo q (by omega))]; exact hP a b ha hb
  · rw [vo _ (by omega), wo _ (by omega)]; exact hO i hi
  · obtain ⟨s, b, z⟩ := hS i hi
    by_cases e : i = j
    · subst e
      rw [h5]
      exact ⟨s.deny (by omega) (by omega) hN (by omega), b.deny, z.deny⟩
    · exact ⟨s.other e (by omega) hN TC _ (fun q hq => vo q (by omega)), b.other (fun o _ => vo _ (by omega)), z.other (fun o _ => vo _ (by omega))⟩
  · unfold hdB hdM
    rw [e1, hd]
theorem inV_r {N j : Nat} {h : Int32} : ∀ m i V, inV N h m i V (43 + 10 * j) = V (43 + 10 * j) := by
  intro m
  induction m with
  | zero => intro i V; rfl
  | succ m ih =>
    intro i V
    show inV N h m (i + 1) _ (43 + 10 * j) = _
    rw [ih, phV_out (by unfold Rout; omega)]
theorem alV_o {N R q : Nat} {V : Nat → Nat → Int32} (h : q < 43 ∨ ∃ j, q = 43 + 10 * j) (h0 : q ≠ 0) : alV N R V q = V q := by
  unfold alV
  rw [jv_U_other h0]
  rcases h with h | ⟨j, rfl⟩
  · exact inV_out h _ _ _
  · exact inV_r _ _ _
theorem ouV_o {N R q : Nat} (h : q < 43 ∨ ∃ j, q = 43 + 10 * j) (h0 : q ≠ 0) : ∀ m V, ouV N R m V q = V q := by
  intro m
  induction m with
  | zero => intro V; rfl
  | succ m ih =>
    intro V
    show ouV N R m _ q = _
    rw [ih, alV_o h h0]
theorem ouV_0 {N R c : Nat} (h : c ≠ 5) : ∀ m V, ouV N R m V 0 c = V 0 c := by
  intro m
  induction m with
  | zero => intro V; rfl
  | succ m ih =>
    intro V
    show ouV N R m _ 0 c = _
    rw [ih]
    unfold alV
    rw [jv_Unj h, inV_out (by omega)]
theorem ouM_o {N K R q : Nat} (h : q ≠ 135) : ∀ m W, ouM N K R m W q = W q := by
  intro m
  induction m with
  | zero => intro W; rfl
  | succ m ih =>
    intro W
    show ouM N K R m _ q = _
    rw [ih, houM_out h]
theorem hfM_864 {W : Nat → Nat → Int32} {N K i : Nat} (hi : i < 8) (hN : N ≤ 12) : hfM W N K i 135 864 = W 135 864 := (Tch.hour hi hN).2 864 (by omega)
theorem hqL_864 {N K : Nat} (hN : N ≤ 12) : ∀ m i W, i + m ≤ 8 → hqL N K m i W 135 864 = W 135 864 := by
  intro m
  induction m with
  | zero => intro i W _; rfl
  | succ m ih =>
    intro i W hi
    show hqL N K m (i + 1) _ 135 864 = _
    rw [ih _ _ (by omega), hfM_864 (by omega) hN]
theorem ouM_864 {N K R : Nat} (hN : N ≤ 12) (hR : R ≤ 8) : ∀ m t W, W 135 864 = nI t → ouM N K R m W 135 864 = nI (t + m) := by
  intro m
  induction m with
  | zero => intro t W h; exact h
  | succ m ih =>
    intro t W h
    show ouM N K R m _ 135 864 = _
    rw [ih (t + 1) _ (by unfold houM hoN; rw [jv_Ueq, hqL_864 hN _ _ _ (by omega), h, nI_add]), show t + 1 + m = t + (m + 1) by omega]
theorem INV.pass {V W : Nat → Nat → Int32} {N K R t m : Nat} (H : INV V W N K R t) (ht : t + m ≤ 2 ^ 30) : INV (ouV N R m V) (ouM N K R m W) N K R (t + m) ∧ ouN N R m V (nI 0) = nI (haA (ouM N K R m W) N R 0 0) - nI (haA W N R 0 0) := by
  have hN := H.N12
  have hR := H.R8
  have hK := H.K4
  obtain ⟨hC, h5, hM, h8, hT, hP, hO, hS⟩ := H
  obtain ⟨p1, p2, -⟩ := pass_all hN hR m V W t (nI 0) ht h5 hS
  have p3 := pass_news hN hR ht h5 hS
  refine ⟨⟨hC.to (ouV_0 (by omega) _ _) (ouV_o (Or.inl (by omega)) (by omega) _ _), p2, hM.o (ouM_o (by omega) _ _) (ouM_o (by omega) _ _), ouM_864 hN hR _ _ _ h8, hT.to hK (fun q h => ouV_o (Or.inl (by omega)) (by omega) _ _) (fun q h1 h2 => ouM_o (by omega) _ _), fun a b ha hb => ?_, fun j hj => ?_, p1⟩, p3.symm⟩
  · rw [ouV_o (Or.inl (by omega)) (by omega), hoM_congr (V := W) (fun q h1 h2 => ouM_o (by omega) _ _)]; exact hP a b ha hb
  · rw [ouV_o (Or.inr ⟨j, rfl⟩) (by omega), ouM_o (by omega)]; exact hO j hj
