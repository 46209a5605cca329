/-! ===== looks ahead against the hours themselves ===== -/
/-- alike but for the working rows; the pipes among the floors are alike -/
def EqB (N : Nat) (V' V : Nat → Nat → Int32) : Prop := (∀ q, q < 123 → ¬ (8 ≤ q ∧ q ≤ 19) → ¬ (29 ≤ q ∧ q ≤ 31) → ¬ (33 ≤ q ∧ q ≤ 42) → V' q = V q) ∧ ∀ a b, a < N → b < N → V' (8 + a) b = V (8 + a) b
theorem EqB.refl {N : Nat} {V : Nat → Nat → Int32} : EqB N V V := ⟨fun _ _ _ _ _ => rfl, fun _ _ _ _ => rfl⟩
theorem EqB.trans {N : Nat} {A B C : Nat → Nat → Int32} (h1 : EqB N A B) (h2 : EqB N B C) : EqB N A C := ⟨fun q a b c d => (h1.1 q a b c d).trans (h2.1 q a b c d), fun a b c d => (h1.2 a b c d).trans (h2.2 a b c d)⟩
theorem EqV.b {N : Nat} {V' V : Nat → Nat → Int32} (hN : N ≤ 12) (h : EqV V' V) : EqB N V' V := ⟨fun q a _ c d => h q a c d, fun a b c _ => by rw [h (8 + a) (by omega) (by omega) (by omega)]⟩
theorem INV.toB {V W V' : Nat → Nat → Int32} {N K R t : Nat} (H : INV V W N K R t) (e1 : EqB N V' V) : INV V' W N K R t := by
  obtain ⟨hC, h5, hM, h8, hT, hP, hO, hS⟩ := H
  have hN := hC.2.2.2.2.1
  have hK := hC.2.2.2.2.2.1
  have hR := hC.2.2.2.2.2.2
  have hP' : PW V' W N K := fun a b ha hb => (e1.2 a b ha hb).trans (hP a b ha hb)
  have hT' : TW V' W K := hT.to hK (fun q h => e1.1 q (by omega) (by omega) (by omega) (by omega)) (fun q h1 h2 => rfl)
  refine ⟨hC.o (e1.1 0 (by omega) (by omega) (by omega) (by omega)) (e1.1 1 (by omega) (by omega) (by omega) (by omega)), by rw [e1.1 0 (by omega) (by omega) (by omega) (by omega)]; exact h5, hM, h8, hT', hP', fun j hj => ?_, ?_⟩
  · rw [e1.1 _ (by omega) (by omega) (by omega) (by omega)]; exact hO j hj
  · exact hS.to hR (fun q h1 h2 => e1.1 q h2 (by omega) (by omega) (by omega)) (fun f hf => (hT'.2.2.2.1 f hf).1) hP' (fun _ _ => rfl) (fun j _ => rfl)
theorem TS.eqB {V V' : Nat → Nat → Int32} {N K R t : Nat} (H : TS V N K R t) (h : EqB N V' V) : TS V' N K R t := by
  have hR := H.R8
  obtain ⟨⟨W, h1⟩, h2⟩ := H
  exact ⟨⟨W, h1.toB h⟩, fun j hj => (h2 j hj).cg (fun o ho => h.1 _ (by omega) (by omega) (by omega) (by omega))⟩
theorem REP.eqB {tg pl : Nat → Nat} {n : Nat} {sh : Nat → jv_S} {V V' : Nat → Nat → Int32} {N K R : Nat} (H : REP tg pl n sh V V N K R) (h : EqB N V' V) (hV : ∀ q, 123 ≤ q → V' q = V q) : REP tg pl n sh V' V' N K R :=
  H.cls hV (by rw [h.1 0 (by omega) (by omega) (by omega) (by omega)]) (fun q hq => h.1 q (by omega) (by omega) (by omega) (by omega))
theorem FA_eqB {V V' : Nat → Nat → Int32} {N R : Nat} (hR : R ≤ 8) (h : EqB N V' V) : FA V' N R = FA V N R := FA_cg hR (fun q h1 h2 => h.1 q h2 (by omega) (by omega) (by omega))
theorem TS.pg {V : Nat → Nat → Int32} {N K R t : Nat} (H : TS V N K R t) : PG V N := by
  have hce := H.ce
  refine ⟨H.N2, H.N12, fun a b ha hb => ⟨?_, (hce.2.1 a b ha hb).2⟩, hce.2.2.1⟩
  rw [(hce.2.1 a b ha hb).1, (hce.2.1 b a hb ha).1]
  unfold layX
  by_cases e : a = b
  · subst e; rfl
  · rw [if_neg (show ¬ 8 + a = 8 + b by omega), if_neg (show ¬ 8 + b = 8 + a by omega), Nat.add_sub_cancel_left, Nat.add_sub_cancel_left]
    by_cases c : a < b
    · rw [if_pos (by omega), if_neg (by omega)]
    · rw [if_neg (by omega), if_pos (by omega)]
/-! what looks keep -/
theorem shu_b {V : Nat → Nat → Int32} {N K f q : Nat} {b : Int32} (hN : N ≤ 12) (h : q < 8 ∨ 20 ≤ q) (h5 : q ≠ 5) : shuV V N K f b q = V q := by
  unfold shuV
  rw [layV_out (by omega), jv_U_other h5]
theorem sho_q {V : Nat → Nat → Int32} {N K j i q : Nat} (hN : N ≤ 12) (h5 : V 5 i = nI 1) (h : q < 8 ∨ 20 ≤ q) (h2 : ¬ (33 ≤ q ∧ q ≤ 42)) : shoV V N K j i q = V q := by
  unfold shoV
  by_cases e : q = 5
  · subst e
    unfold shuV
    rw [layV_out (by omega), jv_U_self]
    unfold shtV
    rw [triV_out (by omega)]
    unfold shuV
    rw [layV_out (by omega), jv_U_self]
    funext c
    show (if c = i then nI 1 else (if c = i then nI 0 else V 5 c)) = V 5 c
    by_cases ec : c = i
    · rw [if_pos ec, ec, h5]
    · rw [if_neg ec, if_neg ec]
  · rw [shu_b hN h e]
    unfold shtV
    rw [triV_out (by omega), shu_b hN h e]
theorem bs_q {N K j : Nat} (hN : N ≤ 12) : ∀ m i V b l, i + m ≤ 12 → (∀ f, f < 12 → V 5 f = 0 ∨ V 5 f = nI 1) → (∀ q, (q < 8 ∨ 20 ≤ q) → ¬ (33 ≤ q ∧ q ≤ 42) → (bsL N K j m i V b l).1 q = V q) ∧ ((∀ c, b = some c → c < i ∧ ¬ V 5 c = 0) → ∀ c, (bsL N K j m i V b l).2 = some c → c < i + m ∧ ¬ V 5 c = 0) := by
  intro m
  induction m with
  | zero => intro i V b l _ _; exact ⟨fun _ _ _ => rfl, fun h c hc => ⟨by have := (h c hc).1; omega, (h c hc).2⟩⟩
  | succ m ih =>
    intro i V b l hi h5
    unfold bsL
    by_cases c : V 5 i = 0
    · rw [if_pos c]
      obtain ⟨h1, h2⟩ := ih (i + 1) V b l (by omega) h5
      exact ⟨h1, fun h d hd => by
        obtain ⟨x, y⟩ := h2 (fun c hc => ⟨by have := (h c hc).1; omega, (h c hc).2⟩) d hd
        exact ⟨by omega, y⟩⟩
    · rw [if_neg c]
      have e : ∀ q, (q < 8 ∨ 20 ≤ q) → ¬ (33 ≤ q ∧ q ≤ 42) → shoV V N K j i q = V q := fun q h1 h2 => sho_q hN ((h5 i (by omega)).resolve_left c) h1 h2
      have e5 := e 5 (by omega) (by omega)
      have h5' : ∀ f, f < 12 → shoV V N K j i 5 f = 0 ∨ shoV V N K j i 5 f = nI 1 := fun f hf => by rw [e5]; exact h5 f hf
      split
      · obtain ⟨h1, h2⟩ := ih (i + 1) (shoV V N K j i) b l (by omega) h5'
        rw [e5] at h2
        exact ⟨fun q a d => (h1 q a d).trans (e q a d), fun h d hd => by
          obtain ⟨x, y⟩ := h2 (fun c hc => ⟨by have := (h c hc).1; omega, (h c hc).2⟩) d hd
          exact ⟨by omega, y⟩⟩
      · obtain ⟨h1, h2⟩ := ih (i + 1) (shoV V N K j i) (some i) (hbL (shtV V N K j i) 33 N 0 (nI 0)) (by omega) h5'
        rw [e5] at h2
        exact ⟨fun q a d => (h1 q a d).trans (e q a d), fun h d hd => by
          obtain ⟨x, y⟩ := h2 (fun c' hc => by cases hc; exact ⟨by omega, c⟩) d hd
          exact ⟨by omega, y⟩⟩
theorem TS.op1 {V : Nat → Nat → Int32} {N K R t : Nat} (H : TS V N K R t) : ∀ f, f < 12 → V 5 f = 0 ∨ V 5 f = nI 1 := H.op
/-- two states that are towers, alike but for the working rows -/
theorem EqB.of {V V' : Nat → Nat → Int32} {N K R t : Nat} (H : TS V N K R t) (H' : TS V' N K R t) (h : ∀ q, q < 123 → ¬ (8 ≤ q ∧ q ≤ 19) → ¬ (29 ≤ q ∧ q ≤ 31) → ¬ (33 ≤ q ∧ q ≤ 42) → V' q = V q) : EqB N V' V := by
  have hN := H.N12
  have hK := H.K4
  refine ⟨h, fun a b ha hb => ?_⟩
  have hce := H.ce
  have hce' := H'.ce
  rw [(hce'.2.1 a b ha hb).1, (hce.2.1 a b ha hb).1]
  exact layX_cg hK (h 4 (by omega) (by omega) (by omega) (by omega)) (h 5 (by omega) (by omega) (by omega) (by omega)) (fun q h1 h2 => h q (by omega) (by omega) (by omega) (by omega))
theorem dg_q {N K : Nat} (hN : N ≤ 12) : ∀ m i V d, (∀ f, f < 12 → V 5 f = 0 ∨ V 5 f = nI 1) → ∀ q, (q < 8 ∨ 20 ≤ q) → ¬ (33 ≤ q ∧ q ≤ 42) → (dgR N K m i V d).1 q = V q := by
  intro m
  induction m with
  | zero => intro i V d _ q _ _; rfl
  | succ m ih =>
    intro i V d h5 q h1 h2
    have e3 : ∀ q, ¬ (33 ≤ q ∧ q ≤ 42) → triV (wr3 V N i) N i q = V q := fun q h => by
      rw [triV_out (by omega)]
      unfold wr3 wr2 wr1
      rw [bdV_out (by omega), triD_out (by omega), triV_out (by omega), triV_out (by omega)]
    have e : ∀ q, (q < 8 ∨ 20 ≤ q) → ¬ (33 ≤ q ∧ q ≤ 42) → (wrX V N K i).1 q = V q := fun q h1 h2 => by
      unfold wrX
      rw [(bs_q hN (N - 1) 0 _ none _ (by omega) (fun f hf => by rw [e3 5 (by omega)]; exact h5 f hf)).1 q h1 h2, e3 q h2]
    show (dgR N K m (i + 1) (wrX V N K i).1 _).1 q = V q
    rw [ih (i + 1) (wrX V N K i).1 _ (fun f hf => by rw [e 5 (by omega) (by omega)]; exact h5 f hf) q h1 h2, e q h1 h2]
theorem TS.dig {V : Nat → Nat → Int32} {N K R t : Nat} (H : TS V N K R t) (ht : t ≤ 2 ^ 29) : TS (dgX V N K R).1 N K R t ∧ EqB N (dgX V N K R).1 V := by
  have hN := H.N12
  have hR := H.R8
  have e : ∀ q, q < 123 → ¬ (8 ≤ q ∧ q ≤ 19) → ¬ (29 ≤ q ∧ q ≤ 31) → ¬ (33 ≤ q ∧ q ≤ 42) → (dgX V N K R).1 q = V q := fun q h1 h2 h3 h4 => by
    unfold dgX
    rw [dg_q hN R 0 _ _ (fun f hf => by rw [dgG_out (by omega)]; exact H.op1 f hf) q (by omega) h4, dgG_out (by omega)]
  have hTS : TS (dgX V N K R).1 N K R t := by
    have H' := H
    obtain ⟨⟨W, h⟩, h2⟩ := H
    exact ⟨⟨_, (h.digest (n := 141) ht (by omega)).1⟩, fun j hj => (h2 j hj).cg (fun o ho => e _ (by omega) (by omega) (by omega) (by omega))⟩
  exact ⟨hTS, EqB.of H hTS e⟩
theorem TS.digE {V V' : Nat → Nat → Int32} {N K R t : Nat} (H : TS V N K R t) (ht : t ≤ 2 ^ 29) (h : EqB N V' V) : (dgX V' N K R).2 = (dgX V N K R).2 := by
  obtain ⟨⟨W, h1⟩, h2⟩ := H
  rw [((h1.toB h).digest (n := 141) ht (by omega)).2, (h1.digest (n := 141) ht (by omega)).2]
theorem TS.shut {V : Nat → Nat → Int32} {N K R t j : Nat} (H : TS V N K R t) (ht : t ≤ 2 ^ 29) (hj : j < R) : TS (bsL N K j (N - 1) 0 (triV V N j) none (hbL (triV V N j) 33 N 0 (nI 0))).1 N K R t ∧ EqB N (bsL N K j (N - 1) 0 (triV V N j) none (hbL (triV V N j) 33 N 0 (nI 0))).1 V ∧ ∀ c, (bsL N K j (N - 1) 0 (triV V N j) none (hbL (triV V N j) 33 N 0 (nI 0))).2 = some c → c < N - 1 ∧ ¬ V 5 c = 0 := by
  have hN := H.N12
  have hR := H.R8
  have e3 : ∀ q, ¬ (33 ≤ q ∧ q ≤ 42) → triV V N j q = V q := fun q h => triV_out (by omega)
  obtain ⟨h1, h2⟩ := bs_q (K := K) (j := j) hN (N - 1) 0 (triV V N j) none (hbL (triV V N j) 33 N 0 (nI 0)) (by omega) (fun f hf => by rw [e3 5 (by omega)]; exact H.op1 f hf)
  have hTS : TS (bsL N K j (N - 1) 0 (triV V N j) none (hbL (triV V N j) 33 N 0 (nI 0))).1 N K R t := by
    have H' := H
    obtain ⟨⟨W, h⟩, hr⟩ := H
    exact ⟨⟨_, (h.bestS ht hj).1⟩, fun i hi => (hr i hi).cg (fun o ho => by rw [h1 _ (by omega) (by omega), e3 _ (by omega)])⟩
  refine ⟨hTS, EqB.of H hTS (fun q a b c d => by rw [h1 q (by omega) d, e3 q d]), fun c hc => ?_⟩
  have := h2 (fun c hc => by cases hc) c hc
  rw [e3 5 (by omega)] at this
  exact ⟨by omega, this.2⟩
/-! a denial where it does best -/
def bwi (W : Nat → Nat → Int32) (N K j f : Nat) : Int32 := beL (wiM W N K j f) j N 0 (nI 0)
theorem bd_min {W : Nat → Nat → Int32} {N K R t j : Nat} (ht : t ≤ 2 ^ 29) (hj : j < R) : ∀ m i V b l, i + m = N → INV V W N K R t → b < i → l = bwi W N K j b → (∀ c, c < i → l ≤ bwi W N K j c ∧ (c < b → ¬ bwi W N K j c = l)) → bdB N j m i V b l < N ∧ ∀ c, c < N → bwi W N K j (bdB N j m i V b l) ≤ bwi W N K j c ∧ (c < bdB N j m i V b l → ¬ bwi W N K j c = bwi W N K j (bdB N j m i V b l)) := by
  intro m
  induction m with
  | zero =>
    intro i V b l hi H hb hl h
    subst hl
    exact ⟨by show b < N; omega, fun c hc => h c (by omega)⟩
  | succ m ih =>
    intro i V b l hi H hb hl h
    have hR := H.R8
    obtain ⟨-, e⟩ := H.trd ht hj (show i < N by omega)
    have H' : INV (triD V N j i) W N K R t := H.to EqV_triD (EqW.refl W)
    unfold bdB
    rw [e]
    split
    · rename_i h1
      refine ih (i + 1) _ b l (by omega) H' (by omega) hl (fun c hc => ?_)
      by_cases ec : c = i
      · subst ec
        exact ⟨h1, fun x => by omega⟩
      · exact h c (by omega)
    · rename_i h1
      refine ih (i + 1) _ i _ (by omega) H' (by omega) rfl (fun c hc => ?_)
      have h2 : bwi W N K j i < l := Int32.not_le.mp h1
      by_cases ec : c = i
      · subst ec
        exact ⟨Int32.le_refl _, fun x => by omega⟩
      · have h3 := (h c (by omega)).1
        have h4 : bwi W N K j i < bwi W N K j c := Int32.lt_of_lt_of_le h2 h3
        exact ⟨Int32.le_of_lt h4, fun _ x => by
          rw [x] at h4
          exact Int32.lt_irrefl h4⟩
theorem TS.best {V : Nat → Nat → Int32} {N K R t j : Nat} (H : TS V N K R t) (ht : t ≤ 2 ^ 29) (hj : j < R) : ∃ bw : Nat → Int32, (∀ V' f, EqV V' V → f < N → hbL (triD V' N j f) 33 N 0 (nI 0) = bw f) ∧ bdB N j (N - 1) 1 (triD V N j 0) 0 (hbL (triD V N j 0) 33 N 0 (nI 0)) < N ∧ ∀ c, c < N → bw (bdB N j (N - 1) 1 (triD V N j 0) 0 (hbL (triD V N j 0) 33 N 0 (nI 0))) ≤ bw c ∧ (c < bdB N j (N - 1) 1 (triD V N j 0) 0 (hbL (triD V N j 0) 33 N 0 (nI 0)) → ¬ bw c = bw (bdB N j (N - 1) 1 (triD V N j 0) 0 (hbL (triD V N j 0) 33 N 0 (nI 0)))) := by
  have hN2 := H.N2
  obtain ⟨⟨W, h⟩, -⟩ := H
  obtain ⟨-, e0⟩ := h.trd ht hj (show 0 < N by omega)
  refine ⟨bwi W N K j, fun V' f hV hf => ((h.to hV (EqW.refl W)).trd ht hj hf).2, ?_⟩
  rw [e0]
  exact bd_min ht hj (N - 1) 1 _ 0 _ (by omega) (h.to EqV_triD (EqW.refl W)) (by omega) rfl (fun c hc => by
    obtain rfl : c = 0 := by omega
    exact ⟨Int32.le_refl _, fun x => by omega⟩)
/-! what has been heard stays heard -/
def HM (h : Int32) (r : Nat) (V V' : Nat → Nat → Int32) : Prop := ∀ c, (¬ V (r + 1) c = 0 → ¬ V' (r + 1) c = 0 ∧ V' (r + 2) c = V (r + 2) c) ∧ (V' (r + 2) c = V (r + 2) c ∨ (V (r + 1) c = 0 ∧ V' (r + 2) c = h))
theorem HM.keep {h : Int32} {r : Nat} {V V' : Nat → Nat → Int32} (h1 : V' (r + 1) = V (r + 1)) (h2 : V' (r + 2) = V (r + 2)) : HM h r V V' := fun c => by
  rw [h1, h2]
  exact ⟨fun x => ⟨x, rfl⟩, Or.inl rfl⟩
theorem HM.trans {h : Int32} {r : Nat} {A B C : Nat → Nat → Int32} (h1 : HM h r A B) (h2 : HM h r B C) : HM h r A C := fun c => by
  obtain ⟨a1, a2⟩ := h1 c
  obtain ⟨b1, b2⟩ := h2 c
  refine ⟨fun x => ?_, ?_⟩
  · obtain ⟨y1, y2⟩ := a1 x
    obtain ⟨z1, z2⟩ := b1 y1
    exact ⟨z1, z2.trans y2⟩
  · rcases b2 with b2 | ⟨b2, b3⟩
    · rcases a2 with a2 | ⟨a2, a3⟩
      · exact Or.inl (b2.trans a2)
      · exact Or.inr ⟨a2, b2.trans a3⟩
    · by_cases x : A (r + 1) c = 0
      · exact Or.inr ⟨x, b3⟩
      · exact absurd b2 (a1 x).1
theorem HM.br {V : Nat → Nat → Int32} {r f : Nat} {p h : Int32} : HM h r V (brR V r f p h) := fun c => by
  unfold brR
  by_cases e : V (r + 1) f = 0
  · rw [if_pos e]
    generalize h + V 3 f = y
    have e1 : jv_U (jv_U (jv_U (jv_U V (r + 1) f (nI 1)) (r + 2) f h) (r + 4) f p) (r + 5) f y (r + 1) c = if c = f then nI 1 else V (r + 1) c := by
      rw [jv_Une (show r + 1 ≠ r + 5 by omega), jv_Une (show r + 1 ≠ r + 4 by omega), jv_Une (show r + 1 ≠ r + 2 by omega), jv_U_self]
    have e2 : jv_U (jv_U (jv_U (jv_U V (r + 1) f (nI 1)) (r + 2) f h) (r + 4) f p) (r + 5) f y (r + 2) c = if c = f then h else V (r + 2) c := by
      rw [jv_Une (show r + 2 ≠ r + 5 by omega), jv_Une (show r + 2 ≠ r + 4 by omega), jv_U_self]
      show (if c = f then h else jv_U V (r + 1) f (nI 1) (r + 2) c) = _
      rw [jv_Une (show r + 2 ≠ r + 1 by omega)]
    rw [e1, e2]
    by_cases ec : c = f
    · subst ec
      rw [if_pos rfl, if_pos rfl]
      exact ⟨fun x => absurd e x, Or.inr ⟨e, rfl⟩⟩
    · rw [if_neg ec, if_neg ec]
      exact ⟨fun x => ⟨x, rfl⟩, Or.inl rfl⟩
  · rw [if_neg e]
    exact ⟨fun x => ⟨x, rfl⟩, Or.inl rfl⟩
theorem HM.de {V : Nat → Nat → Int32} {r f : Nat} {h : Int32} : HM h r V (brD V r f h) := fun c => by
  unfold brD
  by_cases e : V (r + 1) f = nI 2
  · rw [if_pos e]
    exact ⟨fun x => ⟨x, rfl⟩, Or.inl rfl⟩
  · rw [if_neg e]
    generalize h + V 3 f / nI 2 = y
    have e1 : jv_U (jv_U (jv_U (jv_U V (r + 1) f (nI 2)) (r + 3) f h) (r + 6) f y) (r + 5) f (-1) (r + 1) c = if c = f then nI 2 else V (r + 1) c := by
      rw [jv_Une (show r + 1 ≠ r + 5 by omega), jv_Une (show r + 1 ≠ r + 6 by omega), jv_Une (show r + 1 ≠ r + 3 by omega), jv_U_self]
    have e2 : jv_U (jv_U (jv_U (jv_U V (r + 1) f (nI 2)) (r + 3) f h) (r + 6) f y) (r + 5) f (-1) (r + 2) c = V (r + 2) c := by
      rw [jv_Une (show r + 2 ≠ r + 5 by omega), jv_Une (show r + 2 ≠ r + 6 by omega), jv_Une (show r + 2 ≠ r + 3 by omega), jv_Une (show r + 2 ≠ r + 1 by omega)]
    rw [e1, e2]
    by_cases ec : c = f
    · rw [if_pos ec]
      exact ⟨fun _ => ⟨nI02, rfl⟩, Or.inl rfl⟩
    · rw [if_neg ec]
      exact ⟨fun x => ⟨x, rfl⟩, Or.inl rfl⟩
theorem HM.hr1 {V : Nat → Nat → Int32} {r f : Nat} {h : Int32} : HM h r V (hr1 V r f h) := by
  have h1 : HM h r V (h1R V r f h) := by
    unfold h1R
    split
    · exact (HM.keep (jv_U_other (by omega)) (jv_U_other (by omega))).trans HM.br
    · exact HM.keep rfl rfl
  refine h1.trans ?_
  show HM h r (h1R V r f h) (h1D (h1R V r f h) r f h)
  generalize h1R V r f h = V1
  unfold h1D
  split
  · exact (HM.keep (jv_U_other (by omega)) (jv_U_other (by omega))).trans HM.de
  · exact HM.keep rfl rfl
theorem HM.hr {r : Nat} {h : Int32} : ∀ m i V, HM h r V (hrV r h m i V) := by
  intro m
  induction m with
  | zero => intro i V; exact HM.keep rfl rfl
  | succ m ih => intro i V; exact HM.hr1.trans (ih (i + 1) _)
theorem HM.ph {V : Nat → Nat → Int32} {r N : Nat} {h : Int32} : HM h r V (phV V r N h) := (HM.hr N 0 V).trans (HM.keep (teL_2 (by omega) _ _ _) (teL_2 (by omega) _ _ _))
theorem inV_o {N j q : Nat} {h : Int32} (h1 : 43 + 10 * j ≤ q) (h2 : q ≤ 43 + 10 * j + 9) : ∀ m i V, (j < i ∨ i + m ≤ j) → inV N h m i V q = V q := by
  intro m
  induction m with
  | zero => intro i V _; rfl
  | succ m ih =>
    intro i V hi
    show inV N h m (i + 1) _ q = _
    rw [ih _ _ (by omega), phV_out (by unfold Rout; omega)]
/-- an hour of the rumour depends on its own rows -/
theorem Sim.cg {V V' W : Nat → Nat → Int32} {r j N K : Nat} {h : Int32} (H : Sim V W r j N K h) (h1 : ∀ o, o ≤ 9 → V' (r + o) = V (r + o)) (h2 : V' 3 = V 3) (h3 : ∀ a b, a < N → b < N → V' (8 + a) b = V (8 + a) b) : Sim V' W r j N K h := by
  obtain ⟨a, b, c, d, e⟩ := H
  have h0 := h1 0 (by omega)
  rw [Nat.add_zero] at h0
  exact ⟨fun o f x y z => by rw [h1 o y]; exact a o f x y z, by rw [h2]; exact b, fun p q hp hq => (h3 p q hp hq).trans (c p q hp hq), d, by rw [h0]; exact e⟩
/-- before rumour j in the hour, then its hour, then the others -/
theorem al_split {V : Nat → Nat → Int32} {N R j : Nat} (hj : j < R) : ∃ V1, (∀ q, q < 43 → V1 q = V q) ∧ (∀ o, o ≤ 9 → V1 (43 + 10 * j + o) = V (43 + 10 * j + o)) ∧ ∀ o, o ≤ 9 → alV N R V (43 + 10 * j + o) = phV V1 (43 + 10 * j) N (V 0 5) (43 + 10 * j + o) := by
  have hs : ∀ (h : Int32) (m1 m2 i : Nat) (V : Nat → Nat → Int32), inV N h (m1 + m2) i V = inV N h m2 (i + m1) (inV N h m1 i V) := by
    intro h m1
    induction m1 with
    | zero => intro m2 i V; rw [Nat.zero_add]; rfl
    | succ m1 ih =>
      intro m2 i V
      rw [show m1 + 1 + m2 = (m1 + m2) + 1 by omega]
      show inV N h (m1 + m2) (i + 1) _ = inV N h m2 (i + (m1 + 1)) (inV N h m1 (i + 1) _)
      rw [ih, show i + 1 + m1 = i + (m1 + 1) by omega]
  refine ⟨inV N (V 0 5) j 0 V, fun q hq => inV_out hq _ _ _, fun o ho => inV_o (j := j) (by omega) (by omega) j 0 V (by omega), fun o ho => ?_⟩
  unfold alV
  rw [jv_U_other (by omega)]
  have e : R = j + ((R - j - 1) + 1) := by omega
  rw [e, hs, Nat.zero_add]
  show inV N (V 0 5) (R - j - 1) (j + 1) _ (43 + 10 * j + o) = _
  rw [inV_o (j := j) (by omega) (by omega) _ _ _ (by omega)]
theorem HM.al {V : Nat → Nat → Int32} {N R j : Nat} (hj : j < R) : HM (V 0 5) (43 + 10 * j) V (alV N R V) := by
  obtain ⟨V1, h1, h2, h3⟩ := al_split (V := V) (N := N) hj
  intro c
  have := HM.ph (V := V1) (r := 43 + 10 * j) (N := N) (h := V 0 5) c
  rw [h3 1 (by omega), h3 2 (by omega)]
  rw [h2 1 (by omega), h2 2 (by omega)] at this
  exact this
theorem ou_s {N R : Nat} : ∀ m V, ouV N R (m + 1) V = alV N R (ouV N R m V) := by
  intro m
  induction m with
  | zero => intro V; rfl
  | succ m ih => intro V; exact ih (alV N R V)
/-- when a floor hears -/
theorem TS.news {V : Nat → Nat → Int32} {N K R t j c : Nat} (H : TS V N K R t) (hj : j < R) (hc : c < N) : ∀ m i, t + i + m < 2 ^ 30 → (¬ ouV N R i V (43 + 10 * j + 2) c = -1 → ouV N R (i + m) V (43 + 10 * j + 2) c = ouV N R i V (43 + 10 * j + 2) c) ∧ (ouV N R i V (43 + 10 * j + 2) c = -1 → ouV N R (i + m) V (43 + 10 * j + 2) c = -1 ∨ ∃ a, ouV N R (i + m) V (43 + 10 * j + 2) c = nI a ∧ t + i ≤ a ∧ a < t + i + m) := by
  intro m
  induction m with
  | zero => intro i _; exact ⟨fun _ => rfl, fun h => Or.inl h⟩
  | succ m ih =>
    intro i hti
    obtain ⟨h1, h2⟩ := ih i (by omega)
    have Hm := H.passed (m := i + m) (by omega)
    have hm := HM.al (V := ouV N R (i + m) V) (N := N) hj c
    rw [Hm.h] at hm
    obtain ⟨y, t0, f0, -, -, -, -, -, -, h6⟩ := Hm.2 j hj
    have hz : ouV N R (i + m) V (43 + 10 * j + 1) c = 0 → ouV N R (i + m) V (43 + 10 * j + 2) c = -1 := (h6 c hc).2.1
    rw [show i + (m + 1) = (i + m) + 1 by omega, ou_s]
    refine ⟨fun h => ?_, fun h => ?_⟩
    · have e := h1 h
      rcases hm.2 with x | ⟨x, -⟩
      · exact x.trans e
      · exact absurd (e.symm.trans (hz x)) h
    · rcases hm.2 with x | ⟨x, x2⟩
      · rw [x]
        rcases h2 h with y | ⟨a, y1, y2, y3⟩
        · exact Or.inl y
        · exact Or.inr ⟨a, y1, y2, by omega⟩
      · exact Or.inr ⟨t + (i + m), x2, by omega, by omega⟩
/-- the rumour's own hours -/
theorem Sim.run {N K R j : Nat} (hj : j < R) (hR : R ≤ 8) (hN : N ≤ 12) (hK : K ≤ 4) : ∀ m t V W, t + m ≤ 2 ^ 30 → TS V N K R t → Bd V (43 + 10 * j) → Sim V W (43 + 10 * j) j N K (nI t) → Sim (ouV N R m V) (lkM N K j m W) (43 + 10 * j) j N K (nI (t + m)) := by
  intro m
  induction m with
  | zero => intro t V W _ _ _ H; exact H
  | succ m ih =>
    intro t V W ht HT B H
    obtain ⟨V1, h1, h2, h3⟩ := al_split (V := V) (N := N) hj
    have S1 : Sim V1 W (43 + 10 * j) j N K (nI t) := H.cg h2 (h1 3 (by omega)) (fun a b ha _ => by rw [h1 (8 + a) (by omega)])
    have B1 : Bd V1 (43 + 10 * j) := B.other h2
    have S2 := S1.hour B1 (by omega) (by omega) hN
    have B2 : Bd (phV V1 (43 + 10 * j) N (nI t)) (43 + 10 * j) := B1.hour hN
    rw [HT.h] at h3
    have hp : ∀ q, q < 43 → alV N R V q = phV V1 (43 + 10 * j) N (nI t) q ∨ q = 0 := fun q hq => by
      by_cases e : q = 0
      · exact Or.inr e
      · left
        rw [alV_o (Or.inl hq) e, phV_out (by unfold Rout; omega), h1 q hq]
    have S3 : Sim (alV N R V) (hfM W N K j) (43 + 10 * j) j N K (nI t) := S2.cg h3 ((hp 3 (by omega)).resolve_right (by omega)) (fun a b ha _ => by rw [(hp (8 + a) (by omega)).resolve_right (by omega)])
    have S4 := S3.next (by omega)
    rw [nI_add] at S4
    have := ih (t + 1) (alV N R V) (hoN (hfM W N K j)) (by omega) (HT.passed (m := 1) (by omega)) (B2.other h3) S4
    rw [show t + 1 + m = t + (m + 1) by omega] at this
    exact this
theorem qt_p {N K r : Nat} : ∀ m p W, p ≤ (qtL N K r m p W).2 ∧ (qtL N K r m p W).2 ≤ p + m ∧ ((qtL N K r m p W).2 < p + m → qmL (lkM N K r ((qtL N K r m p W).2 - p) W) r N 0 = true) := by
  intro m
  induction m with
  | zero => intro p W; exact ⟨Nat.le_refl _, Nat.le_refl _, fun h => absurd h (Nat.lt_irrefl _)⟩
  | succ m ih =>
    intro p W
    unfold qtL
    by_cases c : qmL W r N 0 = true
    · rw [if_pos c]
      exact ⟨Nat.le_refl _, Nat.le_add_right _ _, fun _ => by show qmL (lkM N K r (p - p) W) r N 0 = true; rw [Nat.sub_self]; exact c⟩
    · rw [if_neg c]
      obtain ⟨h1, h2, h3⟩ := ih (p + 1) (lkM N K r 1 W)
      refine ⟨by omega, by omega, fun h => ?_⟩
      have h4 := h3 (by omega)
      have e : (qtL N K r m (p + 1) (lkM N K r 1 W)).2 - p = ((qtL N K r m (p + 1) (lkM N K r 1 W)).2 - (p + 1)) + 1 := by omega
      rw [e]
      exact h4
theorem owL_0 {W : Nat → Nat → Int32} {j N : Nat} : ∀ m i a, i + m = N → qmL W j m i = true → owL W j m i a = a := by
  intro m
  induction m with
  | zero => intro i a _ _; rfl
  | succ m ih =>
    intro i a hi h
    have hq := qmL_Qt (m + 1) i hi h i (Nat.le_refl _) (by omega)
    have h' : qmL W j m (i + 1) = true := by
      unfold qmL at h
      rw [if_pos ⟨hq.1, hq.2.1, hq.2.2⟩] at h
      exact h
    show owL W j m (i + 1) (if owB W (12 * j + i) = true then a + 1 else a + 0) = a
    rw [hq.1, if_neg (by decide), ih _ _ (by omega) h']
    rfl
theorem Sim.kp {V W : Nat → Nat → Int32} {r j N K : Nat} {h : Int32} (H : Sim V W r j N K h) : Sim V (kpM W) r j N K h := by
  obtain ⟨a, b, c, d, e⟩ := H
  exact ⟨fun o f x y z => by rw [kpM_out (by omega)]; exact a o f x y z, fun f hf => by rw [kpM_out (by omega)]; exact b f hf, fun p q hp hq => by rw [hoM_congr (V := W) (fun q h1 h2 => kpM_out (by omega))]; exact c p q hp hq, by rw [kpM_out (by omega)]; exact d, by rw [kpM_out (by omega)]; exact e⟩
/-- what the looks said, and what the hours bring -/
theorem TS.ahead {V : Nat → Nat → Int32} {N K R t j : Nat} (H : TS V N K R t) (ht : t + 100 < 2 ^ 29) (hj : j < R) : (∀ f, f < N → triV V N j 35 f = ouV N R 100 V (43 + 10 * j + 2) f) ∧ hbL (triV V N j) 33 N 0 (nI 0) = hbL (ouV N R 100 V) (43 + 10 * j) N 0 (nI 0) ∧ ∃ q, qtR V N j = qtI q ∧ (q ≤ 100 → underWayL (ouV N R q V) j N 0 0 = 0) := by
  have hN := H.N12
  have hR := H.R8
  have hK := H.K4
  have H' := H
  obtain ⟨⟨W, h⟩, -⟩ := H
  have S0 := (h.sim hj).kp
  have run : ∀ m, m ≤ 100 → Sim (ouV N R m V) (lkM N K j m (kpM W)) (43 + 10 * j) j N K (nI (t + m)) := fun m hm => Sim.run hj hR hN hK m t V (kpM W) (by omega) H' (h.bd hj) S0
  obtain ⟨-, e1, e2⟩ := h.tri (by omega) hj
  obtain ⟨-, e3⟩ := h.triQ (by omega) hj
  have S1 := run 100 (Nat.le_refl _)
  refine ⟨fun f hf => ?_, ?_, (qtM W N K j).2, e3, fun hq => ?_⟩
  · rw [e2 f (by omega)]
    have := S1.1 2 f (by omega) (by omega) (by omega)
    rw [this]
    show _ = lkM N K j 100 (kpM W) 135 (96 + (12 * j + f))
    rw [← Nat.add_assoc]
    rfl
  · rw [e1]
    refine (S1.heads (fun f hf => ?_) N 0 (nI 0) (by omega)).symm
    rw [lkM_out (by omega), kpM_out (by omega), ouV_o (Or.inl (by omega)) (by omega)]
    exact h.hd f hf
  · obtain ⟨-, -, q3⟩ := qt_p (N := N) (K := K) (r := j) 101 0 (kpM W)
    have h4 := q3 (by unfold qtM at hq; omega)
    rw [Nat.sub_zero] at h4
    have S2 := run (qtM W N K j).2 hq
    rw [S2.under N 0 0 (by omega)]
    exact owL_0 (N := N) N 0 0 (by omega) h4
/-! the looks' answers do not hang on the working rows -/
theorem EqB.symm {N : Nat} {V' V : Nat → Nat → Int32} (h : EqB N V' V) : EqB N V V' := ⟨fun q a b c d => (h.1 q a b c d).symm, fun a b c d => (h.2 a b c d).symm⟩
theorem TS.ahead2 {V V1 : Nat → Nat → Int32} {N K R t j : Nat} (H : TS V N K R t) (h1 : EqB N V1 V) (ht : t + 100 < 2 ^ 29) (hj : j < R) : (∀ V4 f, EqB N V4 V → f < N → ouV N R 100 V4 (43 + 10 * j + 2) f = triV V1 N j 35 f) ∧ (∀ V4, EqB N V4 V → hbL (ouV N R 100 V4) (43 + 10 * j) N 0 (nI 0) = hbL (triV V1 N j) 33 N 0 (nI 0)) ∧ ∃ q, qtR V1 N j = qtI q ∧ ∀ V4, EqB N V4 V → q ≤ 100 → underWayL (ouV N R q V4) j N 0 0 = 0 := by
  have hN := H.N12
  have H' := H
  obtain ⟨⟨W, h⟩, -⟩ := H
  obtain ⟨-, e1, e2⟩ := (h.toB h1).tri (by omega) hj
  obtain ⟨-, e3⟩ := (h.toB h1).triQ (by omega) hj
  refine ⟨fun V4 f h4 hf => ?_, fun V4 h4 => ?_, (qtM W N K j).2, e3, fun V4 h4 hq => ?_⟩
  · rw [← ((H'.eqB h4).ahead ht hj).1 f hf, ((h.toB h4).tri (by omega) hj).2.2 f (by omega), e2 f (by omega)]
  · rw [← ((H'.eqB h4).ahead ht hj).2.1, ((h.toB h4).tri (by omega) hj).2.1, e1]
  · obtain ⟨q, g1, g2⟩ := ((H'.eqB h4).ahead ht hj).2.2
    have g3 : qtR V4 N j = qtI (qtM W N K j).2 := ((h.toB h4).triQ (by omega) hj).2
    have e : q = (qtM W N K j).2 := by
      have g4 := g1.symm.trans g3
      unfold qtI at g4
      by_cases c : 100 < q
      · rw [if_pos c, if_neg (by omega)] at g4
        exact absurd g4.symm (nI_nm1 (by omega))
      · rw [if_neg c, if_neg (by omega)] at g4
        exact nIi g4 (by omega) (by omega)
    rw [← e]
    exact g2 (by omega)
/-- when the floor heard, at the hour i -/
theorem TS.heard {V : Nat → Nat → Int32} {N K R t j c s : Nat} (H : TS V N K R t) (hj : j < R) (hc : c < N) (hs : s ≤ 100) (ht : t + 100 < 2 ^ 29) : (ouV N R s V (43 + 10 * j + 2) c = -1 ∧ (ouV N R 100 V (43 + 10 * j + 2) c = -1 ∨ ∃ a, ouV N R 100 V (43 + 10 * j + 2) c = nI a ∧ t + s ≤ a ∧ a < t + 100)) ∨ ∃ a, ouV N R s V (43 + 10 * j + 2) c = nI a ∧ ouV N R 100 V (43 + 10 * j + 2) c = nI a ∧ (a < t + s ∨ a = t) ∧ a < t + 100 := by
  have h1 := H.news hj hc (100 - s) s (by omega)
  rw [show s + (100 - s) = 100 by omega, show t + s + (100 - s) = t + 100 by omega] at h1
  have h0 := H.news hj hc s 0 (by omega)
  rw [Nat.zero_add] at h0
  by_cases e : ouV N R s V (43 + 10 * j + 2) c = -1
  · exact Or.inl ⟨e, h1.2 e⟩
  · right
    by_cases e0 : ouV N R 0 V (43 + 10 * j + 2) c = -1
    · rcases h0.2 e0 with x | ⟨a, x1, x2, x3⟩
      · exact absurd x e
      · exact ⟨a, x1, (h1.1 e).trans x1, Or.inl (by omega), by omega⟩
    · have e1 := h0.1 e0
      have e2 : ouV N R 0 V (43 + 10 * j + 2) c = V (43 + 10 * j + 2) c := rfl
      obtain ⟨y, t0, f0, -, -, -, -, -, -, h6⟩ := H.2 j hj
      rcases (h6 c hc).2.2.2.2.2.1 with ⟨x, -⟩ | ⟨a, p, x, -, x2, -⟩
      · exact absurd x e0
      · have x' : ouV N R s V (43 + 10 * j + 2) c = nI a := e1.trans x
        exact ⟨a, x', (h1.1 e).trans x', by omega, by omega⟩
theorem uw_cg {V1 V : Nat → Nat → Int32} {j : Nat} (h7 : V1 (43 + 10 * j + 7) = V (43 + 10 * j + 7)) (h9 : V1 (43 + 10 * j + 9) = V (43 + 10 * j + 9)) : ∀ m i a, underWayL V1 j m i a = underWayL V j m i a := by
  intro m
  induction m with
  | zero => intro i a; rfl
  | succ m ih =>
    intro i a
    show underWayL V1 j m (i + 1) (if uwB V1 (43 + 10 * j) i = false then a else a + 1) = underWayL V j m (i + 1) (if uwB V (43 + 10 * j) i = false then a else a + 1)
    unfold uwB
    rw [ih, h7, h9]
theorem hb_cg {V1 V : Nat → Nat → Int32} {r : Nat} (h1 : V1 (r + 1) = V (r + 1)) (h2 : V1 2 = V 2) : ∀ m i a, hbL V1 r m i a = hbL V r m i a := by
  intro m
  induction m with
  | zero => intro i a; rfl
  | succ m ih =>
    intro i a
    show hbL V1 r m (i + 1) (if V1 (r + 1) i = nI 1 then a + V1 2 i else a) = hbL V r m (i + 1) (if V (r + 1) i = nI 1 then a + V 2 i else a)
    rw [ih, h1, h2]
theorem EqV_bd {V : Nat → Nat → Int32} {N j : Nat} : EqV (bdV N j (N - 1) 1 (triD V N j 0)) V := fun q h1 h2 h3 => by rw [bdV_out (by omega), triD_out (by omega)]
theorem TS.hi {V : Nat → Nat → Int32} {N K R t : Nat} (H : TS V N K R t) : (∀ q, 123 ≤ q → (dgX V N K R).1 q = V q) ∧ ∀ j q, 123 ≤ q → (bsL N K j (N - 1) 0 (triV V N j) none (hbL (triV V N j) 33 N 0 (nI 0))).1 q = V q := by
  have hN := H.N12
  refine ⟨fun q hq => ?_, fun j q hq => ?_⟩
  · unfold dgX
    rw [dg_q hN R 0 _ _ (fun f hf => by rw [dgG_out (by omega)]; exact H.op1 f hf) q (by omega) (by omega), dgG_out (by omega)]
  · rw [(bs_q (K := K) (j := j) hN (N - 1) 0 (triV V N j) none (hbL (triV V N j) 33 N 0 (nI 0)) (by omega) (fun f hf => by rw [triV_out (by omega)]; exact H.op1 f hf)).1 q (by omega) (by omega), triV_out (by omega)]
