/-! ===== one relation of both sides: V the class's memory, W the reference's ===== -/
def mg (V W : Nat → Nat → Int32) : Nat → Nat → Int32 := fun q => if q < 123 then V q else W q
theorem mg_lo {V W : Nat → Nat → Int32} {q : Nat} (h : q < 123) : mg V W q = V q := by unfold mg; rw [if_pos h]
theorem mg_hi {V W : Nat → Nat → Int32} {q : Nat} (h : ¬ q < 123) : mg V W q = W q := by unfold mg; rw [if_neg h]
theorem mg_4 {V W : Nat → Nat → Int32} : mg V W 4 = V 4 := mg_lo (by omega)
theorem mg_5 {V W : Nat → Nat → Int32} : mg V W 5 = V 5 := mg_lo (by omega)
theorem mg_126 {V W : Nat → Nat → Int32} : mg V W 126 = W 126 := mg_hi (by omega)
theorem mg_127 {V W : Nat → Nat → Int32} : mg V W 127 = W 127 := mg_hi (by omega)
theorem mg_132 {V W : Nat → Nat → Int32} : mg V W 132 = W 132 := mg_hi (by omega)
theorem mg_L {V W : Nat → Nat → Int32} {k : Nat} (h : k < 4) : mg V W (20 + 2 * k) = V (20 + 2 * k) := mg_lo (by omega)
theorem hrs_cg {V V' : Nat → Nat → Int32} {q lo hi : Nat} (h0 : V' q = V q) (h1 : V' (q + 1) = V (q + 1)) : hrs V' q lo hi = hrs V q lo hi := by
  unfold hrs
  rw [h0, h1]
theorem fhL_cg {V V' : Nat → Nat → Int32} {lo hi : Nat} (h : ∀ q, 20 ≤ q → q < 28 → V' q = V q) : ∀ m i a, i + m ≤ 4 → fhL V' lo hi m i a = fhL V lo hi m i a := by
  intro m
  induction m with
  | zero => intro i a _; rfl
  | succ m ih =>
    intro i a hi'
    unfold fhL
    rw [hrs_cg (h _ (by omega) (by omega)) (h _ (by omega) (by omega)), ih _ _ (by omega)]
theorem fh_cg {V V' : Nat → Nat → Int32} {K lo hi : Nat} (hK : K ≤ 4) (h4 : V' 4 = V 4) (h5 : V' 5 = V 5) (h : ∀ q, 20 ≤ q → q < 28 → V' q = V q) : fh V' K lo hi = fh V K lo hi := by
  unfold fh
  rw [h4, h5, fhL_cg h _ _ _ (by omega)]
theorem layX_cg {V V' : Nat → Nat → Int32} {K q c : Nat} (hK : K ≤ 4) (h4 : V' 4 = V 4) (h5 : V' 5 = V 5) (h : ∀ q, 20 ≤ q → q < 28 → V' q = V q) : layX V' K q c = layX V K q c := by
  unfold layX
  rw [fh_cg hK h4 h5 h, fh_cg hK h4 h5 h]
theorem pipes2 {V W : Nat → Nat → Int32} {N K : Nat} (hL : LiA (mg V W) K) (hS : StA (mg V W)) (hK : K ≤ 4) (hN : N ≤ 12) : ∀ a b, a < N → b < N → layV V N K (8 + a) b = hoM W K a b := by
  intro a b ha hb
  unfold layV
  rw [if_pos ⟨by omega, by omega, hb⟩, ← layX_cg (V' := mg V W) hK (mg_lo (by omega)) (mg_lo (by omega)) (fun q h1 h2 => mg_lo (by omega)), layX_hoM hL hS (by omega) (by omega)]
  exact hoM_congr (fun q h1 h2 => mg_hi (by omega))
/-- a pipe's hours -/
def okP (x : Int32) : Prop := x = -1 ∨ ∃ p, x = nI p ∧ 1 ≤ p ∧ p ≤ 14
theorem hoL_ok {M : Nat → Nat → Int32} {K a b ap : Nat} (hL : LiA M K) (hap : ap ≤ 11) : ∀ m i acc, i + m ≤ K → okP acc → okP (hoL M a b ap m i acc) := by
  intro m
  induction m with
  | zero => intro i acc _ h; exact h
  | succ m ih =>
    intro i acc hi h
    refine ih _ _ (by omega) ?_
    obtain ⟨lo, hi', ev, wt, -, -, -, e4, -, -, -, -, c5, c6, -⟩ := hL i (by omega)
    have hn : okP (M 131 i + nI (ap / 2)) := Or.inr ⟨wt + ap / 2, by rw [e4, nI_add], by omega, by omega⟩
    split
    · split
      · exact hn
      · split
        · exact hn
        · exact h
    · exact h
theorem hoM_ok {M : Nat → Nat → Int32} {K a b : Nat} (hL : LiA M K) (hs : ∀ f, f < 12 → ∃ s, M 126 f = nI s ∧ 1 ≤ s ∧ s ≤ 9) (ha : a < 12) (hb : b < 12) : okP (hoM M K a b) := by
  unfold hoM hoX
  split
  · exact Or.inl rfl
  · have h1 : max a b - min a b ≤ 11 := by omega
    have h2 : min a b < 12 := by omega
    generalize min a b = mn at h1 h2
    generalize max a b = mx' at h1
    refine hoL_ok hL h1 _ _ _ (by omega) ?_
    split
    · obtain ⟨s, e1, e2, e3⟩ := hs mn h2
      exact Or.inr ⟨s, e1, e2, by omega⟩
    · exact Or.inl rfl
theorem LiA.congr {M M' : Nat → Nat → Int32} {K : Nat} (hL : LiA M K) (hK : K ≤ 4) (h1 : ∀ q, 20 ≤ q → q < 28 → M' q = M q) (h2 : ∀ q, 128 ≤ q → q ≤ 132 → M' q = M q) : LiA M' K := by
  intro k hk
  have := hL k hk
  rw [h1 (20 + 2 * k + 1) (by omega) (by omega), h1 (20 + 2 * k) (by omega) (by omega), h2 128 (by omega) (by omega), h2 129 (by omega) (by omega), h2 130 (by omega) (by omega), h2 131 (by omega) (by omega), h2 132 (by omega) (by omega)]
  exact this
theorem StA.congr {M M' : Nat → Nat → Int32} (hS : StA M) (h4 : M' 4 = M 4) (h5 : M' 5 = M 5) (h6 : M' 126 = M 126) (h7 : M' 127 = M 127) : StA M' := by
  intro f hf
  have := hS f hf
  rw [h4, h5, h6, h7]
  exact this
/-- the towers of both sides -/
def TW (V W : Nat → Nat → Int32) (K : Nat) : Prop := LiA (mg V W) K ∧ StA (mg V W) ∧ (∀ f, f < 12 → V 2 f = W 124 f ∧ ∃ a, W 124 f = nI a ∧ a ≤ 99) ∧ (∀ f, f < 12 → V 3 f = W 125 f ∧ ∃ a, W 125 f = nI a ∧ a ≤ 9) ∧ (∀ f, f < 12 → ∃ a, W 126 f = nI a ∧ 1 ≤ a ∧ a ≤ 9) ∧ ∀ f, f < 12 → W 127 f = 0 ∨ W 127 f = 1
def PW (V W : Nat → Nat → Int32) (N K : Nat) : Prop := ∀ a b, a < N → b < N → V (8 + a) b = hoM W K a b
/-- all that both sides have in common -/
def INV (V W : Nat → Nat → Int32) (N K R t : Nat) : Prop := Ct V N K R ∧ V 0 5 = nI t ∧ Mt W N K R ∧ W 135 864 = nI t ∧ TW V W K ∧ PW V W N K ∧ (∀ j, j < R → V (43 + 10 * j) 0 = W 133 j) ∧ SimA V W N K R (nI t)
def EqV (V' V : Nat → Nat → Int32) : Prop := ∀ q, q < 123 → ¬ (29 ≤ q ∧ q ≤ 31) → ¬ (33 ≤ q ∧ q ≤ 42) → V' q = V q
def EqW (W' W : Nat → Nat → Int32) : Prop := (∀ c, c ≠ 0 → W' 123 c = W 123 c) ∧ (∀ q, 124 ≤ q → q ≤ 134 → W' q = W q) ∧ ∀ c, c < 865 → W' 135 c = W 135 c
theorem EqV.refl (V : Nat → Nat → Int32) : EqV V V := fun _ _ _ _ => rfl
theorem EqW.refl (W : Nat → Nat → Int32) : EqW W W := ⟨fun _ _ => rfl, fun _ _ _ => rfl, fun _ _ => rfl⟩
theorem EqV.trans {A B C : Nat → Nat → Int32} (h1 : EqV A B) (h2 : EqV B C) : EqV A C := fun q a b c => (h1 q a b c).trans (h2 q a b c)
theorem EqW.trans {A B C : Nat → Nat → Int32} (h1 : EqW A B) (h2 : EqW B C) : EqW A C := ⟨fun c h => (h1.1 c h).trans (h2.1 c h), fun q a b => (h1.2.1 q a b).trans (h2.2.1 q a b), fun c h => (h1.2.2 c h).trans (h2.2.2 c h)⟩
theorem SimA.to {V W V' W' : Nat → Nat → Int32} {N K R N' K' : Nat} {h : Int32} (H : SimA V W N K R h) (hR : R ≤ 8) (h43 : ∀ q, 43 ≤ q → q < 123 → V' q = V q) (b' : ∀ f, f < 12 → V' 3 f = W' 125 f) (c' : PW V' W' N' K') (h135 : ∀ c, c < 865 → W' 135 c = W 135 c) (h134 : ∀ j, j < R → W' 134 j = W 134 j) : SimA V' W' N' K' R h := by
  intro j hj
  obtain ⟨⟨a, -, -, d, e⟩, bd, zr⟩ := H j hj
  refine ⟨⟨fun o f h1 h9 hf => ?_, b', c', ?_, ?_⟩, bd.other (fun o ho => h43 _ (by omega) (by omega)), zr.other (fun o ho => h43 _ (by omega) (by omega))⟩
  · have := fo_le h9
    rw [h43 _ (by omega) (by omega), h135 _ (by omega)]; exact a o f h1 h9 hf
  · rw [h135 _ (by omega)]; exact d
  · rw [h43 _ (by omega) (by omega), h134 j hj]; exact e
theorem TW.to {V W V' W' : Nat → Nat → Int32} {K : Nat} (H : TW V W K) (hK : K ≤ 4) (e1 : ∀ q, (2 ≤ q ∧ q ≤ 5) ∨ (20 ≤ q ∧ q < 28) → V' q = V q) (e2 : ∀ q, 124 ≤ q → q ≤ 132 → W' q = W q) : TW V' W' K := by
  obtain ⟨a, b, c, d, e, f⟩ := H
  have v : ∀ q, (2 ≤ q ∧ q ≤ 5) ∨ (20 ≤ q ∧ q < 28) → mg V' W' q = mg V W q := fun q h => by rw [mg_lo (by omega), mg_lo (by omega)]; exact e1 q h
  have w : ∀ q, 124 ≤ q → q ≤ 132 → mg V' W' q = mg V W q := fun q h1 h2 => by rw [mg_hi (by omega), mg_hi (by omega)]; exact e2 q h1 h2
  refine ⟨a.congr hK (fun q h1 h2 => v q (by omega)) (fun q h1 h2 => w q (by omega) h2), b.congr (v 4 (by omega)) (v 5 (by omega)) (w 126 (by omega) (by omega)) (w 127 (by omega) (by omega)), ?_, ?_, ?_, ?_⟩
  · rw [e1 2 (by omega), e2 124 (by omega) (by omega)]; exact c
  · rw [e1 3 (by omega), e2 125 (by omega) (by omega)]; exact d
  · rw [e2 126 (by omega) (by omega)]; exact e
  · rw [e2 127 (by omega) (by omega)]; exact f
theorem TW.st {V W : Nat → Nat → Int32} {K : Nat} (H : TW V W K) : ∀ f, f < 12 → V 4 f = W 126 f ∧ V 5 f = W 127 f := by
  intro f hf
  have := H.2.1 f hf
  rw [mg_4, mg_5, mg_126, mg_127] at this
  exact this
theorem INV.to {V W V' W' : Nat → Nat → Int32} {N K R t : Nat} (H : INV V W N K R t) (e1 : EqV V' V) (e2 : EqW W' W) : INV V' W' N K R t := by
  obtain ⟨hC, h5, hM, h8, hT, hP, hO, hS⟩ := H
  have hN := hC.2.2.2.2.1
  have hK := hC.2.2.2.2.2.1
  have hR := hC.2.2.2.2.2.2
  have hP' : PW V' W' N K := fun a b ha hb => by
    rw [e1 _ (by omega) (by omega) (by omega), hoM_congr (V := W) (fun q h1 h2 => e2.2.1 q (by omega) (by omega))]; exact hP a b ha hb
  have hT' : TW V' W' K := hT.to hK (fun q h => e1 q (by omega) (by omega) (by omega)) (fun q h1 h2 => e2.2.1 q h1 (by omega))
  refine ⟨hC.o (e1 0 (by omega) (by omega) (by omega)) (e1 1 (by omega) (by omega) (by omega)), by rw [e1 0 (by omega) (by omega) (by omega)]; exact h5, hM.to (e2.1 1 (by omega)) (e2.1 2 (by omega)) (e2.1 3 (by omega)) (e2.2.1 130 (by omega) (by omega)), by rw [e2.2.2 864 (by omega)]; exact h8, hT', hP', fun j hj => ?_, ?_⟩
  · rw [e1 _ (by omega) (by omega) (by omega), e2.2.1 133 (by omega) (by omega)]; exact hO j hj
  · exact hS.to hR (fun q h1 h2 => e1 q h2 (by omega) (by omega)) (fun f hf => (hT'.2.2.2.1 f hf).1) hP' e2.2.2 (fun j _ => by rw [e2.2.1 134 (by omega) (by omega)])
theorem INV.start {V V1 : Nat → Nat → Int32} {N K R t : Nat} (H : INV V V N K R t) (h : ∀ q, 123 ≤ q → V1 q = V q) : INV V V1 N K R t :=
  H.to (EqV.refl V) ⟨fun c _ => by rw [h _ (by omega)], fun q h1 _ => h q (by omega), fun c _ => by rw [h _ (by omega)]⟩
theorem INV.self {V1 W : Nat → Nat → Int32} {N K R t : Nat} (H : INV V1 W N K R t) (h : ∀ q, q < 123 → W q = V1 q) : INV W W N K R t :=
  H.to (fun q h1 _ _ => h q h1) (EqW.refl W)
theorem INV.wp {V W : Nat → Nat → Int32} {N K R t : Nat} (H : INV V W N K R t) : WP V W N K := by
  obtain ⟨hC, h5, hM, h8, hT, hP, hO, hS⟩ := H
  have hN := hC.2.2.2.2.1
  have hK := hC.2.2.2.2.2.1
  refine ⟨fun a b ha hb => ⟨hP a b ha hb, ?_⟩, fun a ha => hT.2.2.2.1 a (by omega)⟩
  have := hoM_ok (a := a) (b := b) hT.1 (fun f hf => by rw [mg_hi (by omega)]; exact hT.2.2.2.2.1 f hf) (by omega) (by omega)
  rw [hoM_congr (V := W) (fun q h1 h2 => mg_hi (by omega))] at this
  exact this
theorem INV.N12 {V W : Nat → Nat → Int32} {N K R t : Nat} (H : INV V W N K R t) : N ≤ 12 := H.1.2.2.2.2.1
theorem INV.K4 {V W : Nat → Nat → Int32} {N K R t : Nat} (H : INV V W N K R t) : K ≤ 4 := H.1.2.2.2.2.2.1
theorem INV.R8 {V W : Nat → Nat → Int32} {N K R t : Nat} (H : INV V W N K R t) : R ≤ 8 := H.1.2.2.2.2.2.2
theorem EqW_t {W : Nat → Nat → Int32} {x : Int32} : EqW (jv_U W 123 0 x) W := ⟨fun c h => by rw [jv_Unj h], fun q h1 h2 => jv_U_other (by omega), fun c _ => by rw [jv_Une (by omega)]⟩
theorem EqW_t0 {W : Nat → Nat → Int32} : EqW (t0 W) W := EqW_t
theorem EqW_t1 {W : Nat → Nat → Int32} {c : Nat} : EqW (t1 W c) W := EqW.trans EqW_t EqW_t
theorem EqW_t2 {W : Nat → Nat → Int32} {c : Nat} : EqW (t2 W c) W := EqW_t
theorem EqV_fnd {V : Nat → Nat → Int32} {N f : Nat} : EqV (fndC V N f) V := fun q h1 h2 h3 => fndC_out (by omega)
theorem EqW_way {W : Nat → Nat → Int32} {N K f : Nat} : EqW (wayM W N K f) W := ⟨fun c _ => by rw [wayM_out (by omega)], fun q h1 h2 => wayM_out (by omega), fun c _ => by rw [wayM_out (by omega)]⟩
/-- only the working rows differ -/
theorem EqW_of {W' W : Nat → Nat → Int32} (h : ∀ q, 123 ≤ q → q ≤ 135 → W' q = W q) : EqW W' W := ⟨fun c _ => by rw [h _ (by omega) (by omega)], fun q h1 h2 => h q (by omega) (by omega), fun c _ => by rw [h _ (by omega) (by omega)]⟩
