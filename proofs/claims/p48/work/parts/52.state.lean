/-! ===== the class's state between calls; what agrees below place 123 goes on agreeing ===== -/
def Ag (V1 V : Nat → Nat → Int32) : Prop := ∀ q, q < 123 → V1 q = V q
theorem Ag.U {V1 V : Nat → Nat → Int32} {p i : Nat} {x : Int32} (h : Ag V1 V) : Ag (jv_U V1 p i x) (jv_U V p i x) := fun q hq => by
  by_cases e : q = p
  · subst e
    rw [jv_U_self, jv_U_self, h q hq]
  · rw [jv_U_other e, jv_U_other e, h q hq]
theorem Ag.br {V1 V : Nat → Nat → Int32} {r f : Nat} {p x : Int32} (h : Ag V1 V) (hr : r + 9 < 123) : Ag (brR V1 r f p x) (brR V r f p x) := by
  unfold brR
  rw [h (r + 1) (by omega), h 3 (by omega)]
  split
  · exact h.U.U.U.U
  · exact h
theorem Ag.de {V1 V : Nat → Nat → Int32} {r f : Nat} {x : Int32} (h : Ag V1 V) (hr : r + 9 < 123) : Ag (brD V1 r f x) (brD V r f x) := by
  unfold brD
  rw [h (r + 1) (by omega), h 3 (by omega)]
  split
  · exact h
  · exact h.U.U.U.U
theorem Ag.h1 {V1 V : Nat → Nat → Int32} {r f : Nat} {x : Int32} (h : Ag V1 V) (hr : r + 9 < 123) : Ag (h1R V1 r f x) (h1R V r f x) := by
  have e : ∀ Y : Nat → Nat → Int32, h1R Y r f x = if Y (r + 7) f = x then brR (jv_U Y (r + 7) f (-1)) r f (Y (r + 8) f) x else Y := fun Y => by
    unfold h1R
    rw [jv_Une (by omega)]
  rw [e, e, h (r + 7) (by omega), h (r + 8) (by omega)]
  split
  · exact h.U.br hr
  · exact h
theorem Ag.d1 {V1 V : Nat → Nat → Int32} {r f : Nat} {x : Int32} (h : Ag V1 V) (hr : r + 9 < 123) : Ag (h1D V1 r f x) (h1D V r f x) := by
  unfold h1D
  rw [h (r + 9) (by omega)]
  split
  · exact h.U.de hr
  · exact h
theorem Ag.hr {r : Nat} {x : Int32} (hr : r + 9 < 123) : ∀ m i V1 V, Ag V1 V → Ag (hrV r x m i V1) (hrV r x m i V) := by
  intro m
  induction m with
  | zero => intro i V1 V h; exact h
  | succ m ih => intro i V1 V h; exact ih (i + 1) _ _ ((h.h1 hr).d1 hr)
theorem Ag.tr {V1 V : Nat → Nat → Int32} {r f i : Nat} {p x : Int32} (h : Ag V1 V) (hr : r + 9 < 123) (hf : f < 12) : Ag (tr1 V1 r f i p x) (tr1 V r f i p x) := by
  unfold tr1
  rw [h (r + 7) (by omega), h (r + 8) (by omega), h (8 + f) (by omega)]
  split
  · exact h.U.U
  · exact h
theorem Ag.trL {r f : Nat} {p x : Int32} (hr : r + 9 < 123) (hf : f < 12) : ∀ m i V1 V, Ag V1 V → Ag (trL r f p x m i V1) (trL r f p x m i V) := by
  intro m
  induction m with
  | zero => intro i V1 V h; exact h
  | succ m ih => intro i V1 V h; exact ih (i + 1) _ _ (h.tr hr hf)
theorem Ag.tel {V1 V : Nat → Nat → Int32} {r N f : Nat} {x : Int32} (h : Ag V1 V) (hr : r + 9 < 123) (hf : f < 12) : Ag (telR V1 r N f x) (telR V r N f x) := by
  unfold telR
  rw [h (r + 4) (by omega), h r (by omega)]
  split
  · exact Ag.trL hr hf _ _ _ _ h
  · exact h
theorem Ag.td {V1 V : Nat → Nat → Int32} {r f i : Nat} {x : Int32} (h : Ag V1 V) (hr : r + 9 < 123) (hf : f < 12) : Ag (td1 V1 r f i x) (td1 V r f i x) := by
  unfold td1
  rw [h (r + 9) (by omega), h (8 + f) (by omega)]
  split
  · exact h.U
  · exact h
theorem Ag.tdL {r f : Nat} {x : Int32} (hr : r + 9 < 123) (hf : f < 12) : ∀ m i V1 V, Ag V1 V → Ag (tdL r f x m i V1) (tdL r f x m i V) := by
  intro m
  induction m with
  | zero => intro i V1 V h; exact h
  | succ m ih => intro i V1 V h; exact ih (i + 1) _ _ (h.td hr hf)
theorem Ag.te {V1 V : Nat → Nat → Int32} {r N f : Nat} {x : Int32} (h : Ag V1 V) (hr : r + 9 < 123) (hf : f < 12) : Ag (te1 V1 r N f x) (te1 V r N f x) := by
  have h2 : Ag (t1R V1 r N f x) (t1R V r N f x) := by
    unfold t1R
    rw [h (r + 5) (by omega)]
    split
    · exact h.U.tel hr hf
    · exact h
  unfold te1 t1D
  rw [h2 (r + 6) (by omega)]
  split
  · exact Ag.tdL hr hf _ _ _ _ h2.U
  · exact h2
theorem Ag.teL {r N : Nat} {x : Int32} (hr : r + 9 < 123) : ∀ m i V1 V, i + m ≤ 12 → Ag V1 V → Ag (teL r N x m i V1) (teL r N x m i V) := by
  intro m
  induction m with
  | zero => intro i V1 V _ h; exact h
  | succ m ih => intro i V1 V hi h; exact ih (i + 1) _ _ (by omega) (h.te hr (by omega))
theorem Ag.ph {V1 V : Nat → Nat → Int32} {r N : Nat} {x : Int32} (h : Ag V1 V) (hr : r + 9 < 123) (hN : N ≤ 12) : Ag (phV V1 r N x) (phV V r N x) := Ag.teL hr _ _ _ _ (by omega) (Ag.hr hr _ _ _ _ h)
theorem Ag.inL {N : Nat} {x : Int32} (hN : N ≤ 12) : ∀ m i V1 V, i + m ≤ 8 → Ag V1 V → Ag (inV N x m i V1) (inV N x m i V) := by
  intro m
  induction m with
  | zero => intro i V1 V _ h; exact h
  | succ m ih => intro i V1 V hi h; exact ih (i + 1) _ _ (by omega) (h.ph (by omega) hN)
theorem Ag.al {V1 V : Nat → Nat → Int32} {N R : Nat} (h : Ag V1 V) (hN : N ≤ 12) (hR : R ≤ 8) : Ag (alV N R V1) (alV N R V) := by
  unfold alV
  rw [h 0 (by omega)]
  exact (Ag.inL hN _ _ _ _ (by omega) h).U
theorem Ag.ou {N R : Nat} (hN : N ≤ 12) (hR : R ≤ 8) : ∀ m V1 V, Ag V1 V → Ag (ouV N R m V1) (ouV N R m V) := by
  intro m
  induction m with
  | zero => intro V1 V h; exact h
  | succ m ih => intro V1 V h; exact ih _ _ (h.al hN hR)
theorem Ag.st {V1 V : Nat → Nat → Int32} {r f : Nat} {y x : Int32} (h : Ag V1 V) (hr : r + 9 < 123) : Ag (staR V1 r f y x) (staR V r f y x) := by
  unfold staR
  refine Ag.br (fun q hq => ?_) hr
  funext c
  have := (h.U (p := r) (i := 0) (x := nI f)).U (p := r) (i := 1) (x := y) q hq
  unfold stI
  rw [this]
theorem Ag.eqv {V1 V : Nat → Nat → Int32} (h : Ag V1 V) : EqV V1 V := fun q hq _ _ => h q hq
/-- what the Java of the class's numbers keeps -/
theorem INV.ce {V W : Nat → Nat → Int32} {N K R t : Nat} (H : INV V W N K R t) : CE V N K t := by
  have hp := H.wp
  have hN := H.N12
  have hT := H.2.2.2.2.1
  refine ⟨H.2.1, fun a b ha hb => ⟨?_, ?_⟩, fun f hf => ?_, fun f hf => ?_⟩
  · rw [(hp.1 a b ha hb).1, ← pipes2 hT.1 hT.2.1 H.K4 hN a b ha hb]
    exact if_pos ⟨by omega, by omega, hb⟩
  · rw [(hp.1 a b ha hb).1]
    exact (hp.1 a b ha hb).2
  · obtain ⟨e, s, h1, h2⟩ := hp.2 f hf
    exact ⟨s, e.trans h1, h2⟩
  · obtain ⟨s, h1, h2, h3⟩ := hT.2.2.2.2.1 f (by omega)
    exact ⟨s, ((hT.st f (by omega)).1).trans h1, h2, h3⟩
def TS (V : Nat → Nat → Int32) (N K R t : Nat) : Prop := (∃ W, INV V W N K R t) ∧ ∀ j, j < R → RI V (43 + 10 * j) N t
theorem TS.ct {V : Nat → Nat → Int32} {N K R t : Nat} (H : TS V N K R t) : Ct V N K R := by obtain ⟨⟨W, h⟩, -⟩ := H; exact h.1
theorem TS.ce {V : Nat → Nat → Int32} {N K R t : Nat} (H : TS V N K R t) : CE V N K t := by obtain ⟨⟨W, h⟩, -⟩ := H; exact h.ce
theorem TS.h {V : Nat → Nat → Int32} {N K R t : Nat} (H : TS V N K R t) : V 0 5 = nI t := H.ce.1
theorem TS.N2 {V : Nat → Nat → Int32} {N K R t : Nat} (H : TS V N K R t) : 2 ≤ N := H.ct.2.2.2.1
theorem TS.N12 {V : Nat → Nat → Int32} {N K R t : Nat} (H : TS V N K R t) : N ≤ 12 := H.ct.2.2.2.2.1
theorem TS.K4 {V : Nat → Nat → Int32} {N K R t : Nat} (H : TS V N K R t) : K ≤ 4 := H.ct.2.2.2.2.2.1
theorem TS.R8 {V : Nat → Nat → Int32} {N K R t : Nat} (H : TS V N K R t) : R ≤ 8 := H.ct.2.2.2.2.2.2
theorem TS.op {V : Nat → Nat → Int32} {N K R t : Nat} (H : TS V N K R t) : ∀ f, f < 12 → V 5 f = 0 ∨ V 5 f = 1 := fun f hf => by
  obtain ⟨⟨W, h⟩, -⟩ := H
  have hT := h.2.2.2.2.1
  rw [(hT.st f hf).2]
  exact hT.2.2.2.2.2 f hf
theorem TS.rn {V : Nat → Nat → Int32} {N K R t : Nat} (H : TS V N K R t) : ∀ l, l < K → V (20 + 2 * l) 0 = 0 ∨ V (20 + 2 * l) 0 = 1 := fun l hl => by
  obtain ⟨⟨W, h⟩, -⟩ := H
  have hT := h.2.2.2.2.1
  rw [(hT.run h.K4 hl).1]
  exact (hT.run h.K4 hl).2
theorem TS.eq {V V' : Nat → Nat → Int32} {N K R t : Nat} (H : TS V N K R t) (h : EqV V' V) : TS V' N K R t := by
  have hR := H.R8
  obtain ⟨⟨W, h1⟩, h2⟩ := H
  exact ⟨⟨W, h1.to h (EqW.refl W)⟩, fun j hj => (h2 j hj).cg (fun o ho => h _ (by omega) (by omega) (by omega))⟩
theorem TS.new {V V' : Nat → Nat → Int32} {N K R K' t : Nat} (H : TS V N K R t) (hI : ∃ W, INV V' W N K' R t) (h : ∀ q, 43 ≤ q → q < 123 → V' q = V q) : TS V' N K' R t := by
  have hR := H.R8
  exact ⟨hI, fun j hj => (H.2 j hj).cg (fun o ho => h _ (by omega) (by omega))⟩
theorem TS.built {V : Nat → Nat → Int32} {N K R t m : Nat} (H : TS V N K R t) (hm2 : 2 ≤ m) (hm : m ≤ 12) : TS (jv_U (layV (rstV (jv_U (jv_U V 1 0 (nI m)) 1 1 (nI 0)) 12) m 0) 0 4 (nI 0)) m 0 0 t := by
  obtain ⟨⟨W, h⟩, -⟩ := H
  exact ⟨⟨_, INV.built h.2.1 h.2.2.2.1 hm2 hm⟩, fun j hj => absurd hj (Nat.not_lt_zero _)⟩
theorem layV_o {V : Nat → Nat → Int32} {N K q : Nat} (hN : N ≤ 12) (h : 20 ≤ q) : layV V N K q = V q := layV_out (Or.inr (by omega))
theorem TS.stay {V : Nat → Nat → Int32} {N K R t f a : Nat} (H : TS V N K R t) (ha : a ≤ 9) : TS (jv_U V 3 f (nI a)) N K R t := by
  have H' := H
  obtain ⟨⟨W, h⟩, -⟩ := H
  exact H'.new ⟨_, h.stay rfl ha⟩ (fun q _ _ => jv_U_other (by omega))
theorem TS.heads {V : Nat → Nat → Int32} {N K R t f a : Nat} (H : TS V N K R t) (ha : a ≤ 99) : TS (jv_U V 2 f (nI a)) N K R t := by
  have H' := H
  obtain ⟨⟨W, h⟩, -⟩ := H
  exact H'.new ⟨_, h.heads rfl ha⟩ (fun q _ _ => jv_U_other (by omega))
theorem TS.stairs {V : Nat → Nat → Int32} {N K R t f a : Nat} (H : TS V N K R t) (h1 : 1 ≤ a) (ha : a ≤ 9) : TS (layV (jv_U V 4 f (nI a)) N K) N K R t := by
  have H' := H
  obtain ⟨⟨W, h⟩, -⟩ := H
  exact H'.new ⟨_, h.stairs rfl h1 ha⟩ (fun q _ _ => by rw [layV_o H'.N12 (by omega), jv_U_other (by omega)])
theorem TS.turnS {V : Nat → Nat → Int32} {N K R t f : Nat} (H : TS V N K R t) (hf : f < N) : TS (layV (jv_U V 5 f (nb (V 5 f))) N K) N K R t := by
  have H' := H
  obtain ⟨⟨W, h⟩, -⟩ := H
  exact H'.new ⟨_, (h.turnS hf).2⟩ (fun q _ _ => by rw [layV_o H'.N12 (by omega), jv_U_other (by omega)])
theorem TS.turnL {V : Nat → Nat → Int32} {N K R t l : Nat} (H : TS V N K R t) (hl : l < K) : TS (layV (jv_U V (20 + 2 * l) 0 (nb (V (20 + 2 * l) 0))) N K) N K R t := by
  have H' := H
  have hK := H.K4
  obtain ⟨⟨W, h⟩, -⟩ := H
  exact H'.new ⟨_, (h.turnL hl).2⟩ (fun q _ _ => by rw [layV_o H'.N12 (by omega), jv_U_other (by omega)])
theorem TS.addL {V : Nat → Nat → Int32} {N K R t lo hi ev wt : Nat} (H : TS V N K R t) (hhi : hi < N) (hl : lo < hi) (he : 1 ≤ ev) (hev : ev ≤ hi - lo) (h1w : 1 ≤ wt) (h9w : wt ≤ 9) (hK3 : K < 4) : TS (layV (putV V K lo hi ev (nI wt)) N (K + 1)) N (K + 1) R t := by
  have H' := H
  obtain ⟨⟨W, h⟩, -⟩ := H
  exact H'.new ⟨_, h.addL hhi hl he hev rfl h1w h9w hK3⟩ (fun q _ _ => by rw [layV_o H'.N12 (by omega), putV_o (by omega) (by omega) (by omega)])
theorem RC.new {t y : Nat} {o : Prop} {s : Nat} {v : Nat → Int32} (hs : s ≤ 9) (hy : 1 ≤ y) (ht : t < 2 ^ 30) (h1 : v 1 = 0) (hm : ∀ i, 2 ≤ i → i ≤ 9 → v i = -1) : RC v t t t t t y t False ∧ RC (brv v (nI s) (nI 0) (nI t)) t t t t t y t True := by
  refine ⟨⟨Or.inl h1, fun _ => hm 2 (by omega) (by omega), fun c => absurd (h1.symm.trans c) z1, fun _ => hm 3 (by omega) (by omega), fun c => absurd (h1.symm.trans c) z2, Or.inl ⟨hm 2 (by omega) (by omega), hm 4 (by omega) (by omega)⟩, fun c => absurd c not_false, Or.inl (hm 7 (by omega) (by omega)), Or.inl (hm 9 (by omega) (by omega)), Or.inl (hm 5 (by omega) (by omega)), Or.inl (hm 6 (by omega) (by omega))⟩, ?_⟩
  unfold brv
  rw [if_pos h1]
  refine ⟨Or.inr (Or.inl rfl), fun c => absurd c nI01, fun _ => m1n (by omega), fun _ => hm 3 (by omega) (by omega), fun c => absurd c nI12, Or.inr ⟨t, 0, rfl, rfl, by omega, by omega, fun c => absurd trivial c, fun _ => ⟨rfl, rfl⟩⟩, fun _ => m1n (by omega), Or.inl (hm 7 (by omega) (by omega)), Or.inl (hm 9 (by omega) (by omega)), Or.inr ⟨rfl, t + s, ?_, by omega, by omega⟩, Or.inl (hm 6 (by omega) (by omega))⟩
  show nI t + nI s = _
  rw [nI_add]
theorem RC.iff {v : Nat → Int32} {T7 T9 T5 T6 t y t0 : Nat} {o o' : Prop} (H : RC v T7 T9 T5 T6 t y t0 o) (h : o ↔ o') : RC v T7 T9 T5 T6 t y t0 o' := by
  rw [← propext h]
  exact H
theorem TS.started {V : Nat → Nat → Int32} {N K R t f y : Nat} (H : TS V N K R t) (hf : f < N) (hy1 : 1 ≤ y) (hy : y ≤ 20) (hR : R < 8) (ht : t < 2 ^ 30) : TS (jv_U (staR V (43 + 10 * R) f (nI y) (V 0 5)) 0 4 (nI (R + 1))) N K (R + 1) t := by
  have hce := H.ce
  have hN := H.N12
  obtain ⟨⟨W, h⟩, hRI⟩ := H
  have hh := h.2.1
  refine ⟨⟨_, h.started hf (nI_le (by omega) (by omega)) hR⟩, fun j hj => ?_⟩
  by_cases e : j < R
  · exact (hRI j e).cg (fun o ho => by rw [jv_U_other (by omega), staR_o (by omega)])
  · have ej : j = R := by omega
    subst ej
    refine ⟨y, t, f, ?_, hf, ?_, hy1, hy, Nat.le_refl _, fun c hc => ?_⟩
    · rw [jv_U_other (by omega)]
      exact staR_r.1
    · rw [jv_U_other (by omega)]
      exact staR_r.2
    · have e1 : cl (jv_U (staR V (43 + 10 * j) f (nI y) (V 0 5)) 0 4 (nI (j + 1))) (43 + 10 * j) c = cl (staR V (43 + 10 * j) f (nI y) (V 0 5)) (43 + 10 * j) c := by
        funext o
        show jv_U _ 0 4 _ (43 + 10 * j + o) c = _
        rw [jv_Une (by omega)]
        rfl
      rw [e1]
      unfold staR
      rw [hh]
      have hv : ∀ i, 1 ≤ i → i ≤ 9 → cl (stI (jv_U (jv_U V (43 + 10 * j) 0 (nI f)) (43 + 10 * j) 1 (nI y)) (43 + 10 * j) 12) (43 + 10 * j) c i = if i = 1 then nI 0 else -1 := fun i a b => stI_at a b (by omega)
      obtain ⟨s, hs, hs9⟩ := hce.2.2.1 c hc
      have hnew := RC.new (t := t) (y := y) (o := True) (s := s) (v := cl (stI (jv_U (jv_U V (43 + 10 * j) 0 (nI f)) (43 + 10 * j) 1 (nI y)) (43 + 10 * j) 12) (43 + 10 * j) c) hs9 hy1 ht (by rw [hv 1 (by omega) (by omega), if_pos rfl]; exact nI_0) (fun i a b => by rw [hv i (by omega) b, if_neg (by omega)])
      by_cases ec : c = f
      · subst ec
        rw [cl_br]
        have e3 : stI (jv_U (jv_U V (43 + 10 * j) 0 (nI c)) (43 + 10 * j) 1 (nI y)) (43 + 10 * j) 12 3 c = nI s := by
          rw [stI_out (by unfold Rout; omega), jv_Une (by omega), jv_Une (by omega)]
          exact hs
        rw [e3]
        exact hnew.2.iff ⟨fun _ => rfl, fun _ => trivial⟩
      · rw [cl_brc ec]
        exact hnew.1.iff ⟨fun c => absurd c not_false, fun c => absurd c ec⟩
theorem TS.denied {V : Nat → Nat → Int32} {N K R t j f : Nat} (H : TS V N K R t) (hj : j < R) (hf : f < N) (ht : t < 2 ^ 30) : TS (brD V (43 + 10 * j) f (V 0 5)) N K R t := by
  have hce := H.ce
  have hR := H.R8
  obtain ⟨⟨W, h⟩, hRI⟩ := H
  have hh := h.2.1
  refine ⟨⟨_, (h.denied hj hf).1⟩, fun i hi => ?_⟩
  by_cases e : i = j
  · subst e
    obtain ⟨y, t0, f0, h0, h1, h2, h3, h4, h5, h6⟩ := hRI i hi
    have er : brD V (43 + 10 * i) f (V 0 5) (43 + 10 * i) = V (43 + 10 * i) := brD_out (Or.inl (by omega))
    refine ⟨y, t0, f0, by rw [er]; exact h0, h1, by rw [er]; exact h2, h3, h4, h5, fun c hc => ?_⟩
    by_cases ec : c = f
    · subst ec
      rw [cl_de, hh]
      obtain ⟨s, hs, hs9⟩ := hce.2.2.1 c hc
      rw [hs]
      exact (h6 c hc).de hs9 ht
    · rw [cl_dec ec]
      exact h6 c hc
  · exact (hRI i hi).cg (fun o ho => brD_out (by unfold Rout; omega))
theorem TS.passed {V : Nat → Nat → Int32} {N K R t m : Nat} (H : TS V N K R t) (ht : t + m ≤ 2 ^ 30) : TS (ouV N R m V) N K R (t + m) := by
  have hce := H.ce
  have hN := H.N12
  have hK := H.K4
  have hR := H.R8
  obtain ⟨⟨W, h⟩, hRI⟩ := H
  exact ⟨⟨_, (h.pass ht).1⟩, (hours_all hN hK hR m t V ht hRI hce).1⟩
/-- the heap says what the class says, when the class has done the same -/
theorem REP.cls {tg pl : Nat → Nat} {n : Nat} {sh : Nat → jv_S} {V1 V2 C : Nat → Nat → Int32} {N K R : Nat} (H : REP tg pl n sh V1 C N K R) (hV : ∀ q, 123 ≤ q → V2 q = V1 q) (h0 : V2 0 5 = C 0 5) (hC : ∀ q, (2 ≤ q ∧ q ≤ 5) ∨ (20 ≤ q ∧ q < 28) ∨ (43 ≤ q ∧ q < 123) → V2 q = C q) : REP tg pl n sh V2 V2 N K R :=
  (H.grow (Nat.le_refl _) (fun q h1 _ => ⟨rfl, hV q h1⟩)).toC h0 hC
/-- what all have heard, both ways -/
theorem rea_hc {C : Nat → Nat → Int32} {r N t : Nat} (H : RI C r N t) (ht : t < 2 ^ 30) : ∀ m i a, i + m ≤ N → reaL (C (r + 2)) m i a = hcL C r m i a := by
  intro m
  induction m with
  | zero => intro i a _; rfl
  | succ m ih =>
    intro i a hi
    show reaL (C (r + 2)) m (i + 1) _ = hcL C r m (i + 1) _
    rw [ih _ _ (by omega)]
    have e : (if C (r + 2) i < 0 then a else a + 1) = (if C (r + 2) i = -1 then a else a + 1) := by
      obtain ⟨y, t0, f0, h0, h1, h2, h3, h4, h5, h6⟩ := H
      rcases (h6 i (by omega)).2.2.2.2.2.1 with ⟨c, -⟩ | ⟨b, p, c, -, d, -⟩
      · have c' : C (r + 2) i = -1 := c
        rw [c', if_pos (by decide +kernel), if_pos rfl]
      · have c' : C (r + 2) i = nI b := c
        rw [c', if_neg (nI_pos (by omega)), if_neg (m1n (by omega))]
    rw [e]
theorem hea_W {C W : Nat → Nat → Int32} {N K R t : Nat} (I : INV C W N K R t) (H : ∀ j, j < R → RI C (43 + 10 * j) N t) (ht : t < 2 ^ 30) : ∀ m j (a : Nat), j + m ≤ R → heaL C N m j (nI a) = nI (haA W N m j a) := by
  have hN := I.N12
  intro m
  induction m with
  | zero => intro j a _; rfl
  | succ m ih =>
    intro j a hj
    show heaL C N m (j + 1) (nI a + nI (reaL (C (43 + 10 * j + 2)) N 0 0)) = _
    rw [nI_add, ih _ _ (by omega), rea_hc (H j (by omega)) ht N 0 0 (by omega), (I.sim (by omega)).hc N 0 0 (by omega)]
    rfl
