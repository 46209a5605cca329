/-! ===== the law's tower by hand, laid over the class's numbers C: roles have places (pl), places have roles (tg) ===== -/
/-- a list of rows under way says what the rows r + 7, r + 8, r + 9 of C say -/
def WT (l : List WE) (C : Nat → Nat → Int32) (r N : Nat) : Prop := (∀ x ∈ l, ∃ f, f < N ∧ x.1 = nI f ∧ (x.2.2.1 = nI 0 ∨ x.2.2.1 = nI 1)) ∧ l.Pairwise (fun x y => ¬ (x.1 = y.1 ∧ x.2.2.1 = y.2.2.1)) ∧ (∀ f, f < N → ∀ h m, (nI f, h, nI 0, m) ∈ l ↔ C (r + 7) f = h ∧ ¬ h = -1 ∧ C (r + 8) f = m) ∧ ∀ f, f < N → ∀ h m, (nI f, h, nI 1, m) ∈ l ↔ C (r + 9) f = h ∧ ¬ h = -1 ∧ m = nI 0
def used (K R ρ : Nat) : Prop := (2 ≤ ρ ∧ ρ ≤ 5) ∨ ρ = 7 ∨ ρ = 8 ∨ (10 ≤ ρ ∧ ρ < 10 + K) ∨ (20 ≤ ρ ∧ ρ < 20 + 10 * R ∧ ρ % 10 ≤ 7)
def tlen (N i : Nat) : Nat := if i < 4 then N else N - 1
def LF (v : Nat → Int32) (C : Nat → Nat → Int32) (N k : Nat) : Prop := ∃ lo hi ev wt, v 0 = nI lo ∧ v 1 = nI hi ∧ v 2 = nI ev ∧ v 3 = nI wt ∧ lo < hi ∧ hi < N ∧ 1 ≤ ev ∧ ev ≤ hi - lo ∧ 1 ≤ wt ∧ wt ≤ 9 ∧ (v 4 = 0 ∨ v 4 = 1) ∧ C (20 + 2 * k) 0 = v 4 ∧ C (20 + 2 * k) 1 = nI wt ∧ ∀ c, c < 12 → C (20 + 2 * k + 1) c = stp lo hi ev c
/-- what stands at the place of a role -/
def RQ (tg pl : Nat → Nat) (n : Nat) (sh : Nat → jv_S) (V C : Nat → Nat → Int32) (N K R ρ : Nat) : Prop :=
  (2 ≤ ρ → ρ ≤ 5 → (sh (pl ρ)).1 = (if ρ = 5 then 11 else 10) ∧ (sh (pl ρ)).2.1 = tlen N ρ ∧ ∀ f, f < tlen N ρ → V (pl ρ) f = C ρ f) ∧
  (ρ = 7 → (sh (pl ρ)).1 = 15 ∧ (sh (pl ρ)).2.1 = K ∧ ∀ k, k < K → (sh (pl ρ)).2.2 k = some (pl (10 + k))) ∧
  (ρ = 8 → (sh (pl ρ)).1 = 12 ∧ (sh (pl ρ)).2.1 = R ∧ ∀ j, j < R → (sh (pl ρ)).2.2 j = some (pl (20 + 10 * j))) ∧
  (∀ k, k < K → ρ = 10 + k → (sh (pl ρ)).1 = 10 ∧ (sh (pl ρ)).2.1 = 5 ∧ LF (V (pl ρ)) C N k) ∧
  (∀ j, j < R → ρ = 20 + 10 * j → (sh (pl ρ)).1 = 6 ∧ V (pl ρ) 0 = C (43 + 10 * j) 0 ∧ V (pl ρ) 1 = C (43 + 10 * j) 1 ∧ ∀ o, 1 ≤ o → o ≤ 7 → (sh (pl ρ)).2.2 (o + 1) = some (pl (ρ + o))) ∧
  (∀ j o, j < R → 1 ≤ o → o ≤ 6 → ρ = 20 + 10 * j + o → (sh (pl ρ)).1 = 10 ∧ (sh (pl ρ)).2.1 = N ∧ ∀ f, f < N → V (pl ρ) f = C (43 + 10 * j + o) f) ∧
  (∀ j, j < R → ρ = 20 + 10 * j + 7 → ∃ l, WL (fun e => tg e = 1) n sh V (pl ρ) l ∧ WT l C (43 + 10 * j) N)
/-- the object itself -/
def RS (pl : Nat → Nat) (sh : Nat → jv_S) (V C : Nat → Nat → Int32) : Prop := (sh 123).1 = 7 ∧ (∀ i, 2 ≤ i → i ≤ 5 → (sh 123).2.2 (i - 1) = some (pl i)) ∧ (sh 123).2.2 5 = some (pl 7) ∧ (sh 123).2.2 6 = some (pl 8) ∧ V 123 0 = C 0 5
def REP (tg pl : Nat → Nat) (n : Nat) (sh : Nat → jv_S) (V C : Nat → Nat → Int32) (N K R : Nat) : Prop :=
  (2 ≤ N ∧ N ≤ 12 ∧ K ≤ 4 ∧ R ≤ 8 ∧ 124 ≤ n ∧ ∀ e, tg e = 1 → 124 ≤ e) ∧ (∀ ρ, used K R ρ → tg (pl ρ) = ρ ∧ 124 ≤ pl ρ ∧ pl ρ < n) ∧ RS pl sh V C ∧ ∀ ρ, used K R ρ → RQ tg pl n sh V C N K R ρ
/-- the rows of C that a role speaks of -/
def rowOf (ρ q : Nat) : Prop := (2 ≤ ρ ∧ ρ ≤ 5 ∧ q = ρ) ∨ (10 ≤ ρ ∧ ρ < 14 ∧ (q = 20 + 2 * (ρ - 10) ∨ q = 20 + 2 * (ρ - 10) + 1)) ∨ (20 ≤ ρ ∧ ρ % 10 ≤ 6 ∧ q = ρ + 23) ∨ (20 ≤ ρ ∧ ρ % 10 = 7 ∧ ρ + 23 ≤ q ∧ q ≤ ρ + 25)
def child (ρ ρ' : Nat) : Prop := (ρ = 7 ∧ 10 ≤ ρ' ∧ ρ' < 14) ∨ (ρ = 8 ∧ 20 ≤ ρ' ∧ ρ' % 10 = 0) ∨ (20 ≤ ρ ∧ ρ % 10 = 0 ∧ ρ < ρ' ∧ ρ' ≤ ρ + 7)
theorem LF.to {v v1 : Nat → Int32} {C C1 : Nat → Nat → Int32} {N k : Nat} (h : LF v C N k) (hv : v1 = v) (h0 : C1 (20 + 2 * k) = C (20 + 2 * k)) (h1 : C1 (20 + 2 * k + 1) = C (20 + 2 * k + 1)) : LF v1 C1 N k := by
  unfold LF
  rw [hv, h0, h1]
  exact h
theorem WT.to {l : List WE} {C C1 : Nat → Nat → Int32} {r N : Nat} (h : WT l C r N) (hc : ∀ o, 7 ≤ o → o ≤ 9 → ∀ f, f < N → C1 (r + o) f = C (r + o) f) : WT l C1 r N := by
  obtain ⟨a, b, c, d⟩ := h
  exact ⟨a, b, fun f hf h m => by rw [hc 7 (by omega) (by omega) f hf, hc 8 (by omega) (by omega) f hf]; exact c f hf h m, fun f hf h m => by rw [hc 9 (by omega) (by omega) f hf]; exact d f hf h m⟩
theorem RQ.to {tg tg1 pl pl1 : Nat → Nat} {n n1 : Nat} {sh sh1 : Nat → jv_S} {V V1 C C1 : Nat → Nat → Int32} {N K R ρ : Nat} (h : RQ tg pl n sh V C N K R ρ) (hK : K ≤ 4) (hp : pl1 ρ = pl ρ) (hq : sh1 (pl ρ) = sh (pl ρ)) (hv : V1 (pl ρ) = V (pl ρ)) (hch : ∀ ρ', child ρ ρ' → pl1 ρ' = pl ρ')
    (htg : ∀ e, e < n → tg e = 1 → tg1 e = 1) (hent : ∀ e, e < n → tg e = 1 → (sh e).1 = 10 → sh1 e = sh e ∧ V1 e = V e) (hn : n ≤ n1) (hC : ∀ q, rowOf ρ q → C1 q = C q) : RQ tg1 pl1 n1 sh1 V1 C1 N K R ρ := by
  obtain ⟨a1, a2, a3, a4, a5, a6, a7⟩ := h
  unfold RQ
  rw [hp, hq, hv]
  refine ⟨fun h1 h2 => ?_, fun h1 => ?_, fun h1 => ?_, fun k hk h1 => ?_, fun j hj h1 => ?_, fun j o hj h1 h2 h3 => ?_, fun j hj h1 => ?_⟩
  · obtain ⟨b1, b2, b3⟩ := a1 h1 h2
    refine ⟨b1, b2, fun f hf => ?_⟩
    rw [hC ρ (Or.inl ⟨h1, h2, rfl⟩)]
    exact b3 f hf
  · obtain ⟨b1, b2, b3⟩ := a2 h1
    exact ⟨b1, b2, fun k hk => by rw [b3 k hk, hch _ (Or.inl ⟨h1, by omega, by omega⟩)]⟩
  · obtain ⟨b1, b2, b3⟩ := a3 h1
    exact ⟨b1, b2, fun j hj => by rw [b3 j hj, hch _ (Or.inr (Or.inl ⟨h1, by omega, by omega⟩))]⟩
  · obtain ⟨b1, b2, b3⟩ := a4 k hk h1
    exact ⟨b1, b2, b3.to rfl (hC _ (Or.inr (Or.inl ⟨by omega, by omega, by omega⟩))) (hC _ (Or.inr (Or.inl ⟨by omega, by omega, by omega⟩)))⟩
  · obtain ⟨b1, b2, b3, b4⟩ := a5 j hj h1
    have e := hC (43 + 10 * j) (Or.inr (Or.inr (Or.inl ⟨by omega, by omega, by omega⟩)))
    exact ⟨b1, by rw [e]; exact b2, by rw [e]; exact b3, fun o h5 h6 => by rw [b4 o h5 h6, hch _ (Or.inr (Or.inr ⟨by omega, by omega, by omega, by omega⟩))]⟩
  · obtain ⟨b1, b2, b3⟩ := a6 j o hj h1 h2 h3
    refine ⟨b1, b2, fun f hf => ?_⟩
    rw [hC (43 + 10 * j + o) (Or.inr (Or.inr (Or.inl ⟨by omega, by omega, by omega⟩)))]
    exact b3 f hf
  · obtain ⟨l, b1, b2⟩ := a7 j hj h1
    refine ⟨l, ⟨by rw [hq]; exact b1.1, by rw [hq]; exact b1.2.1, by have := b1.2.2.1; omega, ?_⟩, b2.to (fun o h1 h2 f _ => by rw [hC _ (Or.inr (Or.inr (Or.inr ⟨by omega, by omega, by omega, by omega⟩)))])⟩
    exact b1.rf.mono (fun k _ => by rw [hq]) hn htg hent
/-! what the walker asks of it -/
section REPA
variable {tg pl : Nat → Nat} {n : Nat} {sh : Nat → jv_S} {V C : Nat → Nat → Int32} {N K R : Nat}
theorem used.t {i : Nat} (h1 : 2 ≤ i) (h2 : i ≤ 5) : used K R i := Or.inl ⟨h1, h2⟩
theorem used.o {j o : Nat} (hj : j < R) (ho : o ≤ 7) : used K R (20 + 10 * j + o) := Or.inr (Or.inr (Or.inr (Or.inr ⟨by omega, by omega, by omega⟩)))
theorem used.l {k : Nat} (hk : k < K) : used K R (10 + k) := Or.inr (Or.inr (Or.inr (Or.inl ⟨by omega, by omega⟩)))
theorem used.la : used K R 7 := Or.inr (Or.inl rfl)
theorem used.ra : used K R 8 := Or.inr (Or.inr (Or.inl rfl))
theorem used.ge {ρ : Nat} (h : used K R ρ) : 2 ≤ ρ := by unfold used at h; omega
theorem REP.N2 (H : REP tg pl n sh V C N K R) : 2 ≤ N := H.1.1
theorem REP.N12 (H : REP tg pl n sh V C N K R) : N ≤ 12 := H.1.2.1
theorem REP.K4 (H : REP tg pl n sh V C N K R) : K ≤ 4 := H.1.2.2.1
theorem REP.R8 (H : REP tg pl n sh V C N K R) : R ≤ 8 := H.1.2.2.2.1
theorem REP.n124 (H : REP tg pl n sh V C N K R) : 124 ≤ n := H.1.2.2.2.2.1
theorem REP.e124 (H : REP tg pl n sh V C N K R) {e : Nat} (h : tg e = 1) : 124 ≤ e := H.1.2.2.2.2.2 e h
theorem REP.s (H : REP tg pl n sh V C N K R) : (sh 123).1 = 7 := H.2.2.1.1
theorem REP.s1 (H : REP tg pl n sh V C N K R) : (sh 123).2.2 1 = some (pl 2) := H.2.2.1.2.1 2 (by decide) (by decide)
theorem REP.s2 (H : REP tg pl n sh V C N K R) : (sh 123).2.2 2 = some (pl 3) := H.2.2.1.2.1 3 (by decide) (by decide)
theorem REP.s3 (H : REP tg pl n sh V C N K R) : (sh 123).2.2 3 = some (pl 4) := H.2.2.1.2.1 4 (by decide) (by decide)
theorem REP.s4 (H : REP tg pl n sh V C N K R) : (sh 123).2.2 4 = some (pl 5) := H.2.2.1.2.1 5 (by decide) (by decide)
theorem REP.s5 (H : REP tg pl n sh V C N K R) : (sh 123).2.2 5 = some (pl 7) := H.2.2.1.2.2.1
theorem REP.s6 (H : REP tg pl n sh V C N K R) : (sh 123).2.2 6 = some (pl 8) := H.2.2.1.2.2.2.1
theorem REP.hr (H : REP tg pl n sh V C N K R) : V 123 0 = C 0 5 := H.2.2.1.2.2.2.2
theorem REP.q2 (H : REP tg pl n sh V C N K R) : (sh (pl 2)).1 = 10 ∧ (sh (pl 2)).2.1 = N ∧ ∀ f, f < N → V (pl 2) f = C 2 f := (H.2.2.2 2 (used.t (by decide) (by decide))).1 (by decide) (by decide)
theorem REP.q3 (H : REP tg pl n sh V C N K R) : (sh (pl 3)).1 = 10 ∧ (sh (pl 3)).2.1 = N ∧ ∀ f, f < N → V (pl 3) f = C 3 f := (H.2.2.2 3 (used.t (by decide) (by decide))).1 (by decide) (by decide)
theorem REP.q4 (H : REP tg pl n sh V C N K R) : (sh (pl 4)).1 = 10 ∧ (sh (pl 4)).2.1 = N - 1 ∧ ∀ f, f < N - 1 → V (pl 4) f = C 4 f := (H.2.2.2 4 (used.t (by decide) (by decide))).1 (by decide) (by decide)
theorem REP.q5 (H : REP tg pl n sh V C N K R) : (sh (pl 5)).1 = 11 ∧ (sh (pl 5)).2.1 = N - 1 ∧ ∀ f, f < N - 1 → V (pl 5) f = C 5 f := (H.2.2.2 5 (used.t (by decide) (by decide))).1 (by decide) (by decide)
theorem REP.q7 (H : REP tg pl n sh V C N K R) : (sh (pl 7)).1 = 15 ∧ (sh (pl 7)).2.1 = K ∧ ∀ k, k < K → (sh (pl 7)).2.2 k = some (pl (10 + k)) := (H.2.2.2 7 used.la).2.1 rfl
theorem REP.q8 (H : REP tg pl n sh V C N K R) : (sh (pl 8)).1 = 12 ∧ (sh (pl 8)).2.1 = R ∧ ∀ j, j < R → (sh (pl 8)).2.2 j = some (pl (20 + 10 * j)) := (H.2.2.2 8 used.ra).2.2.1 rfl
theorem REP.lf (H : REP tg pl n sh V C N K R) {k : Nat} (hk : k < K) : (sh (pl (10 + k))).1 = 10 ∧ (sh (pl (10 + k))).2.1 = 5 ∧ LF (V (pl (10 + k))) C N k := (H.2.2.2 _ (used.l hk)).2.2.2.1 k hk rfl
theorem REP.ob (H : REP tg pl n sh V C N K R) {j : Nat} (hj : j < R) : (sh (pl (20 + 10 * j))).1 = 6 ∧ V (pl (20 + 10 * j)) 0 = C (43 + 10 * j) 0 ∧ V (pl (20 + 10 * j)) 1 = C (43 + 10 * j) 1 ∧ ∀ o, 1 ≤ o → o ≤ 7 → (sh (pl (20 + 10 * j))).2.2 (o + 1) = some (pl (20 + 10 * j + o)) := (H.2.2.2 (20 + 10 * j) (used.o (o := 0) hj (by decide))).2.2.2.2.1 j hj rfl
theorem REP.rw (H : REP tg pl n sh V C N K R) {j : Nat} (hj : j < R) (o : Nat) (h1 : 1 ≤ o) (h6 : o ≤ 6) : (sh (pl (20 + 10 * j + o))).1 = 10 ∧ (sh (pl (20 + 10 * j + o))).2.1 = N ∧ ∀ f, f < N → V (pl (20 + 10 * j + o)) f = C (43 + 10 * j + o) f := (H.2.2.2 _ (used.o hj (by omega))).2.2.2.2.2.1 j o hj h1 h6 rfl
theorem REP.wy (H : REP tg pl n sh V C N K R) {j : Nat} (hj : j < R) : ∃ l, WL (fun e => tg e = 1) n sh V (pl (20 + 10 * j + 7)) l ∧ WT l C (43 + 10 * j) N := (H.2.2.2 _ (used.o hj (by omega))).2.2.2.2.2.2 j hj rfl
theorem REP.lt (H : REP tg pl n sh V C N K R) {ρ : Nat} (h : used K R ρ) : pl ρ < n := (H.2.1 ρ h).2.2
theorem REP.ge (H : REP tg pl n sh V C N K R) {ρ : Nat} (h : used K R ρ) : 124 ≤ pl ρ := (H.2.1 ρ h).2.1
theorem REP.ne (H : REP tg pl n sh V C N K R) {ρ ρ' : Nat} (h : used K R ρ) (h' : used K R ρ') (hne : ρ ≠ ρ') : pl ρ ≠ pl ρ' := fun e => hne (by rw [← (H.2.1 ρ h).1, ← (H.2.1 ρ' h').1, e])
theorem REP.nee (H : REP tg pl n sh V C N K R) {ρ e : Nat} (h : used K R ρ) (he : tg e = 1) : e ≠ pl ρ := fun c => by
  have h1 := (H.2.1 ρ h).1
  rw [← c, he] at h1
  have := h.ge
  omega
/-- C may change where nobody looks -/
theorem REP.toC {C1 : Nat → Nat → Int32} (H : REP tg pl n sh V C N K R) (h0 : C1 0 5 = C 0 5) (hC : ∀ q, (2 ≤ q ∧ q ≤ 5) ∨ (20 ≤ q ∧ q < 28) ∨ (43 ≤ q ∧ q < 123) → C1 q = C q) : REP tg pl n sh V C1 N K R := by
  refine ⟨H.1, H.2.1, ⟨H.s, H.2.2.1.2.1, H.s5, H.s6, by rw [h0]; exact H.hr⟩, fun ρ hu => (H.2.2.2 ρ hu).to H.K4 rfl rfl rfl (fun _ _ => rfl) (fun _ _ h => h) (fun _ _ _ _ => ⟨rfl, rfl⟩) (Nat.le_refl _) (fun q hq => hC q ?_)⟩
  have := H.K4
  have := H.R8
  unfold rowOf at hq
  unfold used at hu
  omega
/-- the heap may grow, and the class's own places may change -/
theorem REP.grow {n1 : Nat} {sh1 : Nat → jv_S} {V1 : Nat → Nat → Int32} (H : REP tg pl n sh V C N K R) (hn : n ≤ n1) (h : ∀ q, 123 ≤ q → q < n → sh1 q = sh q ∧ V1 q = V q) : REP tg pl n1 sh1 V1 C N K R := by
  have h123 := h 123 (by omega) (by have := H.n124; omega)
  refine ⟨⟨H.1.1, H.1.2.1, H.1.2.2.1, H.1.2.2.2.1, by have := H.n124; omega, H.1.2.2.2.2.2⟩, fun ρ hu => ⟨(H.2.1 ρ hu).1, (H.2.1 ρ hu).2.1, by have := H.lt hu; omega⟩, ?_, fun ρ hu => ?_⟩
  · unfold RS
    rw [h123.1, h123.2]
    exact H.2.2.1
  · have hp := h (pl ρ) (by have := H.ge hu; omega) (H.lt hu)
    exact (H.2.2.2 ρ hu).to H.K4 rfl hp.1 hp.2 (fun _ _ => rfl) (fun _ _ h => h) (fun e he h1 _ => h e (by have := H.e124 h1; omega) he) hn (fun _ _ => rfl)
/-- one number at the place of a role, with its row of C -/
theorem REP.upd {ρ f : Nat} {x : Int32} {C1 : Nat → Nat → Int32} (H : REP tg pl n sh V C N K R) (hu : used K R ρ) (h0 : C1 0 5 = C 0 5) (hC : ∀ q ρ', used K R ρ' → ρ' ≠ ρ → rowOf ρ' q → C1 q = C q) (hnew : RQ tg pl n sh (jv_U V (pl ρ) f x) C1 N K R ρ) : REP tg pl n sh (jv_U V (pl ρ) f x) C1 N K R := by
  refine ⟨H.1, H.2.1, ⟨H.s, H.2.2.1.2.1, H.s5, H.s6, by rw [h0, jv_U_other (by have := H.ge hu; omega)]; exact H.hr⟩, fun ρ' hu' => ?_⟩
  by_cases e : ρ' = ρ
  · rw [e]; exact hnew
  · exact (H.2.2.2 ρ' hu').to H.K4 rfl rfl (jv_U_other (H.ne hu' hu e)) (fun _ _ => rfl) (fun _ _ h => h) (fun e he h1 _ => ⟨rfl, jv_U_other (H.nee hu h1)⟩) (Nat.le_refl _) (fun q hq => hC q ρ' hu' e hq)
/-- a row of a rumour -/
theorem REP.w {j o f : Nat} {x : Int32} (H : REP tg pl n sh V C N K R) (hj : j < R) (h1 : 1 ≤ o) (h6 : o ≤ 6) : REP tg pl n sh (jv_U V (pl (20 + 10 * j + o)) f x) (jv_U C (43 + 10 * j + o) f x) N K R := by
  have hu : used K R (20 + 10 * j + o) := used.o hj (by omega)
  refine H.upd hu (jv_Une (by omega)) (fun q ρ' hu' hne hq => jv_U_other (fun c => ?_)) ?_
  · unfold rowOf at hq
    unfold used at hu'
    have := H.K4
    omega
  · obtain ⟨b1, b2, b3⟩ := H.rw hj o h1 h6
    refine ⟨fun _ h => by omega, fun h => by omega, fun h => by omega, fun k hk h => by have := H.K4; omega, fun j' _ h => by omega, fun j' o' hj' h1' h6' h => ?_, fun j' _ h => by omega⟩
    have ej : j' = j := by omega
    have eo : o' = o := by omega
    subst ej
    subst eo
    refine ⟨b1, b2, fun g hg => ?_⟩
    rw [jv_U_self, jv_U_self]
    show (if g = f then x else _) = if g = f then x else _
    by_cases e : g = f
    · rw [if_pos e, if_pos e]
    · rw [if_neg e, if_neg e]; exact b3 g hg
end REPA
